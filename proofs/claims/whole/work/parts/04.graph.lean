/-! ===== the network as rows of bits; cores ===== -/
def gd (f : Nat → Int32) (N : Nat) : Prop := N ≤ 20 ∧ (∀ u v, u < N → bt (f u) v = true → v < N ∧ v ≠ u ∧ bt (f v) u = true) ∧ ∀ u, N ≤ u → u < 20 → f u = 0
/-- every node of x has at least k edges into x -/
def kst (f : Nat → Int32) (x : Int32) (k : Int) : Prop := ∀ u, bt x u = true → k ≤ (zpop (f u &&& x) : Int)
/-- c is the core number of v -/
def cno (f : Nat → Int32) (N v c : Nat) : Prop := (∃ x, zsub x N ∧ kst f x c ∧ bt x v = true) ∧ ∀ (k : Int) (x : Int32), zsub x N → kst f x k → bt x v = true → k ≤ c
def cst (c : Nat → Nat) (N : Nat) (k : Int) : Int32 := zmk (fun i => decide (k ≤ (c i : Int))) N
/-- r is what ways inside z lead to from s -/
def rch (f : Nat → Int32) (s z r : Int32) : Prop := zle r z ∧ (∀ i, bt s i = true → bt z i = true → bt r i = true) ∧ (∀ u, bt r u = true → ∀ w, bt (f u) w = true → bt z w = true → bt r w = true) ∧ ∀ T : Int32, (∀ i, bt s i = true → bt z i = true → bt T i = true) → (∀ u, bt T u = true → ∀ w, bt (f u) w = true → bt z w = true → bt T w = true) → zle r T
/-- r is the greatest part of z whose nodes have k edges each into it or to a -/
def spt (f : Nat → Int32) (z a : Int32) (k : Int) (r : Int32) : Prop := zle r z ∧ (∀ u, bt r u = true → k ≤ (zpop (f u &&& (r ||| a)) : Int)) ∧ ∀ T : Int32, zle T z → (∀ u, bt T u = true → k ≤ (zpop (f u &&& (T ||| a)) : Int)) → zle T r
theorem le_orl (x y : Int32) : zle x (x ||| y) := fun i h => by rw [b_or, h]; rfl
theorem le_orr (x y : Int32) : zle y (x ||| y) := fun i h => by rw [b_or, h]; cases bt x i <;> rfl
theorem or_le {x y z : Int32} (h : zle x z) (h2 : zle y z) : zle (x ||| y) z := fun i q => by
  rw [b_or, Bool.or_eq_true] at q
  rcases q with q | q
  · exact h i q
  · exact h2 i q
theorem b_ort {x y : Int32} {i : Nat} : bt (x ||| y) i = true ↔ bt x i = true ∨ bt y i = true := by rw [b_or, Bool.or_eq_true]
theorem b_andt {x y : Int32} {i : Nat} : bt (x &&& y) i = true ↔ bt x i = true ∧ bt y i = true := by rw [b_and, Bool.and_eq_true]
theorem b_dift {x y : Int32} {i : Nat} : bt (x &&& znt y) i = true ↔ bt x i = true ∧ ¬ bt y i = true := by rw [b_dif, Bool.and_eq_true]; cases bt y i <;> simp
theorem b_sgt {j i : Nat} (hj : j < 32) : bt (zsg j) i = true ↔ i = j := by rw [b_sg hj, decide_eq_true_iff]
theorem b_cst {c : Nat → Nat} {N : Nat} (hN : N ≤ 20) {k : Int} {i : Nat} : bt (cst c N k) i = true ↔ i < N ∧ k ≤ (c i : Int) := by
  unfold cst
  rw [b_mkt _ (by omega), decide_eq_true_iff]
theorem b_shell {c : Nat → Nat} {N : Nat} (hN : N ≤ 20) {r : Nat} {i : Nat} : bt (cst c N r &&& znt (cst c N ((r : Int) + 1))) i = true ↔ i < N ∧ c i = r := by
  rw [b_dift, b_cst hN, b_cst hN]
  constructor
  · rintro ⟨⟨h1, h2⟩, h3⟩
    refine ⟨h1, ?_⟩
    have : ¬ ((r : Int) + 1 ≤ (c i : Int)) := fun q => h3 ⟨h1, q⟩
    omega
  · rintro ⟨h1, h2⟩
    exact ⟨⟨h1, by omega⟩, fun q => by omega⟩
theorem cst_sub {c : Nat → Nat} {N : Nat} (hN : N ≤ 20) (k : Int) : zsub (cst c N k) N := fun i h => ((b_cst hN).mp h).1
theorem cst_mono {c : Nat → Nat} {N : Nat} (hN : N ≤ 20) {k k' : Int} (h : k ≤ k') : zle (cst c N k') (cst c N k) := fun i q => by
  rw [b_cst hN] at q ⊢
  exact ⟨q.1, by omega⟩
theorem cst_max {f : Nat → Int32} {N : Nat} {c : Nat → Nat} (hN : N ≤ 20) (hc : ∀ v, v < N → cno f N v (c v)) {k : Int} {x : Int32} (h1 : zsub x N) (h2 : kst f x k) : zle x (cst c N k) := fun i hi => (b_cst hN).mpr ⟨h1 i hi, (hc i (h1 i hi)).2 k x h1 h2 hi⟩
theorem cst_kst {f : Nat → Int32} {N : Nat} {c : Nat → Nat} (hN : N ≤ 20) (hc : ∀ v, v < N → cno f N v (c v)) (k : Int) : kst f (cst c N k) k := fun u hu => by
  obtain ⟨h1, h2⟩ := (b_cst hN).mp hu
  obtain ⟨x, hx, hk, hxu⟩ := (hc u h1).1
  have h3 : zle x (cst c N k) := le_tr (cst_max hN hc hx hk) (cst_mono hN h2)
  have h4 := pop_le (le_and (le_rf (f u)) h3)
  have h5 := hk u hxu
  omega
theorem cno_one {f : Nat → Int32} {N v c d : Nat} (h : cno f N v c) (h2 : cno f N v d) : c = d := by
  obtain ⟨⟨x, a1, a2, a3⟩, a4⟩ := h
  obtain ⟨⟨y, b1, b2, b3⟩, b4⟩ := h2
  have := a4 d y b1 b2 b3
  have := b4 c x a1 a2 a3
  omega
theorem rch_one {f : Nat → Int32} {s z r r2 : Int32} (h : rch f s z r) (h2 : rch f s z r2) : r = r2 := le_anti (h.2.2.2 r2 h2.2.1 h2.2.2.1) (h2.2.2.2 r h.2.1 h.2.2.1)
theorem spt_one {f : Nat → Int32} {z a : Int32} {k : Int} {r r2 : Int32} (h : spt f z a k r) (h2 : spt f z a k r2) : r = r2 := le_anti (h2.2.2 r h.1 h.2.1) (h.2.2 r2 h2.1 h2.2.1)
/-- hi is lo with the edge u v more -/
def edg (lo hi : Nat → Int32) (u v : Nat) : Prop := (∀ w, w ≠ u → w ≠ v → hi w = lo w) ∧ hi u = lo u ||| zsg v ∧ hi v = lo v ||| zsg u
theorem edg_le {lo hi : Nat → Int32} {u v : Nat} (h : edg lo hi u v) (w : Nat) : zle (lo w) (hi w) := by
  by_cases h1 : w = u
  · rw [h1, h.2.1]; exact le_orl _ _
  · by_cases h2 : w = v
    · rw [h2, h.2.2]; exact le_orl _ _
    · rw [h.1 w h1 h2]; exact le_rf _
theorem edg_same {lo hi : Nat → Int32} {u v : Nat} (h : edg lo hi u v) (hu : u < 32) (hv : v < 32) {x : Int32} {w : Nat} (hw : bt x w = true) (hx : ¬ (bt x u = true ∧ bt x v = true)) : zle (hi w &&& x) (lo w &&& x) := fun i q => by
  rw [b_andt] at q ⊢
  refine ⟨?_, q.2⟩
  by_cases h1 : w = u
  · subst h1
    rw [h.2.1, b_ort, b_sgt hv] at q
    rcases q.1 with q1 | q1
    · exact q1
    · exact absurd ⟨hw, q1 ▸ q.2⟩ hx
  · by_cases h2 : w = v
    · subst h2
      rw [h.2.2, b_ort, b_sgt hu] at q
      rcases q.1 with q1 | q1
      · exact q1
      · exact absurd ⟨q1 ▸ q.2, hw⟩ hx
    · rw [h.1 w h1 h2] at q; exact q.1
theorem pop_or1 {x : Int32} {j : Nat} (hj : j < 32) : zpop (x ||| zsg j) ≤ zpop x + 1 := by
  cases h : bt x j
  · rw [pop_or hj h]; exact Nat.le_refl _
  · have e : x ||| zsg j = x := set_ext fun i => by
      rw [b_ort, b_sgt hj]
      exact ⟨fun q => q.elim id (fun q => q ▸ h), Or.inl⟩
    rw [e]; omega
theorem edg_one {lo hi : Nat → Int32} {u v : Nat} (h : edg lo hi u v) (hu : u < 32) (hv : v < 32) (x : Int32) (w : Nat) : zpop (hi w &&& x) ≤ zpop (lo w &&& x) + 1 := by
  have key : ∀ j, j < 32 → hi w = lo w ||| zsg j → zpop (hi w &&& x) ≤ zpop (lo w &&& x) + 1 := fun j hj e => by
    refine Nat.le_trans (pop_le ?_) (pop_or1 (x := lo w &&& x) hj)
    intro i q
    rw [e, b_andt, b_ort] at q
    rw [b_ort, b_andt]
    rcases q.1 with q1 | q1
    · exact Or.inl ⟨q1, q.2⟩
    · exact Or.inr q1
  by_cases h1 : w = u
  · exact key v hv (by rw [h1]; exact h.2.1)
  · by_cases h2 : w = v
    · exact key u hu (by rw [h2]; exact h.2.2)
    · rw [h.1 w h1 h2]; omega
theorem kst_up {lo hi : Nat → Int32} {u v : Nat} (h : edg lo hi u v) {x : Int32} {k : Int} (hk : kst lo x k) : kst hi x k := fun z hz => by
  have := hk z hz
  have := pop_le (le_and (edg_le h z) (le_rf x))
  omega
theorem kst_dn {lo hi : Nat → Int32} {u v : Nat} (h : edg lo hi u v) (hu : u < 32) (hv : v < 32) {x : Int32} {k : Int} (hx : ¬ (bt x u = true ∧ bt x v = true)) (hk : kst hi x k) : kst lo x k := fun z hz => by
  have := hk z hz
  have := pop_le (edg_same h hu hv hz hx)
  omega
theorem kst_dn1 {lo hi : Nat → Int32} {u v : Nat} (h : edg lo hi u v) (hu : u < 32) (hv : v < 32) {x : Int32} {k : Int} (hk : kst hi x k) : kst lo x (k - 1) := fun z hz => by
  have := hk z hz
  have := edg_one h hu hv x z
  omega
theorem kst_le {f : Nat → Int32} {x : Int32} {k k' : Int} (h : kst f x k) (h2 : k' ≤ k) : kst f x k' := fun z hz => by
  have := h z hz
  omega
/-- A NEW EDGE: only nodes of the lower end's level near the edge change, by one -/
theorem raise {f f' : Nat → Int32} {N u v r : Nat} {c : Nat → Nat} {near sp : Int32} (hg' : gd f' N) (hu : u < N) (hv : v < N) (he : edg f f' u v)
    (hc : ∀ w, w < N → cno f N w (c w)) (hr : r = min (c u) (c v)) (hnear : rch f' (zsg u ||| zsg v) (cst c N r &&& znt (cst c N ((r : Int) + 1))) near) (hsp : spt f' near (cst c N ((r : Int) + 1)) ((r : Int) + 1) sp) :
    ∀ w, w < N → cno f' N w (c w + if bt sp w then 1 else 0) := by
  intro w hw
  have hN := hg'.1
  have hu32 : u < 32 := by omega
  have hv32 : v < 32 := by omega
  have hshell : ∀ i, bt near i = true → i < N ∧ c i = r := fun i hi => (b_shell hN).mp (hnear.1 i hi)
  have hspr : ∀ i, bt sp i = true → i < N ∧ c i = r := fun i hi => hshell i (hsp.1 i hi)
  constructor
  · by_cases hs : bt sp w = true
    · refine ⟨sp ||| cst c N ((r : Int) + 1), ?_, ?_, ?_⟩
      · intro i hi
        rcases b_ort.mp hi with q | q
        · exact (hspr i q).1
        · exact cst_sub hN _ i q
      · intro z hz
        have hcw := (hspr w hs).2
        rw [if_pos hs, hcw]
        rcases b_ort.mp hz with q | q
        · have := hsp.2.1 z q
          omega
        · have h1 := cst_kst hN hc ((r : Int) + 1) z q
          have h2 := pop_le (le_and (edg_le he z) (le_orr sp (cst c N ((r : Int) + 1))))
          omega
      · exact b_ort.mpr (Or.inl hs)
    · obtain ⟨x, hx, hk, hxw⟩ := (hc w hw).1
      rw [if_neg hs]
      exact ⟨x, hx, kst_up he hk, hxw⟩
  · intro k x hx hk hxw
    have low : ∀ (k : Int), k ≤ r → kst f' x k → zle x (cst c N k) := by
      intro k hkr hk
      refine le_tr (le_orl x (cst c N k)) (cst_max hN hc (k := k) (x := x ||| cst c N k) ?_ ?_)
      · intro i hi
        rcases b_ort.mp hi with q | q
        · exact hx i q
        · exact cst_sub hN _ i q
      · intro z hz
        by_cases hzc : bt (cst c N k) z = true
        · have h1 := cst_kst hN hc k z hzc
          have h2 := pop_le (le_and (le_rf (f z)) (le_orr x (cst c N k)))
          omega
        · have hzx : bt x z = true := (b_ort.mp hz).resolve_right hzc
          have hzu : z ≠ u := fun q => hzc (by rw [q, b_cst hN]; exact ⟨hu, by omega⟩)
          have hzv : z ≠ v := fun q => hzc (by rw [q, b_cst hN]; exact ⟨hv, by omega⟩)
          have h1 := hk z hzx
          rw [he.1 z hzu hzv] at h1
          have h2 := pop_le (le_and (le_rf (f z)) (le_orl x (cst c N k)))
          omega
    have base : k ≤ (c w : Int) ∨ (k = (r : Int) + 1 ∧ bt sp w = true) := by
      by_cases hkr : k ≤ r
      · exact Or.inl ((b_cst hN).mp (low k hkr hk w hxw)).2
      · by_cases hb : bt x u = true ∧ bt x v = true
        · have h1 := (hc u hu).2 (k - 1) x hx (kst_dn1 he hu32 hv32 hk) hb.1
          have h2 := (hc v hv).2 (k - 1) x hx (kst_dn1 he hu32 hv32 hk) hb.2
          have hk1 : k = (r : Int) + 1 := by omega
          subst hk1
          by_cases hA : bt (cst c N ((r : Int) + 1)) w = true
          · exact Or.inl ((b_cst hN).mp hA).2
          · refine Or.inr ⟨rfl, ?_⟩
            have hxr : zle x (cst c N r) := low r (Int.le_refl _) (kst_le hk (by omega))
            have hsh : ∀ i, bt x i = true → ¬ bt (cst c N ((r : Int) + 1)) i = true → bt (cst c N r &&& znt (cst c N ((r : Int) + 1))) i = true := fun i h1 h2 => b_dift.mpr ⟨hxr i h1, h2⟩
            -- what lies neither above nor near is stable without the edge
            have hY : zle (cst c N ((r : Int) + 1) ||| (x &&& znt near)) (cst c N ((r : Int) + 1)) := by
              refine cst_max hN hc ?_ ?_
              · intro i hi
                rcases b_ort.mp hi with q | q
                · exact cst_sub hN _ i q
                · exact hx i (b_dift.mp q).1
              · intro z hz
                by_cases hzA : bt (cst c N ((r : Int) + 1)) z = true
                · have h3 := cst_kst hN hc ((r : Int) + 1) z hzA
                  have h4 := pop_le (le_and (le_rf (f z)) (le_orl (cst c N ((r : Int) + 1)) (x &&& znt near)))
                  omega
                · obtain ⟨hzx, hzn⟩ := b_dift.mp ((b_ort.mp hz).resolve_left hzA)
                  have hzs := hsh z hzx hzA
                  have hzu : z ≠ u := fun q => hzn (hnear.2.1 z (b_ort.mpr (Or.inl ((b_sgt hu32).mpr q))) hzs)
                  have hzv : z ≠ v := fun q => hzn (hnear.2.1 z (b_ort.mpr (Or.inr ((b_sgt hv32).mpr q))) hzs)
                  have h3 := hk z hzx
                  have h4 : zle (f' z &&& x) (f z &&& (cst c N ((r : Int) + 1) ||| (x &&& znt near))) := by
                    intro i hi
                    obtain ⟨h5, h6⟩ := b_andt.mp hi
                    refine b_andt.mpr ⟨by rw [he.1 z hzu hzv] at h5; exact h5, ?_⟩
                    by_cases hiA : bt (cst c N ((r : Int) + 1)) i = true
                    · exact b_ort.mpr (Or.inl hiA)
                    · refine b_ort.mpr (Or.inr (b_dift.mpr ⟨h6, fun hin => hzn ?_⟩))
                      have hs := hg'.2.1 z i (hx z hzx) h5
                      exact hnear.2.2.1 i hin z hs.2.2 hzs
                  have h5 := pop_le h4
                  omega
            have hT : ∀ i, bt x i = true → ¬ bt (cst c N ((r : Int) + 1)) i = true → bt near i = true := fun i h1 h2 => by
              cases hin : bt near i
              · exact absurd (hY i (b_ort.mpr (Or.inr (b_dift.mpr ⟨h1, by rw [hin]; exact Bool.false_ne_true⟩)))) h2
              · rfl
            refine hsp.2.2 (x &&& znt (cst c N ((r : Int) + 1))) ?_ ?_ w (b_dift.mpr ⟨hxw, hA⟩)
            · intro i hi
              obtain ⟨h1, h2⟩ := b_dift.mp hi
              exact hT i h1 h2
            · intro z hz
              obtain ⟨h1, h2⟩ := b_dift.mp hz
              have h3 := hk z h1
              have h4 : zle (f' z &&& x) (f' z &&& ((x &&& znt (cst c N ((r : Int) + 1))) ||| cst c N ((r : Int) + 1))) := by
                intro i hi
                obtain ⟨h5, h6⟩ := b_andt.mp hi
                refine b_andt.mpr ⟨h5, ?_⟩
                by_cases hiA : bt (cst c N ((r : Int) + 1)) i = true
                · exact b_ort.mpr (Or.inr hiA)
                · exact b_ort.mpr (Or.inl (b_dift.mpr ⟨h6, hiA⟩))
              have h5 := pop_le h4
              omega
        · exact Or.inl ((hc w hw).2 k x hx (kst_dn he hu32 hv32 hb hk) hxw)
    rcases base with h | ⟨h, hs⟩
    · split <;> omega
    · rw [if_pos hs, (hspr w hs).2]; omega
/-- AN EDGE LESS -/
theorem lower {f f' : Nat → Int32} {N u v r : Nat} {c : Nat → Nat} {near sp : Int32} (hg' : gd f' N) (hu : u < N) (hv : v < N) (he : edg f' f u v)
    (hc : ∀ w, w < N → cno f N w (c w)) (hr : r = min (c u) (c v)) (hnear : rch f' (zsg u ||| zsg v) (cst c N r &&& znt (cst c N ((r : Int) + 1))) near) (hsp : spt f' near (cst c N ((r : Int) + 1)) r sp) :
    ∀ w, w < N → cno f' N w (c w - if bt (near &&& znt sp) w then 1 else 0) := by
  intro w hw
  have hN := hg'.1
  have hu32 : u < 32 := by omega
  have hv32 : v < 32 := by omega
  have hshell : ∀ i, bt near i = true → i < N ∧ c i = r := fun i hi => (b_shell hN).mp (hnear.1 i hi)
  have hloss : ∀ k : Int, ¬ k ≤ r → ¬ (bt (cst c N k) u = true ∧ bt (cst c N k) v = true) := fun k hk q => by
    have h1 := ((b_cst hN).mp q.1).2
    have h2 := ((b_cst hN).mp q.2).2
    omega
  constructor
  · by_cases hs : bt (near &&& znt sp) w = true
    · have hcw := (hshell w (b_dift.mp hs).1).2
      rw [if_pos hs, hcw]
      by_cases hr0 : r = 0
      · -- at level 0 nothing is lost
        exfalso
        refine (b_dift.mp hs).2 (hsp.2.2 near (le_rf _) (fun z _ => ?_) w (b_dift.mp hs).1)
        rw [hr0]; exact Int.natCast_nonneg _
      · refine ⟨cst c N r, cst_sub hN _, ?_, (b_cst hN).mpr ⟨hw, by omega⟩⟩
        exact kst_le (kst_dn1 he hu32 hv32 (cst_kst hN hc r)) (by omega)
    · rw [if_neg hs]
      show ∃ x, zsub x N ∧ kst f' x ((c w : Nat) : Int) ∧ bt x w = true
      rcases Nat.lt_trichotomy (c w) r with h | h | h
      · refine ⟨cst c N (c w), cst_sub hN _, ?_, (b_cst hN).mpr ⟨hw, by omega⟩⟩
        intro z hz
        by_cases hzr : (r : Int) ≤ c z
        · have h1 := cst_kst hN hc r z ((b_cst hN).mpr ⟨cst_sub hN _ z hz, hzr⟩)
          have h2 := edg_one he hu32 hv32 (cst c N r) z
          have h3 := pop_le (le_and (le_rf (f' z)) (cst_mono hN (c := c) (N := N) (k := c w) (k' := r) (by omega)))
          omega
        · have hzu : z ≠ u := fun q => hzr (by rw [q]; omega)
          have hzv : z ≠ v := fun q => hzr (by rw [q]; omega)
          have h1 := cst_kst hN hc (c w) z hz
          rw [he.1 z hzu hzv] at h1
          exact h1
      · -- the level itself, without what is lost
        refine ⟨cst c N r &&& znt (near &&& znt sp), ?_, ?_, ?_⟩
        · intro i hi
          exact cst_sub hN _ i (b_dift.mp hi).1
        · intro z hz
          obtain ⟨hz1, hz2⟩ := b_dift.mp hz
          rw [h]
          by_cases hzA : bt (cst c N ((r : Int) + 1)) z = true
          · have h1 := kst_dn he hu32 hv32 (hloss _ (by omega)) (cst_kst hN hc ((r : Int) + 1)) z hzA
            have h2 : zle (f' z &&& cst c N ((r : Int) + 1)) (f' z &&& (cst c N r &&& znt (near &&& znt sp))) := by
              intro i hi
              obtain ⟨h5, h6⟩ := b_andt.mp hi
              refine b_andt.mpr ⟨h5, b_dift.mpr ⟨cst_mono hN (by omega) i h6, fun q => ?_⟩⟩
              have := (hshell i (b_dift.mp q).1).2
              have := ((b_cst hN).mp h6).2
              omega
            have := pop_le h2
            omega
          · by_cases hzn : bt near z = true
            · have hzs : bt sp z = true := by
                cases q : bt sp z
                · exact absurd (b_dift.mpr ⟨hzn, by rw [q]; exact Bool.false_ne_true⟩) hz2
                · rfl
              have h1 := hsp.2.1 z hzs
              have h2 : zle (f' z &&& (sp ||| cst c N ((r : Int) + 1))) (f' z &&& (cst c N r &&& znt (near &&& znt sp))) := by
                intro i hi
                obtain ⟨h5, h6⟩ := b_andt.mp hi
                refine b_andt.mpr ⟨h5, ?_⟩
                rcases b_ort.mp h6 with q | q
                · obtain ⟨q1, q2⟩ := hshell i (hsp.1 i q)
                  exact b_dift.mpr ⟨(b_cst hN).mpr ⟨q1, by omega⟩, fun q3 => (b_dift.mp q3).2 q⟩
                · refine b_dift.mpr ⟨cst_mono hN (by omega) i q, fun q3 => ?_⟩
                  have := (hshell i (b_dift.mp q3).1).2
                  have := ((b_cst hN).mp q).2
                  omega
              have := pop_le h2
              omega
            · have hzs : bt (cst c N r &&& znt (cst c N ((r : Int) + 1))) z = true := b_dift.mpr ⟨hz1, hzA⟩
              have hzu : z ≠ u := fun q => hzn (hnear.2.1 z (b_ort.mpr (Or.inl ((b_sgt hu32).mpr q))) hzs)
              have hzv : z ≠ v := fun q => hzn (hnear.2.1 z (b_ort.mpr (Or.inr ((b_sgt hv32).mpr q))) hzs)
              have h1 := cst_kst hN hc r z hz1
              rw [he.1 z hzu hzv] at h1
              have h2 : zle (f' z &&& cst c N r) (f' z &&& (cst c N r &&& znt (near &&& znt sp))) := by
                intro i hi
                obtain ⟨h5, h6⟩ := b_andt.mp hi
                refine b_andt.mpr ⟨h5, b_dift.mpr ⟨h6, fun q => hzn ?_⟩⟩
                exact hnear.2.2.1 i (b_dift.mp q).1 z (hg'.2.1 z i (cst_sub hN _ z hz1) h5).2.2 hzs
              have := pop_le h2
              omega
        · exact b_dift.mpr ⟨(b_cst hN).mpr ⟨hw, by omega⟩, hs⟩
      · refine ⟨cst c N (c w), cst_sub hN _, ?_, (b_cst hN).mpr ⟨hw, by omega⟩⟩
        exact kst_dn he hu32 hv32 (hloss _ (by omega)) (cst_kst hN hc (c w))
  · intro k x hx hk hxw
    have h0 := (hc w hw).2 k x hx (kst_up he hk) hxw
    by_cases hs : bt (near &&& znt sp) w = true
    · rw [if_pos hs]
      obtain ⟨hwn, hws⟩ := b_dift.mp hs
      have hcw := (hshell w hwn).2
      have hlt : ¬ ((r : Int) ≤ k) := by
        intro hrk
        have hxr : zle x (cst c N r) := cst_max hN hc hx (kst_le (kst_up he hk) hrk)
        refine hws (hsp.2.2 (x &&& near) (le_andr _ _) ?_ w (b_andt.mpr ⟨hxw, hwn⟩))
        intro z hz
        obtain ⟨h1, h2⟩ := b_andt.mp hz
        have h3 := hk z h1
        have h4 : zle (f' z &&& x) (f' z &&& ((x &&& near) ||| cst c N ((r : Int) + 1))) := by
          intro i hi
          obtain ⟨h5, h6⟩ := b_andt.mp hi
          refine b_andt.mpr ⟨h5, ?_⟩
          by_cases hiA : bt (cst c N ((r : Int) + 1)) i = true
          · exact b_ort.mpr (Or.inr hiA)
          · refine b_ort.mpr (Or.inl (b_andt.mpr ⟨h6, ?_⟩))
            exact hnear.2.2.1 z h2 i h5 (b_dift.mpr ⟨hxr i h6, hiA⟩)
        have := pop_le h4
        omega
      omega
    · rw [if_neg hs]; simpa using h0
