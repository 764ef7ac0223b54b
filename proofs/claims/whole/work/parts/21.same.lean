/-! ===== the class's answers and the model's are the same ===== -/
theorem ct_inj {p : Nat → Bool} {N : Nat} (φ : Nat → Nat) : ∀ (n : Nat) (q : Nat → Bool), n ≤ N → (∀ i, i < n → p i = true → φ i < N ∧ q (φ i) = true) → (∀ i j, i < n → j < n → p i = true → p j = true → φ i = φ j → i = j) → fb_ct p n ≤ fb_ct q N
  | 0, _, _, _, _ => Nat.zero_le _
  | n + 1, q, hn, h1, h2 => by
    rw [fb_ct_succ]
    by_cases hp : p n = true
    · obtain ⟨a1, a2⟩ := h1 n (Nat.lt_succ_self n) hp
      have e := fb_ct_upd q false a1
      rw [a2] at e
      have ih := ct_inj (N := N) φ n (fun k => if k = φ n then false else q k) (by omega) (fun i hi hpi => ?_) (fun i j hi hj => h2 i j (by omega) (by omega))
      · simp only [reduceIte, Bool.false_eq_true, Nat.add_zero] at e
        rw [if_pos hp]
        omega
      · obtain ⟨b1, b2⟩ := h1 i (by omega) hpi
        refine ⟨b1, ?_⟩
        have : φ i ≠ φ n := fun z => absurd (h2 i n (by omega) (Nat.lt_succ_self n) hpi hp z) (by omega)
        show (if φ i = φ n then false else q (φ i)) = true
        rw [if_neg this]; exact b2
    · rw [if_neg hp, Nat.add_zero]
      exact ct_inj φ n q (by omega) (fun i hi => h1 i (by omega)) (fun i j hi hj => h2 i j (by omega) (by omega))
/-- the lowest node of a set -/
noncomputable def lo (x : Int32) : Nat := @dite _ (∃ k, bt x k = true) (Classical.propDecidable _) (fun h => Classical.choose (pk_least (fun k => bt x k = true) h)) (fun _ => 0)
theorem lo_ok {x : Int32} {k : Nat} (h : bt x k = true) : bt x (lo x) = true ∧ ∀ j, j < lo x → bt x j = false := by
  have h2 : ∃ k, bt x k = true := ⟨k, h⟩
  have h3 := Classical.choose_spec (pk_least (fun k => bt x k = true) h2)
  unfold lo
  rw [dif_pos h2]
  refine ⟨h3.1, fun j hj => ?_⟩
  cases q : bt x j
  · rfl
  · exact absurd q (h3.2 j hj)
theorem low_t {x : Int32} {v : Nat} (hv : v ≤ 20) : low x v = true ↔ bt x v = true ∧ ∀ j, j < v → bt x j = false := by
  unfold low
  rw [Bool.and_eq_true, decide_eq_true_iff, ne_0]
  constructor
  · rintro ⟨h1, h2⟩
    refine ⟨h1, fun j hj => ?_⟩
    have := h2 j
    rw [b_and, b_al hv, decide_eq_true hj, Bool.and_true] at this
    exact this
  · rintro ⟨h1, h2⟩
    refine ⟨h1, fun j => ?_⟩
    rw [b_and, b_al hv]
    by_cases q : j < v
    · rw [h2 j q]; rfl
    · rw [decide_eq_false q, Bool.and_false]
theorem low_lo {x : Int32} {v : Nat} (hv : v ≤ 20) (h : low x v = true) : v = lo x := by
  obtain ⟨h1, h2⟩ := (low_t hv).mp h
  obtain ⟨h3, h4⟩ := lo_ok h1
  rcases Nat.lt_trichotomy v (lo x) with q | q | q
  · rw [h4 v q] at h1; cases h1
  · exact q
  · rw [h2 _ q] at h3; cases h3
/-- a community keeps its nodes one level up just if none of them drops out -/
theorem cmp_up {f : Nat → Int32} {z z2 : Int32} {v : Nat} (hle : zle z2 z) (hv : bt z v = true) : cmp f z2 v = cmp f z v ↔ ∀ x, bt (cmp f z v) x = true → bt z2 x = true := by
  constructor
  · intro h x hx
    rw [← h] at hx
    exact cmp_le f z2 v x hx
  · intro h
    have hv2 := h v (cmp_in hv)
    refine le_anti ((cmp_ok f z2 v).2.2.2 _ (fun i h1 _ => ?_) (fun a ha b h1 h2 => (cmp_ok f z v).2.2.1 a ha b h1 (hle b h2))) ?_
    · rw [(b_sgt (b_32 hv)).mp h1]; exact cmp_in hv
    · have h3 : zle (cmp f z v) (cmp f z2 v &&& cmp f z v) := (cmp_ok f z v).2.2.2 _ (fun i h1 _ => ?_) (fun a ha b h1 h2 => ?_)
      · exact le_tr h3 (le_andl _ _)
      · rw [(b_sgt (b_32 hv)).mp h1]
        exact b_andt.mpr ⟨cmp_in hv2, cmp_in hv⟩
      · obtain ⟨h4, h5⟩ := b_andt.mp ha
        have h6 := (cmp_ok f z v).2.2.1 a h5 b h1 h2
        exact b_andt.mpr ⟨(cmp_ok f z2 v).2.2.1 a h4 b h1 (h b h6), h6⟩
theorem ct_comm {f : Nat → Int32} {N : Nat} {z : Int32} (hg : gd f N) (hz : zsub z N) : ccn f N z z = fb_ct (fun v => low (cmp f z v) v) N := by
  have hs := sym_of hg hz
  have hN := hg.1
  refine fb_ct_cong fun v hv => ?_
  have key : fst1 f z z v = true ↔ low (cmp f z v) v = true := by
    rw [fst1_t, low_t (by omega)]
    constructor
    · rintro ⟨h1, h2⟩
      refine ⟨cmp_in h1, fun j hj => ?_⟩
      cases q : bt (cmp f z v) j
      · rfl
      · exact absurd (cmp_sym hs h1 q) (h2 j hj (cmp_le f z v j q))
    · rintro ⟨h1, h2⟩
      have h3 := cmp_le f z v v h1
      refine ⟨h3, fun u hu hzu hc => ?_⟩
      have := cmp_sym hs hzu hc
      rw [h2 u hu] at this; cases this
  cases q : fst1 f z z v <;> cases q2 : low (cmp f z v) v
  · rfl
  · rw [key.mpr q2] at q; cases q
  · rw [key.mp q] at q2; cases q2
  · rfl
/-- one level: the class's count and the model's -/
theorem ct_level {f : Nat → Int32} {N k : Nat} {c : Nat → Nat} (hg : gd f N) : hie f c N k = hmS f c N k := by
  have hN := hg.1
  have hz := cst_sub (c := c) hN (k : Int)
  have hs := sym_of hg hz
  have hup : zle (cst c N ((k : Int) + 1)) (cst c N k) := cst_mono hN (by omega)
  have hw : ∀ x, bt (shl c N k) x = true ↔ bt (cst c N k) x = true ∧ ¬ bt (cst c N ((k : Int) + 1)) x = true := fun x => b_dift
  have hm_t : ∀ v, v < N → (hm f c N k v = true ↔ low (cmp f (cst c N k) v) v = true ∧ ∃ x, bt (cmp f (cst c N k) v) x = true ∧ bt (shl c N k) x = true) := fun v hv => by
    unfold hm
    rw [Bool.and_eq_true, decide_eq_true_iff]
    constructor
    · rintro ⟨h1, h2⟩
      have h3 := cmp_le f _ v v ((low_t (by omega)).mp h1).1
      rw [cmp_up hup h3] at h2
      obtain ⟨x, hx⟩ := Classical.not_forall.mp h2
      obtain ⟨h4, h5⟩ := Classical.not_imp.mp hx
      exact ⟨h1, x, h4, (hw x).mpr ⟨cmp_le f _ v x h4, h5⟩⟩
    · rintro ⟨h1, x, h4, h5⟩
      have h3 := cmp_le f _ v v ((low_t (by omega)).mp h1).1
      exact ⟨h1, fun e => ((hw x).mp h5).2 ((cmp_up hup h3).mp e x h4)⟩
  unfold hie hmS ccn
  refine Nat.le_antisymm (ct_inj (fun i => lo (cmp f (cst c N k) i)) N _ (Nat.le_refl N) (fun i hi hp => ?_) (fun i j hi hj hpi hpj e => ?_)) (ct_inj (fun v => lo (cmp f (cst c N k) v &&& shl c N k)) N _ (Nat.le_refl N) (fun v hv hp => ?_) (fun v1 v2 hv1 hv2 hp1 hp2 e => ?_))
  · obtain ⟨h1, h2⟩ := fst1_t.mp hp
    have h3 := ((hw i).mp h1).1
    have h4 := cmp_in (f := f) h3
    obtain ⟨h5, h6⟩ := lo_ok h4
    have h7 := hz _ (cmp_le f _ i _ h5)
    refine ⟨h7, (hm_t _ h7).mpr ?_⟩
    rw [cmp_eq hs h3 h5]
    exact ⟨(low_t (by omega)).mpr ⟨h5, h6⟩, i, h4, h1⟩
  · obtain ⟨h1, h2⟩ := fst1_t.mp hpi
    obtain ⟨g1, g2⟩ := fst1_t.mp hpj
    have h3 := ((hw i).mp h1).1
    have g3 := ((hw j).mp g1).1
    have e2 : cmp f (cst c N k) i = cmp f (cst c N k) j := by
      rw [← cmp_eq hs h3 (lo_ok (cmp_in (f := f) h3)).1, ← cmp_eq hs g3 (lo_ok (cmp_in (f := f) g3)).1]
      have e3 : lo (cmp f (cst c N k) i) = lo (cmp f (cst c N k) j) := e
      rw [e3]
    rcases Nat.lt_trichotomy i j with q | q | q
    · exact absurd (by rw [e2]; exact cmp_in g3) (g2 i q h1)
    · exact q
    · exact absurd (by rw [← e2]; exact cmp_in h3) (h2 j q g1)
  · obtain ⟨h1, x, h2, h3⟩ := (hm_t v hv).mp hp
    have hvz := cmp_le f _ v v ((low_t (by omega)).mp h1).1
    obtain ⟨h5, h6⟩ := lo_ok (b_andt.mpr ⟨h2, h3⟩)
    obtain ⟨h7, h8⟩ := b_andt.mp h5
    refine ⟨hz _ (cmp_le f _ v _ h7), fst1_t.mpr ⟨h8, fun u hu hwu hc => ?_⟩⟩
    have h9 := cmp_sym hs ((hw u).mp hwu).1 hc
    rw [cmp_eq hs hvz h7] at h9
    have := h6 u hu
    rw [b_and, h9, hwu] at this; cases this
  · obtain ⟨h1, x, h2, h3⟩ := (hm_t v1 hv1).mp hp1
    obtain ⟨g1, y, g2, g3⟩ := (hm_t v2 hv2).mp hp2
    have hvz1 := cmp_le f _ v1 v1 ((low_t (by omega)).mp h1).1
    have hvz2 := cmp_le f _ v2 v2 ((low_t (by omega)).mp g1).1
    obtain ⟨h7, -⟩ := b_andt.mp (lo_ok (b_andt.mpr ⟨h2, h3⟩)).1
    obtain ⟨g7, -⟩ := b_andt.mp (lo_ok (b_andt.mpr ⟨g2, g3⟩)).1
    have e3 : lo (cmp f (cst c N k) v1 &&& shl c N k) = lo (cmp f (cst c N k) v2 &&& shl c N k) := e
    have e2 : cmp f (cst c N k) v1 = cmp f (cst c N k) v2 := by
      rw [← cmp_eq hs hvz1 h7, ← cmp_eq hs hvz2 g7, e3]
    rw [low_lo (by omega) h1, low_lo (by omega) g1, e2]
theorem same_hier {f : Nat → Int32} {N d : Nat} {c : Nat → Nat} (hg : gd f N) (hc : ∀ v, v < N → c v < 20) (hd : isMx c N d) : fb_sm (hie f c N) (d + 1) = fb_sm (hmS f c N) 20 := by
  have hN := hg.1
  have hd20 : d < 20 := by
    rcases hd.2 with q | ⟨v, q1, q2⟩
    · omega
    · have := hc v q1; omega
  rw [fb_sm_cong (fun k _ => ct_level (c := c) hg)]
  have e20 : fb_sm (hmS f c N) 20 = fb_sm (hmS f c N) (d + 1) + fb_sm (fun k => hmS f c N (d + 1 + k)) (19 - d) := by
    rw [← fb_sm_split]; congr 1; omega
  have e : fb_sm (fun k => hmS f c N (d + 1 + k)) (19 - d) = 0 := by
    rw [fb_sm_cong (g := fun _ => 0) fun k hk => ?_]
    · rw [fb_sm_const]; omega
    · refine fb_ct_zero.mpr fun v hv => ?_
      unfold hm
      have h0 : bt (cst c N ((d + 1 + k : Nat) : Int)) v = false := by
        cases q : bt (cst c N ((d + 1 + k : Nat) : Int)) v
        · rfl
        · have := ((b_cst hN).mp q).2
          have := hd.1 v hv
          omega
      have h1 : low (cmp f (cst c N ((d + 1 + k : Nat) : Int)) v) v = false := by
        unfold low
        rw [cmp_0 (by omega) h0, b_0]; rfl
      rw [h1]; rfl
  rw [e20, e]; exact (Nat.add_zero _).symm
theorem sm_swap (g : Nat → Nat → Nat) (m : Nat) : ∀ n, fb_sm (fun i => fb_sm (fun j => g i j) m) n = fb_sm (fun j => fb_sm (fun i => g i j) n) m
  | 0 => by show 0 = fb_sm (fun _ => 0) m; rw [fb_sm_const]; rfl
  | n + 1 => by
    rw [fb_sm_succ, sm_swap g m n, ← fb_sm_add]
    rfl
theorem same_tri {f : Nat → Int32} {N : Nat} (hg : gd f N) : fb_sm (trs f N) N = fb_sm (tr2s f) N := by
  have e : fb_sm (trs f N) N = fb_sm (fun j => fb_sm (fun i => tri f i j) N) N := sm_swap (fun i j => tri f i j) N N
  rw [e]
  refine fb_sm_cong fun j hj => ?_
  have e2 : (N : Nat) = j + (N - j) := by omega
  have e3 : fb_sm (fun i => tri f i j) N = fb_sm (fun i => tri f i j) (j + (N - j)) := by rw [← e2]
  rw [e3, fb_sm_split]
  have e4 : fb_sm (fun k => tri f (j + k) j) (N - j) = 0 := by
    rw [fb_sm_cong (g := fun _ => 0) fun k hk => ?_]
    · rw [fb_sm_const]; omega
    · unfold tri; rw [if_neg (fun q => absurd q.1 (by omega))]
  rw [e4, Nat.add_zero]
  unfold tr2s
  refine fb_sm_cong fun i hi => ?_
  unfold tri tr2
  have es : bt (f i) j = bt (f j) i := by
    cases q : bt (f i) j <;> cases q2 : bt (f j) i
    · rfl
    · have := (hg.2.1 j i hj q2).2.2; rw [q] at this; cases this
    · have := (hg.2.1 i j (by omega) q).2.2; rw [q2] at this; cases this
    · rfl
  rw [← es]
  by_cases h : bt (f i) j = true
  · rw [if_pos ⟨hi, h⟩, if_pos h, and_c]
  · rw [if_neg (fun q => h q.2), if_neg h]
theorem same_truss {f g g2 : Nat → Int32} {N : Nat} {k : Int} (h : isTr f N k g) (h2 : isTr f N k g2) : tE g N = tE g2 N := tE_cong (isTr_one h h2)
/-! a node more -/
theorem gd_more {f : Nat → Int32} {N : Nat} (hg : gd f N) (hN : N < 20) : gd f (N + 1) := by
  refine ⟨by omega, fun u v hu hv => ?_, fun u h1 h2 => hg.2.2 u (by omega) h2⟩
  rcases Nat.lt_or_ge u N with q | q
  · obtain ⟨h1, h2, h3⟩ := hg.2.1 u v q hv
    exact ⟨by omega, h2, h3⟩
  · rw [hg.2.2 u q (by omega), b_0] at hv; cases hv
theorem upd_0 {f : Nat → Int32} {N : Nat} (hg : gd f N) (hN : N < 20) : upd f N (nI 0) = f := funext fun j => by
  unfold upd
  by_cases e : j = N
  · rw [if_pos e, e, hg.2.2 N (Nat.le_refl N) hN, nI_0]
  · rw [if_neg e]
theorem cno_more {f : Nat → Int32} {N v c : Nat} (hg : gd f N) (hN : N < 20) (hv : v < N) (h : cno f N v c) : cno f (N + 1) v c := by
  obtain ⟨⟨x, h1, h2, h3⟩, h4⟩ := h
  refine ⟨⟨x, fun i hi => by have := h1 i hi; omega, h2, h3⟩, fun k y hy hk hyv => ?_⟩
  rcases Int.lt_or_le k 1 with q | q
  · omega
  · refine h4 k y (fun i hi => ?_) hk hyv
    have h5 := hy i hi
    rcases Nat.lt_or_ge i N with q2 | q2
    · exact q2
    · have h6 := hk i hi
      rw [hg.2.2 i q2 (by omega), show (0 : Int32) &&& y = 0 from set_ext fun j => by rw [b_andt, b_0]; simp, pop_0] at h6
      omega
theorem cno_new {f : Nat → Int32} {N : Nat} (hg : gd f N) (hN : N < 20) : cno f (N + 1) N 0 := by
  refine ⟨⟨zsg N, fun i hi => by rw [b_sgt (by omega)] at hi; omega, fun u _ => Int.natCast_nonneg _, (b_sgt (by omega)).mpr rfl⟩, fun k y hy hk hyv => ?_⟩
  have h6 := hk N hyv
  rw [hg.2.2 N (Nat.le_refl N) hN, show (0 : Int32) &&& y = 0 from set_ext fun j => by rw [b_andt, b_0]; simp, pop_0] at h6
  exact h6
theorem csJ_more {f cs : Nat → Int32} {N : Nat} (hg : gd f N) (hN : N < 20) (h : csJ cs (cnum f N) N) : csJ cs (cnum f (N + 1)) (N + 1) := by
  refine ⟨fun v hv => ?_, fun v h1 h2 => h.2 v (by omega) h2⟩
  rcases Nat.lt_or_ge v N with q | q
  · rw [cnum_of (cno_more hg hN q (cnum_ok hg v q))]
    exact h.1 v q
  · have e : v = N := by omega
    rw [e, cnum_of (cno_new hg hN), h.2 N (Nat.le_refl N) hN]
    exact ⟨nI_0.symm, by decide⟩
theorem ewn_more {f : Nat → Int32} {N : Nat} (hg : gd f N) (hN : N < 20) : ewn f (N + 1) (zal (N + 1)) = ewn f N (zal N) := by
  rw [ewn_tE (gd_more hg hN), ewn_tE hg]
  unfold tE
  rw [fb_sm_succ, hg.2.2 N (Nat.le_refl N) hN, pop_0, Nat.add_zero]
theorem gd_0 : gd (fun _ => 0) 0 := ⟨by decide, fun u v hu => absurd hu (Nat.not_lt_zero u), fun _ _ _ => rfl⟩
