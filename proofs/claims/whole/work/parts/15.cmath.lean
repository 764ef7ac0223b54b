/-! ===== core numbers of a network; an edge turned over ===== -/
theorem cno_ex {f : Nat → Int32} {N v : Nat} (hg : gd f N) (hv : v < N) : ∃ c, cno f N v c := by
  let P : Nat → Prop := fun k => ∃ x, zsub x N ∧ kst f x (k : Int) ∧ bt x v = true
  have h0 : P 0 := ⟨zal N, sub_al hg.1, fun u _ => Int.natCast_nonneg _, by rw [b_al hg.1]; exact decide_eq_true hv⟩
  have key : ∀ n, (∀ k, n ≤ k → ¬ P k) → ∃ m, P m ∧ ∀ k, m < k → ¬ P k := by
    intro n
    induction n with
    | zero => exact fun h => absurd h0 (h 0 (Nat.le_refl 0))
    | succ n ih =>
      intro h
      by_cases hn : P n
      · exact ⟨n, hn, fun k hk => h k hk⟩
      · refine ih fun k hk => ?_
        rcases Nat.lt_or_ge n k with q | q
        · exact h k q
        · rw [show k = n by omega]; exact hn
  obtain ⟨m, hm, hm2⟩ := key 20 (fun k hk ⟨x, h1, h2, h3⟩ => by
    have := h2 v h3
    have := pop_lt20 hg hv x
    omega)
  refine ⟨m, hm, fun k x h1 h2 h3 => ?_⟩
  rcases Int.lt_or_le (m : Int) k with q | q
  · obtain ⟨j, rfl⟩ : ∃ j : Nat, k = (j : Int) := ⟨k.toNat, by omega⟩
    exact absurd ⟨x, h1, h2, h3⟩ (hm2 j (by omega))
  · exact q
/-- the core number of v -/
noncomputable def cnum (f : Nat → Int32) (N v : Nat) : Nat := @dite _ (∃ c, cno f N v c) (Classical.propDecidable _) (fun h => Classical.choose h) (fun _ => 0)
theorem cnum_of {f : Nat → Int32} {N v c : Nat} (h : cno f N v c) : cnum f N v = c := by
  have h2 : ∃ c, cno f N v c := ⟨c, h⟩
  unfold cnum
  rw [dif_pos h2]
  exact cno_one (Classical.choose_spec h2) h
theorem cnum_ok {f : Nat → Int32} {N : Nat} (hg : gd f N) : ∀ v, v < N → cno f N v (cnum f N v) := fun v hv => by
  obtain ⟨c, hc⟩ := cno_ex hg hv
  rw [cnum_of hc]
  exact hc
theorem cnum_lt {f : Nat → Int32} {N v : Nat} (hg : gd f N) (hv : v < N) : cnum f N v < 20 := cno_lt hg hv (cnum_ok hg v hv)
theorem popN {x : Int32} {N : Nat} (hN : N ≤ 20) (h : zsub x N) : zpop x = fb_ct (bt x) N := by
  unfold zpop
  have e0 : (32 : Nat) = N + (32 - N) := by omega
  have e1 : fb_ct (bt x) 32 = fb_ct (bt x) (N + (32 - N)) := by rw [← e0]
  rw [e1, fb_ct_split]
  have e : fb_ct (fun k => bt x (N + k)) (32 - N) = 0 := fb_ct_zero.mpr (fun k _ => by
    cases q : bt x (N + k)
    · rfl
    · exact absurd (h _ q) (by omega))
  rw [e, Nat.add_zero]
/-- the class's core numbers: those of the network, 0 beyond it -/
def csJ (cs : Nat → Int32) (c : Nat → Nat) (N : Nat) : Prop := csI cs c N ∧ ∀ v, N ≤ v → v < 20 → cs v = 0
/-- a number added to those of a set -/
def chp (cs : Nat → Int32) (x d : Int32) (i : Nat) : Nat → Int32 := fun v => if v < i ∧ bt x v = true then cs v + d else cs v
theorem chp_0 (cs : Nat → Int32) (x d : Int32) : chp cs x d 0 = cs := funext fun v => by unfold chp; rw [if_neg (fun q => absurd q.1 (Nat.not_lt_zero v))]
theorem chp_no {cs : Nat → Int32} {x d : Int32} {i : Nat} (h : bt x i = false) : chp cs x d i = chp cs x d (i + 1) := funext fun v => by
  unfold chp
  by_cases e : v = i
  · rw [if_neg (fun q => absurd q.1 (by omega)), if_neg (fun q => by rw [e, h] at q; cases q.2)]
  · by_cases h2 : v < i ∧ bt x v = true
    · rw [if_pos h2, if_pos ⟨by omega, h2.2⟩]
    · rw [if_neg h2, if_neg (fun q => h2 ⟨by omega, q.2⟩)]
theorem chp_yes {cs : Nat → Int32} {x d : Int32} {i : Nat} (h : bt x i = true) : upd (chp cs x d i) i (chp cs x d i i + d) = chp cs x d (i + 1) := funext fun v => by
  unfold upd
  by_cases e : v = i
  · rw [if_pos e]
    unfold chp
    rw [if_neg (fun q => Nat.lt_irrefl i q.1), if_pos ⟨by omega, by rw [e]; exact h⟩, e]
  · rw [if_neg e]
    unfold chp
    by_cases h2 : v < i ∧ bt x v = true
    · rw [if_pos h2, if_pos ⟨by omega, h2.2⟩]
    · rw [if_neg h2, if_neg (fun q => h2 ⟨by omega, q.2⟩)]
theorem xor_or {x : Int32} {j : Nat} (hj : j < 32) (h : bt x j = false) : x ||| zsg j = x ^^^ zsg j := b_ext fun i _ => by
  rw [b_or, b_xor, b_sg hj]
  by_cases e : i = j
  · rw [e, h]; simp
  · rw [decide_eq_false e]; cases bt x i <;> rfl
theorem xor_dl {x : Int32} {j : Nat} (hj : j < 32) (h : bt x j = true) : zdl x j = x ^^^ zsg j := b_ext fun i _ => by
  rw [b_dl hj, b_xor, b_sg hj]
  by_cases e : i = j
  · rw [e, h]; simp
  · rw [decide_eq_false e]; cases bt x i <;> rfl
theorem tgl_u {f : Nat → Int32} {u v : Nat} (h : u ≠ v) : tgl f u v u = f u ^^^ zsg v := by unfold tgl upd; rw [if_neg h, if_pos rfl]
theorem tgl_v {f : Nat → Int32} {u v : Nat} (h : u ≠ v) : tgl f u v v = f v ^^^ zsg u := by unfold tgl upd; rw [if_pos rfl, if_neg (Ne.symm h)]
theorem tgl_o {f : Nat → Int32} {u v w : Nat} (h : w ≠ u) (h2 : w ≠ v) : tgl f u v w = f w := by unfold tgl upd; rw [if_neg h2, if_neg h]
theorem tgl_b {f : Nat → Int32} {u v w x : Nat} (h : u ≠ v) (hu : u < 32) (hv : v < 32) : bt (tgl f u v w) x = (bt (f w) x ^^ (decide (w = u ∧ x = v) || decide (w = v ∧ x = u))) := by
  by_cases h1 : w = u
  · subst h1
    rw [tgl_u h, b_xor, b_sg hv]
    simp [h]
  · by_cases h2 : w = v
    · subst h2
      rw [tgl_v h, b_xor, b_sg hu]
      simp [Ne.symm h]
    · rw [tgl_o h1 h2]
      simp [h1, h2]
theorem add_tgl {f : Nat → Int32} {u v : Nat} (huv : u ≠ v) (hu : u < 32) (hv : v < 32) (h : bt (f u) v = false) (h2 : bt (f v) u = false) : upd (upd f u (f u ||| zsg v)) v (upd f u (f u ||| zsg v) v ||| zsg u) = tgl f u v := by
  have e : upd f u (f u ||| zsg v) v = f v := pk_un (Ne.symm huv)
  have e2 : upd f u (f u ^^^ zsg v) v = f v := pk_un (Ne.symm huv)
  unfold tgl
  rw [e, e2, xor_or hv h, xor_or hu h2]
theorem cut_tgl {f : Nat → Int32} {u v : Nat} (huv : u ≠ v) (hu : u < 32) (hv : v < 32) (h : bt (f u) v = true) (h2 : bt (f v) u = true) : upd (upd f u (zdl (f u) v)) v (zdl (upd f u (zdl (f u) v) v) u) = tgl f u v := by
  have e : upd f u (zdl (f u) v) v = f v := pk_un (Ne.symm huv)
  have e2 : upd f u (f u ^^^ zsg v) v = f v := pk_un (Ne.symm huv)
  unfold tgl
  rw [e, e2, xor_dl hv h, xor_dl hu h2]
theorem gd_tgl {f : Nat → Int32} {N u v : Nat} (hg : gd f N) (hu : u < N) (hv : v < N) (huv : u ≠ v) : gd (tgl f u v) N := by
  have hN := hg.1
  have tb : ∀ w x, bt (tgl f u v w) x = (bt (f w) x ^^ (decide (w = u ∧ x = v) || decide (w = v ∧ x = u))) := fun w x => tgl_b huv (by omega) (by omega)
  refine ⟨hN, fun w x hw hx => ?_, fun w h1 h2 => ?_⟩
  · rw [tb] at hx
    have hs : bt (tgl f u v x) w = true ∨ True := Or.inr trivial
    by_cases c1 : w = u ∧ x = v
    · obtain ⟨rfl, rfl⟩ := c1
      refine ⟨hv, Ne.symm huv, ?_⟩
      rw [tb]
      have e1 : bt (f w) x = bt (f x) w := by
        cases q : bt (f w) x <;> cases q2 : bt (f x) w
        · rfl
        · have := (hg.2.1 x w hv q2).2.2; rw [q] at this; cases this
        · have := (hg.2.1 w x hu q).2.2; rw [q2] at this; cases this
        · rfl
      rw [← e1]
      simpa [huv, Ne.symm huv] using hx
    · by_cases c2 : w = v ∧ x = u
      · obtain ⟨rfl, rfl⟩ := c2
        refine ⟨hu, huv, ?_⟩
        rw [tb]
        have e1 : bt (f w) x = bt (f x) w := by
          cases q : bt (f w) x <;> cases q2 : bt (f x) w
          · rfl
          · have := (hg.2.1 x w hu q2).2.2; rw [q] at this; cases this
          · have := (hg.2.1 w x hv q).2.2; rw [q2] at this; cases this
          · rfl
        rw [← e1]
        simpa [huv, Ne.symm huv] using hx
      · rw [decide_eq_false c1, decide_eq_false c2] at hx
        have hx2 : bt (f w) x = true := by cases q : bt (f w) x <;> simp_all
        obtain ⟨q1, q2, q3⟩ := hg.2.1 w x hw hx2
        refine ⟨q1, q2, ?_⟩
        rw [tb, q3, decide_eq_false (fun z => c2 ⟨z.2, z.1⟩), decide_eq_false (fun z => c1 ⟨z.2, z.1⟩)]
        rfl
  · rw [tgl_o (by omega) (by omega)]
    exact hg.2.2 w h1 h2
theorem edg_add {f : Nat → Int32} {u v : Nat} (huv : u ≠ v) (hu : u < 32) (hv : v < 32) (h : bt (f u) v = false) (h2 : bt (f v) u = false) : edg f (tgl f u v) u v :=
  ⟨fun w h1 h3 => tgl_o h1 h3, by rw [tgl_u huv, xor_or hv h], by rw [tgl_v huv, xor_or hu h2]⟩
theorem xx {x y : Int32} : (x ^^^ y) ^^^ y = x := b_ext fun i _ => by rw [b_xor, b_xor]; cases bt x i <;> cases bt y i <;> rfl
theorem tgl_tgl {f : Nat → Int32} {u v : Nat} (huv : u ≠ v) : tgl (tgl f u v) u v = f := funext fun w => by
  by_cases h1 : w = u
  · rw [h1, tgl_u huv, tgl_u huv, xx]
  · by_cases h2 : w = v
    · rw [h2, tgl_v huv, tgl_v huv, xx]
    · rw [tgl_o h1 h2, tgl_o h1 h2]
theorem edg_cut {f : Nat → Int32} {u v : Nat} (huv : u ≠ v) (hu : u < 32) (hv : v < 32) (h : bt (f u) v = true) (h2 : bt (f v) u = true) : edg (tgl f u v) f u v := by
  have e1 : bt (tgl f u v u) v = false := by rw [tgl_b huv hu hv, h]; simp
  have e2 : bt (tgl f u v v) u = false := by rw [tgl_b huv hu hv, h2]; simp
  have := edg_add huv hu hv e1 e2
  rw [tgl_tgl huv] at this
  exact this
theorem al_and {f : Nat → Int32} {N u : Nat} (hg : gd f N) (hu : u < N) : f u &&& zal N = f u := set_ext fun i => by
  rw [b_andt, b_al hg.1, decide_eq_true_iff]
  exact ⟨fun q => q.1, fun q => ⟨q, gd_sub hg hu i q⟩⟩
theorem ewn_tE {f : Nat → Int32} {N : Nat} (hg : gd f N) : ewn f N (zal N) = tE f N / 2 := by
  unfold ewn tE
  rw [fb_sm_cong fun k hk => ?_]
  unfold ews
  rw [if_pos (by rw [b_al hg.1]; exact decide_eq_true hk), al_and hg hk]
theorem cut2_tgl {f : Nat → Int32} {u v : Nat} (huv : u ≠ v) (hu : u < 32) (hv : v < 32) (h : bt (f u) v = true) (h2 : bt (f v) u = true) : cut2 f u v = tgl f u v := cut_tgl huv hu hv h h2
theorem ewn_cut {f : Nat → Int32} {N u v : Nat} (hg : gd f N) (hu : u < N) (hv : v < N) (huv : u ≠ v) (h : bt (f u) v = true) : ewn (tgl f u v) N (zal N) + 1 = ewn f N (zal N) := by
  have hN := hg.1
  have h2 := (hg.2.1 u v hu h).2.2
  have e := tE_cut hu hv huv h h2
  rw [cut2_tgl huv (by omega) (by omega) h h2] at e
  rw [ewn_tE hg, ewn_tE (gd_tgl hg hu hv huv)]
  omega
theorem no_sym {f : Nat → Int32} {N u v : Nat} (hg : gd f N) (hv : v < N) (h : bt (f u) v = false) : bt (f v) u = false := by
  cases q : bt (f v) u
  · rfl
  · have := (hg.2.1 v u hv q).2.2; rw [h] at this; cases this
theorem ewn_add {f : Nat → Int32} {N u v : Nat} (hg : gd f N) (hu : u < N) (hv : v < N) (huv : u ≠ v) (h : bt (f u) v = false) : ewn (tgl f u v) N (zal N) = ewn f N (zal N) + 1 := by
  have hN := hg.1
  have e := ewn_cut (gd_tgl hg hu hv huv) hu hv huv (by rw [tgl_b huv (by omega) (by omega), h]; simp)
  rw [tgl_tgl huv] at e
  omega
/-- what the class's way of mending the core numbers gives: a new edge -/
theorem raise_ok {f f' : Nat → Int32} {N u v : Nat} {cs : Nat → Int32} {near sp : Int32} (hg : gd f N) (hg' : gd f' N) (hu : u < N) (hv : v < N) (he : edg f f' u v) (hcs : csJ cs (cnum f N) N)
    (hnear : rch f' (zsg u ||| zsg v) (shl (cnum f N) N (min (cnum f N u) (cnum f N v))) near) (hsp : spt f' near (cst (cnum f N) N ((min (cnum f N u) (cnum f N v) : Nat) + 1 : Int)) ((min (cnum f N u) (cnum f N v) : Nat) + 1 : Int) sp) :
    zsub sp N ∧ zpop sp = chg (cnum f N) (cnum f' N) N ∧ csJ (chp cs sp (nI 1) N) (cnum f' N) N := by
  have hc := raise hg' hu hv he (cnum_ok hg) rfl hnear hsp
  have hN := hg.1
  have hsub : zsub sp N := fun i hi => ((b_shell hN).mp (hnear.1 i (hsp.1 i hi))).1
  refine ⟨hsub, ?_, ⟨fun w hw => ⟨?_, cnum_lt hg' hw⟩, fun w h1 h2 => ?_⟩⟩
  · rw [popN hN hsub]
    refine fb_ct_cong fun w hw => ?_
    rw [cnum_of (hc w hw)]
    cases bt sp w <;> simp
  · rw [cnum_of (hc w hw)]
    unfold chp
    by_cases q : bt sp w = true
    · rw [if_pos ⟨hw, q⟩, if_pos q, (hcs.1 w hw).1, nI_add]
    · rw [if_neg (fun z => q z.2), if_neg q, (hcs.1 w hw).1]; rfl
  · unfold chp
    rw [if_neg (fun z => absurd z.1 (by omega))]
    exact hcs.2 w h1 h2
/-- .. an edge less -/
theorem lower_ok {f f' : Nat → Int32} {N u v : Nat} {cs : Nat → Int32} {near sp : Int32} (hg : gd f N) (hg' : gd f' N) (hu : u < N) (hv : v < N) (he : edg f' f u v) (hcs : csJ cs (cnum f N) N)
    (hnear : rch f' (zsg u ||| zsg v) (shl (cnum f N) N (min (cnum f N u) (cnum f N v))) near) (hsp : spt f' near (cst (cnum f N) N ((min (cnum f N u) (cnum f N v) : Nat) + 1 : Int)) ((min (cnum f N u) (cnum f N v) : Nat) : Int) sp) :
    zsub (near &&& znt sp) N ∧ zpop (near &&& znt sp) = chg (cnum f N) (cnum f' N) N ∧ csJ (chp cs (near &&& znt sp) (-1) N) (cnum f' N) N := by
  have hc := lower hg' hu hv he (cnum_ok hg) rfl hnear hsp
  have hN := hg.1
  have hsub : zsub (near &&& znt sp) N := fun i hi => ((b_shell hN).mp (hnear.1 i (b_dift.mp hi).1)).1
  have hpos : ∀ w, bt (near &&& znt sp) w = true → 1 ≤ cnum f N w := fun w hw => by
    obtain ⟨h1, h2⟩ := b_dift.mp hw
    have h3 := ((b_shell hN).mp (hnear.1 w h1)).2
    rcases Nat.eq_zero_or_pos (min (cnum f N u) (cnum f N v)) with q | q
    · exfalso
      refine h2 (hsp.2.2 near (le_rf _) (fun z _ => ?_) w h1)
      rw [q]; exact Int.natCast_nonneg _
    · omega
  refine ⟨hsub, ?_, ⟨fun w hw => ⟨?_, cnum_lt hg' hw⟩, fun w h1 h2 => ?_⟩⟩
  · rw [popN hN hsub]
    refine fb_ct_cong fun w hw => ?_
    rw [cnum_of (hc w hw)]
    cases q : bt (near &&& znt sp) w
    · simp
    · have := hpos w q
      simp
      omega
  · rw [cnum_of (hc w hw)]
    unfold chp
    by_cases q : bt (near &&& znt sp) w = true
    · have h1 := hpos w q
      rw [if_pos ⟨hw, q⟩, if_pos q, (hcs.1 w hw).1]
      obtain ⟨m, hm⟩ : ∃ m, cnum f N w = m + 1 := ⟨cnum f N w - 1, by omega⟩
      rw [hm, Nat.add_sub_cancel]
      exact pk_m1 m
    · rw [if_neg (fun z => q z.2), if_neg q, (hcs.1 w hw).1]; rfl
  · unfold chp
    rw [if_neg (fun z => absurd z.1 (by omega))]
    exact hcs.2 w h1 h2
theorem gd_iso {f : Nat → Int32} {N u : Nat} (hg : gd f N) (hu : u < N) : ∀ i, gd (iso f u i) N
  | 0 => hg
  | i + 1 => by
    have ih := gd_iso hg hu i
    unfold iso
    split
    next h =>
      have := ih.2.1 u i hu h
      exact gd_tgl ih hu this.1 (Ne.symm this.2.1)
    next => exact ih
/-- rows beyond the network blanked -/
def nz (g : Nat → Int32) (N : Nat) : Nat → Int32 := fun w => if w < N then g w else 0
theorem nz_in {g : Nat → Int32} {N w : Nat} (h : w < N) : nz g N w = g w := by unfold nz; rw [if_pos h]
theorem gd_nz {g : Nat → Int32} {N : Nat} (hN : N ≤ 20) (h : ∀ u v, u < N → bt (g u) v = true → v < N ∧ v ≠ u ∧ bt (g v) u = true) : gd (nz g N) N := by
  refine ⟨hN, fun u v hu hv => ?_, fun u h1 _ => by unfold nz; rw [if_neg (by omega)]⟩
  rw [nz_in hu] at hv
  have := h u v hu hv
  rw [nz_in this.1]
  exact this
theorem trS_cong {f f2 T : Nat → Int32} {N : Nat} {k : Int} (h : ∀ w, w < N → f w = f2 w) (hT : trS f N k T) : trS f2 N k T := ⟨fun u hu => by rw [← h u hu]; exact hT.1 u hu, hT.2.1, hT.2.2⟩
theorem isTr_cong {f f2 g : Nat → Int32} {N : Nat} {k : Int} (h : ∀ w, w < N → f w = f2 w) (hg : isTr f N k g) : isTr f2 N k g := ⟨trS_cong h hg.1, fun T hT => hg.2 T (trS_cong (fun w hw => (h w hw).symm) hT)⟩
theorem isTr_0 {f g : Nat → Int32} {N : Nat} (hg : gd f N) (h : ∀ w, w < N → g w = f w) : isTr f N 0 g := by
  refine ⟨⟨fun u hu => by rw [h u hu]; exact le_rf _, fun u v hu hv => ?_, fun u v _ _ => Int.natCast_nonneg _⟩, fun T hT u hu => by rw [h u hu]; exact hT.1 u hu⟩
  rw [h u hu] at hv
  have := hg.2.1 u v hu hv
  rw [h v this.1]; exact this.2.2
theorem tJ_i {f g : Nat → Int32} {N : Nat} {k : Int} {V : Nat → Nat → Prop} (h : tI f N k g) (hV : ∀ a b, ¬ V a b) : tJ f N k g V g false := ⟨h, fun _ => ⟨fun _ _ => rfl, fun a b _ hab => absurd hab (hV a b)⟩, fun q => by cases q⟩
