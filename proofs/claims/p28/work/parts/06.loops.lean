/-! ===== what the loops do, step by step ===== -/
theorem mk_no {p : Nat → Bool} {i : Nat} (h : p i = false) : zmk p (i + 1) = zmk p i := by unfold zmk; rw [if_neg (by rw [h]; exact Bool.false_ne_true)]; cases i <;> rfl
theorem mk_yes {p : Nat → Bool} {i : Nat} (h : p i = true) : zmk p (i + 1) = zmk p i ||| zsg i := by show (if p i = true then _ else _) = _; rw [if_pos h]
theorem i_le (a b : Int32) : a ≤ b ↔ a.toInt ≤ b.toInt := Int32.le_iff_toInt_le
theorem i_leN {k : Int32} {a : Nat} (h : a < 2 ^ 31) : k ≤ nI a ↔ k.toInt ≤ (a : Int) := by rw [i_le, nI_toInt h]
theorem pop_31 (x : Int32) : zpop x < 2 ^ 31 := by have := pop_32 x; omega
-- ways
def rI (f : Nat → Int32) (s z x : Int32) : Prop := zle x z ∧ (∀ i, bt s i = true → bt z i = true → bt x i = true) ∧ ∀ T : Int32, (∀ i, bt s i = true → bt z i = true → bt T i = true) → (∀ u, bt T u = true → ∀ w, bt (f u) w = true → bt z w = true → bt T w = true) → zle x T
def rJ (f : Nat → Int32) (z x : Int32) (i : Nat) (y : Int32) : Prop := ∀ w, bt y w = true ↔ bt x w = true ∨ ∃ u, u < i ∧ bt x u = true ∧ bt (f u) w = true ∧ bt z w = true
theorem rI_0 (f : Nat → Int32) (s z : Int32) : rI f s z (s &&& z) := ⟨le_andr _ _, fun i h1 h2 => b_andt.mpr ⟨h1, h2⟩, fun T h1 _ i hi => h1 i (b_andt.mp hi).1 (b_andt.mp hi).2⟩
theorem rJ_0 (f : Nat → Int32) (z x : Int32) : rJ f z x 0 x := fun w => ⟨Or.inl, fun h => h.elim id fun ⟨u, hu, _⟩ => absurd hu (Nat.not_lt_zero u)⟩
theorem rJ_no {f : Nat → Int32} {z x y : Int32} {i : Nat} (hi : bt x i = false) (h : rJ f z x i y) : rJ f z x (i + 1) y := fun w => by
  rw [h w]
  constructor
  · rintro (q | ⟨u, q1, q2⟩)
    · exact Or.inl q
    · exact Or.inr ⟨u, by omega, q2⟩
  · rintro (q | ⟨u, q1, q2, q3⟩)
    · exact Or.inl q
    · refine Or.inr ⟨u, ?_, q2, q3⟩
      have : u ≠ i := fun e => by rw [e, hi] at q2; cases q2
      omega
theorem rJ_yes {f : Nat → Int32} {z x y : Int32} {i : Nat} (hi : bt x i = true) (h : rJ f z x i y) : rJ f z x (i + 1) (y ||| (f i &&& z)) := fun w => by
  rw [b_ort, h w, b_andt]
  constructor
  · rintro ((q | ⟨u, q1, q2⟩) | q)
    · exact Or.inl q
    · exact Or.inr ⟨u, by omega, q2⟩
    · exact Or.inr ⟨i, by omega, hi, q⟩
  · rintro (q | ⟨u, q1, q2, q3⟩)
    · exact Or.inl (Or.inl q)
    · by_cases e : u = i
      · exact Or.inr (e ▸ q3)
      · exact Or.inl (Or.inr ⟨u, by omega, q2, q3⟩)
theorem rI_step {f : Nat → Int32} {s z x y : Int32} {N : Nat} (h : rI f s z x) (hj : rJ f z x N y) : rI f s z y := by
  refine ⟨fun w hw => ?_, fun i h1 h2 => (hj i).mpr (Or.inl (h.2.1 i h1 h2)), fun T h1 h2 w hw => ?_⟩
  · rcases (hj w).mp hw with q | ⟨u, -, -, -, q⟩
    · exact h.1 w q
    · exact q
  · rcases (hj w).mp hw with q | ⟨u, -, q1, q2, q3⟩
    · exact h.2.2 T h1 h2 w q
    · exact h2 u (h.2.2 T h1 h2 u q1) w q2 q3
theorem rI_grow {f : Nat → Int32} {z x y : Int32} {N : Nat} (hj : rJ f z x N y) (hne : ¬ y = x) : zpop x + 1 ≤ zpop y := by
  have hle : zle x y := fun w hw => (hj w).mpr (Or.inl hw)
  rcases Nat.lt_or_ge (zpop x) (zpop y) with q | q
  · exact q
  · exact absurd (pop_full hle q).symm hne
theorem rI_end {f : Nat → Int32} {s z x : Int32} {N : Nat} (hz : zsub z N) (h : rI f s z x) (hj : rJ f z x N x) : rch f s z x := ⟨h.1, h.2.1, fun u hu w h1 h2 => (hj w).mpr (Or.inr ⟨u, hz u (h.1 u hu), hu, h1, h2⟩), h.2.2⟩
theorem rI_full {f : Nat → Int32} {s z x : Int32} {N t : Nat} (hN : N ≤ 20) (hz : zsub z N) (h : rI f s z x) (ht : t ≤ zpop x) (hNt : N ≤ t) : rch f s z x := by
  have e : x = zal N := pop_full (le_al hN (sub_le h.1 hz)) (by rw [pop_al hN]; omega)
  exact ⟨h.1, h.2.1, fun u hu w h1 h2 => by rw [e, b_al hN]; exact decide_eq_true (hz w h2), h.2.2⟩
/-- what ways lead to, at all -/
theorem rch_ex (f : Nat → Int32) (s z : Int32) : ∃ r, rch f s z r := by
  let P : Nat → Prop := fun i => bt z i = true ∧ ∀ T : Int32, (∀ i, bt s i = true → bt z i = true → bt T i = true) → (∀ u, bt T u = true → ∀ w, bt (f u) w = true → bt z w = true → bt T w = true) → bt T i = true
  have hb : ∀ i, bt (zmk (fun i => @decide (P i) (Classical.propDecidable _)) 32) i = true ↔ P i := fun i => by
    rw [b_mkt _ (Nat.le_refl 32), @decide_eq_true_iff _ (Classical.propDecidable _)]
    exact ⟨fun h => h.2, fun h => ⟨b_32 h.1, h⟩⟩
  refine ⟨_, fun i hi => ((hb i).mp hi).1, fun i h1 h2 => (hb i).mpr ⟨h2, fun T h3 _ => h3 i h1 h2⟩, fun u hu w h1 h2 => (hb w).mpr ⟨h2, fun T h3 h4 => h4 u (((hb u).mp hu).2 T h3 h4) w h1 h2⟩, fun T h3 h4 i hi => ((hb i).mp hi).2 T h3 h4⟩
/-- the community of u inside z -/
noncomputable def cmp (f : Nat → Int32) (z : Int32) (u : Nat) : Int32 := Classical.choose (rch_ex f (zsg u) z)
theorem cmp_ok (f : Nat → Int32) (z : Int32) (u : Nat) : rch f (zsg u) z (cmp f z u) := Classical.choose_spec (rch_ex f (zsg u) z)
theorem cmp_of {f : Nat → Int32} {z r : Int32} {u : Nat} (h : rch f (zsg u) z r) : r = cmp f z u := rch_one h (cmp_ok f z u)
theorem cmp_in {f : Nat → Int32} {z : Int32} {u : Nat} (h : bt z u = true) : bt (cmp f z u) u = true := (cmp_ok f z u).2.1 u ((b_sgt (b_32 h)).mpr rfl) h
theorem cmp_le (f : Nat → Int32) (z : Int32) (u : Nat) : zle (cmp f z u) z := (cmp_ok f z u).1
theorem cmp_0 {f : Nat → Int32} {z : Int32} {u : Nat} (hu : u < 32) (h : bt z u = false) : cmp f z u = 0 := by
  refine le_anti ((cmp_ok f z u).2.2.2 0 (fun i h1 h2 => ?_) (fun i h1 => ?_)) (fun i hi => ?_)
  · rw [(b_sgt hu).mp h1, h] at h2; cases h2
  · rw [b_0] at h1; cases h1
  · rw [b_0] at hi; cases hi
/-- edges run both ways inside z -/
def sym (f : Nat → Int32) (z : Int32) : Prop := ∀ u v, bt z u = true → bt (f u) v = true → bt (f v) u = true
theorem sym_of {f : Nat → Int32} {N : Nat} {z : Int32} (hg : gd f N) (hz : zsub z N) : sym f z := fun u v h1 h2 => (hg.2.1 u v (hz u h1) h2).2.2
theorem cmp_sub {f : Nat → Int32} {z : Int32} {u v : Nat} (h : bt (cmp f z u) v = true) : zle (cmp f z v) (cmp f z u) := (cmp_ok f z v).2.2.2 _ (fun i h1 _ => by rw [(b_sgt (b_32 h)).mp h1]; exact h) (cmp_ok f z u).2.2.1
theorem cmp_sym {f : Nat → Int32} {z : Int32} (hs : sym f z) {u v : Nat} (hu : bt z u = true) (h : bt (cmp f z u) v = true) : bt (cmp f z v) u = true := by
  have hv := cmp_le f z u v h
  cases q : bt (cmp f z v) u
  · exfalso
    have key : zle (cmp f z u) (cmp f z u &&& znt (cmp f z v)) := (cmp_ok f z u).2.2.2 _ (fun i h1 h2 => by
        rw [(b_sgt (b_32 hu)).mp h1]
        exact b_dift.mpr ⟨cmp_in hu, by rw [q]; exact Bool.false_ne_true⟩) (fun a ha b h1 h2 => by
        obtain ⟨h3, h4⟩ := b_dift.mp ha
        refine b_dift.mpr ⟨(cmp_ok f z u).2.2.1 a h3 b h1 h2, fun h5 => h4 ?_⟩
        exact (cmp_ok f z v).2.2.1 b h5 a (hs a b (cmp_le f z u a h3) h1) (cmp_le f z u a h3))
    exact (b_dift.mp (key v h)).2 (cmp_in hv)
  · rfl
theorem cmp_eq {f : Nat → Int32} {z : Int32} (hs : sym f z) {u v : Nat} (hu : bt z u = true) (h : bt (cmp f z u) v = true) : cmp f z v = cmp f z u := le_anti (cmp_sub h) (cmp_sub (cmp_sym hs hu h))
-- communities, one by one
/-- i is the first of the wanted of its community -/
noncomputable def fst1 (f : Nat → Int32) (z w : Int32) (i : Nat) : Bool := bt w i && @decide (∀ u, u < i → bt w u = true → ¬ bt (cmp f z u) i = true) (Classical.propDecidable _)
theorem fst1_t {f : Nat → Int32} {z w : Int32} {i : Nat} : fst1 f z w i = true ↔ bt w i = true ∧ ∀ u, u < i → bt w u = true → ¬ bt (cmp f z u) i = true := by
  unfold fst1
  rw [Bool.and_eq_true, @decide_eq_true_iff _ (Classical.propDecidable _)]
noncomputable def ccn (f : Nat → Int32) (N : Nat) (z w : Int32) : Nat := fb_ct (fst1 f z w) N
def cI (f : Nat → Int32) (z w : Int32) (i : Nat) (o : Int32) : Prop := ∀ v, bt o v = true ↔ bt w v = true ∧ ∀ u, u < i → bt w u = true → ¬ bt (cmp f z u) v = true
theorem cI_0 (f : Nat → Int32) (z w : Int32) : cI f z w 0 w := fun v => ⟨fun h => ⟨h, fun u hu => absurd hu (Nat.not_lt_zero u)⟩, fun h => h.1⟩
theorem cI_yes {f : Nat → Int32} {z w o : Int32} {i : Nat} (h : cI f z w i o) (hi : bt o i = true) : fst1 f z w i = true ∧ cI f z w (i + 1) (o &&& znt (cmp f z i)) := by
  refine ⟨fst1_t.mpr ((h i).mp hi), fun v => ?_⟩
  rw [b_dift, h v]
  constructor
  · rintro ⟨⟨h1, h2⟩, h3⟩
    refine ⟨h1, fun u hu hw => ?_⟩
    by_cases e : u = i
    · rw [e]; exact h3
    · exact h2 u (by omega) hw
  · rintro ⟨h1, h2⟩
    exact ⟨⟨h1, fun u hu hw => h2 u (by omega) hw⟩, h2 i (by omega) ((h i).mp hi).1⟩
theorem cI_no {f : Nat → Int32} {z w o : Int32} {i : Nat} (hs : sym f z) (hwz : zle w z) (h : cI f z w i o) (hi : bt o i = false) : fst1 f z w i = false ∧ cI f z w (i + 1) o := by
  have hn : ¬ (bt w i = true ∧ ∀ u, u < i → bt w u = true → ¬ bt (cmp f z u) i = true) := fun q => by rw [← h i, hi] at q; cases q
  refine ⟨?_, fun v => ?_⟩
  · cases q : fst1 f z w i
    · rfl
    · exact absurd (fst1_t.mp q) hn
  · rw [h v]
    constructor
    · rintro ⟨h1, h2⟩
      refine ⟨h1, fun u hu hw hv => ?_⟩
      by_cases e : u = i
      · subst e
        apply hn
        refine ⟨hw, fun u2 hu2 hw2 hc => ?_⟩
        exact h2 u2 hu2 hw2 (by rw [← cmp_eq hs (hwz u2 hw2) hc]; exact hv)
      · exact h2 u (by omega) hw hv
    · rintro ⟨h1, h2⟩
      exact ⟨h1, fun u hu hw => h2 u (by omega) hw⟩
-- peeling
def npk (f : Nat → Int32) (z : Int32) : Nat → Nat × Nat
  | 0 => (0, 20)
  | i + 1 => if bt z i = true ∧ zpop (f i &&& z) < (npk f z i).2 then (i, zpop (f i &&& z)) else npk f z i
theorem npk_le (f : Nat → Int32) (z : Int32) : ∀ i, (npk f z i).2 ≤ 20
  | 0 => Nat.le_refl _
  | i + 1 => by
    have ih := npk_le f z i
    unfold npk
    split
    next h => have := h.2; show zpop (f i &&& z) ≤ 20; omega
    next => exact ih
theorem npk_lt (f : Nat → Int32) (z : Int32) : ∀ i, 0 < i → (npk f z i).1 < i
  | 0, h => absurd h (Nat.lt_irrefl 0)
  | i + 1, _ => by
    have ih := npk_lt f z i
    unfold npk
    split
    · exact Nat.lt_succ_self i
    · rcases Nat.eq_zero_or_pos i with e | e
      · subst e; exact Nat.lt_succ_self 0
      · exact Nat.lt_succ_of_lt (ih e)
theorem npk_le0 (f : Nat → Int32) (z : Int32) (i : Nat) : (npk f z i).1 ≤ i := by
  rcases Nat.eq_zero_or_pos i with e | e
  · subst e; exact Nat.le_refl 0
  · exact Nat.le_of_lt (npk_lt f z i e)
theorem npk_yes {f : Nat → Int32} {z : Int32} {i : Nat} (h1 : bt z i = true) (h2 : zpop (f i &&& z) < (npk f z i).2) : npk f z (i + 1) = (i, zpop (f i &&& z)) := by
  show (if _ then _ else _) = _
  rw [if_pos ⟨h1, h2⟩]
theorem npk_no {f : Nat → Int32} {z : Int32} {i : Nat} (h : ¬ (bt z i = true ∧ zpop (f i &&& z) < (npk f z i).2)) : npk f z (i + 1) = npk f z i := by
  show (if _ then _ else _) = _
  rw [if_neg h]
/-- edges inside z -/
def ews (f : Nat → Int32) (z : Int32) (i : Nat) : Nat := if bt z i = true then zpop (f i &&& z) else 0
def ewn (f : Nat → Int32) (N : Nat) (z : Int32) : Nat := fb_sm (ews f z) N / 2
theorem ews_le (f : Nat → Int32) (z : Int32) (i : Nat) : ews f z i ≤ 32 := by
  unfold ews
  split
  · exact pop_32 _
  · exact Nat.zero_le _
theorem ews_b (f : Nat → Int32) (z : Int32) (n : Nat) : fb_sm (ews f z) n ≤ n * 32 := fb_sm_bound fun k _ => ews_le f z k
theorem ewn_b (f : Nat → Int32) {N : Nat} (hN : N ≤ 20) (z : Int32) : ewn f N z ≤ 320 := by
  have := ews_b f z N
  unfold ewn
  omega
theorem ews_yes {f : Nat → Int32} {z : Int32} {i : Nat} (h : bt z i = true) : fb_sm (ews f z) (i + 1) = fb_sm (ews f z) i + zpop (f i &&& z) := by
  rw [fb_sm_succ]; unfold ews; rw [if_pos h]
theorem ews_no {f : Nat → Int32} {z : Int32} {i : Nat} (h : bt z i = false) : fb_sm (ews f z) (i + 1) = fb_sm (ews f z) i := by
  rw [fb_sm_succ]; unfold ews; rw [if_neg (by rw [h]; exact Bool.false_ne_true)]; rfl
/-- left, the best so far, its edges, after t nodes are peeled -/
def dsk (f : Nat → Int32) (N : Nat) : Nat → Int32 × Int32 × Nat
  | 0 => (zal N, zal N, ewn f N (zal N))
  | t + 1 => if (dsk f N t).2.2 * zpop (zdl (dsk f N t).1 (npk f (dsk f N t).1 N).1) < ewn f N (zdl (dsk f N t).1 (npk f (dsk f N t).1 N).1) * zpop (dsk f N t).2.1 then (zdl (dsk f N t).1 (npk f (dsk f N t).1 N).1, zdl (dsk f N t).1 (npk f (dsk f N t).1 N).1, ewn f N (zdl (dsk f N t).1 (npk f (dsk f N t).1 N).1)) else (zdl (dsk f N t).1 (npk f (dsk f N t).1 N).1, (dsk f N t).2)
theorem dsk_1 (f : Nat → Int32) (N t : Nat) : (dsk f N (t + 1)).1 = zdl (dsk f N t).1 (npk f (dsk f N t).1 N).1 := by
  show (if _ then _ else _ : Int32 × Int32 × Nat).1 = _
  split <;> rfl
theorem dsk_yes {f : Nat → Int32} {N t : Nat} {x : Int32} (hx : x = zdl (dsk f N t).1 (npk f (dsk f N t).1 N).1) (h : (dsk f N t).2.2 * zpop x < ewn f N x * zpop (dsk f N t).2.1) : dsk f N (t + 1) = (x, x, ewn f N x) := by
  subst hx
  show (if _ then _ else _) = _
  rw [if_pos h]
theorem dsk_no {f : Nat → Int32} {N t : Nat} {x : Int32} (hx : x = zdl (dsk f N t).1 (npk f (dsk f N t).1 N).1) (h : ewn f N x * zpop (dsk f N t).2.1 ≤ (dsk f N t).2.2 * zpop x) : dsk f N (t + 1) = (x, (dsk f N t).2) := by
  subst hx
  show (if _ then _ else _) = _
  rw [if_neg (Nat.not_lt.mpr h)]
theorem dsk_sub {f : Nat → Int32} {N : Nat} (hN : N ≤ 20) : ∀ t, zle (dsk f N t).1 (zal N) ∧ zle (dsk f N t).2.1 (zal N) ∧ (dsk f N t).2.2 = ewn f N (dsk f N t).2.1
  | 0 => ⟨le_rf _, le_rf _, rfl⟩
  | t + 1 => by
    obtain ⟨h1, h2, h3⟩ := dsk_sub hN t
    have hn : (npk f (dsk f N t).1 N).1 < 32 := by have := npk_le0 f (dsk f N t).1 N; omega
    have h4 : zle (zdl (dsk f N t).1 (npk f (dsk f N t).1 N).1) (zal N) := le_tr (le_dl hn) h1
    unfold dsk
    split
    · exact ⟨h4, h4, rfl⟩
    · exact ⟨h4, h2, h3⟩
/-- triangles, each for each of its edges -/
def tri (f : Nat → Int32) (i j : Nat) : Nat := if i < j ∧ bt (f i) j = true then zpop (f i &&& f j) else 0
def trs (f : Nat → Int32) (N i : Nat) : Nat := fb_sm (tri f i) N
theorem tri_le (f : Nat → Int32) (i j : Nat) : tri f i j ≤ 32 := by
  unfold tri
  split
  · exact pop_32 _
  · exact Nat.zero_le _
theorem tri_0 (f : Nat → Int32) (i : Nat) : ∀ n, n ≤ i + 1 → fb_sm (tri f i) n = 0
  | 0, _ => rfl
  | n + 1, h => by
    rw [fb_sm_succ, tri_0 f i n (by omega)]
    unfold tri
    rw [if_neg (by omega)]
theorem trs_b (f : Nat → Int32) {N : Nat} (hN : N ≤ 20) (i : Nat) : trs f N i ≤ 640 := by
  have : trs f N i ≤ N * 32 := fb_sm_bound fun k _ => tri_le f i k
  omega
theorem trs_bb (f : Nat → Int32) {N : Nat} (hN : N ≤ 20) (n : Nat) : fb_sm (trs f N) n ≤ n * 640 := fb_sm_bound fun k _ => trs_b f hN k
theorem tri_b (f : Nat → Int32) (i n : Nat) : fb_sm (tri f i) n ≤ n * 32 := fb_sm_bound fun k _ => tri_le f i k
