/-! ===== trusses; peeling, the model's way ===== -/
def trS (f : Nat → Int32) (N : Nat) (k : Int) (T : Nat → Int32) : Prop := (∀ u, u < N → zle (T u) (f u)) ∧ (∀ u v, u < N → bt (T u) v = true → bt (T v) u = true) ∧ ∀ u v, u < N → bt (T u) v = true → k ≤ (zpop (T u &&& T v) : Int)
/-- g holds the edges of the truss -/
def isTr (f : Nat → Int32) (N : Nat) (k : Int) (g : Nat → Int32) : Prop := trS f N k g ∧ ∀ T, trS f N k T → ∀ u, u < N → zle (T u) (g u)
def tE (g : Nat → Int32) (N : Nat) : Nat := fb_sm (fun u => zpop (g u)) N
def tI (f : Nat → Int32) (N : Nat) (k : Int) (g : Nat → Int32) : Prop := (∀ u, u < N → zle (g u) (f u)) ∧ (∀ u v, u < N → bt (g u) v = true → bt (g v) u = true) ∧ ∀ T, trS f N k T → ∀ u, u < N → zle (T u) (g u)
def tO (f : Nat → Int32) (N : Nat) (k : Int) (g : Nat → Int32) (d : Bool) (t : Nat) : Prop := tI f N k g ∧ (d = true → 2 * t + tE g N ≤ tE f N) ∧ (d = false → trS f N k g)
def tJ (f : Nat → Int32) (N : Nat) (k : Int) (g0 : Nat → Int32) (V : Nat → Nat → Prop) (g : Nat → Int32) (d : Bool) : Prop := tI f N k g ∧ (d = false → (∀ u, u < N → g u = g0 u) ∧ ∀ a b, a < N → V a b → bt (g0 a) b = true → k ≤ (zpop (g0 a &&& g0 b) : Int)) ∧ (d = true → tE g N + 2 ≤ tE g0 N)
theorem tE_cong {g g2 : Nat → Int32} {N : Nat} (h : ∀ u, u < N → g u = g2 u) : tE g N = tE g2 N := fb_sm_cong fun k hk => by rw [h k hk]
theorem tI_in {f g : Nat → Int32} {N : Nat} {k : Int} (hg : gd f N) (h : tI f N k g) {u v : Nat} (hu : u < N) (hv : bt (g u) v = true) : v < N ∧ v ≠ u := by
  have := hg.2.1 u v hu (h.1 u hu v hv)
  exact ⟨this.1, this.2.1⟩
theorem tO_0 {f g : Nat → Int32} {N : Nat} (k : Int) (hg : gd f N) (h : ∀ u, u < N → g u = f u) : tO f N k g true 0 := by
  refine ⟨⟨fun u hu => by rw [h u hu]; exact le_rf _, fun u v hu hv => ?_, fun T hT u hu => by rw [h u hu]; exact hT.1 u hu⟩, fun _ => by rw [tE_cong h]; omega, fun q => by cases q⟩
  rw [h u hu] at hv
  have := hg.2.1 u v hu hv
  rw [h v this.1]
  exact this.2.2
theorem tJ_0 {f g : Nat → Int32} {N : Nat} {k : Int} {d : Bool} {t : Nat} {V : Nat → Nat → Prop} (h : tO f N k g d t) (hV : ∀ a b, ¬ V a b) : tJ f N k g V g false := ⟨h.1, fun _ => ⟨fun _ _ => rfl, fun a b _ hab => absurd hab (hV a b)⟩, fun q => by cases q⟩
theorem tJ_V {f g g0 : Nat → Int32} {N : Nat} {k : Int} {d : Bool} {V V2 : Nat → Nat → Prop} (h : tJ f N k g0 V g d) (hV : ∀ a b, a < N → b < N → b ≠ a → V2 a b → V a b) (hg : gd f N) : tJ f N k g0 V2 g d := by
  refine ⟨h.1, fun hd => ?_, h.2.2⟩
  obtain ⟨h1, h2⟩ := h.2.1 hd
  refine ⟨h1, fun a b ha hab hb => ?_⟩
  have h3 := tI_in hg h.1 ha (by rw [h1 a ha]; exact hb)
  exact h2 a b ha (hV a b ha h3.1 h3.2 hab) hb
theorem tJ_skip {f g g0 : Nat → Int32} {N : Nat} {k : Int} {d : Bool} {V : Nat → Nat → Prop} {i j : Nat} (h : tJ f N k g0 V g d) (hi : i < N) (hb : bt (g i) j = false) : tJ f N k g0 (fun a b => V a b ∨ (a = i ∧ b = j)) g d := by
  refine ⟨h.1, fun hd => ?_, h.2.2⟩
  obtain ⟨h1, h2⟩ := h.2.1 hd
  refine ⟨h1, fun a b ha hab hc => ?_⟩
  rcases hab with q | ⟨q1, q2⟩
  · exact h2 a b ha q hc
  · rw [q1, q2, ← h1 i hi, hb] at hc; cases hc
theorem tJ_stay {f g g0 : Nat → Int32} {N : Nat} {k : Int} {d : Bool} {V : Nat → Nat → Prop} {i j : Nat} (h : tJ f N k g0 V g d) (hi : i < N) (hj : j < N) (hk : k ≤ (zpop (g i &&& g j) : Int)) : tJ f N k g0 (fun a b => V a b ∨ (a = i ∧ b = j)) g d := by
  refine ⟨h.1, fun hd => ?_, h.2.2⟩
  obtain ⟨h1, h2⟩ := h.2.1 hd
  refine ⟨h1, fun a b ha hab hc => ?_⟩
  rcases hab with q | ⟨q1, q2⟩
  · exact h2 a b ha q hc
  · rw [q1, q2, ← h1 i hi, ← h1 j hj]; exact hk
def cut2 (g : Nat → Int32) (i j : Nat) : Nat → Int32 := upd (upd g i (zdl (g i) j)) j (zdl (upd g i (zdl (g i) j) j) i)
theorem cut2_i {g : Nat → Int32} {i j : Nat} (h : i ≠ j) : cut2 g i j i = zdl (g i) j := by unfold cut2 upd; rw [if_neg h, if_pos rfl]
theorem cut2_j {g : Nat → Int32} {i j : Nat} (h : i ≠ j) : cut2 g i j j = zdl (g j) i := by unfold cut2 upd; rw [if_pos rfl, if_neg (Ne.symm h)]
theorem cut2_o {g : Nat → Int32} {i j w : Nat} (h : w ≠ i) (h2 : w ≠ j) : cut2 g i j w = g w := by unfold cut2 upd; rw [if_neg h2, if_neg h]
theorem cut2_b {g : Nat → Int32} {i j w x : Nat} (hij : i ≠ j) (hi : i < 32) (hj : j < 32) : bt (cut2 g i j w) x = true ↔ bt (g w) x = true ∧ ¬ (w = i ∧ x = j) ∧ ¬ (w = j ∧ x = i) := by
  by_cases h1 : w = i
  · subst h1
    rw [cut2_i hij, b_dl hj, Bool.and_eq_true]
    constructor
    · rintro ⟨q1, q2⟩
      refine ⟨q1, fun q => ?_, fun q => hij q.1⟩
      rw [q.2] at q2; simp at q2
    · rintro ⟨q1, q2, -⟩
      exact ⟨q1, by simp; exact fun q => q2 ⟨rfl, q⟩⟩
  · by_cases h2 : w = j
    · subst h2
      rw [cut2_j hij, b_dl hi, Bool.and_eq_true]
      constructor
      · rintro ⟨q1, q2⟩
        refine ⟨q1, fun q => hij q.1.symm, fun q => ?_⟩
        rw [q.2] at q2; simp at q2
      · rintro ⟨q1, -, q2⟩
        exact ⟨q1, by simp; exact fun q => q2 ⟨rfl, q⟩⟩
    · rw [cut2_o h1 h2]
      exact ⟨fun q => ⟨q, fun z => h1 z.1, fun z => h2 z.1⟩, fun q => q.1⟩
theorem tE_cut {g : Nat → Int32} {N i j : Nat} (hi : i < N) (hj : j < N) (hij : i ≠ j) (h1 : bt (g i) j = true) (h2 : bt (g j) i = true) : tE (cut2 g i j) N + 2 = tE g N := by
  have e1 : fb_sm (fun u => if u = i then zpop (zdl (g i) j) else zpop (g u)) N + zpop (g i) = tE g N + zpop (zdl (g i) j) := fb_sm_upd (fun u => zpop (g u)) _ hi
  have e2 : fb_sm (fun u => if u = j then zpop (zdl (g j) i) else (if u = i then zpop (zdl (g i) j) else zpop (g u))) N + (if j = i then zpop (zdl (g i) j) else zpop (g j)) = fb_sm (fun u => if u = i then zpop (zdl (g i) j) else zpop (g u)) N + zpop (zdl (g j) i) := fb_sm_upd (fun u => if u = i then zpop (zdl (g i) j) else zpop (g u)) _ hj
  have e3 : tE (cut2 g i j) N = fb_sm (fun u => if u = j then zpop (zdl (g j) i) else (if u = i then zpop (zdl (g i) j) else zpop (g u))) N := fb_sm_cong fun w _ => by
    by_cases q : w = j
    · rw [if_pos q, q, cut2_j hij]
    · rw [if_neg q]
      by_cases q2 : w = i
      · rw [if_pos q2, q2, cut2_i hij]
      · rw [if_neg q2, cut2_o q2 q]
  rw [if_neg (Ne.symm hij)] at e2
  have e4 := pop_dl h1
  have e5 := pop_dl h2
  omega
theorem tJ_drop {f g g0 : Nat → Int32} {N : Nat} {k : Int} {d : Bool} {V V2 : Nat → Nat → Prop} {i j : Nat} (hg : gd f N) (h : tJ f N k g0 V g d) (hi : i < N) (hb : bt (g i) j = true) (hk : ¬ k ≤ (zpop (g i &&& g j) : Int)) : tJ f N k g0 V2 (cut2 g i j) true := by
  have hN := hg.1
  obtain ⟨hj, hji⟩ := tI_in hg h.1 hi hb
  have hij : i ≠ j := Ne.symm hji
  have hb2 : bt (g j) i = true := h.1.2.1 i j hi hb
  have cb : ∀ w x, bt (cut2 g i j w) x = true ↔ bt (g w) x = true ∧ ¬ (w = i ∧ x = j) ∧ ¬ (w = j ∧ x = i) := fun w x => cut2_b hij (by omega) (by omega)
  refine ⟨⟨fun u hu x hx => h.1.1 u hu x ((cb u x).mp hx).1, fun u v hu hv => ?_, fun T hT u hu x hx => ?_⟩, fun q => (by cases q), fun _ => ?_⟩
  · obtain ⟨q1, q2, q3⟩ := (cb u v).mp hv
    exact (cb v u).mpr ⟨h.1.2.1 u v hu q1, fun q => q3 ⟨q.2, q.1⟩, fun q => q2 ⟨q.2, q.1⟩⟩
  · have key : ∀ a b, a < N → b < N → bt (T a) b = true → zpop (T a &&& T b) ≤ zpop (g a &&& g b) := fun a b ha hb _ => pop_le (le_and (h.1.2.2 T hT a ha) (h.1.2.2 T hT b hb))
    refine (cb u x).mpr ⟨h.1.2.2 T hT u hu x hx, fun q => ?_, fun q => ?_⟩
    · rw [q.1, q.2] at hx
      have := hT.2.2 i j hi hx
      have := key i j hi hj hx
      omega
    · rw [q.1, q.2] at hx
      have hx2 := hT.2.1 j i hj hx
      have := hT.2.2 i j hi hx2
      have := key i j hi hj hx2
      omega
  · have e := tE_cut hi hj hij hb hb2
    cases d
    · rw [tE_cong (h.2.1 rfl).1] at e; omega
    · have := h.2.2 rfl; omega
theorem tO_step {f g g0 : Nat → Int32} {N t : Nat} {k : Int} {d : Bool} {V : Nat → Nat → Prop} (hg : gd f N) (h : tO f N k g0 true t) (hj : tJ f N k g0 V g d) (hV : ∀ a b, a < N → b < N → b ≠ a → V a b ∨ V b a) : tO f N k g d (t + 1) := by
  refine ⟨hj.1, fun hd => ?_, fun hd => ?_⟩
  · have := hj.2.2 hd
    have := h.2.1 rfl
    omega
  · obtain ⟨h1, h2⟩ := hj.2.1 hd
    refine ⟨hj.1.1, hj.1.2.1, fun u v hu hv => ?_⟩
    obtain ⟨hv1, hv2⟩ := tI_in hg hj.1 hu hv
    have hv3 := hj.1.2.1 u v hu hv
    rw [h1 u hu, h1 v hv1]
    rw [h1 u hu] at hv
    rw [h1 v hv1] at hv3
    rcases hV u v hu hv1 hv2 with q | q
    · exact h2 u v hu q hv
    · have := h2 v u hv1 q hv3
      rw [and_c] at this
      exact this
theorem tO_end {f g : Nat → Int32} {N t : Nat} {k : Int} (h : tO f N k g false t) : isTr f N k g := ⟨h.2.2 rfl, h.1.2.2⟩
theorem tE_b {f : Nat → Int32} {N : Nat} (hg : gd f N) : tE f N ≤ 380 := by
  have h1 : tE f N ≤ N * 19 := fb_sm_bound fun k hk => by
    have := pop_lt20 hg hk (f k)
    rw [show f k &&& f k = f k from set_ext fun i => by rw [b_andt]; exact ⟨fun q => q.1, fun q => ⟨q, q⟩⟩] at this
    omega
  have := hg.1
  omega
theorem tO_t {f g : Nat → Int32} {N t : Nat} {k : Int} (hg : gd f N) (h : tO f N k g true t) : t ≤ 190 := by
  have := h.2.1 rfl
  have := tE_b hg
  omega
theorem trS_mono {f T : Nat → Int32} {N : Nat} {k k2 : Int} (h : trS f N k T) (hk : k2 ≤ k) : trS f N k2 T := ⟨h.1, h.2.1, fun u v hu hv => by have := h.2.2 u v hu hv; omega⟩
theorem isTr_go {f g g2 : Nat → Int32} {N : Nat} {k k2 : Int} (h : isTr f N k g) (h2 : isTr g N k2 g2) (hk : k ≤ k2) : isTr f N k2 g2 := by
  refine ⟨⟨fun u hu => le_tr (h2.1.1 u hu) (h.1.1 u hu), h2.1.2.1, h2.1.2.2⟩, fun T hT u hu => h2.2 T ⟨fun w hw => h.2 T (trS_mono hT hk) w hw, hT.2.1, hT.2.2⟩ u hu⟩
theorem isTr_gd {f g : Nat → Int32} {N : Nat} {k : Int} (hg : gd f N) (h : isTr f N k g) : ∀ u v, u < N → bt (g u) v = true → v < N ∧ v ≠ u ∧ bt (g v) u = true := fun u v hu hv => by
  have := hg.2.1 u v hu (h.1.1 u hu v hv)
  exact ⟨this.1, this.2.1, h.1.2.1 u v hu hv⟩
theorem isTr_one {f g g2 : Nat → Int32} {N : Nat} {k : Int} (h : isTr f N k g) (h2 : isTr f N k g2) : ∀ u, u < N → g u = g2 u := fun u hu => le_anti (h2.2 g h.1 u hu) (h.2 g2 h2.1 u hu)
/-- k is the truss number of the edge u v -/
def tnum (f : Nat → Int32) (N u v k : Nat) : Prop := (∃ T, trS f N ((k : Int) - 2) T ∧ bt (T u) v = true) ∧ ∀ (kk : Int) T, trS f N kk T → bt (T u) v = true → kk ≤ (k : Int) - 2
theorem tnum_one {f : Nat → Int32} {N u v k k2 : Nat} (h : tnum f N u v k) (h2 : tnum f N u v k2) : k = k2 := by
  obtain ⟨⟨T, a1, a2⟩, a3⟩ := h
  obtain ⟨⟨T2, b1, b2⟩, b3⟩ := h2
  have := a3 _ T2 b1 b2
  have := b3 _ T a1 a2
  omega
theorem trS_f {f : Nat → Int32} {N : Nat} (hg : gd f N) : trS f N 0 f := ⟨fun u _ => le_rf _, fun u v hu hv => (hg.2.1 u v hu hv).2.2, fun u v hu hv => Int.natCast_nonneg _⟩
/-- an edge has at most 18 triangles -/
theorem trS_18 {f T : Nat → Int32} {N u v : Nat} {k : Int} (hg : gd f N) (h : trS f N k T) (hu : u < N) (hv : bt (T u) v = true) : k ≤ 18 := by
  have h1 := h.2.2 u v hu hv
  have h2 := hg.2.1 u v hu (h.1 u hu v hv)
  have hN := hg.1
  have h3 : zle (T u &&& T v) (zdl (zal N) u) := fun i hi => by
    obtain ⟨q1, q2⟩ := b_andt.mp hi
    have q3 := hg.2.1 u i hu (h.1 u hu i q1)
    rw [b_dl (by omega), b_al hN, decide_eq_true q3.1, decide_eq_false q3.2.1]; rfl
  have h4 : bt (T u &&& T v) v = false := by
    cases q : bt (T u &&& T v) v
    · rfl
    · exact absurd rfl (hg.2.1 v v h2.1 (h.1 v h2.1 v (b_andt.mp q).2)).2.1
  have h5 : bt (zdl (zal N) u) v = true := by rw [b_dl (by omega), b_al hN, decide_eq_true h2.1, decide_eq_false h2.2.1]; rfl
  have h6 := pop_lt h3 h4 h5
  have h7 := pop_dl (x := zal N) (j := u) (by rw [b_al hN]; exact decide_eq_true hu)
  rw [pop_al hN] at h7
  omega
theorem tnum_of {f g T : Nat → Int32} {N u v k : Nat} (hu : u < N) (h : isTr f N ((k : Int) - 1) g) (hb : bt (g u) v = false) (hT : trS f N ((k : Int) - 2) T) (hTb : bt (T u) v = true) : tnum f N u v k := by
  refine ⟨⟨T, hT, hTb⟩, fun kk T2 h2 hb2 => ?_⟩
  rcases Int.lt_or_le kk ((k : Int) - 1) with q | q
  · omega
  · have := h.2 T2 (trS_mono h2 q) u hu v hb2
    rw [hb] at this; cases this
-- peeling
theorem npk_mem {f : Nat → Int32} {N : Nat} (hg : gd f N) (z : Int32) : ∀ i, i ≤ N → (((∀ w, w < i → bt z w = false) ∧ npk f z i = (0, 20)) ∨ (bt z (npk f z i).1 = true ∧ (npk f z i).1 < i ∧ (npk f z i).2 = zpop (f (npk f z i).1 &&& z)))
  | 0, _ => Or.inl ⟨fun w hw => absurd hw (Nat.not_lt_zero w), rfl⟩
  | i + 1, hi => by
    have ih := npk_mem hg z i (by omega)
    by_cases hc : bt z i = true ∧ zpop (f i &&& z) < (npk f z i).2
    · rw [npk_yes hc.1 hc.2]
      exact Or.inr ⟨hc.1, Nat.lt_succ_self i, rfl⟩
    · rw [npk_no hc]
      rcases ih with ⟨h1, h2⟩ | ⟨h1, h2, h3⟩
      · refine Or.inl ⟨fun w hw => ?_, h2⟩
        by_cases e : w = i
        · rw [e]
          cases q : bt z i
          · rfl
          · exact absurd ⟨q, by rw [h2]; exact pop_lt20 hg (by omega) z⟩ hc
        · exact h1 w (by omega)
      · exact Or.inr ⟨h1, by omega, h3⟩
theorem npk_in {f : Nat → Int32} {N : Nat} {z : Int32} (hg : gd f N) (hz : zsub z N) (h : 0 < zpop z) : bt z (npk f z N).1 = true ∧ (npk f z N).1 < N := by
  rcases npk_mem hg z N (Nat.le_refl N) with ⟨h1, -⟩ | ⟨h1, h2, -⟩
  · obtain ⟨i, hi⟩ := pop_ex h
    rw [h1 i (hz i hi)] at hi; cases hi
  · exact ⟨h1, h2⟩
theorem dsk_pop {f : Nat → Int32} {N : Nat} (hg : gd f N) : ∀ t, t ≤ N → zpop (dsk f N t).1 = N - t
  | 0, _ => pop_al hg.1
  | t + 1, h => by
    have ih := dsk_pop hg t (by omega)
    have hz : zsub (dsk f N t).1 N := sub_le (dsk_sub hg.1 t).1 (sub_al hg.1)
    have h1 := (npk_in hg hz (by omega)).1
    rw [dsk_1]
    have := pop_dl h1
    omega
/-- the model's search for the next node: x is it, or -1 -/
def fI (f : Nat → Int32) (z : Int32) (i : Nat) (x : Int32) : Prop := (x = (-1) ∧ ∀ w, w < i → bt z w = false) ∨ ∃ a, x = nI a ∧ a < i ∧ bt z a = true ∧ npk f z i = (a, zpop (f a &&& z))
theorem fI_no {f : Nat → Int32} {z : Int32} {i : Nat} {x : Int32} (h : fI f z i x) (hb : bt z i = false) : fI f z (i + 1) x := by
  have hn : npk f z (i + 1) = npk f z i := npk_no (fun q => by rw [hb] at q; cases q.1)
  rcases h with ⟨h1, h2⟩ | ⟨a, h1, h2, h3, h4⟩
  · refine Or.inl ⟨h1, fun w hw => ?_⟩
    by_cases e : w = i
    · rw [e]; exact hb
    · exact h2 w (by omega)
  · exact Or.inr ⟨a, h1, by omega, h3, by rw [hn]; exact h4⟩
theorem fI_first {f : Nat → Int32} {z : Int32} {i N : Nat} {x : Int32} (hg : gd f N) (hi : i < N) (h : fI f z i x) (hb : bt z i = true) (hx : x < 0) : fI f z (i + 1) (nI i) := by
  rcases h with ⟨h1, h2⟩ | ⟨a, h1, h2, -⟩
  · have h3 : npk f z i = (0, 20) := by
      rcases npk_mem hg z i (by omega) with ⟨-, q⟩ | ⟨q1, q2, -⟩
      · exact q
      · rw [h2 _ q2] at q1; cases q1
    exact Or.inr ⟨i, rfl, Nat.lt_succ_self i, hb, npk_yes hb (by rw [h3]; exact pop_lt20 hg hi z)⟩
  · rw [h1] at hx
    have := hg.1
    exact absurd hx (nI_pos (by omega))
theorem fI_get {f : Nat → Int32} {z : Int32} {i : Nat} {x : Int32} (h : fI f z i x) (hx : ¬ x < 0) : ∃ a, x = nI a ∧ a < i ∧ bt z a = true ∧ npk f z i = (a, zpop (f a &&& z)) := by
  rcases h with ⟨h1, -⟩ | h
  · rw [h1] at hx; exact absurd (by decide) hx
  · exact h
theorem fI_less {f : Nat → Int32} {z : Int32} {i a : Nat} (hb : bt z i = true) (hn : npk f z i = (a, zpop (f a &&& z))) (h : zpop (f i &&& z) < zpop (f a &&& z)) : fI f z (i + 1) (nI i) := Or.inr ⟨i, rfl, Nat.lt_succ_self i, hb, npk_yes hb (by rw [hn]; exact h)⟩
theorem fI_more {f : Nat → Int32} {z : Int32} {i a : Nat} (ha : a < i) (hb : bt z a = true) (hn : npk f z i = (a, zpop (f a &&& z))) (h : zpop (f a &&& z) ≤ zpop (f i &&& z)) : fI f z (i + 1) (nI a) := Or.inr ⟨a, rfl, by omega, hb, by rw [npk_no (fun q => absurd q.2 (by rw [hn]; exact Nat.not_lt.mpr h)), hn]⟩
theorem fI_end {f : Nat → Int32} {z : Int32} {N : Nat} {x : Int32} (hz : zsub z N) (hp : 0 < zpop z) (h : fI f z N x) : x = nI (npk f z N).1 := by
  rcases h with ⟨-, h2⟩ | ⟨a, h1, -, -, h4⟩
  · obtain ⟨i, hi⟩ := pop_ex hp
    rw [h2 i (hz i hi)] at hi; cases hi
  · rw [h1, h4]
