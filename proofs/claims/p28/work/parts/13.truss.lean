/-! ===== trusses; peeling, the model's way ===== -/
def trS (f : Nat → Int32) (N : Nat) (k : Int) (T : Nat → Int32) : Prop := (∀ u, u < N → zle (T u) (f u)) ∧ (∀ u v, u < N → bt (T u) v = true → bt (T v) u = true) ∧ ∀ u v, u < N → bt (T u) v = true → k ≤ (zpop (T u &&& T v) : Int)
/-- g holds the edges of the truss -/
def isTr (f : Nat → Int32) (N : Nat) (k : Int) (g : Nat → Int32) : Prop := trS f N k g ∧ ∀ T, trS f N k T → ∀ u, u < N → zle (T u) (g u)
def tE (g : Nat → Int32) (N : Nat) : Nat := fb_sm (fun u => zpop (g u)) N
def tI (f : Nat → Int32) (N : Nat) (k : Int) (g : Nat → Int32) : Prop := (∀ u, u < N → zle (g u) (f u)) ∧ (∀ u v, u < N → bt (g u) v = true → bt (g v) u = true) ∧ ∀ T, trS f N k T → ∀ u, u < N → zle (T u) (g u)
def tO (f : Nat → Int32) (N : Nat) (k : Int) (g : Nat → Int32) (d : Bool) (t : Nat) : Prop := tI f N k g ∧ (d = true → 2 * t + tE g N ≤ tE f N) ∧ (d = false → trS f N k g)
def tJ (f : Nat → Int32) (N : Nat) (k : Int) (g0 : Nat → Int32) (V : Nat → Nat → Prop) (g : Nat → Int32) (d : Bool) : Prop := tI f N k g ∧ (d = false → (∀ u, u < N → g u = g0 u) ∧ ∀ a b, a < N → V a b → bt (g0 a) b = true → k ≤ (zpop (g0 a &&& g0 b) : Int)) ∧ (d = true → tE g N + 2 ≤ tE g0 N)
theorem tE_cong {g g2 : Nat → Int32} {N : Nat} (h : ∀ u, u < N → g u = g2 u) : tE g N = tE g2 N := fb_sm_cong fun k hk => by rw [h k hk]
theorem tI_in {f g : Nat → Int32} {N : Nat} {k : Int} (hg : gd f N) (h : tI f N k g) {u v : Nat} (hu : u < N) (hv : bt (g u) v = true) : v < N ∧ v ≠ u := by
  have := hg.2.1 u v hu (h.1 u hu v hv)
  exact ⟨this.1, this.2.1⟩
theorem tO_0 {f g : Nat → Int32} {N : Nat} (k : Int) (hg : gd f N) (h : ∀ u, u < N → g u = f u) : tO f N k g true 0 := by
  refine ⟨⟨fun u hu => by rw [h u hu]; exact le_rf _, fun u v hu hv => ?_, fun T hT u hu => by rw [h u hu]; exact hT.1 u hu⟩, fun _ => by rw [tE_cong h]; omega, fun q => by cases q⟩
  rw [h u hu] at hv
  have := hg.2.1 u v hu hv
  rw [h v this.1]
  exact this.2.2
theorem tJ_V {f g g0 : Nat → Int32} {N : Nat} {k : Int} {d : Bool} {V V2 : Nat → Nat → Prop} (h : tJ f N k g0 V g d) (hV : ∀ a b, a < N → b < N → b ≠ a → V2 a b → V a b) (hg : gd f N) : tJ f N k g0 V2 g d := by
  refine ⟨h.1, fun hd => ?_, h.2.2⟩
  obtain ⟨h1, h2⟩ := h.2.1 hd
  refine ⟨h1, fun a b ha hab hb => ?_⟩
  have h3 := tI_in hg h.1 ha (by rw [h1 a ha]; exact hb)
  exact h2 a b ha (hV a b ha h3.1 h3.2 hab) hb
theorem tJ_skip {f g g0 : Nat → Int32} {N : Nat} {k : Int} {d : Bool} {V : Nat → Nat → Prop} {i j : Nat} (h : tJ f N k g0 V g d) (hi : i < N) (hb : bt (g i) j = false) : tJ f N k g0 (fun a b => V a b ∨ (a = i ∧ b = j)) g d := by
  refine ⟨h.1, fun hd => ?_, h.2.2⟩
  obtain ⟨h1, h2⟩ := h.2.1 hd
  refine ⟨h1, fun a b ha hab hc => ?_⟩
  rcases hab with q | ⟨q1, q2⟩
  · exact h2 a b ha q hc
  · rw [q1, q2, ← h1 i hi, hb] at hc; cases hc
theorem tJ_stay {f g g0 : Nat → Int32} {N : Nat} {k : Int} {d : Bool} {V : Nat → Nat → Prop} {i j : Nat} (h : tJ f N k g0 V g d) (hi : i < N) (hj : j < N) (hk : k ≤ (zpop (g i &&& g j) : Int)) : tJ f N k g0 (fun a b => V a b ∨ (a = i ∧ b = j)) g d := by
  refine ⟨h.1, fun hd => ?_, h.2.2⟩
  obtain ⟨h1, h2⟩ := h.2.1 hd
  refine ⟨h1, fun a b ha hab hc => ?_⟩
  rcases hab with q | ⟨q1, q2⟩
  · exact h2 a b ha q hc
  · rw [q1, q2, ← h1 i hi, ← h1 j hj]; exact hk
def cut2 (g : Nat → Int32) (i j : Nat) : Nat → Int32 := upd (upd g i (zdl (g i) j)) j (zdl (upd g i (zdl (g i) j) j) i)
theorem cut2_i {g : Nat → Int32} {i j : Nat} (h : i ≠ j) : cut2 g i j i = zdl (g i) j := by unfold cut2 upd; rw [if_neg h, if_pos rfl]
theorem cut2_j {g : Nat → Int32} {i j : Nat} (h : i ≠ j) : cut2 g i j j = zdl (g j) i := by unfold cut2 upd; rw [if_pos rfl, if_neg (Ne.symm h)]
theorem cut2_o {g : Nat → Int32} {i j w : Nat} (h : w ≠ i) (h2 : w ≠ j) : cut2 g i j w = g w := by unfold cut2 upd; rw [if_neg h2, if_neg h]
theorem cut2_b {g : Nat → Int32} {i j w x : Nat} (hij : i ≠ j) (hi : i < 32) (hj : j < 32) : bt (cut2 g i j w) x = true ↔ bt (g w) x = true ∧ ¬ (w = i ∧ x = j) ∧ ¬ (w = j ∧ x = i) := by
  by_cases h1 : w = i
  · subst h1
    rw [cut2_i hij, b_dl hj, Bool.and_eq_true]
    constructor
    · rintro ⟨q1, q2⟩
      refine ⟨q1, fun q => ?_, fun q => hij q.1⟩
      rw [q.2] at q2; simp at q2
    · rintro ⟨q1, q2, -⟩
      exact ⟨q1, by simp; exact fun q => q2 ⟨rfl, q⟩⟩
  · by_cases h2 : w = j
    · subst h2
      rw [cut2_j hij, b_dl hi, Bool.and_eq_true]
      constructor
      · rintro ⟨q1, q2⟩
        refine ⟨q1, fun q => hij q.1.symm, fun q => ?_⟩
        rw [q.2] at q2; simp at q2
      · rintro ⟨q1, -, q2⟩
        exact ⟨q1, by simp; exact fun q => q2 ⟨rfl, q⟩⟩
    · rw [cut2_o h1 h2]
      exact ⟨fun q => ⟨q, fun z => h1 z.1, fun z => h2 z.1⟩, fun q => q.1⟩
theorem tE_cut {g : Nat → Int32} {N i j : Nat} (hi : i < N) (hj : j < N) (hij : i ≠ j) (h1 : bt (g i) j = true) (h2 : bt (g j) i = true) : tE (cut2 g i j) N + 2 = tE g N := by
  have e1 : fb_sm (fun u => if u = i then zpop (zdl (g i) j) else zpop (g u)) N + zpop (g i) = tE g N + zpop (zdl (g i) j) := fb_sm_upd (fun u => zpop (g u)) _ hi
  have e2 : fb_sm (fun u => if u = j then zpop (zdl (g j) i) else (if u = i then zpop (zdl (g i) j) else zpop (g u))) N + (if j = i then zpop (zdl (g i) j) else zpop (g j)) = fb_sm (fun u => if u = i then zpop (zdl (g i) j) else zpop (g u)) N + zpop (zdl (g j) i) := fb_sm_upd (fun u => if u = i then zpop (zdl (g i) j) else zpop (g u)) _ hj
  have e3 : tE (cut2 g i j) N = fb_sm (fun u => if u = j then zpop (zdl (g j) i) else (if u = i then zpop (zdl (g i) j) else zpop (g u))) N := fb_sm_cong fun w _ => by
    by_cases q : w = j
    · rw [if_pos q, q, cut2_j hij]
    · rw [if_neg q]
      by_cases q2 : w = i
      · rw [if_pos q2, q2, cut2_i hij]
      · rw [if_neg q2, cut2_o q2 q]
  rw [if_neg (Ne.symm hij)] at e2
  have e4 := pop_dl h1
  have e5 := pop_dl h2
  omega
theorem tJ_drop {f g g0 : Nat → Int32} {N : Nat} {k : Int} {d : Bool} {V V2 : Nat → Nat → Prop} {i j : Nat} (hg : gd f N) (h : tJ f N k g0 V g d) (hi : i < N) (hb : bt (g i) j = true) (hk : ¬ k ≤ (zpop (g i &&& g j) : Int)) : tJ f N k g0 V2 (cut2 g i j) true := by
  have hN := hg.1
  obtain ⟨hj, hji⟩ := tI_in hg h.1 hi hb
  have hij : i ≠ j := Ne.symm hji
  have hb2 : bt (g j) i = true := h.1.2.1 i j hi hb
  have cb : ∀ w x, bt (cut2 g i j w) x = true ↔ bt (g w) x = true ∧ ¬ (w = i ∧ x = j) ∧ ¬ (w = j ∧ x = i) := fun w x => cut2_b hij (by omega) (by omega)
  refine ⟨⟨fun u hu x hx => h.1.1 u hu x ((cb u x).mp hx).1, fun u v hu hv => ?_, fun T hT u hu x hx => ?_⟩, fun q => (by cases q), fun _ => ?_⟩
  · obtain ⟨q1, q2, q3⟩ := (cb u v).mp hv
    exact (cb v u).mpr ⟨h.1.2.1 u v hu q1, fun q => q3 ⟨q.2, q.1⟩, fun q => q2 ⟨q.2, q.1⟩⟩
  · have key : ∀ a b, a < N → b < N → bt (T a) b = true → zpop (T a &&& T b) ≤ zpop (g a &&& g b) := fun a b ha hb _ => pop_le (le_and (h.1.2.2 T hT a ha) (h.1.2.2 T hT b hb))
    refine (cb u x).mpr ⟨h.1.2.2 T hT u hu x hx, fun q => ?_, fun q => ?_⟩
    · rw [q.1, q.2] at hx
      have := hT.2.2 i j hi hx
      have := key i j hi hj hx
      omega
    · rw [q.1, q.2] at hx
      have hx2 := hT.2.1 j i hj hx
      have := hT.2.2 i j hi hx2
      have := key i j hi hj hx2
      omega
  · have e := tE_cut hi hj hij hb hb2
    cases d
    · rw [tE_cong (h.2.1 rfl).1] at e; omega
    · have := h.2.2 rfl; omega
theorem tO_step {f g g0 : Nat → Int32} {N t : Nat} {k : Int} {d : Bool} {V : Nat → Nat → Prop} (hg : gd f N) (h : tO f N k g0 true t) (hj : tJ f N k g0 V g d) (hV : ∀ a b, a < N → b < N → b ≠ a → V a b ∨ V b a) : tO f N k g d (t + 1) := by
  refine ⟨hj.1, fun hd => ?_, fun hd => ?_⟩
  · have := hj.2.2 hd
    have := h.2.1 rfl
    omega
  · obtain ⟨h1, h2⟩ := hj.2.1 hd
    refine ⟨hj.1.1, hj.1.2.1, fun u v hu hv => ?_⟩
    obtain ⟨hv1, hv2⟩ := tI_in hg hj.1 hu hv
    have hv3 := hj.1.2.1 u v hu hv
    rw [h1 u hu, h1 v hv1]
    rw [h1 u hu] at hv
    rw [h1 v hv1] at hv3
    rcases hV u v hu hv1 hv2 with q | q
    · exact h2 u v hu q hv
    · have := h2 v u hv1 q hv3
      rw [and_c] at this
      exact this
theorem tO_end {f g : Nat → Int32} {N t : Nat} {k : Int} (h : tO f N k g false t) : isTr f N k g := ⟨h.2.2 rfl, h.1.2.2⟩
theorem tE_b {f : Nat → Int32} {N : Nat} (hg : gd f N) : tE f N ≤ 380 := by
  have h1 : tE f N ≤ N * 19 := fb_sm_bound fun k hk => by
    have := pop_lt20 hg hk (f k)
    rw [show f k &&& f k = f k from set_ext fun i => by rw [b_andt]; exact ⟨fun q => q.1, fun q => ⟨q, q⟩⟩] at this
    omega
  have := hg.1
  omega
theorem tO_t {f g : Nat → Int32} {N t : Nat} {k : Int} (hg : gd f N) (h : tO f N k g true t) : t ≤ 190 := by
  have := h.2.1 rfl
  have := tE_b hg
  omega
-- peeling
theorem npk_mem {f : Nat → Int32} {N : Nat} (hg : gd f N) (z : Int32) : ∀ i, i ≤ N → (((∀ w, w < i → bt z w = false) ∧ npk f z i = (0, 20)) ∨ (bt z (npk f z i).1 = true ∧ (npk f z i).1 < i ∧ (npk f z i).2 = zpop (f (npk f z i).1 &&& z)))
  | 0, _ => Or.inl ⟨fun w hw => absurd hw (Nat.not_lt_zero w), rfl⟩
  | i + 1, hi => by
    have ih := npk_mem hg z i (by omega)
    by_cases hc : bt z i = true ∧ zpop (f i &&& z) < (npk f z i).2
    · rw [npk_yes hc.1 hc.2]
      exact Or.inr ⟨hc.1, Nat.lt_succ_self i, rfl⟩
    · rw [npk_no hc]
      rcases ih with ⟨h1, h2⟩ | ⟨h1, h2, h3⟩
      · refine Or.inl ⟨fun w hw => ?_, h2⟩
        by_cases e : w = i
        · rw [e]
          cases q : bt z i
          · rfl
          · exact absurd ⟨q, by rw [h2]; exact pop_lt20 hg (by omega) z⟩ hc
        · exact h1 w (by omega)
      · exact Or.inr ⟨h1, by omega, h3⟩
theorem npk_in {f : Nat → Int32} {N : Nat} {z : Int32} (hg : gd f N) (hz : zsub z N) (h : 0 < zpop z) : bt z (npk f z N).1 = true ∧ (npk f z N).1 < N := by
  rcases npk_mem hg z N (Nat.le_refl N) with ⟨h1, -⟩ | ⟨h1, h2, -⟩
  · obtain ⟨i, hi⟩ := pop_ex h
    rw [h1 i (hz i hi)] at hi; cases hi
  · exact ⟨h1, h2⟩
theorem dsk_pop {f : Nat → Int32} {N : Nat} (hg : gd f N) : ∀ t, t ≤ N → zpop (dsk f N t).1 = N - t
  | 0, _ => pop_al hg.1
  | t + 1, h => by
    have ih := dsk_pop hg t (by omega)
    have hz : zsub (dsk f N t).1 N := sub_le (dsk_sub hg.1 t).1 (sub_al hg.1)
    have h1 := (npk_in hg hz (by omega)).1
    rw [dsk_1]
    have := pop_dl h1
    omega
