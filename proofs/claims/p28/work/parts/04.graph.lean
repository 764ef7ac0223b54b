/-! ===== the network as rows of bits; cores ===== -/
def gd (f : Nat → Int32) (N : Nat) : Prop := N ≤ 20 ∧ (∀ u v, u < N → bt (f u) v = true → v < N ∧ v ≠ u ∧ bt (f v) u = true) ∧ ∀ u, N ≤ u → u < 20 → f u = 0
def cst (c : Nat → Nat) (N : Nat) (k : Int) : Int32 := zmk (fun i => decide (k ≤ (c i : Int))) N
/-- r is what ways inside z lead to from s -/
def rch (f : Nat → Int32) (s z r : Int32) : Prop := zle r z ∧ (∀ i, bt s i = true → bt z i = true → bt r i = true) ∧ (∀ u, bt r u = true → ∀ w, bt (f u) w = true → bt z w = true → bt r w = true) ∧ ∀ T : Int32, (∀ i, bt s i = true → bt z i = true → bt T i = true) → (∀ u, bt T u = true → ∀ w, bt (f u) w = true → bt z w = true → bt T w = true) → zle r T
theorem b_ort {x y : Int32} {i : Nat} : bt (x ||| y) i = true ↔ bt x i = true ∨ bt y i = true := by rw [b_or, Bool.or_eq_true]
theorem b_andt {x y : Int32} {i : Nat} : bt (x &&& y) i = true ↔ bt x i = true ∧ bt y i = true := by rw [b_and, Bool.and_eq_true]
theorem b_dift {x y : Int32} {i : Nat} : bt (x &&& znt y) i = true ↔ bt x i = true ∧ ¬ bt y i = true := by rw [b_dif, Bool.and_eq_true]; cases bt y i <;> simp
theorem b_sgt {j i : Nat} (hj : j < 32) : bt (zsg j) i = true ↔ i = j := by rw [b_sg hj, decide_eq_true_iff]
theorem b_cst {c : Nat → Nat} {N : Nat} (hN : N ≤ 20) {k : Int} {i : Nat} : bt (cst c N k) i = true ↔ i < N ∧ k ≤ (c i : Int) := by
  unfold cst
  rw [b_mkt _ (by omega), decide_eq_true_iff]
theorem cst_sub {c : Nat → Nat} {N : Nat} (hN : N ≤ 20) (k : Int) : zsub (cst c N k) N := fun i h => ((b_cst hN).mp h).1
theorem rch_one {f : Nat → Int32} {s z r r2 : Int32} (h : rch f s z r) (h2 : rch f s z r2) : r = r2 := le_anti (h.2.2.2 r2 h2.2.1 h2.2.2.1) (h2.2.2.2 r h.2.1 h.2.2.1)
