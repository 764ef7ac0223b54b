/-! ===== what the model's writers lay down ===== -/
theorem pop_lt20 {f : Nat → Int32} {N v : Nat} (hg : gd f N) (hv : v < N) (x : Int32) : zpop (f v &&& x) < 20 := by
  have h1 : zle (f v &&& x) (zal N) := le_al hg.1 (sub_le (le_andl _ _) (gd_sub hg hv))
  have h2 : bt (f v &&& x) v = false := by
    cases q : bt (f v &&& x) v
    · rfl
    · exact absurd rfl (hg.2.1 v v hv (b_andt.mp q).1).2.1
  have h3 : bt (zal N) v = true := by rw [b_al hg.1]; exact decide_eq_true hv
  have := pop_lt h1 h2 h3
  rw [pop_al hg.1] at this
  have := hg.1
  omega
/-- the last level below K at which the two are together, plus one; 0: none -/
noncomputable def tgk (f : Nat → Int32) (c : Nat → Nat) (N u v : Nat) : Nat → Nat
  | 0 => 0
  | K + 1 => if bt (cmp f (cst c N K) u) v = true then K + 1 else tgk f c N u v K
def tgi (t : Nat) : Int32 := if t = 0 then -1 else nI (t - 1)
theorem tgk_yes {f : Nat → Int32} {c : Nat → Nat} {N u v K : Nat} (h : bt (cmp f (cst c N K) u) v = true) : tgk f c N u v (K + 1) = K + 1 := by
  show (if _ then _ else _) = _
  rw [if_pos h]
theorem tgk_no {f : Nat → Int32} {c : Nat → Nat} {N u v K : Nat} (h : bt (cmp f (cst c N K) u) v = false) : tgk f c N u v (K + 1) = tgk f c N u v K := by
  show (if _ then _ else _) = _
  rw [if_neg (by rw [h]; exact Bool.false_ne_true)]
