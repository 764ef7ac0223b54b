/-! ===== Int32 by its bits: bt x i ===== -/
def bt (x : Int32) (i : Nat) : Bool := x.toBitVec.getLsbD i
theorem b_ext {x y : Int32} (h : ∀ i, i < 32 → bt x i = bt y i) : x = y := Int32.toBitVec_inj.mp (BitVec.eq_of_getLsbD_eq (fun i hi => h i hi))
theorem b_or (x y : Int32) (i : Nat) : bt (x ||| y) i = (bt x i || bt y i) := by unfold bt; rw [Int32.toBitVec_or, BitVec.getLsbD_or]
theorem b_and (x y : Int32) (i : Nat) : bt (x &&& y) i = (bt x i && bt y i) := by unfold bt; rw [Int32.toBitVec_and, BitVec.getLsbD_and]
theorem b_xor (x y : Int32) (i : Nat) : bt (x ^^^ y) i = (bt x i ^^ bt y i) := by unfold bt; rw [Int32.toBitVec_xor, BitVec.getLsbD_xor]
theorem b_big {x : Int32} {i : Nat} (h : 32 ≤ i) : bt x i = false := BitVec.getLsbD_of_ge _ _ h
theorem b_m1 : ∀ i, i < 32 → bt (-1) i = true := by decide +kernel
theorem b_0 (i : Nat) : bt 0 i = false := BitVec.getLsbD_zero
/-! ===== how many places have a property ===== -/
def fb_ct (p : Nat → Bool) : Nat → Nat
  | 0 => 0
  | n + 1 => fb_ct p n + (if p n then 1 else 0)
theorem fb_ct_succ (p : Nat → Bool) (n : Nat) : fb_ct p (n + 1) = fb_ct p n + (if p n then 1 else 0) := rfl
theorem fb_ct_le (p : Nat → Bool) : ∀ n, fb_ct p n ≤ n
  | 0 => Nat.le_refl _
  | n + 1 => by
    have h := fb_ct_le p n
    rw [fb_ct_succ]
    split <;> omega
theorem fb_ct_cong {p q : Nat → Bool} : ∀ {n : Nat}, (∀ k, k < n → p k = q k) → fb_ct p n = fb_ct q n
  | 0, _ => rfl
  | n + 1, h => by
    rw [fb_ct_succ, fb_ct_succ, fb_ct_cong (fun k hk => h k (by omega)), h n (by omega)]
/-- one place changed -/
theorem fb_ct_out (p : Nat → Bool) (b : Bool) {i n : Nat} (h : n ≤ i) : fb_ct (fun k => if k = i then b else p k) n = fb_ct p n :=
  fb_ct_cong fun k hk => if_neg (by omega)
theorem fb_ct_upd (p : Nat → Bool) (b : Bool) {i : Nat} : ∀ {n : Nat}, i < n → fb_ct (fun k => if k = i then b else p k) n + (if p i then 1 else 0) = fb_ct p n + (if b then 1 else 0)
  | 0, h => absurd h (Nat.not_lt_zero i)
  | n + 1, h => by
    rw [fb_ct_succ, fb_ct_succ]
    rcases Nat.lt_or_ge i n with q | q
    · have := fb_ct_upd p b q
      have e : (if n = i then b else p n) = p n := if_neg (by omega)
      rw [e]
      omega
    · have e : i = n := by omega
      subst e
      rw [fb_ct_out p b (Nat.le_refl _)]
      simp only [if_true]
      omega
theorem fb_ct_sub {p q : Nat → Bool} : ∀ {n : Nat}, (∀ k, k < n → p k = true → q k = true) → fb_ct p n ≤ fb_ct q n
  | 0, _ => Nat.le_refl _
  | n + 1, h => by
    have h1 := fb_ct_sub (n := n) (p := p) (q := q) (fun k hk => h k (by omega))
    have h2 := h n (by omega)
    rw [fb_ct_succ, fb_ct_succ]
    cases hp : p n <;> cases hq : q n <;> simp_all <;> omega
theorem fb_ct_split (p : Nat → Bool) (m : Nat) : ∀ n, fb_ct p (m + n) = fb_ct p m + fb_ct (fun k => p (m + k)) n
  | 0 => rfl
  | n + 1 => by
    have h := fb_ct_split p m n
    show fb_ct p (m + n + 1) = _
    rw [fb_ct_succ, fb_ct_succ, h, Nat.add_assoc]
theorem fb_ct_zero {p : Nat → Bool} : ∀ {n : Nat}, fb_ct p n = 0 ↔ ∀ k, k < n → p k = false
  | 0 => ⟨fun _ k hk => absurd hk (Nat.not_lt_zero k), fun _ => rfl⟩
  | n + 1 => by
    have h := fb_ct_zero (p := p) (n := n)
    rw [fb_ct_succ]
    constructor
    · intro e k hk
      have e1 : fb_ct p n = 0 := by omega
      rcases Nat.lt_or_ge k n with q | q
      · exact h.mp e1 k q
      · have ek : k = n := by omega
        subst ek
        cases hp : p k
        · rfl
        · simp [hp] at e
    · intro a
      rw [h.mpr (fun k hk => a k (by omega)), a n (by omega)]
      rfl
theorem fb_ct_pos {p : Nat → Bool} {n : Nat} : 0 < fb_ct p n ↔ ∃ k, k < n ∧ p k = true := by
  constructor
  · intro h
    refine Classical.byContradiction fun hx => ?_
    have := fb_ct_zero.mpr (fun k hk => by
      cases hp : p k
      · rfl
      · exact absurd ⟨k, hk, hp⟩ hx : ∀ k, k < n → p k = false)
    omega
  · rintro ⟨k, hk, hp⟩
    rcases Nat.eq_zero_or_pos (fb_ct p n) with e | e
    · have := fb_ct_zero.mp e k hk
      rw [this] at hp
      cases hp
    · exact e
/-! ===== sums over a range: one place changed, parts, bounds ===== -/
def fb_sm (f : Nat → Nat) : Nat → Nat
  | 0 => 0
  | n + 1 => fb_sm f n + f n
theorem fb_sm_succ (f : Nat → Nat) (n : Nat) : fb_sm f (n + 1) = fb_sm f n + f n := rfl
theorem fb_sm_cong {f g : Nat → Nat} : ∀ {n : Nat}, (∀ k, k < n → f k = g k) → fb_sm f n = fb_sm g n
  | 0, _ => rfl
  | n + 1, h => by rw [fb_sm_succ, fb_sm_succ, fb_sm_cong (fun k hk => h k (by omega)), h n (by omega)]
theorem fb_sm_out (f : Nat → Nat) (v : Nat) {i n : Nat} (h : n ≤ i) : fb_sm (fun k => if k = i then v else f k) n = fb_sm f n :=
  fb_sm_cong fun k hk => if_neg (by omega)
theorem fb_sm_upd (f : Nat → Nat) (v : Nat) {i : Nat} : ∀ {n : Nat}, i < n → fb_sm (fun k => if k = i then v else f k) n + f i = fb_sm f n + v
  | 0, h => absurd h (Nat.not_lt_zero i)
  | n + 1, h => by
    rw [fb_sm_succ, fb_sm_succ]
    rcases Nat.lt_or_ge i n with q | q
    · have := fb_sm_upd f v q
      have e : (if n = i then v else f n) = f n := if_neg (by omega)
      rw [e]
      omega
    · have e : i = n := by omega
      subst e
      rw [fb_sm_out f v (Nat.le_refl _)]
      simp only [if_true]
      omega
theorem fb_sm_le {f g : Nat → Nat} : ∀ {n : Nat}, (∀ k, k < n → f k ≤ g k) → fb_sm f n ≤ fb_sm g n
  | 0, _ => Nat.le_refl _
  | n + 1, h => by
    have h1 := fb_sm_le (n := n) (f := f) (g := g) (fun k hk => h k (by omega))
    have h2 := h n (by omega)
    rw [fb_sm_succ, fb_sm_succ]
    omega
theorem fb_sm_const (c : Nat) : ∀ n, fb_sm (fun _ => c) n = n * c
  | 0 => by rw [Nat.zero_mul]; rfl
  | n + 1 => by rw [fb_sm_succ, fb_sm_const c n, Nat.succ_mul]
theorem fb_sm_bound {f : Nat → Nat} {c n : Nat} (h : ∀ k, k < n → f k ≤ c) : fb_sm f n ≤ n * c := by
  rw [← fb_sm_const c n]
  exact fb_sm_le h
/-! ===== sets of nodes as the bits of an int ===== -/
def zpop (x : Int32) : Nat := fb_ct (bt x) 32
def zsg (j : Nat) : Int32 := (1 : Int32) <<< (nI j &&& 31)
def zb (b : Bool) : Int32 := if b then 1 else 0
def zal (n : Nat) : Int32 := zsg n - 1
def zdl (x : Int32) (j : Nat) : Int32 := x &&& (zsg j ^^^ (-1))
def znt (x : Int32) : Int32 := x ^^^ (-1)
/-- every node of x lies below N -/
def zsub (x : Int32) (N : Nat) : Prop := ∀ i, bt x i = true → i < N
/-- x is a part of y -/
def zle (x y : Int32) : Prop := ∀ i, bt x i = true → bt y i = true
theorem b_sg0 : ∀ j, j < 32 → ∀ i, i < 32 → bt (zsg j) i = decide (i = j) := by decide +kernel
theorem b_sg {j : Nat} (hj : j < 32) (i : Nat) : bt (zsg j) i = decide (i = j) := by
  rcases Nat.lt_or_ge i 32 with h | h
  · exact b_sg0 j hj i h
  · rw [b_big h, decide_eq_false (by omega)]
theorem b_al0 : ∀ n, n < 21 → ∀ i, i < 32 → bt (zal n) i = decide (i < n) := by decide +kernel
theorem b_al {n : Nat} (hn : n ≤ 20) (i : Nat) : bt (zal n) i = decide (i < n) := by
  rcases Nat.lt_or_ge i 32 with h | h
  · exact b_al0 n (by omega) i h
  · rw [b_big h, decide_eq_false (by omega)]
theorem b_nt {x : Int32} {i : Nat} (h : i < 32) : bt (znt x) i = !bt x i := by
  unfold znt
  rw [b_xor, b_m1 i h]
  cases bt x i <;> rfl
theorem b_dif (x y : Int32) (i : Nat) : bt (x &&& znt y) i = (bt x i && !bt y i) := by
  rw [b_and]
  rcases Nat.lt_or_ge i 32 with h | h
  · rw [b_nt h]
  · rw [b_big h]; rfl
theorem b_dl {x : Int32} {j : Nat} (hj : j < 32) (i : Nat) : bt (zdl x j) i = (bt x i && !decide (i = j)) := by
  have h := b_dif x (zsg j) i
  rw [b_sg hj] at h
  exact h
theorem b_32 {x : Int32} {i : Nat} (h : bt x i = true) : i < 32 := by
  rcases Nat.lt_or_ge i 32 with q | q
  · exact q
  · rw [b_big q] at h; cases h
theorem set_ext {x y : Int32} (h : ∀ i, bt x i = true ↔ bt y i = true) : x = y := b_ext fun i _ => by
  have := h i
  cases hx : bt x i <;> cases hy : bt y i <;> simp_all
theorem le_rf (x : Int32) : zle x x := fun _ h => h
theorem le_tr {x y z : Int32} (h : zle x y) (h2 : zle y z) : zle x z := fun i q => h2 i (h i q)
theorem le_anti {x y : Int32} (h : zle x y) (h2 : zle y x) : x = y := set_ext fun i => ⟨h i, h2 i⟩
theorem le_andl (x y : Int32) : zle (x &&& y) x := fun i h => by rw [b_and, Bool.and_eq_true] at h; exact h.1
theorem le_andr (x y : Int32) : zle (x &&& y) y := fun i h => by rw [b_and, Bool.and_eq_true] at h; exact h.2
theorem le_and {x y z w : Int32} (h : zle x z) (h2 : zle y w) : zle (x &&& y) (z &&& w) := fun i q => by
  rw [b_and, Bool.and_eq_true] at q ⊢
  exact ⟨h i q.1, h2 i q.2⟩
theorem le_dl {x : Int32} {j : Nat} (hj : j < 32) : zle (zdl x j) x := fun i h => by
  rw [b_dl hj, Bool.and_eq_true] at h; exact h.1
theorem sub_le {x y : Int32} {N : Nat} (h : zle x y) (h2 : zsub y N) : zsub x N := fun i q => h2 i (h i q)
theorem sub_al {N : Nat} (hN : N ≤ 20) : zsub (zal N) N := fun i h => by rw [b_al hN] at h; exact of_decide_eq_true h
theorem le_al {x : Int32} {N : Nat} (hN : N ≤ 20) (h : zsub x N) : zle x (zal N) := fun i q => by rw [b_al hN]; exact decide_eq_true (h i q)
theorem pop_le {x y : Int32} (h : zle x y) : zpop x ≤ zpop y := fb_ct_sub fun k _ q => h k q
theorem pop_32 (x : Int32) : zpop x ≤ 32 := fb_ct_le _ 32
theorem pop_0 : zpop 0 = 0 := by decide +kernel
theorem pop_lt {x y : Int32} (h : zle x y) {j : Nat} (h1 : bt x j = false) (h2 : bt y j = true) : zpop x < zpop y := by
  have hj : j < 32 := b_32 h2
  have e : fb_ct (fun k => if k = j then true else bt x k) 32 + (if bt x j then 1 else 0) = zpop x + (if true then 1 else 0) := fb_ct_upd (bt x) true hj
  rw [h1] at e
  have e2 : fb_ct (fun k => if k = j then true else bt x k) 32 ≤ zpop y := fb_ct_sub fun k _ q => by
    by_cases hk : k = j
    · rw [hk]; exact h2
    · rw [if_neg hk] at q; exact h k q
  simp only [reduceIte, Bool.false_eq_true, Nat.add_zero] at e
  omega
theorem pop_dl {x : Int32} {j : Nat} (h : bt x j = true) : zpop (zdl x j) + 1 = zpop x := by
  have hj : j < 32 := b_32 h
  have e : fb_ct (fun k => if k = j then false else bt x k) 32 + (if bt x j then 1 else 0) = zpop x + (if false then 1 else 0) := fb_ct_upd (bt x) false hj
  rw [h] at e
  have e2 : zpop (zdl x j) = fb_ct (fun k => if k = j then false else bt x k) 32 := fb_ct_cong fun k _ => by
    rw [b_dl hj]
    by_cases hk : k = j
    · simp [hk]
    · simp [hk]
  rw [e2]
  simpa using e
theorem ct_all (N : Nat) : ∀ n, fb_ct (fun k => decide (k < N)) n = min n N
  | 0 => by simp [fb_ct]
  | n + 1 => by
    rw [fb_ct_succ, ct_all N n]
    by_cases h : n < N
    · simp [h]; omega
    · simp [h]; omega
theorem pop_al {N : Nat} (hN : N ≤ 20) : zpop (zal N) = N := by
  have : zpop (zal N) = fb_ct (fun k => decide (k < N)) 32 := fb_ct_cong fun k _ => b_al hN k
  rw [this, ct_all]
  omega
theorem pop_N {x : Int32} {N : Nat} (hN : N ≤ 20) (h : zsub x N) : zpop x ≤ N := by
  have := pop_le (le_al hN h)
  rwa [pop_al hN] at this
theorem pop_full {x y : Int32} (h : zle x y) (h2 : zpop y ≤ zpop x) : x = y := by
  refine le_anti h fun i hi => ?_
  cases hx : bt x i
  · have := pop_lt h hx hi; omega
  · rfl
theorem pop_ex {x : Int32} (h : 0 < zpop x) : ∃ i, bt x i = true := by
  obtain ⟨k, -, hk⟩ := fb_ct_pos.mp h
  exact ⟨k, hk⟩
theorem ne_0 {x : Int32} : x = 0 ↔ ∀ i, bt x i = false := ⟨fun h i => by rw [h, b_0], fun h => b_ext fun i _ => by rw [h, b_0]⟩
theorem zb_0 {b : Bool} : zb b = 0 ↔ b = false := by cases b <;> simp [zb]
/-- a set by its members -/
def zmk (p : Nat → Bool) : Nat → Int32
  | 0 => 0
  | n + 1 => if p n then zmk p n ||| zsg n else zmk p n
theorem b_mk (p : Nat → Bool) : ∀ {n : Nat}, n ≤ 32 → ∀ i, bt (zmk p n) i = (decide (i < n) && p i)
  | 0, _, i => by simp [zmk, b_0]
  | n + 1, h, i => by
    have ih := b_mk p (n := n) (by omega) i
    unfold zmk
    by_cases hp : p n = true
    · rw [if_pos hp, b_or, ih, b_sg (by omega)]
      by_cases hi : i = n
      · simp [hi, hp]
      · have : decide (i < n + 1) = decide (i < n) := by simp; omega
        rw [this]; simp [hi]
    · rw [if_neg hp, ih]
      by_cases hi : i = n
      · simp [hi, hp]
      · have : decide (i < n + 1) = decide (i < n) := by simp; omega
        rw [this]
theorem b_mkt (p : Nat → Bool) {n : Nat} (h : n ≤ 32) {i : Nat} : bt (zmk p n) i = true ↔ i < n ∧ p i = true := by
  rw [b_mk p h, Bool.and_eq_true, decide_eq_true_iff]
/-! ===== the JDK's count of bits ===== -/
def b1 (x : Nat) : Nat := x - (x / 2 &&& 21845)
def b2 (x : Nat) : Nat := (x &&& 13107) + (x / 4 &&& 13107)
def b3 (x : Nat) : Nat := (x + x / 16) &&& 3855
def a1 (x : Nat) : Nat := x - (x / 2 &&& 85)
def a2 (x : Nat) : Nat := (x &&& 51) + (x / 4 &&& 51)
def a3 (x : Nat) : Nat := (x + x / 16) &&& 15
def a123 (x : Nat) : Bool := decide (x / 2 &&& 85 ≤ x) && decide (a1 x < 256) && decide (a2 (a1 x) ≤ 68) && decide (a2 (a1 x) % 16 ≤ 4) && decide (a3 (a2 (a1 x)) ≤ 8) && decide (a3 (a2 (a1 x)) = fb_ct (fun i => x.testBit i) 8)
def ball (f : Nat → Bool) : Nat → Bool
  | 0 => true
  | n + 1 => f n && ball f n
theorem ball_ok {f : Nat → Bool} : ∀ {n : Nat}, ball f n = true → ∀ i, i < n → f i = true
  | 0, _, i, h => absurd h (Nat.not_lt_zero i)
  | n + 1, h, i, hi => by
    unfold ball at h
    rw [Bool.and_eq_true] at h
    rcases Nat.lt_or_ge i n with q | q
    · exact ball_ok h.2 i q
    · have : i = n := by omega
      rw [this]; exact h.1
theorem a123_ok : ball a123 256 = true := by decide +kernel
theorem land_sp (k : Nat) {h l a b : Nat} (hl : l < 2 ^ k) (hb : b < 2 ^ k) : (2 ^ k * h + l) &&& (2 ^ k * a + b) = 2 ^ k * (h &&& a) + (l &&& b) := by
  have hlb : l &&& b < 2 ^ k := Nat.and_lt_two_pow _ hb
  refine Nat.eq_of_testBit_eq fun j => ?_
  rw [Nat.testBit_and, Nat.testBit_two_pow_mul_add _ hl, Nat.testBit_two_pow_mul_add _ hb, Nat.testBit_two_pow_mul_add _ hlb]
  by_cases q : j < k
  · simp only [q, if_true, Nat.testBit_and]
  · simp only [q, if_false, Nat.testBit_and]
theorem b123_all {x : Nat} (hx : x < 65536) : x / 2 &&& 21845 ≤ x ∧ b1 x < 65536 ∧ b2 (b1 x) ≤ 17476 ∧ b2 (b1 x) % 16 ≤ 4 ∧ b3 (b2 (b1 x)) % 256 ≤ 8 ∧ b3 (b2 (b1 x)) / 256 ≤ 8 ∧ b3 (b2 (b1 x)) % 256 + b3 (b2 (b1 x)) / 256 = fb_ct (fun i => x.testBit i) 16 := by
  obtain ⟨h, l, hl, hh, rfl⟩ : ∃ h l, l < 256 ∧ h < 256 ∧ x = 2 ^ 8 * h + l := ⟨x / 256, x % 256, by omega, by omega, by omega⟩
  have ql := ball_ok a123_ok l hl
  have qh := ball_ok a123_ok h hh
  simp only [a123, Bool.and_eq_true, decide_eq_true_iff] at ql qh
  obtain ⟨⟨⟨⟨⟨l1, l2⟩, l3⟩, l4⟩, l5⟩, l6⟩ := ql
  obtain ⟨⟨⟨⟨⟨h1, h2⟩, h3⟩, h4⟩, h5⟩, h6⟩ := qh
  have e0 : (2 ^ 8 * h + l) / 2 &&& 21845 = 2 ^ 8 * (h / 2 &&& 85) + (l / 2 &&& 85) := by
    have e : (2 ^ 8 * h + l) / 2 = 2 ^ 8 * (h / 2) + (2 ^ 7 * (h % 2) + l / 2) := by omega
    have e3 : (2 ^ 7 * (h % 2) + l / 2) &&& 85 = l / 2 &&& 85 := by
      have := land_sp 7 (h := h % 2) (l := l / 2) (a := 0) (b := 85) (by omega) (by omega)
      simpa using this
    have := land_sp 8 (h := h / 2) (l := 2 ^ 7 * (h % 2) + l / 2) (a := 85) (b := 85) (by omega) (by omega)
    rw [e3] at this
    rw [e]
    exact this
  have e1 : b1 (2 ^ 8 * h + l) = 2 ^ 8 * a1 h + a1 l := by
    unfold b1 a1
    rw [e0]
    omega
  have e2 : b2 (2 ^ 8 * a1 h + a1 l) = 2 ^ 8 * a2 (a1 h) + a2 (a1 l) := by
    generalize a1 h = h at *
    generalize a1 l = l at *
    have e : (2 ^ 8 * h + l) / 4 = 2 ^ 8 * (h / 4) + (2 ^ 6 * (h % 4) + l / 4) := by omega
    have e3 : (2 ^ 6 * (h % 4) + l / 4) &&& 51 = l / 4 &&& 51 := by
      have := land_sp 6 (h := h % 4) (l := l / 4) (a := 0) (b := 51) (by omega) (by omega)
      simpa using this
    have e5 := land_sp 8 (h := h / 4) (l := 2 ^ 6 * (h % 4) + l / 4) (a := 51) (b := 51) (by omega) (by omega)
    have e6 := land_sp 8 (h := h) (l := l) (a := 51) (b := 51) (by omega) (by omega)
    rw [e3, ← e] at e5
    have e7 : (2 ^ 8 * h + l) / 4 &&& 13107 = 2 ^ 8 * (h / 4 &&& 51) + (l / 4 &&& 51) := e5
    have e8 : (2 ^ 8 * h + l) &&& 13107 = 2 ^ 8 * (h &&& 51) + (l &&& 51) := e6
    unfold b2 a2
    rw [e7, e8]
    omega
  have e3 : b3 (2 ^ 8 * a2 (a1 h) + a2 (a1 l)) = 2 ^ 8 * a3 (a2 (a1 h)) + a3 (a2 (a1 l)) := by
    generalize a2 (a1 h) = h at *
    generalize a2 (a1 l) = l at *
    have e : 2 ^ 8 * h + l + (2 ^ 8 * h + l) / 16 = 2 ^ 8 * (h + h / 16) + (2 ^ 4 * (h % 16 + (l + l / 16) / 16) + (l + l / 16) % 16) := by omega
    have e3 : (2 ^ 4 * (h % 16 + (l + l / 16) / 16) + (l + l / 16) % 16) &&& 15 = (l + l / 16) % 16 &&& 15 := by
      have := land_sp 4 (h := h % 16 + (l + l / 16) / 16) (l := (l + l / 16) % 16) (a := 0) (b := 15) (by omega) (by omega)
      simpa using this
    have e4 : (l + l / 16) &&& 15 = (l + l / 16) % 16 &&& 15 := by
      have := land_sp 4 (h := (l + l / 16) / 16) (l := (l + l / 16) % 16) (a := 0) (b := 15) (by omega) (by omega)
      have e5 : 2 ^ 4 * ((l + l / 16) / 16) + (l + l / 16) % 16 = l + l / 16 := by omega
      rw [e5] at this
      simpa using this
    have e5 := land_sp 8 (h := h + h / 16) (l := 2 ^ 4 * (h % 16 + (l + l / 16) / 16) + (l + l / 16) % 16) (a := 15) (b := 15) (by omega) (by omega)
    rw [e3, ← e4, ← e] at e5
    exact e5
  rw [e0, e1, e2, e3]
  have e : fb_ct (fun i => (2 ^ 8 * h + l).testBit i) 16 = fb_ct (fun i => l.testBit i) 8 + fb_ct (fun i => h.testBit i) 8 := by
    rw [show (16 : Nat) = 8 + 8 from rfl, fb_ct_split]
    congr 1
    · exact fb_ct_cong fun k hk => by rw [Nat.testBit_two_pow_mul_add _ (by omega), if_pos hk]
    · exact fb_ct_cong fun k hk => by rw [Nat.testBit_two_pow_mul_add _ (by omega), if_neg (by omega)]; congr 1; omega
  rw [e, ← l6, ← h6]
  generalize a3 (a2 (a1 l)) = u at *
  generalize a3 (a2 (a1 h)) = v at *
  generalize a2 (a1 l) = u2 at *
  generalize a2 (a1 h) = v2 at *
  generalize a1 l = u1 at *
  generalize a1 h = v1 at *
  generalize l / 2 &&& 85 = u0 at *
  generalize h / 2 &&& 85 = v0 at *
  refine ⟨by omega, by omega, by omega, by omega, by omega, by omega, by omega⟩
def c1 (n : Nat) : Nat := n - (n / 2 &&& 1431655765)
def c2 (n : Nat) : Nat := (n &&& 858993459) + (n / 4 &&& 858993459)
def c3 (n : Nat) : Nat := (n + n / 16) &&& 252645135
def c4 (n : Nat) : Nat := n + n / 256
def c5 (n : Nat) : Nat := n + n / 65536
theorem c1_le {h l : Nat} (hl : l < 65536) (hh : h < 65536) : (65536 * h + l) / 2 &&& 1431655765 = 65536 * (h / 2 &&& 21845) + (l / 2 &&& 21845) := by
  have e : (65536 * h + l) / 2 = 2 ^ 16 * (h / 2) + (2 ^ 15 * (h % 2) + l / 2) := by omega
  have e2 : (1431655765 : Nat) = 2 ^ 16 * 21845 + 21845 := by omega
  have e3 : (2 ^ 15 * (h % 2) + l / 2) &&& 21845 = l / 2 &&& 21845 := by
    have := land_sp 15 (h := h % 2) (l := l / 2) (a := 0) (b := 21845) (by omega) (by omega)
    simpa using this
  rw [e, e2, land_sp 16 (by omega) (by omega), e3]
theorem c1_eq {h l : Nat} (hl : l < 65536) (hh : h < 65536) (q1 : l / 2 &&& 21845 ≤ l) (q2 : h / 2 &&& 21845 ≤ h) : c1 (65536 * h + l) = 65536 * b1 h + b1 l := by
  unfold c1 b1
  rw [c1_le hl hh]
  generalize l / 2 &&& 21845 = u at *
  generalize h / 2 &&& 21845 = v at *
  omega
theorem c2_eq {h l : Nat} (hl : l < 65536) (hh : h < 65536) : c2 (65536 * h + l) = 65536 * b2 h + b2 l := by
  have e : (65536 * h + l) / 4 = 2 ^ 16 * (h / 4) + (2 ^ 14 * (h % 4) + l / 4) := by omega
  have e3 : (2 ^ 14 * (h % 4) + l / 4) &&& 13107 = l / 4 &&& 13107 := by
    have := land_sp 14 (h := h % 4) (l := l / 4) (a := 0) (b := 13107) (by omega) (by omega)
    simpa using this
  have e5 := land_sp 16 (h := h / 4) (l := 2 ^ 14 * (h % 4) + l / 4) (a := 13107) (b := 13107) (by omega) (by omega)
  have e6 := land_sp 16 (h := h) (l := l) (a := 13107) (b := 13107) (by omega) (by omega)
  rw [e3, ← e] at e5
  have e7 : (65536 * h + l) / 4 &&& 858993459 = 65536 * (h / 4 &&& 13107) + (l / 4 &&& 13107) := e5
  have e8 : (65536 * h + l) &&& 858993459 = 65536 * (h &&& 13107) + (l &&& 13107) := e6
  unfold c2 b2
  rw [e7, e8]
  omega
theorem c3_eq {h l : Nat} (hl : l ≤ 17476) (hh : h ≤ 17476) (h4 : h % 16 ≤ 4) : c3 (65536 * h + l) = 65536 * b3 h + b3 l := by
  have e : 65536 * h + l + (65536 * h + l) / 16 = 2 ^ 16 * (h + h / 16) + (2 ^ 12 * (h % 16 + (l + l / 16) / 4096) + (l + l / 16) % 4096) := by omega
  have e2 : (252645135 : Nat) = 2 ^ 16 * 3855 + 3855 := by omega
  have e3 : (2 ^ 12 * (h % 16 + (l + l / 16) / 4096) + (l + l / 16) % 4096) &&& 3855 = (l + l / 16) % 4096 &&& 3855 := by
    have := land_sp 12 (h := h % 16 + (l + l / 16) / 4096) (l := (l + l / 16) % 4096) (a := 0) (b := 3855) (by omega) (by omega)
    simpa using this
  have e4 : (l + l / 16) &&& 3855 = (l + l / 16) % 4096 &&& 3855 := by
    have := land_sp 12 (h := (l + l / 16) / 4096) (l := (l + l / 16) % 4096) (a := 0) (b := 3855) (by omega) (by omega)
    have e5 : 2 ^ 12 * ((l + l / 16) / 4096) + (l + l / 16) % 4096 = l + l / 16 := by omega
    rw [e5] at this
    simpa using this
  unfold c3 b3
  rw [e, e2, land_sp 16 (by omega) (by omega), e3, ← e4]
theorem pop_nI {n : Nat} : zpop (nI n) = fb_ct (fun i => n.testBit i) 32 := fb_ct_cong fun k hk => by
  show (BitVec.ofNat 32 n).getLsbD k = n.testBit k
  rw [BitVec.getLsbD_ofNat]
  simp [hk]
theorem pop_n {n : Nat} (hn : n < 4294967296) : (n / 2 &&& 1431655765) ≤ n ∧ c1 n < 4294967296 ∧ c2 (c1 n) < 2147483648 ∧ c3 (c2 (c1 n)) < 1073741824 ∧ c5 (c4 (c3 (c2 (c1 n)))) &&& 63 = zpop (nI n) := by
  obtain ⟨h, l, hl, hh, rfl⟩ : ∃ h l, l < 65536 ∧ h < 65536 ∧ n = 65536 * h + l := ⟨n / 65536, n % 65536, by omega, by omega, by omega⟩
  have ql := b123_all hl
  have qh := b123_all hh
  obtain ⟨l1, l2, l3, l4, l5, l6, l7⟩ := ql
  obtain ⟨h1, h2, h3, h4, h5, h6, h7⟩ := qh
  rw [c1_le hl hh, c1_eq hl hh l1 h1, c2_eq l2 h2, c3_eq l3 h3 h4]
  have e : zpop (nI (65536 * h + l)) = fb_ct (fun i => l.testBit i) 16 + fb_ct (fun i => h.testBit i) 16 := by
    rw [pop_nI, show (32 : Nat) = 16 + 16 from rfl, fb_ct_split]
    have e4 : (65536 * h + l : Nat) = 2 ^ 16 * h + l := by omega
    rw [e4]
    congr 1
    · exact fb_ct_cong fun k hk => by rw [Nat.testBit_two_pow_mul_add _ (by omega), if_pos hk]
    · exact fb_ct_cong fun k hk => by rw [Nat.testBit_two_pow_mul_add _ (by omega), if_neg (by omega)]; congr 1; omega
  rw [e, ← l7, ← h7]
  generalize b3 (b2 (b1 l)) = u at *
  generalize b3 (b2 (b1 h)) = v at *
  generalize b2 (b1 l) = u2 at *
  generalize b2 (b1 h) = v2 at *
  generalize b1 l = u1 at *
  generalize b1 h = v1 at *
  generalize l / 2 &&& 21845 = u0 at *
  generalize h / 2 &&& 21845 = v0 at *
  have e63 : ∀ z : Nat, z &&& 63 = z % 64 := fun z => Nat.and_two_pow_sub_one_eq_mod z 6
  rw [e63]
  unfold c5 c4
  refine ⟨by omega, by omega, by omega, by omega, ?_⟩
  obtain ⟨ud, hud⟩ : ∃ z, z = u / 256 := ⟨_, rfl⟩
  obtain ⟨vd, hvd⟩ : ∃ z, z = v / 256 := ⟨_, rfl⟩
  have t1 : (65536 * v + u) / 256 = 256 * v + ud := by omega
  rw [t1]
  have t2 : (65536 * v + u + (256 * v + ud)) / 65536 = v + vd := by omega
  rw [t2]
  omega
