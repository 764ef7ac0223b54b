/-! ===== what the model's writers lay down ===== -/
theorem pop_lt20 {f : Nat → Int32} {N v : Nat} (hg : gd f N) (hv : v < N) (x : Int32) : zpop (f v &&& x) < 20 := by
  have h1 : zle (f v &&& x) (zal N) := le_al hg.1 (sub_le (le_andl _ _) (gd_sub hg hv))
  have h2 : bt (f v &&& x) v = false := by
    cases q : bt (f v &&& x) v
    · rfl
    · exact absurd rfl (hg.2.1 v v hv (b_andt.mp q).1).2.1
  have h3 : bt (zal N) v = true := by rw [b_al hg.1]; exact decide_eq_true hv
  have := pop_lt h1 h2 h3
  rw [pop_al hg.1] at this
  have := hg.1
  omega
theorem cno_lt {f : Nat → Int32} {N v c : Nat} (hg : gd f N) (hv : v < N) (h : cno f N v c) : c < 20 := by
  obtain ⟨⟨x, h1, h2, h3⟩, -⟩ := h
  have := h2 v h3
  have := pop_lt20 hg hv x
  omega
def lvv (c : Nat → Nat) (cs : Nat → Int32) (K v : Nat) : Int32 := if K = 0 then cs v else nI (min (c v) (K - 1))
def lay (c : Nat → Nat) (cs : Nat → Int32) (N K i : Nat) : Nat → Int32 := fun v => if v < N then (if v < i then lvv c cs (K + 1) v else lvv c cs K v) else cs v
def layE (c : Nat → Nat) (cs : Nat → Int32) (N : Nat) : Nat → Int32 := fun v => if v < N then nI (c v) else cs v
theorem lay_0 (c : Nat → Nat) (cs : Nat → Int32) (N : Nat) : lay c cs N 0 0 = cs := funext fun v => by simp [lay, lvv]
theorem lay_end (c : Nat → Nat) (cs : Nat → Int32) (N K : Nat) : lay c cs N K N = lay c cs N (K + 1) 0 := funext fun v => by
  unfold lay
  by_cases h : v < N
  · rw [if_pos h, if_pos h, if_pos h, if_neg (Nat.not_lt_zero v)]
  · rw [if_neg h, if_neg h]
theorem lay_fin {c : Nat → Nat} {N : Nat} (hc : ∀ v, v < N → c v < 20) (cs : Nat → Int32) : lay c cs N 20 0 = layE c cs N := funext fun v => by
  unfold lay layE
  by_cases h : v < N
  · rw [if_pos h, if_pos h, if_neg (Nat.not_lt_zero v)]
    unfold lvv
    rw [if_neg (by decide), Nat.min_eq_left (by have := hc v h; omega)]
  · rw [if_neg h, if_neg h]
theorem lay_yes {c : Nat → Nat} {cs : Nat → Int32} {N K i : Nat} (hN : N ≤ 20) (hK : K < 20) (h : bt (cst c N (nI K).toInt) i = true) : upd (lay c cs N K i) i (nI K) = lay c cs N K (i + 1) := funext fun v => by
  rw [nI_toInt (by omega)] at h
  obtain ⟨h1, h2⟩ := (b_cst hN).mp h
  unfold upd
  by_cases e : v = i
  · rw [if_pos e]
    unfold lay
    rw [e, if_pos h1, if_pos (Nat.lt_succ_self i)]
    unfold lvv
    rw [if_neg (Nat.succ_ne_zero K), Nat.add_sub_cancel, Nat.min_eq_right (by omega)]
  · rw [if_neg e]
    unfold lay
    by_cases hv : v < N
    · rw [if_pos hv, if_pos hv]
      by_cases h3 : v < i
      · rw [if_pos h3, if_pos (by omega)]
      · rw [if_neg h3, if_neg (by omega)]
    · rw [if_neg hv, if_neg hv]
theorem lay_no {c : Nat → Nat} {cs : Nat → Int32} {N K i : Nat} (hN : N ≤ 20) (hK : K < 20) (hi : i < N) (h : bt (cst c N (nI K).toInt) i = false) : upd (lay c cs N K i) i (lay c cs N K i i) = lay c cs N K (i + 1) := funext fun v => by
  rw [nI_toInt (by omega)] at h
  have h2 : ¬ (K : Int) ≤ (c i : Int) := fun q => by rw [(b_cst hN).mpr ⟨hi, q⟩] at h; cases h
  unfold upd
  by_cases e : v = i
  · rw [if_pos e]
    unfold lay
    rw [e, if_pos hi, if_pos hi, if_neg (Nat.lt_irrefl i), if_pos (Nat.lt_succ_self i)]
    unfold lvv
    rw [if_neg (by omega), if_neg (Nat.succ_ne_zero K), Nat.add_sub_cancel, Nat.min_eq_left (by omega), Nat.min_eq_left (by omega)]
  · rw [if_neg e]
    unfold lay
    by_cases hv : v < N
    · rw [if_pos hv, if_pos hv]
      by_cases h3 : v < i
      · rw [if_pos h3, if_pos (by omega)]
      · rw [if_neg h3, if_neg (by omega)]
    · rw [if_neg hv, if_neg hv]
theorem layE_in {c : Nat → Nat} {cs : Nat → Int32} {N v : Nat} (h : v < N) : layE c cs N v = nI (c v) := by unfold layE; rw [if_pos h]
/-- the edge u v turned over -/
def tgl (f : Nat → Int32) (u v : Nat) : Nat → Int32 := upd (upd f u (f u ^^^ zsg v)) v (upd f u (f u ^^^ zsg v) v ^^^ zsg u)
def chg (c c2 : Nat → Nat) (N : Nat) : Nat := fb_ct (fun v => decide (c v ≠ c2 v)) N
/-- what is wrong with a pair of nodes -/
def fl (p q : Int32) (N : Nat) : Nat := if (isNb p N && isNb q N) = true then (if p = q then 2 else 0) else 1
theorem fl_bad {p q : Int32} {N : Nat} (h : (isNb p N && isNb q N) = false) : fl p q N = 1 := by unfold fl; rw [h]; rfl
theorem fl_bad1 {p q : Int32} {N : Nat} (h : isNb p N = false) : nI 1 = nI (fl p q N) := by rw [fl_bad (by rw [h]; rfl)]
theorem fl_bad2 {p q : Int32} {N : Nat} (h : isNb q N = false) : nI 1 = nI (fl p q N) := by rw [fl_bad (by rw [h, Bool.and_false])]
theorem fl_same {p q : Int32} {N : Nat} (h : isNb p N = true) (h2 : isNb q N = true) (e : p = q) : nI 2 = nI (fl p q N) := by unfold fl; rw [h, h2, if_pos (show (true && true) = true from rfl), if_pos e]
theorem fl_ok {p q : Int32} {N : Nat} (h : isNb p N = true) (h2 : isNb q N = true) (e : ¬ p = q) : nI 0 = nI (fl p q N) := by unfold fl; rw [h, h2, if_pos (show (true && true) = true from rfl), if_neg e]
theorem fl_0 {u v N : Nat} (hN : N ≤ 20) (hu : u < N) (hv : v < N) (e : u ≠ v) : fl (nI u) (nI v) N = 0 := by
  unfold fl
  rw [isNb_y hu hN, isNb_y hv hN, if_pos (show (true && true) = true from rfl), if_neg (fun q => e ((nI_eq (by omega) (by omega)).mp q))]
theorem fl_2 {u N : Nat} (hN : N ≤ 20) (hu : u < N) : fl (nI u) (nI u) N = 2 := by
  unfold fl
  rw [isNb_y hu hN, if_pos (show (true && true) = true from rfl), if_pos rfl]
/-- the rows after a node's edges to the first i are cut -/
def iso (f : Nat → Int32) (u : Nat) : Nat → Nat → Int32
  | 0 => f
  | i + 1 => if bt (iso f u i u) i = true then tgl (iso f u i) u i else iso f u i
/-- the core numbers that change on the way -/
def isc (f : Nat → Int32) (u N : Nat) (cI : Nat → Nat → Nat) : Nat → Nat
  | 0 => 0
  | i + 1 => isc f u N cI i + (if bt (iso f u i u) i = true then chg (cI i) (cI (i + 1)) N else 0)
def ise (f : Nat → Int32) (u : Nat) (i : Nat) : Nat := fb_ct (fun j => bt (iso f u j u) j) i
theorem iso_yes {f : Nat → Int32} {u i : Nat} (h : bt (iso f u i u) i = true) : tgl (iso f u i) u i = iso f u (i + 1) := by
  show _ = if _ then _ else _
  rw [if_pos h]
theorem iso_no {f : Nat → Int32} {u i : Nat} (h : bt (iso f u i u) i = false) : iso f u i = iso f u (i + 1) := by
  show _ = if _ then _ else _
  rw [if_neg (by rw [h]; exact Bool.false_ne_true)]
theorem isc_yes {f : Nat → Int32} {u N i : Nat} {cI : Nat → Nat → Nat} (h : bt (iso f u i u) i = true) : isc f u N cI (i + 1) = isc f u N cI i + chg (cI i) (cI (i + 1)) N := by
  show isc f u N cI i + (if _ then _ else _) = _
  rw [if_pos h]
theorem isc_no {f : Nat → Int32} {u N i : Nat} {cI : Nat → Nat → Nat} (h : bt (iso f u i u) i = false) : isc f u N cI (i + 1) = isc f u N cI i := by
  show isc f u N cI i + (if _ then _ else _) = _
  rw [if_neg (by rw [h]; exact Bool.false_ne_true)]; rfl
/-- the last level below K at which the two are together, plus one; 0: none -/
noncomputable def tgk (f : Nat → Int32) (c : Nat → Nat) (N u v : Nat) : Nat → Nat
  | 0 => 0
  | K + 1 => if bt (cmp f (cst c N K) u) v = true then K + 1 else tgk f c N u v K
def tgi (t : Nat) : Int32 := if t = 0 then -1 else nI (t - 1)
theorem tgk_le (f : Nat → Int32) (c : Nat → Nat) (N u v : Nat) : ∀ K, tgk f c N u v K ≤ K
  | 0 => Nat.le_refl 0
  | K + 1 => by
    have := tgk_le f c N u v K
    unfold tgk
    split <;> omega
theorem tgk_yes {f : Nat → Int32} {c : Nat → Nat} {N u v K : Nat} (h : bt (cmp f (cst c N K) u) v = true) : tgk f c N u v (K + 1) = K + 1 := by
  show (if _ then _ else _) = _
  rw [if_pos h]
theorem tgk_no {f : Nat → Int32} {c : Nat → Nat} {N u v K : Nat} (h : bt (cmp f (cst c N K) u) v = false) : tgk f c N u v (K + 1) = tgk f c N u v K := by
  show (if _ then _ else _) = _
  rw [if_neg (by rw [h]; exact Bool.false_ne_true)]
/-- the model's sum of a level -/
noncomputable def hm (f : Nat → Int32) (c : Nat → Nat) (N k v : Nat) : Bool := low (cmp f (cst c N k) v) v && decide (¬ cmp f (cst c N ((k : Int) + 1)) v = cmp f (cst c N k) v)
noncomputable def hmS (f : Nat → Int32) (c : Nat → Nat) (N k : Nat) : Nat := fb_ct (hm f c N k) N
theorem hmS_b (f : Nat → Int32) (c : Nat → Nat) {N : Nat} (hN : N ≤ 20) (n : Nat) : fb_sm (hmS f c N) n ≤ n * 20 := fb_sm_bound fun k _ => Nat.le_trans (fb_ct_le _ _) hN
theorem toI1 {k : Nat} (h : k < 2 ^ 30) : (nI (k + 1)).toInt = (k : Int) + 1 := by rw [nI_toInt (by omega)]; omega
theorem ct_nof {p : Nat → Bool} {i : Nat} (h : p i = false) : fb_ct p (i + 1) = fb_ct p i := by rw [fb_ct_succ, h]; rfl
theorem ct_yesf {p : Nat → Bool} {i : Nat} (h : p i = true) : fb_ct p (i + 1) = fb_ct p i + 1 := by rw [fb_ct_succ, h]; rfl
/-- the model's triangles -/
def tr2 (f : Nat → Int32) (i j : Nat) : Nat := if bt (f i) j = true then zpop (f i &&& f j) else 0
def tr2s (f : Nat → Int32) (i : Nat) : Nat := fb_sm (tr2 f i) i
theorem tr2_le (f : Nat → Int32) (i j : Nat) : tr2 f i j ≤ 32 := by
  unfold tr2
  split
  · exact pop_32 _
  · exact Nat.zero_le _
theorem tr2_b (f : Nat → Int32) (i n : Nat) : fb_sm (tr2 f i) n ≤ n * 32 := fb_sm_bound fun k _ => tr2_le f i k
theorem tr2s_b (f : Nat → Int32) {n : Nat} (hn : n ≤ 20) : fb_sm (tr2s f) n ≤ n * 640 := fb_sm_bound fun k hk => by
  have := tr2_b f k k
  unfold tr2s
  omega
