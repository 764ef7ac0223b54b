theorem ct_no {p : Nat → Bool} {i c : Nat} (hc : c = fb_ct p i) (h : p i = false) : c = fb_ct p (i + 1) := by rw [fb_ct_succ, h]; exact hc
theorem ct_yes {p : Nat → Bool} {i c : Nat} (hc : c = fb_ct p i) (h : p i = true) : c + 1 = fb_ct p (i + 1) := by rw [fb_ct_succ, h, hc]; rfl
/-- d is the greatest of the first n numbers c -/
def isMx (c : Nat → Nat) (n d : Nat) : Prop := (∀ v, v < n → c v ≤ d) ∧ (d = 0 ∨ ∃ v, v < n ∧ c v = d)
theorem isMx_0 (c : Nat → Nat) : isMx c 0 0 := ⟨fun v h => absurd h (Nat.not_lt_zero v), Or.inl rfl⟩
theorem isMx_s {c : Nat → Nat} {i d : Nat} (h : isMx c i d) : isMx c (i + 1) (max d (c i)) := by
  refine ⟨fun v hv => ?_, ?_⟩
  · by_cases e : v = i
    · rw [e]; omega
    · have := h.1 v (by omega); omega
  · rcases Nat.lt_or_ge d (c i) with q | q
    · exact Or.inr ⟨i, by omega, by omega⟩
    · rcases h.2 with q2 | ⟨v, q2, q3⟩
      · exact Or.inl (by omega)
      · exact Or.inr ⟨v, by omega, by omega⟩
theorem z_max {a b : Nat} (ha : a < 2 ^ 31) (hb : b < 2 ^ 31) : (if nI a < nI b then nI b else nI a) = nI (max a b) := by
  by_cases h : a < b
  · rw [if_pos ((nI_ltI ha hb).mpr h), Nat.max_eq_right (Nat.le_of_lt h)]
  · rw [if_neg (fun q => h ((nI_ltI ha hb).mp q)), Nat.max_eq_left (Nat.le_of_not_lt h)]
theorem z_min {a b : Nat} (ha : a < 2 ^ 31) (hb : b < 2 ^ 31) : (if nI b < nI a then nI b else nI a) = nI (min a b) := by
  by_cases h : b < a
  · rw [if_pos ((nI_ltI hb ha).mpr h), Nat.min_eq_right (Nat.le_of_lt h)]
  · rw [if_neg (fun q => h ((nI_ltI hb ha).mp q)), Nat.min_eq_left (Nat.le_of_not_lt h)]
/-- the core numbers lie in cs as c has them -/
def csI (cs : Nat → Int32) (c : Nat → Nat) (N : Nat) : Prop := ∀ v, v < N → cs v = nI (c v) ∧ c v < 20
theorem cst_ofk {cs : Nat → Int32} {c : Nat → Nat} {N : Nat} (hN : N ≤ 20) (h : csI cs c N) (k : Int32) : zmk (fun i => decide (k ≤ cs i)) N = cst c N k.toInt := set_ext fun i => by
  rw [b_mkt _ (by omega), b_cst hN]
  constructor
  · rintro ⟨h1, h2⟩
    refine ⟨h1, ?_⟩
    have h3 := of_decide_eq_true h2
    rw [(h i h1).1, i_leN (by have := (h i h1).2; omega)] at h3
    exact h3
  · rintro ⟨h1, h2⟩
    refine ⟨h1, decide_eq_true ?_⟩
    rw [(h i h1).1, i_leN (by have := (h i h1).2; omega)]
    exact h2
theorem cst_of {cs : Nat → Int32} {c : Nat → Nat} {N : Nat} (hN : N ≤ 20) (h : csI cs c N) {k : Nat} (hk : k < 2 ^ 31) : zmk (fun i => decide (nI k ≤ cs i)) N = cst c N k := by rw [cst_ofk hN h, nI_toInt hk]
def shl (c : Nat → Nat) (N r : Nat) : Int32 := cst c N r &&& znt (cst c N ((r : Int) + 1))
theorem shl_of {cs : Nat → Int32} {c : Nat → Nat} {N : Nat} (hN : N ≤ 20) (h : csI cs c N) {k : Nat} (hk : k + 1 < 2 ^ 31) : (zmk (fun i => decide (nI k ≤ cs i)) N &&& znt (zmk (fun i => decide (nI k + nI 1 ≤ cs i)) N)) = shl c N k := by
  rw [nI_add, cst_of hN h (by omega), cst_of hN h hk]
  rfl
theorem shl_le (c : Nat → Nat) (N r : Nat) : zle (shl c N r) (cst c N r) := le_andl _ _
noncomputable def hie (f : Nat → Int32) (c : Nat → Nat) (N k : Nat) : Nat := ccn f N (cst c N k) (shl c N k)
theorem hie_b (f : Nat → Int32) (c : Nat → Nat) {N : Nat} (hN : N ≤ 20) (n : Nat) : fb_sm (hie f c N) n ≤ n * 20 := fb_sm_bound fun k _ => Nat.le_trans (fb_ct_le _ _) hN
set_option maxHeartbeats 4000000 in
set_option maxRecDepth 100000 in
theorem c_X0_allNodes (l : Launch) (D : va_G) (cy : ClassId) (h a0 a1 a2 N : Nat) (ec cc : Int32) (f cs tr : Nat → Int32) (hN : N ≤ 20) : Met l yX0_allNodes wsX0_allNodes ({ frames := 1, cells := 0, slots := 0, locals := 20 } : Room) (va_Pc [.ref h] (zRd D (wB h a0 a1 a2 cy N ec cc f cs tr) [(cy, .int)])) (zPo (fun r => r = zal N)) 0 0 zNo := by
  refine Met.ofW (cc := cX0_allNodes) (maxL := 1) (ret := (some .int)) (by decide) rfl ?_
  intro p e s m args below meth c s₁ B hml hv
  obtain ⟨rfl, hP, hK⟩ := hv
  have hx := B.exec
  have hb := B.bytes
  have hr := B.returns
  have hts := atoms_spec (ws := wsX0_allNodes) B.pre
  have hown : s.vm.findClass RX0 = some m.cls := findClass_of_methodNamed B.named
  have hlocks := B.notSynchronized
  have hS : va_S (fun _ => False) s.heap s.heap [] := va_S.rf
  have hin : ∀ w ∈ wsX00, w ∈ wsX0_allNodes := by decide +kernel
  have hf19 := hts (.fieldLink RX0 19 "Corebarn" "nodeCount" "I") (by decide +kernel)
  have hl := lv_entry ([.ref h]) (n := 1) (Nat.le_of_ble_eq_true rfl)
  rw [lg_entry_eq]
  generalize (lg_sl ([.ref h]) ++ List.replicate (1 - (lg_sl ([.ref h])).length) Slot.unset).toArray = ls at hl ⊢
  have hl : lv_has ls 1 [(0, .ref h)] := hl
  refine lv_aload_n hx hb dX0_allNodes_0 rfl (lv_at hl 0 rfl) ?_
  refine va_get (D := D) (ci := 0) (v := .int (nI N)) (C := RX0) (T := TX0) (N := 6) hx hb hts hin hown hK hP 0 rfl rfl 3 (by decide) hf19 (fun _ h9 => h9) rfl dX0_allNodes_1 ?_
  refine zrS0 (As := [.int (nI N)]) (rest := []) ⟨hx, hb, hml, hown, hts⟩ (c_X0_single l N) (va_cwS 1 hts gX0_allNodes_X0_single rfl rfl rfl (by decide +kernel) ⟨Nat.le_of_ble_eq_true rfl, Nat.le_of_ble_eq_true rfl⟩) rfl hl rfl (Nat.le_of_ble_eq_true rfl) dX0_allNodes_4 ⟨Nat.le_of_ble_eq_true rfl, Nat.le_of_ble_eq_true rfl⟩ hS (fun r4 H locs hw4 hk9 hS => ?_)
  obtain rfl : r4 = zsg N := hw4
  have hP := zkeep hP hk9
  refine lv_iconst (v := (nI 1)) hx hb dX0_allNodes_7 (by decide) ?_
  refine lv_isub hx hb dX0_allNodes_8 ?_
  exact W.iret (v := (zsg N - (nI 1))) hx hb hr (fun t9 ht9 hW9 => ⟨⟨(zsg N - (nI 1)), (), rfl, rfl, trivial⟩, hS.F ht9⟩) hS.2.2 dX0_allNodes_9
set_option maxHeartbeats 4000000 in
set_option maxRecDepth 100000 in
theorem c_X0_coreSet (l : Launch) (D : va_G) (cy : ClassId) (h a0 a1 a2 N : Nat) (ec cc : Int32) (f cs tr : Nat → Int32) (k : Int32) (hN : N ≤ 20) : Met l yX0_coreSet wsX0_coreSet ({ frames := 2, cells := 0, slots := 0, locals := 41 } : Room) (va_Pc [.ref h, .int k] (zRd D (wB h a0 a1 a2 cy N ec cc f cs tr) [(cy, .int)])) (zPo (fun r => r = zmk (fun i => decide (k ≤ cs i)) N)) 0 0 zNo := by
  refine Met.ofW (cc := cX0_coreSet) (maxL := 4) (ret := (some .int)) (by decide) rfl ?_
  intro p e s m args below meth c s₁ B hml hv
  obtain ⟨rfl, hP, hK⟩ := hv
  have hx := B.exec
  have hb := B.bytes
  have hr := B.returns
  have hts := atoms_spec (ws := wsX0_coreSet) B.pre
  have hown : s.vm.findClass RX0 = some m.cls := findClass_of_methodNamed B.named
  have hlocks := B.notSynchronized
  have hS : va_S (fun _ => False) s.heap s.heap [] := va_S.rf
  have hin : ∀ w ∈ wsX00, w ∈ wsX0_coreSet := by decide +kernel
  have hf13 := hts (.fieldLink RX0 13 "Corebarn" "cores" "[I") (by decide +kernel)
  have hf19 := hts (.fieldLink RX0 19 "Corebarn" "nodeCount" "I") (by decide +kernel)
  have hl := lv_entry ([.ref h, .int k]) (n := 4) (Nat.le_of_ble_eq_true rfl)
  rw [lg_entry_eq]
  generalize (lg_sl ([.ref h, .int k]) ++ List.replicate (4 - (lg_sl ([.ref h, .int k])).length) Slot.unset).toArray = ls at hl ⊢
  have hl : lv_has ls 4 [(0, .ref h), (1, .int k)] := hl
  refine lv_iconst (v := (nI 0)) hx hb dX0_coreSet_0 (by decide) ?_
  refine lv_istore_n (lv' := [(2, .int (nI 0)), (0, .ref h), (1, .int k)]) hx hb dX0_coreSet_1 rfl hl (by decide) rfl (fun ls hl => ?_)
  refine lv_iconst (v := (nI 0)) hx hb dX0_coreSet_2 (by decide) ?_
  refine lv_istore_n (lv' := [(3, .int (nI 0)), (2, .int (nI 0)), (0, .ref h), (1, .int k)]) hx hb dX0_coreSet_3 rfl hl (by decide) rfl (fun ls hl => ?_)
  have K4 : ∀ (fu4 : Nat) (i : Nat) (x : Int32) (H : Heap) (locs : List Loc) (ls : Array Slot), (i ≤ N) → (x = zmk (fun i => decide (k ≤ cs i)) i) → N - i < fu4 → va_P D vwCl (wB h a0 a1 a2 cy N ec cc f cs tr) H → va_S (fun _ => False) s.heap H locs → lv_has ls 4 [(2, .int x), (3, .int (nI i)), (0, .ref h), (1, .int k)] → W p l e (headSpec wsX0_coreSet ({ frames := 2, cells := 0, slots := 0, locals := 41 } : Room)).room s m ([.ref h, .int k] : List Value).toArray below meth c H locs 0 0 (MQ below (zPo (fun r => r = zmk (fun i => decide (k ≤ cs i)) N)) ([.ref h, .int k] : List Value).toArray s 0 0 zNo) (F0 m 4 ls []) := by
    intro fu4
    induction fu4 with
    | zero =>
      intro i x H locs ls hi hxe hfu4
      exact absurd hfu4 (Nat.not_lt_zero _)
    | succ fu4 ih4 =>
      intro i x H locs ls hi hxe hfu4 hP hS hl
      refine lv_iload_n hx hb dX0_coreSet_4 rfl (lv_at hl 1 rfl) ?_
      refine lv_aload_n hx hb dX0_coreSet_5 rfl (lv_at hl 2 rfl) ?_
      refine va_get (D := D) (ci := 0) (v := .int (nI N)) (C := RX0) (T := TX0) (N := 6) hx hb hts hin hown hK hP 0 rfl rfl 3 (by decide) hf19 (fun _ h9 => h9) rfl dX0_coreSet_6 ?_
      refine z_icmp_ge (tgt := 34) hx hb dX0_coreSet_9 (by decide) (by omega) (by omega) (fun h9 => ?_) (fun h9 => ?_)
      · refine lv_iload_n hx hb dX0_coreSet_34 rfl (lv_at hl 0 rfl) ?_
        exact W.iret (v := x) hx hb hr (fun t9 ht9 hW9 => ⟨⟨x, (), rfl, (by rw [hxe, Nat.le_antisymm hi h9]), trivial⟩, hS.F ht9⟩) hS.2.2 dX0_coreSet_35
      · refine lv_aload_n hx hb dX0_coreSet_12 rfl (lv_at hl 2 rfl) ?_
        refine va_get (D := D) (ci := 0) (v := .ref a1) (C := RX0) (T := TX0) (N := 6) hx hb hts hin hown hK hP 0 rfl rfl 1 (by decide) hf13 (fun _ h9 => h9) rfl dX0_coreSet_13 ?_
        refine lv_iload_n hx hb dX0_coreSet_16 rfl (lv_at hl 1 rfl) ?_
        refine z_iald hx hb hK hP 2 0 rfl rfl (by omega) (by decide) dX0_coreSet_17 ?_
        refine lv_iload_n hx hb dX0_coreSet_18 rfl (lv_at hl 3 rfl) ?_
        refine lv_icmp_lt (tgt := 28) hx hb dX0_coreSet_19 (by decide) (fun h19 => ?_) (fun h19 => ?_)
        · refine lv_iinc (v := (nI (i + 1))) (lv' := [(3, .int (nI (i + 1))), (2, .int x), (0, .ref h), (1, .int k)]) hx hb dX0_coreSet_28 hl (k := 1) rfl (nI_1 _) (by decide) rfl (fun ls hl => ?_)
          refine lv_goto (tgt := 4) hx hb dX0_coreSet_31 (by decide) ?_
          exact ih4 (i + 1) x _ _ _ (by omega) (by rw [mk_no (decide_eq_false (Int32.not_le.mpr h19))]; exact hxe) (by omega) hP hS (lv_sub hl [1, 0, 2, 3] rfl)
        · refine lv_iload_n hx hb dX0_coreSet_22 rfl (lv_at hl 0 rfl) ?_
          refine lv_iload_n hx hb dX0_coreSet_23 rfl (lv_at hl 1 rfl) ?_
          refine zrS0 (As := [.int x, .int (nI i)]) (rest := []) ⟨hx, hb, hml, hown, hts⟩ (c_X0_with l x i) (va_cwS 2 hts gX0_coreSet_X0_with rfl rfl rfl (by decide +kernel) ⟨Nat.le_of_ble_eq_true rfl, Nat.le_of_ble_eq_true rfl⟩) rfl hl rfl (Nat.le_of_ble_eq_true rfl) dX0_coreSet_24 ⟨Nat.le_of_ble_eq_true rfl, Nat.le_of_ble_eq_true rfl⟩ hS (fun r24 H locs hw24 hk9 hS => ?_)
          obtain rfl : r24 = (x ||| zsg i) := hw24
          have hP := zkeep hP hk9
          refine lv_istore_n (lv' := [(2, .int (x ||| zsg i)), (3, .int (nI i)), (0, .ref h), (1, .int k)]) hx hb dX0_coreSet_27 rfl hl (by decide) rfl (fun ls hl => ?_)
          refine lv_iinc (v := (nI (i + 1))) (lv' := [(3, .int (nI (i + 1))), (2, .int (x ||| zsg i)), (0, .ref h), (1, .int k)]) hx hb dX0_coreSet_28 hl (k := 1) rfl (nI_1 _) (by decide) rfl (fun ls hl => ?_)
          refine lv_goto (tgt := 4) hx hb dX0_coreSet_31 (by decide) ?_
          exact ih4 (i + 1) (x ||| zsg i) _ _ _ (by omega) (by rw [mk_yes (decide_eq_true (Int32.not_lt.mp h19)), hxe]) (by omega) hP hS (lv_sub hl [1, 0, 2, 3] rfl)
  exact K4 (N - 0 + 1) 0 (nI 0) _ _ _ (by omega) rfl (Nat.lt_succ_self _) hP hS (lv_sub hl [1, 0, 2, 3] rfl)
set_option maxHeartbeats 4000000 in
set_option maxRecDepth 100000 in
theorem c_X0_shellSet (l : Launch) (D : va_G) (cy : ClassId) (h a0 a1 a2 N : Nat) (ec cc : Int32) (f cs tr : Nat → Int32) (k : Int32) (hN : N ≤ 20) : Met l yX0_shellSet wsX0_shellSet ({ frames := 3, cells := 0, slots := 0, locals := 64 } : Room) (va_Pc [.ref h, .int k] (zRd D (wB h a0 a1 a2 cy N ec cc f cs tr) [(cy, .int)])) (zPo (fun r => r = zmk (fun i => decide (k ≤ cs i)) N &&& znt (zmk (fun i => decide (k + nI 1 ≤ cs i)) N))) 0 0 zNo := by
  refine Met.ofW (cc := cX0_shellSet) (maxL := 2) (ret := (some .int)) (by decide) rfl ?_
  intro p e s m args below meth c s₁ B hml hv
  obtain ⟨rfl, hP, hK⟩ := hv
  have hx := B.exec
  have hb := B.bytes
  have hr := B.returns
  have hts := atoms_spec (ws := wsX0_shellSet) B.pre
  have hown : s.vm.findClass RX0 = some m.cls := findClass_of_methodNamed B.named
  have hlocks := B.notSynchronized
  have hS : va_S (fun _ => False) s.heap s.heap [] := va_S.rf
  have hl := lv_entry ([.ref h, .int k]) (n := 2) (Nat.le_of_ble_eq_true rfl)
  rw [lg_entry_eq]
  generalize (lg_sl ([.ref h, .int k]) ++ List.replicate (2 - (lg_sl ([.ref h, .int k])).length) Slot.unset).toArray = ls at hl ⊢
  have hl : lv_has ls 2 [(0, .ref h), (1, .int k)] := hl
  refine lv_aload_n hx hb dX0_shellSet_0 rfl (lv_at hl 0 rfl) ?_
  refine lv_iload_n hx hb dX0_shellSet_1 rfl (lv_at hl 1 rfl) ?_
  refine zrV (As := [.int k]) (rest := []) 0 ⟨hx, hb, hml, hown, hts⟩ (c_X0_coreSet l D cy h a0 a1 a2 N ec cc f cs tr k hN) (cwV 1 hts gX0_shellSet_X0_coreSet rfl rfl rfl (by decide +kernel) ⟨Nat.le_of_ble_eq_true rfl, Nat.le_of_ble_eq_true rfl⟩) hK hP rfl rfl rfl hl rfl (Nat.le_of_ble_eq_true rfl) dX0_shellSet_2 ⟨Nat.le_of_ble_eq_true rfl, Nat.le_of_ble_eq_true rfl⟩ hS (fun r2 H locs hw2 hk9 hS => ?_)
  obtain rfl : r2 = (zmk (fun i => decide (k ≤ cs i)) N) := hw2
  have hP := zkeep hP hk9
  refine lv_aload_n hx hb dX0_shellSet_5 rfl (lv_at hl 0 rfl) ?_
  refine lv_iload_n hx hb dX0_shellSet_6 rfl (lv_at hl 1 rfl) ?_
  refine lv_iconst (v := (nI 1)) hx hb dX0_shellSet_7 (by decide) ?_
  refine lv_iadd hx hb dX0_shellSet_8 ?_
  refine zrV (As := [.int (k + (nI 1))]) (rest := [.int (zmk (fun i => decide (k ≤ cs i)) N)]) 0 ⟨hx, hb, hml, hown, hts⟩ (c_X0_coreSet l D cy h a0 a1 a2 N ec cc f cs tr (k + (nI 1)) hN) (cwV 1 hts gX0_shellSet_X0_coreSet rfl rfl rfl (by decide +kernel) ⟨Nat.le_of_ble_eq_true rfl, Nat.le_of_ble_eq_true rfl⟩) hK hP rfl rfl rfl hl rfl (Nat.le_of_ble_eq_true rfl) dX0_shellSet_9 ⟨Nat.le_of_ble_eq_true rfl, Nat.le_of_ble_eq_true rfl⟩ hS (fun r9 H locs hw9 hk9 hS => ?_)
  obtain rfl : r9 = (zmk (fun i => decide ((k + (nI 1)) ≤ cs i)) N) := hw9
  have hP := zkeep hP hk9
  refine lv_iconst (v := (-1)) hx hb dX0_shellSet_12 (by decide) ?_
  refine lv_ixor hx hb dX0_shellSet_13 ?_
  refine lv_iand hx hb dX0_shellSet_14 ?_
  exact W.iret (v := ((zmk (fun i => decide (k ≤ cs i)) N) &&& ((zmk (fun i => decide ((k + (nI 1)) ≤ cs i)) N) ^^^ (-1)))) hx hb hr (fun t9 ht9 hW9 => ⟨⟨((zmk (fun i => decide (k ≤ cs i)) N) &&& ((zmk (fun i => decide ((k + (nI 1)) ≤ cs i)) N) ^^^ (-1))), (), rfl, rfl, trivial⟩, hS.F ht9⟩) hS.2.2 dX0_shellSet_15
set_option maxHeartbeats 4000000 in
set_option maxRecDepth 100000 in
theorem c_X0_edgesWithin (l : Launch) (D : va_G) (cy : ClassId) (h a0 a1 a2 N : Nat) (ec cc : Int32) (f cs tr : Nat → Int32) (z : Int32) (hN : N ≤ 20) : Met l yX0_edgesWithin wsX0_edgesWithin ({ frames := 2, cells := 0, slots := 0, locals := 41 } : Room) (va_Pc [.ref h, .int z] (zRd D (wB h a0 a1 a2 cy N ec cc f cs tr) [(cy, .int)])) (zPo (fun r => r = nI (ewn f N z))) 0 0 zNo := by
  refine Met.ofW (cc := cX0_edgesWithin) (maxL := 4) (ret := (some .int)) (by decide) rfl ?_
  intro p e s m args below meth c s₁ B hml hv
  obtain ⟨rfl, hP, hK⟩ := hv
  have hx := B.exec
  have hb := B.bytes
  have hr := B.returns
  have hts := atoms_spec (ws := wsX0_edgesWithin) B.pre
  have hown : s.vm.findClass RX0 = some m.cls := findClass_of_methodNamed B.named
  have hlocks := B.notSynchronized
  have hS : va_S (fun _ => False) s.heap s.heap [] := va_S.rf
  have hin : ∀ w ∈ wsX00, w ∈ wsX0_edgesWithin := by decide +kernel
  have hf9 := hts (.fieldLink RX0 9 "Corebarn" "neighbours" "[I") (by decide +kernel)
  have hf19 := hts (.fieldLink RX0 19 "Corebarn" "nodeCount" "I") (by decide +kernel)
  have hl := lv_entry ([.ref h, .int z]) (n := 4) (Nat.le_of_ble_eq_true rfl)
  rw [lg_entry_eq]
  generalize (lg_sl ([.ref h, .int z]) ++ List.replicate (4 - (lg_sl ([.ref h, .int z])).length) Slot.unset).toArray = ls at hl ⊢
  have hl : lv_has ls 4 [(0, .ref h), (1, .int z)] := hl
  refine lv_iconst (v := (nI 0)) hx hb dX0_edgesWithin_0 (by decide) ?_
  refine lv_istore_n (lv' := [(2, .int (nI 0)), (0, .ref h), (1, .int z)]) hx hb dX0_edgesWithin_1 rfl hl (by decide) rfl (fun ls hl => ?_)
  refine lv_iconst (v := (nI 0)) hx hb dX0_edgesWithin_2 (by decide) ?_
  refine lv_istore_n (lv' := [(3, .int (nI 0)), (2, .int (nI 0)), (0, .ref h), (1, .int z)]) hx hb dX0_edgesWithin_3 rfl hl (by decide) rfl (fun ls hl => ?_)
  have K4 : ∀ (fu4 : Nat) (i : Nat) (x : Nat) (H : Heap) (locs : List Loc) (ls : Array Slot), (i ≤ N) → (x = fb_sm (ews f z) i) → N - i < fu4 → va_P D vwCl (wB h a0 a1 a2 cy N ec cc f cs tr) H → va_S (fun _ => False) s.heap H locs → lv_has ls 4 [(2, .int (nI x)), (3, .int (nI i)), (0, .ref h), (1, .int z)] → W p l e (headSpec wsX0_edgesWithin ({ frames := 2, cells := 0, slots := 0, locals := 41 } : Room)).room s m ([.ref h, .int z] : List Value).toArray below meth c H locs 0 0 (MQ below (zPo (fun r => r = nI (ewn f N z))) ([.ref h, .int z] : List Value).toArray s 0 0 zNo) (F0 m 4 ls []) := by
    intro fu4
    induction fu4 with
    | zero =>
      intro i x H locs ls hi hxe hfu4
      exact absurd hfu4 (Nat.not_lt_zero _)
    | succ fu4 ih4 =>
      intro i x H locs ls hi hxe hfu4 hP hS hl
      have hxb := ews_b f z i
      refine lv_iload_n hx hb dX0_edgesWithin_4 rfl (lv_at hl 1 rfl) ?_
      refine lv_aload_n hx hb dX0_edgesWithin_5 rfl (lv_at hl 2 rfl) ?_
      refine va_get (D := D) (ci := 0) (v := .int (nI N)) (C := RX0) (T := TX0) (N := 6) hx hb hts hin hown hK hP 0 rfl rfl 3 (by decide) hf19 (fun _ h9 => h9) rfl dX0_edgesWithin_6 ?_
      refine z_icmp_ge (tgt := 40) hx hb dX0_edgesWithin_9 (by decide) (by omega) (by omega) (fun h9 => ?_) (fun h9 => ?_)
      · refine lv_iload_n hx hb dX0_edgesWithin_40 rfl (lv_at hl 0 rfl) ?_
        refine lv_iconst (v := (nI 2)) hx hb dX0_edgesWithin_41 (by decide) ?_
        refine z_idiv hx hb dX0_edgesWithin_42 (by omega) (by omega) (by omega) ?_
        exact W.iret (v := (nI (x / 2))) hx hb hr (fun t9 ht9 hW9 => ⟨⟨(nI (x / 2)), (), rfl, (by rw [hxe, Nat.le_antisymm hi h9]; rfl), trivial⟩, hS.F ht9⟩) hS.2.2 dX0_edgesWithin_43
      · refine lv_iload_n hx hb dX0_edgesWithin_12 rfl (lv_at hl 3 rfl) ?_
        refine lv_iload_n hx hb dX0_edgesWithin_13 rfl (lv_at hl 1 rfl) ?_
        refine zrS0 (As := [.int z, .int (nI i)]) (rest := []) ⟨hx, hb, hml, hown, hts⟩ (c_X0_contains l z i (by omega)) (va_cwS 2 hts gX0_edgesWithin_X0_contains rfl rfl rfl (by decide +kernel) ⟨Nat.le_of_ble_eq_true rfl, Nat.le_of_ble_eq_true rfl⟩) rfl hl rfl (Nat.le_of_ble_eq_true rfl) dX0_edgesWithin_14 ⟨Nat.le_of_ble_eq_true rfl, Nat.le_of_ble_eq_true rfl⟩ hS (fun r14 H locs hw14 hk9 hS => ?_)
        obtain rfl : r14 = (zb (bt z i)) := hw14
        have hP := zkeep hP hk9
        refine z_ifb_eq (tgt := 34) hx hb dX0_edgesWithin_17 (by decide) (fun h17 => ?_) (fun h17 => ?_)
        · refine lv_iinc (v := (nI (i + 1))) (lv' := [(3, .int (nI (i + 1))), (2, .int (nI x)), (0, .ref h), (1, .int z)]) hx hb dX0_edgesWithin_34 hl (k := 1) rfl (nI_1 _) (by decide) rfl (fun ls hl => ?_)
          refine lv_goto (tgt := 4) hx hb dX0_edgesWithin_37 (by decide) ?_
          exact ih4 (i + 1) x _ _ _ (by omega) (by rw [ews_no h17]; exact hxe) (by omega) hP hS (lv_sub hl [1, 0, 2, 3] rfl)
        · refine lv_iload_n hx hb dX0_edgesWithin_20 rfl (lv_at hl 0 rfl) ?_
          refine lv_aload_n hx hb dX0_edgesWithin_21 rfl (lv_at hl 2 rfl) ?_
          refine va_get (D := D) (ci := 0) (v := .ref a0) (C := RX0) (T := TX0) (N := 6) hx hb hts hin hown hK hP 0 rfl rfl 0 (by decide) hf9 (fun _ h9 => h9) rfl dX0_edgesWithin_22 ?_
          refine lv_iload_n hx hb dX0_edgesWithin_25 rfl (lv_at hl 1 rfl) ?_
          refine z_iald hx hb hK hP 1 0 rfl rfl (by omega) (by decide) dX0_edgesWithin_26 ?_
          refine lv_iload_n hx hb dX0_edgesWithin_27 rfl (lv_at hl 3 rfl) ?_
          refine lv_iand hx hb dX0_edgesWithin_28 ?_
          refine zrS0 (As := [.int ((f i) &&& z)]) (rest := [.int (nI x)]) ⟨hx, hb, hml, hown, hts⟩ (c_X0_size l ((f i) &&& z)) (va_cwS 1 hts gX0_edgesWithin_X0_size rfl rfl rfl (by decide +kernel) ⟨Nat.le_of_ble_eq_true rfl, Nat.le_of_ble_eq_true rfl⟩) rfl hl rfl (Nat.le_of_ble_eq_true rfl) dX0_edgesWithin_29 ⟨Nat.le_of_ble_eq_true rfl, Nat.le_of_ble_eq_true rfl⟩ hS (fun r29 H locs hw29 hk9 hS => ?_)
          obtain rfl : r29 = (nI (zpop ((f i) &&& z))) := hw29
          have hP := zkeep hP hk9
          refine z_iadd hx hb dX0_edgesWithin_32 ?_
          refine lv_istore_n (lv' := [(2, .int (nI (x + (zpop ((f i) &&& z))))), (3, .int (nI i)), (0, .ref h), (1, .int z)]) hx hb dX0_edgesWithin_33 rfl hl (by decide) rfl (fun ls hl => ?_)
          refine lv_iinc (v := (nI (i + 1))) (lv' := [(3, .int (nI (i + 1))), (2, .int (nI (x + (zpop ((f i) &&& z))))), (0, .ref h), (1, .int z)]) hx hb dX0_edgesWithin_34 hl (k := 1) rfl (nI_1 _) (by decide) rfl (fun ls hl => ?_)
          refine lv_goto (tgt := 4) hx hb dX0_edgesWithin_37 (by decide) ?_
          exact ih4 (i + 1) (x + (zpop ((f i) &&& z))) _ _ _ (by omega) (by rw [ews_yes h17, hxe]) (by omega) hP hS (lv_sub hl [1, 0, 2, 3] rfl)
  exact K4 (N - 0 + 1) 0 0 _ _ _ (by omega) rfl (Nat.lt_succ_self _) hP hS (lv_sub hl [1, 0, 2, 3] rfl)
set_option maxHeartbeats 4000000 in
set_option maxRecDepth 100000 in
theorem c_X0_reach (l : Launch) (D : va_G) (cy : ClassId) (h a0 a1 a2 N : Nat) (ec cc : Int32) (f cs tr : Nat → Int32) (q z : Int32) (hN : N ≤ 20) (hz : zsub z N) : Met l yX0_reach wsX0_reach ({ frames := 2, cells := 0, slots := 0, locals := 41 } : Room) (va_Pc [.ref h, .int q, .int z] (zRd D (wB h a0 a1 a2 cy N ec cc f cs tr) [(cy, .int)])) (zPo (fun r => rch f q z r)) 0 0 zNo := by
  refine Met.ofW (cc := cX0_reach) (maxL := 7) (ret := (some .int)) (by decide) rfl ?_
  intro p e s m args below meth c s₁ B hml hv
  obtain ⟨rfl, hP, hK⟩ := hv
  have hx := B.exec
  have hb := B.bytes
  have hr := B.returns
  have hts := atoms_spec (ws := wsX0_reach) B.pre
  have hown : s.vm.findClass RX0 = some m.cls := findClass_of_methodNamed B.named
  have hlocks := B.notSynchronized
  have hS : va_S (fun _ => False) s.heap s.heap [] := va_S.rf
  have hin : ∀ w ∈ wsX00, w ∈ wsX0_reach := by decide +kernel
  have hf9 := hts (.fieldLink RX0 9 "Corebarn" "neighbours" "[I") (by decide +kernel)
  have hf19 := hts (.fieldLink RX0 19 "Corebarn" "nodeCount" "I") (by decide +kernel)
  have hl := lv_entry ([.ref h, .int q, .int z]) (n := 7) (Nat.le_of_ble_eq_true rfl)
  rw [lg_entry_eq]
  generalize (lg_sl ([.ref h, .int q, .int z]) ++ List.replicate (7 - (lg_sl ([.ref h, .int q, .int z])).length) Slot.unset).toArray = ls at hl ⊢
  have hl : lv_has ls 7 [(0, .ref h), (1, .int q), (2, .int z)] := hl
  refine lv_iload_n hx hb dX0_reach_0 rfl (lv_at hl 1 rfl) ?_
  refine lv_iload_n hx hb dX0_reach_1 rfl (lv_at hl 2 rfl) ?_
  refine lv_iand hx hb dX0_reach_2 ?_
  refine lv_istore_n (lv' := [(3, .int (q &&& z)), (0, .ref h), (1, .int q), (2, .int z)]) hx hb dX0_reach_3 rfl hl (by decide) rfl (fun ls hl => ?_)
  refine lv_iconst (v := (nI 0)) hx hb dX0_reach_4 (by decide) ?_
  refine lv_istore (lv' := [(4, .int (nI 0)), (3, .int (q &&& z)), (0, .ref h), (1, .int q), (2, .int z)]) hx hb dX0_reach_5 hl (by decide) rfl (fun ls hl => ?_)
  have K7 : ∀ (fu7 : Nat) (t : Nat) (x : Int32) (H : Heap) (locs : List Loc) (ls : Array Slot), (t ≤ N) → (rI f q z x) → (t ≤ zpop x) → N - t < fu7 → va_P D vwCl (wB h a0 a1 a2 cy N ec cc f cs tr) H → va_S (fun _ => False) s.heap H locs → lv_has ls 7 [(4, .int (nI t)), (3, .int x), (0, .ref h), (1, .int q), (2, .int z)] → W p l e (headSpec wsX0_reach ({ frames := 2, cells := 0, slots := 0, locals := 41 } : Room)).room s m ([.ref h, .int q, .int z] : List Value).toArray below meth c H locs 0 0 (MQ below (zPo (fun r => rch f q z r)) ([.ref h, .int q, .int z] : List Value).toArray s 0 0 zNo) (F0 m 7 ls []) := by
    intro fu7
    induction fu7 with
    | zero =>
      intro t x H locs ls ht hI hpop hfu7
      exact absurd hfu7 (Nat.not_lt_zero _)
    | succ fu7 ih7 =>
      intro t x H locs ls ht hI hpop hfu7 hP hS hl
      refine lv_iload hx hb dX0_reach_7 (lv_at hl 0 rfl) ?_
      refine lv_aload_n hx hb dX0_reach_9 rfl (lv_at hl 2 rfl) ?_
      refine va_get (D := D) (ci := 0) (v := .int (nI N)) (C := RX0) (T := TX0) (N := 6) hx hb hts hin hown hK hP 0 rfl rfl 3 (by decide) hf19 (fun _ h9 => h9) rfl dX0_reach_10 ?_
      refine z_icmp_ge (tgt := 77) hx hb dX0_reach_13 (by decide) (by omega) (by omega) (fun h13 => ?_) (fun h13 => ?_)
      · refine lv_iload_n hx hb dX0_reach_77 rfl (lv_at hl 1 rfl) ?_
        exact W.iret (v := x) hx hb hr (fun t9 ht9 hW9 => ⟨⟨x, (), rfl, (rI_full hN hz hI hpop h13), trivial⟩, hS.F ht9⟩) hS.2.2 dX0_reach_78
      · refine lv_iload_n hx hb dX0_reach_16 rfl (lv_at hl 1 rfl) ?_
        refine lv_istore (lv' := [(5, .int x), (4, .int (nI t)), (3, .int x), (0, .ref h), (1, .int q), (2, .int z)]) hx hb dX0_reach_17 hl (by decide) rfl (fun ls hl => ?_)
        refine lv_iconst (v := (nI 0)) hx hb dX0_reach_19 (by decide) ?_
        refine lv_istore (lv' := [(6, .int (nI 0)), (5, .int x), (4, .int (nI t)), (3, .int x), (0, .ref h), (1, .int q), (2, .int z)]) hx hb dX0_reach_20 hl (by decide) rfl (fun ls hl => ?_)
        have K22 : ∀ (fu22 : Nat) (i : Nat) (y : Int32) (H : Heap) (locs : List Loc) (ls : Array Slot), (i ≤ N) → (rJ f z x i y) → N - i < fu22 → va_P D vwCl (wB h a0 a1 a2 cy N ec cc f cs tr) H → va_S (fun _ => False) s.heap H locs → lv_has ls 7 [(6, .int (nI i)), (5, .int y), (0, .ref h), (1, .int q), (2, .int z), (3, .int x), (4, .int (nI t))] → W p l e (headSpec wsX0_reach ({ frames := 2, cells := 0, slots := 0, locals := 41 } : Room)).room s m ([.ref h, .int q, .int z] : List Value).toArray below meth c H locs 0 0 (MQ below (zPo (fun r => rch f q z r)) ([.ref h, .int q, .int z] : List Value).toArray s 0 0 zNo) (F0 m 22 ls []) := by
          intro fu22
          induction fu22 with
          | zero =>
            intro i y H locs ls hi hJ hfu22
            exact absurd hfu22 (Nat.not_lt_zero _)
          | succ fu22 ih22 =>
            intro i y H locs ls hi hJ hfu22 hP hS hl
            refine lv_iload hx hb dX0_reach_22 (lv_at hl 0 rfl) ?_
            refine lv_aload_n hx hb dX0_reach_24 rfl (lv_at hl 2 rfl) ?_
            refine va_get (D := D) (ci := 0) (v := .int (nI N)) (C := RX0) (T := TX0) (N := 6) hx hb hts hin hown hK hP 0 rfl rfl 3 (by decide) hf19 (fun _ h9 => h9) rfl dX0_reach_25 ?_
            refine z_icmp_ge (tgt := 60) hx hb dX0_reach_28 (by decide) (by omega) (by omega) (fun h28 => ?_) (fun h28 => ?_)
            · refine lv_iload hx hb dX0_reach_60 (lv_at hl 1 rfl) ?_
              refine lv_iload_n hx hb dX0_reach_62 rfl (lv_at hl 5 rfl) ?_
              refine lv_icmp_ne (tgt := 68) hx hb dX0_reach_63 (by decide) (fun h63 => ?_) (fun h63 => ?_)
              · refine lv_iload hx hb dX0_reach_68 (lv_at hl 1 rfl) ?_
                refine lv_istore_n (lv' := [(3, .int y), (6, .int (nI i)), (5, .int y), (0, .ref h), (1, .int q), (2, .int z), (4, .int (nI t))]) hx hb dX0_reach_70 rfl hl (by decide) rfl (fun ls hl => ?_)
                refine lv_iinc (v := (nI (t + 1))) (lv' := [(4, .int (nI (t + 1))), (3, .int y), (6, .int (nI i)), (5, .int y), (0, .ref h), (1, .int q), (2, .int z)]) hx hb dX0_reach_71 hl (k := 6) rfl (nI_1 _) (by decide) rfl (fun ls hl => ?_)
                refine lv_goto (tgt := 7) hx hb dX0_reach_74 (by decide) ?_
                exact ih7 (t + 1) y _ _ _ (by omega) (rI_step hI (Nat.le_antisymm hi h28 ▸ hJ)) (by have := rI_grow hJ h63; omega) (by omega) hP hS (lv_sub hl [0, 1, 4, 5, 6] rfl)
              · refine lv_iload_n hx hb dX0_reach_66 rfl (lv_at hl 5 rfl) ?_
                exact W.iret (v := x) hx hb hr (fun t9 ht9 hW9 => ⟨⟨x, (), rfl, (rI_end hz hI (by rw [Nat.le_antisymm hi h28, h63] at hJ; exact hJ)), trivial⟩, hS.F ht9⟩) hS.2.2 dX0_reach_67
            · refine lv_iload_n hx hb dX0_reach_31 rfl (lv_at hl 5 rfl) ?_
              refine lv_iload hx hb dX0_reach_32 (lv_at hl 0 rfl) ?_
              refine zrS0 (As := [.int x, .int (nI i)]) (rest := []) ⟨hx, hb, hml, hown, hts⟩ (c_X0_contains l x i (by omega)) (va_cwS 2 hts gX0_reach_X0_contains rfl rfl rfl (by decide +kernel) ⟨Nat.le_of_ble_eq_true rfl, Nat.le_of_ble_eq_true rfl⟩) rfl hl rfl (Nat.le_of_ble_eq_true rfl) dX0_reach_34 ⟨Nat.le_of_ble_eq_true rfl, Nat.le_of_ble_eq_true rfl⟩ hS (fun r34 H locs hw34 hk9 hS => ?_)
              obtain rfl : r34 = (zb (bt x i)) := hw34
              have hP := zkeep hP hk9
              refine z_ifb_eq (tgt := 54) hx hb dX0_reach_37 (by decide) (fun h37 => ?_) (fun h37 => ?_)
              · refine lv_iinc (v := (nI (i + 1))) (lv' := [(6, .int (nI (i + 1))), (5, .int y), (0, .ref h), (1, .int q), (2, .int z), (3, .int x), (4, .int (nI t))]) hx hb dX0_reach_54 hl (k := 0) rfl (nI_1 _) (by decide) rfl (fun ls hl => ?_)
                refine lv_goto (tgt := 22) hx hb dX0_reach_57 (by decide) ?_
                exact ih22 (i + 1) y _ _ _ (by omega) (rJ_no h37 hJ) (by omega) hP hS (lv_sub hl [0, 1, 2, 3, 4, 5, 6] rfl)
              · refine lv_iload hx hb dX0_reach_40 (lv_at hl 1 rfl) ?_
                refine lv_aload_n hx hb dX0_reach_42 rfl (lv_at hl 2 rfl) ?_
                refine va_get (D := D) (ci := 0) (v := .ref a0) (C := RX0) (T := TX0) (N := 6) hx hb hts hin hown hK hP 0 rfl rfl 0 (by decide) hf9 (fun _ h9 => h9) rfl dX0_reach_43 ?_
                refine lv_iload hx hb dX0_reach_46 (lv_at hl 0 rfl) ?_
                refine z_iald hx hb hK hP 1 0 rfl rfl (by omega) (by decide) dX0_reach_48 ?_
                refine lv_iload_n hx hb dX0_reach_49 rfl (lv_at hl 4 rfl) ?_
                refine lv_iand hx hb dX0_reach_50 ?_
                refine lv_ior hx hb dX0_reach_51 ?_
                refine lv_istore (lv' := [(5, .int (y ||| ((f i) &&& z))), (6, .int (nI i)), (0, .ref h), (1, .int q), (2, .int z), (3, .int x), (4, .int (nI t))]) hx hb dX0_reach_52 hl (by decide) rfl (fun ls hl => ?_)
                refine lv_iinc (v := (nI (i + 1))) (lv' := [(6, .int (nI (i + 1))), (5, .int (y ||| ((f i) &&& z))), (0, .ref h), (1, .int q), (2, .int z), (3, .int x), (4, .int (nI t))]) hx hb dX0_reach_54 hl (k := 1) rfl (nI_1 _) (by decide) rfl (fun ls hl => ?_)
                refine lv_goto (tgt := 22) hx hb dX0_reach_57 (by decide) ?_
                exact ih22 (i + 1) (y ||| ((f i) &&& z)) _ _ _ (by omega) (rJ_yes h37 hJ) (by omega) hP hS (lv_sub hl [0, 1, 2, 3, 4, 5, 6] rfl)
        exact K22 (N - 0 + 1) 0 x _ _ _ (by omega) (rJ_0 f z x) (Nat.lt_succ_self _) hP hS (lv_sub hl [0, 1, 4, 5, 6, 3, 2] rfl)
  exact K7 (N - 0 + 1) 0 (q &&& z) _ _ _ (by omega) (rI_0 f q z) (by omega) (Nat.lt_succ_self _) hP hS (lv_sub hl [0, 1, 2, 3, 4] rfl)
set_option maxHeartbeats 4000000 in
set_option maxRecDepth 100000 in
theorem c_X0_countCommunities (l : Launch) (D : va_G) (cy : ClassId) (h a0 a1 a2 N : Nat) (ec cc : Int32) (f cs tr : Nat → Int32) (z w : Int32) (hN : N ≤ 20) (hg : gd f N) (hz : zsub z N) (hwz : zle w z) : Met l yX0_countCommunities wsX0_countCommunities ({ frames := 3, cells := 0, slots := 0, locals := 67 } : Room) (va_Pc [.ref h, .int z, .int w] (zRd D (wB h a0 a1 a2 cy N ec cc f cs tr) [(cy, .int)])) (zPo (fun r => r = nI (ccn f N z w))) 0 0 zNo := by
  refine Met.ofW (cc := cX0_countCommunities) (maxL := 6) (ret := (some .int)) (by decide) rfl ?_
  intro p e s m args below meth c s₁ B hml hv
  obtain ⟨rfl, hP, hK⟩ := hv
  have hx := B.exec
  have hb := B.bytes
  have hr := B.returns
  have hts := atoms_spec (ws := wsX0_countCommunities) B.pre
  have hown : s.vm.findClass RX0 = some m.cls := findClass_of_methodNamed B.named
  have hlocks := B.notSynchronized
  have hS : va_S (fun _ => False) s.heap s.heap [] := va_S.rf
  have hin : ∀ w ∈ wsX00, w ∈ wsX0_countCommunities := by decide +kernel
  have hf19 := hts (.fieldLink RX0 19 "Corebarn" "nodeCount" "I") (by decide +kernel)
  have hl := lv_entry ([.ref h, .int z, .int w]) (n := 6) (Nat.le_of_ble_eq_true rfl)
  rw [lg_entry_eq]
  generalize (lg_sl ([.ref h, .int z, .int w]) ++ List.replicate (6 - (lg_sl ([.ref h, .int z, .int w])).length) Slot.unset).toArray = ls at hl ⊢
  have hl : lv_has ls 6 [(0, .ref h), (1, .int z), (2, .int w)] := hl
  refine lv_iconst (v := (nI 0)) hx hb dX0_countCommunities_0 (by decide) ?_
  refine lv_istore_n (lv' := [(3, .int (nI 0)), (0, .ref h), (1, .int z), (2, .int w)]) hx hb dX0_countCommunities_1 rfl hl (by decide) rfl (fun ls hl => ?_)
  refine lv_iload_n hx hb dX0_countCommunities_2 rfl (lv_at hl 3 rfl) ?_
  refine lv_istore (lv' := [(4, .int w), (3, .int (nI 0)), (0, .ref h), (1, .int z), (2, .int w)]) hx hb dX0_countCommunities_3 hl (by decide) rfl (fun ls hl => ?_)
  refine lv_iconst (v := (nI 0)) hx hb dX0_countCommunities_5 (by decide) ?_
  refine lv_istore (lv' := [(5, .int (nI 0)), (4, .int w), (3, .int (nI 0)), (0, .ref h), (1, .int z), (2, .int w)]) hx hb dX0_countCommunities_6 hl (by decide) rfl (fun ls hl => ?_)
  have K8 : ∀ (fu8 : Nat) (i : Nat) (o : Int32) (k : Nat) (H : Heap) (locs : List Loc) (ls : Array Slot), (i ≤ N) → (cI f z w i o) → (k = fb_ct (fst1 f z w) i) → N - i < fu8 → va_P D vwCl (wB h a0 a1 a2 cy N ec cc f cs tr) H → va_S (fun _ => False) s.heap H locs → lv_has ls 6 [(5, .int (nI i)), (4, .int o), (3, .int (nI k)), (0, .ref h), (1, .int z), (2, .int w)] → W p l e (headSpec wsX0_countCommunities ({ frames := 3, cells := 0, slots := 0, locals := 67 } : Room)).room s m ([.ref h, .int z, .int w] : List Value).toArray below meth c H locs 0 0 (MQ below (zPo (fun r => r = nI (ccn f N z w))) ([.ref h, .int z, .int w] : List Value).toArray s 0 0 zNo) (F0 m 8 ls []) := by
    intro fu8
    induction fu8 with
    | zero =>
      intro i o k H locs ls hi hI hk0 hfu8
      exact absurd hfu8 (Nat.not_lt_zero _)
    | succ fu8 ih8 =>
      intro i o k H locs ls hi hI hk0 hfu8 hP hS hl
      have hkb : k ≤ i := by rw [hk0]; exact fb_ct_le _ _
      refine lv_iload hx hb dX0_countCommunities_8 (lv_at hl 0 rfl) ?_
      refine lv_aload_n hx hb dX0_countCommunities_10 rfl (lv_at hl 3 rfl) ?_
      refine va_get (D := D) (ci := 0) (v := .int (nI N)) (C := RX0) (T := TX0) (N := 6) hx hb hts hin hown hK hP 0 rfl rfl 3 (by decide) hf19 (fun _ h9 => h9) rfl dX0_countCommunities_11 ?_
      refine z_icmp_ge (tgt := 53) hx hb dX0_countCommunities_14 (by decide) (by omega) (by omega) (fun h14 => ?_) (fun h14 => ?_)
      · refine lv_iload_n hx hb dX0_countCommunities_53 rfl (lv_at hl 2 rfl) ?_
        exact W.iret (v := (nI k)) hx hb hr (fun t9 ht9 hW9 => ⟨⟨(nI k), (), rfl, (by rw [hk0, Nat.le_antisymm hi h14]; rfl), trivial⟩, hS.F ht9⟩) hS.2.2 dX0_countCommunities_54
      · refine lv_iload hx hb dX0_countCommunities_17 (lv_at hl 1 rfl) ?_
        refine lv_iload hx hb dX0_countCommunities_19 (lv_at hl 0 rfl) ?_
        refine zrS0 (As := [.int o, .int (nI i)]) (rest := []) ⟨hx, hb, hml, hown, hts⟩ (c_X0_contains l o i (by omega)) (va_cwS 2 hts gX0_countCommunities_X0_contains rfl rfl rfl (by decide +kernel) ⟨Nat.le_of_ble_eq_true rfl, Nat.le_of_ble_eq_true rfl⟩) rfl hl rfl (Nat.le_of_ble_eq_true rfl) dX0_countCommunities_21 ⟨Nat.le_of_ble_eq_true rfl, Nat.le_of_ble_eq_true rfl⟩ hS (fun r21 H locs hw21 hk9 hS => ?_)
        obtain rfl : r21 = (zb (bt o i)) := hw21
        have hP := zkeep hP hk9
        refine z_ifb_eq (tgt := 47) hx hb dX0_countCommunities_24 (by decide) (fun h24 => ?_) (fun h24 => ?_)
        · refine lv_iinc (v := (nI (i + 1))) (lv' := [(5, .int (nI (i + 1))), (4, .int o), (3, .int (nI k)), (0, .ref h), (1, .int z), (2, .int w)]) hx hb dX0_countCommunities_47 hl (k := 0) rfl (nI_1 _) (by decide) rfl (fun ls hl => ?_)
          refine lv_goto (tgt := 8) hx hb dX0_countCommunities_50 (by decide) ?_
          exact ih8 (i + 1) o k _ _ _ (by omega) (cI_no (sym_of hg hz) hwz hI h24).2 (ct_no hk0 (cI_no (sym_of hg hz) hwz hI h24).1) (by omega) hP hS (lv_sub hl [0, 1, 2, 3, 4, 5] rfl)
        · refine lv_iload hx hb dX0_countCommunities_27 (lv_at hl 1 rfl) ?_
          refine lv_aload_n hx hb dX0_countCommunities_29 rfl (lv_at hl 3 rfl) ?_
          refine lv_iload hx hb dX0_countCommunities_30 (lv_at hl 0 rfl) ?_
          refine zrS0 (As := [.int (nI i)]) (rest := [.ref h, .int o]) ⟨hx, hb, hml, hown, hts⟩ (c_X0_single l i) (va_cwS 1 hts gX0_countCommunities_X0_single rfl rfl rfl (by decide +kernel) ⟨Nat.le_of_ble_eq_true rfl, Nat.le_of_ble_eq_true rfl⟩) rfl hl rfl (Nat.le_of_ble_eq_true rfl) dX0_countCommunities_32 ⟨Nat.le_of_ble_eq_true rfl, Nat.le_of_ble_eq_true rfl⟩ hS (fun r32 H locs hw32 hk9 hS => ?_)
          obtain rfl : r32 = zsg i := hw32
          have hP := zkeep hP hk9
          refine lv_iload_n hx hb dX0_countCommunities_35 rfl (lv_at hl 4 rfl) ?_
          refine zrV (As := [.int (zsg i), .int z]) (rest := [.int o]) 0 ⟨hx, hb, hml, hown, hts⟩ (c_X0_reach l D cy h a0 a1 a2 N ec cc f cs tr (zsg i) z hN hz) (cwV 2 hts gX0_countCommunities_X0_reach rfl rfl rfl (by decide +kernel) ⟨Nat.le_of_ble_eq_true rfl, Nat.le_of_ble_eq_true rfl⟩) hK hP rfl rfl rfl hl rfl (Nat.le_of_ble_eq_true rfl) dX0_countCommunities_36 ⟨Nat.le_of_ble_eq_true rfl, Nat.le_of_ble_eq_true rfl⟩ hS (fun r36 H locs hw36 hk9 hS => ?_)
          have hw36 : rch f (zsg i) z r36 := hw36
          obtain rfl : r36 = cmp f z i := cmp_of hw36
          have hP := zkeep hP hk9
          refine lv_iconst (v := (-1)) hx hb dX0_countCommunities_39 (by decide) ?_
          refine lv_ixor hx hb dX0_countCommunities_40 ?_
          refine lv_iand hx hb dX0_countCommunities_41 ?_
          refine lv_istore (lv' := [(4, .int (o &&& ((cmp f z i) ^^^ (-1)))), (5, .int (nI i)), (3, .int (nI k)), (0, .ref h), (1, .int z), (2, .int w)]) hx hb dX0_countCommunities_42 hl (by decide) rfl (fun ls hl => ?_)
          refine lv_iinc (v := (nI (k + 1))) (lv' := [(3, .int (nI (k + 1))), (4, .int (o &&& ((cmp f z i) ^^^ (-1)))), (5, .int (nI i)), (0, .ref h), (1, .int z), (2, .int w)]) hx hb dX0_countCommunities_44 hl (k := 2) rfl (nI_1 _) (by decide) rfl (fun ls hl => ?_)
          refine lv_iinc (v := (nI (i + 1))) (lv' := [(5, .int (nI (i + 1))), (3, .int (nI (k + 1))), (4, .int (o &&& ((cmp f z i) ^^^ (-1)))), (0, .ref h), (1, .int z), (2, .int w)]) hx hb dX0_countCommunities_47 hl (k := 2) rfl (nI_1 _) (by decide) rfl (fun ls hl => ?_)
          refine lv_goto (tgt := 8) hx hb dX0_countCommunities_50 (by decide) ?_
          exact ih8 (i + 1) (o &&& ((cmp f z i) ^^^ (-1))) (k + 1) _ _ _ (by omega) (cI_yes hI h24).2 (ct_yes hk0 (cI_yes hI h24).1) (by omega) hP hS (lv_sub hl [0, 2, 1, 3, 4, 5] rfl)
  exact K8 (N - 0 + 1) 0 w 0 _ _ _ (by omega) (cI_0 f z w) rfl (Nat.lt_succ_self _) hP hS (lv_sub hl [0, 1, 2, 3, 4, 5] rfl)
set_option maxHeartbeats 4000000 in
set_option maxRecDepth 100000 in
theorem c_X0_nextToPeel (l : Launch) (D : va_G) (cy : ClassId) (h a0 a1 a2 N : Nat) (ec cc : Int32) (f cs tr : Nat → Int32) (z : Int32) (hN : N ≤ 20) : Met l yX0_nextToPeel wsX0_nextToPeel ({ frames := 2, cells := 0, slots := 0, locals := 41 } : Room) (va_Pc [.ref h, .int z] (zRd D (wB h a0 a1 a2 cy N ec cc f cs tr) [(cy, .int)])) (zPo (fun r => r = nI (npk f z N).1)) 0 0 zNo := by
  refine Met.ofW (cc := cX0_nextToPeel) (maxL := 5) (ret := (some .int)) (by decide) rfl ?_
  intro p e s m args below meth c s₁ B hml hv
  obtain ⟨rfl, hP, hK⟩ := hv
  have hx := B.exec
  have hb := B.bytes
  have hr := B.returns
  have hts := atoms_spec (ws := wsX0_nextToPeel) B.pre
  have hown : s.vm.findClass RX0 = some m.cls := findClass_of_methodNamed B.named
  have hlocks := B.notSynchronized
  have hS : va_S (fun _ => False) s.heap s.heap [] := va_S.rf
  have hin : ∀ w ∈ wsX00, w ∈ wsX0_nextToPeel := by decide +kernel
  have hf9 := hts (.fieldLink RX0 9 "Corebarn" "neighbours" "[I") (by decide +kernel)
  have hf19 := hts (.fieldLink RX0 19 "Corebarn" "nodeCount" "I") (by decide +kernel)
  have hl := lv_entry ([.ref h, .int z]) (n := 5) (Nat.le_of_ble_eq_true rfl)
  rw [lg_entry_eq]
  generalize (lg_sl ([.ref h, .int z]) ++ List.replicate (5 - (lg_sl ([.ref h, .int z])).length) Slot.unset).toArray = ls at hl ⊢
  have hl : lv_has ls 5 [(0, .ref h), (1, .int z)] := hl
  refine lv_iconst (v := (nI 0)) hx hb dX0_nextToPeel_0 (by decide) ?_
  refine lv_istore_n (lv' := [(2, .int (nI 0)), (0, .ref h), (1, .int z)]) hx hb dX0_nextToPeel_1 rfl hl (by decide) rfl (fun ls hl => ?_)
  refine lv_bipush (v := (nI 20)) hx hb dX0_nextToPeel_2 (by decide) ?_
  refine lv_istore_n (lv' := [(3, .int (nI 20)), (2, .int (nI 0)), (0, .ref h), (1, .int z)]) hx hb dX0_nextToPeel_4 rfl hl (by decide) rfl (fun ls hl => ?_)
  refine lv_iconst (v := (nI 0)) hx hb dX0_nextToPeel_5 (by decide) ?_
  refine lv_istore (lv' := [(4, .int (nI 0)), (3, .int (nI 20)), (2, .int (nI 0)), (0, .ref h), (1, .int z)]) hx hb dX0_nextToPeel_6 hl (by decide) rfl (fun ls hl => ?_)
  have K8 : ∀ (fu8 : Nat) (i : Nat) (a : Nat) (q : Nat) (H : Heap) (locs : List Loc) (ls : Array Slot), (i ≤ N) → (npk f z i = (a, q)) → N - i < fu8 → va_P D vwCl (wB h a0 a1 a2 cy N ec cc f cs tr) H → va_S (fun _ => False) s.heap H locs → lv_has ls 5 [(4, .int (nI i)), (2, .int (nI a)), (3, .int (nI q)), (0, .ref h), (1, .int z)] → W p l e (headSpec wsX0_nextToPeel ({ frames := 2, cells := 0, slots := 0, locals := 41 } : Room)).room s m ([.ref h, .int z] : List Value).toArray below meth c H locs 0 0 (MQ below (zPo (fun r => r = nI (npk f z N).1)) ([.ref h, .int z] : List Value).toArray s 0 0 zNo) (F0 m 8 ls []) := by
    intro fu8
    induction fu8 with
    | zero =>
      intro i a q H locs ls hi hn hfu8
      exact absurd hfu8 (Nat.not_lt_zero _)
    | succ fu8 ih8 =>
      intro i a q H locs ls hi hn hfu8 hP hS hl
      have hq20 : q ≤ 20 := by have := npk_le f z i; rw [hn] at this; exact this
      refine lv_iload hx hb dX0_nextToPeel_8 (lv_at hl 0 rfl) ?_
      refine lv_aload_n hx hb dX0_nextToPeel_10 rfl (lv_at hl 3 rfl) ?_
      refine va_get (D := D) (ci := 0) (v := .int (nI N)) (C := RX0) (T := TX0) (N := 6) hx hb hts hin hown hK hP 0 rfl rfl 3 (by decide) hf19 (fun _ h9 => h9) rfl dX0_nextToPeel_11 ?_
      refine z_icmp_ge (tgt := 64) hx hb dX0_nextToPeel_14 (by decide) (by omega) (by omega) (fun h14 => ?_) (fun h14 => ?_)
      · refine lv_iload_n hx hb dX0_nextToPeel_64 rfl (lv_at hl 1 rfl) ?_
        exact W.iret (v := (nI a)) hx hb hr (fun t9 ht9 hW9 => ⟨⟨(nI a), (), rfl, (by rw [← Nat.le_antisymm hi h14, hn]), trivial⟩, hS.F ht9⟩) hS.2.2 dX0_nextToPeel_65
      · refine lv_iload_n hx hb dX0_nextToPeel_17 rfl (lv_at hl 4 rfl) ?_
        refine lv_iload hx hb dX0_nextToPeel_18 (lv_at hl 0 rfl) ?_
        refine zrS0 (As := [.int z, .int (nI i)]) (rest := []) ⟨hx, hb, hml, hown, hts⟩ (c_X0_contains l z i (by omega)) (va_cwS 2 hts gX0_nextToPeel_X0_contains rfl rfl rfl (by decide +kernel) ⟨Nat.le_of_ble_eq_true rfl, Nat.le_of_ble_eq_true rfl⟩) rfl hl rfl (Nat.le_of_ble_eq_true rfl) dX0_nextToPeel_20 ⟨Nat.le_of_ble_eq_true rfl, Nat.le_of_ble_eq_true rfl⟩ hS (fun r20 H locs hw20 hk9 hS => ?_)
        obtain rfl : r20 = (zb (bt z i)) := hw20
        have hP := zkeep hP hk9
        refine z_ifb_eq (tgt := 58) hx hb dX0_nextToPeel_23 (by decide) (fun h23 => ?_) (fun h23 => ?_)
        · refine lv_iinc (v := (nI (i + 1))) (lv' := [(4, .int (nI (i + 1))), (2, .int (nI a)), (3, .int (nI q)), (0, .ref h), (1, .int z)]) hx hb dX0_nextToPeel_58 hl (k := 0) rfl (nI_1 _) (by decide) rfl (fun ls hl => ?_)
          refine lv_goto (tgt := 8) hx hb dX0_nextToPeel_61 (by decide) ?_
          exact ih8 (i + 1) a q _ _ _ (by omega) (by rw [npk_no (fun q => by rw [h23] at q; cases q.1)]; exact hn) (by omega) hP hS (lv_sub hl [0, 1, 2, 3, 4] rfl)
        · refine lv_aload_n hx hb dX0_nextToPeel_26 rfl (lv_at hl 3 rfl) ?_
          refine va_get (D := D) (ci := 0) (v := .ref a0) (C := RX0) (T := TX0) (N := 6) hx hb hts hin hown hK hP 0 rfl rfl 0 (by decide) hf9 (fun _ h9 => h9) rfl dX0_nextToPeel_27 ?_
          refine lv_iload hx hb dX0_nextToPeel_30 (lv_at hl 0 rfl) ?_
          refine z_iald hx hb hK hP 1 0 rfl rfl (by omega) (by decide) dX0_nextToPeel_32 ?_
          refine lv_iload_n hx hb dX0_nextToPeel_33 rfl (lv_at hl 4 rfl) ?_
          refine lv_iand hx hb dX0_nextToPeel_34 ?_
          refine zrS0 (As := [.int ((f i) &&& z)]) (rest := []) ⟨hx, hb, hml, hown, hts⟩ (c_X0_size l ((f i) &&& z)) (va_cwS 1 hts gX0_nextToPeel_X0_size rfl rfl rfl (by decide +kernel) ⟨Nat.le_of_ble_eq_true rfl, Nat.le_of_ble_eq_true rfl⟩) rfl hl rfl (Nat.le_of_ble_eq_true rfl) dX0_nextToPeel_35 ⟨Nat.le_of_ble_eq_true rfl, Nat.le_of_ble_eq_true rfl⟩ hS (fun r35 H locs hw35 hk9 hS => ?_)
          obtain rfl : r35 = (nI (zpop ((f i) &&& z))) := hw35
          have hP := zkeep hP hk9
          refine lv_iload_n hx hb dX0_nextToPeel_38 rfl (lv_at hl 2 rfl) ?_
          refine z_icmp_ge (tgt := 58) hx hb dX0_nextToPeel_39 (by decide) (pop_31 _) (by omega) (fun h39 => ?_) (fun h39 => ?_)
          · refine lv_iinc (v := (nI (i + 1))) (lv' := [(4, .int (nI (i + 1))), (2, .int (nI a)), (3, .int (nI q)), (0, .ref h), (1, .int z)]) hx hb dX0_nextToPeel_58 hl (k := 0) rfl (nI_1 _) (by decide) rfl (fun ls hl => ?_)
            refine lv_goto (tgt := 8) hx hb dX0_nextToPeel_61 (by decide) ?_
            exact ih8 (i + 1) a q _ _ _ (by omega) (by rw [npk_no (fun q => absurd q.2 (by rw [hn]; exact Nat.not_lt.mpr h39))]; exact hn) (by omega) hP hS (lv_sub hl [0, 1, 2, 3, 4] rfl)
          · refine lv_iload hx hb dX0_nextToPeel_42 (lv_at hl 0 rfl) ?_
            refine lv_istore_n (lv' := [(2, .int (nI i)), (4, .int (nI i)), (3, .int (nI q)), (0, .ref h), (1, .int z)]) hx hb dX0_nextToPeel_44 rfl hl (by decide) rfl (fun ls hl => ?_)
            refine lv_aload_n hx hb dX0_nextToPeel_45 rfl (lv_at hl 3 rfl) ?_
            refine va_get (D := D) (ci := 0) (v := .ref a0) (C := RX0) (T := TX0) (N := 6) hx hb hts hin hown hK hP 0 rfl rfl 0 (by decide) hf9 (fun _ h9 => h9) rfl dX0_nextToPeel_46 ?_
            refine lv_iload hx hb dX0_nextToPeel_49 (lv_at hl 1 rfl) ?_
            refine z_iald hx hb hK hP 1 0 rfl rfl (by omega) (by decide) dX0_nextToPeel_51 ?_
            refine lv_iload_n hx hb dX0_nextToPeel_52 rfl (lv_at hl 4 rfl) ?_
            refine lv_iand hx hb dX0_nextToPeel_53 ?_
            refine zrS0 (As := [.int ((f i) &&& z)]) (rest := []) ⟨hx, hb, hml, hown, hts⟩ (c_X0_size l ((f i) &&& z)) (va_cwS 1 hts gX0_nextToPeel_X0_size rfl rfl rfl (by decide +kernel) ⟨Nat.le_of_ble_eq_true rfl, Nat.le_of_ble_eq_true rfl⟩) rfl hl rfl (Nat.le_of_ble_eq_true rfl) dX0_nextToPeel_54 ⟨Nat.le_of_ble_eq_true rfl, Nat.le_of_ble_eq_true rfl⟩ hS (fun r54 H locs hw54 hk9 hS => ?_)
            obtain rfl : r54 = (nI (zpop ((f i) &&& z))) := hw54
            have hP := zkeep hP hk9
            refine lv_istore_n (lv' := [(3, .int (nI (zpop ((f i) &&& z)))), (2, .int (nI i)), (4, .int (nI i)), (0, .ref h), (1, .int z)]) hx hb dX0_nextToPeel_57 rfl hl (by decide) rfl (fun ls hl => ?_)
            refine lv_iinc (v := (nI (i + 1))) (lv' := [(4, .int (nI (i + 1))), (3, .int (nI (zpop ((f i) &&& z)))), (2, .int (nI i)), (0, .ref h), (1, .int z)]) hx hb dX0_nextToPeel_58 hl (k := 2) rfl (nI_1 _) (by decide) rfl (fun ls hl => ?_)
            refine lv_goto (tgt := 8) hx hb dX0_nextToPeel_61 (by decide) ?_
            exact ih8 (i + 1) i (zpop ((f i) &&& z)) _ _ _ (by omega) (npk_yes h23 (by rw [hn]; exact h39)) (by omega) hP hS (lv_sub hl [0, 2, 1, 3, 4] rfl)
  exact K8 (N - 0 + 1) 0 0 20 _ _ _ (by omega) rfl (Nat.lt_succ_self _) hP hS (lv_sub hl [0, 2, 1, 3, 4] rfl)
set_option maxHeartbeats 4000000 in
set_option maxRecDepth 100000 in
theorem c_X0_denseSet (l : Launch) (D : va_G) (cy : ClassId) (h a0 a1 a2 N : Nat) (ec cc : Int32) (f cs tr : Nat → Int32) (hN : N ≤ 20) (hec : ec = nI (ewn f N (zal N))) : Met l yX0_denseSet wsX0_denseSet ({ frames := 3, cells := 0, slots := 0, locals := 65 } : Room) (va_Pc [.ref h] (zRd D (wB h a0 a1 a2 cy N ec cc f cs tr) [(cy, .int)])) (zPo (fun r => r = (dsk f N (N - 1)).2.1)) 0 0 zNo := by
  refine Met.ofW (cc := cX0_denseSet) (maxL := 6) (ret := (some .int)) (by decide) rfl ?_
  intro p e s m args below meth c s₁ B hml hv
  obtain ⟨rfl, hP, hK⟩ := hv
  have hx := B.exec
  have hb := B.bytes
  have hr := B.returns
  have hts := atoms_spec (ws := wsX0_denseSet) B.pre
  have hown : s.vm.findClass RX0 = some m.cls := findClass_of_methodNamed B.named
  have hlocks := B.notSynchronized
  have hS : va_S (fun _ => False) s.heap s.heap [] := va_S.rf
  have hin : ∀ w ∈ wsX00, w ∈ wsX0_denseSet := by decide +kernel
  have hf19 := hts (.fieldLink RX0 19 "Corebarn" "nodeCount" "I") (by decide +kernel)
  have hf23 := hts (.fieldLink RX0 23 "Corebarn" "edgeCount" "I") (by decide +kernel)
  have hl := lv_entry ([.ref h]) (n := 6) (Nat.le_of_ble_eq_true rfl)
  rw [lg_entry_eq]
  generalize (lg_sl ([.ref h]) ++ List.replicate (6 - (lg_sl ([.ref h])).length) Slot.unset).toArray = ls at hl ⊢
  have hl : lv_has ls 6 [(0, .ref h)] := hl
  refine lv_aload_n hx hb dX0_denseSet_0 rfl (lv_at hl 0 rfl) ?_
  refine zrV (As := []) (rest := []) 0 ⟨hx, hb, hml, hown, hts⟩ (c_X0_allNodes l D cy h a0 a1 a2 N ec cc f cs tr hN) (cwV 0 hts gX0_denseSet_X0_allNodes rfl rfl rfl (by decide +kernel) ⟨Nat.le_of_ble_eq_true rfl, Nat.le_of_ble_eq_true rfl⟩) hK hP rfl rfl rfl hl rfl (Nat.le_of_ble_eq_true rfl) dX0_denseSet_1 ⟨Nat.le_of_ble_eq_true rfl, Nat.le_of_ble_eq_true rfl⟩ hS (fun r1 H locs hw1 hk9 hS => ?_)
  obtain rfl : r1 = zal N := hw1
  have hP := zkeep hP hk9
  refine lv_istore_n (lv' := [(1, .int (zal N)), (0, .ref h)]) hx hb dX0_denseSet_4 rfl hl (by decide) rfl (fun ls hl => ?_)
  refine lv_iload_n hx hb dX0_denseSet_5 rfl (lv_at hl 0 rfl) ?_
  refine lv_istore_n (lv' := [(2, .int (zal N)), (1, .int (zal N)), (0, .ref h)]) hx hb dX0_denseSet_6 rfl hl (by decide) rfl (fun ls hl => ?_)
  refine lv_aload_n hx hb dX0_denseSet_7 rfl (lv_at hl 2 rfl) ?_
  refine va_get (D := D) (ci := 0) (v := .int ec) (C := RX0) (T := TX0) (N := 6) hx hb hts hin hown hK hP 0 rfl rfl 4 (by decide) hf23 (fun _ h9 => h9) rfl dX0_denseSet_8 ?_
  rw [hec]
  refine lv_istore_n (lv' := [(3, .int (nI (ewn f N (zal N)))), (2, .int (zal N)), (1, .int (zal N)), (0, .ref h)]) hx hb dX0_denseSet_11 rfl hl (by decide) rfl (fun ls hl => ?_)
  refine lv_iconst (v := (nI 1)) hx hb dX0_denseSet_12 (by decide) ?_
  refine lv_istore (lv' := [(4, .int (nI 1)), (3, .int (nI (ewn f N (zal N)))), (2, .int (zal N)), (1, .int (zal N)), (0, .ref h)]) hx hb dX0_denseSet_13 hl (by decide) rfl (fun ls hl => ?_)
  have K15 : ∀ (fu15 : Nat) (t : Nat) (x : Int32) (y : Int32) (q : Nat) (H : Heap) (locs : List Loc) (ls : Array Slot), (t + 1 ≤ N ∨ t = 0) → (dsk f N t = (x, y, q)) → N - t < fu15 → va_P D vwCl (wB h a0 a1 a2 cy N ec cc f cs tr) H → va_S (fun _ => False) s.heap H locs → lv_has ls 6 [(4, .int (nI (t + 1))), (1, .int x), (2, .int y), (3, .int (nI q)), (0, .ref h)] → W p l e (headSpec wsX0_denseSet ({ frames := 3, cells := 0, slots := 0, locals := 65 } : Room)).room s m ([.ref h] : List Value).toArray below meth c H locs 0 0 (MQ below (zPo (fun r => r = (dsk f N (N - 1)).2.1)) ([.ref h] : List Value).toArray s 0 0 zNo) (F0 m 15 ls []) := by
    intro fu15
    induction fu15 with
    | zero =>
      intro t x y q H locs ls ht hd hfu15
      exact absurd hfu15 (Nat.not_lt_zero _)
    | succ fu15 ih15 =>
      intro t x y q H locs ls ht hd hfu15 hP hS hl
      have hq : q ≤ 320 := by have h1 := (dsk_sub hN t (f := f)).2.2; rw [hd] at h1; have h2 := ewn_b f hN y; simp only at h1; omega
      have hm1 : ewn f N (zdl x (npk f x N).1) * zpop y ≤ 320 * 32 := Nat.mul_le_mul (ewn_b f hN _) (pop_32 y)
      have hm2 : q * zpop (zdl x (npk f x N).1) ≤ 320 * 32 := Nat.mul_le_mul hq (pop_32 _)
      have hp0 := npk_le0 f x N
      refine lv_iload hx hb dX0_denseSet_15 (lv_at hl 0 rfl) ?_
      refine lv_aload_n hx hb dX0_denseSet_17 rfl (lv_at hl 4 rfl) ?_
      refine va_get (D := D) (ci := 0) (v := .int (nI N)) (C := RX0) (T := TX0) (N := 6) hx hb hts hin hown hK hP 0 rfl rfl 3 (by decide) hf19 (fun _ h9 => h9) rfl dX0_denseSet_18 ?_
      refine z_icmp_ge (tgt := 68) hx hb dX0_denseSet_21 (by decide) (by omega) (by omega) (fun h21 => ?_) (fun h21 => ?_)
      · refine lv_iload_n hx hb dX0_denseSet_68 rfl (lv_at hl 2 rfl) ?_
        exact W.iret (v := y) hx hb hr (fun t9 ht9 hW9 => ⟨⟨y, (), rfl, (by rw [show N - 1 = t by omega, hd]), trivial⟩, hS.F ht9⟩) hS.2.2 dX0_denseSet_69
      · refine lv_iload_n hx hb dX0_denseSet_24 rfl (lv_at hl 1 rfl) ?_
        refine lv_aload_n hx hb dX0_denseSet_25 rfl (lv_at hl 4 rfl) ?_
        refine lv_iload_n hx hb dX0_denseSet_26 rfl (lv_at hl 1 rfl) ?_
        refine zrV (As := [.int x]) (rest := [.int x]) 0 ⟨hx, hb, hml, hown, hts⟩ (c_X0_nextToPeel l D cy h a0 a1 a2 N ec cc f cs tr x hN) (cwV 1 hts gX0_denseSet_X0_nextToPeel rfl rfl rfl (by decide +kernel) ⟨Nat.le_of_ble_eq_true rfl, Nat.le_of_ble_eq_true rfl⟩) hK hP rfl rfl rfl hl rfl (Nat.le_of_ble_eq_true rfl) dX0_denseSet_27 ⟨Nat.le_of_ble_eq_true rfl, Nat.le_of_ble_eq_true rfl⟩ hS (fun r27 H locs hw27 hk9 hS => ?_)
        obtain rfl : r27 = (nI ((npk f x N).1)) := hw27
        have hP := zkeep hP hk9
        refine zrS0 (As := [.int x, .int (nI ((npk f x N).1))]) (rest := []) ⟨hx, hb, hml, hown, hts⟩ (c_X0_without l x ((npk f x N).1)) (va_cwS 2 hts gX0_denseSet_X0_without rfl rfl rfl (by decide +kernel) ⟨Nat.le_of_ble_eq_true rfl, Nat.le_of_ble_eq_true rfl⟩) rfl hl rfl (Nat.le_of_ble_eq_true rfl) dX0_denseSet_30 ⟨Nat.le_of_ble_eq_true rfl, Nat.le_of_ble_eq_true rfl⟩ hS (fun r30 H locs hw30 hk9 hS => ?_)
        obtain rfl : r30 = (zdl x ((npk f x N).1)) := hw30
        have hP := zkeep hP hk9
        refine lv_istore_n (lv' := [(1, .int (zdl x ((npk f x N).1))), (4, .int (nI (t + 1))), (2, .int y), (3, .int (nI q)), (0, .ref h)]) hx hb dX0_denseSet_33 rfl hl (by decide) rfl (fun ls hl => ?_)
        refine lv_aload_n hx hb dX0_denseSet_34 rfl (lv_at hl 4 rfl) ?_
        refine lv_iload_n hx hb dX0_denseSet_35 rfl (lv_at hl 0 rfl) ?_
        refine zrV (As := [.int (zdl x ((npk f x N).1))]) (rest := []) 0 ⟨hx, hb, hml, hown, hts⟩ (c_X0_edgesWithin l D cy h a0 a1 a2 N ec cc f cs tr (zdl x ((npk f x N).1)) hN) (cwV 1 hts gX0_denseSet_X0_edgesWithin rfl rfl rfl (by decide +kernel) ⟨Nat.le_of_ble_eq_true rfl, Nat.le_of_ble_eq_true rfl⟩) hK hP rfl rfl rfl hl rfl (Nat.le_of_ble_eq_true rfl) dX0_denseSet_36 ⟨Nat.le_of_ble_eq_true rfl, Nat.le_of_ble_eq_true rfl⟩ hS (fun r36 H locs hw36 hk9 hS => ?_)
        obtain rfl : r36 = (nI (ewn f N (zdl x ((npk f x N).1)))) := hw36
        have hP := zkeep hP hk9
        refine lv_istore (lv' := [(5, .int (nI (ewn f N (zdl x ((npk f x N).1))))), (1, .int (zdl x ((npk f x N).1))), (4, .int (nI (t + 1))), (2, .int y), (3, .int (nI q)), (0, .ref h)]) hx hb dX0_denseSet_39 hl (by decide) rfl (fun ls hl => ?_)
        refine lv_iload hx hb dX0_denseSet_41 (lv_at hl 0 rfl) ?_
        refine lv_iload_n hx hb dX0_denseSet_43 rfl (lv_at hl 3 rfl) ?_
        refine zrS0 (As := [.int y]) (rest := [.int (nI (ewn f N (zdl x ((npk f x N).1))))]) ⟨hx, hb, hml, hown, hts⟩ (c_X0_size l y) (va_cwS 1 hts gX0_denseSet_X0_size rfl rfl rfl (by decide +kernel) ⟨Nat.le_of_ble_eq_true rfl, Nat.le_of_ble_eq_true rfl⟩) rfl hl rfl (Nat.le_of_ble_eq_true rfl) dX0_denseSet_44 ⟨Nat.le_of_ble_eq_true rfl, Nat.le_of_ble_eq_true rfl⟩ hS (fun r44 H locs hw44 hk9 hS => ?_)
        obtain rfl : r44 = (nI (zpop y)) := hw44
        have hP := zkeep hP hk9
        refine z_imul hx hb dX0_denseSet_47 ?_
        refine lv_iload_n hx hb dX0_denseSet_48 rfl (lv_at hl 4 rfl) ?_
        refine lv_iload_n hx hb dX0_denseSet_49 rfl (lv_at hl 1 rfl) ?_
        refine zrS0 (As := [.int (zdl x ((npk f x N).1))]) (rest := [.int (nI q), .int (nI ((ewn f N (zdl x ((npk f x N).1))) * (zpop y)))]) ⟨hx, hb, hml, hown, hts⟩ (c_X0_size l (zdl x ((npk f x N).1))) (va_cwS 1 hts gX0_denseSet_X0_size rfl rfl rfl (by decide +kernel) ⟨Nat.le_of_ble_eq_true rfl, Nat.le_of_ble_eq_true rfl⟩) rfl hl rfl (Nat.le_of_ble_eq_true rfl) dX0_denseSet_50 ⟨Nat.le_of_ble_eq_true rfl, Nat.le_of_ble_eq_true rfl⟩ hS (fun r50 H locs hw50 hk9 hS => ?_)
        obtain rfl : r50 = (nI (zpop (zdl x ((npk f x N).1)))) := hw50
        have hP := zkeep hP hk9
        refine z_imul hx hb dX0_denseSet_53 ?_
        refine z_icmp_le (tgt := 62) hx hb dX0_denseSet_54 (by decide) (by omega) (by omega) (fun h54 => ?_) (fun h54 => ?_)
        · refine lv_iinc (v := (nI (t + 1 + 1))) (lv' := [(4, .int (nI (t + 1 + 1))), (5, .int (nI (ewn f N (zdl x ((npk f x N).1))))), (1, .int (zdl x ((npk f x N).1))), (2, .int y), (3, .int (nI q)), (0, .ref h)]) hx hb dX0_denseSet_62 hl (k := 2) rfl (nI_1 _) (by decide) rfl (fun ls hl => ?_)
          refine lv_goto (tgt := 15) hx hb dX0_denseSet_65 (by decide) ?_
          exact ih15 (t + 1) (zdl x ((npk f x N).1)) y q _ _ _ (by omega) (by rw [dsk_no (x := zdl x (npk f x N).1) (by rw [hd]) (by rw [hd]; exact h54), hd]) (by omega) hP hS (lv_sub hl [0, 2, 3, 4, 5] rfl)
        · refine lv_iload_n hx hb dX0_denseSet_57 rfl (lv_at hl 1 rfl) ?_
          refine lv_istore_n (lv' := [(2, .int (zdl x ((npk f x N).1))), (5, .int (nI (ewn f N (zdl x ((npk f x N).1))))), (1, .int (zdl x ((npk f x N).1))), (4, .int (nI (t + 1))), (3, .int (nI q)), (0, .ref h)]) hx hb dX0_denseSet_58 rfl hl (by decide) rfl (fun ls hl => ?_)
          refine lv_iload hx hb dX0_denseSet_59 (lv_at hl 1 rfl) ?_
          refine lv_istore_n (lv' := [(3, .int (nI (ewn f N (zdl x ((npk f x N).1))))), (2, .int (zdl x ((npk f x N).1))), (5, .int (nI (ewn f N (zdl x ((npk f x N).1))))), (1, .int (zdl x ((npk f x N).1))), (4, .int (nI (t + 1))), (0, .ref h)]) hx hb dX0_denseSet_61 rfl hl (by decide) rfl (fun ls hl => ?_)
          refine lv_iinc (v := (nI (t + 1 + 1))) (lv' := [(4, .int (nI (t + 1 + 1))), (3, .int (nI (ewn f N (zdl x ((npk f x N).1))))), (2, .int (zdl x ((npk f x N).1))), (5, .int (nI (ewn f N (zdl x ((npk f x N).1))))), (1, .int (zdl x ((npk f x N).1))), (0, .ref h)]) hx hb dX0_denseSet_62 hl (k := 4) rfl (nI_1 _) (by decide) rfl (fun ls hl => ?_)
          refine lv_goto (tgt := 15) hx hb dX0_denseSet_65 (by decide) ?_
          exact ih15 (t + 1) (zdl x ((npk f x N).1)) (zdl x ((npk f x N).1)) (ewn f N (zdl x ((npk f x N).1))) _ _ _ (by omega) (dsk_yes (by rw [hd]) (by rw [hd]; exact h54)) (by omega) hP hS (lv_sub hl [0, 4, 2, 1, 5] rfl)
  exact K15 (N - 0 + 1) 0 (zal N) (zal N) (ewn f N (zal N)) _ _ _ (by omega) rfl (Nat.lt_succ_self _) hP hS (lv_sub hl [0, 3, 2, 1, 4] rfl)
set_option maxHeartbeats 4000000 in
set_option maxRecDepth 100000 in
theorem c_X0_nodes (l : Launch) (D : va_G) (cy : ClassId) (h a0 a1 a2 N : Nat) (ec cc : Int32) (f cs tr : Nat → Int32)  : Met l yX0_nodes wsX0_nodes ({ frames := 0, cells := 0, slots := 0, locals := 0 } : Room) (va_Pc [.ref h] (zRd D (wB h a0 a1 a2 cy N ec cc f cs tr) [(cy, .int)])) (zPo (fun r => r = nI N)) 0 0 zNo := by
  refine Met.ofW (cc := cX0_nodes) (maxL := 1) (ret := (some .int)) (by decide) rfl ?_
  intro p e s m args below meth c s₁ B hml hv
  obtain ⟨rfl, hP, hK⟩ := hv
  have hx := B.exec
  have hb := B.bytes
  have hr := B.returns
  have hts := atoms_spec (ws := wsX0_nodes) B.pre
  have hown : s.vm.findClass RX0 = some m.cls := findClass_of_methodNamed B.named
  have hlocks := B.notSynchronized
  have hS : va_S (fun _ => False) s.heap s.heap [] := va_S.rf
  have hin : ∀ w ∈ wsX00, w ∈ wsX0_nodes := by decide +kernel
  have hf19 := hts (.fieldLink RX0 19 "Corebarn" "nodeCount" "I") (by decide +kernel)
  have hl := lv_entry ([.ref h]) (n := 1) (Nat.le_of_ble_eq_true rfl)
  rw [lg_entry_eq]
  generalize (lg_sl ([.ref h]) ++ List.replicate (1 - (lg_sl ([.ref h])).length) Slot.unset).toArray = ls at hl ⊢
  have hl : lv_has ls 1 [(0, .ref h)] := hl
  refine lv_aload_n hx hb dX0_nodes_0 rfl (lv_at hl 0 rfl) ?_
  refine va_get (D := D) (ci := 0) (v := .int (nI N)) (C := RX0) (T := TX0) (N := 6) hx hb hts hin hown hK hP 0 rfl rfl 3 (by decide) hf19 (fun _ h9 => h9) rfl dX0_nodes_1 ?_
  exact W.iret (v := (nI N)) hx hb hr (fun t9 ht9 hW9 => ⟨⟨(nI N), (), rfl, rfl, trivial⟩, hS.F ht9⟩) hS.2.2 dX0_nodes_4
set_option maxHeartbeats 4000000 in
set_option maxRecDepth 100000 in
theorem c_X0_edges (l : Launch) (D : va_G) (cy : ClassId) (h a0 a1 a2 N : Nat) (ec cc : Int32) (f cs tr : Nat → Int32)  : Met l yX0_edges wsX0_edges ({ frames := 0, cells := 0, slots := 0, locals := 0 } : Room) (va_Pc [.ref h] (zRd D (wB h a0 a1 a2 cy N ec cc f cs tr) [(cy, .int)])) (zPo (fun r => r = ec)) 0 0 zNo := by
  refine Met.ofW (cc := cX0_edges) (maxL := 1) (ret := (some .int)) (by decide) rfl ?_
  intro p e s m args below meth c s₁ B hml hv
  obtain ⟨rfl, hP, hK⟩ := hv
  have hx := B.exec
  have hb := B.bytes
  have hr := B.returns
  have hts := atoms_spec (ws := wsX0_edges) B.pre
  have hown : s.vm.findClass RX0 = some m.cls := findClass_of_methodNamed B.named
  have hlocks := B.notSynchronized
  have hS : va_S (fun _ => False) s.heap s.heap [] := va_S.rf
  have hin : ∀ w ∈ wsX00, w ∈ wsX0_edges := by decide +kernel
  have hf23 := hts (.fieldLink RX0 23 "Corebarn" "edgeCount" "I") (by decide +kernel)
  have hl := lv_entry ([.ref h]) (n := 1) (Nat.le_of_ble_eq_true rfl)
  rw [lg_entry_eq]
  generalize (lg_sl ([.ref h]) ++ List.replicate (1 - (lg_sl ([.ref h])).length) Slot.unset).toArray = ls at hl ⊢
  have hl : lv_has ls 1 [(0, .ref h)] := hl
  refine lv_aload_n hx hb dX0_edges_0 rfl (lv_at hl 0 rfl) ?_
  refine va_get (D := D) (ci := 0) (v := .int ec) (C := RX0) (T := TX0) (N := 6) hx hb hts hin hown hK hP 0 rfl rfl 4 (by decide) hf23 (fun _ h9 => h9) rfl dX0_edges_1 ?_
  exact W.iret (v := ec) hx hb hr (fun t9 ht9 hW9 => ⟨⟨ec, (), rfl, rfl, trivial⟩, hS.F ht9⟩) hS.2.2 dX0_edges_4
set_option maxHeartbeats 4000000 in
set_option maxRecDepth 100000 in
theorem c_X0_changes (l : Launch) (D : va_G) (cy : ClassId) (h a0 a1 a2 N : Nat) (ec cc : Int32) (f cs tr : Nat → Int32)  : Met l yX0_changes wsX0_changes ({ frames := 0, cells := 0, slots := 0, locals := 0 } : Room) (va_Pc [.ref h] (zRd D (wB h a0 a1 a2 cy N ec cc f cs tr) [(cy, .int)])) (zPo (fun r => r = cc)) 0 0 zNo := by
  refine Met.ofW (cc := cX0_changes) (maxL := 1) (ret := (some .int)) (by decide) rfl ?_
  intro p e s m args below meth c s₁ B hml hv
  obtain ⟨rfl, hP, hK⟩ := hv
  have hx := B.exec
  have hb := B.bytes
  have hr := B.returns
  have hts := atoms_spec (ws := wsX0_changes) B.pre
  have hown : s.vm.findClass RX0 = some m.cls := findClass_of_methodNamed B.named
  have hlocks := B.notSynchronized
  have hS : va_S (fun _ => False) s.heap s.heap [] := va_S.rf
  have hin : ∀ w ∈ wsX00, w ∈ wsX0_changes := by decide +kernel
  have hf26 := hts (.fieldLink RX0 26 "Corebarn" "coreChanges" "I") (by decide +kernel)
  have hl := lv_entry ([.ref h]) (n := 1) (Nat.le_of_ble_eq_true rfl)
  rw [lg_entry_eq]
  generalize (lg_sl ([.ref h]) ++ List.replicate (1 - (lg_sl ([.ref h])).length) Slot.unset).toArray = ls at hl ⊢
  have hl : lv_has ls 1 [(0, .ref h)] := hl
  refine lv_aload_n hx hb dX0_changes_0 rfl (lv_at hl 0 rfl) ?_
  refine va_get (D := D) (ci := 0) (v := .int cc) (C := RX0) (T := TX0) (N := 6) hx hb hts hin hown hK hP 0 rfl rfl 5 (by decide) hf26 (fun _ h9 => h9) rfl dX0_changes_1 ?_
  exact W.iret (v := cc) hx hb hr (fun t9 ht9 hW9 => ⟨⟨cc, (), rfl, rfl, trivial⟩, hS.F ht9⟩) hS.2.2 dX0_changes_4
set_option maxHeartbeats 4000000 in
set_option maxRecDepth 100000 in
theorem c_X0_degeneracy (l : Launch) (D : va_G) (cy : ClassId) (h a0 a1 a2 N : Nat) (ec cc : Int32) (f cs tr : Nat → Int32) (c0 : Nat → Nat) (hN : N ≤ 20) (hc : csI cs c0 N) : Met l yX0_degeneracy wsX0_degeneracy ({ frames := 1, cells := 0, slots := 0, locals := 21 } : Room) (va_Pc [.ref h] (zRd D (wB h a0 a1 a2 cy N ec cc f cs tr) [(cy, .int)])) (zPo (fun r => ∃ d, r = nI d ∧ d < 20 ∧ isMx c0 N d)) 0 0 zNo := by
  refine Met.ofW (cc := cX0_degeneracy) (maxL := 3) (ret := (some .int)) (by decide) rfl ?_
  intro p e s m args below meth c s₁ B hml hv
  obtain ⟨rfl, hP, hK⟩ := hv
  have hx := B.exec
  have hb := B.bytes
  have hr := B.returns
  have hts := atoms_spec (ws := wsX0_degeneracy) B.pre
  have hown : s.vm.findClass RX0 = some m.cls := findClass_of_methodNamed B.named
  have hlocks := B.notSynchronized
  have hS : va_S (fun _ => False) s.heap s.heap [] := va_S.rf
  have hin : ∀ w ∈ wsX00, w ∈ wsX0_degeneracy := by decide +kernel
  have hf13 := hts (.fieldLink RX0 13 "Corebarn" "cores" "[I") (by decide +kernel)
  have hf19 := hts (.fieldLink RX0 19 "Corebarn" "nodeCount" "I") (by decide +kernel)
  have hl := lv_entry ([.ref h]) (n := 3) (Nat.le_of_ble_eq_true rfl)
  rw [lg_entry_eq]
  generalize (lg_sl ([.ref h]) ++ List.replicate (3 - (lg_sl ([.ref h])).length) Slot.unset).toArray = ls at hl ⊢
  have hl : lv_has ls 3 [(0, .ref h)] := hl
  refine lv_iconst (v := (nI 0)) hx hb dX0_degeneracy_0 (by decide) ?_
  refine lv_istore_n (lv' := [(1, .int (nI 0)), (0, .ref h)]) hx hb dX0_degeneracy_1 rfl hl (by decide) rfl (fun ls hl => ?_)
  refine lv_iconst (v := (nI 0)) hx hb dX0_degeneracy_2 (by decide) ?_
  refine lv_istore_n (lv' := [(2, .int (nI 0)), (1, .int (nI 0)), (0, .ref h)]) hx hb dX0_degeneracy_3 rfl hl (by decide) rfl (fun ls hl => ?_)
  have K4 : ∀ (fu4 : Nat) (i : Nat) (d : Nat) (H : Heap) (locs : List Loc) (ls : Array Slot), (i ≤ N) → (isMx c0 i d) → (d < 20) → N - i < fu4 → va_P D vwCl (wB h a0 a1 a2 cy N ec cc f cs tr) H → va_S (fun _ => False) s.heap H locs → lv_has ls 3 [(2, .int (nI i)), (1, .int (nI d)), (0, .ref h)] → W p l e (headSpec wsX0_degeneracy ({ frames := 1, cells := 0, slots := 0, locals := 21 } : Room)).room s m ([.ref h] : List Value).toArray below meth c H locs 0 0 (MQ below (zPo (fun r => ∃ d, r = nI d ∧ d < 20 ∧ isMx c0 N d)) ([.ref h] : List Value).toArray s 0 0 zNo) (F0 m 4 ls []) := by
    intro fu4
    induction fu4 with
    | zero =>
      intro i d H locs ls hi hd hd20 hfu4
      exact absurd hfu4 (Nat.not_lt_zero _)
    | succ fu4 ih4 =>
      intro i d H locs ls hi hd hd20 hfu4 hP hS hl
      refine lv_iload_n hx hb dX0_degeneracy_4 rfl (lv_at hl 0 rfl) ?_
      refine lv_aload_n hx hb dX0_degeneracy_5 rfl (lv_at hl 2 rfl) ?_
      refine va_get (D := D) (ci := 0) (v := .int (nI N)) (C := RX0) (T := TX0) (N := 6) hx hb hts hin hown hK hP 0 rfl rfl 3 (by decide) hf19 (fun _ h9 => h9) rfl dX0_degeneracy_6 ?_
      refine z_icmp_ge (tgt := 29) hx hb dX0_degeneracy_9 (by decide) (by omega) (by omega) (fun h9 => ?_) (fun h9 => ?_)
      · refine lv_iload_n hx hb dX0_degeneracy_29 rfl (lv_at hl 1 rfl) ?_
        exact W.iret (v := (nI d)) hx hb hr (fun t9 ht9 hW9 => ⟨⟨(nI d), (), rfl, ⟨d, rfl, hd20, Nat.le_antisymm hi h9 ▸ hd⟩, trivial⟩, hS.F ht9⟩) hS.2.2 dX0_degeneracy_30
      · refine lv_iload_n hx hb dX0_degeneracy_12 rfl (lv_at hl 1 rfl) ?_
        refine lv_aload_n hx hb dX0_degeneracy_13 rfl (lv_at hl 2 rfl) ?_
        refine va_get (D := D) (ci := 0) (v := .ref a1) (C := RX0) (T := TX0) (N := 6) hx hb hts hin hown hK hP 0 rfl rfl 1 (by decide) hf13 (fun _ h9 => h9) rfl dX0_degeneracy_14 ?_
        refine lv_iload_n hx hb dX0_degeneracy_17 rfl (lv_at hl 0 rfl) ?_
        refine z_iald hx hb hK hP 2 0 rfl rfl (by omega) (by decide) dX0_degeneracy_18 ?_
        rw [(hc i h9).1]
        refine va_mmax hx hb (by rw [hml]; exact hl.1.symm) hown (hts (.methodLink RX0 72 Lib.Math.max.name) (by decide +kernel)) (hts (.static Lib.Math.max.name) (by decide +kernel)) (hts (.initialized "java/lang/Math") (by decide +kernel)) (hts (.code Lib.Math.max.name Lib.Math.max.code 2 (some .int)) (by decide +kernel)) (Nat.le_of_ble_eq_true rfl) (Nat.le_of_ble_eq_true rfl) (Nat.le_of_ble_eq_true rfl) (Nat.le_of_ble_eq_true rfl) dX0_degeneracy_19 ?_
        rw [z_max (a := d) (b := c0 i) (by omega) (by have := (hc i h9).2; omega)]
        refine lv_istore_n (lv' := [(1, .int (nI (max d (c0 i)))), (2, .int (nI i)), (0, .ref h)]) hx hb dX0_degeneracy_22 rfl hl (by decide) rfl (fun ls hl => ?_)
        refine lv_iinc (v := (nI (i + 1))) (lv' := [(2, .int (nI (i + 1))), (1, .int (nI (max d (c0 i)))), (0, .ref h)]) hx hb dX0_degeneracy_23 hl (k := 1) rfl (nI_1 _) (by decide) rfl (fun ls hl => ?_)
        refine lv_goto (tgt := 4) hx hb dX0_degeneracy_26 (by decide) ?_
        exact ih4 (i + 1) (max d (c0 i)) _ _ _ (by omega) (isMx_s hd) (by have := (hc i h9).2; omega) (by omega) hP hS (lv_sub hl [0, 1, 2] rfl)
  exact K4 (N - 0 + 1) 0 0 _ _ _ (by omega) (isMx_0 c0) (by omega) (Nat.lt_succ_self _) hP hS (lv_sub hl [0, 1, 2] rfl)
set_option maxHeartbeats 4000000 in
set_option maxRecDepth 100000 in
theorem c_X0_hierarchy (l : Launch) (D : va_G) (cy : ClassId) (h a0 a1 a2 N : Nat) (ec cc : Int32) (f cs tr : Nat → Int32) (c0 : Nat → Nat) (hN : N ≤ 20) (hg : gd f N) (hc : csI cs c0 N) : Met l yX0_hierarchy wsX0_hierarchy ({ frames := 4, cells := 0, slots := 0, locals := 92 } : Room) (va_Pc [.ref h] (zRd D (wB h a0 a1 a2 cy N ec cc f cs tr) [(cy, .int)])) (zPo (fun r => ∃ d, isMx c0 N d ∧ r = nI (fb_sm (hie f c0 N) (d + 1)))) 0 0 zNo := by
  refine Met.ofW (cc := cX0_hierarchy) (maxL := 4) (ret := (some .int)) (by decide) rfl ?_
  intro p e s m args below meth c s₁ B hml hv
  obtain ⟨rfl, hP, hK⟩ := hv
  have hx := B.exec
  have hb := B.bytes
  have hr := B.returns
  have hts := atoms_spec (ws := wsX0_hierarchy) B.pre
  have hown : s.vm.findClass RX0 = some m.cls := findClass_of_methodNamed B.named
  have hlocks := B.notSynchronized
  have hS : va_S (fun _ => False) s.heap s.heap [] := va_S.rf
  have hl := lv_entry ([.ref h]) (n := 4) (Nat.le_of_ble_eq_true rfl)
  rw [lg_entry_eq]
  generalize (lg_sl ([.ref h]) ++ List.replicate (4 - (lg_sl ([.ref h])).length) Slot.unset).toArray = ls at hl ⊢
  have hl : lv_has ls 4 [(0, .ref h)] := hl
  refine lv_iconst (v := (nI 0)) hx hb dX0_hierarchy_0 (by decide) ?_
  refine lv_istore_n (lv' := [(1, .int (nI 0)), (0, .ref h)]) hx hb dX0_hierarchy_1 rfl hl (by decide) rfl (fun ls hl => ?_)
  refine lv_aload_n hx hb dX0_hierarchy_2 rfl (lv_at hl 1 rfl) ?_
  refine zrV (As := []) (rest := []) 0 ⟨hx, hb, hml, hown, hts⟩ (c_X0_degeneracy l D cy h a0 a1 a2 N ec cc f cs tr c0 hN hc) (cwV 0 hts gX0_hierarchy_X0_degeneracy rfl rfl rfl (by decide +kernel) ⟨Nat.le_of_ble_eq_true rfl, Nat.le_of_ble_eq_true rfl⟩) hK hP rfl rfl rfl hl rfl (Nat.le_of_ble_eq_true rfl) dX0_hierarchy_3 ⟨Nat.le_of_ble_eq_true rfl, Nat.le_of_ble_eq_true rfl⟩ hS (fun r3 H locs hw3 hk9 hS => ?_)
  have hw3 : ∃ d, r3 = nI d ∧ d < 20 ∧ isMx c0 N d := hw3
  obtain ⟨d, rfl, hd20, hd⟩ := hw3
  have hP := zkeep hP hk9
  refine lv_istore_n (lv' := [(2, .int (nI d)), (1, .int (nI 0)), (0, .ref h)]) hx hb dX0_hierarchy_6 rfl hl (by decide) rfl (fun ls hl => ?_)
  refine lv_iconst (v := (nI 0)) hx hb dX0_hierarchy_7 (by decide) ?_
  refine lv_istore_n (lv' := [(3, .int (nI 0)), (2, .int (nI d)), (1, .int (nI 0)), (0, .ref h)]) hx hb dX0_hierarchy_8 rfl hl (by decide) rfl (fun ls hl => ?_)
  have K9 : ∀ (fu9 : Nat) (k : Nat) (x : Nat) (H : Heap) (locs : List Loc) (ls : Array Slot), (k ≤ d + 1) → (x = fb_sm (hie f c0 N) k) → d + 1 - k < fu9 → va_P D vwCl (wB h a0 a1 a2 cy N ec cc f cs tr) H → va_S (fun _ => False) s.heap H locs → lv_has ls 4 [(3, .int (nI k)), (1, .int (nI x)), (0, .ref h), (2, .int (nI d))] → W p l e (headSpec wsX0_hierarchy ({ frames := 4, cells := 0, slots := 0, locals := 92 } : Room)).room s m ([.ref h] : List Value).toArray below meth c H locs 0 0 (MQ below (zPo (fun r => ∃ d, isMx c0 N d ∧ r = nI (fb_sm (hie f c0 N) (d + 1)))) ([.ref h] : List Value).toArray s 0 0 zNo) (F0 m 9 ls []) := by
    intro fu9
    induction fu9 with
    | zero =>
      intro k x H locs ls hk0 hxe hfu9
      exact absurd hfu9 (Nat.not_lt_zero _)
    | succ fu9 ih9 =>
      intro k x H locs ls hk0 hxe hfu9 hP hS hl
      have hxb := hie_b f c0 hN k
      refine lv_iload_n hx hb dX0_hierarchy_9 rfl (lv_at hl 0 rfl) ?_
      refine lv_iload_n hx hb dX0_hierarchy_10 rfl (lv_at hl 3 rfl) ?_
      refine z_icmp_gt (tgt := 37) hx hb dX0_hierarchy_11 (by decide) (by omega) (by omega) (fun h11 => ?_) (fun h11 => ?_)
      · refine lv_iload_n hx hb dX0_hierarchy_37 rfl (lv_at hl 1 rfl) ?_
        exact W.iret (v := (nI x)) hx hb hr (fun t9 ht9 hW9 => ⟨⟨(nI x), (), rfl, ⟨d, hd, by rw [hxe, show k = d + 1 by omega]⟩, trivial⟩, hS.F ht9⟩) hS.2.2 dX0_hierarchy_38
      · refine lv_iload_n hx hb dX0_hierarchy_14 rfl (lv_at hl 1 rfl) ?_
        refine lv_aload_n hx hb dX0_hierarchy_15 rfl (lv_at hl 2 rfl) ?_
        refine lv_aload_n hx hb dX0_hierarchy_16 rfl (lv_at hl 2 rfl) ?_
        refine lv_iload_n hx hb dX0_hierarchy_17 rfl (lv_at hl 0 rfl) ?_
        refine zrV (As := [.int (nI k)]) (rest := [.ref h, .int (nI x)]) 0 ⟨hx, hb, hml, hown, hts⟩ (c_X0_coreSet l D cy h a0 a1 a2 N ec cc f cs tr (nI k) hN) (cwV 1 hts gX0_hierarchy_X0_coreSet rfl rfl rfl (by decide +kernel) ⟨Nat.le_of_ble_eq_true rfl, Nat.le_of_ble_eq_true rfl⟩) hK hP rfl rfl rfl hl rfl (Nat.le_of_ble_eq_true rfl) dX0_hierarchy_18 ⟨Nat.le_of_ble_eq_true rfl, Nat.le_of_ble_eq_true rfl⟩ hS (fun r18 H locs hw18 hk9 hS => ?_)
        obtain rfl : r18 = (zmk (fun i => decide ((nI k) ≤ cs i)) N) := hw18
        have hP := zkeep hP hk9
        rw [cst_of hN hc (k := k) (by omega)]
        refine lv_aload_n hx hb dX0_hierarchy_21 rfl (lv_at hl 2 rfl) ?_
        refine lv_iload_n hx hb dX0_hierarchy_22 rfl (lv_at hl 0 rfl) ?_
        refine zrV (As := [.int (nI k)]) (rest := [.int (cst c0 N (k : Int)), .ref h, .int (nI x)]) 0 ⟨hx, hb, hml, hown, hts⟩ (c_X0_shellSet l D cy h a0 a1 a2 N ec cc f cs tr (nI k) hN) (cwV 1 hts gX0_hierarchy_X0_shellSet rfl rfl rfl (by decide +kernel) ⟨Nat.le_of_ble_eq_true rfl, Nat.le_of_ble_eq_true rfl⟩) hK hP rfl rfl rfl hl rfl (Nat.le_of_ble_eq_true rfl) dX0_hierarchy_23 ⟨Nat.le_of_ble_eq_true rfl, Nat.le_of_ble_eq_true rfl⟩ hS (fun r23 H locs hw23 hk9 hS => ?_)
        obtain rfl : r23 = (zmk (fun i => decide ((nI k) ≤ cs i)) N &&& znt (zmk (fun i => decide ((nI k) + nI 1 ≤ cs i)) N)) := hw23
        have hP := zkeep hP hk9
        rw [shl_of hN hc (k := k) (by omega)]
        refine zrV (As := [.int (cst c0 N (k : Int)), .int (shl c0 N k)]) (rest := [.int (nI x)]) 0 ⟨hx, hb, hml, hown, hts⟩ (c_X0_countCommunities l D cy h a0 a1 a2 N ec cc f cs tr (cst c0 N (k : Int)) (shl c0 N k) hN hg (cst_sub hN _) (shl_le c0 N k)) (cwV 2 hts gX0_hierarchy_X0_countCommunities rfl rfl rfl (by decide +kernel) ⟨Nat.le_of_ble_eq_true rfl, Nat.le_of_ble_eq_true rfl⟩) hK hP rfl rfl rfl hl rfl (Nat.le_of_ble_eq_true rfl) dX0_hierarchy_26 ⟨Nat.le_of_ble_eq_true rfl, Nat.le_of_ble_eq_true rfl⟩ hS (fun r26 H locs hw26 hk9 hS => ?_)
        obtain rfl : r26 = (nI (ccn f N (cst c0 N (k : Int)) (shl c0 N k))) := hw26
        have hP := zkeep hP hk9
        refine z_iadd hx hb dX0_hierarchy_29 ?_
        refine lv_istore_n (lv' := [(1, .int (nI (x + (ccn f N (cst c0 N (k : Int)) (shl c0 N k))))), (3, .int (nI k)), (0, .ref h), (2, .int (nI d))]) hx hb dX0_hierarchy_30 rfl hl (by decide) rfl (fun ls hl => ?_)
        refine lv_iinc (v := (nI (k + 1))) (lv' := [(3, .int (nI (k + 1))), (1, .int (nI (x + (ccn f N (cst c0 N (k : Int)) (shl c0 N k))))), (0, .ref h), (2, .int (nI d))]) hx hb dX0_hierarchy_31 hl (k := 1) rfl (nI_1 _) (by decide) rfl (fun ls hl => ?_)
        refine lv_goto (tgt := 9) hx hb dX0_hierarchy_34 (by decide) ?_
        exact ih9 (k + 1) (x + (ccn f N (cst c0 N (k : Int)) (shl c0 N k))) _ _ _ (by omega) (by rw [hxe, fb_sm_succ]; rfl) (by omega) hP hS (lv_sub hl [0, 1, 2, 3] rfl)
  exact K9 (d + 1 - 0 + 1) 0 0 _ _ _ (by omega) rfl (Nat.lt_succ_self _) hP hS (lv_sub hl [0, 2, 3, 1] rfl)
set_option maxHeartbeats 4000000 in
set_option maxRecDepth 100000 in
theorem c_X0_denseSize (l : Launch) (D : va_G) (cy : ClassId) (h a0 a1 a2 N : Nat) (ec cc : Int32) (f cs tr : Nat → Int32) (hN : N ≤ 20) (hec : ec = nI (ewn f N (zal N))) : Met l yX0_denseSize wsX0_denseSize ({ frames := 4, cells := 0, slots := 0, locals := 90 } : Room) (va_Pc [.ref h] (zRd D (wB h a0 a1 a2 cy N ec cc f cs tr) [(cy, .int)])) (zPo (fun r => r = nI (zpop (dsk f N (N - 1)).2.1))) 0 0 zNo := by
  refine Met.ofW (cc := cX0_denseSize) (maxL := 1) (ret := (some .int)) (by decide) rfl ?_
  intro p e s m args below meth c s₁ B hml hv
  obtain ⟨rfl, hP, hK⟩ := hv
  have hx := B.exec
  have hb := B.bytes
  have hr := B.returns
  have hts := atoms_spec (ws := wsX0_denseSize) B.pre
  have hown : s.vm.findClass RX0 = some m.cls := findClass_of_methodNamed B.named
  have hlocks := B.notSynchronized
  have hS : va_S (fun _ => False) s.heap s.heap [] := va_S.rf
  have hl := lv_entry ([.ref h]) (n := 1) (Nat.le_of_ble_eq_true rfl)
  rw [lg_entry_eq]
  generalize (lg_sl ([.ref h]) ++ List.replicate (1 - (lg_sl ([.ref h])).length) Slot.unset).toArray = ls at hl ⊢
  have hl : lv_has ls 1 [(0, .ref h)] := hl
  refine lv_aload_n hx hb dX0_denseSize_0 rfl (lv_at hl 0 rfl) ?_
  refine zrV (As := []) (rest := []) 0 ⟨hx, hb, hml, hown, hts⟩ (c_X0_denseSet l D cy h a0 a1 a2 N ec cc f cs tr hN hec) (cwV 0 hts gX0_denseSize_X0_denseSet rfl rfl rfl (by decide +kernel) ⟨Nat.le_of_ble_eq_true rfl, Nat.le_of_ble_eq_true rfl⟩) hK hP rfl rfl rfl hl rfl (Nat.le_of_ble_eq_true rfl) dX0_denseSize_1 ⟨Nat.le_of_ble_eq_true rfl, Nat.le_of_ble_eq_true rfl⟩ hS (fun r1 H locs hw1 hk9 hS => ?_)
  obtain rfl : r1 = (dsk f N (N - 1)).2.1 := hw1
  have hP := zkeep hP hk9
  refine zrS0 (As := [.int ((dsk f N (N - 1)).2.1)]) (rest := []) ⟨hx, hb, hml, hown, hts⟩ (c_X0_size l ((dsk f N (N - 1)).2.1)) (va_cwS 1 hts gX0_denseSize_X0_size rfl rfl rfl (by decide +kernel) ⟨Nat.le_of_ble_eq_true rfl, Nat.le_of_ble_eq_true rfl⟩) rfl hl rfl (Nat.le_of_ble_eq_true rfl) dX0_denseSize_4 ⟨Nat.le_of_ble_eq_true rfl, Nat.le_of_ble_eq_true rfl⟩ hS (fun r4 H locs hw4 hk9 hS => ?_)
  obtain rfl : r4 = (nI (zpop ((dsk f N (N - 1)).2.1))) := hw4
  have hP := zkeep hP hk9
  exact W.iret (v := (nI (zpop ((dsk f N (N - 1)).2.1)))) hx hb hr (fun t9 ht9 hW9 => ⟨⟨(nI (zpop ((dsk f N (N - 1)).2.1))), (), rfl, rfl, trivial⟩, hS.F ht9⟩) hS.2.2 dX0_denseSize_7
set_option maxHeartbeats 4000000 in
set_option maxRecDepth 100000 in
theorem c_X0_triangles (l : Launch) (D : va_G) (cy : ClassId) (h a0 a1 a2 N : Nat) (ec cc : Int32) (f cs tr : Nat → Int32) (hN : N ≤ 20) : Met l yX0_triangles wsX0_triangles ({ frames := 2, cells := 0, slots := 0, locals := 41 } : Room) (va_Pc [.ref h] (zRd D (wB h a0 a1 a2 cy N ec cc f cs tr) [(cy, .int)])) (zPo (fun r => r = nI (fb_sm (trs f N) N / 3))) 0 0 zNo := by
  refine Met.ofW (cc := cX0_triangles) (maxL := 4) (ret := (some .int)) (by decide) rfl ?_
  intro p e s m args below meth c s₁ B hml hv
  obtain ⟨rfl, hP, hK⟩ := hv
  have hx := B.exec
  have hb := B.bytes
  have hr := B.returns
  have hts := atoms_spec (ws := wsX0_triangles) B.pre
  have hown : s.vm.findClass RX0 = some m.cls := findClass_of_methodNamed B.named
  have hlocks := B.notSynchronized
  have hS : va_S (fun _ => False) s.heap s.heap [] := va_S.rf
  have hin : ∀ w ∈ wsX00, w ∈ wsX0_triangles := by decide +kernel
  have hf9 := hts (.fieldLink RX0 9 "Corebarn" "neighbours" "[I") (by decide +kernel)
  have hf19 := hts (.fieldLink RX0 19 "Corebarn" "nodeCount" "I") (by decide +kernel)
  have hl := lv_entry ([.ref h]) (n := 4) (Nat.le_of_ble_eq_true rfl)
  rw [lg_entry_eq]
  generalize (lg_sl ([.ref h]) ++ List.replicate (4 - (lg_sl ([.ref h])).length) Slot.unset).toArray = ls at hl ⊢
  have hl : lv_has ls 4 [(0, .ref h)] := hl
  refine lv_iconst (v := (nI 0)) hx hb dX0_triangles_0 (by decide) ?_
  refine lv_istore_n (lv' := [(1, .int (nI 0)), (0, .ref h)]) hx hb dX0_triangles_1 rfl hl (by decide) rfl (fun ls hl => ?_)
  refine lv_iconst (v := (nI 0)) hx hb dX0_triangles_2 (by decide) ?_
  refine lv_istore_n (lv' := [(2, .int (nI 0)), (1, .int (nI 0)), (0, .ref h)]) hx hb dX0_triangles_3 rfl hl (by decide) rfl (fun ls hl => ?_)
  have K4 : ∀ (fu4 : Nat) (i : Nat) (x : Nat) (H : Heap) (locs : List Loc) (ls : Array Slot), (i ≤ N) → (x = fb_sm (trs f N) i) → N - i < fu4 → va_P D vwCl (wB h a0 a1 a2 cy N ec cc f cs tr) H → va_S (fun _ => False) s.heap H locs → lv_has ls 4 [(2, .int (nI i)), (1, .int (nI x)), (0, .ref h)] → W p l e (headSpec wsX0_triangles ({ frames := 2, cells := 0, slots := 0, locals := 41 } : Room)).room s m ([.ref h] : List Value).toArray below meth c H locs 0 0 (MQ below (zPo (fun r => r = nI (fb_sm (trs f N) N / 3))) ([.ref h] : List Value).toArray s 0 0 zNo) (F0 m 4 ls []) := by
    intro fu4
    induction fu4 with
    | zero =>
      intro i x H locs ls hi hxe hfu4
      exact absurd hfu4 (Nat.not_lt_zero _)
    | succ fu4 ih4 =>
      intro i x H locs ls hi hxe hfu4 hP hS hl
      have hxb := trs_bb f hN i
      refine lv_iload_n hx hb dX0_triangles_4 rfl (lv_at hl 0 rfl) ?_
      refine lv_aload_n hx hb dX0_triangles_5 rfl (lv_at hl 2 rfl) ?_
      refine va_get (D := D) (ci := 0) (v := .int (nI N)) (C := RX0) (T := TX0) (N := 6) hx hb hts hin hown hK hP 0 rfl rfl 3 (by decide) hf19 (fun _ h9 => h9) rfl dX0_triangles_6 ?_
      refine z_icmp_ge (tgt := 68) hx hb dX0_triangles_9 (by decide) (by omega) (by omega) (fun h9 => ?_) (fun h9 => ?_)
      · refine lv_iload_n hx hb dX0_triangles_68 rfl (lv_at hl 1 rfl) ?_
        refine lv_iconst (v := (nI 3)) hx hb dX0_triangles_69 (by decide) ?_
        refine z_idiv hx hb dX0_triangles_70 (by omega) (by omega) (by omega) ?_
        exact W.iret (v := (nI (x / 3))) hx hb hr (fun t9 ht9 hW9 => ⟨⟨(nI (x / 3)), (), rfl, (by rw [hxe, Nat.le_antisymm hi h9]), trivial⟩, hS.F ht9⟩) hS.2.2 dX0_triangles_71
      · refine lv_iload_n hx hb dX0_triangles_12 rfl (lv_at hl 0 rfl) ?_
        refine lv_iconst (v := (nI 1)) hx hb dX0_triangles_13 (by decide) ?_
        refine z_iadd hx hb dX0_triangles_14 ?_
        refine lv_istore_n (lv' := [(3, .int (nI (i + 1))), (2, .int (nI i)), (1, .int (nI x)), (0, .ref h)]) hx hb dX0_triangles_15 rfl hl (by decide) rfl (fun ls hl => ?_)
        have K16 : ∀ (fu16 : Nat) (j : Nat) (y : Nat) (H : Heap) (locs : List Loc) (ls : Array Slot), (i + 1 ≤ j) → (j ≤ N) → (y = fb_sm (trs f N) i + fb_sm (tri f i) j) → N - j < fu16 → va_P D vwCl (wB h a0 a1 a2 cy N ec cc f cs tr) H → va_S (fun _ => False) s.heap H locs → lv_has ls 4 [(3, .int (nI j)), (1, .int (nI y)), (0, .ref h), (2, .int (nI i))] → W p l e (headSpec wsX0_triangles ({ frames := 2, cells := 0, slots := 0, locals := 41 } : Room)).room s m ([.ref h] : List Value).toArray below meth c H locs 0 0 (MQ below (zPo (fun r => r = nI (fb_sm (trs f N) N / 3))) ([.ref h] : List Value).toArray s 0 0 zNo) (F0 m 16 ls []) := by
          intro fu16
          induction fu16 with
          | zero =>
            intro j y H locs ls hij hj hye hfu16
            exact absurd hfu16 (Nat.not_lt_zero _)
          | succ fu16 ih16 =>
            intro j y H locs ls hij hj hye hfu16 hP hS hl
            have hyb := tri_b f i j
            refine lv_iload_n hx hb dX0_triangles_16 rfl (lv_at hl 0 rfl) ?_
            refine lv_aload_n hx hb dX0_triangles_17 rfl (lv_at hl 2 rfl) ?_
            refine va_get (D := D) (ci := 0) (v := .int (nI N)) (C := RX0) (T := TX0) (N := 6) hx hb hts hin hown hK hP 0 rfl rfl 3 (by decide) hf19 (fun _ h9 => h9) rfl dX0_triangles_18 ?_
            refine z_icmp_ge (tgt := 62) hx hb dX0_triangles_21 (by decide) (by omega) (by omega) (fun h21 => ?_) (fun h21 => ?_)
            · refine lv_iinc (v := (nI (i + 1))) (lv' := [(2, .int (nI (i + 1))), (3, .int (nI j)), (1, .int (nI y)), (0, .ref h)]) hx hb dX0_triangles_62 hl (k := 3) rfl (nI_1 _) (by decide) rfl (fun ls hl => ?_)
              refine lv_goto (tgt := 4) hx hb dX0_triangles_65 (by decide) ?_
              exact ih4 (i + 1) y _ _ _ (by omega) (by rw [hye, fb_sm_succ, Nat.le_antisymm hj h21]; rfl) (by omega) hP hS (lv_sub hl [0, 2, 3] rfl)
            · refine lv_aload_n hx hb dX0_triangles_24 rfl (lv_at hl 2 rfl) ?_
              refine va_get (D := D) (ci := 0) (v := .ref a0) (C := RX0) (T := TX0) (N := 6) hx hb hts hin hown hK hP 0 rfl rfl 0 (by decide) hf9 (fun _ h9 => h9) rfl dX0_triangles_25 ?_
              refine lv_iload_n hx hb dX0_triangles_28 rfl (lv_at hl 3 rfl) ?_
              refine z_iald hx hb hK hP 1 0 rfl rfl (by omega) (by decide) dX0_triangles_29 ?_
              refine lv_iload_n hx hb dX0_triangles_30 rfl (lv_at hl 0 rfl) ?_
              refine zrS0 (As := [.int (f i), .int (nI j)]) (rest := []) ⟨hx, hb, hml, hown, hts⟩ (c_X0_contains l (f i) j (by omega)) (va_cwS 2 hts gX0_triangles_X0_contains rfl rfl rfl (by decide +kernel) ⟨Nat.le_of_ble_eq_true rfl, Nat.le_of_ble_eq_true rfl⟩) rfl hl rfl (Nat.le_of_ble_eq_true rfl) dX0_triangles_31 ⟨Nat.le_of_ble_eq_true rfl, Nat.le_of_ble_eq_true rfl⟩ hS (fun r31 H locs hw31 hk9 hS => ?_)
              obtain rfl : r31 = (zb (bt (f i) j)) := hw31
              have hP := zkeep hP hk9
              refine z_ifb_eq (tgt := 56) hx hb dX0_triangles_34 (by decide) (fun h34 => ?_) (fun h34 => ?_)
              · refine lv_iinc (v := (nI (j + 1))) (lv' := [(3, .int (nI (j + 1))), (1, .int (nI y)), (0, .ref h), (2, .int (nI i))]) hx hb dX0_triangles_56 hl (k := 0) rfl (nI_1 _) (by decide) rfl (fun ls hl => ?_)
                refine lv_goto (tgt := 16) hx hb dX0_triangles_59 (by decide) ?_
                exact ih16 (j + 1) y _ _ _ (by omega) (by omega) (by rw [fb_sm_succ, hye, tri, if_neg (fun q => by rw [h34] at q; cases q.2)]; rfl) (by omega) hP hS (lv_sub hl [0, 1, 2, 3] rfl)
              · refine lv_iload_n hx hb dX0_triangles_37 rfl (lv_at hl 1 rfl) ?_
                refine lv_aload_n hx hb dX0_triangles_38 rfl (lv_at hl 2 rfl) ?_
                refine va_get (D := D) (ci := 0) (v := .ref a0) (C := RX0) (T := TX0) (N := 6) hx hb hts hin hown hK hP 0 rfl rfl 0 (by decide) hf9 (fun _ h9 => h9) rfl dX0_triangles_39 ?_
                refine lv_iload_n hx hb dX0_triangles_42 rfl (lv_at hl 3 rfl) ?_
                refine z_iald hx hb hK hP 1 0 rfl rfl (by omega) (by decide) dX0_triangles_43 ?_
                refine lv_aload_n hx hb dX0_triangles_44 rfl (lv_at hl 2 rfl) ?_
                refine va_get (D := D) (ci := 0) (v := .ref a0) (C := RX0) (T := TX0) (N := 6) hx hb hts hin hown hK hP 0 rfl rfl 0 (by decide) hf9 (fun _ h9 => h9) rfl dX0_triangles_45 ?_
                refine lv_iload_n hx hb dX0_triangles_48 rfl (lv_at hl 0 rfl) ?_
                refine z_iald hx hb hK hP 1 0 rfl rfl (by omega) (by decide) dX0_triangles_49 ?_
                refine lv_iand hx hb dX0_triangles_50 ?_
                refine zrS0 (As := [.int ((f i) &&& (f j))]) (rest := [.int (nI y)]) ⟨hx, hb, hml, hown, hts⟩ (c_X0_size l ((f i) &&& (f j))) (va_cwS 1 hts gX0_triangles_X0_size rfl rfl rfl (by decide +kernel) ⟨Nat.le_of_ble_eq_true rfl, Nat.le_of_ble_eq_true rfl⟩) rfl hl rfl (Nat.le_of_ble_eq_true rfl) dX0_triangles_51 ⟨Nat.le_of_ble_eq_true rfl, Nat.le_of_ble_eq_true rfl⟩ hS (fun r51 H locs hw51 hk9 hS => ?_)
                obtain rfl : r51 = (nI (zpop ((f i) &&& (f j)))) := hw51
                have hP := zkeep hP hk9
                refine z_iadd hx hb dX0_triangles_54 ?_
                refine lv_istore_n (lv' := [(1, .int (nI (y + (zpop ((f i) &&& (f j)))))), (3, .int (nI j)), (0, .ref h), (2, .int (nI i))]) hx hb dX0_triangles_55 rfl hl (by decide) rfl (fun ls hl => ?_)
                refine lv_iinc (v := (nI (j + 1))) (lv' := [(3, .int (nI (j + 1))), (1, .int (nI (y + (zpop ((f i) &&& (f j)))))), (0, .ref h), (2, .int (nI i))]) hx hb dX0_triangles_56 hl (k := 1) rfl (nI_1 _) (by decide) rfl (fun ls hl => ?_)
                refine lv_goto (tgt := 16) hx hb dX0_triangles_59 (by decide) ?_
                exact ih16 (j + 1) (y + (zpop ((f i) &&& (f j)))) _ _ _ (by omega) (by omega) (by rw [fb_sm_succ, hye, tri, if_pos ⟨by omega, h34⟩, Nat.add_assoc]) (by omega) hP hS (lv_sub hl [0, 1, 2, 3] rfl)
        exact K16 (N - (i + 1) + 1) (i + 1) x _ _ _ (by omega) (by omega) (by rw [tri_0 f i (i + 1) (Nat.le_refl _)]; exact hxe) (Nat.lt_succ_self _) hP hS (lv_sub hl [0, 2, 3, 1] rfl)
  exact K4 (N - 0 + 1) 0 0 _ _ _ (by omega) rfl (Nat.lt_succ_self _) hP hS (lv_sub hl [0, 1, 2] rfl)
