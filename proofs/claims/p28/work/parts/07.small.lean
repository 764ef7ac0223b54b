theorem nx_and (a b : Nat) : nI a &&& nI b = nI (a &&& b) := by
  apply Int32.toBitVec_inj.1
  show BitVec.ofNat 32 a &&& BitVec.ofNat 32 b = BitVec.ofNat 32 (a &&& b)
  apply BitVec.eq_of_getLsbD_eq
  intro i hi
  simp [hi]
theorem wb_of32 (x : Int32) : ∃ n, n < 4294967296 ∧ x = nI n := ⟨x.toBitVec.toNat, x.toBitVec.isLt, Int32.toBitVec_inj.mp (BitVec.eq_of_toNat_eq (by show _ = (BitVec.ofNat 32 _).toNat; rw [BitVec.toNat_ofNat, Nat.mod_eq_of_lt x.toBitVec.isLt]))⟩
theorem zc_and {x : Int32} {j : Nat} (hj : j < 32) : (x &&& zsg j = 0) ↔ bt x j = false := by
  rw [ne_0]
  constructor
  · intro h
    have := h j
    rw [b_and, b_sg hj] at this
    simpa using this
  · intro h i
    rw [b_and, b_sg hj]
    by_cases e : i = j
    · rw [e, h]; rfl
    · simp [e]
theorem zc_no {x : Int32} {j : Nat} (hj : j < 32) (h : x &&& zsg j = 0) : nI 0 = zb (bt x j) := by rw [(zc_and hj).mp h]; rfl
theorem zc_yes {x : Int32} {j : Nat} (hj : j < 32) (h : ¬ x &&& zsg j = 0) : nI 1 = zb (bt x j) := by
  have e : bt x j = true := by
    cases q : bt x j
    · exact absurd ((zc_and hj).mpr q) h
    · rfl
  rw [e]; rfl
set_option maxHeartbeats 4000000 in
set_option maxRecDepth 100000 in
theorem c_X0_single (l : Launch) (j : Nat) : Met l yX0_single wsX0_single ({ frames := 0, cells := 0, slots := 0, locals := 0 } : Room) (va_Pc [.int (nI j)] (fun _ => True)) (zPo (fun r => r = zsg j)) 0 0 zNo := by
  refine Met.ofW (cc := cX0_single) (maxL := 1) (ret := (some .int)) (by decide) rfl ?_
  intro p e s m args below meth c s₁ B hml hv
  obtain ⟨rfl, -⟩ := hv
  have hx := B.exec
  have hb := B.bytes
  have hr := B.returns
  have hts := atoms_spec (ws := wsX0_single) B.pre
  have hown : s.vm.findClass RX0 = some m.cls := findClass_of_methodNamed B.named
  have hlocks := B.notSynchronized
  have hS : va_S (fun _ => False) s.heap s.heap [] := va_S.rf
  have hl := lv_entry ([.int (nI j)]) (n := 1) (Nat.le_of_ble_eq_true rfl)
  rw [lg_entry_eq]
  generalize (lg_sl ([.int (nI j)]) ++ List.replicate (1 - (lg_sl ([.int (nI j)])).length) Slot.unset).toArray = ls at hl ⊢
  have hl : lv_has ls 1 [(0, .int (nI j))] := hl
  refine lv_iconst (v := (nI 1)) hx hb dX0_single_0 (by decide) ?_
  refine lv_iload_n hx hb dX0_single_1 rfl (lv_at hl 0 rfl) ?_
  refine lv_ishl hx hb dX0_single_2 ?_
  exact W.iret (v := ((nI 1) <<< ((nI j) &&& 31))) hx hb hr (fun t9 ht9 hW9 => ⟨⟨((nI 1) <<< ((nI j) &&& 31)), (), rfl, rfl, trivial⟩, hS.F ht9⟩) hS.2.2 dX0_single_3
set_option maxHeartbeats 4000000 in
set_option maxRecDepth 100000 in
theorem c_X0_contains (l : Launch) (x : Int32) (j : Nat) (hj : j < 32) : Met l yX0_contains wsX0_contains ({ frames := 1, cells := 0, slots := 0, locals := 20 } : Room) (va_Pc [.int x, .int (nI j)] (fun _ => True)) (zPo (fun r => r = zb (bt x j))) 0 0 zNo := by
  refine Met.ofW (cc := cX0_contains) (maxL := 2) (ret := (some .boolean)) (by decide) rfl ?_
  intro p e s m args below meth c s₁ B hml hv
  obtain ⟨rfl, -⟩ := hv
  have hx := B.exec
  have hb := B.bytes
  have hr := B.returns
  have hts := atoms_spec (ws := wsX0_contains) B.pre
  have hown : s.vm.findClass RX0 = some m.cls := findClass_of_methodNamed B.named
  have hlocks := B.notSynchronized
  have hS : va_S (fun _ => False) s.heap s.heap [] := va_S.rf
  have hl := lv_entry ([.int x, .int (nI j)]) (n := 2) (Nat.le_of_ble_eq_true rfl)
  rw [lg_entry_eq]
  generalize (lg_sl ([.int x, .int (nI j)]) ++ List.replicate (2 - (lg_sl ([.int x, .int (nI j)])).length) Slot.unset).toArray = ls at hl ⊢
  have hl : lv_has ls 2 [(0, .int x), (1, .int (nI j))] := hl
  refine lv_iload_n hx hb dX0_contains_0 rfl (lv_at hl 0 rfl) ?_
  refine lv_iload_n hx hb dX0_contains_1 rfl (lv_at hl 1 rfl) ?_
  refine zrS0 (As := [.int (nI j)]) (rest := [.int x]) ⟨hx, hb, hml, hown, hts⟩ (c_X0_single l j) (va_cwS 1 hts gX0_contains_X0_single rfl rfl rfl (by decide +kernel) ⟨Nat.le_of_ble_eq_true rfl, Nat.le_of_ble_eq_true rfl⟩) rfl hl rfl (Nat.le_of_ble_eq_true rfl) dX0_contains_2 ⟨Nat.le_of_ble_eq_true rfl, Nat.le_of_ble_eq_true rfl⟩ hS (fun r2 H locs hw2 hk9 hS => ?_)
  obtain rfl : r2 = zsg j := hw2
  refine lv_iand hx hb dX0_contains_5 ?_
  refine lv_if_eq (tgt := 13) hx hb dX0_contains_6 (by decide) (fun h6 => ?_) (fun h6 => ?_)
  · refine lv_iconst (v := (nI 0)) hx hb dX0_contains_13 (by decide) ?_
    exact W.zret (v := (nI 0)) (ty := .boolean) hx hb hr rfl (fun t9 ht9 hW9 => ⟨⟨(nI 0), (), rfl, (zc_no hj h6), trivial⟩, hS.F ht9⟩) hS.2.2 dX0_contains_14
  · refine lv_iconst (v := (nI 1)) hx hb dX0_contains_9 (by decide) ?_
    refine lv_goto (tgt := 14) hx hb dX0_contains_10 (by decide) ?_
    exact W.zret (v := (nI 1)) (ty := .boolean) hx hb hr rfl (fun t9 ht9 hW9 => ⟨⟨(nI 1), (), rfl, (zc_yes hj h6), trivial⟩, hS.F ht9⟩) hS.2.2 dX0_contains_14
set_option maxHeartbeats 4000000 in
set_option maxRecDepth 100000 in
theorem c_X0_with (l : Launch) (x : Int32) (j : Nat) : Met l yX0_with wsX0_with ({ frames := 1, cells := 0, slots := 0, locals := 20 } : Room) (va_Pc [.int x, .int (nI j)] (fun _ => True)) (zPo (fun r => r = x ||| zsg j)) 0 0 zNo := by
  refine Met.ofW (cc := cX0_with) (maxL := 2) (ret := (some .int)) (by decide) rfl ?_
  intro p e s m args below meth c s₁ B hml hv
  obtain ⟨rfl, -⟩ := hv
  have hx := B.exec
  have hb := B.bytes
  have hr := B.returns
  have hts := atoms_spec (ws := wsX0_with) B.pre
  have hown : s.vm.findClass RX0 = some m.cls := findClass_of_methodNamed B.named
  have hlocks := B.notSynchronized
  have hS : va_S (fun _ => False) s.heap s.heap [] := va_S.rf
  have hl := lv_entry ([.int x, .int (nI j)]) (n := 2) (Nat.le_of_ble_eq_true rfl)
  rw [lg_entry_eq]
  generalize (lg_sl ([.int x, .int (nI j)]) ++ List.replicate (2 - (lg_sl ([.int x, .int (nI j)])).length) Slot.unset).toArray = ls at hl ⊢
  have hl : lv_has ls 2 [(0, .int x), (1, .int (nI j))] := hl
  refine lv_iload_n hx hb dX0_with_0 rfl (lv_at hl 0 rfl) ?_
  refine lv_iload_n hx hb dX0_with_1 rfl (lv_at hl 1 rfl) ?_
  refine zrS0 (As := [.int (nI j)]) (rest := [.int x]) ⟨hx, hb, hml, hown, hts⟩ (c_X0_single l j) (va_cwS 1 hts gX0_with_X0_single rfl rfl rfl (by decide +kernel) ⟨Nat.le_of_ble_eq_true rfl, Nat.le_of_ble_eq_true rfl⟩) rfl hl rfl (Nat.le_of_ble_eq_true rfl) dX0_with_2 ⟨Nat.le_of_ble_eq_true rfl, Nat.le_of_ble_eq_true rfl⟩ hS (fun r2 H locs hw2 hk9 hS => ?_)
  obtain rfl : r2 = zsg j := hw2
  refine lv_ior hx hb dX0_with_5 ?_
  exact W.iret (v := (x ||| zsg j)) hx hb hr (fun t9 ht9 hW9 => ⟨⟨(x ||| zsg j), (), rfl, rfl, trivial⟩, hS.F ht9⟩) hS.2.2 dX0_with_6
set_option maxHeartbeats 4000000 in
set_option maxRecDepth 100000 in
theorem c_X0_without (l : Launch) (x : Int32) (j : Nat) : Met l yX0_without wsX0_without ({ frames := 1, cells := 0, slots := 0, locals := 20 } : Room) (va_Pc [.int x, .int (nI j)] (fun _ => True)) (zPo (fun r => r = zdl x j)) 0 0 zNo := by
  refine Met.ofW (cc := cX0_without) (maxL := 2) (ret := (some .int)) (by decide) rfl ?_
  intro p e s m args below meth c s₁ B hml hv
  obtain ⟨rfl, -⟩ := hv
  have hx := B.exec
  have hb := B.bytes
  have hr := B.returns
  have hts := atoms_spec (ws := wsX0_without) B.pre
  have hown : s.vm.findClass RX0 = some m.cls := findClass_of_methodNamed B.named
  have hlocks := B.notSynchronized
  have hS : va_S (fun _ => False) s.heap s.heap [] := va_S.rf
  have hl := lv_entry ([.int x, .int (nI j)]) (n := 2) (Nat.le_of_ble_eq_true rfl)
  rw [lg_entry_eq]
  generalize (lg_sl ([.int x, .int (nI j)]) ++ List.replicate (2 - (lg_sl ([.int x, .int (nI j)])).length) Slot.unset).toArray = ls at hl ⊢
  have hl : lv_has ls 2 [(0, .int x), (1, .int (nI j))] := hl
  refine lv_iload_n hx hb dX0_without_0 rfl (lv_at hl 0 rfl) ?_
  refine lv_iload_n hx hb dX0_without_1 rfl (lv_at hl 1 rfl) ?_
  refine zrS0 (As := [.int (nI j)]) (rest := [.int x]) ⟨hx, hb, hml, hown, hts⟩ (c_X0_single l j) (va_cwS 1 hts gX0_without_X0_single rfl rfl rfl (by decide +kernel) ⟨Nat.le_of_ble_eq_true rfl, Nat.le_of_ble_eq_true rfl⟩) rfl hl rfl (Nat.le_of_ble_eq_true rfl) dX0_without_2 ⟨Nat.le_of_ble_eq_true rfl, Nat.le_of_ble_eq_true rfl⟩ hS (fun r2 H locs hw2 hk9 hS => ?_)
  obtain rfl : r2 = zsg j := hw2
  refine lv_iconst (v := (-1)) hx hb dX0_without_5 (by decide) ?_
  refine lv_ixor hx hb dX0_without_6 ?_
  refine lv_iand hx hb dX0_without_7 ?_
  exact W.iret (v := (x &&& (zsg j ^^^ (-1)))) hx hb hr (fun t9 ht9 hW9 => ⟨⟨(x &&& (zsg j ^^^ (-1))), (), rfl, rfl, trivial⟩, hS.F ht9⟩) hS.2.2 dX0_without_8
set_option maxHeartbeats 4000000 in
set_option maxRecDepth 100000 in
theorem c_J6_bitCount_0f7a4 (l : Launch) (n : Nat) (hn : n < 4294967296) : Met l yJ6_bitCount_0f7a4 wsJ6_bitCount_0f7a4 ({ frames := 0, cells := 0, slots := 0, locals := 0 } : Room) (va_Pc [.int (nI n)] (fun _ => True)) (zPo (fun r => r = nI (zpop (nI n)))) 0 0 zNo := by
  refine Met.ofW (cc := cJ6_bitCount_0f7a4) (maxL := 1) (ret := (some .int)) (by decide) rfl ?_
  intro p e s m args below meth c s₁ B hml hv
  obtain ⟨rfl, -⟩ := hv
  have hx := B.exec
  have hb := B.bytes
  have hr := B.returns
  have hts := atoms_spec (ws := wsJ6_bitCount_0f7a4) B.pre
  have hown : s.vm.findClass RJ6 = some m.cls := findClass_of_methodNamed B.named
  have hlocks := B.notSynchronized
  have hS : va_S (fun _ => False) s.heap s.heap [] := va_S.rf
  have hc265 := hts (.constant RJ6 265 (1431655765)) (by decide +kernel)
  have hc266 := hts (.constant RJ6 266 (858993459)) (by decide +kernel)
  have hc267 := hts (.constant RJ6 267 (252645135)) (by decide +kernel)
  obtain ⟨q1, q2, q3, q4, q5⟩ := pop_n hn
  have q6 : c4 (c3 (c2 (c1 n))) < 2147483648 := by unfold c4; omega
  have hl := lv_entry ([.int (nI n)]) (n := 1) (Nat.le_of_ble_eq_true rfl)
  rw [lg_entry_eq]
  generalize (lg_sl ([.int (nI n)]) ++ List.replicate (1 - (lg_sl ([.int (nI n)])).length) Slot.unset).toArray = ls at hl ⊢
  have hl : lv_has ls 1 [(0, .int (nI n))] := hl
  refine lv_iload_n hx hb dJ6_bitCount_0f7a4_0 rfl (lv_at hl 0 rfl) ?_
  refine lv_iload_n hx hb dJ6_bitCount_0f7a4_1 rfl (lv_at hl 0 rfl) ?_
  refine lv_iconst (v := (nI 1)) hx hb dJ6_bitCount_0f7a4_2 (by decide) ?_
  refine lv_iushr (v := (nI (n / 2))) hx hb dJ6_bitCount_0f7a4_3 (pk_ushrN (by omega) (nI 1) 1 (by decide)) ?_
  refine lv_ldcw hx hb hown hc265 dJ6_bitCount_0f7a4_4 ?_
  refine lv_iand hx hb dJ6_bitCount_0f7a4_7 ?_
  rw [show nI (n / 2) &&& 1431655765 = nI (n / 2 &&& 1431655765) from nx_and (n / 2) 1431655765]
  refine z_isub hx hb dJ6_bitCount_0f7a4_8 q1 ?_
  refine lv_istore_n (lv' := [(0, .int (nI (c1 n)))]) hx hb dJ6_bitCount_0f7a4_9 rfl hl (by decide) rfl (fun ls hl => ?_)
  refine lv_iload_n hx hb dJ6_bitCount_0f7a4_10 rfl (lv_at hl 0 rfl) ?_
  refine lv_ldcw hx hb hown hc266 dJ6_bitCount_0f7a4_11 ?_
  refine lv_iand hx hb dJ6_bitCount_0f7a4_14 ?_
  rw [show nI (c1 n) &&& 858993459 = nI (c1 n &&& 858993459) from nx_and (c1 n) 858993459]
  refine lv_iload_n hx hb dJ6_bitCount_0f7a4_15 rfl (lv_at hl 0 rfl) ?_
  refine lv_iconst (v := (nI 2)) hx hb dJ6_bitCount_0f7a4_16 (by decide) ?_
  refine lv_iushr (v := (nI (c1 n / 4))) hx hb dJ6_bitCount_0f7a4_17 (pk_ushrN (by omega) (nI 2) 2 (by decide)) ?_
  refine lv_ldcw hx hb hown hc266 dJ6_bitCount_0f7a4_18 ?_
  refine lv_iand hx hb dJ6_bitCount_0f7a4_21 ?_
  rw [show nI (c1 n / 4) &&& 858993459 = nI (c1 n / 4 &&& 858993459) from nx_and (c1 n / 4) 858993459]
  refine z_iadd hx hb dJ6_bitCount_0f7a4_22 ?_
  refine lv_istore_n (lv' := [(0, .int (nI (c2 (c1 n))))]) hx hb dJ6_bitCount_0f7a4_23 rfl hl (by decide) rfl (fun ls hl => ?_)
  refine lv_iload_n hx hb dJ6_bitCount_0f7a4_24 rfl (lv_at hl 0 rfl) ?_
  refine lv_iload_n hx hb dJ6_bitCount_0f7a4_25 rfl (lv_at hl 0 rfl) ?_
  refine lv_iconst (v := (nI 4)) hx hb dJ6_bitCount_0f7a4_26 (by decide) ?_
  refine lv_iushr (v := (nI (c2 (c1 n) / 16))) hx hb dJ6_bitCount_0f7a4_27 (pk_ushrN (by omega) (nI 4) 4 (by decide)) ?_
  refine z_iadd hx hb dJ6_bitCount_0f7a4_28 ?_
  refine lv_ldcw hx hb hown hc267 dJ6_bitCount_0f7a4_29 ?_
  refine lv_iand hx hb dJ6_bitCount_0f7a4_32 ?_
  rw [show nI (c2 (c1 n) + c2 (c1 n) / 16) &&& 252645135 = nI (c2 (c1 n) + c2 (c1 n) / 16 &&& 252645135) from nx_and (c2 (c1 n) + c2 (c1 n) / 16) 252645135]
  refine lv_istore_n (lv' := [(0, .int (nI (c3 (c2 (c1 n)))))]) hx hb dJ6_bitCount_0f7a4_33 rfl hl (by decide) rfl (fun ls hl => ?_)
  refine lv_iload_n hx hb dJ6_bitCount_0f7a4_34 rfl (lv_at hl 0 rfl) ?_
  refine lv_iload_n hx hb dJ6_bitCount_0f7a4_35 rfl (lv_at hl 0 rfl) ?_
  refine lv_bipush (v := (nI 8)) hx hb dJ6_bitCount_0f7a4_36 (by decide) ?_
  refine lv_iushr (v := (nI (c3 (c2 (c1 n)) / 256))) hx hb dJ6_bitCount_0f7a4_38 (pk_ushrN (by omega) (nI 8) 8 (by decide)) ?_
  refine z_iadd hx hb dJ6_bitCount_0f7a4_39 ?_
  refine lv_istore_n (lv' := [(0, .int (nI (c4 (c3 (c2 (c1 n))))))]) hx hb dJ6_bitCount_0f7a4_40 rfl hl (by decide) rfl (fun ls hl => ?_)
  refine lv_iload_n hx hb dJ6_bitCount_0f7a4_41 rfl (lv_at hl 0 rfl) ?_
  refine lv_iload_n hx hb dJ6_bitCount_0f7a4_42 rfl (lv_at hl 0 rfl) ?_
  refine lv_bipush (v := (nI 16)) hx hb dJ6_bitCount_0f7a4_43 (by decide) ?_
  refine lv_iushr (v := (nI (c4 (c3 (c2 (c1 n))) / 65536))) hx hb dJ6_bitCount_0f7a4_45 (pk_ushrN (by omega) (nI 16) 16 (by decide)) ?_
  refine z_iadd hx hb dJ6_bitCount_0f7a4_46 ?_
  refine lv_istore_n (lv' := [(0, .int (nI (c5 (c4 (c3 (c2 (c1 n)))))))]) hx hb dJ6_bitCount_0f7a4_47 rfl hl (by decide) rfl (fun ls hl => ?_)
  refine lv_iload_n hx hb dJ6_bitCount_0f7a4_48 rfl (lv_at hl 0 rfl) ?_
  refine lv_bipush (v := (nI 63)) hx hb dJ6_bitCount_0f7a4_49 (by decide) ?_
  refine lv_iand hx hb dJ6_bitCount_0f7a4_51 ?_
  rw [show nI (c5 (c4 (c3 (c2 (c1 n))))) &&& nI 63 = nI (c5 (c4 (c3 (c2 (c1 n)))) &&& 63) from nx_and (c5 (c4 (c3 (c2 (c1 n))))) 63]
  exact W.iret (v := (nI (c5 (c4 (c3 (c2 (c1 n)))) &&& 63))) hx hb hr (fun t9 ht9 hW9 => ⟨⟨(nI (c5 (c4 (c3 (c2 (c1 n)))) &&& 63)), (), rfl, (by rw [q5]), trivial⟩, hS.F ht9⟩) hS.2.2 dJ6_bitCount_0f7a4_52
set_option maxHeartbeats 4000000 in
set_option maxRecDepth 100000 in
theorem c_X0_size_n (l : Launch) (n : Nat) (hn : n < 4294967296) : Met l yX0_size wsX0_size ({ frames := 1, cells := 0, slots := 0, locals := 20 } : Room) (va_Pc [.int (nI n)] (fun _ => True)) (zPo (fun r => r = nI (zpop (nI n)))) 0 0 zNo := by
  refine Met.ofW (cc := cX0_size) (maxL := 1) (ret := (some .int)) (by decide) rfl ?_
  intro p e s m args below meth c s₁ B hml hv
  obtain ⟨rfl, -⟩ := hv
  have hx := B.exec
  have hb := B.bytes
  have hr := B.returns
  have hts := atoms_spec (ws := wsX0_size) B.pre
  have hown : s.vm.findClass RX0 = some m.cls := findClass_of_methodNamed B.named
  have hlocks := B.notSynchronized
  have hS : va_S (fun _ => False) s.heap s.heap [] := va_S.rf
  have hl := lv_entry ([.int (nI n)]) (n := 1) (Nat.le_of_ble_eq_true rfl)
  rw [lg_entry_eq]
  generalize (lg_sl ([.int (nI n)]) ++ List.replicate (1 - (lg_sl ([.int (nI n)])).length) Slot.unset).toArray = ls at hl ⊢
  have hl : lv_has ls 1 [(0, .int (nI n))] := hl
  refine lv_iload_n hx hb dX0_size_0 rfl (lv_at hl 0 rfl) ?_
  refine zrS0 (As := [.int (nI n)]) (rest := []) ⟨hx, hb, hml, hown, hts⟩ (c_J6_bitCount_0f7a4 l n hn) (va_cwS 1 hts gX0_size_J6_bitCount_0f7a4 rfl rfl rfl (by decide +kernel) ⟨Nat.le_of_ble_eq_true rfl, Nat.le_of_ble_eq_true rfl⟩) rfl hl rfl (Nat.le_of_ble_eq_true rfl) dX0_size_1 ⟨Nat.le_of_ble_eq_true rfl, Nat.le_of_ble_eq_true rfl⟩ hS (fun r1 H locs hw1 hk9 hS => ?_)
  obtain rfl : r1 = nI (zpop (nI n)) := hw1
  exact W.iret (v := nI (zpop (nI n))) hx hb hr (fun t9 ht9 hW9 => ⟨⟨nI (zpop (nI n)), (), rfl, rfl, trivial⟩, hS.F ht9⟩) hS.2.2 dX0_size_4
theorem c_X0_size (l : Launch) (x : Int32) : Met l yX0_size wsX0_size ({ frames := 1, cells := 0, slots := 0, locals := 20 } : Room) (va_Pc [.int x] (fun _ => True)) (zPo (fun r => r = nI (zpop x))) 0 0 zNo := by
  obtain ⟨n, hn, rfl⟩ := wb_of32 x
  exact c_X0_size_n l n hn
