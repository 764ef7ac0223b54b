/-! ===== what the law asks of the network without edges ===== -/
set_option maxHeartbeats 4000000 in
set_option maxRecDepth 100000 in
theorem w_isNodeSo (l : Launch) (hfl : l.stackTraces = false) (D : va_G) (cy : ClassId) (h a0 a1 a2 : Nat) (N : Nat) (tr : Nat → Int32) (sz : Nat) (u : Nat) (hN : N ≤ 20) (hu : u < N) : vx_Met l yL_isNodeSo wsL_isNodeSo ({ frames := 9, cells := 0, slots := 0, locals := 149 } : Room) (va_Pc [.ref h, .int (nI u)] (kRd D (wZ h a0 a1 a2 cy N tr) [(cy, .int)] sz)) (kPo (nI 1) sz 0) zXn 0 0 zNo := by
  refine vx_ofW (cc := cL_isNodeSo) (maxL := 8) (ret := (some .boolean)) (by decide) rfl ?_
  intro p e s m args below meth c s₁ B hml hto hv
  obtain ⟨rfl, ⟨⟨hP, hK⟩, hsz⟩, hT⟩ := hv
  have hx := B.exec
  have hb := B.bytes
  have hr := B.returns
  have hts := atoms_spec (ws := wsL_isNodeSo) B.pre
  have hown : s.vm.findClass RL = some m.cls := findClass_of_methodNamed B.named
  have hlocks := B.notSynchronized
  subst hsz
  have hS : va_S (fun _ => False) s.heap s.heap [] := va_S.rf
  have hl := lv_entry ([.ref h, .int (nI u)]) (n := 8) (Nat.le_of_ble_eq_true rfl)
  rw [lg_entry_eq]
  generalize (lg_sl ([.ref h, .int (nI u)]) ++ List.replicate (8 - (lg_sl ([.ref h, .int (nI u)])).length) Slot.unset).toArray = ls at hl ⊢
  have hl : lv_has ls 8 [(0, .ref h), (1, .int (nI u))] := hl
  have hz : s.heap.size + 0 ≤ s.heap.size := Nat.le_refl _
  refine lv_aload_n hx hb dL_isNodeSo_0 rfl (lv_at hl 0 rfl) ?_
  refine lv_iload_n hx hb dL_isNodeSo_1 rfl (lv_at hl 1 rfl) ?_
  refine zrV (As := [.int (nI u)]) (rest := []) 0 ⟨hx, hb, hml, hown, hts⟩ (c_X0_core_ok l D cy h a0 a1 a2 N (nI 0) (nI 0) zf zf tr u z0 hN hu (zcs _)) (cwV 1 hts gL_isNodeSo_X0_core rfl rfl rfl (by decide +kernel) ⟨Nat.le_of_ble_eq_true rfl, Nat.le_of_ble_eq_true rfl⟩) hK hP rfl rfl rfl hl rfl (Nat.le_of_ble_eq_true rfl) dL_isNodeSo_2 ⟨Nat.le_of_ble_eq_true rfl, Nat.le_of_ble_eq_true rfl⟩ hS (fun r9 H1 locs hw9 hk9 hS => ?_)
  obtain rfl : r9 = (nI 0) := hw9
  have hP := zkeep hP hk9
  have hz : s.heap.size + 0 ≤ H1.size := Nat.le_trans hz hk9.1
  refine lv_istore_n (lv' := [(2, .int (nI 0)), (0, .ref h), (1, .int (nI u))]) hx hb dL_isNodeSo_5 rfl hl (by decide) rfl (fun ls hl => ?_)
  refine lv_iconst (v := (nI 0)) hx hb dL_isNodeSo_6 (by decide) ?_
  refine lv_istore_n (lv' := [(3, .int (nI 0)), (2, .int (nI 0)), (0, .ref h), (1, .int (nI u))]) hx hb dL_isNodeSo_7 rfl hl (by decide) rfl (fun ls hl => ?_)
  refine lv_iconst (v := (nI 0)) hx hb dL_isNodeSo_8 (by decide) ?_
  refine lv_istore (lv' := [(4, .int (nI 0)), (3, .int (nI 0)), (2, .int (nI 0)), (0, .ref h), (1, .int (nI u))]) hx hb dL_isNodeSo_9 hl (by decide) rfl (fun ls hl => ?_)
  refine lv_iconst (v := (-1)) hx hb dL_isNodeSo_11 (by decide) ?_
  refine lv_istore (lv' := [(5, .int (-1)), (4, .int (nI 0)), (3, .int (nI 0)), (2, .int (nI 0)), (0, .ref h), (1, .int (nI u))]) hx hb dL_isNodeSo_12 hl (by decide) rfl (fun ls hl => ?_)
  refine lv_iconst (v := (nI 0)) hx hb dL_isNodeSo_14 (by decide) ?_
  refine lv_istore (lv' := [(6, .int (nI 0)), (5, .int (-1)), (4, .int (nI 0)), (3, .int (nI 0)), (2, .int (nI 0)), (0, .ref h), (1, .int (nI u))]) hx hb dL_isNodeSo_15 hl (by decide) rfl (fun ls hl => ?_)
  refine lv_iload hx hb dL_isNodeSo_17 (lv_at hl 0 rfl) ?_
  refine lv_aload_n hx hb dL_isNodeSo_19 rfl (lv_at hl 5 rfl) ?_
  refine lv_iload_n hx hb dL_isNodeSo_20 rfl (lv_at hl 6 rfl) ?_
  refine zrV (As := [.int (nI u)]) (rest := [.int (nI 0)]) 0 ⟨hx, hb, hml, hown, hts⟩ (c_X0_degree_ok l D cy h a0 a1 a2 N (nI 0) (nI 0) zf zf tr u hN hu) (cwV 1 hts gL_isNodeSo_X0_degree rfl rfl rfl (by decide +kernel) ⟨Nat.le_of_ble_eq_true rfl, Nat.le_of_ble_eq_true rfl⟩) hK hP rfl rfl rfl hl rfl (Nat.le_of_ble_eq_true rfl) dL_isNodeSo_21 ⟨Nat.le_of_ble_eq_true rfl, Nat.le_of_ble_eq_true rfl⟩ hS (fun r9 H2 locs hw9 hk9 hS => ?_)
  obtain rfl : r9 = (nI 0) := hw9.trans (congrArg nI (zrow u))
  have hP := zkeep hP hk9
  have hz : s.heap.size + 0 ≤ H2.size := Nat.le_trans hz hk9.1
  refine k_icmp_ge_t (tgt := 119) hx hb dL_isNodeSo_24 (by decide) (by decide +kernel) ?_
  refine lv_iload_n hx hb dL_isNodeSo_119 rfl (lv_at hl 3 rfl) ?_
  refine lv_iload_n hx hb dL_isNodeSo_120 rfl (lv_at hl 4 rfl) ?_
  refine k_icmp_lt_f (tgt := 174) hx hb dL_isNodeSo_121 (by decide) (by decide +kernel) ?_
  refine lv_iload hx hb dL_isNodeSo_124 (lv_at hl 2 rfl) ?_
  refine lv_iload_n hx hb dL_isNodeSo_126 rfl (lv_at hl 4 rfl) ?_
  refine k_icmp_gt_f (tgt := 174) hx hb dL_isNodeSo_127 (by decide) (by decide +kernel) ?_
  refine lv_aload_n hx hb dL_isNodeSo_130 rfl (lv_at hl 5 rfl) ?_
  refine lv_iload_n hx hb dL_isNodeSo_131 rfl (lv_at hl 6 rfl) ?_
  refine lv_iload_n hx hb dL_isNodeSo_132 rfl (lv_at hl 4 rfl) ?_
  refine zrV (As := [.int (nI u), .int (nI 0)]) (rest := []) 0 ⟨hx, hb, hml, hown, hts⟩ (c_X0_community_ok l D cy h a0 a1 a2 N (nI 0) (nI 0) zf zf tr u (nI 0) z0 hN hu (by decide) (zcs _)) (cwV 2 hts gL_isNodeSo_X0_community rfl rfl rfl (by decide +kernel) ⟨Nat.le_of_ble_eq_true rfl, Nat.le_of_ble_eq_true rfl⟩) hK hP rfl rfl rfl hl rfl (Nat.le_of_ble_eq_true rfl) dL_isNodeSo_133 ⟨Nat.le_of_ble_eq_true rfl, Nat.le_of_ble_eq_true rfl⟩ hS (fun r9 H3 locs hw9 hk9 hS => ?_)
  obtain rfl : r9 = (nI 1) := hw9.trans (congrArg nI (zcom0 hN hu))
  have hP := zkeep hP hk9
  have hz : s.heap.size + 0 ≤ H3.size := Nat.le_trans hz hk9.1
  refine lv_iload_n hx hb dL_isNodeSo_136 rfl (lv_at hl 4 rfl) ?_
  refine k_icmp_le_f (tgt := 174) hx hb dL_isNodeSo_137 (by decide) (by decide +kernel) ?_
  refine lv_aload_n hx hb dL_isNodeSo_140 rfl (lv_at hl 5 rfl) ?_
  refine lv_iload_n hx hb dL_isNodeSo_141 rfl (lv_at hl 6 rfl) ?_
  refine lv_iload_n hx hb dL_isNodeSo_142 rfl (lv_at hl 4 rfl) ?_
  refine lv_iconst (v := (nI 1)) hx hb dL_isNodeSo_143 (by decide) ?_
  refine k_iadd (v := (nI 1)) hx hb dL_isNodeSo_144 (by decide +kernel) ?_
  refine zrV (As := [.int (nI u), .int (nI 1)]) (rest := []) 0 ⟨hx, hb, hml, hown, hts⟩ (c_X0_community_ok l D cy h a0 a1 a2 N (nI 0) (nI 0) zf zf tr u (nI 1) z0 hN hu (by decide) (zcs _)) (cwV 2 hts gL_isNodeSo_X0_community rfl rfl rfl (by decide +kernel) ⟨Nat.le_of_ble_eq_true rfl, Nat.le_of_ble_eq_true rfl⟩) hK hP rfl rfl rfl hl rfl (Nat.le_of_ble_eq_true rfl) dL_isNodeSo_145 ⟨Nat.le_of_ble_eq_true rfl, Nat.le_of_ble_eq_true rfl⟩ hS (fun r9 H4 locs hw9 hk9 hS => ?_)
  obtain rfl : r9 = (nI 0) := hw9.trans (congrArg nI (zcom1 hN hu))
  have hP := zkeep hP hk9
  have hz : s.heap.size + 0 ≤ H4.size := Nat.le_trans hz hk9.1
  refine k_if_ne_f (tgt := 174) hx hb dL_isNodeSo_148 (by decide) (by decide +kernel) ?_
  refine lv_aload_n hx hb dL_isNodeSo_151 rfl (lv_at hl 5 rfl) ?_
  refine lv_iload_n hx hb dL_isNodeSo_152 rfl (lv_at hl 6 rfl) ?_
  refine lv_iload_n hx hb dL_isNodeSo_153 rfl (lv_at hl 6 rfl) ?_
  refine kSW (k := 0) (As := [.ref h, .int (nI u), .int (nI u)]) (rest := []) ⟨hx, hb, hml, hown, hts⟩ (w_together_same l hfl D cy h a0 a1 a2 N tr _ u hN hu) (vx_cwSW 3 hts gL_isNodeSo_L_together rfl rfl rfl (by decide +kernel) ⟨Nat.le_of_ble_eq_true rfl, Nat.le_of_ble_eq_true rfl⟩) hK hP (fun U hU hW => hT.move hW ⟨Nat.le_trans hS.1 (Nat.le_of_eq (by rw [hU])), fun q h => Eq.trans (by rw [hU]) (hS.2.1 q h (fun z => z))⟩) rfl hl rfl (Nat.le_of_ble_eq_true rfl) dL_isNodeSo_154 ⟨Nat.le_of_ble_eq_true rfl, Nat.le_of_ble_eq_true rfl⟩ hS (fun H5 locs hk9 hz9 hS => ?_)
  have hP := zkeep hP hk9
  have hz : s.heap.size + 0 ≤ H5.size := Nat.le_trans hz hk9.1
  refine lv_iload_n hx hb dL_isNodeSo_157 rfl (lv_at hl 4 rfl) ?_
  refine k_icmp_ne_f (tgt := 174) hx hb dL_isNodeSo_158 (by decide) (by decide +kernel) ?_
  refine lv_aload_n hx hb dL_isNodeSo_161 rfl (lv_at hl 5 rfl) ?_
  refine lv_iload_n hx hb dL_isNodeSo_162 rfl (lv_at hl 6 rfl) ?_
  refine lv_iload_n hx hb dL_isNodeSo_163 rfl (lv_at hl 6 rfl) ?_
  refine zrV (As := [.int (nI u), .int (nI u)]) (rest := []) 0 ⟨hx, hb, hml, hown, hts⟩ (c_X0_areJoined_ok l D cy h a0 a1 a2 N (nI 0) (nI 0) zf zf tr u u hN hu hu) (cwV 2 hts gL_isNodeSo_X0_areJoined rfl rfl rfl (by decide +kernel) ⟨Nat.le_of_ble_eq_true rfl, Nat.le_of_ble_eq_true rfl⟩) hK hP rfl rfl rfl hl rfl (Nat.le_of_ble_eq_true rfl) dL_isNodeSo_164 ⟨Nat.le_of_ble_eq_true rfl, Nat.le_of_ble_eq_true rfl⟩ hS (fun r9 H6 locs hw9 hk9 hS => ?_)
  obtain rfl : r9 = (zb false) := hw9.trans (congrArg zb (zf_b u u))
  have hP := zkeep hP hk9
  have hz : s.heap.size + 0 ≤ H6.size := Nat.le_trans hz hk9.1
  refine k_if_ne_f (tgt := 174) hx hb dL_isNodeSo_167 (by decide) (by decide +kernel) ?_
  refine lv_iconst (v := (nI 1)) hx hb dL_isNodeSo_170 (by decide) ?_
  refine lv_goto (tgt := 175) hx hb dL_isNodeSo_171 (by decide) ?_
  refine W.widen (k := 0) (n := 0) (Nat.le_of_ble_eq_true rfl) (Nat.le_of_ble_eq_true rfl) ?_
  refine vx_ret ?_
  exact W.zret (v := (nI 1)) (ty := .boolean) hx hb hr rfl (fun t9 ht9 hW9 => ⟨⟨(nI 1), (), rfl, rfl, by show s.heap.size + 0 ≤ t9.heap.size; rw [ht9]; exact hz⟩, hS.F ht9⟩) hS.2.2 dL_isNodeSo_175

set_option maxHeartbeats 4000000 in
set_option maxRecDepth 100000 in
theorem w_arePairsSo_same (l : Launch) (hfl : l.stackTraces = false) (D : va_G) (cy : ClassId) (h a0 a1 a2 : Nat) (N : Nat) (tr : Nat → Int32) (sz : Nat) (u : Nat) (hN : N ≤ 20) (hu : u < N) : vx_Met l yL_arePairsSo wsL_arePairsSo ({ frames := 9, cells := 2, slots := 12, locals := 151 } : Room) (va_Pc [.ref h, .int (nI u), .int (nI u)] (kRd D (wZ h a0 a1 a2 cy N tr) [(cy, .int)] sz)) (kPo (nI 1) sz 2) zXn 2 12 zNo := by
  refine vx_ofW (cc := cL_arePairsSo) (maxL := 7) (ret := (some .boolean)) (by decide) rfl ?_
  intro p e s m args below meth c s₁ B hml hto hv
  obtain ⟨rfl, ⟨⟨hP, hK⟩, hsz⟩, hT⟩ := hv
  have hx := B.exec
  have hb := B.bytes
  have hr := B.returns
  have hts := atoms_spec (ws := wsL_arePairsSo) B.pre
  have hown : s.vm.findClass RL = some m.cls := findClass_of_methodNamed B.named
  have hlocks := B.notSynchronized
  subst hsz
  have hS : va_S (fun _ => False) s.heap s.heap [] := va_S.rf
  have hl := lv_entry ([.ref h, .int (nI u), .int (nI u)]) (n := 7) (Nat.le_of_ble_eq_true rfl)
  rw [lg_entry_eq]
  generalize (lg_sl ([.ref h, .int (nI u), .int (nI u)]) ++ List.replicate (7 - (lg_sl ([.ref h, .int (nI u), .int (nI u)])).length) Slot.unset).toArray = ls at hl ⊢
  have hl : lv_has ls 7 [(0, .ref h), (1, .int (nI u)), (2, .int (nI u))] := hl
  have hz : s.heap.size + 0 ≤ s.heap.size := Nat.le_refl _
  refine lv_aload_n hx hb dL_arePairsSo_0 rfl (lv_at hl 0 rfl) ?_
  refine lv_iload_n hx hb dL_arePairsSo_1 rfl (lv_at hl 1 rfl) ?_
  refine lv_iload_n hx hb dL_arePairsSo_2 rfl (lv_at hl 2 rfl) ?_
  refine kSW (k := 0) (As := [.ref h, .int (nI u), .int (nI u)]) (rest := []) ⟨hx, hb, hml, hown, hts⟩ (w_together_same l hfl D cy h a0 a1 a2 N tr _ u hN hu) (vx_cwSW 3 hts gL_arePairsSo_L_together rfl rfl rfl (by decide +kernel) ⟨Nat.le_of_ble_eq_true rfl, Nat.le_of_ble_eq_true rfl⟩) hK hP (fun U hU hW => hT.move hW ⟨Nat.le_trans hS.1 (Nat.le_of_eq (by rw [hU])), fun q h => Eq.trans (by rw [hU]) (hS.2.1 q h (fun z => z))⟩) rfl hl rfl (Nat.le_of_ble_eq_true rfl) dL_arePairsSo_3 ⟨Nat.le_of_ble_eq_true rfl, Nat.le_of_ble_eq_true rfl⟩ hS (fun H1 locs hk9 hz9 hS => ?_)
  have hP := zkeep hP hk9
  have hz : s.heap.size + 0 ≤ H1.size := Nat.le_trans hz hk9.1
  refine lv_istore_n (lv' := [(3, .int (nI 0)), (0, .ref h), (1, .int (nI u)), (2, .int (nI u))]) hx hb dL_arePairsSo_6 rfl hl (by decide) rfl (fun ls hl => ?_)
  refine lv_aload_n hx hb dL_arePairsSo_7 rfl (lv_at hl 1 rfl) ?_
  refine lv_iload_n hx hb dL_arePairsSo_8 rfl (lv_at hl 2 rfl) ?_
  refine lv_iload_n hx hb dL_arePairsSo_9 rfl (lv_at hl 3 rfl) ?_
  refine kSW (k := 1) (As := [.ref h, .int (nI u), .int (nI u)]) (rest := []) ⟨hx, hb, hml, hown, hts⟩ (w_truss_none l hfl D cy h a0 a1 a2 N tr _ u u hN hu hu) (vx_cwSW 3 hts gL_arePairsSo_L_truss rfl rfl rfl (by decide +kernel) ⟨Nat.le_of_ble_eq_true rfl, Nat.le_of_ble_eq_true rfl⟩) hK hP (fun U hU hW => hT.move hW ⟨Nat.le_trans hS.1 (Nat.le_of_eq (by rw [hU])), fun q h => Eq.trans (by rw [hU]) (hS.2.1 q h (fun z => z))⟩) rfl hl rfl (Nat.le_of_ble_eq_true rfl) dL_arePairsSo_10 ⟨Nat.le_of_ble_eq_true rfl, Nat.le_of_ble_eq_true rfl⟩ hS (fun H2 locs hk9 hz9 hS => ?_)
  have hP := zkeep hP hk9
  have hz : s.heap.size + 1 ≤ H2.size := by omega
  refine lv_istore (lv' := [(4, .int (-1)), (3, .int (nI 0)), (0, .ref h), (1, .int (nI u)), (2, .int (nI u))]) hx hb dL_arePairsSo_13 hl (by decide) rfl (fun ls hl => ?_)
  refine lv_aload_n hx hb dL_arePairsSo_15 rfl (lv_at hl 2 rfl) ?_
  refine lv_iload_n hx hb dL_arePairsSo_16 rfl (lv_at hl 4 rfl) ?_
  refine lv_iload_n hx hb dL_arePairsSo_17 rfl (lv_at hl 3 rfl) ?_
  refine kSW (k := 0) (As := [.ref h, .int (nI u), .int (nI u)]) (rest := []) ⟨hx, hb, hml, hown, hts⟩ (w_together_same l hfl D cy h a0 a1 a2 N tr _ u hN hu) (vx_cwSW 3 hts gL_arePairsSo_L_together rfl rfl rfl (by decide +kernel) ⟨Nat.le_of_ble_eq_true rfl, Nat.le_of_ble_eq_true rfl⟩) hK hP (fun U hU hW => hT.move hW ⟨Nat.le_trans hS.1 (Nat.le_of_eq (by rw [hU])), fun q h => Eq.trans (by rw [hU]) (hS.2.1 q h (fun z => z))⟩) rfl hl rfl (Nat.le_of_ble_eq_true rfl) dL_arePairsSo_18 ⟨Nat.le_of_ble_eq_true rfl, Nat.le_of_ble_eq_true rfl⟩ hS (fun H3 locs hk9 hz9 hS => ?_)
  have hP := zkeep hP hk9
  have hz : s.heap.size + 1 ≤ H3.size := Nat.le_trans hz hk9.1
  refine lv_iload_n hx hb dL_arePairsSo_21 rfl (lv_at hl 1 rfl) ?_
  refine k_icmp_ne_f (tgt := 78) hx hb dL_arePairsSo_22 (by decide) (by decide +kernel) ?_
  refine lv_iload_n hx hb dL_arePairsSo_25 rfl (lv_at hl 1 rfl) ?_
  refine lv_aload_n hx hb dL_arePairsSo_26 rfl (lv_at hl 2 rfl) ?_
  refine lv_iload_n hx hb dL_arePairsSo_27 rfl (lv_at hl 3 rfl) ?_
  refine zrV (As := [.int (nI u)]) (rest := [.int (nI 0)]) 0 ⟨hx, hb, hml, hown, hts⟩ (c_X0_core_ok l D cy h a0 a1 a2 N (nI 0) (nI 0) zf zf tr u z0 hN hu (zcs _)) (cwV 1 hts gL_arePairsSo_X0_core rfl rfl rfl (by decide +kernel) ⟨Nat.le_of_ble_eq_true rfl, Nat.le_of_ble_eq_true rfl⟩) hK hP rfl rfl rfl hl rfl (Nat.le_of_ble_eq_true rfl) dL_arePairsSo_28 ⟨Nat.le_of_ble_eq_true rfl, Nat.le_of_ble_eq_true rfl⟩ hS (fun r9 H4 locs hw9 hk9 hS => ?_)
  obtain rfl : r9 = (nI 0) := hw9
  have hP := zkeep hP hk9
  have hz : s.heap.size + 1 ≤ H4.size := Nat.le_trans hz hk9.1
  refine k_icmp_gt_f (tgt := 78) hx hb dL_arePairsSo_31 (by decide) (by decide +kernel) ?_
  refine lv_iload_n hx hb dL_arePairsSo_34 rfl (lv_at hl 1 rfl) ?_
  refine lv_aload_n hx hb dL_arePairsSo_35 rfl (lv_at hl 2 rfl) ?_
  refine lv_iload_n hx hb dL_arePairsSo_36 rfl (lv_at hl 4 rfl) ?_
  refine zrV (As := [.int (nI u)]) (rest := [.int (nI 0)]) 0 ⟨hx, hb, hml, hown, hts⟩ (c_X0_core_ok l D cy h a0 a1 a2 N (nI 0) (nI 0) zf zf tr u z0 hN hu (zcs _)) (cwV 1 hts gL_arePairsSo_X0_core rfl rfl rfl (by decide +kernel) ⟨Nat.le_of_ble_eq_true rfl, Nat.le_of_ble_eq_true rfl⟩) hK hP rfl rfl rfl hl rfl (Nat.le_of_ble_eq_true rfl) dL_arePairsSo_37 ⟨Nat.le_of_ble_eq_true rfl, Nat.le_of_ble_eq_true rfl⟩ hS (fun r9 H5 locs hw9 hk9 hS => ?_)
  obtain rfl : r9 = (nI 0) := hw9
  have hP := zkeep hP hk9
  have hz : s.heap.size + 1 ≤ H5.size := Nat.le_trans hz hk9.1
  refine k_icmp_gt_f (tgt := 78) hx hb dL_arePairsSo_40 (by decide) (by decide +kernel) ?_
  refine lv_aload_n hx hb dL_arePairsSo_43 rfl (lv_at hl 2 rfl) ?_
  refine lv_iload_n hx hb dL_arePairsSo_44 rfl (lv_at hl 4 rfl) ?_
  refine lv_iload_n hx hb dL_arePairsSo_45 rfl (lv_at hl 3 rfl) ?_
  refine kSW (k := 1) (As := [.ref h, .int (nI u), .int (nI u)]) (rest := []) ⟨hx, hb, hml, hown, hts⟩ (w_truss_none l hfl D cy h a0 a1 a2 N tr _ u u hN hu hu) (vx_cwSW 3 hts gL_arePairsSo_L_truss rfl rfl rfl (by decide +kernel) ⟨Nat.le_of_ble_eq_true rfl, Nat.le_of_ble_eq_true rfl⟩) hK hP (fun U hU hW => hT.move hW ⟨Nat.le_trans hS.1 (Nat.le_of_eq (by rw [hU])), fun q h => Eq.trans (by rw [hU]) (hS.2.1 q h (fun z => z))⟩) rfl hl rfl (Nat.le_of_ble_eq_true rfl) dL_arePairsSo_46 ⟨Nat.le_of_ble_eq_true rfl, Nat.le_of_ble_eq_true rfl⟩ hS (fun H6 locs hk9 hz9 hS => ?_)
  have hP := zkeep hP hk9
  have hz : s.heap.size + 2 ≤ H6.size := by omega
  refine lv_iload hx hb dL_arePairsSo_49 (lv_at hl 0 rfl) ?_
  refine k_icmp_ne_f (tgt := 78) hx hb dL_arePairsSo_51 (by decide) (by decide +kernel) ?_
  refine lv_iload hx hb dL_arePairsSo_54 (lv_at hl 0 rfl) ?_
  refine lv_iconst (v := (nI 2)) hx hb dL_arePairsSo_56 (by decide) ?_
  refine k_icmp_lt_t (tgt := 64) hx hb dL_arePairsSo_57 (by decide) (by decide +kernel) ?_
  refine lv_iconst (v := (nI 0)) hx hb dL_arePairsSo_64 (by decide) ?_
  refine lv_aload_n hx hb dL_arePairsSo_65 rfl (lv_at hl 2 rfl) ?_
  refine lv_iload_n hx hb dL_arePairsSo_66 rfl (lv_at hl 3 rfl) ?_
  refine lv_iload_n hx hb dL_arePairsSo_67 rfl (lv_at hl 4 rfl) ?_
  refine zrV (As := [.int (nI u), .int (nI u)]) (rest := [.int (nI 0)]) 0 ⟨hx, hb, hml, hown, hts⟩ (c_X0_areJoined_ok l D cy h a0 a1 a2 N (nI 0) (nI 0) zf zf tr u u hN hu hu) (cwV 2 hts gL_arePairsSo_X0_areJoined rfl rfl rfl (by decide +kernel) ⟨Nat.le_of_ble_eq_true rfl, Nat.le_of_ble_eq_true rfl⟩) hK hP rfl rfl rfl hl rfl (Nat.le_of_ble_eq_true rfl) dL_arePairsSo_68 ⟨Nat.le_of_ble_eq_true rfl, Nat.le_of_ble_eq_true rfl⟩ hS (fun r9 H7 locs hw9 hk9 hS => ?_)
  obtain rfl : r9 = (zb false) := hw9.trans (congrArg zb (zf_b u u))
  have hP := zkeep hP hk9
  have hz : s.heap.size + 2 ≤ H7.size := Nat.le_trans hz hk9.1
  refine k_icmp_ne_f (tgt := 78) hx hb dL_arePairsSo_71 (by decide) (by decide +kernel) ?_
  refine lv_iconst (v := (nI 1)) hx hb dL_arePairsSo_74 (by decide) ?_
  refine lv_goto (tgt := 79) hx hb dL_arePairsSo_75 (by decide) ?_
  refine lv_istore (lv' := [(5, .int (nI 1)), (4, .int (-1)), (3, .int (nI 0)), (0, .ref h), (1, .int (nI u)), (2, .int (nI u))]) hx hb dL_arePairsSo_79 hl (by decide) rfl (fun ls hl => ?_)
  refine lv_iload hx hb dL_arePairsSo_81 (lv_at hl 0 rfl) ?_
  refine k_if_eq_f (tgt := 188) hx hb dL_arePairsSo_83 (by decide) (by decide +kernel) ?_
  refine lv_iload hx hb dL_arePairsSo_86 (lv_at hl 1 rfl) ?_
  refine lv_iconst (v := (nI 2)) hx hb dL_arePairsSo_88 (by decide) ?_
  refine k_icmp_lt_t (tgt := 188) hx hb dL_arePairsSo_89 (by decide) (by decide +kernel) ?_
  refine lv_iload hx hb dL_arePairsSo_188 (lv_at hl 0 rfl) ?_
  refine W.widen (k := 2) (n := 12) (Nat.le_of_ble_eq_true rfl) (Nat.le_of_ble_eq_true rfl) ?_
  refine vx_ret ?_
  exact W.zret (v := (nI 1)) (ty := .boolean) hx hb hr rfl (fun t9 ht9 hW9 => ⟨⟨(nI 1), (), rfl, rfl, by show s.heap.size + 2 ≤ t9.heap.size; rw [ht9]; exact hz⟩, hS.F ht9⟩) hS.2.2 dL_arePairsSo_190

set_option maxHeartbeats 4000000 in
set_option maxRecDepth 100000 in
theorem w_arePairsSo_two (l : Launch) (hfl : l.stackTraces = false) (D : va_G) (cy : ClassId) (h a0 a1 a2 : Nat) (N : Nat) (tr : Nat → Int32) (sz : Nat) (u v : Nat) (hN : N ≤ 20) (hu : u < N) (hv : v < N) (huv : u ≠ v) : vx_Met l yL_arePairsSo wsL_arePairsSo ({ frames := 9, cells := 4, slots := 24, locals := 151 } : Room) (va_Pc [.ref h, .int (nI u), .int (nI v)] (kRd D (wZ h a0 a1 a2 cy N tr) [(cy, .int)] sz)) (kPo (nI 1) sz 4) zXn 4 24 zNo := by
  refine vx_ofW (cc := cL_arePairsSo) (maxL := 7) (ret := (some .boolean)) (by decide) rfl ?_
  intro p e s m args below meth c s₁ B hml hto hv
  obtain ⟨rfl, ⟨⟨hP, hK⟩, hsz⟩, hT⟩ := hv
  have hx := B.exec
  have hb := B.bytes
  have hr := B.returns
  have hts := atoms_spec (ws := wsL_arePairsSo) B.pre
  have hown : s.vm.findClass RL = some m.cls := findClass_of_methodNamed B.named
  have hlocks := B.notSynchronized
  subst hsz
  have hS : va_S (fun _ => False) s.heap s.heap [] := va_S.rf
  have hl := lv_entry ([.ref h, .int (nI u), .int (nI v)]) (n := 7) (Nat.le_of_ble_eq_true rfl)
  rw [lg_entry_eq]
  generalize (lg_sl ([.ref h, .int (nI u), .int (nI v)]) ++ List.replicate (7 - (lg_sl ([.ref h, .int (nI u), .int (nI v)])).length) Slot.unset).toArray = ls at hl ⊢
  have hl : lv_has ls 7 [(0, .ref h), (1, .int (nI u)), (2, .int (nI v))] := hl
  have hz : s.heap.size + 0 ≤ s.heap.size := Nat.le_refl _
  refine lv_aload_n hx hb dL_arePairsSo_0 rfl (lv_at hl 0 rfl) ?_
  refine lv_iload_n hx hb dL_arePairsSo_1 rfl (lv_at hl 1 rfl) ?_
  refine lv_iload_n hx hb dL_arePairsSo_2 rfl (lv_at hl 2 rfl) ?_
  refine kSW (k := 1) (As := [.ref h, .int (nI u), .int (nI v)]) (rest := []) ⟨hx, hb, hml, hown, hts⟩ (w_together_none l hfl D cy h a0 a1 a2 N tr _ u v hN hu hv huv) (vx_cwSW 3 hts gL_arePairsSo_L_together rfl rfl rfl (by decide +kernel) ⟨Nat.le_of_ble_eq_true rfl, Nat.le_of_ble_eq_true rfl⟩) hK hP (fun U hU hW => hT.move hW ⟨Nat.le_trans hS.1 (Nat.le_of_eq (by rw [hU])), fun q h => Eq.trans (by rw [hU]) (hS.2.1 q h (fun z => z))⟩) rfl hl rfl (Nat.le_of_ble_eq_true rfl) dL_arePairsSo_3 ⟨Nat.le_of_ble_eq_true rfl, Nat.le_of_ble_eq_true rfl⟩ hS (fun H1 locs hk9 hz9 hS => ?_)
  have hP := zkeep hP hk9
  have hz : s.heap.size + 1 ≤ H1.size := by omega
  refine lv_istore_n (lv' := [(3, .int (-1)), (0, .ref h), (1, .int (nI u)), (2, .int (nI v))]) hx hb dL_arePairsSo_6 rfl hl (by decide) rfl (fun ls hl => ?_)
  refine lv_aload_n hx hb dL_arePairsSo_7 rfl (lv_at hl 1 rfl) ?_
  refine lv_iload_n hx hb dL_arePairsSo_8 rfl (lv_at hl 2 rfl) ?_
  refine lv_iload_n hx hb dL_arePairsSo_9 rfl (lv_at hl 3 rfl) ?_
  refine kSW (k := 1) (As := [.ref h, .int (nI u), .int (nI v)]) (rest := []) ⟨hx, hb, hml, hown, hts⟩ (w_truss_none l hfl D cy h a0 a1 a2 N tr _ u v hN hu hv) (vx_cwSW 3 hts gL_arePairsSo_L_truss rfl rfl rfl (by decide +kernel) ⟨Nat.le_of_ble_eq_true rfl, Nat.le_of_ble_eq_true rfl⟩) hK hP (fun U hU hW => hT.move hW ⟨Nat.le_trans hS.1 (Nat.le_of_eq (by rw [hU])), fun q h => Eq.trans (by rw [hU]) (hS.2.1 q h (fun z => z))⟩) rfl hl rfl (Nat.le_of_ble_eq_true rfl) dL_arePairsSo_10 ⟨Nat.le_of_ble_eq_true rfl, Nat.le_of_ble_eq_true rfl⟩ hS (fun H2 locs hk9 hz9 hS => ?_)
  have hP := zkeep hP hk9
  have hz : s.heap.size + 2 ≤ H2.size := by omega
  refine lv_istore (lv' := [(4, .int (-1)), (3, .int (-1)), (0, .ref h), (1, .int (nI u)), (2, .int (nI v))]) hx hb dL_arePairsSo_13 hl (by decide) rfl (fun ls hl => ?_)
  refine lv_aload_n hx hb dL_arePairsSo_15 rfl (lv_at hl 2 rfl) ?_
  refine lv_iload_n hx hb dL_arePairsSo_16 rfl (lv_at hl 4 rfl) ?_
  refine lv_iload_n hx hb dL_arePairsSo_17 rfl (lv_at hl 3 rfl) ?_
  refine kSW (k := 1) (As := [.ref h, .int (nI v), .int (nI u)]) (rest := []) ⟨hx, hb, hml, hown, hts⟩ (w_together_none l hfl D cy h a0 a1 a2 N tr _ v u hN hv hu (Ne.symm huv)) (vx_cwSW 3 hts gL_arePairsSo_L_together rfl rfl rfl (by decide +kernel) ⟨Nat.le_of_ble_eq_true rfl, Nat.le_of_ble_eq_true rfl⟩) hK hP (fun U hU hW => hT.move hW ⟨Nat.le_trans hS.1 (Nat.le_of_eq (by rw [hU])), fun q h => Eq.trans (by rw [hU]) (hS.2.1 q h (fun z => z))⟩) rfl hl rfl (Nat.le_of_ble_eq_true rfl) dL_arePairsSo_18 ⟨Nat.le_of_ble_eq_true rfl, Nat.le_of_ble_eq_true rfl⟩ hS (fun H3 locs hk9 hz9 hS => ?_)
  have hP := zkeep hP hk9
  have hz : s.heap.size + 3 ≤ H3.size := by omega
  refine lv_iload_n hx hb dL_arePairsSo_21 rfl (lv_at hl 1 rfl) ?_
  refine k_icmp_ne_f (tgt := 78) hx hb dL_arePairsSo_22 (by decide) (by decide +kernel) ?_
  refine lv_iload_n hx hb dL_arePairsSo_25 rfl (lv_at hl 1 rfl) ?_
  refine lv_aload_n hx hb dL_arePairsSo_26 rfl (lv_at hl 2 rfl) ?_
  refine lv_iload_n hx hb dL_arePairsSo_27 rfl (lv_at hl 3 rfl) ?_
  refine zrV (As := [.int (nI u)]) (rest := [.int (-1)]) 0 ⟨hx, hb, hml, hown, hts⟩ (c_X0_core_ok l D cy h a0 a1 a2 N (nI 0) (nI 0) zf zf tr u z0 hN hu (zcs _)) (cwV 1 hts gL_arePairsSo_X0_core rfl rfl rfl (by decide +kernel) ⟨Nat.le_of_ble_eq_true rfl, Nat.le_of_ble_eq_true rfl⟩) hK hP rfl rfl rfl hl rfl (Nat.le_of_ble_eq_true rfl) dL_arePairsSo_28 ⟨Nat.le_of_ble_eq_true rfl, Nat.le_of_ble_eq_true rfl⟩ hS (fun r9 H4 locs hw9 hk9 hS => ?_)
  obtain rfl : r9 = (nI 0) := hw9
  have hP := zkeep hP hk9
  have hz : s.heap.size + 3 ≤ H4.size := Nat.le_trans hz hk9.1
  refine k_icmp_gt_f (tgt := 78) hx hb dL_arePairsSo_31 (by decide) (by decide +kernel) ?_
  refine lv_iload_n hx hb dL_arePairsSo_34 rfl (lv_at hl 1 rfl) ?_
  refine lv_aload_n hx hb dL_arePairsSo_35 rfl (lv_at hl 2 rfl) ?_
  refine lv_iload_n hx hb dL_arePairsSo_36 rfl (lv_at hl 4 rfl) ?_
  refine zrV (As := [.int (nI v)]) (rest := [.int (-1)]) 0 ⟨hx, hb, hml, hown, hts⟩ (c_X0_core_ok l D cy h a0 a1 a2 N (nI 0) (nI 0) zf zf tr v z0 hN hv (zcs _)) (cwV 1 hts gL_arePairsSo_X0_core rfl rfl rfl (by decide +kernel) ⟨Nat.le_of_ble_eq_true rfl, Nat.le_of_ble_eq_true rfl⟩) hK hP rfl rfl rfl hl rfl (Nat.le_of_ble_eq_true rfl) dL_arePairsSo_37 ⟨Nat.le_of_ble_eq_true rfl, Nat.le_of_ble_eq_true rfl⟩ hS (fun r9 H5 locs hw9 hk9 hS => ?_)
  obtain rfl : r9 = (nI 0) := hw9
  have hP := zkeep hP hk9
  have hz : s.heap.size + 3 ≤ H5.size := Nat.le_trans hz hk9.1
  refine k_icmp_gt_f (tgt := 78) hx hb dL_arePairsSo_40 (by decide) (by decide +kernel) ?_
  refine lv_aload_n hx hb dL_arePairsSo_43 rfl (lv_at hl 2 rfl) ?_
  refine lv_iload_n hx hb dL_arePairsSo_44 rfl (lv_at hl 4 rfl) ?_
  refine lv_iload_n hx hb dL_arePairsSo_45 rfl (lv_at hl 3 rfl) ?_
  refine kSW (k := 1) (As := [.ref h, .int (nI v), .int (nI u)]) (rest := []) ⟨hx, hb, hml, hown, hts⟩ (w_truss_none l hfl D cy h a0 a1 a2 N tr _ v u hN hv hu) (vx_cwSW 3 hts gL_arePairsSo_L_truss rfl rfl rfl (by decide +kernel) ⟨Nat.le_of_ble_eq_true rfl, Nat.le_of_ble_eq_true rfl⟩) hK hP (fun U hU hW => hT.move hW ⟨Nat.le_trans hS.1 (Nat.le_of_eq (by rw [hU])), fun q h => Eq.trans (by rw [hU]) (hS.2.1 q h (fun z => z))⟩) rfl hl rfl (Nat.le_of_ble_eq_true rfl) dL_arePairsSo_46 ⟨Nat.le_of_ble_eq_true rfl, Nat.le_of_ble_eq_true rfl⟩ hS (fun H6 locs hk9 hz9 hS => ?_)
  have hP := zkeep hP hk9
  have hz : s.heap.size + 4 ≤ H6.size := by omega
  refine lv_iload hx hb dL_arePairsSo_49 (lv_at hl 0 rfl) ?_
  refine k_icmp_ne_f (tgt := 78) hx hb dL_arePairsSo_51 (by decide) (by decide +kernel) ?_
  refine lv_iload hx hb dL_arePairsSo_54 (lv_at hl 0 rfl) ?_
  refine lv_iconst (v := (nI 2)) hx hb dL_arePairsSo_56 (by decide) ?_
  refine k_icmp_lt_t (tgt := 64) hx hb dL_arePairsSo_57 (by decide) (by decide +kernel) ?_
  refine lv_iconst (v := (nI 0)) hx hb dL_arePairsSo_64 (by decide) ?_
  refine lv_aload_n hx hb dL_arePairsSo_65 rfl (lv_at hl 2 rfl) ?_
  refine lv_iload_n hx hb dL_arePairsSo_66 rfl (lv_at hl 3 rfl) ?_
  refine lv_iload_n hx hb dL_arePairsSo_67 rfl (lv_at hl 4 rfl) ?_
  refine zrV (As := [.int (nI u), .int (nI v)]) (rest := [.int (nI 0)]) 0 ⟨hx, hb, hml, hown, hts⟩ (c_X0_areJoined_ok l D cy h a0 a1 a2 N (nI 0) (nI 0) zf zf tr u v hN hu hv) (cwV 2 hts gL_arePairsSo_X0_areJoined rfl rfl rfl (by decide +kernel) ⟨Nat.le_of_ble_eq_true rfl, Nat.le_of_ble_eq_true rfl⟩) hK hP rfl rfl rfl hl rfl (Nat.le_of_ble_eq_true rfl) dL_arePairsSo_68 ⟨Nat.le_of_ble_eq_true rfl, Nat.le_of_ble_eq_true rfl⟩ hS (fun r9 H7 locs hw9 hk9 hS => ?_)
  obtain rfl : r9 = (zb false) := hw9.trans (congrArg zb (zf_b u v))
  have hP := zkeep hP hk9
  have hz : s.heap.size + 4 ≤ H7.size := Nat.le_trans hz hk9.1
  refine k_icmp_ne_f (tgt := 78) hx hb dL_arePairsSo_71 (by decide) (by decide +kernel) ?_
  refine lv_iconst (v := (nI 1)) hx hb dL_arePairsSo_74 (by decide) ?_
  refine lv_goto (tgt := 79) hx hb dL_arePairsSo_75 (by decide) ?_
  refine lv_istore (lv' := [(5, .int (nI 1)), (4, .int (-1)), (3, .int (-1)), (0, .ref h), (1, .int (nI u)), (2, .int (nI v))]) hx hb dL_arePairsSo_79 hl (by decide) rfl (fun ls hl => ?_)
  refine lv_iload hx hb dL_arePairsSo_81 (lv_at hl 0 rfl) ?_
  refine k_if_eq_f (tgt := 188) hx hb dL_arePairsSo_83 (by decide) (by decide +kernel) ?_
  refine lv_iload hx hb dL_arePairsSo_86 (lv_at hl 1 rfl) ?_
  refine lv_iconst (v := (nI 2)) hx hb dL_arePairsSo_88 (by decide) ?_
  refine k_icmp_lt_t (tgt := 188) hx hb dL_arePairsSo_89 (by decide) (by decide +kernel) ?_
  refine lv_iload hx hb dL_arePairsSo_188 (lv_at hl 0 rfl) ?_
  refine W.widen (k := 4) (n := 24) (Nat.le_of_ble_eq_true rfl) (Nat.le_of_ble_eq_true rfl) ?_
  refine vx_ret ?_
  exact W.zret (v := (nI 1)) (ty := .boolean) hx hb hr rfl (fun t9 ht9 hW9 => ⟨⟨(nI 1), (), rfl, rfl, by show s.heap.size + 4 ≤ t9.heap.size; rw [ht9]; exact hz⟩, hS.F ht9⟩) hS.2.2 dL_arePairsSo_190

set_option maxHeartbeats 4000000 in
set_option maxRecDepth 100000 in
theorem w_areAlike_1 (l : Launch) (hfl : l.stackTraces = false) (D : va_G) (cy : ClassId) (h a0 a1 a2 : Nat) (h2 b0 b1 b2 : Nat) (tr tr2 : Nat → Int32) (sz : Nat)  : vx_Met l yL_areAlike wsL_areAlike ({ frames := 8, cells := 0, slots := 0, locals := 124 } : Room) (va_Pc [.ref h, .ref h2] (kRd D (wZ h a0 a1 a2 cy 1 tr ++ wZ h2 b0 b1 b2 cy 1 tr2) [(cy, .int)] sz)) (kPo (nI 1) sz 0) zXn 0 0 zNo := by
  refine vx_ofW (cc := cL_areAlike) (maxL := 4) (ret := (some .boolean)) (by decide) rfl ?_
  intro p e s m args below meth c s₁ B hml hto hv
  obtain ⟨rfl, ⟨⟨hP, hK⟩, hsz⟩, hT⟩ := hv
  have hx := B.exec
  have hb := B.bytes
  have hr := B.returns
  have hts := atoms_spec (ws := wsL_areAlike) B.pre
  have hown : s.vm.findClass RL = some m.cls := findClass_of_methodNamed B.named
  have hlocks := B.notSynchronized
  subst hsz
  have hS : va_S (fun _ => False) s.heap s.heap [] := va_S.rf
  have hl := lv_entry ([.ref h, .ref h2]) (n := 4) (Nat.le_of_ble_eq_true rfl)
  rw [lg_entry_eq]
  generalize (lg_sl ([.ref h, .ref h2]) ++ List.replicate (4 - (lg_sl ([.ref h, .ref h2])).length) Slot.unset).toArray = ls at hl ⊢
  have hl : lv_has ls 4 [(0, .ref h), (1, .ref h2)] := hl
  have hz : s.heap.size + 0 ≤ s.heap.size := Nat.le_refl _
  refine lv_aload_n hx hb dL_areAlike_0 rfl (lv_at hl 0 rfl) ?_
  have hPo := hP.sub (ws' := wZ h a0 a1 a2 cy 1 tr) [0, 1, 2, 3] rfl
  refine zrV (As := []) (rest := []) 0 ⟨hx, hb, hml, hown, hts⟩ (c_X0_nodes l D cy h a0 a1 a2 1 (nI 0) (nI 0) zf zf tr) (cwV 0 hts gL_areAlike_X0_nodes rfl rfl rfl (by decide +kernel) ⟨Nat.le_of_ble_eq_true rfl, Nat.le_of_ble_eq_true rfl⟩) hK hPo rfl rfl rfl hl rfl (Nat.le_of_ble_eq_true rfl) dL_areAlike_1 ⟨Nat.le_of_ble_eq_true rfl, Nat.le_of_ble_eq_true rfl⟩ hS (fun r9 H1 locs hw9 hk9 hS => ?_)
  obtain rfl : r9 = (nI 1) := hw9
  have hP := zkeep hP hk9
  have hz : s.heap.size + 0 ≤ H1.size := Nat.le_trans hz hk9.1
  refine lv_aload_n hx hb dL_areAlike_4 rfl (lv_at hl 1 rfl) ?_
  have hPo := hP.sub (ws' := wZ h2 b0 b1 b2 cy 1 tr2) [4, 5, 6, 7] rfl
  refine zrV (As := []) (rest := [.int (nI 1)]) 0 ⟨hx, hb, hml, hown, hts⟩ (c_X0_nodes l D cy h2 b0 b1 b2 1 (nI 0) (nI 0) zf zf tr2) (cwV 0 hts gL_areAlike_X0_nodes rfl rfl rfl (by decide +kernel) ⟨Nat.le_of_ble_eq_true rfl, Nat.le_of_ble_eq_true rfl⟩) hK hPo rfl rfl rfl hl rfl (Nat.le_of_ble_eq_true rfl) dL_areAlike_5 ⟨Nat.le_of_ble_eq_true rfl, Nat.le_of_ble_eq_true rfl⟩ hS (fun r9 H2 locs hw9 hk9 hS => ?_)
  obtain rfl : r9 = (nI 1) := hw9
  have hP := zkeep hP hk9
  have hz : s.heap.size + 0 ≤ H2.size := Nat.le_trans hz hk9.1
  refine k_icmp_ne_f (tgt := 59) hx hb dL_areAlike_8 (by decide) (by decide +kernel) ?_
  refine lv_aload_n hx hb dL_areAlike_11 rfl (lv_at hl 0 rfl) ?_
  have hPo := hP.sub (ws' := wZ h a0 a1 a2 cy 1 tr) [0, 1, 2, 3] rfl
  refine zrV (As := []) (rest := []) 0 ⟨hx, hb, hml, hown, hts⟩ (c_X0_edges l D cy h a0 a1 a2 1 (nI 0) (nI 0) zf zf tr) (cwV 0 hts gL_areAlike_X0_edges rfl rfl rfl (by decide +kernel) ⟨Nat.le_of_ble_eq_true rfl, Nat.le_of_ble_eq_true rfl⟩) hK hPo rfl rfl rfl hl rfl (Nat.le_of_ble_eq_true rfl) dL_areAlike_12 ⟨Nat.le_of_ble_eq_true rfl, Nat.le_of_ble_eq_true rfl⟩ hS (fun r9 H3 locs hw9 hk9 hS => ?_)
  obtain rfl : r9 = (nI 0) := hw9
  have hP := zkeep hP hk9
  have hz : s.heap.size + 0 ≤ H3.size := Nat.le_trans hz hk9.1
  refine lv_aload_n hx hb dL_areAlike_15 rfl (lv_at hl 1 rfl) ?_
  have hPo := hP.sub (ws' := wZ h2 b0 b1 b2 cy 1 tr2) [4, 5, 6, 7] rfl
  refine zrV (As := []) (rest := [.int (nI 0)]) 0 ⟨hx, hb, hml, hown, hts⟩ (c_X0_edges l D cy h2 b0 b1 b2 1 (nI 0) (nI 0) zf zf tr2) (cwV 0 hts gL_areAlike_X0_edges rfl rfl rfl (by decide +kernel) ⟨Nat.le_of_ble_eq_true rfl, Nat.le_of_ble_eq_true rfl⟩) hK hPo rfl rfl rfl hl rfl (Nat.le_of_ble_eq_true rfl) dL_areAlike_16 ⟨Nat.le_of_ble_eq_true rfl, Nat.le_of_ble_eq_true rfl⟩ hS (fun r9 H4 locs hw9 hk9 hS => ?_)
  obtain rfl : r9 = (nI 0) := hw9
  have hP := zkeep hP hk9
  have hz : s.heap.size + 0 ≤ H4.size := Nat.le_trans hz hk9.1
  refine k_icmp_ne_f (tgt := 59) hx hb dL_areAlike_19 (by decide) (by decide +kernel) ?_
  refine lv_aload_n hx hb dL_areAlike_22 rfl (lv_at hl 0 rfl) ?_
  have hPo := hP.sub (ws' := wZ h a0 a1 a2 cy 1 tr) [0, 1, 2, 3] rfl
  refine zrV (As := []) (rest := []) 0 ⟨hx, hb, hml, hown, hts⟩ (c_X0_changes l D cy h a0 a1 a2 1 (nI 0) (nI 0) zf zf tr) (cwV 0 hts gL_areAlike_X0_changes rfl rfl rfl (by decide +kernel) ⟨Nat.le_of_ble_eq_true rfl, Nat.le_of_ble_eq_true rfl⟩) hK hPo rfl rfl rfl hl rfl (Nat.le_of_ble_eq_true rfl) dL_areAlike_23 ⟨Nat.le_of_ble_eq_true rfl, Nat.le_of_ble_eq_true rfl⟩ hS (fun r9 H5 locs hw9 hk9 hS => ?_)
  obtain rfl : r9 = (nI 0) := hw9
  have hP := zkeep hP hk9
  have hz : s.heap.size + 0 ≤ H5.size := Nat.le_trans hz hk9.1
  refine lv_aload_n hx hb dL_areAlike_26 rfl (lv_at hl 1 rfl) ?_
  have hPo := hP.sub (ws' := wZ h2 b0 b1 b2 cy 1 tr2) [4, 5, 6, 7] rfl
  refine zrV (As := []) (rest := [.int (nI 0)]) 0 ⟨hx, hb, hml, hown, hts⟩ (c_X0_changes l D cy h2 b0 b1 b2 1 (nI 0) (nI 0) zf zf tr2) (cwV 0 hts gL_areAlike_X0_changes rfl rfl rfl (by decide +kernel) ⟨Nat.le_of_ble_eq_true rfl, Nat.le_of_ble_eq_true rfl⟩) hK hPo rfl rfl rfl hl rfl (Nat.le_of_ble_eq_true rfl) dL_areAlike_27 ⟨Nat.le_of_ble_eq_true rfl, Nat.le_of_ble_eq_true rfl⟩ hS (fun r9 H6 locs hw9 hk9 hS => ?_)
  obtain rfl : r9 = (nI 0) := hw9
  have hP := zkeep hP hk9
  have hz : s.heap.size + 0 ≤ H6.size := Nat.le_trans hz hk9.1
  refine k_icmp_ne_f (tgt := 59) hx hb dL_areAlike_30 (by decide) (by decide +kernel) ?_
  refine lv_aload_n hx hb dL_areAlike_33 rfl (lv_at hl 0 rfl) ?_
  have hPo := hP.sub (ws' := wZ h a0 a1 a2 cy 1 tr) [0, 1, 2, 3] rfl
  refine zrV (As := []) (rest := []) 0 ⟨hx, hb, hml, hown, hts⟩ (c_X0_degeneracy l D cy h a0 a1 a2 1 (nI 0) (nI 0) zf zf tr z0 (by decide) (zcs _)) (cwV 0 hts gL_areAlike_X0_degeneracy rfl rfl rfl (by decide +kernel) ⟨Nat.le_of_ble_eq_true rfl, Nat.le_of_ble_eq_true rfl⟩) hK hPo rfl rfl rfl hl rfl (Nat.le_of_ble_eq_true rfl) dL_areAlike_34 ⟨Nat.le_of_ble_eq_true rfl, Nat.le_of_ble_eq_true rfl⟩ hS (fun r9 H7 locs hw9 hk9 hS => ?_)
  obtain rfl : r9 = (nI 0) := by obtain ⟨d, h1, -, h2⟩ := hw9; rw [h1, zdeg0 h2]
  have hP := zkeep hP hk9
  have hz : s.heap.size + 0 ≤ H7.size := Nat.le_trans hz hk9.1
  refine lv_aload_n hx hb dL_areAlike_37 rfl (lv_at hl 1 rfl) ?_
  have hPo := hP.sub (ws' := wZ h2 b0 b1 b2 cy 1 tr2) [4, 5, 6, 7] rfl
  refine zrV (As := []) (rest := [.int (nI 0)]) 0 ⟨hx, hb, hml, hown, hts⟩ (c_X0_degeneracy l D cy h2 b0 b1 b2 1 (nI 0) (nI 0) zf zf tr2 z0 (by decide) (zcs _)) (cwV 0 hts gL_areAlike_X0_degeneracy rfl rfl rfl (by decide +kernel) ⟨Nat.le_of_ble_eq_true rfl, Nat.le_of_ble_eq_true rfl⟩) hK hPo rfl rfl rfl hl rfl (Nat.le_of_ble_eq_true rfl) dL_areAlike_38 ⟨Nat.le_of_ble_eq_true rfl, Nat.le_of_ble_eq_true rfl⟩ hS (fun r9 H8 locs hw9 hk9 hS => ?_)
  obtain rfl : r9 = (nI 0) := by obtain ⟨d, h1, -, h2⟩ := hw9; rw [h1, zdeg0 h2]
  have hP := zkeep hP hk9
  have hz : s.heap.size + 0 ≤ H8.size := Nat.le_trans hz hk9.1
  refine k_icmp_ne_f (tgt := 59) hx hb dL_areAlike_41 (by decide) (by decide +kernel) ?_
  refine lv_aload_n hx hb dL_areAlike_44 rfl (lv_at hl 0 rfl) ?_
  have hPo := hP.sub (ws' := wZ h a0 a1 a2 cy 1 tr) [0, 1, 2, 3] rfl
  refine zrV (As := []) (rest := []) 0 ⟨hx, hb, hml, hown, hts⟩ (c_X0_triangles l D cy h a0 a1 a2 1 (nI 0) (nI 0) zf zf tr (by decide)) (cwV 0 hts gL_areAlike_X0_triangles rfl rfl rfl (by decide +kernel) ⟨Nat.le_of_ble_eq_true rfl, Nat.le_of_ble_eq_true rfl⟩) hK hPo rfl rfl rfl hl rfl (Nat.le_of_ble_eq_true rfl) dL_areAlike_45 ⟨Nat.le_of_ble_eq_true rfl, Nat.le_of_ble_eq_true rfl⟩ hS (fun r9 H9 locs hw9 hk9 hS => ?_)
  obtain rfl : r9 = (nI 0) := hw9.trans (congrArg nI ztri1)
  have hP := zkeep hP hk9
  have hz : s.heap.size + 0 ≤ H9.size := Nat.le_trans hz hk9.1
  refine lv_aload_n hx hb dL_areAlike_48 rfl (lv_at hl 1 rfl) ?_
  have hPo := hP.sub (ws' := wZ h2 b0 b1 b2 cy 1 tr2) [4, 5, 6, 7] rfl
  refine zrV (As := []) (rest := [.int (nI 0)]) 0 ⟨hx, hb, hml, hown, hts⟩ (c_X0_triangles l D cy h2 b0 b1 b2 1 (nI 0) (nI 0) zf zf tr2 (by decide)) (cwV 0 hts gL_areAlike_X0_triangles rfl rfl rfl (by decide +kernel) ⟨Nat.le_of_ble_eq_true rfl, Nat.le_of_ble_eq_true rfl⟩) hK hPo rfl rfl rfl hl rfl (Nat.le_of_ble_eq_true rfl) dL_areAlike_49 ⟨Nat.le_of_ble_eq_true rfl, Nat.le_of_ble_eq_true rfl⟩ hS (fun r9 H10 locs hw9 hk9 hS => ?_)
  obtain rfl : r9 = (nI 0) := hw9.trans (congrArg nI ztri1)
  have hP := zkeep hP hk9
  have hz : s.heap.size + 0 ≤ H10.size := Nat.le_trans hz hk9.1
  refine k_icmp_ne_f (tgt := 59) hx hb dL_areAlike_52 (by decide) (by decide +kernel) ?_
  refine lv_iconst (v := (nI 1)) hx hb dL_areAlike_55 (by decide) ?_
  refine lv_goto (tgt := 60) hx hb dL_areAlike_56 (by decide) ?_
  refine lv_istore_n (lv' := [(2, .int (nI 1)), (0, .ref h), (1, .ref h2)]) hx hb dL_areAlike_60 rfl hl (by decide) rfl (fun ls hl => ?_)
  refine lv_iconst (v := (nI 0)) hx hb dL_areAlike_61 (by decide) ?_
  refine lv_istore_n (lv' := [(3, .int (nI 0)), (2, .int (nI 1)), (0, .ref h), (1, .ref h2)]) hx hb dL_areAlike_62 rfl hl (by decide) rfl (fun ls hl => ?_)
  refine lv_iload_n hx hb dL_areAlike_63 rfl (lv_at hl 0 rfl) ?_
  refine lv_aload_n hx hb dL_areAlike_64 rfl (lv_at hl 2 rfl) ?_
  have hPo := hP.sub (ws' := wZ h a0 a1 a2 cy 1 tr) [0, 1, 2, 3] rfl
  refine zrV (As := []) (rest := [.int (nI 0)]) 0 ⟨hx, hb, hml, hown, hts⟩ (c_X0_nodes l D cy h a0 a1 a2 1 (nI 0) (nI 0) zf zf tr) (cwV 0 hts gL_areAlike_X0_nodes rfl rfl rfl (by decide +kernel) ⟨Nat.le_of_ble_eq_true rfl, Nat.le_of_ble_eq_true rfl⟩) hK hPo rfl rfl rfl hl rfl (Nat.le_of_ble_eq_true rfl) dL_areAlike_65 ⟨Nat.le_of_ble_eq_true rfl, Nat.le_of_ble_eq_true rfl⟩ hS (fun r9 H11 locs hw9 hk9 hS => ?_)
  obtain rfl : r9 = (nI 1) := hw9
  have hP := zkeep hP hk9
  have hz : s.heap.size + 0 ≤ H11.size := Nat.le_trans hz hk9.1
  refine k_icmp_ge_f (tgt := 113) hx hb dL_areAlike_68 (by decide) (by decide +kernel) ?_
  refine lv_iload_n hx hb dL_areAlike_71 rfl (lv_at hl 1 rfl) ?_
  refine k_if_eq_f (tgt := 113) hx hb dL_areAlike_72 (by decide) (by decide +kernel) ?_
  refine lv_aload_n hx hb dL_areAlike_75 rfl (lv_at hl 2 rfl) ?_
  refine lv_iload_n hx hb dL_areAlike_76 rfl (lv_at hl 0 rfl) ?_
  have hPo := hP.sub (ws' := wZ h a0 a1 a2 cy 1 tr) [0, 1, 2, 3] rfl
  refine zrV (As := [.int (nI 0)]) (rest := []) 0 ⟨hx, hb, hml, hown, hts⟩ (c_X0_core_ok l D cy h a0 a1 a2 1 (nI 0) (nI 0) zf zf tr 0 z0 (by decide) (by decide) (zcs _)) (cwV 1 hts gL_areAlike_X0_core rfl rfl rfl (by decide +kernel) ⟨Nat.le_of_ble_eq_true rfl, Nat.le_of_ble_eq_true rfl⟩) hK hPo rfl rfl rfl hl rfl (Nat.le_of_ble_eq_true rfl) dL_areAlike_77 ⟨Nat.le_of_ble_eq_true rfl, Nat.le_of_ble_eq_true rfl⟩ hS (fun r9 H12 locs hw9 hk9 hS => ?_)
  obtain rfl : r9 = (nI 0) := hw9
  have hP := zkeep hP hk9
  have hz : s.heap.size + 0 ≤ H12.size := Nat.le_trans hz hk9.1
  refine lv_aload_n hx hb dL_areAlike_80 rfl (lv_at hl 3 rfl) ?_
  refine lv_iload_n hx hb dL_areAlike_81 rfl (lv_at hl 0 rfl) ?_
  have hPo := hP.sub (ws' := wZ h2 b0 b1 b2 cy 1 tr2) [4, 5, 6, 7] rfl
  refine zrV (As := [.int (nI 0)]) (rest := [.int (nI 0)]) 0 ⟨hx, hb, hml, hown, hts⟩ (c_X0_core_ok l D cy h2 b0 b1 b2 1 (nI 0) (nI 0) zf zf tr2 0 z0 (by decide) (by decide) (zcs _)) (cwV 1 hts gL_areAlike_X0_core rfl rfl rfl (by decide +kernel) ⟨Nat.le_of_ble_eq_true rfl, Nat.le_of_ble_eq_true rfl⟩) hK hPo rfl rfl rfl hl rfl (Nat.le_of_ble_eq_true rfl) dL_areAlike_82 ⟨Nat.le_of_ble_eq_true rfl, Nat.le_of_ble_eq_true rfl⟩ hS (fun r9 H13 locs hw9 hk9 hS => ?_)
  obtain rfl : r9 = (nI 0) := hw9
  have hP := zkeep hP hk9
  have hz : s.heap.size + 0 ≤ H13.size := Nat.le_trans hz hk9.1
  refine k_icmp_ne_f (tgt := 105) hx hb dL_areAlike_85 (by decide) (by decide +kernel) ?_
  refine lv_aload_n hx hb dL_areAlike_88 rfl (lv_at hl 2 rfl) ?_
  refine lv_iload_n hx hb dL_areAlike_89 rfl (lv_at hl 0 rfl) ?_
  have hPo := hP.sub (ws' := wZ h a0 a1 a2 cy 1 tr) [0, 1, 2, 3] rfl
  refine zrV (As := [.int (nI 0)]) (rest := []) 0 ⟨hx, hb, hml, hown, hts⟩ (c_X0_degree_ok l D cy h a0 a1 a2 1 (nI 0) (nI 0) zf zf tr 0 (by decide) (by decide)) (cwV 1 hts gL_areAlike_X0_degree rfl rfl rfl (by decide +kernel) ⟨Nat.le_of_ble_eq_true rfl, Nat.le_of_ble_eq_true rfl⟩) hK hPo rfl rfl rfl hl rfl (Nat.le_of_ble_eq_true rfl) dL_areAlike_90 ⟨Nat.le_of_ble_eq_true rfl, Nat.le_of_ble_eq_true rfl⟩ hS (fun r9 H14 locs hw9 hk9 hS => ?_)
  obtain rfl : r9 = (nI 0) := hw9.trans (congrArg nI (zrow 0))
  have hP := zkeep hP hk9
  have hz : s.heap.size + 0 ≤ H14.size := Nat.le_trans hz hk9.1
  refine lv_aload_n hx hb dL_areAlike_93 rfl (lv_at hl 3 rfl) ?_
  refine lv_iload_n hx hb dL_areAlike_94 rfl (lv_at hl 0 rfl) ?_
  have hPo := hP.sub (ws' := wZ h2 b0 b1 b2 cy 1 tr2) [4, 5, 6, 7] rfl
  refine zrV (As := [.int (nI 0)]) (rest := [.int (nI 0)]) 0 ⟨hx, hb, hml, hown, hts⟩ (c_X0_degree_ok l D cy h2 b0 b1 b2 1 (nI 0) (nI 0) zf zf tr2 0 (by decide) (by decide)) (cwV 1 hts gL_areAlike_X0_degree rfl rfl rfl (by decide +kernel) ⟨Nat.le_of_ble_eq_true rfl, Nat.le_of_ble_eq_true rfl⟩) hK hPo rfl rfl rfl hl rfl (Nat.le_of_ble_eq_true rfl) dL_areAlike_95 ⟨Nat.le_of_ble_eq_true rfl, Nat.le_of_ble_eq_true rfl⟩ hS (fun r9 H15 locs hw9 hk9 hS => ?_)
  obtain rfl : r9 = (nI 0) := hw9.trans (congrArg nI (zrow 0))
  have hP := zkeep hP hk9
  have hz : s.heap.size + 0 ≤ H15.size := Nat.le_trans hz hk9.1
  refine k_icmp_ne_f (tgt := 105) hx hb dL_areAlike_98 (by decide) (by decide +kernel) ?_
  refine lv_iconst (v := (nI 1)) hx hb dL_areAlike_101 (by decide) ?_
  refine lv_goto (tgt := 106) hx hb dL_areAlike_102 (by decide) ?_
  refine lv_istore_n (lv' := [(2, .int (nI 1)), (3, .int (nI 0)), (0, .ref h), (1, .ref h2)]) hx hb dL_areAlike_106 rfl hl (by decide) rfl (fun ls hl => ?_)
  refine lv_iinc (v := (nI 1)) (lv' := [(3, .int (nI 1)), (2, .int (nI 1)), (0, .ref h), (1, .ref h2)]) hx hb dL_areAlike_107 hl (k := 1) rfl (by decide +kernel) (by decide) rfl (fun ls hl => ?_)
  refine lv_goto (tgt := 63) hx hb dL_areAlike_110 (by decide) ?_
  refine lv_iload_n hx hb dL_areAlike_63 rfl (lv_at hl 0 rfl) ?_
  refine lv_aload_n hx hb dL_areAlike_64 rfl (lv_at hl 2 rfl) ?_
  have hPo := hP.sub (ws' := wZ h a0 a1 a2 cy 1 tr) [0, 1, 2, 3] rfl
  refine zrV (As := []) (rest := [.int (nI 1)]) 0 ⟨hx, hb, hml, hown, hts⟩ (c_X0_nodes l D cy h a0 a1 a2 1 (nI 0) (nI 0) zf zf tr) (cwV 0 hts gL_areAlike_X0_nodes rfl rfl rfl (by decide +kernel) ⟨Nat.le_of_ble_eq_true rfl, Nat.le_of_ble_eq_true rfl⟩) hK hPo rfl rfl rfl hl rfl (Nat.le_of_ble_eq_true rfl) dL_areAlike_65 ⟨Nat.le_of_ble_eq_true rfl, Nat.le_of_ble_eq_true rfl⟩ hS (fun r9 H16 locs hw9 hk9 hS => ?_)
  obtain rfl : r9 = (nI 1) := hw9
  have hP := zkeep hP hk9
  have hz : s.heap.size + 0 ≤ H16.size := Nat.le_trans hz hk9.1
  refine k_icmp_ge_t (tgt := 113) hx hb dL_areAlike_68 (by decide) (by decide +kernel) ?_
  refine lv_iload_n hx hb dL_areAlike_113 rfl (lv_at hl 1 rfl) ?_
  refine W.widen (k := 0) (n := 0) (Nat.le_of_ble_eq_true rfl) (Nat.le_of_ble_eq_true rfl) ?_
  refine vx_ret ?_
  exact W.zret (v := (nI 1)) (ty := .boolean) hx hb hr rfl (fun t9 ht9 hW9 => ⟨⟨(nI 1), (), rfl, rfl, by show s.heap.size + 0 ≤ t9.heap.size; rw [ht9]; exact hz⟩, hS.F ht9⟩) hS.2.2 dL_areAlike_114

set_option maxHeartbeats 4000000 in
set_option maxRecDepth 100000 in
theorem w_areAlike_2 (l : Launch) (hfl : l.stackTraces = false) (D : va_G) (cy : ClassId) (h a0 a1 a2 : Nat) (h2 b0 b1 b2 : Nat) (tr tr2 : Nat → Int32) (sz : Nat)  : vx_Met l yL_areAlike wsL_areAlike ({ frames := 8, cells := 0, slots := 0, locals := 124 } : Room) (va_Pc [.ref h, .ref h2] (kRd D (wZ h a0 a1 a2 cy 2 tr ++ wZ h2 b0 b1 b2 cy 2 tr2) [(cy, .int)] sz)) (kPo (nI 1) sz 0) zXn 0 0 zNo := by
  refine vx_ofW (cc := cL_areAlike) (maxL := 4) (ret := (some .boolean)) (by decide) rfl ?_
  intro p e s m args below meth c s₁ B hml hto hv
  obtain ⟨rfl, ⟨⟨hP, hK⟩, hsz⟩, hT⟩ := hv
  have hx := B.exec
  have hb := B.bytes
  have hr := B.returns
  have hts := atoms_spec (ws := wsL_areAlike) B.pre
  have hown : s.vm.findClass RL = some m.cls := findClass_of_methodNamed B.named
  have hlocks := B.notSynchronized
  subst hsz
  have hS : va_S (fun _ => False) s.heap s.heap [] := va_S.rf
  have hl := lv_entry ([.ref h, .ref h2]) (n := 4) (Nat.le_of_ble_eq_true rfl)
  rw [lg_entry_eq]
  generalize (lg_sl ([.ref h, .ref h2]) ++ List.replicate (4 - (lg_sl ([.ref h, .ref h2])).length) Slot.unset).toArray = ls at hl ⊢
  have hl : lv_has ls 4 [(0, .ref h), (1, .ref h2)] := hl
  have hz : s.heap.size + 0 ≤ s.heap.size := Nat.le_refl _
  refine lv_aload_n hx hb dL_areAlike_0 rfl (lv_at hl 0 rfl) ?_
  have hPo := hP.sub (ws' := wZ h a0 a1 a2 cy 2 tr) [0, 1, 2, 3] rfl
  refine zrV (As := []) (rest := []) 0 ⟨hx, hb, hml, hown, hts⟩ (c_X0_nodes l D cy h a0 a1 a2 2 (nI 0) (nI 0) zf zf tr) (cwV 0 hts gL_areAlike_X0_nodes rfl rfl rfl (by decide +kernel) ⟨Nat.le_of_ble_eq_true rfl, Nat.le_of_ble_eq_true rfl⟩) hK hPo rfl rfl rfl hl rfl (Nat.le_of_ble_eq_true rfl) dL_areAlike_1 ⟨Nat.le_of_ble_eq_true rfl, Nat.le_of_ble_eq_true rfl⟩ hS (fun r9 H1 locs hw9 hk9 hS => ?_)
  obtain rfl : r9 = (nI 2) := hw9
  have hP := zkeep hP hk9
  have hz : s.heap.size + 0 ≤ H1.size := Nat.le_trans hz hk9.1
  refine lv_aload_n hx hb dL_areAlike_4 rfl (lv_at hl 1 rfl) ?_
  have hPo := hP.sub (ws' := wZ h2 b0 b1 b2 cy 2 tr2) [4, 5, 6, 7] rfl
  refine zrV (As := []) (rest := [.int (nI 2)]) 0 ⟨hx, hb, hml, hown, hts⟩ (c_X0_nodes l D cy h2 b0 b1 b2 2 (nI 0) (nI 0) zf zf tr2) (cwV 0 hts gL_areAlike_X0_nodes rfl rfl rfl (by decide +kernel) ⟨Nat.le_of_ble_eq_true rfl, Nat.le_of_ble_eq_true rfl⟩) hK hPo rfl rfl rfl hl rfl (Nat.le_of_ble_eq_true rfl) dL_areAlike_5 ⟨Nat.le_of_ble_eq_true rfl, Nat.le_of_ble_eq_true rfl⟩ hS (fun r9 H2 locs hw9 hk9 hS => ?_)
  obtain rfl : r9 = (nI 2) := hw9
  have hP := zkeep hP hk9
  have hz : s.heap.size + 0 ≤ H2.size := Nat.le_trans hz hk9.1
  refine k_icmp_ne_f (tgt := 59) hx hb dL_areAlike_8 (by decide) (by decide +kernel) ?_
  refine lv_aload_n hx hb dL_areAlike_11 rfl (lv_at hl 0 rfl) ?_
  have hPo := hP.sub (ws' := wZ h a0 a1 a2 cy 2 tr) [0, 1, 2, 3] rfl
  refine zrV (As := []) (rest := []) 0 ⟨hx, hb, hml, hown, hts⟩ (c_X0_edges l D cy h a0 a1 a2 2 (nI 0) (nI 0) zf zf tr) (cwV 0 hts gL_areAlike_X0_edges rfl rfl rfl (by decide +kernel) ⟨Nat.le_of_ble_eq_true rfl, Nat.le_of_ble_eq_true rfl⟩) hK hPo rfl rfl rfl hl rfl (Nat.le_of_ble_eq_true rfl) dL_areAlike_12 ⟨Nat.le_of_ble_eq_true rfl, Nat.le_of_ble_eq_true rfl⟩ hS (fun r9 H3 locs hw9 hk9 hS => ?_)
  obtain rfl : r9 = (nI 0) := hw9
  have hP := zkeep hP hk9
  have hz : s.heap.size + 0 ≤ H3.size := Nat.le_trans hz hk9.1
  refine lv_aload_n hx hb dL_areAlike_15 rfl (lv_at hl 1 rfl) ?_
  have hPo := hP.sub (ws' := wZ h2 b0 b1 b2 cy 2 tr2) [4, 5, 6, 7] rfl
  refine zrV (As := []) (rest := [.int (nI 0)]) 0 ⟨hx, hb, hml, hown, hts⟩ (c_X0_edges l D cy h2 b0 b1 b2 2 (nI 0) (nI 0) zf zf tr2) (cwV 0 hts gL_areAlike_X0_edges rfl rfl rfl (by decide +kernel) ⟨Nat.le_of_ble_eq_true rfl, Nat.le_of_ble_eq_true rfl⟩) hK hPo rfl rfl rfl hl rfl (Nat.le_of_ble_eq_true rfl) dL_areAlike_16 ⟨Nat.le_of_ble_eq_true rfl, Nat.le_of_ble_eq_true rfl⟩ hS (fun r9 H4 locs hw9 hk9 hS => ?_)
  obtain rfl : r9 = (nI 0) := hw9
  have hP := zkeep hP hk9
  have hz : s.heap.size + 0 ≤ H4.size := Nat.le_trans hz hk9.1
  refine k_icmp_ne_f (tgt := 59) hx hb dL_areAlike_19 (by decide) (by decide +kernel) ?_
  refine lv_aload_n hx hb dL_areAlike_22 rfl (lv_at hl 0 rfl) ?_
  have hPo := hP.sub (ws' := wZ h a0 a1 a2 cy 2 tr) [0, 1, 2, 3] rfl
  refine zrV (As := []) (rest := []) 0 ⟨hx, hb, hml, hown, hts⟩ (c_X0_changes l D cy h a0 a1 a2 2 (nI 0) (nI 0) zf zf tr) (cwV 0 hts gL_areAlike_X0_changes rfl rfl rfl (by decide +kernel) ⟨Nat.le_of_ble_eq_true rfl, Nat.le_of_ble_eq_true rfl⟩) hK hPo rfl rfl rfl hl rfl (Nat.le_of_ble_eq_true rfl) dL_areAlike_23 ⟨Nat.le_of_ble_eq_true rfl, Nat.le_of_ble_eq_true rfl⟩ hS (fun r9 H5 locs hw9 hk9 hS => ?_)
  obtain rfl : r9 = (nI 0) := hw9
  have hP := zkeep hP hk9
  have hz : s.heap.size + 0 ≤ H5.size := Nat.le_trans hz hk9.1
  refine lv_aload_n hx hb dL_areAlike_26 rfl (lv_at hl 1 rfl) ?_
  have hPo := hP.sub (ws' := wZ h2 b0 b1 b2 cy 2 tr2) [4, 5, 6, 7] rfl
  refine zrV (As := []) (rest := [.int (nI 0)]) 0 ⟨hx, hb, hml, hown, hts⟩ (c_X0_changes l D cy h2 b0 b1 b2 2 (nI 0) (nI 0) zf zf tr2) (cwV 0 hts gL_areAlike_X0_changes rfl rfl rfl (by decide +kernel) ⟨Nat.le_of_ble_eq_true rfl, Nat.le_of_ble_eq_true rfl⟩) hK hPo rfl rfl rfl hl rfl (Nat.le_of_ble_eq_true rfl) dL_areAlike_27 ⟨Nat.le_of_ble_eq_true rfl, Nat.le_of_ble_eq_true rfl⟩ hS (fun r9 H6 locs hw9 hk9 hS => ?_)
  obtain rfl : r9 = (nI 0) := hw9
  have hP := zkeep hP hk9
  have hz : s.heap.size + 0 ≤ H6.size := Nat.le_trans hz hk9.1
  refine k_icmp_ne_f (tgt := 59) hx hb dL_areAlike_30 (by decide) (by decide +kernel) ?_
  refine lv_aload_n hx hb dL_areAlike_33 rfl (lv_at hl 0 rfl) ?_
  have hPo := hP.sub (ws' := wZ h a0 a1 a2 cy 2 tr) [0, 1, 2, 3] rfl
  refine zrV (As := []) (rest := []) 0 ⟨hx, hb, hml, hown, hts⟩ (c_X0_degeneracy l D cy h a0 a1 a2 2 (nI 0) (nI 0) zf zf tr z0 (by decide) (zcs _)) (cwV 0 hts gL_areAlike_X0_degeneracy rfl rfl rfl (by decide +kernel) ⟨Nat.le_of_ble_eq_true rfl, Nat.le_of_ble_eq_true rfl⟩) hK hPo rfl rfl rfl hl rfl (Nat.le_of_ble_eq_true rfl) dL_areAlike_34 ⟨Nat.le_of_ble_eq_true rfl, Nat.le_of_ble_eq_true rfl⟩ hS (fun r9 H7 locs hw9 hk9 hS => ?_)
  obtain rfl : r9 = (nI 0) := by obtain ⟨d, h1, -, h2⟩ := hw9; rw [h1, zdeg0 h2]
  have hP := zkeep hP hk9
  have hz : s.heap.size + 0 ≤ H7.size := Nat.le_trans hz hk9.1
  refine lv_aload_n hx hb dL_areAlike_37 rfl (lv_at hl 1 rfl) ?_
  have hPo := hP.sub (ws' := wZ h2 b0 b1 b2 cy 2 tr2) [4, 5, 6, 7] rfl
  refine zrV (As := []) (rest := [.int (nI 0)]) 0 ⟨hx, hb, hml, hown, hts⟩ (c_X0_degeneracy l D cy h2 b0 b1 b2 2 (nI 0) (nI 0) zf zf tr2 z0 (by decide) (zcs _)) (cwV 0 hts gL_areAlike_X0_degeneracy rfl rfl rfl (by decide +kernel) ⟨Nat.le_of_ble_eq_true rfl, Nat.le_of_ble_eq_true rfl⟩) hK hPo rfl rfl rfl hl rfl (Nat.le_of_ble_eq_true rfl) dL_areAlike_38 ⟨Nat.le_of_ble_eq_true rfl, Nat.le_of_ble_eq_true rfl⟩ hS (fun r9 H8 locs hw9 hk9 hS => ?_)
  obtain rfl : r9 = (nI 0) := by obtain ⟨d, h1, -, h2⟩ := hw9; rw [h1, zdeg0 h2]
  have hP := zkeep hP hk9
  have hz : s.heap.size + 0 ≤ H8.size := Nat.le_trans hz hk9.1
  refine k_icmp_ne_f (tgt := 59) hx hb dL_areAlike_41 (by decide) (by decide +kernel) ?_
  refine lv_aload_n hx hb dL_areAlike_44 rfl (lv_at hl 0 rfl) ?_
  have hPo := hP.sub (ws' := wZ h a0 a1 a2 cy 2 tr) [0, 1, 2, 3] rfl
  refine zrV (As := []) (rest := []) 0 ⟨hx, hb, hml, hown, hts⟩ (c_X0_triangles l D cy h a0 a1 a2 2 (nI 0) (nI 0) zf zf tr (by decide)) (cwV 0 hts gL_areAlike_X0_triangles rfl rfl rfl (by decide +kernel) ⟨Nat.le_of_ble_eq_true rfl, Nat.le_of_ble_eq_true rfl⟩) hK hPo rfl rfl rfl hl rfl (Nat.le_of_ble_eq_true rfl) dL_areAlike_45 ⟨Nat.le_of_ble_eq_true rfl, Nat.le_of_ble_eq_true rfl⟩ hS (fun r9 H9 locs hw9 hk9 hS => ?_)
  obtain rfl : r9 = (nI 0) := hw9.trans (congrArg nI ztri2)
  have hP := zkeep hP hk9
  have hz : s.heap.size + 0 ≤ H9.size := Nat.le_trans hz hk9.1
  refine lv_aload_n hx hb dL_areAlike_48 rfl (lv_at hl 1 rfl) ?_
  have hPo := hP.sub (ws' := wZ h2 b0 b1 b2 cy 2 tr2) [4, 5, 6, 7] rfl
  refine zrV (As := []) (rest := [.int (nI 0)]) 0 ⟨hx, hb, hml, hown, hts⟩ (c_X0_triangles l D cy h2 b0 b1 b2 2 (nI 0) (nI 0) zf zf tr2 (by decide)) (cwV 0 hts gL_areAlike_X0_triangles rfl rfl rfl (by decide +kernel) ⟨Nat.le_of_ble_eq_true rfl, Nat.le_of_ble_eq_true rfl⟩) hK hPo rfl rfl rfl hl rfl (Nat.le_of_ble_eq_true rfl) dL_areAlike_49 ⟨Nat.le_of_ble_eq_true rfl, Nat.le_of_ble_eq_true rfl⟩ hS (fun r9 H10 locs hw9 hk9 hS => ?_)
  obtain rfl : r9 = (nI 0) := hw9.trans (congrArg nI ztri2)
  have hP := zkeep hP hk9
  have hz : s.heap.size + 0 ≤ H10.size := Nat.le_trans hz hk9.1
  refine k_icmp_ne_f (tgt := 59) hx hb dL_areAlike_52 (by decide) (by decide +kernel) ?_
  refine lv_iconst (v := (nI 1)) hx hb dL_areAlike_55 (by decide) ?_
  refine lv_goto (tgt := 60) hx hb dL_areAlike_56 (by decide) ?_
  refine lv_istore_n (lv' := [(2, .int (nI 1)), (0, .ref h), (1, .ref h2)]) hx hb dL_areAlike_60 rfl hl (by decide) rfl (fun ls hl => ?_)
  refine lv_iconst (v := (nI 0)) hx hb dL_areAlike_61 (by decide) ?_
  refine lv_istore_n (lv' := [(3, .int (nI 0)), (2, .int (nI 1)), (0, .ref h), (1, .ref h2)]) hx hb dL_areAlike_62 rfl hl (by decide) rfl (fun ls hl => ?_)
  refine lv_iload_n hx hb dL_areAlike_63 rfl (lv_at hl 0 rfl) ?_
  refine lv_aload_n hx hb dL_areAlike_64 rfl (lv_at hl 2 rfl) ?_
  have hPo := hP.sub (ws' := wZ h a0 a1 a2 cy 2 tr) [0, 1, 2, 3] rfl
  refine zrV (As := []) (rest := [.int (nI 0)]) 0 ⟨hx, hb, hml, hown, hts⟩ (c_X0_nodes l D cy h a0 a1 a2 2 (nI 0) (nI 0) zf zf tr) (cwV 0 hts gL_areAlike_X0_nodes rfl rfl rfl (by decide +kernel) ⟨Nat.le_of_ble_eq_true rfl, Nat.le_of_ble_eq_true rfl⟩) hK hPo rfl rfl rfl hl rfl (Nat.le_of_ble_eq_true rfl) dL_areAlike_65 ⟨Nat.le_of_ble_eq_true rfl, Nat.le_of_ble_eq_true rfl⟩ hS (fun r9 H11 locs hw9 hk9 hS => ?_)
  obtain rfl : r9 = (nI 2) := hw9
  have hP := zkeep hP hk9
  have hz : s.heap.size + 0 ≤ H11.size := Nat.le_trans hz hk9.1
  refine k_icmp_ge_f (tgt := 113) hx hb dL_areAlike_68 (by decide) (by decide +kernel) ?_
  refine lv_iload_n hx hb dL_areAlike_71 rfl (lv_at hl 1 rfl) ?_
  refine k_if_eq_f (tgt := 113) hx hb dL_areAlike_72 (by decide) (by decide +kernel) ?_
  refine lv_aload_n hx hb dL_areAlike_75 rfl (lv_at hl 2 rfl) ?_
  refine lv_iload_n hx hb dL_areAlike_76 rfl (lv_at hl 0 rfl) ?_
  have hPo := hP.sub (ws' := wZ h a0 a1 a2 cy 2 tr) [0, 1, 2, 3] rfl
  refine zrV (As := [.int (nI 0)]) (rest := []) 0 ⟨hx, hb, hml, hown, hts⟩ (c_X0_core_ok l D cy h a0 a1 a2 2 (nI 0) (nI 0) zf zf tr 0 z0 (by decide) (by decide) (zcs _)) (cwV 1 hts gL_areAlike_X0_core rfl rfl rfl (by decide +kernel) ⟨Nat.le_of_ble_eq_true rfl, Nat.le_of_ble_eq_true rfl⟩) hK hPo rfl rfl rfl hl rfl (Nat.le_of_ble_eq_true rfl) dL_areAlike_77 ⟨Nat.le_of_ble_eq_true rfl, Nat.le_of_ble_eq_true rfl⟩ hS (fun r9 H12 locs hw9 hk9 hS => ?_)
  obtain rfl : r9 = (nI 0) := hw9
  have hP := zkeep hP hk9
  have hz : s.heap.size + 0 ≤ H12.size := Nat.le_trans hz hk9.1
  refine lv_aload_n hx hb dL_areAlike_80 rfl (lv_at hl 3 rfl) ?_
  refine lv_iload_n hx hb dL_areAlike_81 rfl (lv_at hl 0 rfl) ?_
  have hPo := hP.sub (ws' := wZ h2 b0 b1 b2 cy 2 tr2) [4, 5, 6, 7] rfl
  refine zrV (As := [.int (nI 0)]) (rest := [.int (nI 0)]) 0 ⟨hx, hb, hml, hown, hts⟩ (c_X0_core_ok l D cy h2 b0 b1 b2 2 (nI 0) (nI 0) zf zf tr2 0 z0 (by decide) (by decide) (zcs _)) (cwV 1 hts gL_areAlike_X0_core rfl rfl rfl (by decide +kernel) ⟨Nat.le_of_ble_eq_true rfl, Nat.le_of_ble_eq_true rfl⟩) hK hPo rfl rfl rfl hl rfl (Nat.le_of_ble_eq_true rfl) dL_areAlike_82 ⟨Nat.le_of_ble_eq_true rfl, Nat.le_of_ble_eq_true rfl⟩ hS (fun r9 H13 locs hw9 hk9 hS => ?_)
  obtain rfl : r9 = (nI 0) := hw9
  have hP := zkeep hP hk9
  have hz : s.heap.size + 0 ≤ H13.size := Nat.le_trans hz hk9.1
  refine k_icmp_ne_f (tgt := 105) hx hb dL_areAlike_85 (by decide) (by decide +kernel) ?_
  refine lv_aload_n hx hb dL_areAlike_88 rfl (lv_at hl 2 rfl) ?_
  refine lv_iload_n hx hb dL_areAlike_89 rfl (lv_at hl 0 rfl) ?_
  have hPo := hP.sub (ws' := wZ h a0 a1 a2 cy 2 tr) [0, 1, 2, 3] rfl
  refine zrV (As := [.int (nI 0)]) (rest := []) 0 ⟨hx, hb, hml, hown, hts⟩ (c_X0_degree_ok l D cy h a0 a1 a2 2 (nI 0) (nI 0) zf zf tr 0 (by decide) (by decide)) (cwV 1 hts gL_areAlike_X0_degree rfl rfl rfl (by decide +kernel) ⟨Nat.le_of_ble_eq_true rfl, Nat.le_of_ble_eq_true rfl⟩) hK hPo rfl rfl rfl hl rfl (Nat.le_of_ble_eq_true rfl) dL_areAlike_90 ⟨Nat.le_of_ble_eq_true rfl, Nat.le_of_ble_eq_true rfl⟩ hS (fun r9 H14 locs hw9 hk9 hS => ?_)
  obtain rfl : r9 = (nI 0) := hw9.trans (congrArg nI (zrow 0))
  have hP := zkeep hP hk9
  have hz : s.heap.size + 0 ≤ H14.size := Nat.le_trans hz hk9.1
  refine lv_aload_n hx hb dL_areAlike_93 rfl (lv_at hl 3 rfl) ?_
  refine lv_iload_n hx hb dL_areAlike_94 rfl (lv_at hl 0 rfl) ?_
  have hPo := hP.sub (ws' := wZ h2 b0 b1 b2 cy 2 tr2) [4, 5, 6, 7] rfl
  refine zrV (As := [.int (nI 0)]) (rest := [.int (nI 0)]) 0 ⟨hx, hb, hml, hown, hts⟩ (c_X0_degree_ok l D cy h2 b0 b1 b2 2 (nI 0) (nI 0) zf zf tr2 0 (by decide) (by decide)) (cwV 1 hts gL_areAlike_X0_degree rfl rfl rfl (by decide +kernel) ⟨Nat.le_of_ble_eq_true rfl, Nat.le_of_ble_eq_true rfl⟩) hK hPo rfl rfl rfl hl rfl (Nat.le_of_ble_eq_true rfl) dL_areAlike_95 ⟨Nat.le_of_ble_eq_true rfl, Nat.le_of_ble_eq_true rfl⟩ hS (fun r9 H15 locs hw9 hk9 hS => ?_)
  obtain rfl : r9 = (nI 0) := hw9.trans (congrArg nI (zrow 0))
  have hP := zkeep hP hk9
  have hz : s.heap.size + 0 ≤ H15.size := Nat.le_trans hz hk9.1
  refine k_icmp_ne_f (tgt := 105) hx hb dL_areAlike_98 (by decide) (by decide +kernel) ?_
  refine lv_iconst (v := (nI 1)) hx hb dL_areAlike_101 (by decide) ?_
  refine lv_goto (tgt := 106) hx hb dL_areAlike_102 (by decide) ?_
  refine lv_istore_n (lv' := [(2, .int (nI 1)), (3, .int (nI 0)), (0, .ref h), (1, .ref h2)]) hx hb dL_areAlike_106 rfl hl (by decide) rfl (fun ls hl => ?_)
  refine lv_iinc (v := (nI 1)) (lv' := [(3, .int (nI 1)), (2, .int (nI 1)), (0, .ref h), (1, .ref h2)]) hx hb dL_areAlike_107 hl (k := 1) rfl (by decide +kernel) (by decide) rfl (fun ls hl => ?_)
  refine lv_goto (tgt := 63) hx hb dL_areAlike_110 (by decide) ?_
  refine lv_iload_n hx hb dL_areAlike_63 rfl (lv_at hl 0 rfl) ?_
  refine lv_aload_n hx hb dL_areAlike_64 rfl (lv_at hl 2 rfl) ?_
  have hPo := hP.sub (ws' := wZ h a0 a1 a2 cy 2 tr) [0, 1, 2, 3] rfl
  refine zrV (As := []) (rest := [.int (nI 1)]) 0 ⟨hx, hb, hml, hown, hts⟩ (c_X0_nodes l D cy h a0 a1 a2 2 (nI 0) (nI 0) zf zf tr) (cwV 0 hts gL_areAlike_X0_nodes rfl rfl rfl (by decide +kernel) ⟨Nat.le_of_ble_eq_true rfl, Nat.le_of_ble_eq_true rfl⟩) hK hPo rfl rfl rfl hl rfl (Nat.le_of_ble_eq_true rfl) dL_areAlike_65 ⟨Nat.le_of_ble_eq_true rfl, Nat.le_of_ble_eq_true rfl⟩ hS (fun r9 H16 locs hw9 hk9 hS => ?_)
  obtain rfl : r9 = (nI 2) := hw9
  have hP := zkeep hP hk9
  have hz : s.heap.size + 0 ≤ H16.size := Nat.le_trans hz hk9.1
  refine k_icmp_ge_f (tgt := 113) hx hb dL_areAlike_68 (by decide) (by decide +kernel) ?_
  refine lv_iload_n hx hb dL_areAlike_71 rfl (lv_at hl 1 rfl) ?_
  refine k_if_eq_f (tgt := 113) hx hb dL_areAlike_72 (by decide) (by decide +kernel) ?_
  refine lv_aload_n hx hb dL_areAlike_75 rfl (lv_at hl 2 rfl) ?_
  refine lv_iload_n hx hb dL_areAlike_76 rfl (lv_at hl 0 rfl) ?_
  have hPo := hP.sub (ws' := wZ h a0 a1 a2 cy 2 tr) [0, 1, 2, 3] rfl
  refine zrV (As := [.int (nI 1)]) (rest := []) 0 ⟨hx, hb, hml, hown, hts⟩ (c_X0_core_ok l D cy h a0 a1 a2 2 (nI 0) (nI 0) zf zf tr 1 z0 (by decide) (by decide) (zcs _)) (cwV 1 hts gL_areAlike_X0_core rfl rfl rfl (by decide +kernel) ⟨Nat.le_of_ble_eq_true rfl, Nat.le_of_ble_eq_true rfl⟩) hK hPo rfl rfl rfl hl rfl (Nat.le_of_ble_eq_true rfl) dL_areAlike_77 ⟨Nat.le_of_ble_eq_true rfl, Nat.le_of_ble_eq_true rfl⟩ hS (fun r9 H17 locs hw9 hk9 hS => ?_)
  obtain rfl : r9 = (nI 0) := hw9
  have hP := zkeep hP hk9
  have hz : s.heap.size + 0 ≤ H17.size := Nat.le_trans hz hk9.1
  refine lv_aload_n hx hb dL_areAlike_80 rfl (lv_at hl 3 rfl) ?_
  refine lv_iload_n hx hb dL_areAlike_81 rfl (lv_at hl 0 rfl) ?_
  have hPo := hP.sub (ws' := wZ h2 b0 b1 b2 cy 2 tr2) [4, 5, 6, 7] rfl
  refine zrV (As := [.int (nI 1)]) (rest := [.int (nI 0)]) 0 ⟨hx, hb, hml, hown, hts⟩ (c_X0_core_ok l D cy h2 b0 b1 b2 2 (nI 0) (nI 0) zf zf tr2 1 z0 (by decide) (by decide) (zcs _)) (cwV 1 hts gL_areAlike_X0_core rfl rfl rfl (by decide +kernel) ⟨Nat.le_of_ble_eq_true rfl, Nat.le_of_ble_eq_true rfl⟩) hK hPo rfl rfl rfl hl rfl (Nat.le_of_ble_eq_true rfl) dL_areAlike_82 ⟨Nat.le_of_ble_eq_true rfl, Nat.le_of_ble_eq_true rfl⟩ hS (fun r9 H18 locs hw9 hk9 hS => ?_)
  obtain rfl : r9 = (nI 0) := hw9
  have hP := zkeep hP hk9
  have hz : s.heap.size + 0 ≤ H18.size := Nat.le_trans hz hk9.1
  refine k_icmp_ne_f (tgt := 105) hx hb dL_areAlike_85 (by decide) (by decide +kernel) ?_
  refine lv_aload_n hx hb dL_areAlike_88 rfl (lv_at hl 2 rfl) ?_
  refine lv_iload_n hx hb dL_areAlike_89 rfl (lv_at hl 0 rfl) ?_
  have hPo := hP.sub (ws' := wZ h a0 a1 a2 cy 2 tr) [0, 1, 2, 3] rfl
  refine zrV (As := [.int (nI 1)]) (rest := []) 0 ⟨hx, hb, hml, hown, hts⟩ (c_X0_degree_ok l D cy h a0 a1 a2 2 (nI 0) (nI 0) zf zf tr 1 (by decide) (by decide)) (cwV 1 hts gL_areAlike_X0_degree rfl rfl rfl (by decide +kernel) ⟨Nat.le_of_ble_eq_true rfl, Nat.le_of_ble_eq_true rfl⟩) hK hPo rfl rfl rfl hl rfl (Nat.le_of_ble_eq_true rfl) dL_areAlike_90 ⟨Nat.le_of_ble_eq_true rfl, Nat.le_of_ble_eq_true rfl⟩ hS (fun r9 H19 locs hw9 hk9 hS => ?_)
  obtain rfl : r9 = (nI 0) := hw9.trans (congrArg nI (zrow 1))
  have hP := zkeep hP hk9
  have hz : s.heap.size + 0 ≤ H19.size := Nat.le_trans hz hk9.1
  refine lv_aload_n hx hb dL_areAlike_93 rfl (lv_at hl 3 rfl) ?_
  refine lv_iload_n hx hb dL_areAlike_94 rfl (lv_at hl 0 rfl) ?_
  have hPo := hP.sub (ws' := wZ h2 b0 b1 b2 cy 2 tr2) [4, 5, 6, 7] rfl
  refine zrV (As := [.int (nI 1)]) (rest := [.int (nI 0)]) 0 ⟨hx, hb, hml, hown, hts⟩ (c_X0_degree_ok l D cy h2 b0 b1 b2 2 (nI 0) (nI 0) zf zf tr2 1 (by decide) (by decide)) (cwV 1 hts gL_areAlike_X0_degree rfl rfl rfl (by decide +kernel) ⟨Nat.le_of_ble_eq_true rfl, Nat.le_of_ble_eq_true rfl⟩) hK hPo rfl rfl rfl hl rfl (Nat.le_of_ble_eq_true rfl) dL_areAlike_95 ⟨Nat.le_of_ble_eq_true rfl, Nat.le_of_ble_eq_true rfl⟩ hS (fun r9 H20 locs hw9 hk9 hS => ?_)
  obtain rfl : r9 = (nI 0) := hw9.trans (congrArg nI (zrow 1))
  have hP := zkeep hP hk9
  have hz : s.heap.size + 0 ≤ H20.size := Nat.le_trans hz hk9.1
  refine k_icmp_ne_f (tgt := 105) hx hb dL_areAlike_98 (by decide) (by decide +kernel) ?_
  refine lv_iconst (v := (nI 1)) hx hb dL_areAlike_101 (by decide) ?_
  refine lv_goto (tgt := 106) hx hb dL_areAlike_102 (by decide) ?_
  refine lv_istore_n (lv' := [(2, .int (nI 1)), (3, .int (nI 1)), (0, .ref h), (1, .ref h2)]) hx hb dL_areAlike_106 rfl hl (by decide) rfl (fun ls hl => ?_)
  refine lv_iinc (v := (nI 2)) (lv' := [(3, .int (nI 2)), (2, .int (nI 1)), (0, .ref h), (1, .ref h2)]) hx hb dL_areAlike_107 hl (k := 1) rfl (by decide +kernel) (by decide) rfl (fun ls hl => ?_)
  refine lv_goto (tgt := 63) hx hb dL_areAlike_110 (by decide) ?_
  refine lv_iload_n hx hb dL_areAlike_63 rfl (lv_at hl 0 rfl) ?_
  refine lv_aload_n hx hb dL_areAlike_64 rfl (lv_at hl 2 rfl) ?_
  have hPo := hP.sub (ws' := wZ h a0 a1 a2 cy 2 tr) [0, 1, 2, 3] rfl
  refine zrV (As := []) (rest := [.int (nI 2)]) 0 ⟨hx, hb, hml, hown, hts⟩ (c_X0_nodes l D cy h a0 a1 a2 2 (nI 0) (nI 0) zf zf tr) (cwV 0 hts gL_areAlike_X0_nodes rfl rfl rfl (by decide +kernel) ⟨Nat.le_of_ble_eq_true rfl, Nat.le_of_ble_eq_true rfl⟩) hK hPo rfl rfl rfl hl rfl (Nat.le_of_ble_eq_true rfl) dL_areAlike_65 ⟨Nat.le_of_ble_eq_true rfl, Nat.le_of_ble_eq_true rfl⟩ hS (fun r9 H21 locs hw9 hk9 hS => ?_)
  obtain rfl : r9 = (nI 2) := hw9
  have hP := zkeep hP hk9
  have hz : s.heap.size + 0 ≤ H21.size := Nat.le_trans hz hk9.1
  refine k_icmp_ge_t (tgt := 113) hx hb dL_areAlike_68 (by decide) (by decide +kernel) ?_
  refine lv_iload_n hx hb dL_areAlike_113 rfl (lv_at hl 1 rfl) ?_
  refine W.widen (k := 0) (n := 0) (Nat.le_of_ble_eq_true rfl) (Nat.le_of_ble_eq_true rfl) ?_
  refine vx_ret ?_
  exact W.zret (v := (nI 1)) (ty := .boolean) hx hb hr rfl (fun t9 ht9 hW9 => ⟨⟨(nI 1), (), rfl, rfl, by show s.heap.size + 0 ≤ t9.heap.size; rw [ht9]; exact hz⟩, hS.F ht9⟩) hS.2.2 dL_areAlike_114
