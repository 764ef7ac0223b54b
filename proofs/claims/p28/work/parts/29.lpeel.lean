set_option maxHeartbeats 4000000 in
set_option maxRecDepth 100000 in
theorem w_isPeeledSo_2 (l : Launch) (hfl : l.stackTraces = false) (D : va_G) (cy : ClassId) (h a0 a1 a2 : Nat) (tr : Nat → Int32) (sz : Nat)  : vx_Met l yL_isPeeledSo wsL_isPeeledSo ({ frames := 8, cells := 0, slots := 0, locals := 125 } : Room) (va_Pc [.ref h] (kRd D (wZ h a0 a1 a2 cy 2 tr) [(cy, .int)] sz)) (kPo (nI 1) sz 0) zXn 0 0 zNo := by
  refine vx_ofW (cc := cL_isPeeledSo) (maxL := 9) (ret := (some .boolean)) (by decide) rfl ?_
  intro p e s m args below meth c s₁ B hml hto hv
  obtain ⟨rfl, ⟨⟨hP, hK⟩, hsz⟩, hT⟩ := hv
  have hx := B.exec
  have hb := B.bytes
  have hr := B.returns
  have hts := atoms_spec (ws := wsL_isPeeledSo) B.pre
  have hown : s.vm.findClass RL = some m.cls := findClass_of_methodNamed B.named
  have hlocks := B.notSynchronized
  subst hsz
  have hS : va_S (fun _ => False) s.heap s.heap [] := va_S.rf
  have hl := lv_entry ([.ref h]) (n := 9) (Nat.le_of_ble_eq_true rfl)
  rw [lg_entry_eq]
  generalize (lg_sl ([.ref h]) ++ List.replicate (9 - (lg_sl ([.ref h])).length) Slot.unset).toArray = ls at hl ⊢
  have hl : lv_has ls 9 [(0, .ref h)] := hl
  have hz : s.heap.size + 0 ≤ s.heap.size := Nat.le_refl _
  refine lv_aload_n hx hb dL_isPeeledSo_0 rfl (lv_at hl 0 rfl) ?_
  refine zrV (As := []) (rest := []) 0 ⟨hx, hb, hml, hown, hts⟩ (c_X0_nodes l D cy h a0 a1 a2 2 (nI 0) (nI 0) zf zf tr) (cwV 0 hts gL_isPeeledSo_X0_nodes rfl rfl rfl (by decide +kernel) ⟨Nat.le_of_ble_eq_true rfl, Nat.le_of_ble_eq_true rfl⟩) hK hP rfl rfl rfl hl rfl (Nat.le_of_ble_eq_true rfl) dL_isPeeledSo_1 ⟨Nat.le_of_ble_eq_true rfl, Nat.le_of_ble_eq_true rfl⟩ hS (fun r9 H1 locs hw9 hk9 hS => ?_)
  obtain rfl : r9 = (nI 2) := hw9
  have hP := zkeep hP hk9
  have hz : s.heap.size + 0 ≤ H1.size := Nat.le_trans hz hk9.1
  refine lv_istore_n (lv' := [(1, .int (nI 2)), (0, .ref h)]) hx hb dL_isPeeledSo_4 rfl hl (by decide) rfl (fun ls hl => ?_)
  refine lv_iconst (v := (nI 1)) hx hb dL_isPeeledSo_5 (by decide) ?_
  refine lv_iload_n hx hb dL_isPeeledSo_6 rfl (lv_at hl 0 rfl) ?_
  refine k_ishl (v := (nI 4)) hx hb dL_isPeeledSo_7 (by decide +kernel) ?_
  refine lv_iconst (v := (nI 1)) hx hb dL_isPeeledSo_8 (by decide) ?_
  refine k_isub (v := (nI 3)) hx hb dL_isPeeledSo_9 (by decide +kernel) ?_
  refine lv_istore_n (lv' := [(2, .int (nI 3)), (1, .int (nI 2)), (0, .ref h)]) hx hb dL_isPeeledSo_10 rfl hl (by decide) rfl (fun ls hl => ?_)
  refine lv_iconst (v := (nI 0)) hx hb dL_isPeeledSo_11 (by decide) ?_
  refine lv_istore_n (lv' := [(3, .int (nI 0)), (2, .int (nI 3)), (1, .int (nI 2)), (0, .ref h)]) hx hb dL_isPeeledSo_12 rfl hl (by decide) rfl (fun ls hl => ?_)
  refine lv_iconst (v := (nI 0)) hx hb dL_isPeeledSo_13 (by decide) ?_
  refine lv_istore (lv' := [(4, .int (nI 0)), (3, .int (nI 0)), (2, .int (nI 3)), (1, .int (nI 2)), (0, .ref h)]) hx hb dL_isPeeledSo_14 hl (by decide) rfl (fun ls hl => ?_)
  refine lv_iconst (v := (nI 0)) hx hb dL_isPeeledSo_16 (by decide) ?_
  refine lv_istore (lv' := [(5, .int (nI 0)), (4, .int (nI 0)), (3, .int (nI 0)), (2, .int (nI 3)), (1, .int (nI 2)), (0, .ref h)]) hx hb dL_isPeeledSo_17 hl (by decide) rfl (fun ls hl => ?_)
  refine lv_iload hx hb dL_isPeeledSo_19 (lv_at hl 0 rfl) ?_
  refine lv_iload_n hx hb dL_isPeeledSo_21 rfl (lv_at hl 4 rfl) ?_
  refine k_icmp_ge_f (tgt := 126) hx hb dL_isPeeledSo_22 (by decide) (by decide +kernel) ?_
  refine lv_aload_n hx hb dL_isPeeledSo_25 rfl (lv_at hl 5 rfl) ?_
  refine lv_iload hx hb dL_isPeeledSo_26 (lv_at hl 0 rfl) ?_
  refine zrV (As := [.int (nI 0)]) (rest := []) 0 ⟨hx, hb, hml, hown, hts⟩ (c_X0_peeled_ok l D cy h a0 a1 a2 2 (nI 0) (nI 0) zf zf tr 0 (by decide) (by decide)) (cwV 1 hts gL_isPeeledSo_X0_peeled rfl rfl rfl (by decide +kernel) ⟨Nat.le_of_ble_eq_true rfl, Nat.le_of_ble_eq_true rfl⟩) hK hP rfl rfl rfl hl rfl (Nat.le_of_ble_eq_true rfl) dL_isPeeledSo_28 ⟨Nat.le_of_ble_eq_true rfl, Nat.le_of_ble_eq_true rfl⟩ hS (fun r9 H2 locs hw9 hk9 hS => ?_)
  obtain rfl : r9 = (nI 0) := hw9.trans (congrArg nI zpe0)
  have hP := zkeep hP hk9
  have hz : s.heap.size + 0 ≤ H2.size := Nat.le_trans hz hk9.1
  refine lv_istore (lv' := [(6, .int (nI 0)), (5, .int (nI 0)), (4, .int (nI 0)), (3, .int (nI 0)), (2, .int (nI 3)), (1, .int (nI 2)), (0, .ref h)]) hx hb dL_isPeeledSo_31 hl (by decide) rfl (fun ls hl => ?_)
  refine lv_iload_n hx hb dL_isPeeledSo_33 rfl (lv_at hl 4 rfl) ?_
  refine lv_iload hx hb dL_isPeeledSo_34 (lv_at hl 0 rfl) ?_
  refine k_ishr (v := (nI 3)) hx hb dL_isPeeledSo_36 (by decide +kernel) ?_
  refine lv_iconst (v := (nI 1)) hx hb dL_isPeeledSo_37 (by decide) ?_
  refine k_iand (v := (nI 1)) hx hb dL_isPeeledSo_38 (by decide +kernel) ?_
  refine k_if_ne_t (tgt := 44) hx hb dL_isPeeledSo_39 (by decide) (by decide +kernel) ?_
  refine lv_iload_n hx hb dL_isPeeledSo_44 rfl (lv_at hl 4 rfl) ?_
  refine lv_iconst (v := (nI 1)) hx hb dL_isPeeledSo_45 (by decide) ?_
  refine lv_iload hx hb dL_isPeeledSo_46 (lv_at hl 0 rfl) ?_
  refine k_ishl (v := (nI 1)) hx hb dL_isPeeledSo_48 (by decide +kernel) ?_
  refine k_ixor (v := (nI 2)) hx hb dL_isPeeledSo_49 (by decide +kernel) ?_
  refine lv_istore_n (lv' := [(2, .int (nI 2)), (6, .int (nI 0)), (5, .int (nI 0)), (4, .int (nI 0)), (3, .int (nI 0)), (1, .int (nI 2)), (0, .ref h)]) hx hb dL_isPeeledSo_50 rfl hl (by decide) rfl (fun ls hl => ?_)
  refine lv_iconst (v := (nI 0)) hx hb dL_isPeeledSo_51 (by decide) ?_
  refine lv_istore (lv' := [(7, .int (nI 0)), (2, .int (nI 2)), (6, .int (nI 0)), (5, .int (nI 0)), (4, .int (nI 0)), (3, .int (nI 0)), (1, .int (nI 2)), (0, .ref h)]) hx hb dL_isPeeledSo_52 hl (by decide) rfl (fun ls hl => ?_)
  refine lv_iconst (v := (nI 0)) hx hb dL_isPeeledSo_54 (by decide) ?_
  refine lv_istore (lv' := [(8, .int (nI 0)), (7, .int (nI 0)), (2, .int (nI 2)), (6, .int (nI 0)), (5, .int (nI 0)), (4, .int (nI 0)), (3, .int (nI 0)), (1, .int (nI 2)), (0, .ref h)]) hx hb dL_isPeeledSo_55 hl (by decide) rfl (fun ls hl => ?_)
  refine lv_iload hx hb dL_isPeeledSo_57 (lv_at hl 0 rfl) ?_
  refine lv_iload_n hx hb dL_isPeeledSo_59 rfl (lv_at hl 7 rfl) ?_
  refine k_icmp_ge_f (tgt := 100) hx hb dL_isPeeledSo_60 (by decide) (by decide +kernel) ?_
  refine lv_iload hx hb dL_isPeeledSo_63 (lv_at hl 1 rfl) ?_
  refine lv_iload_n hx hb dL_isPeeledSo_65 rfl (lv_at hl 2 rfl) ?_
  refine lv_iload hx hb dL_isPeeledSo_66 (lv_at hl 0 rfl) ?_
  refine k_ishr (v := (nI 2)) hx hb dL_isPeeledSo_68 (by decide +kernel) ?_
  refine lv_iconst (v := (nI 1)) hx hb dL_isPeeledSo_69 (by decide) ?_
  refine k_iand (v := (nI 0)) hx hb dL_isPeeledSo_70 (by decide +kernel) ?_
  refine lv_iconst (v := (nI 1)) hx hb dL_isPeeledSo_71 (by decide) ?_
  refine k_icmp_ne_t (tgt := 90) hx hb dL_isPeeledSo_72 (by decide) (by decide +kernel) ?_
  refine lv_iconst (v := (nI 0)) hx hb dL_isPeeledSo_90 (by decide) ?_
  refine k_iadd (v := (nI 0)) hx hb dL_isPeeledSo_91 (by decide +kernel) ?_
  refine lv_istore (lv' := [(7, .int (nI 0)), (8, .int (nI 0)), (2, .int (nI 2)), (6, .int (nI 0)), (5, .int (nI 0)), (4, .int (nI 0)), (3, .int (nI 0)), (1, .int (nI 2)), (0, .ref h)]) hx hb dL_isPeeledSo_92 hl (by decide) rfl (fun ls hl => ?_)
  refine lv_iinc (v := (nI 1)) (lv' := [(8, .int (nI 1)), (7, .int (nI 0)), (2, .int (nI 2)), (6, .int (nI 0)), (5, .int (nI 0)), (4, .int (nI 0)), (3, .int (nI 0)), (1, .int (nI 2)), (0, .ref h)]) hx hb dL_isPeeledSo_94 hl (k := 1) rfl (by decide +kernel) (by decide) rfl (fun ls hl => ?_)
  refine lv_goto (tgt := 57) hx hb dL_isPeeledSo_97 (by decide) ?_
  refine lv_iload hx hb dL_isPeeledSo_57 (lv_at hl 0 rfl) ?_
  refine lv_iload_n hx hb dL_isPeeledSo_59 rfl (lv_at hl 7 rfl) ?_
  refine k_icmp_ge_f (tgt := 100) hx hb dL_isPeeledSo_60 (by decide) (by decide +kernel) ?_
  refine lv_iload hx hb dL_isPeeledSo_63 (lv_at hl 1 rfl) ?_
  refine lv_iload_n hx hb dL_isPeeledSo_65 rfl (lv_at hl 2 rfl) ?_
  refine lv_iload hx hb dL_isPeeledSo_66 (lv_at hl 0 rfl) ?_
  refine k_ishr (v := (nI 1)) hx hb dL_isPeeledSo_68 (by decide +kernel) ?_
  refine lv_iconst (v := (nI 1)) hx hb dL_isPeeledSo_69 (by decide) ?_
  refine k_iand (v := (nI 1)) hx hb dL_isPeeledSo_70 (by decide +kernel) ?_
  refine lv_iconst (v := (nI 1)) hx hb dL_isPeeledSo_71 (by decide) ?_
  refine k_icmp_ne_f (tgt := 90) hx hb dL_isPeeledSo_72 (by decide) (by decide +kernel) ?_
  refine lv_aload_n hx hb dL_isPeeledSo_75 rfl (lv_at hl 8 rfl) ?_
  refine lv_iload hx hb dL_isPeeledSo_76 (lv_at hl 3 rfl) ?_
  refine lv_iload hx hb dL_isPeeledSo_78 (lv_at hl 0 rfl) ?_
  refine zrV (As := [.int (nI 0), .int (nI 1)]) (rest := [.int (nI 0)]) 0 ⟨hx, hb, hml, hown, hts⟩ (c_X0_areJoined_ok l D cy h a0 a1 a2 2 (nI 0) (nI 0) zf zf tr 0 1 (by decide) (by decide) (by decide)) (cwV 2 hts gL_isPeeledSo_X0_areJoined rfl rfl rfl (by decide +kernel) ⟨Nat.le_of_ble_eq_true rfl, Nat.le_of_ble_eq_true rfl⟩) hK hP rfl rfl rfl hl rfl (Nat.le_of_ble_eq_true rfl) dL_isPeeledSo_80 ⟨Nat.le_of_ble_eq_true rfl, Nat.le_of_ble_eq_true rfl⟩ hS (fun r9 H3 locs hw9 hk9 hS => ?_)
  obtain rfl : r9 = (zb false) := hw9.trans (congrArg zb (zf_b 0 1))
  have hP := zkeep hP hk9
  have hz : s.heap.size + 0 ≤ H3.size := Nat.le_trans hz hk9.1
  refine k_if_eq_t (tgt := 90) hx hb dL_isPeeledSo_83 (by decide) (by decide +kernel) ?_
  refine lv_iconst (v := (nI 0)) hx hb dL_isPeeledSo_90 (by decide) ?_
  refine k_iadd (v := (nI 0)) hx hb dL_isPeeledSo_91 (by decide +kernel) ?_
  refine lv_istore (lv' := [(7, .int (nI 0)), (8, .int (nI 1)), (2, .int (nI 2)), (6, .int (nI 0)), (5, .int (nI 0)), (4, .int (nI 0)), (3, .int (nI 0)), (1, .int (nI 2)), (0, .ref h)]) hx hb dL_isPeeledSo_92 hl (by decide) rfl (fun ls hl => ?_)
  refine lv_iinc (v := (nI 2)) (lv' := [(8, .int (nI 2)), (7, .int (nI 0)), (2, .int (nI 2)), (6, .int (nI 0)), (5, .int (nI 0)), (4, .int (nI 0)), (3, .int (nI 0)), (1, .int (nI 2)), (0, .ref h)]) hx hb dL_isPeeledSo_94 hl (k := 1) rfl (by decide +kernel) (by decide) rfl (fun ls hl => ?_)
  refine lv_goto (tgt := 57) hx hb dL_isPeeledSo_97 (by decide) ?_
  refine lv_iload hx hb dL_isPeeledSo_57 (lv_at hl 0 rfl) ?_
  refine lv_iload_n hx hb dL_isPeeledSo_59 rfl (lv_at hl 7 rfl) ?_
  refine k_icmp_ge_t (tgt := 100) hx hb dL_isPeeledSo_60 (by decide) (by decide +kernel) ?_
  refine lv_iload hx hb dL_isPeeledSo_100 (lv_at hl 1 rfl) ?_
  refine lv_iload_n hx hb dL_isPeeledSo_102 rfl (lv_at hl 6 rfl) ?_
  refine k_icmp_le_t (tgt := 111) hx hb dL_isPeeledSo_103 (by decide) (by decide +kernel) ?_
  refine lv_iload_n hx hb dL_isPeeledSo_111 rfl (lv_at hl 6 rfl) ?_
  refine lv_istore_n (lv' := [(3, .int (nI 0)), (8, .int (nI 2)), (7, .int (nI 0)), (2, .int (nI 2)), (6, .int (nI 0)), (5, .int (nI 0)), (4, .int (nI 0)), (1, .int (nI 2)), (0, .ref h)]) hx hb dL_isPeeledSo_112 rfl hl (by decide) rfl (fun ls hl => ?_)
  refine lv_iload hx hb dL_isPeeledSo_113 (lv_at hl 6 rfl) ?_
  refine lv_iload hx hb dL_isPeeledSo_115 (lv_at hl 2 rfl) ?_
  refine k_iadd (v := (nI 0)) hx hb dL_isPeeledSo_117 (by decide +kernel) ?_
  refine lv_istore (lv' := [(4, .int (nI 0)), (3, .int (nI 0)), (8, .int (nI 2)), (7, .int (nI 0)), (2, .int (nI 2)), (6, .int (nI 0)), (5, .int (nI 0)), (1, .int (nI 2)), (0, .ref h)]) hx hb dL_isPeeledSo_118 hl (by decide) rfl (fun ls hl => ?_)
  refine lv_iinc (v := (nI 1)) (lv' := [(5, .int (nI 1)), (4, .int (nI 0)), (3, .int (nI 0)), (8, .int (nI 2)), (7, .int (nI 0)), (2, .int (nI 2)), (6, .int (nI 0)), (1, .int (nI 2)), (0, .ref h)]) hx hb dL_isPeeledSo_120 hl (k := 6) rfl (by decide +kernel) (by decide) rfl (fun ls hl => ?_)
  refine lv_goto (tgt := 19) hx hb dL_isPeeledSo_123 (by decide) ?_
  refine lv_iload hx hb dL_isPeeledSo_19 (lv_at hl 0 rfl) ?_
  refine lv_iload_n hx hb dL_isPeeledSo_21 rfl (lv_at hl 7 rfl) ?_
  refine k_icmp_ge_f (tgt := 126) hx hb dL_isPeeledSo_22 (by decide) (by decide +kernel) ?_
  refine lv_aload_n hx hb dL_isPeeledSo_25 rfl (lv_at hl 8 rfl) ?_
  refine lv_iload hx hb dL_isPeeledSo_26 (lv_at hl 0 rfl) ?_
  refine zrV (As := [.int (nI 1)]) (rest := []) 0 ⟨hx, hb, hml, hown, hts⟩ (c_X0_peeled_ok l D cy h a0 a1 a2 2 (nI 0) (nI 0) zf zf tr 1 (by decide) (by decide)) (cwV 1 hts gL_isPeeledSo_X0_peeled rfl rfl rfl (by decide +kernel) ⟨Nat.le_of_ble_eq_true rfl, Nat.le_of_ble_eq_true rfl⟩) hK hP rfl rfl rfl hl rfl (Nat.le_of_ble_eq_true rfl) dL_isPeeledSo_28 ⟨Nat.le_of_ble_eq_true rfl, Nat.le_of_ble_eq_true rfl⟩ hS (fun r9 H4 locs hw9 hk9 hS => ?_)
  obtain rfl : r9 = (nI 1) := hw9.trans (congrArg nI zpe1)
  have hP := zkeep hP hk9
  have hz : s.heap.size + 0 ≤ H4.size := Nat.le_trans hz hk9.1
  refine lv_istore (lv' := [(6, .int (nI 1)), (5, .int (nI 1)), (4, .int (nI 0)), (3, .int (nI 0)), (8, .int (nI 2)), (7, .int (nI 0)), (2, .int (nI 2)), (1, .int (nI 2)), (0, .ref h)]) hx hb dL_isPeeledSo_31 hl (by decide) rfl (fun ls hl => ?_)
  refine lv_iload_n hx hb dL_isPeeledSo_33 rfl (lv_at hl 6 rfl) ?_
  refine lv_iload hx hb dL_isPeeledSo_34 (lv_at hl 0 rfl) ?_
  refine k_ishr (v := (nI 1)) hx hb dL_isPeeledSo_36 (by decide +kernel) ?_
  refine lv_iconst (v := (nI 1)) hx hb dL_isPeeledSo_37 (by decide) ?_
  refine k_iand (v := (nI 1)) hx hb dL_isPeeledSo_38 (by decide +kernel) ?_
  refine k_if_ne_t (tgt := 44) hx hb dL_isPeeledSo_39 (by decide) (by decide +kernel) ?_
  refine lv_iload_n hx hb dL_isPeeledSo_44 rfl (lv_at hl 6 rfl) ?_
  refine lv_iconst (v := (nI 1)) hx hb dL_isPeeledSo_45 (by decide) ?_
  refine lv_iload hx hb dL_isPeeledSo_46 (lv_at hl 0 rfl) ?_
  refine k_ishl (v := (nI 2)) hx hb dL_isPeeledSo_48 (by decide +kernel) ?_
  refine k_ixor (v := (nI 0)) hx hb dL_isPeeledSo_49 (by decide +kernel) ?_
  refine lv_istore_n (lv' := [(2, .int (nI 0)), (6, .int (nI 1)), (5, .int (nI 1)), (4, .int (nI 0)), (3, .int (nI 0)), (8, .int (nI 2)), (7, .int (nI 0)), (1, .int (nI 2)), (0, .ref h)]) hx hb dL_isPeeledSo_50 rfl hl (by decide) rfl (fun ls hl => ?_)
  refine lv_iconst (v := (nI 0)) hx hb dL_isPeeledSo_51 (by decide) ?_
  refine lv_istore (lv' := [(7, .int (nI 0)), (2, .int (nI 0)), (6, .int (nI 1)), (5, .int (nI 1)), (4, .int (nI 0)), (3, .int (nI 0)), (8, .int (nI 2)), (1, .int (nI 2)), (0, .ref h)]) hx hb dL_isPeeledSo_52 hl (by decide) rfl (fun ls hl => ?_)
  refine lv_iconst (v := (nI 0)) hx hb dL_isPeeledSo_54 (by decide) ?_
  refine lv_istore (lv' := [(8, .int (nI 0)), (7, .int (nI 0)), (2, .int (nI 0)), (6, .int (nI 1)), (5, .int (nI 1)), (4, .int (nI 0)), (3, .int (nI 0)), (1, .int (nI 2)), (0, .ref h)]) hx hb dL_isPeeledSo_55 hl (by decide) rfl (fun ls hl => ?_)
  refine lv_iload hx hb dL_isPeeledSo_57 (lv_at hl 0 rfl) ?_
  refine lv_iload_n hx hb dL_isPeeledSo_59 rfl (lv_at hl 7 rfl) ?_
  refine k_icmp_ge_f (tgt := 100) hx hb dL_isPeeledSo_60 (by decide) (by decide +kernel) ?_
  refine lv_iload hx hb dL_isPeeledSo_63 (lv_at hl 1 rfl) ?_
  refine lv_iload_n hx hb dL_isPeeledSo_65 rfl (lv_at hl 2 rfl) ?_
  refine lv_iload hx hb dL_isPeeledSo_66 (lv_at hl 0 rfl) ?_
  refine k_ishr (v := (nI 0)) hx hb dL_isPeeledSo_68 (by decide +kernel) ?_
  refine lv_iconst (v := (nI 1)) hx hb dL_isPeeledSo_69 (by decide) ?_
  refine k_iand (v := (nI 0)) hx hb dL_isPeeledSo_70 (by decide +kernel) ?_
  refine lv_iconst (v := (nI 1)) hx hb dL_isPeeledSo_71 (by decide) ?_
  refine k_icmp_ne_t (tgt := 90) hx hb dL_isPeeledSo_72 (by decide) (by decide +kernel) ?_
  refine lv_iconst (v := (nI 0)) hx hb dL_isPeeledSo_90 (by decide) ?_
  refine k_iadd (v := (nI 0)) hx hb dL_isPeeledSo_91 (by decide +kernel) ?_
  refine lv_istore (lv' := [(7, .int (nI 0)), (8, .int (nI 0)), (2, .int (nI 0)), (6, .int (nI 1)), (5, .int (nI 1)), (4, .int (nI 0)), (3, .int (nI 0)), (1, .int (nI 2)), (0, .ref h)]) hx hb dL_isPeeledSo_92 hl (by decide) rfl (fun ls hl => ?_)
  refine lv_iinc (v := (nI 1)) (lv' := [(8, .int (nI 1)), (7, .int (nI 0)), (2, .int (nI 0)), (6, .int (nI 1)), (5, .int (nI 1)), (4, .int (nI 0)), (3, .int (nI 0)), (1, .int (nI 2)), (0, .ref h)]) hx hb dL_isPeeledSo_94 hl (k := 1) rfl (by decide +kernel) (by decide) rfl (fun ls hl => ?_)
  refine lv_goto (tgt := 57) hx hb dL_isPeeledSo_97 (by decide) ?_
  refine lv_iload hx hb dL_isPeeledSo_57 (lv_at hl 0 rfl) ?_
  refine lv_iload_n hx hb dL_isPeeledSo_59 rfl (lv_at hl 7 rfl) ?_
  refine k_icmp_ge_f (tgt := 100) hx hb dL_isPeeledSo_60 (by decide) (by decide +kernel) ?_
  refine lv_iload hx hb dL_isPeeledSo_63 (lv_at hl 1 rfl) ?_
  refine lv_iload_n hx hb dL_isPeeledSo_65 rfl (lv_at hl 2 rfl) ?_
  refine lv_iload hx hb dL_isPeeledSo_66 (lv_at hl 0 rfl) ?_
  refine k_ishr (v := (nI 0)) hx hb dL_isPeeledSo_68 (by decide +kernel) ?_
  refine lv_iconst (v := (nI 1)) hx hb dL_isPeeledSo_69 (by decide) ?_
  refine k_iand (v := (nI 0)) hx hb dL_isPeeledSo_70 (by decide +kernel) ?_
  refine lv_iconst (v := (nI 1)) hx hb dL_isPeeledSo_71 (by decide) ?_
  refine k_icmp_ne_t (tgt := 90) hx hb dL_isPeeledSo_72 (by decide) (by decide +kernel) ?_
  refine lv_iconst (v := (nI 0)) hx hb dL_isPeeledSo_90 (by decide) ?_
  refine k_iadd (v := (nI 0)) hx hb dL_isPeeledSo_91 (by decide +kernel) ?_
  refine lv_istore (lv' := [(7, .int (nI 0)), (8, .int (nI 1)), (2, .int (nI 0)), (6, .int (nI 1)), (5, .int (nI 1)), (4, .int (nI 0)), (3, .int (nI 0)), (1, .int (nI 2)), (0, .ref h)]) hx hb dL_isPeeledSo_92 hl (by decide) rfl (fun ls hl => ?_)
  refine lv_iinc (v := (nI 2)) (lv' := [(8, .int (nI 2)), (7, .int (nI 0)), (2, .int (nI 0)), (6, .int (nI 1)), (5, .int (nI 1)), (4, .int (nI 0)), (3, .int (nI 0)), (1, .int (nI 2)), (0, .ref h)]) hx hb dL_isPeeledSo_94 hl (k := 1) rfl (by decide +kernel) (by decide) rfl (fun ls hl => ?_)
  refine lv_goto (tgt := 57) hx hb dL_isPeeledSo_97 (by decide) ?_
  refine lv_iload hx hb dL_isPeeledSo_57 (lv_at hl 0 rfl) ?_
  refine lv_iload_n hx hb dL_isPeeledSo_59 rfl (lv_at hl 7 rfl) ?_
  refine k_icmp_ge_t (tgt := 100) hx hb dL_isPeeledSo_60 (by decide) (by decide +kernel) ?_
  refine lv_iload hx hb dL_isPeeledSo_100 (lv_at hl 1 rfl) ?_
  refine lv_iload_n hx hb dL_isPeeledSo_102 rfl (lv_at hl 6 rfl) ?_
  refine k_icmp_le_t (tgt := 111) hx hb dL_isPeeledSo_103 (by decide) (by decide +kernel) ?_
  refine lv_iload_n hx hb dL_isPeeledSo_111 rfl (lv_at hl 6 rfl) ?_
  refine lv_istore_n (lv' := [(3, .int (nI 0)), (8, .int (nI 2)), (7, .int (nI 0)), (2, .int (nI 0)), (6, .int (nI 1)), (5, .int (nI 1)), (4, .int (nI 0)), (1, .int (nI 2)), (0, .ref h)]) hx hb dL_isPeeledSo_112 rfl hl (by decide) rfl (fun ls hl => ?_)
  refine lv_iload hx hb dL_isPeeledSo_113 (lv_at hl 6 rfl) ?_
  refine lv_iload hx hb dL_isPeeledSo_115 (lv_at hl 2 rfl) ?_
  refine k_iadd (v := (nI 0)) hx hb dL_isPeeledSo_117 (by decide +kernel) ?_
  refine lv_istore (lv' := [(4, .int (nI 0)), (3, .int (nI 0)), (8, .int (nI 2)), (7, .int (nI 0)), (2, .int (nI 0)), (6, .int (nI 1)), (5, .int (nI 1)), (1, .int (nI 2)), (0, .ref h)]) hx hb dL_isPeeledSo_118 hl (by decide) rfl (fun ls hl => ?_)
  refine lv_iinc (v := (nI 2)) (lv' := [(5, .int (nI 2)), (4, .int (nI 0)), (3, .int (nI 0)), (8, .int (nI 2)), (7, .int (nI 0)), (2, .int (nI 0)), (6, .int (nI 1)), (1, .int (nI 2)), (0, .ref h)]) hx hb dL_isPeeledSo_120 hl (k := 6) rfl (by decide +kernel) (by decide) rfl (fun ls hl => ?_)
  refine lv_goto (tgt := 19) hx hb dL_isPeeledSo_123 (by decide) ?_
  refine lv_iload hx hb dL_isPeeledSo_19 (lv_at hl 0 rfl) ?_
  refine lv_iload_n hx hb dL_isPeeledSo_21 rfl (lv_at hl 7 rfl) ?_
  refine k_icmp_ge_t (tgt := 126) hx hb dL_isPeeledSo_22 (by decide) (by decide +kernel) ?_
  refine lv_iconst (v := (nI 0)) hx hb dL_isPeeledSo_126 (by decide) ?_
  refine lv_istore (lv' := [(5, .int (nI 0)), (4, .int (nI 0)), (3, .int (nI 0)), (8, .int (nI 2)), (7, .int (nI 0)), (2, .int (nI 0)), (6, .int (nI 1)), (1, .int (nI 2)), (0, .ref h)]) hx hb dL_isPeeledSo_127 hl (by decide) rfl (fun ls hl => ?_)
  refine lv_iconst (v := (nI 0)) hx hb dL_isPeeledSo_129 (by decide) ?_
  refine lv_istore (lv' := [(6, .int (nI 0)), (5, .int (nI 0)), (4, .int (nI 0)), (3, .int (nI 0)), (8, .int (nI 2)), (7, .int (nI 0)), (2, .int (nI 0)), (1, .int (nI 2)), (0, .ref h)]) hx hb dL_isPeeledSo_130 hl (by decide) rfl (fun ls hl => ?_)
  refine lv_iconst (v := (nI 0)) hx hb dL_isPeeledSo_132 (by decide) ?_
  refine lv_istore (lv' := [(7, .int (nI 0)), (6, .int (nI 0)), (5, .int (nI 0)), (4, .int (nI 0)), (3, .int (nI 0)), (8, .int (nI 2)), (2, .int (nI 0)), (1, .int (nI 2)), (0, .ref h)]) hx hb dL_isPeeledSo_133 hl (by decide) rfl (fun ls hl => ?_)
  refine lv_iload hx hb dL_isPeeledSo_135 (lv_at hl 0 rfl) ?_
  refine lv_iload_n hx hb dL_isPeeledSo_137 rfl (lv_at hl 7 rfl) ?_
  refine k_icmp_ge_f (tgt := 221) hx hb dL_isPeeledSo_138 (by decide) (by decide +kernel) ?_
  refine lv_iload hx hb dL_isPeeledSo_141 (lv_at hl 2 rfl) ?_
  refine lv_aload_n hx hb dL_isPeeledSo_143 rfl (lv_at hl 8 rfl) ?_
  refine lv_iload hx hb dL_isPeeledSo_144 (lv_at hl 0 rfl) ?_
  refine zrV (As := [.int (nI 0)]) (rest := [.int (nI 0)]) 0 ⟨hx, hb, hml, hown, hts⟩ (c_X0_isDense_ok l D cy h a0 a1 a2 2 (nI 0) (nI 0) zf zf tr 0 (by decide) (by decide) zew2) (cwV 1 hts gL_isPeeledSo_X0_isDense rfl rfl rfl (by decide +kernel) ⟨Nat.le_of_ble_eq_true rfl, Nat.le_of_ble_eq_true rfl⟩) hK hP rfl rfl rfl hl rfl (Nat.le_of_ble_eq_true rfl) dL_isPeeledSo_146 ⟨Nat.le_of_ble_eq_true rfl, Nat.le_of_ble_eq_true rfl⟩ hS (fun r9 H5 locs hw9 hk9 hS => ?_)
  obtain rfl : r9 = (zb true) := hw9.trans (congrArg zb zde0)
  have hP := zkeep hP hk9
  have hz : s.heap.size + 0 ≤ H5.size := Nat.le_trans hz hk9.1
  refine k_if_eq_f (tgt := 156) hx hb dL_isPeeledSo_149 (by decide) (by decide +kernel) ?_
  refine lv_iconst (v := (nI 1)) hx hb dL_isPeeledSo_152 (by decide) ?_
  refine lv_goto (tgt := 157) hx hb dL_isPeeledSo_153 (by decide) ?_
  refine k_iadd (v := (nI 1)) hx hb dL_isPeeledSo_157 (by decide +kernel) ?_
  refine lv_istore (lv' := [(5, .int (nI 1)), (7, .int (nI 0)), (6, .int (nI 0)), (4, .int (nI 0)), (3, .int (nI 0)), (8, .int (nI 2)), (2, .int (nI 0)), (1, .int (nI 2)), (0, .ref h)]) hx hb dL_isPeeledSo_158 hl (by decide) rfl (fun ls hl => ?_)
  refine lv_iconst (v := (nI 0)) hx hb dL_isPeeledSo_160 (by decide) ?_
  refine lv_istore (lv' := [(8, .int (nI 0)), (5, .int (nI 1)), (7, .int (nI 0)), (6, .int (nI 0)), (4, .int (nI 0)), (3, .int (nI 0)), (2, .int (nI 0)), (1, .int (nI 2)), (0, .ref h)]) hx hb dL_isPeeledSo_161 hl (by decide) rfl (fun ls hl => ?_)
  refine lv_iload hx hb dL_isPeeledSo_163 (lv_at hl 0 rfl) ?_
  refine lv_iload hx hb dL_isPeeledSo_165 (lv_at hl 2 rfl) ?_
  refine k_icmp_ge_t (tgt := 215) hx hb dL_isPeeledSo_167 (by decide) (by decide +kernel) ?_
  refine lv_iinc (v := (nI 1)) (lv' := [(7, .int (nI 1)), (8, .int (nI 0)), (5, .int (nI 1)), (6, .int (nI 0)), (4, .int (nI 0)), (3, .int (nI 0)), (2, .int (nI 0)), (1, .int (nI 2)), (0, .ref h)]) hx hb dL_isPeeledSo_215 hl (k := 2) rfl (by decide +kernel) (by decide) rfl (fun ls hl => ?_)
  refine lv_goto (tgt := 135) hx hb dL_isPeeledSo_218 (by decide) ?_
  refine lv_iload hx hb dL_isPeeledSo_135 (lv_at hl 0 rfl) ?_
  refine lv_iload_n hx hb dL_isPeeledSo_137 rfl (lv_at hl 7 rfl) ?_
  refine k_icmp_ge_f (tgt := 221) hx hb dL_isPeeledSo_138 (by decide) (by decide +kernel) ?_
  refine lv_iload hx hb dL_isPeeledSo_141 (lv_at hl 2 rfl) ?_
  refine lv_aload_n hx hb dL_isPeeledSo_143 rfl (lv_at hl 8 rfl) ?_
  refine lv_iload hx hb dL_isPeeledSo_144 (lv_at hl 0 rfl) ?_
  refine zrV (As := [.int (nI 1)]) (rest := [.int (nI 1)]) 0 ⟨hx, hb, hml, hown, hts⟩ (c_X0_isDense_ok l D cy h a0 a1 a2 2 (nI 0) (nI 0) zf zf tr 1 (by decide) (by decide) zew2) (cwV 1 hts gL_isPeeledSo_X0_isDense rfl rfl rfl (by decide +kernel) ⟨Nat.le_of_ble_eq_true rfl, Nat.le_of_ble_eq_true rfl⟩) hK hP rfl rfl rfl hl rfl (Nat.le_of_ble_eq_true rfl) dL_isPeeledSo_146 ⟨Nat.le_of_ble_eq_true rfl, Nat.le_of_ble_eq_true rfl⟩ hS (fun r9 H6 locs hw9 hk9 hS => ?_)
  obtain rfl : r9 = (zb true) := hw9.trans (congrArg zb zde1)
  have hP := zkeep hP hk9
  have hz : s.heap.size + 0 ≤ H6.size := Nat.le_trans hz hk9.1
  refine k_if_eq_f (tgt := 156) hx hb dL_isPeeledSo_149 (by decide) (by decide +kernel) ?_
  refine lv_iconst (v := (nI 1)) hx hb dL_isPeeledSo_152 (by decide) ?_
  refine lv_goto (tgt := 157) hx hb dL_isPeeledSo_153 (by decide) ?_
  refine k_iadd (v := (nI 2)) hx hb dL_isPeeledSo_157 (by decide +kernel) ?_
  refine lv_istore (lv' := [(5, .int (nI 2)), (7, .int (nI 1)), (8, .int (nI 0)), (6, .int (nI 0)), (4, .int (nI 0)), (3, .int (nI 0)), (2, .int (nI 0)), (1, .int (nI 2)), (0, .ref h)]) hx hb dL_isPeeledSo_158 hl (by decide) rfl (fun ls hl => ?_)
  refine lv_iconst (v := (nI 0)) hx hb dL_isPeeledSo_160 (by decide) ?_
  refine lv_istore (lv' := [(8, .int (nI 0)), (5, .int (nI 2)), (7, .int (nI 1)), (6, .int (nI 0)), (4, .int (nI 0)), (3, .int (nI 0)), (2, .int (nI 0)), (1, .int (nI 2)), (0, .ref h)]) hx hb dL_isPeeledSo_161 hl (by decide) rfl (fun ls hl => ?_)
  refine lv_iload hx hb dL_isPeeledSo_163 (lv_at hl 0 rfl) ?_
  refine lv_iload hx hb dL_isPeeledSo_165 (lv_at hl 2 rfl) ?_
  refine k_icmp_ge_f (tgt := 215) hx hb dL_isPeeledSo_167 (by decide) (by decide +kernel) ?_
  refine lv_iload hx hb dL_isPeeledSo_170 (lv_at hl 3 rfl) ?_
  refine lv_aload_n hx hb dL_isPeeledSo_172 rfl (lv_at hl 8 rfl) ?_
  refine lv_iload hx hb dL_isPeeledSo_173 (lv_at hl 2 rfl) ?_
  refine zrV (As := [.int (nI 1)]) (rest := [.int (nI 0)]) 0 ⟨hx, hb, hml, hown, hts⟩ (c_X0_isDense_ok l D cy h a0 a1 a2 2 (nI 0) (nI 0) zf zf tr 1 (by decide) (by decide) zew2) (cwV 1 hts gL_isPeeledSo_X0_isDense rfl rfl rfl (by decide +kernel) ⟨Nat.le_of_ble_eq_true rfl, Nat.le_of_ble_eq_true rfl⟩) hK hP rfl rfl rfl hl rfl (Nat.le_of_ble_eq_true rfl) dL_isPeeledSo_175 ⟨Nat.le_of_ble_eq_true rfl, Nat.le_of_ble_eq_true rfl⟩ hS (fun r9 H7 locs hw9 hk9 hS => ?_)
  obtain rfl : r9 = (zb true) := hw9.trans (congrArg zb zde1)
  have hP := zkeep hP hk9
  have hz : s.heap.size + 0 ≤ H7.size := Nat.le_trans hz hk9.1
  refine k_if_eq_f (tgt := 205) hx hb dL_isPeeledSo_178 (by decide) (by decide +kernel) ?_
  refine lv_aload_n hx hb dL_isPeeledSo_181 rfl (lv_at hl 8 rfl) ?_
  refine lv_iload hx hb dL_isPeeledSo_182 (lv_at hl 0 rfl) ?_
  refine zrV (As := [.int (nI 0)]) (rest := [.int (nI 0)]) 0 ⟨hx, hb, hml, hown, hts⟩ (c_X0_isDense_ok l D cy h a0 a1 a2 2 (nI 0) (nI 0) zf zf tr 0 (by decide) (by decide) zew2) (cwV 1 hts gL_isPeeledSo_X0_isDense rfl rfl rfl (by decide +kernel) ⟨Nat.le_of_ble_eq_true rfl, Nat.le_of_ble_eq_true rfl⟩) hK hP rfl rfl rfl hl rfl (Nat.le_of_ble_eq_true rfl) dL_isPeeledSo_184 ⟨Nat.le_of_ble_eq_true rfl, Nat.le_of_ble_eq_true rfl⟩ hS (fun r9 H8 locs hw9 hk9 hS => ?_)
  obtain rfl : r9 = (zb true) := hw9.trans (congrArg zb zde0)
  have hP := zkeep hP hk9
  have hz : s.heap.size + 0 ≤ H8.size := Nat.le_trans hz hk9.1
  refine k_if_eq_f (tgt := 205) hx hb dL_isPeeledSo_187 (by decide) (by decide +kernel) ?_
  refine lv_aload_n hx hb dL_isPeeledSo_190 rfl (lv_at hl 8 rfl) ?_
  refine lv_iload hx hb dL_isPeeledSo_191 (lv_at hl 2 rfl) ?_
  refine lv_iload hx hb dL_isPeeledSo_193 (lv_at hl 0 rfl) ?_
  refine zrV (As := [.int (nI 1), .int (nI 0)]) (rest := [.int (nI 0)]) 0 ⟨hx, hb, hml, hown, hts⟩ (c_X0_areJoined_ok l D cy h a0 a1 a2 2 (nI 0) (nI 0) zf zf tr 1 0 (by decide) (by decide) (by decide)) (cwV 2 hts gL_isPeeledSo_X0_areJoined rfl rfl rfl (by decide +kernel) ⟨Nat.le_of_ble_eq_true rfl, Nat.le_of_ble_eq_true rfl⟩) hK hP rfl rfl rfl hl rfl (Nat.le_of_ble_eq_true rfl) dL_isPeeledSo_195 ⟨Nat.le_of_ble_eq_true rfl, Nat.le_of_ble_eq_true rfl⟩ hS (fun r9 H9 locs hw9 hk9 hS => ?_)
  obtain rfl : r9 = (zb false) := hw9.trans (congrArg zb (zf_b 1 0))
  have hP := zkeep hP hk9
  have hz : s.heap.size + 0 ≤ H9.size := Nat.le_trans hz hk9.1
  refine k_if_eq_t (tgt := 205) hx hb dL_isPeeledSo_198 (by decide) (by decide +kernel) ?_
  refine lv_iconst (v := (nI 0)) hx hb dL_isPeeledSo_205 (by decide) ?_
  refine k_iadd (v := (nI 0)) hx hb dL_isPeeledSo_206 (by decide +kernel) ?_
  refine lv_istore (lv' := [(6, .int (nI 0)), (8, .int (nI 0)), (5, .int (nI 2)), (7, .int (nI 1)), (4, .int (nI 0)), (3, .int (nI 0)), (2, .int (nI 0)), (1, .int (nI 2)), (0, .ref h)]) hx hb dL_isPeeledSo_207 hl (by decide) rfl (fun ls hl => ?_)
  refine lv_iinc (v := (nI 1)) (lv' := [(8, .int (nI 1)), (6, .int (nI 0)), (5, .int (nI 2)), (7, .int (nI 1)), (4, .int (nI 0)), (3, .int (nI 0)), (2, .int (nI 0)), (1, .int (nI 2)), (0, .ref h)]) hx hb dL_isPeeledSo_209 hl (k := 1) rfl (by decide +kernel) (by decide) rfl (fun ls hl => ?_)
  refine lv_goto (tgt := 163) hx hb dL_isPeeledSo_212 (by decide) ?_
  refine lv_iload hx hb dL_isPeeledSo_163 (lv_at hl 0 rfl) ?_
  refine lv_iload hx hb dL_isPeeledSo_165 (lv_at hl 3 rfl) ?_
  refine k_icmp_ge_t (tgt := 215) hx hb dL_isPeeledSo_167 (by decide) (by decide +kernel) ?_
  refine lv_iinc (v := (nI 2)) (lv' := [(7, .int (nI 2)), (8, .int (nI 1)), (6, .int (nI 0)), (5, .int (nI 2)), (4, .int (nI 0)), (3, .int (nI 0)), (2, .int (nI 0)), (1, .int (nI 2)), (0, .ref h)]) hx hb dL_isPeeledSo_215 hl (k := 3) rfl (by decide +kernel) (by decide) rfl (fun ls hl => ?_)
  refine lv_goto (tgt := 135) hx hb dL_isPeeledSo_218 (by decide) ?_
  refine lv_iload hx hb dL_isPeeledSo_135 (lv_at hl 0 rfl) ?_
  refine lv_iload_n hx hb dL_isPeeledSo_137 rfl (lv_at hl 7 rfl) ?_
  refine k_icmp_ge_t (tgt := 221) hx hb dL_isPeeledSo_138 (by decide) (by decide +kernel) ?_
  refine lv_iload_n hx hb dL_isPeeledSo_221 rfl (lv_at hl 5 rfl) ?_
  refine lv_aload_n hx hb dL_isPeeledSo_222 rfl (lv_at hl 8 rfl) ?_
  refine zrV (As := []) (rest := [.int (nI 0)]) 0 ⟨hx, hb, hml, hown, hts⟩ (c_X0_degeneracy l D cy h a0 a1 a2 2 (nI 0) (nI 0) zf zf tr z0 (by decide) (zcs _)) (cwV 0 hts gL_isPeeledSo_X0_degeneracy rfl rfl rfl (by decide +kernel) ⟨Nat.le_of_ble_eq_true rfl, Nat.le_of_ble_eq_true rfl⟩) hK hP rfl rfl rfl hl rfl (Nat.le_of_ble_eq_true rfl) dL_isPeeledSo_223 ⟨Nat.le_of_ble_eq_true rfl, Nat.le_of_ble_eq_true rfl⟩ hS (fun r9 H10 locs hw9 hk9 hS => ?_)
  obtain rfl : r9 = (nI 0) := by obtain ⟨d, h1, -, h2⟩ := hw9; rw [h1, zdeg0 h2]
  have hP := zkeep hP hk9
  have hz : s.heap.size + 0 ≤ H10.size := Nat.le_trans hz hk9.1
  refine k_icmp_ne_f (tgt := 273) hx hb dL_isPeeledSo_226 (by decide) (by decide +kernel) ?_
  refine lv_iload hx hb dL_isPeeledSo_229 (lv_at hl 4 rfl) ?_
  refine lv_aload_n hx hb dL_isPeeledSo_231 rfl (lv_at hl 8 rfl) ?_
  refine zrV (As := []) (rest := [.int (nI 0)]) 0 ⟨hx, hb, hml, hown, hts⟩ (c_X0_edges l D cy h a0 a1 a2 2 (nI 0) (nI 0) zf zf tr) (cwV 0 hts gL_isPeeledSo_X0_edges rfl rfl rfl (by decide +kernel) ⟨Nat.le_of_ble_eq_true rfl, Nat.le_of_ble_eq_true rfl⟩) hK hP rfl rfl rfl hl rfl (Nat.le_of_ble_eq_true rfl) dL_isPeeledSo_232 ⟨Nat.le_of_ble_eq_true rfl, Nat.le_of_ble_eq_true rfl⟩ hS (fun r9 H11 locs hw9 hk9 hS => ?_)
  obtain rfl : r9 = (nI 0) := hw9
  have hP := zkeep hP hk9
  have hz : s.heap.size + 0 ≤ H11.size := Nat.le_trans hz hk9.1
  refine k_icmp_ne_f (tgt := 273) hx hb dL_isPeeledSo_235 (by decide) (by decide +kernel) ?_
  refine lv_iload hx hb dL_isPeeledSo_238 (lv_at hl 3 rfl) ?_
  refine lv_aload_n hx hb dL_isPeeledSo_240 rfl (lv_at hl 8 rfl) ?_
  refine zrV (As := []) (rest := [.int (nI 2)]) 0 ⟨hx, hb, hml, hown, hts⟩ (c_X0_denseSize l D cy h a0 a1 a2 2 (nI 0) (nI 0) zf zf tr (by decide) zew2) (cwV 0 hts gL_isPeeledSo_X0_denseSize rfl rfl rfl (by decide +kernel) ⟨Nat.le_of_ble_eq_true rfl, Nat.le_of_ble_eq_true rfl⟩) hK hP rfl rfl rfl hl rfl (Nat.le_of_ble_eq_true rfl) dL_isPeeledSo_241 ⟨Nat.le_of_ble_eq_true rfl, Nat.le_of_ble_eq_true rfl⟩ hS (fun r9 H12 locs hw9 hk9 hS => ?_)
  obtain rfl : r9 = (nI 2) := hw9.trans (congrArg nI zds)
  have hP := zkeep hP hk9
  have hz : s.heap.size + 0 ≤ H12.size := Nat.le_trans hz hk9.1
  refine k_icmp_ne_f (tgt := 273) hx hb dL_isPeeledSo_244 (by decide) (by decide +kernel) ?_
  refine lv_iload_n hx hb dL_isPeeledSo_247 rfl (lv_at hl 7 rfl) ?_
  refine k_if_ne_t (tgt := 255) hx hb dL_isPeeledSo_248 (by decide) (by decide +kernel) ?_
  refine lv_iconst (v := (nI 0)) hx hb dL_isPeeledSo_255 (by decide) ?_
  refine lv_iload hx hb dL_isPeeledSo_256 (lv_at hl 3 rfl) ?_
  refine k_if_ne_t (tgt := 265) hx hb dL_isPeeledSo_258 (by decide) (by decide +kernel) ?_
  refine lv_iconst (v := (nI 0)) hx hb dL_isPeeledSo_265 (by decide) ?_
  refine k_icmp_ne_f (tgt := 273) hx hb dL_isPeeledSo_266 (by decide) (by decide +kernel) ?_
  refine lv_iconst (v := (nI 1)) hx hb dL_isPeeledSo_269 (by decide) ?_
  refine lv_goto (tgt := 274) hx hb dL_isPeeledSo_270 (by decide) ?_
  refine lv_istore (lv' := [(7, .int (nI 1)), (8, .int (nI 1)), (6, .int (nI 0)), (5, .int (nI 2)), (4, .int (nI 0)), (3, .int (nI 0)), (2, .int (nI 0)), (1, .int (nI 2)), (0, .ref h)]) hx hb dL_isPeeledSo_274 hl (by decide) rfl (fun ls hl => ?_)
  refine lv_iload hx hb dL_isPeeledSo_276 (lv_at hl 0 rfl) ?_
  refine k_if_eq_f (tgt := 330) hx hb dL_isPeeledSo_278 (by decide) (by decide +kernel) ?_
  refine lv_iload_n hx hb dL_isPeeledSo_281 rfl (lv_at hl 7 rfl) ?_
  refine k_if_ne_t (tgt := 297) hx hb dL_isPeeledSo_282 (by decide) (by decide +kernel) ?_
  refine lv_aload_n hx hb dL_isPeeledSo_297 rfl (lv_at hl 8 rfl) ?_
  refine zrVd (As := []) (rest := []) 0 ⟨hx, hb, hml, hown, hts⟩ (c_X0_density l D cy h a0 a1 a2 2 (nI 0) (nI 0) zf zf tr (by decide) (zgd (by decide)) zew2) (cwV 0 hts gL_isPeeledSo_X0_density rfl rfl rfl (by decide +kernel) ⟨Nat.le_of_ble_eq_true rfl, Nat.le_of_ble_eq_true rfl⟩) hK hP rfl rfl rfl hl rfl (Nat.le_of_ble_eq_true rfl) dL_isPeeledSo_298 ⟨Nat.le_of_ble_eq_true rfl, Nat.le_of_ble_eq_true rfl⟩ hS (fun r9 H13 locs hw9 hk9 hS => ?_)
  obtain rfl : r9 = ddq 0 2 := hw9.trans zdn
  have hP := zkeep hP hk9
  have hz : s.heap.size + 0 ≤ H13.size := Nat.le_trans hz hk9.1
  refine lv_iload hx hb dL_isPeeledSo_301 (lv_at hl 2 rfl) ?_
  refine lv_i2d hx hb dL_isPeeledSo_303 ?_
  refine lv_iload hx hb dL_isPeeledSo_304 (lv_at hl 3 rfl) ?_
  refine lv_i2d hx hb dL_isPeeledSo_306 ?_
  refine lv_ddiv hx hb dL_isPeeledSo_307 (ddc_n zdc) ?_
  refine z_dcmp hx hb (x := ddq 0 2) zdq dL_isPeeledSo_308 ?_
  refine k_if_ne_f (tgt := 330) hx hb dL_isPeeledSo_309 (by decide) (by decide +kernel) ?_
  refine lv_iload hx hb dL_isPeeledSo_312 (lv_at hl 2 rfl) ?_
  refine lv_iload_n hx hb dL_isPeeledSo_314 rfl (lv_at hl 7 rfl) ?_
  refine k_imul (v := (nI 0)) hx hb dL_isPeeledSo_315 (by decide +kernel) ?_
  refine lv_aload_n hx hb dL_isPeeledSo_316 rfl (lv_at hl 8 rfl) ?_
  refine zrV (As := []) (rest := [.int (nI 0)]) 0 ⟨hx, hb, hml, hown, hts⟩ (c_X0_edges l D cy h a0 a1 a2 2 (nI 0) (nI 0) zf zf tr) (cwV 0 hts gL_isPeeledSo_X0_edges rfl rfl rfl (by decide +kernel) ⟨Nat.le_of_ble_eq_true rfl, Nat.le_of_ble_eq_true rfl⟩) hK hP rfl rfl rfl hl rfl (Nat.le_of_ble_eq_true rfl) dL_isPeeledSo_317 ⟨Nat.le_of_ble_eq_true rfl, Nat.le_of_ble_eq_true rfl⟩ hS (fun r9 H14 locs hw9 hk9 hS => ?_)
  obtain rfl : r9 = (nI 0) := hw9
  have hP := zkeep hP hk9
  have hz : s.heap.size + 0 ≤ H14.size := Nat.le_trans hz hk9.1
  refine lv_iload hx hb dL_isPeeledSo_320 (lv_at hl 3 rfl) ?_
  refine k_imul (v := (nI 0)) hx hb dL_isPeeledSo_322 (by decide +kernel) ?_
  refine k_icmp_lt_f (tgt := 330) hx hb dL_isPeeledSo_323 (by decide) (by decide +kernel) ?_
  refine lv_iconst (v := (nI 1)) hx hb dL_isPeeledSo_326 (by decide) ?_
  refine lv_goto (tgt := 331) hx hb dL_isPeeledSo_327 (by decide) ?_
  refine W.widen (k := 0) (n := 0) (Nat.le_of_ble_eq_true rfl) (Nat.le_of_ble_eq_true rfl) ?_
  refine vx_ret ?_
  exact W.zret (v := (nI 1)) (ty := .boolean) hx hb hr rfl (fun t9 ht9 hW9 => ⟨⟨(nI 1), (), rfl, rfl, by show s.heap.size + 0 ≤ t9.heap.size; rw [ht9]; exact hz⟩, hS.F ht9⟩) hS.2.2 dL_isPeeledSo_331
