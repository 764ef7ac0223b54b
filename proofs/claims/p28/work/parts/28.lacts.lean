set_option maxHeartbeats 4000000 in
set_option maxRecDepth 100000 in
theorem w_areCoresSo_2 (l : Launch) (hfl : l.stackTraces = false) (D : va_G) (cy : ClassId) (h a0 a1 a2 : Nat) (tr : Nat → Int32) (sz : Nat)  : vx_Met l yL_areCoresSo wsL_areCoresSo ({ frames := 8, cells := 0, slots := 0, locals := 123 } : Room) (va_Pc [.ref h] (zWr D (wZ h a0 a1 a2 cy 2 tr) [(cy, .int)] sz)) (va_Qi (fun (r : Int32) (z9 : (Nat → Int32)) => r = (nI 1)) (fun (z9 : (Nat → Int32)) t => va_P D vwCl (wZ h a0 a1 a2 cy 2 z9) t.heap) (va_A (wZ h a0 a1 a2 cy 2 tr) sz)) zXn 0 0 (va_A (wZ h a0 a1 a2 cy 2 tr) sz) := by
  refine vx_ofW (cc := cL_areCoresSo) (maxL := 4) (ret := (some .boolean)) (by decide) rfl ?_
  intro p e s m args below meth c s₁ B hml hto hv
  obtain ⟨rfl, hsz, hP, hK, hD0⟩ := hv
  have hx := B.exec
  have hb := B.bytes
  have hr := B.returns
  have hts := atoms_spec (ws := wsL_areCoresSo) B.pre
  have hown : s.vm.findClass RL = some m.cls := findClass_of_methodNamed B.named
  have hlocks := B.notSynchronized
  subst hsz
  have hD := hD0.self (sz := s.heap.size)
  generalize hAe : va_A (wZ h a0 a1 a2 cy 2 tr) s.heap.size = A at hD ⊢
  have hA : ∀ q : Nat, s.heap.size ≤ q → A q := fun q h => by rw [← hAe]; exact Or.inr h
  have hS : va_S A s.heap s.heap [] := va_S.rf
  have hl := lv_entry ([.ref h]) (n := 4) (Nat.le_of_ble_eq_true rfl)
  rw [lg_entry_eq]
  generalize (lg_sl ([.ref h]) ++ List.replicate (4 - (lg_sl ([.ref h])).length) Slot.unset).toArray = ls at hl ⊢
  have hl : lv_has ls 4 [(0, .ref h)] := hl
  refine lv_aload_n hx hb dL_areCoresSo_0 rfl (lv_at hl 0 rfl) ?_
  refine zrV (As := []) (rest := []) 0 ⟨hx, hb, hml, hown, hts⟩ (c_X0_degeneracy l D cy h a0 a1 a2 2 (nI 0) (nI 0) zf zf tr z0 (by decide) (zcs _)) (cwV 0 hts gL_areCoresSo_X0_degeneracy rfl rfl rfl (by decide +kernel) ⟨Nat.le_of_ble_eq_true rfl, Nat.le_of_ble_eq_true rfl⟩) hK hP rfl rfl rfl hl rfl (Nat.le_of_ble_eq_true rfl) dL_areCoresSo_1 ⟨Nat.le_of_ble_eq_true rfl, Nat.le_of_ble_eq_true rfl⟩ hS (fun r9 H1 locs hw9 hk9 hS => ?_)
  obtain rfl : r9 = (nI 0) := by obtain ⟨d, h1, -, h2⟩ := hw9; rw [h1, zdeg0 h2]
  have hP := zkeep hP hk9
  refine lv_istore_n (lv' := [(1, .int (nI 0)), (0, .ref h)]) hx hb dL_areCoresSo_4 rfl hl (by decide) rfl (fun ls hl => ?_)
  refine lv_aload_n hx hb dL_areCoresSo_5 rfl (lv_at hl 1 rfl) ?_
  refine lv_iconst (v := (nI 0)) hx hb dL_areCoresSo_6 (by decide) ?_
  refine zrV (As := [.int (nI 0)]) (rest := []) 0 ⟨hx, hb, hml, hown, hts⟩ (c_X0_coreSize_ok l D cy h a0 a1 a2 2 (nI 0) (nI 0) zf zf tr (nI 0) z0 (by decide) (by decide) (zcs _)) (cwV 1 hts gL_areCoresSo_X0_coreSize rfl rfl rfl (by decide +kernel) ⟨Nat.le_of_ble_eq_true rfl, Nat.le_of_ble_eq_true rfl⟩) hK hP rfl rfl rfl hl rfl (Nat.le_of_ble_eq_true rfl) dL_areCoresSo_7 ⟨Nat.le_of_ble_eq_true rfl, Nat.le_of_ble_eq_true rfl⟩ hS (fun r9 H2 locs hw9 hk9 hS => ?_)
  obtain rfl : r9 = (nI 2) := hw9.trans (congrArg nI zcz0)
  have hP := zkeep hP hk9
  refine lv_aload_n hx hb dL_areCoresSo_10 rfl (lv_at hl 1 rfl) ?_
  refine zrV (As := []) (rest := [.int (nI 2)]) 0 ⟨hx, hb, hml, hown, hts⟩ (c_X0_nodes l D cy h a0 a1 a2 2 (nI 0) (nI 0) zf zf tr) (cwV 0 hts gL_areCoresSo_X0_nodes rfl rfl rfl (by decide +kernel) ⟨Nat.le_of_ble_eq_true rfl, Nat.le_of_ble_eq_true rfl⟩) hK hP rfl rfl rfl hl rfl (Nat.le_of_ble_eq_true rfl) dL_areCoresSo_11 ⟨Nat.le_of_ble_eq_true rfl, Nat.le_of_ble_eq_true rfl⟩ hS (fun r9 H3 locs hw9 hk9 hS => ?_)
  obtain rfl : r9 = (nI 2) := hw9
  have hP := zkeep hP hk9
  refine k_icmp_ne_f (tgt := 81) hx hb dL_areCoresSo_14 (by decide) (by decide +kernel) ?_
  refine lv_aload_n hx hb dL_areCoresSo_17 rfl (lv_at hl 1 rfl) ?_
  refine lv_iload_n hx hb dL_areCoresSo_18 rfl (lv_at hl 0 rfl) ?_
  refine lv_iconst (v := (nI 1)) hx hb dL_areCoresSo_19 (by decide) ?_
  refine k_iadd (v := (nI 1)) hx hb dL_areCoresSo_20 (by decide +kernel) ?_
  refine zrV (As := [.int (nI 1)]) (rest := []) 0 ⟨hx, hb, hml, hown, hts⟩ (c_X0_coreSize_ok l D cy h a0 a1 a2 2 (nI 0) (nI 0) zf zf tr (nI 1) z0 (by decide) (by decide) (zcs _)) (cwV 1 hts gL_areCoresSo_X0_coreSize rfl rfl rfl (by decide +kernel) ⟨Nat.le_of_ble_eq_true rfl, Nat.le_of_ble_eq_true rfl⟩) hK hP rfl rfl rfl hl rfl (Nat.le_of_ble_eq_true rfl) dL_areCoresSo_21 ⟨Nat.le_of_ble_eq_true rfl, Nat.le_of_ble_eq_true rfl⟩ hS (fun r9 H4 locs hw9 hk9 hS => ?_)
  obtain rfl : r9 = (nI 0) := hw9.trans (congrArg nI zcz1)
  have hP := zkeep hP hk9
  refine k_if_ne_f (tgt := 81) hx hb dL_areCoresSo_24 (by decide) (by decide +kernel) ?_
  refine lv_aload_n hx hb dL_areCoresSo_27 rfl (lv_at hl 1 rfl) ?_
  refine zrV (As := []) (rest := []) 0 ⟨hx, hb, hml, hown, hts⟩ (c_X0_nodes l D cy h a0 a1 a2 2 (nI 0) (nI 0) zf zf tr) (cwV 0 hts gL_areCoresSo_X0_nodes rfl rfl rfl (by decide +kernel) ⟨Nat.le_of_ble_eq_true rfl, Nat.le_of_ble_eq_true rfl⟩) hK hP rfl rfl rfl hl rfl (Nat.le_of_ble_eq_true rfl) dL_areCoresSo_28 ⟨Nat.le_of_ble_eq_true rfl, Nat.le_of_ble_eq_true rfl⟩ hS (fun r9 H5 locs hw9 hk9 hS => ?_)
  obtain rfl : r9 = (nI 2) := hw9
  have hP := zkeep hP hk9
  refine k_if_eq_f (tgt := 43) hx hb dL_areCoresSo_31 (by decide) (by decide +kernel) ?_
  refine lv_aload_n hx hb dL_areCoresSo_34 rfl (lv_at hl 1 rfl) ?_
  refine lv_iload_n hx hb dL_areCoresSo_35 rfl (lv_at hl 0 rfl) ?_
  refine zrV (As := [.int (nI 0)]) (rest := []) 0 ⟨hx, hb, hml, hown, hts⟩ (c_X0_coreSize_ok l D cy h a0 a1 a2 2 (nI 0) (nI 0) zf zf tr (nI 0) z0 (by decide) (by decide) (zcs _)) (cwV 1 hts gL_areCoresSo_X0_coreSize rfl rfl rfl (by decide +kernel) ⟨Nat.le_of_ble_eq_true rfl, Nat.le_of_ble_eq_true rfl⟩) hK hP rfl rfl rfl hl rfl (Nat.le_of_ble_eq_true rfl) dL_areCoresSo_36 ⟨Nat.le_of_ble_eq_true rfl, Nat.le_of_ble_eq_true rfl⟩ hS (fun r9 H6 locs hw9 hk9 hS => ?_)
  obtain rfl : r9 = (nI 2) := hw9.trans (congrArg nI zcz0)
  have hP := zkeep hP hk9
  refine lv_iload_n hx hb dL_areCoresSo_39 rfl (lv_at hl 0 rfl) ?_
  refine k_icmp_le_f (tgt := 81) hx hb dL_areCoresSo_40 (by decide) (by decide +kernel) ?_
  refine lv_aload_n hx hb dL_areCoresSo_43 rfl (lv_at hl 1 rfl) ?_
  refine lv_iload_n hx hb dL_areCoresSo_44 rfl (lv_at hl 0 rfl) ?_
  refine lv_iconst (v := (nI 1)) hx hb dL_areCoresSo_45 (by decide) ?_
  refine k_iadd (v := (nI 1)) hx hb dL_areCoresSo_46 (by decide +kernel) ?_
  refine zrV (As := [.int (nI 1)]) (rest := []) 0 ⟨hx, hb, hml, hown, hts⟩ (c_X0_communities_ok l D cy h a0 a1 a2 2 (nI 0) (nI 0) zf zf tr (nI 1) z0 (by decide) (zgd (by decide)) (by decide) (zcs _)) (cwV 1 hts gL_areCoresSo_X0_communities rfl rfl rfl (by decide +kernel) ⟨Nat.le_of_ble_eq_true rfl, Nat.le_of_ble_eq_true rfl⟩) hK hP rfl rfl rfl hl rfl (Nat.le_of_ble_eq_true rfl) dL_areCoresSo_47 ⟨Nat.le_of_ble_eq_true rfl, Nat.le_of_ble_eq_true rfl⟩ hS (fun r9 H7 locs hw9 hk9 hS => ?_)
  obtain rfl : r9 = (nI 0) := hw9.trans (congrArg nI (zcomm1 (by decide)))
  have hP := zkeep hP hk9
  refine k_if_ne_f (tgt := 81) hx hb dL_areCoresSo_50 (by decide) (by decide +kernel) ?_
  refine lv_aload_n hx hb dL_areCoresSo_53 rfl (lv_at hl 1 rfl) ?_
  refine lv_iconst (v := (nI 2)) hx hb dL_areCoresSo_54 (by decide) ?_
  refine zwVi (As := [.int (nI 2)]) (rest := []) 0 [0, 1, 2, 3] rfl ⟨hx, hb, hml, hown, hts⟩ (c_X0_trussSize_ok l D cy h a0 a1 a2 2 (nI 0) (nI 0) zf zf tr _ (nI 2) (by decide) (zgd (by decide)) (by decide)) (cwV 1 hts gL_areCoresSo_X0_trussSize rfl rfl rfl (by decide +kernel) ⟨Nat.le_of_ble_eq_true rfl, Nat.le_of_ble_eq_true rfl⟩) hK hP hD hA rfl rfl rfl hl rfl (Nat.le_of_ble_eq_true rfl) dL_areCoresSo_55 ⟨Nat.le_of_ble_eq_true rfl, Nat.le_of_ble_eq_true rfl⟩ hS (fun r9 tr_1 H8 locs hw9 hP hS => ?_)
  obtain rfl : r9 = (nI 0) := by obtain ⟨g9, h1, h2⟩ := hw9; rw [h2, ztr h1]
  have hP : va_P D vwCl (wZ h a0 a1 a2 cy 2 tr_1) H8 := hP
  have hD : va_D A (wZ h a0 a1 a2 cy 2 tr_1) := zD hD rfl
  refine lv_aload_n hx hb dL_areCoresSo_58 rfl (lv_at hl 1 rfl) ?_
  refine zrV (As := []) (rest := [.int (nI 0)]) 0 ⟨hx, hb, hml, hown, hts⟩ (c_X0_edges l D cy h a0 a1 a2 2 (nI 0) (nI 0) zf zf tr_1) (cwV 0 hts gL_areCoresSo_X0_edges rfl rfl rfl (by decide +kernel) ⟨Nat.le_of_ble_eq_true rfl, Nat.le_of_ble_eq_true rfl⟩) hK hP rfl rfl rfl hl rfl (Nat.le_of_ble_eq_true rfl) dL_areCoresSo_59 ⟨Nat.le_of_ble_eq_true rfl, Nat.le_of_ble_eq_true rfl⟩ hS (fun r9 H9 locs hw9 hk9 hS => ?_)
  obtain rfl : r9 = (nI 0) := hw9
  have hP := zkeep hP hk9
  refine k_icmp_ne_f (tgt := 81) hx hb dL_areCoresSo_62 (by decide) (by decide +kernel) ?_
  refine lv_aload_n hx hb dL_areCoresSo_65 rfl (lv_at hl 1 rfl) ?_
  refine zrV (As := []) (rest := []) 0 ⟨hx, hb, hml, hown, hts⟩ (c_X0_hierarchy l D cy h a0 a1 a2 2 (nI 0) (nI 0) zf zf tr_1 z0 (by decide) (zgd (by decide)) (zcs _)) (cwV 0 hts gL_areCoresSo_X0_hierarchy rfl rfl rfl (by decide +kernel) ⟨Nat.le_of_ble_eq_true rfl, Nat.le_of_ble_eq_true rfl⟩) hK hP rfl rfl rfl hl rfl (Nat.le_of_ble_eq_true rfl) dL_areCoresSo_66 ⟨Nat.le_of_ble_eq_true rfl, Nat.le_of_ble_eq_true rfl⟩ hS (fun r9 H10 locs hw9 hk9 hS => ?_)
  obtain rfl : r9 = (nI (kC 2)) := by obtain ⟨d, h1, h2⟩ := hw9; rw [h2, zdeg0 h1, zhie (by decide)]
  have hP := zkeep hP hk9
  refine lv_aload_n hx hb dL_areCoresSo_69 rfl (lv_at hl 1 rfl) ?_
  refine lv_iconst (v := (nI 0)) hx hb dL_areCoresSo_70 (by decide) ?_
  refine zrV (As := [.int (nI 0)]) (rest := [.int (nI (kC 2))]) 0 ⟨hx, hb, hml, hown, hts⟩ (c_X0_communities_ok l D cy h a0 a1 a2 2 (nI 0) (nI 0) zf zf tr_1 (nI 0) z0 (by decide) (zgd (by decide)) (by decide) (zcs _)) (cwV 1 hts gL_areCoresSo_X0_communities rfl rfl rfl (by decide +kernel) ⟨Nat.le_of_ble_eq_true rfl, Nat.le_of_ble_eq_true rfl⟩) hK hP rfl rfl rfl hl rfl (Nat.le_of_ble_eq_true rfl) dL_areCoresSo_71 ⟨Nat.le_of_ble_eq_true rfl, Nat.le_of_ble_eq_true rfl⟩ hS (fun r9 H11 locs hw9 hk9 hS => ?_)
  obtain rfl : r9 = (nI (kC 2)) := hw9.trans (congrArg nI (zcomm0 _))
  have hP := zkeep hP hk9
  refine k_icmp_lt_f (tgt := 81) hx hb dL_areCoresSo_74 (by decide) Int32.lt_irrefl ?_
  refine lv_iconst (v := (nI 1)) hx hb dL_areCoresSo_77 (by decide) ?_
  refine lv_goto (tgt := 82) hx hb dL_areCoresSo_78 (by decide) ?_
  refine lv_istore_n (lv' := [(2, .int (nI 1)), (1, .int (nI 0)), (0, .ref h)]) hx hb dL_areCoresSo_82 rfl hl (by decide) rfl (fun ls hl => ?_)
  refine lv_iconst (v := (nI 0)) hx hb dL_areCoresSo_83 (by decide) ?_
  refine lv_istore_n (lv' := [(3, .int (nI 0)), (2, .int (nI 1)), (1, .int (nI 0)), (0, .ref h)]) hx hb dL_areCoresSo_84 rfl hl (by decide) rfl (fun ls hl => ?_)
  refine lv_iload_n hx hb dL_areCoresSo_85 rfl (lv_at hl 0 rfl) ?_
  refine lv_iload_n hx hb dL_areCoresSo_86 rfl (lv_at hl 2 rfl) ?_
  refine k_icmp_gt_f (tgt := 150) hx hb dL_areCoresSo_87 (by decide) (by decide +kernel) ?_
  refine lv_iload_n hx hb dL_areCoresSo_90 rfl (lv_at hl 1 rfl) ?_
  refine k_if_eq_f (tgt := 142) hx hb dL_areCoresSo_91 (by decide) (by decide +kernel) ?_
  refine lv_aload_n hx hb dL_areCoresSo_94 rfl (lv_at hl 3 rfl) ?_
  refine lv_iload_n hx hb dL_areCoresSo_95 rfl (lv_at hl 0 rfl) ?_
  refine zrV (As := [.int (nI 0)]) (rest := []) 0 ⟨hx, hb, hml, hown, hts⟩ (c_X0_coreSize_ok l D cy h a0 a1 a2 2 (nI 0) (nI 0) zf zf tr_1 (nI 0) z0 (by decide) (by decide) (zcs _)) (cwV 1 hts gL_areCoresSo_X0_coreSize rfl rfl rfl (by decide +kernel) ⟨Nat.le_of_ble_eq_true rfl, Nat.le_of_ble_eq_true rfl⟩) hK hP rfl rfl rfl hl rfl (Nat.le_of_ble_eq_true rfl) dL_areCoresSo_96 ⟨Nat.le_of_ble_eq_true rfl, Nat.le_of_ble_eq_true rfl⟩ hS (fun r9 H12 locs hw9 hk9 hS => ?_)
  obtain rfl : r9 = (nI 2) := hw9.trans (congrArg nI zcz0)
  have hP := zkeep hP hk9
  refine lv_aload_n hx hb dL_areCoresSo_99 rfl (lv_at hl 3 rfl) ?_
  refine lv_iload_n hx hb dL_areCoresSo_100 rfl (lv_at hl 0 rfl) ?_
  refine lv_iconst (v := (nI 1)) hx hb dL_areCoresSo_101 (by decide) ?_
  refine k_iadd (v := (nI 1)) hx hb dL_areCoresSo_102 (by decide +kernel) ?_
  refine zrV (As := [.int (nI 1)]) (rest := [.int (nI 2)]) 0 ⟨hx, hb, hml, hown, hts⟩ (c_X0_coreSize_ok l D cy h a0 a1 a2 2 (nI 0) (nI 0) zf zf tr_1 (nI 1) z0 (by decide) (by decide) (zcs _)) (cwV 1 hts gL_areCoresSo_X0_coreSize rfl rfl rfl (by decide +kernel) ⟨Nat.le_of_ble_eq_true rfl, Nat.le_of_ble_eq_true rfl⟩) hK hP rfl rfl rfl hl rfl (Nat.le_of_ble_eq_true rfl) dL_areCoresSo_103 ⟨Nat.le_of_ble_eq_true rfl, Nat.le_of_ble_eq_true rfl⟩ hS (fun r9 H13 locs hw9 hk9 hS => ?_)
  obtain rfl : r9 = (nI 0) := hw9.trans (congrArg nI zcz1)
  have hP := zkeep hP hk9
  refine k_icmp_lt_f (tgt := 142) hx hb dL_areCoresSo_106 (by decide) (by decide +kernel) ?_
  refine lv_aload_n hx hb dL_areCoresSo_109 rfl (lv_at hl 3 rfl) ?_
  refine lv_iload_n hx hb dL_areCoresSo_110 rfl (lv_at hl 0 rfl) ?_
  refine lv_iconst (v := (nI 2)) hx hb dL_areCoresSo_111 (by decide) ?_
  refine k_iadd (v := (nI 2)) hx hb dL_areCoresSo_112 (by decide +kernel) ?_
  refine zwVi (As := [.int (nI 2)]) (rest := []) 0 [0, 1, 2, 3] rfl ⟨hx, hb, hml, hown, hts⟩ (c_X0_trussSize_ok l D cy h a0 a1 a2 2 (nI 0) (nI 0) zf zf tr_1 _ (nI 2) (by decide) (zgd (by decide)) (by decide)) (cwV 1 hts gL_areCoresSo_X0_trussSize rfl rfl rfl (by decide +kernel) ⟨Nat.le_of_ble_eq_true rfl, Nat.le_of_ble_eq_true rfl⟩) hK hP hD hA rfl rfl rfl hl rfl (Nat.le_of_ble_eq_true rfl) dL_areCoresSo_113 ⟨Nat.le_of_ble_eq_true rfl, Nat.le_of_ble_eq_true rfl⟩ hS (fun r9 tr_2 H14 locs hw9 hP hS => ?_)
  obtain rfl : r9 = (nI 0) := by obtain ⟨g9, h1, h2⟩ := hw9; rw [h2, ztr h1]
  have hP : va_P D vwCl (wZ h a0 a1 a2 cy 2 tr_2) H14 := hP
  have hD : va_D A (wZ h a0 a1 a2 cy 2 tr_2) := zD hD rfl
  refine lv_aload_n hx hb dL_areCoresSo_116 rfl (lv_at hl 3 rfl) ?_
  refine lv_iload_n hx hb dL_areCoresSo_117 rfl (lv_at hl 0 rfl) ?_
  refine lv_iconst (v := (nI 3)) hx hb dL_areCoresSo_118 (by decide) ?_
  refine k_iadd (v := (nI 3)) hx hb dL_areCoresSo_119 (by decide +kernel) ?_
  refine zwVi (As := [.int (nI 3)]) (rest := [.int (nI 0)]) 0 [0, 1, 2, 3] rfl ⟨hx, hb, hml, hown, hts⟩ (c_X0_trussSize_ok l D cy h a0 a1 a2 2 (nI 0) (nI 0) zf zf tr_2 _ (nI 3) (by decide) (zgd (by decide)) (by decide)) (cwV 1 hts gL_areCoresSo_X0_trussSize rfl rfl rfl (by decide +kernel) ⟨Nat.le_of_ble_eq_true rfl, Nat.le_of_ble_eq_true rfl⟩) hK hP hD hA rfl rfl rfl hl rfl (Nat.le_of_ble_eq_true rfl) dL_areCoresSo_120 ⟨Nat.le_of_ble_eq_true rfl, Nat.le_of_ble_eq_true rfl⟩ hS (fun r9 tr_3 H15 locs hw9 hP hS => ?_)
  obtain rfl : r9 = (nI 0) := by obtain ⟨g9, h1, h2⟩ := hw9; rw [h2, ztr h1]
  have hP : va_P D vwCl (wZ h a0 a1 a2 cy 2 tr_3) H15 := hP
  have hD : va_D A (wZ h a0 a1 a2 cy 2 tr_3) := zD hD rfl
  refine k_icmp_lt_f (tgt := 142) hx hb dL_areCoresSo_123 (by decide) (by decide +kernel) ?_
  refine lv_aload_n hx hb dL_areCoresSo_126 rfl (lv_at hl 3 rfl) ?_
  refine zrV (As := []) (rest := []) 0 ⟨hx, hb, hml, hown, hts⟩ (c_X0_hierarchy l D cy h a0 a1 a2 2 (nI 0) (nI 0) zf zf tr_3 z0 (by decide) (zgd (by decide)) (zcs _)) (cwV 0 hts gL_areCoresSo_X0_hierarchy rfl rfl rfl (by decide +kernel) ⟨Nat.le_of_ble_eq_true rfl, Nat.le_of_ble_eq_true rfl⟩) hK hP rfl rfl rfl hl rfl (Nat.le_of_ble_eq_true rfl) dL_areCoresSo_127 ⟨Nat.le_of_ble_eq_true rfl, Nat.le_of_ble_eq_true rfl⟩ hS (fun r9 H16 locs hw9 hk9 hS => ?_)
  obtain rfl : r9 = (nI (kC 2)) := by obtain ⟨d, h1, h2⟩ := hw9; rw [h2, zdeg0 h1, zhie (by decide)]
  have hP := zkeep hP hk9
  refine lv_aload_n hx hb dL_areCoresSo_130 rfl (lv_at hl 3 rfl) ?_
  refine lv_iload_n hx hb dL_areCoresSo_131 rfl (lv_at hl 0 rfl) ?_
  refine zrV (As := [.int (nI 0)]) (rest := [.int (nI (kC 2))]) 0 ⟨hx, hb, hml, hown, hts⟩ (c_X0_communities_ok l D cy h a0 a1 a2 2 (nI 0) (nI 0) zf zf tr_3 (nI 0) z0 (by decide) (zgd (by decide)) (by decide) (zcs _)) (cwV 1 hts gL_areCoresSo_X0_communities rfl rfl rfl (by decide +kernel) ⟨Nat.le_of_ble_eq_true rfl, Nat.le_of_ble_eq_true rfl⟩) hK hP rfl rfl rfl hl rfl (Nat.le_of_ble_eq_true rfl) dL_areCoresSo_132 ⟨Nat.le_of_ble_eq_true rfl, Nat.le_of_ble_eq_true rfl⟩ hS (fun r9 H17 locs hw9 hk9 hS => ?_)
  obtain rfl : r9 = (nI (kC 2)) := hw9.trans (congrArg nI (zcomm0 _))
  have hP := zkeep hP hk9
  refine k_icmp_lt_f (tgt := 142) hx hb dL_areCoresSo_135 (by decide) Int32.lt_irrefl ?_
  refine lv_iconst (v := (nI 1)) hx hb dL_areCoresSo_138 (by decide) ?_
  refine lv_goto (tgt := 143) hx hb dL_areCoresSo_139 (by decide) ?_
  refine lv_istore_n (lv' := [(2, .int (nI 1)), (3, .int (nI 0)), (1, .int (nI 0)), (0, .ref h)]) hx hb dL_areCoresSo_143 rfl hl (by decide) rfl (fun ls hl => ?_)
  refine lv_iinc (v := (nI 1)) (lv' := [(3, .int (nI 1)), (2, .int (nI 1)), (1, .int (nI 0)), (0, .ref h)]) hx hb dL_areCoresSo_144 hl (k := 1) rfl (by decide +kernel) (by decide) rfl (fun ls hl => ?_)
  refine lv_goto (tgt := 85) hx hb dL_areCoresSo_147 (by decide) ?_
  refine lv_iload_n hx hb dL_areCoresSo_85 rfl (lv_at hl 0 rfl) ?_
  refine lv_iload_n hx hb dL_areCoresSo_86 rfl (lv_at hl 2 rfl) ?_
  refine k_icmp_gt_t (tgt := 150) hx hb dL_areCoresSo_87 (by decide) (by decide +kernel) ?_
  refine lv_iload_n hx hb dL_areCoresSo_150 rfl (lv_at hl 1 rfl) ?_
  refine W.widen (k := 0) (n := 0) (Nat.le_of_ble_eq_true rfl) (Nat.le_of_ble_eq_true rfl) ?_
  refine vx_ret ?_
  exact W.zret (v := (nI 1)) (ty := .boolean) hx hb hr rfl (fun t9 ht9 hW9 => ⟨⟨(nI 1), tr_3, rfl, rfl, by show va_P D vwCl (wZ h a0 a1 a2 cy 2 tr_3) t9.heap; rw [ht9]; exact hP⟩, hS.F ht9⟩) hS.2.2 dL_areCoresSo_151

set_option maxHeartbeats 4000000 in
set_option maxRecDepth 100000 in
theorem w_act_0 (l : Launch) (hfl : l.stackTraces = false) (D : va_G) (cy : ClassId) (h a0 a1 a2 : Nat) (tr : Nat → Int32) (sz : Nat)  : vx_Met l yL_act wsL_act ({ frames := 2, cells := 0, slots := 0, locals := 42 } : Room) (va_Pc [.ref h, .int (nI 0)] (zWr D (wZ h a0 a1 a2 cy 0 tr) [(cy, .int)] sz)) (va_Qi (fun (r : Int32) (z9 : Unit) => r = (nI 0)) (fun (z9 : Unit) t => va_P D vwCl (wZ h a0 a1 a2 cy 1 tr) t.heap) (va_A (wZ h a0 a1 a2 cy 0 tr) sz)) zXn 0 0 (va_A (wZ h a0 a1 a2 cy 0 tr) sz) := by
  refine vx_ofW (cc := cL_act) (maxL := 6) (ret := (some .int)) (by decide) rfl ?_
  intro p e s m args below meth c s₁ B hml hto hv
  obtain ⟨rfl, hsz, hP, hK, hD0⟩ := hv
  have hx := B.exec
  have hb := B.bytes
  have hr := B.returns
  have hts := atoms_spec (ws := wsL_act) B.pre
  have hown : s.vm.findClass RL = some m.cls := findClass_of_methodNamed B.named
  have hlocks := B.notSynchronized
  subst hsz
  have hD := hD0.self (sz := s.heap.size)
  generalize hAe : va_A (wZ h a0 a1 a2 cy 0 tr) s.heap.size = A at hD ⊢
  have hA : ∀ q : Nat, s.heap.size ≤ q → A q := fun q h => by rw [← hAe]; exact Or.inr h
  have hS : va_S A s.heap s.heap [] := va_S.rf
  have hl := lv_entry ([.ref h, .int (nI 0)]) (n := 6) (Nat.le_of_ble_eq_true rfl)
  rw [lg_entry_eq]
  generalize (lg_sl ([.ref h, .int (nI 0)]) ++ List.replicate (6 - (lg_sl ([.ref h, .int (nI 0)])).length) Slot.unset).toArray = ls at hl ⊢
  have hl : lv_has ls 6 [(0, .ref h), (1, .int (nI 0))] := hl
  refine lv_iload_n hx hb dL_act_0 rfl (lv_at hl 1 rfl) ?_
  refine lv_bipush (v := (nI 24)) hx hb dL_act_1 (by decide) ?_
  refine k_ishr (v := (nI 0)) hx hb dL_act_3 (by decide +kernel) ?_
  refine lv_bipush (v := (nI 9)) hx hb dL_act_4 (by decide) ?_
  refine zrS0 (As := [.int (nI 0), .int (nI 9)]) (rest := []) ⟨hx, hb, hml, hown, hts⟩ (c_L_low l (nI 0) (nI 9) (by decide)) (va_cwS 2 hts gL_act_L_low rfl rfl rfl (by decide +kernel) ⟨Nat.le_of_ble_eq_true rfl, Nat.le_of_ble_eq_true rfl⟩) rfl hl rfl (Nat.le_of_ble_eq_true rfl) dL_act_6 ⟨Nat.le_of_ble_eq_true rfl, Nat.le_of_ble_eq_true rfl⟩ hS (fun r9 H1 locs hw9 hk9 hS => ?_)
  obtain rfl : r9 = (nI 0) := hw9.trans (by decide +kernel)
  have hP := zkeep hP hk9
  refine k_if_ne_f (tgt := 16) hx hb dL_act_9 (by decide) (by decide +kernel) ?_
  refine lv_iconst (v := (nI 1)) hx hb dL_act_12 (by decide) ?_
  refine lv_goto (tgt := 17) hx hb dL_act_13 (by decide) ?_
  refine lv_istore_n (lv' := [(2, .int (nI 1)), (0, .ref h), (1, .int (nI 0))]) hx hb dL_act_17 rfl hl (by decide) rfl (fun ls hl => ?_)
  refine lv_aload_n hx hb dL_act_18 rfl (lv_at hl 1 rfl) ?_
  refine zrV (As := []) (rest := []) 0 ⟨hx, hb, hml, hown, hts⟩ (c_X0_nodes l D cy h a0 a1 a2 0 (nI 0) (nI 0) zf zf tr) (cwV 0 hts gL_act_X0_nodes rfl rfl rfl (by decide +kernel) ⟨Nat.le_of_ble_eq_true rfl, Nat.le_of_ble_eq_true rfl⟩) hK hP rfl rfl rfl hl rfl (Nat.le_of_ble_eq_true rfl) dL_act_19 ⟨Nat.le_of_ble_eq_true rfl, Nat.le_of_ble_eq_true rfl⟩ hS (fun r9 H2 locs hw9 hk9 hS => ?_)
  obtain rfl : r9 = (nI 0) := hw9
  have hP := zkeep hP hk9
  refine lv_istore_n (lv' := [(3, .int (nI 0)), (2, .int (nI 1)), (0, .ref h), (1, .int (nI 0))]) hx hb dL_act_22 rfl hl (by decide) rfl (fun ls hl => ?_)
  refine lv_iload_n hx hb dL_act_23 rfl (lv_at hl 3 rfl) ?_
  refine lv_iconst (v := (nI 4)) hx hb dL_act_24 (by decide) ?_
  refine k_ishr (v := (nI 0)) hx hb dL_act_25 (by decide +kernel) ?_
  refine lv_iload_n hx hb dL_act_26 rfl (lv_at hl 0 rfl) ?_
  refine lv_iconst (v := (nI 1)) hx hb dL_act_27 (by decide) ?_
  refine k_iadd (v := (nI 1)) hx hb dL_act_28 (by decide +kernel) ?_
  refine zrS0 (As := [.int (nI 0), .int (nI 1)]) (rest := []) ⟨hx, hb, hml, hown, hts⟩ (c_L_low l (nI 0) (nI 1) (by decide)) (va_cwS 2 hts gL_act_L_low rfl rfl rfl (by decide +kernel) ⟨Nat.le_of_ble_eq_true rfl, Nat.le_of_ble_eq_true rfl⟩) rfl hl rfl (Nat.le_of_ble_eq_true rfl) dL_act_29 ⟨Nat.le_of_ble_eq_true rfl, Nat.le_of_ble_eq_true rfl⟩ hS (fun r9 H3 locs hw9 hk9 hS => ?_)
  obtain rfl : r9 = (nI 0) := hw9.trans (by decide +kernel)
  have hP := zkeep hP hk9
  refine lv_iload_n hx hb dL_act_32 rfl (lv_at hl 1 rfl) ?_
  refine k_if_eq_f (tgt := 40) hx hb dL_act_33 (by decide) (by decide +kernel) ?_
  refine lv_iconst (v := (nI 1)) hx hb dL_act_36 (by decide) ?_
  refine lv_goto (tgt := 41) hx hb dL_act_37 (by decide) ?_
  refine k_isub (v := (-1)) hx hb dL_act_41 (by decide +kernel) ?_
  refine lv_istore (lv' := [(4, .int (-1)), (3, .int (nI 0)), (2, .int (nI 1)), (0, .ref h), (1, .int (nI 0))]) hx hb dL_act_42 hl (by decide) rfl (fun ls hl => ?_)
  refine lv_iload_n hx hb dL_act_44 rfl (lv_at hl 4 rfl) ?_
  refine lv_bipush (v := (nI 9)) hx hb dL_act_45 (by decide) ?_
  refine k_ishr (v := (nI 0)) hx hb dL_act_47 (by decide +kernel) ?_
  refine lv_iload_n hx hb dL_act_48 rfl (lv_at hl 1 rfl) ?_
  refine lv_iconst (v := (nI 1)) hx hb dL_act_49 (by decide) ?_
  refine k_iadd (v := (nI 1)) hx hb dL_act_50 (by decide +kernel) ?_
  refine zrS0 (As := [.int (nI 0), .int (nI 1)]) (rest := []) ⟨hx, hb, hml, hown, hts⟩ (c_L_low l (nI 0) (nI 1) (by decide)) (va_cwS 2 hts gL_act_L_low rfl rfl rfl (by decide +kernel) ⟨Nat.le_of_ble_eq_true rfl, Nat.le_of_ble_eq_true rfl⟩) rfl hl rfl (Nat.le_of_ble_eq_true rfl) dL_act_51 ⟨Nat.le_of_ble_eq_true rfl, Nat.le_of_ble_eq_true rfl⟩ hS (fun r9 H4 locs hw9 hk9 hS => ?_)
  obtain rfl : r9 = (nI 0) := hw9.trans (by decide +kernel)
  have hP := zkeep hP hk9
  refine lv_istore (lv' := [(5, .int (nI 0)), (4, .int (-1)), (3, .int (nI 0)), (2, .int (nI 1)), (0, .ref h), (1, .int (nI 0))]) hx hb dL_act_54 hl (by decide) rfl (fun ls hl => ?_)
  refine lv_iload_n hx hb dL_act_56 rfl (lv_at hl 5 rfl) ?_
  refine lv_bipush (v := (nI 11)) hx hb dL_act_57 (by decide) ?_
  refine zrS0 (As := [.int (nI 0), .int (nI 11)]) (rest := []) ⟨hx, hb, hml, hown, hts⟩ (c_L_low l (nI 0) (nI 11) (by decide)) (va_cwS 2 hts gL_act_L_low rfl rfl rfl (by decide +kernel) ⟨Nat.le_of_ble_eq_true rfl, Nat.le_of_ble_eq_true rfl⟩) rfl hl rfl (Nat.le_of_ble_eq_true rfl) dL_act_59 ⟨Nat.le_of_ble_eq_true rfl, Nat.le_of_ble_eq_true rfl⟩ hS (fun r9 H5 locs hw9 hk9 hS => ?_)
  obtain rfl : r9 = (nI 0) := hw9.trans (by decide +kernel)
  have hP := zkeep hP hk9
  refine lv_tableIn (off := 30) (tgt := 92) hx hb dL_act_62 (by decide +kernel) (by decide +kernel) (by decide +kernel) (by decide) ?_
  refine lv_aload_n hx hb dL_act_92 rfl (lv_at hl 4 rfl) ?_
  refine kSWwi (As := [.ref h]) (rest := []) [0, 1, 2, 3] rfl ⟨hx, hb, hml, hown, hts⟩ (w_addNode l hfl D cy h a0 a1 a2 0 tr _ (by decide)) (vx_cwSW 1 hts gL_act_L_addNode rfl rfl rfl (by decide +kernel) ⟨Nat.le_of_ble_eq_true rfl, Nat.le_of_ble_eq_true rfl⟩) hK hP hD hA rfl hl rfl (Nat.le_of_ble_eq_true rfl) dL_act_93 ⟨Nat.le_of_ble_eq_true rfl, Nat.le_of_ble_eq_true rfl⟩ hS (fun r9 u9 H6 locs hw9 hP hS => ?_)
  obtain rfl : r9 = (nI 0) := hw9
  have hP : va_P D vwCl (wZ h a0 a1 a2 cy 1 tr) H6 := hP
  refine W.widen (k := 0) (n := 0) (Nat.le_of_ble_eq_true rfl) (Nat.le_of_ble_eq_true rfl) ?_
  refine vx_ret ?_
  exact W.iret (v := (nI 0)) hx hb hr (fun t9 ht9 hW9 => ⟨⟨(nI 0), (), rfl, rfl, by show va_P D vwCl (wZ h a0 a1 a2 cy 1 tr) t9.heap; rw [ht9]; exact hP⟩, hS.F ht9⟩) hS.2.2 dL_act_96

set_option maxHeartbeats 4000000 in
set_option maxRecDepth 100000 in
theorem w_act_1 (l : Launch) (hfl : l.stackTraces = false) (D : va_G) (cy : ClassId) (h a0 a1 a2 : Nat) (tr : Nat → Int32) (sz : Nat)  : vx_Met l yL_act wsL_act ({ frames := 2, cells := 0, slots := 0, locals := 42 } : Room) (va_Pc [.ref h, .int (nI 264)] (zWr D (wZ h a0 a1 a2 cy 1 tr) [(cy, .int)] sz)) (va_Qi (fun (r : Int32) (z9 : Unit) => r = (nI 1)) (fun (z9 : Unit) t => va_P D vwCl (wZ h a0 a1 a2 cy 2 tr) t.heap) (va_A (wZ h a0 a1 a2 cy 1 tr) sz)) zXn 0 0 (va_A (wZ h a0 a1 a2 cy 1 tr) sz) := by
  refine vx_ofW (cc := cL_act) (maxL := 6) (ret := (some .int)) (by decide) rfl ?_
  intro p e s m args below meth c s₁ B hml hto hv
  obtain ⟨rfl, hsz, hP, hK, hD0⟩ := hv
  have hx := B.exec
  have hb := B.bytes
  have hr := B.returns
  have hts := atoms_spec (ws := wsL_act) B.pre
  have hown : s.vm.findClass RL = some m.cls := findClass_of_methodNamed B.named
  have hlocks := B.notSynchronized
  subst hsz
  have hD := hD0.self (sz := s.heap.size)
  generalize hAe : va_A (wZ h a0 a1 a2 cy 1 tr) s.heap.size = A at hD ⊢
  have hA : ∀ q : Nat, s.heap.size ≤ q → A q := fun q h => by rw [← hAe]; exact Or.inr h
  have hS : va_S A s.heap s.heap [] := va_S.rf
  have hl := lv_entry ([.ref h, .int (nI 264)]) (n := 6) (Nat.le_of_ble_eq_true rfl)
  rw [lg_entry_eq]
  generalize (lg_sl ([.ref h, .int (nI 264)]) ++ List.replicate (6 - (lg_sl ([.ref h, .int (nI 264)])).length) Slot.unset).toArray = ls at hl ⊢
  have hl : lv_has ls 6 [(0, .ref h), (1, .int (nI 264))] := hl
  refine lv_iload_n hx hb dL_act_0 rfl (lv_at hl 1 rfl) ?_
  refine lv_bipush (v := (nI 24)) hx hb dL_act_1 (by decide) ?_
  refine k_ishr (v := (nI 0)) hx hb dL_act_3 (by decide +kernel) ?_
  refine lv_bipush (v := (nI 9)) hx hb dL_act_4 (by decide) ?_
  refine zrS0 (As := [.int (nI 0), .int (nI 9)]) (rest := []) ⟨hx, hb, hml, hown, hts⟩ (c_L_low l (nI 0) (nI 9) (by decide)) (va_cwS 2 hts gL_act_L_low rfl rfl rfl (by decide +kernel) ⟨Nat.le_of_ble_eq_true rfl, Nat.le_of_ble_eq_true rfl⟩) rfl hl rfl (Nat.le_of_ble_eq_true rfl) dL_act_6 ⟨Nat.le_of_ble_eq_true rfl, Nat.le_of_ble_eq_true rfl⟩ hS (fun r9 H1 locs hw9 hk9 hS => ?_)
  obtain rfl : r9 = (nI 0) := hw9.trans (by decide +kernel)
  have hP := zkeep hP hk9
  refine k_if_ne_f (tgt := 16) hx hb dL_act_9 (by decide) (by decide +kernel) ?_
  refine lv_iconst (v := (nI 1)) hx hb dL_act_12 (by decide) ?_
  refine lv_goto (tgt := 17) hx hb dL_act_13 (by decide) ?_
  refine lv_istore_n (lv' := [(2, .int (nI 1)), (0, .ref h), (1, .int (nI 264))]) hx hb dL_act_17 rfl hl (by decide) rfl (fun ls hl => ?_)
  refine lv_aload_n hx hb dL_act_18 rfl (lv_at hl 1 rfl) ?_
  refine zrV (As := []) (rest := []) 0 ⟨hx, hb, hml, hown, hts⟩ (c_X0_nodes l D cy h a0 a1 a2 1 (nI 0) (nI 0) zf zf tr) (cwV 0 hts gL_act_X0_nodes rfl rfl rfl (by decide +kernel) ⟨Nat.le_of_ble_eq_true rfl, Nat.le_of_ble_eq_true rfl⟩) hK hP rfl rfl rfl hl rfl (Nat.le_of_ble_eq_true rfl) dL_act_19 ⟨Nat.le_of_ble_eq_true rfl, Nat.le_of_ble_eq_true rfl⟩ hS (fun r9 H2 locs hw9 hk9 hS => ?_)
  obtain rfl : r9 = (nI 1) := hw9
  have hP := zkeep hP hk9
  refine lv_istore_n (lv' := [(3, .int (nI 1)), (2, .int (nI 1)), (0, .ref h), (1, .int (nI 264))]) hx hb dL_act_22 rfl hl (by decide) rfl (fun ls hl => ?_)
  refine lv_iload_n hx hb dL_act_23 rfl (lv_at hl 3 rfl) ?_
  refine lv_iconst (v := (nI 4)) hx hb dL_act_24 (by decide) ?_
  refine k_ishr (v := (nI 16)) hx hb dL_act_25 (by decide +kernel) ?_
  refine lv_iload_n hx hb dL_act_26 rfl (lv_at hl 0 rfl) ?_
  refine lv_iconst (v := (nI 1)) hx hb dL_act_27 (by decide) ?_
  refine k_iadd (v := (nI 2)) hx hb dL_act_28 (by decide +kernel) ?_
  refine zrS0 (As := [.int (nI 16), .int (nI 2)]) (rest := []) ⟨hx, hb, hml, hown, hts⟩ (c_L_low l (nI 16) (nI 2) (by decide)) (va_cwS 2 hts gL_act_L_low rfl rfl rfl (by decide +kernel) ⟨Nat.le_of_ble_eq_true rfl, Nat.le_of_ble_eq_true rfl⟩) rfl hl rfl (Nat.le_of_ble_eq_true rfl) dL_act_29 ⟨Nat.le_of_ble_eq_true rfl, Nat.le_of_ble_eq_true rfl⟩ hS (fun r9 H3 locs hw9 hk9 hS => ?_)
  obtain rfl : r9 = (nI 0) := hw9.trans (by decide +kernel)
  have hP := zkeep hP hk9
  refine lv_iload_n hx hb dL_act_32 rfl (lv_at hl 1 rfl) ?_
  refine k_if_eq_f (tgt := 40) hx hb dL_act_33 (by decide) (by decide +kernel) ?_
  refine lv_iconst (v := (nI 1)) hx hb dL_act_36 (by decide) ?_
  refine lv_goto (tgt := 41) hx hb dL_act_37 (by decide) ?_
  refine k_isub (v := (-1)) hx hb dL_act_41 (by decide +kernel) ?_
  refine lv_istore (lv' := [(4, .int (-1)), (3, .int (nI 1)), (2, .int (nI 1)), (0, .ref h), (1, .int (nI 264))]) hx hb dL_act_42 hl (by decide) rfl (fun ls hl => ?_)
  refine lv_iload_n hx hb dL_act_44 rfl (lv_at hl 4 rfl) ?_
  refine lv_bipush (v := (nI 9)) hx hb dL_act_45 (by decide) ?_
  refine k_ishr (v := (nI 0)) hx hb dL_act_47 (by decide +kernel) ?_
  refine lv_iload_n hx hb dL_act_48 rfl (lv_at hl 1 rfl) ?_
  refine lv_iconst (v := (nI 1)) hx hb dL_act_49 (by decide) ?_
  refine k_iadd (v := (nI 2)) hx hb dL_act_50 (by decide +kernel) ?_
  refine zrS0 (As := [.int (nI 0), .int (nI 2)]) (rest := []) ⟨hx, hb, hml, hown, hts⟩ (c_L_low l (nI 0) (nI 2) (by decide)) (va_cwS 2 hts gL_act_L_low rfl rfl rfl (by decide +kernel) ⟨Nat.le_of_ble_eq_true rfl, Nat.le_of_ble_eq_true rfl⟩) rfl hl rfl (Nat.le_of_ble_eq_true rfl) dL_act_51 ⟨Nat.le_of_ble_eq_true rfl, Nat.le_of_ble_eq_true rfl⟩ hS (fun r9 H4 locs hw9 hk9 hS => ?_)
  obtain rfl : r9 = (nI 0) := hw9.trans (by decide +kernel)
  have hP := zkeep hP hk9
  refine lv_istore (lv' := [(5, .int (nI 0)), (4, .int (-1)), (3, .int (nI 1)), (2, .int (nI 1)), (0, .ref h), (1, .int (nI 264))]) hx hb dL_act_54 hl (by decide) rfl (fun ls hl => ?_)
  refine lv_iload_n hx hb dL_act_56 rfl (lv_at hl 5 rfl) ?_
  refine lv_bipush (v := (nI 11)) hx hb dL_act_57 (by decide) ?_
  refine zrS0 (As := [.int (nI 264), .int (nI 11)]) (rest := []) ⟨hx, hb, hml, hown, hts⟩ (c_L_low l (nI 264) (nI 11) (by decide)) (va_cwS 2 hts gL_act_L_low rfl rfl rfl (by decide +kernel) ⟨Nat.le_of_ble_eq_true rfl, Nat.le_of_ble_eq_true rfl⟩) rfl hl rfl (Nat.le_of_ble_eq_true rfl) dL_act_59 ⟨Nat.le_of_ble_eq_true rfl, Nat.le_of_ble_eq_true rfl⟩ hS (fun r9 H5 locs hw9 hk9 hS => ?_)
  obtain rfl : r9 = (nI 0) := hw9.trans (by decide +kernel)
  have hP := zkeep hP hk9
  refine lv_tableIn (off := 30) (tgt := 92) hx hb dL_act_62 (by decide +kernel) (by decide +kernel) (by decide +kernel) (by decide) ?_
  refine lv_aload_n hx hb dL_act_92 rfl (lv_at hl 4 rfl) ?_
  refine kSWwi (As := [.ref h]) (rest := []) [0, 1, 2, 3] rfl ⟨hx, hb, hml, hown, hts⟩ (w_addNode l hfl D cy h a0 a1 a2 1 tr _ (by decide)) (vx_cwSW 1 hts gL_act_L_addNode rfl rfl rfl (by decide +kernel) ⟨Nat.le_of_ble_eq_true rfl, Nat.le_of_ble_eq_true rfl⟩) hK hP hD hA rfl hl rfl (Nat.le_of_ble_eq_true rfl) dL_act_93 ⟨Nat.le_of_ble_eq_true rfl, Nat.le_of_ble_eq_true rfl⟩ hS (fun r9 u9 H6 locs hw9 hP hS => ?_)
  obtain rfl : r9 = (nI 1) := hw9
  have hP : va_P D vwCl (wZ h a0 a1 a2 cy 2 tr) H6 := hP
  refine W.widen (k := 0) (n := 0) (Nat.le_of_ble_eq_true rfl) (Nat.le_of_ble_eq_true rfl) ?_
  refine vx_ret ?_
  exact W.iret (v := (nI 1)) hx hb hr (fun t9 ht9 hW9 => ⟨⟨(nI 1), (), rfl, rfl, by show va_P D vwCl (wZ h a0 a1 a2 cy 2 tr) t9.heap; rw [ht9]; exact hP⟩, hS.F ht9⟩) hS.2.2 dL_act_96

set_option maxHeartbeats 4000000 in
set_option maxRecDepth 100000 in
theorem w_act_2 (l : Launch) (hfl : l.stackTraces = false) (D : va_G) (cy : ClassId) (h a0 a1 a2 : Nat) (tr : Nat → Int32) (sz : Nat)  : vx_Met l yL_act wsL_act ({ frames := 10, cells := 1, slots := 6, locals := 177 } : Room) (va_Pc [.ref h, .int (nI 257)] (kRd D (wZ h a0 a1 a2 cy 2 tr) [(cy, .int)] sz)) (kPo (-99999) sz 0) zXn 1 6 zNo := by
  refine vx_ofW (cc := cL_act) (maxL := 6) (ret := (some .int)) (by decide) rfl ?_
  intro p e s m args below meth c s₁ B hml hto hv
  obtain ⟨rfl, ⟨⟨hP, hK⟩, hsz⟩, hT⟩ := hv
  have hx := B.exec
  have hb := B.bytes
  have hr := B.returns
  have hts := atoms_spec (ws := wsL_act) B.pre
  have hown : s.vm.findClass RL = some m.cls := findClass_of_methodNamed B.named
  have hlocks := B.notSynchronized
  subst hsz
  have hS : va_S (fun _ => False) s.heap s.heap [] := va_S.rf
  have hl := lv_entry ([.ref h, .int (nI 257)]) (n := 6) (Nat.le_of_ble_eq_true rfl)
  rw [lg_entry_eq]
  generalize (lg_sl ([.ref h, .int (nI 257)]) ++ List.replicate (6 - (lg_sl ([.ref h, .int (nI 257)])).length) Slot.unset).toArray = ls at hl ⊢
  have hl : lv_has ls 6 [(0, .ref h), (1, .int (nI 257))] := hl
  have hz : s.heap.size + 0 ≤ s.heap.size := Nat.le_refl _
  refine lv_iload_n hx hb dL_act_0 rfl (lv_at hl 1 rfl) ?_
  refine lv_bipush (v := (nI 24)) hx hb dL_act_1 (by decide) ?_
  refine k_ishr (v := (nI 0)) hx hb dL_act_3 (by decide +kernel) ?_
  refine lv_bipush (v := (nI 9)) hx hb dL_act_4 (by decide) ?_
  refine zrS0 (As := [.int (nI 0), .int (nI 9)]) (rest := []) ⟨hx, hb, hml, hown, hts⟩ (c_L_low l (nI 0) (nI 9) (by decide)) (va_cwS 2 hts gL_act_L_low rfl rfl rfl (by decide +kernel) ⟨Nat.le_of_ble_eq_true rfl, Nat.le_of_ble_eq_true rfl⟩) rfl hl rfl (Nat.le_of_ble_eq_true rfl) dL_act_6 ⟨Nat.le_of_ble_eq_true rfl, Nat.le_of_ble_eq_true rfl⟩ hS (fun r9 H1 locs hw9 hk9 hS => ?_)
  obtain rfl : r9 = (nI 0) := hw9.trans (by decide +kernel)
  have hP := zkeep hP hk9
  have hz : s.heap.size + 0 ≤ H1.size := Nat.le_trans hz hk9.1
  refine k_if_ne_f (tgt := 16) hx hb dL_act_9 (by decide) (by decide +kernel) ?_
  refine lv_iconst (v := (nI 1)) hx hb dL_act_12 (by decide) ?_
  refine lv_goto (tgt := 17) hx hb dL_act_13 (by decide) ?_
  refine lv_istore_n (lv' := [(2, .int (nI 1)), (0, .ref h), (1, .int (nI 257))]) hx hb dL_act_17 rfl hl (by decide) rfl (fun ls hl => ?_)
  refine lv_aload_n hx hb dL_act_18 rfl (lv_at hl 1 rfl) ?_
  refine zrV (As := []) (rest := []) 0 ⟨hx, hb, hml, hown, hts⟩ (c_X0_nodes l D cy h a0 a1 a2 2 (nI 0) (nI 0) zf zf tr) (cwV 0 hts gL_act_X0_nodes rfl rfl rfl (by decide +kernel) ⟨Nat.le_of_ble_eq_true rfl, Nat.le_of_ble_eq_true rfl⟩) hK hP rfl rfl rfl hl rfl (Nat.le_of_ble_eq_true rfl) dL_act_19 ⟨Nat.le_of_ble_eq_true rfl, Nat.le_of_ble_eq_true rfl⟩ hS (fun r9 H2 locs hw9 hk9 hS => ?_)
  obtain rfl : r9 = (nI 2) := hw9
  have hP := zkeep hP hk9
  have hz : s.heap.size + 0 ≤ H2.size := Nat.le_trans hz hk9.1
  refine lv_istore_n (lv' := [(3, .int (nI 2)), (2, .int (nI 1)), (0, .ref h), (1, .int (nI 257))]) hx hb dL_act_22 rfl hl (by decide) rfl (fun ls hl => ?_)
  refine lv_iload_n hx hb dL_act_23 rfl (lv_at hl 3 rfl) ?_
  refine lv_iconst (v := (nI 4)) hx hb dL_act_24 (by decide) ?_
  refine k_ishr (v := (nI 16)) hx hb dL_act_25 (by decide +kernel) ?_
  refine lv_iload_n hx hb dL_act_26 rfl (lv_at hl 0 rfl) ?_
  refine lv_iconst (v := (nI 1)) hx hb dL_act_27 (by decide) ?_
  refine k_iadd (v := (nI 3)) hx hb dL_act_28 (by decide +kernel) ?_
  refine zrS0 (As := [.int (nI 16), .int (nI 3)]) (rest := []) ⟨hx, hb, hml, hown, hts⟩ (c_L_low l (nI 16) (nI 3) (by decide)) (va_cwS 2 hts gL_act_L_low rfl rfl rfl (by decide +kernel) ⟨Nat.le_of_ble_eq_true rfl, Nat.le_of_ble_eq_true rfl⟩) rfl hl rfl (Nat.le_of_ble_eq_true rfl) dL_act_29 ⟨Nat.le_of_ble_eq_true rfl, Nat.le_of_ble_eq_true rfl⟩ hS (fun r9 H3 locs hw9 hk9 hS => ?_)
  obtain rfl : r9 = (nI 1) := hw9.trans (by decide +kernel)
  have hP := zkeep hP hk9
  have hz : s.heap.size + 0 ≤ H3.size := Nat.le_trans hz hk9.1
  refine lv_iload_n hx hb dL_act_32 rfl (lv_at hl 1 rfl) ?_
  refine k_if_eq_f (tgt := 40) hx hb dL_act_33 (by decide) (by decide +kernel) ?_
  refine lv_iconst (v := (nI 1)) hx hb dL_act_36 (by decide) ?_
  refine lv_goto (tgt := 41) hx hb dL_act_37 (by decide) ?_
  refine k_isub (v := (nI 0)) hx hb dL_act_41 (by decide +kernel) ?_
  refine lv_istore (lv' := [(4, .int (nI 0)), (3, .int (nI 2)), (2, .int (nI 1)), (0, .ref h), (1, .int (nI 257))]) hx hb dL_act_42 hl (by decide) rfl (fun ls hl => ?_)
  refine lv_iload_n hx hb dL_act_44 rfl (lv_at hl 4 rfl) ?_
  refine lv_bipush (v := (nI 9)) hx hb dL_act_45 (by decide) ?_
  refine k_ishr (v := (nI 0)) hx hb dL_act_47 (by decide +kernel) ?_
  refine lv_iload_n hx hb dL_act_48 rfl (lv_at hl 1 rfl) ?_
  refine lv_iconst (v := (nI 1)) hx hb dL_act_49 (by decide) ?_
  refine k_iadd (v := (nI 3)) hx hb dL_act_50 (by decide +kernel) ?_
  refine zrS0 (As := [.int (nI 0), .int (nI 3)]) (rest := []) ⟨hx, hb, hml, hown, hts⟩ (c_L_low l (nI 0) (nI 3) (by decide)) (va_cwS 2 hts gL_act_L_low rfl rfl rfl (by decide +kernel) ⟨Nat.le_of_ble_eq_true rfl, Nat.le_of_ble_eq_true rfl⟩) rfl hl rfl (Nat.le_of_ble_eq_true rfl) dL_act_51 ⟨Nat.le_of_ble_eq_true rfl, Nat.le_of_ble_eq_true rfl⟩ hS (fun r9 H4 locs hw9 hk9 hS => ?_)
  obtain rfl : r9 = (nI 0) := hw9.trans (by decide +kernel)
  have hP := zkeep hP hk9
  have hz : s.heap.size + 0 ≤ H4.size := Nat.le_trans hz hk9.1
  refine lv_istore (lv' := [(5, .int (nI 0)), (4, .int (nI 0)), (3, .int (nI 2)), (2, .int (nI 1)), (0, .ref h), (1, .int (nI 257))]) hx hb dL_act_54 hl (by decide) rfl (fun ls hl => ?_)
  refine lv_iload_n hx hb dL_act_56 rfl (lv_at hl 5 rfl) ?_
  refine lv_bipush (v := (nI 11)) hx hb dL_act_57 (by decide) ?_
  refine zrS0 (As := [.int (nI 257), .int (nI 11)]) (rest := []) ⟨hx, hb, hml, hown, hts⟩ (c_L_low l (nI 257) (nI 11) (by decide)) (va_cwS 2 hts gL_act_L_low rfl rfl rfl (by decide +kernel) ⟨Nat.le_of_ble_eq_true rfl, Nat.le_of_ble_eq_true rfl⟩) rfl hl rfl (Nat.le_of_ble_eq_true rfl) dL_act_59 ⟨Nat.le_of_ble_eq_true rfl, Nat.le_of_ble_eq_true rfl⟩ hS (fun r9 H5 locs hw9 hk9 hS => ?_)
  obtain rfl : r9 = (nI 4) := hw9.trans (by decide +kernel)
  have hP := zkeep hP hk9
  have hz : s.heap.size + 0 ≤ H5.size := Nat.le_trans hz hk9.1
  refine lv_tableOut (tgt := 131) hx hb dL_act_62 (by decide +kernel) (by decide) ?_
  refine lv_aload_n hx hb dL_act_131 rfl (lv_at hl 4 rfl) ?_
  refine lv_iload hx hb dL_act_132 (lv_at hl 1 rfl) ?_
  refine lv_iload hx hb dL_act_134 (lv_at hl 0 rfl) ?_
  refine kSW (k := 0) (As := [.ref h, .int (nI 0), .int (nI 0)]) (rest := []) ⟨hx, hb, hml, hown, hts⟩ (w_join_same l hfl D cy h a0 a1 a2 2 tr _ 0 (by decide) (by decide)) (vx_cwSW 3 hts gL_act_L_join rfl rfl rfl (by decide +kernel) ⟨Nat.le_of_ble_eq_true rfl, Nat.le_of_ble_eq_true rfl⟩) hK hP (fun U hU hW => hT.move hW ⟨Nat.le_trans hS.1 (Nat.le_of_eq (by rw [hU])), fun q h => Eq.trans (by rw [hU]) (hS.2.1 q h (fun z => z))⟩) rfl hl rfl (Nat.le_of_ble_eq_true rfl) dL_act_136 ⟨Nat.le_of_ble_eq_true rfl, Nat.le_of_ble_eq_true rfl⟩ hS (fun H6 locs hk9 hz9 hS => ?_)
  have hP := zkeep hP hk9
  have hz : s.heap.size + 0 ≤ H6.size := Nat.le_trans hz hk9.1
  refine W.widen (k := 1) (n := 6) (Nat.le_of_ble_eq_true rfl) (Nat.le_of_ble_eq_true rfl) ?_
  refine vx_ret ?_
  exact W.iret (v := (-99999)) hx hb hr (fun t9 ht9 hW9 => ⟨⟨(-99999), (), rfl, rfl, by show s.heap.size + 0 ≤ t9.heap.size; rw [ht9]; exact hz⟩, hS.F ht9⟩) hS.2.2 dL_act_139
