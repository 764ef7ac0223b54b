/-! ===== one turn of the loop ===== -/
section ZLX1
variable {p : Program} {l : Launch} {e : Env} {s : State} {m : MethodId} {below : List Frame} {meth : Method} {c : Code} {Q : State → Prop} {b L : Nat} {xs : Nat → Int32}
variable {D : va_G} {cy : ClassId} {h a0 a1 a2 h2 b0 b1 b2 : Nat}
set_option maxHeartbeats 8000000 in
set_option maxRecDepth 100000 in
theorem lx_it1 (C : lxC p s m c b L xs) (hfl : l.stackTraces = false) (hK : va_K D vwCl [(cy, .int)] s) (hTL : zThL s) {H : Heap} {locs : List Loc} {cells slots n0 : Nat} {ls : Array Slot} {tr tr2 : Nat → Int32} (hz : n0 + 0 ≤ H.size) (hc : cells + 4 ≤ 300) (hs : slots + 24 ≤ 2000) (hP : va_P D vwCl (wZ h a0 a1 a2 cy 1 tr ++ wZ h2 b0 b1 b2 cy 1 tr2) H) (hD : va_D (lwAd s) (wZ h a0 a1 a2 cy 1 tr ++ wZ h2 b0 b1 b2 cy 1 tr2)) (hS : va_S (lwAd s) s.heap H locs) (hl : lv_has ls 7 [(0, .ref b), (1, .ref h), (2, .ref h2), (3, .int (nI 1))])
    (kk : ∀ (tr3 tr4 : Nat → Int32) (H1 : Heap) (locs1 : List Loc) (ls1 : Array Slot), n0 + 4 ≤ H1.size → va_P D vwCl (wZ h a0 a1 a2 cy 2 tr3 ++ wZ h2 b0 b1 b2 cy 2 tr4) H1 → va_D (lwAd s) (wZ h a0 a1 a2 cy 2 tr3 ++ wZ h2 b0 b1 b2 cy 2 tr4) → va_S (lwAd s) s.heap H1 locs1 → lv_has ls1 7 [(0, .ref b), (1, .ref h), (2, .ref h2), (3, .int (nI 2))] → W p l e rB s m #[Value.ref b] below meth c H1 locs1 (cells + 4) (slots + 24) Q (F0 m 18 ls1 [])) : W p l e rB s m #[Value.ref b] below meth c H locs cells slots Q (F0 m 18 ls []) := by
  obtain ⟨hx, hb, hml, hown, hts, hX, hbl, hL, hx0, hx1, hx2⟩ := id C
  have hA : ∀ q : Nat, s.heap.size ≤ q → lwAd s q := fun _ h => h
  refine lv_iload_n hx hb dL_law_18 rfl (lv_at hl 3 rfl) ?_
  refine lv_bipush (v := (nI 56)) hx hb dL_law_19 (by decide) ?_
  refine k_icmp_ge_f (tgt := 153) hx hb dL_law_21 (by decide) (by decide +kernel) ?_
  refine lv_aload_n hx hb dL_law_24 rfl (lv_at hl 0 rfl) ?_
  refine lv_iload_n hx hb dL_law_25 rfl (lv_at hl 3 rfl) ?_
  refine kSg (As := [.ref b, .int (nI 1)]) (rest := []) ⟨hx, hb, hml, hown, hts⟩ (c_L_cell l b L 1 xs (by omega) (by omega)) (va_cwS 2 hts gL_law_L_cell rfl rfl rfl (by decide +kernel) ⟨Nat.le_of_ble_eq_true rfl, Nat.le_of_ble_eq_true rfl⟩) (fun U g mk a q => ⟨va_X.moved (u := U) (U := U.calling g mk a) (Vm.Alike.refl U.vm) q.1, q.2⟩) (fun U hU hW => ⟨by rw [hU]; exact (hX.kept (hS.2.1 b hbl (fun q => absurd hbl (Nat.not_lt.mpr q)))).moved hW.alike, by rw [hU]; exact Nat.lt_of_lt_of_le hbl hS.1⟩) rfl hl rfl (Nat.le_of_ble_eq_true rfl) dL_law_26 ⟨by show _ ≤ 300; omega, by show _ ≤ 2000; omega⟩ hS (fun r9 H1 locs hw9 hk9 hS => ?_)
  obtain rfl : r9 = (nI 264) := hw9.trans hx1
  have hP := zkeep hP hk9
  have hz : n0 + 0 ≤ H1.size := Nat.le_trans hz hk9.1
  refine lv_istore (lv' := [(4, .int (nI 264)), (0, .ref b), (1, .ref h), (2, .ref h2), (3, .int (nI 1))]) hx hb dL_law_29 hl (by decide) rfl (fun ls hl => ?_)
  refine lv_aload_n hx hb dL_law_31 rfl (lv_at hl 2 rfl) ?_
  refine lv_iload hx hb dL_law_32 (lv_at hl 0 rfl) ?_
  have hPo := hP.sub (ws' := wZ h a0 a1 a2 cy 1 tr) [0, 1, 2, 3] rfl
  have hDo := hD.sub (ws' := wZ h a0 a1 a2 cy 1 tr) [0, 1, 2, 3] (by decide) rfl
  refine kSwi (wr := wZ h2 b0 b1 b2 cy 1 tr2) (As := [.ref h, .int (nI 264)]) (rest := []) [0, 1, 2, 3] [4, 5, 6, 7] rfl rfl (by decide) (by decide) (by exact fun _ => rfl) ⟨hx, hb, hml, hown, hts⟩ (w_act_1 l hfl D cy h a0 a1 a2 tr _) (va_cwS 2 hts gL_law_L_act rfl rfl rfl (by decide +kernel) ⟨Nat.le_of_ble_eq_true rfl, Nat.le_of_ble_eq_true rfl⟩) hK hP hPo hD hDo hA rfl hl rfl (Nat.le_of_ble_eq_true rfl) dL_law_34 ⟨by show _ ≤ 300; omega, by show _ ≤ 2000; omega⟩ hS (fun r9 u9 H2 locs hw9 hP hz9 hS => ?_)
  obtain rfl : r9 = (nI 1) := hw9
  have hP : va_P D vwCl (wZ h a0 a1 a2 cy 2 tr ++ wZ h2 b0 b1 b2 cy 1 tr2) H2 := hP.sub (ws' := wZ h a0 a1 a2 cy 2 tr ++ wZ h2 b0 b1 b2 cy 1 tr2) [4, 5, 6, 7, 0, 1, 2, 3] rfl
  have hD : va_D (lwAd s) (wZ h a0 a1 a2 cy 2 tr ++ wZ h2 b0 b1 b2 cy 1 tr2) := zD hD rfl
  have hz : n0 + 0 ≤ H2.size := Nat.le_trans hz hz9
  refine lv_istore (lv' := [(5, .int (nI 1)), (4, .int (nI 264)), (0, .ref b), (1, .ref h), (2, .ref h2), (3, .int (nI 1))]) hx hb dL_law_37 hl (by decide) rfl (fun ls hl => ?_)
  refine lv_iload hx hb dL_law_39 (lv_at hl 0 rfl) ?_
  refine lv_ldc hx hb hown (hts (.constant RL 16 (-99999)) (by decide +kernel)) dL_law_41 ?_
  refine k_icmp_eq_f (tgt := 57) hx hb dL_law_43 (by decide) (by decide +kernel) ?_
  refine lv_aload_n hx hb dL_law_46 rfl (lv_at hl 4 rfl) ?_
  refine lv_iload hx hb dL_law_47 (lv_at hl 1 rfl) ?_
  have hPo := hP.sub (ws' := wZ h2 b0 b1 b2 cy 1 tr2) [4, 5, 6, 7] rfl
  have hDo := hD.sub (ws' := wZ h2 b0 b1 b2 cy 1 tr2) [4, 5, 6, 7] (by decide) rfl
  refine kSwi (wr := wZ h a0 a1 a2 cy 2 tr) (As := [.ref h2, .int (nI 264)]) (rest := []) [4, 5, 6, 7] [0, 1, 2, 3] rfl rfl (by decide) (by decide) (by exact fun _ => rfl) ⟨hx, hb, hml, hown, hts⟩ (w_act_1 l hfl D cy h2 b0 b1 b2 tr2 _) (va_cwS 2 hts gL_law_L_act rfl rfl rfl (by decide +kernel) ⟨Nat.le_of_ble_eq_true rfl, Nat.le_of_ble_eq_true rfl⟩) hK hP hPo hD hDo hA rfl hl rfl (Nat.le_of_ble_eq_true rfl) dL_law_49 ⟨by show _ ≤ 300; omega, by show _ ≤ 2000; omega⟩ hS (fun r9 u9 H3 locs hw9 hP hz9 hS => ?_)
  obtain rfl : r9 = (nI 1) := hw9
  have hP : va_P D vwCl (wZ h a0 a1 a2 cy 2 tr ++ wZ h2 b0 b1 b2 cy 2 tr2) H3 := hP
  have hD : va_D (lwAd s) (wZ h a0 a1 a2 cy 2 tr ++ wZ h2 b0 b1 b2 cy 2 tr2) := zD hD rfl
  have hz : n0 + 0 ≤ H3.size := Nat.le_trans hz hz9
  refine lv_iload hx hb dL_law_52 (lv_at hl 0 rfl) ?_
  refine k_icmp_ne_f (tgt := 65) hx hb dL_law_54 (by decide) (by decide +kernel) ?_
  refine lv_aload_n hx hb dL_law_57 rfl (lv_at hl 3 rfl) ?_
  refine lv_aload_n hx hb dL_law_58 rfl (lv_at hl 4 rfl) ?_
  refine kS (k := 0) (As := [.ref h, .ref h2]) (rest := []) ⟨hx, hb, hml, hown, hts⟩ (w_areAlike_2 l hfl D cy h a0 a1 a2 h2 b0 b1 b2 tr tr2 _) (va_cwS 2 hts gL_law_L_areAlike rfl rfl rfl (by decide +kernel) ⟨Nat.le_of_ble_eq_true rfl, Nat.le_of_ble_eq_true rfl⟩) hK hP (fun U hU hW => hTL.at hS hU hW) rfl hl rfl (Nat.le_of_ble_eq_true rfl) dL_law_59 ⟨by show _ ≤ 300; omega, by show _ ≤ 2000; omega⟩ hS (fun H4 locs hk9 hz9 hS => ?_)
  have hP := zkeep hP hk9
  have hz : n0 + 0 ≤ H4.size := Nat.le_trans hz hk9.1
  refine k_if_ne_t (tgt := 67) hx hb dL_law_62 (by decide) (by decide +kernel) ?_
  refine lv_aload_n hx hb dL_law_67 rfl (lv_at hl 3 rfl) ?_
  have hPo := hP.sub (ws' := wZ h a0 a1 a2 cy 2 tr) [0, 1, 2, 3] rfl
  refine zrV (As := []) (rest := []) 0 ⟨hx, hb, hml, hown, hts⟩ (c_X0_nodes l D cy h a0 a1 a2 2 (nI 0) (nI 0) zf zf tr) (cwV 0 hts gL_law_X0_nodes rfl rfl rfl (by decide +kernel) ⟨Nat.le_of_ble_eq_true rfl, Nat.le_of_ble_eq_true rfl⟩) hK hPo rfl rfl rfl hl rfl (Nat.le_of_ble_eq_true rfl) dL_law_68 ⟨by show _ ≤ 300; omega, by show _ ≤ 2000; omega⟩ hS (fun r9 H5 locs hw9 hk9 hS => ?_)
  obtain rfl : r9 = (nI 2) := hw9
  have hP := zkeep hP hk9
  have hz : n0 + 0 ≤ H5.size := Nat.le_trans hz hk9.1
  refine lv_istore (lv' := [(6, .int (nI 2)), (5, .int (nI 1)), (4, .int (nI 264)), (0, .ref b), (1, .ref h), (2, .ref h2), (3, .int (nI 1))]) hx hb dL_law_71 hl (by decide) rfl (fun ls hl => ?_)
  refine lv_iload hx hb dL_law_73 (lv_at hl 0 rfl) ?_
  refine k_if_le_f (tgt := 122) hx hb dL_law_75 (by decide) (by decide +kernel) ?_
  refine lv_aload_n hx hb dL_law_78 rfl (lv_at hl 4 rfl) ?_
  refine lv_iload hx hb dL_law_79 (lv_at hl 2 rfl) ?_
  refine lv_bipush (v := (nI 6)) hx hb dL_law_81 (by decide) ?_
  refine k_ishr (v := (nI 4)) hx hb dL_law_83 (by decide +kernel) ?_
  refine lv_iload hx hb dL_law_84 (lv_at hl 0 rfl) ?_
  refine zrS0 (As := [.int (nI 4), .int (nI 2)]) (rest := [.ref h]) ⟨hx, hb, hml, hown, hts⟩ (c_L_low l (nI 4) (nI 2) (by decide)) (va_cwS 2 hts gL_law_L_low rfl rfl rfl (by decide +kernel) ⟨Nat.le_of_ble_eq_true rfl, Nat.le_of_ble_eq_true rfl⟩) rfl hl rfl (Nat.le_of_ble_eq_true rfl) dL_law_86 ⟨by show _ ≤ 300; omega, by show _ ≤ 2000; omega⟩ hS (fun r9 H6 locs hw9 hk9 hS => ?_)
  obtain rfl : r9 = (nI 0) := hw9.trans (by decide +kernel)
  have hP := zkeep hP hk9
  have hz : n0 + 0 ≤ H6.size := Nat.le_trans hz hk9.1
  have hPo := hP.sub (ws' := wZ h a0 a1 a2 cy 2 tr) [0, 1, 2, 3] rfl
  refine kS (k := 0) (As := [.ref h, .int (nI 0)]) (rest := []) ⟨hx, hb, hml, hown, hts⟩ (w_isNodeSo l hfl D cy h a0 a1 a2 2 tr _ 0 (by decide) (by decide)) (va_cwS 2 hts gL_law_L_isNodeSo rfl rfl rfl (by decide +kernel) ⟨Nat.le_of_ble_eq_true rfl, Nat.le_of_ble_eq_true rfl⟩) hK hPo (fun U hU hW => hTL.at hS hU hW) rfl hl rfl (Nat.le_of_ble_eq_true rfl) dL_law_89 ⟨by show _ ≤ 300; omega, by show _ ≤ 2000; omega⟩ hS (fun H7 locs hk9 hz9 hS => ?_)
  have hP := zkeep hP hk9
  have hz : n0 + 0 ≤ H7.size := Nat.le_trans hz hk9.1
  refine k_if_eq_f (tgt := 145) hx hb dL_law_92 (by decide) (by decide +kernel) ?_
  refine lv_aload_n hx hb dL_law_95 rfl (lv_at hl 4 rfl) ?_
  refine lv_iload hx hb dL_law_96 (lv_at hl 2 rfl) ?_
  refine lv_bipush (v := (nI 8)) hx hb dL_law_98 (by decide) ?_
  refine k_ishr (v := (nI 1)) hx hb dL_law_100 (by decide +kernel) ?_
  refine lv_iload hx hb dL_law_101 (lv_at hl 0 rfl) ?_
  refine zrS0 (As := [.int (nI 1), .int (nI 2)]) (rest := [.ref h]) ⟨hx, hb, hml, hown, hts⟩ (c_L_low l (nI 1) (nI 2) (by decide)) (va_cwS 2 hts gL_law_L_low rfl rfl rfl (by decide +kernel) ⟨Nat.le_of_ble_eq_true rfl, Nat.le_of_ble_eq_true rfl⟩) rfl hl rfl (Nat.le_of_ble_eq_true rfl) dL_law_103 ⟨by show _ ≤ 300; omega, by show _ ≤ 2000; omega⟩ hS (fun r9 H8 locs hw9 hk9 hS => ?_)
  obtain rfl : r9 = (nI 1) := hw9.trans (by decide +kernel)
  have hP := zkeep hP hk9
  have hz : n0 + 0 ≤ H8.size := Nat.le_trans hz hk9.1
  refine lv_iload hx hb dL_law_106 (lv_at hl 2 rfl) ?_
  refine lv_bipush (v := (nI 13)) hx hb dL_law_108 (by decide) ?_
  refine k_ishr (v := (nI 0)) hx hb dL_law_110 (by decide +kernel) ?_
  refine lv_iload hx hb dL_law_111 (lv_at hl 0 rfl) ?_
  refine zrS0 (As := [.int (nI 0), .int (nI 2)]) (rest := [.int (nI 1), .ref h]) ⟨hx, hb, hml, hown, hts⟩ (c_L_low l (nI 0) (nI 2) (by decide)) (va_cwS 2 hts gL_law_L_low rfl rfl rfl (by decide +kernel) ⟨Nat.le_of_ble_eq_true rfl, Nat.le_of_ble_eq_true rfl⟩) rfl hl rfl (Nat.le_of_ble_eq_true rfl) dL_law_113 ⟨by show _ ≤ 300; omega, by show _ ≤ 2000; omega⟩ hS (fun r9 H9 locs hw9 hk9 hS => ?_)
  obtain rfl : r9 = (nI 0) := hw9.trans (by decide +kernel)
  have hP := zkeep hP hk9
  have hz : n0 + 0 ≤ H9.size := Nat.le_trans hz hk9.1
  have hPo := hP.sub (ws' := wZ h a0 a1 a2 cy 2 tr) [0, 1, 2, 3] rfl
  refine kS (k := 4) (As := [.ref h, .int (nI 1), .int (nI 0)]) (rest := []) ⟨hx, hb, hml, hown, hts⟩ (w_arePairsSo_two l hfl D cy h a0 a1 a2 2 tr _ 1 0 (by decide) (by decide) (by decide) (by decide)) (va_cwS 3 hts gL_law_L_arePairsSo rfl rfl rfl (by decide +kernel) ⟨Nat.le_of_ble_eq_true rfl, Nat.le_of_ble_eq_true rfl⟩) hK hPo (fun U hU hW => hTL.at hS hU hW) rfl hl rfl (Nat.le_of_ble_eq_true rfl) dL_law_116 ⟨by show _ ≤ 300; omega, by show _ ≤ 2000; omega⟩ hS (fun H10 locs hk9 hz9 hS => ?_)
  have hP := zkeep hP hk9
  have hz : n0 + 4 ≤ H10.size := by omega
  refine k_if_eq_f (tgt := 145) hx hb dL_law_119 (by decide) (by decide +kernel) ?_
  refine lv_iload_n hx hb dL_law_122 rfl (lv_at hl 6 rfl) ?_
  refine lv_bipush (v := (nI 9)) hx hb dL_law_123 (by decide) ?_
  refine k_irem (v := (nI 1)) hx hb dL_law_125 (by decide) (by decide +kernel) ?_
  refine lv_bipush (v := (nI 8)) hx hb dL_law_126 (by decide) ?_
  refine k_icmp_ne_t (tgt := 147) hx hb dL_law_128 (by decide) (by decide +kernel) ?_
  refine lv_iinc (v := (nI 2)) (lv' := [(3, .int (nI 2)), (6, .int (nI 2)), (5, .int (nI 1)), (4, .int (nI 264)), (0, .ref b), (1, .ref h), (2, .ref h2)]) hx hb dL_law_147 hl (k := 6) rfl (by decide +kernel) (by decide) rfl (fun ls hl => ?_)
  refine lv_goto (tgt := 18) hx hb dL_law_150 (by decide) ?_
  refine W.widen (k := cells + 4) (n := slots + 24) (by omega) (by omega) ?_
  exact kk tr tr2 _ _ _ hz hP hD hS (lv_sub hl [4, 5, 6, 0] rfl)
end ZLX1
