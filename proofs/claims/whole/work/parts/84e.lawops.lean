/-! ===== the cases of the law ===== -/
section ZLO4
variable {p : Program} {l : Launch} {e : Env} {s : State} {m : MethodId} {below : List Frame} {meth : Method} {c : Code} {H : Heap} {locs : List Loc} {cells slots : Nat} {Q : State → Prop} {ls : Array Slot} {b L : Nat} {xs : Nat → Int32}
variable {D : va_G} {cy cl : ClassId} {h a0 a1 a2 o h2 b0 b1 b2 b3 b4 N : Nat} {ec cc th ds de : Int32} {f cs tr cs2 be lf od : Nat → Int32} {g : Nat → Int64}

set_option maxHeartbeats 4000000 in
set_option maxRecDepth 100000 in
theorem lw_density (C : lwC p s m c b L xs) (hK : va_K D vwCl [(cy, .int), (cl, .long)] s) (hTL : zThL s) (hfl : l.stackTraces = false) {i : Nat} (hi : i + 3 ≤ L) (hg : gd f N) (hcs : csJ cs (cnum f N) N) (hec : ec = nI (ewn f N (zal N))) (hP : va_P D vwCl (wBL h a0 a1 a2 cy N ec cc f cs tr o cl g ++ wM h2 b0 b1 b2 b3 b4 cy th N cc ds de f cs2 be lf od) H) (hD : va_D (lwAd s) (wBL h a0 a1 a2 cy N ec cc f cs tr o cl g ++ wM h2 b0 b1 b2 b3 b4 cy th N cc ds de f cs2 be lf od)) (hS : va_S (lwAd s) s.heap H locs) (hl : lv_has ls 9 [(0, .ref b), (1, .ref h), (2, .ref h2), (3, .ref o), (4, .int (nI i))]) (hnc : cells + 1 ≤ 1045) (hns : slots + 6 ≤ 8429)
  (K : ∀ (H1 : Heap) (locs1 : List Loc) (ls1 : Array Slot), lwI D (lwAd s) h a0 a1 a2 cy o cl h2 b0 b1 b2 b3 b4 N f H1 → va_S (lwAd s) s.heap H1 locs1 → lv_has ls1 9 [(0, .ref b), (1, .ref h), (2, .ref h2), (3, .ref o), (4, .int (nI i))] → W p l e room_1 s m #[Value.ref b] below meth c H1 locs1 (cells + 1) (slots + 6) Q (F0 m 1334 ls1 [])) :
  W p l e room_1 s m #[Value.ref b] below meth c H locs cells slots Q (F0 m 1088 ls []) := by
  obtain ⟨hx, hb, hml, hown, hts, hX, hbl, hL⟩ := C
  have hN : N ≤ 20 := hg.1
  have hA : ∀ q : Nat, s.heap.size ≤ q → lwAd s q := fun _ h => h
  have hbA : ¬ lwAd s b := Nat.not_le.mpr hbl
  refine lv_aload_n hx hb dL_law_1088 rfl (lv_at hl 1 rfl) ?_
  have hPb := hP.sub (ws' := wB h a0 a1 a2 cy N ec cc f cs tr) [1, 2, 3, 4] rfl
  refine zrVd (As := []) (rest := []) 0 ⟨hx, hb, hml, hown, hts⟩ (c_X0_density l D cy h a0 a1 a2 N ec cc f cs tr hN hg hec) (cwV 0 hts gL_law_X0_density rfl rfl rfl (by decide +kernel) ⟨Nat.le_of_ble_eq_true rfl, Nat.le_of_ble_eq_true rfl⟩) (hK.sub [0] rfl) hPb rfl rfl rfl hl rfl (Nat.le_of_ble_eq_true rfl) dL_law_1089 ⟨by show _ ≤ 1045; omega, by show _ ≤ 8429; omega⟩ hS (fun r9 H locs hw9 hk9 hS => ?_)
  have hP := zkeep hP hk9
  obtain rfl : r9 = dnv f N := hw9
  refine lv_dstore (lv' := [(5, .double (dnv f N)), (0, .ref b), (1, .ref h), (2, .ref h2), (3, .ref o), (4, .int (nI i))]) hx hb dL_law_1092 hl (by decide) rfl (fun ls hl => ?_)
  refine lv_aload_n hx hb dL_law_1094 rfl (lv_at hl 3 rfl) ?_
  have hPm := hP.sub (ws' := wM h2 b0 b1 b2 b3 b4 cy th N cc ds de f cs2 be lf od) [5, 6, 7, 8, 9, 10] rfl
  have hDm := hD.sub (ws' := wM h2 b0 b1 b2 b3 b4 cy th N cc ds de f cs2 be lf od) [5, 6, 7, 8, 9, 10] (by decide) rfl
  refine zjVd (As := []) (rest := []) (wr := wBL h a0 a1 a2 cy N ec cc f cs tr o cl g) 0 [5, 6, 7, 8, 9, 10] [0, 1, 2, 3, 4] rfl rfl rfl (by decide) (by exact fun _ => rfl) ⟨hx, hb, hml, hown, hts⟩ (c_X1_density l D cy h2 b0 b1 b2 b3 b4 th N cc ds de f cs2 be lf od _ hN hg) (cwV 0 hts gL_law_X1_density rfl rfl rfl (by decide +kernel) ⟨Nat.le_of_ble_eq_true rfl, Nat.le_of_ble_eq_true rfl⟩) (hK.sub [0] rfl) hP hPm hD hDm hA rfl rfl rfl hl rfl (Nat.le_of_ble_eq_true rfl) dL_law_1095 ⟨by show _ ≤ 1045; omega, by show _ ≤ 8429; omega⟩ hS (fun r8 u8 H locs hw8 hP hS => ?_)
  have hP : va_P D vwCl (wBL h a0 a1 a2 cy N ec cc f cs tr o cl g ++ wM h2 b0 b1 b2 b3 b4 cy (nI 0) N cc ((dsk f N (N - 1)).2.1) (nI (dsk f N (N - 1)).2.2) f cs2 be lf u8) H := hP
  have hD : va_D (lwAd s) (wBL h a0 a1 a2 cy N ec cc f cs tr o cl g ++ wM h2 b0 b1 b2 b3 b4 cy (nI 0) N cc ((dsk f N (N - 1)).2.1) (nI (dsk f N (N - 1)).2.2) f cs2 be lf u8) := zD hD rfl
  have hw8 : r8 = dnv f N := hw8
  obtain rfl : r8 = dnv f N := hw8
  refine lv_dstore (lv' := [(7, .double (dnv f N)), (5, .double (dnv f N)), (0, .ref b), (1, .ref h), (2, .ref h2), (3, .ref o), (4, .int (nI i))]) hx hb dL_law_1098 hl (by decide) rfl (fun ls hl => ?_)
  refine lv_dload hx hb dL_law_1100 (lv_at hl 1 rfl) ?_
  refine lv_dload hx hb dL_law_1102 (lv_at hl 0 rfl) ?_
  refine z_dcmp hx hb (dnv_eq hg) dL_law_1104 ?_
  refine lv_if_eq (tgt := 1126) hx hb dL_law_1105 (by decide) (fun _ => ?_) (fun q => absurd (by decide) q)
  refine lv_goto (tgt := 1334) hx hb dL_law_1126 (by decide) ?_
  refine W.widen (k := cells + 1) (n := slots + 6) (by omega) (by omega) ?_
  exact K _ _ _ ⟨hg, _, _, _, _, _, _, _, _, _, _, _, _, hcs, hec, hP, hD⟩ hS (lv_sub hl [2, 3, 4, 5, 6] rfl)

set_option maxHeartbeats 4000000 in
set_option maxRecDepth 100000 in
theorem lw_support_ok (C : lwC p s m c b L xs) (hK : va_K D vwCl [(cy, .int), (cl, .long)] s) (hTL : zThL s) (hfl : l.stackTraces = false) {i : Nat} (hi : i + 3 ≤ L) (hg : gd f N) (hcs : csJ cs (cnum f N) N) (hec : ec = nI (ewn f N (zal N))) (hP : va_P D vwCl (wBL h a0 a1 a2 cy N ec cc f cs tr o cl g ++ wM h2 b0 b1 b2 b3 b4 cy th N cc ds de f cs2 be lf od) H) (hD : va_D (lwAd s) (wBL h a0 a1 a2 cy N ec cc f cs tr o cl g ++ wM h2 b0 b1 b2 b3 b4 cy th N cc ds de f cs2 be lf od)) (hS : va_S (lwAd s) s.heap H locs) (hl : lv_has ls 9 [(0, .ref b), (1, .ref h), (2, .ref h2), (3, .ref o), (4, .int (nI i))]) (hnc : cells + 1 ≤ 1045) (hns : slots + 6 ≤ 8429) {u v : Nat} (hu : u < N) (hv : v < N) (he : bt (f u) v = true) (hq1 : xs (i + 1) = (nI u)) (hq2 : xs (i + 2) = (nI v))
  (K : ∀ (H1 : Heap) (locs1 : List Loc) (ls1 : Array Slot), lwI D (lwAd s) h a0 a1 a2 cy o cl h2 b0 b1 b2 b3 b4 N f H1 → va_S (lwAd s) s.heap H1 locs1 → lv_has ls1 9 [(0, .ref b), (1, .ref h), (2, .ref h2), (3, .ref o), (4, .int (nI i))] → W p l e room_1 s m #[Value.ref b] below meth c H1 locs1 (cells + 1) (slots + 6) Q (F0 m 1334 ls1 [])) :
  W p l e room_1 s m #[Value.ref b] below meth c H locs cells slots Q (F0 m 1129 ls []) := by
  obtain ⟨hx, hb, hml, hown, hts, hX, hbl, hL⟩ := C
  have hN : N ≤ 20 := hg.1
  have hA : ∀ q : Nat, s.heap.size ≤ q → lwAd s q := fun _ h => h
  have hbA : ¬ lwAd s b := Nat.not_le.mpr hbl
  refine lv_aload_n hx hb dL_law_1129 rfl (lv_at hl 1 rfl) ?_
  refine lv_aload_n hx hb dL_law_1130 rfl (lv_at hl 0 rfl) ?_
  refine lv_iload hx hb dL_law_1131 (lv_at hl 4 rfl) ?_
  refine lv_iconst (v := (nI 1)) hx hb dL_law_1133 (by decide) ?_
  refine z_iadd hx hb dL_law_1134 ?_
  refine z_sld hx hb hX hbl hbA hS (j := i + 1) (by omega) hL dL_law_1135 ?_
  rw [hq1]
  refine lv_aload_n hx hb dL_law_1136 rfl (lv_at hl 0 rfl) ?_
  refine lv_iload hx hb dL_law_1137 (lv_at hl 4 rfl) ?_
  refine lv_iconst (v := (nI 2)) hx hb dL_law_1139 (by decide) ?_
  refine z_iadd hx hb dL_law_1140 ?_
  refine z_sld hx hb hX hbl hbA hS (j := i + 2) (by omega) hL dL_law_1141 ?_
  rw [hq2]
  refine lv_aload_n hx hb dL_law_1142 rfl (lv_at hl 3 rfl) ?_
  have hPb := hP.sub (ws' := wBL h a0 a1 a2 cy N ec cc f cs tr o cl g) [0, 1, 2, 3, 4] rfl
  have hDb := hD.sub (ws' := wBL h a0 a1 a2 cy N ec cc f cs tr o cl g) [0, 1, 2, 3, 4] (by decide) rfl
  refine zjSi (X := (fun _ => True)) (As := [.ref h, .int (nI u), .int (nI v), .ref o]) (rest := []) (wr := wM h2 b0 b1 b2 b3 b4 cy th N cc ds de f cs2 be lf od) [0, 1, 2, 3, 4] [5, 6, 7, 8, 9, 10] rfl rfl rfl (by decide) (by exact fun _ => rfl) ⟨hx, hb, hml, hown, hts⟩ (w_support_ok l D cy h a0 a1 a2 N ec cc f cs tr o cl g _ u v hN hu hv he) (vx_cwSW 4 hts gL_law_L_support rfl rfl rfl (by decide +kernel) ⟨Nat.le_of_ble_eq_true rfl, Nat.le_of_ble_eq_true rfl⟩) hK hP hPb hD hDb hA (fun _ _ _ _ _ => trivial) (fun _ _ _ => trivial) rfl hl rfl (Nat.le_of_ble_eq_true rfl) dL_law_1143 ⟨by show _ ≤ 1045; omega, by show _ ≤ 8429; omega⟩ hS (fun r9 u9 H locs hw9 hP hS => ?_)
  obtain ⟨rfl, hw9⟩ := hw9
  have hw9 : u9 = nI (zpop (f u &&& f v)) := hw9
  have hP : va_P D vwCl (wBL h a0 a1 a2 cy N ec cc f cs tr o cl (vp_updL g 0 (u9).toInt64) ++ wM h2 b0 b1 b2 b3 b4 cy th N cc ds de f cs2 be lf od) H := hP.sub [6, 7, 8, 9, 10, 0, 1, 2, 3, 4, 5] rfl
  have hD : va_D (lwAd s) (wBL h a0 a1 a2 cy N ec cc f cs tr o cl (vp_updL g 0 (u9).toInt64) ++ wM h2 b0 b1 b2 b3 b4 cy th N cc ds de f cs2 be lf od) := zD hD rfl
  refine lv_istore (lv' := [(5, .int (nI 0)), (0, .ref b), (1, .ref h), (2, .ref h2), (3, .ref o), (4, .int (nI i))]) hx hb dL_law_1146 hl (by decide) rfl (fun ls hl => ?_)
  refine lv_aload_n hx hb dL_law_1148 rfl (lv_at hl 3 rfl) ?_
  refine lv_aload_n hx hb dL_law_1149 rfl (lv_at hl 1 rfl) ?_
  refine lv_iload hx hb dL_law_1150 (lv_at hl 5 rfl) ?_
  refine lv_iconst (v := (nI 1)) hx hb dL_law_1152 (by decide) ?_
  refine z_iadd hx hb dL_law_1153 ?_
  refine z_sld hx hb hX hbl hbA hS (j := i + 1) (by omega) hL dL_law_1154 ?_
  rw [hq1]
  refine lv_aload_n hx hb dL_law_1155 rfl (lv_at hl 1 rfl) ?_
  refine lv_iload hx hb dL_law_1156 (lv_at hl 5 rfl) ?_
  refine lv_iconst (v := (nI 2)) hx hb dL_law_1158 (by decide) ?_
  refine z_iadd hx hb dL_law_1159 ?_
  refine z_sld hx hb hX hbl hbA hS (j := i + 2) (by omega) hL dL_law_1160 ?_
  rw [hq2]
  have hPm := hP.sub (ws' := wM h2 b0 b1 b2 b3 b4 cy th N cc ds de f cs2 be lf od) [5, 6, 7, 8, 9, 10] rfl
  have hDm := hD.sub (ws' := wM h2 b0 b1 b2 b3 b4 cy th N cc ds de f cs2 be lf od) [5, 6, 7, 8, 9, 10] (by decide) rfl
  refine zjVi (As := [.int (nI u), .int (nI v)]) (rest := []) (wr := wBL h a0 a1 a2 cy N ec cc f cs tr o cl (vp_updL g 0 (u9).toInt64)) 0 [5, 6, 7, 8, 9, 10] [0, 1, 2, 3, 4] rfl rfl rfl (by decide) (by exact fun _ => rfl) ⟨hx, hb, hml, hown, hts⟩ (c_X1_support_ok l D cy h2 b0 b1 b2 b3 b4 th N cc ds de f cs2 be lf od _ u v hN hg hu hv he) (cwV 2 hts gL_law_X1_support rfl rfl rfl (by decide +kernel) ⟨Nat.le_of_ble_eq_true rfl, Nat.le_of_ble_eq_true rfl⟩) (hK.sub [0] rfl) hP hPm hD hDm hA rfl rfl rfl hl rfl (Nat.le_of_ble_eq_true rfl) dL_law_1161 ⟨by show _ ≤ 1045; omega, by show _ ≤ 8429; omega⟩ hS (fun r8 u8 H locs hw8 hP hS => ?_)
  have hP : va_P D vwCl (wBL h a0 a1 a2 cy N ec cc f cs tr o cl (vp_updL g 0 (u9).toInt64) ++ wM h2 b0 b1 b2 b3 b4 cy (nI 0) N cc ds de f cs2 be lf od) H := hP
  have hD : va_D (lwAd s) (wBL h a0 a1 a2 cy N ec cc f cs tr o cl (vp_updL g 0 (u9).toInt64) ++ wM h2 b0 b1 b2 b3 b4 cy (nI 0) N cc ds de f cs2 be lf od) := zD hD rfl
  have hw8 : r8 = nI (zpop (f u &&& f v)) := hw8
  refine lv_istore (lv' := [(6, .int r8), (5, .int (nI 0)), (0, .ref b), (1, .ref h), (2, .ref h2), (3, .ref o), (4, .int (nI i))]) hx hb dL_law_1164 hl (by decide) rfl (fun ls hl => ?_)
  refine lv_aload_n hx hb dL_law_1166 rfl (lv_at hl 4 rfl) ?_
  have hPt := hP.sub (ws' := wM h2 b0 b1 b2 b3 b4 cy (nI 0) N cc ds de f cs2 be lf od) [5, 6, 7, 8, 9, 10] rfl
  refine zrV (As := []) (rest := []) 0 ⟨hx, hb, hml, hown, hts⟩ (c_X1_thrown l D cy h2 b0 b1 b2 b3 b4 (nI 0) N cc ds de f cs2 be lf od) (cwV 0 hts gL_law_X1_thrown rfl rfl rfl (by decide +kernel) ⟨Nat.le_of_ble_eq_true rfl, Nat.le_of_ble_eq_true rfl⟩) (hK.sub [0] rfl) hPt rfl rfl rfl hl rfl (Nat.le_of_ble_eq_true rfl) dL_law_1167 ⟨by show _ ≤ 1045; omega, by show _ ≤ 8429; omega⟩ hS (fun r7 H locs hw7 hk7 hS => ?_)
  obtain rfl : r7 = nI 0 := hw7
  have hP := zkeep hP hk7
  refine lv_iload hx hb dL_law_1170 (lv_at hl 1 rfl) ?_
  refine lv_icmp_eq (tgt := 1177) hx hb dL_law_1172 (by decide) (fun _ => ?_) (fun q => absurd (rfl) q)
  refine lv_iload hx hb dL_law_1177 (lv_at hl 1 rfl) ?_
  refine lv_if_ne (tgt := 1194) hx hb dL_law_1179 (by decide) (fun q => absurd rfl q) (fun _ => ?_)
  refine lv_aload_n hx hb dL_law_1182 rfl (lv_at hl 5 rfl) ?_
  refine lv_iconst (v := (nI 0)) hx hb dL_law_1183 (by decide) ?_
  refine z_lald0 hx hb hK hP 0 1 rfl rfl dL_law_1184 ?_
  refine lv_iload hx hb dL_law_1185 (lv_at hl 0 rfl) ?_
  refine lv_i2l (v := (r8).toInt64) hx hb dL_law_1187 rfl ?_
  refine z_lcmp hx hb (congrArg Int32.toInt64 (hw9.trans hw8.symm)) dL_law_1188 ?_
  refine lv_if_eq (tgt := 1194) hx hb dL_law_1189 (by decide) (fun _ => ?_) (fun q => absurd (by decide) q)
  refine lv_goto (tgt := 1334) hx hb dL_law_1194 (by decide) ?_
  refine W.widen (k := cells + 1) (n := slots + 6) (by omega) (by omega) ?_
  exact K _ _ _ ⟨hg, _, _, _, _, _, _, _, _, _, _, _, _, hcs, hec, hP, hD⟩ hS (lv_sub hl [2, 3, 4, 5, 6] rfl)

set_option maxHeartbeats 4000000 in
set_option maxRecDepth 100000 in
theorem lw_support_none (C : lwC p s m c b L xs) (hK : va_K D vwCl [(cy, .int), (cl, .long)] s) (hTL : zThL s) (hfl : l.stackTraces = false) {i : Nat} (hi : i + 3 ≤ L) (hg : gd f N) (hcs : csJ cs (cnum f N) N) (hec : ec = nI (ewn f N (zal N))) (hP : va_P D vwCl (wBL h a0 a1 a2 cy N ec cc f cs tr o cl g ++ wM h2 b0 b1 b2 b3 b4 cy th N cc ds de f cs2 be lf od) H) (hD : va_D (lwAd s) (wBL h a0 a1 a2 cy N ec cc f cs tr o cl g ++ wM h2 b0 b1 b2 b3 b4 cy th N cc ds de f cs2 be lf od)) (hS : va_S (lwAd s) s.heap H locs) (hl : lv_has ls 9 [(0, .ref b), (1, .ref h), (2, .ref h2), (3, .ref o), (4, .int (nI i))]) (hnc : cells + 1 ≤ 1045) (hns : slots + 6 ≤ 8429) {u v : Nat} (hu : u < N) (hv : v < N) (he : bt (f u) v = false) (hq1 : xs (i + 1) = (nI u)) (hq2 : xs (i + 2) = (nI v))
  (K : ∀ (H1 : Heap) (locs1 : List Loc) (ls1 : Array Slot), lwI D (lwAd s) h a0 a1 a2 cy o cl h2 b0 b1 b2 b3 b4 N f H1 → va_S (lwAd s) s.heap H1 locs1 → lv_has ls1 9 [(0, .ref b), (1, .ref h), (2, .ref h2), (3, .ref o), (4, .int (nI i))] → W p l e room_1 s m #[Value.ref b] below meth c H1 locs1 (cells + 1) (slots + 6) Q (F0 m 1334 ls1 [])) :
  W p l e room_1 s m #[Value.ref b] below meth c H locs cells slots Q (F0 m 1129 ls []) := by
  obtain ⟨hx, hb, hml, hown, hts, hX, hbl, hL⟩ := C
  have hN : N ≤ 20 := hg.1
  have hA : ∀ q : Nat, s.heap.size ≤ q → lwAd s q := fun _ h => h
  have hbA : ¬ lwAd s b := Nat.not_le.mpr hbl
  refine lv_aload_n hx hb dL_law_1129 rfl (lv_at hl 1 rfl) ?_
  refine lv_aload_n hx hb dL_law_1130 rfl (lv_at hl 0 rfl) ?_
  refine lv_iload hx hb dL_law_1131 (lv_at hl 4 rfl) ?_
  refine lv_iconst (v := (nI 1)) hx hb dL_law_1133 (by decide) ?_
  refine z_iadd hx hb dL_law_1134 ?_
  refine z_sld hx hb hX hbl hbA hS (j := i + 1) (by omega) hL dL_law_1135 ?_
  rw [hq1]
  refine lv_aload_n hx hb dL_law_1136 rfl (lv_at hl 0 rfl) ?_
  refine lv_iload hx hb dL_law_1137 (lv_at hl 4 rfl) ?_
  refine lv_iconst (v := (nI 2)) hx hb dL_law_1139 (by decide) ?_
  refine z_iadd hx hb dL_law_1140 ?_
  refine z_sld hx hb hX hbl hbA hS (j := i + 2) (by omega) hL dL_law_1141 ?_
  rw [hq2]
  refine lv_aload_n hx hb dL_law_1142 rfl (lv_at hl 3 rfl) ?_
  have hPb := hP.sub (ws' := wBL h a0 a1 a2 cy N ec cc f cs tr o cl g) [0, 1, 2, 3, 4] rfl
  have hDb := hD.sub (ws' := wBL h a0 a1 a2 cy N ec cc f cs tr o cl g) [0, 1, 2, 3, 4] (by decide) rfl
  refine zjSi (X := zTh) (As := [.ref h, .int (nI u), .int (nI v), .ref o]) (rest := []) (wr := wM h2 b0 b1 b2 b3 b4 cy th N cc ds de f cs2 be lf od) [0, 1, 2, 3, 4] [5, 6, 7, 8, 9, 10] rfl rfl rfl (by decide) (by exact fun _ => rfl) ⟨hx, hb, hml, hown, hts⟩ (w_support_none l hfl D cy h a0 a1 a2 N ec cc f cs tr o cl g _ u v hN hu hv he) (vx_cwSW 4 hts gL_law_L_support rfl rfl rfl (by decide +kernel) ⟨Nat.le_of_ble_eq_true rfl, Nat.le_of_ble_eq_true rfl⟩) hK hP hPb hD hDb hA (fun U g mk a q => q.same rfl rfl) (fun U hU hW => hTL.at hS hU hW) rfl hl rfl (Nat.le_of_ble_eq_true rfl) dL_law_1143 ⟨by show _ ≤ 1045; omega, by show _ ≤ 8429; omega⟩ hS (fun r9 u9 H locs hw9 hP hS => ?_)
  obtain rfl : r9 = nI 2 := hw9
  have hP : va_P D vwCl (wBL h a0 a1 a2 cy N ec cc f cs tr o cl g ++ wM h2 b0 b1 b2 b3 b4 cy th N cc ds de f cs2 be lf od) H := hP.sub [6, 7, 8, 9, 10, 0, 1, 2, 3, 4, 5] rfl
  have hD : va_D (lwAd s) (wBL h a0 a1 a2 cy N ec cc f cs tr o cl g ++ wM h2 b0 b1 b2 b3 b4 cy th N cc ds de f cs2 be lf od) := zD hD rfl
  refine lv_istore (lv' := [(5, .int (nI 2)), (0, .ref b), (1, .ref h), (2, .ref h2), (3, .ref o), (4, .int (nI i))]) hx hb dL_law_1146 hl (by decide) rfl (fun ls hl => ?_)
  refine lv_aload_n hx hb dL_law_1148 rfl (lv_at hl 3 rfl) ?_
  refine lv_aload_n hx hb dL_law_1149 rfl (lv_at hl 1 rfl) ?_
  refine lv_iload hx hb dL_law_1150 (lv_at hl 5 rfl) ?_
  refine lv_iconst (v := (nI 1)) hx hb dL_law_1152 (by decide) ?_
  refine z_iadd hx hb dL_law_1153 ?_
  refine z_sld hx hb hX hbl hbA hS (j := i + 1) (by omega) hL dL_law_1154 ?_
  rw [hq1]
  refine lv_aload_n hx hb dL_law_1155 rfl (lv_at hl 1 rfl) ?_
  refine lv_iload hx hb dL_law_1156 (lv_at hl 5 rfl) ?_
  refine lv_iconst (v := (nI 2)) hx hb dL_law_1158 (by decide) ?_
  refine z_iadd hx hb dL_law_1159 ?_
  refine z_sld hx hb hX hbl hbA hS (j := i + 2) (by omega) hL dL_law_1160 ?_
  rw [hq2]
  have hPm := hP.sub (ws' := wM h2 b0 b1 b2 b3 b4 cy th N cc ds de f cs2 be lf od) [5, 6, 7, 8, 9, 10] rfl
  have hDm := hD.sub (ws' := wM h2 b0 b1 b2 b3 b4 cy th N cc ds de f cs2 be lf od) [5, 6, 7, 8, 9, 10] (by decide) rfl
  refine zjVi (As := [.int (nI u), .int (nI v)]) (rest := []) (wr := wBL h a0 a1 a2 cy N ec cc f cs tr o cl g) 0 [5, 6, 7, 8, 9, 10] [0, 1, 2, 3, 4] rfl rfl rfl (by decide) (by exact fun _ => rfl) ⟨hx, hb, hml, hown, hts⟩ (c_X1_support_none l D cy h2 b0 b1 b2 b3 b4 th N cc ds de f cs2 be lf od _ u v hN hu hv he) (cwV 2 hts gL_law_X1_support rfl rfl rfl (by decide +kernel) ⟨Nat.le_of_ble_eq_true rfl, Nat.le_of_ble_eq_true rfl⟩) (hK.sub [0] rfl) hP hPm hD hDm hA rfl rfl rfl hl rfl (Nat.le_of_ble_eq_true rfl) dL_law_1161 ⟨by show _ ≤ 1045; omega, by show _ ≤ 8429; omega⟩ hS (fun r8 u8 H locs hw8 hP hS => ?_)
  have hP : va_P D vwCl (wBL h a0 a1 a2 cy N ec cc f cs tr o cl g ++ wM h2 b0 b1 b2 b3 b4 cy (nI 2) N cc ds de f cs2 be lf od) H := hP
  have hD : va_D (lwAd s) (wBL h a0 a1 a2 cy N ec cc f cs tr o cl g ++ wM h2 b0 b1 b2 b3 b4 cy (nI 2) N cc ds de f cs2 be lf od) := zD hD rfl
  have hw8 : r8 = nI 0 := hw8
  refine lv_istore (lv' := [(6, .int r8), (5, .int (nI 2)), (0, .ref b), (1, .ref h), (2, .ref h2), (3, .ref o), (4, .int (nI i))]) hx hb dL_law_1164 hl (by decide) rfl (fun ls hl => ?_)
  refine lv_aload_n hx hb dL_law_1166 rfl (lv_at hl 4 rfl) ?_
  have hPt := hP.sub (ws' := wM h2 b0 b1 b2 b3 b4 cy (nI 2) N cc ds de f cs2 be lf od) [5, 6, 7, 8, 9, 10] rfl
  refine zrV (As := []) (rest := []) 0 ⟨hx, hb, hml, hown, hts⟩ (c_X1_thrown l D cy h2 b0 b1 b2 b3 b4 (nI 2) N cc ds de f cs2 be lf od) (cwV 0 hts gL_law_X1_thrown rfl rfl rfl (by decide +kernel) ⟨Nat.le_of_ble_eq_true rfl, Nat.le_of_ble_eq_true rfl⟩) (hK.sub [0] rfl) hPt rfl rfl rfl hl rfl (Nat.le_of_ble_eq_true rfl) dL_law_1167 ⟨by show _ ≤ 1045; omega, by show _ ≤ 8429; omega⟩ hS (fun r7 H locs hw7 hk7 hS => ?_)
  obtain rfl : r7 = nI 2 := hw7
  have hP := zkeep hP hk7
  refine lv_iload hx hb dL_law_1170 (lv_at hl 1 rfl) ?_
  refine lv_icmp_eq (tgt := 1177) hx hb dL_law_1172 (by decide) (fun _ => ?_) (fun q => absurd (rfl) q)
  refine lv_iload hx hb dL_law_1177 (lv_at hl 1 rfl) ?_
  refine lv_if_ne (tgt := 1194) hx hb dL_law_1179 (by decide) (fun _ => ?_) (fun q => absurd q (by decide))
  refine lv_goto (tgt := 1334) hx hb dL_law_1194 (by decide) ?_
  refine W.widen (k := cells + 1) (n := slots + 6) (by omega) (by omega) ?_
  exact K _ _ _ ⟨hg, _, _, _, _, _, _, _, _, _, _, _, _, hcs, hec, hP, hD⟩ hS (lv_sub hl [2, 3, 4, 5, 6] rfl)

set_option maxHeartbeats 4000000 in
set_option maxRecDepth 100000 in
theorem lw_support_bad1 (C : lwC p s m c b L xs) (hK : va_K D vwCl [(cy, .int), (cl, .long)] s) (hTL : zThL s) (hfl : l.stackTraces = false) {i : Nat} (hi : i + 3 ≤ L) (hg : gd f N) (hcs : csJ cs (cnum f N) N) (hec : ec = nI (ewn f N (zal N))) (hP : va_P D vwCl (wBL h a0 a1 a2 cy N ec cc f cs tr o cl g ++ wM h2 b0 b1 b2 b3 b4 cy th N cc ds de f cs2 be lf od) H) (hD : va_D (lwAd s) (wBL h a0 a1 a2 cy N ec cc f cs tr o cl g ++ wM h2 b0 b1 b2 b3 b4 cy th N cc ds de f cs2 be lf od)) (hS : va_S (lwAd s) s.heap H locs) (hl : lv_has ls 9 [(0, .ref b), (1, .ref h), (2, .ref h2), (3, .ref o), (4, .int (nI i))]) (hnc : cells + 1 ≤ 1045) (hns : slots + 6 ≤ 8429) {q1 q2 : Int32} (hq : isNb q1 N = false) (hq1 : xs (i + 1) = q1) (hq2 : xs (i + 2) = q2)
  (K : ∀ (H1 : Heap) (locs1 : List Loc) (ls1 : Array Slot), lwI D (lwAd s) h a0 a1 a2 cy o cl h2 b0 b1 b2 b3 b4 N f H1 → va_S (lwAd s) s.heap H1 locs1 → lv_has ls1 9 [(0, .ref b), (1, .ref h), (2, .ref h2), (3, .ref o), (4, .int (nI i))] → W p l e room_1 s m #[Value.ref b] below meth c H1 locs1 (cells + 1) (slots + 6) Q (F0 m 1334 ls1 [])) :
  W p l e room_1 s m #[Value.ref b] below meth c H locs cells slots Q (F0 m 1129 ls []) := by
  obtain ⟨hx, hb, hml, hown, hts, hX, hbl, hL⟩ := C
  have hN : N ≤ 20 := hg.1
  have hA : ∀ q : Nat, s.heap.size ≤ q → lwAd s q := fun _ h => h
  have hbA : ¬ lwAd s b := Nat.not_le.mpr hbl
  refine lv_aload_n hx hb dL_law_1129 rfl (lv_at hl 1 rfl) ?_
  refine lv_aload_n hx hb dL_law_1130 rfl (lv_at hl 0 rfl) ?_
  refine lv_iload hx hb dL_law_1131 (lv_at hl 4 rfl) ?_
  refine lv_iconst (v := (nI 1)) hx hb dL_law_1133 (by decide) ?_
  refine z_iadd hx hb dL_law_1134 ?_
  refine z_sld hx hb hX hbl hbA hS (j := i + 1) (by omega) hL dL_law_1135 ?_
  rw [hq1]
  refine lv_aload_n hx hb dL_law_1136 rfl (lv_at hl 0 rfl) ?_
  refine lv_iload hx hb dL_law_1137 (lv_at hl 4 rfl) ?_
  refine lv_iconst (v := (nI 2)) hx hb dL_law_1139 (by decide) ?_
  refine z_iadd hx hb dL_law_1140 ?_
  refine z_sld hx hb hX hbl hbA hS (j := i + 2) (by omega) hL dL_law_1141 ?_
  rw [hq2]
  refine lv_aload_n hx hb dL_law_1142 rfl (lv_at hl 3 rfl) ?_
  have hPb := hP.sub (ws' := wBL h a0 a1 a2 cy N ec cc f cs tr o cl g) [0, 1, 2, 3, 4] rfl
  have hDb := hD.sub (ws' := wBL h a0 a1 a2 cy N ec cc f cs tr o cl g) [0, 1, 2, 3, 4] (by decide) rfl
  refine zjSi (X := zTh) (As := [.ref h, .int q1, .int q2, .ref o]) (rest := []) (wr := wM h2 b0 b1 b2 b3 b4 cy th N cc ds de f cs2 be lf od) [0, 1, 2, 3, 4] [5, 6, 7, 8, 9, 10] rfl rfl rfl (by decide) (by exact fun _ => rfl) ⟨hx, hb, hml, hown, hts⟩ (w_support_bad1 l hfl D cy h a0 a1 a2 N ec cc f cs tr o cl g _ q1 q2 hq) (vx_cwSW 4 hts gL_law_L_support rfl rfl rfl (by decide +kernel) ⟨Nat.le_of_ble_eq_true rfl, Nat.le_of_ble_eq_true rfl⟩) hK hP hPb hD hDb hA (fun U g mk a q => q.same rfl rfl) (fun U hU hW => hTL.at hS hU hW) rfl hl rfl (Nat.le_of_ble_eq_true rfl) dL_law_1143 ⟨by show _ ≤ 1045; omega, by show _ ≤ 8429; omega⟩ hS (fun r9 u9 H locs hw9 hP hS => ?_)
  obtain rfl : r9 = nI 1 := hw9
  have hP : va_P D vwCl (wBL h a0 a1 a2 cy N ec cc f cs tr o cl g ++ wM h2 b0 b1 b2 b3 b4 cy th N cc ds de f cs2 be lf od) H := hP.sub [6, 7, 8, 9, 10, 0, 1, 2, 3, 4, 5] rfl
  have hD : va_D (lwAd s) (wBL h a0 a1 a2 cy N ec cc f cs tr o cl g ++ wM h2 b0 b1 b2 b3 b4 cy th N cc ds de f cs2 be lf od) := zD hD rfl
  refine lv_istore (lv' := [(5, .int (nI 1)), (0, .ref b), (1, .ref h), (2, .ref h2), (3, .ref o), (4, .int (nI i))]) hx hb dL_law_1146 hl (by decide) rfl (fun ls hl => ?_)
  refine lv_aload_n hx hb dL_law_1148 rfl (lv_at hl 3 rfl) ?_
  refine lv_aload_n hx hb dL_law_1149 rfl (lv_at hl 1 rfl) ?_
  refine lv_iload hx hb dL_law_1150 (lv_at hl 5 rfl) ?_
  refine lv_iconst (v := (nI 1)) hx hb dL_law_1152 (by decide) ?_
  refine z_iadd hx hb dL_law_1153 ?_
  refine z_sld hx hb hX hbl hbA hS (j := i + 1) (by omega) hL dL_law_1154 ?_
  rw [hq1]
  refine lv_aload_n hx hb dL_law_1155 rfl (lv_at hl 1 rfl) ?_
  refine lv_iload hx hb dL_law_1156 (lv_at hl 5 rfl) ?_
  refine lv_iconst (v := (nI 2)) hx hb dL_law_1158 (by decide) ?_
  refine z_iadd hx hb dL_law_1159 ?_
  refine z_sld hx hb hX hbl hbA hS (j := i + 2) (by omega) hL dL_law_1160 ?_
  rw [hq2]
  have hPm := hP.sub (ws' := wM h2 b0 b1 b2 b3 b4 cy th N cc ds de f cs2 be lf od) [5, 6, 7, 8, 9, 10] rfl
  have hDm := hD.sub (ws' := wM h2 b0 b1 b2 b3 b4 cy th N cc ds de f cs2 be lf od) [5, 6, 7, 8, 9, 10] (by decide) rfl
  refine zjVi (As := [.int q1, .int q2]) (rest := []) (wr := wBL h a0 a1 a2 cy N ec cc f cs tr o cl g) 0 [5, 6, 7, 8, 9, 10] [0, 1, 2, 3, 4] rfl rfl rfl (by decide) (by exact fun _ => rfl) ⟨hx, hb, hml, hown, hts⟩ (c_X1_support_bad l D cy h2 b0 b1 b2 b3 b4 th N cc ds de f cs2 be lf od _ q1 q2 (by rw [hq]; rfl)) (cwV 2 hts gL_law_X1_support rfl rfl rfl (by decide +kernel) ⟨Nat.le_of_ble_eq_true rfl, Nat.le_of_ble_eq_true rfl⟩) (hK.sub [0] rfl) hP hPm hD hDm hA rfl rfl rfl hl rfl (Nat.le_of_ble_eq_true rfl) dL_law_1161 ⟨by show _ ≤ 1045; omega, by show _ ≤ 8429; omega⟩ hS (fun r8 u8 H locs hw8 hP hS => ?_)
  have hP : va_P D vwCl (wBL h a0 a1 a2 cy N ec cc f cs tr o cl g ++ wM h2 b0 b1 b2 b3 b4 cy (nI 1) N cc ds de f cs2 be lf od) H := hP
  have hD : va_D (lwAd s) (wBL h a0 a1 a2 cy N ec cc f cs tr o cl g ++ wM h2 b0 b1 b2 b3 b4 cy (nI 1) N cc ds de f cs2 be lf od) := zD hD rfl
  have hw8 : r8 = nI 0 := hw8
  refine lv_istore (lv' := [(6, .int r8), (5, .int (nI 1)), (0, .ref b), (1, .ref h), (2, .ref h2), (3, .ref o), (4, .int (nI i))]) hx hb dL_law_1164 hl (by decide) rfl (fun ls hl => ?_)
  refine lv_aload_n hx hb dL_law_1166 rfl (lv_at hl 4 rfl) ?_
  have hPt := hP.sub (ws' := wM h2 b0 b1 b2 b3 b4 cy (nI 1) N cc ds de f cs2 be lf od) [5, 6, 7, 8, 9, 10] rfl
  refine zrV (As := []) (rest := []) 0 ⟨hx, hb, hml, hown, hts⟩ (c_X1_thrown l D cy h2 b0 b1 b2 b3 b4 (nI 1) N cc ds de f cs2 be lf od) (cwV 0 hts gL_law_X1_thrown rfl rfl rfl (by decide +kernel) ⟨Nat.le_of_ble_eq_true rfl, Nat.le_of_ble_eq_true rfl⟩) (hK.sub [0] rfl) hPt rfl rfl rfl hl rfl (Nat.le_of_ble_eq_true rfl) dL_law_1167 ⟨by show _ ≤ 1045; omega, by show _ ≤ 8429; omega⟩ hS (fun r7 H locs hw7 hk7 hS => ?_)
  obtain rfl : r7 = nI 1 := hw7
  have hP := zkeep hP hk7
  refine lv_iload hx hb dL_law_1170 (lv_at hl 1 rfl) ?_
  refine lv_icmp_eq (tgt := 1177) hx hb dL_law_1172 (by decide) (fun _ => ?_) (fun q => absurd (rfl) q)
  refine lv_iload hx hb dL_law_1177 (lv_at hl 1 rfl) ?_
  refine lv_if_ne (tgt := 1194) hx hb dL_law_1179 (by decide) (fun _ => ?_) (fun q => absurd q (by decide))
  refine lv_goto (tgt := 1334) hx hb dL_law_1194 (by decide) ?_
  refine W.widen (k := cells + 1) (n := slots + 6) (by omega) (by omega) ?_
  exact K _ _ _ ⟨hg, _, _, _, _, _, _, _, _, _, _, _, _, hcs, hec, hP, hD⟩ hS (lv_sub hl [2, 3, 4, 5, 6] rfl)

set_option maxHeartbeats 4000000 in
set_option maxRecDepth 100000 in
theorem lw_support_bad2 (C : lwC p s m c b L xs) (hK : va_K D vwCl [(cy, .int), (cl, .long)] s) (hTL : zThL s) (hfl : l.stackTraces = false) {i : Nat} (hi : i + 3 ≤ L) (hg : gd f N) (hcs : csJ cs (cnum f N) N) (hec : ec = nI (ewn f N (zal N))) (hP : va_P D vwCl (wBL h a0 a1 a2 cy N ec cc f cs tr o cl g ++ wM h2 b0 b1 b2 b3 b4 cy th N cc ds de f cs2 be lf od) H) (hD : va_D (lwAd s) (wBL h a0 a1 a2 cy N ec cc f cs tr o cl g ++ wM h2 b0 b1 b2 b3 b4 cy th N cc ds de f cs2 be lf od)) (hS : va_S (lwAd s) s.heap H locs) (hl : lv_has ls 9 [(0, .ref b), (1, .ref h), (2, .ref h2), (3, .ref o), (4, .int (nI i))]) (hnc : cells + 1 ≤ 1045) (hns : slots + 6 ≤ 8429) {u : Nat} {q2 : Int32} (hu : u < N) (hq : isNb q2 N = false) (hq1 : xs (i + 1) = (nI u)) (hq2 : xs (i + 2) = q2)
  (K : ∀ (H1 : Heap) (locs1 : List Loc) (ls1 : Array Slot), lwI D (lwAd s) h a0 a1 a2 cy o cl h2 b0 b1 b2 b3 b4 N f H1 → va_S (lwAd s) s.heap H1 locs1 → lv_has ls1 9 [(0, .ref b), (1, .ref h), (2, .ref h2), (3, .ref o), (4, .int (nI i))] → W p l e room_1 s m #[Value.ref b] below meth c H1 locs1 (cells + 1) (slots + 6) Q (F0 m 1334 ls1 [])) :
  W p l e room_1 s m #[Value.ref b] below meth c H locs cells slots Q (F0 m 1129 ls []) := by
  obtain ⟨hx, hb, hml, hown, hts, hX, hbl, hL⟩ := C
  have hN : N ≤ 20 := hg.1
  have hA : ∀ q : Nat, s.heap.size ≤ q → lwAd s q := fun _ h => h
  have hbA : ¬ lwAd s b := Nat.not_le.mpr hbl
  refine lv_aload_n hx hb dL_law_1129 rfl (lv_at hl 1 rfl) ?_
  refine lv_aload_n hx hb dL_law_1130 rfl (lv_at hl 0 rfl) ?_
  refine lv_iload hx hb dL_law_1131 (lv_at hl 4 rfl) ?_
  refine lv_iconst (v := (nI 1)) hx hb dL_law_1133 (by decide) ?_
  refine z_iadd hx hb dL_law_1134 ?_
  refine z_sld hx hb hX hbl hbA hS (j := i + 1) (by omega) hL dL_law_1135 ?_
  rw [hq1]
  refine lv_aload_n hx hb dL_law_1136 rfl (lv_at hl 0 rfl) ?_
  refine lv_iload hx hb dL_law_1137 (lv_at hl 4 rfl) ?_
  refine lv_iconst (v := (nI 2)) hx hb dL_law_1139 (by decide) ?_
  refine z_iadd hx hb dL_law_1140 ?_
  refine z_sld hx hb hX hbl hbA hS (j := i + 2) (by omega) hL dL_law_1141 ?_
  rw [hq2]
  refine lv_aload_n hx hb dL_law_1142 rfl (lv_at hl 3 rfl) ?_
  have hPb := hP.sub (ws' := wBL h a0 a1 a2 cy N ec cc f cs tr o cl g) [0, 1, 2, 3, 4] rfl
  have hDb := hD.sub (ws' := wBL h a0 a1 a2 cy N ec cc f cs tr o cl g) [0, 1, 2, 3, 4] (by decide) rfl
  refine zjSi (X := zTh) (As := [.ref h, .int (nI u), .int q2, .ref o]) (rest := []) (wr := wM h2 b0 b1 b2 b3 b4 cy th N cc ds de f cs2 be lf od) [0, 1, 2, 3, 4] [5, 6, 7, 8, 9, 10] rfl rfl rfl (by decide) (by exact fun _ => rfl) ⟨hx, hb, hml, hown, hts⟩ (w_support_bad2 l hfl D cy h a0 a1 a2 N ec cc f cs tr o cl g _ u q2 hN hu hq) (vx_cwSW 4 hts gL_law_L_support rfl rfl rfl (by decide +kernel) ⟨Nat.le_of_ble_eq_true rfl, Nat.le_of_ble_eq_true rfl⟩) hK hP hPb hD hDb hA (fun U g mk a q => q.same rfl rfl) (fun U hU hW => hTL.at hS hU hW) rfl hl rfl (Nat.le_of_ble_eq_true rfl) dL_law_1143 ⟨by show _ ≤ 1045; omega, by show _ ≤ 8429; omega⟩ hS (fun r9 u9 H locs hw9 hP hS => ?_)
  obtain rfl : r9 = nI 1 := hw9
  have hP : va_P D vwCl (wBL h a0 a1 a2 cy N ec cc f cs tr o cl g ++ wM h2 b0 b1 b2 b3 b4 cy th N cc ds de f cs2 be lf od) H := hP.sub [6, 7, 8, 9, 10, 0, 1, 2, 3, 4, 5] rfl
  have hD : va_D (lwAd s) (wBL h a0 a1 a2 cy N ec cc f cs tr o cl g ++ wM h2 b0 b1 b2 b3 b4 cy th N cc ds de f cs2 be lf od) := zD hD rfl
  refine lv_istore (lv' := [(5, .int (nI 1)), (0, .ref b), (1, .ref h), (2, .ref h2), (3, .ref o), (4, .int (nI i))]) hx hb dL_law_1146 hl (by decide) rfl (fun ls hl => ?_)
  refine lv_aload_n hx hb dL_law_1148 rfl (lv_at hl 3 rfl) ?_
  refine lv_aload_n hx hb dL_law_1149 rfl (lv_at hl 1 rfl) ?_
  refine lv_iload hx hb dL_law_1150 (lv_at hl 5 rfl) ?_
  refine lv_iconst (v := (nI 1)) hx hb dL_law_1152 (by decide) ?_
  refine z_iadd hx hb dL_law_1153 ?_
  refine z_sld hx hb hX hbl hbA hS (j := i + 1) (by omega) hL dL_law_1154 ?_
  rw [hq1]
  refine lv_aload_n hx hb dL_law_1155 rfl (lv_at hl 1 rfl) ?_
  refine lv_iload hx hb dL_law_1156 (lv_at hl 5 rfl) ?_
  refine lv_iconst (v := (nI 2)) hx hb dL_law_1158 (by decide) ?_
  refine z_iadd hx hb dL_law_1159 ?_
  refine z_sld hx hb hX hbl hbA hS (j := i + 2) (by omega) hL dL_law_1160 ?_
  rw [hq2]
  have hPm := hP.sub (ws' := wM h2 b0 b1 b2 b3 b4 cy th N cc ds de f cs2 be lf od) [5, 6, 7, 8, 9, 10] rfl
  have hDm := hD.sub (ws' := wM h2 b0 b1 b2 b3 b4 cy th N cc ds de f cs2 be lf od) [5, 6, 7, 8, 9, 10] (by decide) rfl
  refine zjVi (As := [.int (nI u), .int q2]) (rest := []) (wr := wBL h a0 a1 a2 cy N ec cc f cs tr o cl g) 0 [5, 6, 7, 8, 9, 10] [0, 1, 2, 3, 4] rfl rfl rfl (by decide) (by exact fun _ => rfl) ⟨hx, hb, hml, hown, hts⟩ (c_X1_support_bad l D cy h2 b0 b1 b2 b3 b4 th N cc ds de f cs2 be lf od _ (nI u) q2 (by rw [hq]; exact Bool.and_false _)) (cwV 2 hts gL_law_X1_support rfl rfl rfl (by decide +kernel) ⟨Nat.le_of_ble_eq_true rfl, Nat.le_of_ble_eq_true rfl⟩) (hK.sub [0] rfl) hP hPm hD hDm hA rfl rfl rfl hl rfl (Nat.le_of_ble_eq_true rfl) dL_law_1161 ⟨by show _ ≤ 1045; omega, by show _ ≤ 8429; omega⟩ hS (fun r8 u8 H locs hw8 hP hS => ?_)
  have hP : va_P D vwCl (wBL h a0 a1 a2 cy N ec cc f cs tr o cl g ++ wM h2 b0 b1 b2 b3 b4 cy (nI 1) N cc ds de f cs2 be lf od) H := hP
  have hD : va_D (lwAd s) (wBL h a0 a1 a2 cy N ec cc f cs tr o cl g ++ wM h2 b0 b1 b2 b3 b4 cy (nI 1) N cc ds de f cs2 be lf od) := zD hD rfl
  have hw8 : r8 = nI 0 := hw8
  refine lv_istore (lv' := [(6, .int r8), (5, .int (nI 1)), (0, .ref b), (1, .ref h), (2, .ref h2), (3, .ref o), (4, .int (nI i))]) hx hb dL_law_1164 hl (by decide) rfl (fun ls hl => ?_)
  refine lv_aload_n hx hb dL_law_1166 rfl (lv_at hl 4 rfl) ?_
  have hPt := hP.sub (ws' := wM h2 b0 b1 b2 b3 b4 cy (nI 1) N cc ds de f cs2 be lf od) [5, 6, 7, 8, 9, 10] rfl
  refine zrV (As := []) (rest := []) 0 ⟨hx, hb, hml, hown, hts⟩ (c_X1_thrown l D cy h2 b0 b1 b2 b3 b4 (nI 1) N cc ds de f cs2 be lf od) (cwV 0 hts gL_law_X1_thrown rfl rfl rfl (by decide +kernel) ⟨Nat.le_of_ble_eq_true rfl, Nat.le_of_ble_eq_true rfl⟩) (hK.sub [0] rfl) hPt rfl rfl rfl hl rfl (Nat.le_of_ble_eq_true rfl) dL_law_1167 ⟨by show _ ≤ 1045; omega, by show _ ≤ 8429; omega⟩ hS (fun r7 H locs hw7 hk7 hS => ?_)
  obtain rfl : r7 = nI 1 := hw7
  have hP := zkeep hP hk7
  refine lv_iload hx hb dL_law_1170 (lv_at hl 1 rfl) ?_
  refine lv_icmp_eq (tgt := 1177) hx hb dL_law_1172 (by decide) (fun _ => ?_) (fun q => absurd (rfl) q)
  refine lv_iload hx hb dL_law_1177 (lv_at hl 1 rfl) ?_
  refine lv_if_ne (tgt := 1194) hx hb dL_law_1179 (by decide) (fun _ => ?_) (fun q => absurd q (by decide))
  refine lv_goto (tgt := 1334) hx hb dL_law_1194 (by decide) ?_
  refine W.widen (k := cells + 1) (n := slots + 6) (by omega) (by omega) ?_
  exact K _ _ _ ⟨hg, _, _, _, _, _, _, _, _, _, _, _, _, hcs, hec, hP, hD⟩ hS (lv_sub hl [2, 3, 4, 5, 6] rfl)

set_option maxHeartbeats 4000000 in
set_option maxRecDepth 100000 in
theorem lw_triangles (C : lwC p s m c b L xs) (hK : va_K D vwCl [(cy, .int), (cl, .long)] s) (hTL : zThL s) (hfl : l.stackTraces = false) {i : Nat} (hi : i + 3 ≤ L) (hg : gd f N) (hcs : csJ cs (cnum f N) N) (hec : ec = nI (ewn f N (zal N))) (hP : va_P D vwCl (wBL h a0 a1 a2 cy N ec cc f cs tr o cl g ++ wM h2 b0 b1 b2 b3 b4 cy th N cc ds de f cs2 be lf od) H) (hD : va_D (lwAd s) (wBL h a0 a1 a2 cy N ec cc f cs tr o cl g ++ wM h2 b0 b1 b2 b3 b4 cy th N cc ds de f cs2 be lf od)) (hS : va_S (lwAd s) s.heap H locs) (hl : lv_has ls 9 [(0, .ref b), (1, .ref h), (2, .ref h2), (3, .ref o), (4, .int (nI i))]) (hnc : cells + 1 ≤ 1045) (hns : slots + 6 ≤ 8429)
  (K : ∀ (H1 : Heap) (locs1 : List Loc) (ls1 : Array Slot), lwI D (lwAd s) h a0 a1 a2 cy o cl h2 b0 b1 b2 b3 b4 N f H1 → va_S (lwAd s) s.heap H1 locs1 → lv_has ls1 9 [(0, .ref b), (1, .ref h), (2, .ref h2), (3, .ref o), (4, .int (nI i))] → W p l e room_1 s m #[Value.ref b] below meth c H1 locs1 (cells + 1) (slots + 6) Q (F0 m 1334 ls1 [])) :
  W p l e room_1 s m #[Value.ref b] below meth c H locs cells slots Q (F0 m 1197 ls []) := by
  obtain ⟨hx, hb, hml, hown, hts, hX, hbl, hL⟩ := C
  have hN : N ≤ 20 := hg.1
  have hA : ∀ q : Nat, s.heap.size ≤ q → lwAd s q := fun _ h => h
  have hbA : ¬ lwAd s b := Nat.not_le.mpr hbl
  refine lv_aload_n hx hb dL_law_1197 rfl (lv_at hl 1 rfl) ?_
  have hPb := hP.sub (ws' := wB h a0 a1 a2 cy N ec cc f cs tr) [1, 2, 3, 4] rfl
  refine zrV (As := []) (rest := []) 0 ⟨hx, hb, hml, hown, hts⟩ (c_X0_triangles l D cy h a0 a1 a2 N ec cc f cs tr hN) (cwV 0 hts gL_law_X0_triangles rfl rfl rfl (by decide +kernel) ⟨Nat.le_of_ble_eq_true rfl, Nat.le_of_ble_eq_true rfl⟩) (hK.sub [0] rfl) hPb rfl rfl rfl hl rfl (Nat.le_of_ble_eq_true rfl) dL_law_1198 ⟨by show _ ≤ 1045; omega, by show _ ≤ 8429; omega⟩ hS (fun r9 H locs hw9 hk9 hS => ?_)
  have hP := zkeep hP hk9
  refine lv_aload_n hx hb dL_law_1201 rfl (lv_at hl 2 rfl) ?_
  have hPm := hP.sub (ws' := wM h2 b0 b1 b2 b3 b4 cy th N cc ds de f cs2 be lf od) [5, 6, 7, 8, 9, 10] rfl
  have hDm := hD.sub (ws' := wM h2 b0 b1 b2 b3 b4 cy th N cc ds de f cs2 be lf od) [5, 6, 7, 8, 9, 10] (by decide) rfl
  refine zjVi (As := []) (rest := [.int r9]) (wr := wBL h a0 a1 a2 cy N ec cc f cs tr o cl g) 0 [5, 6, 7, 8, 9, 10] [0, 1, 2, 3, 4] rfl rfl rfl (by decide) (by exact fun _ => rfl) ⟨hx, hb, hml, hown, hts⟩ (c_X1_triangles l D cy h2 b0 b1 b2 b3 b4 th N cc ds de f cs2 be lf od _ hN hg) (cwV 0 hts gL_law_X1_triangles rfl rfl rfl (by decide +kernel) ⟨Nat.le_of_ble_eq_true rfl, Nat.le_of_ble_eq_true rfl⟩) (hK.sub [0] rfl) hP hPm hD hDm hA rfl rfl rfl hl rfl (Nat.le_of_ble_eq_true rfl) dL_law_1202 ⟨by show _ ≤ 1045; omega, by show _ ≤ 8429; omega⟩ hS (fun r8 u8 H locs hw8 hP hS => ?_)
  have hP : va_P D vwCl (wBL h a0 a1 a2 cy N ec cc f cs tr o cl g ++ wM h2 b0 b1 b2 b3 b4 cy (nI 0) N cc ds de f cs2 be lf od) H := hP
  have hD : va_D (lwAd s) (wBL h a0 a1 a2 cy N ec cc f cs tr o cl g ++ wM h2 b0 b1 b2 b3 b4 cy (nI 0) N cc ds de f cs2 be lf od) := zD hD rfl
  have hw8 : r8 = nI (fb_sm (tr2s f) N / 3) := hw8
  have he9 : r9 = r8 := by rw [hw9, hw8, same_tri hg]
  refine lv_icmp_eq (tgt := 1334) hx hb dL_law_1205 (by decide) (fun _ => ?_) (fun q => absurd (he9) q)
  refine W.widen (k := cells + 1) (n := slots + 6) (by omega) (by omega) ?_
  exact K _ _ _ ⟨hg, _, _, _, _, _, _, _, _, _, _, _, _, hcs, hec, hP, hD⟩ hS (lv_sub hl [0, 1, 2, 3, 4] rfl)

set_option maxHeartbeats 4000000 in
set_option maxRecDepth 100000 in
theorem lw_truss_ok (C : lwC p s m c b L xs) (hK : va_K D vwCl [(cy, .int), (cl, .long)] s) (hTL : zThL s) (hfl : l.stackTraces = false) {i : Nat} (hi : i + 3 ≤ L) (hg : gd f N) (hcs : csJ cs (cnum f N) N) (hec : ec = nI (ewn f N (zal N))) (hP : va_P D vwCl (wBL h a0 a1 a2 cy N ec cc f cs tr o cl g ++ wM h2 b0 b1 b2 b3 b4 cy th N cc ds de f cs2 be lf od) H) (hD : va_D (lwAd s) (wBL h a0 a1 a2 cy N ec cc f cs tr o cl g ++ wM h2 b0 b1 b2 b3 b4 cy th N cc ds de f cs2 be lf od)) (hS : va_S (lwAd s) s.heap H locs) (hl : lv_has ls 9 [(0, .ref b), (1, .ref h), (2, .ref h2), (3, .ref o), (4, .int (nI i))]) (hnc : cells + 1 ≤ 1045) (hns : slots + 6 ≤ 8429) {u v : Nat} (hu : u < N) (hv : v < N) (he : bt (f u) v = true) (hq1 : xs (i + 1) = (nI u)) (hq2 : xs (i + 2) = (nI v))
  (K : ∀ (H1 : Heap) (locs1 : List Loc) (ls1 : Array Slot), lwI D (lwAd s) h a0 a1 a2 cy o cl h2 b0 b1 b2 b3 b4 N f H1 → va_S (lwAd s) s.heap H1 locs1 → lv_has ls1 9 [(0, .ref b), (1, .ref h), (2, .ref h2), (3, .ref o), (4, .int (nI i))] → W p l e room_1 s m #[Value.ref b] below meth c H1 locs1 (cells + 1) (slots + 6) Q (F0 m 1334 ls1 [])) :
  W p l e room_1 s m #[Value.ref b] below meth c H locs cells slots Q (F0 m 1210 ls []) := by
  obtain ⟨hx, hb, hml, hown, hts, hX, hbl, hL⟩ := C
  have hN : N ≤ 20 := hg.1
  have hA : ∀ q : Nat, s.heap.size ≤ q → lwAd s q := fun _ h => h
  have hbA : ¬ lwAd s b := Nat.not_le.mpr hbl
  refine lv_aload_n hx hb dL_law_1210 rfl (lv_at hl 1 rfl) ?_
  refine lv_aload_n hx hb dL_law_1211 rfl (lv_at hl 0 rfl) ?_
  refine lv_iload hx hb dL_law_1212 (lv_at hl 4 rfl) ?_
  refine lv_iconst (v := (nI 1)) hx hb dL_law_1214 (by decide) ?_
  refine z_iadd hx hb dL_law_1215 ?_
  refine z_sld hx hb hX hbl hbA hS (j := i + 1) (by omega) hL dL_law_1216 ?_
  rw [hq1]
  refine lv_aload_n hx hb dL_law_1217 rfl (lv_at hl 0 rfl) ?_
  refine lv_iload hx hb dL_law_1218 (lv_at hl 4 rfl) ?_
  refine lv_iconst (v := (nI 2)) hx hb dL_law_1220 (by decide) ?_
  refine z_iadd hx hb dL_law_1221 ?_
  refine z_sld hx hb hX hbl hbA hS (j := i + 2) (by omega) hL dL_law_1222 ?_
  rw [hq2]
  refine lv_aload_n hx hb dL_law_1223 rfl (lv_at hl 3 rfl) ?_
  have hPb := hP.sub (ws' := wBL h a0 a1 a2 cy N ec cc f cs tr o cl g) [0, 1, 2, 3, 4] rfl
  have hDb := hD.sub (ws' := wBL h a0 a1 a2 cy N ec cc f cs tr o cl g) [0, 1, 2, 3, 4] (by decide) rfl
  refine zjSi (X := (fun _ => True)) (As := [.ref h, .int (nI u), .int (nI v), .ref o]) (rest := []) (wr := wM h2 b0 b1 b2 b3 b4 cy th N cc ds de f cs2 be lf od) [0, 1, 2, 3, 4] [5, 6, 7, 8, 9, 10] rfl rfl rfl (by decide) (by exact fun _ => rfl) ⟨hx, hb, hml, hown, hts⟩ (w_truss_ok l D cy h a0 a1 a2 N ec cc f cs tr o cl g _ u v hN hg hu hv he) (vx_cwSW 4 hts gL_law_L_truss rfl rfl rfl (by decide +kernel) ⟨Nat.le_of_ble_eq_true rfl, Nat.le_of_ble_eq_true rfl⟩) hK hP hPb hD hDb hA (fun _ _ _ _ _ => trivial) (fun _ _ _ => trivial) rfl hl rfl (Nat.le_of_ble_eq_true rfl) dL_law_1224 ⟨by show _ ≤ 1045; omega, by show _ ≤ 8429; omega⟩ hS (fun r9 u9 H locs hw9 hP hS => ?_)
  obtain ⟨rfl, hw9⟩ := hw9
  have hw9 : ∃ k, u9.1 = nI k ∧ tnum f N u v k := hw9
  have hP : va_P D vwCl (wBL h a0 a1 a2 cy N ec cc f cs u9.2 o cl (vp_updL g 0 (u9.1).toInt64) ++ wM h2 b0 b1 b2 b3 b4 cy th N cc ds de f cs2 be lf od) H := hP.sub [6, 7, 8, 9, 10, 0, 1, 2, 3, 4, 5] rfl
  have hD : va_D (lwAd s) (wBL h a0 a1 a2 cy N ec cc f cs u9.2 o cl (vp_updL g 0 (u9.1).toInt64) ++ wM h2 b0 b1 b2 b3 b4 cy th N cc ds de f cs2 be lf od) := zD hD rfl
  refine lv_istore (lv' := [(5, .int (nI 0)), (0, .ref b), (1, .ref h), (2, .ref h2), (3, .ref o), (4, .int (nI i))]) hx hb dL_law_1227 hl (by decide) rfl (fun ls hl => ?_)
  refine lv_aload_n hx hb dL_law_1229 rfl (lv_at hl 3 rfl) ?_
  refine lv_aload_n hx hb dL_law_1230 rfl (lv_at hl 1 rfl) ?_
  refine lv_iload hx hb dL_law_1231 (lv_at hl 5 rfl) ?_
  refine lv_iconst (v := (nI 1)) hx hb dL_law_1233 (by decide) ?_
  refine z_iadd hx hb dL_law_1234 ?_
  refine z_sld hx hb hX hbl hbA hS (j := i + 1) (by omega) hL dL_law_1235 ?_
  rw [hq1]
  refine lv_aload_n hx hb dL_law_1236 rfl (lv_at hl 1 rfl) ?_
  refine lv_iload hx hb dL_law_1237 (lv_at hl 5 rfl) ?_
  refine lv_iconst (v := (nI 2)) hx hb dL_law_1239 (by decide) ?_
  refine z_iadd hx hb dL_law_1240 ?_
  refine z_sld hx hb hX hbl hbA hS (j := i + 2) (by omega) hL dL_law_1241 ?_
  rw [hq2]
  have hPm := hP.sub (ws' := wM h2 b0 b1 b2 b3 b4 cy th N cc ds de f cs2 be lf od) [5, 6, 7, 8, 9, 10] rfl
  have hDm := hD.sub (ws' := wM h2 b0 b1 b2 b3 b4 cy th N cc ds de f cs2 be lf od) [5, 6, 7, 8, 9, 10] (by decide) rfl
  refine zjVi (As := [.int (nI u), .int (nI v)]) (rest := []) (wr := wBL h a0 a1 a2 cy N ec cc f cs u9.2 o cl (vp_updL g 0 (u9.1).toInt64)) 0 [5, 6, 7, 8, 9, 10] [0, 1, 2, 3, 4] rfl rfl rfl (by decide) (by exact fun _ => rfl) ⟨hx, hb, hml, hown, hts⟩ (c_X1_truss_ok l D cy h2 b0 b1 b2 b3 b4 th N cc ds de f cs2 be lf od _ u v hN hg hu hv he) (cwV 2 hts gL_law_X1_truss rfl rfl rfl (by decide +kernel) ⟨Nat.le_of_ble_eq_true rfl, Nat.le_of_ble_eq_true rfl⟩) (hK.sub [0] rfl) hP hPm hD hDm hA rfl rfl rfl hl rfl (Nat.le_of_ble_eq_true rfl) dL_law_1242 ⟨by show _ ≤ 1045; omega, by show _ ≤ 8429; omega⟩ hS (fun r8 u8 H locs hw8 hP hS => ?_)
  have hP : va_P D vwCl (wBL h a0 a1 a2 cy N ec cc f cs u9.2 o cl (vp_updL g 0 (u9.1).toInt64) ++ wM h2 b0 b1 b2 b3 b4 cy (nI 0) N cc ds de f cs2 be u8 od) H := hP
  have hD : va_D (lwAd s) (wBL h a0 a1 a2 cy N ec cc f cs u9.2 o cl (vp_updL g 0 (u9.1).toInt64) ++ wM h2 b0 b1 b2 b3 b4 cy (nI 0) N cc ds de f cs2 be u8 od) := zD hD rfl
  have hw8 : ∃ k, r8 = nI k ∧ tnum f N u v k := hw8
  obtain ⟨k9, e9, t9⟩ := hw9
  obtain ⟨k8, e8, t8⟩ := hw8
  have he9 : u9.1 = r8 := by rw [e9, e8, tnum_one t9 t8]
  refine lv_istore (lv' := [(6, .int r8), (5, .int (nI 0)), (0, .ref b), (1, .ref h), (2, .ref h2), (3, .ref o), (4, .int (nI i))]) hx hb dL_law_1245 hl (by decide) rfl (fun ls hl => ?_)
  refine lv_aload_n hx hb dL_law_1247 rfl (lv_at hl 4 rfl) ?_
  have hPt := hP.sub (ws' := wM h2 b0 b1 b2 b3 b4 cy (nI 0) N cc ds de f cs2 be u8 od) [5, 6, 7, 8, 9, 10] rfl
  refine zrV (As := []) (rest := []) 0 ⟨hx, hb, hml, hown, hts⟩ (c_X1_thrown l D cy h2 b0 b1 b2 b3 b4 (nI 0) N cc ds de f cs2 be u8 od) (cwV 0 hts gL_law_X1_thrown rfl rfl rfl (by decide +kernel) ⟨Nat.le_of_ble_eq_true rfl, Nat.le_of_ble_eq_true rfl⟩) (hK.sub [0] rfl) hPt rfl rfl rfl hl rfl (Nat.le_of_ble_eq_true rfl) dL_law_1248 ⟨by show _ ≤ 1045; omega, by show _ ≤ 8429; omega⟩ hS (fun r7 H locs hw7 hk7 hS => ?_)
  obtain rfl : r7 = nI 0 := hw7
  have hP := zkeep hP hk7
  refine lv_iload hx hb dL_law_1251 (lv_at hl 1 rfl) ?_
  refine lv_icmp_eq (tgt := 1258) hx hb dL_law_1253 (by decide) (fun _ => ?_) (fun q => absurd (rfl) q)
  refine lv_iload hx hb dL_law_1258 (lv_at hl 1 rfl) ?_
  refine lv_if_ne (tgt := 1275) hx hb dL_law_1260 (by decide) (fun q => absurd rfl q) (fun _ => ?_)
  refine lv_aload_n hx hb dL_law_1263 rfl (lv_at hl 5 rfl) ?_
  refine lv_iconst (v := (nI 0)) hx hb dL_law_1264 (by decide) ?_
  refine z_lald0 hx hb hK hP 0 1 rfl rfl dL_law_1265 ?_
  refine lv_iload hx hb dL_law_1266 (lv_at hl 0 rfl) ?_
  refine lv_i2l (v := (r8).toInt64) hx hb dL_law_1268 rfl ?_
  refine z_lcmp hx hb (congrArg Int32.toInt64 (he9)) dL_law_1269 ?_
  refine lv_if_eq (tgt := 1275) hx hb dL_law_1270 (by decide) (fun _ => ?_) (fun q => absurd (by decide) q)
  refine lv_goto (tgt := 1334) hx hb dL_law_1275 (by decide) ?_
  refine W.widen (k := cells + 1) (n := slots + 6) (by omega) (by omega) ?_
  exact K _ _ _ ⟨hg, _, _, _, _, _, _, _, _, _, _, _, _, hcs, hec, hP, hD⟩ hS (lv_sub hl [2, 3, 4, 5, 6] rfl)

set_option maxHeartbeats 4000000 in
set_option maxRecDepth 100000 in
theorem lw_truss_none (C : lwC p s m c b L xs) (hK : va_K D vwCl [(cy, .int), (cl, .long)] s) (hTL : zThL s) (hfl : l.stackTraces = false) {i : Nat} (hi : i + 3 ≤ L) (hg : gd f N) (hcs : csJ cs (cnum f N) N) (hec : ec = nI (ewn f N (zal N))) (hP : va_P D vwCl (wBL h a0 a1 a2 cy N ec cc f cs tr o cl g ++ wM h2 b0 b1 b2 b3 b4 cy th N cc ds de f cs2 be lf od) H) (hD : va_D (lwAd s) (wBL h a0 a1 a2 cy N ec cc f cs tr o cl g ++ wM h2 b0 b1 b2 b3 b4 cy th N cc ds de f cs2 be lf od)) (hS : va_S (lwAd s) s.heap H locs) (hl : lv_has ls 9 [(0, .ref b), (1, .ref h), (2, .ref h2), (3, .ref o), (4, .int (nI i))]) (hnc : cells + 1 ≤ 1045) (hns : slots + 6 ≤ 8429) {u v : Nat} (hu : u < N) (hv : v < N) (he : bt (f u) v = false) (hq1 : xs (i + 1) = (nI u)) (hq2 : xs (i + 2) = (nI v))
  (K : ∀ (H1 : Heap) (locs1 : List Loc) (ls1 : Array Slot), lwI D (lwAd s) h a0 a1 a2 cy o cl h2 b0 b1 b2 b3 b4 N f H1 → va_S (lwAd s) s.heap H1 locs1 → lv_has ls1 9 [(0, .ref b), (1, .ref h), (2, .ref h2), (3, .ref o), (4, .int (nI i))] → W p l e room_1 s m #[Value.ref b] below meth c H1 locs1 (cells + 1) (slots + 6) Q (F0 m 1334 ls1 [])) :
  W p l e room_1 s m #[Value.ref b] below meth c H locs cells slots Q (F0 m 1210 ls []) := by
  obtain ⟨hx, hb, hml, hown, hts, hX, hbl, hL⟩ := C
  have hN : N ≤ 20 := hg.1
  have hA : ∀ q : Nat, s.heap.size ≤ q → lwAd s q := fun _ h => h
  have hbA : ¬ lwAd s b := Nat.not_le.mpr hbl
  refine lv_aload_n hx hb dL_law_1210 rfl (lv_at hl 1 rfl) ?_
  refine lv_aload_n hx hb dL_law_1211 rfl (lv_at hl 0 rfl) ?_
  refine lv_iload hx hb dL_law_1212 (lv_at hl 4 rfl) ?_
  refine lv_iconst (v := (nI 1)) hx hb dL_law_1214 (by decide) ?_
  refine z_iadd hx hb dL_law_1215 ?_
  refine z_sld hx hb hX hbl hbA hS (j := i + 1) (by omega) hL dL_law_1216 ?_
  rw [hq1]
  refine lv_aload_n hx hb dL_law_1217 rfl (lv_at hl 0 rfl) ?_
  refine lv_iload hx hb dL_law_1218 (lv_at hl 4 rfl) ?_
  refine lv_iconst (v := (nI 2)) hx hb dL_law_1220 (by decide) ?_
  refine z_iadd hx hb dL_law_1221 ?_
  refine z_sld hx hb hX hbl hbA hS (j := i + 2) (by omega) hL dL_law_1222 ?_
  rw [hq2]
  refine lv_aload_n hx hb dL_law_1223 rfl (lv_at hl 3 rfl) ?_
  have hPb := hP.sub (ws' := wBL h a0 a1 a2 cy N ec cc f cs tr o cl g) [0, 1, 2, 3, 4] rfl
  have hDb := hD.sub (ws' := wBL h a0 a1 a2 cy N ec cc f cs tr o cl g) [0, 1, 2, 3, 4] (by decide) rfl
  refine zjSi (X := zTh) (As := [.ref h, .int (nI u), .int (nI v), .ref o]) (rest := []) (wr := wM h2 b0 b1 b2 b3 b4 cy th N cc ds de f cs2 be lf od) [0, 1, 2, 3, 4] [5, 6, 7, 8, 9, 10] rfl rfl rfl (by decide) (by exact fun _ => rfl) ⟨hx, hb, hml, hown, hts⟩ (w_truss_none l hfl D cy h a0 a1 a2 N ec cc f cs tr o cl g _ u v hN hu hv he) (vx_cwSW 4 hts gL_law_L_truss rfl rfl rfl (by decide +kernel) ⟨Nat.le_of_ble_eq_true rfl, Nat.le_of_ble_eq_true rfl⟩) hK hP hPb hD hDb hA (fun U g mk a q => q.same rfl rfl) (fun U hU hW => hTL.at hS hU hW) rfl hl rfl (Nat.le_of_ble_eq_true rfl) dL_law_1224 ⟨by show _ ≤ 1045; omega, by show _ ≤ 8429; omega⟩ hS (fun r9 u9 H locs hw9 hP hS => ?_)
  obtain rfl : r9 = nI 2 := hw9
  have hP : va_P D vwCl (wBL h a0 a1 a2 cy N ec cc f cs tr o cl g ++ wM h2 b0 b1 b2 b3 b4 cy th N cc ds de f cs2 be lf od) H := hP.sub [6, 7, 8, 9, 10, 0, 1, 2, 3, 4, 5] rfl
  have hD : va_D (lwAd s) (wBL h a0 a1 a2 cy N ec cc f cs tr o cl g ++ wM h2 b0 b1 b2 b3 b4 cy th N cc ds de f cs2 be lf od) := zD hD rfl
  refine lv_istore (lv' := [(5, .int (nI 2)), (0, .ref b), (1, .ref h), (2, .ref h2), (3, .ref o), (4, .int (nI i))]) hx hb dL_law_1227 hl (by decide) rfl (fun ls hl => ?_)
  refine lv_aload_n hx hb dL_law_1229 rfl (lv_at hl 3 rfl) ?_
  refine lv_aload_n hx hb dL_law_1230 rfl (lv_at hl 1 rfl) ?_
  refine lv_iload hx hb dL_law_1231 (lv_at hl 5 rfl) ?_
  refine lv_iconst (v := (nI 1)) hx hb dL_law_1233 (by decide) ?_
  refine z_iadd hx hb dL_law_1234 ?_
  refine z_sld hx hb hX hbl hbA hS (j := i + 1) (by omega) hL dL_law_1235 ?_
  rw [hq1]
  refine lv_aload_n hx hb dL_law_1236 rfl (lv_at hl 1 rfl) ?_
  refine lv_iload hx hb dL_law_1237 (lv_at hl 5 rfl) ?_
  refine lv_iconst (v := (nI 2)) hx hb dL_law_1239 (by decide) ?_
  refine z_iadd hx hb dL_law_1240 ?_
  refine z_sld hx hb hX hbl hbA hS (j := i + 2) (by omega) hL dL_law_1241 ?_
  rw [hq2]
  have hPm := hP.sub (ws' := wM h2 b0 b1 b2 b3 b4 cy th N cc ds de f cs2 be lf od) [5, 6, 7, 8, 9, 10] rfl
  have hDm := hD.sub (ws' := wM h2 b0 b1 b2 b3 b4 cy th N cc ds de f cs2 be lf od) [5, 6, 7, 8, 9, 10] (by decide) rfl
  refine zjVi (As := [.int (nI u), .int (nI v)]) (rest := []) (wr := wBL h a0 a1 a2 cy N ec cc f cs tr o cl g) 0 [5, 6, 7, 8, 9, 10] [0, 1, 2, 3, 4] rfl rfl rfl (by decide) (by exact fun _ => rfl) ⟨hx, hb, hml, hown, hts⟩ (c_X1_truss_none l D cy h2 b0 b1 b2 b3 b4 th N cc ds de f cs2 be lf od _ u v hN hu hv he) (cwV 2 hts gL_law_X1_truss rfl rfl rfl (by decide +kernel) ⟨Nat.le_of_ble_eq_true rfl, Nat.le_of_ble_eq_true rfl⟩) (hK.sub [0] rfl) hP hPm hD hDm hA rfl rfl rfl hl rfl (Nat.le_of_ble_eq_true rfl) dL_law_1242 ⟨by show _ ≤ 1045; omega, by show _ ≤ 8429; omega⟩ hS (fun r8 u8 H locs hw8 hP hS => ?_)
  have hP : va_P D vwCl (wBL h a0 a1 a2 cy N ec cc f cs tr o cl g ++ wM h2 b0 b1 b2 b3 b4 cy (nI 2) N cc ds de f cs2 be lf od) H := hP
  have hD : va_D (lwAd s) (wBL h a0 a1 a2 cy N ec cc f cs tr o cl g ++ wM h2 b0 b1 b2 b3 b4 cy (nI 2) N cc ds de f cs2 be lf od) := zD hD rfl
  have hw8 : r8 = nI 0 := hw8
  refine lv_istore (lv' := [(6, .int r8), (5, .int (nI 2)), (0, .ref b), (1, .ref h), (2, .ref h2), (3, .ref o), (4, .int (nI i))]) hx hb dL_law_1245 hl (by decide) rfl (fun ls hl => ?_)
  refine lv_aload_n hx hb dL_law_1247 rfl (lv_at hl 4 rfl) ?_
  have hPt := hP.sub (ws' := wM h2 b0 b1 b2 b3 b4 cy (nI 2) N cc ds de f cs2 be lf od) [5, 6, 7, 8, 9, 10] rfl
  refine zrV (As := []) (rest := []) 0 ⟨hx, hb, hml, hown, hts⟩ (c_X1_thrown l D cy h2 b0 b1 b2 b3 b4 (nI 2) N cc ds de f cs2 be lf od) (cwV 0 hts gL_law_X1_thrown rfl rfl rfl (by decide +kernel) ⟨Nat.le_of_ble_eq_true rfl, Nat.le_of_ble_eq_true rfl⟩) (hK.sub [0] rfl) hPt rfl rfl rfl hl rfl (Nat.le_of_ble_eq_true rfl) dL_law_1248 ⟨by show _ ≤ 1045; omega, by show _ ≤ 8429; omega⟩ hS (fun r7 H locs hw7 hk7 hS => ?_)
  obtain rfl : r7 = nI 2 := hw7
  have hP := zkeep hP hk7
  refine lv_iload hx hb dL_law_1251 (lv_at hl 1 rfl) ?_
  refine lv_icmp_eq (tgt := 1258) hx hb dL_law_1253 (by decide) (fun _ => ?_) (fun q => absurd (rfl) q)
  refine lv_iload hx hb dL_law_1258 (lv_at hl 1 rfl) ?_
  refine lv_if_ne (tgt := 1275) hx hb dL_law_1260 (by decide) (fun _ => ?_) (fun q => absurd q (by decide))
  refine lv_goto (tgt := 1334) hx hb dL_law_1275 (by decide) ?_
  refine W.widen (k := cells + 1) (n := slots + 6) (by omega) (by omega) ?_
  exact K _ _ _ ⟨hg, _, _, _, _, _, _, _, _, _, _, _, _, hcs, hec, hP, hD⟩ hS (lv_sub hl [2, 3, 4, 5, 6] rfl)

set_option maxHeartbeats 4000000 in
set_option maxRecDepth 100000 in
theorem lw_truss_bad1 (C : lwC p s m c b L xs) (hK : va_K D vwCl [(cy, .int), (cl, .long)] s) (hTL : zThL s) (hfl : l.stackTraces = false) {i : Nat} (hi : i + 3 ≤ L) (hg : gd f N) (hcs : csJ cs (cnum f N) N) (hec : ec = nI (ewn f N (zal N))) (hP : va_P D vwCl (wBL h a0 a1 a2 cy N ec cc f cs tr o cl g ++ wM h2 b0 b1 b2 b3 b4 cy th N cc ds de f cs2 be lf od) H) (hD : va_D (lwAd s) (wBL h a0 a1 a2 cy N ec cc f cs tr o cl g ++ wM h2 b0 b1 b2 b3 b4 cy th N cc ds de f cs2 be lf od)) (hS : va_S (lwAd s) s.heap H locs) (hl : lv_has ls 9 [(0, .ref b), (1, .ref h), (2, .ref h2), (3, .ref o), (4, .int (nI i))]) (hnc : cells + 1 ≤ 1045) (hns : slots + 6 ≤ 8429) {q1 q2 : Int32} (hq : isNb q1 N = false) (hq1 : xs (i + 1) = q1) (hq2 : xs (i + 2) = q2)
  (K : ∀ (H1 : Heap) (locs1 : List Loc) (ls1 : Array Slot), lwI D (lwAd s) h a0 a1 a2 cy o cl h2 b0 b1 b2 b3 b4 N f H1 → va_S (lwAd s) s.heap H1 locs1 → lv_has ls1 9 [(0, .ref b), (1, .ref h), (2, .ref h2), (3, .ref o), (4, .int (nI i))] → W p l e room_1 s m #[Value.ref b] below meth c H1 locs1 (cells + 1) (slots + 6) Q (F0 m 1334 ls1 [])) :
  W p l e room_1 s m #[Value.ref b] below meth c H locs cells slots Q (F0 m 1210 ls []) := by
  obtain ⟨hx, hb, hml, hown, hts, hX, hbl, hL⟩ := C
  have hN : N ≤ 20 := hg.1
  have hA : ∀ q : Nat, s.heap.size ≤ q → lwAd s q := fun _ h => h
  have hbA : ¬ lwAd s b := Nat.not_le.mpr hbl
  refine lv_aload_n hx hb dL_law_1210 rfl (lv_at hl 1 rfl) ?_
  refine lv_aload_n hx hb dL_law_1211 rfl (lv_at hl 0 rfl) ?_
  refine lv_iload hx hb dL_law_1212 (lv_at hl 4 rfl) ?_
  refine lv_iconst (v := (nI 1)) hx hb dL_law_1214 (by decide) ?_
  refine z_iadd hx hb dL_law_1215 ?_
  refine z_sld hx hb hX hbl hbA hS (j := i + 1) (by omega) hL dL_law_1216 ?_
  rw [hq1]
  refine lv_aload_n hx hb dL_law_1217 rfl (lv_at hl 0 rfl) ?_
  refine lv_iload hx hb dL_law_1218 (lv_at hl 4 rfl) ?_
  refine lv_iconst (v := (nI 2)) hx hb dL_law_1220 (by decide) ?_
  refine z_iadd hx hb dL_law_1221 ?_
  refine z_sld hx hb hX hbl hbA hS (j := i + 2) (by omega) hL dL_law_1222 ?_
  rw [hq2]
  refine lv_aload_n hx hb dL_law_1223 rfl (lv_at hl 3 rfl) ?_
  have hPb := hP.sub (ws' := wBL h a0 a1 a2 cy N ec cc f cs tr o cl g) [0, 1, 2, 3, 4] rfl
  have hDb := hD.sub (ws' := wBL h a0 a1 a2 cy N ec cc f cs tr o cl g) [0, 1, 2, 3, 4] (by decide) rfl
  refine zjSi (X := zTh) (As := [.ref h, .int q1, .int q2, .ref o]) (rest := []) (wr := wM h2 b0 b1 b2 b3 b4 cy th N cc ds de f cs2 be lf od) [0, 1, 2, 3, 4] [5, 6, 7, 8, 9, 10] rfl rfl rfl (by decide) (by exact fun _ => rfl) ⟨hx, hb, hml, hown, hts⟩ (w_truss_bad1 l hfl D cy h a0 a1 a2 N ec cc f cs tr o cl g _ q1 q2 hq) (vx_cwSW 4 hts gL_law_L_truss rfl rfl rfl (by decide +kernel) ⟨Nat.le_of_ble_eq_true rfl, Nat.le_of_ble_eq_true rfl⟩) hK hP hPb hD hDb hA (fun U g mk a q => q.same rfl rfl) (fun U hU hW => hTL.at hS hU hW) rfl hl rfl (Nat.le_of_ble_eq_true rfl) dL_law_1224 ⟨by show _ ≤ 1045; omega, by show _ ≤ 8429; omega⟩ hS (fun r9 u9 H locs hw9 hP hS => ?_)
  obtain rfl : r9 = nI 1 := hw9
  have hP : va_P D vwCl (wBL h a0 a1 a2 cy N ec cc f cs tr o cl g ++ wM h2 b0 b1 b2 b3 b4 cy th N cc ds de f cs2 be lf od) H := hP.sub [6, 7, 8, 9, 10, 0, 1, 2, 3, 4, 5] rfl
  have hD : va_D (lwAd s) (wBL h a0 a1 a2 cy N ec cc f cs tr o cl g ++ wM h2 b0 b1 b2 b3 b4 cy th N cc ds de f cs2 be lf od) := zD hD rfl
  refine lv_istore (lv' := [(5, .int (nI 1)), (0, .ref b), (1, .ref h), (2, .ref h2), (3, .ref o), (4, .int (nI i))]) hx hb dL_law_1227 hl (by decide) rfl (fun ls hl => ?_)
  refine lv_aload_n hx hb dL_law_1229 rfl (lv_at hl 3 rfl) ?_
  refine lv_aload_n hx hb dL_law_1230 rfl (lv_at hl 1 rfl) ?_
  refine lv_iload hx hb dL_law_1231 (lv_at hl 5 rfl) ?_
  refine lv_iconst (v := (nI 1)) hx hb dL_law_1233 (by decide) ?_
  refine z_iadd hx hb dL_law_1234 ?_
  refine z_sld hx hb hX hbl hbA hS (j := i + 1) (by omega) hL dL_law_1235 ?_
  rw [hq1]
  refine lv_aload_n hx hb dL_law_1236 rfl (lv_at hl 1 rfl) ?_
  refine lv_iload hx hb dL_law_1237 (lv_at hl 5 rfl) ?_
  refine lv_iconst (v := (nI 2)) hx hb dL_law_1239 (by decide) ?_
  refine z_iadd hx hb dL_law_1240 ?_
  refine z_sld hx hb hX hbl hbA hS (j := i + 2) (by omega) hL dL_law_1241 ?_
  rw [hq2]
  have hPm := hP.sub (ws' := wM h2 b0 b1 b2 b3 b4 cy th N cc ds de f cs2 be lf od) [5, 6, 7, 8, 9, 10] rfl
  have hDm := hD.sub (ws' := wM h2 b0 b1 b2 b3 b4 cy th N cc ds de f cs2 be lf od) [5, 6, 7, 8, 9, 10] (by decide) rfl
  refine zjVi (As := [.int q1, .int q2]) (rest := []) (wr := wBL h a0 a1 a2 cy N ec cc f cs tr o cl g) 0 [5, 6, 7, 8, 9, 10] [0, 1, 2, 3, 4] rfl rfl rfl (by decide) (by exact fun _ => rfl) ⟨hx, hb, hml, hown, hts⟩ (c_X1_truss_bad l D cy h2 b0 b1 b2 b3 b4 th N cc ds de f cs2 be lf od _ q1 q2 (by rw [hq]; rfl)) (cwV 2 hts gL_law_X1_truss rfl rfl rfl (by decide +kernel) ⟨Nat.le_of_ble_eq_true rfl, Nat.le_of_ble_eq_true rfl⟩) (hK.sub [0] rfl) hP hPm hD hDm hA rfl rfl rfl hl rfl (Nat.le_of_ble_eq_true rfl) dL_law_1242 ⟨by show _ ≤ 1045; omega, by show _ ≤ 8429; omega⟩ hS (fun r8 u8 H locs hw8 hP hS => ?_)
  have hP : va_P D vwCl (wBL h a0 a1 a2 cy N ec cc f cs tr o cl g ++ wM h2 b0 b1 b2 b3 b4 cy (nI 1) N cc ds de f cs2 be lf od) H := hP
  have hD : va_D (lwAd s) (wBL h a0 a1 a2 cy N ec cc f cs tr o cl g ++ wM h2 b0 b1 b2 b3 b4 cy (nI 1) N cc ds de f cs2 be lf od) := zD hD rfl
  have hw8 : r8 = nI 0 := hw8
  refine lv_istore (lv' := [(6, .int r8), (5, .int (nI 1)), (0, .ref b), (1, .ref h), (2, .ref h2), (3, .ref o), (4, .int (nI i))]) hx hb dL_law_1245 hl (by decide) rfl (fun ls hl => ?_)
  refine lv_aload_n hx hb dL_law_1247 rfl (lv_at hl 4 rfl) ?_
  have hPt := hP.sub (ws' := wM h2 b0 b1 b2 b3 b4 cy (nI 1) N cc ds de f cs2 be lf od) [5, 6, 7, 8, 9, 10] rfl
  refine zrV (As := []) (rest := []) 0 ⟨hx, hb, hml, hown, hts⟩ (c_X1_thrown l D cy h2 b0 b1 b2 b3 b4 (nI 1) N cc ds de f cs2 be lf od) (cwV 0 hts gL_law_X1_thrown rfl rfl rfl (by decide +kernel) ⟨Nat.le_of_ble_eq_true rfl, Nat.le_of_ble_eq_true rfl⟩) (hK.sub [0] rfl) hPt rfl rfl rfl hl rfl (Nat.le_of_ble_eq_true rfl) dL_law_1248 ⟨by show _ ≤ 1045; omega, by show _ ≤ 8429; omega⟩ hS (fun r7 H locs hw7 hk7 hS => ?_)
  obtain rfl : r7 = nI 1 := hw7
  have hP := zkeep hP hk7
  refine lv_iload hx hb dL_law_1251 (lv_at hl 1 rfl) ?_
  refine lv_icmp_eq (tgt := 1258) hx hb dL_law_1253 (by decide) (fun _ => ?_) (fun q => absurd (rfl) q)
  refine lv_iload hx hb dL_law_1258 (lv_at hl 1 rfl) ?_
  refine lv_if_ne (tgt := 1275) hx hb dL_law_1260 (by decide) (fun _ => ?_) (fun q => absurd q (by decide))
  refine lv_goto (tgt := 1334) hx hb dL_law_1275 (by decide) ?_
  refine W.widen (k := cells + 1) (n := slots + 6) (by omega) (by omega) ?_
  exact K _ _ _ ⟨hg, _, _, _, _, _, _, _, _, _, _, _, _, hcs, hec, hP, hD⟩ hS (lv_sub hl [2, 3, 4, 5, 6] rfl)

set_option maxHeartbeats 4000000 in
set_option maxRecDepth 100000 in
theorem lw_truss_bad2 (C : lwC p s m c b L xs) (hK : va_K D vwCl [(cy, .int), (cl, .long)] s) (hTL : zThL s) (hfl : l.stackTraces = false) {i : Nat} (hi : i + 3 ≤ L) (hg : gd f N) (hcs : csJ cs (cnum f N) N) (hec : ec = nI (ewn f N (zal N))) (hP : va_P D vwCl (wBL h a0 a1 a2 cy N ec cc f cs tr o cl g ++ wM h2 b0 b1 b2 b3 b4 cy th N cc ds de f cs2 be lf od) H) (hD : va_D (lwAd s) (wBL h a0 a1 a2 cy N ec cc f cs tr o cl g ++ wM h2 b0 b1 b2 b3 b4 cy th N cc ds de f cs2 be lf od)) (hS : va_S (lwAd s) s.heap H locs) (hl : lv_has ls 9 [(0, .ref b), (1, .ref h), (2, .ref h2), (3, .ref o), (4, .int (nI i))]) (hnc : cells + 1 ≤ 1045) (hns : slots + 6 ≤ 8429) {u : Nat} {q2 : Int32} (hu : u < N) (hq : isNb q2 N = false) (hq1 : xs (i + 1) = (nI u)) (hq2 : xs (i + 2) = q2)
  (K : ∀ (H1 : Heap) (locs1 : List Loc) (ls1 : Array Slot), lwI D (lwAd s) h a0 a1 a2 cy o cl h2 b0 b1 b2 b3 b4 N f H1 → va_S (lwAd s) s.heap H1 locs1 → lv_has ls1 9 [(0, .ref b), (1, .ref h), (2, .ref h2), (3, .ref o), (4, .int (nI i))] → W p l e room_1 s m #[Value.ref b] below meth c H1 locs1 (cells + 1) (slots + 6) Q (F0 m 1334 ls1 [])) :
  W p l e room_1 s m #[Value.ref b] below meth c H locs cells slots Q (F0 m 1210 ls []) := by
  obtain ⟨hx, hb, hml, hown, hts, hX, hbl, hL⟩ := C
  have hN : N ≤ 20 := hg.1
  have hA : ∀ q : Nat, s.heap.size ≤ q → lwAd s q := fun _ h => h
  have hbA : ¬ lwAd s b := Nat.not_le.mpr hbl
  refine lv_aload_n hx hb dL_law_1210 rfl (lv_at hl 1 rfl) ?_
  refine lv_aload_n hx hb dL_law_1211 rfl (lv_at hl 0 rfl) ?_
  refine lv_iload hx hb dL_law_1212 (lv_at hl 4 rfl) ?_
  refine lv_iconst (v := (nI 1)) hx hb dL_law_1214 (by decide) ?_
  refine z_iadd hx hb dL_law_1215 ?_
  refine z_sld hx hb hX hbl hbA hS (j := i + 1) (by omega) hL dL_law_1216 ?_
  rw [hq1]
  refine lv_aload_n hx hb dL_law_1217 rfl (lv_at hl 0 rfl) ?_
  refine lv_iload hx hb dL_law_1218 (lv_at hl 4 rfl) ?_
  refine lv_iconst (v := (nI 2)) hx hb dL_law_1220 (by decide) ?_
  refine z_iadd hx hb dL_law_1221 ?_
  refine z_sld hx hb hX hbl hbA hS (j := i + 2) (by omega) hL dL_law_1222 ?_
  rw [hq2]
  refine lv_aload_n hx hb dL_law_1223 rfl (lv_at hl 3 rfl) ?_
  have hPb := hP.sub (ws' := wBL h a0 a1 a2 cy N ec cc f cs tr o cl g) [0, 1, 2, 3, 4] rfl
  have hDb := hD.sub (ws' := wBL h a0 a1 a2 cy N ec cc f cs tr o cl g) [0, 1, 2, 3, 4] (by decide) rfl
  refine zjSi (X := zTh) (As := [.ref h, .int (nI u), .int q2, .ref o]) (rest := []) (wr := wM h2 b0 b1 b2 b3 b4 cy th N cc ds de f cs2 be lf od) [0, 1, 2, 3, 4] [5, 6, 7, 8, 9, 10] rfl rfl rfl (by decide) (by exact fun _ => rfl) ⟨hx, hb, hml, hown, hts⟩ (w_truss_bad2 l hfl D cy h a0 a1 a2 N ec cc f cs tr o cl g _ u q2 hN hu hq) (vx_cwSW 4 hts gL_law_L_truss rfl rfl rfl (by decide +kernel) ⟨Nat.le_of_ble_eq_true rfl, Nat.le_of_ble_eq_true rfl⟩) hK hP hPb hD hDb hA (fun U g mk a q => q.same rfl rfl) (fun U hU hW => hTL.at hS hU hW) rfl hl rfl (Nat.le_of_ble_eq_true rfl) dL_law_1224 ⟨by show _ ≤ 1045; omega, by show _ ≤ 8429; omega⟩ hS (fun r9 u9 H locs hw9 hP hS => ?_)
  obtain rfl : r9 = nI 1 := hw9
  have hP : va_P D vwCl (wBL h a0 a1 a2 cy N ec cc f cs tr o cl g ++ wM h2 b0 b1 b2 b3 b4 cy th N cc ds de f cs2 be lf od) H := hP.sub [6, 7, 8, 9, 10, 0, 1, 2, 3, 4, 5] rfl
  have hD : va_D (lwAd s) (wBL h a0 a1 a2 cy N ec cc f cs tr o cl g ++ wM h2 b0 b1 b2 b3 b4 cy th N cc ds de f cs2 be lf od) := zD hD rfl
  refine lv_istore (lv' := [(5, .int (nI 1)), (0, .ref b), (1, .ref h), (2, .ref h2), (3, .ref o), (4, .int (nI i))]) hx hb dL_law_1227 hl (by decide) rfl (fun ls hl => ?_)
  refine lv_aload_n hx hb dL_law_1229 rfl (lv_at hl 3 rfl) ?_
  refine lv_aload_n hx hb dL_law_1230 rfl (lv_at hl 1 rfl) ?_
  refine lv_iload hx hb dL_law_1231 (lv_at hl 5 rfl) ?_
  refine lv_iconst (v := (nI 1)) hx hb dL_law_1233 (by decide) ?_
  refine z_iadd hx hb dL_law_1234 ?_
  refine z_sld hx hb hX hbl hbA hS (j := i + 1) (by omega) hL dL_law_1235 ?_
  rw [hq1]
  refine lv_aload_n hx hb dL_law_1236 rfl (lv_at hl 1 rfl) ?_
  refine lv_iload hx hb dL_law_1237 (lv_at hl 5 rfl) ?_
  refine lv_iconst (v := (nI 2)) hx hb dL_law_1239 (by decide) ?_
  refine z_iadd hx hb dL_law_1240 ?_
  refine z_sld hx hb hX hbl hbA hS (j := i + 2) (by omega) hL dL_law_1241 ?_
  rw [hq2]
  have hPm := hP.sub (ws' := wM h2 b0 b1 b2 b3 b4 cy th N cc ds de f cs2 be lf od) [5, 6, 7, 8, 9, 10] rfl
  have hDm := hD.sub (ws' := wM h2 b0 b1 b2 b3 b4 cy th N cc ds de f cs2 be lf od) [5, 6, 7, 8, 9, 10] (by decide) rfl
  refine zjVi (As := [.int (nI u), .int q2]) (rest := []) (wr := wBL h a0 a1 a2 cy N ec cc f cs tr o cl g) 0 [5, 6, 7, 8, 9, 10] [0, 1, 2, 3, 4] rfl rfl rfl (by decide) (by exact fun _ => rfl) ⟨hx, hb, hml, hown, hts⟩ (c_X1_truss_bad l D cy h2 b0 b1 b2 b3 b4 th N cc ds de f cs2 be lf od _ (nI u) q2 (by rw [hq]; exact Bool.and_false _)) (cwV 2 hts gL_law_X1_truss rfl rfl rfl (by decide +kernel) ⟨Nat.le_of_ble_eq_true rfl, Nat.le_of_ble_eq_true rfl⟩) (hK.sub [0] rfl) hP hPm hD hDm hA rfl rfl rfl hl rfl (Nat.le_of_ble_eq_true rfl) dL_law_1242 ⟨by show _ ≤ 1045; omega, by show _ ≤ 8429; omega⟩ hS (fun r8 u8 H locs hw8 hP hS => ?_)
  have hP : va_P D vwCl (wBL h a0 a1 a2 cy N ec cc f cs tr o cl g ++ wM h2 b0 b1 b2 b3 b4 cy (nI 1) N cc ds de f cs2 be lf od) H := hP
  have hD : va_D (lwAd s) (wBL h a0 a1 a2 cy N ec cc f cs tr o cl g ++ wM h2 b0 b1 b2 b3 b4 cy (nI 1) N cc ds de f cs2 be lf od) := zD hD rfl
  have hw8 : r8 = nI 0 := hw8
  refine lv_istore (lv' := [(6, .int r8), (5, .int (nI 1)), (0, .ref b), (1, .ref h), (2, .ref h2), (3, .ref o), (4, .int (nI i))]) hx hb dL_law_1245 hl (by decide) rfl (fun ls hl => ?_)
  refine lv_aload_n hx hb dL_law_1247 rfl (lv_at hl 4 rfl) ?_
  have hPt := hP.sub (ws' := wM h2 b0 b1 b2 b3 b4 cy (nI 1) N cc ds de f cs2 be lf od) [5, 6, 7, 8, 9, 10] rfl
  refine zrV (As := []) (rest := []) 0 ⟨hx, hb, hml, hown, hts⟩ (c_X1_thrown l D cy h2 b0 b1 b2 b3 b4 (nI 1) N cc ds de f cs2 be lf od) (cwV 0 hts gL_law_X1_thrown rfl rfl rfl (by decide +kernel) ⟨Nat.le_of_ble_eq_true rfl, Nat.le_of_ble_eq_true rfl⟩) (hK.sub [0] rfl) hPt rfl rfl rfl hl rfl (Nat.le_of_ble_eq_true rfl) dL_law_1248 ⟨by show _ ≤ 1045; omega, by show _ ≤ 8429; omega⟩ hS (fun r7 H locs hw7 hk7 hS => ?_)
  obtain rfl : r7 = nI 1 := hw7
  have hP := zkeep hP hk7
  refine lv_iload hx hb dL_law_1251 (lv_at hl 1 rfl) ?_
  refine lv_icmp_eq (tgt := 1258) hx hb dL_law_1253 (by decide) (fun _ => ?_) (fun q => absurd (rfl) q)
  refine lv_iload hx hb dL_law_1258 (lv_at hl 1 rfl) ?_
  refine lv_if_ne (tgt := 1275) hx hb dL_law_1260 (by decide) (fun _ => ?_) (fun q => absurd q (by decide))
  refine lv_goto (tgt := 1334) hx hb dL_law_1275 (by decide) ?_
  refine W.widen (k := cells + 1) (n := slots + 6) (by omega) (by omega) ?_
  exact K _ _ _ ⟨hg, _, _, _, _, _, _, _, _, _, _, _, _, hcs, hec, hP, hD⟩ hS (lv_sub hl [2, 3, 4, 5, 6] rfl)

set_option maxHeartbeats 4000000 in
set_option maxRecDepth 100000 in
theorem lw_trussSize_ok (C : lwC p s m c b L xs) (hK : va_K D vwCl [(cy, .int), (cl, .long)] s) (hTL : zThL s) (hfl : l.stackTraces = false) {i : Nat} (hi : i + 3 ≤ L) (hg : gd f N) (hcs : csJ cs (cnum f N) N) (hec : ec = nI (ewn f N (zal N))) (hP : va_P D vwCl (wBL h a0 a1 a2 cy N ec cc f cs tr o cl g ++ wM h2 b0 b1 b2 b3 b4 cy th N cc ds de f cs2 be lf od) H) (hD : va_D (lwAd s) (wBL h a0 a1 a2 cy N ec cc f cs tr o cl g ++ wM h2 b0 b1 b2 b3 b4 cy th N cc ds de f cs2 be lf od)) (hS : va_S (lwAd s) s.heap H locs) (hl : lv_has ls 9 [(0, .ref b), (1, .ref h), (2, .ref h2), (3, .ref o), (4, .int (nI i))]) (hnc : cells + 1 ≤ 1045) (hns : slots + 6 ≤ 8429) {k : Int32} (hk : ¬ k < nI 2) (hq1 : xs (i + 1) = k)
  (K : ∀ (H1 : Heap) (locs1 : List Loc) (ls1 : Array Slot), lwI D (lwAd s) h a0 a1 a2 cy o cl h2 b0 b1 b2 b3 b4 N f H1 → va_S (lwAd s) s.heap H1 locs1 → lv_has ls1 9 [(0, .ref b), (1, .ref h), (2, .ref h2), (3, .ref o), (4, .int (nI i))] → W p l e room_1 s m #[Value.ref b] below meth c H1 locs1 (cells + 1) (slots + 6) Q (F0 m 1334 ls1 [])) :
  W p l e room_1 s m #[Value.ref b] below meth c H locs cells slots Q (F0 m 1278 ls []) := by
  obtain ⟨hx, hb, hml, hown, hts, hX, hbl, hL⟩ := C
  have hN : N ≤ 20 := hg.1
  have hA : ∀ q : Nat, s.heap.size ≤ q → lwAd s q := fun _ h => h
  have hbA : ¬ lwAd s b := Nat.not_le.mpr hbl
  refine lv_aload_n hx hb dL_law_1278 rfl (lv_at hl 1 rfl) ?_
  refine lv_aload_n hx hb dL_law_1279 rfl (lv_at hl 0 rfl) ?_
  refine lv_iload hx hb dL_law_1280 (lv_at hl 4 rfl) ?_
  refine lv_iconst (v := (nI 1)) hx hb dL_law_1282 (by decide) ?_
  refine z_iadd hx hb dL_law_1283 ?_
  refine z_sld hx hb hX hbl hbA hS (j := i + 1) (by omega) hL dL_law_1284 ?_
  rw [hq1]
  refine lv_aload_n hx hb dL_law_1285 rfl (lv_at hl 3 rfl) ?_
  have hPb := hP.sub (ws' := wBL h a0 a1 a2 cy N ec cc f cs tr o cl g) [0, 1, 2, 3, 4] rfl
  have hDb := hD.sub (ws' := wBL h a0 a1 a2 cy N ec cc f cs tr o cl g) [0, 1, 2, 3, 4] (by decide) rfl
  refine zjSi (X := (fun _ => True)) (As := [.ref h, .int k, .ref o]) (rest := []) (wr := wM h2 b0 b1 b2 b3 b4 cy th N cc ds de f cs2 be lf od) [0, 1, 2, 3, 4] [5, 6, 7, 8, 9, 10] rfl rfl rfl (by decide) (by exact fun _ => rfl) ⟨hx, hb, hml, hown, hts⟩ (w_trussSize_ok l D cy h a0 a1 a2 N ec cc f cs tr o cl g _ k hN hg hk) (vx_cwSW 3 hts gL_law_L_trussSize rfl rfl rfl (by decide +kernel) ⟨Nat.le_of_ble_eq_true rfl, Nat.le_of_ble_eq_true rfl⟩) hK hP hPb hD hDb hA (fun _ _ _ _ _ => trivial) (fun _ _ _ => trivial) rfl hl rfl (Nat.le_of_ble_eq_true rfl) dL_law_1286 ⟨by show _ ≤ 1045; omega, by show _ ≤ 8429; omega⟩ hS (fun r9 u9 H locs hw9 hP hS => ?_)
  obtain ⟨rfl, hw9⟩ := hw9
  have hw9 : ∃ g, isTr f N (k - nI 2).toInt g ∧ u9.1 = nI (tE g N / 2) := hw9
  have hP : va_P D vwCl (wBL h a0 a1 a2 cy N ec cc f cs u9.2 o cl (vp_updL g 0 (u9.1).toInt64) ++ wM h2 b0 b1 b2 b3 b4 cy th N cc ds de f cs2 be lf od) H := hP.sub [6, 7, 8, 9, 10, 0, 1, 2, 3, 4, 5] rfl
  have hD : va_D (lwAd s) (wBL h a0 a1 a2 cy N ec cc f cs u9.2 o cl (vp_updL g 0 (u9.1).toInt64) ++ wM h2 b0 b1 b2 b3 b4 cy th N cc ds de f cs2 be lf od) := zD hD rfl
  refine lv_istore (lv' := [(5, .int (nI 0)), (0, .ref b), (1, .ref h), (2, .ref h2), (3, .ref o), (4, .int (nI i))]) hx hb dL_law_1289 hl (by decide) rfl (fun ls hl => ?_)
  refine lv_aload_n hx hb dL_law_1291 rfl (lv_at hl 3 rfl) ?_
  refine lv_aload_n hx hb dL_law_1292 rfl (lv_at hl 1 rfl) ?_
  refine lv_iload hx hb dL_law_1293 (lv_at hl 5 rfl) ?_
  refine lv_iconst (v := (nI 1)) hx hb dL_law_1295 (by decide) ?_
  refine z_iadd hx hb dL_law_1296 ?_
  refine z_sld hx hb hX hbl hbA hS (j := i + 1) (by omega) hL dL_law_1297 ?_
  rw [hq1]
  have hPm := hP.sub (ws' := wM h2 b0 b1 b2 b3 b4 cy th N cc ds de f cs2 be lf od) [5, 6, 7, 8, 9, 10] rfl
  have hDm := hD.sub (ws' := wM h2 b0 b1 b2 b3 b4 cy th N cc ds de f cs2 be lf od) [5, 6, 7, 8, 9, 10] (by decide) rfl
  refine zjVi (As := [.int k]) (rest := []) (wr := wBL h a0 a1 a2 cy N ec cc f cs u9.2 o cl (vp_updL g 0 (u9.1).toInt64)) 0 [5, 6, 7, 8, 9, 10] [0, 1, 2, 3, 4] rfl rfl rfl (by decide) (by exact fun _ => rfl) ⟨hx, hb, hml, hown, hts⟩ (c_X1_trussSize_ok l D cy h2 b0 b1 b2 b3 b4 th N cc ds de f cs2 be lf od _ k hN hg hk) (cwV 1 hts gL_law_X1_trussSize rfl rfl rfl (by decide +kernel) ⟨Nat.le_of_ble_eq_true rfl, Nat.le_of_ble_eq_true rfl⟩) (hK.sub [0] rfl) hP hPm hD hDm hA rfl rfl rfl hl rfl (Nat.le_of_ble_eq_true rfl) dL_law_1298 ⟨by show _ ≤ 1045; omega, by show _ ≤ 8429; omega⟩ hS (fun r8 u8 H locs hw8 hP hS => ?_)
  have hP : va_P D vwCl (wBL h a0 a1 a2 cy N ec cc f cs u9.2 o cl (vp_updL g 0 (u9.1).toInt64) ++ wM h2 b0 b1 b2 b3 b4 cy (nI 0) N cc ds de f cs2 be u8 od) H := hP
  have hD : va_D (lwAd s) (wBL h a0 a1 a2 cy N ec cc f cs u9.2 o cl (vp_updL g 0 (u9.1).toInt64) ++ wM h2 b0 b1 b2 b3 b4 cy (nI 0) N cc ds de f cs2 be u8 od) := zD hD rfl
  have hw8 : ∃ g, isTr f N (k - nI 2).toInt g ∧ r8 = nI (tE g N / 2) := hw8
  obtain ⟨g9, t9, e9⟩ := hw9
  obtain ⟨g8, t8, e8⟩ := hw8
  have he9 : u9.1 = r8 := by rw [e9, e8, same_truss t9 t8]
  refine lv_istore (lv' := [(6, .int r8), (5, .int (nI 0)), (0, .ref b), (1, .ref h), (2, .ref h2), (3, .ref o), (4, .int (nI i))]) hx hb dL_law_1301 hl (by decide) rfl (fun ls hl => ?_)
  refine lv_aload_n hx hb dL_law_1303 rfl (lv_at hl 4 rfl) ?_
  have hPt := hP.sub (ws' := wM h2 b0 b1 b2 b3 b4 cy (nI 0) N cc ds de f cs2 be u8 od) [5, 6, 7, 8, 9, 10] rfl
  refine zrV (As := []) (rest := []) 0 ⟨hx, hb, hml, hown, hts⟩ (c_X1_thrown l D cy h2 b0 b1 b2 b3 b4 (nI 0) N cc ds de f cs2 be u8 od) (cwV 0 hts gL_law_X1_thrown rfl rfl rfl (by decide +kernel) ⟨Nat.le_of_ble_eq_true rfl, Nat.le_of_ble_eq_true rfl⟩) (hK.sub [0] rfl) hPt rfl rfl rfl hl rfl (Nat.le_of_ble_eq_true rfl) dL_law_1304 ⟨by show _ ≤ 1045; omega, by show _ ≤ 8429; omega⟩ hS (fun r7 H locs hw7 hk7 hS => ?_)
  obtain rfl : r7 = nI 0 := hw7
  have hP := zkeep hP hk7
  refine lv_iload hx hb dL_law_1307 (lv_at hl 1 rfl) ?_
  refine lv_icmp_eq (tgt := 1314) hx hb dL_law_1309 (by decide) (fun _ => ?_) (fun q => absurd (rfl) q)
  refine lv_iload hx hb dL_law_1314 (lv_at hl 1 rfl) ?_
  refine lv_if_ne (tgt := 1331) hx hb dL_law_1316 (by decide) (fun q => absurd rfl q) (fun _ => ?_)
  refine lv_aload_n hx hb dL_law_1319 rfl (lv_at hl 5 rfl) ?_
  refine lv_iconst (v := (nI 0)) hx hb dL_law_1320 (by decide) ?_
  refine z_lald0 hx hb hK hP 0 1 rfl rfl dL_law_1321 ?_
  refine lv_iload hx hb dL_law_1322 (lv_at hl 0 rfl) ?_
  refine lv_i2l (v := (r8).toInt64) hx hb dL_law_1324 rfl ?_
  refine z_lcmp hx hb (congrArg Int32.toInt64 (he9)) dL_law_1325 ?_
  refine lv_if_eq (tgt := 1331) hx hb dL_law_1326 (by decide) (fun _ => ?_) (fun q => absurd (by decide) q)
  refine lv_goto (tgt := 1334) hx hb dL_law_1331 (by decide) ?_
  refine W.widen (k := cells + 1) (n := slots + 6) (by omega) (by omega) ?_
  exact K _ _ _ ⟨hg, _, _, _, _, _, _, _, _, _, _, _, _, hcs, hec, hP, hD⟩ hS (lv_sub hl [2, 3, 4, 5, 6] rfl)

set_option maxHeartbeats 4000000 in
set_option maxRecDepth 100000 in
theorem lw_trussSize_neg (C : lwC p s m c b L xs) (hK : va_K D vwCl [(cy, .int), (cl, .long)] s) (hTL : zThL s) (hfl : l.stackTraces = false) {i : Nat} (hi : i + 3 ≤ L) (hg : gd f N) (hcs : csJ cs (cnum f N) N) (hec : ec = nI (ewn f N (zal N))) (hP : va_P D vwCl (wBL h a0 a1 a2 cy N ec cc f cs tr o cl g ++ wM h2 b0 b1 b2 b3 b4 cy th N cc ds de f cs2 be lf od) H) (hD : va_D (lwAd s) (wBL h a0 a1 a2 cy N ec cc f cs tr o cl g ++ wM h2 b0 b1 b2 b3 b4 cy th N cc ds de f cs2 be lf od)) (hS : va_S (lwAd s) s.heap H locs) (hl : lv_has ls 9 [(0, .ref b), (1, .ref h), (2, .ref h2), (3, .ref o), (4, .int (nI i))]) (hnc : cells + 1 ≤ 1045) (hns : slots + 6 ≤ 8429) {k : Int32} (hk : k < nI 2) (hq1 : xs (i + 1) = k)
  (K : ∀ (H1 : Heap) (locs1 : List Loc) (ls1 : Array Slot), lwI D (lwAd s) h a0 a1 a2 cy o cl h2 b0 b1 b2 b3 b4 N f H1 → va_S (lwAd s) s.heap H1 locs1 → lv_has ls1 9 [(0, .ref b), (1, .ref h), (2, .ref h2), (3, .ref o), (4, .int (nI i))] → W p l e room_1 s m #[Value.ref b] below meth c H1 locs1 (cells + 1) (slots + 6) Q (F0 m 1334 ls1 [])) :
  W p l e room_1 s m #[Value.ref b] below meth c H locs cells slots Q (F0 m 1278 ls []) := by
  obtain ⟨hx, hb, hml, hown, hts, hX, hbl, hL⟩ := C
  have hN : N ≤ 20 := hg.1
  have hA : ∀ q : Nat, s.heap.size ≤ q → lwAd s q := fun _ h => h
  have hbA : ¬ lwAd s b := Nat.not_le.mpr hbl
  refine lv_aload_n hx hb dL_law_1278 rfl (lv_at hl 1 rfl) ?_
  refine lv_aload_n hx hb dL_law_1279 rfl (lv_at hl 0 rfl) ?_
  refine lv_iload hx hb dL_law_1280 (lv_at hl 4 rfl) ?_
  refine lv_iconst (v := (nI 1)) hx hb dL_law_1282 (by decide) ?_
  refine z_iadd hx hb dL_law_1283 ?_
  refine z_sld hx hb hX hbl hbA hS (j := i + 1) (by omega) hL dL_law_1284 ?_
  rw [hq1]
  refine lv_aload_n hx hb dL_law_1285 rfl (lv_at hl 3 rfl) ?_
  have hPb := hP.sub (ws' := wBL h a0 a1 a2 cy N ec cc f cs tr o cl g) [0, 1, 2, 3, 4] rfl
  have hDb := hD.sub (ws' := wBL h a0 a1 a2 cy N ec cc f cs tr o cl g) [0, 1, 2, 3, 4] (by decide) rfl
  refine zjSi (X := zTh) (As := [.ref h, .int k, .ref o]) (rest := []) (wr := wM h2 b0 b1 b2 b3 b4 cy th N cc ds de f cs2 be lf od) [0, 1, 2, 3, 4] [5, 6, 7, 8, 9, 10] rfl rfl rfl (by decide) (by exact fun _ => rfl) ⟨hx, hb, hml, hown, hts⟩ (w_trussSize_low l hfl D cy h a0 a1 a2 N ec cc f cs tr o cl g _ k hk) (vx_cwSW 3 hts gL_law_L_trussSize rfl rfl rfl (by decide +kernel) ⟨Nat.le_of_ble_eq_true rfl, Nat.le_of_ble_eq_true rfl⟩) hK hP hPb hD hDb hA (fun U g mk a q => q.same rfl rfl) (fun U hU hW => hTL.at hS hU hW) rfl hl rfl (Nat.le_of_ble_eq_true rfl) dL_law_1286 ⟨by show _ ≤ 1045; omega, by show _ ≤ 8429; omega⟩ hS (fun r9 u9 H locs hw9 hP hS => ?_)
  obtain rfl : r9 = nI 1 := hw9
  have hP : va_P D vwCl (wBL h a0 a1 a2 cy N ec cc f cs tr o cl g ++ wM h2 b0 b1 b2 b3 b4 cy th N cc ds de f cs2 be lf od) H := hP.sub [6, 7, 8, 9, 10, 0, 1, 2, 3, 4, 5] rfl
  have hD : va_D (lwAd s) (wBL h a0 a1 a2 cy N ec cc f cs tr o cl g ++ wM h2 b0 b1 b2 b3 b4 cy th N cc ds de f cs2 be lf od) := zD hD rfl
  refine lv_istore (lv' := [(5, .int (nI 1)), (0, .ref b), (1, .ref h), (2, .ref h2), (3, .ref o), (4, .int (nI i))]) hx hb dL_law_1289 hl (by decide) rfl (fun ls hl => ?_)
  refine lv_aload_n hx hb dL_law_1291 rfl (lv_at hl 3 rfl) ?_
  refine lv_aload_n hx hb dL_law_1292 rfl (lv_at hl 1 rfl) ?_
  refine lv_iload hx hb dL_law_1293 (lv_at hl 5 rfl) ?_
  refine lv_iconst (v := (nI 1)) hx hb dL_law_1295 (by decide) ?_
  refine z_iadd hx hb dL_law_1296 ?_
  refine z_sld hx hb hX hbl hbA hS (j := i + 1) (by omega) hL dL_law_1297 ?_
  rw [hq1]
  have hPm := hP.sub (ws' := wM h2 b0 b1 b2 b3 b4 cy th N cc ds de f cs2 be lf od) [5, 6, 7, 8, 9, 10] rfl
  have hDm := hD.sub (ws' := wM h2 b0 b1 b2 b3 b4 cy th N cc ds de f cs2 be lf od) [5, 6, 7, 8, 9, 10] (by decide) rfl
  refine zjVi (As := [.int k]) (rest := []) (wr := wBL h a0 a1 a2 cy N ec cc f cs tr o cl g) 0 [5, 6, 7, 8, 9, 10] [0, 1, 2, 3, 4] rfl rfl rfl (by decide) (by exact fun _ => rfl) ⟨hx, hb, hml, hown, hts⟩ (c_X1_trussSize_bad l D cy h2 b0 b1 b2 b3 b4 th N cc ds de f cs2 be lf od _ k hk) (cwV 1 hts gL_law_X1_trussSize rfl rfl rfl (by decide +kernel) ⟨Nat.le_of_ble_eq_true rfl, Nat.le_of_ble_eq_true rfl⟩) (hK.sub [0] rfl) hP hPm hD hDm hA rfl rfl rfl hl rfl (Nat.le_of_ble_eq_true rfl) dL_law_1298 ⟨by show _ ≤ 1045; omega, by show _ ≤ 8429; omega⟩ hS (fun r8 u8 H locs hw8 hP hS => ?_)
  have hP : va_P D vwCl (wBL h a0 a1 a2 cy N ec cc f cs tr o cl g ++ wM h2 b0 b1 b2 b3 b4 cy (nI 1) N cc ds de f cs2 be lf od) H := hP
  have hD : va_D (lwAd s) (wBL h a0 a1 a2 cy N ec cc f cs tr o cl g ++ wM h2 b0 b1 b2 b3 b4 cy (nI 1) N cc ds de f cs2 be lf od) := zD hD rfl
  have hw8 : r8 = nI 0 := hw8
  refine lv_istore (lv' := [(6, .int r8), (5, .int (nI 1)), (0, .ref b), (1, .ref h), (2, .ref h2), (3, .ref o), (4, .int (nI i))]) hx hb dL_law_1301 hl (by decide) rfl (fun ls hl => ?_)
  refine lv_aload_n hx hb dL_law_1303 rfl (lv_at hl 4 rfl) ?_
  have hPt := hP.sub (ws' := wM h2 b0 b1 b2 b3 b4 cy (nI 1) N cc ds de f cs2 be lf od) [5, 6, 7, 8, 9, 10] rfl
  refine zrV (As := []) (rest := []) 0 ⟨hx, hb, hml, hown, hts⟩ (c_X1_thrown l D cy h2 b0 b1 b2 b3 b4 (nI 1) N cc ds de f cs2 be lf od) (cwV 0 hts gL_law_X1_thrown rfl rfl rfl (by decide +kernel) ⟨Nat.le_of_ble_eq_true rfl, Nat.le_of_ble_eq_true rfl⟩) (hK.sub [0] rfl) hPt rfl rfl rfl hl rfl (Nat.le_of_ble_eq_true rfl) dL_law_1304 ⟨by show _ ≤ 1045; omega, by show _ ≤ 8429; omega⟩ hS (fun r7 H locs hw7 hk7 hS => ?_)
  obtain rfl : r7 = nI 1 := hw7
  have hP := zkeep hP hk7
  refine lv_iload hx hb dL_law_1307 (lv_at hl 1 rfl) ?_
  refine lv_icmp_eq (tgt := 1314) hx hb dL_law_1309 (by decide) (fun _ => ?_) (fun q => absurd (rfl) q)
  refine lv_iload hx hb dL_law_1314 (lv_at hl 1 rfl) ?_
  refine lv_if_ne (tgt := 1331) hx hb dL_law_1316 (by decide) (fun _ => ?_) (fun q => absurd q (by decide))
  refine lv_goto (tgt := 1334) hx hb dL_law_1331 (by decide) ?_
  refine W.widen (k := cells + 1) (n := slots + 6) (by omega) (by omega) ?_
  exact K _ _ _ ⟨hg, _, _, _, _, _, _, _, _, _, _, _, _, hcs, hec, hP, hD⟩ hS (lv_sub hl [2, 3, 4, 5, 6] rfl)

end ZLO4
