/-! ===== the cases of the law ===== -/
section ZLO0
variable {p : Program} {l : Launch} {e : Env} {s : State} {m : MethodId} {below : List Frame} {meth : Method} {c : Code} {H : Heap} {locs : List Loc} {cells slots : Nat} {Q : State → Prop} {ls : Array Slot} {b L : Nat} {xs : Nat → Int32}
variable {D : va_G} {cy cl : ClassId} {h a0 a1 a2 o h2 b0 b1 b2 b3 b4 N : Nat} {ec cc th ds de : Int32} {f cs tr cs2 be lf od : Nat → Int32} {g : Nat → Int64}

theorem nI_sub1 (n : Nat) : nI (n + 1) - nI 1 = nI n := by
  rw [← nI_add n 1]
  exact Int32.add_sub_cancel _ _

set_option maxHeartbeats 4000000 in
set_option maxRecDepth 100000 in
theorem lw_addNode_ok (C : lwC p s m c b L xs) (hK : va_K D vwCl [(cy, .int), (cl, .long)] s) (hTL : zThL s) (hfl : l.stackTraces = false) {i : Nat} (hi : i + 3 ≤ L) (hg : gd f N) (hcs : csJ cs (cnum f N) N) (hec : ec = nI (ewn f N (zal N))) (hP : va_P D vwCl (wBL h a0 a1 a2 cy N ec cc f cs tr o cl g ++ wM h2 b0 b1 b2 b3 b4 cy th N cc ds de f cs2 be lf od) H) (hD : va_D (lwAd s) (wBL h a0 a1 a2 cy N ec cc f cs tr o cl g ++ wM h2 b0 b1 b2 b3 b4 cy th N cc ds de f cs2 be lf od)) (hS : va_S (lwAd s) s.heap H locs) (hl : lv_has ls 9 [(0, .ref b), (1, .ref h), (2, .ref h2), (3, .ref o), (4, .int (nI i))]) (hnc : cells + 1 ≤ 1045) (hns : slots + 6 ≤ 8429) (hN2 : N < 20)
  (K : ∀ (H1 : Heap) (locs1 : List Loc) (ls1 : Array Slot), lwI D (lwAd s) h a0 a1 a2 cy o cl h2 b0 b1 b2 b3 b4 (N + 1) f H1 → va_S (lwAd s) s.heap H1 locs1 → lv_has ls1 9 [(0, .ref b), (1, .ref h), (2, .ref h2), (3, .ref o), (4, .int (nI i))] → W p l e room_1 s m #[Value.ref b] below meth c H1 locs1 (cells + 1) (slots + 6) Q (F0 m 1334 ls1 [])) :
  W p l e room_1 s m #[Value.ref b] below meth c H locs cells slots Q (F0 m 152 ls []) := by
  obtain ⟨hx, hb, hml, hown, hts, hX, hbl, hL⟩ := C
  have hN : N ≤ 20 := hg.1
  have hA : ∀ q : Nat, s.heap.size ≤ q → lwAd s q := fun _ h => h
  have hbA : ¬ lwAd s b := Nat.not_le.mpr hbl
  refine lv_aload_n hx hb dL_law_152 rfl (lv_at hl 1 rfl) ?_
  refine lv_aload_n hx hb dL_law_153 rfl (lv_at hl 3 rfl) ?_
  have hPb := hP.sub (ws' := wBL h a0 a1 a2 cy N ec cc f cs tr o cl g) [0, 1, 2, 3, 4] rfl
  have hDb := hD.sub (ws' := wBL h a0 a1 a2 cy N ec cc f cs tr o cl g) [0, 1, 2, 3, 4] (by decide) rfl
  refine zjSi (X := (fun _ => True)) (As := [.ref h, .ref o]) (rest := []) (wr := wM h2 b0 b1 b2 b3 b4 cy th N cc ds de f cs2 be lf od) [0, 1, 2, 3, 4] [5, 6, 7, 8, 9, 10] rfl rfl rfl (by decide) (by exact fun _ => rfl) ⟨hx, hb, hml, hown, hts⟩ (w_addNode_ok l D cy h a0 a1 a2 N ec cc f cs tr o cl g _ hN2) (vx_cwSW 2 hts gL_law_L_addNode rfl rfl rfl (by decide +kernel) ⟨Nat.le_of_ble_eq_true rfl, Nat.le_of_ble_eq_true rfl⟩) hK hP hPb hD hDb hA (fun _ _ _ _ _ => trivial) (fun _ _ _ => trivial) rfl hl rfl (Nat.le_of_ble_eq_true rfl) dL_law_154 ⟨by show _ ≤ 1045; omega, by show _ ≤ 8429; omega⟩ hS (fun r9 u9 H locs hw9 hP hS => ?_)
  obtain ⟨rfl, hw9⟩ := hw9
  have hw9 : u9 = nI N := hw9
  have hP : va_P D vwCl (wBL h a0 a1 a2 cy (N + 1) ec cc f cs tr o cl (vp_updL g 0 (u9).toInt64) ++ wM h2 b0 b1 b2 b3 b4 cy th N cc ds de f cs2 be lf od) H := hP.sub [6, 7, 8, 9, 10, 0, 1, 2, 3, 4, 5] rfl
  have hD : va_D (lwAd s) (wBL h a0 a1 a2 cy (N + 1) ec cc f cs tr o cl (vp_updL g 0 (u9).toInt64) ++ wM h2 b0 b1 b2 b3 b4 cy th N cc ds de f cs2 be lf od) := zD hD rfl
  refine lv_istore (lv' := [(5, .int (nI 0)), (0, .ref b), (1, .ref h), (2, .ref h2), (3, .ref o), (4, .int (nI i))]) hx hb dL_law_157 hl (by decide) rfl (fun ls hl => ?_)
  refine lv_aload_n hx hb dL_law_159 rfl (lv_at hl 3 rfl) ?_
  have hPm := hP.sub (ws' := wM h2 b0 b1 b2 b3 b4 cy th N cc ds de f cs2 be lf od) [5, 6, 7, 8, 9, 10] rfl
  have hDm := hD.sub (ws' := wM h2 b0 b1 b2 b3 b4 cy th N cc ds de f cs2 be lf od) [5, 6, 7, 8, 9, 10] (by decide) rfl
  refine zjVi (As := []) (rest := []) (wr := wBL h a0 a1 a2 cy (N + 1) ec cc f cs tr o cl (vp_updL g 0 (u9).toInt64)) 0 [5, 6, 7, 8, 9, 10] [0, 1, 2, 3, 4] rfl rfl rfl (by decide) (by exact fun _ => rfl) ⟨hx, hb, hml, hown, hts⟩ (c_X1_addNode_ok l D cy h2 b0 b1 b2 b3 b4 th N cc ds de f cs2 be lf od _ hN2) (cwV 0 hts gL_law_X1_addNode rfl rfl rfl (by decide +kernel) ⟨Nat.le_of_ble_eq_true rfl, Nat.le_of_ble_eq_true rfl⟩) (hK.sub [0] rfl) hP hPm hD hDm hA rfl rfl rfl hl rfl (Nat.le_of_ble_eq_true rfl) dL_law_160 ⟨by show _ ≤ 1045; omega, by show _ ≤ 8429; omega⟩ hS (fun r8 u8 H locs hw8 hP hS => ?_)
  have hP : va_P D vwCl (wBL h a0 a1 a2 cy (N + 1) ec cc f cs tr o cl (vp_updL g 0 (u9).toInt64) ++ wM h2 b0 b1 b2 b3 b4 cy (nI 0) (N + 1) cc ds de (upd f N (nI 0)) cs2 be lf od) H := hP
  have hD : va_D (lwAd s) (wBL h a0 a1 a2 cy (N + 1) ec cc f cs tr o cl (vp_updL g 0 (u9).toInt64) ++ wM h2 b0 b1 b2 b3 b4 cy (nI 0) (N + 1) cc ds de (upd f N (nI 0)) cs2 be lf od) := zD hD rfl
  have hw8 : r8 = nI N := hw8
  refine lv_istore (lv' := [(6, .int r8), (5, .int (nI 0)), (0, .ref b), (1, .ref h), (2, .ref h2), (3, .ref o), (4, .int (nI i))]) hx hb dL_law_163 hl (by decide) rfl (fun ls hl => ?_)
  refine lv_aload_n hx hb dL_law_165 rfl (lv_at hl 4 rfl) ?_
  have hPt := hP.sub (ws' := wM h2 b0 b1 b2 b3 b4 cy (nI 0) (N + 1) cc ds de (upd f N (nI 0)) cs2 be lf od) [5, 6, 7, 8, 9, 10] rfl
  refine zrV (As := []) (rest := []) 0 ⟨hx, hb, hml, hown, hts⟩ (c_X1_thrown l D cy h2 b0 b1 b2 b3 b4 (nI 0) (N + 1) cc ds de (upd f N (nI 0)) cs2 be lf od) (cwV 0 hts gL_law_X1_thrown rfl rfl rfl (by decide +kernel) ⟨Nat.le_of_ble_eq_true rfl, Nat.le_of_ble_eq_true rfl⟩) (hK.sub [0] rfl) hPt rfl rfl rfl hl rfl (Nat.le_of_ble_eq_true rfl) dL_law_166 ⟨by show _ ≤ 1045; omega, by show _ ≤ 8429; omega⟩ hS (fun r7 H locs hw7 hk7 hS => ?_)
  obtain rfl : r7 = nI 0 := hw7
  have hP := zkeep hP hk7
  refine lv_iload hx hb dL_law_169 (lv_at hl 1 rfl) ?_
  refine lv_icmp_eq (tgt := 176) hx hb dL_law_171 (by decide) (fun _ => ?_) (fun q => absurd (rfl) q)
  refine lv_iload hx hb dL_law_176 (lv_at hl 1 rfl) ?_
  refine lv_if_ne (tgt := 193) hx hb dL_law_178 (by decide) (fun q => absurd rfl q) (fun _ => ?_)
  refine lv_aload_n hx hb dL_law_181 rfl (lv_at hl 5 rfl) ?_
  refine lv_iconst (v := (nI 0)) hx hb dL_law_182 (by decide) ?_
  refine z_lald0 hx hb hK hP 0 1 rfl rfl dL_law_183 ?_
  refine lv_iload hx hb dL_law_184 (lv_at hl 0 rfl) ?_
  refine lv_i2l (v := (r8).toInt64) hx hb dL_law_186 rfl ?_
  refine z_lcmp hx hb (congrArg Int32.toInt64 (hw9.trans hw8.symm)) dL_law_187 ?_
  refine lv_if_eq (tgt := 193) hx hb dL_law_188 (by decide) (fun _ => ?_) (fun q => absurd (by decide) q)
  refine lv_goto (tgt := 1334) hx hb dL_law_193 (by decide) ?_
  rw [upd_0 hg hN2] at hP hD
  refine W.widen (k := cells + 1) (n := slots + 6) (by omega) (by omega) ?_
  exact K _ _ _ ⟨gd_more hg hN2, _, _, _, _, _, _, _, _, _, _, _, _, csJ_more hg hN2 hcs, hec.trans (congrArg nI (ewn_more hg hN2).symm), hP, hD⟩ hS (lv_sub hl [2, 3, 4, 5, 6] rfl)

set_option maxHeartbeats 4000000 in
set_option maxRecDepth 100000 in
theorem lw_addNode_full (C : lwC p s m c b L xs) (hK : va_K D vwCl [(cy, .int), (cl, .long)] s) (hTL : zThL s) (hfl : l.stackTraces = false) {i : Nat} (hi : i + 3 ≤ L) (hg : gd f N) (hcs : csJ cs (cnum f N) N) (hec : ec = nI (ewn f N (zal N))) (hP : va_P D vwCl (wBL h a0 a1 a2 cy N ec cc f cs tr o cl g ++ wM h2 b0 b1 b2 b3 b4 cy th N cc ds de f cs2 be lf od) H) (hD : va_D (lwAd s) (wBL h a0 a1 a2 cy N ec cc f cs tr o cl g ++ wM h2 b0 b1 b2 b3 b4 cy th N cc ds de f cs2 be lf od)) (hS : va_S (lwAd s) s.heap H locs) (hl : lv_has ls 9 [(0, .ref b), (1, .ref h), (2, .ref h2), (3, .ref o), (4, .int (nI i))]) (hnc : cells + 1 ≤ 1045) (hns : slots + 6 ≤ 8429) (hN2 : N = 20)
  (K : ∀ (H1 : Heap) (locs1 : List Loc) (ls1 : Array Slot), lwI D (lwAd s) h a0 a1 a2 cy o cl h2 b0 b1 b2 b3 b4 N f H1 → va_S (lwAd s) s.heap H1 locs1 → lv_has ls1 9 [(0, .ref b), (1, .ref h), (2, .ref h2), (3, .ref o), (4, .int (nI i))] → W p l e room_1 s m #[Value.ref b] below meth c H1 locs1 (cells + 1) (slots + 6) Q (F0 m 1334 ls1 [])) :
  W p l e room_1 s m #[Value.ref b] below meth c H locs cells slots Q (F0 m 152 ls []) := by
  obtain ⟨hx, hb, hml, hown, hts, hX, hbl, hL⟩ := C
  have hN : N ≤ 20 := hg.1
  have hA : ∀ q : Nat, s.heap.size ≤ q → lwAd s q := fun _ h => h
  have hbA : ¬ lwAd s b := Nat.not_le.mpr hbl
  refine lv_aload_n hx hb dL_law_152 rfl (lv_at hl 1 rfl) ?_
  refine lv_aload_n hx hb dL_law_153 rfl (lv_at hl 3 rfl) ?_
  have hPb := hP.sub (ws' := wBL h a0 a1 a2 cy N ec cc f cs tr o cl g) [0, 1, 2, 3, 4] rfl
  have hDb := hD.sub (ws' := wBL h a0 a1 a2 cy N ec cc f cs tr o cl g) [0, 1, 2, 3, 4] (by decide) rfl
  refine zjSi (X := zTh) (As := [.ref h, .ref o]) (rest := []) (wr := wM h2 b0 b1 b2 b3 b4 cy th N cc ds de f cs2 be lf od) [0, 1, 2, 3, 4] [5, 6, 7, 8, 9, 10] rfl rfl rfl (by decide) (by exact fun _ => rfl) ⟨hx, hb, hml, hown, hts⟩ (w_addNode_full l hfl D cy h a0 a1 a2 N ec cc f cs tr o cl g _ hN2) (vx_cwSW 2 hts gL_law_L_addNode rfl rfl rfl (by decide +kernel) ⟨Nat.le_of_ble_eq_true rfl, Nat.le_of_ble_eq_true rfl⟩) hK hP hPb hD hDb hA (fun U g mk a q => q.same rfl rfl) (fun U hU hW => hTL.at hS hU hW) rfl hl rfl (Nat.le_of_ble_eq_true rfl) dL_law_154 ⟨by show _ ≤ 1045; omega, by show _ ≤ 8429; omega⟩ hS (fun r9 u9 H locs hw9 hP hS => ?_)
  obtain rfl : r9 = nI 1 := hw9
  have hP : va_P D vwCl (wBL h a0 a1 a2 cy N ec cc f cs tr o cl g ++ wM h2 b0 b1 b2 b3 b4 cy th N cc ds de f cs2 be lf od) H := hP.sub [6, 7, 8, 9, 10, 0, 1, 2, 3, 4, 5] rfl
  have hD : va_D (lwAd s) (wBL h a0 a1 a2 cy N ec cc f cs tr o cl g ++ wM h2 b0 b1 b2 b3 b4 cy th N cc ds de f cs2 be lf od) := zD hD rfl
  refine lv_istore (lv' := [(5, .int (nI 1)), (0, .ref b), (1, .ref h), (2, .ref h2), (3, .ref o), (4, .int (nI i))]) hx hb dL_law_157 hl (by decide) rfl (fun ls hl => ?_)
  refine lv_aload_n hx hb dL_law_159 rfl (lv_at hl 3 rfl) ?_
  have hPm := hP.sub (ws' := wM h2 b0 b1 b2 b3 b4 cy th N cc ds de f cs2 be lf od) [5, 6, 7, 8, 9, 10] rfl
  have hDm := hD.sub (ws' := wM h2 b0 b1 b2 b3 b4 cy th N cc ds de f cs2 be lf od) [5, 6, 7, 8, 9, 10] (by decide) rfl
  refine zjVi (As := []) (rest := []) (wr := wBL h a0 a1 a2 cy N ec cc f cs tr o cl g) 0 [5, 6, 7, 8, 9, 10] [0, 1, 2, 3, 4] rfl rfl rfl (by decide) (by exact fun _ => rfl) ⟨hx, hb, hml, hown, hts⟩ (c_X1_addNode_full l D cy h2 b0 b1 b2 b3 b4 th N cc ds de f cs2 be lf od _ hN2) (cwV 0 hts gL_law_X1_addNode rfl rfl rfl (by decide +kernel) ⟨Nat.le_of_ble_eq_true rfl, Nat.le_of_ble_eq_true rfl⟩) (hK.sub [0] rfl) hP hPm hD hDm hA rfl rfl rfl hl rfl (Nat.le_of_ble_eq_true rfl) dL_law_160 ⟨by show _ ≤ 1045; omega, by show _ ≤ 8429; omega⟩ hS (fun r8 u8 H locs hw8 hP hS => ?_)
  have hP : va_P D vwCl (wBL h a0 a1 a2 cy N ec cc f cs tr o cl g ++ wM h2 b0 b1 b2 b3 b4 cy (nI 1) N cc ds de f cs2 be lf od) H := hP
  have hD : va_D (lwAd s) (wBL h a0 a1 a2 cy N ec cc f cs tr o cl g ++ wM h2 b0 b1 b2 b3 b4 cy (nI 1) N cc ds de f cs2 be lf od) := zD hD rfl
  have hw8 : r8 = nI 0 := hw8
  refine lv_istore (lv' := [(6, .int r8), (5, .int (nI 1)), (0, .ref b), (1, .ref h), (2, .ref h2), (3, .ref o), (4, .int (nI i))]) hx hb dL_law_163 hl (by decide) rfl (fun ls hl => ?_)
  refine lv_aload_n hx hb dL_law_165 rfl (lv_at hl 4 rfl) ?_
  have hPt := hP.sub (ws' := wM h2 b0 b1 b2 b3 b4 cy (nI 1) N cc ds de f cs2 be lf od) [5, 6, 7, 8, 9, 10] rfl
  refine zrV (As := []) (rest := []) 0 ⟨hx, hb, hml, hown, hts⟩ (c_X1_thrown l D cy h2 b0 b1 b2 b3 b4 (nI 1) N cc ds de f cs2 be lf od) (cwV 0 hts gL_law_X1_thrown rfl rfl rfl (by decide +kernel) ⟨Nat.le_of_ble_eq_true rfl, Nat.le_of_ble_eq_true rfl⟩) (hK.sub [0] rfl) hPt rfl rfl rfl hl rfl (Nat.le_of_ble_eq_true rfl) dL_law_166 ⟨by show _ ≤ 1045; omega, by show _ ≤ 8429; omega⟩ hS (fun r7 H locs hw7 hk7 hS => ?_)
  obtain rfl : r7 = nI 1 := hw7
  have hP := zkeep hP hk7
  refine lv_iload hx hb dL_law_169 (lv_at hl 1 rfl) ?_
  refine lv_icmp_eq (tgt := 176) hx hb dL_law_171 (by decide) (fun _ => ?_) (fun q => absurd (rfl) q)
  refine lv_iload hx hb dL_law_176 (lv_at hl 1 rfl) ?_
  refine lv_if_ne (tgt := 193) hx hb dL_law_178 (by decide) (fun _ => ?_) (fun q => absurd q (by decide))
  refine lv_goto (tgt := 1334) hx hb dL_law_193 (by decide) ?_
  refine W.widen (k := cells + 1) (n := slots + 6) (by omega) (by omega) ?_
  exact K _ _ _ ⟨hg, _, _, _, _, _, _, _, _, _, _, _, _, hcs, hec, hP, hD⟩ hS (lv_sub hl [2, 3, 4, 5, 6] rfl)

set_option maxHeartbeats 4000000 in
set_option maxRecDepth 100000 in
theorem lw_join_ok (C : lwC p s m c b L xs) (hK : va_K D vwCl [(cy, .int), (cl, .long)] s) (hTL : zThL s) (hfl : l.stackTraces = false) {i : Nat} (hi : i + 3 ≤ L) (hg : gd f N) (hcs : csJ cs (cnum f N) N) (hec : ec = nI (ewn f N (zal N))) (hP : va_P D vwCl (wBL h a0 a1 a2 cy N ec cc f cs tr o cl g ++ wM h2 b0 b1 b2 b3 b4 cy th N cc ds de f cs2 be lf od) H) (hD : va_D (lwAd s) (wBL h a0 a1 a2 cy N ec cc f cs tr o cl g ++ wM h2 b0 b1 b2 b3 b4 cy th N cc ds de f cs2 be lf od)) (hS : va_S (lwAd s) s.heap H locs) (hl : lv_has ls 9 [(0, .ref b), (1, .ref h), (2, .ref h2), (3, .ref o), (4, .int (nI i))]) (hnc : cells + 1 ≤ 1045) (hns : slots + 6 ≤ 8429) {u v : Nat} (hu : u < N) (hv : v < N) (huv : u ≠ v) (he : bt (f u) v = false) (hq1 : xs (i + 1) = (nI u)) (hq2 : xs (i + 2) = (nI v))
  (K : ∀ (H1 : Heap) (locs1 : List Loc) (ls1 : Array Slot), lwI D (lwAd s) h a0 a1 a2 cy o cl h2 b0 b1 b2 b3 b4 N (tgl f u v) H1 → va_S (lwAd s) s.heap H1 locs1 → lv_has ls1 9 [(0, .ref b), (1, .ref h), (2, .ref h2), (3, .ref o), (4, .int (nI i))] → W p l e room_1 s m #[Value.ref b] below meth c H1 locs1 (cells + 1) (slots + 6) Q (F0 m 1334 ls1 [])) :
  W p l e room_1 s m #[Value.ref b] below meth c H locs cells slots Q (F0 m 196 ls []) := by
  obtain ⟨hx, hb, hml, hown, hts, hX, hbl, hL⟩ := C
  have hN : N ≤ 20 := hg.1
  have hA : ∀ q : Nat, s.heap.size ≤ q → lwAd s q := fun _ h => h
  have hbA : ¬ lwAd s b := Nat.not_le.mpr hbl
  refine lv_aload_n hx hb dL_law_196 rfl (lv_at hl 1 rfl) ?_
  refine lv_aload_n hx hb dL_law_197 rfl (lv_at hl 0 rfl) ?_
  refine lv_iload hx hb dL_law_198 (lv_at hl 4 rfl) ?_
  refine lv_iconst (v := (nI 1)) hx hb dL_law_200 (by decide) ?_
  refine z_iadd hx hb dL_law_201 ?_
  refine z_sld hx hb hX hbl hbA hS (j := i + 1) (by omega) hL dL_law_202 ?_
  rw [hq1]
  refine lv_aload_n hx hb dL_law_203 rfl (lv_at hl 0 rfl) ?_
  refine lv_iload hx hb dL_law_204 (lv_at hl 4 rfl) ?_
  refine lv_iconst (v := (nI 2)) hx hb dL_law_206 (by decide) ?_
  refine z_iadd hx hb dL_law_207 ?_
  refine z_sld hx hb hX hbl hbA hS (j := i + 2) (by omega) hL dL_law_208 ?_
  rw [hq2]
  refine lv_aload_n hx hb dL_law_209 rfl (lv_at hl 3 rfl) ?_
  have hPb := hP.sub (ws' := wBL h a0 a1 a2 cy N ec cc f cs tr o cl g) [0, 1, 2, 3, 4] rfl
  have hDb := hD.sub (ws' := wBL h a0 a1 a2 cy N ec cc f cs tr o cl g) [0, 1, 2, 3, 4] (by decide) rfl
  refine zjSi (X := (fun _ => True)) (As := [.ref h, .int (nI u), .int (nI v), .ref o]) (rest := []) (wr := wM h2 b0 b1 b2 b3 b4 cy th N cc ds de f cs2 be lf od) [0, 1, 2, 3, 4] [5, 6, 7, 8, 9, 10] rfl rfl rfl (by decide) (by exact fun _ => rfl) ⟨hx, hb, hml, hown, hts⟩ (w_join_ok l D cy h a0 a1 a2 N ec cc f cs tr o cl g _ u v hg hu hv huv he hcs) (vx_cwSW 4 hts gL_law_L_join rfl rfl rfl (by decide +kernel) ⟨Nat.le_of_ble_eq_true rfl, Nat.le_of_ble_eq_true rfl⟩) hK hP hPb hD hDb hA (fun _ _ _ _ _ => trivial) (fun _ _ _ => trivial) rfl hl rfl (Nat.le_of_ble_eq_true rfl) dL_law_210 ⟨by show _ ≤ 1045; omega, by show _ ≤ 8429; omega⟩ hS (fun r9 u9 H locs hw9 hP hS => ?_)
  obtain ⟨rfl, hw9⟩ := hw9
  have hw9 : u9.1 = nI (chg (cnum f N) (cnum (tgl f u v) N) N) ∧ csJ u9.2 (cnum (tgl f u v) N) N := hw9
  have hP : va_P D vwCl (wBL h a0 a1 a2 cy N (ec + nI 1) (cc + nI (chg (cnum f N) (cnum (tgl f u v) N) N)) (tgl f u v) u9.2 tr o cl (vp_updL g 0 (u9.1).toInt64) ++ wM h2 b0 b1 b2 b3 b4 cy th N cc ds de f cs2 be lf od) H := hP.sub [6, 7, 8, 9, 10, 0, 1, 2, 3, 4, 5] rfl
  have hD : va_D (lwAd s) (wBL h a0 a1 a2 cy N (ec + nI 1) (cc + nI (chg (cnum f N) (cnum (tgl f u v) N) N)) (tgl f u v) u9.2 tr o cl (vp_updL g 0 (u9.1).toInt64) ++ wM h2 b0 b1 b2 b3 b4 cy th N cc ds de f cs2 be lf od) := zD hD rfl
  refine lv_istore (lv' := [(5, .int (nI 0)), (0, .ref b), (1, .ref h), (2, .ref h2), (3, .ref o), (4, .int (nI i))]) hx hb dL_law_213 hl (by decide) rfl (fun ls hl => ?_)
  refine lv_aload_n hx hb dL_law_215 rfl (lv_at hl 3 rfl) ?_
  refine lv_aload_n hx hb dL_law_216 rfl (lv_at hl 1 rfl) ?_
  refine lv_iload hx hb dL_law_217 (lv_at hl 5 rfl) ?_
  refine lv_iconst (v := (nI 1)) hx hb dL_law_219 (by decide) ?_
  refine z_iadd hx hb dL_law_220 ?_
  refine z_sld hx hb hX hbl hbA hS (j := i + 1) (by omega) hL dL_law_221 ?_
  rw [hq1]
  refine lv_aload_n hx hb dL_law_222 rfl (lv_at hl 1 rfl) ?_
  refine lv_iload hx hb dL_law_223 (lv_at hl 5 rfl) ?_
  refine lv_iconst (v := (nI 2)) hx hb dL_law_225 (by decide) ?_
  refine z_iadd hx hb dL_law_226 ?_
  refine z_sld hx hb hX hbl hbA hS (j := i + 2) (by omega) hL dL_law_227 ?_
  rw [hq2]
  have hPm := hP.sub (ws' := wM h2 b0 b1 b2 b3 b4 cy th N cc ds de f cs2 be lf od) [5, 6, 7, 8, 9, 10] rfl
  have hDm := hD.sub (ws' := wM h2 b0 b1 b2 b3 b4 cy th N cc ds de f cs2 be lf od) [5, 6, 7, 8, 9, 10] (by decide) rfl
  refine zjVi (As := [.int (nI u), .int (nI v)]) (rest := []) (wr := wBL h a0 a1 a2 cy N (ec + nI 1) (cc + nI (chg (cnum f N) (cnum (tgl f u v) N) N)) (tgl f u v) u9.2 tr o cl (vp_updL g 0 (u9.1).toInt64)) 0 [5, 6, 7, 8, 9, 10] [0, 1, 2, 3, 4] rfl rfl rfl (by decide) (by exact fun _ => rfl) ⟨hx, hb, hml, hown, hts⟩ (c_X1_join_ok l D cy h2 b0 b1 b2 b3 b4 th N cc ds de f cs2 be lf od _ u v (cnum f N) (cnum (tgl f u v) N) hN hg (cnum_ok hg) (gd_tgl hg hu hv huv) (cnum_ok (gd_tgl hg hu hv huv)) hu hv huv he) (cwV 2 hts gL_law_X1_join rfl rfl rfl (by decide +kernel) ⟨Nat.le_of_ble_eq_true rfl, Nat.le_of_ble_eq_true rfl⟩) (hK.sub [0] rfl) hP hPm hD hDm hA rfl rfl rfl hl rfl (Nat.le_of_ble_eq_true rfl) dL_law_228 ⟨by show _ ≤ 1045; omega, by show _ ≤ 8429; omega⟩ hS (fun r8 u8 H locs hw8 hP hS => ?_)
  have hP : va_P D vwCl (wBL h a0 a1 a2 cy N (ec + nI 1) (cc + nI (chg (cnum f N) (cnum (tgl f u v) N) N)) (tgl f u v) u9.2 tr o cl (vp_updL g 0 (u9.1).toInt64) ++ wM h2 b0 b1 b2 b3 b4 cy (nI 0) N (cc + nI (chg (cnum f N) (cnum (tgl f u v) N) N)) ds de (tgl f u v) u8.1 u8.2 lf od) H := hP
  have hD : va_D (lwAd s) (wBL h a0 a1 a2 cy N (ec + nI 1) (cc + nI (chg (cnum f N) (cnum (tgl f u v) N) N)) (tgl f u v) u9.2 tr o cl (vp_updL g 0 (u9.1).toInt64) ++ wM h2 b0 b1 b2 b3 b4 cy (nI 0) N (cc + nI (chg (cnum f N) (cnum (tgl f u v) N) N)) ds de (tgl f u v) u8.1 u8.2 lf od) := zD hD rfl
  have hw8 : r8 = nI (chg (cnum f N) (cnum (tgl f u v) N) N) := hw8
  refine lv_istore (lv' := [(6, .int r8), (5, .int (nI 0)), (0, .ref b), (1, .ref h), (2, .ref h2), (3, .ref o), (4, .int (nI i))]) hx hb dL_law_231 hl (by decide) rfl (fun ls hl => ?_)
  refine lv_aload_n hx hb dL_law_233 rfl (lv_at hl 4 rfl) ?_
  have hPt := hP.sub (ws' := wM h2 b0 b1 b2 b3 b4 cy (nI 0) N (cc + nI (chg (cnum f N) (cnum (tgl f u v) N) N)) ds de (tgl f u v) u8.1 u8.2 lf od) [5, 6, 7, 8, 9, 10] rfl
  refine zrV (As := []) (rest := []) 0 ⟨hx, hb, hml, hown, hts⟩ (c_X1_thrown l D cy h2 b0 b1 b2 b3 b4 (nI 0) N (cc + nI (chg (cnum f N) (cnum (tgl f u v) N) N)) ds de (tgl f u v) u8.1 u8.2 lf od) (cwV 0 hts gL_law_X1_thrown rfl rfl rfl (by decide +kernel) ⟨Nat.le_of_ble_eq_true rfl, Nat.le_of_ble_eq_true rfl⟩) (hK.sub [0] rfl) hPt rfl rfl rfl hl rfl (Nat.le_of_ble_eq_true rfl) dL_law_234 ⟨by show _ ≤ 1045; omega, by show _ ≤ 8429; omega⟩ hS (fun r7 H locs hw7 hk7 hS => ?_)
  obtain rfl : r7 = nI 0 := hw7
  have hP := zkeep hP hk7
  refine lv_iload hx hb dL_law_237 (lv_at hl 1 rfl) ?_
  refine lv_icmp_eq (tgt := 244) hx hb dL_law_239 (by decide) (fun _ => ?_) (fun q => absurd (rfl) q)
  refine lv_iload hx hb dL_law_244 (lv_at hl 1 rfl) ?_
  refine lv_if_ne (tgt := 261) hx hb dL_law_246 (by decide) (fun q => absurd rfl q) (fun _ => ?_)
  refine lv_aload_n hx hb dL_law_249 rfl (lv_at hl 5 rfl) ?_
  refine lv_iconst (v := (nI 0)) hx hb dL_law_250 (by decide) ?_
  refine z_lald0 hx hb hK hP 0 1 rfl rfl dL_law_251 ?_
  refine lv_iload hx hb dL_law_252 (lv_at hl 0 rfl) ?_
  refine lv_i2l (v := (r8).toInt64) hx hb dL_law_254 rfl ?_
  refine z_lcmp hx hb (congrArg Int32.toInt64 (hw9.1.trans hw8.symm)) dL_law_255 ?_
  refine lv_if_eq (tgt := 261) hx hb dL_law_256 (by decide) (fun _ => ?_) (fun q => absurd (by decide) q)
  refine lv_goto (tgt := 1334) hx hb dL_law_261 (by decide) ?_
  refine W.widen (k := cells + 1) (n := slots + 6) (by omega) (by omega) ?_
  exact K _ _ _ ⟨gd_tgl hg hu hv huv, _, _, _, _, _, _, _, _, _, _, _, _, hw9.2, (by rw [hec, ewn_add hg hu hv huv he]; exact nI_add _ _), hP, hD⟩ hS (lv_sub hl [2, 3, 4, 5, 6] rfl)

set_option maxHeartbeats 4000000 in
set_option maxRecDepth 100000 in
theorem lw_join_same (C : lwC p s m c b L xs) (hK : va_K D vwCl [(cy, .int), (cl, .long)] s) (hTL : zThL s) (hfl : l.stackTraces = false) {i : Nat} (hi : i + 3 ≤ L) (hg : gd f N) (hcs : csJ cs (cnum f N) N) (hec : ec = nI (ewn f N (zal N))) (hP : va_P D vwCl (wBL h a0 a1 a2 cy N ec cc f cs tr o cl g ++ wM h2 b0 b1 b2 b3 b4 cy th N cc ds de f cs2 be lf od) H) (hD : va_D (lwAd s) (wBL h a0 a1 a2 cy N ec cc f cs tr o cl g ++ wM h2 b0 b1 b2 b3 b4 cy th N cc ds de f cs2 be lf od)) (hS : va_S (lwAd s) s.heap H locs) (hl : lv_has ls 9 [(0, .ref b), (1, .ref h), (2, .ref h2), (3, .ref o), (4, .int (nI i))]) (hnc : cells + 1 ≤ 1045) (hns : slots + 6 ≤ 8429) {u : Nat} (hu : u < N) (hq1 : xs (i + 1) = (nI u)) (hq2 : xs (i + 2) = (nI u))
  (K : ∀ (H1 : Heap) (locs1 : List Loc) (ls1 : Array Slot), lwI D (lwAd s) h a0 a1 a2 cy o cl h2 b0 b1 b2 b3 b4 N f H1 → va_S (lwAd s) s.heap H1 locs1 → lv_has ls1 9 [(0, .ref b), (1, .ref h), (2, .ref h2), (3, .ref o), (4, .int (nI i))] → W p l e room_1 s m #[Value.ref b] below meth c H1 locs1 (cells + 1) (slots + 6) Q (F0 m 1334 ls1 [])) :
  W p l e room_1 s m #[Value.ref b] below meth c H locs cells slots Q (F0 m 196 ls []) := by
  obtain ⟨hx, hb, hml, hown, hts, hX, hbl, hL⟩ := C
  have hN : N ≤ 20 := hg.1
  have hA : ∀ q : Nat, s.heap.size ≤ q → lwAd s q := fun _ h => h
  have hbA : ¬ lwAd s b := Nat.not_le.mpr hbl
  refine lv_aload_n hx hb dL_law_196 rfl (lv_at hl 1 rfl) ?_
  refine lv_aload_n hx hb dL_law_197 rfl (lv_at hl 0 rfl) ?_
  refine lv_iload hx hb dL_law_198 (lv_at hl 4 rfl) ?_
  refine lv_iconst (v := (nI 1)) hx hb dL_law_200 (by decide) ?_
  refine z_iadd hx hb dL_law_201 ?_
  refine z_sld hx hb hX hbl hbA hS (j := i + 1) (by omega) hL dL_law_202 ?_
  rw [hq1]
  refine lv_aload_n hx hb dL_law_203 rfl (lv_at hl 0 rfl) ?_
  refine lv_iload hx hb dL_law_204 (lv_at hl 4 rfl) ?_
  refine lv_iconst (v := (nI 2)) hx hb dL_law_206 (by decide) ?_
  refine z_iadd hx hb dL_law_207 ?_
  refine z_sld hx hb hX hbl hbA hS (j := i + 2) (by omega) hL dL_law_208 ?_
  rw [hq2]
  refine lv_aload_n hx hb dL_law_209 rfl (lv_at hl 3 rfl) ?_
  have hPb := hP.sub (ws' := wBL h a0 a1 a2 cy N ec cc f cs tr o cl g) [0, 1, 2, 3, 4] rfl
  have hDb := hD.sub (ws' := wBL h a0 a1 a2 cy N ec cc f cs tr o cl g) [0, 1, 2, 3, 4] (by decide) rfl
  refine zjSi (X := zTh) (As := [.ref h, .int (nI u), .int (nI u), .ref o]) (rest := []) (wr := wM h2 b0 b1 b2 b3 b4 cy th N cc ds de f cs2 be lf od) [0, 1, 2, 3, 4] [5, 6, 7, 8, 9, 10] rfl rfl rfl (by decide) (by exact fun _ => rfl) ⟨hx, hb, hml, hown, hts⟩ (w_join_same l hfl D cy h a0 a1 a2 N ec cc f cs tr o cl g _ u hN hu) (vx_cwSW 4 hts gL_law_L_join rfl rfl rfl (by decide +kernel) ⟨Nat.le_of_ble_eq_true rfl, Nat.le_of_ble_eq_true rfl⟩) hK hP hPb hD hDb hA (fun U g mk a q => q.same rfl rfl) (fun U hU hW => hTL.at hS hU hW) rfl hl rfl (Nat.le_of_ble_eq_true rfl) dL_law_210 ⟨by show _ ≤ 1045; omega, by show _ ≤ 8429; omega⟩ hS (fun r9 u9 H locs hw9 hP hS => ?_)
  obtain rfl : r9 = nI 2 := hw9
  have hP : va_P D vwCl (wBL h a0 a1 a2 cy N ec cc f cs tr o cl g ++ wM h2 b0 b1 b2 b3 b4 cy th N cc ds de f cs2 be lf od) H := hP.sub [6, 7, 8, 9, 10, 0, 1, 2, 3, 4, 5] rfl
  have hD : va_D (lwAd s) (wBL h a0 a1 a2 cy N ec cc f cs tr o cl g ++ wM h2 b0 b1 b2 b3 b4 cy th N cc ds de f cs2 be lf od) := zD hD rfl
  refine lv_istore (lv' := [(5, .int (nI 2)), (0, .ref b), (1, .ref h), (2, .ref h2), (3, .ref o), (4, .int (nI i))]) hx hb dL_law_213 hl (by decide) rfl (fun ls hl => ?_)
  refine lv_aload_n hx hb dL_law_215 rfl (lv_at hl 3 rfl) ?_
  refine lv_aload_n hx hb dL_law_216 rfl (lv_at hl 1 rfl) ?_
  refine lv_iload hx hb dL_law_217 (lv_at hl 5 rfl) ?_
  refine lv_iconst (v := (nI 1)) hx hb dL_law_219 (by decide) ?_
  refine z_iadd hx hb dL_law_220 ?_
  refine z_sld hx hb hX hbl hbA hS (j := i + 1) (by omega) hL dL_law_221 ?_
  rw [hq1]
  refine lv_aload_n hx hb dL_law_222 rfl (lv_at hl 1 rfl) ?_
  refine lv_iload hx hb dL_law_223 (lv_at hl 5 rfl) ?_
  refine lv_iconst (v := (nI 2)) hx hb dL_law_225 (by decide) ?_
  refine z_iadd hx hb dL_law_226 ?_
  refine z_sld hx hb hX hbl hbA hS (j := i + 2) (by omega) hL dL_law_227 ?_
  rw [hq2]
  have hPm := hP.sub (ws' := wM h2 b0 b1 b2 b3 b4 cy th N cc ds de f cs2 be lf od) [5, 6, 7, 8, 9, 10] rfl
  have hDm := hD.sub (ws' := wM h2 b0 b1 b2 b3 b4 cy th N cc ds de f cs2 be lf od) [5, 6, 7, 8, 9, 10] (by decide) rfl
  refine zjVi (As := [.int (nI u), .int (nI u)]) (rest := []) (wr := wBL h a0 a1 a2 cy N ec cc f cs tr o cl g) 0 [5, 6, 7, 8, 9, 10] [0, 1, 2, 3, 4] rfl rfl rfl (by decide) (by exact fun _ => rfl) ⟨hx, hb, hml, hown, hts⟩ (c_X1_join_same l D cy h2 b0 b1 b2 b3 b4 th N cc ds de f cs2 be lf od _ u hN hu) (cwV 2 hts gL_law_X1_join rfl rfl rfl (by decide +kernel) ⟨Nat.le_of_ble_eq_true rfl, Nat.le_of_ble_eq_true rfl⟩) (hK.sub [0] rfl) hP hPm hD hDm hA rfl rfl rfl hl rfl (Nat.le_of_ble_eq_true rfl) dL_law_228 ⟨by show _ ≤ 1045; omega, by show _ ≤ 8429; omega⟩ hS (fun r8 u8 H locs hw8 hP hS => ?_)
  have hP : va_P D vwCl (wBL h a0 a1 a2 cy N ec cc f cs tr o cl g ++ wM h2 b0 b1 b2 b3 b4 cy (nI 2) N cc ds de f cs2 be lf od) H := hP
  have hD : va_D (lwAd s) (wBL h a0 a1 a2 cy N ec cc f cs tr o cl g ++ wM h2 b0 b1 b2 b3 b4 cy (nI 2) N cc ds de f cs2 be lf od) := zD hD rfl
  have hw8 : r8 = nI 0 := hw8
  refine lv_istore (lv' := [(6, .int r8), (5, .int (nI 2)), (0, .ref b), (1, .ref h), (2, .ref h2), (3, .ref o), (4, .int (nI i))]) hx hb dL_law_231 hl (by decide) rfl (fun ls hl => ?_)
  refine lv_aload_n hx hb dL_law_233 rfl (lv_at hl 4 rfl) ?_
  have hPt := hP.sub (ws' := wM h2 b0 b1 b2 b3 b4 cy (nI 2) N cc ds de f cs2 be lf od) [5, 6, 7, 8, 9, 10] rfl
  refine zrV (As := []) (rest := []) 0 ⟨hx, hb, hml, hown, hts⟩ (c_X1_thrown l D cy h2 b0 b1 b2 b3 b4 (nI 2) N cc ds de f cs2 be lf od) (cwV 0 hts gL_law_X1_thrown rfl rfl rfl (by decide +kernel) ⟨Nat.le_of_ble_eq_true rfl, Nat.le_of_ble_eq_true rfl⟩) (hK.sub [0] rfl) hPt rfl rfl rfl hl rfl (Nat.le_of_ble_eq_true rfl) dL_law_234 ⟨by show _ ≤ 1045; omega, by show _ ≤ 8429; omega⟩ hS (fun r7 H locs hw7 hk7 hS => ?_)
  obtain rfl : r7 = nI 2 := hw7
  have hP := zkeep hP hk7
  refine lv_iload hx hb dL_law_237 (lv_at hl 1 rfl) ?_
  refine lv_icmp_eq (tgt := 244) hx hb dL_law_239 (by decide) (fun _ => ?_) (fun q => absurd (rfl) q)
  refine lv_iload hx hb dL_law_244 (lv_at hl 1 rfl) ?_
  refine lv_if_ne (tgt := 261) hx hb dL_law_246 (by decide) (fun _ => ?_) (fun q => absurd q (by decide))
  refine lv_goto (tgt := 1334) hx hb dL_law_261 (by decide) ?_
  refine W.widen (k := cells + 1) (n := slots + 6) (by omega) (by omega) ?_
  exact K _ _ _ ⟨hg, _, _, _, _, _, _, _, _, _, _, _, _, hcs, hec, hP, hD⟩ hS (lv_sub hl [2, 3, 4, 5, 6] rfl)

set_option maxHeartbeats 4000000 in
set_option maxRecDepth 100000 in
theorem lw_join_not (C : lwC p s m c b L xs) (hK : va_K D vwCl [(cy, .int), (cl, .long)] s) (hTL : zThL s) (hfl : l.stackTraces = false) {i : Nat} (hi : i + 3 ≤ L) (hg : gd f N) (hcs : csJ cs (cnum f N) N) (hec : ec = nI (ewn f N (zal N))) (hP : va_P D vwCl (wBL h a0 a1 a2 cy N ec cc f cs tr o cl g ++ wM h2 b0 b1 b2 b3 b4 cy th N cc ds de f cs2 be lf od) H) (hD : va_D (lwAd s) (wBL h a0 a1 a2 cy N ec cc f cs tr o cl g ++ wM h2 b0 b1 b2 b3 b4 cy th N cc ds de f cs2 be lf od)) (hS : va_S (lwAd s) s.heap H locs) (hl : lv_has ls 9 [(0, .ref b), (1, .ref h), (2, .ref h2), (3, .ref o), (4, .int (nI i))]) (hnc : cells + 1 ≤ 1045) (hns : slots + 6 ≤ 8429) {u v : Nat} (hu : u < N) (hv : v < N) (huv : u ≠ v) (he : bt (f u) v = true) (hq1 : xs (i + 1) = (nI u)) (hq2 : xs (i + 2) = (nI v))
  (K : ∀ (H1 : Heap) (locs1 : List Loc) (ls1 : Array Slot), lwI D (lwAd s) h a0 a1 a2 cy o cl h2 b0 b1 b2 b3 b4 N f H1 → va_S (lwAd s) s.heap H1 locs1 → lv_has ls1 9 [(0, .ref b), (1, .ref h), (2, .ref h2), (3, .ref o), (4, .int (nI i))] → W p l e room_1 s m #[Value.ref b] below meth c H1 locs1 (cells + 1) (slots + 6) Q (F0 m 1334 ls1 [])) :
  W p l e room_1 s m #[Value.ref b] below meth c H locs cells slots Q (F0 m 196 ls []) := by
  obtain ⟨hx, hb, hml, hown, hts, hX, hbl, hL⟩ := C
  have hN : N ≤ 20 := hg.1
  have hA : ∀ q : Nat, s.heap.size ≤ q → lwAd s q := fun _ h => h
  have hbA : ¬ lwAd s b := Nat.not_le.mpr hbl
  refine lv_aload_n hx hb dL_law_196 rfl (lv_at hl 1 rfl) ?_
  refine lv_aload_n hx hb dL_law_197 rfl (lv_at hl 0 rfl) ?_
  refine lv_iload hx hb dL_law_198 (lv_at hl 4 rfl) ?_
  refine lv_iconst (v := (nI 1)) hx hb dL_law_200 (by decide) ?_
  refine z_iadd hx hb dL_law_201 ?_
  refine z_sld hx hb hX hbl hbA hS (j := i + 1) (by omega) hL dL_law_202 ?_
  rw [hq1]
  refine lv_aload_n hx hb dL_law_203 rfl (lv_at hl 0 rfl) ?_
  refine lv_iload hx hb dL_law_204 (lv_at hl 4 rfl) ?_
  refine lv_iconst (v := (nI 2)) hx hb dL_law_206 (by decide) ?_
  refine z_iadd hx hb dL_law_207 ?_
  refine z_sld hx hb hX hbl hbA hS (j := i + 2) (by omega) hL dL_law_208 ?_
  rw [hq2]
  refine lv_aload_n hx hb dL_law_209 rfl (lv_at hl 3 rfl) ?_
  have hPb := hP.sub (ws' := wBL h a0 a1 a2 cy N ec cc f cs tr o cl g) [0, 1, 2, 3, 4] rfl
  have hDb := hD.sub (ws' := wBL h a0 a1 a2 cy N ec cc f cs tr o cl g) [0, 1, 2, 3, 4] (by decide) rfl
  refine zjSi (X := zTh) (As := [.ref h, .int (nI u), .int (nI v), .ref o]) (rest := []) (wr := wM h2 b0 b1 b2 b3 b4 cy th N cc ds de f cs2 be lf od) [0, 1, 2, 3, 4] [5, 6, 7, 8, 9, 10] rfl rfl rfl (by decide) (by exact fun _ => rfl) ⟨hx, hb, hml, hown, hts⟩ (w_join_not l hfl D cy h a0 a1 a2 N ec cc f cs tr o cl g _ u v hN hu hv huv he) (vx_cwSW 4 hts gL_law_L_join rfl rfl rfl (by decide +kernel) ⟨Nat.le_of_ble_eq_true rfl, Nat.le_of_ble_eq_true rfl⟩) hK hP hPb hD hDb hA (fun U g mk a q => q.same rfl rfl) (fun U hU hW => hTL.at hS hU hW) rfl hl rfl (Nat.le_of_ble_eq_true rfl) dL_law_210 ⟨by show _ ≤ 1045; omega, by show _ ≤ 8429; omega⟩ hS (fun r9 u9 H locs hw9 hP hS => ?_)
  obtain rfl : r9 = nI 3 := hw9
  have hP : va_P D vwCl (wBL h a0 a1 a2 cy N ec cc f cs tr o cl g ++ wM h2 b0 b1 b2 b3 b4 cy th N cc ds de f cs2 be lf od) H := hP.sub [6, 7, 8, 9, 10, 0, 1, 2, 3, 4, 5] rfl
  have hD : va_D (lwAd s) (wBL h a0 a1 a2 cy N ec cc f cs tr o cl g ++ wM h2 b0 b1 b2 b3 b4 cy th N cc ds de f cs2 be lf od) := zD hD rfl
  refine lv_istore (lv' := [(5, .int (nI 3)), (0, .ref b), (1, .ref h), (2, .ref h2), (3, .ref o), (4, .int (nI i))]) hx hb dL_law_213 hl (by decide) rfl (fun ls hl => ?_)
  refine lv_aload_n hx hb dL_law_215 rfl (lv_at hl 3 rfl) ?_
  refine lv_aload_n hx hb dL_law_216 rfl (lv_at hl 1 rfl) ?_
  refine lv_iload hx hb dL_law_217 (lv_at hl 5 rfl) ?_
  refine lv_iconst (v := (nI 1)) hx hb dL_law_219 (by decide) ?_
  refine z_iadd hx hb dL_law_220 ?_
  refine z_sld hx hb hX hbl hbA hS (j := i + 1) (by omega) hL dL_law_221 ?_
  rw [hq1]
  refine lv_aload_n hx hb dL_law_222 rfl (lv_at hl 1 rfl) ?_
  refine lv_iload hx hb dL_law_223 (lv_at hl 5 rfl) ?_
  refine lv_iconst (v := (nI 2)) hx hb dL_law_225 (by decide) ?_
  refine z_iadd hx hb dL_law_226 ?_
  refine z_sld hx hb hX hbl hbA hS (j := i + 2) (by omega) hL dL_law_227 ?_
  rw [hq2]
  have hPm := hP.sub (ws' := wM h2 b0 b1 b2 b3 b4 cy th N cc ds de f cs2 be lf od) [5, 6, 7, 8, 9, 10] rfl
  have hDm := hD.sub (ws' := wM h2 b0 b1 b2 b3 b4 cy th N cc ds de f cs2 be lf od) [5, 6, 7, 8, 9, 10] (by decide) rfl
  refine zjVi (As := [.int (nI u), .int (nI v)]) (rest := []) (wr := wBL h a0 a1 a2 cy N ec cc f cs tr o cl g) 0 [5, 6, 7, 8, 9, 10] [0, 1, 2, 3, 4] rfl rfl rfl (by decide) (by exact fun _ => rfl) ⟨hx, hb, hml, hown, hts⟩ (c_X1_join_not l D cy h2 b0 b1 b2 b3 b4 th N cc ds de f cs2 be lf od _ u v hN hu hv huv he) (cwV 2 hts gL_law_X1_join rfl rfl rfl (by decide +kernel) ⟨Nat.le_of_ble_eq_true rfl, Nat.le_of_ble_eq_true rfl⟩) (hK.sub [0] rfl) hP hPm hD hDm hA rfl rfl rfl hl rfl (Nat.le_of_ble_eq_true rfl) dL_law_228 ⟨by show _ ≤ 1045; omega, by show _ ≤ 8429; omega⟩ hS (fun r8 u8 H locs hw8 hP hS => ?_)
  have hP : va_P D vwCl (wBL h a0 a1 a2 cy N ec cc f cs tr o cl g ++ wM h2 b0 b1 b2 b3 b4 cy (nI 3) N cc ds de f cs2 be lf od) H := hP
  have hD : va_D (lwAd s) (wBL h a0 a1 a2 cy N ec cc f cs tr o cl g ++ wM h2 b0 b1 b2 b3 b4 cy (nI 3) N cc ds de f cs2 be lf od) := zD hD rfl
  have hw8 : r8 = nI 0 := hw8
  refine lv_istore (lv' := [(6, .int r8), (5, .int (nI 3)), (0, .ref b), (1, .ref h), (2, .ref h2), (3, .ref o), (4, .int (nI i))]) hx hb dL_law_231 hl (by decide) rfl (fun ls hl => ?_)
  refine lv_aload_n hx hb dL_law_233 rfl (lv_at hl 4 rfl) ?_
  have hPt := hP.sub (ws' := wM h2 b0 b1 b2 b3 b4 cy (nI 3) N cc ds de f cs2 be lf od) [5, 6, 7, 8, 9, 10] rfl
  refine zrV (As := []) (rest := []) 0 ⟨hx, hb, hml, hown, hts⟩ (c_X1_thrown l D cy h2 b0 b1 b2 b3 b4 (nI 3) N cc ds de f cs2 be lf od) (cwV 0 hts gL_law_X1_thrown rfl rfl rfl (by decide +kernel) ⟨Nat.le_of_ble_eq_true rfl, Nat.le_of_ble_eq_true rfl⟩) (hK.sub [0] rfl) hPt rfl rfl rfl hl rfl (Nat.le_of_ble_eq_true rfl) dL_law_234 ⟨by show _ ≤ 1045; omega, by show _ ≤ 8429; omega⟩ hS (fun r7 H locs hw7 hk7 hS => ?_)
  obtain rfl : r7 = nI 3 := hw7
  have hP := zkeep hP hk7
  refine lv_iload hx hb dL_law_237 (lv_at hl 1 rfl) ?_
  refine lv_icmp_eq (tgt := 244) hx hb dL_law_239 (by decide) (fun _ => ?_) (fun q => absurd (rfl) q)
  refine lv_iload hx hb dL_law_244 (lv_at hl 1 rfl) ?_
  refine lv_if_ne (tgt := 261) hx hb dL_law_246 (by decide) (fun _ => ?_) (fun q => absurd q (by decide))
  refine lv_goto (tgt := 1334) hx hb dL_law_261 (by decide) ?_
  refine W.widen (k := cells + 1) (n := slots + 6) (by omega) (by omega) ?_
  exact K _ _ _ ⟨hg, _, _, _, _, _, _, _, _, _, _, _, _, hcs, hec, hP, hD⟩ hS (lv_sub hl [2, 3, 4, 5, 6] rfl)

set_option maxHeartbeats 4000000 in
set_option maxRecDepth 100000 in
theorem lw_join_bad1 (C : lwC p s m c b L xs) (hK : va_K D vwCl [(cy, .int), (cl, .long)] s) (hTL : zThL s) (hfl : l.stackTraces = false) {i : Nat} (hi : i + 3 ≤ L) (hg : gd f N) (hcs : csJ cs (cnum f N) N) (hec : ec = nI (ewn f N (zal N))) (hP : va_P D vwCl (wBL h a0 a1 a2 cy N ec cc f cs tr o cl g ++ wM h2 b0 b1 b2 b3 b4 cy th N cc ds de f cs2 be lf od) H) (hD : va_D (lwAd s) (wBL h a0 a1 a2 cy N ec cc f cs tr o cl g ++ wM h2 b0 b1 b2 b3 b4 cy th N cc ds de f cs2 be lf od)) (hS : va_S (lwAd s) s.heap H locs) (hl : lv_has ls 9 [(0, .ref b), (1, .ref h), (2, .ref h2), (3, .ref o), (4, .int (nI i))]) (hnc : cells + 1 ≤ 1045) (hns : slots + 6 ≤ 8429) {q1 q2 : Int32} (hq : isNb q1 N = false) (hq1 : xs (i + 1) = q1) (hq2 : xs (i + 2) = q2)
  (K : ∀ (H1 : Heap) (locs1 : List Loc) (ls1 : Array Slot), lwI D (lwAd s) h a0 a1 a2 cy o cl h2 b0 b1 b2 b3 b4 N f H1 → va_S (lwAd s) s.heap H1 locs1 → lv_has ls1 9 [(0, .ref b), (1, .ref h), (2, .ref h2), (3, .ref o), (4, .int (nI i))] → W p l e room_1 s m #[Value.ref b] below meth c H1 locs1 (cells + 1) (slots + 6) Q (F0 m 1334 ls1 [])) :
  W p l e room_1 s m #[Value.ref b] below meth c H locs cells slots Q (F0 m 196 ls []) := by
  obtain ⟨hx, hb, hml, hown, hts, hX, hbl, hL⟩ := C
  have hN : N ≤ 20 := hg.1
  have hA : ∀ q : Nat, s.heap.size ≤ q → lwAd s q := fun _ h => h
  have hbA : ¬ lwAd s b := Nat.not_le.mpr hbl
  refine lv_aload_n hx hb dL_law_196 rfl (lv_at hl 1 rfl) ?_
  refine lv_aload_n hx hb dL_law_197 rfl (lv_at hl 0 rfl) ?_
  refine lv_iload hx hb dL_law_198 (lv_at hl 4 rfl) ?_
  refine lv_iconst (v := (nI 1)) hx hb dL_law_200 (by decide) ?_
  refine z_iadd hx hb dL_law_201 ?_
  refine z_sld hx hb hX hbl hbA hS (j := i + 1) (by omega) hL dL_law_202 ?_
  rw [hq1]
  refine lv_aload_n hx hb dL_law_203 rfl (lv_at hl 0 rfl) ?_
  refine lv_iload hx hb dL_law_204 (lv_at hl 4 rfl) ?_
  refine lv_iconst (v := (nI 2)) hx hb dL_law_206 (by decide) ?_
  refine z_iadd hx hb dL_law_207 ?_
  refine z_sld hx hb hX hbl hbA hS (j := i + 2) (by omega) hL dL_law_208 ?_
  rw [hq2]
  refine lv_aload_n hx hb dL_law_209 rfl (lv_at hl 3 rfl) ?_
  have hPb := hP.sub (ws' := wBL h a0 a1 a2 cy N ec cc f cs tr o cl g) [0, 1, 2, 3, 4] rfl
  have hDb := hD.sub (ws' := wBL h a0 a1 a2 cy N ec cc f cs tr o cl g) [0, 1, 2, 3, 4] (by decide) rfl
  refine zjSi (X := zTh) (As := [.ref h, .int q1, .int q2, .ref o]) (rest := []) (wr := wM h2 b0 b1 b2 b3 b4 cy th N cc ds de f cs2 be lf od) [0, 1, 2, 3, 4] [5, 6, 7, 8, 9, 10] rfl rfl rfl (by decide) (by exact fun _ => rfl) ⟨hx, hb, hml, hown, hts⟩ (w_join_bad1 l hfl D cy h a0 a1 a2 N ec cc f cs tr o cl g _ q1 q2 hq) (vx_cwSW 4 hts gL_law_L_join rfl rfl rfl (by decide +kernel) ⟨Nat.le_of_ble_eq_true rfl, Nat.le_of_ble_eq_true rfl⟩) hK hP hPb hD hDb hA (fun U g mk a q => q.same rfl rfl) (fun U hU hW => hTL.at hS hU hW) rfl hl rfl (Nat.le_of_ble_eq_true rfl) dL_law_210 ⟨by show _ ≤ 1045; omega, by show _ ≤ 8429; omega⟩ hS (fun r9 u9 H locs hw9 hP hS => ?_)
  obtain rfl : r9 = nI 1 := hw9
  have hP : va_P D vwCl (wBL h a0 a1 a2 cy N ec cc f cs tr o cl g ++ wM h2 b0 b1 b2 b3 b4 cy th N cc ds de f cs2 be lf od) H := hP.sub [6, 7, 8, 9, 10, 0, 1, 2, 3, 4, 5] rfl
  have hD : va_D (lwAd s) (wBL h a0 a1 a2 cy N ec cc f cs tr o cl g ++ wM h2 b0 b1 b2 b3 b4 cy th N cc ds de f cs2 be lf od) := zD hD rfl
  refine lv_istore (lv' := [(5, .int (nI 1)), (0, .ref b), (1, .ref h), (2, .ref h2), (3, .ref o), (4, .int (nI i))]) hx hb dL_law_213 hl (by decide) rfl (fun ls hl => ?_)
  refine lv_aload_n hx hb dL_law_215 rfl (lv_at hl 3 rfl) ?_
  refine lv_aload_n hx hb dL_law_216 rfl (lv_at hl 1 rfl) ?_
  refine lv_iload hx hb dL_law_217 (lv_at hl 5 rfl) ?_
  refine lv_iconst (v := (nI 1)) hx hb dL_law_219 (by decide) ?_
  refine z_iadd hx hb dL_law_220 ?_
  refine z_sld hx hb hX hbl hbA hS (j := i + 1) (by omega) hL dL_law_221 ?_
  rw [hq1]
  refine lv_aload_n hx hb dL_law_222 rfl (lv_at hl 1 rfl) ?_
  refine lv_iload hx hb dL_law_223 (lv_at hl 5 rfl) ?_
  refine lv_iconst (v := (nI 2)) hx hb dL_law_225 (by decide) ?_
  refine z_iadd hx hb dL_law_226 ?_
  refine z_sld hx hb hX hbl hbA hS (j := i + 2) (by omega) hL dL_law_227 ?_
  rw [hq2]
  have hPm := hP.sub (ws' := wM h2 b0 b1 b2 b3 b4 cy th N cc ds de f cs2 be lf od) [5, 6, 7, 8, 9, 10] rfl
  have hDm := hD.sub (ws' := wM h2 b0 b1 b2 b3 b4 cy th N cc ds de f cs2 be lf od) [5, 6, 7, 8, 9, 10] (by decide) rfl
  refine zjVi (As := [.int q1, .int q2]) (rest := []) (wr := wBL h a0 a1 a2 cy N ec cc f cs tr o cl g) 0 [5, 6, 7, 8, 9, 10] [0, 1, 2, 3, 4] rfl rfl rfl (by decide) (by exact fun _ => rfl) ⟨hx, hb, hml, hown, hts⟩ (c_X1_join_bad l D cy h2 b0 b1 b2 b3 b4 th N cc ds de f cs2 be lf od _ q1 q2 (by rw [hq]; rfl)) (cwV 2 hts gL_law_X1_join rfl rfl rfl (by decide +kernel) ⟨Nat.le_of_ble_eq_true rfl, Nat.le_of_ble_eq_true rfl⟩) (hK.sub [0] rfl) hP hPm hD hDm hA rfl rfl rfl hl rfl (Nat.le_of_ble_eq_true rfl) dL_law_228 ⟨by show _ ≤ 1045; omega, by show _ ≤ 8429; omega⟩ hS (fun r8 u8 H locs hw8 hP hS => ?_)
  have hP : va_P D vwCl (wBL h a0 a1 a2 cy N ec cc f cs tr o cl g ++ wM h2 b0 b1 b2 b3 b4 cy (nI 1) N cc ds de f cs2 be lf od) H := hP
  have hD : va_D (lwAd s) (wBL h a0 a1 a2 cy N ec cc f cs tr o cl g ++ wM h2 b0 b1 b2 b3 b4 cy (nI 1) N cc ds de f cs2 be lf od) := zD hD rfl
  have hw8 : r8 = nI 0 := hw8
  refine lv_istore (lv' := [(6, .int r8), (5, .int (nI 1)), (0, .ref b), (1, .ref h), (2, .ref h2), (3, .ref o), (4, .int (nI i))]) hx hb dL_law_231 hl (by decide) rfl (fun ls hl => ?_)
  refine lv_aload_n hx hb dL_law_233 rfl (lv_at hl 4 rfl) ?_
  have hPt := hP.sub (ws' := wM h2 b0 b1 b2 b3 b4 cy (nI 1) N cc ds de f cs2 be lf od) [5, 6, 7, 8, 9, 10] rfl
  refine zrV (As := []) (rest := []) 0 ⟨hx, hb, hml, hown, hts⟩ (c_X1_thrown l D cy h2 b0 b1 b2 b3 b4 (nI 1) N cc ds de f cs2 be lf od) (cwV 0 hts gL_law_X1_thrown rfl rfl rfl (by decide +kernel) ⟨Nat.le_of_ble_eq_true rfl, Nat.le_of_ble_eq_true rfl⟩) (hK.sub [0] rfl) hPt rfl rfl rfl hl rfl (Nat.le_of_ble_eq_true rfl) dL_law_234 ⟨by show _ ≤ 1045; omega, by show _ ≤ 8429; omega⟩ hS (fun r7 H locs hw7 hk7 hS => ?_)
  obtain rfl : r7 = nI 1 := hw7
  have hP := zkeep hP hk7
  refine lv_iload hx hb dL_law_237 (lv_at hl 1 rfl) ?_
  refine lv_icmp_eq (tgt := 244) hx hb dL_law_239 (by decide) (fun _ => ?_) (fun q => absurd (rfl) q)
  refine lv_iload hx hb dL_law_244 (lv_at hl 1 rfl) ?_
  refine lv_if_ne (tgt := 261) hx hb dL_law_246 (by decide) (fun _ => ?_) (fun q => absurd q (by decide))
  refine lv_goto (tgt := 1334) hx hb dL_law_261 (by decide) ?_
  refine W.widen (k := cells + 1) (n := slots + 6) (by omega) (by omega) ?_
  exact K _ _ _ ⟨hg, _, _, _, _, _, _, _, _, _, _, _, _, hcs, hec, hP, hD⟩ hS (lv_sub hl [2, 3, 4, 5, 6] rfl)

set_option maxHeartbeats 4000000 in
set_option maxRecDepth 100000 in
theorem lw_join_bad2 (C : lwC p s m c b L xs) (hK : va_K D vwCl [(cy, .int), (cl, .long)] s) (hTL : zThL s) (hfl : l.stackTraces = false) {i : Nat} (hi : i + 3 ≤ L) (hg : gd f N) (hcs : csJ cs (cnum f N) N) (hec : ec = nI (ewn f N (zal N))) (hP : va_P D vwCl (wBL h a0 a1 a2 cy N ec cc f cs tr o cl g ++ wM h2 b0 b1 b2 b3 b4 cy th N cc ds de f cs2 be lf od) H) (hD : va_D (lwAd s) (wBL h a0 a1 a2 cy N ec cc f cs tr o cl g ++ wM h2 b0 b1 b2 b3 b4 cy th N cc ds de f cs2 be lf od)) (hS : va_S (lwAd s) s.heap H locs) (hl : lv_has ls 9 [(0, .ref b), (1, .ref h), (2, .ref h2), (3, .ref o), (4, .int (nI i))]) (hnc : cells + 1 ≤ 1045) (hns : slots + 6 ≤ 8429) {u : Nat} {q2 : Int32} (hu : u < N) (hq : isNb q2 N = false) (hq1 : xs (i + 1) = (nI u)) (hq2 : xs (i + 2) = q2)
  (K : ∀ (H1 : Heap) (locs1 : List Loc) (ls1 : Array Slot), lwI D (lwAd s) h a0 a1 a2 cy o cl h2 b0 b1 b2 b3 b4 N f H1 → va_S (lwAd s) s.heap H1 locs1 → lv_has ls1 9 [(0, .ref b), (1, .ref h), (2, .ref h2), (3, .ref o), (4, .int (nI i))] → W p l e room_1 s m #[Value.ref b] below meth c H1 locs1 (cells + 1) (slots + 6) Q (F0 m 1334 ls1 [])) :
  W p l e room_1 s m #[Value.ref b] below meth c H locs cells slots Q (F0 m 196 ls []) := by
  obtain ⟨hx, hb, hml, hown, hts, hX, hbl, hL⟩ := C
  have hN : N ≤ 20 := hg.1
  have hA : ∀ q : Nat, s.heap.size ≤ q → lwAd s q := fun _ h => h
  have hbA : ¬ lwAd s b := Nat.not_le.mpr hbl
  refine lv_aload_n hx hb dL_law_196 rfl (lv_at hl 1 rfl) ?_
  refine lv_aload_n hx hb dL_law_197 rfl (lv_at hl 0 rfl) ?_
  refine lv_iload hx hb dL_law_198 (lv_at hl 4 rfl) ?_
  refine lv_iconst (v := (nI 1)) hx hb dL_law_200 (by decide) ?_
  refine z_iadd hx hb dL_law_201 ?_
  refine z_sld hx hb hX hbl hbA hS (j := i + 1) (by omega) hL dL_law_202 ?_
  rw [hq1]
  refine lv_aload_n hx hb dL_law_203 rfl (lv_at hl 0 rfl) ?_
  refine lv_iload hx hb dL_law_204 (lv_at hl 4 rfl) ?_
  refine lv_iconst (v := (nI 2)) hx hb dL_law_206 (by decide) ?_
  refine z_iadd hx hb dL_law_207 ?_
  refine z_sld hx hb hX hbl hbA hS (j := i + 2) (by omega) hL dL_law_208 ?_
  rw [hq2]
  refine lv_aload_n hx hb dL_law_209 rfl (lv_at hl 3 rfl) ?_
  have hPb := hP.sub (ws' := wBL h a0 a1 a2 cy N ec cc f cs tr o cl g) [0, 1, 2, 3, 4] rfl
  have hDb := hD.sub (ws' := wBL h a0 a1 a2 cy N ec cc f cs tr o cl g) [0, 1, 2, 3, 4] (by decide) rfl
  refine zjSi (X := zTh) (As := [.ref h, .int (nI u), .int q2, .ref o]) (rest := []) (wr := wM h2 b0 b1 b2 b3 b4 cy th N cc ds de f cs2 be lf od) [0, 1, 2, 3, 4] [5, 6, 7, 8, 9, 10] rfl rfl rfl (by decide) (by exact fun _ => rfl) ⟨hx, hb, hml, hown, hts⟩ (w_join_bad2 l hfl D cy h a0 a1 a2 N ec cc f cs tr o cl g _ u q2 hN hu hq) (vx_cwSW 4 hts gL_law_L_join rfl rfl rfl (by decide +kernel) ⟨Nat.le_of_ble_eq_true rfl, Nat.le_of_ble_eq_true rfl⟩) hK hP hPb hD hDb hA (fun U g mk a q => q.same rfl rfl) (fun U hU hW => hTL.at hS hU hW) rfl hl rfl (Nat.le_of_ble_eq_true rfl) dL_law_210 ⟨by show _ ≤ 1045; omega, by show _ ≤ 8429; omega⟩ hS (fun r9 u9 H locs hw9 hP hS => ?_)
  obtain rfl : r9 = nI 1 := hw9
  have hP : va_P D vwCl (wBL h a0 a1 a2 cy N ec cc f cs tr o cl g ++ wM h2 b0 b1 b2 b3 b4 cy th N cc ds de f cs2 be lf od) H := hP.sub [6, 7, 8, 9, 10, 0, 1, 2, 3, 4, 5] rfl
  have hD : va_D (lwAd s) (wBL h a0 a1 a2 cy N ec cc f cs tr o cl g ++ wM h2 b0 b1 b2 b3 b4 cy th N cc ds de f cs2 be lf od) := zD hD rfl
  refine lv_istore (lv' := [(5, .int (nI 1)), (0, .ref b), (1, .ref h), (2, .ref h2), (3, .ref o), (4, .int (nI i))]) hx hb dL_law_213 hl (by decide) rfl (fun ls hl => ?_)
  refine lv_aload_n hx hb dL_law_215 rfl (lv_at hl 3 rfl) ?_
  refine lv_aload_n hx hb dL_law_216 rfl (lv_at hl 1 rfl) ?_
  refine lv_iload hx hb dL_law_217 (lv_at hl 5 rfl) ?_
  refine lv_iconst (v := (nI 1)) hx hb dL_law_219 (by decide) ?_
  refine z_iadd hx hb dL_law_220 ?_
  refine z_sld hx hb hX hbl hbA hS (j := i + 1) (by omega) hL dL_law_221 ?_
  rw [hq1]
  refine lv_aload_n hx hb dL_law_222 rfl (lv_at hl 1 rfl) ?_
  refine lv_iload hx hb dL_law_223 (lv_at hl 5 rfl) ?_
  refine lv_iconst (v := (nI 2)) hx hb dL_law_225 (by decide) ?_
  refine z_iadd hx hb dL_law_226 ?_
  refine z_sld hx hb hX hbl hbA hS (j := i + 2) (by omega) hL dL_law_227 ?_
  rw [hq2]
  have hPm := hP.sub (ws' := wM h2 b0 b1 b2 b3 b4 cy th N cc ds de f cs2 be lf od) [5, 6, 7, 8, 9, 10] rfl
  have hDm := hD.sub (ws' := wM h2 b0 b1 b2 b3 b4 cy th N cc ds de f cs2 be lf od) [5, 6, 7, 8, 9, 10] (by decide) rfl
  refine zjVi (As := [.int (nI u), .int q2]) (rest := []) (wr := wBL h a0 a1 a2 cy N ec cc f cs tr o cl g) 0 [5, 6, 7, 8, 9, 10] [0, 1, 2, 3, 4] rfl rfl rfl (by decide) (by exact fun _ => rfl) ⟨hx, hb, hml, hown, hts⟩ (c_X1_join_bad l D cy h2 b0 b1 b2 b3 b4 th N cc ds de f cs2 be lf od _ (nI u) q2 (by rw [hq]; exact Bool.and_false _)) (cwV 2 hts gL_law_X1_join rfl rfl rfl (by decide +kernel) ⟨Nat.le_of_ble_eq_true rfl, Nat.le_of_ble_eq_true rfl⟩) (hK.sub [0] rfl) hP hPm hD hDm hA rfl rfl rfl hl rfl (Nat.le_of_ble_eq_true rfl) dL_law_228 ⟨by show _ ≤ 1045; omega, by show _ ≤ 8429; omega⟩ hS (fun r8 u8 H locs hw8 hP hS => ?_)
  have hP : va_P D vwCl (wBL h a0 a1 a2 cy N ec cc f cs tr o cl g ++ wM h2 b0 b1 b2 b3 b4 cy (nI 1) N cc ds de f cs2 be lf od) H := hP
  have hD : va_D (lwAd s) (wBL h a0 a1 a2 cy N ec cc f cs tr o cl g ++ wM h2 b0 b1 b2 b3 b4 cy (nI 1) N cc ds de f cs2 be lf od) := zD hD rfl
  have hw8 : r8 = nI 0 := hw8
  refine lv_istore (lv' := [(6, .int r8), (5, .int (nI 1)), (0, .ref b), (1, .ref h), (2, .ref h2), (3, .ref o), (4, .int (nI i))]) hx hb dL_law_231 hl (by decide) rfl (fun ls hl => ?_)
  refine lv_aload_n hx hb dL_law_233 rfl (lv_at hl 4 rfl) ?_
  have hPt := hP.sub (ws' := wM h2 b0 b1 b2 b3 b4 cy (nI 1) N cc ds de f cs2 be lf od) [5, 6, 7, 8, 9, 10] rfl
  refine zrV (As := []) (rest := []) 0 ⟨hx, hb, hml, hown, hts⟩ (c_X1_thrown l D cy h2 b0 b1 b2 b3 b4 (nI 1) N cc ds de f cs2 be lf od) (cwV 0 hts gL_law_X1_thrown rfl rfl rfl (by decide +kernel) ⟨Nat.le_of_ble_eq_true rfl, Nat.le_of_ble_eq_true rfl⟩) (hK.sub [0] rfl) hPt rfl rfl rfl hl rfl (Nat.le_of_ble_eq_true rfl) dL_law_234 ⟨by show _ ≤ 1045; omega, by show _ ≤ 8429; omega⟩ hS (fun r7 H locs hw7 hk7 hS => ?_)
  obtain rfl : r7 = nI 1 := hw7
  have hP := zkeep hP hk7
  refine lv_iload hx hb dL_law_237 (lv_at hl 1 rfl) ?_
  refine lv_icmp_eq (tgt := 244) hx hb dL_law_239 (by decide) (fun _ => ?_) (fun q => absurd (rfl) q)
  refine lv_iload hx hb dL_law_244 (lv_at hl 1 rfl) ?_
  refine lv_if_ne (tgt := 261) hx hb dL_law_246 (by decide) (fun _ => ?_) (fun q => absurd q (by decide))
  refine lv_goto (tgt := 1334) hx hb dL_law_261 (by decide) ?_
  refine W.widen (k := cells + 1) (n := slots + 6) (by omega) (by omega) ?_
  exact K _ _ _ ⟨hg, _, _, _, _, _, _, _, _, _, _, _, _, hcs, hec, hP, hD⟩ hS (lv_sub hl [2, 3, 4, 5, 6] rfl)

set_option maxHeartbeats 4000000 in
set_option maxRecDepth 100000 in
theorem lw_part_ok (C : lwC p s m c b L xs) (hK : va_K D vwCl [(cy, .int), (cl, .long)] s) (hTL : zThL s) (hfl : l.stackTraces = false) {i : Nat} (hi : i + 3 ≤ L) (hg : gd f N) (hcs : csJ cs (cnum f N) N) (hec : ec = nI (ewn f N (zal N))) (hP : va_P D vwCl (wBL h a0 a1 a2 cy N ec cc f cs tr o cl g ++ wM h2 b0 b1 b2 b3 b4 cy th N cc ds de f cs2 be lf od) H) (hD : va_D (lwAd s) (wBL h a0 a1 a2 cy N ec cc f cs tr o cl g ++ wM h2 b0 b1 b2 b3 b4 cy th N cc ds de f cs2 be lf od)) (hS : va_S (lwAd s) s.heap H locs) (hl : lv_has ls 9 [(0, .ref b), (1, .ref h), (2, .ref h2), (3, .ref o), (4, .int (nI i))]) (hnc : cells + 1 ≤ 1045) (hns : slots + 6 ≤ 8429) {u v : Nat} (hu : u < N) (hv : v < N) (huv : u ≠ v) (he : bt (f u) v = true) (hq1 : xs (i + 1) = (nI u)) (hq2 : xs (i + 2) = (nI v))
  (K : ∀ (H1 : Heap) (locs1 : List Loc) (ls1 : Array Slot), lwI D (lwAd s) h a0 a1 a2 cy o cl h2 b0 b1 b2 b3 b4 N (tgl f u v) H1 → va_S (lwAd s) s.heap H1 locs1 → lv_has ls1 9 [(0, .ref b), (1, .ref h), (2, .ref h2), (3, .ref o), (4, .int (nI i))] → W p l e room_1 s m #[Value.ref b] below meth c H1 locs1 (cells + 1) (slots + 6) Q (F0 m 1334 ls1 [])) :
  W p l e room_1 s m #[Value.ref b] below meth c H locs cells slots Q (F0 m 264 ls []) := by
  obtain ⟨hx, hb, hml, hown, hts, hX, hbl, hL⟩ := C
  have hN : N ≤ 20 := hg.1
  have hA : ∀ q : Nat, s.heap.size ≤ q → lwAd s q := fun _ h => h
  have hbA : ¬ lwAd s b := Nat.not_le.mpr hbl
  refine lv_aload_n hx hb dL_law_264 rfl (lv_at hl 1 rfl) ?_
  refine lv_aload_n hx hb dL_law_265 rfl (lv_at hl 0 rfl) ?_
  refine lv_iload hx hb dL_law_266 (lv_at hl 4 rfl) ?_
  refine lv_iconst (v := (nI 1)) hx hb dL_law_268 (by decide) ?_
  refine z_iadd hx hb dL_law_269 ?_
  refine z_sld hx hb hX hbl hbA hS (j := i + 1) (by omega) hL dL_law_270 ?_
  rw [hq1]
  refine lv_aload_n hx hb dL_law_271 rfl (lv_at hl 0 rfl) ?_
  refine lv_iload hx hb dL_law_272 (lv_at hl 4 rfl) ?_
  refine lv_iconst (v := (nI 2)) hx hb dL_law_274 (by decide) ?_
  refine z_iadd hx hb dL_law_275 ?_
  refine z_sld hx hb hX hbl hbA hS (j := i + 2) (by omega) hL dL_law_276 ?_
  rw [hq2]
  refine lv_aload_n hx hb dL_law_277 rfl (lv_at hl 3 rfl) ?_
  have hPb := hP.sub (ws' := wBL h a0 a1 a2 cy N ec cc f cs tr o cl g) [0, 1, 2, 3, 4] rfl
  have hDb := hD.sub (ws' := wBL h a0 a1 a2 cy N ec cc f cs tr o cl g) [0, 1, 2, 3, 4] (by decide) rfl
  refine zjSi (X := (fun _ => True)) (As := [.ref h, .int (nI u), .int (nI v), .ref o]) (rest := []) (wr := wM h2 b0 b1 b2 b3 b4 cy th N cc ds de f cs2 be lf od) [0, 1, 2, 3, 4] [5, 6, 7, 8, 9, 10] rfl rfl rfl (by decide) (by exact fun _ => rfl) ⟨hx, hb, hml, hown, hts⟩ (w_part_ok l D cy h a0 a1 a2 N ec cc f cs tr o cl g _ u v hg hu hv huv he hcs) (vx_cwSW 4 hts gL_law_L_part rfl rfl rfl (by decide +kernel) ⟨Nat.le_of_ble_eq_true rfl, Nat.le_of_ble_eq_true rfl⟩) hK hP hPb hD hDb hA (fun _ _ _ _ _ => trivial) (fun _ _ _ => trivial) rfl hl rfl (Nat.le_of_ble_eq_true rfl) dL_law_278 ⟨by show _ ≤ 1045; omega, by show _ ≤ 8429; omega⟩ hS (fun r9 u9 H locs hw9 hP hS => ?_)
  obtain ⟨rfl, hw9⟩ := hw9
  have hw9 : u9.1 = nI (chg (cnum f N) (cnum (tgl f u v) N) N) ∧ csJ u9.2 (cnum (tgl f u v) N) N := hw9
  have hP : va_P D vwCl (wBL h a0 a1 a2 cy N (ec - nI 1) (cc + nI (chg (cnum f N) (cnum (tgl f u v) N) N)) (tgl f u v) u9.2 tr o cl (vp_updL g 0 (u9.1).toInt64) ++ wM h2 b0 b1 b2 b3 b4 cy th N cc ds de f cs2 be lf od) H := hP.sub [6, 7, 8, 9, 10, 0, 1, 2, 3, 4, 5] rfl
  have hD : va_D (lwAd s) (wBL h a0 a1 a2 cy N (ec - nI 1) (cc + nI (chg (cnum f N) (cnum (tgl f u v) N) N)) (tgl f u v) u9.2 tr o cl (vp_updL g 0 (u9.1).toInt64) ++ wM h2 b0 b1 b2 b3 b4 cy th N cc ds de f cs2 be lf od) := zD hD rfl
  refine lv_istore (lv' := [(5, .int (nI 0)), (0, .ref b), (1, .ref h), (2, .ref h2), (3, .ref o), (4, .int (nI i))]) hx hb dL_law_281 hl (by decide) rfl (fun ls hl => ?_)
  refine lv_aload_n hx hb dL_law_283 rfl (lv_at hl 3 rfl) ?_
  refine lv_aload_n hx hb dL_law_284 rfl (lv_at hl 1 rfl) ?_
  refine lv_iload hx hb dL_law_285 (lv_at hl 5 rfl) ?_
  refine lv_iconst (v := (nI 1)) hx hb dL_law_287 (by decide) ?_
  refine z_iadd hx hb dL_law_288 ?_
  refine z_sld hx hb hX hbl hbA hS (j := i + 1) (by omega) hL dL_law_289 ?_
  rw [hq1]
  refine lv_aload_n hx hb dL_law_290 rfl (lv_at hl 1 rfl) ?_
  refine lv_iload hx hb dL_law_291 (lv_at hl 5 rfl) ?_
  refine lv_iconst (v := (nI 2)) hx hb dL_law_293 (by decide) ?_
  refine z_iadd hx hb dL_law_294 ?_
  refine z_sld hx hb hX hbl hbA hS (j := i + 2) (by omega) hL dL_law_295 ?_
  rw [hq2]
  have hPm := hP.sub (ws' := wM h2 b0 b1 b2 b3 b4 cy th N cc ds de f cs2 be lf od) [5, 6, 7, 8, 9, 10] rfl
  have hDm := hD.sub (ws' := wM h2 b0 b1 b2 b3 b4 cy th N cc ds de f cs2 be lf od) [5, 6, 7, 8, 9, 10] (by decide) rfl
  refine zjVi (As := [.int (nI u), .int (nI v)]) (rest := []) (wr := wBL h a0 a1 a2 cy N (ec - nI 1) (cc + nI (chg (cnum f N) (cnum (tgl f u v) N) N)) (tgl f u v) u9.2 tr o cl (vp_updL g 0 (u9.1).toInt64)) 0 [5, 6, 7, 8, 9, 10] [0, 1, 2, 3, 4] rfl rfl rfl (by decide) (by exact fun _ => rfl) ⟨hx, hb, hml, hown, hts⟩ (c_X1_part_ok l D cy h2 b0 b1 b2 b3 b4 th N cc ds de f cs2 be lf od _ u v (cnum f N) (cnum (tgl f u v) N) hN hg (cnum_ok hg) (gd_tgl hg hu hv huv) (cnum_ok (gd_tgl hg hu hv huv)) hu hv huv he) (cwV 2 hts gL_law_X1_part rfl rfl rfl (by decide +kernel) ⟨Nat.le_of_ble_eq_true rfl, Nat.le_of_ble_eq_true rfl⟩) (hK.sub [0] rfl) hP hPm hD hDm hA rfl rfl rfl hl rfl (Nat.le_of_ble_eq_true rfl) dL_law_296 ⟨by show _ ≤ 1045; omega, by show _ ≤ 8429; omega⟩ hS (fun r8 u8 H locs hw8 hP hS => ?_)
  have hP : va_P D vwCl (wBL h a0 a1 a2 cy N (ec - nI 1) (cc + nI (chg (cnum f N) (cnum (tgl f u v) N) N)) (tgl f u v) u9.2 tr o cl (vp_updL g 0 (u9.1).toInt64) ++ wM h2 b0 b1 b2 b3 b4 cy (nI 0) N (cc + nI (chg (cnum f N) (cnum (tgl f u v) N) N)) ds de (tgl f u v) u8.1 u8.2 lf od) H := hP
  have hD : va_D (lwAd s) (wBL h a0 a1 a2 cy N (ec - nI 1) (cc + nI (chg (cnum f N) (cnum (tgl f u v) N) N)) (tgl f u v) u9.2 tr o cl (vp_updL g 0 (u9.1).toInt64) ++ wM h2 b0 b1 b2 b3 b4 cy (nI 0) N (cc + nI (chg (cnum f N) (cnum (tgl f u v) N) N)) ds de (tgl f u v) u8.1 u8.2 lf od) := zD hD rfl
  have hw8 : r8 = nI (chg (cnum f N) (cnum (tgl f u v) N) N) := hw8
  refine lv_istore (lv' := [(6, .int r8), (5, .int (nI 0)), (0, .ref b), (1, .ref h), (2, .ref h2), (3, .ref o), (4, .int (nI i))]) hx hb dL_law_299 hl (by decide) rfl (fun ls hl => ?_)
  refine lv_aload_n hx hb dL_law_301 rfl (lv_at hl 4 rfl) ?_
  have hPt := hP.sub (ws' := wM h2 b0 b1 b2 b3 b4 cy (nI 0) N (cc + nI (chg (cnum f N) (cnum (tgl f u v) N) N)) ds de (tgl f u v) u8.1 u8.2 lf od) [5, 6, 7, 8, 9, 10] rfl
  refine zrV (As := []) (rest := []) 0 ⟨hx, hb, hml, hown, hts⟩ (c_X1_thrown l D cy h2 b0 b1 b2 b3 b4 (nI 0) N (cc + nI (chg (cnum f N) (cnum (tgl f u v) N) N)) ds de (tgl f u v) u8.1 u8.2 lf od) (cwV 0 hts gL_law_X1_thrown rfl rfl rfl (by decide +kernel) ⟨Nat.le_of_ble_eq_true rfl, Nat.le_of_ble_eq_true rfl⟩) (hK.sub [0] rfl) hPt rfl rfl rfl hl rfl (Nat.le_of_ble_eq_true rfl) dL_law_302 ⟨by show _ ≤ 1045; omega, by show _ ≤ 8429; omega⟩ hS (fun r7 H locs hw7 hk7 hS => ?_)
  obtain rfl : r7 = nI 0 := hw7
  have hP := zkeep hP hk7
  refine lv_iload hx hb dL_law_305 (lv_at hl 1 rfl) ?_
  refine lv_icmp_eq (tgt := 312) hx hb dL_law_307 (by decide) (fun _ => ?_) (fun q => absurd (rfl) q)
  refine lv_iload hx hb dL_law_312 (lv_at hl 1 rfl) ?_
  refine lv_if_ne (tgt := 329) hx hb dL_law_314 (by decide) (fun q => absurd rfl q) (fun _ => ?_)
  refine lv_aload_n hx hb dL_law_317 rfl (lv_at hl 5 rfl) ?_
  refine lv_iconst (v := (nI 0)) hx hb dL_law_318 (by decide) ?_
  refine z_lald0 hx hb hK hP 0 1 rfl rfl dL_law_319 ?_
  refine lv_iload hx hb dL_law_320 (lv_at hl 0 rfl) ?_
  refine lv_i2l (v := (r8).toInt64) hx hb dL_law_322 rfl ?_
  refine z_lcmp hx hb (congrArg Int32.toInt64 (hw9.1.trans hw8.symm)) dL_law_323 ?_
  refine lv_if_eq (tgt := 329) hx hb dL_law_324 (by decide) (fun _ => ?_) (fun q => absurd (by decide) q)
  refine lv_goto (tgt := 1334) hx hb dL_law_329 (by decide) ?_
  refine W.widen (k := cells + 1) (n := slots + 6) (by omega) (by omega) ?_
  exact K _ _ _ ⟨gd_tgl hg hu hv huv, _, _, _, _, _, _, _, _, _, _, _, _, hw9.2, (by rw [hec, ← ewn_cut hg hu hv huv he]; exact nI_sub1 _), hP, hD⟩ hS (lv_sub hl [2, 3, 4, 5, 6] rfl)

set_option maxHeartbeats 4000000 in
set_option maxRecDepth 100000 in
theorem lw_part_same (C : lwC p s m c b L xs) (hK : va_K D vwCl [(cy, .int), (cl, .long)] s) (hTL : zThL s) (hfl : l.stackTraces = false) {i : Nat} (hi : i + 3 ≤ L) (hg : gd f N) (hcs : csJ cs (cnum f N) N) (hec : ec = nI (ewn f N (zal N))) (hP : va_P D vwCl (wBL h a0 a1 a2 cy N ec cc f cs tr o cl g ++ wM h2 b0 b1 b2 b3 b4 cy th N cc ds de f cs2 be lf od) H) (hD : va_D (lwAd s) (wBL h a0 a1 a2 cy N ec cc f cs tr o cl g ++ wM h2 b0 b1 b2 b3 b4 cy th N cc ds de f cs2 be lf od)) (hS : va_S (lwAd s) s.heap H locs) (hl : lv_has ls 9 [(0, .ref b), (1, .ref h), (2, .ref h2), (3, .ref o), (4, .int (nI i))]) (hnc : cells + 1 ≤ 1045) (hns : slots + 6 ≤ 8429) {u : Nat} (hu : u < N) (hq1 : xs (i + 1) = (nI u)) (hq2 : xs (i + 2) = (nI u))
  (K : ∀ (H1 : Heap) (locs1 : List Loc) (ls1 : Array Slot), lwI D (lwAd s) h a0 a1 a2 cy o cl h2 b0 b1 b2 b3 b4 N f H1 → va_S (lwAd s) s.heap H1 locs1 → lv_has ls1 9 [(0, .ref b), (1, .ref h), (2, .ref h2), (3, .ref o), (4, .int (nI i))] → W p l e room_1 s m #[Value.ref b] below meth c H1 locs1 (cells + 1) (slots + 6) Q (F0 m 1334 ls1 [])) :
  W p l e room_1 s m #[Value.ref b] below meth c H locs cells slots Q (F0 m 264 ls []) := by
  obtain ⟨hx, hb, hml, hown, hts, hX, hbl, hL⟩ := C
  have hN : N ≤ 20 := hg.1
  have hA : ∀ q : Nat, s.heap.size ≤ q → lwAd s q := fun _ h => h
  have hbA : ¬ lwAd s b := Nat.not_le.mpr hbl
  refine lv_aload_n hx hb dL_law_264 rfl (lv_at hl 1 rfl) ?_
  refine lv_aload_n hx hb dL_law_265 rfl (lv_at hl 0 rfl) ?_
  refine lv_iload hx hb dL_law_266 (lv_at hl 4 rfl) ?_
  refine lv_iconst (v := (nI 1)) hx hb dL_law_268 (by decide) ?_
  refine z_iadd hx hb dL_law_269 ?_
  refine z_sld hx hb hX hbl hbA hS (j := i + 1) (by omega) hL dL_law_270 ?_
  rw [hq1]
  refine lv_aload_n hx hb dL_law_271 rfl (lv_at hl 0 rfl) ?_
  refine lv_iload hx hb dL_law_272 (lv_at hl 4 rfl) ?_
  refine lv_iconst (v := (nI 2)) hx hb dL_law_274 (by decide) ?_
  refine z_iadd hx hb dL_law_275 ?_
  refine z_sld hx hb hX hbl hbA hS (j := i + 2) (by omega) hL dL_law_276 ?_
  rw [hq2]
  refine lv_aload_n hx hb dL_law_277 rfl (lv_at hl 3 rfl) ?_
  have hPb := hP.sub (ws' := wBL h a0 a1 a2 cy N ec cc f cs tr o cl g) [0, 1, 2, 3, 4] rfl
  have hDb := hD.sub (ws' := wBL h a0 a1 a2 cy N ec cc f cs tr o cl g) [0, 1, 2, 3, 4] (by decide) rfl
  refine zjSi (X := zTh) (As := [.ref h, .int (nI u), .int (nI u), .ref o]) (rest := []) (wr := wM h2 b0 b1 b2 b3 b4 cy th N cc ds de f cs2 be lf od) [0, 1, 2, 3, 4] [5, 6, 7, 8, 9, 10] rfl rfl rfl (by decide) (by exact fun _ => rfl) ⟨hx, hb, hml, hown, hts⟩ (w_part_same l hfl D cy h a0 a1 a2 N ec cc f cs tr o cl g _ u hN hu) (vx_cwSW 4 hts gL_law_L_part rfl rfl rfl (by decide +kernel) ⟨Nat.le_of_ble_eq_true rfl, Nat.le_of_ble_eq_true rfl⟩) hK hP hPb hD hDb hA (fun U g mk a q => q.same rfl rfl) (fun U hU hW => hTL.at hS hU hW) rfl hl rfl (Nat.le_of_ble_eq_true rfl) dL_law_278 ⟨by show _ ≤ 1045; omega, by show _ ≤ 8429; omega⟩ hS (fun r9 u9 H locs hw9 hP hS => ?_)
  obtain rfl : r9 = nI 2 := hw9
  have hP : va_P D vwCl (wBL h a0 a1 a2 cy N ec cc f cs tr o cl g ++ wM h2 b0 b1 b2 b3 b4 cy th N cc ds de f cs2 be lf od) H := hP.sub [6, 7, 8, 9, 10, 0, 1, 2, 3, 4, 5] rfl
  have hD : va_D (lwAd s) (wBL h a0 a1 a2 cy N ec cc f cs tr o cl g ++ wM h2 b0 b1 b2 b3 b4 cy th N cc ds de f cs2 be lf od) := zD hD rfl
  refine lv_istore (lv' := [(5, .int (nI 2)), (0, .ref b), (1, .ref h), (2, .ref h2), (3, .ref o), (4, .int (nI i))]) hx hb dL_law_281 hl (by decide) rfl (fun ls hl => ?_)
  refine lv_aload_n hx hb dL_law_283 rfl (lv_at hl 3 rfl) ?_
  refine lv_aload_n hx hb dL_law_284 rfl (lv_at hl 1 rfl) ?_
  refine lv_iload hx hb dL_law_285 (lv_at hl 5 rfl) ?_
  refine lv_iconst (v := (nI 1)) hx hb dL_law_287 (by decide) ?_
  refine z_iadd hx hb dL_law_288 ?_
  refine z_sld hx hb hX hbl hbA hS (j := i + 1) (by omega) hL dL_law_289 ?_
  rw [hq1]
  refine lv_aload_n hx hb dL_law_290 rfl (lv_at hl 1 rfl) ?_
  refine lv_iload hx hb dL_law_291 (lv_at hl 5 rfl) ?_
  refine lv_iconst (v := (nI 2)) hx hb dL_law_293 (by decide) ?_
  refine z_iadd hx hb dL_law_294 ?_
  refine z_sld hx hb hX hbl hbA hS (j := i + 2) (by omega) hL dL_law_295 ?_
  rw [hq2]
  have hPm := hP.sub (ws' := wM h2 b0 b1 b2 b3 b4 cy th N cc ds de f cs2 be lf od) [5, 6, 7, 8, 9, 10] rfl
  have hDm := hD.sub (ws' := wM h2 b0 b1 b2 b3 b4 cy th N cc ds de f cs2 be lf od) [5, 6, 7, 8, 9, 10] (by decide) rfl
  refine zjVi (As := [.int (nI u), .int (nI u)]) (rest := []) (wr := wBL h a0 a1 a2 cy N ec cc f cs tr o cl g) 0 [5, 6, 7, 8, 9, 10] [0, 1, 2, 3, 4] rfl rfl rfl (by decide) (by exact fun _ => rfl) ⟨hx, hb, hml, hown, hts⟩ (c_X1_part_same l D cy h2 b0 b1 b2 b3 b4 th N cc ds de f cs2 be lf od _ u hN hu) (cwV 2 hts gL_law_X1_part rfl rfl rfl (by decide +kernel) ⟨Nat.le_of_ble_eq_true rfl, Nat.le_of_ble_eq_true rfl⟩) (hK.sub [0] rfl) hP hPm hD hDm hA rfl rfl rfl hl rfl (Nat.le_of_ble_eq_true rfl) dL_law_296 ⟨by show _ ≤ 1045; omega, by show _ ≤ 8429; omega⟩ hS (fun r8 u8 H locs hw8 hP hS => ?_)
  have hP : va_P D vwCl (wBL h a0 a1 a2 cy N ec cc f cs tr o cl g ++ wM h2 b0 b1 b2 b3 b4 cy (nI 2) N cc ds de f cs2 be lf od) H := hP
  have hD : va_D (lwAd s) (wBL h a0 a1 a2 cy N ec cc f cs tr o cl g ++ wM h2 b0 b1 b2 b3 b4 cy (nI 2) N cc ds de f cs2 be lf od) := zD hD rfl
  have hw8 : r8 = nI 0 := hw8
  refine lv_istore (lv' := [(6, .int r8), (5, .int (nI 2)), (0, .ref b), (1, .ref h), (2, .ref h2), (3, .ref o), (4, .int (nI i))]) hx hb dL_law_299 hl (by decide) rfl (fun ls hl => ?_)
  refine lv_aload_n hx hb dL_law_301 rfl (lv_at hl 4 rfl) ?_
  have hPt := hP.sub (ws' := wM h2 b0 b1 b2 b3 b4 cy (nI 2) N cc ds de f cs2 be lf od) [5, 6, 7, 8, 9, 10] rfl
  refine zrV (As := []) (rest := []) 0 ⟨hx, hb, hml, hown, hts⟩ (c_X1_thrown l D cy h2 b0 b1 b2 b3 b4 (nI 2) N cc ds de f cs2 be lf od) (cwV 0 hts gL_law_X1_thrown rfl rfl rfl (by decide +kernel) ⟨Nat.le_of_ble_eq_true rfl, Nat.le_of_ble_eq_true rfl⟩) (hK.sub [0] rfl) hPt rfl rfl rfl hl rfl (Nat.le_of_ble_eq_true rfl) dL_law_302 ⟨by show _ ≤ 1045; omega, by show _ ≤ 8429; omega⟩ hS (fun r7 H locs hw7 hk7 hS => ?_)
  obtain rfl : r7 = nI 2 := hw7
  have hP := zkeep hP hk7
  refine lv_iload hx hb dL_law_305 (lv_at hl 1 rfl) ?_
  refine lv_icmp_eq (tgt := 312) hx hb dL_law_307 (by decide) (fun _ => ?_) (fun q => absurd (rfl) q)
  refine lv_iload hx hb dL_law_312 (lv_at hl 1 rfl) ?_
  refine lv_if_ne (tgt := 329) hx hb dL_law_314 (by decide) (fun _ => ?_) (fun q => absurd q (by decide))
  refine lv_goto (tgt := 1334) hx hb dL_law_329 (by decide) ?_
  refine W.widen (k := cells + 1) (n := slots + 6) (by omega) (by omega) ?_
  exact K _ _ _ ⟨hg, _, _, _, _, _, _, _, _, _, _, _, _, hcs, hec, hP, hD⟩ hS (lv_sub hl [2, 3, 4, 5, 6] rfl)

set_option maxHeartbeats 4000000 in
set_option maxRecDepth 100000 in
theorem lw_part_not (C : lwC p s m c b L xs) (hK : va_K D vwCl [(cy, .int), (cl, .long)] s) (hTL : zThL s) (hfl : l.stackTraces = false) {i : Nat} (hi : i + 3 ≤ L) (hg : gd f N) (hcs : csJ cs (cnum f N) N) (hec : ec = nI (ewn f N (zal N))) (hP : va_P D vwCl (wBL h a0 a1 a2 cy N ec cc f cs tr o cl g ++ wM h2 b0 b1 b2 b3 b4 cy th N cc ds de f cs2 be lf od) H) (hD : va_D (lwAd s) (wBL h a0 a1 a2 cy N ec cc f cs tr o cl g ++ wM h2 b0 b1 b2 b3 b4 cy th N cc ds de f cs2 be lf od)) (hS : va_S (lwAd s) s.heap H locs) (hl : lv_has ls 9 [(0, .ref b), (1, .ref h), (2, .ref h2), (3, .ref o), (4, .int (nI i))]) (hnc : cells + 1 ≤ 1045) (hns : slots + 6 ≤ 8429) {u v : Nat} (hu : u < N) (hv : v < N) (huv : u ≠ v) (he : bt (f u) v = false) (hq1 : xs (i + 1) = (nI u)) (hq2 : xs (i + 2) = (nI v))
  (K : ∀ (H1 : Heap) (locs1 : List Loc) (ls1 : Array Slot), lwI D (lwAd s) h a0 a1 a2 cy o cl h2 b0 b1 b2 b3 b4 N f H1 → va_S (lwAd s) s.heap H1 locs1 → lv_has ls1 9 [(0, .ref b), (1, .ref h), (2, .ref h2), (3, .ref o), (4, .int (nI i))] → W p l e room_1 s m #[Value.ref b] below meth c H1 locs1 (cells + 1) (slots + 6) Q (F0 m 1334 ls1 [])) :
  W p l e room_1 s m #[Value.ref b] below meth c H locs cells slots Q (F0 m 264 ls []) := by
  obtain ⟨hx, hb, hml, hown, hts, hX, hbl, hL⟩ := C
  have hN : N ≤ 20 := hg.1
  have hA : ∀ q : Nat, s.heap.size ≤ q → lwAd s q := fun _ h => h
  have hbA : ¬ lwAd s b := Nat.not_le.mpr hbl
  refine lv_aload_n hx hb dL_law_264 rfl (lv_at hl 1 rfl) ?_
  refine lv_aload_n hx hb dL_law_265 rfl (lv_at hl 0 rfl) ?_
  refine lv_iload hx hb dL_law_266 (lv_at hl 4 rfl) ?_
  refine lv_iconst (v := (nI 1)) hx hb dL_law_268 (by decide) ?_
  refine z_iadd hx hb dL_law_269 ?_
  refine z_sld hx hb hX hbl hbA hS (j := i + 1) (by omega) hL dL_law_270 ?_
  rw [hq1]
  refine lv_aload_n hx hb dL_law_271 rfl (lv_at hl 0 rfl) ?_
  refine lv_iload hx hb dL_law_272 (lv_at hl 4 rfl) ?_
  refine lv_iconst (v := (nI 2)) hx hb dL_law_274 (by decide) ?_
  refine z_iadd hx hb dL_law_275 ?_
  refine z_sld hx hb hX hbl hbA hS (j := i + 2) (by omega) hL dL_law_276 ?_
  rw [hq2]
  refine lv_aload_n hx hb dL_law_277 rfl (lv_at hl 3 rfl) ?_
  have hPb := hP.sub (ws' := wBL h a0 a1 a2 cy N ec cc f cs tr o cl g) [0, 1, 2, 3, 4] rfl
  have hDb := hD.sub (ws' := wBL h a0 a1 a2 cy N ec cc f cs tr o cl g) [0, 1, 2, 3, 4] (by decide) rfl
  refine zjSi (X := zTh) (As := [.ref h, .int (nI u), .int (nI v), .ref o]) (rest := []) (wr := wM h2 b0 b1 b2 b3 b4 cy th N cc ds de f cs2 be lf od) [0, 1, 2, 3, 4] [5, 6, 7, 8, 9, 10] rfl rfl rfl (by decide) (by exact fun _ => rfl) ⟨hx, hb, hml, hown, hts⟩ (w_part_not l hfl D cy h a0 a1 a2 N ec cc f cs tr o cl g _ u v hN hu hv huv he) (vx_cwSW 4 hts gL_law_L_part rfl rfl rfl (by decide +kernel) ⟨Nat.le_of_ble_eq_true rfl, Nat.le_of_ble_eq_true rfl⟩) hK hP hPb hD hDb hA (fun U g mk a q => q.same rfl rfl) (fun U hU hW => hTL.at hS hU hW) rfl hl rfl (Nat.le_of_ble_eq_true rfl) dL_law_278 ⟨by show _ ≤ 1045; omega, by show _ ≤ 8429; omega⟩ hS (fun r9 u9 H locs hw9 hP hS => ?_)
  obtain rfl : r9 = nI 3 := hw9
  have hP : va_P D vwCl (wBL h a0 a1 a2 cy N ec cc f cs tr o cl g ++ wM h2 b0 b1 b2 b3 b4 cy th N cc ds de f cs2 be lf od) H := hP.sub [6, 7, 8, 9, 10, 0, 1, 2, 3, 4, 5] rfl
  have hD : va_D (lwAd s) (wBL h a0 a1 a2 cy N ec cc f cs tr o cl g ++ wM h2 b0 b1 b2 b3 b4 cy th N cc ds de f cs2 be lf od) := zD hD rfl
  refine lv_istore (lv' := [(5, .int (nI 3)), (0, .ref b), (1, .ref h), (2, .ref h2), (3, .ref o), (4, .int (nI i))]) hx hb dL_law_281 hl (by decide) rfl (fun ls hl => ?_)
  refine lv_aload_n hx hb dL_law_283 rfl (lv_at hl 3 rfl) ?_
  refine lv_aload_n hx hb dL_law_284 rfl (lv_at hl 1 rfl) ?_
  refine lv_iload hx hb dL_law_285 (lv_at hl 5 rfl) ?_
  refine lv_iconst (v := (nI 1)) hx hb dL_law_287 (by decide) ?_
  refine z_iadd hx hb dL_law_288 ?_
  refine z_sld hx hb hX hbl hbA hS (j := i + 1) (by omega) hL dL_law_289 ?_
  rw [hq1]
  refine lv_aload_n hx hb dL_law_290 rfl (lv_at hl 1 rfl) ?_
  refine lv_iload hx hb dL_law_291 (lv_at hl 5 rfl) ?_
  refine lv_iconst (v := (nI 2)) hx hb dL_law_293 (by decide) ?_
  refine z_iadd hx hb dL_law_294 ?_
  refine z_sld hx hb hX hbl hbA hS (j := i + 2) (by omega) hL dL_law_295 ?_
  rw [hq2]
  have hPm := hP.sub (ws' := wM h2 b0 b1 b2 b3 b4 cy th N cc ds de f cs2 be lf od) [5, 6, 7, 8, 9, 10] rfl
  have hDm := hD.sub (ws' := wM h2 b0 b1 b2 b3 b4 cy th N cc ds de f cs2 be lf od) [5, 6, 7, 8, 9, 10] (by decide) rfl
  refine zjVi (As := [.int (nI u), .int (nI v)]) (rest := []) (wr := wBL h a0 a1 a2 cy N ec cc f cs tr o cl g) 0 [5, 6, 7, 8, 9, 10] [0, 1, 2, 3, 4] rfl rfl rfl (by decide) (by exact fun _ => rfl) ⟨hx, hb, hml, hown, hts⟩ (c_X1_part_not l D cy h2 b0 b1 b2 b3 b4 th N cc ds de f cs2 be lf od _ u v hN hu hv huv he) (cwV 2 hts gL_law_X1_part rfl rfl rfl (by decide +kernel) ⟨Nat.le_of_ble_eq_true rfl, Nat.le_of_ble_eq_true rfl⟩) (hK.sub [0] rfl) hP hPm hD hDm hA rfl rfl rfl hl rfl (Nat.le_of_ble_eq_true rfl) dL_law_296 ⟨by show _ ≤ 1045; omega, by show _ ≤ 8429; omega⟩ hS (fun r8 u8 H locs hw8 hP hS => ?_)
  have hP : va_P D vwCl (wBL h a0 a1 a2 cy N ec cc f cs tr o cl g ++ wM h2 b0 b1 b2 b3 b4 cy (nI 3) N cc ds de f cs2 be lf od) H := hP
  have hD : va_D (lwAd s) (wBL h a0 a1 a2 cy N ec cc f cs tr o cl g ++ wM h2 b0 b1 b2 b3 b4 cy (nI 3) N cc ds de f cs2 be lf od) := zD hD rfl
  have hw8 : r8 = nI 0 := hw8
  refine lv_istore (lv' := [(6, .int r8), (5, .int (nI 3)), (0, .ref b), (1, .ref h), (2, .ref h2), (3, .ref o), (4, .int (nI i))]) hx hb dL_law_299 hl (by decide) rfl (fun ls hl => ?_)
  refine lv_aload_n hx hb dL_law_301 rfl (lv_at hl 4 rfl) ?_
  have hPt := hP.sub (ws' := wM h2 b0 b1 b2 b3 b4 cy (nI 3) N cc ds de f cs2 be lf od) [5, 6, 7, 8, 9, 10] rfl
  refine zrV (As := []) (rest := []) 0 ⟨hx, hb, hml, hown, hts⟩ (c_X1_thrown l D cy h2 b0 b1 b2 b3 b4 (nI 3) N cc ds de f cs2 be lf od) (cwV 0 hts gL_law_X1_thrown rfl rfl rfl (by decide +kernel) ⟨Nat.le_of_ble_eq_true rfl, Nat.le_of_ble_eq_true rfl⟩) (hK.sub [0] rfl) hPt rfl rfl rfl hl rfl (Nat.le_of_ble_eq_true rfl) dL_law_302 ⟨by show _ ≤ 1045; omega, by show _ ≤ 8429; omega⟩ hS (fun r7 H locs hw7 hk7 hS => ?_)
  obtain rfl : r7 = nI 3 := hw7
  have hP := zkeep hP hk7
  refine lv_iload hx hb dL_law_305 (lv_at hl 1 rfl) ?_
  refine lv_icmp_eq (tgt := 312) hx hb dL_law_307 (by decide) (fun _ => ?_) (fun q => absurd (rfl) q)
  refine lv_iload hx hb dL_law_312 (lv_at hl 1 rfl) ?_
  refine lv_if_ne (tgt := 329) hx hb dL_law_314 (by decide) (fun _ => ?_) (fun q => absurd q (by decide))
  refine lv_goto (tgt := 1334) hx hb dL_law_329 (by decide) ?_
  refine W.widen (k := cells + 1) (n := slots + 6) (by omega) (by omega) ?_
  exact K _ _ _ ⟨hg, _, _, _, _, _, _, _, _, _, _, _, _, hcs, hec, hP, hD⟩ hS (lv_sub hl [2, 3, 4, 5, 6] rfl)

set_option maxHeartbeats 4000000 in
set_option maxRecDepth 100000 in
theorem lw_part_bad1 (C : lwC p s m c b L xs) (hK : va_K D vwCl [(cy, .int), (cl, .long)] s) (hTL : zThL s) (hfl : l.stackTraces = false) {i : Nat} (hi : i + 3 ≤ L) (hg : gd f N) (hcs : csJ cs (cnum f N) N) (hec : ec = nI (ewn f N (zal N))) (hP : va_P D vwCl (wBL h a0 a1 a2 cy N ec cc f cs tr o cl g ++ wM h2 b0 b1 b2 b3 b4 cy th N cc ds de f cs2 be lf od) H) (hD : va_D (lwAd s) (wBL h a0 a1 a2 cy N ec cc f cs tr o cl g ++ wM h2 b0 b1 b2 b3 b4 cy th N cc ds de f cs2 be lf od)) (hS : va_S (lwAd s) s.heap H locs) (hl : lv_has ls 9 [(0, .ref b), (1, .ref h), (2, .ref h2), (3, .ref o), (4, .int (nI i))]) (hnc : cells + 1 ≤ 1045) (hns : slots + 6 ≤ 8429) {q1 q2 : Int32} (hq : isNb q1 N = false) (hq1 : xs (i + 1) = q1) (hq2 : xs (i + 2) = q2)
  (K : ∀ (H1 : Heap) (locs1 : List Loc) (ls1 : Array Slot), lwI D (lwAd s) h a0 a1 a2 cy o cl h2 b0 b1 b2 b3 b4 N f H1 → va_S (lwAd s) s.heap H1 locs1 → lv_has ls1 9 [(0, .ref b), (1, .ref h), (2, .ref h2), (3, .ref o), (4, .int (nI i))] → W p l e room_1 s m #[Value.ref b] below meth c H1 locs1 (cells + 1) (slots + 6) Q (F0 m 1334 ls1 [])) :
  W p l e room_1 s m #[Value.ref b] below meth c H locs cells slots Q (F0 m 264 ls []) := by
  obtain ⟨hx, hb, hml, hown, hts, hX, hbl, hL⟩ := C
  have hN : N ≤ 20 := hg.1
  have hA : ∀ q : Nat, s.heap.size ≤ q → lwAd s q := fun _ h => h
  have hbA : ¬ lwAd s b := Nat.not_le.mpr hbl
  refine lv_aload_n hx hb dL_law_264 rfl (lv_at hl 1 rfl) ?_
  refine lv_aload_n hx hb dL_law_265 rfl (lv_at hl 0 rfl) ?_
  refine lv_iload hx hb dL_law_266 (lv_at hl 4 rfl) ?_
  refine lv_iconst (v := (nI 1)) hx hb dL_law_268 (by decide) ?_
  refine z_iadd hx hb dL_law_269 ?_
  refine z_sld hx hb hX hbl hbA hS (j := i + 1) (by omega) hL dL_law_270 ?_
  rw [hq1]
  refine lv_aload_n hx hb dL_law_271 rfl (lv_at hl 0 rfl) ?_
  refine lv_iload hx hb dL_law_272 (lv_at hl 4 rfl) ?_
  refine lv_iconst (v := (nI 2)) hx hb dL_law_274 (by decide) ?_
  refine z_iadd hx hb dL_law_275 ?_
  refine z_sld hx hb hX hbl hbA hS (j := i + 2) (by omega) hL dL_law_276 ?_
  rw [hq2]
  refine lv_aload_n hx hb dL_law_277 rfl (lv_at hl 3 rfl) ?_
  have hPb := hP.sub (ws' := wBL h a0 a1 a2 cy N ec cc f cs tr o cl g) [0, 1, 2, 3, 4] rfl
  have hDb := hD.sub (ws' := wBL h a0 a1 a2 cy N ec cc f cs tr o cl g) [0, 1, 2, 3, 4] (by decide) rfl
  refine zjSi (X := zTh) (As := [.ref h, .int q1, .int q2, .ref o]) (rest := []) (wr := wM h2 b0 b1 b2 b3 b4 cy th N cc ds de f cs2 be lf od) [0, 1, 2, 3, 4] [5, 6, 7, 8, 9, 10] rfl rfl rfl (by decide) (by exact fun _ => rfl) ⟨hx, hb, hml, hown, hts⟩ (w_part_bad1 l hfl D cy h a0 a1 a2 N ec cc f cs tr o cl g _ q1 q2 hq) (vx_cwSW 4 hts gL_law_L_part rfl rfl rfl (by decide +kernel) ⟨Nat.le_of_ble_eq_true rfl, Nat.le_of_ble_eq_true rfl⟩) hK hP hPb hD hDb hA (fun U g mk a q => q.same rfl rfl) (fun U hU hW => hTL.at hS hU hW) rfl hl rfl (Nat.le_of_ble_eq_true rfl) dL_law_278 ⟨by show _ ≤ 1045; omega, by show _ ≤ 8429; omega⟩ hS (fun r9 u9 H locs hw9 hP hS => ?_)
  obtain rfl : r9 = nI 1 := hw9
  have hP : va_P D vwCl (wBL h a0 a1 a2 cy N ec cc f cs tr o cl g ++ wM h2 b0 b1 b2 b3 b4 cy th N cc ds de f cs2 be lf od) H := hP.sub [6, 7, 8, 9, 10, 0, 1, 2, 3, 4, 5] rfl
  have hD : va_D (lwAd s) (wBL h a0 a1 a2 cy N ec cc f cs tr o cl g ++ wM h2 b0 b1 b2 b3 b4 cy th N cc ds de f cs2 be lf od) := zD hD rfl
  refine lv_istore (lv' := [(5, .int (nI 1)), (0, .ref b), (1, .ref h), (2, .ref h2), (3, .ref o), (4, .int (nI i))]) hx hb dL_law_281 hl (by decide) rfl (fun ls hl => ?_)
  refine lv_aload_n hx hb dL_law_283 rfl (lv_at hl 3 rfl) ?_
  refine lv_aload_n hx hb dL_law_284 rfl (lv_at hl 1 rfl) ?_
  refine lv_iload hx hb dL_law_285 (lv_at hl 5 rfl) ?_
  refine lv_iconst (v := (nI 1)) hx hb dL_law_287 (by decide) ?_
  refine z_iadd hx hb dL_law_288 ?_
  refine z_sld hx hb hX hbl hbA hS (j := i + 1) (by omega) hL dL_law_289 ?_
  rw [hq1]
  refine lv_aload_n hx hb dL_law_290 rfl (lv_at hl 1 rfl) ?_
  refine lv_iload hx hb dL_law_291 (lv_at hl 5 rfl) ?_
  refine lv_iconst (v := (nI 2)) hx hb dL_law_293 (by decide) ?_
  refine z_iadd hx hb dL_law_294 ?_
  refine z_sld hx hb hX hbl hbA hS (j := i + 2) (by omega) hL dL_law_295 ?_
  rw [hq2]
  have hPm := hP.sub (ws' := wM h2 b0 b1 b2 b3 b4 cy th N cc ds de f cs2 be lf od) [5, 6, 7, 8, 9, 10] rfl
  have hDm := hD.sub (ws' := wM h2 b0 b1 b2 b3 b4 cy th N cc ds de f cs2 be lf od) [5, 6, 7, 8, 9, 10] (by decide) rfl
  refine zjVi (As := [.int q1, .int q2]) (rest := []) (wr := wBL h a0 a1 a2 cy N ec cc f cs tr o cl g) 0 [5, 6, 7, 8, 9, 10] [0, 1, 2, 3, 4] rfl rfl rfl (by decide) (by exact fun _ => rfl) ⟨hx, hb, hml, hown, hts⟩ (c_X1_part_bad l D cy h2 b0 b1 b2 b3 b4 th N cc ds de f cs2 be lf od _ q1 q2 (by rw [hq]; rfl)) (cwV 2 hts gL_law_X1_part rfl rfl rfl (by decide +kernel) ⟨Nat.le_of_ble_eq_true rfl, Nat.le_of_ble_eq_true rfl⟩) (hK.sub [0] rfl) hP hPm hD hDm hA rfl rfl rfl hl rfl (Nat.le_of_ble_eq_true rfl) dL_law_296 ⟨by show _ ≤ 1045; omega, by show _ ≤ 8429; omega⟩ hS (fun r8 u8 H locs hw8 hP hS => ?_)
  have hP : va_P D vwCl (wBL h a0 a1 a2 cy N ec cc f cs tr o cl g ++ wM h2 b0 b1 b2 b3 b4 cy (nI 1) N cc ds de f cs2 be lf od) H := hP
  have hD : va_D (lwAd s) (wBL h a0 a1 a2 cy N ec cc f cs tr o cl g ++ wM h2 b0 b1 b2 b3 b4 cy (nI 1) N cc ds de f cs2 be lf od) := zD hD rfl
  have hw8 : r8 = nI 0 := hw8
  refine lv_istore (lv' := [(6, .int r8), (5, .int (nI 1)), (0, .ref b), (1, .ref h), (2, .ref h2), (3, .ref o), (4, .int (nI i))]) hx hb dL_law_299 hl (by decide) rfl (fun ls hl => ?_)
  refine lv_aload_n hx hb dL_law_301 rfl (lv_at hl 4 rfl) ?_
  have hPt := hP.sub (ws' := wM h2 b0 b1 b2 b3 b4 cy (nI 1) N cc ds de f cs2 be lf od) [5, 6, 7, 8, 9, 10] rfl
  refine zrV (As := []) (rest := []) 0 ⟨hx, hb, hml, hown, hts⟩ (c_X1_thrown l D cy h2 b0 b1 b2 b3 b4 (nI 1) N cc ds de f cs2 be lf od) (cwV 0 hts gL_law_X1_thrown rfl rfl rfl (by decide +kernel) ⟨Nat.le_of_ble_eq_true rfl, Nat.le_of_ble_eq_true rfl⟩) (hK.sub [0] rfl) hPt rfl rfl rfl hl rfl (Nat.le_of_ble_eq_true rfl) dL_law_302 ⟨by show _ ≤ 1045; omega, by show _ ≤ 8429; omega⟩ hS (fun r7 H locs hw7 hk7 hS => ?_)
  obtain rfl : r7 = nI 1 := hw7
  have hP := zkeep hP hk7
  refine lv_iload hx hb dL_law_305 (lv_at hl 1 rfl) ?_
  refine lv_icmp_eq (tgt := 312) hx hb dL_law_307 (by decide) (fun _ => ?_) (fun q => absurd (rfl) q)
  refine lv_iload hx hb dL_law_312 (lv_at hl 1 rfl) ?_
  refine lv_if_ne (tgt := 329) hx hb dL_law_314 (by decide) (fun _ => ?_) (fun q => absurd q (by decide))
  refine lv_goto (tgt := 1334) hx hb dL_law_329 (by decide) ?_
  refine W.widen (k := cells + 1) (n := slots + 6) (by omega) (by omega) ?_
  exact K _ _ _ ⟨hg, _, _, _, _, _, _, _, _, _, _, _, _, hcs, hec, hP, hD⟩ hS (lv_sub hl [2, 3, 4, 5, 6] rfl)

set_option maxHeartbeats 4000000 in
set_option maxRecDepth 100000 in
theorem lw_part_bad2 (C : lwC p s m c b L xs) (hK : va_K D vwCl [(cy, .int), (cl, .long)] s) (hTL : zThL s) (hfl : l.stackTraces = false) {i : Nat} (hi : i + 3 ≤ L) (hg : gd f N) (hcs : csJ cs (cnum f N) N) (hec : ec = nI (ewn f N (zal N))) (hP : va_P D vwCl (wBL h a0 a1 a2 cy N ec cc f cs tr o cl g ++ wM h2 b0 b1 b2 b3 b4 cy th N cc ds de f cs2 be lf od) H) (hD : va_D (lwAd s) (wBL h a0 a1 a2 cy N ec cc f cs tr o cl g ++ wM h2 b0 b1 b2 b3 b4 cy th N cc ds de f cs2 be lf od)) (hS : va_S (lwAd s) s.heap H locs) (hl : lv_has ls 9 [(0, .ref b), (1, .ref h), (2, .ref h2), (3, .ref o), (4, .int (nI i))]) (hnc : cells + 1 ≤ 1045) (hns : slots + 6 ≤ 8429) {u : Nat} {q2 : Int32} (hu : u < N) (hq : isNb q2 N = false) (hq1 : xs (i + 1) = (nI u)) (hq2 : xs (i + 2) = q2)
  (K : ∀ (H1 : Heap) (locs1 : List Loc) (ls1 : Array Slot), lwI D (lwAd s) h a0 a1 a2 cy o cl h2 b0 b1 b2 b3 b4 N f H1 → va_S (lwAd s) s.heap H1 locs1 → lv_has ls1 9 [(0, .ref b), (1, .ref h), (2, .ref h2), (3, .ref o), (4, .int (nI i))] → W p l e room_1 s m #[Value.ref b] below meth c H1 locs1 (cells + 1) (slots + 6) Q (F0 m 1334 ls1 [])) :
  W p l e room_1 s m #[Value.ref b] below meth c H locs cells slots Q (F0 m 264 ls []) := by
  obtain ⟨hx, hb, hml, hown, hts, hX, hbl, hL⟩ := C
  have hN : N ≤ 20 := hg.1
  have hA : ∀ q : Nat, s.heap.size ≤ q → lwAd s q := fun _ h => h
  have hbA : ¬ lwAd s b := Nat.not_le.mpr hbl
  refine lv_aload_n hx hb dL_law_264 rfl (lv_at hl 1 rfl) ?_
  refine lv_aload_n hx hb dL_law_265 rfl (lv_at hl 0 rfl) ?_
  refine lv_iload hx hb dL_law_266 (lv_at hl 4 rfl) ?_
  refine lv_iconst (v := (nI 1)) hx hb dL_law_268 (by decide) ?_
  refine z_iadd hx hb dL_law_269 ?_
  refine z_sld hx hb hX hbl hbA hS (j := i + 1) (by omega) hL dL_law_270 ?_
  rw [hq1]
  refine lv_aload_n hx hb dL_law_271 rfl (lv_at hl 0 rfl) ?_
  refine lv_iload hx hb dL_law_272 (lv_at hl 4 rfl) ?_
  refine lv_iconst (v := (nI 2)) hx hb dL_law_274 (by decide) ?_
  refine z_iadd hx hb dL_law_275 ?_
  refine z_sld hx hb hX hbl hbA hS (j := i + 2) (by omega) hL dL_law_276 ?_
  rw [hq2]
  refine lv_aload_n hx hb dL_law_277 rfl (lv_at hl 3 rfl) ?_
  have hPb := hP.sub (ws' := wBL h a0 a1 a2 cy N ec cc f cs tr o cl g) [0, 1, 2, 3, 4] rfl
  have hDb := hD.sub (ws' := wBL h a0 a1 a2 cy N ec cc f cs tr o cl g) [0, 1, 2, 3, 4] (by decide) rfl
  refine zjSi (X := zTh) (As := [.ref h, .int (nI u), .int q2, .ref o]) (rest := []) (wr := wM h2 b0 b1 b2 b3 b4 cy th N cc ds de f cs2 be lf od) [0, 1, 2, 3, 4] [5, 6, 7, 8, 9, 10] rfl rfl rfl (by decide) (by exact fun _ => rfl) ⟨hx, hb, hml, hown, hts⟩ (w_part_bad2 l hfl D cy h a0 a1 a2 N ec cc f cs tr o cl g _ u q2 hN hu hq) (vx_cwSW 4 hts gL_law_L_part rfl rfl rfl (by decide +kernel) ⟨Nat.le_of_ble_eq_true rfl, Nat.le_of_ble_eq_true rfl⟩) hK hP hPb hD hDb hA (fun U g mk a q => q.same rfl rfl) (fun U hU hW => hTL.at hS hU hW) rfl hl rfl (Nat.le_of_ble_eq_true rfl) dL_law_278 ⟨by show _ ≤ 1045; omega, by show _ ≤ 8429; omega⟩ hS (fun r9 u9 H locs hw9 hP hS => ?_)
  obtain rfl : r9 = nI 1 := hw9
  have hP : va_P D vwCl (wBL h a0 a1 a2 cy N ec cc f cs tr o cl g ++ wM h2 b0 b1 b2 b3 b4 cy th N cc ds de f cs2 be lf od) H := hP.sub [6, 7, 8, 9, 10, 0, 1, 2, 3, 4, 5] rfl
  have hD : va_D (lwAd s) (wBL h a0 a1 a2 cy N ec cc f cs tr o cl g ++ wM h2 b0 b1 b2 b3 b4 cy th N cc ds de f cs2 be lf od) := zD hD rfl
  refine lv_istore (lv' := [(5, .int (nI 1)), (0, .ref b), (1, .ref h), (2, .ref h2), (3, .ref o), (4, .int (nI i))]) hx hb dL_law_281 hl (by decide) rfl (fun ls hl => ?_)
  refine lv_aload_n hx hb dL_law_283 rfl (lv_at hl 3 rfl) ?_
  refine lv_aload_n hx hb dL_law_284 rfl (lv_at hl 1 rfl) ?_
  refine lv_iload hx hb dL_law_285 (lv_at hl 5 rfl) ?_
  refine lv_iconst (v := (nI 1)) hx hb dL_law_287 (by decide) ?_
  refine z_iadd hx hb dL_law_288 ?_
  refine z_sld hx hb hX hbl hbA hS (j := i + 1) (by omega) hL dL_law_289 ?_
  rw [hq1]
  refine lv_aload_n hx hb dL_law_290 rfl (lv_at hl 1 rfl) ?_
  refine lv_iload hx hb dL_law_291 (lv_at hl 5 rfl) ?_
  refine lv_iconst (v := (nI 2)) hx hb dL_law_293 (by decide) ?_
  refine z_iadd hx hb dL_law_294 ?_
  refine z_sld hx hb hX hbl hbA hS (j := i + 2) (by omega) hL dL_law_295 ?_
  rw [hq2]
  have hPm := hP.sub (ws' := wM h2 b0 b1 b2 b3 b4 cy th N cc ds de f cs2 be lf od) [5, 6, 7, 8, 9, 10] rfl
  have hDm := hD.sub (ws' := wM h2 b0 b1 b2 b3 b4 cy th N cc ds de f cs2 be lf od) [5, 6, 7, 8, 9, 10] (by decide) rfl
  refine zjVi (As := [.int (nI u), .int q2]) (rest := []) (wr := wBL h a0 a1 a2 cy N ec cc f cs tr o cl g) 0 [5, 6, 7, 8, 9, 10] [0, 1, 2, 3, 4] rfl rfl rfl (by decide) (by exact fun _ => rfl) ⟨hx, hb, hml, hown, hts⟩ (c_X1_part_bad l D cy h2 b0 b1 b2 b3 b4 th N cc ds de f cs2 be lf od _ (nI u) q2 (by rw [hq]; exact Bool.and_false _)) (cwV 2 hts gL_law_X1_part rfl rfl rfl (by decide +kernel) ⟨Nat.le_of_ble_eq_true rfl, Nat.le_of_ble_eq_true rfl⟩) (hK.sub [0] rfl) hP hPm hD hDm hA rfl rfl rfl hl rfl (Nat.le_of_ble_eq_true rfl) dL_law_296 ⟨by show _ ≤ 1045; omega, by show _ ≤ 8429; omega⟩ hS (fun r8 u8 H locs hw8 hP hS => ?_)
  have hP : va_P D vwCl (wBL h a0 a1 a2 cy N ec cc f cs tr o cl g ++ wM h2 b0 b1 b2 b3 b4 cy (nI 1) N cc ds de f cs2 be lf od) H := hP
  have hD : va_D (lwAd s) (wBL h a0 a1 a2 cy N ec cc f cs tr o cl g ++ wM h2 b0 b1 b2 b3 b4 cy (nI 1) N cc ds de f cs2 be lf od) := zD hD rfl
  have hw8 : r8 = nI 0 := hw8
  refine lv_istore (lv' := [(6, .int r8), (5, .int (nI 1)), (0, .ref b), (1, .ref h), (2, .ref h2), (3, .ref o), (4, .int (nI i))]) hx hb dL_law_299 hl (by decide) rfl (fun ls hl => ?_)
  refine lv_aload_n hx hb dL_law_301 rfl (lv_at hl 4 rfl) ?_
  have hPt := hP.sub (ws' := wM h2 b0 b1 b2 b3 b4 cy (nI 1) N cc ds de f cs2 be lf od) [5, 6, 7, 8, 9, 10] rfl
  refine zrV (As := []) (rest := []) 0 ⟨hx, hb, hml, hown, hts⟩ (c_X1_thrown l D cy h2 b0 b1 b2 b3 b4 (nI 1) N cc ds de f cs2 be lf od) (cwV 0 hts gL_law_X1_thrown rfl rfl rfl (by decide +kernel) ⟨Nat.le_of_ble_eq_true rfl, Nat.le_of_ble_eq_true rfl⟩) (hK.sub [0] rfl) hPt rfl rfl rfl hl rfl (Nat.le_of_ble_eq_true rfl) dL_law_302 ⟨by show _ ≤ 1045; omega, by show _ ≤ 8429; omega⟩ hS (fun r7 H locs hw7 hk7 hS => ?_)
  obtain rfl : r7 = nI 1 := hw7
  have hP := zkeep hP hk7
  refine lv_iload hx hb dL_law_305 (lv_at hl 1 rfl) ?_
  refine lv_icmp_eq (tgt := 312) hx hb dL_law_307 (by decide) (fun _ => ?_) (fun q => absurd (rfl) q)
  refine lv_iload hx hb dL_law_312 (lv_at hl 1 rfl) ?_
  refine lv_if_ne (tgt := 329) hx hb dL_law_314 (by decide) (fun _ => ?_) (fun q => absurd q (by decide))
  refine lv_goto (tgt := 1334) hx hb dL_law_329 (by decide) ?_
  refine W.widen (k := cells + 1) (n := slots + 6) (by omega) (by omega) ?_
  exact K _ _ _ ⟨hg, _, _, _, _, _, _, _, _, _, _, _, _, hcs, hec, hP, hD⟩ hS (lv_sub hl [2, 3, 4, 5, 6] rfl)

end ZLO0
