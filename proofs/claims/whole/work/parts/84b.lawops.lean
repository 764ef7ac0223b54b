/-! ===== the cases of the law ===== -/
section ZLO1
variable {p : Program} {l : Launch} {e : Env} {s : State} {m : MethodId} {below : List Frame} {meth : Method} {c : Code} {H : Heap} {locs : List Loc} {cells slots : Nat} {Q : State → Prop} {ls : Array Slot} {b L : Nat} {xs : Nat → Int32}
variable {D : va_G} {cy cl : ClassId} {h a0 a1 a2 o h2 b0 b1 b2 b3 b4 N : Nat} {ec cc th ds de : Int32} {f cs tr cs2 be lf od : Nat → Int32} {g : Nat → Int64}

set_option maxHeartbeats 4000000 in
set_option maxRecDepth 100000 in
theorem lw_isolate_ok (C : lwC p s m c b L xs) (hK : va_K D vwCl [(cy, .int), (cl, .long)] s) (hTL : zThL s) (hfl : l.stackTraces = false) {i : Nat} (hi : i + 3 ≤ L) (hg : gd f N) (hcs : csJ cs (cnum f N) N) (hec : ec = nI (ewn f N (zal N))) (hP : va_P D vwCl (wBL h a0 a1 a2 cy N ec cc f cs tr o cl g ++ wM h2 b0 b1 b2 b3 b4 cy th N cc ds de f cs2 be lf od) H) (hD : va_D (lwAd s) (wBL h a0 a1 a2 cy N ec cc f cs tr o cl g ++ wM h2 b0 b1 b2 b3 b4 cy th N cc ds de f cs2 be lf od)) (hS : va_S (lwAd s) s.heap H locs) (hl : lv_has ls 9 [(0, .ref b), (1, .ref h), (2, .ref h2), (3, .ref o), (4, .int (nI i))]) (hnc : cells + 1 ≤ 1045) (hns : slots + 6 ≤ 8429) {u : Nat} (hu : u < N) (hq1 : xs (i + 1) = (nI u))
  (K : ∀ (H1 : Heap) (locs1 : List Loc) (ls1 : Array Slot), lwI D (lwAd s) h a0 a1 a2 cy o cl h2 b0 b1 b2 b3 b4 N (iso f u N) H1 → va_S (lwAd s) s.heap H1 locs1 → lv_has ls1 9 [(0, .ref b), (1, .ref h), (2, .ref h2), (3, .ref o), (4, .int (nI i))] → W p l e room_1 s m #[Value.ref b] below meth c H1 locs1 (cells + 1) (slots + 6) Q (F0 m 1334 ls1 [])) :
  W p l e room_1 s m #[Value.ref b] below meth c H locs cells slots Q (F0 m 332 ls []) := by
  obtain ⟨hx, hb, hml, hown, hts, hX, hbl, hL⟩ := C
  have hN : N ≤ 20 := hg.1
  have hA : ∀ q : Nat, s.heap.size ≤ q → lwAd s q := fun _ h => h
  have hbA : ¬ lwAd s b := Nat.not_le.mpr hbl
  refine lv_aload_n hx hb dL_law_332 rfl (lv_at hl 1 rfl) ?_
  refine lv_aload_n hx hb dL_law_333 rfl (lv_at hl 0 rfl) ?_
  refine lv_iload hx hb dL_law_334 (lv_at hl 4 rfl) ?_
  refine lv_iconst (v := (nI 1)) hx hb dL_law_336 (by decide) ?_
  refine z_iadd hx hb dL_law_337 ?_
  refine z_sld hx hb hX hbl hbA hS (j := i + 1) (by omega) hL dL_law_338 ?_
  rw [hq1]
  refine lv_aload_n hx hb dL_law_339 rfl (lv_at hl 3 rfl) ?_
  have hPb := hP.sub (ws' := wBL h a0 a1 a2 cy N ec cc f cs tr o cl g) [0, 1, 2, 3, 4] rfl
  have hDb := hD.sub (ws' := wBL h a0 a1 a2 cy N ec cc f cs tr o cl g) [0, 1, 2, 3, 4] (by decide) rfl
  refine zjSi (X := (fun _ => True)) (As := [.ref h, .int (nI u), .ref o]) (rest := []) (wr := wM h2 b0 b1 b2 b3 b4 cy th N cc ds de f cs2 be lf od) [0, 1, 2, 3, 4] [5, 6, 7, 8, 9, 10] rfl rfl rfl (by decide) (by exact fun _ => rfl) ⟨hx, hb, hml, hown, hts⟩ (w_isolate_ok l D cy h a0 a1 a2 N ec cc f cs tr o cl g _ u hg hu hcs hec) (vx_cwSW 3 hts gL_law_L_isolate rfl rfl rfl (by decide +kernel) ⟨Nat.le_of_ble_eq_true rfl, Nat.le_of_ble_eq_true rfl⟩) hK hP hPb hD hDb hA (fun _ _ _ _ _ => trivial) (fun _ _ _ => trivial) rfl hl rfl (Nat.le_of_ble_eq_true rfl) dL_law_340 ⟨by show _ ≤ 1045; omega, by show _ ≤ 8429; omega⟩ hS (fun r9 u9 H locs hw9 hP hS => ?_)
  obtain ⟨rfl, hw9⟩ := hw9
  have hw9 : u9.1 = nI (ise f u N) ∧ csJ u9.2 (cnum (iso f u N) N) N := hw9
  have hP : va_P D vwCl (wBL h a0 a1 a2 cy N (nI (ewn (iso f u N) N (zal N))) (cc + nI (isc f u N (fun j => cnum (iso f u j) N) N)) (iso f u N) u9.2 tr o cl (vp_updL g 0 (u9.1).toInt64) ++ wM h2 b0 b1 b2 b3 b4 cy th N cc ds de f cs2 be lf od) H := hP.sub [6, 7, 8, 9, 10, 0, 1, 2, 3, 4, 5] rfl
  have hD : va_D (lwAd s) (wBL h a0 a1 a2 cy N (nI (ewn (iso f u N) N (zal N))) (cc + nI (isc f u N (fun j => cnum (iso f u j) N) N)) (iso f u N) u9.2 tr o cl (vp_updL g 0 (u9.1).toInt64) ++ wM h2 b0 b1 b2 b3 b4 cy th N cc ds de f cs2 be lf od) := zD hD rfl
  refine lv_istore (lv' := [(5, .int (nI 0)), (0, .ref b), (1, .ref h), (2, .ref h2), (3, .ref o), (4, .int (nI i))]) hx hb dL_law_343 hl (by decide) rfl (fun ls hl => ?_)
  refine lv_aload_n hx hb dL_law_345 rfl (lv_at hl 3 rfl) ?_
  refine lv_aload_n hx hb dL_law_346 rfl (lv_at hl 1 rfl) ?_
  refine lv_iload hx hb dL_law_347 (lv_at hl 5 rfl) ?_
  refine lv_iconst (v := (nI 1)) hx hb dL_law_349 (by decide) ?_
  refine z_iadd hx hb dL_law_350 ?_
  refine z_sld hx hb hX hbl hbA hS (j := i + 1) (by omega) hL dL_law_351 ?_
  rw [hq1]
  have hPm := hP.sub (ws' := wM h2 b0 b1 b2 b3 b4 cy th N cc ds de f cs2 be lf od) [5, 6, 7, 8, 9, 10] rfl
  have hDm := hD.sub (ws' := wM h2 b0 b1 b2 b3 b4 cy th N cc ds de f cs2 be lf od) [5, 6, 7, 8, 9, 10] (by decide) rfl
  refine zjVi (As := [.int (nI u)]) (rest := []) (wr := wBL h a0 a1 a2 cy N (nI (ewn (iso f u N) N (zal N))) (cc + nI (isc f u N (fun j => cnum (iso f u j) N) N)) (iso f u N) u9.2 tr o cl (vp_updL g 0 (u9.1).toInt64)) 0 [5, 6, 7, 8, 9, 10] [0, 1, 2, 3, 4] rfl rfl rfl (by decide) (by exact fun _ => rfl) ⟨hx, hb, hml, hown, hts⟩ (c_X1_isolate_ok l D cy h2 b0 b1 b2 b3 b4 th N cc ds de f cs2 be lf od _ u (fun j => cnum (iso f u j) N) hN (fun i _ => gd_iso hg hu i) (fun i _ => cnum_ok (gd_iso hg hu i)) hu) (cwV 1 hts gL_law_X1_isolate rfl rfl rfl (by decide +kernel) ⟨Nat.le_of_ble_eq_true rfl, Nat.le_of_ble_eq_true rfl⟩) (hK.sub [0] rfl) hP hPm hD hDm hA rfl rfl rfl hl rfl (Nat.le_of_ble_eq_true rfl) dL_law_352 ⟨by show _ ≤ 1045; omega, by show _ ≤ 8429; omega⟩ hS (fun r8 u8 H locs hw8 hP hS => ?_)
  have hP : va_P D vwCl (wBL h a0 a1 a2 cy N (nI (ewn (iso f u N) N (zal N))) (cc + nI (isc f u N (fun j => cnum (iso f u j) N) N)) (iso f u N) u9.2 tr o cl (vp_updL g 0 (u9.1).toInt64) ++ wM h2 b0 b1 b2 b3 b4 cy (nI 0) N (cc + nI (isc f u N (fun j => cnum (iso f u j) N) N)) ds de (iso f u N) u8.1 u8.2 lf od) H := hP
  have hD : va_D (lwAd s) (wBL h a0 a1 a2 cy N (nI (ewn (iso f u N) N (zal N))) (cc + nI (isc f u N (fun j => cnum (iso f u j) N) N)) (iso f u N) u9.2 tr o cl (vp_updL g 0 (u9.1).toInt64) ++ wM h2 b0 b1 b2 b3 b4 cy (nI 0) N (cc + nI (isc f u N (fun j => cnum (iso f u j) N) N)) ds de (iso f u N) u8.1 u8.2 lf od) := zD hD rfl
  have hw8 : r8 = nI (ise f u N) := hw8
  refine lv_istore (lv' := [(6, .int r8), (5, .int (nI 0)), (0, .ref b), (1, .ref h), (2, .ref h2), (3, .ref o), (4, .int (nI i))]) hx hb dL_law_355 hl (by decide) rfl (fun ls hl => ?_)
  refine lv_aload_n hx hb dL_law_357 rfl (lv_at hl 4 rfl) ?_
  have hPt := hP.sub (ws' := wM h2 b0 b1 b2 b3 b4 cy (nI 0) N (cc + nI (isc f u N (fun j => cnum (iso f u j) N) N)) ds de (iso f u N) u8.1 u8.2 lf od) [5, 6, 7, 8, 9, 10] rfl
  refine zrV (As := []) (rest := []) 0 ⟨hx, hb, hml, hown, hts⟩ (c_X1_thrown l D cy h2 b0 b1 b2 b3 b4 (nI 0) N (cc + nI (isc f u N (fun j => cnum (iso f u j) N) N)) ds de (iso f u N) u8.1 u8.2 lf od) (cwV 0 hts gL_law_X1_thrown rfl rfl rfl (by decide +kernel) ⟨Nat.le_of_ble_eq_true rfl, Nat.le_of_ble_eq_true rfl⟩) (hK.sub [0] rfl) hPt rfl rfl rfl hl rfl (Nat.le_of_ble_eq_true rfl) dL_law_358 ⟨by show _ ≤ 1045; omega, by show _ ≤ 8429; omega⟩ hS (fun r7 H locs hw7 hk7 hS => ?_)
  obtain rfl : r7 = nI 0 := hw7
  have hP := zkeep hP hk7
  refine lv_iload hx hb dL_law_361 (lv_at hl 1 rfl) ?_
  refine lv_icmp_eq (tgt := 368) hx hb dL_law_363 (by decide) (fun _ => ?_) (fun q => absurd (rfl) q)
  refine lv_iload hx hb dL_law_368 (lv_at hl 1 rfl) ?_
  refine lv_if_ne (tgt := 385) hx hb dL_law_370 (by decide) (fun q => absurd rfl q) (fun _ => ?_)
  refine lv_aload_n hx hb dL_law_373 rfl (lv_at hl 5 rfl) ?_
  refine lv_iconst (v := (nI 0)) hx hb dL_law_374 (by decide) ?_
  refine z_lald0 hx hb hK hP 0 1 rfl rfl dL_law_375 ?_
  refine lv_iload hx hb dL_law_376 (lv_at hl 0 rfl) ?_
  refine lv_i2l (v := (r8).toInt64) hx hb dL_law_378 rfl ?_
  refine z_lcmp hx hb (congrArg Int32.toInt64 (hw9.1.trans hw8.symm)) dL_law_379 ?_
  refine lv_if_eq (tgt := 385) hx hb dL_law_380 (by decide) (fun _ => ?_) (fun q => absurd (by decide) q)
  refine lv_goto (tgt := 1334) hx hb dL_law_385 (by decide) ?_
  refine W.widen (k := cells + 1) (n := slots + 6) (by omega) (by omega) ?_
  exact K _ _ _ ⟨gd_iso hg hu N, _, _, _, _, _, _, _, _, _, _, _, _, hw9.2, rfl, hP, hD⟩ hS (lv_sub hl [2, 3, 4, 5, 6] rfl)

set_option maxHeartbeats 4000000 in
set_option maxRecDepth 100000 in
theorem lw_isolate_bad (C : lwC p s m c b L xs) (hK : va_K D vwCl [(cy, .int), (cl, .long)] s) (hTL : zThL s) (hfl : l.stackTraces = false) {i : Nat} (hi : i + 3 ≤ L) (hg : gd f N) (hcs : csJ cs (cnum f N) N) (hec : ec = nI (ewn f N (zal N))) (hP : va_P D vwCl (wBL h a0 a1 a2 cy N ec cc f cs tr o cl g ++ wM h2 b0 b1 b2 b3 b4 cy th N cc ds de f cs2 be lf od) H) (hD : va_D (lwAd s) (wBL h a0 a1 a2 cy N ec cc f cs tr o cl g ++ wM h2 b0 b1 b2 b3 b4 cy th N cc ds de f cs2 be lf od)) (hS : va_S (lwAd s) s.heap H locs) (hl : lv_has ls 9 [(0, .ref b), (1, .ref h), (2, .ref h2), (3, .ref o), (4, .int (nI i))]) (hnc : cells + 1 ≤ 1045) (hns : slots + 6 ≤ 8429) {q : Int32} (hq : isNb q N = false) (hq1 : xs (i + 1) = q)
  (K : ∀ (H1 : Heap) (locs1 : List Loc) (ls1 : Array Slot), lwI D (lwAd s) h a0 a1 a2 cy o cl h2 b0 b1 b2 b3 b4 N f H1 → va_S (lwAd s) s.heap H1 locs1 → lv_has ls1 9 [(0, .ref b), (1, .ref h), (2, .ref h2), (3, .ref o), (4, .int (nI i))] → W p l e room_1 s m #[Value.ref b] below meth c H1 locs1 (cells + 1) (slots + 6) Q (F0 m 1334 ls1 [])) :
  W p l e room_1 s m #[Value.ref b] below meth c H locs cells slots Q (F0 m 332 ls []) := by
  obtain ⟨hx, hb, hml, hown, hts, hX, hbl, hL⟩ := C
  have hN : N ≤ 20 := hg.1
  have hA : ∀ q : Nat, s.heap.size ≤ q → lwAd s q := fun _ h => h
  have hbA : ¬ lwAd s b := Nat.not_le.mpr hbl
  refine lv_aload_n hx hb dL_law_332 rfl (lv_at hl 1 rfl) ?_
  refine lv_aload_n hx hb dL_law_333 rfl (lv_at hl 0 rfl) ?_
  refine lv_iload hx hb dL_law_334 (lv_at hl 4 rfl) ?_
  refine lv_iconst (v := (nI 1)) hx hb dL_law_336 (by decide) ?_
  refine z_iadd hx hb dL_law_337 ?_
  refine z_sld hx hb hX hbl hbA hS (j := i + 1) (by omega) hL dL_law_338 ?_
  rw [hq1]
  refine lv_aload_n hx hb dL_law_339 rfl (lv_at hl 3 rfl) ?_
  have hPb := hP.sub (ws' := wBL h a0 a1 a2 cy N ec cc f cs tr o cl g) [0, 1, 2, 3, 4] rfl
  have hDb := hD.sub (ws' := wBL h a0 a1 a2 cy N ec cc f cs tr o cl g) [0, 1, 2, 3, 4] (by decide) rfl
  refine zjSi (X := zTh) (As := [.ref h, .int q, .ref o]) (rest := []) (wr := wM h2 b0 b1 b2 b3 b4 cy th N cc ds de f cs2 be lf od) [0, 1, 2, 3, 4] [5, 6, 7, 8, 9, 10] rfl rfl rfl (by decide) (by exact fun _ => rfl) ⟨hx, hb, hml, hown, hts⟩ (w_isolate_bad l hfl D cy h a0 a1 a2 N ec cc f cs tr o cl g _ q hq) (vx_cwSW 3 hts gL_law_L_isolate rfl rfl rfl (by decide +kernel) ⟨Nat.le_of_ble_eq_true rfl, Nat.le_of_ble_eq_true rfl⟩) hK hP hPb hD hDb hA (fun U g mk a q => q.same rfl rfl) (fun U hU hW => hTL.at hS hU hW) rfl hl rfl (Nat.le_of_ble_eq_true rfl) dL_law_340 ⟨by show _ ≤ 1045; omega, by show _ ≤ 8429; omega⟩ hS (fun r9 u9 H locs hw9 hP hS => ?_)
  obtain rfl : r9 = nI 1 := hw9
  have hP : va_P D vwCl (wBL h a0 a1 a2 cy N ec cc f cs tr o cl g ++ wM h2 b0 b1 b2 b3 b4 cy th N cc ds de f cs2 be lf od) H := hP.sub [6, 7, 8, 9, 10, 0, 1, 2, 3, 4, 5] rfl
  have hD : va_D (lwAd s) (wBL h a0 a1 a2 cy N ec cc f cs tr o cl g ++ wM h2 b0 b1 b2 b3 b4 cy th N cc ds de f cs2 be lf od) := zD hD rfl
  refine lv_istore (lv' := [(5, .int (nI 1)), (0, .ref b), (1, .ref h), (2, .ref h2), (3, .ref o), (4, .int (nI i))]) hx hb dL_law_343 hl (by decide) rfl (fun ls hl => ?_)
  refine lv_aload_n hx hb dL_law_345 rfl (lv_at hl 3 rfl) ?_
  refine lv_aload_n hx hb dL_law_346 rfl (lv_at hl 1 rfl) ?_
  refine lv_iload hx hb dL_law_347 (lv_at hl 5 rfl) ?_
  refine lv_iconst (v := (nI 1)) hx hb dL_law_349 (by decide) ?_
  refine z_iadd hx hb dL_law_350 ?_
  refine z_sld hx hb hX hbl hbA hS (j := i + 1) (by omega) hL dL_law_351 ?_
  rw [hq1]
  have hPm := hP.sub (ws' := wM h2 b0 b1 b2 b3 b4 cy th N cc ds de f cs2 be lf od) [5, 6, 7, 8, 9, 10] rfl
  have hDm := hD.sub (ws' := wM h2 b0 b1 b2 b3 b4 cy th N cc ds de f cs2 be lf od) [5, 6, 7, 8, 9, 10] (by decide) rfl
  refine zjVi (As := [.int q]) (rest := []) (wr := wBL h a0 a1 a2 cy N ec cc f cs tr o cl g) 0 [5, 6, 7, 8, 9, 10] [0, 1, 2, 3, 4] rfl rfl rfl (by decide) (by exact fun _ => rfl) ⟨hx, hb, hml, hown, hts⟩ (c_X1_isolate_bad l D cy h2 b0 b1 b2 b3 b4 th N cc ds de f cs2 be lf od _ q hq) (cwV 1 hts gL_law_X1_isolate rfl rfl rfl (by decide +kernel) ⟨Nat.le_of_ble_eq_true rfl, Nat.le_of_ble_eq_true rfl⟩) (hK.sub [0] rfl) hP hPm hD hDm hA rfl rfl rfl hl rfl (Nat.le_of_ble_eq_true rfl) dL_law_352 ⟨by show _ ≤ 1045; omega, by show _ ≤ 8429; omega⟩ hS (fun r8 u8 H locs hw8 hP hS => ?_)
  have hP : va_P D vwCl (wBL h a0 a1 a2 cy N ec cc f cs tr o cl g ++ wM h2 b0 b1 b2 b3 b4 cy (nI 1) N cc ds de f cs2 be lf od) H := hP
  have hD : va_D (lwAd s) (wBL h a0 a1 a2 cy N ec cc f cs tr o cl g ++ wM h2 b0 b1 b2 b3 b4 cy (nI 1) N cc ds de f cs2 be lf od) := zD hD rfl
  have hw8 : r8 = nI 0 := hw8
  refine lv_istore (lv' := [(6, .int r8), (5, .int (nI 1)), (0, .ref b), (1, .ref h), (2, .ref h2), (3, .ref o), (4, .int (nI i))]) hx hb dL_law_355 hl (by decide) rfl (fun ls hl => ?_)
  refine lv_aload_n hx hb dL_law_357 rfl (lv_at hl 4 rfl) ?_
  have hPt := hP.sub (ws' := wM h2 b0 b1 b2 b3 b4 cy (nI 1) N cc ds de f cs2 be lf od) [5, 6, 7, 8, 9, 10] rfl
  refine zrV (As := []) (rest := []) 0 ⟨hx, hb, hml, hown, hts⟩ (c_X1_thrown l D cy h2 b0 b1 b2 b3 b4 (nI 1) N cc ds de f cs2 be lf od) (cwV 0 hts gL_law_X1_thrown rfl rfl rfl (by decide +kernel) ⟨Nat.le_of_ble_eq_true rfl, Nat.le_of_ble_eq_true rfl⟩) (hK.sub [0] rfl) hPt rfl rfl rfl hl rfl (Nat.le_of_ble_eq_true rfl) dL_law_358 ⟨by show _ ≤ 1045; omega, by show _ ≤ 8429; omega⟩ hS (fun r7 H locs hw7 hk7 hS => ?_)
  obtain rfl : r7 = nI 1 := hw7
  have hP := zkeep hP hk7
  refine lv_iload hx hb dL_law_361 (lv_at hl 1 rfl) ?_
  refine lv_icmp_eq (tgt := 368) hx hb dL_law_363 (by decide) (fun _ => ?_) (fun q => absurd (rfl) q)
  refine lv_iload hx hb dL_law_368 (lv_at hl 1 rfl) ?_
  refine lv_if_ne (tgt := 385) hx hb dL_law_370 (by decide) (fun _ => ?_) (fun q => absurd q (by decide))
  refine lv_goto (tgt := 1334) hx hb dL_law_385 (by decide) ?_
  refine W.widen (k := cells + 1) (n := slots + 6) (by omega) (by omega) ?_
  exact K _ _ _ ⟨hg, _, _, _, _, _, _, _, _, _, _, _, _, hcs, hec, hP, hD⟩ hS (lv_sub hl [2, 3, 4, 5, 6] rfl)

set_option maxHeartbeats 4000000 in
set_option maxRecDepth 100000 in
theorem lw_nodes (C : lwC p s m c b L xs) (hK : va_K D vwCl [(cy, .int), (cl, .long)] s) (hTL : zThL s) (hfl : l.stackTraces = false) {i : Nat} (hi : i + 3 ≤ L) (hg : gd f N) (hcs : csJ cs (cnum f N) N) (hec : ec = nI (ewn f N (zal N))) (hP : va_P D vwCl (wBL h a0 a1 a2 cy N ec cc f cs tr o cl g ++ wM h2 b0 b1 b2 b3 b4 cy th N cc ds de f cs2 be lf od) H) (hD : va_D (lwAd s) (wBL h a0 a1 a2 cy N ec cc f cs tr o cl g ++ wM h2 b0 b1 b2 b3 b4 cy th N cc ds de f cs2 be lf od)) (hS : va_S (lwAd s) s.heap H locs) (hl : lv_has ls 9 [(0, .ref b), (1, .ref h), (2, .ref h2), (3, .ref o), (4, .int (nI i))]) (hnc : cells + 1 ≤ 1045) (hns : slots + 6 ≤ 8429)
  (K : ∀ (H1 : Heap) (locs1 : List Loc) (ls1 : Array Slot), lwI D (lwAd s) h a0 a1 a2 cy o cl h2 b0 b1 b2 b3 b4 N f H1 → va_S (lwAd s) s.heap H1 locs1 → lv_has ls1 9 [(0, .ref b), (1, .ref h), (2, .ref h2), (3, .ref o), (4, .int (nI i))] → W p l e room_1 s m #[Value.ref b] below meth c H1 locs1 (cells + 1) (slots + 6) Q (F0 m 1334 ls1 [])) :
  W p l e room_1 s m #[Value.ref b] below meth c H locs cells slots Q (F0 m 388 ls []) := by
  obtain ⟨hx, hb, hml, hown, hts, hX, hbl, hL⟩ := C
  have hN : N ≤ 20 := hg.1
  have hA : ∀ q : Nat, s.heap.size ≤ q → lwAd s q := fun _ h => h
  have hbA : ¬ lwAd s b := Nat.not_le.mpr hbl
  refine lv_aload_n hx hb dL_law_388 rfl (lv_at hl 1 rfl) ?_
  have hPb := hP.sub (ws' := wB h a0 a1 a2 cy N ec cc f cs tr) [1, 2, 3, 4] rfl
  refine zrV (As := []) (rest := []) 0 ⟨hx, hb, hml, hown, hts⟩ (c_X0_nodes l D cy h a0 a1 a2 N ec cc f cs tr ) (cwV 0 hts gL_law_X0_nodes rfl rfl rfl (by decide +kernel) ⟨Nat.le_of_ble_eq_true rfl, Nat.le_of_ble_eq_true rfl⟩) (hK.sub [0] rfl) hPb rfl rfl rfl hl rfl (Nat.le_of_ble_eq_true rfl) dL_law_389 ⟨by show _ ≤ 1045; omega, by show _ ≤ 8429; omega⟩ hS (fun r9 H locs hw9 hk9 hS => ?_)
  have hP := zkeep hP hk9
  refine lv_aload_n hx hb dL_law_392 rfl (lv_at hl 2 rfl) ?_
  have hPm := hP.sub (ws' := wM h2 b0 b1 b2 b3 b4 cy th N cc ds de f cs2 be lf od) [5, 6, 7, 8, 9, 10] rfl
  have hDm := hD.sub (ws' := wM h2 b0 b1 b2 b3 b4 cy th N cc ds de f cs2 be lf od) [5, 6, 7, 8, 9, 10] (by decide) rfl
  refine zjVi (As := []) (rest := [.int r9]) (wr := wBL h a0 a1 a2 cy N ec cc f cs tr o cl g) 0 [5, 6, 7, 8, 9, 10] [0, 1, 2, 3, 4] rfl rfl rfl (by decide) (by exact fun _ => rfl) ⟨hx, hb, hml, hown, hts⟩ (c_X1_nodes l D cy h2 b0 b1 b2 b3 b4 th N cc ds de f cs2 be lf od _ ) (cwV 0 hts gL_law_X1_nodes rfl rfl rfl (by decide +kernel) ⟨Nat.le_of_ble_eq_true rfl, Nat.le_of_ble_eq_true rfl⟩) (hK.sub [0] rfl) hP hPm hD hDm hA rfl rfl rfl hl rfl (Nat.le_of_ble_eq_true rfl) dL_law_393 ⟨by show _ ≤ 1045; omega, by show _ ≤ 8429; omega⟩ hS (fun r8 u8 H locs hw8 hP hS => ?_)
  have hP : va_P D vwCl (wBL h a0 a1 a2 cy N ec cc f cs tr o cl g ++ wM h2 b0 b1 b2 b3 b4 cy (nI 0) N cc ds de f cs2 be lf od) H := hP
  have hD : va_D (lwAd s) (wBL h a0 a1 a2 cy N ec cc f cs tr o cl g ++ wM h2 b0 b1 b2 b3 b4 cy (nI 0) N cc ds de f cs2 be lf od) := zD hD rfl
  have hw8 : r8 = nI N := hw8
  refine lv_icmp_eq (tgt := 1334) hx hb dL_law_396 (by decide) (fun _ => ?_) (fun q => absurd (hw9.trans hw8.symm) q)
  refine W.widen (k := cells + 1) (n := slots + 6) (by omega) (by omega) ?_
  exact K _ _ _ ⟨hg, _, _, _, _, _, _, _, _, _, _, _, _, hcs, hec, hP, hD⟩ hS (lv_sub hl [0, 1, 2, 3, 4] rfl)

set_option maxHeartbeats 4000000 in
set_option maxRecDepth 100000 in
theorem lw_edges (C : lwC p s m c b L xs) (hK : va_K D vwCl [(cy, .int), (cl, .long)] s) (hTL : zThL s) (hfl : l.stackTraces = false) {i : Nat} (hi : i + 3 ≤ L) (hg : gd f N) (hcs : csJ cs (cnum f N) N) (hec : ec = nI (ewn f N (zal N))) (hP : va_P D vwCl (wBL h a0 a1 a2 cy N ec cc f cs tr o cl g ++ wM h2 b0 b1 b2 b3 b4 cy th N cc ds de f cs2 be lf od) H) (hD : va_D (lwAd s) (wBL h a0 a1 a2 cy N ec cc f cs tr o cl g ++ wM h2 b0 b1 b2 b3 b4 cy th N cc ds de f cs2 be lf od)) (hS : va_S (lwAd s) s.heap H locs) (hl : lv_has ls 9 [(0, .ref b), (1, .ref h), (2, .ref h2), (3, .ref o), (4, .int (nI i))]) (hnc : cells + 1 ≤ 1045) (hns : slots + 6 ≤ 8429)
  (K : ∀ (H1 : Heap) (locs1 : List Loc) (ls1 : Array Slot), lwI D (lwAd s) h a0 a1 a2 cy o cl h2 b0 b1 b2 b3 b4 N f H1 → va_S (lwAd s) s.heap H1 locs1 → lv_has ls1 9 [(0, .ref b), (1, .ref h), (2, .ref h2), (3, .ref o), (4, .int (nI i))] → W p l e room_1 s m #[Value.ref b] below meth c H1 locs1 (cells + 1) (slots + 6) Q (F0 m 1334 ls1 [])) :
  W p l e room_1 s m #[Value.ref b] below meth c H locs cells slots Q (F0 m 401 ls []) := by
  obtain ⟨hx, hb, hml, hown, hts, hX, hbl, hL⟩ := C
  have hN : N ≤ 20 := hg.1
  have hA : ∀ q : Nat, s.heap.size ≤ q → lwAd s q := fun _ h => h
  have hbA : ¬ lwAd s b := Nat.not_le.mpr hbl
  refine lv_aload_n hx hb dL_law_401 rfl (lv_at hl 1 rfl) ?_
  have hPb := hP.sub (ws' := wB h a0 a1 a2 cy N ec cc f cs tr) [1, 2, 3, 4] rfl
  refine zrV (As := []) (rest := []) 0 ⟨hx, hb, hml, hown, hts⟩ (c_X0_edges l D cy h a0 a1 a2 N ec cc f cs tr ) (cwV 0 hts gL_law_X0_edges rfl rfl rfl (by decide +kernel) ⟨Nat.le_of_ble_eq_true rfl, Nat.le_of_ble_eq_true rfl⟩) (hK.sub [0] rfl) hPb rfl rfl rfl hl rfl (Nat.le_of_ble_eq_true rfl) dL_law_402 ⟨by show _ ≤ 1045; omega, by show _ ≤ 8429; omega⟩ hS (fun r9 H locs hw9 hk9 hS => ?_)
  have hP := zkeep hP hk9
  refine lv_aload_n hx hb dL_law_405 rfl (lv_at hl 2 rfl) ?_
  have hPm := hP.sub (ws' := wM h2 b0 b1 b2 b3 b4 cy th N cc ds de f cs2 be lf od) [5, 6, 7, 8, 9, 10] rfl
  have hDm := hD.sub (ws' := wM h2 b0 b1 b2 b3 b4 cy th N cc ds de f cs2 be lf od) [5, 6, 7, 8, 9, 10] (by decide) rfl
  refine zjVi (As := []) (rest := [.int r9]) (wr := wBL h a0 a1 a2 cy N ec cc f cs tr o cl g) 0 [5, 6, 7, 8, 9, 10] [0, 1, 2, 3, 4] rfl rfl rfl (by decide) (by exact fun _ => rfl) ⟨hx, hb, hml, hown, hts⟩ (c_X1_edges l D cy h2 b0 b1 b2 b3 b4 th N cc ds de f cs2 be lf od _ hN hg) (cwV 0 hts gL_law_X1_edges rfl rfl rfl (by decide +kernel) ⟨Nat.le_of_ble_eq_true rfl, Nat.le_of_ble_eq_true rfl⟩) (hK.sub [0] rfl) hP hPm hD hDm hA rfl rfl rfl hl rfl (Nat.le_of_ble_eq_true rfl) dL_law_406 ⟨by show _ ≤ 1045; omega, by show _ ≤ 8429; omega⟩ hS (fun r8 u8 H locs hw8 hP hS => ?_)
  have hP : va_P D vwCl (wBL h a0 a1 a2 cy N ec cc f cs tr o cl g ++ wM h2 b0 b1 b2 b3 b4 cy (nI 0) N cc ds de f cs2 be lf od) H := hP
  have hD : va_D (lwAd s) (wBL h a0 a1 a2 cy N ec cc f cs tr o cl g ++ wM h2 b0 b1 b2 b3 b4 cy (nI 0) N cc ds de f cs2 be lf od) := zD hD rfl
  have hw8 : r8 = nI (ewn f N (zal N)) := hw8
  refine lv_icmp_eq (tgt := 1334) hx hb dL_law_409 (by decide) (fun _ => ?_) (fun q => absurd (hw9.trans (hec.trans hw8.symm)) q)
  refine W.widen (k := cells + 1) (n := slots + 6) (by omega) (by omega) ?_
  exact K _ _ _ ⟨hg, _, _, _, _, _, _, _, _, _, _, _, _, hcs, hec, hP, hD⟩ hS (lv_sub hl [0, 1, 2, 3, 4] rfl)

set_option maxHeartbeats 4000000 in
set_option maxRecDepth 100000 in
theorem lw_degree_ok (C : lwC p s m c b L xs) (hK : va_K D vwCl [(cy, .int), (cl, .long)] s) (hTL : zThL s) (hfl : l.stackTraces = false) {i : Nat} (hi : i + 3 ≤ L) (hg : gd f N) (hcs : csJ cs (cnum f N) N) (hec : ec = nI (ewn f N (zal N))) (hP : va_P D vwCl (wBL h a0 a1 a2 cy N ec cc f cs tr o cl g ++ wM h2 b0 b1 b2 b3 b4 cy th N cc ds de f cs2 be lf od) H) (hD : va_D (lwAd s) (wBL h a0 a1 a2 cy N ec cc f cs tr o cl g ++ wM h2 b0 b1 b2 b3 b4 cy th N cc ds de f cs2 be lf od)) (hS : va_S (lwAd s) s.heap H locs) (hl : lv_has ls 9 [(0, .ref b), (1, .ref h), (2, .ref h2), (3, .ref o), (4, .int (nI i))]) (hnc : cells + 1 ≤ 1045) (hns : slots + 6 ≤ 8429) {u : Nat} (hu : u < N) (hq1 : xs (i + 1) = (nI u))
  (K : ∀ (H1 : Heap) (locs1 : List Loc) (ls1 : Array Slot), lwI D (lwAd s) h a0 a1 a2 cy o cl h2 b0 b1 b2 b3 b4 N f H1 → va_S (lwAd s) s.heap H1 locs1 → lv_has ls1 9 [(0, .ref b), (1, .ref h), (2, .ref h2), (3, .ref o), (4, .int (nI i))] → W p l e room_1 s m #[Value.ref b] below meth c H1 locs1 (cells + 1) (slots + 6) Q (F0 m 1334 ls1 [])) :
  W p l e room_1 s m #[Value.ref b] below meth c H locs cells slots Q (F0 m 414 ls []) := by
  obtain ⟨hx, hb, hml, hown, hts, hX, hbl, hL⟩ := C
  have hN : N ≤ 20 := hg.1
  have hA : ∀ q : Nat, s.heap.size ≤ q → lwAd s q := fun _ h => h
  have hbA : ¬ lwAd s b := Nat.not_le.mpr hbl
  refine lv_aload_n hx hb dL_law_414 rfl (lv_at hl 1 rfl) ?_
  refine lv_aload_n hx hb dL_law_415 rfl (lv_at hl 0 rfl) ?_
  refine lv_iload hx hb dL_law_416 (lv_at hl 4 rfl) ?_
  refine lv_iconst (v := (nI 1)) hx hb dL_law_418 (by decide) ?_
  refine z_iadd hx hb dL_law_419 ?_
  refine z_sld hx hb hX hbl hbA hS (j := i + 1) (by omega) hL dL_law_420 ?_
  rw [hq1]
  refine lv_aload_n hx hb dL_law_421 rfl (lv_at hl 3 rfl) ?_
  have hPb := hP.sub (ws' := wBL h a0 a1 a2 cy N ec cc f cs tr o cl g) [0, 1, 2, 3, 4] rfl
  have hDb := hD.sub (ws' := wBL h a0 a1 a2 cy N ec cc f cs tr o cl g) [0, 1, 2, 3, 4] (by decide) rfl
  refine zjSi (X := (fun _ => True)) (As := [.ref h, .int (nI u), .ref o]) (rest := []) (wr := wM h2 b0 b1 b2 b3 b4 cy th N cc ds de f cs2 be lf od) [0, 1, 2, 3, 4] [5, 6, 7, 8, 9, 10] rfl rfl rfl (by decide) (by exact fun _ => rfl) ⟨hx, hb, hml, hown, hts⟩ (w_degree_ok l D cy h a0 a1 a2 N ec cc f cs tr o cl g _ u hN hu) (vx_cwSW 3 hts gL_law_L_degree rfl rfl rfl (by decide +kernel) ⟨Nat.le_of_ble_eq_true rfl, Nat.le_of_ble_eq_true rfl⟩) hK hP hPb hD hDb hA (fun _ _ _ _ _ => trivial) (fun _ _ _ => trivial) rfl hl rfl (Nat.le_of_ble_eq_true rfl) dL_law_422 ⟨by show _ ≤ 1045; omega, by show _ ≤ 8429; omega⟩ hS (fun r9 u9 H locs hw9 hP hS => ?_)
  obtain ⟨rfl, hw9⟩ := hw9
  have hw9 : u9 = nI (zpop (f u)) := hw9
  have hP : va_P D vwCl (wBL h a0 a1 a2 cy N ec cc f cs tr o cl (vp_updL g 0 (u9).toInt64) ++ wM h2 b0 b1 b2 b3 b4 cy th N cc ds de f cs2 be lf od) H := hP.sub [6, 7, 8, 9, 10, 0, 1, 2, 3, 4, 5] rfl
  have hD : va_D (lwAd s) (wBL h a0 a1 a2 cy N ec cc f cs tr o cl (vp_updL g 0 (u9).toInt64) ++ wM h2 b0 b1 b2 b3 b4 cy th N cc ds de f cs2 be lf od) := zD hD rfl
  refine lv_istore (lv' := [(5, .int (nI 0)), (0, .ref b), (1, .ref h), (2, .ref h2), (3, .ref o), (4, .int (nI i))]) hx hb dL_law_425 hl (by decide) rfl (fun ls hl => ?_)
  refine lv_aload_n hx hb dL_law_427 rfl (lv_at hl 3 rfl) ?_
  refine lv_aload_n hx hb dL_law_428 rfl (lv_at hl 1 rfl) ?_
  refine lv_iload hx hb dL_law_429 (lv_at hl 5 rfl) ?_
  refine lv_iconst (v := (nI 1)) hx hb dL_law_431 (by decide) ?_
  refine z_iadd hx hb dL_law_432 ?_
  refine z_sld hx hb hX hbl hbA hS (j := i + 1) (by omega) hL dL_law_433 ?_
  rw [hq1]
  have hPm := hP.sub (ws' := wM h2 b0 b1 b2 b3 b4 cy th N cc ds de f cs2 be lf od) [5, 6, 7, 8, 9, 10] rfl
  have hDm := hD.sub (ws' := wM h2 b0 b1 b2 b3 b4 cy th N cc ds de f cs2 be lf od) [5, 6, 7, 8, 9, 10] (by decide) rfl
  refine zjVi (As := [.int (nI u)]) (rest := []) (wr := wBL h a0 a1 a2 cy N ec cc f cs tr o cl (vp_updL g 0 (u9).toInt64)) 0 [5, 6, 7, 8, 9, 10] [0, 1, 2, 3, 4] rfl rfl rfl (by decide) (by exact fun _ => rfl) ⟨hx, hb, hml, hown, hts⟩ (c_X1_degree_ok l D cy h2 b0 b1 b2 b3 b4 th N cc ds de f cs2 be lf od _ u hg hu) (cwV 1 hts gL_law_X1_degree rfl rfl rfl (by decide +kernel) ⟨Nat.le_of_ble_eq_true rfl, Nat.le_of_ble_eq_true rfl⟩) (hK.sub [0] rfl) hP hPm hD hDm hA rfl rfl rfl hl rfl (Nat.le_of_ble_eq_true rfl) dL_law_434 ⟨by show _ ≤ 1045; omega, by show _ ≤ 8429; omega⟩ hS (fun r8 u8 H locs hw8 hP hS => ?_)
  have hP : va_P D vwCl (wBL h a0 a1 a2 cy N ec cc f cs tr o cl (vp_updL g 0 (u9).toInt64) ++ wM h2 b0 b1 b2 b3 b4 cy (nI 0) N cc ds de f cs2 be lf od) H := hP
  have hD : va_D (lwAd s) (wBL h a0 a1 a2 cy N ec cc f cs tr o cl (vp_updL g 0 (u9).toInt64) ++ wM h2 b0 b1 b2 b3 b4 cy (nI 0) N cc ds de f cs2 be lf od) := zD hD rfl
  have hw8 : r8 = nI (zpop (f u)) := hw8
  refine lv_istore (lv' := [(6, .int r8), (5, .int (nI 0)), (0, .ref b), (1, .ref h), (2, .ref h2), (3, .ref o), (4, .int (nI i))]) hx hb dL_law_437 hl (by decide) rfl (fun ls hl => ?_)
  refine lv_aload_n hx hb dL_law_439 rfl (lv_at hl 4 rfl) ?_
  have hPt := hP.sub (ws' := wM h2 b0 b1 b2 b3 b4 cy (nI 0) N cc ds de f cs2 be lf od) [5, 6, 7, 8, 9, 10] rfl
  refine zrV (As := []) (rest := []) 0 ⟨hx, hb, hml, hown, hts⟩ (c_X1_thrown l D cy h2 b0 b1 b2 b3 b4 (nI 0) N cc ds de f cs2 be lf od) (cwV 0 hts gL_law_X1_thrown rfl rfl rfl (by decide +kernel) ⟨Nat.le_of_ble_eq_true rfl, Nat.le_of_ble_eq_true rfl⟩) (hK.sub [0] rfl) hPt rfl rfl rfl hl rfl (Nat.le_of_ble_eq_true rfl) dL_law_440 ⟨by show _ ≤ 1045; omega, by show _ ≤ 8429; omega⟩ hS (fun r7 H locs hw7 hk7 hS => ?_)
  obtain rfl : r7 = nI 0 := hw7
  have hP := zkeep hP hk7
  refine lv_iload hx hb dL_law_443 (lv_at hl 1 rfl) ?_
  refine lv_icmp_eq (tgt := 450) hx hb dL_law_445 (by decide) (fun _ => ?_) (fun q => absurd (rfl) q)
  refine lv_iload hx hb dL_law_450 (lv_at hl 1 rfl) ?_
  refine lv_if_ne (tgt := 467) hx hb dL_law_452 (by decide) (fun q => absurd rfl q) (fun _ => ?_)
  refine lv_aload_n hx hb dL_law_455 rfl (lv_at hl 5 rfl) ?_
  refine lv_iconst (v := (nI 0)) hx hb dL_law_456 (by decide) ?_
  refine z_lald0 hx hb hK hP 0 1 rfl rfl dL_law_457 ?_
  refine lv_iload hx hb dL_law_458 (lv_at hl 0 rfl) ?_
  refine lv_i2l (v := (r8).toInt64) hx hb dL_law_460 rfl ?_
  refine z_lcmp hx hb (congrArg Int32.toInt64 (hw9.trans hw8.symm)) dL_law_461 ?_
  refine lv_if_eq (tgt := 467) hx hb dL_law_462 (by decide) (fun _ => ?_) (fun q => absurd (by decide) q)
  refine lv_goto (tgt := 1334) hx hb dL_law_467 (by decide) ?_
  refine W.widen (k := cells + 1) (n := slots + 6) (by omega) (by omega) ?_
  exact K _ _ _ ⟨hg, _, _, _, _, _, _, _, _, _, _, _, _, hcs, hec, hP, hD⟩ hS (lv_sub hl [2, 3, 4, 5, 6] rfl)

set_option maxHeartbeats 4000000 in
set_option maxRecDepth 100000 in
theorem lw_degree_bad (C : lwC p s m c b L xs) (hK : va_K D vwCl [(cy, .int), (cl, .long)] s) (hTL : zThL s) (hfl : l.stackTraces = false) {i : Nat} (hi : i + 3 ≤ L) (hg : gd f N) (hcs : csJ cs (cnum f N) N) (hec : ec = nI (ewn f N (zal N))) (hP : va_P D vwCl (wBL h a0 a1 a2 cy N ec cc f cs tr o cl g ++ wM h2 b0 b1 b2 b3 b4 cy th N cc ds de f cs2 be lf od) H) (hD : va_D (lwAd s) (wBL h a0 a1 a2 cy N ec cc f cs tr o cl g ++ wM h2 b0 b1 b2 b3 b4 cy th N cc ds de f cs2 be lf od)) (hS : va_S (lwAd s) s.heap H locs) (hl : lv_has ls 9 [(0, .ref b), (1, .ref h), (2, .ref h2), (3, .ref o), (4, .int (nI i))]) (hnc : cells + 1 ≤ 1045) (hns : slots + 6 ≤ 8429) {q : Int32} (hq : isNb q N = false) (hq1 : xs (i + 1) = q)
  (K : ∀ (H1 : Heap) (locs1 : List Loc) (ls1 : Array Slot), lwI D (lwAd s) h a0 a1 a2 cy o cl h2 b0 b1 b2 b3 b4 N f H1 → va_S (lwAd s) s.heap H1 locs1 → lv_has ls1 9 [(0, .ref b), (1, .ref h), (2, .ref h2), (3, .ref o), (4, .int (nI i))] → W p l e room_1 s m #[Value.ref b] below meth c H1 locs1 (cells + 1) (slots + 6) Q (F0 m 1334 ls1 [])) :
  W p l e room_1 s m #[Value.ref b] below meth c H locs cells slots Q (F0 m 414 ls []) := by
  obtain ⟨hx, hb, hml, hown, hts, hX, hbl, hL⟩ := C
  have hN : N ≤ 20 := hg.1
  have hA : ∀ q : Nat, s.heap.size ≤ q → lwAd s q := fun _ h => h
  have hbA : ¬ lwAd s b := Nat.not_le.mpr hbl
  refine lv_aload_n hx hb dL_law_414 rfl (lv_at hl 1 rfl) ?_
  refine lv_aload_n hx hb dL_law_415 rfl (lv_at hl 0 rfl) ?_
  refine lv_iload hx hb dL_law_416 (lv_at hl 4 rfl) ?_
  refine lv_iconst (v := (nI 1)) hx hb dL_law_418 (by decide) ?_
  refine z_iadd hx hb dL_law_419 ?_
  refine z_sld hx hb hX hbl hbA hS (j := i + 1) (by omega) hL dL_law_420 ?_
  rw [hq1]
  refine lv_aload_n hx hb dL_law_421 rfl (lv_at hl 3 rfl) ?_
  have hPb := hP.sub (ws' := wBL h a0 a1 a2 cy N ec cc f cs tr o cl g) [0, 1, 2, 3, 4] rfl
  have hDb := hD.sub (ws' := wBL h a0 a1 a2 cy N ec cc f cs tr o cl g) [0, 1, 2, 3, 4] (by decide) rfl
  refine zjSi (X := zTh) (As := [.ref h, .int q, .ref o]) (rest := []) (wr := wM h2 b0 b1 b2 b3 b4 cy th N cc ds de f cs2 be lf od) [0, 1, 2, 3, 4] [5, 6, 7, 8, 9, 10] rfl rfl rfl (by decide) (by exact fun _ => rfl) ⟨hx, hb, hml, hown, hts⟩ (w_degree_bad l hfl D cy h a0 a1 a2 N ec cc f cs tr o cl g _ q hq) (vx_cwSW 3 hts gL_law_L_degree rfl rfl rfl (by decide +kernel) ⟨Nat.le_of_ble_eq_true rfl, Nat.le_of_ble_eq_true rfl⟩) hK hP hPb hD hDb hA (fun U g mk a q => q.same rfl rfl) (fun U hU hW => hTL.at hS hU hW) rfl hl rfl (Nat.le_of_ble_eq_true rfl) dL_law_422 ⟨by show _ ≤ 1045; omega, by show _ ≤ 8429; omega⟩ hS (fun r9 u9 H locs hw9 hP hS => ?_)
  obtain rfl : r9 = nI 1 := hw9
  have hP : va_P D vwCl (wBL h a0 a1 a2 cy N ec cc f cs tr o cl g ++ wM h2 b0 b1 b2 b3 b4 cy th N cc ds de f cs2 be lf od) H := hP.sub [6, 7, 8, 9, 10, 0, 1, 2, 3, 4, 5] rfl
  have hD : va_D (lwAd s) (wBL h a0 a1 a2 cy N ec cc f cs tr o cl g ++ wM h2 b0 b1 b2 b3 b4 cy th N cc ds de f cs2 be lf od) := zD hD rfl
  refine lv_istore (lv' := [(5, .int (nI 1)), (0, .ref b), (1, .ref h), (2, .ref h2), (3, .ref o), (4, .int (nI i))]) hx hb dL_law_425 hl (by decide) rfl (fun ls hl => ?_)
  refine lv_aload_n hx hb dL_law_427 rfl (lv_at hl 3 rfl) ?_
  refine lv_aload_n hx hb dL_law_428 rfl (lv_at hl 1 rfl) ?_
  refine lv_iload hx hb dL_law_429 (lv_at hl 5 rfl) ?_
  refine lv_iconst (v := (nI 1)) hx hb dL_law_431 (by decide) ?_
  refine z_iadd hx hb dL_law_432 ?_
  refine z_sld hx hb hX hbl hbA hS (j := i + 1) (by omega) hL dL_law_433 ?_
  rw [hq1]
  have hPm := hP.sub (ws' := wM h2 b0 b1 b2 b3 b4 cy th N cc ds de f cs2 be lf od) [5, 6, 7, 8, 9, 10] rfl
  have hDm := hD.sub (ws' := wM h2 b0 b1 b2 b3 b4 cy th N cc ds de f cs2 be lf od) [5, 6, 7, 8, 9, 10] (by decide) rfl
  refine zjVi (As := [.int q]) (rest := []) (wr := wBL h a0 a1 a2 cy N ec cc f cs tr o cl g) 0 [5, 6, 7, 8, 9, 10] [0, 1, 2, 3, 4] rfl rfl rfl (by decide) (by exact fun _ => rfl) ⟨hx, hb, hml, hown, hts⟩ (c_X1_degree_bad l D cy h2 b0 b1 b2 b3 b4 th N cc ds de f cs2 be lf od _ q hq) (cwV 1 hts gL_law_X1_degree rfl rfl rfl (by decide +kernel) ⟨Nat.le_of_ble_eq_true rfl, Nat.le_of_ble_eq_true rfl⟩) (hK.sub [0] rfl) hP hPm hD hDm hA rfl rfl rfl hl rfl (Nat.le_of_ble_eq_true rfl) dL_law_434 ⟨by show _ ≤ 1045; omega, by show _ ≤ 8429; omega⟩ hS (fun r8 u8 H locs hw8 hP hS => ?_)
  have hP : va_P D vwCl (wBL h a0 a1 a2 cy N ec cc f cs tr o cl g ++ wM h2 b0 b1 b2 b3 b4 cy (nI 1) N cc ds de f cs2 be lf od) H := hP
  have hD : va_D (lwAd s) (wBL h a0 a1 a2 cy N ec cc f cs tr o cl g ++ wM h2 b0 b1 b2 b3 b4 cy (nI 1) N cc ds de f cs2 be lf od) := zD hD rfl
  have hw8 : r8 = nI 0 := hw8
  refine lv_istore (lv' := [(6, .int r8), (5, .int (nI 1)), (0, .ref b), (1, .ref h), (2, .ref h2), (3, .ref o), (4, .int (nI i))]) hx hb dL_law_437 hl (by decide) rfl (fun ls hl => ?_)
  refine lv_aload_n hx hb dL_law_439 rfl (lv_at hl 4 rfl) ?_
  have hPt := hP.sub (ws' := wM h2 b0 b1 b2 b3 b4 cy (nI 1) N cc ds de f cs2 be lf od) [5, 6, 7, 8, 9, 10] rfl
  refine zrV (As := []) (rest := []) 0 ⟨hx, hb, hml, hown, hts⟩ (c_X1_thrown l D cy h2 b0 b1 b2 b3 b4 (nI 1) N cc ds de f cs2 be lf od) (cwV 0 hts gL_law_X1_thrown rfl rfl rfl (by decide +kernel) ⟨Nat.le_of_ble_eq_true rfl, Nat.le_of_ble_eq_true rfl⟩) (hK.sub [0] rfl) hPt rfl rfl rfl hl rfl (Nat.le_of_ble_eq_true rfl) dL_law_440 ⟨by show _ ≤ 1045; omega, by show _ ≤ 8429; omega⟩ hS (fun r7 H locs hw7 hk7 hS => ?_)
  obtain rfl : r7 = nI 1 := hw7
  have hP := zkeep hP hk7
  refine lv_iload hx hb dL_law_443 (lv_at hl 1 rfl) ?_
  refine lv_icmp_eq (tgt := 450) hx hb dL_law_445 (by decide) (fun _ => ?_) (fun q => absurd (rfl) q)
  refine lv_iload hx hb dL_law_450 (lv_at hl 1 rfl) ?_
  refine lv_if_ne (tgt := 467) hx hb dL_law_452 (by decide) (fun _ => ?_) (fun q => absurd q (by decide))
  refine lv_goto (tgt := 1334) hx hb dL_law_467 (by decide) ?_
  refine W.widen (k := cells + 1) (n := slots + 6) (by omega) (by omega) ?_
  exact K _ _ _ ⟨hg, _, _, _, _, _, _, _, _, _, _, _, _, hcs, hec, hP, hD⟩ hS (lv_sub hl [2, 3, 4, 5, 6] rfl)

set_option maxHeartbeats 4000000 in
set_option maxRecDepth 100000 in
theorem lw_neighbour_ok (C : lwC p s m c b L xs) (hK : va_K D vwCl [(cy, .int), (cl, .long)] s) (hTL : zThL s) (hfl : l.stackTraces = false) {i : Nat} (hi : i + 3 ≤ L) (hg : gd f N) (hcs : csJ cs (cnum f N) N) (hec : ec = nI (ewn f N (zal N))) (hP : va_P D vwCl (wBL h a0 a1 a2 cy N ec cc f cs tr o cl g ++ wM h2 b0 b1 b2 b3 b4 cy th N cc ds de f cs2 be lf od) H) (hD : va_D (lwAd s) (wBL h a0 a1 a2 cy N ec cc f cs tr o cl g ++ wM h2 b0 b1 b2 b3 b4 cy th N cc ds de f cs2 be lf od)) (hS : va_S (lwAd s) s.heap H locs) (hl : lv_has ls 9 [(0, .ref b), (1, .ref h), (2, .ref h2), (3, .ref o), (4, .int (nI i))]) (hnc : cells + 1 ≤ 1045) (hns : slots + 6 ≤ 8429) {u q : Nat} (hu : u < N) (hq : q < zpop (f u)) (hq1 : xs (i + 1) = (nI u)) (hq2 : xs (i + 2) = (nI q))
  (K : ∀ (H1 : Heap) (locs1 : List Loc) (ls1 : Array Slot), lwI D (lwAd s) h a0 a1 a2 cy o cl h2 b0 b1 b2 b3 b4 N f H1 → va_S (lwAd s) s.heap H1 locs1 → lv_has ls1 9 [(0, .ref b), (1, .ref h), (2, .ref h2), (3, .ref o), (4, .int (nI i))] → W p l e room_1 s m #[Value.ref b] below meth c H1 locs1 (cells + 1) (slots + 6) Q (F0 m 1334 ls1 [])) :
  W p l e room_1 s m #[Value.ref b] below meth c H locs cells slots Q (F0 m 470 ls []) := by
  obtain ⟨hx, hb, hml, hown, hts, hX, hbl, hL⟩ := C
  have hN : N ≤ 20 := hg.1
  have hA : ∀ q : Nat, s.heap.size ≤ q → lwAd s q := fun _ h => h
  have hbA : ¬ lwAd s b := Nat.not_le.mpr hbl
  refine lv_aload_n hx hb dL_law_470 rfl (lv_at hl 1 rfl) ?_
  refine lv_aload_n hx hb dL_law_471 rfl (lv_at hl 0 rfl) ?_
  refine lv_iload hx hb dL_law_472 (lv_at hl 4 rfl) ?_
  refine lv_iconst (v := (nI 1)) hx hb dL_law_474 (by decide) ?_
  refine z_iadd hx hb dL_law_475 ?_
  refine z_sld hx hb hX hbl hbA hS (j := i + 1) (by omega) hL dL_law_476 ?_
  rw [hq1]
  refine lv_aload_n hx hb dL_law_477 rfl (lv_at hl 0 rfl) ?_
  refine lv_iload hx hb dL_law_478 (lv_at hl 4 rfl) ?_
  refine lv_iconst (v := (nI 2)) hx hb dL_law_480 (by decide) ?_
  refine z_iadd hx hb dL_law_481 ?_
  refine z_sld hx hb hX hbl hbA hS (j := i + 2) (by omega) hL dL_law_482 ?_
  rw [hq2]
  refine lv_aload_n hx hb dL_law_483 rfl (lv_at hl 3 rfl) ?_
  have hPb := hP.sub (ws' := wBL h a0 a1 a2 cy N ec cc f cs tr o cl g) [0, 1, 2, 3, 4] rfl
  have hDb := hD.sub (ws' := wBL h a0 a1 a2 cy N ec cc f cs tr o cl g) [0, 1, 2, 3, 4] (by decide) rfl
  refine zjSi (X := (fun _ => True)) (As := [.ref h, .int (nI u), .int (nI q), .ref o]) (rest := []) (wr := wM h2 b0 b1 b2 b3 b4 cy th N cc ds de f cs2 be lf od) [0, 1, 2, 3, 4] [5, 6, 7, 8, 9, 10] rfl rfl rfl (by decide) (by exact fun _ => rfl) ⟨hx, hb, hml, hown, hts⟩ (w_neighbour_ok l D cy h a0 a1 a2 N ec cc f cs tr o cl g _ u q hN hg hu hq) (vx_cwSW 4 hts gL_law_L_neighbour rfl rfl rfl (by decide +kernel) ⟨Nat.le_of_ble_eq_true rfl, Nat.le_of_ble_eq_true rfl⟩) hK hP hPb hD hDb hA (fun _ _ _ _ _ => trivial) (fun _ _ _ => trivial) rfl hl rfl (Nat.le_of_ble_eq_true rfl) dL_law_484 ⟨by show _ ≤ 1045; omega, by show _ ≤ 8429; omega⟩ hS (fun r9 u9 H locs hw9 hP hS => ?_)
  obtain ⟨rfl, hw9⟩ := hw9
  have hw9 : ∃ w, u9 = nI w ∧ bt (f u) w = true ∧ fb_ct (bt (f u)) w = q := hw9
  have hP : va_P D vwCl (wBL h a0 a1 a2 cy N ec cc f cs tr o cl (vp_updL g 0 (u9).toInt64) ++ wM h2 b0 b1 b2 b3 b4 cy th N cc ds de f cs2 be lf od) H := hP.sub [6, 7, 8, 9, 10, 0, 1, 2, 3, 4, 5] rfl
  have hD : va_D (lwAd s) (wBL h a0 a1 a2 cy N ec cc f cs tr o cl (vp_updL g 0 (u9).toInt64) ++ wM h2 b0 b1 b2 b3 b4 cy th N cc ds de f cs2 be lf od) := zD hD rfl
  refine lv_istore (lv' := [(5, .int (nI 0)), (0, .ref b), (1, .ref h), (2, .ref h2), (3, .ref o), (4, .int (nI i))]) hx hb dL_law_487 hl (by decide) rfl (fun ls hl => ?_)
  refine lv_aload_n hx hb dL_law_489 rfl (lv_at hl 3 rfl) ?_
  refine lv_aload_n hx hb dL_law_490 rfl (lv_at hl 1 rfl) ?_
  refine lv_iload hx hb dL_law_491 (lv_at hl 5 rfl) ?_
  refine lv_iconst (v := (nI 1)) hx hb dL_law_493 (by decide) ?_
  refine z_iadd hx hb dL_law_494 ?_
  refine z_sld hx hb hX hbl hbA hS (j := i + 1) (by omega) hL dL_law_495 ?_
  rw [hq1]
  refine lv_aload_n hx hb dL_law_496 rfl (lv_at hl 1 rfl) ?_
  refine lv_iload hx hb dL_law_497 (lv_at hl 5 rfl) ?_
  refine lv_iconst (v := (nI 2)) hx hb dL_law_499 (by decide) ?_
  refine z_iadd hx hb dL_law_500 ?_
  refine z_sld hx hb hX hbl hbA hS (j := i + 2) (by omega) hL dL_law_501 ?_
  rw [hq2]
  have hPm := hP.sub (ws' := wM h2 b0 b1 b2 b3 b4 cy th N cc ds de f cs2 be lf od) [5, 6, 7, 8, 9, 10] rfl
  have hDm := hD.sub (ws' := wM h2 b0 b1 b2 b3 b4 cy th N cc ds de f cs2 be lf od) [5, 6, 7, 8, 9, 10] (by decide) rfl
  refine zjVi (As := [.int (nI u), .int (nI q)]) (rest := []) (wr := wBL h a0 a1 a2 cy N ec cc f cs tr o cl (vp_updL g 0 (u9).toInt64)) 0 [5, 6, 7, 8, 9, 10] [0, 1, 2, 3, 4] rfl rfl rfl (by decide) (by exact fun _ => rfl) ⟨hx, hb, hml, hown, hts⟩ (c_X1_neighbour_ok l D cy h2 b0 b1 b2 b3 b4 th N cc ds de f cs2 be lf od _ u q hN hg hu hq) (cwV 2 hts gL_law_X1_neighbour rfl rfl rfl (by decide +kernel) ⟨Nat.le_of_ble_eq_true rfl, Nat.le_of_ble_eq_true rfl⟩) (hK.sub [0] rfl) hP hPm hD hDm hA rfl rfl rfl hl rfl (Nat.le_of_ble_eq_true rfl) dL_law_502 ⟨by show _ ≤ 1045; omega, by show _ ≤ 8429; omega⟩ hS (fun r8 u8 H locs hw8 hP hS => ?_)
  have hP : va_P D vwCl (wBL h a0 a1 a2 cy N ec cc f cs tr o cl (vp_updL g 0 (u9).toInt64) ++ wM h2 b0 b1 b2 b3 b4 cy (nI 0) N cc ds de f cs2 be lf od) H := hP
  have hD : va_D (lwAd s) (wBL h a0 a1 a2 cy N ec cc f cs tr o cl (vp_updL g 0 (u9).toInt64) ++ wM h2 b0 b1 b2 b3 b4 cy (nI 0) N cc ds de f cs2 be lf od) := zD hD rfl
  have hw8 : ∃ w, r8 = nI w ∧ bt (f u) w = true ∧ fb_ct (bt (f u)) w = q := hw8
  obtain ⟨w9, e9, t9, k9⟩ := hw9
  obtain ⟨w8, e8, t8, k8⟩ := hw8
  have he9 : u9 = r8 := by rw [e9, e8, fb_ct_kth_one t9 t8 (k9.trans k8.symm)]
  refine lv_istore (lv' := [(6, .int r8), (5, .int (nI 0)), (0, .ref b), (1, .ref h), (2, .ref h2), (3, .ref o), (4, .int (nI i))]) hx hb dL_law_505 hl (by decide) rfl (fun ls hl => ?_)
  refine lv_aload_n hx hb dL_law_507 rfl (lv_at hl 4 rfl) ?_
  have hPt := hP.sub (ws' := wM h2 b0 b1 b2 b3 b4 cy (nI 0) N cc ds de f cs2 be lf od) [5, 6, 7, 8, 9, 10] rfl
  refine zrV (As := []) (rest := []) 0 ⟨hx, hb, hml, hown, hts⟩ (c_X1_thrown l D cy h2 b0 b1 b2 b3 b4 (nI 0) N cc ds de f cs2 be lf od) (cwV 0 hts gL_law_X1_thrown rfl rfl rfl (by decide +kernel) ⟨Nat.le_of_ble_eq_true rfl, Nat.le_of_ble_eq_true rfl⟩) (hK.sub [0] rfl) hPt rfl rfl rfl hl rfl (Nat.le_of_ble_eq_true rfl) dL_law_508 ⟨by show _ ≤ 1045; omega, by show _ ≤ 8429; omega⟩ hS (fun r7 H locs hw7 hk7 hS => ?_)
  obtain rfl : r7 = nI 0 := hw7
  have hP := zkeep hP hk7
  refine lv_iload hx hb dL_law_511 (lv_at hl 1 rfl) ?_
  refine lv_icmp_eq (tgt := 518) hx hb dL_law_513 (by decide) (fun _ => ?_) (fun q => absurd (rfl) q)
  refine lv_iload hx hb dL_law_518 (lv_at hl 1 rfl) ?_
  refine lv_if_ne (tgt := 535) hx hb dL_law_520 (by decide) (fun q => absurd rfl q) (fun _ => ?_)
  refine lv_aload_n hx hb dL_law_523 rfl (lv_at hl 5 rfl) ?_
  refine lv_iconst (v := (nI 0)) hx hb dL_law_524 (by decide) ?_
  refine z_lald0 hx hb hK hP 0 1 rfl rfl dL_law_525 ?_
  refine lv_iload hx hb dL_law_526 (lv_at hl 0 rfl) ?_
  refine lv_i2l (v := (r8).toInt64) hx hb dL_law_528 rfl ?_
  refine z_lcmp hx hb (congrArg Int32.toInt64 (he9)) dL_law_529 ?_
  refine lv_if_eq (tgt := 535) hx hb dL_law_530 (by decide) (fun _ => ?_) (fun q => absurd (by decide) q)
  refine lv_goto (tgt := 1334) hx hb dL_law_535 (by decide) ?_
  refine W.widen (k := cells + 1) (n := slots + 6) (by omega) (by omega) ?_
  exact K _ _ _ ⟨hg, _, _, _, _, _, _, _, _, _, _, _, _, hcs, hec, hP, hD⟩ hS (lv_sub hl [2, 3, 4, 5, 6] rfl)

set_option maxHeartbeats 4000000 in
set_option maxRecDepth 100000 in
theorem lw_neighbour_bad (C : lwC p s m c b L xs) (hK : va_K D vwCl [(cy, .int), (cl, .long)] s) (hTL : zThL s) (hfl : l.stackTraces = false) {i : Nat} (hi : i + 3 ≤ L) (hg : gd f N) (hcs : csJ cs (cnum f N) N) (hec : ec = nI (ewn f N (zal N))) (hP : va_P D vwCl (wBL h a0 a1 a2 cy N ec cc f cs tr o cl g ++ wM h2 b0 b1 b2 b3 b4 cy th N cc ds de f cs2 be lf od) H) (hD : va_D (lwAd s) (wBL h a0 a1 a2 cy N ec cc f cs tr o cl g ++ wM h2 b0 b1 b2 b3 b4 cy th N cc ds de f cs2 be lf od)) (hS : va_S (lwAd s) s.heap H locs) (hl : lv_has ls 9 [(0, .ref b), (1, .ref h), (2, .ref h2), (3, .ref o), (4, .int (nI i))]) (hnc : cells + 1 ≤ 1045) (hns : slots + 6 ≤ 8429) {q1 q2 : Int32} (hq : isNb q1 N = false) (hq1 : xs (i + 1) = q1) (hq2 : xs (i + 2) = q2)
  (K : ∀ (H1 : Heap) (locs1 : List Loc) (ls1 : Array Slot), lwI D (lwAd s) h a0 a1 a2 cy o cl h2 b0 b1 b2 b3 b4 N f H1 → va_S (lwAd s) s.heap H1 locs1 → lv_has ls1 9 [(0, .ref b), (1, .ref h), (2, .ref h2), (3, .ref o), (4, .int (nI i))] → W p l e room_1 s m #[Value.ref b] below meth c H1 locs1 (cells + 1) (slots + 6) Q (F0 m 1334 ls1 [])) :
  W p l e room_1 s m #[Value.ref b] below meth c H locs cells slots Q (F0 m 470 ls []) := by
  obtain ⟨hx, hb, hml, hown, hts, hX, hbl, hL⟩ := C
  have hN : N ≤ 20 := hg.1
  have hA : ∀ q : Nat, s.heap.size ≤ q → lwAd s q := fun _ h => h
  have hbA : ¬ lwAd s b := Nat.not_le.mpr hbl
  refine lv_aload_n hx hb dL_law_470 rfl (lv_at hl 1 rfl) ?_
  refine lv_aload_n hx hb dL_law_471 rfl (lv_at hl 0 rfl) ?_
  refine lv_iload hx hb dL_law_472 (lv_at hl 4 rfl) ?_
  refine lv_iconst (v := (nI 1)) hx hb dL_law_474 (by decide) ?_
  refine z_iadd hx hb dL_law_475 ?_
  refine z_sld hx hb hX hbl hbA hS (j := i + 1) (by omega) hL dL_law_476 ?_
  rw [hq1]
  refine lv_aload_n hx hb dL_law_477 rfl (lv_at hl 0 rfl) ?_
  refine lv_iload hx hb dL_law_478 (lv_at hl 4 rfl) ?_
  refine lv_iconst (v := (nI 2)) hx hb dL_law_480 (by decide) ?_
  refine z_iadd hx hb dL_law_481 ?_
  refine z_sld hx hb hX hbl hbA hS (j := i + 2) (by omega) hL dL_law_482 ?_
  rw [hq2]
  refine lv_aload_n hx hb dL_law_483 rfl (lv_at hl 3 rfl) ?_
  have hPb := hP.sub (ws' := wBL h a0 a1 a2 cy N ec cc f cs tr o cl g) [0, 1, 2, 3, 4] rfl
  have hDb := hD.sub (ws' := wBL h a0 a1 a2 cy N ec cc f cs tr o cl g) [0, 1, 2, 3, 4] (by decide) rfl
  refine zjSi (X := zTh) (As := [.ref h, .int q1, .int q2, .ref o]) (rest := []) (wr := wM h2 b0 b1 b2 b3 b4 cy th N cc ds de f cs2 be lf od) [0, 1, 2, 3, 4] [5, 6, 7, 8, 9, 10] rfl rfl rfl (by decide) (by exact fun _ => rfl) ⟨hx, hb, hml, hown, hts⟩ (w_neighbour_bad l hfl D cy h a0 a1 a2 N ec cc f cs tr o cl g _ q1 q2 hq) (vx_cwSW 4 hts gL_law_L_neighbour rfl rfl rfl (by decide +kernel) ⟨Nat.le_of_ble_eq_true rfl, Nat.le_of_ble_eq_true rfl⟩) hK hP hPb hD hDb hA (fun U g mk a q => q.same rfl rfl) (fun U hU hW => hTL.at hS hU hW) rfl hl rfl (Nat.le_of_ble_eq_true rfl) dL_law_484 ⟨by show _ ≤ 1045; omega, by show _ ≤ 8429; omega⟩ hS (fun r9 u9 H locs hw9 hP hS => ?_)
  obtain rfl : r9 = nI 1 := hw9
  have hP : va_P D vwCl (wBL h a0 a1 a2 cy N ec cc f cs tr o cl g ++ wM h2 b0 b1 b2 b3 b4 cy th N cc ds de f cs2 be lf od) H := hP.sub [6, 7, 8, 9, 10, 0, 1, 2, 3, 4, 5] rfl
  have hD : va_D (lwAd s) (wBL h a0 a1 a2 cy N ec cc f cs tr o cl g ++ wM h2 b0 b1 b2 b3 b4 cy th N cc ds de f cs2 be lf od) := zD hD rfl
  refine lv_istore (lv' := [(5, .int (nI 1)), (0, .ref b), (1, .ref h), (2, .ref h2), (3, .ref o), (4, .int (nI i))]) hx hb dL_law_487 hl (by decide) rfl (fun ls hl => ?_)
  refine lv_aload_n hx hb dL_law_489 rfl (lv_at hl 3 rfl) ?_
  refine lv_aload_n hx hb dL_law_490 rfl (lv_at hl 1 rfl) ?_
  refine lv_iload hx hb dL_law_491 (lv_at hl 5 rfl) ?_
  refine lv_iconst (v := (nI 1)) hx hb dL_law_493 (by decide) ?_
  refine z_iadd hx hb dL_law_494 ?_
  refine z_sld hx hb hX hbl hbA hS (j := i + 1) (by omega) hL dL_law_495 ?_
  rw [hq1]
  refine lv_aload_n hx hb dL_law_496 rfl (lv_at hl 1 rfl) ?_
  refine lv_iload hx hb dL_law_497 (lv_at hl 5 rfl) ?_
  refine lv_iconst (v := (nI 2)) hx hb dL_law_499 (by decide) ?_
  refine z_iadd hx hb dL_law_500 ?_
  refine z_sld hx hb hX hbl hbA hS (j := i + 2) (by omega) hL dL_law_501 ?_
  rw [hq2]
  have hPm := hP.sub (ws' := wM h2 b0 b1 b2 b3 b4 cy th N cc ds de f cs2 be lf od) [5, 6, 7, 8, 9, 10] rfl
  have hDm := hD.sub (ws' := wM h2 b0 b1 b2 b3 b4 cy th N cc ds de f cs2 be lf od) [5, 6, 7, 8, 9, 10] (by decide) rfl
  refine zjVi (As := [.int q1, .int q2]) (rest := []) (wr := wBL h a0 a1 a2 cy N ec cc f cs tr o cl g) 0 [5, 6, 7, 8, 9, 10] [0, 1, 2, 3, 4] rfl rfl rfl (by decide) (by exact fun _ => rfl) ⟨hx, hb, hml, hown, hts⟩ (c_X1_neighbour_badn l D cy h2 b0 b1 b2 b3 b4 th N cc ds de f cs2 be lf od _ q1 q2 hq) (cwV 2 hts gL_law_X1_neighbour rfl rfl rfl (by decide +kernel) ⟨Nat.le_of_ble_eq_true rfl, Nat.le_of_ble_eq_true rfl⟩) (hK.sub [0] rfl) hP hPm hD hDm hA rfl rfl rfl hl rfl (Nat.le_of_ble_eq_true rfl) dL_law_502 ⟨by show _ ≤ 1045; omega, by show _ ≤ 8429; omega⟩ hS (fun r8 u8 H locs hw8 hP hS => ?_)
  have hP : va_P D vwCl (wBL h a0 a1 a2 cy N ec cc f cs tr o cl g ++ wM h2 b0 b1 b2 b3 b4 cy (nI 1) N cc ds de f cs2 be lf od) H := hP
  have hD : va_D (lwAd s) (wBL h a0 a1 a2 cy N ec cc f cs tr o cl g ++ wM h2 b0 b1 b2 b3 b4 cy (nI 1) N cc ds de f cs2 be lf od) := zD hD rfl
  have hw8 : r8 = nI 0 := hw8
  refine lv_istore (lv' := [(6, .int r8), (5, .int (nI 1)), (0, .ref b), (1, .ref h), (2, .ref h2), (3, .ref o), (4, .int (nI i))]) hx hb dL_law_505 hl (by decide) rfl (fun ls hl => ?_)
  refine lv_aload_n hx hb dL_law_507 rfl (lv_at hl 4 rfl) ?_
  have hPt := hP.sub (ws' := wM h2 b0 b1 b2 b3 b4 cy (nI 1) N cc ds de f cs2 be lf od) [5, 6, 7, 8, 9, 10] rfl
  refine zrV (As := []) (rest := []) 0 ⟨hx, hb, hml, hown, hts⟩ (c_X1_thrown l D cy h2 b0 b1 b2 b3 b4 (nI 1) N cc ds de f cs2 be lf od) (cwV 0 hts gL_law_X1_thrown rfl rfl rfl (by decide +kernel) ⟨Nat.le_of_ble_eq_true rfl, Nat.le_of_ble_eq_true rfl⟩) (hK.sub [0] rfl) hPt rfl rfl rfl hl rfl (Nat.le_of_ble_eq_true rfl) dL_law_508 ⟨by show _ ≤ 1045; omega, by show _ ≤ 8429; omega⟩ hS (fun r7 H locs hw7 hk7 hS => ?_)
  obtain rfl : r7 = nI 1 := hw7
  have hP := zkeep hP hk7
  refine lv_iload hx hb dL_law_511 (lv_at hl 1 rfl) ?_
  refine lv_icmp_eq (tgt := 518) hx hb dL_law_513 (by decide) (fun _ => ?_) (fun q => absurd (rfl) q)
  refine lv_iload hx hb dL_law_518 (lv_at hl 1 rfl) ?_
  refine lv_if_ne (tgt := 535) hx hb dL_law_520 (by decide) (fun _ => ?_) (fun q => absurd q (by decide))
  refine lv_goto (tgt := 1334) hx hb dL_law_535 (by decide) ?_
  refine W.widen (k := cells + 1) (n := slots + 6) (by omega) (by omega) ?_
  exact K _ _ _ ⟨hg, _, _, _, _, _, _, _, _, _, _, _, _, hcs, hec, hP, hD⟩ hS (lv_sub hl [2, 3, 4, 5, 6] rfl)

set_option maxHeartbeats 4000000 in
set_option maxRecDepth 100000 in
theorem lw_neighbour_badi (C : lwC p s m c b L xs) (hK : va_K D vwCl [(cy, .int), (cl, .long)] s) (hTL : zThL s) (hfl : l.stackTraces = false) {i : Nat} (hi : i + 3 ≤ L) (hg : gd f N) (hcs : csJ cs (cnum f N) N) (hec : ec = nI (ewn f N (zal N))) (hP : va_P D vwCl (wBL h a0 a1 a2 cy N ec cc f cs tr o cl g ++ wM h2 b0 b1 b2 b3 b4 cy th N cc ds de f cs2 be lf od) H) (hD : va_D (lwAd s) (wBL h a0 a1 a2 cy N ec cc f cs tr o cl g ++ wM h2 b0 b1 b2 b3 b4 cy th N cc ds de f cs2 be lf od)) (hS : va_S (lwAd s) s.heap H locs) (hl : lv_has ls 9 [(0, .ref b), (1, .ref h), (2, .ref h2), (3, .ref o), (4, .int (nI i))]) (hnc : cells + 1 ≤ 1045) (hns : slots + 6 ≤ 8429) {u : Nat} {q : Int32} (hu : u < N) (hq : q < 0 ∨ nI (zpop (f u)) ≤ q) (hq1 : xs (i + 1) = (nI u)) (hq2 : xs (i + 2) = q)
  (K : ∀ (H1 : Heap) (locs1 : List Loc) (ls1 : Array Slot), lwI D (lwAd s) h a0 a1 a2 cy o cl h2 b0 b1 b2 b3 b4 N f H1 → va_S (lwAd s) s.heap H1 locs1 → lv_has ls1 9 [(0, .ref b), (1, .ref h), (2, .ref h2), (3, .ref o), (4, .int (nI i))] → W p l e room_1 s m #[Value.ref b] below meth c H1 locs1 (cells + 1) (slots + 6) Q (F0 m 1334 ls1 [])) :
  W p l e room_1 s m #[Value.ref b] below meth c H locs cells slots Q (F0 m 470 ls []) := by
  obtain ⟨hx, hb, hml, hown, hts, hX, hbl, hL⟩ := C
  have hN : N ≤ 20 := hg.1
  have hA : ∀ q : Nat, s.heap.size ≤ q → lwAd s q := fun _ h => h
  have hbA : ¬ lwAd s b := Nat.not_le.mpr hbl
  refine lv_aload_n hx hb dL_law_470 rfl (lv_at hl 1 rfl) ?_
  refine lv_aload_n hx hb dL_law_471 rfl (lv_at hl 0 rfl) ?_
  refine lv_iload hx hb dL_law_472 (lv_at hl 4 rfl) ?_
  refine lv_iconst (v := (nI 1)) hx hb dL_law_474 (by decide) ?_
  refine z_iadd hx hb dL_law_475 ?_
  refine z_sld hx hb hX hbl hbA hS (j := i + 1) (by omega) hL dL_law_476 ?_
  rw [hq1]
  refine lv_aload_n hx hb dL_law_477 rfl (lv_at hl 0 rfl) ?_
  refine lv_iload hx hb dL_law_478 (lv_at hl 4 rfl) ?_
  refine lv_iconst (v := (nI 2)) hx hb dL_law_480 (by decide) ?_
  refine z_iadd hx hb dL_law_481 ?_
  refine z_sld hx hb hX hbl hbA hS (j := i + 2) (by omega) hL dL_law_482 ?_
  rw [hq2]
  refine lv_aload_n hx hb dL_law_483 rfl (lv_at hl 3 rfl) ?_
  have hPb := hP.sub (ws' := wBL h a0 a1 a2 cy N ec cc f cs tr o cl g) [0, 1, 2, 3, 4] rfl
  have hDb := hD.sub (ws' := wBL h a0 a1 a2 cy N ec cc f cs tr o cl g) [0, 1, 2, 3, 4] (by decide) rfl
  refine zjSi (X := zTh) (As := [.ref h, .int (nI u), .int q, .ref o]) (rest := []) (wr := wM h2 b0 b1 b2 b3 b4 cy th N cc ds de f cs2 be lf od) [0, 1, 2, 3, 4] [5, 6, 7, 8, 9, 10] rfl rfl rfl (by decide) (by exact fun _ => rfl) ⟨hx, hb, hml, hown, hts⟩ (w_neighbour_badi l hfl D cy h a0 a1 a2 N ec cc f cs tr o cl g _ u q hN hg hu hq) (vx_cwSW 4 hts gL_law_L_neighbour rfl rfl rfl (by decide +kernel) ⟨Nat.le_of_ble_eq_true rfl, Nat.le_of_ble_eq_true rfl⟩) hK hP hPb hD hDb hA (fun U g mk a q => q.same rfl rfl) (fun U hU hW => hTL.at hS hU hW) rfl hl rfl (Nat.le_of_ble_eq_true rfl) dL_law_484 ⟨by show _ ≤ 1045; omega, by show _ ≤ 8429; omega⟩ hS (fun r9 u9 H locs hw9 hP hS => ?_)
  obtain rfl : r9 = nI 1 := hw9
  have hP : va_P D vwCl (wBL h a0 a1 a2 cy N ec cc f cs tr o cl g ++ wM h2 b0 b1 b2 b3 b4 cy th N cc ds de f cs2 be lf od) H := hP.sub [6, 7, 8, 9, 10, 0, 1, 2, 3, 4, 5] rfl
  have hD : va_D (lwAd s) (wBL h a0 a1 a2 cy N ec cc f cs tr o cl g ++ wM h2 b0 b1 b2 b3 b4 cy th N cc ds de f cs2 be lf od) := zD hD rfl
  refine lv_istore (lv' := [(5, .int (nI 1)), (0, .ref b), (1, .ref h), (2, .ref h2), (3, .ref o), (4, .int (nI i))]) hx hb dL_law_487 hl (by decide) rfl (fun ls hl => ?_)
  refine lv_aload_n hx hb dL_law_489 rfl (lv_at hl 3 rfl) ?_
  refine lv_aload_n hx hb dL_law_490 rfl (lv_at hl 1 rfl) ?_
  refine lv_iload hx hb dL_law_491 (lv_at hl 5 rfl) ?_
  refine lv_iconst (v := (nI 1)) hx hb dL_law_493 (by decide) ?_
  refine z_iadd hx hb dL_law_494 ?_
  refine z_sld hx hb hX hbl hbA hS (j := i + 1) (by omega) hL dL_law_495 ?_
  rw [hq1]
  refine lv_aload_n hx hb dL_law_496 rfl (lv_at hl 1 rfl) ?_
  refine lv_iload hx hb dL_law_497 (lv_at hl 5 rfl) ?_
  refine lv_iconst (v := (nI 2)) hx hb dL_law_499 (by decide) ?_
  refine z_iadd hx hb dL_law_500 ?_
  refine z_sld hx hb hX hbl hbA hS (j := i + 2) (by omega) hL dL_law_501 ?_
  rw [hq2]
  have hPm := hP.sub (ws' := wM h2 b0 b1 b2 b3 b4 cy th N cc ds de f cs2 be lf od) [5, 6, 7, 8, 9, 10] rfl
  have hDm := hD.sub (ws' := wM h2 b0 b1 b2 b3 b4 cy th N cc ds de f cs2 be lf od) [5, 6, 7, 8, 9, 10] (by decide) rfl
  refine zjVi (As := [.int (nI u), .int q]) (rest := []) (wr := wBL h a0 a1 a2 cy N ec cc f cs tr o cl g) 0 [5, 6, 7, 8, 9, 10] [0, 1, 2, 3, 4] rfl rfl rfl (by decide) (by exact fun _ => rfl) ⟨hx, hb, hml, hown, hts⟩ (c_X1_neighbour_badi l D cy h2 b0 b1 b2 b3 b4 th N cc ds de f cs2 be lf od _ u q hN hg hu hq) (cwV 2 hts gL_law_X1_neighbour rfl rfl rfl (by decide +kernel) ⟨Nat.le_of_ble_eq_true rfl, Nat.le_of_ble_eq_true rfl⟩) (hK.sub [0] rfl) hP hPm hD hDm hA rfl rfl rfl hl rfl (Nat.le_of_ble_eq_true rfl) dL_law_502 ⟨by show _ ≤ 1045; omega, by show _ ≤ 8429; omega⟩ hS (fun r8 u8 H locs hw8 hP hS => ?_)
  have hP : va_P D vwCl (wBL h a0 a1 a2 cy N ec cc f cs tr o cl g ++ wM h2 b0 b1 b2 b3 b4 cy (nI 1) N cc ds de f cs2 be lf od) H := hP
  have hD : va_D (lwAd s) (wBL h a0 a1 a2 cy N ec cc f cs tr o cl g ++ wM h2 b0 b1 b2 b3 b4 cy (nI 1) N cc ds de f cs2 be lf od) := zD hD rfl
  have hw8 : r8 = nI 0 := hw8
  refine lv_istore (lv' := [(6, .int r8), (5, .int (nI 1)), (0, .ref b), (1, .ref h), (2, .ref h2), (3, .ref o), (4, .int (nI i))]) hx hb dL_law_505 hl (by decide) rfl (fun ls hl => ?_)
  refine lv_aload_n hx hb dL_law_507 rfl (lv_at hl 4 rfl) ?_
  have hPt := hP.sub (ws' := wM h2 b0 b1 b2 b3 b4 cy (nI 1) N cc ds de f cs2 be lf od) [5, 6, 7, 8, 9, 10] rfl
  refine zrV (As := []) (rest := []) 0 ⟨hx, hb, hml, hown, hts⟩ (c_X1_thrown l D cy h2 b0 b1 b2 b3 b4 (nI 1) N cc ds de f cs2 be lf od) (cwV 0 hts gL_law_X1_thrown rfl rfl rfl (by decide +kernel) ⟨Nat.le_of_ble_eq_true rfl, Nat.le_of_ble_eq_true rfl⟩) (hK.sub [0] rfl) hPt rfl rfl rfl hl rfl (Nat.le_of_ble_eq_true rfl) dL_law_508 ⟨by show _ ≤ 1045; omega, by show _ ≤ 8429; omega⟩ hS (fun r7 H locs hw7 hk7 hS => ?_)
  obtain rfl : r7 = nI 1 := hw7
  have hP := zkeep hP hk7
  refine lv_iload hx hb dL_law_511 (lv_at hl 1 rfl) ?_
  refine lv_icmp_eq (tgt := 518) hx hb dL_law_513 (by decide) (fun _ => ?_) (fun q => absurd (rfl) q)
  refine lv_iload hx hb dL_law_518 (lv_at hl 1 rfl) ?_
  refine lv_if_ne (tgt := 535) hx hb dL_law_520 (by decide) (fun _ => ?_) (fun q => absurd q (by decide))
  refine lv_goto (tgt := 1334) hx hb dL_law_535 (by decide) ?_
  refine W.widen (k := cells + 1) (n := slots + 6) (by omega) (by omega) ?_
  exact K _ _ _ ⟨hg, _, _, _, _, _, _, _, _, _, _, _, _, hcs, hec, hP, hD⟩ hS (lv_sub hl [2, 3, 4, 5, 6] rfl)

set_option maxHeartbeats 4000000 in
set_option maxRecDepth 100000 in
theorem lw_areJoined_ok (C : lwC p s m c b L xs) (hK : va_K D vwCl [(cy, .int), (cl, .long)] s) (hTL : zThL s) (hfl : l.stackTraces = false) {i : Nat} (hi : i + 3 ≤ L) (hg : gd f N) (hcs : csJ cs (cnum f N) N) (hec : ec = nI (ewn f N (zal N))) (hP : va_P D vwCl (wBL h a0 a1 a2 cy N ec cc f cs tr o cl g ++ wM h2 b0 b1 b2 b3 b4 cy th N cc ds de f cs2 be lf od) H) (hD : va_D (lwAd s) (wBL h a0 a1 a2 cy N ec cc f cs tr o cl g ++ wM h2 b0 b1 b2 b3 b4 cy th N cc ds de f cs2 be lf od)) (hS : va_S (lwAd s) s.heap H locs) (hl : lv_has ls 9 [(0, .ref b), (1, .ref h), (2, .ref h2), (3, .ref o), (4, .int (nI i))]) (hnc : cells + 1 ≤ 1045) (hns : slots + 6 ≤ 8429) {u v : Nat} (hu : u < N) (hv : v < N) (hq1 : xs (i + 1) = (nI u)) (hq2 : xs (i + 2) = (nI v))
  (K : ∀ (H1 : Heap) (locs1 : List Loc) (ls1 : Array Slot), lwI D (lwAd s) h a0 a1 a2 cy o cl h2 b0 b1 b2 b3 b4 N f H1 → va_S (lwAd s) s.heap H1 locs1 → lv_has ls1 9 [(0, .ref b), (1, .ref h), (2, .ref h2), (3, .ref o), (4, .int (nI i))] → W p l e room_1 s m #[Value.ref b] below meth c H1 locs1 (cells + 1) (slots + 6) Q (F0 m 1334 ls1 [])) :
  W p l e room_1 s m #[Value.ref b] below meth c H locs cells slots Q (F0 m 538 ls []) := by
  obtain ⟨hx, hb, hml, hown, hts, hX, hbl, hL⟩ := C
  have hN : N ≤ 20 := hg.1
  have hA : ∀ q : Nat, s.heap.size ≤ q → lwAd s q := fun _ h => h
  have hbA : ¬ lwAd s b := Nat.not_le.mpr hbl
  refine lv_aload_n hx hb dL_law_538 rfl (lv_at hl 1 rfl) ?_
  refine lv_aload_n hx hb dL_law_539 rfl (lv_at hl 0 rfl) ?_
  refine lv_iload hx hb dL_law_540 (lv_at hl 4 rfl) ?_
  refine lv_iconst (v := (nI 1)) hx hb dL_law_542 (by decide) ?_
  refine z_iadd hx hb dL_law_543 ?_
  refine z_sld hx hb hX hbl hbA hS (j := i + 1) (by omega) hL dL_law_544 ?_
  rw [hq1]
  refine lv_aload_n hx hb dL_law_545 rfl (lv_at hl 0 rfl) ?_
  refine lv_iload hx hb dL_law_546 (lv_at hl 4 rfl) ?_
  refine lv_iconst (v := (nI 2)) hx hb dL_law_548 (by decide) ?_
  refine z_iadd hx hb dL_law_549 ?_
  refine z_sld hx hb hX hbl hbA hS (j := i + 2) (by omega) hL dL_law_550 ?_
  rw [hq2]
  refine lv_aload_n hx hb dL_law_551 rfl (lv_at hl 3 rfl) ?_
  have hPb := hP.sub (ws' := wBL h a0 a1 a2 cy N ec cc f cs tr o cl g) [0, 1, 2, 3, 4] rfl
  have hDb := hD.sub (ws' := wBL h a0 a1 a2 cy N ec cc f cs tr o cl g) [0, 1, 2, 3, 4] (by decide) rfl
  refine zjSi (X := (fun _ => True)) (As := [.ref h, .int (nI u), .int (nI v), .ref o]) (rest := []) (wr := wM h2 b0 b1 b2 b3 b4 cy th N cc ds de f cs2 be lf od) [0, 1, 2, 3, 4] [5, 6, 7, 8, 9, 10] rfl rfl rfl (by decide) (by exact fun _ => rfl) ⟨hx, hb, hml, hown, hts⟩ (w_areJoined_ok l D cy h a0 a1 a2 N ec cc f cs tr o cl g _ u v hN hu hv) (vx_cwSW 4 hts gL_law_L_areJoined rfl rfl rfl (by decide +kernel) ⟨Nat.le_of_ble_eq_true rfl, Nat.le_of_ble_eq_true rfl⟩) hK hP hPb hD hDb hA (fun _ _ _ _ _ => trivial) (fun _ _ _ => trivial) rfl hl rfl (Nat.le_of_ble_eq_true rfl) dL_law_552 ⟨by show _ ≤ 1045; omega, by show _ ≤ 8429; omega⟩ hS (fun r9 u9 H locs hw9 hP hS => ?_)
  obtain ⟨rfl, hw9⟩ := hw9
  have hw9 : u9 = zb (bt (f u) v) := hw9
  have hP : va_P D vwCl (wBL h a0 a1 a2 cy N ec cc f cs tr o cl (vp_updL g 0 (u9).toInt64) ++ wM h2 b0 b1 b2 b3 b4 cy th N cc ds de f cs2 be lf od) H := hP.sub [6, 7, 8, 9, 10, 0, 1, 2, 3, 4, 5] rfl
  have hD : va_D (lwAd s) (wBL h a0 a1 a2 cy N ec cc f cs tr o cl (vp_updL g 0 (u9).toInt64) ++ wM h2 b0 b1 b2 b3 b4 cy th N cc ds de f cs2 be lf od) := zD hD rfl
  refine lv_istore (lv' := [(5, .int (nI 0)), (0, .ref b), (1, .ref h), (2, .ref h2), (3, .ref o), (4, .int (nI i))]) hx hb dL_law_555 hl (by decide) rfl (fun ls hl => ?_)
  refine lv_aload_n hx hb dL_law_557 rfl (lv_at hl 3 rfl) ?_
  refine lv_aload_n hx hb dL_law_558 rfl (lv_at hl 1 rfl) ?_
  refine lv_iload hx hb dL_law_559 (lv_at hl 5 rfl) ?_
  refine lv_iconst (v := (nI 1)) hx hb dL_law_561 (by decide) ?_
  refine z_iadd hx hb dL_law_562 ?_
  refine z_sld hx hb hX hbl hbA hS (j := i + 1) (by omega) hL dL_law_563 ?_
  rw [hq1]
  refine lv_aload_n hx hb dL_law_564 rfl (lv_at hl 1 rfl) ?_
  refine lv_iload hx hb dL_law_565 (lv_at hl 5 rfl) ?_
  refine lv_iconst (v := (nI 2)) hx hb dL_law_567 (by decide) ?_
  refine z_iadd hx hb dL_law_568 ?_
  refine z_sld hx hb hX hbl hbA hS (j := i + 2) (by omega) hL dL_law_569 ?_
  rw [hq2]
  have hPm := hP.sub (ws' := wM h2 b0 b1 b2 b3 b4 cy th N cc ds de f cs2 be lf od) [5, 6, 7, 8, 9, 10] rfl
  have hDm := hD.sub (ws' := wM h2 b0 b1 b2 b3 b4 cy th N cc ds de f cs2 be lf od) [5, 6, 7, 8, 9, 10] (by decide) rfl
  refine zjVi (As := [.int (nI u), .int (nI v)]) (rest := []) (wr := wBL h a0 a1 a2 cy N ec cc f cs tr o cl (vp_updL g 0 (u9).toInt64)) 0 [5, 6, 7, 8, 9, 10] [0, 1, 2, 3, 4] rfl rfl rfl (by decide) (by exact fun _ => rfl) ⟨hx, hb, hml, hown, hts⟩ (c_X1_areJoined_ok l D cy h2 b0 b1 b2 b3 b4 th N cc ds de f cs2 be lf od _ u v hN hu hv) (cwV 2 hts gL_law_X1_areJoined rfl rfl rfl (by decide +kernel) ⟨Nat.le_of_ble_eq_true rfl, Nat.le_of_ble_eq_true rfl⟩) (hK.sub [0] rfl) hP hPm hD hDm hA rfl rfl rfl hl rfl (Nat.le_of_ble_eq_true rfl) dL_law_570 ⟨by show _ ≤ 1045; omega, by show _ ≤ 8429; omega⟩ hS (fun r8 u8 H locs hw8 hP hS => ?_)
  have hP : va_P D vwCl (wBL h a0 a1 a2 cy N ec cc f cs tr o cl (vp_updL g 0 (u9).toInt64) ++ wM h2 b0 b1 b2 b3 b4 cy (nI 0) N cc ds de f cs2 be lf od) H := hP
  have hD : va_D (lwAd s) (wBL h a0 a1 a2 cy N ec cc f cs tr o cl (vp_updL g 0 (u9).toInt64) ++ wM h2 b0 b1 b2 b3 b4 cy (nI 0) N cc ds de f cs2 be lf od) := zD hD rfl
  have hw8 : r8 = zb (bt (f u) v) := hw8
  obtain rfl : r8 = zb (bt (f u) v) := hw8
  refine lv_istore (lv' := [(6, .int (zb (bt (f u) v))), (5, .int (nI 0)), (0, .ref b), (1, .ref h), (2, .ref h2), (3, .ref o), (4, .int (nI i))]) hx hb dL_law_573 hl (by decide) rfl (fun ls hl => ?_)
  refine lv_aload_n hx hb dL_law_575 rfl (lv_at hl 4 rfl) ?_
  have hPt := hP.sub (ws' := wM h2 b0 b1 b2 b3 b4 cy (nI 0) N cc ds de f cs2 be lf od) [5, 6, 7, 8, 9, 10] rfl
  refine zrV (As := []) (rest := []) 0 ⟨hx, hb, hml, hown, hts⟩ (c_X1_thrown l D cy h2 b0 b1 b2 b3 b4 (nI 0) N cc ds de f cs2 be lf od) (cwV 0 hts gL_law_X1_thrown rfl rfl rfl (by decide +kernel) ⟨Nat.le_of_ble_eq_true rfl, Nat.le_of_ble_eq_true rfl⟩) (hK.sub [0] rfl) hPt rfl rfl rfl hl rfl (Nat.le_of_ble_eq_true rfl) dL_law_576 ⟨by show _ ≤ 1045; omega, by show _ ≤ 8429; omega⟩ hS (fun r7 H locs hw7 hk7 hS => ?_)
  obtain rfl : r7 = nI 0 := hw7
  have hP := zkeep hP hk7
  refine lv_iload hx hb dL_law_579 (lv_at hl 1 rfl) ?_
  refine lv_icmp_eq (tgt := 586) hx hb dL_law_581 (by decide) (fun _ => ?_) (fun q => absurd (rfl) q)
  refine lv_iload hx hb dL_law_586 (lv_at hl 1 rfl) ?_
  refine lv_if_ne (tgt := 610) hx hb dL_law_588 (by decide) (fun q => absurd rfl q) (fun _ => ?_)
  refine lv_aload_n hx hb dL_law_591 rfl (lv_at hl 5 rfl) ?_
  refine lv_iconst (v := (nI 0)) hx hb dL_law_592 (by decide) ?_
  refine z_lald0 hx hb hK hP 0 1 rfl rfl dL_law_593 ?_
  refine lv_iload hx hb dL_law_594 (lv_at hl 0 rfl) ?_
  refine z_ifb_eq (tgt := 603) hx hb dL_law_596 (by decide) (fun h596 => ?_) (fun h596 => ?_)
  · refine lv_lconst (v := (zb false).toInt64) hx hb dL_law_603 (by decide) ?_
    refine z_lcmp hx hb (congrArg Int32.toInt64 (hw9.trans (by rw [h596]))) dL_law_604 ?_
    refine lv_if_eq (tgt := 610) hx hb dL_law_605 (by decide) (fun _ => ?_) (fun q => absurd (by decide) q)
    refine lv_goto (tgt := 1334) hx hb dL_law_610 (by decide) ?_
    refine W.widen (k := cells + 1) (n := slots + 6) (by omega) (by omega) ?_
    exact K _ _ _ ⟨hg, _, _, _, _, _, _, _, _, _, _, _, _, hcs, hec, hP, hD⟩ hS (lv_sub hl [2, 3, 4, 5, 6] rfl)
  · refine lv_lconst (v := (zb true).toInt64) hx hb dL_law_599 (by decide) ?_
    refine lv_goto (tgt := 604) hx hb dL_law_600 (by decide) ?_
    refine z_lcmp hx hb (congrArg Int32.toInt64 (hw9.trans (by rw [h596]))) dL_law_604 ?_
    refine lv_if_eq (tgt := 610) hx hb dL_law_605 (by decide) (fun _ => ?_) (fun q => absurd (by decide) q)
    refine lv_goto (tgt := 1334) hx hb dL_law_610 (by decide) ?_
    refine W.widen (k := cells + 1) (n := slots + 6) (by omega) (by omega) ?_
    exact K _ _ _ ⟨hg, _, _, _, _, _, _, _, _, _, _, _, _, hcs, hec, hP, hD⟩ hS (lv_sub hl [2, 3, 4, 5, 6] rfl)

set_option maxHeartbeats 4000000 in
set_option maxRecDepth 100000 in
theorem lw_areJoined_bad1 (C : lwC p s m c b L xs) (hK : va_K D vwCl [(cy, .int), (cl, .long)] s) (hTL : zThL s) (hfl : l.stackTraces = false) {i : Nat} (hi : i + 3 ≤ L) (hg : gd f N) (hcs : csJ cs (cnum f N) N) (hec : ec = nI (ewn f N (zal N))) (hP : va_P D vwCl (wBL h a0 a1 a2 cy N ec cc f cs tr o cl g ++ wM h2 b0 b1 b2 b3 b4 cy th N cc ds de f cs2 be lf od) H) (hD : va_D (lwAd s) (wBL h a0 a1 a2 cy N ec cc f cs tr o cl g ++ wM h2 b0 b1 b2 b3 b4 cy th N cc ds de f cs2 be lf od)) (hS : va_S (lwAd s) s.heap H locs) (hl : lv_has ls 9 [(0, .ref b), (1, .ref h), (2, .ref h2), (3, .ref o), (4, .int (nI i))]) (hnc : cells + 1 ≤ 1045) (hns : slots + 6 ≤ 8429) {q1 q2 : Int32} (hq : isNb q1 N = false) (hq1 : xs (i + 1) = q1) (hq2 : xs (i + 2) = q2)
  (K : ∀ (H1 : Heap) (locs1 : List Loc) (ls1 : Array Slot), lwI D (lwAd s) h a0 a1 a2 cy o cl h2 b0 b1 b2 b3 b4 N f H1 → va_S (lwAd s) s.heap H1 locs1 → lv_has ls1 9 [(0, .ref b), (1, .ref h), (2, .ref h2), (3, .ref o), (4, .int (nI i))] → W p l e room_1 s m #[Value.ref b] below meth c H1 locs1 (cells + 1) (slots + 6) Q (F0 m 1334 ls1 [])) :
  W p l e room_1 s m #[Value.ref b] below meth c H locs cells slots Q (F0 m 538 ls []) := by
  obtain ⟨hx, hb, hml, hown, hts, hX, hbl, hL⟩ := C
  have hN : N ≤ 20 := hg.1
  have hA : ∀ q : Nat, s.heap.size ≤ q → lwAd s q := fun _ h => h
  have hbA : ¬ lwAd s b := Nat.not_le.mpr hbl
  refine lv_aload_n hx hb dL_law_538 rfl (lv_at hl 1 rfl) ?_
  refine lv_aload_n hx hb dL_law_539 rfl (lv_at hl 0 rfl) ?_
  refine lv_iload hx hb dL_law_540 (lv_at hl 4 rfl) ?_
  refine lv_iconst (v := (nI 1)) hx hb dL_law_542 (by decide) ?_
  refine z_iadd hx hb dL_law_543 ?_
  refine z_sld hx hb hX hbl hbA hS (j := i + 1) (by omega) hL dL_law_544 ?_
  rw [hq1]
  refine lv_aload_n hx hb dL_law_545 rfl (lv_at hl 0 rfl) ?_
  refine lv_iload hx hb dL_law_546 (lv_at hl 4 rfl) ?_
  refine lv_iconst (v := (nI 2)) hx hb dL_law_548 (by decide) ?_
  refine z_iadd hx hb dL_law_549 ?_
  refine z_sld hx hb hX hbl hbA hS (j := i + 2) (by omega) hL dL_law_550 ?_
  rw [hq2]
  refine lv_aload_n hx hb dL_law_551 rfl (lv_at hl 3 rfl) ?_
  have hPb := hP.sub (ws' := wBL h a0 a1 a2 cy N ec cc f cs tr o cl g) [0, 1, 2, 3, 4] rfl
  have hDb := hD.sub (ws' := wBL h a0 a1 a2 cy N ec cc f cs tr o cl g) [0, 1, 2, 3, 4] (by decide) rfl
  refine zjSi (X := zTh) (As := [.ref h, .int q1, .int q2, .ref o]) (rest := []) (wr := wM h2 b0 b1 b2 b3 b4 cy th N cc ds de f cs2 be lf od) [0, 1, 2, 3, 4] [5, 6, 7, 8, 9, 10] rfl rfl rfl (by decide) (by exact fun _ => rfl) ⟨hx, hb, hml, hown, hts⟩ (w_areJoined_bad1 l hfl D cy h a0 a1 a2 N ec cc f cs tr o cl g _ q1 q2 hq) (vx_cwSW 4 hts gL_law_L_areJoined rfl rfl rfl (by decide +kernel) ⟨Nat.le_of_ble_eq_true rfl, Nat.le_of_ble_eq_true rfl⟩) hK hP hPb hD hDb hA (fun U g mk a q => q.same rfl rfl) (fun U hU hW => hTL.at hS hU hW) rfl hl rfl (Nat.le_of_ble_eq_true rfl) dL_law_552 ⟨by show _ ≤ 1045; omega, by show _ ≤ 8429; omega⟩ hS (fun r9 u9 H locs hw9 hP hS => ?_)
  obtain rfl : r9 = nI 1 := hw9
  have hP : va_P D vwCl (wBL h a0 a1 a2 cy N ec cc f cs tr o cl g ++ wM h2 b0 b1 b2 b3 b4 cy th N cc ds de f cs2 be lf od) H := hP.sub [6, 7, 8, 9, 10, 0, 1, 2, 3, 4, 5] rfl
  have hD : va_D (lwAd s) (wBL h a0 a1 a2 cy N ec cc f cs tr o cl g ++ wM h2 b0 b1 b2 b3 b4 cy th N cc ds de f cs2 be lf od) := zD hD rfl
  refine lv_istore (lv' := [(5, .int (nI 1)), (0, .ref b), (1, .ref h), (2, .ref h2), (3, .ref o), (4, .int (nI i))]) hx hb dL_law_555 hl (by decide) rfl (fun ls hl => ?_)
  refine lv_aload_n hx hb dL_law_557 rfl (lv_at hl 3 rfl) ?_
  refine lv_aload_n hx hb dL_law_558 rfl (lv_at hl 1 rfl) ?_
  refine lv_iload hx hb dL_law_559 (lv_at hl 5 rfl) ?_
  refine lv_iconst (v := (nI 1)) hx hb dL_law_561 (by decide) ?_
  refine z_iadd hx hb dL_law_562 ?_
  refine z_sld hx hb hX hbl hbA hS (j := i + 1) (by omega) hL dL_law_563 ?_
  rw [hq1]
  refine lv_aload_n hx hb dL_law_564 rfl (lv_at hl 1 rfl) ?_
  refine lv_iload hx hb dL_law_565 (lv_at hl 5 rfl) ?_
  refine lv_iconst (v := (nI 2)) hx hb dL_law_567 (by decide) ?_
  refine z_iadd hx hb dL_law_568 ?_
  refine z_sld hx hb hX hbl hbA hS (j := i + 2) (by omega) hL dL_law_569 ?_
  rw [hq2]
  have hPm := hP.sub (ws' := wM h2 b0 b1 b2 b3 b4 cy th N cc ds de f cs2 be lf od) [5, 6, 7, 8, 9, 10] rfl
  have hDm := hD.sub (ws' := wM h2 b0 b1 b2 b3 b4 cy th N cc ds de f cs2 be lf od) [5, 6, 7, 8, 9, 10] (by decide) rfl
  refine zjVi (As := [.int q1, .int q2]) (rest := []) (wr := wBL h a0 a1 a2 cy N ec cc f cs tr o cl g) 0 [5, 6, 7, 8, 9, 10] [0, 1, 2, 3, 4] rfl rfl rfl (by decide) (by exact fun _ => rfl) ⟨hx, hb, hml, hown, hts⟩ (c_X1_areJoined_bad l D cy h2 b0 b1 b2 b3 b4 th N cc ds de f cs2 be lf od _ q1 q2 (by rw [hq]; rfl)) (cwV 2 hts gL_law_X1_areJoined rfl rfl rfl (by decide +kernel) ⟨Nat.le_of_ble_eq_true rfl, Nat.le_of_ble_eq_true rfl⟩) (hK.sub [0] rfl) hP hPm hD hDm hA rfl rfl rfl hl rfl (Nat.le_of_ble_eq_true rfl) dL_law_570 ⟨by show _ ≤ 1045; omega, by show _ ≤ 8429; omega⟩ hS (fun r8 u8 H locs hw8 hP hS => ?_)
  have hP : va_P D vwCl (wBL h a0 a1 a2 cy N ec cc f cs tr o cl g ++ wM h2 b0 b1 b2 b3 b4 cy (nI 1) N cc ds de f cs2 be lf od) H := hP
  have hD : va_D (lwAd s) (wBL h a0 a1 a2 cy N ec cc f cs tr o cl g ++ wM h2 b0 b1 b2 b3 b4 cy (nI 1) N cc ds de f cs2 be lf od) := zD hD rfl
  have hw8 : r8 = nI 0 := hw8
  refine lv_istore (lv' := [(6, .int r8), (5, .int (nI 1)), (0, .ref b), (1, .ref h), (2, .ref h2), (3, .ref o), (4, .int (nI i))]) hx hb dL_law_573 hl (by decide) rfl (fun ls hl => ?_)
  refine lv_aload_n hx hb dL_law_575 rfl (lv_at hl 4 rfl) ?_
  have hPt := hP.sub (ws' := wM h2 b0 b1 b2 b3 b4 cy (nI 1) N cc ds de f cs2 be lf od) [5, 6, 7, 8, 9, 10] rfl
  refine zrV (As := []) (rest := []) 0 ⟨hx, hb, hml, hown, hts⟩ (c_X1_thrown l D cy h2 b0 b1 b2 b3 b4 (nI 1) N cc ds de f cs2 be lf od) (cwV 0 hts gL_law_X1_thrown rfl rfl rfl (by decide +kernel) ⟨Nat.le_of_ble_eq_true rfl, Nat.le_of_ble_eq_true rfl⟩) (hK.sub [0] rfl) hPt rfl rfl rfl hl rfl (Nat.le_of_ble_eq_true rfl) dL_law_576 ⟨by show _ ≤ 1045; omega, by show _ ≤ 8429; omega⟩ hS (fun r7 H locs hw7 hk7 hS => ?_)
  obtain rfl : r7 = nI 1 := hw7
  have hP := zkeep hP hk7
  refine lv_iload hx hb dL_law_579 (lv_at hl 1 rfl) ?_
  refine lv_icmp_eq (tgt := 586) hx hb dL_law_581 (by decide) (fun _ => ?_) (fun q => absurd (rfl) q)
  refine lv_iload hx hb dL_law_586 (lv_at hl 1 rfl) ?_
  refine lv_if_ne (tgt := 610) hx hb dL_law_588 (by decide) (fun _ => ?_) (fun q => absurd q (by decide))
  refine lv_goto (tgt := 1334) hx hb dL_law_610 (by decide) ?_
  refine W.widen (k := cells + 1) (n := slots + 6) (by omega) (by omega) ?_
  exact K _ _ _ ⟨hg, _, _, _, _, _, _, _, _, _, _, _, _, hcs, hec, hP, hD⟩ hS (lv_sub hl [2, 3, 4, 5, 6] rfl)

set_option maxHeartbeats 4000000 in
set_option maxRecDepth 100000 in
theorem lw_areJoined_bad2 (C : lwC p s m c b L xs) (hK : va_K D vwCl [(cy, .int), (cl, .long)] s) (hTL : zThL s) (hfl : l.stackTraces = false) {i : Nat} (hi : i + 3 ≤ L) (hg : gd f N) (hcs : csJ cs (cnum f N) N) (hec : ec = nI (ewn f N (zal N))) (hP : va_P D vwCl (wBL h a0 a1 a2 cy N ec cc f cs tr o cl g ++ wM h2 b0 b1 b2 b3 b4 cy th N cc ds de f cs2 be lf od) H) (hD : va_D (lwAd s) (wBL h a0 a1 a2 cy N ec cc f cs tr o cl g ++ wM h2 b0 b1 b2 b3 b4 cy th N cc ds de f cs2 be lf od)) (hS : va_S (lwAd s) s.heap H locs) (hl : lv_has ls 9 [(0, .ref b), (1, .ref h), (2, .ref h2), (3, .ref o), (4, .int (nI i))]) (hnc : cells + 1 ≤ 1045) (hns : slots + 6 ≤ 8429) {u : Nat} {q2 : Int32} (hu : u < N) (hq : isNb q2 N = false) (hq1 : xs (i + 1) = (nI u)) (hq2 : xs (i + 2) = q2)
  (K : ∀ (H1 : Heap) (locs1 : List Loc) (ls1 : Array Slot), lwI D (lwAd s) h a0 a1 a2 cy o cl h2 b0 b1 b2 b3 b4 N f H1 → va_S (lwAd s) s.heap H1 locs1 → lv_has ls1 9 [(0, .ref b), (1, .ref h), (2, .ref h2), (3, .ref o), (4, .int (nI i))] → W p l e room_1 s m #[Value.ref b] below meth c H1 locs1 (cells + 1) (slots + 6) Q (F0 m 1334 ls1 [])) :
  W p l e room_1 s m #[Value.ref b] below meth c H locs cells slots Q (F0 m 538 ls []) := by
  obtain ⟨hx, hb, hml, hown, hts, hX, hbl, hL⟩ := C
  have hN : N ≤ 20 := hg.1
  have hA : ∀ q : Nat, s.heap.size ≤ q → lwAd s q := fun _ h => h
  have hbA : ¬ lwAd s b := Nat.not_le.mpr hbl
  refine lv_aload_n hx hb dL_law_538 rfl (lv_at hl 1 rfl) ?_
  refine lv_aload_n hx hb dL_law_539 rfl (lv_at hl 0 rfl) ?_
  refine lv_iload hx hb dL_law_540 (lv_at hl 4 rfl) ?_
  refine lv_iconst (v := (nI 1)) hx hb dL_law_542 (by decide) ?_
  refine z_iadd hx hb dL_law_543 ?_
  refine z_sld hx hb hX hbl hbA hS (j := i + 1) (by omega) hL dL_law_544 ?_
  rw [hq1]
  refine lv_aload_n hx hb dL_law_545 rfl (lv_at hl 0 rfl) ?_
  refine lv_iload hx hb dL_law_546 (lv_at hl 4 rfl) ?_
  refine lv_iconst (v := (nI 2)) hx hb dL_law_548 (by decide) ?_
  refine z_iadd hx hb dL_law_549 ?_
  refine z_sld hx hb hX hbl hbA hS (j := i + 2) (by omega) hL dL_law_550 ?_
  rw [hq2]
  refine lv_aload_n hx hb dL_law_551 rfl (lv_at hl 3 rfl) ?_
  have hPb := hP.sub (ws' := wBL h a0 a1 a2 cy N ec cc f cs tr o cl g) [0, 1, 2, 3, 4] rfl
  have hDb := hD.sub (ws' := wBL h a0 a1 a2 cy N ec cc f cs tr o cl g) [0, 1, 2, 3, 4] (by decide) rfl
  refine zjSi (X := zTh) (As := [.ref h, .int (nI u), .int q2, .ref o]) (rest := []) (wr := wM h2 b0 b1 b2 b3 b4 cy th N cc ds de f cs2 be lf od) [0, 1, 2, 3, 4] [5, 6, 7, 8, 9, 10] rfl rfl rfl (by decide) (by exact fun _ => rfl) ⟨hx, hb, hml, hown, hts⟩ (w_areJoined_bad2 l hfl D cy h a0 a1 a2 N ec cc f cs tr o cl g _ u q2 hN hu hq) (vx_cwSW 4 hts gL_law_L_areJoined rfl rfl rfl (by decide +kernel) ⟨Nat.le_of_ble_eq_true rfl, Nat.le_of_ble_eq_true rfl⟩) hK hP hPb hD hDb hA (fun U g mk a q => q.same rfl rfl) (fun U hU hW => hTL.at hS hU hW) rfl hl rfl (Nat.le_of_ble_eq_true rfl) dL_law_552 ⟨by show _ ≤ 1045; omega, by show _ ≤ 8429; omega⟩ hS (fun r9 u9 H locs hw9 hP hS => ?_)
  obtain rfl : r9 = nI 1 := hw9
  have hP : va_P D vwCl (wBL h a0 a1 a2 cy N ec cc f cs tr o cl g ++ wM h2 b0 b1 b2 b3 b4 cy th N cc ds de f cs2 be lf od) H := hP.sub [6, 7, 8, 9, 10, 0, 1, 2, 3, 4, 5] rfl
  have hD : va_D (lwAd s) (wBL h a0 a1 a2 cy N ec cc f cs tr o cl g ++ wM h2 b0 b1 b2 b3 b4 cy th N cc ds de f cs2 be lf od) := zD hD rfl
  refine lv_istore (lv' := [(5, .int (nI 1)), (0, .ref b), (1, .ref h), (2, .ref h2), (3, .ref o), (4, .int (nI i))]) hx hb dL_law_555 hl (by decide) rfl (fun ls hl => ?_)
  refine lv_aload_n hx hb dL_law_557 rfl (lv_at hl 3 rfl) ?_
  refine lv_aload_n hx hb dL_law_558 rfl (lv_at hl 1 rfl) ?_
  refine lv_iload hx hb dL_law_559 (lv_at hl 5 rfl) ?_
  refine lv_iconst (v := (nI 1)) hx hb dL_law_561 (by decide) ?_
  refine z_iadd hx hb dL_law_562 ?_
  refine z_sld hx hb hX hbl hbA hS (j := i + 1) (by omega) hL dL_law_563 ?_
  rw [hq1]
  refine lv_aload_n hx hb dL_law_564 rfl (lv_at hl 1 rfl) ?_
  refine lv_iload hx hb dL_law_565 (lv_at hl 5 rfl) ?_
  refine lv_iconst (v := (nI 2)) hx hb dL_law_567 (by decide) ?_
  refine z_iadd hx hb dL_law_568 ?_
  refine z_sld hx hb hX hbl hbA hS (j := i + 2) (by omega) hL dL_law_569 ?_
  rw [hq2]
  have hPm := hP.sub (ws' := wM h2 b0 b1 b2 b3 b4 cy th N cc ds de f cs2 be lf od) [5, 6, 7, 8, 9, 10] rfl
  have hDm := hD.sub (ws' := wM h2 b0 b1 b2 b3 b4 cy th N cc ds de f cs2 be lf od) [5, 6, 7, 8, 9, 10] (by decide) rfl
  refine zjVi (As := [.int (nI u), .int q2]) (rest := []) (wr := wBL h a0 a1 a2 cy N ec cc f cs tr o cl g) 0 [5, 6, 7, 8, 9, 10] [0, 1, 2, 3, 4] rfl rfl rfl (by decide) (by exact fun _ => rfl) ⟨hx, hb, hml, hown, hts⟩ (c_X1_areJoined_bad l D cy h2 b0 b1 b2 b3 b4 th N cc ds de f cs2 be lf od _ (nI u) q2 (by rw [hq]; exact Bool.and_false _)) (cwV 2 hts gL_law_X1_areJoined rfl rfl rfl (by decide +kernel) ⟨Nat.le_of_ble_eq_true rfl, Nat.le_of_ble_eq_true rfl⟩) (hK.sub [0] rfl) hP hPm hD hDm hA rfl rfl rfl hl rfl (Nat.le_of_ble_eq_true rfl) dL_law_570 ⟨by show _ ≤ 1045; omega, by show _ ≤ 8429; omega⟩ hS (fun r8 u8 H locs hw8 hP hS => ?_)
  have hP : va_P D vwCl (wBL h a0 a1 a2 cy N ec cc f cs tr o cl g ++ wM h2 b0 b1 b2 b3 b4 cy (nI 1) N cc ds de f cs2 be lf od) H := hP
  have hD : va_D (lwAd s) (wBL h a0 a1 a2 cy N ec cc f cs tr o cl g ++ wM h2 b0 b1 b2 b3 b4 cy (nI 1) N cc ds de f cs2 be lf od) := zD hD rfl
  have hw8 : r8 = nI 0 := hw8
  refine lv_istore (lv' := [(6, .int r8), (5, .int (nI 1)), (0, .ref b), (1, .ref h), (2, .ref h2), (3, .ref o), (4, .int (nI i))]) hx hb dL_law_573 hl (by decide) rfl (fun ls hl => ?_)
  refine lv_aload_n hx hb dL_law_575 rfl (lv_at hl 4 rfl) ?_
  have hPt := hP.sub (ws' := wM h2 b0 b1 b2 b3 b4 cy (nI 1) N cc ds de f cs2 be lf od) [5, 6, 7, 8, 9, 10] rfl
  refine zrV (As := []) (rest := []) 0 ⟨hx, hb, hml, hown, hts⟩ (c_X1_thrown l D cy h2 b0 b1 b2 b3 b4 (nI 1) N cc ds de f cs2 be lf od) (cwV 0 hts gL_law_X1_thrown rfl rfl rfl (by decide +kernel) ⟨Nat.le_of_ble_eq_true rfl, Nat.le_of_ble_eq_true rfl⟩) (hK.sub [0] rfl) hPt rfl rfl rfl hl rfl (Nat.le_of_ble_eq_true rfl) dL_law_576 ⟨by show _ ≤ 1045; omega, by show _ ≤ 8429; omega⟩ hS (fun r7 H locs hw7 hk7 hS => ?_)
  obtain rfl : r7 = nI 1 := hw7
  have hP := zkeep hP hk7
  refine lv_iload hx hb dL_law_579 (lv_at hl 1 rfl) ?_
  refine lv_icmp_eq (tgt := 586) hx hb dL_law_581 (by decide) (fun _ => ?_) (fun q => absurd (rfl) q)
  refine lv_iload hx hb dL_law_586 (lv_at hl 1 rfl) ?_
  refine lv_if_ne (tgt := 610) hx hb dL_law_588 (by decide) (fun _ => ?_) (fun q => absurd q (by decide))
  refine lv_goto (tgt := 1334) hx hb dL_law_610 (by decide) ?_
  refine W.widen (k := cells + 1) (n := slots + 6) (by omega) (by omega) ?_
  exact K _ _ _ ⟨hg, _, _, _, _, _, _, _, _, _, _, _, _, hcs, hec, hP, hD⟩ hS (lv_sub hl [2, 3, 4, 5, 6] rfl)

end ZLO1
