/-! ===== the cases of the law ===== -/
section ZLO2
variable {p : Program} {l : Launch} {e : Env} {s : State} {m : MethodId} {below : List Frame} {meth : Method} {c : Code} {H : Heap} {locs : List Loc} {cells slots : Nat} {Q : State → Prop} {ls : Array Slot} {b L : Nat} {xs : Nat → Int32}
variable {D : va_G} {cy cl : ClassId} {h a0 a1 a2 o h2 b0 b1 b2 b3 b4 N : Nat} {ec cc th ds de : Int32} {f cs tr cs2 be lf od : Nat → Int32} {g : Nat → Int64}

set_option maxHeartbeats 4000000 in
set_option maxRecDepth 100000 in
theorem lw_core_ok (C : lwC p s m c b L xs) (hK : va_K D vwCl [(cy, .int), (cl, .long)] s) (hTL : zThL s) (hfl : l.stackTraces = false) {i : Nat} (hi : i + 3 ≤ L) (hg : gd f N) (hcs : csJ cs (cnum f N) N) (hec : ec = nI (ewn f N (zal N))) (hP : va_P D vwCl (wBL h a0 a1 a2 cy N ec cc f cs tr o cl g ++ wM h2 b0 b1 b2 b3 b4 cy th N cc ds de f cs2 be lf od) H) (hD : va_D (lwAd s) (wBL h a0 a1 a2 cy N ec cc f cs tr o cl g ++ wM h2 b0 b1 b2 b3 b4 cy th N cc ds de f cs2 be lf od)) (hS : va_S (lwAd s) s.heap H locs) (hl : lv_has ls 9 [(0, .ref b), (1, .ref h), (2, .ref h2), (3, .ref o), (4, .int (nI i))]) (hnc : cells + 1 ≤ 1045) (hns : slots + 6 ≤ 8429) {u : Nat} (hu : u < N) (hq1 : xs (i + 1) = (nI u))
  (K : ∀ (H1 : Heap) (locs1 : List Loc) (ls1 : Array Slot), lwI D (lwAd s) h a0 a1 a2 cy o cl h2 b0 b1 b2 b3 b4 N f H1 → va_S (lwAd s) s.heap H1 locs1 → lv_has ls1 9 [(0, .ref b), (1, .ref h), (2, .ref h2), (3, .ref o), (4, .int (nI i))] → W p l e room_1 s m #[Value.ref b] below meth c H1 locs1 (cells + 1) (slots + 6) Q (F0 m 1334 ls1 [])) :
  W p l e room_1 s m #[Value.ref b] below meth c H locs cells slots Q (F0 m 613 ls []) := by
  obtain ⟨hx, hb, hml, hown, hts, hX, hbl, hL⟩ := C
  have hN : N ≤ 20 := hg.1
  have hA : ∀ q : Nat, s.heap.size ≤ q → lwAd s q := fun _ h => h
  have hbA : ¬ lwAd s b := Nat.not_le.mpr hbl
  refine lv_aload_n hx hb dL_law_613 rfl (lv_at hl 1 rfl) ?_
  refine lv_aload_n hx hb dL_law_614 rfl (lv_at hl 0 rfl) ?_
  refine lv_iload hx hb dL_law_615 (lv_at hl 4 rfl) ?_
  refine lv_iconst (v := (nI 1)) hx hb dL_law_617 (by decide) ?_
  refine z_iadd hx hb dL_law_618 ?_
  refine z_sld hx hb hX hbl hbA hS (j := i + 1) (by omega) hL dL_law_619 ?_
  rw [hq1]
  refine lv_aload_n hx hb dL_law_620 rfl (lv_at hl 3 rfl) ?_
  have hPb := hP.sub (ws' := wBL h a0 a1 a2 cy N ec cc f cs tr o cl g) [0, 1, 2, 3, 4] rfl
  have hDb := hD.sub (ws' := wBL h a0 a1 a2 cy N ec cc f cs tr o cl g) [0, 1, 2, 3, 4] (by decide) rfl
  refine zjSi (X := (fun _ => True)) (As := [.ref h, .int (nI u), .ref o]) (rest := []) (wr := wM h2 b0 b1 b2 b3 b4 cy th N cc ds de f cs2 be lf od) [0, 1, 2, 3, 4] [5, 6, 7, 8, 9, 10] rfl rfl rfl (by decide) (by exact fun _ => rfl) ⟨hx, hb, hml, hown, hts⟩ (w_core_ok l D cy h a0 a1 a2 N ec cc f cs tr o cl g _ u (cnum f N) hN hu hcs.1) (vx_cwSW 3 hts gL_law_L_core rfl rfl rfl (by decide +kernel) ⟨Nat.le_of_ble_eq_true rfl, Nat.le_of_ble_eq_true rfl⟩) hK hP hPb hD hDb hA (fun _ _ _ _ _ => trivial) (fun _ _ _ => trivial) rfl hl rfl (Nat.le_of_ble_eq_true rfl) dL_law_621 ⟨by show _ ≤ 1045; omega, by show _ ≤ 8429; omega⟩ hS (fun r9 u9 H locs hw9 hP hS => ?_)
  obtain ⟨rfl, hw9⟩ := hw9
  have hw9 : u9 = nI ((cnum f N) u) := hw9
  have hP : va_P D vwCl (wBL h a0 a1 a2 cy N ec cc f cs tr o cl (vp_updL g 0 (u9).toInt64) ++ wM h2 b0 b1 b2 b3 b4 cy th N cc ds de f cs2 be lf od) H := hP.sub [6, 7, 8, 9, 10, 0, 1, 2, 3, 4, 5] rfl
  have hD : va_D (lwAd s) (wBL h a0 a1 a2 cy N ec cc f cs tr o cl (vp_updL g 0 (u9).toInt64) ++ wM h2 b0 b1 b2 b3 b4 cy th N cc ds de f cs2 be lf od) := zD hD rfl
  refine lv_istore (lv' := [(5, .int (nI 0)), (0, .ref b), (1, .ref h), (2, .ref h2), (3, .ref o), (4, .int (nI i))]) hx hb dL_law_624 hl (by decide) rfl (fun ls hl => ?_)
  refine lv_aload_n hx hb dL_law_626 rfl (lv_at hl 3 rfl) ?_
  refine lv_aload_n hx hb dL_law_627 rfl (lv_at hl 1 rfl) ?_
  refine lv_iload hx hb dL_law_628 (lv_at hl 5 rfl) ?_
  refine lv_iconst (v := (nI 1)) hx hb dL_law_630 (by decide) ?_
  refine z_iadd hx hb dL_law_631 ?_
  refine z_sld hx hb hX hbl hbA hS (j := i + 1) (by omega) hL dL_law_632 ?_
  rw [hq1]
  have hPm := hP.sub (ws' := wM h2 b0 b1 b2 b3 b4 cy th N cc ds de f cs2 be lf od) [5, 6, 7, 8, 9, 10] rfl
  have hDm := hD.sub (ws' := wM h2 b0 b1 b2 b3 b4 cy th N cc ds de f cs2 be lf od) [5, 6, 7, 8, 9, 10] (by decide) rfl
  refine zjVi (As := [.int (nI u)]) (rest := []) (wr := wBL h a0 a1 a2 cy N ec cc f cs tr o cl (vp_updL g 0 (u9).toInt64)) 0 [5, 6, 7, 8, 9, 10] [0, 1, 2, 3, 4] rfl rfl rfl (by decide) (by exact fun _ => rfl) ⟨hx, hb, hml, hown, hts⟩ (c_X1_core_ok l D cy h2 b0 b1 b2 b3 b4 th N cc ds de f cs2 be lf od _ u (cnum f N) hN hg (cnum_ok hg) hu) (cwV 1 hts gL_law_X1_core rfl rfl rfl (by decide +kernel) ⟨Nat.le_of_ble_eq_true rfl, Nat.le_of_ble_eq_true rfl⟩) (hK.sub [0] rfl) hP hPm hD hDm hA rfl rfl rfl hl rfl (Nat.le_of_ble_eq_true rfl) dL_law_633 ⟨by show _ ≤ 1045; omega, by show _ ≤ 8429; omega⟩ hS (fun r8 u8 H locs hw8 hP hS => ?_)
  have hP : va_P D vwCl (wBL h a0 a1 a2 cy N ec cc f cs tr o cl (vp_updL g 0 (u9).toInt64) ++ wM h2 b0 b1 b2 b3 b4 cy (nI 0) N cc ds de f u8 be lf od) H := hP
  have hD : va_D (lwAd s) (wBL h a0 a1 a2 cy N ec cc f cs tr o cl (vp_updL g 0 (u9).toInt64) ++ wM h2 b0 b1 b2 b3 b4 cy (nI 0) N cc ds de f u8 be lf od) := zD hD rfl
  have hw8 : r8 = nI ((cnum f N) u) := hw8
  refine lv_istore (lv' := [(6, .int r8), (5, .int (nI 0)), (0, .ref b), (1, .ref h), (2, .ref h2), (3, .ref o), (4, .int (nI i))]) hx hb dL_law_636 hl (by decide) rfl (fun ls hl => ?_)
  refine lv_aload_n hx hb dL_law_638 rfl (lv_at hl 4 rfl) ?_
  have hPt := hP.sub (ws' := wM h2 b0 b1 b2 b3 b4 cy (nI 0) N cc ds de f u8 be lf od) [5, 6, 7, 8, 9, 10] rfl
  refine zrV (As := []) (rest := []) 0 ⟨hx, hb, hml, hown, hts⟩ (c_X1_thrown l D cy h2 b0 b1 b2 b3 b4 (nI 0) N cc ds de f u8 be lf od) (cwV 0 hts gL_law_X1_thrown rfl rfl rfl (by decide +kernel) ⟨Nat.le_of_ble_eq_true rfl, Nat.le_of_ble_eq_true rfl⟩) (hK.sub [0] rfl) hPt rfl rfl rfl hl rfl (Nat.le_of_ble_eq_true rfl) dL_law_639 ⟨by show _ ≤ 1045; omega, by show _ ≤ 8429; omega⟩ hS (fun r7 H locs hw7 hk7 hS => ?_)
  obtain rfl : r7 = nI 0 := hw7
  have hP := zkeep hP hk7
  refine lv_iload hx hb dL_law_642 (lv_at hl 1 rfl) ?_
  refine lv_icmp_eq (tgt := 649) hx hb dL_law_644 (by decide) (fun _ => ?_) (fun q => absurd (rfl) q)
  refine lv_iload hx hb dL_law_649 (lv_at hl 1 rfl) ?_
  refine lv_if_ne (tgt := 666) hx hb dL_law_651 (by decide) (fun q => absurd rfl q) (fun _ => ?_)
  refine lv_aload_n hx hb dL_law_654 rfl (lv_at hl 5 rfl) ?_
  refine lv_iconst (v := (nI 0)) hx hb dL_law_655 (by decide) ?_
  refine z_lald0 hx hb hK hP 0 1 rfl rfl dL_law_656 ?_
  refine lv_iload hx hb dL_law_657 (lv_at hl 0 rfl) ?_
  refine lv_i2l (v := (r8).toInt64) hx hb dL_law_659 rfl ?_
  refine z_lcmp hx hb (congrArg Int32.toInt64 (hw9.trans hw8.symm)) dL_law_660 ?_
  refine lv_if_eq (tgt := 666) hx hb dL_law_661 (by decide) (fun _ => ?_) (fun q => absurd (by decide) q)
  refine lv_goto (tgt := 1334) hx hb dL_law_666 (by decide) ?_
  refine W.widen (k := cells + 1) (n := slots + 6) (by omega) (by omega) ?_
  exact K _ _ _ ⟨hg, _, _, _, _, _, _, _, _, _, _, _, _, hcs, hec, hP, hD⟩ hS (lv_sub hl [2, 3, 4, 5, 6] rfl)

set_option maxHeartbeats 4000000 in
set_option maxRecDepth 100000 in
theorem lw_core_bad (C : lwC p s m c b L xs) (hK : va_K D vwCl [(cy, .int), (cl, .long)] s) (hTL : zThL s) (hfl : l.stackTraces = false) {i : Nat} (hi : i + 3 ≤ L) (hg : gd f N) (hcs : csJ cs (cnum f N) N) (hec : ec = nI (ewn f N (zal N))) (hP : va_P D vwCl (wBL h a0 a1 a2 cy N ec cc f cs tr o cl g ++ wM h2 b0 b1 b2 b3 b4 cy th N cc ds de f cs2 be lf od) H) (hD : va_D (lwAd s) (wBL h a0 a1 a2 cy N ec cc f cs tr o cl g ++ wM h2 b0 b1 b2 b3 b4 cy th N cc ds de f cs2 be lf od)) (hS : va_S (lwAd s) s.heap H locs) (hl : lv_has ls 9 [(0, .ref b), (1, .ref h), (2, .ref h2), (3, .ref o), (4, .int (nI i))]) (hnc : cells + 1 ≤ 1045) (hns : slots + 6 ≤ 8429) {q : Int32} (hq : isNb q N = false) (hq1 : xs (i + 1) = q)
  (K : ∀ (H1 : Heap) (locs1 : List Loc) (ls1 : Array Slot), lwI D (lwAd s) h a0 a1 a2 cy o cl h2 b0 b1 b2 b3 b4 N f H1 → va_S (lwAd s) s.heap H1 locs1 → lv_has ls1 9 [(0, .ref b), (1, .ref h), (2, .ref h2), (3, .ref o), (4, .int (nI i))] → W p l e room_1 s m #[Value.ref b] below meth c H1 locs1 (cells + 1) (slots + 6) Q (F0 m 1334 ls1 [])) :
  W p l e room_1 s m #[Value.ref b] below meth c H locs cells slots Q (F0 m 613 ls []) := by
  obtain ⟨hx, hb, hml, hown, hts, hX, hbl, hL⟩ := C
  have hN : N ≤ 20 := hg.1
  have hA : ∀ q : Nat, s.heap.size ≤ q → lwAd s q := fun _ h => h
  have hbA : ¬ lwAd s b := Nat.not_le.mpr hbl
  refine lv_aload_n hx hb dL_law_613 rfl (lv_at hl 1 rfl) ?_
  refine lv_aload_n hx hb dL_law_614 rfl (lv_at hl 0 rfl) ?_
  refine lv_iload hx hb dL_law_615 (lv_at hl 4 rfl) ?_
  refine lv_iconst (v := (nI 1)) hx hb dL_law_617 (by decide) ?_
  refine z_iadd hx hb dL_law_618 ?_
  refine z_sld hx hb hX hbl hbA hS (j := i + 1) (by omega) hL dL_law_619 ?_
  rw [hq1]
  refine lv_aload_n hx hb dL_law_620 rfl (lv_at hl 3 rfl) ?_
  have hPb := hP.sub (ws' := wBL h a0 a1 a2 cy N ec cc f cs tr o cl g) [0, 1, 2, 3, 4] rfl
  have hDb := hD.sub (ws' := wBL h a0 a1 a2 cy N ec cc f cs tr o cl g) [0, 1, 2, 3, 4] (by decide) rfl
  refine zjSi (X := zTh) (As := [.ref h, .int q, .ref o]) (rest := []) (wr := wM h2 b0 b1 b2 b3 b4 cy th N cc ds de f cs2 be lf od) [0, 1, 2, 3, 4] [5, 6, 7, 8, 9, 10] rfl rfl rfl (by decide) (by exact fun _ => rfl) ⟨hx, hb, hml, hown, hts⟩ (w_core_bad l hfl D cy h a0 a1 a2 N ec cc f cs tr o cl g _ q hq) (vx_cwSW 3 hts gL_law_L_core rfl rfl rfl (by decide +kernel) ⟨Nat.le_of_ble_eq_true rfl, Nat.le_of_ble_eq_true rfl⟩) hK hP hPb hD hDb hA (fun U g mk a q => q.same rfl rfl) (fun U hU hW => hTL.at hS hU hW) rfl hl rfl (Nat.le_of_ble_eq_true rfl) dL_law_621 ⟨by show _ ≤ 1045; omega, by show _ ≤ 8429; omega⟩ hS (fun r9 u9 H locs hw9 hP hS => ?_)
  obtain rfl : r9 = nI 1 := hw9
  have hP : va_P D vwCl (wBL h a0 a1 a2 cy N ec cc f cs tr o cl g ++ wM h2 b0 b1 b2 b3 b4 cy th N cc ds de f cs2 be lf od) H := hP.sub [6, 7, 8, 9, 10, 0, 1, 2, 3, 4, 5] rfl
  have hD : va_D (lwAd s) (wBL h a0 a1 a2 cy N ec cc f cs tr o cl g ++ wM h2 b0 b1 b2 b3 b4 cy th N cc ds de f cs2 be lf od) := zD hD rfl
  refine lv_istore (lv' := [(5, .int (nI 1)), (0, .ref b), (1, .ref h), (2, .ref h2), (3, .ref o), (4, .int (nI i))]) hx hb dL_law_624 hl (by decide) rfl (fun ls hl => ?_)
  refine lv_aload_n hx hb dL_law_626 rfl (lv_at hl 3 rfl) ?_
  refine lv_aload_n hx hb dL_law_627 rfl (lv_at hl 1 rfl) ?_
  refine lv_iload hx hb dL_law_628 (lv_at hl 5 rfl) ?_
  refine lv_iconst (v := (nI 1)) hx hb dL_law_630 (by decide) ?_
  refine z_iadd hx hb dL_law_631 ?_
  refine z_sld hx hb hX hbl hbA hS (j := i + 1) (by omega) hL dL_law_632 ?_
  rw [hq1]
  have hPm := hP.sub (ws' := wM h2 b0 b1 b2 b3 b4 cy th N cc ds de f cs2 be lf od) [5, 6, 7, 8, 9, 10] rfl
  have hDm := hD.sub (ws' := wM h2 b0 b1 b2 b3 b4 cy th N cc ds de f cs2 be lf od) [5, 6, 7, 8, 9, 10] (by decide) rfl
  refine zjVi (As := [.int q]) (rest := []) (wr := wBL h a0 a1 a2 cy N ec cc f cs tr o cl g) 0 [5, 6, 7, 8, 9, 10] [0, 1, 2, 3, 4] rfl rfl rfl (by decide) (by exact fun _ => rfl) ⟨hx, hb, hml, hown, hts⟩ (c_X1_core_bad l D cy h2 b0 b1 b2 b3 b4 th N cc ds de f cs2 be lf od _ q hq) (cwV 1 hts gL_law_X1_core rfl rfl rfl (by decide +kernel) ⟨Nat.le_of_ble_eq_true rfl, Nat.le_of_ble_eq_true rfl⟩) (hK.sub [0] rfl) hP hPm hD hDm hA rfl rfl rfl hl rfl (Nat.le_of_ble_eq_true rfl) dL_law_633 ⟨by show _ ≤ 1045; omega, by show _ ≤ 8429; omega⟩ hS (fun r8 u8 H locs hw8 hP hS => ?_)
  have hP : va_P D vwCl (wBL h a0 a1 a2 cy N ec cc f cs tr o cl g ++ wM h2 b0 b1 b2 b3 b4 cy (nI 1) N cc ds de f cs2 be lf od) H := hP
  have hD : va_D (lwAd s) (wBL h a0 a1 a2 cy N ec cc f cs tr o cl g ++ wM h2 b0 b1 b2 b3 b4 cy (nI 1) N cc ds de f cs2 be lf od) := zD hD rfl
  have hw8 : r8 = nI 0 := hw8
  refine lv_istore (lv' := [(6, .int r8), (5, .int (nI 1)), (0, .ref b), (1, .ref h), (2, .ref h2), (3, .ref o), (4, .int (nI i))]) hx hb dL_law_636 hl (by decide) rfl (fun ls hl => ?_)
  refine lv_aload_n hx hb dL_law_638 rfl (lv_at hl 4 rfl) ?_
  have hPt := hP.sub (ws' := wM h2 b0 b1 b2 b3 b4 cy (nI 1) N cc ds de f cs2 be lf od) [5, 6, 7, 8, 9, 10] rfl
  refine zrV (As := []) (rest := []) 0 ⟨hx, hb, hml, hown, hts⟩ (c_X1_thrown l D cy h2 b0 b1 b2 b3 b4 (nI 1) N cc ds de f cs2 be lf od) (cwV 0 hts gL_law_X1_thrown rfl rfl rfl (by decide +kernel) ⟨Nat.le_of_ble_eq_true rfl, Nat.le_of_ble_eq_true rfl⟩) (hK.sub [0] rfl) hPt rfl rfl rfl hl rfl (Nat.le_of_ble_eq_true rfl) dL_law_639 ⟨by show _ ≤ 1045; omega, by show _ ≤ 8429; omega⟩ hS (fun r7 H locs hw7 hk7 hS => ?_)
  obtain rfl : r7 = nI 1 := hw7
  have hP := zkeep hP hk7
  refine lv_iload hx hb dL_law_642 (lv_at hl 1 rfl) ?_
  refine lv_icmp_eq (tgt := 649) hx hb dL_law_644 (by decide) (fun _ => ?_) (fun q => absurd (rfl) q)
  refine lv_iload hx hb dL_law_649 (lv_at hl 1 rfl) ?_
  refine lv_if_ne (tgt := 666) hx hb dL_law_651 (by decide) (fun _ => ?_) (fun q => absurd q (by decide))
  refine lv_goto (tgt := 1334) hx hb dL_law_666 (by decide) ?_
  refine W.widen (k := cells + 1) (n := slots + 6) (by omega) (by omega) ?_
  exact K _ _ _ ⟨hg, _, _, _, _, _, _, _, _, _, _, _, _, hcs, hec, hP, hD⟩ hS (lv_sub hl [2, 3, 4, 5, 6] rfl)

set_option maxHeartbeats 4000000 in
set_option maxRecDepth 100000 in
theorem lw_degeneracy (C : lwC p s m c b L xs) (hK : va_K D vwCl [(cy, .int), (cl, .long)] s) (hTL : zThL s) (hfl : l.stackTraces = false) {i : Nat} (hi : i + 3 ≤ L) (hg : gd f N) (hcs : csJ cs (cnum f N) N) (hec : ec = nI (ewn f N (zal N))) (hP : va_P D vwCl (wBL h a0 a1 a2 cy N ec cc f cs tr o cl g ++ wM h2 b0 b1 b2 b3 b4 cy th N cc ds de f cs2 be lf od) H) (hD : va_D (lwAd s) (wBL h a0 a1 a2 cy N ec cc f cs tr o cl g ++ wM h2 b0 b1 b2 b3 b4 cy th N cc ds de f cs2 be lf od)) (hS : va_S (lwAd s) s.heap H locs) (hl : lv_has ls 9 [(0, .ref b), (1, .ref h), (2, .ref h2), (3, .ref o), (4, .int (nI i))]) (hnc : cells + 1 ≤ 1045) (hns : slots + 6 ≤ 8429)
  (K : ∀ (H1 : Heap) (locs1 : List Loc) (ls1 : Array Slot), lwI D (lwAd s) h a0 a1 a2 cy o cl h2 b0 b1 b2 b3 b4 N f H1 → va_S (lwAd s) s.heap H1 locs1 → lv_has ls1 9 [(0, .ref b), (1, .ref h), (2, .ref h2), (3, .ref o), (4, .int (nI i))] → W p l e room_1 s m #[Value.ref b] below meth c H1 locs1 (cells + 1) (slots + 6) Q (F0 m 1334 ls1 [])) :
  W p l e room_1 s m #[Value.ref b] below meth c H locs cells slots Q (F0 m 669 ls []) := by
  obtain ⟨hx, hb, hml, hown, hts, hX, hbl, hL⟩ := C
  have hN : N ≤ 20 := hg.1
  have hA : ∀ q : Nat, s.heap.size ≤ q → lwAd s q := fun _ h => h
  have hbA : ¬ lwAd s b := Nat.not_le.mpr hbl
  refine lv_aload_n hx hb dL_law_669 rfl (lv_at hl 1 rfl) ?_
  have hPb := hP.sub (ws' := wB h a0 a1 a2 cy N ec cc f cs tr) [1, 2, 3, 4] rfl
  refine zrV (As := []) (rest := []) 0 ⟨hx, hb, hml, hown, hts⟩ (c_X0_degeneracy l D cy h a0 a1 a2 N ec cc f cs tr (cnum f N) hN hcs.1) (cwV 0 hts gL_law_X0_degeneracy rfl rfl rfl (by decide +kernel) ⟨Nat.le_of_ble_eq_true rfl, Nat.le_of_ble_eq_true rfl⟩) (hK.sub [0] rfl) hPb rfl rfl rfl hl rfl (Nat.le_of_ble_eq_true rfl) dL_law_670 ⟨by show _ ≤ 1045; omega, by show _ ≤ 8429; omega⟩ hS (fun r9 H locs hw9 hk9 hS => ?_)
  have hP := zkeep hP hk9
  refine lv_aload_n hx hb dL_law_673 rfl (lv_at hl 2 rfl) ?_
  have hPm := hP.sub (ws' := wM h2 b0 b1 b2 b3 b4 cy th N cc ds de f cs2 be lf od) [5, 6, 7, 8, 9, 10] rfl
  have hDm := hD.sub (ws' := wM h2 b0 b1 b2 b3 b4 cy th N cc ds de f cs2 be lf od) [5, 6, 7, 8, 9, 10] (by decide) rfl
  refine zjVi (As := []) (rest := [.int r9]) (wr := wBL h a0 a1 a2 cy N ec cc f cs tr o cl g) 0 [5, 6, 7, 8, 9, 10] [0, 1, 2, 3, 4] rfl rfl rfl (by decide) (by exact fun _ => rfl) ⟨hx, hb, hml, hown, hts⟩ (c_X1_degeneracy l D cy h2 b0 b1 b2 b3 b4 th N cc ds de f cs2 be lf od _ (cnum f N) hN hg (cnum_ok hg)) (cwV 0 hts gL_law_X1_degeneracy rfl rfl rfl (by decide +kernel) ⟨Nat.le_of_ble_eq_true rfl, Nat.le_of_ble_eq_true rfl⟩) (hK.sub [0] rfl) hP hPm hD hDm hA rfl rfl rfl hl rfl (Nat.le_of_ble_eq_true rfl) dL_law_674 ⟨by show _ ≤ 1045; omega, by show _ ≤ 8429; omega⟩ hS (fun r8 u8 H locs hw8 hP hS => ?_)
  have hP : va_P D vwCl (wBL h a0 a1 a2 cy N ec cc f cs tr o cl g ++ wM h2 b0 b1 b2 b3 b4 cy (nI 0) N cc ds de f cs2 be lf od) H := hP
  have hD : va_D (lwAd s) (wBL h a0 a1 a2 cy N ec cc f cs tr o cl g ++ wM h2 b0 b1 b2 b3 b4 cy (nI 0) N cc ds de f cs2 be lf od) := zD hD rfl
  have hw8 : ∃ d, r8 = nI d ∧ isMx (cnum f N) N d := hw8
  obtain ⟨d9, e9, _, t9⟩ := hw9
  obtain ⟨d8, e8, t8⟩ := hw8
  have he9 : r9 = r8 := by rw [e9, e8, isMx_one t9 t8]
  refine lv_icmp_eq (tgt := 1334) hx hb dL_law_677 (by decide) (fun _ => ?_) (fun q => absurd (he9) q)
  refine W.widen (k := cells + 1) (n := slots + 6) (by omega) (by omega) ?_
  exact K _ _ _ ⟨hg, _, _, _, _, _, _, _, _, _, _, _, _, hcs, hec, hP, hD⟩ hS (lv_sub hl [0, 1, 2, 3, 4] rfl)

set_option maxHeartbeats 4000000 in
set_option maxRecDepth 100000 in
theorem lw_coreSize_ok (C : lwC p s m c b L xs) (hK : va_K D vwCl [(cy, .int), (cl, .long)] s) (hTL : zThL s) (hfl : l.stackTraces = false) {i : Nat} (hi : i + 3 ≤ L) (hg : gd f N) (hcs : csJ cs (cnum f N) N) (hec : ec = nI (ewn f N (zal N))) (hP : va_P D vwCl (wBL h a0 a1 a2 cy N ec cc f cs tr o cl g ++ wM h2 b0 b1 b2 b3 b4 cy th N cc ds de f cs2 be lf od) H) (hD : va_D (lwAd s) (wBL h a0 a1 a2 cy N ec cc f cs tr o cl g ++ wM h2 b0 b1 b2 b3 b4 cy th N cc ds de f cs2 be lf od)) (hS : va_S (lwAd s) s.heap H locs) (hl : lv_has ls 9 [(0, .ref b), (1, .ref h), (2, .ref h2), (3, .ref o), (4, .int (nI i))]) (hnc : cells + 1 ≤ 1045) (hns : slots + 6 ≤ 8429) {k : Int32} (hk : ¬ k < 0) (hq1 : xs (i + 1) = k)
  (K : ∀ (H1 : Heap) (locs1 : List Loc) (ls1 : Array Slot), lwI D (lwAd s) h a0 a1 a2 cy o cl h2 b0 b1 b2 b3 b4 N f H1 → va_S (lwAd s) s.heap H1 locs1 → lv_has ls1 9 [(0, .ref b), (1, .ref h), (2, .ref h2), (3, .ref o), (4, .int (nI i))] → W p l e room_1 s m #[Value.ref b] below meth c H1 locs1 (cells + 1) (slots + 6) Q (F0 m 1334 ls1 [])) :
  W p l e room_1 s m #[Value.ref b] below meth c H locs cells slots Q (F0 m 682 ls []) := by
  obtain ⟨hx, hb, hml, hown, hts, hX, hbl, hL⟩ := C
  have hN : N ≤ 20 := hg.1
  have hA : ∀ q : Nat, s.heap.size ≤ q → lwAd s q := fun _ h => h
  have hbA : ¬ lwAd s b := Nat.not_le.mpr hbl
  refine lv_aload_n hx hb dL_law_682 rfl (lv_at hl 1 rfl) ?_
  refine lv_aload_n hx hb dL_law_683 rfl (lv_at hl 0 rfl) ?_
  refine lv_iload hx hb dL_law_684 (lv_at hl 4 rfl) ?_
  refine lv_iconst (v := (nI 1)) hx hb dL_law_686 (by decide) ?_
  refine z_iadd hx hb dL_law_687 ?_
  refine z_sld hx hb hX hbl hbA hS (j := i + 1) (by omega) hL dL_law_688 ?_
  rw [hq1]
  refine lv_aload_n hx hb dL_law_689 rfl (lv_at hl 3 rfl) ?_
  have hPb := hP.sub (ws' := wBL h a0 a1 a2 cy N ec cc f cs tr o cl g) [0, 1, 2, 3, 4] rfl
  have hDb := hD.sub (ws' := wBL h a0 a1 a2 cy N ec cc f cs tr o cl g) [0, 1, 2, 3, 4] (by decide) rfl
  refine zjSi (X := (fun _ => True)) (As := [.ref h, .int k, .ref o]) (rest := []) (wr := wM h2 b0 b1 b2 b3 b4 cy th N cc ds de f cs2 be lf od) [0, 1, 2, 3, 4] [5, 6, 7, 8, 9, 10] rfl rfl rfl (by decide) (by exact fun _ => rfl) ⟨hx, hb, hml, hown, hts⟩ (w_coreSize_ok l D cy h a0 a1 a2 N ec cc f cs tr o cl g _ k (cnum f N) hN hk hcs.1) (vx_cwSW 3 hts gL_law_L_coreSize rfl rfl rfl (by decide +kernel) ⟨Nat.le_of_ble_eq_true rfl, Nat.le_of_ble_eq_true rfl⟩) hK hP hPb hD hDb hA (fun _ _ _ _ _ => trivial) (fun _ _ _ => trivial) rfl hl rfl (Nat.le_of_ble_eq_true rfl) dL_law_690 ⟨by show _ ≤ 1045; omega, by show _ ≤ 8429; omega⟩ hS (fun r9 u9 H locs hw9 hP hS => ?_)
  obtain ⟨rfl, hw9⟩ := hw9
  have hw9 : u9 = nI (zpop (cst (cnum f N) N k.toInt)) := hw9
  have hP : va_P D vwCl (wBL h a0 a1 a2 cy N ec cc f cs tr o cl (vp_updL g 0 (u9).toInt64) ++ wM h2 b0 b1 b2 b3 b4 cy th N cc ds de f cs2 be lf od) H := hP.sub [6, 7, 8, 9, 10, 0, 1, 2, 3, 4, 5] rfl
  have hD : va_D (lwAd s) (wBL h a0 a1 a2 cy N ec cc f cs tr o cl (vp_updL g 0 (u9).toInt64) ++ wM h2 b0 b1 b2 b3 b4 cy th N cc ds de f cs2 be lf od) := zD hD rfl
  refine lv_istore (lv' := [(5, .int (nI 0)), (0, .ref b), (1, .ref h), (2, .ref h2), (3, .ref o), (4, .int (nI i))]) hx hb dL_law_693 hl (by decide) rfl (fun ls hl => ?_)
  refine lv_aload_n hx hb dL_law_695 rfl (lv_at hl 3 rfl) ?_
  refine lv_aload_n hx hb dL_law_696 rfl (lv_at hl 1 rfl) ?_
  refine lv_iload hx hb dL_law_697 (lv_at hl 5 rfl) ?_
  refine lv_iconst (v := (nI 1)) hx hb dL_law_699 (by decide) ?_
  refine z_iadd hx hb dL_law_700 ?_
  refine z_sld hx hb hX hbl hbA hS (j := i + 1) (by omega) hL dL_law_701 ?_
  rw [hq1]
  have hPm := hP.sub (ws' := wM h2 b0 b1 b2 b3 b4 cy th N cc ds de f cs2 be lf od) [5, 6, 7, 8, 9, 10] rfl
  have hDm := hD.sub (ws' := wM h2 b0 b1 b2 b3 b4 cy th N cc ds de f cs2 be lf od) [5, 6, 7, 8, 9, 10] (by decide) rfl
  refine zjVi (As := [.int k]) (rest := []) (wr := wBL h a0 a1 a2 cy N ec cc f cs tr o cl (vp_updL g 0 (u9).toInt64)) 0 [5, 6, 7, 8, 9, 10] [0, 1, 2, 3, 4] rfl rfl rfl (by decide) (by exact fun _ => rfl) ⟨hx, hb, hml, hown, hts⟩ (c_X1_coreSize_ok l D cy h2 b0 b1 b2 b3 b4 th N cc ds de f cs2 be lf od _ k (cnum f N) hN hg (cnum_ok hg) hk) (cwV 1 hts gL_law_X1_coreSize rfl rfl rfl (by decide +kernel) ⟨Nat.le_of_ble_eq_true rfl, Nat.le_of_ble_eq_true rfl⟩) (hK.sub [0] rfl) hP hPm hD hDm hA rfl rfl rfl hl rfl (Nat.le_of_ble_eq_true rfl) dL_law_702 ⟨by show _ ≤ 1045; omega, by show _ ≤ 8429; omega⟩ hS (fun r8 u8 H locs hw8 hP hS => ?_)
  have hP : va_P D vwCl (wBL h a0 a1 a2 cy N ec cc f cs tr o cl (vp_updL g 0 (u9).toInt64) ++ wM h2 b0 b1 b2 b3 b4 cy (nI 0) N cc ds de f cs2 be lf od) H := hP
  have hD : va_D (lwAd s) (wBL h a0 a1 a2 cy N ec cc f cs tr o cl (vp_updL g 0 (u9).toInt64) ++ wM h2 b0 b1 b2 b3 b4 cy (nI 0) N cc ds de f cs2 be lf od) := zD hD rfl
  have hw8 : r8 = nI (zpop (cst (cnum f N) N (k).toInt)) := hw8
  refine lv_istore (lv' := [(6, .int r8), (5, .int (nI 0)), (0, .ref b), (1, .ref h), (2, .ref h2), (3, .ref o), (4, .int (nI i))]) hx hb dL_law_705 hl (by decide) rfl (fun ls hl => ?_)
  refine lv_aload_n hx hb dL_law_707 rfl (lv_at hl 4 rfl) ?_
  have hPt := hP.sub (ws' := wM h2 b0 b1 b2 b3 b4 cy (nI 0) N cc ds de f cs2 be lf od) [5, 6, 7, 8, 9, 10] rfl
  refine zrV (As := []) (rest := []) 0 ⟨hx, hb, hml, hown, hts⟩ (c_X1_thrown l D cy h2 b0 b1 b2 b3 b4 (nI 0) N cc ds de f cs2 be lf od) (cwV 0 hts gL_law_X1_thrown rfl rfl rfl (by decide +kernel) ⟨Nat.le_of_ble_eq_true rfl, Nat.le_of_ble_eq_true rfl⟩) (hK.sub [0] rfl) hPt rfl rfl rfl hl rfl (Nat.le_of_ble_eq_true rfl) dL_law_708 ⟨by show _ ≤ 1045; omega, by show _ ≤ 8429; omega⟩ hS (fun r7 H locs hw7 hk7 hS => ?_)
  obtain rfl : r7 = nI 0 := hw7
  have hP := zkeep hP hk7
  refine lv_iload hx hb dL_law_711 (lv_at hl 1 rfl) ?_
  refine lv_icmp_eq (tgt := 718) hx hb dL_law_713 (by decide) (fun _ => ?_) (fun q => absurd (rfl) q)
  refine lv_iload hx hb dL_law_718 (lv_at hl 1 rfl) ?_
  refine lv_if_ne (tgt := 735) hx hb dL_law_720 (by decide) (fun q => absurd rfl q) (fun _ => ?_)
  refine lv_aload_n hx hb dL_law_723 rfl (lv_at hl 5 rfl) ?_
  refine lv_iconst (v := (nI 0)) hx hb dL_law_724 (by decide) ?_
  refine z_lald0 hx hb hK hP 0 1 rfl rfl dL_law_725 ?_
  refine lv_iload hx hb dL_law_726 (lv_at hl 0 rfl) ?_
  refine lv_i2l (v := (r8).toInt64) hx hb dL_law_728 rfl ?_
  refine z_lcmp hx hb (congrArg Int32.toInt64 (hw9.trans hw8.symm)) dL_law_729 ?_
  refine lv_if_eq (tgt := 735) hx hb dL_law_730 (by decide) (fun _ => ?_) (fun q => absurd (by decide) q)
  refine lv_goto (tgt := 1334) hx hb dL_law_735 (by decide) ?_
  refine W.widen (k := cells + 1) (n := slots + 6) (by omega) (by omega) ?_
  exact K _ _ _ ⟨hg, _, _, _, _, _, _, _, _, _, _, _, _, hcs, hec, hP, hD⟩ hS (lv_sub hl [2, 3, 4, 5, 6] rfl)

set_option maxHeartbeats 4000000 in
set_option maxRecDepth 100000 in
theorem lw_coreSize_neg (C : lwC p s m c b L xs) (hK : va_K D vwCl [(cy, .int), (cl, .long)] s) (hTL : zThL s) (hfl : l.stackTraces = false) {i : Nat} (hi : i + 3 ≤ L) (hg : gd f N) (hcs : csJ cs (cnum f N) N) (hec : ec = nI (ewn f N (zal N))) (hP : va_P D vwCl (wBL h a0 a1 a2 cy N ec cc f cs tr o cl g ++ wM h2 b0 b1 b2 b3 b4 cy th N cc ds de f cs2 be lf od) H) (hD : va_D (lwAd s) (wBL h a0 a1 a2 cy N ec cc f cs tr o cl g ++ wM h2 b0 b1 b2 b3 b4 cy th N cc ds de f cs2 be lf od)) (hS : va_S (lwAd s) s.heap H locs) (hl : lv_has ls 9 [(0, .ref b), (1, .ref h), (2, .ref h2), (3, .ref o), (4, .int (nI i))]) (hnc : cells + 1 ≤ 1045) (hns : slots + 6 ≤ 8429) {k : Int32} (hk : k < 0) (hq1 : xs (i + 1) = k)
  (K : ∀ (H1 : Heap) (locs1 : List Loc) (ls1 : Array Slot), lwI D (lwAd s) h a0 a1 a2 cy o cl h2 b0 b1 b2 b3 b4 N f H1 → va_S (lwAd s) s.heap H1 locs1 → lv_has ls1 9 [(0, .ref b), (1, .ref h), (2, .ref h2), (3, .ref o), (4, .int (nI i))] → W p l e room_1 s m #[Value.ref b] below meth c H1 locs1 (cells + 1) (slots + 6) Q (F0 m 1334 ls1 [])) :
  W p l e room_1 s m #[Value.ref b] below meth c H locs cells slots Q (F0 m 682 ls []) := by
  obtain ⟨hx, hb, hml, hown, hts, hX, hbl, hL⟩ := C
  have hN : N ≤ 20 := hg.1
  have hA : ∀ q : Nat, s.heap.size ≤ q → lwAd s q := fun _ h => h
  have hbA : ¬ lwAd s b := Nat.not_le.mpr hbl
  refine lv_aload_n hx hb dL_law_682 rfl (lv_at hl 1 rfl) ?_
  refine lv_aload_n hx hb dL_law_683 rfl (lv_at hl 0 rfl) ?_
  refine lv_iload hx hb dL_law_684 (lv_at hl 4 rfl) ?_
  refine lv_iconst (v := (nI 1)) hx hb dL_law_686 (by decide) ?_
  refine z_iadd hx hb dL_law_687 ?_
  refine z_sld hx hb hX hbl hbA hS (j := i + 1) (by omega) hL dL_law_688 ?_
  rw [hq1]
  refine lv_aload_n hx hb dL_law_689 rfl (lv_at hl 3 rfl) ?_
  have hPb := hP.sub (ws' := wBL h a0 a1 a2 cy N ec cc f cs tr o cl g) [0, 1, 2, 3, 4] rfl
  have hDb := hD.sub (ws' := wBL h a0 a1 a2 cy N ec cc f cs tr o cl g) [0, 1, 2, 3, 4] (by decide) rfl
  refine zjSi (X := zTh) (As := [.ref h, .int k, .ref o]) (rest := []) (wr := wM h2 b0 b1 b2 b3 b4 cy th N cc ds de f cs2 be lf od) [0, 1, 2, 3, 4] [5, 6, 7, 8, 9, 10] rfl rfl rfl (by decide) (by exact fun _ => rfl) ⟨hx, hb, hml, hown, hts⟩ (w_coreSize_neg l hfl D cy h a0 a1 a2 N ec cc f cs tr o cl g _ k hk) (vx_cwSW 3 hts gL_law_L_coreSize rfl rfl rfl (by decide +kernel) ⟨Nat.le_of_ble_eq_true rfl, Nat.le_of_ble_eq_true rfl⟩) hK hP hPb hD hDb hA (fun U g mk a q => q.same rfl rfl) (fun U hU hW => hTL.at hS hU hW) rfl hl rfl (Nat.le_of_ble_eq_true rfl) dL_law_690 ⟨by show _ ≤ 1045; omega, by show _ ≤ 8429; omega⟩ hS (fun r9 u9 H locs hw9 hP hS => ?_)
  obtain rfl : r9 = nI 1 := hw9
  have hP : va_P D vwCl (wBL h a0 a1 a2 cy N ec cc f cs tr o cl g ++ wM h2 b0 b1 b2 b3 b4 cy th N cc ds de f cs2 be lf od) H := hP.sub [6, 7, 8, 9, 10, 0, 1, 2, 3, 4, 5] rfl
  have hD : va_D (lwAd s) (wBL h a0 a1 a2 cy N ec cc f cs tr o cl g ++ wM h2 b0 b1 b2 b3 b4 cy th N cc ds de f cs2 be lf od) := zD hD rfl
  refine lv_istore (lv' := [(5, .int (nI 1)), (0, .ref b), (1, .ref h), (2, .ref h2), (3, .ref o), (4, .int (nI i))]) hx hb dL_law_693 hl (by decide) rfl (fun ls hl => ?_)
  refine lv_aload_n hx hb dL_law_695 rfl (lv_at hl 3 rfl) ?_
  refine lv_aload_n hx hb dL_law_696 rfl (lv_at hl 1 rfl) ?_
  refine lv_iload hx hb dL_law_697 (lv_at hl 5 rfl) ?_
  refine lv_iconst (v := (nI 1)) hx hb dL_law_699 (by decide) ?_
  refine z_iadd hx hb dL_law_700 ?_
  refine z_sld hx hb hX hbl hbA hS (j := i + 1) (by omega) hL dL_law_701 ?_
  rw [hq1]
  have hPm := hP.sub (ws' := wM h2 b0 b1 b2 b3 b4 cy th N cc ds de f cs2 be lf od) [5, 6, 7, 8, 9, 10] rfl
  have hDm := hD.sub (ws' := wM h2 b0 b1 b2 b3 b4 cy th N cc ds de f cs2 be lf od) [5, 6, 7, 8, 9, 10] (by decide) rfl
  refine zjVi (As := [.int k]) (rest := []) (wr := wBL h a0 a1 a2 cy N ec cc f cs tr o cl g) 0 [5, 6, 7, 8, 9, 10] [0, 1, 2, 3, 4] rfl rfl rfl (by decide) (by exact fun _ => rfl) ⟨hx, hb, hml, hown, hts⟩ (c_X1_coreSize_bad l D cy h2 b0 b1 b2 b3 b4 th N cc ds de f cs2 be lf od _ k hk) (cwV 1 hts gL_law_X1_coreSize rfl rfl rfl (by decide +kernel) ⟨Nat.le_of_ble_eq_true rfl, Nat.le_of_ble_eq_true rfl⟩) (hK.sub [0] rfl) hP hPm hD hDm hA rfl rfl rfl hl rfl (Nat.le_of_ble_eq_true rfl) dL_law_702 ⟨by show _ ≤ 1045; omega, by show _ ≤ 8429; omega⟩ hS (fun r8 u8 H locs hw8 hP hS => ?_)
  have hP : va_P D vwCl (wBL h a0 a1 a2 cy N ec cc f cs tr o cl g ++ wM h2 b0 b1 b2 b3 b4 cy (nI 1) N cc ds de f cs2 be lf od) H := hP
  have hD : va_D (lwAd s) (wBL h a0 a1 a2 cy N ec cc f cs tr o cl g ++ wM h2 b0 b1 b2 b3 b4 cy (nI 1) N cc ds de f cs2 be lf od) := zD hD rfl
  have hw8 : r8 = nI 0 := hw8
  refine lv_istore (lv' := [(6, .int r8), (5, .int (nI 1)), (0, .ref b), (1, .ref h), (2, .ref h2), (3, .ref o), (4, .int (nI i))]) hx hb dL_law_705 hl (by decide) rfl (fun ls hl => ?_)
  refine lv_aload_n hx hb dL_law_707 rfl (lv_at hl 4 rfl) ?_
  have hPt := hP.sub (ws' := wM h2 b0 b1 b2 b3 b4 cy (nI 1) N cc ds de f cs2 be lf od) [5, 6, 7, 8, 9, 10] rfl
  refine zrV (As := []) (rest := []) 0 ⟨hx, hb, hml, hown, hts⟩ (c_X1_thrown l D cy h2 b0 b1 b2 b3 b4 (nI 1) N cc ds de f cs2 be lf od) (cwV 0 hts gL_law_X1_thrown rfl rfl rfl (by decide +kernel) ⟨Nat.le_of_ble_eq_true rfl, Nat.le_of_ble_eq_true rfl⟩) (hK.sub [0] rfl) hPt rfl rfl rfl hl rfl (Nat.le_of_ble_eq_true rfl) dL_law_708 ⟨by show _ ≤ 1045; omega, by show _ ≤ 8429; omega⟩ hS (fun r7 H locs hw7 hk7 hS => ?_)
  obtain rfl : r7 = nI 1 := hw7
  have hP := zkeep hP hk7
  refine lv_iload hx hb dL_law_711 (lv_at hl 1 rfl) ?_
  refine lv_icmp_eq (tgt := 718) hx hb dL_law_713 (by decide) (fun _ => ?_) (fun q => absurd (rfl) q)
  refine lv_iload hx hb dL_law_718 (lv_at hl 1 rfl) ?_
  refine lv_if_ne (tgt := 735) hx hb dL_law_720 (by decide) (fun _ => ?_) (fun q => absurd q (by decide))
  refine lv_goto (tgt := 1334) hx hb dL_law_735 (by decide) ?_
  refine W.widen (k := cells + 1) (n := slots + 6) (by omega) (by omega) ?_
  exact K _ _ _ ⟨hg, _, _, _, _, _, _, _, _, _, _, _, _, hcs, hec, hP, hD⟩ hS (lv_sub hl [2, 3, 4, 5, 6] rfl)

set_option maxHeartbeats 4000000 in
set_option maxRecDepth 100000 in
theorem lw_changes (C : lwC p s m c b L xs) (hK : va_K D vwCl [(cy, .int), (cl, .long)] s) (hTL : zThL s) (hfl : l.stackTraces = false) {i : Nat} (hi : i + 3 ≤ L) (hg : gd f N) (hcs : csJ cs (cnum f N) N) (hec : ec = nI (ewn f N (zal N))) (hP : va_P D vwCl (wBL h a0 a1 a2 cy N ec cc f cs tr o cl g ++ wM h2 b0 b1 b2 b3 b4 cy th N cc ds de f cs2 be lf od) H) (hD : va_D (lwAd s) (wBL h a0 a1 a2 cy N ec cc f cs tr o cl g ++ wM h2 b0 b1 b2 b3 b4 cy th N cc ds de f cs2 be lf od)) (hS : va_S (lwAd s) s.heap H locs) (hl : lv_has ls 9 [(0, .ref b), (1, .ref h), (2, .ref h2), (3, .ref o), (4, .int (nI i))]) (hnc : cells + 1 ≤ 1045) (hns : slots + 6 ≤ 8429)
  (K : ∀ (H1 : Heap) (locs1 : List Loc) (ls1 : Array Slot), lwI D (lwAd s) h a0 a1 a2 cy o cl h2 b0 b1 b2 b3 b4 N f H1 → va_S (lwAd s) s.heap H1 locs1 → lv_has ls1 9 [(0, .ref b), (1, .ref h), (2, .ref h2), (3, .ref o), (4, .int (nI i))] → W p l e room_1 s m #[Value.ref b] below meth c H1 locs1 (cells + 1) (slots + 6) Q (F0 m 1334 ls1 [])) :
  W p l e room_1 s m #[Value.ref b] below meth c H locs cells slots Q (F0 m 738 ls []) := by
  obtain ⟨hx, hb, hml, hown, hts, hX, hbl, hL⟩ := C
  have hN : N ≤ 20 := hg.1
  have hA : ∀ q : Nat, s.heap.size ≤ q → lwAd s q := fun _ h => h
  have hbA : ¬ lwAd s b := Nat.not_le.mpr hbl
  refine lv_aload_n hx hb dL_law_738 rfl (lv_at hl 1 rfl) ?_
  have hPb := hP.sub (ws' := wB h a0 a1 a2 cy N ec cc f cs tr) [1, 2, 3, 4] rfl
  refine zrV (As := []) (rest := []) 0 ⟨hx, hb, hml, hown, hts⟩ (c_X0_changes l D cy h a0 a1 a2 N ec cc f cs tr ) (cwV 0 hts gL_law_X0_changes rfl rfl rfl (by decide +kernel) ⟨Nat.le_of_ble_eq_true rfl, Nat.le_of_ble_eq_true rfl⟩) (hK.sub [0] rfl) hPb rfl rfl rfl hl rfl (Nat.le_of_ble_eq_true rfl) dL_law_739 ⟨by show _ ≤ 1045; omega, by show _ ≤ 8429; omega⟩ hS (fun r9 H locs hw9 hk9 hS => ?_)
  have hP := zkeep hP hk9
  refine lv_aload_n hx hb dL_law_742 rfl (lv_at hl 2 rfl) ?_
  have hPm := hP.sub (ws' := wM h2 b0 b1 b2 b3 b4 cy th N cc ds de f cs2 be lf od) [5, 6, 7, 8, 9, 10] rfl
  have hDm := hD.sub (ws' := wM h2 b0 b1 b2 b3 b4 cy th N cc ds de f cs2 be lf od) [5, 6, 7, 8, 9, 10] (by decide) rfl
  refine zjVi (As := []) (rest := [.int r9]) (wr := wBL h a0 a1 a2 cy N ec cc f cs tr o cl g) 0 [5, 6, 7, 8, 9, 10] [0, 1, 2, 3, 4] rfl rfl rfl (by decide) (by exact fun _ => rfl) ⟨hx, hb, hml, hown, hts⟩ (c_X1_changes l D cy h2 b0 b1 b2 b3 b4 th N cc ds de f cs2 be lf od _ ) (cwV 0 hts gL_law_X1_changes rfl rfl rfl (by decide +kernel) ⟨Nat.le_of_ble_eq_true rfl, Nat.le_of_ble_eq_true rfl⟩) (hK.sub [0] rfl) hP hPm hD hDm hA rfl rfl rfl hl rfl (Nat.le_of_ble_eq_true rfl) dL_law_743 ⟨by show _ ≤ 1045; omega, by show _ ≤ 8429; omega⟩ hS (fun r8 u8 H locs hw8 hP hS => ?_)
  have hP : va_P D vwCl (wBL h a0 a1 a2 cy N ec cc f cs tr o cl g ++ wM h2 b0 b1 b2 b3 b4 cy (nI 0) N cc ds de f cs2 be lf od) H := hP
  have hD : va_D (lwAd s) (wBL h a0 a1 a2 cy N ec cc f cs tr o cl g ++ wM h2 b0 b1 b2 b3 b4 cy (nI 0) N cc ds de f cs2 be lf od) := zD hD rfl
  have hw8 : r8 = cc := hw8
  refine lv_icmp_eq (tgt := 1334) hx hb dL_law_746 (by decide) (fun _ => ?_) (fun q => absurd (hw9.trans hw8.symm) q)
  refine W.widen (k := cells + 1) (n := slots + 6) (by omega) (by omega) ?_
  exact K _ _ _ ⟨hg, _, _, _, _, _, _, _, _, _, _, _, _, hcs, hec, hP, hD⟩ hS (lv_sub hl [0, 1, 2, 3, 4] rfl)

set_option maxHeartbeats 4000000 in
set_option maxRecDepth 100000 in
theorem lw_community_ok (C : lwC p s m c b L xs) (hK : va_K D vwCl [(cy, .int), (cl, .long)] s) (hTL : zThL s) (hfl : l.stackTraces = false) {i : Nat} (hi : i + 3 ≤ L) (hg : gd f N) (hcs : csJ cs (cnum f N) N) (hec : ec = nI (ewn f N (zal N))) (hP : va_P D vwCl (wBL h a0 a1 a2 cy N ec cc f cs tr o cl g ++ wM h2 b0 b1 b2 b3 b4 cy th N cc ds de f cs2 be lf od) H) (hD : va_D (lwAd s) (wBL h a0 a1 a2 cy N ec cc f cs tr o cl g ++ wM h2 b0 b1 b2 b3 b4 cy th N cc ds de f cs2 be lf od)) (hS : va_S (lwAd s) s.heap H locs) (hl : lv_has ls 9 [(0, .ref b), (1, .ref h), (2, .ref h2), (3, .ref o), (4, .int (nI i))]) (hnc : cells + 1 ≤ 1045) (hns : slots + 6 ≤ 8429) {u : Nat} {k : Int32} (hu : u < N) (hk : ¬ k < 0) (hq1 : xs (i + 1) = (nI u)) (hq2 : xs (i + 2) = k)
  (K : ∀ (H1 : Heap) (locs1 : List Loc) (ls1 : Array Slot), lwI D (lwAd s) h a0 a1 a2 cy o cl h2 b0 b1 b2 b3 b4 N f H1 → va_S (lwAd s) s.heap H1 locs1 → lv_has ls1 9 [(0, .ref b), (1, .ref h), (2, .ref h2), (3, .ref o), (4, .int (nI i))] → W p l e room_1 s m #[Value.ref b] below meth c H1 locs1 (cells + 1) (slots + 6) Q (F0 m 1334 ls1 [])) :
  W p l e room_1 s m #[Value.ref b] below meth c H locs cells slots Q (F0 m 751 ls []) := by
  obtain ⟨hx, hb, hml, hown, hts, hX, hbl, hL⟩ := C
  have hN : N ≤ 20 := hg.1
  have hA : ∀ q : Nat, s.heap.size ≤ q → lwAd s q := fun _ h => h
  have hbA : ¬ lwAd s b := Nat.not_le.mpr hbl
  refine lv_aload_n hx hb dL_law_751 rfl (lv_at hl 1 rfl) ?_
  refine lv_aload_n hx hb dL_law_752 rfl (lv_at hl 0 rfl) ?_
  refine lv_iload hx hb dL_law_753 (lv_at hl 4 rfl) ?_
  refine lv_iconst (v := (nI 1)) hx hb dL_law_755 (by decide) ?_
  refine z_iadd hx hb dL_law_756 ?_
  refine z_sld hx hb hX hbl hbA hS (j := i + 1) (by omega) hL dL_law_757 ?_
  rw [hq1]
  refine lv_aload_n hx hb dL_law_758 rfl (lv_at hl 0 rfl) ?_
  refine lv_iload hx hb dL_law_759 (lv_at hl 4 rfl) ?_
  refine lv_iconst (v := (nI 2)) hx hb dL_law_761 (by decide) ?_
  refine z_iadd hx hb dL_law_762 ?_
  refine z_sld hx hb hX hbl hbA hS (j := i + 2) (by omega) hL dL_law_763 ?_
  rw [hq2]
  refine lv_aload_n hx hb dL_law_764 rfl (lv_at hl 3 rfl) ?_
  have hPb := hP.sub (ws' := wBL h a0 a1 a2 cy N ec cc f cs tr o cl g) [0, 1, 2, 3, 4] rfl
  have hDb := hD.sub (ws' := wBL h a0 a1 a2 cy N ec cc f cs tr o cl g) [0, 1, 2, 3, 4] (by decide) rfl
  refine zjSi (X := (fun _ => True)) (As := [.ref h, .int (nI u), .int k, .ref o]) (rest := []) (wr := wM h2 b0 b1 b2 b3 b4 cy th N cc ds de f cs2 be lf od) [0, 1, 2, 3, 4] [5, 6, 7, 8, 9, 10] rfl rfl rfl (by decide) (by exact fun _ => rfl) ⟨hx, hb, hml, hown, hts⟩ (w_community_ok l D cy h a0 a1 a2 N ec cc f cs tr o cl g _ u k (cnum f N) hN hu hk hcs.1) (vx_cwSW 4 hts gL_law_L_community rfl rfl rfl (by decide +kernel) ⟨Nat.le_of_ble_eq_true rfl, Nat.le_of_ble_eq_true rfl⟩) hK hP hPb hD hDb hA (fun _ _ _ _ _ => trivial) (fun _ _ _ => trivial) rfl hl rfl (Nat.le_of_ble_eq_true rfl) dL_law_765 ⟨by show _ ≤ 1045; omega, by show _ ≤ 8429; omega⟩ hS (fun r9 u9 H locs hw9 hP hS => ?_)
  obtain ⟨rfl, hw9⟩ := hw9
  have hw9 : u9 = nI (zpop (cmp f (cst (cnum f N) N k.toInt) u)) := hw9
  have hP : va_P D vwCl (wBL h a0 a1 a2 cy N ec cc f cs tr o cl (vp_updL g 0 (u9).toInt64) ++ wM h2 b0 b1 b2 b3 b4 cy th N cc ds de f cs2 be lf od) H := hP.sub [6, 7, 8, 9, 10, 0, 1, 2, 3, 4, 5] rfl
  have hD : va_D (lwAd s) (wBL h a0 a1 a2 cy N ec cc f cs tr o cl (vp_updL g 0 (u9).toInt64) ++ wM h2 b0 b1 b2 b3 b4 cy th N cc ds de f cs2 be lf od) := zD hD rfl
  refine lv_istore (lv' := [(5, .int (nI 0)), (0, .ref b), (1, .ref h), (2, .ref h2), (3, .ref o), (4, .int (nI i))]) hx hb dL_law_768 hl (by decide) rfl (fun ls hl => ?_)
  refine lv_aload_n hx hb dL_law_770 rfl (lv_at hl 3 rfl) ?_
  refine lv_aload_n hx hb dL_law_771 rfl (lv_at hl 1 rfl) ?_
  refine lv_iload hx hb dL_law_772 (lv_at hl 5 rfl) ?_
  refine lv_iconst (v := (nI 1)) hx hb dL_law_774 (by decide) ?_
  refine z_iadd hx hb dL_law_775 ?_
  refine z_sld hx hb hX hbl hbA hS (j := i + 1) (by omega) hL dL_law_776 ?_
  rw [hq1]
  refine lv_aload_n hx hb dL_law_777 rfl (lv_at hl 1 rfl) ?_
  refine lv_iload hx hb dL_law_778 (lv_at hl 5 rfl) ?_
  refine lv_iconst (v := (nI 2)) hx hb dL_law_780 (by decide) ?_
  refine z_iadd hx hb dL_law_781 ?_
  refine z_sld hx hb hX hbl hbA hS (j := i + 2) (by omega) hL dL_law_782 ?_
  rw [hq2]
  have hPm := hP.sub (ws' := wM h2 b0 b1 b2 b3 b4 cy th N cc ds de f cs2 be lf od) [5, 6, 7, 8, 9, 10] rfl
  have hDm := hD.sub (ws' := wM h2 b0 b1 b2 b3 b4 cy th N cc ds de f cs2 be lf od) [5, 6, 7, 8, 9, 10] (by decide) rfl
  refine zjVi (As := [.int (nI u), .int k]) (rest := []) (wr := wBL h a0 a1 a2 cy N ec cc f cs tr o cl (vp_updL g 0 (u9).toInt64)) 0 [5, 6, 7, 8, 9, 10] [0, 1, 2, 3, 4] rfl rfl rfl (by decide) (by exact fun _ => rfl) ⟨hx, hb, hml, hown, hts⟩ (c_X1_community_ok l D cy h2 b0 b1 b2 b3 b4 th N cc ds de f cs2 be lf od _ u k (cnum f N) hN hg (cnum_ok hg) hu hk) (cwV 2 hts gL_law_X1_community rfl rfl rfl (by decide +kernel) ⟨Nat.le_of_ble_eq_true rfl, Nat.le_of_ble_eq_true rfl⟩) (hK.sub [0] rfl) hP hPm hD hDm hA rfl rfl rfl hl rfl (Nat.le_of_ble_eq_true rfl) dL_law_783 ⟨by show _ ≤ 1045; omega, by show _ ≤ 8429; omega⟩ hS (fun r8 u8 H locs hw8 hP hS => ?_)
  have hP : va_P D vwCl (wBL h a0 a1 a2 cy N ec cc f cs tr o cl (vp_updL g 0 (u9).toInt64) ++ wM h2 b0 b1 b2 b3 b4 cy (nI 0) N cc ds de f cs2 be lf od) H := hP
  have hD : va_D (lwAd s) (wBL h a0 a1 a2 cy N ec cc f cs tr o cl (vp_updL g 0 (u9).toInt64) ++ wM h2 b0 b1 b2 b3 b4 cy (nI 0) N cc ds de f cs2 be lf od) := zD hD rfl
  have hw8 : r8 = nI (zpop (cmp f (cst (cnum f N) N (k).toInt) u)) := hw8
  refine lv_istore (lv' := [(6, .int r8), (5, .int (nI 0)), (0, .ref b), (1, .ref h), (2, .ref h2), (3, .ref o), (4, .int (nI i))]) hx hb dL_law_786 hl (by decide) rfl (fun ls hl => ?_)
  refine lv_aload_n hx hb dL_law_788 rfl (lv_at hl 4 rfl) ?_
  have hPt := hP.sub (ws' := wM h2 b0 b1 b2 b3 b4 cy (nI 0) N cc ds de f cs2 be lf od) [5, 6, 7, 8, 9, 10] rfl
  refine zrV (As := []) (rest := []) 0 ⟨hx, hb, hml, hown, hts⟩ (c_X1_thrown l D cy h2 b0 b1 b2 b3 b4 (nI 0) N cc ds de f cs2 be lf od) (cwV 0 hts gL_law_X1_thrown rfl rfl rfl (by decide +kernel) ⟨Nat.le_of_ble_eq_true rfl, Nat.le_of_ble_eq_true rfl⟩) (hK.sub [0] rfl) hPt rfl rfl rfl hl rfl (Nat.le_of_ble_eq_true rfl) dL_law_789 ⟨by show _ ≤ 1045; omega, by show _ ≤ 8429; omega⟩ hS (fun r7 H locs hw7 hk7 hS => ?_)
  obtain rfl : r7 = nI 0 := hw7
  have hP := zkeep hP hk7
  refine lv_iload hx hb dL_law_792 (lv_at hl 1 rfl) ?_
  refine lv_icmp_eq (tgt := 799) hx hb dL_law_794 (by decide) (fun _ => ?_) (fun q => absurd (rfl) q)
  refine lv_iload hx hb dL_law_799 (lv_at hl 1 rfl) ?_
  refine lv_if_ne (tgt := 816) hx hb dL_law_801 (by decide) (fun q => absurd rfl q) (fun _ => ?_)
  refine lv_aload_n hx hb dL_law_804 rfl (lv_at hl 5 rfl) ?_
  refine lv_iconst (v := (nI 0)) hx hb dL_law_805 (by decide) ?_
  refine z_lald0 hx hb hK hP 0 1 rfl rfl dL_law_806 ?_
  refine lv_iload hx hb dL_law_807 (lv_at hl 0 rfl) ?_
  refine lv_i2l (v := (r8).toInt64) hx hb dL_law_809 rfl ?_
  refine z_lcmp hx hb (congrArg Int32.toInt64 (hw9.trans hw8.symm)) dL_law_810 ?_
  refine lv_if_eq (tgt := 816) hx hb dL_law_811 (by decide) (fun _ => ?_) (fun q => absurd (by decide) q)
  refine lv_goto (tgt := 1334) hx hb dL_law_816 (by decide) ?_
  refine W.widen (k := cells + 1) (n := slots + 6) (by omega) (by omega) ?_
  exact K _ _ _ ⟨hg, _, _, _, _, _, _, _, _, _, _, _, _, hcs, hec, hP, hD⟩ hS (lv_sub hl [2, 3, 4, 5, 6] rfl)

set_option maxHeartbeats 4000000 in
set_option maxRecDepth 100000 in
theorem lw_community_bad (C : lwC p s m c b L xs) (hK : va_K D vwCl [(cy, .int), (cl, .long)] s) (hTL : zThL s) (hfl : l.stackTraces = false) {i : Nat} (hi : i + 3 ≤ L) (hg : gd f N) (hcs : csJ cs (cnum f N) N) (hec : ec = nI (ewn f N (zal N))) (hP : va_P D vwCl (wBL h a0 a1 a2 cy N ec cc f cs tr o cl g ++ wM h2 b0 b1 b2 b3 b4 cy th N cc ds de f cs2 be lf od) H) (hD : va_D (lwAd s) (wBL h a0 a1 a2 cy N ec cc f cs tr o cl g ++ wM h2 b0 b1 b2 b3 b4 cy th N cc ds de f cs2 be lf od)) (hS : va_S (lwAd s) s.heap H locs) (hl : lv_has ls 9 [(0, .ref b), (1, .ref h), (2, .ref h2), (3, .ref o), (4, .int (nI i))]) (hnc : cells + 1 ≤ 1045) (hns : slots + 6 ≤ 8429) {q1 q2 : Int32} (hq : isNb q1 N = false) (hq1 : xs (i + 1) = q1) (hq2 : xs (i + 2) = q2)
  (K : ∀ (H1 : Heap) (locs1 : List Loc) (ls1 : Array Slot), lwI D (lwAd s) h a0 a1 a2 cy o cl h2 b0 b1 b2 b3 b4 N f H1 → va_S (lwAd s) s.heap H1 locs1 → lv_has ls1 9 [(0, .ref b), (1, .ref h), (2, .ref h2), (3, .ref o), (4, .int (nI i))] → W p l e room_1 s m #[Value.ref b] below meth c H1 locs1 (cells + 1) (slots + 6) Q (F0 m 1334 ls1 [])) :
  W p l e room_1 s m #[Value.ref b] below meth c H locs cells slots Q (F0 m 751 ls []) := by
  obtain ⟨hx, hb, hml, hown, hts, hX, hbl, hL⟩ := C
  have hN : N ≤ 20 := hg.1
  have hA : ∀ q : Nat, s.heap.size ≤ q → lwAd s q := fun _ h => h
  have hbA : ¬ lwAd s b := Nat.not_le.mpr hbl
  refine lv_aload_n hx hb dL_law_751 rfl (lv_at hl 1 rfl) ?_
  refine lv_aload_n hx hb dL_law_752 rfl (lv_at hl 0 rfl) ?_
  refine lv_iload hx hb dL_law_753 (lv_at hl 4 rfl) ?_
  refine lv_iconst (v := (nI 1)) hx hb dL_law_755 (by decide) ?_
  refine z_iadd hx hb dL_law_756 ?_
  refine z_sld hx hb hX hbl hbA hS (j := i + 1) (by omega) hL dL_law_757 ?_
  rw [hq1]
  refine lv_aload_n hx hb dL_law_758 rfl (lv_at hl 0 rfl) ?_
  refine lv_iload hx hb dL_law_759 (lv_at hl 4 rfl) ?_
  refine lv_iconst (v := (nI 2)) hx hb dL_law_761 (by decide) ?_
  refine z_iadd hx hb dL_law_762 ?_
  refine z_sld hx hb hX hbl hbA hS (j := i + 2) (by omega) hL dL_law_763 ?_
  rw [hq2]
  refine lv_aload_n hx hb dL_law_764 rfl (lv_at hl 3 rfl) ?_
  have hPb := hP.sub (ws' := wBL h a0 a1 a2 cy N ec cc f cs tr o cl g) [0, 1, 2, 3, 4] rfl
  have hDb := hD.sub (ws' := wBL h a0 a1 a2 cy N ec cc f cs tr o cl g) [0, 1, 2, 3, 4] (by decide) rfl
  refine zjSi (X := zTh) (As := [.ref h, .int q1, .int q2, .ref o]) (rest := []) (wr := wM h2 b0 b1 b2 b3 b4 cy th N cc ds de f cs2 be lf od) [0, 1, 2, 3, 4] [5, 6, 7, 8, 9, 10] rfl rfl rfl (by decide) (by exact fun _ => rfl) ⟨hx, hb, hml, hown, hts⟩ (w_community_bad l hfl D cy h a0 a1 a2 N ec cc f cs tr o cl g _ q1 q2 hq) (vx_cwSW 4 hts gL_law_L_community rfl rfl rfl (by decide +kernel) ⟨Nat.le_of_ble_eq_true rfl, Nat.le_of_ble_eq_true rfl⟩) hK hP hPb hD hDb hA (fun U g mk a q => q.same rfl rfl) (fun U hU hW => hTL.at hS hU hW) rfl hl rfl (Nat.le_of_ble_eq_true rfl) dL_law_765 ⟨by show _ ≤ 1045; omega, by show _ ≤ 8429; omega⟩ hS (fun r9 u9 H locs hw9 hP hS => ?_)
  obtain rfl : r9 = nI 1 := hw9
  have hP : va_P D vwCl (wBL h a0 a1 a2 cy N ec cc f cs tr o cl g ++ wM h2 b0 b1 b2 b3 b4 cy th N cc ds de f cs2 be lf od) H := hP.sub [6, 7, 8, 9, 10, 0, 1, 2, 3, 4, 5] rfl
  have hD : va_D (lwAd s) (wBL h a0 a1 a2 cy N ec cc f cs tr o cl g ++ wM h2 b0 b1 b2 b3 b4 cy th N cc ds de f cs2 be lf od) := zD hD rfl
  refine lv_istore (lv' := [(5, .int (nI 1)), (0, .ref b), (1, .ref h), (2, .ref h2), (3, .ref o), (4, .int (nI i))]) hx hb dL_law_768 hl (by decide) rfl (fun ls hl => ?_)
  refine lv_aload_n hx hb dL_law_770 rfl (lv_at hl 3 rfl) ?_
  refine lv_aload_n hx hb dL_law_771 rfl (lv_at hl 1 rfl) ?_
  refine lv_iload hx hb dL_law_772 (lv_at hl 5 rfl) ?_
  refine lv_iconst (v := (nI 1)) hx hb dL_law_774 (by decide) ?_
  refine z_iadd hx hb dL_law_775 ?_
  refine z_sld hx hb hX hbl hbA hS (j := i + 1) (by omega) hL dL_law_776 ?_
  rw [hq1]
  refine lv_aload_n hx hb dL_law_777 rfl (lv_at hl 1 rfl) ?_
  refine lv_iload hx hb dL_law_778 (lv_at hl 5 rfl) ?_
  refine lv_iconst (v := (nI 2)) hx hb dL_law_780 (by decide) ?_
  refine z_iadd hx hb dL_law_781 ?_
  refine z_sld hx hb hX hbl hbA hS (j := i + 2) (by omega) hL dL_law_782 ?_
  rw [hq2]
  have hPm := hP.sub (ws' := wM h2 b0 b1 b2 b3 b4 cy th N cc ds de f cs2 be lf od) [5, 6, 7, 8, 9, 10] rfl
  have hDm := hD.sub (ws' := wM h2 b0 b1 b2 b3 b4 cy th N cc ds de f cs2 be lf od) [5, 6, 7, 8, 9, 10] (by decide) rfl
  refine zjVi (As := [.int q1, .int q2]) (rest := []) (wr := wBL h a0 a1 a2 cy N ec cc f cs tr o cl g) 0 [5, 6, 7, 8, 9, 10] [0, 1, 2, 3, 4] rfl rfl rfl (by decide) (by exact fun _ => rfl) ⟨hx, hb, hml, hown, hts⟩ (c_X1_community_bad l D cy h2 b0 b1 b2 b3 b4 th N cc ds de f cs2 be lf od _ q1 q2 hq) (cwV 2 hts gL_law_X1_community rfl rfl rfl (by decide +kernel) ⟨Nat.le_of_ble_eq_true rfl, Nat.le_of_ble_eq_true rfl⟩) (hK.sub [0] rfl) hP hPm hD hDm hA rfl rfl rfl hl rfl (Nat.le_of_ble_eq_true rfl) dL_law_783 ⟨by show _ ≤ 1045; omega, by show _ ≤ 8429; omega⟩ hS (fun r8 u8 H locs hw8 hP hS => ?_)
  have hP : va_P D vwCl (wBL h a0 a1 a2 cy N ec cc f cs tr o cl g ++ wM h2 b0 b1 b2 b3 b4 cy (nI 1) N cc ds de f cs2 be lf od) H := hP
  have hD : va_D (lwAd s) (wBL h a0 a1 a2 cy N ec cc f cs tr o cl g ++ wM h2 b0 b1 b2 b3 b4 cy (nI 1) N cc ds de f cs2 be lf od) := zD hD rfl
  have hw8 : r8 = nI 0 := hw8
  refine lv_istore (lv' := [(6, .int r8), (5, .int (nI 1)), (0, .ref b), (1, .ref h), (2, .ref h2), (3, .ref o), (4, .int (nI i))]) hx hb dL_law_786 hl (by decide) rfl (fun ls hl => ?_)
  refine lv_aload_n hx hb dL_law_788 rfl (lv_at hl 4 rfl) ?_
  have hPt := hP.sub (ws' := wM h2 b0 b1 b2 b3 b4 cy (nI 1) N cc ds de f cs2 be lf od) [5, 6, 7, 8, 9, 10] rfl
  refine zrV (As := []) (rest := []) 0 ⟨hx, hb, hml, hown, hts⟩ (c_X1_thrown l D cy h2 b0 b1 b2 b3 b4 (nI 1) N cc ds de f cs2 be lf od) (cwV 0 hts gL_law_X1_thrown rfl rfl rfl (by decide +kernel) ⟨Nat.le_of_ble_eq_true rfl, Nat.le_of_ble_eq_true rfl⟩) (hK.sub [0] rfl) hPt rfl rfl rfl hl rfl (Nat.le_of_ble_eq_true rfl) dL_law_789 ⟨by show _ ≤ 1045; omega, by show _ ≤ 8429; omega⟩ hS (fun r7 H locs hw7 hk7 hS => ?_)
  obtain rfl : r7 = nI 1 := hw7
  have hP := zkeep hP hk7
  refine lv_iload hx hb dL_law_792 (lv_at hl 1 rfl) ?_
  refine lv_icmp_eq (tgt := 799) hx hb dL_law_794 (by decide) (fun _ => ?_) (fun q => absurd (rfl) q)
  refine lv_iload hx hb dL_law_799 (lv_at hl 1 rfl) ?_
  refine lv_if_ne (tgt := 816) hx hb dL_law_801 (by decide) (fun _ => ?_) (fun q => absurd q (by decide))
  refine lv_goto (tgt := 1334) hx hb dL_law_816 (by decide) ?_
  refine W.widen (k := cells + 1) (n := slots + 6) (by omega) (by omega) ?_
  exact K _ _ _ ⟨hg, _, _, _, _, _, _, _, _, _, _, _, _, hcs, hec, hP, hD⟩ hS (lv_sub hl [2, 3, 4, 5, 6] rfl)

set_option maxHeartbeats 4000000 in
set_option maxRecDepth 100000 in
theorem lw_community_neg (C : lwC p s m c b L xs) (hK : va_K D vwCl [(cy, .int), (cl, .long)] s) (hTL : zThL s) (hfl : l.stackTraces = false) {i : Nat} (hi : i + 3 ≤ L) (hg : gd f N) (hcs : csJ cs (cnum f N) N) (hec : ec = nI (ewn f N (zal N))) (hP : va_P D vwCl (wBL h a0 a1 a2 cy N ec cc f cs tr o cl g ++ wM h2 b0 b1 b2 b3 b4 cy th N cc ds de f cs2 be lf od) H) (hD : va_D (lwAd s) (wBL h a0 a1 a2 cy N ec cc f cs tr o cl g ++ wM h2 b0 b1 b2 b3 b4 cy th N cc ds de f cs2 be lf od)) (hS : va_S (lwAd s) s.heap H locs) (hl : lv_has ls 9 [(0, .ref b), (1, .ref h), (2, .ref h2), (3, .ref o), (4, .int (nI i))]) (hnc : cells + 1 ≤ 1045) (hns : slots + 6 ≤ 8429) {u : Nat} {k : Int32} (hu : u < N) (hk : k < 0) (hq1 : xs (i + 1) = (nI u)) (hq2 : xs (i + 2) = k)
  (K : ∀ (H1 : Heap) (locs1 : List Loc) (ls1 : Array Slot), lwI D (lwAd s) h a0 a1 a2 cy o cl h2 b0 b1 b2 b3 b4 N f H1 → va_S (lwAd s) s.heap H1 locs1 → lv_has ls1 9 [(0, .ref b), (1, .ref h), (2, .ref h2), (3, .ref o), (4, .int (nI i))] → W p l e room_1 s m #[Value.ref b] below meth c H1 locs1 (cells + 1) (slots + 6) Q (F0 m 1334 ls1 [])) :
  W p l e room_1 s m #[Value.ref b] below meth c H locs cells slots Q (F0 m 751 ls []) := by
  obtain ⟨hx, hb, hml, hown, hts, hX, hbl, hL⟩ := C
  have hN : N ≤ 20 := hg.1
  have hA : ∀ q : Nat, s.heap.size ≤ q → lwAd s q := fun _ h => h
  have hbA : ¬ lwAd s b := Nat.not_le.mpr hbl
  refine lv_aload_n hx hb dL_law_751 rfl (lv_at hl 1 rfl) ?_
  refine lv_aload_n hx hb dL_law_752 rfl (lv_at hl 0 rfl) ?_
  refine lv_iload hx hb dL_law_753 (lv_at hl 4 rfl) ?_
  refine lv_iconst (v := (nI 1)) hx hb dL_law_755 (by decide) ?_
  refine z_iadd hx hb dL_law_756 ?_
  refine z_sld hx hb hX hbl hbA hS (j := i + 1) (by omega) hL dL_law_757 ?_
  rw [hq1]
  refine lv_aload_n hx hb dL_law_758 rfl (lv_at hl 0 rfl) ?_
  refine lv_iload hx hb dL_law_759 (lv_at hl 4 rfl) ?_
  refine lv_iconst (v := (nI 2)) hx hb dL_law_761 (by decide) ?_
  refine z_iadd hx hb dL_law_762 ?_
  refine z_sld hx hb hX hbl hbA hS (j := i + 2) (by omega) hL dL_law_763 ?_
  rw [hq2]
  refine lv_aload_n hx hb dL_law_764 rfl (lv_at hl 3 rfl) ?_
  have hPb := hP.sub (ws' := wBL h a0 a1 a2 cy N ec cc f cs tr o cl g) [0, 1, 2, 3, 4] rfl
  have hDb := hD.sub (ws' := wBL h a0 a1 a2 cy N ec cc f cs tr o cl g) [0, 1, 2, 3, 4] (by decide) rfl
  refine zjSi (X := zTh) (As := [.ref h, .int (nI u), .int k, .ref o]) (rest := []) (wr := wM h2 b0 b1 b2 b3 b4 cy th N cc ds de f cs2 be lf od) [0, 1, 2, 3, 4] [5, 6, 7, 8, 9, 10] rfl rfl rfl (by decide) (by exact fun _ => rfl) ⟨hx, hb, hml, hown, hts⟩ (w_community_neg l hfl D cy h a0 a1 a2 N ec cc f cs tr o cl g _ u k hN hu hk) (vx_cwSW 4 hts gL_law_L_community rfl rfl rfl (by decide +kernel) ⟨Nat.le_of_ble_eq_true rfl, Nat.le_of_ble_eq_true rfl⟩) hK hP hPb hD hDb hA (fun U g mk a q => q.same rfl rfl) (fun U hU hW => hTL.at hS hU hW) rfl hl rfl (Nat.le_of_ble_eq_true rfl) dL_law_765 ⟨by show _ ≤ 1045; omega, by show _ ≤ 8429; omega⟩ hS (fun r9 u9 H locs hw9 hP hS => ?_)
  obtain rfl : r9 = nI 2 := hw9
  have hP : va_P D vwCl (wBL h a0 a1 a2 cy N ec cc f cs tr o cl g ++ wM h2 b0 b1 b2 b3 b4 cy th N cc ds de f cs2 be lf od) H := hP.sub [6, 7, 8, 9, 10, 0, 1, 2, 3, 4, 5] rfl
  have hD : va_D (lwAd s) (wBL h a0 a1 a2 cy N ec cc f cs tr o cl g ++ wM h2 b0 b1 b2 b3 b4 cy th N cc ds de f cs2 be lf od) := zD hD rfl
  refine lv_istore (lv' := [(5, .int (nI 2)), (0, .ref b), (1, .ref h), (2, .ref h2), (3, .ref o), (4, .int (nI i))]) hx hb dL_law_768 hl (by decide) rfl (fun ls hl => ?_)
  refine lv_aload_n hx hb dL_law_770 rfl (lv_at hl 3 rfl) ?_
  refine lv_aload_n hx hb dL_law_771 rfl (lv_at hl 1 rfl) ?_
  refine lv_iload hx hb dL_law_772 (lv_at hl 5 rfl) ?_
  refine lv_iconst (v := (nI 1)) hx hb dL_law_774 (by decide) ?_
  refine z_iadd hx hb dL_law_775 ?_
  refine z_sld hx hb hX hbl hbA hS (j := i + 1) (by omega) hL dL_law_776 ?_
  rw [hq1]
  refine lv_aload_n hx hb dL_law_777 rfl (lv_at hl 1 rfl) ?_
  refine lv_iload hx hb dL_law_778 (lv_at hl 5 rfl) ?_
  refine lv_iconst (v := (nI 2)) hx hb dL_law_780 (by decide) ?_
  refine z_iadd hx hb dL_law_781 ?_
  refine z_sld hx hb hX hbl hbA hS (j := i + 2) (by omega) hL dL_law_782 ?_
  rw [hq2]
  have hPm := hP.sub (ws' := wM h2 b0 b1 b2 b3 b4 cy th N cc ds de f cs2 be lf od) [5, 6, 7, 8, 9, 10] rfl
  have hDm := hD.sub (ws' := wM h2 b0 b1 b2 b3 b4 cy th N cc ds de f cs2 be lf od) [5, 6, 7, 8, 9, 10] (by decide) rfl
  refine zjVi (As := [.int (nI u), .int k]) (rest := []) (wr := wBL h a0 a1 a2 cy N ec cc f cs tr o cl g) 0 [5, 6, 7, 8, 9, 10] [0, 1, 2, 3, 4] rfl rfl rfl (by decide) (by exact fun _ => rfl) ⟨hx, hb, hml, hown, hts⟩ (c_X1_community_neg l D cy h2 b0 b1 b2 b3 b4 th N cc ds de f cs2 be lf od _ u k hN hu hk) (cwV 2 hts gL_law_X1_community rfl rfl rfl (by decide +kernel) ⟨Nat.le_of_ble_eq_true rfl, Nat.le_of_ble_eq_true rfl⟩) (hK.sub [0] rfl) hP hPm hD hDm hA rfl rfl rfl hl rfl (Nat.le_of_ble_eq_true rfl) dL_law_783 ⟨by show _ ≤ 1045; omega, by show _ ≤ 8429; omega⟩ hS (fun r8 u8 H locs hw8 hP hS => ?_)
  have hP : va_P D vwCl (wBL h a0 a1 a2 cy N ec cc f cs tr o cl g ++ wM h2 b0 b1 b2 b3 b4 cy (nI 2) N cc ds de f cs2 be lf od) H := hP
  have hD : va_D (lwAd s) (wBL h a0 a1 a2 cy N ec cc f cs tr o cl g ++ wM h2 b0 b1 b2 b3 b4 cy (nI 2) N cc ds de f cs2 be lf od) := zD hD rfl
  have hw8 : r8 = nI 0 := hw8
  refine lv_istore (lv' := [(6, .int r8), (5, .int (nI 2)), (0, .ref b), (1, .ref h), (2, .ref h2), (3, .ref o), (4, .int (nI i))]) hx hb dL_law_786 hl (by decide) rfl (fun ls hl => ?_)
  refine lv_aload_n hx hb dL_law_788 rfl (lv_at hl 4 rfl) ?_
  have hPt := hP.sub (ws' := wM h2 b0 b1 b2 b3 b4 cy (nI 2) N cc ds de f cs2 be lf od) [5, 6, 7, 8, 9, 10] rfl
  refine zrV (As := []) (rest := []) 0 ⟨hx, hb, hml, hown, hts⟩ (c_X1_thrown l D cy h2 b0 b1 b2 b3 b4 (nI 2) N cc ds de f cs2 be lf od) (cwV 0 hts gL_law_X1_thrown rfl rfl rfl (by decide +kernel) ⟨Nat.le_of_ble_eq_true rfl, Nat.le_of_ble_eq_true rfl⟩) (hK.sub [0] rfl) hPt rfl rfl rfl hl rfl (Nat.le_of_ble_eq_true rfl) dL_law_789 ⟨by show _ ≤ 1045; omega, by show _ ≤ 8429; omega⟩ hS (fun r7 H locs hw7 hk7 hS => ?_)
  obtain rfl : r7 = nI 2 := hw7
  have hP := zkeep hP hk7
  refine lv_iload hx hb dL_law_792 (lv_at hl 1 rfl) ?_
  refine lv_icmp_eq (tgt := 799) hx hb dL_law_794 (by decide) (fun _ => ?_) (fun q => absurd (rfl) q)
  refine lv_iload hx hb dL_law_799 (lv_at hl 1 rfl) ?_
  refine lv_if_ne (tgt := 816) hx hb dL_law_801 (by decide) (fun _ => ?_) (fun q => absurd q (by decide))
  refine lv_goto (tgt := 1334) hx hb dL_law_816 (by decide) ?_
  refine W.widen (k := cells + 1) (n := slots + 6) (by omega) (by omega) ?_
  exact K _ _ _ ⟨hg, _, _, _, _, _, _, _, _, _, _, _, _, hcs, hec, hP, hD⟩ hS (lv_sub hl [2, 3, 4, 5, 6] rfl)

set_option maxHeartbeats 4000000 in
set_option maxRecDepth 100000 in
theorem lw_communities_ok (C : lwC p s m c b L xs) (hK : va_K D vwCl [(cy, .int), (cl, .long)] s) (hTL : zThL s) (hfl : l.stackTraces = false) {i : Nat} (hi : i + 3 ≤ L) (hg : gd f N) (hcs : csJ cs (cnum f N) N) (hec : ec = nI (ewn f N (zal N))) (hP : va_P D vwCl (wBL h a0 a1 a2 cy N ec cc f cs tr o cl g ++ wM h2 b0 b1 b2 b3 b4 cy th N cc ds de f cs2 be lf od) H) (hD : va_D (lwAd s) (wBL h a0 a1 a2 cy N ec cc f cs tr o cl g ++ wM h2 b0 b1 b2 b3 b4 cy th N cc ds de f cs2 be lf od)) (hS : va_S (lwAd s) s.heap H locs) (hl : lv_has ls 9 [(0, .ref b), (1, .ref h), (2, .ref h2), (3, .ref o), (4, .int (nI i))]) (hnc : cells + 1 ≤ 1045) (hns : slots + 6 ≤ 8429) {k : Int32} (hk : ¬ k < 0) (hq1 : xs (i + 1) = k)
  (K : ∀ (H1 : Heap) (locs1 : List Loc) (ls1 : Array Slot), lwI D (lwAd s) h a0 a1 a2 cy o cl h2 b0 b1 b2 b3 b4 N f H1 → va_S (lwAd s) s.heap H1 locs1 → lv_has ls1 9 [(0, .ref b), (1, .ref h), (2, .ref h2), (3, .ref o), (4, .int (nI i))] → W p l e room_1 s m #[Value.ref b] below meth c H1 locs1 (cells + 1) (slots + 6) Q (F0 m 1334 ls1 [])) :
  W p l e room_1 s m #[Value.ref b] below meth c H locs cells slots Q (F0 m 819 ls []) := by
  obtain ⟨hx, hb, hml, hown, hts, hX, hbl, hL⟩ := C
  have hN : N ≤ 20 := hg.1
  have hA : ∀ q : Nat, s.heap.size ≤ q → lwAd s q := fun _ h => h
  have hbA : ¬ lwAd s b := Nat.not_le.mpr hbl
  refine lv_aload_n hx hb dL_law_819 rfl (lv_at hl 1 rfl) ?_
  refine lv_aload_n hx hb dL_law_820 rfl (lv_at hl 0 rfl) ?_
  refine lv_iload hx hb dL_law_821 (lv_at hl 4 rfl) ?_
  refine lv_iconst (v := (nI 1)) hx hb dL_law_823 (by decide) ?_
  refine z_iadd hx hb dL_law_824 ?_
  refine z_sld hx hb hX hbl hbA hS (j := i + 1) (by omega) hL dL_law_825 ?_
  rw [hq1]
  refine lv_aload_n hx hb dL_law_826 rfl (lv_at hl 3 rfl) ?_
  have hPb := hP.sub (ws' := wBL h a0 a1 a2 cy N ec cc f cs tr o cl g) [0, 1, 2, 3, 4] rfl
  have hDb := hD.sub (ws' := wBL h a0 a1 a2 cy N ec cc f cs tr o cl g) [0, 1, 2, 3, 4] (by decide) rfl
  refine zjSi (X := (fun _ => True)) (As := [.ref h, .int k, .ref o]) (rest := []) (wr := wM h2 b0 b1 b2 b3 b4 cy th N cc ds de f cs2 be lf od) [0, 1, 2, 3, 4] [5, 6, 7, 8, 9, 10] rfl rfl rfl (by decide) (by exact fun _ => rfl) ⟨hx, hb, hml, hown, hts⟩ (w_communities_ok l D cy h a0 a1 a2 N ec cc f cs tr o cl g _ k (cnum f N) hN hg hk hcs.1) (vx_cwSW 3 hts gL_law_L_communities rfl rfl rfl (by decide +kernel) ⟨Nat.le_of_ble_eq_true rfl, Nat.le_of_ble_eq_true rfl⟩) hK hP hPb hD hDb hA (fun _ _ _ _ _ => trivial) (fun _ _ _ => trivial) rfl hl rfl (Nat.le_of_ble_eq_true rfl) dL_law_827 ⟨by show _ ≤ 1045; omega, by show _ ≤ 8429; omega⟩ hS (fun r9 u9 H locs hw9 hP hS => ?_)
  obtain ⟨rfl, hw9⟩ := hw9
  have hw9 : u9 = nI (ccn f N (cst (cnum f N) N k.toInt) (cst (cnum f N) N k.toInt)) := hw9
  have hP : va_P D vwCl (wBL h a0 a1 a2 cy N ec cc f cs tr o cl (vp_updL g 0 (u9).toInt64) ++ wM h2 b0 b1 b2 b3 b4 cy th N cc ds de f cs2 be lf od) H := hP.sub [6, 7, 8, 9, 10, 0, 1, 2, 3, 4, 5] rfl
  have hD : va_D (lwAd s) (wBL h a0 a1 a2 cy N ec cc f cs tr o cl (vp_updL g 0 (u9).toInt64) ++ wM h2 b0 b1 b2 b3 b4 cy th N cc ds de f cs2 be lf od) := zD hD rfl
  refine lv_istore (lv' := [(5, .int (nI 0)), (0, .ref b), (1, .ref h), (2, .ref h2), (3, .ref o), (4, .int (nI i))]) hx hb dL_law_830 hl (by decide) rfl (fun ls hl => ?_)
  refine lv_aload_n hx hb dL_law_832 rfl (lv_at hl 3 rfl) ?_
  refine lv_aload_n hx hb dL_law_833 rfl (lv_at hl 1 rfl) ?_
  refine lv_iload hx hb dL_law_834 (lv_at hl 5 rfl) ?_
  refine lv_iconst (v := (nI 1)) hx hb dL_law_836 (by decide) ?_
  refine z_iadd hx hb dL_law_837 ?_
  refine z_sld hx hb hX hbl hbA hS (j := i + 1) (by omega) hL dL_law_838 ?_
  rw [hq1]
  have hPm := hP.sub (ws' := wM h2 b0 b1 b2 b3 b4 cy th N cc ds de f cs2 be lf od) [5, 6, 7, 8, 9, 10] rfl
  have hDm := hD.sub (ws' := wM h2 b0 b1 b2 b3 b4 cy th N cc ds de f cs2 be lf od) [5, 6, 7, 8, 9, 10] (by decide) rfl
  refine zjVi (As := [.int k]) (rest := []) (wr := wBL h a0 a1 a2 cy N ec cc f cs tr o cl (vp_updL g 0 (u9).toInt64)) 0 [5, 6, 7, 8, 9, 10] [0, 1, 2, 3, 4] rfl rfl rfl (by decide) (by exact fun _ => rfl) ⟨hx, hb, hml, hown, hts⟩ (c_X1_communities_ok l D cy h2 b0 b1 b2 b3 b4 th N cc ds de f cs2 be lf od _ k (cnum f N) hN hg (cnum_ok hg) hk) (cwV 1 hts gL_law_X1_communities rfl rfl rfl (by decide +kernel) ⟨Nat.le_of_ble_eq_true rfl, Nat.le_of_ble_eq_true rfl⟩) (hK.sub [0] rfl) hP hPm hD hDm hA rfl rfl rfl hl rfl (Nat.le_of_ble_eq_true rfl) dL_law_839 ⟨by show _ ≤ 1045; omega, by show _ ≤ 8429; omega⟩ hS (fun r8 u8 H locs hw8 hP hS => ?_)
  have hP : va_P D vwCl (wBL h a0 a1 a2 cy N ec cc f cs tr o cl (vp_updL g 0 (u9).toInt64) ++ wM h2 b0 b1 b2 b3 b4 cy (nI 0) N cc ds de f cs2 be lf od) H := hP
  have hD : va_D (lwAd s) (wBL h a0 a1 a2 cy N ec cc f cs tr o cl (vp_updL g 0 (u9).toInt64) ++ wM h2 b0 b1 b2 b3 b4 cy (nI 0) N cc ds de f cs2 be lf od) := zD hD rfl
  have hw8 : r8 = nI (fb_ct (fun v => low (cmp f (cst (cnum f N) N (k).toInt) v) v) N) := hw8
  have he9 : u9 = r8 := by rw [hw9, hw8, ct_comm hg (cst_sub hN _)]
  refine lv_istore (lv' := [(6, .int r8), (5, .int (nI 0)), (0, .ref b), (1, .ref h), (2, .ref h2), (3, .ref o), (4, .int (nI i))]) hx hb dL_law_842 hl (by decide) rfl (fun ls hl => ?_)
  refine lv_aload_n hx hb dL_law_844 rfl (lv_at hl 4 rfl) ?_
  have hPt := hP.sub (ws' := wM h2 b0 b1 b2 b3 b4 cy (nI 0) N cc ds de f cs2 be lf od) [5, 6, 7, 8, 9, 10] rfl
  refine zrV (As := []) (rest := []) 0 ⟨hx, hb, hml, hown, hts⟩ (c_X1_thrown l D cy h2 b0 b1 b2 b3 b4 (nI 0) N cc ds de f cs2 be lf od) (cwV 0 hts gL_law_X1_thrown rfl rfl rfl (by decide +kernel) ⟨Nat.le_of_ble_eq_true rfl, Nat.le_of_ble_eq_true rfl⟩) (hK.sub [0] rfl) hPt rfl rfl rfl hl rfl (Nat.le_of_ble_eq_true rfl) dL_law_845 ⟨by show _ ≤ 1045; omega, by show _ ≤ 8429; omega⟩ hS (fun r7 H locs hw7 hk7 hS => ?_)
  obtain rfl : r7 = nI 0 := hw7
  have hP := zkeep hP hk7
  refine lv_iload hx hb dL_law_848 (lv_at hl 1 rfl) ?_
  refine lv_icmp_eq (tgt := 855) hx hb dL_law_850 (by decide) (fun _ => ?_) (fun q => absurd (rfl) q)
  refine lv_iload hx hb dL_law_855 (lv_at hl 1 rfl) ?_
  refine lv_if_ne (tgt := 872) hx hb dL_law_857 (by decide) (fun q => absurd rfl q) (fun _ => ?_)
  refine lv_aload_n hx hb dL_law_860 rfl (lv_at hl 5 rfl) ?_
  refine lv_iconst (v := (nI 0)) hx hb dL_law_861 (by decide) ?_
  refine z_lald0 hx hb hK hP 0 1 rfl rfl dL_law_862 ?_
  refine lv_iload hx hb dL_law_863 (lv_at hl 0 rfl) ?_
  refine lv_i2l (v := (r8).toInt64) hx hb dL_law_865 rfl ?_
  refine z_lcmp hx hb (congrArg Int32.toInt64 (he9)) dL_law_866 ?_
  refine lv_if_eq (tgt := 872) hx hb dL_law_867 (by decide) (fun _ => ?_) (fun q => absurd (by decide) q)
  refine lv_goto (tgt := 1334) hx hb dL_law_872 (by decide) ?_
  refine W.widen (k := cells + 1) (n := slots + 6) (by omega) (by omega) ?_
  exact K _ _ _ ⟨hg, _, _, _, _, _, _, _, _, _, _, _, _, hcs, hec, hP, hD⟩ hS (lv_sub hl [2, 3, 4, 5, 6] rfl)

set_option maxHeartbeats 4000000 in
set_option maxRecDepth 100000 in
theorem lw_communities_neg (C : lwC p s m c b L xs) (hK : va_K D vwCl [(cy, .int), (cl, .long)] s) (hTL : zThL s) (hfl : l.stackTraces = false) {i : Nat} (hi : i + 3 ≤ L) (hg : gd f N) (hcs : csJ cs (cnum f N) N) (hec : ec = nI (ewn f N (zal N))) (hP : va_P D vwCl (wBL h a0 a1 a2 cy N ec cc f cs tr o cl g ++ wM h2 b0 b1 b2 b3 b4 cy th N cc ds de f cs2 be lf od) H) (hD : va_D (lwAd s) (wBL h a0 a1 a2 cy N ec cc f cs tr o cl g ++ wM h2 b0 b1 b2 b3 b4 cy th N cc ds de f cs2 be lf od)) (hS : va_S (lwAd s) s.heap H locs) (hl : lv_has ls 9 [(0, .ref b), (1, .ref h), (2, .ref h2), (3, .ref o), (4, .int (nI i))]) (hnc : cells + 1 ≤ 1045) (hns : slots + 6 ≤ 8429) {k : Int32} (hk : k < 0) (hq1 : xs (i + 1) = k)
  (K : ∀ (H1 : Heap) (locs1 : List Loc) (ls1 : Array Slot), lwI D (lwAd s) h a0 a1 a2 cy o cl h2 b0 b1 b2 b3 b4 N f H1 → va_S (lwAd s) s.heap H1 locs1 → lv_has ls1 9 [(0, .ref b), (1, .ref h), (2, .ref h2), (3, .ref o), (4, .int (nI i))] → W p l e room_1 s m #[Value.ref b] below meth c H1 locs1 (cells + 1) (slots + 6) Q (F0 m 1334 ls1 [])) :
  W p l e room_1 s m #[Value.ref b] below meth c H locs cells slots Q (F0 m 819 ls []) := by
  obtain ⟨hx, hb, hml, hown, hts, hX, hbl, hL⟩ := C
  have hN : N ≤ 20 := hg.1
  have hA : ∀ q : Nat, s.heap.size ≤ q → lwAd s q := fun _ h => h
  have hbA : ¬ lwAd s b := Nat.not_le.mpr hbl
  refine lv_aload_n hx hb dL_law_819 rfl (lv_at hl 1 rfl) ?_
  refine lv_aload_n hx hb dL_law_820 rfl (lv_at hl 0 rfl) ?_
  refine lv_iload hx hb dL_law_821 (lv_at hl 4 rfl) ?_
  refine lv_iconst (v := (nI 1)) hx hb dL_law_823 (by decide) ?_
  refine z_iadd hx hb dL_law_824 ?_
  refine z_sld hx hb hX hbl hbA hS (j := i + 1) (by omega) hL dL_law_825 ?_
  rw [hq1]
  refine lv_aload_n hx hb dL_law_826 rfl (lv_at hl 3 rfl) ?_
  have hPb := hP.sub (ws' := wBL h a0 a1 a2 cy N ec cc f cs tr o cl g) [0, 1, 2, 3, 4] rfl
  have hDb := hD.sub (ws' := wBL h a0 a1 a2 cy N ec cc f cs tr o cl g) [0, 1, 2, 3, 4] (by decide) rfl
  refine zjSi (X := zTh) (As := [.ref h, .int k, .ref o]) (rest := []) (wr := wM h2 b0 b1 b2 b3 b4 cy th N cc ds de f cs2 be lf od) [0, 1, 2, 3, 4] [5, 6, 7, 8, 9, 10] rfl rfl rfl (by decide) (by exact fun _ => rfl) ⟨hx, hb, hml, hown, hts⟩ (w_communities_neg l hfl D cy h a0 a1 a2 N ec cc f cs tr o cl g _ k hk) (vx_cwSW 3 hts gL_law_L_communities rfl rfl rfl (by decide +kernel) ⟨Nat.le_of_ble_eq_true rfl, Nat.le_of_ble_eq_true rfl⟩) hK hP hPb hD hDb hA (fun U g mk a q => q.same rfl rfl) (fun U hU hW => hTL.at hS hU hW) rfl hl rfl (Nat.le_of_ble_eq_true rfl) dL_law_827 ⟨by show _ ≤ 1045; omega, by show _ ≤ 8429; omega⟩ hS (fun r9 u9 H locs hw9 hP hS => ?_)
  obtain rfl : r9 = nI 1 := hw9
  have hP : va_P D vwCl (wBL h a0 a1 a2 cy N ec cc f cs tr o cl g ++ wM h2 b0 b1 b2 b3 b4 cy th N cc ds de f cs2 be lf od) H := hP.sub [6, 7, 8, 9, 10, 0, 1, 2, 3, 4, 5] rfl
  have hD : va_D (lwAd s) (wBL h a0 a1 a2 cy N ec cc f cs tr o cl g ++ wM h2 b0 b1 b2 b3 b4 cy th N cc ds de f cs2 be lf od) := zD hD rfl
  refine lv_istore (lv' := [(5, .int (nI 1)), (0, .ref b), (1, .ref h), (2, .ref h2), (3, .ref o), (4, .int (nI i))]) hx hb dL_law_830 hl (by decide) rfl (fun ls hl => ?_)
  refine lv_aload_n hx hb dL_law_832 rfl (lv_at hl 3 rfl) ?_
  refine lv_aload_n hx hb dL_law_833 rfl (lv_at hl 1 rfl) ?_
  refine lv_iload hx hb dL_law_834 (lv_at hl 5 rfl) ?_
  refine lv_iconst (v := (nI 1)) hx hb dL_law_836 (by decide) ?_
  refine z_iadd hx hb dL_law_837 ?_
  refine z_sld hx hb hX hbl hbA hS (j := i + 1) (by omega) hL dL_law_838 ?_
  rw [hq1]
  have hPm := hP.sub (ws' := wM h2 b0 b1 b2 b3 b4 cy th N cc ds de f cs2 be lf od) [5, 6, 7, 8, 9, 10] rfl
  have hDm := hD.sub (ws' := wM h2 b0 b1 b2 b3 b4 cy th N cc ds de f cs2 be lf od) [5, 6, 7, 8, 9, 10] (by decide) rfl
  refine zjVi (As := [.int k]) (rest := []) (wr := wBL h a0 a1 a2 cy N ec cc f cs tr o cl g) 0 [5, 6, 7, 8, 9, 10] [0, 1, 2, 3, 4] rfl rfl rfl (by decide) (by exact fun _ => rfl) ⟨hx, hb, hml, hown, hts⟩ (c_X1_communities_bad l D cy h2 b0 b1 b2 b3 b4 th N cc ds de f cs2 be lf od _ k hk) (cwV 1 hts gL_law_X1_communities rfl rfl rfl (by decide +kernel) ⟨Nat.le_of_ble_eq_true rfl, Nat.le_of_ble_eq_true rfl⟩) (hK.sub [0] rfl) hP hPm hD hDm hA rfl rfl rfl hl rfl (Nat.le_of_ble_eq_true rfl) dL_law_839 ⟨by show _ ≤ 1045; omega, by show _ ≤ 8429; omega⟩ hS (fun r8 u8 H locs hw8 hP hS => ?_)
  have hP : va_P D vwCl (wBL h a0 a1 a2 cy N ec cc f cs tr o cl g ++ wM h2 b0 b1 b2 b3 b4 cy (nI 1) N cc ds de f cs2 be lf od) H := hP
  have hD : va_D (lwAd s) (wBL h a0 a1 a2 cy N ec cc f cs tr o cl g ++ wM h2 b0 b1 b2 b3 b4 cy (nI 1) N cc ds de f cs2 be lf od) := zD hD rfl
  have hw8 : r8 = nI 0 := hw8
  refine lv_istore (lv' := [(6, .int r8), (5, .int (nI 1)), (0, .ref b), (1, .ref h), (2, .ref h2), (3, .ref o), (4, .int (nI i))]) hx hb dL_law_842 hl (by decide) rfl (fun ls hl => ?_)
  refine lv_aload_n hx hb dL_law_844 rfl (lv_at hl 4 rfl) ?_
  have hPt := hP.sub (ws' := wM h2 b0 b1 b2 b3 b4 cy (nI 1) N cc ds de f cs2 be lf od) [5, 6, 7, 8, 9, 10] rfl
  refine zrV (As := []) (rest := []) 0 ⟨hx, hb, hml, hown, hts⟩ (c_X1_thrown l D cy h2 b0 b1 b2 b3 b4 (nI 1) N cc ds de f cs2 be lf od) (cwV 0 hts gL_law_X1_thrown rfl rfl rfl (by decide +kernel) ⟨Nat.le_of_ble_eq_true rfl, Nat.le_of_ble_eq_true rfl⟩) (hK.sub [0] rfl) hPt rfl rfl rfl hl rfl (Nat.le_of_ble_eq_true rfl) dL_law_845 ⟨by show _ ≤ 1045; omega, by show _ ≤ 8429; omega⟩ hS (fun r7 H locs hw7 hk7 hS => ?_)
  obtain rfl : r7 = nI 1 := hw7
  have hP := zkeep hP hk7
  refine lv_iload hx hb dL_law_848 (lv_at hl 1 rfl) ?_
  refine lv_icmp_eq (tgt := 855) hx hb dL_law_850 (by decide) (fun _ => ?_) (fun q => absurd (rfl) q)
  refine lv_iload hx hb dL_law_855 (lv_at hl 1 rfl) ?_
  refine lv_if_ne (tgt := 872) hx hb dL_law_857 (by decide) (fun _ => ?_) (fun q => absurd q (by decide))
  refine lv_goto (tgt := 1334) hx hb dL_law_872 (by decide) ?_
  refine W.widen (k := cells + 1) (n := slots + 6) (by omega) (by omega) ?_
  exact K _ _ _ ⟨hg, _, _, _, _, _, _, _, _, _, _, _, _, hcs, hec, hP, hD⟩ hS (lv_sub hl [2, 3, 4, 5, 6] rfl)

end ZLO2
