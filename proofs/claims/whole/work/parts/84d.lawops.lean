/-! ===== the cases of the law ===== -/
section ZLO3
variable {p : Program} {l : Launch} {e : Env} {s : State} {m : MethodId} {below : List Frame} {meth : Method} {c : Code} {H : Heap} {locs : List Loc} {cells slots : Nat} {Q : State → Prop} {ls : Array Slot} {b L : Nat} {xs : Nat → Int32}
variable {D : va_G} {cy cl : ClassId} {h a0 a1 a2 o h2 b0 b1 b2 b3 b4 N : Nat} {ec cc th ds de : Int32} {f cs tr cs2 be lf od : Nat → Int32} {g : Nat → Int64}

set_option maxHeartbeats 4000000 in
set_option maxRecDepth 100000 in
theorem lw_together_ok (C : lwC p s m c b L xs) (hK : va_K D vwCl [(cy, .int), (cl, .long)] s) (hTL : zThL s) (hfl : l.stackTraces = false) {i : Nat} (hi : i + 3 ≤ L) (hg : gd f N) (hcs : csJ cs (cnum f N) N) (hec : ec = nI (ewn f N (zal N))) (hP : va_P D vwCl (wBL h a0 a1 a2 cy N ec cc f cs tr o cl g ++ wM h2 b0 b1 b2 b3 b4 cy th N cc ds de f cs2 be lf od) H) (hD : va_D (lwAd s) (wBL h a0 a1 a2 cy N ec cc f cs tr o cl g ++ wM h2 b0 b1 b2 b3 b4 cy th N cc ds de f cs2 be lf od)) (hS : va_S (lwAd s) s.heap H locs) (hl : lv_has ls 9 [(0, .ref b), (1, .ref h), (2, .ref h2), (3, .ref o), (4, .int (nI i))]) (hnc : cells + 1 ≤ 1045) (hns : slots + 6 ≤ 8429) {u v : Nat} (hu : u < N) (hv : v < N) {t0 : Nat} (ht : tgk f (cnum f N) N u v 20 = t0 + 1) (hq1 : xs (i + 1) = (nI u)) (hq2 : xs (i + 2) = (nI v))
  (K : ∀ (H1 : Heap) (locs1 : List Loc) (ls1 : Array Slot), lwI D (lwAd s) h a0 a1 a2 cy o cl h2 b0 b1 b2 b3 b4 N f H1 → va_S (lwAd s) s.heap H1 locs1 → lv_has ls1 9 [(0, .ref b), (1, .ref h), (2, .ref h2), (3, .ref o), (4, .int (nI i))] → W p l e room_1 s m #[Value.ref b] below meth c H1 locs1 (cells + 1) (slots + 6) Q (F0 m 1334 ls1 [])) :
  W p l e room_1 s m #[Value.ref b] below meth c H locs cells slots Q (F0 m 875 ls []) := by
  obtain ⟨hx, hb, hml, hown, hts, hX, hbl, hL⟩ := C
  have hN : N ≤ 20 := hg.1
  have hA : ∀ q : Nat, s.heap.size ≤ q → lwAd s q := fun _ h => h
  have hbA : ¬ lwAd s b := Nat.not_le.mpr hbl
  refine lv_aload_n hx hb dL_law_875 rfl (lv_at hl 1 rfl) ?_
  refine lv_aload_n hx hb dL_law_876 rfl (lv_at hl 0 rfl) ?_
  refine lv_iload hx hb dL_law_877 (lv_at hl 4 rfl) ?_
  refine lv_iconst (v := (nI 1)) hx hb dL_law_879 (by decide) ?_
  refine z_iadd hx hb dL_law_880 ?_
  refine z_sld hx hb hX hbl hbA hS (j := i + 1) (by omega) hL dL_law_881 ?_
  rw [hq1]
  refine lv_aload_n hx hb dL_law_882 rfl (lv_at hl 0 rfl) ?_
  refine lv_iload hx hb dL_law_883 (lv_at hl 4 rfl) ?_
  refine lv_iconst (v := (nI 2)) hx hb dL_law_885 (by decide) ?_
  refine z_iadd hx hb dL_law_886 ?_
  refine z_sld hx hb hX hbl hbA hS (j := i + 2) (by omega) hL dL_law_887 ?_
  rw [hq2]
  refine lv_aload_n hx hb dL_law_888 rfl (lv_at hl 3 rfl) ?_
  have hPb := hP.sub (ws' := wBL h a0 a1 a2 cy N ec cc f cs tr o cl g) [0, 1, 2, 3, 4] rfl
  have hDb := hD.sub (ws' := wBL h a0 a1 a2 cy N ec cc f cs tr o cl g) [0, 1, 2, 3, 4] (by decide) rfl
  refine zjSi (X := (fun _ => True)) (As := [.ref h, .int (nI u), .int (nI v), .ref o]) (rest := []) (wr := wM h2 b0 b1 b2 b3 b4 cy th N cc ds de f cs2 be lf od) [0, 1, 2, 3, 4] [5, 6, 7, 8, 9, 10] rfl rfl rfl (by decide) (by exact fun _ => rfl) ⟨hx, hb, hml, hown, hts⟩ (w_together_ok l D cy h a0 a1 a2 N ec cc f cs tr o cl g _ u v t0 (cnum f N) hN hu hv hcs.1 ht) (vx_cwSW 4 hts gL_law_L_together rfl rfl rfl (by decide +kernel) ⟨Nat.le_of_ble_eq_true rfl, Nat.le_of_ble_eq_true rfl⟩) hK hP hPb hD hDb hA (fun _ _ _ _ _ => trivial) (fun _ _ _ => trivial) rfl hl rfl (Nat.le_of_ble_eq_true rfl) dL_law_889 ⟨by show _ ≤ 1045; omega, by show _ ≤ 8429; omega⟩ hS (fun r9 u9 H locs hw9 hP hS => ?_)
  obtain ⟨rfl, hw9⟩ := hw9
  have hw9 : u9 = nI t0 := hw9
  have hP : va_P D vwCl (wBL h a0 a1 a2 cy N ec cc f cs tr o cl (vp_updL g 0 (u9).toInt64) ++ wM h2 b0 b1 b2 b3 b4 cy th N cc ds de f cs2 be lf od) H := hP.sub [6, 7, 8, 9, 10, 0, 1, 2, 3, 4, 5] rfl
  have hD : va_D (lwAd s) (wBL h a0 a1 a2 cy N ec cc f cs tr o cl (vp_updL g 0 (u9).toInt64) ++ wM h2 b0 b1 b2 b3 b4 cy th N cc ds de f cs2 be lf od) := zD hD rfl
  refine lv_istore (lv' := [(5, .int (nI 0)), (0, .ref b), (1, .ref h), (2, .ref h2), (3, .ref o), (4, .int (nI i))]) hx hb dL_law_892 hl (by decide) rfl (fun ls hl => ?_)
  refine lv_aload_n hx hb dL_law_894 rfl (lv_at hl 3 rfl) ?_
  refine lv_aload_n hx hb dL_law_895 rfl (lv_at hl 1 rfl) ?_
  refine lv_iload hx hb dL_law_896 (lv_at hl 5 rfl) ?_
  refine lv_iconst (v := (nI 1)) hx hb dL_law_898 (by decide) ?_
  refine z_iadd hx hb dL_law_899 ?_
  refine z_sld hx hb hX hbl hbA hS (j := i + 1) (by omega) hL dL_law_900 ?_
  rw [hq1]
  refine lv_aload_n hx hb dL_law_901 rfl (lv_at hl 1 rfl) ?_
  refine lv_iload hx hb dL_law_902 (lv_at hl 5 rfl) ?_
  refine lv_iconst (v := (nI 2)) hx hb dL_law_904 (by decide) ?_
  refine z_iadd hx hb dL_law_905 ?_
  refine z_sld hx hb hX hbl hbA hS (j := i + 2) (by omega) hL dL_law_906 ?_
  rw [hq2]
  have hPm := hP.sub (ws' := wM h2 b0 b1 b2 b3 b4 cy th N cc ds de f cs2 be lf od) [5, 6, 7, 8, 9, 10] rfl
  have hDm := hD.sub (ws' := wM h2 b0 b1 b2 b3 b4 cy th N cc ds de f cs2 be lf od) [5, 6, 7, 8, 9, 10] (by decide) rfl
  refine zjVi (As := [.int (nI u), .int (nI v)]) (rest := []) (wr := wBL h a0 a1 a2 cy N ec cc f cs tr o cl (vp_updL g 0 (u9).toInt64)) 0 [5, 6, 7, 8, 9, 10] [0, 1, 2, 3, 4] rfl rfl rfl (by decide) (by exact fun _ => rfl) ⟨hx, hb, hml, hown, hts⟩ (c_X1_together_ok l D cy h2 b0 b1 b2 b3 b4 th N cc ds de f cs2 be lf od _ u v t0 (cnum f N) hN hg (cnum_ok hg) hu hv ht) (cwV 2 hts gL_law_X1_together rfl rfl rfl (by decide +kernel) ⟨Nat.le_of_ble_eq_true rfl, Nat.le_of_ble_eq_true rfl⟩) (hK.sub [0] rfl) hP hPm hD hDm hA rfl rfl rfl hl rfl (Nat.le_of_ble_eq_true rfl) dL_law_907 ⟨by show _ ≤ 1045; omega, by show _ ≤ 8429; omega⟩ hS (fun r8 u8 H locs hw8 hP hS => ?_)
  have hP : va_P D vwCl (wBL h a0 a1 a2 cy N ec cc f cs tr o cl (vp_updL g 0 (u9).toInt64) ++ wM h2 b0 b1 b2 b3 b4 cy (nI 0) N cc ds de f cs2 be lf od) H := hP
  have hD : va_D (lwAd s) (wBL h a0 a1 a2 cy N ec cc f cs tr o cl (vp_updL g 0 (u9).toInt64) ++ wM h2 b0 b1 b2 b3 b4 cy (nI 0) N cc ds de f cs2 be lf od) := zD hD rfl
  have hw8 : r8 = nI t0 := hw8
  refine lv_istore (lv' := [(6, .int r8), (5, .int (nI 0)), (0, .ref b), (1, .ref h), (2, .ref h2), (3, .ref o), (4, .int (nI i))]) hx hb dL_law_910 hl (by decide) rfl (fun ls hl => ?_)
  refine lv_aload_n hx hb dL_law_912 rfl (lv_at hl 4 rfl) ?_
  have hPt := hP.sub (ws' := wM h2 b0 b1 b2 b3 b4 cy (nI 0) N cc ds de f cs2 be lf od) [5, 6, 7, 8, 9, 10] rfl
  refine zrV (As := []) (rest := []) 0 ⟨hx, hb, hml, hown, hts⟩ (c_X1_thrown l D cy h2 b0 b1 b2 b3 b4 (nI 0) N cc ds de f cs2 be lf od) (cwV 0 hts gL_law_X1_thrown rfl rfl rfl (by decide +kernel) ⟨Nat.le_of_ble_eq_true rfl, Nat.le_of_ble_eq_true rfl⟩) (hK.sub [0] rfl) hPt rfl rfl rfl hl rfl (Nat.le_of_ble_eq_true rfl) dL_law_913 ⟨by show _ ≤ 1045; omega, by show _ ≤ 8429; omega⟩ hS (fun r7 H locs hw7 hk7 hS => ?_)
  obtain rfl : r7 = nI 0 := hw7
  have hP := zkeep hP hk7
  refine lv_iload hx hb dL_law_916 (lv_at hl 1 rfl) ?_
  refine lv_icmp_eq (tgt := 923) hx hb dL_law_918 (by decide) (fun _ => ?_) (fun q => absurd (rfl) q)
  refine lv_iload hx hb dL_law_923 (lv_at hl 1 rfl) ?_
  refine lv_if_ne (tgt := 940) hx hb dL_law_925 (by decide) (fun q => absurd rfl q) (fun _ => ?_)
  refine lv_aload_n hx hb dL_law_928 rfl (lv_at hl 5 rfl) ?_
  refine lv_iconst (v := (nI 0)) hx hb dL_law_929 (by decide) ?_
  refine z_lald0 hx hb hK hP 0 1 rfl rfl dL_law_930 ?_
  refine lv_iload hx hb dL_law_931 (lv_at hl 0 rfl) ?_
  refine lv_i2l (v := (r8).toInt64) hx hb dL_law_933 rfl ?_
  refine z_lcmp hx hb (congrArg Int32.toInt64 (hw9.trans hw8.symm)) dL_law_934 ?_
  refine lv_if_eq (tgt := 940) hx hb dL_law_935 (by decide) (fun _ => ?_) (fun q => absurd (by decide) q)
  refine lv_goto (tgt := 1334) hx hb dL_law_940 (by decide) ?_
  refine W.widen (k := cells + 1) (n := slots + 6) (by omega) (by omega) ?_
  exact K _ _ _ ⟨hg, _, _, _, _, _, _, _, _, _, _, _, _, hcs, hec, hP, hD⟩ hS (lv_sub hl [2, 3, 4, 5, 6] rfl)

set_option maxHeartbeats 4000000 in
set_option maxRecDepth 100000 in
theorem lw_together_none (C : lwC p s m c b L xs) (hK : va_K D vwCl [(cy, .int), (cl, .long)] s) (hTL : zThL s) (hfl : l.stackTraces = false) {i : Nat} (hi : i + 3 ≤ L) (hg : gd f N) (hcs : csJ cs (cnum f N) N) (hec : ec = nI (ewn f N (zal N))) (hP : va_P D vwCl (wBL h a0 a1 a2 cy N ec cc f cs tr o cl g ++ wM h2 b0 b1 b2 b3 b4 cy th N cc ds de f cs2 be lf od) H) (hD : va_D (lwAd s) (wBL h a0 a1 a2 cy N ec cc f cs tr o cl g ++ wM h2 b0 b1 b2 b3 b4 cy th N cc ds de f cs2 be lf od)) (hS : va_S (lwAd s) s.heap H locs) (hl : lv_has ls 9 [(0, .ref b), (1, .ref h), (2, .ref h2), (3, .ref o), (4, .int (nI i))]) (hnc : cells + 1 ≤ 1045) (hns : slots + 6 ≤ 8429) {u v : Nat} (hu : u < N) (hv : v < N) (ht : tgk f (cnum f N) N u v 20 = 0) (hq1 : xs (i + 1) = (nI u)) (hq2 : xs (i + 2) = (nI v))
  (K : ∀ (H1 : Heap) (locs1 : List Loc) (ls1 : Array Slot), lwI D (lwAd s) h a0 a1 a2 cy o cl h2 b0 b1 b2 b3 b4 N f H1 → va_S (lwAd s) s.heap H1 locs1 → lv_has ls1 9 [(0, .ref b), (1, .ref h), (2, .ref h2), (3, .ref o), (4, .int (nI i))] → W p l e room_1 s m #[Value.ref b] below meth c H1 locs1 (cells + 1) (slots + 6) Q (F0 m 1334 ls1 [])) :
  W p l e room_1 s m #[Value.ref b] below meth c H locs cells slots Q (F0 m 875 ls []) := by
  obtain ⟨hx, hb, hml, hown, hts, hX, hbl, hL⟩ := C
  have hN : N ≤ 20 := hg.1
  have hA : ∀ q : Nat, s.heap.size ≤ q → lwAd s q := fun _ h => h
  have hbA : ¬ lwAd s b := Nat.not_le.mpr hbl
  refine lv_aload_n hx hb dL_law_875 rfl (lv_at hl 1 rfl) ?_
  refine lv_aload_n hx hb dL_law_876 rfl (lv_at hl 0 rfl) ?_
  refine lv_iload hx hb dL_law_877 (lv_at hl 4 rfl) ?_
  refine lv_iconst (v := (nI 1)) hx hb dL_law_879 (by decide) ?_
  refine z_iadd hx hb dL_law_880 ?_
  refine z_sld hx hb hX hbl hbA hS (j := i + 1) (by omega) hL dL_law_881 ?_
  rw [hq1]
  refine lv_aload_n hx hb dL_law_882 rfl (lv_at hl 0 rfl) ?_
  refine lv_iload hx hb dL_law_883 (lv_at hl 4 rfl) ?_
  refine lv_iconst (v := (nI 2)) hx hb dL_law_885 (by decide) ?_
  refine z_iadd hx hb dL_law_886 ?_
  refine z_sld hx hb hX hbl hbA hS (j := i + 2) (by omega) hL dL_law_887 ?_
  rw [hq2]
  refine lv_aload_n hx hb dL_law_888 rfl (lv_at hl 3 rfl) ?_
  have hPb := hP.sub (ws' := wBL h a0 a1 a2 cy N ec cc f cs tr o cl g) [0, 1, 2, 3, 4] rfl
  have hDb := hD.sub (ws' := wBL h a0 a1 a2 cy N ec cc f cs tr o cl g) [0, 1, 2, 3, 4] (by decide) rfl
  refine zjSi (X := zTh) (As := [.ref h, .int (nI u), .int (nI v), .ref o]) (rest := []) (wr := wM h2 b0 b1 b2 b3 b4 cy th N cc ds de f cs2 be lf od) [0, 1, 2, 3, 4] [5, 6, 7, 8, 9, 10] rfl rfl rfl (by decide) (by exact fun _ => rfl) ⟨hx, hb, hml, hown, hts⟩ (w_together_none l hfl D cy h a0 a1 a2 N ec cc f cs tr o cl g _ u v (cnum f N) hN hu hv hcs.1 ht) (vx_cwSW 4 hts gL_law_L_together rfl rfl rfl (by decide +kernel) ⟨Nat.le_of_ble_eq_true rfl, Nat.le_of_ble_eq_true rfl⟩) hK hP hPb hD hDb hA (fun U g mk a q => q.same rfl rfl) (fun U hU hW => hTL.at hS hU hW) rfl hl rfl (Nat.le_of_ble_eq_true rfl) dL_law_889 ⟨by show _ ≤ 1045; omega, by show _ ≤ 8429; omega⟩ hS (fun r9 u9 H locs hw9 hP hS => ?_)
  obtain rfl : r9 = nI 2 := hw9
  have hP : va_P D vwCl (wBL h a0 a1 a2 cy N ec cc f cs tr o cl g ++ wM h2 b0 b1 b2 b3 b4 cy th N cc ds de f cs2 be lf od) H := hP.sub [6, 7, 8, 9, 10, 0, 1, 2, 3, 4, 5] rfl
  have hD : va_D (lwAd s) (wBL h a0 a1 a2 cy N ec cc f cs tr o cl g ++ wM h2 b0 b1 b2 b3 b4 cy th N cc ds de f cs2 be lf od) := zD hD rfl
  refine lv_istore (lv' := [(5, .int (nI 2)), (0, .ref b), (1, .ref h), (2, .ref h2), (3, .ref o), (4, .int (nI i))]) hx hb dL_law_892 hl (by decide) rfl (fun ls hl => ?_)
  refine lv_aload_n hx hb dL_law_894 rfl (lv_at hl 3 rfl) ?_
  refine lv_aload_n hx hb dL_law_895 rfl (lv_at hl 1 rfl) ?_
  refine lv_iload hx hb dL_law_896 (lv_at hl 5 rfl) ?_
  refine lv_iconst (v := (nI 1)) hx hb dL_law_898 (by decide) ?_
  refine z_iadd hx hb dL_law_899 ?_
  refine z_sld hx hb hX hbl hbA hS (j := i + 1) (by omega) hL dL_law_900 ?_
  rw [hq1]
  refine lv_aload_n hx hb dL_law_901 rfl (lv_at hl 1 rfl) ?_
  refine lv_iload hx hb dL_law_902 (lv_at hl 5 rfl) ?_
  refine lv_iconst (v := (nI 2)) hx hb dL_law_904 (by decide) ?_
  refine z_iadd hx hb dL_law_905 ?_
  refine z_sld hx hb hX hbl hbA hS (j := i + 2) (by omega) hL dL_law_906 ?_
  rw [hq2]
  have hPm := hP.sub (ws' := wM h2 b0 b1 b2 b3 b4 cy th N cc ds de f cs2 be lf od) [5, 6, 7, 8, 9, 10] rfl
  have hDm := hD.sub (ws' := wM h2 b0 b1 b2 b3 b4 cy th N cc ds de f cs2 be lf od) [5, 6, 7, 8, 9, 10] (by decide) rfl
  refine zjVi (As := [.int (nI u), .int (nI v)]) (rest := []) (wr := wBL h a0 a1 a2 cy N ec cc f cs tr o cl g) 0 [5, 6, 7, 8, 9, 10] [0, 1, 2, 3, 4] rfl rfl rfl (by decide) (by exact fun _ => rfl) ⟨hx, hb, hml, hown, hts⟩ (c_X1_together_none l D cy h2 b0 b1 b2 b3 b4 th N cc ds de f cs2 be lf od _ u v (cnum f N) hN hg (cnum_ok hg) hu hv ht) (cwV 2 hts gL_law_X1_together rfl rfl rfl (by decide +kernel) ⟨Nat.le_of_ble_eq_true rfl, Nat.le_of_ble_eq_true rfl⟩) (hK.sub [0] rfl) hP hPm hD hDm hA rfl rfl rfl hl rfl (Nat.le_of_ble_eq_true rfl) dL_law_907 ⟨by show _ ≤ 1045; omega, by show _ ≤ 8429; omega⟩ hS (fun r8 u8 H locs hw8 hP hS => ?_)
  have hP : va_P D vwCl (wBL h a0 a1 a2 cy N ec cc f cs tr o cl g ++ wM h2 b0 b1 b2 b3 b4 cy (nI 2) N cc ds de f cs2 be lf od) H := hP
  have hD : va_D (lwAd s) (wBL h a0 a1 a2 cy N ec cc f cs tr o cl g ++ wM h2 b0 b1 b2 b3 b4 cy (nI 2) N cc ds de f cs2 be lf od) := zD hD rfl
  have hw8 : r8 = nI 0 := hw8
  refine lv_istore (lv' := [(6, .int r8), (5, .int (nI 2)), (0, .ref b), (1, .ref h), (2, .ref h2), (3, .ref o), (4, .int (nI i))]) hx hb dL_law_910 hl (by decide) rfl (fun ls hl => ?_)
  refine lv_aload_n hx hb dL_law_912 rfl (lv_at hl 4 rfl) ?_
  have hPt := hP.sub (ws' := wM h2 b0 b1 b2 b3 b4 cy (nI 2) N cc ds de f cs2 be lf od) [5, 6, 7, 8, 9, 10] rfl
  refine zrV (As := []) (rest := []) 0 ⟨hx, hb, hml, hown, hts⟩ (c_X1_thrown l D cy h2 b0 b1 b2 b3 b4 (nI 2) N cc ds de f cs2 be lf od) (cwV 0 hts gL_law_X1_thrown rfl rfl rfl (by decide +kernel) ⟨Nat.le_of_ble_eq_true rfl, Nat.le_of_ble_eq_true rfl⟩) (hK.sub [0] rfl) hPt rfl rfl rfl hl rfl (Nat.le_of_ble_eq_true rfl) dL_law_913 ⟨by show _ ≤ 1045; omega, by show _ ≤ 8429; omega⟩ hS (fun r7 H locs hw7 hk7 hS => ?_)
  obtain rfl : r7 = nI 2 := hw7
  have hP := zkeep hP hk7
  refine lv_iload hx hb dL_law_916 (lv_at hl 1 rfl) ?_
  refine lv_icmp_eq (tgt := 923) hx hb dL_law_918 (by decide) (fun _ => ?_) (fun q => absurd (rfl) q)
  refine lv_iload hx hb dL_law_923 (lv_at hl 1 rfl) ?_
  refine lv_if_ne (tgt := 940) hx hb dL_law_925 (by decide) (fun _ => ?_) (fun q => absurd q (by decide))
  refine lv_goto (tgt := 1334) hx hb dL_law_940 (by decide) ?_
  refine W.widen (k := cells + 1) (n := slots + 6) (by omega) (by omega) ?_
  exact K _ _ _ ⟨hg, _, _, _, _, _, _, _, _, _, _, _, _, hcs, hec, hP, hD⟩ hS (lv_sub hl [2, 3, 4, 5, 6] rfl)

set_option maxHeartbeats 4000000 in
set_option maxRecDepth 100000 in
theorem lw_together_bad1 (C : lwC p s m c b L xs) (hK : va_K D vwCl [(cy, .int), (cl, .long)] s) (hTL : zThL s) (hfl : l.stackTraces = false) {i : Nat} (hi : i + 3 ≤ L) (hg : gd f N) (hcs : csJ cs (cnum f N) N) (hec : ec = nI (ewn f N (zal N))) (hP : va_P D vwCl (wBL h a0 a1 a2 cy N ec cc f cs tr o cl g ++ wM h2 b0 b1 b2 b3 b4 cy th N cc ds de f cs2 be lf od) H) (hD : va_D (lwAd s) (wBL h a0 a1 a2 cy N ec cc f cs tr o cl g ++ wM h2 b0 b1 b2 b3 b4 cy th N cc ds de f cs2 be lf od)) (hS : va_S (lwAd s) s.heap H locs) (hl : lv_has ls 9 [(0, .ref b), (1, .ref h), (2, .ref h2), (3, .ref o), (4, .int (nI i))]) (hnc : cells + 1 ≤ 1045) (hns : slots + 6 ≤ 8429) {q1 q2 : Int32} (hq : isNb q1 N = false) (hq1 : xs (i + 1) = q1) (hq2 : xs (i + 2) = q2)
  (K : ∀ (H1 : Heap) (locs1 : List Loc) (ls1 : Array Slot), lwI D (lwAd s) h a0 a1 a2 cy o cl h2 b0 b1 b2 b3 b4 N f H1 → va_S (lwAd s) s.heap H1 locs1 → lv_has ls1 9 [(0, .ref b), (1, .ref h), (2, .ref h2), (3, .ref o), (4, .int (nI i))] → W p l e room_1 s m #[Value.ref b] below meth c H1 locs1 (cells + 1) (slots + 6) Q (F0 m 1334 ls1 [])) :
  W p l e room_1 s m #[Value.ref b] below meth c H locs cells slots Q (F0 m 875 ls []) := by
  obtain ⟨hx, hb, hml, hown, hts, hX, hbl, hL⟩ := C
  have hN : N ≤ 20 := hg.1
  have hA : ∀ q : Nat, s.heap.size ≤ q → lwAd s q := fun _ h => h
  have hbA : ¬ lwAd s b := Nat.not_le.mpr hbl
  refine lv_aload_n hx hb dL_law_875 rfl (lv_at hl 1 rfl) ?_
  refine lv_aload_n hx hb dL_law_876 rfl (lv_at hl 0 rfl) ?_
  refine lv_iload hx hb dL_law_877 (lv_at hl 4 rfl) ?_
  refine lv_iconst (v := (nI 1)) hx hb dL_law_879 (by decide) ?_
  refine z_iadd hx hb dL_law_880 ?_
  refine z_sld hx hb hX hbl hbA hS (j := i + 1) (by omega) hL dL_law_881 ?_
  rw [hq1]
  refine lv_aload_n hx hb dL_law_882 rfl (lv_at hl 0 rfl) ?_
  refine lv_iload hx hb dL_law_883 (lv_at hl 4 rfl) ?_
  refine lv_iconst (v := (nI 2)) hx hb dL_law_885 (by decide) ?_
  refine z_iadd hx hb dL_law_886 ?_
  refine z_sld hx hb hX hbl hbA hS (j := i + 2) (by omega) hL dL_law_887 ?_
  rw [hq2]
  refine lv_aload_n hx hb dL_law_888 rfl (lv_at hl 3 rfl) ?_
  have hPb := hP.sub (ws' := wBL h a0 a1 a2 cy N ec cc f cs tr o cl g) [0, 1, 2, 3, 4] rfl
  have hDb := hD.sub (ws' := wBL h a0 a1 a2 cy N ec cc f cs tr o cl g) [0, 1, 2, 3, 4] (by decide) rfl
  refine zjSi (X := zTh) (As := [.ref h, .int q1, .int q2, .ref o]) (rest := []) (wr := wM h2 b0 b1 b2 b3 b4 cy th N cc ds de f cs2 be lf od) [0, 1, 2, 3, 4] [5, 6, 7, 8, 9, 10] rfl rfl rfl (by decide) (by exact fun _ => rfl) ⟨hx, hb, hml, hown, hts⟩ (w_together_bad1 l hfl D cy h a0 a1 a2 N ec cc f cs tr o cl g _ q1 q2 hq) (vx_cwSW 4 hts gL_law_L_together rfl rfl rfl (by decide +kernel) ⟨Nat.le_of_ble_eq_true rfl, Nat.le_of_ble_eq_true rfl⟩) hK hP hPb hD hDb hA (fun U g mk a q => q.same rfl rfl) (fun U hU hW => hTL.at hS hU hW) rfl hl rfl (Nat.le_of_ble_eq_true rfl) dL_law_889 ⟨by show _ ≤ 1045; omega, by show _ ≤ 8429; omega⟩ hS (fun r9 u9 H locs hw9 hP hS => ?_)
  obtain rfl : r9 = nI 1 := hw9
  have hP : va_P D vwCl (wBL h a0 a1 a2 cy N ec cc f cs tr o cl g ++ wM h2 b0 b1 b2 b3 b4 cy th N cc ds de f cs2 be lf od) H := hP.sub [6, 7, 8, 9, 10, 0, 1, 2, 3, 4, 5] rfl
  have hD : va_D (lwAd s) (wBL h a0 a1 a2 cy N ec cc f cs tr o cl g ++ wM h2 b0 b1 b2 b3 b4 cy th N cc ds de f cs2 be lf od) := zD hD rfl
  refine lv_istore (lv' := [(5, .int (nI 1)), (0, .ref b), (1, .ref h), (2, .ref h2), (3, .ref o), (4, .int (nI i))]) hx hb dL_law_892 hl (by decide) rfl (fun ls hl => ?_)
  refine lv_aload_n hx hb dL_law_894 rfl (lv_at hl 3 rfl) ?_
  refine lv_aload_n hx hb dL_law_895 rfl (lv_at hl 1 rfl) ?_
  refine lv_iload hx hb dL_law_896 (lv_at hl 5 rfl) ?_
  refine lv_iconst (v := (nI 1)) hx hb dL_law_898 (by decide) ?_
  refine z_iadd hx hb dL_law_899 ?_
  refine z_sld hx hb hX hbl hbA hS (j := i + 1) (by omega) hL dL_law_900 ?_
  rw [hq1]
  refine lv_aload_n hx hb dL_law_901 rfl (lv_at hl 1 rfl) ?_
  refine lv_iload hx hb dL_law_902 (lv_at hl 5 rfl) ?_
  refine lv_iconst (v := (nI 2)) hx hb dL_law_904 (by decide) ?_
  refine z_iadd hx hb dL_law_905 ?_
  refine z_sld hx hb hX hbl hbA hS (j := i + 2) (by omega) hL dL_law_906 ?_
  rw [hq2]
  have hPm := hP.sub (ws' := wM h2 b0 b1 b2 b3 b4 cy th N cc ds de f cs2 be lf od) [5, 6, 7, 8, 9, 10] rfl
  have hDm := hD.sub (ws' := wM h2 b0 b1 b2 b3 b4 cy th N cc ds de f cs2 be lf od) [5, 6, 7, 8, 9, 10] (by decide) rfl
  refine zjVi (As := [.int q1, .int q2]) (rest := []) (wr := wBL h a0 a1 a2 cy N ec cc f cs tr o cl g) 0 [5, 6, 7, 8, 9, 10] [0, 1, 2, 3, 4] rfl rfl rfl (by decide) (by exact fun _ => rfl) ⟨hx, hb, hml, hown, hts⟩ (c_X1_together_bad l D cy h2 b0 b1 b2 b3 b4 th N cc ds de f cs2 be lf od _ q1 q2 (by rw [hq]; rfl)) (cwV 2 hts gL_law_X1_together rfl rfl rfl (by decide +kernel) ⟨Nat.le_of_ble_eq_true rfl, Nat.le_of_ble_eq_true rfl⟩) (hK.sub [0] rfl) hP hPm hD hDm hA rfl rfl rfl hl rfl (Nat.le_of_ble_eq_true rfl) dL_law_907 ⟨by show _ ≤ 1045; omega, by show _ ≤ 8429; omega⟩ hS (fun r8 u8 H locs hw8 hP hS => ?_)
  have hP : va_P D vwCl (wBL h a0 a1 a2 cy N ec cc f cs tr o cl g ++ wM h2 b0 b1 b2 b3 b4 cy (nI 1) N cc ds de f cs2 be lf od) H := hP
  have hD : va_D (lwAd s) (wBL h a0 a1 a2 cy N ec cc f cs tr o cl g ++ wM h2 b0 b1 b2 b3 b4 cy (nI 1) N cc ds de f cs2 be lf od) := zD hD rfl
  have hw8 : r8 = nI 0 := hw8
  refine lv_istore (lv' := [(6, .int r8), (5, .int (nI 1)), (0, .ref b), (1, .ref h), (2, .ref h2), (3, .ref o), (4, .int (nI i))]) hx hb dL_law_910 hl (by decide) rfl (fun ls hl => ?_)
  refine lv_aload_n hx hb dL_law_912 rfl (lv_at hl 4 rfl) ?_
  have hPt := hP.sub (ws' := wM h2 b0 b1 b2 b3 b4 cy (nI 1) N cc ds de f cs2 be lf od) [5, 6, 7, 8, 9, 10] rfl
  refine zrV (As := []) (rest := []) 0 ⟨hx, hb, hml, hown, hts⟩ (c_X1_thrown l D cy h2 b0 b1 b2 b3 b4 (nI 1) N cc ds de f cs2 be lf od) (cwV 0 hts gL_law_X1_thrown rfl rfl rfl (by decide +kernel) ⟨Nat.le_of_ble_eq_true rfl, Nat.le_of_ble_eq_true rfl⟩) (hK.sub [0] rfl) hPt rfl rfl rfl hl rfl (Nat.le_of_ble_eq_true rfl) dL_law_913 ⟨by show _ ≤ 1045; omega, by show _ ≤ 8429; omega⟩ hS (fun r7 H locs hw7 hk7 hS => ?_)
  obtain rfl : r7 = nI 1 := hw7
  have hP := zkeep hP hk7
  refine lv_iload hx hb dL_law_916 (lv_at hl 1 rfl) ?_
  refine lv_icmp_eq (tgt := 923) hx hb dL_law_918 (by decide) (fun _ => ?_) (fun q => absurd (rfl) q)
  refine lv_iload hx hb dL_law_923 (lv_at hl 1 rfl) ?_
  refine lv_if_ne (tgt := 940) hx hb dL_law_925 (by decide) (fun _ => ?_) (fun q => absurd q (by decide))
  refine lv_goto (tgt := 1334) hx hb dL_law_940 (by decide) ?_
  refine W.widen (k := cells + 1) (n := slots + 6) (by omega) (by omega) ?_
  exact K _ _ _ ⟨hg, _, _, _, _, _, _, _, _, _, _, _, _, hcs, hec, hP, hD⟩ hS (lv_sub hl [2, 3, 4, 5, 6] rfl)

set_option maxHeartbeats 4000000 in
set_option maxRecDepth 100000 in
theorem lw_together_bad2 (C : lwC p s m c b L xs) (hK : va_K D vwCl [(cy, .int), (cl, .long)] s) (hTL : zThL s) (hfl : l.stackTraces = false) {i : Nat} (hi : i + 3 ≤ L) (hg : gd f N) (hcs : csJ cs (cnum f N) N) (hec : ec = nI (ewn f N (zal N))) (hP : va_P D vwCl (wBL h a0 a1 a2 cy N ec cc f cs tr o cl g ++ wM h2 b0 b1 b2 b3 b4 cy th N cc ds de f cs2 be lf od) H) (hD : va_D (lwAd s) (wBL h a0 a1 a2 cy N ec cc f cs tr o cl g ++ wM h2 b0 b1 b2 b3 b4 cy th N cc ds de f cs2 be lf od)) (hS : va_S (lwAd s) s.heap H locs) (hl : lv_has ls 9 [(0, .ref b), (1, .ref h), (2, .ref h2), (3, .ref o), (4, .int (nI i))]) (hnc : cells + 1 ≤ 1045) (hns : slots + 6 ≤ 8429) {u : Nat} {q2 : Int32} (hu : u < N) (hq : isNb q2 N = false) (hq1 : xs (i + 1) = (nI u)) (hq2 : xs (i + 2) = q2)
  (K : ∀ (H1 : Heap) (locs1 : List Loc) (ls1 : Array Slot), lwI D (lwAd s) h a0 a1 a2 cy o cl h2 b0 b1 b2 b3 b4 N f H1 → va_S (lwAd s) s.heap H1 locs1 → lv_has ls1 9 [(0, .ref b), (1, .ref h), (2, .ref h2), (3, .ref o), (4, .int (nI i))] → W p l e room_1 s m #[Value.ref b] below meth c H1 locs1 (cells + 1) (slots + 6) Q (F0 m 1334 ls1 [])) :
  W p l e room_1 s m #[Value.ref b] below meth c H locs cells slots Q (F0 m 875 ls []) := by
  obtain ⟨hx, hb, hml, hown, hts, hX, hbl, hL⟩ := C
  have hN : N ≤ 20 := hg.1
  have hA : ∀ q : Nat, s.heap.size ≤ q → lwAd s q := fun _ h => h
  have hbA : ¬ lwAd s b := Nat.not_le.mpr hbl
  refine lv_aload_n hx hb dL_law_875 rfl (lv_at hl 1 rfl) ?_
  refine lv_aload_n hx hb dL_law_876 rfl (lv_at hl 0 rfl) ?_
  refine lv_iload hx hb dL_law_877 (lv_at hl 4 rfl) ?_
  refine lv_iconst (v := (nI 1)) hx hb dL_law_879 (by decide) ?_
  refine z_iadd hx hb dL_law_880 ?_
  refine z_sld hx hb hX hbl hbA hS (j := i + 1) (by omega) hL dL_law_881 ?_
  rw [hq1]
  refine lv_aload_n hx hb dL_law_882 rfl (lv_at hl 0 rfl) ?_
  refine lv_iload hx hb dL_law_883 (lv_at hl 4 rfl) ?_
  refine lv_iconst (v := (nI 2)) hx hb dL_law_885 (by decide) ?_
  refine z_iadd hx hb dL_law_886 ?_
  refine z_sld hx hb hX hbl hbA hS (j := i + 2) (by omega) hL dL_law_887 ?_
  rw [hq2]
  refine lv_aload_n hx hb dL_law_888 rfl (lv_at hl 3 rfl) ?_
  have hPb := hP.sub (ws' := wBL h a0 a1 a2 cy N ec cc f cs tr o cl g) [0, 1, 2, 3, 4] rfl
  have hDb := hD.sub (ws' := wBL h a0 a1 a2 cy N ec cc f cs tr o cl g) [0, 1, 2, 3, 4] (by decide) rfl
  refine zjSi (X := zTh) (As := [.ref h, .int (nI u), .int q2, .ref o]) (rest := []) (wr := wM h2 b0 b1 b2 b3 b4 cy th N cc ds de f cs2 be lf od) [0, 1, 2, 3, 4] [5, 6, 7, 8, 9, 10] rfl rfl rfl (by decide) (by exact fun _ => rfl) ⟨hx, hb, hml, hown, hts⟩ (w_together_bad2 l hfl D cy h a0 a1 a2 N ec cc f cs tr o cl g _ u q2 hN hu hq) (vx_cwSW 4 hts gL_law_L_together rfl rfl rfl (by decide +kernel) ⟨Nat.le_of_ble_eq_true rfl, Nat.le_of_ble_eq_true rfl⟩) hK hP hPb hD hDb hA (fun U g mk a q => q.same rfl rfl) (fun U hU hW => hTL.at hS hU hW) rfl hl rfl (Nat.le_of_ble_eq_true rfl) dL_law_889 ⟨by show _ ≤ 1045; omega, by show _ ≤ 8429; omega⟩ hS (fun r9 u9 H locs hw9 hP hS => ?_)
  obtain rfl : r9 = nI 1 := hw9
  have hP : va_P D vwCl (wBL h a0 a1 a2 cy N ec cc f cs tr o cl g ++ wM h2 b0 b1 b2 b3 b4 cy th N cc ds de f cs2 be lf od) H := hP.sub [6, 7, 8, 9, 10, 0, 1, 2, 3, 4, 5] rfl
  have hD : va_D (lwAd s) (wBL h a0 a1 a2 cy N ec cc f cs tr o cl g ++ wM h2 b0 b1 b2 b3 b4 cy th N cc ds de f cs2 be lf od) := zD hD rfl
  refine lv_istore (lv' := [(5, .int (nI 1)), (0, .ref b), (1, .ref h), (2, .ref h2), (3, .ref o), (4, .int (nI i))]) hx hb dL_law_892 hl (by decide) rfl (fun ls hl => ?_)
  refine lv_aload_n hx hb dL_law_894 rfl (lv_at hl 3 rfl) ?_
  refine lv_aload_n hx hb dL_law_895 rfl (lv_at hl 1 rfl) ?_
  refine lv_iload hx hb dL_law_896 (lv_at hl 5 rfl) ?_
  refine lv_iconst (v := (nI 1)) hx hb dL_law_898 (by decide) ?_
  refine z_iadd hx hb dL_law_899 ?_
  refine z_sld hx hb hX hbl hbA hS (j := i + 1) (by omega) hL dL_law_900 ?_
  rw [hq1]
  refine lv_aload_n hx hb dL_law_901 rfl (lv_at hl 1 rfl) ?_
  refine lv_iload hx hb dL_law_902 (lv_at hl 5 rfl) ?_
  refine lv_iconst (v := (nI 2)) hx hb dL_law_904 (by decide) ?_
  refine z_iadd hx hb dL_law_905 ?_
  refine z_sld hx hb hX hbl hbA hS (j := i + 2) (by omega) hL dL_law_906 ?_
  rw [hq2]
  have hPm := hP.sub (ws' := wM h2 b0 b1 b2 b3 b4 cy th N cc ds de f cs2 be lf od) [5, 6, 7, 8, 9, 10] rfl
  have hDm := hD.sub (ws' := wM h2 b0 b1 b2 b3 b4 cy th N cc ds de f cs2 be lf od) [5, 6, 7, 8, 9, 10] (by decide) rfl
  refine zjVi (As := [.int (nI u), .int q2]) (rest := []) (wr := wBL h a0 a1 a2 cy N ec cc f cs tr o cl g) 0 [5, 6, 7, 8, 9, 10] [0, 1, 2, 3, 4] rfl rfl rfl (by decide) (by exact fun _ => rfl) ⟨hx, hb, hml, hown, hts⟩ (c_X1_together_bad l D cy h2 b0 b1 b2 b3 b4 th N cc ds de f cs2 be lf od _ (nI u) q2 (by rw [hq]; exact Bool.and_false _)) (cwV 2 hts gL_law_X1_together rfl rfl rfl (by decide +kernel) ⟨Nat.le_of_ble_eq_true rfl, Nat.le_of_ble_eq_true rfl⟩) (hK.sub [0] rfl) hP hPm hD hDm hA rfl rfl rfl hl rfl (Nat.le_of_ble_eq_true rfl) dL_law_907 ⟨by show _ ≤ 1045; omega, by show _ ≤ 8429; omega⟩ hS (fun r8 u8 H locs hw8 hP hS => ?_)
  have hP : va_P D vwCl (wBL h a0 a1 a2 cy N ec cc f cs tr o cl g ++ wM h2 b0 b1 b2 b3 b4 cy (nI 1) N cc ds de f cs2 be lf od) H := hP
  have hD : va_D (lwAd s) (wBL h a0 a1 a2 cy N ec cc f cs tr o cl g ++ wM h2 b0 b1 b2 b3 b4 cy (nI 1) N cc ds de f cs2 be lf od) := zD hD rfl
  have hw8 : r8 = nI 0 := hw8
  refine lv_istore (lv' := [(6, .int r8), (5, .int (nI 1)), (0, .ref b), (1, .ref h), (2, .ref h2), (3, .ref o), (4, .int (nI i))]) hx hb dL_law_910 hl (by decide) rfl (fun ls hl => ?_)
  refine lv_aload_n hx hb dL_law_912 rfl (lv_at hl 4 rfl) ?_
  have hPt := hP.sub (ws' := wM h2 b0 b1 b2 b3 b4 cy (nI 1) N cc ds de f cs2 be lf od) [5, 6, 7, 8, 9, 10] rfl
  refine zrV (As := []) (rest := []) 0 ⟨hx, hb, hml, hown, hts⟩ (c_X1_thrown l D cy h2 b0 b1 b2 b3 b4 (nI 1) N cc ds de f cs2 be lf od) (cwV 0 hts gL_law_X1_thrown rfl rfl rfl (by decide +kernel) ⟨Nat.le_of_ble_eq_true rfl, Nat.le_of_ble_eq_true rfl⟩) (hK.sub [0] rfl) hPt rfl rfl rfl hl rfl (Nat.le_of_ble_eq_true rfl) dL_law_913 ⟨by show _ ≤ 1045; omega, by show _ ≤ 8429; omega⟩ hS (fun r7 H locs hw7 hk7 hS => ?_)
  obtain rfl : r7 = nI 1 := hw7
  have hP := zkeep hP hk7
  refine lv_iload hx hb dL_law_916 (lv_at hl 1 rfl) ?_
  refine lv_icmp_eq (tgt := 923) hx hb dL_law_918 (by decide) (fun _ => ?_) (fun q => absurd (rfl) q)
  refine lv_iload hx hb dL_law_923 (lv_at hl 1 rfl) ?_
  refine lv_if_ne (tgt := 940) hx hb dL_law_925 (by decide) (fun _ => ?_) (fun q => absurd q (by decide))
  refine lv_goto (tgt := 1334) hx hb dL_law_940 (by decide) ?_
  refine W.widen (k := cells + 1) (n := slots + 6) (by omega) (by omega) ?_
  exact K _ _ _ ⟨hg, _, _, _, _, _, _, _, _, _, _, _, _, hcs, hec, hP, hD⟩ hS (lv_sub hl [2, 3, 4, 5, 6] rfl)

set_option maxHeartbeats 4000000 in
set_option maxRecDepth 100000 in
theorem lw_hierarchy (C : lwC p s m c b L xs) (hK : va_K D vwCl [(cy, .int), (cl, .long)] s) (hTL : zThL s) (hfl : l.stackTraces = false) {i : Nat} (hi : i + 3 ≤ L) (hg : gd f N) (hcs : csJ cs (cnum f N) N) (hec : ec = nI (ewn f N (zal N))) (hP : va_P D vwCl (wBL h a0 a1 a2 cy N ec cc f cs tr o cl g ++ wM h2 b0 b1 b2 b3 b4 cy th N cc ds de f cs2 be lf od) H) (hD : va_D (lwAd s) (wBL h a0 a1 a2 cy N ec cc f cs tr o cl g ++ wM h2 b0 b1 b2 b3 b4 cy th N cc ds de f cs2 be lf od)) (hS : va_S (lwAd s) s.heap H locs) (hl : lv_has ls 9 [(0, .ref b), (1, .ref h), (2, .ref h2), (3, .ref o), (4, .int (nI i))]) (hnc : cells + 1 ≤ 1045) (hns : slots + 6 ≤ 8429)
  (K : ∀ (H1 : Heap) (locs1 : List Loc) (ls1 : Array Slot), lwI D (lwAd s) h a0 a1 a2 cy o cl h2 b0 b1 b2 b3 b4 N f H1 → va_S (lwAd s) s.heap H1 locs1 → lv_has ls1 9 [(0, .ref b), (1, .ref h), (2, .ref h2), (3, .ref o), (4, .int (nI i))] → W p l e room_1 s m #[Value.ref b] below meth c H1 locs1 (cells + 1) (slots + 6) Q (F0 m 1334 ls1 [])) :
  W p l e room_1 s m #[Value.ref b] below meth c H locs cells slots Q (F0 m 943 ls []) := by
  obtain ⟨hx, hb, hml, hown, hts, hX, hbl, hL⟩ := C
  have hN : N ≤ 20 := hg.1
  have hA : ∀ q : Nat, s.heap.size ≤ q → lwAd s q := fun _ h => h
  have hbA : ¬ lwAd s b := Nat.not_le.mpr hbl
  refine lv_aload_n hx hb dL_law_943 rfl (lv_at hl 1 rfl) ?_
  have hPb := hP.sub (ws' := wB h a0 a1 a2 cy N ec cc f cs tr) [1, 2, 3, 4] rfl
  refine zrV (As := []) (rest := []) 0 ⟨hx, hb, hml, hown, hts⟩ (c_X0_hierarchy l D cy h a0 a1 a2 N ec cc f cs tr (cnum f N) hN hg hcs.1) (cwV 0 hts gL_law_X0_hierarchy rfl rfl rfl (by decide +kernel) ⟨Nat.le_of_ble_eq_true rfl, Nat.le_of_ble_eq_true rfl⟩) (hK.sub [0] rfl) hPb rfl rfl rfl hl rfl (Nat.le_of_ble_eq_true rfl) dL_law_944 ⟨by show _ ≤ 1045; omega, by show _ ≤ 8429; omega⟩ hS (fun r9 H locs hw9 hk9 hS => ?_)
  have hP := zkeep hP hk9
  refine lv_aload_n hx hb dL_law_947 rfl (lv_at hl 2 rfl) ?_
  have hPm := hP.sub (ws' := wM h2 b0 b1 b2 b3 b4 cy th N cc ds de f cs2 be lf od) [5, 6, 7, 8, 9, 10] rfl
  have hDm := hD.sub (ws' := wM h2 b0 b1 b2 b3 b4 cy th N cc ds de f cs2 be lf od) [5, 6, 7, 8, 9, 10] (by decide) rfl
  refine zjVi (As := []) (rest := [.int r9]) (wr := wBL h a0 a1 a2 cy N ec cc f cs tr o cl g) 0 [5, 6, 7, 8, 9, 10] [0, 1, 2, 3, 4] rfl rfl rfl (by decide) (by exact fun _ => rfl) ⟨hx, hb, hml, hown, hts⟩ (c_X1_hierarchy l D cy h2 b0 b1 b2 b3 b4 th N cc ds de f cs2 be lf od _ (cnum f N) hN hg (cnum_ok hg)) (cwV 0 hts gL_law_X1_hierarchy rfl rfl rfl (by decide +kernel) ⟨Nat.le_of_ble_eq_true rfl, Nat.le_of_ble_eq_true rfl⟩) (hK.sub [0] rfl) hP hPm hD hDm hA rfl rfl rfl hl rfl (Nat.le_of_ble_eq_true rfl) dL_law_948 ⟨by show _ ≤ 1045; omega, by show _ ≤ 8429; omega⟩ hS (fun r8 u8 H locs hw8 hP hS => ?_)
  have hP : va_P D vwCl (wBL h a0 a1 a2 cy N ec cc f cs tr o cl g ++ wM h2 b0 b1 b2 b3 b4 cy (nI 0) N cc ds de f cs2 be lf od) H := hP
  have hD : va_D (lwAd s) (wBL h a0 a1 a2 cy N ec cc f cs tr o cl g ++ wM h2 b0 b1 b2 b3 b4 cy (nI 0) N cc ds de f cs2 be lf od) := zD hD rfl
  have hw8 : r8 = nI (fb_sm (hmS f (cnum f N) N) 20) := hw8
  obtain ⟨d9, t9, e9⟩ := hw9
  have he9 : r9 = r8 := by rw [e9, hw8, same_hier hg (fun v hv => (hcs.1 v hv).2) t9]
  refine lv_icmp_eq (tgt := 1334) hx hb dL_law_951 (by decide) (fun _ => ?_) (fun q => absurd (he9) q)
  refine W.widen (k := cells + 1) (n := slots + 6) (by omega) (by omega) ?_
  exact K _ _ _ ⟨hg, _, _, _, _, _, _, _, _, _, _, _, _, hcs, hec, hP, hD⟩ hS (lv_sub hl [0, 1, 2, 3, 4] rfl)

set_option maxHeartbeats 4000000 in
set_option maxRecDepth 100000 in
theorem lw_peeled_ok (C : lwC p s m c b L xs) (hK : va_K D vwCl [(cy, .int), (cl, .long)] s) (hTL : zThL s) (hfl : l.stackTraces = false) {i : Nat} (hi : i + 3 ≤ L) (hg : gd f N) (hcs : csJ cs (cnum f N) N) (hec : ec = nI (ewn f N (zal N))) (hP : va_P D vwCl (wBL h a0 a1 a2 cy N ec cc f cs tr o cl g ++ wM h2 b0 b1 b2 b3 b4 cy th N cc ds de f cs2 be lf od) H) (hD : va_D (lwAd s) (wBL h a0 a1 a2 cy N ec cc f cs tr o cl g ++ wM h2 b0 b1 b2 b3 b4 cy th N cc ds de f cs2 be lf od)) (hS : va_S (lwAd s) s.heap H locs) (hl : lv_has ls 9 [(0, .ref b), (1, .ref h), (2, .ref h2), (3, .ref o), (4, .int (nI i))]) (hnc : cells + 1 ≤ 1045) (hns : slots + 6 ≤ 8429) {u : Nat} (hu : u < N) (hq1 : xs (i + 1) = (nI u))
  (K : ∀ (H1 : Heap) (locs1 : List Loc) (ls1 : Array Slot), lwI D (lwAd s) h a0 a1 a2 cy o cl h2 b0 b1 b2 b3 b4 N f H1 → va_S (lwAd s) s.heap H1 locs1 → lv_has ls1 9 [(0, .ref b), (1, .ref h), (2, .ref h2), (3, .ref o), (4, .int (nI i))] → W p l e room_1 s m #[Value.ref b] below meth c H1 locs1 (cells + 1) (slots + 6) Q (F0 m 1334 ls1 [])) :
  W p l e room_1 s m #[Value.ref b] below meth c H locs cells slots Q (F0 m 956 ls []) := by
  obtain ⟨hx, hb, hml, hown, hts, hX, hbl, hL⟩ := C
  have hN : N ≤ 20 := hg.1
  have hA : ∀ q : Nat, s.heap.size ≤ q → lwAd s q := fun _ h => h
  have hbA : ¬ lwAd s b := Nat.not_le.mpr hbl
  refine lv_aload_n hx hb dL_law_956 rfl (lv_at hl 1 rfl) ?_
  refine lv_aload_n hx hb dL_law_957 rfl (lv_at hl 0 rfl) ?_
  refine lv_iload hx hb dL_law_958 (lv_at hl 4 rfl) ?_
  refine lv_iconst (v := (nI 1)) hx hb dL_law_960 (by decide) ?_
  refine z_iadd hx hb dL_law_961 ?_
  refine z_sld hx hb hX hbl hbA hS (j := i + 1) (by omega) hL dL_law_962 ?_
  rw [hq1]
  refine lv_aload_n hx hb dL_law_963 rfl (lv_at hl 3 rfl) ?_
  have hPb := hP.sub (ws' := wBL h a0 a1 a2 cy N ec cc f cs tr o cl g) [0, 1, 2, 3, 4] rfl
  have hDb := hD.sub (ws' := wBL h a0 a1 a2 cy N ec cc f cs tr o cl g) [0, 1, 2, 3, 4] (by decide) rfl
  refine zjSi (X := (fun _ => True)) (As := [.ref h, .int (nI u), .ref o]) (rest := []) (wr := wM h2 b0 b1 b2 b3 b4 cy th N cc ds de f cs2 be lf od) [0, 1, 2, 3, 4] [5, 6, 7, 8, 9, 10] rfl rfl rfl (by decide) (by exact fun _ => rfl) ⟨hx, hb, hml, hown, hts⟩ (w_peeled_ok l D cy h a0 a1 a2 N ec cc f cs tr o cl g _ u hN hu) (vx_cwSW 3 hts gL_law_L_peeled rfl rfl rfl (by decide +kernel) ⟨Nat.le_of_ble_eq_true rfl, Nat.le_of_ble_eq_true rfl⟩) hK hP hPb hD hDb hA (fun _ _ _ _ _ => trivial) (fun _ _ _ => trivial) rfl hl rfl (Nat.le_of_ble_eq_true rfl) dL_law_964 ⟨by show _ ≤ 1045; omega, by show _ ≤ 8429; omega⟩ hS (fun r9 u9 H locs hw9 hP hS => ?_)
  obtain ⟨rfl, hw9⟩ := hw9
  have hw9 : u9 = nI (npk f (dsk f N u).1 N).1 := hw9
  have hP : va_P D vwCl (wBL h a0 a1 a2 cy N ec cc f cs tr o cl (vp_updL g 0 (u9).toInt64) ++ wM h2 b0 b1 b2 b3 b4 cy th N cc ds de f cs2 be lf od) H := hP.sub [6, 7, 8, 9, 10, 0, 1, 2, 3, 4, 5] rfl
  have hD : va_D (lwAd s) (wBL h a0 a1 a2 cy N ec cc f cs tr o cl (vp_updL g 0 (u9).toInt64) ++ wM h2 b0 b1 b2 b3 b4 cy th N cc ds de f cs2 be lf od) := zD hD rfl
  refine lv_istore (lv' := [(5, .int (nI 0)), (0, .ref b), (1, .ref h), (2, .ref h2), (3, .ref o), (4, .int (nI i))]) hx hb dL_law_967 hl (by decide) rfl (fun ls hl => ?_)
  refine lv_aload_n hx hb dL_law_969 rfl (lv_at hl 3 rfl) ?_
  refine lv_aload_n hx hb dL_law_970 rfl (lv_at hl 1 rfl) ?_
  refine lv_iload hx hb dL_law_971 (lv_at hl 5 rfl) ?_
  refine lv_iconst (v := (nI 1)) hx hb dL_law_973 (by decide) ?_
  refine z_iadd hx hb dL_law_974 ?_
  refine z_sld hx hb hX hbl hbA hS (j := i + 1) (by omega) hL dL_law_975 ?_
  rw [hq1]
  have hPm := hP.sub (ws' := wM h2 b0 b1 b2 b3 b4 cy th N cc ds de f cs2 be lf od) [5, 6, 7, 8, 9, 10] rfl
  have hDm := hD.sub (ws' := wM h2 b0 b1 b2 b3 b4 cy th N cc ds de f cs2 be lf od) [5, 6, 7, 8, 9, 10] (by decide) rfl
  refine zjVi (As := [.int (nI u)]) (rest := []) (wr := wBL h a0 a1 a2 cy N ec cc f cs tr o cl (vp_updL g 0 (u9).toInt64)) 0 [5, 6, 7, 8, 9, 10] [0, 1, 2, 3, 4] rfl rfl rfl (by decide) (by exact fun _ => rfl) ⟨hx, hb, hml, hown, hts⟩ (c_X1_peeled_ok l D cy h2 b0 b1 b2 b3 b4 th N cc ds de f cs2 be lf od _ u hN hg hu) (cwV 1 hts gL_law_X1_peeled rfl rfl rfl (by decide +kernel) ⟨Nat.le_of_ble_eq_true rfl, Nat.le_of_ble_eq_true rfl⟩) (hK.sub [0] rfl) hP hPm hD hDm hA rfl rfl rfl hl rfl (Nat.le_of_ble_eq_true rfl) dL_law_976 ⟨by show _ ≤ 1045; omega, by show _ ≤ 8429; omega⟩ hS (fun r8 u8 H locs hw8 hP hS => ?_)
  have hP : va_P D vwCl (wBL h a0 a1 a2 cy N ec cc f cs tr o cl (vp_updL g 0 (u9).toInt64) ++ wM h2 b0 b1 b2 b3 b4 cy (nI 0) N cc ((dsk f N (N - 1)).2.1) (nI (dsk f N (N - 1)).2.2) f cs2 be lf u8) H := hP
  have hD : va_D (lwAd s) (wBL h a0 a1 a2 cy N ec cc f cs tr o cl (vp_updL g 0 (u9).toInt64) ++ wM h2 b0 b1 b2 b3 b4 cy (nI 0) N cc ((dsk f N (N - 1)).2.1) (nI (dsk f N (N - 1)).2.2) f cs2 be lf u8) := zD hD rfl
  have hw8 : r8 = nI (npk f (dsk f N u).1 N).1 := hw8
  refine lv_istore (lv' := [(6, .int r8), (5, .int (nI 0)), (0, .ref b), (1, .ref h), (2, .ref h2), (3, .ref o), (4, .int (nI i))]) hx hb dL_law_979 hl (by decide) rfl (fun ls hl => ?_)
  refine lv_aload_n hx hb dL_law_981 rfl (lv_at hl 4 rfl) ?_
  have hPt := hP.sub (ws' := wM h2 b0 b1 b2 b3 b4 cy (nI 0) N cc ((dsk f N (N - 1)).2.1) (nI (dsk f N (N - 1)).2.2) f cs2 be lf u8) [5, 6, 7, 8, 9, 10] rfl
  refine zrV (As := []) (rest := []) 0 ⟨hx, hb, hml, hown, hts⟩ (c_X1_thrown l D cy h2 b0 b1 b2 b3 b4 (nI 0) N cc ((dsk f N (N - 1)).2.1) (nI (dsk f N (N - 1)).2.2) f cs2 be lf u8) (cwV 0 hts gL_law_X1_thrown rfl rfl rfl (by decide +kernel) ⟨Nat.le_of_ble_eq_true rfl, Nat.le_of_ble_eq_true rfl⟩) (hK.sub [0] rfl) hPt rfl rfl rfl hl rfl (Nat.le_of_ble_eq_true rfl) dL_law_982 ⟨by show _ ≤ 1045; omega, by show _ ≤ 8429; omega⟩ hS (fun r7 H locs hw7 hk7 hS => ?_)
  obtain rfl : r7 = nI 0 := hw7
  have hP := zkeep hP hk7
  refine lv_iload hx hb dL_law_985 (lv_at hl 1 rfl) ?_
  refine lv_icmp_eq (tgt := 992) hx hb dL_law_987 (by decide) (fun _ => ?_) (fun q => absurd (rfl) q)
  refine lv_iload hx hb dL_law_992 (lv_at hl 1 rfl) ?_
  refine lv_if_ne (tgt := 1009) hx hb dL_law_994 (by decide) (fun q => absurd rfl q) (fun _ => ?_)
  refine lv_aload_n hx hb dL_law_997 rfl (lv_at hl 5 rfl) ?_
  refine lv_iconst (v := (nI 0)) hx hb dL_law_998 (by decide) ?_
  refine z_lald0 hx hb hK hP 0 1 rfl rfl dL_law_999 ?_
  refine lv_iload hx hb dL_law_1000 (lv_at hl 0 rfl) ?_
  refine lv_i2l (v := (r8).toInt64) hx hb dL_law_1002 rfl ?_
  refine z_lcmp hx hb (congrArg Int32.toInt64 (hw9.trans hw8.symm)) dL_law_1003 ?_
  refine lv_if_eq (tgt := 1009) hx hb dL_law_1004 (by decide) (fun _ => ?_) (fun q => absurd (by decide) q)
  refine lv_goto (tgt := 1334) hx hb dL_law_1009 (by decide) ?_
  refine W.widen (k := cells + 1) (n := slots + 6) (by omega) (by omega) ?_
  exact K _ _ _ ⟨hg, _, _, _, _, _, _, _, _, _, _, _, _, hcs, hec, hP, hD⟩ hS (lv_sub hl [2, 3, 4, 5, 6] rfl)

set_option maxHeartbeats 4000000 in
set_option maxRecDepth 100000 in
theorem lw_peeled_bad (C : lwC p s m c b L xs) (hK : va_K D vwCl [(cy, .int), (cl, .long)] s) (hTL : zThL s) (hfl : l.stackTraces = false) {i : Nat} (hi : i + 3 ≤ L) (hg : gd f N) (hcs : csJ cs (cnum f N) N) (hec : ec = nI (ewn f N (zal N))) (hP : va_P D vwCl (wBL h a0 a1 a2 cy N ec cc f cs tr o cl g ++ wM h2 b0 b1 b2 b3 b4 cy th N cc ds de f cs2 be lf od) H) (hD : va_D (lwAd s) (wBL h a0 a1 a2 cy N ec cc f cs tr o cl g ++ wM h2 b0 b1 b2 b3 b4 cy th N cc ds de f cs2 be lf od)) (hS : va_S (lwAd s) s.heap H locs) (hl : lv_has ls 9 [(0, .ref b), (1, .ref h), (2, .ref h2), (3, .ref o), (4, .int (nI i))]) (hnc : cells + 1 ≤ 1045) (hns : slots + 6 ≤ 8429) {q : Int32} (hq : isNb q N = false) (hq1 : xs (i + 1) = q)
  (K : ∀ (H1 : Heap) (locs1 : List Loc) (ls1 : Array Slot), lwI D (lwAd s) h a0 a1 a2 cy o cl h2 b0 b1 b2 b3 b4 N f H1 → va_S (lwAd s) s.heap H1 locs1 → lv_has ls1 9 [(0, .ref b), (1, .ref h), (2, .ref h2), (3, .ref o), (4, .int (nI i))] → W p l e room_1 s m #[Value.ref b] below meth c H1 locs1 (cells + 1) (slots + 6) Q (F0 m 1334 ls1 [])) :
  W p l e room_1 s m #[Value.ref b] below meth c H locs cells slots Q (F0 m 956 ls []) := by
  obtain ⟨hx, hb, hml, hown, hts, hX, hbl, hL⟩ := C
  have hN : N ≤ 20 := hg.1
  have hA : ∀ q : Nat, s.heap.size ≤ q → lwAd s q := fun _ h => h
  have hbA : ¬ lwAd s b := Nat.not_le.mpr hbl
  refine lv_aload_n hx hb dL_law_956 rfl (lv_at hl 1 rfl) ?_
  refine lv_aload_n hx hb dL_law_957 rfl (lv_at hl 0 rfl) ?_
  refine lv_iload hx hb dL_law_958 (lv_at hl 4 rfl) ?_
  refine lv_iconst (v := (nI 1)) hx hb dL_law_960 (by decide) ?_
  refine z_iadd hx hb dL_law_961 ?_
  refine z_sld hx hb hX hbl hbA hS (j := i + 1) (by omega) hL dL_law_962 ?_
  rw [hq1]
  refine lv_aload_n hx hb dL_law_963 rfl (lv_at hl 3 rfl) ?_
  have hPb := hP.sub (ws' := wBL h a0 a1 a2 cy N ec cc f cs tr o cl g) [0, 1, 2, 3, 4] rfl
  have hDb := hD.sub (ws' := wBL h a0 a1 a2 cy N ec cc f cs tr o cl g) [0, 1, 2, 3, 4] (by decide) rfl
  refine zjSi (X := zTh) (As := [.ref h, .int q, .ref o]) (rest := []) (wr := wM h2 b0 b1 b2 b3 b4 cy th N cc ds de f cs2 be lf od) [0, 1, 2, 3, 4] [5, 6, 7, 8, 9, 10] rfl rfl rfl (by decide) (by exact fun _ => rfl) ⟨hx, hb, hml, hown, hts⟩ (w_peeled_bad l hfl D cy h a0 a1 a2 N ec cc f cs tr o cl g _ q hq) (vx_cwSW 3 hts gL_law_L_peeled rfl rfl rfl (by decide +kernel) ⟨Nat.le_of_ble_eq_true rfl, Nat.le_of_ble_eq_true rfl⟩) hK hP hPb hD hDb hA (fun U g mk a q => q.same rfl rfl) (fun U hU hW => hTL.at hS hU hW) rfl hl rfl (Nat.le_of_ble_eq_true rfl) dL_law_964 ⟨by show _ ≤ 1045; omega, by show _ ≤ 8429; omega⟩ hS (fun r9 u9 H locs hw9 hP hS => ?_)
  obtain rfl : r9 = nI 1 := hw9
  have hP : va_P D vwCl (wBL h a0 a1 a2 cy N ec cc f cs tr o cl g ++ wM h2 b0 b1 b2 b3 b4 cy th N cc ds de f cs2 be lf od) H := hP.sub [6, 7, 8, 9, 10, 0, 1, 2, 3, 4, 5] rfl
  have hD : va_D (lwAd s) (wBL h a0 a1 a2 cy N ec cc f cs tr o cl g ++ wM h2 b0 b1 b2 b3 b4 cy th N cc ds de f cs2 be lf od) := zD hD rfl
  refine lv_istore (lv' := [(5, .int (nI 1)), (0, .ref b), (1, .ref h), (2, .ref h2), (3, .ref o), (4, .int (nI i))]) hx hb dL_law_967 hl (by decide) rfl (fun ls hl => ?_)
  refine lv_aload_n hx hb dL_law_969 rfl (lv_at hl 3 rfl) ?_
  refine lv_aload_n hx hb dL_law_970 rfl (lv_at hl 1 rfl) ?_
  refine lv_iload hx hb dL_law_971 (lv_at hl 5 rfl) ?_
  refine lv_iconst (v := (nI 1)) hx hb dL_law_973 (by decide) ?_
  refine z_iadd hx hb dL_law_974 ?_
  refine z_sld hx hb hX hbl hbA hS (j := i + 1) (by omega) hL dL_law_975 ?_
  rw [hq1]
  have hPm := hP.sub (ws' := wM h2 b0 b1 b2 b3 b4 cy th N cc ds de f cs2 be lf od) [5, 6, 7, 8, 9, 10] rfl
  have hDm := hD.sub (ws' := wM h2 b0 b1 b2 b3 b4 cy th N cc ds de f cs2 be lf od) [5, 6, 7, 8, 9, 10] (by decide) rfl
  refine zjVi (As := [.int q]) (rest := []) (wr := wBL h a0 a1 a2 cy N ec cc f cs tr o cl g) 0 [5, 6, 7, 8, 9, 10] [0, 1, 2, 3, 4] rfl rfl rfl (by decide) (by exact fun _ => rfl) ⟨hx, hb, hml, hown, hts⟩ (c_X1_peeled_bad l D cy h2 b0 b1 b2 b3 b4 th N cc ds de f cs2 be lf od _ q hq) (cwV 1 hts gL_law_X1_peeled rfl rfl rfl (by decide +kernel) ⟨Nat.le_of_ble_eq_true rfl, Nat.le_of_ble_eq_true rfl⟩) (hK.sub [0] rfl) hP hPm hD hDm hA rfl rfl rfl hl rfl (Nat.le_of_ble_eq_true rfl) dL_law_976 ⟨by show _ ≤ 1045; omega, by show _ ≤ 8429; omega⟩ hS (fun r8 u8 H locs hw8 hP hS => ?_)
  have hP : va_P D vwCl (wBL h a0 a1 a2 cy N ec cc f cs tr o cl g ++ wM h2 b0 b1 b2 b3 b4 cy (nI 1) N cc ds de f cs2 be lf od) H := hP
  have hD : va_D (lwAd s) (wBL h a0 a1 a2 cy N ec cc f cs tr o cl g ++ wM h2 b0 b1 b2 b3 b4 cy (nI 1) N cc ds de f cs2 be lf od) := zD hD rfl
  have hw8 : r8 = nI 0 := hw8
  refine lv_istore (lv' := [(6, .int r8), (5, .int (nI 1)), (0, .ref b), (1, .ref h), (2, .ref h2), (3, .ref o), (4, .int (nI i))]) hx hb dL_law_979 hl (by decide) rfl (fun ls hl => ?_)
  refine lv_aload_n hx hb dL_law_981 rfl (lv_at hl 4 rfl) ?_
  have hPt := hP.sub (ws' := wM h2 b0 b1 b2 b3 b4 cy (nI 1) N cc ds de f cs2 be lf od) [5, 6, 7, 8, 9, 10] rfl
  refine zrV (As := []) (rest := []) 0 ⟨hx, hb, hml, hown, hts⟩ (c_X1_thrown l D cy h2 b0 b1 b2 b3 b4 (nI 1) N cc ds de f cs2 be lf od) (cwV 0 hts gL_law_X1_thrown rfl rfl rfl (by decide +kernel) ⟨Nat.le_of_ble_eq_true rfl, Nat.le_of_ble_eq_true rfl⟩) (hK.sub [0] rfl) hPt rfl rfl rfl hl rfl (Nat.le_of_ble_eq_true rfl) dL_law_982 ⟨by show _ ≤ 1045; omega, by show _ ≤ 8429; omega⟩ hS (fun r7 H locs hw7 hk7 hS => ?_)
  obtain rfl : r7 = nI 1 := hw7
  have hP := zkeep hP hk7
  refine lv_iload hx hb dL_law_985 (lv_at hl 1 rfl) ?_
  refine lv_icmp_eq (tgt := 992) hx hb dL_law_987 (by decide) (fun _ => ?_) (fun q => absurd (rfl) q)
  refine lv_iload hx hb dL_law_992 (lv_at hl 1 rfl) ?_
  refine lv_if_ne (tgt := 1009) hx hb dL_law_994 (by decide) (fun _ => ?_) (fun q => absurd q (by decide))
  refine lv_goto (tgt := 1334) hx hb dL_law_1009 (by decide) ?_
  refine W.widen (k := cells + 1) (n := slots + 6) (by omega) (by omega) ?_
  exact K _ _ _ ⟨hg, _, _, _, _, _, _, _, _, _, _, _, _, hcs, hec, hP, hD⟩ hS (lv_sub hl [2, 3, 4, 5, 6] rfl)

set_option maxHeartbeats 4000000 in
set_option maxRecDepth 100000 in
theorem lw_denseSize (C : lwC p s m c b L xs) (hK : va_K D vwCl [(cy, .int), (cl, .long)] s) (hTL : zThL s) (hfl : l.stackTraces = false) {i : Nat} (hi : i + 3 ≤ L) (hg : gd f N) (hcs : csJ cs (cnum f N) N) (hec : ec = nI (ewn f N (zal N))) (hP : va_P D vwCl (wBL h a0 a1 a2 cy N ec cc f cs tr o cl g ++ wM h2 b0 b1 b2 b3 b4 cy th N cc ds de f cs2 be lf od) H) (hD : va_D (lwAd s) (wBL h a0 a1 a2 cy N ec cc f cs tr o cl g ++ wM h2 b0 b1 b2 b3 b4 cy th N cc ds de f cs2 be lf od)) (hS : va_S (lwAd s) s.heap H locs) (hl : lv_has ls 9 [(0, .ref b), (1, .ref h), (2, .ref h2), (3, .ref o), (4, .int (nI i))]) (hnc : cells + 1 ≤ 1045) (hns : slots + 6 ≤ 8429)
  (K : ∀ (H1 : Heap) (locs1 : List Loc) (ls1 : Array Slot), lwI D (lwAd s) h a0 a1 a2 cy o cl h2 b0 b1 b2 b3 b4 N f H1 → va_S (lwAd s) s.heap H1 locs1 → lv_has ls1 9 [(0, .ref b), (1, .ref h), (2, .ref h2), (3, .ref o), (4, .int (nI i))] → W p l e room_1 s m #[Value.ref b] below meth c H1 locs1 (cells + 1) (slots + 6) Q (F0 m 1334 ls1 [])) :
  W p l e room_1 s m #[Value.ref b] below meth c H locs cells slots Q (F0 m 1012 ls []) := by
  obtain ⟨hx, hb, hml, hown, hts, hX, hbl, hL⟩ := C
  have hN : N ≤ 20 := hg.1
  have hA : ∀ q : Nat, s.heap.size ≤ q → lwAd s q := fun _ h => h
  have hbA : ¬ lwAd s b := Nat.not_le.mpr hbl
  refine lv_aload_n hx hb dL_law_1012 rfl (lv_at hl 1 rfl) ?_
  have hPb := hP.sub (ws' := wB h a0 a1 a2 cy N ec cc f cs tr) [1, 2, 3, 4] rfl
  refine zrV (As := []) (rest := []) 0 ⟨hx, hb, hml, hown, hts⟩ (c_X0_denseSize l D cy h a0 a1 a2 N ec cc f cs tr hN hec) (cwV 0 hts gL_law_X0_denseSize rfl rfl rfl (by decide +kernel) ⟨Nat.le_of_ble_eq_true rfl, Nat.le_of_ble_eq_true rfl⟩) (hK.sub [0] rfl) hPb rfl rfl rfl hl rfl (Nat.le_of_ble_eq_true rfl) dL_law_1013 ⟨by show _ ≤ 1045; omega, by show _ ≤ 8429; omega⟩ hS (fun r9 H locs hw9 hk9 hS => ?_)
  have hP := zkeep hP hk9
  refine lv_aload_n hx hb dL_law_1016 rfl (lv_at hl 2 rfl) ?_
  have hPm := hP.sub (ws' := wM h2 b0 b1 b2 b3 b4 cy th N cc ds de f cs2 be lf od) [5, 6, 7, 8, 9, 10] rfl
  have hDm := hD.sub (ws' := wM h2 b0 b1 b2 b3 b4 cy th N cc ds de f cs2 be lf od) [5, 6, 7, 8, 9, 10] (by decide) rfl
  refine zjVi (As := []) (rest := [.int r9]) (wr := wBL h a0 a1 a2 cy N ec cc f cs tr o cl g) 0 [5, 6, 7, 8, 9, 10] [0, 1, 2, 3, 4] rfl rfl rfl (by decide) (by exact fun _ => rfl) ⟨hx, hb, hml, hown, hts⟩ (c_X1_denseSize l D cy h2 b0 b1 b2 b3 b4 th N cc ds de f cs2 be lf od _ hN hg) (cwV 0 hts gL_law_X1_denseSize rfl rfl rfl (by decide +kernel) ⟨Nat.le_of_ble_eq_true rfl, Nat.le_of_ble_eq_true rfl⟩) (hK.sub [0] rfl) hP hPm hD hDm hA rfl rfl rfl hl rfl (Nat.le_of_ble_eq_true rfl) dL_law_1017 ⟨by show _ ≤ 1045; omega, by show _ ≤ 8429; omega⟩ hS (fun r8 u8 H locs hw8 hP hS => ?_)
  have hP : va_P D vwCl (wBL h a0 a1 a2 cy N ec cc f cs tr o cl g ++ wM h2 b0 b1 b2 b3 b4 cy (nI 0) N cc ((dsk f N (N - 1)).2.1) (nI (dsk f N (N - 1)).2.2) f cs2 be lf u8) H := hP
  have hD : va_D (lwAd s) (wBL h a0 a1 a2 cy N ec cc f cs tr o cl g ++ wM h2 b0 b1 b2 b3 b4 cy (nI 0) N cc ((dsk f N (N - 1)).2.1) (nI (dsk f N (N - 1)).2.2) f cs2 be lf u8) := zD hD rfl
  have hw8 : r8 = nI (zpop (dsk f N (N - 1)).2.1) := hw8
  refine lv_icmp_eq (tgt := 1334) hx hb dL_law_1020 (by decide) (fun _ => ?_) (fun q => absurd (hw9.trans hw8.symm) q)
  refine W.widen (k := cells + 1) (n := slots + 6) (by omega) (by omega) ?_
  exact K _ _ _ ⟨hg, _, _, _, _, _, _, _, _, _, _, _, _, hcs, hec, hP, hD⟩ hS (lv_sub hl [0, 1, 2, 3, 4] rfl)

set_option maxHeartbeats 4000000 in
set_option maxRecDepth 100000 in
theorem lw_isDense_ok (C : lwC p s m c b L xs) (hK : va_K D vwCl [(cy, .int), (cl, .long)] s) (hTL : zThL s) (hfl : l.stackTraces = false) {i : Nat} (hi : i + 3 ≤ L) (hg : gd f N) (hcs : csJ cs (cnum f N) N) (hec : ec = nI (ewn f N (zal N))) (hP : va_P D vwCl (wBL h a0 a1 a2 cy N ec cc f cs tr o cl g ++ wM h2 b0 b1 b2 b3 b4 cy th N cc ds de f cs2 be lf od) H) (hD : va_D (lwAd s) (wBL h a0 a1 a2 cy N ec cc f cs tr o cl g ++ wM h2 b0 b1 b2 b3 b4 cy th N cc ds de f cs2 be lf od)) (hS : va_S (lwAd s) s.heap H locs) (hl : lv_has ls 9 [(0, .ref b), (1, .ref h), (2, .ref h2), (3, .ref o), (4, .int (nI i))]) (hnc : cells + 1 ≤ 1045) (hns : slots + 6 ≤ 8429) {u : Nat} (hu : u < N) (hq1 : xs (i + 1) = (nI u))
  (K : ∀ (H1 : Heap) (locs1 : List Loc) (ls1 : Array Slot), lwI D (lwAd s) h a0 a1 a2 cy o cl h2 b0 b1 b2 b3 b4 N f H1 → va_S (lwAd s) s.heap H1 locs1 → lv_has ls1 9 [(0, .ref b), (1, .ref h), (2, .ref h2), (3, .ref o), (4, .int (nI i))] → W p l e room_1 s m #[Value.ref b] below meth c H1 locs1 (cells + 1) (slots + 6) Q (F0 m 1334 ls1 [])) :
  W p l e room_1 s m #[Value.ref b] below meth c H locs cells slots Q (F0 m 1025 ls []) := by
  obtain ⟨hx, hb, hml, hown, hts, hX, hbl, hL⟩ := C
  have hN : N ≤ 20 := hg.1
  have hA : ∀ q : Nat, s.heap.size ≤ q → lwAd s q := fun _ h => h
  have hbA : ¬ lwAd s b := Nat.not_le.mpr hbl
  refine lv_aload_n hx hb dL_law_1025 rfl (lv_at hl 1 rfl) ?_
  refine lv_aload_n hx hb dL_law_1026 rfl (lv_at hl 0 rfl) ?_
  refine lv_iload hx hb dL_law_1027 (lv_at hl 4 rfl) ?_
  refine lv_iconst (v := (nI 1)) hx hb dL_law_1029 (by decide) ?_
  refine z_iadd hx hb dL_law_1030 ?_
  refine z_sld hx hb hX hbl hbA hS (j := i + 1) (by omega) hL dL_law_1031 ?_
  rw [hq1]
  refine lv_aload_n hx hb dL_law_1032 rfl (lv_at hl 3 rfl) ?_
  have hPb := hP.sub (ws' := wBL h a0 a1 a2 cy N ec cc f cs tr o cl g) [0, 1, 2, 3, 4] rfl
  have hDb := hD.sub (ws' := wBL h a0 a1 a2 cy N ec cc f cs tr o cl g) [0, 1, 2, 3, 4] (by decide) rfl
  refine zjSi (X := (fun _ => True)) (As := [.ref h, .int (nI u), .ref o]) (rest := []) (wr := wM h2 b0 b1 b2 b3 b4 cy th N cc ds de f cs2 be lf od) [0, 1, 2, 3, 4] [5, 6, 7, 8, 9, 10] rfl rfl rfl (by decide) (by exact fun _ => rfl) ⟨hx, hb, hml, hown, hts⟩ (w_isDense_ok l D cy h a0 a1 a2 N ec cc f cs tr o cl g _ u hN hu hec) (vx_cwSW 3 hts gL_law_L_isDense rfl rfl rfl (by decide +kernel) ⟨Nat.le_of_ble_eq_true rfl, Nat.le_of_ble_eq_true rfl⟩) hK hP hPb hD hDb hA (fun _ _ _ _ _ => trivial) (fun _ _ _ => trivial) rfl hl rfl (Nat.le_of_ble_eq_true rfl) dL_law_1033 ⟨by show _ ≤ 1045; omega, by show _ ≤ 8429; omega⟩ hS (fun r9 u9 H locs hw9 hP hS => ?_)
  obtain ⟨rfl, hw9⟩ := hw9
  have hw9 : u9 = zb (bt (dsk f N (N - 1)).2.1 u) := hw9
  have hP : va_P D vwCl (wBL h a0 a1 a2 cy N ec cc f cs tr o cl (vp_updL g 0 (u9).toInt64) ++ wM h2 b0 b1 b2 b3 b4 cy th N cc ds de f cs2 be lf od) H := hP.sub [6, 7, 8, 9, 10, 0, 1, 2, 3, 4, 5] rfl
  have hD : va_D (lwAd s) (wBL h a0 a1 a2 cy N ec cc f cs tr o cl (vp_updL g 0 (u9).toInt64) ++ wM h2 b0 b1 b2 b3 b4 cy th N cc ds de f cs2 be lf od) := zD hD rfl
  refine lv_istore (lv' := [(5, .int (nI 0)), (0, .ref b), (1, .ref h), (2, .ref h2), (3, .ref o), (4, .int (nI i))]) hx hb dL_law_1036 hl (by decide) rfl (fun ls hl => ?_)
  refine lv_aload_n hx hb dL_law_1038 rfl (lv_at hl 3 rfl) ?_
  refine lv_aload_n hx hb dL_law_1039 rfl (lv_at hl 1 rfl) ?_
  refine lv_iload hx hb dL_law_1040 (lv_at hl 5 rfl) ?_
  refine lv_iconst (v := (nI 1)) hx hb dL_law_1042 (by decide) ?_
  refine z_iadd hx hb dL_law_1043 ?_
  refine z_sld hx hb hX hbl hbA hS (j := i + 1) (by omega) hL dL_law_1044 ?_
  rw [hq1]
  have hPm := hP.sub (ws' := wM h2 b0 b1 b2 b3 b4 cy th N cc ds de f cs2 be lf od) [5, 6, 7, 8, 9, 10] rfl
  have hDm := hD.sub (ws' := wM h2 b0 b1 b2 b3 b4 cy th N cc ds de f cs2 be lf od) [5, 6, 7, 8, 9, 10] (by decide) rfl
  refine zjVi (As := [.int (nI u)]) (rest := []) (wr := wBL h a0 a1 a2 cy N ec cc f cs tr o cl (vp_updL g 0 (u9).toInt64)) 0 [5, 6, 7, 8, 9, 10] [0, 1, 2, 3, 4] rfl rfl rfl (by decide) (by exact fun _ => rfl) ⟨hx, hb, hml, hown, hts⟩ (c_X1_isDense_ok l D cy h2 b0 b1 b2 b3 b4 th N cc ds de f cs2 be lf od _ u hN hg hu) (cwV 1 hts gL_law_X1_isDense rfl rfl rfl (by decide +kernel) ⟨Nat.le_of_ble_eq_true rfl, Nat.le_of_ble_eq_true rfl⟩) (hK.sub [0] rfl) hP hPm hD hDm hA rfl rfl rfl hl rfl (Nat.le_of_ble_eq_true rfl) dL_law_1045 ⟨by show _ ≤ 1045; omega, by show _ ≤ 8429; omega⟩ hS (fun r8 u8 H locs hw8 hP hS => ?_)
  have hP : va_P D vwCl (wBL h a0 a1 a2 cy N ec cc f cs tr o cl (vp_updL g 0 (u9).toInt64) ++ wM h2 b0 b1 b2 b3 b4 cy (nI 0) N cc ((dsk f N (N - 1)).2.1) (nI (dsk f N (N - 1)).2.2) f cs2 be lf u8) H := hP
  have hD : va_D (lwAd s) (wBL h a0 a1 a2 cy N ec cc f cs tr o cl (vp_updL g 0 (u9).toInt64) ++ wM h2 b0 b1 b2 b3 b4 cy (nI 0) N cc ((dsk f N (N - 1)).2.1) (nI (dsk f N (N - 1)).2.2) f cs2 be lf u8) := zD hD rfl
  have hw8 : r8 = zb (bt (dsk f N (N - 1)).2.1 u) := hw8
  obtain rfl : r8 = zb (bt (dsk f N (N - 1)).2.1 u) := hw8
  refine lv_istore (lv' := [(6, .int (zb (bt (dsk f N (N - 1)).2.1 u))), (5, .int (nI 0)), (0, .ref b), (1, .ref h), (2, .ref h2), (3, .ref o), (4, .int (nI i))]) hx hb dL_law_1048 hl (by decide) rfl (fun ls hl => ?_)
  refine lv_aload_n hx hb dL_law_1050 rfl (lv_at hl 4 rfl) ?_
  have hPt := hP.sub (ws' := wM h2 b0 b1 b2 b3 b4 cy (nI 0) N cc ((dsk f N (N - 1)).2.1) (nI (dsk f N (N - 1)).2.2) f cs2 be lf u8) [5, 6, 7, 8, 9, 10] rfl
  refine zrV (As := []) (rest := []) 0 ⟨hx, hb, hml, hown, hts⟩ (c_X1_thrown l D cy h2 b0 b1 b2 b3 b4 (nI 0) N cc ((dsk f N (N - 1)).2.1) (nI (dsk f N (N - 1)).2.2) f cs2 be lf u8) (cwV 0 hts gL_law_X1_thrown rfl rfl rfl (by decide +kernel) ⟨Nat.le_of_ble_eq_true rfl, Nat.le_of_ble_eq_true rfl⟩) (hK.sub [0] rfl) hPt rfl rfl rfl hl rfl (Nat.le_of_ble_eq_true rfl) dL_law_1051 ⟨by show _ ≤ 1045; omega, by show _ ≤ 8429; omega⟩ hS (fun r7 H locs hw7 hk7 hS => ?_)
  obtain rfl : r7 = nI 0 := hw7
  have hP := zkeep hP hk7
  refine lv_iload hx hb dL_law_1054 (lv_at hl 1 rfl) ?_
  refine lv_icmp_eq (tgt := 1061) hx hb dL_law_1056 (by decide) (fun _ => ?_) (fun q => absurd (rfl) q)
  refine lv_iload hx hb dL_law_1061 (lv_at hl 1 rfl) ?_
  refine lv_if_ne (tgt := 1085) hx hb dL_law_1063 (by decide) (fun q => absurd rfl q) (fun _ => ?_)
  refine lv_aload_n hx hb dL_law_1066 rfl (lv_at hl 5 rfl) ?_
  refine lv_iconst (v := (nI 0)) hx hb dL_law_1067 (by decide) ?_
  refine z_lald0 hx hb hK hP 0 1 rfl rfl dL_law_1068 ?_
  refine lv_iload hx hb dL_law_1069 (lv_at hl 0 rfl) ?_
  refine z_ifb_eq (tgt := 1078) hx hb dL_law_1071 (by decide) (fun h1071 => ?_) (fun h1071 => ?_)
  · refine lv_lconst (v := (zb false).toInt64) hx hb dL_law_1078 (by decide) ?_
    refine z_lcmp hx hb (congrArg Int32.toInt64 (hw9.trans (by rw [h1071]))) dL_law_1079 ?_
    refine lv_if_eq (tgt := 1085) hx hb dL_law_1080 (by decide) (fun _ => ?_) (fun q => absurd (by decide) q)
    refine lv_goto (tgt := 1334) hx hb dL_law_1085 (by decide) ?_
    refine W.widen (k := cells + 1) (n := slots + 6) (by omega) (by omega) ?_
    exact K _ _ _ ⟨hg, _, _, _, _, _, _, _, _, _, _, _, _, hcs, hec, hP, hD⟩ hS (lv_sub hl [2, 3, 4, 5, 6] rfl)
  · refine lv_lconst (v := (zb true).toInt64) hx hb dL_law_1074 (by decide) ?_
    refine lv_goto (tgt := 1079) hx hb dL_law_1075 (by decide) ?_
    refine z_lcmp hx hb (congrArg Int32.toInt64 (hw9.trans (by rw [h1071]))) dL_law_1079 ?_
    refine lv_if_eq (tgt := 1085) hx hb dL_law_1080 (by decide) (fun _ => ?_) (fun q => absurd (by decide) q)
    refine lv_goto (tgt := 1334) hx hb dL_law_1085 (by decide) ?_
    refine W.widen (k := cells + 1) (n := slots + 6) (by omega) (by omega) ?_
    exact K _ _ _ ⟨hg, _, _, _, _, _, _, _, _, _, _, _, _, hcs, hec, hP, hD⟩ hS (lv_sub hl [2, 3, 4, 5, 6] rfl)

set_option maxHeartbeats 4000000 in
set_option maxRecDepth 100000 in
theorem lw_isDense_bad (C : lwC p s m c b L xs) (hK : va_K D vwCl [(cy, .int), (cl, .long)] s) (hTL : zThL s) (hfl : l.stackTraces = false) {i : Nat} (hi : i + 3 ≤ L) (hg : gd f N) (hcs : csJ cs (cnum f N) N) (hec : ec = nI (ewn f N (zal N))) (hP : va_P D vwCl (wBL h a0 a1 a2 cy N ec cc f cs tr o cl g ++ wM h2 b0 b1 b2 b3 b4 cy th N cc ds de f cs2 be lf od) H) (hD : va_D (lwAd s) (wBL h a0 a1 a2 cy N ec cc f cs tr o cl g ++ wM h2 b0 b1 b2 b3 b4 cy th N cc ds de f cs2 be lf od)) (hS : va_S (lwAd s) s.heap H locs) (hl : lv_has ls 9 [(0, .ref b), (1, .ref h), (2, .ref h2), (3, .ref o), (4, .int (nI i))]) (hnc : cells + 1 ≤ 1045) (hns : slots + 6 ≤ 8429) {q : Int32} (hq : isNb q N = false) (hq1 : xs (i + 1) = q)
  (K : ∀ (H1 : Heap) (locs1 : List Loc) (ls1 : Array Slot), lwI D (lwAd s) h a0 a1 a2 cy o cl h2 b0 b1 b2 b3 b4 N f H1 → va_S (lwAd s) s.heap H1 locs1 → lv_has ls1 9 [(0, .ref b), (1, .ref h), (2, .ref h2), (3, .ref o), (4, .int (nI i))] → W p l e room_1 s m #[Value.ref b] below meth c H1 locs1 (cells + 1) (slots + 6) Q (F0 m 1334 ls1 [])) :
  W p l e room_1 s m #[Value.ref b] below meth c H locs cells slots Q (F0 m 1025 ls []) := by
  obtain ⟨hx, hb, hml, hown, hts, hX, hbl, hL⟩ := C
  have hN : N ≤ 20 := hg.1
  have hA : ∀ q : Nat, s.heap.size ≤ q → lwAd s q := fun _ h => h
  have hbA : ¬ lwAd s b := Nat.not_le.mpr hbl
  refine lv_aload_n hx hb dL_law_1025 rfl (lv_at hl 1 rfl) ?_
  refine lv_aload_n hx hb dL_law_1026 rfl (lv_at hl 0 rfl) ?_
  refine lv_iload hx hb dL_law_1027 (lv_at hl 4 rfl) ?_
  refine lv_iconst (v := (nI 1)) hx hb dL_law_1029 (by decide) ?_
  refine z_iadd hx hb dL_law_1030 ?_
  refine z_sld hx hb hX hbl hbA hS (j := i + 1) (by omega) hL dL_law_1031 ?_
  rw [hq1]
  refine lv_aload_n hx hb dL_law_1032 rfl (lv_at hl 3 rfl) ?_
  have hPb := hP.sub (ws' := wBL h a0 a1 a2 cy N ec cc f cs tr o cl g) [0, 1, 2, 3, 4] rfl
  have hDb := hD.sub (ws' := wBL h a0 a1 a2 cy N ec cc f cs tr o cl g) [0, 1, 2, 3, 4] (by decide) rfl
  refine zjSi (X := zTh) (As := [.ref h, .int q, .ref o]) (rest := []) (wr := wM h2 b0 b1 b2 b3 b4 cy th N cc ds de f cs2 be lf od) [0, 1, 2, 3, 4] [5, 6, 7, 8, 9, 10] rfl rfl rfl (by decide) (by exact fun _ => rfl) ⟨hx, hb, hml, hown, hts⟩ (w_isDense_bad l hfl D cy h a0 a1 a2 N ec cc f cs tr o cl g _ q hq) (vx_cwSW 3 hts gL_law_L_isDense rfl rfl rfl (by decide +kernel) ⟨Nat.le_of_ble_eq_true rfl, Nat.le_of_ble_eq_true rfl⟩) hK hP hPb hD hDb hA (fun U g mk a q => q.same rfl rfl) (fun U hU hW => hTL.at hS hU hW) rfl hl rfl (Nat.le_of_ble_eq_true rfl) dL_law_1033 ⟨by show _ ≤ 1045; omega, by show _ ≤ 8429; omega⟩ hS (fun r9 u9 H locs hw9 hP hS => ?_)
  obtain rfl : r9 = nI 1 := hw9
  have hP : va_P D vwCl (wBL h a0 a1 a2 cy N ec cc f cs tr o cl g ++ wM h2 b0 b1 b2 b3 b4 cy th N cc ds de f cs2 be lf od) H := hP.sub [6, 7, 8, 9, 10, 0, 1, 2, 3, 4, 5] rfl
  have hD : va_D (lwAd s) (wBL h a0 a1 a2 cy N ec cc f cs tr o cl g ++ wM h2 b0 b1 b2 b3 b4 cy th N cc ds de f cs2 be lf od) := zD hD rfl
  refine lv_istore (lv' := [(5, .int (nI 1)), (0, .ref b), (1, .ref h), (2, .ref h2), (3, .ref o), (4, .int (nI i))]) hx hb dL_law_1036 hl (by decide) rfl (fun ls hl => ?_)
  refine lv_aload_n hx hb dL_law_1038 rfl (lv_at hl 3 rfl) ?_
  refine lv_aload_n hx hb dL_law_1039 rfl (lv_at hl 1 rfl) ?_
  refine lv_iload hx hb dL_law_1040 (lv_at hl 5 rfl) ?_
  refine lv_iconst (v := (nI 1)) hx hb dL_law_1042 (by decide) ?_
  refine z_iadd hx hb dL_law_1043 ?_
  refine z_sld hx hb hX hbl hbA hS (j := i + 1) (by omega) hL dL_law_1044 ?_
  rw [hq1]
  have hPm := hP.sub (ws' := wM h2 b0 b1 b2 b3 b4 cy th N cc ds de f cs2 be lf od) [5, 6, 7, 8, 9, 10] rfl
  have hDm := hD.sub (ws' := wM h2 b0 b1 b2 b3 b4 cy th N cc ds de f cs2 be lf od) [5, 6, 7, 8, 9, 10] (by decide) rfl
  refine zjVi (As := [.int q]) (rest := []) (wr := wBL h a0 a1 a2 cy N ec cc f cs tr o cl g) 0 [5, 6, 7, 8, 9, 10] [0, 1, 2, 3, 4] rfl rfl rfl (by decide) (by exact fun _ => rfl) ⟨hx, hb, hml, hown, hts⟩ (c_X1_isDense_bad l D cy h2 b0 b1 b2 b3 b4 th N cc ds de f cs2 be lf od _ q hq) (cwV 1 hts gL_law_X1_isDense rfl rfl rfl (by decide +kernel) ⟨Nat.le_of_ble_eq_true rfl, Nat.le_of_ble_eq_true rfl⟩) (hK.sub [0] rfl) hP hPm hD hDm hA rfl rfl rfl hl rfl (Nat.le_of_ble_eq_true rfl) dL_law_1045 ⟨by show _ ≤ 1045; omega, by show _ ≤ 8429; omega⟩ hS (fun r8 u8 H locs hw8 hP hS => ?_)
  have hP : va_P D vwCl (wBL h a0 a1 a2 cy N ec cc f cs tr o cl g ++ wM h2 b0 b1 b2 b3 b4 cy (nI 1) N cc ds de f cs2 be lf od) H := hP
  have hD : va_D (lwAd s) (wBL h a0 a1 a2 cy N ec cc f cs tr o cl g ++ wM h2 b0 b1 b2 b3 b4 cy (nI 1) N cc ds de f cs2 be lf od) := zD hD rfl
  have hw8 : r8 = nI 0 := hw8
  refine lv_istore (lv' := [(6, .int r8), (5, .int (nI 1)), (0, .ref b), (1, .ref h), (2, .ref h2), (3, .ref o), (4, .int (nI i))]) hx hb dL_law_1048 hl (by decide) rfl (fun ls hl => ?_)
  refine lv_aload_n hx hb dL_law_1050 rfl (lv_at hl 4 rfl) ?_
  have hPt := hP.sub (ws' := wM h2 b0 b1 b2 b3 b4 cy (nI 1) N cc ds de f cs2 be lf od) [5, 6, 7, 8, 9, 10] rfl
  refine zrV (As := []) (rest := []) 0 ⟨hx, hb, hml, hown, hts⟩ (c_X1_thrown l D cy h2 b0 b1 b2 b3 b4 (nI 1) N cc ds de f cs2 be lf od) (cwV 0 hts gL_law_X1_thrown rfl rfl rfl (by decide +kernel) ⟨Nat.le_of_ble_eq_true rfl, Nat.le_of_ble_eq_true rfl⟩) (hK.sub [0] rfl) hPt rfl rfl rfl hl rfl (Nat.le_of_ble_eq_true rfl) dL_law_1051 ⟨by show _ ≤ 1045; omega, by show _ ≤ 8429; omega⟩ hS (fun r7 H locs hw7 hk7 hS => ?_)
  obtain rfl : r7 = nI 1 := hw7
  have hP := zkeep hP hk7
  refine lv_iload hx hb dL_law_1054 (lv_at hl 1 rfl) ?_
  refine lv_icmp_eq (tgt := 1061) hx hb dL_law_1056 (by decide) (fun _ => ?_) (fun q => absurd (rfl) q)
  refine lv_iload hx hb dL_law_1061 (lv_at hl 1 rfl) ?_
  refine lv_if_ne (tgt := 1085) hx hb dL_law_1063 (by decide) (fun _ => ?_) (fun q => absurd q (by decide))
  refine lv_goto (tgt := 1334) hx hb dL_law_1085 (by decide) ?_
  refine W.widen (k := cells + 1) (n := slots + 6) (by omega) (by omega) ?_
  exact K _ _ _ ⟨hg, _, _, _, _, _, _, _, _, _, _, _, _, hcs, hec, hP, hD⟩ hS (lv_sub hl [2, 3, 4, 5, 6] rfl)

end ZLO3
