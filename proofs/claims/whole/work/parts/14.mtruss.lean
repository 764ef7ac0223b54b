theorem toK {k : Nat} (h : 1 ≤ k) (h2 : k < 2 ^ 30) : (nI (k + 1) - nI 2).toInt = (k : Int) - 1 := by
  rw [pk_sub (by omega), nI_toInt (by omega)]
  omega
theorem dm_no {f : Nat → Int32} {N p q : Nat} {x y : Int32} (hx : x = (dsk f N p).1) (hd : (dsk f N (p - 1)).2 = (y, q)) (h : ewn f N x * zpop y ≤ q * zpop x) : (dsk f N p).2 = (y, q) := by
  cases p with
  | zero => exact hd
  | succ p =>
    rw [Nat.add_sub_cancel] at hd
    rw [dsk_no (x := x) (by rw [hx, dsk_1]) (by rw [hd]; exact h)]
    exact hd
theorem dm_yes {f : Nat → Int32} {N p q : Nat} {x y : Int32} (hx : x = (dsk f N p).1) (hd : (dsk f N (p - 1)).2 = (y, q)) (h : q * zpop x < ewn f N x * zpop y) : (dsk f N p).2 = (x, ewn f N x) := by
  cases p with
  | zero =>
    have h2 : (zal N, ewn f N (zal N)) = (y, q) := hd
    have h3 : x = zal N := hx
    obtain ⟨rfl, rfl⟩ := Prod.mk.inj h2
    rw [h3] at h
    exact absurd h (Nat.lt_irrefl _)
  | succ p =>
    rw [Nat.add_sub_cancel] at hd
    rw [dsk_yes (x := x) (by rw [hx, dsk_1]) (by rw [hd]; exact h)]
theorem y_no {p : Nat → Bool} {S y i : Nat} (hy : y = S + fb_ct p i) (h : p i = false) : y = S + fb_ct p (i + 1) := by rw [ct_nof h]; exact hy
theorem y_yes {p : Nat → Bool} {S y i : Nat} (hy : y = S + fb_ct p i) (h : p i = true) : y + 1 = S + fb_ct p (i + 1) := by rw [ct_yesf h]; omega
set_option maxHeartbeats 4000000 in
set_option maxRecDepth 100000 in
theorem c_X1_faultOfEdge_has (l : Launch) (D : va_G) (cy : ClassId) (h b0 b1 b2 b3 b4 : Nat) (th : Int32) (N : Nat) (ch ds de : Int32) (f cs be lf od : Nat → Int32) (u v : Nat) (hN : N ≤ 20) (hu : u < N) (hv : v < N) (he : bt (f u) v = true) : Met l yX1_faultOfEdge wsX1_faultOfEdge ({ frames := 1, cells := 0, slots := 0, locals := 21 } : Room) (va_Pc [.ref h, .int (nI u), .int (nI v)] (zRd D (wM h b0 b1 b2 b3 b4 cy th N ch ds de f cs be lf od) [(cy, .int)])) (zPo (fun r => r = nI 0)) 0 0 zNo := by
  refine Met.ofW (cc := cX1_faultOfEdge) (maxL := 3) (ret := (some .int)) (by decide) rfl ?_
  intro p e s m args below meth c s₁ B hml hv
  obtain ⟨rfl, hP, hK⟩ := hv
  have hx := B.exec
  have hb := B.bytes
  have hr := B.returns
  have hts := atoms_spec (ws := wsX1_faultOfEdge) B.pre
  have hown : s.vm.findClass RX1 = some m.cls := findClass_of_methodNamed B.named
  have hlocks := B.notSynchronized
  have hS : va_S (fun _ => False) s.heap s.heap [] := va_S.rf
  have hin : ∀ w ∈ wsX10, w ∈ wsX1_faultOfEdge := by decide +kernel
  have hf7 := hts (.fieldLink RX1 7 "CorebarnModel" "near" "[I") (by decide +kernel)
  have hl := lv_entry ([.ref h, .int (nI u), .int (nI v)]) (n := 3) (Nat.le_of_ble_eq_true rfl)
  rw [lg_entry_eq]
  generalize (lg_sl ([.ref h, .int (nI u), .int (nI v)]) ++ List.replicate (3 - (lg_sl ([.ref h, .int (nI u), .int (nI v)])).length) Slot.unset).toArray = ls at hl ⊢
  have hl : lv_has ls 3 [(0, .ref h), (1, .int (nI u)), (2, .int (nI v))] := hl
  refine lv_aload_n hx hb dX1_faultOfEdge_0 rfl (lv_at hl 0 rfl) ?_
  refine lv_iload_n hx hb dX1_faultOfEdge_1 rfl (lv_at hl 1 rfl) ?_
  refine zrV (As := [.int (nI u)]) (rest := []) 0 ⟨hx, hb, hml, hown, hts⟩ (c_X1_isNode l D cy h b0 b1 b2 b3 b4 th N ch ds de f cs be lf od (nI u)) (cwV 1 hts gX1_faultOfEdge_X1_isNode rfl rfl rfl (by decide +kernel) ⟨Nat.le_of_ble_eq_true rfl, Nat.le_of_ble_eq_true rfl⟩) hK hP rfl rfl rfl hl rfl (Nat.le_of_ble_eq_true rfl) dX1_faultOfEdge_2 ⟨Nat.le_of_ble_eq_true rfl, Nat.le_of_ble_eq_true rfl⟩ hS (fun r2 H locs hw2 hk9 hS => ?_)
  obtain rfl : r2 = (zb (isNb (nI u) N)) := hw2
  have hP := zkeep hP hk9
  rw [isNb_y hu hN]
  refine z_ifb_true (tgt := 16) hx hb dX1_faultOfEdge_5 (by decide) ?_
  refine lv_aload_n hx hb dX1_faultOfEdge_8 rfl (lv_at hl 0 rfl) ?_
  refine lv_iload_n hx hb dX1_faultOfEdge_9 rfl (lv_at hl 2 rfl) ?_
  refine zrV (As := [.int (nI v)]) (rest := []) 0 ⟨hx, hb, hml, hown, hts⟩ (c_X1_isNode l D cy h b0 b1 b2 b3 b4 th N ch ds de f cs be lf od (nI v)) (cwV 1 hts gX1_faultOfEdge_X1_isNode rfl rfl rfl (by decide +kernel) ⟨Nat.le_of_ble_eq_true rfl, Nat.le_of_ble_eq_true rfl⟩) hK hP rfl rfl rfl hl rfl (Nat.le_of_ble_eq_true rfl) dX1_faultOfEdge_10 ⟨Nat.le_of_ble_eq_true rfl, Nat.le_of_ble_eq_true rfl⟩ hS (fun r10 H locs hw10 hk9 hS => ?_)
  obtain rfl : r10 = (zb (isNb (nI v) N)) := hw10
  have hP := zkeep hP hk9
  rw [isNb_y hv hN]
  refine z_ifb_true_ne (tgt := 20) hx hb dX1_faultOfEdge_13 (by decide) ?_
  refine lv_aload_n hx hb dX1_faultOfEdge_20 rfl (lv_at hl 0 rfl) ?_
  refine va_get (D := D) (ci := 1) (v := .ref b0) (C := RX1) (T := TX1) (N := 10) hx hb hts hin hown hK hP 0 rfl rfl 2 (by decide) hf7 (fun _ h9 => h9) rfl dX1_faultOfEdge_21 ?_
  refine lv_iload_n hx hb dX1_faultOfEdge_24 rfl (lv_at hl 1 rfl) ?_
  refine z_iald hx hb hK hP 1 0 rfl rfl (by omega) (by decide) dX1_faultOfEdge_25 ?_
  refine lv_iload_n hx hb dX1_faultOfEdge_26 rfl (lv_at hl 2 rfl) ?_
  refine zrS0 (As := [.int (f u), .int (nI v)]) (rest := []) ⟨hx, hb, hml, hown, hts⟩ (c_X1_has l (f u) v (by omega)) (va_cwS 2 hts gX1_faultOfEdge_X1_has rfl rfl rfl (by decide +kernel) ⟨Nat.le_of_ble_eq_true rfl, Nat.le_of_ble_eq_true rfl⟩) rfl hl rfl (Nat.le_of_ble_eq_true rfl) dX1_faultOfEdge_27 ⟨Nat.le_of_ble_eq_true rfl, Nat.le_of_ble_eq_true rfl⟩ hS (fun r27 H locs hw27 hk9 hS => ?_)
  obtain rfl : r27 = (zb (bt (f u) v)) := hw27
  have hP := zkeep hP hk9
  rw [he]
  refine z_ifb_true (tgt := 37) hx hb dX1_faultOfEdge_30 (by decide) ?_
  refine lv_iconst (v := (nI 0)) hx hb dX1_faultOfEdge_33 (by decide) ?_
  refine lv_goto (tgt := 38) hx hb dX1_faultOfEdge_34 (by decide) ?_
  exact W.iret (v := (nI 0)) hx hb hr (fun t9 ht9 hW9 => ⟨⟨(nI 0), (), rfl, rfl, trivial⟩, hS.F ht9⟩) hS.2.2 dX1_faultOfEdge_38

set_option maxHeartbeats 4000000 in
set_option maxRecDepth 100000 in
theorem c_X1_faultOfEdge_none (l : Launch) (D : va_G) (cy : ClassId) (h b0 b1 b2 b3 b4 : Nat) (th : Int32) (N : Nat) (ch ds de : Int32) (f cs be lf od : Nat → Int32) (u v : Nat) (hN : N ≤ 20) (hu : u < N) (hv : v < N) (he : bt (f u) v = false) : Met l yX1_faultOfEdge wsX1_faultOfEdge ({ frames := 1, cells := 0, slots := 0, locals := 21 } : Room) (va_Pc [.ref h, .int (nI u), .int (nI v)] (zRd D (wM h b0 b1 b2 b3 b4 cy th N ch ds de f cs be lf od) [(cy, .int)])) (zPo (fun r => r = nI 2)) 0 0 zNo := by
  refine Met.ofW (cc := cX1_faultOfEdge) (maxL := 3) (ret := (some .int)) (by decide) rfl ?_
  intro p e s m args below meth c s₁ B hml hv
  obtain ⟨rfl, hP, hK⟩ := hv
  have hx := B.exec
  have hb := B.bytes
  have hr := B.returns
  have hts := atoms_spec (ws := wsX1_faultOfEdge) B.pre
  have hown : s.vm.findClass RX1 = some m.cls := findClass_of_methodNamed B.named
  have hlocks := B.notSynchronized
  have hS : va_S (fun _ => False) s.heap s.heap [] := va_S.rf
  have hin : ∀ w ∈ wsX10, w ∈ wsX1_faultOfEdge := by decide +kernel
  have hf7 := hts (.fieldLink RX1 7 "CorebarnModel" "near" "[I") (by decide +kernel)
  have hl := lv_entry ([.ref h, .int (nI u), .int (nI v)]) (n := 3) (Nat.le_of_ble_eq_true rfl)
  rw [lg_entry_eq]
  generalize (lg_sl ([.ref h, .int (nI u), .int (nI v)]) ++ List.replicate (3 - (lg_sl ([.ref h, .int (nI u), .int (nI v)])).length) Slot.unset).toArray = ls at hl ⊢
  have hl : lv_has ls 3 [(0, .ref h), (1, .int (nI u)), (2, .int (nI v))] := hl
  refine lv_aload_n hx hb dX1_faultOfEdge_0 rfl (lv_at hl 0 rfl) ?_
  refine lv_iload_n hx hb dX1_faultOfEdge_1 rfl (lv_at hl 1 rfl) ?_
  refine zrV (As := [.int (nI u)]) (rest := []) 0 ⟨hx, hb, hml, hown, hts⟩ (c_X1_isNode l D cy h b0 b1 b2 b3 b4 th N ch ds de f cs be lf od (nI u)) (cwV 1 hts gX1_faultOfEdge_X1_isNode rfl rfl rfl (by decide +kernel) ⟨Nat.le_of_ble_eq_true rfl, Nat.le_of_ble_eq_true rfl⟩) hK hP rfl rfl rfl hl rfl (Nat.le_of_ble_eq_true rfl) dX1_faultOfEdge_2 ⟨Nat.le_of_ble_eq_true rfl, Nat.le_of_ble_eq_true rfl⟩ hS (fun r2 H locs hw2 hk9 hS => ?_)
  obtain rfl : r2 = (zb (isNb (nI u) N)) := hw2
  have hP := zkeep hP hk9
  rw [isNb_y hu hN]
  refine z_ifb_true (tgt := 16) hx hb dX1_faultOfEdge_5 (by decide) ?_
  refine lv_aload_n hx hb dX1_faultOfEdge_8 rfl (lv_at hl 0 rfl) ?_
  refine lv_iload_n hx hb dX1_faultOfEdge_9 rfl (lv_at hl 2 rfl) ?_
  refine zrV (As := [.int (nI v)]) (rest := []) 0 ⟨hx, hb, hml, hown, hts⟩ (c_X1_isNode l D cy h b0 b1 b2 b3 b4 th N ch ds de f cs be lf od (nI v)) (cwV 1 hts gX1_faultOfEdge_X1_isNode rfl rfl rfl (by decide +kernel) ⟨Nat.le_of_ble_eq_true rfl, Nat.le_of_ble_eq_true rfl⟩) hK hP rfl rfl rfl hl rfl (Nat.le_of_ble_eq_true rfl) dX1_faultOfEdge_10 ⟨Nat.le_of_ble_eq_true rfl, Nat.le_of_ble_eq_true rfl⟩ hS (fun r10 H locs hw10 hk9 hS => ?_)
  obtain rfl : r10 = (zb (isNb (nI v) N)) := hw10
  have hP := zkeep hP hk9
  rw [isNb_y hv hN]
  refine z_ifb_true_ne (tgt := 20) hx hb dX1_faultOfEdge_13 (by decide) ?_
  refine lv_aload_n hx hb dX1_faultOfEdge_20 rfl (lv_at hl 0 rfl) ?_
  refine va_get (D := D) (ci := 1) (v := .ref b0) (C := RX1) (T := TX1) (N := 10) hx hb hts hin hown hK hP 0 rfl rfl 2 (by decide) hf7 (fun _ h9 => h9) rfl dX1_faultOfEdge_21 ?_
  refine lv_iload_n hx hb dX1_faultOfEdge_24 rfl (lv_at hl 1 rfl) ?_
  refine z_iald hx hb hK hP 1 0 rfl rfl (by omega) (by decide) dX1_faultOfEdge_25 ?_
  refine lv_iload_n hx hb dX1_faultOfEdge_26 rfl (lv_at hl 2 rfl) ?_
  refine zrS0 (As := [.int (f u), .int (nI v)]) (rest := []) ⟨hx, hb, hml, hown, hts⟩ (c_X1_has l (f u) v (by omega)) (va_cwS 2 hts gX1_faultOfEdge_X1_has rfl rfl rfl (by decide +kernel) ⟨Nat.le_of_ble_eq_true rfl, Nat.le_of_ble_eq_true rfl⟩) rfl hl rfl (Nat.le_of_ble_eq_true rfl) dX1_faultOfEdge_27 ⟨Nat.le_of_ble_eq_true rfl, Nat.le_of_ble_eq_true rfl⟩ hS (fun r27 H locs hw27 hk9 hS => ?_)
  obtain rfl : r27 = (zb (bt (f u) v)) := hw27
  have hP := zkeep hP hk9
  rw [he]
  refine z_ifb_false (tgt := 37) hx hb dX1_faultOfEdge_30 (by decide) ?_
  refine lv_iconst (v := (nI 2)) hx hb dX1_faultOfEdge_37 (by decide) ?_
  exact W.iret (v := (nI 2)) hx hb hr (fun t9 ht9 hW9 => ⟨⟨(nI 2), (), rfl, rfl, trivial⟩, hS.F ht9⟩) hS.2.2 dX1_faultOfEdge_38

set_option maxHeartbeats 4000000 in
set_option maxRecDepth 100000 in
theorem c_X1_faultOfEdge_bad (l : Launch) (D : va_G) (cy : ClassId) (h b0 b1 b2 b3 b4 : Nat) (th : Int32) (N : Nat) (ch ds de : Int32) (f cs be lf od : Nat → Int32) (q1 q2 : Int32) (hq : (isNb q1 N && isNb q2 N) = false) : Met l yX1_faultOfEdge wsX1_faultOfEdge ({ frames := 1, cells := 0, slots := 0, locals := 21 } : Room) (va_Pc [.ref h, .int q1, .int q2] (zRd D (wM h b0 b1 b2 b3 b4 cy th N ch ds de f cs be lf od) [(cy, .int)])) (zPo (fun r => r = nI 1)) 0 0 zNo := by
  refine Met.ofW (cc := cX1_faultOfEdge) (maxL := 3) (ret := (some .int)) (by decide) rfl ?_
  intro p e s m args below meth c s₁ B hml hv
  obtain ⟨rfl, hP, hK⟩ := hv
  have hx := B.exec
  have hb := B.bytes
  have hr := B.returns
  have hts := atoms_spec (ws := wsX1_faultOfEdge) B.pre
  have hown : s.vm.findClass RX1 = some m.cls := findClass_of_methodNamed B.named
  have hlocks := B.notSynchronized
  have hS : va_S (fun _ => False) s.heap s.heap [] := va_S.rf
  have hin : ∀ w ∈ wsX10, w ∈ wsX1_faultOfEdge := by decide +kernel
  have hf7 := hts (.fieldLink RX1 7 "CorebarnModel" "near" "[I") (by decide +kernel)
  have hl := lv_entry ([.ref h, .int q1, .int q2]) (n := 3) (Nat.le_of_ble_eq_true rfl)
  rw [lg_entry_eq]
  generalize (lg_sl ([.ref h, .int q1, .int q2]) ++ List.replicate (3 - (lg_sl ([.ref h, .int q1, .int q2])).length) Slot.unset).toArray = ls at hl ⊢
  have hl : lv_has ls 3 [(0, .ref h), (1, .int q1), (2, .int q2)] := hl
  refine lv_aload_n hx hb dX1_faultOfEdge_0 rfl (lv_at hl 0 rfl) ?_
  refine lv_iload_n hx hb dX1_faultOfEdge_1 rfl (lv_at hl 1 rfl) ?_
  refine zrV (As := [.int q1]) (rest := []) 0 ⟨hx, hb, hml, hown, hts⟩ (c_X1_isNode l D cy h b0 b1 b2 b3 b4 th N ch ds de f cs be lf od q1) (cwV 1 hts gX1_faultOfEdge_X1_isNode rfl rfl rfl (by decide +kernel) ⟨Nat.le_of_ble_eq_true rfl, Nat.le_of_ble_eq_true rfl⟩) hK hP rfl rfl rfl hl rfl (Nat.le_of_ble_eq_true rfl) dX1_faultOfEdge_2 ⟨Nat.le_of_ble_eq_true rfl, Nat.le_of_ble_eq_true rfl⟩ hS (fun r2 H locs hw2 hk9 hS => ?_)
  obtain rfl : r2 = (zb (isNb q1 N)) := hw2
  have hP := zkeep hP hk9
  refine z_ifb_eq (tgt := 16) hx hb dX1_faultOfEdge_5 (by decide) (fun h5 => ?_) (fun h5 => ?_)
  · refine lv_iconst (v := (nI 1)) hx hb dX1_faultOfEdge_16 (by decide) ?_
    refine lv_goto (tgt := 38) hx hb dX1_faultOfEdge_17 (by decide) ?_
    exact W.iret (v := (nI 1)) hx hb hr (fun t9 ht9 hW9 => ⟨⟨(nI 1), (), rfl, rfl, trivial⟩, hS.F ht9⟩) hS.2.2 dX1_faultOfEdge_38
  · refine lv_aload_n hx hb dX1_faultOfEdge_8 rfl (lv_at hl 0 rfl) ?_
    refine lv_iload_n hx hb dX1_faultOfEdge_9 rfl (lv_at hl 2 rfl) ?_
    refine zrV (As := [.int q2]) (rest := []) 0 ⟨hx, hb, hml, hown, hts⟩ (c_X1_isNode l D cy h b0 b1 b2 b3 b4 th N ch ds de f cs be lf od q2) (cwV 1 hts gX1_faultOfEdge_X1_isNode rfl rfl rfl (by decide +kernel) ⟨Nat.le_of_ble_eq_true rfl, Nat.le_of_ble_eq_true rfl⟩) hK hP rfl rfl rfl hl rfl (Nat.le_of_ble_eq_true rfl) dX1_faultOfEdge_10 ⟨Nat.le_of_ble_eq_true rfl, Nat.le_of_ble_eq_true rfl⟩ hS (fun r10 H locs hw10 hk9 hS => ?_)
    obtain rfl : r10 = (zb (isNb q2 N)) := hw10
    have hP := zkeep hP hk9
    refine z_ifb_ne (tgt := 20) hx hb dX1_faultOfEdge_13 (by decide) (fun h13 => ?_) (fun h13 => ?_)
    · exact absurd hq (by rw [h5, h13]; decide)
    · refine lv_iconst (v := (nI 1)) hx hb dX1_faultOfEdge_16 (by decide) ?_
      refine lv_goto (tgt := 38) hx hb dX1_faultOfEdge_17 (by decide) ?_
      exact W.iret (v := (nI 1)) hx hb hr (fun t9 ht9 hW9 => ⟨⟨(nI 1), (), rfl, rfl, trivial⟩, hS.F ht9⟩) hS.2.2 dX1_faultOfEdge_38

set_option maxHeartbeats 4000000 in
set_option maxRecDepth 100000 in
theorem c_X1_support_ok (l : Launch) (D : va_G) (cy : ClassId) (h b0 b1 b2 b3 b4 : Nat) (th : Int32) (N : Nat) (ch ds de : Int32) (f cs be lf od : Nat → Int32) (sz : Nat) (u v : Nat) (hN : N ≤ 20) (hg : gd f N) (hu : u < N) (hv : v < N) (he : bt (f u) v = true) : Met l yX1_support wsX1_support ({ frames := 2, cells := 0, slots := 0, locals := 43 } : Room) (va_Pc [.ref h, .int (nI u), .int (nI v)] (zWr D (wM h b0 b1 b2 b3 b4 cy th N ch ds de f cs be lf od) [(cy, .int)] sz)) (va_Qi (fun (r : Int32) (z9 : Unit) => r = nI (zpop (f u &&& f v))) (fun (z9 : Unit) t => va_P D vwCl (wM h b0 b1 b2 b3 b4 cy (nI 0) N ch ds de f cs be lf od) t.heap) (va_A (wM h b0 b1 b2 b3 b4 cy th N ch ds de f cs be lf od) sz)) 0 0 (va_A (wM h b0 b1 b2 b3 b4 cy th N ch ds de f cs be lf od) sz) := by
  refine Met.ofW (cc := cX1_support) (maxL := 3) (ret := (some .int)) (by decide) rfl ?_
  intro p e s m args below meth c s₁ B hml hv
  obtain ⟨rfl, hsz, hP, hK, hD0⟩ := hv
  have hx := B.exec
  have hb := B.bytes
  have hr := B.returns
  have hts := atoms_spec (ws := wsX1_support) B.pre
  have hown : s.vm.findClass RX1 = some m.cls := findClass_of_methodNamed B.named
  have hlocks := B.notSynchronized
  subst hsz
  have hD := hD0.self (sz := s.heap.size)
  generalize hAe : va_A (wM h b0 b1 b2 b3 b4 cy th N ch ds de f cs be lf od) s.heap.size = A at hD ⊢
  have hA : ∀ q : Nat, s.heap.size ≤ q → A q := fun q h => by rw [← hAe]; exact Or.inr h
  have hS : va_S A s.heap s.heap [] := va_S.rf
  have hin : ∀ w ∈ wsX10, w ∈ wsX1_support := by decide +kernel
  have hf7 := hts (.fieldLink RX1 7 "CorebarnModel" "near" "[I") (by decide +kernel)
  have hl := lv_entry ([.ref h, .int (nI u), .int (nI v)]) (n := 3) (Nat.le_of_ble_eq_true rfl)
  rw [lg_entry_eq]
  generalize (lg_sl ([.ref h, .int (nI u), .int (nI v)]) ++ List.replicate (3 - (lg_sl ([.ref h, .int (nI u), .int (nI v)])).length) Slot.unset).toArray = ls at hl ⊢
  have hl : lv_has ls 3 [(0, .ref h), (1, .int (nI u)), (2, .int (nI v))] := hl
  refine lv_aload_n hx hb dX1_support_0 rfl (lv_at hl 0 rfl) ?_
  refine lv_aload_n hx hb dX1_support_1 rfl (lv_at hl 0 rfl) ?_
  refine lv_iload_n hx hb dX1_support_2 rfl (lv_at hl 1 rfl) ?_
  refine lv_iload_n hx hb dX1_support_3 rfl (lv_at hl 2 rfl) ?_
  refine zrV (As := [.int (nI u), .int (nI v)]) (rest := [.ref h]) 0 ⟨hx, hb, hml, hown, hts⟩ (c_X1_faultOfEdge_has l D cy h b0 b1 b2 b3 b4 th N ch ds de f cs be lf od u v hN hu hv he) (cwV 2 hts gX1_support_X1_faultOfEdge rfl rfl rfl (by decide +kernel) ⟨Nat.le_of_ble_eq_true rfl, Nat.le_of_ble_eq_true rfl⟩) hK hP rfl rfl rfl hl rfl (Nat.le_of_ble_eq_true rfl) dX1_support_4 ⟨Nat.le_of_ble_eq_true rfl, Nat.le_of_ble_eq_true rfl⟩ hS (fun r4 H locs hw4 hk9 hS => ?_)
  obtain rfl : r4 = (nI 0) := hw4
  have hP := zkeep hP hk9
  refine zwVi (As := [.int (nI 0)]) (rest := []) 0 [0, 1, 2, 3, 4, 5] rfl ⟨hx, hb, hml, hown, hts⟩ (c_X1_goesWell l D cy h b0 b1 b2 b3 b4 th N ch ds de f cs be lf od _ 0 (by omega)) (cwV 1 hts gX1_support_X1_goesWell rfl rfl rfl (by decide +kernel) ⟨Nat.le_of_ble_eq_true rfl, Nat.le_of_ble_eq_true rfl⟩) hK hP hD hA rfl rfl rfl hl rfl (Nat.le_of_ble_eq_true rfl) dX1_support_7 ⟨Nat.le_of_ble_eq_true rfl, Nat.le_of_ble_eq_true rfl⟩ hS (fun r7 u7 H locs hw7 hP hS => ?_)
  have hP : va_P D vwCl (wM h b0 b1 b2 b3 b4 cy (nI 0) N ch ds de f cs be lf od) H := hP
  have hD : va_D A (wM h b0 b1 b2 b3 b4 cy (nI 0) N ch ds de f cs be lf od) := zD hD rfl
  obtain rfl : r7 = (zb true) := hw7
  refine z_ifb_true (tgt := 32) hx hb dX1_support_10 (by decide) ?_
  refine lv_aload_n hx hb dX1_support_13 rfl (lv_at hl 0 rfl) ?_
  refine va_get (D := D) (ci := 1) (v := .ref b0) (C := RX1) (T := TX1) (N := 10) hx hb hts hin hown hK hP 0 rfl rfl 2 (by decide) hf7 (fun _ h9 => h9) rfl dX1_support_14 ?_
  refine lv_iload_n hx hb dX1_support_17 rfl (lv_at hl 1 rfl) ?_
  refine z_iald hx hb hK hP 1 0 rfl rfl (by omega) (by decide) dX1_support_18 ?_
  refine lv_aload_n hx hb dX1_support_19 rfl (lv_at hl 0 rfl) ?_
  refine va_get (D := D) (ci := 1) (v := .ref b0) (C := RX1) (T := TX1) (N := 10) hx hb hts hin hown hK hP 0 rfl rfl 2 (by decide) hf7 (fun _ h9 => h9) rfl dX1_support_20 ?_
  refine lv_iload_n hx hb dX1_support_23 rfl (lv_at hl 2 rfl) ?_
  refine z_iald hx hb hK hP 1 0 rfl rfl (by omega) (by decide) dX1_support_24 ?_
  refine lv_iand hx hb dX1_support_25 ?_
  refine zrS0 (As := [.int ((f u) &&& (f v))]) (rest := []) ⟨hx, hb, hml, hown, hts⟩ (c_X1_sizeOf l ((f u) &&& (f v)) (gd_20 hg hu _)) (va_cwS 1 hts gX1_support_X1_sizeOf rfl rfl rfl (by decide +kernel) ⟨Nat.le_of_ble_eq_true rfl, Nat.le_of_ble_eq_true rfl⟩) rfl hl rfl (Nat.le_of_ble_eq_true rfl) dX1_support_26 ⟨Nat.le_of_ble_eq_true rfl, Nat.le_of_ble_eq_true rfl⟩ hS (fun r26 H locs hw26 hk9 hS => ?_)
  obtain rfl : r26 = (nI (zpop ((f u) &&& (f v)))) := hw26
  have hP := zkeep hP hk9
  refine lv_goto (tgt := 33) hx hb dX1_support_29 (by decide) ?_
  exact W.iret (v := (nI (zpop ((f u) &&& (f v))))) hx hb hr (fun t9 ht9 hW9 => ⟨⟨(nI (zpop ((f u) &&& (f v)))), (), rfl, rfl, by show va_P D vwCl (wM h b0 b1 b2 b3 b4 cy (nI 0) N ch ds de f cs be lf od) t9.heap; rw [ht9]; exact hP⟩, hS.F ht9⟩) hS.2.2 dX1_support_33

set_option maxHeartbeats 4000000 in
set_option maxRecDepth 100000 in
theorem c_X1_support_none (l : Launch) (D : va_G) (cy : ClassId) (h b0 b1 b2 b3 b4 : Nat) (th : Int32) (N : Nat) (ch ds de : Int32) (f cs be lf od : Nat → Int32) (sz : Nat) (u v : Nat) (hN : N ≤ 20) (hu : u < N) (hv : v < N) (he : bt (f u) v = false) : Met l yX1_support wsX1_support ({ frames := 2, cells := 0, slots := 0, locals := 43 } : Room) (va_Pc [.ref h, .int (nI u), .int (nI v)] (zWr D (wM h b0 b1 b2 b3 b4 cy th N ch ds de f cs be lf od) [(cy, .int)] sz)) (va_Qi (fun (r : Int32) (z9 : Unit) => r = nI 0) (fun (z9 : Unit) t => va_P D vwCl (wM h b0 b1 b2 b3 b4 cy (nI 2) N ch ds de f cs be lf od) t.heap) (va_A (wM h b0 b1 b2 b3 b4 cy th N ch ds de f cs be lf od) sz)) 0 0 (va_A (wM h b0 b1 b2 b3 b4 cy th N ch ds de f cs be lf od) sz) := by
  refine Met.ofW (cc := cX1_support) (maxL := 3) (ret := (some .int)) (by decide) rfl ?_
  intro p e s m args below meth c s₁ B hml hv
  obtain ⟨rfl, hsz, hP, hK, hD0⟩ := hv
  have hx := B.exec
  have hb := B.bytes
  have hr := B.returns
  have hts := atoms_spec (ws := wsX1_support) B.pre
  have hown : s.vm.findClass RX1 = some m.cls := findClass_of_methodNamed B.named
  have hlocks := B.notSynchronized
  subst hsz
  have hD := hD0.self (sz := s.heap.size)
  generalize hAe : va_A (wM h b0 b1 b2 b3 b4 cy th N ch ds de f cs be lf od) s.heap.size = A at hD ⊢
  have hA : ∀ q : Nat, s.heap.size ≤ q → A q := fun q h => by rw [← hAe]; exact Or.inr h
  have hS : va_S A s.heap s.heap [] := va_S.rf
  have hin : ∀ w ∈ wsX10, w ∈ wsX1_support := by decide +kernel
  have hf7 := hts (.fieldLink RX1 7 "CorebarnModel" "near" "[I") (by decide +kernel)
  have hl := lv_entry ([.ref h, .int (nI u), .int (nI v)]) (n := 3) (Nat.le_of_ble_eq_true rfl)
  rw [lg_entry_eq]
  generalize (lg_sl ([.ref h, .int (nI u), .int (nI v)]) ++ List.replicate (3 - (lg_sl ([.ref h, .int (nI u), .int (nI v)])).length) Slot.unset).toArray = ls at hl ⊢
  have hl : lv_has ls 3 [(0, .ref h), (1, .int (nI u)), (2, .int (nI v))] := hl
  refine lv_aload_n hx hb dX1_support_0 rfl (lv_at hl 0 rfl) ?_
  refine lv_aload_n hx hb dX1_support_1 rfl (lv_at hl 0 rfl) ?_
  refine lv_iload_n hx hb dX1_support_2 rfl (lv_at hl 1 rfl) ?_
  refine lv_iload_n hx hb dX1_support_3 rfl (lv_at hl 2 rfl) ?_
  refine zrV (As := [.int (nI u), .int (nI v)]) (rest := [.ref h]) 0 ⟨hx, hb, hml, hown, hts⟩ (c_X1_faultOfEdge_none l D cy h b0 b1 b2 b3 b4 th N ch ds de f cs be lf od u v hN hu hv he) (cwV 2 hts gX1_support_X1_faultOfEdge rfl rfl rfl (by decide +kernel) ⟨Nat.le_of_ble_eq_true rfl, Nat.le_of_ble_eq_true rfl⟩) hK hP rfl rfl rfl hl rfl (Nat.le_of_ble_eq_true rfl) dX1_support_4 ⟨Nat.le_of_ble_eq_true rfl, Nat.le_of_ble_eq_true rfl⟩ hS (fun r4 H locs hw4 hk9 hS => ?_)
  obtain rfl : r4 = (nI 2) := hw4
  have hP := zkeep hP hk9
  refine zwVi (As := [.int (nI 2)]) (rest := []) 0 [0, 1, 2, 3, 4, 5] rfl ⟨hx, hb, hml, hown, hts⟩ (c_X1_goesWell l D cy h b0 b1 b2 b3 b4 th N ch ds de f cs be lf od _ 2 (by omega)) (cwV 1 hts gX1_support_X1_goesWell rfl rfl rfl (by decide +kernel) ⟨Nat.le_of_ble_eq_true rfl, Nat.le_of_ble_eq_true rfl⟩) hK hP hD hA rfl rfl rfl hl rfl (Nat.le_of_ble_eq_true rfl) dX1_support_7 ⟨Nat.le_of_ble_eq_true rfl, Nat.le_of_ble_eq_true rfl⟩ hS (fun r7 u7 H locs hw7 hP hS => ?_)
  have hP : va_P D vwCl (wM h b0 b1 b2 b3 b4 cy (nI 2) N ch ds de f cs be lf od) H := hP
  have hD : va_D A (wM h b0 b1 b2 b3 b4 cy (nI 2) N ch ds de f cs be lf od) := zD hD rfl
  obtain rfl : r7 = (zb false) := hw7
  refine z_ifb_false (tgt := 32) hx hb dX1_support_10 (by decide) ?_
  refine lv_iconst (v := (nI 0)) hx hb dX1_support_32 (by decide) ?_
  exact W.iret (v := (nI 0)) hx hb hr (fun t9 ht9 hW9 => ⟨⟨(nI 0), (), rfl, rfl, by show va_P D vwCl (wM h b0 b1 b2 b3 b4 cy (nI 2) N ch ds de f cs be lf od) t9.heap; rw [ht9]; exact hP⟩, hS.F ht9⟩) hS.2.2 dX1_support_33

set_option maxHeartbeats 4000000 in
set_option maxRecDepth 100000 in
theorem c_X1_support_bad (l : Launch) (D : va_G) (cy : ClassId) (h b0 b1 b2 b3 b4 : Nat) (th : Int32) (N : Nat) (ch ds de : Int32) (f cs be lf od : Nat → Int32) (sz : Nat) (q1 q2 : Int32) (hq : (isNb q1 N && isNb q2 N) = false) : Met l yX1_support wsX1_support ({ frames := 2, cells := 0, slots := 0, locals := 43 } : Room) (va_Pc [.ref h, .int q1, .int q2] (zWr D (wM h b0 b1 b2 b3 b4 cy th N ch ds de f cs be lf od) [(cy, .int)] sz)) (va_Qi (fun (r : Int32) (z9 : Unit) => r = nI 0) (fun (z9 : Unit) t => va_P D vwCl (wM h b0 b1 b2 b3 b4 cy (nI 1) N ch ds de f cs be lf od) t.heap) (va_A (wM h b0 b1 b2 b3 b4 cy th N ch ds de f cs be lf od) sz)) 0 0 (va_A (wM h b0 b1 b2 b3 b4 cy th N ch ds de f cs be lf od) sz) := by
  refine Met.ofW (cc := cX1_support) (maxL := 3) (ret := (some .int)) (by decide) rfl ?_
  intro p e s m args below meth c s₁ B hml hv
  obtain ⟨rfl, hsz, hP, hK, hD0⟩ := hv
  have hx := B.exec
  have hb := B.bytes
  have hr := B.returns
  have hts := atoms_spec (ws := wsX1_support) B.pre
  have hown : s.vm.findClass RX1 = some m.cls := findClass_of_methodNamed B.named
  have hlocks := B.notSynchronized
  subst hsz
  have hD := hD0.self (sz := s.heap.size)
  generalize hAe : va_A (wM h b0 b1 b2 b3 b4 cy th N ch ds de f cs be lf od) s.heap.size = A at hD ⊢
  have hA : ∀ q : Nat, s.heap.size ≤ q → A q := fun q h => by rw [← hAe]; exact Or.inr h
  have hS : va_S A s.heap s.heap [] := va_S.rf
  have hin : ∀ w ∈ wsX10, w ∈ wsX1_support := by decide +kernel
  have hf7 := hts (.fieldLink RX1 7 "CorebarnModel" "near" "[I") (by decide +kernel)
  have hl := lv_entry ([.ref h, .int q1, .int q2]) (n := 3) (Nat.le_of_ble_eq_true rfl)
  rw [lg_entry_eq]
  generalize (lg_sl ([.ref h, .int q1, .int q2]) ++ List.replicate (3 - (lg_sl ([.ref h, .int q1, .int q2])).length) Slot.unset).toArray = ls at hl ⊢
  have hl : lv_has ls 3 [(0, .ref h), (1, .int q1), (2, .int q2)] := hl
  refine lv_aload_n hx hb dX1_support_0 rfl (lv_at hl 0 rfl) ?_
  refine lv_aload_n hx hb dX1_support_1 rfl (lv_at hl 0 rfl) ?_
  refine lv_iload_n hx hb dX1_support_2 rfl (lv_at hl 1 rfl) ?_
  refine lv_iload_n hx hb dX1_support_3 rfl (lv_at hl 2 rfl) ?_
  refine zrV (As := [.int q1, .int q2]) (rest := [.ref h]) 0 ⟨hx, hb, hml, hown, hts⟩ (c_X1_faultOfEdge_bad l D cy h b0 b1 b2 b3 b4 th N ch ds de f cs be lf od q1 q2 hq) (cwV 2 hts gX1_support_X1_faultOfEdge rfl rfl rfl (by decide +kernel) ⟨Nat.le_of_ble_eq_true rfl, Nat.le_of_ble_eq_true rfl⟩) hK hP rfl rfl rfl hl rfl (Nat.le_of_ble_eq_true rfl) dX1_support_4 ⟨Nat.le_of_ble_eq_true rfl, Nat.le_of_ble_eq_true rfl⟩ hS (fun r4 H locs hw4 hk9 hS => ?_)
  obtain rfl : r4 = (nI 1) := hw4
  have hP := zkeep hP hk9
  refine zwVi (As := [.int (nI 1)]) (rest := []) 0 [0, 1, 2, 3, 4, 5] rfl ⟨hx, hb, hml, hown, hts⟩ (c_X1_goesWell l D cy h b0 b1 b2 b3 b4 th N ch ds de f cs be lf od _ 1 (by omega)) (cwV 1 hts gX1_support_X1_goesWell rfl rfl rfl (by decide +kernel) ⟨Nat.le_of_ble_eq_true rfl, Nat.le_of_ble_eq_true rfl⟩) hK hP hD hA rfl rfl rfl hl rfl (Nat.le_of_ble_eq_true rfl) dX1_support_7 ⟨Nat.le_of_ble_eq_true rfl, Nat.le_of_ble_eq_true rfl⟩ hS (fun r7 u7 H locs hw7 hP hS => ?_)
  have hP : va_P D vwCl (wM h b0 b1 b2 b3 b4 cy (nI 1) N ch ds de f cs be lf od) H := hP
  have hD : va_D A (wM h b0 b1 b2 b3 b4 cy (nI 1) N ch ds de f cs be lf od) := zD hD rfl
  obtain rfl : r7 = (zb false) := hw7
  refine z_ifb_false (tgt := 32) hx hb dX1_support_10 (by decide) ?_
  refine lv_iconst (v := (nI 0)) hx hb dX1_support_32 (by decide) ?_
  exact W.iret (v := (nI 0)) hx hb hr (fun t9 ht9 hW9 => ⟨⟨(nI 0), (), rfl, rfl, by show va_P D vwCl (wM h b0 b1 b2 b3 b4 cy (nI 1) N ch ds de f cs be lf od) t9.heap; rw [ht9]; exact hP⟩, hS.F ht9⟩) hS.2.2 dX1_support_33

set_option maxHeartbeats 4000000 in
set_option maxRecDepth 100000 in
theorem c_X1_triangles (l : Launch) (D : va_G) (cy : ClassId) (h b0 b1 b2 b3 b4 : Nat) (th : Int32) (N : Nat) (ch ds de : Int32) (f cs be lf od : Nat → Int32) (sz : Nat) (hN : N ≤ 20) (hg : gd f N) : Met l yX1_triangles wsX1_triangles ({ frames := 1, cells := 0, slots := 0, locals := 22 } : Room) (va_Pc [.ref h] (zWr D (wM h b0 b1 b2 b3 b4 cy th N ch ds de f cs be lf od) [(cy, .int)] sz)) (va_Qi (fun (r : Int32) (z9 : Unit) => r = nI (fb_sm (tr2s f) N / 3)) (fun (z9 : Unit) t => va_P D vwCl (wM h b0 b1 b2 b3 b4 cy (nI 0) N ch ds de f cs be lf od) t.heap) (va_A (wM h b0 b1 b2 b3 b4 cy th N ch ds de f cs be lf od) sz)) 0 0 (va_A (wM h b0 b1 b2 b3 b4 cy th N ch ds de f cs be lf od) sz) := by
  refine Met.ofW (cc := cX1_triangles) (maxL := 4) (ret := (some .int)) (by decide) rfl ?_
  intro p e s m args below meth c s₁ B hml hv
  obtain ⟨rfl, hsz, hP, hK, hD0⟩ := hv
  have hx := B.exec
  have hb := B.bytes
  have hr := B.returns
  have hts := atoms_spec (ws := wsX1_triangles) B.pre
  have hown : s.vm.findClass RX1 = some m.cls := findClass_of_methodNamed B.named
  have hlocks := B.notSynchronized
  subst hsz
  have hD := hD0.self (sz := s.heap.size)
  generalize hAe : va_A (wM h b0 b1 b2 b3 b4 cy th N ch ds de f cs be lf od) s.heap.size = A at hD ⊢
  have hA : ∀ q : Nat, s.heap.size ≤ q → A q := fun q h => by rw [← hAe]; exact Or.inr h
  have hS : va_S A s.heap s.heap [] := va_S.rf
  have hin : ∀ w ∈ wsX10, w ∈ wsX1_triangles := by decide +kernel
  have hf7 := hts (.fieldLink RX1 7 "CorebarnModel" "near" "[I") (by decide +kernel)
  have hf25 := hts (.fieldLink RX1 25 "CorebarnModel" "thrown" "I") (by decide +kernel)
  have hf29 := hts (.fieldLink RX1 29 "CorebarnModel" "many" "I") (by decide +kernel)
  have hl := lv_entry ([.ref h]) (n := 4) (Nat.le_of_ble_eq_true rfl)
  rw [lg_entry_eq]
  generalize (lg_sl ([.ref h]) ++ List.replicate (4 - (lg_sl ([.ref h])).length) Slot.unset).toArray = ls at hl ⊢
  have hl : lv_has ls 4 [(0, .ref h)] := hl
  refine lv_aload_n hx hb dX1_triangles_0 rfl (lv_at hl 0 rfl) ?_
  refine lv_iconst (v := (nI 0)) hx hb dX1_triangles_1 (by decide) ?_
  refine va_put (D := D) (ci := 1) (v := .int (nI 0)) (ty := .int) (C := RX1) (T := TX1) (N := 10) hx hb hts hin tyX1 tyX1_ok nmX1 hown hK hP hD hS 0 rfl rfl 0 (by decide) hf25 (fun _ h9 => h9) rfl (by decide +kernel) rfl rfl (Nat.le_of_ble_eq_true rfl) dX1_triangles_2 (fun H locs hP hD hS => ?_)
  have hP : va_P D vwCl (wM h b0 b1 b2 b3 b4 cy (nI 0) N ch ds de f cs be lf od) H := hP
  have hD : va_D A (wM h b0 b1 b2 b3 b4 cy (nI 0) N ch ds de f cs be lf od) := hD
  refine lv_iconst (v := (nI 0)) hx hb dX1_triangles_5 (by decide) ?_
  refine lv_istore_n (lv' := [(1, .int (nI 0)), (0, .ref h)]) hx hb dX1_triangles_6 rfl hl (by decide) rfl (fun ls hl => ?_)
  refine lv_iconst (v := (nI 0)) hx hb dX1_triangles_7 (by decide) ?_
  refine lv_istore_n (lv' := [(2, .int (nI 0)), (1, .int (nI 0)), (0, .ref h)]) hx hb dX1_triangles_8 rfl hl (by decide) rfl (fun ls hl => ?_)
  have K9 : ∀ (fu9 : Nat) (i : Nat) (x : Nat) (H : Heap) (locs : List Loc) (ls : Array Slot), (i ≤ N) → (x = fb_sm (tr2s f) i) → N - i < fu9 → va_P D vwCl (wM h b0 b1 b2 b3 b4 cy (nI 0) N ch ds de f cs be lf od) H → va_S A s.heap H locs → lv_has ls 4 [(2, .int (nI i)), (1, .int (nI x)), (0, .ref h)] → W p l e (headSpec wsX1_triangles ({ frames := 1, cells := 0, slots := 0, locals := 22 } : Room)).room s m ([.ref h] : List Value).toArray below meth c H locs 0 0 (MQ below (va_Qi (fun (r : Int32) (z9 : Unit) => r = nI (fb_sm (tr2s f) N / 3)) (fun (z9 : Unit) t => va_P D vwCl (wM h b0 b1 b2 b3 b4 cy (nI 0) N ch ds de f cs be lf od) t.heap) A) ([.ref h] : List Value).toArray s 0 0 A) (F0 m 9 ls []) := by
    intro fu9
    induction fu9 with
    | zero =>
      intro i x H locs ls hi hxe hfu9
      exact absurd hfu9 (Nat.not_lt_zero _)
    | succ fu9 ih9 =>
      intro i x H locs ls hi hxe hfu9 hP hS hl
      have hD : va_D A (wM h b0 b1 b2 b3 b4 cy (nI 0) N ch ds de f cs be lf od) := zD hD rfl
      have hxb := tr2s_b f (n := i) (by omega)
      refine lv_iload_n hx hb dX1_triangles_9 rfl (lv_at hl 0 rfl) ?_
      refine lv_aload_n hx hb dX1_triangles_10 rfl (lv_at hl 2 rfl) ?_
      refine va_get (D := D) (ci := 1) (v := .int (nI N)) (C := RX1) (T := TX1) (N := 10) hx hb hts hin hown hK hP 0 rfl rfl 1 (by decide) hf29 (fun _ h9 => h9) rfl dX1_triangles_11 ?_
      refine z_icmp_ge (tgt := 72) hx hb dX1_triangles_14 (by decide) (by omega) (by omega) (fun h14 => ?_) (fun h14 => ?_)
      · refine lv_iload_n hx hb dX1_triangles_72 rfl (lv_at hl 1 rfl) ?_
        refine lv_iconst (v := (nI 3)) hx hb dX1_triangles_73 (by decide) ?_
        refine z_idiv hx hb dX1_triangles_74 (by omega) (by omega) (by omega) ?_
        exact W.iret (v := (nI (x / 3))) hx hb hr (fun t9 ht9 hW9 => ⟨⟨(nI (x / 3)), (), rfl, (by rw [hxe, Nat.le_antisymm hi h14]), by show va_P D vwCl (wM h b0 b1 b2 b3 b4 cy (nI 0) N ch ds de f cs be lf od) t9.heap; rw [ht9]; exact hP⟩, hS.F ht9⟩) hS.2.2 dX1_triangles_75
      · refine lv_iconst (v := (nI 0)) hx hb dX1_triangles_17 (by decide) ?_
        refine lv_istore_n (lv' := [(3, .int (nI 0)), (2, .int (nI i)), (1, .int (nI x)), (0, .ref h)]) hx hb dX1_triangles_18 rfl hl (by decide) rfl (fun ls hl => ?_)
        have K19 : ∀ (fu19 : Nat) (j : Nat) (y : Nat) (H : Heap) (locs : List Loc) (ls : Array Slot), (j ≤ i) → (y = fb_sm (tr2s f) i + fb_sm (tr2 f i) j) → N - j < fu19 → va_P D vwCl (wM h b0 b1 b2 b3 b4 cy (nI 0) N ch ds de f cs be lf od) H → va_S A s.heap H locs → lv_has ls 4 [(3, .int (nI j)), (1, .int (nI y)), (0, .ref h), (2, .int (nI i))] → W p l e (headSpec wsX1_triangles ({ frames := 1, cells := 0, slots := 0, locals := 22 } : Room)).room s m ([.ref h] : List Value).toArray below meth c H locs 0 0 (MQ below (va_Qi (fun (r : Int32) (z9 : Unit) => r = nI (fb_sm (tr2s f) N / 3)) (fun (z9 : Unit) t => va_P D vwCl (wM h b0 b1 b2 b3 b4 cy (nI 0) N ch ds de f cs be lf od) t.heap) A) ([.ref h] : List Value).toArray s 0 0 A) (F0 m 19 ls []) := by
          intro fu19
          induction fu19 with
          | zero =>
            intro j y H locs ls hj hye hfu19
            exact absurd hfu19 (Nat.not_lt_zero _)
          | succ fu19 ih19 =>
            intro j y H locs ls hj hye hfu19 hP hS hl
            have hD : va_D A (wM h b0 b1 b2 b3 b4 cy (nI 0) N ch ds de f cs be lf od) := zD hD rfl
            have hyb := tr2_b f i j
            refine lv_iload_n hx hb dX1_triangles_19 rfl (lv_at hl 0 rfl) ?_
            refine lv_iload_n hx hb dX1_triangles_20 rfl (lv_at hl 3 rfl) ?_
            refine z_icmp_ge (tgt := 66) hx hb dX1_triangles_21 (by decide) (by omega) (by omega) (fun h21 => ?_) (fun h21 => ?_)
            · refine lv_iinc (v := (nI (i + 1))) (lv' := [(2, .int (nI (i + 1))), (3, .int (nI j)), (1, .int (nI y)), (0, .ref h)]) hx hb dX1_triangles_66 hl (k := 3) rfl (nI_1 _) (by decide) rfl (fun ls hl => ?_)
              refine lv_goto (tgt := 9) hx hb dX1_triangles_69 (by decide) ?_
              exact ih9 (i + 1) y _ _ _ (by omega) (by rw [hye, fb_sm_succ, Nat.le_antisymm hj h21]; rfl) (by omega) hP hS (lv_sub hl [0, 2, 3] rfl)
            · refine lv_iload_n hx hb dX1_triangles_24 rfl (lv_at hl 1 rfl) ?_
              refine lv_aload_n hx hb dX1_triangles_25 rfl (lv_at hl 2 rfl) ?_
              refine va_get (D := D) (ci := 1) (v := .ref b0) (C := RX1) (T := TX1) (N := 10) hx hb hts hin hown hK hP 0 rfl rfl 2 (by decide) hf7 (fun _ h9 => h9) rfl dX1_triangles_26 ?_
              refine lv_iload_n hx hb dX1_triangles_29 rfl (lv_at hl 3 rfl) ?_
              refine z_iald hx hb hK hP 1 0 rfl rfl (by omega) (by decide) dX1_triangles_30 ?_
              refine lv_iload_n hx hb dX1_triangles_31 rfl (lv_at hl 0 rfl) ?_
              refine zrS0 (As := [.int (f i), .int (nI j)]) (rest := [.int (nI y)]) ⟨hx, hb, hml, hown, hts⟩ (c_X1_has l (f i) j (by omega)) (va_cwS 2 hts gX1_triangles_X1_has rfl rfl rfl (by decide +kernel) ⟨Nat.le_of_ble_eq_true rfl, Nat.le_of_ble_eq_true rfl⟩) rfl hl rfl (Nat.le_of_ble_eq_true rfl) dX1_triangles_32 ⟨Nat.le_of_ble_eq_true rfl, Nat.le_of_ble_eq_true rfl⟩ hS (fun r32 H locs hw32 hk9 hS => ?_)
              obtain rfl : r32 = (zb (bt (f i) j)) := hw32
              have hP := zkeep hP hk9
              refine z_ifb_eq (tgt := 57) hx hb dX1_triangles_35 (by decide) (fun h35 => ?_) (fun h35 => ?_)
              · refine lv_iconst (v := (nI 0)) hx hb dX1_triangles_57 (by decide) ?_
                refine z_iadd hx hb dX1_triangles_58 ?_
                refine lv_istore_n (lv' := [(1, .int (nI (y + 0))), (3, .int (nI j)), (0, .ref h), (2, .int (nI i))]) hx hb dX1_triangles_59 rfl hl (by decide) rfl (fun ls hl => ?_)
                refine lv_iinc (v := (nI (j + 1))) (lv' := [(3, .int (nI (j + 1))), (1, .int (nI (y + 0))), (0, .ref h), (2, .int (nI i))]) hx hb dX1_triangles_60 hl (k := 1) rfl (nI_1 _) (by decide) rfl (fun ls hl => ?_)
                refine lv_goto (tgt := 19) hx hb dX1_triangles_63 (by decide) ?_
                exact ih19 (j + 1) (y + 0) _ _ _ (by omega) (by rw [fb_sm_succ, hye, tr2, if_neg (by rw [h35]; exact Bool.false_ne_true)]; rfl) (by omega) hP hS (lv_sub hl [0, 1, 2, 3] rfl)
              · refine lv_aload_n hx hb dX1_triangles_38 rfl (lv_at hl 2 rfl) ?_
                refine va_get (D := D) (ci := 1) (v := .ref b0) (C := RX1) (T := TX1) (N := 10) hx hb hts hin hown hK hP 0 rfl rfl 2 (by decide) hf7 (fun _ h9 => h9) rfl dX1_triangles_39 ?_
                refine lv_iload_n hx hb dX1_triangles_42 rfl (lv_at hl 3 rfl) ?_
                refine z_iald hx hb hK hP 1 0 rfl rfl (by omega) (by decide) dX1_triangles_43 ?_
                refine lv_aload_n hx hb dX1_triangles_44 rfl (lv_at hl 2 rfl) ?_
                refine va_get (D := D) (ci := 1) (v := .ref b0) (C := RX1) (T := TX1) (N := 10) hx hb hts hin hown hK hP 0 rfl rfl 2 (by decide) hf7 (fun _ h9 => h9) rfl dX1_triangles_45 ?_
                refine lv_iload_n hx hb dX1_triangles_48 rfl (lv_at hl 0 rfl) ?_
                refine z_iald hx hb hK hP 1 0 rfl rfl (by omega) (by decide) dX1_triangles_49 ?_
                refine lv_iand hx hb dX1_triangles_50 ?_
                refine zrS0 (As := [.int ((f i) &&& (f j))]) (rest := [.int (nI y)]) ⟨hx, hb, hml, hown, hts⟩ (c_X1_sizeOf l ((f i) &&& (f j)) (gd_20 hg (by omega) _)) (va_cwS 1 hts gX1_triangles_X1_sizeOf rfl rfl rfl (by decide +kernel) ⟨Nat.le_of_ble_eq_true rfl, Nat.le_of_ble_eq_true rfl⟩) rfl hl rfl (Nat.le_of_ble_eq_true rfl) dX1_triangles_51 ⟨Nat.le_of_ble_eq_true rfl, Nat.le_of_ble_eq_true rfl⟩ hS (fun r51 H locs hw51 hk9 hS => ?_)
                obtain rfl : r51 = (nI (zpop ((f i) &&& (f j)))) := hw51
                have hP := zkeep hP hk9
                refine lv_goto (tgt := 58) hx hb dX1_triangles_54 (by decide) ?_
                refine z_iadd hx hb dX1_triangles_58 ?_
                refine lv_istore_n (lv' := [(1, .int (nI (y + (zpop ((f i) &&& (f j)))))), (3, .int (nI j)), (0, .ref h), (2, .int (nI i))]) hx hb dX1_triangles_59 rfl hl (by decide) rfl (fun ls hl => ?_)
                refine lv_iinc (v := (nI (j + 1))) (lv' := [(3, .int (nI (j + 1))), (1, .int (nI (y + (zpop ((f i) &&& (f j)))))), (0, .ref h), (2, .int (nI i))]) hx hb dX1_triangles_60 hl (k := 1) rfl (nI_1 _) (by decide) rfl (fun ls hl => ?_)
                refine lv_goto (tgt := 19) hx hb dX1_triangles_63 (by decide) ?_
                exact ih19 (j + 1) (y + (zpop ((f i) &&& (f j)))) _ _ _ (by omega) (by rw [fb_sm_succ, hye, tr2, if_pos h35, Nat.add_assoc]) (by omega) hP hS (lv_sub hl [0, 1, 2, 3] rfl)
        exact K19 (N - 0 + 1) 0 x _ _ _ (by omega) hxe (Nat.lt_succ_self _) hP hS (lv_sub hl [0, 2, 3, 1] rfl)
  exact K9 (N - 0 + 1) 0 0 _ _ _ (by omega) rfl (Nat.lt_succ_self _) hP hS (lv_sub hl [0, 1, 2] rfl)

set_option maxHeartbeats 4000000 in
set_option maxRecDepth 100000 in
theorem c_X1_hierarchy (l : Launch) (D : va_G) (cy : ClassId) (h b0 b1 b2 b3 b4 : Nat) (th : Int32) (N : Nat) (ch ds de : Int32) (f cs be lf od : Nat → Int32) (sz : Nat) (c0 : Nat → Nat) (hN : N ≤ 20) (hg : gd f N) (hc : ∀ v, v < N → cno f N v (c0 v)) : Met l yX1_hierarchy wsX1_hierarchy ({ frames := 3, cells := 0, slots := 0, locals := 73 } : Room) (va_Pc [.ref h] (zWr D (wM h b0 b1 b2 b3 b4 cy th N ch ds de f cs be lf od) [(cy, .int)] sz)) (va_Qi (fun (r : Int32) (z9 : Unit) => r = nI (fb_sm (hmS f c0 N) 20)) (fun (z9 : Unit) t => va_P D vwCl (wM h b0 b1 b2 b3 b4 cy (nI 0) N ch ds de f cs be lf od) t.heap) (va_A (wM h b0 b1 b2 b3 b4 cy th N ch ds de f cs be lf od) sz)) 0 0 (va_A (wM h b0 b1 b2 b3 b4 cy th N ch ds de f cs be lf od) sz) := by
  refine Met.ofW (cc := cX1_hierarchy) (maxL := 5) (ret := (some .int)) (by decide) rfl ?_
  intro p e s m args below meth c s₁ B hml hv
  obtain ⟨rfl, hsz, hP, hK, hD0⟩ := hv
  have hx := B.exec
  have hb := B.bytes
  have hr := B.returns
  have hts := atoms_spec (ws := wsX1_hierarchy) B.pre
  have hown : s.vm.findClass RX1 = some m.cls := findClass_of_methodNamed B.named
  have hlocks := B.notSynchronized
  subst hsz
  have hD := hD0.self (sz := s.heap.size)
  generalize hAe : va_A (wM h b0 b1 b2 b3 b4 cy th N ch ds de f cs be lf od) s.heap.size = A at hD ⊢
  have hA : ∀ q : Nat, s.heap.size ≤ q → A q := fun q h => by rw [← hAe]; exact Or.inr h
  have hS : va_S A s.heap s.heap [] := va_S.rf
  have hin : ∀ w ∈ wsX10, w ∈ wsX1_hierarchy := by decide +kernel
  have hf25 := hts (.fieldLink RX1 25 "CorebarnModel" "thrown" "I") (by decide +kernel)
  have hf29 := hts (.fieldLink RX1 29 "CorebarnModel" "many" "I") (by decide +kernel)
  have hl := lv_entry ([.ref h]) (n := 5) (Nat.le_of_ble_eq_true rfl)
  rw [lg_entry_eq]
  generalize (lg_sl ([.ref h]) ++ List.replicate (5 - (lg_sl ([.ref h])).length) Slot.unset).toArray = ls at hl ⊢
  have hl : lv_has ls 5 [(0, .ref h)] := hl
  refine lv_aload_n hx hb dX1_hierarchy_0 rfl (lv_at hl 0 rfl) ?_
  refine lv_iconst (v := (nI 0)) hx hb dX1_hierarchy_1 (by decide) ?_
  refine va_put (D := D) (ci := 1) (v := .int (nI 0)) (ty := .int) (C := RX1) (T := TX1) (N := 10) hx hb hts hin tyX1 tyX1_ok nmX1 hown hK hP hD hS 0 rfl rfl 0 (by decide) hf25 (fun _ h9 => h9) rfl (by decide +kernel) rfl rfl (Nat.le_of_ble_eq_true rfl) dX1_hierarchy_2 (fun H locs hP hD hS => ?_)
  have hP : va_P D vwCl (wM h b0 b1 b2 b3 b4 cy (nI 0) N ch ds de f cs be lf od) H := hP
  have hD : va_D A (wM h b0 b1 b2 b3 b4 cy (nI 0) N ch ds de f cs be lf od) := hD
  refine lv_iconst (v := (nI 0)) hx hb dX1_hierarchy_5 (by decide) ?_
  refine lv_istore_n (lv' := [(1, .int (nI 0)), (0, .ref h)]) hx hb dX1_hierarchy_6 rfl hl (by decide) rfl (fun ls hl => ?_)
  refine lv_iconst (v := (nI 0)) hx hb dX1_hierarchy_7 (by decide) ?_
  refine lv_istore_n (lv' := [(2, .int (nI 0)), (1, .int (nI 0)), (0, .ref h)]) hx hb dX1_hierarchy_8 rfl hl (by decide) rfl (fun ls hl => ?_)
  have K9 : ∀ (fu9 : Nat) (k : Nat) (x : Nat) (H : Heap) (locs : List Loc) (ls : Array Slot), (k ≤ 20) → (x = fb_sm (hmS f c0 N) k) → 20 - k < fu9 → va_P D vwCl (wM h b0 b1 b2 b3 b4 cy (nI 0) N ch ds de f cs be lf od) H → va_S A s.heap H locs → lv_has ls 5 [(2, .int (nI k)), (1, .int (nI x)), (0, .ref h)] → W p l e (headSpec wsX1_hierarchy ({ frames := 3, cells := 0, slots := 0, locals := 73 } : Room)).room s m ([.ref h] : List Value).toArray below meth c H locs 0 0 (MQ below (va_Qi (fun (r : Int32) (z9 : Unit) => r = nI (fb_sm (hmS f c0 N) 20)) (fun (z9 : Unit) t => va_P D vwCl (wM h b0 b1 b2 b3 b4 cy (nI 0) N ch ds de f cs be lf od) t.heap) A) ([.ref h] : List Value).toArray s 0 0 A) (F0 m 9 ls []) := by
    intro fu9
    induction fu9 with
    | zero =>
      intro k x H locs ls hk0 hxe hfu9
      exact absurd hfu9 (Nat.not_lt_zero _)
    | succ fu9 ih9 =>
      intro k x H locs ls hk0 hxe hfu9 hP hS hl
      have hD : va_D A (wM h b0 b1 b2 b3 b4 cy (nI 0) N ch ds de f cs be lf od) := zD hD rfl
      have hxb := hmS_b f c0 hN k
      refine lv_iload_n hx hb dX1_hierarchy_9 rfl (lv_at hl 0 rfl) ?_
      refine lv_bipush (v := (nI 20)) hx hb dX1_hierarchy_10 (by decide) ?_
      refine z_icmp_ge (tgt := 76) hx hb dX1_hierarchy_12 (by decide) (by omega) (by omega) (fun h12 => ?_) (fun h12 => ?_)
      · refine lv_iload_n hx hb dX1_hierarchy_76 rfl (lv_at hl 1 rfl) ?_
        exact W.iret (v := (nI x)) hx hb hr (fun t9 ht9 hW9 => ⟨⟨(nI x), (), rfl, (by rw [hxe, show k = 20 by omega]), by show va_P D vwCl (wM h b0 b1 b2 b3 b4 cy (nI 0) N ch ds de f cs be lf od) t9.heap; rw [ht9]; exact hP⟩, hS.F ht9⟩) hS.2.2 dX1_hierarchy_77
      · refine lv_iconst (v := (nI 0)) hx hb dX1_hierarchy_15 (by decide) ?_
        refine lv_istore_n (lv' := [(3, .int (nI 0)), (2, .int (nI k)), (1, .int (nI x)), (0, .ref h)]) hx hb dX1_hierarchy_16 rfl hl (by decide) rfl (fun ls hl => ?_)
        have K17 : ∀ (fu17 : Nat) (i : Nat) (y : Nat) (H : Heap) (locs : List Loc) (ls : Array Slot), (i ≤ N) → (y = fb_sm (hmS f c0 N) k + fb_ct (hm f c0 N k) i) → N - i < fu17 → va_P D vwCl (wM h b0 b1 b2 b3 b4 cy (nI 0) N ch ds de f cs be lf od) H → va_S A s.heap H locs → lv_has ls 5 [(3, .int (nI i)), (1, .int (nI y)), (0, .ref h), (2, .int (nI k))] → W p l e (headSpec wsX1_hierarchy ({ frames := 3, cells := 0, slots := 0, locals := 73 } : Room)).room s m ([.ref h] : List Value).toArray below meth c H locs 0 0 (MQ below (va_Qi (fun (r : Int32) (z9 : Unit) => r = nI (fb_sm (hmS f c0 N) 20)) (fun (z9 : Unit) t => va_P D vwCl (wM h b0 b1 b2 b3 b4 cy (nI 0) N ch ds de f cs be lf od) t.heap) A) ([.ref h] : List Value).toArray s 0 0 A) (F0 m 17 ls []) := by
          intro fu17
          induction fu17 with
          | zero =>
            intro i y H locs ls hi hye hfu17
            exact absurd hfu17 (Nat.not_lt_zero _)
          | succ fu17 ih17 =>
            intro i y H locs ls hi hye hfu17 hP hS hl
            have hD : va_D A (wM h b0 b1 b2 b3 b4 cy (nI 0) N ch ds de f cs be lf od) := zD hD rfl
            have hyb := fb_ct_le (hm f c0 N k) i
            refine lv_iload_n hx hb dX1_hierarchy_17 rfl (lv_at hl 0 rfl) ?_
            refine lv_aload_n hx hb dX1_hierarchy_18 rfl (lv_at hl 2 rfl) ?_
            refine va_get (D := D) (ci := 1) (v := .int (nI N)) (C := RX1) (T := TX1) (N := 10) hx hb hts hin hown hK hP 0 rfl rfl 1 (by decide) hf29 (fun _ h9 => h9) rfl dX1_hierarchy_19 ?_
            refine z_icmp_ge (tgt := 70) hx hb dX1_hierarchy_22 (by decide) (by omega) (by omega) (fun h22 => ?_) (fun h22 => ?_)
            · refine lv_iinc (v := (nI (k + 1))) (lv' := [(2, .int (nI (k + 1))), (3, .int (nI i)), (1, .int (nI y)), (0, .ref h)]) hx hb dX1_hierarchy_70 hl (k := 3) rfl (nI_1 _) (by decide) rfl (fun ls hl => ?_)
              refine lv_goto (tgt := 9) hx hb dX1_hierarchy_73 (by decide) ?_
              exact ih9 (k + 1) y _ _ _ (by omega) (by rw [hye, fb_sm_succ, Nat.le_antisymm hi h22]; rfl) (by omega) hP hS (lv_sub hl [0, 2, 3] rfl)
            · refine lv_aload_n hx hb dX1_hierarchy_25 rfl (lv_at hl 2 rfl) ?_
              refine lv_iload_n hx hb dX1_hierarchy_26 rfl (lv_at hl 0 rfl) ?_
              refine lv_iload_n hx hb dX1_hierarchy_27 rfl (lv_at hl 3 rfl) ?_
              refine zrV (As := [.int (nI i), .int (nI k)]) (rest := []) 0 ⟨hx, hb, hml, hown, hts⟩ (c_X1_communityOf l D cy h b0 b1 b2 b3 b4 (nI 0) N ch ds de f cs be lf od i (nI k) c0 hN hg hc (by omega)) (cwV 2 hts gX1_hierarchy_X1_communityOf rfl rfl rfl (by decide +kernel) ⟨Nat.le_of_ble_eq_true rfl, Nat.le_of_ble_eq_true rfl⟩) hK hP rfl rfl rfl hl rfl (Nat.le_of_ble_eq_true rfl) dX1_hierarchy_28 ⟨Nat.le_of_ble_eq_true rfl, Nat.le_of_ble_eq_true rfl⟩ hS (fun r28 H locs hw28 hk9 hS => ?_)
              obtain rfl : r28 = (cmp f (cst c0 N ((nI k)).toInt) i) := hw28
              have hP := zkeep hP hk9
              rw [show (nI k).toInt = (k : Int) from nI_toInt (by omega)]
              refine lv_istore (lv' := [(4, .int (cmp f (cst c0 N (k : Int)) i)), (3, .int (nI i)), (1, .int (nI y)), (0, .ref h), (2, .int (nI k))]) hx hb dX1_hierarchy_31 hl (by decide) rfl (fun ls hl => ?_)
              refine lv_iload_n hx hb dX1_hierarchy_33 rfl (lv_at hl 2 rfl) ?_
              refine lv_aload_n hx hb dX1_hierarchy_34 rfl (lv_at hl 3 rfl) ?_
              refine lv_iload hx hb dX1_hierarchy_35 (lv_at hl 0 rfl) ?_
              refine lv_iload_n hx hb dX1_hierarchy_37 rfl (lv_at hl 1 rfl) ?_
              refine zrV (As := [.int (cmp f (cst c0 N (k : Int)) i), .int (nI i)]) (rest := [.int (nI y)]) 0 ⟨hx, hb, hml, hown, hts⟩ (c_X1_isLowest l D cy h b0 b1 b2 b3 b4 (nI 0) N ch ds de f cs be lf od (cmp f (cst c0 N (k : Int)) i) i (by omega)) (cwV 2 hts gX1_hierarchy_X1_isLowest rfl rfl rfl (by decide +kernel) ⟨Nat.le_of_ble_eq_true rfl, Nat.le_of_ble_eq_true rfl⟩) hK hP rfl rfl rfl hl rfl (Nat.le_of_ble_eq_true rfl) dX1_hierarchy_38 ⟨Nat.le_of_ble_eq_true rfl, Nat.le_of_ble_eq_true rfl⟩ hS (fun r38 H locs hw38 hk9 hS => ?_)
              obtain rfl : r38 = (zb (low (cmp f (cst c0 N (k : Int)) i) i)) := hw38
              have hP := zkeep hP hk9
              refine z_ifb_eq (tgt := 61) hx hb dX1_hierarchy_41 (by decide) (fun h41 => ?_) (fun h41 => ?_)
              · refine lv_iconst (v := (nI 0)) hx hb dX1_hierarchy_61 (by decide) ?_
                refine z_iadd hx hb dX1_hierarchy_62 ?_
                refine lv_istore_n (lv' := [(1, .int (nI (y + 0))), (4, .int (cmp f (cst c0 N (k : Int)) i)), (3, .int (nI i)), (0, .ref h), (2, .int (nI k))]) hx hb dX1_hierarchy_63 rfl hl (by decide) rfl (fun ls hl => ?_)
                refine lv_iinc (v := (nI (i + 1))) (lv' := [(3, .int (nI (i + 1))), (1, .int (nI (y + 0))), (4, .int (cmp f (cst c0 N (k : Int)) i)), (0, .ref h), (2, .int (nI k))]) hx hb dX1_hierarchy_64 hl (k := 2) rfl (nI_1 _) (by decide) rfl (fun ls hl => ?_)
                refine lv_goto (tgt := 17) hx hb dX1_hierarchy_67 (by decide) ?_
                exact ih17 (i + 1) (y + 0) _ _ _ (by omega) (y_no hye (by unfold hm; rw [h41]; rfl)) (by omega) hP hS (lv_sub hl [0, 1, 3, 4] rfl)
              · refine lv_aload_n hx hb dX1_hierarchy_44 rfl (lv_at hl 3 rfl) ?_
                refine lv_iload_n hx hb dX1_hierarchy_45 rfl (lv_at hl 1 rfl) ?_
                refine lv_iload_n hx hb dX1_hierarchy_46 rfl (lv_at hl 4 rfl) ?_
                refine lv_iconst (v := (nI 1)) hx hb dX1_hierarchy_47 (by decide) ?_
                refine z_iadd hx hb dX1_hierarchy_48 ?_
                refine zrV (As := [.int (nI i), .int (nI (k + 1))]) (rest := [.int (nI y)]) 0 ⟨hx, hb, hml, hown, hts⟩ (c_X1_communityOf l D cy h b0 b1 b2 b3 b4 (nI 0) N ch ds de f cs be lf od i (nI (k + 1)) c0 hN hg hc (by omega)) (cwV 2 hts gX1_hierarchy_X1_communityOf rfl rfl rfl (by decide +kernel) ⟨Nat.le_of_ble_eq_true rfl, Nat.le_of_ble_eq_true rfl⟩) hK hP rfl rfl rfl hl rfl (Nat.le_of_ble_eq_true rfl) dX1_hierarchy_49 ⟨Nat.le_of_ble_eq_true rfl, Nat.le_of_ble_eq_true rfl⟩ hS (fun r49 H locs hw49 hk9 hS => ?_)
                obtain rfl : r49 = (cmp f (cst c0 N ((nI (k + 1))).toInt) i) := hw49
                have hP := zkeep hP hk9
                rw [toI1 (k := k) (by omega)]
                refine lv_iload hx hb dX1_hierarchy_52 (lv_at hl 0 rfl) ?_
                refine lv_icmp_eq (tgt := 61) hx hb dX1_hierarchy_54 (by decide) (fun h54 => ?_) (fun h54 => ?_)
                · refine lv_iconst (v := (nI 0)) hx hb dX1_hierarchy_61 (by decide) ?_
                  refine z_iadd hx hb dX1_hierarchy_62 ?_
                  refine lv_istore_n (lv' := [(1, .int (nI (y + 0))), (4, .int (cmp f (cst c0 N (k : Int)) i)), (3, .int (nI i)), (0, .ref h), (2, .int (nI k))]) hx hb dX1_hierarchy_63 rfl hl (by decide) rfl (fun ls hl => ?_)
                  refine lv_iinc (v := (nI (i + 1))) (lv' := [(3, .int (nI (i + 1))), (1, .int (nI (y + 0))), (4, .int (cmp f (cst c0 N (k : Int)) i)), (0, .ref h), (2, .int (nI k))]) hx hb dX1_hierarchy_64 hl (k := 2) rfl (nI_1 _) (by decide) rfl (fun ls hl => ?_)
                  refine lv_goto (tgt := 17) hx hb dX1_hierarchy_67 (by decide) ?_
                  exact ih17 (i + 1) (y + 0) _ _ _ (by omega) (y_no hye (by unfold hm; rw [decide_eq_false (fun q => q h54), Bool.and_false])) (by omega) hP hS (lv_sub hl [0, 1, 3, 4] rfl)
                · refine lv_iconst (v := (nI 1)) hx hb dX1_hierarchy_57 (by decide) ?_
                  refine lv_goto (tgt := 62) hx hb dX1_hierarchy_58 (by decide) ?_
                  refine z_iadd hx hb dX1_hierarchy_62 ?_
                  refine lv_istore_n (lv' := [(1, .int (nI (y + 1))), (4, .int (cmp f (cst c0 N (k : Int)) i)), (3, .int (nI i)), (0, .ref h), (2, .int (nI k))]) hx hb dX1_hierarchy_63 rfl hl (by decide) rfl (fun ls hl => ?_)
                  refine lv_iinc (v := (nI (i + 1))) (lv' := [(3, .int (nI (i + 1))), (1, .int (nI (y + 1))), (4, .int (cmp f (cst c0 N (k : Int)) i)), (0, .ref h), (2, .int (nI k))]) hx hb dX1_hierarchy_64 hl (k := 2) rfl (nI_1 _) (by decide) rfl (fun ls hl => ?_)
                  refine lv_goto (tgt := 17) hx hb dX1_hierarchy_67 (by decide) ?_
                  exact ih17 (i + 1) (y + 1) _ _ _ (by omega) (y_yes hye (by unfold hm; rw [h41, decide_eq_true h54]; rfl)) (by omega) hP hS (lv_sub hl [0, 1, 3, 4] rfl)
        exact K17 (N - 0 + 1) 0 x _ _ _ (by omega) hxe (Nat.lt_succ_self _) hP hS (lv_sub hl [0, 2, 3, 1] rfl)
  exact K9 (20 - 0 + 1) 0 0 _ _ _ (by omega) rfl (Nat.lt_succ_self _) hP hS (lv_sub hl [0, 1, 2] rfl)

set_option maxHeartbeats 4000000 in
set_option maxRecDepth 100000 in
theorem c_X1_together_ok (l : Launch) (D : va_G) (cy : ClassId) (h b0 b1 b2 b3 b4 : Nat) (th : Int32) (N : Nat) (ch ds de : Int32) (f cs be lf od : Nat → Int32) (sz : Nat) (u v : Nat) (t : Nat) (c0 : Nat → Nat) (hN : N ≤ 20) (hg : gd f N) (hc : ∀ v, v < N → cno f N v (c0 v)) (hu : u < N) (hv : v < N) (ht : tgk f c0 N u v 20 = t + 1) : Met l yX1_together wsX1_together ({ frames := 3, cells := 0, slots := 0, locals := 73 } : Room) (va_Pc [.ref h, .int (nI u), .int (nI v)] (zWr D (wM h b0 b1 b2 b3 b4 cy th N ch ds de f cs be lf od) [(cy, .int)] sz)) (va_Qi (fun (r : Int32) (z9 : Unit) => r = nI t) (fun (z9 : Unit) t => va_P D vwCl (wM h b0 b1 b2 b3 b4 cy (nI 0) N ch ds de f cs be lf od) t.heap) (va_A (wM h b0 b1 b2 b3 b4 cy th N ch ds de f cs be lf od) sz)) 0 0 (va_A (wM h b0 b1 b2 b3 b4 cy th N ch ds de f cs be lf od) sz) := by
  refine Met.ofW (cc := cX1_together) (maxL := 5) (ret := (some .int)) (by decide) rfl ?_
  intro p e s m args below meth c s₁ B hml hv
  obtain ⟨rfl, hsz, hP, hK, hD0⟩ := hv
  have hx := B.exec
  have hb := B.bytes
  have hr := B.returns
  have hts := atoms_spec (ws := wsX1_together) B.pre
  have hown : s.vm.findClass RX1 = some m.cls := findClass_of_methodNamed B.named
  have hlocks := B.notSynchronized
  subst hsz
  have hD := hD0.self (sz := s.heap.size)
  generalize hAe : va_A (wM h b0 b1 b2 b3 b4 cy th N ch ds de f cs be lf od) s.heap.size = A at hD ⊢
  have hA : ∀ q : Nat, s.heap.size ≤ q → A q := fun q h => by rw [← hAe]; exact Or.inr h
  have hS : va_S A s.heap s.heap [] := va_S.rf
  have hl := lv_entry ([.ref h, .int (nI u), .int (nI v)]) (n := 5) (Nat.le_of_ble_eq_true rfl)
  rw [lg_entry_eq]
  generalize (lg_sl ([.ref h, .int (nI u), .int (nI v)]) ++ List.replicate (5 - (lg_sl ([.ref h, .int (nI u), .int (nI v)])).length) Slot.unset).toArray = ls at hl ⊢
  have hl : lv_has ls 5 [(0, .ref h), (1, .int (nI u)), (2, .int (nI v))] := hl
  refine lv_iconst (v := (-1)) hx hb dX1_together_0 (by decide) ?_
  refine lv_istore_n (lv' := [(3, .int (-1)), (0, .ref h), (1, .int (nI u)), (2, .int (nI v))]) hx hb dX1_together_1 rfl hl (by decide) rfl (fun ls hl => ?_)
  refine lv_iconst (v := (nI 0)) hx hb dX1_together_2 (by decide) ?_
  refine lv_istore (lv' := [(4, .int (nI 0)), (3, .int (-1)), (0, .ref h), (1, .int (nI u)), (2, .int (nI v))]) hx hb dX1_together_3 hl (by decide) rfl (fun ls hl => ?_)
  have K5 : ∀ (fu5 : Nat) (k : Nat) (x : Int32) (H : Heap) (locs : List Loc) (ls : Array Slot), (k ≤ 20) → (x = tgi (tgk f c0 N u v k)) → 20 - k < fu5 → va_P D vwCl (wM h b0 b1 b2 b3 b4 cy th N ch ds de f cs be lf od) H → va_S A s.heap H locs → lv_has ls 5 [(4, .int (nI k)), (3, .int x), (0, .ref h), (1, .int (nI u)), (2, .int (nI v))] → W p l e (headSpec wsX1_together ({ frames := 3, cells := 0, slots := 0, locals := 73 } : Room)).room s m ([.ref h, .int (nI u), .int (nI v)] : List Value).toArray below meth c H locs 0 0 (MQ below (va_Qi (fun (r : Int32) (z9 : Unit) => r = nI t) (fun (z9 : Unit) t => va_P D vwCl (wM h b0 b1 b2 b3 b4 cy (nI 0) N ch ds de f cs be lf od) t.heap) A) ([.ref h, .int (nI u), .int (nI v)] : List Value).toArray s 0 0 A) (F0 m 5 ls []) := by
    intro fu5
    induction fu5 with
    | zero =>
      intro k x H locs ls hk0 hxe hfu5
      exact absurd hfu5 (Nat.not_lt_zero _)
    | succ fu5 ih5 =>
      intro k x H locs ls hk0 hxe hfu5 hP hS hl
      have hD : va_D A (wM h b0 b1 b2 b3 b4 cy th N ch ds de f cs be lf od) := zD hD rfl
      refine lv_iload hx hb dX1_together_5 (lv_at hl 0 rfl) ?_
      refine lv_bipush (v := (nI 20)) hx hb dX1_together_7 (by decide) ?_
      refine z_icmp_ge (tgt := 55) hx hb dX1_together_9 (by decide) (by omega) (by omega) (fun h9 => ?_) (fun h9 => ?_)
      · obtain rfl : x = nI t := by rw [hxe, show k = 20 by omega, ht]; rfl
        refine lv_aload_n hx hb dX1_together_55 rfl (lv_at hl 2 rfl) ?_
        refine lv_aload_n hx hb dX1_together_56 rfl (lv_at hl 2 rfl) ?_
        refine lv_iload_n hx hb dX1_together_57 rfl (lv_at hl 3 rfl) ?_
        refine zrV (As := [.int (nI u)]) (rest := [.ref h]) 0 ⟨hx, hb, hml, hown, hts⟩ (c_X1_isNode l D cy h b0 b1 b2 b3 b4 th N ch ds de f cs be lf od (nI u)) (cwV 1 hts gX1_together_X1_isNode rfl rfl rfl (by decide +kernel) ⟨Nat.le_of_ble_eq_true rfl, Nat.le_of_ble_eq_true rfl⟩) hK hP rfl rfl rfl hl rfl (Nat.le_of_ble_eq_true rfl) dX1_together_58 ⟨Nat.le_of_ble_eq_true rfl, Nat.le_of_ble_eq_true rfl⟩ hS (fun r58 H locs hw58 hk9 hS => ?_)
        obtain rfl : r58 = (zb (isNb (nI u) N)) := hw58
        have hP := zkeep hP hk9
        rw [isNb_y hu hN]
        refine z_ifb_true (tgt := 72) hx hb dX1_together_61 (by decide) ?_
        refine lv_aload_n hx hb dX1_together_64 rfl (lv_at hl 2 rfl) ?_
        refine lv_iload_n hx hb dX1_together_65 rfl (lv_at hl 4 rfl) ?_
        refine zrV (As := [.int (nI v)]) (rest := [.ref h]) 0 ⟨hx, hb, hml, hown, hts⟩ (c_X1_isNode l D cy h b0 b1 b2 b3 b4 th N ch ds de f cs be lf od (nI v)) (cwV 1 hts gX1_together_X1_isNode rfl rfl rfl (by decide +kernel) ⟨Nat.le_of_ble_eq_true rfl, Nat.le_of_ble_eq_true rfl⟩) hK hP rfl rfl rfl hl rfl (Nat.le_of_ble_eq_true rfl) dX1_together_66 ⟨Nat.le_of_ble_eq_true rfl, Nat.le_of_ble_eq_true rfl⟩ hS (fun r66 H locs hw66 hk9 hS => ?_)
        obtain rfl : r66 = (zb (isNb (nI v) N)) := hw66
        have hP := zkeep hP hk9
        rw [isNb_y hv hN]
        refine z_ifb_true_ne (tgt := 76) hx hb dX1_together_69 (by decide) ?_
        refine lv_iload_n hx hb dX1_together_76 rfl (lv_at hl 1 rfl) ?_
        refine lv_if_ge (tgt := 84) hx hb dX1_together_77 (by decide) (fun h77 => ?_) (fun h77 => ?_)
        · refine lv_iconst (v := (nI 0)) hx hb dX1_together_84 (by decide) ?_
          refine zwVi (As := [.int (nI 0)]) (rest := []) 0 [0, 1, 2, 3, 4, 5] rfl ⟨hx, hb, hml, hown, hts⟩ (c_X1_goesWell l D cy h b0 b1 b2 b3 b4 th N ch ds de f cs be lf od _ 0 (by omega)) (cwV 1 hts gX1_together_X1_goesWell rfl rfl rfl (by decide +kernel) ⟨Nat.le_of_ble_eq_true rfl, Nat.le_of_ble_eq_true rfl⟩) hK hP hD hA rfl rfl rfl hl rfl (Nat.le_of_ble_eq_true rfl) dX1_together_85 ⟨Nat.le_of_ble_eq_true rfl, Nat.le_of_ble_eq_true rfl⟩ hS (fun r85 u85 H locs hw85 hP hS => ?_)
          have hP : va_P D vwCl (wM h b0 b1 b2 b3 b4 cy (nI 0) N ch ds de f cs be lf od) H := hP
          have hD : va_D A (wM h b0 b1 b2 b3 b4 cy (nI 0) N ch ds de f cs be lf od) := zD hD rfl
          obtain rfl : r85 = (zb true) := hw85
          refine z_ifb_true (tgt := 95) hx hb dX1_together_88 (by decide) ?_
          refine lv_iload_n hx hb dX1_together_91 rfl (lv_at hl 1 rfl) ?_
          refine lv_goto (tgt := 96) hx hb dX1_together_92 (by decide) ?_
          exact W.iret (v := (nI t)) hx hb hr (fun t9 ht9 hW9 => ⟨⟨(nI t), (), rfl, rfl, by show va_P D vwCl (wM h b0 b1 b2 b3 b4 cy (nI 0) N ch ds de f cs be lf od) t9.heap; rw [ht9]; exact hP⟩, hS.F ht9⟩) hS.2.2 dX1_together_96
        · exact absurd (by have := tgk_le f c0 N u v 20; exact nI_pos' (by omega)) h77
      · refine lv_aload_n hx hb dX1_together_12 rfl (lv_at hl 2 rfl) ?_
        refine lv_iload_n hx hb dX1_together_13 rfl (lv_at hl 3 rfl) ?_
        refine zrV (As := [.int (nI u)]) (rest := []) 0 ⟨hx, hb, hml, hown, hts⟩ (c_X1_isNode l D cy h b0 b1 b2 b3 b4 th N ch ds de f cs be lf od (nI u)) (cwV 1 hts gX1_together_X1_isNode rfl rfl rfl (by decide +kernel) ⟨Nat.le_of_ble_eq_true rfl, Nat.le_of_ble_eq_true rfl⟩) hK hP rfl rfl rfl hl rfl (Nat.le_of_ble_eq_true rfl) dX1_together_14 ⟨Nat.le_of_ble_eq_true rfl, Nat.le_of_ble_eq_true rfl⟩ hS (fun r14 H locs hw14 hk9 hS => ?_)
        obtain rfl : r14 = (zb (isNb (nI u) N)) := hw14
        have hP := zkeep hP hk9
        rw [isNb_y hu hN]
        refine z_ifb_true (tgt := 55) hx hb dX1_together_17 (by decide) ?_
        refine lv_aload_n hx hb dX1_together_20 rfl (lv_at hl 2 rfl) ?_
        refine lv_iload_n hx hb dX1_together_21 rfl (lv_at hl 4 rfl) ?_
        refine zrV (As := [.int (nI v)]) (rest := []) 0 ⟨hx, hb, hml, hown, hts⟩ (c_X1_isNode l D cy h b0 b1 b2 b3 b4 th N ch ds de f cs be lf od (nI v)) (cwV 1 hts gX1_together_X1_isNode rfl rfl rfl (by decide +kernel) ⟨Nat.le_of_ble_eq_true rfl, Nat.le_of_ble_eq_true rfl⟩) hK hP rfl rfl rfl hl rfl (Nat.le_of_ble_eq_true rfl) dX1_together_22 ⟨Nat.le_of_ble_eq_true rfl, Nat.le_of_ble_eq_true rfl⟩ hS (fun r22 H locs hw22 hk9 hS => ?_)
        obtain rfl : r22 = (zb (isNb (nI v) N)) := hw22
        have hP := zkeep hP hk9
        rw [isNb_y hv hN]
        refine z_ifb_true (tgt := 55) hx hb dX1_together_25 (by decide) ?_
        refine lv_aload_n hx hb dX1_together_28 rfl (lv_at hl 2 rfl) ?_
        refine lv_iload_n hx hb dX1_together_29 rfl (lv_at hl 3 rfl) ?_
        refine lv_iload hx hb dX1_together_30 (lv_at hl 0 rfl) ?_
        refine zrV (As := [.int (nI u), .int (nI k)]) (rest := []) 0 ⟨hx, hb, hml, hown, hts⟩ (c_X1_communityOf l D cy h b0 b1 b2 b3 b4 th N ch ds de f cs be lf od u (nI k) c0 hN hg hc (by omega)) (cwV 2 hts gX1_together_X1_communityOf rfl rfl rfl (by decide +kernel) ⟨Nat.le_of_ble_eq_true rfl, Nat.le_of_ble_eq_true rfl⟩) hK hP rfl rfl rfl hl rfl (Nat.le_of_ble_eq_true rfl) dX1_together_32 ⟨Nat.le_of_ble_eq_true rfl, Nat.le_of_ble_eq_true rfl⟩ hS (fun r32 H locs hw32 hk9 hS => ?_)
        obtain rfl : r32 = (cmp f (cst c0 N ((nI k)).toInt) u) := hw32
        have hP := zkeep hP hk9
        rw [show (nI k).toInt = (k : Int) from nI_toInt (by omega)]
        refine lv_iload_n hx hb dX1_together_35 rfl (lv_at hl 4 rfl) ?_
        refine zrS0 (As := [.int (cmp f (cst c0 N (k : Int)) u), .int (nI v)]) (rest := []) ⟨hx, hb, hml, hown, hts⟩ (c_X1_has l (cmp f (cst c0 N (k : Int)) u) v (by omega)) (va_cwS 2 hts gX1_together_X1_has rfl rfl rfl (by decide +kernel) ⟨Nat.le_of_ble_eq_true rfl, Nat.le_of_ble_eq_true rfl⟩) rfl hl rfl (Nat.le_of_ble_eq_true rfl) dX1_together_36 ⟨Nat.le_of_ble_eq_true rfl, Nat.le_of_ble_eq_true rfl⟩ hS (fun r36 H locs hw36 hk9 hS => ?_)
        obtain rfl : r36 = (zb (bt (cmp f (cst c0 N (k : Int)) u) v)) := hw36
        have hP := zkeep hP hk9
        refine z_ifb_eq (tgt := 47) hx hb dX1_together_39 (by decide) (fun h39 => ?_) (fun h39 => ?_)
        · refine lv_iload_n hx hb dX1_together_47 rfl (lv_at hl 1 rfl) ?_
          refine lv_istore_n (lv' := [(3, .int x), (4, .int (nI k)), (0, .ref h), (1, .int (nI u)), (2, .int (nI v))]) hx hb dX1_together_48 rfl hl (by decide) rfl (fun ls hl => ?_)
          refine lv_iinc (v := (nI (k + 1))) (lv' := [(4, .int (nI (k + 1))), (3, .int x), (0, .ref h), (1, .int (nI u)), (2, .int (nI v))]) hx hb dX1_together_49 hl (k := 1) rfl (nI_1 _) (by decide) rfl (fun ls hl => ?_)
          refine lv_goto (tgt := 5) hx hb dX1_together_52 (by decide) ?_
          exact ih5 (k + 1) x _ _ _ (by omega) (by rw [tgk_no h39]; exact hxe) (by omega) hP hS (lv_sub hl [0, 1, 2, 3, 4] rfl)
        · refine lv_iload hx hb dX1_together_42 (lv_at hl 0 rfl) ?_
          refine lv_goto (tgt := 48) hx hb dX1_together_44 (by decide) ?_
          refine lv_istore_n (lv' := [(3, .int (nI k)), (4, .int (nI k)), (0, .ref h), (1, .int (nI u)), (2, .int (nI v))]) hx hb dX1_together_48 rfl hl (by decide) rfl (fun ls hl => ?_)
          refine lv_iinc (v := (nI (k + 1))) (lv' := [(4, .int (nI (k + 1))), (3, .int (nI k)), (0, .ref h), (1, .int (nI u)), (2, .int (nI v))]) hx hb dX1_together_49 hl (k := 1) rfl (nI_1 _) (by decide) rfl (fun ls hl => ?_)
          refine lv_goto (tgt := 5) hx hb dX1_together_52 (by decide) ?_
          exact ih5 (k + 1) (nI k) _ _ _ (by omega) (by rw [tgk_yes h39]; rfl) (by omega) hP hS (lv_sub hl [0, 1, 2, 3, 4] rfl)
  exact K5 (20 - 0 + 1) 0 (-1) _ _ _ (by omega) rfl (Nat.lt_succ_self _) hP hS (lv_sub hl [0, 1, 2, 3, 4] rfl)

set_option maxHeartbeats 4000000 in
set_option maxRecDepth 100000 in
theorem c_X1_together_none (l : Launch) (D : va_G) (cy : ClassId) (h b0 b1 b2 b3 b4 : Nat) (th : Int32) (N : Nat) (ch ds de : Int32) (f cs be lf od : Nat → Int32) (sz : Nat) (u v : Nat) (c0 : Nat → Nat) (hN : N ≤ 20) (hg : gd f N) (hc : ∀ v, v < N → cno f N v (c0 v)) (hu : u < N) (hv : v < N) (ht : tgk f c0 N u v 20 = 0) : Met l yX1_together wsX1_together ({ frames := 3, cells := 0, slots := 0, locals := 73 } : Room) (va_Pc [.ref h, .int (nI u), .int (nI v)] (zWr D (wM h b0 b1 b2 b3 b4 cy th N ch ds de f cs be lf od) [(cy, .int)] sz)) (va_Qi (fun (r : Int32) (z9 : Unit) => r = nI 0) (fun (z9 : Unit) t => va_P D vwCl (wM h b0 b1 b2 b3 b4 cy (nI 2) N ch ds de f cs be lf od) t.heap) (va_A (wM h b0 b1 b2 b3 b4 cy th N ch ds de f cs be lf od) sz)) 0 0 (va_A (wM h b0 b1 b2 b3 b4 cy th N ch ds de f cs be lf od) sz) := by
  refine Met.ofW (cc := cX1_together) (maxL := 5) (ret := (some .int)) (by decide) rfl ?_
  intro p e s m args below meth c s₁ B hml hv
  obtain ⟨rfl, hsz, hP, hK, hD0⟩ := hv
  have hx := B.exec
  have hb := B.bytes
  have hr := B.returns
  have hts := atoms_spec (ws := wsX1_together) B.pre
  have hown : s.vm.findClass RX1 = some m.cls := findClass_of_methodNamed B.named
  have hlocks := B.notSynchronized
  subst hsz
  have hD := hD0.self (sz := s.heap.size)
  generalize hAe : va_A (wM h b0 b1 b2 b3 b4 cy th N ch ds de f cs be lf od) s.heap.size = A at hD ⊢
  have hA : ∀ q : Nat, s.heap.size ≤ q → A q := fun q h => by rw [← hAe]; exact Or.inr h
  have hS : va_S A s.heap s.heap [] := va_S.rf
  have hl := lv_entry ([.ref h, .int (nI u), .int (nI v)]) (n := 5) (Nat.le_of_ble_eq_true rfl)
  rw [lg_entry_eq]
  generalize (lg_sl ([.ref h, .int (nI u), .int (nI v)]) ++ List.replicate (5 - (lg_sl ([.ref h, .int (nI u), .int (nI v)])).length) Slot.unset).toArray = ls at hl ⊢
  have hl : lv_has ls 5 [(0, .ref h), (1, .int (nI u)), (2, .int (nI v))] := hl
  refine lv_iconst (v := (-1)) hx hb dX1_together_0 (by decide) ?_
  refine lv_istore_n (lv' := [(3, .int (-1)), (0, .ref h), (1, .int (nI u)), (2, .int (nI v))]) hx hb dX1_together_1 rfl hl (by decide) rfl (fun ls hl => ?_)
  refine lv_iconst (v := (nI 0)) hx hb dX1_together_2 (by decide) ?_
  refine lv_istore (lv' := [(4, .int (nI 0)), (3, .int (-1)), (0, .ref h), (1, .int (nI u)), (2, .int (nI v))]) hx hb dX1_together_3 hl (by decide) rfl (fun ls hl => ?_)
  have K5 : ∀ (fu5 : Nat) (k : Nat) (x : Int32) (H : Heap) (locs : List Loc) (ls : Array Slot), (k ≤ 20) → (x = tgi (tgk f c0 N u v k)) → 20 - k < fu5 → va_P D vwCl (wM h b0 b1 b2 b3 b4 cy th N ch ds de f cs be lf od) H → va_S A s.heap H locs → lv_has ls 5 [(4, .int (nI k)), (3, .int x), (0, .ref h), (1, .int (nI u)), (2, .int (nI v))] → W p l e (headSpec wsX1_together ({ frames := 3, cells := 0, slots := 0, locals := 73 } : Room)).room s m ([.ref h, .int (nI u), .int (nI v)] : List Value).toArray below meth c H locs 0 0 (MQ below (va_Qi (fun (r : Int32) (z9 : Unit) => r = nI 0) (fun (z9 : Unit) t => va_P D vwCl (wM h b0 b1 b2 b3 b4 cy (nI 2) N ch ds de f cs be lf od) t.heap) A) ([.ref h, .int (nI u), .int (nI v)] : List Value).toArray s 0 0 A) (F0 m 5 ls []) := by
    intro fu5
    induction fu5 with
    | zero =>
      intro k x H locs ls hk0 hxe hfu5
      exact absurd hfu5 (Nat.not_lt_zero _)
    | succ fu5 ih5 =>
      intro k x H locs ls hk0 hxe hfu5 hP hS hl
      have hD : va_D A (wM h b0 b1 b2 b3 b4 cy th N ch ds de f cs be lf od) := zD hD rfl
      refine lv_iload hx hb dX1_together_5 (lv_at hl 0 rfl) ?_
      refine lv_bipush (v := (nI 20)) hx hb dX1_together_7 (by decide) ?_
      refine z_icmp_ge (tgt := 55) hx hb dX1_together_9 (by decide) (by omega) (by omega) (fun h9 => ?_) (fun h9 => ?_)
      · obtain rfl : x = (-1) := by rw [hxe, show k = 20 by omega, ht]; rfl
        refine lv_aload_n hx hb dX1_together_55 rfl (lv_at hl 2 rfl) ?_
        refine lv_aload_n hx hb dX1_together_56 rfl (lv_at hl 2 rfl) ?_
        refine lv_iload_n hx hb dX1_together_57 rfl (lv_at hl 3 rfl) ?_
        refine zrV (As := [.int (nI u)]) (rest := [.ref h]) 0 ⟨hx, hb, hml, hown, hts⟩ (c_X1_isNode l D cy h b0 b1 b2 b3 b4 th N ch ds de f cs be lf od (nI u)) (cwV 1 hts gX1_together_X1_isNode rfl rfl rfl (by decide +kernel) ⟨Nat.le_of_ble_eq_true rfl, Nat.le_of_ble_eq_true rfl⟩) hK hP rfl rfl rfl hl rfl (Nat.le_of_ble_eq_true rfl) dX1_together_58 ⟨Nat.le_of_ble_eq_true rfl, Nat.le_of_ble_eq_true rfl⟩ hS (fun r58 H locs hw58 hk9 hS => ?_)
        obtain rfl : r58 = (zb (isNb (nI u) N)) := hw58
        have hP := zkeep hP hk9
        rw [isNb_y hu hN]
        refine z_ifb_true (tgt := 72) hx hb dX1_together_61 (by decide) ?_
        refine lv_aload_n hx hb dX1_together_64 rfl (lv_at hl 2 rfl) ?_
        refine lv_iload_n hx hb dX1_together_65 rfl (lv_at hl 4 rfl) ?_
        refine zrV (As := [.int (nI v)]) (rest := [.ref h]) 0 ⟨hx, hb, hml, hown, hts⟩ (c_X1_isNode l D cy h b0 b1 b2 b3 b4 th N ch ds de f cs be lf od (nI v)) (cwV 1 hts gX1_together_X1_isNode rfl rfl rfl (by decide +kernel) ⟨Nat.le_of_ble_eq_true rfl, Nat.le_of_ble_eq_true rfl⟩) hK hP rfl rfl rfl hl rfl (Nat.le_of_ble_eq_true rfl) dX1_together_66 ⟨Nat.le_of_ble_eq_true rfl, Nat.le_of_ble_eq_true rfl⟩ hS (fun r66 H locs hw66 hk9 hS => ?_)
        obtain rfl : r66 = (zb (isNb (nI v) N)) := hw66
        have hP := zkeep hP hk9
        rw [isNb_y hv hN]
        refine z_ifb_true_ne (tgt := 76) hx hb dX1_together_69 (by decide) ?_
        refine lv_iload_n hx hb dX1_together_76 rfl (lv_at hl 1 rfl) ?_
        refine lv_if_ge (tgt := 84) hx hb dX1_together_77 (by decide) (fun h77 => ?_) (fun h77 => ?_)
        · exact absurd h77 (by decide)
        · refine lv_iconst (v := (nI 2)) hx hb dX1_together_80 (by decide) ?_
          refine lv_goto (tgt := 85) hx hb dX1_together_81 (by decide) ?_
          refine zwVi (As := [.int (nI 2)]) (rest := []) 0 [0, 1, 2, 3, 4, 5] rfl ⟨hx, hb, hml, hown, hts⟩ (c_X1_goesWell l D cy h b0 b1 b2 b3 b4 th N ch ds de f cs be lf od _ 2 (by omega)) (cwV 1 hts gX1_together_X1_goesWell rfl rfl rfl (by decide +kernel) ⟨Nat.le_of_ble_eq_true rfl, Nat.le_of_ble_eq_true rfl⟩) hK hP hD hA rfl rfl rfl hl rfl (Nat.le_of_ble_eq_true rfl) dX1_together_85 ⟨Nat.le_of_ble_eq_true rfl, Nat.le_of_ble_eq_true rfl⟩ hS (fun r85 u85 H locs hw85 hP hS => ?_)
          have hP : va_P D vwCl (wM h b0 b1 b2 b3 b4 cy (nI 2) N ch ds de f cs be lf od) H := hP
          have hD : va_D A (wM h b0 b1 b2 b3 b4 cy (nI 2) N ch ds de f cs be lf od) := zD hD rfl
          obtain rfl : r85 = (zb false) := hw85
          refine z_ifb_false (tgt := 95) hx hb dX1_together_88 (by decide) ?_
          refine lv_iconst (v := (nI 0)) hx hb dX1_together_95 (by decide) ?_
          exact W.iret (v := (nI 0)) hx hb hr (fun t9 ht9 hW9 => ⟨⟨(nI 0), (), rfl, rfl, by show va_P D vwCl (wM h b0 b1 b2 b3 b4 cy (nI 2) N ch ds de f cs be lf od) t9.heap; rw [ht9]; exact hP⟩, hS.F ht9⟩) hS.2.2 dX1_together_96
      · refine lv_aload_n hx hb dX1_together_12 rfl (lv_at hl 2 rfl) ?_
        refine lv_iload_n hx hb dX1_together_13 rfl (lv_at hl 3 rfl) ?_
        refine zrV (As := [.int (nI u)]) (rest := []) 0 ⟨hx, hb, hml, hown, hts⟩ (c_X1_isNode l D cy h b0 b1 b2 b3 b4 th N ch ds de f cs be lf od (nI u)) (cwV 1 hts gX1_together_X1_isNode rfl rfl rfl (by decide +kernel) ⟨Nat.le_of_ble_eq_true rfl, Nat.le_of_ble_eq_true rfl⟩) hK hP rfl rfl rfl hl rfl (Nat.le_of_ble_eq_true rfl) dX1_together_14 ⟨Nat.le_of_ble_eq_true rfl, Nat.le_of_ble_eq_true rfl⟩ hS (fun r14 H locs hw14 hk9 hS => ?_)
        obtain rfl : r14 = (zb (isNb (nI u) N)) := hw14
        have hP := zkeep hP hk9
        rw [isNb_y hu hN]
        refine z_ifb_true (tgt := 55) hx hb dX1_together_17 (by decide) ?_
        refine lv_aload_n hx hb dX1_together_20 rfl (lv_at hl 2 rfl) ?_
        refine lv_iload_n hx hb dX1_together_21 rfl (lv_at hl 4 rfl) ?_
        refine zrV (As := [.int (nI v)]) (rest := []) 0 ⟨hx, hb, hml, hown, hts⟩ (c_X1_isNode l D cy h b0 b1 b2 b3 b4 th N ch ds de f cs be lf od (nI v)) (cwV 1 hts gX1_together_X1_isNode rfl rfl rfl (by decide +kernel) ⟨Nat.le_of_ble_eq_true rfl, Nat.le_of_ble_eq_true rfl⟩) hK hP rfl rfl rfl hl rfl (Nat.le_of_ble_eq_true rfl) dX1_together_22 ⟨Nat.le_of_ble_eq_true rfl, Nat.le_of_ble_eq_true rfl⟩ hS (fun r22 H locs hw22 hk9 hS => ?_)
        obtain rfl : r22 = (zb (isNb (nI v) N)) := hw22
        have hP := zkeep hP hk9
        rw [isNb_y hv hN]
        refine z_ifb_true (tgt := 55) hx hb dX1_together_25 (by decide) ?_
        refine lv_aload_n hx hb dX1_together_28 rfl (lv_at hl 2 rfl) ?_
        refine lv_iload_n hx hb dX1_together_29 rfl (lv_at hl 3 rfl) ?_
        refine lv_iload hx hb dX1_together_30 (lv_at hl 0 rfl) ?_
        refine zrV (As := [.int (nI u), .int (nI k)]) (rest := []) 0 ⟨hx, hb, hml, hown, hts⟩ (c_X1_communityOf l D cy h b0 b1 b2 b3 b4 th N ch ds de f cs be lf od u (nI k) c0 hN hg hc (by omega)) (cwV 2 hts gX1_together_X1_communityOf rfl rfl rfl (by decide +kernel) ⟨Nat.le_of_ble_eq_true rfl, Nat.le_of_ble_eq_true rfl⟩) hK hP rfl rfl rfl hl rfl (Nat.le_of_ble_eq_true rfl) dX1_together_32 ⟨Nat.le_of_ble_eq_true rfl, Nat.le_of_ble_eq_true rfl⟩ hS (fun r32 H locs hw32 hk9 hS => ?_)
        obtain rfl : r32 = (cmp f (cst c0 N ((nI k)).toInt) u) := hw32
        have hP := zkeep hP hk9
        rw [show (nI k).toInt = (k : Int) from nI_toInt (by omega)]
        refine lv_iload_n hx hb dX1_together_35 rfl (lv_at hl 4 rfl) ?_
        refine zrS0 (As := [.int (cmp f (cst c0 N (k : Int)) u), .int (nI v)]) (rest := []) ⟨hx, hb, hml, hown, hts⟩ (c_X1_has l (cmp f (cst c0 N (k : Int)) u) v (by omega)) (va_cwS 2 hts gX1_together_X1_has rfl rfl rfl (by decide +kernel) ⟨Nat.le_of_ble_eq_true rfl, Nat.le_of_ble_eq_true rfl⟩) rfl hl rfl (Nat.le_of_ble_eq_true rfl) dX1_together_36 ⟨Nat.le_of_ble_eq_true rfl, Nat.le_of_ble_eq_true rfl⟩ hS (fun r36 H locs hw36 hk9 hS => ?_)
        obtain rfl : r36 = (zb (bt (cmp f (cst c0 N (k : Int)) u) v)) := hw36
        have hP := zkeep hP hk9
        refine z_ifb_eq (tgt := 47) hx hb dX1_together_39 (by decide) (fun h39 => ?_) (fun h39 => ?_)
        · refine lv_iload_n hx hb dX1_together_47 rfl (lv_at hl 1 rfl) ?_
          refine lv_istore_n (lv' := [(3, .int x), (4, .int (nI k)), (0, .ref h), (1, .int (nI u)), (2, .int (nI v))]) hx hb dX1_together_48 rfl hl (by decide) rfl (fun ls hl => ?_)
          refine lv_iinc (v := (nI (k + 1))) (lv' := [(4, .int (nI (k + 1))), (3, .int x), (0, .ref h), (1, .int (nI u)), (2, .int (nI v))]) hx hb dX1_together_49 hl (k := 1) rfl (nI_1 _) (by decide) rfl (fun ls hl => ?_)
          refine lv_goto (tgt := 5) hx hb dX1_together_52 (by decide) ?_
          exact ih5 (k + 1) x _ _ _ (by omega) (by rw [tgk_no h39]; exact hxe) (by omega) hP hS (lv_sub hl [0, 1, 2, 3, 4] rfl)
        · refine lv_iload hx hb dX1_together_42 (lv_at hl 0 rfl) ?_
          refine lv_goto (tgt := 48) hx hb dX1_together_44 (by decide) ?_
          refine lv_istore_n (lv' := [(3, .int (nI k)), (4, .int (nI k)), (0, .ref h), (1, .int (nI u)), (2, .int (nI v))]) hx hb dX1_together_48 rfl hl (by decide) rfl (fun ls hl => ?_)
          refine lv_iinc (v := (nI (k + 1))) (lv' := [(4, .int (nI (k + 1))), (3, .int (nI k)), (0, .ref h), (1, .int (nI u)), (2, .int (nI v))]) hx hb dX1_together_49 hl (k := 1) rfl (nI_1 _) (by decide) rfl (fun ls hl => ?_)
          refine lv_goto (tgt := 5) hx hb dX1_together_52 (by decide) ?_
          exact ih5 (k + 1) (nI k) _ _ _ (by omega) (by rw [tgk_yes h39]; rfl) (by omega) hP hS (lv_sub hl [0, 1, 2, 3, 4] rfl)
  exact K5 (20 - 0 + 1) 0 (-1) _ _ _ (by omega) rfl (Nat.lt_succ_self _) hP hS (lv_sub hl [0, 1, 2, 3, 4] rfl)

set_option maxHeartbeats 4000000 in
set_option maxRecDepth 100000 in
theorem c_X1_together_bad (l : Launch) (D : va_G) (cy : ClassId) (h b0 b1 b2 b3 b4 : Nat) (th : Int32) (N : Nat) (ch ds de : Int32) (f cs be lf od : Nat → Int32) (sz : Nat) (q1 q2 : Int32) (hq : (isNb q1 N && isNb q2 N) = false) : Met l yX1_together wsX1_together ({ frames := 3, cells := 0, slots := 0, locals := 73 } : Room) (va_Pc [.ref h, .int q1, .int q2] (zWr D (wM h b0 b1 b2 b3 b4 cy th N ch ds de f cs be lf od) [(cy, .int)] sz)) (va_Qi (fun (r : Int32) (z9 : Unit) => r = nI 0) (fun (z9 : Unit) t => va_P D vwCl (wM h b0 b1 b2 b3 b4 cy (nI 1) N ch ds de f cs be lf od) t.heap) (va_A (wM h b0 b1 b2 b3 b4 cy th N ch ds de f cs be lf od) sz)) 0 0 (va_A (wM h b0 b1 b2 b3 b4 cy th N ch ds de f cs be lf od) sz) := by
  refine Met.ofW (cc := cX1_together) (maxL := 5) (ret := (some .int)) (by decide) rfl ?_
  intro p e s m args below meth c s₁ B hml hv
  obtain ⟨rfl, hsz, hP, hK, hD0⟩ := hv
  have hx := B.exec
  have hb := B.bytes
  have hr := B.returns
  have hts := atoms_spec (ws := wsX1_together) B.pre
  have hown : s.vm.findClass RX1 = some m.cls := findClass_of_methodNamed B.named
  have hlocks := B.notSynchronized
  subst hsz
  have hD := hD0.self (sz := s.heap.size)
  generalize hAe : va_A (wM h b0 b1 b2 b3 b4 cy th N ch ds de f cs be lf od) s.heap.size = A at hD ⊢
  have hA : ∀ q : Nat, s.heap.size ≤ q → A q := fun q h => by rw [← hAe]; exact Or.inr h
  have hS : va_S A s.heap s.heap [] := va_S.rf
  have hl := lv_entry ([.ref h, .int q1, .int q2]) (n := 5) (Nat.le_of_ble_eq_true rfl)
  rw [lg_entry_eq]
  generalize (lg_sl ([.ref h, .int q1, .int q2]) ++ List.replicate (5 - (lg_sl ([.ref h, .int q1, .int q2])).length) Slot.unset).toArray = ls at hl ⊢
  have hl : lv_has ls 5 [(0, .ref h), (1, .int q1), (2, .int q2)] := hl
  refine lv_iconst (v := (-1)) hx hb dX1_together_0 (by decide) ?_
  refine lv_istore_n (lv' := [(3, .int (-1)), (0, .ref h), (1, .int q1), (2, .int q2)]) hx hb dX1_together_1 rfl hl (by decide) rfl (fun ls hl => ?_)
  refine lv_iconst (v := (nI 0)) hx hb dX1_together_2 (by decide) ?_
  refine lv_istore (lv' := [(4, .int (nI 0)), (3, .int (-1)), (0, .ref h), (1, .int q1), (2, .int q2)]) hx hb dX1_together_3 hl (by decide) rfl (fun ls hl => ?_)
  have K5 : ∀ (fu5 : Nat) (k : Nat) (H : Heap) (locs : List Loc) (ls : Array Slot), (k ≤ 20) → 20 - k < fu5 → va_P D vwCl (wM h b0 b1 b2 b3 b4 cy th N ch ds de f cs be lf od) H → va_S A s.heap H locs → lv_has ls 5 [(4, .int (nI k)), (0, .ref h), (1, .int q1), (2, .int q2), (3, .int (-1))] → W p l e (headSpec wsX1_together ({ frames := 3, cells := 0, slots := 0, locals := 73 } : Room)).room s m ([.ref h, .int q1, .int q2] : List Value).toArray below meth c H locs 0 0 (MQ below (va_Qi (fun (r : Int32) (z9 : Unit) => r = nI 0) (fun (z9 : Unit) t => va_P D vwCl (wM h b0 b1 b2 b3 b4 cy (nI 1) N ch ds de f cs be lf od) t.heap) A) ([.ref h, .int q1, .int q2] : List Value).toArray s 0 0 A) (F0 m 5 ls []) := by
    intro fu5
    induction fu5 with
    | zero =>
      intro k H locs ls hk0 hfu5
      exact absurd hfu5 (Nat.not_lt_zero _)
    | succ fu5 ih5 =>
      intro k H locs ls hk0 hfu5 hP hS hl
      have hD : va_D A (wM h b0 b1 b2 b3 b4 cy th N ch ds de f cs be lf od) := zD hD rfl
      refine lv_iload hx hb dX1_together_5 (lv_at hl 0 rfl) ?_
      refine lv_bipush (v := (nI 20)) hx hb dX1_together_7 (by decide) ?_
      refine z_icmp_ge (tgt := 55) hx hb dX1_together_9 (by decide) (by omega) (by omega) (fun h9 => ?_) (fun h9 => ?_)
      · refine lv_aload_n hx hb dX1_together_55 rfl (lv_at hl 1 rfl) ?_
        refine lv_aload_n hx hb dX1_together_56 rfl (lv_at hl 1 rfl) ?_
        refine lv_iload_n hx hb dX1_together_57 rfl (lv_at hl 2 rfl) ?_
        refine zrV (As := [.int q1]) (rest := [.ref h]) 0 ⟨hx, hb, hml, hown, hts⟩ (c_X1_isNode l D cy h b0 b1 b2 b3 b4 th N ch ds de f cs be lf od q1) (cwV 1 hts gX1_together_X1_isNode rfl rfl rfl (by decide +kernel) ⟨Nat.le_of_ble_eq_true rfl, Nat.le_of_ble_eq_true rfl⟩) hK hP rfl rfl rfl hl rfl (Nat.le_of_ble_eq_true rfl) dX1_together_58 ⟨Nat.le_of_ble_eq_true rfl, Nat.le_of_ble_eq_true rfl⟩ hS (fun r58 H locs hw58 hk9 hS => ?_)
        obtain rfl : r58 = (zb (isNb q1 N)) := hw58
        have hP := zkeep hP hk9
        refine z_ifb_eq (tgt := 72) hx hb dX1_together_61 (by decide) (fun h61 => ?_) (fun h61 => ?_)
        · refine lv_iconst (v := (nI 1)) hx hb dX1_together_72 (by decide) ?_
          refine lv_goto (tgt := 85) hx hb dX1_together_73 (by decide) ?_
          refine zwVi (As := [.int (nI 1)]) (rest := []) 0 [0, 1, 2, 3, 4, 5] rfl ⟨hx, hb, hml, hown, hts⟩ (c_X1_goesWell l D cy h b0 b1 b2 b3 b4 th N ch ds de f cs be lf od _ 1 (by omega)) (cwV 1 hts gX1_together_X1_goesWell rfl rfl rfl (by decide +kernel) ⟨Nat.le_of_ble_eq_true rfl, Nat.le_of_ble_eq_true rfl⟩) hK hP hD hA rfl rfl rfl hl rfl (Nat.le_of_ble_eq_true rfl) dX1_together_85 ⟨Nat.le_of_ble_eq_true rfl, Nat.le_of_ble_eq_true rfl⟩ hS (fun r85 u85 H locs hw85 hP hS => ?_)
          have hP : va_P D vwCl (wM h b0 b1 b2 b3 b4 cy (nI 1) N ch ds de f cs be lf od) H := hP
          have hD : va_D A (wM h b0 b1 b2 b3 b4 cy (nI 1) N ch ds de f cs be lf od) := zD hD rfl
          obtain rfl : r85 = (zb false) := hw85
          refine z_ifb_false (tgt := 95) hx hb dX1_together_88 (by decide) ?_
          refine lv_iconst (v := (nI 0)) hx hb dX1_together_95 (by decide) ?_
          exact W.iret (v := (nI 0)) hx hb hr (fun t9 ht9 hW9 => ⟨⟨(nI 0), (), rfl, rfl, by show va_P D vwCl (wM h b0 b1 b2 b3 b4 cy (nI 1) N ch ds de f cs be lf od) t9.heap; rw [ht9]; exact hP⟩, hS.F ht9⟩) hS.2.2 dX1_together_96
        · refine lv_aload_n hx hb dX1_together_64 rfl (lv_at hl 1 rfl) ?_
          refine lv_iload_n hx hb dX1_together_65 rfl (lv_at hl 3 rfl) ?_
          refine zrV (As := [.int q2]) (rest := [.ref h]) 0 ⟨hx, hb, hml, hown, hts⟩ (c_X1_isNode l D cy h b0 b1 b2 b3 b4 th N ch ds de f cs be lf od q2) (cwV 1 hts gX1_together_X1_isNode rfl rfl rfl (by decide +kernel) ⟨Nat.le_of_ble_eq_true rfl, Nat.le_of_ble_eq_true rfl⟩) hK hP rfl rfl rfl hl rfl (Nat.le_of_ble_eq_true rfl) dX1_together_66 ⟨Nat.le_of_ble_eq_true rfl, Nat.le_of_ble_eq_true rfl⟩ hS (fun r66 H locs hw66 hk9 hS => ?_)
          obtain rfl : r66 = (zb (isNb q2 N)) := hw66
          have hP := zkeep hP hk9
          refine z_ifb_ne (tgt := 76) hx hb dX1_together_69 (by decide) (fun h69 => ?_) (fun h69 => ?_)
          · exact absurd hq (by rw [h61, h69]; decide)
          · refine lv_iconst (v := (nI 1)) hx hb dX1_together_72 (by decide) ?_
            refine lv_goto (tgt := 85) hx hb dX1_together_73 (by decide) ?_
            refine zwVi (As := [.int (nI 1)]) (rest := []) 0 [0, 1, 2, 3, 4, 5] rfl ⟨hx, hb, hml, hown, hts⟩ (c_X1_goesWell l D cy h b0 b1 b2 b3 b4 th N ch ds de f cs be lf od _ 1 (by omega)) (cwV 1 hts gX1_together_X1_goesWell rfl rfl rfl (by decide +kernel) ⟨Nat.le_of_ble_eq_true rfl, Nat.le_of_ble_eq_true rfl⟩) hK hP hD hA rfl rfl rfl hl rfl (Nat.le_of_ble_eq_true rfl) dX1_together_85 ⟨Nat.le_of_ble_eq_true rfl, Nat.le_of_ble_eq_true rfl⟩ hS (fun r85 u85 H locs hw85 hP hS => ?_)
            have hP : va_P D vwCl (wM h b0 b1 b2 b3 b4 cy (nI 1) N ch ds de f cs be lf od) H := hP
            have hD : va_D A (wM h b0 b1 b2 b3 b4 cy (nI 1) N ch ds de f cs be lf od) := zD hD rfl
            obtain rfl : r85 = (zb false) := hw85
            refine z_ifb_false (tgt := 95) hx hb dX1_together_88 (by decide) ?_
            refine lv_iconst (v := (nI 0)) hx hb dX1_together_95 (by decide) ?_
            exact W.iret (v := (nI 0)) hx hb hr (fun t9 ht9 hW9 => ⟨⟨(nI 0), (), rfl, rfl, by show va_P D vwCl (wM h b0 b1 b2 b3 b4 cy (nI 1) N ch ds de f cs be lf od) t9.heap; rw [ht9]; exact hP⟩, hS.F ht9⟩) hS.2.2 dX1_together_96
      · refine lv_aload_n hx hb dX1_together_12 rfl (lv_at hl 1 rfl) ?_
        refine lv_iload_n hx hb dX1_together_13 rfl (lv_at hl 2 rfl) ?_
        refine zrV (As := [.int q1]) (rest := []) 0 ⟨hx, hb, hml, hown, hts⟩ (c_X1_isNode l D cy h b0 b1 b2 b3 b4 th N ch ds de f cs be lf od q1) (cwV 1 hts gX1_together_X1_isNode rfl rfl rfl (by decide +kernel) ⟨Nat.le_of_ble_eq_true rfl, Nat.le_of_ble_eq_true rfl⟩) hK hP rfl rfl rfl hl rfl (Nat.le_of_ble_eq_true rfl) dX1_together_14 ⟨Nat.le_of_ble_eq_true rfl, Nat.le_of_ble_eq_true rfl⟩ hS (fun r14 H locs hw14 hk9 hS => ?_)
        obtain rfl : r14 = (zb (isNb q1 N)) := hw14
        have hP := zkeep hP hk9
        refine z_ifb_eq (tgt := 55) hx hb dX1_together_17 (by decide) (fun h17 => ?_) (fun h17 => ?_)
        · refine lv_aload_n hx hb dX1_together_55 rfl (lv_at hl 1 rfl) ?_
          refine lv_aload_n hx hb dX1_together_56 rfl (lv_at hl 1 rfl) ?_
          refine lv_iload_n hx hb dX1_together_57 rfl (lv_at hl 2 rfl) ?_
          refine zrV (As := [.int q1]) (rest := [.ref h]) 0 ⟨hx, hb, hml, hown, hts⟩ (c_X1_isNode l D cy h b0 b1 b2 b3 b4 th N ch ds de f cs be lf od q1) (cwV 1 hts gX1_together_X1_isNode rfl rfl rfl (by decide +kernel) ⟨Nat.le_of_ble_eq_true rfl, Nat.le_of_ble_eq_true rfl⟩) hK hP rfl rfl rfl hl rfl (Nat.le_of_ble_eq_true rfl) dX1_together_58 ⟨Nat.le_of_ble_eq_true rfl, Nat.le_of_ble_eq_true rfl⟩ hS (fun r58 H locs hw58 hk9 hS => ?_)
          obtain rfl : r58 = (zb (isNb q1 N)) := hw58
          have hP := zkeep hP hk9
          refine z_ifb_eq (tgt := 72) hx hb dX1_together_61 (by decide) (fun h61 => ?_) (fun h61 => ?_)
          · refine lv_iconst (v := (nI 1)) hx hb dX1_together_72 (by decide) ?_
            refine lv_goto (tgt := 85) hx hb dX1_together_73 (by decide) ?_
            refine zwVi (As := [.int (nI 1)]) (rest := []) 0 [0, 1, 2, 3, 4, 5] rfl ⟨hx, hb, hml, hown, hts⟩ (c_X1_goesWell l D cy h b0 b1 b2 b3 b4 th N ch ds de f cs be lf od _ 1 (by omega)) (cwV 1 hts gX1_together_X1_goesWell rfl rfl rfl (by decide +kernel) ⟨Nat.le_of_ble_eq_true rfl, Nat.le_of_ble_eq_true rfl⟩) hK hP hD hA rfl rfl rfl hl rfl (Nat.le_of_ble_eq_true rfl) dX1_together_85 ⟨Nat.le_of_ble_eq_true rfl, Nat.le_of_ble_eq_true rfl⟩ hS (fun r85 u85 H locs hw85 hP hS => ?_)
            have hP : va_P D vwCl (wM h b0 b1 b2 b3 b4 cy (nI 1) N ch ds de f cs be lf od) H := hP
            have hD : va_D A (wM h b0 b1 b2 b3 b4 cy (nI 1) N ch ds de f cs be lf od) := zD hD rfl
            obtain rfl : r85 = (zb false) := hw85
            refine z_ifb_false (tgt := 95) hx hb dX1_together_88 (by decide) ?_
            refine lv_iconst (v := (nI 0)) hx hb dX1_together_95 (by decide) ?_
            exact W.iret (v := (nI 0)) hx hb hr (fun t9 ht9 hW9 => ⟨⟨(nI 0), (), rfl, rfl, by show va_P D vwCl (wM h b0 b1 b2 b3 b4 cy (nI 1) N ch ds de f cs be lf od) t9.heap; rw [ht9]; exact hP⟩, hS.F ht9⟩) hS.2.2 dX1_together_96
          · refine lv_aload_n hx hb dX1_together_64 rfl (lv_at hl 1 rfl) ?_
            refine lv_iload_n hx hb dX1_together_65 rfl (lv_at hl 3 rfl) ?_
            refine zrV (As := [.int q2]) (rest := [.ref h]) 0 ⟨hx, hb, hml, hown, hts⟩ (c_X1_isNode l D cy h b0 b1 b2 b3 b4 th N ch ds de f cs be lf od q2) (cwV 1 hts gX1_together_X1_isNode rfl rfl rfl (by decide +kernel) ⟨Nat.le_of_ble_eq_true rfl, Nat.le_of_ble_eq_true rfl⟩) hK hP rfl rfl rfl hl rfl (Nat.le_of_ble_eq_true rfl) dX1_together_66 ⟨Nat.le_of_ble_eq_true rfl, Nat.le_of_ble_eq_true rfl⟩ hS (fun r66 H locs hw66 hk9 hS => ?_)
            obtain rfl : r66 = (zb (isNb q2 N)) := hw66
            have hP := zkeep hP hk9
            refine z_ifb_ne (tgt := 76) hx hb dX1_together_69 (by decide) (fun h69 => ?_) (fun h69 => ?_)
            · exact absurd hq (by rw [h61, h69]; decide)
            · refine lv_iconst (v := (nI 1)) hx hb dX1_together_72 (by decide) ?_
              refine lv_goto (tgt := 85) hx hb dX1_together_73 (by decide) ?_
              refine zwVi (As := [.int (nI 1)]) (rest := []) 0 [0, 1, 2, 3, 4, 5] rfl ⟨hx, hb, hml, hown, hts⟩ (c_X1_goesWell l D cy h b0 b1 b2 b3 b4 th N ch ds de f cs be lf od _ 1 (by omega)) (cwV 1 hts gX1_together_X1_goesWell rfl rfl rfl (by decide +kernel) ⟨Nat.le_of_ble_eq_true rfl, Nat.le_of_ble_eq_true rfl⟩) hK hP hD hA rfl rfl rfl hl rfl (Nat.le_of_ble_eq_true rfl) dX1_together_85 ⟨Nat.le_of_ble_eq_true rfl, Nat.le_of_ble_eq_true rfl⟩ hS (fun r85 u85 H locs hw85 hP hS => ?_)
              have hP : va_P D vwCl (wM h b0 b1 b2 b3 b4 cy (nI 1) N ch ds de f cs be lf od) H := hP
              have hD : va_D A (wM h b0 b1 b2 b3 b4 cy (nI 1) N ch ds de f cs be lf od) := zD hD rfl
              obtain rfl : r85 = (zb false) := hw85
              refine z_ifb_false (tgt := 95) hx hb dX1_together_88 (by decide) ?_
              refine lv_iconst (v := (nI 0)) hx hb dX1_together_95 (by decide) ?_
              exact W.iret (v := (nI 0)) hx hb hr (fun t9 ht9 hW9 => ⟨⟨(nI 0), (), rfl, rfl, by show va_P D vwCl (wM h b0 b1 b2 b3 b4 cy (nI 1) N ch ds de f cs be lf od) t9.heap; rw [ht9]; exact hP⟩, hS.F ht9⟩) hS.2.2 dX1_together_96
        · refine lv_aload_n hx hb dX1_together_20 rfl (lv_at hl 1 rfl) ?_
          refine lv_iload_n hx hb dX1_together_21 rfl (lv_at hl 3 rfl) ?_
          refine zrV (As := [.int q2]) (rest := []) 0 ⟨hx, hb, hml, hown, hts⟩ (c_X1_isNode l D cy h b0 b1 b2 b3 b4 th N ch ds de f cs be lf od q2) (cwV 1 hts gX1_together_X1_isNode rfl rfl rfl (by decide +kernel) ⟨Nat.le_of_ble_eq_true rfl, Nat.le_of_ble_eq_true rfl⟩) hK hP rfl rfl rfl hl rfl (Nat.le_of_ble_eq_true rfl) dX1_together_22 ⟨Nat.le_of_ble_eq_true rfl, Nat.le_of_ble_eq_true rfl⟩ hS (fun r22 H locs hw22 hk9 hS => ?_)
          obtain rfl : r22 = (zb (isNb q2 N)) := hw22
          have hP := zkeep hP hk9
          refine z_ifb_eq (tgt := 55) hx hb dX1_together_25 (by decide) (fun h25 => ?_) (fun h25 => ?_)
          · refine lv_aload_n hx hb dX1_together_55 rfl (lv_at hl 1 rfl) ?_
            refine lv_aload_n hx hb dX1_together_56 rfl (lv_at hl 1 rfl) ?_
            refine lv_iload_n hx hb dX1_together_57 rfl (lv_at hl 2 rfl) ?_
            refine zrV (As := [.int q1]) (rest := [.ref h]) 0 ⟨hx, hb, hml, hown, hts⟩ (c_X1_isNode l D cy h b0 b1 b2 b3 b4 th N ch ds de f cs be lf od q1) (cwV 1 hts gX1_together_X1_isNode rfl rfl rfl (by decide +kernel) ⟨Nat.le_of_ble_eq_true rfl, Nat.le_of_ble_eq_true rfl⟩) hK hP rfl rfl rfl hl rfl (Nat.le_of_ble_eq_true rfl) dX1_together_58 ⟨Nat.le_of_ble_eq_true rfl, Nat.le_of_ble_eq_true rfl⟩ hS (fun r58 H locs hw58 hk9 hS => ?_)
            obtain rfl : r58 = (zb (isNb q1 N)) := hw58
            have hP := zkeep hP hk9
            refine z_ifb_eq (tgt := 72) hx hb dX1_together_61 (by decide) (fun h61 => ?_) (fun h61 => ?_)
            · refine lv_iconst (v := (nI 1)) hx hb dX1_together_72 (by decide) ?_
              refine lv_goto (tgt := 85) hx hb dX1_together_73 (by decide) ?_
              refine zwVi (As := [.int (nI 1)]) (rest := []) 0 [0, 1, 2, 3, 4, 5] rfl ⟨hx, hb, hml, hown, hts⟩ (c_X1_goesWell l D cy h b0 b1 b2 b3 b4 th N ch ds de f cs be lf od _ 1 (by omega)) (cwV 1 hts gX1_together_X1_goesWell rfl rfl rfl (by decide +kernel) ⟨Nat.le_of_ble_eq_true rfl, Nat.le_of_ble_eq_true rfl⟩) hK hP hD hA rfl rfl rfl hl rfl (Nat.le_of_ble_eq_true rfl) dX1_together_85 ⟨Nat.le_of_ble_eq_true rfl, Nat.le_of_ble_eq_true rfl⟩ hS (fun r85 u85 H locs hw85 hP hS => ?_)
              have hP : va_P D vwCl (wM h b0 b1 b2 b3 b4 cy (nI 1) N ch ds de f cs be lf od) H := hP
              have hD : va_D A (wM h b0 b1 b2 b3 b4 cy (nI 1) N ch ds de f cs be lf od) := zD hD rfl
              obtain rfl : r85 = (zb false) := hw85
              refine z_ifb_false (tgt := 95) hx hb dX1_together_88 (by decide) ?_
              refine lv_iconst (v := (nI 0)) hx hb dX1_together_95 (by decide) ?_
              exact W.iret (v := (nI 0)) hx hb hr (fun t9 ht9 hW9 => ⟨⟨(nI 0), (), rfl, rfl, by show va_P D vwCl (wM h b0 b1 b2 b3 b4 cy (nI 1) N ch ds de f cs be lf od) t9.heap; rw [ht9]; exact hP⟩, hS.F ht9⟩) hS.2.2 dX1_together_96
            · refine lv_aload_n hx hb dX1_together_64 rfl (lv_at hl 1 rfl) ?_
              refine lv_iload_n hx hb dX1_together_65 rfl (lv_at hl 3 rfl) ?_
              refine zrV (As := [.int q2]) (rest := [.ref h]) 0 ⟨hx, hb, hml, hown, hts⟩ (c_X1_isNode l D cy h b0 b1 b2 b3 b4 th N ch ds de f cs be lf od q2) (cwV 1 hts gX1_together_X1_isNode rfl rfl rfl (by decide +kernel) ⟨Nat.le_of_ble_eq_true rfl, Nat.le_of_ble_eq_true rfl⟩) hK hP rfl rfl rfl hl rfl (Nat.le_of_ble_eq_true rfl) dX1_together_66 ⟨Nat.le_of_ble_eq_true rfl, Nat.le_of_ble_eq_true rfl⟩ hS (fun r66 H locs hw66 hk9 hS => ?_)
              obtain rfl : r66 = (zb (isNb q2 N)) := hw66
              have hP := zkeep hP hk9
              refine z_ifb_ne (tgt := 76) hx hb dX1_together_69 (by decide) (fun h69 => ?_) (fun h69 => ?_)
              · exact absurd hq (by rw [h61, h69]; decide)
              · refine lv_iconst (v := (nI 1)) hx hb dX1_together_72 (by decide) ?_
                refine lv_goto (tgt := 85) hx hb dX1_together_73 (by decide) ?_
                refine zwVi (As := [.int (nI 1)]) (rest := []) 0 [0, 1, 2, 3, 4, 5] rfl ⟨hx, hb, hml, hown, hts⟩ (c_X1_goesWell l D cy h b0 b1 b2 b3 b4 th N ch ds de f cs be lf od _ 1 (by omega)) (cwV 1 hts gX1_together_X1_goesWell rfl rfl rfl (by decide +kernel) ⟨Nat.le_of_ble_eq_true rfl, Nat.le_of_ble_eq_true rfl⟩) hK hP hD hA rfl rfl rfl hl rfl (Nat.le_of_ble_eq_true rfl) dX1_together_85 ⟨Nat.le_of_ble_eq_true rfl, Nat.le_of_ble_eq_true rfl⟩ hS (fun r85 u85 H locs hw85 hP hS => ?_)
                have hP : va_P D vwCl (wM h b0 b1 b2 b3 b4 cy (nI 1) N ch ds de f cs be lf od) H := hP
                have hD : va_D A (wM h b0 b1 b2 b3 b4 cy (nI 1) N ch ds de f cs be lf od) := zD hD rfl
                obtain rfl : r85 = (zb false) := hw85
                refine z_ifb_false (tgt := 95) hx hb dX1_together_88 (by decide) ?_
                refine lv_iconst (v := (nI 0)) hx hb dX1_together_95 (by decide) ?_
                exact W.iret (v := (nI 0)) hx hb hr (fun t9 ht9 hW9 => ⟨⟨(nI 0), (), rfl, rfl, by show va_P D vwCl (wM h b0 b1 b2 b3 b4 cy (nI 1) N ch ds de f cs be lf od) t9.heap; rw [ht9]; exact hP⟩, hS.F ht9⟩) hS.2.2 dX1_together_96
          · exact absurd hq (by rw [h17, h25]; decide)
  exact K5 (20 - 0 + 1) 0 _ _ _ (by omega) (Nat.lt_succ_self _) hP hS (lv_sub hl [0, 2, 3, 4, 1] rfl)

set_option maxHeartbeats 4000000 in
set_option maxRecDepth 100000 in
theorem c_X1_neighbour_ok (l : Launch) (D : va_G) (cy : ClassId) (h b0 b1 b2 b3 b4 : Nat) (th : Int32) (N : Nat) (ch ds de : Int32) (f cs be lf od : Nat → Int32) (sz : Nat) (u q : Nat) (hN : N ≤ 20) (hg : gd f N) (hu : u < N) (hq : q < zpop (f u)) : Met l yX1_neighbour wsX1_neighbour ({ frames := 1, cells := 0, slots := 0, locals := 22 } : Room) (va_Pc [.ref h, .int (nI u), .int (nI q)] (zWr D (wM h b0 b1 b2 b3 b4 cy th N ch ds de f cs be lf od) [(cy, .int)] sz)) (va_Qi (fun (r : Int32) (z9 : Unit) => ∃ w, r = nI w ∧ bt (f u) w = true ∧ fb_ct (bt (f u)) w = q) (fun (z9 : Unit) t => va_P D vwCl (wM h b0 b1 b2 b3 b4 cy (nI 0) N ch ds de f cs be lf od) t.heap) (va_A (wM h b0 b1 b2 b3 b4 cy th N ch ds de f cs be lf od) sz)) 0 0 (va_A (wM h b0 b1 b2 b3 b4 cy th N ch ds de f cs be lf od) sz) := by
  refine Met.ofW (cc := cX1_neighbour) (maxL := 6) (ret := (some .int)) (by decide) rfl ?_
  intro p e s m args below meth c s₁ B hml hv
  obtain ⟨rfl, hsz, hP, hK, hD0⟩ := hv
  have hx := B.exec
  have hb := B.bytes
  have hr := B.returns
  have hts := atoms_spec (ws := wsX1_neighbour) B.pre
  have hown : s.vm.findClass RX1 = some m.cls := findClass_of_methodNamed B.named
  have hlocks := B.notSynchronized
  subst hsz
  have hD := hD0.self (sz := s.heap.size)
  generalize hAe : va_A (wM h b0 b1 b2 b3 b4 cy th N ch ds de f cs be lf od) s.heap.size = A at hD ⊢
  have hA : ∀ q : Nat, s.heap.size ≤ q → A q := fun q h => by rw [← hAe]; exact Or.inr h
  have hS : va_S A s.heap s.heap [] := va_S.rf
  have hin : ∀ w ∈ wsX10, w ∈ wsX1_neighbour := by decide +kernel
  have hf7 := hts (.fieldLink RX1 7 "CorebarnModel" "near" "[I") (by decide +kernel)
  have hqb := pop_32 (f u)
  have hl := lv_entry ([.ref h, .int (nI u), .int (nI q)]) (n := 6) (Nat.le_of_ble_eq_true rfl)
  rw [lg_entry_eq]
  generalize (lg_sl ([.ref h, .int (nI u), .int (nI q)]) ++ List.replicate (6 - (lg_sl ([.ref h, .int (nI u), .int (nI q)])).length) Slot.unset).toArray = ls at hl ⊢
  have hl : lv_has ls 6 [(0, .ref h), (1, .int (nI u)), (2, .int (nI q))] := hl
  refine lv_aload_n hx hb dX1_neighbour_0 rfl (lv_at hl 0 rfl) ?_
  refine lv_iload_n hx hb dX1_neighbour_1 rfl (lv_at hl 1 rfl) ?_
  refine zrV (As := [.int (nI u)]) (rest := []) 0 ⟨hx, hb, hml, hown, hts⟩ (c_X1_isNode l D cy h b0 b1 b2 b3 b4 th N ch ds de f cs be lf od (nI u)) (cwV 1 hts gX1_neighbour_X1_isNode rfl rfl rfl (by decide +kernel) ⟨Nat.le_of_ble_eq_true rfl, Nat.le_of_ble_eq_true rfl⟩) hK hP rfl rfl rfl hl rfl (Nat.le_of_ble_eq_true rfl) dX1_neighbour_2 ⟨Nat.le_of_ble_eq_true rfl, Nat.le_of_ble_eq_true rfl⟩ hS (fun r2 H locs hw2 hk9 hS => ?_)
  obtain rfl : r2 = (zb (isNb (nI u) N)) := hw2
  have hP := zkeep hP hk9
  rw [isNb_y hu hN]
  refine z_ifb_true (tgt := 29) hx hb dX1_neighbour_5 (by decide) ?_
  refine lv_iload_n hx hb dX1_neighbour_8 rfl (lv_at hl 2 rfl) ?_
  refine z_ifn_lt (tgt := 29) hx hb dX1_neighbour_9 (by decide) (by omega) ?_
  refine lv_iload_n hx hb dX1_neighbour_12 rfl (lv_at hl 2 rfl) ?_
  refine lv_aload_n hx hb dX1_neighbour_13 rfl (lv_at hl 0 rfl) ?_
  refine va_get (D := D) (ci := 1) (v := .ref b0) (C := RX1) (T := TX1) (N := 10) hx hb hts hin hown hK hP 0 rfl rfl 2 (by decide) hf7 (fun _ h9 => h9) rfl dX1_neighbour_14 ?_
  refine lv_iload_n hx hb dX1_neighbour_17 rfl (lv_at hl 1 rfl) ?_
  refine z_iald hx hb hK hP 1 0 rfl rfl (by omega) (by decide) dX1_neighbour_18 ?_
  refine zrS0 (As := [.int (f u)]) (rest := [.int (nI q)]) ⟨hx, hb, hml, hown, hts⟩ (c_X1_sizeOf l (f u) (zsub20 hN (gd_sub hg hu))) (va_cwS 1 hts gX1_neighbour_X1_sizeOf rfl rfl rfl (by decide +kernel) ⟨Nat.le_of_ble_eq_true rfl, Nat.le_of_ble_eq_true rfl⟩) rfl hl rfl (Nat.le_of_ble_eq_true rfl) dX1_neighbour_19 ⟨Nat.le_of_ble_eq_true rfl, Nat.le_of_ble_eq_true rfl⟩ hS (fun r19 H locs hw19 hk9 hS => ?_)
  obtain rfl : r19 = (nI (zpop (f u))) := hw19
  have hP := zkeep hP hk9
  refine z_icmp_ge (tgt := 29) hx hb dX1_neighbour_22 (by decide) (by omega) (pop_31 _) (fun h22 => ?_) (fun h22 => ?_)
  · exact absurd hq (Nat.not_lt.mpr h22)
  · refine lv_iconst (v := (nI 1)) hx hb dX1_neighbour_25 (by decide) ?_
    refine lv_goto (tgt := 30) hx hb dX1_neighbour_26 (by decide) ?_
    refine lv_istore_n (lv' := [(3, .int (nI 1)), (0, .ref h), (1, .int (nI u)), (2, .int (nI q))]) hx hb dX1_neighbour_30 rfl hl (by decide) rfl (fun ls hl => ?_)
    refine lv_aload_n hx hb dX1_neighbour_31 rfl (lv_at hl 1 rfl) ?_
    refine lv_iload_n hx hb dX1_neighbour_32 rfl (lv_at hl 0 rfl) ?_
    refine lv_if_eq (tgt := 40) hx hb dX1_neighbour_33 (by decide) (fun q => absurd q (by decide)) (fun _ => ?_)
    refine lv_iconst (v := (nI 0)) hx hb dX1_neighbour_36 (by decide) ?_
    refine lv_goto (tgt := 41) hx hb dX1_neighbour_37 (by decide) ?_
    refine zwVi (As := [.int (nI 0)]) (rest := []) 0 [0, 1, 2, 3, 4, 5] rfl ⟨hx, hb, hml, hown, hts⟩ (c_X1_goesWell l D cy h b0 b1 b2 b3 b4 th N ch ds de f cs be lf od _ 0 (by omega)) (cwV 1 hts gX1_neighbour_X1_goesWell rfl rfl rfl (by decide +kernel) ⟨Nat.le_of_ble_eq_true rfl, Nat.le_of_ble_eq_true rfl⟩) hK hP hD hA rfl rfl rfl hl rfl (Nat.le_of_ble_eq_true rfl) dX1_neighbour_41 ⟨Nat.le_of_ble_eq_true rfl, Nat.le_of_ble_eq_true rfl⟩ hS (fun r41 u41 H locs hw41 hP hS => ?_)
    have hP : va_P D vwCl (wM h b0 b1 b2 b3 b4 cy (nI 0) N ch ds de f cs be lf od) H := hP
    have hD : va_D A (wM h b0 b1 b2 b3 b4 cy (nI 0) N ch ds de f cs be lf od) := zD hD rfl
    obtain rfl : r41 = (zb true) := hw41
    refine z_ifb_true_ne (tgt := 49) hx hb dX1_neighbour_44 (by decide) ?_
    refine lv_iconst (v := (nI 0)) hx hb dX1_neighbour_49 (by decide) ?_
    refine lv_istore (lv' := [(4, .int (nI 0)), (3, .int (nI 1)), (0, .ref h), (1, .int (nI u)), (2, .int (nI q))]) hx hb dX1_neighbour_50 hl (by decide) rfl (fun ls hl => ?_)
    refine lv_iload_n hx hb dX1_neighbour_52 rfl (lv_at hl 4 rfl) ?_
    refine lv_istore (lv' := [(5, .int (nI q)), (4, .int (nI 0)), (3, .int (nI 1)), (0, .ref h), (1, .int (nI u)), (2, .int (nI q))]) hx hb dX1_neighbour_53 hl (by decide) rfl (fun ls hl => ?_)
    have K55 : ∀ (fu55 : Nat) (w : Nat) (x : Nat) (H : Heap) (locs : List Loc) (ls : Array Slot), (x + fb_ct (bt (f u)) w = q) → 20 - w < fu55 → va_P D vwCl (wM h b0 b1 b2 b3 b4 cy (nI 0) N ch ds de f cs be lf od) H → va_S A s.heap H locs → lv_has ls 6 [(4, .int (nI w)), (5, .int (nI x)), (0, .ref h), (1, .int (nI u)), (2, .int (nI q)), (3, .int (nI 1))] → W p l e (headSpec wsX1_neighbour ({ frames := 1, cells := 0, slots := 0, locals := 22 } : Room)).room s m ([.ref h, .int (nI u), .int (nI q)] : List Value).toArray below meth c H locs 0 0 (MQ below (va_Qi (fun (r : Int32) (z9 : Unit) => ∃ w, r = nI w ∧ bt (f u) w = true ∧ fb_ct (bt (f u)) w = q) (fun (z9 : Unit) t => va_P D vwCl (wM h b0 b1 b2 b3 b4 cy (nI 0) N ch ds de f cs be lf od) t.heap) A) ([.ref h, .int (nI u), .int (nI q)] : List Value).toArray s 0 0 A) (F0 m 55 ls []) := by
      intro fu55
      induction fu55 with
      | zero =>
        intro w x H locs ls hw0 hfu55
        exact absurd hfu55 (Nat.not_lt_zero _)
      | succ fu55 ih55 =>
        intro w x H locs ls hw0 hfu55 hP hS hl
        have hD : va_D A (wM h b0 b1 b2 b3 b4 cy (nI 0) N ch ds de f cs be lf od) := zD hD rfl
        have hw20 : w < 20 := by
          rcases Nat.lt_or_ge w 20 with z | z
          · exact z
          · have z2 := fb_ct_mono (bt (f u)) z
            rw [← pop20 (zsub20 hN (gd_sub hg hu))] at z2
            omega
        refine lv_iload hx hb dX1_neighbour_55 (lv_at hl 1 rfl) ?_
        refine z_ifn_gt (tgt := 74) hx hb dX1_neighbour_57 (by decide) (by omega) (fun h57 => ?_) (fun h57 => ?_)
        · refine lv_iload hx hb dX1_neighbour_74 (lv_at hl 1 rfl) ?_
          refine lv_aload_n hx hb dX1_neighbour_76 rfl (lv_at hl 2 rfl) ?_
          refine va_get (D := D) (ci := 1) (v := .ref b0) (C := RX1) (T := TX1) (N := 10) hx hb hts hin hown hK hP 0 rfl rfl 2 (by decide) hf7 (fun _ h9 => h9) rfl dX1_neighbour_77 ?_
          refine lv_iload_n hx hb dX1_neighbour_80 rfl (lv_at hl 3 rfl) ?_
          refine z_iald hx hb hK hP 1 0 rfl rfl (by omega) (by decide) dX1_neighbour_81 ?_
          refine lv_iload hx hb dX1_neighbour_82 (lv_at hl 0 rfl) ?_
          refine zrS0 (As := [.int (f u), .int (nI w)]) (rest := [.int (nI x)]) ⟨hx, hb, hml, hown, hts⟩ (c_X1_has l (f u) w (by omega)) (va_cwS 2 hts gX1_neighbour_X1_has rfl rfl rfl (by decide +kernel) ⟨Nat.le_of_ble_eq_true rfl, Nat.le_of_ble_eq_true rfl⟩) rfl hl rfl (Nat.le_of_ble_eq_true rfl) dX1_neighbour_84 ⟨Nat.le_of_ble_eq_true rfl, Nat.le_of_ble_eq_true rfl⟩ hS (fun r84 H locs hw84 hk9 hS => ?_)
          obtain rfl : r84 = (zb (bt (f u) w)) := hw84
          have hP := zkeep hP hk9
          refine z_ifb_eq (tgt := 94) hx hb dX1_neighbour_87 (by decide) (fun h87 => ?_) (fun h87 => ?_)
          · refine lv_iconst (v := (nI 0)) hx hb dX1_neighbour_94 (by decide) ?_
            refine z_isub hx hb dX1_neighbour_95 (by omega) ?_
            refine lv_istore (lv' := [(5, .int (nI (x - 0))), (4, .int (nI w)), (0, .ref h), (1, .int (nI u)), (2, .int (nI q)), (3, .int (nI 1))]) hx hb dX1_neighbour_96 hl (by decide) rfl (fun ls hl => ?_)
            refine lv_iinc (v := (nI (w + 1))) (lv' := [(4, .int (nI (w + 1))), (5, .int (nI (x - 0))), (0, .ref h), (1, .int (nI u)), (2, .int (nI q)), (3, .int (nI 1))]) hx hb dX1_neighbour_98 hl (k := 1) rfl (nI_1 _) (by decide) rfl (fun ls hl => ?_)
            refine lv_goto (tgt := 55) hx hb dX1_neighbour_101 (by decide) ?_
            exact ih55 (w + 1) (x - 0) _ _ _ (by rw [ct_nof h87]; exact hw0) (by omega) hP hS (lv_sub hl [0, 1, 2, 3, 4, 5] rfl)
          · refine lv_iconst (v := (nI 1)) hx hb dX1_neighbour_90 (by decide) ?_
            refine lv_goto (tgt := 95) hx hb dX1_neighbour_91 (by decide) ?_
            refine z_isub hx hb dX1_neighbour_95 (by omega) ?_
            refine lv_istore (lv' := [(5, .int (nI (x - 1))), (4, .int (nI w)), (0, .ref h), (1, .int (nI u)), (2, .int (nI q)), (3, .int (nI 1))]) hx hb dX1_neighbour_96 hl (by decide) rfl (fun ls hl => ?_)
            refine lv_iinc (v := (nI (w + 1))) (lv' := [(4, .int (nI (w + 1))), (5, .int (nI (x - 1))), (0, .ref h), (1, .int (nI u)), (2, .int (nI q)), (3, .int (nI 1))]) hx hb dX1_neighbour_98 hl (k := 1) rfl (nI_1 _) (by decide) rfl (fun ls hl => ?_)
            refine lv_goto (tgt := 55) hx hb dX1_neighbour_101 (by decide) ?_
            exact ih55 (w + 1) (x - 1) _ _ _ (by rw [ct_yesf h87]; omega) (by omega) hP hS (lv_sub hl [0, 1, 2, 3, 4, 5] rfl)
        · refine lv_aload_n hx hb dX1_neighbour_60 rfl (lv_at hl 2 rfl) ?_
          refine va_get (D := D) (ci := 1) (v := .ref b0) (C := RX1) (T := TX1) (N := 10) hx hb hts hin hown hK hP 0 rfl rfl 2 (by decide) hf7 (fun _ h9 => h9) rfl dX1_neighbour_61 ?_
          refine lv_iload_n hx hb dX1_neighbour_64 rfl (lv_at hl 3 rfl) ?_
          refine z_iald hx hb hK hP 1 0 rfl rfl (by omega) (by decide) dX1_neighbour_65 ?_
          refine lv_iload hx hb dX1_neighbour_66 (lv_at hl 0 rfl) ?_
          refine zrS0 (As := [.int (f u), .int (nI w)]) (rest := []) ⟨hx, hb, hml, hown, hts⟩ (c_X1_has l (f u) w (by omega)) (va_cwS 2 hts gX1_neighbour_X1_has rfl rfl rfl (by decide +kernel) ⟨Nat.le_of_ble_eq_true rfl, Nat.le_of_ble_eq_true rfl⟩) rfl hl rfl (Nat.le_of_ble_eq_true rfl) dX1_neighbour_68 ⟨Nat.le_of_ble_eq_true rfl, Nat.le_of_ble_eq_true rfl⟩ hS (fun r68 H locs hw68 hk9 hS => ?_)
          obtain rfl : r68 = (zb (bt (f u) w)) := hw68
          have hP := zkeep hP hk9
          refine z_ifb_ne (tgt := 104) hx hb dX1_neighbour_71 (by decide) (fun h71 => ?_) (fun h71 => ?_)
          · refine lv_iload hx hb dX1_neighbour_104 (lv_at hl 0 rfl) ?_
            exact W.iret (v := (nI w)) hx hb hr (fun t9 ht9 hW9 => ⟨⟨(nI w), (), rfl, ⟨w, rfl, h71, by omega⟩, by show va_P D vwCl (wM h b0 b1 b2 b3 b4 cy (nI 0) N ch ds de f cs be lf od) t9.heap; rw [ht9]; exact hP⟩, hS.F ht9⟩) hS.2.2 dX1_neighbour_106
          · refine lv_iload hx hb dX1_neighbour_74 (lv_at hl 1 rfl) ?_
            refine lv_aload_n hx hb dX1_neighbour_76 rfl (lv_at hl 2 rfl) ?_
            refine va_get (D := D) (ci := 1) (v := .ref b0) (C := RX1) (T := TX1) (N := 10) hx hb hts hin hown hK hP 0 rfl rfl 2 (by decide) hf7 (fun _ h9 => h9) rfl dX1_neighbour_77 ?_
            refine lv_iload_n hx hb dX1_neighbour_80 rfl (lv_at hl 3 rfl) ?_
            refine z_iald hx hb hK hP 1 0 rfl rfl (by omega) (by decide) dX1_neighbour_81 ?_
            refine lv_iload hx hb dX1_neighbour_82 (lv_at hl 0 rfl) ?_
            refine zrS0 (As := [.int (f u), .int (nI w)]) (rest := [.int (nI x)]) ⟨hx, hb, hml, hown, hts⟩ (c_X1_has l (f u) w (by omega)) (va_cwS 2 hts gX1_neighbour_X1_has rfl rfl rfl (by decide +kernel) ⟨Nat.le_of_ble_eq_true rfl, Nat.le_of_ble_eq_true rfl⟩) rfl hl rfl (Nat.le_of_ble_eq_true rfl) dX1_neighbour_84 ⟨Nat.le_of_ble_eq_true rfl, Nat.le_of_ble_eq_true rfl⟩ hS (fun r84 H locs hw84 hk9 hS => ?_)
            obtain rfl : r84 = (zb (bt (f u) w)) := hw84
            have hP := zkeep hP hk9
            refine z_ifb_eq (tgt := 94) hx hb dX1_neighbour_87 (by decide) (fun h87 => ?_) (fun h87 => ?_)
            · refine lv_iconst (v := (nI 0)) hx hb dX1_neighbour_94 (by decide) ?_
              refine z_isub hx hb dX1_neighbour_95 (by omega) ?_
              refine lv_istore (lv' := [(5, .int (nI (x - 0))), (4, .int (nI w)), (0, .ref h), (1, .int (nI u)), (2, .int (nI q)), (3, .int (nI 1))]) hx hb dX1_neighbour_96 hl (by decide) rfl (fun ls hl => ?_)
              refine lv_iinc (v := (nI (w + 1))) (lv' := [(4, .int (nI (w + 1))), (5, .int (nI (x - 0))), (0, .ref h), (1, .int (nI u)), (2, .int (nI q)), (3, .int (nI 1))]) hx hb dX1_neighbour_98 hl (k := 1) rfl (nI_1 _) (by decide) rfl (fun ls hl => ?_)
              refine lv_goto (tgt := 55) hx hb dX1_neighbour_101 (by decide) ?_
              exact ih55 (w + 1) (x - 0) _ _ _ (by rw [ct_nof h87]; exact hw0) (by omega) hP hS (lv_sub hl [0, 1, 2, 3, 4, 5] rfl)
            · exact absurd h87 (by rw [h71]; exact Bool.false_ne_true)
    exact K55 (20 - 0 + 1) 0 q _ _ _ (by show q + 0 = q; omega) (Nat.lt_succ_self _) hP hS (lv_sub hl [1, 0, 3, 4, 5, 2] rfl)

set_option maxHeartbeats 4000000 in
set_option maxRecDepth 100000 in
theorem c_X1_neighbour_badn (l : Launch) (D : va_G) (cy : ClassId) (h b0 b1 b2 b3 b4 : Nat) (th : Int32) (N : Nat) (ch ds de : Int32) (f cs be lf od : Nat → Int32) (sz : Nat) (q1 q2 : Int32) (hq : isNb q1 N = false) : Met l yX1_neighbour wsX1_neighbour ({ frames := 1, cells := 0, slots := 0, locals := 22 } : Room) (va_Pc [.ref h, .int q1, .int q2] (zWr D (wM h b0 b1 b2 b3 b4 cy th N ch ds de f cs be lf od) [(cy, .int)] sz)) (va_Qi (fun (r : Int32) (z9 : Unit) => r = nI 0) (fun (z9 : Unit) t => va_P D vwCl (wM h b0 b1 b2 b3 b4 cy (nI 1) N ch ds de f cs be lf od) t.heap) (va_A (wM h b0 b1 b2 b3 b4 cy th N ch ds de f cs be lf od) sz)) 0 0 (va_A (wM h b0 b1 b2 b3 b4 cy th N ch ds de f cs be lf od) sz) := by
  refine Met.ofW (cc := cX1_neighbour) (maxL := 6) (ret := (some .int)) (by decide) rfl ?_
  intro p e s m args below meth c s₁ B hml hv
  obtain ⟨rfl, hsz, hP, hK, hD0⟩ := hv
  have hx := B.exec
  have hb := B.bytes
  have hr := B.returns
  have hts := atoms_spec (ws := wsX1_neighbour) B.pre
  have hown : s.vm.findClass RX1 = some m.cls := findClass_of_methodNamed B.named
  have hlocks := B.notSynchronized
  subst hsz
  have hD := hD0.self (sz := s.heap.size)
  generalize hAe : va_A (wM h b0 b1 b2 b3 b4 cy th N ch ds de f cs be lf od) s.heap.size = A at hD ⊢
  have hA : ∀ q : Nat, s.heap.size ≤ q → A q := fun q h => by rw [← hAe]; exact Or.inr h
  have hS : va_S A s.heap s.heap [] := va_S.rf
  have hin : ∀ w ∈ wsX10, w ∈ wsX1_neighbour := by decide +kernel
  have hf7 := hts (.fieldLink RX1 7 "CorebarnModel" "near" "[I") (by decide +kernel)
  have hl := lv_entry ([.ref h, .int q1, .int q2]) (n := 6) (Nat.le_of_ble_eq_true rfl)
  rw [lg_entry_eq]
  generalize (lg_sl ([.ref h, .int q1, .int q2]) ++ List.replicate (6 - (lg_sl ([.ref h, .int q1, .int q2])).length) Slot.unset).toArray = ls at hl ⊢
  have hl : lv_has ls 6 [(0, .ref h), (1, .int q1), (2, .int q2)] := hl
  refine lv_aload_n hx hb dX1_neighbour_0 rfl (lv_at hl 0 rfl) ?_
  refine lv_iload_n hx hb dX1_neighbour_1 rfl (lv_at hl 1 rfl) ?_
  refine zrV (As := [.int q1]) (rest := []) 0 ⟨hx, hb, hml, hown, hts⟩ (c_X1_isNode l D cy h b0 b1 b2 b3 b4 th N ch ds de f cs be lf od q1) (cwV 1 hts gX1_neighbour_X1_isNode rfl rfl rfl (by decide +kernel) ⟨Nat.le_of_ble_eq_true rfl, Nat.le_of_ble_eq_true rfl⟩) hK hP rfl rfl rfl hl rfl (Nat.le_of_ble_eq_true rfl) dX1_neighbour_2 ⟨Nat.le_of_ble_eq_true rfl, Nat.le_of_ble_eq_true rfl⟩ hS (fun r2 H locs hw2 hk9 hS => ?_)
  obtain rfl : r2 = (zb (isNb q1 N)) := hw2
  have hP := zkeep hP hk9
  rw [hq]
  refine z_ifb_false (tgt := 29) hx hb dX1_neighbour_5 (by decide) ?_
  refine lv_iconst (v := (nI 0)) hx hb dX1_neighbour_29 (by decide) ?_
  refine lv_istore_n (lv' := [(3, .int (nI 0)), (0, .ref h), (1, .int q1), (2, .int q2)]) hx hb dX1_neighbour_30 rfl hl (by decide) rfl (fun ls hl => ?_)
  refine lv_aload_n hx hb dX1_neighbour_31 rfl (lv_at hl 1 rfl) ?_
  refine lv_iload_n hx hb dX1_neighbour_32 rfl (lv_at hl 0 rfl) ?_
  refine lv_if_eq (tgt := 40) hx hb dX1_neighbour_33 (by decide) (fun _ => ?_) (fun q => absurd (by decide) q)
  refine lv_iconst (v := (nI 1)) hx hb dX1_neighbour_40 (by decide) ?_
  refine zwVi (As := [.int (nI 1)]) (rest := []) 0 [0, 1, 2, 3, 4, 5] rfl ⟨hx, hb, hml, hown, hts⟩ (c_X1_goesWell l D cy h b0 b1 b2 b3 b4 th N ch ds de f cs be lf od _ 1 (by omega)) (cwV 1 hts gX1_neighbour_X1_goesWell rfl rfl rfl (by decide +kernel) ⟨Nat.le_of_ble_eq_true rfl, Nat.le_of_ble_eq_true rfl⟩) hK hP hD hA rfl rfl rfl hl rfl (Nat.le_of_ble_eq_true rfl) dX1_neighbour_41 ⟨Nat.le_of_ble_eq_true rfl, Nat.le_of_ble_eq_true rfl⟩ hS (fun r41 u41 H locs hw41 hP hS => ?_)
  have hP : va_P D vwCl (wM h b0 b1 b2 b3 b4 cy (nI 1) N ch ds de f cs be lf od) H := hP
  have hD : va_D A (wM h b0 b1 b2 b3 b4 cy (nI 1) N ch ds de f cs be lf od) := zD hD rfl
  obtain rfl : r41 = (zb false) := hw41
  refine z_ifb_false_ne (tgt := 49) hx hb dX1_neighbour_44 (by decide) ?_
  refine lv_iconst (v := (nI 0)) hx hb dX1_neighbour_47 (by decide) ?_
  exact W.iret (v := (nI 0)) hx hb hr (fun t9 ht9 hW9 => ⟨⟨(nI 0), (), rfl, rfl, by show va_P D vwCl (wM h b0 b1 b2 b3 b4 cy (nI 1) N ch ds de f cs be lf od) t9.heap; rw [ht9]; exact hP⟩, hS.F ht9⟩) hS.2.2 dX1_neighbour_48

set_option maxHeartbeats 4000000 in
set_option maxRecDepth 100000 in
theorem c_X1_neighbour_badi (l : Launch) (D : va_G) (cy : ClassId) (h b0 b1 b2 b3 b4 : Nat) (th : Int32) (N : Nat) (ch ds de : Int32) (f cs be lf od : Nat → Int32) (sz : Nat) (u : Nat) (q : Int32) (hN : N ≤ 20) (hg : gd f N) (hu : u < N) (hq : q < 0 ∨ nI (zpop (f u)) ≤ q) : Met l yX1_neighbour wsX1_neighbour ({ frames := 1, cells := 0, slots := 0, locals := 22 } : Room) (va_Pc [.ref h, .int (nI u), .int q] (zWr D (wM h b0 b1 b2 b3 b4 cy th N ch ds de f cs be lf od) [(cy, .int)] sz)) (va_Qi (fun (r : Int32) (z9 : Unit) => r = nI 0) (fun (z9 : Unit) t => va_P D vwCl (wM h b0 b1 b2 b3 b4 cy (nI 1) N ch ds de f cs be lf od) t.heap) (va_A (wM h b0 b1 b2 b3 b4 cy th N ch ds de f cs be lf od) sz)) 0 0 (va_A (wM h b0 b1 b2 b3 b4 cy th N ch ds de f cs be lf od) sz) := by
  refine Met.ofW (cc := cX1_neighbour) (maxL := 6) (ret := (some .int)) (by decide) rfl ?_
  intro p e s m args below meth c s₁ B hml hv
  obtain ⟨rfl, hsz, hP, hK, hD0⟩ := hv
  have hx := B.exec
  have hb := B.bytes
  have hr := B.returns
  have hts := atoms_spec (ws := wsX1_neighbour) B.pre
  have hown : s.vm.findClass RX1 = some m.cls := findClass_of_methodNamed B.named
  have hlocks := B.notSynchronized
  subst hsz
  have hD := hD0.self (sz := s.heap.size)
  generalize hAe : va_A (wM h b0 b1 b2 b3 b4 cy th N ch ds de f cs be lf od) s.heap.size = A at hD ⊢
  have hA : ∀ q : Nat, s.heap.size ≤ q → A q := fun q h => by rw [← hAe]; exact Or.inr h
  have hS : va_S A s.heap s.heap [] := va_S.rf
  have hin : ∀ w ∈ wsX10, w ∈ wsX1_neighbour := by decide +kernel
  have hf7 := hts (.fieldLink RX1 7 "CorebarnModel" "near" "[I") (by decide +kernel)
  have hl := lv_entry ([.ref h, .int (nI u), .int q]) (n := 6) (Nat.le_of_ble_eq_true rfl)
  rw [lg_entry_eq]
  generalize (lg_sl ([.ref h, .int (nI u), .int q]) ++ List.replicate (6 - (lg_sl ([.ref h, .int (nI u), .int q])).length) Slot.unset).toArray = ls at hl ⊢
  have hl : lv_has ls 6 [(0, .ref h), (1, .int (nI u)), (2, .int q)] := hl
  refine lv_aload_n hx hb dX1_neighbour_0 rfl (lv_at hl 0 rfl) ?_
  refine lv_iload_n hx hb dX1_neighbour_1 rfl (lv_at hl 1 rfl) ?_
  refine zrV (As := [.int (nI u)]) (rest := []) 0 ⟨hx, hb, hml, hown, hts⟩ (c_X1_isNode l D cy h b0 b1 b2 b3 b4 th N ch ds de f cs be lf od (nI u)) (cwV 1 hts gX1_neighbour_X1_isNode rfl rfl rfl (by decide +kernel) ⟨Nat.le_of_ble_eq_true rfl, Nat.le_of_ble_eq_true rfl⟩) hK hP rfl rfl rfl hl rfl (Nat.le_of_ble_eq_true rfl) dX1_neighbour_2 ⟨Nat.le_of_ble_eq_true rfl, Nat.le_of_ble_eq_true rfl⟩ hS (fun r2 H locs hw2 hk9 hS => ?_)
  obtain rfl : r2 = (zb (isNb (nI u) N)) := hw2
  have hP := zkeep hP hk9
  rw [isNb_y hu hN]
  refine z_ifb_true (tgt := 29) hx hb dX1_neighbour_5 (by decide) ?_
  refine lv_iload_n hx hb dX1_neighbour_8 rfl (lv_at hl 2 rfl) ?_
  refine lv_if_lt (tgt := 29) hx hb dX1_neighbour_9 (by decide) (fun h9 => ?_) (fun h9 => ?_)
  · refine lv_iconst (v := (nI 0)) hx hb dX1_neighbour_29 (by decide) ?_
    refine lv_istore_n (lv' := [(3, .int (nI 0)), (0, .ref h), (1, .int (nI u)), (2, .int q)]) hx hb dX1_neighbour_30 rfl hl (by decide) rfl (fun ls hl => ?_)
    refine lv_aload_n hx hb dX1_neighbour_31 rfl (lv_at hl 1 rfl) ?_
    refine lv_iload_n hx hb dX1_neighbour_32 rfl (lv_at hl 0 rfl) ?_
    refine lv_if_eq (tgt := 40) hx hb dX1_neighbour_33 (by decide) (fun _ => ?_) (fun q => absurd (by decide) q)
    refine lv_iconst (v := (nI 1)) hx hb dX1_neighbour_40 (by decide) ?_
    refine zwVi (As := [.int (nI 1)]) (rest := []) 0 [0, 1, 2, 3, 4, 5] rfl ⟨hx, hb, hml, hown, hts⟩ (c_X1_goesWell l D cy h b0 b1 b2 b3 b4 th N ch ds de f cs be lf od _ 1 (by omega)) (cwV 1 hts gX1_neighbour_X1_goesWell rfl rfl rfl (by decide +kernel) ⟨Nat.le_of_ble_eq_true rfl, Nat.le_of_ble_eq_true rfl⟩) hK hP hD hA rfl rfl rfl hl rfl (Nat.le_of_ble_eq_true rfl) dX1_neighbour_41 ⟨Nat.le_of_ble_eq_true rfl, Nat.le_of_ble_eq_true rfl⟩ hS (fun r41 u41 H locs hw41 hP hS => ?_)
    have hP : va_P D vwCl (wM h b0 b1 b2 b3 b4 cy (nI 1) N ch ds de f cs be lf od) H := hP
    have hD : va_D A (wM h b0 b1 b2 b3 b4 cy (nI 1) N ch ds de f cs be lf od) := zD hD rfl
    obtain rfl : r41 = (zb false) := hw41
    refine z_ifb_false_ne (tgt := 49) hx hb dX1_neighbour_44 (by decide) ?_
    refine lv_iconst (v := (nI 0)) hx hb dX1_neighbour_47 (by decide) ?_
    exact W.iret (v := (nI 0)) hx hb hr (fun t9 ht9 hW9 => ⟨⟨(nI 0), (), rfl, rfl, by show va_P D vwCl (wM h b0 b1 b2 b3 b4 cy (nI 1) N ch ds de f cs be lf od) t9.heap; rw [ht9]; exact hP⟩, hS.F ht9⟩) hS.2.2 dX1_neighbour_48
  · refine lv_iload_n hx hb dX1_neighbour_12 rfl (lv_at hl 2 rfl) ?_
    refine lv_aload_n hx hb dX1_neighbour_13 rfl (lv_at hl 0 rfl) ?_
    refine va_get (D := D) (ci := 1) (v := .ref b0) (C := RX1) (T := TX1) (N := 10) hx hb hts hin hown hK hP 0 rfl rfl 2 (by decide) hf7 (fun _ h9 => h9) rfl dX1_neighbour_14 ?_
    refine lv_iload_n hx hb dX1_neighbour_17 rfl (lv_at hl 1 rfl) ?_
    refine z_iald hx hb hK hP 1 0 rfl rfl (by omega) (by decide) dX1_neighbour_18 ?_
    refine zrS0 (As := [.int (f u)]) (rest := [.int q]) ⟨hx, hb, hml, hown, hts⟩ (c_X1_sizeOf l (f u) (zsub20 hN (gd_sub hg hu))) (va_cwS 1 hts gX1_neighbour_X1_sizeOf rfl rfl rfl (by decide +kernel) ⟨Nat.le_of_ble_eq_true rfl, Nat.le_of_ble_eq_true rfl⟩) rfl hl rfl (Nat.le_of_ble_eq_true rfl) dX1_neighbour_19 ⟨Nat.le_of_ble_eq_true rfl, Nat.le_of_ble_eq_true rfl⟩ hS (fun r19 H locs hw19 hk9 hS => ?_)
    obtain rfl : r19 = (nI (zpop (f u))) := hw19
    have hP := zkeep hP hk9
    refine lv_icmp_ge (tgt := 29) hx hb dX1_neighbour_22 (by decide) (fun h22 => ?_) (fun h22 => ?_)
    · refine lv_iconst (v := (nI 0)) hx hb dX1_neighbour_29 (by decide) ?_
      refine lv_istore_n (lv' := [(3, .int (nI 0)), (0, .ref h), (1, .int (nI u)), (2, .int q)]) hx hb dX1_neighbour_30 rfl hl (by decide) rfl (fun ls hl => ?_)
      refine lv_aload_n hx hb dX1_neighbour_31 rfl (lv_at hl 1 rfl) ?_
      refine lv_iload_n hx hb dX1_neighbour_32 rfl (lv_at hl 0 rfl) ?_
      refine lv_if_eq (tgt := 40) hx hb dX1_neighbour_33 (by decide) (fun _ => ?_) (fun q => absurd (by decide) q)
      refine lv_iconst (v := (nI 1)) hx hb dX1_neighbour_40 (by decide) ?_
      refine zwVi (As := [.int (nI 1)]) (rest := []) 0 [0, 1, 2, 3, 4, 5] rfl ⟨hx, hb, hml, hown, hts⟩ (c_X1_goesWell l D cy h b0 b1 b2 b3 b4 th N ch ds de f cs be lf od _ 1 (by omega)) (cwV 1 hts gX1_neighbour_X1_goesWell rfl rfl rfl (by decide +kernel) ⟨Nat.le_of_ble_eq_true rfl, Nat.le_of_ble_eq_true rfl⟩) hK hP hD hA rfl rfl rfl hl rfl (Nat.le_of_ble_eq_true rfl) dX1_neighbour_41 ⟨Nat.le_of_ble_eq_true rfl, Nat.le_of_ble_eq_true rfl⟩ hS (fun r41 u41 H locs hw41 hP hS => ?_)
      have hP : va_P D vwCl (wM h b0 b1 b2 b3 b4 cy (nI 1) N ch ds de f cs be lf od) H := hP
      have hD : va_D A (wM h b0 b1 b2 b3 b4 cy (nI 1) N ch ds de f cs be lf od) := zD hD rfl
      obtain rfl : r41 = (zb false) := hw41
      refine z_ifb_false_ne (tgt := 49) hx hb dX1_neighbour_44 (by decide) ?_
      refine lv_iconst (v := (nI 0)) hx hb dX1_neighbour_47 (by decide) ?_
      exact W.iret (v := (nI 0)) hx hb hr (fun t9 ht9 hW9 => ⟨⟨(nI 0), (), rfl, rfl, by show va_P D vwCl (wM h b0 b1 b2 b3 b4 cy (nI 1) N ch ds de f cs be lf od) t9.heap; rw [ht9]; exact hP⟩, hS.F ht9⟩) hS.2.2 dX1_neighbour_48
    · exact absurd hq (fun z => z.elim h9 h22)

set_option maxHeartbeats 4000000 in
set_option maxRecDepth 100000 in
theorem c_X1_layTruss (l : Launch) (D : va_G) (cy : ClassId) (h b0 b1 b2 b3 b4 : Nat) (th : Int32) (N : Nat) (ch ds de : Int32) (f cs be lf od : Nat → Int32) (sz : Nat) (k : Int32) (hN : N ≤ 20) (hg : gd f N) : Met l yX1_layTruss wsX1_layTruss ({ frames := 1, cells := 0, slots := 0, locals := 22 } : Room) (va_Pc [.ref h, .int k] (zWr D (wM h b0 b1 b2 b3 b4 cy th N ch ds de f cs be lf od) [(cy, .int)] sz)) (va_Qv (fun (z9 : (Nat → Int32)) => isTr f N (k - nI 2).toInt z9) (fun (z9 : (Nat → Int32)) t => va_P D vwCl (wM h b0 b1 b2 b3 b4 cy th N ch ds de f cs be z9 od) t.heap) (va_A (wM h b0 b1 b2 b3 b4 cy th N ch ds de f cs be lf od) sz)) 0 0 (va_A (wM h b0 b1 b2 b3 b4 cy th N ch ds de f cs be lf od) sz) := by
  refine Met.ofW (cc := cX1_layTruss) (maxL := 5) (ret := none) (by decide) rfl ?_
  intro p e s m args below meth c s₁ B hml hv
  obtain ⟨rfl, hsz, hP, hK, hD0⟩ := hv
  have hx := B.exec
  have hb := B.bytes
  have hr := B.returns
  have hts := atoms_spec (ws := wsX1_layTruss) B.pre
  have hown : s.vm.findClass RX1 = some m.cls := findClass_of_methodNamed B.named
  have hlocks := B.notSynchronized
  subst hsz
  have hD := hD0.self (sz := s.heap.size)
  generalize hAe : va_A (wM h b0 b1 b2 b3 b4 cy th N ch ds de f cs be lf od) s.heap.size = A at hD ⊢
  have hA : ∀ q : Nat, s.heap.size ≤ q → A q := fun q h => by rw [← hAe]; exact Or.inr h
  have hS : va_S A s.heap s.heap [] := va_S.rf
  have hin : ∀ w ∈ wsX10, w ∈ wsX1_layTruss := by decide +kernel
  have hf7 := hts (.fieldLink RX1 7 "CorebarnModel" "near" "[I") (by decide +kernel)
  have hf19 := hts (.fieldLink RX1 19 "CorebarnModel" "left" "[I") (by decide +kernel)
  have hf29 := hts (.fieldLink RX1 29 "CorebarnModel" "many" "I") (by decide +kernel)
  have hl := lv_entry ([.ref h, .int k]) (n := 5) (Nat.le_of_ble_eq_true rfl)
  rw [lg_entry_eq]
  generalize (lg_sl ([.ref h, .int k]) ++ List.replicate (5 - (lg_sl ([.ref h, .int k])).length) Slot.unset).toArray = ls at hl ⊢
  have hl : lv_has ls 5 [(0, .ref h), (1, .int k)] := hl
  refine lv_iconst (v := (nI 0)) hx hb dX1_layTruss_0 (by decide) ?_
  refine lv_istore_n (lv' := [(2, .int (nI 0)), (0, .ref h), (1, .int k)]) hx hb dX1_layTruss_1 rfl hl (by decide) rfl (fun ls hl => ?_)
  have K2 : ∀ (fu2 : Nat) (i : Nat) (g1 : Nat → Int32) (H : Heap) (locs : List Loc) (ls : Array Slot), (i ≤ N) → (∀ w, w < i → g1 w = f w) → N - i < fu2 → va_P D vwCl (wM h b0 b1 b2 b3 b4 cy th N ch ds de f cs be g1 od) H → va_S A s.heap H locs → lv_has ls 5 [(2, .int (nI i)), (0, .ref h), (1, .int k)] → W p l e (headSpec wsX1_layTruss ({ frames := 1, cells := 0, slots := 0, locals := 22 } : Room)).room s m ([.ref h, .int k] : List Value).toArray below meth c H locs 0 0 (MQ below (va_Qv (fun (z9 : (Nat → Int32)) => isTr f N (k - nI 2).toInt z9) (fun (z9 : (Nat → Int32)) t => va_P D vwCl (wM h b0 b1 b2 b3 b4 cy th N ch ds de f cs be z9 od) t.heap) A) ([.ref h, .int k] : List Value).toArray s 0 0 A) (F0 m 2 ls []) := by
    intro fu2
    induction fu2 with
    | zero =>
      intro i g1 H locs ls hi hg1 hfu2
      exact absurd hfu2 (Nat.not_lt_zero _)
    | succ fu2 ih2 =>
      intro i g1 H locs ls hi hg1 hfu2 hP hS hl
      have hD : va_D A (wM h b0 b1 b2 b3 b4 cy th N ch ds de f cs be g1 od) := zD hD rfl
      refine lv_iload_n hx hb dX1_layTruss_2 rfl (lv_at hl 0 rfl) ?_
      refine lv_aload_n hx hb dX1_layTruss_3 rfl (lv_at hl 1 rfl) ?_
      refine va_get (D := D) (ci := 1) (v := .int (nI N)) (C := RX1) (T := TX1) (N := 10) hx hb hts hin hown hK hP 0 rfl rfl 1 (by decide) hf29 (fun _ h9 => h9) rfl dX1_layTruss_4 ?_
      refine z_icmp_ge (tgt := 28) hx hb dX1_layTruss_7 (by decide) (by omega) (by omega) (fun h7 => ?_) (fun h7 => ?_)
      · refine lv_iconst (v := (nI 1)) hx hb dX1_layTruss_28 (by decide) ?_
        refine lv_istore_n (lv' := [(2, .int (nI 1)), (0, .ref h), (1, .int k)]) hx hb dX1_layTruss_29 rfl hl (by decide) rfl (fun ls hl => ?_)
        have K30 : ∀ (fu30 : Nat) (d : Bool) (g2 : Nat → Int32) (t0 : Nat) (H : Heap) (locs : List Loc) (ls : Array Slot), (tO f N (k - nI 2).toInt g2 d t0) → 400 - t0 < fu30 → va_P D vwCl (wM h b0 b1 b2 b3 b4 cy th N ch ds de f cs be g2 od) H → va_S A s.heap H locs → lv_has ls 5 [(2, .int (zb d)), (0, .ref h), (1, .int k)] → W p l e (headSpec wsX1_layTruss ({ frames := 1, cells := 0, slots := 0, locals := 22 } : Room)).room s m ([.ref h, .int k] : List Value).toArray below meth c H locs 0 0 (MQ below (va_Qv (fun (z9 : (Nat → Int32)) => isTr f N (k - nI 2).toInt z9) (fun (z9 : (Nat → Int32)) t => va_P D vwCl (wM h b0 b1 b2 b3 b4 cy th N ch ds de f cs be z9 od) t.heap) A) ([.ref h, .int k] : List Value).toArray s 0 0 A) (F0 m 30 ls []) := by
          intro fu30
          induction fu30 with
          | zero =>
            intro d g2 t0 H locs ls hO hfu30
            exact absurd hfu30 (Nat.not_lt_zero _)
          | succ fu30 ih30 =>
            intro d g2 t0 H locs ls hO hfu30 hP hS hl
            have hD : va_D A (wM h b0 b1 b2 b3 b4 cy th N ch ds de f cs be g2 od) := zD hD rfl
            refine lv_iload_n hx hb dX1_layTruss_30 rfl (lv_at hl 0 rfl) ?_
            refine z_ifb_eq (tgt := 139) hx hb dX1_layTruss_31 (by decide) (fun h31 => ?_) (fun h31 => ?_)
            · exact W.vret hx hb hr (fun t9 ht9 hW9 => ⟨⟨g2, rfl, (tO_end (by rw [h31] at hO; exact hO)), by show va_P D vwCl (wM h b0 b1 b2 b3 b4 cy th N ch ds de f cs be g2 od) t9.heap; rw [ht9]; exact hP⟩, hS.F ht9⟩) hS.2.2 dX1_layTruss_139
            · refine lv_iconst (v := (nI 0)) hx hb dX1_layTruss_34 (by decide) ?_
              refine lv_istore_n (lv' := [(2, .int (nI 0)), (0, .ref h), (1, .int k)]) hx hb dX1_layTruss_35 rfl hl (by decide) rfl (fun ls hl => ?_)
              refine lv_iconst (v := (nI 0)) hx hb dX1_layTruss_36 (by decide) ?_
              refine lv_istore_n (lv' := [(3, .int (nI 0)), (2, .int (nI 0)), (0, .ref h), (1, .int k)]) hx hb dX1_layTruss_37 rfl hl (by decide) rfl (fun ls hl => ?_)
              have K38 : ∀ (fu38 : Nat) (i : Nat) (d2 : Bool) (g3 : Nat → Int32) (H : Heap) (locs : List Loc) (ls : Array Slot), (i ≤ N) → (tJ f N (k - nI 2).toInt g2 (fun a b => a < i ∧ b < a) g3 d2) → N - i < fu38 → va_P D vwCl (wM h b0 b1 b2 b3 b4 cy th N ch ds de f cs be g3 od) H → va_S A s.heap H locs → lv_has ls 5 [(3, .int (nI i)), (2, .int (zb d2)), (0, .ref h), (1, .int k)] → W p l e (headSpec wsX1_layTruss ({ frames := 1, cells := 0, slots := 0, locals := 22 } : Room)).room s m ([.ref h, .int k] : List Value).toArray below meth c H locs 0 0 (MQ below (va_Qv (fun (z9 : (Nat → Int32)) => isTr f N (k - nI 2).toInt z9) (fun (z9 : (Nat → Int32)) t => va_P D vwCl (wM h b0 b1 b2 b3 b4 cy th N ch ds de f cs be z9 od) t.heap) A) ([.ref h, .int k] : List Value).toArray s 0 0 A) (F0 m 38 ls []) := by
                intro fu38
                induction fu38 with
                | zero =>
                  intro i d2 g3 H locs ls hi hJ hfu38
                  exact absurd hfu38 (Nat.not_lt_zero _)
                | succ fu38 ih38 =>
                  intro i d2 g3 H locs ls hi hJ hfu38 hP hS hl
                  have hD : va_D A (wM h b0 b1 b2 b3 b4 cy th N ch ds de f cs be g3 od) := zD hD rfl
                  refine lv_iload_n hx hb dX1_layTruss_38 rfl (lv_at hl 0 rfl) ?_
                  refine lv_aload_n hx hb dX1_layTruss_39 rfl (lv_at hl 2 rfl) ?_
                  refine va_get (D := D) (ci := 1) (v := .int (nI N)) (C := RX1) (T := TX1) (N := 10) hx hb hts hin hown hK hP 0 rfl rfl 1 (by decide) hf29 (fun _ h9 => h9) rfl dX1_layTruss_40 ?_
                  refine z_icmp_ge (tgt := 136) hx hb dX1_layTruss_43 (by decide) (by omega) (by omega) (fun h43 => ?_) (fun h43 => ?_)
                  · refine lv_goto (tgt := 30) hx hb dX1_layTruss_136 (by decide) ?_
                    exact ih30 d2 g3 (t0 + 1) _ _ _ (tO_step hg (by rw [h31] at hO; exact hO) hJ (fun a b ha hb hab => by omega)) (by have := tO_t hg (by rw [h31] at hO; exact hO); omega) hP hS (lv_sub hl [1, 2, 3] rfl)
                  · refine lv_iconst (v := (nI 0)) hx hb dX1_layTruss_46 (by decide) ?_
                    refine lv_istore (lv' := [(4, .int (nI 0)), (3, .int (nI i)), (2, .int (zb d2)), (0, .ref h), (1, .int k)]) hx hb dX1_layTruss_47 hl (by decide) rfl (fun ls hl => ?_)
                    have K49 : ∀ (fu49 : Nat) (j : Nat) (d3 : Bool) (g4 : Nat → Int32) (H : Heap) (locs : List Loc) (ls : Array Slot), (j ≤ i) → (tJ f N (k - nI 2).toInt g2 (fun a b => (a < i ∧ b < a) ∨ (a = i ∧ b < j)) g4 d3) → N - j < fu49 → va_P D vwCl (wM h b0 b1 b2 b3 b4 cy th N ch ds de f cs be g4 od) H → va_S A s.heap H locs → lv_has ls 5 [(4, .int (nI j)), (2, .int (zb d3)), (0, .ref h), (1, .int k), (3, .int (nI i))] → W p l e (headSpec wsX1_layTruss ({ frames := 1, cells := 0, slots := 0, locals := 22 } : Room)).room s m ([.ref h, .int k] : List Value).toArray below meth c H locs 0 0 (MQ below (va_Qv (fun (z9 : (Nat → Int32)) => isTr f N (k - nI 2).toInt z9) (fun (z9 : (Nat → Int32)) t => va_P D vwCl (wM h b0 b1 b2 b3 b4 cy th N ch ds de f cs be z9 od) t.heap) A) ([.ref h, .int k] : List Value).toArray s 0 0 A) (F0 m 49 ls []) := by
                      intro fu49
                      induction fu49 with
                      | zero =>
                        intro j d3 g4 H locs ls hj hJ2 hfu49
                        exact absurd hfu49 (Nat.not_lt_zero _)
                      | succ fu49 ih49 =>
                        intro j d3 g4 H locs ls hj hJ2 hfu49 hP hS hl
                        have hD : va_D A (wM h b0 b1 b2 b3 b4 cy th N ch ds de f cs be g4 od) := zD hD rfl
                        refine lv_iload hx hb dX1_layTruss_49 (lv_at hl 0 rfl) ?_
                        refine lv_iload_n hx hb dX1_layTruss_51 rfl (lv_at hl 4 rfl) ?_
                        refine z_icmp_ge (tgt := 130) hx hb dX1_layTruss_52 (by decide) (by omega) (by omega) (fun h52 => ?_) (fun h52 => ?_)
                        · refine lv_iinc (v := (nI (i + 1))) (lv' := [(3, .int (nI (i + 1))), (4, .int (nI j)), (2, .int (zb d3)), (0, .ref h), (1, .int k)]) hx hb dX1_layTruss_130 hl (k := 4) rfl (nI_1 _) (by decide) rfl (fun ls hl => ?_)
                          refine lv_goto (tgt := 38) hx hb dX1_layTruss_133 (by decide) ?_
                          exact ih38 (i + 1) d3 g4 _ _ _ (by omega) (tJ_V hJ2 (fun a b ha hb hab q => by omega) hg) (by omega) hP hS (lv_sub hl [0, 2, 3, 4] rfl)
                        · refine lv_aload_n hx hb dX1_layTruss_55 rfl (lv_at hl 2 rfl) ?_
                          refine va_get (D := D) (ci := 1) (v := .ref b3) (C := RX1) (T := TX1) (N := 10) hx hb hts hin hown hK hP 0 rfl rfl 6 (by decide) hf19 (fun _ h9 => h9) rfl dX1_layTruss_56 ?_
                          refine lv_iload_n hx hb dX1_layTruss_59 rfl (lv_at hl 4 rfl) ?_
                          refine z_iald hx hb hK hP 4 0 rfl rfl (by omega) (by decide) dX1_layTruss_60 ?_
                          refine lv_iload hx hb dX1_layTruss_61 (lv_at hl 0 rfl) ?_
                          refine zrS0 (As := [.int (g4 i), .int (nI j)]) (rest := []) ⟨hx, hb, hml, hown, hts⟩ (c_X1_has l (g4 i) j (by omega)) (va_cwS 2 hts gX1_layTruss_X1_has rfl rfl rfl (by decide +kernel) ⟨Nat.le_of_ble_eq_true rfl, Nat.le_of_ble_eq_true rfl⟩) rfl hl rfl (Nat.le_of_ble_eq_true rfl) dX1_layTruss_63 ⟨Nat.le_of_ble_eq_true rfl, Nat.le_of_ble_eq_true rfl⟩ hS (fun r63 H locs hw63 hk9 hS => ?_)
                          obtain rfl : r63 = (zb (bt (g4 i) j)) := hw63
                          have hP := zkeep hP hk9
                          refine z_ifb_eq (tgt := 124) hx hb dX1_layTruss_66 (by decide) (fun h66 => ?_) (fun h66 => ?_)
                          · refine lv_iinc (v := (nI (j + 1))) (lv' := [(4, .int (nI (j + 1))), (2, .int (zb d3)), (0, .ref h), (1, .int k), (3, .int (nI i))]) hx hb dX1_layTruss_124 hl (k := 0) rfl (nI_1 _) (by decide) rfl (fun ls hl => ?_)
                            refine lv_goto (tgt := 49) hx hb dX1_layTruss_127 (by decide) ?_
                            exact ih49 (j + 1) d3 g4 _ _ _ (by omega) (tJ_V (tJ_skip hJ2 (by omega) h66) (fun a b ha hb hab q => by omega) hg) (by omega) hP hS (lv_sub hl [0, 1, 2, 3, 4] rfl)
                          · refine lv_aload_n hx hb dX1_layTruss_69 rfl (lv_at hl 2 rfl) ?_
                            refine va_get (D := D) (ci := 1) (v := .ref b3) (C := RX1) (T := TX1) (N := 10) hx hb hts hin hown hK hP 0 rfl rfl 6 (by decide) hf19 (fun _ h9 => h9) rfl dX1_layTruss_70 ?_
                            refine lv_iload_n hx hb dX1_layTruss_73 rfl (lv_at hl 4 rfl) ?_
                            refine z_iald hx hb hK hP 4 0 rfl rfl (by omega) (by decide) dX1_layTruss_74 ?_
                            refine lv_aload_n hx hb dX1_layTruss_75 rfl (lv_at hl 2 rfl) ?_
                            refine va_get (D := D) (ci := 1) (v := .ref b3) (C := RX1) (T := TX1) (N := 10) hx hb hts hin hown hK hP 0 rfl rfl 6 (by decide) hf19 (fun _ h9 => h9) rfl dX1_layTruss_76 ?_
                            refine lv_iload hx hb dX1_layTruss_79 (lv_at hl 0 rfl) ?_
                            refine z_iald hx hb hK hP 4 0 rfl rfl (by omega) (by decide) dX1_layTruss_81 ?_
                            refine lv_iand hx hb dX1_layTruss_82 ?_
                            refine zrS0 (As := [.int ((g4 i) &&& (g4 j))]) (rest := []) ⟨hx, hb, hml, hown, hts⟩ (c_X1_sizeOf l ((g4 i) &&& (g4 j)) (zsub20 hN (sub_le (le_andl _ _) (sub_le (hJ2.1.1 i (by omega)) (gd_sub hg (by omega)))))) (va_cwS 1 hts gX1_layTruss_X1_sizeOf rfl rfl rfl (by decide +kernel) ⟨Nat.le_of_ble_eq_true rfl, Nat.le_of_ble_eq_true rfl⟩) rfl hl rfl (Nat.le_of_ble_eq_true rfl) dX1_layTruss_83 ⟨Nat.le_of_ble_eq_true rfl, Nat.le_of_ble_eq_true rfl⟩ hS (fun r83 H locs hw83 hk9 hS => ?_)
                            obtain rfl : r83 = (nI (zpop ((g4 i) &&& (g4 j)))) := hw83
                            have hP := zkeep hP hk9
                            refine lv_iload_n hx hb dX1_layTruss_86 rfl (lv_at hl 3 rfl) ?_
                            refine lv_iconst (v := (nI 2)) hx hb dX1_layTruss_87 (by decide) ?_
                            refine lv_isub hx hb dX1_layTruss_88 ?_
                            refine lv_icmp_ge (tgt := 124) hx hb dX1_layTruss_89 (by decide) (fun h89 => ?_) (fun h89 => ?_)
                            · refine lv_iinc (v := (nI (j + 1))) (lv' := [(4, .int (nI (j + 1))), (2, .int (zb d3)), (0, .ref h), (1, .int k), (3, .int (nI i))]) hx hb dX1_layTruss_124 hl (k := 0) rfl (nI_1 _) (by decide) rfl (fun ls hl => ?_)
                              refine lv_goto (tgt := 49) hx hb dX1_layTruss_127 (by decide) ?_
                              exact ih49 (j + 1) d3 g4 _ _ _ (by omega) (tJ_V (tJ_stay hJ2 (by omega) (by omega) ((i_leN (pop_31 _)).mp h89)) (fun a b ha hb hab q => by omega) hg) (by omega) hP hS (lv_sub hl [0, 1, 2, 3, 4] rfl)
                            · refine lv_aload_n hx hb dX1_layTruss_92 rfl (lv_at hl 2 rfl) ?_
                              refine va_get (D := D) (ci := 1) (v := .ref b3) (C := RX1) (T := TX1) (N := 10) hx hb hts hin hown hK hP 0 rfl rfl 6 (by decide) hf19 (fun _ h9 => h9) rfl dX1_layTruss_93 ?_
                              refine lv_iload_n hx hb dX1_layTruss_96 rfl (lv_at hl 4 rfl) ?_
                              refine lv_dup2_11 hx hb dX1_layTruss_97 rfl rfl ?_
                              refine z_iald hx hb hK hP 4 0 rfl rfl (by omega) (by decide) dX1_layTruss_98 ?_
                              refine lv_iconst (v := (nI 1)) hx hb dX1_layTruss_99 (by decide) ?_
                              refine lv_iload hx hb dX1_layTruss_100 (lv_at hl 0 rfl) ?_
                              refine lv_ishl hx hb dX1_layTruss_102 ?_
                              refine lv_iconst (v := (-1)) hx hb dX1_layTruss_103 (by decide) ?_
                              refine lv_ixor hx hb dX1_layTruss_104 ?_
                              refine lv_iand hx hb dX1_layTruss_105 ?_
                              refine z_iast hx hb hK hP hD hS 4 0 rfl rfl (by omega) (by decide) dX1_layTruss_106 (fun H locs hP hS => ?_)
                              have hP : va_P D vwCl (wM h b0 b1 b2 b3 b4 cy th N ch ds de f cs be (upd g4 i ((g4 i) &&& (((nI 1) <<< ((nI j) &&& 31)) ^^^ (-1)))) od) H := hP
                              have hD : va_D A (wM h b0 b1 b2 b3 b4 cy th N ch ds de f cs be (upd g4 i ((g4 i) &&& (((nI 1) <<< ((nI j) &&& 31)) ^^^ (-1)))) od) := zD hD rfl
                              refine lv_aload_n hx hb dX1_layTruss_107 rfl (lv_at hl 2 rfl) ?_
                              refine va_get (D := D) (ci := 1) (v := .ref b3) (C := RX1) (T := TX1) (N := 10) hx hb hts hin hown hK hP 0 rfl rfl 6 (by decide) hf19 (fun _ h9 => h9) rfl dX1_layTruss_108 ?_
                              refine lv_iload hx hb dX1_layTruss_111 (lv_at hl 0 rfl) ?_
                              refine lv_dup2_11 hx hb dX1_layTruss_113 rfl rfl ?_
                              refine z_iald hx hb hK hP 4 0 rfl rfl (by omega) (by decide) dX1_layTruss_114 ?_
                              refine lv_iconst (v := (nI 1)) hx hb dX1_layTruss_115 (by decide) ?_
                              refine lv_iload_n hx hb dX1_layTruss_116 rfl (lv_at hl 4 rfl) ?_
                              refine lv_ishl hx hb dX1_layTruss_117 ?_
                              refine lv_iconst (v := (-1)) hx hb dX1_layTruss_118 (by decide) ?_
                              refine lv_ixor hx hb dX1_layTruss_119 ?_
                              refine lv_iand hx hb dX1_layTruss_120 ?_
                              refine z_iast hx hb hK hP hD hS 4 0 rfl rfl (by omega) (by decide) dX1_layTruss_121 (fun H locs hP hS => ?_)
                              have hP : va_P D vwCl (wM h b0 b1 b2 b3 b4 cy th N ch ds de f cs be (upd (upd g4 i ((g4 i) &&& (((nI 1) <<< ((nI j) &&& 31)) ^^^ (-1)))) j (((upd g4 i ((g4 i) &&& (((nI 1) <<< ((nI j) &&& 31)) ^^^ (-1)))) j) &&& (((nI 1) <<< ((nI i) &&& 31)) ^^^ (-1)))) od) H := hP
                              have hD : va_D A (wM h b0 b1 b2 b3 b4 cy th N ch ds de f cs be (upd (upd g4 i ((g4 i) &&& (((nI 1) <<< ((nI j) &&& 31)) ^^^ (-1)))) j (((upd g4 i ((g4 i) &&& (((nI 1) <<< ((nI j) &&& 31)) ^^^ (-1)))) j) &&& (((nI 1) <<< ((nI i) &&& 31)) ^^^ (-1)))) od) := zD hD rfl
                              refine lv_iconst (v := (nI 1)) hx hb dX1_layTruss_122 (by decide) ?_
                              refine lv_istore_n (lv' := [(2, .int (nI 1)), (4, .int (nI j)), (0, .ref h), (1, .int k), (3, .int (nI i))]) hx hb dX1_layTruss_123 rfl hl (by decide) rfl (fun ls hl => ?_)
                              refine lv_iinc (v := (nI (j + 1))) (lv' := [(4, .int (nI (j + 1))), (2, .int (nI 1)), (0, .ref h), (1, .int k), (3, .int (nI i))]) hx hb dX1_layTruss_124 hl (k := 1) rfl (nI_1 _) (by decide) rfl (fun ls hl => ?_)
                              refine lv_goto (tgt := 49) hx hb dX1_layTruss_127 (by decide) ?_
                              exact ih49 (j + 1) true (upd (upd g4 i ((g4 i) &&& (((nI 1) <<< ((nI j) &&& 31)) ^^^ (-1)))) j (((upd g4 i ((g4 i) &&& (((nI 1) <<< ((nI j) &&& 31)) ^^^ (-1)))) j) &&& (((nI 1) <<< ((nI i) &&& 31)) ^^^ (-1)))) _ _ _ (by omega) (tJ_drop hg hJ2 (by omega) h66 (fun q => h89 ((i_leN (pop_31 _)).mpr q))) (by omega) hP hS (lv_sub hl [0, 1, 2, 3, 4] rfl)
                    exact K49 (N - 0 + 1) 0 d2 g3 _ _ _ (by omega) (tJ_V hJ (fun a b ha hb hab q => by omega) hg) (Nat.lt_succ_self _) hP hS (lv_sub hl [0, 2, 3, 4, 1] rfl)
              exact K38 (N - 0 + 1) 0 false g2 _ _ _ (by omega) (tJ_0 hO (fun a b q => by omega)) (Nat.lt_succ_self _) hP hS (lv_sub hl [0, 1, 2, 3] rfl)
        exact K30 (400 - 0 + 1) true g1 0 _ _ _ (tO_0 _ hg (fun w hw => hg1 w (by omega))) (Nat.lt_succ_self _) hP hS (lv_sub hl [0, 1, 2] rfl)
      · refine lv_aload_n hx hb dX1_layTruss_10 rfl (lv_at hl 1 rfl) ?_
        refine va_get (D := D) (ci := 1) (v := .ref b3) (C := RX1) (T := TX1) (N := 10) hx hb hts hin hown hK hP 0 rfl rfl 6 (by decide) hf19 (fun _ h9 => h9) rfl dX1_layTruss_11 ?_
        refine lv_iload_n hx hb dX1_layTruss_14 rfl (lv_at hl 0 rfl) ?_
        refine lv_aload_n hx hb dX1_layTruss_15 rfl (lv_at hl 1 rfl) ?_
        refine va_get (D := D) (ci := 1) (v := .ref b0) (C := RX1) (T := TX1) (N := 10) hx hb hts hin hown hK hP 0 rfl rfl 2 (by decide) hf7 (fun _ h9 => h9) rfl dX1_layTruss_16 ?_
        refine lv_iload_n hx hb dX1_layTruss_19 rfl (lv_at hl 0 rfl) ?_
        refine z_iald hx hb hK hP 1 0 rfl rfl (by omega) (by decide) dX1_layTruss_20 ?_
        refine z_iast hx hb hK hP hD hS 4 0 rfl rfl (by omega) (by decide) dX1_layTruss_21 (fun H locs hP hS => ?_)
        have hP : va_P D vwCl (wM h b0 b1 b2 b3 b4 cy th N ch ds de f cs be (upd g1 i (f i)) od) H := hP
        have hD : va_D A (wM h b0 b1 b2 b3 b4 cy th N ch ds de f cs be (upd g1 i (f i)) od) := zD hD rfl
        refine lv_iinc (v := (nI (i + 1))) (lv' := [(2, .int (nI (i + 1))), (0, .ref h), (1, .int k)]) hx hb dX1_layTruss_22 hl (k := 0) rfl (nI_1 _) (by decide) rfl (fun ls hl => ?_)
        refine lv_goto (tgt := 2) hx hb dX1_layTruss_25 (by decide) ?_
        exact ih2 (i + 1) (upd g1 i (f i)) _ _ _ (by omega) (fun w hw => by by_cases e : w = i; (rw [e, pk_us]); (rw [pk_un e]; exact hg1 w (by omega))) (by omega) hP hS (lv_sub hl [0, 1, 2] rfl)
  exact K2 (N - 0 + 1) 0 lf _ _ _ (by omega) (fun w hw => absurd hw (Nat.not_lt_zero w)) (Nat.lt_succ_self _) hP hS (lv_sub hl [0, 1, 2] rfl)

set_option maxHeartbeats 4000000 in
set_option maxRecDepth 100000 in
theorem c_X1_trussSize_ok (l : Launch) (D : va_G) (cy : ClassId) (h b0 b1 b2 b3 b4 : Nat) (th : Int32) (N : Nat) (ch ds de : Int32) (f cs be lf od : Nat → Int32) (sz : Nat) (k : Int32) (hN : N ≤ 20) (hg : gd f N) (hk : ¬ k < nI 2) : Met l yX1_trussSize wsX1_trussSize ({ frames := 2, cells := 0, slots := 0, locals := 46 } : Room) (va_Pc [.ref h, .int k] (zWr D (wM h b0 b1 b2 b3 b4 cy th N ch ds de f cs be lf od) [(cy, .int)] sz)) (va_Qi (fun (r : Int32) (z9 : (Nat → Int32)) => ∃ g, isTr f N (k - nI 2).toInt g ∧ r = nI (tE g N / 2)) (fun (z9 : (Nat → Int32)) t => va_P D vwCl (wM h b0 b1 b2 b3 b4 cy (nI 0) N ch ds de f cs be z9 od) t.heap) (va_A (wM h b0 b1 b2 b3 b4 cy th N ch ds de f cs be lf od) sz)) 0 0 (va_A (wM h b0 b1 b2 b3 b4 cy th N ch ds de f cs be lf od) sz) := by
  refine Met.ofW (cc := cX1_trussSize) (maxL := 4) (ret := (some .int)) (by decide) rfl ?_
  intro p e s m args below meth c s₁ B hml hv
  obtain ⟨rfl, hsz, hP, hK, hD0⟩ := hv
  have hx := B.exec
  have hb := B.bytes
  have hr := B.returns
  have hts := atoms_spec (ws := wsX1_trussSize) B.pre
  have hown : s.vm.findClass RX1 = some m.cls := findClass_of_methodNamed B.named
  have hlocks := B.notSynchronized
  subst hsz
  have hD := hD0.self (sz := s.heap.size)
  generalize hAe : va_A (wM h b0 b1 b2 b3 b4 cy th N ch ds de f cs be lf od) s.heap.size = A at hD ⊢
  have hA : ∀ q : Nat, s.heap.size ≤ q → A q := fun q h => by rw [← hAe]; exact Or.inr h
  have hS : va_S A s.heap s.heap [] := va_S.rf
  have hin : ∀ w ∈ wsX10, w ∈ wsX1_trussSize := by decide +kernel
  have hf19 := hts (.fieldLink RX1 19 "CorebarnModel" "left" "[I") (by decide +kernel)
  have hf29 := hts (.fieldLink RX1 29 "CorebarnModel" "many" "I") (by decide +kernel)
  have hl := lv_entry ([.ref h, .int k]) (n := 4) (Nat.le_of_ble_eq_true rfl)
  rw [lg_entry_eq]
  generalize (lg_sl ([.ref h, .int k]) ++ List.replicate (4 - (lg_sl ([.ref h, .int k])).length) Slot.unset).toArray = ls at hl ⊢
  have hl : lv_has ls 4 [(0, .ref h), (1, .int k)] := hl
  refine lv_aload_n hx hb dX1_trussSize_0 rfl (lv_at hl 0 rfl) ?_
  refine lv_iload_n hx hb dX1_trussSize_1 rfl (lv_at hl 1 rfl) ?_
  refine lv_iconst (v := (nI 2)) hx hb dX1_trussSize_2 (by decide) ?_
  refine lv_icmp_ge (tgt := 10) hx hb dX1_trussSize_3 (by decide) (fun h3 => ?_) (fun h3 => ?_)
  · refine lv_iconst (v := (nI 0)) hx hb dX1_trussSize_10 (by decide) ?_
    refine zwVi (As := [.int (nI 0)]) (rest := []) 0 [0, 1, 2, 3, 4, 5] rfl ⟨hx, hb, hml, hown, hts⟩ (c_X1_goesWell l D cy h b0 b1 b2 b3 b4 th N ch ds de f cs be lf od _ 0 (by omega)) (cwV 1 hts gX1_trussSize_X1_goesWell rfl rfl rfl (by decide +kernel) ⟨Nat.le_of_ble_eq_true rfl, Nat.le_of_ble_eq_true rfl⟩) hK hP hD hA rfl rfl rfl hl rfl (Nat.le_of_ble_eq_true rfl) dX1_trussSize_11 ⟨Nat.le_of_ble_eq_true rfl, Nat.le_of_ble_eq_true rfl⟩ hS (fun r11 u11 H locs hw11 hP hS => ?_)
    have hP : va_P D vwCl (wM h b0 b1 b2 b3 b4 cy (nI 0) N ch ds de f cs be lf od) H := hP
    have hD : va_D A (wM h b0 b1 b2 b3 b4 cy (nI 0) N ch ds de f cs be lf od) := zD hD rfl
    obtain rfl : r11 = (zb true) := hw11
    refine z_ifb_true_ne (tgt := 19) hx hb dX1_trussSize_14 (by decide) ?_
    refine lv_aload_n hx hb dX1_trussSize_19 rfl (lv_at hl 0 rfl) ?_
    refine lv_iload_n hx hb dX1_trussSize_20 rfl (lv_at hl 1 rfl) ?_
    refine zwVv (As := [.int k]) (rest := []) 0 [0, 1, 2, 3, 4, 5] rfl ⟨hx, hb, hml, hown, hts⟩ (c_X1_layTruss l D cy h b0 b1 b2 b3 b4 (nI 0) N ch ds de f cs be lf od _ k hN hg) (cwV 1 hts gX1_trussSize_X1_layTruss rfl rfl rfl (by decide +kernel) ⟨Nat.le_of_ble_eq_true rfl, Nat.le_of_ble_eq_true rfl⟩) hK hP hD hA rfl rfl rfl hl rfl (Nat.le_of_ble_eq_true rfl) dX1_trussSize_21 ⟨Nat.le_of_ble_eq_true rfl, Nat.le_of_ble_eq_true rfl⟩ hS (fun u21 H locs hw21 hP hS => ?_)
    obtain ⟨lf_21, rfl⟩ : ∃ z, z = u21 := ⟨_, rfl⟩
    have hP : va_P D vwCl (wM h b0 b1 b2 b3 b4 cy (nI 0) N ch ds de f cs be lf_21 od) H := hP
    have hD : va_D A (wM h b0 b1 b2 b3 b4 cy (nI 0) N ch ds de f cs be lf_21 od) := zD hD rfl
    have hw21 : isTr f N (k - nI 2).toInt lf_21 := hw21
    refine lv_iconst (v := (nI 0)) hx hb dX1_trussSize_24 (by decide) ?_
    refine lv_istore_n (lv' := [(2, .int (nI 0)), (0, .ref h), (1, .int k)]) hx hb dX1_trussSize_25 rfl hl (by decide) rfl (fun ls hl => ?_)
    refine lv_iconst (v := (nI 0)) hx hb dX1_trussSize_26 (by decide) ?_
    refine lv_istore_n (lv' := [(3, .int (nI 0)), (2, .int (nI 0)), (0, .ref h), (1, .int k)]) hx hb dX1_trussSize_27 rfl hl (by decide) rfl (fun ls hl => ?_)
    have K28 : ∀ (fu28 : Nat) (i : Nat) (x : Nat) (H : Heap) (locs : List Loc) (ls : Array Slot), (i ≤ N) → (x = fb_sm (fun u => zpop (lf_21 u)) i) → N - i < fu28 → va_P D vwCl (wM h b0 b1 b2 b3 b4 cy (nI 0) N ch ds de f cs be lf_21 od) H → va_S A s.heap H locs → lv_has ls 4 [(3, .int (nI i)), (2, .int (nI x)), (0, .ref h), (1, .int k)] → W p l e (headSpec wsX1_trussSize ({ frames := 2, cells := 0, slots := 0, locals := 46 } : Room)).room s m ([.ref h, .int k] : List Value).toArray below meth c H locs 0 0 (MQ below (va_Qi (fun (r : Int32) (z9 : (Nat → Int32)) => ∃ g, isTr f N (k - nI 2).toInt g ∧ r = nI (tE g N / 2)) (fun (z9 : (Nat → Int32)) t => va_P D vwCl (wM h b0 b1 b2 b3 b4 cy (nI 0) N ch ds de f cs be z9 od) t.heap) A) ([.ref h, .int k] : List Value).toArray s 0 0 A) (F0 m 28 ls []) := by
      intro fu28
      induction fu28 with
      | zero =>
        intro i x H locs ls hi hxe hfu28
        exact absurd hfu28 (Nat.not_lt_zero _)
      | succ fu28 ih28 =>
        intro i x H locs ls hi hxe hfu28 hP hS hl
        have hD : va_D A (wM h b0 b1 b2 b3 b4 cy (nI 0) N ch ds de f cs be lf_21 od) := zD hD rfl
        have hxb : fb_sm (fun u => zpop (lf_21 u)) i ≤ i * 32 := fb_sm_bound fun k _ => pop_32 _
        refine lv_iload_n hx hb dX1_trussSize_28 rfl (lv_at hl 0 rfl) ?_
        refine lv_aload_n hx hb dX1_trussSize_29 rfl (lv_at hl 2 rfl) ?_
        refine va_get (D := D) (ci := 1) (v := .int (nI N)) (C := RX1) (T := TX1) (N := 10) hx hb hts hin hown hK hP 0 rfl rfl 1 (by decide) hf29 (fun _ h9 => h9) rfl dX1_trussSize_30 ?_
        refine z_icmp_ge (tgt := 54) hx hb dX1_trussSize_33 (by decide) (by omega) (by omega) (fun h33 => ?_) (fun h33 => ?_)
        · refine lv_iload_n hx hb dX1_trussSize_54 rfl (lv_at hl 1 rfl) ?_
          refine lv_iconst (v := (nI 2)) hx hb dX1_trussSize_55 (by decide) ?_
          refine z_idiv hx hb dX1_trussSize_56 (by omega) (by omega) (by omega) ?_
          exact W.iret (v := (nI (x / 2))) hx hb hr (fun t9 ht9 hW9 => ⟨⟨(nI (x / 2)), lf_21, rfl, ⟨lf_21, hw21, by rw [hxe, Nat.le_antisymm hi h33]; rfl⟩, by show va_P D vwCl (wM h b0 b1 b2 b3 b4 cy (nI 0) N ch ds de f cs be lf_21 od) t9.heap; rw [ht9]; exact hP⟩, hS.F ht9⟩) hS.2.2 dX1_trussSize_57
        · refine lv_iload_n hx hb dX1_trussSize_36 rfl (lv_at hl 1 rfl) ?_
          refine lv_aload_n hx hb dX1_trussSize_37 rfl (lv_at hl 2 rfl) ?_
          refine va_get (D := D) (ci := 1) (v := .ref b3) (C := RX1) (T := TX1) (N := 10) hx hb hts hin hown hK hP 0 rfl rfl 6 (by decide) hf19 (fun _ h9 => h9) rfl dX1_trussSize_38 ?_
          refine lv_iload_n hx hb dX1_trussSize_41 rfl (lv_at hl 0 rfl) ?_
          refine z_iald hx hb hK hP 4 0 rfl rfl (by omega) (by decide) dX1_trussSize_42 ?_
          refine zrS0 (As := [.int (lf_21 i)]) (rest := [.int (nI x)]) ⟨hx, hb, hml, hown, hts⟩ (c_X1_sizeOf l (lf_21 i) (zsub20 hN (sub_le (hw21.1.1 i (by omega)) (gd_sub hg (by omega))))) (va_cwS 1 hts gX1_trussSize_X1_sizeOf rfl rfl rfl (by decide +kernel) ⟨Nat.le_of_ble_eq_true rfl, Nat.le_of_ble_eq_true rfl⟩) rfl hl rfl (Nat.le_of_ble_eq_true rfl) dX1_trussSize_43 ⟨Nat.le_of_ble_eq_true rfl, Nat.le_of_ble_eq_true rfl⟩ hS (fun r43 H locs hw43 hk9 hS => ?_)
          obtain rfl : r43 = (nI (zpop (lf_21 i))) := hw43
          have hP := zkeep hP hk9
          refine z_iadd hx hb dX1_trussSize_46 ?_
          refine lv_istore_n (lv' := [(2, .int (nI (x + (zpop (lf_21 i))))), (3, .int (nI i)), (0, .ref h), (1, .int k)]) hx hb dX1_trussSize_47 rfl hl (by decide) rfl (fun ls hl => ?_)
          refine lv_iinc (v := (nI (i + 1))) (lv' := [(3, .int (nI (i + 1))), (2, .int (nI (x + (zpop (lf_21 i))))), (0, .ref h), (1, .int k)]) hx hb dX1_trussSize_48 hl (k := 1) rfl (nI_1 _) (by decide) rfl (fun ls hl => ?_)
          refine lv_goto (tgt := 28) hx hb dX1_trussSize_51 (by decide) ?_
          exact ih28 (i + 1) (x + (zpop (lf_21 i))) _ _ _ (by omega) (by rw [hxe, fb_sm_succ]) (by omega) hP hS (lv_sub hl [0, 1, 2, 3] rfl)
    exact K28 (N - 0 + 1) 0 0 _ _ _ (by omega) rfl (Nat.lt_succ_self _) hP hS (lv_sub hl [0, 1, 2, 3] rfl)
  · exact absurd (Int32.not_le.mp h3) hk

set_option maxHeartbeats 4000000 in
set_option maxRecDepth 100000 in
theorem c_X1_trussSize_bad (l : Launch) (D : va_G) (cy : ClassId) (h b0 b1 b2 b3 b4 : Nat) (th : Int32) (N : Nat) (ch ds de : Int32) (f cs be lf od : Nat → Int32) (sz : Nat) (k : Int32) (hk : k < nI 2) : Met l yX1_trussSize wsX1_trussSize ({ frames := 2, cells := 0, slots := 0, locals := 46 } : Room) (va_Pc [.ref h, .int k] (zWr D (wM h b0 b1 b2 b3 b4 cy th N ch ds de f cs be lf od) [(cy, .int)] sz)) (va_Qi (fun (r : Int32) (z9 : Unit) => r = nI 0) (fun (z9 : Unit) t => va_P D vwCl (wM h b0 b1 b2 b3 b4 cy (nI 1) N ch ds de f cs be lf od) t.heap) (va_A (wM h b0 b1 b2 b3 b4 cy th N ch ds de f cs be lf od) sz)) 0 0 (va_A (wM h b0 b1 b2 b3 b4 cy th N ch ds de f cs be lf od) sz) := by
  refine Met.ofW (cc := cX1_trussSize) (maxL := 4) (ret := (some .int)) (by decide) rfl ?_
  intro p e s m args below meth c s₁ B hml hv
  obtain ⟨rfl, hsz, hP, hK, hD0⟩ := hv
  have hx := B.exec
  have hb := B.bytes
  have hr := B.returns
  have hts := atoms_spec (ws := wsX1_trussSize) B.pre
  have hown : s.vm.findClass RX1 = some m.cls := findClass_of_methodNamed B.named
  have hlocks := B.notSynchronized
  subst hsz
  have hD := hD0.self (sz := s.heap.size)
  generalize hAe : va_A (wM h b0 b1 b2 b3 b4 cy th N ch ds de f cs be lf od) s.heap.size = A at hD ⊢
  have hA : ∀ q : Nat, s.heap.size ≤ q → A q := fun q h => by rw [← hAe]; exact Or.inr h
  have hS : va_S A s.heap s.heap [] := va_S.rf
  have hin : ∀ w ∈ wsX10, w ∈ wsX1_trussSize := by decide +kernel
  have hf19 := hts (.fieldLink RX1 19 "CorebarnModel" "left" "[I") (by decide +kernel)
  have hf29 := hts (.fieldLink RX1 29 "CorebarnModel" "many" "I") (by decide +kernel)
  have hl := lv_entry ([.ref h, .int k]) (n := 4) (Nat.le_of_ble_eq_true rfl)
  rw [lg_entry_eq]
  generalize (lg_sl ([.ref h, .int k]) ++ List.replicate (4 - (lg_sl ([.ref h, .int k])).length) Slot.unset).toArray = ls at hl ⊢
  have hl : lv_has ls 4 [(0, .ref h), (1, .int k)] := hl
  refine lv_aload_n hx hb dX1_trussSize_0 rfl (lv_at hl 0 rfl) ?_
  refine lv_iload_n hx hb dX1_trussSize_1 rfl (lv_at hl 1 rfl) ?_
  refine lv_iconst (v := (nI 2)) hx hb dX1_trussSize_2 (by decide) ?_
  refine lv_icmp_ge (tgt := 10) hx hb dX1_trussSize_3 (by decide) (fun h3 => ?_) (fun h3 => ?_)
  · exact absurd hk (Int32.not_lt.mpr h3)
  · refine lv_iconst (v := (nI 1)) hx hb dX1_trussSize_6 (by decide) ?_
    refine lv_goto (tgt := 11) hx hb dX1_trussSize_7 (by decide) ?_
    refine zwVi (As := [.int (nI 1)]) (rest := []) 0 [0, 1, 2, 3, 4, 5] rfl ⟨hx, hb, hml, hown, hts⟩ (c_X1_goesWell l D cy h b0 b1 b2 b3 b4 th N ch ds de f cs be lf od _ 1 (by omega)) (cwV 1 hts gX1_trussSize_X1_goesWell rfl rfl rfl (by decide +kernel) ⟨Nat.le_of_ble_eq_true rfl, Nat.le_of_ble_eq_true rfl⟩) hK hP hD hA rfl rfl rfl hl rfl (Nat.le_of_ble_eq_true rfl) dX1_trussSize_11 ⟨Nat.le_of_ble_eq_true rfl, Nat.le_of_ble_eq_true rfl⟩ hS (fun r11 u11 H locs hw11 hP hS => ?_)
    have hP : va_P D vwCl (wM h b0 b1 b2 b3 b4 cy (nI 1) N ch ds de f cs be lf od) H := hP
    have hD : va_D A (wM h b0 b1 b2 b3 b4 cy (nI 1) N ch ds de f cs be lf od) := zD hD rfl
    obtain rfl : r11 = (zb false) := hw11
    refine z_ifb_false_ne (tgt := 19) hx hb dX1_trussSize_14 (by decide) ?_
    refine lv_iconst (v := (nI 0)) hx hb dX1_trussSize_17 (by decide) ?_
    exact W.iret (v := (nI 0)) hx hb hr (fun t9 ht9 hW9 => ⟨⟨(nI 0), (), rfl, rfl, by show va_P D vwCl (wM h b0 b1 b2 b3 b4 cy (nI 1) N ch ds de f cs be lf od) t9.heap; rw [ht9]; exact hP⟩, hS.F ht9⟩) hS.2.2 dX1_trussSize_18

set_option maxHeartbeats 4000000 in
set_option maxRecDepth 100000 in
theorem c_X1_truss_ok (l : Launch) (D : va_G) (cy : ClassId) (h b0 b1 b2 b3 b4 : Nat) (th : Int32) (N : Nat) (ch ds de : Int32) (f cs be lf od : Nat → Int32) (sz : Nat) (u v : Nat) (hN : N ≤ 20) (hg : gd f N) (hu : u < N) (hv : v < N) (he : bt (f u) v = true) : Met l yX1_truss wsX1_truss ({ frames := 2, cells := 0, slots := 0, locals := 46 } : Room) (va_Pc [.ref h, .int (nI u), .int (nI v)] (zWr D (wM h b0 b1 b2 b3 b4 cy th N ch ds de f cs be lf od) [(cy, .int)] sz)) (va_Qi (fun (r : Int32) (z9 : (Nat → Int32)) => ∃ k, r = nI k ∧ tnum f N u v k) (fun (z9 : (Nat → Int32)) t => va_P D vwCl (wM h b0 b1 b2 b3 b4 cy (nI 0) N ch ds de f cs be z9 od) t.heap) (va_A (wM h b0 b1 b2 b3 b4 cy th N ch ds de f cs be lf od) sz)) 0 0 (va_A (wM h b0 b1 b2 b3 b4 cy th N ch ds de f cs be lf od) sz) := by
  refine Met.ofW (cc := cX1_truss) (maxL := 4) (ret := (some .int)) (by decide) rfl ?_
  intro p e s m args below meth c s₁ B hml hv
  obtain ⟨rfl, hsz, hP, hK, hD0⟩ := hv
  have hx := B.exec
  have hb := B.bytes
  have hr := B.returns
  have hts := atoms_spec (ws := wsX1_truss) B.pre
  have hown : s.vm.findClass RX1 = some m.cls := findClass_of_methodNamed B.named
  have hlocks := B.notSynchronized
  subst hsz
  have hD := hD0.self (sz := s.heap.size)
  generalize hAe : va_A (wM h b0 b1 b2 b3 b4 cy th N ch ds de f cs be lf od) s.heap.size = A at hD ⊢
  have hA : ∀ q : Nat, s.heap.size ≤ q → A q := fun q h => by rw [← hAe]; exact Or.inr h
  have hS : va_S A s.heap s.heap [] := va_S.rf
  have hin : ∀ w ∈ wsX10, w ∈ wsX1_truss := by decide +kernel
  have hf19 := hts (.fieldLink RX1 19 "CorebarnModel" "left" "[I") (by decide +kernel)
  have hl := lv_entry ([.ref h, .int (nI u), .int (nI v)]) (n := 4) (Nat.le_of_ble_eq_true rfl)
  rw [lg_entry_eq]
  generalize (lg_sl ([.ref h, .int (nI u), .int (nI v)]) ++ List.replicate (4 - (lg_sl ([.ref h, .int (nI u), .int (nI v)])).length) Slot.unset).toArray = ls at hl ⊢
  have hl : lv_has ls 4 [(0, .ref h), (1, .int (nI u)), (2, .int (nI v))] := hl
  refine lv_aload_n hx hb dX1_truss_0 rfl (lv_at hl 0 rfl) ?_
  refine lv_aload_n hx hb dX1_truss_1 rfl (lv_at hl 0 rfl) ?_
  refine lv_iload_n hx hb dX1_truss_2 rfl (lv_at hl 1 rfl) ?_
  refine lv_iload_n hx hb dX1_truss_3 rfl (lv_at hl 2 rfl) ?_
  refine zrV (As := [.int (nI u), .int (nI v)]) (rest := [.ref h]) 0 ⟨hx, hb, hml, hown, hts⟩ (c_X1_faultOfEdge_has l D cy h b0 b1 b2 b3 b4 th N ch ds de f cs be lf od u v hN hu hv he) (cwV 2 hts gX1_truss_X1_faultOfEdge rfl rfl rfl (by decide +kernel) ⟨Nat.le_of_ble_eq_true rfl, Nat.le_of_ble_eq_true rfl⟩) hK hP rfl rfl rfl hl rfl (Nat.le_of_ble_eq_true rfl) dX1_truss_4 ⟨Nat.le_of_ble_eq_true rfl, Nat.le_of_ble_eq_true rfl⟩ hS (fun r4 H locs hw4 hk9 hS => ?_)
  obtain rfl : r4 = (nI 0) := hw4
  have hP := zkeep hP hk9
  refine zwVi (As := [.int (nI 0)]) (rest := []) 0 [0, 1, 2, 3, 4, 5] rfl ⟨hx, hb, hml, hown, hts⟩ (c_X1_goesWell l D cy h b0 b1 b2 b3 b4 th N ch ds de f cs be lf od _ 0 (by omega)) (cwV 1 hts gX1_truss_X1_goesWell rfl rfl rfl (by decide +kernel) ⟨Nat.le_of_ble_eq_true rfl, Nat.le_of_ble_eq_true rfl⟩) hK hP hD hA rfl rfl rfl hl rfl (Nat.le_of_ble_eq_true rfl) dX1_truss_7 ⟨Nat.le_of_ble_eq_true rfl, Nat.le_of_ble_eq_true rfl⟩ hS (fun r7 u7 H locs hw7 hP hS => ?_)
  have hP : va_P D vwCl (wM h b0 b1 b2 b3 b4 cy (nI 0) N ch ds de f cs be lf od) H := hP
  have hD : va_D A (wM h b0 b1 b2 b3 b4 cy (nI 0) N ch ds de f cs be lf od) := zD hD rfl
  obtain rfl : r7 = (zb true) := hw7
  refine z_ifb_true_ne (tgt := 15) hx hb dX1_truss_10 (by decide) ?_
  refine lv_iconst (v := (nI 2)) hx hb dX1_truss_15 (by decide) ?_
  refine lv_istore_n (lv' := [(3, .int (nI 2)), (0, .ref h), (1, .int (nI u)), (2, .int (nI v))]) hx hb dX1_truss_16 rfl hl (by decide) rfl (fun ls hl => ?_)
  refine lv_aload_n hx hb dX1_truss_17 rfl (lv_at hl 1 rfl) ?_
  refine lv_iload_n hx hb dX1_truss_18 rfl (lv_at hl 0 rfl) ?_
  refine lv_iconst (v := (nI 1)) hx hb dX1_truss_19 (by decide) ?_
  refine z_iadd hx hb dX1_truss_20 ?_
  refine zwVv (As := [.int (nI (2 + 1))]) (rest := []) 0 [0, 1, 2, 3, 4, 5] rfl ⟨hx, hb, hml, hown, hts⟩ (c_X1_layTruss l D cy h b0 b1 b2 b3 b4 (nI 0) N ch ds de f cs be lf od _ (nI (2 + 1)) hN hg) (cwV 1 hts gX1_truss_X1_layTruss rfl rfl rfl (by decide +kernel) ⟨Nat.le_of_ble_eq_true rfl, Nat.le_of_ble_eq_true rfl⟩) hK hP hD hA rfl rfl rfl hl rfl (Nat.le_of_ble_eq_true rfl) dX1_truss_21 ⟨Nat.le_of_ble_eq_true rfl, Nat.le_of_ble_eq_true rfl⟩ hS (fun u21 H locs hw21 hP hS => ?_)
  obtain ⟨lf_21, rfl⟩ : ∃ z, z = u21 := ⟨_, rfl⟩
  have hP : va_P D vwCl (wM h b0 b1 b2 b3 b4 cy (nI 0) N ch ds de f cs be lf_21 od) H := hP
  have hD : va_D A (wM h b0 b1 b2 b3 b4 cy (nI 0) N ch ds de f cs be lf_21 od) := zD hD rfl
  have hw21 : isTr f N ((nI (2 + 1)) - nI 2).toInt lf_21 := hw21
  have K24 : ∀ (fu24 : Nat) (k : Nat) (g1 : Nat → Int32) (H : Heap) (locs : List Loc) (ls : Array Slot), (2 ≤ k ∧ k ≤ 20) → (isTr f N ((k : Int) - 1) g1) → (∃ T, trS f N ((k : Int) - 2) T ∧ bt (T u) v = true) → 21 - k < fu24 → va_P D vwCl (wM h b0 b1 b2 b3 b4 cy (nI 0) N ch ds de f cs be g1 od) H → va_S A s.heap H locs → lv_has ls 4 [(3, .int (nI k)), (0, .ref h), (1, .int (nI u)), (2, .int (nI v))] → W p l e (headSpec wsX1_truss ({ frames := 2, cells := 0, slots := 0, locals := 46 } : Room)).room s m ([.ref h, .int (nI u), .int (nI v)] : List Value).toArray below meth c H locs 0 0 (MQ below (va_Qi (fun (r : Int32) (z9 : (Nat → Int32)) => ∃ k, r = nI k ∧ tnum f N u v k) (fun (z9 : (Nat → Int32)) t => va_P D vwCl (wM h b0 b1 b2 b3 b4 cy (nI 0) N ch ds de f cs be z9 od) t.heap) A) ([.ref h, .int (nI u), .int (nI v)] : List Value).toArray s 0 0 A) (F0 m 24 ls []) := by
    intro fu24
    induction fu24 with
    | zero =>
      intro k g1 H locs ls hk2 hT hW hfu24
      exact absurd hfu24 (Nat.not_lt_zero _)
    | succ fu24 ih24 =>
      intro k g1 H locs ls hk2 hT hW hfu24 hP hS hl
      have hD : va_D A (wM h b0 b1 b2 b3 b4 cy (nI 0) N ch ds de f cs be g1 od) := zD hD rfl
      refine lv_aload_n hx hb dX1_truss_24 rfl (lv_at hl 1 rfl) ?_
      refine va_get (D := D) (ci := 1) (v := .ref b3) (C := RX1) (T := TX1) (N := 10) hx hb hts hin hown hK hP 0 rfl rfl 6 (by decide) hf19 (fun _ h9 => h9) rfl dX1_truss_25 ?_
      refine lv_iload_n hx hb dX1_truss_28 rfl (lv_at hl 2 rfl) ?_
      refine z_iald hx hb hK hP 4 0 rfl rfl (by omega) (by decide) dX1_truss_29 ?_
      refine lv_iload_n hx hb dX1_truss_30 rfl (lv_at hl 3 rfl) ?_
      refine zrS0 (As := [.int (g1 u), .int (nI v)]) (rest := []) ⟨hx, hb, hml, hown, hts⟩ (c_X1_has l (g1 u) v (by omega)) (va_cwS 2 hts gX1_truss_X1_has rfl rfl rfl (by decide +kernel) ⟨Nat.le_of_ble_eq_true rfl, Nat.le_of_ble_eq_true rfl⟩) rfl hl rfl (Nat.le_of_ble_eq_true rfl) dX1_truss_31 ⟨Nat.le_of_ble_eq_true rfl, Nat.le_of_ble_eq_true rfl⟩ hS (fun r31 H locs hw31 hk9 hS => ?_)
      obtain rfl : r31 = (zb (bt (g1 u) v)) := hw31
      have hP := zkeep hP hk9
      refine z_ifb_eq (tgt := 50) hx hb dX1_truss_34 (by decide) (fun h34 => ?_) (fun h34 => ?_)
      · refine lv_iload_n hx hb dX1_truss_50 rfl (lv_at hl 0 rfl) ?_
        obtain ⟨T, hT1, hT2⟩ := hW
        exact W.iret (v := (nI k)) hx hb hr (fun t9 ht9 hW9 => ⟨⟨(nI k), g1, rfl, ⟨k, rfl, tnum_of hu hT h34 hT1 hT2⟩, by show va_P D vwCl (wM h b0 b1 b2 b3 b4 cy (nI 0) N ch ds de f cs be g1 od) t9.heap; rw [ht9]; exact hP⟩, hS.F ht9⟩) hS.2.2 dX1_truss_51
      · refine lv_iinc (v := (nI (k + 1))) (lv' := [(3, .int (nI (k + 1))), (0, .ref h), (1, .int (nI u)), (2, .int (nI v))]) hx hb dX1_truss_37 hl (k := 0) rfl (nI_1 _) (by decide) rfl (fun ls hl => ?_)
        refine lv_aload_n hx hb dX1_truss_40 rfl (lv_at hl 1 rfl) ?_
        refine lv_iload_n hx hb dX1_truss_41 rfl (lv_at hl 0 rfl) ?_
        refine lv_iconst (v := (nI 1)) hx hb dX1_truss_42 (by decide) ?_
        refine z_iadd hx hb dX1_truss_43 ?_
        refine zwVv (As := [.int (nI ((k + 1) + 1))]) (rest := []) 0 [0, 1, 2, 3, 4, 5] rfl ⟨hx, hb, hml, hown, hts⟩ (c_X1_layTruss l D cy h b0 b1 b2 b3 b4 (nI 0) N ch ds de f cs be g1 od _ (nI ((k + 1) + 1)) hN hg) (cwV 1 hts gX1_truss_X1_layTruss rfl rfl rfl (by decide +kernel) ⟨Nat.le_of_ble_eq_true rfl, Nat.le_of_ble_eq_true rfl⟩) hK hP hD hA rfl rfl rfl hl rfl (Nat.le_of_ble_eq_true rfl) dX1_truss_44 ⟨Nat.le_of_ble_eq_true rfl, Nat.le_of_ble_eq_true rfl⟩ hS (fun u44 H locs hw44 hP hS => ?_)
        obtain ⟨lf_44, rfl⟩ : ∃ z, z = u44 := ⟨_, rfl⟩
        have hP : va_P D vwCl (wM h b0 b1 b2 b3 b4 cy (nI 0) N ch ds de f cs be lf_44 od) H := hP
        have hD : va_D A (wM h b0 b1 b2 b3 b4 cy (nI 0) N ch ds de f cs be lf_44 od) := zD hD rfl
        have hw44 : isTr f N ((nI ((k + 1) + 1)) - nI 2).toInt lf_44 := hw44
        refine lv_goto (tgt := 24) hx hb dX1_truss_47 (by decide) ?_
        exact ih24 (k + 1) lf_44 _ _ _ (by have := trS_18 hg hT.1 hu h34; omega) (by rw [toK (k := k + 1) (by omega) (by omega)] at hw44; exact hw44) ⟨g1, by have z := hT.1; rw [show ((k + 1 : Nat) : Int) - 2 = (k : Int) - 1 by omega]; exact z, h34⟩ (by omega) hP hS (lv_sub hl [0, 1, 2, 3] rfl)
  exact K24 (21 - 2 + 1) 2 lf_21 _ _ _ (by omega) (by rw [toK (k := 2) (by decide) (by decide)] at hw21; exact hw21) ⟨f, trS_f hg, he⟩ (Nat.lt_succ_self _) hP hS (lv_sub hl [0, 1, 2, 3] rfl)

set_option maxHeartbeats 4000000 in
set_option maxRecDepth 100000 in
theorem c_X1_truss_none (l : Launch) (D : va_G) (cy : ClassId) (h b0 b1 b2 b3 b4 : Nat) (th : Int32) (N : Nat) (ch ds de : Int32) (f cs be lf od : Nat → Int32) (sz : Nat) (u v : Nat) (hN : N ≤ 20) (hu : u < N) (hv : v < N) (he : bt (f u) v = false) : Met l yX1_truss wsX1_truss ({ frames := 2, cells := 0, slots := 0, locals := 46 } : Room) (va_Pc [.ref h, .int (nI u), .int (nI v)] (zWr D (wM h b0 b1 b2 b3 b4 cy th N ch ds de f cs be lf od) [(cy, .int)] sz)) (va_Qi (fun (r : Int32) (z9 : Unit) => r = nI 0) (fun (z9 : Unit) t => va_P D vwCl (wM h b0 b1 b2 b3 b4 cy (nI 2) N ch ds de f cs be lf od) t.heap) (va_A (wM h b0 b1 b2 b3 b4 cy th N ch ds de f cs be lf od) sz)) 0 0 (va_A (wM h b0 b1 b2 b3 b4 cy th N ch ds de f cs be lf od) sz) := by
  refine Met.ofW (cc := cX1_truss) (maxL := 4) (ret := (some .int)) (by decide) rfl ?_
  intro p e s m args below meth c s₁ B hml hv
  obtain ⟨rfl, hsz, hP, hK, hD0⟩ := hv
  have hx := B.exec
  have hb := B.bytes
  have hr := B.returns
  have hts := atoms_spec (ws := wsX1_truss) B.pre
  have hown : s.vm.findClass RX1 = some m.cls := findClass_of_methodNamed B.named
  have hlocks := B.notSynchronized
  subst hsz
  have hD := hD0.self (sz := s.heap.size)
  generalize hAe : va_A (wM h b0 b1 b2 b3 b4 cy th N ch ds de f cs be lf od) s.heap.size = A at hD ⊢
  have hA : ∀ q : Nat, s.heap.size ≤ q → A q := fun q h => by rw [← hAe]; exact Or.inr h
  have hS : va_S A s.heap s.heap [] := va_S.rf
  have hin : ∀ w ∈ wsX10, w ∈ wsX1_truss := by decide +kernel
  have hf19 := hts (.fieldLink RX1 19 "CorebarnModel" "left" "[I") (by decide +kernel)
  have hl := lv_entry ([.ref h, .int (nI u), .int (nI v)]) (n := 4) (Nat.le_of_ble_eq_true rfl)
  rw [lg_entry_eq]
  generalize (lg_sl ([.ref h, .int (nI u), .int (nI v)]) ++ List.replicate (4 - (lg_sl ([.ref h, .int (nI u), .int (nI v)])).length) Slot.unset).toArray = ls at hl ⊢
  have hl : lv_has ls 4 [(0, .ref h), (1, .int (nI u)), (2, .int (nI v))] := hl
  refine lv_aload_n hx hb dX1_truss_0 rfl (lv_at hl 0 rfl) ?_
  refine lv_aload_n hx hb dX1_truss_1 rfl (lv_at hl 0 rfl) ?_
  refine lv_iload_n hx hb dX1_truss_2 rfl (lv_at hl 1 rfl) ?_
  refine lv_iload_n hx hb dX1_truss_3 rfl (lv_at hl 2 rfl) ?_
  refine zrV (As := [.int (nI u), .int (nI v)]) (rest := [.ref h]) 0 ⟨hx, hb, hml, hown, hts⟩ (c_X1_faultOfEdge_none l D cy h b0 b1 b2 b3 b4 th N ch ds de f cs be lf od u v hN hu hv he) (cwV 2 hts gX1_truss_X1_faultOfEdge rfl rfl rfl (by decide +kernel) ⟨Nat.le_of_ble_eq_true rfl, Nat.le_of_ble_eq_true rfl⟩) hK hP rfl rfl rfl hl rfl (Nat.le_of_ble_eq_true rfl) dX1_truss_4 ⟨Nat.le_of_ble_eq_true rfl, Nat.le_of_ble_eq_true rfl⟩ hS (fun r4 H locs hw4 hk9 hS => ?_)
  obtain rfl : r4 = (nI 2) := hw4
  have hP := zkeep hP hk9
  refine zwVi (As := [.int (nI 2)]) (rest := []) 0 [0, 1, 2, 3, 4, 5] rfl ⟨hx, hb, hml, hown, hts⟩ (c_X1_goesWell l D cy h b0 b1 b2 b3 b4 th N ch ds de f cs be lf od _ 2 (by omega)) (cwV 1 hts gX1_truss_X1_goesWell rfl rfl rfl (by decide +kernel) ⟨Nat.le_of_ble_eq_true rfl, Nat.le_of_ble_eq_true rfl⟩) hK hP hD hA rfl rfl rfl hl rfl (Nat.le_of_ble_eq_true rfl) dX1_truss_7 ⟨Nat.le_of_ble_eq_true rfl, Nat.le_of_ble_eq_true rfl⟩ hS (fun r7 u7 H locs hw7 hP hS => ?_)
  have hP : va_P D vwCl (wM h b0 b1 b2 b3 b4 cy (nI 2) N ch ds de f cs be lf od) H := hP
  have hD : va_D A (wM h b0 b1 b2 b3 b4 cy (nI 2) N ch ds de f cs be lf od) := zD hD rfl
  obtain rfl : r7 = (zb false) := hw7
  refine z_ifb_false_ne (tgt := 15) hx hb dX1_truss_10 (by decide) ?_
  refine lv_iconst (v := (nI 0)) hx hb dX1_truss_13 (by decide) ?_
  exact W.iret (v := (nI 0)) hx hb hr (fun t9 ht9 hW9 => ⟨⟨(nI 0), (), rfl, rfl, by show va_P D vwCl (wM h b0 b1 b2 b3 b4 cy (nI 2) N ch ds de f cs be lf od) t9.heap; rw [ht9]; exact hP⟩, hS.F ht9⟩) hS.2.2 dX1_truss_14

set_option maxHeartbeats 4000000 in
set_option maxRecDepth 100000 in
theorem c_X1_truss_bad (l : Launch) (D : va_G) (cy : ClassId) (h b0 b1 b2 b3 b4 : Nat) (th : Int32) (N : Nat) (ch ds de : Int32) (f cs be lf od : Nat → Int32) (sz : Nat) (q1 q2 : Int32) (hq : (isNb q1 N && isNb q2 N) = false) : Met l yX1_truss wsX1_truss ({ frames := 2, cells := 0, slots := 0, locals := 46 } : Room) (va_Pc [.ref h, .int q1, .int q2] (zWr D (wM h b0 b1 b2 b3 b4 cy th N ch ds de f cs be lf od) [(cy, .int)] sz)) (va_Qi (fun (r : Int32) (z9 : Unit) => r = nI 0) (fun (z9 : Unit) t => va_P D vwCl (wM h b0 b1 b2 b3 b4 cy (nI 1) N ch ds de f cs be lf od) t.heap) (va_A (wM h b0 b1 b2 b3 b4 cy th N ch ds de f cs be lf od) sz)) 0 0 (va_A (wM h b0 b1 b2 b3 b4 cy th N ch ds de f cs be lf od) sz) := by
  refine Met.ofW (cc := cX1_truss) (maxL := 4) (ret := (some .int)) (by decide) rfl ?_
  intro p e s m args below meth c s₁ B hml hv
  obtain ⟨rfl, hsz, hP, hK, hD0⟩ := hv
  have hx := B.exec
  have hb := B.bytes
  have hr := B.returns
  have hts := atoms_spec (ws := wsX1_truss) B.pre
  have hown : s.vm.findClass RX1 = some m.cls := findClass_of_methodNamed B.named
  have hlocks := B.notSynchronized
  subst hsz
  have hD := hD0.self (sz := s.heap.size)
  generalize hAe : va_A (wM h b0 b1 b2 b3 b4 cy th N ch ds de f cs be lf od) s.heap.size = A at hD ⊢
  have hA : ∀ q : Nat, s.heap.size ≤ q → A q := fun q h => by rw [← hAe]; exact Or.inr h
  have hS : va_S A s.heap s.heap [] := va_S.rf
  have hin : ∀ w ∈ wsX10, w ∈ wsX1_truss := by decide +kernel
  have hf19 := hts (.fieldLink RX1 19 "CorebarnModel" "left" "[I") (by decide +kernel)
  have hl := lv_entry ([.ref h, .int q1, .int q2]) (n := 4) (Nat.le_of_ble_eq_true rfl)
  rw [lg_entry_eq]
  generalize (lg_sl ([.ref h, .int q1, .int q2]) ++ List.replicate (4 - (lg_sl ([.ref h, .int q1, .int q2])).length) Slot.unset).toArray = ls at hl ⊢
  have hl : lv_has ls 4 [(0, .ref h), (1, .int q1), (2, .int q2)] := hl
  refine lv_aload_n hx hb dX1_truss_0 rfl (lv_at hl 0 rfl) ?_
  refine lv_aload_n hx hb dX1_truss_1 rfl (lv_at hl 0 rfl) ?_
  refine lv_iload_n hx hb dX1_truss_2 rfl (lv_at hl 1 rfl) ?_
  refine lv_iload_n hx hb dX1_truss_3 rfl (lv_at hl 2 rfl) ?_
  refine zrV (As := [.int q1, .int q2]) (rest := [.ref h]) 0 ⟨hx, hb, hml, hown, hts⟩ (c_X1_faultOfEdge_bad l D cy h b0 b1 b2 b3 b4 th N ch ds de f cs be lf od q1 q2 hq) (cwV 2 hts gX1_truss_X1_faultOfEdge rfl rfl rfl (by decide +kernel) ⟨Nat.le_of_ble_eq_true rfl, Nat.le_of_ble_eq_true rfl⟩) hK hP rfl rfl rfl hl rfl (Nat.le_of_ble_eq_true rfl) dX1_truss_4 ⟨Nat.le_of_ble_eq_true rfl, Nat.le_of_ble_eq_true rfl⟩ hS (fun r4 H locs hw4 hk9 hS => ?_)
  obtain rfl : r4 = (nI 1) := hw4
  have hP := zkeep hP hk9
  refine zwVi (As := [.int (nI 1)]) (rest := []) 0 [0, 1, 2, 3, 4, 5] rfl ⟨hx, hb, hml, hown, hts⟩ (c_X1_goesWell l D cy h b0 b1 b2 b3 b4 th N ch ds de f cs be lf od _ 1 (by omega)) (cwV 1 hts gX1_truss_X1_goesWell rfl rfl rfl (by decide +kernel) ⟨Nat.le_of_ble_eq_true rfl, Nat.le_of_ble_eq_true rfl⟩) hK hP hD hA rfl rfl rfl hl rfl (Nat.le_of_ble_eq_true rfl) dX1_truss_7 ⟨Nat.le_of_ble_eq_true rfl, Nat.le_of_ble_eq_true rfl⟩ hS (fun r7 u7 H locs hw7 hP hS => ?_)
  have hP : va_P D vwCl (wM h b0 b1 b2 b3 b4 cy (nI 1) N ch ds de f cs be lf od) H := hP
  have hD : va_D A (wM h b0 b1 b2 b3 b4 cy (nI 1) N ch ds de f cs be lf od) := zD hD rfl
  obtain rfl : r7 = (zb false) := hw7
  refine z_ifb_false_ne (tgt := 15) hx hb dX1_truss_10 (by decide) ?_
  refine lv_iconst (v := (nI 0)) hx hb dX1_truss_13 (by decide) ?_
  exact W.iret (v := (nI 0)) hx hb hr (fun t9 ht9 hW9 => ⟨⟨(nI 0), (), rfl, rfl, by show va_P D vwCl (wM h b0 b1 b2 b3 b4 cy (nI 1) N ch ds de f cs be lf od) t9.heap; rw [ht9]; exact hP⟩, hS.F ht9⟩) hS.2.2 dX1_truss_14

set_option maxHeartbeats 4000000 in
set_option maxRecDepth 100000 in
theorem c_X1_peel (l : Launch) (D : va_G) (cy : ClassId) (h b0 b1 b2 b3 b4 : Nat) (th : Int32) (N : Nat) (ch ds de : Int32) (f cs be lf od : Nat → Int32) (sz : Nat) (hN : N ≤ 20) (hg : gd f N) : Met l yX1_peel wsX1_peel ({ frames := 2, cells := 0, slots := 0, locals := 45 } : Room) (va_Pc [.ref h] (zWr D (wM h b0 b1 b2 b3 b4 cy th N ch ds de f cs be lf od) [(cy, .int)] sz)) (va_Qv (fun (z9 : (Nat → Int32)) => ∀ w, w < N → z9 w = nI (npk f (dsk f N w).1 N).1) (fun (z9 : (Nat → Int32)) t => va_P D vwCl (wM h b0 b1 b2 b3 b4 cy th N ch ((dsk f N (N - 1)).2.1) (nI (dsk f N (N - 1)).2.2) f cs be lf z9) t.heap) (va_A (wM h b0 b1 b2 b3 b4 cy th N ch ds de f cs be lf od) sz)) 0 0 (va_A (wM h b0 b1 b2 b3 b4 cy th N ch ds de f cs be lf od) sz) := by
  refine Met.ofW (cc := cX1_peel) (maxL := 7) (ret := none) (by decide) rfl ?_
  intro p e s m args below meth c s₁ B hml hv
  obtain ⟨rfl, hsz, hP, hK, hD0⟩ := hv
  have hx := B.exec
  have hb := B.bytes
  have hr := B.returns
  have hts := atoms_spec (ws := wsX1_peel) B.pre
  have hown : s.vm.findClass RX1 = some m.cls := findClass_of_methodNamed B.named
  have hlocks := B.notSynchronized
  subst hsz
  have hD := hD0.self (sz := s.heap.size)
  generalize hAe : va_A (wM h b0 b1 b2 b3 b4 cy th N ch ds de f cs be lf od) s.heap.size = A at hD ⊢
  have hA : ∀ q : Nat, s.heap.size ≤ q → A q := fun q h => by rw [← hAe]; exact Or.inr h
  have hS : va_S A s.heap s.heap [] := va_S.rf
  have hin : ∀ w ∈ wsX10, w ∈ wsX1_peel := by decide +kernel
  have hf7 := hts (.fieldLink RX1 7 "CorebarnModel" "near" "[I") (by decide +kernel)
  have hf22 := hts (.fieldLink RX1 22 "CorebarnModel" "order" "[I") (by decide +kernel)
  have hf29 := hts (.fieldLink RX1 29 "CorebarnModel" "many" "I") (by decide +kernel)
  have hf76 := hts (.fieldLink RX1 76 "CorebarnModel" "denseSet" "I") (by decide +kernel)
  have hf79 := hts (.fieldLink RX1 79 "CorebarnModel" "denseEdges" "I") (by decide +kernel)
  have hzN := sub_al hN
  have hl := lv_entry ([.ref h]) (n := 7) (Nat.le_of_ble_eq_true rfl)
  rw [lg_entry_eq]
  generalize (lg_sl ([.ref h]) ++ List.replicate (7 - (lg_sl ([.ref h])).length) Slot.unset).toArray = ls at hl ⊢
  have hl : lv_has ls 7 [(0, .ref h)] := hl
  refine lv_aload_n hx hb dX1_peel_0 rfl (lv_at hl 0 rfl) ?_
  refine zrV (As := []) (rest := []) 0 ⟨hx, hb, hml, hown, hts⟩ (c_X1_all l D cy h b0 b1 b2 b3 b4 th N ch ds de f cs be lf od ) (cwV 0 hts gX1_peel_X1_all rfl rfl rfl (by decide +kernel) ⟨Nat.le_of_ble_eq_true rfl, Nat.le_of_ble_eq_true rfl⟩) hK hP rfl rfl rfl hl rfl (Nat.le_of_ble_eq_true rfl) dX1_peel_1 ⟨Nat.le_of_ble_eq_true rfl, Nat.le_of_ble_eq_true rfl⟩ hS (fun r1 H locs hw1 hk9 hS => ?_)
  obtain rfl : r1 = zal N := hw1
  have hP := zkeep hP hk9
  refine lv_istore_n (lv' := [(1, .int (zal N)), (0, .ref h)]) hx hb dX1_peel_4 rfl hl (by decide) rfl (fun ls hl => ?_)
  refine lv_aload_n hx hb dX1_peel_5 rfl (lv_at hl 1 rfl) ?_
  refine lv_iload_n hx hb dX1_peel_6 rfl (lv_at hl 0 rfl) ?_
  refine va_put (D := D) (ci := 1) (v := .int (zal N)) (ty := .int) (C := RX1) (T := TX1) (N := 10) hx hb hts hin tyX1 tyX1_ok nmX1 hown hK hP hD hS 0 rfl rfl 8 (by decide) hf76 (fun _ h9 => h9) rfl (by decide +kernel) rfl rfl (Nat.le_of_ble_eq_true rfl) dX1_peel_7 (fun H locs hP hD hS => ?_)
  have hP : va_P D vwCl (wM h b0 b1 b2 b3 b4 cy th N ch (zal N) de f cs be lf od) H := hP
  have hD : va_D A (wM h b0 b1 b2 b3 b4 cy th N ch (zal N) de f cs be lf od) := hD
  refine lv_aload_n hx hb dX1_peel_10 rfl (lv_at hl 1 rfl) ?_
  refine lv_aload_n hx hb dX1_peel_11 rfl (lv_at hl 1 rfl) ?_
  refine lv_iload_n hx hb dX1_peel_12 rfl (lv_at hl 0 rfl) ?_
  refine zrV (As := [.int (zal N)]) (rest := [.ref h]) 0 ⟨hx, hb, hml, hown, hts⟩ (c_X1_edgesOf l D cy h b0 b1 b2 b3 b4 th N ch (zal N) de f cs be lf od (zal N) hN hg) (cwV 1 hts gX1_peel_X1_edgesOf rfl rfl rfl (by decide +kernel) ⟨Nat.le_of_ble_eq_true rfl, Nat.le_of_ble_eq_true rfl⟩) hK hP rfl rfl rfl hl rfl (Nat.le_of_ble_eq_true rfl) dX1_peel_13 ⟨Nat.le_of_ble_eq_true rfl, Nat.le_of_ble_eq_true rfl⟩ hS (fun r13 H locs hw13 hk9 hS => ?_)
  obtain rfl : r13 = (nI (ewn f N (zal N))) := hw13
  have hP := zkeep hP hk9
  refine va_put (D := D) (ci := 1) (v := .int (nI (ewn f N (zal N)))) (ty := .int) (C := RX1) (T := TX1) (N := 10) hx hb hts hin tyX1 tyX1_ok nmX1 hown hK hP hD hS 0 rfl rfl 9 (by decide) hf79 (fun _ h9 => h9) rfl (by decide +kernel) rfl rfl (Nat.le_of_ble_eq_true rfl) dX1_peel_16 (fun H locs hP hD hS => ?_)
  have hP : va_P D vwCl (wM h b0 b1 b2 b3 b4 cy th N ch (zal N) (nI (ewn f N (zal N))) f cs be lf od) H := hP
  have hD : va_D A (wM h b0 b1 b2 b3 b4 cy th N ch (zal N) (nI (ewn f N (zal N))) f cs be lf od) := hD
  refine lv_iconst (v := (nI 0)) hx hb dX1_peel_19 (by decide) ?_
  refine lv_istore_n (lv' := [(2, .int (nI 0)), (1, .int (zal N)), (0, .ref h)]) hx hb dX1_peel_20 rfl hl (by decide) rfl (fun ls hl => ?_)
  have K21 : ∀ (fu21 : Nat) (p0 : Nat) (x : Int32) (y : Int32) (q : Nat) (o1 : Nat → Int32) (H : Heap) (locs : List Loc) (ls : Array Slot), (p0 ≤ N) → (x = (dsk f N p0).1) → ((dsk f N (p0 - 1)).2 = (y, q)) → (∀ w, w < p0 → o1 w = nI (npk f (dsk f N w).1 N).1) → N - p0 < fu21 → va_P D vwCl (wM h b0 b1 b2 b3 b4 cy th N ch y (nI q) f cs be lf o1) H → va_S A s.heap H locs → lv_has ls 7 [(2, .int (nI p0)), (1, .int x), (0, .ref h)] → W p l e (headSpec wsX1_peel ({ frames := 2, cells := 0, slots := 0, locals := 45 } : Room)).room s m ([.ref h] : List Value).toArray below meth c H locs 0 0 (MQ below (va_Qv (fun (z9 : (Nat → Int32)) => ∀ w, w < N → z9 w = nI (npk f (dsk f N w).1 N).1) (fun (z9 : (Nat → Int32)) t => va_P D vwCl (wM h b0 b1 b2 b3 b4 cy th N ch ((dsk f N (N - 1)).2.1) (nI (dsk f N (N - 1)).2.2) f cs be lf z9) t.heap) A) ([.ref h] : List Value).toArray s 0 0 A) (F0 m 21 ls []) := by
    intro fu21
    induction fu21 with
    | zero =>
      intro p0 x y q o1 H locs ls hp0 hxe hd ho hfu21
      exact absurd hfu21 (Nat.not_lt_zero _)
    | succ fu21 ih21 =>
      intro p0 x y q o1 H locs ls hp0 hxe hd ho hfu21 hP hS hl
      have hD : va_D A (wM h b0 b1 b2 b3 b4 cy th N ch y (nI q) f cs be lf o1) := zD hD rfl
      have hd1 := dsk_sub hN (p0 - 1) (f := f)
      rw [hd] at hd1
      have hys : zsub y N := sub_le hd1.2.1 hzN
      have hxs : zsub x N := by rw [hxe]; exact sub_le (dsk_sub hN p0).1 hzN
      have hq : q ≤ 320 := by have h1 := hd1.2.2; have h2 := ewn_b f hN y; simp only at h1; omega
      have hm1 : ewn f N x * zpop y ≤ 320 * 32 := Nat.mul_le_mul (ewn_b f hN _) (pop_32 y)
      have hm2 : q * zpop x ≤ 320 * 32 := Nat.mul_le_mul hq (pop_32 _)
      refine lv_iload_n hx hb dX1_peel_21 rfl (lv_at hl 0 rfl) ?_
      refine lv_aload_n hx hb dX1_peel_22 rfl (lv_at hl 2 rfl) ?_
      refine va_get (D := D) (ci := 1) (v := .int (nI N)) (C := RX1) (T := TX1) (N := 10) hx hb hts hin hown hK hP 0 rfl rfl 1 (by decide) hf29 (fun _ h9 => h9) rfl dX1_peel_23 ?_
      refine z_icmp_ge (tgt := 172) hx hb dX1_peel_26 (by decide) (by omega) (by omega) (fun h26 => ?_) (fun h26 => ?_)
      · exact W.vret hx hb hr (fun t9 ht9 hW9 => ⟨⟨o1, rfl, (fun w hw => ho w (by omega)), by show va_P D vwCl (wM h b0 b1 b2 b3 b4 cy th N ch ((dsk f N (N - 1)).2.1) (nI (dsk f N (N - 1)).2.2) f cs be lf o1) t9.heap; rw [ht9]; rw [show N - 1 = p0 - 1 by omega, hd]; exact hP⟩, hS.F ht9⟩) hS.2.2 dX1_peel_172
      · refine lv_aload_n hx hb dX1_peel_29 rfl (lv_at hl 2 rfl) ?_
        refine lv_iload_n hx hb dX1_peel_30 rfl (lv_at hl 1 rfl) ?_
        refine zrV (As := [.int x]) (rest := []) 0 ⟨hx, hb, hml, hown, hts⟩ (c_X1_edgesOf l D cy h b0 b1 b2 b3 b4 th N ch y (nI q) f cs be lf o1 x hN hg) (cwV 1 hts gX1_peel_X1_edgesOf rfl rfl rfl (by decide +kernel) ⟨Nat.le_of_ble_eq_true rfl, Nat.le_of_ble_eq_true rfl⟩) hK hP rfl rfl rfl hl rfl (Nat.le_of_ble_eq_true rfl) dX1_peel_31 ⟨Nat.le_of_ble_eq_true rfl, Nat.le_of_ble_eq_true rfl⟩ hS (fun r31 H locs hw31 hk9 hS => ?_)
        obtain rfl : r31 = (nI (ewn f N x)) := hw31
        have hP := zkeep hP hk9
        refine lv_istore_n (lv' := [(3, .int (nI (ewn f N x))), (2, .int (nI p0)), (1, .int x), (0, .ref h)]) hx hb dX1_peel_34 rfl hl (by decide) rfl (fun ls hl => ?_)
        refine lv_iload_n hx hb dX1_peel_35 rfl (lv_at hl 0 rfl) ?_
        refine lv_aload_n hx hb dX1_peel_36 rfl (lv_at hl 3 rfl) ?_
        refine va_get (D := D) (ci := 1) (v := .int y) (C := RX1) (T := TX1) (N := 10) hx hb hts hin hown hK hP 0 rfl rfl 8 (by decide) hf76 (fun _ h9 => h9) rfl dX1_peel_37 ?_
        refine zrS0 (As := [.int y]) (rest := [.int (nI (ewn f N x))]) ⟨hx, hb, hml, hown, hts⟩ (c_X1_sizeOf l y (zsub20 hN hys)) (va_cwS 1 hts gX1_peel_X1_sizeOf rfl rfl rfl (by decide +kernel) ⟨Nat.le_of_ble_eq_true rfl, Nat.le_of_ble_eq_true rfl⟩) rfl hl rfl (Nat.le_of_ble_eq_true rfl) dX1_peel_40 ⟨Nat.le_of_ble_eq_true rfl, Nat.le_of_ble_eq_true rfl⟩ hS (fun r40 H locs hw40 hk9 hS => ?_)
        obtain rfl : r40 = (nI (zpop y)) := hw40
        have hP := zkeep hP hk9
        refine z_imul hx hb dX1_peel_43 ?_
        refine lv_aload_n hx hb dX1_peel_44 rfl (lv_at hl 3 rfl) ?_
        refine va_get (D := D) (ci := 1) (v := .int (nI q)) (C := RX1) (T := TX1) (N := 10) hx hb hts hin hown hK hP 0 rfl rfl 9 (by decide) hf79 (fun _ h9 => h9) rfl dX1_peel_45 ?_
        refine lv_iload_n hx hb dX1_peel_48 rfl (lv_at hl 2 rfl) ?_
        refine zrS0 (As := [.int x]) (rest := [.int (nI q), .int (nI ((ewn f N x) * (zpop y)))]) ⟨hx, hb, hml, hown, hts⟩ (c_X1_sizeOf l x (zsub20 hN hxs)) (va_cwS 1 hts gX1_peel_X1_sizeOf rfl rfl rfl (by decide +kernel) ⟨Nat.le_of_ble_eq_true rfl, Nat.le_of_ble_eq_true rfl⟩) rfl hl rfl (Nat.le_of_ble_eq_true rfl) dX1_peel_49 ⟨Nat.le_of_ble_eq_true rfl, Nat.le_of_ble_eq_true rfl⟩ hS (fun r49 H locs hw49 hk9 hS => ?_)
        obtain rfl : r49 = (nI (zpop x)) := hw49
        have hP := zkeep hP hk9
        refine z_imul hx hb dX1_peel_52 ?_
        refine z_icmp_le (tgt := 66) hx hb dX1_peel_53 (by decide) (by omega) (by omega) (fun h53 => ?_) (fun h53 => ?_)
        · have K66 : ∀ (y2 : Int32) (q2 : Nat) (H : Heap) (locs : List Loc) (ls : Array Slot), ((dsk f N p0).2 = (y2, q2)) → va_P D vwCl (wM h b0 b1 b2 b3 b4 cy th N ch y2 (nI q2) f cs be lf o1) H → va_S A s.heap H locs → lv_has ls 7 [(0, .ref h), (1, .int x), (2, .int (nI p0)), (3, .int (nI (ewn f N x)))] → W p l e (headSpec wsX1_peel ({ frames := 2, cells := 0, slots := 0, locals := 45 } : Room)).room s m ([.ref h] : List Value).toArray below meth c H locs 0 0 (MQ below (va_Qv (fun (z9 : (Nat → Int32)) => ∀ w, w < N → z9 w = nI (npk f (dsk f N w).1 N).1) (fun (z9 : (Nat → Int32)) t => va_P D vwCl (wM h b0 b1 b2 b3 b4 cy th N ch ((dsk f N (N - 1)).2.1) (nI (dsk f N (N - 1)).2.2) f cs be lf z9) t.heap) A) ([.ref h] : List Value).toArray s 0 0 A) (F0 m 66 ls []) := by
            intro y2 q2 H locs ls hd2 hP hS hl
            have hD : va_D A (wM h b0 b1 b2 b3 b4 cy th N ch y2 (nI q2) f cs be lf o1) := zD hD rfl
            refine lv_iconst (v := (-1)) hx hb dX1_peel_66 (by decide) ?_
            refine lv_istore (lv' := [(4, .int (-1)), (0, .ref h), (1, .int x), (2, .int (nI p0)), (3, .int (nI (ewn f N x)))]) hx hb dX1_peel_67 hl (by decide) rfl (fun ls hl => ?_)
            refine lv_iconst (v := (nI 0)) hx hb dX1_peel_69 (by decide) ?_
            refine lv_istore (lv' := [(5, .int (nI 0)), (4, .int (-1)), (0, .ref h), (1, .int x), (2, .int (nI p0)), (3, .int (nI (ewn f N x)))]) hx hb dX1_peel_70 hl (by decide) rfl (fun ls hl => ?_)
            have K72 : ∀ (fu72 : Nat) (i : Nat) (a4 : Int32) (H : Heap) (locs : List Loc) (ls : Array Slot), (i ≤ N) → (fI f x i a4) → N - i < fu72 → va_P D vwCl (wM h b0 b1 b2 b3 b4 cy th N ch y2 (nI q2) f cs be lf o1) H → va_S A s.heap H locs → lv_has ls 7 [(5, .int (nI i)), (4, .int a4), (0, .ref h), (1, .int x), (2, .int (nI p0)), (3, .int (nI (ewn f N x)))] → W p l e (headSpec wsX1_peel ({ frames := 2, cells := 0, slots := 0, locals := 45 } : Room)).room s m ([.ref h] : List Value).toArray below meth c H locs 0 0 (MQ below (va_Qv (fun (z9 : (Nat → Int32)) => ∀ w, w < N → z9 w = nI (npk f (dsk f N w).1 N).1) (fun (z9 : (Nat → Int32)) t => va_P D vwCl (wM h b0 b1 b2 b3 b4 cy th N ch ((dsk f N (N - 1)).2.1) (nI (dsk f N (N - 1)).2.2) f cs be lf z9) t.heap) A) ([.ref h] : List Value).toArray s 0 0 A) (F0 m 72 ls []) := by
              intro fu72
              induction fu72 with
              | zero =>
                intro i a4 H locs ls hi hF hfu72
                exact absurd hfu72 (Nat.not_lt_zero _)
              | succ fu72 ih72 =>
                intro i a4 H locs ls hi hF hfu72 hP hS hl
                have hD : va_D A (wM h b0 b1 b2 b3 b4 cy th N ch y2 (nI q2) f cs be lf o1) := zD hD rfl
                refine lv_iload hx hb dX1_peel_72 (lv_at hl 0 rfl) ?_
                refine lv_aload_n hx hb dX1_peel_74 rfl (lv_at hl 2 rfl) ?_
                refine va_get (D := D) (ci := 1) (v := .int (nI N)) (C := RX1) (T := TX1) (N := 10) hx hb hts hin hown hK hP 0 rfl rfl 1 (by decide) hf29 (fun _ h9 => h9) rfl dX1_peel_75 ?_
                refine z_icmp_ge (tgt := 149) hx hb dX1_peel_78 (by decide) (by omega) (by omega) (fun h78 => ?_) (fun h78 => ?_)
                · obtain rfl : a4 = nI (npk f x N).1 := fI_end hxs (by rw [hxe, dsk_pop hg p0 hp0]; omega) (by rw [← Nat.le_antisymm hi h78]; exact hF)
                  refine lv_aload_n hx hb dX1_peel_149 rfl (lv_at hl 2 rfl) ?_
                  refine va_get (D := D) (ci := 1) (v := .ref b4) (C := RX1) (T := TX1) (N := 10) hx hb hts hin hown hK hP 0 rfl rfl 7 (by decide) hf22 (fun _ h9 => h9) rfl dX1_peel_150 ?_
                  refine lv_iload_n hx hb dX1_peel_153 rfl (lv_at hl 4 rfl) ?_
                  refine lv_iload hx hb dX1_peel_154 (lv_at hl 1 rfl) ?_
                  refine z_iast hx hb hK hP hD hS 5 0 rfl rfl (by omega) (by decide) dX1_peel_156 (fun H locs hP hS => ?_)
                  have hP : va_P D vwCl (wM h b0 b1 b2 b3 b4 cy th N ch y2 (nI q2) f cs be lf (upd o1 p0 (nI ((npk f x N).1)))) H := hP
                  have hD : va_D A (wM h b0 b1 b2 b3 b4 cy th N ch y2 (nI q2) f cs be lf (upd o1 p0 (nI ((npk f x N).1)))) := zD hD rfl
                  refine lv_iload_n hx hb dX1_peel_157 rfl (lv_at hl 3 rfl) ?_
                  refine lv_iconst (v := (nI 1)) hx hb dX1_peel_158 (by decide) ?_
                  refine lv_iload hx hb dX1_peel_159 (lv_at hl 1 rfl) ?_
                  refine lv_ishl hx hb dX1_peel_161 ?_
                  refine lv_iconst (v := (-1)) hx hb dX1_peel_162 (by decide) ?_
                  refine lv_ixor hx hb dX1_peel_163 ?_
                  refine lv_iand hx hb dX1_peel_164 ?_
                  refine lv_istore_n (lv' := [(1, .int (x &&& (((nI 1) <<< ((nI ((npk f x N).1)) &&& 31)) ^^^ (-1)))), (5, .int (nI i)), (4, .int (nI ((npk f x N).1))), (0, .ref h), (2, .int (nI p0)), (3, .int (nI (ewn f N x)))]) hx hb dX1_peel_165 rfl hl (by decide) rfl (fun ls hl => ?_)
                  refine lv_iinc (v := (nI (p0 + 1))) (lv' := [(2, .int (nI (p0 + 1))), (1, .int (x &&& (((nI 1) <<< ((nI ((npk f x N).1)) &&& 31)) ^^^ (-1)))), (5, .int (nI i)), (4, .int (nI ((npk f x N).1))), (0, .ref h), (3, .int (nI (ewn f N x)))]) hx hb dX1_peel_166 hl (k := 4) rfl (nI_1 _) (by decide) rfl (fun ls hl => ?_)
                  refine lv_goto (tgt := 21) hx hb dX1_peel_169 (by decide) ?_
                  exact ih21 (p0 + 1) (x &&& (((nI 1) <<< ((nI ((npk f x N).1)) &&& 31)) ^^^ (-1))) y2 q2 (upd o1 p0 (nI ((npk f x N).1))) _ _ _ (by omega) (by rw [dsk_1, ← hxe]; rfl) (by rw [Nat.add_sub_cancel]; exact hd2) (fun w hw => by by_cases e : w = p0; (rw [e, pk_us, ← hxe]); (rw [pk_un e]; exact ho w (by omega))) (by omega) hP hS (lv_sub hl [0, 1, 4] rfl)
                · refine lv_iload_n hx hb dX1_peel_81 rfl (lv_at hl 3 rfl) ?_
                  refine lv_iload hx hb dX1_peel_82 (lv_at hl 0 rfl) ?_
                  refine zrS0 (As := [.int x, .int (nI i)]) (rest := []) ⟨hx, hb, hml, hown, hts⟩ (c_X1_has l x i (by omega)) (va_cwS 2 hts gX1_peel_X1_has rfl rfl rfl (by decide +kernel) ⟨Nat.le_of_ble_eq_true rfl, Nat.le_of_ble_eq_true rfl⟩) rfl hl rfl (Nat.le_of_ble_eq_true rfl) dX1_peel_84 ⟨Nat.le_of_ble_eq_true rfl, Nat.le_of_ble_eq_true rfl⟩ hS (fun r84 H locs hw84 hk9 hS => ?_)
                  obtain rfl : r84 = (zb (bt x i)) := hw84
                  have hP := zkeep hP hk9
                  refine z_ifb_eq (tgt := 126) hx hb dX1_peel_87 (by decide) (fun h87 => ?_) (fun h87 => ?_)
                  · refine lv_iconst (v := (nI 0)) hx hb dX1_peel_126 (by decide) ?_
                    refine lv_istore (lv' := [(6, .int (nI 0)), (5, .int (nI i)), (4, .int a4), (0, .ref h), (1, .int x), (2, .int (nI p0)), (3, .int (nI (ewn f N x)))]) hx hb dX1_peel_127 hl (by decide) rfl (fun ls hl => ?_)
                    refine lv_iload hx hb dX1_peel_129 (lv_at hl 0 rfl) ?_
                    refine lv_if_eq (tgt := 139) hx hb dX1_peel_131 (by decide) (fun _ => ?_) (fun q => absurd (by decide) q)
                    refine lv_iload hx hb dX1_peel_139 (lv_at hl 2 rfl) ?_
                    refine lv_istore (lv' := [(4, .int a4), (6, .int (nI 0)), (5, .int (nI i)), (0, .ref h), (1, .int x), (2, .int (nI p0)), (3, .int (nI (ewn f N x)))]) hx hb dX1_peel_141 hl (by decide) rfl (fun ls hl => ?_)
                    refine lv_iinc (v := (nI (i + 1))) (lv' := [(5, .int (nI (i + 1))), (4, .int a4), (6, .int (nI 0)), (0, .ref h), (1, .int x), (2, .int (nI p0)), (3, .int (nI (ewn f N x)))]) hx hb dX1_peel_143 hl (k := 2) rfl (nI_1 _) (by decide) rfl (fun ls hl => ?_)
                    refine lv_goto (tgt := 72) hx hb dX1_peel_146 (by decide) ?_
                    exact ih72 (i + 1) a4 _ _ _ (by omega) (fI_no hF h87) (by omega) hP hS (lv_sub hl [0, 1, 3, 4, 5, 6] rfl)
                  · refine lv_iload hx hb dX1_peel_90 (lv_at hl 1 rfl) ?_
                    refine lv_if_lt (tgt := 122) hx hb dX1_peel_92 (by decide) (fun h92 => ?_) (fun h92 => ?_)
                    · refine lv_iconst (v := (nI 1)) hx hb dX1_peel_122 (by decide) ?_
                      refine lv_goto (tgt := 127) hx hb dX1_peel_123 (by decide) ?_
                      refine lv_istore (lv' := [(6, .int (nI 1)), (5, .int (nI i)), (4, .int a4), (0, .ref h), (1, .int x), (2, .int (nI p0)), (3, .int (nI (ewn f N x)))]) hx hb dX1_peel_127 hl (by decide) rfl (fun ls hl => ?_)
                      refine lv_iload hx hb dX1_peel_129 (lv_at hl 0 rfl) ?_
                      refine lv_if_eq (tgt := 139) hx hb dX1_peel_131 (by decide) (fun q => absurd q (by decide)) (fun _ => ?_)
                      refine lv_iload hx hb dX1_peel_134 (lv_at hl 1 rfl) ?_
                      refine lv_goto (tgt := 141) hx hb dX1_peel_136 (by decide) ?_
                      refine lv_istore (lv' := [(4, .int (nI i)), (6, .int (nI 1)), (5, .int (nI i)), (0, .ref h), (1, .int x), (2, .int (nI p0)), (3, .int (nI (ewn f N x)))]) hx hb dX1_peel_141 hl (by decide) rfl (fun ls hl => ?_)
                      refine lv_iinc (v := (nI (i + 1))) (lv' := [(5, .int (nI (i + 1))), (4, .int (nI i)), (6, .int (nI 1)), (0, .ref h), (1, .int x), (2, .int (nI p0)), (3, .int (nI (ewn f N x)))]) hx hb dX1_peel_143 hl (k := 2) rfl (nI_1 _) (by decide) rfl (fun ls hl => ?_)
                      refine lv_goto (tgt := 72) hx hb dX1_peel_146 (by decide) ?_
                      exact ih72 (i + 1) (nI i) _ _ _ (by omega) (fI_first hg h78 hF h87 h92) (by omega) hP hS (lv_sub hl [0, 1, 3, 4, 5, 6] rfl)
                    · obtain ⟨a, rfl, ha1, ha2, ha3⟩ := fI_get hF h92
                      refine lv_aload_n hx hb dX1_peel_95 rfl (lv_at hl 2 rfl) ?_
                      refine va_get (D := D) (ci := 1) (v := .ref b0) (C := RX1) (T := TX1) (N := 10) hx hb hts hin hown hK hP 0 rfl rfl 2 (by decide) hf7 (fun _ h9 => h9) rfl dX1_peel_96 ?_
                      refine lv_iload hx hb dX1_peel_99 (lv_at hl 0 rfl) ?_
                      refine z_iald hx hb hK hP 1 0 rfl rfl (by omega) (by decide) dX1_peel_101 ?_
                      refine lv_iload_n hx hb dX1_peel_102 rfl (lv_at hl 3 rfl) ?_
                      refine lv_iand hx hb dX1_peel_103 ?_
                      refine zrS0 (As := [.int ((f i) &&& x)]) (rest := []) ⟨hx, hb, hml, hown, hts⟩ (c_X1_sizeOf l ((f i) &&& x) (gd_20 hg (by omega) _)) (va_cwS 1 hts gX1_peel_X1_sizeOf rfl rfl rfl (by decide +kernel) ⟨Nat.le_of_ble_eq_true rfl, Nat.le_of_ble_eq_true rfl⟩) rfl hl rfl (Nat.le_of_ble_eq_true rfl) dX1_peel_104 ⟨Nat.le_of_ble_eq_true rfl, Nat.le_of_ble_eq_true rfl⟩ hS (fun r104 H locs hw104 hk9 hS => ?_)
                      obtain rfl : r104 = (nI (zpop ((f i) &&& x))) := hw104
                      have hP := zkeep hP hk9
                      refine lv_aload_n hx hb dX1_peel_107 rfl (lv_at hl 2 rfl) ?_
                      refine va_get (D := D) (ci := 1) (v := .ref b0) (C := RX1) (T := TX1) (N := 10) hx hb hts hin hown hK hP 0 rfl rfl 2 (by decide) hf7 (fun _ h9 => h9) rfl dX1_peel_108 ?_
                      refine lv_iload hx hb dX1_peel_111 (lv_at hl 1 rfl) ?_
                      refine z_iald hx hb hK hP 1 0 rfl rfl (by omega) (by decide) dX1_peel_113 ?_
                      refine lv_iload_n hx hb dX1_peel_114 rfl (lv_at hl 3 rfl) ?_
                      refine lv_iand hx hb dX1_peel_115 ?_
                      refine zrS0 (As := [.int ((f a) &&& x)]) (rest := [.int (nI (zpop ((f i) &&& x)))]) ⟨hx, hb, hml, hown, hts⟩ (c_X1_sizeOf l ((f a) &&& x) (gd_20 hg (by omega) _)) (va_cwS 1 hts gX1_peel_X1_sizeOf rfl rfl rfl (by decide +kernel) ⟨Nat.le_of_ble_eq_true rfl, Nat.le_of_ble_eq_true rfl⟩) rfl hl rfl (Nat.le_of_ble_eq_true rfl) dX1_peel_116 ⟨Nat.le_of_ble_eq_true rfl, Nat.le_of_ble_eq_true rfl⟩ hS (fun r116 H locs hw116 hk9 hS => ?_)
                      obtain rfl : r116 = (nI (zpop ((f a) &&& x))) := hw116
                      have hP := zkeep hP hk9
                      refine z_icmp_ge (tgt := 126) hx hb dX1_peel_119 (by decide) (pop_31 _) (pop_31 _) (fun h119 => ?_) (fun h119 => ?_)
                      · refine lv_iconst (v := (nI 0)) hx hb dX1_peel_126 (by decide) ?_
                        refine lv_istore (lv' := [(6, .int (nI 0)), (5, .int (nI i)), (4, .int (nI a)), (0, .ref h), (1, .int x), (2, .int (nI p0)), (3, .int (nI (ewn f N x)))]) hx hb dX1_peel_127 hl (by decide) rfl (fun ls hl => ?_)
                        refine lv_iload hx hb dX1_peel_129 (lv_at hl 0 rfl) ?_
                        refine lv_if_eq (tgt := 139) hx hb dX1_peel_131 (by decide) (fun _ => ?_) (fun q => absurd (by decide) q)
                        refine lv_iload hx hb dX1_peel_139 (lv_at hl 2 rfl) ?_
                        refine lv_istore (lv' := [(4, .int (nI a)), (6, .int (nI 0)), (5, .int (nI i)), (0, .ref h), (1, .int x), (2, .int (nI p0)), (3, .int (nI (ewn f N x)))]) hx hb dX1_peel_141 hl (by decide) rfl (fun ls hl => ?_)
                        refine lv_iinc (v := (nI (i + 1))) (lv' := [(5, .int (nI (i + 1))), (4, .int (nI a)), (6, .int (nI 0)), (0, .ref h), (1, .int x), (2, .int (nI p0)), (3, .int (nI (ewn f N x)))]) hx hb dX1_peel_143 hl (k := 2) rfl (nI_1 _) (by decide) rfl (fun ls hl => ?_)
                        refine lv_goto (tgt := 72) hx hb dX1_peel_146 (by decide) ?_
                        exact ih72 (i + 1) (nI a) _ _ _ (by omega) (fI_more ha1 ha2 ha3 h119) (by omega) hP hS (lv_sub hl [0, 1, 3, 4, 5, 6] rfl)
                      · refine lv_iconst (v := (nI 1)) hx hb dX1_peel_122 (by decide) ?_
                        refine lv_goto (tgt := 127) hx hb dX1_peel_123 (by decide) ?_
                        refine lv_istore (lv' := [(6, .int (nI 1)), (5, .int (nI i)), (4, .int (nI a)), (0, .ref h), (1, .int x), (2, .int (nI p0)), (3, .int (nI (ewn f N x)))]) hx hb dX1_peel_127 hl (by decide) rfl (fun ls hl => ?_)
                        refine lv_iload hx hb dX1_peel_129 (lv_at hl 0 rfl) ?_
                        refine lv_if_eq (tgt := 139) hx hb dX1_peel_131 (by decide) (fun q => absurd q (by decide)) (fun _ => ?_)
                        refine lv_iload hx hb dX1_peel_134 (lv_at hl 1 rfl) ?_
                        refine lv_goto (tgt := 141) hx hb dX1_peel_136 (by decide) ?_
                        refine lv_istore (lv' := [(4, .int (nI i)), (6, .int (nI 1)), (5, .int (nI i)), (0, .ref h), (1, .int x), (2, .int (nI p0)), (3, .int (nI (ewn f N x)))]) hx hb dX1_peel_141 hl (by decide) rfl (fun ls hl => ?_)
                        refine lv_iinc (v := (nI (i + 1))) (lv' := [(5, .int (nI (i + 1))), (4, .int (nI i)), (6, .int (nI 1)), (0, .ref h), (1, .int x), (2, .int (nI p0)), (3, .int (nI (ewn f N x)))]) hx hb dX1_peel_143 hl (k := 2) rfl (nI_1 _) (by decide) rfl (fun ls hl => ?_)
                        refine lv_goto (tgt := 72) hx hb dX1_peel_146 (by decide) ?_
                        exact ih72 (i + 1) (nI i) _ _ _ (by omega) (fI_less h87 ha3 h119) (by omega) hP hS (lv_sub hl [0, 1, 3, 4, 5, 6] rfl)
            exact K72 (N - 0 + 1) 0 (-1) _ _ _ (by omega) (Or.inl ⟨rfl, fun w hw => absurd hw (Nat.not_lt_zero w)⟩) (Nat.lt_succ_self _) hP hS (lv_sub hl [0, 1, 2, 3, 4, 5] rfl)
          exact K66 y q _ _ _ (dm_no hxe hd h53) hP hS (lv_sub hl [3, 2, 1, 0] rfl)
        · refine lv_aload_n hx hb dX1_peel_56 rfl (lv_at hl 3 rfl) ?_
          refine lv_iload_n hx hb dX1_peel_57 rfl (lv_at hl 2 rfl) ?_
          refine va_put (D := D) (ci := 1) (v := .int x) (ty := .int) (C := RX1) (T := TX1) (N := 10) hx hb hts hin tyX1 tyX1_ok nmX1 hown hK hP hD hS 0 rfl rfl 8 (by decide) hf76 (fun _ h9 => h9) rfl (by decide +kernel) rfl rfl (Nat.le_of_ble_eq_true rfl) dX1_peel_58 (fun H locs hP hD hS => ?_)
          have hP : va_P D vwCl (wM h b0 b1 b2 b3 b4 cy th N ch x (nI q) f cs be lf o1) H := hP
          have hD : va_D A (wM h b0 b1 b2 b3 b4 cy th N ch x (nI q) f cs be lf o1) := hD
          refine lv_aload_n hx hb dX1_peel_61 rfl (lv_at hl 3 rfl) ?_
          refine lv_iload_n hx hb dX1_peel_62 rfl (lv_at hl 0 rfl) ?_
          refine va_put (D := D) (ci := 1) (v := .int (nI (ewn f N x))) (ty := .int) (C := RX1) (T := TX1) (N := 10) hx hb hts hin tyX1 tyX1_ok nmX1 hown hK hP hD hS 0 rfl rfl 9 (by decide) hf79 (fun _ h9 => h9) rfl (by decide +kernel) rfl rfl (Nat.le_of_ble_eq_true rfl) dX1_peel_63 (fun H locs hP hD hS => ?_)
          have hP : va_P D vwCl (wM h b0 b1 b2 b3 b4 cy th N ch x (nI (ewn f N x)) f cs be lf o1) H := hP
          have hD : va_D A (wM h b0 b1 b2 b3 b4 cy th N ch x (nI (ewn f N x)) f cs be lf o1) := hD
          have K66 : ∀ (y2 : Int32) (q2 : Nat) (H : Heap) (locs : List Loc) (ls : Array Slot), ((dsk f N p0).2 = (y2, q2)) → va_P D vwCl (wM h b0 b1 b2 b3 b4 cy th N ch y2 (nI q2) f cs be lf o1) H → va_S A s.heap H locs → lv_has ls 7 [(0, .ref h), (1, .int x), (2, .int (nI p0)), (3, .int (nI (ewn f N x)))] → W p l e (headSpec wsX1_peel ({ frames := 2, cells := 0, slots := 0, locals := 45 } : Room)).room s m ([.ref h] : List Value).toArray below meth c H locs 0 0 (MQ below (va_Qv (fun (z9 : (Nat → Int32)) => ∀ w, w < N → z9 w = nI (npk f (dsk f N w).1 N).1) (fun (z9 : (Nat → Int32)) t => va_P D vwCl (wM h b0 b1 b2 b3 b4 cy th N ch ((dsk f N (N - 1)).2.1) (nI (dsk f N (N - 1)).2.2) f cs be lf z9) t.heap) A) ([.ref h] : List Value).toArray s 0 0 A) (F0 m 66 ls []) := by
            intro y2 q2 H locs ls hd2 hP hS hl
            have hD : va_D A (wM h b0 b1 b2 b3 b4 cy th N ch y2 (nI q2) f cs be lf o1) := zD hD rfl
            refine lv_iconst (v := (-1)) hx hb dX1_peel_66 (by decide) ?_
            refine lv_istore (lv' := [(4, .int (-1)), (0, .ref h), (1, .int x), (2, .int (nI p0)), (3, .int (nI (ewn f N x)))]) hx hb dX1_peel_67 hl (by decide) rfl (fun ls hl => ?_)
            refine lv_iconst (v := (nI 0)) hx hb dX1_peel_69 (by decide) ?_
            refine lv_istore (lv' := [(5, .int (nI 0)), (4, .int (-1)), (0, .ref h), (1, .int x), (2, .int (nI p0)), (3, .int (nI (ewn f N x)))]) hx hb dX1_peel_70 hl (by decide) rfl (fun ls hl => ?_)
            have K72 : ∀ (fu72 : Nat) (i : Nat) (a4 : Int32) (H : Heap) (locs : List Loc) (ls : Array Slot), (i ≤ N) → (fI f x i a4) → N - i < fu72 → va_P D vwCl (wM h b0 b1 b2 b3 b4 cy th N ch y2 (nI q2) f cs be lf o1) H → va_S A s.heap H locs → lv_has ls 7 [(5, .int (nI i)), (4, .int a4), (0, .ref h), (1, .int x), (2, .int (nI p0)), (3, .int (nI (ewn f N x)))] → W p l e (headSpec wsX1_peel ({ frames := 2, cells := 0, slots := 0, locals := 45 } : Room)).room s m ([.ref h] : List Value).toArray below meth c H locs 0 0 (MQ below (va_Qv (fun (z9 : (Nat → Int32)) => ∀ w, w < N → z9 w = nI (npk f (dsk f N w).1 N).1) (fun (z9 : (Nat → Int32)) t => va_P D vwCl (wM h b0 b1 b2 b3 b4 cy th N ch ((dsk f N (N - 1)).2.1) (nI (dsk f N (N - 1)).2.2) f cs be lf z9) t.heap) A) ([.ref h] : List Value).toArray s 0 0 A) (F0 m 72 ls []) := by
              intro fu72
              induction fu72 with
              | zero =>
                intro i a4 H locs ls hi hF hfu72
                exact absurd hfu72 (Nat.not_lt_zero _)
              | succ fu72 ih72 =>
                intro i a4 H locs ls hi hF hfu72 hP hS hl
                have hD : va_D A (wM h b0 b1 b2 b3 b4 cy th N ch y2 (nI q2) f cs be lf o1) := zD hD rfl
                refine lv_iload hx hb dX1_peel_72 (lv_at hl 0 rfl) ?_
                refine lv_aload_n hx hb dX1_peel_74 rfl (lv_at hl 2 rfl) ?_
                refine va_get (D := D) (ci := 1) (v := .int (nI N)) (C := RX1) (T := TX1) (N := 10) hx hb hts hin hown hK hP 0 rfl rfl 1 (by decide) hf29 (fun _ h9 => h9) rfl dX1_peel_75 ?_
                refine z_icmp_ge (tgt := 149) hx hb dX1_peel_78 (by decide) (by omega) (by omega) (fun h78 => ?_) (fun h78 => ?_)
                · obtain rfl : a4 = nI (npk f x N).1 := fI_end hxs (by rw [hxe, dsk_pop hg p0 hp0]; omega) (by rw [← Nat.le_antisymm hi h78]; exact hF)
                  refine lv_aload_n hx hb dX1_peel_149 rfl (lv_at hl 2 rfl) ?_
                  refine va_get (D := D) (ci := 1) (v := .ref b4) (C := RX1) (T := TX1) (N := 10) hx hb hts hin hown hK hP 0 rfl rfl 7 (by decide) hf22 (fun _ h9 => h9) rfl dX1_peel_150 ?_
                  refine lv_iload_n hx hb dX1_peel_153 rfl (lv_at hl 4 rfl) ?_
                  refine lv_iload hx hb dX1_peel_154 (lv_at hl 1 rfl) ?_
                  refine z_iast hx hb hK hP hD hS 5 0 rfl rfl (by omega) (by decide) dX1_peel_156 (fun H locs hP hS => ?_)
                  have hP : va_P D vwCl (wM h b0 b1 b2 b3 b4 cy th N ch y2 (nI q2) f cs be lf (upd o1 p0 (nI ((npk f x N).1)))) H := hP
                  have hD : va_D A (wM h b0 b1 b2 b3 b4 cy th N ch y2 (nI q2) f cs be lf (upd o1 p0 (nI ((npk f x N).1)))) := zD hD rfl
                  refine lv_iload_n hx hb dX1_peel_157 rfl (lv_at hl 3 rfl) ?_
                  refine lv_iconst (v := (nI 1)) hx hb dX1_peel_158 (by decide) ?_
                  refine lv_iload hx hb dX1_peel_159 (lv_at hl 1 rfl) ?_
                  refine lv_ishl hx hb dX1_peel_161 ?_
                  refine lv_iconst (v := (-1)) hx hb dX1_peel_162 (by decide) ?_
                  refine lv_ixor hx hb dX1_peel_163 ?_
                  refine lv_iand hx hb dX1_peel_164 ?_
                  refine lv_istore_n (lv' := [(1, .int (x &&& (((nI 1) <<< ((nI ((npk f x N).1)) &&& 31)) ^^^ (-1)))), (5, .int (nI i)), (4, .int (nI ((npk f x N).1))), (0, .ref h), (2, .int (nI p0)), (3, .int (nI (ewn f N x)))]) hx hb dX1_peel_165 rfl hl (by decide) rfl (fun ls hl => ?_)
                  refine lv_iinc (v := (nI (p0 + 1))) (lv' := [(2, .int (nI (p0 + 1))), (1, .int (x &&& (((nI 1) <<< ((nI ((npk f x N).1)) &&& 31)) ^^^ (-1)))), (5, .int (nI i)), (4, .int (nI ((npk f x N).1))), (0, .ref h), (3, .int (nI (ewn f N x)))]) hx hb dX1_peel_166 hl (k := 4) rfl (nI_1 _) (by decide) rfl (fun ls hl => ?_)
                  refine lv_goto (tgt := 21) hx hb dX1_peel_169 (by decide) ?_
                  exact ih21 (p0 + 1) (x &&& (((nI 1) <<< ((nI ((npk f x N).1)) &&& 31)) ^^^ (-1))) y2 q2 (upd o1 p0 (nI ((npk f x N).1))) _ _ _ (by omega) (by rw [dsk_1, ← hxe]; rfl) (by rw [Nat.add_sub_cancel]; exact hd2) (fun w hw => by by_cases e : w = p0; (rw [e, pk_us, ← hxe]); (rw [pk_un e]; exact ho w (by omega))) (by omega) hP hS (lv_sub hl [0, 1, 4] rfl)
                · refine lv_iload_n hx hb dX1_peel_81 rfl (lv_at hl 3 rfl) ?_
                  refine lv_iload hx hb dX1_peel_82 (lv_at hl 0 rfl) ?_
                  refine zrS0 (As := [.int x, .int (nI i)]) (rest := []) ⟨hx, hb, hml, hown, hts⟩ (c_X1_has l x i (by omega)) (va_cwS 2 hts gX1_peel_X1_has rfl rfl rfl (by decide +kernel) ⟨Nat.le_of_ble_eq_true rfl, Nat.le_of_ble_eq_true rfl⟩) rfl hl rfl (Nat.le_of_ble_eq_true rfl) dX1_peel_84 ⟨Nat.le_of_ble_eq_true rfl, Nat.le_of_ble_eq_true rfl⟩ hS (fun r84 H locs hw84 hk9 hS => ?_)
                  obtain rfl : r84 = (zb (bt x i)) := hw84
                  have hP := zkeep hP hk9
                  refine z_ifb_eq (tgt := 126) hx hb dX1_peel_87 (by decide) (fun h87 => ?_) (fun h87 => ?_)
                  · refine lv_iconst (v := (nI 0)) hx hb dX1_peel_126 (by decide) ?_
                    refine lv_istore (lv' := [(6, .int (nI 0)), (5, .int (nI i)), (4, .int a4), (0, .ref h), (1, .int x), (2, .int (nI p0)), (3, .int (nI (ewn f N x)))]) hx hb dX1_peel_127 hl (by decide) rfl (fun ls hl => ?_)
                    refine lv_iload hx hb dX1_peel_129 (lv_at hl 0 rfl) ?_
                    refine lv_if_eq (tgt := 139) hx hb dX1_peel_131 (by decide) (fun _ => ?_) (fun q => absurd (by decide) q)
                    refine lv_iload hx hb dX1_peel_139 (lv_at hl 2 rfl) ?_
                    refine lv_istore (lv' := [(4, .int a4), (6, .int (nI 0)), (5, .int (nI i)), (0, .ref h), (1, .int x), (2, .int (nI p0)), (3, .int (nI (ewn f N x)))]) hx hb dX1_peel_141 hl (by decide) rfl (fun ls hl => ?_)
                    refine lv_iinc (v := (nI (i + 1))) (lv' := [(5, .int (nI (i + 1))), (4, .int a4), (6, .int (nI 0)), (0, .ref h), (1, .int x), (2, .int (nI p0)), (3, .int (nI (ewn f N x)))]) hx hb dX1_peel_143 hl (k := 2) rfl (nI_1 _) (by decide) rfl (fun ls hl => ?_)
                    refine lv_goto (tgt := 72) hx hb dX1_peel_146 (by decide) ?_
                    exact ih72 (i + 1) a4 _ _ _ (by omega) (fI_no hF h87) (by omega) hP hS (lv_sub hl [0, 1, 3, 4, 5, 6] rfl)
                  · refine lv_iload hx hb dX1_peel_90 (lv_at hl 1 rfl) ?_
                    refine lv_if_lt (tgt := 122) hx hb dX1_peel_92 (by decide) (fun h92 => ?_) (fun h92 => ?_)
                    · refine lv_iconst (v := (nI 1)) hx hb dX1_peel_122 (by decide) ?_
                      refine lv_goto (tgt := 127) hx hb dX1_peel_123 (by decide) ?_
                      refine lv_istore (lv' := [(6, .int (nI 1)), (5, .int (nI i)), (4, .int a4), (0, .ref h), (1, .int x), (2, .int (nI p0)), (3, .int (nI (ewn f N x)))]) hx hb dX1_peel_127 hl (by decide) rfl (fun ls hl => ?_)
                      refine lv_iload hx hb dX1_peel_129 (lv_at hl 0 rfl) ?_
                      refine lv_if_eq (tgt := 139) hx hb dX1_peel_131 (by decide) (fun q => absurd q (by decide)) (fun _ => ?_)
                      refine lv_iload hx hb dX1_peel_134 (lv_at hl 1 rfl) ?_
                      refine lv_goto (tgt := 141) hx hb dX1_peel_136 (by decide) ?_
                      refine lv_istore (lv' := [(4, .int (nI i)), (6, .int (nI 1)), (5, .int (nI i)), (0, .ref h), (1, .int x), (2, .int (nI p0)), (3, .int (nI (ewn f N x)))]) hx hb dX1_peel_141 hl (by decide) rfl (fun ls hl => ?_)
                      refine lv_iinc (v := (nI (i + 1))) (lv' := [(5, .int (nI (i + 1))), (4, .int (nI i)), (6, .int (nI 1)), (0, .ref h), (1, .int x), (2, .int (nI p0)), (3, .int (nI (ewn f N x)))]) hx hb dX1_peel_143 hl (k := 2) rfl (nI_1 _) (by decide) rfl (fun ls hl => ?_)
                      refine lv_goto (tgt := 72) hx hb dX1_peel_146 (by decide) ?_
                      exact ih72 (i + 1) (nI i) _ _ _ (by omega) (fI_first hg h78 hF h87 h92) (by omega) hP hS (lv_sub hl [0, 1, 3, 4, 5, 6] rfl)
                    · obtain ⟨a, rfl, ha1, ha2, ha3⟩ := fI_get hF h92
                      refine lv_aload_n hx hb dX1_peel_95 rfl (lv_at hl 2 rfl) ?_
                      refine va_get (D := D) (ci := 1) (v := .ref b0) (C := RX1) (T := TX1) (N := 10) hx hb hts hin hown hK hP 0 rfl rfl 2 (by decide) hf7 (fun _ h9 => h9) rfl dX1_peel_96 ?_
                      refine lv_iload hx hb dX1_peel_99 (lv_at hl 0 rfl) ?_
                      refine z_iald hx hb hK hP 1 0 rfl rfl (by omega) (by decide) dX1_peel_101 ?_
                      refine lv_iload_n hx hb dX1_peel_102 rfl (lv_at hl 3 rfl) ?_
                      refine lv_iand hx hb dX1_peel_103 ?_
                      refine zrS0 (As := [.int ((f i) &&& x)]) (rest := []) ⟨hx, hb, hml, hown, hts⟩ (c_X1_sizeOf l ((f i) &&& x) (gd_20 hg (by omega) _)) (va_cwS 1 hts gX1_peel_X1_sizeOf rfl rfl rfl (by decide +kernel) ⟨Nat.le_of_ble_eq_true rfl, Nat.le_of_ble_eq_true rfl⟩) rfl hl rfl (Nat.le_of_ble_eq_true rfl) dX1_peel_104 ⟨Nat.le_of_ble_eq_true rfl, Nat.le_of_ble_eq_true rfl⟩ hS (fun r104 H locs hw104 hk9 hS => ?_)
                      obtain rfl : r104 = (nI (zpop ((f i) &&& x))) := hw104
                      have hP := zkeep hP hk9
                      refine lv_aload_n hx hb dX1_peel_107 rfl (lv_at hl 2 rfl) ?_
                      refine va_get (D := D) (ci := 1) (v := .ref b0) (C := RX1) (T := TX1) (N := 10) hx hb hts hin hown hK hP 0 rfl rfl 2 (by decide) hf7 (fun _ h9 => h9) rfl dX1_peel_108 ?_
                      refine lv_iload hx hb dX1_peel_111 (lv_at hl 1 rfl) ?_
                      refine z_iald hx hb hK hP 1 0 rfl rfl (by omega) (by decide) dX1_peel_113 ?_
                      refine lv_iload_n hx hb dX1_peel_114 rfl (lv_at hl 3 rfl) ?_
                      refine lv_iand hx hb dX1_peel_115 ?_
                      refine zrS0 (As := [.int ((f a) &&& x)]) (rest := [.int (nI (zpop ((f i) &&& x)))]) ⟨hx, hb, hml, hown, hts⟩ (c_X1_sizeOf l ((f a) &&& x) (gd_20 hg (by omega) _)) (va_cwS 1 hts gX1_peel_X1_sizeOf rfl rfl rfl (by decide +kernel) ⟨Nat.le_of_ble_eq_true rfl, Nat.le_of_ble_eq_true rfl⟩) rfl hl rfl (Nat.le_of_ble_eq_true rfl) dX1_peel_116 ⟨Nat.le_of_ble_eq_true rfl, Nat.le_of_ble_eq_true rfl⟩ hS (fun r116 H locs hw116 hk9 hS => ?_)
                      obtain rfl : r116 = (nI (zpop ((f a) &&& x))) := hw116
                      have hP := zkeep hP hk9
                      refine z_icmp_ge (tgt := 126) hx hb dX1_peel_119 (by decide) (pop_31 _) (pop_31 _) (fun h119 => ?_) (fun h119 => ?_)
                      · refine lv_iconst (v := (nI 0)) hx hb dX1_peel_126 (by decide) ?_
                        refine lv_istore (lv' := [(6, .int (nI 0)), (5, .int (nI i)), (4, .int (nI a)), (0, .ref h), (1, .int x), (2, .int (nI p0)), (3, .int (nI (ewn f N x)))]) hx hb dX1_peel_127 hl (by decide) rfl (fun ls hl => ?_)
                        refine lv_iload hx hb dX1_peel_129 (lv_at hl 0 rfl) ?_
                        refine lv_if_eq (tgt := 139) hx hb dX1_peel_131 (by decide) (fun _ => ?_) (fun q => absurd (by decide) q)
                        refine lv_iload hx hb dX1_peel_139 (lv_at hl 2 rfl) ?_
                        refine lv_istore (lv' := [(4, .int (nI a)), (6, .int (nI 0)), (5, .int (nI i)), (0, .ref h), (1, .int x), (2, .int (nI p0)), (3, .int (nI (ewn f N x)))]) hx hb dX1_peel_141 hl (by decide) rfl (fun ls hl => ?_)
                        refine lv_iinc (v := (nI (i + 1))) (lv' := [(5, .int (nI (i + 1))), (4, .int (nI a)), (6, .int (nI 0)), (0, .ref h), (1, .int x), (2, .int (nI p0)), (3, .int (nI (ewn f N x)))]) hx hb dX1_peel_143 hl (k := 2) rfl (nI_1 _) (by decide) rfl (fun ls hl => ?_)
                        refine lv_goto (tgt := 72) hx hb dX1_peel_146 (by decide) ?_
                        exact ih72 (i + 1) (nI a) _ _ _ (by omega) (fI_more ha1 ha2 ha3 h119) (by omega) hP hS (lv_sub hl [0, 1, 3, 4, 5, 6] rfl)
                      · refine lv_iconst (v := (nI 1)) hx hb dX1_peel_122 (by decide) ?_
                        refine lv_goto (tgt := 127) hx hb dX1_peel_123 (by decide) ?_
                        refine lv_istore (lv' := [(6, .int (nI 1)), (5, .int (nI i)), (4, .int (nI a)), (0, .ref h), (1, .int x), (2, .int (nI p0)), (3, .int (nI (ewn f N x)))]) hx hb dX1_peel_127 hl (by decide) rfl (fun ls hl => ?_)
                        refine lv_iload hx hb dX1_peel_129 (lv_at hl 0 rfl) ?_
                        refine lv_if_eq (tgt := 139) hx hb dX1_peel_131 (by decide) (fun q => absurd q (by decide)) (fun _ => ?_)
                        refine lv_iload hx hb dX1_peel_134 (lv_at hl 1 rfl) ?_
                        refine lv_goto (tgt := 141) hx hb dX1_peel_136 (by decide) ?_
                        refine lv_istore (lv' := [(4, .int (nI i)), (6, .int (nI 1)), (5, .int (nI i)), (0, .ref h), (1, .int x), (2, .int (nI p0)), (3, .int (nI (ewn f N x)))]) hx hb dX1_peel_141 hl (by decide) rfl (fun ls hl => ?_)
                        refine lv_iinc (v := (nI (i + 1))) (lv' := [(5, .int (nI (i + 1))), (4, .int (nI i)), (6, .int (nI 1)), (0, .ref h), (1, .int x), (2, .int (nI p0)), (3, .int (nI (ewn f N x)))]) hx hb dX1_peel_143 hl (k := 2) rfl (nI_1 _) (by decide) rfl (fun ls hl => ?_)
                        refine lv_goto (tgt := 72) hx hb dX1_peel_146 (by decide) ?_
                        exact ih72 (i + 1) (nI i) _ _ _ (by omega) (fI_less h87 ha3 h119) (by omega) hP hS (lv_sub hl [0, 1, 3, 4, 5, 6] rfl)
            exact K72 (N - 0 + 1) 0 (-1) _ _ _ (by omega) (Or.inl ⟨rfl, fun w hw => absurd hw (Nat.not_lt_zero w)⟩) (Nat.lt_succ_self _) hP hS (lv_sub hl [0, 1, 2, 3, 4, 5] rfl)
          exact K66 x (ewn f N x) _ _ _ (dm_yes hxe hd h53) hP hS (lv_sub hl [3, 2, 1, 0] rfl)
  exact K21 (N - 0 + 1) 0 (zal N) (zal N) (ewn f N (zal N)) od _ _ _ (by omega) rfl rfl (fun w hw => absurd hw (Nat.not_lt_zero w)) (Nat.lt_succ_self _) hP hS (lv_sub hl [0, 1, 2] rfl)

set_option maxHeartbeats 4000000 in
set_option maxRecDepth 100000 in
theorem c_X1_peeled_ok (l : Launch) (D : va_G) (cy : ClassId) (h b0 b1 b2 b3 b4 : Nat) (th : Int32) (N : Nat) (ch ds de : Int32) (f cs be lf od : Nat → Int32) (sz : Nat) (u : Nat) (hN : N ≤ 20) (hg : gd f N) (hu : u < N) : Met l yX1_peeled wsX1_peeled ({ frames := 3, cells := 0, slots := 0, locals := 71 } : Room) (va_Pc [.ref h, .int (nI u)] (zWr D (wM h b0 b1 b2 b3 b4 cy th N ch ds de f cs be lf od) [(cy, .int)] sz)) (va_Qi (fun (r : Int32) (z9 : (Nat → Int32)) => r = nI (npk f (dsk f N u).1 N).1) (fun (z9 : (Nat → Int32)) t => va_P D vwCl (wM h b0 b1 b2 b3 b4 cy (nI 0) N ch ((dsk f N (N - 1)).2.1) (nI (dsk f N (N - 1)).2.2) f cs be lf z9) t.heap) (va_A (wM h b0 b1 b2 b3 b4 cy th N ch ds de f cs be lf od) sz)) 0 0 (va_A (wM h b0 b1 b2 b3 b4 cy th N ch ds de f cs be lf od) sz) := by
  refine Met.ofW (cc := cX1_peeled) (maxL := 2) (ret := (some .int)) (by decide) rfl ?_
  intro p e s m args below meth c s₁ B hml hv
  obtain ⟨rfl, hsz, hP, hK, hD0⟩ := hv
  have hx := B.exec
  have hb := B.bytes
  have hr := B.returns
  have hts := atoms_spec (ws := wsX1_peeled) B.pre
  have hown : s.vm.findClass RX1 = some m.cls := findClass_of_methodNamed B.named
  have hlocks := B.notSynchronized
  subst hsz
  have hD := hD0.self (sz := s.heap.size)
  generalize hAe : va_A (wM h b0 b1 b2 b3 b4 cy th N ch ds de f cs be lf od) s.heap.size = A at hD ⊢
  have hA : ∀ q : Nat, s.heap.size ≤ q → A q := fun q h => by rw [← hAe]; exact Or.inr h
  have hS : va_S A s.heap s.heap [] := va_S.rf
  have hin : ∀ w ∈ wsX10, w ∈ wsX1_peeled := by decide +kernel
  have hf22 := hts (.fieldLink RX1 22 "CorebarnModel" "order" "[I") (by decide +kernel)
  have hl := lv_entry ([.ref h, .int (nI u)]) (n := 2) (Nat.le_of_ble_eq_true rfl)
  rw [lg_entry_eq]
  generalize (lg_sl ([.ref h, .int (nI u)]) ++ List.replicate (2 - (lg_sl ([.ref h, .int (nI u)])).length) Slot.unset).toArray = ls at hl ⊢
  have hl : lv_has ls 2 [(0, .ref h), (1, .int (nI u))] := hl
  refine lv_aload_n hx hb dX1_peeled_0 rfl (lv_at hl 0 rfl) ?_
  refine lv_aload_n hx hb dX1_peeled_1 rfl (lv_at hl 0 rfl) ?_
  refine lv_iload_n hx hb dX1_peeled_2 rfl (lv_at hl 1 rfl) ?_
  refine zrV (As := [.int (nI u)]) (rest := [.ref h]) 0 ⟨hx, hb, hml, hown, hts⟩ (c_X1_isNode l D cy h b0 b1 b2 b3 b4 th N ch ds de f cs be lf od (nI u)) (cwV 1 hts gX1_peeled_X1_isNode rfl rfl rfl (by decide +kernel) ⟨Nat.le_of_ble_eq_true rfl, Nat.le_of_ble_eq_true rfl⟩) hK hP rfl rfl rfl hl rfl (Nat.le_of_ble_eq_true rfl) dX1_peeled_3 ⟨Nat.le_of_ble_eq_true rfl, Nat.le_of_ble_eq_true rfl⟩ hS (fun r3 H locs hw3 hk9 hS => ?_)
  obtain rfl : r3 = (zb (isNb (nI u) N)) := hw3
  have hP := zkeep hP hk9
  rw [isNb_y hu hN]
  refine z_ifb_true (tgt := 13) hx hb dX1_peeled_6 (by decide) ?_
  refine lv_iconst (v := (nI 0)) hx hb dX1_peeled_9 (by decide) ?_
  refine lv_goto (tgt := 14) hx hb dX1_peeled_10 (by decide) ?_
  refine zwVi (As := [.int (nI 0)]) (rest := []) 0 [0, 1, 2, 3, 4, 5] rfl ⟨hx, hb, hml, hown, hts⟩ (c_X1_goesWell l D cy h b0 b1 b2 b3 b4 th N ch ds de f cs be lf od _ 0 (by omega)) (cwV 1 hts gX1_peeled_X1_goesWell rfl rfl rfl (by decide +kernel) ⟨Nat.le_of_ble_eq_true rfl, Nat.le_of_ble_eq_true rfl⟩) hK hP hD hA rfl rfl rfl hl rfl (Nat.le_of_ble_eq_true rfl) dX1_peeled_14 ⟨Nat.le_of_ble_eq_true rfl, Nat.le_of_ble_eq_true rfl⟩ hS (fun r14 u14 H locs hw14 hP hS => ?_)
  have hP : va_P D vwCl (wM h b0 b1 b2 b3 b4 cy (nI 0) N ch ds de f cs be lf od) H := hP
  have hD : va_D A (wM h b0 b1 b2 b3 b4 cy (nI 0) N ch ds de f cs be lf od) := zD hD rfl
  obtain rfl : r14 = (zb true) := hw14
  refine z_ifb_true_ne (tgt := 22) hx hb dX1_peeled_17 (by decide) ?_
  refine lv_aload_n hx hb dX1_peeled_22 rfl (lv_at hl 0 rfl) ?_
  refine zwVv (As := []) (rest := []) 0 [0, 1, 2, 3, 4, 5] rfl ⟨hx, hb, hml, hown, hts⟩ (c_X1_peel l D cy h b0 b1 b2 b3 b4 (nI 0) N ch ds de f cs be lf od _ hN hg) (cwV 0 hts gX1_peeled_X1_peel rfl rfl rfl (by decide +kernel) ⟨Nat.le_of_ble_eq_true rfl, Nat.le_of_ble_eq_true rfl⟩) hK hP hD hA rfl rfl rfl hl rfl (Nat.le_of_ble_eq_true rfl) dX1_peeled_23 ⟨Nat.le_of_ble_eq_true rfl, Nat.le_of_ble_eq_true rfl⟩ hS (fun u23 H locs hw23 hP hS => ?_)
  obtain ⟨od_23, rfl⟩ : ∃ z, z = u23 := ⟨_, rfl⟩
  have hP : va_P D vwCl (wM h b0 b1 b2 b3 b4 cy (nI 0) N ch ((dsk f N (N - 1)).2.1) (nI (dsk f N (N - 1)).2.2) f cs be lf od_23) H := hP
  have hD : va_D A (wM h b0 b1 b2 b3 b4 cy (nI 0) N ch ((dsk f N (N - 1)).2.1) (nI (dsk f N (N - 1)).2.2) f cs be lf od_23) := zD hD rfl
  have hw23 : ∀ w, w < N → od_23 w = nI (npk f (dsk f N w).1 N).1 := hw23
  refine lv_aload_n hx hb dX1_peeled_26 rfl (lv_at hl 0 rfl) ?_
  refine va_get (D := D) (ci := 1) (v := .ref b4) (C := RX1) (T := TX1) (N := 10) hx hb hts hin hown hK hP 0 rfl rfl 7 (by decide) hf22 (fun _ h9 => h9) rfl dX1_peeled_27 ?_
  refine lv_iload_n hx hb dX1_peeled_30 rfl (lv_at hl 1 rfl) ?_
  refine z_iald hx hb hK hP 5 0 rfl rfl (by omega) (by decide) dX1_peeled_31 ?_
  rw [hw23 u hu]
  exact W.iret (v := (nI ((npk f (dsk f N u).1 N).1))) hx hb hr (fun t9 ht9 hW9 => ⟨⟨(nI ((npk f (dsk f N u).1 N).1)), od_23, rfl, rfl, by show va_P D vwCl (wM h b0 b1 b2 b3 b4 cy (nI 0) N ch ((dsk f N (N - 1)).2.1) (nI (dsk f N (N - 1)).2.2) f cs be lf od_23) t9.heap; rw [ht9]; exact hP⟩, hS.F ht9⟩) hS.2.2 dX1_peeled_32

set_option maxHeartbeats 4000000 in
set_option maxRecDepth 100000 in
theorem c_X1_denseSize (l : Launch) (D : va_G) (cy : ClassId) (h b0 b1 b2 b3 b4 : Nat) (th : Int32) (N : Nat) (ch ds de : Int32) (f cs be lf od : Nat → Int32) (sz : Nat) (hN : N ≤ 20) (hg : gd f N) : Met l yX1_denseSize wsX1_denseSize ({ frames := 3, cells := 0, slots := 0, locals := 71 } : Room) (va_Pc [.ref h] (zWr D (wM h b0 b1 b2 b3 b4 cy th N ch ds de f cs be lf od) [(cy, .int)] sz)) (va_Qi (fun (r : Int32) (z9 : (Nat → Int32)) => r = nI (zpop (dsk f N (N - 1)).2.1)) (fun (z9 : (Nat → Int32)) t => va_P D vwCl (wM h b0 b1 b2 b3 b4 cy (nI 0) N ch ((dsk f N (N - 1)).2.1) (nI (dsk f N (N - 1)).2.2) f cs be lf z9) t.heap) (va_A (wM h b0 b1 b2 b3 b4 cy th N ch ds de f cs be lf od) sz)) 0 0 (va_A (wM h b0 b1 b2 b3 b4 cy th N ch ds de f cs be lf od) sz) := by
  refine Met.ofW (cc := cX1_denseSize) (maxL := 1) (ret := (some .int)) (by decide) rfl ?_
  intro p e s m args below meth c s₁ B hml hv
  obtain ⟨rfl, hsz, hP, hK, hD0⟩ := hv
  have hx := B.exec
  have hb := B.bytes
  have hr := B.returns
  have hts := atoms_spec (ws := wsX1_denseSize) B.pre
  have hown : s.vm.findClass RX1 = some m.cls := findClass_of_methodNamed B.named
  have hlocks := B.notSynchronized
  subst hsz
  have hD := hD0.self (sz := s.heap.size)
  generalize hAe : va_A (wM h b0 b1 b2 b3 b4 cy th N ch ds de f cs be lf od) s.heap.size = A at hD ⊢
  have hA : ∀ q : Nat, s.heap.size ≤ q → A q := fun q h => by rw [← hAe]; exact Or.inr h
  have hS : va_S A s.heap s.heap [] := va_S.rf
  have hin : ∀ w ∈ wsX10, w ∈ wsX1_denseSize := by decide +kernel
  have hf25 := hts (.fieldLink RX1 25 "CorebarnModel" "thrown" "I") (by decide +kernel)
  have hf76 := hts (.fieldLink RX1 76 "CorebarnModel" "denseSet" "I") (by decide +kernel)
  have hl := lv_entry ([.ref h]) (n := 1) (Nat.le_of_ble_eq_true rfl)
  rw [lg_entry_eq]
  generalize (lg_sl ([.ref h]) ++ List.replicate (1 - (lg_sl ([.ref h])).length) Slot.unset).toArray = ls at hl ⊢
  have hl : lv_has ls 1 [(0, .ref h)] := hl
  refine lv_aload_n hx hb dX1_denseSize_0 rfl (lv_at hl 0 rfl) ?_
  refine lv_iconst (v := (nI 0)) hx hb dX1_denseSize_1 (by decide) ?_
  refine va_put (D := D) (ci := 1) (v := .int (nI 0)) (ty := .int) (C := RX1) (T := TX1) (N := 10) hx hb hts hin tyX1 tyX1_ok nmX1 hown hK hP hD hS 0 rfl rfl 0 (by decide) hf25 (fun _ h9 => h9) rfl (by decide +kernel) rfl rfl (Nat.le_of_ble_eq_true rfl) dX1_denseSize_2 (fun H locs hP hD hS => ?_)
  have hP : va_P D vwCl (wM h b0 b1 b2 b3 b4 cy (nI 0) N ch ds de f cs be lf od) H := hP
  have hD : va_D A (wM h b0 b1 b2 b3 b4 cy (nI 0) N ch ds de f cs be lf od) := hD
  refine lv_aload_n hx hb dX1_denseSize_5 rfl (lv_at hl 0 rfl) ?_
  refine zwVv (As := []) (rest := []) 0 [0, 1, 2, 3, 4, 5] rfl ⟨hx, hb, hml, hown, hts⟩ (c_X1_peel l D cy h b0 b1 b2 b3 b4 (nI 0) N ch ds de f cs be lf od _ hN hg) (cwV 0 hts gX1_denseSize_X1_peel rfl rfl rfl (by decide +kernel) ⟨Nat.le_of_ble_eq_true rfl, Nat.le_of_ble_eq_true rfl⟩) hK hP hD hA rfl rfl rfl hl rfl (Nat.le_of_ble_eq_true rfl) dX1_denseSize_6 ⟨Nat.le_of_ble_eq_true rfl, Nat.le_of_ble_eq_true rfl⟩ hS (fun u6 H locs hw6 hP hS => ?_)
  obtain ⟨od_6, rfl⟩ : ∃ z, z = u6 := ⟨_, rfl⟩
  have hP : va_P D vwCl (wM h b0 b1 b2 b3 b4 cy (nI 0) N ch ((dsk f N (N - 1)).2.1) (nI (dsk f N (N - 1)).2.2) f cs be lf od_6) H := hP
  have hD : va_D A (wM h b0 b1 b2 b3 b4 cy (nI 0) N ch ((dsk f N (N - 1)).2.1) (nI (dsk f N (N - 1)).2.2) f cs be lf od_6) := zD hD rfl
  have hw6 : ∀ w, w < N → od_6 w = nI (npk f (dsk f N w).1 N).1 := hw6
  refine lv_aload_n hx hb dX1_denseSize_9 rfl (lv_at hl 0 rfl) ?_
  refine va_get (D := D) (ci := 1) (v := .int ((dsk f N (N - 1)).2.1)) (C := RX1) (T := TX1) (N := 10) hx hb hts hin hown hK hP 0 rfl rfl 8 (by decide) hf76 (fun _ h9 => h9) rfl dX1_denseSize_10 ?_
  refine zrS0 (As := [.int ((dsk f N (N - 1)).2.1)]) (rest := []) ⟨hx, hb, hml, hown, hts⟩ (c_X1_sizeOf l ((dsk f N (N - 1)).2.1) (zsub20 hN (sub_le (dsk_sub hN _).2.1 (sub_al hN)))) (va_cwS 1 hts gX1_denseSize_X1_sizeOf rfl rfl rfl (by decide +kernel) ⟨Nat.le_of_ble_eq_true rfl, Nat.le_of_ble_eq_true rfl⟩) rfl hl rfl (Nat.le_of_ble_eq_true rfl) dX1_denseSize_13 ⟨Nat.le_of_ble_eq_true rfl, Nat.le_of_ble_eq_true rfl⟩ hS (fun r13 H locs hw13 hk9 hS => ?_)
  obtain rfl : r13 = (nI (zpop ((dsk f N (N - 1)).2.1))) := hw13
  have hP := zkeep hP hk9
  exact W.iret (v := (nI (zpop ((dsk f N (N - 1)).2.1)))) hx hb hr (fun t9 ht9 hW9 => ⟨⟨(nI (zpop ((dsk f N (N - 1)).2.1))), od_6, rfl, rfl, by show va_P D vwCl (wM h b0 b1 b2 b3 b4 cy (nI 0) N ch ((dsk f N (N - 1)).2.1) (nI (dsk f N (N - 1)).2.2) f cs be lf od_6) t9.heap; rw [ht9]; exact hP⟩, hS.F ht9⟩) hS.2.2 dX1_denseSize_16

set_option maxHeartbeats 4000000 in
set_option maxRecDepth 100000 in
theorem c_X1_isDense_ok (l : Launch) (D : va_G) (cy : ClassId) (h b0 b1 b2 b3 b4 : Nat) (th : Int32) (N : Nat) (ch ds de : Int32) (f cs be lf od : Nat → Int32) (sz : Nat) (u : Nat) (hN : N ≤ 20) (hg : gd f N) (hu : u < N) : Met l yX1_isDense wsX1_isDense ({ frames := 3, cells := 0, slots := 0, locals := 71 } : Room) (va_Pc [.ref h, .int (nI u)] (zWr D (wM h b0 b1 b2 b3 b4 cy th N ch ds de f cs be lf od) [(cy, .int)] sz)) (va_Qi (fun (r : Int32) (z9 : (Nat → Int32)) => r = zb (bt (dsk f N (N - 1)).2.1 u)) (fun (z9 : (Nat → Int32)) t => va_P D vwCl (wM h b0 b1 b2 b3 b4 cy (nI 0) N ch ((dsk f N (N - 1)).2.1) (nI (dsk f N (N - 1)).2.2) f cs be lf z9) t.heap) (va_A (wM h b0 b1 b2 b3 b4 cy th N ch ds de f cs be lf od) sz)) 0 0 (va_A (wM h b0 b1 b2 b3 b4 cy th N ch ds de f cs be lf od) sz) := by
  refine Met.ofW (cc := cX1_isDense) (maxL := 2) (ret := (some .boolean)) (by decide) rfl ?_
  intro p e s m args below meth c s₁ B hml hv
  obtain ⟨rfl, hsz, hP, hK, hD0⟩ := hv
  have hx := B.exec
  have hb := B.bytes
  have hr := B.returns
  have hts := atoms_spec (ws := wsX1_isDense) B.pre
  have hown : s.vm.findClass RX1 = some m.cls := findClass_of_methodNamed B.named
  have hlocks := B.notSynchronized
  subst hsz
  have hD := hD0.self (sz := s.heap.size)
  generalize hAe : va_A (wM h b0 b1 b2 b3 b4 cy th N ch ds de f cs be lf od) s.heap.size = A at hD ⊢
  have hA : ∀ q : Nat, s.heap.size ≤ q → A q := fun q h => by rw [← hAe]; exact Or.inr h
  have hS : va_S A s.heap s.heap [] := va_S.rf
  have hin : ∀ w ∈ wsX10, w ∈ wsX1_isDense := by decide +kernel
  have hf76 := hts (.fieldLink RX1 76 "CorebarnModel" "denseSet" "I") (by decide +kernel)
  have hl := lv_entry ([.ref h, .int (nI u)]) (n := 2) (Nat.le_of_ble_eq_true rfl)
  rw [lg_entry_eq]
  generalize (lg_sl ([.ref h, .int (nI u)]) ++ List.replicate (2 - (lg_sl ([.ref h, .int (nI u)])).length) Slot.unset).toArray = ls at hl ⊢
  have hl : lv_has ls 2 [(0, .ref h), (1, .int (nI u))] := hl
  refine lv_aload_n hx hb dX1_isDense_0 rfl (lv_at hl 0 rfl) ?_
  refine lv_aload_n hx hb dX1_isDense_1 rfl (lv_at hl 0 rfl) ?_
  refine lv_iload_n hx hb dX1_isDense_2 rfl (lv_at hl 1 rfl) ?_
  refine zrV (As := [.int (nI u)]) (rest := [.ref h]) 0 ⟨hx, hb, hml, hown, hts⟩ (c_X1_isNode l D cy h b0 b1 b2 b3 b4 th N ch ds de f cs be lf od (nI u)) (cwV 1 hts gX1_isDense_X1_isNode rfl rfl rfl (by decide +kernel) ⟨Nat.le_of_ble_eq_true rfl, Nat.le_of_ble_eq_true rfl⟩) hK hP rfl rfl rfl hl rfl (Nat.le_of_ble_eq_true rfl) dX1_isDense_3 ⟨Nat.le_of_ble_eq_true rfl, Nat.le_of_ble_eq_true rfl⟩ hS (fun r3 H locs hw3 hk9 hS => ?_)
  obtain rfl : r3 = (zb (isNb (nI u) N)) := hw3
  have hP := zkeep hP hk9
  rw [isNb_y hu hN]
  refine z_ifb_true (tgt := 13) hx hb dX1_isDense_6 (by decide) ?_
  refine lv_iconst (v := (nI 0)) hx hb dX1_isDense_9 (by decide) ?_
  refine lv_goto (tgt := 14) hx hb dX1_isDense_10 (by decide) ?_
  refine zwVi (As := [.int (nI 0)]) (rest := []) 0 [0, 1, 2, 3, 4, 5] rfl ⟨hx, hb, hml, hown, hts⟩ (c_X1_goesWell l D cy h b0 b1 b2 b3 b4 th N ch ds de f cs be lf od _ 0 (by omega)) (cwV 1 hts gX1_isDense_X1_goesWell rfl rfl rfl (by decide +kernel) ⟨Nat.le_of_ble_eq_true rfl, Nat.le_of_ble_eq_true rfl⟩) hK hP hD hA rfl rfl rfl hl rfl (Nat.le_of_ble_eq_true rfl) dX1_isDense_14 ⟨Nat.le_of_ble_eq_true rfl, Nat.le_of_ble_eq_true rfl⟩ hS (fun r14 u14 H locs hw14 hP hS => ?_)
  have hP : va_P D vwCl (wM h b0 b1 b2 b3 b4 cy (nI 0) N ch ds de f cs be lf od) H := hP
  have hD : va_D A (wM h b0 b1 b2 b3 b4 cy (nI 0) N ch ds de f cs be lf od) := zD hD rfl
  obtain rfl : r14 = (zb true) := hw14
  refine z_ifb_true_ne (tgt := 22) hx hb dX1_isDense_17 (by decide) ?_
  refine lv_aload_n hx hb dX1_isDense_22 rfl (lv_at hl 0 rfl) ?_
  refine zwVv (As := []) (rest := []) 0 [0, 1, 2, 3, 4, 5] rfl ⟨hx, hb, hml, hown, hts⟩ (c_X1_peel l D cy h b0 b1 b2 b3 b4 (nI 0) N ch ds de f cs be lf od _ hN hg) (cwV 0 hts gX1_isDense_X1_peel rfl rfl rfl (by decide +kernel) ⟨Nat.le_of_ble_eq_true rfl, Nat.le_of_ble_eq_true rfl⟩) hK hP hD hA rfl rfl rfl hl rfl (Nat.le_of_ble_eq_true rfl) dX1_isDense_23 ⟨Nat.le_of_ble_eq_true rfl, Nat.le_of_ble_eq_true rfl⟩ hS (fun u23 H locs hw23 hP hS => ?_)
  obtain ⟨od_23, rfl⟩ : ∃ z, z = u23 := ⟨_, rfl⟩
  have hP : va_P D vwCl (wM h b0 b1 b2 b3 b4 cy (nI 0) N ch ((dsk f N (N - 1)).2.1) (nI (dsk f N (N - 1)).2.2) f cs be lf od_23) H := hP
  have hD : va_D A (wM h b0 b1 b2 b3 b4 cy (nI 0) N ch ((dsk f N (N - 1)).2.1) (nI (dsk f N (N - 1)).2.2) f cs be lf od_23) := zD hD rfl
  have hw23 : ∀ w, w < N → od_23 w = nI (npk f (dsk f N w).1 N).1 := hw23
  refine lv_aload_n hx hb dX1_isDense_26 rfl (lv_at hl 0 rfl) ?_
  refine va_get (D := D) (ci := 1) (v := .int ((dsk f N (N - 1)).2.1)) (C := RX1) (T := TX1) (N := 10) hx hb hts hin hown hK hP 0 rfl rfl 8 (by decide) hf76 (fun _ h9 => h9) rfl dX1_isDense_27 ?_
  refine lv_iload_n hx hb dX1_isDense_30 rfl (lv_at hl 1 rfl) ?_
  refine zrS0 (As := [.int ((dsk f N (N - 1)).2.1), .int (nI u)]) (rest := []) ⟨hx, hb, hml, hown, hts⟩ (c_X1_has l ((dsk f N (N - 1)).2.1) u (by omega)) (va_cwS 2 hts gX1_isDense_X1_has rfl rfl rfl (by decide +kernel) ⟨Nat.le_of_ble_eq_true rfl, Nat.le_of_ble_eq_true rfl⟩) rfl hl rfl (Nat.le_of_ble_eq_true rfl) dX1_isDense_31 ⟨Nat.le_of_ble_eq_true rfl, Nat.le_of_ble_eq_true rfl⟩ hS (fun r31 H locs hw31 hk9 hS => ?_)
  obtain rfl : r31 = (zb (bt ((dsk f N (N - 1)).2.1) u)) := hw31
  have hP := zkeep hP hk9
  exact W.zret (v := (zb (bt ((dsk f N (N - 1)).2.1) u))) (ty := .boolean) hx hb hr (zb_nar _) (fun t9 ht9 hW9 => ⟨⟨(zb (bt ((dsk f N (N - 1)).2.1) u)), od_23, rfl, rfl, by show va_P D vwCl (wM h b0 b1 b2 b3 b4 cy (nI 0) N ch ((dsk f N (N - 1)).2.1) (nI (dsk f N (N - 1)).2.2) f cs be lf od_23) t9.heap; rw [ht9]; exact hP⟩, hS.F ht9⟩) hS.2.2 dX1_isDense_34

set_option maxHeartbeats 4000000 in
set_option maxRecDepth 100000 in
theorem c_X1_peeled_bad (l : Launch) (D : va_G) (cy : ClassId) (h b0 b1 b2 b3 b4 : Nat) (th : Int32) (N : Nat) (ch ds de : Int32) (f cs be lf od : Nat → Int32) (sz : Nat) (q : Int32) (hq : isNb q N = false) : Met l yX1_peeled wsX1_peeled ({ frames := 3, cells := 0, slots := 0, locals := 71 } : Room) (va_Pc [.ref h, .int q] (zWr D (wM h b0 b1 b2 b3 b4 cy th N ch ds de f cs be lf od) [(cy, .int)] sz)) (va_Qi (fun (r : Int32) (z9 : Unit) => r = nI 0) (fun (z9 : Unit) t => va_P D vwCl (wM h b0 b1 b2 b3 b4 cy (nI 1) N ch ds de f cs be lf od) t.heap) (va_A (wM h b0 b1 b2 b3 b4 cy th N ch ds de f cs be lf od) sz)) 0 0 (va_A (wM h b0 b1 b2 b3 b4 cy th N ch ds de f cs be lf od) sz) := by
  refine Met.ofW (cc := cX1_peeled) (maxL := 2) (ret := (some .int)) (by decide) rfl ?_
  intro p e s m args below meth c s₁ B hml hv
  obtain ⟨rfl, hsz, hP, hK, hD0⟩ := hv
  have hx := B.exec
  have hb := B.bytes
  have hr := B.returns
  have hts := atoms_spec (ws := wsX1_peeled) B.pre
  have hown : s.vm.findClass RX1 = some m.cls := findClass_of_methodNamed B.named
  have hlocks := B.notSynchronized
  subst hsz
  have hD := hD0.self (sz := s.heap.size)
  generalize hAe : va_A (wM h b0 b1 b2 b3 b4 cy th N ch ds de f cs be lf od) s.heap.size = A at hD ⊢
  have hA : ∀ q : Nat, s.heap.size ≤ q → A q := fun q h => by rw [← hAe]; exact Or.inr h
  have hS : va_S A s.heap s.heap [] := va_S.rf
  have hin : ∀ w ∈ wsX10, w ∈ wsX1_peeled := by decide +kernel
  have hf22 := hts (.fieldLink RX1 22 "CorebarnModel" "order" "[I") (by decide +kernel)
  have hl := lv_entry ([.ref h, .int q]) (n := 2) (Nat.le_of_ble_eq_true rfl)
  rw [lg_entry_eq]
  generalize (lg_sl ([.ref h, .int q]) ++ List.replicate (2 - (lg_sl ([.ref h, .int q])).length) Slot.unset).toArray = ls at hl ⊢
  have hl : lv_has ls 2 [(0, .ref h), (1, .int q)] := hl
  refine lv_aload_n hx hb dX1_peeled_0 rfl (lv_at hl 0 rfl) ?_
  refine lv_aload_n hx hb dX1_peeled_1 rfl (lv_at hl 0 rfl) ?_
  refine lv_iload_n hx hb dX1_peeled_2 rfl (lv_at hl 1 rfl) ?_
  refine zrV (As := [.int q]) (rest := [.ref h]) 0 ⟨hx, hb, hml, hown, hts⟩ (c_X1_isNode l D cy h b0 b1 b2 b3 b4 th N ch ds de f cs be lf od q) (cwV 1 hts gX1_peeled_X1_isNode rfl rfl rfl (by decide +kernel) ⟨Nat.le_of_ble_eq_true rfl, Nat.le_of_ble_eq_true rfl⟩) hK hP rfl rfl rfl hl rfl (Nat.le_of_ble_eq_true rfl) dX1_peeled_3 ⟨Nat.le_of_ble_eq_true rfl, Nat.le_of_ble_eq_true rfl⟩ hS (fun r3 H locs hw3 hk9 hS => ?_)
  obtain rfl : r3 = (zb (isNb q N)) := hw3
  have hP := zkeep hP hk9
  rw [hq]
  refine z_ifb_false (tgt := 13) hx hb dX1_peeled_6 (by decide) ?_
  refine lv_iconst (v := (nI 1)) hx hb dX1_peeled_13 (by decide) ?_
  refine zwVi (As := [.int (nI 1)]) (rest := []) 0 [0, 1, 2, 3, 4, 5] rfl ⟨hx, hb, hml, hown, hts⟩ (c_X1_goesWell l D cy h b0 b1 b2 b3 b4 th N ch ds de f cs be lf od _ 1 (by omega)) (cwV 1 hts gX1_peeled_X1_goesWell rfl rfl rfl (by decide +kernel) ⟨Nat.le_of_ble_eq_true rfl, Nat.le_of_ble_eq_true rfl⟩) hK hP hD hA rfl rfl rfl hl rfl (Nat.le_of_ble_eq_true rfl) dX1_peeled_14 ⟨Nat.le_of_ble_eq_true rfl, Nat.le_of_ble_eq_true rfl⟩ hS (fun r14 u14 H locs hw14 hP hS => ?_)
  have hP : va_P D vwCl (wM h b0 b1 b2 b3 b4 cy (nI 1) N ch ds de f cs be lf od) H := hP
  have hD : va_D A (wM h b0 b1 b2 b3 b4 cy (nI 1) N ch ds de f cs be lf od) := zD hD rfl
  obtain rfl : r14 = (zb false) := hw14
  refine z_ifb_false_ne (tgt := 22) hx hb dX1_peeled_17 (by decide) ?_
  refine lv_iconst (v := (nI 0)) hx hb dX1_peeled_20 (by decide) ?_
  exact W.iret (v := (nI 0)) hx hb hr (fun t9 ht9 hW9 => ⟨⟨(nI 0), (), rfl, rfl, by show va_P D vwCl (wM h b0 b1 b2 b3 b4 cy (nI 1) N ch ds de f cs be lf od) t9.heap; rw [ht9]; exact hP⟩, hS.F ht9⟩) hS.2.2 dX1_peeled_21

set_option maxHeartbeats 4000000 in
set_option maxRecDepth 100000 in
theorem c_X1_isDense_bad (l : Launch) (D : va_G) (cy : ClassId) (h b0 b1 b2 b3 b4 : Nat) (th : Int32) (N : Nat) (ch ds de : Int32) (f cs be lf od : Nat → Int32) (sz : Nat) (q : Int32) (hq : isNb q N = false) : Met l yX1_isDense wsX1_isDense ({ frames := 3, cells := 0, slots := 0, locals := 71 } : Room) (va_Pc [.ref h, .int q] (zWr D (wM h b0 b1 b2 b3 b4 cy th N ch ds de f cs be lf od) [(cy, .int)] sz)) (va_Qi (fun (r : Int32) (z9 : Unit) => r = nI 0) (fun (z9 : Unit) t => va_P D vwCl (wM h b0 b1 b2 b3 b4 cy (nI 1) N ch ds de f cs be lf od) t.heap) (va_A (wM h b0 b1 b2 b3 b4 cy th N ch ds de f cs be lf od) sz)) 0 0 (va_A (wM h b0 b1 b2 b3 b4 cy th N ch ds de f cs be lf od) sz) := by
  refine Met.ofW (cc := cX1_isDense) (maxL := 2) (ret := (some .boolean)) (by decide) rfl ?_
  intro p e s m args below meth c s₁ B hml hv
  obtain ⟨rfl, hsz, hP, hK, hD0⟩ := hv
  have hx := B.exec
  have hb := B.bytes
  have hr := B.returns
  have hts := atoms_spec (ws := wsX1_isDense) B.pre
  have hown : s.vm.findClass RX1 = some m.cls := findClass_of_methodNamed B.named
  have hlocks := B.notSynchronized
  subst hsz
  have hD := hD0.self (sz := s.heap.size)
  generalize hAe : va_A (wM h b0 b1 b2 b3 b4 cy th N ch ds de f cs be lf od) s.heap.size = A at hD ⊢
  have hA : ∀ q : Nat, s.heap.size ≤ q → A q := fun q h => by rw [← hAe]; exact Or.inr h
  have hS : va_S A s.heap s.heap [] := va_S.rf
  have hin : ∀ w ∈ wsX10, w ∈ wsX1_isDense := by decide +kernel
  have hf76 := hts (.fieldLink RX1 76 "CorebarnModel" "denseSet" "I") (by decide +kernel)
  have hl := lv_entry ([.ref h, .int q]) (n := 2) (Nat.le_of_ble_eq_true rfl)
  rw [lg_entry_eq]
  generalize (lg_sl ([.ref h, .int q]) ++ List.replicate (2 - (lg_sl ([.ref h, .int q])).length) Slot.unset).toArray = ls at hl ⊢
  have hl : lv_has ls 2 [(0, .ref h), (1, .int q)] := hl
  refine lv_aload_n hx hb dX1_isDense_0 rfl (lv_at hl 0 rfl) ?_
  refine lv_aload_n hx hb dX1_isDense_1 rfl (lv_at hl 0 rfl) ?_
  refine lv_iload_n hx hb dX1_isDense_2 rfl (lv_at hl 1 rfl) ?_
  refine zrV (As := [.int q]) (rest := [.ref h]) 0 ⟨hx, hb, hml, hown, hts⟩ (c_X1_isNode l D cy h b0 b1 b2 b3 b4 th N ch ds de f cs be lf od q) (cwV 1 hts gX1_isDense_X1_isNode rfl rfl rfl (by decide +kernel) ⟨Nat.le_of_ble_eq_true rfl, Nat.le_of_ble_eq_true rfl⟩) hK hP rfl rfl rfl hl rfl (Nat.le_of_ble_eq_true rfl) dX1_isDense_3 ⟨Nat.le_of_ble_eq_true rfl, Nat.le_of_ble_eq_true rfl⟩ hS (fun r3 H locs hw3 hk9 hS => ?_)
  obtain rfl : r3 = (zb (isNb q N)) := hw3
  have hP := zkeep hP hk9
  rw [hq]
  refine z_ifb_false (tgt := 13) hx hb dX1_isDense_6 (by decide) ?_
  refine lv_iconst (v := (nI 1)) hx hb dX1_isDense_13 (by decide) ?_
  refine zwVi (As := [.int (nI 1)]) (rest := []) 0 [0, 1, 2, 3, 4, 5] rfl ⟨hx, hb, hml, hown, hts⟩ (c_X1_goesWell l D cy h b0 b1 b2 b3 b4 th N ch ds de f cs be lf od _ 1 (by omega)) (cwV 1 hts gX1_isDense_X1_goesWell rfl rfl rfl (by decide +kernel) ⟨Nat.le_of_ble_eq_true rfl, Nat.le_of_ble_eq_true rfl⟩) hK hP hD hA rfl rfl rfl hl rfl (Nat.le_of_ble_eq_true rfl) dX1_isDense_14 ⟨Nat.le_of_ble_eq_true rfl, Nat.le_of_ble_eq_true rfl⟩ hS (fun r14 u14 H locs hw14 hP hS => ?_)
  have hP : va_P D vwCl (wM h b0 b1 b2 b3 b4 cy (nI 1) N ch ds de f cs be lf od) H := hP
  have hD : va_D A (wM h b0 b1 b2 b3 b4 cy (nI 1) N ch ds de f cs be lf od) := zD hD rfl
  obtain rfl : r14 = (zb false) := hw14
  refine z_ifb_false_ne (tgt := 22) hx hb dX1_isDense_17 (by decide) ?_
  refine lv_iconst (v := (nI 0)) hx hb dX1_isDense_20 (by decide) ?_
  exact W.zret (v := (nI 0)) (ty := .boolean) hx hb hr rfl (fun t9 ht9 hW9 => ⟨⟨(nI 0), (), rfl, rfl, by show va_P D vwCl (wM h b0 b1 b2 b3 b4 cy (nI 1) N ch ds de f cs be lf od) t9.heap; rw [ht9]; exact hP⟩, hS.F ht9⟩) hS.2.2 dX1_isDense_21
