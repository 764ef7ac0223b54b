/-! ===== the network without edges ===== -/
abbrev zf : Nat → Int32 := fun _ => 0
abbrev z0 : Nat → Nat := fun _ => 0
abbrev wZ (h a0 a1 a2 : Nat) (cy : ClassId) (N : Nat) (tr : Nat → Int32) : va_W := wB h a0 a1 a2 cy N (nI 0) (nI 0) zf zf tr
theorem zcs (N : Nat) : csI zf z0 N := fun _ _ => ⟨nI_0.symm, Nat.zero_lt_succ 19⟩
theorem zf_b (u v : Nat) : bt (zf u) v = false := b_0 v
theorem zgd {N : Nat} (hN : N ≤ 20) : gd zf N := ⟨hN, fun u v _ h => (by rw [zf_b] at h; cases h), fun _ _ _ => rfl⟩
theorem zrow (u : Nat) : zpop (zf u) = 0 := pop_0
theorem zcst0 {N : Nat} (hN : N ≤ 20) : cst z0 N 0 = zal N := set_ext fun i => by
  rw [b_cst hN, b_al hN, decide_eq_true_iff]
  exact ⟨fun q => q.1, fun q => ⟨q, Int.le_refl _⟩⟩
theorem zcst1 {N : Nat} (hN : N ≤ 20) {k : Int} (hk : 0 < k) : cst z0 N k = 0 := set_ext fun i => by
  rw [b_cst hN, b_0]
  exact ⟨fun q => by have := q.2; exact absurd this (by show ¬ k ≤ ((0 : Nat) : Int); omega), fun q => by cases q⟩
theorem zt0 : (nI 0).toInt = 0 := by decide
theorem zt1 : (nI 1).toInt = 1 := by decide
theorem zcmp {z : Int32} {u : Nat} (h : bt z u = true) : cmp zf z u = zsg u := by
  have hu := b_32 h
  refine (cmp_of ⟨fun i hi => by rw [(b_sgt hu).mp hi]; exact h, fun i h1 _ => h1, fun v _ w hw _ => (by rw [zf_b] at hw; cases hw), fun T hT _ i hi => hT i hi (by rw [(b_sgt hu).mp hi]; exact h)⟩).symm
theorem pop_sg : ∀ j, j < 32 → zpop (zsg j) = 1 := by decide +kernel
theorem zb_al0 {N u : Nat} (hN : N ≤ 20) (hu : u < N) : bt (cst z0 N 0) u = true := (b_cst hN).mpr ⟨hu, Int.le_refl _⟩
theorem zcom0 {N u : Nat} (hN : N ≤ 20) (hu : u < N) : zpop (cmp zf (cst z0 N (nI 0).toInt) u) = 1 := by
  rw [zt0, zcmp (zb_al0 hN hu)]
  exact pop_sg u (by omega)
theorem zcom1 {N u : Nat} (hN : N ≤ 20) (hu : u < N) : zpop (cmp zf (cst z0 N (nI 1).toInt) u) = 0 := by
  rw [zt1, zcst1 hN (by decide), cmp_0 (by omega) (b_0 u)]
  exact pop_0
theorem ztg_same {N u : Nat} (hN : N ≤ 20) (hu : u < N) : tgk zf z0 N u u 20 = 0 + 1 :=
  tgk_top (m := 0) (cmp_in (zb_al0 hN hu)) 20 (by decide) (fun j h1 _ => cmp_hi hN hu h1)
theorem ztg_none {N u v : Nat} (hN : N ≤ 20) (hu : u < N) (huv : u ≠ v) : tgk zf z0 N u v 20 = 0 := tgk_zero 20 fun j _ => by
  rcases Nat.eq_zero_or_pos j with rfl | hj
  · have e : cmp zf (cst z0 N ((0 : Nat) : Int)) u = zsg u := zcmp (zb_al0 hN hu)
    rw [e, b_sg (by omega)]
    exact decide_eq_false (fun q => huv q.symm)
  · exact cmp_hi hN hu hj
theorem zdeg0 {N d : Nat} (h : isMx z0 N d) : d = 0 := by
  rcases h.2 with q | ⟨v, _, q⟩
  · exact q
  · exact q.symm
theorem ztr {N : Nat} {k : Int} {g : Nat → Int32} (h : isTr zf N k g) : tE g N = 0 := by
  have h1 : tE g N ≤ fb_sm (fun _ => 0) N := fb_sm_le fun u hu => by
    have := pop_le (h.1.1 u hu)
    rw [zrow] at this
    exact this
  rw [fb_sm_const] at h1
  omega
/-- how many communities there are at level 0 -/
noncomputable def kC (N : Nat) : Nat := ccn zf N (cst z0 N 0) (cst z0 N 0)
theorem zcomm0 (N : Nat) : ccn zf N (cst z0 N (nI 0).toInt) (cst z0 N (nI 0).toInt) = kC N := by rw [zt0]; rfl
theorem zcomm1 {N : Nat} (hN : N ≤ 20) : ccn zf N (cst z0 N (nI 1).toInt) (cst z0 N (nI 1).toInt) = 0 := by
  rw [zt1, zcst1 hN (by decide)]
  exact fb_ct_zero.mpr fun i _ => by
    cases q : fst1 zf 0 0 i
    · rfl
    · have := (fst1_t.mp q).1
      rw [b_0] at this
      cases this
theorem zhie {N : Nat} (hN : N ≤ 20) : fb_sm (hie zf z0 N) (0 + 1) = kC N := by
  have e : shl z0 N 0 = cst z0 N 0 := by
    show cst z0 N ((0 : Nat) : Int) &&& znt (cst z0 N (((0 : Nat) : Int) + 1)) = cst z0 N 0
    rw [zcst1 hN (k := ((0 : Nat) : Int) + 1) (by decide)]
    refine set_ext fun i => ?_
    rw [b_dift, b_0]
    exact ⟨fun q => q.1, fun q => ⟨q, Bool.false_ne_true⟩⟩
  show 0 + hie zf z0 N 0 = kC N
  rw [Nat.zero_add]
  unfold hie kC
  rw [e]
  rfl
theorem zpe0 : (npk zf (dsk zf 2 0).1 2).1 = 0 := by decide +kernel
theorem zpe1 : (npk zf (dsk zf 2 1).1 2).1 = 1 := by decide +kernel
theorem zds : zpop (dsk zf 2 (2 - 1)).2.1 = 2 := by decide +kernel
theorem zde0 : bt (dsk zf 2 (2 - 1)).2.1 0 = true := by decide +kernel
theorem zde1 : bt (dsk zf 2 (2 - 1)).2.1 1 = true := by decide +kernel
theorem zew2 : nI 0 = nI (ewn zf 2 (zal 2)) := by decide +kernel
theorem ztri1 : fb_sm (trs zf 1) 1 / 3 = 0 := by decide +kernel
theorem ztri2 : fb_sm (trs zf 2) 2 / 3 = 0 := by decide +kernel
theorem zcz0 : zpop (cst z0 2 (nI 0).toInt) = 2 := by decide +kernel
theorem zcz1 : zpop (cst z0 2 (nI 1).toInt) = 0 := by decide +kernel
theorem zdc : ddc 0 2 = true := by decide +kernel
theorem zdn : dnv zf 2 = ddq 0 2 := by
  unfold dnv
  rw [if_neg (by decide), show (dsk zf 2 (2 - 1)).2.2 = 0 by decide +kernel, zds]
theorem zdq : FP.dcmp (ddq 0 2) (ddq 0 2) = some .eq := by
  have h := zdc
  unfold ddc at h
  rw [Bool.and_eq_true, decide_eq_true_iff, decide_eq_true_iff] at h
  exact h.2
set_option maxHeartbeats 4000000 in
set_option maxRecDepth 100000 in
theorem c_X0_checkEdge_none2 (l : Launch) (hfl : l.stackTraces = false) (D : va_G) (cy : ClassId) (h a0 a1 a2 N : Nat) (ec cc : Int32) (f cs tr : Nat → Int32) (sz : Nat) (u v : Nat) (hN : N ≤ 20) (hu : u < N) (hv : v < N) (he : bt (f u) v = false) : vx_Met l yX0_checkEdge wsX0_checkEdge ({ frames := 6, cells := 1, slots := 6, locals := 82 } : Room) (va_Pc [.ref h, .int (nI u), .int (nI v)] (kRd D (wB h a0 a1 a2 cy N ec cc f cs tr) [(cy, .int)] sz)) zNv (zXg nNSE sz) 1 6 zNo := by
  refine vx_ofW (cc := cX0_checkEdge) (maxL := 3) (ret := none) (by decide) rfl ?_
  intro p e s m args below meth c s₁ B hml hto hv
  obtain ⟨rfl, ⟨⟨hP, hK⟩, hsz⟩, hT⟩ := hv
  have hx := B.exec
  have hb := B.bytes
  have hr := B.returns
  have hts := atoms_spec (ws := wsX0_checkEdge) B.pre
  have hown : s.vm.findClass RX0 = some m.cls := findClass_of_methodNamed B.named
  have hlocks := B.notSynchronized
  have hS : va_S (fun _ => False) s.heap s.heap [] := va_S.rf
  have hin : ∀ w ∈ wsX00, w ∈ wsX0_checkEdge := by decide +kernel
  have hf9 := hts (.fieldLink RX0 9 "Corebarn" "neighbours" "[I") (by decide +kernel)
  have hl := lv_entry ([.ref h, .int (nI u), .int (nI v)]) (n := 3) (Nat.le_of_ble_eq_true rfl)
  rw [lg_entry_eq]
  generalize (lg_sl ([.ref h, .int (nI u), .int (nI v)]) ++ List.replicate (3 - (lg_sl ([.ref h, .int (nI u), .int (nI v)])).length) Slot.unset).toArray = ls at hl ⊢
  have hl : lv_has ls 3 [(0, .ref h), (1, .int (nI u)), (2, .int (nI v))] := hl
  refine lv_aload_n hx hb dX0_checkEdge_0 rfl (lv_at hl 0 rfl) ?_
  refine va_get (D := D) (ci := 0) (v := .ref a0) (C := RX0) (T := TX0) (N := 6) hx hb hts hin hown hK hP 0 rfl rfl 0 (by decide) hf9 (fun _ h9 => h9) rfl dX0_checkEdge_1 ?_
  refine lv_iload_n hx hb dX0_checkEdge_4 rfl (lv_at hl 1 rfl) ?_
  refine z_iald hx hb hK hP 1 0 rfl rfl (by omega) (by decide) dX0_checkEdge_5 ?_
  refine lv_iload_n hx hb dX0_checkEdge_6 rfl (lv_at hl 2 rfl) ?_
  refine zrS0 (As := [.int (f u), .int (nI v)]) (rest := []) ⟨hx, hb, hml, hown, hts⟩ (c_X0_contains l (f u) v (by omega)) (va_cwS 2 hts gX0_checkEdge_X0_contains rfl rfl rfl (by decide +kernel) ⟨Nat.le_of_ble_eq_true rfl, Nat.le_of_ble_eq_true rfl⟩) rfl hl rfl (Nat.le_of_ble_eq_true rfl) dX0_checkEdge_7 ⟨Nat.le_of_ble_eq_true rfl, Nat.le_of_ble_eq_true rfl⟩ hS (fun r7 H locs hw7 hk9 hS => ?_)
  obtain rfl : r7 = (zb (bt (f u) v)) := hw7
  have hP := zkeep hP hk9
  rw [he]
  refine z_ifb_false_ne (tgt := 23) hx hb dX0_checkEdge_10 (by decide) ?_
  exact zthrowN2 hsz.symm (cc := cX0_checkEdge) (rest := []) (text := "there is no such edge") (is := 139) hx hb hfl hown (by decide +kernel) (hts (.classLink RX0 95 nNSE) (by decide +kernel)) (hts (.initialized nNSE) (by decide +kernel)) (fun w h => hts w (List.mem_cons_of_mem _ (List.mem_append_right _ h))) zh2_99 zg_99 hT hS (by rw [hml]; exact hl.1) dX0_checkEdge_13 dX0_checkEdge_16 dX0_checkEdge_17 dX0_checkEdge_19 dX0_checkEdge_22 hto (Nat.le_of_ble_eq_true rfl) (Nat.le_of_ble_eq_true rfl) (Nat.le_of_ble_eq_true rfl) (Nat.le_of_ble_eq_true rfl) hlocks

set_option maxHeartbeats 4000000 in
set_option maxRecDepth 100000 in
theorem c_X0_truss_none2 (l : Launch) (hfl : l.stackTraces = false) (D : va_G) (cy : ClassId) (h a0 a1 a2 N : Nat) (ec cc : Int32) (f cs tr : Nat → Int32) (sz : Nat) (u v : Nat) (hN : N ≤ 20) (hu : u < N) (hv : v < N) (he : bt (f u) v = false) : vx_Met l yX0_truss wsX0_truss ({ frames := 7, cells := 1, slots := 6, locals := 104 } : Room) (va_Pc [.ref h, .int (nI u), .int (nI v)] (kRd D (wB h a0 a1 a2 cy N ec cc f cs tr) [(cy, .int)] sz)) zNi (zXg nNSE sz) 1 6 zNo := by
  refine vx_ofW (cc := cX0_truss) (maxL := 5) (ret := (some .int)) (by decide) rfl ?_
  intro p e s m args below meth c s₁ B hml hto hv
  obtain ⟨rfl, ⟨⟨hP, hK⟩, hsz⟩, hT⟩ := hv
  have hx := B.exec
  have hb := B.bytes
  have hr := B.returns
  have hts := atoms_spec (ws := wsX0_truss) B.pre
  have hown : s.vm.findClass RX0 = some m.cls := findClass_of_methodNamed B.named
  have hlocks := B.notSynchronized
  have hS : va_S (fun _ => False) s.heap s.heap [] := va_S.rf
  have hin : ∀ w ∈ wsX00, w ∈ wsX0_truss := by decide +kernel
  have hf16 := hts (.fieldLink RX0 16 "Corebarn" "trussNeighbours" "[I") (by decide +kernel)
  have hl := lv_entry ([.ref h, .int (nI u), .int (nI v)]) (n := 5) (Nat.le_of_ble_eq_true rfl)
  rw [lg_entry_eq]
  generalize (lg_sl ([.ref h, .int (nI u), .int (nI v)]) ++ List.replicate (5 - (lg_sl ([.ref h, .int (nI u), .int (nI v)])).length) Slot.unset).toArray = ls at hl ⊢
  have hl : lv_has ls 5 [(0, .ref h), (1, .int (nI u)), (2, .int (nI v))] := hl
  refine lv_aload_n hx hb dX0_truss_0 rfl (lv_at hl 0 rfl) ?_
  refine lv_iload_n hx hb dX0_truss_1 rfl (lv_at hl 1 rfl) ?_
  refine zrVv (As := [.int (nI u)]) (rest := []) 0 ⟨hx, hb, hml, hown, hts⟩ (c_X0_checkNode_ok l D cy h a0 a1 a2 N ec cc f cs tr u hN hu) (cwV 1 hts gX0_truss_X0_checkNode rfl rfl rfl (by decide +kernel) ⟨Nat.le_of_ble_eq_true rfl, Nat.le_of_ble_eq_true rfl⟩) hK hP rfl rfl rfl hl rfl (Nat.le_of_ble_eq_true rfl) dX0_truss_2 ⟨Nat.le_of_ble_eq_true rfl, Nat.le_of_ble_eq_true rfl⟩ hS (fun H locs hw2 hk9 hS => ?_)
  have hP := zkeep hP hk9
  refine lv_aload_n hx hb dX0_truss_5 rfl (lv_at hl 0 rfl) ?_
  refine lv_iload_n hx hb dX0_truss_6 rfl (lv_at hl 2 rfl) ?_
  refine zrVv (As := [.int (nI v)]) (rest := []) 0 ⟨hx, hb, hml, hown, hts⟩ (c_X0_checkNode_ok l D cy h a0 a1 a2 N ec cc f cs tr v hN hv) (cwV 1 hts gX0_truss_X0_checkNode rfl rfl rfl (by decide +kernel) ⟨Nat.le_of_ble_eq_true rfl, Nat.le_of_ble_eq_true rfl⟩) hK hP rfl rfl rfl hl rfl (Nat.le_of_ble_eq_true rfl) dX0_truss_7 ⟨Nat.le_of_ble_eq_true rfl, Nat.le_of_ble_eq_true rfl⟩ hS (fun H locs hw7 hk9 hS => ?_)
  have hP := zkeep hP hk9
  refine lv_aload_n hx hb dX0_truss_10 rfl (lv_at hl 0 rfl) ?_
  refine lv_iload_n hx hb dX0_truss_11 rfl (lv_at hl 1 rfl) ?_
  refine lv_iload_n hx hb dX0_truss_12 rfl (lv_at hl 2 rfl) ?_
  exact zxV2 hsz.symm (As := [.int (nI u), .int (nI v)]) (rest := []) 0 ⟨hx, hb, hml, hown, hts⟩ (c_X0_checkEdge_none2 l hfl D cy h a0 a1 a2 N ec cc f cs tr _ u v hN hu hv he) (cwV 2 hts gX0_truss_X0_checkEdge rfl rfl rfl (by decide +kernel) ⟨Nat.le_of_ble_eq_true rfl, Nat.le_of_ble_eq_true rfl⟩) hK hP hT rfl rfl rfl hl rfl (Nat.le_of_ble_eq_true rfl) dX0_truss_13 ⟨Nat.le_of_ble_eq_true rfl, Nat.le_of_ble_eq_true rfl⟩ hS hto hlocks

set_option maxHeartbeats 4000000 in
set_option maxRecDepth 100000 in
theorem c_X0_together_none2 (l : Launch) (hfl : l.stackTraces = false) (D : va_G) (cy : ClassId) (h a0 a1 a2 N : Nat) (ec cc : Int32) (f cs tr : Nat → Int32) (sz : Nat) (u v : Nat) (c0 : Nat → Nat) (hN : N ≤ 20) (hu : u < N) (hv : v < N) (hcs : csI cs c0 N) (ht0 : tgk f c0 N u v 20 = 0) : vx_Met l yX0_together wsX0_together ({ frames := 7, cells := 1, slots := 6, locals := 103 } : Room) (va_Pc [.ref h, .int (nI u), .int (nI v)] (kRd D (wB h a0 a1 a2 cy N ec cc f cs tr) [(cy, .int)] sz)) zNi (zXg nNSE sz) 1 6 zNo := by
  refine vx_ofW (cc := cX0_together) (maxL := 4) (ret := (some .int)) (by decide) rfl ?_
  intro p e s m args below meth c s₁ B hml hto hv
  obtain ⟨rfl, ⟨⟨hP, hK⟩, hsz⟩, hT⟩ := hv
  have hx := B.exec
  have hb := B.bytes
  have hr := B.returns
  have hts := atoms_spec (ws := wsX0_together) B.pre
  have hown : s.vm.findClass RX0 = some m.cls := findClass_of_methodNamed B.named
  have hlocks := B.notSynchronized
  have hS : va_S (fun _ => False) s.heap s.heap [] := va_S.rf
  have hin : ∀ w ∈ wsX00, w ∈ wsX0_together := by decide +kernel
  have hf13 := hts (.fieldLink RX0 13 "Corebarn" "cores" "[I") (by decide +kernel)
  have hcu := (hcs u hu).2
  have hcv := (hcs v hv).2
  have hl := lv_entry ([.ref h, .int (nI u), .int (nI v)]) (n := 4) (Nat.le_of_ble_eq_true rfl)
  rw [lg_entry_eq]
  generalize (lg_sl ([.ref h, .int (nI u), .int (nI v)]) ++ List.replicate (4 - (lg_sl ([.ref h, .int (nI u), .int (nI v)])).length) Slot.unset).toArray = ls at hl ⊢
  have hl : lv_has ls 4 [(0, .ref h), (1, .int (nI u)), (2, .int (nI v))] := hl
  refine lv_aload_n hx hb dX0_together_0 rfl (lv_at hl 0 rfl) ?_
  refine lv_iload_n hx hb dX0_together_1 rfl (lv_at hl 1 rfl) ?_
  refine zrVv (As := [.int (nI u)]) (rest := []) 0 ⟨hx, hb, hml, hown, hts⟩ (c_X0_checkNode_ok l D cy h a0 a1 a2 N ec cc f cs tr u hN hu) (cwV 1 hts gX0_together_X0_checkNode rfl rfl rfl (by decide +kernel) ⟨Nat.le_of_ble_eq_true rfl, Nat.le_of_ble_eq_true rfl⟩) hK hP rfl rfl rfl hl rfl (Nat.le_of_ble_eq_true rfl) dX0_together_2 ⟨Nat.le_of_ble_eq_true rfl, Nat.le_of_ble_eq_true rfl⟩ hS (fun H locs hw2 hk9 hS => ?_)
  have hP := zkeep hP hk9
  refine lv_aload_n hx hb dX0_together_5 rfl (lv_at hl 0 rfl) ?_
  refine lv_iload_n hx hb dX0_together_6 rfl (lv_at hl 2 rfl) ?_
  refine zrVv (As := [.int (nI v)]) (rest := []) 0 ⟨hx, hb, hml, hown, hts⟩ (c_X0_checkNode_ok l D cy h a0 a1 a2 N ec cc f cs tr v hN hv) (cwV 1 hts gX0_together_X0_checkNode rfl rfl rfl (by decide +kernel) ⟨Nat.le_of_ble_eq_true rfl, Nat.le_of_ble_eq_true rfl⟩) hK hP rfl rfl rfl hl rfl (Nat.le_of_ble_eq_true rfl) dX0_together_7 ⟨Nat.le_of_ble_eq_true rfl, Nat.le_of_ble_eq_true rfl⟩ hS (fun H locs hw7 hk9 hS => ?_)
  have hP := zkeep hP hk9
  refine lv_aload_n hx hb dX0_together_10 rfl (lv_at hl 0 rfl) ?_
  refine va_get (D := D) (ci := 0) (v := .ref a1) (C := RX0) (T := TX0) (N := 6) hx hb hts hin hown hK hP 0 rfl rfl 1 (by decide) hf13 (fun _ h9 => h9) rfl dX0_together_11 ?_
  refine lv_iload_n hx hb dX0_together_14 rfl (lv_at hl 1 rfl) ?_
  refine z_iald hx hb hK hP 2 0 rfl rfl (by omega) (by decide) dX0_together_15 ?_
  rw [(hcs u hu).1]
  refine lv_aload_n hx hb dX0_together_16 rfl (lv_at hl 0 rfl) ?_
  refine va_get (D := D) (ci := 0) (v := .ref a1) (C := RX0) (T := TX0) (N := 6) hx hb hts hin hown hK hP 0 rfl rfl 1 (by decide) hf13 (fun _ h9 => h9) rfl dX0_together_17 ?_
  refine lv_iload_n hx hb dX0_together_20 rfl (lv_at hl 2 rfl) ?_
  refine z_iald hx hb hK hP 2 0 rfl rfl (by omega) (by decide) dX0_together_21 ?_
  rw [(hcs v hv).1]
  refine va_mmin hx hb (by rw [hml]; exact hl.1.symm) hown (hts (.methodLink RX0 92 Lib.Math.min.name) (by decide +kernel)) (hts (.static Lib.Math.min.name) (by decide +kernel)) (hts (.initialized "java/lang/Math") (by decide +kernel)) (hts (.code Lib.Math.min.name Lib.Math.min.code 2 (some .int)) (by decide +kernel)) (Nat.le_of_ble_eq_true rfl) (Nat.le_of_ble_eq_true rfl) (Nat.le_of_ble_eq_true rfl) (Nat.le_of_ble_eq_true rfl) dX0_together_22 ?_
  rw [z_min (a := c0 u) (b := c0 v) (by omega) (by omega)]
  refine lv_istore_n (lv' := [(3, .int (nI (min (c0 u) (c0 v)))), (0, .ref h), (1, .int (nI u)), (2, .int (nI v))]) hx hb dX0_together_25 rfl hl (by decide) rfl (fun ls hl => ?_)
  have K26 : ∀ (fu26 : Nat) (t1 : Nat) (x : Int32) (H : Heap) (locs : List Loc) (ls : Array Slot), (t1 ≤ 20) → (x = tgi t1) → t1 < fu26 → va_P D vwCl (wB h a0 a1 a2 cy N ec cc f cs tr) H → va_S (fun _ => False) s.heap H locs → lv_has ls 4 [(3, .int x), (0, .ref h), (1, .int (nI u)), (2, .int (nI v))] → W p l e (headSpec wsX0_together ({ frames := 7, cells := 1, slots := 6, locals := 103 } : Room)).room s m ([.ref h, .int (nI u), .int (nI v)] : List Value).toArray below meth c H locs 0 0 (vx_MQ below zNi (zXg nNSE sz) ([.ref h, .int (nI u), .int (nI v)] : List Value).toArray s 1 6 zNo) (F0 m 26 ls []) := by
    intro fu26
    induction fu26 with
    | zero =>
      intro t1 x H locs ls ht1 hxe hfu26
      exact absurd hfu26 (Nat.not_lt_zero _)
    | succ fu26 ih26 =>
      intro t1 x H locs ls ht1 hxe hfu26 hP hS hl
      refine lv_iload_n hx hb dX0_together_26 rfl (lv_at hl 0 rfl) ?_
      refine lv_if_lt (tgt := 58) hx hb dX0_together_27 (by decide) (fun h27 => ?_) (fun h27 => ?_)
      · exact zthrowN2 hsz.symm (cc := cX0_together) (rest := []) (text := "the nodes belong to the same community at no level") (is := 97) hx hb hfl hown (by decide +kernel) (hts (.classLink RX0 95 nNSE) (by decide +kernel)) (hts (.initialized nNSE) (by decide +kernel)) (fun w h => hts w (List.mem_cons_of_mem _ (List.mem_append_left _ (List.mem_append_right _ h)))) zh2_99 zg_99 hT hS (by rw [hml]; exact hl.1) dX0_together_58 dX0_together_61 dX0_together_62 dX0_together_64 dX0_together_67 hto (Nat.le_of_ble_eq_true rfl) (Nat.le_of_ble_eq_true rfl) (Nat.le_of_ble_eq_true rfl) (Nat.le_of_ble_eq_true rfl) hlocks
      · obtain ⟨m9, rfl, hm9⟩ := tgi_ge (by omega) hxe h27
        refine lv_aload_n hx hb dX0_together_30 rfl (lv_at hl 1 rfl) ?_
        refine lv_iload_n hx hb dX0_together_31 rfl (lv_at hl 2 rfl) ?_
        refine zrS0 (As := [.int (nI u)]) (rest := [.ref h]) ⟨hx, hb, hml, hown, hts⟩ (c_X0_single l u) (va_cwS 1 hts gX0_together_X0_single rfl rfl rfl (by decide +kernel) ⟨Nat.le_of_ble_eq_true rfl, Nat.le_of_ble_eq_true rfl⟩) rfl hl rfl (Nat.le_of_ble_eq_true rfl) dX0_together_32 ⟨Nat.le_of_ble_eq_true rfl, Nat.le_of_ble_eq_true rfl⟩ hS (fun r32 H locs hw32 hk9 hS => ?_)
        obtain rfl : r32 = zsg u := hw32
        have hP := zkeep hP hk9
        refine lv_aload_n hx hb dX0_together_35 rfl (lv_at hl 1 rfl) ?_
        refine lv_iload_n hx hb dX0_together_36 rfl (lv_at hl 0 rfl) ?_
        refine zrV (As := [.int (nI m9)]) (rest := [.int (zsg u), .ref h]) 0 ⟨hx, hb, hml, hown, hts⟩ (c_X0_coreSet l D cy h a0 a1 a2 N ec cc f cs tr (nI m9) hN) (cwV 1 hts gX0_together_X0_coreSet rfl rfl rfl (by decide +kernel) ⟨Nat.le_of_ble_eq_true rfl, Nat.le_of_ble_eq_true rfl⟩) hK hP rfl rfl rfl hl rfl (Nat.le_of_ble_eq_true rfl) dX0_together_37 ⟨Nat.le_of_ble_eq_true rfl, Nat.le_of_ble_eq_true rfl⟩ hS (fun r37 H locs hw37 hk9 hS => ?_)
        obtain rfl : r37 = (zmk (fun i => decide ((nI m9) ≤ cs i)) N) := hw37
        have hP := zkeep hP hk9
        rw [cst_of hN hcs (k := m9) (by omega)]
        refine zrV (As := [.int (zsg u), .int (cst c0 N (m9 : Int))]) (rest := []) 0 ⟨hx, hb, hml, hown, hts⟩ (c_X0_reach l D cy h a0 a1 a2 N ec cc f cs tr (zsg u) (cst c0 N (m9 : Int)) hN (cst_sub hN _)) (cwV 2 hts gX0_together_X0_reach rfl rfl rfl (by decide +kernel) ⟨Nat.le_of_ble_eq_true rfl, Nat.le_of_ble_eq_true rfl⟩) hK hP rfl rfl rfl hl rfl (Nat.le_of_ble_eq_true rfl) dX0_together_40 ⟨Nat.le_of_ble_eq_true rfl, Nat.le_of_ble_eq_true rfl⟩ hS (fun r40 H locs hw40 hk9 hS => ?_)
        have hw40 : rch f (zsg u) (cst c0 N (m9 : Int)) r40 := hw40
        obtain rfl : r40 = cmp f (cst c0 N (m9 : Int)) u := cmp_of hw40
        have hP := zkeep hP hk9
        refine lv_iload_n hx hb dX0_together_43 rfl (lv_at hl 3 rfl) ?_
        refine zrS0 (As := [.int (cmp f (cst c0 N (m9 : Int)) u), .int (nI v)]) (rest := []) ⟨hx, hb, hml, hown, hts⟩ (c_X0_contains l (cmp f (cst c0 N (m9 : Int)) u) v (by omega)) (va_cwS 2 hts gX0_together_X0_contains rfl rfl rfl (by decide +kernel) ⟨Nat.le_of_ble_eq_true rfl, Nat.le_of_ble_eq_true rfl⟩) rfl hl rfl (Nat.le_of_ble_eq_true rfl) dX0_together_44 ⟨Nat.le_of_ble_eq_true rfl, Nat.le_of_ble_eq_true rfl⟩ hS (fun r44 H locs hw44 hk9 hS => ?_)
        obtain rfl : r44 = (zb (bt (cmp f (cst c0 N (m9 : Int)) u) v)) := hw44
        have hP := zkeep hP hk9
        refine z_ifb_eq (tgt := 52) hx hb dX0_together_47 (by decide) (fun h47 => ?_) (fun h47 => ?_)
        · refine lv_iinc (v := (tgi m9)) (lv' := [(3, .int (tgi m9)), (0, .ref h), (1, .int (nI u)), (2, .int (nI v))]) hx hb dX0_together_52 hl (k := 0) rfl (tgi_m m9) (by decide) rfl (fun ls hl => ?_)
          refine lv_goto (tgt := 26) hx hb dX0_together_55 (by decide) ?_
          exact ih26 m9 (tgi m9) _ _ _ (by omega) rfl (by omega) hP hS (lv_sub hl [0, 1, 2, 3] rfl)
        · exact absurd ht0 (tgk_ne h47 20 (by omega))
  exact K26 ((min (c0 u) (c0 v) + 1) + 1) (min (c0 u) (c0 v) + 1) (nI (min (c0 u) (c0 v))) _ _ _ (by omega) (by unfold tgi; rw [if_neg (by omega), Nat.add_sub_cancel]) (Nat.lt_succ_self _) hP hS (lv_sub hl [0, 1, 2, 3] rfl)

