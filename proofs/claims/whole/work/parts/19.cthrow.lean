theorem tgk_ne {f : Nat → Int32} {c : Nat → Nat} {N u v m : Nat} (hb : bt (cmp f (cst c N m) u) v = true) : ∀ K : Nat, m < K → tgk f c N u v K ≠ 0
  | 0, h => absurd h (Nat.not_lt_zero m)
  | K + 1, h => by
    by_cases e : bt (cmp f (cst c N K) u) v = true
    · rw [tgk_yes e]; exact Nat.succ_ne_zero K
    · have e2 : bt (cmp f (cst c N K) u) v = false := by cases q : bt (cmp f (cst c N K) u) v; rfl; exact absurd q e
      rw [tgk_no e2]
      refine tgk_ne hb K ?_
      rcases Nat.lt_or_ge m K with q | q
      · exact q
      · exact absurd (show K = m by omega) (fun z => e (z ▸ hb))
set_option maxHeartbeats 4000000 in
set_option maxRecDepth 100000 in
theorem c_X0_checkNode_bad (l : Launch) (hfl : l.stackTraces = false) (D : va_G) (cy : ClassId) (h a0 a1 a2 N : Nat) (ec cc : Int32) (f cs tr : Nat → Int32) (q : Int32) (hq : isNb q N = false) : vx_Met l yX0_checkNode wsX0_checkNode ({ frames := 6, cells := 1, slots := 6, locals := 82 } : Room) (va_Pc [.ref h, .int q] (fun U => zRd D (wB h a0 a1 a2 cy N ec cc f cs tr) [(cy, .int)] U ∧ zTh U)) zNv (zXc nIOB) 1 6 zNo := by
  refine vx_ofW (cc := cX0_checkNode) (maxL := 2) (ret := none) (by decide) rfl ?_
  intro p e s m args below meth c s₁ B hml hto hv
  obtain ⟨rfl, ⟨hP, hK⟩, hT⟩ := hv
  have hx := B.exec
  have hb := B.bytes
  have hr := B.returns
  have hts := atoms_spec (ws := wsX0_checkNode) B.pre
  have hown : s.vm.findClass RX0 = some m.cls := findClass_of_methodNamed B.named
  have hlocks := B.notSynchronized
  have hS : va_S (fun _ => False) s.heap s.heap [] := va_S.rf
  have hin : ∀ w ∈ wsX00, w ∈ wsX0_checkNode := by decide +kernel
  have hf19 := hts (.fieldLink RX0 19 "Corebarn" "nodeCount" "I") (by decide +kernel)
  have hl := lv_entry ([.ref h, .int q]) (n := 2) (Nat.le_of_ble_eq_true rfl)
  rw [lg_entry_eq]
  generalize (lg_sl ([.ref h, .int q]) ++ List.replicate (2 - (lg_sl ([.ref h, .int q])).length) Slot.unset).toArray = ls at hl ⊢
  have hl : lv_has ls 2 [(0, .ref h), (1, .int q)] := hl
  refine lv_iload_n hx hb dX0_checkNode_0 rfl (lv_at hl 1 rfl) ?_
  refine lv_if_lt (tgt := 12) hx hb dX0_checkNode_1 (by decide) (fun h1 => ?_) (fun h1 => ?_)
  · exact zthrow (cc := cX0_checkNode) (rest := []) (text := "there is no such node") (ik := 67) (is := 135) (ic := 71) hx hb hfl hown (by simp) (by decide +kernel) (by decide +kernel) (hts (.classLink RX0 67 nIOB) (by decide +kernel)) (hts (.initialized nIOB) (by decide +kernel)) (fun w h => hts w (List.mem_cons_of_mem _ (List.mem_append_right _ h))) zh2_71 zg_71 hT hS (by rw [hml]; exact hl.1) dX0_checkNode_12 dX0_checkNode_15 dX0_checkNode_16 dX0_checkNode_18 dX0_checkNode_21 hto (Nat.le_of_ble_eq_true rfl) (Nat.le_of_ble_eq_true rfl) (Nat.le_of_ble_eq_true rfl) (Nat.le_of_ble_eq_true rfl) hlocks
  · refine lv_iload_n hx hb dX0_checkNode_4 rfl (lv_at hl 1 rfl) ?_
    refine lv_aload_n hx hb dX0_checkNode_5 rfl (lv_at hl 0 rfl) ?_
    refine va_get (D := D) (ci := 0) (v := .int (nI N)) (C := RX0) (T := TX0) (N := 6) hx hb hts hin hown hK hP 0 rfl rfl 3 (by decide) hf19 (fun _ h9 => h9) rfl dX0_checkNode_6 ?_
    refine lv_icmp_lt (tgt := 22) hx hb dX0_checkNode_9 (by decide) (fun h9 => ?_) (fun h9 => ?_)
    · exact absurd (isNb_in h1 (Int32.not_le.mpr h9)) (by rw [hq]; exact Bool.false_ne_true)
    · exact zthrow (cc := cX0_checkNode) (rest := []) (text := "there is no such node") (ik := 67) (is := 135) (ic := 71) hx hb hfl hown (by simp) (by decide +kernel) (by decide +kernel) (hts (.classLink RX0 67 nIOB) (by decide +kernel)) (hts (.initialized nIOB) (by decide +kernel)) (fun w h => hts w (List.mem_cons_of_mem _ (List.mem_append_right _ h))) zh2_71 zg_71 hT hS (by rw [hml]; exact hl.1) dX0_checkNode_12 dX0_checkNode_15 dX0_checkNode_16 dX0_checkNode_18 dX0_checkNode_21 hto (Nat.le_of_ble_eq_true rfl) (Nat.le_of_ble_eq_true rfl) (Nat.le_of_ble_eq_true rfl) (Nat.le_of_ble_eq_true rfl) hlocks

set_option maxHeartbeats 4000000 in
set_option maxRecDepth 100000 in
theorem c_X0_checkPair_bad1 (l : Launch) (hfl : l.stackTraces = false) (D : va_G) (cy : ClassId) (h a0 a1 a2 N : Nat) (ec cc : Int32) (f cs tr : Nat → Int32) (q1 q2 : Int32) (hq : isNb q1 N = false) : vx_Met l yX0_checkPair wsX0_checkPair ({ frames := 7, cells := 1, slots := 6, locals := 103 } : Room) (va_Pc [.ref h, .int q1, .int q2] (fun U => zRd D (wB h a0 a1 a2 cy N ec cc f cs tr) [(cy, .int)] U ∧ zTh U)) zNv (zXc nIOB) 1 6 zNo := by
  refine vx_ofW (cc := cX0_checkPair) (maxL := 3) (ret := none) (by decide) rfl ?_
  intro p e s m args below meth c s₁ B hml hto hv
  obtain ⟨rfl, ⟨hP, hK⟩, hT⟩ := hv
  have hx := B.exec
  have hb := B.bytes
  have hr := B.returns
  have hts := atoms_spec (ws := wsX0_checkPair) B.pre
  have hown : s.vm.findClass RX0 = some m.cls := findClass_of_methodNamed B.named
  have hlocks := B.notSynchronized
  have hS : va_S (fun _ => False) s.heap s.heap [] := va_S.rf
  have hl := lv_entry ([.ref h, .int q1, .int q2]) (n := 3) (Nat.le_of_ble_eq_true rfl)
  rw [lg_entry_eq]
  generalize (lg_sl ([.ref h, .int q1, .int q2]) ++ List.replicate (3 - (lg_sl ([.ref h, .int q1, .int q2])).length) Slot.unset).toArray = ls at hl ⊢
  have hl : lv_has ls 3 [(0, .ref h), (1, .int q1), (2, .int q2)] := hl
  refine lv_aload_n hx hb dX0_checkPair_0 rfl (lv_at hl 0 rfl) ?_
  refine lv_iload_n hx hb dX0_checkPair_1 rfl (lv_at hl 1 rfl) ?_
  exact zxV (As := [.int q1]) (rest := []) 0 ⟨hx, hb, hml, hown, hts⟩ (c_X0_checkNode_bad l hfl D cy h a0 a1 a2 N ec cc f cs tr q1 hq) (cwV 1 hts gX0_checkPair_X0_checkNode rfl rfl rfl (by decide +kernel) ⟨Nat.le_of_ble_eq_true rfl, Nat.le_of_ble_eq_true rfl⟩) hK hP hT rfl rfl rfl hl rfl (Nat.le_of_ble_eq_true rfl) dX0_checkPair_2 ⟨Nat.le_of_ble_eq_true rfl, Nat.le_of_ble_eq_true rfl⟩ hS hto hlocks

set_option maxHeartbeats 4000000 in
set_option maxRecDepth 100000 in
theorem c_X0_checkPair_bad2 (l : Launch) (hfl : l.stackTraces = false) (D : va_G) (cy : ClassId) (h a0 a1 a2 N : Nat) (ec cc : Int32) (f cs tr : Nat → Int32) (u : Nat) (q2 : Int32) (hN : N ≤ 20) (hu : u < N) (hq : isNb q2 N = false) : vx_Met l yX0_checkPair wsX0_checkPair ({ frames := 7, cells := 1, slots := 6, locals := 103 } : Room) (va_Pc [.ref h, .int (nI u), .int q2] (fun U => zRd D (wB h a0 a1 a2 cy N ec cc f cs tr) [(cy, .int)] U ∧ zTh U)) zNv (zXc nIOB) 1 6 zNo := by
  refine vx_ofW (cc := cX0_checkPair) (maxL := 3) (ret := none) (by decide) rfl ?_
  intro p e s m args below meth c s₁ B hml hto hv
  obtain ⟨rfl, ⟨hP, hK⟩, hT⟩ := hv
  have hx := B.exec
  have hb := B.bytes
  have hr := B.returns
  have hts := atoms_spec (ws := wsX0_checkPair) B.pre
  have hown : s.vm.findClass RX0 = some m.cls := findClass_of_methodNamed B.named
  have hlocks := B.notSynchronized
  have hS : va_S (fun _ => False) s.heap s.heap [] := va_S.rf
  have hl := lv_entry ([.ref h, .int (nI u), .int q2]) (n := 3) (Nat.le_of_ble_eq_true rfl)
  rw [lg_entry_eq]
  generalize (lg_sl ([.ref h, .int (nI u), .int q2]) ++ List.replicate (3 - (lg_sl ([.ref h, .int (nI u), .int q2])).length) Slot.unset).toArray = ls at hl ⊢
  have hl : lv_has ls 3 [(0, .ref h), (1, .int (nI u)), (2, .int q2)] := hl
  refine lv_aload_n hx hb dX0_checkPair_0 rfl (lv_at hl 0 rfl) ?_
  refine lv_iload_n hx hb dX0_checkPair_1 rfl (lv_at hl 1 rfl) ?_
  refine zrVv (As := [.int (nI u)]) (rest := []) 0 ⟨hx, hb, hml, hown, hts⟩ (c_X0_checkNode_ok l D cy h a0 a1 a2 N ec cc f cs tr u hN hu) (cwV 1 hts gX0_checkPair_X0_checkNode rfl rfl rfl (by decide +kernel) ⟨Nat.le_of_ble_eq_true rfl, Nat.le_of_ble_eq_true rfl⟩) hK hP rfl rfl rfl hl rfl (Nat.le_of_ble_eq_true rfl) dX0_checkPair_2 ⟨Nat.le_of_ble_eq_true rfl, Nat.le_of_ble_eq_true rfl⟩ hS (fun H locs hw2 hk9 hS => ?_)
  have hP := zkeep hP hk9
  refine lv_aload_n hx hb dX0_checkPair_5 rfl (lv_at hl 0 rfl) ?_
  refine lv_iload_n hx hb dX0_checkPair_6 rfl (lv_at hl 2 rfl) ?_
  exact zxV (As := [.int q2]) (rest := []) 0 ⟨hx, hb, hml, hown, hts⟩ (c_X0_checkNode_bad l hfl D cy h a0 a1 a2 N ec cc f cs tr q2 hq) (cwV 1 hts gX0_checkPair_X0_checkNode rfl rfl rfl (by decide +kernel) ⟨Nat.le_of_ble_eq_true rfl, Nat.le_of_ble_eq_true rfl⟩) hK hP hT rfl rfl rfl hl rfl (Nat.le_of_ble_eq_true rfl) dX0_checkPair_7 ⟨Nat.le_of_ble_eq_true rfl, Nat.le_of_ble_eq_true rfl⟩ hS hto hlocks

set_option maxHeartbeats 4000000 in
set_option maxRecDepth 100000 in
theorem c_X0_checkPair_same (l : Launch) (hfl : l.stackTraces = false) (D : va_G) (cy : ClassId) (h a0 a1 a2 N : Nat) (ec cc : Int32) (f cs tr : Nat → Int32) (u : Nat) (hN : N ≤ 20) (hu : u < N) : vx_Met l yX0_checkPair wsX0_checkPair ({ frames := 7, cells := 1, slots := 6, locals := 103 } : Room) (va_Pc [.ref h, .int (nI u), .int (nI u)] (fun U => zRd D (wB h a0 a1 a2 cy N ec cc f cs tr) [(cy, .int)] U ∧ zTh U)) zNv (zXc nIAE) 1 6 zNo := by
  refine vx_ofW (cc := cX0_checkPair) (maxL := 3) (ret := none) (by decide) rfl ?_
  intro p e s m args below meth c s₁ B hml hto hv
  obtain ⟨rfl, ⟨hP, hK⟩, hT⟩ := hv
  have hx := B.exec
  have hb := B.bytes
  have hr := B.returns
  have hts := atoms_spec (ws := wsX0_checkPair) B.pre
  have hown : s.vm.findClass RX0 = some m.cls := findClass_of_methodNamed B.named
  have hlocks := B.notSynchronized
  have hS : va_S (fun _ => False) s.heap s.heap [] := va_S.rf
  have hl := lv_entry ([.ref h, .int (nI u), .int (nI u)]) (n := 3) (Nat.le_of_ble_eq_true rfl)
  rw [lg_entry_eq]
  generalize (lg_sl ([.ref h, .int (nI u), .int (nI u)]) ++ List.replicate (3 - (lg_sl ([.ref h, .int (nI u), .int (nI u)])).length) Slot.unset).toArray = ls at hl ⊢
  have hl : lv_has ls 3 [(0, .ref h), (1, .int (nI u)), (2, .int (nI u))] := hl
  refine lv_aload_n hx hb dX0_checkPair_0 rfl (lv_at hl 0 rfl) ?_
  refine lv_iload_n hx hb dX0_checkPair_1 rfl (lv_at hl 1 rfl) ?_
  refine zrVv (As := [.int (nI u)]) (rest := []) 0 ⟨hx, hb, hml, hown, hts⟩ (c_X0_checkNode_ok l D cy h a0 a1 a2 N ec cc f cs tr u hN hu) (cwV 1 hts gX0_checkPair_X0_checkNode rfl rfl rfl (by decide +kernel) ⟨Nat.le_of_ble_eq_true rfl, Nat.le_of_ble_eq_true rfl⟩) hK hP rfl rfl rfl hl rfl (Nat.le_of_ble_eq_true rfl) dX0_checkPair_2 ⟨Nat.le_of_ble_eq_true rfl, Nat.le_of_ble_eq_true rfl⟩ hS (fun H locs hw2 hk9 hS => ?_)
  have hP := zkeep hP hk9
  refine lv_aload_n hx hb dX0_checkPair_5 rfl (lv_at hl 0 rfl) ?_
  refine lv_iload_n hx hb dX0_checkPair_6 rfl (lv_at hl 2 rfl) ?_
  refine zrVv (As := [.int (nI u)]) (rest := []) 0 ⟨hx, hb, hml, hown, hts⟩ (c_X0_checkNode_ok l D cy h a0 a1 a2 N ec cc f cs tr u hN hu) (cwV 1 hts gX0_checkPair_X0_checkNode rfl rfl rfl (by decide +kernel) ⟨Nat.le_of_ble_eq_true rfl, Nat.le_of_ble_eq_true rfl⟩) hK hP rfl rfl rfl hl rfl (Nat.le_of_ble_eq_true rfl) dX0_checkPair_7 ⟨Nat.le_of_ble_eq_true rfl, Nat.le_of_ble_eq_true rfl⟩ hS (fun H locs hw7 hk9 hS => ?_)
  have hP := zkeep hP hk9
  refine lv_iload_n hx hb dX0_checkPair_10 rfl (lv_at hl 1 rfl) ?_
  refine lv_iload_n hx hb dX0_checkPair_11 rfl (lv_at hl 2 rfl) ?_
  refine z_icmp_ne (tgt := 25) hx hb dX0_checkPair_12 (by decide) (by omega) (by omega) (fun h12 => ?_) (fun h12 => ?_)
  · exact absurd rfl h12
  · exact zthrow (cc := cX0_checkPair) (rest := []) (text := "both nodes are the same") (ik := 130) (is := 137) (ic := 134) hx hb hfl hown (by simp) (by decide +kernel) (by decide +kernel) (hts (.classLink RX0 130 nIAE) (by decide +kernel)) (hts (.initialized nIAE) (by decide +kernel)) (fun w h => hts w (List.mem_cons_of_mem _ (List.mem_append_left _ (List.mem_append_right _ h)))) zh2_134 zg_134 hT hS (by rw [hml]; exact hl.1) dX0_checkPair_15 dX0_checkPair_18 dX0_checkPair_19 dX0_checkPair_21 dX0_checkPair_24 hto (Nat.le_of_ble_eq_true rfl) (Nat.le_of_ble_eq_true rfl) (Nat.le_of_ble_eq_true rfl) (Nat.le_of_ble_eq_true rfl) hlocks

set_option maxHeartbeats 4000000 in
set_option maxRecDepth 100000 in
theorem c_X0_checkEdge_none (l : Launch) (hfl : l.stackTraces = false) (D : va_G) (cy : ClassId) (h a0 a1 a2 N : Nat) (ec cc : Int32) (f cs tr : Nat → Int32) (u v : Nat) (hN : N ≤ 20) (hu : u < N) (hv : v < N) (he : bt (f u) v = false) : vx_Met l yX0_checkEdge wsX0_checkEdge ({ frames := 6, cells := 1, slots := 6, locals := 82 } : Room) (va_Pc [.ref h, .int (nI u), .int (nI v)] (fun U => zRd D (wB h a0 a1 a2 cy N ec cc f cs tr) [(cy, .int)] U ∧ zTh U)) zNv (zXc nNSE) 1 6 zNo := by
  refine vx_ofW (cc := cX0_checkEdge) (maxL := 3) (ret := none) (by decide) rfl ?_
  intro p e s m args below meth c s₁ B hml hto hv
  obtain ⟨rfl, ⟨hP, hK⟩, hT⟩ := hv
  have hx := B.exec
  have hb := B.bytes
  have hr := B.returns
  have hts := atoms_spec (ws := wsX0_checkEdge) B.pre
  have hown : s.vm.findClass RX0 = some m.cls := findClass_of_methodNamed B.named
  have hlocks := B.notSynchronized
  have hS : va_S (fun _ => False) s.heap s.heap [] := va_S.rf
  have hin : ∀ w ∈ wsX00, w ∈ wsX0_checkEdge := by decide +kernel
  have hf9 := hts (.fieldLink RX0 9 "Corebarn" "neighbours" "[I") (by decide +kernel)
  have hl := lv_entry ([.ref h, .int (nI u), .int (nI v)]) (n := 3) (Nat.le_of_ble_eq_true rfl)
  rw [lg_entry_eq]
  generalize (lg_sl ([.ref h, .int (nI u), .int (nI v)]) ++ List.replicate (3 - (lg_sl ([.ref h, .int (nI u), .int (nI v)])).length) Slot.unset).toArray = ls at hl ⊢
  have hl : lv_has ls 3 [(0, .ref h), (1, .int (nI u)), (2, .int (nI v))] := hl
  refine lv_aload_n hx hb dX0_checkEdge_0 rfl (lv_at hl 0 rfl) ?_
  refine va_get (D := D) (ci := 0) (v := .ref a0) (C := RX0) (T := TX0) (N := 6) hx hb hts hin hown hK hP 0 rfl rfl 0 (by decide) hf9 (fun _ h9 => h9) rfl dX0_checkEdge_1 ?_
  refine lv_iload_n hx hb dX0_checkEdge_4 rfl (lv_at hl 1 rfl) ?_
  refine z_iald hx hb hK hP 1 0 rfl rfl (by omega) (by decide) dX0_checkEdge_5 ?_
  refine lv_iload_n hx hb dX0_checkEdge_6 rfl (lv_at hl 2 rfl) ?_
  refine zrS0 (As := [.int (f u), .int (nI v)]) (rest := []) ⟨hx, hb, hml, hown, hts⟩ (c_X0_contains l (f u) v (by omega)) (va_cwS 2 hts gX0_checkEdge_X0_contains rfl rfl rfl (by decide +kernel) ⟨Nat.le_of_ble_eq_true rfl, Nat.le_of_ble_eq_true rfl⟩) rfl hl rfl (Nat.le_of_ble_eq_true rfl) dX0_checkEdge_7 ⟨Nat.le_of_ble_eq_true rfl, Nat.le_of_ble_eq_true rfl⟩ hS (fun r7 H locs hw7 hk9 hS => ?_)
  obtain rfl : r7 = (zb (bt (f u) v)) := hw7
  have hP := zkeep hP hk9
  rw [he]
  refine z_ifb_false_ne (tgt := 23) hx hb dX0_checkEdge_10 (by decide) ?_
  exact zthrowN (cc := cX0_checkEdge) (rest := []) (text := "there is no such edge") (is := 139) hx hb hfl hown (by decide +kernel) (hts (.classLink RX0 95 nNSE) (by decide +kernel)) (hts (.initialized nNSE) (by decide +kernel)) (fun w h => hts w (List.mem_cons_of_mem _ (List.mem_append_right _ h))) zh2_99 zg_99 hT hS (by rw [hml]; exact hl.1) dX0_checkEdge_13 dX0_checkEdge_16 dX0_checkEdge_17 dX0_checkEdge_19 dX0_checkEdge_22 hto (Nat.le_of_ble_eq_true rfl) (Nat.le_of_ble_eq_true rfl) (Nat.le_of_ble_eq_true rfl) (Nat.le_of_ble_eq_true rfl) hlocks

set_option maxHeartbeats 4000000 in
set_option maxRecDepth 100000 in
theorem c_X0_checkLevel_neg (l : Launch) (hfl : l.stackTraces = false) (k : Int32) (hk : k < 0) : vx_Met l yX0_checkLevel wsX0_checkLevel ({ frames := 6, cells := 1, slots := 6, locals := 82 } : Room) (va_Pc [.int k] zTh) zNv (zXc nIAE) 1 6 zNo := by
  refine vx_ofW (cc := cX0_checkLevel) (maxL := 1) (ret := none) (by decide) rfl ?_
  intro p e s m args below meth c s₁ B hml hto hv
  obtain ⟨rfl, hT⟩ := hv
  have hx := B.exec
  have hb := B.bytes
  have hr := B.returns
  have hts := atoms_spec (ws := wsX0_checkLevel) B.pre
  have hown : s.vm.findClass RX0 = some m.cls := findClass_of_methodNamed B.named
  have hlocks := B.notSynchronized
  have hS : va_S (fun _ => False) s.heap s.heap [] := va_S.rf
  have hl := lv_entry ([.int k]) (n := 1) (Nat.le_of_ble_eq_true rfl)
  rw [lg_entry_eq]
  generalize (lg_sl ([.int k]) ++ List.replicate (1 - (lg_sl ([.int k])).length) Slot.unset).toArray = ls at hl ⊢
  have hl : lv_has ls 1 [(0, .int k)] := hl
  refine lv_iload_n hx hb dX0_checkLevel_0 rfl (lv_at hl 0 rfl) ?_
  refine lv_if_ge (tgt := 14) hx hb dX0_checkLevel_1 (by decide) (fun h1 => ?_) (fun h1 => ?_)
  · exact absurd hk (Int32.not_lt.mpr h1)
  · exact zthrow (cc := cX0_checkLevel) (rest := []) (text := "k is negative") (ik := 130) (is := 141) (ic := 134) hx hb hfl hown (by simp) (by decide +kernel) (by decide +kernel) (hts (.classLink RX0 130 nIAE) (by decide +kernel)) (hts (.initialized nIAE) (by decide +kernel)) (fun w h => hts w (List.mem_cons_of_mem _ (List.mem_append_right _ h))) zh2_134 zg_134 hT hS (by rw [hml]; exact hl.1) dX0_checkLevel_4 dX0_checkLevel_7 dX0_checkLevel_8 dX0_checkLevel_10 dX0_checkLevel_13 hto (Nat.le_of_ble_eq_true rfl) (Nat.le_of_ble_eq_true rfl) (Nat.le_of_ble_eq_true rfl) (Nat.le_of_ble_eq_true rfl) hlocks

set_option maxHeartbeats 4000000 in
set_option maxRecDepth 100000 in
theorem c_X0_addNode_full (l : Launch) (hfl : l.stackTraces = false) (D : va_G) (cy : ClassId) (h a0 a1 a2 N : Nat) (ec cc : Int32) (f cs tr : Nat → Int32) (hN : N = 20) : vx_Met l yX0_addNode wsX0_addNode ({ frames := 6, cells := 1, slots := 6, locals := 82 } : Room) (va_Pc [.ref h] (fun U => zRd D (wB h a0 a1 a2 cy N ec cc f cs tr) [(cy, .int)] U ∧ zTh U)) zNi (zXc nISE) 1 6 zNo := by
  refine vx_ofW (cc := cX0_addNode) (maxL := 2) (ret := (some .int)) (by decide) rfl ?_
  intro p e s m args below meth c s₁ B hml hto hv
  obtain ⟨rfl, ⟨hP, hK⟩, hT⟩ := hv
  have hx := B.exec
  have hb := B.bytes
  have hr := B.returns
  have hts := atoms_spec (ws := wsX0_addNode) B.pre
  have hown : s.vm.findClass RX0 = some m.cls := findClass_of_methodNamed B.named
  have hlocks := B.notSynchronized
  have hS : va_S (fun _ => False) s.heap s.heap [] := va_S.rf
  have hin : ∀ w ∈ wsX00, w ∈ wsX0_addNode := by decide +kernel
  have hf19 := hts (.fieldLink RX0 19 "Corebarn" "nodeCount" "I") (by decide +kernel)
  have hl := lv_entry ([.ref h]) (n := 2) (Nat.le_of_ble_eq_true rfl)
  rw [lg_entry_eq]
  generalize (lg_sl ([.ref h]) ++ List.replicate (2 - (lg_sl ([.ref h])).length) Slot.unset).toArray = ls at hl ⊢
  have hl : lv_has ls 2 [(0, .ref h)] := hl
  refine lv_aload_n hx hb dX0_addNode_0 rfl (lv_at hl 0 rfl) ?_
  refine va_get (D := D) (ci := 0) (v := .int (nI N)) (C := RX0) (T := TX0) (N := 6) hx hb hts hin hown hK hP 0 rfl rfl 3 (by decide) hf19 (fun _ h9 => h9) rfl dX0_addNode_1 ?_
  refine lv_bipush (v := (nI 20)) hx hb dX0_addNode_4 (by decide) ?_
  refine z_icmp_lt (tgt := 19) hx hb dX0_addNode_6 (by decide) (by omega) (by omega) (fun h6 => ?_) (fun h6 => ?_)
  · exact absurd hN (by omega)
  · exact zthrow (cc := cX0_addNode) (rest := []) (text := "there are 20 nodes") (ik := 29) (is := 31) (ic := 33) hx hb hfl hown (by simp) (by decide +kernel) (by decide +kernel) (hts (.classLink RX0 29 nISE) (by decide +kernel)) (hts (.initialized nISE) (by decide +kernel)) (fun w h => hts w (List.mem_cons_of_mem _ (List.mem_append_right _ h))) zh2_33 zg_33 hT hS (by rw [hml]; exact hl.1) dX0_addNode_9 dX0_addNode_12 dX0_addNode_13 dX0_addNode_15 dX0_addNode_18 hto (Nat.le_of_ble_eq_true rfl) (Nat.le_of_ble_eq_true rfl) (Nat.le_of_ble_eq_true rfl) (Nat.le_of_ble_eq_true rfl) hlocks

set_option maxHeartbeats 4000000 in
set_option maxRecDepth 100000 in
theorem c_X0_degree_bad (l : Launch) (hfl : l.stackTraces = false) (D : va_G) (cy : ClassId) (h a0 a1 a2 N : Nat) (ec cc : Int32) (f cs tr : Nat → Int32) (q : Int32) (hq : isNb q N = false) : vx_Met l yX0_degree wsX0_degree ({ frames := 7, cells := 1, slots := 6, locals := 103 } : Room) (va_Pc [.ref h, .int q] (fun U => zRd D (wB h a0 a1 a2 cy N ec cc f cs tr) [(cy, .int)] U ∧ zTh U)) zNi (zXc nIOB) 1 6 zNo := by
  refine vx_ofW (cc := cX0_degree) (maxL := 2) (ret := (some .int)) (by decide) rfl ?_
  intro p e s m args below meth c s₁ B hml hto hv
  obtain ⟨rfl, ⟨hP, hK⟩, hT⟩ := hv
  have hx := B.exec
  have hb := B.bytes
  have hr := B.returns
  have hts := atoms_spec (ws := wsX0_degree) B.pre
  have hown : s.vm.findClass RX0 = some m.cls := findClass_of_methodNamed B.named
  have hlocks := B.notSynchronized
  have hS : va_S (fun _ => False) s.heap s.heap [] := va_S.rf
  have hin : ∀ w ∈ wsX00, w ∈ wsX0_degree := by decide +kernel
  have hf9 := hts (.fieldLink RX0 9 "Corebarn" "neighbours" "[I") (by decide +kernel)
  have hl := lv_entry ([.ref h, .int q]) (n := 2) (Nat.le_of_ble_eq_true rfl)
  rw [lg_entry_eq]
  generalize (lg_sl ([.ref h, .int q]) ++ List.replicate (2 - (lg_sl ([.ref h, .int q])).length) Slot.unset).toArray = ls at hl ⊢
  have hl : lv_has ls 2 [(0, .ref h), (1, .int q)] := hl
  refine lv_aload_n hx hb dX0_degree_0 rfl (lv_at hl 0 rfl) ?_
  refine lv_iload_n hx hb dX0_degree_1 rfl (lv_at hl 1 rfl) ?_
  exact zxV (As := [.int q]) (rest := []) 0 ⟨hx, hb, hml, hown, hts⟩ (c_X0_checkNode_bad l hfl D cy h a0 a1 a2 N ec cc f cs tr q hq) (cwV 1 hts gX0_degree_X0_checkNode rfl rfl rfl (by decide +kernel) ⟨Nat.le_of_ble_eq_true rfl, Nat.le_of_ble_eq_true rfl⟩) hK hP hT rfl rfl rfl hl rfl (Nat.le_of_ble_eq_true rfl) dX0_degree_2 ⟨Nat.le_of_ble_eq_true rfl, Nat.le_of_ble_eq_true rfl⟩ hS hto hlocks

set_option maxHeartbeats 4000000 in
set_option maxRecDepth 100000 in
theorem c_X0_core_bad (l : Launch) (hfl : l.stackTraces = false) (D : va_G) (cy : ClassId) (h a0 a1 a2 N : Nat) (ec cc : Int32) (f cs tr : Nat → Int32) (q : Int32) (hq : isNb q N = false) : vx_Met l yX0_core wsX0_core ({ frames := 7, cells := 1, slots := 6, locals := 103 } : Room) (va_Pc [.ref h, .int q] (fun U => zRd D (wB h a0 a1 a2 cy N ec cc f cs tr) [(cy, .int)] U ∧ zTh U)) zNi (zXc nIOB) 1 6 zNo := by
  refine vx_ofW (cc := cX0_core) (maxL := 2) (ret := (some .int)) (by decide) rfl ?_
  intro p e s m args below meth c s₁ B hml hto hv
  obtain ⟨rfl, ⟨hP, hK⟩, hT⟩ := hv
  have hx := B.exec
  have hb := B.bytes
  have hr := B.returns
  have hts := atoms_spec (ws := wsX0_core) B.pre
  have hown : s.vm.findClass RX0 = some m.cls := findClass_of_methodNamed B.named
  have hlocks := B.notSynchronized
  have hS : va_S (fun _ => False) s.heap s.heap [] := va_S.rf
  have hin : ∀ w ∈ wsX00, w ∈ wsX0_core := by decide +kernel
  have hf13 := hts (.fieldLink RX0 13 "Corebarn" "cores" "[I") (by decide +kernel)
  have hl := lv_entry ([.ref h, .int q]) (n := 2) (Nat.le_of_ble_eq_true rfl)
  rw [lg_entry_eq]
  generalize (lg_sl ([.ref h, .int q]) ++ List.replicate (2 - (lg_sl ([.ref h, .int q])).length) Slot.unset).toArray = ls at hl ⊢
  have hl : lv_has ls 2 [(0, .ref h), (1, .int q)] := hl
  refine lv_aload_n hx hb dX0_core_0 rfl (lv_at hl 0 rfl) ?_
  refine lv_iload_n hx hb dX0_core_1 rfl (lv_at hl 1 rfl) ?_
  exact zxV (As := [.int q]) (rest := []) 0 ⟨hx, hb, hml, hown, hts⟩ (c_X0_checkNode_bad l hfl D cy h a0 a1 a2 N ec cc f cs tr q hq) (cwV 1 hts gX0_core_X0_checkNode rfl rfl rfl (by decide +kernel) ⟨Nat.le_of_ble_eq_true rfl, Nat.le_of_ble_eq_true rfl⟩) hK hP hT rfl rfl rfl hl rfl (Nat.le_of_ble_eq_true rfl) dX0_core_2 ⟨Nat.le_of_ble_eq_true rfl, Nat.le_of_ble_eq_true rfl⟩ hS hto hlocks

set_option maxHeartbeats 4000000 in
set_option maxRecDepth 100000 in
theorem c_X0_isDense_bad (l : Launch) (hfl : l.stackTraces = false) (D : va_G) (cy : ClassId) (h a0 a1 a2 N : Nat) (ec cc : Int32) (f cs tr : Nat → Int32) (q : Int32) (hq : isNb q N = false) : vx_Met l yX0_isDense wsX0_isDense ({ frames := 7, cells := 1, slots := 6, locals := 103 } : Room) (va_Pc [.ref h, .int q] (fun U => zRd D (wB h a0 a1 a2 cy N ec cc f cs tr) [(cy, .int)] U ∧ zTh U)) zNi (zXc nIOB) 1 6 zNo := by
  refine vx_ofW (cc := cX0_isDense) (maxL := 2) (ret := (some .boolean)) (by decide) rfl ?_
  intro p e s m args below meth c s₁ B hml hto hv
  obtain ⟨rfl, ⟨hP, hK⟩, hT⟩ := hv
  have hx := B.exec
  have hb := B.bytes
  have hr := B.returns
  have hts := atoms_spec (ws := wsX0_isDense) B.pre
  have hown : s.vm.findClass RX0 = some m.cls := findClass_of_methodNamed B.named
  have hlocks := B.notSynchronized
  have hS : va_S (fun _ => False) s.heap s.heap [] := va_S.rf
  have hl := lv_entry ([.ref h, .int q]) (n := 2) (Nat.le_of_ble_eq_true rfl)
  rw [lg_entry_eq]
  generalize (lg_sl ([.ref h, .int q]) ++ List.replicate (2 - (lg_sl ([.ref h, .int q])).length) Slot.unset).toArray = ls at hl ⊢
  have hl : lv_has ls 2 [(0, .ref h), (1, .int q)] := hl
  refine lv_aload_n hx hb dX0_isDense_0 rfl (lv_at hl 0 rfl) ?_
  refine lv_iload_n hx hb dX0_isDense_1 rfl (lv_at hl 1 rfl) ?_
  exact zxV (As := [.int q]) (rest := []) 0 ⟨hx, hb, hml, hown, hts⟩ (c_X0_checkNode_bad l hfl D cy h a0 a1 a2 N ec cc f cs tr q hq) (cwV 1 hts gX0_isDense_X0_checkNode rfl rfl rfl (by decide +kernel) ⟨Nat.le_of_ble_eq_true rfl, Nat.le_of_ble_eq_true rfl⟩) hK hP hT rfl rfl rfl hl rfl (Nat.le_of_ble_eq_true rfl) dX0_isDense_2 ⟨Nat.le_of_ble_eq_true rfl, Nat.le_of_ble_eq_true rfl⟩ hS hto hlocks

set_option maxHeartbeats 4000000 in
set_option maxRecDepth 100000 in
theorem c_X0_isolate_bad (l : Launch) (hfl : l.stackTraces = false) (D : va_G) (cy : ClassId) (h a0 a1 a2 N : Nat) (ec cc : Int32) (f cs tr : Nat → Int32) (q : Int32) (hq : isNb q N = false) : vx_Met l yX0_isolate wsX0_isolate ({ frames := 7, cells := 1, slots := 6, locals := 132 } : Room) (va_Pc [.ref h, .int q] (fun U => zRd D (wB h a0 a1 a2 cy N ec cc f cs tr) [(cy, .int)] U ∧ zTh U)) zNi (zXc nIOB) 1 6 zNo := by
  refine vx_ofW (cc := cX0_isolate) (maxL := 4) (ret := (some .int)) (by decide) rfl ?_
  intro p e s m args below meth c s₁ B hml hto hv
  obtain ⟨rfl, ⟨hP, hK⟩, hT⟩ := hv
  have hx := B.exec
  have hb := B.bytes
  have hr := B.returns
  have hts := atoms_spec (ws := wsX0_isolate) B.pre
  have hown : s.vm.findClass RX0 = some m.cls := findClass_of_methodNamed B.named
  have hlocks := B.notSynchronized
  have hS : va_S (fun _ => False) s.heap s.heap [] := va_S.rf
  have hin : ∀ w ∈ wsX00, w ∈ wsX0_isolate := by decide +kernel
  have hf9 := hts (.fieldLink RX0 9 "Corebarn" "neighbours" "[I") (by decide +kernel)
  have hf19 := hts (.fieldLink RX0 19 "Corebarn" "nodeCount" "I") (by decide +kernel)
  have hl := lv_entry ([.ref h, .int q]) (n := 4) (Nat.le_of_ble_eq_true rfl)
  rw [lg_entry_eq]
  generalize (lg_sl ([.ref h, .int q]) ++ List.replicate (4 - (lg_sl ([.ref h, .int q])).length) Slot.unset).toArray = ls at hl ⊢
  have hl : lv_has ls 4 [(0, .ref h), (1, .int q)] := hl
  refine lv_aload_n hx hb dX0_isolate_0 rfl (lv_at hl 0 rfl) ?_
  refine lv_iload_n hx hb dX0_isolate_1 rfl (lv_at hl 1 rfl) ?_
  exact zxV (As := [.int q]) (rest := []) 0 ⟨hx, hb, hml, hown, hts⟩ (c_X0_checkNode_bad l hfl D cy h a0 a1 a2 N ec cc f cs tr q hq) (cwV 1 hts gX0_isolate_X0_checkNode rfl rfl rfl (by decide +kernel) ⟨Nat.le_of_ble_eq_true rfl, Nat.le_of_ble_eq_true rfl⟩) hK hP hT rfl rfl rfl hl rfl (Nat.le_of_ble_eq_true rfl) dX0_isolate_2 ⟨Nat.le_of_ble_eq_true rfl, Nat.le_of_ble_eq_true rfl⟩ hS hto hlocks

set_option maxHeartbeats 4000000 in
set_option maxRecDepth 100000 in
theorem c_X0_neighbour_bad (l : Launch) (hfl : l.stackTraces = false) (D : va_G) (cy : ClassId) (h a0 a1 a2 N : Nat) (ec cc : Int32) (f cs tr : Nat → Int32) (q q2 : Int32) (hq : isNb q N = false) : vx_Met l yX0_neighbour wsX0_neighbour ({ frames := 7, cells := 1, slots := 6, locals := 103 } : Room) (va_Pc [.ref h, .int q, .int q2] (fun U => zRd D (wB h a0 a1 a2 cy N ec cc f cs tr) [(cy, .int)] U ∧ zTh U)) zNi (zXc nIOB) 1 6 zNo := by
  refine vx_ofW (cc := cX0_neighbour) (maxL := 5) (ret := (some .int)) (by decide) rfl ?_
  intro p e s m args below meth c s₁ B hml hto hv
  obtain ⟨rfl, ⟨hP, hK⟩, hT⟩ := hv
  have hx := B.exec
  have hb := B.bytes
  have hr := B.returns
  have hts := atoms_spec (ws := wsX0_neighbour) B.pre
  have hown : s.vm.findClass RX0 = some m.cls := findClass_of_methodNamed B.named
  have hlocks := B.notSynchronized
  have hS : va_S (fun _ => False) s.heap s.heap [] := va_S.rf
  have hin : ∀ w ∈ wsX00, w ∈ wsX0_neighbour := by decide +kernel
  have hf9 := hts (.fieldLink RX0 9 "Corebarn" "neighbours" "[I") (by decide +kernel)
  have hf19 := hts (.fieldLink RX0 19 "Corebarn" "nodeCount" "I") (by decide +kernel)
  have hl := lv_entry ([.ref h, .int q, .int q2]) (n := 5) (Nat.le_of_ble_eq_true rfl)
  rw [lg_entry_eq]
  generalize (lg_sl ([.ref h, .int q, .int q2]) ++ List.replicate (5 - (lg_sl ([.ref h, .int q, .int q2])).length) Slot.unset).toArray = ls at hl ⊢
  have hl : lv_has ls 5 [(0, .ref h), (1, .int q), (2, .int q2)] := hl
  refine lv_aload_n hx hb dX0_neighbour_0 rfl (lv_at hl 0 rfl) ?_
  refine lv_iload_n hx hb dX0_neighbour_1 rfl (lv_at hl 1 rfl) ?_
  exact zxV (As := [.int q]) (rest := []) 0 ⟨hx, hb, hml, hown, hts⟩ (c_X0_checkNode_bad l hfl D cy h a0 a1 a2 N ec cc f cs tr q hq) (cwV 1 hts gX0_neighbour_X0_checkNode rfl rfl rfl (by decide +kernel) ⟨Nat.le_of_ble_eq_true rfl, Nat.le_of_ble_eq_true rfl⟩) hK hP hT rfl rfl rfl hl rfl (Nat.le_of_ble_eq_true rfl) dX0_neighbour_2 ⟨Nat.le_of_ble_eq_true rfl, Nat.le_of_ble_eq_true rfl⟩ hS hto hlocks

set_option maxHeartbeats 4000000 in
set_option maxRecDepth 100000 in
theorem c_X0_community_bad (l : Launch) (hfl : l.stackTraces = false) (D : va_G) (cy : ClassId) (h a0 a1 a2 N : Nat) (ec cc : Int32) (f cs tr : Nat → Int32) (q q2 : Int32) (hq : isNb q N = false) : vx_Met l yX0_community wsX0_community ({ frames := 7, cells := 1, slots := 6, locals := 103 } : Room) (va_Pc [.ref h, .int q, .int q2] (fun U => zRd D (wB h a0 a1 a2 cy N ec cc f cs tr) [(cy, .int)] U ∧ zTh U)) zNi (zXc nIOB) 1 6 zNo := by
  refine vx_ofW (cc := cX0_community) (maxL := 3) (ret := (some .int)) (by decide) rfl ?_
  intro p e s m args below meth c s₁ B hml hto hv
  obtain ⟨rfl, ⟨hP, hK⟩, hT⟩ := hv
  have hx := B.exec
  have hb := B.bytes
  have hr := B.returns
  have hts := atoms_spec (ws := wsX0_community) B.pre
  have hown : s.vm.findClass RX0 = some m.cls := findClass_of_methodNamed B.named
  have hlocks := B.notSynchronized
  have hS : va_S (fun _ => False) s.heap s.heap [] := va_S.rf
  have hl := lv_entry ([.ref h, .int q, .int q2]) (n := 3) (Nat.le_of_ble_eq_true rfl)
  rw [lg_entry_eq]
  generalize (lg_sl ([.ref h, .int q, .int q2]) ++ List.replicate (3 - (lg_sl ([.ref h, .int q, .int q2])).length) Slot.unset).toArray = ls at hl ⊢
  have hl : lv_has ls 3 [(0, .ref h), (1, .int q), (2, .int q2)] := hl
  refine lv_aload_n hx hb dX0_community_0 rfl (lv_at hl 0 rfl) ?_
  refine lv_iload_n hx hb dX0_community_1 rfl (lv_at hl 1 rfl) ?_
  exact zxV (As := [.int q]) (rest := []) 0 ⟨hx, hb, hml, hown, hts⟩ (c_X0_checkNode_bad l hfl D cy h a0 a1 a2 N ec cc f cs tr q hq) (cwV 1 hts gX0_community_X0_checkNode rfl rfl rfl (by decide +kernel) ⟨Nat.le_of_ble_eq_true rfl, Nat.le_of_ble_eq_true rfl⟩) hK hP hT rfl rfl rfl hl rfl (Nat.le_of_ble_eq_true rfl) dX0_community_2 ⟨Nat.le_of_ble_eq_true rfl, Nat.le_of_ble_eq_true rfl⟩ hS hto hlocks

set_option maxHeartbeats 4000000 in
set_option maxRecDepth 100000 in
theorem c_X0_areJoined_bad1 (l : Launch) (hfl : l.stackTraces = false) (D : va_G) (cy : ClassId) (h a0 a1 a2 N : Nat) (ec cc : Int32) (f cs tr : Nat → Int32) (q1 q2 : Int32) (hq : isNb q1 N = false) : vx_Met l yX0_areJoined wsX0_areJoined ({ frames := 7, cells := 1, slots := 6, locals := 103 } : Room) (va_Pc [.ref h, .int q1, .int q2] (fun U => zRd D (wB h a0 a1 a2 cy N ec cc f cs tr) [(cy, .int)] U ∧ zTh U)) zNi (zXc nIOB) 1 6 zNo := by
  refine vx_ofW (cc := cX0_areJoined) (maxL := 3) (ret := (some .boolean)) (by decide) rfl ?_
  intro p e s m args below meth c s₁ B hml hto hv
  obtain ⟨rfl, ⟨hP, hK⟩, hT⟩ := hv
  have hx := B.exec
  have hb := B.bytes
  have hr := B.returns
  have hts := atoms_spec (ws := wsX0_areJoined) B.pre
  have hown : s.vm.findClass RX0 = some m.cls := findClass_of_methodNamed B.named
  have hlocks := B.notSynchronized
  have hS : va_S (fun _ => False) s.heap s.heap [] := va_S.rf
  have hin : ∀ w ∈ wsX00, w ∈ wsX0_areJoined := by decide +kernel
  have hf9 := hts (.fieldLink RX0 9 "Corebarn" "neighbours" "[I") (by decide +kernel)
  have hl := lv_entry ([.ref h, .int q1, .int q2]) (n := 3) (Nat.le_of_ble_eq_true rfl)
  rw [lg_entry_eq]
  generalize (lg_sl ([.ref h, .int q1, .int q2]) ++ List.replicate (3 - (lg_sl ([.ref h, .int q1, .int q2])).length) Slot.unset).toArray = ls at hl ⊢
  have hl : lv_has ls 3 [(0, .ref h), (1, .int q1), (2, .int q2)] := hl
  refine lv_aload_n hx hb dX0_areJoined_0 rfl (lv_at hl 0 rfl) ?_
  refine lv_iload_n hx hb dX0_areJoined_1 rfl (lv_at hl 1 rfl) ?_
  exact zxV (As := [.int q1]) (rest := []) 0 ⟨hx, hb, hml, hown, hts⟩ (c_X0_checkNode_bad l hfl D cy h a0 a1 a2 N ec cc f cs tr q1 hq) (cwV 1 hts gX0_areJoined_X0_checkNode rfl rfl rfl (by decide +kernel) ⟨Nat.le_of_ble_eq_true rfl, Nat.le_of_ble_eq_true rfl⟩) hK hP hT rfl rfl rfl hl rfl (Nat.le_of_ble_eq_true rfl) dX0_areJoined_2 ⟨Nat.le_of_ble_eq_true rfl, Nat.le_of_ble_eq_true rfl⟩ hS hto hlocks

set_option maxHeartbeats 4000000 in
set_option maxRecDepth 100000 in
theorem c_X0_areJoined_bad2 (l : Launch) (hfl : l.stackTraces = false) (D : va_G) (cy : ClassId) (h a0 a1 a2 N : Nat) (ec cc : Int32) (f cs tr : Nat → Int32) (u : Nat) (q2 : Int32) (hN : N ≤ 20) (hu : u < N) (hq : isNb q2 N = false) : vx_Met l yX0_areJoined wsX0_areJoined ({ frames := 7, cells := 1, slots := 6, locals := 103 } : Room) (va_Pc [.ref h, .int (nI u), .int q2] (fun U => zRd D (wB h a0 a1 a2 cy N ec cc f cs tr) [(cy, .int)] U ∧ zTh U)) zNi (zXc nIOB) 1 6 zNo := by
  refine vx_ofW (cc := cX0_areJoined) (maxL := 3) (ret := (some .boolean)) (by decide) rfl ?_
  intro p e s m args below meth c s₁ B hml hto hv
  obtain ⟨rfl, ⟨hP, hK⟩, hT⟩ := hv
  have hx := B.exec
  have hb := B.bytes
  have hr := B.returns
  have hts := atoms_spec (ws := wsX0_areJoined) B.pre
  have hown : s.vm.findClass RX0 = some m.cls := findClass_of_methodNamed B.named
  have hlocks := B.notSynchronized
  have hS : va_S (fun _ => False) s.heap s.heap [] := va_S.rf
  have hin : ∀ w ∈ wsX00, w ∈ wsX0_areJoined := by decide +kernel
  have hf9 := hts (.fieldLink RX0 9 "Corebarn" "neighbours" "[I") (by decide +kernel)
  have hl := lv_entry ([.ref h, .int (nI u), .int q2]) (n := 3) (Nat.le_of_ble_eq_true rfl)
  rw [lg_entry_eq]
  generalize (lg_sl ([.ref h, .int (nI u), .int q2]) ++ List.replicate (3 - (lg_sl ([.ref h, .int (nI u), .int q2])).length) Slot.unset).toArray = ls at hl ⊢
  have hl : lv_has ls 3 [(0, .ref h), (1, .int (nI u)), (2, .int q2)] := hl
  refine lv_aload_n hx hb dX0_areJoined_0 rfl (lv_at hl 0 rfl) ?_
  refine lv_iload_n hx hb dX0_areJoined_1 rfl (lv_at hl 1 rfl) ?_
  refine zrVv (As := [.int (nI u)]) (rest := []) 0 ⟨hx, hb, hml, hown, hts⟩ (c_X0_checkNode_ok l D cy h a0 a1 a2 N ec cc f cs tr u hN hu) (cwV 1 hts gX0_areJoined_X0_checkNode rfl rfl rfl (by decide +kernel) ⟨Nat.le_of_ble_eq_true rfl, Nat.le_of_ble_eq_true rfl⟩) hK hP rfl rfl rfl hl rfl (Nat.le_of_ble_eq_true rfl) dX0_areJoined_2 ⟨Nat.le_of_ble_eq_true rfl, Nat.le_of_ble_eq_true rfl⟩ hS (fun H locs hw2 hk9 hS => ?_)
  have hP := zkeep hP hk9
  refine lv_aload_n hx hb dX0_areJoined_5 rfl (lv_at hl 0 rfl) ?_
  refine lv_iload_n hx hb dX0_areJoined_6 rfl (lv_at hl 2 rfl) ?_
  exact zxV (As := [.int q2]) (rest := []) 0 ⟨hx, hb, hml, hown, hts⟩ (c_X0_checkNode_bad l hfl D cy h a0 a1 a2 N ec cc f cs tr q2 hq) (cwV 1 hts gX0_areJoined_X0_checkNode rfl rfl rfl (by decide +kernel) ⟨Nat.le_of_ble_eq_true rfl, Nat.le_of_ble_eq_true rfl⟩) hK hP hT rfl rfl rfl hl rfl (Nat.le_of_ble_eq_true rfl) dX0_areJoined_7 ⟨Nat.le_of_ble_eq_true rfl, Nat.le_of_ble_eq_true rfl⟩ hS hto hlocks

set_option maxHeartbeats 4000000 in
set_option maxRecDepth 100000 in
theorem c_X0_together_bad1 (l : Launch) (hfl : l.stackTraces = false) (D : va_G) (cy : ClassId) (h a0 a1 a2 N : Nat) (ec cc : Int32) (f cs tr : Nat → Int32) (q1 q2 : Int32) (hq : isNb q1 N = false) : vx_Met l yX0_together wsX0_together ({ frames := 7, cells := 1, slots := 6, locals := 103 } : Room) (va_Pc [.ref h, .int q1, .int q2] (fun U => zRd D (wB h a0 a1 a2 cy N ec cc f cs tr) [(cy, .int)] U ∧ zTh U)) zNi (zXc nIOB) 1 6 zNo := by
  refine vx_ofW (cc := cX0_together) (maxL := 4) (ret := (some .int)) (by decide) rfl ?_
  intro p e s m args below meth c s₁ B hml hto hv
  obtain ⟨rfl, ⟨hP, hK⟩, hT⟩ := hv
  have hx := B.exec
  have hb := B.bytes
  have hr := B.returns
  have hts := atoms_spec (ws := wsX0_together) B.pre
  have hown : s.vm.findClass RX0 = some m.cls := findClass_of_methodNamed B.named
  have hlocks := B.notSynchronized
  have hS : va_S (fun _ => False) s.heap s.heap [] := va_S.rf
  have hin : ∀ w ∈ wsX00, w ∈ wsX0_together := by decide +kernel
  have hf13 := hts (.fieldLink RX0 13 "Corebarn" "cores" "[I") (by decide +kernel)
  have hl := lv_entry ([.ref h, .int q1, .int q2]) (n := 4) (Nat.le_of_ble_eq_true rfl)
  rw [lg_entry_eq]
  generalize (lg_sl ([.ref h, .int q1, .int q2]) ++ List.replicate (4 - (lg_sl ([.ref h, .int q1, .int q2])).length) Slot.unset).toArray = ls at hl ⊢
  have hl : lv_has ls 4 [(0, .ref h), (1, .int q1), (2, .int q2)] := hl
  refine lv_aload_n hx hb dX0_together_0 rfl (lv_at hl 0 rfl) ?_
  refine lv_iload_n hx hb dX0_together_1 rfl (lv_at hl 1 rfl) ?_
  exact zxV (As := [.int q1]) (rest := []) 0 ⟨hx, hb, hml, hown, hts⟩ (c_X0_checkNode_bad l hfl D cy h a0 a1 a2 N ec cc f cs tr q1 hq) (cwV 1 hts gX0_together_X0_checkNode rfl rfl rfl (by decide +kernel) ⟨Nat.le_of_ble_eq_true rfl, Nat.le_of_ble_eq_true rfl⟩) hK hP hT rfl rfl rfl hl rfl (Nat.le_of_ble_eq_true rfl) dX0_together_2 ⟨Nat.le_of_ble_eq_true rfl, Nat.le_of_ble_eq_true rfl⟩ hS hto hlocks

set_option maxHeartbeats 4000000 in
set_option maxRecDepth 100000 in
theorem c_X0_together_bad2 (l : Launch) (hfl : l.stackTraces = false) (D : va_G) (cy : ClassId) (h a0 a1 a2 N : Nat) (ec cc : Int32) (f cs tr : Nat → Int32) (u : Nat) (q2 : Int32) (hN : N ≤ 20) (hu : u < N) (hq : isNb q2 N = false) : vx_Met l yX0_together wsX0_together ({ frames := 7, cells := 1, slots := 6, locals := 103 } : Room) (va_Pc [.ref h, .int (nI u), .int q2] (fun U => zRd D (wB h a0 a1 a2 cy N ec cc f cs tr) [(cy, .int)] U ∧ zTh U)) zNi (zXc nIOB) 1 6 zNo := by
  refine vx_ofW (cc := cX0_together) (maxL := 4) (ret := (some .int)) (by decide) rfl ?_
  intro p e s m args below meth c s₁ B hml hto hv
  obtain ⟨rfl, ⟨hP, hK⟩, hT⟩ := hv
  have hx := B.exec
  have hb := B.bytes
  have hr := B.returns
  have hts := atoms_spec (ws := wsX0_together) B.pre
  have hown : s.vm.findClass RX0 = some m.cls := findClass_of_methodNamed B.named
  have hlocks := B.notSynchronized
  have hS : va_S (fun _ => False) s.heap s.heap [] := va_S.rf
  have hin : ∀ w ∈ wsX00, w ∈ wsX0_together := by decide +kernel
  have hf13 := hts (.fieldLink RX0 13 "Corebarn" "cores" "[I") (by decide +kernel)
  have hl := lv_entry ([.ref h, .int (nI u), .int q2]) (n := 4) (Nat.le_of_ble_eq_true rfl)
  rw [lg_entry_eq]
  generalize (lg_sl ([.ref h, .int (nI u), .int q2]) ++ List.replicate (4 - (lg_sl ([.ref h, .int (nI u), .int q2])).length) Slot.unset).toArray = ls at hl ⊢
  have hl : lv_has ls 4 [(0, .ref h), (1, .int (nI u)), (2, .int q2)] := hl
  refine lv_aload_n hx hb dX0_together_0 rfl (lv_at hl 0 rfl) ?_
  refine lv_iload_n hx hb dX0_together_1 rfl (lv_at hl 1 rfl) ?_
  refine zrVv (As := [.int (nI u)]) (rest := []) 0 ⟨hx, hb, hml, hown, hts⟩ (c_X0_checkNode_ok l D cy h a0 a1 a2 N ec cc f cs tr u hN hu) (cwV 1 hts gX0_together_X0_checkNode rfl rfl rfl (by decide +kernel) ⟨Nat.le_of_ble_eq_true rfl, Nat.le_of_ble_eq_true rfl⟩) hK hP rfl rfl rfl hl rfl (Nat.le_of_ble_eq_true rfl) dX0_together_2 ⟨Nat.le_of_ble_eq_true rfl, Nat.le_of_ble_eq_true rfl⟩ hS (fun H locs hw2 hk9 hS => ?_)
  have hP := zkeep hP hk9
  refine lv_aload_n hx hb dX0_together_5 rfl (lv_at hl 0 rfl) ?_
  refine lv_iload_n hx hb dX0_together_6 rfl (lv_at hl 2 rfl) ?_
  exact zxV (As := [.int q2]) (rest := []) 0 ⟨hx, hb, hml, hown, hts⟩ (c_X0_checkNode_bad l hfl D cy h a0 a1 a2 N ec cc f cs tr q2 hq) (cwV 1 hts gX0_together_X0_checkNode rfl rfl rfl (by decide +kernel) ⟨Nat.le_of_ble_eq_true rfl, Nat.le_of_ble_eq_true rfl⟩) hK hP hT rfl rfl rfl hl rfl (Nat.le_of_ble_eq_true rfl) dX0_together_7 ⟨Nat.le_of_ble_eq_true rfl, Nat.le_of_ble_eq_true rfl⟩ hS hto hlocks

set_option maxHeartbeats 4000000 in
set_option maxRecDepth 100000 in
theorem c_X0_support_bad1 (l : Launch) (hfl : l.stackTraces = false) (D : va_G) (cy : ClassId) (h a0 a1 a2 N : Nat) (ec cc : Int32) (f cs tr : Nat → Int32) (q1 q2 : Int32) (hq : isNb q1 N = false) : vx_Met l yX0_support wsX0_support ({ frames := 7, cells := 1, slots := 6, locals := 104 } : Room) (va_Pc [.ref h, .int q1, .int q2] (fun U => zRd D (wB h a0 a1 a2 cy N ec cc f cs tr) [(cy, .int)] U ∧ zTh U)) zNi (zXc nIOB) 1 6 zNo := by
  refine vx_ofW (cc := cX0_support) (maxL := 3) (ret := (some .int)) (by decide) rfl ?_
  intro p e s m args below meth c s₁ B hml hto hv
  obtain ⟨rfl, ⟨hP, hK⟩, hT⟩ := hv
  have hx := B.exec
  have hb := B.bytes
  have hr := B.returns
  have hts := atoms_spec (ws := wsX0_support) B.pre
  have hown : s.vm.findClass RX0 = some m.cls := findClass_of_methodNamed B.named
  have hlocks := B.notSynchronized
  have hS : va_S (fun _ => False) s.heap s.heap [] := va_S.rf
  have hin : ∀ w ∈ wsX00, w ∈ wsX0_support := by decide +kernel
  have hf9 := hts (.fieldLink RX0 9 "Corebarn" "neighbours" "[I") (by decide +kernel)
  have hl := lv_entry ([.ref h, .int q1, .int q2]) (n := 3) (Nat.le_of_ble_eq_true rfl)
  rw [lg_entry_eq]
  generalize (lg_sl ([.ref h, .int q1, .int q2]) ++ List.replicate (3 - (lg_sl ([.ref h, .int q1, .int q2])).length) Slot.unset).toArray = ls at hl ⊢
  have hl : lv_has ls 3 [(0, .ref h), (1, .int q1), (2, .int q2)] := hl
  refine lv_aload_n hx hb dX0_support_0 rfl (lv_at hl 0 rfl) ?_
  refine lv_iload_n hx hb dX0_support_1 rfl (lv_at hl 1 rfl) ?_
  exact zxV (As := [.int q1]) (rest := []) 0 ⟨hx, hb, hml, hown, hts⟩ (c_X0_checkNode_bad l hfl D cy h a0 a1 a2 N ec cc f cs tr q1 hq) (cwV 1 hts gX0_support_X0_checkNode rfl rfl rfl (by decide +kernel) ⟨Nat.le_of_ble_eq_true rfl, Nat.le_of_ble_eq_true rfl⟩) hK hP hT rfl rfl rfl hl rfl (Nat.le_of_ble_eq_true rfl) dX0_support_2 ⟨Nat.le_of_ble_eq_true rfl, Nat.le_of_ble_eq_true rfl⟩ hS hto hlocks

set_option maxHeartbeats 4000000 in
set_option maxRecDepth 100000 in
theorem c_X0_support_bad2 (l : Launch) (hfl : l.stackTraces = false) (D : va_G) (cy : ClassId) (h a0 a1 a2 N : Nat) (ec cc : Int32) (f cs tr : Nat → Int32) (u : Nat) (q2 : Int32) (hN : N ≤ 20) (hu : u < N) (hq : isNb q2 N = false) : vx_Met l yX0_support wsX0_support ({ frames := 7, cells := 1, slots := 6, locals := 104 } : Room) (va_Pc [.ref h, .int (nI u), .int q2] (fun U => zRd D (wB h a0 a1 a2 cy N ec cc f cs tr) [(cy, .int)] U ∧ zTh U)) zNi (zXc nIOB) 1 6 zNo := by
  refine vx_ofW (cc := cX0_support) (maxL := 3) (ret := (some .int)) (by decide) rfl ?_
  intro p e s m args below meth c s₁ B hml hto hv
  obtain ⟨rfl, ⟨hP, hK⟩, hT⟩ := hv
  have hx := B.exec
  have hb := B.bytes
  have hr := B.returns
  have hts := atoms_spec (ws := wsX0_support) B.pre
  have hown : s.vm.findClass RX0 = some m.cls := findClass_of_methodNamed B.named
  have hlocks := B.notSynchronized
  have hS : va_S (fun _ => False) s.heap s.heap [] := va_S.rf
  have hin : ∀ w ∈ wsX00, w ∈ wsX0_support := by decide +kernel
  have hf9 := hts (.fieldLink RX0 9 "Corebarn" "neighbours" "[I") (by decide +kernel)
  have hl := lv_entry ([.ref h, .int (nI u), .int q2]) (n := 3) (Nat.le_of_ble_eq_true rfl)
  rw [lg_entry_eq]
  generalize (lg_sl ([.ref h, .int (nI u), .int q2]) ++ List.replicate (3 - (lg_sl ([.ref h, .int (nI u), .int q2])).length) Slot.unset).toArray = ls at hl ⊢
  have hl : lv_has ls 3 [(0, .ref h), (1, .int (nI u)), (2, .int q2)] := hl
  refine lv_aload_n hx hb dX0_support_0 rfl (lv_at hl 0 rfl) ?_
  refine lv_iload_n hx hb dX0_support_1 rfl (lv_at hl 1 rfl) ?_
  refine zrVv (As := [.int (nI u)]) (rest := []) 0 ⟨hx, hb, hml, hown, hts⟩ (c_X0_checkNode_ok l D cy h a0 a1 a2 N ec cc f cs tr u hN hu) (cwV 1 hts gX0_support_X0_checkNode rfl rfl rfl (by decide +kernel) ⟨Nat.le_of_ble_eq_true rfl, Nat.le_of_ble_eq_true rfl⟩) hK hP rfl rfl rfl hl rfl (Nat.le_of_ble_eq_true rfl) dX0_support_2 ⟨Nat.le_of_ble_eq_true rfl, Nat.le_of_ble_eq_true rfl⟩ hS (fun H locs hw2 hk9 hS => ?_)
  have hP := zkeep hP hk9
  refine lv_aload_n hx hb dX0_support_5 rfl (lv_at hl 0 rfl) ?_
  refine lv_iload_n hx hb dX0_support_6 rfl (lv_at hl 2 rfl) ?_
  exact zxV (As := [.int q2]) (rest := []) 0 ⟨hx, hb, hml, hown, hts⟩ (c_X0_checkNode_bad l hfl D cy h a0 a1 a2 N ec cc f cs tr q2 hq) (cwV 1 hts gX0_support_X0_checkNode rfl rfl rfl (by decide +kernel) ⟨Nat.le_of_ble_eq_true rfl, Nat.le_of_ble_eq_true rfl⟩) hK hP hT rfl rfl rfl hl rfl (Nat.le_of_ble_eq_true rfl) dX0_support_7 ⟨Nat.le_of_ble_eq_true rfl, Nat.le_of_ble_eq_true rfl⟩ hS hto hlocks

set_option maxHeartbeats 4000000 in
set_option maxRecDepth 100000 in
theorem c_X0_truss_bad1 (l : Launch) (hfl : l.stackTraces = false) (D : va_G) (cy : ClassId) (h a0 a1 a2 N : Nat) (ec cc : Int32) (f cs tr : Nat → Int32) (q1 q2 : Int32) (hq : isNb q1 N = false) : vx_Met l yX0_truss wsX0_truss ({ frames := 7, cells := 1, slots := 6, locals := 104 } : Room) (va_Pc [.ref h, .int q1, .int q2] (fun U => zRd D (wB h a0 a1 a2 cy N ec cc f cs tr) [(cy, .int)] U ∧ zTh U)) zNi (zXc nIOB) 1 6 zNo := by
  refine vx_ofW (cc := cX0_truss) (maxL := 5) (ret := (some .int)) (by decide) rfl ?_
  intro p e s m args below meth c s₁ B hml hto hv
  obtain ⟨rfl, ⟨hP, hK⟩, hT⟩ := hv
  have hx := B.exec
  have hb := B.bytes
  have hr := B.returns
  have hts := atoms_spec (ws := wsX0_truss) B.pre
  have hown : s.vm.findClass RX0 = some m.cls := findClass_of_methodNamed B.named
  have hlocks := B.notSynchronized
  have hS : va_S (fun _ => False) s.heap s.heap [] := va_S.rf
  have hin : ∀ w ∈ wsX00, w ∈ wsX0_truss := by decide +kernel
  have hf16 := hts (.fieldLink RX0 16 "Corebarn" "trussNeighbours" "[I") (by decide +kernel)
  have hl := lv_entry ([.ref h, .int q1, .int q2]) (n := 5) (Nat.le_of_ble_eq_true rfl)
  rw [lg_entry_eq]
  generalize (lg_sl ([.ref h, .int q1, .int q2]) ++ List.replicate (5 - (lg_sl ([.ref h, .int q1, .int q2])).length) Slot.unset).toArray = ls at hl ⊢
  have hl : lv_has ls 5 [(0, .ref h), (1, .int q1), (2, .int q2)] := hl
  refine lv_aload_n hx hb dX0_truss_0 rfl (lv_at hl 0 rfl) ?_
  refine lv_iload_n hx hb dX0_truss_1 rfl (lv_at hl 1 rfl) ?_
  exact zxV (As := [.int q1]) (rest := []) 0 ⟨hx, hb, hml, hown, hts⟩ (c_X0_checkNode_bad l hfl D cy h a0 a1 a2 N ec cc f cs tr q1 hq) (cwV 1 hts gX0_truss_X0_checkNode rfl rfl rfl (by decide +kernel) ⟨Nat.le_of_ble_eq_true rfl, Nat.le_of_ble_eq_true rfl⟩) hK hP hT rfl rfl rfl hl rfl (Nat.le_of_ble_eq_true rfl) dX0_truss_2 ⟨Nat.le_of_ble_eq_true rfl, Nat.le_of_ble_eq_true rfl⟩ hS hto hlocks

set_option maxHeartbeats 4000000 in
set_option maxRecDepth 100000 in
theorem c_X0_truss_bad2 (l : Launch) (hfl : l.stackTraces = false) (D : va_G) (cy : ClassId) (h a0 a1 a2 N : Nat) (ec cc : Int32) (f cs tr : Nat → Int32) (u : Nat) (q2 : Int32) (hN : N ≤ 20) (hu : u < N) (hq : isNb q2 N = false) : vx_Met l yX0_truss wsX0_truss ({ frames := 7, cells := 1, slots := 6, locals := 104 } : Room) (va_Pc [.ref h, .int (nI u), .int q2] (fun U => zRd D (wB h a0 a1 a2 cy N ec cc f cs tr) [(cy, .int)] U ∧ zTh U)) zNi (zXc nIOB) 1 6 zNo := by
  refine vx_ofW (cc := cX0_truss) (maxL := 5) (ret := (some .int)) (by decide) rfl ?_
  intro p e s m args below meth c s₁ B hml hto hv
  obtain ⟨rfl, ⟨hP, hK⟩, hT⟩ := hv
  have hx := B.exec
  have hb := B.bytes
  have hr := B.returns
  have hts := atoms_spec (ws := wsX0_truss) B.pre
  have hown : s.vm.findClass RX0 = some m.cls := findClass_of_methodNamed B.named
  have hlocks := B.notSynchronized
  have hS : va_S (fun _ => False) s.heap s.heap [] := va_S.rf
  have hin : ∀ w ∈ wsX00, w ∈ wsX0_truss := by decide +kernel
  have hf16 := hts (.fieldLink RX0 16 "Corebarn" "trussNeighbours" "[I") (by decide +kernel)
  have hl := lv_entry ([.ref h, .int (nI u), .int q2]) (n := 5) (Nat.le_of_ble_eq_true rfl)
  rw [lg_entry_eq]
  generalize (lg_sl ([.ref h, .int (nI u), .int q2]) ++ List.replicate (5 - (lg_sl ([.ref h, .int (nI u), .int q2])).length) Slot.unset).toArray = ls at hl ⊢
  have hl : lv_has ls 5 [(0, .ref h), (1, .int (nI u)), (2, .int q2)] := hl
  refine lv_aload_n hx hb dX0_truss_0 rfl (lv_at hl 0 rfl) ?_
  refine lv_iload_n hx hb dX0_truss_1 rfl (lv_at hl 1 rfl) ?_
  refine zrVv (As := [.int (nI u)]) (rest := []) 0 ⟨hx, hb, hml, hown, hts⟩ (c_X0_checkNode_ok l D cy h a0 a1 a2 N ec cc f cs tr u hN hu) (cwV 1 hts gX0_truss_X0_checkNode rfl rfl rfl (by decide +kernel) ⟨Nat.le_of_ble_eq_true rfl, Nat.le_of_ble_eq_true rfl⟩) hK hP rfl rfl rfl hl rfl (Nat.le_of_ble_eq_true rfl) dX0_truss_2 ⟨Nat.le_of_ble_eq_true rfl, Nat.le_of_ble_eq_true rfl⟩ hS (fun H locs hw2 hk9 hS => ?_)
  have hP := zkeep hP hk9
  refine lv_aload_n hx hb dX0_truss_5 rfl (lv_at hl 0 rfl) ?_
  refine lv_iload_n hx hb dX0_truss_6 rfl (lv_at hl 2 rfl) ?_
  exact zxV (As := [.int q2]) (rest := []) 0 ⟨hx, hb, hml, hown, hts⟩ (c_X0_checkNode_bad l hfl D cy h a0 a1 a2 N ec cc f cs tr q2 hq) (cwV 1 hts gX0_truss_X0_checkNode rfl rfl rfl (by decide +kernel) ⟨Nat.le_of_ble_eq_true rfl, Nat.le_of_ble_eq_true rfl⟩) hK hP hT rfl rfl rfl hl rfl (Nat.le_of_ble_eq_true rfl) dX0_truss_7 ⟨Nat.le_of_ble_eq_true rfl, Nat.le_of_ble_eq_true rfl⟩ hS hto hlocks

set_option maxHeartbeats 4000000 in
set_option maxRecDepth 100000 in
theorem c_X0_support_none (l : Launch) (hfl : l.stackTraces = false) (D : va_G) (cy : ClassId) (h a0 a1 a2 N : Nat) (ec cc : Int32) (f cs tr : Nat → Int32) (u v : Nat) (hN : N ≤ 20) (hu : u < N) (hv : v < N) (he : bt (f u) v = false) : vx_Met l yX0_support wsX0_support ({ frames := 7, cells := 1, slots := 6, locals := 104 } : Room) (va_Pc [.ref h, .int (nI u), .int (nI v)] (fun U => zRd D (wB h a0 a1 a2 cy N ec cc f cs tr) [(cy, .int)] U ∧ zTh U)) zNi (zXc nNSE) 1 6 zNo := by
  refine vx_ofW (cc := cX0_support) (maxL := 3) (ret := (some .int)) (by decide) rfl ?_
  intro p e s m args below meth c s₁ B hml hto hv
  obtain ⟨rfl, ⟨hP, hK⟩, hT⟩ := hv
  have hx := B.exec
  have hb := B.bytes
  have hr := B.returns
  have hts := atoms_spec (ws := wsX0_support) B.pre
  have hown : s.vm.findClass RX0 = some m.cls := findClass_of_methodNamed B.named
  have hlocks := B.notSynchronized
  have hS : va_S (fun _ => False) s.heap s.heap [] := va_S.rf
  have hin : ∀ w ∈ wsX00, w ∈ wsX0_support := by decide +kernel
  have hf9 := hts (.fieldLink RX0 9 "Corebarn" "neighbours" "[I") (by decide +kernel)
  have hl := lv_entry ([.ref h, .int (nI u), .int (nI v)]) (n := 3) (Nat.le_of_ble_eq_true rfl)
  rw [lg_entry_eq]
  generalize (lg_sl ([.ref h, .int (nI u), .int (nI v)]) ++ List.replicate (3 - (lg_sl ([.ref h, .int (nI u), .int (nI v)])).length) Slot.unset).toArray = ls at hl ⊢
  have hl : lv_has ls 3 [(0, .ref h), (1, .int (nI u)), (2, .int (nI v))] := hl
  refine lv_aload_n hx hb dX0_support_0 rfl (lv_at hl 0 rfl) ?_
  refine lv_iload_n hx hb dX0_support_1 rfl (lv_at hl 1 rfl) ?_
  refine zrVv (As := [.int (nI u)]) (rest := []) 0 ⟨hx, hb, hml, hown, hts⟩ (c_X0_checkNode_ok l D cy h a0 a1 a2 N ec cc f cs tr u hN hu) (cwV 1 hts gX0_support_X0_checkNode rfl rfl rfl (by decide +kernel) ⟨Nat.le_of_ble_eq_true rfl, Nat.le_of_ble_eq_true rfl⟩) hK hP rfl rfl rfl hl rfl (Nat.le_of_ble_eq_true rfl) dX0_support_2 ⟨Nat.le_of_ble_eq_true rfl, Nat.le_of_ble_eq_true rfl⟩ hS (fun H locs hw2 hk9 hS => ?_)
  have hP := zkeep hP hk9
  refine lv_aload_n hx hb dX0_support_5 rfl (lv_at hl 0 rfl) ?_
  refine lv_iload_n hx hb dX0_support_6 rfl (lv_at hl 2 rfl) ?_
  refine zrVv (As := [.int (nI v)]) (rest := []) 0 ⟨hx, hb, hml, hown, hts⟩ (c_X0_checkNode_ok l D cy h a0 a1 a2 N ec cc f cs tr v hN hv) (cwV 1 hts gX0_support_X0_checkNode rfl rfl rfl (by decide +kernel) ⟨Nat.le_of_ble_eq_true rfl, Nat.le_of_ble_eq_true rfl⟩) hK hP rfl rfl rfl hl rfl (Nat.le_of_ble_eq_true rfl) dX0_support_7 ⟨Nat.le_of_ble_eq_true rfl, Nat.le_of_ble_eq_true rfl⟩ hS (fun H locs hw7 hk9 hS => ?_)
  have hP := zkeep hP hk9
  refine lv_aload_n hx hb dX0_support_10 rfl (lv_at hl 0 rfl) ?_
  refine lv_iload_n hx hb dX0_support_11 rfl (lv_at hl 1 rfl) ?_
  refine lv_iload_n hx hb dX0_support_12 rfl (lv_at hl 2 rfl) ?_
  exact zxV (As := [.int (nI u), .int (nI v)]) (rest := []) 0 ⟨hx, hb, hml, hown, hts⟩ (c_X0_checkEdge_none l hfl D cy h a0 a1 a2 N ec cc f cs tr u v hN hu hv he) (cwV 2 hts gX0_support_X0_checkEdge rfl rfl rfl (by decide +kernel) ⟨Nat.le_of_ble_eq_true rfl, Nat.le_of_ble_eq_true rfl⟩) hK hP hT rfl rfl rfl hl rfl (Nat.le_of_ble_eq_true rfl) dX0_support_13 ⟨Nat.le_of_ble_eq_true rfl, Nat.le_of_ble_eq_true rfl⟩ hS hto hlocks

set_option maxHeartbeats 4000000 in
set_option maxRecDepth 100000 in
theorem c_X0_truss_none (l : Launch) (hfl : l.stackTraces = false) (D : va_G) (cy : ClassId) (h a0 a1 a2 N : Nat) (ec cc : Int32) (f cs tr : Nat → Int32) (u v : Nat) (hN : N ≤ 20) (hu : u < N) (hv : v < N) (he : bt (f u) v = false) : vx_Met l yX0_truss wsX0_truss ({ frames := 7, cells := 1, slots := 6, locals := 104 } : Room) (va_Pc [.ref h, .int (nI u), .int (nI v)] (fun U => zRd D (wB h a0 a1 a2 cy N ec cc f cs tr) [(cy, .int)] U ∧ zTh U)) zNi (zXc nNSE) 1 6 zNo := by
  refine vx_ofW (cc := cX0_truss) (maxL := 5) (ret := (some .int)) (by decide) rfl ?_
  intro p e s m args below meth c s₁ B hml hto hv
  obtain ⟨rfl, ⟨hP, hK⟩, hT⟩ := hv
  have hx := B.exec
  have hb := B.bytes
  have hr := B.returns
  have hts := atoms_spec (ws := wsX0_truss) B.pre
  have hown : s.vm.findClass RX0 = some m.cls := findClass_of_methodNamed B.named
  have hlocks := B.notSynchronized
  have hS : va_S (fun _ => False) s.heap s.heap [] := va_S.rf
  have hin : ∀ w ∈ wsX00, w ∈ wsX0_truss := by decide +kernel
  have hf16 := hts (.fieldLink RX0 16 "Corebarn" "trussNeighbours" "[I") (by decide +kernel)
  have hl := lv_entry ([.ref h, .int (nI u), .int (nI v)]) (n := 5) (Nat.le_of_ble_eq_true rfl)
  rw [lg_entry_eq]
  generalize (lg_sl ([.ref h, .int (nI u), .int (nI v)]) ++ List.replicate (5 - (lg_sl ([.ref h, .int (nI u), .int (nI v)])).length) Slot.unset).toArray = ls at hl ⊢
  have hl : lv_has ls 5 [(0, .ref h), (1, .int (nI u)), (2, .int (nI v))] := hl
  refine lv_aload_n hx hb dX0_truss_0 rfl (lv_at hl 0 rfl) ?_
  refine lv_iload_n hx hb dX0_truss_1 rfl (lv_at hl 1 rfl) ?_
  refine zrVv (As := [.int (nI u)]) (rest := []) 0 ⟨hx, hb, hml, hown, hts⟩ (c_X0_checkNode_ok l D cy h a0 a1 a2 N ec cc f cs tr u hN hu) (cwV 1 hts gX0_truss_X0_checkNode rfl rfl rfl (by decide +kernel) ⟨Nat.le_of_ble_eq_true rfl, Nat.le_of_ble_eq_true rfl⟩) hK hP rfl rfl rfl hl rfl (Nat.le_of_ble_eq_true rfl) dX0_truss_2 ⟨Nat.le_of_ble_eq_true rfl, Nat.le_of_ble_eq_true rfl⟩ hS (fun H locs hw2 hk9 hS => ?_)
  have hP := zkeep hP hk9
  refine lv_aload_n hx hb dX0_truss_5 rfl (lv_at hl 0 rfl) ?_
  refine lv_iload_n hx hb dX0_truss_6 rfl (lv_at hl 2 rfl) ?_
  refine zrVv (As := [.int (nI v)]) (rest := []) 0 ⟨hx, hb, hml, hown, hts⟩ (c_X0_checkNode_ok l D cy h a0 a1 a2 N ec cc f cs tr v hN hv) (cwV 1 hts gX0_truss_X0_checkNode rfl rfl rfl (by decide +kernel) ⟨Nat.le_of_ble_eq_true rfl, Nat.le_of_ble_eq_true rfl⟩) hK hP rfl rfl rfl hl rfl (Nat.le_of_ble_eq_true rfl) dX0_truss_7 ⟨Nat.le_of_ble_eq_true rfl, Nat.le_of_ble_eq_true rfl⟩ hS (fun H locs hw7 hk9 hS => ?_)
  have hP := zkeep hP hk9
  refine lv_aload_n hx hb dX0_truss_10 rfl (lv_at hl 0 rfl) ?_
  refine lv_iload_n hx hb dX0_truss_11 rfl (lv_at hl 1 rfl) ?_
  refine lv_iload_n hx hb dX0_truss_12 rfl (lv_at hl 2 rfl) ?_
  exact zxV (As := [.int (nI u), .int (nI v)]) (rest := []) 0 ⟨hx, hb, hml, hown, hts⟩ (c_X0_checkEdge_none l hfl D cy h a0 a1 a2 N ec cc f cs tr u v hN hu hv he) (cwV 2 hts gX0_truss_X0_checkEdge rfl rfl rfl (by decide +kernel) ⟨Nat.le_of_ble_eq_true rfl, Nat.le_of_ble_eq_true rfl⟩) hK hP hT rfl rfl rfl hl rfl (Nat.le_of_ble_eq_true rfl) dX0_truss_13 ⟨Nat.le_of_ble_eq_true rfl, Nat.le_of_ble_eq_true rfl⟩ hS hto hlocks

set_option maxHeartbeats 4000000 in
set_option maxRecDepth 100000 in
theorem c_X0_join_bad1 (l : Launch) (hfl : l.stackTraces = false) (D : va_G) (cy : ClassId) (h a0 a1 a2 N : Nat) (ec cc : Int32) (f cs tr : Nat → Int32) (q1 q2 : Int32) (hq : isNb q1 N = false) : vx_Met l yX0_join wsX0_join ({ frames := 8, cells := 1, slots := 6, locals := 132 } : Room) (va_Pc [.ref h, .int q1, .int q2] (fun U => zRd D (wB h a0 a1 a2 cy N ec cc f cs tr) [(cy, .int)] U ∧ zTh U)) zNi (zXc nIOB) 1 6 zNo := by
  refine vx_ofW (cc := cX0_join) (maxL := 3) (ret := (some .int)) (by decide) rfl ?_
  intro p e s m args below meth c s₁ B hml hto hv
  obtain ⟨rfl, ⟨hP, hK⟩, hT⟩ := hv
  have hx := B.exec
  have hb := B.bytes
  have hr := B.returns
  have hts := atoms_spec (ws := wsX0_join) B.pre
  have hown : s.vm.findClass RX0 = some m.cls := findClass_of_methodNamed B.named
  have hlocks := B.notSynchronized
  have hS : va_S (fun _ => False) s.heap s.heap [] := va_S.rf
  have hin : ∀ w ∈ wsX00, w ∈ wsX0_join := by decide +kernel
  have hf9 := hts (.fieldLink RX0 9 "Corebarn" "neighbours" "[I") (by decide +kernel)
  have hf23 := hts (.fieldLink RX0 23 "Corebarn" "edgeCount" "I") (by decide +kernel)
  have hl := lv_entry ([.ref h, .int q1, .int q2]) (n := 3) (Nat.le_of_ble_eq_true rfl)
  rw [lg_entry_eq]
  generalize (lg_sl ([.ref h, .int q1, .int q2]) ++ List.replicate (3 - (lg_sl ([.ref h, .int q1, .int q2])).length) Slot.unset).toArray = ls at hl ⊢
  have hl : lv_has ls 3 [(0, .ref h), (1, .int q1), (2, .int q2)] := hl
  refine lv_aload_n hx hb dX0_join_0 rfl (lv_at hl 0 rfl) ?_
  refine lv_iload_n hx hb dX0_join_1 rfl (lv_at hl 1 rfl) ?_
  refine lv_iload_n hx hb dX0_join_2 rfl (lv_at hl 2 rfl) ?_
  exact zxV (As := [.int q1, .int q2]) (rest := []) 0 ⟨hx, hb, hml, hown, hts⟩ (c_X0_checkPair_bad1 l hfl D cy h a0 a1 a2 N ec cc f cs tr q1 q2 hq) (cwV 2 hts gX0_join_X0_checkPair rfl rfl rfl (by decide +kernel) ⟨Nat.le_of_ble_eq_true rfl, Nat.le_of_ble_eq_true rfl⟩) hK hP hT rfl rfl rfl hl rfl (Nat.le_of_ble_eq_true rfl) dX0_join_3 ⟨Nat.le_of_ble_eq_true rfl, Nat.le_of_ble_eq_true rfl⟩ hS hto hlocks

set_option maxHeartbeats 4000000 in
set_option maxRecDepth 100000 in
theorem c_X0_join_bad2 (l : Launch) (hfl : l.stackTraces = false) (D : va_G) (cy : ClassId) (h a0 a1 a2 N : Nat) (ec cc : Int32) (f cs tr : Nat → Int32) (u : Nat) (q2 : Int32) (hN : N ≤ 20) (hu : u < N) (hq : isNb q2 N = false) : vx_Met l yX0_join wsX0_join ({ frames := 8, cells := 1, slots := 6, locals := 132 } : Room) (va_Pc [.ref h, .int (nI u), .int q2] (fun U => zRd D (wB h a0 a1 a2 cy N ec cc f cs tr) [(cy, .int)] U ∧ zTh U)) zNi (zXc nIOB) 1 6 zNo := by
  refine vx_ofW (cc := cX0_join) (maxL := 3) (ret := (some .int)) (by decide) rfl ?_
  intro p e s m args below meth c s₁ B hml hto hv
  obtain ⟨rfl, ⟨hP, hK⟩, hT⟩ := hv
  have hx := B.exec
  have hb := B.bytes
  have hr := B.returns
  have hts := atoms_spec (ws := wsX0_join) B.pre
  have hown : s.vm.findClass RX0 = some m.cls := findClass_of_methodNamed B.named
  have hlocks := B.notSynchronized
  have hS : va_S (fun _ => False) s.heap s.heap [] := va_S.rf
  have hin : ∀ w ∈ wsX00, w ∈ wsX0_join := by decide +kernel
  have hf9 := hts (.fieldLink RX0 9 "Corebarn" "neighbours" "[I") (by decide +kernel)
  have hf23 := hts (.fieldLink RX0 23 "Corebarn" "edgeCount" "I") (by decide +kernel)
  have hl := lv_entry ([.ref h, .int (nI u), .int q2]) (n := 3) (Nat.le_of_ble_eq_true rfl)
  rw [lg_entry_eq]
  generalize (lg_sl ([.ref h, .int (nI u), .int q2]) ++ List.replicate (3 - (lg_sl ([.ref h, .int (nI u), .int q2])).length) Slot.unset).toArray = ls at hl ⊢
  have hl : lv_has ls 3 [(0, .ref h), (1, .int (nI u)), (2, .int q2)] := hl
  refine lv_aload_n hx hb dX0_join_0 rfl (lv_at hl 0 rfl) ?_
  refine lv_iload_n hx hb dX0_join_1 rfl (lv_at hl 1 rfl) ?_
  refine lv_iload_n hx hb dX0_join_2 rfl (lv_at hl 2 rfl) ?_
  exact zxV (As := [.int (nI u), .int q2]) (rest := []) 0 ⟨hx, hb, hml, hown, hts⟩ (c_X0_checkPair_bad2 l hfl D cy h a0 a1 a2 N ec cc f cs tr u q2 hN hu hq) (cwV 2 hts gX0_join_X0_checkPair rfl rfl rfl (by decide +kernel) ⟨Nat.le_of_ble_eq_true rfl, Nat.le_of_ble_eq_true rfl⟩) hK hP hT rfl rfl rfl hl rfl (Nat.le_of_ble_eq_true rfl) dX0_join_3 ⟨Nat.le_of_ble_eq_true rfl, Nat.le_of_ble_eq_true rfl⟩ hS hto hlocks

set_option maxHeartbeats 4000000 in
set_option maxRecDepth 100000 in
theorem c_X0_join_same (l : Launch) (hfl : l.stackTraces = false) (D : va_G) (cy : ClassId) (h a0 a1 a2 N : Nat) (ec cc : Int32) (f cs tr : Nat → Int32) (u : Nat) (hN : N ≤ 20) (hu : u < N) : vx_Met l yX0_join wsX0_join ({ frames := 8, cells := 1, slots := 6, locals := 132 } : Room) (va_Pc [.ref h, .int (nI u), .int (nI u)] (fun U => zRd D (wB h a0 a1 a2 cy N ec cc f cs tr) [(cy, .int)] U ∧ zTh U)) zNi (zXc nIAE) 1 6 zNo := by
  refine vx_ofW (cc := cX0_join) (maxL := 3) (ret := (some .int)) (by decide) rfl ?_
  intro p e s m args below meth c s₁ B hml hto hv
  obtain ⟨rfl, ⟨hP, hK⟩, hT⟩ := hv
  have hx := B.exec
  have hb := B.bytes
  have hr := B.returns
  have hts := atoms_spec (ws := wsX0_join) B.pre
  have hown : s.vm.findClass RX0 = some m.cls := findClass_of_methodNamed B.named
  have hlocks := B.notSynchronized
  have hS : va_S (fun _ => False) s.heap s.heap [] := va_S.rf
  have hin : ∀ w ∈ wsX00, w ∈ wsX0_join := by decide +kernel
  have hf9 := hts (.fieldLink RX0 9 "Corebarn" "neighbours" "[I") (by decide +kernel)
  have hf23 := hts (.fieldLink RX0 23 "Corebarn" "edgeCount" "I") (by decide +kernel)
  have hl := lv_entry ([.ref h, .int (nI u), .int (nI u)]) (n := 3) (Nat.le_of_ble_eq_true rfl)
  rw [lg_entry_eq]
  generalize (lg_sl ([.ref h, .int (nI u), .int (nI u)]) ++ List.replicate (3 - (lg_sl ([.ref h, .int (nI u), .int (nI u)])).length) Slot.unset).toArray = ls at hl ⊢
  have hl : lv_has ls 3 [(0, .ref h), (1, .int (nI u)), (2, .int (nI u))] := hl
  refine lv_aload_n hx hb dX0_join_0 rfl (lv_at hl 0 rfl) ?_
  refine lv_iload_n hx hb dX0_join_1 rfl (lv_at hl 1 rfl) ?_
  refine lv_iload_n hx hb dX0_join_2 rfl (lv_at hl 2 rfl) ?_
  exact zxV (As := [.int (nI u), .int (nI u)]) (rest := []) 0 ⟨hx, hb, hml, hown, hts⟩ (c_X0_checkPair_same l hfl D cy h a0 a1 a2 N ec cc f cs tr u hN hu) (cwV 2 hts gX0_join_X0_checkPair rfl rfl rfl (by decide +kernel) ⟨Nat.le_of_ble_eq_true rfl, Nat.le_of_ble_eq_true rfl⟩) hK hP hT rfl rfl rfl hl rfl (Nat.le_of_ble_eq_true rfl) dX0_join_3 ⟨Nat.le_of_ble_eq_true rfl, Nat.le_of_ble_eq_true rfl⟩ hS hto hlocks

set_option maxHeartbeats 4000000 in
set_option maxRecDepth 100000 in
theorem c_X0_part_bad1 (l : Launch) (hfl : l.stackTraces = false) (D : va_G) (cy : ClassId) (h a0 a1 a2 N : Nat) (ec cc : Int32) (f cs tr : Nat → Int32) (q1 q2 : Int32) (hq : isNb q1 N = false) : vx_Met l yX0_part wsX0_part ({ frames := 8, cells := 1, slots := 6, locals := 132 } : Room) (va_Pc [.ref h, .int q1, .int q2] (fun U => zRd D (wB h a0 a1 a2 cy N ec cc f cs tr) [(cy, .int)] U ∧ zTh U)) zNi (zXc nIOB) 1 6 zNo := by
  refine vx_ofW (cc := cX0_part) (maxL := 3) (ret := (some .int)) (by decide) rfl ?_
  intro p e s m args below meth c s₁ B hml hto hv
  obtain ⟨rfl, ⟨hP, hK⟩, hT⟩ := hv
  have hx := B.exec
  have hb := B.bytes
  have hr := B.returns
  have hts := atoms_spec (ws := wsX0_part) B.pre
  have hown : s.vm.findClass RX0 = some m.cls := findClass_of_methodNamed B.named
  have hlocks := B.notSynchronized
  have hS : va_S (fun _ => False) s.heap s.heap [] := va_S.rf
  have hl := lv_entry ([.ref h, .int q1, .int q2]) (n := 3) (Nat.le_of_ble_eq_true rfl)
  rw [lg_entry_eq]
  generalize (lg_sl ([.ref h, .int q1, .int q2]) ++ List.replicate (3 - (lg_sl ([.ref h, .int q1, .int q2])).length) Slot.unset).toArray = ls at hl ⊢
  have hl : lv_has ls 3 [(0, .ref h), (1, .int q1), (2, .int q2)] := hl
  refine lv_aload_n hx hb dX0_part_0 rfl (lv_at hl 0 rfl) ?_
  refine lv_iload_n hx hb dX0_part_1 rfl (lv_at hl 1 rfl) ?_
  refine lv_iload_n hx hb dX0_part_2 rfl (lv_at hl 2 rfl) ?_
  exact zxV (As := [.int q1, .int q2]) (rest := []) 0 ⟨hx, hb, hml, hown, hts⟩ (c_X0_checkPair_bad1 l hfl D cy h a0 a1 a2 N ec cc f cs tr q1 q2 hq) (cwV 2 hts gX0_part_X0_checkPair rfl rfl rfl (by decide +kernel) ⟨Nat.le_of_ble_eq_true rfl, Nat.le_of_ble_eq_true rfl⟩) hK hP hT rfl rfl rfl hl rfl (Nat.le_of_ble_eq_true rfl) dX0_part_3 ⟨Nat.le_of_ble_eq_true rfl, Nat.le_of_ble_eq_true rfl⟩ hS hto hlocks

set_option maxHeartbeats 4000000 in
set_option maxRecDepth 100000 in
theorem c_X0_part_bad2 (l : Launch) (hfl : l.stackTraces = false) (D : va_G) (cy : ClassId) (h a0 a1 a2 N : Nat) (ec cc : Int32) (f cs tr : Nat → Int32) (u : Nat) (q2 : Int32) (hN : N ≤ 20) (hu : u < N) (hq : isNb q2 N = false) : vx_Met l yX0_part wsX0_part ({ frames := 8, cells := 1, slots := 6, locals := 132 } : Room) (va_Pc [.ref h, .int (nI u), .int q2] (fun U => zRd D (wB h a0 a1 a2 cy N ec cc f cs tr) [(cy, .int)] U ∧ zTh U)) zNi (zXc nIOB) 1 6 zNo := by
  refine vx_ofW (cc := cX0_part) (maxL := 3) (ret := (some .int)) (by decide) rfl ?_
  intro p e s m args below meth c s₁ B hml hto hv
  obtain ⟨rfl, ⟨hP, hK⟩, hT⟩ := hv
  have hx := B.exec
  have hb := B.bytes
  have hr := B.returns
  have hts := atoms_spec (ws := wsX0_part) B.pre
  have hown : s.vm.findClass RX0 = some m.cls := findClass_of_methodNamed B.named
  have hlocks := B.notSynchronized
  have hS : va_S (fun _ => False) s.heap s.heap [] := va_S.rf
  have hl := lv_entry ([.ref h, .int (nI u), .int q2]) (n := 3) (Nat.le_of_ble_eq_true rfl)
  rw [lg_entry_eq]
  generalize (lg_sl ([.ref h, .int (nI u), .int q2]) ++ List.replicate (3 - (lg_sl ([.ref h, .int (nI u), .int q2])).length) Slot.unset).toArray = ls at hl ⊢
  have hl : lv_has ls 3 [(0, .ref h), (1, .int (nI u)), (2, .int q2)] := hl
  refine lv_aload_n hx hb dX0_part_0 rfl (lv_at hl 0 rfl) ?_
  refine lv_iload_n hx hb dX0_part_1 rfl (lv_at hl 1 rfl) ?_
  refine lv_iload_n hx hb dX0_part_2 rfl (lv_at hl 2 rfl) ?_
  exact zxV (As := [.int (nI u), .int q2]) (rest := []) 0 ⟨hx, hb, hml, hown, hts⟩ (c_X0_checkPair_bad2 l hfl D cy h a0 a1 a2 N ec cc f cs tr u q2 hN hu hq) (cwV 2 hts gX0_part_X0_checkPair rfl rfl rfl (by decide +kernel) ⟨Nat.le_of_ble_eq_true rfl, Nat.le_of_ble_eq_true rfl⟩) hK hP hT rfl rfl rfl hl rfl (Nat.le_of_ble_eq_true rfl) dX0_part_3 ⟨Nat.le_of_ble_eq_true rfl, Nat.le_of_ble_eq_true rfl⟩ hS hto hlocks

set_option maxHeartbeats 4000000 in
set_option maxRecDepth 100000 in
theorem c_X0_part_same (l : Launch) (hfl : l.stackTraces = false) (D : va_G) (cy : ClassId) (h a0 a1 a2 N : Nat) (ec cc : Int32) (f cs tr : Nat → Int32) (u : Nat) (hN : N ≤ 20) (hu : u < N) : vx_Met l yX0_part wsX0_part ({ frames := 8, cells := 1, slots := 6, locals := 132 } : Room) (va_Pc [.ref h, .int (nI u), .int (nI u)] (fun U => zRd D (wB h a0 a1 a2 cy N ec cc f cs tr) [(cy, .int)] U ∧ zTh U)) zNi (zXc nIAE) 1 6 zNo := by
  refine vx_ofW (cc := cX0_part) (maxL := 3) (ret := (some .int)) (by decide) rfl ?_
  intro p e s m args below meth c s₁ B hml hto hv
  obtain ⟨rfl, ⟨hP, hK⟩, hT⟩ := hv
  have hx := B.exec
  have hb := B.bytes
  have hr := B.returns
  have hts := atoms_spec (ws := wsX0_part) B.pre
  have hown : s.vm.findClass RX0 = some m.cls := findClass_of_methodNamed B.named
  have hlocks := B.notSynchronized
  have hS : va_S (fun _ => False) s.heap s.heap [] := va_S.rf
  have hl := lv_entry ([.ref h, .int (nI u), .int (nI u)]) (n := 3) (Nat.le_of_ble_eq_true rfl)
  rw [lg_entry_eq]
  generalize (lg_sl ([.ref h, .int (nI u), .int (nI u)]) ++ List.replicate (3 - (lg_sl ([.ref h, .int (nI u), .int (nI u)])).length) Slot.unset).toArray = ls at hl ⊢
  have hl : lv_has ls 3 [(0, .ref h), (1, .int (nI u)), (2, .int (nI u))] := hl
  refine lv_aload_n hx hb dX0_part_0 rfl (lv_at hl 0 rfl) ?_
  refine lv_iload_n hx hb dX0_part_1 rfl (lv_at hl 1 rfl) ?_
  refine lv_iload_n hx hb dX0_part_2 rfl (lv_at hl 2 rfl) ?_
  exact zxV (As := [.int (nI u), .int (nI u)]) (rest := []) 0 ⟨hx, hb, hml, hown, hts⟩ (c_X0_checkPair_same l hfl D cy h a0 a1 a2 N ec cc f cs tr u hN hu) (cwV 2 hts gX0_part_X0_checkPair rfl rfl rfl (by decide +kernel) ⟨Nat.le_of_ble_eq_true rfl, Nat.le_of_ble_eq_true rfl⟩) hK hP hT rfl rfl rfl hl rfl (Nat.le_of_ble_eq_true rfl) dX0_part_3 ⟨Nat.le_of_ble_eq_true rfl, Nat.le_of_ble_eq_true rfl⟩ hS hto hlocks

set_option maxHeartbeats 4000000 in
set_option maxRecDepth 100000 in
theorem c_X0_join_not (l : Launch) (hfl : l.stackTraces = false) (D : va_G) (cy : ClassId) (h a0 a1 a2 N : Nat) (ec cc : Int32) (f cs tr : Nat → Int32) (u v : Nat) (hN : N ≤ 20) (hu : u < N) (hv : v < N) (huv : u ≠ v) (he : bt (f u) v = true) : vx_Met l yX0_join wsX0_join ({ frames := 8, cells := 1, slots := 6, locals := 132 } : Room) (va_Pc [.ref h, .int (nI u), .int (nI v)] (fun U => zRd D (wB h a0 a1 a2 cy N ec cc f cs tr) [(cy, .int)] U ∧ zTh U)) zNi (zXc nISE) 1 6 zNo := by
  refine vx_ofW (cc := cX0_join) (maxL := 3) (ret := (some .int)) (by decide) rfl ?_
  intro p e s m args below meth c s₁ B hml hto hv
  obtain ⟨rfl, ⟨hP, hK⟩, hT⟩ := hv
  have hx := B.exec
  have hb := B.bytes
  have hr := B.returns
  have hts := atoms_spec (ws := wsX0_join) B.pre
  have hown : s.vm.findClass RX0 = some m.cls := findClass_of_methodNamed B.named
  have hlocks := B.notSynchronized
  have hS : va_S (fun _ => False) s.heap s.heap [] := va_S.rf
  have hin : ∀ w ∈ wsX00, w ∈ wsX0_join := by decide +kernel
  have hf9 := hts (.fieldLink RX0 9 "Corebarn" "neighbours" "[I") (by decide +kernel)
  have hf23 := hts (.fieldLink RX0 23 "Corebarn" "edgeCount" "I") (by decide +kernel)
  have hl := lv_entry ([.ref h, .int (nI u), .int (nI v)]) (n := 3) (Nat.le_of_ble_eq_true rfl)
  rw [lg_entry_eq]
  generalize (lg_sl ([.ref h, .int (nI u), .int (nI v)]) ++ List.replicate (3 - (lg_sl ([.ref h, .int (nI u), .int (nI v)])).length) Slot.unset).toArray = ls at hl ⊢
  have hl : lv_has ls 3 [(0, .ref h), (1, .int (nI u)), (2, .int (nI v))] := hl
  refine lv_aload_n hx hb dX0_join_0 rfl (lv_at hl 0 rfl) ?_
  refine lv_iload_n hx hb dX0_join_1 rfl (lv_at hl 1 rfl) ?_
  refine lv_iload_n hx hb dX0_join_2 rfl (lv_at hl 2 rfl) ?_
  refine zrVv (As := [.int (nI u), .int (nI v)]) (rest := []) 0 ⟨hx, hb, hml, hown, hts⟩ (c_X0_checkPair_ok l D cy h a0 a1 a2 N ec cc f cs tr u v hN hu hv huv) (cwV 2 hts gX0_join_X0_checkPair rfl rfl rfl (by decide +kernel) ⟨Nat.le_of_ble_eq_true rfl, Nat.le_of_ble_eq_true rfl⟩) hK hP rfl rfl rfl hl rfl (Nat.le_of_ble_eq_true rfl) dX0_join_3 ⟨Nat.le_of_ble_eq_true rfl, Nat.le_of_ble_eq_true rfl⟩ hS (fun H locs hw3 hk9 hS => ?_)
  have hP := zkeep hP hk9
  refine lv_aload_n hx hb dX0_join_6 rfl (lv_at hl 0 rfl) ?_
  refine va_get (D := D) (ci := 0) (v := .ref a0) (C := RX0) (T := TX0) (N := 6) hx hb hts hin hown hK hP 0 rfl rfl 0 (by decide) hf9 (fun _ h9 => h9) rfl dX0_join_7 ?_
  refine lv_iload_n hx hb dX0_join_10 rfl (lv_at hl 1 rfl) ?_
  refine z_iald hx hb hK hP 1 0 rfl rfl (by omega) (by decide) dX0_join_11 ?_
  refine lv_iload_n hx hb dX0_join_12 rfl (lv_at hl 2 rfl) ?_
  refine zrS0 (As := [.int (f u), .int (nI v)]) (rest := []) ⟨hx, hb, hml, hown, hts⟩ (c_X0_contains l (f u) v (by omega)) (va_cwS 2 hts gX0_join_X0_contains rfl rfl rfl (by decide +kernel) ⟨Nat.le_of_ble_eq_true rfl, Nat.le_of_ble_eq_true rfl⟩) rfl hl rfl (Nat.le_of_ble_eq_true rfl) dX0_join_13 ⟨Nat.le_of_ble_eq_true rfl, Nat.le_of_ble_eq_true rfl⟩ hS (fun r13 H locs hw13 hk9 hS => ?_)
  obtain rfl : r13 = (zb (bt (f u) v)) := hw13
  have hP := zkeep hP hk9
  rw [he]
  refine z_ifb_true (tgt := 29) hx hb dX0_join_16 (by decide) ?_
  exact zthrow (cc := cX0_join) (rest := []) (text := "there is such an edge") (ik := 29) (is := 44) (ic := 33) hx hb hfl hown (by simp) (by decide +kernel) (by decide +kernel) (hts (.classLink RX0 29 nISE) (by decide +kernel)) (hts (.initialized nISE) (by decide +kernel)) (fun w h => hts w (List.mem_cons_of_mem _ (List.mem_append_left _ (List.mem_append_left _ (List.mem_append_right _ h))))) zh2_33 zg_33 hT hS (by rw [hml]; exact hl.1) dX0_join_19 dX0_join_22 dX0_join_23 dX0_join_25 dX0_join_28 hto (Nat.le_of_ble_eq_true rfl) (Nat.le_of_ble_eq_true rfl) (Nat.le_of_ble_eq_true rfl) (Nat.le_of_ble_eq_true rfl) hlocks

set_option maxHeartbeats 4000000 in
set_option maxRecDepth 100000 in
theorem c_X0_part_not (l : Launch) (hfl : l.stackTraces = false) (D : va_G) (cy : ClassId) (h a0 a1 a2 N : Nat) (ec cc : Int32) (f cs tr : Nat → Int32) (u v : Nat) (hN : N ≤ 20) (hu : u < N) (hv : v < N) (huv : u ≠ v) (he : bt (f u) v = false) : vx_Met l yX0_part wsX0_part ({ frames := 8, cells := 1, slots := 6, locals := 132 } : Room) (va_Pc [.ref h, .int (nI u), .int (nI v)] (fun U => zRd D (wB h a0 a1 a2 cy N ec cc f cs tr) [(cy, .int)] U ∧ zTh U)) zNi (zXc nNSE) 1 6 zNo := by
  refine vx_ofW (cc := cX0_part) (maxL := 3) (ret := (some .int)) (by decide) rfl ?_
  intro p e s m args below meth c s₁ B hml hto hv
  obtain ⟨rfl, ⟨hP, hK⟩, hT⟩ := hv
  have hx := B.exec
  have hb := B.bytes
  have hr := B.returns
  have hts := atoms_spec (ws := wsX0_part) B.pre
  have hown : s.vm.findClass RX0 = some m.cls := findClass_of_methodNamed B.named
  have hlocks := B.notSynchronized
  have hS : va_S (fun _ => False) s.heap s.heap [] := va_S.rf
  have hl := lv_entry ([.ref h, .int (nI u), .int (nI v)]) (n := 3) (Nat.le_of_ble_eq_true rfl)
  rw [lg_entry_eq]
  generalize (lg_sl ([.ref h, .int (nI u), .int (nI v)]) ++ List.replicate (3 - (lg_sl ([.ref h, .int (nI u), .int (nI v)])).length) Slot.unset).toArray = ls at hl ⊢
  have hl : lv_has ls 3 [(0, .ref h), (1, .int (nI u)), (2, .int (nI v))] := hl
  refine lv_aload_n hx hb dX0_part_0 rfl (lv_at hl 0 rfl) ?_
  refine lv_iload_n hx hb dX0_part_1 rfl (lv_at hl 1 rfl) ?_
  refine lv_iload_n hx hb dX0_part_2 rfl (lv_at hl 2 rfl) ?_
  refine zrVv (As := [.int (nI u), .int (nI v)]) (rest := []) 0 ⟨hx, hb, hml, hown, hts⟩ (c_X0_checkPair_ok l D cy h a0 a1 a2 N ec cc f cs tr u v hN hu hv huv) (cwV 2 hts gX0_part_X0_checkPair rfl rfl rfl (by decide +kernel) ⟨Nat.le_of_ble_eq_true rfl, Nat.le_of_ble_eq_true rfl⟩) hK hP rfl rfl rfl hl rfl (Nat.le_of_ble_eq_true rfl) dX0_part_3 ⟨Nat.le_of_ble_eq_true rfl, Nat.le_of_ble_eq_true rfl⟩ hS (fun H locs hw3 hk9 hS => ?_)
  have hP := zkeep hP hk9
  refine lv_aload_n hx hb dX0_part_6 rfl (lv_at hl 0 rfl) ?_
  refine lv_iload_n hx hb dX0_part_7 rfl (lv_at hl 1 rfl) ?_
  refine lv_iload_n hx hb dX0_part_8 rfl (lv_at hl 2 rfl) ?_
  exact zxV (As := [.int (nI u), .int (nI v)]) (rest := []) 0 ⟨hx, hb, hml, hown, hts⟩ (c_X0_checkEdge_none l hfl D cy h a0 a1 a2 N ec cc f cs tr u v hN hu hv he) (cwV 2 hts gX0_part_X0_checkEdge rfl rfl rfl (by decide +kernel) ⟨Nat.le_of_ble_eq_true rfl, Nat.le_of_ble_eq_true rfl⟩) hK hP hT rfl rfl rfl hl rfl (Nat.le_of_ble_eq_true rfl) dX0_part_9 ⟨Nat.le_of_ble_eq_true rfl, Nat.le_of_ble_eq_true rfl⟩ hS hto hlocks

set_option maxHeartbeats 4000000 in
set_option maxRecDepth 100000 in
theorem c_X0_coreSize_neg (l : Launch) (hfl : l.stackTraces = false) (D : va_G) (cy : ClassId) (h a0 a1 a2 N : Nat) (ec cc : Int32) (f cs tr : Nat → Int32) (k : Int32) (hk : k < 0) : vx_Met l yX0_coreSize wsX0_coreSize ({ frames := 7, cells := 1, slots := 6, locals := 102 } : Room) (va_Pc [.ref h, .int k] (fun U => zRd D (wB h a0 a1 a2 cy N ec cc f cs tr) [(cy, .int)] U ∧ zTh U)) zNi (zXc nIAE) 1 6 zNo := by
  refine vx_ofW (cc := cX0_coreSize) (maxL := 2) (ret := (some .int)) (by decide) rfl ?_
  intro p e s m args below meth c s₁ B hml hto hv
  obtain ⟨rfl, ⟨hP, hK⟩, hT⟩ := hv
  have hx := B.exec
  have hb := B.bytes
  have hr := B.returns
  have hts := atoms_spec (ws := wsX0_coreSize) B.pre
  have hown : s.vm.findClass RX0 = some m.cls := findClass_of_methodNamed B.named
  have hlocks := B.notSynchronized
  have hS : va_S (fun _ => False) s.heap s.heap [] := va_S.rf
  have hl := lv_entry ([.ref h, .int k]) (n := 2) (Nat.le_of_ble_eq_true rfl)
  rw [lg_entry_eq]
  generalize (lg_sl ([.ref h, .int k]) ++ List.replicate (2 - (lg_sl ([.ref h, .int k])).length) Slot.unset).toArray = ls at hl ⊢
  have hl : lv_has ls 2 [(0, .ref h), (1, .int k)] := hl
  refine lv_iload_n hx hb dX0_coreSize_0 rfl (lv_at hl 1 rfl) ?_
  exact zxS (As := [.int k]) (rest := []) ⟨hx, hb, hml, hown, hts⟩ (c_X0_checkLevel_neg l hfl k hk) (va_cwS 1 hts gX0_coreSize_X0_checkLevel rfl rfl rfl (by decide +kernel) ⟨Nat.le_of_ble_eq_true rfl, Nat.le_of_ble_eq_true rfl⟩) hT rfl hl rfl (Nat.le_of_ble_eq_true rfl) dX0_coreSize_1 ⟨Nat.le_of_ble_eq_true rfl, Nat.le_of_ble_eq_true rfl⟩ hS hto hlocks

set_option maxHeartbeats 4000000 in
set_option maxRecDepth 100000 in
theorem c_X0_communities_neg (l : Launch) (hfl : l.stackTraces = false) (D : va_G) (cy : ClassId) (h a0 a1 a2 N : Nat) (ec cc : Int32) (f cs tr : Nat → Int32) (k : Int32) (hk : k < 0) : vx_Met l yX0_communities wsX0_communities ({ frames := 7, cells := 1, slots := 6, locals := 102 } : Room) (va_Pc [.ref h, .int k] (fun U => zRd D (wB h a0 a1 a2 cy N ec cc f cs tr) [(cy, .int)] U ∧ zTh U)) zNi (zXc nIAE) 1 6 zNo := by
  refine vx_ofW (cc := cX0_communities) (maxL := 2) (ret := (some .int)) (by decide) rfl ?_
  intro p e s m args below meth c s₁ B hml hto hv
  obtain ⟨rfl, ⟨hP, hK⟩, hT⟩ := hv
  have hx := B.exec
  have hb := B.bytes
  have hr := B.returns
  have hts := atoms_spec (ws := wsX0_communities) B.pre
  have hown : s.vm.findClass RX0 = some m.cls := findClass_of_methodNamed B.named
  have hlocks := B.notSynchronized
  have hS : va_S (fun _ => False) s.heap s.heap [] := va_S.rf
  have hl := lv_entry ([.ref h, .int k]) (n := 2) (Nat.le_of_ble_eq_true rfl)
  rw [lg_entry_eq]
  generalize (lg_sl ([.ref h, .int k]) ++ List.replicate (2 - (lg_sl ([.ref h, .int k])).length) Slot.unset).toArray = ls at hl ⊢
  have hl : lv_has ls 2 [(0, .ref h), (1, .int k)] := hl
  refine lv_iload_n hx hb dX0_communities_0 rfl (lv_at hl 1 rfl) ?_
  exact zxS (As := [.int k]) (rest := []) ⟨hx, hb, hml, hown, hts⟩ (c_X0_checkLevel_neg l hfl k hk) (va_cwS 1 hts gX0_communities_X0_checkLevel rfl rfl rfl (by decide +kernel) ⟨Nat.le_of_ble_eq_true rfl, Nat.le_of_ble_eq_true rfl⟩) hT rfl hl rfl (Nat.le_of_ble_eq_true rfl) dX0_communities_1 ⟨Nat.le_of_ble_eq_true rfl, Nat.le_of_ble_eq_true rfl⟩ hS hto hlocks

set_option maxHeartbeats 4000000 in
set_option maxRecDepth 100000 in
theorem c_X0_community_neg (l : Launch) (hfl : l.stackTraces = false) (D : va_G) (cy : ClassId) (h a0 a1 a2 N : Nat) (ec cc : Int32) (f cs tr : Nat → Int32) (u : Nat) (k : Int32) (hN : N ≤ 20) (hu : u < N) (hk : k < 0) : vx_Met l yX0_community wsX0_community ({ frames := 7, cells := 1, slots := 6, locals := 103 } : Room) (va_Pc [.ref h, .int (nI u), .int k] (fun U => zRd D (wB h a0 a1 a2 cy N ec cc f cs tr) [(cy, .int)] U ∧ zTh U)) zNi (zXc nIAE) 1 6 zNo := by
  refine vx_ofW (cc := cX0_community) (maxL := 3) (ret := (some .int)) (by decide) rfl ?_
  intro p e s m args below meth c s₁ B hml hto hv
  obtain ⟨rfl, ⟨hP, hK⟩, hT⟩ := hv
  have hx := B.exec
  have hb := B.bytes
  have hr := B.returns
  have hts := atoms_spec (ws := wsX0_community) B.pre
  have hown : s.vm.findClass RX0 = some m.cls := findClass_of_methodNamed B.named
  have hlocks := B.notSynchronized
  have hS : va_S (fun _ => False) s.heap s.heap [] := va_S.rf
  have hl := lv_entry ([.ref h, .int (nI u), .int k]) (n := 3) (Nat.le_of_ble_eq_true rfl)
  rw [lg_entry_eq]
  generalize (lg_sl ([.ref h, .int (nI u), .int k]) ++ List.replicate (3 - (lg_sl ([.ref h, .int (nI u), .int k])).length) Slot.unset).toArray = ls at hl ⊢
  have hl : lv_has ls 3 [(0, .ref h), (1, .int (nI u)), (2, .int k)] := hl
  refine lv_aload_n hx hb dX0_community_0 rfl (lv_at hl 0 rfl) ?_
  refine lv_iload_n hx hb dX0_community_1 rfl (lv_at hl 1 rfl) ?_
  refine zrVv (As := [.int (nI u)]) (rest := []) 0 ⟨hx, hb, hml, hown, hts⟩ (c_X0_checkNode_ok l D cy h a0 a1 a2 N ec cc f cs tr u hN hu) (cwV 1 hts gX0_community_X0_checkNode rfl rfl rfl (by decide +kernel) ⟨Nat.le_of_ble_eq_true rfl, Nat.le_of_ble_eq_true rfl⟩) hK hP rfl rfl rfl hl rfl (Nat.le_of_ble_eq_true rfl) dX0_community_2 ⟨Nat.le_of_ble_eq_true rfl, Nat.le_of_ble_eq_true rfl⟩ hS (fun H locs hw2 hk9 hS => ?_)
  have hP := zkeep hP hk9
  refine lv_iload_n hx hb dX0_community_5 rfl (lv_at hl 2 rfl) ?_
  exact zxS (As := [.int k]) (rest := []) ⟨hx, hb, hml, hown, hts⟩ (c_X0_checkLevel_neg l hfl k hk) (va_cwS 1 hts gX0_community_X0_checkLevel rfl rfl rfl (by decide +kernel) ⟨Nat.le_of_ble_eq_true rfl, Nat.le_of_ble_eq_true rfl⟩) hT rfl hl rfl (Nat.le_of_ble_eq_true rfl) dX0_community_6 ⟨Nat.le_of_ble_eq_true rfl, Nat.le_of_ble_eq_true rfl⟩ hS hto hlocks

set_option maxHeartbeats 4000000 in
set_option maxRecDepth 100000 in
theorem c_X0_trussSize_low (l : Launch) (hfl : l.stackTraces = false) (D : va_G) (cy : ClassId) (h a0 a1 a2 N : Nat) (ec cc : Int32) (f cs tr : Nat → Int32) (k : Int32) (hk : k < nI 2) : vx_Met l yX0_trussSize wsX0_trussSize ({ frames := 6, cells := 1, slots := 6, locals := 88 } : Room) (va_Pc [.ref h, .int k] (fun U => zRd D (wB h a0 a1 a2 cy N ec cc f cs tr) [(cy, .int)] U ∧ zTh U)) zNi (zXc nIAE) 1 6 zNo := by
  refine vx_ofW (cc := cX0_trussSize) (maxL := 4) (ret := (some .int)) (by decide) rfl ?_
  intro p e s m args below meth c s₁ B hml hto hv
  obtain ⟨rfl, ⟨hP, hK⟩, hT⟩ := hv
  have hx := B.exec
  have hb := B.bytes
  have hr := B.returns
  have hts := atoms_spec (ws := wsX0_trussSize) B.pre
  have hown : s.vm.findClass RX0 = some m.cls := findClass_of_methodNamed B.named
  have hlocks := B.notSynchronized
  have hS : va_S (fun _ => False) s.heap s.heap [] := va_S.rf
  have hin : ∀ w ∈ wsX00, w ∈ wsX0_trussSize := by decide +kernel
  have hf16 := hts (.fieldLink RX0 16 "Corebarn" "trussNeighbours" "[I") (by decide +kernel)
  have hf19 := hts (.fieldLink RX0 19 "Corebarn" "nodeCount" "I") (by decide +kernel)
  have hl := lv_entry ([.ref h, .int k]) (n := 4) (Nat.le_of_ble_eq_true rfl)
  rw [lg_entry_eq]
  generalize (lg_sl ([.ref h, .int k]) ++ List.replicate (4 - (lg_sl ([.ref h, .int k])).length) Slot.unset).toArray = ls at hl ⊢
  have hl : lv_has ls 4 [(0, .ref h), (1, .int k)] := hl
  refine lv_iload_n hx hb dX0_trussSize_0 rfl (lv_at hl 1 rfl) ?_
  refine lv_iconst (v := (nI 2)) hx hb dX0_trussSize_1 (by decide) ?_
  refine lv_icmp_ge (tgt := 15) hx hb dX0_trussSize_2 (by decide) (fun h2 => ?_) (fun h2 => ?_)
  · exact absurd hk (Int32.not_lt.mpr h2)
  · exact zthrow (cc := cX0_trussSize) (rest := []) (text := "k is less than 2") (ik := 130) (is := 132) (ic := 134) hx hb hfl hown (by simp) (by decide +kernel) (by decide +kernel) (hts (.classLink RX0 130 nIAE) (by decide +kernel)) (hts (.initialized nIAE) (by decide +kernel)) (fun w h => hts w (List.mem_cons_of_mem _ (List.mem_append_right _ h))) zh2_134 zg_134 hT hS (by rw [hml]; exact hl.1) dX0_trussSize_5 dX0_trussSize_8 dX0_trussSize_9 dX0_trussSize_11 dX0_trussSize_14 hto (Nat.le_of_ble_eq_true rfl) (Nat.le_of_ble_eq_true rfl) (Nat.le_of_ble_eq_true rfl) (Nat.le_of_ble_eq_true rfl) hlocks

set_option maxHeartbeats 4000000 in
set_option maxRecDepth 100000 in
theorem c_X0_peeled_bad (l : Launch) (hfl : l.stackTraces = false) (D : va_G) (cy : ClassId) (h a0 a1 a2 N : Nat) (ec cc : Int32) (f cs tr : Nat → Int32) (q : Int32) (hq : isNb q N = false) : vx_Met l yX0_peeled wsX0_peeled ({ frames := 6, cells := 1, slots := 6, locals := 82 } : Room) (va_Pc [.ref h, .int q] (fun U => zRd D (wB h a0 a1 a2 cy N ec cc f cs tr) [(cy, .int)] U ∧ zTh U)) zNi (zXc nIOB) 1 6 zNo := by
  refine vx_ofW (cc := cX0_peeled) (maxL := 4) (ret := (some .int)) (by decide) rfl ?_
  intro p e s m args below meth c s₁ B hml hto hv
  obtain ⟨rfl, ⟨hP, hK⟩, hT⟩ := hv
  have hx := B.exec
  have hb := B.bytes
  have hr := B.returns
  have hts := atoms_spec (ws := wsX0_peeled) B.pre
  have hown : s.vm.findClass RX0 = some m.cls := findClass_of_methodNamed B.named
  have hlocks := B.notSynchronized
  have hS : va_S (fun _ => False) s.heap s.heap [] := va_S.rf
  have hin : ∀ w ∈ wsX00, w ∈ wsX0_peeled := by decide +kernel
  have hf19 := hts (.fieldLink RX0 19 "Corebarn" "nodeCount" "I") (by decide +kernel)
  have hl := lv_entry ([.ref h, .int q]) (n := 4) (Nat.le_of_ble_eq_true rfl)
  rw [lg_entry_eq]
  generalize (lg_sl ([.ref h, .int q]) ++ List.replicate (4 - (lg_sl ([.ref h, .int q])).length) Slot.unset).toArray = ls at hl ⊢
  have hl : lv_has ls 4 [(0, .ref h), (1, .int q)] := hl
  refine lv_iload_n hx hb dX0_peeled_0 rfl (lv_at hl 1 rfl) ?_
  refine lv_if_lt (tgt := 12) hx hb dX0_peeled_1 (by decide) (fun h1 => ?_) (fun h1 => ?_)
  · exact zthrow (cc := cX0_peeled) (rest := []) (text := "there is no such place") (ik := 67) (is := 107) (ic := 71) hx hb hfl hown (by simp) (by decide +kernel) (by decide +kernel) (hts (.classLink RX0 67 nIOB) (by decide +kernel)) (hts (.initialized nIOB) (by decide +kernel)) (fun w h => hts w (List.mem_cons_of_mem _ (List.mem_append_right _ h))) zh2_71 zg_71 hT hS (by rw [hml]; exact hl.1) dX0_peeled_12 dX0_peeled_15 dX0_peeled_16 dX0_peeled_18 dX0_peeled_21 hto (Nat.le_of_ble_eq_true rfl) (Nat.le_of_ble_eq_true rfl) (Nat.le_of_ble_eq_true rfl) (Nat.le_of_ble_eq_true rfl) hlocks
  · refine lv_iload_n hx hb dX0_peeled_4 rfl (lv_at hl 1 rfl) ?_
    refine lv_aload_n hx hb dX0_peeled_5 rfl (lv_at hl 0 rfl) ?_
    refine va_get (D := D) (ci := 0) (v := .int (nI N)) (C := RX0) (T := TX0) (N := 6) hx hb hts hin hown hK hP 0 rfl rfl 3 (by decide) hf19 (fun _ h9 => h9) rfl dX0_peeled_6 ?_
    refine lv_icmp_lt (tgt := 22) hx hb dX0_peeled_9 (by decide) (fun h9 => ?_) (fun h9 => ?_)
    · exact absurd (isNb_in h1 (Int32.not_le.mpr h9)) (by rw [hq]; exact Bool.false_ne_true)
    · exact zthrow (cc := cX0_peeled) (rest := []) (text := "there is no such place") (ik := 67) (is := 107) (ic := 71) hx hb hfl hown (by simp) (by decide +kernel) (by decide +kernel) (hts (.classLink RX0 67 nIOB) (by decide +kernel)) (hts (.initialized nIOB) (by decide +kernel)) (fun w h => hts w (List.mem_cons_of_mem _ (List.mem_append_right _ h))) zh2_71 zg_71 hT hS (by rw [hml]; exact hl.1) dX0_peeled_12 dX0_peeled_15 dX0_peeled_16 dX0_peeled_18 dX0_peeled_21 hto (Nat.le_of_ble_eq_true rfl) (Nat.le_of_ble_eq_true rfl) (Nat.le_of_ble_eq_true rfl) (Nat.le_of_ble_eq_true rfl) hlocks

set_option maxHeartbeats 4000000 in
set_option maxRecDepth 100000 in
theorem c_X0_neighbour_badi (l : Launch) (hfl : l.stackTraces = false) (D : va_G) (cy : ClassId) (h a0 a1 a2 N : Nat) (ec cc : Int32) (f cs tr : Nat → Int32) (u : Nat) (q : Int32) (hN : N ≤ 20) (hg : gd f N) (hu : u < N) (hq : q < 0 ∨ nI (zpop (f u)) ≤ q) : vx_Met l yX0_neighbour wsX0_neighbour ({ frames := 7, cells := 1, slots := 6, locals := 103 } : Room) (va_Pc [.ref h, .int (nI u), .int q] (fun U => zRd D (wB h a0 a1 a2 cy N ec cc f cs tr) [(cy, .int)] U ∧ zTh U)) zNi (zXc nIOB) 1 6 zNo := by
  refine vx_ofW (cc := cX0_neighbour) (maxL := 5) (ret := (some .int)) (by decide) rfl ?_
  intro p e s m args below meth c s₁ B hml hto hv
  obtain ⟨rfl, ⟨hP, hK⟩, hT⟩ := hv
  have hx := B.exec
  have hb := B.bytes
  have hr := B.returns
  have hts := atoms_spec (ws := wsX0_neighbour) B.pre
  have hown : s.vm.findClass RX0 = some m.cls := findClass_of_methodNamed B.named
  have hlocks := B.notSynchronized
  have hS : va_S (fun _ => False) s.heap s.heap [] := va_S.rf
  have hin : ∀ w ∈ wsX00, w ∈ wsX0_neighbour := by decide +kernel
  have hf9 := hts (.fieldLink RX0 9 "Corebarn" "neighbours" "[I") (by decide +kernel)
  have hf19 := hts (.fieldLink RX0 19 "Corebarn" "nodeCount" "I") (by decide +kernel)
  have hpb := pop_31 (f u)
  have hl := lv_entry ([.ref h, .int (nI u), .int q]) (n := 5) (Nat.le_of_ble_eq_true rfl)
  rw [lg_entry_eq]
  generalize (lg_sl ([.ref h, .int (nI u), .int q]) ++ List.replicate (5 - (lg_sl ([.ref h, .int (nI u), .int q])).length) Slot.unset).toArray = ls at hl ⊢
  have hl : lv_has ls 5 [(0, .ref h), (1, .int (nI u)), (2, .int q)] := hl
  refine lv_aload_n hx hb dX0_neighbour_0 rfl (lv_at hl 0 rfl) ?_
  refine lv_iload_n hx hb dX0_neighbour_1 rfl (lv_at hl 1 rfl) ?_
  refine zrVv (As := [.int (nI u)]) (rest := []) 0 ⟨hx, hb, hml, hown, hts⟩ (c_X0_checkNode_ok l D cy h a0 a1 a2 N ec cc f cs tr u hN hu) (cwV 1 hts gX0_neighbour_X0_checkNode rfl rfl rfl (by decide +kernel) ⟨Nat.le_of_ble_eq_true rfl, Nat.le_of_ble_eq_true rfl⟩) hK hP rfl rfl rfl hl rfl (Nat.le_of_ble_eq_true rfl) dX0_neighbour_2 ⟨Nat.le_of_ble_eq_true rfl, Nat.le_of_ble_eq_true rfl⟩ hS (fun H locs hw2 hk9 hS => ?_)
  have hP := zkeep hP hk9
  refine lv_iconst (v := (nI 0)) hx hb dX0_neighbour_5 (by decide) ?_
  refine lv_istore_n (lv' := [(3, .int (nI 0)), (0, .ref h), (1, .int (nI u)), (2, .int q)]) hx hb dX0_neighbour_6 rfl hl (by decide) rfl (fun ls hl => ?_)
  refine lv_iconst (v := (nI 0)) hx hb dX0_neighbour_7 (by decide) ?_
  refine lv_istore (lv' := [(4, .int (nI 0)), (3, .int (nI 0)), (0, .ref h), (1, .int (nI u)), (2, .int q)]) hx hb dX0_neighbour_8 hl (by decide) rfl (fun ls hl => ?_)
  have K10 : ∀ (fu10 : Nat) (i : Nat) (k : Nat) (H : Heap) (locs : List Loc) (ls : Array Slot), (i ≤ N) → (k = fb_ct (bt (f u)) i) → N - i < fu10 → va_P D vwCl (wB h a0 a1 a2 cy N ec cc f cs tr) H → va_S (fun _ => False) s.heap H locs → lv_has ls 5 [(4, .int (nI i)), (3, .int (nI k)), (0, .ref h), (1, .int (nI u)), (2, .int q)] → W p l e (headSpec wsX0_neighbour ({ frames := 7, cells := 1, slots := 6, locals := 103 } : Room)).room s m ([.ref h, .int (nI u), .int q] : List Value).toArray below meth c H locs 0 0 (vx_MQ below zNi (zXc nIOB) ([.ref h, .int (nI u), .int q] : List Value).toArray s 1 6 zNo) (F0 m 10 ls []) := by
    intro fu10
    induction fu10 with
    | zero =>
      intro i k H locs ls hi hk0 hfu10
      exact absurd hfu10 (Nat.not_lt_zero _)
    | succ fu10 ih10 =>
      intro i k H locs ls hi hk0 hfu10 hP hS hl
      have hkb : k ≤ i := by rw [hk0]; exact fb_ct_le _ _
      refine lv_iload hx hb dX0_neighbour_10 (lv_at hl 0 rfl) ?_
      refine lv_aload_n hx hb dX0_neighbour_12 rfl (lv_at hl 2 rfl) ?_
      refine va_get (D := D) (ci := 0) (v := .int (nI N)) (C := RX0) (T := TX0) (N := 6) hx hb hts hin hown hK hP 0 rfl rfl 3 (by decide) hf19 (fun _ h9 => h9) rfl dX0_neighbour_13 ?_
      refine z_icmp_ge (tgt := 50) hx hb dX0_neighbour_16 (by decide) (by omega) (by omega) (fun h16 => ?_) (fun h16 => ?_)
      · exact zthrow (cc := cX0_neighbour) (rest := []) (text := "the node has not so many edges") (ik := 67) (is := 69) (ic := 71) hx hb hfl hown (by simp) (by decide +kernel) (by decide +kernel) (hts (.classLink RX0 67 nIOB) (by decide +kernel)) (hts (.initialized nIOB) (by decide +kernel)) (fun w h => hts w (List.mem_cons_of_mem _ (List.mem_append_right _ h))) zh2_71 zg_71 hT hS (by rw [hml]; exact hl.1) dX0_neighbour_50 dX0_neighbour_53 dX0_neighbour_54 dX0_neighbour_56 dX0_neighbour_59 hto (Nat.le_of_ble_eq_true rfl) (Nat.le_of_ble_eq_true rfl) (Nat.le_of_ble_eq_true rfl) (Nat.le_of_ble_eq_true rfl) hlocks
      · refine lv_aload_n hx hb dX0_neighbour_19 rfl (lv_at hl 2 rfl) ?_
        refine va_get (D := D) (ci := 0) (v := .ref a0) (C := RX0) (T := TX0) (N := 6) hx hb hts hin hown hK hP 0 rfl rfl 0 (by decide) hf9 (fun _ h9 => h9) rfl dX0_neighbour_20 ?_
        refine lv_iload_n hx hb dX0_neighbour_23 rfl (lv_at hl 3 rfl) ?_
        refine z_iald hx hb hK hP 1 0 rfl rfl (by omega) (by decide) dX0_neighbour_24 ?_
        refine lv_iload hx hb dX0_neighbour_25 (lv_at hl 0 rfl) ?_
        refine zrS0 (As := [.int (f u), .int (nI i)]) (rest := []) ⟨hx, hb, hml, hown, hts⟩ (c_X0_contains l (f u) i (by omega)) (va_cwS 2 hts gX0_neighbour_X0_contains rfl rfl rfl (by decide +kernel) ⟨Nat.le_of_ble_eq_true rfl, Nat.le_of_ble_eq_true rfl⟩) rfl hl rfl (Nat.le_of_ble_eq_true rfl) dX0_neighbour_27 ⟨Nat.le_of_ble_eq_true rfl, Nat.le_of_ble_eq_true rfl⟩ hS (fun r27 H locs hw27 hk9 hS => ?_)
        obtain rfl : r27 = (zb (bt (f u) i)) := hw27
        have hP := zkeep hP hk9
        refine z_ifb_eq (tgt := 44) hx hb dX0_neighbour_30 (by decide) (fun h30 => ?_) (fun h30 => ?_)
        · refine lv_iinc (v := (nI (i + 1))) (lv' := [(4, .int (nI (i + 1))), (3, .int (nI k)), (0, .ref h), (1, .int (nI u)), (2, .int q)]) hx hb dX0_neighbour_44 hl (k := 0) rfl (nI_1 _) (by decide) rfl (fun ls hl => ?_)
          refine lv_goto (tgt := 10) hx hb dX0_neighbour_47 (by decide) ?_
          exact ih10 (i + 1) k _ _ _ (by omega) (ct_no hk0 h30) (by omega) hP hS (lv_sub hl [0, 1, 2, 3, 4] rfl)
        · refine lv_iload_n hx hb dX0_neighbour_33 rfl (lv_at hl 1 rfl) ?_
          refine lv_iload_n hx hb dX0_neighbour_34 rfl (lv_at hl 4 rfl) ?_
          refine lv_icmp_ne (tgt := 41) hx hb dX0_neighbour_35 (by decide) (fun h35 => ?_) (fun h35 => ?_)
          · refine lv_iinc (v := (nI (k + 1))) (lv' := [(3, .int (nI (k + 1))), (4, .int (nI i)), (0, .ref h), (1, .int (nI u)), (2, .int q)]) hx hb dX0_neighbour_41 hl (k := 1) rfl (nI_1 _) (by decide) rfl (fun ls hl => ?_)
            refine lv_iinc (v := (nI (i + 1))) (lv' := [(4, .int (nI (i + 1))), (3, .int (nI (k + 1))), (0, .ref h), (1, .int (nI u)), (2, .int q)]) hx hb dX0_neighbour_44 hl (k := 1) rfl (nI_1 _) (by decide) rfl (fun ls hl => ?_)
            refine lv_goto (tgt := 10) hx hb dX0_neighbour_47 (by decide) ?_
            exact ih10 (i + 1) (k + 1) _ _ _ (by omega) (ct_yes hk0 h30) (by omega) hP hS (lv_sub hl [0, 1, 2, 3, 4] rfl)
          · exact absurd hq (fun z => by have z1 := fb_ct_mono (bt (f u)) (show i + 1 ≤ N by omega); rw [ct_yesf h30, ← hk0, ← popN hN (gd_sub hg hu)] at z1; rw [← h35] at z; rcases z with z | z; exact nI_pos (by omega) z; have z2 := (nI_leI (pop_31 _) (by omega)).mp z; omega)
  exact K10 (N - 0 + 1) 0 0 _ _ _ (by omega) rfl (Nat.lt_succ_self _) hP hS (lv_sub hl [0, 1, 2, 3, 4] rfl)

set_option maxHeartbeats 4000000 in
set_option maxRecDepth 100000 in
theorem c_X0_together_none (l : Launch) (hfl : l.stackTraces = false) (D : va_G) (cy : ClassId) (h a0 a1 a2 N : Nat) (ec cc : Int32) (f cs tr : Nat → Int32) (u v : Nat) (c0 : Nat → Nat) (hN : N ≤ 20) (hu : u < N) (hv : v < N) (hcs : csI cs c0 N) (ht0 : tgk f c0 N u v 20 = 0) : vx_Met l yX0_together wsX0_together ({ frames := 7, cells := 1, slots := 6, locals := 103 } : Room) (va_Pc [.ref h, .int (nI u), .int (nI v)] (fun U => zRd D (wB h a0 a1 a2 cy N ec cc f cs tr) [(cy, .int)] U ∧ zTh U)) zNi (zXc nNSE) 1 6 zNo := by
  refine vx_ofW (cc := cX0_together) (maxL := 4) (ret := (some .int)) (by decide) rfl ?_
  intro p e s m args below meth c s₁ B hml hto hv
  obtain ⟨rfl, ⟨hP, hK⟩, hT⟩ := hv
  have hx := B.exec
  have hb := B.bytes
  have hr := B.returns
  have hts := atoms_spec (ws := wsX0_together) B.pre
  have hown : s.vm.findClass RX0 = some m.cls := findClass_of_methodNamed B.named
  have hlocks := B.notSynchronized
  have hS : va_S (fun _ => False) s.heap s.heap [] := va_S.rf
  have hin : ∀ w ∈ wsX00, w ∈ wsX0_together := by decide +kernel
  have hf13 := hts (.fieldLink RX0 13 "Corebarn" "cores" "[I") (by decide +kernel)
  have hcu := (hcs u hu).2
  have hcv := (hcs v hv).2
  have hl := lv_entry ([.ref h, .int (nI u), .int (nI v)]) (n := 4) (Nat.le_of_ble_eq_true rfl)
  rw [lg_entry_eq]
  generalize (lg_sl ([.ref h, .int (nI u), .int (nI v)]) ++ List.replicate (4 - (lg_sl ([.ref h, .int (nI u), .int (nI v)])).length) Slot.unset).toArray = ls at hl ⊢
  have hl : lv_has ls 4 [(0, .ref h), (1, .int (nI u)), (2, .int (nI v))] := hl
  refine lv_aload_n hx hb dX0_together_0 rfl (lv_at hl 0 rfl) ?_
  refine lv_iload_n hx hb dX0_together_1 rfl (lv_at hl 1 rfl) ?_
  refine zrVv (As := [.int (nI u)]) (rest := []) 0 ⟨hx, hb, hml, hown, hts⟩ (c_X0_checkNode_ok l D cy h a0 a1 a2 N ec cc f cs tr u hN hu) (cwV 1 hts gX0_together_X0_checkNode rfl rfl rfl (by decide +kernel) ⟨Nat.le_of_ble_eq_true rfl, Nat.le_of_ble_eq_true rfl⟩) hK hP rfl rfl rfl hl rfl (Nat.le_of_ble_eq_true rfl) dX0_together_2 ⟨Nat.le_of_ble_eq_true rfl, Nat.le_of_ble_eq_true rfl⟩ hS (fun H locs hw2 hk9 hS => ?_)
  have hP := zkeep hP hk9
  refine lv_aload_n hx hb dX0_together_5 rfl (lv_at hl 0 rfl) ?_
  refine lv_iload_n hx hb dX0_together_6 rfl (lv_at hl 2 rfl) ?_
  refine zrVv (As := [.int (nI v)]) (rest := []) 0 ⟨hx, hb, hml, hown, hts⟩ (c_X0_checkNode_ok l D cy h a0 a1 a2 N ec cc f cs tr v hN hv) (cwV 1 hts gX0_together_X0_checkNode rfl rfl rfl (by decide +kernel) ⟨Nat.le_of_ble_eq_true rfl, Nat.le_of_ble_eq_true rfl⟩) hK hP rfl rfl rfl hl rfl (Nat.le_of_ble_eq_true rfl) dX0_together_7 ⟨Nat.le_of_ble_eq_true rfl, Nat.le_of_ble_eq_true rfl⟩ hS (fun H locs hw7 hk9 hS => ?_)
  have hP := zkeep hP hk9
  refine lv_aload_n hx hb dX0_together_10 rfl (lv_at hl 0 rfl) ?_
  refine va_get (D := D) (ci := 0) (v := .ref a1) (C := RX0) (T := TX0) (N := 6) hx hb hts hin hown hK hP 0 rfl rfl 1 (by decide) hf13 (fun _ h9 => h9) rfl dX0_together_11 ?_
  refine lv_iload_n hx hb dX0_together_14 rfl (lv_at hl 1 rfl) ?_
  refine z_iald hx hb hK hP 2 0 rfl rfl (by omega) (by decide) dX0_together_15 ?_
  rw [(hcs u hu).1]
  refine lv_aload_n hx hb dX0_together_16 rfl (lv_at hl 0 rfl) ?_
  refine va_get (D := D) (ci := 0) (v := .ref a1) (C := RX0) (T := TX0) (N := 6) hx hb hts hin hown hK hP 0 rfl rfl 1 (by decide) hf13 (fun _ h9 => h9) rfl dX0_together_17 ?_
  refine lv_iload_n hx hb dX0_together_20 rfl (lv_at hl 2 rfl) ?_
  refine z_iald hx hb hK hP 2 0 rfl rfl (by omega) (by decide) dX0_together_21 ?_
  rw [(hcs v hv).1]
  refine va_mmin hx hb (by rw [hml]; exact hl.1.symm) hown (hts (.methodLink RX0 92 Lib.Math.min.name) (by decide +kernel)) (hts (.static Lib.Math.min.name) (by decide +kernel)) (hts (.initialized "java/lang/Math") (by decide +kernel)) (hts (.code Lib.Math.min.name Lib.Math.min.code 2 (some .int)) (by decide +kernel)) (Nat.le_of_ble_eq_true rfl) (Nat.le_of_ble_eq_true rfl) (Nat.le_of_ble_eq_true rfl) (Nat.le_of_ble_eq_true rfl) dX0_together_22 ?_
  rw [z_min (a := c0 u) (b := c0 v) (by omega) (by omega)]
  refine lv_istore_n (lv' := [(3, .int (nI (min (c0 u) (c0 v)))), (0, .ref h), (1, .int (nI u)), (2, .int (nI v))]) hx hb dX0_together_25 rfl hl (by decide) rfl (fun ls hl => ?_)
  have K26 : ∀ (fu26 : Nat) (t1 : Nat) (x : Int32) (H : Heap) (locs : List Loc) (ls : Array Slot), (t1 ≤ 20) → (x = tgi t1) → t1 < fu26 → va_P D vwCl (wB h a0 a1 a2 cy N ec cc f cs tr) H → va_S (fun _ => False) s.heap H locs → lv_has ls 4 [(3, .int x), (0, .ref h), (1, .int (nI u)), (2, .int (nI v))] → W p l e (headSpec wsX0_together ({ frames := 7, cells := 1, slots := 6, locals := 103 } : Room)).room s m ([.ref h, .int (nI u), .int (nI v)] : List Value).toArray below meth c H locs 0 0 (vx_MQ below zNi (zXc nNSE) ([.ref h, .int (nI u), .int (nI v)] : List Value).toArray s 1 6 zNo) (F0 m 26 ls []) := by
    intro fu26
    induction fu26 with
    | zero =>
      intro t1 x H locs ls ht1 hxe hfu26
      exact absurd hfu26 (Nat.not_lt_zero _)
    | succ fu26 ih26 =>
      intro t1 x H locs ls ht1 hxe hfu26 hP hS hl
      refine lv_iload_n hx hb dX0_together_26 rfl (lv_at hl 0 rfl) ?_
      refine lv_if_lt (tgt := 58) hx hb dX0_together_27 (by decide) (fun h27 => ?_) (fun h27 => ?_)
      · exact zthrowN (cc := cX0_together) (rest := []) (text := "the nodes belong to the same community at no level") (is := 97) hx hb hfl hown (by decide +kernel) (hts (.classLink RX0 95 nNSE) (by decide +kernel)) (hts (.initialized nNSE) (by decide +kernel)) (fun w h => hts w (List.mem_cons_of_mem _ (List.mem_append_left _ (List.mem_append_right _ h)))) zh2_99 zg_99 hT hS (by rw [hml]; exact hl.1) dX0_together_58 dX0_together_61 dX0_together_62 dX0_together_64 dX0_together_67 hto (Nat.le_of_ble_eq_true rfl) (Nat.le_of_ble_eq_true rfl) (Nat.le_of_ble_eq_true rfl) (Nat.le_of_ble_eq_true rfl) hlocks
      · obtain ⟨m9, rfl, hm9⟩ := tgi_ge (by omega) hxe h27
        refine lv_aload_n hx hb dX0_together_30 rfl (lv_at hl 1 rfl) ?_
        refine lv_iload_n hx hb dX0_together_31 rfl (lv_at hl 2 rfl) ?_
        refine zrS0 (As := [.int (nI u)]) (rest := [.ref h]) ⟨hx, hb, hml, hown, hts⟩ (c_X0_single l u) (va_cwS 1 hts gX0_together_X0_single rfl rfl rfl (by decide +kernel) ⟨Nat.le_of_ble_eq_true rfl, Nat.le_of_ble_eq_true rfl⟩) rfl hl rfl (Nat.le_of_ble_eq_true rfl) dX0_together_32 ⟨Nat.le_of_ble_eq_true rfl, Nat.le_of_ble_eq_true rfl⟩ hS (fun r32 H locs hw32 hk9 hS => ?_)
        obtain rfl : r32 = zsg u := hw32
        have hP := zkeep hP hk9
        refine lv_aload_n hx hb dX0_together_35 rfl (lv_at hl 1 rfl) ?_
        refine lv_iload_n hx hb dX0_together_36 rfl (lv_at hl 0 rfl) ?_
        refine zrV (As := [.int (nI m9)]) (rest := [.int (zsg u), .ref h]) 0 ⟨hx, hb, hml, hown, hts⟩ (c_X0_coreSet l D cy h a0 a1 a2 N ec cc f cs tr (nI m9) hN) (cwV 1 hts gX0_together_X0_coreSet rfl rfl rfl (by decide +kernel) ⟨Nat.le_of_ble_eq_true rfl, Nat.le_of_ble_eq_true rfl⟩) hK hP rfl rfl rfl hl rfl (Nat.le_of_ble_eq_true rfl) dX0_together_37 ⟨Nat.le_of_ble_eq_true rfl, Nat.le_of_ble_eq_true rfl⟩ hS (fun r37 H locs hw37 hk9 hS => ?_)
        obtain rfl : r37 = (zmk (fun i => decide ((nI m9) ≤ cs i)) N) := hw37
        have hP := zkeep hP hk9
        rw [cst_of hN hcs (k := m9) (by omega)]
        refine zrV (As := [.int (zsg u), .int (cst c0 N (m9 : Int))]) (rest := []) 0 ⟨hx, hb, hml, hown, hts⟩ (c_X0_reach l D cy h a0 a1 a2 N ec cc f cs tr (zsg u) (cst c0 N (m9 : Int)) hN (cst_sub hN _)) (cwV 2 hts gX0_together_X0_reach rfl rfl rfl (by decide +kernel) ⟨Nat.le_of_ble_eq_true rfl, Nat.le_of_ble_eq_true rfl⟩) hK hP rfl rfl rfl hl rfl (Nat.le_of_ble_eq_true rfl) dX0_together_40 ⟨Nat.le_of_ble_eq_true rfl, Nat.le_of_ble_eq_true rfl⟩ hS (fun r40 H locs hw40 hk9 hS => ?_)
        have hw40 : rch f (zsg u) (cst c0 N (m9 : Int)) r40 := hw40
        obtain rfl : r40 = cmp f (cst c0 N (m9 : Int)) u := cmp_of hw40
        have hP := zkeep hP hk9
        refine lv_iload_n hx hb dX0_together_43 rfl (lv_at hl 3 rfl) ?_
        refine zrS0 (As := [.int (cmp f (cst c0 N (m9 : Int)) u), .int (nI v)]) (rest := []) ⟨hx, hb, hml, hown, hts⟩ (c_X0_contains l (cmp f (cst c0 N (m9 : Int)) u) v (by omega)) (va_cwS 2 hts gX0_together_X0_contains rfl rfl rfl (by decide +kernel) ⟨Nat.le_of_ble_eq_true rfl, Nat.le_of_ble_eq_true rfl⟩) rfl hl rfl (Nat.le_of_ble_eq_true rfl) dX0_together_44 ⟨Nat.le_of_ble_eq_true rfl, Nat.le_of_ble_eq_true rfl⟩ hS (fun r44 H locs hw44 hk9 hS => ?_)
        obtain rfl : r44 = (zb (bt (cmp f (cst c0 N (m9 : Int)) u) v)) := hw44
        have hP := zkeep hP hk9
        refine z_ifb_eq (tgt := 52) hx hb dX0_together_47 (by decide) (fun h47 => ?_) (fun h47 => ?_)
        · refine lv_iinc (v := (tgi m9)) (lv' := [(3, .int (tgi m9)), (0, .ref h), (1, .int (nI u)), (2, .int (nI v))]) hx hb dX0_together_52 hl (k := 0) rfl (tgi_m m9) (by decide) rfl (fun ls hl => ?_)
          refine lv_goto (tgt := 26) hx hb dX0_together_55 (by decide) ?_
          exact ih26 m9 (tgi m9) _ _ _ (by omega) rfl (by omega) hP hS (lv_sub hl [0, 1, 2, 3] rfl)
        · exact absurd ht0 (tgk_ne h47 20 (by omega))
  exact K26 ((min (c0 u) (c0 v) + 1) + 1) (min (c0 u) (c0 v) + 1) (nI (min (c0 u) (c0 v))) _ _ _ (by omega) (by unfold tgi; rw [if_neg (by omega), Nat.add_sub_cancel]) (Nat.lt_succ_self _) hP hS (lv_sub hl [0, 1, 2, 3] rfl)
