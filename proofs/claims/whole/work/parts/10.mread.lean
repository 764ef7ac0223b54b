set_option maxHeartbeats 4000000 in
set_option maxRecDepth 100000 in
theorem c_X1_has (l : Launch) (x : Int32) (j : Nat) (hj : j < 32) : Met l yX1_has wsX1_has ({ frames := 0, cells := 0, slots := 0, locals := 0 } : Room) (va_Pc [.int x, .int (nI j)] (fun _ => True)) (zPo (fun r => r = zb (bt x j))) 0 0 zNo := by
  refine Met.ofW (cc := cX1_has) (maxL := 2) (ret := (some .boolean)) (by decide) rfl ?_
  intro p e s m args below meth c s₁ B hml hv
  obtain ⟨rfl, -⟩ := hv
  have hx := B.exec
  have hb := B.bytes
  have hr := B.returns
  have hts := atoms_spec (ws := wsX1_has) B.pre
  have hown : s.vm.findClass RX1 = some m.cls := findClass_of_methodNamed B.named
  have hlocks := B.notSynchronized
  have hS : va_S (fun _ => False) s.heap s.heap [] := va_S.rf
  have hl := lv_entry ([.int x, .int (nI j)]) (n := 2) (Nat.le_of_ble_eq_true rfl)
  rw [lg_entry_eq]
  generalize (lg_sl ([.int x, .int (nI j)]) ++ List.replicate (2 - (lg_sl ([.int x, .int (nI j)])).length) Slot.unset).toArray = ls at hl ⊢
  have hl : lv_has ls 2 [(0, .int x), (1, .int (nI j))] := hl
  refine lv_iload_n hx hb dX1_has_0 rfl (lv_at hl 0 rfl) ?_
  refine lv_iload_n hx hb dX1_has_1 rfl (lv_at hl 1 rfl) ?_
  refine lv_ishr hx hb dX1_has_2 ?_
  refine lv_iconst (v := (nI 1)) hx hb dX1_has_3 (by decide) ?_
  refine lv_iand hx hb dX1_has_4 ?_
  rw [hbit x hj]
  refine lv_iconst (v := (nI 1)) hx hb dX1_has_5 (by decide) ?_
  refine lv_icmp_ne (tgt := 13) hx hb dX1_has_6 (by decide) (fun h6 => ?_) (fun h6 => ?_)
  · refine lv_iconst (v := (nI 0)) hx hb dX1_has_13 (by decide) ?_
    exact W.zret (v := (nI 0)) (ty := .boolean) hx hb hr rfl (fun t9 ht9 hW9 => ⟨⟨(nI 0), (), rfl, (by rw [zb_ne h6]; rfl), trivial⟩, hS.F ht9⟩) hS.2.2 dX1_has_14
  · refine lv_iconst (v := (nI 1)) hx hb dX1_has_9 (by decide) ?_
    refine lv_goto (tgt := 14) hx hb dX1_has_10 (by decide) ?_
    exact W.zret (v := (nI 1)) (ty := .boolean) hx hb hr rfl (fun t9 ht9 hW9 => ⟨⟨(nI 1), (), rfl, (by rw [zb_eq h6]; rfl), trivial⟩, hS.F ht9⟩) hS.2.2 dX1_has_14

set_option maxHeartbeats 4000000 in
set_option maxRecDepth 100000 in
theorem c_X1_sizeOf (l : Launch) (x : Int32) (hxs : zsub x 20) : Met l yX1_sizeOf wsX1_sizeOf ({ frames := 0, cells := 0, slots := 0, locals := 0 } : Room) (va_Pc [.int x] (fun _ => True)) (zPo (fun r => r = nI (zpop x))) 0 0 zNo := by
  refine Met.ofW (cc := cX1_sizeOf) (maxL := 3) (ret := (some .int)) (by decide) rfl ?_
  intro p e s m args below meth c s₁ B hml hv
  obtain ⟨rfl, -⟩ := hv
  have hx := B.exec
  have hb := B.bytes
  have hr := B.returns
  have hts := atoms_spec (ws := wsX1_sizeOf) B.pre
  have hown : s.vm.findClass RX1 = some m.cls := findClass_of_methodNamed B.named
  have hlocks := B.notSynchronized
  have hS : va_S (fun _ => False) s.heap s.heap [] := va_S.rf
  have hl := lv_entry ([.int x]) (n := 3) (Nat.le_of_ble_eq_true rfl)
  rw [lg_entry_eq]
  generalize (lg_sl ([.int x]) ++ List.replicate (3 - (lg_sl ([.int x])).length) Slot.unset).toArray = ls at hl ⊢
  have hl : lv_has ls 3 [(0, .int x)] := hl
  refine lv_iconst (v := (nI 0)) hx hb dX1_sizeOf_0 (by decide) ?_
  refine lv_istore_n (lv' := [(1, .int (nI 0)), (0, .int x)]) hx hb dX1_sizeOf_1 rfl hl (by decide) rfl (fun ls hl => ?_)
  refine lv_iconst (v := (nI 0)) hx hb dX1_sizeOf_2 (by decide) ?_
  refine lv_istore_n (lv' := [(2, .int (nI 0)), (1, .int (nI 0)), (0, .int x)]) hx hb dX1_sizeOf_3 rfl hl (by decide) rfl (fun ls hl => ?_)
  have K4 : ∀ (fu4 : Nat) (i : Nat) (k : Nat) (H : Heap) (locs : List Loc) (ls : Array Slot), (i ≤ 20) → (k = fb_ct (bt x) i) → 20 - i < fu4 → va_S (fun _ => False) s.heap H locs → lv_has ls 3 [(2, .int (nI i)), (1, .int (nI k)), (0, .int x)] → W p l e (headSpec wsX1_sizeOf ({ frames := 0, cells := 0, slots := 0, locals := 0 } : Room)).room s m ([.int x] : List Value).toArray below meth c H locs 0 0 (MQ below (zPo (fun r => r = nI (zpop x))) ([.int x] : List Value).toArray s 0 0 zNo) (F0 m 4 ls []) := by
    intro fu4
    induction fu4 with
    | zero =>
      intro i k H locs ls hi hke hfu4
      exact absurd hfu4 (Nat.not_lt_zero _)
    | succ fu4 ih4 =>
      intro i k H locs ls hi hke hfu4 hS hl
      have hkb : k ≤ i := by rw [hke]; exact fb_ct_le _ _
      refine lv_iload_n hx hb dX1_sizeOf_4 rfl (lv_at hl 0 rfl) ?_
      refine lv_bipush (v := (nI 20)) hx hb dX1_sizeOf_5 (by decide) ?_
      refine z_icmp_ge (tgt := 24) hx hb dX1_sizeOf_7 (by decide) (by omega) (by omega) (fun h7 => ?_) (fun h7 => ?_)
      · refine lv_iload_n hx hb dX1_sizeOf_24 rfl (lv_at hl 1 rfl) ?_
        exact W.iret (v := (nI k)) hx hb hr (fun t9 ht9 hW9 => ⟨⟨(nI k), (), rfl, (by rw [pop20 hxs, hke, Nat.le_antisymm hi h7]), trivial⟩, hS.F ht9⟩) hS.2.2 dX1_sizeOf_25
      · refine lv_iload_n hx hb dX1_sizeOf_10 rfl (lv_at hl 1 rfl) ?_
        refine lv_iload_n hx hb dX1_sizeOf_11 rfl (lv_at hl 2 rfl) ?_
        refine lv_iload_n hx hb dX1_sizeOf_12 rfl (lv_at hl 0 rfl) ?_
        refine lv_ishr hx hb dX1_sizeOf_13 ?_
        refine lv_iconst (v := (nI 1)) hx hb dX1_sizeOf_14 (by decide) ?_
        refine lv_iand hx hb dX1_sizeOf_15 ?_
        rw [hbit x (j := i) (by omega), zb_n]
        refine z_iadd hx hb dX1_sizeOf_16 ?_
        refine lv_istore_n (lv' := [(1, .int (nI (k + (if bt x i = true then 1 else 0)))), (2, .int (nI i)), (0, .int x)]) hx hb dX1_sizeOf_17 rfl hl (by decide) rfl (fun ls hl => ?_)
        refine lv_iinc (v := (nI (i + 1))) (lv' := [(2, .int (nI (i + 1))), (1, .int (nI (k + (if bt x i = true then 1 else 0)))), (0, .int x)]) hx hb dX1_sizeOf_18 hl (k := 1) rfl (nI_1 _) (by decide) rfl (fun ls hl => ?_)
        refine lv_goto (tgt := 4) hx hb dX1_sizeOf_21 (by decide) ?_
        exact ih4 (i + 1) (k + (if bt x i = true then 1 else 0)) _ _ _ (by omega) (by rw [hke, fb_ct_succ]) (by omega) hS (lv_sub hl [0, 1, 2] rfl)
  exact K4 (20 - 0 + 1) 0 0 _ _ _ (by omega) rfl (Nat.lt_succ_self _) hS (lv_sub hl [0, 1, 2] rfl)

set_option maxHeartbeats 4000000 in
set_option maxRecDepth 100000 in
theorem c_X1_thrown (l : Launch) (D : va_G) (cy : ClassId) (h b0 b1 b2 b3 b4 : Nat) (th : Int32) (N : Nat) (ch ds de : Int32) (f cs be lf od : Nat → Int32)  : Met l yX1_thrown wsX1_thrown ({ frames := 0, cells := 0, slots := 0, locals := 0 } : Room) (va_Pc [.ref h] (zRd D (wM h b0 b1 b2 b3 b4 cy th N ch ds de f cs be lf od) [(cy, .int)])) (zPo (fun r => r = th)) 0 0 zNo := by
  refine Met.ofW (cc := cX1_thrown) (maxL := 1) (ret := (some .int)) (by decide) rfl ?_
  intro p e s m args below meth c s₁ B hml hv
  obtain ⟨rfl, hP, hK⟩ := hv
  have hx := B.exec
  have hb := B.bytes
  have hr := B.returns
  have hts := atoms_spec (ws := wsX1_thrown) B.pre
  have hown : s.vm.findClass RX1 = some m.cls := findClass_of_methodNamed B.named
  have hlocks := B.notSynchronized
  have hS : va_S (fun _ => False) s.heap s.heap [] := va_S.rf
  have hin : ∀ w ∈ wsX10, w ∈ wsX1_thrown := by decide +kernel
  have hf25 := hts (.fieldLink RX1 25 "CorebarnModel" "thrown" "I") (by decide +kernel)
  have hl := lv_entry ([.ref h]) (n := 1) (Nat.le_of_ble_eq_true rfl)
  rw [lg_entry_eq]
  generalize (lg_sl ([.ref h]) ++ List.replicate (1 - (lg_sl ([.ref h])).length) Slot.unset).toArray = ls at hl ⊢
  have hl : lv_has ls 1 [(0, .ref h)] := hl
  refine lv_aload_n hx hb dX1_thrown_0 rfl (lv_at hl 0 rfl) ?_
  refine va_get (D := D) (ci := 1) (v := .int th) (C := RX1) (T := TX1) (N := 10) hx hb hts hin hown hK hP 0 rfl rfl 0 (by decide) hf25 (fun _ h9 => h9) rfl dX1_thrown_1 ?_
  exact W.iret (v := th) hx hb hr (fun t9 ht9 hW9 => ⟨⟨th, (), rfl, rfl, trivial⟩, hS.F ht9⟩) hS.2.2 dX1_thrown_4

set_option maxHeartbeats 4000000 in
set_option maxRecDepth 100000 in
theorem c_X1_isNode (l : Launch) (D : va_G) (cy : ClassId) (h b0 b1 b2 b3 b4 : Nat) (th : Int32) (N : Nat) (ch ds de : Int32) (f cs be lf od : Nat → Int32) (q : Int32) : Met l yX1_isNode wsX1_isNode ({ frames := 0, cells := 0, slots := 0, locals := 0 } : Room) (va_Pc [.ref h, .int q] (zRd D (wM h b0 b1 b2 b3 b4 cy th N ch ds de f cs be lf od) [(cy, .int)])) (zPo (fun r => r = zb (isNb q N))) 0 0 zNo := by
  refine Met.ofW (cc := cX1_isNode) (maxL := 2) (ret := (some .boolean)) (by decide) rfl ?_
  intro p e s m args below meth c s₁ B hml hv
  obtain ⟨rfl, hP, hK⟩ := hv
  have hx := B.exec
  have hb := B.bytes
  have hr := B.returns
  have hts := atoms_spec (ws := wsX1_isNode) B.pre
  have hown : s.vm.findClass RX1 = some m.cls := findClass_of_methodNamed B.named
  have hlocks := B.notSynchronized
  have hS : va_S (fun _ => False) s.heap s.heap [] := va_S.rf
  have hin : ∀ w ∈ wsX10, w ∈ wsX1_isNode := by decide +kernel
  have hf29 := hts (.fieldLink RX1 29 "CorebarnModel" "many" "I") (by decide +kernel)
  have hl := lv_entry ([.ref h, .int q]) (n := 2) (Nat.le_of_ble_eq_true rfl)
  rw [lg_entry_eq]
  generalize (lg_sl ([.ref h, .int q]) ++ List.replicate (2 - (lg_sl ([.ref h, .int q])).length) Slot.unset).toArray = ls at hl ⊢
  have hl : lv_has ls 2 [(0, .ref h), (1, .int q)] := hl
  refine lv_iload_n hx hb dX1_isNode_0 rfl (lv_at hl 1 rfl) ?_
  refine lv_if_lt (tgt := 16) hx hb dX1_isNode_1 (by decide) (fun h1 => ?_) (fun h1 => ?_)
  · refine lv_iconst (v := (nI 0)) hx hb dX1_isNode_16 (by decide) ?_
    exact W.zret (v := (nI 0)) (ty := .boolean) hx hb hr rfl (fun t9 ht9 hW9 => ⟨⟨(nI 0), (), rfl, (by rw [isNb_neg h1]; rfl), trivial⟩, hS.F ht9⟩) hS.2.2 dX1_isNode_17
  · refine lv_iload_n hx hb dX1_isNode_4 rfl (lv_at hl 1 rfl) ?_
    refine lv_aload_n hx hb dX1_isNode_5 rfl (lv_at hl 0 rfl) ?_
    refine va_get (D := D) (ci := 1) (v := .int (nI N)) (C := RX1) (T := TX1) (N := 10) hx hb hts hin hown hK hP 0 rfl rfl 1 (by decide) hf29 (fun _ h9 => h9) rfl dX1_isNode_6 ?_
    refine lv_icmp_ge (tgt := 16) hx hb dX1_isNode_9 (by decide) (fun h9 => ?_) (fun h9 => ?_)
    · refine lv_iconst (v := (nI 0)) hx hb dX1_isNode_16 (by decide) ?_
      exact W.zret (v := (nI 0)) (ty := .boolean) hx hb hr rfl (fun t9 ht9 hW9 => ⟨⟨(nI 0), (), rfl, (by rw [isNb_ge h9]; rfl), trivial⟩, hS.F ht9⟩) hS.2.2 dX1_isNode_17
    · refine lv_iconst (v := (nI 1)) hx hb dX1_isNode_12 (by decide) ?_
      refine lv_goto (tgt := 17) hx hb dX1_isNode_13 (by decide) ?_
      exact W.zret (v := (nI 1)) (ty := .boolean) hx hb hr rfl (fun t9 ht9 hW9 => ⟨⟨(nI 1), (), rfl, (by rw [isNb_in h1 h9]; rfl), trivial⟩, hS.F ht9⟩) hS.2.2 dX1_isNode_17

set_option maxHeartbeats 4000000 in
set_option maxRecDepth 100000 in
theorem c_X1_all (l : Launch) (D : va_G) (cy : ClassId) (h b0 b1 b2 b3 b4 : Nat) (th : Int32) (N : Nat) (ch ds de : Int32) (f cs be lf od : Nat → Int32)  : Met l yX1_all wsX1_all ({ frames := 0, cells := 0, slots := 0, locals := 0 } : Room) (va_Pc [.ref h] (zRd D (wM h b0 b1 b2 b3 b4 cy th N ch ds de f cs be lf od) [(cy, .int)])) (zPo (fun r => r = zal N)) 0 0 zNo := by
  refine Met.ofW (cc := cX1_all) (maxL := 1) (ret := (some .int)) (by decide) rfl ?_
  intro p e s m args below meth c s₁ B hml hv
  obtain ⟨rfl, hP, hK⟩ := hv
  have hx := B.exec
  have hb := B.bytes
  have hr := B.returns
  have hts := atoms_spec (ws := wsX1_all) B.pre
  have hown : s.vm.findClass RX1 = some m.cls := findClass_of_methodNamed B.named
  have hlocks := B.notSynchronized
  have hS : va_S (fun _ => False) s.heap s.heap [] := va_S.rf
  have hin : ∀ w ∈ wsX10, w ∈ wsX1_all := by decide +kernel
  have hf29 := hts (.fieldLink RX1 29 "CorebarnModel" "many" "I") (by decide +kernel)
  have hl := lv_entry ([.ref h]) (n := 1) (Nat.le_of_ble_eq_true rfl)
  rw [lg_entry_eq]
  generalize (lg_sl ([.ref h]) ++ List.replicate (1 - (lg_sl ([.ref h])).length) Slot.unset).toArray = ls at hl ⊢
  have hl : lv_has ls 1 [(0, .ref h)] := hl
  refine lv_iconst (v := (nI 1)) hx hb dX1_all_0 (by decide) ?_
  refine lv_aload_n hx hb dX1_all_1 rfl (lv_at hl 0 rfl) ?_
  refine va_get (D := D) (ci := 1) (v := .int (nI N)) (C := RX1) (T := TX1) (N := 10) hx hb hts hin hown hK hP 0 rfl rfl 1 (by decide) hf29 (fun _ h9 => h9) rfl dX1_all_2 ?_
  refine lv_ishl hx hb dX1_all_5 ?_
  refine lv_iconst (v := (nI 1)) hx hb dX1_all_6 (by decide) ?_
  refine lv_isub hx hb dX1_all_7 ?_
  exact W.iret (v := (((nI 1) <<< ((nI N) &&& 31)) - (nI 1))) hx hb hr (fun t9 ht9 hW9 => ⟨⟨(((nI 1) <<< ((nI N) &&& 31)) - (nI 1)), (), rfl, rfl, trivial⟩, hS.F ht9⟩) hS.2.2 dX1_all_8

set_option maxHeartbeats 4000000 in
set_option maxRecDepth 100000 in
theorem c_X1_coreOf (l : Launch) (D : va_G) (cy : ClassId) (h b0 b1 b2 b3 b4 : Nat) (th : Int32) (N : Nat) (ch ds de : Int32) (f cs be lf od : Nat → Int32) (k : Int32) (c0 : Nat → Nat) (hN : N ≤ 20) (hg : gd f N) (hc : ∀ v, v < N → cno f N v (c0 v)) : Met l yX1_coreOf wsX1_coreOf ({ frames := 1, cells := 0, slots := 0, locals := 22 } : Room) (va_Pc [.ref h, .int k] (zRd D (wM h b0 b1 b2 b3 b4 cy th N ch ds de f cs be lf od) [(cy, .int)])) (zPo (fun r => r = cst c0 N k.toInt)) 0 0 zNo := by
  refine Met.ofW (cc := cX1_coreOf) (maxL := 5) (ret := (some .int)) (by decide) rfl ?_
  intro p e s m args below meth c s₁ B hml hv
  obtain ⟨rfl, hP, hK⟩ := hv
  have hx := B.exec
  have hb := B.bytes
  have hr := B.returns
  have hts := atoms_spec (ws := wsX1_coreOf) B.pre
  have hown : s.vm.findClass RX1 = some m.cls := findClass_of_methodNamed B.named
  have hlocks := B.notSynchronized
  have hS : va_S (fun _ => False) s.heap s.heap [] := va_S.rf
  have hin : ∀ w ∈ wsX10, w ∈ wsX1_coreOf := by decide +kernel
  have hf7 := hts (.fieldLink RX1 7 "CorebarnModel" "near" "[I") (by decide +kernel)
  have hf29 := hts (.fieldLink RX1 29 "CorebarnModel" "many" "I") (by decide +kernel)
  have hl := lv_entry ([.ref h, .int k]) (n := 5) (Nat.le_of_ble_eq_true rfl)
  rw [lg_entry_eq]
  generalize (lg_sl ([.ref h, .int k]) ++ List.replicate (5 - (lg_sl ([.ref h, .int k])).length) Slot.unset).toArray = ls at hl ⊢
  have hl : lv_has ls 5 [(0, .ref h), (1, .int k)] := hl
  refine lv_aload_n hx hb dX1_coreOf_0 rfl (lv_at hl 0 rfl) ?_
  refine zrV (As := []) (rest := []) 0 ⟨hx, hb, hml, hown, hts⟩ (c_X1_all l D cy h b0 b1 b2 b3 b4 th N ch ds de f cs be lf od ) (cwV 0 hts gX1_coreOf_X1_all rfl rfl rfl (by decide +kernel) ⟨Nat.le_of_ble_eq_true rfl, Nat.le_of_ble_eq_true rfl⟩) hK hP rfl rfl rfl hl rfl (Nat.le_of_ble_eq_true rfl) dX1_coreOf_1 ⟨Nat.le_of_ble_eq_true rfl, Nat.le_of_ble_eq_true rfl⟩ hS (fun r1 H locs hw1 hk9 hS => ?_)
  obtain rfl : r1 = zal N := hw1
  have hP := zkeep hP hk9
  refine lv_istore_n (lv' := [(2, .int (zal N)), (0, .ref h), (1, .int k)]) hx hb dX1_coreOf_4 rfl hl (by decide) rfl (fun ls hl => ?_)
  refine lv_iconst (v := (nI 1)) hx hb dX1_coreOf_5 (by decide) ?_
  refine lv_istore_n (lv' := [(3, .int (nI 1)), (2, .int (zal N)), (0, .ref h), (1, .int k)]) hx hb dX1_coreOf_6 rfl hl (by decide) rfl (fun ls hl => ?_)
  have K7 : ∀ (fu7 : Nat) (d : Bool) (x : Int32) (t0 : Nat) (H : Heap) (locs : List Loc) (ls : Array Slot), (sO f (zal N) 0 k.toInt x d t0) → N + 2 - t0 < fu7 → va_P D vwCl (wM h b0 b1 b2 b3 b4 cy th N ch ds de f cs be lf od) H → va_S (fun _ => False) s.heap H locs → lv_has ls 5 [(3, .int (zb d)), (2, .int x), (0, .ref h), (1, .int k)] → W p l e (headSpec wsX1_coreOf ({ frames := 1, cells := 0, slots := 0, locals := 22 } : Room)).room s m ([.ref h, .int k] : List Value).toArray below meth c H locs 0 0 (MQ below (zPo (fun r => r = cst c0 N k.toInt)) ([.ref h, .int k] : List Value).toArray s 0 0 zNo) (F0 m 7 ls []) := by
    intro fu7
    induction fu7 with
    | zero =>
      intro d x t0 H locs ls hO hfu7
      exact absurd hfu7 (Nat.not_lt_zero _)
    | succ fu7 ih7 =>
      intro d x t0 H locs ls hO hfu7 hP hS hl
      have hO1 := hO.2.1; rw [pop_al hN] at hO1
      refine lv_iload_n hx hb dX1_coreOf_7 rfl (lv_at hl 0 rfl) ?_
      refine z_ifb_eq (tgt := 70) hx hb dX1_coreOf_8 (by decide) (fun h8 => ?_) (fun h8 => ?_)
      · refine lv_iload_n hx hb dX1_coreOf_70 rfl (lv_at hl 1 rfl) ?_
        exact W.iret (v := x) hx hb hr (fun t9 ht9 hW9 => ⟨⟨x, (), rfl, (kco_of hN hc (by rw [h8] at hO; exact hO)), trivial⟩, hS.F ht9⟩) hS.2.2 dX1_coreOf_71
      · refine lv_iconst (v := (nI 0)) hx hb dX1_coreOf_11 (by decide) ?_
        refine lv_istore_n (lv' := [(3, .int (nI 0)), (2, .int x), (0, .ref h), (1, .int k)]) hx hb dX1_coreOf_12 rfl hl (by decide) rfl (fun ls hl => ?_)
        refine lv_iconst (v := (nI 0)) hx hb dX1_coreOf_13 (by decide) ?_
        refine lv_istore (lv' := [(4, .int (nI 0)), (3, .int (nI 0)), (2, .int x), (0, .ref h), (1, .int k)]) hx hb dX1_coreOf_14 hl (by decide) rfl (fun ls hl => ?_)
        have K16 : ∀ (fu16 : Nat) (i : Nat) (y : Int32) (d2 : Bool) (H : Heap) (locs : List Loc) (ls : Array Slot), (i ≤ N) → (sJ f (zal N) 0 k.toInt x i y d2) → N - i < fu16 → va_P D vwCl (wM h b0 b1 b2 b3 b4 cy th N ch ds de f cs be lf od) H → va_S (fun _ => False) s.heap H locs → lv_has ls 5 [(4, .int (nI i)), (2, .int y), (3, .int (zb d2)), (0, .ref h), (1, .int k)] → W p l e (headSpec wsX1_coreOf ({ frames := 1, cells := 0, slots := 0, locals := 22 } : Room)).room s m ([.ref h, .int k] : List Value).toArray below meth c H locs 0 0 (MQ below (zPo (fun r => r = cst c0 N k.toInt)) ([.ref h, .int k] : List Value).toArray s 0 0 zNo) (F0 m 16 ls []) := by
          intro fu16
          induction fu16 with
          | zero =>
            intro i y d2 H locs ls hi hJ hfu16
            exact absurd hfu16 (Nat.not_lt_zero _)
          | succ fu16 ih16 =>
            intro i y d2 H locs ls hi hJ hfu16 hP hS hl
            refine lv_iload hx hb dX1_coreOf_16 (lv_at hl 0 rfl) ?_
            refine lv_aload_n hx hb dX1_coreOf_18 rfl (lv_at hl 3 rfl) ?_
            refine va_get (D := D) (ci := 1) (v := .int (nI N)) (C := RX1) (T := TX1) (N := 10) hx hb hts hin hown hK hP 0 rfl rfl 1 (by decide) hf29 (fun _ h9 => h9) rfl dX1_coreOf_19 ?_
            refine z_icmp_ge (tgt := 67) hx hb dX1_coreOf_22 (by decide) (by omega) (by omega) (fun h22 => ?_) (fun h22 => ?_)
            · refine lv_goto (tgt := 7) hx hb dX1_coreOf_67 (by decide) ?_
              exact ih7 d2 y (t0 + 1) _ _ _ (sO_step (sub_al hN) (by rw [h8] at hO; exact hO) (by rw [Nat.le_antisymm hi h22] at hJ; exact hJ)) (by have := hO1 h8; omega) hP hS (lv_sub hl [2, 1, 3, 4] rfl)
            · refine lv_iload_n hx hb dX1_coreOf_25 rfl (lv_at hl 1 rfl) ?_
              refine lv_iload hx hb dX1_coreOf_26 (lv_at hl 0 rfl) ?_
              refine zrS0 (As := [.int y, .int (nI i)]) (rest := []) ⟨hx, hb, hml, hown, hts⟩ (c_X1_has l y i (by omega)) (va_cwS 2 hts gX1_coreOf_X1_has rfl rfl rfl (by decide +kernel) ⟨Nat.le_of_ble_eq_true rfl, Nat.le_of_ble_eq_true rfl⟩) rfl hl rfl (Nat.le_of_ble_eq_true rfl) dX1_coreOf_28 ⟨Nat.le_of_ble_eq_true rfl, Nat.le_of_ble_eq_true rfl⟩ hS (fun r28 H locs hw28 hk9 hS => ?_)
              obtain rfl : r28 = (zb (bt y i)) := hw28
              have hP := zkeep hP hk9
              refine z_ifb_eq (tgt := 61) hx hb dX1_coreOf_31 (by decide) (fun h31 => ?_) (fun h31 => ?_)
              · refine lv_iinc (v := (nI (i + 1))) (lv' := [(4, .int (nI (i + 1))), (2, .int y), (3, .int (zb d2)), (0, .ref h), (1, .int k)]) hx hb dX1_coreOf_61 hl (k := 0) rfl (nI_1 _) (by decide) rfl (fun ls hl => ?_)
                refine lv_goto (tgt := 16) hx hb dX1_coreOf_64 (by decide) ?_
                exact ih16 (i + 1) y d2 _ _ _ (by omega) (sJ_out hJ h31) (by omega) hP hS (lv_sub hl [0, 1, 2, 3, 4] rfl)
              · refine lv_aload_n hx hb dX1_coreOf_34 rfl (lv_at hl 3 rfl) ?_
                refine va_get (D := D) (ci := 1) (v := .ref b0) (C := RX1) (T := TX1) (N := 10) hx hb hts hin hown hK hP 0 rfl rfl 2 (by decide) hf7 (fun _ h9 => h9) rfl dX1_coreOf_35 ?_
                refine lv_iload hx hb dX1_coreOf_38 (lv_at hl 0 rfl) ?_
                refine z_iald hx hb hK hP 1 0 rfl rfl (by omega) (by decide) dX1_coreOf_40 ?_
                refine lv_iload_n hx hb dX1_coreOf_41 rfl (lv_at hl 1 rfl) ?_
                refine lv_iand hx hb dX1_coreOf_42 ?_
                refine zrS0 (As := [.int ((f i) &&& y)]) (rest := []) ⟨hx, hb, hml, hown, hts⟩ (c_X1_sizeOf l ((f i) &&& y) (gd_20 hg (by omega) _)) (va_cwS 1 hts gX1_coreOf_X1_sizeOf rfl rfl rfl (by decide +kernel) ⟨Nat.le_of_ble_eq_true rfl, Nat.le_of_ble_eq_true rfl⟩) rfl hl rfl (Nat.le_of_ble_eq_true rfl) dX1_coreOf_43 ⟨Nat.le_of_ble_eq_true rfl, Nat.le_of_ble_eq_true rfl⟩ hS (fun r43 H locs hw43 hk9 hS => ?_)
                obtain rfl : r43 = (nI (zpop ((f i) &&& y))) := hw43
                have hP := zkeep hP hk9
                refine lv_iload_n hx hb dX1_coreOf_46 rfl (lv_at hl 4 rfl) ?_
                refine lv_icmp_ge (tgt := 61) hx hb dX1_coreOf_47 (by decide) (fun h47 => ?_) (fun h47 => ?_)
                · refine lv_iinc (v := (nI (i + 1))) (lv' := [(4, .int (nI (i + 1))), (2, .int y), (3, .int (zb d2)), (0, .ref h), (1, .int k)]) hx hb dX1_coreOf_61 hl (k := 0) rfl (nI_1 _) (by decide) rfl (fun ls hl => ?_)
                  refine lv_goto (tgt := 16) hx hb dX1_coreOf_64 (by decide) ?_
                  exact ih16 (i + 1) y d2 _ _ _ (by omega) (sJ_stay hJ (by rw [or_0]; exact h47)) (by omega) hP hS (lv_sub hl [0, 1, 2, 3, 4] rfl)
                · refine lv_iload_n hx hb dX1_coreOf_50 rfl (lv_at hl 1 rfl) ?_
                  refine lv_iconst (v := (nI 1)) hx hb dX1_coreOf_51 (by decide) ?_
                  refine lv_iload hx hb dX1_coreOf_52 (lv_at hl 0 rfl) ?_
                  refine lv_ishl hx hb dX1_coreOf_54 ?_
                  refine lv_iconst (v := (-1)) hx hb dX1_coreOf_55 (by decide) ?_
                  refine lv_ixor hx hb dX1_coreOf_56 ?_
                  refine lv_iand hx hb dX1_coreOf_57 ?_
                  refine lv_istore_n (lv' := [(2, .int (y &&& (((nI 1) <<< ((nI i) &&& 31)) ^^^ (-1)))), (4, .int (nI i)), (3, .int (zb d2)), (0, .ref h), (1, .int k)]) hx hb dX1_coreOf_58 rfl hl (by decide) rfl (fun ls hl => ?_)
                  refine lv_iconst (v := (nI 1)) hx hb dX1_coreOf_59 (by decide) ?_
                  refine lv_istore_n (lv' := [(3, .int (nI 1)), (2, .int (y &&& (((nI 1) <<< ((nI i) &&& 31)) ^^^ (-1)))), (4, .int (nI i)), (0, .ref h), (1, .int k)]) hx hb dX1_coreOf_60 rfl hl (by decide) rfl (fun ls hl => ?_)
                  refine lv_iinc (v := (nI (i + 1))) (lv' := [(4, .int (nI (i + 1))), (3, .int (nI 1)), (2, .int (y &&& (((nI 1) <<< ((nI i) &&& 31)) ^^^ (-1)))), (0, .ref h), (1, .int k)]) hx hb dX1_coreOf_61 hl (k := 2) rfl (nI_1 _) (by decide) rfl (fun ls hl => ?_)
                  refine lv_goto (tgt := 16) hx hb dX1_coreOf_64 (by decide) ?_
                  exact ih16 (i + 1) (y &&& (((nI 1) <<< ((nI i) &&& 31)) ^^^ (-1))) true _ _ _ (by omega) (sJ_drop hJ h31 (by rw [or_0]; exact h47)) (by omega) hP hS (lv_sub hl [0, 2, 1, 3, 4] rfl)
        exact K16 (N - 0 + 1) 0 x false _ _ _ (by omega) (sJ_0 hO) (Nat.lt_succ_self _) hP hS (lv_sub hl [0, 2, 1, 3, 4] rfl)
  exact K7 (N + 2 - 0 + 1) true (zal N) 0 _ _ _ (sO_0 f (zal N) 0 k.toInt) (Nat.lt_succ_self _) hP hS (lv_sub hl [0, 1, 2, 3] rfl)

set_option maxHeartbeats 4000000 in
set_option maxRecDepth 100000 in
theorem c_X1_edgesOf (l : Launch) (D : va_G) (cy : ClassId) (h b0 b1 b2 b3 b4 : Nat) (th : Int32) (N : Nat) (ch ds de : Int32) (f cs be lf od : Nat → Int32) (z : Int32) (hN : N ≤ 20) (hg : gd f N) : Met l yX1_edgesOf wsX1_edgesOf ({ frames := 1, cells := 0, slots := 0, locals := 22 } : Room) (va_Pc [.ref h, .int z] (zRd D (wM h b0 b1 b2 b3 b4 cy th N ch ds de f cs be lf od) [(cy, .int)])) (zPo (fun r => r = nI (ewn f N z))) 0 0 zNo := by
  refine Met.ofW (cc := cX1_edgesOf) (maxL := 4) (ret := (some .int)) (by decide) rfl ?_
  intro p e s m args below meth c s₁ B hml hv
  obtain ⟨rfl, hP, hK⟩ := hv
  have hx := B.exec
  have hb := B.bytes
  have hr := B.returns
  have hts := atoms_spec (ws := wsX1_edgesOf) B.pre
  have hown : s.vm.findClass RX1 = some m.cls := findClass_of_methodNamed B.named
  have hlocks := B.notSynchronized
  have hS : va_S (fun _ => False) s.heap s.heap [] := va_S.rf
  have hin : ∀ w ∈ wsX10, w ∈ wsX1_edgesOf := by decide +kernel
  have hf7 := hts (.fieldLink RX1 7 "CorebarnModel" "near" "[I") (by decide +kernel)
  have hf29 := hts (.fieldLink RX1 29 "CorebarnModel" "many" "I") (by decide +kernel)
  have hl := lv_entry ([.ref h, .int z]) (n := 4) (Nat.le_of_ble_eq_true rfl)
  rw [lg_entry_eq]
  generalize (lg_sl ([.ref h, .int z]) ++ List.replicate (4 - (lg_sl ([.ref h, .int z])).length) Slot.unset).toArray = ls at hl ⊢
  have hl : lv_has ls 4 [(0, .ref h), (1, .int z)] := hl
  refine lv_iconst (v := (nI 0)) hx hb dX1_edgesOf_0 (by decide) ?_
  refine lv_istore_n (lv' := [(2, .int (nI 0)), (0, .ref h), (1, .int z)]) hx hb dX1_edgesOf_1 rfl hl (by decide) rfl (fun ls hl => ?_)
  refine lv_iconst (v := (nI 0)) hx hb dX1_edgesOf_2 (by decide) ?_
  refine lv_istore_n (lv' := [(3, .int (nI 0)), (2, .int (nI 0)), (0, .ref h), (1, .int z)]) hx hb dX1_edgesOf_3 rfl hl (by decide) rfl (fun ls hl => ?_)
  have K4 : ∀ (fu4 : Nat) (i : Nat) (x : Nat) (H : Heap) (locs : List Loc) (ls : Array Slot), (i ≤ N) → (x = fb_sm (ews f z) i) → N - i < fu4 → va_P D vwCl (wM h b0 b1 b2 b3 b4 cy th N ch ds de f cs be lf od) H → va_S (fun _ => False) s.heap H locs → lv_has ls 4 [(3, .int (nI i)), (2, .int (nI x)), (0, .ref h), (1, .int z)] → W p l e (headSpec wsX1_edgesOf ({ frames := 1, cells := 0, slots := 0, locals := 22 } : Room)).room s m ([.ref h, .int z] : List Value).toArray below meth c H locs 0 0 (MQ below (zPo (fun r => r = nI (ewn f N z))) ([.ref h, .int z] : List Value).toArray s 0 0 zNo) (F0 m 4 ls []) := by
    intro fu4
    induction fu4 with
    | zero =>
      intro i x H locs ls hi hxe hfu4
      exact absurd hfu4 (Nat.not_lt_zero _)
    | succ fu4 ih4 =>
      intro i x H locs ls hi hxe hfu4 hP hS hl
      have hxb := ews_b f z i
      refine lv_iload_n hx hb dX1_edgesOf_4 rfl (lv_at hl 0 rfl) ?_
      refine lv_aload_n hx hb dX1_edgesOf_5 rfl (lv_at hl 2 rfl) ?_
      refine va_get (D := D) (ci := 1) (v := .int (nI N)) (C := RX1) (T := TX1) (N := 10) hx hb hts hin hown hK hP 0 rfl rfl 1 (by decide) hf29 (fun _ h9 => h9) rfl dX1_edgesOf_6 ?_
      refine z_icmp_ge (tgt := 44) hx hb dX1_edgesOf_9 (by decide) (by omega) (by omega) (fun h9 => ?_) (fun h9 => ?_)
      · refine lv_iload_n hx hb dX1_edgesOf_44 rfl (lv_at hl 1 rfl) ?_
        refine lv_iconst (v := (nI 2)) hx hb dX1_edgesOf_45 (by decide) ?_
        refine z_idiv hx hb dX1_edgesOf_46 (by omega) (by omega) (by omega) ?_
        exact W.iret (v := (nI (x / 2))) hx hb hr (fun t9 ht9 hW9 => ⟨⟨(nI (x / 2)), (), rfl, (by rw [hxe, Nat.le_antisymm hi h9]; rfl), trivial⟩, hS.F ht9⟩) hS.2.2 dX1_edgesOf_47
      · refine lv_iload_n hx hb dX1_edgesOf_12 rfl (lv_at hl 1 rfl) ?_
        refine lv_iload_n hx hb dX1_edgesOf_13 rfl (lv_at hl 3 rfl) ?_
        refine lv_iload_n hx hb dX1_edgesOf_14 rfl (lv_at hl 0 rfl) ?_
        refine zrS0 (As := [.int z, .int (nI i)]) (rest := [.int (nI x)]) ⟨hx, hb, hml, hown, hts⟩ (c_X1_has l z i (by omega)) (va_cwS 2 hts gX1_edgesOf_X1_has rfl rfl rfl (by decide +kernel) ⟨Nat.le_of_ble_eq_true rfl, Nat.le_of_ble_eq_true rfl⟩) rfl hl rfl (Nat.le_of_ble_eq_true rfl) dX1_edgesOf_15 ⟨Nat.le_of_ble_eq_true rfl, Nat.le_of_ble_eq_true rfl⟩ hS (fun r15 H locs hw15 hk9 hS => ?_)
        obtain rfl : r15 = (zb (bt z i)) := hw15
        have hP := zkeep hP hk9
        refine z_ifb_eq (tgt := 35) hx hb dX1_edgesOf_18 (by decide) (fun h18 => ?_) (fun h18 => ?_)
        · refine lv_iconst (v := (nI 0)) hx hb dX1_edgesOf_35 (by decide) ?_
          refine z_iadd hx hb dX1_edgesOf_36 ?_
          refine lv_istore_n (lv' := [(2, .int (nI (x + 0))), (3, .int (nI i)), (0, .ref h), (1, .int z)]) hx hb dX1_edgesOf_37 rfl hl (by decide) rfl (fun ls hl => ?_)
          refine lv_iinc (v := (nI (i + 1))) (lv' := [(3, .int (nI (i + 1))), (2, .int (nI (x + 0))), (0, .ref h), (1, .int z)]) hx hb dX1_edgesOf_38 hl (k := 1) rfl (nI_1 _) (by decide) rfl (fun ls hl => ?_)
          refine lv_goto (tgt := 4) hx hb dX1_edgesOf_41 (by decide) ?_
          exact ih4 (i + 1) (x + 0) _ _ _ (by omega) (by rw [ews_no h18]; exact hxe) (by omega) hP hS (lv_sub hl [0, 1, 2, 3] rfl)
        · refine lv_aload_n hx hb dX1_edgesOf_21 rfl (lv_at hl 2 rfl) ?_
          refine va_get (D := D) (ci := 1) (v := .ref b0) (C := RX1) (T := TX1) (N := 10) hx hb hts hin hown hK hP 0 rfl rfl 2 (by decide) hf7 (fun _ h9 => h9) rfl dX1_edgesOf_22 ?_
          refine lv_iload_n hx hb dX1_edgesOf_25 rfl (lv_at hl 0 rfl) ?_
          refine z_iald hx hb hK hP 1 0 rfl rfl (by omega) (by decide) dX1_edgesOf_26 ?_
          refine lv_iload_n hx hb dX1_edgesOf_27 rfl (lv_at hl 3 rfl) ?_
          refine lv_iand hx hb dX1_edgesOf_28 ?_
          refine zrS0 (As := [.int ((f i) &&& z)]) (rest := [.int (nI x)]) ⟨hx, hb, hml, hown, hts⟩ (c_X1_sizeOf l ((f i) &&& z) (gd_20 hg (by omega) _)) (va_cwS 1 hts gX1_edgesOf_X1_sizeOf rfl rfl rfl (by decide +kernel) ⟨Nat.le_of_ble_eq_true rfl, Nat.le_of_ble_eq_true rfl⟩) rfl hl rfl (Nat.le_of_ble_eq_true rfl) dX1_edgesOf_29 ⟨Nat.le_of_ble_eq_true rfl, Nat.le_of_ble_eq_true rfl⟩ hS (fun r29 H locs hw29 hk9 hS => ?_)
          obtain rfl : r29 = (nI (zpop ((f i) &&& z))) := hw29
          have hP := zkeep hP hk9
          refine lv_goto (tgt := 36) hx hb dX1_edgesOf_32 (by decide) ?_
          refine z_iadd hx hb dX1_edgesOf_36 ?_
          refine lv_istore_n (lv' := [(2, .int (nI (x + (zpop ((f i) &&& z))))), (3, .int (nI i)), (0, .ref h), (1, .int z)]) hx hb dX1_edgesOf_37 rfl hl (by decide) rfl (fun ls hl => ?_)
          refine lv_iinc (v := (nI (i + 1))) (lv' := [(3, .int (nI (i + 1))), (2, .int (nI (x + (zpop ((f i) &&& z))))), (0, .ref h), (1, .int z)]) hx hb dX1_edgesOf_38 hl (k := 1) rfl (nI_1 _) (by decide) rfl (fun ls hl => ?_)
          refine lv_goto (tgt := 4) hx hb dX1_edgesOf_41 (by decide) ?_
          exact ih4 (i + 1) (x + (zpop ((f i) &&& z))) _ _ _ (by omega) (by rw [ews_yes h18, hxe]) (by omega) hP hS (lv_sub hl [0, 1, 2, 3] rfl)
  exact K4 (N - 0 + 1) 0 0 _ _ _ (by omega) rfl (Nat.lt_succ_self _) hP hS (lv_sub hl [0, 1, 2, 3] rfl)

set_option maxHeartbeats 4000000 in
set_option maxRecDepth 100000 in
theorem c_X1_communityOf (l : Launch) (D : va_G) (cy : ClassId) (h b0 b1 b2 b3 b4 : Nat) (th : Int32) (N : Nat) (ch ds de : Int32) (f cs be lf od : Nat → Int32) (u : Nat) (k : Int32) (c0 : Nat → Nat) (hN : N ≤ 20) (hg : gd f N) (hc : ∀ v, v < N → cno f N v (c0 v)) (hu : u < N) : Met l yX1_communityOf wsX1_communityOf ({ frames := 2, cells := 0, slots := 0, locals := 46 } : Room) (va_Pc [.ref h, .int (nI u), .int k] (zRd D (wM h b0 b1 b2 b3 b4 cy th N ch ds de f cs be lf od) [(cy, .int)])) (zPo (fun r => r = cmp f (cst c0 N k.toInt) u)) 0 0 zNo := by
  refine Met.ofW (cc := cX1_communityOf) (maxL := 8) (ret := (some .int)) (by decide) rfl ?_
  intro p e s m args below meth c s₁ B hml hv
  obtain ⟨rfl, hP, hK⟩ := hv
  have hx := B.exec
  have hb := B.bytes
  have hr := B.returns
  have hts := atoms_spec (ws := wsX1_communityOf) B.pre
  have hown : s.vm.findClass RX1 = some m.cls := findClass_of_methodNamed B.named
  have hlocks := B.notSynchronized
  have hS : va_S (fun _ => False) s.heap s.heap [] := va_S.rf
  have hin : ∀ w ∈ wsX10, w ∈ wsX1_communityOf := by decide +kernel
  have hf7 := hts (.fieldLink RX1 7 "CorebarnModel" "near" "[I") (by decide +kernel)
  have hf29 := hts (.fieldLink RX1 29 "CorebarnModel" "many" "I") (by decide +kernel)
  have hz := cst_sub (c := c0) hN k.toInt
  have hl := lv_entry ([.ref h, .int (nI u), .int k]) (n := 8) (Nat.le_of_ble_eq_true rfl)
  rw [lg_entry_eq]
  generalize (lg_sl ([.ref h, .int (nI u), .int k]) ++ List.replicate (8 - (lg_sl ([.ref h, .int (nI u), .int k])).length) Slot.unset).toArray = ls at hl ⊢
  have hl : lv_has ls 8 [(0, .ref h), (1, .int (nI u)), (2, .int k)] := hl
  refine lv_aload_n hx hb dX1_communityOf_0 rfl (lv_at hl 0 rfl) ?_
  refine lv_iload_n hx hb dX1_communityOf_1 rfl (lv_at hl 2 rfl) ?_
  refine zrV (As := [.int k]) (rest := []) 0 ⟨hx, hb, hml, hown, hts⟩ (c_X1_coreOf l D cy h b0 b1 b2 b3 b4 th N ch ds de f cs be lf od k c0 hN hg hc) (cwV 1 hts gX1_communityOf_X1_coreOf rfl rfl rfl (by decide +kernel) ⟨Nat.le_of_ble_eq_true rfl, Nat.le_of_ble_eq_true rfl⟩) hK hP rfl rfl rfl hl rfl (Nat.le_of_ble_eq_true rfl) dX1_communityOf_2 ⟨Nat.le_of_ble_eq_true rfl, Nat.le_of_ble_eq_true rfl⟩ hS (fun r2 H locs hw2 hk9 hS => ?_)
  obtain rfl : r2 = (cst c0 N (k).toInt) := hw2
  have hP := zkeep hP hk9
  refine lv_istore_n (lv' := [(3, .int (cst c0 N (k).toInt)), (0, .ref h), (1, .int (nI u)), (2, .int k)]) hx hb dX1_communityOf_5 rfl hl (by decide) rfl (fun ls hl => ?_)
  refine lv_iload_n hx hb dX1_communityOf_6 rfl (lv_at hl 0 rfl) ?_
  refine lv_iconst (v := (nI 1)) hx hb dX1_communityOf_7 (by decide) ?_
  refine lv_iload_n hx hb dX1_communityOf_8 rfl (lv_at hl 2 rfl) ?_
  refine lv_ishl hx hb dX1_communityOf_9 ?_
  refine lv_iand hx hb dX1_communityOf_10 ?_
  refine lv_istore (lv' := [(4, .int ((cst c0 N (k).toInt) &&& ((nI 1) <<< ((nI u) &&& 31)))), (3, .int (cst c0 N (k).toInt)), (0, .ref h), (1, .int (nI u)), (2, .int k)]) hx hb dX1_communityOf_11 hl (by decide) rfl (fun ls hl => ?_)
  refine lv_iconst (v := (nI 1)) hx hb dX1_communityOf_13 (by decide) ?_
  refine lv_istore (lv' := [(5, .int (nI 1)), (4, .int ((cst c0 N (k).toInt) &&& ((nI 1) <<< ((nI u) &&& 31)))), (3, .int (cst c0 N (k).toInt)), (0, .ref h), (1, .int (nI u)), (2, .int k)]) hx hb dX1_communityOf_14 hl (by decide) rfl (fun ls hl => ?_)
  have K16 : ∀ (fu16 : Nat) (d : Bool) (x : Int32) (t0 : Nat) (H : Heap) (locs : List Loc) (ls : Array Slot), (rI f (zsg u) (cst c0 N k.toInt) x) → (d = true → t0 ≤ zpop x) → (d = false → rJ f (cst c0 N k.toInt) x N x) → N + 2 - t0 < fu16 → va_P D vwCl (wM h b0 b1 b2 b3 b4 cy th N ch ds de f cs be lf od) H → va_S (fun _ => False) s.heap H locs → lv_has ls 8 [(5, .int (zb d)), (4, .int x), (0, .ref h), (3, .int (cst c0 N (k).toInt))] → W p l e (headSpec wsX1_communityOf ({ frames := 2, cells := 0, slots := 0, locals := 46 } : Room)).room s m ([.ref h, .int (nI u), .int k] : List Value).toArray below meth c H locs 0 0 (MQ below (zPo (fun r => r = cmp f (cst c0 N k.toInt) u)) ([.ref h, .int (nI u), .int k] : List Value).toArray s 0 0 zNo) (F0 m 16 ls []) := by
    intro fu16
    induction fu16 with
    | zero =>
      intro d x t0 H locs ls hI hpop hend hfu16
      exact absurd hfu16 (Nat.not_lt_zero _)
    | succ fu16 ih16 =>
      intro d x t0 H locs ls hI hpop hend hfu16 hP hS hl
      refine lv_iload hx hb dX1_communityOf_16 (lv_at hl 0 rfl) ?_
      refine z_ifb_eq (tgt := 92) hx hb dX1_communityOf_18 (by decide) (fun h18 => ?_) (fun h18 => ?_)
      · refine lv_iload hx hb dX1_communityOf_92 (lv_at hl 1 rfl) ?_
        exact W.iret (v := x) hx hb hr (fun t9 ht9 hW9 => ⟨⟨x, (), rfl, (cmp_of (rI_end hz hI (hend h18))), trivial⟩, hS.F ht9⟩) hS.2.2 dX1_communityOf_94
      · refine lv_iload hx hb dX1_communityOf_21 (lv_at hl 1 rfl) ?_
        refine lv_istore (lv' := [(6, .int x), (5, .int (zb d)), (4, .int x), (0, .ref h), (3, .int (cst c0 N (k).toInt))]) hx hb dX1_communityOf_23 hl (by decide) rfl (fun ls hl => ?_)
        refine lv_iconst (v := (nI 0)) hx hb dX1_communityOf_25 (by decide) ?_
        refine lv_istore (lv' := [(7, .int (nI 0)), (6, .int x), (5, .int (zb d)), (4, .int x), (0, .ref h), (3, .int (cst c0 N (k).toInt))]) hx hb dX1_communityOf_26 hl (by decide) rfl (fun ls hl => ?_)
        have K28 : ∀ (fu28 : Nat) (i : Nat) (y : Int32) (H : Heap) (locs : List Loc) (ls : Array Slot), (i ≤ N) → (rJ f (cst c0 N k.toInt) x i y) → N - i < fu28 → va_P D vwCl (wM h b0 b1 b2 b3 b4 cy th N ch ds de f cs be lf od) H → va_S (fun _ => False) s.heap H locs → lv_has ls 8 [(7, .int (nI i)), (6, .int y), (0, .ref h), (3, .int (cst c0 N (k).toInt)), (4, .int x)] → W p l e (headSpec wsX1_communityOf ({ frames := 2, cells := 0, slots := 0, locals := 46 } : Room)).room s m ([.ref h, .int (nI u), .int k] : List Value).toArray below meth c H locs 0 0 (MQ below (zPo (fun r => r = cmp f (cst c0 N k.toInt) u)) ([.ref h, .int (nI u), .int k] : List Value).toArray s 0 0 zNo) (F0 m 28 ls []) := by
          intro fu28
          induction fu28 with
          | zero =>
            intro i y H locs ls hi hJ hfu28
            exact absurd hfu28 (Nat.not_lt_zero _)
          | succ fu28 ih28 =>
            intro i y H locs ls hi hJ hfu28 hP hS hl
            refine lv_iload hx hb dX1_communityOf_28 (lv_at hl 0 rfl) ?_
            refine lv_aload_n hx hb dX1_communityOf_30 rfl (lv_at hl 2 rfl) ?_
            refine va_get (D := D) (ci := 1) (v := .int (nI N)) (C := RX1) (T := TX1) (N := 10) hx hb hts hin hown hK hP 0 rfl rfl 1 (by decide) hf29 (fun _ h9 => h9) rfl dX1_communityOf_31 ?_
            refine z_icmp_ge (tgt := 71) hx hb dX1_communityOf_34 (by decide) (by omega) (by omega) (fun h34 => ?_) (fun h34 => ?_)
            · refine lv_iload hx hb dX1_communityOf_71 (lv_at hl 1 rfl) ?_
              refine lv_iload hx hb dX1_communityOf_73 (lv_at hl 4 rfl) ?_
              refine lv_icmp_eq (tgt := 82) hx hb dX1_communityOf_75 (by decide) (fun h75 => ?_) (fun h75 => ?_)
              · refine lv_iconst (v := (nI 0)) hx hb dX1_communityOf_82 (by decide) ?_
                refine lv_istore (lv' := [(5, .int (nI 0)), (7, .int (nI i)), (6, .int y), (0, .ref h), (3, .int (cst c0 N (k).toInt)), (4, .int x)]) hx hb dX1_communityOf_83 hl (by decide) rfl (fun ls hl => ?_)
                refine lv_iload hx hb dX1_communityOf_85 (lv_at hl 2 rfl) ?_
                refine lv_istore (lv' := [(4, .int y), (5, .int (nI 0)), (7, .int (nI i)), (6, .int y), (0, .ref h), (3, .int (cst c0 N (k).toInt))]) hx hb dX1_communityOf_87 hl (by decide) rfl (fun ls hl => ?_)
                refine lv_goto (tgt := 16) hx hb dX1_communityOf_89 (by decide) ?_
                exact ih16 false y (t0 + 1) _ _ _ (rI_step hI (Nat.le_antisymm hi h34 ▸ hJ)) (fun q => by cases q) (fun _ => by rw [Nat.le_antisymm hi h34, h75] at hJ; rw [h75]; exact hJ) (by have := hpop h18; have := pop_N hN (sub_le hI.1 hz); omega) hP hS (lv_sub hl [1, 0, 4, 5] rfl)
              · refine lv_iconst (v := (nI 1)) hx hb dX1_communityOf_78 (by decide) ?_
                refine lv_goto (tgt := 83) hx hb dX1_communityOf_79 (by decide) ?_
                refine lv_istore (lv' := [(5, .int (nI 1)), (7, .int (nI i)), (6, .int y), (0, .ref h), (3, .int (cst c0 N (k).toInt)), (4, .int x)]) hx hb dX1_communityOf_83 hl (by decide) rfl (fun ls hl => ?_)
                refine lv_iload hx hb dX1_communityOf_85 (lv_at hl 2 rfl) ?_
                refine lv_istore (lv' := [(4, .int y), (5, .int (nI 1)), (7, .int (nI i)), (6, .int y), (0, .ref h), (3, .int (cst c0 N (k).toInt))]) hx hb dX1_communityOf_87 hl (by decide) rfl (fun ls hl => ?_)
                refine lv_goto (tgt := 16) hx hb dX1_communityOf_89 (by decide) ?_
                exact ih16 true y (t0 + 1) _ _ _ (rI_step hI (Nat.le_antisymm hi h34 ▸ hJ)) (fun _ => by have := hpop h18; have := rI_grow hJ h75; omega) (fun q => by cases q) (by have := hpop h18; have := pop_N hN (sub_le hI.1 hz); omega) hP hS (lv_sub hl [1, 0, 4, 5] rfl)
            · refine lv_iload hx hb dX1_communityOf_37 (lv_at hl 1 rfl) ?_
              refine lv_iload hx hb dX1_communityOf_39 (lv_at hl 4 rfl) ?_
              refine lv_iload hx hb dX1_communityOf_41 (lv_at hl 0 rfl) ?_
              refine zrS0 (As := [.int x, .int (nI i)]) (rest := [.int y]) ⟨hx, hb, hml, hown, hts⟩ (c_X1_has l x i (by omega)) (va_cwS 2 hts gX1_communityOf_X1_has rfl rfl rfl (by decide +kernel) ⟨Nat.le_of_ble_eq_true rfl, Nat.le_of_ble_eq_true rfl⟩) rfl hl rfl (Nat.le_of_ble_eq_true rfl) dX1_communityOf_43 ⟨Nat.le_of_ble_eq_true rfl, Nat.le_of_ble_eq_true rfl⟩ hS (fun r43 H locs hw43 hk9 hS => ?_)
              obtain rfl : r43 = (zb (bt x i)) := hw43
              have hP := zkeep hP hk9
              refine z_ifb_eq (tgt := 61) hx hb dX1_communityOf_46 (by decide) (fun h46 => ?_) (fun h46 => ?_)
              · refine lv_iconst (v := (nI 0)) hx hb dX1_communityOf_61 (by decide) ?_
                refine lv_ior hx hb dX1_communityOf_62 ?_
                refine lv_istore (lv' := [(6, .int (y ||| (nI 0))), (7, .int (nI i)), (0, .ref h), (3, .int (cst c0 N (k).toInt)), (4, .int x)]) hx hb dX1_communityOf_63 hl (by decide) rfl (fun ls hl => ?_)
                refine lv_iinc (v := (nI (i + 1))) (lv' := [(7, .int (nI (i + 1))), (6, .int (y ||| (nI 0))), (0, .ref h), (3, .int (cst c0 N (k).toInt)), (4, .int x)]) hx hb dX1_communityOf_65 hl (k := 1) rfl (nI_1 _) (by decide) rfl (fun ls hl => ?_)
                refine lv_goto (tgt := 28) hx hb dX1_communityOf_68 (by decide) ?_
                exact ih28 (i + 1) (y ||| (nI 0)) _ _ _ (by omega) (by rw [show (nI 0 : Int32) = 0 from nI_0, or_0]; exact rJ_no h46 hJ) (by omega) hP hS (lv_sub hl [0, 1, 2, 3, 4] rfl)
              · refine lv_aload_n hx hb dX1_communityOf_49 rfl (lv_at hl 2 rfl) ?_
                refine va_get (D := D) (ci := 1) (v := .ref b0) (C := RX1) (T := TX1) (N := 10) hx hb hts hin hown hK hP 0 rfl rfl 2 (by decide) hf7 (fun _ h9 => h9) rfl dX1_communityOf_50 ?_
                refine lv_iload hx hb dX1_communityOf_53 (lv_at hl 0 rfl) ?_
                refine z_iald hx hb hK hP 1 0 rfl rfl (by omega) (by decide) dX1_communityOf_55 ?_
                refine lv_iload_n hx hb dX1_communityOf_56 rfl (lv_at hl 3 rfl) ?_
                refine lv_iand hx hb dX1_communityOf_57 ?_
                refine lv_goto (tgt := 62) hx hb dX1_communityOf_58 (by decide) ?_
                refine lv_ior hx hb dX1_communityOf_62 ?_
                refine lv_istore (lv' := [(6, .int (y ||| ((f i) &&& (cst c0 N (k).toInt)))), (7, .int (nI i)), (0, .ref h), (3, .int (cst c0 N (k).toInt)), (4, .int x)]) hx hb dX1_communityOf_63 hl (by decide) rfl (fun ls hl => ?_)
                refine lv_iinc (v := (nI (i + 1))) (lv' := [(7, .int (nI (i + 1))), (6, .int (y ||| ((f i) &&& (cst c0 N (k).toInt)))), (0, .ref h), (3, .int (cst c0 N (k).toInt)), (4, .int x)]) hx hb dX1_communityOf_65 hl (k := 1) rfl (nI_1 _) (by decide) rfl (fun ls hl => ?_)
                refine lv_goto (tgt := 28) hx hb dX1_communityOf_68 (by decide) ?_
                exact ih28 (i + 1) (y ||| ((f i) &&& (cst c0 N (k).toInt))) _ _ _ (by omega) (rJ_yes h46 hJ) (by omega) hP hS (lv_sub hl [0, 1, 2, 3, 4] rfl)
        exact K28 (N - 0 + 1) 0 x _ _ _ (by omega) (rJ_0 f _ x) (Nat.lt_succ_self _) hP hS (lv_sub hl [0, 1, 4, 5, 3] rfl)
  exact K16 (N + 2 - 0 + 1) true ((cst c0 N (k).toInt) &&& ((nI 1) <<< ((nI u) &&& 31))) 0 _ _ _ (by rw [and_c]; exact rI_0 f (zsg u) _) (fun _ => Nat.zero_le _) (fun q => by cases q) (Nat.lt_succ_self _) hP hS (lv_sub hl [0, 1, 3, 2] rfl)

set_option maxHeartbeats 4000000 in
set_option maxRecDepth 100000 in
theorem c_X1_isLowest (l : Launch) (D : va_G) (cy : ClassId) (h b0 b1 b2 b3 b4 : Nat) (th : Int32) (N : Nat) (ch ds de : Int32) (f cs be lf od : Nat → Int32) (x : Int32) (v : Nat) (hv : v < 20) : Met l yX1_isLowest wsX1_isLowest ({ frames := 1, cells := 0, slots := 0, locals := 21 } : Room) (va_Pc [.ref h, .int x, .int (nI v)] (zRd D (wM h b0 b1 b2 b3 b4 cy th N ch ds de f cs be lf od) [(cy, .int)])) (zPo (fun r => r = zb (low x v))) 0 0 zNo := by
  refine Met.ofW (cc := cX1_isLowest) (maxL := 3) (ret := (some .boolean)) (by decide) rfl ?_
  intro p e s m args below meth c s₁ B hml hv
  obtain ⟨rfl, hP, hK⟩ := hv
  have hx := B.exec
  have hb := B.bytes
  have hr := B.returns
  have hts := atoms_spec (ws := wsX1_isLowest) B.pre
  have hown : s.vm.findClass RX1 = some m.cls := findClass_of_methodNamed B.named
  have hlocks := B.notSynchronized
  have hS : va_S (fun _ => False) s.heap s.heap [] := va_S.rf
  have hl := lv_entry ([.ref h, .int x, .int (nI v)]) (n := 3) (Nat.le_of_ble_eq_true rfl)
  rw [lg_entry_eq]
  generalize (lg_sl ([.ref h, .int x, .int (nI v)]) ++ List.replicate (3 - (lg_sl ([.ref h, .int x, .int (nI v)])).length) Slot.unset).toArray = ls at hl ⊢
  have hl : lv_has ls 3 [(0, .ref h), (1, .int x), (2, .int (nI v))] := hl
  refine lv_iload_n hx hb dX1_isLowest_0 rfl (lv_at hl 1 rfl) ?_
  refine lv_iload_n hx hb dX1_isLowest_1 rfl (lv_at hl 2 rfl) ?_
  refine zrS0 (As := [.int x, .int (nI v)]) (rest := []) ⟨hx, hb, hml, hown, hts⟩ (c_X1_has l x v (by omega)) (va_cwS 2 hts gX1_isLowest_X1_has rfl rfl rfl (by decide +kernel) ⟨Nat.le_of_ble_eq_true rfl, Nat.le_of_ble_eq_true rfl⟩) rfl hl rfl (Nat.le_of_ble_eq_true rfl) dX1_isLowest_2 ⟨Nat.le_of_ble_eq_true rfl, Nat.le_of_ble_eq_true rfl⟩ hS (fun r2 H locs hw2 hk9 hS => ?_)
  obtain rfl : r2 = (zb (bt x v)) := hw2
  have hP := zkeep hP hk9
  refine z_ifb_eq (tgt := 22) hx hb dX1_isLowest_5 (by decide) (fun h5 => ?_) (fun h5 => ?_)
  · refine lv_iconst (v := (nI 0)) hx hb dX1_isLowest_22 (by decide) ?_
    exact W.zret (v := (nI 0)) (ty := .boolean) hx hb hr rfl (fun t9 ht9 hW9 => ⟨⟨(nI 0), (), rfl, (by unfold low; rw [h5]; rfl), trivial⟩, hS.F ht9⟩) hS.2.2 dX1_isLowest_23
  · refine lv_iload_n hx hb dX1_isLowest_8 rfl (lv_at hl 1 rfl) ?_
    refine lv_iconst (v := (nI 1)) hx hb dX1_isLowest_9 (by decide) ?_
    refine lv_iload_n hx hb dX1_isLowest_10 rfl (lv_at hl 2 rfl) ?_
    refine lv_ishl hx hb dX1_isLowest_11 ?_
    refine lv_iconst (v := (nI 1)) hx hb dX1_isLowest_12 (by decide) ?_
    refine lv_isub hx hb dX1_isLowest_13 ?_
    refine lv_iand hx hb dX1_isLowest_14 ?_
    refine lv_if_ne (tgt := 22) hx hb dX1_isLowest_15 (by decide) (fun h15 => ?_) (fun h15 => ?_)
    · refine lv_iconst (v := (nI 0)) hx hb dX1_isLowest_22 (by decide) ?_
      exact W.zret (v := (nI 0)) (ty := .boolean) hx hb hr rfl (fun t9 ht9 hW9 => ⟨⟨(nI 0), (), rfl, (by unfold low; rw [decide_eq_false (show ¬ x &&& zal v = 0 from h15), Bool.and_false]; rfl), trivial⟩, hS.F ht9⟩) hS.2.2 dX1_isLowest_23
    · refine lv_iconst (v := (nI 1)) hx hb dX1_isLowest_18 (by decide) ?_
      refine lv_goto (tgt := 23) hx hb dX1_isLowest_19 (by decide) ?_
      exact W.zret (v := (nI 1)) (ty := .boolean) hx hb hr rfl (fun t9 ht9 hW9 => ⟨⟨(nI 1), (), rfl, (by unfold low; rw [h5, decide_eq_true (show x &&& zal v = 0 from h15)]; rfl), trivial⟩, hS.F ht9⟩) hS.2.2 dX1_isLowest_23
