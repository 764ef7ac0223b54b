section ZL
variable {p : Program} {l : Launch} {e : Env} {R : Room} {s : State} {m : MethodId} {args : Array Value} {below : List Frame} {meth : Method} {c : Code} {H : Heap} {locs : List Loc} {cells slots : Nat} {Q : State → Prop}
variable {cc : ByteArray} {pc : Nat} {ls : Array Slot} {rest : List Value}
theorem z_dcmp (hexec : p.tables.exec = Jvm.exec) (hb : c.code = cc) {x : UInt64} {op : CmpOp} (he : FP.dcmp x x = some .eq) (hdg : decode cc pc = .ok (.dcmp op, 1))
    (kk : W p l e R s m args below meth c H locs cells slots Q (F0 m (pc + 1) ls (.int (nI 0) :: rest))) : W p l e R s m args below meth c H locs cells slots Q (F0 m pc ls (.double x :: .double x :: rest)) :=
  lv_dcmp hexec hb hdg (by rw [he]; exact kk)
end ZL
/-! ===== the law's small methods ===== -/
set_option maxHeartbeats 4000000 in
theorem c_L_low (l : Launch) (v n : Int32) (hn : ¬ n = 0) : Met l yL_low wsL_low ({ frames := 0, cells := 0, slots := 0, locals := 0 } : Room) (va_Pc [.int v, .int n] (fun _ => True)) (zPo (fun r => r = (v &&& 2147483647) - (v &&& 2147483647) / n * n)) 0 0 zNo := by
  refine Met.ofW (cc := cL_low) (maxL := 2) (ret := (some .int)) (by decide) rfl ?_
  intro p e s m args below meth c s₁ B hml hv
  obtain ⟨rfl, -⟩ := hv
  have hx := B.exec
  have hb := B.bytes
  have hr := B.returns
  have hts := atoms_spec (ws := wsL_low) B.pre
  have hown : s.vm.findClass RL = some m.cls := findClass_of_methodNamed B.named
  have hlocks := B.notSynchronized
  have hS : va_S (fun _ => False) s.heap s.heap [] := va_S.rf
  have hl := lv_entry ([.int v, .int n]) (n := 2) (Nat.le_of_ble_eq_true rfl)
  rw [lg_entry_eq]
  generalize (lg_sl ([.int v, .int n]) ++ List.replicate (2 - (lg_sl ([.int v, .int n])).length) Slot.unset).toArray = ls at hl ⊢
  have hl : lv_has ls 2 [(0, .int v), (1, .int n)] := hl
  refine lv_iload_n hx hb dL_low_0 rfl (lv_at hl 0 rfl) ?_
  refine lv_ldc hx hb hown (hts (.constant RL 7 (2147483647)) (by decide +kernel)) dL_low_1 ?_
  refine lv_iand hx hb dL_low_3 ?_
  refine lv_iload_n hx hb dL_low_4 rfl (lv_at hl 1 rfl) ?_
  refine lv_irem hx hb dL_low_5 hn ?_
  exact W.iret hx hb hr (fun t9 ht9 hW9 => ⟨⟨_, (), rfl, rfl, trivial⟩, hS.F ht9⟩) hS.2.2 dL_low_6

set_option maxHeartbeats 4000000 in
set_option maxRecDepth 100000 in
theorem w_together_none (l : Launch) (hfl : l.stackTraces = false) (D : va_G) (cy : ClassId) (h a0 a1 a2 N : Nat) (tr : Nat → Int32) (sz : Nat) (u v : Nat) (hN : N ≤ 20) (hu : u < N) (hv : v < N) (huv : u ≠ v) : vx_Met l yL_together wsL_together ({ frames := 8, cells := 1, slots := 6, locals := 126 } : Room) (va_Pc [.ref h, .int (nI u), .int (nI v)] (kRd D (wZ h a0 a1 a2 cy N tr) [(cy, .int)] sz)) (kPo (-1) sz 1) zXn 1 6 zNo := by
  refine vx_ofWH (cc := cL_together) (maxL := 4) (ret := (some .int)) (by decide) rfl ?_
  intro p e s m args below meth c s₁ B hml hv
  obtain ⟨rfl, ⟨⟨hP, hK⟩, hsz⟩, hT⟩ := hv
  have hx := B.exec
  have hb := B.bytes
  have hr := B.returns
  have hts := atoms_spec (ws := wsL_together) B.pre
  have hown : s.vm.findClass RL = some m.cls := findClass_of_methodNamed B.named
  have hlocks := B.notSynchronized
  subst hsz
  have hS : va_S (fun _ => False) s.heap s.heap [] := va_S.rf
  have htb := vx_table (x := yL_together) B (hts (.codeWith yL_together cL_together 4 (some .int) [(0, 6, 7, 21), (0, 6, 11, 28)]) (by decide +kernel))
  have hl := lv_entry ([.ref h, .int (nI u), .int (nI v)]) (n := 4) (Nat.le_of_ble_eq_true rfl)
  rw [lg_entry_eq]
  generalize (lg_sl ([.ref h, .int (nI u), .int (nI v)]) ++ List.replicate (4 - (lg_sl ([.ref h, .int (nI u), .int (nI v)])).length) Slot.unset).toArray = ls at hl ⊢
  have hl : lv_has ls 4 [(0, .ref h), (1, .int (nI u)), (2, .int (nI v))] := hl
  refine lv_aload_n hx hb dL_together_0 rfl (lv_at hl 0 rfl) ?_
  refine lv_iload_n hx hb dL_together_1 rfl (lv_at hl 1 rfl) ?_
  refine lv_iload_n hx hb dL_together_2 rfl (lv_at hl 2 rfl) ?_
  refine vx_calli (vx_runV (As := [.int (nI u), .int (nI v)]) (rest := []) ⟨hx, hb, hml, hown, hts⟩ (c_X0_together_none2 l hfl D cy h a0 a1 a2 N (nI 0) (nI 0) zf zf tr _ u v z0 hN hu hv (zcs N) (ztg_none hN hu huv)) (cwV 2 hts gL_together_X0_together rfl rfl rfl (by decide +kernel) ⟨Nat.le_of_ble_eq_true rfl, Nat.le_of_ble_eq_true rfl⟩) ⟨fun a U g mk q => ⟨q.1, ⟨⟨q.2.1.1.1, va_K.moved (u := U) (U := U.calling g mk a) (Vm.Alike.refl U.vm) q.2.1.1.2⟩, q.2.1.2⟩, q.2.2.same rfl rfl⟩, va_recv hK hP (ci := 0) (q0 := 0) rfl rfl, fun U hU hW => ⟨rfl, ⟨⟨by rw [hU]; exact hP, va_K.moved hW.alike hK⟩, by rw [hU]⟩, hT.move hW ⟨by rw [hU]; exact Nat.le_refl _, fun q _ => by rw [hU]⟩⟩⟩ rfl rfl hl.1 rfl (lv_room (Nat.le_of_ble_eq_true rfl)) dL_together_3 ⟨Nat.le_of_ble_eq_true rfl, Nat.le_of_ble_eq_true rfl⟩) hS (fun _ _ h => h.elim) (fun _ h => h.elim) (fun _ _ h => h.elim) (fun E2 ce q9 u9 t9 H locs ht9 hvm9 hp9 hB hz hk hS hce hcv hcl => ?_) (fun r u t H1 locs1 ht hvm hw hB hz hk hS1 => hw.elim)
  obtain ⟨rfl, hg9⟩ : E2 = nNSE ∧ s.heap.size + 1 ≤ t9.heap.size := hB
  rw [ht9] at hg9
  refine vx_catch (name := nNSE) hown [⟨0, 6, 7, 21⟩] ⟨0, 6, 11, 28⟩ [] (htb.trans rfl) (List.forall_mem_cons.mpr ⟨Or.inr ⟨by decide, nIOB, hts (.classLink RL 21 nIOB) (by decide +kernel), hT.2.2.1 nNSE (by simp) nIOB (by simp) (by decide)⟩, (fun _ h => absurd h List.not_mem_nil)⟩) (by decide) (by decide) (hts (.classLink RL 28 nNSE) (by decide +kernel)) (va_Nw.use rfl (hT.2.1 nNSE (by simp))) hce hcv hcl ?_
  refine lv_astore_n (lv' := [(3, .ref q9), (0, .ref h), (1, .int (nI u)), (2, .int (nI v))]) hx hb dL_together_11 rfl hl (by decide) rfl (fun ls hl => ?_)
  refine lv_iconst (v := (-1)) hx hb dL_together_12 (by decide) ?_
  refine vx_ret ?_
  exact W.iret (v := (-1)) hx hb hr (fun t9 ht9 hW9 => ⟨⟨(-1), (), rfl, rfl, by show s.heap.size + 1 ≤ t9.heap.size; rw [ht9]; exact hg9⟩, hS.F ht9⟩) hS.2.2 dL_together_13

set_option maxHeartbeats 4000000 in
set_option maxRecDepth 100000 in
theorem w_truss_none (l : Launch) (hfl : l.stackTraces = false) (D : va_G) (cy : ClassId) (h a0 a1 a2 N : Nat) (tr : Nat → Int32) (sz : Nat) (u v : Nat) (hN : N ≤ 20) (hu : u < N) (hv : v < N) : vx_Met l yL_truss wsL_truss ({ frames := 8, cells := 1, slots := 6, locals := 128 } : Room) (va_Pc [.ref h, .int (nI u), .int (nI v)] (kRd D (wZ h a0 a1 a2 cy N tr) [(cy, .int)] sz)) (kPo (-1) sz 1) zXn 1 6 zNo := by
  refine vx_ofWH (cc := cL_truss) (maxL := 4) (ret := (some .int)) (by decide) rfl ?_
  intro p e s m args below meth c s₁ B hml hv
  obtain ⟨rfl, ⟨⟨hP, hK⟩, hsz⟩, hT⟩ := hv
  have hx := B.exec
  have hb := B.bytes
  have hr := B.returns
  have hts := atoms_spec (ws := wsL_truss) B.pre
  have hown : s.vm.findClass RL = some m.cls := findClass_of_methodNamed B.named
  have hlocks := B.notSynchronized
  subst hsz
  have hS : va_S (fun _ => False) s.heap s.heap [] := va_S.rf
  have htb := vx_table (x := yL_truss) B (hts (.codeWith yL_truss cL_truss 4 (some .int) [(0, 6, 7, 21), (0, 6, 11, 28)]) (by decide +kernel))
  have hl := lv_entry ([.ref h, .int (nI u), .int (nI v)]) (n := 4) (Nat.le_of_ble_eq_true rfl)
  rw [lg_entry_eq]
  generalize (lg_sl ([.ref h, .int (nI u), .int (nI v)]) ++ List.replicate (4 - (lg_sl ([.ref h, .int (nI u), .int (nI v)])).length) Slot.unset).toArray = ls at hl ⊢
  have hl : lv_has ls 4 [(0, .ref h), (1, .int (nI u)), (2, .int (nI v))] := hl
  refine lv_aload_n hx hb dL_truss_0 rfl (lv_at hl 0 rfl) ?_
  refine lv_iload_n hx hb dL_truss_1 rfl (lv_at hl 1 rfl) ?_
  refine lv_iload_n hx hb dL_truss_2 rfl (lv_at hl 2 rfl) ?_
  refine vx_calli (vx_runV (As := [.int (nI u), .int (nI v)]) (rest := []) ⟨hx, hb, hml, hown, hts⟩ (c_X0_truss_none2 l hfl D cy h a0 a1 a2 N (nI 0) (nI 0) zf zf tr _ u v hN hu hv (zf_b u v)) (cwV 2 hts gL_truss_X0_truss rfl rfl rfl (by decide +kernel) ⟨Nat.le_of_ble_eq_true rfl, Nat.le_of_ble_eq_true rfl⟩) ⟨fun a U g mk q => ⟨q.1, ⟨⟨q.2.1.1.1, va_K.moved (u := U) (U := U.calling g mk a) (Vm.Alike.refl U.vm) q.2.1.1.2⟩, q.2.1.2⟩, q.2.2.same rfl rfl⟩, va_recv hK hP (ci := 0) (q0 := 0) rfl rfl, fun U hU hW => ⟨rfl, ⟨⟨by rw [hU]; exact hP, va_K.moved hW.alike hK⟩, by rw [hU]⟩, hT.move hW ⟨by rw [hU]; exact Nat.le_refl _, fun q _ => by rw [hU]⟩⟩⟩ rfl rfl hl.1 rfl (lv_room (Nat.le_of_ble_eq_true rfl)) dL_truss_3 ⟨Nat.le_of_ble_eq_true rfl, Nat.le_of_ble_eq_true rfl⟩) hS (fun _ _ h => h.elim) (fun _ h => h.elim) (fun _ _ h => h.elim) (fun E2 ce q9 u9 t9 H locs ht9 hvm9 hp9 hB hz hk hS hce hcv hcl => ?_) (fun r u t H1 locs1 ht hvm hw hB hz hk hS1 => hw.elim)
  obtain ⟨rfl, hg9⟩ : E2 = nNSE ∧ s.heap.size + 1 ≤ t9.heap.size := hB
  rw [ht9] at hg9
  refine vx_catch (name := nNSE) hown [⟨0, 6, 7, 21⟩] ⟨0, 6, 11, 28⟩ [] (htb.trans rfl) (List.forall_mem_cons.mpr ⟨Or.inr ⟨by decide, nIOB, hts (.classLink RL 21 nIOB) (by decide +kernel), hT.2.2.1 nNSE (by simp) nIOB (by simp) (by decide)⟩, (fun _ h => absurd h List.not_mem_nil)⟩) (by decide) (by decide) (hts (.classLink RL 28 nNSE) (by decide +kernel)) (va_Nw.use rfl (hT.2.1 nNSE (by simp))) hce hcv hcl ?_
  refine lv_astore_n (lv' := [(3, .ref q9), (0, .ref h), (1, .int (nI u)), (2, .int (nI v))]) hx hb dL_truss_11 rfl hl (by decide) rfl (fun ls hl => ?_)
  refine lv_iconst (v := (-1)) hx hb dL_truss_12 (by decide) ?_
  refine vx_ret ?_
  exact W.iret (v := (-1)) hx hb hr (fun t9 ht9 hW9 => ⟨⟨(-1), (), rfl, rfl, by show s.heap.size + 1 ≤ t9.heap.size; rw [ht9]; exact hg9⟩, hS.F ht9⟩) hS.2.2 dL_truss_13

set_option maxHeartbeats 4000000 in
set_option maxRecDepth 100000 in
theorem w_join_same (l : Launch) (hfl : l.stackTraces = false) (D : va_G) (cy : ClassId) (h a0 a1 a2 N : Nat) (tr : Nat → Int32) (sz : Nat) (u : Nat) (hN : N ≤ 20) (hu : u < N) : vx_Met l yL_join wsL_join ({ frames := 9, cells := 1, slots := 6, locals := 154 } : Room) (va_Pc [.ref h, .int (nI u), .int (nI u)] (kRd D (wZ h a0 a1 a2 cy N tr) [(cy, .int)] sz)) (kPo (-99999) sz 0) zXn 1 6 zNo := by
  refine vx_ofWH (cc := cL_join) (maxL := 4) (ret := (some .int)) (by decide) rfl ?_
  intro p e s m args below meth c s₁ B hml hv
  obtain ⟨rfl, ⟨⟨hP, hK⟩, hsz⟩, hT⟩ := hv
  have hx := B.exec
  have hb := B.bytes
  have hr := B.returns
  have hts := atoms_spec (ws := wsL_join) B.pre
  have hown : s.vm.findClass RL = some m.cls := findClass_of_methodNamed B.named
  have hlocks := B.notSynchronized
  subst hsz
  have hS : va_S (fun _ => False) s.heap s.heap [] := va_S.rf
  have htb := vx_table (x := yL_join) B (hts (.codeWith yL_join cL_join 4 (some .int) [(0, 6, 7, 21), (0, 6, 11, 23), (0, 6, 15, 14)]) (by decide +kernel))
  have hl := lv_entry ([.ref h, .int (nI u), .int (nI u)]) (n := 4) (Nat.le_of_ble_eq_true rfl)
  rw [lg_entry_eq]
  generalize (lg_sl ([.ref h, .int (nI u), .int (nI u)]) ++ List.replicate (4 - (lg_sl ([.ref h, .int (nI u), .int (nI u)])).length) Slot.unset).toArray = ls at hl ⊢
  have hl : lv_has ls 4 [(0, .ref h), (1, .int (nI u)), (2, .int (nI u))] := hl
  refine lv_aload_n hx hb dL_join_0 rfl (lv_at hl 0 rfl) ?_
  refine lv_iload_n hx hb dL_join_1 rfl (lv_at hl 1 rfl) ?_
  refine lv_iload_n hx hb dL_join_2 rfl (lv_at hl 2 rfl) ?_
  refine vx_calli (vx_runV (As := [.int (nI u), .int (nI u)]) (rest := []) ⟨hx, hb, hml, hown, hts⟩ (c_X0_join_same l hfl D cy h a0 a1 a2 N (nI 0) (nI 0) zf zf tr u hN hu) (cwV 2 hts gL_join_X0_join rfl rfl rfl (by decide +kernel) ⟨Nat.le_of_ble_eq_true rfl, Nat.le_of_ble_eq_true rfl⟩) ⟨fun a U g mk q => ⟨q.1, ⟨q.2.1.1, va_K.moved (u := U) (U := U.calling g mk a) (Vm.Alike.refl U.vm) q.2.1.2⟩, q.2.2.same rfl rfl⟩, va_recv hK hP (ci := 0) (q0 := 0) rfl rfl, fun U hU hW => ⟨rfl, ⟨by rw [hU]; exact hP, va_K.moved hW.alike hK⟩, hT.move hW ⟨by rw [hU]; exact Nat.le_refl _, fun q _ => by rw [hU]⟩⟩⟩ rfl rfl hl.1 rfl (lv_room (Nat.le_of_ble_eq_true rfl)) dL_join_3 ⟨Nat.le_of_ble_eq_true rfl, Nat.le_of_ble_eq_true rfl⟩) hS (fun _ _ h => h.elim) (fun _ h => h.elim) (fun _ _ h => h.elim) (fun E2 ce q9 u9 t9 H locs ht9 hvm9 hp9 hB hz hk hS hce hcv hcl => ?_) (fun r u t H1 locs1 ht hvm hw hB hz hk hS1 => hw.elim)
  obtain rfl : E2 = nIAE := hB
  have hg9 : s.heap.size + 0 ≤ H.size := hz
  refine vx_catch (name := nIAE) hown [⟨0, 6, 7, 21⟩] ⟨0, 6, 11, 23⟩ [⟨0, 6, 15, 14⟩] (htb.trans rfl) (List.forall_mem_cons.mpr ⟨Or.inr ⟨by decide, nIOB, hts (.classLink RL 21 nIOB) (by decide +kernel), hT.2.2.1 nIAE (by simp) nIOB (by simp) (by decide)⟩, (fun _ h => absurd h List.not_mem_nil)⟩) (by decide) (by decide) (hts (.classLink RL 23 nIAE) (by decide +kernel)) (va_Nw.use rfl (hT.2.1 nIAE (by simp))) hce hcv hcl ?_
  refine lv_astore_n (lv' := [(3, .ref q9), (0, .ref h), (1, .int (nI u)), (2, .int (nI u))]) hx hb dL_join_11 rfl hl (by decide) rfl (fun ls hl => ?_)
  refine lv_ldc hx hb hown (hts (.constant RL 16 (-99999)) (by decide +kernel)) dL_join_12 ?_
  refine vx_ret ?_
  exact W.iret (v := (-99999)) hx hb hr (fun t9 ht9 hW9 => ⟨⟨(-99999), (), rfl, rfl, by show s.heap.size + 0 ≤ t9.heap.size; rw [ht9]; exact hg9⟩, hS.F ht9⟩) hS.2.2 dL_join_14

set_option maxHeartbeats 4000000 in
set_option maxRecDepth 100000 in
theorem w_together_same (l : Launch) (hfl : l.stackTraces = false) (D : va_G) (cy : ClassId) (h a0 a1 a2 N : Nat) (tr : Nat → Int32) (sz : Nat) (u : Nat) (hN : N ≤ 20) (hu : u < N) : vx_Met l yL_together wsL_together ({ frames := 8, cells := 0, slots := 0, locals := 126 } : Room) (va_Pc [.ref h, .int (nI u), .int (nI u)] (kRd D (wZ h a0 a1 a2 cy N tr) [(cy, .int)] sz)) (kPo (nI 0) sz 0) zXn 0 0 zNo := by
  refine vx_ofWH (cc := cL_together) (maxL := 4) (ret := (some .int)) (by decide) rfl ?_
  intro p e s m args below meth c s₁ B hml hv
  obtain ⟨rfl, ⟨⟨hP, hK⟩, hsz⟩, hT⟩ := hv
  have hx := B.exec
  have hb := B.bytes
  have hr := B.returns
  have hts := atoms_spec (ws := wsL_together) B.pre
  have hown : s.vm.findClass RL = some m.cls := findClass_of_methodNamed B.named
  have hlocks := B.notSynchronized
  subst hsz
  have hS : va_S (fun _ => False) s.heap s.heap [] := va_S.rf
  have hl := lv_entry ([.ref h, .int (nI u), .int (nI u)]) (n := 4) (Nat.le_of_ble_eq_true rfl)
  rw [lg_entry_eq]
  generalize (lg_sl ([.ref h, .int (nI u), .int (nI u)]) ++ List.replicate (4 - (lg_sl ([.ref h, .int (nI u), .int (nI u)])).length) Slot.unset).toArray = ls at hl ⊢
  have hl : lv_has ls 4 [(0, .ref h), (1, .int (nI u)), (2, .int (nI u))] := hl
  refine lv_aload_n hx hb dL_together_0 rfl (lv_at hl 0 rfl) ?_
  refine lv_iload_n hx hb dL_together_1 rfl (lv_at hl 1 rfl) ?_
  refine lv_iload_n hx hb dL_together_2 rfl (lv_at hl 2 rfl) ?_
  refine zrV (As := [.int (nI u), .int (nI u)]) (rest := []) 0 ⟨hx, hb, hml, hown, hts⟩ (c_X0_together_ok l D cy h a0 a1 a2 N (nI 0) (nI 0) zf zf tr u u 0 z0 hN hu hu (zcs N) (ztg_same hN hu)) (cwV 2 hts gL_together_X0_together rfl rfl rfl (by decide +kernel) ⟨Nat.le_of_ble_eq_true rfl, Nat.le_of_ble_eq_true rfl⟩) hK hP rfl rfl rfl hl rfl (Nat.le_of_ble_eq_true rfl) dL_together_3 ⟨Nat.le_of_ble_eq_true rfl, Nat.le_of_ble_eq_true rfl⟩ hS (fun r9 H locs hw9 hk9 hS => ?_)
  obtain rfl : r9 = (nI 0) := hw9
  refine vx_ret ?_
  exact W.iret (v := (nI 0)) hx hb hr (fun t9 ht9 hW9 => ⟨⟨(nI 0), (), rfl, rfl, by show s.heap.size + 0 ≤ t9.heap.size; rw [ht9]; exact hk9.1⟩, hS.F ht9⟩) hS.2.2 dL_together_6

set_option maxHeartbeats 4000000 in
set_option maxRecDepth 100000 in
theorem w_addNode (l : Launch) (hfl : l.stackTraces = false) (D : va_G) (cy : ClassId) (h a0 a1 a2 N : Nat) (tr : Nat → Int32) (sz : Nat) (hN : N < 20) : vx_Met l yL_addNode wsL_addNode ({ frames := 1, cells := 0, slots := 0, locals := 21 } : Room) (va_Pc [.ref h] (zWr D (wZ h a0 a1 a2 cy N tr) [(cy, .int)] sz)) (va_Qi (fun (r : Int32) (z9 : Unit) => r = nI N) (fun (z9 : Unit) t => va_P D vwCl (wZ h a0 a1 a2 cy (N + 1) tr) t.heap) (va_A (wZ h a0 a1 a2 cy N tr) sz)) zXn 0 0 (va_A (wZ h a0 a1 a2 cy N tr) sz) := by
  refine vx_ofWH (cc := cL_addNode) (maxL := 2) (ret := (some .int)) (by decide) rfl ?_
  intro p e s m args below meth c s₁ B hml hv
  obtain ⟨rfl, hsz, hP, hK, hD0⟩ := hv
  have hx := B.exec
  have hb := B.bytes
  have hr := B.returns
  have hts := atoms_spec (ws := wsL_addNode) B.pre
  have hown : s.vm.findClass RL = some m.cls := findClass_of_methodNamed B.named
  have hlocks := B.notSynchronized
  subst hsz
  have hD := hD0.self (sz := s.heap.size)
  generalize hAe : va_A (wZ h a0 a1 a2 cy N tr) s.heap.size = A at hD ⊢
  have hA : ∀ q : Nat, s.heap.size ≤ q → A q := fun q h => by rw [← hAe]; exact Or.inr h
  have hS : va_S A s.heap s.heap [] := va_S.rf
  have hl := lv_entry ([.ref h]) (n := 2) (Nat.le_of_ble_eq_true rfl)
  rw [lg_entry_eq]
  generalize (lg_sl ([.ref h]) ++ List.replicate (2 - (lg_sl ([.ref h])).length) Slot.unset).toArray = ls at hl ⊢
  have hl : lv_has ls 2 [(0, .ref h)] := hl
  refine lv_aload_n hx hb dL_addNode_0 rfl (lv_at hl 0 rfl) ?_
  refine zwVi (As := []) (rest := []) 0 [0, 1, 2, 3] rfl ⟨hx, hb, hml, hown, hts⟩ (c_X0_addNode_ok l D cy h a0 a1 a2 N (nI 0) (nI 0) zf zf tr _ hN) (cwV 0 hts gL_addNode_X0_addNode rfl rfl rfl (by decide +kernel) ⟨Nat.le_of_ble_eq_true rfl, Nat.le_of_ble_eq_true rfl⟩) hK hP hD hA rfl rfl rfl hl rfl (Nat.le_of_ble_eq_true rfl) dL_addNode_1 ⟨Nat.le_of_ble_eq_true rfl, Nat.le_of_ble_eq_true rfl⟩ hS (fun r9 u9 H locs hw9 hP hS => ?_)
  obtain rfl : r9 = (nI N) := hw9
  refine vx_ret ?_
  exact W.iret (v := (nI N)) hx hb hr (fun t9 ht9 hW9 => ⟨⟨(nI N), (), rfl, rfl, by show va_P D vwCl (wZ h a0 a1 a2 cy (N + 1) tr) t9.heap; rw [ht9]; exact hP⟩, hS.F ht9⟩) hS.2.2 dL_addNode_4
