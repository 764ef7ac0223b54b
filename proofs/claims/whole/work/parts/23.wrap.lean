set_option maxHeartbeats 4000000 in
set_option maxRecDepth 100000 in
theorem w_addNode_ok (l : Launch) (D : va_G) (cy : ClassId) (h a0 a1 a2 N : Nat) (ec cc : Int32) (f cs tr : Nat → Int32) (o : Nat) (cl : ClassId) (g : Nat → Int64) (sz : Nat) (hN : N < 20) : vx_Met l yL_addNode wsL_addNode ({ frames := 1, cells := 0, slots := 0, locals := 21 } : Room) (va_Pc [.ref h, .ref o] (fun U => zWr D (wBL h a0 a1 a2 cy N ec cc f cs tr o cl g) [(cy, .int), (cl, .long)] sz U ∧ True)) (va_Qi (fun (r : Int32) (z9 : Int32) => r = nI 0 ∧ (z9 = nI N)) (fun z9 t => va_P D vwCl (wBL h a0 a1 a2 cy (N + 1) ec cc f cs tr o cl (vp_updL g 0 (z9).toInt64)) t.heap) (va_A (wBL h a0 a1 a2 cy N ec cc f cs tr o cl g) sz)) zXn 0 0 (va_A (wBL h a0 a1 a2 cy N ec cc f cs tr o cl g) sz) := by
  refine vx_ofWH (cc := cL_addNode) (maxL := 3) (ret := (some .int)) (by decide) rfl ?_
  intro p e s m args below meth c s₁ B hml hv
  obtain ⟨rfl, ⟨hsz, hP, hK, hD0⟩, hT⟩ := hv
  have hx := B.exec
  have hb := B.bytes
  have hr := B.returns
  have hts := atoms_spec (ws := wsL_addNode) B.pre
  have hown : s.vm.findClass RL = some m.cls := findClass_of_methodNamed B.named
  have hlocks := B.notSynchronized
  subst hsz
  have hD := hD0.self (sz := s.heap.size)
  generalize hAe : va_A (wBL h a0 a1 a2 cy N ec cc f cs tr o cl g) s.heap.size = A at hD ⊢
  have hA : ∀ q : Nat, s.heap.size ≤ q → A q := fun q h => by rw [← hAe]; exact Or.inr h
  have hS : va_S A s.heap s.heap [] := va_S.rf
  have hl := lv_entry ([.ref h, .ref o]) (n := 3) (Nat.le_of_ble_eq_true rfl)
  rw [lg_entry_eq]
  generalize (lg_sl ([.ref h, .ref o]) ++ List.replicate (3 - (lg_sl ([.ref h, .ref o])).length) Slot.unset).toArray = ls at hl ⊢
  have hl : lv_has ls 3 [(0, .ref h), (1, .ref o)] := hl
  refine lv_aload_n hx hb dL_addNode_0 rfl (lv_at hl 1 rfl) ?_
  refine lv_iconst (v := (nI 0)) hx hb dL_addNode_1 (by decide) ?_
  refine lv_aload_n hx hb dL_addNode_2 rfl (lv_at hl 0 rfl) ?_
  have hPb := hP.sub (ws' := wB h a0 a1 a2 cy N ec cc f cs tr) [1, 2, 3, 4] rfl
  have hDb := hD.sub (ws' := wB h a0 a1 a2 cy N ec cc f cs tr) [1, 2, 3, 4] (by decide) rfl
  refine zjVi (As := []) (rest := [.int (nI 0), .ref o]) (wr := [(o, .inl (cl, 1, .inr (.inl g)))]) 0 [1, 2, 3, 4] [0] rfl rfl rfl (by decide) (by exact fun _ => rfl) ⟨hx, hb, hml, hown, hts⟩ (c_X0_addNode_ok l D cy h a0 a1 a2 N ec cc f cs tr _   hN) (cwV 0 hts gL_addNode_X0_addNode rfl rfl rfl (by decide +kernel) ⟨Nat.le_of_ble_eq_true rfl, Nat.le_of_ble_eq_true rfl⟩) (hK.sub [0] rfl) hP hPb hD hDb hA rfl rfl rfl hl rfl (Nat.le_of_ble_eq_true rfl) dL_addNode_3 ⟨Nat.le_of_ble_eq_true rfl, Nat.le_of_ble_eq_true rfl⟩ hS (fun a9 u9 H locs hw9 hP hS => ?_)
  have hP : va_P D vwCl (wBL h a0 a1 a2 cy (N + 1) ec cc f cs tr o cl g) H := hP
  have hD : va_D A (wBL h a0 a1 a2 cy (N + 1) ec cc f cs tr o cl g) := zD hD rfl
  have hw9 : a9 = nI N := hw9
  refine lv_i2l (v := (a9).toInt64) hx hb dL_addNode_6 rfl ?_
  refine va_last hx hb hK hP hD hS 0 1 rfl rfl (vp_in_nI (by decide) (by decide)) dL_addNode_7 (fun H locs hP hD hS => ?_)
  have hP : va_P D vwCl (wBL h a0 a1 a2 cy (N + 1) ec cc f cs tr o cl (vp_updL g 0 (a9).toInt64)) H := hP
  refine lv_goto (tgt := 14) hx hb dL_addNode_8 (by decide) ?_
  refine lv_iconst (v := (nI 0)) hx hb dL_addNode_14 (by decide) ?_
  refine vx_ret ?_
  exact W.iret (v := (nI 0)) hx hb hr (fun t9 ht9 hW9 => ⟨⟨(nI 0), a9, rfl, ⟨rfl, hw9⟩, by show va_P D vwCl (wBL h a0 a1 a2 cy (N + 1) ec cc f cs tr o cl (vp_updL g 0 (a9).toInt64)) t9.heap; rw [ht9]; exact hP⟩, hS.F ht9⟩) hS.2.2 dL_addNode_15

set_option maxHeartbeats 4000000 in
set_option maxRecDepth 100000 in
theorem w_addNode_full (l : Launch) (hfl : l.stackTraces = false) (D : va_G) (cy : ClassId) (h a0 a1 a2 N : Nat) (ec cc : Int32) (f cs tr : Nat → Int32) (o : Nat) (cl : ClassId) (g : Nat → Int64) (sz : Nat) (hN : N = 20) : vx_Met l yL_addNode wsL_addNode ({ frames := 7, cells := 1, slots := 6, locals := 103 } : Room) (va_Pc [.ref h, .ref o] (fun U => zWr D (wBL h a0 a1 a2 cy N ec cc f cs tr o cl g) [(cy, .int), (cl, .long)] sz U ∧ zTh U)) (va_Qi (fun (r : Int32) (z9 : Unit) => r = nI 1) (fun z9 t => va_P D vwCl (wBL h a0 a1 a2 cy N ec cc f cs tr o cl g) t.heap) (va_A (wBL h a0 a1 a2 cy N ec cc f cs tr o cl g) sz)) zXn 1 6 (va_A (wBL h a0 a1 a2 cy N ec cc f cs tr o cl g) sz) := by
  refine vx_ofWH (cc := cL_addNode) (maxL := 3) (ret := (some .int)) (by decide) rfl ?_
  intro p e s m args below meth c s₁ B hml hv
  obtain ⟨rfl, ⟨hsz, hP, hK, hD0⟩, hT⟩ := hv
  have hx := B.exec
  have hb := B.bytes
  have hr := B.returns
  have hts := atoms_spec (ws := wsL_addNode) B.pre
  have hown : s.vm.findClass RL = some m.cls := findClass_of_methodNamed B.named
  have hlocks := B.notSynchronized
  subst hsz
  have hD := hD0.self (sz := s.heap.size)
  generalize hAe : va_A (wBL h a0 a1 a2 cy N ec cc f cs tr o cl g) s.heap.size = A at hD ⊢
  have hA : ∀ q : Nat, s.heap.size ≤ q → A q := fun q h => by rw [← hAe]; exact Or.inr h
  have hS : va_S A s.heap s.heap [] := va_S.rf
  have htb := vx_table (x := yL_addNode) B (hts (.codeWith yL_addNode cL_addNode 3 (some .int) [(0, 8, 11, 13)]) (by decide +kernel))
  have hl := lv_entry ([.ref h, .ref o]) (n := 3) (Nat.le_of_ble_eq_true rfl)
  rw [lg_entry_eq]
  generalize (lg_sl ([.ref h, .ref o]) ++ List.replicate (3 - (lg_sl ([.ref h, .ref o])).length) Slot.unset).toArray = ls at hl ⊢
  have hl : lv_has ls 3 [(0, .ref h), (1, .ref o)] := hl
  refine lv_aload_n hx hb dL_addNode_0 rfl (lv_at hl 1 rfl) ?_
  refine lv_iconst (v := (nI 0)) hx hb dL_addNode_1 (by decide) ?_
  refine lv_aload_n hx hb dL_addNode_2 rfl (lv_at hl 0 rfl) ?_
  have hPb := hP.sub (ws' := wB h a0 a1 a2 cy N ec cc f cs tr) [1, 2, 3, 4] rfl
  refine vx_calli (vx_runV (As := []) (rest := [.int (nI 0), .ref o]) ⟨hx, hb, hml, hown, hts⟩ (c_X0_addNode_full l hfl D cy h a0 a1 a2 N ec cc f cs tr   hN) (cwV 0 hts gL_addNode_X0_addNode rfl rfl rfl (by decide +kernel) ⟨Nat.le_of_ble_eq_true rfl, Nat.le_of_ble_eq_true rfl⟩) ⟨fun a U g mk q => ⟨q.1, ⟨q.2.1.1, va_K.moved (u := U) (U := U.calling g mk a) (Vm.Alike.refl U.vm) q.2.1.2⟩, q.2.2.same rfl rfl⟩, va_recv hK hPb (ci := 0) (q0 := 0) rfl rfl, fun U hU hW => ⟨rfl, ⟨by rw [hU]; exact hPb, va_K.moved hW.alike (hK.sub [0] rfl)⟩, hT.move hW ⟨by rw [hU]; exact Nat.le_refl _, fun q _ => by rw [hU]⟩⟩⟩ rfl rfl hl.1 rfl (lv_room (Nat.le_of_ble_eq_true rfl)) dL_addNode_3 ⟨Nat.le_of_ble_eq_true rfl, Nat.le_of_ble_eq_true rfl⟩) hS (fun _ _ h => h.elim) (fun _ h => h.elim) (fun _ _ h => h.elim) (fun E2 ce q9 u9 t9 H locs ht9 hvm9 hp9 hB hz hk hS hce hcv hcl => ?_) (fun r u t H1 locs1 ht hvm hw hB hz hk hS1 => hw.elim)
  have hP := zkeep hP ⟨hz, fun q h => hk q h (fun z => z)⟩
  obtain rfl : E2 = nISE := hB
  refine vx_catch (name := nISE) hown [] ⟨0, 8, 11, 13⟩ [] (htb.trans rfl) (fun _ h => absurd h List.not_mem_nil) (by decide) (by decide) (hts (.classLink RL 13 nISE) (by decide +kernel)) (va_Nw.use rfl (hT.2.1 nISE (by simp))) hce hcv hcl ?_
  refine lv_astore_n (lv' := [(2, .ref q9), (0, .ref h), (1, .ref o)]) hx hb dL_addNode_11 rfl hl (by decide) rfl (fun ls hl => ?_)
  refine lv_iconst (v := (nI 1)) hx hb dL_addNode_12 (by decide) ?_
  refine vx_ret ?_
  exact W.iret (v := (nI 1)) hx hb hr (fun t9 ht9 hW9 => ⟨⟨(nI 1), (), rfl, rfl, by show va_P D vwCl (wBL h a0 a1 a2 cy N ec cc f cs tr o cl g) t9.heap; rw [ht9]; exact hP⟩, hS.F ht9⟩) hS.2.2 dL_addNode_13

set_option maxHeartbeats 4000000 in
set_option maxRecDepth 100000 in
theorem w_join_ok (l : Launch) (D : va_G) (cy : ClassId) (h a0 a1 a2 N : Nat) (ec cc : Int32) (f cs tr : Nat → Int32) (o : Nat) (cl : ClassId) (g : Nat → Int64) (sz : Nat) (u v : Nat) (hg : gd f N) (hu : u < N) (hv : v < N) (huv : u ≠ v) (he : bt (f u) v = false) (hcs : csJ cs (cnum f N) N) : vx_Met l yL_join wsL_join ({ frames := 9, cells := 0, slots := 0, locals := 154 } : Room) (va_Pc [.ref h, .int (nI u), .int (nI v), .ref o] (fun U => zWr D (wBL h a0 a1 a2 cy N ec cc f cs tr o cl g) [(cy, .int), (cl, .long)] sz U ∧ True)) (va_Qi (fun (r : Int32) (z9 : Int32 × (Nat → Int32)) => r = nI 0 ∧ (z9.1 = nI (chg (cnum f N) (cnum (tgl f u v) N) N) ∧ csJ z9.2 (cnum (tgl f u v) N) N)) (fun z9 t => va_P D vwCl (wBL h a0 a1 a2 cy N (ec + nI 1) (cc + nI (chg (cnum f N) (cnum (tgl f u v) N) N)) (tgl f u v) z9.2 tr o cl (vp_updL g 0 (z9.1).toInt64)) t.heap) (va_A (wBL h a0 a1 a2 cy N ec cc f cs tr o cl g) sz)) zXn 0 0 (va_A (wBL h a0 a1 a2 cy N ec cc f cs tr o cl g) sz) := by
  refine vx_ofWH (cc := cL_join) (maxL := 5) (ret := (some .int)) (by decide) rfl ?_
  intro p e s m args below meth c s₁ B hml hv
  obtain ⟨rfl, ⟨hsz, hP, hK, hD0⟩, hT⟩ := hv
  have hx := B.exec
  have hb := B.bytes
  have hr := B.returns
  have hts := atoms_spec (ws := wsL_join) B.pre
  have hown : s.vm.findClass RL = some m.cls := findClass_of_methodNamed B.named
  have hlocks := B.notSynchronized
  subst hsz
  have hD := hD0.self (sz := s.heap.size)
  generalize hAe : va_A (wBL h a0 a1 a2 cy N ec cc f cs tr o cl g) s.heap.size = A at hD ⊢
  have hA : ∀ q : Nat, s.heap.size ≤ q → A q := fun q h => by rw [← hAe]; exact Or.inr h
  have hS : va_S A s.heap s.heap [] := va_S.rf
  have hl := lv_entry ([.ref h, .int (nI u), .int (nI v), .ref o]) (n := 5) (Nat.le_of_ble_eq_true rfl)
  rw [lg_entry_eq]
  generalize (lg_sl ([.ref h, .int (nI u), .int (nI v), .ref o]) ++ List.replicate (5 - (lg_sl ([.ref h, .int (nI u), .int (nI v), .ref o])).length) Slot.unset).toArray = ls at hl ⊢
  have hl : lv_has ls 5 [(0, .ref h), (1, .int (nI u)), (2, .int (nI v)), (3, .ref o)] := hl
  refine lv_aload_n hx hb dL_join_0 rfl (lv_at hl 3 rfl) ?_
  refine lv_iconst (v := (nI 0)) hx hb dL_join_1 (by decide) ?_
  refine lv_aload_n hx hb dL_join_2 rfl (lv_at hl 0 rfl) ?_
  refine lv_iload_n hx hb dL_join_3 rfl (lv_at hl 1 rfl) ?_
  refine lv_iload_n hx hb dL_join_4 rfl (lv_at hl 2 rfl) ?_
  have hPb := hP.sub (ws' := wB h a0 a1 a2 cy N ec cc f cs tr) [1, 2, 3, 4] rfl
  have hDb := hD.sub (ws' := wB h a0 a1 a2 cy N ec cc f cs tr) [1, 2, 3, 4] (by decide) rfl
  refine zjVi (As := [.int (nI u), .int (nI v)]) (rest := [.int (nI 0), .ref o]) (wr := [(o, .inl (cl, 1, .inr (.inl g)))]) 0 [1, 2, 3, 4] [0] rfl rfl rfl (by decide) (by exact fun _ => rfl) ⟨hx, hb, hml, hown, hts⟩ (c_X0_join_ok l D cy h a0 a1 a2 N ec cc f cs tr _ u v  hg hu hv huv he hcs) (cwV 2 hts gL_join_X0_join rfl rfl rfl (by decide +kernel) ⟨Nat.le_of_ble_eq_true rfl, Nat.le_of_ble_eq_true rfl⟩) (hK.sub [0] rfl) hP hPb hD hDb hA rfl rfl rfl hl rfl (Nat.le_of_ble_eq_true rfl) dL_join_5 ⟨Nat.le_of_ble_eq_true rfl, Nat.le_of_ble_eq_true rfl⟩ hS (fun a9 u9 H locs hw9 hP hS => ?_)
  obtain ⟨cs_5, rfl⟩ : ∃ z, z = u9 := ⟨_, rfl⟩
  have hP : va_P D vwCl (wBL h a0 a1 a2 cy N (ec + nI 1) (cc + nI (chg (cnum f N) (cnum (tgl f u v) N) N)) (tgl f u v) cs_5 tr o cl g) H := hP
  have hD : va_D A (wBL h a0 a1 a2 cy N (ec + nI 1) (cc + nI (chg (cnum f N) (cnum (tgl f u v) N) N)) (tgl f u v) cs_5 tr o cl g) := zD hD rfl
  have hw9 : a9 = nI (chg (cnum f N) (cnum (tgl f u v) N) N) ∧ csJ cs_5 (cnum (tgl f u v) N) N := hw9
  refine lv_i2l (v := (a9).toInt64) hx hb dL_join_8 rfl ?_
  refine va_last hx hb hK hP hD hS 0 1 rfl rfl (vp_in_nI (by decide) (by decide)) dL_join_9 (fun H locs hP hD hS => ?_)
  have hP : va_P D vwCl (wBL h a0 a1 a2 cy N (ec + nI 1) (cc + nI (chg (cnum f N) (cnum (tgl f u v) N) N)) (tgl f u v) cs_5 tr o cl (vp_updL g 0 (a9).toInt64)) H := hP
  refine lv_goto (tgt := 25) hx hb dL_join_10 (by decide) ?_
  refine lv_iconst (v := (nI 0)) hx hb dL_join_25 (by decide) ?_
  refine vx_ret ?_
  exact W.iret (v := (nI 0)) hx hb hr (fun t9 ht9 hW9 => ⟨⟨(nI 0), (a9, cs_5), rfl, ⟨rfl, hw9⟩, by show va_P D vwCl (wBL h a0 a1 a2 cy N (ec + nI 1) (cc + nI (chg (cnum f N) (cnum (tgl f u v) N) N)) (tgl f u v) cs_5 tr o cl (vp_updL g 0 (a9).toInt64)) t9.heap; rw [ht9]; exact hP⟩, hS.F ht9⟩) hS.2.2 dL_join_26

set_option maxHeartbeats 4000000 in
set_option maxRecDepth 100000 in
theorem w_join_bad1 (l : Launch) (hfl : l.stackTraces = false) (D : va_G) (cy : ClassId) (h a0 a1 a2 N : Nat) (ec cc : Int32) (f cs tr : Nat → Int32) (o : Nat) (cl : ClassId) (g : Nat → Int64) (sz : Nat) (q1 q2 : Int32) (hq : isNb q1 N = false) : vx_Met l yL_join wsL_join ({ frames := 9, cells := 1, slots := 6, locals := 154 } : Room) (va_Pc [.ref h, .int q1, .int q2, .ref o] (fun U => zWr D (wBL h a0 a1 a2 cy N ec cc f cs tr o cl g) [(cy, .int), (cl, .long)] sz U ∧ zTh U)) (va_Qi (fun (r : Int32) (z9 : Unit) => r = nI 1) (fun z9 t => va_P D vwCl (wBL h a0 a1 a2 cy N ec cc f cs tr o cl g) t.heap) (va_A (wBL h a0 a1 a2 cy N ec cc f cs tr o cl g) sz)) zXn 1 6 (va_A (wBL h a0 a1 a2 cy N ec cc f cs tr o cl g) sz) := by
  refine vx_ofWH (cc := cL_join) (maxL := 5) (ret := (some .int)) (by decide) rfl ?_
  intro p e s m args below meth c s₁ B hml hv
  obtain ⟨rfl, ⟨hsz, hP, hK, hD0⟩, hT⟩ := hv
  have hx := B.exec
  have hb := B.bytes
  have hr := B.returns
  have hts := atoms_spec (ws := wsL_join) B.pre
  have hown : s.vm.findClass RL = some m.cls := findClass_of_methodNamed B.named
  have hlocks := B.notSynchronized
  subst hsz
  have hD := hD0.self (sz := s.heap.size)
  generalize hAe : va_A (wBL h a0 a1 a2 cy N ec cc f cs tr o cl g) s.heap.size = A at hD ⊢
  have hA : ∀ q : Nat, s.heap.size ≤ q → A q := fun q h => by rw [← hAe]; exact Or.inr h
  have hS : va_S A s.heap s.heap [] := va_S.rf
  have htb := vx_table (x := yL_join) B (hts (.codeWith yL_join cL_join 5 (some .int) [(0, 10, 13, 19), (0, 10, 17, 21), (0, 10, 21, 13)]) (by decide +kernel))
  have hl := lv_entry ([.ref h, .int q1, .int q2, .ref o]) (n := 5) (Nat.le_of_ble_eq_true rfl)
  rw [lg_entry_eq]
  generalize (lg_sl ([.ref h, .int q1, .int q2, .ref o]) ++ List.replicate (5 - (lg_sl ([.ref h, .int q1, .int q2, .ref o])).length) Slot.unset).toArray = ls at hl ⊢
  have hl : lv_has ls 5 [(0, .ref h), (1, .int q1), (2, .int q2), (3, .ref o)] := hl
  refine lv_aload_n hx hb dL_join_0 rfl (lv_at hl 3 rfl) ?_
  refine lv_iconst (v := (nI 0)) hx hb dL_join_1 (by decide) ?_
  refine lv_aload_n hx hb dL_join_2 rfl (lv_at hl 0 rfl) ?_
  refine lv_iload_n hx hb dL_join_3 rfl (lv_at hl 1 rfl) ?_
  refine lv_iload_n hx hb dL_join_4 rfl (lv_at hl 2 rfl) ?_
  have hPb := hP.sub (ws' := wB h a0 a1 a2 cy N ec cc f cs tr) [1, 2, 3, 4] rfl
  refine vx_calli (vx_runV (As := [.int q1, .int q2]) (rest := [.int (nI 0), .ref o]) ⟨hx, hb, hml, hown, hts⟩ (c_X0_join_bad1 l hfl D cy h a0 a1 a2 N ec cc f cs tr q1 q2  hq) (cwV 2 hts gL_join_X0_join rfl rfl rfl (by decide +kernel) ⟨Nat.le_of_ble_eq_true rfl, Nat.le_of_ble_eq_true rfl⟩) ⟨fun a U g mk q => ⟨q.1, ⟨q.2.1.1, va_K.moved (u := U) (U := U.calling g mk a) (Vm.Alike.refl U.vm) q.2.1.2⟩, q.2.2.same rfl rfl⟩, va_recv hK hPb (ci := 0) (q0 := 0) rfl rfl, fun U hU hW => ⟨rfl, ⟨by rw [hU]; exact hPb, va_K.moved hW.alike (hK.sub [0] rfl)⟩, hT.move hW ⟨by rw [hU]; exact Nat.le_refl _, fun q _ => by rw [hU]⟩⟩⟩ rfl rfl hl.1 rfl (lv_room (Nat.le_of_ble_eq_true rfl)) dL_join_5 ⟨Nat.le_of_ble_eq_true rfl, Nat.le_of_ble_eq_true rfl⟩) hS (fun _ _ h => h.elim) (fun _ h => h.elim) (fun _ _ h => h.elim) (fun E2 ce q9 u9 t9 H locs ht9 hvm9 hp9 hB hz hk hS hce hcv hcl => ?_) (fun r u t H1 locs1 ht hvm hw hB hz hk hS1 => hw.elim)
  have hP := zkeep hP ⟨hz, fun q h => hk q h (fun z => z)⟩
  obtain rfl : E2 = nIOB := hB
  refine vx_catch (name := nIOB) hown [] ⟨0, 10, 13, 19⟩ [⟨0, 10, 17, 21⟩, ⟨0, 10, 21, 13⟩] (htb.trans rfl) (fun _ h => absurd h List.not_mem_nil) (by decide) (by decide) (hts (.classLink RL 19 nIOB) (by decide +kernel)) (va_Nw.use rfl (hT.2.1 nIOB (by simp))) hce hcv hcl ?_
  refine lv_astore (lv' := [(4, .ref q9), (0, .ref h), (1, .int q1), (2, .int q2), (3, .ref o)]) hx hb dL_join_13 hl (by decide) rfl (fun ls hl => ?_)
  refine lv_iconst (v := (nI 1)) hx hb dL_join_15 (by decide) ?_
  refine vx_ret ?_
  exact W.iret (v := (nI 1)) hx hb hr (fun t9 ht9 hW9 => ⟨⟨(nI 1), (), rfl, rfl, by show va_P D vwCl (wBL h a0 a1 a2 cy N ec cc f cs tr o cl g) t9.heap; rw [ht9]; exact hP⟩, hS.F ht9⟩) hS.2.2 dL_join_16

set_option maxHeartbeats 4000000 in
set_option maxRecDepth 100000 in
theorem w_join_bad2 (l : Launch) (hfl : l.stackTraces = false) (D : va_G) (cy : ClassId) (h a0 a1 a2 N : Nat) (ec cc : Int32) (f cs tr : Nat → Int32) (o : Nat) (cl : ClassId) (g : Nat → Int64) (sz : Nat) (u : Nat) (q2 : Int32) (hN : N ≤ 20) (hu : u < N) (hq : isNb q2 N = false) : vx_Met l yL_join wsL_join ({ frames := 9, cells := 1, slots := 6, locals := 154 } : Room) (va_Pc [.ref h, .int (nI u), .int q2, .ref o] (fun U => zWr D (wBL h a0 a1 a2 cy N ec cc f cs tr o cl g) [(cy, .int), (cl, .long)] sz U ∧ zTh U)) (va_Qi (fun (r : Int32) (z9 : Unit) => r = nI 1) (fun z9 t => va_P D vwCl (wBL h a0 a1 a2 cy N ec cc f cs tr o cl g) t.heap) (va_A (wBL h a0 a1 a2 cy N ec cc f cs tr o cl g) sz)) zXn 1 6 (va_A (wBL h a0 a1 a2 cy N ec cc f cs tr o cl g) sz) := by
  refine vx_ofWH (cc := cL_join) (maxL := 5) (ret := (some .int)) (by decide) rfl ?_
  intro p e s m args below meth c s₁ B hml hv
  obtain ⟨rfl, ⟨hsz, hP, hK, hD0⟩, hT⟩ := hv
  have hx := B.exec
  have hb := B.bytes
  have hr := B.returns
  have hts := atoms_spec (ws := wsL_join) B.pre
  have hown : s.vm.findClass RL = some m.cls := findClass_of_methodNamed B.named
  have hlocks := B.notSynchronized
  subst hsz
  have hD := hD0.self (sz := s.heap.size)
  generalize hAe : va_A (wBL h a0 a1 a2 cy N ec cc f cs tr o cl g) s.heap.size = A at hD ⊢
  have hA : ∀ q : Nat, s.heap.size ≤ q → A q := fun q h => by rw [← hAe]; exact Or.inr h
  have hS : va_S A s.heap s.heap [] := va_S.rf
  have htb := vx_table (x := yL_join) B (hts (.codeWith yL_join cL_join 5 (some .int) [(0, 10, 13, 19), (0, 10, 17, 21), (0, 10, 21, 13)]) (by decide +kernel))
  have hl := lv_entry ([.ref h, .int (nI u), .int q2, .ref o]) (n := 5) (Nat.le_of_ble_eq_true rfl)
  rw [lg_entry_eq]
  generalize (lg_sl ([.ref h, .int (nI u), .int q2, .ref o]) ++ List.replicate (5 - (lg_sl ([.ref h, .int (nI u), .int q2, .ref o])).length) Slot.unset).toArray = ls at hl ⊢
  have hl : lv_has ls 5 [(0, .ref h), (1, .int (nI u)), (2, .int q2), (3, .ref o)] := hl
  refine lv_aload_n hx hb dL_join_0 rfl (lv_at hl 3 rfl) ?_
  refine lv_iconst (v := (nI 0)) hx hb dL_join_1 (by decide) ?_
  refine lv_aload_n hx hb dL_join_2 rfl (lv_at hl 0 rfl) ?_
  refine lv_iload_n hx hb dL_join_3 rfl (lv_at hl 1 rfl) ?_
  refine lv_iload_n hx hb dL_join_4 rfl (lv_at hl 2 rfl) ?_
  have hPb := hP.sub (ws' := wB h a0 a1 a2 cy N ec cc f cs tr) [1, 2, 3, 4] rfl
  refine vx_calli (vx_runV (As := [.int (nI u), .int q2]) (rest := [.int (nI 0), .ref o]) ⟨hx, hb, hml, hown, hts⟩ (c_X0_join_bad2 l hfl D cy h a0 a1 a2 N ec cc f cs tr u q2  hN hu hq) (cwV 2 hts gL_join_X0_join rfl rfl rfl (by decide +kernel) ⟨Nat.le_of_ble_eq_true rfl, Nat.le_of_ble_eq_true rfl⟩) ⟨fun a U g mk q => ⟨q.1, ⟨q.2.1.1, va_K.moved (u := U) (U := U.calling g mk a) (Vm.Alike.refl U.vm) q.2.1.2⟩, q.2.2.same rfl rfl⟩, va_recv hK hPb (ci := 0) (q0 := 0) rfl rfl, fun U hU hW => ⟨rfl, ⟨by rw [hU]; exact hPb, va_K.moved hW.alike (hK.sub [0] rfl)⟩, hT.move hW ⟨by rw [hU]; exact Nat.le_refl _, fun q _ => by rw [hU]⟩⟩⟩ rfl rfl hl.1 rfl (lv_room (Nat.le_of_ble_eq_true rfl)) dL_join_5 ⟨Nat.le_of_ble_eq_true rfl, Nat.le_of_ble_eq_true rfl⟩) hS (fun _ _ h => h.elim) (fun _ h => h.elim) (fun _ _ h => h.elim) (fun E2 ce q9 u9 t9 H locs ht9 hvm9 hp9 hB hz hk hS hce hcv hcl => ?_) (fun r u t H1 locs1 ht hvm hw hB hz hk hS1 => hw.elim)
  have hP := zkeep hP ⟨hz, fun q h => hk q h (fun z => z)⟩
  obtain rfl : E2 = nIOB := hB
  refine vx_catch (name := nIOB) hown [] ⟨0, 10, 13, 19⟩ [⟨0, 10, 17, 21⟩, ⟨0, 10, 21, 13⟩] (htb.trans rfl) (fun _ h => absurd h List.not_mem_nil) (by decide) (by decide) (hts (.classLink RL 19 nIOB) (by decide +kernel)) (va_Nw.use rfl (hT.2.1 nIOB (by simp))) hce hcv hcl ?_
  refine lv_astore (lv' := [(4, .ref q9), (0, .ref h), (1, .int (nI u)), (2, .int q2), (3, .ref o)]) hx hb dL_join_13 hl (by decide) rfl (fun ls hl => ?_)
  refine lv_iconst (v := (nI 1)) hx hb dL_join_15 (by decide) ?_
  refine vx_ret ?_
  exact W.iret (v := (nI 1)) hx hb hr (fun t9 ht9 hW9 => ⟨⟨(nI 1), (), rfl, rfl, by show va_P D vwCl (wBL h a0 a1 a2 cy N ec cc f cs tr o cl g) t9.heap; rw [ht9]; exact hP⟩, hS.F ht9⟩) hS.2.2 dL_join_16

set_option maxHeartbeats 4000000 in
set_option maxRecDepth 100000 in
theorem w_join_same (l : Launch) (hfl : l.stackTraces = false) (D : va_G) (cy : ClassId) (h a0 a1 a2 N : Nat) (ec cc : Int32) (f cs tr : Nat → Int32) (o : Nat) (cl : ClassId) (g : Nat → Int64) (sz : Nat) (u : Nat) (hN : N ≤ 20) (hu : u < N) : vx_Met l yL_join wsL_join ({ frames := 9, cells := 1, slots := 6, locals := 154 } : Room) (va_Pc [.ref h, .int (nI u), .int (nI u), .ref o] (fun U => zWr D (wBL h a0 a1 a2 cy N ec cc f cs tr o cl g) [(cy, .int), (cl, .long)] sz U ∧ zTh U)) (va_Qi (fun (r : Int32) (z9 : Unit) => r = nI 2) (fun z9 t => va_P D vwCl (wBL h a0 a1 a2 cy N ec cc f cs tr o cl g) t.heap) (va_A (wBL h a0 a1 a2 cy N ec cc f cs tr o cl g) sz)) zXn 1 6 (va_A (wBL h a0 a1 a2 cy N ec cc f cs tr o cl g) sz) := by
  refine vx_ofWH (cc := cL_join) (maxL := 5) (ret := (some .int)) (by decide) rfl ?_
  intro p e s m args below meth c s₁ B hml hv
  obtain ⟨rfl, ⟨hsz, hP, hK, hD0⟩, hT⟩ := hv
  have hx := B.exec
  have hb := B.bytes
  have hr := B.returns
  have hts := atoms_spec (ws := wsL_join) B.pre
  have hown : s.vm.findClass RL = some m.cls := findClass_of_methodNamed B.named
  have hlocks := B.notSynchronized
  subst hsz
  have hD := hD0.self (sz := s.heap.size)
  generalize hAe : va_A (wBL h a0 a1 a2 cy N ec cc f cs tr o cl g) s.heap.size = A at hD ⊢
  have hA : ∀ q : Nat, s.heap.size ≤ q → A q := fun q h => by rw [← hAe]; exact Or.inr h
  have hS : va_S A s.heap s.heap [] := va_S.rf
  have htb := vx_table (x := yL_join) B (hts (.codeWith yL_join cL_join 5 (some .int) [(0, 10, 13, 19), (0, 10, 17, 21), (0, 10, 21, 13)]) (by decide +kernel))
  have hl := lv_entry ([.ref h, .int (nI u), .int (nI u), .ref o]) (n := 5) (Nat.le_of_ble_eq_true rfl)
  rw [lg_entry_eq]
  generalize (lg_sl ([.ref h, .int (nI u), .int (nI u), .ref o]) ++ List.replicate (5 - (lg_sl ([.ref h, .int (nI u), .int (nI u), .ref o])).length) Slot.unset).toArray = ls at hl ⊢
  have hl : lv_has ls 5 [(0, .ref h), (1, .int (nI u)), (2, .int (nI u)), (3, .ref o)] := hl
  refine lv_aload_n hx hb dL_join_0 rfl (lv_at hl 3 rfl) ?_
  refine lv_iconst (v := (nI 0)) hx hb dL_join_1 (by decide) ?_
  refine lv_aload_n hx hb dL_join_2 rfl (lv_at hl 0 rfl) ?_
  refine lv_iload_n hx hb dL_join_3 rfl (lv_at hl 1 rfl) ?_
  refine lv_iload_n hx hb dL_join_4 rfl (lv_at hl 2 rfl) ?_
  have hPb := hP.sub (ws' := wB h a0 a1 a2 cy N ec cc f cs tr) [1, 2, 3, 4] rfl
  refine vx_calli (vx_runV (As := [.int (nI u), .int (nI u)]) (rest := [.int (nI 0), .ref o]) ⟨hx, hb, hml, hown, hts⟩ (c_X0_join_same l hfl D cy h a0 a1 a2 N ec cc f cs tr u  hN hu) (cwV 2 hts gL_join_X0_join rfl rfl rfl (by decide +kernel) ⟨Nat.le_of_ble_eq_true rfl, Nat.le_of_ble_eq_true rfl⟩) ⟨fun a U g mk q => ⟨q.1, ⟨q.2.1.1, va_K.moved (u := U) (U := U.calling g mk a) (Vm.Alike.refl U.vm) q.2.1.2⟩, q.2.2.same rfl rfl⟩, va_recv hK hPb (ci := 0) (q0 := 0) rfl rfl, fun U hU hW => ⟨rfl, ⟨by rw [hU]; exact hPb, va_K.moved hW.alike (hK.sub [0] rfl)⟩, hT.move hW ⟨by rw [hU]; exact Nat.le_refl _, fun q _ => by rw [hU]⟩⟩⟩ rfl rfl hl.1 rfl (lv_room (Nat.le_of_ble_eq_true rfl)) dL_join_5 ⟨Nat.le_of_ble_eq_true rfl, Nat.le_of_ble_eq_true rfl⟩) hS (fun _ _ h => h.elim) (fun _ h => h.elim) (fun _ _ h => h.elim) (fun E2 ce q9 u9 t9 H locs ht9 hvm9 hp9 hB hz hk hS hce hcv hcl => ?_) (fun r u t H1 locs1 ht hvm hw hB hz hk hS1 => hw.elim)
  have hP := zkeep hP ⟨hz, fun q h => hk q h (fun z => z)⟩
  obtain rfl : E2 = nIAE := hB
  refine vx_catch (name := nIAE) hown [⟨0, 10, 13, 19⟩] ⟨0, 10, 17, 21⟩ [⟨0, 10, 21, 13⟩] (htb.trans rfl) (List.forall_mem_cons.mpr ⟨Or.inr ⟨by decide, nIOB, hts (.classLink RL 19 nIOB) (by decide +kernel), hT.2.2.1 nIAE (by simp) nIOB (by simp) (by decide)⟩, (fun _ h => absurd h List.not_mem_nil)⟩) (by decide) (by decide) (hts (.classLink RL 21 nIAE) (by decide +kernel)) (va_Nw.use rfl (hT.2.1 nIAE (by simp))) hce hcv hcl ?_
  refine lv_astore (lv' := [(4, .ref q9), (0, .ref h), (1, .int (nI u)), (2, .int (nI u)), (3, .ref o)]) hx hb dL_join_17 hl (by decide) rfl (fun ls hl => ?_)
  refine lv_iconst (v := (nI 2)) hx hb dL_join_19 (by decide) ?_
  refine vx_ret ?_
  exact W.iret (v := (nI 2)) hx hb hr (fun t9 ht9 hW9 => ⟨⟨(nI 2), (), rfl, rfl, by show va_P D vwCl (wBL h a0 a1 a2 cy N ec cc f cs tr o cl g) t9.heap; rw [ht9]; exact hP⟩, hS.F ht9⟩) hS.2.2 dL_join_20

set_option maxHeartbeats 4000000 in
set_option maxRecDepth 100000 in
theorem w_join_not (l : Launch) (hfl : l.stackTraces = false) (D : va_G) (cy : ClassId) (h a0 a1 a2 N : Nat) (ec cc : Int32) (f cs tr : Nat → Int32) (o : Nat) (cl : ClassId) (g : Nat → Int64) (sz : Nat) (u v : Nat) (hN : N ≤ 20) (hu : u < N) (hv : v < N) (huv : u ≠ v) (he : bt (f u) v = true) : vx_Met l yL_join wsL_join ({ frames := 9, cells := 1, slots := 6, locals := 154 } : Room) (va_Pc [.ref h, .int (nI u), .int (nI v), .ref o] (fun U => zWr D (wBL h a0 a1 a2 cy N ec cc f cs tr o cl g) [(cy, .int), (cl, .long)] sz U ∧ zTh U)) (va_Qi (fun (r : Int32) (z9 : Unit) => r = nI 3) (fun z9 t => va_P D vwCl (wBL h a0 a1 a2 cy N ec cc f cs tr o cl g) t.heap) (va_A (wBL h a0 a1 a2 cy N ec cc f cs tr o cl g) sz)) zXn 1 6 (va_A (wBL h a0 a1 a2 cy N ec cc f cs tr o cl g) sz) := by
  refine vx_ofWH (cc := cL_join) (maxL := 5) (ret := (some .int)) (by decide) rfl ?_
  intro p e s m args below meth c s₁ B hml hv
  obtain ⟨rfl, ⟨hsz, hP, hK, hD0⟩, hT⟩ := hv
  have hx := B.exec
  have hb := B.bytes
  have hr := B.returns
  have hts := atoms_spec (ws := wsL_join) B.pre
  have hown : s.vm.findClass RL = some m.cls := findClass_of_methodNamed B.named
  have hlocks := B.notSynchronized
  subst hsz
  have hD := hD0.self (sz := s.heap.size)
  generalize hAe : va_A (wBL h a0 a1 a2 cy N ec cc f cs tr o cl g) s.heap.size = A at hD ⊢
  have hA : ∀ q : Nat, s.heap.size ≤ q → A q := fun q h => by rw [← hAe]; exact Or.inr h
  have hS : va_S A s.heap s.heap [] := va_S.rf
  have htb := vx_table (x := yL_join) B (hts (.codeWith yL_join cL_join 5 (some .int) [(0, 10, 13, 19), (0, 10, 17, 21), (0, 10, 21, 13)]) (by decide +kernel))
  have hl := lv_entry ([.ref h, .int (nI u), .int (nI v), .ref o]) (n := 5) (Nat.le_of_ble_eq_true rfl)
  rw [lg_entry_eq]
  generalize (lg_sl ([.ref h, .int (nI u), .int (nI v), .ref o]) ++ List.replicate (5 - (lg_sl ([.ref h, .int (nI u), .int (nI v), .ref o])).length) Slot.unset).toArray = ls at hl ⊢
  have hl : lv_has ls 5 [(0, .ref h), (1, .int (nI u)), (2, .int (nI v)), (3, .ref o)] := hl
  refine lv_aload_n hx hb dL_join_0 rfl (lv_at hl 3 rfl) ?_
  refine lv_iconst (v := (nI 0)) hx hb dL_join_1 (by decide) ?_
  refine lv_aload_n hx hb dL_join_2 rfl (lv_at hl 0 rfl) ?_
  refine lv_iload_n hx hb dL_join_3 rfl (lv_at hl 1 rfl) ?_
  refine lv_iload_n hx hb dL_join_4 rfl (lv_at hl 2 rfl) ?_
  have hPb := hP.sub (ws' := wB h a0 a1 a2 cy N ec cc f cs tr) [1, 2, 3, 4] rfl
  refine vx_calli (vx_runV (As := [.int (nI u), .int (nI v)]) (rest := [.int (nI 0), .ref o]) ⟨hx, hb, hml, hown, hts⟩ (c_X0_join_not l hfl D cy h a0 a1 a2 N ec cc f cs tr u v  hN hu hv huv he) (cwV 2 hts gL_join_X0_join rfl rfl rfl (by decide +kernel) ⟨Nat.le_of_ble_eq_true rfl, Nat.le_of_ble_eq_true rfl⟩) ⟨fun a U g mk q => ⟨q.1, ⟨q.2.1.1, va_K.moved (u := U) (U := U.calling g mk a) (Vm.Alike.refl U.vm) q.2.1.2⟩, q.2.2.same rfl rfl⟩, va_recv hK hPb (ci := 0) (q0 := 0) rfl rfl, fun U hU hW => ⟨rfl, ⟨by rw [hU]; exact hPb, va_K.moved hW.alike (hK.sub [0] rfl)⟩, hT.move hW ⟨by rw [hU]; exact Nat.le_refl _, fun q _ => by rw [hU]⟩⟩⟩ rfl rfl hl.1 rfl (lv_room (Nat.le_of_ble_eq_true rfl)) dL_join_5 ⟨Nat.le_of_ble_eq_true rfl, Nat.le_of_ble_eq_true rfl⟩) hS (fun _ _ h => h.elim) (fun _ h => h.elim) (fun _ _ h => h.elim) (fun E2 ce q9 u9 t9 H locs ht9 hvm9 hp9 hB hz hk hS hce hcv hcl => ?_) (fun r u t H1 locs1 ht hvm hw hB hz hk hS1 => hw.elim)
  have hP := zkeep hP ⟨hz, fun q h => hk q h (fun z => z)⟩
  obtain rfl : E2 = nISE := hB
  refine vx_catch (name := nISE) hown [⟨0, 10, 13, 19⟩, ⟨0, 10, 17, 21⟩] ⟨0, 10, 21, 13⟩ [] (htb.trans rfl) (List.forall_mem_cons.mpr ⟨Or.inr ⟨by decide, nIOB, hts (.classLink RL 19 nIOB) (by decide +kernel), hT.2.2.1 nISE (by simp) nIOB (by simp) (by decide)⟩, (List.forall_mem_cons.mpr ⟨Or.inr ⟨by decide, nIAE, hts (.classLink RL 21 nIAE) (by decide +kernel), hT.2.2.1 nISE (by simp) nIAE (by simp) (by decide)⟩, (fun _ h => absurd h List.not_mem_nil)⟩)⟩) (by decide) (by decide) (hts (.classLink RL 13 nISE) (by decide +kernel)) (va_Nw.use rfl (hT.2.1 nISE (by simp))) hce hcv hcl ?_
  refine lv_astore (lv' := [(4, .ref q9), (0, .ref h), (1, .int (nI u)), (2, .int (nI v)), (3, .ref o)]) hx hb dL_join_21 hl (by decide) rfl (fun ls hl => ?_)
  refine lv_iconst (v := (nI 3)) hx hb dL_join_23 (by decide) ?_
  refine vx_ret ?_
  exact W.iret (v := (nI 3)) hx hb hr (fun t9 ht9 hW9 => ⟨⟨(nI 3), (), rfl, rfl, by show va_P D vwCl (wBL h a0 a1 a2 cy N ec cc f cs tr o cl g) t9.heap; rw [ht9]; exact hP⟩, hS.F ht9⟩) hS.2.2 dL_join_24

set_option maxHeartbeats 4000000 in
set_option maxRecDepth 100000 in
theorem w_part_ok (l : Launch) (D : va_G) (cy : ClassId) (h a0 a1 a2 N : Nat) (ec cc : Int32) (f cs tr : Nat → Int32) (o : Nat) (cl : ClassId) (g : Nat → Int64) (sz : Nat) (u v : Nat) (hg : gd f N) (hu : u < N) (hv : v < N) (huv : u ≠ v) (he : bt (f u) v = true) (hcs : csJ cs (cnum f N) N) : vx_Met l yL_part wsL_part ({ frames := 9, cells := 0, slots := 0, locals := 154 } : Room) (va_Pc [.ref h, .int (nI u), .int (nI v), .ref o] (fun U => zWr D (wBL h a0 a1 a2 cy N ec cc f cs tr o cl g) [(cy, .int), (cl, .long)] sz U ∧ True)) (va_Qi (fun (r : Int32) (z9 : Int32 × (Nat → Int32)) => r = nI 0 ∧ (z9.1 = nI (chg (cnum f N) (cnum (tgl f u v) N) N) ∧ csJ z9.2 (cnum (tgl f u v) N) N)) (fun z9 t => va_P D vwCl (wBL h a0 a1 a2 cy N (ec - nI 1) (cc + nI (chg (cnum f N) (cnum (tgl f u v) N) N)) (tgl f u v) z9.2 tr o cl (vp_updL g 0 (z9.1).toInt64)) t.heap) (va_A (wBL h a0 a1 a2 cy N ec cc f cs tr o cl g) sz)) zXn 0 0 (va_A (wBL h a0 a1 a2 cy N ec cc f cs tr o cl g) sz) := by
  refine vx_ofWH (cc := cL_part) (maxL := 5) (ret := (some .int)) (by decide) rfl ?_
  intro p e s m args below meth c s₁ B hml hv
  obtain ⟨rfl, ⟨hsz, hP, hK, hD0⟩, hT⟩ := hv
  have hx := B.exec
  have hb := B.bytes
  have hr := B.returns
  have hts := atoms_spec (ws := wsL_part) B.pre
  have hown : s.vm.findClass RL = some m.cls := findClass_of_methodNamed B.named
  have hlocks := B.notSynchronized
  subst hsz
  have hD := hD0.self (sz := s.heap.size)
  generalize hAe : va_A (wBL h a0 a1 a2 cy N ec cc f cs tr o cl g) s.heap.size = A at hD ⊢
  have hA : ∀ q : Nat, s.heap.size ≤ q → A q := fun q h => by rw [← hAe]; exact Or.inr h
  have hS : va_S A s.heap s.heap [] := va_S.rf
  have hl := lv_entry ([.ref h, .int (nI u), .int (nI v), .ref o]) (n := 5) (Nat.le_of_ble_eq_true rfl)
  rw [lg_entry_eq]
  generalize (lg_sl ([.ref h, .int (nI u), .int (nI v), .ref o]) ++ List.replicate (5 - (lg_sl ([.ref h, .int (nI u), .int (nI v), .ref o])).length) Slot.unset).toArray = ls at hl ⊢
  have hl : lv_has ls 5 [(0, .ref h), (1, .int (nI u)), (2, .int (nI v)), (3, .ref o)] := hl
  refine lv_aload_n hx hb dL_part_0 rfl (lv_at hl 3 rfl) ?_
  refine lv_iconst (v := (nI 0)) hx hb dL_part_1 (by decide) ?_
  refine lv_aload_n hx hb dL_part_2 rfl (lv_at hl 0 rfl) ?_
  refine lv_iload_n hx hb dL_part_3 rfl (lv_at hl 1 rfl) ?_
  refine lv_iload_n hx hb dL_part_4 rfl (lv_at hl 2 rfl) ?_
  have hPb := hP.sub (ws' := wB h a0 a1 a2 cy N ec cc f cs tr) [1, 2, 3, 4] rfl
  have hDb := hD.sub (ws' := wB h a0 a1 a2 cy N ec cc f cs tr) [1, 2, 3, 4] (by decide) rfl
  refine zjVi (As := [.int (nI u), .int (nI v)]) (rest := [.int (nI 0), .ref o]) (wr := [(o, .inl (cl, 1, .inr (.inl g)))]) 0 [1, 2, 3, 4] [0] rfl rfl rfl (by decide) (by exact fun _ => rfl) ⟨hx, hb, hml, hown, hts⟩ (c_X0_part_ok l D cy h a0 a1 a2 N ec cc f cs tr _ u v  hg hu hv huv he hcs) (cwV 2 hts gL_part_X0_part rfl rfl rfl (by decide +kernel) ⟨Nat.le_of_ble_eq_true rfl, Nat.le_of_ble_eq_true rfl⟩) (hK.sub [0] rfl) hP hPb hD hDb hA rfl rfl rfl hl rfl (Nat.le_of_ble_eq_true rfl) dL_part_5 ⟨Nat.le_of_ble_eq_true rfl, Nat.le_of_ble_eq_true rfl⟩ hS (fun a9 u9 H locs hw9 hP hS => ?_)
  obtain ⟨cs_5, rfl⟩ : ∃ z, z = u9 := ⟨_, rfl⟩
  have hP : va_P D vwCl (wBL h a0 a1 a2 cy N (ec - nI 1) (cc + nI (chg (cnum f N) (cnum (tgl f u v) N) N)) (tgl f u v) cs_5 tr o cl g) H := hP
  have hD : va_D A (wBL h a0 a1 a2 cy N (ec - nI 1) (cc + nI (chg (cnum f N) (cnum (tgl f u v) N) N)) (tgl f u v) cs_5 tr o cl g) := zD hD rfl
  have hw9 : a9 = nI (chg (cnum f N) (cnum (tgl f u v) N) N) ∧ csJ cs_5 (cnum (tgl f u v) N) N := hw9
  refine lv_i2l (v := (a9).toInt64) hx hb dL_part_8 rfl ?_
  refine va_last hx hb hK hP hD hS 0 1 rfl rfl (vp_in_nI (by decide) (by decide)) dL_part_9 (fun H locs hP hD hS => ?_)
  have hP : va_P D vwCl (wBL h a0 a1 a2 cy N (ec - nI 1) (cc + nI (chg (cnum f N) (cnum (tgl f u v) N) N)) (tgl f u v) cs_5 tr o cl (vp_updL g 0 (a9).toInt64)) H := hP
  refine lv_goto (tgt := 25) hx hb dL_part_10 (by decide) ?_
  refine lv_iconst (v := (nI 0)) hx hb dL_part_25 (by decide) ?_
  refine vx_ret ?_
  exact W.iret (v := (nI 0)) hx hb hr (fun t9 ht9 hW9 => ⟨⟨(nI 0), (a9, cs_5), rfl, ⟨rfl, hw9⟩, by show va_P D vwCl (wBL h a0 a1 a2 cy N (ec - nI 1) (cc + nI (chg (cnum f N) (cnum (tgl f u v) N) N)) (tgl f u v) cs_5 tr o cl (vp_updL g 0 (a9).toInt64)) t9.heap; rw [ht9]; exact hP⟩, hS.F ht9⟩) hS.2.2 dL_part_26

set_option maxHeartbeats 4000000 in
set_option maxRecDepth 100000 in
theorem w_part_bad1 (l : Launch) (hfl : l.stackTraces = false) (D : va_G) (cy : ClassId) (h a0 a1 a2 N : Nat) (ec cc : Int32) (f cs tr : Nat → Int32) (o : Nat) (cl : ClassId) (g : Nat → Int64) (sz : Nat) (q1 q2 : Int32) (hq : isNb q1 N = false) : vx_Met l yL_part wsL_part ({ frames := 9, cells := 1, slots := 6, locals := 154 } : Room) (va_Pc [.ref h, .int q1, .int q2, .ref o] (fun U => zWr D (wBL h a0 a1 a2 cy N ec cc f cs tr o cl g) [(cy, .int), (cl, .long)] sz U ∧ zTh U)) (va_Qi (fun (r : Int32) (z9 : Unit) => r = nI 1) (fun z9 t => va_P D vwCl (wBL h a0 a1 a2 cy N ec cc f cs tr o cl g) t.heap) (va_A (wBL h a0 a1 a2 cy N ec cc f cs tr o cl g) sz)) zXn 1 6 (va_A (wBL h a0 a1 a2 cy N ec cc f cs tr o cl g) sz) := by
  refine vx_ofWH (cc := cL_part) (maxL := 5) (ret := (some .int)) (by decide) rfl ?_
  intro p e s m args below meth c s₁ B hml hv
  obtain ⟨rfl, ⟨hsz, hP, hK, hD0⟩, hT⟩ := hv
  have hx := B.exec
  have hb := B.bytes
  have hr := B.returns
  have hts := atoms_spec (ws := wsL_part) B.pre
  have hown : s.vm.findClass RL = some m.cls := findClass_of_methodNamed B.named
  have hlocks := B.notSynchronized
  subst hsz
  have hD := hD0.self (sz := s.heap.size)
  generalize hAe : va_A (wBL h a0 a1 a2 cy N ec cc f cs tr o cl g) s.heap.size = A at hD ⊢
  have hA : ∀ q : Nat, s.heap.size ≤ q → A q := fun q h => by rw [← hAe]; exact Or.inr h
  have hS : va_S A s.heap s.heap [] := va_S.rf
  have htb := vx_table (x := yL_part) B (hts (.codeWith yL_part cL_part 5 (some .int) [(0, 10, 13, 19), (0, 10, 17, 21), (0, 10, 21, 26)]) (by decide +kernel))
  have hl := lv_entry ([.ref h, .int q1, .int q2, .ref o]) (n := 5) (Nat.le_of_ble_eq_true rfl)
  rw [lg_entry_eq]
  generalize (lg_sl ([.ref h, .int q1, .int q2, .ref o]) ++ List.replicate (5 - (lg_sl ([.ref h, .int q1, .int q2, .ref o])).length) Slot.unset).toArray = ls at hl ⊢
  have hl : lv_has ls 5 [(0, .ref h), (1, .int q1), (2, .int q2), (3, .ref o)] := hl
  refine lv_aload_n hx hb dL_part_0 rfl (lv_at hl 3 rfl) ?_
  refine lv_iconst (v := (nI 0)) hx hb dL_part_1 (by decide) ?_
  refine lv_aload_n hx hb dL_part_2 rfl (lv_at hl 0 rfl) ?_
  refine lv_iload_n hx hb dL_part_3 rfl (lv_at hl 1 rfl) ?_
  refine lv_iload_n hx hb dL_part_4 rfl (lv_at hl 2 rfl) ?_
  have hPb := hP.sub (ws' := wB h a0 a1 a2 cy N ec cc f cs tr) [1, 2, 3, 4] rfl
  refine vx_calli (vx_runV (As := [.int q1, .int q2]) (rest := [.int (nI 0), .ref o]) ⟨hx, hb, hml, hown, hts⟩ (c_X0_part_bad1 l hfl D cy h a0 a1 a2 N ec cc f cs tr q1 q2  hq) (cwV 2 hts gL_part_X0_part rfl rfl rfl (by decide +kernel) ⟨Nat.le_of_ble_eq_true rfl, Nat.le_of_ble_eq_true rfl⟩) ⟨fun a U g mk q => ⟨q.1, ⟨q.2.1.1, va_K.moved (u := U) (U := U.calling g mk a) (Vm.Alike.refl U.vm) q.2.1.2⟩, q.2.2.same rfl rfl⟩, va_recv hK hPb (ci := 0) (q0 := 0) rfl rfl, fun U hU hW => ⟨rfl, ⟨by rw [hU]; exact hPb, va_K.moved hW.alike (hK.sub [0] rfl)⟩, hT.move hW ⟨by rw [hU]; exact Nat.le_refl _, fun q _ => by rw [hU]⟩⟩⟩ rfl rfl hl.1 rfl (lv_room (Nat.le_of_ble_eq_true rfl)) dL_part_5 ⟨Nat.le_of_ble_eq_true rfl, Nat.le_of_ble_eq_true rfl⟩) hS (fun _ _ h => h.elim) (fun _ h => h.elim) (fun _ _ h => h.elim) (fun E2 ce q9 u9 t9 H locs ht9 hvm9 hp9 hB hz hk hS hce hcv hcl => ?_) (fun r u t H1 locs1 ht hvm hw hB hz hk hS1 => hw.elim)
  have hP := zkeep hP ⟨hz, fun q h => hk q h (fun z => z)⟩
  obtain rfl : E2 = nIOB := hB
  refine vx_catch (name := nIOB) hown [] ⟨0, 10, 13, 19⟩ [⟨0, 10, 17, 21⟩, ⟨0, 10, 21, 26⟩] (htb.trans rfl) (fun _ h => absurd h List.not_mem_nil) (by decide) (by decide) (hts (.classLink RL 19 nIOB) (by decide +kernel)) (va_Nw.use rfl (hT.2.1 nIOB (by simp))) hce hcv hcl ?_
  refine lv_astore (lv' := [(4, .ref q9), (0, .ref h), (1, .int q1), (2, .int q2), (3, .ref o)]) hx hb dL_part_13 hl (by decide) rfl (fun ls hl => ?_)
  refine lv_iconst (v := (nI 1)) hx hb dL_part_15 (by decide) ?_
  refine vx_ret ?_
  exact W.iret (v := (nI 1)) hx hb hr (fun t9 ht9 hW9 => ⟨⟨(nI 1), (), rfl, rfl, by show va_P D vwCl (wBL h a0 a1 a2 cy N ec cc f cs tr o cl g) t9.heap; rw [ht9]; exact hP⟩, hS.F ht9⟩) hS.2.2 dL_part_16

set_option maxHeartbeats 4000000 in
set_option maxRecDepth 100000 in
theorem w_part_bad2 (l : Launch) (hfl : l.stackTraces = false) (D : va_G) (cy : ClassId) (h a0 a1 a2 N : Nat) (ec cc : Int32) (f cs tr : Nat → Int32) (o : Nat) (cl : ClassId) (g : Nat → Int64) (sz : Nat) (u : Nat) (q2 : Int32) (hN : N ≤ 20) (hu : u < N) (hq : isNb q2 N = false) : vx_Met l yL_part wsL_part ({ frames := 9, cells := 1, slots := 6, locals := 154 } : Room) (va_Pc [.ref h, .int (nI u), .int q2, .ref o] (fun U => zWr D (wBL h a0 a1 a2 cy N ec cc f cs tr o cl g) [(cy, .int), (cl, .long)] sz U ∧ zTh U)) (va_Qi (fun (r : Int32) (z9 : Unit) => r = nI 1) (fun z9 t => va_P D vwCl (wBL h a0 a1 a2 cy N ec cc f cs tr o cl g) t.heap) (va_A (wBL h a0 a1 a2 cy N ec cc f cs tr o cl g) sz)) zXn 1 6 (va_A (wBL h a0 a1 a2 cy N ec cc f cs tr o cl g) sz) := by
  refine vx_ofWH (cc := cL_part) (maxL := 5) (ret := (some .int)) (by decide) rfl ?_
  intro p e s m args below meth c s₁ B hml hv
  obtain ⟨rfl, ⟨hsz, hP, hK, hD0⟩, hT⟩ := hv
  have hx := B.exec
  have hb := B.bytes
  have hr := B.returns
  have hts := atoms_spec (ws := wsL_part) B.pre
  have hown : s.vm.findClass RL = some m.cls := findClass_of_methodNamed B.named
  have hlocks := B.notSynchronized
  subst hsz
  have hD := hD0.self (sz := s.heap.size)
  generalize hAe : va_A (wBL h a0 a1 a2 cy N ec cc f cs tr o cl g) s.heap.size = A at hD ⊢
  have hA : ∀ q : Nat, s.heap.size ≤ q → A q := fun q h => by rw [← hAe]; exact Or.inr h
  have hS : va_S A s.heap s.heap [] := va_S.rf
  have htb := vx_table (x := yL_part) B (hts (.codeWith yL_part cL_part 5 (some .int) [(0, 10, 13, 19), (0, 10, 17, 21), (0, 10, 21, 26)]) (by decide +kernel))
  have hl := lv_entry ([.ref h, .int (nI u), .int q2, .ref o]) (n := 5) (Nat.le_of_ble_eq_true rfl)
  rw [lg_entry_eq]
  generalize (lg_sl ([.ref h, .int (nI u), .int q2, .ref o]) ++ List.replicate (5 - (lg_sl ([.ref h, .int (nI u), .int q2, .ref o])).length) Slot.unset).toArray = ls at hl ⊢
  have hl : lv_has ls 5 [(0, .ref h), (1, .int (nI u)), (2, .int q2), (3, .ref o)] := hl
  refine lv_aload_n hx hb dL_part_0 rfl (lv_at hl 3 rfl) ?_
  refine lv_iconst (v := (nI 0)) hx hb dL_part_1 (by decide) ?_
  refine lv_aload_n hx hb dL_part_2 rfl (lv_at hl 0 rfl) ?_
  refine lv_iload_n hx hb dL_part_3 rfl (lv_at hl 1 rfl) ?_
  refine lv_iload_n hx hb dL_part_4 rfl (lv_at hl 2 rfl) ?_
  have hPb := hP.sub (ws' := wB h a0 a1 a2 cy N ec cc f cs tr) [1, 2, 3, 4] rfl
  refine vx_calli (vx_runV (As := [.int (nI u), .int q2]) (rest := [.int (nI 0), .ref o]) ⟨hx, hb, hml, hown, hts⟩ (c_X0_part_bad2 l hfl D cy h a0 a1 a2 N ec cc f cs tr u q2  hN hu hq) (cwV 2 hts gL_part_X0_part rfl rfl rfl (by decide +kernel) ⟨Nat.le_of_ble_eq_true rfl, Nat.le_of_ble_eq_true rfl⟩) ⟨fun a U g mk q => ⟨q.1, ⟨q.2.1.1, va_K.moved (u := U) (U := U.calling g mk a) (Vm.Alike.refl U.vm) q.2.1.2⟩, q.2.2.same rfl rfl⟩, va_recv hK hPb (ci := 0) (q0 := 0) rfl rfl, fun U hU hW => ⟨rfl, ⟨by rw [hU]; exact hPb, va_K.moved hW.alike (hK.sub [0] rfl)⟩, hT.move hW ⟨by rw [hU]; exact Nat.le_refl _, fun q _ => by rw [hU]⟩⟩⟩ rfl rfl hl.1 rfl (lv_room (Nat.le_of_ble_eq_true rfl)) dL_part_5 ⟨Nat.le_of_ble_eq_true rfl, Nat.le_of_ble_eq_true rfl⟩) hS (fun _ _ h => h.elim) (fun _ h => h.elim) (fun _ _ h => h.elim) (fun E2 ce q9 u9 t9 H locs ht9 hvm9 hp9 hB hz hk hS hce hcv hcl => ?_) (fun r u t H1 locs1 ht hvm hw hB hz hk hS1 => hw.elim)
  have hP := zkeep hP ⟨hz, fun q h => hk q h (fun z => z)⟩
  obtain rfl : E2 = nIOB := hB
  refine vx_catch (name := nIOB) hown [] ⟨0, 10, 13, 19⟩ [⟨0, 10, 17, 21⟩, ⟨0, 10, 21, 26⟩] (htb.trans rfl) (fun _ h => absurd h List.not_mem_nil) (by decide) (by decide) (hts (.classLink RL 19 nIOB) (by decide +kernel)) (va_Nw.use rfl (hT.2.1 nIOB (by simp))) hce hcv hcl ?_
  refine lv_astore (lv' := [(4, .ref q9), (0, .ref h), (1, .int (nI u)), (2, .int q2), (3, .ref o)]) hx hb dL_part_13 hl (by decide) rfl (fun ls hl => ?_)
  refine lv_iconst (v := (nI 1)) hx hb dL_part_15 (by decide) ?_
  refine vx_ret ?_
  exact W.iret (v := (nI 1)) hx hb hr (fun t9 ht9 hW9 => ⟨⟨(nI 1), (), rfl, rfl, by show va_P D vwCl (wBL h a0 a1 a2 cy N ec cc f cs tr o cl g) t9.heap; rw [ht9]; exact hP⟩, hS.F ht9⟩) hS.2.2 dL_part_16

set_option maxHeartbeats 4000000 in
set_option maxRecDepth 100000 in
theorem w_part_same (l : Launch) (hfl : l.stackTraces = false) (D : va_G) (cy : ClassId) (h a0 a1 a2 N : Nat) (ec cc : Int32) (f cs tr : Nat → Int32) (o : Nat) (cl : ClassId) (g : Nat → Int64) (sz : Nat) (u : Nat) (hN : N ≤ 20) (hu : u < N) : vx_Met l yL_part wsL_part ({ frames := 9, cells := 1, slots := 6, locals := 154 } : Room) (va_Pc [.ref h, .int (nI u), .int (nI u), .ref o] (fun U => zWr D (wBL h a0 a1 a2 cy N ec cc f cs tr o cl g) [(cy, .int), (cl, .long)] sz U ∧ zTh U)) (va_Qi (fun (r : Int32) (z9 : Unit) => r = nI 2) (fun z9 t => va_P D vwCl (wBL h a0 a1 a2 cy N ec cc f cs tr o cl g) t.heap) (va_A (wBL h a0 a1 a2 cy N ec cc f cs tr o cl g) sz)) zXn 1 6 (va_A (wBL h a0 a1 a2 cy N ec cc f cs tr o cl g) sz) := by
  refine vx_ofWH (cc := cL_part) (maxL := 5) (ret := (some .int)) (by decide) rfl ?_
  intro p e s m args below meth c s₁ B hml hv
  obtain ⟨rfl, ⟨hsz, hP, hK, hD0⟩, hT⟩ := hv
  have hx := B.exec
  have hb := B.bytes
  have hr := B.returns
  have hts := atoms_spec (ws := wsL_part) B.pre
  have hown : s.vm.findClass RL = some m.cls := findClass_of_methodNamed B.named
  have hlocks := B.notSynchronized
  subst hsz
  have hD := hD0.self (sz := s.heap.size)
  generalize hAe : va_A (wBL h a0 a1 a2 cy N ec cc f cs tr o cl g) s.heap.size = A at hD ⊢
  have hA : ∀ q : Nat, s.heap.size ≤ q → A q := fun q h => by rw [← hAe]; exact Or.inr h
  have hS : va_S A s.heap s.heap [] := va_S.rf
  have htb := vx_table (x := yL_part) B (hts (.codeWith yL_part cL_part 5 (some .int) [(0, 10, 13, 19), (0, 10, 17, 21), (0, 10, 21, 26)]) (by decide +kernel))
  have hl := lv_entry ([.ref h, .int (nI u), .int (nI u), .ref o]) (n := 5) (Nat.le_of_ble_eq_true rfl)
  rw [lg_entry_eq]
  generalize (lg_sl ([.ref h, .int (nI u), .int (nI u), .ref o]) ++ List.replicate (5 - (lg_sl ([.ref h, .int (nI u), .int (nI u), .ref o])).length) Slot.unset).toArray = ls at hl ⊢
  have hl : lv_has ls 5 [(0, .ref h), (1, .int (nI u)), (2, .int (nI u)), (3, .ref o)] := hl
  refine lv_aload_n hx hb dL_part_0 rfl (lv_at hl 3 rfl) ?_
  refine lv_iconst (v := (nI 0)) hx hb dL_part_1 (by decide) ?_
  refine lv_aload_n hx hb dL_part_2 rfl (lv_at hl 0 rfl) ?_
  refine lv_iload_n hx hb dL_part_3 rfl (lv_at hl 1 rfl) ?_
  refine lv_iload_n hx hb dL_part_4 rfl (lv_at hl 2 rfl) ?_
  have hPb := hP.sub (ws' := wB h a0 a1 a2 cy N ec cc f cs tr) [1, 2, 3, 4] rfl
  refine vx_calli (vx_runV (As := [.int (nI u), .int (nI u)]) (rest := [.int (nI 0), .ref o]) ⟨hx, hb, hml, hown, hts⟩ (c_X0_part_same l hfl D cy h a0 a1 a2 N ec cc f cs tr u  hN hu) (cwV 2 hts gL_part_X0_part rfl rfl rfl (by decide +kernel) ⟨Nat.le_of_ble_eq_true rfl, Nat.le_of_ble_eq_true rfl⟩) ⟨fun a U g mk q => ⟨q.1, ⟨q.2.1.1, va_K.moved (u := U) (U := U.calling g mk a) (Vm.Alike.refl U.vm) q.2.1.2⟩, q.2.2.same rfl rfl⟩, va_recv hK hPb (ci := 0) (q0 := 0) rfl rfl, fun U hU hW => ⟨rfl, ⟨by rw [hU]; exact hPb, va_K.moved hW.alike (hK.sub [0] rfl)⟩, hT.move hW ⟨by rw [hU]; exact Nat.le_refl _, fun q _ => by rw [hU]⟩⟩⟩ rfl rfl hl.1 rfl (lv_room (Nat.le_of_ble_eq_true rfl)) dL_part_5 ⟨Nat.le_of_ble_eq_true rfl, Nat.le_of_ble_eq_true rfl⟩) hS (fun _ _ h => h.elim) (fun _ h => h.elim) (fun _ _ h => h.elim) (fun E2 ce q9 u9 t9 H locs ht9 hvm9 hp9 hB hz hk hS hce hcv hcl => ?_) (fun r u t H1 locs1 ht hvm hw hB hz hk hS1 => hw.elim)
  have hP := zkeep hP ⟨hz, fun q h => hk q h (fun z => z)⟩
  obtain rfl : E2 = nIAE := hB
  refine vx_catch (name := nIAE) hown [⟨0, 10, 13, 19⟩] ⟨0, 10, 17, 21⟩ [⟨0, 10, 21, 26⟩] (htb.trans rfl) (List.forall_mem_cons.mpr ⟨Or.inr ⟨by decide, nIOB, hts (.classLink RL 19 nIOB) (by decide +kernel), hT.2.2.1 nIAE (by simp) nIOB (by simp) (by decide)⟩, (fun _ h => absurd h List.not_mem_nil)⟩) (by decide) (by decide) (hts (.classLink RL 21 nIAE) (by decide +kernel)) (va_Nw.use rfl (hT.2.1 nIAE (by simp))) hce hcv hcl ?_
  refine lv_astore (lv' := [(4, .ref q9), (0, .ref h), (1, .int (nI u)), (2, .int (nI u)), (3, .ref o)]) hx hb dL_part_17 hl (by decide) rfl (fun ls hl => ?_)
  refine lv_iconst (v := (nI 2)) hx hb dL_part_19 (by decide) ?_
  refine vx_ret ?_
  exact W.iret (v := (nI 2)) hx hb hr (fun t9 ht9 hW9 => ⟨⟨(nI 2), (), rfl, rfl, by show va_P D vwCl (wBL h a0 a1 a2 cy N ec cc f cs tr o cl g) t9.heap; rw [ht9]; exact hP⟩, hS.F ht9⟩) hS.2.2 dL_part_20

set_option maxHeartbeats 4000000 in
set_option maxRecDepth 100000 in
theorem w_part_not (l : Launch) (hfl : l.stackTraces = false) (D : va_G) (cy : ClassId) (h a0 a1 a2 N : Nat) (ec cc : Int32) (f cs tr : Nat → Int32) (o : Nat) (cl : ClassId) (g : Nat → Int64) (sz : Nat) (u v : Nat) (hN : N ≤ 20) (hu : u < N) (hv : v < N) (huv : u ≠ v) (he : bt (f u) v = false) : vx_Met l yL_part wsL_part ({ frames := 9, cells := 1, slots := 6, locals := 154 } : Room) (va_Pc [.ref h, .int (nI u), .int (nI v), .ref o] (fun U => zWr D (wBL h a0 a1 a2 cy N ec cc f cs tr o cl g) [(cy, .int), (cl, .long)] sz U ∧ zTh U)) (va_Qi (fun (r : Int32) (z9 : Unit) => r = nI 3) (fun z9 t => va_P D vwCl (wBL h a0 a1 a2 cy N ec cc f cs tr o cl g) t.heap) (va_A (wBL h a0 a1 a2 cy N ec cc f cs tr o cl g) sz)) zXn 1 6 (va_A (wBL h a0 a1 a2 cy N ec cc f cs tr o cl g) sz) := by
  refine vx_ofWH (cc := cL_part) (maxL := 5) (ret := (some .int)) (by decide) rfl ?_
  intro p e s m args below meth c s₁ B hml hv
  obtain ⟨rfl, ⟨hsz, hP, hK, hD0⟩, hT⟩ := hv
  have hx := B.exec
  have hb := B.bytes
  have hr := B.returns
  have hts := atoms_spec (ws := wsL_part) B.pre
  have hown : s.vm.findClass RL = some m.cls := findClass_of_methodNamed B.named
  have hlocks := B.notSynchronized
  subst hsz
  have hD := hD0.self (sz := s.heap.size)
  generalize hAe : va_A (wBL h a0 a1 a2 cy N ec cc f cs tr o cl g) s.heap.size = A at hD ⊢
  have hA : ∀ q : Nat, s.heap.size ≤ q → A q := fun q h => by rw [← hAe]; exact Or.inr h
  have hS : va_S A s.heap s.heap [] := va_S.rf
  have htb := vx_table (x := yL_part) B (hts (.codeWith yL_part cL_part 5 (some .int) [(0, 10, 13, 19), (0, 10, 17, 21), (0, 10, 21, 26)]) (by decide +kernel))
  have hl := lv_entry ([.ref h, .int (nI u), .int (nI v), .ref o]) (n := 5) (Nat.le_of_ble_eq_true rfl)
  rw [lg_entry_eq]
  generalize (lg_sl ([.ref h, .int (nI u), .int (nI v), .ref o]) ++ List.replicate (5 - (lg_sl ([.ref h, .int (nI u), .int (nI v), .ref o])).length) Slot.unset).toArray = ls at hl ⊢
  have hl : lv_has ls 5 [(0, .ref h), (1, .int (nI u)), (2, .int (nI v)), (3, .ref o)] := hl
  refine lv_aload_n hx hb dL_part_0 rfl (lv_at hl 3 rfl) ?_
  refine lv_iconst (v := (nI 0)) hx hb dL_part_1 (by decide) ?_
  refine lv_aload_n hx hb dL_part_2 rfl (lv_at hl 0 rfl) ?_
  refine lv_iload_n hx hb dL_part_3 rfl (lv_at hl 1 rfl) ?_
  refine lv_iload_n hx hb dL_part_4 rfl (lv_at hl 2 rfl) ?_
  have hPb := hP.sub (ws' := wB h a0 a1 a2 cy N ec cc f cs tr) [1, 2, 3, 4] rfl
  refine vx_calli (vx_runV (As := [.int (nI u), .int (nI v)]) (rest := [.int (nI 0), .ref o]) ⟨hx, hb, hml, hown, hts⟩ (c_X0_part_not l hfl D cy h a0 a1 a2 N ec cc f cs tr u v  hN hu hv huv he) (cwV 2 hts gL_part_X0_part rfl rfl rfl (by decide +kernel) ⟨Nat.le_of_ble_eq_true rfl, Nat.le_of_ble_eq_true rfl⟩) ⟨fun a U g mk q => ⟨q.1, ⟨q.2.1.1, va_K.moved (u := U) (U := U.calling g mk a) (Vm.Alike.refl U.vm) q.2.1.2⟩, q.2.2.same rfl rfl⟩, va_recv hK hPb (ci := 0) (q0 := 0) rfl rfl, fun U hU hW => ⟨rfl, ⟨by rw [hU]; exact hPb, va_K.moved hW.alike (hK.sub [0] rfl)⟩, hT.move hW ⟨by rw [hU]; exact Nat.le_refl _, fun q _ => by rw [hU]⟩⟩⟩ rfl rfl hl.1 rfl (lv_room (Nat.le_of_ble_eq_true rfl)) dL_part_5 ⟨Nat.le_of_ble_eq_true rfl, Nat.le_of_ble_eq_true rfl⟩) hS (fun _ _ h => h.elim) (fun _ h => h.elim) (fun _ _ h => h.elim) (fun E2 ce q9 u9 t9 H locs ht9 hvm9 hp9 hB hz hk hS hce hcv hcl => ?_) (fun r u t H1 locs1 ht hvm hw hB hz hk hS1 => hw.elim)
  have hP := zkeep hP ⟨hz, fun q h => hk q h (fun z => z)⟩
  obtain rfl : E2 = nNSE := hB
  refine vx_catch (name := nNSE) hown [⟨0, 10, 13, 19⟩, ⟨0, 10, 17, 21⟩] ⟨0, 10, 21, 26⟩ [] (htb.trans rfl) (List.forall_mem_cons.mpr ⟨Or.inr ⟨by decide, nIOB, hts (.classLink RL 19 nIOB) (by decide +kernel), hT.2.2.1 nNSE (by simp) nIOB (by simp) (by decide)⟩, (List.forall_mem_cons.mpr ⟨Or.inr ⟨by decide, nIAE, hts (.classLink RL 21 nIAE) (by decide +kernel), hT.2.2.1 nNSE (by simp) nIAE (by simp) (by decide)⟩, (fun _ h => absurd h List.not_mem_nil)⟩)⟩) (by decide) (by decide) (hts (.classLink RL 26 nNSE) (by decide +kernel)) (va_Nw.use rfl (hT.2.1 nNSE (by simp))) hce hcv hcl ?_
  refine lv_astore (lv' := [(4, .ref q9), (0, .ref h), (1, .int (nI u)), (2, .int (nI v)), (3, .ref o)]) hx hb dL_part_21 hl (by decide) rfl (fun ls hl => ?_)
  refine lv_iconst (v := (nI 3)) hx hb dL_part_23 (by decide) ?_
  refine vx_ret ?_
  exact W.iret (v := (nI 3)) hx hb hr (fun t9 ht9 hW9 => ⟨⟨(nI 3), (), rfl, rfl, by show va_P D vwCl (wBL h a0 a1 a2 cy N ec cc f cs tr o cl g) t9.heap; rw [ht9]; exact hP⟩, hS.F ht9⟩) hS.2.2 dL_part_24

set_option maxHeartbeats 4000000 in
set_option maxRecDepth 100000 in
theorem w_isolate_ok (l : Launch) (D : va_G) (cy : ClassId) (h a0 a1 a2 N : Nat) (ec cc : Int32) (f cs tr : Nat → Int32) (o : Nat) (cl : ClassId) (g : Nat → Int64) (sz : Nat) (u : Nat) (hg : gd f N) (hu : u < N) (hcs : csJ cs (cnum f N) N) (hec : ec = nI (ewn f N (zal N))) : vx_Met l yL_isolate wsL_isolate ({ frames := 8, cells := 0, slots := 0, locals := 155 } : Room) (va_Pc [.ref h, .int (nI u), .ref o] (fun U => zWr D (wBL h a0 a1 a2 cy N ec cc f cs tr o cl g) [(cy, .int), (cl, .long)] sz U ∧ True)) (va_Qi (fun (r : Int32) (z9 : Int32 × (Nat → Int32)) => r = nI 0 ∧ (z9.1 = nI (ise f u N) ∧ csJ z9.2 (cnum (iso f u N) N) N)) (fun z9 t => va_P D vwCl (wBL h a0 a1 a2 cy N (nI (ewn (iso f u N) N (zal N))) (cc + nI (isc f u N (fun j => cnum (iso f u j) N) N)) (iso f u N) z9.2 tr o cl (vp_updL g 0 (z9.1).toInt64)) t.heap) (va_A (wBL h a0 a1 a2 cy N ec cc f cs tr o cl g) sz)) zXn 0 0 (va_A (wBL h a0 a1 a2 cy N ec cc f cs tr o cl g) sz) := by
  refine vx_ofWH (cc := cL_isolate) (maxL := 4) (ret := (some .int)) (by decide) rfl ?_
  intro p e s m args below meth c s₁ B hml hv
  obtain ⟨rfl, ⟨hsz, hP, hK, hD0⟩, hT⟩ := hv
  have hx := B.exec
  have hb := B.bytes
  have hr := B.returns
  have hts := atoms_spec (ws := wsL_isolate) B.pre
  have hown : s.vm.findClass RL = some m.cls := findClass_of_methodNamed B.named
  have hlocks := B.notSynchronized
  subst hsz
  have hD := hD0.self (sz := s.heap.size)
  generalize hAe : va_A (wBL h a0 a1 a2 cy N ec cc f cs tr o cl g) s.heap.size = A at hD ⊢
  have hA : ∀ q : Nat, s.heap.size ≤ q → A q := fun q h => by rw [← hAe]; exact Or.inr h
  have hS : va_S A s.heap s.heap [] := va_S.rf
  have hl := lv_entry ([.ref h, .int (nI u), .ref o]) (n := 4) (Nat.le_of_ble_eq_true rfl)
  rw [lg_entry_eq]
  generalize (lg_sl ([.ref h, .int (nI u), .ref o]) ++ List.replicate (4 - (lg_sl ([.ref h, .int (nI u), .ref o])).length) Slot.unset).toArray = ls at hl ⊢
  have hl : lv_has ls 4 [(0, .ref h), (1, .int (nI u)), (2, .ref o)] := hl
  refine lv_aload_n hx hb dL_isolate_0 rfl (lv_at hl 2 rfl) ?_
  refine lv_iconst (v := (nI 0)) hx hb dL_isolate_1 (by decide) ?_
  refine lv_aload_n hx hb dL_isolate_2 rfl (lv_at hl 0 rfl) ?_
  refine lv_iload_n hx hb dL_isolate_3 rfl (lv_at hl 1 rfl) ?_
  have hPb := hP.sub (ws' := wB h a0 a1 a2 cy N ec cc f cs tr) [1, 2, 3, 4] rfl
  have hDb := hD.sub (ws' := wB h a0 a1 a2 cy N ec cc f cs tr) [1, 2, 3, 4] (by decide) rfl
  refine zjVi (As := [.int (nI u)]) (rest := [.int (nI 0), .ref o]) (wr := [(o, .inl (cl, 1, .inr (.inl g)))]) 0 [1, 2, 3, 4] [0] rfl rfl rfl (by decide) (by exact fun _ => rfl) ⟨hx, hb, hml, hown, hts⟩ (c_X0_isolate_ok l D cy h a0 a1 a2 N ec cc f cs tr _ u  hg hu hcs hec) (cwV 1 hts gL_isolate_X0_isolate rfl rfl rfl (by decide +kernel) ⟨Nat.le_of_ble_eq_true rfl, Nat.le_of_ble_eq_true rfl⟩) (hK.sub [0] rfl) hP hPb hD hDb hA rfl rfl rfl hl rfl (Nat.le_of_ble_eq_true rfl) dL_isolate_4 ⟨Nat.le_of_ble_eq_true rfl, Nat.le_of_ble_eq_true rfl⟩ hS (fun a9 u9 H locs hw9 hP hS => ?_)
  obtain ⟨cs_4, rfl⟩ : ∃ z, z = u9 := ⟨_, rfl⟩
  have hP : va_P D vwCl (wBL h a0 a1 a2 cy N (nI (ewn (iso f u N) N (zal N))) (cc + nI (isc f u N (fun j => cnum (iso f u j) N) N)) (iso f u N) cs_4 tr o cl g) H := hP
  have hD : va_D A (wBL h a0 a1 a2 cy N (nI (ewn (iso f u N) N (zal N))) (cc + nI (isc f u N (fun j => cnum (iso f u j) N) N)) (iso f u N) cs_4 tr o cl g) := zD hD rfl
  have hw9 : a9 = nI (ise f u N) ∧ csJ cs_4 (cnum (iso f u N) N) N := hw9
  refine lv_i2l (v := (a9).toInt64) hx hb dL_isolate_7 rfl ?_
  refine va_last hx hb hK hP hD hS 0 1 rfl rfl (vp_in_nI (by decide) (by decide)) dL_isolate_8 (fun H locs hP hD hS => ?_)
  have hP : va_P D vwCl (wBL h a0 a1 a2 cy N (nI (ewn (iso f u N) N (zal N))) (cc + nI (isc f u N (fun j => cnum (iso f u j) N) N)) (iso f u N) cs_4 tr o cl (vp_updL g 0 (a9).toInt64)) H := hP
  refine lv_goto (tgt := 15) hx hb dL_isolate_9 (by decide) ?_
  refine lv_iconst (v := (nI 0)) hx hb dL_isolate_15 (by decide) ?_
  refine vx_ret ?_
  exact W.iret (v := (nI 0)) hx hb hr (fun t9 ht9 hW9 => ⟨⟨(nI 0), (a9, cs_4), rfl, ⟨rfl, hw9⟩, by show va_P D vwCl (wBL h a0 a1 a2 cy N (nI (ewn (iso f u N) N (zal N))) (cc + nI (isc f u N (fun j => cnum (iso f u j) N) N)) (iso f u N) cs_4 tr o cl (vp_updL g 0 (a9).toInt64)) t9.heap; rw [ht9]; exact hP⟩, hS.F ht9⟩) hS.2.2 dL_isolate_16

set_option maxHeartbeats 4000000 in
set_option maxRecDepth 100000 in
theorem w_isolate_bad (l : Launch) (hfl : l.stackTraces = false) (D : va_G) (cy : ClassId) (h a0 a1 a2 N : Nat) (ec cc : Int32) (f cs tr : Nat → Int32) (o : Nat) (cl : ClassId) (g : Nat → Int64) (sz : Nat) (q : Int32) (hq : isNb q N = false) : vx_Met l yL_isolate wsL_isolate ({ frames := 8, cells := 1, slots := 6, locals := 155 } : Room) (va_Pc [.ref h, .int q, .ref o] (fun U => zWr D (wBL h a0 a1 a2 cy N ec cc f cs tr o cl g) [(cy, .int), (cl, .long)] sz U ∧ zTh U)) (va_Qi (fun (r : Int32) (z9 : Unit) => r = nI 1) (fun z9 t => va_P D vwCl (wBL h a0 a1 a2 cy N ec cc f cs tr o cl g) t.heap) (va_A (wBL h a0 a1 a2 cy N ec cc f cs tr o cl g) sz)) zXn 1 6 (va_A (wBL h a0 a1 a2 cy N ec cc f cs tr o cl g) sz) := by
  refine vx_ofWH (cc := cL_isolate) (maxL := 4) (ret := (some .int)) (by decide) rfl ?_
  intro p e s m args below meth c s₁ B hml hv
  obtain ⟨rfl, ⟨hsz, hP, hK, hD0⟩, hT⟩ := hv
  have hx := B.exec
  have hb := B.bytes
  have hr := B.returns
  have hts := atoms_spec (ws := wsL_isolate) B.pre
  have hown : s.vm.findClass RL = some m.cls := findClass_of_methodNamed B.named
  have hlocks := B.notSynchronized
  subst hsz
  have hD := hD0.self (sz := s.heap.size)
  generalize hAe : va_A (wBL h a0 a1 a2 cy N ec cc f cs tr o cl g) s.heap.size = A at hD ⊢
  have hA : ∀ q : Nat, s.heap.size ≤ q → A q := fun q h => by rw [← hAe]; exact Or.inr h
  have hS : va_S A s.heap s.heap [] := va_S.rf
  have htb := vx_table (x := yL_isolate) B (hts (.codeWith yL_isolate cL_isolate 4 (some .int) [(0, 9, 12, 19)]) (by decide +kernel))
  have hl := lv_entry ([.ref h, .int q, .ref o]) (n := 4) (Nat.le_of_ble_eq_true rfl)
  rw [lg_entry_eq]
  generalize (lg_sl ([.ref h, .int q, .ref o]) ++ List.replicate (4 - (lg_sl ([.ref h, .int q, .ref o])).length) Slot.unset).toArray = ls at hl ⊢
  have hl : lv_has ls 4 [(0, .ref h), (1, .int q), (2, .ref o)] := hl
  refine lv_aload_n hx hb dL_isolate_0 rfl (lv_at hl 2 rfl) ?_
  refine lv_iconst (v := (nI 0)) hx hb dL_isolate_1 (by decide) ?_
  refine lv_aload_n hx hb dL_isolate_2 rfl (lv_at hl 0 rfl) ?_
  refine lv_iload_n hx hb dL_isolate_3 rfl (lv_at hl 1 rfl) ?_
  have hPb := hP.sub (ws' := wB h a0 a1 a2 cy N ec cc f cs tr) [1, 2, 3, 4] rfl
  refine vx_calli (vx_runV (As := [.int q]) (rest := [.int (nI 0), .ref o]) ⟨hx, hb, hml, hown, hts⟩ (c_X0_isolate_bad l hfl D cy h a0 a1 a2 N ec cc f cs tr q  hq) (cwV 1 hts gL_isolate_X0_isolate rfl rfl rfl (by decide +kernel) ⟨Nat.le_of_ble_eq_true rfl, Nat.le_of_ble_eq_true rfl⟩) ⟨fun a U g mk q => ⟨q.1, ⟨q.2.1.1, va_K.moved (u := U) (U := U.calling g mk a) (Vm.Alike.refl U.vm) q.2.1.2⟩, q.2.2.same rfl rfl⟩, va_recv hK hPb (ci := 0) (q0 := 0) rfl rfl, fun U hU hW => ⟨rfl, ⟨by rw [hU]; exact hPb, va_K.moved hW.alike (hK.sub [0] rfl)⟩, hT.move hW ⟨by rw [hU]; exact Nat.le_refl _, fun q _ => by rw [hU]⟩⟩⟩ rfl rfl hl.1 rfl (lv_room (Nat.le_of_ble_eq_true rfl)) dL_isolate_4 ⟨Nat.le_of_ble_eq_true rfl, Nat.le_of_ble_eq_true rfl⟩) hS (fun _ _ h => h.elim) (fun _ h => h.elim) (fun _ _ h => h.elim) (fun E2 ce q9 u9 t9 H locs ht9 hvm9 hp9 hB hz hk hS hce hcv hcl => ?_) (fun r u t H1 locs1 ht hvm hw hB hz hk hS1 => hw.elim)
  have hP := zkeep hP ⟨hz, fun q h => hk q h (fun z => z)⟩
  obtain rfl : E2 = nIOB := hB
  refine vx_catch (name := nIOB) hown [] ⟨0, 9, 12, 19⟩ [] (htb.trans rfl) (fun _ h => absurd h List.not_mem_nil) (by decide) (by decide) (hts (.classLink RL 19 nIOB) (by decide +kernel)) (va_Nw.use rfl (hT.2.1 nIOB (by simp))) hce hcv hcl ?_
  refine lv_astore_n (lv' := [(3, .ref q9), (0, .ref h), (1, .int q), (2, .ref o)]) hx hb dL_isolate_12 rfl hl (by decide) rfl (fun ls hl => ?_)
  refine lv_iconst (v := (nI 1)) hx hb dL_isolate_13 (by decide) ?_
  refine vx_ret ?_
  exact W.iret (v := (nI 1)) hx hb hr (fun t9 ht9 hW9 => ⟨⟨(nI 1), (), rfl, rfl, by show va_P D vwCl (wBL h a0 a1 a2 cy N ec cc f cs tr o cl g) t9.heap; rw [ht9]; exact hP⟩, hS.F ht9⟩) hS.2.2 dL_isolate_14

set_option maxHeartbeats 4000000 in
set_option maxRecDepth 100000 in
theorem w_degree_ok (l : Launch) (D : va_G) (cy : ClassId) (h a0 a1 a2 N : Nat) (ec cc : Int32) (f cs tr : Nat → Int32) (o : Nat) (cl : ClassId) (g : Nat → Int64) (sz : Nat) (u : Nat) (hN : N ≤ 20) (hu : u < N) : vx_Met l yL_degree wsL_degree ({ frames := 8, cells := 0, slots := 0, locals := 124 } : Room) (va_Pc [.ref h, .int (nI u), .ref o] (fun U => zWr D (wBL h a0 a1 a2 cy N ec cc f cs tr o cl g) [(cy, .int), (cl, .long)] sz U ∧ True)) (va_Qi (fun (r : Int32) (z9 : Int32) => r = nI 0 ∧ (z9 = nI (zpop (f u)))) (fun z9 t => va_P D vwCl (wBL h a0 a1 a2 cy N ec cc f cs tr o cl (vp_updL g 0 (z9).toInt64)) t.heap) (va_A (wBL h a0 a1 a2 cy N ec cc f cs tr o cl g) sz)) zXn 0 0 (va_A (wBL h a0 a1 a2 cy N ec cc f cs tr o cl g) sz) := by
  refine vx_ofWH (cc := cL_degree) (maxL := 4) (ret := (some .int)) (by decide) rfl ?_
  intro p e s m args below meth c s₁ B hml hv
  obtain ⟨rfl, ⟨hsz, hP, hK, hD0⟩, hT⟩ := hv
  have hx := B.exec
  have hb := B.bytes
  have hr := B.returns
  have hts := atoms_spec (ws := wsL_degree) B.pre
  have hown : s.vm.findClass RL = some m.cls := findClass_of_methodNamed B.named
  have hlocks := B.notSynchronized
  subst hsz
  have hD := hD0.self (sz := s.heap.size)
  generalize hAe : va_A (wBL h a0 a1 a2 cy N ec cc f cs tr o cl g) s.heap.size = A at hD ⊢
  have hA : ∀ q : Nat, s.heap.size ≤ q → A q := fun q h => by rw [← hAe]; exact Or.inr h
  have hS : va_S A s.heap s.heap [] := va_S.rf
  have hl := lv_entry ([.ref h, .int (nI u), .ref o]) (n := 4) (Nat.le_of_ble_eq_true rfl)
  rw [lg_entry_eq]
  generalize (lg_sl ([.ref h, .int (nI u), .ref o]) ++ List.replicate (4 - (lg_sl ([.ref h, .int (nI u), .ref o])).length) Slot.unset).toArray = ls at hl ⊢
  have hl : lv_has ls 4 [(0, .ref h), (1, .int (nI u)), (2, .ref o)] := hl
  refine lv_aload_n hx hb dL_degree_0 rfl (lv_at hl 2 rfl) ?_
  refine lv_iconst (v := (nI 0)) hx hb dL_degree_1 (by decide) ?_
  refine lv_aload_n hx hb dL_degree_2 rfl (lv_at hl 0 rfl) ?_
  refine lv_iload_n hx hb dL_degree_3 rfl (lv_at hl 1 rfl) ?_
  have hPb := hP.sub (ws' := wB h a0 a1 a2 cy N ec cc f cs tr) [1, 2, 3, 4] rfl
  refine zrV (As := [.int (nI u)]) (rest := [.int (nI 0), .ref o]) 0 ⟨hx, hb, hml, hown, hts⟩ (c_X0_degree_ok l D cy h a0 a1 a2 N ec cc f cs tr u  hN hu) (cwV 1 hts gL_degree_X0_degree rfl rfl rfl (by decide +kernel) ⟨Nat.le_of_ble_eq_true rfl, Nat.le_of_ble_eq_true rfl⟩) (hK.sub [0] rfl) hPb rfl rfl rfl hl rfl (Nat.le_of_ble_eq_true rfl) dL_degree_4 ⟨Nat.le_of_ble_eq_true rfl, Nat.le_of_ble_eq_true rfl⟩ hS (fun a9 H locs hw9 hk9 hS => ?_)
  have hP := zkeep hP hk9
  have hw9 : a9 = nI (zpop (f u)) := hw9
  refine lv_i2l (v := (a9).toInt64) hx hb dL_degree_7 rfl ?_
  refine va_last hx hb hK hP hD hS 0 1 rfl rfl (vp_in_nI (by decide) (by decide)) dL_degree_8 (fun H locs hP hD hS => ?_)
  have hP : va_P D vwCl (wBL h a0 a1 a2 cy N ec cc f cs tr o cl (vp_updL g 0 (a9).toInt64)) H := hP
  refine lv_goto (tgt := 15) hx hb dL_degree_9 (by decide) ?_
  refine lv_iconst (v := (nI 0)) hx hb dL_degree_15 (by decide) ?_
  refine vx_ret ?_
  exact W.iret (v := (nI 0)) hx hb hr (fun t9 ht9 hW9 => ⟨⟨(nI 0), a9, rfl, ⟨rfl, hw9⟩, by show va_P D vwCl (wBL h a0 a1 a2 cy N ec cc f cs tr o cl (vp_updL g 0 (a9).toInt64)) t9.heap; rw [ht9]; exact hP⟩, hS.F ht9⟩) hS.2.2 dL_degree_16

set_option maxHeartbeats 4000000 in
set_option maxRecDepth 100000 in
theorem w_degree_bad (l : Launch) (hfl : l.stackTraces = false) (D : va_G) (cy : ClassId) (h a0 a1 a2 N : Nat) (ec cc : Int32) (f cs tr : Nat → Int32) (o : Nat) (cl : ClassId) (g : Nat → Int64) (sz : Nat) (q : Int32) (hq : isNb q N = false) : vx_Met l yL_degree wsL_degree ({ frames := 8, cells := 1, slots := 6, locals := 124 } : Room) (va_Pc [.ref h, .int q, .ref o] (fun U => zWr D (wBL h a0 a1 a2 cy N ec cc f cs tr o cl g) [(cy, .int), (cl, .long)] sz U ∧ zTh U)) (va_Qi (fun (r : Int32) (z9 : Unit) => r = nI 1) (fun z9 t => va_P D vwCl (wBL h a0 a1 a2 cy N ec cc f cs tr o cl g) t.heap) (va_A (wBL h a0 a1 a2 cy N ec cc f cs tr o cl g) sz)) zXn 1 6 (va_A (wBL h a0 a1 a2 cy N ec cc f cs tr o cl g) sz) := by
  refine vx_ofWH (cc := cL_degree) (maxL := 4) (ret := (some .int)) (by decide) rfl ?_
  intro p e s m args below meth c s₁ B hml hv
  obtain ⟨rfl, ⟨hsz, hP, hK, hD0⟩, hT⟩ := hv
  have hx := B.exec
  have hb := B.bytes
  have hr := B.returns
  have hts := atoms_spec (ws := wsL_degree) B.pre
  have hown : s.vm.findClass RL = some m.cls := findClass_of_methodNamed B.named
  have hlocks := B.notSynchronized
  subst hsz
  have hD := hD0.self (sz := s.heap.size)
  generalize hAe : va_A (wBL h a0 a1 a2 cy N ec cc f cs tr o cl g) s.heap.size = A at hD ⊢
  have hA : ∀ q : Nat, s.heap.size ≤ q → A q := fun q h => by rw [← hAe]; exact Or.inr h
  have hS : va_S A s.heap s.heap [] := va_S.rf
  have htb := vx_table (x := yL_degree) B (hts (.codeWith yL_degree cL_degree 4 (some .int) [(0, 9, 12, 19)]) (by decide +kernel))
  have hl := lv_entry ([.ref h, .int q, .ref o]) (n := 4) (Nat.le_of_ble_eq_true rfl)
  rw [lg_entry_eq]
  generalize (lg_sl ([.ref h, .int q, .ref o]) ++ List.replicate (4 - (lg_sl ([.ref h, .int q, .ref o])).length) Slot.unset).toArray = ls at hl ⊢
  have hl : lv_has ls 4 [(0, .ref h), (1, .int q), (2, .ref o)] := hl
  refine lv_aload_n hx hb dL_degree_0 rfl (lv_at hl 2 rfl) ?_
  refine lv_iconst (v := (nI 0)) hx hb dL_degree_1 (by decide) ?_
  refine lv_aload_n hx hb dL_degree_2 rfl (lv_at hl 0 rfl) ?_
  refine lv_iload_n hx hb dL_degree_3 rfl (lv_at hl 1 rfl) ?_
  have hPb := hP.sub (ws' := wB h a0 a1 a2 cy N ec cc f cs tr) [1, 2, 3, 4] rfl
  refine vx_calli (vx_runV (As := [.int q]) (rest := [.int (nI 0), .ref o]) ⟨hx, hb, hml, hown, hts⟩ (c_X0_degree_bad l hfl D cy h a0 a1 a2 N ec cc f cs tr q  hq) (cwV 1 hts gL_degree_X0_degree rfl rfl rfl (by decide +kernel) ⟨Nat.le_of_ble_eq_true rfl, Nat.le_of_ble_eq_true rfl⟩) ⟨fun a U g mk q => ⟨q.1, ⟨q.2.1.1, va_K.moved (u := U) (U := U.calling g mk a) (Vm.Alike.refl U.vm) q.2.1.2⟩, q.2.2.same rfl rfl⟩, va_recv hK hPb (ci := 0) (q0 := 0) rfl rfl, fun U hU hW => ⟨rfl, ⟨by rw [hU]; exact hPb, va_K.moved hW.alike (hK.sub [0] rfl)⟩, hT.move hW ⟨by rw [hU]; exact Nat.le_refl _, fun q _ => by rw [hU]⟩⟩⟩ rfl rfl hl.1 rfl (lv_room (Nat.le_of_ble_eq_true rfl)) dL_degree_4 ⟨Nat.le_of_ble_eq_true rfl, Nat.le_of_ble_eq_true rfl⟩) hS (fun _ _ h => h.elim) (fun _ h => h.elim) (fun _ _ h => h.elim) (fun E2 ce q9 u9 t9 H locs ht9 hvm9 hp9 hB hz hk hS hce hcv hcl => ?_) (fun r u t H1 locs1 ht hvm hw hB hz hk hS1 => hw.elim)
  have hP := zkeep hP ⟨hz, fun q h => hk q h (fun z => z)⟩
  obtain rfl : E2 = nIOB := hB
  refine vx_catch (name := nIOB) hown [] ⟨0, 9, 12, 19⟩ [] (htb.trans rfl) (fun _ h => absurd h List.not_mem_nil) (by decide) (by decide) (hts (.classLink RL 19 nIOB) (by decide +kernel)) (va_Nw.use rfl (hT.2.1 nIOB (by simp))) hce hcv hcl ?_
  refine lv_astore_n (lv' := [(3, .ref q9), (0, .ref h), (1, .int q), (2, .ref o)]) hx hb dL_degree_12 rfl hl (by decide) rfl (fun ls hl => ?_)
  refine lv_iconst (v := (nI 1)) hx hb dL_degree_13 (by decide) ?_
  refine vx_ret ?_
  exact W.iret (v := (nI 1)) hx hb hr (fun t9 ht9 hW9 => ⟨⟨(nI 1), (), rfl, rfl, by show va_P D vwCl (wBL h a0 a1 a2 cy N ec cc f cs tr o cl g) t9.heap; rw [ht9]; exact hP⟩, hS.F ht9⟩) hS.2.2 dL_degree_14

set_option maxHeartbeats 4000000 in
set_option maxRecDepth 100000 in
theorem w_neighbour_ok (l : Launch) (D : va_G) (cy : ClassId) (h a0 a1 a2 N : Nat) (ec cc : Int32) (f cs tr : Nat → Int32) (o : Nat) (cl : ClassId) (g : Nat → Int64) (sz : Nat) (u q : Nat) (hN : N ≤ 20) (hg : gd f N) (hu : u < N) (hq : q < zpop (f u)) : vx_Met l yL_neighbour wsL_neighbour ({ frames := 8, cells := 0, slots := 0, locals := 127 } : Room) (va_Pc [.ref h, .int (nI u), .int (nI q), .ref o] (fun U => zWr D (wBL h a0 a1 a2 cy N ec cc f cs tr o cl g) [(cy, .int), (cl, .long)] sz U ∧ True)) (va_Qi (fun (r : Int32) (z9 : Int32) => r = nI 0 ∧ (∃ w, z9 = nI w ∧ bt (f u) w = true ∧ fb_ct (bt (f u)) w = q)) (fun z9 t => va_P D vwCl (wBL h a0 a1 a2 cy N ec cc f cs tr o cl (vp_updL g 0 (z9).toInt64)) t.heap) (va_A (wBL h a0 a1 a2 cy N ec cc f cs tr o cl g) sz)) zXn 0 0 (va_A (wBL h a0 a1 a2 cy N ec cc f cs tr o cl g) sz) := by
  refine vx_ofWH (cc := cL_neighbour) (maxL := 5) (ret := (some .int)) (by decide) rfl ?_
  intro p e s m args below meth c s₁ B hml hv
  obtain ⟨rfl, ⟨hsz, hP, hK, hD0⟩, hT⟩ := hv
  have hx := B.exec
  have hb := B.bytes
  have hr := B.returns
  have hts := atoms_spec (ws := wsL_neighbour) B.pre
  have hown : s.vm.findClass RL = some m.cls := findClass_of_methodNamed B.named
  have hlocks := B.notSynchronized
  subst hsz
  have hD := hD0.self (sz := s.heap.size)
  generalize hAe : va_A (wBL h a0 a1 a2 cy N ec cc f cs tr o cl g) s.heap.size = A at hD ⊢
  have hA : ∀ q : Nat, s.heap.size ≤ q → A q := fun q h => by rw [← hAe]; exact Or.inr h
  have hS : va_S A s.heap s.heap [] := va_S.rf
  have hl := lv_entry ([.ref h, .int (nI u), .int (nI q), .ref o]) (n := 5) (Nat.le_of_ble_eq_true rfl)
  rw [lg_entry_eq]
  generalize (lg_sl ([.ref h, .int (nI u), .int (nI q), .ref o]) ++ List.replicate (5 - (lg_sl ([.ref h, .int (nI u), .int (nI q), .ref o])).length) Slot.unset).toArray = ls at hl ⊢
  have hl : lv_has ls 5 [(0, .ref h), (1, .int (nI u)), (2, .int (nI q)), (3, .ref o)] := hl
  refine lv_aload_n hx hb dL_neighbour_0 rfl (lv_at hl 3 rfl) ?_
  refine lv_iconst (v := (nI 0)) hx hb dL_neighbour_1 (by decide) ?_
  refine lv_aload_n hx hb dL_neighbour_2 rfl (lv_at hl 0 rfl) ?_
  refine lv_iload_n hx hb dL_neighbour_3 rfl (lv_at hl 1 rfl) ?_
  refine lv_iload_n hx hb dL_neighbour_4 rfl (lv_at hl 2 rfl) ?_
  have hPb := hP.sub (ws' := wB h a0 a1 a2 cy N ec cc f cs tr) [1, 2, 3, 4] rfl
  refine zrV (As := [.int (nI u), .int (nI q)]) (rest := [.int (nI 0), .ref o]) 0 ⟨hx, hb, hml, hown, hts⟩ (c_X0_neighbour_ok l D cy h a0 a1 a2 N ec cc f cs tr u q  hN hg hu hq) (cwV 2 hts gL_neighbour_X0_neighbour rfl rfl rfl (by decide +kernel) ⟨Nat.le_of_ble_eq_true rfl, Nat.le_of_ble_eq_true rfl⟩) (hK.sub [0] rfl) hPb rfl rfl rfl hl rfl (Nat.le_of_ble_eq_true rfl) dL_neighbour_5 ⟨Nat.le_of_ble_eq_true rfl, Nat.le_of_ble_eq_true rfl⟩ hS (fun a9 H locs hw9 hk9 hS => ?_)
  have hP := zkeep hP hk9
  have hw9 : ∃ w, a9 = nI w ∧ bt (f u) w = true ∧ fb_ct (bt (f u)) w = q := hw9
  refine lv_i2l (v := (a9).toInt64) hx hb dL_neighbour_8 rfl ?_
  refine va_last hx hb hK hP hD hS 0 1 rfl rfl (vp_in_nI (by decide) (by decide)) dL_neighbour_9 (fun H locs hP hD hS => ?_)
  have hP : va_P D vwCl (wBL h a0 a1 a2 cy N ec cc f cs tr o cl (vp_updL g 0 (a9).toInt64)) H := hP
  refine lv_goto (tgt := 17) hx hb dL_neighbour_10 (by decide) ?_
  refine lv_iconst (v := (nI 0)) hx hb dL_neighbour_17 (by decide) ?_
  refine vx_ret ?_
  exact W.iret (v := (nI 0)) hx hb hr (fun t9 ht9 hW9 => ⟨⟨(nI 0), a9, rfl, ⟨rfl, hw9⟩, by show va_P D vwCl (wBL h a0 a1 a2 cy N ec cc f cs tr o cl (vp_updL g 0 (a9).toInt64)) t9.heap; rw [ht9]; exact hP⟩, hS.F ht9⟩) hS.2.2 dL_neighbour_18

set_option maxHeartbeats 4000000 in
set_option maxRecDepth 100000 in
theorem w_neighbour_bad (l : Launch) (hfl : l.stackTraces = false) (D : va_G) (cy : ClassId) (h a0 a1 a2 N : Nat) (ec cc : Int32) (f cs tr : Nat → Int32) (o : Nat) (cl : ClassId) (g : Nat → Int64) (sz : Nat) (q q2 : Int32) (hq : isNb q N = false) : vx_Met l yL_neighbour wsL_neighbour ({ frames := 8, cells := 1, slots := 6, locals := 127 } : Room) (va_Pc [.ref h, .int q, .int q2, .ref o] (fun U => zWr D (wBL h a0 a1 a2 cy N ec cc f cs tr o cl g) [(cy, .int), (cl, .long)] sz U ∧ zTh U)) (va_Qi (fun (r : Int32) (z9 : Unit) => r = nI 1) (fun z9 t => va_P D vwCl (wBL h a0 a1 a2 cy N ec cc f cs tr o cl g) t.heap) (va_A (wBL h a0 a1 a2 cy N ec cc f cs tr o cl g) sz)) zXn 1 6 (va_A (wBL h a0 a1 a2 cy N ec cc f cs tr o cl g) sz) := by
  refine vx_ofWH (cc := cL_neighbour) (maxL := 5) (ret := (some .int)) (by decide) rfl ?_
  intro p e s m args below meth c s₁ B hml hv
  obtain ⟨rfl, ⟨hsz, hP, hK, hD0⟩, hT⟩ := hv
  have hx := B.exec
  have hb := B.bytes
  have hr := B.returns
  have hts := atoms_spec (ws := wsL_neighbour) B.pre
  have hown : s.vm.findClass RL = some m.cls := findClass_of_methodNamed B.named
  have hlocks := B.notSynchronized
  subst hsz
  have hD := hD0.self (sz := s.heap.size)
  generalize hAe : va_A (wBL h a0 a1 a2 cy N ec cc f cs tr o cl g) s.heap.size = A at hD ⊢
  have hA : ∀ q : Nat, s.heap.size ≤ q → A q := fun q h => by rw [← hAe]; exact Or.inr h
  have hS : va_S A s.heap s.heap [] := va_S.rf
  have htb := vx_table (x := yL_neighbour) B (hts (.codeWith yL_neighbour cL_neighbour 5 (some .int) [(0, 10, 13, 19)]) (by decide +kernel))
  have hl := lv_entry ([.ref h, .int q, .int q2, .ref o]) (n := 5) (Nat.le_of_ble_eq_true rfl)
  rw [lg_entry_eq]
  generalize (lg_sl ([.ref h, .int q, .int q2, .ref o]) ++ List.replicate (5 - (lg_sl ([.ref h, .int q, .int q2, .ref o])).length) Slot.unset).toArray = ls at hl ⊢
  have hl : lv_has ls 5 [(0, .ref h), (1, .int q), (2, .int q2), (3, .ref o)] := hl
  refine lv_aload_n hx hb dL_neighbour_0 rfl (lv_at hl 3 rfl) ?_
  refine lv_iconst (v := (nI 0)) hx hb dL_neighbour_1 (by decide) ?_
  refine lv_aload_n hx hb dL_neighbour_2 rfl (lv_at hl 0 rfl) ?_
  refine lv_iload_n hx hb dL_neighbour_3 rfl (lv_at hl 1 rfl) ?_
  refine lv_iload_n hx hb dL_neighbour_4 rfl (lv_at hl 2 rfl) ?_
  have hPb := hP.sub (ws' := wB h a0 a1 a2 cy N ec cc f cs tr) [1, 2, 3, 4] rfl
  refine vx_calli (vx_runV (As := [.int q, .int q2]) (rest := [.int (nI 0), .ref o]) ⟨hx, hb, hml, hown, hts⟩ (c_X0_neighbour_bad l hfl D cy h a0 a1 a2 N ec cc f cs tr q q2  hq) (cwV 2 hts gL_neighbour_X0_neighbour rfl rfl rfl (by decide +kernel) ⟨Nat.le_of_ble_eq_true rfl, Nat.le_of_ble_eq_true rfl⟩) ⟨fun a U g mk q => ⟨q.1, ⟨q.2.1.1, va_K.moved (u := U) (U := U.calling g mk a) (Vm.Alike.refl U.vm) q.2.1.2⟩, q.2.2.same rfl rfl⟩, va_recv hK hPb (ci := 0) (q0 := 0) rfl rfl, fun U hU hW => ⟨rfl, ⟨by rw [hU]; exact hPb, va_K.moved hW.alike (hK.sub [0] rfl)⟩, hT.move hW ⟨by rw [hU]; exact Nat.le_refl _, fun q _ => by rw [hU]⟩⟩⟩ rfl rfl hl.1 rfl (lv_room (Nat.le_of_ble_eq_true rfl)) dL_neighbour_5 ⟨Nat.le_of_ble_eq_true rfl, Nat.le_of_ble_eq_true rfl⟩) hS (fun _ _ h => h.elim) (fun _ h => h.elim) (fun _ _ h => h.elim) (fun E2 ce q9 u9 t9 H locs ht9 hvm9 hp9 hB hz hk hS hce hcv hcl => ?_) (fun r u t H1 locs1 ht hvm hw hB hz hk hS1 => hw.elim)
  have hP := zkeep hP ⟨hz, fun q h => hk q h (fun z => z)⟩
  obtain rfl : E2 = nIOB := hB
  refine vx_catch (name := nIOB) hown [] ⟨0, 10, 13, 19⟩ [] (htb.trans rfl) (fun _ h => absurd h List.not_mem_nil) (by decide) (by decide) (hts (.classLink RL 19 nIOB) (by decide +kernel)) (va_Nw.use rfl (hT.2.1 nIOB (by simp))) hce hcv hcl ?_
  refine lv_astore (lv' := [(4, .ref q9), (0, .ref h), (1, .int q), (2, .int q2), (3, .ref o)]) hx hb dL_neighbour_13 hl (by decide) rfl (fun ls hl => ?_)
  refine lv_iconst (v := (nI 1)) hx hb dL_neighbour_15 (by decide) ?_
  refine vx_ret ?_
  exact W.iret (v := (nI 1)) hx hb hr (fun t9 ht9 hW9 => ⟨⟨(nI 1), (), rfl, rfl, by show va_P D vwCl (wBL h a0 a1 a2 cy N ec cc f cs tr o cl g) t9.heap; rw [ht9]; exact hP⟩, hS.F ht9⟩) hS.2.2 dL_neighbour_16

set_option maxHeartbeats 4000000 in
set_option maxRecDepth 100000 in
theorem w_neighbour_badi (l : Launch) (hfl : l.stackTraces = false) (D : va_G) (cy : ClassId) (h a0 a1 a2 N : Nat) (ec cc : Int32) (f cs tr : Nat → Int32) (o : Nat) (cl : ClassId) (g : Nat → Int64) (sz : Nat) (u : Nat) (q : Int32) (hN : N ≤ 20) (hg : gd f N) (hu : u < N) (hq : q < 0 ∨ nI (zpop (f u)) ≤ q) : vx_Met l yL_neighbour wsL_neighbour ({ frames := 8, cells := 1, slots := 6, locals := 127 } : Room) (va_Pc [.ref h, .int (nI u), .int q, .ref o] (fun U => zWr D (wBL h a0 a1 a2 cy N ec cc f cs tr o cl g) [(cy, .int), (cl, .long)] sz U ∧ zTh U)) (va_Qi (fun (r : Int32) (z9 : Unit) => r = nI 1) (fun z9 t => va_P D vwCl (wBL h a0 a1 a2 cy N ec cc f cs tr o cl g) t.heap) (va_A (wBL h a0 a1 a2 cy N ec cc f cs tr o cl g) sz)) zXn 1 6 (va_A (wBL h a0 a1 a2 cy N ec cc f cs tr o cl g) sz) := by
  refine vx_ofWH (cc := cL_neighbour) (maxL := 5) (ret := (some .int)) (by decide) rfl ?_
  intro p e s m args below meth c s₁ B hml hv
  obtain ⟨rfl, ⟨hsz, hP, hK, hD0⟩, hT⟩ := hv
  have hx := B.exec
  have hb := B.bytes
  have hr := B.returns
  have hts := atoms_spec (ws := wsL_neighbour) B.pre
  have hown : s.vm.findClass RL = some m.cls := findClass_of_methodNamed B.named
  have hlocks := B.notSynchronized
  subst hsz
  have hD := hD0.self (sz := s.heap.size)
  generalize hAe : va_A (wBL h a0 a1 a2 cy N ec cc f cs tr o cl g) s.heap.size = A at hD ⊢
  have hA : ∀ q : Nat, s.heap.size ≤ q → A q := fun q h => by rw [← hAe]; exact Or.inr h
  have hS : va_S A s.heap s.heap [] := va_S.rf
  have htb := vx_table (x := yL_neighbour) B (hts (.codeWith yL_neighbour cL_neighbour 5 (some .int) [(0, 10, 13, 19)]) (by decide +kernel))
  have hl := lv_entry ([.ref h, .int (nI u), .int q, .ref o]) (n := 5) (Nat.le_of_ble_eq_true rfl)
  rw [lg_entry_eq]
  generalize (lg_sl ([.ref h, .int (nI u), .int q, .ref o]) ++ List.replicate (5 - (lg_sl ([.ref h, .int (nI u), .int q, .ref o])).length) Slot.unset).toArray = ls at hl ⊢
  have hl : lv_has ls 5 [(0, .ref h), (1, .int (nI u)), (2, .int q), (3, .ref o)] := hl
  refine lv_aload_n hx hb dL_neighbour_0 rfl (lv_at hl 3 rfl) ?_
  refine lv_iconst (v := (nI 0)) hx hb dL_neighbour_1 (by decide) ?_
  refine lv_aload_n hx hb dL_neighbour_2 rfl (lv_at hl 0 rfl) ?_
  refine lv_iload_n hx hb dL_neighbour_3 rfl (lv_at hl 1 rfl) ?_
  refine lv_iload_n hx hb dL_neighbour_4 rfl (lv_at hl 2 rfl) ?_
  have hPb := hP.sub (ws' := wB h a0 a1 a2 cy N ec cc f cs tr) [1, 2, 3, 4] rfl
  refine vx_calli (vx_runV (As := [.int (nI u), .int q]) (rest := [.int (nI 0), .ref o]) ⟨hx, hb, hml, hown, hts⟩ (c_X0_neighbour_badi l hfl D cy h a0 a1 a2 N ec cc f cs tr u q  hN hg hu hq) (cwV 2 hts gL_neighbour_X0_neighbour rfl rfl rfl (by decide +kernel) ⟨Nat.le_of_ble_eq_true rfl, Nat.le_of_ble_eq_true rfl⟩) ⟨fun a U g mk q => ⟨q.1, ⟨q.2.1.1, va_K.moved (u := U) (U := U.calling g mk a) (Vm.Alike.refl U.vm) q.2.1.2⟩, q.2.2.same rfl rfl⟩, va_recv hK hPb (ci := 0) (q0 := 0) rfl rfl, fun U hU hW => ⟨rfl, ⟨by rw [hU]; exact hPb, va_K.moved hW.alike (hK.sub [0] rfl)⟩, hT.move hW ⟨by rw [hU]; exact Nat.le_refl _, fun q _ => by rw [hU]⟩⟩⟩ rfl rfl hl.1 rfl (lv_room (Nat.le_of_ble_eq_true rfl)) dL_neighbour_5 ⟨Nat.le_of_ble_eq_true rfl, Nat.le_of_ble_eq_true rfl⟩) hS (fun _ _ h => h.elim) (fun _ h => h.elim) (fun _ _ h => h.elim) (fun E2 ce q9 u9 t9 H locs ht9 hvm9 hp9 hB hz hk hS hce hcv hcl => ?_) (fun r u t H1 locs1 ht hvm hw hB hz hk hS1 => hw.elim)
  have hP := zkeep hP ⟨hz, fun q h => hk q h (fun z => z)⟩
  obtain rfl : E2 = nIOB := hB
  refine vx_catch (name := nIOB) hown [] ⟨0, 10, 13, 19⟩ [] (htb.trans rfl) (fun _ h => absurd h List.not_mem_nil) (by decide) (by decide) (hts (.classLink RL 19 nIOB) (by decide +kernel)) (va_Nw.use rfl (hT.2.1 nIOB (by simp))) hce hcv hcl ?_
  refine lv_astore (lv' := [(4, .ref q9), (0, .ref h), (1, .int (nI u)), (2, .int q), (3, .ref o)]) hx hb dL_neighbour_13 hl (by decide) rfl (fun ls hl => ?_)
  refine lv_iconst (v := (nI 1)) hx hb dL_neighbour_15 (by decide) ?_
  refine vx_ret ?_
  exact W.iret (v := (nI 1)) hx hb hr (fun t9 ht9 hW9 => ⟨⟨(nI 1), (), rfl, rfl, by show va_P D vwCl (wBL h a0 a1 a2 cy N ec cc f cs tr o cl g) t9.heap; rw [ht9]; exact hP⟩, hS.F ht9⟩) hS.2.2 dL_neighbour_16

set_option maxHeartbeats 4000000 in
set_option maxRecDepth 100000 in
theorem w_areJoined_ok (l : Launch) (D : va_G) (cy : ClassId) (h a0 a1 a2 N : Nat) (ec cc : Int32) (f cs tr : Nat → Int32) (o : Nat) (cl : ClassId) (g : Nat → Int64) (sz : Nat) (u v : Nat) (hN : N ≤ 20) (hu : u < N) (hv : v < N) : vx_Met l yL_areJoined wsL_areJoined ({ frames := 8, cells := 0, slots := 0, locals := 125 } : Room) (va_Pc [.ref h, .int (nI u), .int (nI v), .ref o] (fun U => zWr D (wBL h a0 a1 a2 cy N ec cc f cs tr o cl g) [(cy, .int), (cl, .long)] sz U ∧ True)) (va_Qi (fun (r : Int32) (z9 : Int32) => r = nI 0 ∧ (z9 = zb (bt (f u) v))) (fun z9 t => va_P D vwCl (wBL h a0 a1 a2 cy N ec cc f cs tr o cl (vp_updL g 0 (z9).toInt64)) t.heap) (va_A (wBL h a0 a1 a2 cy N ec cc f cs tr o cl g) sz)) zXn 0 0 (va_A (wBL h a0 a1 a2 cy N ec cc f cs tr o cl g) sz) := by
  refine vx_ofWH (cc := cL_areJoined) (maxL := 5) (ret := (some .int)) (by decide) rfl ?_
  intro p e s m args below meth c s₁ B hml hv
  obtain ⟨rfl, ⟨hsz, hP, hK, hD0⟩, hT⟩ := hv
  have hx := B.exec
  have hb := B.bytes
  have hr := B.returns
  have hts := atoms_spec (ws := wsL_areJoined) B.pre
  have hown : s.vm.findClass RL = some m.cls := findClass_of_methodNamed B.named
  have hlocks := B.notSynchronized
  subst hsz
  have hD := hD0.self (sz := s.heap.size)
  generalize hAe : va_A (wBL h a0 a1 a2 cy N ec cc f cs tr o cl g) s.heap.size = A at hD ⊢
  have hA : ∀ q : Nat, s.heap.size ≤ q → A q := fun q h => by rw [← hAe]; exact Or.inr h
  have hS : va_S A s.heap s.heap [] := va_S.rf
  have hl := lv_entry ([.ref h, .int (nI u), .int (nI v), .ref o]) (n := 5) (Nat.le_of_ble_eq_true rfl)
  rw [lg_entry_eq]
  generalize (lg_sl ([.ref h, .int (nI u), .int (nI v), .ref o]) ++ List.replicate (5 - (lg_sl ([.ref h, .int (nI u), .int (nI v), .ref o])).length) Slot.unset).toArray = ls at hl ⊢
  have hl : lv_has ls 5 [(0, .ref h), (1, .int (nI u)), (2, .int (nI v)), (3, .ref o)] := hl
  refine lv_aload_n hx hb dL_areJoined_0 rfl (lv_at hl 3 rfl) ?_
  refine lv_iconst (v := (nI 0)) hx hb dL_areJoined_1 (by decide) ?_
  refine lv_aload_n hx hb dL_areJoined_2 rfl (lv_at hl 0 rfl) ?_
  refine lv_iload_n hx hb dL_areJoined_3 rfl (lv_at hl 1 rfl) ?_
  refine lv_iload_n hx hb dL_areJoined_4 rfl (lv_at hl 2 rfl) ?_
  have hPb := hP.sub (ws' := wB h a0 a1 a2 cy N ec cc f cs tr) [1, 2, 3, 4] rfl
  refine zrV (As := [.int (nI u), .int (nI v)]) (rest := [.int (nI 0), .ref o]) 0 ⟨hx, hb, hml, hown, hts⟩ (c_X0_areJoined_ok l D cy h a0 a1 a2 N ec cc f cs tr u v  hN hu hv) (cwV 2 hts gL_areJoined_X0_areJoined rfl rfl rfl (by decide +kernel) ⟨Nat.le_of_ble_eq_true rfl, Nat.le_of_ble_eq_true rfl⟩) (hK.sub [0] rfl) hPb rfl rfl rfl hl rfl (Nat.le_of_ble_eq_true rfl) dL_areJoined_5 ⟨Nat.le_of_ble_eq_true rfl, Nat.le_of_ble_eq_true rfl⟩ hS (fun a9 H locs hw9 hk9 hS => ?_)
  have hP := zkeep hP hk9
  obtain rfl : a9 = zb (bt (f u) v) := hw9
  refine z_ifb_eq (tgt := 15) hx hb dL_areJoined_8 (by decide) (fun h8 => ?_) (fun h8 => ?_)
  · refine lv_lconst (v := (zb false).toInt64) hx hb dL_areJoined_15 (by decide) ?_
    refine va_last hx hb hK hP hD hS 0 1 rfl rfl (vp_in_nI (by decide) (by decide)) dL_areJoined_16 (fun H locs hP hD hS => ?_)
    have hP : va_P D vwCl (wBL h a0 a1 a2 cy N ec cc f cs tr o cl (vp_updL g 0 (zb false).toInt64)) H := hP
    refine lv_goto (tgt := 24) hx hb dL_areJoined_17 (by decide) ?_
    refine lv_iconst (v := (nI 0)) hx hb dL_areJoined_24 (by decide) ?_
    refine vx_ret ?_
    exact W.iret (v := (nI 0)) hx hb hr (fun t9 ht9 hW9 => ⟨⟨(nI 0), zb false, rfl, ⟨rfl, by show zb false = zb (bt (f u) v); rw [h8]⟩, by show va_P D vwCl (wBL h a0 a1 a2 cy N ec cc f cs tr o cl (vp_updL g 0 (zb false).toInt64)) t9.heap; rw [ht9]; exact hP⟩, hS.F ht9⟩) hS.2.2 dL_areJoined_25
  · refine lv_lconst (v := (zb true).toInt64) hx hb dL_areJoined_11 (by decide) ?_
    refine lv_goto (tgt := 16) hx hb dL_areJoined_12 (by decide) ?_
    refine va_last hx hb hK hP hD hS 0 1 rfl rfl (vp_in_nI (by decide) (by decide)) dL_areJoined_16 (fun H locs hP hD hS => ?_)
    have hP : va_P D vwCl (wBL h a0 a1 a2 cy N ec cc f cs tr o cl (vp_updL g 0 (zb true).toInt64)) H := hP
    refine lv_goto (tgt := 24) hx hb dL_areJoined_17 (by decide) ?_
    refine lv_iconst (v := (nI 0)) hx hb dL_areJoined_24 (by decide) ?_
    refine vx_ret ?_
    exact W.iret (v := (nI 0)) hx hb hr (fun t9 ht9 hW9 => ⟨⟨(nI 0), zb true, rfl, ⟨rfl, by show zb true = zb (bt (f u) v); rw [h8]⟩, by show va_P D vwCl (wBL h a0 a1 a2 cy N ec cc f cs tr o cl (vp_updL g 0 (zb true).toInt64)) t9.heap; rw [ht9]; exact hP⟩, hS.F ht9⟩) hS.2.2 dL_areJoined_25

set_option maxHeartbeats 4000000 in
set_option maxRecDepth 100000 in
theorem w_areJoined_bad1 (l : Launch) (hfl : l.stackTraces = false) (D : va_G) (cy : ClassId) (h a0 a1 a2 N : Nat) (ec cc : Int32) (f cs tr : Nat → Int32) (o : Nat) (cl : ClassId) (g : Nat → Int64) (sz : Nat) (q1 q2 : Int32) (hq : isNb q1 N = false) : vx_Met l yL_areJoined wsL_areJoined ({ frames := 8, cells := 1, slots := 6, locals := 125 } : Room) (va_Pc [.ref h, .int q1, .int q2, .ref o] (fun U => zWr D (wBL h a0 a1 a2 cy N ec cc f cs tr o cl g) [(cy, .int), (cl, .long)] sz U ∧ zTh U)) (va_Qi (fun (r : Int32) (z9 : Unit) => r = nI 1) (fun z9 t => va_P D vwCl (wBL h a0 a1 a2 cy N ec cc f cs tr o cl g) t.heap) (va_A (wBL h a0 a1 a2 cy N ec cc f cs tr o cl g) sz)) zXn 1 6 (va_A (wBL h a0 a1 a2 cy N ec cc f cs tr o cl g) sz) := by
  refine vx_ofWH (cc := cL_areJoined) (maxL := 5) (ret := (some .int)) (by decide) rfl ?_
  intro p e s m args below meth c s₁ B hml hv
  obtain ⟨rfl, ⟨hsz, hP, hK, hD0⟩, hT⟩ := hv
  have hx := B.exec
  have hb := B.bytes
  have hr := B.returns
  have hts := atoms_spec (ws := wsL_areJoined) B.pre
  have hown : s.vm.findClass RL = some m.cls := findClass_of_methodNamed B.named
  have hlocks := B.notSynchronized
  subst hsz
  have hD := hD0.self (sz := s.heap.size)
  generalize hAe : va_A (wBL h a0 a1 a2 cy N ec cc f cs tr o cl g) s.heap.size = A at hD ⊢
  have hA : ∀ q : Nat, s.heap.size ≤ q → A q := fun q h => by rw [← hAe]; exact Or.inr h
  have hS : va_S A s.heap s.heap [] := va_S.rf
  have htb := vx_table (x := yL_areJoined) B (hts (.codeWith yL_areJoined cL_areJoined 5 (some .int) [(0, 17, 20, 19)]) (by decide +kernel))
  have hl := lv_entry ([.ref h, .int q1, .int q2, .ref o]) (n := 5) (Nat.le_of_ble_eq_true rfl)
  rw [lg_entry_eq]
  generalize (lg_sl ([.ref h, .int q1, .int q2, .ref o]) ++ List.replicate (5 - (lg_sl ([.ref h, .int q1, .int q2, .ref o])).length) Slot.unset).toArray = ls at hl ⊢
  have hl : lv_has ls 5 [(0, .ref h), (1, .int q1), (2, .int q2), (3, .ref o)] := hl
  refine lv_aload_n hx hb dL_areJoined_0 rfl (lv_at hl 3 rfl) ?_
  refine lv_iconst (v := (nI 0)) hx hb dL_areJoined_1 (by decide) ?_
  refine lv_aload_n hx hb dL_areJoined_2 rfl (lv_at hl 0 rfl) ?_
  refine lv_iload_n hx hb dL_areJoined_3 rfl (lv_at hl 1 rfl) ?_
  refine lv_iload_n hx hb dL_areJoined_4 rfl (lv_at hl 2 rfl) ?_
  have hPb := hP.sub (ws' := wB h a0 a1 a2 cy N ec cc f cs tr) [1, 2, 3, 4] rfl
  refine vx_calli (vx_runV (As := [.int q1, .int q2]) (rest := [.int (nI 0), .ref o]) ⟨hx, hb, hml, hown, hts⟩ (c_X0_areJoined_bad1 l hfl D cy h a0 a1 a2 N ec cc f cs tr q1 q2  hq) (cwV 2 hts gL_areJoined_X0_areJoined rfl rfl rfl (by decide +kernel) ⟨Nat.le_of_ble_eq_true rfl, Nat.le_of_ble_eq_true rfl⟩) ⟨fun a U g mk q => ⟨q.1, ⟨q.2.1.1, va_K.moved (u := U) (U := U.calling g mk a) (Vm.Alike.refl U.vm) q.2.1.2⟩, q.2.2.same rfl rfl⟩, va_recv hK hPb (ci := 0) (q0 := 0) rfl rfl, fun U hU hW => ⟨rfl, ⟨by rw [hU]; exact hPb, va_K.moved hW.alike (hK.sub [0] rfl)⟩, hT.move hW ⟨by rw [hU]; exact Nat.le_refl _, fun q _ => by rw [hU]⟩⟩⟩ rfl rfl hl.1 rfl (lv_room (Nat.le_of_ble_eq_true rfl)) dL_areJoined_5 ⟨Nat.le_of_ble_eq_true rfl, Nat.le_of_ble_eq_true rfl⟩) hS (fun _ _ h => h.elim) (fun _ h => h.elim) (fun _ _ h => h.elim) (fun E2 ce q9 u9 t9 H locs ht9 hvm9 hp9 hB hz hk hS hce hcv hcl => ?_) (fun r u t H1 locs1 ht hvm hw hB hz hk hS1 => hw.elim)
  have hP := zkeep hP ⟨hz, fun q h => hk q h (fun z => z)⟩
  obtain rfl : E2 = nIOB := hB
  refine vx_catch (name := nIOB) hown [] ⟨0, 17, 20, 19⟩ [] (htb.trans rfl) (fun _ h => absurd h List.not_mem_nil) (by decide) (by decide) (hts (.classLink RL 19 nIOB) (by decide +kernel)) (va_Nw.use rfl (hT.2.1 nIOB (by simp))) hce hcv hcl ?_
  refine lv_astore (lv' := [(4, .ref q9), (0, .ref h), (1, .int q1), (2, .int q2), (3, .ref o)]) hx hb dL_areJoined_20 hl (by decide) rfl (fun ls hl => ?_)
  refine lv_iconst (v := (nI 1)) hx hb dL_areJoined_22 (by decide) ?_
  refine vx_ret ?_
  exact W.iret (v := (nI 1)) hx hb hr (fun t9 ht9 hW9 => ⟨⟨(nI 1), (), rfl, rfl, by show va_P D vwCl (wBL h a0 a1 a2 cy N ec cc f cs tr o cl g) t9.heap; rw [ht9]; exact hP⟩, hS.F ht9⟩) hS.2.2 dL_areJoined_23

set_option maxHeartbeats 4000000 in
set_option maxRecDepth 100000 in
theorem w_areJoined_bad2 (l : Launch) (hfl : l.stackTraces = false) (D : va_G) (cy : ClassId) (h a0 a1 a2 N : Nat) (ec cc : Int32) (f cs tr : Nat → Int32) (o : Nat) (cl : ClassId) (g : Nat → Int64) (sz : Nat) (u : Nat) (q2 : Int32) (hN : N ≤ 20) (hu : u < N) (hq : isNb q2 N = false) : vx_Met l yL_areJoined wsL_areJoined ({ frames := 8, cells := 1, slots := 6, locals := 125 } : Room) (va_Pc [.ref h, .int (nI u), .int q2, .ref o] (fun U => zWr D (wBL h a0 a1 a2 cy N ec cc f cs tr o cl g) [(cy, .int), (cl, .long)] sz U ∧ zTh U)) (va_Qi (fun (r : Int32) (z9 : Unit) => r = nI 1) (fun z9 t => va_P D vwCl (wBL h a0 a1 a2 cy N ec cc f cs tr o cl g) t.heap) (va_A (wBL h a0 a1 a2 cy N ec cc f cs tr o cl g) sz)) zXn 1 6 (va_A (wBL h a0 a1 a2 cy N ec cc f cs tr o cl g) sz) := by
  refine vx_ofWH (cc := cL_areJoined) (maxL := 5) (ret := (some .int)) (by decide) rfl ?_
  intro p e s m args below meth c s₁ B hml hv
  obtain ⟨rfl, ⟨hsz, hP, hK, hD0⟩, hT⟩ := hv
  have hx := B.exec
  have hb := B.bytes
  have hr := B.returns
  have hts := atoms_spec (ws := wsL_areJoined) B.pre
  have hown : s.vm.findClass RL = some m.cls := findClass_of_methodNamed B.named
  have hlocks := B.notSynchronized
  subst hsz
  have hD := hD0.self (sz := s.heap.size)
  generalize hAe : va_A (wBL h a0 a1 a2 cy N ec cc f cs tr o cl g) s.heap.size = A at hD ⊢
  have hA : ∀ q : Nat, s.heap.size ≤ q → A q := fun q h => by rw [← hAe]; exact Or.inr h
  have hS : va_S A s.heap s.heap [] := va_S.rf
  have htb := vx_table (x := yL_areJoined) B (hts (.codeWith yL_areJoined cL_areJoined 5 (some .int) [(0, 17, 20, 19)]) (by decide +kernel))
  have hl := lv_entry ([.ref h, .int (nI u), .int q2, .ref o]) (n := 5) (Nat.le_of_ble_eq_true rfl)
  rw [lg_entry_eq]
  generalize (lg_sl ([.ref h, .int (nI u), .int q2, .ref o]) ++ List.replicate (5 - (lg_sl ([.ref h, .int (nI u), .int q2, .ref o])).length) Slot.unset).toArray = ls at hl ⊢
  have hl : lv_has ls 5 [(0, .ref h), (1, .int (nI u)), (2, .int q2), (3, .ref o)] := hl
  refine lv_aload_n hx hb dL_areJoined_0 rfl (lv_at hl 3 rfl) ?_
  refine lv_iconst (v := (nI 0)) hx hb dL_areJoined_1 (by decide) ?_
  refine lv_aload_n hx hb dL_areJoined_2 rfl (lv_at hl 0 rfl) ?_
  refine lv_iload_n hx hb dL_areJoined_3 rfl (lv_at hl 1 rfl) ?_
  refine lv_iload_n hx hb dL_areJoined_4 rfl (lv_at hl 2 rfl) ?_
  have hPb := hP.sub (ws' := wB h a0 a1 a2 cy N ec cc f cs tr) [1, 2, 3, 4] rfl
  refine vx_calli (vx_runV (As := [.int (nI u), .int q2]) (rest := [.int (nI 0), .ref o]) ⟨hx, hb, hml, hown, hts⟩ (c_X0_areJoined_bad2 l hfl D cy h a0 a1 a2 N ec cc f cs tr u q2  hN hu hq) (cwV 2 hts gL_areJoined_X0_areJoined rfl rfl rfl (by decide +kernel) ⟨Nat.le_of_ble_eq_true rfl, Nat.le_of_ble_eq_true rfl⟩) ⟨fun a U g mk q => ⟨q.1, ⟨q.2.1.1, va_K.moved (u := U) (U := U.calling g mk a) (Vm.Alike.refl U.vm) q.2.1.2⟩, q.2.2.same rfl rfl⟩, va_recv hK hPb (ci := 0) (q0 := 0) rfl rfl, fun U hU hW => ⟨rfl, ⟨by rw [hU]; exact hPb, va_K.moved hW.alike (hK.sub [0] rfl)⟩, hT.move hW ⟨by rw [hU]; exact Nat.le_refl _, fun q _ => by rw [hU]⟩⟩⟩ rfl rfl hl.1 rfl (lv_room (Nat.le_of_ble_eq_true rfl)) dL_areJoined_5 ⟨Nat.le_of_ble_eq_true rfl, Nat.le_of_ble_eq_true rfl⟩) hS (fun _ _ h => h.elim) (fun _ h => h.elim) (fun _ _ h => h.elim) (fun E2 ce q9 u9 t9 H locs ht9 hvm9 hp9 hB hz hk hS hce hcv hcl => ?_) (fun r u t H1 locs1 ht hvm hw hB hz hk hS1 => hw.elim)
  have hP := zkeep hP ⟨hz, fun q h => hk q h (fun z => z)⟩
  obtain rfl : E2 = nIOB := hB
  refine vx_catch (name := nIOB) hown [] ⟨0, 17, 20, 19⟩ [] (htb.trans rfl) (fun _ h => absurd h List.not_mem_nil) (by decide) (by decide) (hts (.classLink RL 19 nIOB) (by decide +kernel)) (va_Nw.use rfl (hT.2.1 nIOB (by simp))) hce hcv hcl ?_
  refine lv_astore (lv' := [(4, .ref q9), (0, .ref h), (1, .int (nI u)), (2, .int q2), (3, .ref o)]) hx hb dL_areJoined_20 hl (by decide) rfl (fun ls hl => ?_)
  refine lv_iconst (v := (nI 1)) hx hb dL_areJoined_22 (by decide) ?_
  refine vx_ret ?_
  exact W.iret (v := (nI 1)) hx hb hr (fun t9 ht9 hW9 => ⟨⟨(nI 1), (), rfl, rfl, by show va_P D vwCl (wBL h a0 a1 a2 cy N ec cc f cs tr o cl g) t9.heap; rw [ht9]; exact hP⟩, hS.F ht9⟩) hS.2.2 dL_areJoined_23

set_option maxHeartbeats 4000000 in
set_option maxRecDepth 100000 in
theorem w_core_ok (l : Launch) (D : va_G) (cy : ClassId) (h a0 a1 a2 N : Nat) (ec cc : Int32) (f cs tr : Nat → Int32) (o : Nat) (cl : ClassId) (g : Nat → Int64) (sz : Nat) (u : Nat) (c0 : Nat → Nat) (hN : N ≤ 20) (hu : u < N) (hcs : csI cs c0 N) : vx_Met l yL_core wsL_core ({ frames := 8, cells := 0, slots := 0, locals := 124 } : Room) (va_Pc [.ref h, .int (nI u), .ref o] (fun U => zWr D (wBL h a0 a1 a2 cy N ec cc f cs tr o cl g) [(cy, .int), (cl, .long)] sz U ∧ True)) (va_Qi (fun (r : Int32) (z9 : Int32) => r = nI 0 ∧ (z9 = nI (c0 u))) (fun z9 t => va_P D vwCl (wBL h a0 a1 a2 cy N ec cc f cs tr o cl (vp_updL g 0 (z9).toInt64)) t.heap) (va_A (wBL h a0 a1 a2 cy N ec cc f cs tr o cl g) sz)) zXn 0 0 (va_A (wBL h a0 a1 a2 cy N ec cc f cs tr o cl g) sz) := by
  refine vx_ofWH (cc := cL_core) (maxL := 4) (ret := (some .int)) (by decide) rfl ?_
  intro p e s m args below meth c s₁ B hml hv
  obtain ⟨rfl, ⟨hsz, hP, hK, hD0⟩, hT⟩ := hv
  have hx := B.exec
  have hb := B.bytes
  have hr := B.returns
  have hts := atoms_spec (ws := wsL_core) B.pre
  have hown : s.vm.findClass RL = some m.cls := findClass_of_methodNamed B.named
  have hlocks := B.notSynchronized
  subst hsz
  have hD := hD0.self (sz := s.heap.size)
  generalize hAe : va_A (wBL h a0 a1 a2 cy N ec cc f cs tr o cl g) s.heap.size = A at hD ⊢
  have hA : ∀ q : Nat, s.heap.size ≤ q → A q := fun q h => by rw [← hAe]; exact Or.inr h
  have hS : va_S A s.heap s.heap [] := va_S.rf
  have hl := lv_entry ([.ref h, .int (nI u), .ref o]) (n := 4) (Nat.le_of_ble_eq_true rfl)
  rw [lg_entry_eq]
  generalize (lg_sl ([.ref h, .int (nI u), .ref o]) ++ List.replicate (4 - (lg_sl ([.ref h, .int (nI u), .ref o])).length) Slot.unset).toArray = ls at hl ⊢
  have hl : lv_has ls 4 [(0, .ref h), (1, .int (nI u)), (2, .ref o)] := hl
  refine lv_aload_n hx hb dL_core_0 rfl (lv_at hl 2 rfl) ?_
  refine lv_iconst (v := (nI 0)) hx hb dL_core_1 (by decide) ?_
  refine lv_aload_n hx hb dL_core_2 rfl (lv_at hl 0 rfl) ?_
  refine lv_iload_n hx hb dL_core_3 rfl (lv_at hl 1 rfl) ?_
  have hPb := hP.sub (ws' := wB h a0 a1 a2 cy N ec cc f cs tr) [1, 2, 3, 4] rfl
  refine zrV (As := [.int (nI u)]) (rest := [.int (nI 0), .ref o]) 0 ⟨hx, hb, hml, hown, hts⟩ (c_X0_core_ok l D cy h a0 a1 a2 N ec cc f cs tr u c0 hN hu hcs) (cwV 1 hts gL_core_X0_core rfl rfl rfl (by decide +kernel) ⟨Nat.le_of_ble_eq_true rfl, Nat.le_of_ble_eq_true rfl⟩) (hK.sub [0] rfl) hPb rfl rfl rfl hl rfl (Nat.le_of_ble_eq_true rfl) dL_core_4 ⟨Nat.le_of_ble_eq_true rfl, Nat.le_of_ble_eq_true rfl⟩ hS (fun a9 H locs hw9 hk9 hS => ?_)
  have hP := zkeep hP hk9
  have hw9 : a9 = nI (c0 u) := hw9
  refine lv_i2l (v := (a9).toInt64) hx hb dL_core_7 rfl ?_
  refine va_last hx hb hK hP hD hS 0 1 rfl rfl (vp_in_nI (by decide) (by decide)) dL_core_8 (fun H locs hP hD hS => ?_)
  have hP : va_P D vwCl (wBL h a0 a1 a2 cy N ec cc f cs tr o cl (vp_updL g 0 (a9).toInt64)) H := hP
  refine lv_goto (tgt := 15) hx hb dL_core_9 (by decide) ?_
  refine lv_iconst (v := (nI 0)) hx hb dL_core_15 (by decide) ?_
  refine vx_ret ?_
  exact W.iret (v := (nI 0)) hx hb hr (fun t9 ht9 hW9 => ⟨⟨(nI 0), a9, rfl, ⟨rfl, hw9⟩, by show va_P D vwCl (wBL h a0 a1 a2 cy N ec cc f cs tr o cl (vp_updL g 0 (a9).toInt64)) t9.heap; rw [ht9]; exact hP⟩, hS.F ht9⟩) hS.2.2 dL_core_16

set_option maxHeartbeats 4000000 in
set_option maxRecDepth 100000 in
theorem w_core_bad (l : Launch) (hfl : l.stackTraces = false) (D : va_G) (cy : ClassId) (h a0 a1 a2 N : Nat) (ec cc : Int32) (f cs tr : Nat → Int32) (o : Nat) (cl : ClassId) (g : Nat → Int64) (sz : Nat) (q : Int32) (hq : isNb q N = false) : vx_Met l yL_core wsL_core ({ frames := 8, cells := 1, slots := 6, locals := 124 } : Room) (va_Pc [.ref h, .int q, .ref o] (fun U => zWr D (wBL h a0 a1 a2 cy N ec cc f cs tr o cl g) [(cy, .int), (cl, .long)] sz U ∧ zTh U)) (va_Qi (fun (r : Int32) (z9 : Unit) => r = nI 1) (fun z9 t => va_P D vwCl (wBL h a0 a1 a2 cy N ec cc f cs tr o cl g) t.heap) (va_A (wBL h a0 a1 a2 cy N ec cc f cs tr o cl g) sz)) zXn 1 6 (va_A (wBL h a0 a1 a2 cy N ec cc f cs tr o cl g) sz) := by
  refine vx_ofWH (cc := cL_core) (maxL := 4) (ret := (some .int)) (by decide) rfl ?_
  intro p e s m args below meth c s₁ B hml hv
  obtain ⟨rfl, ⟨hsz, hP, hK, hD0⟩, hT⟩ := hv
  have hx := B.exec
  have hb := B.bytes
  have hr := B.returns
  have hts := atoms_spec (ws := wsL_core) B.pre
  have hown : s.vm.findClass RL = some m.cls := findClass_of_methodNamed B.named
  have hlocks := B.notSynchronized
  subst hsz
  have hD := hD0.self (sz := s.heap.size)
  generalize hAe : va_A (wBL h a0 a1 a2 cy N ec cc f cs tr o cl g) s.heap.size = A at hD ⊢
  have hA : ∀ q : Nat, s.heap.size ≤ q → A q := fun q h => by rw [← hAe]; exact Or.inr h
  have hS : va_S A s.heap s.heap [] := va_S.rf
  have htb := vx_table (x := yL_core) B (hts (.codeWith yL_core cL_core 4 (some .int) [(0, 9, 12, 19)]) (by decide +kernel))
  have hl := lv_entry ([.ref h, .int q, .ref o]) (n := 4) (Nat.le_of_ble_eq_true rfl)
  rw [lg_entry_eq]
  generalize (lg_sl ([.ref h, .int q, .ref o]) ++ List.replicate (4 - (lg_sl ([.ref h, .int q, .ref o])).length) Slot.unset).toArray = ls at hl ⊢
  have hl : lv_has ls 4 [(0, .ref h), (1, .int q), (2, .ref o)] := hl
  refine lv_aload_n hx hb dL_core_0 rfl (lv_at hl 2 rfl) ?_
  refine lv_iconst (v := (nI 0)) hx hb dL_core_1 (by decide) ?_
  refine lv_aload_n hx hb dL_core_2 rfl (lv_at hl 0 rfl) ?_
  refine lv_iload_n hx hb dL_core_3 rfl (lv_at hl 1 rfl) ?_
  have hPb := hP.sub (ws' := wB h a0 a1 a2 cy N ec cc f cs tr) [1, 2, 3, 4] rfl
  refine vx_calli (vx_runV (As := [.int q]) (rest := [.int (nI 0), .ref o]) ⟨hx, hb, hml, hown, hts⟩ (c_X0_core_bad l hfl D cy h a0 a1 a2 N ec cc f cs tr q  hq) (cwV 1 hts gL_core_X0_core rfl rfl rfl (by decide +kernel) ⟨Nat.le_of_ble_eq_true rfl, Nat.le_of_ble_eq_true rfl⟩) ⟨fun a U g mk q => ⟨q.1, ⟨q.2.1.1, va_K.moved (u := U) (U := U.calling g mk a) (Vm.Alike.refl U.vm) q.2.1.2⟩, q.2.2.same rfl rfl⟩, va_recv hK hPb (ci := 0) (q0 := 0) rfl rfl, fun U hU hW => ⟨rfl, ⟨by rw [hU]; exact hPb, va_K.moved hW.alike (hK.sub [0] rfl)⟩, hT.move hW ⟨by rw [hU]; exact Nat.le_refl _, fun q _ => by rw [hU]⟩⟩⟩ rfl rfl hl.1 rfl (lv_room (Nat.le_of_ble_eq_true rfl)) dL_core_4 ⟨Nat.le_of_ble_eq_true rfl, Nat.le_of_ble_eq_true rfl⟩) hS (fun _ _ h => h.elim) (fun _ h => h.elim) (fun _ _ h => h.elim) (fun E2 ce q9 u9 t9 H locs ht9 hvm9 hp9 hB hz hk hS hce hcv hcl => ?_) (fun r u t H1 locs1 ht hvm hw hB hz hk hS1 => hw.elim)
  have hP := zkeep hP ⟨hz, fun q h => hk q h (fun z => z)⟩
  obtain rfl : E2 = nIOB := hB
  refine vx_catch (name := nIOB) hown [] ⟨0, 9, 12, 19⟩ [] (htb.trans rfl) (fun _ h => absurd h List.not_mem_nil) (by decide) (by decide) (hts (.classLink RL 19 nIOB) (by decide +kernel)) (va_Nw.use rfl (hT.2.1 nIOB (by simp))) hce hcv hcl ?_
  refine lv_astore_n (lv' := [(3, .ref q9), (0, .ref h), (1, .int q), (2, .ref o)]) hx hb dL_core_12 rfl hl (by decide) rfl (fun ls hl => ?_)
  refine lv_iconst (v := (nI 1)) hx hb dL_core_13 (by decide) ?_
  refine vx_ret ?_
  exact W.iret (v := (nI 1)) hx hb hr (fun t9 ht9 hW9 => ⟨⟨(nI 1), (), rfl, rfl, by show va_P D vwCl (wBL h a0 a1 a2 cy N ec cc f cs tr o cl g) t9.heap; rw [ht9]; exact hP⟩, hS.F ht9⟩) hS.2.2 dL_core_14

set_option maxHeartbeats 4000000 in
set_option maxRecDepth 100000 in
theorem w_coreSize_ok (l : Launch) (D : va_G) (cy : ClassId) (h a0 a1 a2 N : Nat) (ec cc : Int32) (f cs tr : Nat → Int32) (o : Nat) (cl : ClassId) (g : Nat → Int64) (sz : Nat) (k : Int32) (c0 : Nat → Nat) (hN : N ≤ 20) (hk : ¬ k < 0) (hcs : csI cs c0 N) : vx_Met l yL_coreSize wsL_coreSize ({ frames := 8, cells := 0, slots := 0, locals := 123 } : Room) (va_Pc [.ref h, .int k, .ref o] (fun U => zWr D (wBL h a0 a1 a2 cy N ec cc f cs tr o cl g) [(cy, .int), (cl, .long)] sz U ∧ True)) (va_Qi (fun (r : Int32) (z9 : Int32) => r = nI 0 ∧ (z9 = nI (zpop (cst c0 N k.toInt)))) (fun z9 t => va_P D vwCl (wBL h a0 a1 a2 cy N ec cc f cs tr o cl (vp_updL g 0 (z9).toInt64)) t.heap) (va_A (wBL h a0 a1 a2 cy N ec cc f cs tr o cl g) sz)) zXn 0 0 (va_A (wBL h a0 a1 a2 cy N ec cc f cs tr o cl g) sz) := by
  refine vx_ofWH (cc := cL_coreSize) (maxL := 4) (ret := (some .int)) (by decide) rfl ?_
  intro p e s m args below meth c s₁ B hml hv
  obtain ⟨rfl, ⟨hsz, hP, hK, hD0⟩, hT⟩ := hv
  have hx := B.exec
  have hb := B.bytes
  have hr := B.returns
  have hts := atoms_spec (ws := wsL_coreSize) B.pre
  have hown : s.vm.findClass RL = some m.cls := findClass_of_methodNamed B.named
  have hlocks := B.notSynchronized
  subst hsz
  have hD := hD0.self (sz := s.heap.size)
  generalize hAe : va_A (wBL h a0 a1 a2 cy N ec cc f cs tr o cl g) s.heap.size = A at hD ⊢
  have hA : ∀ q : Nat, s.heap.size ≤ q → A q := fun q h => by rw [← hAe]; exact Or.inr h
  have hS : va_S A s.heap s.heap [] := va_S.rf
  have hl := lv_entry ([.ref h, .int k, .ref o]) (n := 4) (Nat.le_of_ble_eq_true rfl)
  rw [lg_entry_eq]
  generalize (lg_sl ([.ref h, .int k, .ref o]) ++ List.replicate (4 - (lg_sl ([.ref h, .int k, .ref o])).length) Slot.unset).toArray = ls at hl ⊢
  have hl : lv_has ls 4 [(0, .ref h), (1, .int k), (2, .ref o)] := hl
  refine lv_aload_n hx hb dL_coreSize_0 rfl (lv_at hl 2 rfl) ?_
  refine lv_iconst (v := (nI 0)) hx hb dL_coreSize_1 (by decide) ?_
  refine lv_aload_n hx hb dL_coreSize_2 rfl (lv_at hl 0 rfl) ?_
  refine lv_iload_n hx hb dL_coreSize_3 rfl (lv_at hl 1 rfl) ?_
  have hPb := hP.sub (ws' := wB h a0 a1 a2 cy N ec cc f cs tr) [1, 2, 3, 4] rfl
  refine zrV (As := [.int k]) (rest := [.int (nI 0), .ref o]) 0 ⟨hx, hb, hml, hown, hts⟩ (c_X0_coreSize_ok l D cy h a0 a1 a2 N ec cc f cs tr k c0 hN hk hcs) (cwV 1 hts gL_coreSize_X0_coreSize rfl rfl rfl (by decide +kernel) ⟨Nat.le_of_ble_eq_true rfl, Nat.le_of_ble_eq_true rfl⟩) (hK.sub [0] rfl) hPb rfl rfl rfl hl rfl (Nat.le_of_ble_eq_true rfl) dL_coreSize_4 ⟨Nat.le_of_ble_eq_true rfl, Nat.le_of_ble_eq_true rfl⟩ hS (fun a9 H locs hw9 hk9 hS => ?_)
  have hP := zkeep hP hk9
  have hw9 : a9 = nI (zpop (cst c0 N k.toInt)) := hw9
  refine lv_i2l (v := (a9).toInt64) hx hb dL_coreSize_7 rfl ?_
  refine va_last hx hb hK hP hD hS 0 1 rfl rfl (vp_in_nI (by decide) (by decide)) dL_coreSize_8 (fun H locs hP hD hS => ?_)
  have hP : va_P D vwCl (wBL h a0 a1 a2 cy N ec cc f cs tr o cl (vp_updL g 0 (a9).toInt64)) H := hP
  refine lv_goto (tgt := 15) hx hb dL_coreSize_9 (by decide) ?_
  refine lv_iconst (v := (nI 0)) hx hb dL_coreSize_15 (by decide) ?_
  refine vx_ret ?_
  exact W.iret (v := (nI 0)) hx hb hr (fun t9 ht9 hW9 => ⟨⟨(nI 0), a9, rfl, ⟨rfl, hw9⟩, by show va_P D vwCl (wBL h a0 a1 a2 cy N ec cc f cs tr o cl (vp_updL g 0 (a9).toInt64)) t9.heap; rw [ht9]; exact hP⟩, hS.F ht9⟩) hS.2.2 dL_coreSize_16

set_option maxHeartbeats 4000000 in
set_option maxRecDepth 100000 in
theorem w_coreSize_neg (l : Launch) (hfl : l.stackTraces = false) (D : va_G) (cy : ClassId) (h a0 a1 a2 N : Nat) (ec cc : Int32) (f cs tr : Nat → Int32) (o : Nat) (cl : ClassId) (g : Nat → Int64) (sz : Nat) (k : Int32) (hk : k < 0) : vx_Met l yL_coreSize wsL_coreSize ({ frames := 8, cells := 1, slots := 6, locals := 123 } : Room) (va_Pc [.ref h, .int k, .ref o] (fun U => zWr D (wBL h a0 a1 a2 cy N ec cc f cs tr o cl g) [(cy, .int), (cl, .long)] sz U ∧ zTh U)) (va_Qi (fun (r : Int32) (z9 : Unit) => r = nI 1) (fun z9 t => va_P D vwCl (wBL h a0 a1 a2 cy N ec cc f cs tr o cl g) t.heap) (va_A (wBL h a0 a1 a2 cy N ec cc f cs tr o cl g) sz)) zXn 1 6 (va_A (wBL h a0 a1 a2 cy N ec cc f cs tr o cl g) sz) := by
  refine vx_ofWH (cc := cL_coreSize) (maxL := 4) (ret := (some .int)) (by decide) rfl ?_
  intro p e s m args below meth c s₁ B hml hv
  obtain ⟨rfl, ⟨hsz, hP, hK, hD0⟩, hT⟩ := hv
  have hx := B.exec
  have hb := B.bytes
  have hr := B.returns
  have hts := atoms_spec (ws := wsL_coreSize) B.pre
  have hown : s.vm.findClass RL = some m.cls := findClass_of_methodNamed B.named
  have hlocks := B.notSynchronized
  subst hsz
  have hD := hD0.self (sz := s.heap.size)
  generalize hAe : va_A (wBL h a0 a1 a2 cy N ec cc f cs tr o cl g) s.heap.size = A at hD ⊢
  have hA : ∀ q : Nat, s.heap.size ≤ q → A q := fun q h => by rw [← hAe]; exact Or.inr h
  have hS : va_S A s.heap s.heap [] := va_S.rf
  have htb := vx_table (x := yL_coreSize) B (hts (.codeWith yL_coreSize cL_coreSize 4 (some .int) [(0, 9, 12, 21)]) (by decide +kernel))
  have hl := lv_entry ([.ref h, .int k, .ref o]) (n := 4) (Nat.le_of_ble_eq_true rfl)
  rw [lg_entry_eq]
  generalize (lg_sl ([.ref h, .int k, .ref o]) ++ List.replicate (4 - (lg_sl ([.ref h, .int k, .ref o])).length) Slot.unset).toArray = ls at hl ⊢
  have hl : lv_has ls 4 [(0, .ref h), (1, .int k), (2, .ref o)] := hl
  refine lv_aload_n hx hb dL_coreSize_0 rfl (lv_at hl 2 rfl) ?_
  refine lv_iconst (v := (nI 0)) hx hb dL_coreSize_1 (by decide) ?_
  refine lv_aload_n hx hb dL_coreSize_2 rfl (lv_at hl 0 rfl) ?_
  refine lv_iload_n hx hb dL_coreSize_3 rfl (lv_at hl 1 rfl) ?_
  have hPb := hP.sub (ws' := wB h a0 a1 a2 cy N ec cc f cs tr) [1, 2, 3, 4] rfl
  refine vx_calli (vx_runV (As := [.int k]) (rest := [.int (nI 0), .ref o]) ⟨hx, hb, hml, hown, hts⟩ (c_X0_coreSize_neg l hfl D cy h a0 a1 a2 N ec cc f cs tr k  hk) (cwV 1 hts gL_coreSize_X0_coreSize rfl rfl rfl (by decide +kernel) ⟨Nat.le_of_ble_eq_true rfl, Nat.le_of_ble_eq_true rfl⟩) ⟨fun a U g mk q => ⟨q.1, ⟨q.2.1.1, va_K.moved (u := U) (U := U.calling g mk a) (Vm.Alike.refl U.vm) q.2.1.2⟩, q.2.2.same rfl rfl⟩, va_recv hK hPb (ci := 0) (q0 := 0) rfl rfl, fun U hU hW => ⟨rfl, ⟨by rw [hU]; exact hPb, va_K.moved hW.alike (hK.sub [0] rfl)⟩, hT.move hW ⟨by rw [hU]; exact Nat.le_refl _, fun q _ => by rw [hU]⟩⟩⟩ rfl rfl hl.1 rfl (lv_room (Nat.le_of_ble_eq_true rfl)) dL_coreSize_4 ⟨Nat.le_of_ble_eq_true rfl, Nat.le_of_ble_eq_true rfl⟩) hS (fun _ _ h => h.elim) (fun _ h => h.elim) (fun _ _ h => h.elim) (fun E2 ce q9 u9 t9 H locs ht9 hvm9 hp9 hB hz hk hS hce hcv hcl => ?_) (fun r u t H1 locs1 ht hvm hw hB hz hk hS1 => hw.elim)
  have hP := zkeep hP ⟨hz, fun q h => hk q h (fun z => z)⟩
  obtain rfl : E2 = nIAE := hB
  refine vx_catch (name := nIAE) hown [] ⟨0, 9, 12, 21⟩ [] (htb.trans rfl) (fun _ h => absurd h List.not_mem_nil) (by decide) (by decide) (hts (.classLink RL 21 nIAE) (by decide +kernel)) (va_Nw.use rfl (hT.2.1 nIAE (by simp))) hce hcv hcl ?_
  refine lv_astore_n (lv' := [(3, .ref q9), (0, .ref h), (1, .int k), (2, .ref o)]) hx hb dL_coreSize_12 rfl hl (by decide) rfl (fun ls hl => ?_)
  refine lv_iconst (v := (nI 1)) hx hb dL_coreSize_13 (by decide) ?_
  refine vx_ret ?_
  exact W.iret (v := (nI 1)) hx hb hr (fun t9 ht9 hW9 => ⟨⟨(nI 1), (), rfl, rfl, by show va_P D vwCl (wBL h a0 a1 a2 cy N ec cc f cs tr o cl g) t9.heap; rw [ht9]; exact hP⟩, hS.F ht9⟩) hS.2.2 dL_coreSize_14

set_option maxHeartbeats 4000000 in
set_option maxRecDepth 100000 in
theorem w_community_ok (l : Launch) (D : va_G) (cy : ClassId) (h a0 a1 a2 N : Nat) (ec cc : Int32) (f cs tr : Nat → Int32) (o : Nat) (cl : ClassId) (g : Nat → Int64) (sz : Nat) (u : Nat) (k : Int32) (c0 : Nat → Nat) (hN : N ≤ 20) (hu : u < N) (hk : ¬ k < 0) (hcs : csI cs c0 N) : vx_Met l yL_community wsL_community ({ frames := 8, cells := 0, slots := 0, locals := 125 } : Room) (va_Pc [.ref h, .int (nI u), .int k, .ref o] (fun U => zWr D (wBL h a0 a1 a2 cy N ec cc f cs tr o cl g) [(cy, .int), (cl, .long)] sz U ∧ True)) (va_Qi (fun (r : Int32) (z9 : Int32) => r = nI 0 ∧ (z9 = nI (zpop (cmp f (cst c0 N k.toInt) u)))) (fun z9 t => va_P D vwCl (wBL h a0 a1 a2 cy N ec cc f cs tr o cl (vp_updL g 0 (z9).toInt64)) t.heap) (va_A (wBL h a0 a1 a2 cy N ec cc f cs tr o cl g) sz)) zXn 0 0 (va_A (wBL h a0 a1 a2 cy N ec cc f cs tr o cl g) sz) := by
  refine vx_ofWH (cc := cL_community) (maxL := 5) (ret := (some .int)) (by decide) rfl ?_
  intro p e s m args below meth c s₁ B hml hv
  obtain ⟨rfl, ⟨hsz, hP, hK, hD0⟩, hT⟩ := hv
  have hx := B.exec
  have hb := B.bytes
  have hr := B.returns
  have hts := atoms_spec (ws := wsL_community) B.pre
  have hown : s.vm.findClass RL = some m.cls := findClass_of_methodNamed B.named
  have hlocks := B.notSynchronized
  subst hsz
  have hD := hD0.self (sz := s.heap.size)
  generalize hAe : va_A (wBL h a0 a1 a2 cy N ec cc f cs tr o cl g) s.heap.size = A at hD ⊢
  have hA : ∀ q : Nat, s.heap.size ≤ q → A q := fun q h => by rw [← hAe]; exact Or.inr h
  have hS : va_S A s.heap s.heap [] := va_S.rf
  have hl := lv_entry ([.ref h, .int (nI u), .int k, .ref o]) (n := 5) (Nat.le_of_ble_eq_true rfl)
  rw [lg_entry_eq]
  generalize (lg_sl ([.ref h, .int (nI u), .int k, .ref o]) ++ List.replicate (5 - (lg_sl ([.ref h, .int (nI u), .int k, .ref o])).length) Slot.unset).toArray = ls at hl ⊢
  have hl : lv_has ls 5 [(0, .ref h), (1, .int (nI u)), (2, .int k), (3, .ref o)] := hl
  refine lv_aload_n hx hb dL_community_0 rfl (lv_at hl 3 rfl) ?_
  refine lv_iconst (v := (nI 0)) hx hb dL_community_1 (by decide) ?_
  refine lv_aload_n hx hb dL_community_2 rfl (lv_at hl 0 rfl) ?_
  refine lv_iload_n hx hb dL_community_3 rfl (lv_at hl 1 rfl) ?_
  refine lv_iload_n hx hb dL_community_4 rfl (lv_at hl 2 rfl) ?_
  have hPb := hP.sub (ws' := wB h a0 a1 a2 cy N ec cc f cs tr) [1, 2, 3, 4] rfl
  refine zrV (As := [.int (nI u), .int k]) (rest := [.int (nI 0), .ref o]) 0 ⟨hx, hb, hml, hown, hts⟩ (c_X0_community_ok l D cy h a0 a1 a2 N ec cc f cs tr u k c0 hN hu hk hcs) (cwV 2 hts gL_community_X0_community rfl rfl rfl (by decide +kernel) ⟨Nat.le_of_ble_eq_true rfl, Nat.le_of_ble_eq_true rfl⟩) (hK.sub [0] rfl) hPb rfl rfl rfl hl rfl (Nat.le_of_ble_eq_true rfl) dL_community_5 ⟨Nat.le_of_ble_eq_true rfl, Nat.le_of_ble_eq_true rfl⟩ hS (fun a9 H locs hw9 hk9 hS => ?_)
  have hP := zkeep hP hk9
  have hw9 : a9 = nI (zpop (cmp f (cst c0 N k.toInt) u)) := hw9
  refine lv_i2l (v := (a9).toInt64) hx hb dL_community_8 rfl ?_
  refine va_last hx hb hK hP hD hS 0 1 rfl rfl (vp_in_nI (by decide) (by decide)) dL_community_9 (fun H locs hP hD hS => ?_)
  have hP : va_P D vwCl (wBL h a0 a1 a2 cy N ec cc f cs tr o cl (vp_updL g 0 (a9).toInt64)) H := hP
  refine lv_goto (tgt := 21) hx hb dL_community_10 (by decide) ?_
  refine lv_iconst (v := (nI 0)) hx hb dL_community_21 (by decide) ?_
  refine vx_ret ?_
  exact W.iret (v := (nI 0)) hx hb hr (fun t9 ht9 hW9 => ⟨⟨(nI 0), a9, rfl, ⟨rfl, hw9⟩, by show va_P D vwCl (wBL h a0 a1 a2 cy N ec cc f cs tr o cl (vp_updL g 0 (a9).toInt64)) t9.heap; rw [ht9]; exact hP⟩, hS.F ht9⟩) hS.2.2 dL_community_22

set_option maxHeartbeats 4000000 in
set_option maxRecDepth 100000 in
theorem w_community_bad (l : Launch) (hfl : l.stackTraces = false) (D : va_G) (cy : ClassId) (h a0 a1 a2 N : Nat) (ec cc : Int32) (f cs tr : Nat → Int32) (o : Nat) (cl : ClassId) (g : Nat → Int64) (sz : Nat) (q q2 : Int32) (hq : isNb q N = false) : vx_Met l yL_community wsL_community ({ frames := 8, cells := 1, slots := 6, locals := 125 } : Room) (va_Pc [.ref h, .int q, .int q2, .ref o] (fun U => zWr D (wBL h a0 a1 a2 cy N ec cc f cs tr o cl g) [(cy, .int), (cl, .long)] sz U ∧ zTh U)) (va_Qi (fun (r : Int32) (z9 : Unit) => r = nI 1) (fun z9 t => va_P D vwCl (wBL h a0 a1 a2 cy N ec cc f cs tr o cl g) t.heap) (va_A (wBL h a0 a1 a2 cy N ec cc f cs tr o cl g) sz)) zXn 1 6 (va_A (wBL h a0 a1 a2 cy N ec cc f cs tr o cl g) sz) := by
  refine vx_ofWH (cc := cL_community) (maxL := 5) (ret := (some .int)) (by decide) rfl ?_
  intro p e s m args below meth c s₁ B hml hv
  obtain ⟨rfl, ⟨hsz, hP, hK, hD0⟩, hT⟩ := hv
  have hx := B.exec
  have hb := B.bytes
  have hr := B.returns
  have hts := atoms_spec (ws := wsL_community) B.pre
  have hown : s.vm.findClass RL = some m.cls := findClass_of_methodNamed B.named
  have hlocks := B.notSynchronized
  subst hsz
  have hD := hD0.self (sz := s.heap.size)
  generalize hAe : va_A (wBL h a0 a1 a2 cy N ec cc f cs tr o cl g) s.heap.size = A at hD ⊢
  have hA : ∀ q : Nat, s.heap.size ≤ q → A q := fun q h => by rw [← hAe]; exact Or.inr h
  have hS : va_S A s.heap s.heap [] := va_S.rf
  have htb := vx_table (x := yL_community) B (hts (.codeWith yL_community cL_community 5 (some .int) [(0, 10, 13, 19), (0, 10, 17, 21)]) (by decide +kernel))
  have hl := lv_entry ([.ref h, .int q, .int q2, .ref o]) (n := 5) (Nat.le_of_ble_eq_true rfl)
  rw [lg_entry_eq]
  generalize (lg_sl ([.ref h, .int q, .int q2, .ref o]) ++ List.replicate (5 - (lg_sl ([.ref h, .int q, .int q2, .ref o])).length) Slot.unset).toArray = ls at hl ⊢
  have hl : lv_has ls 5 [(0, .ref h), (1, .int q), (2, .int q2), (3, .ref o)] := hl
  refine lv_aload_n hx hb dL_community_0 rfl (lv_at hl 3 rfl) ?_
  refine lv_iconst (v := (nI 0)) hx hb dL_community_1 (by decide) ?_
  refine lv_aload_n hx hb dL_community_2 rfl (lv_at hl 0 rfl) ?_
  refine lv_iload_n hx hb dL_community_3 rfl (lv_at hl 1 rfl) ?_
  refine lv_iload_n hx hb dL_community_4 rfl (lv_at hl 2 rfl) ?_
  have hPb := hP.sub (ws' := wB h a0 a1 a2 cy N ec cc f cs tr) [1, 2, 3, 4] rfl
  refine vx_calli (vx_runV (As := [.int q, .int q2]) (rest := [.int (nI 0), .ref o]) ⟨hx, hb, hml, hown, hts⟩ (c_X0_community_bad l hfl D cy h a0 a1 a2 N ec cc f cs tr q q2  hq) (cwV 2 hts gL_community_X0_community rfl rfl rfl (by decide +kernel) ⟨Nat.le_of_ble_eq_true rfl, Nat.le_of_ble_eq_true rfl⟩) ⟨fun a U g mk q => ⟨q.1, ⟨q.2.1.1, va_K.moved (u := U) (U := U.calling g mk a) (Vm.Alike.refl U.vm) q.2.1.2⟩, q.2.2.same rfl rfl⟩, va_recv hK hPb (ci := 0) (q0 := 0) rfl rfl, fun U hU hW => ⟨rfl, ⟨by rw [hU]; exact hPb, va_K.moved hW.alike (hK.sub [0] rfl)⟩, hT.move hW ⟨by rw [hU]; exact Nat.le_refl _, fun q _ => by rw [hU]⟩⟩⟩ rfl rfl hl.1 rfl (lv_room (Nat.le_of_ble_eq_true rfl)) dL_community_5 ⟨Nat.le_of_ble_eq_true rfl, Nat.le_of_ble_eq_true rfl⟩) hS (fun _ _ h => h.elim) (fun _ h => h.elim) (fun _ _ h => h.elim) (fun E2 ce q9 u9 t9 H locs ht9 hvm9 hp9 hB hz hk hS hce hcv hcl => ?_) (fun r u t H1 locs1 ht hvm hw hB hz hk hS1 => hw.elim)
  have hP := zkeep hP ⟨hz, fun q h => hk q h (fun z => z)⟩
  obtain rfl : E2 = nIOB := hB
  refine vx_catch (name := nIOB) hown [] ⟨0, 10, 13, 19⟩ [⟨0, 10, 17, 21⟩] (htb.trans rfl) (fun _ h => absurd h List.not_mem_nil) (by decide) (by decide) (hts (.classLink RL 19 nIOB) (by decide +kernel)) (va_Nw.use rfl (hT.2.1 nIOB (by simp))) hce hcv hcl ?_
  refine lv_astore (lv' := [(4, .ref q9), (0, .ref h), (1, .int q), (2, .int q2), (3, .ref o)]) hx hb dL_community_13 hl (by decide) rfl (fun ls hl => ?_)
  refine lv_iconst (v := (nI 1)) hx hb dL_community_15 (by decide) ?_
  refine vx_ret ?_
  exact W.iret (v := (nI 1)) hx hb hr (fun t9 ht9 hW9 => ⟨⟨(nI 1), (), rfl, rfl, by show va_P D vwCl (wBL h a0 a1 a2 cy N ec cc f cs tr o cl g) t9.heap; rw [ht9]; exact hP⟩, hS.F ht9⟩) hS.2.2 dL_community_16

set_option maxHeartbeats 4000000 in
set_option maxRecDepth 100000 in
theorem w_community_neg (l : Launch) (hfl : l.stackTraces = false) (D : va_G) (cy : ClassId) (h a0 a1 a2 N : Nat) (ec cc : Int32) (f cs tr : Nat → Int32) (o : Nat) (cl : ClassId) (g : Nat → Int64) (sz : Nat) (u : Nat) (k : Int32) (hN : N ≤ 20) (hu : u < N) (hk : k < 0) : vx_Met l yL_community wsL_community ({ frames := 8, cells := 1, slots := 6, locals := 125 } : Room) (va_Pc [.ref h, .int (nI u), .int k, .ref o] (fun U => zWr D (wBL h a0 a1 a2 cy N ec cc f cs tr o cl g) [(cy, .int), (cl, .long)] sz U ∧ zTh U)) (va_Qi (fun (r : Int32) (z9 : Unit) => r = nI 2) (fun z9 t => va_P D vwCl (wBL h a0 a1 a2 cy N ec cc f cs tr o cl g) t.heap) (va_A (wBL h a0 a1 a2 cy N ec cc f cs tr o cl g) sz)) zXn 1 6 (va_A (wBL h a0 a1 a2 cy N ec cc f cs tr o cl g) sz) := by
  refine vx_ofWH (cc := cL_community) (maxL := 5) (ret := (some .int)) (by decide) rfl ?_
  intro p e s m args below meth c s₁ B hml hv
  obtain ⟨rfl, ⟨hsz, hP, hK, hD0⟩, hT⟩ := hv
  have hx := B.exec
  have hb := B.bytes
  have hr := B.returns
  have hts := atoms_spec (ws := wsL_community) B.pre
  have hown : s.vm.findClass RL = some m.cls := findClass_of_methodNamed B.named
  have hlocks := B.notSynchronized
  subst hsz
  have hD := hD0.self (sz := s.heap.size)
  generalize hAe : va_A (wBL h a0 a1 a2 cy N ec cc f cs tr o cl g) s.heap.size = A at hD ⊢
  have hA : ∀ q : Nat, s.heap.size ≤ q → A q := fun q h => by rw [← hAe]; exact Or.inr h
  have hS : va_S A s.heap s.heap [] := va_S.rf
  have htb := vx_table (x := yL_community) B (hts (.codeWith yL_community cL_community 5 (some .int) [(0, 10, 13, 19), (0, 10, 17, 21)]) (by decide +kernel))
  have hl := lv_entry ([.ref h, .int (nI u), .int k, .ref o]) (n := 5) (Nat.le_of_ble_eq_true rfl)
  rw [lg_entry_eq]
  generalize (lg_sl ([.ref h, .int (nI u), .int k, .ref o]) ++ List.replicate (5 - (lg_sl ([.ref h, .int (nI u), .int k, .ref o])).length) Slot.unset).toArray = ls at hl ⊢
  have hl : lv_has ls 5 [(0, .ref h), (1, .int (nI u)), (2, .int k), (3, .ref o)] := hl
  refine lv_aload_n hx hb dL_community_0 rfl (lv_at hl 3 rfl) ?_
  refine lv_iconst (v := (nI 0)) hx hb dL_community_1 (by decide) ?_
  refine lv_aload_n hx hb dL_community_2 rfl (lv_at hl 0 rfl) ?_
  refine lv_iload_n hx hb dL_community_3 rfl (lv_at hl 1 rfl) ?_
  refine lv_iload_n hx hb dL_community_4 rfl (lv_at hl 2 rfl) ?_
  have hPb := hP.sub (ws' := wB h a0 a1 a2 cy N ec cc f cs tr) [1, 2, 3, 4] rfl
  refine vx_calli (vx_runV (As := [.int (nI u), .int k]) (rest := [.int (nI 0), .ref o]) ⟨hx, hb, hml, hown, hts⟩ (c_X0_community_neg l hfl D cy h a0 a1 a2 N ec cc f cs tr u k  hN hu hk) (cwV 2 hts gL_community_X0_community rfl rfl rfl (by decide +kernel) ⟨Nat.le_of_ble_eq_true rfl, Nat.le_of_ble_eq_true rfl⟩) ⟨fun a U g mk q => ⟨q.1, ⟨q.2.1.1, va_K.moved (u := U) (U := U.calling g mk a) (Vm.Alike.refl U.vm) q.2.1.2⟩, q.2.2.same rfl rfl⟩, va_recv hK hPb (ci := 0) (q0 := 0) rfl rfl, fun U hU hW => ⟨rfl, ⟨by rw [hU]; exact hPb, va_K.moved hW.alike (hK.sub [0] rfl)⟩, hT.move hW ⟨by rw [hU]; exact Nat.le_refl _, fun q _ => by rw [hU]⟩⟩⟩ rfl rfl hl.1 rfl (lv_room (Nat.le_of_ble_eq_true rfl)) dL_community_5 ⟨Nat.le_of_ble_eq_true rfl, Nat.le_of_ble_eq_true rfl⟩) hS (fun _ _ h => h.elim) (fun _ h => h.elim) (fun _ _ h => h.elim) (fun E2 ce q9 u9 t9 H locs ht9 hvm9 hp9 hB hz hk hS hce hcv hcl => ?_) (fun r u t H1 locs1 ht hvm hw hB hz hk hS1 => hw.elim)
  have hP := zkeep hP ⟨hz, fun q h => hk q h (fun z => z)⟩
  obtain rfl : E2 = nIAE := hB
  refine vx_catch (name := nIAE) hown [⟨0, 10, 13, 19⟩] ⟨0, 10, 17, 21⟩ [] (htb.trans rfl) (List.forall_mem_cons.mpr ⟨Or.inr ⟨by decide, nIOB, hts (.classLink RL 19 nIOB) (by decide +kernel), hT.2.2.1 nIAE (by simp) nIOB (by simp) (by decide)⟩, (fun _ h => absurd h List.not_mem_nil)⟩) (by decide) (by decide) (hts (.classLink RL 21 nIAE) (by decide +kernel)) (va_Nw.use rfl (hT.2.1 nIAE (by simp))) hce hcv hcl ?_
  refine lv_astore (lv' := [(4, .ref q9), (0, .ref h), (1, .int (nI u)), (2, .int k), (3, .ref o)]) hx hb dL_community_17 hl (by decide) rfl (fun ls hl => ?_)
  refine lv_iconst (v := (nI 2)) hx hb dL_community_19 (by decide) ?_
  refine vx_ret ?_
  exact W.iret (v := (nI 2)) hx hb hr (fun t9 ht9 hW9 => ⟨⟨(nI 2), (), rfl, rfl, by show va_P D vwCl (wBL h a0 a1 a2 cy N ec cc f cs tr o cl g) t9.heap; rw [ht9]; exact hP⟩, hS.F ht9⟩) hS.2.2 dL_community_20

set_option maxHeartbeats 4000000 in
set_option maxRecDepth 100000 in
theorem w_communities_ok (l : Launch) (D : va_G) (cy : ClassId) (h a0 a1 a2 N : Nat) (ec cc : Int32) (f cs tr : Nat → Int32) (o : Nat) (cl : ClassId) (g : Nat → Int64) (sz : Nat) (k : Int32) (c0 : Nat → Nat) (hN : N ≤ 20) (hg : gd f N) (hk : ¬ k < 0) (hcs : csI cs c0 N) : vx_Met l yL_communities wsL_communities ({ frames := 8, cells := 0, slots := 0, locals := 123 } : Room) (va_Pc [.ref h, .int k, .ref o] (fun U => zWr D (wBL h a0 a1 a2 cy N ec cc f cs tr o cl g) [(cy, .int), (cl, .long)] sz U ∧ True)) (va_Qi (fun (r : Int32) (z9 : Int32) => r = nI 0 ∧ (z9 = nI (ccn f N (cst c0 N k.toInt) (cst c0 N k.toInt)))) (fun z9 t => va_P D vwCl (wBL h a0 a1 a2 cy N ec cc f cs tr o cl (vp_updL g 0 (z9).toInt64)) t.heap) (va_A (wBL h a0 a1 a2 cy N ec cc f cs tr o cl g) sz)) zXn 0 0 (va_A (wBL h a0 a1 a2 cy N ec cc f cs tr o cl g) sz) := by
  refine vx_ofWH (cc := cL_communities) (maxL := 4) (ret := (some .int)) (by decide) rfl ?_
  intro p e s m args below meth c s₁ B hml hv
  obtain ⟨rfl, ⟨hsz, hP, hK, hD0⟩, hT⟩ := hv
  have hx := B.exec
  have hb := B.bytes
  have hr := B.returns
  have hts := atoms_spec (ws := wsL_communities) B.pre
  have hown : s.vm.findClass RL = some m.cls := findClass_of_methodNamed B.named
  have hlocks := B.notSynchronized
  subst hsz
  have hD := hD0.self (sz := s.heap.size)
  generalize hAe : va_A (wBL h a0 a1 a2 cy N ec cc f cs tr o cl g) s.heap.size = A at hD ⊢
  have hA : ∀ q : Nat, s.heap.size ≤ q → A q := fun q h => by rw [← hAe]; exact Or.inr h
  have hS : va_S A s.heap s.heap [] := va_S.rf
  have hl := lv_entry ([.ref h, .int k, .ref o]) (n := 4) (Nat.le_of_ble_eq_true rfl)
  rw [lg_entry_eq]
  generalize (lg_sl ([.ref h, .int k, .ref o]) ++ List.replicate (4 - (lg_sl ([.ref h, .int k, .ref o])).length) Slot.unset).toArray = ls at hl ⊢
  have hl : lv_has ls 4 [(0, .ref h), (1, .int k), (2, .ref o)] := hl
  refine lv_aload_n hx hb dL_communities_0 rfl (lv_at hl 2 rfl) ?_
  refine lv_iconst (v := (nI 0)) hx hb dL_communities_1 (by decide) ?_
  refine lv_aload_n hx hb dL_communities_2 rfl (lv_at hl 0 rfl) ?_
  refine lv_iload_n hx hb dL_communities_3 rfl (lv_at hl 1 rfl) ?_
  have hPb := hP.sub (ws' := wB h a0 a1 a2 cy N ec cc f cs tr) [1, 2, 3, 4] rfl
  refine zrV (As := [.int k]) (rest := [.int (nI 0), .ref o]) 0 ⟨hx, hb, hml, hown, hts⟩ (c_X0_communities_ok l D cy h a0 a1 a2 N ec cc f cs tr k c0 hN hg hk hcs) (cwV 1 hts gL_communities_X0_communities rfl rfl rfl (by decide +kernel) ⟨Nat.le_of_ble_eq_true rfl, Nat.le_of_ble_eq_true rfl⟩) (hK.sub [0] rfl) hPb rfl rfl rfl hl rfl (Nat.le_of_ble_eq_true rfl) dL_communities_4 ⟨Nat.le_of_ble_eq_true rfl, Nat.le_of_ble_eq_true rfl⟩ hS (fun a9 H locs hw9 hk9 hS => ?_)
  have hP := zkeep hP hk9
  have hw9 : a9 = nI (ccn f N (cst c0 N k.toInt) (cst c0 N k.toInt)) := hw9
  refine lv_i2l (v := (a9).toInt64) hx hb dL_communities_7 rfl ?_
  refine va_last hx hb hK hP hD hS 0 1 rfl rfl (vp_in_nI (by decide) (by decide)) dL_communities_8 (fun H locs hP hD hS => ?_)
  have hP : va_P D vwCl (wBL h a0 a1 a2 cy N ec cc f cs tr o cl (vp_updL g 0 (a9).toInt64)) H := hP
  refine lv_goto (tgt := 15) hx hb dL_communities_9 (by decide) ?_
  refine lv_iconst (v := (nI 0)) hx hb dL_communities_15 (by decide) ?_
  refine vx_ret ?_
  exact W.iret (v := (nI 0)) hx hb hr (fun t9 ht9 hW9 => ⟨⟨(nI 0), a9, rfl, ⟨rfl, hw9⟩, by show va_P D vwCl (wBL h a0 a1 a2 cy N ec cc f cs tr o cl (vp_updL g 0 (a9).toInt64)) t9.heap; rw [ht9]; exact hP⟩, hS.F ht9⟩) hS.2.2 dL_communities_16

set_option maxHeartbeats 4000000 in
set_option maxRecDepth 100000 in
theorem w_communities_neg (l : Launch) (hfl : l.stackTraces = false) (D : va_G) (cy : ClassId) (h a0 a1 a2 N : Nat) (ec cc : Int32) (f cs tr : Nat → Int32) (o : Nat) (cl : ClassId) (g : Nat → Int64) (sz : Nat) (k : Int32) (hk : k < 0) : vx_Met l yL_communities wsL_communities ({ frames := 8, cells := 1, slots := 6, locals := 123 } : Room) (va_Pc [.ref h, .int k, .ref o] (fun U => zWr D (wBL h a0 a1 a2 cy N ec cc f cs tr o cl g) [(cy, .int), (cl, .long)] sz U ∧ zTh U)) (va_Qi (fun (r : Int32) (z9 : Unit) => r = nI 1) (fun z9 t => va_P D vwCl (wBL h a0 a1 a2 cy N ec cc f cs tr o cl g) t.heap) (va_A (wBL h a0 a1 a2 cy N ec cc f cs tr o cl g) sz)) zXn 1 6 (va_A (wBL h a0 a1 a2 cy N ec cc f cs tr o cl g) sz) := by
  refine vx_ofWH (cc := cL_communities) (maxL := 4) (ret := (some .int)) (by decide) rfl ?_
  intro p e s m args below meth c s₁ B hml hv
  obtain ⟨rfl, ⟨hsz, hP, hK, hD0⟩, hT⟩ := hv
  have hx := B.exec
  have hb := B.bytes
  have hr := B.returns
  have hts := atoms_spec (ws := wsL_communities) B.pre
  have hown : s.vm.findClass RL = some m.cls := findClass_of_methodNamed B.named
  have hlocks := B.notSynchronized
  subst hsz
  have hD := hD0.self (sz := s.heap.size)
  generalize hAe : va_A (wBL h a0 a1 a2 cy N ec cc f cs tr o cl g) s.heap.size = A at hD ⊢
  have hA : ∀ q : Nat, s.heap.size ≤ q → A q := fun q h => by rw [← hAe]; exact Or.inr h
  have hS : va_S A s.heap s.heap [] := va_S.rf
  have htb := vx_table (x := yL_communities) B (hts (.codeWith yL_communities cL_communities 4 (some .int) [(0, 9, 12, 21)]) (by decide +kernel))
  have hl := lv_entry ([.ref h, .int k, .ref o]) (n := 4) (Nat.le_of_ble_eq_true rfl)
  rw [lg_entry_eq]
  generalize (lg_sl ([.ref h, .int k, .ref o]) ++ List.replicate (4 - (lg_sl ([.ref h, .int k, .ref o])).length) Slot.unset).toArray = ls at hl ⊢
  have hl : lv_has ls 4 [(0, .ref h), (1, .int k), (2, .ref o)] := hl
  refine lv_aload_n hx hb dL_communities_0 rfl (lv_at hl 2 rfl) ?_
  refine lv_iconst (v := (nI 0)) hx hb dL_communities_1 (by decide) ?_
  refine lv_aload_n hx hb dL_communities_2 rfl (lv_at hl 0 rfl) ?_
  refine lv_iload_n hx hb dL_communities_3 rfl (lv_at hl 1 rfl) ?_
  have hPb := hP.sub (ws' := wB h a0 a1 a2 cy N ec cc f cs tr) [1, 2, 3, 4] rfl
  refine vx_calli (vx_runV (As := [.int k]) (rest := [.int (nI 0), .ref o]) ⟨hx, hb, hml, hown, hts⟩ (c_X0_communities_neg l hfl D cy h a0 a1 a2 N ec cc f cs tr k  hk) (cwV 1 hts gL_communities_X0_communities rfl rfl rfl (by decide +kernel) ⟨Nat.le_of_ble_eq_true rfl, Nat.le_of_ble_eq_true rfl⟩) ⟨fun a U g mk q => ⟨q.1, ⟨q.2.1.1, va_K.moved (u := U) (U := U.calling g mk a) (Vm.Alike.refl U.vm) q.2.1.2⟩, q.2.2.same rfl rfl⟩, va_recv hK hPb (ci := 0) (q0 := 0) rfl rfl, fun U hU hW => ⟨rfl, ⟨by rw [hU]; exact hPb, va_K.moved hW.alike (hK.sub [0] rfl)⟩, hT.move hW ⟨by rw [hU]; exact Nat.le_refl _, fun q _ => by rw [hU]⟩⟩⟩ rfl rfl hl.1 rfl (lv_room (Nat.le_of_ble_eq_true rfl)) dL_communities_4 ⟨Nat.le_of_ble_eq_true rfl, Nat.le_of_ble_eq_true rfl⟩) hS (fun _ _ h => h.elim) (fun _ h => h.elim) (fun _ _ h => h.elim) (fun E2 ce q9 u9 t9 H locs ht9 hvm9 hp9 hB hz hk hS hce hcv hcl => ?_) (fun r u t H1 locs1 ht hvm hw hB hz hk hS1 => hw.elim)
  have hP := zkeep hP ⟨hz, fun q h => hk q h (fun z => z)⟩
  obtain rfl : E2 = nIAE := hB
  refine vx_catch (name := nIAE) hown [] ⟨0, 9, 12, 21⟩ [] (htb.trans rfl) (fun _ h => absurd h List.not_mem_nil) (by decide) (by decide) (hts (.classLink RL 21 nIAE) (by decide +kernel)) (va_Nw.use rfl (hT.2.1 nIAE (by simp))) hce hcv hcl ?_
  refine lv_astore_n (lv' := [(3, .ref q9), (0, .ref h), (1, .int k), (2, .ref o)]) hx hb dL_communities_12 rfl hl (by decide) rfl (fun ls hl => ?_)
  refine lv_iconst (v := (nI 1)) hx hb dL_communities_13 (by decide) ?_
  refine vx_ret ?_
  exact W.iret (v := (nI 1)) hx hb hr (fun t9 ht9 hW9 => ⟨⟨(nI 1), (), rfl, rfl, by show va_P D vwCl (wBL h a0 a1 a2 cy N ec cc f cs tr o cl g) t9.heap; rw [ht9]; exact hP⟩, hS.F ht9⟩) hS.2.2 dL_communities_14

set_option maxHeartbeats 4000000 in
set_option maxRecDepth 100000 in
theorem w_together_ok (l : Launch) (D : va_G) (cy : ClassId) (h a0 a1 a2 N : Nat) (ec cc : Int32) (f cs tr : Nat → Int32) (o : Nat) (cl : ClassId) (g : Nat → Int64) (sz : Nat) (u v t0 : Nat) (c0 : Nat → Nat) (hN : N ≤ 20) (hu : u < N) (hv : v < N) (hcs : csI cs c0 N) (ht0 : tgk f c0 N u v 20 = t0 + 1) : vx_Met l yL_together wsL_together ({ frames := 8, cells := 0, slots := 0, locals := 126 } : Room) (va_Pc [.ref h, .int (nI u), .int (nI v), .ref o] (fun U => zWr D (wBL h a0 a1 a2 cy N ec cc f cs tr o cl g) [(cy, .int), (cl, .long)] sz U ∧ True)) (va_Qi (fun (r : Int32) (z9 : Int32) => r = nI 0 ∧ (z9 = nI t0)) (fun z9 t => va_P D vwCl (wBL h a0 a1 a2 cy N ec cc f cs tr o cl (vp_updL g 0 (z9).toInt64)) t.heap) (va_A (wBL h a0 a1 a2 cy N ec cc f cs tr o cl g) sz)) zXn 0 0 (va_A (wBL h a0 a1 a2 cy N ec cc f cs tr o cl g) sz) := by
  refine vx_ofWH (cc := cL_together) (maxL := 5) (ret := (some .int)) (by decide) rfl ?_
  intro p e s m args below meth c s₁ B hml hv
  obtain ⟨rfl, ⟨hsz, hP, hK, hD0⟩, hT⟩ := hv
  have hx := B.exec
  have hb := B.bytes
  have hr := B.returns
  have hts := atoms_spec (ws := wsL_together) B.pre
  have hown : s.vm.findClass RL = some m.cls := findClass_of_methodNamed B.named
  have hlocks := B.notSynchronized
  subst hsz
  have hD := hD0.self (sz := s.heap.size)
  generalize hAe : va_A (wBL h a0 a1 a2 cy N ec cc f cs tr o cl g) s.heap.size = A at hD ⊢
  have hA : ∀ q : Nat, s.heap.size ≤ q → A q := fun q h => by rw [← hAe]; exact Or.inr h
  have hS : va_S A s.heap s.heap [] := va_S.rf
  have hl := lv_entry ([.ref h, .int (nI u), .int (nI v), .ref o]) (n := 5) (Nat.le_of_ble_eq_true rfl)
  rw [lg_entry_eq]
  generalize (lg_sl ([.ref h, .int (nI u), .int (nI v), .ref o]) ++ List.replicate (5 - (lg_sl ([.ref h, .int (nI u), .int (nI v), .ref o])).length) Slot.unset).toArray = ls at hl ⊢
  have hl : lv_has ls 5 [(0, .ref h), (1, .int (nI u)), (2, .int (nI v)), (3, .ref o)] := hl
  refine lv_aload_n hx hb dL_together_0 rfl (lv_at hl 3 rfl) ?_
  refine lv_iconst (v := (nI 0)) hx hb dL_together_1 (by decide) ?_
  refine lv_aload_n hx hb dL_together_2 rfl (lv_at hl 0 rfl) ?_
  refine lv_iload_n hx hb dL_together_3 rfl (lv_at hl 1 rfl) ?_
  refine lv_iload_n hx hb dL_together_4 rfl (lv_at hl 2 rfl) ?_
  have hPb := hP.sub (ws' := wB h a0 a1 a2 cy N ec cc f cs tr) [1, 2, 3, 4] rfl
  refine zrV (As := [.int (nI u), .int (nI v)]) (rest := [.int (nI 0), .ref o]) 0 ⟨hx, hb, hml, hown, hts⟩ (c_X0_together_ok l D cy h a0 a1 a2 N ec cc f cs tr u v t0 c0 hN hu hv hcs ht0) (cwV 2 hts gL_together_X0_together rfl rfl rfl (by decide +kernel) ⟨Nat.le_of_ble_eq_true rfl, Nat.le_of_ble_eq_true rfl⟩) (hK.sub [0] rfl) hPb rfl rfl rfl hl rfl (Nat.le_of_ble_eq_true rfl) dL_together_5 ⟨Nat.le_of_ble_eq_true rfl, Nat.le_of_ble_eq_true rfl⟩ hS (fun a9 H locs hw9 hk9 hS => ?_)
  have hP := zkeep hP hk9
  have hw9 : a9 = nI t0 := hw9
  refine lv_i2l (v := (a9).toInt64) hx hb dL_together_8 rfl ?_
  refine va_last hx hb hK hP hD hS 0 1 rfl rfl (vp_in_nI (by decide) (by decide)) dL_together_9 (fun H locs hP hD hS => ?_)
  have hP : va_P D vwCl (wBL h a0 a1 a2 cy N ec cc f cs tr o cl (vp_updL g 0 (a9).toInt64)) H := hP
  refine lv_goto (tgt := 21) hx hb dL_together_10 (by decide) ?_
  refine lv_iconst (v := (nI 0)) hx hb dL_together_21 (by decide) ?_
  refine vx_ret ?_
  exact W.iret (v := (nI 0)) hx hb hr (fun t9 ht9 hW9 => ⟨⟨(nI 0), a9, rfl, ⟨rfl, hw9⟩, by show va_P D vwCl (wBL h a0 a1 a2 cy N ec cc f cs tr o cl (vp_updL g 0 (a9).toInt64)) t9.heap; rw [ht9]; exact hP⟩, hS.F ht9⟩) hS.2.2 dL_together_22

set_option maxHeartbeats 4000000 in
set_option maxRecDepth 100000 in
theorem w_together_bad1 (l : Launch) (hfl : l.stackTraces = false) (D : va_G) (cy : ClassId) (h a0 a1 a2 N : Nat) (ec cc : Int32) (f cs tr : Nat → Int32) (o : Nat) (cl : ClassId) (g : Nat → Int64) (sz : Nat) (q1 q2 : Int32) (hq : isNb q1 N = false) : vx_Met l yL_together wsL_together ({ frames := 8, cells := 1, slots := 6, locals := 126 } : Room) (va_Pc [.ref h, .int q1, .int q2, .ref o] (fun U => zWr D (wBL h a0 a1 a2 cy N ec cc f cs tr o cl g) [(cy, .int), (cl, .long)] sz U ∧ zTh U)) (va_Qi (fun (r : Int32) (z9 : Unit) => r = nI 1) (fun z9 t => va_P D vwCl (wBL h a0 a1 a2 cy N ec cc f cs tr o cl g) t.heap) (va_A (wBL h a0 a1 a2 cy N ec cc f cs tr o cl g) sz)) zXn 1 6 (va_A (wBL h a0 a1 a2 cy N ec cc f cs tr o cl g) sz) := by
  refine vx_ofWH (cc := cL_together) (maxL := 5) (ret := (some .int)) (by decide) rfl ?_
  intro p e s m args below meth c s₁ B hml hv
  obtain ⟨rfl, ⟨hsz, hP, hK, hD0⟩, hT⟩ := hv
  have hx := B.exec
  have hb := B.bytes
  have hr := B.returns
  have hts := atoms_spec (ws := wsL_together) B.pre
  have hown : s.vm.findClass RL = some m.cls := findClass_of_methodNamed B.named
  have hlocks := B.notSynchronized
  subst hsz
  have hD := hD0.self (sz := s.heap.size)
  generalize hAe : va_A (wBL h a0 a1 a2 cy N ec cc f cs tr o cl g) s.heap.size = A at hD ⊢
  have hA : ∀ q : Nat, s.heap.size ≤ q → A q := fun q h => by rw [← hAe]; exact Or.inr h
  have hS : va_S A s.heap s.heap [] := va_S.rf
  have htb := vx_table (x := yL_together) B (hts (.codeWith yL_together cL_together 5 (some .int) [(0, 10, 13, 19), (0, 10, 17, 26)]) (by decide +kernel))
  have hl := lv_entry ([.ref h, .int q1, .int q2, .ref o]) (n := 5) (Nat.le_of_ble_eq_true rfl)
  rw [lg_entry_eq]
  generalize (lg_sl ([.ref h, .int q1, .int q2, .ref o]) ++ List.replicate (5 - (lg_sl ([.ref h, .int q1, .int q2, .ref o])).length) Slot.unset).toArray = ls at hl ⊢
  have hl : lv_has ls 5 [(0, .ref h), (1, .int q1), (2, .int q2), (3, .ref o)] := hl
  refine lv_aload_n hx hb dL_together_0 rfl (lv_at hl 3 rfl) ?_
  refine lv_iconst (v := (nI 0)) hx hb dL_together_1 (by decide) ?_
  refine lv_aload_n hx hb dL_together_2 rfl (lv_at hl 0 rfl) ?_
  refine lv_iload_n hx hb dL_together_3 rfl (lv_at hl 1 rfl) ?_
  refine lv_iload_n hx hb dL_together_4 rfl (lv_at hl 2 rfl) ?_
  have hPb := hP.sub (ws' := wB h a0 a1 a2 cy N ec cc f cs tr) [1, 2, 3, 4] rfl
  refine vx_calli (vx_runV (As := [.int q1, .int q2]) (rest := [.int (nI 0), .ref o]) ⟨hx, hb, hml, hown, hts⟩ (c_X0_together_bad1 l hfl D cy h a0 a1 a2 N ec cc f cs tr q1 q2  hq) (cwV 2 hts gL_together_X0_together rfl rfl rfl (by decide +kernel) ⟨Nat.le_of_ble_eq_true rfl, Nat.le_of_ble_eq_true rfl⟩) ⟨fun a U g mk q => ⟨q.1, ⟨q.2.1.1, va_K.moved (u := U) (U := U.calling g mk a) (Vm.Alike.refl U.vm) q.2.1.2⟩, q.2.2.same rfl rfl⟩, va_recv hK hPb (ci := 0) (q0 := 0) rfl rfl, fun U hU hW => ⟨rfl, ⟨by rw [hU]; exact hPb, va_K.moved hW.alike (hK.sub [0] rfl)⟩, hT.move hW ⟨by rw [hU]; exact Nat.le_refl _, fun q _ => by rw [hU]⟩⟩⟩ rfl rfl hl.1 rfl (lv_room (Nat.le_of_ble_eq_true rfl)) dL_together_5 ⟨Nat.le_of_ble_eq_true rfl, Nat.le_of_ble_eq_true rfl⟩) hS (fun _ _ h => h.elim) (fun _ h => h.elim) (fun _ _ h => h.elim) (fun E2 ce q9 u9 t9 H locs ht9 hvm9 hp9 hB hz hk hS hce hcv hcl => ?_) (fun r u t H1 locs1 ht hvm hw hB hz hk hS1 => hw.elim)
  have hP := zkeep hP ⟨hz, fun q h => hk q h (fun z => z)⟩
  obtain rfl : E2 = nIOB := hB
  refine vx_catch (name := nIOB) hown [] ⟨0, 10, 13, 19⟩ [⟨0, 10, 17, 26⟩] (htb.trans rfl) (fun _ h => absurd h List.not_mem_nil) (by decide) (by decide) (hts (.classLink RL 19 nIOB) (by decide +kernel)) (va_Nw.use rfl (hT.2.1 nIOB (by simp))) hce hcv hcl ?_
  refine lv_astore (lv' := [(4, .ref q9), (0, .ref h), (1, .int q1), (2, .int q2), (3, .ref o)]) hx hb dL_together_13 hl (by decide) rfl (fun ls hl => ?_)
  refine lv_iconst (v := (nI 1)) hx hb dL_together_15 (by decide) ?_
  refine vx_ret ?_
  exact W.iret (v := (nI 1)) hx hb hr (fun t9 ht9 hW9 => ⟨⟨(nI 1), (), rfl, rfl, by show va_P D vwCl (wBL h a0 a1 a2 cy N ec cc f cs tr o cl g) t9.heap; rw [ht9]; exact hP⟩, hS.F ht9⟩) hS.2.2 dL_together_16

set_option maxHeartbeats 4000000 in
set_option maxRecDepth 100000 in
theorem w_together_bad2 (l : Launch) (hfl : l.stackTraces = false) (D : va_G) (cy : ClassId) (h a0 a1 a2 N : Nat) (ec cc : Int32) (f cs tr : Nat → Int32) (o : Nat) (cl : ClassId) (g : Nat → Int64) (sz : Nat) (u : Nat) (q2 : Int32) (hN : N ≤ 20) (hu : u < N) (hq : isNb q2 N = false) : vx_Met l yL_together wsL_together ({ frames := 8, cells := 1, slots := 6, locals := 126 } : Room) (va_Pc [.ref h, .int (nI u), .int q2, .ref o] (fun U => zWr D (wBL h a0 a1 a2 cy N ec cc f cs tr o cl g) [(cy, .int), (cl, .long)] sz U ∧ zTh U)) (va_Qi (fun (r : Int32) (z9 : Unit) => r = nI 1) (fun z9 t => va_P D vwCl (wBL h a0 a1 a2 cy N ec cc f cs tr o cl g) t.heap) (va_A (wBL h a0 a1 a2 cy N ec cc f cs tr o cl g) sz)) zXn 1 6 (va_A (wBL h a0 a1 a2 cy N ec cc f cs tr o cl g) sz) := by
  refine vx_ofWH (cc := cL_together) (maxL := 5) (ret := (some .int)) (by decide) rfl ?_
  intro p e s m args below meth c s₁ B hml hv
  obtain ⟨rfl, ⟨hsz, hP, hK, hD0⟩, hT⟩ := hv
  have hx := B.exec
  have hb := B.bytes
  have hr := B.returns
  have hts := atoms_spec (ws := wsL_together) B.pre
  have hown : s.vm.findClass RL = some m.cls := findClass_of_methodNamed B.named
  have hlocks := B.notSynchronized
  subst hsz
  have hD := hD0.self (sz := s.heap.size)
  generalize hAe : va_A (wBL h a0 a1 a2 cy N ec cc f cs tr o cl g) s.heap.size = A at hD ⊢
  have hA : ∀ q : Nat, s.heap.size ≤ q → A q := fun q h => by rw [← hAe]; exact Or.inr h
  have hS : va_S A s.heap s.heap [] := va_S.rf
  have htb := vx_table (x := yL_together) B (hts (.codeWith yL_together cL_together 5 (some .int) [(0, 10, 13, 19), (0, 10, 17, 26)]) (by decide +kernel))
  have hl := lv_entry ([.ref h, .int (nI u), .int q2, .ref o]) (n := 5) (Nat.le_of_ble_eq_true rfl)
  rw [lg_entry_eq]
  generalize (lg_sl ([.ref h, .int (nI u), .int q2, .ref o]) ++ List.replicate (5 - (lg_sl ([.ref h, .int (nI u), .int q2, .ref o])).length) Slot.unset).toArray = ls at hl ⊢
  have hl : lv_has ls 5 [(0, .ref h), (1, .int (nI u)), (2, .int q2), (3, .ref o)] := hl
  refine lv_aload_n hx hb dL_together_0 rfl (lv_at hl 3 rfl) ?_
  refine lv_iconst (v := (nI 0)) hx hb dL_together_1 (by decide) ?_
  refine lv_aload_n hx hb dL_together_2 rfl (lv_at hl 0 rfl) ?_
  refine lv_iload_n hx hb dL_together_3 rfl (lv_at hl 1 rfl) ?_
  refine lv_iload_n hx hb dL_together_4 rfl (lv_at hl 2 rfl) ?_
  have hPb := hP.sub (ws' := wB h a0 a1 a2 cy N ec cc f cs tr) [1, 2, 3, 4] rfl
  refine vx_calli (vx_runV (As := [.int (nI u), .int q2]) (rest := [.int (nI 0), .ref o]) ⟨hx, hb, hml, hown, hts⟩ (c_X0_together_bad2 l hfl D cy h a0 a1 a2 N ec cc f cs tr u q2  hN hu hq) (cwV 2 hts gL_together_X0_together rfl rfl rfl (by decide +kernel) ⟨Nat.le_of_ble_eq_true rfl, Nat.le_of_ble_eq_true rfl⟩) ⟨fun a U g mk q => ⟨q.1, ⟨q.2.1.1, va_K.moved (u := U) (U := U.calling g mk a) (Vm.Alike.refl U.vm) q.2.1.2⟩, q.2.2.same rfl rfl⟩, va_recv hK hPb (ci := 0) (q0 := 0) rfl rfl, fun U hU hW => ⟨rfl, ⟨by rw [hU]; exact hPb, va_K.moved hW.alike (hK.sub [0] rfl)⟩, hT.move hW ⟨by rw [hU]; exact Nat.le_refl _, fun q _ => by rw [hU]⟩⟩⟩ rfl rfl hl.1 rfl (lv_room (Nat.le_of_ble_eq_true rfl)) dL_together_5 ⟨Nat.le_of_ble_eq_true rfl, Nat.le_of_ble_eq_true rfl⟩) hS (fun _ _ h => h.elim) (fun _ h => h.elim) (fun _ _ h => h.elim) (fun E2 ce q9 u9 t9 H locs ht9 hvm9 hp9 hB hz hk hS hce hcv hcl => ?_) (fun r u t H1 locs1 ht hvm hw hB hz hk hS1 => hw.elim)
  have hP := zkeep hP ⟨hz, fun q h => hk q h (fun z => z)⟩
  obtain rfl : E2 = nIOB := hB
  refine vx_catch (name := nIOB) hown [] ⟨0, 10, 13, 19⟩ [⟨0, 10, 17, 26⟩] (htb.trans rfl) (fun _ h => absurd h List.not_mem_nil) (by decide) (by decide) (hts (.classLink RL 19 nIOB) (by decide +kernel)) (va_Nw.use rfl (hT.2.1 nIOB (by simp))) hce hcv hcl ?_
  refine lv_astore (lv' := [(4, .ref q9), (0, .ref h), (1, .int (nI u)), (2, .int q2), (3, .ref o)]) hx hb dL_together_13 hl (by decide) rfl (fun ls hl => ?_)
  refine lv_iconst (v := (nI 1)) hx hb dL_together_15 (by decide) ?_
  refine vx_ret ?_
  exact W.iret (v := (nI 1)) hx hb hr (fun t9 ht9 hW9 => ⟨⟨(nI 1), (), rfl, rfl, by show va_P D vwCl (wBL h a0 a1 a2 cy N ec cc f cs tr o cl g) t9.heap; rw [ht9]; exact hP⟩, hS.F ht9⟩) hS.2.2 dL_together_16

set_option maxHeartbeats 4000000 in
set_option maxRecDepth 100000 in
theorem w_together_none (l : Launch) (hfl : l.stackTraces = false) (D : va_G) (cy : ClassId) (h a0 a1 a2 N : Nat) (ec cc : Int32) (f cs tr : Nat → Int32) (o : Nat) (cl : ClassId) (g : Nat → Int64) (sz : Nat) (u v : Nat) (c0 : Nat → Nat) (hN : N ≤ 20) (hu : u < N) (hv : v < N) (hcs : csI cs c0 N) (ht0 : tgk f c0 N u v 20 = 0) : vx_Met l yL_together wsL_together ({ frames := 8, cells := 1, slots := 6, locals := 126 } : Room) (va_Pc [.ref h, .int (nI u), .int (nI v), .ref o] (fun U => zWr D (wBL h a0 a1 a2 cy N ec cc f cs tr o cl g) [(cy, .int), (cl, .long)] sz U ∧ zTh U)) (va_Qi (fun (r : Int32) (z9 : Unit) => r = nI 2) (fun z9 t => va_P D vwCl (wBL h a0 a1 a2 cy N ec cc f cs tr o cl g) t.heap) (va_A (wBL h a0 a1 a2 cy N ec cc f cs tr o cl g) sz)) zXn 1 6 (va_A (wBL h a0 a1 a2 cy N ec cc f cs tr o cl g) sz) := by
  refine vx_ofWH (cc := cL_together) (maxL := 5) (ret := (some .int)) (by decide) rfl ?_
  intro p e s m args below meth c s₁ B hml hv
  obtain ⟨rfl, ⟨hsz, hP, hK, hD0⟩, hT⟩ := hv
  have hx := B.exec
  have hb := B.bytes
  have hr := B.returns
  have hts := atoms_spec (ws := wsL_together) B.pre
  have hown : s.vm.findClass RL = some m.cls := findClass_of_methodNamed B.named
  have hlocks := B.notSynchronized
  subst hsz
  have hD := hD0.self (sz := s.heap.size)
  generalize hAe : va_A (wBL h a0 a1 a2 cy N ec cc f cs tr o cl g) s.heap.size = A at hD ⊢
  have hA : ∀ q : Nat, s.heap.size ≤ q → A q := fun q h => by rw [← hAe]; exact Or.inr h
  have hS : va_S A s.heap s.heap [] := va_S.rf
  have htb := vx_table (x := yL_together) B (hts (.codeWith yL_together cL_together 5 (some .int) [(0, 10, 13, 19), (0, 10, 17, 26)]) (by decide +kernel))
  have hl := lv_entry ([.ref h, .int (nI u), .int (nI v), .ref o]) (n := 5) (Nat.le_of_ble_eq_true rfl)
  rw [lg_entry_eq]
  generalize (lg_sl ([.ref h, .int (nI u), .int (nI v), .ref o]) ++ List.replicate (5 - (lg_sl ([.ref h, .int (nI u), .int (nI v), .ref o])).length) Slot.unset).toArray = ls at hl ⊢
  have hl : lv_has ls 5 [(0, .ref h), (1, .int (nI u)), (2, .int (nI v)), (3, .ref o)] := hl
  refine lv_aload_n hx hb dL_together_0 rfl (lv_at hl 3 rfl) ?_
  refine lv_iconst (v := (nI 0)) hx hb dL_together_1 (by decide) ?_
  refine lv_aload_n hx hb dL_together_2 rfl (lv_at hl 0 rfl) ?_
  refine lv_iload_n hx hb dL_together_3 rfl (lv_at hl 1 rfl) ?_
  refine lv_iload_n hx hb dL_together_4 rfl (lv_at hl 2 rfl) ?_
  have hPb := hP.sub (ws' := wB h a0 a1 a2 cy N ec cc f cs tr) [1, 2, 3, 4] rfl
  refine vx_calli (vx_runV (As := [.int (nI u), .int (nI v)]) (rest := [.int (nI 0), .ref o]) ⟨hx, hb, hml, hown, hts⟩ (c_X0_together_none l hfl D cy h a0 a1 a2 N ec cc f cs tr u v c0 hN hu hv hcs ht0) (cwV 2 hts gL_together_X0_together rfl rfl rfl (by decide +kernel) ⟨Nat.le_of_ble_eq_true rfl, Nat.le_of_ble_eq_true rfl⟩) ⟨fun a U g mk q => ⟨q.1, ⟨q.2.1.1, va_K.moved (u := U) (U := U.calling g mk a) (Vm.Alike.refl U.vm) q.2.1.2⟩, q.2.2.same rfl rfl⟩, va_recv hK hPb (ci := 0) (q0 := 0) rfl rfl, fun U hU hW => ⟨rfl, ⟨by rw [hU]; exact hPb, va_K.moved hW.alike (hK.sub [0] rfl)⟩, hT.move hW ⟨by rw [hU]; exact Nat.le_refl _, fun q _ => by rw [hU]⟩⟩⟩ rfl rfl hl.1 rfl (lv_room (Nat.le_of_ble_eq_true rfl)) dL_together_5 ⟨Nat.le_of_ble_eq_true rfl, Nat.le_of_ble_eq_true rfl⟩) hS (fun _ _ h => h.elim) (fun _ h => h.elim) (fun _ _ h => h.elim) (fun E2 ce q9 u9 t9 H locs ht9 hvm9 hp9 hB hz hk hS hce hcv hcl => ?_) (fun r u t H1 locs1 ht hvm hw hB hz hk hS1 => hw.elim)
  have hP := zkeep hP ⟨hz, fun q h => hk q h (fun z => z)⟩
  obtain rfl : E2 = nNSE := hB
  refine vx_catch (name := nNSE) hown [⟨0, 10, 13, 19⟩] ⟨0, 10, 17, 26⟩ [] (htb.trans rfl) (List.forall_mem_cons.mpr ⟨Or.inr ⟨by decide, nIOB, hts (.classLink RL 19 nIOB) (by decide +kernel), hT.2.2.1 nNSE (by simp) nIOB (by simp) (by decide)⟩, (fun _ h => absurd h List.not_mem_nil)⟩) (by decide) (by decide) (hts (.classLink RL 26 nNSE) (by decide +kernel)) (va_Nw.use rfl (hT.2.1 nNSE (by simp))) hce hcv hcl ?_
  refine lv_astore (lv' := [(4, .ref q9), (0, .ref h), (1, .int (nI u)), (2, .int (nI v)), (3, .ref o)]) hx hb dL_together_17 hl (by decide) rfl (fun ls hl => ?_)
  refine lv_iconst (v := (nI 2)) hx hb dL_together_19 (by decide) ?_
  refine vx_ret ?_
  exact W.iret (v := (nI 2)) hx hb hr (fun t9 ht9 hW9 => ⟨⟨(nI 2), (), rfl, rfl, by show va_P D vwCl (wBL h a0 a1 a2 cy N ec cc f cs tr o cl g) t9.heap; rw [ht9]; exact hP⟩, hS.F ht9⟩) hS.2.2 dL_together_20

set_option maxHeartbeats 4000000 in
set_option maxRecDepth 100000 in
theorem w_peeled_ok (l : Launch) (D : va_G) (cy : ClassId) (h a0 a1 a2 N : Nat) (ec cc : Int32) (f cs tr : Nat → Int32) (o : Nat) (cl : ClassId) (g : Nat → Int64) (sz : Nat) (u : Nat) (hN : N ≤ 20) (hu : u < N) : vx_Met l yL_peeled wsL_peeled ({ frames := 4, cells := 0, slots := 0, locals := 88 } : Room) (va_Pc [.ref h, .int (nI u), .ref o] (fun U => zWr D (wBL h a0 a1 a2 cy N ec cc f cs tr o cl g) [(cy, .int), (cl, .long)] sz U ∧ True)) (va_Qi (fun (r : Int32) (z9 : Int32) => r = nI 0 ∧ (z9 = nI (npk f (dsk f N u).1 N).1)) (fun z9 t => va_P D vwCl (wBL h a0 a1 a2 cy N ec cc f cs tr o cl (vp_updL g 0 (z9).toInt64)) t.heap) (va_A (wBL h a0 a1 a2 cy N ec cc f cs tr o cl g) sz)) zXn 0 0 (va_A (wBL h a0 a1 a2 cy N ec cc f cs tr o cl g) sz) := by
  refine vx_ofWH (cc := cL_peeled) (maxL := 4) (ret := (some .int)) (by decide) rfl ?_
  intro p e s m args below meth c s₁ B hml hv
  obtain ⟨rfl, ⟨hsz, hP, hK, hD0⟩, hT⟩ := hv
  have hx := B.exec
  have hb := B.bytes
  have hr := B.returns
  have hts := atoms_spec (ws := wsL_peeled) B.pre
  have hown : s.vm.findClass RL = some m.cls := findClass_of_methodNamed B.named
  have hlocks := B.notSynchronized
  subst hsz
  have hD := hD0.self (sz := s.heap.size)
  generalize hAe : va_A (wBL h a0 a1 a2 cy N ec cc f cs tr o cl g) s.heap.size = A at hD ⊢
  have hA : ∀ q : Nat, s.heap.size ≤ q → A q := fun q h => by rw [← hAe]; exact Or.inr h
  have hS : va_S A s.heap s.heap [] := va_S.rf
  have hl := lv_entry ([.ref h, .int (nI u), .ref o]) (n := 4) (Nat.le_of_ble_eq_true rfl)
  rw [lg_entry_eq]
  generalize (lg_sl ([.ref h, .int (nI u), .ref o]) ++ List.replicate (4 - (lg_sl ([.ref h, .int (nI u), .ref o])).length) Slot.unset).toArray = ls at hl ⊢
  have hl : lv_has ls 4 [(0, .ref h), (1, .int (nI u)), (2, .ref o)] := hl
  refine lv_aload_n hx hb dL_peeled_0 rfl (lv_at hl 2 rfl) ?_
  refine lv_iconst (v := (nI 0)) hx hb dL_peeled_1 (by decide) ?_
  refine lv_aload_n hx hb dL_peeled_2 rfl (lv_at hl 0 rfl) ?_
  refine lv_iload_n hx hb dL_peeled_3 rfl (lv_at hl 1 rfl) ?_
  have hPb := hP.sub (ws' := wB h a0 a1 a2 cy N ec cc f cs tr) [1, 2, 3, 4] rfl
  refine zrV (As := [.int (nI u)]) (rest := [.int (nI 0), .ref o]) 0 ⟨hx, hb, hml, hown, hts⟩ (c_X0_peeled_ok l D cy h a0 a1 a2 N ec cc f cs tr u  hN hu) (cwV 1 hts gL_peeled_X0_peeled rfl rfl rfl (by decide +kernel) ⟨Nat.le_of_ble_eq_true rfl, Nat.le_of_ble_eq_true rfl⟩) (hK.sub [0] rfl) hPb rfl rfl rfl hl rfl (Nat.le_of_ble_eq_true rfl) dL_peeled_4 ⟨Nat.le_of_ble_eq_true rfl, Nat.le_of_ble_eq_true rfl⟩ hS (fun a9 H locs hw9 hk9 hS => ?_)
  have hP := zkeep hP hk9
  have hw9 : a9 = nI (npk f (dsk f N u).1 N).1 := hw9
  refine lv_i2l (v := (a9).toInt64) hx hb dL_peeled_7 rfl ?_
  refine va_last hx hb hK hP hD hS 0 1 rfl rfl (vp_in_nI (by decide) (by decide)) dL_peeled_8 (fun H locs hP hD hS => ?_)
  have hP : va_P D vwCl (wBL h a0 a1 a2 cy N ec cc f cs tr o cl (vp_updL g 0 (a9).toInt64)) H := hP
  refine lv_goto (tgt := 15) hx hb dL_peeled_9 (by decide) ?_
  refine lv_iconst (v := (nI 0)) hx hb dL_peeled_15 (by decide) ?_
  refine vx_ret ?_
  exact W.iret (v := (nI 0)) hx hb hr (fun t9 ht9 hW9 => ⟨⟨(nI 0), a9, rfl, ⟨rfl, hw9⟩, by show va_P D vwCl (wBL h a0 a1 a2 cy N ec cc f cs tr o cl (vp_updL g 0 (a9).toInt64)) t9.heap; rw [ht9]; exact hP⟩, hS.F ht9⟩) hS.2.2 dL_peeled_16

set_option maxHeartbeats 4000000 in
set_option maxRecDepth 100000 in
theorem w_peeled_bad (l : Launch) (hfl : l.stackTraces = false) (D : va_G) (cy : ClassId) (h a0 a1 a2 N : Nat) (ec cc : Int32) (f cs tr : Nat → Int32) (o : Nat) (cl : ClassId) (g : Nat → Int64) (sz : Nat) (q : Int32) (hq : isNb q N = false) : vx_Met l yL_peeled wsL_peeled ({ frames := 7, cells := 1, slots := 6, locals := 105 } : Room) (va_Pc [.ref h, .int q, .ref o] (fun U => zWr D (wBL h a0 a1 a2 cy N ec cc f cs tr o cl g) [(cy, .int), (cl, .long)] sz U ∧ zTh U)) (va_Qi (fun (r : Int32) (z9 : Unit) => r = nI 1) (fun z9 t => va_P D vwCl (wBL h a0 a1 a2 cy N ec cc f cs tr o cl g) t.heap) (va_A (wBL h a0 a1 a2 cy N ec cc f cs tr o cl g) sz)) zXn 1 6 (va_A (wBL h a0 a1 a2 cy N ec cc f cs tr o cl g) sz) := by
  refine vx_ofWH (cc := cL_peeled) (maxL := 4) (ret := (some .int)) (by decide) rfl ?_
  intro p e s m args below meth c s₁ B hml hv
  obtain ⟨rfl, ⟨hsz, hP, hK, hD0⟩, hT⟩ := hv
  have hx := B.exec
  have hb := B.bytes
  have hr := B.returns
  have hts := atoms_spec (ws := wsL_peeled) B.pre
  have hown : s.vm.findClass RL = some m.cls := findClass_of_methodNamed B.named
  have hlocks := B.notSynchronized
  subst hsz
  have hD := hD0.self (sz := s.heap.size)
  generalize hAe : va_A (wBL h a0 a1 a2 cy N ec cc f cs tr o cl g) s.heap.size = A at hD ⊢
  have hA : ∀ q : Nat, s.heap.size ≤ q → A q := fun q h => by rw [← hAe]; exact Or.inr h
  have hS : va_S A s.heap s.heap [] := va_S.rf
  have htb := vx_table (x := yL_peeled) B (hts (.codeWith yL_peeled cL_peeled 4 (some .int) [(0, 9, 12, 19)]) (by decide +kernel))
  have hl := lv_entry ([.ref h, .int q, .ref o]) (n := 4) (Nat.le_of_ble_eq_true rfl)
  rw [lg_entry_eq]
  generalize (lg_sl ([.ref h, .int q, .ref o]) ++ List.replicate (4 - (lg_sl ([.ref h, .int q, .ref o])).length) Slot.unset).toArray = ls at hl ⊢
  have hl : lv_has ls 4 [(0, .ref h), (1, .int q), (2, .ref o)] := hl
  refine lv_aload_n hx hb dL_peeled_0 rfl (lv_at hl 2 rfl) ?_
  refine lv_iconst (v := (nI 0)) hx hb dL_peeled_1 (by decide) ?_
  refine lv_aload_n hx hb dL_peeled_2 rfl (lv_at hl 0 rfl) ?_
  refine lv_iload_n hx hb dL_peeled_3 rfl (lv_at hl 1 rfl) ?_
  have hPb := hP.sub (ws' := wB h a0 a1 a2 cy N ec cc f cs tr) [1, 2, 3, 4] rfl
  refine vx_calli (vx_runV (As := [.int q]) (rest := [.int (nI 0), .ref o]) ⟨hx, hb, hml, hown, hts⟩ (c_X0_peeled_bad l hfl D cy h a0 a1 a2 N ec cc f cs tr q  hq) (cwV 1 hts gL_peeled_X0_peeled rfl rfl rfl (by decide +kernel) ⟨Nat.le_of_ble_eq_true rfl, Nat.le_of_ble_eq_true rfl⟩) ⟨fun a U g mk q => ⟨q.1, ⟨q.2.1.1, va_K.moved (u := U) (U := U.calling g mk a) (Vm.Alike.refl U.vm) q.2.1.2⟩, q.2.2.same rfl rfl⟩, va_recv hK hPb (ci := 0) (q0 := 0) rfl rfl, fun U hU hW => ⟨rfl, ⟨by rw [hU]; exact hPb, va_K.moved hW.alike (hK.sub [0] rfl)⟩, hT.move hW ⟨by rw [hU]; exact Nat.le_refl _, fun q _ => by rw [hU]⟩⟩⟩ rfl rfl hl.1 rfl (lv_room (Nat.le_of_ble_eq_true rfl)) dL_peeled_4 ⟨Nat.le_of_ble_eq_true rfl, Nat.le_of_ble_eq_true rfl⟩) hS (fun _ _ h => h.elim) (fun _ h => h.elim) (fun _ _ h => h.elim) (fun E2 ce q9 u9 t9 H locs ht9 hvm9 hp9 hB hz hk hS hce hcv hcl => ?_) (fun r u t H1 locs1 ht hvm hw hB hz hk hS1 => hw.elim)
  have hP := zkeep hP ⟨hz, fun q h => hk q h (fun z => z)⟩
  obtain rfl : E2 = nIOB := hB
  refine vx_catch (name := nIOB) hown [] ⟨0, 9, 12, 19⟩ [] (htb.trans rfl) (fun _ h => absurd h List.not_mem_nil) (by decide) (by decide) (hts (.classLink RL 19 nIOB) (by decide +kernel)) (va_Nw.use rfl (hT.2.1 nIOB (by simp))) hce hcv hcl ?_
  refine lv_astore_n (lv' := [(3, .ref q9), (0, .ref h), (1, .int q), (2, .ref o)]) hx hb dL_peeled_12 rfl hl (by decide) rfl (fun ls hl => ?_)
  refine lv_iconst (v := (nI 1)) hx hb dL_peeled_13 (by decide) ?_
  refine vx_ret ?_
  exact W.iret (v := (nI 1)) hx hb hr (fun t9 ht9 hW9 => ⟨⟨(nI 1), (), rfl, rfl, by show va_P D vwCl (wBL h a0 a1 a2 cy N ec cc f cs tr o cl g) t9.heap; rw [ht9]; exact hP⟩, hS.F ht9⟩) hS.2.2 dL_peeled_14

set_option maxHeartbeats 4000000 in
set_option maxRecDepth 100000 in
theorem w_isDense_ok (l : Launch) (D : va_G) (cy : ClassId) (h a0 a1 a2 N : Nat) (ec cc : Int32) (f cs tr : Nat → Int32) (o : Nat) (cl : ClassId) (g : Nat → Int64) (sz : Nat) (u : Nat) (hN : N ≤ 20) (hu : u < N) (hec : ec = nI (ewn f N (zal N))) : vx_Met l yL_isDense wsL_isDense ({ frames := 8, cells := 0, slots := 0, locals := 124 } : Room) (va_Pc [.ref h, .int (nI u), .ref o] (fun U => zWr D (wBL h a0 a1 a2 cy N ec cc f cs tr o cl g) [(cy, .int), (cl, .long)] sz U ∧ True)) (va_Qi (fun (r : Int32) (z9 : Int32) => r = nI 0 ∧ (z9 = zb (bt (dsk f N (N - 1)).2.1 u))) (fun z9 t => va_P D vwCl (wBL h a0 a1 a2 cy N ec cc f cs tr o cl (vp_updL g 0 (z9).toInt64)) t.heap) (va_A (wBL h a0 a1 a2 cy N ec cc f cs tr o cl g) sz)) zXn 0 0 (va_A (wBL h a0 a1 a2 cy N ec cc f cs tr o cl g) sz) := by
  refine vx_ofWH (cc := cL_isDense) (maxL := 4) (ret := (some .int)) (by decide) rfl ?_
  intro p e s m args below meth c s₁ B hml hv
  obtain ⟨rfl, ⟨hsz, hP, hK, hD0⟩, hT⟩ := hv
  have hx := B.exec
  have hb := B.bytes
  have hr := B.returns
  have hts := atoms_spec (ws := wsL_isDense) B.pre
  have hown : s.vm.findClass RL = some m.cls := findClass_of_methodNamed B.named
  have hlocks := B.notSynchronized
  subst hsz
  have hD := hD0.self (sz := s.heap.size)
  generalize hAe : va_A (wBL h a0 a1 a2 cy N ec cc f cs tr o cl g) s.heap.size = A at hD ⊢
  have hA : ∀ q : Nat, s.heap.size ≤ q → A q := fun q h => by rw [← hAe]; exact Or.inr h
  have hS : va_S A s.heap s.heap [] := va_S.rf
  have hl := lv_entry ([.ref h, .int (nI u), .ref o]) (n := 4) (Nat.le_of_ble_eq_true rfl)
  rw [lg_entry_eq]
  generalize (lg_sl ([.ref h, .int (nI u), .ref o]) ++ List.replicate (4 - (lg_sl ([.ref h, .int (nI u), .ref o])).length) Slot.unset).toArray = ls at hl ⊢
  have hl : lv_has ls 4 [(0, .ref h), (1, .int (nI u)), (2, .ref o)] := hl
  refine lv_aload_n hx hb dL_isDense_0 rfl (lv_at hl 2 rfl) ?_
  refine lv_iconst (v := (nI 0)) hx hb dL_isDense_1 (by decide) ?_
  refine lv_aload_n hx hb dL_isDense_2 rfl (lv_at hl 0 rfl) ?_
  refine lv_iload_n hx hb dL_isDense_3 rfl (lv_at hl 1 rfl) ?_
  have hPb := hP.sub (ws' := wB h a0 a1 a2 cy N ec cc f cs tr) [1, 2, 3, 4] rfl
  refine zrV (As := [.int (nI u)]) (rest := [.int (nI 0), .ref o]) 0 ⟨hx, hb, hml, hown, hts⟩ (c_X0_isDense_ok l D cy h a0 a1 a2 N ec cc f cs tr u  hN hu hec) (cwV 1 hts gL_isDense_X0_isDense rfl rfl rfl (by decide +kernel) ⟨Nat.le_of_ble_eq_true rfl, Nat.le_of_ble_eq_true rfl⟩) (hK.sub [0] rfl) hPb rfl rfl rfl hl rfl (Nat.le_of_ble_eq_true rfl) dL_isDense_4 ⟨Nat.le_of_ble_eq_true rfl, Nat.le_of_ble_eq_true rfl⟩ hS (fun a9 H locs hw9 hk9 hS => ?_)
  have hP := zkeep hP hk9
  obtain rfl : a9 = zb (bt (dsk f N (N - 1)).2.1 u) := hw9
  refine z_ifb_eq (tgt := 14) hx hb dL_isDense_7 (by decide) (fun h7 => ?_) (fun h7 => ?_)
  · refine lv_lconst (v := (zb false).toInt64) hx hb dL_isDense_14 (by decide) ?_
    refine va_last hx hb hK hP hD hS 0 1 rfl rfl (vp_in_nI (by decide) (by decide)) dL_isDense_15 (fun H locs hP hD hS => ?_)
    have hP : va_P D vwCl (wBL h a0 a1 a2 cy N ec cc f cs tr o cl (vp_updL g 0 (zb false).toInt64)) H := hP
    refine lv_goto (tgt := 22) hx hb dL_isDense_16 (by decide) ?_
    refine lv_iconst (v := (nI 0)) hx hb dL_isDense_22 (by decide) ?_
    refine vx_ret ?_
    exact W.iret (v := (nI 0)) hx hb hr (fun t9 ht9 hW9 => ⟨⟨(nI 0), zb false, rfl, ⟨rfl, by show zb false = zb (bt (dsk f N (N - 1)).2.1 u); rw [h7]⟩, by show va_P D vwCl (wBL h a0 a1 a2 cy N ec cc f cs tr o cl (vp_updL g 0 (zb false).toInt64)) t9.heap; rw [ht9]; exact hP⟩, hS.F ht9⟩) hS.2.2 dL_isDense_23
  · refine lv_lconst (v := (zb true).toInt64) hx hb dL_isDense_10 (by decide) ?_
    refine lv_goto (tgt := 15) hx hb dL_isDense_11 (by decide) ?_
    refine va_last hx hb hK hP hD hS 0 1 rfl rfl (vp_in_nI (by decide) (by decide)) dL_isDense_15 (fun H locs hP hD hS => ?_)
    have hP : va_P D vwCl (wBL h a0 a1 a2 cy N ec cc f cs tr o cl (vp_updL g 0 (zb true).toInt64)) H := hP
    refine lv_goto (tgt := 22) hx hb dL_isDense_16 (by decide) ?_
    refine lv_iconst (v := (nI 0)) hx hb dL_isDense_22 (by decide) ?_
    refine vx_ret ?_
    exact W.iret (v := (nI 0)) hx hb hr (fun t9 ht9 hW9 => ⟨⟨(nI 0), zb true, rfl, ⟨rfl, by show zb true = zb (bt (dsk f N (N - 1)).2.1 u); rw [h7]⟩, by show va_P D vwCl (wBL h a0 a1 a2 cy N ec cc f cs tr o cl (vp_updL g 0 (zb true).toInt64)) t9.heap; rw [ht9]; exact hP⟩, hS.F ht9⟩) hS.2.2 dL_isDense_23

set_option maxHeartbeats 4000000 in
set_option maxRecDepth 100000 in
theorem w_isDense_bad (l : Launch) (hfl : l.stackTraces = false) (D : va_G) (cy : ClassId) (h a0 a1 a2 N : Nat) (ec cc : Int32) (f cs tr : Nat → Int32) (o : Nat) (cl : ClassId) (g : Nat → Int64) (sz : Nat) (q : Int32) (hq : isNb q N = false) : vx_Met l yL_isDense wsL_isDense ({ frames := 8, cells := 1, slots := 6, locals := 124 } : Room) (va_Pc [.ref h, .int q, .ref o] (fun U => zWr D (wBL h a0 a1 a2 cy N ec cc f cs tr o cl g) [(cy, .int), (cl, .long)] sz U ∧ zTh U)) (va_Qi (fun (r : Int32) (z9 : Unit) => r = nI 1) (fun z9 t => va_P D vwCl (wBL h a0 a1 a2 cy N ec cc f cs tr o cl g) t.heap) (va_A (wBL h a0 a1 a2 cy N ec cc f cs tr o cl g) sz)) zXn 1 6 (va_A (wBL h a0 a1 a2 cy N ec cc f cs tr o cl g) sz) := by
  refine vx_ofWH (cc := cL_isDense) (maxL := 4) (ret := (some .int)) (by decide) rfl ?_
  intro p e s m args below meth c s₁ B hml hv
  obtain ⟨rfl, ⟨hsz, hP, hK, hD0⟩, hT⟩ := hv
  have hx := B.exec
  have hb := B.bytes
  have hr := B.returns
  have hts := atoms_spec (ws := wsL_isDense) B.pre
  have hown : s.vm.findClass RL = some m.cls := findClass_of_methodNamed B.named
  have hlocks := B.notSynchronized
  subst hsz
  have hD := hD0.self (sz := s.heap.size)
  generalize hAe : va_A (wBL h a0 a1 a2 cy N ec cc f cs tr o cl g) s.heap.size = A at hD ⊢
  have hA : ∀ q : Nat, s.heap.size ≤ q → A q := fun q h => by rw [← hAe]; exact Or.inr h
  have hS : va_S A s.heap s.heap [] := va_S.rf
  have htb := vx_table (x := yL_isDense) B (hts (.codeWith yL_isDense cL_isDense 4 (some .int) [(0, 16, 19, 19)]) (by decide +kernel))
  have hl := lv_entry ([.ref h, .int q, .ref o]) (n := 4) (Nat.le_of_ble_eq_true rfl)
  rw [lg_entry_eq]
  generalize (lg_sl ([.ref h, .int q, .ref o]) ++ List.replicate (4 - (lg_sl ([.ref h, .int q, .ref o])).length) Slot.unset).toArray = ls at hl ⊢
  have hl : lv_has ls 4 [(0, .ref h), (1, .int q), (2, .ref o)] := hl
  refine lv_aload_n hx hb dL_isDense_0 rfl (lv_at hl 2 rfl) ?_
  refine lv_iconst (v := (nI 0)) hx hb dL_isDense_1 (by decide) ?_
  refine lv_aload_n hx hb dL_isDense_2 rfl (lv_at hl 0 rfl) ?_
  refine lv_iload_n hx hb dL_isDense_3 rfl (lv_at hl 1 rfl) ?_
  have hPb := hP.sub (ws' := wB h a0 a1 a2 cy N ec cc f cs tr) [1, 2, 3, 4] rfl
  refine vx_calli (vx_runV (As := [.int q]) (rest := [.int (nI 0), .ref o]) ⟨hx, hb, hml, hown, hts⟩ (c_X0_isDense_bad l hfl D cy h a0 a1 a2 N ec cc f cs tr q  hq) (cwV 1 hts gL_isDense_X0_isDense rfl rfl rfl (by decide +kernel) ⟨Nat.le_of_ble_eq_true rfl, Nat.le_of_ble_eq_true rfl⟩) ⟨fun a U g mk q => ⟨q.1, ⟨q.2.1.1, va_K.moved (u := U) (U := U.calling g mk a) (Vm.Alike.refl U.vm) q.2.1.2⟩, q.2.2.same rfl rfl⟩, va_recv hK hPb (ci := 0) (q0 := 0) rfl rfl, fun U hU hW => ⟨rfl, ⟨by rw [hU]; exact hPb, va_K.moved hW.alike (hK.sub [0] rfl)⟩, hT.move hW ⟨by rw [hU]; exact Nat.le_refl _, fun q _ => by rw [hU]⟩⟩⟩ rfl rfl hl.1 rfl (lv_room (Nat.le_of_ble_eq_true rfl)) dL_isDense_4 ⟨Nat.le_of_ble_eq_true rfl, Nat.le_of_ble_eq_true rfl⟩) hS (fun _ _ h => h.elim) (fun _ h => h.elim) (fun _ _ h => h.elim) (fun E2 ce q9 u9 t9 H locs ht9 hvm9 hp9 hB hz hk hS hce hcv hcl => ?_) (fun r u t H1 locs1 ht hvm hw hB hz hk hS1 => hw.elim)
  have hP := zkeep hP ⟨hz, fun q h => hk q h (fun z => z)⟩
  obtain rfl : E2 = nIOB := hB
  refine vx_catch (name := nIOB) hown [] ⟨0, 16, 19, 19⟩ [] (htb.trans rfl) (fun _ h => absurd h List.not_mem_nil) (by decide) (by decide) (hts (.classLink RL 19 nIOB) (by decide +kernel)) (va_Nw.use rfl (hT.2.1 nIOB (by simp))) hce hcv hcl ?_
  refine lv_astore_n (lv' := [(3, .ref q9), (0, .ref h), (1, .int q), (2, .ref o)]) hx hb dL_isDense_19 rfl hl (by decide) rfl (fun ls hl => ?_)
  refine lv_iconst (v := (nI 1)) hx hb dL_isDense_20 (by decide) ?_
  refine vx_ret ?_
  exact W.iret (v := (nI 1)) hx hb hr (fun t9 ht9 hW9 => ⟨⟨(nI 1), (), rfl, rfl, by show va_P D vwCl (wBL h a0 a1 a2 cy N ec cc f cs tr o cl g) t9.heap; rw [ht9]; exact hP⟩, hS.F ht9⟩) hS.2.2 dL_isDense_21

set_option maxHeartbeats 4000000 in
set_option maxRecDepth 100000 in
theorem w_support_ok (l : Launch) (D : va_G) (cy : ClassId) (h a0 a1 a2 N : Nat) (ec cc : Int32) (f cs tr : Nat → Int32) (o : Nat) (cl : ClassId) (g : Nat → Int64) (sz : Nat) (u v : Nat) (hN : N ≤ 20) (hu : u < N) (hv : v < N) (he : bt (f u) v = true) : vx_Met l yL_support wsL_support ({ frames := 8, cells := 0, slots := 0, locals := 126 } : Room) (va_Pc [.ref h, .int (nI u), .int (nI v), .ref o] (fun U => zWr D (wBL h a0 a1 a2 cy N ec cc f cs tr o cl g) [(cy, .int), (cl, .long)] sz U ∧ True)) (va_Qi (fun (r : Int32) (z9 : Int32) => r = nI 0 ∧ (z9 = nI (zpop (f u &&& f v)))) (fun z9 t => va_P D vwCl (wBL h a0 a1 a2 cy N ec cc f cs tr o cl (vp_updL g 0 (z9).toInt64)) t.heap) (va_A (wBL h a0 a1 a2 cy N ec cc f cs tr o cl g) sz)) zXn 0 0 (va_A (wBL h a0 a1 a2 cy N ec cc f cs tr o cl g) sz) := by
  refine vx_ofWH (cc := cL_support) (maxL := 5) (ret := (some .int)) (by decide) rfl ?_
  intro p e s m args below meth c s₁ B hml hv
  obtain ⟨rfl, ⟨hsz, hP, hK, hD0⟩, hT⟩ := hv
  have hx := B.exec
  have hb := B.bytes
  have hr := B.returns
  have hts := atoms_spec (ws := wsL_support) B.pre
  have hown : s.vm.findClass RL = some m.cls := findClass_of_methodNamed B.named
  have hlocks := B.notSynchronized
  subst hsz
  have hD := hD0.self (sz := s.heap.size)
  generalize hAe : va_A (wBL h a0 a1 a2 cy N ec cc f cs tr o cl g) s.heap.size = A at hD ⊢
  have hA : ∀ q : Nat, s.heap.size ≤ q → A q := fun q h => by rw [← hAe]; exact Or.inr h
  have hS : va_S A s.heap s.heap [] := va_S.rf
  have hl := lv_entry ([.ref h, .int (nI u), .int (nI v), .ref o]) (n := 5) (Nat.le_of_ble_eq_true rfl)
  rw [lg_entry_eq]
  generalize (lg_sl ([.ref h, .int (nI u), .int (nI v), .ref o]) ++ List.replicate (5 - (lg_sl ([.ref h, .int (nI u), .int (nI v), .ref o])).length) Slot.unset).toArray = ls at hl ⊢
  have hl : lv_has ls 5 [(0, .ref h), (1, .int (nI u)), (2, .int (nI v)), (3, .ref o)] := hl
  refine lv_aload_n hx hb dL_support_0 rfl (lv_at hl 3 rfl) ?_
  refine lv_iconst (v := (nI 0)) hx hb dL_support_1 (by decide) ?_
  refine lv_aload_n hx hb dL_support_2 rfl (lv_at hl 0 rfl) ?_
  refine lv_iload_n hx hb dL_support_3 rfl (lv_at hl 1 rfl) ?_
  refine lv_iload_n hx hb dL_support_4 rfl (lv_at hl 2 rfl) ?_
  have hPb := hP.sub (ws' := wB h a0 a1 a2 cy N ec cc f cs tr) [1, 2, 3, 4] rfl
  refine zrV (As := [.int (nI u), .int (nI v)]) (rest := [.int (nI 0), .ref o]) 0 ⟨hx, hb, hml, hown, hts⟩ (c_X0_support_ok l D cy h a0 a1 a2 N ec cc f cs tr u v  hN hu hv he) (cwV 2 hts gL_support_X0_support rfl rfl rfl (by decide +kernel) ⟨Nat.le_of_ble_eq_true rfl, Nat.le_of_ble_eq_true rfl⟩) (hK.sub [0] rfl) hPb rfl rfl rfl hl rfl (Nat.le_of_ble_eq_true rfl) dL_support_5 ⟨Nat.le_of_ble_eq_true rfl, Nat.le_of_ble_eq_true rfl⟩ hS (fun a9 H locs hw9 hk9 hS => ?_)
  have hP := zkeep hP hk9
  have hw9 : a9 = nI (zpop (f u &&& f v)) := hw9
  refine lv_i2l (v := (a9).toInt64) hx hb dL_support_8 rfl ?_
  refine va_last hx hb hK hP hD hS 0 1 rfl rfl (vp_in_nI (by decide) (by decide)) dL_support_9 (fun H locs hP hD hS => ?_)
  have hP : va_P D vwCl (wBL h a0 a1 a2 cy N ec cc f cs tr o cl (vp_updL g 0 (a9).toInt64)) H := hP
  refine lv_goto (tgt := 21) hx hb dL_support_10 (by decide) ?_
  refine lv_iconst (v := (nI 0)) hx hb dL_support_21 (by decide) ?_
  refine vx_ret ?_
  exact W.iret (v := (nI 0)) hx hb hr (fun t9 ht9 hW9 => ⟨⟨(nI 0), a9, rfl, ⟨rfl, hw9⟩, by show va_P D vwCl (wBL h a0 a1 a2 cy N ec cc f cs tr o cl (vp_updL g 0 (a9).toInt64)) t9.heap; rw [ht9]; exact hP⟩, hS.F ht9⟩) hS.2.2 dL_support_22

set_option maxHeartbeats 4000000 in
set_option maxRecDepth 100000 in
theorem w_support_bad1 (l : Launch) (hfl : l.stackTraces = false) (D : va_G) (cy : ClassId) (h a0 a1 a2 N : Nat) (ec cc : Int32) (f cs tr : Nat → Int32) (o : Nat) (cl : ClassId) (g : Nat → Int64) (sz : Nat) (q1 q2 : Int32) (hq : isNb q1 N = false) : vx_Met l yL_support wsL_support ({ frames := 8, cells := 1, slots := 6, locals := 126 } : Room) (va_Pc [.ref h, .int q1, .int q2, .ref o] (fun U => zWr D (wBL h a0 a1 a2 cy N ec cc f cs tr o cl g) [(cy, .int), (cl, .long)] sz U ∧ zTh U)) (va_Qi (fun (r : Int32) (z9 : Unit) => r = nI 1) (fun z9 t => va_P D vwCl (wBL h a0 a1 a2 cy N ec cc f cs tr o cl g) t.heap) (va_A (wBL h a0 a1 a2 cy N ec cc f cs tr o cl g) sz)) zXn 1 6 (va_A (wBL h a0 a1 a2 cy N ec cc f cs tr o cl g) sz) := by
  refine vx_ofWH (cc := cL_support) (maxL := 5) (ret := (some .int)) (by decide) rfl ?_
  intro p e s m args below meth c s₁ B hml hv
  obtain ⟨rfl, ⟨hsz, hP, hK, hD0⟩, hT⟩ := hv
  have hx := B.exec
  have hb := B.bytes
  have hr := B.returns
  have hts := atoms_spec (ws := wsL_support) B.pre
  have hown : s.vm.findClass RL = some m.cls := findClass_of_methodNamed B.named
  have hlocks := B.notSynchronized
  subst hsz
  have hD := hD0.self (sz := s.heap.size)
  generalize hAe : va_A (wBL h a0 a1 a2 cy N ec cc f cs tr o cl g) s.heap.size = A at hD ⊢
  have hA : ∀ q : Nat, s.heap.size ≤ q → A q := fun q h => by rw [← hAe]; exact Or.inr h
  have hS : va_S A s.heap s.heap [] := va_S.rf
  have htb := vx_table (x := yL_support) B (hts (.codeWith yL_support cL_support 5 (some .int) [(0, 10, 13, 19), (0, 10, 17, 26)]) (by decide +kernel))
  have hl := lv_entry ([.ref h, .int q1, .int q2, .ref o]) (n := 5) (Nat.le_of_ble_eq_true rfl)
  rw [lg_entry_eq]
  generalize (lg_sl ([.ref h, .int q1, .int q2, .ref o]) ++ List.replicate (5 - (lg_sl ([.ref h, .int q1, .int q2, .ref o])).length) Slot.unset).toArray = ls at hl ⊢
  have hl : lv_has ls 5 [(0, .ref h), (1, .int q1), (2, .int q2), (3, .ref o)] := hl
  refine lv_aload_n hx hb dL_support_0 rfl (lv_at hl 3 rfl) ?_
  refine lv_iconst (v := (nI 0)) hx hb dL_support_1 (by decide) ?_
  refine lv_aload_n hx hb dL_support_2 rfl (lv_at hl 0 rfl) ?_
  refine lv_iload_n hx hb dL_support_3 rfl (lv_at hl 1 rfl) ?_
  refine lv_iload_n hx hb dL_support_4 rfl (lv_at hl 2 rfl) ?_
  have hPb := hP.sub (ws' := wB h a0 a1 a2 cy N ec cc f cs tr) [1, 2, 3, 4] rfl
  refine vx_calli (vx_runV (As := [.int q1, .int q2]) (rest := [.int (nI 0), .ref o]) ⟨hx, hb, hml, hown, hts⟩ (c_X0_support_bad1 l hfl D cy h a0 a1 a2 N ec cc f cs tr q1 q2  hq) (cwV 2 hts gL_support_X0_support rfl rfl rfl (by decide +kernel) ⟨Nat.le_of_ble_eq_true rfl, Nat.le_of_ble_eq_true rfl⟩) ⟨fun a U g mk q => ⟨q.1, ⟨q.2.1.1, va_K.moved (u := U) (U := U.calling g mk a) (Vm.Alike.refl U.vm) q.2.1.2⟩, q.2.2.same rfl rfl⟩, va_recv hK hPb (ci := 0) (q0 := 0) rfl rfl, fun U hU hW => ⟨rfl, ⟨by rw [hU]; exact hPb, va_K.moved hW.alike (hK.sub [0] rfl)⟩, hT.move hW ⟨by rw [hU]; exact Nat.le_refl _, fun q _ => by rw [hU]⟩⟩⟩ rfl rfl hl.1 rfl (lv_room (Nat.le_of_ble_eq_true rfl)) dL_support_5 ⟨Nat.le_of_ble_eq_true rfl, Nat.le_of_ble_eq_true rfl⟩) hS (fun _ _ h => h.elim) (fun _ h => h.elim) (fun _ _ h => h.elim) (fun E2 ce q9 u9 t9 H locs ht9 hvm9 hp9 hB hz hk hS hce hcv hcl => ?_) (fun r u t H1 locs1 ht hvm hw hB hz hk hS1 => hw.elim)
  have hP := zkeep hP ⟨hz, fun q h => hk q h (fun z => z)⟩
  obtain rfl : E2 = nIOB := hB
  refine vx_catch (name := nIOB) hown [] ⟨0, 10, 13, 19⟩ [⟨0, 10, 17, 26⟩] (htb.trans rfl) (fun _ h => absurd h List.not_mem_nil) (by decide) (by decide) (hts (.classLink RL 19 nIOB) (by decide +kernel)) (va_Nw.use rfl (hT.2.1 nIOB (by simp))) hce hcv hcl ?_
  refine lv_astore (lv' := [(4, .ref q9), (0, .ref h), (1, .int q1), (2, .int q2), (3, .ref o)]) hx hb dL_support_13 hl (by decide) rfl (fun ls hl => ?_)
  refine lv_iconst (v := (nI 1)) hx hb dL_support_15 (by decide) ?_
  refine vx_ret ?_
  exact W.iret (v := (nI 1)) hx hb hr (fun t9 ht9 hW9 => ⟨⟨(nI 1), (), rfl, rfl, by show va_P D vwCl (wBL h a0 a1 a2 cy N ec cc f cs tr o cl g) t9.heap; rw [ht9]; exact hP⟩, hS.F ht9⟩) hS.2.2 dL_support_16

set_option maxHeartbeats 4000000 in
set_option maxRecDepth 100000 in
theorem w_support_bad2 (l : Launch) (hfl : l.stackTraces = false) (D : va_G) (cy : ClassId) (h a0 a1 a2 N : Nat) (ec cc : Int32) (f cs tr : Nat → Int32) (o : Nat) (cl : ClassId) (g : Nat → Int64) (sz : Nat) (u : Nat) (q2 : Int32) (hN : N ≤ 20) (hu : u < N) (hq : isNb q2 N = false) : vx_Met l yL_support wsL_support ({ frames := 8, cells := 1, slots := 6, locals := 126 } : Room) (va_Pc [.ref h, .int (nI u), .int q2, .ref o] (fun U => zWr D (wBL h a0 a1 a2 cy N ec cc f cs tr o cl g) [(cy, .int), (cl, .long)] sz U ∧ zTh U)) (va_Qi (fun (r : Int32) (z9 : Unit) => r = nI 1) (fun z9 t => va_P D vwCl (wBL h a0 a1 a2 cy N ec cc f cs tr o cl g) t.heap) (va_A (wBL h a0 a1 a2 cy N ec cc f cs tr o cl g) sz)) zXn 1 6 (va_A (wBL h a0 a1 a2 cy N ec cc f cs tr o cl g) sz) := by
  refine vx_ofWH (cc := cL_support) (maxL := 5) (ret := (some .int)) (by decide) rfl ?_
  intro p e s m args below meth c s₁ B hml hv
  obtain ⟨rfl, ⟨hsz, hP, hK, hD0⟩, hT⟩ := hv
  have hx := B.exec
  have hb := B.bytes
  have hr := B.returns
  have hts := atoms_spec (ws := wsL_support) B.pre
  have hown : s.vm.findClass RL = some m.cls := findClass_of_methodNamed B.named
  have hlocks := B.notSynchronized
  subst hsz
  have hD := hD0.self (sz := s.heap.size)
  generalize hAe : va_A (wBL h a0 a1 a2 cy N ec cc f cs tr o cl g) s.heap.size = A at hD ⊢
  have hA : ∀ q : Nat, s.heap.size ≤ q → A q := fun q h => by rw [← hAe]; exact Or.inr h
  have hS : va_S A s.heap s.heap [] := va_S.rf
  have htb := vx_table (x := yL_support) B (hts (.codeWith yL_support cL_support 5 (some .int) [(0, 10, 13, 19), (0, 10, 17, 26)]) (by decide +kernel))
  have hl := lv_entry ([.ref h, .int (nI u), .int q2, .ref o]) (n := 5) (Nat.le_of_ble_eq_true rfl)
  rw [lg_entry_eq]
  generalize (lg_sl ([.ref h, .int (nI u), .int q2, .ref o]) ++ List.replicate (5 - (lg_sl ([.ref h, .int (nI u), .int q2, .ref o])).length) Slot.unset).toArray = ls at hl ⊢
  have hl : lv_has ls 5 [(0, .ref h), (1, .int (nI u)), (2, .int q2), (3, .ref o)] := hl
  refine lv_aload_n hx hb dL_support_0 rfl (lv_at hl 3 rfl) ?_
  refine lv_iconst (v := (nI 0)) hx hb dL_support_1 (by decide) ?_
  refine lv_aload_n hx hb dL_support_2 rfl (lv_at hl 0 rfl) ?_
  refine lv_iload_n hx hb dL_support_3 rfl (lv_at hl 1 rfl) ?_
  refine lv_iload_n hx hb dL_support_4 rfl (lv_at hl 2 rfl) ?_
  have hPb := hP.sub (ws' := wB h a0 a1 a2 cy N ec cc f cs tr) [1, 2, 3, 4] rfl
  refine vx_calli (vx_runV (As := [.int (nI u), .int q2]) (rest := [.int (nI 0), .ref o]) ⟨hx, hb, hml, hown, hts⟩ (c_X0_support_bad2 l hfl D cy h a0 a1 a2 N ec cc f cs tr u q2  hN hu hq) (cwV 2 hts gL_support_X0_support rfl rfl rfl (by decide +kernel) ⟨Nat.le_of_ble_eq_true rfl, Nat.le_of_ble_eq_true rfl⟩) ⟨fun a U g mk q => ⟨q.1, ⟨q.2.1.1, va_K.moved (u := U) (U := U.calling g mk a) (Vm.Alike.refl U.vm) q.2.1.2⟩, q.2.2.same rfl rfl⟩, va_recv hK hPb (ci := 0) (q0 := 0) rfl rfl, fun U hU hW => ⟨rfl, ⟨by rw [hU]; exact hPb, va_K.moved hW.alike (hK.sub [0] rfl)⟩, hT.move hW ⟨by rw [hU]; exact Nat.le_refl _, fun q _ => by rw [hU]⟩⟩⟩ rfl rfl hl.1 rfl (lv_room (Nat.le_of_ble_eq_true rfl)) dL_support_5 ⟨Nat.le_of_ble_eq_true rfl, Nat.le_of_ble_eq_true rfl⟩) hS (fun _ _ h => h.elim) (fun _ h => h.elim) (fun _ _ h => h.elim) (fun E2 ce q9 u9 t9 H locs ht9 hvm9 hp9 hB hz hk hS hce hcv hcl => ?_) (fun r u t H1 locs1 ht hvm hw hB hz hk hS1 => hw.elim)
  have hP := zkeep hP ⟨hz, fun q h => hk q h (fun z => z)⟩
  obtain rfl : E2 = nIOB := hB
  refine vx_catch (name := nIOB) hown [] ⟨0, 10, 13, 19⟩ [⟨0, 10, 17, 26⟩] (htb.trans rfl) (fun _ h => absurd h List.not_mem_nil) (by decide) (by decide) (hts (.classLink RL 19 nIOB) (by decide +kernel)) (va_Nw.use rfl (hT.2.1 nIOB (by simp))) hce hcv hcl ?_
  refine lv_astore (lv' := [(4, .ref q9), (0, .ref h), (1, .int (nI u)), (2, .int q2), (3, .ref o)]) hx hb dL_support_13 hl (by decide) rfl (fun ls hl => ?_)
  refine lv_iconst (v := (nI 1)) hx hb dL_support_15 (by decide) ?_
  refine vx_ret ?_
  exact W.iret (v := (nI 1)) hx hb hr (fun t9 ht9 hW9 => ⟨⟨(nI 1), (), rfl, rfl, by show va_P D vwCl (wBL h a0 a1 a2 cy N ec cc f cs tr o cl g) t9.heap; rw [ht9]; exact hP⟩, hS.F ht9⟩) hS.2.2 dL_support_16

set_option maxHeartbeats 4000000 in
set_option maxRecDepth 100000 in
theorem w_support_none (l : Launch) (hfl : l.stackTraces = false) (D : va_G) (cy : ClassId) (h a0 a1 a2 N : Nat) (ec cc : Int32) (f cs tr : Nat → Int32) (o : Nat) (cl : ClassId) (g : Nat → Int64) (sz : Nat) (u v : Nat) (hN : N ≤ 20) (hu : u < N) (hv : v < N) (he : bt (f u) v = false) : vx_Met l yL_support wsL_support ({ frames := 8, cells := 1, slots := 6, locals := 126 } : Room) (va_Pc [.ref h, .int (nI u), .int (nI v), .ref o] (fun U => zWr D (wBL h a0 a1 a2 cy N ec cc f cs tr o cl g) [(cy, .int), (cl, .long)] sz U ∧ zTh U)) (va_Qi (fun (r : Int32) (z9 : Unit) => r = nI 2) (fun z9 t => va_P D vwCl (wBL h a0 a1 a2 cy N ec cc f cs tr o cl g) t.heap) (va_A (wBL h a0 a1 a2 cy N ec cc f cs tr o cl g) sz)) zXn 1 6 (va_A (wBL h a0 a1 a2 cy N ec cc f cs tr o cl g) sz) := by
  refine vx_ofWH (cc := cL_support) (maxL := 5) (ret := (some .int)) (by decide) rfl ?_
  intro p e s m args below meth c s₁ B hml hv
  obtain ⟨rfl, ⟨hsz, hP, hK, hD0⟩, hT⟩ := hv
  have hx := B.exec
  have hb := B.bytes
  have hr := B.returns
  have hts := atoms_spec (ws := wsL_support) B.pre
  have hown : s.vm.findClass RL = some m.cls := findClass_of_methodNamed B.named
  have hlocks := B.notSynchronized
  subst hsz
  have hD := hD0.self (sz := s.heap.size)
  generalize hAe : va_A (wBL h a0 a1 a2 cy N ec cc f cs tr o cl g) s.heap.size = A at hD ⊢
  have hA : ∀ q : Nat, s.heap.size ≤ q → A q := fun q h => by rw [← hAe]; exact Or.inr h
  have hS : va_S A s.heap s.heap [] := va_S.rf
  have htb := vx_table (x := yL_support) B (hts (.codeWith yL_support cL_support 5 (some .int) [(0, 10, 13, 19), (0, 10, 17, 26)]) (by decide +kernel))
  have hl := lv_entry ([.ref h, .int (nI u), .int (nI v), .ref o]) (n := 5) (Nat.le_of_ble_eq_true rfl)
  rw [lg_entry_eq]
  generalize (lg_sl ([.ref h, .int (nI u), .int (nI v), .ref o]) ++ List.replicate (5 - (lg_sl ([.ref h, .int (nI u), .int (nI v), .ref o])).length) Slot.unset).toArray = ls at hl ⊢
  have hl : lv_has ls 5 [(0, .ref h), (1, .int (nI u)), (2, .int (nI v)), (3, .ref o)] := hl
  refine lv_aload_n hx hb dL_support_0 rfl (lv_at hl 3 rfl) ?_
  refine lv_iconst (v := (nI 0)) hx hb dL_support_1 (by decide) ?_
  refine lv_aload_n hx hb dL_support_2 rfl (lv_at hl 0 rfl) ?_
  refine lv_iload_n hx hb dL_support_3 rfl (lv_at hl 1 rfl) ?_
  refine lv_iload_n hx hb dL_support_4 rfl (lv_at hl 2 rfl) ?_
  have hPb := hP.sub (ws' := wB h a0 a1 a2 cy N ec cc f cs tr) [1, 2, 3, 4] rfl
  refine vx_calli (vx_runV (As := [.int (nI u), .int (nI v)]) (rest := [.int (nI 0), .ref o]) ⟨hx, hb, hml, hown, hts⟩ (c_X0_support_none l hfl D cy h a0 a1 a2 N ec cc f cs tr u v  hN hu hv he) (cwV 2 hts gL_support_X0_support rfl rfl rfl (by decide +kernel) ⟨Nat.le_of_ble_eq_true rfl, Nat.le_of_ble_eq_true rfl⟩) ⟨fun a U g mk q => ⟨q.1, ⟨q.2.1.1, va_K.moved (u := U) (U := U.calling g mk a) (Vm.Alike.refl U.vm) q.2.1.2⟩, q.2.2.same rfl rfl⟩, va_recv hK hPb (ci := 0) (q0 := 0) rfl rfl, fun U hU hW => ⟨rfl, ⟨by rw [hU]; exact hPb, va_K.moved hW.alike (hK.sub [0] rfl)⟩, hT.move hW ⟨by rw [hU]; exact Nat.le_refl _, fun q _ => by rw [hU]⟩⟩⟩ rfl rfl hl.1 rfl (lv_room (Nat.le_of_ble_eq_true rfl)) dL_support_5 ⟨Nat.le_of_ble_eq_true rfl, Nat.le_of_ble_eq_true rfl⟩) hS (fun _ _ h => h.elim) (fun _ h => h.elim) (fun _ _ h => h.elim) (fun E2 ce q9 u9 t9 H locs ht9 hvm9 hp9 hB hz hk hS hce hcv hcl => ?_) (fun r u t H1 locs1 ht hvm hw hB hz hk hS1 => hw.elim)
  have hP := zkeep hP ⟨hz, fun q h => hk q h (fun z => z)⟩
  obtain rfl : E2 = nNSE := hB
  refine vx_catch (name := nNSE) hown [⟨0, 10, 13, 19⟩] ⟨0, 10, 17, 26⟩ [] (htb.trans rfl) (List.forall_mem_cons.mpr ⟨Or.inr ⟨by decide, nIOB, hts (.classLink RL 19 nIOB) (by decide +kernel), hT.2.2.1 nNSE (by simp) nIOB (by simp) (by decide)⟩, (fun _ h => absurd h List.not_mem_nil)⟩) (by decide) (by decide) (hts (.classLink RL 26 nNSE) (by decide +kernel)) (va_Nw.use rfl (hT.2.1 nNSE (by simp))) hce hcv hcl ?_
  refine lv_astore (lv' := [(4, .ref q9), (0, .ref h), (1, .int (nI u)), (2, .int (nI v)), (3, .ref o)]) hx hb dL_support_17 hl (by decide) rfl (fun ls hl => ?_)
  refine lv_iconst (v := (nI 2)) hx hb dL_support_19 (by decide) ?_
  refine vx_ret ?_
  exact W.iret (v := (nI 2)) hx hb hr (fun t9 ht9 hW9 => ⟨⟨(nI 2), (), rfl, rfl, by show va_P D vwCl (wBL h a0 a1 a2 cy N ec cc f cs tr o cl g) t9.heap; rw [ht9]; exact hP⟩, hS.F ht9⟩) hS.2.2 dL_support_20

set_option maxHeartbeats 4000000 in
set_option maxRecDepth 100000 in
theorem w_truss_ok (l : Launch) (D : va_G) (cy : ClassId) (h a0 a1 a2 N : Nat) (ec cc : Int32) (f cs tr : Nat → Int32) (o : Nat) (cl : ClassId) (g : Nat → Int64) (sz : Nat) (u v : Nat) (hN : N ≤ 20) (hg : gd f N) (hu : u < N) (hv : v < N) (he : bt (f u) v = true) : vx_Met l yL_truss wsL_truss ({ frames := 8, cells := 0, slots := 0, locals := 128 } : Room) (va_Pc [.ref h, .int (nI u), .int (nI v), .ref o] (fun U => zWr D (wBL h a0 a1 a2 cy N ec cc f cs tr o cl g) [(cy, .int), (cl, .long)] sz U ∧ True)) (va_Qi (fun (r : Int32) (z9 : Int32 × (Nat → Int32)) => r = nI 0 ∧ (∃ k, z9.1 = nI k ∧ tnum f N u v k)) (fun z9 t => va_P D vwCl (wBL h a0 a1 a2 cy N ec cc f cs z9.2 o cl (vp_updL g 0 (z9.1).toInt64)) t.heap) (va_A (wBL h a0 a1 a2 cy N ec cc f cs tr o cl g) sz)) zXn 0 0 (va_A (wBL h a0 a1 a2 cy N ec cc f cs tr o cl g) sz) := by
  refine vx_ofWH (cc := cL_truss) (maxL := 5) (ret := (some .int)) (by decide) rfl ?_
  intro p e s m args below meth c s₁ B hml hv
  obtain ⟨rfl, ⟨hsz, hP, hK, hD0⟩, hT⟩ := hv
  have hx := B.exec
  have hb := B.bytes
  have hr := B.returns
  have hts := atoms_spec (ws := wsL_truss) B.pre
  have hown : s.vm.findClass RL = some m.cls := findClass_of_methodNamed B.named
  have hlocks := B.notSynchronized
  subst hsz
  have hD := hD0.self (sz := s.heap.size)
  generalize hAe : va_A (wBL h a0 a1 a2 cy N ec cc f cs tr o cl g) s.heap.size = A at hD ⊢
  have hA : ∀ q : Nat, s.heap.size ≤ q → A q := fun q h => by rw [← hAe]; exact Or.inr h
  have hS : va_S A s.heap s.heap [] := va_S.rf
  have hl := lv_entry ([.ref h, .int (nI u), .int (nI v), .ref o]) (n := 5) (Nat.le_of_ble_eq_true rfl)
  rw [lg_entry_eq]
  generalize (lg_sl ([.ref h, .int (nI u), .int (nI v), .ref o]) ++ List.replicate (5 - (lg_sl ([.ref h, .int (nI u), .int (nI v), .ref o])).length) Slot.unset).toArray = ls at hl ⊢
  have hl : lv_has ls 5 [(0, .ref h), (1, .int (nI u)), (2, .int (nI v)), (3, .ref o)] := hl
  refine lv_aload_n hx hb dL_truss_0 rfl (lv_at hl 3 rfl) ?_
  refine lv_iconst (v := (nI 0)) hx hb dL_truss_1 (by decide) ?_
  refine lv_aload_n hx hb dL_truss_2 rfl (lv_at hl 0 rfl) ?_
  refine lv_iload_n hx hb dL_truss_3 rfl (lv_at hl 1 rfl) ?_
  refine lv_iload_n hx hb dL_truss_4 rfl (lv_at hl 2 rfl) ?_
  have hPb := hP.sub (ws' := wB h a0 a1 a2 cy N ec cc f cs tr) [1, 2, 3, 4] rfl
  have hDb := hD.sub (ws' := wB h a0 a1 a2 cy N ec cc f cs tr) [1, 2, 3, 4] (by decide) rfl
  refine zjVi (As := [.int (nI u), .int (nI v)]) (rest := [.int (nI 0), .ref o]) (wr := [(o, .inl (cl, 1, .inr (.inl g)))]) 0 [1, 2, 3, 4] [0] rfl rfl rfl (by decide) (by exact fun _ => rfl) ⟨hx, hb, hml, hown, hts⟩ (c_X0_truss_ok l D cy h a0 a1 a2 N ec cc f cs tr _ u v  hN hg hu hv he) (cwV 2 hts gL_truss_X0_truss rfl rfl rfl (by decide +kernel) ⟨Nat.le_of_ble_eq_true rfl, Nat.le_of_ble_eq_true rfl⟩) (hK.sub [0] rfl) hP hPb hD hDb hA rfl rfl rfl hl rfl (Nat.le_of_ble_eq_true rfl) dL_truss_5 ⟨Nat.le_of_ble_eq_true rfl, Nat.le_of_ble_eq_true rfl⟩ hS (fun a9 u9 H locs hw9 hP hS => ?_)
  obtain ⟨tr_5, rfl⟩ : ∃ z, z = u9 := ⟨_, rfl⟩
  have hP : va_P D vwCl (wBL h a0 a1 a2 cy N ec cc f cs tr_5 o cl g) H := hP
  have hD : va_D A (wBL h a0 a1 a2 cy N ec cc f cs tr_5 o cl g) := zD hD rfl
  have hw9 : ∃ k, a9 = nI k ∧ tnum f N u v k := hw9
  refine lv_i2l (v := (a9).toInt64) hx hb dL_truss_8 rfl ?_
  refine va_last hx hb hK hP hD hS 0 1 rfl rfl (vp_in_nI (by decide) (by decide)) dL_truss_9 (fun H locs hP hD hS => ?_)
  have hP : va_P D vwCl (wBL h a0 a1 a2 cy N ec cc f cs tr_5 o cl (vp_updL g 0 (a9).toInt64)) H := hP
  refine lv_goto (tgt := 21) hx hb dL_truss_10 (by decide) ?_
  refine lv_iconst (v := (nI 0)) hx hb dL_truss_21 (by decide) ?_
  refine vx_ret ?_
  exact W.iret (v := (nI 0)) hx hb hr (fun t9 ht9 hW9 => ⟨⟨(nI 0), (a9, tr_5), rfl, ⟨rfl, hw9⟩, by show va_P D vwCl (wBL h a0 a1 a2 cy N ec cc f cs tr_5 o cl (vp_updL g 0 (a9).toInt64)) t9.heap; rw [ht9]; exact hP⟩, hS.F ht9⟩) hS.2.2 dL_truss_22

set_option maxHeartbeats 4000000 in
set_option maxRecDepth 100000 in
theorem w_truss_bad1 (l : Launch) (hfl : l.stackTraces = false) (D : va_G) (cy : ClassId) (h a0 a1 a2 N : Nat) (ec cc : Int32) (f cs tr : Nat → Int32) (o : Nat) (cl : ClassId) (g : Nat → Int64) (sz : Nat) (q1 q2 : Int32) (hq : isNb q1 N = false) : vx_Met l yL_truss wsL_truss ({ frames := 8, cells := 1, slots := 6, locals := 128 } : Room) (va_Pc [.ref h, .int q1, .int q2, .ref o] (fun U => zWr D (wBL h a0 a1 a2 cy N ec cc f cs tr o cl g) [(cy, .int), (cl, .long)] sz U ∧ zTh U)) (va_Qi (fun (r : Int32) (z9 : Unit) => r = nI 1) (fun z9 t => va_P D vwCl (wBL h a0 a1 a2 cy N ec cc f cs tr o cl g) t.heap) (va_A (wBL h a0 a1 a2 cy N ec cc f cs tr o cl g) sz)) zXn 1 6 (va_A (wBL h a0 a1 a2 cy N ec cc f cs tr o cl g) sz) := by
  refine vx_ofWH (cc := cL_truss) (maxL := 5) (ret := (some .int)) (by decide) rfl ?_
  intro p e s m args below meth c s₁ B hml hv
  obtain ⟨rfl, ⟨hsz, hP, hK, hD0⟩, hT⟩ := hv
  have hx := B.exec
  have hb := B.bytes
  have hr := B.returns
  have hts := atoms_spec (ws := wsL_truss) B.pre
  have hown : s.vm.findClass RL = some m.cls := findClass_of_methodNamed B.named
  have hlocks := B.notSynchronized
  subst hsz
  have hD := hD0.self (sz := s.heap.size)
  generalize hAe : va_A (wBL h a0 a1 a2 cy N ec cc f cs tr o cl g) s.heap.size = A at hD ⊢
  have hA : ∀ q : Nat, s.heap.size ≤ q → A q := fun q h => by rw [← hAe]; exact Or.inr h
  have hS : va_S A s.heap s.heap [] := va_S.rf
  have htb := vx_table (x := yL_truss) B (hts (.codeWith yL_truss cL_truss 5 (some .int) [(0, 10, 13, 19), (0, 10, 17, 26)]) (by decide +kernel))
  have hl := lv_entry ([.ref h, .int q1, .int q2, .ref o]) (n := 5) (Nat.le_of_ble_eq_true rfl)
  rw [lg_entry_eq]
  generalize (lg_sl ([.ref h, .int q1, .int q2, .ref o]) ++ List.replicate (5 - (lg_sl ([.ref h, .int q1, .int q2, .ref o])).length) Slot.unset).toArray = ls at hl ⊢
  have hl : lv_has ls 5 [(0, .ref h), (1, .int q1), (2, .int q2), (3, .ref o)] := hl
  refine lv_aload_n hx hb dL_truss_0 rfl (lv_at hl 3 rfl) ?_
  refine lv_iconst (v := (nI 0)) hx hb dL_truss_1 (by decide) ?_
  refine lv_aload_n hx hb dL_truss_2 rfl (lv_at hl 0 rfl) ?_
  refine lv_iload_n hx hb dL_truss_3 rfl (lv_at hl 1 rfl) ?_
  refine lv_iload_n hx hb dL_truss_4 rfl (lv_at hl 2 rfl) ?_
  have hPb := hP.sub (ws' := wB h a0 a1 a2 cy N ec cc f cs tr) [1, 2, 3, 4] rfl
  refine vx_calli (vx_runV (As := [.int q1, .int q2]) (rest := [.int (nI 0), .ref o]) ⟨hx, hb, hml, hown, hts⟩ (c_X0_truss_bad1 l hfl D cy h a0 a1 a2 N ec cc f cs tr q1 q2  hq) (cwV 2 hts gL_truss_X0_truss rfl rfl rfl (by decide +kernel) ⟨Nat.le_of_ble_eq_true rfl, Nat.le_of_ble_eq_true rfl⟩) ⟨fun a U g mk q => ⟨q.1, ⟨q.2.1.1, va_K.moved (u := U) (U := U.calling g mk a) (Vm.Alike.refl U.vm) q.2.1.2⟩, q.2.2.same rfl rfl⟩, va_recv hK hPb (ci := 0) (q0 := 0) rfl rfl, fun U hU hW => ⟨rfl, ⟨by rw [hU]; exact hPb, va_K.moved hW.alike (hK.sub [0] rfl)⟩, hT.move hW ⟨by rw [hU]; exact Nat.le_refl _, fun q _ => by rw [hU]⟩⟩⟩ rfl rfl hl.1 rfl (lv_room (Nat.le_of_ble_eq_true rfl)) dL_truss_5 ⟨Nat.le_of_ble_eq_true rfl, Nat.le_of_ble_eq_true rfl⟩) hS (fun _ _ h => h.elim) (fun _ h => h.elim) (fun _ _ h => h.elim) (fun E2 ce q9 u9 t9 H locs ht9 hvm9 hp9 hB hz hk hS hce hcv hcl => ?_) (fun r u t H1 locs1 ht hvm hw hB hz hk hS1 => hw.elim)
  have hP := zkeep hP ⟨hz, fun q h => hk q h (fun z => z)⟩
  obtain rfl : E2 = nIOB := hB
  refine vx_catch (name := nIOB) hown [] ⟨0, 10, 13, 19⟩ [⟨0, 10, 17, 26⟩] (htb.trans rfl) (fun _ h => absurd h List.not_mem_nil) (by decide) (by decide) (hts (.classLink RL 19 nIOB) (by decide +kernel)) (va_Nw.use rfl (hT.2.1 nIOB (by simp))) hce hcv hcl ?_
  refine lv_astore (lv' := [(4, .ref q9), (0, .ref h), (1, .int q1), (2, .int q2), (3, .ref o)]) hx hb dL_truss_13 hl (by decide) rfl (fun ls hl => ?_)
  refine lv_iconst (v := (nI 1)) hx hb dL_truss_15 (by decide) ?_
  refine vx_ret ?_
  exact W.iret (v := (nI 1)) hx hb hr (fun t9 ht9 hW9 => ⟨⟨(nI 1), (), rfl, rfl, by show va_P D vwCl (wBL h a0 a1 a2 cy N ec cc f cs tr o cl g) t9.heap; rw [ht9]; exact hP⟩, hS.F ht9⟩) hS.2.2 dL_truss_16

set_option maxHeartbeats 4000000 in
set_option maxRecDepth 100000 in
theorem w_truss_bad2 (l : Launch) (hfl : l.stackTraces = false) (D : va_G) (cy : ClassId) (h a0 a1 a2 N : Nat) (ec cc : Int32) (f cs tr : Nat → Int32) (o : Nat) (cl : ClassId) (g : Nat → Int64) (sz : Nat) (u : Nat) (q2 : Int32) (hN : N ≤ 20) (hu : u < N) (hq : isNb q2 N = false) : vx_Met l yL_truss wsL_truss ({ frames := 8, cells := 1, slots := 6, locals := 128 } : Room) (va_Pc [.ref h, .int (nI u), .int q2, .ref o] (fun U => zWr D (wBL h a0 a1 a2 cy N ec cc f cs tr o cl g) [(cy, .int), (cl, .long)] sz U ∧ zTh U)) (va_Qi (fun (r : Int32) (z9 : Unit) => r = nI 1) (fun z9 t => va_P D vwCl (wBL h a0 a1 a2 cy N ec cc f cs tr o cl g) t.heap) (va_A (wBL h a0 a1 a2 cy N ec cc f cs tr o cl g) sz)) zXn 1 6 (va_A (wBL h a0 a1 a2 cy N ec cc f cs tr o cl g) sz) := by
  refine vx_ofWH (cc := cL_truss) (maxL := 5) (ret := (some .int)) (by decide) rfl ?_
  intro p e s m args below meth c s₁ B hml hv
  obtain ⟨rfl, ⟨hsz, hP, hK, hD0⟩, hT⟩ := hv
  have hx := B.exec
  have hb := B.bytes
  have hr := B.returns
  have hts := atoms_spec (ws := wsL_truss) B.pre
  have hown : s.vm.findClass RL = some m.cls := findClass_of_methodNamed B.named
  have hlocks := B.notSynchronized
  subst hsz
  have hD := hD0.self (sz := s.heap.size)
  generalize hAe : va_A (wBL h a0 a1 a2 cy N ec cc f cs tr o cl g) s.heap.size = A at hD ⊢
  have hA : ∀ q : Nat, s.heap.size ≤ q → A q := fun q h => by rw [← hAe]; exact Or.inr h
  have hS : va_S A s.heap s.heap [] := va_S.rf
  have htb := vx_table (x := yL_truss) B (hts (.codeWith yL_truss cL_truss 5 (some .int) [(0, 10, 13, 19), (0, 10, 17, 26)]) (by decide +kernel))
  have hl := lv_entry ([.ref h, .int (nI u), .int q2, .ref o]) (n := 5) (Nat.le_of_ble_eq_true rfl)
  rw [lg_entry_eq]
  generalize (lg_sl ([.ref h, .int (nI u), .int q2, .ref o]) ++ List.replicate (5 - (lg_sl ([.ref h, .int (nI u), .int q2, .ref o])).length) Slot.unset).toArray = ls at hl ⊢
  have hl : lv_has ls 5 [(0, .ref h), (1, .int (nI u)), (2, .int q2), (3, .ref o)] := hl
  refine lv_aload_n hx hb dL_truss_0 rfl (lv_at hl 3 rfl) ?_
  refine lv_iconst (v := (nI 0)) hx hb dL_truss_1 (by decide) ?_
  refine lv_aload_n hx hb dL_truss_2 rfl (lv_at hl 0 rfl) ?_
  refine lv_iload_n hx hb dL_truss_3 rfl (lv_at hl 1 rfl) ?_
  refine lv_iload_n hx hb dL_truss_4 rfl (lv_at hl 2 rfl) ?_
  have hPb := hP.sub (ws' := wB h a0 a1 a2 cy N ec cc f cs tr) [1, 2, 3, 4] rfl
  refine vx_calli (vx_runV (As := [.int (nI u), .int q2]) (rest := [.int (nI 0), .ref o]) ⟨hx, hb, hml, hown, hts⟩ (c_X0_truss_bad2 l hfl D cy h a0 a1 a2 N ec cc f cs tr u q2  hN hu hq) (cwV 2 hts gL_truss_X0_truss rfl rfl rfl (by decide +kernel) ⟨Nat.le_of_ble_eq_true rfl, Nat.le_of_ble_eq_true rfl⟩) ⟨fun a U g mk q => ⟨q.1, ⟨q.2.1.1, va_K.moved (u := U) (U := U.calling g mk a) (Vm.Alike.refl U.vm) q.2.1.2⟩, q.2.2.same rfl rfl⟩, va_recv hK hPb (ci := 0) (q0 := 0) rfl rfl, fun U hU hW => ⟨rfl, ⟨by rw [hU]; exact hPb, va_K.moved hW.alike (hK.sub [0] rfl)⟩, hT.move hW ⟨by rw [hU]; exact Nat.le_refl _, fun q _ => by rw [hU]⟩⟩⟩ rfl rfl hl.1 rfl (lv_room (Nat.le_of_ble_eq_true rfl)) dL_truss_5 ⟨Nat.le_of_ble_eq_true rfl, Nat.le_of_ble_eq_true rfl⟩) hS (fun _ _ h => h.elim) (fun _ h => h.elim) (fun _ _ h => h.elim) (fun E2 ce q9 u9 t9 H locs ht9 hvm9 hp9 hB hz hk hS hce hcv hcl => ?_) (fun r u t H1 locs1 ht hvm hw hB hz hk hS1 => hw.elim)
  have hP := zkeep hP ⟨hz, fun q h => hk q h (fun z => z)⟩
  obtain rfl : E2 = nIOB := hB
  refine vx_catch (name := nIOB) hown [] ⟨0, 10, 13, 19⟩ [⟨0, 10, 17, 26⟩] (htb.trans rfl) (fun _ h => absurd h List.not_mem_nil) (by decide) (by decide) (hts (.classLink RL 19 nIOB) (by decide +kernel)) (va_Nw.use rfl (hT.2.1 nIOB (by simp))) hce hcv hcl ?_
  refine lv_astore (lv' := [(4, .ref q9), (0, .ref h), (1, .int (nI u)), (2, .int q2), (3, .ref o)]) hx hb dL_truss_13 hl (by decide) rfl (fun ls hl => ?_)
  refine lv_iconst (v := (nI 1)) hx hb dL_truss_15 (by decide) ?_
  refine vx_ret ?_
  exact W.iret (v := (nI 1)) hx hb hr (fun t9 ht9 hW9 => ⟨⟨(nI 1), (), rfl, rfl, by show va_P D vwCl (wBL h a0 a1 a2 cy N ec cc f cs tr o cl g) t9.heap; rw [ht9]; exact hP⟩, hS.F ht9⟩) hS.2.2 dL_truss_16

set_option maxHeartbeats 4000000 in
set_option maxRecDepth 100000 in
theorem w_truss_none (l : Launch) (hfl : l.stackTraces = false) (D : va_G) (cy : ClassId) (h a0 a1 a2 N : Nat) (ec cc : Int32) (f cs tr : Nat → Int32) (o : Nat) (cl : ClassId) (g : Nat → Int64) (sz : Nat) (u v : Nat) (hN : N ≤ 20) (hu : u < N) (hv : v < N) (he : bt (f u) v = false) : vx_Met l yL_truss wsL_truss ({ frames := 8, cells := 1, slots := 6, locals := 128 } : Room) (va_Pc [.ref h, .int (nI u), .int (nI v), .ref o] (fun U => zWr D (wBL h a0 a1 a2 cy N ec cc f cs tr o cl g) [(cy, .int), (cl, .long)] sz U ∧ zTh U)) (va_Qi (fun (r : Int32) (z9 : Unit) => r = nI 2) (fun z9 t => va_P D vwCl (wBL h a0 a1 a2 cy N ec cc f cs tr o cl g) t.heap) (va_A (wBL h a0 a1 a2 cy N ec cc f cs tr o cl g) sz)) zXn 1 6 (va_A (wBL h a0 a1 a2 cy N ec cc f cs tr o cl g) sz) := by
  refine vx_ofWH (cc := cL_truss) (maxL := 5) (ret := (some .int)) (by decide) rfl ?_
  intro p e s m args below meth c s₁ B hml hv
  obtain ⟨rfl, ⟨hsz, hP, hK, hD0⟩, hT⟩ := hv
  have hx := B.exec
  have hb := B.bytes
  have hr := B.returns
  have hts := atoms_spec (ws := wsL_truss) B.pre
  have hown : s.vm.findClass RL = some m.cls := findClass_of_methodNamed B.named
  have hlocks := B.notSynchronized
  subst hsz
  have hD := hD0.self (sz := s.heap.size)
  generalize hAe : va_A (wBL h a0 a1 a2 cy N ec cc f cs tr o cl g) s.heap.size = A at hD ⊢
  have hA : ∀ q : Nat, s.heap.size ≤ q → A q := fun q h => by rw [← hAe]; exact Or.inr h
  have hS : va_S A s.heap s.heap [] := va_S.rf
  have htb := vx_table (x := yL_truss) B (hts (.codeWith yL_truss cL_truss 5 (some .int) [(0, 10, 13, 19), (0, 10, 17, 26)]) (by decide +kernel))
  have hl := lv_entry ([.ref h, .int (nI u), .int (nI v), .ref o]) (n := 5) (Nat.le_of_ble_eq_true rfl)
  rw [lg_entry_eq]
  generalize (lg_sl ([.ref h, .int (nI u), .int (nI v), .ref o]) ++ List.replicate (5 - (lg_sl ([.ref h, .int (nI u), .int (nI v), .ref o])).length) Slot.unset).toArray = ls at hl ⊢
  have hl : lv_has ls 5 [(0, .ref h), (1, .int (nI u)), (2, .int (nI v)), (3, .ref o)] := hl
  refine lv_aload_n hx hb dL_truss_0 rfl (lv_at hl 3 rfl) ?_
  refine lv_iconst (v := (nI 0)) hx hb dL_truss_1 (by decide) ?_
  refine lv_aload_n hx hb dL_truss_2 rfl (lv_at hl 0 rfl) ?_
  refine lv_iload_n hx hb dL_truss_3 rfl (lv_at hl 1 rfl) ?_
  refine lv_iload_n hx hb dL_truss_4 rfl (lv_at hl 2 rfl) ?_
  have hPb := hP.sub (ws' := wB h a0 a1 a2 cy N ec cc f cs tr) [1, 2, 3, 4] rfl
  refine vx_calli (vx_runV (As := [.int (nI u), .int (nI v)]) (rest := [.int (nI 0), .ref o]) ⟨hx, hb, hml, hown, hts⟩ (c_X0_truss_none l hfl D cy h a0 a1 a2 N ec cc f cs tr u v  hN hu hv he) (cwV 2 hts gL_truss_X0_truss rfl rfl rfl (by decide +kernel) ⟨Nat.le_of_ble_eq_true rfl, Nat.le_of_ble_eq_true rfl⟩) ⟨fun a U g mk q => ⟨q.1, ⟨q.2.1.1, va_K.moved (u := U) (U := U.calling g mk a) (Vm.Alike.refl U.vm) q.2.1.2⟩, q.2.2.same rfl rfl⟩, va_recv hK hPb (ci := 0) (q0 := 0) rfl rfl, fun U hU hW => ⟨rfl, ⟨by rw [hU]; exact hPb, va_K.moved hW.alike (hK.sub [0] rfl)⟩, hT.move hW ⟨by rw [hU]; exact Nat.le_refl _, fun q _ => by rw [hU]⟩⟩⟩ rfl rfl hl.1 rfl (lv_room (Nat.le_of_ble_eq_true rfl)) dL_truss_5 ⟨Nat.le_of_ble_eq_true rfl, Nat.le_of_ble_eq_true rfl⟩) hS (fun _ _ h => h.elim) (fun _ h => h.elim) (fun _ _ h => h.elim) (fun E2 ce q9 u9 t9 H locs ht9 hvm9 hp9 hB hz hk hS hce hcv hcl => ?_) (fun r u t H1 locs1 ht hvm hw hB hz hk hS1 => hw.elim)
  have hP := zkeep hP ⟨hz, fun q h => hk q h (fun z => z)⟩
  obtain rfl : E2 = nNSE := hB
  refine vx_catch (name := nNSE) hown [⟨0, 10, 13, 19⟩] ⟨0, 10, 17, 26⟩ [] (htb.trans rfl) (List.forall_mem_cons.mpr ⟨Or.inr ⟨by decide, nIOB, hts (.classLink RL 19 nIOB) (by decide +kernel), hT.2.2.1 nNSE (by simp) nIOB (by simp) (by decide)⟩, (fun _ h => absurd h List.not_mem_nil)⟩) (by decide) (by decide) (hts (.classLink RL 26 nNSE) (by decide +kernel)) (va_Nw.use rfl (hT.2.1 nNSE (by simp))) hce hcv hcl ?_
  refine lv_astore (lv' := [(4, .ref q9), (0, .ref h), (1, .int (nI u)), (2, .int (nI v)), (3, .ref o)]) hx hb dL_truss_17 hl (by decide) rfl (fun ls hl => ?_)
  refine lv_iconst (v := (nI 2)) hx hb dL_truss_19 (by decide) ?_
  refine vx_ret ?_
  exact W.iret (v := (nI 2)) hx hb hr (fun t9 ht9 hW9 => ⟨⟨(nI 2), (), rfl, rfl, by show va_P D vwCl (wBL h a0 a1 a2 cy N ec cc f cs tr o cl g) t9.heap; rw [ht9]; exact hP⟩, hS.F ht9⟩) hS.2.2 dL_truss_20

set_option maxHeartbeats 4000000 in
set_option maxRecDepth 100000 in
theorem w_trussSize_ok (l : Launch) (D : va_G) (cy : ClassId) (h a0 a1 a2 N : Nat) (ec cc : Int32) (f cs tr : Nat → Int32) (o : Nat) (cl : ClassId) (g : Nat → Int64) (sz : Nat) (k : Int32) (hN : N ≤ 20) (hg : gd f N) (hk : ¬ k < nI 2) : vx_Met l yL_trussSize wsL_trussSize ({ frames := 5, cells := 0, slots := 0, locals := 111 } : Room) (va_Pc [.ref h, .int k, .ref o] (fun U => zWr D (wBL h a0 a1 a2 cy N ec cc f cs tr o cl g) [(cy, .int), (cl, .long)] sz U ∧ True)) (va_Qi (fun (r : Int32) (z9 : Int32 × (Nat → Int32)) => r = nI 0 ∧ (∃ g, isTr f N (k - nI 2).toInt g ∧ z9.1 = nI (tE g N / 2))) (fun z9 t => va_P D vwCl (wBL h a0 a1 a2 cy N ec cc f cs z9.2 o cl (vp_updL g 0 (z9.1).toInt64)) t.heap) (va_A (wBL h a0 a1 a2 cy N ec cc f cs tr o cl g) sz)) zXn 0 0 (va_A (wBL h a0 a1 a2 cy N ec cc f cs tr o cl g) sz) := by
  refine vx_ofWH (cc := cL_trussSize) (maxL := 4) (ret := (some .int)) (by decide) rfl ?_
  intro p e s m args below meth c s₁ B hml hv
  obtain ⟨rfl, ⟨hsz, hP, hK, hD0⟩, hT⟩ := hv
  have hx := B.exec
  have hb := B.bytes
  have hr := B.returns
  have hts := atoms_spec (ws := wsL_trussSize) B.pre
  have hown : s.vm.findClass RL = some m.cls := findClass_of_methodNamed B.named
  have hlocks := B.notSynchronized
  subst hsz
  have hD := hD0.self (sz := s.heap.size)
  generalize hAe : va_A (wBL h a0 a1 a2 cy N ec cc f cs tr o cl g) s.heap.size = A at hD ⊢
  have hA : ∀ q : Nat, s.heap.size ≤ q → A q := fun q h => by rw [← hAe]; exact Or.inr h
  have hS : va_S A s.heap s.heap [] := va_S.rf
  have hl := lv_entry ([.ref h, .int k, .ref o]) (n := 4) (Nat.le_of_ble_eq_true rfl)
  rw [lg_entry_eq]
  generalize (lg_sl ([.ref h, .int k, .ref o]) ++ List.replicate (4 - (lg_sl ([.ref h, .int k, .ref o])).length) Slot.unset).toArray = ls at hl ⊢
  have hl : lv_has ls 4 [(0, .ref h), (1, .int k), (2, .ref o)] := hl
  refine lv_aload_n hx hb dL_trussSize_0 rfl (lv_at hl 2 rfl) ?_
  refine lv_iconst (v := (nI 0)) hx hb dL_trussSize_1 (by decide) ?_
  refine lv_aload_n hx hb dL_trussSize_2 rfl (lv_at hl 0 rfl) ?_
  refine lv_iload_n hx hb dL_trussSize_3 rfl (lv_at hl 1 rfl) ?_
  have hPb := hP.sub (ws' := wB h a0 a1 a2 cy N ec cc f cs tr) [1, 2, 3, 4] rfl
  have hDb := hD.sub (ws' := wB h a0 a1 a2 cy N ec cc f cs tr) [1, 2, 3, 4] (by decide) rfl
  refine zjVi (As := [.int k]) (rest := [.int (nI 0), .ref o]) (wr := [(o, .inl (cl, 1, .inr (.inl g)))]) 0 [1, 2, 3, 4] [0] rfl rfl rfl (by decide) (by exact fun _ => rfl) ⟨hx, hb, hml, hown, hts⟩ (c_X0_trussSize_ok l D cy h a0 a1 a2 N ec cc f cs tr _ k  hN hg hk) (cwV 1 hts gL_trussSize_X0_trussSize rfl rfl rfl (by decide +kernel) ⟨Nat.le_of_ble_eq_true rfl, Nat.le_of_ble_eq_true rfl⟩) (hK.sub [0] rfl) hP hPb hD hDb hA rfl rfl rfl hl rfl (Nat.le_of_ble_eq_true rfl) dL_trussSize_4 ⟨Nat.le_of_ble_eq_true rfl, Nat.le_of_ble_eq_true rfl⟩ hS (fun a9 u9 H locs hw9 hP hS => ?_)
  obtain ⟨tr_4, rfl⟩ : ∃ z, z = u9 := ⟨_, rfl⟩
  have hP : va_P D vwCl (wBL h a0 a1 a2 cy N ec cc f cs tr_4 o cl g) H := hP
  have hD : va_D A (wBL h a0 a1 a2 cy N ec cc f cs tr_4 o cl g) := zD hD rfl
  have hw9 : ∃ g, isTr f N (k - nI 2).toInt g ∧ a9 = nI (tE g N / 2) := hw9
  refine lv_i2l (v := (a9).toInt64) hx hb dL_trussSize_7 rfl ?_
  refine va_last hx hb hK hP hD hS 0 1 rfl rfl (vp_in_nI (by decide) (by decide)) dL_trussSize_8 (fun H locs hP hD hS => ?_)
  have hP : va_P D vwCl (wBL h a0 a1 a2 cy N ec cc f cs tr_4 o cl (vp_updL g 0 (a9).toInt64)) H := hP
  refine lv_goto (tgt := 15) hx hb dL_trussSize_9 (by decide) ?_
  refine lv_iconst (v := (nI 0)) hx hb dL_trussSize_15 (by decide) ?_
  refine vx_ret ?_
  exact W.iret (v := (nI 0)) hx hb hr (fun t9 ht9 hW9 => ⟨⟨(nI 0), (a9, tr_4), rfl, ⟨rfl, hw9⟩, by show va_P D vwCl (wBL h a0 a1 a2 cy N ec cc f cs tr_4 o cl (vp_updL g 0 (a9).toInt64)) t9.heap; rw [ht9]; exact hP⟩, hS.F ht9⟩) hS.2.2 dL_trussSize_16

set_option maxHeartbeats 4000000 in
set_option maxRecDepth 100000 in
theorem w_trussSize_low (l : Launch) (hfl : l.stackTraces = false) (D : va_G) (cy : ClassId) (h a0 a1 a2 N : Nat) (ec cc : Int32) (f cs tr : Nat → Int32) (o : Nat) (cl : ClassId) (g : Nat → Int64) (sz : Nat) (k : Int32) (hk : k < nI 2) : vx_Met l yL_trussSize wsL_trussSize ({ frames := 7, cells := 1, slots := 6, locals := 111 } : Room) (va_Pc [.ref h, .int k, .ref o] (fun U => zWr D (wBL h a0 a1 a2 cy N ec cc f cs tr o cl g) [(cy, .int), (cl, .long)] sz U ∧ zTh U)) (va_Qi (fun (r : Int32) (z9 : Unit) => r = nI 1) (fun z9 t => va_P D vwCl (wBL h a0 a1 a2 cy N ec cc f cs tr o cl g) t.heap) (va_A (wBL h a0 a1 a2 cy N ec cc f cs tr o cl g) sz)) zXn 1 6 (va_A (wBL h a0 a1 a2 cy N ec cc f cs tr o cl g) sz) := by
  refine vx_ofWH (cc := cL_trussSize) (maxL := 4) (ret := (some .int)) (by decide) rfl ?_
  intro p e s m args below meth c s₁ B hml hv
  obtain ⟨rfl, ⟨hsz, hP, hK, hD0⟩, hT⟩ := hv
  have hx := B.exec
  have hb := B.bytes
  have hr := B.returns
  have hts := atoms_spec (ws := wsL_trussSize) B.pre
  have hown : s.vm.findClass RL = some m.cls := findClass_of_methodNamed B.named
  have hlocks := B.notSynchronized
  subst hsz
  have hD := hD0.self (sz := s.heap.size)
  generalize hAe : va_A (wBL h a0 a1 a2 cy N ec cc f cs tr o cl g) s.heap.size = A at hD ⊢
  have hA : ∀ q : Nat, s.heap.size ≤ q → A q := fun q h => by rw [← hAe]; exact Or.inr h
  have hS : va_S A s.heap s.heap [] := va_S.rf
  have htb := vx_table (x := yL_trussSize) B (hts (.codeWith yL_trussSize cL_trussSize 4 (some .int) [(0, 9, 12, 21)]) (by decide +kernel))
  have hl := lv_entry ([.ref h, .int k, .ref o]) (n := 4) (Nat.le_of_ble_eq_true rfl)
  rw [lg_entry_eq]
  generalize (lg_sl ([.ref h, .int k, .ref o]) ++ List.replicate (4 - (lg_sl ([.ref h, .int k, .ref o])).length) Slot.unset).toArray = ls at hl ⊢
  have hl : lv_has ls 4 [(0, .ref h), (1, .int k), (2, .ref o)] := hl
  refine lv_aload_n hx hb dL_trussSize_0 rfl (lv_at hl 2 rfl) ?_
  refine lv_iconst (v := (nI 0)) hx hb dL_trussSize_1 (by decide) ?_
  refine lv_aload_n hx hb dL_trussSize_2 rfl (lv_at hl 0 rfl) ?_
  refine lv_iload_n hx hb dL_trussSize_3 rfl (lv_at hl 1 rfl) ?_
  have hPb := hP.sub (ws' := wB h a0 a1 a2 cy N ec cc f cs tr) [1, 2, 3, 4] rfl
  refine vx_calli (vx_runV (As := [.int k]) (rest := [.int (nI 0), .ref o]) ⟨hx, hb, hml, hown, hts⟩ (c_X0_trussSize_low l hfl D cy h a0 a1 a2 N ec cc f cs tr k  hk) (cwV 1 hts gL_trussSize_X0_trussSize rfl rfl rfl (by decide +kernel) ⟨Nat.le_of_ble_eq_true rfl, Nat.le_of_ble_eq_true rfl⟩) ⟨fun a U g mk q => ⟨q.1, ⟨q.2.1.1, va_K.moved (u := U) (U := U.calling g mk a) (Vm.Alike.refl U.vm) q.2.1.2⟩, q.2.2.same rfl rfl⟩, va_recv hK hPb (ci := 0) (q0 := 0) rfl rfl, fun U hU hW => ⟨rfl, ⟨by rw [hU]; exact hPb, va_K.moved hW.alike (hK.sub [0] rfl)⟩, hT.move hW ⟨by rw [hU]; exact Nat.le_refl _, fun q _ => by rw [hU]⟩⟩⟩ rfl rfl hl.1 rfl (lv_room (Nat.le_of_ble_eq_true rfl)) dL_trussSize_4 ⟨Nat.le_of_ble_eq_true rfl, Nat.le_of_ble_eq_true rfl⟩) hS (fun _ _ h => h.elim) (fun _ h => h.elim) (fun _ _ h => h.elim) (fun E2 ce q9 u9 t9 H locs ht9 hvm9 hp9 hB hz hk hS hce hcv hcl => ?_) (fun r u t H1 locs1 ht hvm hw hB hz hk hS1 => hw.elim)
  have hP := zkeep hP ⟨hz, fun q h => hk q h (fun z => z)⟩
  obtain rfl : E2 = nIAE := hB
  refine vx_catch (name := nIAE) hown [] ⟨0, 9, 12, 21⟩ [] (htb.trans rfl) (fun _ h => absurd h List.not_mem_nil) (by decide) (by decide) (hts (.classLink RL 21 nIAE) (by decide +kernel)) (va_Nw.use rfl (hT.2.1 nIAE (by simp))) hce hcv hcl ?_
  refine lv_astore_n (lv' := [(3, .ref q9), (0, .ref h), (1, .int k), (2, .ref o)]) hx hb dL_trussSize_12 rfl hl (by decide) rfl (fun ls hl => ?_)
  refine lv_iconst (v := (nI 1)) hx hb dL_trussSize_13 (by decide) ?_
  refine vx_ret ?_
  exact W.iret (v := (nI 1)) hx hb hr (fun t9 ht9 hW9 => ⟨⟨(nI 1), (), rfl, rfl, by show va_P D vwCl (wBL h a0 a1 a2 cy N ec cc f cs tr o cl g) t9.heap; rw [ht9]; exact hP⟩, hS.F ht9⟩) hS.2.2 dL_trussSize_14
