theorem tgi_m (m : Nat) : nI m + Int32.ofInt (-1) = tgi m := by
  unfold tgi
  by_cases h : m = 0
  · rw [if_pos h, h]; rfl
  · rw [if_neg h]
    obtain ⟨k, rfl⟩ : ∃ k, m = k + 1 := ⟨m - 1, by omega⟩
    rw [Nat.add_sub_cancel]
    exact pk_m1 k
theorem tgi_ge {t : Nat} {x : Int32} (ht : t ≤ 40) (hx : x = tgi t) (h : ¬ x < 0) : ∃ m, x = nI m ∧ t = m + 1 := by
  unfold tgi at hx
  by_cases e : t = 0
  · rw [if_pos e] at hx; rw [hx] at h; exact absurd (by decide) h
  · rw [if_neg e] at hx; exact ⟨t - 1, hx, by omega⟩
theorem tgi_lt {t : Nat} {x : Int32} (ht : t ≤ 40) (hx : x = tgi t) (h : x < 0) : t = 0 := by
  unfold tgi at hx
  by_cases e : t = 0
  · exact e
  · rw [if_neg e] at hx; rw [hx] at h; exact absurd h (nI_pos (by omega))
theorem tgk_top {f : Nat → Int32} {c : Nat → Nat} {N u v m : Nat} (hb : bt (cmp f (cst c N m) u) v = true) : ∀ K : Nat, m < K → (∀ j : Nat, m < j → j < K → bt (cmp f (cst c N j) u) v = false) → tgk f c N u v K = m + 1
  | 0, h, _ => absurd h (Nat.not_lt_zero m)
  | K + 1, h, hj => by
    rcases Nat.lt_or_ge m K with q | q
    · rw [tgk_no (hj K q (Nat.lt_succ_self K))]
      exact tgk_top hb K q fun j h1 h2 => hj j h1 (by omega)
    · have e : K = m := by omega
      subst e
      rw [tgk_yes hb]
theorem tgk_zero {f : Nat → Int32} {c : Nat → Nat} {N u v : Nat} : ∀ K : Nat, (∀ j : Nat, j < K → bt (cmp f (cst c N j) u) v = false) → tgk f c N u v K = 0
  | 0, _ => rfl
  | K + 1, hj => by
    rw [tgk_no (hj K (Nat.lt_succ_self K))]
    exact tgk_zero K fun j h => hj j (by omega)
theorem cmp_hi {f : Nat → Int32} {c : Nat → Nat} {N u v j : Nat} (hN : N ≤ 20) (hu : u < N) (h : min (c u) (c v) < j) : bt (cmp f (cst c N j) u) v = false := by
  cases q : bt (cmp f (cst c N j) u) v
  · rfl
  · exfalso
    have h1 := ((b_cst hN).mp (cmp_le f _ u v q)).2
    have h2 : bt (cst c N j) u = true := by
      cases q2 : bt (cst c N j) u
      · rw [cmp_0 (by omega) q2, b_0] at q; cases q
      · rfl
    have h3 := ((b_cst hN).mp h2).2
    omega
theorem ewn_190 {f : Nat → Int32} {N : Nat} (hg : gd f N) (x : Int32) : ewn f N x ≤ 190 := by
  have h1 : fb_sm (ews f x) N ≤ tE f N := fb_sm_le fun k _ => by
    unfold ews
    split
    · exact pop_le (le_andl _ _)
    · exact Nat.zero_le _
  have h2 := tE_b hg
  unfold ewn
  omega
theorem dsk_pos {f : Nat → Int32} {N : Nat} (hg : gd f N) : ∀ t, t < N → 1 ≤ zpop (dsk f N t).2.1
  | 0, h => by show 1 ≤ zpop (zal N); rw [pop_al hg.1]; omega
  | t + 1, h => by
    have ih := dsk_pos hg t (by omega)
    have hp := dsk_pop hg (t + 1) (by omega)
    by_cases q : (dsk f N t).2.2 * zpop (dsk f N (t + 1)).1 < ewn f N (dsk f N (t + 1)).1 * zpop (dsk f N t).2.1
    · rw [dsk_yes (dsk_1 f N t) q]
      show 1 ≤ zpop (dsk f N (t + 1)).1
      omega
    · rw [dsk_no (dsk_1 f N t) (Nat.le_of_not_lt q)]
      exact ih
/-- the density -/
def dnv (f : Nat → Int32) (N : Nat) : UInt64 := if N = 0 then FP.dconst0 else ddq (dsk f N (N - 1)).2.2 (zpop (dsk f N (N - 1)).2.1)
theorem dn_b {f : Nat → Int32} {N : Nat} (hg : gd f N) (h : N ≠ 0) : ddc (dsk f N (N - 1)).2.2 (zpop (dsk f N (N - 1)).2.1) = true := by
  have hN := hg.1
  have h1 := dsk_sub hN (N - 1) (f := f)
  refine ddc_ok (by rw [h1.2.2]; exact ewn_190 hg _) (dsk_pos hg _ (by omega)) ?_
  have := pop_N hN (sub_le h1.2.1 (sub_al hN))
  omega
theorem ddc_n {e s : Nat} (h : ddc e s = true) : vf_n64 (FP.ddiv (FP.i2d (nI e)) (FP.i2d (nI s))) := by
  unfold ddc at h
  rw [Bool.and_eq_true, decide_eq_true_iff] at h
  exact h.1
set_option maxHeartbeats 4000000 in
set_option maxRecDepth 100000 in
theorem c_X0_checkNode_ok (l : Launch) (D : va_G) (cy : ClassId) (h a0 a1 a2 N : Nat) (ec cc : Int32) (f cs tr : Nat → Int32) (u : Nat) (hN : N ≤ 20) (hu : u < N) : Met l yX0_checkNode wsX0_checkNode ({ frames := 6, cells := 0, slots := 0, locals := 82 } : Room) (va_Pc [.ref h, .int (nI u)] (zRd D (wB h a0 a1 a2 cy N ec cc f cs tr) [(cy, .int)])) (va_Qv (fun (_ : Unit) => True) (fun _ _ => True) (fun _ => False)) 0 0 zNo := by
  refine Met.ofW (cc := cX0_checkNode) (maxL := 2) (ret := none) (by decide) rfl ?_
  intro p e s m args below meth c s₁ B hml hv
  obtain ⟨rfl, hP, hK⟩ := hv
  have hx := B.exec
  have hb := B.bytes
  have hr := B.returns
  have hts := atoms_spec (ws := wsX0_checkNode) B.pre
  have hown : s.vm.findClass RX0 = some m.cls := findClass_of_methodNamed B.named
  have hlocks := B.notSynchronized
  have hS : va_S (fun _ => False) s.heap s.heap [] := va_S.rf
  have hin : ∀ w ∈ wsX00, w ∈ wsX0_checkNode := by decide +kernel
  have hf19 := hts (.fieldLink RX0 19 "Corebarn" "nodeCount" "I") (by decide +kernel)
  have hl := lv_entry ([.ref h, .int (nI u)]) (n := 2) (Nat.le_of_ble_eq_true rfl)
  rw [lg_entry_eq]
  generalize (lg_sl ([.ref h, .int (nI u)]) ++ List.replicate (2 - (lg_sl ([.ref h, .int (nI u)])).length) Slot.unset).toArray = ls at hl ⊢
  have hl : lv_has ls 2 [(0, .ref h), (1, .int (nI u))] := hl
  refine lv_iload_n hx hb dX0_checkNode_0 rfl (lv_at hl 1 rfl) ?_
  refine z_ifn_lt (tgt := 12) hx hb dX0_checkNode_1 (by decide) (by omega) ?_
  refine lv_iload_n hx hb dX0_checkNode_4 rfl (lv_at hl 1 rfl) ?_
  refine lv_aload_n hx hb dX0_checkNode_5 rfl (lv_at hl 0 rfl) ?_
  refine va_get (D := D) (ci := 0) (v := .int (nI N)) (C := RX0) (T := TX0) (N := 6) hx hb hts hin hown hK hP 0 rfl rfl 3 (by decide) hf19 (fun _ h9 => h9) rfl dX0_checkNode_6 ?_
  refine z_icmp_lt (tgt := 22) hx hb dX0_checkNode_9 (by decide) (by omega) (by omega) (fun h9 => ?_) (fun h9 => ?_)
  · exact W.vret hx hb hr (fun t9 ht9 hW9 => ⟨⟨(), rfl, trivial, trivial⟩, hS.F ht9⟩) hS.2.2 dX0_checkNode_22
  · exact absurd hu (Nat.not_lt.mpr h9)
set_option maxHeartbeats 4000000 in
set_option maxRecDepth 100000 in
theorem c_X0_checkLevel_ok (l : Launch) (k : Int32) (hk : ¬ k < 0) : Met l yX0_checkLevel wsX0_checkLevel ({ frames := 6, cells := 0, slots := 0, locals := 82 } : Room) (va_Pc [.int k] (fun _ => True)) (va_Qv (fun (_ : Unit) => True) (fun _ _ => True) (fun _ => False)) 0 0 zNo := by
  refine Met.ofW (cc := cX0_checkLevel) (maxL := 1) (ret := none) (by decide) rfl ?_
  intro p e s m args below meth c s₁ B hml hv
  obtain ⟨rfl, -⟩ := hv
  have hx := B.exec
  have hb := B.bytes
  have hr := B.returns
  have hts := atoms_spec (ws := wsX0_checkLevel) B.pre
  have hown : s.vm.findClass RX0 = some m.cls := findClass_of_methodNamed B.named
  have hlocks := B.notSynchronized
  have hS : va_S (fun _ => False) s.heap s.heap [] := va_S.rf
  have hl := lv_entry ([.int k]) (n := 1) (Nat.le_of_ble_eq_true rfl)
  rw [lg_entry_eq]
  generalize (lg_sl ([.int k]) ++ List.replicate (1 - (lg_sl ([.int k])).length) Slot.unset).toArray = ls at hl ⊢
  have hl : lv_has ls 1 [(0, .int k)] := hl
  refine lv_iload_n hx hb dX0_checkLevel_0 rfl (lv_at hl 0 rfl) ?_
  refine lv_if_ge (tgt := 14) hx hb dX0_checkLevel_1 (by decide) (fun h1 => ?_) (fun h1 => ?_)
  · exact W.vret hx hb hr (fun t9 ht9 hW9 => ⟨⟨(), rfl, trivial, trivial⟩, hS.F ht9⟩) hS.2.2 dX0_checkLevel_14
  · exact absurd (Int32.not_le.mp h1) hk
set_option maxHeartbeats 4000000 in
set_option maxRecDepth 100000 in
theorem c_X0_addNode_ok (l : Launch) (D : va_G) (cy : ClassId) (h a0 a1 a2 N : Nat) (ec cc : Int32) (f cs tr : Nat → Int32) (sz : Nat) (hN : N < 20) : Met l yX0_addNode wsX0_addNode ({ frames := 0, cells := 0, slots := 0, locals := 0 } : Room) (va_Pc [.ref h] (zWr D (wB h a0 a1 a2 cy N ec cc f cs tr) [(cy, .int)] sz)) (va_Qi (fun (r : Int32) (z9 : Unit) => r = nI N) (fun (z9 : Unit) t => va_P D vwCl (wB h a0 a1 a2 cy (N + 1) ec cc f cs tr) t.heap) (va_A (wB h a0 a1 a2 cy N ec cc f cs tr) sz)) 0 0 (va_A (wB h a0 a1 a2 cy N ec cc f cs tr) sz) := by
  refine Met.ofW (cc := cX0_addNode) (maxL := 2) (ret := (some .int)) (by decide) rfl ?_
  intro p e s m args below meth c s₁ B hml hv
  obtain ⟨rfl, hsz, hP, hK, hD0⟩ := hv
  have hx := B.exec
  have hb := B.bytes
  have hr := B.returns
  have hts := atoms_spec (ws := wsX0_addNode) B.pre
  have hown : s.vm.findClass RX0 = some m.cls := findClass_of_methodNamed B.named
  have hlocks := B.notSynchronized
  subst hsz
  have hD := hD0.self (sz := s.heap.size)
  generalize hAe : va_A (wB h a0 a1 a2 cy N ec cc f cs tr) s.heap.size = A at hD ⊢
  have hA : ∀ q : Nat, s.heap.size ≤ q → A q := fun q h => by rw [← hAe]; exact Or.inr h
  have hS : va_S A s.heap s.heap [] := va_S.rf
  have hin : ∀ w ∈ wsX00, w ∈ wsX0_addNode := by decide +kernel
  have hf19 := hts (.fieldLink RX0 19 "Corebarn" "nodeCount" "I") (by decide +kernel)
  have hl := lv_entry ([.ref h]) (n := 2) (Nat.le_of_ble_eq_true rfl)
  rw [lg_entry_eq]
  generalize (lg_sl ([.ref h]) ++ List.replicate (2 - (lg_sl ([.ref h])).length) Slot.unset).toArray = ls at hl ⊢
  have hl : lv_has ls 2 [(0, .ref h)] := hl
  refine lv_aload_n hx hb dX0_addNode_0 rfl (lv_at hl 0 rfl) ?_
  refine va_get (D := D) (ci := 0) (v := .int (nI N)) (C := RX0) (T := TX0) (N := 6) hx hb hts hin hown hK hP 0 rfl rfl 3 (by decide) hf19 (fun _ h9 => h9) rfl dX0_addNode_1 ?_
  refine lv_bipush (v := (nI 20)) hx hb dX0_addNode_4 (by decide) ?_
  refine z_icmp_lt (tgt := 19) hx hb dX0_addNode_6 (by decide) (by omega) (by omega) (fun h6 => ?_) (fun h6 => ?_)
  · refine lv_aload_n hx hb dX0_addNode_19 rfl (lv_at hl 0 rfl) ?_
    refine va_get (D := D) (ci := 0) (v := .int (nI N)) (C := RX0) (T := TX0) (N := 6) hx hb hts hin hown hK hP 0 rfl rfl 3 (by decide) hf19 (fun _ h9 => h9) rfl dX0_addNode_20 ?_
    refine lv_istore_n (lv' := [(1, .int (nI N)), (0, .ref h)]) hx hb dX0_addNode_23 rfl hl (by decide) rfl (fun ls hl => ?_)
    refine lv_aload_n hx hb dX0_addNode_24 rfl (lv_at hl 1 rfl) ?_
    refine lv_dup hx hb dX0_addNode_25 rfl ?_
    refine va_get (D := D) (ci := 0) (v := .int (nI N)) (C := RX0) (T := TX0) (N := 6) hx hb hts hin hown hK hP 0 rfl rfl 3 (by decide) hf19 (fun _ h9 => h9) rfl dX0_addNode_26 ?_
    refine lv_iconst (v := (nI 1)) hx hb dX0_addNode_29 (by decide) ?_
    refine z_iadd hx hb dX0_addNode_30 ?_
    refine va_put (D := D) (ci := 0) (v := .int (nI (N + 1))) (ty := .int) (C := RX0) (T := TX0) (N := 6) hx hb hts hin tyX0 tyX0_ok nmX0 hown hK hP hD hS 0 rfl rfl 3 (by decide) hf19 (fun _ h9 => h9) rfl (by decide +kernel) rfl rfl (Nat.le_of_ble_eq_true rfl) dX0_addNode_31 (fun H locs hP hD hS => ?_)
    have hP : va_P D vwCl (wB h a0 a1 a2 cy (N + 1) ec cc f cs tr) H := hP
    have hD : va_D A (wB h a0 a1 a2 cy (N + 1) ec cc f cs tr) := hD
    refine lv_iload_n hx hb dX0_addNode_34 rfl (lv_at hl 0 rfl) ?_
    exact W.iret (v := (nI N)) hx hb hr (fun t9 ht9 hW9 => ⟨⟨(nI N), (), rfl, rfl, by show va_P D vwCl (wB h a0 a1 a2 cy (N + 1) ec cc f cs tr) t9.heap; rw [ht9]; exact hP⟩, hS.F ht9⟩) hS.2.2 dX0_addNode_35
  · exact absurd hN (Nat.not_lt.mpr h6)
set_option maxHeartbeats 4000000 in
set_option maxRecDepth 100000 in
theorem c_X0_degree_ok (l : Launch) (D : va_G) (cy : ClassId) (h a0 a1 a2 N : Nat) (ec cc : Int32) (f cs tr : Nat → Int32) (u : Nat) (hN : N ≤ 20) (hu : u < N) : Met l yX0_degree wsX0_degree ({ frames := 7, cells := 0, slots := 0, locals := 103 } : Room) (va_Pc [.ref h, .int (nI u)] (zRd D (wB h a0 a1 a2 cy N ec cc f cs tr) [(cy, .int)])) (zPo (fun r => r = nI (zpop (f u)))) 0 0 zNo := by
  refine Met.ofW (cc := cX0_degree) (maxL := 2) (ret := (some .int)) (by decide) rfl ?_
  intro p e s m args below meth c s₁ B hml hv
  obtain ⟨rfl, hP, hK⟩ := hv
  have hx := B.exec
  have hb := B.bytes
  have hr := B.returns
  have hts := atoms_spec (ws := wsX0_degree) B.pre
  have hown : s.vm.findClass RX0 = some m.cls := findClass_of_methodNamed B.named
  have hlocks := B.notSynchronized
  have hS : va_S (fun _ => False) s.heap s.heap [] := va_S.rf
  have hin : ∀ w ∈ wsX00, w ∈ wsX0_degree := by decide +kernel
  have hf9 := hts (.fieldLink RX0 9 "Corebarn" "neighbours" "[I") (by decide +kernel)
  have hl := lv_entry ([.ref h, .int (nI u)]) (n := 2) (Nat.le_of_ble_eq_true rfl)
  rw [lg_entry_eq]
  generalize (lg_sl ([.ref h, .int (nI u)]) ++ List.replicate (2 - (lg_sl ([.ref h, .int (nI u)])).length) Slot.unset).toArray = ls at hl ⊢
  have hl : lv_has ls 2 [(0, .ref h), (1, .int (nI u))] := hl
  refine lv_aload_n hx hb dX0_degree_0 rfl (lv_at hl 0 rfl) ?_
  refine lv_iload_n hx hb dX0_degree_1 rfl (lv_at hl 1 rfl) ?_
  refine zrVv (As := [.int (nI u)]) (rest := []) 0 ⟨hx, hb, hml, hown, hts⟩ (c_X0_checkNode_ok l D cy h a0 a1 a2 N ec cc f cs tr u hN hu) (cwV 1 hts gX0_degree_X0_checkNode rfl rfl rfl (by decide +kernel) ⟨Nat.le_of_ble_eq_true rfl, Nat.le_of_ble_eq_true rfl⟩) hK hP rfl rfl rfl hl rfl (Nat.le_of_ble_eq_true rfl) dX0_degree_2 ⟨Nat.le_of_ble_eq_true rfl, Nat.le_of_ble_eq_true rfl⟩ hS (fun H locs hw2 hk9 hS => ?_)
  have hP := zkeep hP hk9
  refine lv_aload_n hx hb dX0_degree_5 rfl (lv_at hl 0 rfl) ?_
  refine va_get (D := D) (ci := 0) (v := .ref a0) (C := RX0) (T := TX0) (N := 6) hx hb hts hin hown hK hP 0 rfl rfl 0 (by decide) hf9 (fun _ h9 => h9) rfl dX0_degree_6 ?_
  refine lv_iload_n hx hb dX0_degree_9 rfl (lv_at hl 1 rfl) ?_
  refine z_iald hx hb hK hP 1 0 rfl rfl (by omega) (by decide) dX0_degree_10 ?_
  refine zrS0 (As := [.int (f u)]) (rest := []) ⟨hx, hb, hml, hown, hts⟩ (c_X0_size l (f u)) (va_cwS 1 hts gX0_degree_X0_size rfl rfl rfl (by decide +kernel) ⟨Nat.le_of_ble_eq_true rfl, Nat.le_of_ble_eq_true rfl⟩) rfl hl rfl (Nat.le_of_ble_eq_true rfl) dX0_degree_11 ⟨Nat.le_of_ble_eq_true rfl, Nat.le_of_ble_eq_true rfl⟩ hS (fun r11 H locs hw11 hk9 hS => ?_)
  obtain rfl : r11 = (nI (zpop (f u))) := hw11
  have hP := zkeep hP hk9
  exact W.iret (v := (nI (zpop (f u)))) hx hb hr (fun t9 ht9 hW9 => ⟨⟨(nI (zpop (f u))), (), rfl, rfl, trivial⟩, hS.F ht9⟩) hS.2.2 dX0_degree_14
set_option maxHeartbeats 4000000 in
set_option maxRecDepth 100000 in
theorem c_X0_areJoined_ok (l : Launch) (D : va_G) (cy : ClassId) (h a0 a1 a2 N : Nat) (ec cc : Int32) (f cs tr : Nat → Int32) (u v : Nat) (hN : N ≤ 20) (hu : u < N) (hv : v < N) : Met l yX0_areJoined wsX0_areJoined ({ frames := 7, cells := 0, slots := 0, locals := 103 } : Room) (va_Pc [.ref h, .int (nI u), .int (nI v)] (zRd D (wB h a0 a1 a2 cy N ec cc f cs tr) [(cy, .int)])) (zPo (fun r => r = zb (bt (f u) v))) 0 0 zNo := by
  refine Met.ofW (cc := cX0_areJoined) (maxL := 3) (ret := (some .boolean)) (by decide) rfl ?_
  intro p e s m args below meth c s₁ B hml hv
  obtain ⟨rfl, hP, hK⟩ := hv
  have hx := B.exec
  have hb := B.bytes
  have hr := B.returns
  have hts := atoms_spec (ws := wsX0_areJoined) B.pre
  have hown : s.vm.findClass RX0 = some m.cls := findClass_of_methodNamed B.named
  have hlocks := B.notSynchronized
  have hS : va_S (fun _ => False) s.heap s.heap [] := va_S.rf
  have hin : ∀ w ∈ wsX00, w ∈ wsX0_areJoined := by decide +kernel
  have hf9 := hts (.fieldLink RX0 9 "Corebarn" "neighbours" "[I") (by decide +kernel)
  have hl := lv_entry ([.ref h, .int (nI u), .int (nI v)]) (n := 3) (Nat.le_of_ble_eq_true rfl)
  rw [lg_entry_eq]
  generalize (lg_sl ([.ref h, .int (nI u), .int (nI v)]) ++ List.replicate (3 - (lg_sl ([.ref h, .int (nI u), .int (nI v)])).length) Slot.unset).toArray = ls at hl ⊢
  have hl : lv_has ls 3 [(0, .ref h), (1, .int (nI u)), (2, .int (nI v))] := hl
  refine lv_aload_n hx hb dX0_areJoined_0 rfl (lv_at hl 0 rfl) ?_
  refine lv_iload_n hx hb dX0_areJoined_1 rfl (lv_at hl 1 rfl) ?_
  refine zrVv (As := [.int (nI u)]) (rest := []) 0 ⟨hx, hb, hml, hown, hts⟩ (c_X0_checkNode_ok l D cy h a0 a1 a2 N ec cc f cs tr u hN hu) (cwV 1 hts gX0_areJoined_X0_checkNode rfl rfl rfl (by decide +kernel) ⟨Nat.le_of_ble_eq_true rfl, Nat.le_of_ble_eq_true rfl⟩) hK hP rfl rfl rfl hl rfl (Nat.le_of_ble_eq_true rfl) dX0_areJoined_2 ⟨Nat.le_of_ble_eq_true rfl, Nat.le_of_ble_eq_true rfl⟩ hS (fun H locs hw2 hk9 hS => ?_)
  have hP := zkeep hP hk9
  refine lv_aload_n hx hb dX0_areJoined_5 rfl (lv_at hl 0 rfl) ?_
  refine lv_iload_n hx hb dX0_areJoined_6 rfl (lv_at hl 2 rfl) ?_
  refine zrVv (As := [.int (nI v)]) (rest := []) 0 ⟨hx, hb, hml, hown, hts⟩ (c_X0_checkNode_ok l D cy h a0 a1 a2 N ec cc f cs tr v hN hv) (cwV 1 hts gX0_areJoined_X0_checkNode rfl rfl rfl (by decide +kernel) ⟨Nat.le_of_ble_eq_true rfl, Nat.le_of_ble_eq_true rfl⟩) hK hP rfl rfl rfl hl rfl (Nat.le_of_ble_eq_true rfl) dX0_areJoined_7 ⟨Nat.le_of_ble_eq_true rfl, Nat.le_of_ble_eq_true rfl⟩ hS (fun H locs hw7 hk9 hS => ?_)
  have hP := zkeep hP hk9
  refine lv_aload_n hx hb dX0_areJoined_10 rfl (lv_at hl 0 rfl) ?_
  refine va_get (D := D) (ci := 0) (v := .ref a0) (C := RX0) (T := TX0) (N := 6) hx hb hts hin hown hK hP 0 rfl rfl 0 (by decide) hf9 (fun _ h9 => h9) rfl dX0_areJoined_11 ?_
  refine lv_iload_n hx hb dX0_areJoined_14 rfl (lv_at hl 1 rfl) ?_
  refine z_iald hx hb hK hP 1 0 rfl rfl (by omega) (by decide) dX0_areJoined_15 ?_
  refine lv_iload_n hx hb dX0_areJoined_16 rfl (lv_at hl 2 rfl) ?_
  refine zrS0 (As := [.int (f u), .int (nI v)]) (rest := []) ⟨hx, hb, hml, hown, hts⟩ (c_X0_contains l (f u) v (by omega)) (va_cwS 2 hts gX0_areJoined_X0_contains rfl rfl rfl (by decide +kernel) ⟨Nat.le_of_ble_eq_true rfl, Nat.le_of_ble_eq_true rfl⟩) rfl hl rfl (Nat.le_of_ble_eq_true rfl) dX0_areJoined_17 ⟨Nat.le_of_ble_eq_true rfl, Nat.le_of_ble_eq_true rfl⟩ hS (fun r17 H locs hw17 hk9 hS => ?_)
  obtain rfl : r17 = (zb (bt (f u) v)) := hw17
  have hP := zkeep hP hk9
  exact W.zret (v := (zb (bt (f u) v))) (ty := .boolean) hx hb hr (zb_nar _) (fun t9 ht9 hW9 => ⟨⟨(zb (bt (f u) v)), (), rfl, rfl, trivial⟩, hS.F ht9⟩) hS.2.2 dX0_areJoined_20
set_option maxHeartbeats 4000000 in
set_option maxRecDepth 100000 in
theorem c_X0_core_ok (l : Launch) (D : va_G) (cy : ClassId) (h a0 a1 a2 N : Nat) (ec cc : Int32) (f cs tr : Nat → Int32) (u : Nat) (c0 : Nat → Nat) (hN : N ≤ 20) (hu : u < N) (hcs : csI cs c0 N) : Met l yX0_core wsX0_core ({ frames := 7, cells := 0, slots := 0, locals := 103 } : Room) (va_Pc [.ref h, .int (nI u)] (zRd D (wB h a0 a1 a2 cy N ec cc f cs tr) [(cy, .int)])) (zPo (fun r => r = nI (c0 u))) 0 0 zNo := by
  refine Met.ofW (cc := cX0_core) (maxL := 2) (ret := (some .int)) (by decide) rfl ?_
  intro p e s m args below meth c s₁ B hml hv
  obtain ⟨rfl, hP, hK⟩ := hv
  have hx := B.exec
  have hb := B.bytes
  have hr := B.returns
  have hts := atoms_spec (ws := wsX0_core) B.pre
  have hown : s.vm.findClass RX0 = some m.cls := findClass_of_methodNamed B.named
  have hlocks := B.notSynchronized
  have hS : va_S (fun _ => False) s.heap s.heap [] := va_S.rf
  have hin : ∀ w ∈ wsX00, w ∈ wsX0_core := by decide +kernel
  have hf13 := hts (.fieldLink RX0 13 "Corebarn" "cores" "[I") (by decide +kernel)
  have hl := lv_entry ([.ref h, .int (nI u)]) (n := 2) (Nat.le_of_ble_eq_true rfl)
  rw [lg_entry_eq]
  generalize (lg_sl ([.ref h, .int (nI u)]) ++ List.replicate (2 - (lg_sl ([.ref h, .int (nI u)])).length) Slot.unset).toArray = ls at hl ⊢
  have hl : lv_has ls 2 [(0, .ref h), (1, .int (nI u))] := hl
  refine lv_aload_n hx hb dX0_core_0 rfl (lv_at hl 0 rfl) ?_
  refine lv_iload_n hx hb dX0_core_1 rfl (lv_at hl 1 rfl) ?_
  refine zrVv (As := [.int (nI u)]) (rest := []) 0 ⟨hx, hb, hml, hown, hts⟩ (c_X0_checkNode_ok l D cy h a0 a1 a2 N ec cc f cs tr u hN hu) (cwV 1 hts gX0_core_X0_checkNode rfl rfl rfl (by decide +kernel) ⟨Nat.le_of_ble_eq_true rfl, Nat.le_of_ble_eq_true rfl⟩) hK hP rfl rfl rfl hl rfl (Nat.le_of_ble_eq_true rfl) dX0_core_2 ⟨Nat.le_of_ble_eq_true rfl, Nat.le_of_ble_eq_true rfl⟩ hS (fun H locs hw2 hk9 hS => ?_)
  have hP := zkeep hP hk9
  refine lv_aload_n hx hb dX0_core_5 rfl (lv_at hl 0 rfl) ?_
  refine va_get (D := D) (ci := 0) (v := .ref a1) (C := RX0) (T := TX0) (N := 6) hx hb hts hin hown hK hP 0 rfl rfl 1 (by decide) hf13 (fun _ h9 => h9) rfl dX0_core_6 ?_
  refine lv_iload_n hx hb dX0_core_9 rfl (lv_at hl 1 rfl) ?_
  refine z_iald hx hb hK hP 2 0 rfl rfl (by omega) (by decide) dX0_core_10 ?_
  rw [(hcs u hu).1]
  exact W.iret (v := (nI (c0 u))) hx hb hr (fun t9 ht9 hW9 => ⟨⟨(nI (c0 u)), (), rfl, rfl, trivial⟩, hS.F ht9⟩) hS.2.2 dX0_core_11
set_option maxHeartbeats 4000000 in
set_option maxRecDepth 100000 in
theorem c_X0_coreSize_ok (l : Launch) (D : va_G) (cy : ClassId) (h a0 a1 a2 N : Nat) (ec cc : Int32) (f cs tr : Nat → Int32) (k : Int32) (c0 : Nat → Nat) (hN : N ≤ 20) (hk : ¬ k < 0) (hcs : csI cs c0 N) : Met l yX0_coreSize wsX0_coreSize ({ frames := 7, cells := 0, slots := 0, locals := 102 } : Room) (va_Pc [.ref h, .int k] (zRd D (wB h a0 a1 a2 cy N ec cc f cs tr) [(cy, .int)])) (zPo (fun r => r = nI (zpop (cst c0 N k.toInt)))) 0 0 zNo := by
  refine Met.ofW (cc := cX0_coreSize) (maxL := 2) (ret := (some .int)) (by decide) rfl ?_
  intro p e s m args below meth c s₁ B hml hv
  obtain ⟨rfl, hP, hK⟩ := hv
  have hx := B.exec
  have hb := B.bytes
  have hr := B.returns
  have hts := atoms_spec (ws := wsX0_coreSize) B.pre
  have hown : s.vm.findClass RX0 = some m.cls := findClass_of_methodNamed B.named
  have hlocks := B.notSynchronized
  have hS : va_S (fun _ => False) s.heap s.heap [] := va_S.rf
  have hl := lv_entry ([.ref h, .int k]) (n := 2) (Nat.le_of_ble_eq_true rfl)
  rw [lg_entry_eq]
  generalize (lg_sl ([.ref h, .int k]) ++ List.replicate (2 - (lg_sl ([.ref h, .int k])).length) Slot.unset).toArray = ls at hl ⊢
  have hl : lv_has ls 2 [(0, .ref h), (1, .int k)] := hl
  refine lv_iload_n hx hb dX0_coreSize_0 rfl (lv_at hl 1 rfl) ?_
  refine zrS0v (As := [.int k]) (rest := []) ⟨hx, hb, hml, hown, hts⟩ (c_X0_checkLevel_ok l k hk) (va_cwS 1 hts gX0_coreSize_X0_checkLevel rfl rfl rfl (by decide +kernel) ⟨Nat.le_of_ble_eq_true rfl, Nat.le_of_ble_eq_true rfl⟩) rfl hl rfl (Nat.le_of_ble_eq_true rfl) dX0_coreSize_1 ⟨Nat.le_of_ble_eq_true rfl, Nat.le_of_ble_eq_true rfl⟩ hS (fun H locs hw1 hk9 hS => ?_)
  have hP := zkeep hP hk9
  refine lv_aload_n hx hb dX0_coreSize_4 rfl (lv_at hl 0 rfl) ?_
  refine lv_iload_n hx hb dX0_coreSize_5 rfl (lv_at hl 1 rfl) ?_
  refine zrV (As := [.int k]) (rest := []) 0 ⟨hx, hb, hml, hown, hts⟩ (c_X0_coreSet l D cy h a0 a1 a2 N ec cc f cs tr k hN) (cwV 1 hts gX0_coreSize_X0_coreSet rfl rfl rfl (by decide +kernel) ⟨Nat.le_of_ble_eq_true rfl, Nat.le_of_ble_eq_true rfl⟩) hK hP rfl rfl rfl hl rfl (Nat.le_of_ble_eq_true rfl) dX0_coreSize_6 ⟨Nat.le_of_ble_eq_true rfl, Nat.le_of_ble_eq_true rfl⟩ hS (fun r6 H locs hw6 hk9 hS => ?_)
  obtain rfl : r6 = (zmk (fun i => decide (k ≤ cs i)) N) := hw6
  have hP := zkeep hP hk9
  rw [cst_ofk hN hcs k]
  refine zrS0 (As := [.int (cst c0 N k.toInt)]) (rest := []) ⟨hx, hb, hml, hown, hts⟩ (c_X0_size l (cst c0 N k.toInt)) (va_cwS 1 hts gX0_coreSize_X0_size rfl rfl rfl (by decide +kernel) ⟨Nat.le_of_ble_eq_true rfl, Nat.le_of_ble_eq_true rfl⟩) rfl hl rfl (Nat.le_of_ble_eq_true rfl) dX0_coreSize_9 ⟨Nat.le_of_ble_eq_true rfl, Nat.le_of_ble_eq_true rfl⟩ hS (fun r9 H locs hw9 hk9 hS => ?_)
  obtain rfl : r9 = (nI (zpop (cst c0 N k.toInt))) := hw9
  have hP := zkeep hP hk9
  exact W.iret (v := (nI (zpop (cst c0 N k.toInt)))) hx hb hr (fun t9 ht9 hW9 => ⟨⟨(nI (zpop (cst c0 N k.toInt))), (), rfl, rfl, trivial⟩, hS.F ht9⟩) hS.2.2 dX0_coreSize_12
set_option maxHeartbeats 4000000 in
set_option maxRecDepth 100000 in
theorem c_X0_community_ok (l : Launch) (D : va_G) (cy : ClassId) (h a0 a1 a2 N : Nat) (ec cc : Int32) (f cs tr : Nat → Int32) (u : Nat) (k : Int32) (c0 : Nat → Nat) (hN : N ≤ 20) (hu : u < N) (hk : ¬ k < 0) (hcs : csI cs c0 N) : Met l yX0_community wsX0_community ({ frames := 7, cells := 0, slots := 0, locals := 103 } : Room) (va_Pc [.ref h, .int (nI u), .int k] (zRd D (wB h a0 a1 a2 cy N ec cc f cs tr) [(cy, .int)])) (zPo (fun r => r = nI (zpop (cmp f (cst c0 N k.toInt) u)))) 0 0 zNo := by
  refine Met.ofW (cc := cX0_community) (maxL := 3) (ret := (some .int)) (by decide) rfl ?_
  intro p e s m args below meth c s₁ B hml hv
  obtain ⟨rfl, hP, hK⟩ := hv
  have hx := B.exec
  have hb := B.bytes
  have hr := B.returns
  have hts := atoms_spec (ws := wsX0_community) B.pre
  have hown : s.vm.findClass RX0 = some m.cls := findClass_of_methodNamed B.named
  have hlocks := B.notSynchronized
  have hS : va_S (fun _ => False) s.heap s.heap [] := va_S.rf
  have hl := lv_entry ([.ref h, .int (nI u), .int k]) (n := 3) (Nat.le_of_ble_eq_true rfl)
  rw [lg_entry_eq]
  generalize (lg_sl ([.ref h, .int (nI u), .int k]) ++ List.replicate (3 - (lg_sl ([.ref h, .int (nI u), .int k])).length) Slot.unset).toArray = ls at hl ⊢
  have hl : lv_has ls 3 [(0, .ref h), (1, .int (nI u)), (2, .int k)] := hl
  refine lv_aload_n hx hb dX0_community_0 rfl (lv_at hl 0 rfl) ?_
  refine lv_iload_n hx hb dX0_community_1 rfl (lv_at hl 1 rfl) ?_
  refine zrVv (As := [.int (nI u)]) (rest := []) 0 ⟨hx, hb, hml, hown, hts⟩ (c_X0_checkNode_ok l D cy h a0 a1 a2 N ec cc f cs tr u hN hu) (cwV 1 hts gX0_community_X0_checkNode rfl rfl rfl (by decide +kernel) ⟨Nat.le_of_ble_eq_true rfl, Nat.le_of_ble_eq_true rfl⟩) hK hP rfl rfl rfl hl rfl (Nat.le_of_ble_eq_true rfl) dX0_community_2 ⟨Nat.le_of_ble_eq_true rfl, Nat.le_of_ble_eq_true rfl⟩ hS (fun H locs hw2 hk9 hS => ?_)
  have hP := zkeep hP hk9
  refine lv_iload_n hx hb dX0_community_5 rfl (lv_at hl 2 rfl) ?_
  refine zrS0v (As := [.int k]) (rest := []) ⟨hx, hb, hml, hown, hts⟩ (c_X0_checkLevel_ok l k hk) (va_cwS 1 hts gX0_community_X0_checkLevel rfl rfl rfl (by decide +kernel) ⟨Nat.le_of_ble_eq_true rfl, Nat.le_of_ble_eq_true rfl⟩) rfl hl rfl (Nat.le_of_ble_eq_true rfl) dX0_community_6 ⟨Nat.le_of_ble_eq_true rfl, Nat.le_of_ble_eq_true rfl⟩ hS (fun H locs hw6 hk9 hS => ?_)
  have hP := zkeep hP hk9
  refine lv_aload_n hx hb dX0_community_9 rfl (lv_at hl 0 rfl) ?_
  refine lv_iload_n hx hb dX0_community_10 rfl (lv_at hl 1 rfl) ?_
  refine zrS0 (As := [.int (nI u)]) (rest := [.ref h]) ⟨hx, hb, hml, hown, hts⟩ (c_X0_single l u) (va_cwS 1 hts gX0_community_X0_single rfl rfl rfl (by decide +kernel) ⟨Nat.le_of_ble_eq_true rfl, Nat.le_of_ble_eq_true rfl⟩) rfl hl rfl (Nat.le_of_ble_eq_true rfl) dX0_community_11 ⟨Nat.le_of_ble_eq_true rfl, Nat.le_of_ble_eq_true rfl⟩ hS (fun r11 H locs hw11 hk9 hS => ?_)
  obtain rfl : r11 = zsg u := hw11
  have hP := zkeep hP hk9
  refine lv_aload_n hx hb dX0_community_14 rfl (lv_at hl 0 rfl) ?_
  refine lv_iload_n hx hb dX0_community_15 rfl (lv_at hl 2 rfl) ?_
  refine zrV (As := [.int k]) (rest := [.int (zsg u), .ref h]) 0 ⟨hx, hb, hml, hown, hts⟩ (c_X0_coreSet l D cy h a0 a1 a2 N ec cc f cs tr k hN) (cwV 1 hts gX0_community_X0_coreSet rfl rfl rfl (by decide +kernel) ⟨Nat.le_of_ble_eq_true rfl, Nat.le_of_ble_eq_true rfl⟩) hK hP rfl rfl rfl hl rfl (Nat.le_of_ble_eq_true rfl) dX0_community_16 ⟨Nat.le_of_ble_eq_true rfl, Nat.le_of_ble_eq_true rfl⟩ hS (fun r16 H locs hw16 hk9 hS => ?_)
  obtain rfl : r16 = (zmk (fun i => decide (k ≤ cs i)) N) := hw16
  have hP := zkeep hP hk9
  rw [cst_ofk hN hcs k]
  refine zrV (As := [.int (zsg u), .int (cst c0 N k.toInt)]) (rest := []) 0 ⟨hx, hb, hml, hown, hts⟩ (c_X0_reach l D cy h a0 a1 a2 N ec cc f cs tr (zsg u) (cst c0 N k.toInt) hN (cst_sub hN _)) (cwV 2 hts gX0_community_X0_reach rfl rfl rfl (by decide +kernel) ⟨Nat.le_of_ble_eq_true rfl, Nat.le_of_ble_eq_true rfl⟩) hK hP rfl rfl rfl hl rfl (Nat.le_of_ble_eq_true rfl) dX0_community_19 ⟨Nat.le_of_ble_eq_true rfl, Nat.le_of_ble_eq_true rfl⟩ hS (fun r19 H locs hw19 hk9 hS => ?_)
  have hw19 : rch f (zsg u) (cst c0 N k.toInt) r19 := hw19
  obtain rfl : r19 = cmp f (cst c0 N k.toInt) u := cmp_of hw19
  have hP := zkeep hP hk9
  refine zrS0 (As := [.int (cmp f (cst c0 N k.toInt) u)]) (rest := []) ⟨hx, hb, hml, hown, hts⟩ (c_X0_size l (cmp f (cst c0 N k.toInt) u)) (va_cwS 1 hts gX0_community_X0_size rfl rfl rfl (by decide +kernel) ⟨Nat.le_of_ble_eq_true rfl, Nat.le_of_ble_eq_true rfl⟩) rfl hl rfl (Nat.le_of_ble_eq_true rfl) dX0_community_22 ⟨Nat.le_of_ble_eq_true rfl, Nat.le_of_ble_eq_true rfl⟩ hS (fun r22 H locs hw22 hk9 hS => ?_)
  obtain rfl : r22 = (nI (zpop (cmp f (cst c0 N k.toInt) u))) := hw22
  have hP := zkeep hP hk9
  exact W.iret (v := (nI (zpop (cmp f (cst c0 N k.toInt) u)))) hx hb hr (fun t9 ht9 hW9 => ⟨⟨(nI (zpop (cmp f (cst c0 N k.toInt) u))), (), rfl, rfl, trivial⟩, hS.F ht9⟩) hS.2.2 dX0_community_25
set_option maxHeartbeats 4000000 in
set_option maxRecDepth 100000 in
theorem c_X0_communities_ok (l : Launch) (D : va_G) (cy : ClassId) (h a0 a1 a2 N : Nat) (ec cc : Int32) (f cs tr : Nat → Int32) (k : Int32) (c0 : Nat → Nat) (hN : N ≤ 20) (hg : gd f N) (hk : ¬ k < 0) (hcs : csI cs c0 N) : Met l yX0_communities wsX0_communities ({ frames := 7, cells := 0, slots := 0, locals := 102 } : Room) (va_Pc [.ref h, .int k] (zRd D (wB h a0 a1 a2 cy N ec cc f cs tr) [(cy, .int)])) (zPo (fun r => r = nI (ccn f N (cst c0 N k.toInt) (cst c0 N k.toInt)))) 0 0 zNo := by
  refine Met.ofW (cc := cX0_communities) (maxL := 2) (ret := (some .int)) (by decide) rfl ?_
  intro p e s m args below meth c s₁ B hml hv
  obtain ⟨rfl, hP, hK⟩ := hv
  have hx := B.exec
  have hb := B.bytes
  have hr := B.returns
  have hts := atoms_spec (ws := wsX0_communities) B.pre
  have hown : s.vm.findClass RX0 = some m.cls := findClass_of_methodNamed B.named
  have hlocks := B.notSynchronized
  have hS : va_S (fun _ => False) s.heap s.heap [] := va_S.rf
  have hl := lv_entry ([.ref h, .int k]) (n := 2) (Nat.le_of_ble_eq_true rfl)
  rw [lg_entry_eq]
  generalize (lg_sl ([.ref h, .int k]) ++ List.replicate (2 - (lg_sl ([.ref h, .int k])).length) Slot.unset).toArray = ls at hl ⊢
  have hl : lv_has ls 2 [(0, .ref h), (1, .int k)] := hl
  refine lv_iload_n hx hb dX0_communities_0 rfl (lv_at hl 1 rfl) ?_
  refine zrS0v (As := [.int k]) (rest := []) ⟨hx, hb, hml, hown, hts⟩ (c_X0_checkLevel_ok l k hk) (va_cwS 1 hts gX0_communities_X0_checkLevel rfl rfl rfl (by decide +kernel) ⟨Nat.le_of_ble_eq_true rfl, Nat.le_of_ble_eq_true rfl⟩) rfl hl rfl (Nat.le_of_ble_eq_true rfl) dX0_communities_1 ⟨Nat.le_of_ble_eq_true rfl, Nat.le_of_ble_eq_true rfl⟩ hS (fun H locs hw1 hk9 hS => ?_)
  have hP := zkeep hP hk9
  refine lv_aload_n hx hb dX0_communities_4 rfl (lv_at hl 0 rfl) ?_
  refine lv_aload_n hx hb dX0_communities_5 rfl (lv_at hl 0 rfl) ?_
  refine lv_iload_n hx hb dX0_communities_6 rfl (lv_at hl 1 rfl) ?_
  refine zrV (As := [.int k]) (rest := [.ref h]) 0 ⟨hx, hb, hml, hown, hts⟩ (c_X0_coreSet l D cy h a0 a1 a2 N ec cc f cs tr k hN) (cwV 1 hts gX0_communities_X0_coreSet rfl rfl rfl (by decide +kernel) ⟨Nat.le_of_ble_eq_true rfl, Nat.le_of_ble_eq_true rfl⟩) hK hP rfl rfl rfl hl rfl (Nat.le_of_ble_eq_true rfl) dX0_communities_7 ⟨Nat.le_of_ble_eq_true rfl, Nat.le_of_ble_eq_true rfl⟩ hS (fun r7 H locs hw7 hk9 hS => ?_)
  obtain rfl : r7 = (zmk (fun i => decide (k ≤ cs i)) N) := hw7
  have hP := zkeep hP hk9
  rw [cst_ofk hN hcs k]
  refine lv_aload_n hx hb dX0_communities_10 rfl (lv_at hl 0 rfl) ?_
  refine lv_iload_n hx hb dX0_communities_11 rfl (lv_at hl 1 rfl) ?_
  refine zrV (As := [.int k]) (rest := [.int (cst c0 N k.toInt), .ref h]) 0 ⟨hx, hb, hml, hown, hts⟩ (c_X0_coreSet l D cy h a0 a1 a2 N ec cc f cs tr k hN) (cwV 1 hts gX0_communities_X0_coreSet rfl rfl rfl (by decide +kernel) ⟨Nat.le_of_ble_eq_true rfl, Nat.le_of_ble_eq_true rfl⟩) hK hP rfl rfl rfl hl rfl (Nat.le_of_ble_eq_true rfl) dX0_communities_12 ⟨Nat.le_of_ble_eq_true rfl, Nat.le_of_ble_eq_true rfl⟩ hS (fun r12 H locs hw12 hk9 hS => ?_)
  obtain rfl : r12 = (zmk (fun i => decide (k ≤ cs i)) N) := hw12
  have hP := zkeep hP hk9
  rw [cst_ofk hN hcs k]
  refine zrV (As := [.int (cst c0 N k.toInt), .int (cst c0 N k.toInt)]) (rest := []) 0 ⟨hx, hb, hml, hown, hts⟩ (c_X0_countCommunities l D cy h a0 a1 a2 N ec cc f cs tr (cst c0 N k.toInt) (cst c0 N k.toInt) hN hg (cst_sub hN _) (le_rf _)) (cwV 2 hts gX0_communities_X0_countCommunities rfl rfl rfl (by decide +kernel) ⟨Nat.le_of_ble_eq_true rfl, Nat.le_of_ble_eq_true rfl⟩) hK hP rfl rfl rfl hl rfl (Nat.le_of_ble_eq_true rfl) dX0_communities_15 ⟨Nat.le_of_ble_eq_true rfl, Nat.le_of_ble_eq_true rfl⟩ hS (fun r15 H locs hw15 hk9 hS => ?_)
  obtain rfl : r15 = (nI (ccn f N (cst c0 N k.toInt) (cst c0 N k.toInt))) := hw15
  have hP := zkeep hP hk9
  exact W.iret (v := (nI (ccn f N (cst c0 N k.toInt) (cst c0 N k.toInt)))) hx hb hr (fun t9 ht9 hW9 => ⟨⟨(nI (ccn f N (cst c0 N k.toInt) (cst c0 N k.toInt))), (), rfl, rfl, trivial⟩, hS.F ht9⟩) hS.2.2 dX0_communities_18
set_option maxHeartbeats 4000000 in
set_option maxRecDepth 100000 in
theorem c_X0_together_ok (l : Launch) (D : va_G) (cy : ClassId) (h a0 a1 a2 N : Nat) (ec cc : Int32) (f cs tr : Nat → Int32) (u v t0 : Nat) (c0 : Nat → Nat) (hN : N ≤ 20) (hu : u < N) (hv : v < N) (hcs : csI cs c0 N) (ht0 : tgk f c0 N u v 20 = t0 + 1) : Met l yX0_together wsX0_together ({ frames := 7, cells := 0, slots := 0, locals := 103 } : Room) (va_Pc [.ref h, .int (nI u), .int (nI v)] (zRd D (wB h a0 a1 a2 cy N ec cc f cs tr) [(cy, .int)])) (zPo (fun r => r = nI t0)) 0 0 zNo := by
  refine Met.ofW (cc := cX0_together) (maxL := 4) (ret := (some .int)) (by decide) rfl ?_
  intro p e s m args below meth c s₁ B hml hv
  obtain ⟨rfl, hP, hK⟩ := hv
  have hx := B.exec
  have hb := B.bytes
  have hr := B.returns
  have hts := atoms_spec (ws := wsX0_together) B.pre
  have hown : s.vm.findClass RX0 = some m.cls := findClass_of_methodNamed B.named
  have hlocks := B.notSynchronized
  have hS : va_S (fun _ => False) s.heap s.heap [] := va_S.rf
  have hin : ∀ w ∈ wsX00, w ∈ wsX0_together := by decide +kernel
  have hf13 := hts (.fieldLink RX0 13 "Corebarn" "cores" "[I") (by decide +kernel)
  have hcu := (hcs u hu).2
  have hcv := (hcs v hv).2
  have hl := lv_entry ([.ref h, .int (nI u), .int (nI v)]) (n := 4) (Nat.le_of_ble_eq_true rfl)
  rw [lg_entry_eq]
  generalize (lg_sl ([.ref h, .int (nI u), .int (nI v)]) ++ List.replicate (4 - (lg_sl ([.ref h, .int (nI u), .int (nI v)])).length) Slot.unset).toArray = ls at hl ⊢
  have hl : lv_has ls 4 [(0, .ref h), (1, .int (nI u)), (2, .int (nI v))] := hl
  refine lv_aload_n hx hb dX0_together_0 rfl (lv_at hl 0 rfl) ?_
  refine lv_iload_n hx hb dX0_together_1 rfl (lv_at hl 1 rfl) ?_
  refine zrVv (As := [.int (nI u)]) (rest := []) 0 ⟨hx, hb, hml, hown, hts⟩ (c_X0_checkNode_ok l D cy h a0 a1 a2 N ec cc f cs tr u hN hu) (cwV 1 hts gX0_together_X0_checkNode rfl rfl rfl (by decide +kernel) ⟨Nat.le_of_ble_eq_true rfl, Nat.le_of_ble_eq_true rfl⟩) hK hP rfl rfl rfl hl rfl (Nat.le_of_ble_eq_true rfl) dX0_together_2 ⟨Nat.le_of_ble_eq_true rfl, Nat.le_of_ble_eq_true rfl⟩ hS (fun H locs hw2 hk9 hS => ?_)
  have hP := zkeep hP hk9
  refine lv_aload_n hx hb dX0_together_5 rfl (lv_at hl 0 rfl) ?_
  refine lv_iload_n hx hb dX0_together_6 rfl (lv_at hl 2 rfl) ?_
  refine zrVv (As := [.int (nI v)]) (rest := []) 0 ⟨hx, hb, hml, hown, hts⟩ (c_X0_checkNode_ok l D cy h a0 a1 a2 N ec cc f cs tr v hN hv) (cwV 1 hts gX0_together_X0_checkNode rfl rfl rfl (by decide +kernel) ⟨Nat.le_of_ble_eq_true rfl, Nat.le_of_ble_eq_true rfl⟩) hK hP rfl rfl rfl hl rfl (Nat.le_of_ble_eq_true rfl) dX0_together_7 ⟨Nat.le_of_ble_eq_true rfl, Nat.le_of_ble_eq_true rfl⟩ hS (fun H locs hw7 hk9 hS => ?_)
  have hP := zkeep hP hk9
  refine lv_aload_n hx hb dX0_together_10 rfl (lv_at hl 0 rfl) ?_
  refine va_get (D := D) (ci := 0) (v := .ref a1) (C := RX0) (T := TX0) (N := 6) hx hb hts hin hown hK hP 0 rfl rfl 1 (by decide) hf13 (fun _ h9 => h9) rfl dX0_together_11 ?_
  refine lv_iload_n hx hb dX0_together_14 rfl (lv_at hl 1 rfl) ?_
  refine z_iald hx hb hK hP 2 0 rfl rfl (by omega) (by decide) dX0_together_15 ?_
  rw [(hcs u hu).1]
  refine lv_aload_n hx hb dX0_together_16 rfl (lv_at hl 0 rfl) ?_
  refine va_get (D := D) (ci := 0) (v := .ref a1) (C := RX0) (T := TX0) (N := 6) hx hb hts hin hown hK hP 0 rfl rfl 1 (by decide) hf13 (fun _ h9 => h9) rfl dX0_together_17 ?_
  refine lv_iload_n hx hb dX0_together_20 rfl (lv_at hl 2 rfl) ?_
  refine z_iald hx hb hK hP 2 0 rfl rfl (by omega) (by decide) dX0_together_21 ?_
  rw [(hcs v hv).1]
  refine va_mmin hx hb (by rw [hml]; exact hl.1.symm) hown (hts (.methodLink RX0 92 Lib.Math.min.name) (by decide +kernel)) (hts (.static Lib.Math.min.name) (by decide +kernel)) (hts (.initialized "java/lang/Math") (by decide +kernel)) (hts (.code Lib.Math.min.name Lib.Math.min.code 2 (some .int)) (by decide +kernel)) (Nat.le_of_ble_eq_true rfl) (Nat.le_of_ble_eq_true rfl) (Nat.le_of_ble_eq_true rfl) (Nat.le_of_ble_eq_true rfl) dX0_together_22 ?_
  rw [z_min (a := c0 u) (b := c0 v) (by omega) (by omega)]
  refine lv_istore_n (lv' := [(3, .int (nI (min (c0 u) (c0 v)))), (0, .ref h), (1, .int (nI u)), (2, .int (nI v))]) hx hb dX0_together_25 rfl hl (by decide) rfl (fun ls hl => ?_)
  have K26 : ∀ (fu26 : Nat) (t1 : Nat) (x : Int32) (H : Heap) (locs : List Loc) (ls : Array Slot), (t1 ≤ 20) → (x = tgi t1) → (∀ j : Nat, t1 ≤ j → j < 20 → bt (cmp f (cst c0 N (j : Int)) u) v = false) → t1 < fu26 → va_P D vwCl (wB h a0 a1 a2 cy N ec cc f cs tr) H → va_S (fun _ => False) s.heap H locs → lv_has ls 4 [(3, .int x), (0, .ref h), (1, .int (nI u)), (2, .int (nI v))] → W p l e (headSpec wsX0_together ({ frames := 7, cells := 0, slots := 0, locals := 103 } : Room)).room s m ([.ref h, .int (nI u), .int (nI v)] : List Value).toArray below meth c H locs 0 0 (MQ below (zPo (fun r => r = nI t0)) ([.ref h, .int (nI u), .int (nI v)] : List Value).toArray s 0 0 zNo) (F0 m 26 ls []) := by
    intro fu26
    induction fu26 with
    | zero =>
      intro t1 x H locs ls ht1 hxe hno hfu26
      exact absurd hfu26 (Nat.not_lt_zero _)
    | succ fu26 ih26 =>
      intro t1 x H locs ls ht1 hxe hno hfu26 hP hS hl
      refine lv_iload_n hx hb dX0_together_26 rfl (lv_at hl 0 rfl) ?_
      refine lv_if_lt (tgt := 58) hx hb dX0_together_27 (by decide) (fun h27 => ?_) (fun h27 => ?_)
      · exact absurd ht0 (by rw [tgk_zero 20 (fun j hj => hno j (by rw [tgi_lt (by omega) hxe h27]; exact Nat.zero_le j) hj)]; omega)
      · obtain ⟨m9, rfl, hm9⟩ := tgi_ge (by omega) hxe h27
        refine lv_aload_n hx hb dX0_together_30 rfl (lv_at hl 1 rfl) ?_
        refine lv_iload_n hx hb dX0_together_31 rfl (lv_at hl 2 rfl) ?_
        refine zrS0 (As := [.int (nI u)]) (rest := [.ref h]) ⟨hx, hb, hml, hown, hts⟩ (c_X0_single l u) (va_cwS 1 hts gX0_together_X0_single rfl rfl rfl (by decide +kernel) ⟨Nat.le_of_ble_eq_true rfl, Nat.le_of_ble_eq_true rfl⟩) rfl hl rfl (Nat.le_of_ble_eq_true rfl) dX0_together_32 ⟨Nat.le_of_ble_eq_true rfl, Nat.le_of_ble_eq_true rfl⟩ hS (fun r32 H locs hw32 hk9 hS => ?_)
        obtain rfl : r32 = zsg u := hw32
        have hP := zkeep hP hk9
        refine lv_aload_n hx hb dX0_together_35 rfl (lv_at hl 1 rfl) ?_
        refine lv_iload_n hx hb dX0_together_36 rfl (lv_at hl 0 rfl) ?_
        refine zrV (As := [.int (nI m9)]) (rest := [.int (zsg u), .ref h]) 0 ⟨hx, hb, hml, hown, hts⟩ (c_X0_coreSet l D cy h a0 a1 a2 N ec cc f cs tr (nI m9) hN) (cwV 1 hts gX0_together_X0_coreSet rfl rfl rfl (by decide +kernel) ⟨Nat.le_of_ble_eq_true rfl, Nat.le_of_ble_eq_true rfl⟩) hK hP rfl rfl rfl hl rfl (Nat.le_of_ble_eq_true rfl) dX0_together_37 ⟨Nat.le_of_ble_eq_true rfl, Nat.le_of_ble_eq_true rfl⟩ hS (fun r37 H locs hw37 hk9 hS => ?_)
        obtain rfl : r37 = (zmk (fun i => decide ((nI m9) ≤ cs i)) N) := hw37
        have hP := zkeep hP hk9
        rw [cst_of hN hcs (k := m9) (by omega)]
        refine zrV (As := [.int (zsg u), .int (cst c0 N (m9 : Int))]) (rest := []) 0 ⟨hx, hb, hml, hown, hts⟩ (c_X0_reach l D cy h a0 a1 a2 N ec cc f cs tr (zsg u) (cst c0 N (m9 : Int)) hN (cst_sub hN _)) (cwV 2 hts gX0_together_X0_reach rfl rfl rfl (by decide +kernel) ⟨Nat.le_of_ble_eq_true rfl, Nat.le_of_ble_eq_true rfl⟩) hK hP rfl rfl rfl hl rfl (Nat.le_of_ble_eq_true rfl) dX0_together_40 ⟨Nat.le_of_ble_eq_true rfl, Nat.le_of_ble_eq_true rfl⟩ hS (fun r40 H locs hw40 hk9 hS => ?_)
        have hw40 : rch f (zsg u) (cst c0 N (m9 : Int)) r40 := hw40
        obtain rfl : r40 = cmp f (cst c0 N (m9 : Int)) u := cmp_of hw40
        have hP := zkeep hP hk9
        refine lv_iload_n hx hb dX0_together_43 rfl (lv_at hl 3 rfl) ?_
        refine zrS0 (As := [.int (cmp f (cst c0 N (m9 : Int)) u), .int (nI v)]) (rest := []) ⟨hx, hb, hml, hown, hts⟩ (c_X0_contains l (cmp f (cst c0 N (m9 : Int)) u) v (by omega)) (va_cwS 2 hts gX0_together_X0_contains rfl rfl rfl (by decide +kernel) ⟨Nat.le_of_ble_eq_true rfl, Nat.le_of_ble_eq_true rfl⟩) rfl hl rfl (Nat.le_of_ble_eq_true rfl) dX0_together_44 ⟨Nat.le_of_ble_eq_true rfl, Nat.le_of_ble_eq_true rfl⟩ hS (fun r44 H locs hw44 hk9 hS => ?_)
        obtain rfl : r44 = (zb (bt (cmp f (cst c0 N (m9 : Int)) u) v)) := hw44
        have hP := zkeep hP hk9
        refine z_ifb_eq (tgt := 52) hx hb dX0_together_47 (by decide) (fun h47 => ?_) (fun h47 => ?_)
        · refine lv_iinc (v := (tgi m9)) (lv' := [(3, .int (tgi m9)), (0, .ref h), (1, .int (nI u)), (2, .int (nI v))]) hx hb dX0_together_52 hl (k := 0) rfl (tgi_m m9) (by decide) rfl (fun ls hl => ?_)
          refine lv_goto (tgt := 26) hx hb dX0_together_55 (by decide) ?_
          exact ih26 m9 (tgi m9) _ _ _ (by omega) rfl (fun j h1 h2 => by by_cases e : j = m9; (rw [e]; exact h47); exact hno j (by omega) h2) (by omega) hP hS (lv_sub hl [0, 1, 2, 3] rfl)
        · refine lv_iload_n hx hb dX0_together_50 rfl (lv_at hl 0 rfl) ?_
          exact W.iret (v := (nI m9)) hx hb hr (fun t9 ht9 hW9 => ⟨⟨(nI m9), (), rfl, (by have z := tgk_top h47 20 (by omega) (fun j h1 h2 => hno j (by omega) h2); rw [ht0] at z; rw [show m9 = t0 by omega]), trivial⟩, hS.F ht9⟩) hS.2.2 dX0_together_51
  exact K26 ((min (c0 u) (c0 v) + 1) + 1) (min (c0 u) (c0 v) + 1) (nI (min (c0 u) (c0 v))) _ _ _ (by omega) (by unfold tgi; rw [if_neg (by omega), Nat.add_sub_cancel]) (fun j h1 h2 => cmp_hi hN hu (by omega)) (Nat.lt_succ_self _) hP hS (lv_sub hl [0, 1, 2, 3] rfl)
set_option maxHeartbeats 4000000 in
set_option maxRecDepth 100000 in
theorem c_X0_peeled_ok (l : Launch) (D : va_G) (cy : ClassId) (h a0 a1 a2 N : Nat) (ec cc : Int32) (f cs tr : Nat → Int32) (u : Nat) (hN : N ≤ 20) (hu : u < N) : Met l yX0_peeled wsX0_peeled ({ frames := 3, cells := 0, slots := 0, locals := 65 } : Room) (va_Pc [.ref h, .int (nI u)] (zRd D (wB h a0 a1 a2 cy N ec cc f cs tr) [(cy, .int)])) (zPo (fun r => r = nI (npk f (dsk f N u).1 N).1)) 0 0 zNo := by
  refine Met.ofW (cc := cX0_peeled) (maxL := 4) (ret := (some .int)) (by decide) rfl ?_
  intro p e s m args below meth c s₁ B hml hv
  obtain ⟨rfl, hP, hK⟩ := hv
  have hx := B.exec
  have hb := B.bytes
  have hr := B.returns
  have hts := atoms_spec (ws := wsX0_peeled) B.pre
  have hown : s.vm.findClass RX0 = some m.cls := findClass_of_methodNamed B.named
  have hlocks := B.notSynchronized
  have hS : va_S (fun _ => False) s.heap s.heap [] := va_S.rf
  have hin : ∀ w ∈ wsX00, w ∈ wsX0_peeled := by decide +kernel
  have hf19 := hts (.fieldLink RX0 19 "Corebarn" "nodeCount" "I") (by decide +kernel)
  have hl := lv_entry ([.ref h, .int (nI u)]) (n := 4) (Nat.le_of_ble_eq_true rfl)
  rw [lg_entry_eq]
  generalize (lg_sl ([.ref h, .int (nI u)]) ++ List.replicate (4 - (lg_sl ([.ref h, .int (nI u)])).length) Slot.unset).toArray = ls at hl ⊢
  have hl : lv_has ls 4 [(0, .ref h), (1, .int (nI u))] := hl
  refine lv_iload_n hx hb dX0_peeled_0 rfl (lv_at hl 1 rfl) ?_
  refine z_ifn_lt (tgt := 12) hx hb dX0_peeled_1 (by decide) (by omega) ?_
  refine lv_iload_n hx hb dX0_peeled_4 rfl (lv_at hl 1 rfl) ?_
  refine lv_aload_n hx hb dX0_peeled_5 rfl (lv_at hl 0 rfl) ?_
  refine va_get (D := D) (ci := 0) (v := .int (nI N)) (C := RX0) (T := TX0) (N := 6) hx hb hts hin hown hK hP 0 rfl rfl 3 (by decide) hf19 (fun _ h9 => h9) rfl dX0_peeled_6 ?_
  refine z_icmp_lt (tgt := 22) hx hb dX0_peeled_9 (by decide) (by omega) (by omega) (fun h9 => ?_) (fun h9 => ?_)
  · refine lv_aload_n hx hb dX0_peeled_22 rfl (lv_at hl 0 rfl) ?_
    refine zrV (As := []) (rest := []) 0 ⟨hx, hb, hml, hown, hts⟩ (c_X0_allNodes l D cy h a0 a1 a2 N ec cc f cs tr hN) (cwV 0 hts gX0_peeled_X0_allNodes rfl rfl rfl (by decide +kernel) ⟨Nat.le_of_ble_eq_true rfl, Nat.le_of_ble_eq_true rfl⟩) hK hP rfl rfl rfl hl rfl (Nat.le_of_ble_eq_true rfl) dX0_peeled_23 ⟨Nat.le_of_ble_eq_true rfl, Nat.le_of_ble_eq_true rfl⟩ hS (fun r23 H locs hw23 hk9 hS => ?_)
    obtain rfl : r23 = zal N := hw23
    have hP := zkeep hP hk9
    refine lv_istore_n (lv' := [(2, .int (zal N)), (0, .ref h), (1, .int (nI u))]) hx hb dX0_peeled_26 rfl hl (by decide) rfl (fun ls hl => ?_)
    refine lv_iconst (v := (nI 0)) hx hb dX0_peeled_27 (by decide) ?_
    refine lv_istore_n (lv' := [(3, .int (nI 0)), (2, .int (zal N)), (0, .ref h), (1, .int (nI u))]) hx hb dX0_peeled_28 rfl hl (by decide) rfl (fun ls hl => ?_)
    have K29 : ∀ (fu29 : Nat) (i : Nat) (x : Int32) (H : Heap) (locs : List Loc) (ls : Array Slot), (i ≤ u) → (x = (dsk f N i).1) → u - i < fu29 → va_P D vwCl (wB h a0 a1 a2 cy N ec cc f cs tr) H → va_S (fun _ => False) s.heap H locs → lv_has ls 4 [(3, .int (nI i)), (2, .int x), (0, .ref h), (1, .int (nI u))] → W p l e (headSpec wsX0_peeled ({ frames := 3, cells := 0, slots := 0, locals := 65 } : Room)).room s m ([.ref h, .int (nI u)] : List Value).toArray below meth c H locs 0 0 (MQ below (zPo (fun r => r = nI (npk f (dsk f N u).1 N).1)) ([.ref h, .int (nI u)] : List Value).toArray s 0 0 zNo) (F0 m 29 ls []) := by
      intro fu29
      induction fu29 with
      | zero =>
        intro i x H locs ls hi hxe hfu29
        exact absurd hfu29 (Nat.not_lt_zero _)
      | succ fu29 ih29 =>
        intro i x H locs ls hi hxe hfu29 hP hS hl
        refine lv_iload_n hx hb dX0_peeled_29 rfl (lv_at hl 0 rfl) ?_
        refine lv_iload_n hx hb dX0_peeled_30 rfl (lv_at hl 3 rfl) ?_
        refine z_icmp_ge (tgt := 50) hx hb dX0_peeled_31 (by decide) (by omega) (by omega) (fun h31 => ?_) (fun h31 => ?_)
        · refine lv_aload_n hx hb dX0_peeled_50 rfl (lv_at hl 2 rfl) ?_
          refine lv_iload_n hx hb dX0_peeled_51 rfl (lv_at hl 1 rfl) ?_
          refine zrV (As := [.int x]) (rest := []) 0 ⟨hx, hb, hml, hown, hts⟩ (c_X0_nextToPeel l D cy h a0 a1 a2 N ec cc f cs tr x hN) (cwV 1 hts gX0_peeled_X0_nextToPeel rfl rfl rfl (by decide +kernel) ⟨Nat.le_of_ble_eq_true rfl, Nat.le_of_ble_eq_true rfl⟩) hK hP rfl rfl rfl hl rfl (Nat.le_of_ble_eq_true rfl) dX0_peeled_52 ⟨Nat.le_of_ble_eq_true rfl, Nat.le_of_ble_eq_true rfl⟩ hS (fun r52 H locs hw52 hk9 hS => ?_)
          obtain rfl : r52 = (nI ((npk f x N).1)) := hw52
          have hP := zkeep hP hk9
          exact W.iret (v := (nI ((npk f x N).1))) hx hb hr (fun t9 ht9 hW9 => ⟨⟨(nI ((npk f x N).1)), (), rfl, (by rw [hxe, Nat.le_antisymm hi h31]), trivial⟩, hS.F ht9⟩) hS.2.2 dX0_peeled_55
        · refine lv_iload_n hx hb dX0_peeled_34 rfl (lv_at hl 1 rfl) ?_
          refine lv_aload_n hx hb dX0_peeled_35 rfl (lv_at hl 2 rfl) ?_
          refine lv_iload_n hx hb dX0_peeled_36 rfl (lv_at hl 1 rfl) ?_
          refine zrV (As := [.int x]) (rest := [.int x]) 0 ⟨hx, hb, hml, hown, hts⟩ (c_X0_nextToPeel l D cy h a0 a1 a2 N ec cc f cs tr x hN) (cwV 1 hts gX0_peeled_X0_nextToPeel rfl rfl rfl (by decide +kernel) ⟨Nat.le_of_ble_eq_true rfl, Nat.le_of_ble_eq_true rfl⟩) hK hP rfl rfl rfl hl rfl (Nat.le_of_ble_eq_true rfl) dX0_peeled_37 ⟨Nat.le_of_ble_eq_true rfl, Nat.le_of_ble_eq_true rfl⟩ hS (fun r37 H locs hw37 hk9 hS => ?_)
          obtain rfl : r37 = (nI ((npk f x N).1)) := hw37
          have hP := zkeep hP hk9
          refine zrS0 (As := [.int x, .int (nI ((npk f x N).1))]) (rest := []) ⟨hx, hb, hml, hown, hts⟩ (c_X0_without l x ((npk f x N).1)) (va_cwS 2 hts gX0_peeled_X0_without rfl rfl rfl (by decide +kernel) ⟨Nat.le_of_ble_eq_true rfl, Nat.le_of_ble_eq_true rfl⟩) rfl hl rfl (Nat.le_of_ble_eq_true rfl) dX0_peeled_40 ⟨Nat.le_of_ble_eq_true rfl, Nat.le_of_ble_eq_true rfl⟩ hS (fun r40 H locs hw40 hk9 hS => ?_)
          obtain rfl : r40 = (zdl x ((npk f x N).1)) := hw40
          have hP := zkeep hP hk9
          refine lv_istore_n (lv' := [(2, .int (zdl x ((npk f x N).1))), (3, .int (nI i)), (0, .ref h), (1, .int (nI u))]) hx hb dX0_peeled_43 rfl hl (by decide) rfl (fun ls hl => ?_)
          refine lv_iinc (v := (nI (i + 1))) (lv' := [(3, .int (nI (i + 1))), (2, .int (zdl x ((npk f x N).1))), (0, .ref h), (1, .int (nI u))]) hx hb dX0_peeled_44 hl (k := 1) rfl (nI_1 _) (by decide) rfl (fun ls hl => ?_)
          refine lv_goto (tgt := 29) hx hb dX0_peeled_47 (by decide) ?_
          exact ih29 (i + 1) (zdl x ((npk f x N).1)) _ _ _ (by omega) (by rw [dsk_1, ← hxe]) (by omega) hP hS (lv_sub hl [0, 1, 2, 3] rfl)
    exact K29 (u - 0 + 1) 0 (zal N) _ _ _ (by omega) rfl (Nat.lt_succ_self _) hP hS (lv_sub hl [0, 1, 2, 3] rfl)
  · exact absurd hu (Nat.not_lt.mpr h9)
set_option maxHeartbeats 4000000 in
set_option maxRecDepth 100000 in
theorem c_X0_isDense_ok (l : Launch) (D : va_G) (cy : ClassId) (h a0 a1 a2 N : Nat) (ec cc : Int32) (f cs tr : Nat → Int32) (u : Nat) (hN : N ≤ 20) (hu : u < N) (hec : ec = nI (ewn f N (zal N))) : Met l yX0_isDense wsX0_isDense ({ frames := 7, cells := 0, slots := 0, locals := 103 } : Room) (va_Pc [.ref h, .int (nI u)] (zRd D (wB h a0 a1 a2 cy N ec cc f cs tr) [(cy, .int)])) (zPo (fun r => r = zb (bt (dsk f N (N - 1)).2.1 u))) 0 0 zNo := by
  refine Met.ofW (cc := cX0_isDense) (maxL := 2) (ret := (some .boolean)) (by decide) rfl ?_
  intro p e s m args below meth c s₁ B hml hv
  obtain ⟨rfl, hP, hK⟩ := hv
  have hx := B.exec
  have hb := B.bytes
  have hr := B.returns
  have hts := atoms_spec (ws := wsX0_isDense) B.pre
  have hown : s.vm.findClass RX0 = some m.cls := findClass_of_methodNamed B.named
  have hlocks := B.notSynchronized
  have hS : va_S (fun _ => False) s.heap s.heap [] := va_S.rf
  have hl := lv_entry ([.ref h, .int (nI u)]) (n := 2) (Nat.le_of_ble_eq_true rfl)
  rw [lg_entry_eq]
  generalize (lg_sl ([.ref h, .int (nI u)]) ++ List.replicate (2 - (lg_sl ([.ref h, .int (nI u)])).length) Slot.unset).toArray = ls at hl ⊢
  have hl : lv_has ls 2 [(0, .ref h), (1, .int (nI u))] := hl
  refine lv_aload_n hx hb dX0_isDense_0 rfl (lv_at hl 0 rfl) ?_
  refine lv_iload_n hx hb dX0_isDense_1 rfl (lv_at hl 1 rfl) ?_
  refine zrVv (As := [.int (nI u)]) (rest := []) 0 ⟨hx, hb, hml, hown, hts⟩ (c_X0_checkNode_ok l D cy h a0 a1 a2 N ec cc f cs tr u hN hu) (cwV 1 hts gX0_isDense_X0_checkNode rfl rfl rfl (by decide +kernel) ⟨Nat.le_of_ble_eq_true rfl, Nat.le_of_ble_eq_true rfl⟩) hK hP rfl rfl rfl hl rfl (Nat.le_of_ble_eq_true rfl) dX0_isDense_2 ⟨Nat.le_of_ble_eq_true rfl, Nat.le_of_ble_eq_true rfl⟩ hS (fun H locs hw2 hk9 hS => ?_)
  have hP := zkeep hP hk9
  refine lv_aload_n hx hb dX0_isDense_5 rfl (lv_at hl 0 rfl) ?_
  refine zrV (As := []) (rest := []) 0 ⟨hx, hb, hml, hown, hts⟩ (c_X0_denseSet l D cy h a0 a1 a2 N ec cc f cs tr hN hec) (cwV 0 hts gX0_isDense_X0_denseSet rfl rfl rfl (by decide +kernel) ⟨Nat.le_of_ble_eq_true rfl, Nat.le_of_ble_eq_true rfl⟩) hK hP rfl rfl rfl hl rfl (Nat.le_of_ble_eq_true rfl) dX0_isDense_6 ⟨Nat.le_of_ble_eq_true rfl, Nat.le_of_ble_eq_true rfl⟩ hS (fun r6 H locs hw6 hk9 hS => ?_)
  obtain rfl : r6 = (dsk f N (N - 1)).2.1 := hw6
  have hP := zkeep hP hk9
  refine lv_iload_n hx hb dX0_isDense_9 rfl (lv_at hl 1 rfl) ?_
  refine zrS0 (As := [.int ((dsk f N (N - 1)).2.1), .int (nI u)]) (rest := []) ⟨hx, hb, hml, hown, hts⟩ (c_X0_contains l ((dsk f N (N - 1)).2.1) u (by omega)) (va_cwS 2 hts gX0_isDense_X0_contains rfl rfl rfl (by decide +kernel) ⟨Nat.le_of_ble_eq_true rfl, Nat.le_of_ble_eq_true rfl⟩) rfl hl rfl (Nat.le_of_ble_eq_true rfl) dX0_isDense_10 ⟨Nat.le_of_ble_eq_true rfl, Nat.le_of_ble_eq_true rfl⟩ hS (fun r10 H locs hw10 hk9 hS => ?_)
  obtain rfl : r10 = (zb (bt ((dsk f N (N - 1)).2.1) u)) := hw10
  have hP := zkeep hP hk9
  exact W.zret (v := (zb (bt ((dsk f N (N - 1)).2.1) u))) (ty := .boolean) hx hb hr (zb_nar _) (fun t9 ht9 hW9 => ⟨⟨(zb (bt ((dsk f N (N - 1)).2.1) u)), (), rfl, rfl, trivial⟩, hS.F ht9⟩) hS.2.2 dX0_isDense_13
set_option maxHeartbeats 4000000 in
set_option maxRecDepth 100000 in
theorem c_X0_trussSize_ok (l : Launch) (D : va_G) (cy : ClassId) (h a0 a1 a2 N : Nat) (ec cc : Int32) (f cs tr : Nat → Int32) (sz : Nat) (k : Int32) (hN : N ≤ 20) (hg : gd f N) (hk : ¬ k < nI 2) : Met l yX0_trussSize wsX0_trussSize ({ frames := 4, cells := 0, slots := 0, locals := 88 } : Room) (va_Pc [.ref h, .int k] (zWr D (wB h a0 a1 a2 cy N ec cc f cs tr) [(cy, .int)] sz)) (va_Qi (fun (r : Int32) (z9 : (Nat → Int32)) => ∃ g, isTr f N (k - nI 2).toInt g ∧ r = nI (tE g N / 2)) (fun (z9 : (Nat → Int32)) t => va_P D vwCl (wB h a0 a1 a2 cy N ec cc f cs z9) t.heap) (va_A (wB h a0 a1 a2 cy N ec cc f cs tr) sz)) 0 0 (va_A (wB h a0 a1 a2 cy N ec cc f cs tr) sz) := by
  refine Met.ofW (cc := cX0_trussSize) (maxL := 4) (ret := (some .int)) (by decide) rfl ?_
  intro p e s m args below meth c s₁ B hml hv
  obtain ⟨rfl, hsz, hP, hK, hD0⟩ := hv
  have hx := B.exec
  have hb := B.bytes
  have hr := B.returns
  have hts := atoms_spec (ws := wsX0_trussSize) B.pre
  have hown : s.vm.findClass RX0 = some m.cls := findClass_of_methodNamed B.named
  have hlocks := B.notSynchronized
  subst hsz
  have hD := hD0.self (sz := s.heap.size)
  generalize hAe : va_A (wB h a0 a1 a2 cy N ec cc f cs tr) s.heap.size = A at hD ⊢
  have hA : ∀ q : Nat, s.heap.size ≤ q → A q := fun q h => by rw [← hAe]; exact Or.inr h
  have hS : va_S A s.heap s.heap [] := va_S.rf
  have hin : ∀ w ∈ wsX00, w ∈ wsX0_trussSize := by decide +kernel
  have hf16 := hts (.fieldLink RX0 16 "Corebarn" "trussNeighbours" "[I") (by decide +kernel)
  have hf19 := hts (.fieldLink RX0 19 "Corebarn" "nodeCount" "I") (by decide +kernel)
  have hl := lv_entry ([.ref h, .int k]) (n := 4) (Nat.le_of_ble_eq_true rfl)
  rw [lg_entry_eq]
  generalize (lg_sl ([.ref h, .int k]) ++ List.replicate (4 - (lg_sl ([.ref h, .int k])).length) Slot.unset).toArray = ls at hl ⊢
  have hl : lv_has ls 4 [(0, .ref h), (1, .int k)] := hl
  refine lv_iload_n hx hb dX0_trussSize_0 rfl (lv_at hl 1 rfl) ?_
  refine lv_iconst (v := (nI 2)) hx hb dX0_trussSize_1 (by decide) ?_
  refine lv_icmp_ge (tgt := 15) hx hb dX0_trussSize_2 (by decide) (fun h2 => ?_) (fun h2 => ?_)
  · refine lv_aload_n hx hb dX0_trussSize_15 rfl (lv_at hl 0 rfl) ?_
    refine zwVv (As := []) (rest := []) 0 [0, 1, 2, 3] rfl ⟨hx, hb, hml, hown, hts⟩ (c_X0_startTrusses l D cy h a0 a1 a2 N ec cc f cs tr _ hN) (cwV 0 hts gX0_trussSize_X0_startTrusses rfl rfl rfl (by decide +kernel) ⟨Nat.le_of_ble_eq_true rfl, Nat.le_of_ble_eq_true rfl⟩) hK hP hD hA rfl rfl rfl hl rfl (Nat.le_of_ble_eq_true rfl) dX0_trussSize_16 ⟨Nat.le_of_ble_eq_true rfl, Nat.le_of_ble_eq_true rfl⟩ hS (fun u16 H locs hw16 hP hS => ?_)
    obtain ⟨tr_16, rfl⟩ : ∃ z, z = u16 := ⟨_, rfl⟩
    have hP : va_P D vwCl (wB h a0 a1 a2 cy N ec cc f cs tr_16) H := hP
    have hD : va_D A (wB h a0 a1 a2 cy N ec cc f cs tr_16) := zD hD rfl
    have hw16 : ∀ w, w < N → tr_16 w = f w := hw16
    refine lv_aload_n hx hb dX0_trussSize_19 rfl (lv_at hl 0 rfl) ?_
    refine lv_iload_n hx hb dX0_trussSize_20 rfl (lv_at hl 1 rfl) ?_
    refine zwVv (As := [.int k]) (rest := []) 0 [0, 1, 2, 3] rfl ⟨hx, hb, hml, hown, hts⟩ (c_X0_shrinkToTruss l D cy h a0 a1 a2 N ec cc f cs tr_16 _ k f hg hw16) (cwV 1 hts gX0_trussSize_X0_shrinkToTruss rfl rfl rfl (by decide +kernel) ⟨Nat.le_of_ble_eq_true rfl, Nat.le_of_ble_eq_true rfl⟩) hK hP hD hA rfl rfl rfl hl rfl (Nat.le_of_ble_eq_true rfl) dX0_trussSize_21 ⟨Nat.le_of_ble_eq_true rfl, Nat.le_of_ble_eq_true rfl⟩ hS (fun u21 H locs hw21 hP hS => ?_)
    obtain ⟨tr_21, rfl⟩ : ∃ z, z = u21 := ⟨_, rfl⟩
    have hP : va_P D vwCl (wB h a0 a1 a2 cy N ec cc f cs tr_21) H := hP
    have hD : va_D A (wB h a0 a1 a2 cy N ec cc f cs tr_21) := zD hD rfl
    have hw21 : isTr f N (k - nI 2).toInt tr_21 := hw21
    refine lv_iconst (v := (nI 0)) hx hb dX0_trussSize_24 (by decide) ?_
    refine lv_istore_n (lv' := [(2, .int (nI 0)), (0, .ref h), (1, .int k)]) hx hb dX0_trussSize_25 rfl hl (by decide) rfl (fun ls hl => ?_)
    refine lv_iconst (v := (nI 0)) hx hb dX0_trussSize_26 (by decide) ?_
    refine lv_istore_n (lv' := [(3, .int (nI 0)), (2, .int (nI 0)), (0, .ref h), (1, .int k)]) hx hb dX0_trussSize_27 rfl hl (by decide) rfl (fun ls hl => ?_)
    have K28 : ∀ (fu28 : Nat) (i : Nat) (x : Nat) (H : Heap) (locs : List Loc) (ls : Array Slot), (i ≤ N) → (x = fb_sm (fun u => zpop (tr_21 u)) i) → N - i < fu28 → va_P D vwCl (wB h a0 a1 a2 cy N ec cc f cs tr_21) H → va_S A s.heap H locs → lv_has ls 4 [(3, .int (nI i)), (2, .int (nI x)), (0, .ref h), (1, .int k)] → W p l e (headSpec wsX0_trussSize ({ frames := 4, cells := 0, slots := 0, locals := 88 } : Room)).room s m ([.ref h, .int k] : List Value).toArray below meth c H locs 0 0 (MQ below (va_Qi (fun (r : Int32) (z9 : (Nat → Int32)) => ∃ g, isTr f N (k - nI 2).toInt g ∧ r = nI (tE g N / 2)) (fun (z9 : (Nat → Int32)) t => va_P D vwCl (wB h a0 a1 a2 cy N ec cc f cs z9) t.heap) A) ([.ref h, .int k] : List Value).toArray s 0 0 A) (F0 m 28 ls []) := by
      intro fu28
      induction fu28 with
      | zero =>
        intro i x H locs ls hi hxe hfu28
        exact absurd hfu28 (Nat.not_lt_zero _)
      | succ fu28 ih28 =>
        intro i x H locs ls hi hxe hfu28 hP hS hl
        have hD : va_D A (wB h a0 a1 a2 cy N ec cc f cs tr_21) := zD hD rfl
        have hxb : fb_sm (fun u => zpop (tr_21 u)) i ≤ i * 32 := fb_sm_bound fun k _ => pop_32 _
        refine lv_iload_n hx hb dX0_trussSize_28 rfl (lv_at hl 0 rfl) ?_
        refine lv_aload_n hx hb dX0_trussSize_29 rfl (lv_at hl 2 rfl) ?_
        refine va_get (D := D) (ci := 0) (v := .int (nI N)) (C := RX0) (T := TX0) (N := 6) hx hb hts hin hown hK hP 0 rfl rfl 3 (by decide) hf19 (fun _ h9 => h9) rfl dX0_trussSize_30 ?_
        refine z_icmp_ge (tgt := 54) hx hb dX0_trussSize_33 (by decide) (by omega) (by omega) (fun h33 => ?_) (fun h33 => ?_)
        · refine lv_iload_n hx hb dX0_trussSize_54 rfl (lv_at hl 1 rfl) ?_
          refine lv_iconst (v := (nI 2)) hx hb dX0_trussSize_55 (by decide) ?_
          refine z_idiv hx hb dX0_trussSize_56 (by omega) (by omega) (by omega) ?_
          exact W.iret (v := (nI (x / 2))) hx hb hr (fun t9 ht9 hW9 => ⟨⟨(nI (x / 2)), tr_21, rfl, ⟨tr_21, hw21, by rw [hxe, Nat.le_antisymm hi h33]; rfl⟩, by show va_P D vwCl (wB h a0 a1 a2 cy N ec cc f cs tr_21) t9.heap; rw [ht9]; exact hP⟩, hS.F ht9⟩) hS.2.2 dX0_trussSize_57
        · refine lv_iload_n hx hb dX0_trussSize_36 rfl (lv_at hl 1 rfl) ?_
          refine lv_aload_n hx hb dX0_trussSize_37 rfl (lv_at hl 2 rfl) ?_
          refine va_get (D := D) (ci := 0) (v := .ref a2) (C := RX0) (T := TX0) (N := 6) hx hb hts hin hown hK hP 0 rfl rfl 2 (by decide) hf16 (fun _ h9 => h9) rfl dX0_trussSize_38 ?_
          refine lv_iload_n hx hb dX0_trussSize_41 rfl (lv_at hl 0 rfl) ?_
          refine z_iald hx hb hK hP 3 0 rfl rfl (by omega) (by decide) dX0_trussSize_42 ?_
          refine zrS0 (As := [.int (tr_21 i)]) (rest := [.int (nI x)]) ⟨hx, hb, hml, hown, hts⟩ (c_X0_size l (tr_21 i)) (va_cwS 1 hts gX0_trussSize_X0_size rfl rfl rfl (by decide +kernel) ⟨Nat.le_of_ble_eq_true rfl, Nat.le_of_ble_eq_true rfl⟩) rfl hl rfl (Nat.le_of_ble_eq_true rfl) dX0_trussSize_43 ⟨Nat.le_of_ble_eq_true rfl, Nat.le_of_ble_eq_true rfl⟩ hS (fun r43 H locs hw43 hk9 hS => ?_)
          obtain rfl : r43 = (nI (zpop (tr_21 i))) := hw43
          have hP := zkeep hP hk9
          refine z_iadd hx hb dX0_trussSize_46 ?_
          refine lv_istore_n (lv' := [(2, .int (nI (x + (zpop (tr_21 i))))), (3, .int (nI i)), (0, .ref h), (1, .int k)]) hx hb dX0_trussSize_47 rfl hl (by decide) rfl (fun ls hl => ?_)
          refine lv_iinc (v := (nI (i + 1))) (lv' := [(3, .int (nI (i + 1))), (2, .int (nI (x + (zpop (tr_21 i))))), (0, .ref h), (1, .int k)]) hx hb dX0_trussSize_48 hl (k := 1) rfl (nI_1 _) (by decide) rfl (fun ls hl => ?_)
          refine lv_goto (tgt := 28) hx hb dX0_trussSize_51 (by decide) ?_
          exact ih28 (i + 1) (x + (zpop (tr_21 i))) _ _ _ (by omega) (by rw [hxe, fb_sm_succ]) (by omega) hP hS (lv_sub hl [0, 1, 2, 3] rfl)
    exact K28 (N - 0 + 1) 0 0 _ _ _ (by omega) rfl (Nat.lt_succ_self _) hP hS (lv_sub hl [0, 1, 2, 3] rfl)
  · exact absurd (Int32.not_le.mp h2) hk
set_option maxHeartbeats 4000000 in
set_option maxRecDepth 100000 in
theorem c_X0_density (l : Launch) (D : va_G) (cy : ClassId) (h a0 a1 a2 N : Nat) (ec cc : Int32) (f cs tr : Nat → Int32) (hN : N ≤ 20) (hg : gd f N) (hec : ec = nI (ewn f N (zal N))) : Met l yX0_density wsX0_density ({ frames := 4, cells := 0, slots := 0, locals := 90 } : Room) (va_Pc [.ref h] (zRd D (wB h a0 a1 a2 cy N ec cc f cs tr) [(cy, .int)])) (va_Qd (fun (r : UInt64) (_ : Unit) => r = dnv f N) (fun _ _ => True) (fun _ => False)) 0 0 zNo := by
  refine Met.ofW (cc := cX0_density) (maxL := 2) (ret := (some .double)) (by decide) rfl ?_
  intro p e s m args below meth c s₁ B hml hv
  obtain ⟨rfl, hP, hK⟩ := hv
  have hx := B.exec
  have hb := B.bytes
  have hr := B.returns
  have hts := atoms_spec (ws := wsX0_density) B.pre
  have hown : s.vm.findClass RX0 = some m.cls := findClass_of_methodNamed B.named
  have hlocks := B.notSynchronized
  have hS : va_S (fun _ => False) s.heap s.heap [] := va_S.rf
  have hl := lv_entry ([.ref h]) (n := 2) (Nat.le_of_ble_eq_true rfl)
  rw [lg_entry_eq]
  generalize (lg_sl ([.ref h]) ++ List.replicate (2 - (lg_sl ([.ref h])).length) Slot.unset).toArray = ls at hl ⊢
  have hl : lv_has ls 2 [(0, .ref h)] := hl
  refine lv_aload_n hx hb dX0_density_0 rfl (lv_at hl 0 rfl) ?_
  refine zrV (As := []) (rest := []) 0 ⟨hx, hb, hml, hown, hts⟩ (c_X0_denseSet l D cy h a0 a1 a2 N ec cc f cs tr hN hec) (cwV 0 hts gX0_density_X0_denseSet rfl rfl rfl (by decide +kernel) ⟨Nat.le_of_ble_eq_true rfl, Nat.le_of_ble_eq_true rfl⟩) hK hP rfl rfl rfl hl rfl (Nat.le_of_ble_eq_true rfl) dX0_density_1 ⟨Nat.le_of_ble_eq_true rfl, Nat.le_of_ble_eq_true rfl⟩ hS (fun r1 H locs hw1 hk9 hS => ?_)
  obtain rfl : r1 = (dsk f N (N - 1)).2.1 := hw1
  have hP := zkeep hP hk9
  refine lv_istore_n (lv' := [(1, .int ((dsk f N (N - 1)).2.1)), (0, .ref h)]) hx hb dX0_density_4 rfl hl (by decide) rfl (fun ls hl => ?_)
  refine lv_iload_n hx hb dX0_density_5 rfl (lv_at hl 0 rfl) ?_
  refine lv_if_ne (tgt := 11) hx hb dX0_density_6 (by decide) (fun h6 => ?_) (fun h6 => ?_)
  · have hN0 : N ≠ 0 := fun e => h6 (by rw [e]; rfl)
    have hde := (dsk_sub hN (N - 1) (f := f)).2.2
    refine lv_aload_n hx hb dX0_density_11 rfl (lv_at hl 1 rfl) ?_
    refine lv_iload_n hx hb dX0_density_12 rfl (lv_at hl 0 rfl) ?_
    refine zrV (As := [.int ((dsk f N (N - 1)).2.1)]) (rest := []) 0 ⟨hx, hb, hml, hown, hts⟩ (c_X0_edgesWithin l D cy h a0 a1 a2 N ec cc f cs tr ((dsk f N (N - 1)).2.1) hN) (cwV 1 hts gX0_density_X0_edgesWithin rfl rfl rfl (by decide +kernel) ⟨Nat.le_of_ble_eq_true rfl, Nat.le_of_ble_eq_true rfl⟩) hK hP rfl rfl rfl hl rfl (Nat.le_of_ble_eq_true rfl) dX0_density_13 ⟨Nat.le_of_ble_eq_true rfl, Nat.le_of_ble_eq_true rfl⟩ hS (fun r13 H locs hw13 hk9 hS => ?_)
    obtain rfl : r13 = (nI (ewn f N ((dsk f N (N - 1)).2.1))) := hw13
    have hP := zkeep hP hk9
    refine lv_i2d hx hb dX0_density_16 ?_
    refine lv_iload_n hx hb dX0_density_17 rfl (lv_at hl 0 rfl) ?_
    refine zrS0 (As := [.int ((dsk f N (N - 1)).2.1)]) (rest := [.double (FP.i2d (nI (ewn f N ((dsk f N (N - 1)).2.1))))]) ⟨hx, hb, hml, hown, hts⟩ (c_X0_size l ((dsk f N (N - 1)).2.1)) (va_cwS 1 hts gX0_density_X0_size rfl rfl rfl (by decide +kernel) ⟨Nat.le_of_ble_eq_true rfl, Nat.le_of_ble_eq_true rfl⟩) rfl hl rfl (Nat.le_of_ble_eq_true rfl) dX0_density_18 ⟨Nat.le_of_ble_eq_true rfl, Nat.le_of_ble_eq_true rfl⟩ hS (fun r18 H locs hw18 hk9 hS => ?_)
    obtain rfl : r18 = (nI (zpop ((dsk f N (N - 1)).2.1))) := hw18
    have hP := zkeep hP hk9
    refine lv_i2d hx hb dX0_density_21 ?_
    refine lv_ddiv hx hb dX0_density_22 (ddc_n (by rw [← hde]; exact dn_b hg hN0)) ?_
    exact W.dret hx hb hr (fun t9 ht9 hW9 => ⟨⟨(FP.ddiv (FP.i2d (nI (ewn f N ((dsk f N (N - 1)).2.1)))) (FP.i2d (nI (zpop ((dsk f N (N - 1)).2.1))))), (), rfl, (by unfold dnv ddq; rw [if_neg hN0, hde]), trivial⟩, hS.F ht9⟩) hS.2.2 dX0_density_23
  · have hN0 : N = 0 := Nat.eq_zero_of_not_pos (fun q => by have z := dsk_pos hg (N - 1) (by omega); rw [h6, pop_0] at z; omega)
    refine lv_dconst0 hx hb dX0_density_9 ?_
    exact W.dret hx hb hr (fun t9 ht9 hW9 => ⟨⟨FP.dconst0, (), rfl, (by unfold dnv; rw [if_pos hN0]), trivial⟩, hS.F ht9⟩) hS.2.2 dX0_density_10
