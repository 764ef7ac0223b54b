/-! ===== the loop from the third turn on; the start ===== -/
theorem lw_str {args : Array Value} {s : State} {k : Nat} {tx : String} (h1 : (Cond.stringRef RX0 k tx).before args s = true) (h2 : (Cond.exactly (.string RX0 k) "java/lang/String").before args s = true) : ∃ a, vk_R RX0 k tx a s := by
  obtain ⟨a, c, cA, kA, q1, -⟩ := Cond.exactly_spec (args := args) (first := s) (o := none) (s := s) (idx := []) (t := .string RX0 k) (cls := "java/lang/String") h2
  exact ⟨a, vk_R.of h1 q1⟩
theorem lw_thL {args : Array Value} {s : State} (hts : ∀ w ∈ lw_tbl, w.before args s = true) (hgv : (Jvm.Cond.and given_1 narrow_1).before args s = true) : zThL s := by
  have hs := flat_of_before _ hgv
  refine ⟨?_, ?_, ?_, ?_, ?_, ?_⟩
  · intro X hX
    refine va_Nw.of rfl (hts (.declares (Bundle.initS X)) ?_)
    simp only [List.mem_cons, List.not_mem_nil, or_false] at hX
    rcases hX with rfl | rfl | rfl <;> decide +kernel
  · intro X hX
    refine va_Nw.of rfl (hts (.castable X X) ?_)
    simp only [List.mem_cons, List.not_mem_nil, or_false] at hX
    rcases hX with rfl | rfl | rfl | rfl <;> decide +kernel
  · intro X hX Y hY hn
    refine va_Nc.of (hs (.not (.castable X Y)) ?_)
    simp only [List.mem_cons, List.not_mem_nil, or_false] at hX hY
    rcases hX with rfl | rfl | rfl | rfl <;> rcases hY with rfl | rfl | rfl | rfl <;> first | exact absurd rfl hn | decide +kernel
  · exact vx_Zqof (hts (.laysStatic Bundle.tN "UNASSIGNED_STACK" Bundle.steD) (by decide +kernel)) (hts (.initialized Bundle.tN) (by decide +kernel)) (hs (.isRef (.static Bundle.tN "UNASSIGNED_STACK" Bundle.steD)) (by decide +kernel)) (fun a ha => Nat.not_le.mpr ha)
  · exact vx_Zqof (hts (.laysStatic Bundle.tN "SUPPRESSED_SENTINEL" Bundle.listD) (by decide +kernel)) (hts (.initialized Bundle.tN) (by decide +kernel)) (hs (.isRef (.static Bundle.tN "SUPPRESSED_SENTINEL" Bundle.listD)) (by decide +kernel)) (fun a ha => Nat.not_le.mpr ha)
  · intro q hq
    simp only [zStr, List.mem_cons, List.not_mem_nil, or_false] at hq
    rcases hq with rfl | rfl | rfl | rfl | rfl | rfl | rfl | rfl | rfl | rfl <;> exact lw_str (hts (.stringRef RX0 _ _) (by decide +kernel)) (hs (.exactly (.string RX0 _) "java/lang/String") (by decide +kernel))
theorem lw_known {args : Array Value} {s : State} (hts : ∀ w ∈ lw_tbl, w.before args s = true) : ∃ D : va_G, va_K D vwCl [] s := by
  obtain ⟨c0, iS0, hKn0⟩ := u_known (C := RX0) (T := TX0) (N := 6) (n := 6) hts inX0 (hts (.instantiable RX0 6) (by decide +kernel))
  refine ⟨(fun _ => c0, fun _ => iS0), fun k q hq => ?_, fun k q h => by simp at h⟩
  match k, hq with
  | 0, hq => cases hq; exact hKn0
  | k + 1, hq => simp [vwCl] at hq
/-- the law's end, the heap grown by more than the claim allows -/
def lx_Z (below : List Frame) (s : State) : State → Prop := fun t => ∃ o, t.status = .running ∧ Ended t below o ∧ o = .returned (some (.int 1)) ∧ s.heap.size + 191 ≤ t.heap.size
theorem lx_ret {p : Program} {l : Launch} {e : Env} {s : State} {m : MethodId} {below : List Frame} {meth : Method} {c : Code} {b : Nat} (hx : p.tables.exec = Jvm.exec) (hb : c.code = code) (hr : meth.sig.returnType = ret) (hlocks : meth.locks = false) {pc : Nat} {H : Heap} {locs : List Loc} {cells slots : Nat} {ls : Array Slot} (hg : s.heap.size + 191 ≤ H.size) (hdg : decode code pc = .ok (.ireturn, 1)) : W p l e rB s m #[Value.ref b] below meth c H locs cells slots (lx_Z below s) (F0 m pc ls [.int 1]) := by
  intro T hT X
  obtain ⟨fs, hret, hrun, hended, hW, hframe⟩ := X.leave (v := some (.int 1)) (hlocks := hlocks) (fun h => by rw [hr] at h; cases h)
  have hmeth' : T.vm.method? m = some meth := X.method'
  refine ⟨T.setFrames fs, ?_, .returned (some (.int 1)), hrun, hended, rfl, by show s.heap.size + 191 ≤ T.heap.size; rw [hT]; exact hg⟩
  jvm_step X.here [X.here.top, hx, hb, hdg, hmeth', hr, ret, narrow_b1]
  (try refine ⟨rfl, ?_⟩); (try refine ⟨rfl, ?_⟩)
  first | (intro acts; rw [hret _ acts rfl rfl rfl]) | rw [hret _ _ rfl rfl rfl]
  exact Steps.refl _
section ZLP
variable {p : Program} {l : Launch} {e : Env} {s : State} {m : MethodId} {below : List Frame} {meth : Method} {c : Code} {Q : State → Prop} {b L : Nat} {xs : Nat → Int32}
variable {D : va_G} {cy : ClassId} {h a0 a1 a2 h2 b0 b1 b2 : Nat}
set_option maxHeartbeats 4000000 in
theorem lx_tail (C : lxC p s m c b L xs) (hfl : l.stackTraces = false) (hK : va_K D vwCl [(cy, .int)] s) (hTL : zThL s)
    (K : ∀ (H : Heap) (locs : List Loc) (ls : Array Slot), s.heap.size + 191 ≤ H.size → W p l e rB s m #[Value.ref b] below meth c H locs (14 + 5 * 54) (168 + 30 * 54) Q (F0 m 153 ls [])) :
    ∀ (t j : Nat) (H : Heap) (locs : List Loc) (ls : Array Slot) (tr tr2 : Nat → Int32), j + t = 54 → s.heap.size + 4 * j ≤ H.size → va_P D vwCl (wZ h a0 a1 a2 cy 2 tr ++ wZ h2 b0 b1 b2 cy 2 tr2) H → va_D (lwAd s) (wZ h a0 a1 a2 cy 2 tr ++ wZ h2 b0 b1 b2 cy 2 tr2) → va_S (lwAd s) s.heap H locs → lv_has ls 7 [(0, .ref b), (1, .ref h), (2, .ref h2), (3, .int (nI (j + 2)))] → W p l e rB s m #[Value.ref b] below meth c H locs (14 + 5 * j) (168 + 30 * j) Q (F0 m 18 ls []) := by
  intro t
  induction t with
  | zero =>
    intro j H locs ls tr tr2 hj hz hP hD hS hl
    obtain rfl : j = 54 := by omega
    obtain ⟨hx, hb, hml, hown, hts, hX, hbl, hL, hx0, hx1, hx2⟩ := id C
    refine lv_iload_n hx hb dL_law_18 rfl (lv_at hl 3 rfl) ?_
    refine lv_bipush (v := (nI 56)) hx hb dL_law_19 (by decide) ?_
    refine k_icmp_ge_t (tgt := 153) hx hb dL_law_21 (by decide) (by decide +kernel) ?_
    exact K H locs ls (by omega)
  | succ t ih =>
    intro j H locs ls tr tr2 hj hz hP hD hS hl
    refine lx_it2 (n0 := s.heap.size + 4 * j) (i := j + 2) C hfl hK hTL (by omega) (by omega) hz (by omega) (by omega) hP hD hS hl (fun tr3 tr4 H1 locs1 ls1 hz1 hP1 hD1 hS1 hl1 => ?_)
    have e1 : 14 + 5 * j + 5 = 14 + 5 * (j + 1) := by omega
    have e2 : 168 + 30 * j + 30 = 168 + 30 * (j + 1) := by omega
    rw [e1, e2]
    have e3 : j + 1 + 2 = j + 2 + 1 := by omega
    exact ih (j + 1) H1 locs1 ls1 tr3 tr4 (by omega) (by omega) hP1 hD1 hS1 (by rw [e3]; exact hl1)
end ZLP
set_option maxHeartbeats 4000000 in
set_option maxRecDepth 100000 in
/-- from the entry, on this script, in a room that is large enough, the law comes to its end with true, the heap grown by more than 190 cells -/
theorem lx_start {p : Program} {e : Env} {s : State} {m : MethodId} {below : List Frame} {meth : Method} {c : Code} (l : Launch) (hflags : l.flags = flags0) {b L : Nat} {xs : Nat → Int32} (hx : p.tables.exec = Jvm.exec) (hb : c.code = code) (hr : meth.sig.returnType = ret) (hml : c.maxLocals = 7) (hown : s.vm.findClass RL = some m.cls) (hts0 : ∀ w ∈ lw_tbl, w.before #[Value.ref b] s = true) (hX : va_X b L xs s s.heap) (hbl : b < s.heap.size) (hlocks : meth.locks = false) (hgv : (Jvm.Cond.and given_1 narrow_1).before #[Value.ref b] s = true) (hL : L = 56) (hx0 : xs 0 = nI 0) (hx1 : xs 1 = nI 264) (hx2 : ∀ j, 2 ≤ j → j < 56 → xs j = nI 257) : W p l e rB s m #[Value.ref b] below meth c s.heap [] 0 0 (lx_Z below s) (entryFrame m ([Value.ref b] : List Value).toArray 7) := by
  have hfl : l.stackTraces = false := by
    unfold Launch.stackTraces
    rw [hflags]
    decide
  have hts : ∀ w ∈ wsL_law, w.before #[Value.ref b] s = true := fun w hw => hts0 w (wsL_law_in w hw)
  have C : lxC p s m c b L xs := ⟨hx, hb, hml, hown, hts, hX, hbl, hL, hx0, hx1, hx2⟩
  have hTL : zThL s := lw_thL hts0 hgv
  have hA : ∀ q : Nat, s.heap.size ≤ q → lwAd s q := fun _ h => h
  obtain ⟨D, hK⟩ := lw_known hts0
  have hS : va_S (lwAd s) s.heap s.heap [] := va_S.rf
  have hP : va_P D vwCl [] s.heap := fun k q h => by simp at h
  have hD : va_D (lwAd s) [] := ⟨fun i j p q h => by simp at h, fun k q h => by simp at h⟩
  have hl := lv_entry ([.ref b]) (n := 7) (Nat.le_of_ble_eq_true rfl)
  rw [lg_entry_eq]
  generalize (lg_sl ([.ref b]) ++ List.replicate (7 - (lg_sl ([.ref b])).length) Slot.unset).toArray = ls at hl ⊢
  have hl : lv_has ls 7 [(0, .ref b)] := hl
  refine va_new (ci := 0) (fs := [.null, .null, .null, .int 0, .int 0, .int 0]) (C := RX0) (T := TX0) (N := 6) hx hb hts0 inX0 tyX0 tyX0_ok hown (hts0 (.classLink RL 9 RX0) (by decide +kernel)) (hts0 (.instantiable RX0 6) (by decide +kernel)) (hts0 (.initialized RX0) (by decide +kernel)) hK hP hD hS hA rfl (fun j hj => by rcases (show j = 0 ∨ j = 1 ∨ j = 2 ∨ j = 3 ∨ j = 4 ∨ j = 5 by omega) with rfl | rfl | rfl | rfl | rfl | rfl <;> rfl) (Nat.le_of_ble_eq_true rfl) (Nat.le_of_ble_eq_true rfl) dL_law_0 (fun h H hP hD hS => ?_)
  have hP : va_P D vwCl ([(h, .inr (0, [.null, .null, .null, .int 0, .int 0, .int 0]))]) H := hP
  have hD : va_D (lwAd s) ([(h, .inr (0, [.null, .null, .null, .int 0, .int 0, .int 0]))]) := hD
  refine lv_dup hx hb dL_law_3 rfl ?_
  have hPc := hP.sub (ws' := [(h, .inr (0, [.null, .null, .null, .int 0, .int 0, .int 0]))]) [0] rfl
  have hDc := hD.sub (ws' := [(h, .inr (0, [.null, .null, .null, .int 0, .int 0, .int 0]))]) [0] (by decide) rfl
  have hKc := hK.sub (tys' := []) [] rfl
  have hFc := va_free (wc := [(h, .inr (0, [.null, .null, .null, .int 0, .int 0, .int 0]))]) hD hS hA [0] rfl
  refine va_callv (va_runI (As := []) (rest := [.ref h]) ⟨hx, hb, hml, hown, hts⟩ (c_X0_init l D h H.size) (cwI 0 hts gL_law_X0_init rfl rfl rfl (hts0 (.initialized RX0) (by decide +kernel)) (hts0 (.methodLink RL 120 yX0_init) (by decide +kernel)) (hts0 (.instanceMethod yX0_init) (by decide +kernel)) rfl (by decide +kernel) ⟨Nat.le_of_ble_eq_true rfl, Nat.le_of_ble_eq_true rfl⟩) ⟨fun a U g mk q => by obtain ⟨q0, q1, qP, qK, qD⟩ := q; exact ⟨q0, q1, qP, va_K.moved (u := U) (U := U.calling g mk a) (Vm.Alike.refl U.vm) qK, qD⟩, fun U hU hW => ⟨rfl, by rw [hU], by rw [hU]; exact hPc, va_K.moved hW.alike hKc, hDc.weaken (fun _ _ _ _ => trivial)⟩⟩ rfl rfl hl.1 rfl (lv_room (Nat.le_of_ble_eq_true rfl)) dL_law_4 ⟨Nat.le_of_ble_eq_true rfl, Nat.le_of_ble_eq_true rfl⟩) hS (fun q _ h => hFc q h) hFc (fun u t H1 locs ht hvm hw hB hz1 hk1 hS => ?_)
  obtain ⟨a0, a1, a2, cy⟩ := u
  obtain ⟨hP1, hK1, hD1⟩ := hB
  rw [ht] at hP1
  have hK1 := va_K.moved hvm.symm hK1
  obtain ⟨hP, hD⟩ := va_join (wr := []) (w1 := wZ h a0 a1 a2 cy 0 zf) hP hD [0] [] rfl rfl (by decide) (by decide) hk1 hFc hP1 hD1
  have hK : va_K D vwCl [(cy, .int)] s := (hK.sub (tys' := []) [] rfl).app hK1
  generalize H1 = H at hP hS ⊢
  have hP : va_P D vwCl (wZ h a0 a1 a2 cy 0 zf) H := hP
  have hD : va_D (lwAd s) (wZ h a0 a1 a2 cy 0 zf) := hD
  refine lv_astore_n (lv' := [(1, .ref h), (0, .ref b)]) hx hb dL_law_7 rfl hl (by decide) rfl (fun ls hl => ?_)
  refine va_new (ci := 0) (fs := [.null, .null, .null, .int 0, .int 0, .int 0]) (C := RX0) (T := TX0) (N := 6) hx hb hts0 inX0 tyX0 tyX0_ok hown (hts0 (.classLink RL 9 RX0) (by decide +kernel)) (hts0 (.instantiable RX0 6) (by decide +kernel)) (hts0 (.initialized RX0) (by decide +kernel)) hK hP hD hS hA rfl (fun j hj => by rcases (show j = 0 ∨ j = 1 ∨ j = 2 ∨ j = 3 ∨ j = 4 ∨ j = 5 by omega) with rfl | rfl | rfl | rfl | rfl | rfl <;> rfl) (Nat.le_of_ble_eq_true rfl) (Nat.le_of_ble_eq_true rfl) dL_law_8 (fun h2 H hP hD hS => ?_)
  have hP : va_P D vwCl (wZ h a0 a1 a2 cy 0 zf ++ [(h2, .inr (0, [.null, .null, .null, .int 0, .int 0, .int 0]))]) H := hP
  have hD : va_D (lwAd s) (wZ h a0 a1 a2 cy 0 zf ++ [(h2, .inr (0, [.null, .null, .null, .int 0, .int 0, .int 0]))]) := hD
  refine lv_dup hx hb dL_law_11 rfl ?_
  have hPc := hP.sub (ws' := [(h2, .inr (0, [.null, .null, .null, .int 0, .int 0, .int 0]))]) [4] rfl
  have hDc := hD.sub (ws' := [(h2, .inr (0, [.null, .null, .null, .int 0, .int 0, .int 0]))]) [4] (by decide) rfl
  have hKc := hK.sub (tys' := []) [] rfl
  have hFc := va_free (wc := [(h2, .inr (0, [.null, .null, .null, .int 0, .int 0, .int 0]))]) hD hS hA [4] rfl
  refine va_callv (va_runI (As := []) (rest := [.ref h2]) ⟨hx, hb, hml, hown, hts⟩ (c_X0_init l D h2 H.size) (cwI 0 hts gL_law_X0_init rfl rfl rfl (hts0 (.initialized RX0) (by decide +kernel)) (hts0 (.methodLink RL 120 yX0_init) (by decide +kernel)) (hts0 (.instanceMethod yX0_init) (by decide +kernel)) rfl (by decide +kernel) ⟨Nat.le_of_ble_eq_true rfl, Nat.le_of_ble_eq_true rfl⟩) ⟨fun a U g mk q => by obtain ⟨q0, q1, qP, qK, qD⟩ := q; exact ⟨q0, q1, qP, va_K.moved (u := U) (U := U.calling g mk a) (Vm.Alike.refl U.vm) qK, qD⟩, fun U hU hW => ⟨rfl, by rw [hU], by rw [hU]; exact hPc, va_K.moved hW.alike hKc, hDc.weaken (fun _ _ _ _ => trivial)⟩⟩ rfl rfl hl.1 rfl (lv_room (Nat.le_of_ble_eq_true rfl)) dL_law_12 ⟨Nat.le_of_ble_eq_true rfl, Nat.le_of_ble_eq_true rfl⟩) hS (fun q _ h => hFc q h) hFc (fun u t H1 locs ht hvm hw hB hz1 hk1 hS => ?_)
  obtain ⟨b0, b1, b2, cy2⟩ := u
  obtain ⟨hP1, hK1, hD1⟩ := hB
  rw [ht] at hP1
  have hK1 := va_K.moved hvm.symm hK1
  obtain ⟨hP, hD⟩ := va_join (wr := wZ h a0 a1 a2 cy 0 zf) (w1 := wZ h2 b0 b1 b2 cy2 0 zf) hP hD [4] [0, 1, 2, 3] rfl rfl (by decide) (by decide) hk1 hFc hP1 hD1
  have hK : va_K D vwCl [(cy, .int), (cy2, .int)] s := hK.app hK1
  obtain rfl : cy = cy2 := zcy hK 0 1 rfl rfl
  have hK : va_K D vwCl [(cy, .int)] s := hK.sub [0] rfl
  generalize H1 = H at hP hS ⊢
  have hP : va_P D vwCl (wZ h a0 a1 a2 cy 0 zf ++ wZ h2 b0 b1 b2 cy 0 zf) H := hP
  have hD : va_D (lwAd s) (wZ h a0 a1 a2 cy 0 zf ++ wZ h2 b0 b1 b2 cy 0 zf) := hD
  refine lv_astore_n (lv' := [(2, .ref h2), (1, .ref h), (0, .ref b)]) hx hb dL_law_15 rfl hl (by decide) rfl (fun ls hl => ?_)
  refine lv_iconst (v := nI 0) hx hb dL_law_16 (by decide) ?_
  refine lv_istore_n (lv' := [(3, .int (nI 0)), (2, .ref h2), (1, .ref h), (0, .ref b)]) hx hb dL_law_17 rfl hl (by decide) rfl (fun ls hl => ?_)
  refine W.widen (k := 8) (n := 132) (Nat.le_of_ble_eq_true rfl) (Nat.le_of_ble_eq_true rfl) ?_
  refine lx_it0 (n0 := s.heap.size) C hfl hK hTL hS.1 (by decide) (by decide) hP hD hS (lv_sub hl [3, 2, 1, 0] rfl) (fun tr3 tr4 H1 locs1 ls1 hz1 hP hD hS hl => ?_)
  refine lx_it1 (n0 := s.heap.size) C hfl hK hTL hS.1 (by decide) (by decide) hP hD hS hl (fun tr5 tr6 H2 locs2 ls2 hz2 hP hD hS hl => ?_)
  exact lx_tail C hfl hK hTL (fun H locs ls hg => by
    refine lv_iconst (v := nI 1) hx hb dL_law_153 (by decide) ?_
    exact lx_ret hx hb hr hlocks hg dL_law_154) 54 0 H2 locs2 ls2 tr5 tr6 rfl hS.1 hP hD hS hl
