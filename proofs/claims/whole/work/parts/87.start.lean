/-! ===== the law's loop and its start ===== -/
section ZLP
variable {p : Program} {l : Launch} {e : Env} {s : State} {m : MethodId} {below : List Frame} {meth : Method} {c : Code} {Q : State → Prop} {b L : Nat} {xs : Nat → Int32}
variable {D : va_G} {cy cl : ClassId} {h a0 a1 a2 o h2 b0 b1 b2 b3 b4 : Nat}
theorem lw_head (C : lwC p s m c b L xs) {i : Nat} {H : Heap} {locs : List Loc} {cells slots : Nat} {ls : Array Slot} (hi : i ≤ 3000) (hS : va_S (lwAd s) s.heap H locs) (hl : lv_has ls 9 [(0, .ref b), (1, .ref h), (2, .ref h2), (3, .ref o), (4, .int (nI i))])
    (ke : L < i + 3 → W p l e room_1 s m #[Value.ref b] below meth c H locs cells slots Q (F0 m 1340 ls [])) (kg : i + 3 ≤ L → W p l e room_1 s m #[Value.ref b] below meth c H locs cells slots Q (F0 m 32 ls [])) : W p l e room_1 s m #[Value.ref b] below meth c H locs cells slots Q (F0 m 23 ls []) := by
  obtain ⟨hx, hb, hml, hown, hts, hX, hbl, hL⟩ := id C
  have hbA : ¬ lwAd s b := Nat.not_le.mpr hbl
  refine lv_iload hx hb dL_law_23 (lv_at hl 4 rfl) ?_
  refine lv_aload_n hx hb dL_law_25 rfl (lv_at hl 0 rfl) ?_
  refine va_slen hx hb hX hbl hbA hS dL_law_26 ?_
  refine lv_iconst (v := nI 3) hx hb dL_law_27 (by decide) ?_
  refine lv_isub hx hb dL_law_28 ?_
  exact lv_icmp_gt (tgt := 1340) hx hb dL_law_29 (by decide) (fun q => ke ((lw_gt hi hL).mp q)) (fun q => kg (Nat.le_of_not_lt fun z => q ((lw_gt hi hL).mpr z)))
theorem lw_loop (C : lwC p s m c b L xs) (hK : va_K D vwCl [(cy, .int), (cl, .long)] s) (hTL : zThL s) (hfl : l.stackTraces = false)
    (K : ∀ (H1 : Heap) (locs1 : List Loc) (ls1 : Array Slot), va_S (lwAd s) s.heap H1 locs1 → W p l e room_1 s m #[Value.ref b] below meth c H1 locs1 1045 8429 Q (F0 m 1340 ls1 [])) :
    ∀ (t j : Nat) (N : Nat) (f : Nat → Int32) (H : Heap) (locs : List Loc) (ls : Array Slot), L < 3 * (j + t) + 3 → 3 * j ≤ L → lwI D (lwAd s) h a0 a1 a2 cy o cl h2 b0 b1 b2 b3 b4 N f H → va_S (lwAd s) s.heap H locs → lv_has ls 9 [(0, .ref b), (1, .ref h), (2, .ref h2), (3, .ref o), (4, .int (nI (3 * j)))] → W p l e room_1 s m #[Value.ref b] below meth c H locs (11 + j) (177 + 6 * j) Q (F0 m 23 ls []) := by
  have hL : L ≤ 1536 := C.2.2.2.2.2.2.2
  intro t
  induction t with
  | zero =>
    intro j N f H locs ls ht hj hI hS hl
    refine lw_head C (by omega) hS hl (fun _ => ?_) (fun q => absurd q (by omega))
    refine W.widen (k := 1045) (n := 8429) (by omega) (by omega) ?_
    exact K _ _ _ hS
  | succ t ih =>
    intro j N f H locs ls ht hj hI hS hl
    refine lw_head C (by omega) hS hl (fun _ => ?_) (fun q => ?_)
    · refine W.widen (k := 1045) (n := 8429) (by omega) (by omega) ?_
      exact K _ _ _ hS
    · refine lw_iter C hK hTL hfl q hI hS hl (by omega) (by omega) (fun N1 f1 H1 locs1 ls1 hI1 hS1 hl1 => ?_)
      exact ih (j + 1) N1 f1 H1 locs1 ls1 (by omega) (by omega) hI1 hS1 hl1
end ZLP
theorem lw_str {args : Array Value} {s : State} {k : Nat} {tx : String} (h1 : (Cond.stringRef RX0 k tx).before args s = true) (h2 : (Cond.exactly (.string RX0 k) "java/lang/String").before args s = true) : ∃ a, vk_R RX0 k tx a s := by
  obtain ⟨a, c, cA, kA, q1, -⟩ := Cond.exactly_spec (args := args) (first := s) (o := none) (s := s) (idx := []) (t := .string RX0 k) (cls := "java/lang/String") h2
  exact ⟨a, vk_R.of h1 q1⟩
theorem lw_thL {args : Array Value} {s : State} (hts : ∀ w ∈ lw_tbl, w.before args s = true) (hgv : (Jvm.Cond.and given_1 narrow_1).before args s = true) : zThL s := by
  have hs := flat_of_before _ hgv
  refine ⟨?_, ?_, ?_, ?_, ?_, ?_⟩
  · intro X hX
    refine va_Nw.of rfl (hts (.declares (Bundle.initS X)) ?_)
    simp only [List.mem_cons, List.not_mem_nil, or_false] at hX
    rcases hX with rfl | rfl | rfl <;> decide +kernel
  · intro X hX
    refine va_Nw.of rfl (hts (.castable X X) ?_)
    simp only [List.mem_cons, List.not_mem_nil, or_false] at hX
    rcases hX with rfl | rfl | rfl | rfl <;> decide +kernel
  · intro X hX Y hY hn
    refine va_Nc.of (hs (.not (.castable X Y)) ?_)
    simp only [List.mem_cons, List.not_mem_nil, or_false] at hX hY
    rcases hX with rfl | rfl | rfl | rfl <;> rcases hY with rfl | rfl | rfl | rfl <;> first | exact absurd rfl hn | decide +kernel
  · exact vx_Zqof (hts (.laysStatic Bundle.tN "UNASSIGNED_STACK" Bundle.steD) (by decide +kernel)) (hts (.initialized Bundle.tN) (by decide +kernel)) (hs (.isRef (.static Bundle.tN "UNASSIGNED_STACK" Bundle.steD)) (by decide +kernel)) (fun a ha => Nat.not_le.mpr ha)
  · exact vx_Zqof (hts (.laysStatic Bundle.tN "SUPPRESSED_SENTINEL" Bundle.listD) (by decide +kernel)) (hts (.initialized Bundle.tN) (by decide +kernel)) (hs (.isRef (.static Bundle.tN "SUPPRESSED_SENTINEL" Bundle.listD)) (by decide +kernel)) (fun a ha => Nat.not_le.mpr ha)
  · intro q hq
    simp only [zStr, List.mem_cons, List.not_mem_nil, or_false] at hq
    rcases hq with rfl | rfl | rfl | rfl | rfl | rfl | rfl | rfl | rfl | rfl <;> exact lw_str (hts (.stringRef RX0 _ _) (by decide +kernel)) (hs (.exactly (.string RX0 _) "java/lang/String") (by decide +kernel))
theorem lw_known {args : Array Value} {s : State} (hts : ∀ w ∈ lw_tbl, w.before args s = true) : ∃ D : va_G, va_K D vwCl [] s := by
  obtain ⟨c0, iS0, hKn0⟩ := u_known (C := RX0) (T := TX0) (N := 6) (n := 6) hts inX0 (hts (.instantiable RX0 6) (by decide +kernel))
  obtain ⟨c1, iS1, hKn1⟩ := u_known (C := RX1) (T := TX1) (N := 10) (n := 10) hts inX1 (hts (.instantiable RX1 10) (by decide +kernel))
  refine ⟨(fun k => if k = 0 then c0 else c1, fun k => if k = 0 then iS0 else iS1), fun k q hq => ?_, fun k q h => by simp at h⟩
  match k, hq with
  | 0, hq => cases hq; exact hKn0
  | 1, hq => cases hq; exact hKn1
  | k + 2, hq => simp [vwCl] at hq
theorem gd_start : gd (fun _ => 0) 0 := by
  refine ⟨by omega, fun u v hu => absurd hu (by omega), fun u _ _ => rfl⟩
theorem csJ_start : csJ (fun _ => 0) (cnum (fun _ => 0) 0) 0 := ⟨fun v hv => absurd hv (by omega), fun v _ _ => rfl⟩
theorem ewn_start : nI 0 = nI (ewn (fun _ => 0) 0 (zal 0)) := by
  have h : ewn (fun _ => 0) 0 (zal 0) = 0 := by decide
  rw [h]
set_option maxHeartbeats 4000000 in
set_option maxRecDepth 100000 in
/-- from the entry, for every script of at most 1536 ints, the law comes to its end with true -/
theorem whole_start {p : Program} {e : Env} {s : State} {m : MethodId} {below : List Frame} {meth : Method} {c : Code} (l : Launch) (hflags : l.flags = flags0) {b L : Nat} {xs : Nat → Int32} (hL : L ≤ 1536) (C0 : lw_At p s m meth c b L xs) : W p l e room_1 s m #[Value.ref b] below meth c s.heap [] 0 0 (lw_Z below #[Value.ref b] s) (entryFrame m ([Value.ref b] : List Value).toArray 9) := by
  obtain ⟨hx, hb, hr, hml, hown, hts0, hX, hbl, hlocks, hgv⟩ := id C0
  have hfl : l.stackTraces = false := by
    unfold Launch.stackTraces
    rw [hflags]
    decide
  have hts : ∀ w ∈ wsL_law, w.before #[Value.ref b] s = true := fun w hw => hts0 w (wsL_law_in w hw)
  have C : lwC p s m c b L xs := ⟨hx, hb, hml, hown, hts, hX, hbl, hL⟩
  have hTL : zThL s := lw_thL hts0 hgv
  have hA : ∀ q : Nat, s.heap.size ≤ q → lwAd s q := fun _ h => h
  obtain ⟨D, hK⟩ := lw_known hts0
  have hS : va_S (lwAd s) s.heap s.heap [] := va_S.rf
  have hP : va_P D vwCl [] s.heap := fun k q h => by simp at h
  have hD : va_D (lwAd s) [] := ⟨fun i j p q h => by simp at h, fun k q h => by simp at h⟩
  have hl := lv_entry ([.ref b]) (n := 9) (Nat.le_of_ble_eq_true rfl)
  rw [lg_entry_eq]
  generalize (lg_sl ([.ref b]) ++ List.replicate (9 - (lg_sl ([.ref b])).length) Slot.unset).toArray = ls at hl ⊢
  have hl : lv_has ls 9 [(0, .ref b)] := hl
  refine va_new (ci := 0) (fs := [.null, .null, .null, .int 0, .int 0, .int 0]) (C := RX0) (T := TX0) (N := 6) hx hb hts0 inX0 tyX0 tyX0_ok hown (hts0 (.classLink RL 8 RX0) (by decide +kernel)) (hts0 (.instantiable RX0 6) (by decide +kernel)) (hts0 (.initialized RX0) (by decide +kernel)) hK hP hD hS hA rfl (fun j hj => by rcases (show j = 0 ∨ j = 1 ∨ j = 2 ∨ j = 3 ∨ j = 4 ∨ j = 5 by omega) with rfl | rfl | rfl | rfl | rfl | rfl <;> rfl) (Nat.le_of_ble_eq_true rfl) (Nat.le_of_ble_eq_true rfl) dL_law_0 (fun h H hP hD hS => ?_)
  have hP : va_P D vwCl [(h, .inr (0, [.null, .null, .null, .int 0, .int 0, .int 0]))] H := hP
  have hD : va_D (lwAd s) [(h, .inr (0, [.null, .null, .null, .int 0, .int 0, .int 0]))] := hD
  refine lv_dup hx hb dL_law_3 rfl ?_
  have hPc := hP.sub (ws' := [(h, .inr (0, [.null, .null, .null, .int 0, .int 0, .int 0]))]) [0] rfl
  have hDc := hD.sub (ws' := [(h, .inr (0, [.null, .null, .null, .int 0, .int 0, .int 0]))]) [0] (by decide) rfl
  have hKc := hK.sub (tys' := []) [] rfl
  have hFc := va_free (wc := [(h, .inr (0, [.null, .null, .null, .int 0, .int 0, .int 0]))]) hD hS hA [0] rfl
  refine va_callv (va_runI (As := []) (rest := [.ref h]) ⟨hx, hb, hml, hown, hts⟩ (c_X0_init l D h H.size) (cwI 0 hts gL_law_X0_init rfl rfl rfl (hts0 (.initialized RX0) (by decide +kernel)) (hts0 (.methodLink RL 73 yX0_init) (by decide +kernel)) (hts0 (.instanceMethod yX0_init) (by decide +kernel)) rfl (by decide +kernel) ⟨Nat.le_of_ble_eq_true rfl, Nat.le_of_ble_eq_true rfl⟩) ⟨fun a U g mk q => by obtain ⟨q0, q1, qP, qK, qD⟩ := q; exact ⟨q0, q1, qP, va_K.moved (u := U) (U := U.calling g mk a) (Vm.Alike.refl U.vm) qK, qD⟩, fun U hU hW => ⟨rfl, by rw [hU], by rw [hU]; exact hPc, va_K.moved hW.alike hKc, hDc.weaken (fun _ _ _ _ => trivial)⟩⟩ rfl rfl hl.1 rfl (lv_room (Nat.le_of_ble_eq_true rfl)) dL_law_4 ⟨Nat.le_of_ble_eq_true rfl, Nat.le_of_ble_eq_true rfl⟩) hS (fun q _ h => hFc q h) hFc (fun u t H1 locs ht hvm hw hB hz1 hk1 hS => ?_)
  obtain ⟨a0, a1, a2, cy⟩ := u
  obtain ⟨hP1, hK1, hD1⟩ := hB
  rw [ht] at hP1
  have hK1 := va_K.moved hvm.symm hK1
  obtain ⟨hP, hD⟩ := va_join (wr := []) (w1 := wB h a0 a1 a2 cy 0 (nI 0) (nI 0) (fun _ => 0) (fun _ => 0) (fun _ => 0)) hP hD [0] [] rfl rfl (by decide) (by decide) hk1 hFc hP1 hD1
  have hK : va_K D vwCl [(cy, .int)] s := (hK.sub (tys' := []) [] rfl).app hK1
  generalize H1 = H at hP hS ⊢
  have hP : va_P D vwCl (wB h a0 a1 a2 cy 0 (nI 0) (nI 0) (fun _ => 0) (fun _ => 0) (fun _ => 0)) H := hP
  have hD : va_D (lwAd s) (wB h a0 a1 a2 cy 0 (nI 0) (nI 0) (fun _ => 0) (fun _ => 0) (fun _ => 0)) := hD
  refine lv_astore_n (lv' := [(1, .ref h), (0, .ref b)]) hx hb dL_law_7 rfl hl (by decide) rfl (fun ls hl => ?_)
  refine va_new (ci := 1) (fs := [.int 0, .int 0, .null, .int 0, .null, .null, .null, .null, .int 0, .int 0]) (C := RX1) (T := TX1) (N := 10) hx hb hts0 inX1 tyX1 tyX1_ok hown (hts0 (.classLink RL 74 RX1) (by decide +kernel)) (hts0 (.instantiable RX1 10) (by decide +kernel)) (hts0 (.initialized RX1) (by decide +kernel)) hK hP hD hS hA rfl (fun j hj => by rcases (show j = 0 ∨ j = 1 ∨ j = 2 ∨ j = 3 ∨ j = 4 ∨ j = 5 ∨ j = 6 ∨ j = 7 ∨ j = 8 ∨ j = 9 by omega) with rfl | rfl | rfl | rfl | rfl | rfl | rfl | rfl | rfl | rfl <;> rfl) (Nat.le_of_ble_eq_true rfl) (Nat.le_of_ble_eq_true rfl) dL_law_8 (fun h2 H hP hD hS => ?_)
  have hP : va_P D vwCl (wB h a0 a1 a2 cy 0 (nI 0) (nI 0) (fun _ => 0) (fun _ => 0) (fun _ => 0) ++ [(h2, .inr (1, [.int 0, .int 0, .null, .int 0, .null, .null, .null, .null, .int 0, .int 0]))]) H := hP
  have hD : va_D (lwAd s) (wB h a0 a1 a2 cy 0 (nI 0) (nI 0) (fun _ => 0) (fun _ => 0) (fun _ => 0) ++ [(h2, .inr (1, [.int 0, .int 0, .null, .int 0, .null, .null, .null, .null, .int 0, .int 0]))]) := hD
  refine lv_dup hx hb dL_law_11 rfl ?_
  have hPc := hP.sub (ws' := [(h2, .inr (1, [.int 0, .int 0, .null, .int 0, .null, .null, .null, .null, .int 0, .int 0]))]) [4] rfl
  have hDc := hD.sub (ws' := [(h2, .inr (1, [.int 0, .int 0, .null, .int 0, .null, .null, .null, .null, .int 0, .int 0]))]) [4] (by decide) rfl
  have hKc := hK.sub (tys' := []) [] rfl
  have hFc := va_free (wc := [(h2, .inr (1, [.int 0, .int 0, .null, .int 0, .null, .null, .null, .null, .int 0, .int 0]))]) hD hS hA [4] rfl
  refine va_callv (va_runI (As := []) (rest := [.ref h2]) ⟨hx, hb, hml, hown, hts⟩ (c_X1_init l D h2 H.size) (cwI 0 hts gL_law_X1_init rfl rfl rfl (hts0 (.initialized RX1) (by decide +kernel)) (hts0 (.methodLink RL 76 yX1_init) (by decide +kernel)) (hts0 (.instanceMethod yX1_init) (by decide +kernel)) rfl (by decide +kernel) ⟨Nat.le_of_ble_eq_true rfl, Nat.le_of_ble_eq_true rfl⟩) ⟨fun a U g mk q => by obtain ⟨q0, q1, qP, qK, qD⟩ := q; exact ⟨q0, q1, qP, va_K.moved (u := U) (U := U.calling g mk a) (Vm.Alike.refl U.vm) qK, qD⟩, fun U hU hW => ⟨rfl, by rw [hU], by rw [hU]; exact hPc, va_K.moved hW.alike hKc, hDc.weaken (fun _ _ _ _ => trivial)⟩⟩ rfl rfl hl.1 rfl (lv_room (Nat.le_of_ble_eq_true rfl)) dL_law_12 ⟨Nat.le_of_ble_eq_true rfl, Nat.le_of_ble_eq_true rfl⟩) hS (fun q _ h => hFc q h) hFc (fun u t H1 locs ht hvm hw hB hz1 hk1 hS => ?_)
  obtain ⟨b0, b1, b2, b3, b4, cy2⟩ := u
  obtain ⟨hP1, hK1, hD1⟩ := hB
  rw [ht] at hP1
  have hK1 := va_K.moved hvm.symm hK1
  obtain ⟨hP, hD⟩ := va_join (wr := wB h a0 a1 a2 cy 0 (nI 0) (nI 0) (fun _ => 0) (fun _ => 0) (fun _ => 0)) (w1 := wM h2 b0 b1 b2 b3 b4 cy2 0 0 0 0 (nI 0) (fun _ => 0) (fun _ => 0) (fun _ => 0) (fun _ => 0) (fun _ => 0)) hP hD [4] [0, 1, 2, 3] rfl rfl (by decide) (by decide) hk1 hFc hP1 hD1
  have hK : va_K D vwCl [(cy, .int), (cy2, .int)] s := hK.app hK1
  obtain rfl : cy = cy2 := zcy hK 0 1 rfl rfl
  have hK : va_K D vwCl [(cy, .int)] s := hK.sub [0] rfl
  generalize H1 = H at hP hS ⊢
  have hP : va_P D vwCl (wB h a0 a1 a2 cy 0 (nI 0) (nI 0) (fun _ => 0) (fun _ => 0) (fun _ => 0) ++ wM h2 b0 b1 b2 b3 b4 cy 0 0 0 0 (nI 0) (fun _ => 0) (fun _ => 0) (fun _ => 0) (fun _ => 0) (fun _ => 0)) H := hP
  have hD : va_D (lwAd s) (wB h a0 a1 a2 cy 0 (nI 0) (nI 0) (fun _ => 0) (fun _ => 0) (fun _ => 0) ++ wM h2 b0 b1 b2 b3 b4 cy 0 0 0 0 (nI 0) (fun _ => 0) (fun _ => 0) (fun _ => 0) (fun _ => 0) (fun _ => 0)) := hD
  refine lv_astore_n (lv' := [(2, .ref h2), (1, .ref h), (0, .ref b)]) hx hb dL_law_15 rfl hl (by decide) rfl (fun ls hl => ?_)
  refine lv_iconst (v := nI 1) hx hb dL_law_16 (by decide) ?_
  refine va_newa (atype := .long) (ty := .long) (a0 := (1, .inr (.inl (fun _ => 0)))) (N' := 1) hx hb (hts0 (.arrayClass .long) (by decide +kernel)) rfl hK hP hD hS hA (fun _ => rfl) (by decide) (by decide) (by decide) (Nat.le_of_ble_eq_true rfl) (Nat.le_of_ble_eq_true rfl) dL_law_17 (fun o cl H hK hP hD hS => ?_)
  refine lv_astore_n (lv' := [(3, .ref o), (2, .ref h2), (1, .ref h), (0, .ref b)]) hx hb dL_law_19 rfl hl (by decide) rfl (fun ls hl => ?_)
  refine lv_iconst (v := nI 0) hx hb dL_law_20 (by decide) ?_
  refine lv_istore (lv' := [(4, .int (nI 0)), (3, .ref o), (2, .ref h2), (1, .ref h), (0, .ref b)]) hx hb dL_law_21 hl (by decide) rfl (fun ls hl => ?_)
  refine W.widen (k := 11) (n := 177) (Nat.le_of_ble_eq_true rfl) (Nat.le_of_ble_eq_true rfl) ?_
  refine lw_loop (D := D) (cy := cy) (cl := cl) (h := h) (a0 := a0) (a1 := a1) (a2 := a2) (o := o) (h2 := h2) (b0 := b0) (b1 := b1) (b2 := b2) (b3 := b3) (b4 := b4) C hK hTL hfl (fun H1 locs1 ls1 hS1 => ?_) L 0 0 (fun _ => 0) H _ ls (by omega) (by omega) ?_ hS (lv_sub hl [4, 3, 2, 1, 0] rfl)
  · refine va_forget (fun q hq => hS1.2.2 q hq) ?_
    refine lv_iconst (v := nI 1) hx hb dL_law_1340 (by decide) ?_
    exact lw_ret (d0 := s.drawn) (Drawn.sameBut.refl s.drawn lw_cs) hx hb hr hlocks dL_law_1341
  · exact ⟨gd_start, _, _, _, _, _, _, _, _, _, _, _, _, csJ_start, ewn_start, hP.sub [10, 0, 1, 2, 3, 4, 5, 6, 7, 8, 9] rfl, hD.sub [10, 0, 1, 2, 3, 4, 5, 6, 7, 8, 9] (by decide) rfl⟩
