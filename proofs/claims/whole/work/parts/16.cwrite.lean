theorem tI_self {g : Nat → Int32} {N : Nat} {k : Int} (hg : gd g N) : tI g N k g := (tO_0 k hg (fun _ _ => rfl)).1
theorem mul_nz {tr g : Nat → Int32} {N : Nat} {k : Int} (h : isTr (nz tr N) N k g) : isTr tr N k g := isTr_cong (fun w hw => nz_in hw) h
set_option maxHeartbeats 4000000 in
set_option maxRecDepth 100000 in
theorem c_X0_changeCores (l : Launch) (D : va_G) (cy : ClassId) (h a0 a1 a2 N : Nat) (ec cc : Int32) (f cs tr : Nat → Int32) (sz : Nat) (x d : Int32) (hN : N ≤ 20) : Met l yX0_changeCores wsX0_changeCores ({ frames := 2, cells := 0, slots := 0, locals := 41 } : Room) (va_Pc [.ref h, .int x, .int d] (zWr D (wB h a0 a1 a2 cy N ec cc f cs tr) [(cy, .int)] sz)) (va_Qi (fun (r : Int32) (z9 : Unit) => r = nI (zpop x)) (fun (z9 : Unit) t => va_P D vwCl (wB h a0 a1 a2 cy N ec (cc + nI (zpop x)) f (chp cs x d N) tr) t.heap) (va_A (wB h a0 a1 a2 cy N ec cc f cs tr) sz)) 0 0 (va_A (wB h a0 a1 a2 cy N ec cc f cs tr) sz) := by
  refine Met.ofW (cc := cX0_changeCores) (maxL := 4) (ret := (some .int)) (by decide) rfl ?_
  intro p e s m args below meth c s₁ B hml hv
  obtain ⟨rfl, hsz, hP, hK, hD0⟩ := hv
  have hx := B.exec
  have hb := B.bytes
  have hr := B.returns
  have hts := atoms_spec (ws := wsX0_changeCores) B.pre
  have hown : s.vm.findClass RX0 = some m.cls := findClass_of_methodNamed B.named
  have hlocks := B.notSynchronized
  subst hsz
  have hD := hD0.self (sz := s.heap.size)
  generalize hAe : va_A (wB h a0 a1 a2 cy N ec cc f cs tr) s.heap.size = A at hD ⊢
  have hA : ∀ q : Nat, s.heap.size ≤ q → A q := fun q h => by rw [← hAe]; exact Or.inr h
  have hS : va_S A s.heap s.heap [] := va_S.rf
  have hin : ∀ w ∈ wsX00, w ∈ wsX0_changeCores := by decide +kernel
  have hf13 := hts (.fieldLink RX0 13 "Corebarn" "cores" "[I") (by decide +kernel)
  have hf19 := hts (.fieldLink RX0 19 "Corebarn" "nodeCount" "I") (by decide +kernel)
  have hf26 := hts (.fieldLink RX0 26 "Corebarn" "coreChanges" "I") (by decide +kernel)
  have hl := lv_entry ([.ref h, .int x, .int d]) (n := 4) (Nat.le_of_ble_eq_true rfl)
  rw [lg_entry_eq]
  generalize (lg_sl ([.ref h, .int x, .int d]) ++ List.replicate (4 - (lg_sl ([.ref h, .int x, .int d])).length) Slot.unset).toArray = ls at hl ⊢
  have hl : lv_has ls 4 [(0, .ref h), (1, .int x), (2, .int d)] := hl
  refine lv_iconst (v := (nI 0)) hx hb dX0_changeCores_0 (by decide) ?_
  refine lv_istore_n (lv' := [(3, .int (nI 0)), (0, .ref h), (1, .int x), (2, .int d)]) hx hb dX0_changeCores_1 rfl hl (by decide) rfl (fun ls hl => ?_)
  have K2 : ∀ (fu2 : Nat) (i : Nat) (g1 : Nat → Int32) (H : Heap) (locs : List Loc) (ls : Array Slot), (i ≤ N) → (g1 = chp cs x d i) → N - i < fu2 → va_P D vwCl (wB h a0 a1 a2 cy N ec cc f g1 tr) H → va_S A s.heap H locs → lv_has ls 4 [(3, .int (nI i)), (0, .ref h), (1, .int x), (2, .int d)] → W p l e (headSpec wsX0_changeCores ({ frames := 2, cells := 0, slots := 0, locals := 41 } : Room)).room s m ([.ref h, .int x, .int d] : List Value).toArray below meth c H locs 0 0 (MQ below (va_Qi (fun (r : Int32) (z9 : Unit) => r = nI (zpop x)) (fun (z9 : Unit) t => va_P D vwCl (wB h a0 a1 a2 cy N ec (cc + nI (zpop x)) f (chp cs x d N) tr) t.heap) A) ([.ref h, .int x, .int d] : List Value).toArray s 0 0 A) (F0 m 2 ls []) := by
    intro fu2
    induction fu2 with
    | zero =>
      intro i g1 H locs ls hi hg1 hfu2
      exact absurd hfu2 (Nat.not_lt_zero _)
    | succ fu2 ih2 =>
      intro i g1 H locs ls hi hg1 hfu2 hP hS hl
      have hD : va_D A (wB h a0 a1 a2 cy N ec cc f g1 tr) := zD hD rfl
      refine lv_iload_n hx hb dX0_changeCores_2 rfl (lv_at hl 0 rfl) ?_
      refine lv_aload_n hx hb dX0_changeCores_3 rfl (lv_at hl 1 rfl) ?_
      refine va_get (D := D) (ci := 0) (v := .int (nI N)) (C := RX0) (T := TX0) (N := 6) hx hb hts hin hown hK hP 0 rfl rfl 3 (by decide) hf19 (fun _ h9 => h9) rfl dX0_changeCores_4 ?_
      refine z_icmp_ge (tgt := 34) hx hb dX0_changeCores_7 (by decide) (by omega) (by omega) (fun h7 => ?_) (fun h7 => ?_)
      · refine lv_aload_n hx hb dX0_changeCores_34 rfl (lv_at hl 1 rfl) ?_
        refine lv_dup hx hb dX0_changeCores_35 rfl ?_
        refine va_get (D := D) (ci := 0) (v := .int cc) (C := RX0) (T := TX0) (N := 6) hx hb hts hin hown hK hP 0 rfl rfl 5 (by decide) hf26 (fun _ h9 => h9) rfl dX0_changeCores_36 ?_
        refine lv_iload_n hx hb dX0_changeCores_39 rfl (lv_at hl 2 rfl) ?_
        refine zrS0 (As := [.int x]) (rest := [.int cc, .ref h]) ⟨hx, hb, hml, hown, hts⟩ (c_X0_size l x) (va_cwS 1 hts gX0_changeCores_X0_size rfl rfl rfl (by decide +kernel) ⟨Nat.le_of_ble_eq_true rfl, Nat.le_of_ble_eq_true rfl⟩) rfl hl rfl (Nat.le_of_ble_eq_true rfl) dX0_changeCores_40 ⟨Nat.le_of_ble_eq_true rfl, Nat.le_of_ble_eq_true rfl⟩ hS (fun r40 H locs hw40 hk9 hS => ?_)
        obtain rfl : r40 = (nI (zpop x)) := hw40
        have hP := zkeep hP hk9
        refine lv_iadd hx hb dX0_changeCores_43 ?_
        refine va_put (D := D) (ci := 0) (v := .int (cc + (nI (zpop x)))) (ty := .int) (C := RX0) (T := TX0) (N := 6) hx hb hts hin tyX0 tyX0_ok nmX0 hown hK hP hD hS 0 rfl rfl 5 (by decide) hf26 (fun _ h9 => h9) rfl (by decide +kernel) rfl rfl (Nat.le_of_ble_eq_true rfl) dX0_changeCores_44 (fun H locs hP hD hS => ?_)
        have hP : va_P D vwCl (wB h a0 a1 a2 cy N ec (cc + (nI (zpop x))) f g1 tr) H := hP
        have hD : va_D A (wB h a0 a1 a2 cy N ec (cc + (nI (zpop x))) f g1 tr) := hD
        refine lv_iload_n hx hb dX0_changeCores_47 rfl (lv_at hl 2 rfl) ?_
        refine zrS0 (As := [.int x]) (rest := []) ⟨hx, hb, hml, hown, hts⟩ (c_X0_size l x) (va_cwS 1 hts gX0_changeCores_X0_size rfl rfl rfl (by decide +kernel) ⟨Nat.le_of_ble_eq_true rfl, Nat.le_of_ble_eq_true rfl⟩) rfl hl rfl (Nat.le_of_ble_eq_true rfl) dX0_changeCores_48 ⟨Nat.le_of_ble_eq_true rfl, Nat.le_of_ble_eq_true rfl⟩ hS (fun r48 H locs hw48 hk9 hS => ?_)
        obtain rfl : r48 = (nI (zpop x)) := hw48
        have hP := zkeep hP hk9
        exact W.iret (v := (nI (zpop x))) hx hb hr (fun t9 ht9 hW9 => ⟨⟨(nI (zpop x)), (), rfl, rfl, by show va_P D vwCl (wB h a0 a1 a2 cy N ec (cc + nI (zpop x)) f (chp cs x d N) tr) t9.heap; rw [ht9]; rw [hg1, Nat.le_antisymm hi h7] at hP; exact hP⟩, hS.F ht9⟩) hS.2.2 dX0_changeCores_51
      · refine lv_iload_n hx hb dX0_changeCores_10 rfl (lv_at hl 2 rfl) ?_
        refine lv_iload_n hx hb dX0_changeCores_11 rfl (lv_at hl 0 rfl) ?_
        refine zrS0 (As := [.int x, .int (nI i)]) (rest := []) ⟨hx, hb, hml, hown, hts⟩ (c_X0_contains l x i (by omega)) (va_cwS 2 hts gX0_changeCores_X0_contains rfl rfl rfl (by decide +kernel) ⟨Nat.le_of_ble_eq_true rfl, Nat.le_of_ble_eq_true rfl⟩) rfl hl rfl (Nat.le_of_ble_eq_true rfl) dX0_changeCores_12 ⟨Nat.le_of_ble_eq_true rfl, Nat.le_of_ble_eq_true rfl⟩ hS (fun r12 H locs hw12 hk9 hS => ?_)
        obtain rfl : r12 = (zb (bt x i)) := hw12
        have hP := zkeep hP hk9
        refine z_ifb_eq (tgt := 28) hx hb dX0_changeCores_15 (by decide) (fun h15 => ?_) (fun h15 => ?_)
        · refine lv_iinc (v := (nI (i + 1))) (lv' := [(3, .int (nI (i + 1))), (0, .ref h), (1, .int x), (2, .int d)]) hx hb dX0_changeCores_28 hl (k := 0) rfl (nI_1 _) (by decide) rfl (fun ls hl => ?_)
          refine lv_goto (tgt := 2) hx hb dX0_changeCores_31 (by decide) ?_
          exact ih2 (i + 1) g1 _ _ _ (by omega) (by rw [hg1]; exact chp_no h15) (by omega) hP hS (lv_sub hl [0, 1, 2, 3] rfl)
        · refine lv_aload_n hx hb dX0_changeCores_18 rfl (lv_at hl 1 rfl) ?_
          refine va_get (D := D) (ci := 0) (v := .ref a1) (C := RX0) (T := TX0) (N := 6) hx hb hts hin hown hK hP 0 rfl rfl 1 (by decide) hf13 (fun _ h9 => h9) rfl dX0_changeCores_19 ?_
          refine lv_iload_n hx hb dX0_changeCores_22 rfl (lv_at hl 0 rfl) ?_
          refine lv_dup2_11 hx hb dX0_changeCores_23 rfl rfl ?_
          refine z_iald hx hb hK hP 2 0 rfl rfl (by omega) (by decide) dX0_changeCores_24 ?_
          refine lv_iload_n hx hb dX0_changeCores_25 rfl (lv_at hl 3 rfl) ?_
          refine lv_iadd hx hb dX0_changeCores_26 ?_
          refine z_iast hx hb hK hP hD hS 2 0 rfl rfl (by omega) (by decide) dX0_changeCores_27 (fun H locs hP hS => ?_)
          have hP : va_P D vwCl (wB h a0 a1 a2 cy N ec cc f (upd g1 i ((g1 i) + d)) tr) H := hP
          have hD : va_D A (wB h a0 a1 a2 cy N ec cc f (upd g1 i ((g1 i) + d)) tr) := zD hD rfl
          refine lv_iinc (v := (nI (i + 1))) (lv' := [(3, .int (nI (i + 1))), (0, .ref h), (1, .int x), (2, .int d)]) hx hb dX0_changeCores_28 hl (k := 0) rfl (nI_1 _) (by decide) rfl (fun ls hl => ?_)
          refine lv_goto (tgt := 2) hx hb dX0_changeCores_31 (by decide) ?_
          exact ih2 (i + 1) (upd g1 i ((g1 i) + d)) _ _ _ (by omega) (by rw [hg1]; exact chp_yes h15) (by omega) hP hS (lv_sub hl [0, 1, 2, 3] rfl)
  exact K2 (N - 0 + 1) 0 cs _ _ _ (by omega) (chp_0 cs x d).symm (Nat.lt_succ_self _) hP hS (lv_sub hl [0, 1, 2, 3] rfl)

set_option maxHeartbeats 4000000 in
set_option maxRecDepth 100000 in
theorem c_X0_raiseCores (l : Launch) (D : va_G) (cy : ClassId) (h a0 a1 a2 N : Nat) (ec cc : Int32) (f cs tr : Nat → Int32) (sz : Nat) (u v : Nat) (f0 : Nat → Int32) (hg0 : gd f0 N) (hg : gd f N) (hu : u < N) (hv : v < N) (he : edg f0 f u v) (hcs : csJ cs (cnum f0 N) N) : Met l yX0_raiseCores wsX0_raiseCores ({ frames := 5, cells := 0, slots := 0, locals := 108 } : Room) (va_Pc [.ref h, .int (nI u), .int (nI v)] (zWr D (wB h a0 a1 a2 cy N ec cc f cs tr) [(cy, .int)] sz)) (va_Qi (fun (r : Int32) (z9 : (Nat → Int32)) => r = nI (chg (cnum f0 N) (cnum f N) N) ∧ csJ z9 (cnum f N) N) (fun (z9 : (Nat → Int32)) t => va_P D vwCl (wB h a0 a1 a2 cy N ec (cc + nI (chg (cnum f0 N) (cnum f N) N)) f z9 tr) t.heap) (va_A (wB h a0 a1 a2 cy N ec cc f cs tr) sz)) 0 0 (va_A (wB h a0 a1 a2 cy N ec cc f cs tr) sz) := by
  refine Met.ofW (cc := cX0_raiseCores) (maxL := 5) (ret := (some .int)) (by decide) rfl ?_
  intro p e s m args below meth c s₁ B hml hv
  obtain ⟨rfl, hsz, hP, hK, hD0⟩ := hv
  have hx := B.exec
  have hb := B.bytes
  have hr := B.returns
  have hts := atoms_spec (ws := wsX0_raiseCores) B.pre
  have hown : s.vm.findClass RX0 = some m.cls := findClass_of_methodNamed B.named
  have hlocks := B.notSynchronized
  subst hsz
  have hD := hD0.self (sz := s.heap.size)
  generalize hAe : va_A (wB h a0 a1 a2 cy N ec cc f cs tr) s.heap.size = A at hD ⊢
  have hA : ∀ q : Nat, s.heap.size ≤ q → A q := fun q h => by rw [← hAe]; exact Or.inr h
  have hS : va_S A s.heap s.heap [] := va_S.rf
  have hin : ∀ w ∈ wsX00, w ∈ wsX0_raiseCores := by decide +kernel
  have hf13 := hts (.fieldLink RX0 13 "Corebarn" "cores" "[I") (by decide +kernel)
  have hN := hg.1
  have hcu := cnum_lt hg0 hu
  have hcv := cnum_lt hg0 hv
  obtain ⟨m9, hm9⟩ : ∃ z, z = min (cnum f0 N u) (cnum f0 N v) := ⟨_, rfl⟩
  have hl := lv_entry ([.ref h, .int (nI u), .int (nI v)]) (n := 5) (Nat.le_of_ble_eq_true rfl)
  rw [lg_entry_eq]
  generalize (lg_sl ([.ref h, .int (nI u), .int (nI v)]) ++ List.replicate (5 - (lg_sl ([.ref h, .int (nI u), .int (nI v)])).length) Slot.unset).toArray = ls at hl ⊢
  have hl : lv_has ls 5 [(0, .ref h), (1, .int (nI u)), (2, .int (nI v))] := hl
  refine lv_aload_n hx hb dX0_raiseCores_0 rfl (lv_at hl 0 rfl) ?_
  refine va_get (D := D) (ci := 0) (v := .ref a1) (C := RX0) (T := TX0) (N := 6) hx hb hts hin hown hK hP 0 rfl rfl 1 (by decide) hf13 (fun _ h9 => h9) rfl dX0_raiseCores_1 ?_
  refine lv_iload_n hx hb dX0_raiseCores_4 rfl (lv_at hl 1 rfl) ?_
  refine z_iald hx hb hK hP 2 0 rfl rfl (by omega) (by decide) dX0_raiseCores_5 ?_
  rw [(hcs.1 u hu).1]
  refine lv_aload_n hx hb dX0_raiseCores_6 rfl (lv_at hl 0 rfl) ?_
  refine va_get (D := D) (ci := 0) (v := .ref a1) (C := RX0) (T := TX0) (N := 6) hx hb hts hin hown hK hP 0 rfl rfl 1 (by decide) hf13 (fun _ h9 => h9) rfl dX0_raiseCores_7 ?_
  refine lv_iload_n hx hb dX0_raiseCores_10 rfl (lv_at hl 2 rfl) ?_
  refine z_iald hx hb hK hP 2 0 rfl rfl (by omega) (by decide) dX0_raiseCores_11 ?_
  rw [(hcs.1 v hv).1]
  refine va_mmin hx hb (by rw [hml]; exact hl.1.symm) hown (hts (.methodLink RX0 92 Lib.Math.min.name) (by decide +kernel)) (hts (.static Lib.Math.min.name) (by decide +kernel)) (hts (.initialized "java/lang/Math") (by decide +kernel)) (hts (.code Lib.Math.min.name Lib.Math.min.code 2 (some .int)) (by decide +kernel)) (Nat.le_of_ble_eq_true rfl) (Nat.le_of_ble_eq_true rfl) (Nat.le_of_ble_eq_true rfl) (Nat.le_of_ble_eq_true rfl) dX0_raiseCores_12 ?_
  rw [z_min (a := cnum f0 N u) (b := cnum f0 N v) (by omega) (by omega), ← hm9]
  refine lv_istore_n (lv' := [(3, .int (nI m9)), (0, .ref h), (1, .int (nI u)), (2, .int (nI v))]) hx hb dX0_raiseCores_15 rfl hl (by decide) rfl (fun ls hl => ?_)
  refine lv_aload_n hx hb dX0_raiseCores_16 rfl (lv_at hl 1 rfl) ?_
  refine lv_iload_n hx hb dX0_raiseCores_17 rfl (lv_at hl 2 rfl) ?_
  refine lv_iload_n hx hb dX0_raiseCores_18 rfl (lv_at hl 3 rfl) ?_
  refine lv_iload_n hx hb dX0_raiseCores_19 rfl (lv_at hl 0 rfl) ?_
  refine zrV (As := [.int (nI u), .int (nI v), .int (nI m9)]) (rest := []) 0 ⟨hx, hb, hml, hown, hts⟩ (c_X0_nearShell l D cy h a0 a1 a2 N ec cc f cs tr u v (nI m9) hN) (cwV 3 hts gX0_raiseCores_X0_nearShell rfl rfl rfl (by decide +kernel) ⟨Nat.le_of_ble_eq_true rfl, Nat.le_of_ble_eq_true rfl⟩) hK hP rfl rfl rfl hl rfl (Nat.le_of_ble_eq_true rfl) dX0_raiseCores_20 ⟨Nat.le_of_ble_eq_true rfl, Nat.le_of_ble_eq_true rfl⟩ hS (fun r20 H locs hw20 hk9 hS => ?_)
  have hw20 : rch f (zsg u ||| zsg v) (zmk (fun i => decide ((nI m9) ≤ cs i)) N &&& znt (zmk (fun i => decide ((nI m9) + nI 1 ≤ cs i)) N)) r20 := hw20
  rw [shl_of hN hcs.1 (k := m9) (by omega), hm9] at hw20
  have hnear := hw20
  have hP := zkeep hP hk9
  refine lv_istore (lv' := [(4, .int r20), (3, .int (nI m9)), (0, .ref h), (1, .int (nI u)), (2, .int (nI v))]) hx hb dX0_raiseCores_23 hl (by decide) rfl (fun ls hl => ?_)
  refine lv_aload_n hx hb dX0_raiseCores_25 rfl (lv_at hl 2 rfl) ?_
  refine lv_aload_n hx hb dX0_raiseCores_26 rfl (lv_at hl 2 rfl) ?_
  refine lv_iload hx hb dX0_raiseCores_27 (lv_at hl 0 rfl) ?_
  refine lv_aload_n hx hb dX0_raiseCores_29 rfl (lv_at hl 2 rfl) ?_
  refine lv_iload_n hx hb dX0_raiseCores_30 rfl (lv_at hl 1 rfl) ?_
  refine lv_iconst (v := (nI 1)) hx hb dX0_raiseCores_31 (by decide) ?_
  refine z_iadd hx hb dX0_raiseCores_32 ?_
  refine zrV (As := [.int (nI (m9 + 1))]) (rest := [.int r20, .ref h, .ref h]) 0 ⟨hx, hb, hml, hown, hts⟩ (c_X0_coreSet l D cy h a0 a1 a2 N ec cc f cs tr (nI (m9 + 1)) hN) (cwV 1 hts gX0_raiseCores_X0_coreSet rfl rfl rfl (by decide +kernel) ⟨Nat.le_of_ble_eq_true rfl, Nat.le_of_ble_eq_true rfl⟩) hK hP rfl rfl rfl hl rfl (Nat.le_of_ble_eq_true rfl) dX0_raiseCores_33 ⟨Nat.le_of_ble_eq_true rfl, Nat.le_of_ble_eq_true rfl⟩ hS (fun r33 H locs hw33 hk9 hS => ?_)
  obtain rfl : r33 = (zmk (fun i => decide ((nI (m9 + 1)) ≤ cs i)) N) := hw33
  have hP := zkeep hP hk9
  rw [cst_of hN hcs.1 (k := m9 + 1) (by omega)]
  refine lv_iload_n hx hb dX0_raiseCores_36 rfl (lv_at hl 1 rfl) ?_
  refine lv_iconst (v := (nI 1)) hx hb dX0_raiseCores_37 (by decide) ?_
  refine z_iadd hx hb dX0_raiseCores_38 ?_
  refine zrV (As := [.int r20, .int (cst (cnum f0 N) N ((m9 + 1 : Nat) : Int)), .int (nI (m9 + 1))]) (rest := [.ref h]) 0 ⟨hx, hb, hml, hown, hts⟩ (c_X0_supportedPart l D cy h a0 a1 a2 N ec cc f cs tr r20 (cst (cnum f0 N) N ((m9 + 1 : Nat) : Int)) (nI (m9 + 1)) hN (sub_le hnear.1 (shell_sub hN _))) (cwV 3 hts gX0_raiseCores_X0_supportedPart rfl rfl rfl (by decide +kernel) ⟨Nat.le_of_ble_eq_true rfl, Nat.le_of_ble_eq_true rfl⟩) hK hP rfl rfl rfl hl rfl (Nat.le_of_ble_eq_true rfl) dX0_raiseCores_39 ⟨Nat.le_of_ble_eq_true rfl, Nat.le_of_ble_eq_true rfl⟩ hS (fun r39 H locs hw39 hk9 hS => ?_)
  have hw39 : spt f r20 (cst (cnum f0 N) N ((m9 + 1 : Nat) : Int)) ((nI (m9 + 1))).toInt r39 := hw39
  have hsp : spt f r20 (cst (cnum f0 N) N (((m9 : Nat) : Int) + 1)) (((m9 : Nat) : Int) + 1) r39 := by rw [toI1 (by omega)] at hw39; exact hw39
  rw [hm9] at hsp
  obtain ⟨hk1, hk2, hk3⟩ := raise_ok hg0 hg hu hv he hcs hnear hsp
  have hP := zkeep hP hk9
  refine lv_iconst (v := (nI 1)) hx hb dX0_raiseCores_42 (by decide) ?_
  refine zwVi (As := [.int r39, .int (nI 1)]) (rest := []) 0 [0, 1, 2, 3] rfl ⟨hx, hb, hml, hown, hts⟩ (c_X0_changeCores l D cy h a0 a1 a2 N ec cc f cs tr _ r39 (nI 1) hN) (cwV 2 hts gX0_raiseCores_X0_changeCores rfl rfl rfl (by decide +kernel) ⟨Nat.le_of_ble_eq_true rfl, Nat.le_of_ble_eq_true rfl⟩) hK hP hD hA rfl rfl rfl hl rfl (Nat.le_of_ble_eq_true rfl) dX0_raiseCores_43 ⟨Nat.le_of_ble_eq_true rfl, Nat.le_of_ble_eq_true rfl⟩ hS (fun r43 u43 H locs hw43 hP hS => ?_)
  have hP : va_P D vwCl (wB h a0 a1 a2 cy N ec (cc + nI (zpop r39)) f (chp cs r39 (nI 1) N) tr) H := hP
  have hD : va_D A (wB h a0 a1 a2 cy N ec (cc + nI (zpop r39)) f (chp cs r39 (nI 1) N) tr) := zD hD rfl
  obtain rfl : r43 = (nI (zpop r39)) := hw43
  exact W.iret (v := (nI (zpop r39))) hx hb hr (fun t9 ht9 hW9 => ⟨⟨(nI (zpop r39)), (chp cs r39 (nI 1) N), rfl, ⟨by rw [hk2], hk3⟩, by show va_P D vwCl (wB h a0 a1 a2 cy N ec (cc + nI (chg (cnum f0 N) (cnum f N) N)) f (chp cs r39 (nI 1) N) tr) t9.heap; rw [ht9]; rw [← hk2]; exact hP⟩, hS.F ht9⟩) hS.2.2 dX0_raiseCores_46

set_option maxHeartbeats 4000000 in
set_option maxRecDepth 100000 in
theorem c_X0_cutEdge (l : Launch) (D : va_G) (cy : ClassId) (h a0 a1 a2 N : Nat) (ec cc : Int32) (f cs tr : Nat → Int32) (sz : Nat) (u v : Nat) (hg : gd f N) (hu : u < N) (hv : v < N) (he : bt (f u) v = true) (hcs : csJ cs (cnum f N) N) : Met l yX0_cutEdge wsX0_cutEdge ({ frames := 5, cells := 0, slots := 0, locals := 108 } : Room) (va_Pc [.ref h, .int (nI u), .int (nI v)] (zWr D (wB h a0 a1 a2 cy N ec cc f cs tr) [(cy, .int)] sz)) (va_Qi (fun (r : Int32) (z9 : (Nat → Int32)) => r = nI (chg (cnum f N) (cnum (tgl f u v) N) N) ∧ csJ z9 (cnum (tgl f u v) N) N) (fun (z9 : (Nat → Int32)) t => va_P D vwCl (wB h a0 a1 a2 cy N (ec - nI 1) (cc + nI (chg (cnum f N) (cnum (tgl f u v) N) N)) (tgl f u v) z9 tr) t.heap) (va_A (wB h a0 a1 a2 cy N ec cc f cs tr) sz)) 0 0 (va_A (wB h a0 a1 a2 cy N ec cc f cs tr) sz) := by
  refine Met.ofW (cc := cX0_cutEdge) (maxL := 5) (ret := (some .int)) (by decide) rfl ?_
  intro p e s m args below meth c s₁ B hml hv
  obtain ⟨rfl, hsz, hP, hK, hD0⟩ := hv
  have hx := B.exec
  have hb := B.bytes
  have hr := B.returns
  have hts := atoms_spec (ws := wsX0_cutEdge) B.pre
  have hown : s.vm.findClass RX0 = some m.cls := findClass_of_methodNamed B.named
  have hlocks := B.notSynchronized
  subst hsz
  have hD := hD0.self (sz := s.heap.size)
  generalize hAe : va_A (wB h a0 a1 a2 cy N ec cc f cs tr) s.heap.size = A at hD ⊢
  have hA : ∀ q : Nat, s.heap.size ≤ q → A q := fun q h => by rw [← hAe]; exact Or.inr h
  have hS : va_S A s.heap s.heap [] := va_S.rf
  have hin : ∀ w ∈ wsX00, w ∈ wsX0_cutEdge := by decide +kernel
  have hf9 := hts (.fieldLink RX0 9 "Corebarn" "neighbours" "[I") (by decide +kernel)
  have hf13 := hts (.fieldLink RX0 13 "Corebarn" "cores" "[I") (by decide +kernel)
  have hf23 := hts (.fieldLink RX0 23 "Corebarn" "edgeCount" "I") (by decide +kernel)
  have hN := hg.1
  have hcu := cnum_lt hg hu
  have hcv := cnum_lt hg hv
  have hsy := hg.2.1 u v hu he
  have huv : u ≠ v := Ne.symm hsy.2.1
  have hg1 := gd_tgl hg hu hv huv
  have hct := cut_tgl huv (by omega) (by omega) he hsy.2.2
  obtain ⟨m9, hm9⟩ : ∃ z, z = min (cnum f N u) (cnum f N v) := ⟨_, rfl⟩
  have hl := lv_entry ([.ref h, .int (nI u), .int (nI v)]) (n := 5) (Nat.le_of_ble_eq_true rfl)
  rw [lg_entry_eq]
  generalize (lg_sl ([.ref h, .int (nI u), .int (nI v)]) ++ List.replicate (5 - (lg_sl ([.ref h, .int (nI u), .int (nI v)])).length) Slot.unset).toArray = ls at hl ⊢
  have hl : lv_has ls 5 [(0, .ref h), (1, .int (nI u)), (2, .int (nI v))] := hl
  refine lv_aload_n hx hb dX0_cutEdge_0 rfl (lv_at hl 0 rfl) ?_
  refine va_get (D := D) (ci := 0) (v := .ref a1) (C := RX0) (T := TX0) (N := 6) hx hb hts hin hown hK hP 0 rfl rfl 1 (by decide) hf13 (fun _ h9 => h9) rfl dX0_cutEdge_1 ?_
  refine lv_iload_n hx hb dX0_cutEdge_4 rfl (lv_at hl 1 rfl) ?_
  refine z_iald hx hb hK hP 2 0 rfl rfl (by omega) (by decide) dX0_cutEdge_5 ?_
  rw [(hcs.1 u hu).1]
  refine lv_aload_n hx hb dX0_cutEdge_6 rfl (lv_at hl 0 rfl) ?_
  refine va_get (D := D) (ci := 0) (v := .ref a1) (C := RX0) (T := TX0) (N := 6) hx hb hts hin hown hK hP 0 rfl rfl 1 (by decide) hf13 (fun _ h9 => h9) rfl dX0_cutEdge_7 ?_
  refine lv_iload_n hx hb dX0_cutEdge_10 rfl (lv_at hl 2 rfl) ?_
  refine z_iald hx hb hK hP 2 0 rfl rfl (by omega) (by decide) dX0_cutEdge_11 ?_
  rw [(hcs.1 v hv).1]
  refine va_mmin hx hb (by rw [hml]; exact hl.1.symm) hown (hts (.methodLink RX0 92 Lib.Math.min.name) (by decide +kernel)) (hts (.static Lib.Math.min.name) (by decide +kernel)) (hts (.initialized "java/lang/Math") (by decide +kernel)) (hts (.code Lib.Math.min.name Lib.Math.min.code 2 (some .int)) (by decide +kernel)) (Nat.le_of_ble_eq_true rfl) (Nat.le_of_ble_eq_true rfl) (Nat.le_of_ble_eq_true rfl) (Nat.le_of_ble_eq_true rfl) dX0_cutEdge_12 ?_
  rw [z_min (a := cnum f N u) (b := cnum f N v) (by omega) (by omega), ← hm9]
  refine lv_istore_n (lv' := [(3, .int (nI m9)), (0, .ref h), (1, .int (nI u)), (2, .int (nI v))]) hx hb dX0_cutEdge_15 rfl hl (by decide) rfl (fun ls hl => ?_)
  refine lv_aload_n hx hb dX0_cutEdge_16 rfl (lv_at hl 1 rfl) ?_
  refine va_get (D := D) (ci := 0) (v := .ref a0) (C := RX0) (T := TX0) (N := 6) hx hb hts hin hown hK hP 0 rfl rfl 0 (by decide) hf9 (fun _ h9 => h9) rfl dX0_cutEdge_17 ?_
  refine lv_iload_n hx hb dX0_cutEdge_20 rfl (lv_at hl 2 rfl) ?_
  refine lv_aload_n hx hb dX0_cutEdge_21 rfl (lv_at hl 1 rfl) ?_
  refine va_get (D := D) (ci := 0) (v := .ref a0) (C := RX0) (T := TX0) (N := 6) hx hb hts hin hown hK hP 0 rfl rfl 0 (by decide) hf9 (fun _ h9 => h9) rfl dX0_cutEdge_22 ?_
  refine lv_iload_n hx hb dX0_cutEdge_25 rfl (lv_at hl 2 rfl) ?_
  refine z_iald hx hb hK hP 1 0 rfl rfl (by omega) (by decide) dX0_cutEdge_26 ?_
  refine lv_iload_n hx hb dX0_cutEdge_27 rfl (lv_at hl 3 rfl) ?_
  refine zrS0 (As := [.int (f u), .int (nI v)]) (rest := [.int (nI u), .ref a0]) ⟨hx, hb, hml, hown, hts⟩ (c_X0_without l (f u) v) (va_cwS 2 hts gX0_cutEdge_X0_without rfl rfl rfl (by decide +kernel) ⟨Nat.le_of_ble_eq_true rfl, Nat.le_of_ble_eq_true rfl⟩) rfl hl rfl (Nat.le_of_ble_eq_true rfl) dX0_cutEdge_28 ⟨Nat.le_of_ble_eq_true rfl, Nat.le_of_ble_eq_true rfl⟩ hS (fun r28 H locs hw28 hk9 hS => ?_)
  obtain rfl : r28 = (zdl (f u) v) := hw28
  have hP := zkeep hP hk9
  refine z_iast hx hb hK hP hD hS 1 0 rfl rfl (by omega) (by decide) dX0_cutEdge_31 (fun H locs hP hS => ?_)
  have hP : va_P D vwCl (wB h a0 a1 a2 cy N ec cc (upd f u (zdl (f u) v)) cs tr) H := hP
  have hD : va_D A (wB h a0 a1 a2 cy N ec cc (upd f u (zdl (f u) v)) cs tr) := zD hD rfl
  refine lv_aload_n hx hb dX0_cutEdge_32 rfl (lv_at hl 1 rfl) ?_
  refine va_get (D := D) (ci := 0) (v := .ref a0) (C := RX0) (T := TX0) (N := 6) hx hb hts hin hown hK hP 0 rfl rfl 0 (by decide) hf9 (fun _ h9 => h9) rfl dX0_cutEdge_33 ?_
  refine lv_iload_n hx hb dX0_cutEdge_36 rfl (lv_at hl 3 rfl) ?_
  refine lv_aload_n hx hb dX0_cutEdge_37 rfl (lv_at hl 1 rfl) ?_
  refine va_get (D := D) (ci := 0) (v := .ref a0) (C := RX0) (T := TX0) (N := 6) hx hb hts hin hown hK hP 0 rfl rfl 0 (by decide) hf9 (fun _ h9 => h9) rfl dX0_cutEdge_38 ?_
  refine lv_iload_n hx hb dX0_cutEdge_41 rfl (lv_at hl 3 rfl) ?_
  refine z_iald hx hb hK hP 1 0 rfl rfl (by omega) (by decide) dX0_cutEdge_42 ?_
  refine lv_iload_n hx hb dX0_cutEdge_43 rfl (lv_at hl 2 rfl) ?_
  refine zrS0 (As := [.int ((upd f u (zdl (f u) v)) v), .int (nI u)]) (rest := [.int (nI v), .ref a0]) ⟨hx, hb, hml, hown, hts⟩ (c_X0_without l ((upd f u (zdl (f u) v)) v) u) (va_cwS 2 hts gX0_cutEdge_X0_without rfl rfl rfl (by decide +kernel) ⟨Nat.le_of_ble_eq_true rfl, Nat.le_of_ble_eq_true rfl⟩) rfl hl rfl (Nat.le_of_ble_eq_true rfl) dX0_cutEdge_44 ⟨Nat.le_of_ble_eq_true rfl, Nat.le_of_ble_eq_true rfl⟩ hS (fun r44 H locs hw44 hk9 hS => ?_)
  obtain rfl : r44 = (zdl ((upd f u (zdl (f u) v)) v) u) := hw44
  have hP := zkeep hP hk9
  refine z_iast hx hb hK hP hD hS 1 0 rfl rfl (by omega) (by decide) dX0_cutEdge_47 (fun H locs hP hS => ?_)
  have hP : va_P D vwCl (wB h a0 a1 a2 cy N ec cc (upd (upd f u (zdl (f u) v)) v (zdl ((upd f u (zdl (f u) v)) v) u)) cs tr) H := hP
  have hD : va_D A (wB h a0 a1 a2 cy N ec cc (upd (upd f u (zdl (f u) v)) v (zdl ((upd f u (zdl (f u) v)) v) u)) cs tr) := zD hD rfl
  rw [hct] at hP
  have hD : va_D A (wB h a0 a1 a2 cy N ec cc (tgl f u v) cs tr) := zD hD rfl
  refine lv_aload_n hx hb dX0_cutEdge_48 rfl (lv_at hl 1 rfl) ?_
  refine lv_dup hx hb dX0_cutEdge_49 rfl ?_
  refine va_get (D := D) (ci := 0) (v := .int ec) (C := RX0) (T := TX0) (N := 6) hx hb hts hin hown hK hP 0 rfl rfl 4 (by decide) hf23 (fun _ h9 => h9) rfl dX0_cutEdge_50 ?_
  refine lv_iconst (v := (nI 1)) hx hb dX0_cutEdge_53 (by decide) ?_
  refine lv_isub hx hb dX0_cutEdge_54 ?_
  refine va_put (D := D) (ci := 0) (v := .int (ec - (nI 1))) (ty := .int) (C := RX0) (T := TX0) (N := 6) hx hb hts hin tyX0 tyX0_ok nmX0 hown hK hP hD hS 0 rfl rfl 4 (by decide) hf23 (fun _ h9 => h9) rfl (by decide +kernel) rfl rfl (Nat.le_of_ble_eq_true rfl) dX0_cutEdge_55 (fun H locs hP hD hS => ?_)
  have hP : va_P D vwCl (wB h a0 a1 a2 cy N (ec - (nI 1)) cc (tgl f u v) cs tr) H := hP
  have hD : va_D A (wB h a0 a1 a2 cy N (ec - (nI 1)) cc (tgl f u v) cs tr) := hD
  refine lv_aload_n hx hb dX0_cutEdge_58 rfl (lv_at hl 1 rfl) ?_
  refine lv_iload_n hx hb dX0_cutEdge_59 rfl (lv_at hl 2 rfl) ?_
  refine lv_iload_n hx hb dX0_cutEdge_60 rfl (lv_at hl 3 rfl) ?_
  refine lv_iload_n hx hb dX0_cutEdge_61 rfl (lv_at hl 0 rfl) ?_
  refine zrV (As := [.int (nI u), .int (nI v), .int (nI m9)]) (rest := []) 0 ⟨hx, hb, hml, hown, hts⟩ (c_X0_nearShell l D cy h a0 a1 a2 N (ec - (nI 1)) cc (tgl f u v) cs tr u v (nI m9) hN) (cwV 3 hts gX0_cutEdge_X0_nearShell rfl rfl rfl (by decide +kernel) ⟨Nat.le_of_ble_eq_true rfl, Nat.le_of_ble_eq_true rfl⟩) hK hP rfl rfl rfl hl rfl (Nat.le_of_ble_eq_true rfl) dX0_cutEdge_62 ⟨Nat.le_of_ble_eq_true rfl, Nat.le_of_ble_eq_true rfl⟩ hS (fun r62 H locs hw62 hk9 hS => ?_)
  have hw62 : rch (tgl f u v) (zsg u ||| zsg v) (zmk (fun i => decide ((nI m9) ≤ cs i)) N &&& znt (zmk (fun i => decide ((nI m9) + nI 1 ≤ cs i)) N)) r62 := hw62
  rw [shl_of hN hcs.1 (k := m9) (by omega), hm9] at hw62
  have hnear := hw62
  have hP := zkeep hP hk9
  refine lv_istore (lv' := [(4, .int r62), (3, .int (nI m9)), (0, .ref h), (1, .int (nI u)), (2, .int (nI v))]) hx hb dX0_cutEdge_65 hl (by decide) rfl (fun ls hl => ?_)
  refine lv_aload_n hx hb dX0_cutEdge_67 rfl (lv_at hl 2 rfl) ?_
  refine lv_iload hx hb dX0_cutEdge_68 (lv_at hl 0 rfl) ?_
  refine lv_aload_n hx hb dX0_cutEdge_70 rfl (lv_at hl 2 rfl) ?_
  refine lv_iload hx hb dX0_cutEdge_71 (lv_at hl 0 rfl) ?_
  refine lv_aload_n hx hb dX0_cutEdge_73 rfl (lv_at hl 2 rfl) ?_
  refine lv_iload_n hx hb dX0_cutEdge_74 rfl (lv_at hl 1 rfl) ?_
  refine lv_iconst (v := (nI 1)) hx hb dX0_cutEdge_75 (by decide) ?_
  refine z_iadd hx hb dX0_cutEdge_76 ?_
  refine zrV (As := [.int (nI (m9 + 1))]) (rest := [.int r62, .ref h, .int r62, .ref h]) 0 ⟨hx, hb, hml, hown, hts⟩ (c_X0_coreSet l D cy h a0 a1 a2 N (ec - (nI 1)) cc (tgl f u v) cs tr (nI (m9 + 1)) hN) (cwV 1 hts gX0_cutEdge_X0_coreSet rfl rfl rfl (by decide +kernel) ⟨Nat.le_of_ble_eq_true rfl, Nat.le_of_ble_eq_true rfl⟩) hK hP rfl rfl rfl hl rfl (Nat.le_of_ble_eq_true rfl) dX0_cutEdge_77 ⟨Nat.le_of_ble_eq_true rfl, Nat.le_of_ble_eq_true rfl⟩ hS (fun r77 H locs hw77 hk9 hS => ?_)
  obtain rfl : r77 = (zmk (fun i => decide ((nI (m9 + 1)) ≤ cs i)) N) := hw77
  have hP := zkeep hP hk9
  rw [cst_of hN hcs.1 (k := m9 + 1) (by omega)]
  refine lv_iload_n hx hb dX0_cutEdge_80 rfl (lv_at hl 1 rfl) ?_
  refine zrV (As := [.int r62, .int (cst (cnum f N) N ((m9 + 1 : Nat) : Int)), .int (nI m9)]) (rest := [.int r62, .ref h]) 0 ⟨hx, hb, hml, hown, hts⟩ (c_X0_supportedPart l D cy h a0 a1 a2 N (ec - (nI 1)) cc (tgl f u v) cs tr r62 (cst (cnum f N) N ((m9 + 1 : Nat) : Int)) (nI m9) hN (sub_le hnear.1 (shell_sub hN _))) (cwV 3 hts gX0_cutEdge_X0_supportedPart rfl rfl rfl (by decide +kernel) ⟨Nat.le_of_ble_eq_true rfl, Nat.le_of_ble_eq_true rfl⟩) hK hP rfl rfl rfl hl rfl (Nat.le_of_ble_eq_true rfl) dX0_cutEdge_81 ⟨Nat.le_of_ble_eq_true rfl, Nat.le_of_ble_eq_true rfl⟩ hS (fun r81 H locs hw81 hk9 hS => ?_)
  have hw81 : spt (tgl f u v) r62 (cst (cnum f N) N ((m9 + 1 : Nat) : Int)) ((nI m9)).toInt r81 := hw81
  have hsp : spt (tgl f u v) r62 (cst (cnum f N) N (((m9 : Nat) : Int) + 1)) ((m9 : Nat) : Int) r81 := by rw [nI_toInt (by omega)] at hw81; exact hw81
  rw [hm9] at hsp
  obtain ⟨hk1, hk2, hk3⟩ := lower_ok hg hg1 hu hv (edg_cut huv (by omega) (by omega) he hsy.2.2) hcs hnear hsp
  have hP := zkeep hP hk9
  refine lv_iconst (v := (-1)) hx hb dX0_cutEdge_84 (by decide) ?_
  refine lv_ixor hx hb dX0_cutEdge_85 ?_
  refine lv_iand hx hb dX0_cutEdge_86 ?_
  refine lv_iconst (v := (-1)) hx hb dX0_cutEdge_87 (by decide) ?_
  refine zwVi (As := [.int (r62 &&& (r81 ^^^ (-1))), .int (-1)]) (rest := []) 0 [0, 1, 2, 3] rfl ⟨hx, hb, hml, hown, hts⟩ (c_X0_changeCores l D cy h a0 a1 a2 N (ec - (nI 1)) cc (tgl f u v) cs tr _ (r62 &&& (r81 ^^^ (-1))) (-1) hN) (cwV 2 hts gX0_cutEdge_X0_changeCores rfl rfl rfl (by decide +kernel) ⟨Nat.le_of_ble_eq_true rfl, Nat.le_of_ble_eq_true rfl⟩) hK hP hD hA rfl rfl rfl hl rfl (Nat.le_of_ble_eq_true rfl) dX0_cutEdge_88 ⟨Nat.le_of_ble_eq_true rfl, Nat.le_of_ble_eq_true rfl⟩ hS (fun r88 u88 H locs hw88 hP hS => ?_)
  have hP : va_P D vwCl (wB h a0 a1 a2 cy N (ec - (nI 1)) (cc + nI (zpop (r62 &&& (r81 ^^^ (-1))))) (tgl f u v) (chp cs (r62 &&& (r81 ^^^ (-1))) (-1) N) tr) H := hP
  have hD : va_D A (wB h a0 a1 a2 cy N (ec - (nI 1)) (cc + nI (zpop (r62 &&& (r81 ^^^ (-1))))) (tgl f u v) (chp cs (r62 &&& (r81 ^^^ (-1))) (-1) N) tr) := zD hD rfl
  obtain rfl : r88 = (nI (zpop (r62 &&& (r81 ^^^ (-1))))) := hw88
  exact W.iret (v := (nI (zpop (r62 &&& (r81 ^^^ (-1)))))) hx hb hr (fun t9 ht9 hW9 => ⟨⟨(nI (zpop (r62 &&& (r81 ^^^ (-1))))), (chp cs (r62 &&& (r81 ^^^ (-1))) (-1) N), rfl, ⟨by rw [← hk2]; rfl, hk3⟩, by show va_P D vwCl (wB h a0 a1 a2 cy N (ec - nI 1) (cc + nI (chg (cnum f N) (cnum (tgl f u v) N) N)) (tgl f u v) (chp cs (r62 &&& (r81 ^^^ (-1))) (-1) N) tr) t9.heap; rw [ht9]; rw [← hk2]; exact hP⟩, hS.F ht9⟩) hS.2.2 dX0_cutEdge_91

set_option maxHeartbeats 4000000 in
set_option maxRecDepth 100000 in
theorem c_X0_startTrusses (l : Launch) (D : va_G) (cy : ClassId) (h a0 a1 a2 N : Nat) (ec cc : Int32) (f cs tr : Nat → Int32) (sz : Nat) (hN : N ≤ 20) : Met l yX0_startTrusses wsX0_startTrusses ({ frames := 0, cells := 0, slots := 0, locals := 0 } : Room) (va_Pc [.ref h] (zWr D (wB h a0 a1 a2 cy N ec cc f cs tr) [(cy, .int)] sz)) (va_Qv (fun (z9 : (Nat → Int32)) => ∀ w, w < N → z9 w = f w) (fun (z9 : (Nat → Int32)) t => va_P D vwCl (wB h a0 a1 a2 cy N ec cc f cs z9) t.heap) (va_A (wB h a0 a1 a2 cy N ec cc f cs tr) sz)) 0 0 (va_A (wB h a0 a1 a2 cy N ec cc f cs tr) sz) := by
  refine Met.ofW (cc := cX0_startTrusses) (maxL := 2) (ret := none) (by decide) rfl ?_
  intro p e s m args below meth c s₁ B hml hv
  obtain ⟨rfl, hsz, hP, hK, hD0⟩ := hv
  have hx := B.exec
  have hb := B.bytes
  have hr := B.returns
  have hts := atoms_spec (ws := wsX0_startTrusses) B.pre
  have hown : s.vm.findClass RX0 = some m.cls := findClass_of_methodNamed B.named
  have hlocks := B.notSynchronized
  subst hsz
  have hD := hD0.self (sz := s.heap.size)
  generalize hAe : va_A (wB h a0 a1 a2 cy N ec cc f cs tr) s.heap.size = A at hD ⊢
  have hA : ∀ q : Nat, s.heap.size ≤ q → A q := fun q h => by rw [← hAe]; exact Or.inr h
  have hS : va_S A s.heap s.heap [] := va_S.rf
  have hin : ∀ w ∈ wsX00, w ∈ wsX0_startTrusses := by decide +kernel
  have hf9 := hts (.fieldLink RX0 9 "Corebarn" "neighbours" "[I") (by decide +kernel)
  have hf16 := hts (.fieldLink RX0 16 "Corebarn" "trussNeighbours" "[I") (by decide +kernel)
  have hf19 := hts (.fieldLink RX0 19 "Corebarn" "nodeCount" "I") (by decide +kernel)
  have hl := lv_entry ([.ref h]) (n := 2) (Nat.le_of_ble_eq_true rfl)
  rw [lg_entry_eq]
  generalize (lg_sl ([.ref h]) ++ List.replicate (2 - (lg_sl ([.ref h])).length) Slot.unset).toArray = ls at hl ⊢
  have hl : lv_has ls 2 [(0, .ref h)] := hl
  refine lv_iconst (v := (nI 0)) hx hb dX0_startTrusses_0 (by decide) ?_
  refine lv_istore_n (lv' := [(1, .int (nI 0)), (0, .ref h)]) hx hb dX0_startTrusses_1 rfl hl (by decide) rfl (fun ls hl => ?_)
  have K2 : ∀ (fu2 : Nat) (i : Nat) (g1 : Nat → Int32) (H : Heap) (locs : List Loc) (ls : Array Slot), (i ≤ N) → (∀ w, w < i → g1 w = f w) → N - i < fu2 → va_P D vwCl (wB h a0 a1 a2 cy N ec cc f cs g1) H → va_S A s.heap H locs → lv_has ls 2 [(1, .int (nI i)), (0, .ref h)] → W p l e (headSpec wsX0_startTrusses ({ frames := 0, cells := 0, slots := 0, locals := 0 } : Room)).room s m ([.ref h] : List Value).toArray below meth c H locs 0 0 (MQ below (va_Qv (fun (z9 : (Nat → Int32)) => ∀ w, w < N → z9 w = f w) (fun (z9 : (Nat → Int32)) t => va_P D vwCl (wB h a0 a1 a2 cy N ec cc f cs z9) t.heap) A) ([.ref h] : List Value).toArray s 0 0 A) (F0 m 2 ls []) := by
    intro fu2
    induction fu2 with
    | zero =>
      intro i g1 H locs ls hi hg1 hfu2
      exact absurd hfu2 (Nat.not_lt_zero _)
    | succ fu2 ih2 =>
      intro i g1 H locs ls hi hg1 hfu2 hP hS hl
      have hD : va_D A (wB h a0 a1 a2 cy N ec cc f cs g1) := zD hD rfl
      refine lv_iload_n hx hb dX0_startTrusses_2 rfl (lv_at hl 0 rfl) ?_
      refine lv_aload_n hx hb dX0_startTrusses_3 rfl (lv_at hl 1 rfl) ?_
      refine va_get (D := D) (ci := 0) (v := .int (nI N)) (C := RX0) (T := TX0) (N := 6) hx hb hts hin hown hK hP 0 rfl rfl 3 (by decide) hf19 (fun _ h9 => h9) rfl dX0_startTrusses_4 ?_
      refine z_icmp_ge (tgt := 28) hx hb dX0_startTrusses_7 (by decide) (by omega) (by omega) (fun h7 => ?_) (fun h7 => ?_)
      · exact W.vret hx hb hr (fun t9 ht9 hW9 => ⟨⟨g1, rfl, (fun w hw => hg1 w (by omega)), by show va_P D vwCl (wB h a0 a1 a2 cy N ec cc f cs g1) t9.heap; rw [ht9]; exact hP⟩, hS.F ht9⟩) hS.2.2 dX0_startTrusses_28
      · refine lv_aload_n hx hb dX0_startTrusses_10 rfl (lv_at hl 1 rfl) ?_
        refine va_get (D := D) (ci := 0) (v := .ref a2) (C := RX0) (T := TX0) (N := 6) hx hb hts hin hown hK hP 0 rfl rfl 2 (by decide) hf16 (fun _ h9 => h9) rfl dX0_startTrusses_11 ?_
        refine lv_iload_n hx hb dX0_startTrusses_14 rfl (lv_at hl 0 rfl) ?_
        refine lv_aload_n hx hb dX0_startTrusses_15 rfl (lv_at hl 1 rfl) ?_
        refine va_get (D := D) (ci := 0) (v := .ref a0) (C := RX0) (T := TX0) (N := 6) hx hb hts hin hown hK hP 0 rfl rfl 0 (by decide) hf9 (fun _ h9 => h9) rfl dX0_startTrusses_16 ?_
        refine lv_iload_n hx hb dX0_startTrusses_19 rfl (lv_at hl 0 rfl) ?_
        refine z_iald hx hb hK hP 1 0 rfl rfl (by omega) (by decide) dX0_startTrusses_20 ?_
        refine z_iast hx hb hK hP hD hS 3 0 rfl rfl (by omega) (by decide) dX0_startTrusses_21 (fun H locs hP hS => ?_)
        have hP : va_P D vwCl (wB h a0 a1 a2 cy N ec cc f cs (upd g1 i (f i))) H := hP
        have hD : va_D A (wB h a0 a1 a2 cy N ec cc f cs (upd g1 i (f i))) := zD hD rfl
        refine lv_iinc (v := (nI (i + 1))) (lv' := [(1, .int (nI (i + 1))), (0, .ref h)]) hx hb dX0_startTrusses_22 hl (k := 0) rfl (nI_1 _) (by decide) rfl (fun ls hl => ?_)
        refine lv_goto (tgt := 2) hx hb dX0_startTrusses_25 (by decide) ?_
        exact ih2 (i + 1) (upd g1 i (f i)) _ _ _ (by omega) (fun w hw => by by_cases e : w = i; (rw [e, pk_us]); (rw [pk_un e]; exact hg1 w (by omega))) (by omega) hP hS (lv_sub hl [0, 1] rfl)
  exact K2 (N - 0 + 1) 0 tr _ _ _ (by omega) (fun w hw => absurd hw (Nat.not_lt_zero w)) (Nat.lt_succ_self _) hP hS (lv_sub hl [0, 1] rfl)

set_option maxHeartbeats 4000000 in
set_option maxRecDepth 100000 in
theorem c_X0_dropWeakEdges (l : Launch) (D : va_G) (cy : ClassId) (h a0 a1 a2 N : Nat) (ec cc : Int32) (f cs tr : Nat → Int32) (sz : Nat) (k : Int32) (f0 : Nat → Int32) (hg : gd f0 N) (hI : tI f0 N k.toInt tr) : Met l yX0_dropWeakEdges wsX0_dropWeakEdges ({ frames := 2, cells := 0, slots := 0, locals := 41 } : Room) (va_Pc [.ref h, .int k] (zWr D (wB h a0 a1 a2 cy N ec cc f cs tr) [(cy, .int)] sz)) (va_Qi (fun (r : Int32) (z9 : (Nat → Int32)) => ∃ d, r = zb d ∧ tJ f0 N (k).toInt tr (fun a b => a < N ∧ a < b) z9 d) (fun (z9 : (Nat → Int32)) t => va_P D vwCl (wB h a0 a1 a2 cy N ec cc f cs z9) t.heap) (va_A (wB h a0 a1 a2 cy N ec cc f cs tr) sz)) 0 0 (va_A (wB h a0 a1 a2 cy N ec cc f cs tr) sz) := by
  refine Met.ofW (cc := cX0_dropWeakEdges) (maxL := 5) (ret := (some .boolean)) (by decide) rfl ?_
  intro p e s m args below meth c s₁ B hml hv
  obtain ⟨rfl, hsz, hP, hK, hD0⟩ := hv
  have hx := B.exec
  have hb := B.bytes
  have hr := B.returns
  have hts := atoms_spec (ws := wsX0_dropWeakEdges) B.pre
  have hown : s.vm.findClass RX0 = some m.cls := findClass_of_methodNamed B.named
  have hlocks := B.notSynchronized
  subst hsz
  have hD := hD0.self (sz := s.heap.size)
  generalize hAe : va_A (wB h a0 a1 a2 cy N ec cc f cs tr) s.heap.size = A at hD ⊢
  have hA : ∀ q : Nat, s.heap.size ≤ q → A q := fun q h => by rw [← hAe]; exact Or.inr h
  have hS : va_S A s.heap s.heap [] := va_S.rf
  have hin : ∀ w ∈ wsX00, w ∈ wsX0_dropWeakEdges := by decide +kernel
  have hf16 := hts (.fieldLink RX0 16 "Corebarn" "trussNeighbours" "[I") (by decide +kernel)
  have hf19 := hts (.fieldLink RX0 19 "Corebarn" "nodeCount" "I") (by decide +kernel)
  have hN := hg.1
  have hl := lv_entry ([.ref h, .int k]) (n := 5) (Nat.le_of_ble_eq_true rfl)
  rw [lg_entry_eq]
  generalize (lg_sl ([.ref h, .int k]) ++ List.replicate (5 - (lg_sl ([.ref h, .int k])).length) Slot.unset).toArray = ls at hl ⊢
  have hl : lv_has ls 5 [(0, .ref h), (1, .int k)] := hl
  refine lv_iconst (v := (nI 0)) hx hb dX0_dropWeakEdges_0 (by decide) ?_
  refine lv_istore_n (lv' := [(2, .int (nI 0)), (0, .ref h), (1, .int k)]) hx hb dX0_dropWeakEdges_1 rfl hl (by decide) rfl (fun ls hl => ?_)
  refine lv_iconst (v := (nI 0)) hx hb dX0_dropWeakEdges_2 (by decide) ?_
  refine lv_istore_n (lv' := [(3, .int (nI 0)), (2, .int (nI 0)), (0, .ref h), (1, .int k)]) hx hb dX0_dropWeakEdges_3 rfl hl (by decide) rfl (fun ls hl => ?_)
  have K4 : ∀ (fu4 : Nat) (i : Nat) (d2 : Bool) (g3 : Nat → Int32) (H : Heap) (locs : List Loc) (ls : Array Slot), (i ≤ N) → (tJ f0 N k.toInt tr (fun a b => a < i ∧ a < b) g3 d2) → N - i < fu4 → va_P D vwCl (wB h a0 a1 a2 cy N ec cc f cs g3) H → va_S A s.heap H locs → lv_has ls 5 [(3, .int (nI i)), (2, .int (zb d2)), (0, .ref h), (1, .int k)] → W p l e (headSpec wsX0_dropWeakEdges ({ frames := 2, cells := 0, slots := 0, locals := 41 } : Room)).room s m ([.ref h, .int k] : List Value).toArray below meth c H locs 0 0 (MQ below (va_Qi (fun (r : Int32) (z9 : (Nat → Int32)) => ∃ d, r = zb d ∧ tJ f0 N (k).toInt tr (fun a b => a < N ∧ a < b) z9 d) (fun (z9 : (Nat → Int32)) t => va_P D vwCl (wB h a0 a1 a2 cy N ec cc f cs z9) t.heap) A) ([.ref h, .int k] : List Value).toArray s 0 0 A) (F0 m 4 ls []) := by
    intro fu4
    induction fu4 with
    | zero =>
      intro i d2 g3 H locs ls hi hJ hfu4
      exact absurd hfu4 (Nat.not_lt_zero _)
    | succ fu4 ih4 =>
      intro i d2 g3 H locs ls hi hJ hfu4 hP hS hl
      have hD : va_D A (wB h a0 a1 a2 cy N ec cc f cs g3) := zD hD rfl
      refine lv_iload_n hx hb dX0_dropWeakEdges_4 rfl (lv_at hl 0 rfl) ?_
      refine lv_aload_n hx hb dX0_dropWeakEdges_5 rfl (lv_at hl 2 rfl) ?_
      refine va_get (D := D) (ci := 0) (v := .int (nI N)) (C := RX0) (T := TX0) (N := 6) hx hb hts hin hown hK hP 0 rfl rfl 3 (by decide) hf19 (fun _ h9 => h9) rfl dX0_dropWeakEdges_6 ?_
      refine z_icmp_ge (tgt := 110) hx hb dX0_dropWeakEdges_9 (by decide) (by omega) (by omega) (fun h9 => ?_) (fun h9 => ?_)
      · refine lv_iload_n hx hb dX0_dropWeakEdges_110 rfl (lv_at hl 1 rfl) ?_
        exact W.zret (v := (zb d2)) (ty := .boolean) hx hb hr (zb_nar _) (fun t9 ht9 hW9 => ⟨⟨(zb d2), g3, rfl, ⟨d2, rfl, by rw [Nat.le_antisymm hi h9] at hJ; exact hJ⟩, by show va_P D vwCl (wB h a0 a1 a2 cy N ec cc f cs g3) t9.heap; rw [ht9]; exact hP⟩, hS.F ht9⟩) hS.2.2 dX0_dropWeakEdges_111
      · refine lv_iload_n hx hb dX0_dropWeakEdges_12 rfl (lv_at hl 0 rfl) ?_
        refine lv_iconst (v := (nI 1)) hx hb dX0_dropWeakEdges_13 (by decide) ?_
        refine z_iadd hx hb dX0_dropWeakEdges_14 ?_
        refine lv_istore (lv' := [(4, .int (nI (i + 1))), (3, .int (nI i)), (2, .int (zb d2)), (0, .ref h), (1, .int k)]) hx hb dX0_dropWeakEdges_15 hl (by decide) rfl (fun ls hl => ?_)
        have K17 : ∀ (fu17 : Nat) (j : Nat) (d3 : Bool) (g4 : Nat → Int32) (H : Heap) (locs : List Loc) (ls : Array Slot), (i + 1 ≤ j) → (j ≤ N) → (tJ f0 N k.toInt tr (fun a b => (a < i ∧ a < b) ∨ (a = i ∧ a < b ∧ b < j)) g4 d3) → N - j < fu17 → va_P D vwCl (wB h a0 a1 a2 cy N ec cc f cs g4) H → va_S A s.heap H locs → lv_has ls 5 [(4, .int (nI j)), (2, .int (zb d3)), (0, .ref h), (1, .int k), (3, .int (nI i))] → W p l e (headSpec wsX0_dropWeakEdges ({ frames := 2, cells := 0, slots := 0, locals := 41 } : Room)).room s m ([.ref h, .int k] : List Value).toArray below meth c H locs 0 0 (MQ below (va_Qi (fun (r : Int32) (z9 : (Nat → Int32)) => ∃ d, r = zb d ∧ tJ f0 N (k).toInt tr (fun a b => a < N ∧ a < b) z9 d) (fun (z9 : (Nat → Int32)) t => va_P D vwCl (wB h a0 a1 a2 cy N ec cc f cs z9) t.heap) A) ([.ref h, .int k] : List Value).toArray s 0 0 A) (F0 m 17 ls []) := by
          intro fu17
          induction fu17 with
          | zero =>
            intro j d3 g4 H locs ls hj hj2 hJ2 hfu17
            exact absurd hfu17 (Nat.not_lt_zero _)
          | succ fu17 ih17 =>
            intro j d3 g4 H locs ls hj hj2 hJ2 hfu17 hP hS hl
            have hD : va_D A (wB h a0 a1 a2 cy N ec cc f cs g4) := zD hD rfl
            refine lv_iload hx hb dX0_dropWeakEdges_17 (lv_at hl 0 rfl) ?_
            refine lv_aload_n hx hb dX0_dropWeakEdges_19 rfl (lv_at hl 2 rfl) ?_
            refine va_get (D := D) (ci := 0) (v := .int (nI N)) (C := RX0) (T := TX0) (N := 6) hx hb hts hin hown hK hP 0 rfl rfl 3 (by decide) hf19 (fun _ h9 => h9) rfl dX0_dropWeakEdges_20 ?_
            refine z_icmp_ge (tgt := 104) hx hb dX0_dropWeakEdges_23 (by decide) (by omega) (by omega) (fun h23 => ?_) (fun h23 => ?_)
            · refine lv_iinc (v := (nI (i + 1))) (lv' := [(3, .int (nI (i + 1))), (4, .int (nI j)), (2, .int (zb d3)), (0, .ref h), (1, .int k)]) hx hb dX0_dropWeakEdges_104 hl (k := 4) rfl (nI_1 _) (by decide) rfl (fun ls hl => ?_)
              refine lv_goto (tgt := 4) hx hb dX0_dropWeakEdges_107 (by decide) ?_
              exact ih4 (i + 1) d3 g4 _ _ _ (by omega) (tJ_V hJ2 (fun a b ha hb hab q => by omega) hg) (by omega) hP hS (lv_sub hl [0, 2, 3, 4] rfl)
            · refine lv_aload_n hx hb dX0_dropWeakEdges_26 rfl (lv_at hl 2 rfl) ?_
              refine va_get (D := D) (ci := 0) (v := .ref a2) (C := RX0) (T := TX0) (N := 6) hx hb hts hin hown hK hP 0 rfl rfl 2 (by decide) hf16 (fun _ h9 => h9) rfl dX0_dropWeakEdges_27 ?_
              refine lv_iload_n hx hb dX0_dropWeakEdges_30 rfl (lv_at hl 4 rfl) ?_
              refine z_iald hx hb hK hP 3 0 rfl rfl (by omega) (by decide) dX0_dropWeakEdges_31 ?_
              refine lv_iload hx hb dX0_dropWeakEdges_32 (lv_at hl 0 rfl) ?_
              refine zrS0 (As := [.int (g4 i), .int (nI j)]) (rest := []) ⟨hx, hb, hml, hown, hts⟩ (c_X0_contains l (g4 i) j (by omega)) (va_cwS 2 hts gX0_dropWeakEdges_X0_contains rfl rfl rfl (by decide +kernel) ⟨Nat.le_of_ble_eq_true rfl, Nat.le_of_ble_eq_true rfl⟩) rfl hl rfl (Nat.le_of_ble_eq_true rfl) dX0_dropWeakEdges_34 ⟨Nat.le_of_ble_eq_true rfl, Nat.le_of_ble_eq_true rfl⟩ hS (fun r34 H locs hw34 hk9 hS => ?_)
              obtain rfl : r34 = (zb (bt (g4 i) j)) := hw34
              have hP := zkeep hP hk9
              refine z_ifb_eq (tgt := 98) hx hb dX0_dropWeakEdges_37 (by decide) (fun h37 => ?_) (fun h37 => ?_)
              · refine lv_iinc (v := (nI (j + 1))) (lv' := [(4, .int (nI (j + 1))), (2, .int (zb d3)), (0, .ref h), (1, .int k), (3, .int (nI i))]) hx hb dX0_dropWeakEdges_98 hl (k := 0) rfl (nI_1 _) (by decide) rfl (fun ls hl => ?_)
                refine lv_goto (tgt := 17) hx hb dX0_dropWeakEdges_101 (by decide) ?_
                exact ih17 (j + 1) d3 g4 _ _ _ (by omega) (by omega) (tJ_V (tJ_skip hJ2 (by omega) h37) (fun a b ha hb hab q => by omega) hg) (by omega) hP hS (lv_sub hl [0, 1, 2, 3, 4] rfl)
              · refine lv_aload_n hx hb dX0_dropWeakEdges_40 rfl (lv_at hl 2 rfl) ?_
                refine va_get (D := D) (ci := 0) (v := .ref a2) (C := RX0) (T := TX0) (N := 6) hx hb hts hin hown hK hP 0 rfl rfl 2 (by decide) hf16 (fun _ h9 => h9) rfl dX0_dropWeakEdges_41 ?_
                refine lv_iload_n hx hb dX0_dropWeakEdges_44 rfl (lv_at hl 4 rfl) ?_
                refine z_iald hx hb hK hP 3 0 rfl rfl (by omega) (by decide) dX0_dropWeakEdges_45 ?_
                refine lv_aload_n hx hb dX0_dropWeakEdges_46 rfl (lv_at hl 2 rfl) ?_
                refine va_get (D := D) (ci := 0) (v := .ref a2) (C := RX0) (T := TX0) (N := 6) hx hb hts hin hown hK hP 0 rfl rfl 2 (by decide) hf16 (fun _ h9 => h9) rfl dX0_dropWeakEdges_47 ?_
                refine lv_iload hx hb dX0_dropWeakEdges_50 (lv_at hl 0 rfl) ?_
                refine z_iald hx hb hK hP 3 0 rfl rfl (by omega) (by decide) dX0_dropWeakEdges_52 ?_
                refine lv_iand hx hb dX0_dropWeakEdges_53 ?_
                refine zrS0 (As := [.int ((g4 i) &&& (g4 j))]) (rest := []) ⟨hx, hb, hml, hown, hts⟩ (c_X0_size l ((g4 i) &&& (g4 j))) (va_cwS 1 hts gX0_dropWeakEdges_X0_size rfl rfl rfl (by decide +kernel) ⟨Nat.le_of_ble_eq_true rfl, Nat.le_of_ble_eq_true rfl⟩) rfl hl rfl (Nat.le_of_ble_eq_true rfl) dX0_dropWeakEdges_54 ⟨Nat.le_of_ble_eq_true rfl, Nat.le_of_ble_eq_true rfl⟩ hS (fun r54 H locs hw54 hk9 hS => ?_)
                obtain rfl : r54 = (nI (zpop ((g4 i) &&& (g4 j)))) := hw54
                have hP := zkeep hP hk9
                refine lv_iload_n hx hb dX0_dropWeakEdges_57 rfl (lv_at hl 3 rfl) ?_
                refine lv_icmp_ge (tgt := 98) hx hb dX0_dropWeakEdges_58 (by decide) (fun h58 => ?_) (fun h58 => ?_)
                · refine lv_iinc (v := (nI (j + 1))) (lv' := [(4, .int (nI (j + 1))), (2, .int (zb d3)), (0, .ref h), (1, .int k), (3, .int (nI i))]) hx hb dX0_dropWeakEdges_98 hl (k := 0) rfl (nI_1 _) (by decide) rfl (fun ls hl => ?_)
                  refine lv_goto (tgt := 17) hx hb dX0_dropWeakEdges_101 (by decide) ?_
                  exact ih17 (j + 1) d3 g4 _ _ _ (by omega) (by omega) (tJ_V (tJ_stay hJ2 (by omega) (by omega) ((i_leN (pop_31 _)).mp h58)) (fun a b ha hb hab q => by omega) hg) (by omega) hP hS (lv_sub hl [0, 1, 2, 3, 4] rfl)
                · refine lv_aload_n hx hb dX0_dropWeakEdges_61 rfl (lv_at hl 2 rfl) ?_
                  refine va_get (D := D) (ci := 0) (v := .ref a2) (C := RX0) (T := TX0) (N := 6) hx hb hts hin hown hK hP 0 rfl rfl 2 (by decide) hf16 (fun _ h9 => h9) rfl dX0_dropWeakEdges_62 ?_
                  refine lv_iload_n hx hb dX0_dropWeakEdges_65 rfl (lv_at hl 4 rfl) ?_
                  refine lv_aload_n hx hb dX0_dropWeakEdges_66 rfl (lv_at hl 2 rfl) ?_
                  refine va_get (D := D) (ci := 0) (v := .ref a2) (C := RX0) (T := TX0) (N := 6) hx hb hts hin hown hK hP 0 rfl rfl 2 (by decide) hf16 (fun _ h9 => h9) rfl dX0_dropWeakEdges_67 ?_
                  refine lv_iload_n hx hb dX0_dropWeakEdges_70 rfl (lv_at hl 4 rfl) ?_
                  refine z_iald hx hb hK hP 3 0 rfl rfl (by omega) (by decide) dX0_dropWeakEdges_71 ?_
                  refine lv_iload hx hb dX0_dropWeakEdges_72 (lv_at hl 0 rfl) ?_
                  refine zrS0 (As := [.int (g4 i), .int (nI j)]) (rest := [.int (nI i), .ref a2]) ⟨hx, hb, hml, hown, hts⟩ (c_X0_without l (g4 i) j) (va_cwS 2 hts gX0_dropWeakEdges_X0_without rfl rfl rfl (by decide +kernel) ⟨Nat.le_of_ble_eq_true rfl, Nat.le_of_ble_eq_true rfl⟩) rfl hl rfl (Nat.le_of_ble_eq_true rfl) dX0_dropWeakEdges_74 ⟨Nat.le_of_ble_eq_true rfl, Nat.le_of_ble_eq_true rfl⟩ hS (fun r74 H locs hw74 hk9 hS => ?_)
                  obtain rfl : r74 = (zdl (g4 i) j) := hw74
                  have hP := zkeep hP hk9
                  refine z_iast hx hb hK hP hD hS 3 0 rfl rfl (by omega) (by decide) dX0_dropWeakEdges_77 (fun H locs hP hS => ?_)
                  have hP : va_P D vwCl (wB h a0 a1 a2 cy N ec cc f cs (upd g4 i (zdl (g4 i) j))) H := hP
                  have hD : va_D A (wB h a0 a1 a2 cy N ec cc f cs (upd g4 i (zdl (g4 i) j))) := zD hD rfl
                  refine lv_aload_n hx hb dX0_dropWeakEdges_78 rfl (lv_at hl 2 rfl) ?_
                  refine va_get (D := D) (ci := 0) (v := .ref a2) (C := RX0) (T := TX0) (N := 6) hx hb hts hin hown hK hP 0 rfl rfl 2 (by decide) hf16 (fun _ h9 => h9) rfl dX0_dropWeakEdges_79 ?_
                  refine lv_iload hx hb dX0_dropWeakEdges_82 (lv_at hl 0 rfl) ?_
                  refine lv_aload_n hx hb dX0_dropWeakEdges_84 rfl (lv_at hl 2 rfl) ?_
                  refine va_get (D := D) (ci := 0) (v := .ref a2) (C := RX0) (T := TX0) (N := 6) hx hb hts hin hown hK hP 0 rfl rfl 2 (by decide) hf16 (fun _ h9 => h9) rfl dX0_dropWeakEdges_85 ?_
                  refine lv_iload hx hb dX0_dropWeakEdges_88 (lv_at hl 0 rfl) ?_
                  refine z_iald hx hb hK hP 3 0 rfl rfl (by omega) (by decide) dX0_dropWeakEdges_90 ?_
                  refine lv_iload_n hx hb dX0_dropWeakEdges_91 rfl (lv_at hl 4 rfl) ?_
                  refine zrS0 (As := [.int ((upd g4 i (zdl (g4 i) j)) j), .int (nI i)]) (rest := [.int (nI j), .ref a2]) ⟨hx, hb, hml, hown, hts⟩ (c_X0_without l ((upd g4 i (zdl (g4 i) j)) j) i) (va_cwS 2 hts gX0_dropWeakEdges_X0_without rfl rfl rfl (by decide +kernel) ⟨Nat.le_of_ble_eq_true rfl, Nat.le_of_ble_eq_true rfl⟩) rfl hl rfl (Nat.le_of_ble_eq_true rfl) dX0_dropWeakEdges_92 ⟨Nat.le_of_ble_eq_true rfl, Nat.le_of_ble_eq_true rfl⟩ hS (fun r92 H locs hw92 hk9 hS => ?_)
                  obtain rfl : r92 = (zdl ((upd g4 i (zdl (g4 i) j)) j) i) := hw92
                  have hP := zkeep hP hk9
                  refine z_iast hx hb hK hP hD hS 3 0 rfl rfl (by omega) (by decide) dX0_dropWeakEdges_95 (fun H locs hP hS => ?_)
                  have hP : va_P D vwCl (wB h a0 a1 a2 cy N ec cc f cs (upd (upd g4 i (zdl (g4 i) j)) j (zdl ((upd g4 i (zdl (g4 i) j)) j) i))) H := hP
                  have hD : va_D A (wB h a0 a1 a2 cy N ec cc f cs (upd (upd g4 i (zdl (g4 i) j)) j (zdl ((upd g4 i (zdl (g4 i) j)) j) i))) := zD hD rfl
                  refine lv_iconst (v := (nI 1)) hx hb dX0_dropWeakEdges_96 (by decide) ?_
                  refine lv_istore_n (lv' := [(2, .int (nI 1)), (4, .int (nI j)), (0, .ref h), (1, .int k), (3, .int (nI i))]) hx hb dX0_dropWeakEdges_97 rfl hl (by decide) rfl (fun ls hl => ?_)
                  refine lv_iinc (v := (nI (j + 1))) (lv' := [(4, .int (nI (j + 1))), (2, .int (nI 1)), (0, .ref h), (1, .int k), (3, .int (nI i))]) hx hb dX0_dropWeakEdges_98 hl (k := 1) rfl (nI_1 _) (by decide) rfl (fun ls hl => ?_)
                  refine lv_goto (tgt := 17) hx hb dX0_dropWeakEdges_101 (by decide) ?_
                  exact ih17 (j + 1) true (upd (upd g4 i (zdl (g4 i) j)) j (zdl ((upd g4 i (zdl (g4 i) j)) j) i)) _ _ _ (by omega) (by omega) (tJ_drop hg hJ2 (by omega) h37 (fun q => h58 ((i_leN (pop_31 _)).mpr q))) (by omega) hP hS (lv_sub hl [0, 1, 2, 3, 4] rfl)
        exact K17 (N - (i + 1) + 1) (i + 1) d2 g3 _ _ _ (by omega) (by omega) (tJ_V hJ (fun a b ha hb hab q => by omega) hg) (Nat.lt_succ_self _) hP hS (lv_sub hl [0, 2, 3, 4, 1] rfl)
  exact K4 (N - 0 + 1) 0 false tr _ _ _ (by omega) (tJ_i hI (fun a b q => by omega)) (Nat.lt_succ_self _) hP hS (lv_sub hl [0, 1, 2, 3] rfl)

set_option maxHeartbeats 4000000 in
set_option maxRecDepth 100000 in
theorem c_X0_shrinkToTruss (l : Launch) (D : va_G) (cy : ClassId) (h a0 a1 a2 N : Nat) (ec cc : Int32) (f cs tr : Nat → Int32) (sz : Nat) (k : Int32) (f0 : Nat → Int32) (hg : gd f0 N) (he : ∀ w, w < N → tr w = f0 w) : Met l yX0_shrinkToTruss wsX0_shrinkToTruss ({ frames := 3, cells := 0, slots := 0, locals := 65 } : Room) (va_Pc [.ref h, .int k] (zWr D (wB h a0 a1 a2 cy N ec cc f cs tr) [(cy, .int)] sz)) (va_Qv (fun (z9 : (Nat → Int32)) => isTr f0 N (k - nI 2).toInt z9) (fun (z9 : (Nat → Int32)) t => va_P D vwCl (wB h a0 a1 a2 cy N ec cc f cs z9) t.heap) (va_A (wB h a0 a1 a2 cy N ec cc f cs tr) sz)) 0 0 (va_A (wB h a0 a1 a2 cy N ec cc f cs tr) sz) := by
  refine Met.ofW (cc := cX0_shrinkToTruss) (maxL := 4) (ret := none) (by decide) rfl ?_
  intro p e s m args below meth c s₁ B hml hv
  obtain ⟨rfl, hsz, hP, hK, hD0⟩ := hv
  have hx := B.exec
  have hb := B.bytes
  have hr := B.returns
  have hts := atoms_spec (ws := wsX0_shrinkToTruss) B.pre
  have hown : s.vm.findClass RX0 = some m.cls := findClass_of_methodNamed B.named
  have hlocks := B.notSynchronized
  subst hsz
  have hD := hD0.self (sz := s.heap.size)
  generalize hAe : va_A (wB h a0 a1 a2 cy N ec cc f cs tr) s.heap.size = A at hD ⊢
  have hA : ∀ q : Nat, s.heap.size ≤ q → A q := fun q h => by rw [← hAe]; exact Or.inr h
  have hS : va_S A s.heap s.heap [] := va_S.rf
  have hl := lv_entry ([.ref h, .int k]) (n := 4) (Nat.le_of_ble_eq_true rfl)
  rw [lg_entry_eq]
  generalize (lg_sl ([.ref h, .int k]) ++ List.replicate (4 - (lg_sl ([.ref h, .int k])).length) Slot.unset).toArray = ls at hl ⊢
  have hl : lv_has ls 4 [(0, .ref h), (1, .int k)] := hl
  refine lv_iconst (v := (nI 1)) hx hb dX0_shrinkToTruss_0 (by decide) ?_
  refine lv_istore_n (lv' := [(2, .int (nI 1)), (0, .ref h), (1, .int k)]) hx hb dX0_shrinkToTruss_1 rfl hl (by decide) rfl (fun ls hl => ?_)
  refine lv_iconst (v := (nI 0)) hx hb dX0_shrinkToTruss_2 (by decide) ?_
  refine lv_istore_n (lv' := [(3, .int (nI 0)), (2, .int (nI 1)), (0, .ref h), (1, .int k)]) hx hb dX0_shrinkToTruss_3 rfl hl (by decide) rfl (fun ls hl => ?_)
  have K4 : ∀ (fu4 : Nat) (d : Bool) (t0 : Nat) (g2 : Nat → Int32) (H : Heap) (locs : List Loc) (ls : Array Slot), (tO f0 N (k - nI 2).toInt g2 d t0) → (t0 ≤ 191) → 400 - t0 < fu4 → va_P D vwCl (wB h a0 a1 a2 cy N ec cc f cs g2) H → va_S A s.heap H locs → lv_has ls 4 [(2, .int (zb d)), (3, .int (nI t0)), (0, .ref h), (1, .int k)] → W p l e (headSpec wsX0_shrinkToTruss ({ frames := 3, cells := 0, slots := 0, locals := 65 } : Room)).room s m ([.ref h, .int k] : List Value).toArray below meth c H locs 0 0 (MQ below (va_Qv (fun (z9 : (Nat → Int32)) => isTr f0 N (k - nI 2).toInt z9) (fun (z9 : (Nat → Int32)) t => va_P D vwCl (wB h a0 a1 a2 cy N ec cc f cs z9) t.heap) A) ([.ref h, .int k] : List Value).toArray s 0 0 A) (F0 m 4 ls []) := by
    intro fu4
    induction fu4 with
    | zero =>
      intro d t0 g2 H locs ls hO ht0 hfu4
      exact absurd hfu4 (Nat.not_lt_zero _)
    | succ fu4 ih4 =>
      intro d t0 g2 H locs ls hO ht0 hfu4 hP hS hl
      have hD : va_D A (wB h a0 a1 a2 cy N ec cc f cs g2) := zD hD rfl
      refine lv_iload_n hx hb dX0_shrinkToTruss_4 rfl (lv_at hl 0 rfl) ?_
      refine z_ifb_eq (tgt := 29) hx hb dX0_shrinkToTruss_5 (by decide) (fun h5 => ?_) (fun h5 => ?_)
      · exact W.vret hx hb hr (fun t9 ht9 hW9 => ⟨⟨g2, rfl, (tO_end (by rw [h5] at hO; exact hO)), by show va_P D vwCl (wB h a0 a1 a2 cy N ec cc f cs g2) t9.heap; rw [ht9]; exact hP⟩, hS.F ht9⟩) hS.2.2 dX0_shrinkToTruss_29
      · refine lv_iload_n hx hb dX0_shrinkToTruss_8 rfl (lv_at hl 1 rfl) ?_
        refine lv_sipush (v := (nI 190)) hx hb dX0_shrinkToTruss_9 (by decide) ?_
        refine z_icmp_gt (tgt := 29) hx hb dX0_shrinkToTruss_12 (by decide) (by omega) (by omega) (fun h12 => ?_) (fun h12 => ?_)
        · exact absurd (tO_t hg (by rw [h5] at hO; exact hO)) (by omega)
        · refine lv_aload_n hx hb dX0_shrinkToTruss_15 rfl (lv_at hl 2 rfl) ?_
          refine lv_iload_n hx hb dX0_shrinkToTruss_16 rfl (lv_at hl 3 rfl) ?_
          refine lv_iconst (v := (nI 2)) hx hb dX0_shrinkToTruss_17 (by decide) ?_
          refine lv_isub hx hb dX0_shrinkToTruss_18 ?_
          refine zwVi (As := [.int (k - (nI 2))]) (rest := []) 0 [0, 1, 2, 3] rfl ⟨hx, hb, hml, hown, hts⟩ (c_X0_dropWeakEdges l D cy h a0 a1 a2 N ec cc f cs g2 _ (k - (nI 2)) f0 hg hO.1) (cwV 1 hts gX0_shrinkToTruss_X0_dropWeakEdges rfl rfl rfl (by decide +kernel) ⟨Nat.le_of_ble_eq_true rfl, Nat.le_of_ble_eq_true rfl⟩) hK hP hD hA rfl rfl rfl hl rfl (Nat.le_of_ble_eq_true rfl) dX0_shrinkToTruss_19 ⟨Nat.le_of_ble_eq_true rfl, Nat.le_of_ble_eq_true rfl⟩ hS (fun r19 u19 H locs hw19 hP hS => ?_)
          obtain ⟨tr_19, rfl⟩ : ∃ z, z = u19 := ⟨_, rfl⟩
          have hP : va_P D vwCl (wB h a0 a1 a2 cy N ec cc f cs tr_19) H := hP
          have hD : va_D A (wB h a0 a1 a2 cy N ec cc f cs tr_19) := zD hD rfl
          have hw19 : ∃ d, r19 = zb d ∧ tJ f0 N ((k - (nI 2))).toInt g2 (fun a b => a < N ∧ a < b) tr_19 d := hw19
          obtain ⟨d2, rfl, hJ⟩ := hw19
          refine lv_istore_n (lv' := [(2, .int (zb d2)), (3, .int (nI t0)), (0, .ref h), (1, .int k)]) hx hb dX0_shrinkToTruss_22 rfl hl (by decide) rfl (fun ls hl => ?_)
          refine lv_iinc (v := (nI (t0 + 1))) (lv' := [(3, .int (nI (t0 + 1))), (2, .int (zb d2)), (0, .ref h), (1, .int k)]) hx hb dX0_shrinkToTruss_23 hl (k := 1) rfl (nI_1 _) (by decide) rfl (fun ls hl => ?_)
          refine lv_goto (tgt := 4) hx hb dX0_shrinkToTruss_26 (by decide) ?_
          exact ih4 d2 (t0 + 1) tr_19 _ _ _ (tO_step hg (by rw [h5] at hO; exact hO) hJ (fun a b ha hb hab => by omega)) (by omega) (by omega) hP hS (lv_sub hl [1, 0, 2, 3] rfl)
  exact K4 (400 - 0 + 1) true 0 tr _ _ _ (tO_0 _ hg he) (by omega) (Nat.lt_succ_self _) hP hS (lv_sub hl [1, 0, 2, 3] rfl)
