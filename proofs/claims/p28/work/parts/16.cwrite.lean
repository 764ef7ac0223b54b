set_option maxHeartbeats 4000000 in
set_option maxRecDepth 100000 in
theorem c_X0_startTrusses (l : Launch) (D : va_G) (cy : ClassId) (h a0 a1 a2 N : Nat) (ec cc : Int32) (f cs tr : Nat → Int32) (sz : Nat) (hN : N ≤ 20) : Met l yX0_startTrusses wsX0_startTrusses ({ frames := 0, cells := 0, slots := 0, locals := 0 } : Room) (va_Pc [.ref h] (zWr D (wB h a0 a1 a2 cy N ec cc f cs tr) [(cy, .int)] sz)) (va_Qv (fun (z9 : (Nat → Int32)) => ∀ w, w < N → z9 w = f w) (fun (z9 : (Nat → Int32)) t => va_P D vwCl (wB h a0 a1 a2 cy N ec cc f cs z9) t.heap) (va_A (wB h a0 a1 a2 cy N ec cc f cs tr) sz)) 0 0 (va_A (wB h a0 a1 a2 cy N ec cc f cs tr) sz) := by
  refine Met.ofW (cc := cX0_startTrusses) (maxL := 2) (ret := none) (by decide) rfl ?_
  intro p e s m args below meth c s₁ B hml hv
  obtain ⟨rfl, hsz, hP, hK, hD0⟩ := hv
  have hx := B.exec
  have hb := B.bytes
  have hr := B.returns
  have hts := atoms_spec (ws := wsX0_startTrusses) B.pre
  have hown : s.vm.findClass RX0 = some m.cls := findClass_of_methodNamed B.named
  have hlocks := B.notSynchronized
  subst hsz
  have hD := hD0.self (sz := s.heap.size)
  generalize hAe : va_A (wB h a0 a1 a2 cy N ec cc f cs tr) s.heap.size = A at hD ⊢
  have hA : ∀ q : Nat, s.heap.size ≤ q → A q := fun q h => by rw [← hAe]; exact Or.inr h
  have hS : va_S A s.heap s.heap [] := va_S.rf
  have hin : ∀ w ∈ wsX00, w ∈ wsX0_startTrusses := by decide +kernel
  have hf9 := hts (.fieldLink RX0 9 "Corebarn" "neighbours" "[I") (by decide +kernel)
  have hf16 := hts (.fieldLink RX0 16 "Corebarn" "trussNeighbours" "[I") (by decide +kernel)
  have hf19 := hts (.fieldLink RX0 19 "Corebarn" "nodeCount" "I") (by decide +kernel)
  have hl := lv_entry ([.ref h]) (n := 2) (Nat.le_of_ble_eq_true rfl)
  rw [lg_entry_eq]
  generalize (lg_sl ([.ref h]) ++ List.replicate (2 - (lg_sl ([.ref h])).length) Slot.unset).toArray = ls at hl ⊢
  have hl : lv_has ls 2 [(0, .ref h)] := hl
  refine lv_iconst (v := (nI 0)) hx hb dX0_startTrusses_0 (by decide) ?_
  refine lv_istore_n (lv' := [(1, .int (nI 0)), (0, .ref h)]) hx hb dX0_startTrusses_1 rfl hl (by decide) rfl (fun ls hl => ?_)
  have K2 : ∀ (fu2 : Nat) (i : Nat) (g1 : Nat → Int32) (H : Heap) (locs : List Loc) (ls : Array Slot), (i ≤ N) → (∀ w, w < i → g1 w = f w) → N - i < fu2 → va_P D vwCl (wB h a0 a1 a2 cy N ec cc f cs g1) H → va_S A s.heap H locs → lv_has ls 2 [(1, .int (nI i)), (0, .ref h)] → W p l e (headSpec wsX0_startTrusses ({ frames := 0, cells := 0, slots := 0, locals := 0 } : Room)).room s m ([.ref h] : List Value).toArray below meth c H locs 0 0 (MQ below (va_Qv (fun (z9 : (Nat → Int32)) => ∀ w, w < N → z9 w = f w) (fun (z9 : (Nat → Int32)) t => va_P D vwCl (wB h a0 a1 a2 cy N ec cc f cs z9) t.heap) A) ([.ref h] : List Value).toArray s 0 0 A) (F0 m 2 ls []) := by
    intro fu2
    induction fu2 with
    | zero =>
      intro i g1 H locs ls hi hg1 hfu2
      exact absurd hfu2 (Nat.not_lt_zero _)
    | succ fu2 ih2 =>
      intro i g1 H locs ls hi hg1 hfu2 hP hS hl
      have hD : va_D A (wB h a0 a1 a2 cy N ec cc f cs g1) := zD hD rfl
      refine lv_iload_n hx hb dX0_startTrusses_2 rfl (lv_at hl 0 rfl) ?_
      refine lv_aload_n hx hb dX0_startTrusses_3 rfl (lv_at hl 1 rfl) ?_
      refine va_get (D := D) (ci := 0) (v := .int (nI N)) (C := RX0) (T := TX0) (N := 6) hx hb hts hin hown hK hP 0 rfl rfl 3 (by decide) hf19 (fun _ h9 => h9) rfl dX0_startTrusses_4 ?_
      refine z_icmp_ge (tgt := 28) hx hb dX0_startTrusses_7 (by decide) (by omega) (by omega) (fun h7 => ?_) (fun h7 => ?_)
      · exact W.vret hx hb hr (fun t9 ht9 hW9 => ⟨⟨g1, rfl, (fun w hw => hg1 w (by omega)), by show va_P D vwCl (wB h a0 a1 a2 cy N ec cc f cs g1) t9.heap; rw [ht9]; exact hP⟩, hS.F ht9⟩) hS.2.2 dX0_startTrusses_28
      · refine lv_aload_n hx hb dX0_startTrusses_10 rfl (lv_at hl 1 rfl) ?_
        refine va_get (D := D) (ci := 0) (v := .ref a2) (C := RX0) (T := TX0) (N := 6) hx hb hts hin hown hK hP 0 rfl rfl 2 (by decide) hf16 (fun _ h9 => h9) rfl dX0_startTrusses_11 ?_
        refine lv_iload_n hx hb dX0_startTrusses_14 rfl (lv_at hl 0 rfl) ?_
        refine lv_aload_n hx hb dX0_startTrusses_15 rfl (lv_at hl 1 rfl) ?_
        refine va_get (D := D) (ci := 0) (v := .ref a0) (C := RX0) (T := TX0) (N := 6) hx hb hts hin hown hK hP 0 rfl rfl 0 (by decide) hf9 (fun _ h9 => h9) rfl dX0_startTrusses_16 ?_
        refine lv_iload_n hx hb dX0_startTrusses_19 rfl (lv_at hl 0 rfl) ?_
        refine z_iald hx hb hK hP 1 0 rfl rfl (by omega) (by decide) dX0_startTrusses_20 ?_
        refine z_iast hx hb hK hP hD hS 3 0 rfl rfl (by omega) (by decide) dX0_startTrusses_21 (fun H locs hP hS => ?_)
        have hP : va_P D vwCl (wB h a0 a1 a2 cy N ec cc f cs (upd g1 i (f i))) H := hP
        have hD : va_D A (wB h a0 a1 a2 cy N ec cc f cs (upd g1 i (f i))) := zD hD rfl
        refine lv_iinc (v := (nI (i + 1))) (lv' := [(1, .int (nI (i + 1))), (0, .ref h)]) hx hb dX0_startTrusses_22 hl (k := 0) rfl (nI_1 _) (by decide) rfl (fun ls hl => ?_)
        refine lv_goto (tgt := 2) hx hb dX0_startTrusses_25 (by decide) ?_
        exact ih2 (i + 1) (upd g1 i (f i)) _ _ _ (by omega) (fun w hw => by by_cases e : w = i; (rw [e, pk_us]); (rw [pk_un e]; exact hg1 w (by omega))) (by omega) hP hS (lv_sub hl [0, 1] rfl)
  exact K2 (N - 0 + 1) 0 tr _ _ _ (by omega) (fun w hw => absurd hw (Nat.not_lt_zero w)) (Nat.lt_succ_self _) hP hS (lv_sub hl [0, 1] rfl)
set_option maxHeartbeats 4000000 in
set_option maxRecDepth 100000 in
theorem c_X0_dropWeakEdges (l : Launch) (D : va_G) (cy : ClassId) (h a0 a1 a2 N : Nat) (ec cc : Int32) (f cs tr : Nat → Int32) (sz : Nat) (k : Int32) (f0 : Nat → Int32) (hg : gd f0 N) (hI : tI f0 N k.toInt tr) : Met l yX0_dropWeakEdges wsX0_dropWeakEdges ({ frames := 2, cells := 0, slots := 0, locals := 41 } : Room) (va_Pc [.ref h, .int k] (zWr D (wB h a0 a1 a2 cy N ec cc f cs tr) [(cy, .int)] sz)) (va_Qi (fun (r : Int32) (z9 : (Nat → Int32)) => ∃ d, r = zb d ∧ tJ f0 N (k).toInt tr (fun a b => a < N ∧ a < b) z9 d) (fun (z9 : (Nat → Int32)) t => va_P D vwCl (wB h a0 a1 a2 cy N ec cc f cs z9) t.heap) (va_A (wB h a0 a1 a2 cy N ec cc f cs tr) sz)) 0 0 (va_A (wB h a0 a1 a2 cy N ec cc f cs tr) sz) := by
  refine Met.ofW (cc := cX0_dropWeakEdges) (maxL := 5) (ret := (some .boolean)) (by decide) rfl ?_
  intro p e s m args below meth c s₁ B hml hv
  obtain ⟨rfl, hsz, hP, hK, hD0⟩ := hv
  have hx := B.exec
  have hb := B.bytes
  have hr := B.returns
  have hts := atoms_spec (ws := wsX0_dropWeakEdges) B.pre
  have hown : s.vm.findClass RX0 = some m.cls := findClass_of_methodNamed B.named
  have hlocks := B.notSynchronized
  subst hsz
  have hD := hD0.self (sz := s.heap.size)
  generalize hAe : va_A (wB h a0 a1 a2 cy N ec cc f cs tr) s.heap.size = A at hD ⊢
  have hA : ∀ q : Nat, s.heap.size ≤ q → A q := fun q h => by rw [← hAe]; exact Or.inr h
  have hS : va_S A s.heap s.heap [] := va_S.rf
  have hin : ∀ w ∈ wsX00, w ∈ wsX0_dropWeakEdges := by decide +kernel
  have hf16 := hts (.fieldLink RX0 16 "Corebarn" "trussNeighbours" "[I") (by decide +kernel)
  have hf19 := hts (.fieldLink RX0 19 "Corebarn" "nodeCount" "I") (by decide +kernel)
  have hN := hg.1
  have hl := lv_entry ([.ref h, .int k]) (n := 5) (Nat.le_of_ble_eq_true rfl)
  rw [lg_entry_eq]
  generalize (lg_sl ([.ref h, .int k]) ++ List.replicate (5 - (lg_sl ([.ref h, .int k])).length) Slot.unset).toArray = ls at hl ⊢
  have hl : lv_has ls 5 [(0, .ref h), (1, .int k)] := hl
  refine lv_iconst (v := (nI 0)) hx hb dX0_dropWeakEdges_0 (by decide) ?_
  refine lv_istore_n (lv' := [(2, .int (nI 0)), (0, .ref h), (1, .int k)]) hx hb dX0_dropWeakEdges_1 rfl hl (by decide) rfl (fun ls hl => ?_)
  refine lv_iconst (v := (nI 0)) hx hb dX0_dropWeakEdges_2 (by decide) ?_
  refine lv_istore_n (lv' := [(3, .int (nI 0)), (2, .int (nI 0)), (0, .ref h), (1, .int k)]) hx hb dX0_dropWeakEdges_3 rfl hl (by decide) rfl (fun ls hl => ?_)
  have K4 : ∀ (fu4 : Nat) (i : Nat) (d2 : Bool) (g3 : Nat → Int32) (H : Heap) (locs : List Loc) (ls : Array Slot), (i ≤ N) → (tJ f0 N k.toInt tr (fun a b => a < i ∧ a < b) g3 d2) → N - i < fu4 → va_P D vwCl (wB h a0 a1 a2 cy N ec cc f cs g3) H → va_S A s.heap H locs → lv_has ls 5 [(3, .int (nI i)), (2, .int (zb d2)), (0, .ref h), (1, .int k)] → W p l e (headSpec wsX0_dropWeakEdges ({ frames := 2, cells := 0, slots := 0, locals := 41 } : Room)).room s m ([.ref h, .int k] : List Value).toArray below meth c H locs 0 0 (MQ below (va_Qi (fun (r : Int32) (z9 : (Nat → Int32)) => ∃ d, r = zb d ∧ tJ f0 N (k).toInt tr (fun a b => a < N ∧ a < b) z9 d) (fun (z9 : (Nat → Int32)) t => va_P D vwCl (wB h a0 a1 a2 cy N ec cc f cs z9) t.heap) A) ([.ref h, .int k] : List Value).toArray s 0 0 A) (F0 m 4 ls []) := by
    intro fu4
    induction fu4 with
    | zero =>
      intro i d2 g3 H locs ls hi hJ hfu4
      exact absurd hfu4 (Nat.not_lt_zero _)
    | succ fu4 ih4 =>
      intro i d2 g3 H locs ls hi hJ hfu4 hP hS hl
      have hD : va_D A (wB h a0 a1 a2 cy N ec cc f cs g3) := zD hD rfl
      refine lv_iload_n hx hb dX0_dropWeakEdges_4 rfl (lv_at hl 0 rfl) ?_
      refine lv_aload_n hx hb dX0_dropWeakEdges_5 rfl (lv_at hl 2 rfl) ?_
      refine va_get (D := D) (ci := 0) (v := .int (nI N)) (C := RX0) (T := TX0) (N := 6) hx hb hts hin hown hK hP 0 rfl rfl 3 (by decide) hf19 (fun _ h9 => h9) rfl dX0_dropWeakEdges_6 ?_
      refine z_icmp_ge (tgt := 110) hx hb dX0_dropWeakEdges_9 (by decide) (by omega) (by omega) (fun h9 => ?_) (fun h9 => ?_)
      · refine lv_iload_n hx hb dX0_dropWeakEdges_110 rfl (lv_at hl 1 rfl) ?_
        exact W.zret (v := (zb d2)) (ty := .boolean) hx hb hr (zb_nar _) (fun t9 ht9 hW9 => ⟨⟨(zb d2), g3, rfl, ⟨d2, rfl, by rw [Nat.le_antisymm hi h9] at hJ; exact hJ⟩, by show va_P D vwCl (wB h a0 a1 a2 cy N ec cc f cs g3) t9.heap; rw [ht9]; exact hP⟩, hS.F ht9⟩) hS.2.2 dX0_dropWeakEdges_111
      · refine lv_iload_n hx hb dX0_dropWeakEdges_12 rfl (lv_at hl 0 rfl) ?_
        refine lv_iconst (v := (nI 1)) hx hb dX0_dropWeakEdges_13 (by decide) ?_
        refine z_iadd hx hb dX0_dropWeakEdges_14 ?_
        refine lv_istore (lv' := [(4, .int (nI (i + 1))), (3, .int (nI i)), (2, .int (zb d2)), (0, .ref h), (1, .int k)]) hx hb dX0_dropWeakEdges_15 hl (by decide) rfl (fun ls hl => ?_)
        have K17 : ∀ (fu17 : Nat) (j : Nat) (d3 : Bool) (g4 : Nat → Int32) (H : Heap) (locs : List Loc) (ls : Array Slot), (i + 1 ≤ j) → (j ≤ N) → (tJ f0 N k.toInt tr (fun a b => (a < i ∧ a < b) ∨ (a = i ∧ a < b ∧ b < j)) g4 d3) → N - j < fu17 → va_P D vwCl (wB h a0 a1 a2 cy N ec cc f cs g4) H → va_S A s.heap H locs → lv_has ls 5 [(4, .int (nI j)), (2, .int (zb d3)), (0, .ref h), (1, .int k), (3, .int (nI i))] → W p l e (headSpec wsX0_dropWeakEdges ({ frames := 2, cells := 0, slots := 0, locals := 41 } : Room)).room s m ([.ref h, .int k] : List Value).toArray below meth c H locs 0 0 (MQ below (va_Qi (fun (r : Int32) (z9 : (Nat → Int32)) => ∃ d, r = zb d ∧ tJ f0 N (k).toInt tr (fun a b => a < N ∧ a < b) z9 d) (fun (z9 : (Nat → Int32)) t => va_P D vwCl (wB h a0 a1 a2 cy N ec cc f cs z9) t.heap) A) ([.ref h, .int k] : List Value).toArray s 0 0 A) (F0 m 17 ls []) := by
          intro fu17
          induction fu17 with
          | zero =>
            intro j d3 g4 H locs ls hj hj2 hJ2 hfu17
            exact absurd hfu17 (Nat.not_lt_zero _)
          | succ fu17 ih17 =>
            intro j d3 g4 H locs ls hj hj2 hJ2 hfu17 hP hS hl
            have hD : va_D A (wB h a0 a1 a2 cy N ec cc f cs g4) := zD hD rfl
            refine lv_iload hx hb dX0_dropWeakEdges_17 (lv_at hl 0 rfl) ?_
            refine lv_aload_n hx hb dX0_dropWeakEdges_19 rfl (lv_at hl 2 rfl) ?_
            refine va_get (D := D) (ci := 0) (v := .int (nI N)) (C := RX0) (T := TX0) (N := 6) hx hb hts hin hown hK hP 0 rfl rfl 3 (by decide) hf19 (fun _ h9 => h9) rfl dX0_dropWeakEdges_20 ?_
            refine z_icmp_ge (tgt := 104) hx hb dX0_dropWeakEdges_23 (by decide) (by omega) (by omega) (fun h23 => ?_) (fun h23 => ?_)
            · refine lv_iinc (v := (nI (i + 1))) (lv' := [(3, .int (nI (i + 1))), (4, .int (nI j)), (2, .int (zb d3)), (0, .ref h), (1, .int k)]) hx hb dX0_dropWeakEdges_104 hl (k := 4) rfl (nI_1 _) (by decide) rfl (fun ls hl => ?_)
              refine lv_goto (tgt := 4) hx hb dX0_dropWeakEdges_107 (by decide) ?_
              exact ih4 (i + 1) d3 g4 _ _ _ (by omega) (tJ_V hJ2 (fun a b ha hb hab q => by omega) hg) (by omega) hP hS (lv_sub hl [0, 2, 3, 4] rfl)
            · refine lv_aload_n hx hb dX0_dropWeakEdges_26 rfl (lv_at hl 2 rfl) ?_
              refine va_get (D := D) (ci := 0) (v := .ref a2) (C := RX0) (T := TX0) (N := 6) hx hb hts hin hown hK hP 0 rfl rfl 2 (by decide) hf16 (fun _ h9 => h9) rfl dX0_dropWeakEdges_27 ?_
              refine lv_iload_n hx hb dX0_dropWeakEdges_30 rfl (lv_at hl 4 rfl) ?_
              refine z_iald hx hb hK hP 3 0 rfl rfl (by omega) (by decide) dX0_dropWeakEdges_31 ?_
              refine lv_iload hx hb dX0_dropWeakEdges_32 (lv_at hl 0 rfl) ?_
              refine zrS0 (As := [.int (g4 i), .int (nI j)]) (rest := []) ⟨hx, hb, hml, hown, hts⟩ (c_X0_contains l (g4 i) j (by omega)) (va_cwS 2 hts gX0_dropWeakEdges_X0_contains rfl rfl rfl (by decide +kernel) ⟨Nat.le_of_ble_eq_true rfl, Nat.le_of_ble_eq_true rfl⟩) rfl hl rfl (Nat.le_of_ble_eq_true rfl) dX0_dropWeakEdges_34 ⟨Nat.le_of_ble_eq_true rfl, Nat.le_of_ble_eq_true rfl⟩ hS (fun r34 H locs hw34 hk9 hS => ?_)
              obtain rfl : r34 = (zb (bt (g4 i) j)) := hw34
              have hP := zkeep hP hk9
              refine z_ifb_eq (tgt := 98) hx hb dX0_dropWeakEdges_37 (by decide) (fun h37 => ?_) (fun h37 => ?_)
              · refine lv_iinc (v := (nI (j + 1))) (lv' := [(4, .int (nI (j + 1))), (2, .int (zb d3)), (0, .ref h), (1, .int k), (3, .int (nI i))]) hx hb dX0_dropWeakEdges_98 hl (k := 0) rfl (nI_1 _) (by decide) rfl (fun ls hl => ?_)
                refine lv_goto (tgt := 17) hx hb dX0_dropWeakEdges_101 (by decide) ?_
                exact ih17 (j + 1) d3 g4 _ _ _ (by omega) (by omega) (tJ_V (tJ_skip hJ2 (by omega) h37) (fun a b ha hb hab q => by omega) hg) (by omega) hP hS (lv_sub hl [0, 1, 2, 3, 4] rfl)
              · refine lv_aload_n hx hb dX0_dropWeakEdges_40 rfl (lv_at hl 2 rfl) ?_
                refine va_get (D := D) (ci := 0) (v := .ref a2) (C := RX0) (T := TX0) (N := 6) hx hb hts hin hown hK hP 0 rfl rfl 2 (by decide) hf16 (fun _ h9 => h9) rfl dX0_dropWeakEdges_41 ?_
                refine lv_iload_n hx hb dX0_dropWeakEdges_44 rfl (lv_at hl 4 rfl) ?_
                refine z_iald hx hb hK hP 3 0 rfl rfl (by omega) (by decide) dX0_dropWeakEdges_45 ?_
                refine lv_aload_n hx hb dX0_dropWeakEdges_46 rfl (lv_at hl 2 rfl) ?_
                refine va_get (D := D) (ci := 0) (v := .ref a2) (C := RX0) (T := TX0) (N := 6) hx hb hts hin hown hK hP 0 rfl rfl 2 (by decide) hf16 (fun _ h9 => h9) rfl dX0_dropWeakEdges_47 ?_
                refine lv_iload hx hb dX0_dropWeakEdges_50 (lv_at hl 0 rfl) ?_
                refine z_iald hx hb hK hP 3 0 rfl rfl (by omega) (by decide) dX0_dropWeakEdges_52 ?_
                refine lv_iand hx hb dX0_dropWeakEdges_53 ?_
                refine zrS0 (As := [.int ((g4 i) &&& (g4 j))]) (rest := []) ⟨hx, hb, hml, hown, hts⟩ (c_X0_size l ((g4 i) &&& (g4 j))) (va_cwS 1 hts gX0_dropWeakEdges_X0_size rfl rfl rfl (by decide +kernel) ⟨Nat.le_of_ble_eq_true rfl, Nat.le_of_ble_eq_true rfl⟩) rfl hl rfl (Nat.le_of_ble_eq_true rfl) dX0_dropWeakEdges_54 ⟨Nat.le_of_ble_eq_true rfl, Nat.le_of_ble_eq_true rfl⟩ hS (fun r54 H locs hw54 hk9 hS => ?_)
                obtain rfl : r54 = (nI (zpop ((g4 i) &&& (g4 j)))) := hw54
                have hP := zkeep hP hk9
                refine lv_iload_n hx hb dX0_dropWeakEdges_57 rfl (lv_at hl 3 rfl) ?_
                refine lv_icmp_ge (tgt := 98) hx hb dX0_dropWeakEdges_58 (by decide) (fun h58 => ?_) (fun h58 => ?_)
                · refine lv_iinc (v := (nI (j + 1))) (lv' := [(4, .int (nI (j + 1))), (2, .int (zb d3)), (0, .ref h), (1, .int k), (3, .int (nI i))]) hx hb dX0_dropWeakEdges_98 hl (k := 0) rfl (nI_1 _) (by decide) rfl (fun ls hl => ?_)
                  refine lv_goto (tgt := 17) hx hb dX0_dropWeakEdges_101 (by decide) ?_
                  exact ih17 (j + 1) d3 g4 _ _ _ (by omega) (by omega) (tJ_V (tJ_stay hJ2 (by omega) (by omega) ((i_leN (pop_31 _)).mp h58)) (fun a b ha hb hab q => by omega) hg) (by omega) hP hS (lv_sub hl [0, 1, 2, 3, 4] rfl)
                · refine lv_aload_n hx hb dX0_dropWeakEdges_61 rfl (lv_at hl 2 rfl) ?_
                  refine va_get (D := D) (ci := 0) (v := .ref a2) (C := RX0) (T := TX0) (N := 6) hx hb hts hin hown hK hP 0 rfl rfl 2 (by decide) hf16 (fun _ h9 => h9) rfl dX0_dropWeakEdges_62 ?_
                  refine lv_iload_n hx hb dX0_dropWeakEdges_65 rfl (lv_at hl 4 rfl) ?_
                  refine lv_aload_n hx hb dX0_dropWeakEdges_66 rfl (lv_at hl 2 rfl) ?_
                  refine va_get (D := D) (ci := 0) (v := .ref a2) (C := RX0) (T := TX0) (N := 6) hx hb hts hin hown hK hP 0 rfl rfl 2 (by decide) hf16 (fun _ h9 => h9) rfl dX0_dropWeakEdges_67 ?_
                  refine lv_iload_n hx hb dX0_dropWeakEdges_70 rfl (lv_at hl 4 rfl) ?_
                  refine z_iald hx hb hK hP 3 0 rfl rfl (by omega) (by decide) dX0_dropWeakEdges_71 ?_
                  refine lv_iload hx hb dX0_dropWeakEdges_72 (lv_at hl 0 rfl) ?_
                  refine zrS0 (As := [.int (g4 i), .int (nI j)]) (rest := [.int (nI i), .ref a2]) ⟨hx, hb, hml, hown, hts⟩ (c_X0_without l (g4 i) j) (va_cwS 2 hts gX0_dropWeakEdges_X0_without rfl rfl rfl (by decide +kernel) ⟨Nat.le_of_ble_eq_true rfl, Nat.le_of_ble_eq_true rfl⟩) rfl hl rfl (Nat.le_of_ble_eq_true rfl) dX0_dropWeakEdges_74 ⟨Nat.le_of_ble_eq_true rfl, Nat.le_of_ble_eq_true rfl⟩ hS (fun r74 H locs hw74 hk9 hS => ?_)
                  obtain rfl : r74 = (zdl (g4 i) j) := hw74
                  have hP := zkeep hP hk9
                  refine z_iast hx hb hK hP hD hS 3 0 rfl rfl (by omega) (by decide) dX0_dropWeakEdges_77 (fun H locs hP hS => ?_)
                  have hP : va_P D vwCl (wB h a0 a1 a2 cy N ec cc f cs (upd g4 i (zdl (g4 i) j))) H := hP
                  have hD : va_D A (wB h a0 a1 a2 cy N ec cc f cs (upd g4 i (zdl (g4 i) j))) := zD hD rfl
                  refine lv_aload_n hx hb dX0_dropWeakEdges_78 rfl (lv_at hl 2 rfl) ?_
                  refine va_get (D := D) (ci := 0) (v := .ref a2) (C := RX0) (T := TX0) (N := 6) hx hb hts hin hown hK hP 0 rfl rfl 2 (by decide) hf16 (fun _ h9 => h9) rfl dX0_dropWeakEdges_79 ?_
                  refine lv_iload hx hb dX0_dropWeakEdges_82 (lv_at hl 0 rfl) ?_
                  refine lv_aload_n hx hb dX0_dropWeakEdges_84 rfl (lv_at hl 2 rfl) ?_
                  refine va_get (D := D) (ci := 0) (v := .ref a2) (C := RX0) (T := TX0) (N := 6) hx hb hts hin hown hK hP 0 rfl rfl 2 (by decide) hf16 (fun _ h9 => h9) rfl dX0_dropWeakEdges_85 ?_
                  refine lv_iload hx hb dX0_dropWeakEdges_88 (lv_at hl 0 rfl) ?_
                  refine z_iald hx hb hK hP 3 0 rfl rfl (by omega) (by decide) dX0_dropWeakEdges_90 ?_
                  refine lv_iload_n hx hb dX0_dropWeakEdges_91 rfl (lv_at hl 4 rfl) ?_
                  refine zrS0 (As := [.int ((upd g4 i (zdl (g4 i) j)) j), .int (nI i)]) (rest := [.int (nI j), .ref a2]) ⟨hx, hb, hml, hown, hts⟩ (c_X0_without l ((upd g4 i (zdl (g4 i) j)) j) i) (va_cwS 2 hts gX0_dropWeakEdges_X0_without rfl rfl rfl (by decide +kernel) ⟨Nat.le_of_ble_eq_true rfl, Nat.le_of_ble_eq_true rfl⟩) rfl hl rfl (Nat.le_of_ble_eq_true rfl) dX0_dropWeakEdges_92 ⟨Nat.le_of_ble_eq_true rfl, Nat.le_of_ble_eq_true rfl⟩ hS (fun r92 H locs hw92 hk9 hS => ?_)
                  obtain rfl : r92 = (zdl ((upd g4 i (zdl (g4 i) j)) j) i) := hw92
                  have hP := zkeep hP hk9
                  refine z_iast hx hb hK hP hD hS 3 0 rfl rfl (by omega) (by decide) dX0_dropWeakEdges_95 (fun H locs hP hS => ?_)
                  have hP : va_P D vwCl (wB h a0 a1 a2 cy N ec cc f cs (upd (upd g4 i (zdl (g4 i) j)) j (zdl ((upd g4 i (zdl (g4 i) j)) j) i))) H := hP
                  have hD : va_D A (wB h a0 a1 a2 cy N ec cc f cs (upd (upd g4 i (zdl (g4 i) j)) j (zdl ((upd g4 i (zdl (g4 i) j)) j) i))) := zD hD rfl
                  refine lv_iconst (v := (nI 1)) hx hb dX0_dropWeakEdges_96 (by decide) ?_
                  refine lv_istore_n (lv' := [(2, .int (nI 1)), (4, .int (nI j)), (0, .ref h), (1, .int k), (3, .int (nI i))]) hx hb dX0_dropWeakEdges_97 rfl hl (by decide) rfl (fun ls hl => ?_)
                  refine lv_iinc (v := (nI (j + 1))) (lv' := [(4, .int (nI (j + 1))), (2, .int (nI 1)), (0, .ref h), (1, .int k), (3, .int (nI i))]) hx hb dX0_dropWeakEdges_98 hl (k := 1) rfl (nI_1 _) (by decide) rfl (fun ls hl => ?_)
                  refine lv_goto (tgt := 17) hx hb dX0_dropWeakEdges_101 (by decide) ?_
                  exact ih17 (j + 1) true (upd (upd g4 i (zdl (g4 i) j)) j (zdl ((upd g4 i (zdl (g4 i) j)) j) i)) _ _ _ (by omega) (by omega) (tJ_drop hg hJ2 (by omega) h37 (fun q => h58 ((i_leN (pop_31 _)).mpr q))) (by omega) hP hS (lv_sub hl [0, 1, 2, 3, 4] rfl)
        exact K17 (N - (i + 1) + 1) (i + 1) d2 g3 _ _ _ (by omega) (by omega) (tJ_V hJ (fun a b ha hb hab q => by omega) hg) (Nat.lt_succ_self _) hP hS (lv_sub hl [0, 2, 3, 4, 1] rfl)
  exact K4 (N - 0 + 1) 0 false tr _ _ _ (by omega) (tJ_i hI (fun a b q => by omega)) (Nat.lt_succ_self _) hP hS (lv_sub hl [0, 1, 2, 3] rfl)
set_option maxHeartbeats 4000000 in
set_option maxRecDepth 100000 in
theorem c_X0_shrinkToTruss (l : Launch) (D : va_G) (cy : ClassId) (h a0 a1 a2 N : Nat) (ec cc : Int32) (f cs tr : Nat → Int32) (sz : Nat) (k : Int32) (f0 : Nat → Int32) (hg : gd f0 N) (he : ∀ w, w < N → tr w = f0 w) : Met l yX0_shrinkToTruss wsX0_shrinkToTruss ({ frames := 3, cells := 0, slots := 0, locals := 65 } : Room) (va_Pc [.ref h, .int k] (zWr D (wB h a0 a1 a2 cy N ec cc f cs tr) [(cy, .int)] sz)) (va_Qv (fun (z9 : (Nat → Int32)) => isTr f0 N (k - nI 2).toInt z9) (fun (z9 : (Nat → Int32)) t => va_P D vwCl (wB h a0 a1 a2 cy N ec cc f cs z9) t.heap) (va_A (wB h a0 a1 a2 cy N ec cc f cs tr) sz)) 0 0 (va_A (wB h a0 a1 a2 cy N ec cc f cs tr) sz) := by
  refine Met.ofW (cc := cX0_shrinkToTruss) (maxL := 4) (ret := none) (by decide) rfl ?_
  intro p e s m args below meth c s₁ B hml hv
  obtain ⟨rfl, hsz, hP, hK, hD0⟩ := hv
  have hx := B.exec
  have hb := B.bytes
  have hr := B.returns
  have hts := atoms_spec (ws := wsX0_shrinkToTruss) B.pre
  have hown : s.vm.findClass RX0 = some m.cls := findClass_of_methodNamed B.named
  have hlocks := B.notSynchronized
  subst hsz
  have hD := hD0.self (sz := s.heap.size)
  generalize hAe : va_A (wB h a0 a1 a2 cy N ec cc f cs tr) s.heap.size = A at hD ⊢
  have hA : ∀ q : Nat, s.heap.size ≤ q → A q := fun q h => by rw [← hAe]; exact Or.inr h
  have hS : va_S A s.heap s.heap [] := va_S.rf
  have hl := lv_entry ([.ref h, .int k]) (n := 4) (Nat.le_of_ble_eq_true rfl)
  rw [lg_entry_eq]
  generalize (lg_sl ([.ref h, .int k]) ++ List.replicate (4 - (lg_sl ([.ref h, .int k])).length) Slot.unset).toArray = ls at hl ⊢
  have hl : lv_has ls 4 [(0, .ref h), (1, .int k)] := hl
  refine lv_iconst (v := (nI 1)) hx hb dX0_shrinkToTruss_0 (by decide) ?_
  refine lv_istore_n (lv' := [(2, .int (nI 1)), (0, .ref h), (1, .int k)]) hx hb dX0_shrinkToTruss_1 rfl hl (by decide) rfl (fun ls hl => ?_)
  refine lv_iconst (v := (nI 0)) hx hb dX0_shrinkToTruss_2 (by decide) ?_
  refine lv_istore_n (lv' := [(3, .int (nI 0)), (2, .int (nI 1)), (0, .ref h), (1, .int k)]) hx hb dX0_shrinkToTruss_3 rfl hl (by decide) rfl (fun ls hl => ?_)
  have K4 : ∀ (fu4 : Nat) (d : Bool) (t0 : Nat) (g2 : Nat → Int32) (H : Heap) (locs : List Loc) (ls : Array Slot), (tO f0 N (k - nI 2).toInt g2 d t0) → (t0 ≤ 191) → 400 - t0 < fu4 → va_P D vwCl (wB h a0 a1 a2 cy N ec cc f cs g2) H → va_S A s.heap H locs → lv_has ls 4 [(2, .int (zb d)), (3, .int (nI t0)), (0, .ref h), (1, .int k)] → W p l e (headSpec wsX0_shrinkToTruss ({ frames := 3, cells := 0, slots := 0, locals := 65 } : Room)).room s m ([.ref h, .int k] : List Value).toArray below meth c H locs 0 0 (MQ below (va_Qv (fun (z9 : (Nat → Int32)) => isTr f0 N (k - nI 2).toInt z9) (fun (z9 : (Nat → Int32)) t => va_P D vwCl (wB h a0 a1 a2 cy N ec cc f cs z9) t.heap) A) ([.ref h, .int k] : List Value).toArray s 0 0 A) (F0 m 4 ls []) := by
    intro fu4
    induction fu4 with
    | zero =>
      intro d t0 g2 H locs ls hO ht0 hfu4
      exact absurd hfu4 (Nat.not_lt_zero _)
    | succ fu4 ih4 =>
      intro d t0 g2 H locs ls hO ht0 hfu4 hP hS hl
      have hD : va_D A (wB h a0 a1 a2 cy N ec cc f cs g2) := zD hD rfl
      refine lv_iload_n hx hb dX0_shrinkToTruss_4 rfl (lv_at hl 0 rfl) ?_
      refine z_ifb_eq (tgt := 29) hx hb dX0_shrinkToTruss_5 (by decide) (fun h5 => ?_) (fun h5 => ?_)
      · exact W.vret hx hb hr (fun t9 ht9 hW9 => ⟨⟨g2, rfl, (tO_end (by rw [h5] at hO; exact hO)), by show va_P D vwCl (wB h a0 a1 a2 cy N ec cc f cs g2) t9.heap; rw [ht9]; exact hP⟩, hS.F ht9⟩) hS.2.2 dX0_shrinkToTruss_29
      · refine lv_iload_n hx hb dX0_shrinkToTruss_8 rfl (lv_at hl 1 rfl) ?_
        refine lv_sipush (v := (nI 190)) hx hb dX0_shrinkToTruss_9 (by decide) ?_
        refine z_icmp_gt (tgt := 29) hx hb dX0_shrinkToTruss_12 (by decide) (by omega) (by omega) (fun h12 => ?_) (fun h12 => ?_)
        · exact absurd (tO_t hg (by rw [h5] at hO; exact hO)) (by omega)
        · refine lv_aload_n hx hb dX0_shrinkToTruss_15 rfl (lv_at hl 2 rfl) ?_
          refine lv_iload_n hx hb dX0_shrinkToTruss_16 rfl (lv_at hl 3 rfl) ?_
          refine lv_iconst (v := (nI 2)) hx hb dX0_shrinkToTruss_17 (by decide) ?_
          refine lv_isub hx hb dX0_shrinkToTruss_18 ?_
          refine zwVi (As := [.int (k - (nI 2))]) (rest := []) 0 [0, 1, 2, 3] rfl ⟨hx, hb, hml, hown, hts⟩ (c_X0_dropWeakEdges l D cy h a0 a1 a2 N ec cc f cs g2 _ (k - (nI 2)) f0 hg hO.1) (cwV 1 hts gX0_shrinkToTruss_X0_dropWeakEdges rfl rfl rfl (by decide +kernel) ⟨Nat.le_of_ble_eq_true rfl, Nat.le_of_ble_eq_true rfl⟩) hK hP hD hA rfl rfl rfl hl rfl (Nat.le_of_ble_eq_true rfl) dX0_shrinkToTruss_19 ⟨Nat.le_of_ble_eq_true rfl, Nat.le_of_ble_eq_true rfl⟩ hS (fun r19 u19 H locs hw19 hP hS => ?_)
          obtain ⟨tr_19, rfl⟩ : ∃ z, z = u19 := ⟨_, rfl⟩
          have hP : va_P D vwCl (wB h a0 a1 a2 cy N ec cc f cs tr_19) H := hP
          have hD : va_D A (wB h a0 a1 a2 cy N ec cc f cs tr_19) := zD hD rfl
          have hw19 : ∃ d, r19 = zb d ∧ tJ f0 N ((k - (nI 2))).toInt g2 (fun a b => a < N ∧ a < b) tr_19 d := hw19
          obtain ⟨d2, rfl, hJ⟩ := hw19
          refine lv_istore_n (lv' := [(2, .int (zb d2)), (3, .int (nI t0)), (0, .ref h), (1, .int k)]) hx hb dX0_shrinkToTruss_22 rfl hl (by decide) rfl (fun ls hl => ?_)
          refine lv_iinc (v := (nI (t0 + 1))) (lv' := [(3, .int (nI (t0 + 1))), (2, .int (zb d2)), (0, .ref h), (1, .int k)]) hx hb dX0_shrinkToTruss_23 hl (k := 1) rfl (nI_1 _) (by decide) rfl (fun ls hl => ?_)
          refine lv_goto (tgt := 4) hx hb dX0_shrinkToTruss_26 (by decide) ?_
          exact ih4 d2 (t0 + 1) tr_19 _ _ _ (tO_step hg (by rw [h5] at hO; exact hO) hJ (fun a b ha hb hab => by omega)) (by omega) (by omega) hP hS (lv_sub hl [1, 0, 2, 3] rfl)
  exact K4 (400 - 0 + 1) true 0 tr _ _ _ (tO_0 _ hg he) (by omega) (Nat.lt_succ_self _) hP hS (lv_sub hl [1, 0, 2, 3] rfl)
