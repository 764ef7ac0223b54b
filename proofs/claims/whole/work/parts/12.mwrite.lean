set_option maxHeartbeats 4000000 in
set_option maxRecDepth 100000 in
theorem c_X1_goesWell (l : Launch) (D : va_G) (cy : ClassId) (h b0 b1 b2 b3 b4 : Nat) (th : Int32) (N : Nat) (ch ds de : Int32) (f cs be lf od : Nat → Int32) (sz : Nat) (q : Nat) (hq : q < 4) : Met l yX1_goesWell wsX1_goesWell ({ frames := 0, cells := 0, slots := 0, locals := 0 } : Room) (va_Pc [.ref h, .int (nI q)] (zWr D (wM h b0 b1 b2 b3 b4 cy th N ch ds de f cs be lf od) [(cy, .int)] sz)) (va_Qi (fun (r : Int32) (z9 : Unit) => r = zb (decide (q = 0))) (fun (z9 : Unit) t => va_P D vwCl (wM h b0 b1 b2 b3 b4 cy (nI q) N ch ds de f cs be lf od) t.heap) (va_A (wM h b0 b1 b2 b3 b4 cy th N ch ds de f cs be lf od) sz)) 0 0 (va_A (wM h b0 b1 b2 b3 b4 cy th N ch ds de f cs be lf od) sz) := by
  refine Met.ofW (cc := cX1_goesWell) (maxL := 2) (ret := (some .boolean)) (by decide) rfl ?_
  intro p e s m args below meth c s₁ B hml hv
  obtain ⟨rfl, hsz, hP, hK, hD0⟩ := hv
  have hx := B.exec
  have hb := B.bytes
  have hr := B.returns
  have hts := atoms_spec (ws := wsX1_goesWell) B.pre
  have hown : s.vm.findClass RX1 = some m.cls := findClass_of_methodNamed B.named
  have hlocks := B.notSynchronized
  subst hsz
  have hD := hD0.self (sz := s.heap.size)
  generalize hAe : va_A (wM h b0 b1 b2 b3 b4 cy th N ch ds de f cs be lf od) s.heap.size = A at hD ⊢
  have hA : ∀ q : Nat, s.heap.size ≤ q → A q := fun q h => by rw [← hAe]; exact Or.inr h
  have hS : va_S A s.heap s.heap [] := va_S.rf
  have hin : ∀ w ∈ wsX10, w ∈ wsX1_goesWell := by decide +kernel
  have hf25 := hts (.fieldLink RX1 25 "CorebarnModel" "thrown" "I") (by decide +kernel)
  have hl := lv_entry ([.ref h, .int (nI q)]) (n := 2) (Nat.le_of_ble_eq_true rfl)
  rw [lg_entry_eq]
  generalize (lg_sl ([.ref h, .int (nI q)]) ++ List.replicate (2 - (lg_sl ([.ref h, .int (nI q)])).length) Slot.unset).toArray = ls at hl ⊢
  have hl : lv_has ls 2 [(0, .ref h), (1, .int (nI q))] := hl
  refine lv_aload_n hx hb dX1_goesWell_0 rfl (lv_at hl 0 rfl) ?_
  refine lv_iload_n hx hb dX1_goesWell_1 rfl (lv_at hl 1 rfl) ?_
  refine va_put (D := D) (ci := 1) (v := .int (nI q)) (ty := .int) (C := RX1) (T := TX1) (N := 10) hx hb hts hin tyX1 tyX1_ok nmX1 hown hK hP hD hS 0 rfl rfl 0 (by decide) hf25 (fun _ h9 => h9) rfl (by decide +kernel) rfl rfl (Nat.le_of_ble_eq_true rfl) dX1_goesWell_2 (fun H locs hP hD hS => ?_)
  have hP : va_P D vwCl (wM h b0 b1 b2 b3 b4 cy (nI q) N ch ds de f cs be lf od) H := hP
  have hD : va_D A (wM h b0 b1 b2 b3 b4 cy (nI q) N ch ds de f cs be lf od) := hD
  refine lv_iload_n hx hb dX1_goesWell_5 rfl (lv_at hl 1 rfl) ?_
  refine z_ifn_ne (tgt := 13) hx hb dX1_goesWell_6 (by decide) (by omega) (fun h6 => ?_) (fun h6 => ?_)
  · refine lv_iconst (v := (nI 0)) hx hb dX1_goesWell_13 (by decide) ?_
    exact W.zret (v := (nI 0)) (ty := .boolean) hx hb hr rfl (fun t9 ht9 hW9 => ⟨⟨(nI 0), (), rfl, (by rw [decide_eq_false (by omega)]; rfl), by show va_P D vwCl (wM h b0 b1 b2 b3 b4 cy (nI q) N ch ds de f cs be lf od) t9.heap; rw [ht9]; exact hP⟩, hS.F ht9⟩) hS.2.2 dX1_goesWell_14
  · refine lv_iconst (v := (nI 1)) hx hb dX1_goesWell_9 (by decide) ?_
    refine lv_goto (tgt := 14) hx hb dX1_goesWell_10 (by decide) ?_
    exact W.zret (v := (nI 1)) (ty := .boolean) hx hb hr rfl (fun t9 ht9 hW9 => ⟨⟨(nI 1), (), rfl, (by rw [decide_eq_true h6]; rfl), by show va_P D vwCl (wM h b0 b1 b2 b3 b4 cy (nI q) N ch ds de f cs be lf od) t9.heap; rw [ht9]; exact hP⟩, hS.F ht9⟩) hS.2.2 dX1_goesWell_14

set_option maxHeartbeats 4000000 in
set_option maxRecDepth 100000 in
theorem c_X1_layCores (l : Launch) (D : va_G) (cy : ClassId) (h b0 b1 b2 b3 b4 : Nat) (th : Int32) (N : Nat) (ch ds de : Int32) (f cs be lf od : Nat → Int32) (sz : Nat) (c0 : Nat → Nat) (hN : N ≤ 20) (hg : gd f N) (hc : ∀ v, v < N → cno f N v (c0 v)) : Met l yX1_layCores wsX1_layCores ({ frames := 2, cells := 0, slots := 0, locals := 46 } : Room) (va_Pc [.ref h] (zWr D (wM h b0 b1 b2 b3 b4 cy th N ch ds de f cs be lf od) [(cy, .int)] sz)) (va_Qv (fun (z9 : Unit) => True) (fun (z9 : Unit) t => va_P D vwCl (wM h b0 b1 b2 b3 b4 cy th N ch ds de f (layE c0 cs N) be lf od) t.heap) (va_A (wM h b0 b1 b2 b3 b4 cy th N ch ds de f cs be lf od) sz)) 0 0 (va_A (wM h b0 b1 b2 b3 b4 cy th N ch ds de f cs be lf od) sz) := by
  refine Met.ofW (cc := cX1_layCores) (maxL := 4) (ret := none) (by decide) rfl ?_
  intro p e s m args below meth c s₁ B hml hv
  obtain ⟨rfl, hsz, hP, hK, hD0⟩ := hv
  have hx := B.exec
  have hb := B.bytes
  have hr := B.returns
  have hts := atoms_spec (ws := wsX1_layCores) B.pre
  have hown : s.vm.findClass RX1 = some m.cls := findClass_of_methodNamed B.named
  have hlocks := B.notSynchronized
  subst hsz
  have hD := hD0.self (sz := s.heap.size)
  generalize hAe : va_A (wM h b0 b1 b2 b3 b4 cy th N ch ds de f cs be lf od) s.heap.size = A at hD ⊢
  have hA : ∀ q : Nat, s.heap.size ≤ q → A q := fun q h => by rw [← hAe]; exact Or.inr h
  have hS : va_S A s.heap s.heap [] := va_S.rf
  have hin : ∀ w ∈ wsX10, w ∈ wsX1_layCores := by decide +kernel
  have hf13 := hts (.fieldLink RX1 13 "CorebarnModel" "cores" "[I") (by decide +kernel)
  have hf29 := hts (.fieldLink RX1 29 "CorebarnModel" "many" "I") (by decide +kernel)
  have hc20 : ∀ v, v < N → c0 v < 20 := fun v hv => cno_lt hg hv (hc v hv)
  have hl := lv_entry ([.ref h]) (n := 4) (Nat.le_of_ble_eq_true rfl)
  rw [lg_entry_eq]
  generalize (lg_sl ([.ref h]) ++ List.replicate (4 - (lg_sl ([.ref h])).length) Slot.unset).toArray = ls at hl ⊢
  have hl : lv_has ls 4 [(0, .ref h)] := hl
  refine lv_iconst (v := (nI 0)) hx hb dX1_layCores_0 (by decide) ?_
  refine lv_istore_n (lv' := [(1, .int (nI 0)), (0, .ref h)]) hx hb dX1_layCores_1 rfl hl (by decide) rfl (fun ls hl => ?_)
  have K2 : ∀ (fu2 : Nat) (k : Nat) (g1 : Nat → Int32) (H : Heap) (locs : List Loc) (ls : Array Slot), (k ≤ 20) → (g1 = lay c0 cs N k 0) → 20 - k < fu2 → va_P D vwCl (wM h b0 b1 b2 b3 b4 cy th N ch ds de f g1 be lf od) H → va_S A s.heap H locs → lv_has ls 4 [(1, .int (nI k)), (0, .ref h)] → W p l e (headSpec wsX1_layCores ({ frames := 2, cells := 0, slots := 0, locals := 46 } : Room)).room s m ([.ref h] : List Value).toArray below meth c H locs 0 0 (MQ below (va_Qv (fun (z9 : Unit) => True) (fun (z9 : Unit) t => va_P D vwCl (wM h b0 b1 b2 b3 b4 cy th N ch ds de f (layE c0 cs N) be lf od) t.heap) A) ([.ref h] : List Value).toArray s 0 0 A) (F0 m 2 ls []) := by
    intro fu2
    induction fu2 with
    | zero =>
      intro k g1 H locs ls hk0 hg1 hfu2
      exact absurd hfu2 (Nat.not_lt_zero _)
    | succ fu2 ih2 =>
      intro k g1 H locs ls hk0 hg1 hfu2 hP hS hl
      have hD : va_D A (wM h b0 b1 b2 b3 b4 cy th N ch ds de f g1 be lf od) := zD hD rfl
      refine lv_iload_n hx hb dX1_layCores_2 rfl (lv_at hl 0 rfl) ?_
      refine lv_bipush (v := (nI 20)) hx hb dX1_layCores_3 (by decide) ?_
      refine z_icmp_ge (tgt := 60) hx hb dX1_layCores_5 (by decide) (by omega) (by omega) (fun h5 => ?_) (fun h5 => ?_)
      · exact W.vret hx hb hr (fun t9 ht9 hW9 => ⟨⟨(), rfl, trivial, by show va_P D vwCl (wM h b0 b1 b2 b3 b4 cy th N ch ds de f (layE c0 cs N) be lf od) t9.heap; rw [ht9]; rw [← lay_fin hc20, show 20 = k by omega, ← hg1]; exact hP⟩, hS.F ht9⟩) hS.2.2 dX1_layCores_60
      · refine lv_aload_n hx hb dX1_layCores_8 rfl (lv_at hl 1 rfl) ?_
        refine lv_iload_n hx hb dX1_layCores_9 rfl (lv_at hl 0 rfl) ?_
        refine zrV (As := [.int (nI k)]) (rest := []) 0 ⟨hx, hb, hml, hown, hts⟩ (c_X1_coreOf l D cy h b0 b1 b2 b3 b4 th N ch ds de f g1 be lf od (nI k) c0 hN hg hc) (cwV 1 hts gX1_layCores_X1_coreOf rfl rfl rfl (by decide +kernel) ⟨Nat.le_of_ble_eq_true rfl, Nat.le_of_ble_eq_true rfl⟩) hK hP rfl rfl rfl hl rfl (Nat.le_of_ble_eq_true rfl) dX1_layCores_10 ⟨Nat.le_of_ble_eq_true rfl, Nat.le_of_ble_eq_true rfl⟩ hS (fun r10 H locs hw10 hk9 hS => ?_)
        obtain rfl : r10 = (cst c0 N ((nI k)).toInt) := hw10
        have hP := zkeep hP hk9
        refine lv_istore_n (lv' := [(2, .int (cst c0 N ((nI k)).toInt)), (1, .int (nI k)), (0, .ref h)]) hx hb dX1_layCores_13 rfl hl (by decide) rfl (fun ls hl => ?_)
        refine lv_iconst (v := (nI 0)) hx hb dX1_layCores_14 (by decide) ?_
        refine lv_istore_n (lv' := [(3, .int (nI 0)), (2, .int (cst c0 N ((nI k)).toInt)), (1, .int (nI k)), (0, .ref h)]) hx hb dX1_layCores_15 rfl hl (by decide) rfl (fun ls hl => ?_)
        have K16 : ∀ (fu16 : Nat) (i : Nat) (g2 : Nat → Int32) (H : Heap) (locs : List Loc) (ls : Array Slot), (i ≤ N) → (g2 = lay c0 cs N k i) → N - i < fu16 → va_P D vwCl (wM h b0 b1 b2 b3 b4 cy th N ch ds de f g2 be lf od) H → va_S A s.heap H locs → lv_has ls 4 [(3, .int (nI i)), (0, .ref h), (1, .int (nI k)), (2, .int (cst c0 N ((nI k)).toInt))] → W p l e (headSpec wsX1_layCores ({ frames := 2, cells := 0, slots := 0, locals := 46 } : Room)).room s m ([.ref h] : List Value).toArray below meth c H locs 0 0 (MQ below (va_Qv (fun (z9 : Unit) => True) (fun (z9 : Unit) t => va_P D vwCl (wM h b0 b1 b2 b3 b4 cy th N ch ds de f (layE c0 cs N) be lf od) t.heap) A) ([.ref h] : List Value).toArray s 0 0 A) (F0 m 16 ls []) := by
          intro fu16
          induction fu16 with
          | zero =>
            intro i g2 H locs ls hi hg2 hfu16
            exact absurd hfu16 (Nat.not_lt_zero _)
          | succ fu16 ih16 =>
            intro i g2 H locs ls hi hg2 hfu16 hP hS hl
            have hD : va_D A (wM h b0 b1 b2 b3 b4 cy th N ch ds de f g2 be lf od) := zD hD rfl
            refine lv_iload_n hx hb dX1_layCores_16 rfl (lv_at hl 0 rfl) ?_
            refine lv_aload_n hx hb dX1_layCores_17 rfl (lv_at hl 1 rfl) ?_
            refine va_get (D := D) (ci := 1) (v := .int (nI N)) (C := RX1) (T := TX1) (N := 10) hx hb hts hin hown hK hP 0 rfl rfl 1 (by decide) hf29 (fun _ h9 => h9) rfl dX1_layCores_18 ?_
            refine z_icmp_ge (tgt := 54) hx hb dX1_layCores_21 (by decide) (by omega) (by omega) (fun h21 => ?_) (fun h21 => ?_)
            · refine lv_iinc (v := (nI (k + 1))) (lv' := [(1, .int (nI (k + 1))), (3, .int (nI i)), (0, .ref h), (2, .int (cst c0 N ((nI k)).toInt))]) hx hb dX1_layCores_54 hl (k := 2) rfl (nI_1 _) (by decide) rfl (fun ls hl => ?_)
              refine lv_goto (tgt := 2) hx hb dX1_layCores_57 (by decide) ?_
              exact ih2 (k + 1) g2 _ _ _ (by omega) (by rw [hg2, Nat.le_antisymm hi h21, lay_end]) (by omega) hP hS (lv_sub hl [0, 2] rfl)
            · refine lv_aload_n hx hb dX1_layCores_24 rfl (lv_at hl 1 rfl) ?_
              refine va_get (D := D) (ci := 1) (v := .ref b1) (C := RX1) (T := TX1) (N := 10) hx hb hts hin hown hK hP 0 rfl rfl 4 (by decide) hf13 (fun _ h9 => h9) rfl dX1_layCores_25 ?_
              refine lv_iload_n hx hb dX1_layCores_28 rfl (lv_at hl 0 rfl) ?_
              refine lv_iload_n hx hb dX1_layCores_29 rfl (lv_at hl 3 rfl) ?_
              refine lv_iload_n hx hb dX1_layCores_30 rfl (lv_at hl 0 rfl) ?_
              refine zrS0 (As := [.int (cst c0 N ((nI k)).toInt), .int (nI i)]) (rest := [.int (nI i), .ref b1]) ⟨hx, hb, hml, hown, hts⟩ (c_X1_has l (cst c0 N ((nI k)).toInt) i (by omega)) (va_cwS 2 hts gX1_layCores_X1_has rfl rfl rfl (by decide +kernel) ⟨Nat.le_of_ble_eq_true rfl, Nat.le_of_ble_eq_true rfl⟩) rfl hl rfl (Nat.le_of_ble_eq_true rfl) dX1_layCores_31 ⟨Nat.le_of_ble_eq_true rfl, Nat.le_of_ble_eq_true rfl⟩ hS (fun r31 H locs hw31 hk9 hS => ?_)
              obtain rfl : r31 = (zb (bt (cst c0 N ((nI k)).toInt) i)) := hw31
              have hP := zkeep hP hk9
              refine z_ifb_eq (tgt := 41) hx hb dX1_layCores_34 (by decide) (fun h34 => ?_) (fun h34 => ?_)
              · refine lv_aload_n hx hb dX1_layCores_41 rfl (lv_at hl 1 rfl) ?_
                refine va_get (D := D) (ci := 1) (v := .ref b1) (C := RX1) (T := TX1) (N := 10) hx hb hts hin hown hK hP 0 rfl rfl 4 (by decide) hf13 (fun _ h9 => h9) rfl dX1_layCores_42 ?_
                refine lv_iload_n hx hb dX1_layCores_45 rfl (lv_at hl 0 rfl) ?_
                refine z_iald hx hb hK hP 2 0 rfl rfl (by omega) (by decide) dX1_layCores_46 ?_
                refine z_iast hx hb hK hP hD hS 2 0 rfl rfl (by omega) (by decide) dX1_layCores_47 (fun H locs hP hS => ?_)
                have hP : va_P D vwCl (wM h b0 b1 b2 b3 b4 cy th N ch ds de f (upd g2 i (g2 i)) be lf od) H := hP
                have hD : va_D A (wM h b0 b1 b2 b3 b4 cy th N ch ds de f (upd g2 i (g2 i)) be lf od) := zD hD rfl
                refine lv_iinc (v := (nI (i + 1))) (lv' := [(3, .int (nI (i + 1))), (0, .ref h), (1, .int (nI k)), (2, .int (cst c0 N ((nI k)).toInt))]) hx hb dX1_layCores_48 hl (k := 0) rfl (nI_1 _) (by decide) rfl (fun ls hl => ?_)
                refine lv_goto (tgt := 16) hx hb dX1_layCores_51 (by decide) ?_
                exact ih16 (i + 1) (upd g2 i (g2 i)) _ _ _ (by omega) (by rw [hg2]; exact lay_no hN (by omega) h21 h34) (by omega) hP hS (lv_sub hl [0, 1, 2, 3] rfl)
              · refine lv_iload_n hx hb dX1_layCores_37 rfl (lv_at hl 2 rfl) ?_
                refine lv_goto (tgt := 47) hx hb dX1_layCores_38 (by decide) ?_
                refine z_iast hx hb hK hP hD hS 2 0 rfl rfl (by omega) (by decide) dX1_layCores_47 (fun H locs hP hS => ?_)
                have hP : va_P D vwCl (wM h b0 b1 b2 b3 b4 cy th N ch ds de f (upd g2 i (nI k)) be lf od) H := hP
                have hD : va_D A (wM h b0 b1 b2 b3 b4 cy th N ch ds de f (upd g2 i (nI k)) be lf od) := zD hD rfl
                refine lv_iinc (v := (nI (i + 1))) (lv' := [(3, .int (nI (i + 1))), (0, .ref h), (1, .int (nI k)), (2, .int (cst c0 N ((nI k)).toInt))]) hx hb dX1_layCores_48 hl (k := 0) rfl (nI_1 _) (by decide) rfl (fun ls hl => ?_)
                refine lv_goto (tgt := 16) hx hb dX1_layCores_51 (by decide) ?_
                exact ih16 (i + 1) (upd g2 i (nI k)) _ _ _ (by omega) (by rw [hg2]; exact lay_yes hN (by omega) h34) (by omega) hP hS (lv_sub hl [0, 1, 2, 3] rfl)
        exact K16 (N - 0 + 1) 0 g1 _ _ _ (by omega) hg1 (Nat.lt_succ_self _) hP hS (lv_sub hl [0, 3, 2, 1] rfl)
  exact K2 (20 - 0 + 1) 0 cs _ _ _ (by omega) (lay_0 c0 cs N).symm (Nat.lt_succ_self _) hP hS (lv_sub hl [0, 1] rfl)

set_option maxHeartbeats 4000000 in
set_option maxRecDepth 100000 in
theorem c_X1_turn (l : Launch) (D : va_G) (cy : ClassId) (h b0 b1 b2 b3 b4 : Nat) (th : Int32) (N : Nat) (ch ds de : Int32) (f cs be lf od : Nat → Int32) (sz : Nat) (u v : Nat) (c0 c1 : Nat → Nat) (hN : N ≤ 20) (hg : gd f N) (hc : ∀ v, v < N → cno f N v (c0 v)) (hg1 : gd (tgl f u v) N) (hc1 : ∀ w, w < N → cno (tgl f u v) N w (c1 w)) (hu : u < N) (hv : v < N) : Met l yX1_turn wsX1_turn ({ frames := 3, cells := 0, slots := 0, locals := 69 } : Room) (va_Pc [.ref h, .int (nI u), .int (nI v)] (zWr D (wM h b0 b1 b2 b3 b4 cy th N ch ds de f cs be lf od) [(cy, .int)] sz)) (va_Qi (fun (r : Int32) (z9 : (Nat → Int32) × (Nat → Int32)) => r = nI (chg c0 c1 N)) (fun (z9 : (Nat → Int32) × (Nat → Int32)) t => va_P D vwCl (wM h b0 b1 b2 b3 b4 cy th N (ch + nI (chg c0 c1 N)) ds de (tgl f u v) z9.1 z9.2 lf od) t.heap) (va_A (wM h b0 b1 b2 b3 b4 cy th N ch ds de f cs be lf od) sz)) 0 0 (va_A (wM h b0 b1 b2 b3 b4 cy th N ch ds de f cs be lf od) sz) := by
  refine Met.ofW (cc := cX1_turn) (maxL := 5) (ret := (some .int)) (by decide) rfl ?_
  intro p e s m args below meth c s₁ B hml hv
  obtain ⟨rfl, hsz, hP, hK, hD0⟩ := hv
  have hx := B.exec
  have hb := B.bytes
  have hr := B.returns
  have hts := atoms_spec (ws := wsX1_turn) B.pre
  have hown : s.vm.findClass RX1 = some m.cls := findClass_of_methodNamed B.named
  have hlocks := B.notSynchronized
  subst hsz
  have hD := hD0.self (sz := s.heap.size)
  generalize hAe : va_A (wM h b0 b1 b2 b3 b4 cy th N ch ds de f cs be lf od) s.heap.size = A at hD ⊢
  have hA : ∀ q : Nat, s.heap.size ≤ q → A q := fun q h => by rw [← hAe]; exact Or.inr h
  have hS : va_S A s.heap s.heap [] := va_S.rf
  have hin : ∀ w ∈ wsX10, w ∈ wsX1_turn := by decide +kernel
  have hf7 := hts (.fieldLink RX1 7 "CorebarnModel" "near" "[I") (by decide +kernel)
  have hf13 := hts (.fieldLink RX1 13 "CorebarnModel" "cores" "[I") (by decide +kernel)
  have hf16 := hts (.fieldLink RX1 16 "CorebarnModel" "before" "[I") (by decide +kernel)
  have hf29 := hts (.fieldLink RX1 29 "CorebarnModel" "many" "I") (by decide +kernel)
  have hf54 := hts (.fieldLink RX1 54 "CorebarnModel" "changed" "I") (by decide +kernel)
  have hl := lv_entry ([.ref h, .int (nI u), .int (nI v)]) (n := 5) (Nat.le_of_ble_eq_true rfl)
  rw [lg_entry_eq]
  generalize (lg_sl ([.ref h, .int (nI u), .int (nI v)]) ++ List.replicate (5 - (lg_sl ([.ref h, .int (nI u), .int (nI v)])).length) Slot.unset).toArray = ls at hl ⊢
  have hl : lv_has ls 5 [(0, .ref h), (1, .int (nI u)), (2, .int (nI v))] := hl
  refine lv_aload_n hx hb dX1_turn_0 rfl (lv_at hl 0 rfl) ?_
  refine zwVv (As := []) (rest := []) 0 [0, 1, 2, 3, 4, 5] rfl ⟨hx, hb, hml, hown, hts⟩ (c_X1_layCores l D cy h b0 b1 b2 b3 b4 th N ch ds de f cs be lf od _ c0 hN hg hc) (cwV 0 hts gX1_turn_X1_layCores rfl rfl rfl (by decide +kernel) ⟨Nat.le_of_ble_eq_true rfl, Nat.le_of_ble_eq_true rfl⟩) hK hP hD hA rfl rfl rfl hl rfl (Nat.le_of_ble_eq_true rfl) dX1_turn_1 ⟨Nat.le_of_ble_eq_true rfl, Nat.le_of_ble_eq_true rfl⟩ hS (fun u1 H locs hw1 hP hS => ?_)
  have hP : va_P D vwCl (wM h b0 b1 b2 b3 b4 cy th N ch ds de f (layE c0 cs N) be lf od) H := hP
  have hD : va_D A (wM h b0 b1 b2 b3 b4 cy th N ch ds de f (layE c0 cs N) be lf od) := zD hD rfl
  refine lv_iconst (v := (nI 0)) hx hb dX1_turn_4 (by decide) ?_
  refine lv_istore_n (lv' := [(3, .int (nI 0)), (0, .ref h), (1, .int (nI u)), (2, .int (nI v))]) hx hb dX1_turn_5 rfl hl (by decide) rfl (fun ls hl => ?_)
  have K6 : ∀ (fu6 : Nat) (i : Nat) (bf : Nat → Int32) (H : Heap) (locs : List Loc) (ls : Array Slot), (i ≤ N) → (∀ w, w < i → bf w = nI (c0 w)) → N - i < fu6 → va_P D vwCl (wM h b0 b1 b2 b3 b4 cy th N ch ds de f (layE c0 cs N) bf lf od) H → va_S A s.heap H locs → lv_has ls 5 [(3, .int (nI i)), (0, .ref h), (1, .int (nI u)), (2, .int (nI v))] → W p l e (headSpec wsX1_turn ({ frames := 3, cells := 0, slots := 0, locals := 69 } : Room)).room s m ([.ref h, .int (nI u), .int (nI v)] : List Value).toArray below meth c H locs 0 0 (MQ below (va_Qi (fun (r : Int32) (z9 : (Nat → Int32) × (Nat → Int32)) => r = nI (chg c0 c1 N)) (fun (z9 : (Nat → Int32) × (Nat → Int32)) t => va_P D vwCl (wM h b0 b1 b2 b3 b4 cy th N (ch + nI (chg c0 c1 N)) ds de (tgl f u v) z9.1 z9.2 lf od) t.heap) A) ([.ref h, .int (nI u), .int (nI v)] : List Value).toArray s 0 0 A) (F0 m 6 ls []) := by
    intro fu6
    induction fu6 with
    | zero =>
      intro i bf H locs ls hi hbf hfu6
      exact absurd hfu6 (Nat.not_lt_zero _)
    | succ fu6 ih6 =>
      intro i bf H locs ls hi hbf hfu6 hP hS hl
      have hD : va_D A (wM h b0 b1 b2 b3 b4 cy th N ch ds de f (layE c0 cs N) bf lf od) := zD hD rfl
      refine lv_iload_n hx hb dX1_turn_6 rfl (lv_at hl 0 rfl) ?_
      refine lv_aload_n hx hb dX1_turn_7 rfl (lv_at hl 1 rfl) ?_
      refine va_get (D := D) (ci := 1) (v := .int (nI N)) (C := RX1) (T := TX1) (N := 10) hx hb hts hin hown hK hP 0 rfl rfl 1 (by decide) hf29 (fun _ h9 => h9) rfl dX1_turn_8 ?_
      refine z_icmp_ge (tgt := 32) hx hb dX1_turn_11 (by decide) (by omega) (by omega) (fun h11 => ?_) (fun h11 => ?_)
      · refine lv_aload_n hx hb dX1_turn_32 rfl (lv_at hl 1 rfl) ?_
        refine va_get (D := D) (ci := 1) (v := .ref b0) (C := RX1) (T := TX1) (N := 10) hx hb hts hin hown hK hP 0 rfl rfl 2 (by decide) hf7 (fun _ h9 => h9) rfl dX1_turn_33 ?_
        refine lv_iload_n hx hb dX1_turn_36 rfl (lv_at hl 2 rfl) ?_
        refine lv_dup2_11 hx hb dX1_turn_37 rfl rfl ?_
        refine z_iald hx hb hK hP 1 0 rfl rfl (by omega) (by decide) dX1_turn_38 ?_
        refine lv_iconst (v := (nI 1)) hx hb dX1_turn_39 (by decide) ?_
        refine lv_iload_n hx hb dX1_turn_40 rfl (lv_at hl 3 rfl) ?_
        refine lv_ishl hx hb dX1_turn_41 ?_
        refine lv_ixor hx hb dX1_turn_42 ?_
        refine z_iast hx hb hK hP hD hS 1 0 rfl rfl (by omega) (by decide) dX1_turn_43 (fun H locs hP hS => ?_)
        have hP : va_P D vwCl (wM h b0 b1 b2 b3 b4 cy th N ch ds de (upd f u ((f u) ^^^ ((nI 1) <<< ((nI v) &&& 31)))) (layE c0 cs N) bf lf od) H := hP
        have hD : va_D A (wM h b0 b1 b2 b3 b4 cy th N ch ds de (upd f u ((f u) ^^^ ((nI 1) <<< ((nI v) &&& 31)))) (layE c0 cs N) bf lf od) := zD hD rfl
        refine lv_aload_n hx hb dX1_turn_44 rfl (lv_at hl 1 rfl) ?_
        refine va_get (D := D) (ci := 1) (v := .ref b0) (C := RX1) (T := TX1) (N := 10) hx hb hts hin hown hK hP 0 rfl rfl 2 (by decide) hf7 (fun _ h9 => h9) rfl dX1_turn_45 ?_
        refine lv_iload_n hx hb dX1_turn_48 rfl (lv_at hl 3 rfl) ?_
        refine lv_dup2_11 hx hb dX1_turn_49 rfl rfl ?_
        refine z_iald hx hb hK hP 1 0 rfl rfl (by omega) (by decide) dX1_turn_50 ?_
        refine lv_iconst (v := (nI 1)) hx hb dX1_turn_51 (by decide) ?_
        refine lv_iload_n hx hb dX1_turn_52 rfl (lv_at hl 2 rfl) ?_
        refine lv_ishl hx hb dX1_turn_53 ?_
        refine lv_ixor hx hb dX1_turn_54 ?_
        refine z_iast hx hb hK hP hD hS 1 0 rfl rfl (by omega) (by decide) dX1_turn_55 (fun H locs hP hS => ?_)
        have hP : va_P D vwCl (wM h b0 b1 b2 b3 b4 cy th N ch ds de (upd (upd f u ((f u) ^^^ ((nI 1) <<< ((nI v) &&& 31)))) v (((upd f u ((f u) ^^^ ((nI 1) <<< ((nI v) &&& 31)))) v) ^^^ ((nI 1) <<< ((nI u) &&& 31)))) (layE c0 cs N) bf lf od) H := hP
        have hD : va_D A (wM h b0 b1 b2 b3 b4 cy th N ch ds de (upd (upd f u ((f u) ^^^ ((nI 1) <<< ((nI v) &&& 31)))) v (((upd f u ((f u) ^^^ ((nI 1) <<< ((nI v) &&& 31)))) v) ^^^ ((nI 1) <<< ((nI u) &&& 31)))) (layE c0 cs N) bf lf od) := zD hD rfl
        refine lv_aload_n hx hb dX1_turn_56 rfl (lv_at hl 1 rfl) ?_
        refine zwVv (As := []) (rest := []) 0 [0, 1, 2, 3, 4, 5] rfl ⟨hx, hb, hml, hown, hts⟩ (c_X1_layCores l D cy h b0 b1 b2 b3 b4 th N ch ds de (upd (upd f u ((f u) ^^^ ((nI 1) <<< ((nI v) &&& 31)))) v (((upd f u ((f u) ^^^ ((nI 1) <<< ((nI v) &&& 31)))) v) ^^^ ((nI 1) <<< ((nI u) &&& 31)))) (layE c0 cs N) bf lf od _ c1 hN hg1 hc1) (cwV 0 hts gX1_turn_X1_layCores rfl rfl rfl (by decide +kernel) ⟨Nat.le_of_ble_eq_true rfl, Nat.le_of_ble_eq_true rfl⟩) hK hP hD hA rfl rfl rfl hl rfl (Nat.le_of_ble_eq_true rfl) dX1_turn_57 ⟨Nat.le_of_ble_eq_true rfl, Nat.le_of_ble_eq_true rfl⟩ hS (fun u57 H locs hw57 hP hS => ?_)
        have hP : va_P D vwCl (wM h b0 b1 b2 b3 b4 cy th N ch ds de (upd (upd f u ((f u) ^^^ ((nI 1) <<< ((nI v) &&& 31)))) v (((upd f u ((f u) ^^^ ((nI 1) <<< ((nI v) &&& 31)))) v) ^^^ ((nI 1) <<< ((nI u) &&& 31)))) (layE c1 (layE c0 cs N) N) bf lf od) H := hP
        have hD : va_D A (wM h b0 b1 b2 b3 b4 cy th N ch ds de (upd (upd f u ((f u) ^^^ ((nI 1) <<< ((nI v) &&& 31)))) v (((upd f u ((f u) ^^^ ((nI 1) <<< ((nI v) &&& 31)))) v) ^^^ ((nI 1) <<< ((nI u) &&& 31)))) (layE c1 (layE c0 cs N) N) bf lf od) := zD hD rfl
        refine lv_iconst (v := (nI 0)) hx hb dX1_turn_60 (by decide) ?_
        refine lv_istore_n (lv' := [(3, .int (nI 0)), (0, .ref h), (1, .int (nI u)), (2, .int (nI v))]) hx hb dX1_turn_61 rfl hl (by decide) rfl (fun ls hl => ?_)
        refine lv_iconst (v := (nI 0)) hx hb dX1_turn_62 (by decide) ?_
        refine lv_istore (lv' := [(4, .int (nI 0)), (3, .int (nI 0)), (0, .ref h), (1, .int (nI u)), (2, .int (nI v))]) hx hb dX1_turn_63 hl (by decide) rfl (fun ls hl => ?_)
        have K65 : ∀ (fu65 : Nat) (j : Nat) (x : Nat) (H : Heap) (locs : List Loc) (ls : Array Slot), (j ≤ N) → (x = fb_ct (fun v => decide (c0 v ≠ c1 v)) j) → N - j < fu65 → va_P D vwCl (wM h b0 b1 b2 b3 b4 cy th N ch ds de (upd (upd f u ((f u) ^^^ ((nI 1) <<< ((nI v) &&& 31)))) v (((upd f u ((f u) ^^^ ((nI 1) <<< ((nI v) &&& 31)))) v) ^^^ ((nI 1) <<< ((nI u) &&& 31)))) (layE c1 (layE c0 cs N) N) bf lf od) H → va_S A s.heap H locs → lv_has ls 5 [(4, .int (nI j)), (3, .int (nI x)), (0, .ref h), (1, .int (nI u)), (2, .int (nI v))] → W p l e (headSpec wsX1_turn ({ frames := 3, cells := 0, slots := 0, locals := 69 } : Room)).room s m ([.ref h, .int (nI u), .int (nI v)] : List Value).toArray below meth c H locs 0 0 (MQ below (va_Qi (fun (r : Int32) (z9 : (Nat → Int32) × (Nat → Int32)) => r = nI (chg c0 c1 N)) (fun (z9 : (Nat → Int32) × (Nat → Int32)) t => va_P D vwCl (wM h b0 b1 b2 b3 b4 cy th N (ch + nI (chg c0 c1 N)) ds de (tgl f u v) z9.1 z9.2 lf od) t.heap) A) ([.ref h, .int (nI u), .int (nI v)] : List Value).toArray s 0 0 A) (F0 m 65 ls []) := by
          intro fu65
          induction fu65 with
          | zero =>
            intro j x H locs ls hj hxe hfu65
            exact absurd hfu65 (Nat.not_lt_zero _)
          | succ fu65 ih65 =>
            intro j x H locs ls hj hxe hfu65 hP hS hl
            have hD : va_D A (wM h b0 b1 b2 b3 b4 cy th N ch ds de (upd (upd f u ((f u) ^^^ ((nI 1) <<< ((nI v) &&& 31)))) v (((upd f u ((f u) ^^^ ((nI 1) <<< ((nI v) &&& 31)))) v) ^^^ ((nI 1) <<< ((nI u) &&& 31)))) (layE c1 (layE c0 cs N) N) bf lf od) := zD hD rfl
            have hxb : x ≤ j := by rw [hxe]; exact fb_ct_le _ _
            refine lv_iload hx hb dX1_turn_65 (lv_at hl 0 rfl) ?_
            refine lv_aload_n hx hb dX1_turn_67 rfl (lv_at hl 2 rfl) ?_
            refine va_get (D := D) (ci := 1) (v := .int (nI N)) (C := RX1) (T := TX1) (N := 10) hx hb hts hin hown hK hP 0 rfl rfl 1 (by decide) hf29 (fun _ h9 => h9) rfl dX1_turn_68 ?_
            refine z_icmp_ge (tgt := 105) hx hb dX1_turn_71 (by decide) (by omega) (by omega) (fun h71 => ?_) (fun h71 => ?_)
            · refine lv_aload_n hx hb dX1_turn_105 rfl (lv_at hl 2 rfl) ?_
              refine lv_dup hx hb dX1_turn_106 rfl ?_
              refine va_get (D := D) (ci := 1) (v := .int ch) (C := RX1) (T := TX1) (N := 10) hx hb hts hin hown hK hP 0 rfl rfl 3 (by decide) hf54 (fun _ h9 => h9) rfl dX1_turn_107 ?_
              refine lv_iload_n hx hb dX1_turn_110 rfl (lv_at hl 1 rfl) ?_
              refine lv_iadd hx hb dX1_turn_111 ?_
              refine va_put (D := D) (ci := 1) (v := .int (ch + (nI x))) (ty := .int) (C := RX1) (T := TX1) (N := 10) hx hb hts hin tyX1 tyX1_ok nmX1 hown hK hP hD hS 0 rfl rfl 3 (by decide) hf54 (fun _ h9 => h9) rfl (by decide +kernel) rfl rfl (Nat.le_of_ble_eq_true rfl) dX1_turn_112 (fun H locs hP hD hS => ?_)
              have hP : va_P D vwCl (wM h b0 b1 b2 b3 b4 cy th N (ch + (nI x)) ds de (upd (upd f u ((f u) ^^^ ((nI 1) <<< ((nI v) &&& 31)))) v (((upd f u ((f u) ^^^ ((nI 1) <<< ((nI v) &&& 31)))) v) ^^^ ((nI 1) <<< ((nI u) &&& 31)))) (layE c1 (layE c0 cs N) N) bf lf od) H := hP
              have hD : va_D A (wM h b0 b1 b2 b3 b4 cy th N (ch + (nI x)) ds de (upd (upd f u ((f u) ^^^ ((nI 1) <<< ((nI v) &&& 31)))) v (((upd f u ((f u) ^^^ ((nI 1) <<< ((nI v) &&& 31)))) v) ^^^ ((nI 1) <<< ((nI u) &&& 31)))) (layE c1 (layE c0 cs N) N) bf lf od) := hD
              refine lv_iload_n hx hb dX1_turn_115 rfl (lv_at hl 1 rfl) ?_
              exact W.iret (v := (nI x)) hx hb hr (fun t9 ht9 hW9 => ⟨⟨(nI x), ((layE c1 (layE c0 cs N) N), bf), rfl, (by rw [hxe, Nat.le_antisymm hj h71]; rfl), by show va_P D vwCl (wM h b0 b1 b2 b3 b4 cy th N (ch + nI (chg c0 c1 N)) ds de (tgl f u v) (layE c1 (layE c0 cs N) N) bf lf od) t9.heap; rw [ht9]; rw [show chg c0 c1 N = x by rw [hxe, Nat.le_antisymm hj h71]; rfl]; exact hP⟩, hS.F ht9⟩) hS.2.2 dX1_turn_116
            · refine lv_iload_n hx hb dX1_turn_74 rfl (lv_at hl 1 rfl) ?_
              refine lv_aload_n hx hb dX1_turn_75 rfl (lv_at hl 2 rfl) ?_
              refine va_get (D := D) (ci := 1) (v := .ref b2) (C := RX1) (T := TX1) (N := 10) hx hb hts hin hown hK hP 0 rfl rfl 5 (by decide) hf16 (fun _ h9 => h9) rfl dX1_turn_76 ?_
              refine lv_iload hx hb dX1_turn_79 (lv_at hl 0 rfl) ?_
              refine z_iald hx hb hK hP 3 0 rfl rfl (by omega) (by decide) dX1_turn_81 ?_
              rw [hbf j (by omega)]
              refine lv_aload_n hx hb dX1_turn_82 rfl (lv_at hl 2 rfl) ?_
              refine va_get (D := D) (ci := 1) (v := .ref b1) (C := RX1) (T := TX1) (N := 10) hx hb hts hin hown hK hP 0 rfl rfl 4 (by decide) hf13 (fun _ h9 => h9) rfl dX1_turn_83 ?_
              refine lv_iload hx hb dX1_turn_86 (lv_at hl 0 rfl) ?_
              refine z_iald hx hb hK hP 2 0 rfl rfl (by omega) (by decide) dX1_turn_88 ?_
              rw [layE_in (c := c1) (by omega : j < N)]
              refine z_icmp_ne (tgt := 96) hx hb dX1_turn_89 (by decide) (by have := cno_lt hg (by omega : j < N) (hc j (by omega)); omega) (by have := cno_lt hg1 (by omega : j < N) (hc1 j (by omega)); omega) (fun h89 => ?_) (fun h89 => ?_)
              · refine lv_iconst (v := (nI 1)) hx hb dX1_turn_96 (by decide) ?_
                refine z_iadd hx hb dX1_turn_97 ?_
                refine lv_istore_n (lv' := [(3, .int (nI (x + 1))), (4, .int (nI j)), (0, .ref h), (1, .int (nI u)), (2, .int (nI v))]) hx hb dX1_turn_98 rfl hl (by decide) rfl (fun ls hl => ?_)
                refine lv_iinc (v := (nI (j + 1))) (lv' := [(4, .int (nI (j + 1))), (3, .int (nI (x + 1))), (0, .ref h), (1, .int (nI u)), (2, .int (nI v))]) hx hb dX1_turn_99 hl (k := 1) rfl (nI_1 _) (by decide) rfl (fun ls hl => ?_)
                refine lv_goto (tgt := 65) hx hb dX1_turn_102 (by decide) ?_
                exact ih65 (j + 1) (x + 1) _ _ _ (by omega) (ct_yes hxe (decide_eq_true h89)) (by omega) hP hS (lv_sub hl [0, 1, 2, 3, 4] rfl)
              · refine lv_iconst (v := (nI 0)) hx hb dX1_turn_92 (by decide) ?_
                refine lv_goto (tgt := 97) hx hb dX1_turn_93 (by decide) ?_
                refine z_iadd hx hb dX1_turn_97 ?_
                refine lv_istore_n (lv' := [(3, .int (nI (x + 0))), (4, .int (nI j)), (0, .ref h), (1, .int (nI u)), (2, .int (nI v))]) hx hb dX1_turn_98 rfl hl (by decide) rfl (fun ls hl => ?_)
                refine lv_iinc (v := (nI (j + 1))) (lv' := [(4, .int (nI (j + 1))), (3, .int (nI (x + 0))), (0, .ref h), (1, .int (nI u)), (2, .int (nI v))]) hx hb dX1_turn_99 hl (k := 1) rfl (nI_1 _) (by decide) rfl (fun ls hl => ?_)
                refine lv_goto (tgt := 65) hx hb dX1_turn_102 (by decide) ?_
                exact ih65 (j + 1) (x + 0) _ _ _ (by omega) (ct_no hxe (decide_eq_false (fun q => q h89))) (by omega) hP hS (lv_sub hl [0, 1, 2, 3, 4] rfl)
        exact K65 (N - 0 + 1) 0 0 _ _ _ (by omega) rfl (Nat.lt_succ_self _) hP hS (lv_sub hl [0, 1, 2, 3, 4] rfl)
      · refine lv_aload_n hx hb dX1_turn_14 rfl (lv_at hl 1 rfl) ?_
        refine va_get (D := D) (ci := 1) (v := .ref b2) (C := RX1) (T := TX1) (N := 10) hx hb hts hin hown hK hP 0 rfl rfl 5 (by decide) hf16 (fun _ h9 => h9) rfl dX1_turn_15 ?_
        refine lv_iload_n hx hb dX1_turn_18 rfl (lv_at hl 0 rfl) ?_
        refine lv_aload_n hx hb dX1_turn_19 rfl (lv_at hl 1 rfl) ?_
        refine va_get (D := D) (ci := 1) (v := .ref b1) (C := RX1) (T := TX1) (N := 10) hx hb hts hin hown hK hP 0 rfl rfl 4 (by decide) hf13 (fun _ h9 => h9) rfl dX1_turn_20 ?_
        refine lv_iload_n hx hb dX1_turn_23 rfl (lv_at hl 0 rfl) ?_
        refine z_iald hx hb hK hP 2 0 rfl rfl (by omega) (by decide) dX1_turn_24 ?_
        refine z_iast hx hb hK hP hD hS 3 0 rfl rfl (by omega) (by decide) dX1_turn_25 (fun H locs hP hS => ?_)
        have hP : va_P D vwCl (wM h b0 b1 b2 b3 b4 cy th N ch ds de f (layE c0 cs N) (upd bf i ((layE c0 cs N) i)) lf od) H := hP
        have hD : va_D A (wM h b0 b1 b2 b3 b4 cy th N ch ds de f (layE c0 cs N) (upd bf i ((layE c0 cs N) i)) lf od) := zD hD rfl
        refine lv_iinc (v := (nI (i + 1))) (lv' := [(3, .int (nI (i + 1))), (0, .ref h), (1, .int (nI u)), (2, .int (nI v))]) hx hb dX1_turn_26 hl (k := 0) rfl (nI_1 _) (by decide) rfl (fun ls hl => ?_)
        refine lv_goto (tgt := 6) hx hb dX1_turn_29 (by decide) ?_
        exact ih6 (i + 1) (upd bf i ((layE c0 cs N) i)) _ _ _ (by omega) (fun w hw => by by_cases e : w = i; (rw [e, pk_us, layE_in h11]); (rw [pk_un e]; exact hbf w (by omega))) (by omega) hP hS (lv_sub hl [0, 1, 2, 3] rfl)
  exact K6 (N - 0 + 1) 0 be _ _ _ (by omega) (fun w hw => absurd hw (Nat.not_lt_zero w)) (Nat.lt_succ_self _) hP hS (lv_sub hl [0, 1, 2, 3] rfl)

set_option maxHeartbeats 4000000 in
set_option maxRecDepth 100000 in
theorem c_X1_addNode_ok (l : Launch) (D : va_G) (cy : ClassId) (h b0 b1 b2 b3 b4 : Nat) (th : Int32) (N : Nat) (ch ds de : Int32) (f cs be lf od : Nat → Int32) (sz : Nat) (hN : N < 20) : Met l yX1_addNode wsX1_addNode ({ frames := 1, cells := 0, slots := 0, locals := 21 } : Room) (va_Pc [.ref h] (zWr D (wM h b0 b1 b2 b3 b4 cy th N ch ds de f cs be lf od) [(cy, .int)] sz)) (va_Qi (fun (r : Int32) (z9 : Unit) => r = nI N) (fun (z9 : Unit) t => va_P D vwCl (wM h b0 b1 b2 b3 b4 cy (nI 0) (N + 1) ch ds de (upd f N (nI 0)) cs be lf od) t.heap) (va_A (wM h b0 b1 b2 b3 b4 cy th N ch ds de f cs be lf od) sz)) 0 0 (va_A (wM h b0 b1 b2 b3 b4 cy th N ch ds de f cs be lf od) sz) := by
  refine Met.ofW (cc := cX1_addNode) (maxL := 1) (ret := (some .int)) (by decide) rfl ?_
  intro p e s m args below meth c s₁ B hml hv
  obtain ⟨rfl, hsz, hP, hK, hD0⟩ := hv
  have hx := B.exec
  have hb := B.bytes
  have hr := B.returns
  have hts := atoms_spec (ws := wsX1_addNode) B.pre
  have hown : s.vm.findClass RX1 = some m.cls := findClass_of_methodNamed B.named
  have hlocks := B.notSynchronized
  subst hsz
  have hD := hD0.self (sz := s.heap.size)
  generalize hAe : va_A (wM h b0 b1 b2 b3 b4 cy th N ch ds de f cs be lf od) s.heap.size = A at hD ⊢
  have hA : ∀ q : Nat, s.heap.size ≤ q → A q := fun q h => by rw [← hAe]; exact Or.inr h
  have hS : va_S A s.heap s.heap [] := va_S.rf
  have hin : ∀ w ∈ wsX10, w ∈ wsX1_addNode := by decide +kernel
  have hf7 := hts (.fieldLink RX1 7 "CorebarnModel" "near" "[I") (by decide +kernel)
  have hf29 := hts (.fieldLink RX1 29 "CorebarnModel" "many" "I") (by decide +kernel)
  have hl := lv_entry ([.ref h]) (n := 1) (Nat.le_of_ble_eq_true rfl)
  rw [lg_entry_eq]
  generalize (lg_sl ([.ref h]) ++ List.replicate (1 - (lg_sl ([.ref h])).length) Slot.unset).toArray = ls at hl ⊢
  have hl : lv_has ls 1 [(0, .ref h)] := hl
  refine lv_aload_n hx hb dX1_addNode_0 rfl (lv_at hl 0 rfl) ?_
  refine lv_aload_n hx hb dX1_addNode_1 rfl (lv_at hl 0 rfl) ?_
  refine va_get (D := D) (ci := 1) (v := .int (nI N)) (C := RX1) (T := TX1) (N := 10) hx hb hts hin hown hK hP 0 rfl rfl 1 (by decide) hf29 (fun _ h9 => h9) rfl dX1_addNode_2 ?_
  refine lv_bipush (v := (nI 20)) hx hb dX1_addNode_5 (by decide) ?_
  refine z_icmp_ne (tgt := 14) hx hb dX1_addNode_7 (by decide) (by omega) (by omega) (fun h7 => ?_) (fun h7 => ?_)
  · refine lv_iconst (v := (nI 0)) hx hb dX1_addNode_14 (by decide) ?_
    refine zwVi (As := [.int (nI 0)]) (rest := []) 0 [0, 1, 2, 3, 4, 5] rfl ⟨hx, hb, hml, hown, hts⟩ (c_X1_goesWell l D cy h b0 b1 b2 b3 b4 th N ch ds de f cs be lf od _ 0 (by omega)) (cwV 1 hts gX1_addNode_X1_goesWell rfl rfl rfl (by decide +kernel) ⟨Nat.le_of_ble_eq_true rfl, Nat.le_of_ble_eq_true rfl⟩) hK hP hD hA rfl rfl rfl hl rfl (Nat.le_of_ble_eq_true rfl) dX1_addNode_15 ⟨Nat.le_of_ble_eq_true rfl, Nat.le_of_ble_eq_true rfl⟩ hS (fun r15 u15 H locs hw15 hP hS => ?_)
    have hP : va_P D vwCl (wM h b0 b1 b2 b3 b4 cy (nI 0) N ch ds de f cs be lf od) H := hP
    have hD : va_D A (wM h b0 b1 b2 b3 b4 cy (nI 0) N ch ds de f cs be lf od) := zD hD rfl
    obtain rfl : r15 = (zb true) := hw15
    refine z_ifb_true_ne (tgt := 23) hx hb dX1_addNode_18 (by decide) ?_
    refine lv_aload_n hx hb dX1_addNode_23 rfl (lv_at hl 0 rfl) ?_
    refine va_get (D := D) (ci := 1) (v := .ref b0) (C := RX1) (T := TX1) (N := 10) hx hb hts hin hown hK hP 0 rfl rfl 2 (by decide) hf7 (fun _ h9 => h9) rfl dX1_addNode_24 ?_
    refine lv_aload_n hx hb dX1_addNode_27 rfl (lv_at hl 0 rfl) ?_
    refine va_get (D := D) (ci := 1) (v := .int (nI N)) (C := RX1) (T := TX1) (N := 10) hx hb hts hin hown hK hP 0 rfl rfl 1 (by decide) hf29 (fun _ h9 => h9) rfl dX1_addNode_28 ?_
    refine lv_iconst (v := (nI 0)) hx hb dX1_addNode_31 (by decide) ?_
    refine z_iast hx hb hK hP hD hS 1 0 rfl rfl (by omega) (by decide) dX1_addNode_32 (fun H locs hP hS => ?_)
    have hP : va_P D vwCl (wM h b0 b1 b2 b3 b4 cy (nI 0) N ch ds de (upd f N (nI 0)) cs be lf od) H := hP
    have hD : va_D A (wM h b0 b1 b2 b3 b4 cy (nI 0) N ch ds de (upd f N (nI 0)) cs be lf od) := zD hD rfl
    refine lv_aload_n hx hb dX1_addNode_33 rfl (lv_at hl 0 rfl) ?_
    refine lv_dup hx hb dX1_addNode_34 rfl ?_
    refine va_get (D := D) (ci := 1) (v := .int (nI N)) (C := RX1) (T := TX1) (N := 10) hx hb hts hin hown hK hP 0 rfl rfl 1 (by decide) hf29 (fun _ h9 => h9) rfl dX1_addNode_35 ?_
    refine lv_iconst (v := (nI 1)) hx hb dX1_addNode_38 (by decide) ?_
    refine z_iadd hx hb dX1_addNode_39 ?_
    refine va_put (D := D) (ci := 1) (v := .int (nI (N + 1))) (ty := .int) (C := RX1) (T := TX1) (N := 10) hx hb hts hin tyX1 tyX1_ok nmX1 hown hK hP hD hS 0 rfl rfl 1 (by decide) hf29 (fun _ h9 => h9) rfl (by decide +kernel) rfl rfl (Nat.le_of_ble_eq_true rfl) dX1_addNode_40 (fun H locs hP hD hS => ?_)
    have hP : va_P D vwCl (wM h b0 b1 b2 b3 b4 cy (nI 0) (N + 1) ch ds de (upd f N (nI 0)) cs be lf od) H := hP
    have hD : va_D A (wM h b0 b1 b2 b3 b4 cy (nI 0) (N + 1) ch ds de (upd f N (nI 0)) cs be lf od) := hD
    refine lv_aload_n hx hb dX1_addNode_43 rfl (lv_at hl 0 rfl) ?_
    refine va_get (D := D) (ci := 1) (v := .int (nI (N + 1))) (C := RX1) (T := TX1) (N := 10) hx hb hts hin hown hK hP 0 rfl rfl 1 (by decide) hf29 (fun _ h9 => h9) rfl dX1_addNode_44 ?_
    refine lv_iconst (v := (nI 1)) hx hb dX1_addNode_47 (by decide) ?_
    refine z_isub hx hb dX1_addNode_48 (by omega) ?_
    exact W.iret (v := (nI ((N + 1) - 1))) hx hb hr (fun t9 ht9 hW9 => ⟨⟨(nI ((N + 1) - 1)), (), rfl, (by rw [Nat.add_sub_cancel]), by show va_P D vwCl (wM h b0 b1 b2 b3 b4 cy (nI 0) (N + 1) ch ds de (upd f N (nI 0)) cs be lf od) t9.heap; rw [ht9]; exact hP⟩, hS.F ht9⟩) hS.2.2 dX1_addNode_49
  · exact absurd h7 (by omega)

set_option maxHeartbeats 4000000 in
set_option maxRecDepth 100000 in
theorem c_X1_addNode_full (l : Launch) (D : va_G) (cy : ClassId) (h b0 b1 b2 b3 b4 : Nat) (th : Int32) (N : Nat) (ch ds de : Int32) (f cs be lf od : Nat → Int32) (sz : Nat) (hN : N = 20) : Met l yX1_addNode wsX1_addNode ({ frames := 1, cells := 0, slots := 0, locals := 21 } : Room) (va_Pc [.ref h] (zWr D (wM h b0 b1 b2 b3 b4 cy th N ch ds de f cs be lf od) [(cy, .int)] sz)) (va_Qi (fun (r : Int32) (z9 : Unit) => r = nI 0) (fun (z9 : Unit) t => va_P D vwCl (wM h b0 b1 b2 b3 b4 cy (nI 1) N ch ds de f cs be lf od) t.heap) (va_A (wM h b0 b1 b2 b3 b4 cy th N ch ds de f cs be lf od) sz)) 0 0 (va_A (wM h b0 b1 b2 b3 b4 cy th N ch ds de f cs be lf od) sz) := by
  refine Met.ofW (cc := cX1_addNode) (maxL := 1) (ret := (some .int)) (by decide) rfl ?_
  intro p e s m args below meth c s₁ B hml hv
  obtain ⟨rfl, hsz, hP, hK, hD0⟩ := hv
  have hx := B.exec
  have hb := B.bytes
  have hr := B.returns
  have hts := atoms_spec (ws := wsX1_addNode) B.pre
  have hown : s.vm.findClass RX1 = some m.cls := findClass_of_methodNamed B.named
  have hlocks := B.notSynchronized
  subst hsz
  have hD := hD0.self (sz := s.heap.size)
  generalize hAe : va_A (wM h b0 b1 b2 b3 b4 cy th N ch ds de f cs be lf od) s.heap.size = A at hD ⊢
  have hA : ∀ q : Nat, s.heap.size ≤ q → A q := fun q h => by rw [← hAe]; exact Or.inr h
  have hS : va_S A s.heap s.heap [] := va_S.rf
  have hin : ∀ w ∈ wsX10, w ∈ wsX1_addNode := by decide +kernel
  have hf7 := hts (.fieldLink RX1 7 "CorebarnModel" "near" "[I") (by decide +kernel)
  have hf29 := hts (.fieldLink RX1 29 "CorebarnModel" "many" "I") (by decide +kernel)
  have hl := lv_entry ([.ref h]) (n := 1) (Nat.le_of_ble_eq_true rfl)
  rw [lg_entry_eq]
  generalize (lg_sl ([.ref h]) ++ List.replicate (1 - (lg_sl ([.ref h])).length) Slot.unset).toArray = ls at hl ⊢
  have hl : lv_has ls 1 [(0, .ref h)] := hl
  refine lv_aload_n hx hb dX1_addNode_0 rfl (lv_at hl 0 rfl) ?_
  refine lv_aload_n hx hb dX1_addNode_1 rfl (lv_at hl 0 rfl) ?_
  refine va_get (D := D) (ci := 1) (v := .int (nI N)) (C := RX1) (T := TX1) (N := 10) hx hb hts hin hown hK hP 0 rfl rfl 1 (by decide) hf29 (fun _ h9 => h9) rfl dX1_addNode_2 ?_
  refine lv_bipush (v := (nI 20)) hx hb dX1_addNode_5 (by decide) ?_
  refine z_icmp_ne (tgt := 14) hx hb dX1_addNode_7 (by decide) (by omega) (by omega) (fun h7 => ?_) (fun h7 => ?_)
  · exact absurd hN h7
  · refine lv_iconst (v := (nI 1)) hx hb dX1_addNode_10 (by decide) ?_
    refine lv_goto (tgt := 15) hx hb dX1_addNode_11 (by decide) ?_
    refine zwVi (As := [.int (nI 1)]) (rest := []) 0 [0, 1, 2, 3, 4, 5] rfl ⟨hx, hb, hml, hown, hts⟩ (c_X1_goesWell l D cy h b0 b1 b2 b3 b4 th N ch ds de f cs be lf od _ 1 (by omega)) (cwV 1 hts gX1_addNode_X1_goesWell rfl rfl rfl (by decide +kernel) ⟨Nat.le_of_ble_eq_true rfl, Nat.le_of_ble_eq_true rfl⟩) hK hP hD hA rfl rfl rfl hl rfl (Nat.le_of_ble_eq_true rfl) dX1_addNode_15 ⟨Nat.le_of_ble_eq_true rfl, Nat.le_of_ble_eq_true rfl⟩ hS (fun r15 u15 H locs hw15 hP hS => ?_)
    have hP : va_P D vwCl (wM h b0 b1 b2 b3 b4 cy (nI 1) N ch ds de f cs be lf od) H := hP
    have hD : va_D A (wM h b0 b1 b2 b3 b4 cy (nI 1) N ch ds de f cs be lf od) := zD hD rfl
    obtain rfl : r15 = (zb false) := hw15
    refine z_ifb_false_ne (tgt := 23) hx hb dX1_addNode_18 (by decide) ?_
    refine lv_iconst (v := (nI 0)) hx hb dX1_addNode_21 (by decide) ?_
    exact W.iret (v := (nI 0)) hx hb hr (fun t9 ht9 hW9 => ⟨⟨(nI 0), (), rfl, rfl, by show va_P D vwCl (wM h b0 b1 b2 b3 b4 cy (nI 1) N ch ds de f cs be lf od) t9.heap; rw [ht9]; exact hP⟩, hS.F ht9⟩) hS.2.2 dX1_addNode_22

set_option maxHeartbeats 4000000 in
set_option maxRecDepth 100000 in
theorem c_X1_faultOf (l : Launch) (D : va_G) (cy : ClassId) (h b0 b1 b2 b3 b4 : Nat) (th : Int32) (N : Nat) (ch ds de : Int32) (f cs be lf od : Nat → Int32) (q1 q2 : Int32) : Met l yX1_faultOf wsX1_faultOf ({ frames := 1, cells := 0, slots := 0, locals := 21 } : Room) (va_Pc [.ref h, .int q1, .int q2] (zRd D (wM h b0 b1 b2 b3 b4 cy th N ch ds de f cs be lf od) [(cy, .int)])) (zPo (fun r => r = nI (fl q1 q2 N))) 0 0 zNo := by
  refine Met.ofW (cc := cX1_faultOf) (maxL := 3) (ret := (some .int)) (by decide) rfl ?_
  intro p e s m args below meth c s₁ B hml hv
  obtain ⟨rfl, hP, hK⟩ := hv
  have hx := B.exec
  have hb := B.bytes
  have hr := B.returns
  have hts := atoms_spec (ws := wsX1_faultOf) B.pre
  have hown : s.vm.findClass RX1 = some m.cls := findClass_of_methodNamed B.named
  have hlocks := B.notSynchronized
  have hS : va_S (fun _ => False) s.heap s.heap [] := va_S.rf
  have hl := lv_entry ([.ref h, .int q1, .int q2]) (n := 3) (Nat.le_of_ble_eq_true rfl)
  rw [lg_entry_eq]
  generalize (lg_sl ([.ref h, .int q1, .int q2]) ++ List.replicate (3 - (lg_sl ([.ref h, .int q1, .int q2])).length) Slot.unset).toArray = ls at hl ⊢
  have hl : lv_has ls 3 [(0, .ref h), (1, .int q1), (2, .int q2)] := hl
  refine lv_aload_n hx hb dX1_faultOf_0 rfl (lv_at hl 0 rfl) ?_
  refine lv_iload_n hx hb dX1_faultOf_1 rfl (lv_at hl 1 rfl) ?_
  refine zrV (As := [.int q1]) (rest := []) 0 ⟨hx, hb, hml, hown, hts⟩ (c_X1_isNode l D cy h b0 b1 b2 b3 b4 th N ch ds de f cs be lf od q1) (cwV 1 hts gX1_faultOf_X1_isNode rfl rfl rfl (by decide +kernel) ⟨Nat.le_of_ble_eq_true rfl, Nat.le_of_ble_eq_true rfl⟩) hK hP rfl rfl rfl hl rfl (Nat.le_of_ble_eq_true rfl) dX1_faultOf_2 ⟨Nat.le_of_ble_eq_true rfl, Nat.le_of_ble_eq_true rfl⟩ hS (fun r2 H locs hw2 hk9 hS => ?_)
  obtain rfl : r2 = (zb (isNb q1 N)) := hw2
  have hP := zkeep hP hk9
  refine z_ifb_eq (tgt := 16) hx hb dX1_faultOf_5 (by decide) (fun h5 => ?_) (fun h5 => ?_)
  · refine lv_iconst (v := (nI 1)) hx hb dX1_faultOf_16 (by decide) ?_
    refine lv_goto (tgt := 30) hx hb dX1_faultOf_17 (by decide) ?_
    exact W.iret (v := (nI 1)) hx hb hr (fun t9 ht9 hW9 => ⟨⟨(nI 1), (), rfl, (fl_bad1 h5), trivial⟩, hS.F ht9⟩) hS.2.2 dX1_faultOf_30
  · refine lv_aload_n hx hb dX1_faultOf_8 rfl (lv_at hl 0 rfl) ?_
    refine lv_iload_n hx hb dX1_faultOf_9 rfl (lv_at hl 2 rfl) ?_
    refine zrV (As := [.int q2]) (rest := []) 0 ⟨hx, hb, hml, hown, hts⟩ (c_X1_isNode l D cy h b0 b1 b2 b3 b4 th N ch ds de f cs be lf od q2) (cwV 1 hts gX1_faultOf_X1_isNode rfl rfl rfl (by decide +kernel) ⟨Nat.le_of_ble_eq_true rfl, Nat.le_of_ble_eq_true rfl⟩) hK hP rfl rfl rfl hl rfl (Nat.le_of_ble_eq_true rfl) dX1_faultOf_10 ⟨Nat.le_of_ble_eq_true rfl, Nat.le_of_ble_eq_true rfl⟩ hS (fun r10 H locs hw10 hk9 hS => ?_)
    obtain rfl : r10 = (zb (isNb q2 N)) := hw10
    have hP := zkeep hP hk9
    refine z_ifb_ne (tgt := 20) hx hb dX1_faultOf_13 (by decide) (fun h13 => ?_) (fun h13 => ?_)
    · refine lv_iload_n hx hb dX1_faultOf_20 rfl (lv_at hl 1 rfl) ?_
      refine lv_iload_n hx hb dX1_faultOf_21 rfl (lv_at hl 2 rfl) ?_
      refine lv_icmp_ne (tgt := 29) hx hb dX1_faultOf_22 (by decide) (fun h22 => ?_) (fun h22 => ?_)
      · refine lv_iconst (v := (nI 0)) hx hb dX1_faultOf_29 (by decide) ?_
        exact W.iret (v := (nI 0)) hx hb hr (fun t9 ht9 hW9 => ⟨⟨(nI 0), (), rfl, (fl_ok h5 h13 h22), trivial⟩, hS.F ht9⟩) hS.2.2 dX1_faultOf_30
      · refine lv_iconst (v := (nI 2)) hx hb dX1_faultOf_25 (by decide) ?_
        refine lv_goto (tgt := 30) hx hb dX1_faultOf_26 (by decide) ?_
        exact W.iret (v := (nI 2)) hx hb hr (fun t9 ht9 hW9 => ⟨⟨(nI 2), (), rfl, (fl_same h5 h13 h22), trivial⟩, hS.F ht9⟩) hS.2.2 dX1_faultOf_30
    · refine lv_iconst (v := (nI 1)) hx hb dX1_faultOf_16 (by decide) ?_
      refine lv_goto (tgt := 30) hx hb dX1_faultOf_17 (by decide) ?_
      exact W.iret (v := (nI 1)) hx hb hr (fun t9 ht9 hW9 => ⟨⟨(nI 1), (), rfl, (fl_bad2 h13), trivial⟩, hS.F ht9⟩) hS.2.2 dX1_faultOf_30

set_option maxHeartbeats 4000000 in
set_option maxRecDepth 100000 in
theorem c_X1_join_ok (l : Launch) (D : va_G) (cy : ClassId) (h b0 b1 b2 b3 b4 : Nat) (th : Int32) (N : Nat) (ch ds de : Int32) (f cs be lf od : Nat → Int32) (sz : Nat) (u v : Nat) (c0 c1 : Nat → Nat) (hN : N ≤ 20) (hg : gd f N) (hc : ∀ v, v < N → cno f N v (c0 v)) (hg1 : gd (tgl f u v) N) (hc1 : ∀ w, w < N → cno (tgl f u v) N w (c1 w)) (hu : u < N) (hv : v < N) (huv : u ≠ v) (he : bt (f u) v = false) : Met l yX1_join wsX1_join ({ frames := 4, cells := 0, slots := 0, locals := 93 } : Room) (va_Pc [.ref h, .int (nI u), .int (nI v)] (zWr D (wM h b0 b1 b2 b3 b4 cy th N ch ds de f cs be lf od) [(cy, .int)] sz)) (va_Qi (fun (r : Int32) (z9 : (Nat → Int32) × (Nat → Int32)) => r = nI (chg c0 c1 N)) (fun (z9 : (Nat → Int32) × (Nat → Int32)) t => va_P D vwCl (wM h b0 b1 b2 b3 b4 cy (nI 0) N (ch + nI (chg c0 c1 N)) ds de (tgl f u v) z9.1 z9.2 lf od) t.heap) (va_A (wM h b0 b1 b2 b3 b4 cy th N ch ds de f cs be lf od) sz)) 0 0 (va_A (wM h b0 b1 b2 b3 b4 cy th N ch ds de f cs be lf od) sz) := by
  refine Met.ofW (cc := cX1_join) (maxL := 4) (ret := (some .int)) (by decide) rfl ?_
  intro p e s m args below meth c s₁ B hml hv
  obtain ⟨rfl, hsz, hP, hK, hD0⟩ := hv
  have hx := B.exec
  have hb := B.bytes
  have hr := B.returns
  have hts := atoms_spec (ws := wsX1_join) B.pre
  have hown : s.vm.findClass RX1 = some m.cls := findClass_of_methodNamed B.named
  have hlocks := B.notSynchronized
  subst hsz
  have hD := hD0.self (sz := s.heap.size)
  generalize hAe : va_A (wM h b0 b1 b2 b3 b4 cy th N ch ds de f cs be lf od) s.heap.size = A at hD ⊢
  have hA : ∀ q : Nat, s.heap.size ≤ q → A q := fun q h => by rw [← hAe]; exact Or.inr h
  have hS : va_S A s.heap s.heap [] := va_S.rf
  have hin : ∀ w ∈ wsX10, w ∈ wsX1_join := by decide +kernel
  have hf7 := hts (.fieldLink RX1 7 "CorebarnModel" "near" "[I") (by decide +kernel)
  have hl := lv_entry ([.ref h, .int (nI u), .int (nI v)]) (n := 4) (Nat.le_of_ble_eq_true rfl)
  rw [lg_entry_eq]
  generalize (lg_sl ([.ref h, .int (nI u), .int (nI v)]) ++ List.replicate (4 - (lg_sl ([.ref h, .int (nI u), .int (nI v)])).length) Slot.unset).toArray = ls at hl ⊢
  have hl : lv_has ls 4 [(0, .ref h), (1, .int (nI u)), (2, .int (nI v))] := hl
  refine lv_aload_n hx hb dX1_join_0 rfl (lv_at hl 0 rfl) ?_
  refine lv_iload_n hx hb dX1_join_1 rfl (lv_at hl 1 rfl) ?_
  refine lv_iload_n hx hb dX1_join_2 rfl (lv_at hl 2 rfl) ?_
  refine zrV (As := [.int (nI u), .int (nI v)]) (rest := []) 0 ⟨hx, hb, hml, hown, hts⟩ (c_X1_faultOf l D cy h b0 b1 b2 b3 b4 th N ch ds de f cs be lf od (nI u) (nI v)) (cwV 2 hts gX1_join_X1_faultOf rfl rfl rfl (by decide +kernel) ⟨Nat.le_of_ble_eq_true rfl, Nat.le_of_ble_eq_true rfl⟩) hK hP rfl rfl rfl hl rfl (Nat.le_of_ble_eq_true rfl) dX1_join_3 ⟨Nat.le_of_ble_eq_true rfl, Nat.le_of_ble_eq_true rfl⟩ hS (fun r3 H locs hw3 hk9 hS => ?_)
  obtain rfl : r3 = (nI (fl (nI u) (nI v) N)) := hw3
  have hP := zkeep hP hk9
  rw [fl_0 hN hu hv huv]
  refine lv_istore_n (lv' := [(3, .int (nI 0)), (0, .ref h), (1, .int (nI u)), (2, .int (nI v))]) hx hb dX1_join_6 rfl hl (by decide) rfl (fun ls hl => ?_)
  refine lv_aload_n hx hb dX1_join_7 rfl (lv_at hl 1 rfl) ?_
  refine lv_iload_n hx hb dX1_join_8 rfl (lv_at hl 0 rfl) ?_
  refine lv_if_le (tgt := 16) hx hb dX1_join_9 (by decide) (fun _ => ?_) (fun q => absurd (by decide) q)
  refine lv_aload_n hx hb dX1_join_16 rfl (lv_at hl 1 rfl) ?_
  refine va_get (D := D) (ci := 1) (v := .ref b0) (C := RX1) (T := TX1) (N := 10) hx hb hts hin hown hK hP 0 rfl rfl 2 (by decide) hf7 (fun _ h9 => h9) rfl dX1_join_17 ?_
  refine lv_iload_n hx hb dX1_join_20 rfl (lv_at hl 2 rfl) ?_
  refine z_iald hx hb hK hP 1 0 rfl rfl (by omega) (by decide) dX1_join_21 ?_
  refine lv_iload_n hx hb dX1_join_22 rfl (lv_at hl 3 rfl) ?_
  refine zrS0 (As := [.int (f u), .int (nI v)]) (rest := [.ref h]) ⟨hx, hb, hml, hown, hts⟩ (c_X1_has l (f u) v (by omega)) (va_cwS 2 hts gX1_join_X1_has rfl rfl rfl (by decide +kernel) ⟨Nat.le_of_ble_eq_true rfl, Nat.le_of_ble_eq_true rfl⟩) rfl hl rfl (Nat.le_of_ble_eq_true rfl) dX1_join_23 ⟨Nat.le_of_ble_eq_true rfl, Nat.le_of_ble_eq_true rfl⟩ hS (fun r23 H locs hw23 hk9 hS => ?_)
  obtain rfl : r23 = (zb (bt (f u) v)) := hw23
  have hP := zkeep hP hk9
  rw [he]
  refine z_ifb_false (tgt := 33) hx hb dX1_join_26 (by decide) ?_
  refine lv_iconst (v := (nI 0)) hx hb dX1_join_33 (by decide) ?_
  refine zwVi (As := [.int (nI 0)]) (rest := []) 0 [0, 1, 2, 3, 4, 5] rfl ⟨hx, hb, hml, hown, hts⟩ (c_X1_goesWell l D cy h b0 b1 b2 b3 b4 th N ch ds de f cs be lf od _ 0 (by omega)) (cwV 1 hts gX1_join_X1_goesWell rfl rfl rfl (by decide +kernel) ⟨Nat.le_of_ble_eq_true rfl, Nat.le_of_ble_eq_true rfl⟩) hK hP hD hA rfl rfl rfl hl rfl (Nat.le_of_ble_eq_true rfl) dX1_join_34 ⟨Nat.le_of_ble_eq_true rfl, Nat.le_of_ble_eq_true rfl⟩ hS (fun r34 u34 H locs hw34 hP hS => ?_)
  have hP : va_P D vwCl (wM h b0 b1 b2 b3 b4 cy (nI 0) N ch ds de f cs be lf od) H := hP
  have hD : va_D A (wM h b0 b1 b2 b3 b4 cy (nI 0) N ch ds de f cs be lf od) := zD hD rfl
  obtain rfl : r34 = (zb true) := hw34
  refine z_ifb_true (tgt := 49) hx hb dX1_join_37 (by decide) ?_
  refine lv_aload_n hx hb dX1_join_40 rfl (lv_at hl 1 rfl) ?_
  refine lv_iload_n hx hb dX1_join_41 rfl (lv_at hl 2 rfl) ?_
  refine lv_iload_n hx hb dX1_join_42 rfl (lv_at hl 3 rfl) ?_
  refine zwVi (As := [.int (nI u), .int (nI v)]) (rest := []) 0 [0, 1, 2, 3, 4, 5] rfl ⟨hx, hb, hml, hown, hts⟩ (c_X1_turn l D cy h b0 b1 b2 b3 b4 (nI 0) N ch ds de f cs be lf od _ u v c0 c1 hN hg hc hg1 hc1 hu hv) (cwV 2 hts gX1_join_X1_turn rfl rfl rfl (by decide +kernel) ⟨Nat.le_of_ble_eq_true rfl, Nat.le_of_ble_eq_true rfl⟩) hK hP hD hA rfl rfl rfl hl rfl (Nat.le_of_ble_eq_true rfl) dX1_join_43 ⟨Nat.le_of_ble_eq_true rfl, Nat.le_of_ble_eq_true rfl⟩ hS (fun r43 u43 H locs hw43 hP hS => ?_)
  obtain ⟨cs_43, be_43⟩ := u43
  have hP : va_P D vwCl (wM h b0 b1 b2 b3 b4 cy (nI 0) N (ch + nI (chg c0 c1 N)) ds de (tgl f u v) cs_43 be_43 lf od) H := hP
  have hD : va_D A (wM h b0 b1 b2 b3 b4 cy (nI 0) N (ch + nI (chg c0 c1 N)) ds de (tgl f u v) cs_43 be_43 lf od) := zD hD rfl
  obtain rfl : r43 = (nI (chg c0 c1 N)) := hw43
  refine lv_goto (tgt := 50) hx hb dX1_join_46 (by decide) ?_
  exact W.iret (v := (nI (chg c0 c1 N))) hx hb hr (fun t9 ht9 hW9 => ⟨⟨(nI (chg c0 c1 N)), (cs_43, be_43), rfl, rfl, by show va_P D vwCl (wM h b0 b1 b2 b3 b4 cy (nI 0) N (ch + nI (chg c0 c1 N)) ds de (tgl f u v) cs_43 be_43 lf od) t9.heap; rw [ht9]; exact hP⟩, hS.F ht9⟩) hS.2.2 dX1_join_50

set_option maxHeartbeats 4000000 in
set_option maxRecDepth 100000 in
theorem c_X1_join_bad (l : Launch) (D : va_G) (cy : ClassId) (h b0 b1 b2 b3 b4 : Nat) (th : Int32) (N : Nat) (ch ds de : Int32) (f cs be lf od : Nat → Int32) (sz : Nat) (q1 q2 : Int32) (hq : (isNb q1 N && isNb q2 N) = false) : Met l yX1_join wsX1_join ({ frames := 4, cells := 0, slots := 0, locals := 93 } : Room) (va_Pc [.ref h, .int q1, .int q2] (zWr D (wM h b0 b1 b2 b3 b4 cy th N ch ds de f cs be lf od) [(cy, .int)] sz)) (va_Qi (fun (r : Int32) (z9 : Unit) => r = nI 0) (fun (z9 : Unit) t => va_P D vwCl (wM h b0 b1 b2 b3 b4 cy (nI 1) N ch ds de f cs be lf od) t.heap) (va_A (wM h b0 b1 b2 b3 b4 cy th N ch ds de f cs be lf od) sz)) 0 0 (va_A (wM h b0 b1 b2 b3 b4 cy th N ch ds de f cs be lf od) sz) := by
  refine Met.ofW (cc := cX1_join) (maxL := 4) (ret := (some .int)) (by decide) rfl ?_
  intro p e s m args below meth c s₁ B hml hv
  obtain ⟨rfl, hsz, hP, hK, hD0⟩ := hv
  have hx := B.exec
  have hb := B.bytes
  have hr := B.returns
  have hts := atoms_spec (ws := wsX1_join) B.pre
  have hown : s.vm.findClass RX1 = some m.cls := findClass_of_methodNamed B.named
  have hlocks := B.notSynchronized
  subst hsz
  have hD := hD0.self (sz := s.heap.size)
  generalize hAe : va_A (wM h b0 b1 b2 b3 b4 cy th N ch ds de f cs be lf od) s.heap.size = A at hD ⊢
  have hA : ∀ q : Nat, s.heap.size ≤ q → A q := fun q h => by rw [← hAe]; exact Or.inr h
  have hS : va_S A s.heap s.heap [] := va_S.rf
  have hin : ∀ w ∈ wsX10, w ∈ wsX1_join := by decide +kernel
  have hf7 := hts (.fieldLink RX1 7 "CorebarnModel" "near" "[I") (by decide +kernel)
  have hl := lv_entry ([.ref h, .int q1, .int q2]) (n := 4) (Nat.le_of_ble_eq_true rfl)
  rw [lg_entry_eq]
  generalize (lg_sl ([.ref h, .int q1, .int q2]) ++ List.replicate (4 - (lg_sl ([.ref h, .int q1, .int q2])).length) Slot.unset).toArray = ls at hl ⊢
  have hl : lv_has ls 4 [(0, .ref h), (1, .int q1), (2, .int q2)] := hl
  refine lv_aload_n hx hb dX1_join_0 rfl (lv_at hl 0 rfl) ?_
  refine lv_iload_n hx hb dX1_join_1 rfl (lv_at hl 1 rfl) ?_
  refine lv_iload_n hx hb dX1_join_2 rfl (lv_at hl 2 rfl) ?_
  refine zrV (As := [.int q1, .int q2]) (rest := []) 0 ⟨hx, hb, hml, hown, hts⟩ (c_X1_faultOf l D cy h b0 b1 b2 b3 b4 th N ch ds de f cs be lf od q1 q2) (cwV 2 hts gX1_join_X1_faultOf rfl rfl rfl (by decide +kernel) ⟨Nat.le_of_ble_eq_true rfl, Nat.le_of_ble_eq_true rfl⟩) hK hP rfl rfl rfl hl rfl (Nat.le_of_ble_eq_true rfl) dX1_join_3 ⟨Nat.le_of_ble_eq_true rfl, Nat.le_of_ble_eq_true rfl⟩ hS (fun r3 H locs hw3 hk9 hS => ?_)
  obtain rfl : r3 = (nI (fl q1 q2 N)) := hw3
  have hP := zkeep hP hk9
  rw [fl_bad hq]
  refine lv_istore_n (lv' := [(3, .int (nI 1)), (0, .ref h), (1, .int q1), (2, .int q2)]) hx hb dX1_join_6 rfl hl (by decide) rfl (fun ls hl => ?_)
  refine lv_aload_n hx hb dX1_join_7 rfl (lv_at hl 1 rfl) ?_
  refine lv_iload_n hx hb dX1_join_8 rfl (lv_at hl 0 rfl) ?_
  refine lv_if_le (tgt := 16) hx hb dX1_join_9 (by decide) (fun q => absurd q (by decide)) (fun _ => ?_)
  refine lv_iload_n hx hb dX1_join_12 rfl (lv_at hl 0 rfl) ?_
  refine lv_goto (tgt := 34) hx hb dX1_join_13 (by decide) ?_
  refine zwVi (As := [.int (nI 1)]) (rest := []) 0 [0, 1, 2, 3, 4, 5] rfl ⟨hx, hb, hml, hown, hts⟩ (c_X1_goesWell l D cy h b0 b1 b2 b3 b4 th N ch ds de f cs be lf od _ 1 (by omega)) (cwV 1 hts gX1_join_X1_goesWell rfl rfl rfl (by decide +kernel) ⟨Nat.le_of_ble_eq_true rfl, Nat.le_of_ble_eq_true rfl⟩) hK hP hD hA rfl rfl rfl hl rfl (Nat.le_of_ble_eq_true rfl) dX1_join_34 ⟨Nat.le_of_ble_eq_true rfl, Nat.le_of_ble_eq_true rfl⟩ hS (fun r34 u34 H locs hw34 hP hS => ?_)
  have hP : va_P D vwCl (wM h b0 b1 b2 b3 b4 cy (nI 1) N ch ds de f cs be lf od) H := hP
  have hD : va_D A (wM h b0 b1 b2 b3 b4 cy (nI 1) N ch ds de f cs be lf od) := zD hD rfl
  obtain rfl : r34 = (zb false) := hw34
  refine z_ifb_false (tgt := 49) hx hb dX1_join_37 (by decide) ?_
  refine lv_iconst (v := (nI 0)) hx hb dX1_join_49 (by decide) ?_
  exact W.iret (v := (nI 0)) hx hb hr (fun t9 ht9 hW9 => ⟨⟨(nI 0), (), rfl, rfl, by show va_P D vwCl (wM h b0 b1 b2 b3 b4 cy (nI 1) N ch ds de f cs be lf od) t9.heap; rw [ht9]; exact hP⟩, hS.F ht9⟩) hS.2.2 dX1_join_50

set_option maxHeartbeats 4000000 in
set_option maxRecDepth 100000 in
theorem c_X1_join_same (l : Launch) (D : va_G) (cy : ClassId) (h b0 b1 b2 b3 b4 : Nat) (th : Int32) (N : Nat) (ch ds de : Int32) (f cs be lf od : Nat → Int32) (sz : Nat) (u : Nat) (hN : N ≤ 20) (hu : u < N) : Met l yX1_join wsX1_join ({ frames := 4, cells := 0, slots := 0, locals := 93 } : Room) (va_Pc [.ref h, .int (nI u), .int (nI u)] (zWr D (wM h b0 b1 b2 b3 b4 cy th N ch ds de f cs be lf od) [(cy, .int)] sz)) (va_Qi (fun (r : Int32) (z9 : Unit) => r = nI 0) (fun (z9 : Unit) t => va_P D vwCl (wM h b0 b1 b2 b3 b4 cy (nI 2) N ch ds de f cs be lf od) t.heap) (va_A (wM h b0 b1 b2 b3 b4 cy th N ch ds de f cs be lf od) sz)) 0 0 (va_A (wM h b0 b1 b2 b3 b4 cy th N ch ds de f cs be lf od) sz) := by
  refine Met.ofW (cc := cX1_join) (maxL := 4) (ret := (some .int)) (by decide) rfl ?_
  intro p e s m args below meth c s₁ B hml hv
  obtain ⟨rfl, hsz, hP, hK, hD0⟩ := hv
  have hx := B.exec
  have hb := B.bytes
  have hr := B.returns
  have hts := atoms_spec (ws := wsX1_join) B.pre
  have hown : s.vm.findClass RX1 = some m.cls := findClass_of_methodNamed B.named
  have hlocks := B.notSynchronized
  subst hsz
  have hD := hD0.self (sz := s.heap.size)
  generalize hAe : va_A (wM h b0 b1 b2 b3 b4 cy th N ch ds de f cs be lf od) s.heap.size = A at hD ⊢
  have hA : ∀ q : Nat, s.heap.size ≤ q → A q := fun q h => by rw [← hAe]; exact Or.inr h
  have hS : va_S A s.heap s.heap [] := va_S.rf
  have hin : ∀ w ∈ wsX10, w ∈ wsX1_join := by decide +kernel
  have hf7 := hts (.fieldLink RX1 7 "CorebarnModel" "near" "[I") (by decide +kernel)
  have hl := lv_entry ([.ref h, .int (nI u), .int (nI u)]) (n := 4) (Nat.le_of_ble_eq_true rfl)
  rw [lg_entry_eq]
  generalize (lg_sl ([.ref h, .int (nI u), .int (nI u)]) ++ List.replicate (4 - (lg_sl ([.ref h, .int (nI u), .int (nI u)])).length) Slot.unset).toArray = ls at hl ⊢
  have hl : lv_has ls 4 [(0, .ref h), (1, .int (nI u)), (2, .int (nI u))] := hl
  refine lv_aload_n hx hb dX1_join_0 rfl (lv_at hl 0 rfl) ?_
  refine lv_iload_n hx hb dX1_join_1 rfl (lv_at hl 1 rfl) ?_
  refine lv_iload_n hx hb dX1_join_2 rfl (lv_at hl 2 rfl) ?_
  refine zrV (As := [.int (nI u), .int (nI u)]) (rest := []) 0 ⟨hx, hb, hml, hown, hts⟩ (c_X1_faultOf l D cy h b0 b1 b2 b3 b4 th N ch ds de f cs be lf od (nI u) (nI u)) (cwV 2 hts gX1_join_X1_faultOf rfl rfl rfl (by decide +kernel) ⟨Nat.le_of_ble_eq_true rfl, Nat.le_of_ble_eq_true rfl⟩) hK hP rfl rfl rfl hl rfl (Nat.le_of_ble_eq_true rfl) dX1_join_3 ⟨Nat.le_of_ble_eq_true rfl, Nat.le_of_ble_eq_true rfl⟩ hS (fun r3 H locs hw3 hk9 hS => ?_)
  obtain rfl : r3 = (nI (fl (nI u) (nI u) N)) := hw3
  have hP := zkeep hP hk9
  rw [fl_2 hN hu]
  refine lv_istore_n (lv' := [(3, .int (nI 2)), (0, .ref h), (1, .int (nI u)), (2, .int (nI u))]) hx hb dX1_join_6 rfl hl (by decide) rfl (fun ls hl => ?_)
  refine lv_aload_n hx hb dX1_join_7 rfl (lv_at hl 1 rfl) ?_
  refine lv_iload_n hx hb dX1_join_8 rfl (lv_at hl 0 rfl) ?_
  refine lv_if_le (tgt := 16) hx hb dX1_join_9 (by decide) (fun q => absurd q (by decide)) (fun _ => ?_)
  refine lv_iload_n hx hb dX1_join_12 rfl (lv_at hl 0 rfl) ?_
  refine lv_goto (tgt := 34) hx hb dX1_join_13 (by decide) ?_
  refine zwVi (As := [.int (nI 2)]) (rest := []) 0 [0, 1, 2, 3, 4, 5] rfl ⟨hx, hb, hml, hown, hts⟩ (c_X1_goesWell l D cy h b0 b1 b2 b3 b4 th N ch ds de f cs be lf od _ 2 (by omega)) (cwV 1 hts gX1_join_X1_goesWell rfl rfl rfl (by decide +kernel) ⟨Nat.le_of_ble_eq_true rfl, Nat.le_of_ble_eq_true rfl⟩) hK hP hD hA rfl rfl rfl hl rfl (Nat.le_of_ble_eq_true rfl) dX1_join_34 ⟨Nat.le_of_ble_eq_true rfl, Nat.le_of_ble_eq_true rfl⟩ hS (fun r34 u34 H locs hw34 hP hS => ?_)
  have hP : va_P D vwCl (wM h b0 b1 b2 b3 b4 cy (nI 2) N ch ds de f cs be lf od) H := hP
  have hD : va_D A (wM h b0 b1 b2 b3 b4 cy (nI 2) N ch ds de f cs be lf od) := zD hD rfl
  obtain rfl : r34 = (zb false) := hw34
  refine z_ifb_false (tgt := 49) hx hb dX1_join_37 (by decide) ?_
  refine lv_iconst (v := (nI 0)) hx hb dX1_join_49 (by decide) ?_
  exact W.iret (v := (nI 0)) hx hb hr (fun t9 ht9 hW9 => ⟨⟨(nI 0), (), rfl, rfl, by show va_P D vwCl (wM h b0 b1 b2 b3 b4 cy (nI 2) N ch ds de f cs be lf od) t9.heap; rw [ht9]; exact hP⟩, hS.F ht9⟩) hS.2.2 dX1_join_50

set_option maxHeartbeats 4000000 in
set_option maxRecDepth 100000 in
theorem c_X1_join_not (l : Launch) (D : va_G) (cy : ClassId) (h b0 b1 b2 b3 b4 : Nat) (th : Int32) (N : Nat) (ch ds de : Int32) (f cs be lf od : Nat → Int32) (sz : Nat) (u v : Nat) (hN : N ≤ 20) (hu : u < N) (hv : v < N) (huv : u ≠ v) (he : bt (f u) v = true) : Met l yX1_join wsX1_join ({ frames := 4, cells := 0, slots := 0, locals := 93 } : Room) (va_Pc [.ref h, .int (nI u), .int (nI v)] (zWr D (wM h b0 b1 b2 b3 b4 cy th N ch ds de f cs be lf od) [(cy, .int)] sz)) (va_Qi (fun (r : Int32) (z9 : Unit) => r = nI 0) (fun (z9 : Unit) t => va_P D vwCl (wM h b0 b1 b2 b3 b4 cy (nI 3) N ch ds de f cs be lf od) t.heap) (va_A (wM h b0 b1 b2 b3 b4 cy th N ch ds de f cs be lf od) sz)) 0 0 (va_A (wM h b0 b1 b2 b3 b4 cy th N ch ds de f cs be lf od) sz) := by
  refine Met.ofW (cc := cX1_join) (maxL := 4) (ret := (some .int)) (by decide) rfl ?_
  intro p e s m args below meth c s₁ B hml hv
  obtain ⟨rfl, hsz, hP, hK, hD0⟩ := hv
  have hx := B.exec
  have hb := B.bytes
  have hr := B.returns
  have hts := atoms_spec (ws := wsX1_join) B.pre
  have hown : s.vm.findClass RX1 = some m.cls := findClass_of_methodNamed B.named
  have hlocks := B.notSynchronized
  subst hsz
  have hD := hD0.self (sz := s.heap.size)
  generalize hAe : va_A (wM h b0 b1 b2 b3 b4 cy th N ch ds de f cs be lf od) s.heap.size = A at hD ⊢
  have hA : ∀ q : Nat, s.heap.size ≤ q → A q := fun q h => by rw [← hAe]; exact Or.inr h
  have hS : va_S A s.heap s.heap [] := va_S.rf
  have hin : ∀ w ∈ wsX10, w ∈ wsX1_join := by decide +kernel
  have hf7 := hts (.fieldLink RX1 7 "CorebarnModel" "near" "[I") (by decide +kernel)
  have hl := lv_entry ([.ref h, .int (nI u), .int (nI v)]) (n := 4) (Nat.le_of_ble_eq_true rfl)
  rw [lg_entry_eq]
  generalize (lg_sl ([.ref h, .int (nI u), .int (nI v)]) ++ List.replicate (4 - (lg_sl ([.ref h, .int (nI u), .int (nI v)])).length) Slot.unset).toArray = ls at hl ⊢
  have hl : lv_has ls 4 [(0, .ref h), (1, .int (nI u)), (2, .int (nI v))] := hl
  refine lv_aload_n hx hb dX1_join_0 rfl (lv_at hl 0 rfl) ?_
  refine lv_iload_n hx hb dX1_join_1 rfl (lv_at hl 1 rfl) ?_
  refine lv_iload_n hx hb dX1_join_2 rfl (lv_at hl 2 rfl) ?_
  refine zrV (As := [.int (nI u), .int (nI v)]) (rest := []) 0 ⟨hx, hb, hml, hown, hts⟩ (c_X1_faultOf l D cy h b0 b1 b2 b3 b4 th N ch ds de f cs be lf od (nI u) (nI v)) (cwV 2 hts gX1_join_X1_faultOf rfl rfl rfl (by decide +kernel) ⟨Nat.le_of_ble_eq_true rfl, Nat.le_of_ble_eq_true rfl⟩) hK hP rfl rfl rfl hl rfl (Nat.le_of_ble_eq_true rfl) dX1_join_3 ⟨Nat.le_of_ble_eq_true rfl, Nat.le_of_ble_eq_true rfl⟩ hS (fun r3 H locs hw3 hk9 hS => ?_)
  obtain rfl : r3 = (nI (fl (nI u) (nI v) N)) := hw3
  have hP := zkeep hP hk9
  rw [fl_0 hN hu hv huv]
  refine lv_istore_n (lv' := [(3, .int (nI 0)), (0, .ref h), (1, .int (nI u)), (2, .int (nI v))]) hx hb dX1_join_6 rfl hl (by decide) rfl (fun ls hl => ?_)
  refine lv_aload_n hx hb dX1_join_7 rfl (lv_at hl 1 rfl) ?_
  refine lv_iload_n hx hb dX1_join_8 rfl (lv_at hl 0 rfl) ?_
  refine lv_if_le (tgt := 16) hx hb dX1_join_9 (by decide) (fun _ => ?_) (fun q => absurd (by decide) q)
  refine lv_aload_n hx hb dX1_join_16 rfl (lv_at hl 1 rfl) ?_
  refine va_get (D := D) (ci := 1) (v := .ref b0) (C := RX1) (T := TX1) (N := 10) hx hb hts hin hown hK hP 0 rfl rfl 2 (by decide) hf7 (fun _ h9 => h9) rfl dX1_join_17 ?_
  refine lv_iload_n hx hb dX1_join_20 rfl (lv_at hl 2 rfl) ?_
  refine z_iald hx hb hK hP 1 0 rfl rfl (by omega) (by decide) dX1_join_21 ?_
  refine lv_iload_n hx hb dX1_join_22 rfl (lv_at hl 3 rfl) ?_
  refine zrS0 (As := [.int (f u), .int (nI v)]) (rest := [.ref h]) ⟨hx, hb, hml, hown, hts⟩ (c_X1_has l (f u) v (by omega)) (va_cwS 2 hts gX1_join_X1_has rfl rfl rfl (by decide +kernel) ⟨Nat.le_of_ble_eq_true rfl, Nat.le_of_ble_eq_true rfl⟩) rfl hl rfl (Nat.le_of_ble_eq_true rfl) dX1_join_23 ⟨Nat.le_of_ble_eq_true rfl, Nat.le_of_ble_eq_true rfl⟩ hS (fun r23 H locs hw23 hk9 hS => ?_)
  obtain rfl : r23 = (zb (bt (f u) v)) := hw23
  have hP := zkeep hP hk9
  rw [he]
  refine z_ifb_true (tgt := 33) hx hb dX1_join_26 (by decide) ?_
  refine lv_iconst (v := (nI 3)) hx hb dX1_join_29 (by decide) ?_
  refine lv_goto (tgt := 34) hx hb dX1_join_30 (by decide) ?_
  refine zwVi (As := [.int (nI 3)]) (rest := []) 0 [0, 1, 2, 3, 4, 5] rfl ⟨hx, hb, hml, hown, hts⟩ (c_X1_goesWell l D cy h b0 b1 b2 b3 b4 th N ch ds de f cs be lf od _ 3 (by omega)) (cwV 1 hts gX1_join_X1_goesWell rfl rfl rfl (by decide +kernel) ⟨Nat.le_of_ble_eq_true rfl, Nat.le_of_ble_eq_true rfl⟩) hK hP hD hA rfl rfl rfl hl rfl (Nat.le_of_ble_eq_true rfl) dX1_join_34 ⟨Nat.le_of_ble_eq_true rfl, Nat.le_of_ble_eq_true rfl⟩ hS (fun r34 u34 H locs hw34 hP hS => ?_)
  have hP : va_P D vwCl (wM h b0 b1 b2 b3 b4 cy (nI 3) N ch ds de f cs be lf od) H := hP
  have hD : va_D A (wM h b0 b1 b2 b3 b4 cy (nI 3) N ch ds de f cs be lf od) := zD hD rfl
  obtain rfl : r34 = (zb false) := hw34
  refine z_ifb_false (tgt := 49) hx hb dX1_join_37 (by decide) ?_
  refine lv_iconst (v := (nI 0)) hx hb dX1_join_49 (by decide) ?_
  exact W.iret (v := (nI 0)) hx hb hr (fun t9 ht9 hW9 => ⟨⟨(nI 0), (), rfl, rfl, by show va_P D vwCl (wM h b0 b1 b2 b3 b4 cy (nI 3) N ch ds de f cs be lf od) t9.heap; rw [ht9]; exact hP⟩, hS.F ht9⟩) hS.2.2 dX1_join_50

set_option maxHeartbeats 4000000 in
set_option maxRecDepth 100000 in
theorem c_X1_part_ok (l : Launch) (D : va_G) (cy : ClassId) (h b0 b1 b2 b3 b4 : Nat) (th : Int32) (N : Nat) (ch ds de : Int32) (f cs be lf od : Nat → Int32) (sz : Nat) (u v : Nat) (c0 c1 : Nat → Nat) (hN : N ≤ 20) (hg : gd f N) (hc : ∀ v, v < N → cno f N v (c0 v)) (hg1 : gd (tgl f u v) N) (hc1 : ∀ w, w < N → cno (tgl f u v) N w (c1 w)) (hu : u < N) (hv : v < N) (huv : u ≠ v) (he : bt (f u) v = true) : Met l yX1_part wsX1_part ({ frames := 4, cells := 0, slots := 0, locals := 93 } : Room) (va_Pc [.ref h, .int (nI u), .int (nI v)] (zWr D (wM h b0 b1 b2 b3 b4 cy th N ch ds de f cs be lf od) [(cy, .int)] sz)) (va_Qi (fun (r : Int32) (z9 : (Nat → Int32) × (Nat → Int32)) => r = nI (chg c0 c1 N)) (fun (z9 : (Nat → Int32) × (Nat → Int32)) t => va_P D vwCl (wM h b0 b1 b2 b3 b4 cy (nI 0) N (ch + nI (chg c0 c1 N)) ds de (tgl f u v) z9.1 z9.2 lf od) t.heap) (va_A (wM h b0 b1 b2 b3 b4 cy th N ch ds de f cs be lf od) sz)) 0 0 (va_A (wM h b0 b1 b2 b3 b4 cy th N ch ds de f cs be lf od) sz) := by
  refine Met.ofW (cc := cX1_part) (maxL := 4) (ret := (some .int)) (by decide) rfl ?_
  intro p e s m args below meth c s₁ B hml hv
  obtain ⟨rfl, hsz, hP, hK, hD0⟩ := hv
  have hx := B.exec
  have hb := B.bytes
  have hr := B.returns
  have hts := atoms_spec (ws := wsX1_part) B.pre
  have hown : s.vm.findClass RX1 = some m.cls := findClass_of_methodNamed B.named
  have hlocks := B.notSynchronized
  subst hsz
  have hD := hD0.self (sz := s.heap.size)
  generalize hAe : va_A (wM h b0 b1 b2 b3 b4 cy th N ch ds de f cs be lf od) s.heap.size = A at hD ⊢
  have hA : ∀ q : Nat, s.heap.size ≤ q → A q := fun q h => by rw [← hAe]; exact Or.inr h
  have hS : va_S A s.heap s.heap [] := va_S.rf
  have hin : ∀ w ∈ wsX10, w ∈ wsX1_part := by decide +kernel
  have hf7 := hts (.fieldLink RX1 7 "CorebarnModel" "near" "[I") (by decide +kernel)
  have hl := lv_entry ([.ref h, .int (nI u), .int (nI v)]) (n := 4) (Nat.le_of_ble_eq_true rfl)
  rw [lg_entry_eq]
  generalize (lg_sl ([.ref h, .int (nI u), .int (nI v)]) ++ List.replicate (4 - (lg_sl ([.ref h, .int (nI u), .int (nI v)])).length) Slot.unset).toArray = ls at hl ⊢
  have hl : lv_has ls 4 [(0, .ref h), (1, .int (nI u)), (2, .int (nI v))] := hl
  refine lv_aload_n hx hb dX1_part_0 rfl (lv_at hl 0 rfl) ?_
  refine lv_iload_n hx hb dX1_part_1 rfl (lv_at hl 1 rfl) ?_
  refine lv_iload_n hx hb dX1_part_2 rfl (lv_at hl 2 rfl) ?_
  refine zrV (As := [.int (nI u), .int (nI v)]) (rest := []) 0 ⟨hx, hb, hml, hown, hts⟩ (c_X1_faultOf l D cy h b0 b1 b2 b3 b4 th N ch ds de f cs be lf od (nI u) (nI v)) (cwV 2 hts gX1_part_X1_faultOf rfl rfl rfl (by decide +kernel) ⟨Nat.le_of_ble_eq_true rfl, Nat.le_of_ble_eq_true rfl⟩) hK hP rfl rfl rfl hl rfl (Nat.le_of_ble_eq_true rfl) dX1_part_3 ⟨Nat.le_of_ble_eq_true rfl, Nat.le_of_ble_eq_true rfl⟩ hS (fun r3 H locs hw3 hk9 hS => ?_)
  obtain rfl : r3 = (nI (fl (nI u) (nI v) N)) := hw3
  have hP := zkeep hP hk9
  rw [fl_0 hN hu hv huv]
  refine lv_istore_n (lv' := [(3, .int (nI 0)), (0, .ref h), (1, .int (nI u)), (2, .int (nI v))]) hx hb dX1_part_6 rfl hl (by decide) rfl (fun ls hl => ?_)
  refine lv_aload_n hx hb dX1_part_7 rfl (lv_at hl 1 rfl) ?_
  refine lv_iload_n hx hb dX1_part_8 rfl (lv_at hl 0 rfl) ?_
  refine lv_if_le (tgt := 16) hx hb dX1_part_9 (by decide) (fun _ => ?_) (fun q => absurd (by decide) q)
  refine lv_aload_n hx hb dX1_part_16 rfl (lv_at hl 1 rfl) ?_
  refine va_get (D := D) (ci := 1) (v := .ref b0) (C := RX1) (T := TX1) (N := 10) hx hb hts hin hown hK hP 0 rfl rfl 2 (by decide) hf7 (fun _ h9 => h9) rfl dX1_part_17 ?_
  refine lv_iload_n hx hb dX1_part_20 rfl (lv_at hl 2 rfl) ?_
  refine z_iald hx hb hK hP 1 0 rfl rfl (by omega) (by decide) dX1_part_21 ?_
  refine lv_iload_n hx hb dX1_part_22 rfl (lv_at hl 3 rfl) ?_
  refine zrS0 (As := [.int (f u), .int (nI v)]) (rest := [.ref h]) ⟨hx, hb, hml, hown, hts⟩ (c_X1_has l (f u) v (by omega)) (va_cwS 2 hts gX1_part_X1_has rfl rfl rfl (by decide +kernel) ⟨Nat.le_of_ble_eq_true rfl, Nat.le_of_ble_eq_true rfl⟩) rfl hl rfl (Nat.le_of_ble_eq_true rfl) dX1_part_23 ⟨Nat.le_of_ble_eq_true rfl, Nat.le_of_ble_eq_true rfl⟩ hS (fun r23 H locs hw23 hk9 hS => ?_)
  obtain rfl : r23 = (zb (bt (f u) v)) := hw23
  have hP := zkeep hP hk9
  rw [he]
  refine z_ifb_true (tgt := 33) hx hb dX1_part_26 (by decide) ?_
  refine lv_iconst (v := (nI 0)) hx hb dX1_part_29 (by decide) ?_
  refine lv_goto (tgt := 34) hx hb dX1_part_30 (by decide) ?_
  refine zwVi (As := [.int (nI 0)]) (rest := []) 0 [0, 1, 2, 3, 4, 5] rfl ⟨hx, hb, hml, hown, hts⟩ (c_X1_goesWell l D cy h b0 b1 b2 b3 b4 th N ch ds de f cs be lf od _ 0 (by omega)) (cwV 1 hts gX1_part_X1_goesWell rfl rfl rfl (by decide +kernel) ⟨Nat.le_of_ble_eq_true rfl, Nat.le_of_ble_eq_true rfl⟩) hK hP hD hA rfl rfl rfl hl rfl (Nat.le_of_ble_eq_true rfl) dX1_part_34 ⟨Nat.le_of_ble_eq_true rfl, Nat.le_of_ble_eq_true rfl⟩ hS (fun r34 u34 H locs hw34 hP hS => ?_)
  have hP : va_P D vwCl (wM h b0 b1 b2 b3 b4 cy (nI 0) N ch ds de f cs be lf od) H := hP
  have hD : va_D A (wM h b0 b1 b2 b3 b4 cy (nI 0) N ch ds de f cs be lf od) := zD hD rfl
  obtain rfl : r34 = (zb true) := hw34
  refine z_ifb_true (tgt := 49) hx hb dX1_part_37 (by decide) ?_
  refine lv_aload_n hx hb dX1_part_40 rfl (lv_at hl 1 rfl) ?_
  refine lv_iload_n hx hb dX1_part_41 rfl (lv_at hl 2 rfl) ?_
  refine lv_iload_n hx hb dX1_part_42 rfl (lv_at hl 3 rfl) ?_
  refine zwVi (As := [.int (nI u), .int (nI v)]) (rest := []) 0 [0, 1, 2, 3, 4, 5] rfl ⟨hx, hb, hml, hown, hts⟩ (c_X1_turn l D cy h b0 b1 b2 b3 b4 (nI 0) N ch ds de f cs be lf od _ u v c0 c1 hN hg hc hg1 hc1 hu hv) (cwV 2 hts gX1_part_X1_turn rfl rfl rfl (by decide +kernel) ⟨Nat.le_of_ble_eq_true rfl, Nat.le_of_ble_eq_true rfl⟩) hK hP hD hA rfl rfl rfl hl rfl (Nat.le_of_ble_eq_true rfl) dX1_part_43 ⟨Nat.le_of_ble_eq_true rfl, Nat.le_of_ble_eq_true rfl⟩ hS (fun r43 u43 H locs hw43 hP hS => ?_)
  obtain ⟨cs_43, be_43⟩ := u43
  have hP : va_P D vwCl (wM h b0 b1 b2 b3 b4 cy (nI 0) N (ch + nI (chg c0 c1 N)) ds de (tgl f u v) cs_43 be_43 lf od) H := hP
  have hD : va_D A (wM h b0 b1 b2 b3 b4 cy (nI 0) N (ch + nI (chg c0 c1 N)) ds de (tgl f u v) cs_43 be_43 lf od) := zD hD rfl
  obtain rfl : r43 = (nI (chg c0 c1 N)) := hw43
  refine lv_goto (tgt := 50) hx hb dX1_part_46 (by decide) ?_
  exact W.iret (v := (nI (chg c0 c1 N))) hx hb hr (fun t9 ht9 hW9 => ⟨⟨(nI (chg c0 c1 N)), (cs_43, be_43), rfl, rfl, by show va_P D vwCl (wM h b0 b1 b2 b3 b4 cy (nI 0) N (ch + nI (chg c0 c1 N)) ds de (tgl f u v) cs_43 be_43 lf od) t9.heap; rw [ht9]; exact hP⟩, hS.F ht9⟩) hS.2.2 dX1_part_50

set_option maxHeartbeats 4000000 in
set_option maxRecDepth 100000 in
theorem c_X1_part_bad (l : Launch) (D : va_G) (cy : ClassId) (h b0 b1 b2 b3 b4 : Nat) (th : Int32) (N : Nat) (ch ds de : Int32) (f cs be lf od : Nat → Int32) (sz : Nat) (q1 q2 : Int32) (hq : (isNb q1 N && isNb q2 N) = false) : Met l yX1_part wsX1_part ({ frames := 4, cells := 0, slots := 0, locals := 93 } : Room) (va_Pc [.ref h, .int q1, .int q2] (zWr D (wM h b0 b1 b2 b3 b4 cy th N ch ds de f cs be lf od) [(cy, .int)] sz)) (va_Qi (fun (r : Int32) (z9 : Unit) => r = nI 0) (fun (z9 : Unit) t => va_P D vwCl (wM h b0 b1 b2 b3 b4 cy (nI 1) N ch ds de f cs be lf od) t.heap) (va_A (wM h b0 b1 b2 b3 b4 cy th N ch ds de f cs be lf od) sz)) 0 0 (va_A (wM h b0 b1 b2 b3 b4 cy th N ch ds de f cs be lf od) sz) := by
  refine Met.ofW (cc := cX1_part) (maxL := 4) (ret := (some .int)) (by decide) rfl ?_
  intro p e s m args below meth c s₁ B hml hv
  obtain ⟨rfl, hsz, hP, hK, hD0⟩ := hv
  have hx := B.exec
  have hb := B.bytes
  have hr := B.returns
  have hts := atoms_spec (ws := wsX1_part) B.pre
  have hown : s.vm.findClass RX1 = some m.cls := findClass_of_methodNamed B.named
  have hlocks := B.notSynchronized
  subst hsz
  have hD := hD0.self (sz := s.heap.size)
  generalize hAe : va_A (wM h b0 b1 b2 b3 b4 cy th N ch ds de f cs be lf od) s.heap.size = A at hD ⊢
  have hA : ∀ q : Nat, s.heap.size ≤ q → A q := fun q h => by rw [← hAe]; exact Or.inr h
  have hS : va_S A s.heap s.heap [] := va_S.rf
  have hin : ∀ w ∈ wsX10, w ∈ wsX1_part := by decide +kernel
  have hf7 := hts (.fieldLink RX1 7 "CorebarnModel" "near" "[I") (by decide +kernel)
  have hl := lv_entry ([.ref h, .int q1, .int q2]) (n := 4) (Nat.le_of_ble_eq_true rfl)
  rw [lg_entry_eq]
  generalize (lg_sl ([.ref h, .int q1, .int q2]) ++ List.replicate (4 - (lg_sl ([.ref h, .int q1, .int q2])).length) Slot.unset).toArray = ls at hl ⊢
  have hl : lv_has ls 4 [(0, .ref h), (1, .int q1), (2, .int q2)] := hl
  refine lv_aload_n hx hb dX1_part_0 rfl (lv_at hl 0 rfl) ?_
  refine lv_iload_n hx hb dX1_part_1 rfl (lv_at hl 1 rfl) ?_
  refine lv_iload_n hx hb dX1_part_2 rfl (lv_at hl 2 rfl) ?_
  refine zrV (As := [.int q1, .int q2]) (rest := []) 0 ⟨hx, hb, hml, hown, hts⟩ (c_X1_faultOf l D cy h b0 b1 b2 b3 b4 th N ch ds de f cs be lf od q1 q2) (cwV 2 hts gX1_part_X1_faultOf rfl rfl rfl (by decide +kernel) ⟨Nat.le_of_ble_eq_true rfl, Nat.le_of_ble_eq_true rfl⟩) hK hP rfl rfl rfl hl rfl (Nat.le_of_ble_eq_true rfl) dX1_part_3 ⟨Nat.le_of_ble_eq_true rfl, Nat.le_of_ble_eq_true rfl⟩ hS (fun r3 H locs hw3 hk9 hS => ?_)
  obtain rfl : r3 = (nI (fl q1 q2 N)) := hw3
  have hP := zkeep hP hk9
  rw [fl_bad hq]
  refine lv_istore_n (lv' := [(3, .int (nI 1)), (0, .ref h), (1, .int q1), (2, .int q2)]) hx hb dX1_part_6 rfl hl (by decide) rfl (fun ls hl => ?_)
  refine lv_aload_n hx hb dX1_part_7 rfl (lv_at hl 1 rfl) ?_
  refine lv_iload_n hx hb dX1_part_8 rfl (lv_at hl 0 rfl) ?_
  refine lv_if_le (tgt := 16) hx hb dX1_part_9 (by decide) (fun q => absurd q (by decide)) (fun _ => ?_)
  refine lv_iload_n hx hb dX1_part_12 rfl (lv_at hl 0 rfl) ?_
  refine lv_goto (tgt := 34) hx hb dX1_part_13 (by decide) ?_
  refine zwVi (As := [.int (nI 1)]) (rest := []) 0 [0, 1, 2, 3, 4, 5] rfl ⟨hx, hb, hml, hown, hts⟩ (c_X1_goesWell l D cy h b0 b1 b2 b3 b4 th N ch ds de f cs be lf od _ 1 (by omega)) (cwV 1 hts gX1_part_X1_goesWell rfl rfl rfl (by decide +kernel) ⟨Nat.le_of_ble_eq_true rfl, Nat.le_of_ble_eq_true rfl⟩) hK hP hD hA rfl rfl rfl hl rfl (Nat.le_of_ble_eq_true rfl) dX1_part_34 ⟨Nat.le_of_ble_eq_true rfl, Nat.le_of_ble_eq_true rfl⟩ hS (fun r34 u34 H locs hw34 hP hS => ?_)
  have hP : va_P D vwCl (wM h b0 b1 b2 b3 b4 cy (nI 1) N ch ds de f cs be lf od) H := hP
  have hD : va_D A (wM h b0 b1 b2 b3 b4 cy (nI 1) N ch ds de f cs be lf od) := zD hD rfl
  obtain rfl : r34 = (zb false) := hw34
  refine z_ifb_false (tgt := 49) hx hb dX1_part_37 (by decide) ?_
  refine lv_iconst (v := (nI 0)) hx hb dX1_part_49 (by decide) ?_
  exact W.iret (v := (nI 0)) hx hb hr (fun t9 ht9 hW9 => ⟨⟨(nI 0), (), rfl, rfl, by show va_P D vwCl (wM h b0 b1 b2 b3 b4 cy (nI 1) N ch ds de f cs be lf od) t9.heap; rw [ht9]; exact hP⟩, hS.F ht9⟩) hS.2.2 dX1_part_50

set_option maxHeartbeats 4000000 in
set_option maxRecDepth 100000 in
theorem c_X1_part_same (l : Launch) (D : va_G) (cy : ClassId) (h b0 b1 b2 b3 b4 : Nat) (th : Int32) (N : Nat) (ch ds de : Int32) (f cs be lf od : Nat → Int32) (sz : Nat) (u : Nat) (hN : N ≤ 20) (hu : u < N) : Met l yX1_part wsX1_part ({ frames := 4, cells := 0, slots := 0, locals := 93 } : Room) (va_Pc [.ref h, .int (nI u), .int (nI u)] (zWr D (wM h b0 b1 b2 b3 b4 cy th N ch ds de f cs be lf od) [(cy, .int)] sz)) (va_Qi (fun (r : Int32) (z9 : Unit) => r = nI 0) (fun (z9 : Unit) t => va_P D vwCl (wM h b0 b1 b2 b3 b4 cy (nI 2) N ch ds de f cs be lf od) t.heap) (va_A (wM h b0 b1 b2 b3 b4 cy th N ch ds de f cs be lf od) sz)) 0 0 (va_A (wM h b0 b1 b2 b3 b4 cy th N ch ds de f cs be lf od) sz) := by
  refine Met.ofW (cc := cX1_part) (maxL := 4) (ret := (some .int)) (by decide) rfl ?_
  intro p e s m args below meth c s₁ B hml hv
  obtain ⟨rfl, hsz, hP, hK, hD0⟩ := hv
  have hx := B.exec
  have hb := B.bytes
  have hr := B.returns
  have hts := atoms_spec (ws := wsX1_part) B.pre
  have hown : s.vm.findClass RX1 = some m.cls := findClass_of_methodNamed B.named
  have hlocks := B.notSynchronized
  subst hsz
  have hD := hD0.self (sz := s.heap.size)
  generalize hAe : va_A (wM h b0 b1 b2 b3 b4 cy th N ch ds de f cs be lf od) s.heap.size = A at hD ⊢
  have hA : ∀ q : Nat, s.heap.size ≤ q → A q := fun q h => by rw [← hAe]; exact Or.inr h
  have hS : va_S A s.heap s.heap [] := va_S.rf
  have hin : ∀ w ∈ wsX10, w ∈ wsX1_part := by decide +kernel
  have hf7 := hts (.fieldLink RX1 7 "CorebarnModel" "near" "[I") (by decide +kernel)
  have hl := lv_entry ([.ref h, .int (nI u), .int (nI u)]) (n := 4) (Nat.le_of_ble_eq_true rfl)
  rw [lg_entry_eq]
  generalize (lg_sl ([.ref h, .int (nI u), .int (nI u)]) ++ List.replicate (4 - (lg_sl ([.ref h, .int (nI u), .int (nI u)])).length) Slot.unset).toArray = ls at hl ⊢
  have hl : lv_has ls 4 [(0, .ref h), (1, .int (nI u)), (2, .int (nI u))] := hl
  refine lv_aload_n hx hb dX1_part_0 rfl (lv_at hl 0 rfl) ?_
  refine lv_iload_n hx hb dX1_part_1 rfl (lv_at hl 1 rfl) ?_
  refine lv_iload_n hx hb dX1_part_2 rfl (lv_at hl 2 rfl) ?_
  refine zrV (As := [.int (nI u), .int (nI u)]) (rest := []) 0 ⟨hx, hb, hml, hown, hts⟩ (c_X1_faultOf l D cy h b0 b1 b2 b3 b4 th N ch ds de f cs be lf od (nI u) (nI u)) (cwV 2 hts gX1_part_X1_faultOf rfl rfl rfl (by decide +kernel) ⟨Nat.le_of_ble_eq_true rfl, Nat.le_of_ble_eq_true rfl⟩) hK hP rfl rfl rfl hl rfl (Nat.le_of_ble_eq_true rfl) dX1_part_3 ⟨Nat.le_of_ble_eq_true rfl, Nat.le_of_ble_eq_true rfl⟩ hS (fun r3 H locs hw3 hk9 hS => ?_)
  obtain rfl : r3 = (nI (fl (nI u) (nI u) N)) := hw3
  have hP := zkeep hP hk9
  rw [fl_2 hN hu]
  refine lv_istore_n (lv' := [(3, .int (nI 2)), (0, .ref h), (1, .int (nI u)), (2, .int (nI u))]) hx hb dX1_part_6 rfl hl (by decide) rfl (fun ls hl => ?_)
  refine lv_aload_n hx hb dX1_part_7 rfl (lv_at hl 1 rfl) ?_
  refine lv_iload_n hx hb dX1_part_8 rfl (lv_at hl 0 rfl) ?_
  refine lv_if_le (tgt := 16) hx hb dX1_part_9 (by decide) (fun q => absurd q (by decide)) (fun _ => ?_)
  refine lv_iload_n hx hb dX1_part_12 rfl (lv_at hl 0 rfl) ?_
  refine lv_goto (tgt := 34) hx hb dX1_part_13 (by decide) ?_
  refine zwVi (As := [.int (nI 2)]) (rest := []) 0 [0, 1, 2, 3, 4, 5] rfl ⟨hx, hb, hml, hown, hts⟩ (c_X1_goesWell l D cy h b0 b1 b2 b3 b4 th N ch ds de f cs be lf od _ 2 (by omega)) (cwV 1 hts gX1_part_X1_goesWell rfl rfl rfl (by decide +kernel) ⟨Nat.le_of_ble_eq_true rfl, Nat.le_of_ble_eq_true rfl⟩) hK hP hD hA rfl rfl rfl hl rfl (Nat.le_of_ble_eq_true rfl) dX1_part_34 ⟨Nat.le_of_ble_eq_true rfl, Nat.le_of_ble_eq_true rfl⟩ hS (fun r34 u34 H locs hw34 hP hS => ?_)
  have hP : va_P D vwCl (wM h b0 b1 b2 b3 b4 cy (nI 2) N ch ds de f cs be lf od) H := hP
  have hD : va_D A (wM h b0 b1 b2 b3 b4 cy (nI 2) N ch ds de f cs be lf od) := zD hD rfl
  obtain rfl : r34 = (zb false) := hw34
  refine z_ifb_false (tgt := 49) hx hb dX1_part_37 (by decide) ?_
  refine lv_iconst (v := (nI 0)) hx hb dX1_part_49 (by decide) ?_
  exact W.iret (v := (nI 0)) hx hb hr (fun t9 ht9 hW9 => ⟨⟨(nI 0), (), rfl, rfl, by show va_P D vwCl (wM h b0 b1 b2 b3 b4 cy (nI 2) N ch ds de f cs be lf od) t9.heap; rw [ht9]; exact hP⟩, hS.F ht9⟩) hS.2.2 dX1_part_50

set_option maxHeartbeats 4000000 in
set_option maxRecDepth 100000 in
theorem c_X1_part_not (l : Launch) (D : va_G) (cy : ClassId) (h b0 b1 b2 b3 b4 : Nat) (th : Int32) (N : Nat) (ch ds de : Int32) (f cs be lf od : Nat → Int32) (sz : Nat) (u v : Nat) (hN : N ≤ 20) (hu : u < N) (hv : v < N) (huv : u ≠ v) (he : bt (f u) v = false) : Met l yX1_part wsX1_part ({ frames := 4, cells := 0, slots := 0, locals := 93 } : Room) (va_Pc [.ref h, .int (nI u), .int (nI v)] (zWr D (wM h b0 b1 b2 b3 b4 cy th N ch ds de f cs be lf od) [(cy, .int)] sz)) (va_Qi (fun (r : Int32) (z9 : Unit) => r = nI 0) (fun (z9 : Unit) t => va_P D vwCl (wM h b0 b1 b2 b3 b4 cy (nI 3) N ch ds de f cs be lf od) t.heap) (va_A (wM h b0 b1 b2 b3 b4 cy th N ch ds de f cs be lf od) sz)) 0 0 (va_A (wM h b0 b1 b2 b3 b4 cy th N ch ds de f cs be lf od) sz) := by
  refine Met.ofW (cc := cX1_part) (maxL := 4) (ret := (some .int)) (by decide) rfl ?_
  intro p e s m args below meth c s₁ B hml hv
  obtain ⟨rfl, hsz, hP, hK, hD0⟩ := hv
  have hx := B.exec
  have hb := B.bytes
  have hr := B.returns
  have hts := atoms_spec (ws := wsX1_part) B.pre
  have hown : s.vm.findClass RX1 = some m.cls := findClass_of_methodNamed B.named
  have hlocks := B.notSynchronized
  subst hsz
  have hD := hD0.self (sz := s.heap.size)
  generalize hAe : va_A (wM h b0 b1 b2 b3 b4 cy th N ch ds de f cs be lf od) s.heap.size = A at hD ⊢
  have hA : ∀ q : Nat, s.heap.size ≤ q → A q := fun q h => by rw [← hAe]; exact Or.inr h
  have hS : va_S A s.heap s.heap [] := va_S.rf
  have hin : ∀ w ∈ wsX10, w ∈ wsX1_part := by decide +kernel
  have hf7 := hts (.fieldLink RX1 7 "CorebarnModel" "near" "[I") (by decide +kernel)
  have hl := lv_entry ([.ref h, .int (nI u), .int (nI v)]) (n := 4) (Nat.le_of_ble_eq_true rfl)
  rw [lg_entry_eq]
  generalize (lg_sl ([.ref h, .int (nI u), .int (nI v)]) ++ List.replicate (4 - (lg_sl ([.ref h, .int (nI u), .int (nI v)])).length) Slot.unset).toArray = ls at hl ⊢
  have hl : lv_has ls 4 [(0, .ref h), (1, .int (nI u)), (2, .int (nI v))] := hl
  refine lv_aload_n hx hb dX1_part_0 rfl (lv_at hl 0 rfl) ?_
  refine lv_iload_n hx hb dX1_part_1 rfl (lv_at hl 1 rfl) ?_
  refine lv_iload_n hx hb dX1_part_2 rfl (lv_at hl 2 rfl) ?_
  refine zrV (As := [.int (nI u), .int (nI v)]) (rest := []) 0 ⟨hx, hb, hml, hown, hts⟩ (c_X1_faultOf l D cy h b0 b1 b2 b3 b4 th N ch ds de f cs be lf od (nI u) (nI v)) (cwV 2 hts gX1_part_X1_faultOf rfl rfl rfl (by decide +kernel) ⟨Nat.le_of_ble_eq_true rfl, Nat.le_of_ble_eq_true rfl⟩) hK hP rfl rfl rfl hl rfl (Nat.le_of_ble_eq_true rfl) dX1_part_3 ⟨Nat.le_of_ble_eq_true rfl, Nat.le_of_ble_eq_true rfl⟩ hS (fun r3 H locs hw3 hk9 hS => ?_)
  obtain rfl : r3 = (nI (fl (nI u) (nI v) N)) := hw3
  have hP := zkeep hP hk9
  rw [fl_0 hN hu hv huv]
  refine lv_istore_n (lv' := [(3, .int (nI 0)), (0, .ref h), (1, .int (nI u)), (2, .int (nI v))]) hx hb dX1_part_6 rfl hl (by decide) rfl (fun ls hl => ?_)
  refine lv_aload_n hx hb dX1_part_7 rfl (lv_at hl 1 rfl) ?_
  refine lv_iload_n hx hb dX1_part_8 rfl (lv_at hl 0 rfl) ?_
  refine lv_if_le (tgt := 16) hx hb dX1_part_9 (by decide) (fun _ => ?_) (fun q => absurd (by decide) q)
  refine lv_aload_n hx hb dX1_part_16 rfl (lv_at hl 1 rfl) ?_
  refine va_get (D := D) (ci := 1) (v := .ref b0) (C := RX1) (T := TX1) (N := 10) hx hb hts hin hown hK hP 0 rfl rfl 2 (by decide) hf7 (fun _ h9 => h9) rfl dX1_part_17 ?_
  refine lv_iload_n hx hb dX1_part_20 rfl (lv_at hl 2 rfl) ?_
  refine z_iald hx hb hK hP 1 0 rfl rfl (by omega) (by decide) dX1_part_21 ?_
  refine lv_iload_n hx hb dX1_part_22 rfl (lv_at hl 3 rfl) ?_
  refine zrS0 (As := [.int (f u), .int (nI v)]) (rest := [.ref h]) ⟨hx, hb, hml, hown, hts⟩ (c_X1_has l (f u) v (by omega)) (va_cwS 2 hts gX1_part_X1_has rfl rfl rfl (by decide +kernel) ⟨Nat.le_of_ble_eq_true rfl, Nat.le_of_ble_eq_true rfl⟩) rfl hl rfl (Nat.le_of_ble_eq_true rfl) dX1_part_23 ⟨Nat.le_of_ble_eq_true rfl, Nat.le_of_ble_eq_true rfl⟩ hS (fun r23 H locs hw23 hk9 hS => ?_)
  obtain rfl : r23 = (zb (bt (f u) v)) := hw23
  have hP := zkeep hP hk9
  rw [he]
  refine z_ifb_false (tgt := 33) hx hb dX1_part_26 (by decide) ?_
  refine lv_iconst (v := (nI 3)) hx hb dX1_part_33 (by decide) ?_
  refine zwVi (As := [.int (nI 3)]) (rest := []) 0 [0, 1, 2, 3, 4, 5] rfl ⟨hx, hb, hml, hown, hts⟩ (c_X1_goesWell l D cy h b0 b1 b2 b3 b4 th N ch ds de f cs be lf od _ 3 (by omega)) (cwV 1 hts gX1_part_X1_goesWell rfl rfl rfl (by decide +kernel) ⟨Nat.le_of_ble_eq_true rfl, Nat.le_of_ble_eq_true rfl⟩) hK hP hD hA rfl rfl rfl hl rfl (Nat.le_of_ble_eq_true rfl) dX1_part_34 ⟨Nat.le_of_ble_eq_true rfl, Nat.le_of_ble_eq_true rfl⟩ hS (fun r34 u34 H locs hw34 hP hS => ?_)
  have hP : va_P D vwCl (wM h b0 b1 b2 b3 b4 cy (nI 3) N ch ds de f cs be lf od) H := hP
  have hD : va_D A (wM h b0 b1 b2 b3 b4 cy (nI 3) N ch ds de f cs be lf od) := zD hD rfl
  obtain rfl : r34 = (zb false) := hw34
  refine z_ifb_false (tgt := 49) hx hb dX1_part_37 (by decide) ?_
  refine lv_iconst (v := (nI 0)) hx hb dX1_part_49 (by decide) ?_
  exact W.iret (v := (nI 0)) hx hb hr (fun t9 ht9 hW9 => ⟨⟨(nI 0), (), rfl, rfl, by show va_P D vwCl (wM h b0 b1 b2 b3 b4 cy (nI 3) N ch ds de f cs be lf od) t9.heap; rw [ht9]; exact hP⟩, hS.F ht9⟩) hS.2.2 dX1_part_50

set_option maxHeartbeats 4000000 in
set_option maxRecDepth 100000 in
theorem c_X1_isolate_ok (l : Launch) (D : va_G) (cy : ClassId) (h b0 b1 b2 b3 b4 : Nat) (th : Int32) (N : Nat) (ch ds de : Int32) (f cs be lf od : Nat → Int32) (sz : Nat) (u : Nat) (cI : Nat → Nat → Nat) (hN : N ≤ 20) (hg : ∀ i, i ≤ N → gd (iso f u i) N) (hc : ∀ i, i ≤ N → ∀ v, v < N → cno (iso f u i) N v (cI i v)) (hu : u < N) : Met l yX1_isolate wsX1_isolate ({ frames := 4, cells := 0, slots := 0, locals := 93 } : Room) (va_Pc [.ref h, .int (nI u)] (zWr D (wM h b0 b1 b2 b3 b4 cy th N ch ds de f cs be lf od) [(cy, .int)] sz)) (va_Qi (fun (r : Int32) (z9 : (Nat → Int32) × (Nat → Int32)) => r = nI (ise f u N)) (fun (z9 : (Nat → Int32) × (Nat → Int32)) t => va_P D vwCl (wM h b0 b1 b2 b3 b4 cy (nI 0) N (ch + nI (isc f u N cI N)) ds de (iso f u N) z9.1 z9.2 lf od) t.heap) (va_A (wM h b0 b1 b2 b3 b4 cy th N ch ds de f cs be lf od) sz)) 0 0 (va_A (wM h b0 b1 b2 b3 b4 cy th N ch ds de f cs be lf od) sz) := by
  refine Met.ofW (cc := cX1_isolate) (maxL := 5) (ret := (some .int)) (by decide) rfl ?_
  intro p e s m args below meth c s₁ B hml hv
  obtain ⟨rfl, hsz, hP, hK, hD0⟩ := hv
  have hx := B.exec
  have hb := B.bytes
  have hr := B.returns
  have hts := atoms_spec (ws := wsX1_isolate) B.pre
  have hown : s.vm.findClass RX1 = some m.cls := findClass_of_methodNamed B.named
  have hlocks := B.notSynchronized
  subst hsz
  have hD := hD0.self (sz := s.heap.size)
  generalize hAe : va_A (wM h b0 b1 b2 b3 b4 cy th N ch ds de f cs be lf od) s.heap.size = A at hD ⊢
  have hA : ∀ q : Nat, s.heap.size ≤ q → A q := fun q h => by rw [← hAe]; exact Or.inr h
  have hS : va_S A s.heap s.heap [] := va_S.rf
  have hin : ∀ w ∈ wsX10, w ∈ wsX1_isolate := by decide +kernel
  have hf7 := hts (.fieldLink RX1 7 "CorebarnModel" "near" "[I") (by decide +kernel)
  have hf29 := hts (.fieldLink RX1 29 "CorebarnModel" "many" "I") (by decide +kernel)
  have hl := lv_entry ([.ref h, .int (nI u)]) (n := 5) (Nat.le_of_ble_eq_true rfl)
  rw [lg_entry_eq]
  generalize (lg_sl ([.ref h, .int (nI u)]) ++ List.replicate (5 - (lg_sl ([.ref h, .int (nI u)])).length) Slot.unset).toArray = ls at hl ⊢
  have hl : lv_has ls 5 [(0, .ref h), (1, .int (nI u))] := hl
  refine lv_aload_n hx hb dX1_isolate_0 rfl (lv_at hl 0 rfl) ?_
  refine lv_aload_n hx hb dX1_isolate_1 rfl (lv_at hl 0 rfl) ?_
  refine lv_iload_n hx hb dX1_isolate_2 rfl (lv_at hl 1 rfl) ?_
  refine zrV (As := [.int (nI u)]) (rest := [.ref h]) 0 ⟨hx, hb, hml, hown, hts⟩ (c_X1_isNode l D cy h b0 b1 b2 b3 b4 th N ch ds de f cs be lf od (nI u)) (cwV 1 hts gX1_isolate_X1_isNode rfl rfl rfl (by decide +kernel) ⟨Nat.le_of_ble_eq_true rfl, Nat.le_of_ble_eq_true rfl⟩) hK hP rfl rfl rfl hl rfl (Nat.le_of_ble_eq_true rfl) dX1_isolate_3 ⟨Nat.le_of_ble_eq_true rfl, Nat.le_of_ble_eq_true rfl⟩ hS (fun r3 H locs hw3 hk9 hS => ?_)
  obtain rfl : r3 = (zb (isNb (nI u) N)) := hw3
  have hP := zkeep hP hk9
  rw [isNb_y hu hN]
  refine z_ifb_true (tgt := 13) hx hb dX1_isolate_6 (by decide) ?_
  refine lv_iconst (v := (nI 0)) hx hb dX1_isolate_9 (by decide) ?_
  refine lv_goto (tgt := 14) hx hb dX1_isolate_10 (by decide) ?_
  refine zwVi (As := [.int (nI 0)]) (rest := []) 0 [0, 1, 2, 3, 4, 5] rfl ⟨hx, hb, hml, hown, hts⟩ (c_X1_goesWell l D cy h b0 b1 b2 b3 b4 th N ch ds de f cs be lf od _ 0 (by omega)) (cwV 1 hts gX1_isolate_X1_goesWell rfl rfl rfl (by decide +kernel) ⟨Nat.le_of_ble_eq_true rfl, Nat.le_of_ble_eq_true rfl⟩) hK hP hD hA rfl rfl rfl hl rfl (Nat.le_of_ble_eq_true rfl) dX1_isolate_14 ⟨Nat.le_of_ble_eq_true rfl, Nat.le_of_ble_eq_true rfl⟩ hS (fun r14 u14 H locs hw14 hP hS => ?_)
  have hP : va_P D vwCl (wM h b0 b1 b2 b3 b4 cy (nI 0) N ch ds de f cs be lf od) H := hP
  have hD : va_D A (wM h b0 b1 b2 b3 b4 cy (nI 0) N ch ds de f cs be lf od) := zD hD rfl
  obtain rfl : r14 = (zb true) := hw14
  refine z_ifb_true_ne (tgt := 22) hx hb dX1_isolate_17 (by decide) ?_
  refine lv_iconst (v := (nI 0)) hx hb dX1_isolate_22 (by decide) ?_
  refine lv_istore_n (lv' := [(2, .int (nI 0)), (0, .ref h), (1, .int (nI u))]) hx hb dX1_isolate_23 rfl hl (by decide) rfl (fun ls hl => ?_)
  refine lv_iconst (v := (nI 0)) hx hb dX1_isolate_24 (by decide) ?_
  refine lv_istore_n (lv' := [(3, .int (nI 0)), (2, .int (nI 0)), (0, .ref h), (1, .int (nI u))]) hx hb dX1_isolate_25 rfl hl (by decide) rfl (fun ls hl => ?_)
  have K26 : ∀ (fu26 : Nat) (i : Nat) (k : Nat) (f1 : Nat → Int32) (cs1 : Nat → Int32) (be1 : Nat → Int32) (ch1 : Int32) (H : Heap) (locs : List Loc) (ls : Array Slot), (i ≤ N) → (f1 = iso f u i) → (k = ise f u i) → (ch1 = ch + nI (isc f u N cI i)) → N - i < fu26 → va_P D vwCl (wM h b0 b1 b2 b3 b4 cy (nI 0) N ch1 ds de f1 cs1 be1 lf od) H → va_S A s.heap H locs → lv_has ls 5 [(3, .int (nI i)), (2, .int (nI k)), (0, .ref h), (1, .int (nI u))] → W p l e (headSpec wsX1_isolate ({ frames := 4, cells := 0, slots := 0, locals := 93 } : Room)).room s m ([.ref h, .int (nI u)] : List Value).toArray below meth c H locs 0 0 (MQ below (va_Qi (fun (r : Int32) (z9 : (Nat → Int32) × (Nat → Int32)) => r = nI (ise f u N)) (fun (z9 : (Nat → Int32) × (Nat → Int32)) t => va_P D vwCl (wM h b0 b1 b2 b3 b4 cy (nI 0) N (ch + nI (isc f u N cI N)) ds de (iso f u N) z9.1 z9.2 lf od) t.heap) A) ([.ref h, .int (nI u)] : List Value).toArray s 0 0 A) (F0 m 26 ls []) := by
    intro fu26
    induction fu26 with
    | zero =>
      intro i k f1 cs1 be1 ch1 H locs ls hi hf1 hk0 hch hfu26
      exact absurd hfu26 (Nat.not_lt_zero _)
    | succ fu26 ih26 =>
      intro i k f1 cs1 be1 ch1 H locs ls hi hf1 hk0 hch hfu26 hP hS hl
      have hD : va_D A (wM h b0 b1 b2 b3 b4 cy (nI 0) N ch1 ds de f1 cs1 be1 lf od) := zD hD rfl
      have hkb : k ≤ i := by rw [hk0]; exact fb_ct_le _ _
      refine lv_iload_n hx hb dX1_isolate_26 rfl (lv_at hl 0 rfl) ?_
      refine lv_aload_n hx hb dX1_isolate_27 rfl (lv_at hl 2 rfl) ?_
      refine va_get (D := D) (ci := 1) (v := .int (nI N)) (C := RX1) (T := TX1) (N := 10) hx hb hts hin hown hK hP 0 rfl rfl 1 (by decide) hf29 (fun _ h9 => h9) rfl dX1_isolate_28 ?_
      refine z_icmp_ge (tgt := 64) hx hb dX1_isolate_31 (by decide) (by omega) (by omega) (fun h31 => ?_) (fun h31 => ?_)
      · refine lv_iload_n hx hb dX1_isolate_64 rfl (lv_at hl 1 rfl) ?_
        exact W.iret (v := (nI k)) hx hb hr (fun t9 ht9 hW9 => ⟨⟨(nI k), (cs1, be1), rfl, (by rw [hk0, Nat.le_antisymm hi h31]), by show va_P D vwCl (wM h b0 b1 b2 b3 b4 cy (nI 0) N (ch + nI (isc f u N cI N)) ds de (iso f u N) cs1 be1 lf od) t9.heap; rw [ht9]; rw [hch, hf1, Nat.le_antisymm hi h31] at hP; exact hP⟩, hS.F ht9⟩) hS.2.2 dX1_isolate_65
      · refine lv_aload_n hx hb dX1_isolate_34 rfl (lv_at hl 2 rfl) ?_
        refine va_get (D := D) (ci := 1) (v := .ref b0) (C := RX1) (T := TX1) (N := 10) hx hb hts hin hown hK hP 0 rfl rfl 2 (by decide) hf7 (fun _ h9 => h9) rfl dX1_isolate_35 ?_
        refine lv_iload_n hx hb dX1_isolate_38 rfl (lv_at hl 3 rfl) ?_
        refine z_iald hx hb hK hP 1 0 rfl rfl (by omega) (by decide) dX1_isolate_39 ?_
        rw [show f1 u = iso f u i u by rw [hf1]]
        refine lv_iload_n hx hb dX1_isolate_40 rfl (lv_at hl 0 rfl) ?_
        refine zrS0 (As := [.int (iso f u i u), .int (nI i)]) (rest := []) ⟨hx, hb, hml, hown, hts⟩ (c_X1_has l (iso f u i u) i (by omega)) (va_cwS 2 hts gX1_isolate_X1_has rfl rfl rfl (by decide +kernel) ⟨Nat.le_of_ble_eq_true rfl, Nat.le_of_ble_eq_true rfl⟩) rfl hl rfl (Nat.le_of_ble_eq_true rfl) dX1_isolate_41 ⟨Nat.le_of_ble_eq_true rfl, Nat.le_of_ble_eq_true rfl⟩ hS (fun r41 H locs hw41 hk9 hS => ?_)
        obtain rfl : r41 = (zb (bt (iso f u i u) i)) := hw41
        have hP := zkeep hP hk9
        refine z_ifb_eq (tgt := 58) hx hb dX1_isolate_44 (by decide) (fun h44 => ?_) (fun h44 => ?_)
        · refine lv_iinc (v := (nI (i + 1))) (lv' := [(3, .int (nI (i + 1))), (2, .int (nI k)), (0, .ref h), (1, .int (nI u))]) hx hb dX1_isolate_58 hl (k := 0) rfl (nI_1 _) (by decide) rfl (fun ls hl => ?_)
          refine lv_goto (tgt := 26) hx hb dX1_isolate_61 (by decide) ?_
          exact ih26 (i + 1) k f1 cs1 be1 ch1 _ _ _ (by omega) (by rw [hf1]; exact iso_no h44) (ct_no hk0 h44) (by rw [hch, isc_no h44]) (by omega) hP hS (lv_sub hl [0, 1, 2, 3] rfl)
        · refine lv_aload_n hx hb dX1_isolate_47 rfl (lv_at hl 2 rfl) ?_
          refine lv_iload_n hx hb dX1_isolate_48 rfl (lv_at hl 3 rfl) ?_
          refine lv_iload_n hx hb dX1_isolate_49 rfl (lv_at hl 0 rfl) ?_
          refine zwVi (As := [.int (nI u), .int (nI i)]) (rest := []) 0 [0, 1, 2, 3, 4, 5] rfl ⟨hx, hb, hml, hown, hts⟩ (c_X1_turn l D cy h b0 b1 b2 b3 b4 (nI 0) N ch1 ds de f1 cs1 be1 lf od _ u i (cI i) (cI (i + 1)) hN (by rw [hf1]; exact hg i hi) (by rw [hf1]; exact hc i hi) (by rw [hf1, iso_yes h44]; exact hg (i + 1) (by omega)) (by rw [hf1, iso_yes h44]; exact hc (i + 1) (by omega)) hu (by omega)) (cwV 2 hts gX1_isolate_X1_turn rfl rfl rfl (by decide +kernel) ⟨Nat.le_of_ble_eq_true rfl, Nat.le_of_ble_eq_true rfl⟩) hK hP hD hA rfl rfl rfl hl rfl (Nat.le_of_ble_eq_true rfl) dX1_isolate_50 ⟨Nat.le_of_ble_eq_true rfl, Nat.le_of_ble_eq_true rfl⟩ hS (fun r50 u50 H locs hw50 hP hS => ?_)
          obtain ⟨cs_50, be_50⟩ := u50
          have hP : va_P D vwCl (wM h b0 b1 b2 b3 b4 cy (nI 0) N (ch1 + nI (chg (cI i) (cI (i + 1)) N)) ds de (tgl f1 u i) cs_50 be_50 lf od) H := hP
          have hD : va_D A (wM h b0 b1 b2 b3 b4 cy (nI 0) N (ch1 + nI (chg (cI i) (cI (i + 1)) N)) ds de (tgl f1 u i) cs_50 be_50 lf od) := zD hD rfl
          obtain rfl : r50 = (nI (chg (cI i) (cI (i + 1)) N)) := hw50
          refine lv_istore (lv' := [(4, .int (nI (chg (cI i) (cI (i + 1)) N))), (3, .int (nI i)), (2, .int (nI k)), (0, .ref h), (1, .int (nI u))]) hx hb dX1_isolate_53 hl (by decide) rfl (fun ls hl => ?_)
          refine lv_iinc (v := (nI (k + 1))) (lv' := [(2, .int (nI (k + 1))), (4, .int (nI (chg (cI i) (cI (i + 1)) N))), (3, .int (nI i)), (0, .ref h), (1, .int (nI u))]) hx hb dX1_isolate_55 hl (k := 2) rfl (nI_1 _) (by decide) rfl (fun ls hl => ?_)
          refine lv_iinc (v := (nI (i + 1))) (lv' := [(3, .int (nI (i + 1))), (2, .int (nI (k + 1))), (4, .int (nI (chg (cI i) (cI (i + 1)) N))), (0, .ref h), (1, .int (nI u))]) hx hb dX1_isolate_58 hl (k := 2) rfl (nI_1 _) (by decide) rfl (fun ls hl => ?_)
          refine lv_goto (tgt := 26) hx hb dX1_isolate_61 (by decide) ?_
          exact ih26 (i + 1) (k + 1) (tgl f1 u i) cs_50 be_50 (ch1 + nI (chg (cI i) (cI (i + 1)) N)) _ _ _ (by omega) (by rw [hf1]; exact iso_yes h44) (ct_yes hk0 h44) (by rw [hch, isc_yes h44, Int32.add_assoc, nI_add]) (by omega) hP hS (lv_sub hl [0, 1, 3, 4] rfl)
  exact K26 (N - 0 + 1) 0 0 f cs be ch _ _ _ (by omega) rfl rfl (by rw [show isc f u N cI 0 = 0 from rfl, nI_0, Int32.add_zero]) (Nat.lt_succ_self _) hP hS (lv_sub hl [0, 1, 2, 3] rfl)

set_option maxHeartbeats 4000000 in
set_option maxRecDepth 100000 in
theorem c_X1_isolate_bad (l : Launch) (D : va_G) (cy : ClassId) (h b0 b1 b2 b3 b4 : Nat) (th : Int32) (N : Nat) (ch ds de : Int32) (f cs be lf od : Nat → Int32) (sz : Nat) (q : Int32) (hq : isNb q N = false) : Met l yX1_isolate wsX1_isolate ({ frames := 4, cells := 0, slots := 0, locals := 93 } : Room) (va_Pc [.ref h, .int q] (zWr D (wM h b0 b1 b2 b3 b4 cy th N ch ds de f cs be lf od) [(cy, .int)] sz)) (va_Qi (fun (r : Int32) (z9 : Unit) => r = nI 0) (fun (z9 : Unit) t => va_P D vwCl (wM h b0 b1 b2 b3 b4 cy (nI 1) N ch ds de f cs be lf od) t.heap) (va_A (wM h b0 b1 b2 b3 b4 cy th N ch ds de f cs be lf od) sz)) 0 0 (va_A (wM h b0 b1 b2 b3 b4 cy th N ch ds de f cs be lf od) sz) := by
  refine Met.ofW (cc := cX1_isolate) (maxL := 5) (ret := (some .int)) (by decide) rfl ?_
  intro p e s m args below meth c s₁ B hml hv
  obtain ⟨rfl, hsz, hP, hK, hD0⟩ := hv
  have hx := B.exec
  have hb := B.bytes
  have hr := B.returns
  have hts := atoms_spec (ws := wsX1_isolate) B.pre
  have hown : s.vm.findClass RX1 = some m.cls := findClass_of_methodNamed B.named
  have hlocks := B.notSynchronized
  subst hsz
  have hD := hD0.self (sz := s.heap.size)
  generalize hAe : va_A (wM h b0 b1 b2 b3 b4 cy th N ch ds de f cs be lf od) s.heap.size = A at hD ⊢
  have hA : ∀ q : Nat, s.heap.size ≤ q → A q := fun q h => by rw [← hAe]; exact Or.inr h
  have hS : va_S A s.heap s.heap [] := va_S.rf
  have hin : ∀ w ∈ wsX10, w ∈ wsX1_isolate := by decide +kernel
  have hf7 := hts (.fieldLink RX1 7 "CorebarnModel" "near" "[I") (by decide +kernel)
  have hf29 := hts (.fieldLink RX1 29 "CorebarnModel" "many" "I") (by decide +kernel)
  have hl := lv_entry ([.ref h, .int q]) (n := 5) (Nat.le_of_ble_eq_true rfl)
  rw [lg_entry_eq]
  generalize (lg_sl ([.ref h, .int q]) ++ List.replicate (5 - (lg_sl ([.ref h, .int q])).length) Slot.unset).toArray = ls at hl ⊢
  have hl : lv_has ls 5 [(0, .ref h), (1, .int q)] := hl
  refine lv_aload_n hx hb dX1_isolate_0 rfl (lv_at hl 0 rfl) ?_
  refine lv_aload_n hx hb dX1_isolate_1 rfl (lv_at hl 0 rfl) ?_
  refine lv_iload_n hx hb dX1_isolate_2 rfl (lv_at hl 1 rfl) ?_
  refine zrV (As := [.int q]) (rest := [.ref h]) 0 ⟨hx, hb, hml, hown, hts⟩ (c_X1_isNode l D cy h b0 b1 b2 b3 b4 th N ch ds de f cs be lf od q) (cwV 1 hts gX1_isolate_X1_isNode rfl rfl rfl (by decide +kernel) ⟨Nat.le_of_ble_eq_true rfl, Nat.le_of_ble_eq_true rfl⟩) hK hP rfl rfl rfl hl rfl (Nat.le_of_ble_eq_true rfl) dX1_isolate_3 ⟨Nat.le_of_ble_eq_true rfl, Nat.le_of_ble_eq_true rfl⟩ hS (fun r3 H locs hw3 hk9 hS => ?_)
  obtain rfl : r3 = (zb (isNb q N)) := hw3
  have hP := zkeep hP hk9
  rw [hq]
  refine z_ifb_false (tgt := 13) hx hb dX1_isolate_6 (by decide) ?_
  refine lv_iconst (v := (nI 1)) hx hb dX1_isolate_13 (by decide) ?_
  refine zwVi (As := [.int (nI 1)]) (rest := []) 0 [0, 1, 2, 3, 4, 5] rfl ⟨hx, hb, hml, hown, hts⟩ (c_X1_goesWell l D cy h b0 b1 b2 b3 b4 th N ch ds de f cs be lf od _ 1 (by omega)) (cwV 1 hts gX1_isolate_X1_goesWell rfl rfl rfl (by decide +kernel) ⟨Nat.le_of_ble_eq_true rfl, Nat.le_of_ble_eq_true rfl⟩) hK hP hD hA rfl rfl rfl hl rfl (Nat.le_of_ble_eq_true rfl) dX1_isolate_14 ⟨Nat.le_of_ble_eq_true rfl, Nat.le_of_ble_eq_true rfl⟩ hS (fun r14 u14 H locs hw14 hP hS => ?_)
  have hP : va_P D vwCl (wM h b0 b1 b2 b3 b4 cy (nI 1) N ch ds de f cs be lf od) H := hP
  have hD : va_D A (wM h b0 b1 b2 b3 b4 cy (nI 1) N ch ds de f cs be lf od) := zD hD rfl
  obtain rfl : r14 = (zb false) := hw14
  refine z_ifb_false_ne (tgt := 22) hx hb dX1_isolate_17 (by decide) ?_
  refine lv_iconst (v := (nI 0)) hx hb dX1_isolate_20 (by decide) ?_
  exact W.iret (v := (nI 0)) hx hb hr (fun t9 ht9 hW9 => ⟨⟨(nI 0), (), rfl, rfl, by show va_P D vwCl (wM h b0 b1 b2 b3 b4 cy (nI 1) N ch ds de f cs be lf od) t9.heap; rw [ht9]; exact hP⟩, hS.F ht9⟩) hS.2.2 dX1_isolate_21

set_option maxHeartbeats 4000000 in
set_option maxRecDepth 100000 in
theorem c_X1_nodes (l : Launch) (D : va_G) (cy : ClassId) (h b0 b1 b2 b3 b4 : Nat) (th : Int32) (N : Nat) (ch ds de : Int32) (f cs be lf od : Nat → Int32) (sz : Nat)  : Met l yX1_nodes wsX1_nodes ({ frames := 0, cells := 0, slots := 0, locals := 0 } : Room) (va_Pc [.ref h] (zWr D (wM h b0 b1 b2 b3 b4 cy th N ch ds de f cs be lf od) [(cy, .int)] sz)) (va_Qi (fun (r : Int32) (z9 : Unit) => r = nI N) (fun (z9 : Unit) t => va_P D vwCl (wM h b0 b1 b2 b3 b4 cy (nI 0) N ch ds de f cs be lf od) t.heap) (va_A (wM h b0 b1 b2 b3 b4 cy th N ch ds de f cs be lf od) sz)) 0 0 (va_A (wM h b0 b1 b2 b3 b4 cy th N ch ds de f cs be lf od) sz) := by
  refine Met.ofW (cc := cX1_nodes) (maxL := 1) (ret := (some .int)) (by decide) rfl ?_
  intro p e s m args below meth c s₁ B hml hv
  obtain ⟨rfl, hsz, hP, hK, hD0⟩ := hv
  have hx := B.exec
  have hb := B.bytes
  have hr := B.returns
  have hts := atoms_spec (ws := wsX1_nodes) B.pre
  have hown : s.vm.findClass RX1 = some m.cls := findClass_of_methodNamed B.named
  have hlocks := B.notSynchronized
  subst hsz
  have hD := hD0.self (sz := s.heap.size)
  generalize hAe : va_A (wM h b0 b1 b2 b3 b4 cy th N ch ds de f cs be lf od) s.heap.size = A at hD ⊢
  have hA : ∀ q : Nat, s.heap.size ≤ q → A q := fun q h => by rw [← hAe]; exact Or.inr h
  have hS : va_S A s.heap s.heap [] := va_S.rf
  have hin : ∀ w ∈ wsX10, w ∈ wsX1_nodes := by decide +kernel
  have hf25 := hts (.fieldLink RX1 25 "CorebarnModel" "thrown" "I") (by decide +kernel)
  have hf29 := hts (.fieldLink RX1 29 "CorebarnModel" "many" "I") (by decide +kernel)
  have hl := lv_entry ([.ref h]) (n := 1) (Nat.le_of_ble_eq_true rfl)
  rw [lg_entry_eq]
  generalize (lg_sl ([.ref h]) ++ List.replicate (1 - (lg_sl ([.ref h])).length) Slot.unset).toArray = ls at hl ⊢
  have hl : lv_has ls 1 [(0, .ref h)] := hl
  refine lv_aload_n hx hb dX1_nodes_0 rfl (lv_at hl 0 rfl) ?_
  refine lv_iconst (v := (nI 0)) hx hb dX1_nodes_1 (by decide) ?_
  refine va_put (D := D) (ci := 1) (v := .int (nI 0)) (ty := .int) (C := RX1) (T := TX1) (N := 10) hx hb hts hin tyX1 tyX1_ok nmX1 hown hK hP hD hS 0 rfl rfl 0 (by decide) hf25 (fun _ h9 => h9) rfl (by decide +kernel) rfl rfl (Nat.le_of_ble_eq_true rfl) dX1_nodes_2 (fun H locs hP hD hS => ?_)
  have hP : va_P D vwCl (wM h b0 b1 b2 b3 b4 cy (nI 0) N ch ds de f cs be lf od) H := hP
  have hD : va_D A (wM h b0 b1 b2 b3 b4 cy (nI 0) N ch ds de f cs be lf od) := hD
  refine lv_aload_n hx hb dX1_nodes_5 rfl (lv_at hl 0 rfl) ?_
  refine va_get (D := D) (ci := 1) (v := .int (nI N)) (C := RX1) (T := TX1) (N := 10) hx hb hts hin hown hK hP 0 rfl rfl 1 (by decide) hf29 (fun _ h9 => h9) rfl dX1_nodes_6 ?_
  exact W.iret (v := (nI N)) hx hb hr (fun t9 ht9 hW9 => ⟨⟨(nI N), (), rfl, rfl, by show va_P D vwCl (wM h b0 b1 b2 b3 b4 cy (nI 0) N ch ds de f cs be lf od) t9.heap; rw [ht9]; exact hP⟩, hS.F ht9⟩) hS.2.2 dX1_nodes_9

set_option maxHeartbeats 4000000 in
set_option maxRecDepth 100000 in
theorem c_X1_edges (l : Launch) (D : va_G) (cy : ClassId) (h b0 b1 b2 b3 b4 : Nat) (th : Int32) (N : Nat) (ch ds de : Int32) (f cs be lf od : Nat → Int32) (sz : Nat) (hN : N ≤ 20) (hg : gd f N) : Met l yX1_edges wsX1_edges ({ frames := 2, cells := 0, slots := 0, locals := 45 } : Room) (va_Pc [.ref h] (zWr D (wM h b0 b1 b2 b3 b4 cy th N ch ds de f cs be lf od) [(cy, .int)] sz)) (va_Qi (fun (r : Int32) (z9 : Unit) => r = nI (ewn f N (zal N))) (fun (z9 : Unit) t => va_P D vwCl (wM h b0 b1 b2 b3 b4 cy (nI 0) N ch ds de f cs be lf od) t.heap) (va_A (wM h b0 b1 b2 b3 b4 cy th N ch ds de f cs be lf od) sz)) 0 0 (va_A (wM h b0 b1 b2 b3 b4 cy th N ch ds de f cs be lf od) sz) := by
  refine Met.ofW (cc := cX1_edges) (maxL := 1) (ret := (some .int)) (by decide) rfl ?_
  intro p e s m args below meth c s₁ B hml hv
  obtain ⟨rfl, hsz, hP, hK, hD0⟩ := hv
  have hx := B.exec
  have hb := B.bytes
  have hr := B.returns
  have hts := atoms_spec (ws := wsX1_edges) B.pre
  have hown : s.vm.findClass RX1 = some m.cls := findClass_of_methodNamed B.named
  have hlocks := B.notSynchronized
  subst hsz
  have hD := hD0.self (sz := s.heap.size)
  generalize hAe : va_A (wM h b0 b1 b2 b3 b4 cy th N ch ds de f cs be lf od) s.heap.size = A at hD ⊢
  have hA : ∀ q : Nat, s.heap.size ≤ q → A q := fun q h => by rw [← hAe]; exact Or.inr h
  have hS : va_S A s.heap s.heap [] := va_S.rf
  have hin : ∀ w ∈ wsX10, w ∈ wsX1_edges := by decide +kernel
  have hf25 := hts (.fieldLink RX1 25 "CorebarnModel" "thrown" "I") (by decide +kernel)
  have hl := lv_entry ([.ref h]) (n := 1) (Nat.le_of_ble_eq_true rfl)
  rw [lg_entry_eq]
  generalize (lg_sl ([.ref h]) ++ List.replicate (1 - (lg_sl ([.ref h])).length) Slot.unset).toArray = ls at hl ⊢
  have hl : lv_has ls 1 [(0, .ref h)] := hl
  refine lv_aload_n hx hb dX1_edges_0 rfl (lv_at hl 0 rfl) ?_
  refine lv_iconst (v := (nI 0)) hx hb dX1_edges_1 (by decide) ?_
  refine va_put (D := D) (ci := 1) (v := .int (nI 0)) (ty := .int) (C := RX1) (T := TX1) (N := 10) hx hb hts hin tyX1 tyX1_ok nmX1 hown hK hP hD hS 0 rfl rfl 0 (by decide) hf25 (fun _ h9 => h9) rfl (by decide +kernel) rfl rfl (Nat.le_of_ble_eq_true rfl) dX1_edges_2 (fun H locs hP hD hS => ?_)
  have hP : va_P D vwCl (wM h b0 b1 b2 b3 b4 cy (nI 0) N ch ds de f cs be lf od) H := hP
  have hD : va_D A (wM h b0 b1 b2 b3 b4 cy (nI 0) N ch ds de f cs be lf od) := hD
  refine lv_aload_n hx hb dX1_edges_5 rfl (lv_at hl 0 rfl) ?_
  refine lv_aload_n hx hb dX1_edges_6 rfl (lv_at hl 0 rfl) ?_
  refine zrV (As := []) (rest := [.ref h]) 0 ⟨hx, hb, hml, hown, hts⟩ (c_X1_all l D cy h b0 b1 b2 b3 b4 (nI 0) N ch ds de f cs be lf od ) (cwV 0 hts gX1_edges_X1_all rfl rfl rfl (by decide +kernel) ⟨Nat.le_of_ble_eq_true rfl, Nat.le_of_ble_eq_true rfl⟩) hK hP rfl rfl rfl hl rfl (Nat.le_of_ble_eq_true rfl) dX1_edges_7 ⟨Nat.le_of_ble_eq_true rfl, Nat.le_of_ble_eq_true rfl⟩ hS (fun r7 H locs hw7 hk9 hS => ?_)
  obtain rfl : r7 = zal N := hw7
  have hP := zkeep hP hk9
  refine zrV (As := [.int (zal N)]) (rest := []) 0 ⟨hx, hb, hml, hown, hts⟩ (c_X1_edgesOf l D cy h b0 b1 b2 b3 b4 (nI 0) N ch ds de f cs be lf od (zal N) hN hg) (cwV 1 hts gX1_edges_X1_edgesOf rfl rfl rfl (by decide +kernel) ⟨Nat.le_of_ble_eq_true rfl, Nat.le_of_ble_eq_true rfl⟩) hK hP rfl rfl rfl hl rfl (Nat.le_of_ble_eq_true rfl) dX1_edges_10 ⟨Nat.le_of_ble_eq_true rfl, Nat.le_of_ble_eq_true rfl⟩ hS (fun r10 H locs hw10 hk9 hS => ?_)
  obtain rfl : r10 = (nI (ewn f N (zal N))) := hw10
  have hP := zkeep hP hk9
  exact W.iret (v := (nI (ewn f N (zal N)))) hx hb hr (fun t9 ht9 hW9 => ⟨⟨(nI (ewn f N (zal N))), (), rfl, rfl, by show va_P D vwCl (wM h b0 b1 b2 b3 b4 cy (nI 0) N ch ds de f cs be lf od) t9.heap; rw [ht9]; exact hP⟩, hS.F ht9⟩) hS.2.2 dX1_edges_13

set_option maxHeartbeats 4000000 in
set_option maxRecDepth 100000 in
theorem c_X1_changes (l : Launch) (D : va_G) (cy : ClassId) (h b0 b1 b2 b3 b4 : Nat) (th : Int32) (N : Nat) (ch ds de : Int32) (f cs be lf od : Nat → Int32) (sz : Nat)  : Met l yX1_changes wsX1_changes ({ frames := 0, cells := 0, slots := 0, locals := 0 } : Room) (va_Pc [.ref h] (zWr D (wM h b0 b1 b2 b3 b4 cy th N ch ds de f cs be lf od) [(cy, .int)] sz)) (va_Qi (fun (r : Int32) (z9 : Unit) => r = ch) (fun (z9 : Unit) t => va_P D vwCl (wM h b0 b1 b2 b3 b4 cy (nI 0) N ch ds de f cs be lf od) t.heap) (va_A (wM h b0 b1 b2 b3 b4 cy th N ch ds de f cs be lf od) sz)) 0 0 (va_A (wM h b0 b1 b2 b3 b4 cy th N ch ds de f cs be lf od) sz) := by
  refine Met.ofW (cc := cX1_changes) (maxL := 1) (ret := (some .int)) (by decide) rfl ?_
  intro p e s m args below meth c s₁ B hml hv
  obtain ⟨rfl, hsz, hP, hK, hD0⟩ := hv
  have hx := B.exec
  have hb := B.bytes
  have hr := B.returns
  have hts := atoms_spec (ws := wsX1_changes) B.pre
  have hown : s.vm.findClass RX1 = some m.cls := findClass_of_methodNamed B.named
  have hlocks := B.notSynchronized
  subst hsz
  have hD := hD0.self (sz := s.heap.size)
  generalize hAe : va_A (wM h b0 b1 b2 b3 b4 cy th N ch ds de f cs be lf od) s.heap.size = A at hD ⊢
  have hA : ∀ q : Nat, s.heap.size ≤ q → A q := fun q h => by rw [← hAe]; exact Or.inr h
  have hS : va_S A s.heap s.heap [] := va_S.rf
  have hin : ∀ w ∈ wsX10, w ∈ wsX1_changes := by decide +kernel
  have hf25 := hts (.fieldLink RX1 25 "CorebarnModel" "thrown" "I") (by decide +kernel)
  have hf54 := hts (.fieldLink RX1 54 "CorebarnModel" "changed" "I") (by decide +kernel)
  have hl := lv_entry ([.ref h]) (n := 1) (Nat.le_of_ble_eq_true rfl)
  rw [lg_entry_eq]
  generalize (lg_sl ([.ref h]) ++ List.replicate (1 - (lg_sl ([.ref h])).length) Slot.unset).toArray = ls at hl ⊢
  have hl : lv_has ls 1 [(0, .ref h)] := hl
  refine lv_aload_n hx hb dX1_changes_0 rfl (lv_at hl 0 rfl) ?_
  refine lv_iconst (v := (nI 0)) hx hb dX1_changes_1 (by decide) ?_
  refine va_put (D := D) (ci := 1) (v := .int (nI 0)) (ty := .int) (C := RX1) (T := TX1) (N := 10) hx hb hts hin tyX1 tyX1_ok nmX1 hown hK hP hD hS 0 rfl rfl 0 (by decide) hf25 (fun _ h9 => h9) rfl (by decide +kernel) rfl rfl (Nat.le_of_ble_eq_true rfl) dX1_changes_2 (fun H locs hP hD hS => ?_)
  have hP : va_P D vwCl (wM h b0 b1 b2 b3 b4 cy (nI 0) N ch ds de f cs be lf od) H := hP
  have hD : va_D A (wM h b0 b1 b2 b3 b4 cy (nI 0) N ch ds de f cs be lf od) := hD
  refine lv_aload_n hx hb dX1_changes_5 rfl (lv_at hl 0 rfl) ?_
  refine va_get (D := D) (ci := 1) (v := .int ch) (C := RX1) (T := TX1) (N := 10) hx hb hts hin hown hK hP 0 rfl rfl 3 (by decide) hf54 (fun _ h9 => h9) rfl dX1_changes_6 ?_
  exact W.iret (v := ch) hx hb hr (fun t9 ht9 hW9 => ⟨⟨ch, (), rfl, rfl, by show va_P D vwCl (wM h b0 b1 b2 b3 b4 cy (nI 0) N ch ds de f cs be lf od) t9.heap; rw [ht9]; exact hP⟩, hS.F ht9⟩) hS.2.2 dX1_changes_9

set_option maxHeartbeats 4000000 in
set_option maxRecDepth 100000 in
theorem c_X1_degree_ok (l : Launch) (D : va_G) (cy : ClassId) (h b0 b1 b2 b3 b4 : Nat) (th : Int32) (N : Nat) (ch ds de : Int32) (f cs be lf od : Nat → Int32) (sz : Nat) (u : Nat) (hg : gd f N) (hu : u < N) : Met l yX1_degree wsX1_degree ({ frames := 1, cells := 0, slots := 0, locals := 22 } : Room) (va_Pc [.ref h, .int (nI u)] (zWr D (wM h b0 b1 b2 b3 b4 cy th N ch ds de f cs be lf od) [(cy, .int)] sz)) (va_Qi (fun (r : Int32) (z9 : Unit) => r = nI (zpop (f u))) (fun (z9 : Unit) t => va_P D vwCl (wM h b0 b1 b2 b3 b4 cy (nI 0) N ch ds de f cs be lf od) t.heap) (va_A (wM h b0 b1 b2 b3 b4 cy th N ch ds de f cs be lf od) sz)) 0 0 (va_A (wM h b0 b1 b2 b3 b4 cy th N ch ds de f cs be lf od) sz) := by
  refine Met.ofW (cc := cX1_degree) (maxL := 2) (ret := (some .int)) (by decide) rfl ?_
  intro p e s m args below meth c s₁ B hml hv
  obtain ⟨rfl, hsz, hP, hK, hD0⟩ := hv
  have hx := B.exec
  have hb := B.bytes
  have hr := B.returns
  have hts := atoms_spec (ws := wsX1_degree) B.pre
  have hown : s.vm.findClass RX1 = some m.cls := findClass_of_methodNamed B.named
  have hlocks := B.notSynchronized
  subst hsz
  have hD := hD0.self (sz := s.heap.size)
  generalize hAe : va_A (wM h b0 b1 b2 b3 b4 cy th N ch ds de f cs be lf od) s.heap.size = A at hD ⊢
  have hA : ∀ q : Nat, s.heap.size ≤ q → A q := fun q h => by rw [← hAe]; exact Or.inr h
  have hS : va_S A s.heap s.heap [] := va_S.rf
  have hin : ∀ w ∈ wsX10, w ∈ wsX1_degree := by decide +kernel
  have hf7 := hts (.fieldLink RX1 7 "CorebarnModel" "near" "[I") (by decide +kernel)
  have hN := hg.1
  have hl := lv_entry ([.ref h, .int (nI u)]) (n := 2) (Nat.le_of_ble_eq_true rfl)
  rw [lg_entry_eq]
  generalize (lg_sl ([.ref h, .int (nI u)]) ++ List.replicate (2 - (lg_sl ([.ref h, .int (nI u)])).length) Slot.unset).toArray = ls at hl ⊢
  have hl : lv_has ls 2 [(0, .ref h), (1, .int (nI u))] := hl
  refine lv_aload_n hx hb dX1_degree_0 rfl (lv_at hl 0 rfl) ?_
  refine lv_aload_n hx hb dX1_degree_1 rfl (lv_at hl 0 rfl) ?_
  refine lv_iload_n hx hb dX1_degree_2 rfl (lv_at hl 1 rfl) ?_
  refine zrV (As := [.int (nI u)]) (rest := [.ref h]) 0 ⟨hx, hb, hml, hown, hts⟩ (c_X1_isNode l D cy h b0 b1 b2 b3 b4 th N ch ds de f cs be lf od (nI u)) (cwV 1 hts gX1_degree_X1_isNode rfl rfl rfl (by decide +kernel) ⟨Nat.le_of_ble_eq_true rfl, Nat.le_of_ble_eq_true rfl⟩) hK hP rfl rfl rfl hl rfl (Nat.le_of_ble_eq_true rfl) dX1_degree_3 ⟨Nat.le_of_ble_eq_true rfl, Nat.le_of_ble_eq_true rfl⟩ hS (fun r3 H locs hw3 hk9 hS => ?_)
  obtain rfl : r3 = (zb (isNb (nI u) N)) := hw3
  have hP := zkeep hP hk9
  rw [isNb_y hu hN]
  refine z_ifb_true (tgt := 13) hx hb dX1_degree_6 (by decide) ?_
  refine lv_iconst (v := (nI 0)) hx hb dX1_degree_9 (by decide) ?_
  refine lv_goto (tgt := 14) hx hb dX1_degree_10 (by decide) ?_
  refine zwVi (As := [.int (nI 0)]) (rest := []) 0 [0, 1, 2, 3, 4, 5] rfl ⟨hx, hb, hml, hown, hts⟩ (c_X1_goesWell l D cy h b0 b1 b2 b3 b4 th N ch ds de f cs be lf od _ 0 (by omega)) (cwV 1 hts gX1_degree_X1_goesWell rfl rfl rfl (by decide +kernel) ⟨Nat.le_of_ble_eq_true rfl, Nat.le_of_ble_eq_true rfl⟩) hK hP hD hA rfl rfl rfl hl rfl (Nat.le_of_ble_eq_true rfl) dX1_degree_14 ⟨Nat.le_of_ble_eq_true rfl, Nat.le_of_ble_eq_true rfl⟩ hS (fun r14 u14 H locs hw14 hP hS => ?_)
  have hP : va_P D vwCl (wM h b0 b1 b2 b3 b4 cy (nI 0) N ch ds de f cs be lf od) H := hP
  have hD : va_D A (wM h b0 b1 b2 b3 b4 cy (nI 0) N ch ds de f cs be lf od) := zD hD rfl
  obtain rfl : r14 = (zb true) := hw14
  refine z_ifb_true (tgt := 32) hx hb dX1_degree_17 (by decide) ?_
  refine lv_aload_n hx hb dX1_degree_20 rfl (lv_at hl 0 rfl) ?_
  refine va_get (D := D) (ci := 1) (v := .ref b0) (C := RX1) (T := TX1) (N := 10) hx hb hts hin hown hK hP 0 rfl rfl 2 (by decide) hf7 (fun _ h9 => h9) rfl dX1_degree_21 ?_
  refine lv_iload_n hx hb dX1_degree_24 rfl (lv_at hl 1 rfl) ?_
  refine z_iald hx hb hK hP 1 0 rfl rfl (by omega) (by decide) dX1_degree_25 ?_
  refine zrS0 (As := [.int (f u)]) (rest := []) ⟨hx, hb, hml, hown, hts⟩ (c_X1_sizeOf l (f u) (zsub20 hN (gd_sub hg hu))) (va_cwS 1 hts gX1_degree_X1_sizeOf rfl rfl rfl (by decide +kernel) ⟨Nat.le_of_ble_eq_true rfl, Nat.le_of_ble_eq_true rfl⟩) rfl hl rfl (Nat.le_of_ble_eq_true rfl) dX1_degree_26 ⟨Nat.le_of_ble_eq_true rfl, Nat.le_of_ble_eq_true rfl⟩ hS (fun r26 H locs hw26 hk9 hS => ?_)
  obtain rfl : r26 = (nI (zpop (f u))) := hw26
  have hP := zkeep hP hk9
  refine lv_goto (tgt := 33) hx hb dX1_degree_29 (by decide) ?_
  exact W.iret (v := (nI (zpop (f u)))) hx hb hr (fun t9 ht9 hW9 => ⟨⟨(nI (zpop (f u))), (), rfl, rfl, by show va_P D vwCl (wM h b0 b1 b2 b3 b4 cy (nI 0) N ch ds de f cs be lf od) t9.heap; rw [ht9]; exact hP⟩, hS.F ht9⟩) hS.2.2 dX1_degree_33

set_option maxHeartbeats 4000000 in
set_option maxRecDepth 100000 in
theorem c_X1_degree_bad (l : Launch) (D : va_G) (cy : ClassId) (h b0 b1 b2 b3 b4 : Nat) (th : Int32) (N : Nat) (ch ds de : Int32) (f cs be lf od : Nat → Int32) (sz : Nat) (q : Int32) (hq : isNb q N = false) : Met l yX1_degree wsX1_degree ({ frames := 1, cells := 0, slots := 0, locals := 22 } : Room) (va_Pc [.ref h, .int q] (zWr D (wM h b0 b1 b2 b3 b4 cy th N ch ds de f cs be lf od) [(cy, .int)] sz)) (va_Qi (fun (r : Int32) (z9 : Unit) => r = nI 0) (fun (z9 : Unit) t => va_P D vwCl (wM h b0 b1 b2 b3 b4 cy (nI 1) N ch ds de f cs be lf od) t.heap) (va_A (wM h b0 b1 b2 b3 b4 cy th N ch ds de f cs be lf od) sz)) 0 0 (va_A (wM h b0 b1 b2 b3 b4 cy th N ch ds de f cs be lf od) sz) := by
  refine Met.ofW (cc := cX1_degree) (maxL := 2) (ret := (some .int)) (by decide) rfl ?_
  intro p e s m args below meth c s₁ B hml hv
  obtain ⟨rfl, hsz, hP, hK, hD0⟩ := hv
  have hx := B.exec
  have hb := B.bytes
  have hr := B.returns
  have hts := atoms_spec (ws := wsX1_degree) B.pre
  have hown : s.vm.findClass RX1 = some m.cls := findClass_of_methodNamed B.named
  have hlocks := B.notSynchronized
  subst hsz
  have hD := hD0.self (sz := s.heap.size)
  generalize hAe : va_A (wM h b0 b1 b2 b3 b4 cy th N ch ds de f cs be lf od) s.heap.size = A at hD ⊢
  have hA : ∀ q : Nat, s.heap.size ≤ q → A q := fun q h => by rw [← hAe]; exact Or.inr h
  have hS : va_S A s.heap s.heap [] := va_S.rf
  have hin : ∀ w ∈ wsX10, w ∈ wsX1_degree := by decide +kernel
  have hf7 := hts (.fieldLink RX1 7 "CorebarnModel" "near" "[I") (by decide +kernel)
  have hl := lv_entry ([.ref h, .int q]) (n := 2) (Nat.le_of_ble_eq_true rfl)
  rw [lg_entry_eq]
  generalize (lg_sl ([.ref h, .int q]) ++ List.replicate (2 - (lg_sl ([.ref h, .int q])).length) Slot.unset).toArray = ls at hl ⊢
  have hl : lv_has ls 2 [(0, .ref h), (1, .int q)] := hl
  refine lv_aload_n hx hb dX1_degree_0 rfl (lv_at hl 0 rfl) ?_
  refine lv_aload_n hx hb dX1_degree_1 rfl (lv_at hl 0 rfl) ?_
  refine lv_iload_n hx hb dX1_degree_2 rfl (lv_at hl 1 rfl) ?_
  refine zrV (As := [.int q]) (rest := [.ref h]) 0 ⟨hx, hb, hml, hown, hts⟩ (c_X1_isNode l D cy h b0 b1 b2 b3 b4 th N ch ds de f cs be lf od q) (cwV 1 hts gX1_degree_X1_isNode rfl rfl rfl (by decide +kernel) ⟨Nat.le_of_ble_eq_true rfl, Nat.le_of_ble_eq_true rfl⟩) hK hP rfl rfl rfl hl rfl (Nat.le_of_ble_eq_true rfl) dX1_degree_3 ⟨Nat.le_of_ble_eq_true rfl, Nat.le_of_ble_eq_true rfl⟩ hS (fun r3 H locs hw3 hk9 hS => ?_)
  obtain rfl : r3 = (zb (isNb q N)) := hw3
  have hP := zkeep hP hk9
  rw [hq]
  refine z_ifb_false (tgt := 13) hx hb dX1_degree_6 (by decide) ?_
  refine lv_iconst (v := (nI 1)) hx hb dX1_degree_13 (by decide) ?_
  refine zwVi (As := [.int (nI 1)]) (rest := []) 0 [0, 1, 2, 3, 4, 5] rfl ⟨hx, hb, hml, hown, hts⟩ (c_X1_goesWell l D cy h b0 b1 b2 b3 b4 th N ch ds de f cs be lf od _ 1 (by omega)) (cwV 1 hts gX1_degree_X1_goesWell rfl rfl rfl (by decide +kernel) ⟨Nat.le_of_ble_eq_true rfl, Nat.le_of_ble_eq_true rfl⟩) hK hP hD hA rfl rfl rfl hl rfl (Nat.le_of_ble_eq_true rfl) dX1_degree_14 ⟨Nat.le_of_ble_eq_true rfl, Nat.le_of_ble_eq_true rfl⟩ hS (fun r14 u14 H locs hw14 hP hS => ?_)
  have hP : va_P D vwCl (wM h b0 b1 b2 b3 b4 cy (nI 1) N ch ds de f cs be lf od) H := hP
  have hD : va_D A (wM h b0 b1 b2 b3 b4 cy (nI 1) N ch ds de f cs be lf od) := zD hD rfl
  obtain rfl : r14 = (zb false) := hw14
  refine z_ifb_false (tgt := 32) hx hb dX1_degree_17 (by decide) ?_
  refine lv_iconst (v := (nI 0)) hx hb dX1_degree_32 (by decide) ?_
  exact W.iret (v := (nI 0)) hx hb hr (fun t9 ht9 hW9 => ⟨⟨(nI 0), (), rfl, rfl, by show va_P D vwCl (wM h b0 b1 b2 b3 b4 cy (nI 1) N ch ds de f cs be lf od) t9.heap; rw [ht9]; exact hP⟩, hS.F ht9⟩) hS.2.2 dX1_degree_33

set_option maxHeartbeats 4000000 in
set_option maxRecDepth 100000 in
theorem c_X1_core_bad (l : Launch) (D : va_G) (cy : ClassId) (h b0 b1 b2 b3 b4 : Nat) (th : Int32) (N : Nat) (ch ds de : Int32) (f cs be lf od : Nat → Int32) (sz : Nat) (q : Int32) (hq : isNb q N = false) : Met l yX1_core wsX1_core ({ frames := 3, cells := 0, slots := 0, locals := 69 } : Room) (va_Pc [.ref h, .int q] (zWr D (wM h b0 b1 b2 b3 b4 cy th N ch ds de f cs be lf od) [(cy, .int)] sz)) (va_Qi (fun (r : Int32) (z9 : Unit) => r = nI 0) (fun (z9 : Unit) t => va_P D vwCl (wM h b0 b1 b2 b3 b4 cy (nI 1) N ch ds de f cs be lf od) t.heap) (va_A (wM h b0 b1 b2 b3 b4 cy th N ch ds de f cs be lf od) sz)) 0 0 (va_A (wM h b0 b1 b2 b3 b4 cy th N ch ds de f cs be lf od) sz) := by
  refine Met.ofW (cc := cX1_core) (maxL := 2) (ret := (some .int)) (by decide) rfl ?_
  intro p e s m args below meth c s₁ B hml hv
  obtain ⟨rfl, hsz, hP, hK, hD0⟩ := hv
  have hx := B.exec
  have hb := B.bytes
  have hr := B.returns
  have hts := atoms_spec (ws := wsX1_core) B.pre
  have hown : s.vm.findClass RX1 = some m.cls := findClass_of_methodNamed B.named
  have hlocks := B.notSynchronized
  subst hsz
  have hD := hD0.self (sz := s.heap.size)
  generalize hAe : va_A (wM h b0 b1 b2 b3 b4 cy th N ch ds de f cs be lf od) s.heap.size = A at hD ⊢
  have hA : ∀ q : Nat, s.heap.size ≤ q → A q := fun q h => by rw [← hAe]; exact Or.inr h
  have hS : va_S A s.heap s.heap [] := va_S.rf
  have hin : ∀ w ∈ wsX10, w ∈ wsX1_core := by decide +kernel
  have hf13 := hts (.fieldLink RX1 13 "CorebarnModel" "cores" "[I") (by decide +kernel)
  have hl := lv_entry ([.ref h, .int q]) (n := 2) (Nat.le_of_ble_eq_true rfl)
  rw [lg_entry_eq]
  generalize (lg_sl ([.ref h, .int q]) ++ List.replicate (2 - (lg_sl ([.ref h, .int q])).length) Slot.unset).toArray = ls at hl ⊢
  have hl : lv_has ls 2 [(0, .ref h), (1, .int q)] := hl
  refine lv_aload_n hx hb dX1_core_0 rfl (lv_at hl 0 rfl) ?_
  refine lv_aload_n hx hb dX1_core_1 rfl (lv_at hl 0 rfl) ?_
  refine lv_iload_n hx hb dX1_core_2 rfl (lv_at hl 1 rfl) ?_
  refine zrV (As := [.int q]) (rest := [.ref h]) 0 ⟨hx, hb, hml, hown, hts⟩ (c_X1_isNode l D cy h b0 b1 b2 b3 b4 th N ch ds de f cs be lf od q) (cwV 1 hts gX1_core_X1_isNode rfl rfl rfl (by decide +kernel) ⟨Nat.le_of_ble_eq_true rfl, Nat.le_of_ble_eq_true rfl⟩) hK hP rfl rfl rfl hl rfl (Nat.le_of_ble_eq_true rfl) dX1_core_3 ⟨Nat.le_of_ble_eq_true rfl, Nat.le_of_ble_eq_true rfl⟩ hS (fun r3 H locs hw3 hk9 hS => ?_)
  obtain rfl : r3 = (zb (isNb q N)) := hw3
  have hP := zkeep hP hk9
  rw [hq]
  refine z_ifb_false (tgt := 13) hx hb dX1_core_6 (by decide) ?_
  refine lv_iconst (v := (nI 1)) hx hb dX1_core_13 (by decide) ?_
  refine zwVi (As := [.int (nI 1)]) (rest := []) 0 [0, 1, 2, 3, 4, 5] rfl ⟨hx, hb, hml, hown, hts⟩ (c_X1_goesWell l D cy h b0 b1 b2 b3 b4 th N ch ds de f cs be lf od _ 1 (by omega)) (cwV 1 hts gX1_core_X1_goesWell rfl rfl rfl (by decide +kernel) ⟨Nat.le_of_ble_eq_true rfl, Nat.le_of_ble_eq_true rfl⟩) hK hP hD hA rfl rfl rfl hl rfl (Nat.le_of_ble_eq_true rfl) dX1_core_14 ⟨Nat.le_of_ble_eq_true rfl, Nat.le_of_ble_eq_true rfl⟩ hS (fun r14 u14 H locs hw14 hP hS => ?_)
  have hP : va_P D vwCl (wM h b0 b1 b2 b3 b4 cy (nI 1) N ch ds de f cs be lf od) H := hP
  have hD : va_D A (wM h b0 b1 b2 b3 b4 cy (nI 1) N ch ds de f cs be lf od) := zD hD rfl
  obtain rfl : r14 = (zb false) := hw14
  refine z_ifb_false_ne (tgt := 22) hx hb dX1_core_17 (by decide) ?_
  refine lv_iconst (v := (nI 0)) hx hb dX1_core_20 (by decide) ?_
  exact W.iret (v := (nI 0)) hx hb hr (fun t9 ht9 hW9 => ⟨⟨(nI 0), (), rfl, rfl, by show va_P D vwCl (wM h b0 b1 b2 b3 b4 cy (nI 1) N ch ds de f cs be lf od) t9.heap; rw [ht9]; exact hP⟩, hS.F ht9⟩) hS.2.2 dX1_core_21

set_option maxHeartbeats 4000000 in
set_option maxRecDepth 100000 in
theorem c_X1_core_ok (l : Launch) (D : va_G) (cy : ClassId) (h b0 b1 b2 b3 b4 : Nat) (th : Int32) (N : Nat) (ch ds de : Int32) (f cs be lf od : Nat → Int32) (sz : Nat) (u : Nat) (c0 : Nat → Nat) (hN : N ≤ 20) (hg : gd f N) (hc : ∀ v, v < N → cno f N v (c0 v)) (hu : u < N) : Met l yX1_core wsX1_core ({ frames := 3, cells := 0, slots := 0, locals := 69 } : Room) (va_Pc [.ref h, .int (nI u)] (zWr D (wM h b0 b1 b2 b3 b4 cy th N ch ds de f cs be lf od) [(cy, .int)] sz)) (va_Qi (fun (r : Int32) (z9 : (Nat → Int32)) => r = nI (c0 u)) (fun (z9 : (Nat → Int32)) t => va_P D vwCl (wM h b0 b1 b2 b3 b4 cy (nI 0) N ch ds de f z9 be lf od) t.heap) (va_A (wM h b0 b1 b2 b3 b4 cy th N ch ds de f cs be lf od) sz)) 0 0 (va_A (wM h b0 b1 b2 b3 b4 cy th N ch ds de f cs be lf od) sz) := by
  refine Met.ofW (cc := cX1_core) (maxL := 2) (ret := (some .int)) (by decide) rfl ?_
  intro p e s m args below meth c s₁ B hml hv
  obtain ⟨rfl, hsz, hP, hK, hD0⟩ := hv
  have hx := B.exec
  have hb := B.bytes
  have hr := B.returns
  have hts := atoms_spec (ws := wsX1_core) B.pre
  have hown : s.vm.findClass RX1 = some m.cls := findClass_of_methodNamed B.named
  have hlocks := B.notSynchronized
  subst hsz
  have hD := hD0.self (sz := s.heap.size)
  generalize hAe : va_A (wM h b0 b1 b2 b3 b4 cy th N ch ds de f cs be lf od) s.heap.size = A at hD ⊢
  have hA : ∀ q : Nat, s.heap.size ≤ q → A q := fun q h => by rw [← hAe]; exact Or.inr h
  have hS : va_S A s.heap s.heap [] := va_S.rf
  have hin : ∀ w ∈ wsX10, w ∈ wsX1_core := by decide +kernel
  have hf13 := hts (.fieldLink RX1 13 "CorebarnModel" "cores" "[I") (by decide +kernel)
  have hl := lv_entry ([.ref h, .int (nI u)]) (n := 2) (Nat.le_of_ble_eq_true rfl)
  rw [lg_entry_eq]
  generalize (lg_sl ([.ref h, .int (nI u)]) ++ List.replicate (2 - (lg_sl ([.ref h, .int (nI u)])).length) Slot.unset).toArray = ls at hl ⊢
  have hl : lv_has ls 2 [(0, .ref h), (1, .int (nI u))] := hl
  refine lv_aload_n hx hb dX1_core_0 rfl (lv_at hl 0 rfl) ?_
  refine lv_aload_n hx hb dX1_core_1 rfl (lv_at hl 0 rfl) ?_
  refine lv_iload_n hx hb dX1_core_2 rfl (lv_at hl 1 rfl) ?_
  refine zrV (As := [.int (nI u)]) (rest := [.ref h]) 0 ⟨hx, hb, hml, hown, hts⟩ (c_X1_isNode l D cy h b0 b1 b2 b3 b4 th N ch ds de f cs be lf od (nI u)) (cwV 1 hts gX1_core_X1_isNode rfl rfl rfl (by decide +kernel) ⟨Nat.le_of_ble_eq_true rfl, Nat.le_of_ble_eq_true rfl⟩) hK hP rfl rfl rfl hl rfl (Nat.le_of_ble_eq_true rfl) dX1_core_3 ⟨Nat.le_of_ble_eq_true rfl, Nat.le_of_ble_eq_true rfl⟩ hS (fun r3 H locs hw3 hk9 hS => ?_)
  obtain rfl : r3 = (zb (isNb (nI u) N)) := hw3
  have hP := zkeep hP hk9
  rw [isNb_y hu hN]
  refine z_ifb_true (tgt := 13) hx hb dX1_core_6 (by decide) ?_
  refine lv_iconst (v := (nI 0)) hx hb dX1_core_9 (by decide) ?_
  refine lv_goto (tgt := 14) hx hb dX1_core_10 (by decide) ?_
  refine zwVi (As := [.int (nI 0)]) (rest := []) 0 [0, 1, 2, 3, 4, 5] rfl ⟨hx, hb, hml, hown, hts⟩ (c_X1_goesWell l D cy h b0 b1 b2 b3 b4 th N ch ds de f cs be lf od _ 0 (by omega)) (cwV 1 hts gX1_core_X1_goesWell rfl rfl rfl (by decide +kernel) ⟨Nat.le_of_ble_eq_true rfl, Nat.le_of_ble_eq_true rfl⟩) hK hP hD hA rfl rfl rfl hl rfl (Nat.le_of_ble_eq_true rfl) dX1_core_14 ⟨Nat.le_of_ble_eq_true rfl, Nat.le_of_ble_eq_true rfl⟩ hS (fun r14 u14 H locs hw14 hP hS => ?_)
  have hP : va_P D vwCl (wM h b0 b1 b2 b3 b4 cy (nI 0) N ch ds de f cs be lf od) H := hP
  have hD : va_D A (wM h b0 b1 b2 b3 b4 cy (nI 0) N ch ds de f cs be lf od) := zD hD rfl
  obtain rfl : r14 = (zb true) := hw14
  refine z_ifb_true_ne (tgt := 22) hx hb dX1_core_17 (by decide) ?_
  refine lv_aload_n hx hb dX1_core_22 rfl (lv_at hl 0 rfl) ?_
  refine zwVv (As := []) (rest := []) 0 [0, 1, 2, 3, 4, 5] rfl ⟨hx, hb, hml, hown, hts⟩ (c_X1_layCores l D cy h b0 b1 b2 b3 b4 (nI 0) N ch ds de f cs be lf od _ c0 hN hg hc) (cwV 0 hts gX1_core_X1_layCores rfl rfl rfl (by decide +kernel) ⟨Nat.le_of_ble_eq_true rfl, Nat.le_of_ble_eq_true rfl⟩) hK hP hD hA rfl rfl rfl hl rfl (Nat.le_of_ble_eq_true rfl) dX1_core_23 ⟨Nat.le_of_ble_eq_true rfl, Nat.le_of_ble_eq_true rfl⟩ hS (fun u23 H locs hw23 hP hS => ?_)
  have hP : va_P D vwCl (wM h b0 b1 b2 b3 b4 cy (nI 0) N ch ds de f (layE c0 cs N) be lf od) H := hP
  have hD : va_D A (wM h b0 b1 b2 b3 b4 cy (nI 0) N ch ds de f (layE c0 cs N) be lf od) := zD hD rfl
  refine lv_aload_n hx hb dX1_core_26 rfl (lv_at hl 0 rfl) ?_
  refine va_get (D := D) (ci := 1) (v := .ref b1) (C := RX1) (T := TX1) (N := 10) hx hb hts hin hown hK hP 0 rfl rfl 4 (by decide) hf13 (fun _ h9 => h9) rfl dX1_core_27 ?_
  refine lv_iload_n hx hb dX1_core_30 rfl (lv_at hl 1 rfl) ?_
  refine z_iald hx hb hK hP 2 0 rfl rfl (by omega) (by decide) dX1_core_31 ?_
  rw [layE_in (c := c0) hu]
  exact W.iret (v := (nI (c0 u))) hx hb hr (fun t9 ht9 hW9 => ⟨⟨(nI (c0 u)), (layE c0 cs N), rfl, rfl, by show va_P D vwCl (wM h b0 b1 b2 b3 b4 cy (nI 0) N ch ds de f (layE c0 cs N) be lf od) t9.heap; rw [ht9]; exact hP⟩, hS.F ht9⟩) hS.2.2 dX1_core_32

set_option maxHeartbeats 4000000 in
set_option maxRecDepth 100000 in
theorem c_X1_areJoined_ok (l : Launch) (D : va_G) (cy : ClassId) (h b0 b1 b2 b3 b4 : Nat) (th : Int32) (N : Nat) (ch ds de : Int32) (f cs be lf od : Nat → Int32) (sz : Nat) (u v : Nat) (hN : N ≤ 20) (hu : u < N) (hv : v < N) : Met l yX1_areJoined wsX1_areJoined ({ frames := 1, cells := 0, slots := 0, locals := 21 } : Room) (va_Pc [.ref h, .int (nI u), .int (nI v)] (zWr D (wM h b0 b1 b2 b3 b4 cy th N ch ds de f cs be lf od) [(cy, .int)] sz)) (va_Qi (fun (r : Int32) (z9 : Unit) => r = zb (bt (f u) v)) (fun (z9 : Unit) t => va_P D vwCl (wM h b0 b1 b2 b3 b4 cy (nI 0) N ch ds de f cs be lf od) t.heap) (va_A (wM h b0 b1 b2 b3 b4 cy th N ch ds de f cs be lf od) sz)) 0 0 (va_A (wM h b0 b1 b2 b3 b4 cy th N ch ds de f cs be lf od) sz) := by
  refine Met.ofW (cc := cX1_areJoined) (maxL := 3) (ret := (some .boolean)) (by decide) rfl ?_
  intro p e s m args below meth c s₁ B hml hv
  obtain ⟨rfl, hsz, hP, hK, hD0⟩ := hv
  have hx := B.exec
  have hb := B.bytes
  have hr := B.returns
  have hts := atoms_spec (ws := wsX1_areJoined) B.pre
  have hown : s.vm.findClass RX1 = some m.cls := findClass_of_methodNamed B.named
  have hlocks := B.notSynchronized
  subst hsz
  have hD := hD0.self (sz := s.heap.size)
  generalize hAe : va_A (wM h b0 b1 b2 b3 b4 cy th N ch ds de f cs be lf od) s.heap.size = A at hD ⊢
  have hA : ∀ q : Nat, s.heap.size ≤ q → A q := fun q h => by rw [← hAe]; exact Or.inr h
  have hS : va_S A s.heap s.heap [] := va_S.rf
  have hin : ∀ w ∈ wsX10, w ∈ wsX1_areJoined := by decide +kernel
  have hf7 := hts (.fieldLink RX1 7 "CorebarnModel" "near" "[I") (by decide +kernel)
  have hl := lv_entry ([.ref h, .int (nI u), .int (nI v)]) (n := 3) (Nat.le_of_ble_eq_true rfl)
  rw [lg_entry_eq]
  generalize (lg_sl ([.ref h, .int (nI u), .int (nI v)]) ++ List.replicate (3 - (lg_sl ([.ref h, .int (nI u), .int (nI v)])).length) Slot.unset).toArray = ls at hl ⊢
  have hl : lv_has ls 3 [(0, .ref h), (1, .int (nI u)), (2, .int (nI v))] := hl
  refine lv_aload_n hx hb dX1_areJoined_0 rfl (lv_at hl 0 rfl) ?_
  refine lv_aload_n hx hb dX1_areJoined_1 rfl (lv_at hl 0 rfl) ?_
  refine lv_iload_n hx hb dX1_areJoined_2 rfl (lv_at hl 1 rfl) ?_
  refine zrV (As := [.int (nI u)]) (rest := [.ref h]) 0 ⟨hx, hb, hml, hown, hts⟩ (c_X1_isNode l D cy h b0 b1 b2 b3 b4 th N ch ds de f cs be lf od (nI u)) (cwV 1 hts gX1_areJoined_X1_isNode rfl rfl rfl (by decide +kernel) ⟨Nat.le_of_ble_eq_true rfl, Nat.le_of_ble_eq_true rfl⟩) hK hP rfl rfl rfl hl rfl (Nat.le_of_ble_eq_true rfl) dX1_areJoined_3 ⟨Nat.le_of_ble_eq_true rfl, Nat.le_of_ble_eq_true rfl⟩ hS (fun r3 H locs hw3 hk9 hS => ?_)
  obtain rfl : r3 = (zb (isNb (nI u) N)) := hw3
  have hP := zkeep hP hk9
  rw [isNb_y hu hN]
  refine z_ifb_true (tgt := 21) hx hb dX1_areJoined_6 (by decide) ?_
  refine lv_aload_n hx hb dX1_areJoined_9 rfl (lv_at hl 0 rfl) ?_
  refine lv_iload_n hx hb dX1_areJoined_10 rfl (lv_at hl 2 rfl) ?_
  refine zrV (As := [.int (nI v)]) (rest := [.ref h]) 0 ⟨hx, hb, hml, hown, hts⟩ (c_X1_isNode l D cy h b0 b1 b2 b3 b4 th N ch ds de f cs be lf od (nI v)) (cwV 1 hts gX1_areJoined_X1_isNode rfl rfl rfl (by decide +kernel) ⟨Nat.le_of_ble_eq_true rfl, Nat.le_of_ble_eq_true rfl⟩) hK hP rfl rfl rfl hl rfl (Nat.le_of_ble_eq_true rfl) dX1_areJoined_11 ⟨Nat.le_of_ble_eq_true rfl, Nat.le_of_ble_eq_true rfl⟩ hS (fun r11 H locs hw11 hk9 hS => ?_)
  obtain rfl : r11 = (zb (isNb (nI v) N)) := hw11
  have hP := zkeep hP hk9
  rw [isNb_y hv hN]
  refine z_ifb_true (tgt := 21) hx hb dX1_areJoined_14 (by decide) ?_
  refine lv_iconst (v := (nI 0)) hx hb dX1_areJoined_17 (by decide) ?_
  refine lv_goto (tgt := 22) hx hb dX1_areJoined_18 (by decide) ?_
  refine zwVi (As := [.int (nI 0)]) (rest := []) 0 [0, 1, 2, 3, 4, 5] rfl ⟨hx, hb, hml, hown, hts⟩ (c_X1_goesWell l D cy h b0 b1 b2 b3 b4 th N ch ds de f cs be lf od _ 0 (by omega)) (cwV 1 hts gX1_areJoined_X1_goesWell rfl rfl rfl (by decide +kernel) ⟨Nat.le_of_ble_eq_true rfl, Nat.le_of_ble_eq_true rfl⟩) hK hP hD hA rfl rfl rfl hl rfl (Nat.le_of_ble_eq_true rfl) dX1_areJoined_22 ⟨Nat.le_of_ble_eq_true rfl, Nat.le_of_ble_eq_true rfl⟩ hS (fun r22 u22 H locs hw22 hP hS => ?_)
  have hP : va_P D vwCl (wM h b0 b1 b2 b3 b4 cy (nI 0) N ch ds de f cs be lf od) H := hP
  have hD : va_D A (wM h b0 b1 b2 b3 b4 cy (nI 0) N ch ds de f cs be lf od) := zD hD rfl
  obtain rfl : r22 = (zb true) := hw22
  refine z_ifb_true (tgt := 45) hx hb dX1_areJoined_25 (by decide) ?_
  refine lv_aload_n hx hb dX1_areJoined_28 rfl (lv_at hl 0 rfl) ?_
  refine va_get (D := D) (ci := 1) (v := .ref b0) (C := RX1) (T := TX1) (N := 10) hx hb hts hin hown hK hP 0 rfl rfl 2 (by decide) hf7 (fun _ h9 => h9) rfl dX1_areJoined_29 ?_
  refine lv_iload_n hx hb dX1_areJoined_32 rfl (lv_at hl 1 rfl) ?_
  refine z_iald hx hb hK hP 1 0 rfl rfl (by omega) (by decide) dX1_areJoined_33 ?_
  refine lv_iload_n hx hb dX1_areJoined_34 rfl (lv_at hl 2 rfl) ?_
  refine zrS0 (As := [.int (f u), .int (nI v)]) (rest := []) ⟨hx, hb, hml, hown, hts⟩ (c_X1_has l (f u) v (by omega)) (va_cwS 2 hts gX1_areJoined_X1_has rfl rfl rfl (by decide +kernel) ⟨Nat.le_of_ble_eq_true rfl, Nat.le_of_ble_eq_true rfl⟩) rfl hl rfl (Nat.le_of_ble_eq_true rfl) dX1_areJoined_35 ⟨Nat.le_of_ble_eq_true rfl, Nat.le_of_ble_eq_true rfl⟩ hS (fun r35 H locs hw35 hk9 hS => ?_)
  obtain rfl : r35 = (zb (bt (f u) v)) := hw35
  have hP := zkeep hP hk9
  refine z_ifb_eq (tgt := 45) hx hb dX1_areJoined_38 (by decide) (fun h38 => ?_) (fun h38 => ?_)
  · refine lv_iconst (v := (nI 0)) hx hb dX1_areJoined_45 (by decide) ?_
    exact W.zret (v := (nI 0)) (ty := .boolean) hx hb hr rfl (fun t9 ht9 hW9 => ⟨⟨(nI 0), (), rfl, (by rw [h38]; rfl), by show va_P D vwCl (wM h b0 b1 b2 b3 b4 cy (nI 0) N ch ds de f cs be lf od) t9.heap; rw [ht9]; exact hP⟩, hS.F ht9⟩) hS.2.2 dX1_areJoined_46
  · refine lv_iconst (v := (nI 1)) hx hb dX1_areJoined_41 (by decide) ?_
    refine lv_goto (tgt := 46) hx hb dX1_areJoined_42 (by decide) ?_
    exact W.zret (v := (nI 1)) (ty := .boolean) hx hb hr rfl (fun t9 ht9 hW9 => ⟨⟨(nI 1), (), rfl, (by rw [h38]; rfl), by show va_P D vwCl (wM h b0 b1 b2 b3 b4 cy (nI 0) N ch ds de f cs be lf od) t9.heap; rw [ht9]; exact hP⟩, hS.F ht9⟩) hS.2.2 dX1_areJoined_46

set_option maxHeartbeats 4000000 in
set_option maxRecDepth 100000 in
theorem c_X1_areJoined_bad (l : Launch) (D : va_G) (cy : ClassId) (h b0 b1 b2 b3 b4 : Nat) (th : Int32) (N : Nat) (ch ds de : Int32) (f cs be lf od : Nat → Int32) (sz : Nat) (q1 q2 : Int32) (hq : (isNb q1 N && isNb q2 N) = false) : Met l yX1_areJoined wsX1_areJoined ({ frames := 1, cells := 0, slots := 0, locals := 21 } : Room) (va_Pc [.ref h, .int q1, .int q2] (zWr D (wM h b0 b1 b2 b3 b4 cy th N ch ds de f cs be lf od) [(cy, .int)] sz)) (va_Qi (fun (r : Int32) (z9 : Unit) => r = nI 0) (fun (z9 : Unit) t => va_P D vwCl (wM h b0 b1 b2 b3 b4 cy (nI 1) N ch ds de f cs be lf od) t.heap) (va_A (wM h b0 b1 b2 b3 b4 cy th N ch ds de f cs be lf od) sz)) 0 0 (va_A (wM h b0 b1 b2 b3 b4 cy th N ch ds de f cs be lf od) sz) := by
  refine Met.ofW (cc := cX1_areJoined) (maxL := 3) (ret := (some .boolean)) (by decide) rfl ?_
  intro p e s m args below meth c s₁ B hml hv
  obtain ⟨rfl, hsz, hP, hK, hD0⟩ := hv
  have hx := B.exec
  have hb := B.bytes
  have hr := B.returns
  have hts := atoms_spec (ws := wsX1_areJoined) B.pre
  have hown : s.vm.findClass RX1 = some m.cls := findClass_of_methodNamed B.named
  have hlocks := B.notSynchronized
  subst hsz
  have hD := hD0.self (sz := s.heap.size)
  generalize hAe : va_A (wM h b0 b1 b2 b3 b4 cy th N ch ds de f cs be lf od) s.heap.size = A at hD ⊢
  have hA : ∀ q : Nat, s.heap.size ≤ q → A q := fun q h => by rw [← hAe]; exact Or.inr h
  have hS : va_S A s.heap s.heap [] := va_S.rf
  have hin : ∀ w ∈ wsX10, w ∈ wsX1_areJoined := by decide +kernel
  have hf7 := hts (.fieldLink RX1 7 "CorebarnModel" "near" "[I") (by decide +kernel)
  have hl := lv_entry ([.ref h, .int q1, .int q2]) (n := 3) (Nat.le_of_ble_eq_true rfl)
  rw [lg_entry_eq]
  generalize (lg_sl ([.ref h, .int q1, .int q2]) ++ List.replicate (3 - (lg_sl ([.ref h, .int q1, .int q2])).length) Slot.unset).toArray = ls at hl ⊢
  have hl : lv_has ls 3 [(0, .ref h), (1, .int q1), (2, .int q2)] := hl
  refine lv_aload_n hx hb dX1_areJoined_0 rfl (lv_at hl 0 rfl) ?_
  refine lv_aload_n hx hb dX1_areJoined_1 rfl (lv_at hl 0 rfl) ?_
  refine lv_iload_n hx hb dX1_areJoined_2 rfl (lv_at hl 1 rfl) ?_
  refine zrV (As := [.int q1]) (rest := [.ref h]) 0 ⟨hx, hb, hml, hown, hts⟩ (c_X1_isNode l D cy h b0 b1 b2 b3 b4 th N ch ds de f cs be lf od q1) (cwV 1 hts gX1_areJoined_X1_isNode rfl rfl rfl (by decide +kernel) ⟨Nat.le_of_ble_eq_true rfl, Nat.le_of_ble_eq_true rfl⟩) hK hP rfl rfl rfl hl rfl (Nat.le_of_ble_eq_true rfl) dX1_areJoined_3 ⟨Nat.le_of_ble_eq_true rfl, Nat.le_of_ble_eq_true rfl⟩ hS (fun r3 H locs hw3 hk9 hS => ?_)
  obtain rfl : r3 = (zb (isNb q1 N)) := hw3
  have hP := zkeep hP hk9
  refine z_ifb_eq (tgt := 21) hx hb dX1_areJoined_6 (by decide) (fun h6 => ?_) (fun h6 => ?_)
  · refine lv_iconst (v := (nI 1)) hx hb dX1_areJoined_21 (by decide) ?_
    refine zwVi (As := [.int (nI 1)]) (rest := []) 0 [0, 1, 2, 3, 4, 5] rfl ⟨hx, hb, hml, hown, hts⟩ (c_X1_goesWell l D cy h b0 b1 b2 b3 b4 th N ch ds de f cs be lf od _ 1 (by omega)) (cwV 1 hts gX1_areJoined_X1_goesWell rfl rfl rfl (by decide +kernel) ⟨Nat.le_of_ble_eq_true rfl, Nat.le_of_ble_eq_true rfl⟩) hK hP hD hA rfl rfl rfl hl rfl (Nat.le_of_ble_eq_true rfl) dX1_areJoined_22 ⟨Nat.le_of_ble_eq_true rfl, Nat.le_of_ble_eq_true rfl⟩ hS (fun r22 u22 H locs hw22 hP hS => ?_)
    have hP : va_P D vwCl (wM h b0 b1 b2 b3 b4 cy (nI 1) N ch ds de f cs be lf od) H := hP
    have hD : va_D A (wM h b0 b1 b2 b3 b4 cy (nI 1) N ch ds de f cs be lf od) := zD hD rfl
    obtain rfl : r22 = (zb false) := hw22
    refine z_ifb_false (tgt := 45) hx hb dX1_areJoined_25 (by decide) ?_
    refine lv_iconst (v := (nI 0)) hx hb dX1_areJoined_45 (by decide) ?_
    exact W.zret (v := (nI 0)) (ty := .boolean) hx hb hr rfl (fun t9 ht9 hW9 => ⟨⟨(nI 0), (), rfl, rfl, by show va_P D vwCl (wM h b0 b1 b2 b3 b4 cy (nI 1) N ch ds de f cs be lf od) t9.heap; rw [ht9]; exact hP⟩, hS.F ht9⟩) hS.2.2 dX1_areJoined_46
  · refine lv_aload_n hx hb dX1_areJoined_9 rfl (lv_at hl 0 rfl) ?_
    refine lv_iload_n hx hb dX1_areJoined_10 rfl (lv_at hl 2 rfl) ?_
    refine zrV (As := [.int q2]) (rest := [.ref h]) 0 ⟨hx, hb, hml, hown, hts⟩ (c_X1_isNode l D cy h b0 b1 b2 b3 b4 th N ch ds de f cs be lf od q2) (cwV 1 hts gX1_areJoined_X1_isNode rfl rfl rfl (by decide +kernel) ⟨Nat.le_of_ble_eq_true rfl, Nat.le_of_ble_eq_true rfl⟩) hK hP rfl rfl rfl hl rfl (Nat.le_of_ble_eq_true rfl) dX1_areJoined_11 ⟨Nat.le_of_ble_eq_true rfl, Nat.le_of_ble_eq_true rfl⟩ hS (fun r11 H locs hw11 hk9 hS => ?_)
    obtain rfl : r11 = (zb (isNb q2 N)) := hw11
    have hP := zkeep hP hk9
    refine z_ifb_eq (tgt := 21) hx hb dX1_areJoined_14 (by decide) (fun h14 => ?_) (fun h14 => ?_)
    · refine lv_iconst (v := (nI 1)) hx hb dX1_areJoined_21 (by decide) ?_
      refine zwVi (As := [.int (nI 1)]) (rest := []) 0 [0, 1, 2, 3, 4, 5] rfl ⟨hx, hb, hml, hown, hts⟩ (c_X1_goesWell l D cy h b0 b1 b2 b3 b4 th N ch ds de f cs be lf od _ 1 (by omega)) (cwV 1 hts gX1_areJoined_X1_goesWell rfl rfl rfl (by decide +kernel) ⟨Nat.le_of_ble_eq_true rfl, Nat.le_of_ble_eq_true rfl⟩) hK hP hD hA rfl rfl rfl hl rfl (Nat.le_of_ble_eq_true rfl) dX1_areJoined_22 ⟨Nat.le_of_ble_eq_true rfl, Nat.le_of_ble_eq_true rfl⟩ hS (fun r22 u22 H locs hw22 hP hS => ?_)
      have hP : va_P D vwCl (wM h b0 b1 b2 b3 b4 cy (nI 1) N ch ds de f cs be lf od) H := hP
      have hD : va_D A (wM h b0 b1 b2 b3 b4 cy (nI 1) N ch ds de f cs be lf od) := zD hD rfl
      obtain rfl : r22 = (zb false) := hw22
      refine z_ifb_false (tgt := 45) hx hb dX1_areJoined_25 (by decide) ?_
      refine lv_iconst (v := (nI 0)) hx hb dX1_areJoined_45 (by decide) ?_
      exact W.zret (v := (nI 0)) (ty := .boolean) hx hb hr rfl (fun t9 ht9 hW9 => ⟨⟨(nI 0), (), rfl, rfl, by show va_P D vwCl (wM h b0 b1 b2 b3 b4 cy (nI 1) N ch ds de f cs be lf od) t9.heap; rw [ht9]; exact hP⟩, hS.F ht9⟩) hS.2.2 dX1_areJoined_46
    · exact absurd hq (by rw [h6, h14]; decide)

set_option maxHeartbeats 4000000 in
set_option maxRecDepth 100000 in
theorem c_X1_degeneracy (l : Launch) (D : va_G) (cy : ClassId) (h b0 b1 b2 b3 b4 : Nat) (th : Int32) (N : Nat) (ch ds de : Int32) (f cs be lf od : Nat → Int32) (sz : Nat) (c0 : Nat → Nat) (hN : N ≤ 20) (hg : gd f N) (hc : ∀ v, v < N → cno f N v (c0 v)) : Met l yX1_degeneracy wsX1_degeneracy ({ frames := 2, cells := 0, slots := 0, locals := 46 } : Room) (va_Pc [.ref h] (zWr D (wM h b0 b1 b2 b3 b4 cy th N ch ds de f cs be lf od) [(cy, .int)] sz)) (va_Qi (fun (r : Int32) (z9 : Unit) => ∃ d, r = nI d ∧ isMx c0 N d) (fun (z9 : Unit) t => va_P D vwCl (wM h b0 b1 b2 b3 b4 cy (nI 0) N ch ds de f cs be lf od) t.heap) (va_A (wM h b0 b1 b2 b3 b4 cy th N ch ds de f cs be lf od) sz)) 0 0 (va_A (wM h b0 b1 b2 b3 b4 cy th N ch ds de f cs be lf od) sz) := by
  refine Met.ofW (cc := cX1_degeneracy) (maxL := 2) (ret := (some .int)) (by decide) rfl ?_
  intro p e s m args below meth c s₁ B hml hv
  obtain ⟨rfl, hsz, hP, hK, hD0⟩ := hv
  have hx := B.exec
  have hb := B.bytes
  have hr := B.returns
  have hts := atoms_spec (ws := wsX1_degeneracy) B.pre
  have hown : s.vm.findClass RX1 = some m.cls := findClass_of_methodNamed B.named
  have hlocks := B.notSynchronized
  subst hsz
  have hD := hD0.self (sz := s.heap.size)
  generalize hAe : va_A (wM h b0 b1 b2 b3 b4 cy th N ch ds de f cs be lf od) s.heap.size = A at hD ⊢
  have hA : ∀ q : Nat, s.heap.size ≤ q → A q := fun q h => by rw [← hAe]; exact Or.inr h
  have hS : va_S A s.heap s.heap [] := va_S.rf
  have hin : ∀ w ∈ wsX10, w ∈ wsX1_degeneracy := by decide +kernel
  have hf25 := hts (.fieldLink RX1 25 "CorebarnModel" "thrown" "I") (by decide +kernel)
  have hl := lv_entry ([.ref h]) (n := 2) (Nat.le_of_ble_eq_true rfl)
  rw [lg_entry_eq]
  generalize (lg_sl ([.ref h]) ++ List.replicate (2 - (lg_sl ([.ref h])).length) Slot.unset).toArray = ls at hl ⊢
  have hl : lv_has ls 2 [(0, .ref h)] := hl
  refine lv_aload_n hx hb dX1_degeneracy_0 rfl (lv_at hl 0 rfl) ?_
  refine lv_iconst (v := (nI 0)) hx hb dX1_degeneracy_1 (by decide) ?_
  refine va_put (D := D) (ci := 1) (v := .int (nI 0)) (ty := .int) (C := RX1) (T := TX1) (N := 10) hx hb hts hin tyX1 tyX1_ok nmX1 hown hK hP hD hS 0 rfl rfl 0 (by decide) hf25 (fun _ h9 => h9) rfl (by decide +kernel) rfl rfl (Nat.le_of_ble_eq_true rfl) dX1_degeneracy_2 (fun H locs hP hD hS => ?_)
  have hP : va_P D vwCl (wM h b0 b1 b2 b3 b4 cy (nI 0) N ch ds de f cs be lf od) H := hP
  have hD : va_D A (wM h b0 b1 b2 b3 b4 cy (nI 0) N ch ds de f cs be lf od) := hD
  refine lv_iconst (v := (nI 0)) hx hb dX1_degeneracy_5 (by decide) ?_
  refine lv_istore_n (lv' := [(1, .int (nI 0)), (0, .ref h)]) hx hb dX1_degeneracy_6 rfl hl (by decide) rfl (fun ls hl => ?_)
  have K7 : ∀ (fu7 : Nat) (k : Nat) (H : Heap) (locs : List Loc) (ls : Array Slot), (k = 0 ∨ ∃ v, v < N ∧ k ≤ c0 v) → 20 - k < fu7 → va_P D vwCl (wM h b0 b1 b2 b3 b4 cy (nI 0) N ch ds de f cs be lf od) H → va_S A s.heap H locs → lv_has ls 2 [(1, .int (nI k)), (0, .ref h)] → W p l e (headSpec wsX1_degeneracy ({ frames := 2, cells := 0, slots := 0, locals := 46 } : Room)).room s m ([.ref h] : List Value).toArray below meth c H locs 0 0 (MQ below (va_Qi (fun (r : Int32) (z9 : Unit) => ∃ d, r = nI d ∧ isMx c0 N d) (fun (z9 : Unit) t => va_P D vwCl (wM h b0 b1 b2 b3 b4 cy (nI 0) N ch ds de f cs be lf od) t.heap) A) ([.ref h] : List Value).toArray s 0 0 A) (F0 m 7 ls []) := by
    intro fu7
    induction fu7 with
    | zero =>
      intro k H locs ls hk0 hfu7
      exact absurd hfu7 (Nat.not_lt_zero _)
    | succ fu7 ih7 =>
      intro k H locs ls hk0 hfu7 hP hS hl
      have hD : va_D A (wM h b0 b1 b2 b3 b4 cy (nI 0) N ch ds de f cs be lf od) := zD hD rfl
      have hk20 : k < 20 := by rcases hk0 with q | ⟨v, q1, q2⟩; omega; have := cno_lt hg q1 (hc v q1); omega
      refine lv_aload_n hx hb dX1_degeneracy_7 rfl (lv_at hl 1 rfl) ?_
      refine lv_iload_n hx hb dX1_degeneracy_8 rfl (lv_at hl 0 rfl) ?_
      refine lv_iconst (v := (nI 1)) hx hb dX1_degeneracy_9 (by decide) ?_
      refine z_iadd hx hb dX1_degeneracy_10 ?_
      refine zrV (As := [.int (nI (k + 1))]) (rest := []) 0 ⟨hx, hb, hml, hown, hts⟩ (c_X1_coreOf l D cy h b0 b1 b2 b3 b4 (nI 0) N ch ds de f cs be lf od (nI (k + 1)) c0 hN hg hc) (cwV 1 hts gX1_degeneracy_X1_coreOf rfl rfl rfl (by decide +kernel) ⟨Nat.le_of_ble_eq_true rfl, Nat.le_of_ble_eq_true rfl⟩) hK hP rfl rfl rfl hl rfl (Nat.le_of_ble_eq_true rfl) dX1_degeneracy_11 ⟨Nat.le_of_ble_eq_true rfl, Nat.le_of_ble_eq_true rfl⟩ hS (fun r11 H locs hw11 hk9 hS => ?_)
      obtain rfl : r11 = (cst c0 N ((nI (k + 1))).toInt) := hw11
      have hP := zkeep hP hk9
      refine lv_if_eq (tgt := 23) hx hb dX1_degeneracy_14 (by decide) (fun h14 => ?_) (fun h14 => ?_)
      · refine lv_iload_n hx hb dX1_degeneracy_23 rfl (lv_at hl 0 rfl) ?_
        exact W.iret (v := (nI k)) hx hb hr (fun t9 ht9 hW9 => ⟨⟨(nI k), (), rfl, ⟨k, rfl, fun v hv => Nat.le_of_not_lt fun q => (by have h3 := ne_0.mp h14 v; rw [(b_cst hN).mpr ⟨hv, by rw [toI1 (by omega)]; omega⟩] at h3; cases h3), by rcases hk0 with q | ⟨v, q1, q2⟩; exact Or.inl q; refine Or.inr ⟨v, q1, Nat.le_antisymm (Nat.le_of_not_lt fun q => ?_) q2⟩; have h3 := ne_0.mp h14 v; rw [(b_cst hN).mpr ⟨q1, by rw [toI1 (by omega)]; omega⟩] at h3; cases h3⟩, by show va_P D vwCl (wM h b0 b1 b2 b3 b4 cy (nI 0) N ch ds de f cs be lf od) t9.heap; rw [ht9]; exact hP⟩, hS.F ht9⟩) hS.2.2 dX1_degeneracy_24
      · refine lv_iinc (v := (nI (k + 1))) (lv' := [(1, .int (nI (k + 1))), (0, .ref h)]) hx hb dX1_degeneracy_17 hl (k := 0) rfl (nI_1 _) (by decide) rfl (fun ls hl => ?_)
        refine lv_goto (tgt := 7) hx hb dX1_degeneracy_20 (by decide) ?_
        have hk1 : ∃ v, v < N ∧ k + 1 ≤ c0 v := by
          rw [ne_0] at h14
          rcases Classical.not_forall.mp h14 with ⟨v, hv⟩
          have hv2 := (b_cst (c := c0) (N := N) hN (k := (nI (k + 1)).toInt) (i := v)).mp (by cases q : bt (cst c0 N (nI (k + 1)).toInt) v; exact absurd q hv; rfl)
          rw [toI1 (by omega)] at hv2
          exact ⟨v, hv2.1, by omega⟩
        exact ih7 (k + 1) _ _ _ (Or.inr hk1) (by omega) hP hS (lv_sub hl [0, 1] rfl)
  exact K7 (20 - 0 + 1) 0 _ _ _ (Or.inl rfl) (Nat.lt_succ_self _) hP hS (lv_sub hl [0, 1] rfl)

set_option maxHeartbeats 4000000 in
set_option maxRecDepth 100000 in
theorem c_X1_coreSize_ok (l : Launch) (D : va_G) (cy : ClassId) (h b0 b1 b2 b3 b4 : Nat) (th : Int32) (N : Nat) (ch ds de : Int32) (f cs be lf od : Nat → Int32) (sz : Nat) (k : Int32) (c0 : Nat → Nat) (hN : N ≤ 20) (hg : gd f N) (hc : ∀ v, v < N → cno f N v (c0 v)) (hk : ¬ k < 0) : Met l yX1_coreSize wsX1_coreSize ({ frames := 2, cells := 0, slots := 0, locals := 46 } : Room) (va_Pc [.ref h, .int k] (zWr D (wM h b0 b1 b2 b3 b4 cy th N ch ds de f cs be lf od) [(cy, .int)] sz)) (va_Qi (fun (r : Int32) (z9 : Unit) => r = nI (zpop (cst c0 N (k).toInt))) (fun (z9 : Unit) t => va_P D vwCl (wM h b0 b1 b2 b3 b4 cy (nI 0) N ch ds de f cs be lf od) t.heap) (va_A (wM h b0 b1 b2 b3 b4 cy th N ch ds de f cs be lf od) sz)) 0 0 (va_A (wM h b0 b1 b2 b3 b4 cy th N ch ds de f cs be lf od) sz) := by
  refine Met.ofW (cc := cX1_coreSize) (maxL := 2) (ret := (some .int)) (by decide) rfl ?_
  intro p e s m args below meth c s₁ B hml hv
  obtain ⟨rfl, hsz, hP, hK, hD0⟩ := hv
  have hx := B.exec
  have hb := B.bytes
  have hr := B.returns
  have hts := atoms_spec (ws := wsX1_coreSize) B.pre
  have hown : s.vm.findClass RX1 = some m.cls := findClass_of_methodNamed B.named
  have hlocks := B.notSynchronized
  subst hsz
  have hD := hD0.self (sz := s.heap.size)
  generalize hAe : va_A (wM h b0 b1 b2 b3 b4 cy th N ch ds de f cs be lf od) s.heap.size = A at hD ⊢
  have hA : ∀ q : Nat, s.heap.size ≤ q → A q := fun q h => by rw [← hAe]; exact Or.inr h
  have hS : va_S A s.heap s.heap [] := va_S.rf
  have hl := lv_entry ([.ref h, .int k]) (n := 2) (Nat.le_of_ble_eq_true rfl)
  rw [lg_entry_eq]
  generalize (lg_sl ([.ref h, .int k]) ++ List.replicate (2 - (lg_sl ([.ref h, .int k])).length) Slot.unset).toArray = ls at hl ⊢
  have hl : lv_has ls 2 [(0, .ref h), (1, .int k)] := hl
  refine lv_aload_n hx hb dX1_coreSize_0 rfl (lv_at hl 0 rfl) ?_
  refine lv_iload_n hx hb dX1_coreSize_1 rfl (lv_at hl 1 rfl) ?_
  refine lv_if_ge (tgt := 9) hx hb dX1_coreSize_2 (by decide) (fun h2 => ?_) (fun h2 => ?_)
  · refine lv_iconst (v := (nI 0)) hx hb dX1_coreSize_9 (by decide) ?_
    refine zwVi (As := [.int (nI 0)]) (rest := []) 0 [0, 1, 2, 3, 4, 5] rfl ⟨hx, hb, hml, hown, hts⟩ (c_X1_goesWell l D cy h b0 b1 b2 b3 b4 th N ch ds de f cs be lf od _ 0 (by omega)) (cwV 1 hts gX1_coreSize_X1_goesWell rfl rfl rfl (by decide +kernel) ⟨Nat.le_of_ble_eq_true rfl, Nat.le_of_ble_eq_true rfl⟩) hK hP hD hA rfl rfl rfl hl rfl (Nat.le_of_ble_eq_true rfl) dX1_coreSize_10 ⟨Nat.le_of_ble_eq_true rfl, Nat.le_of_ble_eq_true rfl⟩ hS (fun r10 u10 H locs hw10 hP hS => ?_)
    have hP : va_P D vwCl (wM h b0 b1 b2 b3 b4 cy (nI 0) N ch ds de f cs be lf od) H := hP
    have hD : va_D A (wM h b0 b1 b2 b3 b4 cy (nI 0) N ch ds de f cs be lf od) := zD hD rfl
    obtain rfl : r10 = (zb true) := hw10
    refine z_ifb_true (tgt := 27) hx hb dX1_coreSize_13 (by decide) ?_
    refine lv_aload_n hx hb dX1_coreSize_16 rfl (lv_at hl 0 rfl) ?_
    refine lv_iload_n hx hb dX1_coreSize_17 rfl (lv_at hl 1 rfl) ?_
    refine zrV (As := [.int k]) (rest := []) 0 ⟨hx, hb, hml, hown, hts⟩ (c_X1_coreOf l D cy h b0 b1 b2 b3 b4 (nI 0) N ch ds de f cs be lf od k c0 hN hg hc) (cwV 1 hts gX1_coreSize_X1_coreOf rfl rfl rfl (by decide +kernel) ⟨Nat.le_of_ble_eq_true rfl, Nat.le_of_ble_eq_true rfl⟩) hK hP rfl rfl rfl hl rfl (Nat.le_of_ble_eq_true rfl) dX1_coreSize_18 ⟨Nat.le_of_ble_eq_true rfl, Nat.le_of_ble_eq_true rfl⟩ hS (fun r18 H locs hw18 hk9 hS => ?_)
    obtain rfl : r18 = (cst c0 N (k).toInt) := hw18
    have hP := zkeep hP hk9
    refine zrS0 (As := [.int (cst c0 N (k).toInt)]) (rest := []) ⟨hx, hb, hml, hown, hts⟩ (c_X1_sizeOf l (cst c0 N (k).toInt) (zsub20 hN (cst_sub hN _))) (va_cwS 1 hts gX1_coreSize_X1_sizeOf rfl rfl rfl (by decide +kernel) ⟨Nat.le_of_ble_eq_true rfl, Nat.le_of_ble_eq_true rfl⟩) rfl hl rfl (Nat.le_of_ble_eq_true rfl) dX1_coreSize_21 ⟨Nat.le_of_ble_eq_true rfl, Nat.le_of_ble_eq_true rfl⟩ hS (fun r21 H locs hw21 hk9 hS => ?_)
    obtain rfl : r21 = (nI (zpop (cst c0 N (k).toInt))) := hw21
    have hP := zkeep hP hk9
    refine lv_goto (tgt := 28) hx hb dX1_coreSize_24 (by decide) ?_
    exact W.iret (v := (nI (zpop (cst c0 N (k).toInt)))) hx hb hr (fun t9 ht9 hW9 => ⟨⟨(nI (zpop (cst c0 N (k).toInt))), (), rfl, rfl, by show va_P D vwCl (wM h b0 b1 b2 b3 b4 cy (nI 0) N ch ds de f cs be lf od) t9.heap; rw [ht9]; exact hP⟩, hS.F ht9⟩) hS.2.2 dX1_coreSize_28
  · exact absurd (Int32.not_le.mp h2) hk

set_option maxHeartbeats 4000000 in
set_option maxRecDepth 100000 in
theorem c_X1_coreSize_bad (l : Launch) (D : va_G) (cy : ClassId) (h b0 b1 b2 b3 b4 : Nat) (th : Int32) (N : Nat) (ch ds de : Int32) (f cs be lf od : Nat → Int32) (sz : Nat) (k : Int32) (hk : k < 0) : Met l yX1_coreSize wsX1_coreSize ({ frames := 2, cells := 0, slots := 0, locals := 46 } : Room) (va_Pc [.ref h, .int k] (zWr D (wM h b0 b1 b2 b3 b4 cy th N ch ds de f cs be lf od) [(cy, .int)] sz)) (va_Qi (fun (r : Int32) (z9 : Unit) => r = nI 0) (fun (z9 : Unit) t => va_P D vwCl (wM h b0 b1 b2 b3 b4 cy (nI 1) N ch ds de f cs be lf od) t.heap) (va_A (wM h b0 b1 b2 b3 b4 cy th N ch ds de f cs be lf od) sz)) 0 0 (va_A (wM h b0 b1 b2 b3 b4 cy th N ch ds de f cs be lf od) sz) := by
  refine Met.ofW (cc := cX1_coreSize) (maxL := 2) (ret := (some .int)) (by decide) rfl ?_
  intro p e s m args below meth c s₁ B hml hv
  obtain ⟨rfl, hsz, hP, hK, hD0⟩ := hv
  have hx := B.exec
  have hb := B.bytes
  have hr := B.returns
  have hts := atoms_spec (ws := wsX1_coreSize) B.pre
  have hown : s.vm.findClass RX1 = some m.cls := findClass_of_methodNamed B.named
  have hlocks := B.notSynchronized
  subst hsz
  have hD := hD0.self (sz := s.heap.size)
  generalize hAe : va_A (wM h b0 b1 b2 b3 b4 cy th N ch ds de f cs be lf od) s.heap.size = A at hD ⊢
  have hA : ∀ q : Nat, s.heap.size ≤ q → A q := fun q h => by rw [← hAe]; exact Or.inr h
  have hS : va_S A s.heap s.heap [] := va_S.rf
  have hl := lv_entry ([.ref h, .int k]) (n := 2) (Nat.le_of_ble_eq_true rfl)
  rw [lg_entry_eq]
  generalize (lg_sl ([.ref h, .int k]) ++ List.replicate (2 - (lg_sl ([.ref h, .int k])).length) Slot.unset).toArray = ls at hl ⊢
  have hl : lv_has ls 2 [(0, .ref h), (1, .int k)] := hl
  refine lv_aload_n hx hb dX1_coreSize_0 rfl (lv_at hl 0 rfl) ?_
  refine lv_iload_n hx hb dX1_coreSize_1 rfl (lv_at hl 1 rfl) ?_
  refine lv_if_ge (tgt := 9) hx hb dX1_coreSize_2 (by decide) (fun h2 => ?_) (fun h2 => ?_)
  · exact absurd hk (Int32.not_lt.mpr h2)
  · refine lv_iconst (v := (nI 1)) hx hb dX1_coreSize_5 (by decide) ?_
    refine lv_goto (tgt := 10) hx hb dX1_coreSize_6 (by decide) ?_
    refine zwVi (As := [.int (nI 1)]) (rest := []) 0 [0, 1, 2, 3, 4, 5] rfl ⟨hx, hb, hml, hown, hts⟩ (c_X1_goesWell l D cy h b0 b1 b2 b3 b4 th N ch ds de f cs be lf od _ 1 (by omega)) (cwV 1 hts gX1_coreSize_X1_goesWell rfl rfl rfl (by decide +kernel) ⟨Nat.le_of_ble_eq_true rfl, Nat.le_of_ble_eq_true rfl⟩) hK hP hD hA rfl rfl rfl hl rfl (Nat.le_of_ble_eq_true rfl) dX1_coreSize_10 ⟨Nat.le_of_ble_eq_true rfl, Nat.le_of_ble_eq_true rfl⟩ hS (fun r10 u10 H locs hw10 hP hS => ?_)
    have hP : va_P D vwCl (wM h b0 b1 b2 b3 b4 cy (nI 1) N ch ds de f cs be lf od) H := hP
    have hD : va_D A (wM h b0 b1 b2 b3 b4 cy (nI 1) N ch ds de f cs be lf od) := zD hD rfl
    obtain rfl : r10 = (zb false) := hw10
    refine z_ifb_false (tgt := 27) hx hb dX1_coreSize_13 (by decide) ?_
    refine lv_iconst (v := (nI 0)) hx hb dX1_coreSize_27 (by decide) ?_
    exact W.iret (v := (nI 0)) hx hb hr (fun t9 ht9 hW9 => ⟨⟨(nI 0), (), rfl, rfl, by show va_P D vwCl (wM h b0 b1 b2 b3 b4 cy (nI 1) N ch ds de f cs be lf od) t9.heap; rw [ht9]; exact hP⟩, hS.F ht9⟩) hS.2.2 dX1_coreSize_28

set_option maxHeartbeats 4000000 in
set_option maxRecDepth 100000 in
theorem c_X1_community_ok (l : Launch) (D : va_G) (cy : ClassId) (h b0 b1 b2 b3 b4 : Nat) (th : Int32) (N : Nat) (ch ds de : Int32) (f cs be lf od : Nat → Int32) (sz : Nat) (u : Nat) (k : Int32) (c0 : Nat → Nat) (hN : N ≤ 20) (hg : gd f N) (hc : ∀ v, v < N → cno f N v (c0 v)) (hu : u < N) (hk : ¬ k < 0) : Met l yX1_community wsX1_community ({ frames := 3, cells := 0, slots := 0, locals := 73 } : Room) (va_Pc [.ref h, .int (nI u), .int k] (zWr D (wM h b0 b1 b2 b3 b4 cy th N ch ds de f cs be lf od) [(cy, .int)] sz)) (va_Qi (fun (r : Int32) (z9 : Unit) => r = nI (zpop (cmp f (cst c0 N (k).toInt) u))) (fun (z9 : Unit) t => va_P D vwCl (wM h b0 b1 b2 b3 b4 cy (nI 0) N ch ds de f cs be lf od) t.heap) (va_A (wM h b0 b1 b2 b3 b4 cy th N ch ds de f cs be lf od) sz)) 0 0 (va_A (wM h b0 b1 b2 b3 b4 cy th N ch ds de f cs be lf od) sz) := by
  refine Met.ofW (cc := cX1_community) (maxL := 3) (ret := (some .int)) (by decide) rfl ?_
  intro p e s m args below meth c s₁ B hml hv
  obtain ⟨rfl, hsz, hP, hK, hD0⟩ := hv
  have hx := B.exec
  have hb := B.bytes
  have hr := B.returns
  have hts := atoms_spec (ws := wsX1_community) B.pre
  have hown : s.vm.findClass RX1 = some m.cls := findClass_of_methodNamed B.named
  have hlocks := B.notSynchronized
  subst hsz
  have hD := hD0.self (sz := s.heap.size)
  generalize hAe : va_A (wM h b0 b1 b2 b3 b4 cy th N ch ds de f cs be lf od) s.heap.size = A at hD ⊢
  have hA : ∀ q : Nat, s.heap.size ≤ q → A q := fun q h => by rw [← hAe]; exact Or.inr h
  have hS : va_S A s.heap s.heap [] := va_S.rf
  have hl := lv_entry ([.ref h, .int (nI u), .int k]) (n := 3) (Nat.le_of_ble_eq_true rfl)
  rw [lg_entry_eq]
  generalize (lg_sl ([.ref h, .int (nI u), .int k]) ++ List.replicate (3 - (lg_sl ([.ref h, .int (nI u), .int k])).length) Slot.unset).toArray = ls at hl ⊢
  have hl : lv_has ls 3 [(0, .ref h), (1, .int (nI u)), (2, .int k)] := hl
  refine lv_aload_n hx hb dX1_community_0 rfl (lv_at hl 0 rfl) ?_
  refine lv_aload_n hx hb dX1_community_1 rfl (lv_at hl 0 rfl) ?_
  refine lv_iload_n hx hb dX1_community_2 rfl (lv_at hl 1 rfl) ?_
  refine zrV (As := [.int (nI u)]) (rest := [.ref h]) 0 ⟨hx, hb, hml, hown, hts⟩ (c_X1_isNode l D cy h b0 b1 b2 b3 b4 th N ch ds de f cs be lf od (nI u)) (cwV 1 hts gX1_community_X1_isNode rfl rfl rfl (by decide +kernel) ⟨Nat.le_of_ble_eq_true rfl, Nat.le_of_ble_eq_true rfl⟩) hK hP rfl rfl rfl hl rfl (Nat.le_of_ble_eq_true rfl) dX1_community_3 ⟨Nat.le_of_ble_eq_true rfl, Nat.le_of_ble_eq_true rfl⟩ hS (fun r3 H locs hw3 hk9 hS => ?_)
  obtain rfl : r3 = (zb (isNb (nI u) N)) := hw3
  have hP := zkeep hP hk9
  rw [isNb_y hu hN]
  refine z_ifb_true_ne (tgt := 13) hx hb dX1_community_6 (by decide) ?_
  refine lv_iload_n hx hb dX1_community_13 rfl (lv_at hl 2 rfl) ?_
  refine lv_if_ge (tgt := 21) hx hb dX1_community_14 (by decide) (fun h14 => ?_) (fun h14 => ?_)
  · refine lv_iconst (v := (nI 0)) hx hb dX1_community_21 (by decide) ?_
    refine zwVi (As := [.int (nI 0)]) (rest := []) 0 [0, 1, 2, 3, 4, 5] rfl ⟨hx, hb, hml, hown, hts⟩ (c_X1_goesWell l D cy h b0 b1 b2 b3 b4 th N ch ds de f cs be lf od _ 0 (by omega)) (cwV 1 hts gX1_community_X1_goesWell rfl rfl rfl (by decide +kernel) ⟨Nat.le_of_ble_eq_true rfl, Nat.le_of_ble_eq_true rfl⟩) hK hP hD hA rfl rfl rfl hl rfl (Nat.le_of_ble_eq_true rfl) dX1_community_22 ⟨Nat.le_of_ble_eq_true rfl, Nat.le_of_ble_eq_true rfl⟩ hS (fun r22 u22 H locs hw22 hP hS => ?_)
    have hP : va_P D vwCl (wM h b0 b1 b2 b3 b4 cy (nI 0) N ch ds de f cs be lf od) H := hP
    have hD : va_D A (wM h b0 b1 b2 b3 b4 cy (nI 0) N ch ds de f cs be lf od) := zD hD rfl
    obtain rfl : r22 = (zb true) := hw22
    refine z_ifb_true (tgt := 40) hx hb dX1_community_25 (by decide) ?_
    refine lv_aload_n hx hb dX1_community_28 rfl (lv_at hl 0 rfl) ?_
    refine lv_iload_n hx hb dX1_community_29 rfl (lv_at hl 1 rfl) ?_
    refine lv_iload_n hx hb dX1_community_30 rfl (lv_at hl 2 rfl) ?_
    refine zrV (As := [.int (nI u), .int k]) (rest := []) 0 ⟨hx, hb, hml, hown, hts⟩ (c_X1_communityOf l D cy h b0 b1 b2 b3 b4 (nI 0) N ch ds de f cs be lf od u k c0 hN hg hc (by omega)) (cwV 2 hts gX1_community_X1_communityOf rfl rfl rfl (by decide +kernel) ⟨Nat.le_of_ble_eq_true rfl, Nat.le_of_ble_eq_true rfl⟩) hK hP rfl rfl rfl hl rfl (Nat.le_of_ble_eq_true rfl) dX1_community_31 ⟨Nat.le_of_ble_eq_true rfl, Nat.le_of_ble_eq_true rfl⟩ hS (fun r31 H locs hw31 hk9 hS => ?_)
    obtain rfl : r31 = (cmp f (cst c0 N (k).toInt) u) := hw31
    have hP := zkeep hP hk9
    refine zrS0 (As := [.int (cmp f (cst c0 N (k).toInt) u)]) (rest := []) ⟨hx, hb, hml, hown, hts⟩ (c_X1_sizeOf l (cmp f (cst c0 N (k).toInt) u) (zsub20 hN (sub_le (cmp_le _ _ _) (cst_sub hN _)))) (va_cwS 1 hts gX1_community_X1_sizeOf rfl rfl rfl (by decide +kernel) ⟨Nat.le_of_ble_eq_true rfl, Nat.le_of_ble_eq_true rfl⟩) rfl hl rfl (Nat.le_of_ble_eq_true rfl) dX1_community_34 ⟨Nat.le_of_ble_eq_true rfl, Nat.le_of_ble_eq_true rfl⟩ hS (fun r34 H locs hw34 hk9 hS => ?_)
    obtain rfl : r34 = (nI (zpop (cmp f (cst c0 N (k).toInt) u))) := hw34
    have hP := zkeep hP hk9
    refine lv_goto (tgt := 41) hx hb dX1_community_37 (by decide) ?_
    exact W.iret (v := (nI (zpop (cmp f (cst c0 N (k).toInt) u)))) hx hb hr (fun t9 ht9 hW9 => ⟨⟨(nI (zpop (cmp f (cst c0 N (k).toInt) u))), (), rfl, rfl, by show va_P D vwCl (wM h b0 b1 b2 b3 b4 cy (nI 0) N ch ds de f cs be lf od) t9.heap; rw [ht9]; exact hP⟩, hS.F ht9⟩) hS.2.2 dX1_community_41
  · exact absurd (Int32.not_le.mp h14) hk

set_option maxHeartbeats 4000000 in
set_option maxRecDepth 100000 in
theorem c_X1_community_bad (l : Launch) (D : va_G) (cy : ClassId) (h b0 b1 b2 b3 b4 : Nat) (th : Int32) (N : Nat) (ch ds de : Int32) (f cs be lf od : Nat → Int32) (sz : Nat) (q k : Int32) (hq : isNb q N = false) : Met l yX1_community wsX1_community ({ frames := 3, cells := 0, slots := 0, locals := 73 } : Room) (va_Pc [.ref h, .int q, .int k] (zWr D (wM h b0 b1 b2 b3 b4 cy th N ch ds de f cs be lf od) [(cy, .int)] sz)) (va_Qi (fun (r : Int32) (z9 : Unit) => r = nI 0) (fun (z9 : Unit) t => va_P D vwCl (wM h b0 b1 b2 b3 b4 cy (nI 1) N ch ds de f cs be lf od) t.heap) (va_A (wM h b0 b1 b2 b3 b4 cy th N ch ds de f cs be lf od) sz)) 0 0 (va_A (wM h b0 b1 b2 b3 b4 cy th N ch ds de f cs be lf od) sz) := by
  refine Met.ofW (cc := cX1_community) (maxL := 3) (ret := (some .int)) (by decide) rfl ?_
  intro p e s m args below meth c s₁ B hml hv
  obtain ⟨rfl, hsz, hP, hK, hD0⟩ := hv
  have hx := B.exec
  have hb := B.bytes
  have hr := B.returns
  have hts := atoms_spec (ws := wsX1_community) B.pre
  have hown : s.vm.findClass RX1 = some m.cls := findClass_of_methodNamed B.named
  have hlocks := B.notSynchronized
  subst hsz
  have hD := hD0.self (sz := s.heap.size)
  generalize hAe : va_A (wM h b0 b1 b2 b3 b4 cy th N ch ds de f cs be lf od) s.heap.size = A at hD ⊢
  have hA : ∀ q : Nat, s.heap.size ≤ q → A q := fun q h => by rw [← hAe]; exact Or.inr h
  have hS : va_S A s.heap s.heap [] := va_S.rf
  have hl := lv_entry ([.ref h, .int q, .int k]) (n := 3) (Nat.le_of_ble_eq_true rfl)
  rw [lg_entry_eq]
  generalize (lg_sl ([.ref h, .int q, .int k]) ++ List.replicate (3 - (lg_sl ([.ref h, .int q, .int k])).length) Slot.unset).toArray = ls at hl ⊢
  have hl : lv_has ls 3 [(0, .ref h), (1, .int q), (2, .int k)] := hl
  refine lv_aload_n hx hb dX1_community_0 rfl (lv_at hl 0 rfl) ?_
  refine lv_aload_n hx hb dX1_community_1 rfl (lv_at hl 0 rfl) ?_
  refine lv_iload_n hx hb dX1_community_2 rfl (lv_at hl 1 rfl) ?_
  refine zrV (As := [.int q]) (rest := [.ref h]) 0 ⟨hx, hb, hml, hown, hts⟩ (c_X1_isNode l D cy h b0 b1 b2 b3 b4 th N ch ds de f cs be lf od q) (cwV 1 hts gX1_community_X1_isNode rfl rfl rfl (by decide +kernel) ⟨Nat.le_of_ble_eq_true rfl, Nat.le_of_ble_eq_true rfl⟩) hK hP rfl rfl rfl hl rfl (Nat.le_of_ble_eq_true rfl) dX1_community_3 ⟨Nat.le_of_ble_eq_true rfl, Nat.le_of_ble_eq_true rfl⟩ hS (fun r3 H locs hw3 hk9 hS => ?_)
  obtain rfl : r3 = (zb (isNb q N)) := hw3
  have hP := zkeep hP hk9
  rw [hq]
  refine z_ifb_false_ne (tgt := 13) hx hb dX1_community_6 (by decide) ?_
  refine lv_iconst (v := (nI 1)) hx hb dX1_community_9 (by decide) ?_
  refine lv_goto (tgt := 22) hx hb dX1_community_10 (by decide) ?_
  refine zwVi (As := [.int (nI 1)]) (rest := []) 0 [0, 1, 2, 3, 4, 5] rfl ⟨hx, hb, hml, hown, hts⟩ (c_X1_goesWell l D cy h b0 b1 b2 b3 b4 th N ch ds de f cs be lf od _ 1 (by omega)) (cwV 1 hts gX1_community_X1_goesWell rfl rfl rfl (by decide +kernel) ⟨Nat.le_of_ble_eq_true rfl, Nat.le_of_ble_eq_true rfl⟩) hK hP hD hA rfl rfl rfl hl rfl (Nat.le_of_ble_eq_true rfl) dX1_community_22 ⟨Nat.le_of_ble_eq_true rfl, Nat.le_of_ble_eq_true rfl⟩ hS (fun r22 u22 H locs hw22 hP hS => ?_)
  have hP : va_P D vwCl (wM h b0 b1 b2 b3 b4 cy (nI 1) N ch ds de f cs be lf od) H := hP
  have hD : va_D A (wM h b0 b1 b2 b3 b4 cy (nI 1) N ch ds de f cs be lf od) := zD hD rfl
  obtain rfl : r22 = (zb false) := hw22
  refine z_ifb_false (tgt := 40) hx hb dX1_community_25 (by decide) ?_
  refine lv_iconst (v := (nI 0)) hx hb dX1_community_40 (by decide) ?_
  exact W.iret (v := (nI 0)) hx hb hr (fun t9 ht9 hW9 => ⟨⟨(nI 0), (), rfl, rfl, by show va_P D vwCl (wM h b0 b1 b2 b3 b4 cy (nI 1) N ch ds de f cs be lf od) t9.heap; rw [ht9]; exact hP⟩, hS.F ht9⟩) hS.2.2 dX1_community_41

set_option maxHeartbeats 4000000 in
set_option maxRecDepth 100000 in
theorem c_X1_community_neg (l : Launch) (D : va_G) (cy : ClassId) (h b0 b1 b2 b3 b4 : Nat) (th : Int32) (N : Nat) (ch ds de : Int32) (f cs be lf od : Nat → Int32) (sz : Nat) (u : Nat) (k : Int32) (hN : N ≤ 20) (hu : u < N) (hk : k < 0) : Met l yX1_community wsX1_community ({ frames := 3, cells := 0, slots := 0, locals := 73 } : Room) (va_Pc [.ref h, .int (nI u), .int k] (zWr D (wM h b0 b1 b2 b3 b4 cy th N ch ds de f cs be lf od) [(cy, .int)] sz)) (va_Qi (fun (r : Int32) (z9 : Unit) => r = nI 0) (fun (z9 : Unit) t => va_P D vwCl (wM h b0 b1 b2 b3 b4 cy (nI 2) N ch ds de f cs be lf od) t.heap) (va_A (wM h b0 b1 b2 b3 b4 cy th N ch ds de f cs be lf od) sz)) 0 0 (va_A (wM h b0 b1 b2 b3 b4 cy th N ch ds de f cs be lf od) sz) := by
  refine Met.ofW (cc := cX1_community) (maxL := 3) (ret := (some .int)) (by decide) rfl ?_
  intro p e s m args below meth c s₁ B hml hv
  obtain ⟨rfl, hsz, hP, hK, hD0⟩ := hv
  have hx := B.exec
  have hb := B.bytes
  have hr := B.returns
  have hts := atoms_spec (ws := wsX1_community) B.pre
  have hown : s.vm.findClass RX1 = some m.cls := findClass_of_methodNamed B.named
  have hlocks := B.notSynchronized
  subst hsz
  have hD := hD0.self (sz := s.heap.size)
  generalize hAe : va_A (wM h b0 b1 b2 b3 b4 cy th N ch ds de f cs be lf od) s.heap.size = A at hD ⊢
  have hA : ∀ q : Nat, s.heap.size ≤ q → A q := fun q h => by rw [← hAe]; exact Or.inr h
  have hS : va_S A s.heap s.heap [] := va_S.rf
  have hl := lv_entry ([.ref h, .int (nI u), .int k]) (n := 3) (Nat.le_of_ble_eq_true rfl)
  rw [lg_entry_eq]
  generalize (lg_sl ([.ref h, .int (nI u), .int k]) ++ List.replicate (3 - (lg_sl ([.ref h, .int (nI u), .int k])).length) Slot.unset).toArray = ls at hl ⊢
  have hl : lv_has ls 3 [(0, .ref h), (1, .int (nI u)), (2, .int k)] := hl
  refine lv_aload_n hx hb dX1_community_0 rfl (lv_at hl 0 rfl) ?_
  refine lv_aload_n hx hb dX1_community_1 rfl (lv_at hl 0 rfl) ?_
  refine lv_iload_n hx hb dX1_community_2 rfl (lv_at hl 1 rfl) ?_
  refine zrV (As := [.int (nI u)]) (rest := [.ref h]) 0 ⟨hx, hb, hml, hown, hts⟩ (c_X1_isNode l D cy h b0 b1 b2 b3 b4 th N ch ds de f cs be lf od (nI u)) (cwV 1 hts gX1_community_X1_isNode rfl rfl rfl (by decide +kernel) ⟨Nat.le_of_ble_eq_true rfl, Nat.le_of_ble_eq_true rfl⟩) hK hP rfl rfl rfl hl rfl (Nat.le_of_ble_eq_true rfl) dX1_community_3 ⟨Nat.le_of_ble_eq_true rfl, Nat.le_of_ble_eq_true rfl⟩ hS (fun r3 H locs hw3 hk9 hS => ?_)
  obtain rfl : r3 = (zb (isNb (nI u) N)) := hw3
  have hP := zkeep hP hk9
  rw [isNb_y hu hN]
  refine z_ifb_true_ne (tgt := 13) hx hb dX1_community_6 (by decide) ?_
  refine lv_iload_n hx hb dX1_community_13 rfl (lv_at hl 2 rfl) ?_
  refine lv_if_ge (tgt := 21) hx hb dX1_community_14 (by decide) (fun h14 => ?_) (fun h14 => ?_)
  · exact absurd hk (Int32.not_lt.mpr h14)
  · refine lv_iconst (v := (nI 2)) hx hb dX1_community_17 (by decide) ?_
    refine lv_goto (tgt := 22) hx hb dX1_community_18 (by decide) ?_
    refine zwVi (As := [.int (nI 2)]) (rest := []) 0 [0, 1, 2, 3, 4, 5] rfl ⟨hx, hb, hml, hown, hts⟩ (c_X1_goesWell l D cy h b0 b1 b2 b3 b4 th N ch ds de f cs be lf od _ 2 (by omega)) (cwV 1 hts gX1_community_X1_goesWell rfl rfl rfl (by decide +kernel) ⟨Nat.le_of_ble_eq_true rfl, Nat.le_of_ble_eq_true rfl⟩) hK hP hD hA rfl rfl rfl hl rfl (Nat.le_of_ble_eq_true rfl) dX1_community_22 ⟨Nat.le_of_ble_eq_true rfl, Nat.le_of_ble_eq_true rfl⟩ hS (fun r22 u22 H locs hw22 hP hS => ?_)
    have hP : va_P D vwCl (wM h b0 b1 b2 b3 b4 cy (nI 2) N ch ds de f cs be lf od) H := hP
    have hD : va_D A (wM h b0 b1 b2 b3 b4 cy (nI 2) N ch ds de f cs be lf od) := zD hD rfl
    obtain rfl : r22 = (zb false) := hw22
    refine z_ifb_false (tgt := 40) hx hb dX1_community_25 (by decide) ?_
    refine lv_iconst (v := (nI 0)) hx hb dX1_community_40 (by decide) ?_
    exact W.iret (v := (nI 0)) hx hb hr (fun t9 ht9 hW9 => ⟨⟨(nI 0), (), rfl, rfl, by show va_P D vwCl (wM h b0 b1 b2 b3 b4 cy (nI 2) N ch ds de f cs be lf od) t9.heap; rw [ht9]; exact hP⟩, hS.F ht9⟩) hS.2.2 dX1_community_41

set_option maxHeartbeats 4000000 in
set_option maxRecDepth 100000 in
theorem c_X1_communities_ok (l : Launch) (D : va_G) (cy : ClassId) (h b0 b1 b2 b3 b4 : Nat) (th : Int32) (N : Nat) (ch ds de : Int32) (f cs be lf od : Nat → Int32) (sz : Nat) (k : Int32) (c0 : Nat → Nat) (hN : N ≤ 20) (hg : gd f N) (hc : ∀ v, v < N → cno f N v (c0 v)) (hk : ¬ k < 0) : Met l yX1_communities wsX1_communities ({ frames := 3, cells := 0, slots := 0, locals := 73 } : Room) (va_Pc [.ref h, .int k] (zWr D (wM h b0 b1 b2 b3 b4 cy th N ch ds de f cs be lf od) [(cy, .int)] sz)) (va_Qi (fun (r : Int32) (z9 : Unit) => r = nI (fb_ct (fun v => low (cmp f (cst c0 N (k).toInt) v) v) N)) (fun (z9 : Unit) t => va_P D vwCl (wM h b0 b1 b2 b3 b4 cy (nI 0) N ch ds de f cs be lf od) t.heap) (va_A (wM h b0 b1 b2 b3 b4 cy th N ch ds de f cs be lf od) sz)) 0 0 (va_A (wM h b0 b1 b2 b3 b4 cy th N ch ds de f cs be lf od) sz) := by
  refine Met.ofW (cc := cX1_communities) (maxL := 4) (ret := (some .int)) (by decide) rfl ?_
  intro p e s m args below meth c s₁ B hml hv
  obtain ⟨rfl, hsz, hP, hK, hD0⟩ := hv
  have hx := B.exec
  have hb := B.bytes
  have hr := B.returns
  have hts := atoms_spec (ws := wsX1_communities) B.pre
  have hown : s.vm.findClass RX1 = some m.cls := findClass_of_methodNamed B.named
  have hlocks := B.notSynchronized
  subst hsz
  have hD := hD0.self (sz := s.heap.size)
  generalize hAe : va_A (wM h b0 b1 b2 b3 b4 cy th N ch ds de f cs be lf od) s.heap.size = A at hD ⊢
  have hA : ∀ q : Nat, s.heap.size ≤ q → A q := fun q h => by rw [← hAe]; exact Or.inr h
  have hS : va_S A s.heap s.heap [] := va_S.rf
  have hin : ∀ w ∈ wsX10, w ∈ wsX1_communities := by decide +kernel
  have hf29 := hts (.fieldLink RX1 29 "CorebarnModel" "many" "I") (by decide +kernel)
  have hl := lv_entry ([.ref h, .int k]) (n := 4) (Nat.le_of_ble_eq_true rfl)
  rw [lg_entry_eq]
  generalize (lg_sl ([.ref h, .int k]) ++ List.replicate (4 - (lg_sl ([.ref h, .int k])).length) Slot.unset).toArray = ls at hl ⊢
  have hl : lv_has ls 4 [(0, .ref h), (1, .int k)] := hl
  refine lv_aload_n hx hb dX1_communities_0 rfl (lv_at hl 0 rfl) ?_
  refine lv_iload_n hx hb dX1_communities_1 rfl (lv_at hl 1 rfl) ?_
  refine lv_if_ge (tgt := 9) hx hb dX1_communities_2 (by decide) (fun h2 => ?_) (fun h2 => ?_)
  · refine lv_iconst (v := (nI 0)) hx hb dX1_communities_9 (by decide) ?_
    refine zwVi (As := [.int (nI 0)]) (rest := []) 0 [0, 1, 2, 3, 4, 5] rfl ⟨hx, hb, hml, hown, hts⟩ (c_X1_goesWell l D cy h b0 b1 b2 b3 b4 th N ch ds de f cs be lf od _ 0 (by omega)) (cwV 1 hts gX1_communities_X1_goesWell rfl rfl rfl (by decide +kernel) ⟨Nat.le_of_ble_eq_true rfl, Nat.le_of_ble_eq_true rfl⟩) hK hP hD hA rfl rfl rfl hl rfl (Nat.le_of_ble_eq_true rfl) dX1_communities_10 ⟨Nat.le_of_ble_eq_true rfl, Nat.le_of_ble_eq_true rfl⟩ hS (fun r10 u10 H locs hw10 hP hS => ?_)
    have hP : va_P D vwCl (wM h b0 b1 b2 b3 b4 cy (nI 0) N ch ds de f cs be lf od) H := hP
    have hD : va_D A (wM h b0 b1 b2 b3 b4 cy (nI 0) N ch ds de f cs be lf od) := zD hD rfl
    obtain rfl : r10 = (zb true) := hw10
    refine z_ifb_true_ne (tgt := 18) hx hb dX1_communities_13 (by decide) ?_
    refine lv_iconst (v := (nI 0)) hx hb dX1_communities_18 (by decide) ?_
    refine lv_istore_n (lv' := [(2, .int (nI 0)), (0, .ref h), (1, .int k)]) hx hb dX1_communities_19 rfl hl (by decide) rfl (fun ls hl => ?_)
    refine lv_iconst (v := (nI 0)) hx hb dX1_communities_20 (by decide) ?_
    refine lv_istore_n (lv' := [(3, .int (nI 0)), (2, .int (nI 0)), (0, .ref h), (1, .int k)]) hx hb dX1_communities_21 rfl hl (by decide) rfl (fun ls hl => ?_)
    have K22 : ∀ (fu22 : Nat) (i : Nat) (x : Nat) (H : Heap) (locs : List Loc) (ls : Array Slot), (i ≤ N) → (x = fb_ct (fun v => low (cmp f (cst c0 N k.toInt) v) v) i) → N - i < fu22 → va_P D vwCl (wM h b0 b1 b2 b3 b4 cy (nI 0) N ch ds de f cs be lf od) H → va_S A s.heap H locs → lv_has ls 4 [(3, .int (nI i)), (2, .int (nI x)), (0, .ref h), (1, .int k)] → W p l e (headSpec wsX1_communities ({ frames := 3, cells := 0, slots := 0, locals := 73 } : Room)).room s m ([.ref h, .int k] : List Value).toArray below meth c H locs 0 0 (MQ below (va_Qi (fun (r : Int32) (z9 : Unit) => r = nI (fb_ct (fun v => low (cmp f (cst c0 N (k).toInt) v) v) N)) (fun (z9 : Unit) t => va_P D vwCl (wM h b0 b1 b2 b3 b4 cy (nI 0) N ch ds de f cs be lf od) t.heap) A) ([.ref h, .int k] : List Value).toArray s 0 0 A) (F0 m 22 ls []) := by
      intro fu22
      induction fu22 with
      | zero =>
        intro i x H locs ls hi hxe hfu22
        exact absurd hfu22 (Nat.not_lt_zero _)
      | succ fu22 ih22 =>
        intro i x H locs ls hi hxe hfu22 hP hS hl
        have hD : va_D A (wM h b0 b1 b2 b3 b4 cy (nI 0) N ch ds de f cs be lf od) := zD hD rfl
        have hxb : x ≤ i := by rw [hxe]; exact fb_ct_le _ _
        refine lv_iload_n hx hb dX1_communities_22 rfl (lv_at hl 0 rfl) ?_
        refine lv_aload_n hx hb dX1_communities_23 rfl (lv_at hl 2 rfl) ?_
        refine va_get (D := D) (ci := 1) (v := .int (nI N)) (C := RX1) (T := TX1) (N := 10) hx hb hts hin hown hK hP 0 rfl rfl 1 (by decide) hf29 (fun _ h9 => h9) rfl dX1_communities_24 ?_
        refine z_icmp_ge (tgt := 58) hx hb dX1_communities_27 (by decide) (by omega) (by omega) (fun h27 => ?_) (fun h27 => ?_)
        · refine lv_iload_n hx hb dX1_communities_58 rfl (lv_at hl 1 rfl) ?_
          exact W.iret (v := (nI x)) hx hb hr (fun t9 ht9 hW9 => ⟨⟨(nI x), (), rfl, (by rw [hxe, Nat.le_antisymm hi h27]), by show va_P D vwCl (wM h b0 b1 b2 b3 b4 cy (nI 0) N ch ds de f cs be lf od) t9.heap; rw [ht9]; exact hP⟩, hS.F ht9⟩) hS.2.2 dX1_communities_59
        · refine lv_iload_n hx hb dX1_communities_30 rfl (lv_at hl 1 rfl) ?_
          refine lv_aload_n hx hb dX1_communities_31 rfl (lv_at hl 2 rfl) ?_
          refine lv_aload_n hx hb dX1_communities_32 rfl (lv_at hl 2 rfl) ?_
          refine lv_iload_n hx hb dX1_communities_33 rfl (lv_at hl 0 rfl) ?_
          refine lv_iload_n hx hb dX1_communities_34 rfl (lv_at hl 3 rfl) ?_
          refine zrV (As := [.int (nI i), .int k]) (rest := [.ref h, .int (nI x)]) 0 ⟨hx, hb, hml, hown, hts⟩ (c_X1_communityOf l D cy h b0 b1 b2 b3 b4 (nI 0) N ch ds de f cs be lf od i k c0 hN hg hc (by omega)) (cwV 2 hts gX1_communities_X1_communityOf rfl rfl rfl (by decide +kernel) ⟨Nat.le_of_ble_eq_true rfl, Nat.le_of_ble_eq_true rfl⟩) hK hP rfl rfl rfl hl rfl (Nat.le_of_ble_eq_true rfl) dX1_communities_35 ⟨Nat.le_of_ble_eq_true rfl, Nat.le_of_ble_eq_true rfl⟩ hS (fun r35 H locs hw35 hk9 hS => ?_)
          obtain rfl : r35 = (cmp f (cst c0 N (k).toInt) i) := hw35
          have hP := zkeep hP hk9
          refine lv_iload_n hx hb dX1_communities_38 rfl (lv_at hl 0 rfl) ?_
          refine zrV (As := [.int (cmp f (cst c0 N (k).toInt) i), .int (nI i)]) (rest := [.int (nI x)]) 0 ⟨hx, hb, hml, hown, hts⟩ (c_X1_isLowest l D cy h b0 b1 b2 b3 b4 (nI 0) N ch ds de f cs be lf od (cmp f (cst c0 N (k).toInt) i) i (by omega)) (cwV 2 hts gX1_communities_X1_isLowest rfl rfl rfl (by decide +kernel) ⟨Nat.le_of_ble_eq_true rfl, Nat.le_of_ble_eq_true rfl⟩) hK hP rfl rfl rfl hl rfl (Nat.le_of_ble_eq_true rfl) dX1_communities_39 ⟨Nat.le_of_ble_eq_true rfl, Nat.le_of_ble_eq_true rfl⟩ hS (fun r39 H locs hw39 hk9 hS => ?_)
          obtain rfl : r39 = (zb (low (cmp f (cst c0 N (k).toInt) i) i)) := hw39
          have hP := zkeep hP hk9
          refine z_ifb_eq (tgt := 49) hx hb dX1_communities_42 (by decide) (fun h42 => ?_) (fun h42 => ?_)
          · refine lv_iconst (v := (nI 0)) hx hb dX1_communities_49 (by decide) ?_
            refine z_iadd hx hb dX1_communities_50 ?_
            refine lv_istore_n (lv' := [(2, .int (nI (x + 0))), (3, .int (nI i)), (0, .ref h), (1, .int k)]) hx hb dX1_communities_51 rfl hl (by decide) rfl (fun ls hl => ?_)
            refine lv_iinc (v := (nI (i + 1))) (lv' := [(3, .int (nI (i + 1))), (2, .int (nI (x + 0))), (0, .ref h), (1, .int k)]) hx hb dX1_communities_52 hl (k := 1) rfl (nI_1 _) (by decide) rfl (fun ls hl => ?_)
            refine lv_goto (tgt := 22) hx hb dX1_communities_55 (by decide) ?_
            exact ih22 (i + 1) (x + 0) _ _ _ (by omega) (ct_no hxe h42) (by omega) hP hS (lv_sub hl [0, 1, 2, 3] rfl)
          · refine lv_iconst (v := (nI 1)) hx hb dX1_communities_45 (by decide) ?_
            refine lv_goto (tgt := 50) hx hb dX1_communities_46 (by decide) ?_
            refine z_iadd hx hb dX1_communities_50 ?_
            refine lv_istore_n (lv' := [(2, .int (nI (x + 1))), (3, .int (nI i)), (0, .ref h), (1, .int k)]) hx hb dX1_communities_51 rfl hl (by decide) rfl (fun ls hl => ?_)
            refine lv_iinc (v := (nI (i + 1))) (lv' := [(3, .int (nI (i + 1))), (2, .int (nI (x + 1))), (0, .ref h), (1, .int k)]) hx hb dX1_communities_52 hl (k := 1) rfl (nI_1 _) (by decide) rfl (fun ls hl => ?_)
            refine lv_goto (tgt := 22) hx hb dX1_communities_55 (by decide) ?_
            exact ih22 (i + 1) (x + 1) _ _ _ (by omega) (ct_yes hxe h42) (by omega) hP hS (lv_sub hl [0, 1, 2, 3] rfl)
    exact K22 (N - 0 + 1) 0 0 _ _ _ (by omega) rfl (Nat.lt_succ_self _) hP hS (lv_sub hl [0, 1, 2, 3] rfl)
  · exact absurd (Int32.not_le.mp h2) hk

set_option maxHeartbeats 4000000 in
set_option maxRecDepth 100000 in
theorem c_X1_communities_bad (l : Launch) (D : va_G) (cy : ClassId) (h b0 b1 b2 b3 b4 : Nat) (th : Int32) (N : Nat) (ch ds de : Int32) (f cs be lf od : Nat → Int32) (sz : Nat) (k : Int32) (hk : k < 0) : Met l yX1_communities wsX1_communities ({ frames := 3, cells := 0, slots := 0, locals := 73 } : Room) (va_Pc [.ref h, .int k] (zWr D (wM h b0 b1 b2 b3 b4 cy th N ch ds de f cs be lf od) [(cy, .int)] sz)) (va_Qi (fun (r : Int32) (z9 : Unit) => r = nI 0) (fun (z9 : Unit) t => va_P D vwCl (wM h b0 b1 b2 b3 b4 cy (nI 1) N ch ds de f cs be lf od) t.heap) (va_A (wM h b0 b1 b2 b3 b4 cy th N ch ds de f cs be lf od) sz)) 0 0 (va_A (wM h b0 b1 b2 b3 b4 cy th N ch ds de f cs be lf od) sz) := by
  refine Met.ofW (cc := cX1_communities) (maxL := 4) (ret := (some .int)) (by decide) rfl ?_
  intro p e s m args below meth c s₁ B hml hv
  obtain ⟨rfl, hsz, hP, hK, hD0⟩ := hv
  have hx := B.exec
  have hb := B.bytes
  have hr := B.returns
  have hts := atoms_spec (ws := wsX1_communities) B.pre
  have hown : s.vm.findClass RX1 = some m.cls := findClass_of_methodNamed B.named
  have hlocks := B.notSynchronized
  subst hsz
  have hD := hD0.self (sz := s.heap.size)
  generalize hAe : va_A (wM h b0 b1 b2 b3 b4 cy th N ch ds de f cs be lf od) s.heap.size = A at hD ⊢
  have hA : ∀ q : Nat, s.heap.size ≤ q → A q := fun q h => by rw [← hAe]; exact Or.inr h
  have hS : va_S A s.heap s.heap [] := va_S.rf
  have hin : ∀ w ∈ wsX10, w ∈ wsX1_communities := by decide +kernel
  have hf29 := hts (.fieldLink RX1 29 "CorebarnModel" "many" "I") (by decide +kernel)
  have hl := lv_entry ([.ref h, .int k]) (n := 4) (Nat.le_of_ble_eq_true rfl)
  rw [lg_entry_eq]
  generalize (lg_sl ([.ref h, .int k]) ++ List.replicate (4 - (lg_sl ([.ref h, .int k])).length) Slot.unset).toArray = ls at hl ⊢
  have hl : lv_has ls 4 [(0, .ref h), (1, .int k)] := hl
  refine lv_aload_n hx hb dX1_communities_0 rfl (lv_at hl 0 rfl) ?_
  refine lv_iload_n hx hb dX1_communities_1 rfl (lv_at hl 1 rfl) ?_
  refine lv_if_ge (tgt := 9) hx hb dX1_communities_2 (by decide) (fun h2 => ?_) (fun h2 => ?_)
  · exact absurd hk (Int32.not_lt.mpr h2)
  · refine lv_iconst (v := (nI 1)) hx hb dX1_communities_5 (by decide) ?_
    refine lv_goto (tgt := 10) hx hb dX1_communities_6 (by decide) ?_
    refine zwVi (As := [.int (nI 1)]) (rest := []) 0 [0, 1, 2, 3, 4, 5] rfl ⟨hx, hb, hml, hown, hts⟩ (c_X1_goesWell l D cy h b0 b1 b2 b3 b4 th N ch ds de f cs be lf od _ 1 (by omega)) (cwV 1 hts gX1_communities_X1_goesWell rfl rfl rfl (by decide +kernel) ⟨Nat.le_of_ble_eq_true rfl, Nat.le_of_ble_eq_true rfl⟩) hK hP hD hA rfl rfl rfl hl rfl (Nat.le_of_ble_eq_true rfl) dX1_communities_10 ⟨Nat.le_of_ble_eq_true rfl, Nat.le_of_ble_eq_true rfl⟩ hS (fun r10 u10 H locs hw10 hP hS => ?_)
    have hP : va_P D vwCl (wM h b0 b1 b2 b3 b4 cy (nI 1) N ch ds de f cs be lf od) H := hP
    have hD : va_D A (wM h b0 b1 b2 b3 b4 cy (nI 1) N ch ds de f cs be lf od) := zD hD rfl
    obtain rfl : r10 = (zb false) := hw10
    refine z_ifb_false_ne (tgt := 18) hx hb dX1_communities_13 (by decide) ?_
    refine lv_iconst (v := (nI 0)) hx hb dX1_communities_16 (by decide) ?_
    exact W.iret (v := (nI 0)) hx hb hr (fun t9 ht9 hW9 => ⟨⟨(nI 0), (), rfl, rfl, by show va_P D vwCl (wM h b0 b1 b2 b3 b4 cy (nI 1) N ch ds de f cs be lf od) t9.heap; rw [ht9]; exact hP⟩, hS.F ht9⟩) hS.2.2 dX1_communities_17
