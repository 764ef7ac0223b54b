/-! ===== the law: its frame, its room, reading the script ===== -/
abbrev lwAd (s : State) : Nat → Prop := fun q => s.heap.size ≤ q
/-- what a throw wants, as the law's start has it -/
def zThL (s : State) : Prop := (∀ X ∈ ["java/lang/RuntimeException", "java/lang/Exception", Bundle.tN], va_Nw (.declares (Bundle.initS X)) s) ∧ (∀ X ∈ [nISE, nIAE, nIOB, nNSE], va_Nw (.castable X X) s) ∧ (∀ X ∈ [nISE, nIAE, nIOB, nNSE], ∀ Y ∈ [nISE, nIAE, nIOB, nNSE], X ≠ Y → va_Nc X Y s) ∧
  vx_Zq Bundle.tN "UNASSIGNED_STACK" Bundle.steD (lwAd s) s s.heap ∧ vx_Zq Bundle.tN "SUPPRESSED_SENTINEL" Bundle.listD (lwAd s) s s.heap ∧ ∀ q ∈ zStr, ∃ a, vk_R RX0 q.1 q.2 a s
theorem zThL.at {s U : State} {H : Heap} {locs : List Loc} (h : zThL s) (hS : va_S (lwAd s) s.heap H locs) (hU : U.heap = H) (hW : s.WarmedH U.vm) : zTh U := by
  obtain ⟨h1, h2, h3, h4, h5, h6⟩ := h
  refine ⟨fun X hX => va_Nw.warmD hW (h1 X hX), fun X hX => va_Nw.warmC hW (h2 X hX), fun X hX Y hY hn => va_Nc.moved hW.alike (h3 X hX Y hY hn), ?_, ?_, fun q hq => ?_⟩
  · rw [hU]
    exact ((vx_Zq.moved hW.alike h4).kept (fun a ha hn => hS.2.1 a ha hn)).narrow (fun q hq => hq.elim)
  · rw [hU]
    exact ((vx_Zq.moved hW.alike h5).kept (fun a ha hn => hS.2.1 a ha hn)).narrow (fun q hq => hq.elim)
  · obtain ⟨a, ha⟩ := h6 q hq
    exact ⟨a, vk_R.warm hW ha⟩
/-- a room that is large enough: more than the claim's -/
abbrev rB : Room := { frames := 13, cells := 300, slots := 2000, locals := 476 }
/-- the law's frame; the script -/
def lxC (p : Program) (s : State) (m : MethodId) (c : Code) (b L : Nat) (xs : Nat → Int32) : Prop := p.tables.exec = Jvm.exec ∧ c.code = cL_law ∧ c.maxLocals = 7 ∧ s.vm.findClass RL = some m.cls ∧ (∀ w ∈ wsL_law, w.before #[Value.ref b] s = true) ∧ va_X b L xs s s.heap ∧ b < s.heap.size ∧ L = 56 ∧ xs 0 = nI 0 ∧ xs 1 = nI 264 ∧ ∀ j, 2 ≤ j → j < 56 → xs j = nI 257
section ZKG
variable {p : Program} {l : Launch} {e : Env} {R : Room} {s : State} {m : MethodId} {args : Array Value} {below : List Frame} {meth : Method} {c : Code} {H : Heap} {locs : List Loc} {cells slots : Nat} {Q : State → Prop}
variable {cc : ByteArray} {pc : Nat} {ls : Array Slot} {rest st0 : List Value} {y : MethodName} {bytes : ByteArray} {maxL nL n index : Nat} {ret : Option FieldType} {ws Ts : List Cond} {rm : Room} {own C : String} {As : List Value} {post : Int32 → Prop} {A0 : Nat → Prop} {H0 : Heap} {lv : List (Nat × Value)}
/-- a static call that reads what X says -/
theorem kSg {X : State → Prop} (cf : CallFix p m c cc nL s args Ts own) (hM : Met l y ws rm (va_Pc As X) (zPo post) 0 0 zNo) (cw : CallB R s args own index y bytes maxL ret ws rm 0 0 n ∧ (Cond.static y).before args s = true) (hXb : ∀ (U : State) (g : JFrame) (mk : MethodId) (a : Array Value), X U → X (U.calling g mk a)) (hXp : ∀ U : State, U.heap = H → s.WarmedH U.vm → X U) (hn : As.length = n) (hl : lv_has ls nL lv) (hst : st0 = As.reverse ++ rest) (hrm : (rest.map fun v => v.category).sum ≤ 8) (hdg : decode cc pc = .ok (.invokestatic index, 3)) (hf : cells + 0 ≤ R.cells ∧ slots + 0 ≤ R.slots) (hS : va_S A0 H0 H locs)
    (kk : ∀ (r : Int32) (H1 : Heap) (locs1 : List Loc), post r → zKp H H1 → va_S A0 H0 H1 locs1 → W p l e R s m args below meth c H1 locs1 cells slots Q (F0 m (pc + 3) ls (.int r :: rest))) : W p l e R s m args below meth c H locs cells slots Q (F0 m pc ls st0) := by
  subst hst
  exact va_calli (va_runS cf hM cw ⟨fun a U g mk q => ⟨q.1, hXb U g mk a q.2⟩, fun U hU hW => ⟨rfl, hXp U hU hW⟩⟩ rfl hn hl.1 rfl (lv_room hrm) hdg hf) hS (fun _ _ h => h.elim) (fun _ h => h.elim) (fun r u t H1 locs1 ht hvm hw hB hz hk hS1 => kk r H1 locs1 hw ⟨hz, fun q h => hk q h (fun z => z)⟩ hS1)
end ZKG
/-- what cell wants: the script -/
def kXs (b L : Nat) (xs : Nat → Int32) : State → Prop := fun U => va_X b L xs U U.heap ∧ b < U.heap.size
set_option maxHeartbeats 4000000 in
theorem c_L_cell (l : Launch) (b L k : Nat) (xs : Nat → Int32) (hL : L ≤ 260) (hk : k < L) : Met l yL_cell wsL_cell ({ frames := 0, cells := 0, slots := 0, locals := 0 } : Room) (va_Pc [.ref b, .int (nI k)] (kXs b L xs)) (zPo (fun r => r = xs k)) 0 0 zNo := by
  refine Met.ofW (cc := cL_cell) (maxL := 2) (ret := (some .int)) (by decide) rfl ?_
  intro p e s m args below meth c s₁ B hml hv
  obtain ⟨rfl, hX, hbl⟩ := hv
  have hx := B.exec
  have hb := B.bytes
  have hr := B.returns
  have hlocks := B.notSynchronized
  have hS : va_S (fun _ => False) s.heap s.heap [] := va_S.rf
  have hl := lv_entry ([.ref b, .int (nI k)]) (n := 2) (Nat.le_of_ble_eq_true rfl)
  rw [lg_entry_eq]
  generalize (lg_sl ([.ref b, .int (nI k)]) ++ List.replicate (2 - (lg_sl ([.ref b, .int (nI k)])).length) Slot.unset).toArray = ls at hl ⊢
  have hl : lv_has ls 2 [(0, .ref b), (1, .int (nI k))] := hl
  refine lv_iload_n hx hb dL_cell_0 rfl (lv_at hl 1 rfl) ?_
  refine lv_aload_n hx hb dL_cell_1 rfl (lv_at hl 0 rfl) ?_
  refine va_slen hx hb hX hbl (fun q => q) hS dL_cell_2 ?_
  refine z_icmp_ge (a := k) (b := L) (tgt := 12) hx hb dL_cell_3 (by decide) (by omega) (by omega) (fun q => absurd q (by omega)) (fun _ => ?_)
  refine lv_aload_n hx hb dL_cell_6 rfl (lv_at hl 0 rfl) ?_
  refine lv_iload_n hx hb dL_cell_7 rfl (lv_at hl 1 rfl) ?_
  refine va_sld hx hb hX hbl (fun q => q) hS (vp_in_nI hk (by omega)) dL_cell_8 ?_
  rw [nI_clamp (by omega)]
  refine lv_goto (tgt := 27) hx hb dL_cell_9 (by decide) ?_
  exact W.iret hx hb hr (fun t9 ht9 hW9 => ⟨⟨_, (), rfl, rfl, trivial⟩, hS.F ht9⟩) hS.2.2 dL_cell_27
