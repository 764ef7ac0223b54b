/-! ===== the law's own rows ===== -/
/-- the cells of the law: its row of a long and Corebarn's, then CorebarnModel's -/
abbrev wA (h a0 a1 a2 : Nat) (cy : ClassId) (N : Nat) (ec cc : Int32) (f cs tr : Nat → Int32) (o : Nat) (cl : ClassId) (g : Nat → Int64) (h2 b0 b1 b2 b3 b4 : Nat) (th ds de : Int32) (cs2 be lf od : Nat → Int32) : va_W := wBL h a0 a1 a2 cy N ec cc f cs tr o cl g ++ wM h2 b0 b1 b2 b3 b4 cy th N cc ds de f cs2 be lf od
/-- the network N, f stands in both -/
def lwI (D : va_G) (A : Nat → Prop) (h a0 a1 a2 : Nat) (cy : ClassId) (o : Nat) (cl : ClassId) (h2 b0 b1 b2 b3 b4 : Nat) (N : Nat) (f : Nat → Int32) (H : Heap) : Prop :=
  gd f N ∧ ∃ (ec cc : Int32) (cs tr : Nat → Int32) (g : Nat → Int64) (th ds de : Int32) (cs2 be lf od : Nat → Int32), csJ cs (cnum f N) N ∧ ec = nI (ewn f N (zal N)) ∧ va_P D vwCl (wA h a0 a1 a2 cy N ec cc f cs tr o cl g h2 b0 b1 b2 b3 b4 th ds de cs2 be lf od) H ∧ va_D A (wA h a0 a1 a2 cy N ec cc f cs tr o cl g h2 b0 b1 b2 b3 b4 th ds de cs2 be lf od)
/-- the law's frame -/
def lwC (p : Program) (s : State) (m : MethodId) (c : Code) (b L : Nat) (xs : Nat → Int32) : Prop := p.tables.exec = Jvm.exec ∧ c.code = cL_law ∧ c.maxLocals = 9 ∧ s.vm.findClass RL = some m.cls ∧ (∀ w ∈ wsL_law, w.before #[Value.ref b] s = true) ∧ va_X b L xs s s.heap ∧ b < s.heap.size ∧ L ≤ 1536
abbrev lwAd (s : State) : Nat → Prop := fun q => s.heap.size ≤ q
/-- what a throw wants, as the law's start has it -/
def zThL (s : State) : Prop := (∀ X ∈ ["java/lang/RuntimeException", "java/lang/Exception", Bundle.tN], va_Nw (.declares (Bundle.initS X)) s) ∧ (∀ X ∈ [nISE, nIAE, nIOB, nNSE], va_Nw (.castable X X) s) ∧ (∀ X ∈ [nISE, nIAE, nIOB, nNSE], ∀ Y ∈ [nISE, nIAE, nIOB, nNSE], X ≠ Y → va_Nc X Y s) ∧
  vx_Zq Bundle.tN "UNASSIGNED_STACK" Bundle.steD (lwAd s) s s.heap ∧ vx_Zq Bundle.tN "SUPPRESSED_SENTINEL" Bundle.listD (lwAd s) s s.heap ∧ ∀ q ∈ zStr, ∃ a, vk_R RX0 q.1 q.2 a s
theorem zThL.at {s U : State} {H : Heap} {locs : List Loc} (h : zThL s) (hS : va_S (lwAd s) s.heap H locs) (hU : U.heap = H) (hW : s.WarmedH U.vm) : zTh U := by
  obtain ⟨h1, h2, h3, h4, h5, h6⟩ := h
  refine ⟨fun X hX => va_Nw.warmD hW (h1 X hX), fun X hX => va_Nw.warmC hW (h2 X hX), fun X hX Y hY hn => va_Nc.moved hW.alike (h3 X hX Y hY hn), ?_, ?_, fun q hq => ?_⟩
  · rw [hU]
    exact ((vx_Zq.moved hW.alike h4).kept (fun a ha hn => hS.2.1 a ha hn)).narrow (fun q hq => hq.elim)
  · rw [hU]
    exact ((vx_Zq.moved hW.alike h5).kept (fun a ha hn => hS.2.1 a ha hn)).narrow (fun q hq => hq.elim)
  · obtain ⟨a, ha⟩ := h6 q hq
    exact ⟨a, vk_R.warm hW ha⟩
section ZL
variable {p : Program} {l : Launch} {e : Env} {R : Room} {s : State} {m : MethodId} {args : Array Value} {below : List Frame} {meth : Method} {c : Code} {H : Heap} {locs : List Loc} {cells slots : Nat} {Q : State → Prop}
variable {cc : ByteArray} {pc : Nat} {ls : Array Slot} {rest : List Value}
theorem z_sld (hexec : p.tables.exec = Jvm.exec) (hb : c.code = cc) {b L : Nat} {xs : Nat → Int32} {A : Nat → Prop} {H0 : Heap} (hX : va_X b L xs s H0) (hbl : b < H0.size) (hbA : ¬ A b) (hS : va_S A H0 H locs) {j : Nat} (hj : j < L) (hL : L ≤ 1536) (hdg : decode cc pc = .ok (.iaload, 1))
    (kk : W p l e R s m args below meth c H locs cells slots Q (F0 m (pc + 1) ls (.int (xs j) :: rest))) : W p l e R s m args below meth c H locs cells slots Q (F0 m pc ls (.int (nI j) :: .ref b :: rest)) :=
  va_sld hexec hb hX hbl hbA hS (vp_in_nI hj (by omega)) hdg (by rw [nI_clamp (by omega)]; exact kk)
theorem z_lald0 (hexec : p.tables.exec = Jvm.exec) (hb : c.code = cc) {D : va_G} {cl : List vw_C} {tys : List (ClassId × FieldType)} {ws : va_W} {a : Nat} (hK : va_K D cl tys s) (hP : va_P D cl ws H) (q0 t0 : Nat) {cA : ClassId} {g : Nat → Int64} {y : Int64} (ha : ws[q0]? = some (a, .inl (cA, 1, .inr (.inl (vp_updL g 0 y))))) (ht : tys[t0]? = some (cA, .long)) (hdg : decode cc pc = .ok (.laload, 1))
    (kk : W p l e R s m args below meth c H locs cells slots Q (F0 m (pc + 1) ls (.long y :: rest))) : W p l e R s m args below meth c H locs cells slots Q (F0 m pc ls (.int (nI 0) :: .ref a :: rest)) :=
  va_lald hexec hb hK hP q0 t0 ha ht (vp_in_nI (by decide) (by decide)) hdg (by rw [nI_clamp (by decide), pk_uLs]; exact kk)
theorem z_lcmp (hexec : p.tables.exec = Jvm.exec) (hb : c.code = cc) {x y : Int64} (he : x = y) (hdg : decode cc pc = .ok (.lcmp, 1))
    (kk : W p l e R s m args below meth c H locs cells slots Q (F0 m (pc + 1) ls (.int (nI 0) :: rest))) : W p l e R s m args below meth c H locs cells slots Q (F0 m pc ls (.long y :: .long x :: rest)) := by
  subst he
  refine W.lcmp hexec hb hdg ?_
  have e0 : lg_cmp x x = nI 0 := by
    unfold lg_cmp
    rw [if_neg Int64.lt_irrefl, if_pos rfl]
    rfl
  rw [e0]
  exact kk
theorem z_dcmp (hexec : p.tables.exec = Jvm.exec) (hb : c.code = cc) {x : UInt64} {op : CmpOp} (he : FP.dcmp x x = some .eq) (hdg : decode cc pc = .ok (.dcmp op, 1))
    (kk : W p l e R s m args below meth c H locs cells slots Q (F0 m (pc + 1) ls (.int (nI 0) :: rest))) : W p l e R s m args below meth c H locs cells slots Q (F0 m pc ls (.double x :: .double x :: rest)) :=
  lv_dcmp hexec hb hdg (by rw [he]; exact kk)
end ZL
theorem dnv_eq {f : Nat → Int32} {N : Nat} (hg : gd f N) : FP.dcmp (dnv f N) (dnv f N) = some .eq := by
  unfold dnv
  by_cases h : N = 0
  · rw [if_pos h]; decide +kernel
  · rw [if_neg h]
    have := dn_b hg h
    unfold ddc at this
    rw [Bool.and_eq_true, decide_eq_true_iff, decide_eq_true_iff] at this
    exact this.2
