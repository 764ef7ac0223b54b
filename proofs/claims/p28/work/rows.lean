section
-- ===== PART A: goes FIRST, ahead of the names: the tables' words, and 'selects' of the private methods out of them =====
/-- a private method of a class that the tables say can be made, by its rows of tables_1 -/
def lw_okq (q : MethodName × Nat) : Prop := (q.1.cls ≠ "java/lang/invoke/MethodHandle" ∧ q.1.cls ≠ "java/lang/invoke/VarHandle") ∧ Cond.instantiable q.1.cls q.2 ∈ tables_1 ∧ Cond.privateMethod q.1 ∈ tables_1 ∧ Cond.instanceMethod q.1 ∈ tables_1
theorem lw_p0 : lw_okq (⟨"java/lang/Throwable", "fillInStackTrace", "(I)Ljava/lang/Throwable;"⟩, 6) := ⟨⟨by decide +kernel, by decide +kernel⟩, List.mem_of_getElem? (i := 101) (by decide +kernel), List.mem_of_getElem? (i := 99) (by decide +kernel), List.mem_of_getElem? (i := 100) (by decide +kernel)⟩
theorem lw_p1 : lw_okq (⟨"Corebarn", "checkPair", "(II)V"⟩, 6) := ⟨⟨by decide +kernel, by decide +kernel⟩, List.mem_of_getElem? (i := 12) (by decide +kernel), List.mem_of_getElem? (i := 142) (by decide +kernel), List.mem_of_getElem? (i := 143) (by decide +kernel)⟩
theorem lw_p2 : lw_okq (⟨"Corebarn", "checkNode", "(I)V"⟩, 6) := ⟨⟨by decide +kernel, by decide +kernel⟩, List.mem_of_getElem? (i := 12) (by decide +kernel), List.mem_of_getElem? (i := 146) (by decide +kernel), List.mem_of_getElem? (i := 147) (by decide +kernel)⟩
theorem lw_p3 : lw_okq (⟨"Corebarn", "checkEdge", "(II)V"⟩, 6) := ⟨⟨by decide +kernel, by decide +kernel⟩, List.mem_of_getElem? (i := 12) (by decide +kernel), List.mem_of_getElem? (i := 182) (by decide +kernel), List.mem_of_getElem? (i := 183) (by decide +kernel)⟩
theorem lw_p4 : lw_okq (⟨"Corebarn", "cutEdge", "(II)I"⟩, 6) := ⟨⟨by decide +kernel, by decide +kernel⟩, List.mem_of_getElem? (i := 12) (by decide +kernel), List.mem_of_getElem? (i := 208) (by decide +kernel), List.mem_of_getElem? (i := 209) (by decide +kernel)⟩
theorem lw_p5 : lw_okq (⟨"Corebarn", "nearShell", "(III)I"⟩, 6) := ⟨⟨by decide +kernel, by decide +kernel⟩, List.mem_of_getElem? (i := 12) (by decide +kernel), List.mem_of_getElem? (i := 218) (by decide +kernel), List.mem_of_getElem? (i := 219) (by decide +kernel)⟩
theorem lw_p6 : lw_okq (⟨"Corebarn", "shellSet", "(I)I"⟩, 6) := ⟨⟨by decide +kernel, by decide +kernel⟩, List.mem_of_getElem? (i := 12) (by decide +kernel), List.mem_of_getElem? (i := 225) (by decide +kernel), List.mem_of_getElem? (i := 226) (by decide +kernel)⟩
theorem lw_p7 : lw_okq (⟨"Corebarn", "coreSet", "(I)I"⟩, 6) := ⟨⟨by decide +kernel, by decide +kernel⟩, List.mem_of_getElem? (i := 12) (by decide +kernel), List.mem_of_getElem? (i := 229) (by decide +kernel), List.mem_of_getElem? (i := 230) (by decide +kernel)⟩
theorem lw_p8 : lw_okq (⟨"Corebarn", "reach", "(II)I"⟩, 6) := ⟨⟨by decide +kernel, by decide +kernel⟩, List.mem_of_getElem? (i := 12) (by decide +kernel), List.mem_of_getElem? (i := 233) (by decide +kernel), List.mem_of_getElem? (i := 234) (by decide +kernel)⟩
theorem lw_p9 : lw_okq (⟨"Corebarn", "supportedPart", "(III)I"⟩, 6) := ⟨⟨by decide +kernel, by decide +kernel⟩, List.mem_of_getElem? (i := 12) (by decide +kernel), List.mem_of_getElem? (i := 237) (by decide +kernel), List.mem_of_getElem? (i := 238) (by decide +kernel)⟩
theorem lw_p10 : lw_okq (⟨"Corebarn", "changeCores", "(II)I"⟩, 6) := ⟨⟨by decide +kernel, by decide +kernel⟩, List.mem_of_getElem? (i := 12) (by decide +kernel), List.mem_of_getElem? (i := 250) (by decide +kernel), List.mem_of_getElem? (i := 251) (by decide +kernel)⟩
theorem lw_p11 : lw_okq (⟨"Corebarn", "raiseCores", "(II)I"⟩, 6) := ⟨⟨by decide +kernel, by decide +kernel⟩, List.mem_of_getElem? (i := 12) (by decide +kernel), List.mem_of_getElem? (i := 269) (by decide +kernel), List.mem_of_getElem? (i := 270) (by decide +kernel)⟩
theorem lw_p12 : lw_okq (⟨"Corebarn", "allNodes", "()I"⟩, 6) := ⟨⟨by decide +kernel, by decide +kernel⟩, List.mem_of_getElem? (i := 12) (by decide +kernel), List.mem_of_getElem? (i := 339) (by decide +kernel), List.mem_of_getElem? (i := 340) (by decide +kernel)⟩
theorem lw_p13 : lw_okq (⟨"Corebarn", "nextToPeel", "(I)I"⟩, 6) := ⟨⟨by decide +kernel, by decide +kernel⟩, List.mem_of_getElem? (i := 12) (by decide +kernel), List.mem_of_getElem? (i := 343) (by decide +kernel), List.mem_of_getElem? (i := 344) (by decide +kernel)⟩
theorem lw_p14 : lw_okq (⟨"Corebarn", "denseSet", "()I"⟩, 6) := ⟨⟨by decide +kernel, by decide +kernel⟩, List.mem_of_getElem? (i := 12) (by decide +kernel), List.mem_of_getElem? (i := 351) (by decide +kernel), List.mem_of_getElem? (i := 352) (by decide +kernel)⟩
theorem lw_p15 : lw_okq (⟨"Corebarn", "edgesWithin", "(I)I"⟩, 6) := ⟨⟨by decide +kernel, by decide +kernel⟩, List.mem_of_getElem? (i := 12) (by decide +kernel), List.mem_of_getElem? (i := 355) (by decide +kernel), List.mem_of_getElem? (i := 356) (by decide +kernel)⟩
def lw_privs_1 : List (MethodName × Nat) := [(⟨"java/lang/Throwable", "fillInStackTrace", "(I)Ljava/lang/Throwable;"⟩, 6), (⟨"Corebarn", "checkPair", "(II)V"⟩, 6), (⟨"Corebarn", "checkNode", "(I)V"⟩, 6), (⟨"Corebarn", "checkEdge", "(II)V"⟩, 6), (⟨"Corebarn", "cutEdge", "(II)I"⟩, 6), (⟨"Corebarn", "nearShell", "(III)I"⟩, 6), (⟨"Corebarn", "shellSet", "(I)I"⟩, 6), (⟨"Corebarn", "coreSet", "(I)I"⟩, 6), (⟨"Corebarn", "reach", "(II)I"⟩, 6), (⟨"Corebarn", "supportedPart", "(III)I"⟩, 6), (⟨"Corebarn", "changeCores", "(II)I"⟩, 6), (⟨"Corebarn", "raiseCores", "(II)I"⟩, 6), (⟨"Corebarn", "allNodes", "()I"⟩, 6), (⟨"Corebarn", "nextToPeel", "(I)I"⟩, 6), (⟨"Corebarn", "denseSet", "()I"⟩, 6), (⟨"Corebarn", "edgesWithin", "(I)I"⟩, 6)]
theorem lw_r1 : ∀ q ∈ lw_privs_1, lw_okq q := List.forall_mem_cons.mpr ⟨lw_p0, List.forall_mem_cons.mpr ⟨lw_p1, List.forall_mem_cons.mpr ⟨lw_p2, List.forall_mem_cons.mpr ⟨lw_p3, List.forall_mem_cons.mpr ⟨lw_p4, List.forall_mem_cons.mpr ⟨lw_p5, List.forall_mem_cons.mpr ⟨lw_p6, List.forall_mem_cons.mpr ⟨lw_p7, List.forall_mem_cons.mpr ⟨lw_p8, List.forall_mem_cons.mpr ⟨lw_p9, List.forall_mem_cons.mpr ⟨lw_p10, List.forall_mem_cons.mpr ⟨lw_p11, List.forall_mem_cons.mpr ⟨lw_p12, List.forall_mem_cons.mpr ⟨lw_p13, List.forall_mem_cons.mpr ⟨lw_p14, List.forall_mem_cons.mpr ⟨lw_p15, fun _ h => absurd h List.not_mem_nil⟩⟩⟩⟩⟩⟩⟩⟩⟩⟩⟩⟩⟩⟩⟩⟩
theorem lw_p16 : lw_okq (⟨"Corebarn", "startTrusses", "()V"⟩, 6) := ⟨⟨by decide +kernel, by decide +kernel⟩, List.mem_of_getElem? (i := 12) (by decide +kernel), List.mem_of_getElem? (i := 377) (by decide +kernel), List.mem_of_getElem? (i := 378) (by decide +kernel)⟩
theorem lw_p17 : lw_okq (⟨"Corebarn", "shrinkToTruss", "(I)V"⟩, 6) := ⟨⟨by decide +kernel, by decide +kernel⟩, List.mem_of_getElem? (i := 12) (by decide +kernel), List.mem_of_getElem? (i := 381) (by decide +kernel), List.mem_of_getElem? (i := 382) (by decide +kernel)⟩
theorem lw_p18 : lw_okq (⟨"Corebarn", "dropWeakEdges", "(I)Z"⟩, 6) := ⟨⟨by decide +kernel, by decide +kernel⟩, List.mem_of_getElem? (i := 12) (by decide +kernel), List.mem_of_getElem? (i := 385) (by decide +kernel), List.mem_of_getElem? (i := 386) (by decide +kernel)⟩
theorem lw_p19 : lw_okq (⟨"Corebarn", "countCommunities", "(II)I"⟩, 6) := ⟨⟨by decide +kernel, by decide +kernel⟩, List.mem_of_getElem? (i := 12) (by decide +kernel), List.mem_of_getElem? (i := 409) (by decide +kernel), List.mem_of_getElem? (i := 410) (by decide +kernel)⟩
def lw_privs_2 : List (MethodName × Nat) := [(⟨"Corebarn", "startTrusses", "()V"⟩, 6), (⟨"Corebarn", "shrinkToTruss", "(I)V"⟩, 6), (⟨"Corebarn", "dropWeakEdges", "(I)Z"⟩, 6), (⟨"Corebarn", "countCommunities", "(II)I"⟩, 6)]
theorem lw_r2 : ∀ q ∈ lw_privs_2, lw_okq q := List.forall_mem_cons.mpr ⟨lw_p16, List.forall_mem_cons.mpr ⟨lw_p17, List.forall_mem_cons.mpr ⟨lw_p18, List.forall_mem_cons.mpr ⟨lw_p19, fun _ h => absurd h List.not_mem_nil⟩⟩⟩⟩
def lw_privs : List (MethodName × Nat) := lw_privs_1 ++ (lw_privs_2)
def lw_tbl : List Cond := k2_sels lw_privs ++ tables_1
theorem lw_privs_ok : ∀ q ∈ lw_privs, lw_okq q := by
  show ∀ q ∈ lw_privs_1 ++ (lw_privs_2), lw_okq q
  exact List.forall_mem_append.mpr ⟨lw_r1, lw_r2⟩
/-- the streams that the claim lets the run draw from -/
abbrev lw_cs : List Choice := [Jvm.Choice.named "NaN.bits"]
theorem lw_bits : nanBits ∈ lw_cs := by first | decide | exact List.mem_cons_self | simp [lw_cs, nanBits]
-- ===== end of PART A; then your names; then what follows =====
end
section
/-! ===== BEGIN words of one list among another's, by their places ===== -/
theorem goodIn_r {big : List Cond} (ws : List Cond) (ps : List Nat) (hp : ws = ps.filterMap (fun i => big[i]?)) (h : ws.all goodWord = true) : GoodIn big ws := by
  intro w hw
  have h1 := List.all_eq_true.mp h w hw
  rw [hp] at hw
  obtain ⟨i, -, hi⟩ := List.mem_filterMap.mp hw
  have hm : w ∈ big := by first | exact List.mem_of_getElem? hi | exact List.getElem?_mem hi
  exact ⟨hm, good_of_word h1⟩
theorem goodIn_app {big a b : List Cond} (ha : GoodIn big a) (hb : GoodIn big b) : GoodIn big (a ++ b) := fun w h => (List.mem_append.mp h).elim (ha w) (hb w)
theorem goodIn_ca {big a b : List Cond} {c : Cond} (ha : GoodIn big (c :: a)) (hb : GoodIn big b) : GoodIn big (c :: (a ++ b)) := fun w h => (List.mem_cons.mp h).elim (fun e => ha w (List.mem_cons.mpr (Or.inl e))) (fun h => (List.mem_append.mp h).elim (fun h => ha w (List.mem_cons.mpr (Or.inr h))) (hb w))
theorem goodIn_sub {big ws : List Cond} (hm : ∀ w ∈ ws, w ∈ big) (h : ws.all goodWord = true) : GoodIn big ws := fun w hw => ⟨hm w hw, good_of_word (List.all_eq_true.mp h w hw)⟩
/-! ===== END ===== -/

/-! ===== BEGIN exceptions that leave a method, and their catching by the caller (launches without stack traces) ===== -/
section VXA
/-! The laws vx_back, vx_callV, vx_callS, vx_callSW, vx_throw0, vx_throwS follow proofs of the library, with one case more: JvmDerived/Free/Laws.lean (Back.of_free), Shelf42/LK1.lean (callV, callS), Shelf/KitTraced.lean (throwNew0V, throwNewS). -/
/-- where a method has thrown q: the class by its name, the cell, what was written, the world -/
def vx_T (XC : String → State → State → Prop) (st : State) (q : Addr) (t : State) (mc ms : Nat) (free : Addr → Prop) : Prop :=
  ∃ (E : String) (ce : Cell) (L : List Loc), XC E st t ∧ t.heap[q]? = some ce ∧ ce.vm = .none ∧ st.vm.findClass E = some ce.cls ∧ st.WarmedH t.vm ∧ st.sameButNew ({ t with vm := st.vm } : State) L mc ms ∧ ∀ z ∈ L, free z.base
def vx_Q (Qc : Array Value → State → Outcome → State → Prop) (XC : String → State → State → Prop) (mc ms : Nat) (free : Addr → Prop) : Array Value → State → Outcome → State → Prop := fun a st o t =>
  (Qc a st o t ∧ ∃ L, FrameEnd st o t L mc ms ∧ ∀ q ∈ L, free q.base) ∨ ∃ q, o = .threw q ∧ vx_T XC st q t mc ms free
/-- a callee that returns or throws -/
def vx_Met (l : Launch) (y : MethodName) (ws : List Cond) (rm : Room) (Pc : Array Value → State → Prop) (Qc : Array Value → State → Outcome → State → Prop) (XC : String → State → State → Prop) (mc ms : Nat) (free : Addr → Prop) : Prop :=
  MetFree l y (headSpec ws rm) Pc (fun _ _ _ _ _ => True) (vx_Q Qc XC mc ms free)
def vx_Post (XC : String → State → State → Prop) (mc ms : Nat) (free : Addr → Prop) : Pt → Array Value → Addr → Pt → Prop := fun A a q B =>
  ∃ (g : JFrame) (mk : MethodId) (t : State) (L : List Loc) (E : String) (ce : Cell), B.U.heap = t.heap ∧ B.U.vm = t.vm ∧ XC E (A.U.calling g mk a) t ∧ t.heap[q]? = some ce ∧ ce.vm = .none ∧ A.U.vm.findClass E = some ce.cls ∧ B.locs = A.locs ++ L ∧ (∀ z ∈ L, free z.base) ∧ B.cells = A.cells + mc ∧ B.slots = A.slots + ms
def vx_Back (l : Launch) (R : Room) (p : Program) (e : Env) (below : List Frame) (s : State) (sargs : Array Value) (y : MethodName) (len W9 : Nat)
    (Pre : Pt → Array Value → Prop) (Post : Pt → Array Value → Option Value → Pt → Prop) (PostX : Pt → Array Value → Addr → Pt → Prop) : Prop :=
  ∀ (m : MethodId) (meth : Method) (c : Code) (A : Pt) (g : JFrame) (ig : Instr) (mk : MethodId) (a : Array Value),
    Stand p l e R s m sargs below meth c A.U A.locs A.cells A.slots → g.method = m → g.locals.size = c.maxLocals → decode c.code g.pc = .ok (ig, len) →
    2 * g.monitorRoom + (g.stack.map fun v => v.category).sum ≤ W9 → A.U.methodNamed? y = some mk → Pre A a →
    (∃ (v : Option Value) (B : Pt), Stand p l e R s m sargs below meth c B.U B.locs B.cells B.slots ∧ Post A a v B ∧
      Steps p.tables e below (doInvoke e (A.U.setTop g) [] mk a).1 (B.U.setTop { g with pc := g.pc + len, stack := v.toList ++ g.stack })) ∨
    (∃ (q : Addr) (B : Pt), Stand p l e R s m sargs below meth c B.U B.locs B.cells B.slots ∧ PostX A a q B ∧
      Steps p.tables e below (doInvoke e (A.U.setTop g) [] mk a).1 ((B.U.setTop g).pushFrame (.throwing q)))
section Payer
variable {l : Launch} {R : Room} {p : Program} {e : Env} {below : List Frame} {s : State} {sargs : Array Value} {y : MethodName} {len W9 : Nat}
theorem vx_back {ws : List Cond} {rm : Room} {Pc : Array Value → State → Prop} {Qc : Array Value → State → Outcome → State → Prop} {XC : String → State → State → Prop} {mc ms : Nat} {free : Addr → Prop} {bytes : ByteArray} {maxL : Nat} {ret : Option FieldType}
    (hM : vx_Met l y ws rm Pc Qc XC mc ms free) (hblind : FrameBlind Pc) (hrc : rm.cells = mc) (hrs : rm.slots = ms)
    (hframes : rm.frames + 1 ≤ R.frames) (hlocals : W9 + (maxL + 11) + rm.locals ≤ R.locals)
    (hws : ∀ w ∈ ws, ∀ a' U, s.WarmedH U.vm → w.before a' U = true) (hcode : Cond.code y bytes maxL ret ∈ ws) (hinit : ∀ a' U, s.WarmedH U.vm → (Cond.initialized y.cls).before a' U = true) :
    vx_Back l R p e below s sargs y len W9 (PreOf R mc ms Pc) (PostOf Qc mc ms free) (vx_Post XC mc ms free) := by
  intro m meth c A g ig mk a X hg hsize hdg hW hn hp
  have h1 : (headSpec ws rm).pre.before a A.U = true := atoms_intro fun w hw => hws w hw _ _ X.warmed
  have h2 : (Cond.code y bytes maxL ret).before a A.U = true := hws _ hcode _ _ X.warmed
  have h3 : (Cond.initialized y.cls).before a A.U = true := hinit _ _ X.warmed
  have h4 : A.cells + (headSpec ws rm).room.cells ≤ R.cells := by rw [show (headSpec ws rm).room.cells = mc from hrc]; exact hp.1
  have h5 : A.slots + (headSpec ws rm).room.slots ≤ R.slots := by rw [show (headSpec ws rm).room.slots = ms from hrs]; exact hp.2.1
  have hPc : Pc a (A.U.calling g mk a) := hblind _ _ _ _ hp.2.2
  obtain ⟨U, Ls, c0, s0⟩ := A
  dsimp only [Pt.U, Pt.locs, Pt.cells, Pt.slots] at h1 h2 h3 h4 h5 X hn hPc ⊢
  obtain ⟨methY, cY, hmY, hcY, -, hlY, -, -, -, -⟩ := Cond.code_spec hn h2
  obtain ⟨kY, hkY, -⟩ := className_of_methodNamed hn
  have hinitY : kY.init = .initialized := Cond.initialized_spec (findClass_of_methodNamed hn) hkY h3
  have h : At U g.method c below := by rw [hg]; exact X.here
  have hlocals9 : W9 + (maxL + 11) + (headSpec ws rm).room.locals ≤ R.locals := hlocals
  have happ : (headSpec ws rm).appliesLoose y e.platform (U.calling g mk a) = true :=
    Spec.appliesLoose_calling (g := g) h hdg hn hkY hinitY
      (X.room_calling (g := g) (R' := (headSpec ws rm).room) hsize hmY hcY hframes (by rw [hlY]; omega) h4 h5) h1
  obtain ⟨mid, hmid⟩ := h.above
  have hfr : (U.setTop g).frames = (.java g :: mid) ++ below := by rw [State.frames_setTop' g h.top, hmid]; rfl
  obtain ⟨o, s₂, hsteps, -, hend, hq⟩ := Steps.callFree hM p X.admits X.cas X.clock (acts := []) hfr happ hPc trivial
  have hq' : vx_Q Qc XC mc ms free a (U.calling g mk a) o s₂ := hq
  rw [State.frames_setTop' g h.top] at hend
  obtain ⟨g₀, hg0⟩ := Option.isSome_iff_exists.mp h.top
  obtain ⟨r, hr⟩ := State.topJava?_eq_some.mp hg0
  have hr' : (({ U with heap := s₂.heap, slotsUsed := s₂.slotsUsed } : State).setVm s₂.vm).frames = .java g₀ :: r := hr
  rcases hq' with ⟨hqc, L, hfe, hL⟩ | ⟨q, rfl, E, ce, L, hx, hce, hcv, hcl, hW₂, hsm, hL⟩
  · obtain ⟨⟨v, rfl⟩, hW₂, e2, q2, q3, q4, q5, q6⟩ := id hfe
    have e3 : s₂ = ({ (U.calling g mk a).setFrames s₂.frames with heap := s₂.heap, slotsUsed := s₂.slotsUsed } : State).setVm s₂.vm := by
      have : s₂ = ({ s₂ with vm := (U.calling g mk a).vm } : State).setVm s₂.vm := rfl
      rw [e2] at this
      exact this
    obtain ⟨c₂, i₂, len₂, hc₂, hd₂, hf₂⟩ := hend
    have hW' : U.WarmedH s₂.vm := hW₂
    have hcc : c₂ = c := by
      have h1 : s₂.code? g.method = U.code? g.method := by
        rw [State.code?_eq, State.code?_eq, hW'.alike.method?]
      exact Option.some.inj (hc₂.symm.trans (h1.trans h.code))
    subst hcc
    have hlen : len₂ = len := by rw [hdg] at hd₂; cases hd₂; rfl
    subst hlen
    have hs₂ : s₂ = (({ U with heap := s₂.heap, slotsUsed := s₂.slotsUsed } : State).setVm s₂.vm).setTop { g with pc := g.pc + len₂, stack := v.toList ++ g.stack } := by
      refine e3.trans ?_
      rw [hf₂, State.calling_eq h.top, State.setFrames_setFrames, State.setTop_of_frames _ hr', hr]
      rfl
    have hsame : U.sameButNew ({ U with heap := s₂.heap, slotsUsed := s₂.slotsUsed } : State) L mc ms := by
      refine ⟨?_, q2, q3, q4, q5, q6⟩
      obtain ⟨t, ht, -⟩ := State.frames_cons hr
      show ({ U with heap := s₂.heap, slotsUsed := s₂.slotsUsed } : State) = { U.setFrames U.frames with heap := s₂.heap, slotsUsed := s₂.slotsUsed }
      rw [State.setFrames_self ht]
    subst hg
    refine Or.inl ⟨v, ⟨(({ U with heap := s₂.heap, slotsUsed := s₂.slotsUsed } : State).setVm s₂.vm), Ls ++ L, c0 + mc, s0 + ms⟩,
      ⟨X.admits, X.cas, X.clock, X.frames, X.room, X.hears, X.method, X.code, (X.here.setHeapUsed s₂.heap s₂.slotsUsed).setVm hW'.alike, X.tail, State.WarmedH.trans X.warmed hW', X.limits, X.bytes, X.same.trans (hsame.setVm s.vm)⟩,
      ⟨g, mk, s₂, L, rfl, rfl, hqc, rfl, hL, rfl, rfl⟩, ?_⟩
    show Steps p.tables e below _ ((({ U with heap := s₂.heap, slotsUsed := s₂.slotsUsed } : State).setVm s₂.vm).setTop { g with pc := g.pc + len₂, stack := v.toList ++ g.stack })
    rw [← hs₂]
    exact hsteps
  · obtain ⟨e2, q2, q3, q4, q5, q6⟩ := id hsm
    have e3 : s₂ = ({ (U.calling g mk a).setFrames s₂.frames with heap := s₂.heap, slotsUsed := s₂.slotsUsed } : State).setVm s₂.vm := by
      have : s₂ = ({ s₂ with vm := (U.calling g mk a).vm } : State).setVm s₂.vm := rfl
      rw [e2] at this
      exact this
    have hf₂ : s₂.frames = .throwing q :: .java g :: U.frames.tail := hend
    have hW' : U.WarmedH s₂.vm := hW₂
    have hs₂ : s₂ = ((({ U with heap := s₂.heap, slotsUsed := s₂.slotsUsed } : State).setVm s₂.vm).setTop g).pushFrame (.throwing q) := by
      refine e3.trans ?_
      rw [hf₂, State.calling_eq h.top, State.setFrames_setFrames, State.pushFrame, State.frames_setTop _ hr', State.setTop_of_frames _ hr', State.setFrames_setFrames, hr]
      rfl
    have hsame : U.sameButNew ({ U with heap := s₂.heap, slotsUsed := s₂.slotsUsed } : State) L mc ms := by
      refine ⟨?_, q2, q3, q4, q5, q6⟩
      obtain ⟨t, ht, -⟩ := State.frames_cons hr
      show ({ U with heap := s₂.heap, slotsUsed := s₂.slotsUsed } : State) = { U.setFrames U.frames with heap := s₂.heap, slotsUsed := s₂.slotsUsed }
      rw [State.setFrames_self ht]
    subst hg
    refine Or.inr ⟨q, ⟨(({ U with heap := s₂.heap, slotsUsed := s₂.slotsUsed } : State).setVm s₂.vm), Ls ++ L, c0 + mc, s0 + ms⟩,
      ⟨X.admits, X.cas, X.clock, X.frames, X.room, X.hears, X.method, X.code, (X.here.setHeapUsed s₂.heap s₂.slotsUsed).setVm hW'.alike, X.tail, State.WarmedH.trans X.warmed hW', X.limits, X.bytes, X.same.trans (hsame.setVm s.vm)⟩,
      ⟨g, mk, s₂, L, E, ce, rfl, rfl, hx, hce, hcv, hcl, rfl, hL, rfl, rfl⟩, ?_⟩
    show Steps p.tables e below _ (((({ U with heap := s₂.heap, slotsUsed := s₂.slotsUsed } : State).setVm s₂.vm).setTop g).pushFrame (.throwing q))
    rw [← hs₂]
    exact hsteps
end Payer
section Calls
variable {p : Program} {l : Launch} {e : Env} {R : Room} {s : State} {m : MethodId} {args : Array Value} {below : List Frame} {meth : Method} {c : Code} {T : State} {locs : List Loc} {cells slots : Nat}
theorem vx_callV (X : Stand p l e R s m args below meth c T locs cells slots) (hexec : p.tables.exec = Jvm.exec) {own C : String} {index : Nat} {y : MethodName} {bytes : ByteArray} {maxL : Nat} {ret : Option FieldType}
    (hown : s.vm.findClass own = some m.cls) (hlink : (Cond.methodLink own index y).before args s = true) (hinst : (Cond.instanceMethod y).before args s = true) (hsel : (Cond.selects C y y).before args s = true)
    (hcode : (Cond.code y bytes maxL ret).before args s = true) (hy : y.cls ≠ "java/lang/invoke/MethodHandle" ∧ y.cls ≠ "java/lang/invoke/VarHandle")
    {W9 : Nat} {Pre : Pt → Array Value → Prop} {Post : Pt → Array Value → Option Value → Pt → Prop} {PostX : Pt → Array Value → Addr → Pt → Prop} (hK : vx_Back l R p e below s args y 3 W9 Pre Post PostX)
    {b : Addr} {cellB : Cell} (hcell : T.heap[b]? = some cellB) (hobj : cellB.vm.isStatics = false) (hcls : s.vm.findClass C = some cellB.cls)
    {g : JFrame} (hg : g.method = m) (hsize : g.locals.size = c.maxLocals) {argsL rest : List Value} (hlen : ∀ sig, parseMethodDescriptor y.desc = some sig → argsL.length = sig.parameters.length)
    (hstack : g.stack = argsL.reverse ++ .ref b :: rest) (hW : 2 * g.monitorRoom + (rest.map fun v => v.category).sum ≤ W9) (hdg : decode c.code g.pc = .ok (.invokevirtual index, 3))
    (hpre : ∀ vm₁, s.WarmedH vm₁ → Pre ⟨T.setVm vm₁, locs, cells, slots⟩ (Value.ref b :: argsL).toArray) :
    (∃ (v : Option Value) (vm₁ : Vm) (B : Pt), s.WarmedH vm₁ ∧ Stand p l e R s m args below meth c B.U B.locs B.cells B.slots ∧ Post ⟨T.setVm vm₁, locs, cells, slots⟩ (Value.ref b :: argsL).toArray v B ∧
      ∀ target, Steps p.tables e below (B.U.setTop { g with pc := g.pc + 3, stack := v.toList ++ rest }) target → Steps p.tables e below (T.setTop g) target) ∨
    (∃ (q : Addr) (vm₁ : Vm) (B : Pt), s.WarmedH vm₁ ∧ Stand p l e R s m args below meth c B.U B.locs B.cells B.slots ∧ PostX ⟨T.setVm vm₁, locs, cells, slots⟩ (Value.ref b :: argsL).toArray q B ∧
      Steps p.tables e below (T.setTop g) ((B.U.setTop { g with stack := rest }).pushFrame (.throwing q))) := by
  obtain ⟨mk, methM, hnamed, hmethM, hstM, habM⟩ := Cond.instanceMethod_spec hinst
  obtain ⟨methM', cM, hmethM', -, -, -, -, -, -, hsigM⟩ := Cond.code_spec hnamed hcode
  cases hmethM.symm.trans hmethM'
  obtain ⟨c2, r2, m2, q1, q2, q3, q4, kP, hkP, hkPi⟩ := Cond.selects_spec hsel
  cases hcls.symm.trans q1
  cases (State.methodFound?_of_named hnamed hy).symm.trans q2
  cases hnamed.symm.trans q3
  have hselP : selectMethod e.platform s.vm cellB.cls mk = .method mk := by rw [Launch.admits_selectMethod X.admits]; exact q4
  obtain ⟨vm₁, X₁, hstep₁⟩ := X.invokevirtual hexec hown hlink hnamed hmethM hstM hkP hkPi hy (a := b) (cell := cellB) hcell
    (fun z h => by rw [h] at hobj; cases hobj) hselP hmethM habM hkP hkPi (g := g) hg (argsL := argsL) (rest := rest) (hlen _ hsigM) hstack hdg
  rcases hK m meth c ⟨T.setVm vm₁, locs, cells, slots⟩ { g with stack := rest } (.invokevirtual index) mk (Value.ref b :: argsL).toArray X₁ hg hsize hdg hW (X₁.named hnamed) (hpre vm₁ X₁.warmed) with ⟨v, B, X', hpost, hsteps⟩ | ⟨q, B, X', hpost, hsteps⟩
  · exact Or.inl ⟨v, vm₁, B, X₁.warmed, X', hpost, fun target h => hstep₁ _ fun acts => by rw [doInvoke_state]; exact hsteps.trans h⟩
  · exact Or.inr ⟨q, vm₁, B, X₁.warmed, X', hpost, hstep₁ _ fun acts => by rw [doInvoke_state]; exact hsteps⟩
theorem vx_callS (X : Stand p l e R s m args below meth c T locs cells slots) (hexec : p.tables.exec = Jvm.exec) {own : String} {index : Nat} {y : MethodName} {bytes : ByteArray} {maxL : Nat} {ret : Option FieldType}
    (hown : s.vm.findClass own = some m.cls) (hlink : (Cond.methodLink own index y).before args s = true) (hstat : (Cond.static y).before args s = true) (hinit : (Cond.initialized y.cls).before args s = true)
    (hcode : (Cond.code y bytes maxL ret).before args s = true) (hy : y.cls ≠ "java/lang/invoke/MethodHandle" ∧ y.cls ≠ "java/lang/invoke/VarHandle")
    {W9 : Nat} {Pre : Pt → Array Value → Prop} {Post : Pt → Array Value → Option Value → Pt → Prop} {PostX : Pt → Array Value → Addr → Pt → Prop} (hK : vx_Back l R p e below s args y 3 W9 Pre Post PostX)
    {g : JFrame} (hg : g.method = m) (hsize : g.locals.size = c.maxLocals) {argsL rest : List Value} (hlen : ∀ sig, parseMethodDescriptor y.desc = some sig → argsL.length = sig.parameters.length)
    (hstack : g.stack = argsL.reverse ++ rest) (hW : 2 * g.monitorRoom + (rest.map fun v => v.category).sum ≤ W9) (hdg : decode c.code g.pc = .ok (.invokestatic index, 3))
    (hpre : ∀ vm₁, s.WarmedH vm₁ → Pre ⟨T.setVm vm₁, locs, cells, slots⟩ argsL.toArray) :
    (∃ (v : Option Value) (vm₁ : Vm) (B : Pt), s.WarmedH vm₁ ∧ Stand p l e R s m args below meth c B.U B.locs B.cells B.slots ∧ Post ⟨T.setVm vm₁, locs, cells, slots⟩ argsL.toArray v B ∧
      ∀ target, Steps p.tables e below (B.U.setTop { g with pc := g.pc + 3, stack := v.toList ++ rest }) target → Steps p.tables e below (T.setTop g) target) ∨
    (∃ (q : Addr) (vm₁ : Vm) (B : Pt), s.WarmedH vm₁ ∧ Stand p l e R s m args below meth c B.U B.locs B.cells B.slots ∧ PostX ⟨T.setVm vm₁, locs, cells, slots⟩ argsL.toArray q B ∧
      Steps p.tables e below (T.setTop g) ((B.U.setTop { g with stack := rest }).pushFrame (.throwing q))) := by
  obtain ⟨mk, hnamed⟩ := Cond.code_named hcode
  obtain ⟨methM, cM, hmethM, -, -, -, -, -, -, hsigM⟩ := Cond.code_spec hnamed hcode
  have hstatic : methM.isStatic = true := Cond.static_spec hnamed hmethM hstat
  obtain ⟨kP, hkP, -⟩ := className_of_methodNamed hnamed
  have hinitP : kP.init = .initialized := Cond.initialized_spec (findClass_of_methodNamed hnamed) hkP hinit
  obtain ⟨vm₁, X₁, hstep₁⟩ := X.invokestatic hexec hown hlink hnamed hmethM hstatic hkP hinitP hy (g := g) hg (argsL := argsL) (rest := rest) (hlen _ hsigM) hstack hdg
  rcases hK m meth c ⟨T.setVm vm₁, locs, cells, slots⟩ { g with stack := rest } (.invokestatic index) mk argsL.toArray X₁ hg hsize hdg hW (X₁.named hnamed) (hpre vm₁ X₁.warmed) with ⟨v, B, X', hpost, hsteps⟩ | ⟨q, B, X', hpost, hsteps⟩
  · exact Or.inl ⟨v, vm₁, B, X₁.warmed, X', hpost, fun target h => hstep₁ _ fun acts => by rw [doInvoke_state]; exact hsteps.trans h⟩
  · exact Or.inr ⟨q, vm₁, B, X₁.warmed, X', hpost, hstep₁ _ fun acts => by rw [doInvoke_state]; exact hsteps⟩
end Calls
theorem vx_cls {s : State} {T : State} {vm₁ : Vm} {E : String} {k : ClassId} (hW : s.WarmedH vm₁) (h : (T.setVm vm₁).vm.findClass E = some k) : s.vm.findClass E = some k := by
  have h1 : vm₁.findClass E = some k := h
  rw [hW.alike.findClass] at h1
  exact h1
/-- the method's frame g, with q thrown over it -/
def vx_W (p : Program) (l : Launch) (e : Env) (R : Room) (s : State) (m : MethodId) (args : Array Value) (below : List Frame) (meth : Method) (c : Code) (H : Heap) (locs : List Loc) (cells slots : Nat) (Q : State → Prop) (g : JFrame) (q : Addr) : Prop :=
  ∀ T : State, T.heap = H → Stand p l e R s m args below meth c T locs cells slots → ∃ t, Steps p.tables e below ((T.setTop g).pushFrame (.throwing q)) t ∧ Q t
def vx_Run (p : Program) (l : Launch) (e : Env) (R : Room) (s : State) (m : MethodId) (args : Array Value) (below : List Frame) (meth : Method) (c : Code) (H : Heap) (locs : List Loc) (cells slots mc ms : Nat) (g : JFrame) (rest : List Value) (Qa : State → Outcome → State → Prop) (XC : String → State → State → Prop) (free : Addr → Prop) : Prop :=
  ∀ T : State, T.heap = H → Stand p l e R s m args below meth c T locs cells slots →
    (∃ (v : Option Value) (st₀ t T' : State) (L : List Loc), st₀.heap = H ∧ Stand p l e R s m args below meth c T' (locs ++ L) (cells + mc) (slots + ms) ∧ (∀ q ∈ L, free q.base) ∧ T'.heap = t.heap ∧ T'.vm = t.vm ∧ Qa st₀ (.returned v) t ∧
      Goes p e below T g T' { g with pc := g.pc + 3, stack := v.toList ++ rest }) ∨
    (∃ (q : Addr) (st₀ t T' : State) (L : List Loc) (E : String) (ce : Cell), st₀.heap = H ∧ Stand p l e R s m args below meth c T' (locs ++ L) (cells + mc) (slots + ms) ∧ (∀ z ∈ L, free z.base) ∧ T'.heap = t.heap ∧ T'.vm = t.vm ∧ XC E st₀ t ∧ t.heap[q]? = some ce ∧ ce.vm = .none ∧ s.vm.findClass E = some ce.cls ∧
      Steps p.tables e below (T.setTop g) ((T'.setTop { g with stack := rest }).pushFrame (.throwing q)))
def vx_X {S : Type} (px : S → Prop) (B : String → S → State → Prop) (A : Nat → Prop) : String → State → State → Prop := fun E st t => ∃ u : S, px u ∧ B E u t ∧ va_F A st t
section Runs
variable {p : Program} {l : Launch} {e : Env} {R : Room} {s : State} {m : MethodId} {args : Array Value} {below : List Frame} {meth : Method} {c : Code} {H : Heap} {locs : List Loc} {cells slots : Nat}
variable {y : MethodName} {bytes cc : ByteArray} {maxL nL mc ms n index : Nat} {ret : Option FieldType} {ws : List Cond} {rm : Room} {Pc : Array Value → State → Prop} {Qc : Array Value → State → Outcome → State → Prop} {XC : String → State → State → Prop} {free : Addr → Prop} {Ts : List Cond} {own C : String} {b : Addr} {As rest : List Value} {g : JFrame}
theorem vx_callBack (cb : CallB R s args own index y bytes maxL ret ws rm mc ms n) (hM : vx_Met l y ws rm Pc Qc XC mc ms free) (hbl : FrameBlind Pc) : vx_Back l R p e below s args y 3 8 (PreOf R mc ms Pc) (PostOf Qc mc ms free) (vx_Post XC mc ms free) := by
  obtain ⟨hrc, hrs, hfr, hlo, hws, hcw, -, hini, -⟩ := cb
  exact vx_back (bytes := bytes) (maxL := maxL) (ret := ret) hM hbl hrc hrs hfr hlo hws hcw (fun a' U hW => word_at hW (Or.inl (by first | rfl | simp [Cond.onTables, Cond.keeps, Cond.steady])) hini)
theorem vx_runV (S : CallFix p m c cc nL s args Ts own) (hM : vx_Met l y ws rm Pc Qc XC mc ms free) (cw : CallW R s args own C index y bytes maxL ret ws rm mc ms n) (hp : PreV s H C b Pc As)
    (hg : g.method = m) (hn : As.length = n) (hsize : g.locals.size = nL) (hstack : g.stack = As.reverse ++ .ref b :: rest) (hW : 2 * g.monitorRoom + (rest.map fun v => v.category).sum ≤ 8) (hdg : decode cc g.pc = .ok (.invokevirtual index, 3)) (hf : cells + mc ≤ R.cells ∧ slots + ms ≤ R.slots) :
    vx_Run p l e R s m args below meth c H locs cells slots mc ms g rest (Qc (Value.ref b :: As).toArray) XC free := by
  have hK : vx_Back l R p e below s args y 3 8 (PreOf R mc ms Pc) (PostOf Qc mc ms free) (vx_Post XC mc ms free) := vx_callBack cw.1 hM hp.1
  obtain ⟨⟨-, -, -, -, -, -, hcode, -, hy, hlen, hl⟩, hin, hse⟩ := cw
  obtain ⟨hx, hb, hml, ho, -⟩ := S
  obtain ⟨-, ⟨cellB, hcB, hoB, hclB⟩, hPc⟩ := hp
  intro T hT X
  rcases vx_callV X hx (C := C) (bytes := bytes) (maxL := maxL) (ret := ret) ho hl hin hse hcode hy hK (by rw [hT]; exact hcB) hoB hclB hg (hsize.trans hml.symm) (argsL := As) (rest := rest) (fun sig h => hn.trans (hlen sig h)) hstack hW (by rw [hb]; exact hdg)
    (fun vm₁ hW₁ => ⟨hf.1, hf.2, hPc (T.setVm vm₁) hT hW₁⟩) with ⟨v, vm₁, ⟨U', l2, c2, s2⟩, hW₁, X', ⟨g', mk, t, L, e1, e2, hq, h1, hL, h2, h3⟩, st⟩ | ⟨q, vm₁, ⟨U', l2, c2, s2⟩, hW₁, X', ⟨g', mk, t, L, E, ce, e1, e2, hq, hce, hcv, hcl, h1, hL, h2, h3⟩, st⟩
  · dsimp only [Pt.U, Pt.locs, Pt.cells, Pt.slots] at X' e1 e2 h1 h2 h3 st
    subst h1; subst h2; subst h3
    exact Or.inl ⟨v, (T.setVm vm₁).calling g' mk (Value.ref b :: As).toArray, t, U', L, hT, X', hL, e1, e2, hq, st⟩
  · dsimp only [Pt.U, Pt.locs, Pt.cells, Pt.slots] at X' e1 e2 h1 h2 h3 st hcl
    subst h1; subst h2; subst h3
    exact Or.inr ⟨q, (T.setVm vm₁).calling g' mk (Value.ref b :: As).toArray, t, U', L, E, ce, hT, X', hL, e1, e2, hq, hce, hcv, vx_cls hW₁ hcl, st⟩
theorem vx_runS (S : CallFix p m c cc nL s args Ts own) (hM : vx_Met l y ws rm Pc Qc XC mc ms free) (cw : CallB R s args own index y bytes maxL ret ws rm mc ms n ∧ (Cond.static y).before args s = true) (hp : PreS s H Pc As)
    (hg : g.method = m) (hn : As.length = n) (hsize : g.locals.size = nL) (hstack : g.stack = As.reverse ++ rest) (hW : 2 * g.monitorRoom + (rest.map fun v => v.category).sum ≤ 8) (hdg : decode cc g.pc = .ok (.invokestatic index, 3)) (hf : cells + mc ≤ R.cells ∧ slots + ms ≤ R.slots) :
    vx_Run p l e R s m args below meth c H locs cells slots mc ms g rest (Qc As.toArray) XC free := by
  have hK : vx_Back l R p e below s args y 3 8 (PreOf R mc ms Pc) (PostOf Qc mc ms free) (vx_Post XC mc ms free) := vx_callBack cw.1 hM hp.1
  obtain ⟨⟨-, -, -, -, -, -, hcode, hini, hy, hlen, hl⟩, hstt⟩ := cw
  obtain ⟨hx, hb, hml, ho, -⟩ := S
  intro T hT X
  rcases vx_callS X hx (bytes := bytes) (maxL := maxL) (ret := ret) ho hl hstt hini hcode hy hK hg (hsize.trans hml.symm) (argsL := As) (rest := rest) (fun sig h => hn.trans (hlen sig h)) hstack hW (by rw [hb]; exact hdg)
    (fun vm₁ hW₁ => ⟨hf.1, hf.2, hp.2 (T.setVm vm₁) hT hW₁⟩) with ⟨v, vm₁, ⟨U', l2, c2, s2⟩, hW₁, X', ⟨g', mk, t, L, e1, e2, hq, h1, hL, h2, h3⟩, st⟩ | ⟨q, vm₁, ⟨U', l2, c2, s2⟩, hW₁, X', ⟨g', mk, t, L, E, ce, e1, e2, hq, hce, hcv, hcl, h1, hL, h2, h3⟩, st⟩
  · dsimp only [Pt.U, Pt.locs, Pt.cells, Pt.slots] at X' e1 e2 h1 h2 h3 st
    subst h1; subst h2; subst h3
    exact Or.inl ⟨v, (T.setVm vm₁).calling g' mk As.toArray, t, U', L, hT, X', hL, e1, e2, hq, st⟩
  · dsimp only [Pt.U, Pt.locs, Pt.cells, Pt.slots] at X' e1 e2 h1 h2 h3 st hcl
    subst h1; subst h2; subst h3
    exact Or.inr ⟨q, (T.setVm vm₁).calling g' mk As.toArray, t, U', L, E, ce, hT, X', hL, e1, e2, hq, hce, hcv, vx_cls hW₁ hcl, st⟩
end Runs
section Rows
variable {p : Program} {l : Launch} {e : Env} {R : Room} {s : State} {m : MethodId} {args : Array Value} {below : List Frame} {meth : Method} {c : Code} {H : Heap} {locs : List Loc} {cells slots : Nat} {Q : State → Prop}
variable {mc ms : Nat} {free : Addr → Prop} {A0 A1 : Nat → Prop} {H0 : Heap} {a : Array Value} {pc : Nat} {ls : Array Slot} {st0 rest : List Value}
theorem vx_keep {st₀ t T' : State} {L : List Loc} (h0 : st₀.heap = H) (e1 : T'.heap = t.heap) (hS : va_S A0 H0 H locs) (hA : ∀ q, q < H.size → A1 q → A0 q) (hf : ∀ q, free q → A0 q) (hL : ∀ q ∈ L, free q.base) (hF : va_F A1 st₀ t) :
    H.size ≤ T'.heap.size ∧ (∀ q : Nat, q < H.size → ¬ A1 q → T'.heap[q]? = H[q]?) ∧ va_S A0 H0 T'.heap (locs ++ L) := by
  obtain ⟨hz, hk⟩ := hF
  rw [h0] at hz hk
  exact ⟨by rw [e1]; exact hz, fun q h1 h2 => by rw [e1]; exact hk q h1 h2,
    ⟨Nat.le_trans hS.1 (by rw [e1]; exact hz), fun q h1 h2 => by rw [e1, hk q (Nat.lt_of_lt_of_le h1 hS.1) (fun z => h2 (hA q (Nat.lt_of_lt_of_le h1 hS.1) z))]; exact hS.2.1 q h1 h2, fun q hq => by
      rcases List.mem_append.mp hq with h | h
      · exact hS.2.2 q h
      · exact hf _ (hL q h)⟩⟩
theorem vx_calli {S SX : Type} {post : Int32 → S → Prop} {px : SX → Prop} {B : S → State → Prop} {BX : String → SX → State → Prop} {AX : Nat → Prop} (hr : vx_Run p l e R s m args below meth c H locs cells slots mc ms (F0 m pc ls st0) rest (va_Qi post B A1 a) (vx_X px BX AX) free) (hS : va_S A0 H0 H locs) (hA : ∀ q, q < H.size → A1 q → A0 q) (hf : ∀ q, free q → A0 q) (hAX : ∀ q, q < H.size → AX q → A0 q)
    (kx : ∀ (E : String) (ce : Cell) (q9 : Addr) (u : SX) (t : State) (H1 : Heap) (locs1 : List Loc), t.heap = H1 → s.vm.Alike t.vm → px u → BX E u t → H.size ≤ H1.size → (∀ q : Nat, q < H.size → ¬ AX q → H1[q]? = H[q]?) → va_S A0 H0 H1 locs1 → H1[q9]? = some ce → ce.vm = .none → s.vm.findClass E = some ce.cls → vx_W p l e R s m args below meth c H1 locs1 (cells + mc) (slots + ms) Q (F0 m pc ls rest) q9)
    (kk : ∀ (r : Int32) (u : S) (t : State) (H1 : Heap) (locs1 : List Loc), t.heap = H1 → s.vm.Alike t.vm → post r u → B u t → H.size ≤ H1.size → (∀ q : Nat, q < H.size → ¬ A1 q → H1[q]? = H[q]?) → va_S A0 H0 H1 locs1 → W p l e R s m args below meth c H1 locs1 (cells + mc) (slots + ms) Q (F0 m (pc + 3) ls (.int r :: rest))) : W p l e R s m args below meth c H locs cells slots Q (F0 m pc ls st0) := by
  intro T hT X
  rcases hr T hT X with ⟨v, st₀, t, T', L, h0, X', hL, e1, e2, ⟨⟨r, u, hv, hp, hb⟩, hF⟩, st⟩ | ⟨q, st₀, t, T', L, E, ce, h0, X', hL, e1, e2, ⟨u, hp, hb, hF⟩, hce, hcv, hcl, st⟩
  · cases hv
    obtain ⟨k1, k2, k3⟩ := vx_keep h0 e1 hS hA hf hL hF
    obtain ⟨t2, a1, b1⟩ := kk r u t T'.heap (locs ++ L) e1.symm (by rw [← e2]; exact X'.warmed.alike) hp hb k1 k2 k3 T' rfl X'
    exact ⟨t2, st t2 a1, b1⟩
  · obtain ⟨k1, k2, k3⟩ := vx_keep h0 e1 hS hAX hf hL hF
    obtain ⟨t2, a1, b1⟩ := kx E ce q u t T'.heap (locs ++ L) e1.symm (by rw [← e2]; exact X'.warmed.alike) hp hb k1 k2 k3 (by rw [e1]; exact hce) hcv hcl T' rfl X'
    exact ⟨t2, st.trans a1, b1⟩
theorem vx_calll {S SX : Type} {post : Int64 → S → Prop} {px : SX → Prop} {B : S → State → Prop} {BX : String → SX → State → Prop} {AX : Nat → Prop} (hr : vx_Run p l e R s m args below meth c H locs cells slots mc ms (F0 m pc ls st0) rest (va_Ql post B A1 a) (vx_X px BX AX) free) (hS : va_S A0 H0 H locs) (hA : ∀ q, q < H.size → A1 q → A0 q) (hf : ∀ q, free q → A0 q) (hAX : ∀ q, q < H.size → AX q → A0 q)
    (kx : ∀ (E : String) (ce : Cell) (q9 : Addr) (u : SX) (t : State) (H1 : Heap) (locs1 : List Loc), t.heap = H1 → s.vm.Alike t.vm → px u → BX E u t → H.size ≤ H1.size → (∀ q : Nat, q < H.size → ¬ AX q → H1[q]? = H[q]?) → va_S A0 H0 H1 locs1 → H1[q9]? = some ce → ce.vm = .none → s.vm.findClass E = some ce.cls → vx_W p l e R s m args below meth c H1 locs1 (cells + mc) (slots + ms) Q (F0 m pc ls rest) q9)
    (kk : ∀ (r : Int64) (u : S) (t : State) (H1 : Heap) (locs1 : List Loc), t.heap = H1 → s.vm.Alike t.vm → post r u → B u t → H.size ≤ H1.size → (∀ q : Nat, q < H.size → ¬ A1 q → H1[q]? = H[q]?) → va_S A0 H0 H1 locs1 → W p l e R s m args below meth c H1 locs1 (cells + mc) (slots + ms) Q (F0 m (pc + 3) ls (.long r :: rest))) : W p l e R s m args below meth c H locs cells slots Q (F0 m pc ls st0) := by
  intro T hT X
  rcases hr T hT X with ⟨v, st₀, t, T', L, h0, X', hL, e1, e2, ⟨⟨r, u, hv, hp, hb⟩, hF⟩, st⟩ | ⟨q, st₀, t, T', L, E, ce, h0, X', hL, e1, e2, ⟨u, hp, hb, hF⟩, hce, hcv, hcl, st⟩
  · cases hv
    obtain ⟨k1, k2, k3⟩ := vx_keep h0 e1 hS hA hf hL hF
    obtain ⟨t2, a1, b1⟩ := kk r u t T'.heap (locs ++ L) e1.symm (by rw [← e2]; exact X'.warmed.alike) hp hb k1 k2 k3 T' rfl X'
    exact ⟨t2, st t2 a1, b1⟩
  · obtain ⟨k1, k2, k3⟩ := vx_keep h0 e1 hS hAX hf hL hF
    obtain ⟨t2, a1, b1⟩ := kx E ce q u t T'.heap (locs ++ L) e1.symm (by rw [← e2]; exact X'.warmed.alike) hp hb k1 k2 k3 (by rw [e1]; exact hce) hcv hcl T' rfl X'
    exact ⟨t2, st.trans a1, b1⟩
theorem vx_callf {S SX : Type} {post : UInt32 → S → Prop} {px : SX → Prop} {B : S → State → Prop} {BX : String → SX → State → Prop} {AX : Nat → Prop} (hr : vx_Run p l e R s m args below meth c H locs cells slots mc ms (F0 m pc ls st0) rest (va_Qf post B A1 a) (vx_X px BX AX) free) (hS : va_S A0 H0 H locs) (hA : ∀ q, q < H.size → A1 q → A0 q) (hf : ∀ q, free q → A0 q) (hAX : ∀ q, q < H.size → AX q → A0 q)
    (kx : ∀ (E : String) (ce : Cell) (q9 : Addr) (u : SX) (t : State) (H1 : Heap) (locs1 : List Loc), t.heap = H1 → s.vm.Alike t.vm → px u → BX E u t → H.size ≤ H1.size → (∀ q : Nat, q < H.size → ¬ AX q → H1[q]? = H[q]?) → va_S A0 H0 H1 locs1 → H1[q9]? = some ce → ce.vm = .none → s.vm.findClass E = some ce.cls → vx_W p l e R s m args below meth c H1 locs1 (cells + mc) (slots + ms) Q (F0 m pc ls rest) q9)
    (kk : ∀ (r : UInt32) (u : S) (t : State) (H1 : Heap) (locs1 : List Loc), t.heap = H1 → s.vm.Alike t.vm → post r u → B u t → H.size ≤ H1.size → (∀ q : Nat, q < H.size → ¬ A1 q → H1[q]? = H[q]?) → va_S A0 H0 H1 locs1 → W p l e R s m args below meth c H1 locs1 (cells + mc) (slots + ms) Q (F0 m (pc + 3) ls (.float r :: rest))) : W p l e R s m args below meth c H locs cells slots Q (F0 m pc ls st0) := by
  intro T hT X
  rcases hr T hT X with ⟨v, st₀, t, T', L, h0, X', hL, e1, e2, ⟨⟨r, u, hv, hp, hb⟩, hF⟩, st⟩ | ⟨q, st₀, t, T', L, E, ce, h0, X', hL, e1, e2, ⟨u, hp, hb, hF⟩, hce, hcv, hcl, st⟩
  · cases hv
    obtain ⟨k1, k2, k3⟩ := vx_keep h0 e1 hS hA hf hL hF
    obtain ⟨t2, a1, b1⟩ := kk r u t T'.heap (locs ++ L) e1.symm (by rw [← e2]; exact X'.warmed.alike) hp hb k1 k2 k3 T' rfl X'
    exact ⟨t2, st t2 a1, b1⟩
  · obtain ⟨k1, k2, k3⟩ := vx_keep h0 e1 hS hAX hf hL hF
    obtain ⟨t2, a1, b1⟩ := kx E ce q u t T'.heap (locs ++ L) e1.symm (by rw [← e2]; exact X'.warmed.alike) hp hb k1 k2 k3 (by rw [e1]; exact hce) hcv hcl T' rfl X'
    exact ⟨t2, st.trans a1, b1⟩
theorem vx_calld {S SX : Type} {post : UInt64 → S → Prop} {px : SX → Prop} {B : S → State → Prop} {BX : String → SX → State → Prop} {AX : Nat → Prop} (hr : vx_Run p l e R s m args below meth c H locs cells slots mc ms (F0 m pc ls st0) rest (va_Qd post B A1 a) (vx_X px BX AX) free) (hS : va_S A0 H0 H locs) (hA : ∀ q, q < H.size → A1 q → A0 q) (hf : ∀ q, free q → A0 q) (hAX : ∀ q, q < H.size → AX q → A0 q)
    (kx : ∀ (E : String) (ce : Cell) (q9 : Addr) (u : SX) (t : State) (H1 : Heap) (locs1 : List Loc), t.heap = H1 → s.vm.Alike t.vm → px u → BX E u t → H.size ≤ H1.size → (∀ q : Nat, q < H.size → ¬ AX q → H1[q]? = H[q]?) → va_S A0 H0 H1 locs1 → H1[q9]? = some ce → ce.vm = .none → s.vm.findClass E = some ce.cls → vx_W p l e R s m args below meth c H1 locs1 (cells + mc) (slots + ms) Q (F0 m pc ls rest) q9)
    (kk : ∀ (r : UInt64) (u : S) (t : State) (H1 : Heap) (locs1 : List Loc), t.heap = H1 → s.vm.Alike t.vm → post r u → B u t → H.size ≤ H1.size → (∀ q : Nat, q < H.size → ¬ A1 q → H1[q]? = H[q]?) → va_S A0 H0 H1 locs1 → W p l e R s m args below meth c H1 locs1 (cells + mc) (slots + ms) Q (F0 m (pc + 3) ls (.double r :: rest))) : W p l e R s m args below meth c H locs cells slots Q (F0 m pc ls st0) := by
  intro T hT X
  rcases hr T hT X with ⟨v, st₀, t, T', L, h0, X', hL, e1, e2, ⟨⟨r, u, hv, hp, hb⟩, hF⟩, st⟩ | ⟨q, st₀, t, T', L, E, ce, h0, X', hL, e1, e2, ⟨u, hp, hb, hF⟩, hce, hcv, hcl, st⟩
  · cases hv
    obtain ⟨k1, k2, k3⟩ := vx_keep h0 e1 hS hA hf hL hF
    obtain ⟨t2, a1, b1⟩ := kk r u t T'.heap (locs ++ L) e1.symm (by rw [← e2]; exact X'.warmed.alike) hp hb k1 k2 k3 T' rfl X'
    exact ⟨t2, st t2 a1, b1⟩
  · obtain ⟨k1, k2, k3⟩ := vx_keep h0 e1 hS hAX hf hL hF
    obtain ⟨t2, a1, b1⟩ := kx E ce q u t T'.heap (locs ++ L) e1.symm (by rw [← e2]; exact X'.warmed.alike) hp hb k1 k2 k3 (by rw [e1]; exact hce) hcv hcl T' rfl X'
    exact ⟨t2, st.trans a1, b1⟩
theorem vx_callv {S SX : Type} {post : S → Prop} {px : SX → Prop} {B : S → State → Prop} {BX : String → SX → State → Prop} {AX : Nat → Prop} (hr : vx_Run p l e R s m args below meth c H locs cells slots mc ms (F0 m pc ls st0) rest (va_Qv post B A1 a) (vx_X px BX AX) free) (hS : va_S A0 H0 H locs) (hA : ∀ q, q < H.size → A1 q → A0 q) (hf : ∀ q, free q → A0 q) (hAX : ∀ q, q < H.size → AX q → A0 q)
    (kx : ∀ (E : String) (ce : Cell) (q9 : Addr) (u : SX) (t : State) (H1 : Heap) (locs1 : List Loc), t.heap = H1 → s.vm.Alike t.vm → px u → BX E u t → H.size ≤ H1.size → (∀ q : Nat, q < H.size → ¬ AX q → H1[q]? = H[q]?) → va_S A0 H0 H1 locs1 → H1[q9]? = some ce → ce.vm = .none → s.vm.findClass E = some ce.cls → vx_W p l e R s m args below meth c H1 locs1 (cells + mc) (slots + ms) Q (F0 m pc ls rest) q9)
    (kk : ∀ (u : S) (t : State) (H1 : Heap) (locs1 : List Loc), t.heap = H1 → s.vm.Alike t.vm → post u → B u t → H.size ≤ H1.size → (∀ q : Nat, q < H.size → ¬ A1 q → H1[q]? = H[q]?) → va_S A0 H0 H1 locs1 → W p l e R s m args below meth c H1 locs1 (cells + mc) (slots + ms) Q (F0 m (pc + 3) ls (rest))) : W p l e R s m args below meth c H locs cells slots Q (F0 m pc ls st0) := by
  intro T hT X
  rcases hr T hT X with ⟨v, st₀, t, T', L, h0, X', hL, e1, e2, ⟨⟨u, hv, hp, hb⟩, hF⟩, st⟩ | ⟨q, st₀, t, T', L, E, ce, h0, X', hL, e1, e2, ⟨u, hp, hb, hF⟩, hce, hcv, hcl, st⟩
  · cases hv
    obtain ⟨k1, k2, k3⟩ := vx_keep h0 e1 hS hA hf hL hF
    obtain ⟨t2, a1, b1⟩ := kk u t T'.heap (locs ++ L) e1.symm (by rw [← e2]; exact X'.warmed.alike) hp hb k1 k2 k3 T' rfl X'
    exact ⟨t2, st t2 a1, b1⟩
  · obtain ⟨k1, k2, k3⟩ := vx_keep h0 e1 hS hAX hf hL hF
    obtain ⟨t2, a1, b1⟩ := kx E ce q u t T'.heap (locs ++ L) e1.symm (by rw [← e2]; exact X'.warmed.alike) hp hb k1 k2 k3 (by rw [e1]; exact hce) hcv hcl T' rfl X'
    exact ⟨t2, st.trans a1, b1⟩
/-- caught by the row x of this method's table; the rows ahead don't take it -/
theorem vx_catch {own name : String} {E : String} {ce : Cell} {q : Addr} (hown : s.vm.findClass own = some m.cls) (pre : List ExceptionTableEntry) (x : ExceptionTableEntry) (suf : List ExceptionTableEntry) (hsplit : c.exceptionTable.toList = pre ++ x :: suf)
    (hpass : ∀ z ∈ pre, covers z pc = false ∨ (z.catchType ≠ 0 ∧ ∃ nm : String, (Cond.classLink own z.catchType nm).before args s = true ∧ va_Nc E nm s)) (hx : covers x pc = true) (h0 : x.catchType ≠ 0)
    (hlink : (Cond.classLink own x.catchType name).before args s = true) (hcast : (Cond.castable E name).before args s = true) (hcell : H[q]? = some ce) (hv : ce.vm = .none) (hcl : s.vm.findClass E = some ce.cls)
    (kk : W p l e R s m args below meth c H locs cells slots Q (F0 m x.handlerPc ls [.ref q])) : vx_W p l e R s m args below meth c H locs cells slots Q (F0 m pc ls rest) q := by
  intro T hT X
  have hpl : e.platform.magicAccessors = ({} : Platform).magicAccessors := by rw [X.admits.platform]
  obtain ⟨c3, c4, hc3, hc4, hasg⟩ := Cond.castable_spec hcast
  cases Option.some.inj (hc3.symm.trans hcl)
  obtain ⟨c5, hc5, hcl5⟩ := Cond.classLink_spec hown hlink e.platform hpl
  cases Option.some.inj (hc4.symm.trans hc5)
  obtain ⟨vm', X', st⟩ := X.thenCaughtThrough q (g := F0 m pc ls rest) rfl (Steps.refl _) (by rw [hT]; exact hcell) (by rw [hv]; rfl) (by obtain ⟨k9, h9, -⟩ := Vm.findClass_spec hcl; exact ⟨k9, h9⟩) pre x suf hsplit
    (fun z hz => by
      rcases hpass z hz with h | ⟨hz0, nm, hl1, hn1⟩
      · exact Or.inl h
      · obtain ⟨c6, hc6, hcl6⟩ := Cond.classLink_spec hown hl1 e.platform hpl
        obtain ⟨a8, b8, h1, h2, h3⟩ := hn1
        cases Option.some.inj (h1.symm.trans hcl)
        cases Option.some.inj (h2.symm.trans hc6)
        exact Or.inr ⟨hz0, _, hcl6, h3⟩) hx (Or.inr ⟨h0, c4, hcl5, hasg⟩)
  obtain ⟨t, a1, b1⟩ := kk (T.setVm vm') hT X'
  exact ⟨t, st.trans a1, b1⟩
end Rows
section Ends
variable {p : Program} {l : Launch} {e : Env} {R : Room} {s : State} {m : MethodId} {args : Array Value} {below : List Frame} {meth : Method} {c : Code} {H : Heap} {locs : List Loc} {cells slots : Nat} {Q : State → Prop}
variable {mc ms : Nat} {free : Addr → Prop} {A0 A1 : Nat → Prop} {H0 : Heap} {a : Array Value} {ls : Array Slot} {st0 rest : List Value}
variable {Qc : Array Value → State → Outcome → State → Prop} {XC : String → State → State → Prop}
/-- what a body that may throw owes at its end -/
def vx_MQ (below : List Frame) (Qc : Array Value → State → Outcome → State → Prop) (XC : String → State → State → Prop) (a : Array Value) (s : State) (mc ms : Nat) (free : Addr → Prop) : State → Prop := fun t =>
  ∃ o, t.status = .running ∧ Ended t below o ∧ vx_Q Qc XC mc ms free a s o t
theorem vx_ret {g : JFrame} {mc ms : Nat} (k : W p l e R s m args below meth c H locs cells slots (MQ below Qc args s mc ms free) g) : W p l e R s m args below meth c H locs cells slots (vx_MQ below Qc XC args s mc ms free) g := by
  intro T hT X
  obtain ⟨t, a1, o, b1, b2, b3, b4⟩ := k T hT X
  exact ⟨t, a1, o, b1, b2, Or.inl ⟨b3, b4⟩⟩
/-- not caught here: it goes on to the caller -/
theorem vx_widen {g : JFrame} {q : Addr} {k n : Nat} (h1 : cells ≤ k) (h2 : slots ≤ n) (kk : vx_W p l e R s m args below meth c H locs k n Q g q) : vx_W p l e R s m args below meth c H locs cells slots Q g q := fun T hT X => kk T hT (stand_widen X h1 h2)
theorem vx_out {pc : Nat} {E : String} {ce : Cell} {q : Addr} {mc ms : Nat} (hout : ∀ x ∈ c.exceptionTable.toList, covers x pc = false) (hlocks : meth.locks = false) (hcell : H[q]? = some ce) (hv : ce.vm = .none) (hcl : s.vm.findClass E = some ce.cls)
    (hx : ∀ t : State, t.heap = H → s.vm.Alike t.vm → XC E s t) (hf : ∀ z ∈ locs, free z.base) (hc : cells ≤ mc) (hs : slots ≤ ms) :
    vx_W p l e R s m args below meth c H locs cells slots (vx_MQ below Qc XC args s mc ms free) (F0 m pc ls rest) q := by
  intro T hT X
  obtain ⟨st1, hrun, hend, hW, hsm⟩ := X.leaveThrown q (g := F0 m pc ls rest) rfl rfl rfl hout hlocks
  have hcell9 : (T.setFrames (.throwing q :: below)).heap[q]? = some ce := by
    show T.heap[q]? = some ce
    rw [hT]; exact hcell
  exact ⟨_, st1, .threw q, hrun, hend, Or.inr ⟨q, rfl, E, ce, locs, hx _ hT hW.alike, hcell9, hv, hcl, hW, hsm.mono hc hs, hf⟩⟩
theorem vx_frame {U : State} {k n : Nat} (h : s.sameButNew ({ U with vm := s.vm } : State) locs k n) : s.heap.size ≤ U.heap.size ∧ ∀ q : Nat, q < s.heap.size → (∀ z ∈ locs, z.base ≠ q) → U.heap[q]? = s.heap[q]? := by
  obtain ⟨-, h2, -, -, -, h6⟩ := h
  refine ⟨h2, fun q hq hz => ?_⟩
  obtain ⟨c9, e1, e2, e3, e4⟩ := h6 q _ (Array.getElem?_eq_getElem hq)
  have hs : c9.slots = (s.heap[q]).slots := Array.ext_getElem? fun i => e4 i fun hm => hz _ hm rfl
  have h9 : c9 = s.heap[q] := by
    rw [hs] at e2
    exact e2
  have e5 : U.heap[q]? = some c9 := e1
  rw [e5, h9, Array.getElem?_eq_getElem hq]
/-- the words of a throw but the four that speak of the heap -/
def vx_no (w : Cond) : Bool := decide (w ≠ .isRef (.static Bundle.tN "UNASSIGNED_STACK" Bundle.steD)) && decide (w ≠ .isRef (.static Bundle.tN "SUPPRESSED_SENTINEL" Bundle.listD)) && decide (w ≠ .laysStatic Bundle.tN "UNASSIGNED_STACK" Bundle.steD) && decide (w ≠ .laysStatic Bundle.tN "SUPPRESSED_SENTINEL" Bundle.listD)
def vx_at0 (own : String) (ic : Nat) (X : String) (names : List String) : List Cond := (Bundle.ownAtoms0 own ic X names).filter vx_no
def vx_atS (own : String) (ic : Nat) (X : String) (names : List String) : List Cond := (Bundle.ownAtoms own ic X names).filter vx_no
/-- a word that the tables alone decide, or a good one -/
def vx_ot (w : Cond) : Bool := w.onTables || goodWord w
theorem vx_ot_at {args a' : Array Value} {s U : State} {w : Cond} (hW : s.WarmedH U.vm) (hvm : s.vm = U.vm) (hg : vx_ot w = true) (h : w.before args s = true) : w.before a' U = true := by
  simp only [vx_ot, Bool.or_eq_true] at hg
  rcases hg with hg | hg
  · exact va_tabs hg hvm h
  · exact word_at hW (good_of_word hg) h
/-- a list's words: the good ones out of the method's own list, the others by premises of their own -/
theorem vx_hat {args : Array Value} {s : State} {L B : List Cond} (h1 : ∀ w ∈ L.filter goodWord, w.before args s = true) (h2 : ∀ w ∈ L.filter (fun w => !goodWord w), w ∈ B) (h3 : ∀ w ∈ B, w.before args s = true) : ∀ w ∈ L, w.before args s = true := by
  intro w hw
  by_cases g : goodWord w = true
  · exact h1 w (List.mem_filter.mpr ⟨hw, g⟩)
  · refine h3 w (h2 w (List.mem_filter.mpr ⟨hw, ?_⟩))
    show (!goodWord w) = true
    cases hgw : goodWord w
    · rfl
    · exact absurd hgw g
theorem vx_c {args : Array Value} {s : State} {w : Cond} {B : List Cond} (h : w.before args s = true) (t : ∀ w ∈ B, w.before args s = true) : ∀ w' ∈ w :: B, w'.before args s = true := fun w' h' => (List.mem_cons.mp h').elim (fun e => by rw [e]; exact h) (t w')
theorem vx_n {args : Array Value} {s : State} : ∀ w ∈ ([] : List Cond), w.before args s = true := fun _ h => nomatch h
theorem vx_own {args : Array Value} {s : State} {L : List Cond} (h1 : ∀ w ∈ L.filter vx_no, w.before args s = true)
    (hU : (Cond.isRef (.static Bundle.tN "UNASSIGNED_STACK" Bundle.steD)).before args s = true) (hN : (Cond.isRef (.static Bundle.tN "SUPPRESSED_SENTINEL" Bundle.listD)).before args s = true)
    (lU : (Cond.laysStatic Bundle.tN "UNASSIGNED_STACK" Bundle.steD).before args s = true) (lN : (Cond.laysStatic Bundle.tN "SUPPRESSED_SENTINEL" Bundle.listD).before args s = true) : ∀ w ∈ L, w.before args s = true := by
  intro w hw
  by_cases e1 : w = .isRef (.static Bundle.tN "UNASSIGNED_STACK" Bundle.steD)
  · rw [e1]; exact hU
  · by_cases e2 : w = .isRef (.static Bundle.tN "SUPPRESSED_SENTINEL" Bundle.listD)
    · rw [e2]; exact hN
    · by_cases e3 : w = .laysStatic Bundle.tN "UNASSIGNED_STACK" Bundle.steD
      · rw [e3]; exact lU
      · by_cases e4 : w = .laysStatic Bundle.tN "SUPPRESSED_SENTINEL" Bundle.listD
        · rw [e4]; exact lN
        · exact h1 w (List.mem_filter.mpr ⟨hw, by unfold vx_no; rw [decide_eq_true e1, decide_eq_true e2, decide_eq_true e3, decide_eq_true e4]; rfl⟩)
/-- where a static field lies, its class's statics cell in H -/
def vx_L (C n d : String) (A : Nat → Prop) (U : State) (H : Heap) : Prop := ∃ (c : ClassId) (k : Class) (i : Nat) (f : Field) (a : Nat) (cell : Cell), U.vm.findClass C = some c ∧ U.fieldFound? C n d = some (c, k, i, f) ∧ f.isStatic = true ∧ k.statics = some a ∧ H[a]? = some cell ∧ cell.vm.isStatics = true ∧ cell.cls = c ∧ f.slot < cell.slots.size ∧ k.staticTypes[f.slot]? = some f.type ∧ ¬ A a
theorem vx_L.moved {C n d : String} {A : Nat → Prop} {u U : State} {H : Heap} (hvm : u.vm.Alike U.vm) (h : vx_L C n d A u H) : vx_L C n d A U H := by
  obtain ⟨c, k, i, f, a, cell, h1, h2, h3, h4, h5, h6, h7, h8, h9, h10⟩ := h
  obtain ⟨k', hi', he⟩ := State.fieldFound?_setVm hvm h2
  exact ⟨c, k', i, f, a, cell, by rw [hvm.findClass]; exact h1, hi', h3, by rw [he]; exact h4, h5, h6, h7, h8, by rw [he]; exact h9, h10⟩
theorem vx_L.kept {C n d : String} {A : Nat → Prop} {U : State} {H H1 : Heap} (h : vx_L C n d A U H) (hq : ∀ a : Nat, a < H.size → ¬ A a → H1[a]? = H[a]?) : vx_L C n d A U H1 := by
  obtain ⟨c, k, i, f, a, cell, h1, h2, h3, h4, h5, h6, h7, h8, h9, h10⟩ := h
  exact ⟨c, k, i, f, a, cell, h1, h2, h3, h4, by rw [hq a (Array.getElem?_eq_some_iff.mp h5).1 h10]; exact h5, h6, h7, h8, h9, h10⟩
theorem vx_L.narrow {C n d : String} {A B : Nat → Prop} {U : State} {H : Heap} (h : vx_L C n d A U H) (hAB : ∀ q, B q → A q) : vx_L C n d B U H := by
  obtain ⟨c, k, i, f, a, cell, h1, h2, h3, h4, h5, h6, h7, h8, h9, h10⟩ := h
  exact ⟨c, k, i, f, a, cell, h1, h2, h3, h4, h5, h6, h7, h8, h9, fun z => h10 (hAB _ z)⟩
theorem vx_L.word {C n d : String} {A : Nat → Prop} {s : State} {args : Array Value} (h : vx_L C n d A s s.heap) : (Cond.laysStatic C n d).before args s = true := by
  obtain ⟨c, k, i, f, a, cell, h1, h2, h3, h4, h5, h6, h7, h8, h9, -⟩ := h
  show (Cond.laysStatic C n d).holds args s none s [] = true
  exact Cond.laysStatic_of h1 h2 h3 h4 h5 h6 h7 h8 h9
/-- .. and what it holds: null or some reference -/
def vx_Zq (C n d : String) (A : Nat → Prop) (U : State) (H : Heap) : Prop := va_Zq C n d A U H ∧ vx_L C n d A U H
theorem vx_Zq.moved {C n d : String} {A : Nat → Prop} {u U : State} {H : Heap} (hvm : u.vm.Alike U.vm) (h : vx_Zq C n d A u H) : vx_Zq C n d A U H := ⟨va_Zq.moved hvm h.1, vx_L.moved hvm h.2⟩
theorem vx_Zq.kept {C n d : String} {A : Nat → Prop} {U : State} {H H1 : Heap} (h : vx_Zq C n d A U H) (hq : ∀ a : Nat, a < H.size → ¬ A a → H1[a]? = H[a]?) : vx_Zq C n d A U H1 := ⟨va_Zq.kept h.1 hq, vx_L.kept h.2 hq⟩
theorem vx_Zq.narrow {C n d : String} {A B : Nat → Prop} {U : State} {H : Heap} (h : vx_Zq C n d A U H) (hAB : ∀ q, B q → A q) : vx_Zq C n d B U H := ⟨va_Zq.narrow h.1 hAB, vx_L.narrow h.2 hAB⟩
theorem vx_Zqof {args : Array Value} {s : State} {C n d : String} {A : Nat → Prop} (hl : (Cond.laysStatic C n d).before args s = true) (hini : (Cond.initialized C).before args s = true) (h : (Cond.isRef (.static C n d)).before args s = true) (hA : ∀ a : Nat, a < s.heap.size → ¬ A a) : vx_Zq C n d A s s.heap := by
  refine ⟨va_Zqof hl hini h hA, ?_⟩
  obtain ⟨c, k, i, f, a, cell, h1, h2, h3, h4, h5, h6, h7, h8, h9⟩ := Cond.laysStatic_spec hl
  exact ⟨c, k, i, f, a, cell, h1, h2, h3, h4, h5, h6, h7, h8, h9, hA a (Array.getElem?_eq_some_iff.mp h5).1⟩
theorem vx_isRef {C n d : String} {v : Value} {A : Nat → Prop} {s : State} {args : Array Value} (h : va_Z C n d v A s s.heap) (hv : v.isRef = true) : (Cond.isRef (.static C n d)).before args s = true := by
  obtain ⟨cf, kf, fi, f, a, cell, h1, h2, h3, h4, h5, h6, h7, -⟩ := h
  have he : (Term.static C n d).eval args s none [] s = some v := by
    simp [Term.eval, State.fieldNamed?, h1, h2, h4, h5, h6, h7]
  simp only [Cond.before, Cond.holds, Cond.value, he]
  cases v <;> simp_all [Value.isRef]
theorem vx_isRefq {C n d : String} {A : Nat → Prop} {s : State} {args : Array Value} (h : va_Zq C n d A s s.heap) : (Cond.isRef (.static C n d)).before args s = true := by
  rcases h with h | ⟨t, h⟩
  · exact vx_isRef h rfl
  · exact vx_isRef h rfl
/-- the same frame, seen from here: as if the method were called anew in this heap -/
theorem vx_rebase {T : State} (X : Stand p l e R s m args below meth c T locs cells slots) {R' : Room} (hf : R'.frames ≤ R.frames) (hl : R'.locals ≤ R.locals) (hc : cells + R'.cells ≤ R.cells) (hs : slots + R'.slots ≤ R.slots) :
    Stand p l e R' ((T.setVm s.vm).setFrames (.invoking m args :: below)) m args below meth c T [] 0 0 := by
  have htop : (T.setVm s.vm).topJava?.isSome := X.here.top
  have hF : ((T.setVm s.vm).setFrames (.invoking m args :: below)).frames = .invoking m args :: below := State.frames_setFrames _ (State.cur_lt_of_top htop)
  obtain ⟨g₀, hg0⟩ := Option.isSome_iff_exists.mp htop
  obtain ⟨r, hr⟩ := State.topJava?_eq_some.mp hg0
  have hl9 : e.platform.stackLimits (T.setVm s.vm).me = e.platform.stackLimits s.me := X.limits
  have hb9 : (T.setVm s.vm).me.stackBytes = s.me.stackBytes := X.bytes
  refine ⟨X.admits, X.cas, X.clock, hF, ?_, X.hears, X.method, X.code, X.here, X.tail, X.warmed, ?_, ?_, ?_⟩
  · have h := X.room
    have hU : ((T.setVm s.vm).setFrames (.invoking m args :: below)).localsInUse = s.localsInUse := by
      rw [State.localsInUse_invoking hF (meth := meth) (c := c) X.method X.code, State.localsInUse_invoking X.frames X.method X.code]
    simp only [State.hasRoom, Bool.and_eq_true, decide_eq_true_eq] at h ⊢
    obtain ⟨⟨⟨⟨h1, h2, h3, h4, h5, h6⟩, h7⟩, h8⟩, h9⟩ := h
    rw [X.frames, List.length_cons] at h2 h3
    have q1 := X.heapSize
    have q2 := X.used
    simp only [hF, hU, List.length_cons, State.stackLimits_setFrames, State.stackBytes_setFrames, hl9, hb9]
    refine ⟨⟨⟨⟨by omega, by omega, by omega, by omega, by omega, h6⟩, ?_⟩, ?_⟩, X.book⟩
    · show T.heap.size + R'.cells ≤ e.platform.maxCells
      omega
    · show T.slotsUsed + R'.slots ≤ e.platform.maxSlots
      omega
  · rw [State.stackLimits_setFrames]; rfl
  · rw [State.stackBytes_setFrames]; rfl
  · refine ⟨?_, Nat.le_refl _, Nat.le_refl _, ?_, ?_, fun a c9 h9 => ⟨c9, h9, rfl, rfl, fun _ _ => rfl⟩⟩
    · obtain ⟨t, ht, -⟩ := State.frames_cons hr
      show T.setVm s.vm = { ((T.setVm s.vm).setFrames (.invoking m args :: below)).setFrames (T.setVm s.vm).frames with heap := T.heap, slotsUsed := T.slotsUsed }
      rw [State.setFrames_setFrames, State.setFrames_self ht]
      rfl
    · show T.slotsUsed = T.slotsUsed + ((T.heap.toList.drop T.heap.size).map (·.slots.size)).sum
      rw [List.drop_eq_nil_of_le (Nat.le_of_eq Array.length_toList)]
      rfl
    · show ((T.heap.toList.drop T.heap.size).map (·.slots.size)).sum ≤ 0
      rw [List.drop_eq_nil_of_le (Nat.le_of_eq Array.length_toList)]
      exact Nat.le_refl _
/-- 'throw new E()': new; dup; invokespecial; athrow -/
theorem vx_throw0 {cc : ByteArray} {pc : Nat} (hexec : p.tables.exec = Jvm.exec) (hb : c.code = cc) (hl : l.stackTraces = false) {own cls : String} {names : List String} {ik ic mc ms : Nat} {A : Nat → Prop}
    (hown : s.vm.findClass own = some m.cls) (hcls : Bundle.fit cls = true) (hnames : ∀ n ∈ names, Bundle.fit n = true)
    (hk : (Cond.classLink own ik cls).before args s = true) (hini : (Cond.initialized cls).before args s = true) (hat : ∀ w ∈ vx_at0 own ic cls names, w.before args s = true)
    (hgood : ∀ w ∈ Cond.classLink own ik cls :: Cond.initialized cls :: vx_at0 own ic cls names, vx_ot w = true)
    (hU : vx_Zq Bundle.tN "UNASSIGNED_STACK" Bundle.steD A s s.heap) (hN : vx_Zq Bundle.tN "SUPPRESSED_SENTINEL" Bundle.listD A s s.heap) (hS : va_S A s.heap H locs) (hsize : ls.size = c.maxLocals)
    (d0 : decode cc pc = .ok (.new ik, 3)) (d3 : decode cc (pc + 3) = .ok (.dup, 1)) (d4 : decode cc (pc + 4) = .ok (.invokespecial ic, 3)) (d7 : decode cc (pc + 7) = .ok (.athrow, 1))
    (hout : ∀ x ∈ c.exceptionTable.toList, covers x (pc + 7) = false)
    (hRframes : names.length + 3 < R.frames) (hRlocals : (rest.map fun v => v.category).sum + (13 * (names.length + 1) + 42) ≤ R.locals) (hRcells : cells + 1 ≤ R.cells) (hRslots : slots + 6 ≤ R.slots) (hlocks : meth.locks = false)
    (hx : ∀ t : State, s.vm.Alike t.vm → H.size ≤ t.heap.size → (∀ q : Nat, q < H.size → t.heap[q]? = H[q]?) → XC cls s t)
    (hf : ∀ z ∈ locs, free z.base) (hc : cells + 1 ≤ mc) (hs : slots + 6 ≤ ms) :
    W p l e R s m args below meth c H locs cells slots (vx_MQ below Qc XC args s mc ms free) (F0 m pc ls rest) := by
  intro T hT X
  have htr : e.platform.stackTraces = false := (show e.platform.stackTraces = l.stackTraces by rw [X.admits.platform]).trans hl
  have Y := vx_rebase X (R' := { frames := R.frames, locals := R.locals, cells := 1, slots := 6 }) (Nat.le_refl _) (Nat.le_refl _) hRcells hRslots
  obtain ⟨s', hA⟩ : ∃ z, z = (T.setVm s.vm).setFrames (.invoking m args :: below) := ⟨_, rfl⟩
  rw [← hA] at Y
  have hvm : s'.vm = s.vm := by rw [hA]; rfl
  have hhp : s'.heap = H := by rw [hA]; exact hT
  have hW0 : s.WarmedH s'.vm := by rw [hvm]; exact State.WarmedH.refl s
  have hat' : ∀ w ∈ vx_at0 own ic cls names, w.before args s' = true := fun w hw => vx_ot_at hW0 hvm.symm (hgood w (List.mem_cons_of_mem _ (List.mem_cons_of_mem _ hw))) (hat w hw)
  have hk' : (Cond.classLink own ik cls).before args s' = true := vx_ot_at hW0 hvm.symm (hgood _ List.mem_cons_self) hk
  have hini' : (Cond.initialized cls).before args s' = true := vx_ot_at hW0 hvm.symm (hgood _ (List.mem_cons_of_mem _ List.mem_cons_self)) hini
  have hU' : vx_Zq Bundle.tN "UNASSIGNED_STACK" Bundle.steD A s' s'.heap := by rw [hhp]; exact vx_Zq.moved hW0.alike (hU.kept hS.2.1)
  have hN' : vx_Zq Bundle.tN "SUPPRESSED_SENTINEL" Bundle.listD A s' s'.heap := by rw [hhp]; exact vx_Zq.moved hW0.alike (hN.kept hS.2.1)
  have h : ∀ w ∈ Bundle.ownAtoms0 own ic cls names, w.before args s' = true := vx_own hat' (vx_isRefq hU'.1) (vx_isRefq hN'.1) hU'.2.word hN'.2.word
  have hown' : s'.vm.findClass own = some m.cls := by rw [hvm]; exact hown
  have hins : (Cond.instantiable cls 6).before args s' = true := h _ (by simp [Bundle.ownAtoms0])
  obtain ⟨vm₁, cX, kX, hfX, hkX, -, -, X₁, st1⟩ := Y.newCold hexec (own := own) (C := cls) (index := ik) (n := 6) hown' hk' hins hini'
    (g := F0 m pc ls rest) rfl (by rw [hb]; exact d0) (Nat.le_refl _) (Nat.le_refl _)
  generalize hT1 : (T.setVm vm₁).pushCell { cls := cX, slots := kX.instanceTypes.map defaultValue, vm := .none } = T1 at X₁ st1
  have hcat : (Value.ref T.heap.size).category = 1 := rfl
  have hcellA : T1.heap[T.heap.size]? = some (freshCell cX kX) := by rw [← hT1]; exact State.heap_pushCell_size _ _
  have d3' : decode c.code (pc + 3) = .ok (.dup, 1) := by rw [hb]; exact d3
  obtain ⟨U, hsteps, hrun, hend, hW, hsame, ce, hce, hO⟩ := X₁.ctorThrow0 hexec htr (own := own) (cls := cls) (names := names) (ic := ic) hown' hcls hnames h (fun x hx => nomatch hx) hfX hkX hcellA (by rw [hhp, hT]; exact Nat.le_refl _)
    (g := { method := m, pc := pc + 4, locals := ls, stack := .ref T.heap.size :: .ref T.heap.size :: rest, locked := none }) rfl hsize rfl rfl (rest := rest) rfl
    (by rw [hb]; exact d4) (by rw [hb]; exact d7) hout hRframes (by simp only [List.map_cons, List.sum_cons, hcat]; omega) hlocks
  obtain ⟨f1, f2⟩ := vx_frame hsame
  rw [hhp] at f1 f2
  have hWs : s.WarmedH U.vm := State.WarmedH.trans hW0 hW
  have hcl : s.vm.findClass cls = some ce.cls := by
    have h9 := hO.cls
    rw [hvm] at h9
    exact h9
  have hall : s.sameButNew ({ U with vm := s.vm } : State) locs mc ms := by
    subst hA
    obtain ⟨e1, e2⟩ := hsame
    rw [State.setFrames_setFrames] at e1
    have h2 : (T.setVm s.vm).sameButNew ({ U with vm := s.vm } : State) [] (0 + 1) (0 + 6) := ⟨e1, e2⟩
    have h3 := X.same.trans h2
    rw [List.append_nil] at h3
    exact h3.mono hc hs
  refine ⟨U, ?_, .threw T.heap.size, hrun, hend, Or.inr ⟨T.heap.size, rfl, cls, ce, locs, hx U hWs.alike f1 (fun q hq => f2 q hq (fun z hz => nomatch hz)), hce, hO.vm, hcl, hWs, hall, hf⟩⟩
  refine st1 _ ?_
  show Steps p.tables e below (T1.setTop { method := m, pc := pc + 3, locals := ls, stack := .ref T.heap.size :: rest, locked := none }) _
  jvm_step X₁.here [X₁.here.top, hexec, d3', Value.category]
  exact hsteps
/-- 'throw new E("text")': new; dup; ldc; invokespecial; athrow -/
theorem vx_throwS {cc : ByteArray} {pc : Nat} (hexec : p.tables.exec = Jvm.exec) (hb : c.code = cc) (hl : l.stackTraces = false) {own cls text : String} {names : List String} {ik is ic mc ms sa : Nat} {A : Nat → Prop}
    (hown : s.vm.findClass own = some m.cls) (hcls : Bundle.fit cls = true) (hnames : ∀ n ∈ names, Bundle.fit n = true)
    (hk : (Cond.classLink own ik cls).before args s = true) (hini : (Cond.initialized cls).before args s = true) (hstr : vk_R own is text sa s) (hat : ∀ w ∈ vx_atS own ic cls names, w.before args s = true)
    (hgood : ∀ w ∈ Cond.classLink own ik cls :: Cond.initialized cls :: vx_atS own ic cls names, vx_ot w = true)
    (hU : vx_Zq Bundle.tN "UNASSIGNED_STACK" Bundle.steD A s s.heap) (hN : vx_Zq Bundle.tN "SUPPRESSED_SENTINEL" Bundle.listD A s s.heap) (hS : va_S A s.heap H locs) (hsize : ls.size = c.maxLocals)
    (d0 : decode cc pc = .ok (.new ik, 3)) (d3 : decode cc (pc + 3) = .ok (.dup, 1)) (d4 : decode cc (pc + 4) = .ok (.ldc is, 2)) (d6 : decode cc (pc + 6) = .ok (.invokespecial ic, 3)) (d9 : decode cc (pc + 9) = .ok (.athrow, 1))
    (hout : ∀ x ∈ c.exceptionTable.toList, covers x (pc + 9) = false)
    (hRframes : names.length + 3 < R.frames) (hRlocals : (rest.map fun v => v.category).sum + (13 * (names.length + 1) + 43) ≤ R.locals) (hRcells : cells + 1 ≤ R.cells) (hRslots : slots + 6 ≤ R.slots) (hlocks : meth.locks = false)
    (hx : ∀ t : State, s.vm.Alike t.vm → H.size ≤ t.heap.size → (∀ q : Nat, q < H.size → t.heap[q]? = H[q]?) → XC cls s t)
    (hf : ∀ z ∈ locs, free z.base) (hc : cells + 1 ≤ mc) (hs : slots + 6 ≤ ms) :
    W p l e R s m args below meth c H locs cells slots (vx_MQ below Qc XC args s mc ms free) (F0 m pc ls rest) := by
  intro T hT X
  have htr : e.platform.stackTraces = false := (show e.platform.stackTraces = l.stackTraces by rw [X.admits.platform]).trans hl
  have Y := vx_rebase X (R' := { frames := R.frames, locals := R.locals, cells := 1, slots := 6 }) (Nat.le_refl _) (Nat.le_refl _) hRcells hRslots
  obtain ⟨s', hA⟩ : ∃ z, z = (T.setVm s.vm).setFrames (.invoking m args :: below) := ⟨_, rfl⟩
  rw [← hA] at Y
  have hvm : s'.vm = s.vm := by rw [hA]; rfl
  have hhp : s'.heap = H := by rw [hA]; exact hT
  have hW0 : s.WarmedH s'.vm := by rw [hvm]; exact State.WarmedH.refl s
  have hat' : ∀ w ∈ vx_atS own ic cls names, w.before args s' = true := fun w hw => vx_ot_at hW0 hvm.symm (hgood w (List.mem_cons_of_mem _ (List.mem_cons_of_mem _ hw))) (hat w hw)
  have hk' : (Cond.classLink own ik cls).before args s' = true := vx_ot_at hW0 hvm.symm (hgood _ List.mem_cons_self) hk
  have hini' : (Cond.initialized cls).before args s' = true := vx_ot_at hW0 hvm.symm (hgood _ (List.mem_cons_of_mem _ List.mem_cons_self)) hini
  have hU' : vx_Zq Bundle.tN "UNASSIGNED_STACK" Bundle.steD A s' s'.heap := by rw [hhp]; exact vx_Zq.moved hW0.alike (hU.kept hS.2.1)
  have hN' : vx_Zq Bundle.tN "SUPPRESSED_SENTINEL" Bundle.listD A s' s'.heap := by rw [hhp]; exact vx_Zq.moved hW0.alike (hN.kept hS.2.1)
  have h : ∀ w ∈ Bundle.ownAtoms own ic cls names, w.before args s' = true := vx_own hat' (vx_isRefq hU'.1) (vx_isRefq hN'.1) hU'.2.word hN'.2.word
  have hown' : s'.vm.findClass own = some m.cls := by rw [hvm]; exact hown
  have hins : (Cond.instantiable cls 6).before args s' = true := h _ (by simp [Bundle.ownAtoms])
  obtain ⟨vm₁, cX, kX, hfX, hkX, -, -, X₁, st1⟩ := Y.newCold hexec (own := own) (C := cls) (index := ik) (n := 6) hown' hk' hins hini'
    (g := F0 m pc ls rest) rfl (by rw [hb]; exact d0) (Nat.le_refl _) (Nat.le_refl _)
  generalize hT1 : (T.setVm vm₁).pushCell { cls := cX, slots := kX.instanceTypes.map defaultValue, vm := .none } = T1 at X₁ st1
  have hcat : (Value.ref T.heap.size).category = 1 := rfl
  have hcellA : T1.heap[T.heap.size]? = some (freshCell cX kX) := by rw [← hT1]; exact State.heap_pushCell_size _ _
  have d3' : decode c.code (pc + 3) = .ok (.dup, 1) := by rw [hb]; exact d3
  have d4' : decode c.code (pc + 4) = .ok (.ldc is, 2) := by rw [hb]; exact d4
  have hstr' : vk_R own is text sa s' := vk_R.warm hW0 hstr
  obtain ⟨U, hsteps, hrun, hend, hW, hsame, ce, hce, hO⟩ := X₁.ctorThrowS hexec htr (own := own) (cls := cls) (names := names) (ic := ic) hown' hcls hnames h (fun x hx => nomatch hx) hfX hkX hcellA (by rw [hhp, hT]; exact Nat.le_refl _) (msg := .ref sa) rfl
    (g := { method := m, pc := pc + 6, locals := ls, stack := .ref sa :: .ref T.heap.size :: .ref T.heap.size :: rest, locked := none }) rfl hsize rfl rfl (rest := rest) rfl
    (by rw [hb]; exact d6) (by rw [hb]; exact d9) hout hRframes (by simp only [List.map_cons, List.sum_cons, hcat]; omega) hlocks
  obtain ⟨f1, f2⟩ := vx_frame hsame
  rw [hhp] at f1 f2
  have hWs : s.WarmedH U.vm := State.WarmedH.trans hW0 hW
  have hcl : s.vm.findClass cls = some ce.cls := by
    have h9 := hO.cls
    rw [hvm] at h9
    exact h9
  have hall : s.sameButNew ({ U with vm := s.vm } : State) locs mc ms := by
    subst hA
    obtain ⟨e1, e2⟩ := hsame
    rw [State.setFrames_setFrames] at e1
    have h2 : (T.setVm s.vm).sameButNew ({ U with vm := s.vm } : State) [] (0 + 1) (0 + 6) := ⟨e1, e2⟩
    have h3 := X.same.trans h2
    rw [List.append_nil] at h3
    exact h3.mono hc hs
  refine ⟨U, ?_, .threw T.heap.size, hrun, hend, Or.inr ⟨T.heap.size, rfl, cls, ce, locs, hx U hWs.alike f1 (fun q hq => f2 q hq (fun z hz => nomatch hz)), hce, hO.vm, hcl, hWs, hall, hf⟩⟩
  refine st1 _ ?_
  show Steps p.tables e below (T1.setTop { method := m, pc := pc + 3, locals := ls, stack := .ref T.heap.size :: rest, locked := none }) _
  jvm_step X₁.here [X₁.here.top, hexec, d3', Value.category]
  exact X₁.ldcString hexec (own := own) (text := text) (index := is) (a := sa) hown' hstr'.1 hstr'.2
    (g := { method := m, pc := pc + 4, locals := ls, stack := .ref T.heap.size :: .ref T.heap.size :: rest, locked := none }) rfl d4' _ hsteps
/-- 'throw new E("text")', the text by a wide index -/
theorem vx_throwSW {cc : ByteArray} {pc : Nat} (hexec : p.tables.exec = Jvm.exec) (hb : c.code = cc) (hl : l.stackTraces = false) {own cls text : String} {names : List String} {ik is ic mc ms sa : Nat} {A : Nat → Prop}
    (hown : s.vm.findClass own = some m.cls) (hcls : Bundle.fit cls = true) (hnames : ∀ n ∈ names, Bundle.fit n = true)
    (hk : (Cond.classLink own ik cls).before args s = true) (hini : (Cond.initialized cls).before args s = true) (hstr : vk_R own is text sa s) (hat : ∀ w ∈ vx_atS own ic cls names, w.before args s = true)
    (hgood : ∀ w ∈ Cond.classLink own ik cls :: Cond.initialized cls :: vx_atS own ic cls names, vx_ot w = true)
    (hU : vx_Zq Bundle.tN "UNASSIGNED_STACK" Bundle.steD A s s.heap) (hN : vx_Zq Bundle.tN "SUPPRESSED_SENTINEL" Bundle.listD A s s.heap) (hS : va_S A s.heap H locs) (hsize : ls.size = c.maxLocals)
    (d0 : decode cc pc = .ok (.new ik, 3)) (d3 : decode cc (pc + 3) = .ok (.dup, 1)) (d4 : decode cc (pc + 4) = .ok (.ldc_w is, 3)) (d7 : decode cc (pc + 7) = .ok (.invokespecial ic, 3)) (d10 : decode cc (pc + 10) = .ok (.athrow, 1))
    (hout : ∀ x ∈ c.exceptionTable.toList, covers x (pc + 10) = false)
    (hRframes : names.length + 3 < R.frames) (hRlocals : (rest.map fun v => v.category).sum + (13 * (names.length + 1) + 43) ≤ R.locals) (hRcells : cells + 1 ≤ R.cells) (hRslots : slots + 6 ≤ R.slots) (hlocks : meth.locks = false)
    (hx : ∀ t : State, s.vm.Alike t.vm → H.size ≤ t.heap.size → (∀ q : Nat, q < H.size → t.heap[q]? = H[q]?) → XC cls s t)
    (hf : ∀ z ∈ locs, free z.base) (hc : cells + 1 ≤ mc) (hs : slots + 6 ≤ ms) :
    W p l e R s m args below meth c H locs cells slots (vx_MQ below Qc XC args s mc ms free) (F0 m pc ls rest) := by
  intro T hT X
  have htr : e.platform.stackTraces = false := (show e.platform.stackTraces = l.stackTraces by rw [X.admits.platform]).trans hl
  have Y := vx_rebase X (R' := { frames := R.frames, locals := R.locals, cells := 1, slots := 6 }) (Nat.le_refl _) (Nat.le_refl _) hRcells hRslots
  obtain ⟨s', hA⟩ : ∃ z, z = (T.setVm s.vm).setFrames (.invoking m args :: below) := ⟨_, rfl⟩
  rw [← hA] at Y
  have hvm : s'.vm = s.vm := by rw [hA]; rfl
  have hhp : s'.heap = H := by rw [hA]; exact hT
  have hW0 : s.WarmedH s'.vm := by rw [hvm]; exact State.WarmedH.refl s
  have hat' : ∀ w ∈ vx_atS own ic cls names, w.before args s' = true := fun w hw => vx_ot_at hW0 hvm.symm (hgood w (List.mem_cons_of_mem _ (List.mem_cons_of_mem _ hw))) (hat w hw)
  have hk' : (Cond.classLink own ik cls).before args s' = true := vx_ot_at hW0 hvm.symm (hgood _ List.mem_cons_self) hk
  have hini' : (Cond.initialized cls).before args s' = true := vx_ot_at hW0 hvm.symm (hgood _ (List.mem_cons_of_mem _ List.mem_cons_self)) hini
  have hU' : vx_Zq Bundle.tN "UNASSIGNED_STACK" Bundle.steD A s' s'.heap := by rw [hhp]; exact vx_Zq.moved hW0.alike (hU.kept hS.2.1)
  have hN' : vx_Zq Bundle.tN "SUPPRESSED_SENTINEL" Bundle.listD A s' s'.heap := by rw [hhp]; exact vx_Zq.moved hW0.alike (hN.kept hS.2.1)
  have h : ∀ w ∈ Bundle.ownAtoms own ic cls names, w.before args s' = true := vx_own hat' (vx_isRefq hU'.1) (vx_isRefq hN'.1) hU'.2.word hN'.2.word
  have hown' : s'.vm.findClass own = some m.cls := by rw [hvm]; exact hown
  have hins : (Cond.instantiable cls 6).before args s' = true := h _ (by simp [Bundle.ownAtoms])
  obtain ⟨vm₁, cX, kX, hfX, hkX, -, -, X₁, st1⟩ := Y.newCold hexec (own := own) (C := cls) (index := ik) (n := 6) hown' hk' hins hini'
    (g := F0 m pc ls rest) rfl (by rw [hb]; exact d0) (Nat.le_refl _) (Nat.le_refl _)
  generalize hT1 : (T.setVm vm₁).pushCell { cls := cX, slots := kX.instanceTypes.map defaultValue, vm := .none } = T1 at X₁ st1
  have hcat : (Value.ref T.heap.size).category = 1 := rfl
  have hcellA : T1.heap[T.heap.size]? = some (freshCell cX kX) := by rw [← hT1]; exact State.heap_pushCell_size _ _
  have d3' : decode c.code (pc + 3) = .ok (.dup, 1) := by rw [hb]; exact d3
  have d4' : decode c.code (pc + 4) = .ok (.ldc_w is, 3) := by rw [hb]; exact d4
  have hstr' : vk_R own is text sa s' := vk_R.warm hW0 hstr
  obtain ⟨U, hsteps, hrun, hend, hW, hsame, ce, hce, hO⟩ := X₁.ctorThrowS hexec htr (own := own) (cls := cls) (names := names) (ic := ic) hown' hcls hnames h (fun x hx => nomatch hx) hfX hkX hcellA (by rw [hhp, hT]; exact Nat.le_refl _) (msg := .ref sa) rfl
    (g := { method := m, pc := pc + 7, locals := ls, stack := .ref sa :: .ref T.heap.size :: .ref T.heap.size :: rest, locked := none }) rfl hsize rfl rfl (rest := rest) rfl
    (by rw [hb]; exact d7) (by rw [hb]; exact d10) hout hRframes (by simp only [List.map_cons, List.sum_cons, hcat]; omega) hlocks
  obtain ⟨f1, f2⟩ := vx_frame hsame
  rw [hhp] at f1 f2
  have hWs : s.WarmedH U.vm := State.WarmedH.trans hW0 hW
  have hcl : s.vm.findClass cls = some ce.cls := by
    have h9 := hO.cls
    rw [hvm] at h9
    exact h9
  have hall : s.sameButNew ({ U with vm := s.vm } : State) locs mc ms := by
    subst hA
    obtain ⟨e1, e2⟩ := hsame
    rw [State.setFrames_setFrames] at e1
    have h2 : (T.setVm s.vm).sameButNew ({ U with vm := s.vm } : State) [] (0 + 1) (0 + 6) := ⟨e1, e2⟩
    have h3 := X.same.trans h2
    rw [List.append_nil] at h3
    exact h3.mono hc hs
  refine ⟨U, ?_, .threw T.heap.size, hrun, hend, Or.inr ⟨T.heap.size, rfl, cls, ce, locs, hx U hWs.alike f1 (fun q hq => f2 q hq (fun z hz => nomatch hz)), hce, hO.vm, hcl, hWs, hall, hf⟩⟩
  refine st1 _ ?_
  show Steps p.tables e below (T1.setTop { method := m, pc := pc + 3, locals := ls, stack := .ref T.heap.size :: rest, locked := none }) _
  jvm_step X₁.here [X₁.here.top, hexec, d3', Value.category]
  exact X₁.ldcStringW hexec (own := own) (text := text) (index := is) (a := sa) hown' hstr'.1 hstr'.2
    (g := { method := m, pc := pc + 4, locals := ls, stack := .ref T.heap.size :: .ref T.heap.size :: rest, locked := none }) rfl d4' _ hsteps
end Ends
section Bodies
variable {l : Launch}
theorem vx_ofW {y : MethodName} {ws ws' : List Cond} {rm : Room} {Pc : Array Value → State → Prop} {Qc : Array Value → State → Outcome → State → Prop} {XC : String → State → State → Prop} {mc ms : Nat} {free : Addr → Prop} {cc : ByteArray} {maxL : Nat} {ret : Option FieldType}
    (hy : plainName y.cls = true) (hw : ws = Cond.code y cc maxL ret :: ws')
    (body : ∀ p e s m args below meth c s₁, BodyLoose p l y (headSpec ws rm) cc maxL ret e s m args below meth c s₁ → c.maxLocals = maxL → (∀ x ∈ c.exceptionTable.toList, False) → Pc args s →
      W p l e (headSpec ws rm).room s m args below meth c s.heap [] 0 0 (vx_MQ below Qc XC args s mc ms free) (entryFrame m args maxL)) : vx_Met l y ws rm Pc Qc XC mc ms free := by
  refine MetFree.of_bodyS (code := cc) (maxLocals := maxL) (ret := ret) hy ?_ ?_
  · intro args s m h hn
    obtain ⟨meth, c, h1, h2, h3, h4, h5, h6, -, -⟩ := Cond.code_spec hn (atoms_spec (ws := ws) h _ (by rw [hw]; exact List.mem_cons_self))
    exact ⟨meth, c, h1, h2, h3, h4, h5, h6⟩
  · intro p e s m args below meth c s₁ B hml hP _
    have hh0 : s₁.heap = s.heap := by rw [B.state]; rfl
    have ht : ∀ x ∈ c.exceptionTable.toList, False := by
      obtain ⟨meth9, c9, h1, h2, -, -, -, -, h7, -⟩ := Cond.code_spec B.named (atoms_spec (ws := ws) B.pre _ (by rw [hw]; exact List.mem_cons_self))
      cases Option.some.inj (h1.symm.trans B.method)
      cases Option.some.inj (h2.symm.trans (Stand.of_body B).code)
      intro x hx
      rw [Array.isEmpty_iff.mp h7] at hx
      cases hx
    obtain ⟨t, a1, o, b1, b2, b3⟩ := body p e s m args below meth c s₁ B hml ht hP s₁ hh0 (Stand.of_body B)
    exact ⟨t, o, a1, b1, b2, b3⟩
/-- the table of a body with handlers -/
theorem vx_table {p : Program} {x y : MethodName} {S : Spec} {cc bytes : ByteArray} {maxL maxL' : Nat} {ret ret' : Option FieldType} {e : Env} {s s₁ : State} {m : MethodId} {args : Array Value} {below : List Frame} {meth : Method} {c : Code} {hh : List (Nat × Nat × Nat × Nat)}
    (B : BodyLoose p l y S cc maxL ret e s m args below meth c s₁) (h : (Cond.codeWith y bytes maxL' ret' hh).before args s = true) : c.exceptionTable.toList = tableOf hh := by
  obtain ⟨m9, meth9, c9, hn9, h1, h2, -, -, h6, -⟩ := Cond.codeWith_spec h
  cases Option.some.inj (hn9.symm.trans B.named)
  cases Option.some.inj (h1.symm.trans B.method)
  cases Option.some.inj (h2.symm.trans (Stand.of_body B).code)
  rw [← h6, table_eq]
end Bodies
end VXA
/-! ===== END ===== -/
/-! ===== BEGIN a static call of a method with an exception table ===== -/
section VXS
variable {p : Program} {l : Launch} {e : Env} {R : Room} {s : State} {m : MethodId} {args : Array Value} {below : List Frame} {meth : Method} {c : Code} {T : State} {H : Heap} {locs : List Loc} {cells slots : Nat}
abbrev vx_CSW (R : Room) (s : State) (args : Array Value) (own : String) (index : Nat) (y : MethodName) (bytes : ByteArray) (maxL : Nat) (ret : Option FieldType) (hh : List (Nat × Nat × Nat × Nat)) (ws : List Cond) (rm : Room) (mc ms n : Nat) : Prop :=
  (rm.cells = mc ∧ rm.slots = ms ∧ rm.frames + 1 ≤ R.frames ∧ 8 + (maxL + 11) + rm.locals ≤ R.locals ∧ (∀ w ∈ ws, ∀ (a' : Array Value) (U : State), s.WarmedH U.vm → w.before a' U = true) ∧ Cond.codeWith y bytes maxL ret hh ∈ ws) ∧
  (Cond.codeWith y bytes maxL ret hh).before args s = true ∧ (Cond.initialized y.cls).before args s = true ∧ (y.cls ≠ "java/lang/invoke/MethodHandle" ∧ y.cls ≠ "java/lang/invoke/VarHandle") ∧
  (∀ sig, parseMethodDescriptor y.desc = some sig → n = sig.parameters.length) ∧ (Cond.methodLink own index y).before args s = true ∧ (Cond.static y).before args s = true
theorem vx_cwSW {own : String} {index maxL mc ms : Nat} {y : MethodName} {bytes : ByteArray} {ret : Option FieldType} {hh : List (Nat × Nat × Nat × Nat)} {Ts ws ws' : List Cond} {rm : Room} (n : Nat) (ht : ∀ w ∈ Ts, w.before args s = true) (hT : GoodIn Ts (va_wsS own index y ws)) (hw : ws = Cond.codeWith y bytes maxL ret hh :: ws') (hrc : rm.cells = mc) (hrs : rm.slots = ms)
    (hd : y.cls ≠ "java/lang/invoke/MethodHandle" ∧ y.cls ≠ "java/lang/invoke/VarHandle" ∧ (parseMethodDescriptor y.desc).map (fun d => d.parameters.length) = some n) (hR : rm.frames + 1 ≤ R.frames ∧ 8 + (maxL + 11) + rm.locals ≤ R.locals) :
    vx_CSW R s args own index y bytes maxL ret hh ws rm mc ms n := by
  have ok : ∀ w ∈ va_wsS own index y ws, w.before args s = true := fun w h => ht w (hT w h).1
  have hG : GoodIn Ts ws := fun w h => hT w (by unfold va_wsS; exact List.mem_append_right _ h)
  have hc : Cond.codeWith y bytes maxL ret hh ∈ ws := by rw [hw]; exact List.mem_cons_self
  refine ⟨⟨hrc, hrs, hR.1, hR.2, pay_in ht hG, hc⟩, ht _ (hG _ hc).1, ok _ (by simp [va_wsS]), ⟨hd.1, hd.2.1⟩, fun sig h => ?_, ok _ (by simp [va_wsS]), ok _ (by simp [va_wsS])⟩
  have h2 := hd.2.2
  rw [h] at h2
  exact (Option.some.inj h2).symm
theorem vx_callSW (X : Stand p l e R s m args below meth c T locs cells slots) (hexec : p.tables.exec = Jvm.exec) {own : String} {index : Nat} {y : MethodName} {bytes : ByteArray} {maxL : Nat} {ret : Option FieldType} {hh : List (Nat × Nat × Nat × Nat)}
    (hown : s.vm.findClass own = some m.cls) (hlink : (Cond.methodLink own index y).before args s = true) (hstat : (Cond.static y).before args s = true) (hinit : (Cond.initialized y.cls).before args s = true)
    (hcode : (Cond.codeWith y bytes maxL ret hh).before args s = true) (hy : y.cls ≠ "java/lang/invoke/MethodHandle" ∧ y.cls ≠ "java/lang/invoke/VarHandle")
    {W9 : Nat} {Pre : Pt → Array Value → Prop} {Post : Pt → Array Value → Option Value → Pt → Prop} (hK : Back l R p e below s args y 3 W9 Pre Post)
    {g : JFrame} (hg : g.method = m) (hsize : g.locals.size = c.maxLocals) {argsL rest : List Value} (hlen : ∀ sig, parseMethodDescriptor y.desc = some sig → argsL.length = sig.parameters.length)
    (hstack : g.stack = argsL.reverse ++ rest) (hW : 2 * g.monitorRoom + (rest.map fun v => v.category).sum ≤ W9) (hdg : decode c.code g.pc = .ok (.invokestatic index, 3))
    (hpre : ∀ vm₁, s.WarmedH vm₁ → Pre ⟨T.setVm vm₁, locs, cells, slots⟩ argsL.toArray) :
    ∃ (v : Option Value) (vm₁ : Vm) (B : Pt), s.WarmedH vm₁ ∧ Stand p l e R s m args below meth c B.U B.locs B.cells B.slots ∧ Post ⟨T.setVm vm₁, locs, cells, slots⟩ argsL.toArray v B ∧
      ∀ target, Steps p.tables e below (B.U.setTop { g with pc := g.pc + 3, stack := v.toList ++ rest }) target → Steps p.tables e below (T.setTop g) target := by
  obtain ⟨mk, methM, cM, hnamed, hmethM, -, -, -, -, -, -, hsigM⟩ := Cond.codeWith_spec hcode
  have hstatic : methM.isStatic = true := Cond.static_spec hnamed hmethM hstat
  obtain ⟨kP, hkP, -⟩ := className_of_methodNamed hnamed
  have hinitP : kP.init = .initialized := Cond.initialized_spec (findClass_of_methodNamed hnamed) hkP hinit
  obtain ⟨vm₁, X₁, hstep₁⟩ := X.invokestatic hexec hown hlink hnamed hmethM hstatic hkP hinitP hy (g := g) hg (argsL := argsL) (rest := rest) (hlen _ hsigM) hstack hdg
  obtain ⟨v, B, X', hpost, hsteps⟩ := hK m meth c ⟨T.setVm vm₁, locs, cells, slots⟩ { g with stack := rest } (.invokestatic index) mk argsL.toArray X₁ hg hsize hdg hW (X₁.named hnamed) (hpre vm₁ X₁.warmed)
  exact ⟨v, vm₁, B, X₁.warmed, X', hpost, fun target h => hstep₁ _ fun acts => by rw [doInvoke_state]; exact hsteps.trans h⟩
theorem vx_runSW {y : MethodName} {bytes cc : ByteArray} {maxL nL mc ms n index : Nat} {ret : Option FieldType} {hh : List (Nat × Nat × Nat × Nat)} {ws : List Cond} {rm : Room} {Pc : Array Value → State → Prop} {Qc : Array Value → State → Outcome → State → Prop} {free : Addr → Prop} {Ts : List Cond} {own : String} {As rest : List Value} {g : JFrame}
    (S : CallFix p m c cc nL s args Ts own) (hM : Met l y ws rm Pc Qc mc ms free) (cw : vx_CSW R s args own index y bytes maxL ret hh ws rm mc ms n) (hp : PreS s H Pc As)
    (hg : g.method = m) (hn : As.length = n) (hsize : g.locals.size = nL) (hstack : g.stack = As.reverse ++ rest) (hW : 2 * g.monitorRoom + (rest.map fun v => v.category).sum ≤ 8) (hdg : decode cc g.pc = .ok (.invokestatic index, 3)) (hf : cells + mc ≤ R.cells ∧ slots + ms ≤ R.slots) :
    va_Run p l e R s m args below meth c H locs cells slots mc ms g rest (Qc As.toArray) (free) := by
  obtain ⟨⟨hrc, hrs, hfr, hlo, hws, hcw⟩, hcode, hini, hy, hlen, hl, hstt⟩ := cw
  have hK : Back l R p e below s args y 3 8 (PreOf R mc ms Pc) (PostOf Qc mc ms free) := va_backW (hh := hh) (bytes := bytes) (maxL := maxL) (ret := ret) hM hp.1 hrc hrs hfr hlo hws hcw (fun a' U hW => word_at hW (Or.inl (by first | rfl | simp [Cond.onTables, Cond.keeps, Cond.steady])) hini)
  obtain ⟨hx, hb, hml, ho, -⟩ := S
  intro T hT X
  obtain ⟨v, vm₁, ⟨U', l2, c2, s2⟩, hW₁, X', ⟨g', mk, t, L, e1, e2, hq, h1, hL, h2, h3⟩, st⟩ := vx_callSW X hx (hh := hh) (bytes := bytes) (maxL := maxL) (ret := ret) ho hl hstt hini hcode hy hK hg (hsize.trans hml.symm) (argsL := As) (rest := rest) (fun sig h => hn.trans (hlen sig h)) hstack hW (by rw [hb]; exact hdg)
    (fun vm₁ hW₁ => ⟨hf.1, hf.2, hp.2 (T.setVm vm₁) hT hW₁⟩)
  dsimp only [Pt.U, Pt.locs, Pt.cells, Pt.slots] at X' e1 e2 h1 h2 h3 st
  subst h1; subst h2; subst h3
  exact ⟨v, (T.setVm vm₁).calling g' mk As.toArray, t, U', L, hT, X', hL, e1, e2, hq, st⟩
/-- not caught here, past rows that name other classes: it goes on to the caller -/
theorem vx_outP {p : Program} {l : Launch} {e : Env} {R : Room} {s : State} {m : MethodId} {args : Array Value} {below : List Frame} {meth : Method} {c : Code} {H : Heap} {locs : List Loc} {cells slots : Nat} {free : Addr → Prop} {ls : Array Slot} {rest : List Value} {Qc : Array Value → State → Outcome → State → Prop} {XC : String → State → State → Prop}
    {pc : Nat} {own E : String} {ce : Cell} {q : Addr} {mc ms : Nat} (hown : s.vm.findClass own = some m.cls) (hlocks : meth.locks = false)
    (hpass : ∀ z ∈ c.exceptionTable.toList, covers z pc = false ∨ (z.catchType ≠ 0 ∧ ∃ nm : String, (Cond.classLink own z.catchType nm).before args s = true ∧ va_Nc E nm s)) (hcell : H[q]? = some ce) (hv : ce.vm = .none) (hcl : s.vm.findClass E = some ce.cls)
    (hx : ∀ t : State, t.heap = H → s.vm.Alike t.vm → XC E s t) (hf : ∀ z ∈ locs, free z.base) (hc : cells ≤ mc) (hs : slots ≤ ms) :
    vx_W p l e R s m args below meth c H locs cells slots (vx_MQ below Qc XC args s mc ms free) (F0 m pc ls rest) q := by
  intro T hT X
  have hpl : e.platform.magicAccessors = ({} : Platform).magicAccessors := by rw [X.admits.platform]
  obtain ⟨vm', hW', X', st⟩ := X.outThrough hlocks q (g := F0 m pc ls rest) rfl rfl rfl (cell := ce) (by rw [hT]; exact hcell) (by rw [hv]; rfl)
    (by obtain ⟨k9, h9, -⟩ := Vm.findClass_spec hcl; exact ⟨k9, h9⟩) (fun z hz => by
      rcases hpass z hz with h | ⟨hz0, nm, hl1, hn1⟩
      · exact Or.inl h
      · obtain ⟨c6, hc6, hcl6⟩ := Cond.classLink_spec hown hl1 e.platform hpl
        obtain ⟨a8, b8, h1, h2, h3⟩ := hn1
        cases Option.some.inj (h1.symm.trans hcl)
        cases Option.some.inj (h2.symm.trans hc6)
        exact Or.inr ⟨hz0, _, hcl6, h3⟩)
  obtain ⟨g₀, hfr⟩ := X'.frames_eq
  have hcell9 : ((T.setVm vm').setFrames (.throwing q :: below)).heap[q]? = some ce := by
    show T.heap[q]? = some ce
    rw [hT]; exact hcell
  have hend : Ended ((T.setVm vm').setFrames (.throwing q :: below)) below (.threw q) := State.frames_setFrames _ (State.cur_lt_of_frames hfr)
  refine ⟨(T.setVm vm').setFrames (.throwing q :: below), ?_, .threw q, X'.here.running, hend, Or.inr ⟨q, rfl, E, ce, locs, hx _ hT (X'.ends _).1.alike, hcell9, hv, hcl, (X'.ends _).1, (X'.ends _).2.mono hc hs, hf⟩⟩
  rw [X.pushThrowing_eq]
  exact st
/-- a thing of a world lies in the heap -/
theorem vx_lt {D : va_G} {cl : List vw_C} {ws : va_W} {H1 : Heap} (h : va_P D cl ws H1) {k : Nat} {q : Nat × va_E} (hk : ws[k]? = some q) : q.1 < H1.size := (h k q hk).lt
end VXS
/-! ===== END ===== -/
/-! ===== BEGIN methods with a table of their own: called by a name, returning or throwing ===== -/
section VXH
/-! vx_backW, vx_callVX, vx_callSX, vx_callVW, vx_runVW, vx_runVX, vx_runSX, vx_ofWH follow the same proofs as their sisters above (Free/Laws.lean, Shelf42/LK1.lean); vx_outP calls Shelf42/NT130.lean (outThrough). -/
section
variable {l : Launch} {R : Room} {p : Program} {e : Env} {below : List Frame} {s : State} {sargs : Array Value} {y : MethodName} {len W9 : Nat}
theorem vx_backW {ws : List Cond} {rm : Room} {Pc : Array Value → State → Prop} {Qc : Array Value → State → Outcome → State → Prop} {XC : String → State → State → Prop} {mc ms : Nat} {free : Addr → Prop} {bytes : ByteArray} {maxL : Nat} {ret : Option FieldType} {hh : List (Nat × Nat × Nat × Nat)}
    (hM : vx_Met l y ws rm Pc Qc XC mc ms free) (hblind : FrameBlind Pc) (hrc : rm.cells = mc) (hrs : rm.slots = ms)
    (hframes : rm.frames + 1 ≤ R.frames) (hlocals : W9 + (maxL + 11) + rm.locals ≤ R.locals)
    (hws : ∀ w ∈ ws, ∀ a' U, s.WarmedH U.vm → w.before a' U = true) (hcode : Cond.codeWith y bytes maxL ret hh ∈ ws) (hinit : ∀ a' U, s.WarmedH U.vm → (Cond.initialized y.cls).before a' U = true) :
    vx_Back l R p e below s sargs y len W9 (PreOf R mc ms Pc) (PostOf Qc mc ms free) (vx_Post XC mc ms free) := by
  intro m meth c A g ig mk a X hg hsize hdg hW hn hp
  have h1 : (headSpec ws rm).pre.before a A.U = true := atoms_intro fun w hw => hws w hw _ _ X.warmed
  have h2 : (Cond.codeWith y bytes maxL ret hh).before a A.U = true := hws _ hcode _ _ X.warmed
  have h3 : (Cond.initialized y.cls).before a A.U = true := hinit _ _ X.warmed
  have h4 : A.cells + (headSpec ws rm).room.cells ≤ R.cells := by rw [show (headSpec ws rm).room.cells = mc from hrc]; exact hp.1
  have h5 : A.slots + (headSpec ws rm).room.slots ≤ R.slots := by rw [show (headSpec ws rm).room.slots = ms from hrs]; exact hp.2.1
  have hPc : Pc a (A.U.calling g mk a) := hblind _ _ _ _ hp.2.2
  obtain ⟨U, Ls, c0, s0⟩ := A
  dsimp only [Pt.U, Pt.locs, Pt.cells, Pt.slots] at h1 h2 h3 h4 h5 X hn hPc ⊢
  obtain ⟨m9, methY, cY, hn9, hmY, hcY, -, hlY, -⟩ := Cond.codeWith_spec h2
  cases Option.some.inj (hn9.symm.trans hn)
  obtain ⟨kY, hkY, -⟩ := className_of_methodNamed hn
  have hinitY : kY.init = .initialized := Cond.initialized_spec (findClass_of_methodNamed hn) hkY h3
  have h : At U g.method c below := by rw [hg]; exact X.here
  have hlocals9 : W9 + (maxL + 11) + (headSpec ws rm).room.locals ≤ R.locals := hlocals
  have happ : (headSpec ws rm).appliesLoose y e.platform (U.calling g mk a) = true :=
    Spec.appliesLoose_calling (g := g) h hdg hn hkY hinitY
      (X.room_calling (g := g) (R' := (headSpec ws rm).room) hsize hmY hcY hframes (by rw [hlY]; omega) h4 h5) h1
  obtain ⟨mid, hmid⟩ := h.above
  have hfr : (U.setTop g).frames = (.java g :: mid) ++ below := by rw [State.frames_setTop' g h.top, hmid]; rfl
  obtain ⟨o, s₂, hsteps, -, hend, hq⟩ := Steps.callFree hM p X.admits X.cas X.clock (acts := []) hfr happ hPc trivial
  have hq' : vx_Q Qc XC mc ms free a (U.calling g mk a) o s₂ := hq
  rw [State.frames_setTop' g h.top] at hend
  obtain ⟨g₀, hg0⟩ := Option.isSome_iff_exists.mp h.top
  obtain ⟨r, hr⟩ := State.topJava?_eq_some.mp hg0
  have hr' : (({ U with heap := s₂.heap, slotsUsed := s₂.slotsUsed } : State).setVm s₂.vm).frames = .java g₀ :: r := hr
  rcases hq' with ⟨hqc, L, hfe, hL⟩ | ⟨q, rfl, E, ce, L, hx, hce, hcv, hcl, hW₂, hsm, hL⟩
  · obtain ⟨⟨v, rfl⟩, hW₂, e2, q2, q3, q4, q5, q6⟩ := id hfe
    have e3 : s₂ = ({ (U.calling g mk a).setFrames s₂.frames with heap := s₂.heap, slotsUsed := s₂.slotsUsed } : State).setVm s₂.vm := by
      have : s₂ = ({ s₂ with vm := (U.calling g mk a).vm } : State).setVm s₂.vm := rfl
      rw [e2] at this
      exact this
    obtain ⟨c₂, i₂, len₂, hc₂, hd₂, hf₂⟩ := hend
    have hW' : U.WarmedH s₂.vm := hW₂
    have hcc : c₂ = c := by
      have h1 : s₂.code? g.method = U.code? g.method := by
        rw [State.code?_eq, State.code?_eq, hW'.alike.method?]
      exact Option.some.inj (hc₂.symm.trans (h1.trans h.code))
    subst hcc
    have hlen : len₂ = len := by rw [hdg] at hd₂; cases hd₂; rfl
    subst hlen
    have hs₂ : s₂ = (({ U with heap := s₂.heap, slotsUsed := s₂.slotsUsed } : State).setVm s₂.vm).setTop { g with pc := g.pc + len₂, stack := v.toList ++ g.stack } := by
      refine e3.trans ?_
      rw [hf₂, State.calling_eq h.top, State.setFrames_setFrames, State.setTop_of_frames _ hr', hr]
      rfl
    have hsame : U.sameButNew ({ U with heap := s₂.heap, slotsUsed := s₂.slotsUsed } : State) L mc ms := by
      refine ⟨?_, q2, q3, q4, q5, q6⟩
      obtain ⟨t, ht, -⟩ := State.frames_cons hr
      show ({ U with heap := s₂.heap, slotsUsed := s₂.slotsUsed } : State) = { U.setFrames U.frames with heap := s₂.heap, slotsUsed := s₂.slotsUsed }
      rw [State.setFrames_self ht]
    subst hg
    refine Or.inl ⟨v, ⟨(({ U with heap := s₂.heap, slotsUsed := s₂.slotsUsed } : State).setVm s₂.vm), Ls ++ L, c0 + mc, s0 + ms⟩,
      ⟨X.admits, X.cas, X.clock, X.frames, X.room, X.hears, X.method, X.code, (X.here.setHeapUsed s₂.heap s₂.slotsUsed).setVm hW'.alike, X.tail, State.WarmedH.trans X.warmed hW', X.limits, X.bytes, X.same.trans (hsame.setVm s.vm)⟩,
      ⟨g, mk, s₂, L, rfl, rfl, hqc, rfl, hL, rfl, rfl⟩, ?_⟩
    show Steps p.tables e below _ ((({ U with heap := s₂.heap, slotsUsed := s₂.slotsUsed } : State).setVm s₂.vm).setTop { g with pc := g.pc + len₂, stack := v.toList ++ g.stack })
    rw [← hs₂]
    exact hsteps
  · obtain ⟨e2, q2, q3, q4, q5, q6⟩ := id hsm
    have e3 : s₂ = ({ (U.calling g mk a).setFrames s₂.frames with heap := s₂.heap, slotsUsed := s₂.slotsUsed } : State).setVm s₂.vm := by
      have : s₂ = ({ s₂ with vm := (U.calling g mk a).vm } : State).setVm s₂.vm := rfl
      rw [e2] at this
      exact this
    have hf₂ : s₂.frames = .throwing q :: .java g :: U.frames.tail := hend
    have hW' : U.WarmedH s₂.vm := hW₂
    have hs₂ : s₂ = ((({ U with heap := s₂.heap, slotsUsed := s₂.slotsUsed } : State).setVm s₂.vm).setTop g).pushFrame (.throwing q) := by
      refine e3.trans ?_
      rw [hf₂, State.calling_eq h.top, State.setFrames_setFrames, State.pushFrame, State.frames_setTop _ hr', State.setTop_of_frames _ hr', State.setFrames_setFrames, hr]
      rfl
    have hsame : U.sameButNew ({ U with heap := s₂.heap, slotsUsed := s₂.slotsUsed } : State) L mc ms := by
      refine ⟨?_, q2, q3, q4, q5, q6⟩
      obtain ⟨t, ht, -⟩ := State.frames_cons hr
      show ({ U with heap := s₂.heap, slotsUsed := s₂.slotsUsed } : State) = { U.setFrames U.frames with heap := s₂.heap, slotsUsed := s₂.slotsUsed }
      rw [State.setFrames_self ht]
    subst hg
    refine Or.inr ⟨q, ⟨(({ U with heap := s₂.heap, slotsUsed := s₂.slotsUsed } : State).setVm s₂.vm), Ls ++ L, c0 + mc, s0 + ms⟩,
      ⟨X.admits, X.cas, X.clock, X.frames, X.room, X.hears, X.method, X.code, (X.here.setHeapUsed s₂.heap s₂.slotsUsed).setVm hW'.alike, X.tail, State.WarmedH.trans X.warmed hW', X.limits, X.bytes, X.same.trans (hsame.setVm s.vm)⟩,
      ⟨g, mk, s₂, L, E, ce, rfl, rfl, hx, hce, hcv, hcl, rfl, hL, rfl, rfl⟩, ?_⟩
    show Steps p.tables e below _ (((({ U with heap := s₂.heap, slotsUsed := s₂.slotsUsed } : State).setVm s₂.vm).setTop g).pushFrame (.throwing q))
    rw [← hs₂]
    exact hsteps
end
variable {p : Program} {l : Launch} {e : Env} {R : Room} {s : State} {m : MethodId} {args : Array Value} {below : List Frame} {meth : Method} {c : Code} {T : State} {H : Heap} {locs : List Loc} {cells slots : Nat}
theorem vx_callVX (X : Stand p l e R s m args below meth c T locs cells slots) (hexec : p.tables.exec = Jvm.exec) {own C : String} {index : Nat} {y : MethodName} {bytes : ByteArray} {maxL : Nat} {ret : Option FieldType} {hh : List (Nat × Nat × Nat × Nat)}
    (hown : s.vm.findClass own = some m.cls) (hlink : (Cond.methodLink own index y).before args s = true) (hinst : (Cond.instanceMethod y).before args s = true) (hsel : (Cond.selects C y y).before args s = true)
    (hcode : (Cond.codeWith y bytes maxL ret hh).before args s = true) (hy : y.cls ≠ "java/lang/invoke/MethodHandle" ∧ y.cls ≠ "java/lang/invoke/VarHandle")
    {W9 : Nat} {Pre : Pt → Array Value → Prop} {Post : Pt → Array Value → Option Value → Pt → Prop} {PostX : Pt → Array Value → Addr → Pt → Prop} (hK : vx_Back l R p e below s args y 3 W9 Pre Post PostX)
    {b : Addr} {cellB : Cell} (hcell : T.heap[b]? = some cellB) (hobj : cellB.vm.isStatics = false) (hcls : s.vm.findClass C = some cellB.cls)
    {g : JFrame} (hg : g.method = m) (hsize : g.locals.size = c.maxLocals) {argsL rest : List Value} (hlen : ∀ sig, parseMethodDescriptor y.desc = some sig → argsL.length = sig.parameters.length)
    (hstack : g.stack = argsL.reverse ++ .ref b :: rest) (hW : 2 * g.monitorRoom + (rest.map fun v => v.category).sum ≤ W9) (hdg : decode c.code g.pc = .ok (.invokevirtual index, 3))
    (hpre : ∀ vm₁, s.WarmedH vm₁ → Pre ⟨T.setVm vm₁, locs, cells, slots⟩ (Value.ref b :: argsL).toArray) :
    (∃ (v : Option Value) (vm₁ : Vm) (B : Pt), s.WarmedH vm₁ ∧ Stand p l e R s m args below meth c B.U B.locs B.cells B.slots ∧ Post ⟨T.setVm vm₁, locs, cells, slots⟩ (Value.ref b :: argsL).toArray v B ∧
      ∀ target, Steps p.tables e below (B.U.setTop { g with pc := g.pc + 3, stack := v.toList ++ rest }) target → Steps p.tables e below (T.setTop g) target) ∨
    (∃ (q : Addr) (vm₁ : Vm) (B : Pt), s.WarmedH vm₁ ∧ Stand p l e R s m args below meth c B.U B.locs B.cells B.slots ∧ PostX ⟨T.setVm vm₁, locs, cells, slots⟩ (Value.ref b :: argsL).toArray q B ∧
      Steps p.tables e below (T.setTop g) ((B.U.setTop { g with stack := rest }).pushFrame (.throwing q))) := by
  obtain ⟨mk, methM, hnamed, hmethM, hstM, habM⟩ := Cond.instanceMethod_spec hinst
  obtain ⟨m8, methM', cM, hn8, hmethM', -, -, -, -, -, -, hsigM⟩ := Cond.codeWith_spec hcode
  cases Option.some.inj (hn8.symm.trans hnamed)
  cases hmethM.symm.trans hmethM'
  obtain ⟨c2, r2, m2, q1, q2, q3, q4, kP, hkP, hkPi⟩ := Cond.selects_spec hsel
  cases hcls.symm.trans q1
  cases (State.methodFound?_of_named hnamed hy).symm.trans q2
  cases hnamed.symm.trans q3
  have hselP : selectMethod e.platform s.vm cellB.cls mk = .method mk := by rw [Launch.admits_selectMethod X.admits]; exact q4
  obtain ⟨vm₁, X₁, hstep₁⟩ := X.invokevirtual hexec hown hlink hnamed hmethM hstM hkP hkPi hy (a := b) (cell := cellB) hcell
    (fun z h => by rw [h] at hobj; cases hobj) hselP hmethM habM hkP hkPi (g := g) hg (argsL := argsL) (rest := rest) (hlen _ hsigM) hstack hdg
  rcases hK m meth c ⟨T.setVm vm₁, locs, cells, slots⟩ { g with stack := rest } (.invokevirtual index) mk (Value.ref b :: argsL).toArray X₁ hg hsize hdg hW (X₁.named hnamed) (hpre vm₁ X₁.warmed) with ⟨v, B, X', hpost, hsteps⟩ | ⟨q, B, X', hpost, hsteps⟩
  · exact Or.inl ⟨v, vm₁, B, X₁.warmed, X', hpost, fun target h => hstep₁ _ fun acts => by rw [doInvoke_state]; exact hsteps.trans h⟩
  · exact Or.inr ⟨q, vm₁, B, X₁.warmed, X', hpost, hstep₁ _ fun acts => by rw [doInvoke_state]; exact hsteps⟩
theorem vx_callSX (X : Stand p l e R s m args below meth c T locs cells slots) (hexec : p.tables.exec = Jvm.exec) {own : String} {index : Nat} {y : MethodName} {bytes : ByteArray} {maxL : Nat} {ret : Option FieldType} {hh : List (Nat × Nat × Nat × Nat)}
    (hown : s.vm.findClass own = some m.cls) (hlink : (Cond.methodLink own index y).before args s = true) (hstat : (Cond.static y).before args s = true) (hinit : (Cond.initialized y.cls).before args s = true)
    (hcode : (Cond.codeWith y bytes maxL ret hh).before args s = true) (hy : y.cls ≠ "java/lang/invoke/MethodHandle" ∧ y.cls ≠ "java/lang/invoke/VarHandle")
    {W9 : Nat} {Pre : Pt → Array Value → Prop} {Post : Pt → Array Value → Option Value → Pt → Prop} {PostX : Pt → Array Value → Addr → Pt → Prop} (hK : vx_Back l R p e below s args y 3 W9 Pre Post PostX)
    {g : JFrame} (hg : g.method = m) (hsize : g.locals.size = c.maxLocals) {argsL rest : List Value} (hlen : ∀ sig, parseMethodDescriptor y.desc = some sig → argsL.length = sig.parameters.length)
    (hstack : g.stack = argsL.reverse ++ rest) (hW : 2 * g.monitorRoom + (rest.map fun v => v.category).sum ≤ W9) (hdg : decode c.code g.pc = .ok (.invokestatic index, 3))
    (hpre : ∀ vm₁, s.WarmedH vm₁ → Pre ⟨T.setVm vm₁, locs, cells, slots⟩ argsL.toArray) :
    (∃ (v : Option Value) (vm₁ : Vm) (B : Pt), s.WarmedH vm₁ ∧ Stand p l e R s m args below meth c B.U B.locs B.cells B.slots ∧ Post ⟨T.setVm vm₁, locs, cells, slots⟩ argsL.toArray v B ∧
      ∀ target, Steps p.tables e below (B.U.setTop { g with pc := g.pc + 3, stack := v.toList ++ rest }) target → Steps p.tables e below (T.setTop g) target) ∨
    (∃ (q : Addr) (vm₁ : Vm) (B : Pt), s.WarmedH vm₁ ∧ Stand p l e R s m args below meth c B.U B.locs B.cells B.slots ∧ PostX ⟨T.setVm vm₁, locs, cells, slots⟩ argsL.toArray q B ∧
      Steps p.tables e below (T.setTop g) ((B.U.setTop { g with stack := rest }).pushFrame (.throwing q))) := by
  obtain ⟨mk, methM, cM, hnamed, hmethM, -, -, -, -, -, -, hsigM⟩ := Cond.codeWith_spec hcode
  have hstatic : methM.isStatic = true := Cond.static_spec hnamed hmethM hstat
  obtain ⟨kP, hkP, -⟩ := className_of_methodNamed hnamed
  have hinitP : kP.init = .initialized := Cond.initialized_spec (findClass_of_methodNamed hnamed) hkP hinit
  obtain ⟨vm₁, X₁, hstep₁⟩ := X.invokestatic hexec hown hlink hnamed hmethM hstatic hkP hinitP hy (g := g) hg (argsL := argsL) (rest := rest) (hlen _ hsigM) hstack hdg
  rcases hK m meth c ⟨T.setVm vm₁, locs, cells, slots⟩ { g with stack := rest } (.invokestatic index) mk argsL.toArray X₁ hg hsize hdg hW (X₁.named hnamed) (hpre vm₁ X₁.warmed) with ⟨v, B, X', hpost, hsteps⟩ | ⟨q, B, X', hpost, hsteps⟩
  · exact Or.inl ⟨v, vm₁, B, X₁.warmed, X', hpost, fun target h => hstep₁ _ fun acts => by rw [doInvoke_state]; exact hsteps.trans h⟩
  · exact Or.inr ⟨q, vm₁, B, X₁.warmed, X', hpost, hstep₁ _ fun acts => by rw [doInvoke_state]; exact hsteps⟩
theorem vx_callVW (X : Stand p l e R s m args below meth c T locs cells slots) (hexec : p.tables.exec = Jvm.exec) {own C : String} {index : Nat} {y : MethodName} {bytes : ByteArray} {maxL : Nat} {ret : Option FieldType} {hh : List (Nat × Nat × Nat × Nat)}
    (hown : s.vm.findClass own = some m.cls) (hlink : (Cond.methodLink own index y).before args s = true) (hinst : (Cond.instanceMethod y).before args s = true) (hsel : (Cond.selects C y y).before args s = true)
    (hcode : (Cond.codeWith y bytes maxL ret hh).before args s = true) (hy : y.cls ≠ "java/lang/invoke/MethodHandle" ∧ y.cls ≠ "java/lang/invoke/VarHandle")
    {W9 : Nat} {Pre : Pt → Array Value → Prop} {Post : Pt → Array Value → Option Value → Pt → Prop} (hK : Back l R p e below s args y 3 W9 Pre Post)
    {b : Addr} {cellB : Cell} (hcell : T.heap[b]? = some cellB) (hobj : cellB.vm.isStatics = false) (hcls : s.vm.findClass C = some cellB.cls)
    {g : JFrame} (hg : g.method = m) (hsize : g.locals.size = c.maxLocals) {argsL rest : List Value} (hlen : ∀ sig, parseMethodDescriptor y.desc = some sig → argsL.length = sig.parameters.length)
    (hstack : g.stack = argsL.reverse ++ .ref b :: rest) (hW : 2 * g.monitorRoom + (rest.map fun v => v.category).sum ≤ W9) (hdg : decode c.code g.pc = .ok (.invokevirtual index, 3))
    (hpre : ∀ vm₁, s.WarmedH vm₁ → Pre ⟨T.setVm vm₁, locs, cells, slots⟩ (Value.ref b :: argsL).toArray) :
    ∃ (v : Option Value) (vm₁ : Vm) (B : Pt), s.WarmedH vm₁ ∧ Stand p l e R s m args below meth c B.U B.locs B.cells B.slots ∧ Post ⟨T.setVm vm₁, locs, cells, slots⟩ (Value.ref b :: argsL).toArray v B ∧
      ∀ target, Steps p.tables e below (B.U.setTop { g with pc := g.pc + 3, stack := v.toList ++ rest }) target → Steps p.tables e below (T.setTop g) target := by
  obtain ⟨mk, methM, hnamed, hmethM, hstM, habM⟩ := Cond.instanceMethod_spec hinst
  obtain ⟨m8, methM', cM, hn8, hmethM', -, -, -, -, -, -, hsigM⟩ := Cond.codeWith_spec hcode
  cases Option.some.inj (hn8.symm.trans hnamed)
  cases hmethM.symm.trans hmethM'
  obtain ⟨c2, r2, m2, q1, q2, q3, q4, kP, hkP, hkPi⟩ := Cond.selects_spec hsel
  cases hcls.symm.trans q1
  cases (State.methodFound?_of_named hnamed hy).symm.trans q2
  cases hnamed.symm.trans q3
  have hselP : selectMethod e.platform s.vm cellB.cls mk = .method mk := by rw [Launch.admits_selectMethod X.admits]; exact q4
  obtain ⟨vm₁, X₁, hstep₁⟩ := X.invokevirtual hexec hown hlink hnamed hmethM hstM hkP hkPi hy (a := b) (cell := cellB) hcell
    (fun z h => by rw [h] at hobj; cases hobj) hselP hmethM habM hkP hkPi (g := g) hg (argsL := argsL) (rest := rest) (hlen _ hsigM) hstack hdg
  obtain ⟨v, B, X', hpost, hsteps⟩ := hK m meth c ⟨T.setVm vm₁, locs, cells, slots⟩ { g with stack := rest } (.invokevirtual index) mk (Value.ref b :: argsL).toArray X₁ hg hsize hdg hW (X₁.named hnamed) (hpre vm₁ X₁.warmed)
  exact ⟨v, vm₁, B, X₁.warmed, X', hpost, fun target h => hstep₁ _ fun acts => by rw [doInvoke_state]; exact hsteps.trans h⟩
abbrev vx_CVW (R : Room) (s : State) (args : Array Value) (own C : String) (index : Nat) (y : MethodName) (bytes : ByteArray) (maxL : Nat) (ret : Option FieldType) (hh : List (Nat × Nat × Nat × Nat)) (ws : List Cond) (rm : Room) (mc ms n : Nat) : Prop :=
  (rm.cells = mc ∧ rm.slots = ms ∧ rm.frames + 1 ≤ R.frames ∧ 8 + (maxL + 11) + rm.locals ≤ R.locals ∧ (∀ w ∈ ws, ∀ (a' : Array Value) (U : State), s.WarmedH U.vm → w.before a' U = true) ∧ Cond.codeWith y bytes maxL ret hh ∈ ws) ∧
  (Cond.codeWith y bytes maxL ret hh).before args s = true ∧ (Cond.initialized y.cls).before args s = true ∧ (y.cls ≠ "java/lang/invoke/MethodHandle" ∧ y.cls ≠ "java/lang/invoke/VarHandle") ∧
  (∀ sig, parseMethodDescriptor y.desc = some sig → n = sig.parameters.length) ∧ (Cond.methodLink own index y).before args s = true ∧ (Cond.instanceMethod y).before args s = true ∧ (Cond.selects C y y).before args s = true
theorem vx_cwVW {own C : String} {index maxL mc ms : Nat} {y : MethodName} {bytes : ByteArray} {ret : Option FieldType} {hh : List (Nat × Nat × Nat × Nat)} {Ts ws ws' : List Cond} {rm : Room} (n : Nat) (ht : ∀ w ∈ Ts, w.before args s = true) (hT : GoodIn Ts (wsV own index C y ws)) (hw : ws = Cond.codeWith y bytes maxL ret hh :: ws') (hrc : rm.cells = mc) (hrs : rm.slots = ms)
    (hd : y.cls = C ∧ y.cls ≠ "java/lang/invoke/MethodHandle" ∧ y.cls ≠ "java/lang/invoke/VarHandle" ∧ (parseMethodDescriptor y.desc).map (fun d => d.parameters.length) = some n) (hR : rm.frames + 1 ≤ R.frames ∧ 8 + (maxL + 11) + rm.locals ≤ R.locals) :
    vx_CVW R s args own C index y bytes maxL ret hh ws rm mc ms n := by
  obtain ⟨hC, hd⟩ := hd
  subst hC
  have ok : ∀ w ∈ wsV own index y.cls y ws, w.before args s = true := fun w h => ht w (hT w h).1
  have hG : GoodIn Ts ws := fun w h => hT w (by unfold wsV; exact List.mem_append_right _ h)
  have hc : Cond.codeWith y bytes maxL ret hh ∈ ws := by rw [hw]; exact List.mem_cons_self
  refine ⟨⟨hrc, hrs, hR.1, hR.2, pay_in ht hG, hc⟩, ht _ (hG _ hc).1, ok _ (by simp [wsV]), ⟨hd.1, hd.2.1⟩, fun sig h => ?_, ok _ (by simp [wsV]), ok _ (by simp [wsV]), ok _ (by simp [wsV])⟩
  have h2 := hd.2.2
  rw [h] at h2
  exact (Option.some.inj h2).symm
theorem vx_runVW {y : MethodName} {bytes cc : ByteArray} {maxL nL mc ms n index : Nat} {ret : Option FieldType} {hh : List (Nat × Nat × Nat × Nat)} {ws : List Cond} {rm : Room} {Pc : Array Value → State → Prop} {Qc : Array Value → State → Outcome → State → Prop} {free : Addr → Prop} {Ts : List Cond} {own C : String} {b : Addr} {As rest : List Value} {g : JFrame}
    (S : CallFix p m c cc nL s args Ts own) (hM : Met l y ws rm Pc Qc mc ms free) (cw : vx_CVW R s args own C index y bytes maxL ret hh ws rm mc ms n) (hp : PreV s H C b Pc As)
    (hg : g.method = m) (hn : As.length = n) (hsize : g.locals.size = nL) (hstack : g.stack = As.reverse ++ .ref b :: rest) (hW : 2 * g.monitorRoom + (rest.map fun v => v.category).sum ≤ 8) (hdg : decode cc g.pc = .ok (.invokevirtual index, 3)) (hf : cells + mc ≤ R.cells ∧ slots + ms ≤ R.slots) :
    va_Run p l e R s m args below meth c H locs cells slots mc ms g rest (Qc (Value.ref b :: As).toArray) free := by
  obtain ⟨⟨hrc, hrs, hfr, hlo, hws, hcw⟩, hcode, hini, hy, hlen, hl, hin, hse⟩ := cw
  have hK : Back l R p e below s args y 3 8 (PreOf R mc ms Pc) (PostOf Qc mc ms free) := va_backW (hh := hh) (bytes := bytes) (maxL := maxL) (ret := ret) hM hp.1 hrc hrs hfr hlo hws hcw (fun a' U hW => word_at hW (Or.inl (by first | rfl | simp [Cond.onTables, Cond.keeps, Cond.steady])) hini)
  obtain ⟨hx, hb, hml, ho, -⟩ := S
  obtain ⟨-, ⟨cellB, hcB, hoB, hclB⟩, hPc⟩ := hp
  intro T hT X
  obtain ⟨v, vm₁, ⟨U', l2, c2, s2⟩, hW₁, X', ⟨g', mk, t, L, e1, e2, hq, h1, hL, h2, h3⟩, st⟩ := vx_callVW X hx (C := C) (hh := hh) (bytes := bytes) (maxL := maxL) (ret := ret) ho hl hin hse hcode hy hK (by rw [hT]; exact hcB) hoB hclB hg (hsize.trans hml.symm) (argsL := As) (rest := rest) (fun sig h => hn.trans (hlen sig h)) hstack hW (by rw [hb]; exact hdg)
    (fun vm₁ hW₁ => ⟨hf.1, hf.2, hPc (T.setVm vm₁) hT hW₁⟩)
  dsimp only [Pt.U, Pt.locs, Pt.cells, Pt.slots] at X' e1 e2 h1 h2 h3 st
  subst h1; subst h2; subst h3
  exact ⟨v, (T.setVm vm₁).calling g' mk (Value.ref b :: As).toArray, t, U', L, hT, X', hL, e1, e2, hq, st⟩
section
variable {y : MethodName} {bytes cc : ByteArray} {maxL nL mc ms n index : Nat} {ret : Option FieldType} {ws : List Cond} {rm : Room} {Pc : Array Value → State → Prop} {Qc : Array Value → State → Outcome → State → Prop} {XC : String → State → State → Prop} {free : Addr → Prop} {Ts : List Cond} {own C : String} {b : Addr} {As rest : List Value} {g : JFrame}
theorem vx_runVX {hh : List (Nat × Nat × Nat × Nat)} (S : CallFix p m c cc nL s args Ts own) (hM : vx_Met l y ws rm Pc Qc XC mc ms free) (cw : vx_CVW R s args own C index y bytes maxL ret hh ws rm mc ms n) (hp : PreV s H C b Pc As)
    (hg : g.method = m) (hn : As.length = n) (hsize : g.locals.size = nL) (hstack : g.stack = As.reverse ++ .ref b :: rest) (hW : 2 * g.monitorRoom + (rest.map fun v => v.category).sum ≤ 8) (hdg : decode cc g.pc = .ok (.invokevirtual index, 3)) (hf : cells + mc ≤ R.cells ∧ slots + ms ≤ R.slots) :
    vx_Run p l e R s m args below meth c H locs cells slots mc ms g rest (Qc (Value.ref b :: As).toArray) XC free := by
  obtain ⟨⟨hrc, hrs, hfr, hlo, hws, hcw⟩, hcode, hini, hy, hlen, hl, hin, hse⟩ := cw
  have hK : vx_Back l R p e below s args y 3 8 (PreOf R mc ms Pc) (PostOf Qc mc ms free) (vx_Post XC mc ms free) := vx_backW (hh := hh) (bytes := bytes) (maxL := maxL) (ret := ret) hM hp.1 hrc hrs hfr hlo hws hcw (fun a' U hW => word_at hW (Or.inl (by first | rfl | simp [Cond.onTables, Cond.keeps, Cond.steady])) hini)
  obtain ⟨hx, hb, hml, ho, -⟩ := S
  obtain ⟨-, ⟨cellB, hcB, hoB, hclB⟩, hPc⟩ := hp
  intro T hT X
  rcases vx_callVX X hx (C := C) (hh := hh) (bytes := bytes) (maxL := maxL) (ret := ret) ho hl hin hse hcode hy hK (by rw [hT]; exact hcB) hoB hclB hg (hsize.trans hml.symm) (argsL := As) (rest := rest) (fun sig h => hn.trans (hlen sig h)) hstack hW (by rw [hb]; exact hdg)
    (fun vm₁ hW₁ => ⟨hf.1, hf.2, hPc (T.setVm vm₁) hT hW₁⟩) with ⟨v, vm₁, ⟨U', l2, c2, s2⟩, hW₁, X', ⟨g', mk, t, L, e1, e2, hq, h1, hL, h2, h3⟩, st⟩ | ⟨q, vm₁, ⟨U', l2, c2, s2⟩, hW₁, X', ⟨g', mk, t, L, E, ce, e1, e2, hq, hce, hcv, hcl, h1, hL, h2, h3⟩, st⟩
  · dsimp only [Pt.U, Pt.locs, Pt.cells, Pt.slots] at X' e1 e2 h1 h2 h3 st
    subst h1; subst h2; subst h3
    exact Or.inl ⟨v, (T.setVm vm₁).calling g' mk (Value.ref b :: As).toArray, t, U', L, hT, X', hL, e1, e2, hq, st⟩
  · dsimp only [Pt.U, Pt.locs, Pt.cells, Pt.slots] at X' e1 e2 h1 h2 h3 st hcl
    subst h1; subst h2; subst h3
    exact Or.inr ⟨q, (T.setVm vm₁).calling g' mk (Value.ref b :: As).toArray, t, U', L, E, ce, hT, X', hL, e1, e2, hq, hce, hcv, vx_cls hW₁ hcl, st⟩
theorem vx_runSX {hh : List (Nat × Nat × Nat × Nat)} (S : CallFix p m c cc nL s args Ts own) (hM : vx_Met l y ws rm Pc Qc XC mc ms free) (cw : vx_CSW R s args own index y bytes maxL ret hh ws rm mc ms n) (hp : PreS s H Pc As)
    (hg : g.method = m) (hn : As.length = n) (hsize : g.locals.size = nL) (hstack : g.stack = As.reverse ++ rest) (hW : 2 * g.monitorRoom + (rest.map fun v => v.category).sum ≤ 8) (hdg : decode cc g.pc = .ok (.invokestatic index, 3)) (hf : cells + mc ≤ R.cells ∧ slots + ms ≤ R.slots) :
    vx_Run p l e R s m args below meth c H locs cells slots mc ms g rest (Qc As.toArray) XC free := by
  obtain ⟨⟨hrc, hrs, hfr, hlo, hws, hcw⟩, hcode, hini, hy, hlen, hl, hstt⟩ := cw
  have hK : vx_Back l R p e below s args y 3 8 (PreOf R mc ms Pc) (PostOf Qc mc ms free) (vx_Post XC mc ms free) := vx_backW (hh := hh) (bytes := bytes) (maxL := maxL) (ret := ret) hM hp.1 hrc hrs hfr hlo hws hcw (fun a' U hW => word_at hW (Or.inl (by first | rfl | simp [Cond.onTables, Cond.keeps, Cond.steady])) hini)
  obtain ⟨hx, hb, hml, ho, -⟩ := S
  intro T hT X
  rcases vx_callSX X hx (hh := hh) (bytes := bytes) (maxL := maxL) (ret := ret) ho hl hstt hini hcode hy hK hg (hsize.trans hml.symm) (argsL := As) (rest := rest) (fun sig h => hn.trans (hlen sig h)) hstack hW (by rw [hb]; exact hdg)
    (fun vm₁ hW₁ => ⟨hf.1, hf.2, hp.2 (T.setVm vm₁) hT hW₁⟩) with ⟨v, vm₁, ⟨U', l2, c2, s2⟩, hW₁, X', ⟨g', mk, t, L, e1, e2, hq, h1, hL, h2, h3⟩, st⟩ | ⟨q, vm₁, ⟨U', l2, c2, s2⟩, hW₁, X', ⟨g', mk, t, L, E, ce, e1, e2, hq, hce, hcv, hcl, h1, hL, h2, h3⟩, st⟩
  · dsimp only [Pt.U, Pt.locs, Pt.cells, Pt.slots] at X' e1 e2 h1 h2 h3 st
    subst h1; subst h2; subst h3
    exact Or.inl ⟨v, (T.setVm vm₁).calling g' mk As.toArray, t, U', L, hT, X', hL, e1, e2, hq, st⟩
  · dsimp only [Pt.U, Pt.locs, Pt.cells, Pt.slots] at X' e1 e2 h1 h2 h3 st hcl
    subst h1; subst h2; subst h3
    exact Or.inr ⟨q, (T.setVm vm₁).calling g' mk As.toArray, t, U', L, E, ce, hT, X', hL, e1, e2, hq, hce, hcv, vx_cls hW₁ hcl, st⟩
end
end VXH
theorem vx_ofWH {l : Launch} {y : MethodName} {ws ws' : List Cond} {rm : Room} {Pc : Array Value → State → Prop} {Qc : Array Value → State → Outcome → State → Prop} {XC : String → State → State → Prop} {mc ms : Nat} {free : Addr → Prop} {cc : ByteArray} {maxL : Nat} {ret : Option FieldType} {hh : List (Nat × Nat × Nat × Nat)}
    (hy : plainName y.cls = true) (hw : ws = Cond.codeWith y cc maxL ret hh :: ws')
    (body : ∀ p e s m args below meth c s₁, BodyLoose p l y (headSpec ws rm) cc maxL ret e s m args below meth c s₁ → c.maxLocals = maxL → Pc args s →
      W p l e (headSpec ws rm).room s m args below meth c s.heap [] 0 0 (vx_MQ below Qc XC args s mc ms free) (entryFrame m args maxL)) : vx_Met l y ws rm Pc Qc XC mc ms free := by
  refine MetFree.of_bodyS (code := cc) (maxLocals := maxL) (ret := ret) hy ?_ ?_
  · intro args s m h hn
    obtain ⟨m9, meth, c, hn9, h1, h2, h3, h4, -, h5, h6, -⟩ := Cond.codeWith_spec (atoms_spec (ws := ws) h _ (by rw [hw]; exact List.mem_cons_self))
    cases hn.symm.trans hn9
    exact ⟨meth, c, h1, h2, h3, h4, h5, h6⟩
  · intro p e s m args below meth c s₁ B hml hP _
    have hh0 : s₁.heap = s.heap := by rw [B.state]; rfl
    obtain ⟨t, a1, o, b1, b2, b3⟩ := body p e s m args below meth c s₁ B hml hP s₁ hh0 (Stand.of_body B)
    exact ⟨t, o, a1, b1, b2, b3⟩
/-! ===== END ===== -/
end
section
/-! ===== an exception whose (String) constructor calls its superclass's by another index than 7 (the chain's rows: the library's Shelf42/F29a; the proofs follow BundleOwnThrow's ctorThrowS and the names' vx_throwS) ===== -/
section ZNS
variable {p : Program} {l : Launch} {e : Env} {R : Room} {s : State} {m₀ : MethodId} {args : Array Value} {below : List Frame} {meth : Method} {c : Code} {W : State} {locs : List Loc} {cells slots : Nat}
set_option maxHeartbeats 1000000 in
theorem zctorX (X : Stand p l e R s m₀ args below meth c W locs cells slots) (hexec : p.tables.exec = Jvm.exec) (htr : e.platform.stackTraces = false) {own cls : String} {names : List String} {ic ix : Nat} {rx : ByteArray} (x0 : decode rx 0 = .ok (.aload_n 0, 1)) (x1 : decode rx 1 = .ok (.aload_n 1, 1)) (x2 : decode rx 2 = .ok (.invokespecial ix, 3)) (x5 : decode rx 5 = .ok (.return_, 1))
    (hown : s.vm.findClass own = some m₀.cls) (hcls : Bundle.fit cls = true) (hnames : ∀ n ∈ names, Bundle.fit n = true)
    (h : ∀ a ∈ Bundle.ownAtomsX own ic cls ix rx names, a.before args s = true)
    (hlocs : ∀ x ∈ locs, ∀ cell, s.heap[x.base]? = some cell → cell.vm.isStatics = false)
    {a : Addr} {cX : ClassId} {kX : Class} (hfoundX : s.vm.findClass cls = some cX) (hkX : s.vm.classes[cX]? = some kX) (hcell : W.heap[a]? = some (freshCell cX kX)) (hnew : s.heap.size ≤ a)
    {msg : Value} (hmsg : msg.isRef = true)
    {g : JFrame} (hg : g.method = m₀) (hsize : g.locals.size = c.maxLocals) (hlocked : g.locked = none) (hentered : g.entered = []) {rest : List Value} (hstack : g.stack = msg :: .ref a :: .ref a :: rest)
    (hd6 : decode c.code g.pc = .ok (.invokespecial ic, 3)) (hd9 : decode c.code (g.pc + 3) = .ok (.athrow, 1)) (hout : ∀ x ∈ c.exceptionTable.toList, covers x (g.pc + 3) = false)
    (hRframes : names.length + 3 < R.frames) (hRlocals : 2 * g.monitorRoom + ((Value.ref a :: rest).map fun v => v.category).sum + (13 * (names.length + 1) + 42) ≤ R.locals) (hlocks : meth.locks = false := by first | assumption | exact BodyLoose.notSynchronized (by assumption) | exact Body.notSynchronized (by assumption)) :
    ∃ U : State, Steps p.tables e below (W.setTop g) U ∧ U.status = .running ∧ Ended U below (.threw a) ∧ s.WarmedH U.vm ∧ s.sameButNew ({ U with vm := s.vm } : State) locs cells slots ∧
      ∃ ce, U.heap[a]? = some ce ∧ ce.cls = cX ∧ ce.vm = .none := by
  have howns : e.platform.frameOwnsMonitors = true := by rw [X.admits.platform]
  have hfin : e.platform.finalization = false := by rw [X.admits.platform]
  have hpl : e.platform.magicAccessors = ({} : Platform).magicAccessors := by rw [X.admits.platform]
  have a' : ∀ x, x ∈ Bundle.ownAtomsX own ic cls ix rx names → x.holds args s none s [] = true := fun x hx => h x hx
  obtain ⟨T, Z0, L, -, Y⟩ := ThrowableC.of_atoms (args := args) howns hfin hpl (fun x hx => h x (by simp [Bundle.ownAtomsX, hx]))
  obtain ⟨Z, M, LZ, LM, hnZ⟩ := Init0T.ofS_atoms (args := args) hpl L Y (fun x hx => h x (by simp [Bundle.ownAtomsX, hx]))
  obtain ⟨P1, Ps, hlen, L1, hL, hP1m, hlink1, hlink⟩ := Bundle.chainSX (args := args) hpl hnZ x0 x1 x2 x5 names cls hcls hnames (fun x hx => h x (by simp [Bundle.ownAtomsX, hx]))
  have hfound : s.vm.findClass cls = some P1.m.cls := findClass_of_methodNamed hP1m
  cases Option.some.inj (hfoundX.symm.trans hfound)
  obtain ⟨c1, kX', hc1, hk, hord, -, -, hn6⟩ := Cond.instantiable_spec (a' (.instantiable cls 6) (by simp [Bundle.ownAtomsX]))
  cases Option.some.inj (hc1.symm.trans hfound)
  cases Option.some.inj (hkX.symm.trans hk)
  have hsel0 : selectMethod e.platform s.vm P1.m.cls T.fill0 = .method T.fill0 := by
    obtain ⟨c2, r2, m2, q1, q2, q3, q4, -⟩ := Cond.selects_spec (a' (.selects cls Bundle.tFill0 Bundle.tFill0) (by simp [Bundle.ownAtomsX]))
    cases Option.some.inj (q1.symm.trans hfound)
    cases Option.some.inj (q2.symm.trans (State.methodFound?_of_named Y.fill0 (by decide)))
    cases Option.some.inj (q3.symm.trans Y.fill0)
    rw [Launch.admits_selectMethod X.admits]; exact q4
  have hselF : selectMethod e.platform s.vm P1.m.cls T.fill = .method T.fill := by
    obtain ⟨c2, r2, m2, q1, q2, q3, q4, -⟩ := Cond.selects_spec (a' (.selects cls Bundle.tFill Bundle.tFill) (by simp [Bundle.ownAtomsX]))
    cases Option.some.inj (q1.symm.trans hfound)
    cases Option.some.inj (q2.symm.trans (State.methodFound?_of_named Y.fill (by decide)))
    cases Option.some.inj (q3.symm.trans Y.fill)
    rw [Launch.admits_selectMethod X.admits]; exact q4
  obtain ⟨cellS0, hcS0, hiss⟩ := Y.statics
  obtain ⟨u0, hu0⟩ := Cond.staticRefV Y.unassigned L.unassignedStatic L.statics hcS0 hiss (a' (.isRef (.static Bundle.tN "UNASSIGNED_STACK" Bundle.steD)) (by simp [Bundle.ownAtomsX]))
  obtain ⟨sen, hsen⟩ := Cond.staticRefV Y.sentinel L.sentinelStatic L.statics hcS0 hiss (a' (.isRef (.static Bundle.tN "SUPPRESSED_SENTINEL" Bundle.listD)) (by simp [Bundle.ownAtomsX]))
  obtain ⟨ci198, i198, fB, hk198, hg198, ha198, hsB, -, hnB, htB, hffB⟩ := Cond.ownField (t := .object "java/lang/Object") Y.found L.cls (by decide +kernel) (a' (.fieldLink Bundle.tN 198 Bundle.tN "backtrace" "Ljava/lang/Object;") (by simp [Bundle.ownAtomsX])) (a' (.lays Bundle.tN Bundle.tN "backtrace" "Ljava/lang/Object;") (by simp [Bundle.ownAtomsX])) e.platform hpl
  obtain ⟨cellS, hcS', heS, -, hkeep⟩ := X.same.2.2.2.2.2 T.aS cellS0 hcS0
  have hcellS : W.heap[T.aS]? = some cellS := hcS'
  have hout' : ∀ i, (⟨T.aS, i⟩ : Loc) ∉ locs := fun i hmem => by
    have := hlocs _ hmem cellS0 hcS0
    rw [hiss] at this; cases this
  have hknownS : cellS.vm ≠ .unknown := by
    rw [heS]; intro hu
    rw [show cellS0.vm = .unknown from hu] at hiss
    cases hiss
  have hneS : T.aS ≠ a := Nat.ne_of_lt (Nat.lt_of_lt_of_le (Array.getElem?_eq_some_iff.mp hcS0).1 hnew)
  obtain ⟨iM, hffM⟩ := Y.msg
  obtain ⟨tyC, dC, hdC, hdnC⟩ := Cond.laysAt hfound hk Y.cause (a' (.lays cls Bundle.tN "cause" "Ljava/lang/Throwable;") (by simp [Bundle.ownAtomsX]))
  obtain ⟨tyS, dS, hdS, hdnS⟩ := Cond.laysAt hfound hk Y.stack (a' (.lays cls Bundle.tN "stackTrace" Bundle.steD) (by simp [Bundle.ownAtomsX]))
  obtain ⟨tyP, dP, hdP, hdnP⟩ := Cond.laysAt hfound hk Y.supp (a' (.lays cls Bundle.tN "suppressedExceptions" Bundle.listD) (by simp [Bundle.ownAtomsX]))
  obtain ⟨tyM, dM, hdM, hdnM⟩ := Cond.laysAt hfound hk hffM (a' (.lays cls Bundle.tN "detailMessage" "Ljava/lang/String;") (by simp [Bundle.ownAtomsX]))
  obtain ⟨tyB, dB, hdB, hdnB⟩ := Cond.laysAt hfound hk hffB (a' (.lays cls Bundle.tN "backtrace" "Ljava/lang/Object;") (by simp [Bundle.ownAtomsX]))
  have bC := Cond.laysApart hdB hdC hdnB hdnC (by rw [hnB, Y.causeName]; decide)
  have bS := Cond.laysApart hdB hdS hdnB hdnS (by rw [hnB, Y.stackName]; decide)
  have bP := Cond.laysApart hdB hdP hdnB hdnP (by rw [hnB, Y.suppName]; decide)
  have hskip : SkipFacts T e.platform s (fun u => u) u0 ((preparedCellV T.toThrowableT (freshCell P1.m.cls kX) a u0 sen).withEntry W.cur) :=
    ⟨{ ci198 := ci198, i198 := i198, fBack := fB }, ⟨hk198, hg198, ha198, hsB⟩, by
      have := fresh_default (c := P1.m.cls) tyB
      rw [htB] at this
      simpa [preparedCellV, Cell.setSlot, Cell.withEntry, Array.getElem?_setIfInBounds, bC, bS, bP, bC.symm, bS.symm, bP.symm, defaultValue] using this, fun _ _ => rfl⟩
  obtain ⟨tm, methC, cdC, kC, vm₁, hnC, -, -, -, -, -, -, -, hW₁, st1⟩ := Steps.initColdS (tb := p.tables) (e := e) (below := below) (s := s) (U := W) X.here hexec X.warmed hpl hown (t := Bundle.initS cls) rfl rfl (Bundle.fit_spec hcls).2
    (a' (.methodLink own ic (Bundle.initS cls)) (by simp [Bundle.ownAtomsX])) (h (.instanceMethod (Bundle.initS cls)) (by cases names <;> simp [Bundle.ownAtomsX, Bundle.chainSAtomsX, Bundle.passSAtoms])) (bytes := rx) (maxL := 2) (h (.code (Bundle.initS cls) rx 2 none) (by cases names <;> simp [Bundle.ownAtomsX, Bundle.chainSAtomsX, Bundle.passSAtoms]))
    (f := g) hg (a := a) (msg := msg) (rest := .ref a :: rest) hstack hd6
  cases Option.some.inj (hnC.symm.trans hP1m)
  have X₁ := X.noted hW₁
  obtain ⟨vm₂, X₂, st2⟩ := X₁.ctorMessageOffV hexec (g := { g with stack := .ref a :: rest }) hg hsize T L Z LZ M LM (P1 :: Ps)
    (fun P hP => by rcases List.mem_cons.mp hP with rfl | hP; exact L1; exact hL P hP) ⟨hlink1, hlink⟩ (u0 := u0) (sen := sen) (self := a) hmsg (cell := freshCell P1.m.cls kX) (cellS := cellS)
    hcell (fun _ => by simp) (by simp) rfl rfl hsel0 hselF hcellS hneS hknownS (by rw [hkeep _ (hout' _)]; exact hu0) (by rw [hkeep _ (hout' _)]; exact hsen)
    (Takes.of_laid hk hord tyC (by rw [Y.causeType]; rfl)) (Takes.of_laid hk hord tyS (by rw [Y.stackType]; exact fits_refV_array _ u0)) (Takes.of_laid hk hord tyP (by rw [Y.suppType]; exact fits_refV_object _ sen))
    (Takes.of_laid hk hord tyM (by rw [Y.msgType]; exact fits_refV_object _ ⟨msg, hmsg⟩)) Y.objLocals hskip htr [] hd6
    (by simp only [List.length_cons, hlen]; omega) (by simp only [List.length_cons, hlen]; exact hRlocals)
  obtain ⟨hwalk, hrun, hended, hWU, hsame⟩ := X₂.athrowLeaves hexec (g := { g with stack := .ref a :: rest, pc := g.pc + 3 }) hg hlocked hentered hout (a := a) (rest := rest) rfl hd9
  have hlt : a < ((W.setVm vm₁).setVm vm₂).heap.size := (Array.getElem?_eq_some_iff.mp hcell).1
  have hU := heapAt_setCell_self (s := (W.setVm vm₁).setVm vm₂) (plainBareV T.toThrowableT (freshCell P1.m.cls kX) a u0 sen msg) hlt
  refine ⟨_, st1 _ (fun acts => ?_), hrun, hended, hWU, hsame.weaken (fun y hy hlt' => ?_) (Nat.le_refl _) (Nat.le_refl _), _, hU, ?_⟩
  · rw [doInvoke_state]
    exact st2 _ hwalk
  · rcases List.mem_append.mp hy with h1 | h1
    · exact h1
    · exfalso
      have hb : y.base = a := by
        simp only [List.mem_cons, List.not_mem_nil, or_false] at h1
        rcases h1 with rfl | rfl | rfl | rfl | rfl <;> rfl
      rw [hb] at hlt'
      exact Nat.not_lt.mpr hnew hlt'
  · exact ⟨rfl, rfl⟩
end ZNS
section ZNT
variable {p : Program} {l : Launch} {e : Env} {R : Room} {s : State} {m : MethodId} {args : Array Value} {below : List Frame} {meth : Method} {c : Code} {H : Heap} {locs : List Loc} {cells slots : Nat} {Q : State → Prop}
variable {mc ms : Nat} {free : Addr → Prop} {a : Array Value} {ls : Array Slot} {st0 rest : List Value}
variable {Qc : Array Value → State → Outcome → State → Prop} {XC : String → State → State → Prop}
def vx_atX (own : String) (ic : Nat) (X : String) (ix : Nat) (rx : ByteArray) (names : List String) : List Cond := (Bundle.ownAtomsX own ic X ix rx names).filter vx_no
theorem zthrowX {cc : ByteArray} {pc : Nat} (hexec : p.tables.exec = Jvm.exec) (hb : c.code = cc) (hl : l.stackTraces = false) {own cls text : String} {names : List String} {ik is ic ix mc ms sa : Nat} {rx : ByteArray} {A : Nat → Prop}
    (x0 : decode rx 0 = .ok (.aload_n 0, 1)) (x1 : decode rx 1 = .ok (.aload_n 1, 1)) (x2 : decode rx 2 = .ok (.invokespecial ix, 3)) (x5 : decode rx 5 = .ok (.return_, 1))
    (hown : s.vm.findClass own = some m.cls) (hcls : Bundle.fit cls = true) (hnames : ∀ n ∈ names, Bundle.fit n = true)
    (hk : (Cond.classLink own ik cls).before args s = true) (hini : (Cond.initialized cls).before args s = true) (hstr : vk_R own is text sa s) (hat : ∀ w ∈ vx_atX own ic cls ix rx names, w.before args s = true)
    (hgood : ∀ w ∈ Cond.classLink own ik cls :: Cond.initialized cls :: vx_atX own ic cls ix rx names, vx_ot w = true)
    (hU : vx_Zq Bundle.tN "UNASSIGNED_STACK" Bundle.steD A s s.heap) (hN : vx_Zq Bundle.tN "SUPPRESSED_SENTINEL" Bundle.listD A s s.heap) (hS : va_S A s.heap H locs) (hsize : ls.size = c.maxLocals)
    (d0 : decode cc pc = .ok (.new ik, 3)) (d3 : decode cc (pc + 3) = .ok (.dup, 1)) (d4 : decode cc (pc + 4) = .ok (.ldc is, 2)) (d6 : decode cc (pc + 6) = .ok (.invokespecial ic, 3)) (d9 : decode cc (pc + 9) = .ok (.athrow, 1))
    (hout : ∀ x ∈ c.exceptionTable.toList, covers x (pc + 9) = false)
    (hRframes : names.length + 3 < R.frames) (hRlocals : (rest.map fun v => v.category).sum + (13 * (names.length + 1) + 43) ≤ R.locals) (hRcells : cells + 1 ≤ R.cells) (hRslots : slots + 6 ≤ R.slots) (hlocks : meth.locks = false)
    (hx : ∀ t : State, s.vm.Alike t.vm → H.size ≤ t.heap.size → (∀ q : Nat, q < H.size → t.heap[q]? = H[q]?) → XC cls s t)
    (hf : ∀ z ∈ locs, free z.base) (hc : cells + 1 ≤ mc) (hs : slots + 6 ≤ ms) :
    W p l e R s m args below meth c H locs cells slots (vx_MQ below Qc XC args s mc ms free) (F0 m pc ls rest) := by
  intro T hT X
  have htr : e.platform.stackTraces = false := (show e.platform.stackTraces = l.stackTraces by rw [X.admits.platform]).trans hl
  have Y := vx_rebase X (R' := { frames := R.frames, locals := R.locals, cells := 1, slots := 6 }) (Nat.le_refl _) (Nat.le_refl _) hRcells hRslots
  obtain ⟨s', hA⟩ : ∃ z, z = (T.setVm s.vm).setFrames (.invoking m args :: below) := ⟨_, rfl⟩
  rw [← hA] at Y
  have hvm : s'.vm = s.vm := by rw [hA]; rfl
  have hhp : s'.heap = H := by rw [hA]; exact hT
  have hW0 : s.WarmedH s'.vm := by rw [hvm]; exact State.WarmedH.refl s
  have hat' : ∀ w ∈ vx_atX own ic cls ix rx names, w.before args s' = true := fun w hw => vx_ot_at hW0 hvm.symm (hgood w (List.mem_cons_of_mem _ (List.mem_cons_of_mem _ hw))) (hat w hw)
  have hk' : (Cond.classLink own ik cls).before args s' = true := vx_ot_at hW0 hvm.symm (hgood _ List.mem_cons_self) hk
  have hini' : (Cond.initialized cls).before args s' = true := vx_ot_at hW0 hvm.symm (hgood _ (List.mem_cons_of_mem _ List.mem_cons_self)) hini
  have hU' : vx_Zq Bundle.tN "UNASSIGNED_STACK" Bundle.steD A s' s'.heap := by rw [hhp]; exact vx_Zq.moved hW0.alike (hU.kept hS.2.1)
  have hN' : vx_Zq Bundle.tN "SUPPRESSED_SENTINEL" Bundle.listD A s' s'.heap := by rw [hhp]; exact vx_Zq.moved hW0.alike (hN.kept hS.2.1)
  have h : ∀ w ∈ Bundle.ownAtomsX own ic cls ix rx names, w.before args s' = true := vx_own hat' (vx_isRefq hU'.1) (vx_isRefq hN'.1) hU'.2.word hN'.2.word
  have hown' : s'.vm.findClass own = some m.cls := by rw [hvm]; exact hown
  have hins : (Cond.instantiable cls 6).before args s' = true := h _ (by simp [Bundle.ownAtomsX])
  obtain ⟨vm₁, cX, kX, hfX, hkX, -, -, X₁, st1⟩ := Y.newCold hexec (own := own) (C := cls) (index := ik) (n := 6) hown' hk' hins hini'
    (g := F0 m pc ls rest) rfl (by rw [hb]; exact d0) (Nat.le_refl _) (Nat.le_refl _)
  generalize hT1 : (T.setVm vm₁).pushCell { cls := cX, slots := kX.instanceTypes.map defaultValue, vm := .none } = T1 at X₁ st1
  have hcat : (Value.ref T.heap.size).category = 1 := rfl
  have hcellA : T1.heap[T.heap.size]? = some (freshCell cX kX) := by rw [← hT1]; exact State.heap_pushCell_size _ _
  have d3' : decode c.code (pc + 3) = .ok (.dup, 1) := by rw [hb]; exact d3
  have d4' : decode c.code (pc + 4) = .ok (.ldc is, 2) := by rw [hb]; exact d4
  have hstr' : vk_R own is text sa s' := vk_R.warm hW0 hstr
  obtain ⟨U, hsteps, hrun, hend, hW, hsame, ce, hce, hoc, hov⟩ := zctorX X₁ hexec htr (own := own) (cls := cls) (names := names) (ic := ic) x0 x1 x2 x5 hown' hcls hnames h (fun x hx => nomatch hx) hfX hkX hcellA (by rw [hhp, hT]; exact Nat.le_refl _) (msg := .ref sa) rfl
    (g := { method := m, pc := pc + 6, locals := ls, stack := .ref sa :: .ref T.heap.size :: .ref T.heap.size :: rest, locked := none }) rfl hsize rfl rfl (rest := rest) rfl
    (by rw [hb]; exact d6) (by rw [hb]; exact d9) hout hRframes (by simp only [List.map_cons, List.sum_cons, hcat]; omega) hlocks
  obtain ⟨f1, f2⟩ := vx_frame hsame
  rw [hhp] at f1 f2
  have hWs : s.WarmedH U.vm := State.WarmedH.trans hW0 hW
  have hcl : s.vm.findClass cls = some ce.cls := by
    rw [hoc, ← hvm]; exact hfX
  have hall : s.sameButNew ({ U with vm := s.vm } : State) locs mc ms := by
    subst hA
    obtain ⟨e1, e2⟩ := hsame
    rw [State.setFrames_setFrames] at e1
    have h2 : (T.setVm s.vm).sameButNew ({ U with vm := s.vm } : State) [] (0 + 1) (0 + 6) := ⟨e1, e2⟩
    have h3 := X.same.trans h2
    rw [List.append_nil] at h3
    exact h3.mono hc hs
  refine ⟨U, ?_, .threw T.heap.size, hrun, hend, Or.inr ⟨T.heap.size, rfl, cls, ce, locs, hx U hWs.alike f1 (fun q hq => f2 q hq (fun z hz => nomatch hz)), hce, hov, hcl, hWs, hall, hf⟩⟩
  refine st1 _ ?_
  show Steps p.tables e below (T1.setTop { method := m, pc := pc + 3, locals := ls, stack := .ref T.heap.size :: rest, locked := none }) _
  jvm_step X₁.here [X₁.here.top, hexec, d3', Value.category]
  exact X₁.ldcString hexec (own := own) (text := text) (index := is) (a := sa) hown' hstr'.1 hstr'.2
    (g := { method := m, pc := pc + 4, locals := ls, stack := .ref T.heap.size :: .ref T.heap.size :: rest, locked := none }) rfl d4' _ hsteps
end ZNT
/-- the (String) constructor of NoSuchElementException, by the listing of the pinned JDK -/
def zrx : ByteArray := ⟨#[0x2a, 0x2b, 0xb7, 0x00, 0x0d, 0xb1]⟩
theorem zrx_0 : decode zrx 0 = .ok (.aload_n 0, 1) := by decide +kernel
theorem zrx_1 : decode zrx 1 = .ok (.aload_n 1, 1) := by decide +kernel
theorem zrx_2 : decode zrx 2 = .ok (.invokespecial 13, 3) := by decide +kernel
theorem zrx_5 : decode zrx 5 = .ok (.return_, 1) := by decide +kernel
/-- the words of its throw -/
def zat99 : List Cond := vx_atX "Corebarn" 99 "java/util/NoSuchElementException" 13 zrx ["java/lang/RuntimeException", "java/lang/Exception"]
theorem zat99_tbl : ∀ w ∈ zat99.filter goodWord, w ∈ lw_tbl := by decide +kernel
end
section
/-! ===== BEGIN printed: names, fields, word lists, decode rows ===== -/
def RX0 : String := "Corebarn"
def TX0 : u_T := fun k => match k with
  | 0 => ("Corebarn", "neighbours", "[I", true)
  | 1 => ("Corebarn", "cores", "[I", true)
  | 2 => ("Corebarn", "trussNeighbours", "[I", true)
  | 3 => ("Corebarn", "nodeCount", "I", false)
  | 4 => ("Corebarn", "edgeCount", "I", false)
  | _ => ("Corebarn", "coreChanges", "I", false)
def tyX0 : Nat → FieldType := fun k => match k with
  | 0 => .array .int
  | 1 => .array .int
  | 2 => .array .int
  | 3 => .int
  | 4 => .int
  | _ => .int
abbrev wsX00 : List Cond := u_ws RX0 TX0 6
theorem nmX0 : ∀ a, a < 6 → ∀ b, b < 6 → a ≠ b → (TX0 a).2.1 ≠ (TX0 b).2.1 := by decide +kernel
theorem tyX0_ok : ∀ k, k < 6 → parseFieldDescriptor (TX0 k).2.2.1 = some (tyX0 k) := by decide +kernel
abbrev cX0_init : ByteArray := prog_1_method_1_code
def yX0_init : MethodName := ⟨RX0, "<init>", "()V"⟩
abbrev cX0_addNode : ByteArray := prog_1_method_2_code
def yX0_addNode : MethodName := ⟨RX0, "addNode", "()I"⟩
abbrev cX0_join : ByteArray := prog_1_method_3_code
def yX0_join : MethodName := ⟨RX0, "join", "(II)I"⟩
abbrev cX0_part : ByteArray := prog_1_method_4_code
def yX0_part : MethodName := ⟨RX0, "part", "(II)I"⟩
abbrev cX0_isolate : ByteArray := prog_1_method_5_code
def yX0_isolate : MethodName := ⟨RX0, "isolate", "(I)I"⟩
abbrev cX0_nodes : ByteArray := prog_1_method_6_code
def yX0_nodes : MethodName := ⟨RX0, "nodes", "()I"⟩
abbrev cX0_edges : ByteArray := prog_1_method_7_code
def yX0_edges : MethodName := ⟨RX0, "edges", "()I"⟩
abbrev cX0_degree : ByteArray := prog_1_method_8_code
def yX0_degree : MethodName := ⟨RX0, "degree", "(I)I"⟩
abbrev cX0_neighbour : ByteArray := prog_1_method_9_code
def yX0_neighbour : MethodName := ⟨RX0, "neighbour", "(II)I"⟩
abbrev cX0_areJoined : ByteArray := prog_1_method_10_code
def yX0_areJoined : MethodName := ⟨RX0, "areJoined", "(II)Z"⟩
abbrev cX0_core : ByteArray := prog_1_method_11_code
def yX0_core : MethodName := ⟨RX0, "core", "(I)I"⟩
abbrev cX0_degeneracy : ByteArray := prog_1_method_12_code
def yX0_degeneracy : MethodName := ⟨RX0, "degeneracy", "()I"⟩
abbrev cX0_coreSize : ByteArray := prog_1_method_13_code
def yX0_coreSize : MethodName := ⟨RX0, "coreSize", "(I)I"⟩
abbrev cX0_changes : ByteArray := prog_1_method_14_code
def yX0_changes : MethodName := ⟨RX0, "changes", "()I"⟩
abbrev cX0_community : ByteArray := prog_1_method_15_code
def yX0_community : MethodName := ⟨RX0, "community", "(II)I"⟩
abbrev cX0_communities : ByteArray := prog_1_method_16_code
def yX0_communities : MethodName := ⟨RX0, "communities", "(I)I"⟩
abbrev cX0_together : ByteArray := prog_1_method_17_code
def yX0_together : MethodName := ⟨RX0, "together", "(II)I"⟩
abbrev cX0_hierarchy : ByteArray := prog_1_method_18_code
def yX0_hierarchy : MethodName := ⟨RX0, "hierarchy", "()I"⟩
abbrev cX0_peeled : ByteArray := prog_1_method_19_code
def yX0_peeled : MethodName := ⟨RX0, "peeled", "(I)I"⟩
abbrev cX0_denseSize : ByteArray := prog_1_method_20_code
def yX0_denseSize : MethodName := ⟨RX0, "denseSize", "()I"⟩
abbrev cX0_isDense : ByteArray := prog_1_method_21_code
def yX0_isDense : MethodName := ⟨RX0, "isDense", "(I)Z"⟩
abbrev cX0_density : ByteArray := prog_1_method_22_code
def yX0_density : MethodName := ⟨RX0, "density", "()D"⟩
abbrev cX0_support : ByteArray := prog_1_method_23_code
def yX0_support : MethodName := ⟨RX0, "support", "(II)I"⟩
abbrev cX0_triangles : ByteArray := prog_1_method_24_code
def yX0_triangles : MethodName := ⟨RX0, "triangles", "()I"⟩
abbrev cX0_truss : ByteArray := prog_1_method_25_code
def yX0_truss : MethodName := ⟨RX0, "truss", "(II)I"⟩
abbrev cX0_trussSize : ByteArray := prog_1_method_26_code
def yX0_trussSize : MethodName := ⟨RX0, "trussSize", "(I)I"⟩
abbrev cX0_checkNode : ByteArray := prog_1_method_27_code
def yX0_checkNode : MethodName := ⟨RX0, "checkNode", "(I)V"⟩
abbrev cX0_checkPair : ByteArray := prog_1_method_28_code
def yX0_checkPair : MethodName := ⟨RX0, "checkPair", "(II)V"⟩
abbrev cX0_checkEdge : ByteArray := prog_1_method_29_code
def yX0_checkEdge : MethodName := ⟨RX0, "checkEdge", "(II)V"⟩
abbrev cX0_checkLevel : ByteArray := prog_1_method_30_code
def yX0_checkLevel : MethodName := ⟨RX0, "checkLevel", "(I)V"⟩
abbrev cX0_single : ByteArray := prog_1_method_31_code
def yX0_single : MethodName := ⟨RX0, "single", "(I)I"⟩
abbrev cX0_contains : ByteArray := prog_1_method_32_code
def yX0_contains : MethodName := ⟨RX0, "contains", "(II)Z"⟩
abbrev cX0_with : ByteArray := prog_1_method_33_code
def yX0_with : MethodName := ⟨RX0, "with", "(II)I"⟩
abbrev cX0_without : ByteArray := prog_1_method_34_code
def yX0_without : MethodName := ⟨RX0, "without", "(II)I"⟩
abbrev cX0_size : ByteArray := prog_1_method_35_code
def yX0_size : MethodName := ⟨RX0, "size", "(I)I"⟩
abbrev cX0_allNodes : ByteArray := prog_1_method_36_code
def yX0_allNodes : MethodName := ⟨RX0, "allNodes", "()I"⟩
abbrev cX0_coreSet : ByteArray := prog_1_method_37_code
def yX0_coreSet : MethodName := ⟨RX0, "coreSet", "(I)I"⟩
abbrev cX0_shellSet : ByteArray := prog_1_method_38_code
def yX0_shellSet : MethodName := ⟨RX0, "shellSet", "(I)I"⟩
abbrev cX0_edgesWithin : ByteArray := prog_1_method_39_code
def yX0_edgesWithin : MethodName := ⟨RX0, "edgesWithin", "(I)I"⟩
abbrev cX0_reach : ByteArray := prog_1_method_40_code
def yX0_reach : MethodName := ⟨RX0, "reach", "(II)I"⟩
abbrev cX0_raiseCores : ByteArray := prog_1_method_41_code
def yX0_raiseCores : MethodName := ⟨RX0, "raiseCores", "(II)I"⟩
abbrev cX0_cutEdge : ByteArray := prog_1_method_42_code
def yX0_cutEdge : MethodName := ⟨RX0, "cutEdge", "(II)I"⟩
abbrev cX0_nearShell : ByteArray := prog_1_method_43_code
def yX0_nearShell : MethodName := ⟨RX0, "nearShell", "(III)I"⟩
abbrev cX0_supportedPart : ByteArray := prog_1_method_44_code
def yX0_supportedPart : MethodName := ⟨RX0, "supportedPart", "(III)I"⟩
abbrev cX0_changeCores : ByteArray := prog_1_method_45_code
def yX0_changeCores : MethodName := ⟨RX0, "changeCores", "(II)I"⟩
abbrev cX0_countCommunities : ByteArray := prog_1_method_46_code
def yX0_countCommunities : MethodName := ⟨RX0, "countCommunities", "(II)I"⟩
abbrev cX0_nextToPeel : ByteArray := prog_1_method_47_code
def yX0_nextToPeel : MethodName := ⟨RX0, "nextToPeel", "(I)I"⟩
abbrev cX0_denseSet : ByteArray := prog_1_method_48_code
def yX0_denseSet : MethodName := ⟨RX0, "denseSet", "()I"⟩
abbrev cX0_startTrusses : ByteArray := prog_1_method_49_code
def yX0_startTrusses : MethodName := ⟨RX0, "startTrusses", "()V"⟩
abbrev cX0_shrinkToTruss : ByteArray := prog_1_method_50_code
def yX0_shrinkToTruss : MethodName := ⟨RX0, "shrinkToTruss", "(I)V"⟩
abbrev cX0_dropWeakEdges : ByteArray := prog_1_method_51_code
def yX0_dropWeakEdges : MethodName := ⟨RX0, "dropWeakEdges", "(I)Z"⟩
def RX1 : String := "CorebarnModel"
def TX1 : u_T := fun k => match k with
  | _ => ("", "", "", false)
def tyX1 : Nat → FieldType := fun k => match k with
  | _ => .int
abbrev wsX10 : List Cond := u_ws RX1 TX1 0
theorem nmX1 : ∀ a, a < 0 → ∀ b, b < 0 → a ≠ b → (TX1 a).2.1 ≠ (TX1 b).2.1 := by decide +kernel
theorem tyX1_ok : ∀ k, k < 0 → parseFieldDescriptor (TX1 k).2.2.1 = some (tyX1 k) := by decide +kernel
def RJx145de : String := "java/io/Serializable"
def TJx145de : u_T := fun k => match k with
  | _ => ("", "", "", false)
def tyJx145de : Nat → FieldType := fun k => match k with
  | _ => .int
abbrev wsJx145de0 : List Cond := u_ws RJx145de TJx145de 0
theorem nmJx145de : ∀ a, a < 0 → ∀ b, b < 0 → a ≠ b → (TJx145de a).2.1 ≠ (TJx145de b).2.1 := by decide +kernel
theorem tyJx145de_ok : ∀ k, k < 0 → parseFieldDescriptor (TJx145de k).2.2.1 = some (tyJx145de k) := by decide +kernel
def RJ6 : String := "java/lang/Integer"
def TJ6 : u_T := fun k => match k with
  | _ => ("", "", "", false)
def tyJ6 : Nat → FieldType := fun k => match k with
  | _ => .int
abbrev wsJ60 : List Cond := u_ws RJ6 TJ6 0
theorem nmJ6 : ∀ a, a < 0 → ∀ b, b < 0 → a ≠ b → (TJ6 a).2.1 ≠ (TJ6 b).2.1 := by decide +kernel
theorem tyJ6_ok : ∀ k, k < 0 → parseFieldDescriptor (TJ6 k).2.2.1 = some (tyJ6 k) := by decide +kernel
abbrev cJ6_bitCount_0f7a4 : ByteArray := prog_9_method_49_code
def yJ6_bitCount_0f7a4 : MethodName := ⟨RJ6, "bitCount", "(I)I"⟩
def RJ9 : String := "java/lang/Math"
def TJ9 : u_T := fun k => match k with
  | _ => ("", "", "", false)
def tyJ9 : Nat → FieldType := fun k => match k with
  | _ => .int
abbrev wsJ90 : List Cond := u_ws RJ9 TJ9 0
theorem nmJ9 : ∀ a, a < 0 → ∀ b, b < 0 → a ≠ b → (TJ9 a).2.1 ≠ (TJ9 b).2.1 := by decide +kernel
theorem tyJ9_ok : ∀ k, k < 0 → parseFieldDescriptor (TJ9 k).2.2.1 = some (tyJ9 k) := by decide +kernel
abbrev cJ9_max_7cf53 : ByteArray := prog_10_method_65_code
def yJ9_max_7cf53 : MethodName := ⟨RJ9, "max", "(II)I"⟩
abbrev cJ9_min_7cf53 : ByteArray := prog_10_method_69_code
def yJ9_min_7cf53 : MethodName := ⟨RJ9, "min", "(II)I"⟩
def RJ0 : String := "java/lang/String"
def TJ0 : u_T := fun k => match k with
  | _ => ("", "", "", false)
def tyJ0 : Nat → FieldType := fun k => match k with
  | _ => .int
abbrev wsJ00 : List Cond := u_ws RJ0 TJ0 0
theorem nmJ0 : ∀ a, a < 0 → ∀ b, b < 0 → a ≠ b → (TJ0 a).2.1 ≠ (TJ0 b).2.1 := by decide +kernel
theorem tyJ0_ok : ∀ k, k < 0 → parseFieldDescriptor (TJ0 k).2.2.1 = some (tyJ0 k) := by decide +kernel
def RL : String := "CorebarnLaw"
abbrev cL_cell : ByteArray := method_2_code
def yL_cell : MethodName := ⟨RL, "cell", "([II)I"⟩
abbrev cL_low : ByteArray := method_3_code
def yL_low : MethodName := ⟨RL, "low", "(II)I"⟩
abbrev cL_addNode : ByteArray := method_4_code
def yL_addNode : MethodName := ⟨RL, "addNode", "(LCorebarn;)I"⟩
abbrev cL_join : ByteArray := method_5_code
def yL_join : MethodName := ⟨RL, "join", "(LCorebarn;II)I"⟩
abbrev cL_part : ByteArray := method_6_code
def yL_part : MethodName := ⟨RL, "part", "(LCorebarn;II)I"⟩
abbrev cL_isolate : ByteArray := method_7_code
def yL_isolate : MethodName := ⟨RL, "isolate", "(LCorebarn;I)I"⟩
abbrev cL_together : ByteArray := method_8_code
def yL_together : MethodName := ⟨RL, "together", "(LCorebarn;II)I"⟩
abbrev cL_truss : ByteArray := method_9_code
def yL_truss : MethodName := ⟨RL, "truss", "(LCorebarn;II)I"⟩
abbrev cL_act : ByteArray := method_10_code
def yL_act : MethodName := ⟨RL, "act", "(LCorebarn;I)I"⟩
abbrev cL_areAlike : ByteArray := method_11_code
def yL_areAlike : MethodName := ⟨RL, "areAlike", "(LCorebarn;LCorebarn;)Z"⟩
abbrev cL_isNodeSo : ByteArray := method_12_code
def yL_isNodeSo : MethodName := ⟨RL, "isNodeSo", "(LCorebarn;I)Z"⟩
abbrev cL_isPeeledSo : ByteArray := method_13_code
def yL_isPeeledSo : MethodName := ⟨RL, "isPeeledSo", "(LCorebarn;)Z"⟩
abbrev cL_arePairsSo : ByteArray := method_14_code
def yL_arePairsSo : MethodName := ⟨RL, "arePairsSo", "(LCorebarn;II)Z"⟩
abbrev cL_areCoresSo : ByteArray := method_15_code
def yL_areCoresSo : MethodName := ⟨RL, "areCoresSo", "(LCorebarn;)Z"⟩
abbrev cL_law : ByteArray := code
def yL_law : MethodName := ⟨RL, "law", "([I)Z"⟩
def wsX0_init : List Cond := .code yX0_init cX0_init 1 none :: ([.methodLink RX0 3 objectInit, .instanceMethod objectInit, .code objectInit ⟨#[0xb1]⟩ 1 none, .arrayClass .int, .fieldLink RX0 9 "Corebarn" "neighbours" "[I", .fieldLink RX0 13 "Corebarn" "cores" "[I", .fieldLink RX0 16 "Corebarn" "trussNeighbours" "[I", .fieldLink RX0 19 "Corebarn" "nodeCount" "I", .fieldLink RX0 23 "Corebarn" "edgeCount" "I", .fieldLink RX0 26 "Corebarn" "coreChanges" "I"] ++ wsX00)
def wsX0_addNode : List Cond := .code yX0_addNode cX0_addNode 2 (some .int) :: ([.classLink RX0 29 "java/lang/IllegalStateException", .initialized "java/lang/IllegalStateException", .fieldLink RX0 19 "Corebarn" "nodeCount" "I"] ++ wsX00 ++ (vx_atS RX0 33 "java/lang/IllegalStateException" ["java/lang/RuntimeException", "java/lang/Exception"]).filter goodWord)
def wsX0_checkNode : List Cond := .code yX0_checkNode cX0_checkNode 2 none :: ([.classLink RX0 67 "java/lang/IndexOutOfBoundsException", .initialized "java/lang/IndexOutOfBoundsException", .fieldLink RX0 19 "Corebarn" "nodeCount" "I"] ++ wsX00 ++ (vx_atS RX0 71 "java/lang/IndexOutOfBoundsException" ["java/lang/RuntimeException", "java/lang/Exception"]).filter goodWord)
def wsX0_checkPair : List Cond := .code yX0_checkPair cX0_checkPair 3 none :: ([.classLink RX0 130 "java/lang/IllegalArgumentException", .initialized "java/lang/IllegalArgumentException", .methodLink RX0 59 yX0_checkNode, .instanceMethod yX0_checkNode, .selects RX0 yX0_checkNode yX0_checkNode, .initialized RX0, .code yX0_checkNode cX0_checkNode 2 none, .classLink RX0 67 "java/lang/IndexOutOfBoundsException", .initialized "java/lang/IndexOutOfBoundsException", .fieldLink RX0 19 "Corebarn" "nodeCount" "I"] ++ wsX00 ++ (vx_atS RX0 134 "java/lang/IllegalArgumentException" ["java/lang/RuntimeException", "java/lang/Exception"]).filter goodWord ++ (vx_atS RX0 71 "java/lang/IndexOutOfBoundsException" ["java/lang/RuntimeException", "java/lang/Exception"]).filter goodWord)
def wsX0_single : List Cond := .code yX0_single cX0_single 1 (some .int) :: ([])
def wsX0_contains : List Cond := .code yX0_contains cX0_contains 2 (some .boolean) :: ([.methodLink RX0 83 yX0_single, .static yX0_single, .initialized RX0, .code yX0_single cX0_single 1 (some .int)])
def wsX0_with : List Cond := .code yX0_with cX0_with 2 (some .int) :: ([.methodLink RX0 83 yX0_single, .static yX0_single, .initialized RX0, .code yX0_single cX0_single 1 (some .int)])
def wsX0_coreSet : List Cond := .code yX0_coreSet cX0_coreSet 4 (some .int) :: ([.fieldLink RX0 19 "Corebarn" "nodeCount" "I", .fieldLink RX0 13 "Corebarn" "cores" "[I", .methodLink RX0 46 yX0_with, .static yX0_with, .initialized RX0, .code yX0_with cX0_with 2 (some .int), .methodLink RX0 83 yX0_single, .static yX0_single, .code yX0_single cX0_single 1 (some .int)] ++ wsX00)
def wsX0_shellSet : List Cond := .code yX0_shellSet cX0_shellSet 2 (some .int) :: ([.methodLink RX0 80 yX0_coreSet, .instanceMethod yX0_coreSet, .selects RX0 yX0_coreSet yX0_coreSet, .initialized RX0, .code yX0_coreSet cX0_coreSet 4 (some .int), .fieldLink RX0 19 "Corebarn" "nodeCount" "I", .fieldLink RX0 13 "Corebarn" "cores" "[I", .methodLink RX0 46 yX0_with, .static yX0_with, .code yX0_with cX0_with 2 (some .int), .methodLink RX0 83 yX0_single, .static yX0_single, .code yX0_single cX0_single 1 (some .int)] ++ wsX00)
def wsX0_reach : List Cond := .code yX0_reach cX0_reach 7 (some .int) :: ([.fieldLink RX0 19 "Corebarn" "nodeCount" "I", .fieldLink RX0 9 "Corebarn" "neighbours" "[I", .methodLink RX0 40 yX0_contains, .static yX0_contains, .initialized RX0, .code yX0_contains cX0_contains 2 (some .boolean), .methodLink RX0 83 yX0_single, .static yX0_single, .code yX0_single cX0_single 1 (some .int)] ++ wsX00)
def wsX0_nearShell_r1 : List Cond := [Cond.methodLink RX0 83 yX0_single, Cond.static yX0_single, Cond.initialized RX0, Cond.code yX0_single cX0_single 1 (some .int), Cond.methodLink RX0 46 yX0_with, Cond.static yX0_with, Cond.code yX0_with cX0_with 2 (some .int), Cond.methodLink RX0 104 yX0_shellSet, Cond.instanceMethod yX0_shellSet, Cond.selects RX0 yX0_shellSet yX0_shellSet, Cond.code yX0_shellSet cX0_shellSet 2 (some .int), Cond.methodLink RX0 80 yX0_coreSet, Cond.instanceMethod yX0_coreSet, Cond.selects RX0 yX0_coreSet yX0_coreSet, Cond.code yX0_coreSet cX0_coreSet 4 (some .int), Cond.fieldLink RX0 19 "Corebarn" "nodeCount" "I", Cond.fieldLink RX0 13 "Corebarn" "cores" "[I", Cond.methodLink RX0 86 yX0_reach, Cond.instanceMethod yX0_reach, Cond.selects RX0 yX0_reach yX0_reach, Cond.code yX0_reach cX0_reach 7 (some .int), Cond.fieldLink RX0 9 "Corebarn" "neighbours" "[I", Cond.methodLink RX0 40 yX0_contains, Cond.static yX0_contains]
def wsX0_nearShell_r2 : List Cond := [Cond.code yX0_contains cX0_contains 2 (some .boolean)]
def wsX0_nearShell : List Cond := .code yX0_nearShell cX0_nearShell 4 (some .int) :: ((wsX0_nearShell_r1 ++ wsX0_nearShell_r2) ++ wsX00)
def wsJ6_bitCount_0f7a4 : List Cond := .code yJ6_bitCount_0f7a4 cJ6_bitCount_0f7a4 1 (some .int) :: ([.constant RJ6 265 (1431655765), .constant RJ6 266 (858993459), .constant RJ6 267 (252645135)])
def wsX0_size : List Cond := .code yX0_size cX0_size 1 (some .int) :: ([.methodLink RX0 143 yJ6_bitCount_0f7a4, .static yJ6_bitCount_0f7a4, .initialized RJ6, .code yJ6_bitCount_0f7a4 cJ6_bitCount_0f7a4 1 (some .int), .constant RJ6 265 (1431655765), .constant RJ6 266 (858993459), .constant RJ6 267 (252645135)])
def wsX0_without : List Cond := .code yX0_without cX0_without 2 (some .int) :: ([.methodLink RX0 83 yX0_single, .static yX0_single, .initialized RX0, .code yX0_single cX0_single 1 (some .int)])
def wsX0_supportedPart : List Cond := .code yX0_supportedPart cX0_supportedPart 8 (some .int) :: ([.fieldLink RX0 19 "Corebarn" "nodeCount" "I", .fieldLink RX0 9 "Corebarn" "neighbours" "[I", .methodLink RX0 40 yX0_contains, .static yX0_contains, .initialized RX0, .code yX0_contains cX0_contains 2 (some .boolean), .methodLink RX0 83 yX0_single, .static yX0_single, .code yX0_single cX0_single 1 (some .int), .methodLink RX0 63 yX0_size, .static yX0_size, .code yX0_size cX0_size 1 (some .int), .methodLink RX0 143 yJ6_bitCount_0f7a4, .static yJ6_bitCount_0f7a4, .initialized RJ6, .code yJ6_bitCount_0f7a4 cJ6_bitCount_0f7a4 1 (some .int), .constant RJ6 265 (1431655765), .constant RJ6 266 (858993459), .constant RJ6 267 (252645135), .methodLink RX0 115 yX0_without, .static yX0_without, .code yX0_without cX0_without 2 (some .int)] ++ wsX00)
def wsX0_changeCores : List Cond := .code yX0_changeCores cX0_changeCores 4 (some .int) :: ([.fieldLink RX0 19 "Corebarn" "nodeCount" "I", .fieldLink RX0 13 "Corebarn" "cores" "[I", .fieldLink RX0 26 "Corebarn" "coreChanges" "I", .methodLink RX0 40 yX0_contains, .static yX0_contains, .initialized RX0, .code yX0_contains cX0_contains 2 (some .boolean), .methodLink RX0 83 yX0_single, .static yX0_single, .code yX0_single cX0_single 1 (some .int), .methodLink RX0 63 yX0_size, .static yX0_size, .code yX0_size cX0_size 1 (some .int), .methodLink RX0 143 yJ6_bitCount_0f7a4, .static yJ6_bitCount_0f7a4, .initialized RJ6, .code yJ6_bitCount_0f7a4 cJ6_bitCount_0f7a4 1 (some .int), .constant RJ6 265 (1431655765), .constant RJ6 266 (858993459), .constant RJ6 267 (252645135)] ++ wsX00)
def wsX0_raiseCores_r1 : List Cond := [Cond.fieldLink RX0 13 "Corebarn" "cores" "[I", Cond.methodLink RX0 92 Lib.Math.min.name, Cond.static Lib.Math.min.name, Cond.initialized "java/lang/Math", Cond.code Lib.Math.min.name Lib.Math.min.code 2 (some .int), Cond.methodLink RX0 148 yX0_nearShell, Cond.instanceMethod yX0_nearShell, Cond.selects RX0 yX0_nearShell yX0_nearShell, Cond.initialized RX0, Cond.code yX0_nearShell cX0_nearShell 4 (some .int), Cond.methodLink RX0 83 yX0_single, Cond.static yX0_single, Cond.code yX0_single cX0_single 1 (some .int), Cond.methodLink RX0 46 yX0_with, Cond.static yX0_with, Cond.code yX0_with cX0_with 2 (some .int), Cond.methodLink RX0 104 yX0_shellSet, Cond.instanceMethod yX0_shellSet, Cond.selects RX0 yX0_shellSet yX0_shellSet, Cond.code yX0_shellSet cX0_shellSet 2 (some .int), Cond.methodLink RX0 80 yX0_coreSet, Cond.instanceMethod yX0_coreSet, Cond.selects RX0 yX0_coreSet yX0_coreSet, Cond.code yX0_coreSet cX0_coreSet 4 (some .int)]
def wsX0_raiseCores_r2 : List Cond := [Cond.fieldLink RX0 19 "Corebarn" "nodeCount" "I", Cond.methodLink RX0 86 yX0_reach, Cond.instanceMethod yX0_reach, Cond.selects RX0 yX0_reach yX0_reach, Cond.code yX0_reach cX0_reach 7 (some .int), Cond.fieldLink RX0 9 "Corebarn" "neighbours" "[I", Cond.methodLink RX0 40 yX0_contains, Cond.static yX0_contains, Cond.code yX0_contains cX0_contains 2 (some .boolean), Cond.methodLink RX0 152 yX0_supportedPart, Cond.instanceMethod yX0_supportedPart, Cond.selects RX0 yX0_supportedPart yX0_supportedPart, Cond.code yX0_supportedPart cX0_supportedPart 8 (some .int), Cond.methodLink RX0 63 yX0_size, Cond.static yX0_size, Cond.code yX0_size cX0_size 1 (some .int), Cond.methodLink RX0 143 yJ6_bitCount_0f7a4, Cond.static yJ6_bitCount_0f7a4, Cond.initialized RJ6, Cond.code yJ6_bitCount_0f7a4 cJ6_bitCount_0f7a4 1 (some .int), Cond.constant RJ6 265 (1431655765), Cond.constant RJ6 266 (858993459), Cond.constant RJ6 267 (252645135), Cond.methodLink RX0 115 yX0_without]
def wsX0_raiseCores_r3 : List Cond := [Cond.static yX0_without, Cond.code yX0_without cX0_without 2 (some .int), Cond.methodLink RX0 155 yX0_changeCores, Cond.instanceMethod yX0_changeCores, Cond.selects RX0 yX0_changeCores yX0_changeCores, Cond.code yX0_changeCores cX0_changeCores 4 (some .int), Cond.fieldLink RX0 26 "Corebarn" "coreChanges" "I"]
def wsX0_raiseCores : List Cond := .code yX0_raiseCores cX0_raiseCores 5 (some .int) :: ((wsX0_raiseCores_r1 ++ (wsX0_raiseCores_r2 ++ wsX0_raiseCores_r3)) ++ wsX00)
def wsX0_join_r1 : List Cond := [Cond.classLink RX0 29 "java/lang/IllegalStateException", Cond.initialized "java/lang/IllegalStateException", Cond.fieldLink RX0 9 "Corebarn" "neighbours" "[I", Cond.fieldLink RX0 23 "Corebarn" "edgeCount" "I", Cond.methodLink RX0 36 yX0_checkPair, Cond.instanceMethod yX0_checkPair, Cond.selects RX0 yX0_checkPair yX0_checkPair, Cond.initialized RX0, Cond.code yX0_checkPair cX0_checkPair 3 none, Cond.classLink RX0 130 "java/lang/IllegalArgumentException", Cond.initialized "java/lang/IllegalArgumentException", Cond.methodLink RX0 59 yX0_checkNode, Cond.instanceMethod yX0_checkNode, Cond.selects RX0 yX0_checkNode yX0_checkNode, Cond.code yX0_checkNode cX0_checkNode 2 none, Cond.classLink RX0 67 "java/lang/IndexOutOfBoundsException", Cond.initialized "java/lang/IndexOutOfBoundsException", Cond.fieldLink RX0 19 "Corebarn" "nodeCount" "I", Cond.methodLink RX0 40 yX0_contains, Cond.static yX0_contains, Cond.code yX0_contains cX0_contains 2 (some .boolean), Cond.methodLink RX0 83 yX0_single, Cond.static yX0_single, Cond.code yX0_single cX0_single 1 (some .int)]
def wsX0_join_r2 : List Cond := [Cond.methodLink RX0 46 yX0_with, Cond.static yX0_with, Cond.code yX0_with cX0_with 2 (some .int), Cond.methodLink RX0 50 yX0_raiseCores, Cond.instanceMethod yX0_raiseCores, Cond.selects RX0 yX0_raiseCores yX0_raiseCores, Cond.code yX0_raiseCores cX0_raiseCores 5 (some .int), Cond.fieldLink RX0 13 "Corebarn" "cores" "[I", Cond.methodLink RX0 92 Lib.Math.min.name, Cond.static Lib.Math.min.name, Cond.initialized "java/lang/Math", Cond.code Lib.Math.min.name Lib.Math.min.code 2 (some .int), Cond.methodLink RX0 148 yX0_nearShell, Cond.instanceMethod yX0_nearShell, Cond.selects RX0 yX0_nearShell yX0_nearShell, Cond.code yX0_nearShell cX0_nearShell 4 (some .int), Cond.methodLink RX0 104 yX0_shellSet, Cond.instanceMethod yX0_shellSet, Cond.selects RX0 yX0_shellSet yX0_shellSet, Cond.code yX0_shellSet cX0_shellSet 2 (some .int), Cond.methodLink RX0 80 yX0_coreSet, Cond.instanceMethod yX0_coreSet, Cond.selects RX0 yX0_coreSet yX0_coreSet, Cond.code yX0_coreSet cX0_coreSet 4 (some .int)]
def wsX0_join_r3 : List Cond := [Cond.methodLink RX0 86 yX0_reach, Cond.instanceMethod yX0_reach, Cond.selects RX0 yX0_reach yX0_reach, Cond.code yX0_reach cX0_reach 7 (some .int), Cond.methodLink RX0 152 yX0_supportedPart, Cond.instanceMethod yX0_supportedPart, Cond.selects RX0 yX0_supportedPart yX0_supportedPart, Cond.code yX0_supportedPart cX0_supportedPart 8 (some .int), Cond.methodLink RX0 63 yX0_size, Cond.static yX0_size, Cond.code yX0_size cX0_size 1 (some .int), Cond.methodLink RX0 143 yJ6_bitCount_0f7a4, Cond.static yJ6_bitCount_0f7a4, Cond.initialized RJ6, Cond.code yJ6_bitCount_0f7a4 cJ6_bitCount_0f7a4 1 (some .int), Cond.constant RJ6 265 (1431655765), Cond.constant RJ6 266 (858993459), Cond.constant RJ6 267 (252645135), Cond.methodLink RX0 115 yX0_without, Cond.static yX0_without, Cond.code yX0_without cX0_without 2 (some .int), Cond.methodLink RX0 155 yX0_changeCores, Cond.instanceMethod yX0_changeCores, Cond.selects RX0 yX0_changeCores yX0_changeCores]
def wsX0_join_r4 : List Cond := [Cond.code yX0_changeCores cX0_changeCores 4 (some .int), Cond.fieldLink RX0 26 "Corebarn" "coreChanges" "I"]
def wsX0_join : List Cond := .code yX0_join cX0_join 3 (some .int) :: ((wsX0_join_r1 ++ (wsX0_join_r2 ++ (wsX0_join_r3 ++ wsX0_join_r4))) ++ wsX00 ++ (vx_atS RX0 33 "java/lang/IllegalStateException" ["java/lang/RuntimeException", "java/lang/Exception"]).filter goodWord ++ (vx_atS RX0 134 "java/lang/IllegalArgumentException" ["java/lang/RuntimeException", "java/lang/Exception"]).filter goodWord ++ (vx_atS RX0 71 "java/lang/IndexOutOfBoundsException" ["java/lang/RuntimeException", "java/lang/Exception"]).filter goodWord)
def wsX0_checkEdge : List Cond := .code yX0_checkEdge cX0_checkEdge 3 none :: ([.classLink RX0 95 "java/util/NoSuchElementException", .initialized "java/util/NoSuchElementException", .fieldLink RX0 9 "Corebarn" "neighbours" "[I", .methodLink RX0 40 yX0_contains, .static yX0_contains, .initialized RX0, .code yX0_contains cX0_contains 2 (some .boolean), .methodLink RX0 83 yX0_single, .static yX0_single, .code yX0_single cX0_single 1 (some .int)] ++ wsX00 ++ zat99.filter goodWord)
def wsX0_cutEdge_r1 : List Cond := [Cond.fieldLink RX0 13 "Corebarn" "cores" "[I", Cond.methodLink RX0 92 Lib.Math.min.name, Cond.static Lib.Math.min.name, Cond.initialized "java/lang/Math", Cond.code Lib.Math.min.name Lib.Math.min.code 2 (some .int), Cond.fieldLink RX0 9 "Corebarn" "neighbours" "[I", Cond.fieldLink RX0 23 "Corebarn" "edgeCount" "I", Cond.methodLink RX0 115 yX0_without, Cond.static yX0_without, Cond.initialized RX0, Cond.code yX0_without cX0_without 2 (some .int), Cond.methodLink RX0 83 yX0_single, Cond.static yX0_single, Cond.code yX0_single cX0_single 1 (some .int), Cond.methodLink RX0 148 yX0_nearShell, Cond.instanceMethod yX0_nearShell, Cond.selects RX0 yX0_nearShell yX0_nearShell, Cond.code yX0_nearShell cX0_nearShell 4 (some .int), Cond.methodLink RX0 46 yX0_with, Cond.static yX0_with, Cond.code yX0_with cX0_with 2 (some .int), Cond.methodLink RX0 104 yX0_shellSet, Cond.instanceMethod yX0_shellSet, Cond.selects RX0 yX0_shellSet yX0_shellSet]
def wsX0_cutEdge_r2 : List Cond := [Cond.code yX0_shellSet cX0_shellSet 2 (some .int), Cond.methodLink RX0 80 yX0_coreSet, Cond.instanceMethod yX0_coreSet, Cond.selects RX0 yX0_coreSet yX0_coreSet, Cond.code yX0_coreSet cX0_coreSet 4 (some .int), Cond.fieldLink RX0 19 "Corebarn" "nodeCount" "I", Cond.methodLink RX0 86 yX0_reach, Cond.instanceMethod yX0_reach, Cond.selects RX0 yX0_reach yX0_reach, Cond.code yX0_reach cX0_reach 7 (some .int), Cond.methodLink RX0 40 yX0_contains, Cond.static yX0_contains, Cond.code yX0_contains cX0_contains 2 (some .boolean), Cond.methodLink RX0 152 yX0_supportedPart, Cond.instanceMethod yX0_supportedPart, Cond.selects RX0 yX0_supportedPart yX0_supportedPart, Cond.code yX0_supportedPart cX0_supportedPart 8 (some .int), Cond.methodLink RX0 63 yX0_size, Cond.static yX0_size, Cond.code yX0_size cX0_size 1 (some .int), Cond.methodLink RX0 143 yJ6_bitCount_0f7a4, Cond.static yJ6_bitCount_0f7a4, Cond.initialized RJ6, Cond.code yJ6_bitCount_0f7a4 cJ6_bitCount_0f7a4 1 (some .int)]
def wsX0_cutEdge_r3 : List Cond := [Cond.constant RJ6 265 (1431655765), Cond.constant RJ6 266 (858993459), Cond.constant RJ6 267 (252645135), Cond.methodLink RX0 155 yX0_changeCores, Cond.instanceMethod yX0_changeCores, Cond.selects RX0 yX0_changeCores yX0_changeCores, Cond.code yX0_changeCores cX0_changeCores 4 (some .int), Cond.fieldLink RX0 26 "Corebarn" "coreChanges" "I"]
def wsX0_cutEdge : List Cond := .code yX0_cutEdge cX0_cutEdge 5 (some .int) :: ((wsX0_cutEdge_r1 ++ (wsX0_cutEdge_r2 ++ wsX0_cutEdge_r3)) ++ wsX00)
def wsX0_part_r1 : List Cond := [Cond.methodLink RX0 36 yX0_checkPair, Cond.instanceMethod yX0_checkPair, Cond.selects RX0 yX0_checkPair yX0_checkPair, Cond.initialized RX0, Cond.code yX0_checkPair cX0_checkPair 3 none, Cond.classLink RX0 130 "java/lang/IllegalArgumentException", Cond.initialized "java/lang/IllegalArgumentException", Cond.methodLink RX0 59 yX0_checkNode, Cond.instanceMethod yX0_checkNode, Cond.selects RX0 yX0_checkNode yX0_checkNode, Cond.code yX0_checkNode cX0_checkNode 2 none, Cond.classLink RX0 67 "java/lang/IndexOutOfBoundsException", Cond.initialized "java/lang/IndexOutOfBoundsException", Cond.fieldLink RX0 19 "Corebarn" "nodeCount" "I", Cond.methodLink RX0 53 yX0_checkEdge, Cond.instanceMethod yX0_checkEdge, Cond.selects RX0 yX0_checkEdge yX0_checkEdge, Cond.code yX0_checkEdge cX0_checkEdge 3 none, Cond.classLink RX0 95 "java/util/NoSuchElementException", Cond.initialized "java/util/NoSuchElementException", Cond.fieldLink RX0 9 "Corebarn" "neighbours" "[I", Cond.methodLink RX0 40 yX0_contains, Cond.static yX0_contains, Cond.code yX0_contains cX0_contains 2 (some .boolean)]
def wsX0_part_r2 : List Cond := [Cond.methodLink RX0 83 yX0_single, Cond.static yX0_single, Cond.code yX0_single cX0_single 1 (some .int), Cond.methodLink RX0 56 yX0_cutEdge, Cond.instanceMethod yX0_cutEdge, Cond.selects RX0 yX0_cutEdge yX0_cutEdge, Cond.code yX0_cutEdge cX0_cutEdge 5 (some .int), Cond.fieldLink RX0 13 "Corebarn" "cores" "[I", Cond.methodLink RX0 92 Lib.Math.min.name, Cond.static Lib.Math.min.name, Cond.initialized "java/lang/Math", Cond.code Lib.Math.min.name Lib.Math.min.code 2 (some .int), Cond.fieldLink RX0 23 "Corebarn" "edgeCount" "I", Cond.methodLink RX0 115 yX0_without, Cond.static yX0_without, Cond.code yX0_without cX0_without 2 (some .int), Cond.methodLink RX0 148 yX0_nearShell, Cond.instanceMethod yX0_nearShell, Cond.selects RX0 yX0_nearShell yX0_nearShell, Cond.code yX0_nearShell cX0_nearShell 4 (some .int), Cond.methodLink RX0 46 yX0_with, Cond.static yX0_with, Cond.code yX0_with cX0_with 2 (some .int), Cond.methodLink RX0 104 yX0_shellSet]
def wsX0_part_r3 : List Cond := [Cond.instanceMethod yX0_shellSet, Cond.selects RX0 yX0_shellSet yX0_shellSet, Cond.code yX0_shellSet cX0_shellSet 2 (some .int), Cond.methodLink RX0 80 yX0_coreSet, Cond.instanceMethod yX0_coreSet, Cond.selects RX0 yX0_coreSet yX0_coreSet, Cond.code yX0_coreSet cX0_coreSet 4 (some .int), Cond.methodLink RX0 86 yX0_reach, Cond.instanceMethod yX0_reach, Cond.selects RX0 yX0_reach yX0_reach, Cond.code yX0_reach cX0_reach 7 (some .int), Cond.methodLink RX0 152 yX0_supportedPart, Cond.instanceMethod yX0_supportedPart, Cond.selects RX0 yX0_supportedPart yX0_supportedPart, Cond.code yX0_supportedPart cX0_supportedPart 8 (some .int), Cond.methodLink RX0 63 yX0_size, Cond.static yX0_size, Cond.code yX0_size cX0_size 1 (some .int), Cond.methodLink RX0 143 yJ6_bitCount_0f7a4, Cond.static yJ6_bitCount_0f7a4, Cond.initialized RJ6, Cond.code yJ6_bitCount_0f7a4 cJ6_bitCount_0f7a4 1 (some .int), Cond.constant RJ6 265 (1431655765), Cond.constant RJ6 266 (858993459)]
def wsX0_part_r4 : List Cond := [Cond.constant RJ6 267 (252645135), Cond.methodLink RX0 155 yX0_changeCores, Cond.instanceMethod yX0_changeCores, Cond.selects RX0 yX0_changeCores yX0_changeCores, Cond.code yX0_changeCores cX0_changeCores 4 (some .int), Cond.fieldLink RX0 26 "Corebarn" "coreChanges" "I"]
def wsX0_part : List Cond := .code yX0_part cX0_part 3 (some .int) :: ((wsX0_part_r1 ++ (wsX0_part_r2 ++ (wsX0_part_r3 ++ wsX0_part_r4))) ++ wsX00 ++ (vx_atS RX0 134 "java/lang/IllegalArgumentException" ["java/lang/RuntimeException", "java/lang/Exception"]).filter goodWord ++ (vx_atS RX0 71 "java/lang/IndexOutOfBoundsException" ["java/lang/RuntimeException", "java/lang/Exception"]).filter goodWord ++ zat99.filter goodWord)
def wsX0_isolate_r1 : List Cond := [Cond.fieldLink RX0 19 "Corebarn" "nodeCount" "I", Cond.fieldLink RX0 9 "Corebarn" "neighbours" "[I", Cond.methodLink RX0 59 yX0_checkNode, Cond.instanceMethod yX0_checkNode, Cond.selects RX0 yX0_checkNode yX0_checkNode, Cond.initialized RX0, Cond.code yX0_checkNode cX0_checkNode 2 none, Cond.classLink RX0 67 "java/lang/IndexOutOfBoundsException", Cond.initialized "java/lang/IndexOutOfBoundsException", Cond.methodLink RX0 40 yX0_contains, Cond.static yX0_contains, Cond.code yX0_contains cX0_contains 2 (some .boolean), Cond.methodLink RX0 83 yX0_single, Cond.static yX0_single, Cond.code yX0_single cX0_single 1 (some .int), Cond.methodLink RX0 56 yX0_cutEdge, Cond.instanceMethod yX0_cutEdge, Cond.selects RX0 yX0_cutEdge yX0_cutEdge, Cond.code yX0_cutEdge cX0_cutEdge 5 (some .int), Cond.fieldLink RX0 13 "Corebarn" "cores" "[I", Cond.methodLink RX0 92 Lib.Math.min.name, Cond.static Lib.Math.min.name, Cond.initialized "java/lang/Math", Cond.code Lib.Math.min.name Lib.Math.min.code 2 (some .int)]
def wsX0_isolate_r2 : List Cond := [Cond.fieldLink RX0 23 "Corebarn" "edgeCount" "I", Cond.methodLink RX0 115 yX0_without, Cond.static yX0_without, Cond.code yX0_without cX0_without 2 (some .int), Cond.methodLink RX0 148 yX0_nearShell, Cond.instanceMethod yX0_nearShell, Cond.selects RX0 yX0_nearShell yX0_nearShell, Cond.code yX0_nearShell cX0_nearShell 4 (some .int), Cond.methodLink RX0 46 yX0_with, Cond.static yX0_with, Cond.code yX0_with cX0_with 2 (some .int), Cond.methodLink RX0 104 yX0_shellSet, Cond.instanceMethod yX0_shellSet, Cond.selects RX0 yX0_shellSet yX0_shellSet, Cond.code yX0_shellSet cX0_shellSet 2 (some .int), Cond.methodLink RX0 80 yX0_coreSet, Cond.instanceMethod yX0_coreSet, Cond.selects RX0 yX0_coreSet yX0_coreSet, Cond.code yX0_coreSet cX0_coreSet 4 (some .int), Cond.methodLink RX0 86 yX0_reach, Cond.instanceMethod yX0_reach, Cond.selects RX0 yX0_reach yX0_reach, Cond.code yX0_reach cX0_reach 7 (some .int), Cond.methodLink RX0 152 yX0_supportedPart]
def wsX0_isolate_r3 : List Cond := [Cond.instanceMethod yX0_supportedPart, Cond.selects RX0 yX0_supportedPart yX0_supportedPart, Cond.code yX0_supportedPart cX0_supportedPart 8 (some .int), Cond.methodLink RX0 63 yX0_size, Cond.static yX0_size, Cond.code yX0_size cX0_size 1 (some .int), Cond.methodLink RX0 143 yJ6_bitCount_0f7a4, Cond.static yJ6_bitCount_0f7a4, Cond.initialized RJ6, Cond.code yJ6_bitCount_0f7a4 cJ6_bitCount_0f7a4 1 (some .int), Cond.constant RJ6 265 (1431655765), Cond.constant RJ6 266 (858993459), Cond.constant RJ6 267 (252645135), Cond.methodLink RX0 155 yX0_changeCores, Cond.instanceMethod yX0_changeCores, Cond.selects RX0 yX0_changeCores yX0_changeCores, Cond.code yX0_changeCores cX0_changeCores 4 (some .int), Cond.fieldLink RX0 26 "Corebarn" "coreChanges" "I"]
def wsX0_isolate : List Cond := .code yX0_isolate cX0_isolate 4 (some .int) :: ((wsX0_isolate_r1 ++ (wsX0_isolate_r2 ++ wsX0_isolate_r3)) ++ wsX00 ++ (vx_atS RX0 71 "java/lang/IndexOutOfBoundsException" ["java/lang/RuntimeException", "java/lang/Exception"]).filter goodWord)
def wsX0_nodes : List Cond := .code yX0_nodes cX0_nodes 1 (some .int) :: ([.fieldLink RX0 19 "Corebarn" "nodeCount" "I"] ++ wsX00)
def wsX0_edges : List Cond := .code yX0_edges cX0_edges 1 (some .int) :: ([.fieldLink RX0 23 "Corebarn" "edgeCount" "I"] ++ wsX00)
def wsX0_degree : List Cond := .code yX0_degree cX0_degree 2 (some .int) :: ([.fieldLink RX0 9 "Corebarn" "neighbours" "[I", .methodLink RX0 59 yX0_checkNode, .instanceMethod yX0_checkNode, .selects RX0 yX0_checkNode yX0_checkNode, .initialized RX0, .code yX0_checkNode cX0_checkNode 2 none, .classLink RX0 67 "java/lang/IndexOutOfBoundsException", .initialized "java/lang/IndexOutOfBoundsException", .fieldLink RX0 19 "Corebarn" "nodeCount" "I", .methodLink RX0 63 yX0_size, .static yX0_size, .code yX0_size cX0_size 1 (some .int), .methodLink RX0 143 yJ6_bitCount_0f7a4, .static yJ6_bitCount_0f7a4, .initialized RJ6, .code yJ6_bitCount_0f7a4 cJ6_bitCount_0f7a4 1 (some .int), .constant RJ6 265 (1431655765), .constant RJ6 266 (858993459), .constant RJ6 267 (252645135)] ++ wsX00 ++ (vx_atS RX0 71 "java/lang/IndexOutOfBoundsException" ["java/lang/RuntimeException", "java/lang/Exception"]).filter goodWord)
def wsX0_neighbour : List Cond := .code yX0_neighbour cX0_neighbour 5 (some .int) :: ([.classLink RX0 67 "java/lang/IndexOutOfBoundsException", .initialized "java/lang/IndexOutOfBoundsException", .fieldLink RX0 19 "Corebarn" "nodeCount" "I", .fieldLink RX0 9 "Corebarn" "neighbours" "[I", .methodLink RX0 59 yX0_checkNode, .instanceMethod yX0_checkNode, .selects RX0 yX0_checkNode yX0_checkNode, .initialized RX0, .code yX0_checkNode cX0_checkNode 2 none, .methodLink RX0 40 yX0_contains, .static yX0_contains, .code yX0_contains cX0_contains 2 (some .boolean), .methodLink RX0 83 yX0_single, .static yX0_single, .code yX0_single cX0_single 1 (some .int)] ++ wsX00 ++ (vx_atS RX0 71 "java/lang/IndexOutOfBoundsException" ["java/lang/RuntimeException", "java/lang/Exception"]).filter goodWord)
def wsX0_areJoined : List Cond := .code yX0_areJoined cX0_areJoined 3 (some .boolean) :: ([.fieldLink RX0 9 "Corebarn" "neighbours" "[I", .methodLink RX0 59 yX0_checkNode, .instanceMethod yX0_checkNode, .selects RX0 yX0_checkNode yX0_checkNode, .initialized RX0, .code yX0_checkNode cX0_checkNode 2 none, .classLink RX0 67 "java/lang/IndexOutOfBoundsException", .initialized "java/lang/IndexOutOfBoundsException", .fieldLink RX0 19 "Corebarn" "nodeCount" "I", .methodLink RX0 40 yX0_contains, .static yX0_contains, .code yX0_contains cX0_contains 2 (some .boolean), .methodLink RX0 83 yX0_single, .static yX0_single, .code yX0_single cX0_single 1 (some .int)] ++ wsX00 ++ (vx_atS RX0 71 "java/lang/IndexOutOfBoundsException" ["java/lang/RuntimeException", "java/lang/Exception"]).filter goodWord)
def wsX0_core : List Cond := .code yX0_core cX0_core 2 (some .int) :: ([.fieldLink RX0 13 "Corebarn" "cores" "[I", .methodLink RX0 59 yX0_checkNode, .instanceMethod yX0_checkNode, .selects RX0 yX0_checkNode yX0_checkNode, .initialized RX0, .code yX0_checkNode cX0_checkNode 2 none, .classLink RX0 67 "java/lang/IndexOutOfBoundsException", .initialized "java/lang/IndexOutOfBoundsException", .fieldLink RX0 19 "Corebarn" "nodeCount" "I"] ++ wsX00 ++ (vx_atS RX0 71 "java/lang/IndexOutOfBoundsException" ["java/lang/RuntimeException", "java/lang/Exception"]).filter goodWord)
def wsX0_degeneracy : List Cond := .code yX0_degeneracy cX0_degeneracy 3 (some .int) :: ([.fieldLink RX0 19 "Corebarn" "nodeCount" "I", .fieldLink RX0 13 "Corebarn" "cores" "[I", .methodLink RX0 72 Lib.Math.max.name, .static Lib.Math.max.name, .initialized "java/lang/Math", .code Lib.Math.max.name Lib.Math.max.code 2 (some .int)] ++ wsX00)
def wsX0_checkLevel : List Cond := .code yX0_checkLevel cX0_checkLevel 1 none :: ([.classLink RX0 130 "java/lang/IllegalArgumentException", .initialized "java/lang/IllegalArgumentException"] ++ (vx_atS RX0 134 "java/lang/IllegalArgumentException" ["java/lang/RuntimeException", "java/lang/Exception"]).filter goodWord)
def wsX0_coreSize_r1 : List Cond := [Cond.methodLink RX0 77 yX0_checkLevel, Cond.static yX0_checkLevel, Cond.initialized RX0, Cond.code yX0_checkLevel cX0_checkLevel 1 none, Cond.classLink RX0 130 "java/lang/IllegalArgumentException", Cond.initialized "java/lang/IllegalArgumentException", Cond.methodLink RX0 80 yX0_coreSet, Cond.instanceMethod yX0_coreSet, Cond.selects RX0 yX0_coreSet yX0_coreSet, Cond.code yX0_coreSet cX0_coreSet 4 (some .int), Cond.fieldLink RX0 19 "Corebarn" "nodeCount" "I", Cond.fieldLink RX0 13 "Corebarn" "cores" "[I", Cond.methodLink RX0 46 yX0_with, Cond.static yX0_with, Cond.code yX0_with cX0_with 2 (some .int), Cond.methodLink RX0 83 yX0_single, Cond.static yX0_single, Cond.code yX0_single cX0_single 1 (some .int), Cond.methodLink RX0 63 yX0_size, Cond.static yX0_size, Cond.code yX0_size cX0_size 1 (some .int), Cond.methodLink RX0 143 yJ6_bitCount_0f7a4, Cond.static yJ6_bitCount_0f7a4, Cond.initialized RJ6]
def wsX0_coreSize_r2 : List Cond := [Cond.code yJ6_bitCount_0f7a4 cJ6_bitCount_0f7a4 1 (some .int), Cond.constant RJ6 265 (1431655765), Cond.constant RJ6 266 (858993459), Cond.constant RJ6 267 (252645135)]
def wsX0_coreSize : List Cond := .code yX0_coreSize cX0_coreSize 2 (some .int) :: ((wsX0_coreSize_r1 ++ wsX0_coreSize_r2) ++ wsX00 ++ (vx_atS RX0 134 "java/lang/IllegalArgumentException" ["java/lang/RuntimeException", "java/lang/Exception"]).filter goodWord)
def wsX0_changes : List Cond := .code yX0_changes cX0_changes 1 (some .int) :: ([.fieldLink RX0 26 "Corebarn" "coreChanges" "I"] ++ wsX00)
def wsX0_community_r1 : List Cond := [Cond.methodLink RX0 59 yX0_checkNode, Cond.instanceMethod yX0_checkNode, Cond.selects RX0 yX0_checkNode yX0_checkNode, Cond.initialized RX0, Cond.code yX0_checkNode cX0_checkNode 2 none, Cond.classLink RX0 67 "java/lang/IndexOutOfBoundsException", Cond.initialized "java/lang/IndexOutOfBoundsException", Cond.fieldLink RX0 19 "Corebarn" "nodeCount" "I", Cond.methodLink RX0 77 yX0_checkLevel, Cond.static yX0_checkLevel, Cond.code yX0_checkLevel cX0_checkLevel 1 none, Cond.classLink RX0 130 "java/lang/IllegalArgumentException", Cond.initialized "java/lang/IllegalArgumentException", Cond.methodLink RX0 83 yX0_single, Cond.static yX0_single, Cond.code yX0_single cX0_single 1 (some .int), Cond.methodLink RX0 80 yX0_coreSet, Cond.instanceMethod yX0_coreSet, Cond.selects RX0 yX0_coreSet yX0_coreSet, Cond.code yX0_coreSet cX0_coreSet 4 (some .int), Cond.fieldLink RX0 13 "Corebarn" "cores" "[I", Cond.methodLink RX0 46 yX0_with, Cond.static yX0_with, Cond.code yX0_with cX0_with 2 (some .int)]
def wsX0_community_r2 : List Cond := [Cond.methodLink RX0 86 yX0_reach, Cond.instanceMethod yX0_reach, Cond.selects RX0 yX0_reach yX0_reach, Cond.code yX0_reach cX0_reach 7 (some .int), Cond.fieldLink RX0 9 "Corebarn" "neighbours" "[I", Cond.methodLink RX0 40 yX0_contains, Cond.static yX0_contains, Cond.code yX0_contains cX0_contains 2 (some .boolean), Cond.methodLink RX0 63 yX0_size, Cond.static yX0_size, Cond.code yX0_size cX0_size 1 (some .int), Cond.methodLink RX0 143 yJ6_bitCount_0f7a4, Cond.static yJ6_bitCount_0f7a4, Cond.initialized RJ6, Cond.code yJ6_bitCount_0f7a4 cJ6_bitCount_0f7a4 1 (some .int), Cond.constant RJ6 265 (1431655765), Cond.constant RJ6 266 (858993459), Cond.constant RJ6 267 (252645135)]
def wsX0_community : List Cond := .code yX0_community cX0_community 3 (some .int) :: ((wsX0_community_r1 ++ wsX0_community_r2) ++ wsX00 ++ (vx_atS RX0 71 "java/lang/IndexOutOfBoundsException" ["java/lang/RuntimeException", "java/lang/Exception"]).filter goodWord ++ (vx_atS RX0 134 "java/lang/IllegalArgumentException" ["java/lang/RuntimeException", "java/lang/Exception"]).filter goodWord)
def wsX0_countCommunities : List Cond := .code yX0_countCommunities cX0_countCommunities 6 (some .int) :: ([.fieldLink RX0 19 "Corebarn" "nodeCount" "I", .methodLink RX0 40 yX0_contains, .static yX0_contains, .initialized RX0, .code yX0_contains cX0_contains 2 (some .boolean), .methodLink RX0 83 yX0_single, .static yX0_single, .code yX0_single cX0_single 1 (some .int), .methodLink RX0 86 yX0_reach, .instanceMethod yX0_reach, .selects RX0 yX0_reach yX0_reach, .code yX0_reach cX0_reach 7 (some .int), .fieldLink RX0 9 "Corebarn" "neighbours" "[I"] ++ wsX00)
def wsX0_communities_r1 : List Cond := [Cond.methodLink RX0 77 yX0_checkLevel, Cond.static yX0_checkLevel, Cond.initialized RX0, Cond.code yX0_checkLevel cX0_checkLevel 1 none, Cond.classLink RX0 130 "java/lang/IllegalArgumentException", Cond.initialized "java/lang/IllegalArgumentException", Cond.methodLink RX0 80 yX0_coreSet, Cond.instanceMethod yX0_coreSet, Cond.selects RX0 yX0_coreSet yX0_coreSet, Cond.code yX0_coreSet cX0_coreSet 4 (some .int), Cond.fieldLink RX0 19 "Corebarn" "nodeCount" "I", Cond.fieldLink RX0 13 "Corebarn" "cores" "[I", Cond.methodLink RX0 46 yX0_with, Cond.static yX0_with, Cond.code yX0_with cX0_with 2 (some .int), Cond.methodLink RX0 83 yX0_single, Cond.static yX0_single, Cond.code yX0_single cX0_single 1 (some .int), Cond.methodLink RX0 89 yX0_countCommunities, Cond.instanceMethod yX0_countCommunities, Cond.selects RX0 yX0_countCommunities yX0_countCommunities, Cond.code yX0_countCommunities cX0_countCommunities 6 (some .int), Cond.methodLink RX0 40 yX0_contains, Cond.static yX0_contains]
def wsX0_communities_r2 : List Cond := [Cond.code yX0_contains cX0_contains 2 (some .boolean), Cond.methodLink RX0 86 yX0_reach, Cond.instanceMethod yX0_reach, Cond.selects RX0 yX0_reach yX0_reach, Cond.code yX0_reach cX0_reach 7 (some .int), Cond.fieldLink RX0 9 "Corebarn" "neighbours" "[I"]
def wsX0_communities : List Cond := .code yX0_communities cX0_communities 2 (some .int) :: ((wsX0_communities_r1 ++ wsX0_communities_r2) ++ wsX00 ++ (vx_atS RX0 134 "java/lang/IllegalArgumentException" ["java/lang/RuntimeException", "java/lang/Exception"]).filter goodWord)
def wsX0_together_r1 : List Cond := [Cond.classLink RX0 95 "java/util/NoSuchElementException", Cond.initialized "java/util/NoSuchElementException", Cond.fieldLink RX0 13 "Corebarn" "cores" "[I", Cond.methodLink RX0 92 Lib.Math.min.name, Cond.static Lib.Math.min.name, Cond.initialized "java/lang/Math", Cond.code Lib.Math.min.name Lib.Math.min.code 2 (some .int), Cond.methodLink RX0 59 yX0_checkNode, Cond.instanceMethod yX0_checkNode, Cond.selects RX0 yX0_checkNode yX0_checkNode, Cond.initialized RX0, Cond.code yX0_checkNode cX0_checkNode 2 none, Cond.classLink RX0 67 "java/lang/IndexOutOfBoundsException", Cond.initialized "java/lang/IndexOutOfBoundsException", Cond.fieldLink RX0 19 "Corebarn" "nodeCount" "I", Cond.methodLink RX0 83 yX0_single, Cond.static yX0_single, Cond.code yX0_single cX0_single 1 (some .int), Cond.methodLink RX0 80 yX0_coreSet, Cond.instanceMethod yX0_coreSet, Cond.selects RX0 yX0_coreSet yX0_coreSet, Cond.code yX0_coreSet cX0_coreSet 4 (some .int), Cond.methodLink RX0 46 yX0_with, Cond.static yX0_with]
def wsX0_together_r2 : List Cond := [Cond.code yX0_with cX0_with 2 (some .int), Cond.methodLink RX0 86 yX0_reach, Cond.instanceMethod yX0_reach, Cond.selects RX0 yX0_reach yX0_reach, Cond.code yX0_reach cX0_reach 7 (some .int), Cond.fieldLink RX0 9 "Corebarn" "neighbours" "[I", Cond.methodLink RX0 40 yX0_contains, Cond.static yX0_contains, Cond.code yX0_contains cX0_contains 2 (some .boolean)]
def wsX0_together : List Cond := .code yX0_together cX0_together 4 (some .int) :: ((wsX0_together_r1 ++ wsX0_together_r2) ++ wsX00 ++ zat99.filter goodWord ++ (vx_atS RX0 71 "java/lang/IndexOutOfBoundsException" ["java/lang/RuntimeException", "java/lang/Exception"]).filter goodWord)
def wsX0_hierarchy_r1 : List Cond := [Cond.methodLink RX0 100 yX0_degeneracy, Cond.instanceMethod yX0_degeneracy, Cond.selects RX0 yX0_degeneracy yX0_degeneracy, Cond.initialized RX0, Cond.code yX0_degeneracy cX0_degeneracy 3 (some .int), Cond.fieldLink RX0 19 "Corebarn" "nodeCount" "I", Cond.fieldLink RX0 13 "Corebarn" "cores" "[I", Cond.methodLink RX0 72 Lib.Math.max.name, Cond.static Lib.Math.max.name, Cond.initialized "java/lang/Math", Cond.code Lib.Math.max.name Lib.Math.max.code 2 (some .int), Cond.methodLink RX0 80 yX0_coreSet, Cond.instanceMethod yX0_coreSet, Cond.selects RX0 yX0_coreSet yX0_coreSet, Cond.code yX0_coreSet cX0_coreSet 4 (some .int), Cond.methodLink RX0 46 yX0_with, Cond.static yX0_with, Cond.code yX0_with cX0_with 2 (some .int), Cond.methodLink RX0 83 yX0_single, Cond.static yX0_single, Cond.code yX0_single cX0_single 1 (some .int), Cond.methodLink RX0 104 yX0_shellSet, Cond.instanceMethod yX0_shellSet, Cond.selects RX0 yX0_shellSet yX0_shellSet]
def wsX0_hierarchy_r2 : List Cond := [Cond.code yX0_shellSet cX0_shellSet 2 (some .int), Cond.methodLink RX0 89 yX0_countCommunities, Cond.instanceMethod yX0_countCommunities, Cond.selects RX0 yX0_countCommunities yX0_countCommunities, Cond.code yX0_countCommunities cX0_countCommunities 6 (some .int), Cond.methodLink RX0 40 yX0_contains, Cond.static yX0_contains, Cond.code yX0_contains cX0_contains 2 (some .boolean), Cond.methodLink RX0 86 yX0_reach, Cond.instanceMethod yX0_reach, Cond.selects RX0 yX0_reach yX0_reach, Cond.code yX0_reach cX0_reach 7 (some .int), Cond.fieldLink RX0 9 "Corebarn" "neighbours" "[I"]
def wsX0_hierarchy : List Cond := .code yX0_hierarchy cX0_hierarchy 4 (some .int) :: ((wsX0_hierarchy_r1 ++ wsX0_hierarchy_r2) ++ wsX00)
def wsX0_allNodes : List Cond := .code yX0_allNodes cX0_allNodes 1 (some .int) :: ([.fieldLink RX0 19 "Corebarn" "nodeCount" "I", .methodLink RX0 83 yX0_single, .static yX0_single, .initialized RX0, .code yX0_single cX0_single 1 (some .int)] ++ wsX00)
def wsX0_nextToPeel : List Cond := .code yX0_nextToPeel cX0_nextToPeel 5 (some .int) :: ([.fieldLink RX0 19 "Corebarn" "nodeCount" "I", .fieldLink RX0 9 "Corebarn" "neighbours" "[I", .methodLink RX0 40 yX0_contains, .static yX0_contains, .initialized RX0, .code yX0_contains cX0_contains 2 (some .boolean), .methodLink RX0 83 yX0_single, .static yX0_single, .code yX0_single cX0_single 1 (some .int), .methodLink RX0 63 yX0_size, .static yX0_size, .code yX0_size cX0_size 1 (some .int), .methodLink RX0 143 yJ6_bitCount_0f7a4, .static yJ6_bitCount_0f7a4, .initialized RJ6, .code yJ6_bitCount_0f7a4 cJ6_bitCount_0f7a4 1 (some .int), .constant RJ6 265 (1431655765), .constant RJ6 266 (858993459), .constant RJ6 267 (252645135)] ++ wsX00)
def wsX0_peeled_r1 : List Cond := [Cond.classLink RX0 67 "java/lang/IndexOutOfBoundsException", Cond.initialized "java/lang/IndexOutOfBoundsException", Cond.fieldLink RX0 19 "Corebarn" "nodeCount" "I", Cond.methodLink RX0 109 yX0_allNodes, Cond.instanceMethod yX0_allNodes, Cond.selects RX0 yX0_allNodes yX0_allNodes, Cond.initialized RX0, Cond.code yX0_allNodes cX0_allNodes 1 (some .int), Cond.methodLink RX0 83 yX0_single, Cond.static yX0_single, Cond.code yX0_single cX0_single 1 (some .int), Cond.methodLink RX0 112 yX0_nextToPeel, Cond.instanceMethod yX0_nextToPeel, Cond.selects RX0 yX0_nextToPeel yX0_nextToPeel, Cond.code yX0_nextToPeel cX0_nextToPeel 5 (some .int), Cond.fieldLink RX0 9 "Corebarn" "neighbours" "[I", Cond.methodLink RX0 40 yX0_contains, Cond.static yX0_contains, Cond.code yX0_contains cX0_contains 2 (some .boolean), Cond.methodLink RX0 63 yX0_size, Cond.static yX0_size, Cond.code yX0_size cX0_size 1 (some .int), Cond.methodLink RX0 143 yJ6_bitCount_0f7a4, Cond.static yJ6_bitCount_0f7a4]
def wsX0_peeled_r2 : List Cond := [Cond.initialized RJ6, Cond.code yJ6_bitCount_0f7a4 cJ6_bitCount_0f7a4 1 (some .int), Cond.constant RJ6 265 (1431655765), Cond.constant RJ6 266 (858993459), Cond.constant RJ6 267 (252645135), Cond.methodLink RX0 115 yX0_without, Cond.static yX0_without, Cond.code yX0_without cX0_without 2 (some .int)]
def wsX0_peeled : List Cond := .code yX0_peeled cX0_peeled 4 (some .int) :: ((wsX0_peeled_r1 ++ wsX0_peeled_r2) ++ wsX00 ++ (vx_atS RX0 71 "java/lang/IndexOutOfBoundsException" ["java/lang/RuntimeException", "java/lang/Exception"]).filter goodWord)
def wsX0_edgesWithin : List Cond := .code yX0_edgesWithin cX0_edgesWithin 4 (some .int) :: ([.fieldLink RX0 19 "Corebarn" "nodeCount" "I", .fieldLink RX0 9 "Corebarn" "neighbours" "[I", .methodLink RX0 40 yX0_contains, .static yX0_contains, .initialized RX0, .code yX0_contains cX0_contains 2 (some .boolean), .methodLink RX0 83 yX0_single, .static yX0_single, .code yX0_single cX0_single 1 (some .int), .methodLink RX0 63 yX0_size, .static yX0_size, .code yX0_size cX0_size 1 (some .int), .methodLink RX0 143 yJ6_bitCount_0f7a4, .static yJ6_bitCount_0f7a4, .initialized RJ6, .code yJ6_bitCount_0f7a4 cJ6_bitCount_0f7a4 1 (some .int), .constant RJ6 265 (1431655765), .constant RJ6 266 (858993459), .constant RJ6 267 (252645135)] ++ wsX00)
def wsX0_denseSet_r1 : List Cond := [Cond.fieldLink RX0 23 "Corebarn" "edgeCount" "I", Cond.fieldLink RX0 19 "Corebarn" "nodeCount" "I", Cond.methodLink RX0 109 yX0_allNodes, Cond.instanceMethod yX0_allNodes, Cond.selects RX0 yX0_allNodes yX0_allNodes, Cond.initialized RX0, Cond.code yX0_allNodes cX0_allNodes 1 (some .int), Cond.methodLink RX0 83 yX0_single, Cond.static yX0_single, Cond.code yX0_single cX0_single 1 (some .int), Cond.methodLink RX0 112 yX0_nextToPeel, Cond.instanceMethod yX0_nextToPeel, Cond.selects RX0 yX0_nextToPeel yX0_nextToPeel, Cond.code yX0_nextToPeel cX0_nextToPeel 5 (some .int), Cond.fieldLink RX0 9 "Corebarn" "neighbours" "[I", Cond.methodLink RX0 40 yX0_contains, Cond.static yX0_contains, Cond.code yX0_contains cX0_contains 2 (some .boolean), Cond.methodLink RX0 63 yX0_size, Cond.static yX0_size, Cond.code yX0_size cX0_size 1 (some .int), Cond.methodLink RX0 143 yJ6_bitCount_0f7a4, Cond.static yJ6_bitCount_0f7a4, Cond.initialized RJ6]
def wsX0_denseSet_r2 : List Cond := [Cond.code yJ6_bitCount_0f7a4 cJ6_bitCount_0f7a4 1 (some .int), Cond.constant RJ6 265 (1431655765), Cond.constant RJ6 266 (858993459), Cond.constant RJ6 267 (252645135), Cond.methodLink RX0 115 yX0_without, Cond.static yX0_without, Cond.code yX0_without cX0_without 2 (some .int), Cond.methodLink RX0 121 yX0_edgesWithin, Cond.instanceMethod yX0_edgesWithin, Cond.selects RX0 yX0_edgesWithin yX0_edgesWithin, Cond.code yX0_edgesWithin cX0_edgesWithin 4 (some .int)]
def wsX0_denseSet : List Cond := .code yX0_denseSet cX0_denseSet 6 (some .int) :: ((wsX0_denseSet_r1 ++ wsX0_denseSet_r2) ++ wsX00)
def wsX0_denseSize_r1 : List Cond := [Cond.methodLink RX0 118 yX0_denseSet, Cond.instanceMethod yX0_denseSet, Cond.selects RX0 yX0_denseSet yX0_denseSet, Cond.initialized RX0, Cond.code yX0_denseSet cX0_denseSet 6 (some .int), Cond.fieldLink RX0 23 "Corebarn" "edgeCount" "I", Cond.fieldLink RX0 19 "Corebarn" "nodeCount" "I", Cond.methodLink RX0 109 yX0_allNodes, Cond.instanceMethod yX0_allNodes, Cond.selects RX0 yX0_allNodes yX0_allNodes, Cond.code yX0_allNodes cX0_allNodes 1 (some .int), Cond.methodLink RX0 83 yX0_single, Cond.static yX0_single, Cond.code yX0_single cX0_single 1 (some .int), Cond.methodLink RX0 112 yX0_nextToPeel, Cond.instanceMethod yX0_nextToPeel, Cond.selects RX0 yX0_nextToPeel yX0_nextToPeel, Cond.code yX0_nextToPeel cX0_nextToPeel 5 (some .int), Cond.fieldLink RX0 9 "Corebarn" "neighbours" "[I", Cond.methodLink RX0 40 yX0_contains, Cond.static yX0_contains, Cond.code yX0_contains cX0_contains 2 (some .boolean), Cond.methodLink RX0 63 yX0_size, Cond.static yX0_size]
def wsX0_denseSize_r2 : List Cond := [Cond.code yX0_size cX0_size 1 (some .int), Cond.methodLink RX0 143 yJ6_bitCount_0f7a4, Cond.static yJ6_bitCount_0f7a4, Cond.initialized RJ6, Cond.code yJ6_bitCount_0f7a4 cJ6_bitCount_0f7a4 1 (some .int), Cond.constant RJ6 265 (1431655765), Cond.constant RJ6 266 (858993459), Cond.constant RJ6 267 (252645135), Cond.methodLink RX0 115 yX0_without, Cond.static yX0_without, Cond.code yX0_without cX0_without 2 (some .int), Cond.methodLink RX0 121 yX0_edgesWithin, Cond.instanceMethod yX0_edgesWithin, Cond.selects RX0 yX0_edgesWithin yX0_edgesWithin, Cond.code yX0_edgesWithin cX0_edgesWithin 4 (some .int)]
def wsX0_denseSize : List Cond := .code yX0_denseSize cX0_denseSize 1 (some .int) :: ((wsX0_denseSize_r1 ++ wsX0_denseSize_r2) ++ wsX00)
def wsX0_isDense_r1 : List Cond := [Cond.methodLink RX0 59 yX0_checkNode, Cond.instanceMethod yX0_checkNode, Cond.selects RX0 yX0_checkNode yX0_checkNode, Cond.initialized RX0, Cond.code yX0_checkNode cX0_checkNode 2 none, Cond.classLink RX0 67 "java/lang/IndexOutOfBoundsException", Cond.initialized "java/lang/IndexOutOfBoundsException", Cond.fieldLink RX0 19 "Corebarn" "nodeCount" "I", Cond.methodLink RX0 118 yX0_denseSet, Cond.instanceMethod yX0_denseSet, Cond.selects RX0 yX0_denseSet yX0_denseSet, Cond.code yX0_denseSet cX0_denseSet 6 (some .int), Cond.fieldLink RX0 23 "Corebarn" "edgeCount" "I", Cond.methodLink RX0 109 yX0_allNodes, Cond.instanceMethod yX0_allNodes, Cond.selects RX0 yX0_allNodes yX0_allNodes, Cond.code yX0_allNodes cX0_allNodes 1 (some .int), Cond.methodLink RX0 83 yX0_single, Cond.static yX0_single, Cond.code yX0_single cX0_single 1 (some .int), Cond.methodLink RX0 112 yX0_nextToPeel, Cond.instanceMethod yX0_nextToPeel, Cond.selects RX0 yX0_nextToPeel yX0_nextToPeel, Cond.code yX0_nextToPeel cX0_nextToPeel 5 (some .int)]
def wsX0_isDense_r2 : List Cond := [Cond.fieldLink RX0 9 "Corebarn" "neighbours" "[I", Cond.methodLink RX0 40 yX0_contains, Cond.static yX0_contains, Cond.code yX0_contains cX0_contains 2 (some .boolean), Cond.methodLink RX0 63 yX0_size, Cond.static yX0_size, Cond.code yX0_size cX0_size 1 (some .int), Cond.methodLink RX0 143 yJ6_bitCount_0f7a4, Cond.static yJ6_bitCount_0f7a4, Cond.initialized RJ6, Cond.code yJ6_bitCount_0f7a4 cJ6_bitCount_0f7a4 1 (some .int), Cond.constant RJ6 265 (1431655765), Cond.constant RJ6 266 (858993459), Cond.constant RJ6 267 (252645135), Cond.methodLink RX0 115 yX0_without, Cond.static yX0_without, Cond.code yX0_without cX0_without 2 (some .int), Cond.methodLink RX0 121 yX0_edgesWithin, Cond.instanceMethod yX0_edgesWithin, Cond.selects RX0 yX0_edgesWithin yX0_edgesWithin, Cond.code yX0_edgesWithin cX0_edgesWithin 4 (some .int)]
def wsX0_isDense : List Cond := .code yX0_isDense cX0_isDense 2 (some .boolean) :: ((wsX0_isDense_r1 ++ wsX0_isDense_r2) ++ wsX00 ++ (vx_atS RX0 71 "java/lang/IndexOutOfBoundsException" ["java/lang/RuntimeException", "java/lang/Exception"]).filter goodWord)
def wsX0_density_r1 : List Cond := [Cond.methodLink RX0 118 yX0_denseSet, Cond.instanceMethod yX0_denseSet, Cond.selects RX0 yX0_denseSet yX0_denseSet, Cond.initialized RX0, Cond.code yX0_denseSet cX0_denseSet 6 (some .int), Cond.fieldLink RX0 23 "Corebarn" "edgeCount" "I", Cond.fieldLink RX0 19 "Corebarn" "nodeCount" "I", Cond.methodLink RX0 109 yX0_allNodes, Cond.instanceMethod yX0_allNodes, Cond.selects RX0 yX0_allNodes yX0_allNodes, Cond.code yX0_allNodes cX0_allNodes 1 (some .int), Cond.methodLink RX0 83 yX0_single, Cond.static yX0_single, Cond.code yX0_single cX0_single 1 (some .int), Cond.methodLink RX0 112 yX0_nextToPeel, Cond.instanceMethod yX0_nextToPeel, Cond.selects RX0 yX0_nextToPeel yX0_nextToPeel, Cond.code yX0_nextToPeel cX0_nextToPeel 5 (some .int), Cond.fieldLink RX0 9 "Corebarn" "neighbours" "[I", Cond.methodLink RX0 40 yX0_contains, Cond.static yX0_contains, Cond.code yX0_contains cX0_contains 2 (some .boolean), Cond.methodLink RX0 63 yX0_size, Cond.static yX0_size]
def wsX0_density_r2 : List Cond := [Cond.code yX0_size cX0_size 1 (some .int), Cond.methodLink RX0 143 yJ6_bitCount_0f7a4, Cond.static yJ6_bitCount_0f7a4, Cond.initialized RJ6, Cond.code yJ6_bitCount_0f7a4 cJ6_bitCount_0f7a4 1 (some .int), Cond.constant RJ6 265 (1431655765), Cond.constant RJ6 266 (858993459), Cond.constant RJ6 267 (252645135), Cond.methodLink RX0 115 yX0_without, Cond.static yX0_without, Cond.code yX0_without cX0_without 2 (some .int), Cond.methodLink RX0 121 yX0_edgesWithin, Cond.instanceMethod yX0_edgesWithin, Cond.selects RX0 yX0_edgesWithin yX0_edgesWithin, Cond.code yX0_edgesWithin cX0_edgesWithin 4 (some .int)]
def wsX0_density : List Cond := .code yX0_density cX0_density 2 (some .double) :: ((wsX0_density_r1 ++ wsX0_density_r2) ++ wsX00)
def wsX0_support_r1 : List Cond := [Cond.fieldLink RX0 9 "Corebarn" "neighbours" "[I", Cond.methodLink RX0 59 yX0_checkNode, Cond.instanceMethod yX0_checkNode, Cond.selects RX0 yX0_checkNode yX0_checkNode, Cond.initialized RX0, Cond.code yX0_checkNode cX0_checkNode 2 none, Cond.classLink RX0 67 "java/lang/IndexOutOfBoundsException", Cond.initialized "java/lang/IndexOutOfBoundsException", Cond.fieldLink RX0 19 "Corebarn" "nodeCount" "I", Cond.methodLink RX0 53 yX0_checkEdge, Cond.instanceMethod yX0_checkEdge, Cond.selects RX0 yX0_checkEdge yX0_checkEdge, Cond.code yX0_checkEdge cX0_checkEdge 3 none, Cond.classLink RX0 95 "java/util/NoSuchElementException", Cond.initialized "java/util/NoSuchElementException", Cond.methodLink RX0 40 yX0_contains, Cond.static yX0_contains, Cond.code yX0_contains cX0_contains 2 (some .boolean), Cond.methodLink RX0 83 yX0_single, Cond.static yX0_single, Cond.code yX0_single cX0_single 1 (some .int), Cond.methodLink RX0 63 yX0_size, Cond.static yX0_size, Cond.code yX0_size cX0_size 1 (some .int)]
def wsX0_support_r2 : List Cond := [Cond.methodLink RX0 143 yJ6_bitCount_0f7a4, Cond.static yJ6_bitCount_0f7a4, Cond.initialized RJ6, Cond.code yJ6_bitCount_0f7a4 cJ6_bitCount_0f7a4 1 (some .int), Cond.constant RJ6 265 (1431655765), Cond.constant RJ6 266 (858993459), Cond.constant RJ6 267 (252645135)]
def wsX0_support : List Cond := .code yX0_support cX0_support 3 (some .int) :: ((wsX0_support_r1 ++ wsX0_support_r2) ++ wsX00 ++ (vx_atS RX0 71 "java/lang/IndexOutOfBoundsException" ["java/lang/RuntimeException", "java/lang/Exception"]).filter goodWord ++ zat99.filter goodWord)
def wsX0_triangles : List Cond := .code yX0_triangles cX0_triangles 4 (some .int) :: ([.fieldLink RX0 19 "Corebarn" "nodeCount" "I", .fieldLink RX0 9 "Corebarn" "neighbours" "[I", .methodLink RX0 40 yX0_contains, .static yX0_contains, .initialized RX0, .code yX0_contains cX0_contains 2 (some .boolean), .methodLink RX0 83 yX0_single, .static yX0_single, .code yX0_single cX0_single 1 (some .int), .methodLink RX0 63 yX0_size, .static yX0_size, .code yX0_size cX0_size 1 (some .int), .methodLink RX0 143 yJ6_bitCount_0f7a4, .static yJ6_bitCount_0f7a4, .initialized RJ6, .code yJ6_bitCount_0f7a4 cJ6_bitCount_0f7a4 1 (some .int), .constant RJ6 265 (1431655765), .constant RJ6 266 (858993459), .constant RJ6 267 (252645135)] ++ wsX00)
def wsX0_startTrusses : List Cond := .code yX0_startTrusses cX0_startTrusses 2 none :: ([.fieldLink RX0 19 "Corebarn" "nodeCount" "I", .fieldLink RX0 16 "Corebarn" "trussNeighbours" "[I", .fieldLink RX0 9 "Corebarn" "neighbours" "[I"] ++ wsX00)
def wsX0_dropWeakEdges : List Cond := .code yX0_dropWeakEdges cX0_dropWeakEdges 5 (some .boolean) :: ([.fieldLink RX0 19 "Corebarn" "nodeCount" "I", .fieldLink RX0 16 "Corebarn" "trussNeighbours" "[I", .methodLink RX0 40 yX0_contains, .static yX0_contains, .initialized RX0, .code yX0_contains cX0_contains 2 (some .boolean), .methodLink RX0 83 yX0_single, .static yX0_single, .code yX0_single cX0_single 1 (some .int), .methodLink RX0 63 yX0_size, .static yX0_size, .code yX0_size cX0_size 1 (some .int), .methodLink RX0 143 yJ6_bitCount_0f7a4, .static yJ6_bitCount_0f7a4, .initialized RJ6, .code yJ6_bitCount_0f7a4 cJ6_bitCount_0f7a4 1 (some .int), .constant RJ6 265 (1431655765), .constant RJ6 266 (858993459), .constant RJ6 267 (252645135), .methodLink RX0 115 yX0_without, .static yX0_without, .code yX0_without cX0_without 2 (some .int)] ++ wsX00)
def wsX0_shrinkToTruss_r1 : List Cond := [Cond.methodLink RX0 158 yX0_dropWeakEdges, Cond.instanceMethod yX0_dropWeakEdges, Cond.selects RX0 yX0_dropWeakEdges yX0_dropWeakEdges, Cond.initialized RX0, Cond.code yX0_dropWeakEdges cX0_dropWeakEdges 5 (some .boolean), Cond.fieldLink RX0 19 "Corebarn" "nodeCount" "I", Cond.fieldLink RX0 16 "Corebarn" "trussNeighbours" "[I", Cond.methodLink RX0 40 yX0_contains, Cond.static yX0_contains, Cond.code yX0_contains cX0_contains 2 (some .boolean), Cond.methodLink RX0 83 yX0_single, Cond.static yX0_single, Cond.code yX0_single cX0_single 1 (some .int), Cond.methodLink RX0 63 yX0_size, Cond.static yX0_size, Cond.code yX0_size cX0_size 1 (some .int), Cond.methodLink RX0 143 yJ6_bitCount_0f7a4, Cond.static yJ6_bitCount_0f7a4, Cond.initialized RJ6, Cond.code yJ6_bitCount_0f7a4 cJ6_bitCount_0f7a4 1 (some .int), Cond.constant RJ6 265 (1431655765), Cond.constant RJ6 266 (858993459), Cond.constant RJ6 267 (252645135), Cond.methodLink RX0 115 yX0_without]
def wsX0_shrinkToTruss_r2 : List Cond := [Cond.static yX0_without, Cond.code yX0_without cX0_without 2 (some .int)]
def wsX0_shrinkToTruss : List Cond := .code yX0_shrinkToTruss cX0_shrinkToTruss 4 none :: ((wsX0_shrinkToTruss_r1 ++ wsX0_shrinkToTruss_r2) ++ wsX00)
def wsX0_truss_r1 : List Cond := [Cond.fieldLink RX0 16 "Corebarn" "trussNeighbours" "[I", Cond.methodLink RX0 59 yX0_checkNode, Cond.instanceMethod yX0_checkNode, Cond.selects RX0 yX0_checkNode yX0_checkNode, Cond.initialized RX0, Cond.code yX0_checkNode cX0_checkNode 2 none, Cond.classLink RX0 67 "java/lang/IndexOutOfBoundsException", Cond.initialized "java/lang/IndexOutOfBoundsException", Cond.fieldLink RX0 19 "Corebarn" "nodeCount" "I", Cond.methodLink RX0 53 yX0_checkEdge, Cond.instanceMethod yX0_checkEdge, Cond.selects RX0 yX0_checkEdge yX0_checkEdge, Cond.code yX0_checkEdge cX0_checkEdge 3 none, Cond.classLink RX0 95 "java/util/NoSuchElementException", Cond.initialized "java/util/NoSuchElementException", Cond.fieldLink RX0 9 "Corebarn" "neighbours" "[I", Cond.methodLink RX0 40 yX0_contains, Cond.static yX0_contains, Cond.code yX0_contains cX0_contains 2 (some .boolean), Cond.methodLink RX0 83 yX0_single, Cond.static yX0_single, Cond.code yX0_single cX0_single 1 (some .int), Cond.methodLink RX0 124 yX0_startTrusses, Cond.instanceMethod yX0_startTrusses]
def wsX0_truss_r2 : List Cond := [Cond.selects RX0 yX0_startTrusses yX0_startTrusses, Cond.code yX0_startTrusses cX0_startTrusses 2 none, Cond.methodLink RX0 127 yX0_shrinkToTruss, Cond.instanceMethod yX0_shrinkToTruss, Cond.selects RX0 yX0_shrinkToTruss yX0_shrinkToTruss, Cond.code yX0_shrinkToTruss cX0_shrinkToTruss 4 none, Cond.methodLink RX0 158 yX0_dropWeakEdges, Cond.instanceMethod yX0_dropWeakEdges, Cond.selects RX0 yX0_dropWeakEdges yX0_dropWeakEdges, Cond.code yX0_dropWeakEdges cX0_dropWeakEdges 5 (some .boolean), Cond.methodLink RX0 63 yX0_size, Cond.static yX0_size, Cond.code yX0_size cX0_size 1 (some .int), Cond.methodLink RX0 143 yJ6_bitCount_0f7a4, Cond.static yJ6_bitCount_0f7a4, Cond.initialized RJ6, Cond.code yJ6_bitCount_0f7a4 cJ6_bitCount_0f7a4 1 (some .int), Cond.constant RJ6 265 (1431655765), Cond.constant RJ6 266 (858993459), Cond.constant RJ6 267 (252645135), Cond.methodLink RX0 115 yX0_without, Cond.static yX0_without, Cond.code yX0_without cX0_without 2 (some .int)]
def wsX0_truss : List Cond := .code yX0_truss cX0_truss 5 (some .int) :: ((wsX0_truss_r1 ++ wsX0_truss_r2) ++ wsX00 ++ (vx_atS RX0 71 "java/lang/IndexOutOfBoundsException" ["java/lang/RuntimeException", "java/lang/Exception"]).filter goodWord ++ zat99.filter goodWord)
def wsX0_trussSize_r1 : List Cond := [Cond.classLink RX0 130 "java/lang/IllegalArgumentException", Cond.initialized "java/lang/IllegalArgumentException", Cond.fieldLink RX0 19 "Corebarn" "nodeCount" "I", Cond.fieldLink RX0 16 "Corebarn" "trussNeighbours" "[I", Cond.methodLink RX0 124 yX0_startTrusses, Cond.instanceMethod yX0_startTrusses, Cond.selects RX0 yX0_startTrusses yX0_startTrusses, Cond.initialized RX0, Cond.code yX0_startTrusses cX0_startTrusses 2 none, Cond.fieldLink RX0 9 "Corebarn" "neighbours" "[I", Cond.methodLink RX0 127 yX0_shrinkToTruss, Cond.instanceMethod yX0_shrinkToTruss, Cond.selects RX0 yX0_shrinkToTruss yX0_shrinkToTruss, Cond.code yX0_shrinkToTruss cX0_shrinkToTruss 4 none, Cond.methodLink RX0 158 yX0_dropWeakEdges, Cond.instanceMethod yX0_dropWeakEdges, Cond.selects RX0 yX0_dropWeakEdges yX0_dropWeakEdges, Cond.code yX0_dropWeakEdges cX0_dropWeakEdges 5 (some .boolean), Cond.methodLink RX0 40 yX0_contains, Cond.static yX0_contains, Cond.code yX0_contains cX0_contains 2 (some .boolean), Cond.methodLink RX0 83 yX0_single, Cond.static yX0_single, Cond.code yX0_single cX0_single 1 (some .int)]
def wsX0_trussSize_r2 : List Cond := [Cond.methodLink RX0 63 yX0_size, Cond.static yX0_size, Cond.code yX0_size cX0_size 1 (some .int), Cond.methodLink RX0 143 yJ6_bitCount_0f7a4, Cond.static yJ6_bitCount_0f7a4, Cond.initialized RJ6, Cond.code yJ6_bitCount_0f7a4 cJ6_bitCount_0f7a4 1 (some .int), Cond.constant RJ6 265 (1431655765), Cond.constant RJ6 266 (858993459), Cond.constant RJ6 267 (252645135), Cond.methodLink RX0 115 yX0_without, Cond.static yX0_without, Cond.code yX0_without cX0_without 2 (some .int)]
def wsX0_trussSize : List Cond := .code yX0_trussSize cX0_trussSize 4 (some .int) :: ((wsX0_trussSize_r1 ++ wsX0_trussSize_r2) ++ wsX00 ++ (vx_atS RX0 134 "java/lang/IllegalArgumentException" ["java/lang/RuntimeException", "java/lang/Exception"]).filter goodWord)
def wsJ9_max_7cf53 : List Cond := .code yJ9_max_7cf53 cJ9_max_7cf53 2 (some .int) :: ([])
def wsJ9_min_7cf53 : List Cond := .code yJ9_min_7cf53 cJ9_min_7cf53 2 (some .int) :: ([])
def wsL_cell : List Cond := .code yL_cell cL_cell 2 (some .int) :: ([])
def wsL_low : List Cond := .code yL_low cL_low 2 (some .int) :: ([.constant RL 7 (2147483647)])
def wsL_addNode : List Cond := .codeWith yL_addNode cL_addNode 2 (some .int) [(0, 4, 5, 14)] :: ([.classLink RL 14 "java/lang/IllegalStateException", .constant RL 16 (-99999), .methodLink RL 8 yX0_addNode, .instanceMethod yX0_addNode, .selects RX0 yX0_addNode yX0_addNode, .initialized RX0, .code yX0_addNode cX0_addNode 2 (some .int), .classLink RX0 29 "java/lang/IllegalStateException", .initialized "java/lang/IllegalStateException", .fieldLink RX0 19 "Corebarn" "nodeCount" "I"] ++ wsX00 ++ (vx_atS RX0 33 "java/lang/IllegalStateException" ["java/lang/RuntimeException", "java/lang/Exception"]).filter goodWord)
def wsL_join_r1 : List Cond := [Cond.classLink RL 21 "java/lang/IndexOutOfBoundsException", Cond.classLink RL 23 "java/lang/IllegalArgumentException", Cond.classLink RL 14 "java/lang/IllegalStateException", Cond.constant RL 16 (-99999), Cond.methodLink RL 17 yX0_join, Cond.instanceMethod yX0_join, Cond.selects RX0 yX0_join yX0_join, Cond.initialized RX0, Cond.code yX0_join cX0_join 3 (some .int), Cond.classLink RX0 29 "java/lang/IllegalStateException", Cond.initialized "java/lang/IllegalStateException", Cond.fieldLink RX0 9 "Corebarn" "neighbours" "[I", Cond.fieldLink RX0 23 "Corebarn" "edgeCount" "I", Cond.methodLink RX0 36 yX0_checkPair, Cond.instanceMethod yX0_checkPair, Cond.selects RX0 yX0_checkPair yX0_checkPair, Cond.code yX0_checkPair cX0_checkPair 3 none, Cond.classLink RX0 130 "java/lang/IllegalArgumentException", Cond.initialized "java/lang/IllegalArgumentException", Cond.methodLink RX0 59 yX0_checkNode, Cond.instanceMethod yX0_checkNode, Cond.selects RX0 yX0_checkNode yX0_checkNode, Cond.code yX0_checkNode cX0_checkNode 2 none, Cond.classLink RX0 67 "java/lang/IndexOutOfBoundsException"]
def wsL_join_r2 : List Cond := [Cond.initialized "java/lang/IndexOutOfBoundsException", Cond.fieldLink RX0 19 "Corebarn" "nodeCount" "I", Cond.methodLink RX0 40 yX0_contains, Cond.static yX0_contains, Cond.code yX0_contains cX0_contains 2 (some .boolean), Cond.methodLink RX0 83 yX0_single, Cond.static yX0_single, Cond.code yX0_single cX0_single 1 (some .int), Cond.methodLink RX0 46 yX0_with, Cond.static yX0_with, Cond.code yX0_with cX0_with 2 (some .int), Cond.methodLink RX0 50 yX0_raiseCores, Cond.instanceMethod yX0_raiseCores, Cond.selects RX0 yX0_raiseCores yX0_raiseCores, Cond.code yX0_raiseCores cX0_raiseCores 5 (some .int), Cond.fieldLink RX0 13 "Corebarn" "cores" "[I", Cond.methodLink RX0 92 Lib.Math.min.name, Cond.static Lib.Math.min.name, Cond.initialized "java/lang/Math", Cond.code Lib.Math.min.name Lib.Math.min.code 2 (some .int), Cond.methodLink RX0 148 yX0_nearShell, Cond.instanceMethod yX0_nearShell, Cond.selects RX0 yX0_nearShell yX0_nearShell, Cond.code yX0_nearShell cX0_nearShell 4 (some .int)]
def wsL_join_r3 : List Cond := [Cond.methodLink RX0 104 yX0_shellSet, Cond.instanceMethod yX0_shellSet, Cond.selects RX0 yX0_shellSet yX0_shellSet, Cond.code yX0_shellSet cX0_shellSet 2 (some .int), Cond.methodLink RX0 80 yX0_coreSet, Cond.instanceMethod yX0_coreSet, Cond.selects RX0 yX0_coreSet yX0_coreSet, Cond.code yX0_coreSet cX0_coreSet 4 (some .int), Cond.methodLink RX0 86 yX0_reach, Cond.instanceMethod yX0_reach, Cond.selects RX0 yX0_reach yX0_reach, Cond.code yX0_reach cX0_reach 7 (some .int), Cond.methodLink RX0 152 yX0_supportedPart, Cond.instanceMethod yX0_supportedPart, Cond.selects RX0 yX0_supportedPart yX0_supportedPart, Cond.code yX0_supportedPart cX0_supportedPart 8 (some .int), Cond.methodLink RX0 63 yX0_size, Cond.static yX0_size, Cond.code yX0_size cX0_size 1 (some .int), Cond.methodLink RX0 143 yJ6_bitCount_0f7a4, Cond.static yJ6_bitCount_0f7a4, Cond.initialized RJ6, Cond.code yJ6_bitCount_0f7a4 cJ6_bitCount_0f7a4 1 (some .int), Cond.constant RJ6 265 (1431655765)]
def wsL_join_r4 : List Cond := [Cond.constant RJ6 266 (858993459), Cond.constant RJ6 267 (252645135), Cond.methodLink RX0 115 yX0_without, Cond.static yX0_without, Cond.code yX0_without cX0_without 2 (some .int), Cond.methodLink RX0 155 yX0_changeCores, Cond.instanceMethod yX0_changeCores, Cond.selects RX0 yX0_changeCores yX0_changeCores, Cond.code yX0_changeCores cX0_changeCores 4 (some .int), Cond.fieldLink RX0 26 "Corebarn" "coreChanges" "I"]
def wsL_join : List Cond := .codeWith yL_join cL_join 4 (some .int) [(0, 6, 7, 21), (0, 6, 11, 23), (0, 6, 15, 14)] :: ((wsL_join_r1 ++ (wsL_join_r2 ++ (wsL_join_r3 ++ wsL_join_r4))) ++ wsX00 ++ (vx_atS RX0 33 "java/lang/IllegalStateException" ["java/lang/RuntimeException", "java/lang/Exception"]).filter goodWord ++ (vx_atS RX0 134 "java/lang/IllegalArgumentException" ["java/lang/RuntimeException", "java/lang/Exception"]).filter goodWord ++ (vx_atS RX0 71 "java/lang/IndexOutOfBoundsException" ["java/lang/RuntimeException", "java/lang/Exception"]).filter goodWord)
def wsL_part_r1 : List Cond := [Cond.classLink RL 21 "java/lang/IndexOutOfBoundsException", Cond.classLink RL 23 "java/lang/IllegalArgumentException", Cond.classLink RL 28 "java/util/NoSuchElementException", Cond.constant RL 16 (-99999), Cond.methodLink RL 25 yX0_part, Cond.instanceMethod yX0_part, Cond.selects RX0 yX0_part yX0_part, Cond.initialized RX0, Cond.code yX0_part cX0_part 3 (some .int), Cond.methodLink RX0 36 yX0_checkPair, Cond.instanceMethod yX0_checkPair, Cond.selects RX0 yX0_checkPair yX0_checkPair, Cond.code yX0_checkPair cX0_checkPair 3 none, Cond.classLink RX0 130 "java/lang/IllegalArgumentException", Cond.initialized "java/lang/IllegalArgumentException", Cond.methodLink RX0 59 yX0_checkNode, Cond.instanceMethod yX0_checkNode, Cond.selects RX0 yX0_checkNode yX0_checkNode, Cond.code yX0_checkNode cX0_checkNode 2 none, Cond.classLink RX0 67 "java/lang/IndexOutOfBoundsException", Cond.initialized "java/lang/IndexOutOfBoundsException", Cond.fieldLink RX0 19 "Corebarn" "nodeCount" "I", Cond.methodLink RX0 53 yX0_checkEdge, Cond.instanceMethod yX0_checkEdge]
def wsL_part_r2 : List Cond := [Cond.selects RX0 yX0_checkEdge yX0_checkEdge, Cond.code yX0_checkEdge cX0_checkEdge 3 none, Cond.classLink RX0 95 "java/util/NoSuchElementException", Cond.initialized "java/util/NoSuchElementException", Cond.fieldLink RX0 9 "Corebarn" "neighbours" "[I", Cond.methodLink RX0 40 yX0_contains, Cond.static yX0_contains, Cond.code yX0_contains cX0_contains 2 (some .boolean), Cond.methodLink RX0 83 yX0_single, Cond.static yX0_single, Cond.code yX0_single cX0_single 1 (some .int), Cond.methodLink RX0 56 yX0_cutEdge, Cond.instanceMethod yX0_cutEdge, Cond.selects RX0 yX0_cutEdge yX0_cutEdge, Cond.code yX0_cutEdge cX0_cutEdge 5 (some .int), Cond.fieldLink RX0 13 "Corebarn" "cores" "[I", Cond.methodLink RX0 92 Lib.Math.min.name, Cond.static Lib.Math.min.name, Cond.initialized "java/lang/Math", Cond.code Lib.Math.min.name Lib.Math.min.code 2 (some .int), Cond.fieldLink RX0 23 "Corebarn" "edgeCount" "I", Cond.methodLink RX0 115 yX0_without, Cond.static yX0_without, Cond.code yX0_without cX0_without 2 (some .int)]
def wsL_part_r3 : List Cond := [Cond.methodLink RX0 148 yX0_nearShell, Cond.instanceMethod yX0_nearShell, Cond.selects RX0 yX0_nearShell yX0_nearShell, Cond.code yX0_nearShell cX0_nearShell 4 (some .int), Cond.methodLink RX0 46 yX0_with, Cond.static yX0_with, Cond.code yX0_with cX0_with 2 (some .int), Cond.methodLink RX0 104 yX0_shellSet, Cond.instanceMethod yX0_shellSet, Cond.selects RX0 yX0_shellSet yX0_shellSet, Cond.code yX0_shellSet cX0_shellSet 2 (some .int), Cond.methodLink RX0 80 yX0_coreSet, Cond.instanceMethod yX0_coreSet, Cond.selects RX0 yX0_coreSet yX0_coreSet, Cond.code yX0_coreSet cX0_coreSet 4 (some .int), Cond.methodLink RX0 86 yX0_reach, Cond.instanceMethod yX0_reach, Cond.selects RX0 yX0_reach yX0_reach, Cond.code yX0_reach cX0_reach 7 (some .int), Cond.methodLink RX0 152 yX0_supportedPart, Cond.instanceMethod yX0_supportedPart, Cond.selects RX0 yX0_supportedPart yX0_supportedPart, Cond.code yX0_supportedPart cX0_supportedPart 8 (some .int), Cond.methodLink RX0 63 yX0_size]
def wsL_part_r4 : List Cond := [Cond.static yX0_size, Cond.code yX0_size cX0_size 1 (some .int), Cond.methodLink RX0 143 yJ6_bitCount_0f7a4, Cond.static yJ6_bitCount_0f7a4, Cond.initialized RJ6, Cond.code yJ6_bitCount_0f7a4 cJ6_bitCount_0f7a4 1 (some .int), Cond.constant RJ6 265 (1431655765), Cond.constant RJ6 266 (858993459), Cond.constant RJ6 267 (252645135), Cond.methodLink RX0 155 yX0_changeCores, Cond.instanceMethod yX0_changeCores, Cond.selects RX0 yX0_changeCores yX0_changeCores, Cond.code yX0_changeCores cX0_changeCores 4 (some .int), Cond.fieldLink RX0 26 "Corebarn" "coreChanges" "I"]
def wsL_part : List Cond := .codeWith yL_part cL_part 4 (some .int) [(0, 6, 7, 21), (0, 6, 11, 23), (0, 6, 15, 28)] :: ((wsL_part_r1 ++ (wsL_part_r2 ++ (wsL_part_r3 ++ wsL_part_r4))) ++ wsX00 ++ (vx_atS RX0 134 "java/lang/IllegalArgumentException" ["java/lang/RuntimeException", "java/lang/Exception"]).filter goodWord ++ (vx_atS RX0 71 "java/lang/IndexOutOfBoundsException" ["java/lang/RuntimeException", "java/lang/Exception"]).filter goodWord ++ zat99.filter goodWord)
def wsL_isolate_r1 : List Cond := [Cond.classLink RL 21 "java/lang/IndexOutOfBoundsException", Cond.constant RL 16 (-99999), Cond.methodLink RL 30 yX0_isolate, Cond.instanceMethod yX0_isolate, Cond.selects RX0 yX0_isolate yX0_isolate, Cond.initialized RX0, Cond.code yX0_isolate cX0_isolate 4 (some .int), Cond.fieldLink RX0 19 "Corebarn" "nodeCount" "I", Cond.fieldLink RX0 9 "Corebarn" "neighbours" "[I", Cond.methodLink RX0 59 yX0_checkNode, Cond.instanceMethod yX0_checkNode, Cond.selects RX0 yX0_checkNode yX0_checkNode, Cond.code yX0_checkNode cX0_checkNode 2 none, Cond.classLink RX0 67 "java/lang/IndexOutOfBoundsException", Cond.initialized "java/lang/IndexOutOfBoundsException", Cond.methodLink RX0 40 yX0_contains, Cond.static yX0_contains, Cond.code yX0_contains cX0_contains 2 (some .boolean), Cond.methodLink RX0 83 yX0_single, Cond.static yX0_single, Cond.code yX0_single cX0_single 1 (some .int), Cond.methodLink RX0 56 yX0_cutEdge, Cond.instanceMethod yX0_cutEdge, Cond.selects RX0 yX0_cutEdge yX0_cutEdge]
def wsL_isolate_r2 : List Cond := [Cond.code yX0_cutEdge cX0_cutEdge 5 (some .int), Cond.fieldLink RX0 13 "Corebarn" "cores" "[I", Cond.methodLink RX0 92 Lib.Math.min.name, Cond.static Lib.Math.min.name, Cond.initialized "java/lang/Math", Cond.code Lib.Math.min.name Lib.Math.min.code 2 (some .int), Cond.fieldLink RX0 23 "Corebarn" "edgeCount" "I", Cond.methodLink RX0 115 yX0_without, Cond.static yX0_without, Cond.code yX0_without cX0_without 2 (some .int), Cond.methodLink RX0 148 yX0_nearShell, Cond.instanceMethod yX0_nearShell, Cond.selects RX0 yX0_nearShell yX0_nearShell, Cond.code yX0_nearShell cX0_nearShell 4 (some .int), Cond.methodLink RX0 46 yX0_with, Cond.static yX0_with, Cond.code yX0_with cX0_with 2 (some .int), Cond.methodLink RX0 104 yX0_shellSet, Cond.instanceMethod yX0_shellSet, Cond.selects RX0 yX0_shellSet yX0_shellSet, Cond.code yX0_shellSet cX0_shellSet 2 (some .int), Cond.methodLink RX0 80 yX0_coreSet, Cond.instanceMethod yX0_coreSet, Cond.selects RX0 yX0_coreSet yX0_coreSet]
def wsL_isolate_r3 : List Cond := [Cond.code yX0_coreSet cX0_coreSet 4 (some .int), Cond.methodLink RX0 86 yX0_reach, Cond.instanceMethod yX0_reach, Cond.selects RX0 yX0_reach yX0_reach, Cond.code yX0_reach cX0_reach 7 (some .int), Cond.methodLink RX0 152 yX0_supportedPart, Cond.instanceMethod yX0_supportedPart, Cond.selects RX0 yX0_supportedPart yX0_supportedPart, Cond.code yX0_supportedPart cX0_supportedPart 8 (some .int), Cond.methodLink RX0 63 yX0_size, Cond.static yX0_size, Cond.code yX0_size cX0_size 1 (some .int), Cond.methodLink RX0 143 yJ6_bitCount_0f7a4, Cond.static yJ6_bitCount_0f7a4, Cond.initialized RJ6, Cond.code yJ6_bitCount_0f7a4 cJ6_bitCount_0f7a4 1 (some .int), Cond.constant RJ6 265 (1431655765), Cond.constant RJ6 266 (858993459), Cond.constant RJ6 267 (252645135), Cond.methodLink RX0 155 yX0_changeCores, Cond.instanceMethod yX0_changeCores, Cond.selects RX0 yX0_changeCores yX0_changeCores, Cond.code yX0_changeCores cX0_changeCores 4 (some .int), Cond.fieldLink RX0 26 "Corebarn" "coreChanges" "I"]
def wsL_isolate : List Cond := .codeWith yL_isolate cL_isolate 3 (some .int) [(0, 5, 6, 21)] :: ((wsL_isolate_r1 ++ (wsL_isolate_r2 ++ wsL_isolate_r3)) ++ wsX00 ++ (vx_atS RX0 71 "java/lang/IndexOutOfBoundsException" ["java/lang/RuntimeException", "java/lang/Exception"]).filter goodWord)
def wsL_together_r1 : List Cond := [Cond.classLink RL 21 "java/lang/IndexOutOfBoundsException", Cond.classLink RL 28 "java/util/NoSuchElementException", Cond.constant RL 16 (-99999), Cond.methodLink RL 34 yX0_together, Cond.instanceMethod yX0_together, Cond.selects RX0 yX0_together yX0_together, Cond.initialized RX0, Cond.code yX0_together cX0_together 4 (some .int), Cond.classLink RX0 95 "java/util/NoSuchElementException", Cond.initialized "java/util/NoSuchElementException", Cond.fieldLink RX0 13 "Corebarn" "cores" "[I", Cond.methodLink RX0 92 Lib.Math.min.name, Cond.static Lib.Math.min.name, Cond.initialized "java/lang/Math", Cond.code Lib.Math.min.name Lib.Math.min.code 2 (some .int), Cond.methodLink RX0 59 yX0_checkNode, Cond.instanceMethod yX0_checkNode, Cond.selects RX0 yX0_checkNode yX0_checkNode, Cond.code yX0_checkNode cX0_checkNode 2 none, Cond.classLink RX0 67 "java/lang/IndexOutOfBoundsException", Cond.initialized "java/lang/IndexOutOfBoundsException", Cond.fieldLink RX0 19 "Corebarn" "nodeCount" "I", Cond.methodLink RX0 83 yX0_single, Cond.static yX0_single]
def wsL_together_r2 : List Cond := [Cond.code yX0_single cX0_single 1 (some .int), Cond.methodLink RX0 80 yX0_coreSet, Cond.instanceMethod yX0_coreSet, Cond.selects RX0 yX0_coreSet yX0_coreSet, Cond.code yX0_coreSet cX0_coreSet 4 (some .int), Cond.methodLink RX0 46 yX0_with, Cond.static yX0_with, Cond.code yX0_with cX0_with 2 (some .int), Cond.methodLink RX0 86 yX0_reach, Cond.instanceMethod yX0_reach, Cond.selects RX0 yX0_reach yX0_reach, Cond.code yX0_reach cX0_reach 7 (some .int), Cond.fieldLink RX0 9 "Corebarn" "neighbours" "[I", Cond.methodLink RX0 40 yX0_contains, Cond.static yX0_contains, Cond.code yX0_contains cX0_contains 2 (some .boolean)]
def wsL_together : List Cond := .codeWith yL_together cL_together 4 (some .int) [(0, 6, 7, 21), (0, 6, 11, 28)] :: ((wsL_together_r1 ++ wsL_together_r2) ++ wsX00 ++ zat99.filter goodWord ++ (vx_atS RX0 71 "java/lang/IndexOutOfBoundsException" ["java/lang/RuntimeException", "java/lang/Exception"]).filter goodWord)
def wsL_truss_r1 : List Cond := [Cond.classLink RL 21 "java/lang/IndexOutOfBoundsException", Cond.classLink RL 28 "java/util/NoSuchElementException", Cond.constant RL 16 (-99999), Cond.methodLink RL 37 yX0_truss, Cond.instanceMethod yX0_truss, Cond.selects RX0 yX0_truss yX0_truss, Cond.initialized RX0, Cond.code yX0_truss cX0_truss 5 (some .int), Cond.fieldLink RX0 16 "Corebarn" "trussNeighbours" "[I", Cond.methodLink RX0 59 yX0_checkNode, Cond.instanceMethod yX0_checkNode, Cond.selects RX0 yX0_checkNode yX0_checkNode, Cond.code yX0_checkNode cX0_checkNode 2 none, Cond.classLink RX0 67 "java/lang/IndexOutOfBoundsException", Cond.initialized "java/lang/IndexOutOfBoundsException", Cond.fieldLink RX0 19 "Corebarn" "nodeCount" "I", Cond.methodLink RX0 53 yX0_checkEdge, Cond.instanceMethod yX0_checkEdge, Cond.selects RX0 yX0_checkEdge yX0_checkEdge, Cond.code yX0_checkEdge cX0_checkEdge 3 none, Cond.classLink RX0 95 "java/util/NoSuchElementException", Cond.initialized "java/util/NoSuchElementException", Cond.fieldLink RX0 9 "Corebarn" "neighbours" "[I", Cond.methodLink RX0 40 yX0_contains]
def wsL_truss_r2 : List Cond := [Cond.static yX0_contains, Cond.code yX0_contains cX0_contains 2 (some .boolean), Cond.methodLink RX0 83 yX0_single, Cond.static yX0_single, Cond.code yX0_single cX0_single 1 (some .int), Cond.methodLink RX0 124 yX0_startTrusses, Cond.instanceMethod yX0_startTrusses, Cond.selects RX0 yX0_startTrusses yX0_startTrusses, Cond.code yX0_startTrusses cX0_startTrusses 2 none, Cond.methodLink RX0 127 yX0_shrinkToTruss, Cond.instanceMethod yX0_shrinkToTruss, Cond.selects RX0 yX0_shrinkToTruss yX0_shrinkToTruss, Cond.code yX0_shrinkToTruss cX0_shrinkToTruss 4 none, Cond.methodLink RX0 158 yX0_dropWeakEdges, Cond.instanceMethod yX0_dropWeakEdges, Cond.selects RX0 yX0_dropWeakEdges yX0_dropWeakEdges, Cond.code yX0_dropWeakEdges cX0_dropWeakEdges 5 (some .boolean), Cond.methodLink RX0 63 yX0_size, Cond.static yX0_size, Cond.code yX0_size cX0_size 1 (some .int), Cond.methodLink RX0 143 yJ6_bitCount_0f7a4, Cond.static yJ6_bitCount_0f7a4, Cond.initialized RJ6, Cond.code yJ6_bitCount_0f7a4 cJ6_bitCount_0f7a4 1 (some .int)]
def wsL_truss_r3 : List Cond := [Cond.constant RJ6 265 (1431655765), Cond.constant RJ6 266 (858993459), Cond.constant RJ6 267 (252645135), Cond.methodLink RX0 115 yX0_without, Cond.static yX0_without, Cond.code yX0_without cX0_without 2 (some .int)]
def wsL_truss : List Cond := .codeWith yL_truss cL_truss 4 (some .int) [(0, 6, 7, 21), (0, 6, 11, 28)] :: ((wsL_truss_r1 ++ (wsL_truss_r2 ++ wsL_truss_r3)) ++ wsX00 ++ (vx_atS RX0 71 "java/lang/IndexOutOfBoundsException" ["java/lang/RuntimeException", "java/lang/Exception"]).filter goodWord ++ zat99.filter goodWord)
def wsL_act_r1 : List Cond := [Cond.methodLink RL 40 yL_low, Cond.static yL_low, Cond.initialized RL, Cond.code yL_low cL_low 2 (some .int), Cond.constant RL 7 (2147483647), Cond.methodLink RL 45 yX0_nodes, Cond.instanceMethod yX0_nodes, Cond.selects RX0 yX0_nodes yX0_nodes, Cond.initialized RX0, Cond.code yX0_nodes cX0_nodes 1 (some .int), Cond.fieldLink RX0 19 "Corebarn" "nodeCount" "I", Cond.methodLink RL 48 yL_addNode, Cond.static yL_addNode, Cond.codeWith yL_addNode cL_addNode 2 (some .int) [(0, 4, 5, 14)], Cond.classLink RL 14 "java/lang/IllegalStateException", Cond.constant RL 16 (-99999), Cond.methodLink RL 8 yX0_addNode, Cond.instanceMethod yX0_addNode, Cond.selects RX0 yX0_addNode yX0_addNode, Cond.code yX0_addNode cX0_addNode 2 (some .int), Cond.classLink RX0 29 "java/lang/IllegalStateException", Cond.initialized "java/lang/IllegalStateException", Cond.methodLink RL 51 yL_part, Cond.static yL_part]
def wsL_act_r2 : List Cond := [Cond.codeWith yL_part cL_part 4 (some .int) [(0, 6, 7, 21), (0, 6, 11, 23), (0, 6, 15, 28)], Cond.classLink RL 21 "java/lang/IndexOutOfBoundsException", Cond.classLink RL 23 "java/lang/IllegalArgumentException", Cond.classLink RL 28 "java/util/NoSuchElementException", Cond.methodLink RL 25 yX0_part, Cond.instanceMethod yX0_part, Cond.selects RX0 yX0_part yX0_part, Cond.code yX0_part cX0_part 3 (some .int), Cond.methodLink RX0 36 yX0_checkPair, Cond.instanceMethod yX0_checkPair, Cond.selects RX0 yX0_checkPair yX0_checkPair, Cond.code yX0_checkPair cX0_checkPair 3 none, Cond.classLink RX0 130 "java/lang/IllegalArgumentException", Cond.initialized "java/lang/IllegalArgumentException", Cond.methodLink RX0 59 yX0_checkNode, Cond.instanceMethod yX0_checkNode, Cond.selects RX0 yX0_checkNode yX0_checkNode, Cond.code yX0_checkNode cX0_checkNode 2 none, Cond.classLink RX0 67 "java/lang/IndexOutOfBoundsException", Cond.initialized "java/lang/IndexOutOfBoundsException", Cond.methodLink RX0 53 yX0_checkEdge, Cond.instanceMethod yX0_checkEdge, Cond.selects RX0 yX0_checkEdge yX0_checkEdge, Cond.code yX0_checkEdge cX0_checkEdge 3 none]
def wsL_act_r3 : List Cond := [Cond.classLink RX0 95 "java/util/NoSuchElementException", Cond.initialized "java/util/NoSuchElementException", Cond.fieldLink RX0 9 "Corebarn" "neighbours" "[I", Cond.methodLink RX0 40 yX0_contains, Cond.static yX0_contains, Cond.code yX0_contains cX0_contains 2 (some .boolean), Cond.methodLink RX0 83 yX0_single, Cond.static yX0_single, Cond.code yX0_single cX0_single 1 (some .int), Cond.methodLink RX0 56 yX0_cutEdge, Cond.instanceMethod yX0_cutEdge, Cond.selects RX0 yX0_cutEdge yX0_cutEdge, Cond.code yX0_cutEdge cX0_cutEdge 5 (some .int), Cond.fieldLink RX0 13 "Corebarn" "cores" "[I", Cond.methodLink RX0 92 Lib.Math.min.name, Cond.static Lib.Math.min.name, Cond.initialized "java/lang/Math", Cond.code Lib.Math.min.name Lib.Math.min.code 2 (some .int), Cond.fieldLink RX0 23 "Corebarn" "edgeCount" "I", Cond.methodLink RX0 115 yX0_without, Cond.static yX0_without, Cond.code yX0_without cX0_without 2 (some .int), Cond.methodLink RX0 148 yX0_nearShell, Cond.instanceMethod yX0_nearShell]
def wsL_act_r4 : List Cond := [Cond.selects RX0 yX0_nearShell yX0_nearShell, Cond.code yX0_nearShell cX0_nearShell 4 (some .int), Cond.methodLink RX0 46 yX0_with, Cond.static yX0_with, Cond.code yX0_with cX0_with 2 (some .int), Cond.methodLink RX0 104 yX0_shellSet, Cond.instanceMethod yX0_shellSet, Cond.selects RX0 yX0_shellSet yX0_shellSet, Cond.code yX0_shellSet cX0_shellSet 2 (some .int), Cond.methodLink RX0 80 yX0_coreSet, Cond.instanceMethod yX0_coreSet, Cond.selects RX0 yX0_coreSet yX0_coreSet, Cond.code yX0_coreSet cX0_coreSet 4 (some .int), Cond.methodLink RX0 86 yX0_reach, Cond.instanceMethod yX0_reach, Cond.selects RX0 yX0_reach yX0_reach, Cond.code yX0_reach cX0_reach 7 (some .int), Cond.methodLink RX0 152 yX0_supportedPart, Cond.instanceMethod yX0_supportedPart, Cond.selects RX0 yX0_supportedPart yX0_supportedPart, Cond.code yX0_supportedPart cX0_supportedPart 8 (some .int), Cond.methodLink RX0 63 yX0_size, Cond.static yX0_size, Cond.code yX0_size cX0_size 1 (some .int)]
def wsL_act_r5 : List Cond := [Cond.methodLink RX0 143 yJ6_bitCount_0f7a4, Cond.static yJ6_bitCount_0f7a4, Cond.initialized RJ6, Cond.code yJ6_bitCount_0f7a4 cJ6_bitCount_0f7a4 1 (some .int), Cond.constant RJ6 265 (1431655765), Cond.constant RJ6 266 (858993459), Cond.constant RJ6 267 (252645135), Cond.methodLink RX0 155 yX0_changeCores, Cond.instanceMethod yX0_changeCores, Cond.selects RX0 yX0_changeCores yX0_changeCores, Cond.code yX0_changeCores cX0_changeCores 4 (some .int), Cond.fieldLink RX0 26 "Corebarn" "coreChanges" "I", Cond.methodLink RL 54 yL_isolate, Cond.static yL_isolate, Cond.codeWith yL_isolate cL_isolate 3 (some .int) [(0, 5, 6, 21)], Cond.methodLink RL 30 yX0_isolate, Cond.instanceMethod yX0_isolate, Cond.selects RX0 yX0_isolate yX0_isolate, Cond.code yX0_isolate cX0_isolate 4 (some .int), Cond.methodLink RL 57 yL_join, Cond.static yL_join, Cond.codeWith yL_join cL_join 4 (some .int) [(0, 6, 7, 21), (0, 6, 11, 23), (0, 6, 15, 14)], Cond.methodLink RL 17 yX0_join, Cond.instanceMethod yX0_join]
def wsL_act_r6 : List Cond := [Cond.selects RX0 yX0_join yX0_join, Cond.code yX0_join cX0_join 3 (some .int), Cond.methodLink RX0 50 yX0_raiseCores, Cond.instanceMethod yX0_raiseCores, Cond.selects RX0 yX0_raiseCores yX0_raiseCores, Cond.code yX0_raiseCores cX0_raiseCores 5 (some .int)]
def wsL_act : List Cond := .code yL_act cL_act 6 (some .int) :: ((wsL_act_r1 ++ (wsL_act_r2 ++ (wsL_act_r3 ++ (wsL_act_r4 ++ (wsL_act_r5 ++ wsL_act_r6))))) ++ wsX00 ++ (vx_atS RX0 33 "java/lang/IllegalStateException" ["java/lang/RuntimeException", "java/lang/Exception"]).filter goodWord ++ (vx_atS RX0 134 "java/lang/IllegalArgumentException" ["java/lang/RuntimeException", "java/lang/Exception"]).filter goodWord ++ (vx_atS RX0 71 "java/lang/IndexOutOfBoundsException" ["java/lang/RuntimeException", "java/lang/Exception"]).filter goodWord ++ zat99.filter goodWord)
def wsL_areAlike_r1 : List Cond := [Cond.methodLink RL 45 yX0_nodes, Cond.instanceMethod yX0_nodes, Cond.selects RX0 yX0_nodes yX0_nodes, Cond.initialized RX0, Cond.code yX0_nodes cX0_nodes 1 (some .int), Cond.fieldLink RX0 19 "Corebarn" "nodeCount" "I", Cond.methodLink RL 59 yX0_edges, Cond.instanceMethod yX0_edges, Cond.selects RX0 yX0_edges yX0_edges, Cond.code yX0_edges cX0_edges 1 (some .int), Cond.fieldLink RX0 23 "Corebarn" "edgeCount" "I", Cond.methodLink RL 62 yX0_changes, Cond.instanceMethod yX0_changes, Cond.selects RX0 yX0_changes yX0_changes, Cond.code yX0_changes cX0_changes 1 (some .int), Cond.fieldLink RX0 26 "Corebarn" "coreChanges" "I", Cond.methodLink RL 65 yX0_degeneracy, Cond.instanceMethod yX0_degeneracy, Cond.selects RX0 yX0_degeneracy yX0_degeneracy, Cond.code yX0_degeneracy cX0_degeneracy 3 (some .int), Cond.fieldLink RX0 13 "Corebarn" "cores" "[I", Cond.methodLink RX0 72 Lib.Math.max.name, Cond.static Lib.Math.max.name, Cond.initialized "java/lang/Math"]
def wsL_areAlike_r2 : List Cond := [Cond.code Lib.Math.max.name Lib.Math.max.code 2 (some .int), Cond.methodLink RL 68 yX0_triangles, Cond.instanceMethod yX0_triangles, Cond.selects RX0 yX0_triangles yX0_triangles, Cond.code yX0_triangles cX0_triangles 4 (some .int), Cond.fieldLink RX0 9 "Corebarn" "neighbours" "[I", Cond.methodLink RX0 40 yX0_contains, Cond.static yX0_contains, Cond.code yX0_contains cX0_contains 2 (some .boolean), Cond.methodLink RX0 83 yX0_single, Cond.static yX0_single, Cond.code yX0_single cX0_single 1 (some .int), Cond.methodLink RX0 63 yX0_size, Cond.static yX0_size, Cond.code yX0_size cX0_size 1 (some .int), Cond.methodLink RX0 143 yJ6_bitCount_0f7a4, Cond.static yJ6_bitCount_0f7a4, Cond.initialized RJ6, Cond.code yJ6_bitCount_0f7a4 cJ6_bitCount_0f7a4 1 (some .int), Cond.constant RJ6 265 (1431655765), Cond.constant RJ6 266 (858993459), Cond.constant RJ6 267 (252645135), Cond.methodLink RL 71 yX0_core, Cond.instanceMethod yX0_core]
def wsL_areAlike_r3 : List Cond := [Cond.selects RX0 yX0_core yX0_core, Cond.code yX0_core cX0_core 2 (some .int), Cond.methodLink RX0 59 yX0_checkNode, Cond.instanceMethod yX0_checkNode, Cond.selects RX0 yX0_checkNode yX0_checkNode, Cond.code yX0_checkNode cX0_checkNode 2 none, Cond.classLink RX0 67 "java/lang/IndexOutOfBoundsException", Cond.initialized "java/lang/IndexOutOfBoundsException", Cond.methodLink RL 74 yX0_degree, Cond.instanceMethod yX0_degree, Cond.selects RX0 yX0_degree yX0_degree, Cond.code yX0_degree cX0_degree 2 (some .int)]
def wsL_areAlike : List Cond := .code yL_areAlike cL_areAlike 4 (some .boolean) :: ((wsL_areAlike_r1 ++ (wsL_areAlike_r2 ++ wsL_areAlike_r3)) ++ wsX00 ++ (vx_atS RX0 71 "java/lang/IndexOutOfBoundsException" ["java/lang/RuntimeException", "java/lang/Exception"]).filter goodWord)
def wsL_isNodeSo_r1 : List Cond := [Cond.methodLink RL 71 yX0_core, Cond.instanceMethod yX0_core, Cond.selects RX0 yX0_core yX0_core, Cond.initialized RX0, Cond.code yX0_core cX0_core 2 (some .int), Cond.fieldLink RX0 13 "Corebarn" "cores" "[I", Cond.methodLink RX0 59 yX0_checkNode, Cond.instanceMethod yX0_checkNode, Cond.selects RX0 yX0_checkNode yX0_checkNode, Cond.code yX0_checkNode cX0_checkNode 2 none, Cond.classLink RX0 67 "java/lang/IndexOutOfBoundsException", Cond.initialized "java/lang/IndexOutOfBoundsException", Cond.fieldLink RX0 19 "Corebarn" "nodeCount" "I", Cond.methodLink RL 74 yX0_degree, Cond.instanceMethod yX0_degree, Cond.selects RX0 yX0_degree yX0_degree, Cond.code yX0_degree cX0_degree 2 (some .int), Cond.fieldLink RX0 9 "Corebarn" "neighbours" "[I", Cond.methodLink RX0 63 yX0_size, Cond.static yX0_size, Cond.code yX0_size cX0_size 1 (some .int), Cond.methodLink RX0 143 yJ6_bitCount_0f7a4, Cond.static yJ6_bitCount_0f7a4, Cond.initialized RJ6]
def wsL_isNodeSo_r2 : List Cond := [Cond.code yJ6_bitCount_0f7a4 cJ6_bitCount_0f7a4 1 (some .int), Cond.constant RJ6 265 (1431655765), Cond.constant RJ6 266 (858993459), Cond.constant RJ6 267 (252645135), Cond.methodLink RL 77 yX0_neighbour, Cond.instanceMethod yX0_neighbour, Cond.selects RX0 yX0_neighbour yX0_neighbour, Cond.code yX0_neighbour cX0_neighbour 5 (some .int), Cond.methodLink RX0 40 yX0_contains, Cond.static yX0_contains, Cond.code yX0_contains cX0_contains 2 (some .boolean), Cond.methodLink RX0 83 yX0_single, Cond.static yX0_single, Cond.code yX0_single cX0_single 1 (some .int), Cond.methodLink RL 80 yX0_areJoined, Cond.instanceMethod yX0_areJoined, Cond.selects RX0 yX0_areJoined yX0_areJoined, Cond.code yX0_areJoined cX0_areJoined 3 (some .boolean), Cond.methodLink RL 84 yX0_community, Cond.instanceMethod yX0_community, Cond.selects RX0 yX0_community yX0_community, Cond.code yX0_community cX0_community 3 (some .int), Cond.methodLink RX0 77 yX0_checkLevel, Cond.static yX0_checkLevel]
def wsL_isNodeSo_r3 : List Cond := [Cond.code yX0_checkLevel cX0_checkLevel 1 none, Cond.classLink RX0 130 "java/lang/IllegalArgumentException", Cond.initialized "java/lang/IllegalArgumentException", Cond.methodLink RX0 80 yX0_coreSet, Cond.instanceMethod yX0_coreSet, Cond.selects RX0 yX0_coreSet yX0_coreSet, Cond.code yX0_coreSet cX0_coreSet 4 (some .int), Cond.methodLink RX0 46 yX0_with, Cond.static yX0_with, Cond.code yX0_with cX0_with 2 (some .int), Cond.methodLink RX0 86 yX0_reach, Cond.instanceMethod yX0_reach, Cond.selects RX0 yX0_reach yX0_reach, Cond.code yX0_reach cX0_reach 7 (some .int), Cond.methodLink RL 87 yL_together, Cond.static yL_together, Cond.initialized RL, Cond.codeWith yL_together cL_together 4 (some .int) [(0, 6, 7, 21), (0, 6, 11, 28)], Cond.classLink RL 21 "java/lang/IndexOutOfBoundsException", Cond.classLink RL 28 "java/util/NoSuchElementException", Cond.constant RL 16 (-99999), Cond.methodLink RL 34 yX0_together, Cond.instanceMethod yX0_together, Cond.selects RX0 yX0_together yX0_together]
def wsL_isNodeSo_r4 : List Cond := [Cond.code yX0_together cX0_together 4 (some .int), Cond.classLink RX0 95 "java/util/NoSuchElementException", Cond.initialized "java/util/NoSuchElementException", Cond.methodLink RX0 92 Lib.Math.min.name, Cond.static Lib.Math.min.name, Cond.initialized "java/lang/Math", Cond.code Lib.Math.min.name Lib.Math.min.code 2 (some .int)]
def wsL_isNodeSo : List Cond := .code yL_isNodeSo cL_isNodeSo 8 (some .boolean) :: ((wsL_isNodeSo_r1 ++ (wsL_isNodeSo_r2 ++ (wsL_isNodeSo_r3 ++ wsL_isNodeSo_r4))) ++ wsX00 ++ (vx_atS RX0 71 "java/lang/IndexOutOfBoundsException" ["java/lang/RuntimeException", "java/lang/Exception"]).filter goodWord ++ (vx_atS RX0 134 "java/lang/IllegalArgumentException" ["java/lang/RuntimeException", "java/lang/Exception"]).filter goodWord ++ zat99.filter goodWord)
def wsL_isPeeledSo_r1 : List Cond := [Cond.methodLink RL 45 yX0_nodes, Cond.instanceMethod yX0_nodes, Cond.selects RX0 yX0_nodes yX0_nodes, Cond.initialized RX0, Cond.code yX0_nodes cX0_nodes 1 (some .int), Cond.fieldLink RX0 19 "Corebarn" "nodeCount" "I", Cond.methodLink RL 89 yX0_peeled, Cond.instanceMethod yX0_peeled, Cond.selects RX0 yX0_peeled yX0_peeled, Cond.code yX0_peeled cX0_peeled 4 (some .int), Cond.classLink RX0 67 "java/lang/IndexOutOfBoundsException", Cond.initialized "java/lang/IndexOutOfBoundsException", Cond.methodLink RX0 109 yX0_allNodes, Cond.instanceMethod yX0_allNodes, Cond.selects RX0 yX0_allNodes yX0_allNodes, Cond.code yX0_allNodes cX0_allNodes 1 (some .int), Cond.methodLink RX0 83 yX0_single, Cond.static yX0_single, Cond.code yX0_single cX0_single 1 (some .int), Cond.methodLink RX0 112 yX0_nextToPeel, Cond.instanceMethod yX0_nextToPeel, Cond.selects RX0 yX0_nextToPeel yX0_nextToPeel, Cond.code yX0_nextToPeel cX0_nextToPeel 5 (some .int), Cond.fieldLink RX0 9 "Corebarn" "neighbours" "[I"]
def wsL_isPeeledSo_r2 : List Cond := [Cond.methodLink RX0 40 yX0_contains, Cond.static yX0_contains, Cond.code yX0_contains cX0_contains 2 (some .boolean), Cond.methodLink RX0 63 yX0_size, Cond.static yX0_size, Cond.code yX0_size cX0_size 1 (some .int), Cond.methodLink RX0 143 yJ6_bitCount_0f7a4, Cond.static yJ6_bitCount_0f7a4, Cond.initialized RJ6, Cond.code yJ6_bitCount_0f7a4 cJ6_bitCount_0f7a4 1 (some .int), Cond.constant RJ6 265 (1431655765), Cond.constant RJ6 266 (858993459), Cond.constant RJ6 267 (252645135), Cond.methodLink RX0 115 yX0_without, Cond.static yX0_without, Cond.code yX0_without cX0_without 2 (some .int), Cond.methodLink RL 80 yX0_areJoined, Cond.instanceMethod yX0_areJoined, Cond.selects RX0 yX0_areJoined yX0_areJoined, Cond.code yX0_areJoined cX0_areJoined 3 (some .boolean), Cond.methodLink RX0 59 yX0_checkNode, Cond.instanceMethod yX0_checkNode, Cond.selects RX0 yX0_checkNode yX0_checkNode, Cond.code yX0_checkNode cX0_checkNode 2 none]
def wsL_isPeeledSo_r3 : List Cond := [Cond.methodLink RL 92 yX0_isDense, Cond.instanceMethod yX0_isDense, Cond.selects RX0 yX0_isDense yX0_isDense, Cond.code yX0_isDense cX0_isDense 2 (some .boolean), Cond.methodLink RX0 118 yX0_denseSet, Cond.instanceMethod yX0_denseSet, Cond.selects RX0 yX0_denseSet yX0_denseSet, Cond.code yX0_denseSet cX0_denseSet 6 (some .int), Cond.fieldLink RX0 23 "Corebarn" "edgeCount" "I", Cond.methodLink RX0 121 yX0_edgesWithin, Cond.instanceMethod yX0_edgesWithin, Cond.selects RX0 yX0_edgesWithin yX0_edgesWithin, Cond.code yX0_edgesWithin cX0_edgesWithin 4 (some .int), Cond.methodLink RL 65 yX0_degeneracy, Cond.instanceMethod yX0_degeneracy, Cond.selects RX0 yX0_degeneracy yX0_degeneracy, Cond.code yX0_degeneracy cX0_degeneracy 3 (some .int), Cond.fieldLink RX0 13 "Corebarn" "cores" "[I", Cond.methodLink RX0 72 Lib.Math.max.name, Cond.static Lib.Math.max.name, Cond.initialized "java/lang/Math", Cond.code Lib.Math.max.name Lib.Math.max.code 2 (some .int), Cond.methodLink RL 59 yX0_edges, Cond.instanceMethod yX0_edges]
def wsL_isPeeledSo_r4 : List Cond := [Cond.selects RX0 yX0_edges yX0_edges, Cond.code yX0_edges cX0_edges 1 (some .int), Cond.methodLink RL 96 yX0_denseSize, Cond.instanceMethod yX0_denseSize, Cond.selects RX0 yX0_denseSize yX0_denseSize, Cond.code yX0_denseSize cX0_denseSize 1 (some .int), Cond.methodLink RL 99 yX0_density, Cond.instanceMethod yX0_density, Cond.selects RX0 yX0_density yX0_density, Cond.code yX0_density cX0_density 2 (some .double)]
def wsL_isPeeledSo : List Cond := .code yL_isPeeledSo cL_isPeeledSo 9 (some .boolean) :: ((wsL_isPeeledSo_r1 ++ (wsL_isPeeledSo_r2 ++ (wsL_isPeeledSo_r3 ++ wsL_isPeeledSo_r4))) ++ wsX00 ++ (vx_atS RX0 71 "java/lang/IndexOutOfBoundsException" ["java/lang/RuntimeException", "java/lang/Exception"]).filter goodWord)
def wsL_arePairsSo_r1 : List Cond := [Cond.methodLink RL 87 yL_together, Cond.static yL_together, Cond.initialized RL, Cond.codeWith yL_together cL_together 4 (some .int) [(0, 6, 7, 21), (0, 6, 11, 28)], Cond.classLink RL 21 "java/lang/IndexOutOfBoundsException", Cond.classLink RL 28 "java/util/NoSuchElementException", Cond.constant RL 16 (-99999), Cond.methodLink RL 34 yX0_together, Cond.instanceMethod yX0_together, Cond.selects RX0 yX0_together yX0_together, Cond.initialized RX0, Cond.code yX0_together cX0_together 4 (some .int), Cond.classLink RX0 95 "java/util/NoSuchElementException", Cond.initialized "java/util/NoSuchElementException", Cond.fieldLink RX0 13 "Corebarn" "cores" "[I", Cond.methodLink RX0 92 Lib.Math.min.name, Cond.static Lib.Math.min.name, Cond.initialized "java/lang/Math", Cond.code Lib.Math.min.name Lib.Math.min.code 2 (some .int), Cond.methodLink RX0 59 yX0_checkNode, Cond.instanceMethod yX0_checkNode, Cond.selects RX0 yX0_checkNode yX0_checkNode, Cond.code yX0_checkNode cX0_checkNode 2 none, Cond.classLink RX0 67 "java/lang/IndexOutOfBoundsException"]
def wsL_arePairsSo_r2 : List Cond := [Cond.initialized "java/lang/IndexOutOfBoundsException", Cond.fieldLink RX0 19 "Corebarn" "nodeCount" "I", Cond.methodLink RX0 83 yX0_single, Cond.static yX0_single, Cond.code yX0_single cX0_single 1 (some .int), Cond.methodLink RX0 80 yX0_coreSet, Cond.instanceMethod yX0_coreSet, Cond.selects RX0 yX0_coreSet yX0_coreSet, Cond.code yX0_coreSet cX0_coreSet 4 (some .int), Cond.methodLink RX0 46 yX0_with, Cond.static yX0_with, Cond.code yX0_with cX0_with 2 (some .int), Cond.methodLink RX0 86 yX0_reach, Cond.instanceMethod yX0_reach, Cond.selects RX0 yX0_reach yX0_reach, Cond.code yX0_reach cX0_reach 7 (some .int), Cond.fieldLink RX0 9 "Corebarn" "neighbours" "[I", Cond.methodLink RX0 40 yX0_contains, Cond.static yX0_contains, Cond.code yX0_contains cX0_contains 2 (some .boolean), Cond.methodLink RL 103 yL_truss, Cond.static yL_truss, Cond.codeWith yL_truss cL_truss 4 (some .int) [(0, 6, 7, 21), (0, 6, 11, 28)], Cond.methodLink RL 37 yX0_truss]
def wsL_arePairsSo_r3 : List Cond := [Cond.instanceMethod yX0_truss, Cond.selects RX0 yX0_truss yX0_truss, Cond.code yX0_truss cX0_truss 5 (some .int), Cond.fieldLink RX0 16 "Corebarn" "trussNeighbours" "[I", Cond.methodLink RX0 53 yX0_checkEdge, Cond.instanceMethod yX0_checkEdge, Cond.selects RX0 yX0_checkEdge yX0_checkEdge, Cond.code yX0_checkEdge cX0_checkEdge 3 none, Cond.methodLink RX0 124 yX0_startTrusses, Cond.instanceMethod yX0_startTrusses, Cond.selects RX0 yX0_startTrusses yX0_startTrusses, Cond.code yX0_startTrusses cX0_startTrusses 2 none, Cond.methodLink RX0 127 yX0_shrinkToTruss, Cond.instanceMethod yX0_shrinkToTruss, Cond.selects RX0 yX0_shrinkToTruss yX0_shrinkToTruss, Cond.code yX0_shrinkToTruss cX0_shrinkToTruss 4 none, Cond.methodLink RX0 158 yX0_dropWeakEdges, Cond.instanceMethod yX0_dropWeakEdges, Cond.selects RX0 yX0_dropWeakEdges yX0_dropWeakEdges, Cond.code yX0_dropWeakEdges cX0_dropWeakEdges 5 (some .boolean), Cond.methodLink RX0 63 yX0_size, Cond.static yX0_size, Cond.code yX0_size cX0_size 1 (some .int), Cond.methodLink RX0 143 yJ6_bitCount_0f7a4]
def wsL_arePairsSo_r4 : List Cond := [Cond.static yJ6_bitCount_0f7a4, Cond.initialized RJ6, Cond.code yJ6_bitCount_0f7a4 cJ6_bitCount_0f7a4 1 (some .int), Cond.constant RJ6 265 (1431655765), Cond.constant RJ6 266 (858993459), Cond.constant RJ6 267 (252645135), Cond.methodLink RX0 115 yX0_without, Cond.static yX0_without, Cond.code yX0_without cX0_without 2 (some .int), Cond.methodLink RL 71 yX0_core, Cond.instanceMethod yX0_core, Cond.selects RX0 yX0_core yX0_core, Cond.code yX0_core cX0_core 2 (some .int), Cond.methodLink RL 80 yX0_areJoined, Cond.instanceMethod yX0_areJoined, Cond.selects RX0 yX0_areJoined yX0_areJoined, Cond.code yX0_areJoined cX0_areJoined 3 (some .boolean), Cond.methodLink RL 105 yX0_support, Cond.instanceMethod yX0_support, Cond.selects RX0 yX0_support yX0_support, Cond.code yX0_support cX0_support 3 (some .int), Cond.methodLink RL 108 yX0_trussSize, Cond.instanceMethod yX0_trussSize, Cond.selects RX0 yX0_trussSize yX0_trussSize]
def wsL_arePairsSo_r5 : List Cond := [Cond.code yX0_trussSize cX0_trussSize 4 (some .int), Cond.classLink RX0 130 "java/lang/IllegalArgumentException", Cond.initialized "java/lang/IllegalArgumentException"]
def wsL_arePairsSo : List Cond := .code yL_arePairsSo cL_arePairsSo 7 (some .boolean) :: ((wsL_arePairsSo_r1 ++ (wsL_arePairsSo_r2 ++ (wsL_arePairsSo_r3 ++ (wsL_arePairsSo_r4 ++ wsL_arePairsSo_r5)))) ++ wsX00 ++ zat99.filter goodWord ++ (vx_atS RX0 71 "java/lang/IndexOutOfBoundsException" ["java/lang/RuntimeException", "java/lang/Exception"]).filter goodWord ++ (vx_atS RX0 134 "java/lang/IllegalArgumentException" ["java/lang/RuntimeException", "java/lang/Exception"]).filter goodWord)
def wsL_areCoresSo_r1 : List Cond := [Cond.methodLink RL 65 yX0_degeneracy, Cond.instanceMethod yX0_degeneracy, Cond.selects RX0 yX0_degeneracy yX0_degeneracy, Cond.initialized RX0, Cond.code yX0_degeneracy cX0_degeneracy 3 (some .int), Cond.fieldLink RX0 19 "Corebarn" "nodeCount" "I", Cond.fieldLink RX0 13 "Corebarn" "cores" "[I", Cond.methodLink RX0 72 Lib.Math.max.name, Cond.static Lib.Math.max.name, Cond.initialized "java/lang/Math", Cond.code Lib.Math.max.name Lib.Math.max.code 2 (some .int), Cond.methodLink RL 111 yX0_coreSize, Cond.instanceMethod yX0_coreSize, Cond.selects RX0 yX0_coreSize yX0_coreSize, Cond.code yX0_coreSize cX0_coreSize 2 (some .int), Cond.methodLink RX0 77 yX0_checkLevel, Cond.static yX0_checkLevel, Cond.code yX0_checkLevel cX0_checkLevel 1 none, Cond.classLink RX0 130 "java/lang/IllegalArgumentException", Cond.initialized "java/lang/IllegalArgumentException", Cond.methodLink RX0 80 yX0_coreSet, Cond.instanceMethod yX0_coreSet, Cond.selects RX0 yX0_coreSet yX0_coreSet, Cond.code yX0_coreSet cX0_coreSet 4 (some .int)]
def wsL_areCoresSo_r2 : List Cond := [Cond.methodLink RX0 46 yX0_with, Cond.static yX0_with, Cond.code yX0_with cX0_with 2 (some .int), Cond.methodLink RX0 83 yX0_single, Cond.static yX0_single, Cond.code yX0_single cX0_single 1 (some .int), Cond.methodLink RX0 63 yX0_size, Cond.static yX0_size, Cond.code yX0_size cX0_size 1 (some .int), Cond.methodLink RX0 143 yJ6_bitCount_0f7a4, Cond.static yJ6_bitCount_0f7a4, Cond.initialized RJ6, Cond.code yJ6_bitCount_0f7a4 cJ6_bitCount_0f7a4 1 (some .int), Cond.constant RJ6 265 (1431655765), Cond.constant RJ6 266 (858993459), Cond.constant RJ6 267 (252645135), Cond.methodLink RL 45 yX0_nodes, Cond.instanceMethod yX0_nodes, Cond.selects RX0 yX0_nodes yX0_nodes, Cond.code yX0_nodes cX0_nodes 1 (some .int), Cond.methodLink RL 114 yX0_communities, Cond.instanceMethod yX0_communities, Cond.selects RX0 yX0_communities yX0_communities, Cond.code yX0_communities cX0_communities 2 (some .int)]
def wsL_areCoresSo_r3 : List Cond := [Cond.methodLink RX0 89 yX0_countCommunities, Cond.instanceMethod yX0_countCommunities, Cond.selects RX0 yX0_countCommunities yX0_countCommunities, Cond.code yX0_countCommunities cX0_countCommunities 6 (some .int), Cond.methodLink RX0 40 yX0_contains, Cond.static yX0_contains, Cond.code yX0_contains cX0_contains 2 (some .boolean), Cond.methodLink RX0 86 yX0_reach, Cond.instanceMethod yX0_reach, Cond.selects RX0 yX0_reach yX0_reach, Cond.code yX0_reach cX0_reach 7 (some .int), Cond.fieldLink RX0 9 "Corebarn" "neighbours" "[I", Cond.methodLink RL 108 yX0_trussSize, Cond.instanceMethod yX0_trussSize, Cond.selects RX0 yX0_trussSize yX0_trussSize, Cond.code yX0_trussSize cX0_trussSize 4 (some .int), Cond.fieldLink RX0 16 "Corebarn" "trussNeighbours" "[I", Cond.methodLink RX0 124 yX0_startTrusses, Cond.instanceMethod yX0_startTrusses, Cond.selects RX0 yX0_startTrusses yX0_startTrusses, Cond.code yX0_startTrusses cX0_startTrusses 2 none, Cond.methodLink RX0 127 yX0_shrinkToTruss, Cond.instanceMethod yX0_shrinkToTruss, Cond.selects RX0 yX0_shrinkToTruss yX0_shrinkToTruss]
def wsL_areCoresSo_r4 : List Cond := [Cond.code yX0_shrinkToTruss cX0_shrinkToTruss 4 none, Cond.methodLink RX0 158 yX0_dropWeakEdges, Cond.instanceMethod yX0_dropWeakEdges, Cond.selects RX0 yX0_dropWeakEdges yX0_dropWeakEdges, Cond.code yX0_dropWeakEdges cX0_dropWeakEdges 5 (some .boolean), Cond.methodLink RX0 115 yX0_without, Cond.static yX0_without, Cond.code yX0_without cX0_without 2 (some .int), Cond.methodLink RL 59 yX0_edges, Cond.instanceMethod yX0_edges, Cond.selects RX0 yX0_edges yX0_edges, Cond.code yX0_edges cX0_edges 1 (some .int), Cond.fieldLink RX0 23 "Corebarn" "edgeCount" "I", Cond.methodLink RL 117 yX0_hierarchy, Cond.instanceMethod yX0_hierarchy, Cond.selects RX0 yX0_hierarchy yX0_hierarchy, Cond.code yX0_hierarchy cX0_hierarchy 4 (some .int), Cond.methodLink RX0 100 yX0_degeneracy, Cond.methodLink RX0 104 yX0_shellSet, Cond.instanceMethod yX0_shellSet, Cond.selects RX0 yX0_shellSet yX0_shellSet, Cond.code yX0_shellSet cX0_shellSet 2 (some .int)]
def wsL_areCoresSo : List Cond := .code yL_areCoresSo cL_areCoresSo 4 (some .boolean) :: ((wsL_areCoresSo_r1 ++ (wsL_areCoresSo_r2 ++ (wsL_areCoresSo_r3 ++ wsL_areCoresSo_r4))) ++ wsX00 ++ (vx_atS RX0 134 "java/lang/IllegalArgumentException" ["java/lang/RuntimeException", "java/lang/Exception"]).filter goodWord)
def wsL_law0_r1 : List Cond := [Cond.classLink RL 9 RX0, Cond.instantiable RX0 6, Cond.initialized RX0, Cond.constant RL 16 (-99999), Cond.methodLink RL 120 yX0_init, Cond.instanceMethod yX0_init, Cond.code yX0_init cX0_init 1 none, Cond.methodLink RX0 3 objectInit, Cond.instanceMethod objectInit, Cond.code objectInit ⟨#[0xb1]⟩ 1 none, Cond.arrayClass .int, Cond.fieldLink RX0 9 "Corebarn" "neighbours" "[I", Cond.fieldLink RX0 13 "Corebarn" "cores" "[I", Cond.fieldLink RX0 16 "Corebarn" "trussNeighbours" "[I", Cond.fieldLink RX0 19 "Corebarn" "nodeCount" "I", Cond.fieldLink RX0 23 "Corebarn" "edgeCount" "I", Cond.fieldLink RX0 26 "Corebarn" "coreChanges" "I", Cond.methodLink RL 121 yL_cell, Cond.static yL_cell, Cond.initialized RL, Cond.code yL_cell cL_cell 2 (some .int), Cond.methodLink RL 125 yL_act, Cond.static yL_act, Cond.code yL_act cL_act 6 (some .int)]
def wsL_law0_r2 : List Cond := [Cond.methodLink RL 40 yL_low, Cond.static yL_low, Cond.code yL_low cL_low 2 (some .int), Cond.constant RL 7 (2147483647), Cond.methodLink RL 45 yX0_nodes, Cond.instanceMethod yX0_nodes, Cond.selects RX0 yX0_nodes yX0_nodes, Cond.code yX0_nodes cX0_nodes 1 (some .int), Cond.methodLink RL 48 yL_addNode, Cond.static yL_addNode, Cond.codeWith yL_addNode cL_addNode 2 (some .int) [(0, 4, 5, 14)], Cond.classLink RL 14 "java/lang/IllegalStateException", Cond.methodLink RL 8 yX0_addNode, Cond.instanceMethod yX0_addNode, Cond.selects RX0 yX0_addNode yX0_addNode, Cond.code yX0_addNode cX0_addNode 2 (some .int), Cond.classLink RX0 29 "java/lang/IllegalStateException", Cond.initialized "java/lang/IllegalStateException", Cond.methodLink RL 51 yL_part, Cond.static yL_part, Cond.codeWith yL_part cL_part 4 (some .int) [(0, 6, 7, 21), (0, 6, 11, 23), (0, 6, 15, 28)], Cond.classLink RL 21 "java/lang/IndexOutOfBoundsException", Cond.classLink RL 23 "java/lang/IllegalArgumentException", Cond.classLink RL 28 "java/util/NoSuchElementException"]
def wsL_law0_r3 : List Cond := [Cond.methodLink RL 25 yX0_part, Cond.instanceMethod yX0_part, Cond.selects RX0 yX0_part yX0_part, Cond.code yX0_part cX0_part 3 (some .int), Cond.methodLink RX0 36 yX0_checkPair, Cond.instanceMethod yX0_checkPair, Cond.selects RX0 yX0_checkPair yX0_checkPair, Cond.code yX0_checkPair cX0_checkPair 3 none, Cond.classLink RX0 130 "java/lang/IllegalArgumentException", Cond.initialized "java/lang/IllegalArgumentException", Cond.methodLink RX0 59 yX0_checkNode, Cond.instanceMethod yX0_checkNode, Cond.selects RX0 yX0_checkNode yX0_checkNode, Cond.code yX0_checkNode cX0_checkNode 2 none, Cond.classLink RX0 67 "java/lang/IndexOutOfBoundsException", Cond.initialized "java/lang/IndexOutOfBoundsException", Cond.methodLink RX0 53 yX0_checkEdge, Cond.instanceMethod yX0_checkEdge, Cond.selects RX0 yX0_checkEdge yX0_checkEdge, Cond.code yX0_checkEdge cX0_checkEdge 3 none, Cond.classLink RX0 95 "java/util/NoSuchElementException", Cond.initialized "java/util/NoSuchElementException", Cond.methodLink RX0 40 yX0_contains, Cond.static yX0_contains]
def wsL_law0_r4 : List Cond := [Cond.code yX0_contains cX0_contains 2 (some .boolean), Cond.methodLink RX0 83 yX0_single, Cond.static yX0_single, Cond.code yX0_single cX0_single 1 (some .int), Cond.methodLink RX0 56 yX0_cutEdge, Cond.instanceMethod yX0_cutEdge, Cond.selects RX0 yX0_cutEdge yX0_cutEdge, Cond.code yX0_cutEdge cX0_cutEdge 5 (some .int), Cond.methodLink RX0 92 Lib.Math.min.name, Cond.static Lib.Math.min.name, Cond.initialized "java/lang/Math", Cond.code Lib.Math.min.name Lib.Math.min.code 2 (some .int), Cond.methodLink RX0 115 yX0_without, Cond.static yX0_without, Cond.code yX0_without cX0_without 2 (some .int), Cond.methodLink RX0 148 yX0_nearShell, Cond.instanceMethod yX0_nearShell, Cond.selects RX0 yX0_nearShell yX0_nearShell, Cond.code yX0_nearShell cX0_nearShell 4 (some .int), Cond.methodLink RX0 46 yX0_with, Cond.static yX0_with, Cond.code yX0_with cX0_with 2 (some .int), Cond.methodLink RX0 104 yX0_shellSet, Cond.instanceMethod yX0_shellSet]
def wsL_law0_r5 : List Cond := [Cond.selects RX0 yX0_shellSet yX0_shellSet, Cond.code yX0_shellSet cX0_shellSet 2 (some .int), Cond.methodLink RX0 80 yX0_coreSet, Cond.instanceMethod yX0_coreSet, Cond.selects RX0 yX0_coreSet yX0_coreSet, Cond.code yX0_coreSet cX0_coreSet 4 (some .int), Cond.methodLink RX0 86 yX0_reach, Cond.instanceMethod yX0_reach, Cond.selects RX0 yX0_reach yX0_reach, Cond.code yX0_reach cX0_reach 7 (some .int), Cond.methodLink RX0 152 yX0_supportedPart, Cond.instanceMethod yX0_supportedPart, Cond.selects RX0 yX0_supportedPart yX0_supportedPart, Cond.code yX0_supportedPart cX0_supportedPart 8 (some .int), Cond.methodLink RX0 63 yX0_size, Cond.static yX0_size, Cond.code yX0_size cX0_size 1 (some .int), Cond.methodLink RX0 143 yJ6_bitCount_0f7a4, Cond.static yJ6_bitCount_0f7a4, Cond.initialized RJ6, Cond.code yJ6_bitCount_0f7a4 cJ6_bitCount_0f7a4 1 (some .int), Cond.constant RJ6 265 (1431655765), Cond.constant RJ6 266 (858993459), Cond.constant RJ6 267 (252645135)]
def wsL_law0_r6 : List Cond := [Cond.methodLink RX0 155 yX0_changeCores, Cond.instanceMethod yX0_changeCores, Cond.selects RX0 yX0_changeCores yX0_changeCores, Cond.code yX0_changeCores cX0_changeCores 4 (some .int), Cond.methodLink RL 54 yL_isolate, Cond.static yL_isolate, Cond.codeWith yL_isolate cL_isolate 3 (some .int) [(0, 5, 6, 21)], Cond.methodLink RL 30 yX0_isolate, Cond.instanceMethod yX0_isolate, Cond.selects RX0 yX0_isolate yX0_isolate, Cond.code yX0_isolate cX0_isolate 4 (some .int), Cond.methodLink RL 57 yL_join, Cond.static yL_join, Cond.codeWith yL_join cL_join 4 (some .int) [(0, 6, 7, 21), (0, 6, 11, 23), (0, 6, 15, 14)], Cond.methodLink RL 17 yX0_join, Cond.instanceMethod yX0_join, Cond.selects RX0 yX0_join yX0_join, Cond.code yX0_join cX0_join 3 (some .int), Cond.methodLink RX0 50 yX0_raiseCores, Cond.instanceMethod yX0_raiseCores, Cond.selects RX0 yX0_raiseCores yX0_raiseCores, Cond.code yX0_raiseCores cX0_raiseCores 5 (some .int), Cond.methodLink RL 128 yL_areAlike, Cond.static yL_areAlike]
def wsL_law0_r7 : List Cond := [Cond.code yL_areAlike cL_areAlike 4 (some .boolean), Cond.methodLink RL 59 yX0_edges, Cond.instanceMethod yX0_edges, Cond.selects RX0 yX0_edges yX0_edges, Cond.code yX0_edges cX0_edges 1 (some .int), Cond.methodLink RL 62 yX0_changes, Cond.instanceMethod yX0_changes, Cond.selects RX0 yX0_changes yX0_changes, Cond.code yX0_changes cX0_changes 1 (some .int), Cond.methodLink RL 65 yX0_degeneracy, Cond.instanceMethod yX0_degeneracy, Cond.selects RX0 yX0_degeneracy yX0_degeneracy, Cond.code yX0_degeneracy cX0_degeneracy 3 (some .int), Cond.methodLink RX0 72 Lib.Math.max.name, Cond.static Lib.Math.max.name, Cond.code Lib.Math.max.name Lib.Math.max.code 2 (some .int), Cond.methodLink RL 68 yX0_triangles, Cond.instanceMethod yX0_triangles, Cond.selects RX0 yX0_triangles yX0_triangles, Cond.code yX0_triangles cX0_triangles 4 (some .int), Cond.methodLink RL 71 yX0_core, Cond.instanceMethod yX0_core, Cond.selects RX0 yX0_core yX0_core, Cond.code yX0_core cX0_core 2 (some .int)]
def wsL_law0_r8 : List Cond := [Cond.methodLink RL 74 yX0_degree, Cond.instanceMethod yX0_degree, Cond.selects RX0 yX0_degree yX0_degree, Cond.code yX0_degree cX0_degree 2 (some .int), Cond.methodLink RL 132 yL_isNodeSo, Cond.static yL_isNodeSo, Cond.code yL_isNodeSo cL_isNodeSo 8 (some .boolean), Cond.methodLink RL 77 yX0_neighbour, Cond.instanceMethod yX0_neighbour, Cond.selects RX0 yX0_neighbour yX0_neighbour, Cond.code yX0_neighbour cX0_neighbour 5 (some .int), Cond.methodLink RL 80 yX0_areJoined, Cond.instanceMethod yX0_areJoined, Cond.selects RX0 yX0_areJoined yX0_areJoined, Cond.code yX0_areJoined cX0_areJoined 3 (some .boolean), Cond.methodLink RL 84 yX0_community, Cond.instanceMethod yX0_community, Cond.selects RX0 yX0_community yX0_community, Cond.code yX0_community cX0_community 3 (some .int), Cond.methodLink RX0 77 yX0_checkLevel, Cond.static yX0_checkLevel, Cond.code yX0_checkLevel cX0_checkLevel 1 none, Cond.methodLink RL 87 yL_together, Cond.static yL_together]
def wsL_law0_r9 : List Cond := [Cond.codeWith yL_together cL_together 4 (some .int) [(0, 6, 7, 21), (0, 6, 11, 28)], Cond.methodLink RL 34 yX0_together, Cond.instanceMethod yX0_together, Cond.selects RX0 yX0_together yX0_together, Cond.code yX0_together cX0_together 4 (some .int), Cond.methodLink RL 136 yL_arePairsSo, Cond.static yL_arePairsSo, Cond.code yL_arePairsSo cL_arePairsSo 7 (some .boolean), Cond.methodLink RL 103 yL_truss, Cond.static yL_truss, Cond.codeWith yL_truss cL_truss 4 (some .int) [(0, 6, 7, 21), (0, 6, 11, 28)], Cond.methodLink RL 37 yX0_truss, Cond.instanceMethod yX0_truss, Cond.selects RX0 yX0_truss yX0_truss, Cond.code yX0_truss cX0_truss 5 (some .int), Cond.methodLink RX0 124 yX0_startTrusses, Cond.instanceMethod yX0_startTrusses, Cond.selects RX0 yX0_startTrusses yX0_startTrusses, Cond.code yX0_startTrusses cX0_startTrusses 2 none, Cond.methodLink RX0 127 yX0_shrinkToTruss, Cond.instanceMethod yX0_shrinkToTruss, Cond.selects RX0 yX0_shrinkToTruss yX0_shrinkToTruss, Cond.code yX0_shrinkToTruss cX0_shrinkToTruss 4 none, Cond.methodLink RX0 158 yX0_dropWeakEdges]
def wsL_law0_r10 : List Cond := [Cond.instanceMethod yX0_dropWeakEdges, Cond.selects RX0 yX0_dropWeakEdges yX0_dropWeakEdges, Cond.code yX0_dropWeakEdges cX0_dropWeakEdges 5 (some .boolean), Cond.methodLink RL 105 yX0_support, Cond.instanceMethod yX0_support, Cond.selects RX0 yX0_support yX0_support, Cond.code yX0_support cX0_support 3 (some .int), Cond.methodLink RL 108 yX0_trussSize, Cond.instanceMethod yX0_trussSize, Cond.selects RX0 yX0_trussSize yX0_trussSize, Cond.code yX0_trussSize cX0_trussSize 4 (some .int), Cond.methodLink RL 140 yL_isPeeledSo, Cond.static yL_isPeeledSo, Cond.code yL_isPeeledSo cL_isPeeledSo 9 (some .boolean), Cond.methodLink RL 89 yX0_peeled, Cond.instanceMethod yX0_peeled, Cond.selects RX0 yX0_peeled yX0_peeled, Cond.code yX0_peeled cX0_peeled 4 (some .int), Cond.methodLink RX0 109 yX0_allNodes, Cond.instanceMethod yX0_allNodes, Cond.selects RX0 yX0_allNodes yX0_allNodes, Cond.code yX0_allNodes cX0_allNodes 1 (some .int), Cond.methodLink RX0 112 yX0_nextToPeel, Cond.instanceMethod yX0_nextToPeel]
def wsL_law0_r11 : List Cond := [Cond.selects RX0 yX0_nextToPeel yX0_nextToPeel, Cond.code yX0_nextToPeel cX0_nextToPeel 5 (some .int), Cond.methodLink RL 92 yX0_isDense, Cond.instanceMethod yX0_isDense, Cond.selects RX0 yX0_isDense yX0_isDense, Cond.code yX0_isDense cX0_isDense 2 (some .boolean), Cond.methodLink RX0 118 yX0_denseSet, Cond.instanceMethod yX0_denseSet, Cond.selects RX0 yX0_denseSet yX0_denseSet, Cond.code yX0_denseSet cX0_denseSet 6 (some .int), Cond.methodLink RX0 121 yX0_edgesWithin, Cond.instanceMethod yX0_edgesWithin, Cond.selects RX0 yX0_edgesWithin yX0_edgesWithin, Cond.code yX0_edgesWithin cX0_edgesWithin 4 (some .int), Cond.methodLink RL 96 yX0_denseSize, Cond.instanceMethod yX0_denseSize, Cond.selects RX0 yX0_denseSize yX0_denseSize, Cond.code yX0_denseSize cX0_denseSize 1 (some .int), Cond.methodLink RL 99 yX0_density, Cond.instanceMethod yX0_density, Cond.selects RX0 yX0_density yX0_density, Cond.code yX0_density cX0_density 2 (some .double), Cond.methodLink RL 144 yL_areCoresSo, Cond.static yL_areCoresSo]
def wsL_law0_r12 : List Cond := [Cond.code yL_areCoresSo cL_areCoresSo 4 (some .boolean), Cond.methodLink RL 111 yX0_coreSize, Cond.instanceMethod yX0_coreSize, Cond.selects RX0 yX0_coreSize yX0_coreSize, Cond.code yX0_coreSize cX0_coreSize 2 (some .int), Cond.methodLink RL 114 yX0_communities, Cond.instanceMethod yX0_communities, Cond.selects RX0 yX0_communities yX0_communities, Cond.code yX0_communities cX0_communities 2 (some .int), Cond.methodLink RX0 89 yX0_countCommunities, Cond.instanceMethod yX0_countCommunities, Cond.selects RX0 yX0_countCommunities yX0_countCommunities, Cond.code yX0_countCommunities cX0_countCommunities 6 (some .int), Cond.methodLink RL 117 yX0_hierarchy, Cond.instanceMethod yX0_hierarchy, Cond.selects RX0 yX0_hierarchy yX0_hierarchy, Cond.code yX0_hierarchy cX0_hierarchy 4 (some .int), Cond.methodLink RX0 100 yX0_degeneracy]
def wsL_law0 : List Cond := (wsL_law0_r1 ++ (wsL_law0_r2 ++ (wsL_law0_r3 ++ (wsL_law0_r4 ++ (wsL_law0_r5 ++ (wsL_law0_r6 ++ (wsL_law0_r7 ++ (wsL_law0_r8 ++ (wsL_law0_r9 ++ (wsL_law0_r10 ++ (wsL_law0_r11 ++ wsL_law0_r12))))))))))) ++ wsX00 ++ ([] : List Cond)
def wsL_law : List Cond := wsL_law0 ++ (vx_atS RX0 33 "java/lang/IllegalStateException" ["java/lang/RuntimeException", "java/lang/Exception"]).filter goodWord ++ (vx_atS RX0 134 "java/lang/IllegalArgumentException" ["java/lang/RuntimeException", "java/lang/Exception"]).filter goodWord ++ (vx_atS RX0 71 "java/lang/IndexOutOfBoundsException" ["java/lang/RuntimeException", "java/lang/Exception"]).filter goodWord ++ zat99.filter goodWord
abbrev vwCl : List vw_C := [(RX0, TX0, 6)]
end
section
theorem dX0_init_0 : decode cX0_init 0 = .ok (.aload_n 0, 1) := by decide +kernel
theorem dX0_init_1 : decode cX0_init 1 = .ok (.invokespecial 3, 3) := by decide +kernel
theorem dX0_init_4 : decode cX0_init 4 = .ok (.aload_n 0, 1) := by decide +kernel
theorem dX0_init_5 : decode cX0_init 5 = .ok (.bipush 20, 2) := by decide +kernel
theorem dX0_init_7 : decode cX0_init 7 = .ok (.newarray .int, 2) := by decide +kernel
theorem dX0_init_9 : decode cX0_init 9 = .ok (.putfield 9, 3) := by decide +kernel
theorem dX0_init_12 : decode cX0_init 12 = .ok (.aload_n 0, 1) := by decide +kernel
theorem dX0_init_13 : decode cX0_init 13 = .ok (.bipush 20, 2) := by decide +kernel
theorem dX0_init_15 : decode cX0_init 15 = .ok (.newarray .int, 2) := by decide +kernel
theorem dX0_init_17 : decode cX0_init 17 = .ok (.putfield 13, 3) := by decide +kernel
theorem dX0_init_20 : decode cX0_init 20 = .ok (.aload_n 0, 1) := by decide +kernel
theorem dX0_init_21 : decode cX0_init 21 = .ok (.bipush 20, 2) := by decide +kernel
theorem dX0_init_23 : decode cX0_init 23 = .ok (.newarray .int, 2) := by decide +kernel
theorem dX0_init_25 : decode cX0_init 25 = .ok (.putfield 16, 3) := by decide +kernel
theorem dX0_init_28 : decode cX0_init 28 = .ok (.aload_n 0, 1) := by decide +kernel
theorem dX0_init_29 : decode cX0_init 29 = .ok (.iconst 0, 1) := by decide +kernel
theorem dX0_init_30 : decode cX0_init 30 = .ok (.putfield 19, 3) := by decide +kernel
theorem dX0_init_33 : decode cX0_init 33 = .ok (.aload_n 0, 1) := by decide +kernel
theorem dX0_init_34 : decode cX0_init 34 = .ok (.iconst 0, 1) := by decide +kernel
theorem dX0_init_35 : decode cX0_init 35 = .ok (.putfield 23, 3) := by decide +kernel
theorem dX0_init_38 : decode cX0_init 38 = .ok (.aload_n 0, 1) := by decide +kernel
theorem dX0_init_39 : decode cX0_init 39 = .ok (.iconst 0, 1) := by decide +kernel
theorem dX0_init_40 : decode cX0_init 40 = .ok (.putfield 26, 3) := by decide +kernel
theorem dX0_init_43 : decode cX0_init 43 = .ok (.return_, 1) := by decide +kernel
theorem dX0_addNode_0 : decode cX0_addNode 0 = .ok (.aload_n 0, 1) := by decide +kernel
theorem dX0_addNode_1 : decode cX0_addNode 1 = .ok (.getfield 19, 3) := by decide +kernel
theorem dX0_addNode_4 : decode cX0_addNode 4 = .ok (.bipush 20, 2) := by decide +kernel
theorem dX0_addNode_6 : decode cX0_addNode 6 = .ok (.if_icmp .lt 13, 3) := by decide +kernel
theorem dX0_addNode_9 : decode cX0_addNode 9 = .ok (.new 29, 3) := by decide +kernel
theorem dX0_addNode_12 : decode cX0_addNode 12 = .ok (.dup, 1) := by decide +kernel
theorem dX0_addNode_13 : decode cX0_addNode 13 = .ok (.ldc 31, 2) := by decide +kernel
theorem dX0_addNode_15 : decode cX0_addNode 15 = .ok (.invokespecial 33, 3) := by decide +kernel
theorem dX0_addNode_18 : decode cX0_addNode 18 = .ok (.athrow, 1) := by decide +kernel
theorem dX0_addNode_19 : decode cX0_addNode 19 = .ok (.aload_n 0, 1) := by decide +kernel
theorem dX0_addNode_20 : decode cX0_addNode 20 = .ok (.getfield 19, 3) := by decide +kernel
theorem dX0_addNode_23 : decode cX0_addNode 23 = .ok (.istore_n 1, 1) := by decide +kernel
theorem dX0_addNode_24 : decode cX0_addNode 24 = .ok (.aload_n 0, 1) := by decide +kernel
theorem dX0_addNode_25 : decode cX0_addNode 25 = .ok (.dup, 1) := by decide +kernel
theorem dX0_addNode_26 : decode cX0_addNode 26 = .ok (.getfield 19, 3) := by decide +kernel
theorem dX0_addNode_29 : decode cX0_addNode 29 = .ok (.iconst 1, 1) := by decide +kernel
theorem dX0_addNode_30 : decode cX0_addNode 30 = .ok (.iadd, 1) := by decide +kernel
theorem dX0_addNode_31 : decode cX0_addNode 31 = .ok (.putfield 19, 3) := by decide +kernel
theorem dX0_addNode_34 : decode cX0_addNode 34 = .ok (.iload_n 1, 1) := by decide +kernel
theorem dX0_addNode_35 : decode cX0_addNode 35 = .ok (.ireturn, 1) := by decide +kernel
set_option maxRecDepth 20000 in
theorem ggX0_join_X0_checkPair : GoodIn wsX0_join wsX0_checkPair := goodIn_ca (goodIn_ca (goodIn_r _ [9, 10, 11, 12, 13, 14, 8, 15, 16, 17, 18, 75, 76, 77, 78, 79, 80] (by decide +kernel) (by decide +kernel)) (goodIn_sub (fun _ h => List.mem_cons_of_mem _ (List.mem_append_left _ (List.mem_append_right _ h))) (by decide +kernel))) (goodIn_sub (fun _ h => List.mem_cons_of_mem _ (List.mem_append_right _ h)) (by decide +kernel))
set_option maxRecDepth 20000 in
theorem gX0_join_X0_checkPair : GoodIn wsX0_join (wsV RX0 36 RX0 yX0_checkPair wsX0_checkPair) := goodIn_app (goodIn_of _ (by decide +kernel)) ggX0_join_X0_checkPair
set_option maxRecDepth 20000 in
theorem ggX0_join_X0_contains : GoodIn wsX0_join wsX0_contains := goodIn_r _ [21, 22, 23, 8, 24] (by decide +kernel) (by decide +kernel)
set_option maxRecDepth 20000 in
theorem gX0_join_X0_contains : GoodIn wsX0_join (va_wsS RX0 40 yX0_contains wsX0_contains) := goodIn_app (goodIn_of _ (by decide +kernel)) ggX0_join_X0_contains
set_option maxRecDepth 20000 in
theorem ggX0_join_X0_with : GoodIn wsX0_join wsX0_with := goodIn_r _ [27, 22, 23, 8, 24] (by decide +kernel) (by decide +kernel)
set_option maxRecDepth 20000 in
theorem gX0_join_X0_with : GoodIn wsX0_join (va_wsS RX0 46 yX0_with wsX0_with) := goodIn_app (goodIn_of _ (by decide +kernel)) ggX0_join_X0_with
set_option maxRecDepth 20000 in
theorem ggX0_join_X0_raiseCores : GoodIn wsX0_join wsX0_raiseCores := goodIn_r _ [31, 32, 33, 34, 35, 36, 37, 38, 39, 8, 40, 22, 23, 24, 25, 26, 27, 41, 42, 43, 44, 45, 46, 47, 48, 18, 49, 50, 51, 52, 3, 19, 20, 21, 53, 54, 55, 56, 57, 58, 59, 60, 61, 62, 63, 64, 65, 66, 67, 68, 69, 70, 71, 72, 73, 74, 75, 76, 77, 78, 79, 80] (by decide +kernel) (by decide +kernel)
set_option maxRecDepth 20000 in
theorem gX0_join_X0_raiseCores : GoodIn wsX0_join (wsV RX0 50 RX0 yX0_raiseCores wsX0_raiseCores) := goodIn_app (goodIn_of _ (by decide +kernel)) ggX0_join_X0_raiseCores
theorem dX0_join_0 : decode cX0_join 0 = .ok (.aload_n 0, 1) := by decide +kernel
theorem dX0_join_1 : decode cX0_join 1 = .ok (.iload_n 1, 1) := by decide +kernel
theorem dX0_join_2 : decode cX0_join 2 = .ok (.iload_n 2, 1) := by decide +kernel
theorem dX0_join_3 : decode cX0_join 3 = .ok (.invokevirtual 36, 3) := by decide +kernel
theorem dX0_join_6 : decode cX0_join 6 = .ok (.aload_n 0, 1) := by decide +kernel
theorem dX0_join_7 : decode cX0_join 7 = .ok (.getfield 9, 3) := by decide +kernel
theorem dX0_join_10 : decode cX0_join 10 = .ok (.iload_n 1, 1) := by decide +kernel
theorem dX0_join_11 : decode cX0_join 11 = .ok (.iaload, 1) := by decide +kernel
theorem dX0_join_12 : decode cX0_join 12 = .ok (.iload_n 2, 1) := by decide +kernel
theorem dX0_join_13 : decode cX0_join 13 = .ok (.invokestatic 40, 3) := by decide +kernel
theorem dX0_join_16 : decode cX0_join 16 = .ok (.ifCond .eq 13, 3) := by decide +kernel
theorem dX0_join_19 : decode cX0_join 19 = .ok (.new 29, 3) := by decide +kernel
theorem dX0_join_22 : decode cX0_join 22 = .ok (.dup, 1) := by decide +kernel
theorem dX0_join_23 : decode cX0_join 23 = .ok (.ldc 44, 2) := by decide +kernel
theorem dX0_join_25 : decode cX0_join 25 = .ok (.invokespecial 33, 3) := by decide +kernel
theorem dX0_join_28 : decode cX0_join 28 = .ok (.athrow, 1) := by decide +kernel
theorem dX0_join_29 : decode cX0_join 29 = .ok (.aload_n 0, 1) := by decide +kernel
theorem dX0_join_30 : decode cX0_join 30 = .ok (.getfield 9, 3) := by decide +kernel
theorem dX0_join_33 : decode cX0_join 33 = .ok (.iload_n 1, 1) := by decide +kernel
theorem dX0_join_34 : decode cX0_join 34 = .ok (.aload_n 0, 1) := by decide +kernel
theorem dX0_join_35 : decode cX0_join 35 = .ok (.getfield 9, 3) := by decide +kernel
theorem dX0_join_38 : decode cX0_join 38 = .ok (.iload_n 1, 1) := by decide +kernel
theorem dX0_join_39 : decode cX0_join 39 = .ok (.iaload, 1) := by decide +kernel
theorem dX0_join_40 : decode cX0_join 40 = .ok (.iload_n 2, 1) := by decide +kernel
theorem dX0_join_41 : decode cX0_join 41 = .ok (.invokestatic 46, 3) := by decide +kernel
theorem dX0_join_44 : decode cX0_join 44 = .ok (.iastore, 1) := by decide +kernel
theorem dX0_join_45 : decode cX0_join 45 = .ok (.aload_n 0, 1) := by decide +kernel
theorem dX0_join_46 : decode cX0_join 46 = .ok (.getfield 9, 3) := by decide +kernel
theorem dX0_join_49 : decode cX0_join 49 = .ok (.iload_n 2, 1) := by decide +kernel
theorem dX0_join_50 : decode cX0_join 50 = .ok (.aload_n 0, 1) := by decide +kernel
theorem dX0_join_51 : decode cX0_join 51 = .ok (.getfield 9, 3) := by decide +kernel
theorem dX0_join_54 : decode cX0_join 54 = .ok (.iload_n 2, 1) := by decide +kernel
theorem dX0_join_55 : decode cX0_join 55 = .ok (.iaload, 1) := by decide +kernel
theorem dX0_join_56 : decode cX0_join 56 = .ok (.iload_n 1, 1) := by decide +kernel
theorem dX0_join_57 : decode cX0_join 57 = .ok (.invokestatic 46, 3) := by decide +kernel
theorem dX0_join_60 : decode cX0_join 60 = .ok (.iastore, 1) := by decide +kernel
theorem dX0_join_61 : decode cX0_join 61 = .ok (.aload_n 0, 1) := by decide +kernel
theorem dX0_join_62 : decode cX0_join 62 = .ok (.dup, 1) := by decide +kernel
theorem dX0_join_63 : decode cX0_join 63 = .ok (.getfield 23, 3) := by decide +kernel
theorem dX0_join_66 : decode cX0_join 66 = .ok (.iconst 1, 1) := by decide +kernel
theorem dX0_join_67 : decode cX0_join 67 = .ok (.iadd, 1) := by decide +kernel
theorem dX0_join_68 : decode cX0_join 68 = .ok (.putfield 23, 3) := by decide +kernel
theorem dX0_join_71 : decode cX0_join 71 = .ok (.aload_n 0, 1) := by decide +kernel
theorem dX0_join_72 : decode cX0_join 72 = .ok (.iload_n 1, 1) := by decide +kernel
theorem dX0_join_73 : decode cX0_join 73 = .ok (.iload_n 2, 1) := by decide +kernel
theorem dX0_join_74 : decode cX0_join 74 = .ok (.invokevirtual 50, 3) := by decide +kernel
theorem dX0_join_77 : decode cX0_join 77 = .ok (.ireturn, 1) := by decide +kernel
set_option maxRecDepth 20000 in
theorem ggX0_part_X0_checkPair : GoodIn wsX0_part wsX0_checkPair := goodIn_ca (goodIn_ca (goodIn_r _ [5, 6, 7, 8, 9, 10, 4, 11, 12, 13, 14, 79, 80, 81, 82, 83, 84] (by decide +kernel) (by decide +kernel)) (goodIn_sub (fun _ h => List.mem_cons_of_mem _ (List.mem_append_left _ (List.mem_append_left _ (List.mem_append_right _ h)))) (by decide +kernel))) (goodIn_sub (fun _ h => List.mem_cons_of_mem _ (List.mem_append_left _ (List.mem_append_right _ h))) (by decide +kernel))
set_option maxRecDepth 20000 in
theorem gX0_part_X0_checkPair : GoodIn wsX0_part (wsV RX0 36 RX0 yX0_checkPair wsX0_checkPair) := goodIn_app (goodIn_of _ (by decide +kernel)) ggX0_part_X0_checkPair
set_option maxRecDepth 20000 in
theorem ggX0_part_X0_checkEdge : GoodIn wsX0_part wsX0_checkEdge := goodIn_ca (goodIn_r _ [18, 19, 20, 21, 22, 23, 4, 24, 25, 26, 27, 79, 80, 81, 82, 83, 84] (by decide +kernel) (by decide +kernel)) (goodIn_sub (fun _ h => List.mem_cons_of_mem _ (List.mem_append_right _ h)) (by decide +kernel))
set_option maxRecDepth 20000 in
theorem gX0_part_X0_checkEdge : GoodIn wsX0_part (wsV RX0 53 RX0 yX0_checkEdge wsX0_checkEdge) := goodIn_app (goodIn_of _ (by decide +kernel)) ggX0_part_X0_checkEdge
set_option maxRecDepth 20000 in
theorem ggX0_part_X0_cutEdge : GoodIn wsX0_part wsX0_cutEdge := goodIn_r _ [31, 32, 33, 34, 35, 36, 21, 37, 38, 39, 4, 40, 25, 26, 27, 41, 42, 43, 44, 45, 46, 47, 48, 49, 50, 51, 52, 53, 54, 55, 14, 56, 57, 58, 59, 22, 23, 24, 60, 61, 62, 63, 64, 65, 66, 67, 68, 69, 70, 71, 72, 73, 74, 75, 76, 77, 78, 79, 80, 81, 82, 83, 84] (by decide +kernel) (by decide +kernel)
set_option maxRecDepth 20000 in
theorem gX0_part_X0_cutEdge : GoodIn wsX0_part (wsV RX0 56 RX0 yX0_cutEdge wsX0_cutEdge) := goodIn_app (goodIn_of _ (by decide +kernel)) ggX0_part_X0_cutEdge
theorem dX0_part_0 : decode cX0_part 0 = .ok (.aload_n 0, 1) := by decide +kernel
theorem dX0_part_1 : decode cX0_part 1 = .ok (.iload_n 1, 1) := by decide +kernel
theorem dX0_part_2 : decode cX0_part 2 = .ok (.iload_n 2, 1) := by decide +kernel
theorem dX0_part_3 : decode cX0_part 3 = .ok (.invokevirtual 36, 3) := by decide +kernel
theorem dX0_part_6 : decode cX0_part 6 = .ok (.aload_n 0, 1) := by decide +kernel
theorem dX0_part_7 : decode cX0_part 7 = .ok (.iload_n 1, 1) := by decide +kernel
theorem dX0_part_8 : decode cX0_part 8 = .ok (.iload_n 2, 1) := by decide +kernel
theorem dX0_part_9 : decode cX0_part 9 = .ok (.invokevirtual 53, 3) := by decide +kernel
theorem dX0_part_12 : decode cX0_part 12 = .ok (.aload_n 0, 1) := by decide +kernel
theorem dX0_part_13 : decode cX0_part 13 = .ok (.iload_n 1, 1) := by decide +kernel
theorem dX0_part_14 : decode cX0_part 14 = .ok (.iload_n 2, 1) := by decide +kernel
theorem dX0_part_15 : decode cX0_part 15 = .ok (.invokevirtual 56, 3) := by decide +kernel
theorem dX0_part_18 : decode cX0_part 18 = .ok (.ireturn, 1) := by decide +kernel
set_option maxRecDepth 20000 in
theorem ggX0_isolate_X0_checkNode : GoodIn wsX0_isolate wsX0_checkNode := goodIn_ca (goodIn_r _ [7, 8, 9, 1, 67, 68, 69, 70, 71, 72] (by decide +kernel) (by decide +kernel)) (goodIn_sub (fun _ h => List.mem_cons_of_mem _ (List.mem_append_right _ h)) (by decide +kernel))
set_option maxRecDepth 20000 in
theorem gX0_isolate_X0_checkNode : GoodIn wsX0_isolate (wsV RX0 59 RX0 yX0_checkNode wsX0_checkNode) := goodIn_app (goodIn_of _ (by decide +kernel)) ggX0_isolate_X0_checkNode
set_option maxRecDepth 20000 in
theorem ggX0_isolate_X0_contains : GoodIn wsX0_isolate wsX0_contains := goodIn_r _ [12, 13, 14, 6, 15] (by decide +kernel) (by decide +kernel)
set_option maxRecDepth 20000 in
theorem gX0_isolate_X0_contains : GoodIn wsX0_isolate (va_wsS RX0 40 yX0_contains wsX0_contains) := goodIn_app (goodIn_of _ (by decide +kernel)) ggX0_isolate_X0_contains
set_option maxRecDepth 20000 in
theorem ggX0_isolate_X0_cutEdge : GoodIn wsX0_isolate wsX0_cutEdge := goodIn_r _ [19, 20, 21, 22, 23, 24, 2, 25, 26, 27, 6, 28, 13, 14, 15, 29, 30, 31, 32, 33, 34, 35, 36, 37, 38, 39, 40, 41, 42, 43, 1, 44, 45, 46, 47, 10, 11, 12, 48, 49, 50, 51, 52, 53, 54, 55, 56, 57, 58, 59, 60, 61, 62, 63, 64, 65, 66, 67, 68, 69, 70, 71, 72] (by decide +kernel) (by decide +kernel)
set_option maxRecDepth 20000 in
theorem gX0_isolate_X0_cutEdge : GoodIn wsX0_isolate (wsV RX0 56 RX0 yX0_cutEdge wsX0_cutEdge) := goodIn_app (goodIn_of _ (by decide +kernel)) ggX0_isolate_X0_cutEdge
theorem dX0_isolate_0 : decode cX0_isolate 0 = .ok (.aload_n 0, 1) := by decide +kernel
theorem dX0_isolate_1 : decode cX0_isolate 1 = .ok (.iload_n 1, 1) := by decide +kernel
theorem dX0_isolate_2 : decode cX0_isolate 2 = .ok (.invokevirtual 59, 3) := by decide +kernel
theorem dX0_isolate_5 : decode cX0_isolate 5 = .ok (.iconst 0, 1) := by decide +kernel
theorem dX0_isolate_6 : decode cX0_isolate 6 = .ok (.istore_n 2, 1) := by decide +kernel
theorem dX0_isolate_7 : decode cX0_isolate 7 = .ok (.iconst 0, 1) := by decide +kernel
theorem dX0_isolate_8 : decode cX0_isolate 8 = .ok (.istore_n 3, 1) := by decide +kernel
theorem dX0_isolate_9 : decode cX0_isolate 9 = .ok (.iload_n 3, 1) := by decide +kernel
theorem dX0_isolate_10 : decode cX0_isolate 10 = .ok (.aload_n 0, 1) := by decide +kernel
theorem dX0_isolate_11 : decode cX0_isolate 11 = .ok (.getfield 19, 3) := by decide +kernel
theorem dX0_isolate_14 : decode cX0_isolate 14 = .ok (.if_icmp .ge 32, 3) := by decide +kernel
theorem dX0_isolate_17 : decode cX0_isolate 17 = .ok (.aload_n 0, 1) := by decide +kernel
theorem dX0_isolate_18 : decode cX0_isolate 18 = .ok (.getfield 9, 3) := by decide +kernel
theorem dX0_isolate_21 : decode cX0_isolate 21 = .ok (.iload_n 1, 1) := by decide +kernel
theorem dX0_isolate_22 : decode cX0_isolate 22 = .ok (.iaload, 1) := by decide +kernel
theorem dX0_isolate_23 : decode cX0_isolate 23 = .ok (.iload_n 3, 1) := by decide +kernel
theorem dX0_isolate_24 : decode cX0_isolate 24 = .ok (.invokestatic 40, 3) := by decide +kernel
theorem dX0_isolate_27 : decode cX0_isolate 27 = .ok (.ifCond .eq 13, 3) := by decide +kernel
theorem dX0_isolate_30 : decode cX0_isolate 30 = .ok (.aload_n 0, 1) := by decide +kernel
theorem dX0_isolate_31 : decode cX0_isolate 31 = .ok (.iload_n 1, 1) := by decide +kernel
theorem dX0_isolate_32 : decode cX0_isolate 32 = .ok (.iload_n 3, 1) := by decide +kernel
theorem dX0_isolate_33 : decode cX0_isolate 33 = .ok (.invokevirtual 56, 3) := by decide +kernel
theorem dX0_isolate_36 : decode cX0_isolate 36 = .ok (.pop, 1) := by decide +kernel
theorem dX0_isolate_37 : decode cX0_isolate 37 = .ok (.iinc 2 1, 3) := by decide +kernel
theorem dX0_isolate_40 : decode cX0_isolate 40 = .ok (.iinc 3 1, 3) := by decide +kernel
theorem dX0_isolate_43 : decode cX0_isolate 43 = .ok (.goto (-34), 3) := by decide +kernel
theorem dX0_isolate_46 : decode cX0_isolate 46 = .ok (.iload_n 2, 1) := by decide +kernel
theorem dX0_isolate_47 : decode cX0_isolate 47 = .ok (.ireturn, 1) := by decide +kernel
theorem dX0_nodes_0 : decode cX0_nodes 0 = .ok (.aload_n 0, 1) := by decide +kernel
theorem dX0_nodes_1 : decode cX0_nodes 1 = .ok (.getfield 19, 3) := by decide +kernel
theorem dX0_nodes_4 : decode cX0_nodes 4 = .ok (.ireturn, 1) := by decide +kernel
theorem dX0_edges_0 : decode cX0_edges 0 = .ok (.aload_n 0, 1) := by decide +kernel
theorem dX0_edges_1 : decode cX0_edges 1 = .ok (.getfield 23, 3) := by decide +kernel
theorem dX0_edges_4 : decode cX0_edges 4 = .ok (.ireturn, 1) := by decide +kernel
set_option maxRecDepth 20000 in
theorem ggX0_degree_X0_checkNode : GoodIn wsX0_degree wsX0_checkNode := goodIn_ca (goodIn_r _ [6, 7, 8, 9, 20, 21, 22, 23, 24, 25] (by decide +kernel) (by decide +kernel)) (goodIn_sub (fun _ h => List.mem_cons_of_mem _ (List.mem_append_right _ h)) (by decide +kernel))
set_option maxRecDepth 20000 in
theorem gX0_degree_X0_checkNode : GoodIn wsX0_degree (wsV RX0 59 RX0 yX0_checkNode wsX0_checkNode) := goodIn_app (goodIn_of _ (by decide +kernel)) ggX0_degree_X0_checkNode
set_option maxRecDepth 20000 in
theorem ggX0_degree_X0_size : GoodIn wsX0_degree wsX0_size := goodIn_r _ [12, 13, 14, 15, 16, 17, 18, 19] (by decide +kernel) (by decide +kernel)
set_option maxRecDepth 20000 in
theorem gX0_degree_X0_size : GoodIn wsX0_degree (va_wsS RX0 63 yX0_size wsX0_size) := goodIn_app (goodIn_of _ (by decide +kernel)) ggX0_degree_X0_size
theorem dX0_degree_0 : decode cX0_degree 0 = .ok (.aload_n 0, 1) := by decide +kernel
theorem dX0_degree_1 : decode cX0_degree 1 = .ok (.iload_n 1, 1) := by decide +kernel
theorem dX0_degree_2 : decode cX0_degree 2 = .ok (.invokevirtual 59, 3) := by decide +kernel
theorem dX0_degree_5 : decode cX0_degree 5 = .ok (.aload_n 0, 1) := by decide +kernel
theorem dX0_degree_6 : decode cX0_degree 6 = .ok (.getfield 9, 3) := by decide +kernel
theorem dX0_degree_9 : decode cX0_degree 9 = .ok (.iload_n 1, 1) := by decide +kernel
theorem dX0_degree_10 : decode cX0_degree 10 = .ok (.iaload, 1) := by decide +kernel
theorem dX0_degree_11 : decode cX0_degree 11 = .ok (.invokestatic 63, 3) := by decide +kernel
theorem dX0_degree_14 : decode cX0_degree 14 = .ok (.ireturn, 1) := by decide +kernel
set_option maxRecDepth 20000 in
theorem ggX0_neighbour_X0_checkNode : GoodIn wsX0_neighbour wsX0_checkNode := goodIn_ca (goodIn_r _ [9, 1, 2, 3, 16, 17, 18, 19, 20, 21] (by decide +kernel) (by decide +kernel)) (goodIn_sub (fun _ h => List.mem_cons_of_mem _ (List.mem_append_right _ h)) (by decide +kernel))
set_option maxRecDepth 20000 in
theorem gX0_neighbour_X0_checkNode : GoodIn wsX0_neighbour (wsV RX0 59 RX0 yX0_checkNode wsX0_checkNode) := goodIn_app (goodIn_of _ (by decide +kernel)) ggX0_neighbour_X0_checkNode
set_option maxRecDepth 20000 in
theorem ggX0_neighbour_X0_contains : GoodIn wsX0_neighbour wsX0_contains := goodIn_r _ [12, 13, 14, 8, 15] (by decide +kernel) (by decide +kernel)
set_option maxRecDepth 20000 in
theorem gX0_neighbour_X0_contains : GoodIn wsX0_neighbour (va_wsS RX0 40 yX0_contains wsX0_contains) := goodIn_app (goodIn_of _ (by decide +kernel)) ggX0_neighbour_X0_contains
theorem dX0_neighbour_0 : decode cX0_neighbour 0 = .ok (.aload_n 0, 1) := by decide +kernel
theorem dX0_neighbour_1 : decode cX0_neighbour 1 = .ok (.iload_n 1, 1) := by decide +kernel
theorem dX0_neighbour_2 : decode cX0_neighbour 2 = .ok (.invokevirtual 59, 3) := by decide +kernel
theorem dX0_neighbour_5 : decode cX0_neighbour 5 = .ok (.iconst 0, 1) := by decide +kernel
theorem dX0_neighbour_6 : decode cX0_neighbour 6 = .ok (.istore_n 3, 1) := by decide +kernel
theorem dX0_neighbour_7 : decode cX0_neighbour 7 = .ok (.iconst 0, 1) := by decide +kernel
theorem dX0_neighbour_8 : decode cX0_neighbour 8 = .ok (.istore 4, 2) := by decide +kernel
theorem dX0_neighbour_10 : decode cX0_neighbour 10 = .ok (.iload 4, 2) := by decide +kernel
theorem dX0_neighbour_12 : decode cX0_neighbour 12 = .ok (.aload_n 0, 1) := by decide +kernel
theorem dX0_neighbour_13 : decode cX0_neighbour 13 = .ok (.getfield 19, 3) := by decide +kernel
theorem dX0_neighbour_16 : decode cX0_neighbour 16 = .ok (.if_icmp .ge 34, 3) := by decide +kernel
theorem dX0_neighbour_19 : decode cX0_neighbour 19 = .ok (.aload_n 0, 1) := by decide +kernel
theorem dX0_neighbour_20 : decode cX0_neighbour 20 = .ok (.getfield 9, 3) := by decide +kernel
theorem dX0_neighbour_23 : decode cX0_neighbour 23 = .ok (.iload_n 1, 1) := by decide +kernel
theorem dX0_neighbour_24 : decode cX0_neighbour 24 = .ok (.iaload, 1) := by decide +kernel
theorem dX0_neighbour_25 : decode cX0_neighbour 25 = .ok (.iload 4, 2) := by decide +kernel
theorem dX0_neighbour_27 : decode cX0_neighbour 27 = .ok (.invokestatic 40, 3) := by decide +kernel
theorem dX0_neighbour_30 : decode cX0_neighbour 30 = .ok (.ifCond .eq 14, 3) := by decide +kernel
theorem dX0_neighbour_33 : decode cX0_neighbour 33 = .ok (.iload_n 3, 1) := by decide +kernel
theorem dX0_neighbour_34 : decode cX0_neighbour 34 = .ok (.iload_n 2, 1) := by decide +kernel
theorem dX0_neighbour_35 : decode cX0_neighbour 35 = .ok (.if_icmp .ne 6, 3) := by decide +kernel
theorem dX0_neighbour_38 : decode cX0_neighbour 38 = .ok (.iload 4, 2) := by decide +kernel
theorem dX0_neighbour_40 : decode cX0_neighbour 40 = .ok (.ireturn, 1) := by decide +kernel
theorem dX0_neighbour_41 : decode cX0_neighbour 41 = .ok (.iinc 3 1, 3) := by decide +kernel
theorem dX0_neighbour_44 : decode cX0_neighbour 44 = .ok (.iinc 4 1, 3) := by decide +kernel
theorem dX0_neighbour_47 : decode cX0_neighbour 47 = .ok (.goto (-37), 3) := by decide +kernel
theorem dX0_neighbour_50 : decode cX0_neighbour 50 = .ok (.new 67, 3) := by decide +kernel
theorem dX0_neighbour_53 : decode cX0_neighbour 53 = .ok (.dup, 1) := by decide +kernel
theorem dX0_neighbour_54 : decode cX0_neighbour 54 = .ok (.ldc 69, 2) := by decide +kernel
theorem dX0_neighbour_56 : decode cX0_neighbour 56 = .ok (.invokespecial 71, 3) := by decide +kernel
theorem dX0_neighbour_59 : decode cX0_neighbour 59 = .ok (.athrow, 1) := by decide +kernel
set_option maxRecDepth 20000 in
theorem ggX0_areJoined_X0_checkNode : GoodIn wsX0_areJoined wsX0_checkNode := goodIn_ca (goodIn_r _ [6, 7, 8, 9, 16, 17, 18, 19, 20, 21] (by decide +kernel) (by decide +kernel)) (goodIn_sub (fun _ h => List.mem_cons_of_mem _ (List.mem_append_right _ h)) (by decide +kernel))
set_option maxRecDepth 20000 in
theorem gX0_areJoined_X0_checkNode : GoodIn wsX0_areJoined (wsV RX0 59 RX0 yX0_checkNode wsX0_checkNode) := goodIn_app (goodIn_of _ (by decide +kernel)) ggX0_areJoined_X0_checkNode
set_option maxRecDepth 20000 in
theorem ggX0_areJoined_X0_contains : GoodIn wsX0_areJoined wsX0_contains := goodIn_r _ [12, 13, 14, 5, 15] (by decide +kernel) (by decide +kernel)
set_option maxRecDepth 20000 in
theorem gX0_areJoined_X0_contains : GoodIn wsX0_areJoined (va_wsS RX0 40 yX0_contains wsX0_contains) := goodIn_app (goodIn_of _ (by decide +kernel)) ggX0_areJoined_X0_contains
theorem dX0_areJoined_0 : decode cX0_areJoined 0 = .ok (.aload_n 0, 1) := by decide +kernel
theorem dX0_areJoined_1 : decode cX0_areJoined 1 = .ok (.iload_n 1, 1) := by decide +kernel
theorem dX0_areJoined_2 : decode cX0_areJoined 2 = .ok (.invokevirtual 59, 3) := by decide +kernel
theorem dX0_areJoined_5 : decode cX0_areJoined 5 = .ok (.aload_n 0, 1) := by decide +kernel
theorem dX0_areJoined_6 : decode cX0_areJoined 6 = .ok (.iload_n 2, 1) := by decide +kernel
theorem dX0_areJoined_7 : decode cX0_areJoined 7 = .ok (.invokevirtual 59, 3) := by decide +kernel
theorem dX0_areJoined_10 : decode cX0_areJoined 10 = .ok (.aload_n 0, 1) := by decide +kernel
theorem dX0_areJoined_11 : decode cX0_areJoined 11 = .ok (.getfield 9, 3) := by decide +kernel
theorem dX0_areJoined_14 : decode cX0_areJoined 14 = .ok (.iload_n 1, 1) := by decide +kernel
theorem dX0_areJoined_15 : decode cX0_areJoined 15 = .ok (.iaload, 1) := by decide +kernel
theorem dX0_areJoined_16 : decode cX0_areJoined 16 = .ok (.iload_n 2, 1) := by decide +kernel
theorem dX0_areJoined_17 : decode cX0_areJoined 17 = .ok (.invokestatic 40, 3) := by decide +kernel
theorem dX0_areJoined_20 : decode cX0_areJoined 20 = .ok (.ireturn, 1) := by decide +kernel
set_option maxRecDepth 20000 in
theorem ggX0_core_X0_checkNode : GoodIn wsX0_core wsX0_checkNode := goodIn_ca (goodIn_r _ [6, 7, 8, 9, 10, 11, 12, 13, 14, 15] (by decide +kernel) (by decide +kernel)) (goodIn_sub (fun _ h => List.mem_cons_of_mem _ (List.mem_append_right _ h)) (by decide +kernel))
set_option maxRecDepth 20000 in
theorem gX0_core_X0_checkNode : GoodIn wsX0_core (wsV RX0 59 RX0 yX0_checkNode wsX0_checkNode) := goodIn_app (goodIn_of _ (by decide +kernel)) ggX0_core_X0_checkNode
theorem dX0_core_0 : decode cX0_core 0 = .ok (.aload_n 0, 1) := by decide +kernel
theorem dX0_core_1 : decode cX0_core 1 = .ok (.iload_n 1, 1) := by decide +kernel
theorem dX0_core_2 : decode cX0_core 2 = .ok (.invokevirtual 59, 3) := by decide +kernel
theorem dX0_core_5 : decode cX0_core 5 = .ok (.aload_n 0, 1) := by decide +kernel
theorem dX0_core_6 : decode cX0_core 6 = .ok (.getfield 13, 3) := by decide +kernel
theorem dX0_core_9 : decode cX0_core 9 = .ok (.iload_n 1, 1) := by decide +kernel
theorem dX0_core_10 : decode cX0_core 10 = .ok (.iaload, 1) := by decide +kernel
theorem dX0_core_11 : decode cX0_core 11 = .ok (.ireturn, 1) := by decide +kernel
theorem dX0_degeneracy_0 : decode cX0_degeneracy 0 = .ok (.iconst 0, 1) := by decide +kernel
theorem dX0_degeneracy_1 : decode cX0_degeneracy 1 = .ok (.istore_n 1, 1) := by decide +kernel
theorem dX0_degeneracy_2 : decode cX0_degeneracy 2 = .ok (.iconst 0, 1) := by decide +kernel
theorem dX0_degeneracy_3 : decode cX0_degeneracy 3 = .ok (.istore_n 2, 1) := by decide +kernel
theorem dX0_degeneracy_4 : decode cX0_degeneracy 4 = .ok (.iload_n 2, 1) := by decide +kernel
theorem dX0_degeneracy_5 : decode cX0_degeneracy 5 = .ok (.aload_n 0, 1) := by decide +kernel
theorem dX0_degeneracy_6 : decode cX0_degeneracy 6 = .ok (.getfield 19, 3) := by decide +kernel
theorem dX0_degeneracy_9 : decode cX0_degeneracy 9 = .ok (.if_icmp .ge 20, 3) := by decide +kernel
theorem dX0_degeneracy_12 : decode cX0_degeneracy 12 = .ok (.iload_n 1, 1) := by decide +kernel
theorem dX0_degeneracy_13 : decode cX0_degeneracy 13 = .ok (.aload_n 0, 1) := by decide +kernel
theorem dX0_degeneracy_14 : decode cX0_degeneracy 14 = .ok (.getfield 13, 3) := by decide +kernel
theorem dX0_degeneracy_17 : decode cX0_degeneracy 17 = .ok (.iload_n 2, 1) := by decide +kernel
theorem dX0_degeneracy_18 : decode cX0_degeneracy 18 = .ok (.iaload, 1) := by decide +kernel
theorem dX0_degeneracy_19 : decode cX0_degeneracy 19 = .ok (.invokestatic 72, 3) := by decide +kernel
theorem dX0_degeneracy_22 : decode cX0_degeneracy 22 = .ok (.istore_n 1, 1) := by decide +kernel
theorem dX0_degeneracy_23 : decode cX0_degeneracy 23 = .ok (.iinc 2 1, 3) := by decide +kernel
theorem dX0_degeneracy_26 : decode cX0_degeneracy 26 = .ok (.goto (-22), 3) := by decide +kernel
theorem dX0_degeneracy_29 : decode cX0_degeneracy 29 = .ok (.iload_n 1, 1) := by decide +kernel
theorem dX0_degeneracy_30 : decode cX0_degeneracy 30 = .ok (.ireturn, 1) := by decide +kernel
set_option maxRecDepth 20000 in
theorem ggX0_coreSize_X0_checkLevel : GoodIn wsX0_coreSize wsX0_checkLevel := goodIn_ca (goodIn_r _ [4, 5, 6] (by decide +kernel) (by decide +kernel)) (goodIn_sub (fun _ h => List.mem_cons_of_mem _ (List.mem_append_right _ h)) (by decide +kernel))
set_option maxRecDepth 20000 in
theorem gX0_coreSize_X0_checkLevel : GoodIn wsX0_coreSize (va_wsS RX0 77 yX0_checkLevel wsX0_checkLevel) := goodIn_app (goodIn_of _ (by decide +kernel)) ggX0_coreSize_X0_checkLevel
set_option maxRecDepth 20000 in
theorem ggX0_coreSize_X0_coreSet : GoodIn wsX0_coreSize wsX0_coreSet := goodIn_r _ [10, 11, 12, 13, 14, 3, 15, 16, 17, 18, 29, 30, 31, 32, 33, 34] (by decide +kernel) (by decide +kernel)
set_option maxRecDepth 20000 in
theorem gX0_coreSize_X0_coreSet : GoodIn wsX0_coreSize (wsV RX0 80 RX0 yX0_coreSet wsX0_coreSet) := goodIn_app (goodIn_of _ (by decide +kernel)) ggX0_coreSize_X0_coreSet
set_option maxRecDepth 20000 in
theorem ggX0_coreSize_X0_size : GoodIn wsX0_coreSize wsX0_size := goodIn_r _ [21, 22, 23, 24, 25, 26, 27, 28] (by decide +kernel) (by decide +kernel)
set_option maxRecDepth 20000 in
theorem gX0_coreSize_X0_size : GoodIn wsX0_coreSize (va_wsS RX0 63 yX0_size wsX0_size) := goodIn_app (goodIn_of _ (by decide +kernel)) ggX0_coreSize_X0_size
theorem dX0_coreSize_0 : decode cX0_coreSize 0 = .ok (.iload_n 1, 1) := by decide +kernel
theorem dX0_coreSize_1 : decode cX0_coreSize 1 = .ok (.invokestatic 77, 3) := by decide +kernel
theorem dX0_coreSize_4 : decode cX0_coreSize 4 = .ok (.aload_n 0, 1) := by decide +kernel
theorem dX0_coreSize_5 : decode cX0_coreSize 5 = .ok (.iload_n 1, 1) := by decide +kernel
theorem dX0_coreSize_6 : decode cX0_coreSize 6 = .ok (.invokevirtual 80, 3) := by decide +kernel
theorem dX0_coreSize_9 : decode cX0_coreSize 9 = .ok (.invokestatic 63, 3) := by decide +kernel
theorem dX0_coreSize_12 : decode cX0_coreSize 12 = .ok (.ireturn, 1) := by decide +kernel
theorem dX0_changes_0 : decode cX0_changes 0 = .ok (.aload_n 0, 1) := by decide +kernel
theorem dX0_changes_1 : decode cX0_changes 1 = .ok (.getfield 26, 3) := by decide +kernel
theorem dX0_changes_4 : decode cX0_changes 4 = .ok (.ireturn, 1) := by decide +kernel
set_option maxRecDepth 20000 in
theorem ggX0_community_X0_checkNode : GoodIn wsX0_community wsX0_checkNode := goodIn_ca (goodIn_r _ [5, 6, 7, 8, 43, 44, 45, 46, 47, 48] (by decide +kernel) (by decide +kernel)) (goodIn_sub (fun _ h => List.mem_cons_of_mem _ (List.mem_append_left _ (List.mem_append_right _ h))) (by decide +kernel))
set_option maxRecDepth 20000 in
theorem gX0_community_X0_checkNode : GoodIn wsX0_community (wsV RX0 59 RX0 yX0_checkNode wsX0_checkNode) := goodIn_app (goodIn_of _ (by decide +kernel)) ggX0_community_X0_checkNode
set_option maxRecDepth 20000 in
theorem ggX0_community_X0_checkLevel : GoodIn wsX0_community wsX0_checkLevel := goodIn_ca (goodIn_r _ [11, 12, 13] (by decide +kernel) (by decide +kernel)) (goodIn_sub (fun _ h => List.mem_cons_of_mem _ (List.mem_append_right _ h)) (by decide +kernel))
set_option maxRecDepth 20000 in
theorem gX0_community_X0_checkLevel : GoodIn wsX0_community (va_wsS RX0 77 yX0_checkLevel wsX0_checkLevel) := goodIn_app (goodIn_of _ (by decide +kernel)) ggX0_community_X0_checkLevel
set_option maxRecDepth 20000 in
theorem ggX0_community_X0_single : GoodIn wsX0_community wsX0_single := goodIn_r _ [16] (by decide +kernel) (by decide +kernel)
set_option maxRecDepth 20000 in
theorem gX0_community_X0_single : GoodIn wsX0_community (va_wsS RX0 83 yX0_single wsX0_single) := goodIn_app (goodIn_of _ (by decide +kernel)) ggX0_community_X0_single
set_option maxRecDepth 20000 in
theorem ggX0_community_X0_coreSet : GoodIn wsX0_community wsX0_coreSet := goodIn_r _ [20, 8, 21, 22, 23, 4, 24, 14, 15, 16, 43, 44, 45, 46, 47, 48] (by decide +kernel) (by decide +kernel)
set_option maxRecDepth 20000 in
theorem gX0_community_X0_coreSet : GoodIn wsX0_community (wsV RX0 80 RX0 yX0_coreSet wsX0_coreSet) := goodIn_app (goodIn_of _ (by decide +kernel)) ggX0_community_X0_coreSet
set_option maxRecDepth 20000 in
theorem ggX0_community_X0_reach : GoodIn wsX0_community wsX0_reach := goodIn_r _ [28, 8, 29, 30, 31, 4, 32, 14, 15, 16, 43, 44, 45, 46, 47, 48] (by decide +kernel) (by decide +kernel)
set_option maxRecDepth 20000 in
theorem gX0_community_X0_reach : GoodIn wsX0_community (wsV RX0 86 RX0 yX0_reach wsX0_reach) := goodIn_app (goodIn_of _ (by decide +kernel)) ggX0_community_X0_reach
set_option maxRecDepth 20000 in
theorem ggX0_community_X0_size : GoodIn wsX0_community wsX0_size := goodIn_r _ [35, 36, 37, 38, 39, 40, 41, 42] (by decide +kernel) (by decide +kernel)
set_option maxRecDepth 20000 in
theorem gX0_community_X0_size : GoodIn wsX0_community (va_wsS RX0 63 yX0_size wsX0_size) := goodIn_app (goodIn_of _ (by decide +kernel)) ggX0_community_X0_size
theorem dX0_community_0 : decode cX0_community 0 = .ok (.aload_n 0, 1) := by decide +kernel
theorem dX0_community_1 : decode cX0_community 1 = .ok (.iload_n 1, 1) := by decide +kernel
theorem dX0_community_2 : decode cX0_community 2 = .ok (.invokevirtual 59, 3) := by decide +kernel
theorem dX0_community_5 : decode cX0_community 5 = .ok (.iload_n 2, 1) := by decide +kernel
theorem dX0_community_6 : decode cX0_community 6 = .ok (.invokestatic 77, 3) := by decide +kernel
theorem dX0_community_9 : decode cX0_community 9 = .ok (.aload_n 0, 1) := by decide +kernel
theorem dX0_community_10 : decode cX0_community 10 = .ok (.iload_n 1, 1) := by decide +kernel
theorem dX0_community_11 : decode cX0_community 11 = .ok (.invokestatic 83, 3) := by decide +kernel
theorem dX0_community_14 : decode cX0_community 14 = .ok (.aload_n 0, 1) := by decide +kernel
theorem dX0_community_15 : decode cX0_community 15 = .ok (.iload_n 2, 1) := by decide +kernel
theorem dX0_community_16 : decode cX0_community 16 = .ok (.invokevirtual 80, 3) := by decide +kernel
theorem dX0_community_19 : decode cX0_community 19 = .ok (.invokevirtual 86, 3) := by decide +kernel
theorem dX0_community_22 : decode cX0_community 22 = .ok (.invokestatic 63, 3) := by decide +kernel
theorem dX0_community_25 : decode cX0_community 25 = .ok (.ireturn, 1) := by decide +kernel
set_option maxRecDepth 20000 in
theorem ggX0_communities_X0_checkLevel : GoodIn wsX0_communities wsX0_checkLevel := goodIn_ca (goodIn_r _ [4, 5, 6] (by decide +kernel) (by decide +kernel)) (goodIn_sub (fun _ h => List.mem_cons_of_mem _ (List.mem_append_right _ h)) (by decide +kernel))
set_option maxRecDepth 20000 in
theorem gX0_communities_X0_checkLevel : GoodIn wsX0_communities (va_wsS RX0 77 yX0_checkLevel wsX0_checkLevel) := goodIn_app (goodIn_of _ (by decide +kernel)) ggX0_communities_X0_checkLevel
set_option maxRecDepth 20000 in
theorem ggX0_communities_X0_coreSet : GoodIn wsX0_communities wsX0_coreSet := goodIn_r _ [10, 11, 12, 13, 14, 3, 15, 16, 17, 18, 31, 32, 33, 34, 35, 36] (by decide +kernel) (by decide +kernel)
set_option maxRecDepth 20000 in
theorem gX0_communities_X0_coreSet : GoodIn wsX0_communities (wsV RX0 80 RX0 yX0_coreSet wsX0_coreSet) := goodIn_app (goodIn_of _ (by decide +kernel)) ggX0_communities_X0_coreSet
set_option maxRecDepth 20000 in
theorem ggX0_communities_X0_countCommunities : GoodIn wsX0_communities wsX0_countCommunities := goodIn_r _ [22, 11, 23, 24, 3, 25, 16, 17, 18, 26, 27, 28, 29, 30, 31, 32, 33, 34, 35, 36] (by decide +kernel) (by decide +kernel)
set_option maxRecDepth 20000 in
theorem gX0_communities_X0_countCommunities : GoodIn wsX0_communities (wsV RX0 89 RX0 yX0_countCommunities wsX0_countCommunities) := goodIn_app (goodIn_of _ (by decide +kernel)) ggX0_communities_X0_countCommunities
theorem dX0_communities_0 : decode cX0_communities 0 = .ok (.iload_n 1, 1) := by decide +kernel
theorem dX0_communities_1 : decode cX0_communities 1 = .ok (.invokestatic 77, 3) := by decide +kernel
theorem dX0_communities_4 : decode cX0_communities 4 = .ok (.aload_n 0, 1) := by decide +kernel
theorem dX0_communities_5 : decode cX0_communities 5 = .ok (.aload_n 0, 1) := by decide +kernel
theorem dX0_communities_6 : decode cX0_communities 6 = .ok (.iload_n 1, 1) := by decide +kernel
theorem dX0_communities_7 : decode cX0_communities 7 = .ok (.invokevirtual 80, 3) := by decide +kernel
theorem dX0_communities_10 : decode cX0_communities 10 = .ok (.aload_n 0, 1) := by decide +kernel
theorem dX0_communities_11 : decode cX0_communities 11 = .ok (.iload_n 1, 1) := by decide +kernel
theorem dX0_communities_12 : decode cX0_communities 12 = .ok (.invokevirtual 80, 3) := by decide +kernel
theorem dX0_communities_15 : decode cX0_communities 15 = .ok (.invokevirtual 89, 3) := by decide +kernel
theorem dX0_communities_18 : decode cX0_communities 18 = .ok (.ireturn, 1) := by decide +kernel
set_option maxRecDepth 20000 in
theorem ggX0_together_X0_checkNode : GoodIn wsX0_together wsX0_checkNode := goodIn_ca (goodIn_r _ [12, 13, 14, 15, 34, 35, 36, 37, 38, 39] (by decide +kernel) (by decide +kernel)) (goodIn_sub (fun _ h => List.mem_cons_of_mem _ (List.mem_append_right _ h)) (by decide +kernel))
set_option maxRecDepth 20000 in
theorem gX0_together_X0_checkNode : GoodIn wsX0_together (wsV RX0 59 RX0 yX0_checkNode wsX0_checkNode) := goodIn_app (goodIn_of _ (by decide +kernel)) ggX0_together_X0_checkNode
set_option maxRecDepth 20000 in
theorem ggX0_together_X0_single : GoodIn wsX0_together wsX0_single := goodIn_r _ [18] (by decide +kernel) (by decide +kernel)
set_option maxRecDepth 20000 in
theorem gX0_together_X0_single : GoodIn wsX0_together (va_wsS RX0 83 yX0_single wsX0_single) := goodIn_app (goodIn_of _ (by decide +kernel)) ggX0_together_X0_single
set_option maxRecDepth 20000 in
theorem ggX0_together_X0_coreSet : GoodIn wsX0_together wsX0_coreSet := goodIn_r _ [22, 15, 3, 23, 24, 11, 25, 16, 17, 18, 34, 35, 36, 37, 38, 39] (by decide +kernel) (by decide +kernel)
set_option maxRecDepth 20000 in
theorem gX0_together_X0_coreSet : GoodIn wsX0_together (wsV RX0 80 RX0 yX0_coreSet wsX0_coreSet) := goodIn_app (goodIn_of _ (by decide +kernel)) ggX0_together_X0_coreSet
set_option maxRecDepth 20000 in
theorem ggX0_together_X0_reach : GoodIn wsX0_together wsX0_reach := goodIn_r _ [29, 15, 30, 31, 32, 11, 33, 16, 17, 18, 34, 35, 36, 37, 38, 39] (by decide +kernel) (by decide +kernel)
set_option maxRecDepth 20000 in
theorem gX0_together_X0_reach : GoodIn wsX0_together (wsV RX0 86 RX0 yX0_reach wsX0_reach) := goodIn_app (goodIn_of _ (by decide +kernel)) ggX0_together_X0_reach
set_option maxRecDepth 20000 in
theorem ggX0_together_X0_contains : GoodIn wsX0_together wsX0_contains := goodIn_r _ [33, 16, 17, 11, 18] (by decide +kernel) (by decide +kernel)
set_option maxRecDepth 20000 in
theorem gX0_together_X0_contains : GoodIn wsX0_together (va_wsS RX0 40 yX0_contains wsX0_contains) := goodIn_app (goodIn_of _ (by decide +kernel)) ggX0_together_X0_contains
theorem dX0_together_0 : decode cX0_together 0 = .ok (.aload_n 0, 1) := by decide +kernel
theorem dX0_together_1 : decode cX0_together 1 = .ok (.iload_n 1, 1) := by decide +kernel
theorem dX0_together_2 : decode cX0_together 2 = .ok (.invokevirtual 59, 3) := by decide +kernel
theorem dX0_together_5 : decode cX0_together 5 = .ok (.aload_n 0, 1) := by decide +kernel
theorem dX0_together_6 : decode cX0_together 6 = .ok (.iload_n 2, 1) := by decide +kernel
theorem dX0_together_7 : decode cX0_together 7 = .ok (.invokevirtual 59, 3) := by decide +kernel
theorem dX0_together_10 : decode cX0_together 10 = .ok (.aload_n 0, 1) := by decide +kernel
theorem dX0_together_11 : decode cX0_together 11 = .ok (.getfield 13, 3) := by decide +kernel
theorem dX0_together_14 : decode cX0_together 14 = .ok (.iload_n 1, 1) := by decide +kernel
theorem dX0_together_15 : decode cX0_together 15 = .ok (.iaload, 1) := by decide +kernel
theorem dX0_together_16 : decode cX0_together 16 = .ok (.aload_n 0, 1) := by decide +kernel
theorem dX0_together_17 : decode cX0_together 17 = .ok (.getfield 13, 3) := by decide +kernel
theorem dX0_together_20 : decode cX0_together 20 = .ok (.iload_n 2, 1) := by decide +kernel
theorem dX0_together_21 : decode cX0_together 21 = .ok (.iaload, 1) := by decide +kernel
theorem dX0_together_22 : decode cX0_together 22 = .ok (.invokestatic 92, 3) := by decide +kernel
theorem dX0_together_25 : decode cX0_together 25 = .ok (.istore_n 3, 1) := by decide +kernel
theorem dX0_together_26 : decode cX0_together 26 = .ok (.iload_n 3, 1) := by decide +kernel
theorem dX0_together_27 : decode cX0_together 27 = .ok (.ifCond .lt 31, 3) := by decide +kernel
theorem dX0_together_30 : decode cX0_together 30 = .ok (.aload_n 0, 1) := by decide +kernel
theorem dX0_together_31 : decode cX0_together 31 = .ok (.iload_n 1, 1) := by decide +kernel
theorem dX0_together_32 : decode cX0_together 32 = .ok (.invokestatic 83, 3) := by decide +kernel
theorem dX0_together_35 : decode cX0_together 35 = .ok (.aload_n 0, 1) := by decide +kernel
theorem dX0_together_36 : decode cX0_together 36 = .ok (.iload_n 3, 1) := by decide +kernel
theorem dX0_together_37 : decode cX0_together 37 = .ok (.invokevirtual 80, 3) := by decide +kernel
theorem dX0_together_40 : decode cX0_together 40 = .ok (.invokevirtual 86, 3) := by decide +kernel
theorem dX0_together_43 : decode cX0_together 43 = .ok (.iload_n 2, 1) := by decide +kernel
theorem dX0_together_44 : decode cX0_together 44 = .ok (.invokestatic 40, 3) := by decide +kernel
theorem dX0_together_47 : decode cX0_together 47 = .ok (.ifCond .eq 5, 3) := by decide +kernel
theorem dX0_together_50 : decode cX0_together 50 = .ok (.iload_n 3, 1) := by decide +kernel
theorem dX0_together_51 : decode cX0_together 51 = .ok (.ireturn, 1) := by decide +kernel
theorem dX0_together_52 : decode cX0_together 52 = .ok (.iinc 3 (-1), 3) := by decide +kernel
theorem dX0_together_55 : decode cX0_together 55 = .ok (.goto (-29), 3) := by decide +kernel
theorem dX0_together_58 : decode cX0_together 58 = .ok (.new 95, 3) := by decide +kernel
theorem dX0_together_61 : decode cX0_together 61 = .ok (.dup, 1) := by decide +kernel
theorem dX0_together_62 : decode cX0_together 62 = .ok (.ldc 97, 2) := by decide +kernel
theorem dX0_together_64 : decode cX0_together 64 = .ok (.invokespecial 99, 3) := by decide +kernel
theorem dX0_together_67 : decode cX0_together 67 = .ok (.athrow, 1) := by decide +kernel
set_option maxRecDepth 20000 in
theorem ggX0_hierarchy_X0_degeneracy : GoodIn wsX0_hierarchy wsX0_degeneracy := goodIn_r _ [5, 6, 7, 8, 9, 10, 11, 38, 39, 40, 41, 42, 43] (by decide +kernel) (by decide +kernel)
set_option maxRecDepth 20000 in
theorem gX0_hierarchy_X0_degeneracy : GoodIn wsX0_hierarchy (wsV RX0 100 RX0 yX0_degeneracy wsX0_degeneracy) := goodIn_app (goodIn_of _ (by decide +kernel)) ggX0_hierarchy_X0_degeneracy
set_option maxRecDepth 20000 in
theorem ggX0_hierarchy_X0_coreSet : GoodIn wsX0_hierarchy wsX0_coreSet := goodIn_r _ [15, 6, 7, 16, 17, 4, 18, 19, 20, 21, 38, 39, 40, 41, 42, 43] (by decide +kernel) (by decide +kernel)
set_option maxRecDepth 20000 in
theorem gX0_hierarchy_X0_coreSet : GoodIn wsX0_hierarchy (wsV RX0 80 RX0 yX0_coreSet wsX0_coreSet) := goodIn_app (goodIn_of _ (by decide +kernel)) ggX0_hierarchy_X0_coreSet
set_option maxRecDepth 20000 in
theorem ggX0_hierarchy_X0_shellSet : GoodIn wsX0_hierarchy wsX0_shellSet := goodIn_r _ [25, 12, 13, 14, 4, 15, 6, 7, 16, 17, 18, 19, 20, 21, 38, 39, 40, 41, 42, 43] (by decide +kernel) (by decide +kernel)
set_option maxRecDepth 20000 in
theorem gX0_hierarchy_X0_shellSet : GoodIn wsX0_hierarchy (wsV RX0 104 RX0 yX0_shellSet wsX0_shellSet) := goodIn_app (goodIn_of _ (by decide +kernel)) ggX0_hierarchy_X0_shellSet
set_option maxRecDepth 20000 in
theorem ggX0_hierarchy_X0_countCommunities : GoodIn wsX0_hierarchy wsX0_countCommunities := goodIn_r _ [29, 6, 30, 31, 4, 32, 19, 20, 21, 33, 34, 35, 36, 37, 38, 39, 40, 41, 42, 43] (by decide +kernel) (by decide +kernel)
set_option maxRecDepth 20000 in
theorem gX0_hierarchy_X0_countCommunities : GoodIn wsX0_hierarchy (wsV RX0 89 RX0 yX0_countCommunities wsX0_countCommunities) := goodIn_app (goodIn_of _ (by decide +kernel)) ggX0_hierarchy_X0_countCommunities
theorem dX0_hierarchy_0 : decode cX0_hierarchy 0 = .ok (.iconst 0, 1) := by decide +kernel
theorem dX0_hierarchy_1 : decode cX0_hierarchy 1 = .ok (.istore_n 1, 1) := by decide +kernel
theorem dX0_hierarchy_2 : decode cX0_hierarchy 2 = .ok (.aload_n 0, 1) := by decide +kernel
theorem dX0_hierarchy_3 : decode cX0_hierarchy 3 = .ok (.invokevirtual 100, 3) := by decide +kernel
theorem dX0_hierarchy_6 : decode cX0_hierarchy 6 = .ok (.istore_n 2, 1) := by decide +kernel
theorem dX0_hierarchy_7 : decode cX0_hierarchy 7 = .ok (.iconst 0, 1) := by decide +kernel
theorem dX0_hierarchy_8 : decode cX0_hierarchy 8 = .ok (.istore_n 3, 1) := by decide +kernel
theorem dX0_hierarchy_9 : decode cX0_hierarchy 9 = .ok (.iload_n 3, 1) := by decide +kernel
theorem dX0_hierarchy_10 : decode cX0_hierarchy 10 = .ok (.iload_n 2, 1) := by decide +kernel
theorem dX0_hierarchy_11 : decode cX0_hierarchy 11 = .ok (.if_icmp .gt 26, 3) := by decide +kernel
theorem dX0_hierarchy_14 : decode cX0_hierarchy 14 = .ok (.iload_n 1, 1) := by decide +kernel
theorem dX0_hierarchy_15 : decode cX0_hierarchy 15 = .ok (.aload_n 0, 1) := by decide +kernel
theorem dX0_hierarchy_16 : decode cX0_hierarchy 16 = .ok (.aload_n 0, 1) := by decide +kernel
theorem dX0_hierarchy_17 : decode cX0_hierarchy 17 = .ok (.iload_n 3, 1) := by decide +kernel
theorem dX0_hierarchy_18 : decode cX0_hierarchy 18 = .ok (.invokevirtual 80, 3) := by decide +kernel
theorem dX0_hierarchy_21 : decode cX0_hierarchy 21 = .ok (.aload_n 0, 1) := by decide +kernel
theorem dX0_hierarchy_22 : decode cX0_hierarchy 22 = .ok (.iload_n 3, 1) := by decide +kernel
theorem dX0_hierarchy_23 : decode cX0_hierarchy 23 = .ok (.invokevirtual 104, 3) := by decide +kernel
theorem dX0_hierarchy_26 : decode cX0_hierarchy 26 = .ok (.invokevirtual 89, 3) := by decide +kernel
theorem dX0_hierarchy_29 : decode cX0_hierarchy 29 = .ok (.iadd, 1) := by decide +kernel
theorem dX0_hierarchy_30 : decode cX0_hierarchy 30 = .ok (.istore_n 1, 1) := by decide +kernel
theorem dX0_hierarchy_31 : decode cX0_hierarchy 31 = .ok (.iinc 3 1, 3) := by decide +kernel
theorem dX0_hierarchy_34 : decode cX0_hierarchy 34 = .ok (.goto (-25), 3) := by decide +kernel
theorem dX0_hierarchy_37 : decode cX0_hierarchy 37 = .ok (.iload_n 1, 1) := by decide +kernel
theorem dX0_hierarchy_38 : decode cX0_hierarchy 38 = .ok (.ireturn, 1) := by decide +kernel
set_option maxRecDepth 20000 in
theorem ggX0_peeled_X0_allNodes : GoodIn wsX0_peeled wsX0_allNodes := goodIn_r _ [8, 3, 9, 10, 7, 11, 33, 34, 35, 36, 37, 38] (by decide +kernel) (by decide +kernel)
set_option maxRecDepth 20000 in
theorem gX0_peeled_X0_allNodes : GoodIn wsX0_peeled (wsV RX0 109 RX0 yX0_allNodes wsX0_allNodes) := goodIn_app (goodIn_of _ (by decide +kernel)) ggX0_peeled_X0_allNodes
set_option maxRecDepth 20000 in
theorem ggX0_peeled_X0_nextToPeel : GoodIn wsX0_peeled wsX0_nextToPeel := goodIn_r _ [15, 3, 16, 17, 18, 7, 19, 9, 10, 11, 20, 21, 22, 23, 24, 25, 26, 27, 28, 29, 33, 34, 35, 36, 37, 38] (by decide +kernel) (by decide +kernel)
set_option maxRecDepth 20000 in
theorem gX0_peeled_X0_nextToPeel : GoodIn wsX0_peeled (wsV RX0 112 RX0 yX0_nextToPeel wsX0_nextToPeel) := goodIn_app (goodIn_of _ (by decide +kernel)) ggX0_peeled_X0_nextToPeel
set_option maxRecDepth 20000 in
theorem ggX0_peeled_X0_without : GoodIn wsX0_peeled wsX0_without := goodIn_r _ [32, 9, 10, 7, 11] (by decide +kernel) (by decide +kernel)
set_option maxRecDepth 20000 in
theorem gX0_peeled_X0_without : GoodIn wsX0_peeled (va_wsS RX0 115 yX0_without wsX0_without) := goodIn_app (goodIn_of _ (by decide +kernel)) ggX0_peeled_X0_without
theorem dX0_peeled_0 : decode cX0_peeled 0 = .ok (.iload_n 1, 1) := by decide +kernel
theorem dX0_peeled_1 : decode cX0_peeled 1 = .ok (.ifCond .lt 11, 3) := by decide +kernel
theorem dX0_peeled_4 : decode cX0_peeled 4 = .ok (.iload_n 1, 1) := by decide +kernel
theorem dX0_peeled_5 : decode cX0_peeled 5 = .ok (.aload_n 0, 1) := by decide +kernel
theorem dX0_peeled_6 : decode cX0_peeled 6 = .ok (.getfield 19, 3) := by decide +kernel
theorem dX0_peeled_9 : decode cX0_peeled 9 = .ok (.if_icmp .lt 13, 3) := by decide +kernel
theorem dX0_peeled_12 : decode cX0_peeled 12 = .ok (.new 67, 3) := by decide +kernel
theorem dX0_peeled_15 : decode cX0_peeled 15 = .ok (.dup, 1) := by decide +kernel
theorem dX0_peeled_16 : decode cX0_peeled 16 = .ok (.ldc 107, 2) := by decide +kernel
theorem dX0_peeled_18 : decode cX0_peeled 18 = .ok (.invokespecial 71, 3) := by decide +kernel
theorem dX0_peeled_21 : decode cX0_peeled 21 = .ok (.athrow, 1) := by decide +kernel
theorem dX0_peeled_22 : decode cX0_peeled 22 = .ok (.aload_n 0, 1) := by decide +kernel
theorem dX0_peeled_23 : decode cX0_peeled 23 = .ok (.invokevirtual 109, 3) := by decide +kernel
theorem dX0_peeled_26 : decode cX0_peeled 26 = .ok (.istore_n 2, 1) := by decide +kernel
theorem dX0_peeled_27 : decode cX0_peeled 27 = .ok (.iconst 0, 1) := by decide +kernel
theorem dX0_peeled_28 : decode cX0_peeled 28 = .ok (.istore_n 3, 1) := by decide +kernel
theorem dX0_peeled_29 : decode cX0_peeled 29 = .ok (.iload_n 3, 1) := by decide +kernel
theorem dX0_peeled_30 : decode cX0_peeled 30 = .ok (.iload_n 1, 1) := by decide +kernel
theorem dX0_peeled_31 : decode cX0_peeled 31 = .ok (.if_icmp .ge 19, 3) := by decide +kernel
theorem dX0_peeled_34 : decode cX0_peeled 34 = .ok (.iload_n 2, 1) := by decide +kernel
theorem dX0_peeled_35 : decode cX0_peeled 35 = .ok (.aload_n 0, 1) := by decide +kernel
theorem dX0_peeled_36 : decode cX0_peeled 36 = .ok (.iload_n 2, 1) := by decide +kernel
theorem dX0_peeled_37 : decode cX0_peeled 37 = .ok (.invokevirtual 112, 3) := by decide +kernel
theorem dX0_peeled_40 : decode cX0_peeled 40 = .ok (.invokestatic 115, 3) := by decide +kernel
theorem dX0_peeled_43 : decode cX0_peeled 43 = .ok (.istore_n 2, 1) := by decide +kernel
theorem dX0_peeled_44 : decode cX0_peeled 44 = .ok (.iinc 3 1, 3) := by decide +kernel
theorem dX0_peeled_47 : decode cX0_peeled 47 = .ok (.goto (-18), 3) := by decide +kernel
theorem dX0_peeled_50 : decode cX0_peeled 50 = .ok (.aload_n 0, 1) := by decide +kernel
theorem dX0_peeled_51 : decode cX0_peeled 51 = .ok (.iload_n 2, 1) := by decide +kernel
theorem dX0_peeled_52 : decode cX0_peeled 52 = .ok (.invokevirtual 112, 3) := by decide +kernel
theorem dX0_peeled_55 : decode cX0_peeled 55 = .ok (.ireturn, 1) := by decide +kernel
set_option maxRecDepth 20000 in
theorem ggX0_denseSize_X0_denseSet : GoodIn wsX0_denseSize wsX0_denseSet := goodIn_r _ [5, 6, 7, 8, 9, 10, 4, 11, 12, 13, 14, 15, 16, 17, 18, 19, 20, 21, 22, 23, 24, 25, 26, 27, 28, 29, 30, 31, 32, 33, 34, 35, 36, 37, 38, 39, 40, 41, 42, 43, 44, 45] (by decide +kernel) (by decide +kernel)
set_option maxRecDepth 20000 in
theorem gX0_denseSize_X0_denseSet : GoodIn wsX0_denseSize (wsV RX0 118 RX0 yX0_denseSet wsX0_denseSet) := goodIn_app (goodIn_of _ (by decide +kernel)) ggX0_denseSize_X0_denseSet
set_option maxRecDepth 20000 in
theorem ggX0_denseSize_X0_size : GoodIn wsX0_denseSize wsX0_size := goodIn_r _ [25, 26, 27, 28, 29, 30, 31, 32] (by decide +kernel) (by decide +kernel)
set_option maxRecDepth 20000 in
theorem gX0_denseSize_X0_size : GoodIn wsX0_denseSize (va_wsS RX0 63 yX0_size wsX0_size) := goodIn_app (goodIn_of _ (by decide +kernel)) ggX0_denseSize_X0_size
theorem dX0_denseSize_0 : decode cX0_denseSize 0 = .ok (.aload_n 0, 1) := by decide +kernel
theorem dX0_denseSize_1 : decode cX0_denseSize 1 = .ok (.invokevirtual 118, 3) := by decide +kernel
theorem dX0_denseSize_4 : decode cX0_denseSize 4 = .ok (.invokestatic 63, 3) := by decide +kernel
theorem dX0_denseSize_7 : decode cX0_denseSize 7 = .ok (.ireturn, 1) := by decide +kernel
set_option maxRecDepth 20000 in
theorem ggX0_isDense_X0_checkNode : GoodIn wsX0_isDense wsX0_checkNode := goodIn_ca (goodIn_r _ [5, 6, 7, 8, 46, 47, 48, 49, 50, 51] (by decide +kernel) (by decide +kernel)) (goodIn_sub (fun _ h => List.mem_cons_of_mem _ (List.mem_append_right _ h)) (by decide +kernel))
set_option maxRecDepth 20000 in
theorem gX0_isDense_X0_checkNode : GoodIn wsX0_isDense (wsV RX0 59 RX0 yX0_checkNode wsX0_checkNode) := goodIn_app (goodIn_of _ (by decide +kernel)) ggX0_isDense_X0_checkNode
set_option maxRecDepth 20000 in
theorem ggX0_isDense_X0_denseSet : GoodIn wsX0_isDense wsX0_denseSet := goodIn_r _ [12, 13, 8, 14, 15, 16, 4, 17, 18, 19, 20, 21, 22, 23, 24, 25, 26, 27, 28, 29, 30, 31, 32, 33, 34, 35, 36, 37, 38, 39, 40, 41, 42, 43, 44, 45, 46, 47, 48, 49, 50, 51] (by decide +kernel) (by decide +kernel)
set_option maxRecDepth 20000 in
theorem gX0_isDense_X0_denseSet : GoodIn wsX0_isDense (wsV RX0 118 RX0 yX0_denseSet wsX0_denseSet) := goodIn_app (goodIn_of _ (by decide +kernel)) ggX0_isDense_X0_denseSet
set_option maxRecDepth 20000 in
theorem ggX0_isDense_X0_contains : GoodIn wsX0_isDense wsX0_contains := goodIn_r _ [28, 18, 19, 4, 20] (by decide +kernel) (by decide +kernel)
set_option maxRecDepth 20000 in
theorem gX0_isDense_X0_contains : GoodIn wsX0_isDense (va_wsS RX0 40 yX0_contains wsX0_contains) := goodIn_app (goodIn_of _ (by decide +kernel)) ggX0_isDense_X0_contains
theorem dX0_isDense_0 : decode cX0_isDense 0 = .ok (.aload_n 0, 1) := by decide +kernel
theorem dX0_isDense_1 : decode cX0_isDense 1 = .ok (.iload_n 1, 1) := by decide +kernel
theorem dX0_isDense_2 : decode cX0_isDense 2 = .ok (.invokevirtual 59, 3) := by decide +kernel
theorem dX0_isDense_5 : decode cX0_isDense 5 = .ok (.aload_n 0, 1) := by decide +kernel
theorem dX0_isDense_6 : decode cX0_isDense 6 = .ok (.invokevirtual 118, 3) := by decide +kernel
theorem dX0_isDense_9 : decode cX0_isDense 9 = .ok (.iload_n 1, 1) := by decide +kernel
theorem dX0_isDense_10 : decode cX0_isDense 10 = .ok (.invokestatic 40, 3) := by decide +kernel
theorem dX0_isDense_13 : decode cX0_isDense 13 = .ok (.ireturn, 1) := by decide +kernel
set_option maxRecDepth 20000 in
theorem ggX0_density_X0_denseSet : GoodIn wsX0_density wsX0_denseSet := goodIn_r _ [5, 6, 7, 8, 9, 10, 4, 11, 12, 13, 14, 15, 16, 17, 18, 19, 20, 21, 22, 23, 24, 25, 26, 27, 28, 29, 30, 31, 32, 33, 34, 35, 36, 37, 38, 39, 40, 41, 42, 43, 44, 45] (by decide +kernel) (by decide +kernel)
set_option maxRecDepth 20000 in
theorem gX0_density_X0_denseSet : GoodIn wsX0_density (wsV RX0 118 RX0 yX0_denseSet wsX0_denseSet) := goodIn_app (goodIn_of _ (by decide +kernel)) ggX0_density_X0_denseSet
set_option maxRecDepth 20000 in
theorem ggX0_density_X0_edgesWithin : GoodIn wsX0_density wsX0_edgesWithin := goodIn_r _ [39, 7, 19, 20, 21, 4, 22, 12, 13, 14, 23, 24, 25, 26, 27, 28, 29, 30, 31, 32, 40, 41, 42, 43, 44, 45] (by decide +kernel) (by decide +kernel)
set_option maxRecDepth 20000 in
theorem gX0_density_X0_edgesWithin : GoodIn wsX0_density (wsV RX0 121 RX0 yX0_edgesWithin wsX0_edgesWithin) := goodIn_app (goodIn_of _ (by decide +kernel)) ggX0_density_X0_edgesWithin
set_option maxRecDepth 20000 in
theorem ggX0_density_X0_size : GoodIn wsX0_density wsX0_size := goodIn_r _ [25, 26, 27, 28, 29, 30, 31, 32] (by decide +kernel) (by decide +kernel)
set_option maxRecDepth 20000 in
theorem gX0_density_X0_size : GoodIn wsX0_density (va_wsS RX0 63 yX0_size wsX0_size) := goodIn_app (goodIn_of _ (by decide +kernel)) ggX0_density_X0_size
theorem dX0_density_0 : decode cX0_density 0 = .ok (.aload_n 0, 1) := by decide +kernel
theorem dX0_density_1 : decode cX0_density 1 = .ok (.invokevirtual 118, 3) := by decide +kernel
theorem dX0_density_4 : decode cX0_density 4 = .ok (.istore_n 1, 1) := by decide +kernel
theorem dX0_density_5 : decode cX0_density 5 = .ok (.iload_n 1, 1) := by decide +kernel
theorem dX0_density_6 : decode cX0_density 6 = .ok (.ifCond .ne 5, 3) := by decide +kernel
theorem dX0_density_9 : decode cX0_density 9 = .ok (.dconst 0, 1) := by decide +kernel
theorem dX0_density_10 : decode cX0_density 10 = .ok (.dreturn, 1) := by decide +kernel
theorem dX0_density_11 : decode cX0_density 11 = .ok (.aload_n 0, 1) := by decide +kernel
theorem dX0_density_12 : decode cX0_density 12 = .ok (.iload_n 1, 1) := by decide +kernel
theorem dX0_density_13 : decode cX0_density 13 = .ok (.invokevirtual 121, 3) := by decide +kernel
theorem dX0_density_16 : decode cX0_density 16 = .ok (.i2d, 1) := by decide +kernel
theorem dX0_density_17 : decode cX0_density 17 = .ok (.iload_n 1, 1) := by decide +kernel
theorem dX0_density_18 : decode cX0_density 18 = .ok (.invokestatic 63, 3) := by decide +kernel
theorem dX0_density_21 : decode cX0_density 21 = .ok (.i2d, 1) := by decide +kernel
theorem dX0_density_22 : decode cX0_density 22 = .ok (.ddiv, 1) := by decide +kernel
theorem dX0_density_23 : decode cX0_density 23 = .ok (.dreturn, 1) := by decide +kernel
set_option maxRecDepth 20000 in
theorem ggX0_support_X0_checkNode : GoodIn wsX0_support wsX0_checkNode := goodIn_ca (goodIn_r _ [6, 7, 8, 9, 32, 33, 34, 35, 36, 37] (by decide +kernel) (by decide +kernel)) (goodIn_sub (fun _ h => List.mem_cons_of_mem _ (List.mem_append_left _ (List.mem_append_right _ h))) (by decide +kernel))
set_option maxRecDepth 20000 in
theorem gX0_support_X0_checkNode : GoodIn wsX0_support (wsV RX0 59 RX0 yX0_checkNode wsX0_checkNode) := goodIn_app (goodIn_of _ (by decide +kernel)) ggX0_support_X0_checkNode
set_option maxRecDepth 20000 in
theorem ggX0_support_X0_checkEdge : GoodIn wsX0_support wsX0_checkEdge := goodIn_ca (goodIn_r _ [13, 14, 15, 1, 16, 17, 5, 18, 19, 20, 21, 32, 33, 34, 35, 36, 37] (by decide +kernel) (by decide +kernel)) (goodIn_sub (fun _ h => List.mem_cons_of_mem _ (List.mem_append_right _ h)) (by decide +kernel))
set_option maxRecDepth 20000 in
theorem gX0_support_X0_checkEdge : GoodIn wsX0_support (wsV RX0 53 RX0 yX0_checkEdge wsX0_checkEdge) := goodIn_app (goodIn_of _ (by decide +kernel)) ggX0_support_X0_checkEdge
set_option maxRecDepth 20000 in
theorem ggX0_support_X0_size : GoodIn wsX0_support wsX0_size := goodIn_r _ [24, 25, 26, 27, 28, 29, 30, 31] (by decide +kernel) (by decide +kernel)
set_option maxRecDepth 20000 in
theorem gX0_support_X0_size : GoodIn wsX0_support (va_wsS RX0 63 yX0_size wsX0_size) := goodIn_app (goodIn_of _ (by decide +kernel)) ggX0_support_X0_size
theorem dX0_support_0 : decode cX0_support 0 = .ok (.aload_n 0, 1) := by decide +kernel
theorem dX0_support_1 : decode cX0_support 1 = .ok (.iload_n 1, 1) := by decide +kernel
theorem dX0_support_2 : decode cX0_support 2 = .ok (.invokevirtual 59, 3) := by decide +kernel
theorem dX0_support_5 : decode cX0_support 5 = .ok (.aload_n 0, 1) := by decide +kernel
theorem dX0_support_6 : decode cX0_support 6 = .ok (.iload_n 2, 1) := by decide +kernel
theorem dX0_support_7 : decode cX0_support 7 = .ok (.invokevirtual 59, 3) := by decide +kernel
theorem dX0_support_10 : decode cX0_support 10 = .ok (.aload_n 0, 1) := by decide +kernel
theorem dX0_support_11 : decode cX0_support 11 = .ok (.iload_n 1, 1) := by decide +kernel
theorem dX0_support_12 : decode cX0_support 12 = .ok (.iload_n 2, 1) := by decide +kernel
theorem dX0_support_13 : decode cX0_support 13 = .ok (.invokevirtual 53, 3) := by decide +kernel
theorem dX0_support_16 : decode cX0_support 16 = .ok (.aload_n 0, 1) := by decide +kernel
theorem dX0_support_17 : decode cX0_support 17 = .ok (.getfield 9, 3) := by decide +kernel
theorem dX0_support_20 : decode cX0_support 20 = .ok (.iload_n 1, 1) := by decide +kernel
theorem dX0_support_21 : decode cX0_support 21 = .ok (.iaload, 1) := by decide +kernel
theorem dX0_support_22 : decode cX0_support 22 = .ok (.aload_n 0, 1) := by decide +kernel
theorem dX0_support_23 : decode cX0_support 23 = .ok (.getfield 9, 3) := by decide +kernel
theorem dX0_support_26 : decode cX0_support 26 = .ok (.iload_n 2, 1) := by decide +kernel
theorem dX0_support_27 : decode cX0_support 27 = .ok (.iaload, 1) := by decide +kernel
theorem dX0_support_28 : decode cX0_support 28 = .ok (.iand, 1) := by decide +kernel
theorem dX0_support_29 : decode cX0_support 29 = .ok (.invokestatic 63, 3) := by decide +kernel
theorem dX0_support_32 : decode cX0_support 32 = .ok (.ireturn, 1) := by decide +kernel
set_option maxRecDepth 20000 in
theorem ggX0_triangles_X0_contains : GoodIn wsX0_triangles wsX0_contains := goodIn_r _ [6, 7, 8, 5, 9] (by decide +kernel) (by decide +kernel)
set_option maxRecDepth 20000 in
theorem gX0_triangles_X0_contains : GoodIn wsX0_triangles (va_wsS RX0 40 yX0_contains wsX0_contains) := goodIn_app (goodIn_of _ (by decide +kernel)) ggX0_triangles_X0_contains
set_option maxRecDepth 20000 in
theorem ggX0_triangles_X0_size : GoodIn wsX0_triangles wsX0_size := goodIn_r _ [12, 13, 14, 15, 16, 17, 18, 19] (by decide +kernel) (by decide +kernel)
set_option maxRecDepth 20000 in
theorem gX0_triangles_X0_size : GoodIn wsX0_triangles (va_wsS RX0 63 yX0_size wsX0_size) := goodIn_app (goodIn_of _ (by decide +kernel)) ggX0_triangles_X0_size
theorem dX0_triangles_0 : decode cX0_triangles 0 = .ok (.iconst 0, 1) := by decide +kernel
theorem dX0_triangles_1 : decode cX0_triangles 1 = .ok (.istore_n 1, 1) := by decide +kernel
theorem dX0_triangles_2 : decode cX0_triangles 2 = .ok (.iconst 0, 1) := by decide +kernel
theorem dX0_triangles_3 : decode cX0_triangles 3 = .ok (.istore_n 2, 1) := by decide +kernel
theorem dX0_triangles_4 : decode cX0_triangles 4 = .ok (.iload_n 2, 1) := by decide +kernel
theorem dX0_triangles_5 : decode cX0_triangles 5 = .ok (.aload_n 0, 1) := by decide +kernel
theorem dX0_triangles_6 : decode cX0_triangles 6 = .ok (.getfield 19, 3) := by decide +kernel
theorem dX0_triangles_9 : decode cX0_triangles 9 = .ok (.if_icmp .ge 59, 3) := by decide +kernel
theorem dX0_triangles_12 : decode cX0_triangles 12 = .ok (.iload_n 2, 1) := by decide +kernel
theorem dX0_triangles_13 : decode cX0_triangles 13 = .ok (.iconst 1, 1) := by decide +kernel
theorem dX0_triangles_14 : decode cX0_triangles 14 = .ok (.iadd, 1) := by decide +kernel
theorem dX0_triangles_15 : decode cX0_triangles 15 = .ok (.istore_n 3, 1) := by decide +kernel
theorem dX0_triangles_16 : decode cX0_triangles 16 = .ok (.iload_n 3, 1) := by decide +kernel
theorem dX0_triangles_17 : decode cX0_triangles 17 = .ok (.aload_n 0, 1) := by decide +kernel
theorem dX0_triangles_18 : decode cX0_triangles 18 = .ok (.getfield 19, 3) := by decide +kernel
theorem dX0_triangles_21 : decode cX0_triangles 21 = .ok (.if_icmp .ge 41, 3) := by decide +kernel
theorem dX0_triangles_24 : decode cX0_triangles 24 = .ok (.aload_n 0, 1) := by decide +kernel
theorem dX0_triangles_25 : decode cX0_triangles 25 = .ok (.getfield 9, 3) := by decide +kernel
theorem dX0_triangles_28 : decode cX0_triangles 28 = .ok (.iload_n 2, 1) := by decide +kernel
theorem dX0_triangles_29 : decode cX0_triangles 29 = .ok (.iaload, 1) := by decide +kernel
theorem dX0_triangles_30 : decode cX0_triangles 30 = .ok (.iload_n 3, 1) := by decide +kernel
theorem dX0_triangles_31 : decode cX0_triangles 31 = .ok (.invokestatic 40, 3) := by decide +kernel
theorem dX0_triangles_34 : decode cX0_triangles 34 = .ok (.ifCond .eq 22, 3) := by decide +kernel
theorem dX0_triangles_37 : decode cX0_triangles 37 = .ok (.iload_n 1, 1) := by decide +kernel
theorem dX0_triangles_38 : decode cX0_triangles 38 = .ok (.aload_n 0, 1) := by decide +kernel
theorem dX0_triangles_39 : decode cX0_triangles 39 = .ok (.getfield 9, 3) := by decide +kernel
theorem dX0_triangles_42 : decode cX0_triangles 42 = .ok (.iload_n 2, 1) := by decide +kernel
theorem dX0_triangles_43 : decode cX0_triangles 43 = .ok (.iaload, 1) := by decide +kernel
theorem dX0_triangles_44 : decode cX0_triangles 44 = .ok (.aload_n 0, 1) := by decide +kernel
theorem dX0_triangles_45 : decode cX0_triangles 45 = .ok (.getfield 9, 3) := by decide +kernel
theorem dX0_triangles_48 : decode cX0_triangles 48 = .ok (.iload_n 3, 1) := by decide +kernel
theorem dX0_triangles_49 : decode cX0_triangles 49 = .ok (.iaload, 1) := by decide +kernel
theorem dX0_triangles_50 : decode cX0_triangles 50 = .ok (.iand, 1) := by decide +kernel
theorem dX0_triangles_51 : decode cX0_triangles 51 = .ok (.invokestatic 63, 3) := by decide +kernel
theorem dX0_triangles_54 : decode cX0_triangles 54 = .ok (.iadd, 1) := by decide +kernel
theorem dX0_triangles_55 : decode cX0_triangles 55 = .ok (.istore_n 1, 1) := by decide +kernel
theorem dX0_triangles_56 : decode cX0_triangles 56 = .ok (.iinc 3 1, 3) := by decide +kernel
theorem dX0_triangles_59 : decode cX0_triangles 59 = .ok (.goto (-43), 3) := by decide +kernel
theorem dX0_triangles_62 : decode cX0_triangles 62 = .ok (.iinc 2 1, 3) := by decide +kernel
theorem dX0_triangles_65 : decode cX0_triangles 65 = .ok (.goto (-61), 3) := by decide +kernel
theorem dX0_triangles_68 : decode cX0_triangles 68 = .ok (.iload_n 1, 1) := by decide +kernel
theorem dX0_triangles_69 : decode cX0_triangles 69 = .ok (.iconst 3, 1) := by decide +kernel
theorem dX0_triangles_70 : decode cX0_triangles 70 = .ok (.idiv, 1) := by decide +kernel
theorem dX0_triangles_71 : decode cX0_triangles 71 = .ok (.ireturn, 1) := by decide +kernel
set_option maxRecDepth 20000 in
theorem ggX0_truss_X0_checkNode : GoodIn wsX0_truss wsX0_checkNode := goodIn_ca (goodIn_r _ [6, 7, 8, 9, 48, 49, 50, 51, 52, 53] (by decide +kernel) (by decide +kernel)) (goodIn_sub (fun _ h => List.mem_cons_of_mem _ (List.mem_append_left _ (List.mem_append_right _ h))) (by decide +kernel))
set_option maxRecDepth 20000 in
theorem gX0_truss_X0_checkNode : GoodIn wsX0_truss (wsV RX0 59 RX0 yX0_checkNode wsX0_checkNode) := goodIn_app (goodIn_of _ (by decide +kernel)) ggX0_truss_X0_checkNode
set_option maxRecDepth 20000 in
theorem ggX0_truss_X0_checkEdge : GoodIn wsX0_truss wsX0_checkEdge := goodIn_ca (goodIn_r _ [13, 14, 15, 16, 17, 18, 5, 19, 20, 21, 22, 48, 49, 50, 51, 52, 53] (by decide +kernel) (by decide +kernel)) (goodIn_sub (fun _ h => List.mem_cons_of_mem _ (List.mem_append_right _ h)) (by decide +kernel))
set_option maxRecDepth 20000 in
theorem gX0_truss_X0_checkEdge : GoodIn wsX0_truss (wsV RX0 53 RX0 yX0_checkEdge wsX0_checkEdge) := goodIn_app (goodIn_of _ (by decide +kernel)) ggX0_truss_X0_checkEdge
set_option maxRecDepth 20000 in
theorem ggX0_truss_X0_startTrusses : GoodIn wsX0_truss wsX0_startTrusses := goodIn_r _ [26, 9, 1, 16, 48, 49, 50, 51, 52, 53] (by decide +kernel) (by decide +kernel)
set_option maxRecDepth 20000 in
theorem gX0_truss_X0_startTrusses : GoodIn wsX0_truss (wsV RX0 124 RX0 yX0_startTrusses wsX0_startTrusses) := goodIn_app (goodIn_of _ (by decide +kernel)) ggX0_truss_X0_startTrusses
set_option maxRecDepth 20000 in
theorem ggX0_truss_X0_shrinkToTruss : GoodIn wsX0_truss wsX0_shrinkToTruss := goodIn_r _ [30, 31, 32, 33, 5, 34, 9, 1, 17, 18, 19, 20, 21, 22, 35, 36, 37, 38, 39, 40, 41, 42, 43, 44, 45, 46, 47, 48, 49, 50, 51, 52, 53] (by decide +kernel) (by decide +kernel)
set_option maxRecDepth 20000 in
theorem gX0_truss_X0_shrinkToTruss : GoodIn wsX0_truss (wsV RX0 127 RX0 yX0_shrinkToTruss wsX0_shrinkToTruss) := goodIn_app (goodIn_of _ (by decide +kernel)) ggX0_truss_X0_shrinkToTruss
set_option maxRecDepth 20000 in
theorem ggX0_truss_X0_contains : GoodIn wsX0_truss wsX0_contains := goodIn_r _ [19, 20, 21, 5, 22] (by decide +kernel) (by decide +kernel)
set_option maxRecDepth 20000 in
theorem gX0_truss_X0_contains : GoodIn wsX0_truss (va_wsS RX0 40 yX0_contains wsX0_contains) := goodIn_app (goodIn_of _ (by decide +kernel)) ggX0_truss_X0_contains
theorem dX0_truss_0 : decode cX0_truss 0 = .ok (.aload_n 0, 1) := by decide +kernel
theorem dX0_truss_1 : decode cX0_truss 1 = .ok (.iload_n 1, 1) := by decide +kernel
theorem dX0_truss_2 : decode cX0_truss 2 = .ok (.invokevirtual 59, 3) := by decide +kernel
theorem dX0_truss_5 : decode cX0_truss 5 = .ok (.aload_n 0, 1) := by decide +kernel
theorem dX0_truss_6 : decode cX0_truss 6 = .ok (.iload_n 2, 1) := by decide +kernel
theorem dX0_truss_7 : decode cX0_truss 7 = .ok (.invokevirtual 59, 3) := by decide +kernel
theorem dX0_truss_10 : decode cX0_truss 10 = .ok (.aload_n 0, 1) := by decide +kernel
theorem dX0_truss_11 : decode cX0_truss 11 = .ok (.iload_n 1, 1) := by decide +kernel
theorem dX0_truss_12 : decode cX0_truss 12 = .ok (.iload_n 2, 1) := by decide +kernel
theorem dX0_truss_13 : decode cX0_truss 13 = .ok (.invokevirtual 53, 3) := by decide +kernel
theorem dX0_truss_16 : decode cX0_truss 16 = .ok (.aload_n 0, 1) := by decide +kernel
theorem dX0_truss_17 : decode cX0_truss 17 = .ok (.invokevirtual 124, 3) := by decide +kernel
theorem dX0_truss_20 : decode cX0_truss 20 = .ok (.iconst 2, 1) := by decide +kernel
theorem dX0_truss_21 : decode cX0_truss 21 = .ok (.istore_n 3, 1) := by decide +kernel
theorem dX0_truss_22 : decode cX0_truss 22 = .ok (.iconst 3, 1) := by decide +kernel
theorem dX0_truss_23 : decode cX0_truss 23 = .ok (.istore 4, 2) := by decide +kernel
theorem dX0_truss_25 : decode cX0_truss 25 = .ok (.iload 4, 2) := by decide +kernel
theorem dX0_truss_27 : decode cX0_truss 27 = .ok (.bipush 20, 2) := by decide +kernel
theorem dX0_truss_29 : decode cX0_truss 29 = .ok (.if_icmp .gt 31, 3) := by decide +kernel
theorem dX0_truss_32 : decode cX0_truss 32 = .ok (.aload_n 0, 1) := by decide +kernel
theorem dX0_truss_33 : decode cX0_truss 33 = .ok (.iload 4, 2) := by decide +kernel
theorem dX0_truss_35 : decode cX0_truss 35 = .ok (.invokevirtual 127, 3) := by decide +kernel
theorem dX0_truss_38 : decode cX0_truss 38 = .ok (.aload_n 0, 1) := by decide +kernel
theorem dX0_truss_39 : decode cX0_truss 39 = .ok (.getfield 16, 3) := by decide +kernel
theorem dX0_truss_42 : decode cX0_truss 42 = .ok (.iload_n 1, 1) := by decide +kernel
theorem dX0_truss_43 : decode cX0_truss 43 = .ok (.iaload, 1) := by decide +kernel
theorem dX0_truss_44 : decode cX0_truss 44 = .ok (.iload_n 2, 1) := by decide +kernel
theorem dX0_truss_45 : decode cX0_truss 45 = .ok (.invokestatic 40, 3) := by decide +kernel
theorem dX0_truss_48 : decode cX0_truss 48 = .ok (.ifCond .eq 6, 3) := by decide +kernel
theorem dX0_truss_51 : decode cX0_truss 51 = .ok (.iload 4, 2) := by decide +kernel
theorem dX0_truss_53 : decode cX0_truss 53 = .ok (.istore_n 3, 1) := by decide +kernel
theorem dX0_truss_54 : decode cX0_truss 54 = .ok (.iinc 4 1, 3) := by decide +kernel
theorem dX0_truss_57 : decode cX0_truss 57 = .ok (.goto (-32), 3) := by decide +kernel
theorem dX0_truss_60 : decode cX0_truss 60 = .ok (.iload_n 3, 1) := by decide +kernel
theorem dX0_truss_61 : decode cX0_truss 61 = .ok (.ireturn, 1) := by decide +kernel
set_option maxRecDepth 20000 in
theorem ggX0_trussSize_X0_startTrusses : GoodIn wsX0_trussSize wsX0_startTrusses := goodIn_r _ [9, 3, 4, 10, 38, 39, 40, 41, 42, 43] (by decide +kernel) (by decide +kernel)
set_option maxRecDepth 20000 in
theorem gX0_trussSize_X0_startTrusses : GoodIn wsX0_trussSize (wsV RX0 124 RX0 yX0_startTrusses wsX0_startTrusses) := goodIn_app (goodIn_of _ (by decide +kernel)) ggX0_trussSize_X0_startTrusses
set_option maxRecDepth 20000 in
theorem ggX0_trussSize_X0_shrinkToTruss : GoodIn wsX0_trussSize wsX0_shrinkToTruss := goodIn_r _ [14, 15, 16, 17, 8, 18, 3, 4, 19, 20, 21, 22, 23, 24, 25, 26, 27, 28, 29, 30, 31, 32, 33, 34, 35, 36, 37, 38, 39, 40, 41, 42, 43] (by decide +kernel) (by decide +kernel)
set_option maxRecDepth 20000 in
theorem gX0_trussSize_X0_shrinkToTruss : GoodIn wsX0_trussSize (wsV RX0 127 RX0 yX0_shrinkToTruss wsX0_shrinkToTruss) := goodIn_app (goodIn_of _ (by decide +kernel)) ggX0_trussSize_X0_shrinkToTruss
set_option maxRecDepth 20000 in
theorem ggX0_trussSize_X0_size : GoodIn wsX0_trussSize wsX0_size := goodIn_r _ [27, 28, 29, 30, 31, 32, 33, 34] (by decide +kernel) (by decide +kernel)
set_option maxRecDepth 20000 in
theorem gX0_trussSize_X0_size : GoodIn wsX0_trussSize (va_wsS RX0 63 yX0_size wsX0_size) := goodIn_app (goodIn_of _ (by decide +kernel)) ggX0_trussSize_X0_size
theorem dX0_trussSize_0 : decode cX0_trussSize 0 = .ok (.iload_n 1, 1) := by decide +kernel
theorem dX0_trussSize_1 : decode cX0_trussSize 1 = .ok (.iconst 2, 1) := by decide +kernel
theorem dX0_trussSize_2 : decode cX0_trussSize 2 = .ok (.if_icmp .ge 13, 3) := by decide +kernel
theorem dX0_trussSize_5 : decode cX0_trussSize 5 = .ok (.new 130, 3) := by decide +kernel
theorem dX0_trussSize_8 : decode cX0_trussSize 8 = .ok (.dup, 1) := by decide +kernel
theorem dX0_trussSize_9 : decode cX0_trussSize 9 = .ok (.ldc 132, 2) := by decide +kernel
theorem dX0_trussSize_11 : decode cX0_trussSize 11 = .ok (.invokespecial 134, 3) := by decide +kernel
theorem dX0_trussSize_14 : decode cX0_trussSize 14 = .ok (.athrow, 1) := by decide +kernel
theorem dX0_trussSize_15 : decode cX0_trussSize 15 = .ok (.aload_n 0, 1) := by decide +kernel
theorem dX0_trussSize_16 : decode cX0_trussSize 16 = .ok (.invokevirtual 124, 3) := by decide +kernel
theorem dX0_trussSize_19 : decode cX0_trussSize 19 = .ok (.aload_n 0, 1) := by decide +kernel
theorem dX0_trussSize_20 : decode cX0_trussSize 20 = .ok (.iload_n 1, 1) := by decide +kernel
theorem dX0_trussSize_21 : decode cX0_trussSize 21 = .ok (.invokevirtual 127, 3) := by decide +kernel
theorem dX0_trussSize_24 : decode cX0_trussSize 24 = .ok (.iconst 0, 1) := by decide +kernel
theorem dX0_trussSize_25 : decode cX0_trussSize 25 = .ok (.istore_n 2, 1) := by decide +kernel
theorem dX0_trussSize_26 : decode cX0_trussSize 26 = .ok (.iconst 0, 1) := by decide +kernel
theorem dX0_trussSize_27 : decode cX0_trussSize 27 = .ok (.istore_n 3, 1) := by decide +kernel
theorem dX0_trussSize_28 : decode cX0_trussSize 28 = .ok (.iload_n 3, 1) := by decide +kernel
theorem dX0_trussSize_29 : decode cX0_trussSize 29 = .ok (.aload_n 0, 1) := by decide +kernel
theorem dX0_trussSize_30 : decode cX0_trussSize 30 = .ok (.getfield 19, 3) := by decide +kernel
theorem dX0_trussSize_33 : decode cX0_trussSize 33 = .ok (.if_icmp .ge 21, 3) := by decide +kernel
theorem dX0_trussSize_36 : decode cX0_trussSize 36 = .ok (.iload_n 2, 1) := by decide +kernel
theorem dX0_trussSize_37 : decode cX0_trussSize 37 = .ok (.aload_n 0, 1) := by decide +kernel
theorem dX0_trussSize_38 : decode cX0_trussSize 38 = .ok (.getfield 16, 3) := by decide +kernel
theorem dX0_trussSize_41 : decode cX0_trussSize 41 = .ok (.iload_n 3, 1) := by decide +kernel
theorem dX0_trussSize_42 : decode cX0_trussSize 42 = .ok (.iaload, 1) := by decide +kernel
theorem dX0_trussSize_43 : decode cX0_trussSize 43 = .ok (.invokestatic 63, 3) := by decide +kernel
theorem dX0_trussSize_46 : decode cX0_trussSize 46 = .ok (.iadd, 1) := by decide +kernel
theorem dX0_trussSize_47 : decode cX0_trussSize 47 = .ok (.istore_n 2, 1) := by decide +kernel
theorem dX0_trussSize_48 : decode cX0_trussSize 48 = .ok (.iinc 3 1, 3) := by decide +kernel
theorem dX0_trussSize_51 : decode cX0_trussSize 51 = .ok (.goto (-23), 3) := by decide +kernel
theorem dX0_trussSize_54 : decode cX0_trussSize 54 = .ok (.iload_n 2, 1) := by decide +kernel
theorem dX0_trussSize_55 : decode cX0_trussSize 55 = .ok (.iconst 2, 1) := by decide +kernel
theorem dX0_trussSize_56 : decode cX0_trussSize 56 = .ok (.idiv, 1) := by decide +kernel
theorem dX0_trussSize_57 : decode cX0_trussSize 57 = .ok (.ireturn, 1) := by decide +kernel
theorem dX0_checkNode_0 : decode cX0_checkNode 0 = .ok (.iload_n 1, 1) := by decide +kernel
theorem dX0_checkNode_1 : decode cX0_checkNode 1 = .ok (.ifCond .lt 11, 3) := by decide +kernel
theorem dX0_checkNode_4 : decode cX0_checkNode 4 = .ok (.iload_n 1, 1) := by decide +kernel
theorem dX0_checkNode_5 : decode cX0_checkNode 5 = .ok (.aload_n 0, 1) := by decide +kernel
theorem dX0_checkNode_6 : decode cX0_checkNode 6 = .ok (.getfield 19, 3) := by decide +kernel
theorem dX0_checkNode_9 : decode cX0_checkNode 9 = .ok (.if_icmp .lt 13, 3) := by decide +kernel
theorem dX0_checkNode_12 : decode cX0_checkNode 12 = .ok (.new 67, 3) := by decide +kernel
theorem dX0_checkNode_15 : decode cX0_checkNode 15 = .ok (.dup, 1) := by decide +kernel
theorem dX0_checkNode_16 : decode cX0_checkNode 16 = .ok (.ldc 135, 2) := by decide +kernel
theorem dX0_checkNode_18 : decode cX0_checkNode 18 = .ok (.invokespecial 71, 3) := by decide +kernel
theorem dX0_checkNode_21 : decode cX0_checkNode 21 = .ok (.athrow, 1) := by decide +kernel
theorem dX0_checkNode_22 : decode cX0_checkNode 22 = .ok (.return_, 1) := by decide +kernel
set_option maxRecDepth 20000 in
theorem ggX0_checkPair_X0_checkNode : GoodIn wsX0_checkPair wsX0_checkNode := goodIn_ca (goodIn_r _ [7, 8, 9, 10, 11, 12, 13, 14, 15, 16] (by decide +kernel) (by decide +kernel)) (goodIn_sub (fun _ h => List.mem_cons_of_mem _ (List.mem_append_right _ h)) (by decide +kernel))
set_option maxRecDepth 20000 in
theorem gX0_checkPair_X0_checkNode : GoodIn wsX0_checkPair (wsV RX0 59 RX0 yX0_checkNode wsX0_checkNode) := goodIn_app (goodIn_of _ (by decide +kernel)) ggX0_checkPair_X0_checkNode
theorem dX0_checkPair_0 : decode cX0_checkPair 0 = .ok (.aload_n 0, 1) := by decide +kernel
theorem dX0_checkPair_1 : decode cX0_checkPair 1 = .ok (.iload_n 1, 1) := by decide +kernel
theorem dX0_checkPair_2 : decode cX0_checkPair 2 = .ok (.invokevirtual 59, 3) := by decide +kernel
theorem dX0_checkPair_5 : decode cX0_checkPair 5 = .ok (.aload_n 0, 1) := by decide +kernel
theorem dX0_checkPair_6 : decode cX0_checkPair 6 = .ok (.iload_n 2, 1) := by decide +kernel
theorem dX0_checkPair_7 : decode cX0_checkPair 7 = .ok (.invokevirtual 59, 3) := by decide +kernel
theorem dX0_checkPair_10 : decode cX0_checkPair 10 = .ok (.iload_n 1, 1) := by decide +kernel
theorem dX0_checkPair_11 : decode cX0_checkPair 11 = .ok (.iload_n 2, 1) := by decide +kernel
theorem dX0_checkPair_12 : decode cX0_checkPair 12 = .ok (.if_icmp .ne 13, 3) := by decide +kernel
theorem dX0_checkPair_15 : decode cX0_checkPair 15 = .ok (.new 130, 3) := by decide +kernel
theorem dX0_checkPair_18 : decode cX0_checkPair 18 = .ok (.dup, 1) := by decide +kernel
theorem dX0_checkPair_19 : decode cX0_checkPair 19 = .ok (.ldc 137, 2) := by decide +kernel
theorem dX0_checkPair_21 : decode cX0_checkPair 21 = .ok (.invokespecial 134, 3) := by decide +kernel
theorem dX0_checkPair_24 : decode cX0_checkPair 24 = .ok (.athrow, 1) := by decide +kernel
theorem dX0_checkPair_25 : decode cX0_checkPair 25 = .ok (.return_, 1) := by decide +kernel
set_option maxRecDepth 20000 in
theorem ggX0_checkEdge_X0_contains : GoodIn wsX0_checkEdge wsX0_contains := goodIn_r _ [7, 8, 9, 6, 10] (by decide +kernel) (by decide +kernel)
set_option maxRecDepth 20000 in
theorem gX0_checkEdge_X0_contains : GoodIn wsX0_checkEdge (va_wsS RX0 40 yX0_contains wsX0_contains) := goodIn_app (goodIn_of _ (by decide +kernel)) ggX0_checkEdge_X0_contains
theorem dX0_checkEdge_0 : decode cX0_checkEdge 0 = .ok (.aload_n 0, 1) := by decide +kernel
theorem dX0_checkEdge_1 : decode cX0_checkEdge 1 = .ok (.getfield 9, 3) := by decide +kernel
theorem dX0_checkEdge_4 : decode cX0_checkEdge 4 = .ok (.iload_n 1, 1) := by decide +kernel
theorem dX0_checkEdge_5 : decode cX0_checkEdge 5 = .ok (.iaload, 1) := by decide +kernel
theorem dX0_checkEdge_6 : decode cX0_checkEdge 6 = .ok (.iload_n 2, 1) := by decide +kernel
theorem dX0_checkEdge_7 : decode cX0_checkEdge 7 = .ok (.invokestatic 40, 3) := by decide +kernel
theorem dX0_checkEdge_10 : decode cX0_checkEdge 10 = .ok (.ifCond .ne 13, 3) := by decide +kernel
theorem dX0_checkEdge_13 : decode cX0_checkEdge 13 = .ok (.new 95, 3) := by decide +kernel
theorem dX0_checkEdge_16 : decode cX0_checkEdge 16 = .ok (.dup, 1) := by decide +kernel
theorem dX0_checkEdge_17 : decode cX0_checkEdge 17 = .ok (.ldc 139, 2) := by decide +kernel
theorem dX0_checkEdge_19 : decode cX0_checkEdge 19 = .ok (.invokespecial 99, 3) := by decide +kernel
theorem dX0_checkEdge_22 : decode cX0_checkEdge 22 = .ok (.athrow, 1) := by decide +kernel
theorem dX0_checkEdge_23 : decode cX0_checkEdge 23 = .ok (.return_, 1) := by decide +kernel
theorem dX0_checkLevel_0 : decode cX0_checkLevel 0 = .ok (.iload_n 0, 1) := by decide +kernel
theorem dX0_checkLevel_1 : decode cX0_checkLevel 1 = .ok (.ifCond .ge 13, 3) := by decide +kernel
theorem dX0_checkLevel_4 : decode cX0_checkLevel 4 = .ok (.new 130, 3) := by decide +kernel
theorem dX0_checkLevel_7 : decode cX0_checkLevel 7 = .ok (.dup, 1) := by decide +kernel
theorem dX0_checkLevel_8 : decode cX0_checkLevel 8 = .ok (.ldc 141, 2) := by decide +kernel
theorem dX0_checkLevel_10 : decode cX0_checkLevel 10 = .ok (.invokespecial 134, 3) := by decide +kernel
theorem dX0_checkLevel_13 : decode cX0_checkLevel 13 = .ok (.athrow, 1) := by decide +kernel
theorem dX0_checkLevel_14 : decode cX0_checkLevel 14 = .ok (.return_, 1) := by decide +kernel
theorem dX0_single_0 : decode cX0_single 0 = .ok (.iconst 1, 1) := by decide +kernel
theorem dX0_single_1 : decode cX0_single 1 = .ok (.iload_n 0, 1) := by decide +kernel
theorem dX0_single_2 : decode cX0_single 2 = .ok (.ishl, 1) := by decide +kernel
theorem dX0_single_3 : decode cX0_single 3 = .ok (.ireturn, 1) := by decide +kernel
set_option maxRecDepth 20000 in
theorem ggX0_contains_X0_single : GoodIn wsX0_contains wsX0_single := goodIn_r _ [4] (by decide +kernel) (by decide +kernel)
set_option maxRecDepth 20000 in
theorem gX0_contains_X0_single : GoodIn wsX0_contains (va_wsS RX0 83 yX0_single wsX0_single) := goodIn_app (goodIn_of _ (by decide +kernel)) ggX0_contains_X0_single
theorem dX0_contains_0 : decode cX0_contains 0 = .ok (.iload_n 0, 1) := by decide +kernel
theorem dX0_contains_1 : decode cX0_contains 1 = .ok (.iload_n 1, 1) := by decide +kernel
theorem dX0_contains_2 : decode cX0_contains 2 = .ok (.invokestatic 83, 3) := by decide +kernel
theorem dX0_contains_5 : decode cX0_contains 5 = .ok (.iand, 1) := by decide +kernel
theorem dX0_contains_6 : decode cX0_contains 6 = .ok (.ifCond .eq 7, 3) := by decide +kernel
theorem dX0_contains_9 : decode cX0_contains 9 = .ok (.iconst 1, 1) := by decide +kernel
theorem dX0_contains_10 : decode cX0_contains 10 = .ok (.goto 4, 3) := by decide +kernel
theorem dX0_contains_13 : decode cX0_contains 13 = .ok (.iconst 0, 1) := by decide +kernel
theorem dX0_contains_14 : decode cX0_contains 14 = .ok (.ireturn, 1) := by decide +kernel
set_option maxRecDepth 20000 in
theorem ggX0_with_X0_single : GoodIn wsX0_with wsX0_single := goodIn_r _ [4] (by decide +kernel) (by decide +kernel)
set_option maxRecDepth 20000 in
theorem gX0_with_X0_single : GoodIn wsX0_with (va_wsS RX0 83 yX0_single wsX0_single) := goodIn_app (goodIn_of _ (by decide +kernel)) ggX0_with_X0_single
theorem dX0_with_0 : decode cX0_with 0 = .ok (.iload_n 0, 1) := by decide +kernel
theorem dX0_with_1 : decode cX0_with 1 = .ok (.iload_n 1, 1) := by decide +kernel
theorem dX0_with_2 : decode cX0_with 2 = .ok (.invokestatic 83, 3) := by decide +kernel
theorem dX0_with_5 : decode cX0_with 5 = .ok (.ior, 1) := by decide +kernel
theorem dX0_with_6 : decode cX0_with 6 = .ok (.ireturn, 1) := by decide +kernel
set_option maxRecDepth 20000 in
theorem ggX0_without_X0_single : GoodIn wsX0_without wsX0_single := goodIn_r _ [4] (by decide +kernel) (by decide +kernel)
set_option maxRecDepth 20000 in
theorem gX0_without_X0_single : GoodIn wsX0_without (va_wsS RX0 83 yX0_single wsX0_single) := goodIn_app (goodIn_of _ (by decide +kernel)) ggX0_without_X0_single
theorem dX0_without_0 : decode cX0_without 0 = .ok (.iload_n 0, 1) := by decide +kernel
theorem dX0_without_1 : decode cX0_without 1 = .ok (.iload_n 1, 1) := by decide +kernel
theorem dX0_without_2 : decode cX0_without 2 = .ok (.invokestatic 83, 3) := by decide +kernel
theorem dX0_without_5 : decode cX0_without 5 = .ok (.iconst (-1), 1) := by decide +kernel
theorem dX0_without_6 : decode cX0_without 6 = .ok (.ixor, 1) := by decide +kernel
theorem dX0_without_7 : decode cX0_without 7 = .ok (.iand, 1) := by decide +kernel
theorem dX0_without_8 : decode cX0_without 8 = .ok (.ireturn, 1) := by decide +kernel
set_option maxRecDepth 20000 in
theorem ggX0_size_J6_bitCount_0f7a4 : GoodIn wsX0_size wsJ6_bitCount_0f7a4 := goodIn_r _ [4, 5, 6, 7] (by decide +kernel) (by decide +kernel)
set_option maxRecDepth 20000 in
theorem gX0_size_J6_bitCount_0f7a4 : GoodIn wsX0_size (va_wsS RX0 143 yJ6_bitCount_0f7a4 wsJ6_bitCount_0f7a4) := goodIn_app (goodIn_of _ (by decide +kernel)) ggX0_size_J6_bitCount_0f7a4
theorem dX0_size_0 : decode cX0_size 0 = .ok (.iload_n 0, 1) := by decide +kernel
theorem dX0_size_1 : decode cX0_size 1 = .ok (.invokestatic 143, 3) := by decide +kernel
theorem dX0_size_4 : decode cX0_size 4 = .ok (.ireturn, 1) := by decide +kernel
set_option maxRecDepth 20000 in
theorem ggX0_allNodes_X0_single : GoodIn wsX0_allNodes wsX0_single := goodIn_r _ [5] (by decide +kernel) (by decide +kernel)
set_option maxRecDepth 20000 in
theorem gX0_allNodes_X0_single : GoodIn wsX0_allNodes (va_wsS RX0 83 yX0_single wsX0_single) := goodIn_app (goodIn_of _ (by decide +kernel)) ggX0_allNodes_X0_single
theorem dX0_allNodes_0 : decode cX0_allNodes 0 = .ok (.aload_n 0, 1) := by decide +kernel
theorem dX0_allNodes_1 : decode cX0_allNodes 1 = .ok (.getfield 19, 3) := by decide +kernel
theorem dX0_allNodes_4 : decode cX0_allNodes 4 = .ok (.invokestatic 83, 3) := by decide +kernel
theorem dX0_allNodes_7 : decode cX0_allNodes 7 = .ok (.iconst 1, 1) := by decide +kernel
theorem dX0_allNodes_8 : decode cX0_allNodes 8 = .ok (.isub, 1) := by decide +kernel
theorem dX0_allNodes_9 : decode cX0_allNodes 9 = .ok (.ireturn, 1) := by decide +kernel
set_option maxRecDepth 20000 in
theorem ggX0_coreSet_X0_with : GoodIn wsX0_coreSet wsX0_with := goodIn_r _ [6, 7, 8, 5, 9] (by decide +kernel) (by decide +kernel)
set_option maxRecDepth 20000 in
theorem gX0_coreSet_X0_with : GoodIn wsX0_coreSet (va_wsS RX0 46 yX0_with wsX0_with) := goodIn_app (goodIn_of _ (by decide +kernel)) ggX0_coreSet_X0_with
theorem dX0_coreSet_0 : decode cX0_coreSet 0 = .ok (.iconst 0, 1) := by decide +kernel
theorem dX0_coreSet_1 : decode cX0_coreSet 1 = .ok (.istore_n 2, 1) := by decide +kernel
theorem dX0_coreSet_2 : decode cX0_coreSet 2 = .ok (.iconst 0, 1) := by decide +kernel
theorem dX0_coreSet_3 : decode cX0_coreSet 3 = .ok (.istore_n 3, 1) := by decide +kernel
theorem dX0_coreSet_4 : decode cX0_coreSet 4 = .ok (.iload_n 3, 1) := by decide +kernel
theorem dX0_coreSet_5 : decode cX0_coreSet 5 = .ok (.aload_n 0, 1) := by decide +kernel
theorem dX0_coreSet_6 : decode cX0_coreSet 6 = .ok (.getfield 19, 3) := by decide +kernel
theorem dX0_coreSet_9 : decode cX0_coreSet 9 = .ok (.if_icmp .ge 25, 3) := by decide +kernel
theorem dX0_coreSet_12 : decode cX0_coreSet 12 = .ok (.aload_n 0, 1) := by decide +kernel
theorem dX0_coreSet_13 : decode cX0_coreSet 13 = .ok (.getfield 13, 3) := by decide +kernel
theorem dX0_coreSet_16 : decode cX0_coreSet 16 = .ok (.iload_n 3, 1) := by decide +kernel
theorem dX0_coreSet_17 : decode cX0_coreSet 17 = .ok (.iaload, 1) := by decide +kernel
theorem dX0_coreSet_18 : decode cX0_coreSet 18 = .ok (.iload_n 1, 1) := by decide +kernel
theorem dX0_coreSet_19 : decode cX0_coreSet 19 = .ok (.if_icmp .lt 9, 3) := by decide +kernel
theorem dX0_coreSet_22 : decode cX0_coreSet 22 = .ok (.iload_n 2, 1) := by decide +kernel
theorem dX0_coreSet_23 : decode cX0_coreSet 23 = .ok (.iload_n 3, 1) := by decide +kernel
theorem dX0_coreSet_24 : decode cX0_coreSet 24 = .ok (.invokestatic 46, 3) := by decide +kernel
theorem dX0_coreSet_27 : decode cX0_coreSet 27 = .ok (.istore_n 2, 1) := by decide +kernel
theorem dX0_coreSet_28 : decode cX0_coreSet 28 = .ok (.iinc 3 1, 3) := by decide +kernel
theorem dX0_coreSet_31 : decode cX0_coreSet 31 = .ok (.goto (-27), 3) := by decide +kernel
theorem dX0_coreSet_34 : decode cX0_coreSet 34 = .ok (.iload_n 2, 1) := by decide +kernel
theorem dX0_coreSet_35 : decode cX0_coreSet 35 = .ok (.ireturn, 1) := by decide +kernel
set_option maxRecDepth 20000 in
theorem ggX0_shellSet_X0_coreSet : GoodIn wsX0_shellSet wsX0_coreSet := goodIn_r _ [5, 6, 7, 8, 9, 4, 10, 11, 12, 13, 14, 15, 16, 17, 18, 19] (by decide +kernel) (by decide +kernel)
set_option maxRecDepth 20000 in
theorem gX0_shellSet_X0_coreSet : GoodIn wsX0_shellSet (wsV RX0 80 RX0 yX0_coreSet wsX0_coreSet) := goodIn_app (goodIn_of _ (by decide +kernel)) ggX0_shellSet_X0_coreSet
theorem dX0_shellSet_0 : decode cX0_shellSet 0 = .ok (.aload_n 0, 1) := by decide +kernel
theorem dX0_shellSet_1 : decode cX0_shellSet 1 = .ok (.iload_n 1, 1) := by decide +kernel
theorem dX0_shellSet_2 : decode cX0_shellSet 2 = .ok (.invokevirtual 80, 3) := by decide +kernel
theorem dX0_shellSet_5 : decode cX0_shellSet 5 = .ok (.aload_n 0, 1) := by decide +kernel
theorem dX0_shellSet_6 : decode cX0_shellSet 6 = .ok (.iload_n 1, 1) := by decide +kernel
theorem dX0_shellSet_7 : decode cX0_shellSet 7 = .ok (.iconst 1, 1) := by decide +kernel
theorem dX0_shellSet_8 : decode cX0_shellSet 8 = .ok (.iadd, 1) := by decide +kernel
theorem dX0_shellSet_9 : decode cX0_shellSet 9 = .ok (.invokevirtual 80, 3) := by decide +kernel
theorem dX0_shellSet_12 : decode cX0_shellSet 12 = .ok (.iconst (-1), 1) := by decide +kernel
theorem dX0_shellSet_13 : decode cX0_shellSet 13 = .ok (.ixor, 1) := by decide +kernel
theorem dX0_shellSet_14 : decode cX0_shellSet 14 = .ok (.iand, 1) := by decide +kernel
theorem dX0_shellSet_15 : decode cX0_shellSet 15 = .ok (.ireturn, 1) := by decide +kernel
set_option maxRecDepth 20000 in
theorem ggX0_edgesWithin_X0_contains : GoodIn wsX0_edgesWithin wsX0_contains := goodIn_r _ [6, 7, 8, 5, 9] (by decide +kernel) (by decide +kernel)
set_option maxRecDepth 20000 in
theorem gX0_edgesWithin_X0_contains : GoodIn wsX0_edgesWithin (va_wsS RX0 40 yX0_contains wsX0_contains) := goodIn_app (goodIn_of _ (by decide +kernel)) ggX0_edgesWithin_X0_contains
set_option maxRecDepth 20000 in
theorem ggX0_edgesWithin_X0_size : GoodIn wsX0_edgesWithin wsX0_size := goodIn_r _ [12, 13, 14, 15, 16, 17, 18, 19] (by decide +kernel) (by decide +kernel)
set_option maxRecDepth 20000 in
theorem gX0_edgesWithin_X0_size : GoodIn wsX0_edgesWithin (va_wsS RX0 63 yX0_size wsX0_size) := goodIn_app (goodIn_of _ (by decide +kernel)) ggX0_edgesWithin_X0_size
theorem dX0_edgesWithin_0 : decode cX0_edgesWithin 0 = .ok (.iconst 0, 1) := by decide +kernel
theorem dX0_edgesWithin_1 : decode cX0_edgesWithin 1 = .ok (.istore_n 2, 1) := by decide +kernel
theorem dX0_edgesWithin_2 : decode cX0_edgesWithin 2 = .ok (.iconst 0, 1) := by decide +kernel
theorem dX0_edgesWithin_3 : decode cX0_edgesWithin 3 = .ok (.istore_n 3, 1) := by decide +kernel
theorem dX0_edgesWithin_4 : decode cX0_edgesWithin 4 = .ok (.iload_n 3, 1) := by decide +kernel
theorem dX0_edgesWithin_5 : decode cX0_edgesWithin 5 = .ok (.aload_n 0, 1) := by decide +kernel
theorem dX0_edgesWithin_6 : decode cX0_edgesWithin 6 = .ok (.getfield 19, 3) := by decide +kernel
theorem dX0_edgesWithin_9 : decode cX0_edgesWithin 9 = .ok (.if_icmp .ge 31, 3) := by decide +kernel
theorem dX0_edgesWithin_12 : decode cX0_edgesWithin 12 = .ok (.iload_n 1, 1) := by decide +kernel
theorem dX0_edgesWithin_13 : decode cX0_edgesWithin 13 = .ok (.iload_n 3, 1) := by decide +kernel
theorem dX0_edgesWithin_14 : decode cX0_edgesWithin 14 = .ok (.invokestatic 40, 3) := by decide +kernel
theorem dX0_edgesWithin_17 : decode cX0_edgesWithin 17 = .ok (.ifCond .eq 17, 3) := by decide +kernel
theorem dX0_edgesWithin_20 : decode cX0_edgesWithin 20 = .ok (.iload_n 2, 1) := by decide +kernel
theorem dX0_edgesWithin_21 : decode cX0_edgesWithin 21 = .ok (.aload_n 0, 1) := by decide +kernel
theorem dX0_edgesWithin_22 : decode cX0_edgesWithin 22 = .ok (.getfield 9, 3) := by decide +kernel
theorem dX0_edgesWithin_25 : decode cX0_edgesWithin 25 = .ok (.iload_n 3, 1) := by decide +kernel
theorem dX0_edgesWithin_26 : decode cX0_edgesWithin 26 = .ok (.iaload, 1) := by decide +kernel
theorem dX0_edgesWithin_27 : decode cX0_edgesWithin 27 = .ok (.iload_n 1, 1) := by decide +kernel
theorem dX0_edgesWithin_28 : decode cX0_edgesWithin 28 = .ok (.iand, 1) := by decide +kernel
theorem dX0_edgesWithin_29 : decode cX0_edgesWithin 29 = .ok (.invokestatic 63, 3) := by decide +kernel
theorem dX0_edgesWithin_32 : decode cX0_edgesWithin 32 = .ok (.iadd, 1) := by decide +kernel
theorem dX0_edgesWithin_33 : decode cX0_edgesWithin 33 = .ok (.istore_n 2, 1) := by decide +kernel
theorem dX0_edgesWithin_34 : decode cX0_edgesWithin 34 = .ok (.iinc 3 1, 3) := by decide +kernel
theorem dX0_edgesWithin_37 : decode cX0_edgesWithin 37 = .ok (.goto (-33), 3) := by decide +kernel
theorem dX0_edgesWithin_40 : decode cX0_edgesWithin 40 = .ok (.iload_n 2, 1) := by decide +kernel
theorem dX0_edgesWithin_41 : decode cX0_edgesWithin 41 = .ok (.iconst 2, 1) := by decide +kernel
theorem dX0_edgesWithin_42 : decode cX0_edgesWithin 42 = .ok (.idiv, 1) := by decide +kernel
theorem dX0_edgesWithin_43 : decode cX0_edgesWithin 43 = .ok (.ireturn, 1) := by decide +kernel
set_option maxRecDepth 20000 in
theorem ggX0_reach_X0_contains : GoodIn wsX0_reach wsX0_contains := goodIn_r _ [6, 7, 8, 5, 9] (by decide +kernel) (by decide +kernel)
set_option maxRecDepth 20000 in
theorem gX0_reach_X0_contains : GoodIn wsX0_reach (va_wsS RX0 40 yX0_contains wsX0_contains) := goodIn_app (goodIn_of _ (by decide +kernel)) ggX0_reach_X0_contains
theorem dX0_reach_0 : decode cX0_reach 0 = .ok (.iload_n 1, 1) := by decide +kernel
theorem dX0_reach_1 : decode cX0_reach 1 = .ok (.iload_n 2, 1) := by decide +kernel
theorem dX0_reach_2 : decode cX0_reach 2 = .ok (.iand, 1) := by decide +kernel
theorem dX0_reach_3 : decode cX0_reach 3 = .ok (.istore_n 3, 1) := by decide +kernel
theorem dX0_reach_4 : decode cX0_reach 4 = .ok (.iconst 0, 1) := by decide +kernel
theorem dX0_reach_5 : decode cX0_reach 5 = .ok (.istore 4, 2) := by decide +kernel
theorem dX0_reach_7 : decode cX0_reach 7 = .ok (.iload 4, 2) := by decide +kernel
theorem dX0_reach_9 : decode cX0_reach 9 = .ok (.aload_n 0, 1) := by decide +kernel
theorem dX0_reach_10 : decode cX0_reach 10 = .ok (.getfield 19, 3) := by decide +kernel
theorem dX0_reach_13 : decode cX0_reach 13 = .ok (.if_icmp .ge 64, 3) := by decide +kernel
theorem dX0_reach_16 : decode cX0_reach 16 = .ok (.iload_n 3, 1) := by decide +kernel
theorem dX0_reach_17 : decode cX0_reach 17 = .ok (.istore 5, 2) := by decide +kernel
theorem dX0_reach_19 : decode cX0_reach 19 = .ok (.iconst 0, 1) := by decide +kernel
theorem dX0_reach_20 : decode cX0_reach 20 = .ok (.istore 6, 2) := by decide +kernel
theorem dX0_reach_22 : decode cX0_reach 22 = .ok (.iload 6, 2) := by decide +kernel
theorem dX0_reach_24 : decode cX0_reach 24 = .ok (.aload_n 0, 1) := by decide +kernel
theorem dX0_reach_25 : decode cX0_reach 25 = .ok (.getfield 19, 3) := by decide +kernel
theorem dX0_reach_28 : decode cX0_reach 28 = .ok (.if_icmp .ge 32, 3) := by decide +kernel
theorem dX0_reach_31 : decode cX0_reach 31 = .ok (.iload_n 3, 1) := by decide +kernel
theorem dX0_reach_32 : decode cX0_reach 32 = .ok (.iload 6, 2) := by decide +kernel
theorem dX0_reach_34 : decode cX0_reach 34 = .ok (.invokestatic 40, 3) := by decide +kernel
theorem dX0_reach_37 : decode cX0_reach 37 = .ok (.ifCond .eq 17, 3) := by decide +kernel
theorem dX0_reach_40 : decode cX0_reach 40 = .ok (.iload 5, 2) := by decide +kernel
theorem dX0_reach_42 : decode cX0_reach 42 = .ok (.aload_n 0, 1) := by decide +kernel
theorem dX0_reach_43 : decode cX0_reach 43 = .ok (.getfield 9, 3) := by decide +kernel
theorem dX0_reach_46 : decode cX0_reach 46 = .ok (.iload 6, 2) := by decide +kernel
theorem dX0_reach_48 : decode cX0_reach 48 = .ok (.iaload, 1) := by decide +kernel
theorem dX0_reach_49 : decode cX0_reach 49 = .ok (.iload_n 2, 1) := by decide +kernel
theorem dX0_reach_50 : decode cX0_reach 50 = .ok (.iand, 1) := by decide +kernel
theorem dX0_reach_51 : decode cX0_reach 51 = .ok (.ior, 1) := by decide +kernel
theorem dX0_reach_52 : decode cX0_reach 52 = .ok (.istore 5, 2) := by decide +kernel
theorem dX0_reach_54 : decode cX0_reach 54 = .ok (.iinc 6 1, 3) := by decide +kernel
theorem dX0_reach_57 : decode cX0_reach 57 = .ok (.goto (-35), 3) := by decide +kernel
theorem dX0_reach_60 : decode cX0_reach 60 = .ok (.iload 5, 2) := by decide +kernel
theorem dX0_reach_62 : decode cX0_reach 62 = .ok (.iload_n 3, 1) := by decide +kernel
theorem dX0_reach_63 : decode cX0_reach 63 = .ok (.if_icmp .ne 5, 3) := by decide +kernel
theorem dX0_reach_66 : decode cX0_reach 66 = .ok (.iload_n 3, 1) := by decide +kernel
theorem dX0_reach_67 : decode cX0_reach 67 = .ok (.ireturn, 1) := by decide +kernel
theorem dX0_reach_68 : decode cX0_reach 68 = .ok (.iload 5, 2) := by decide +kernel
theorem dX0_reach_70 : decode cX0_reach 70 = .ok (.istore_n 3, 1) := by decide +kernel
theorem dX0_reach_71 : decode cX0_reach 71 = .ok (.iinc 4 1, 3) := by decide +kernel
theorem dX0_reach_74 : decode cX0_reach 74 = .ok (.goto (-67), 3) := by decide +kernel
theorem dX0_reach_77 : decode cX0_reach 77 = .ok (.iload_n 3, 1) := by decide +kernel
theorem dX0_reach_78 : decode cX0_reach 78 = .ok (.ireturn, 1) := by decide +kernel
set_option maxRecDepth 20000 in
theorem ggX0_raiseCores_X0_nearShell : GoodIn wsX0_raiseCores wsX0_nearShell := goodIn_r _ [10, 11, 12, 9, 13, 14, 15, 16, 17, 18, 19, 20, 21, 22, 23, 24, 25, 1, 26, 27, 28, 29, 30, 31, 32, 33, 56, 57, 58, 59, 60, 61] (by decide +kernel) (by decide +kernel)
set_option maxRecDepth 20000 in
theorem gX0_raiseCores_X0_nearShell : GoodIn wsX0_raiseCores (wsV RX0 148 RX0 yX0_nearShell wsX0_nearShell) := goodIn_app (goodIn_of _ (by decide +kernel)) ggX0_raiseCores_X0_nearShell
set_option maxRecDepth 20000 in
theorem ggX0_raiseCores_X0_coreSet : GoodIn wsX0_raiseCores wsX0_coreSet := goodIn_r _ [24, 25, 1, 14, 15, 9, 16, 11, 12, 13, 56, 57, 58, 59, 60, 61] (by decide +kernel) (by decide +kernel)
set_option maxRecDepth 20000 in
theorem gX0_raiseCores_X0_coreSet : GoodIn wsX0_raiseCores (wsV RX0 80 RX0 yX0_coreSet wsX0_coreSet) := goodIn_app (goodIn_of _ (by decide +kernel)) ggX0_raiseCores_X0_coreSet
set_option maxRecDepth 20000 in
theorem ggX0_raiseCores_X0_supportedPart : GoodIn wsX0_raiseCores wsX0_supportedPart := goodIn_r _ [37, 25, 30, 31, 32, 9, 33, 11, 12, 13, 38, 39, 40, 41, 42, 43, 44, 45, 46, 47, 48, 49, 50, 56, 57, 58, 59, 60, 61] (by decide +kernel) (by decide +kernel)
set_option maxRecDepth 20000 in
theorem gX0_raiseCores_X0_supportedPart : GoodIn wsX0_raiseCores (wsV RX0 152 RX0 yX0_supportedPart wsX0_supportedPart) := goodIn_app (goodIn_of _ (by decide +kernel)) ggX0_raiseCores_X0_supportedPart
set_option maxRecDepth 20000 in
theorem ggX0_raiseCores_X0_changeCores : GoodIn wsX0_raiseCores wsX0_changeCores := goodIn_r _ [54, 25, 1, 55, 31, 32, 9, 33, 11, 12, 13, 38, 39, 40, 41, 42, 43, 44, 45, 46, 47, 56, 57, 58, 59, 60, 61] (by decide +kernel) (by decide +kernel)
set_option maxRecDepth 20000 in
theorem gX0_raiseCores_X0_changeCores : GoodIn wsX0_raiseCores (wsV RX0 155 RX0 yX0_changeCores wsX0_changeCores) := goodIn_app (goodIn_of _ (by decide +kernel)) ggX0_raiseCores_X0_changeCores
theorem dX0_raiseCores_0 : decode cX0_raiseCores 0 = .ok (.aload_n 0, 1) := by decide +kernel
theorem dX0_raiseCores_1 : decode cX0_raiseCores 1 = .ok (.getfield 13, 3) := by decide +kernel
theorem dX0_raiseCores_4 : decode cX0_raiseCores 4 = .ok (.iload_n 1, 1) := by decide +kernel
theorem dX0_raiseCores_5 : decode cX0_raiseCores 5 = .ok (.iaload, 1) := by decide +kernel
theorem dX0_raiseCores_6 : decode cX0_raiseCores 6 = .ok (.aload_n 0, 1) := by decide +kernel
theorem dX0_raiseCores_7 : decode cX0_raiseCores 7 = .ok (.getfield 13, 3) := by decide +kernel
theorem dX0_raiseCores_10 : decode cX0_raiseCores 10 = .ok (.iload_n 2, 1) := by decide +kernel
theorem dX0_raiseCores_11 : decode cX0_raiseCores 11 = .ok (.iaload, 1) := by decide +kernel
theorem dX0_raiseCores_12 : decode cX0_raiseCores 12 = .ok (.invokestatic 92, 3) := by decide +kernel
theorem dX0_raiseCores_15 : decode cX0_raiseCores 15 = .ok (.istore_n 3, 1) := by decide +kernel
theorem dX0_raiseCores_16 : decode cX0_raiseCores 16 = .ok (.aload_n 0, 1) := by decide +kernel
theorem dX0_raiseCores_17 : decode cX0_raiseCores 17 = .ok (.iload_n 1, 1) := by decide +kernel
theorem dX0_raiseCores_18 : decode cX0_raiseCores 18 = .ok (.iload_n 2, 1) := by decide +kernel
theorem dX0_raiseCores_19 : decode cX0_raiseCores 19 = .ok (.iload_n 3, 1) := by decide +kernel
theorem dX0_raiseCores_20 : decode cX0_raiseCores 20 = .ok (.invokevirtual 148, 3) := by decide +kernel
theorem dX0_raiseCores_23 : decode cX0_raiseCores 23 = .ok (.istore 4, 2) := by decide +kernel
theorem dX0_raiseCores_25 : decode cX0_raiseCores 25 = .ok (.aload_n 0, 1) := by decide +kernel
theorem dX0_raiseCores_26 : decode cX0_raiseCores 26 = .ok (.aload_n 0, 1) := by decide +kernel
theorem dX0_raiseCores_27 : decode cX0_raiseCores 27 = .ok (.iload 4, 2) := by decide +kernel
theorem dX0_raiseCores_29 : decode cX0_raiseCores 29 = .ok (.aload_n 0, 1) := by decide +kernel
theorem dX0_raiseCores_30 : decode cX0_raiseCores 30 = .ok (.iload_n 3, 1) := by decide +kernel
theorem dX0_raiseCores_31 : decode cX0_raiseCores 31 = .ok (.iconst 1, 1) := by decide +kernel
theorem dX0_raiseCores_32 : decode cX0_raiseCores 32 = .ok (.iadd, 1) := by decide +kernel
theorem dX0_raiseCores_33 : decode cX0_raiseCores 33 = .ok (.invokevirtual 80, 3) := by decide +kernel
theorem dX0_raiseCores_36 : decode cX0_raiseCores 36 = .ok (.iload_n 3, 1) := by decide +kernel
theorem dX0_raiseCores_37 : decode cX0_raiseCores 37 = .ok (.iconst 1, 1) := by decide +kernel
theorem dX0_raiseCores_38 : decode cX0_raiseCores 38 = .ok (.iadd, 1) := by decide +kernel
theorem dX0_raiseCores_39 : decode cX0_raiseCores 39 = .ok (.invokevirtual 152, 3) := by decide +kernel
theorem dX0_raiseCores_42 : decode cX0_raiseCores 42 = .ok (.iconst 1, 1) := by decide +kernel
theorem dX0_raiseCores_43 : decode cX0_raiseCores 43 = .ok (.invokevirtual 155, 3) := by decide +kernel
theorem dX0_raiseCores_46 : decode cX0_raiseCores 46 = .ok (.ireturn, 1) := by decide +kernel
set_option maxRecDepth 20000 in
theorem ggX0_cutEdge_X0_without : GoodIn wsX0_cutEdge wsX0_without := goodIn_r _ [11, 12, 13, 10, 14] (by decide +kernel) (by decide +kernel)
set_option maxRecDepth 20000 in
theorem gX0_cutEdge_X0_without : GoodIn wsX0_cutEdge (va_wsS RX0 115 yX0_without wsX0_without) := goodIn_app (goodIn_of _ (by decide +kernel)) ggX0_cutEdge_X0_without
set_option maxRecDepth 20000 in
theorem ggX0_cutEdge_X0_nearShell : GoodIn wsX0_cutEdge wsX0_nearShell := goodIn_r _ [18, 12, 13, 10, 14, 19, 20, 21, 22, 23, 24, 25, 26, 27, 28, 29, 30, 1, 31, 32, 33, 34, 6, 35, 36, 37, 57, 58, 59, 60, 61, 62] (by decide +kernel) (by decide +kernel)
set_option maxRecDepth 20000 in
theorem gX0_cutEdge_X0_nearShell : GoodIn wsX0_cutEdge (wsV RX0 148 RX0 yX0_nearShell wsX0_nearShell) := goodIn_app (goodIn_of _ (by decide +kernel)) ggX0_cutEdge_X0_nearShell
set_option maxRecDepth 20000 in
theorem ggX0_cutEdge_X0_coreSet : GoodIn wsX0_cutEdge wsX0_coreSet := goodIn_r _ [29, 30, 1, 19, 20, 10, 21, 12, 13, 14, 57, 58, 59, 60, 61, 62] (by decide +kernel) (by decide +kernel)
set_option maxRecDepth 20000 in
theorem gX0_cutEdge_X0_coreSet : GoodIn wsX0_cutEdge (wsV RX0 80 RX0 yX0_coreSet wsX0_coreSet) := goodIn_app (goodIn_of _ (by decide +kernel)) ggX0_cutEdge_X0_coreSet
set_option maxRecDepth 20000 in
theorem ggX0_cutEdge_X0_supportedPart : GoodIn wsX0_cutEdge wsX0_supportedPart := goodIn_r _ [41, 30, 6, 35, 36, 10, 37, 12, 13, 14, 42, 43, 44, 45, 46, 47, 48, 49, 50, 51, 8, 9, 11, 57, 58, 59, 60, 61, 62] (by decide +kernel) (by decide +kernel)
set_option maxRecDepth 20000 in
theorem gX0_cutEdge_X0_supportedPart : GoodIn wsX0_cutEdge (wsV RX0 152 RX0 yX0_supportedPart wsX0_supportedPart) := goodIn_app (goodIn_of _ (by decide +kernel)) ggX0_cutEdge_X0_supportedPart
set_option maxRecDepth 20000 in
theorem ggX0_cutEdge_X0_changeCores : GoodIn wsX0_cutEdge wsX0_changeCores := goodIn_r _ [55, 30, 1, 56, 35, 36, 10, 37, 12, 13, 14, 42, 43, 44, 45, 46, 47, 48, 49, 50, 51, 57, 58, 59, 60, 61, 62] (by decide +kernel) (by decide +kernel)
set_option maxRecDepth 20000 in
theorem gX0_cutEdge_X0_changeCores : GoodIn wsX0_cutEdge (wsV RX0 155 RX0 yX0_changeCores wsX0_changeCores) := goodIn_app (goodIn_of _ (by decide +kernel)) ggX0_cutEdge_X0_changeCores
theorem dX0_cutEdge_0 : decode cX0_cutEdge 0 = .ok (.aload_n 0, 1) := by decide +kernel
theorem dX0_cutEdge_1 : decode cX0_cutEdge 1 = .ok (.getfield 13, 3) := by decide +kernel
theorem dX0_cutEdge_4 : decode cX0_cutEdge 4 = .ok (.iload_n 1, 1) := by decide +kernel
theorem dX0_cutEdge_5 : decode cX0_cutEdge 5 = .ok (.iaload, 1) := by decide +kernel
theorem dX0_cutEdge_6 : decode cX0_cutEdge 6 = .ok (.aload_n 0, 1) := by decide +kernel
theorem dX0_cutEdge_7 : decode cX0_cutEdge 7 = .ok (.getfield 13, 3) := by decide +kernel
theorem dX0_cutEdge_10 : decode cX0_cutEdge 10 = .ok (.iload_n 2, 1) := by decide +kernel
theorem dX0_cutEdge_11 : decode cX0_cutEdge 11 = .ok (.iaload, 1) := by decide +kernel
theorem dX0_cutEdge_12 : decode cX0_cutEdge 12 = .ok (.invokestatic 92, 3) := by decide +kernel
theorem dX0_cutEdge_15 : decode cX0_cutEdge 15 = .ok (.istore_n 3, 1) := by decide +kernel
theorem dX0_cutEdge_16 : decode cX0_cutEdge 16 = .ok (.aload_n 0, 1) := by decide +kernel
theorem dX0_cutEdge_17 : decode cX0_cutEdge 17 = .ok (.getfield 9, 3) := by decide +kernel
theorem dX0_cutEdge_20 : decode cX0_cutEdge 20 = .ok (.iload_n 1, 1) := by decide +kernel
theorem dX0_cutEdge_21 : decode cX0_cutEdge 21 = .ok (.aload_n 0, 1) := by decide +kernel
theorem dX0_cutEdge_22 : decode cX0_cutEdge 22 = .ok (.getfield 9, 3) := by decide +kernel
theorem dX0_cutEdge_25 : decode cX0_cutEdge 25 = .ok (.iload_n 1, 1) := by decide +kernel
theorem dX0_cutEdge_26 : decode cX0_cutEdge 26 = .ok (.iaload, 1) := by decide +kernel
theorem dX0_cutEdge_27 : decode cX0_cutEdge 27 = .ok (.iload_n 2, 1) := by decide +kernel
theorem dX0_cutEdge_28 : decode cX0_cutEdge 28 = .ok (.invokestatic 115, 3) := by decide +kernel
theorem dX0_cutEdge_31 : decode cX0_cutEdge 31 = .ok (.iastore, 1) := by decide +kernel
theorem dX0_cutEdge_32 : decode cX0_cutEdge 32 = .ok (.aload_n 0, 1) := by decide +kernel
theorem dX0_cutEdge_33 : decode cX0_cutEdge 33 = .ok (.getfield 9, 3) := by decide +kernel
theorem dX0_cutEdge_36 : decode cX0_cutEdge 36 = .ok (.iload_n 2, 1) := by decide +kernel
theorem dX0_cutEdge_37 : decode cX0_cutEdge 37 = .ok (.aload_n 0, 1) := by decide +kernel
theorem dX0_cutEdge_38 : decode cX0_cutEdge 38 = .ok (.getfield 9, 3) := by decide +kernel
theorem dX0_cutEdge_41 : decode cX0_cutEdge 41 = .ok (.iload_n 2, 1) := by decide +kernel
theorem dX0_cutEdge_42 : decode cX0_cutEdge 42 = .ok (.iaload, 1) := by decide +kernel
theorem dX0_cutEdge_43 : decode cX0_cutEdge 43 = .ok (.iload_n 1, 1) := by decide +kernel
theorem dX0_cutEdge_44 : decode cX0_cutEdge 44 = .ok (.invokestatic 115, 3) := by decide +kernel
theorem dX0_cutEdge_47 : decode cX0_cutEdge 47 = .ok (.iastore, 1) := by decide +kernel
theorem dX0_cutEdge_48 : decode cX0_cutEdge 48 = .ok (.aload_n 0, 1) := by decide +kernel
theorem dX0_cutEdge_49 : decode cX0_cutEdge 49 = .ok (.dup, 1) := by decide +kernel
theorem dX0_cutEdge_50 : decode cX0_cutEdge 50 = .ok (.getfield 23, 3) := by decide +kernel
theorem dX0_cutEdge_53 : decode cX0_cutEdge 53 = .ok (.iconst 1, 1) := by decide +kernel
theorem dX0_cutEdge_54 : decode cX0_cutEdge 54 = .ok (.isub, 1) := by decide +kernel
theorem dX0_cutEdge_55 : decode cX0_cutEdge 55 = .ok (.putfield 23, 3) := by decide +kernel
theorem dX0_cutEdge_58 : decode cX0_cutEdge 58 = .ok (.aload_n 0, 1) := by decide +kernel
theorem dX0_cutEdge_59 : decode cX0_cutEdge 59 = .ok (.iload_n 1, 1) := by decide +kernel
theorem dX0_cutEdge_60 : decode cX0_cutEdge 60 = .ok (.iload_n 2, 1) := by decide +kernel
theorem dX0_cutEdge_61 : decode cX0_cutEdge 61 = .ok (.iload_n 3, 1) := by decide +kernel
theorem dX0_cutEdge_62 : decode cX0_cutEdge 62 = .ok (.invokevirtual 148, 3) := by decide +kernel
theorem dX0_cutEdge_65 : decode cX0_cutEdge 65 = .ok (.istore 4, 2) := by decide +kernel
theorem dX0_cutEdge_67 : decode cX0_cutEdge 67 = .ok (.aload_n 0, 1) := by decide +kernel
theorem dX0_cutEdge_68 : decode cX0_cutEdge 68 = .ok (.iload 4, 2) := by decide +kernel
theorem dX0_cutEdge_70 : decode cX0_cutEdge 70 = .ok (.aload_n 0, 1) := by decide +kernel
theorem dX0_cutEdge_71 : decode cX0_cutEdge 71 = .ok (.iload 4, 2) := by decide +kernel
theorem dX0_cutEdge_73 : decode cX0_cutEdge 73 = .ok (.aload_n 0, 1) := by decide +kernel
theorem dX0_cutEdge_74 : decode cX0_cutEdge 74 = .ok (.iload_n 3, 1) := by decide +kernel
theorem dX0_cutEdge_75 : decode cX0_cutEdge 75 = .ok (.iconst 1, 1) := by decide +kernel
theorem dX0_cutEdge_76 : decode cX0_cutEdge 76 = .ok (.iadd, 1) := by decide +kernel
theorem dX0_cutEdge_77 : decode cX0_cutEdge 77 = .ok (.invokevirtual 80, 3) := by decide +kernel
theorem dX0_cutEdge_80 : decode cX0_cutEdge 80 = .ok (.iload_n 3, 1) := by decide +kernel
theorem dX0_cutEdge_81 : decode cX0_cutEdge 81 = .ok (.invokevirtual 152, 3) := by decide +kernel
theorem dX0_cutEdge_84 : decode cX0_cutEdge 84 = .ok (.iconst (-1), 1) := by decide +kernel
theorem dX0_cutEdge_85 : decode cX0_cutEdge 85 = .ok (.ixor, 1) := by decide +kernel
theorem dX0_cutEdge_86 : decode cX0_cutEdge 86 = .ok (.iand, 1) := by decide +kernel
theorem dX0_cutEdge_87 : decode cX0_cutEdge 87 = .ok (.iconst (-1), 1) := by decide +kernel
theorem dX0_cutEdge_88 : decode cX0_cutEdge 88 = .ok (.invokevirtual 155, 3) := by decide +kernel
theorem dX0_cutEdge_91 : decode cX0_cutEdge 91 = .ok (.ireturn, 1) := by decide +kernel
set_option maxRecDepth 20000 in
theorem ggX0_nearShell_X0_single : GoodIn wsX0_nearShell wsX0_single := goodIn_r _ [4] (by decide +kernel) (by decide +kernel)
set_option maxRecDepth 20000 in
theorem gX0_nearShell_X0_single : GoodIn wsX0_nearShell (va_wsS RX0 83 yX0_single wsX0_single) := goodIn_app (goodIn_of _ (by decide +kernel)) ggX0_nearShell_X0_single
set_option maxRecDepth 20000 in
theorem ggX0_nearShell_X0_with : GoodIn wsX0_nearShell wsX0_with := goodIn_r _ [7, 1, 2, 3, 4] (by decide +kernel) (by decide +kernel)
set_option maxRecDepth 20000 in
theorem gX0_nearShell_X0_with : GoodIn wsX0_nearShell (va_wsS RX0 46 yX0_with wsX0_with) := goodIn_app (goodIn_of _ (by decide +kernel)) ggX0_nearShell_X0_with
set_option maxRecDepth 20000 in
theorem ggX0_nearShell_X0_shellSet : GoodIn wsX0_nearShell wsX0_shellSet := goodIn_r _ [11, 12, 13, 14, 3, 15, 16, 17, 5, 6, 7, 1, 2, 4, 26, 27, 28, 29, 30, 31] (by decide +kernel) (by decide +kernel)
set_option maxRecDepth 20000 in
theorem gX0_nearShell_X0_shellSet : GoodIn wsX0_nearShell (wsV RX0 104 RX0 yX0_shellSet wsX0_shellSet) := goodIn_app (goodIn_of _ (by decide +kernel)) ggX0_nearShell_X0_shellSet
set_option maxRecDepth 20000 in
theorem ggX0_nearShell_X0_reach : GoodIn wsX0_nearShell wsX0_reach := goodIn_r _ [21, 16, 22, 23, 24, 3, 25, 1, 2, 4, 26, 27, 28, 29, 30, 31] (by decide +kernel) (by decide +kernel)
set_option maxRecDepth 20000 in
theorem gX0_nearShell_X0_reach : GoodIn wsX0_nearShell (wsV RX0 86 RX0 yX0_reach wsX0_reach) := goodIn_app (goodIn_of _ (by decide +kernel)) ggX0_nearShell_X0_reach
theorem dX0_nearShell_0 : decode cX0_nearShell 0 = .ok (.aload_n 0, 1) := by decide +kernel
theorem dX0_nearShell_1 : decode cX0_nearShell 1 = .ok (.iload_n 1, 1) := by decide +kernel
theorem dX0_nearShell_2 : decode cX0_nearShell 2 = .ok (.invokestatic 83, 3) := by decide +kernel
theorem dX0_nearShell_5 : decode cX0_nearShell 5 = .ok (.iload_n 2, 1) := by decide +kernel
theorem dX0_nearShell_6 : decode cX0_nearShell 6 = .ok (.invokestatic 46, 3) := by decide +kernel
theorem dX0_nearShell_9 : decode cX0_nearShell 9 = .ok (.aload_n 0, 1) := by decide +kernel
theorem dX0_nearShell_10 : decode cX0_nearShell 10 = .ok (.iload_n 3, 1) := by decide +kernel
theorem dX0_nearShell_11 : decode cX0_nearShell 11 = .ok (.invokevirtual 104, 3) := by decide +kernel
theorem dX0_nearShell_14 : decode cX0_nearShell 14 = .ok (.invokevirtual 86, 3) := by decide +kernel
theorem dX0_nearShell_17 : decode cX0_nearShell 17 = .ok (.ireturn, 1) := by decide +kernel
set_option maxRecDepth 20000 in
theorem ggX0_supportedPart_X0_contains : GoodIn wsX0_supportedPart wsX0_contains := goodIn_r _ [6, 7, 8, 5, 9] (by decide +kernel) (by decide +kernel)
set_option maxRecDepth 20000 in
theorem gX0_supportedPart_X0_contains : GoodIn wsX0_supportedPart (va_wsS RX0 40 yX0_contains wsX0_contains) := goodIn_app (goodIn_of _ (by decide +kernel)) ggX0_supportedPart_X0_contains
set_option maxRecDepth 20000 in
theorem ggX0_supportedPart_X0_size : GoodIn wsX0_supportedPart wsX0_size := goodIn_r _ [12, 13, 14, 15, 16, 17, 18, 19] (by decide +kernel) (by decide +kernel)
set_option maxRecDepth 20000 in
theorem gX0_supportedPart_X0_size : GoodIn wsX0_supportedPart (va_wsS RX0 63 yX0_size wsX0_size) := goodIn_app (goodIn_of _ (by decide +kernel)) ggX0_supportedPart_X0_size
set_option maxRecDepth 20000 in
theorem ggX0_supportedPart_X0_without : GoodIn wsX0_supportedPart wsX0_without := goodIn_r _ [22, 7, 8, 5, 9] (by decide +kernel) (by decide +kernel)
set_option maxRecDepth 20000 in
theorem gX0_supportedPart_X0_without : GoodIn wsX0_supportedPart (va_wsS RX0 115 yX0_without wsX0_without) := goodIn_app (goodIn_of _ (by decide +kernel)) ggX0_supportedPart_X0_without
theorem dX0_supportedPart_0 : decode cX0_supportedPart 0 = .ok (.iload_n 1, 1) := by decide +kernel
theorem dX0_supportedPart_1 : decode cX0_supportedPart 1 = .ok (.istore 4, 2) := by decide +kernel
theorem dX0_supportedPart_3 : decode cX0_supportedPart 3 = .ok (.iconst 1, 1) := by decide +kernel
theorem dX0_supportedPart_4 : decode cX0_supportedPart 4 = .ok (.istore 5, 2) := by decide +kernel
theorem dX0_supportedPart_6 : decode cX0_supportedPart 6 = .ok (.iconst 0, 1) := by decide +kernel
theorem dX0_supportedPart_7 : decode cX0_supportedPart 7 = .ok (.istore 6, 2) := by decide +kernel
theorem dX0_supportedPart_9 : decode cX0_supportedPart 9 = .ok (.iload 5, 2) := by decide +kernel
theorem dX0_supportedPart_11 : decode cX0_supportedPart 11 = .ok (.ifCond .eq 80, 3) := by decide +kernel
theorem dX0_supportedPart_14 : decode cX0_supportedPart 14 = .ok (.iload 6, 2) := by decide +kernel
theorem dX0_supportedPart_16 : decode cX0_supportedPart 16 = .ok (.aload_n 0, 1) := by decide +kernel
theorem dX0_supportedPart_17 : decode cX0_supportedPart 17 = .ok (.getfield 19, 3) := by decide +kernel
theorem dX0_supportedPart_20 : decode cX0_supportedPart 20 = .ok (.if_icmp .gt 71, 3) := by decide +kernel
theorem dX0_supportedPart_23 : decode cX0_supportedPart 23 = .ok (.iconst 0, 1) := by decide +kernel
theorem dX0_supportedPart_24 : decode cX0_supportedPart 24 = .ok (.istore 5, 2) := by decide +kernel
theorem dX0_supportedPart_26 : decode cX0_supportedPart 26 = .ok (.iconst 0, 1) := by decide +kernel
theorem dX0_supportedPart_27 : decode cX0_supportedPart 27 = .ok (.istore 7, 2) := by decide +kernel
theorem dX0_supportedPart_29 : decode cX0_supportedPart 29 = .ok (.iload 7, 2) := by decide +kernel
theorem dX0_supportedPart_31 : decode cX0_supportedPart 31 = .ok (.aload_n 0, 1) := by decide +kernel
theorem dX0_supportedPart_32 : decode cX0_supportedPart 32 = .ok (.getfield 19, 3) := by decide +kernel
theorem dX0_supportedPart_35 : decode cX0_supportedPart 35 = .ok (.if_icmp .ge 50, 3) := by decide +kernel
theorem dX0_supportedPart_38 : decode cX0_supportedPart 38 = .ok (.iload 4, 2) := by decide +kernel
theorem dX0_supportedPart_40 : decode cX0_supportedPart 40 = .ok (.iload 7, 2) := by decide +kernel
theorem dX0_supportedPart_42 : decode cX0_supportedPart 42 = .ok (.invokestatic 40, 3) := by decide +kernel
theorem dX0_supportedPart_45 : decode cX0_supportedPart 45 = .ok (.ifCond .eq 34, 3) := by decide +kernel
theorem dX0_supportedPart_48 : decode cX0_supportedPart 48 = .ok (.aload_n 0, 1) := by decide +kernel
theorem dX0_supportedPart_49 : decode cX0_supportedPart 49 = .ok (.getfield 9, 3) := by decide +kernel
theorem dX0_supportedPart_52 : decode cX0_supportedPart 52 = .ok (.iload 7, 2) := by decide +kernel
theorem dX0_supportedPart_54 : decode cX0_supportedPart 54 = .ok (.iaload, 1) := by decide +kernel
theorem dX0_supportedPart_55 : decode cX0_supportedPart 55 = .ok (.iload 4, 2) := by decide +kernel
theorem dX0_supportedPart_57 : decode cX0_supportedPart 57 = .ok (.iload_n 2, 1) := by decide +kernel
theorem dX0_supportedPart_58 : decode cX0_supportedPart 58 = .ok (.ior, 1) := by decide +kernel
theorem dX0_supportedPart_59 : decode cX0_supportedPart 59 = .ok (.iand, 1) := by decide +kernel
theorem dX0_supportedPart_60 : decode cX0_supportedPart 60 = .ok (.invokestatic 63, 3) := by decide +kernel
theorem dX0_supportedPart_63 : decode cX0_supportedPart 63 = .ok (.iload_n 3, 1) := by decide +kernel
theorem dX0_supportedPart_64 : decode cX0_supportedPart 64 = .ok (.if_icmp .ge 15, 3) := by decide +kernel
theorem dX0_supportedPart_67 : decode cX0_supportedPart 67 = .ok (.iload 4, 2) := by decide +kernel
theorem dX0_supportedPart_69 : decode cX0_supportedPart 69 = .ok (.iload 7, 2) := by decide +kernel
theorem dX0_supportedPart_71 : decode cX0_supportedPart 71 = .ok (.invokestatic 115, 3) := by decide +kernel
theorem dX0_supportedPart_74 : decode cX0_supportedPart 74 = .ok (.istore 4, 2) := by decide +kernel
theorem dX0_supportedPart_76 : decode cX0_supportedPart 76 = .ok (.iconst 1, 1) := by decide +kernel
theorem dX0_supportedPart_77 : decode cX0_supportedPart 77 = .ok (.istore 5, 2) := by decide +kernel
theorem dX0_supportedPart_79 : decode cX0_supportedPart 79 = .ok (.iinc 7 1, 3) := by decide +kernel
theorem dX0_supportedPart_82 : decode cX0_supportedPart 82 = .ok (.goto (-53), 3) := by decide +kernel
theorem dX0_supportedPart_85 : decode cX0_supportedPart 85 = .ok (.iinc 6 1, 3) := by decide +kernel
theorem dX0_supportedPart_88 : decode cX0_supportedPart 88 = .ok (.goto (-79), 3) := by decide +kernel
theorem dX0_supportedPart_91 : decode cX0_supportedPart 91 = .ok (.iload 4, 2) := by decide +kernel
theorem dX0_supportedPart_93 : decode cX0_supportedPart 93 = .ok (.ireturn, 1) := by decide +kernel
set_option maxRecDepth 20000 in
theorem ggX0_changeCores_X0_contains : GoodIn wsX0_changeCores wsX0_contains := goodIn_r _ [7, 8, 9, 6, 10] (by decide +kernel) (by decide +kernel)
set_option maxRecDepth 20000 in
theorem gX0_changeCores_X0_contains : GoodIn wsX0_changeCores (va_wsS RX0 40 yX0_contains wsX0_contains) := goodIn_app (goodIn_of _ (by decide +kernel)) ggX0_changeCores_X0_contains
set_option maxRecDepth 20000 in
theorem ggX0_changeCores_X0_size : GoodIn wsX0_changeCores wsX0_size := goodIn_r _ [13, 14, 15, 16, 17, 18, 19, 20] (by decide +kernel) (by decide +kernel)
set_option maxRecDepth 20000 in
theorem gX0_changeCores_X0_size : GoodIn wsX0_changeCores (va_wsS RX0 63 yX0_size wsX0_size) := goodIn_app (goodIn_of _ (by decide +kernel)) ggX0_changeCores_X0_size
theorem dX0_changeCores_0 : decode cX0_changeCores 0 = .ok (.iconst 0, 1) := by decide +kernel
theorem dX0_changeCores_1 : decode cX0_changeCores 1 = .ok (.istore_n 3, 1) := by decide +kernel
theorem dX0_changeCores_2 : decode cX0_changeCores 2 = .ok (.iload_n 3, 1) := by decide +kernel
theorem dX0_changeCores_3 : decode cX0_changeCores 3 = .ok (.aload_n 0, 1) := by decide +kernel
theorem dX0_changeCores_4 : decode cX0_changeCores 4 = .ok (.getfield 19, 3) := by decide +kernel
theorem dX0_changeCores_7 : decode cX0_changeCores 7 = .ok (.if_icmp .ge 27, 3) := by decide +kernel
theorem dX0_changeCores_10 : decode cX0_changeCores 10 = .ok (.iload_n 1, 1) := by decide +kernel
theorem dX0_changeCores_11 : decode cX0_changeCores 11 = .ok (.iload_n 3, 1) := by decide +kernel
theorem dX0_changeCores_12 : decode cX0_changeCores 12 = .ok (.invokestatic 40, 3) := by decide +kernel
theorem dX0_changeCores_15 : decode cX0_changeCores 15 = .ok (.ifCond .eq 13, 3) := by decide +kernel
theorem dX0_changeCores_18 : decode cX0_changeCores 18 = .ok (.aload_n 0, 1) := by decide +kernel
theorem dX0_changeCores_19 : decode cX0_changeCores 19 = .ok (.getfield 13, 3) := by decide +kernel
theorem dX0_changeCores_22 : decode cX0_changeCores 22 = .ok (.iload_n 3, 1) := by decide +kernel
theorem dX0_changeCores_23 : decode cX0_changeCores 23 = .ok (.dup2, 1) := by decide +kernel
theorem dX0_changeCores_24 : decode cX0_changeCores 24 = .ok (.iaload, 1) := by decide +kernel
theorem dX0_changeCores_25 : decode cX0_changeCores 25 = .ok (.iload_n 2, 1) := by decide +kernel
theorem dX0_changeCores_26 : decode cX0_changeCores 26 = .ok (.iadd, 1) := by decide +kernel
theorem dX0_changeCores_27 : decode cX0_changeCores 27 = .ok (.iastore, 1) := by decide +kernel
theorem dX0_changeCores_28 : decode cX0_changeCores 28 = .ok (.iinc 3 1, 3) := by decide +kernel
theorem dX0_changeCores_31 : decode cX0_changeCores 31 = .ok (.goto (-29), 3) := by decide +kernel
theorem dX0_changeCores_34 : decode cX0_changeCores 34 = .ok (.aload_n 0, 1) := by decide +kernel
theorem dX0_changeCores_35 : decode cX0_changeCores 35 = .ok (.dup, 1) := by decide +kernel
theorem dX0_changeCores_36 : decode cX0_changeCores 36 = .ok (.getfield 26, 3) := by decide +kernel
theorem dX0_changeCores_39 : decode cX0_changeCores 39 = .ok (.iload_n 1, 1) := by decide +kernel
theorem dX0_changeCores_40 : decode cX0_changeCores 40 = .ok (.invokestatic 63, 3) := by decide +kernel
theorem dX0_changeCores_43 : decode cX0_changeCores 43 = .ok (.iadd, 1) := by decide +kernel
theorem dX0_changeCores_44 : decode cX0_changeCores 44 = .ok (.putfield 26, 3) := by decide +kernel
theorem dX0_changeCores_47 : decode cX0_changeCores 47 = .ok (.iload_n 1, 1) := by decide +kernel
theorem dX0_changeCores_48 : decode cX0_changeCores 48 = .ok (.invokestatic 63, 3) := by decide +kernel
theorem dX0_changeCores_51 : decode cX0_changeCores 51 = .ok (.ireturn, 1) := by decide +kernel
set_option maxRecDepth 20000 in
theorem ggX0_countCommunities_X0_contains : GoodIn wsX0_countCommunities wsX0_contains := goodIn_r _ [5, 6, 7, 4, 8] (by decide +kernel) (by decide +kernel)
set_option maxRecDepth 20000 in
theorem gX0_countCommunities_X0_contains : GoodIn wsX0_countCommunities (va_wsS RX0 40 yX0_contains wsX0_contains) := goodIn_app (goodIn_of _ (by decide +kernel)) ggX0_countCommunities_X0_contains
set_option maxRecDepth 20000 in
theorem ggX0_countCommunities_X0_single : GoodIn wsX0_countCommunities wsX0_single := goodIn_r _ [8] (by decide +kernel) (by decide +kernel)
set_option maxRecDepth 20000 in
theorem gX0_countCommunities_X0_single : GoodIn wsX0_countCommunities (va_wsS RX0 83 yX0_single wsX0_single) := goodIn_app (goodIn_of _ (by decide +kernel)) ggX0_countCommunities_X0_single
set_option maxRecDepth 20000 in
theorem ggX0_countCommunities_X0_reach : GoodIn wsX0_countCommunities wsX0_reach := goodIn_r _ [12, 1, 13, 2, 3, 4, 5, 6, 7, 8, 14, 15, 16, 17, 18, 19] (by decide +kernel) (by decide +kernel)
set_option maxRecDepth 20000 in
theorem gX0_countCommunities_X0_reach : GoodIn wsX0_countCommunities (wsV RX0 86 RX0 yX0_reach wsX0_reach) := goodIn_app (goodIn_of _ (by decide +kernel)) ggX0_countCommunities_X0_reach
theorem dX0_countCommunities_0 : decode cX0_countCommunities 0 = .ok (.iconst 0, 1) := by decide +kernel
theorem dX0_countCommunities_1 : decode cX0_countCommunities 1 = .ok (.istore_n 3, 1) := by decide +kernel
theorem dX0_countCommunities_2 : decode cX0_countCommunities 2 = .ok (.iload_n 2, 1) := by decide +kernel
theorem dX0_countCommunities_3 : decode cX0_countCommunities 3 = .ok (.istore 4, 2) := by decide +kernel
theorem dX0_countCommunities_5 : decode cX0_countCommunities 5 = .ok (.iconst 0, 1) := by decide +kernel
theorem dX0_countCommunities_6 : decode cX0_countCommunities 6 = .ok (.istore 5, 2) := by decide +kernel
theorem dX0_countCommunities_8 : decode cX0_countCommunities 8 = .ok (.iload 5, 2) := by decide +kernel
theorem dX0_countCommunities_10 : decode cX0_countCommunities 10 = .ok (.aload_n 0, 1) := by decide +kernel
theorem dX0_countCommunities_11 : decode cX0_countCommunities 11 = .ok (.getfield 19, 3) := by decide +kernel
theorem dX0_countCommunities_14 : decode cX0_countCommunities 14 = .ok (.if_icmp .ge 39, 3) := by decide +kernel
theorem dX0_countCommunities_17 : decode cX0_countCommunities 17 = .ok (.iload 4, 2) := by decide +kernel
theorem dX0_countCommunities_19 : decode cX0_countCommunities 19 = .ok (.iload 5, 2) := by decide +kernel
theorem dX0_countCommunities_21 : decode cX0_countCommunities 21 = .ok (.invokestatic 40, 3) := by decide +kernel
theorem dX0_countCommunities_24 : decode cX0_countCommunities 24 = .ok (.ifCond .eq 23, 3) := by decide +kernel
theorem dX0_countCommunities_27 : decode cX0_countCommunities 27 = .ok (.iload 4, 2) := by decide +kernel
theorem dX0_countCommunities_29 : decode cX0_countCommunities 29 = .ok (.aload_n 0, 1) := by decide +kernel
theorem dX0_countCommunities_30 : decode cX0_countCommunities 30 = .ok (.iload 5, 2) := by decide +kernel
theorem dX0_countCommunities_32 : decode cX0_countCommunities 32 = .ok (.invokestatic 83, 3) := by decide +kernel
theorem dX0_countCommunities_35 : decode cX0_countCommunities 35 = .ok (.iload_n 1, 1) := by decide +kernel
theorem dX0_countCommunities_36 : decode cX0_countCommunities 36 = .ok (.invokevirtual 86, 3) := by decide +kernel
theorem dX0_countCommunities_39 : decode cX0_countCommunities 39 = .ok (.iconst (-1), 1) := by decide +kernel
theorem dX0_countCommunities_40 : decode cX0_countCommunities 40 = .ok (.ixor, 1) := by decide +kernel
theorem dX0_countCommunities_41 : decode cX0_countCommunities 41 = .ok (.iand, 1) := by decide +kernel
theorem dX0_countCommunities_42 : decode cX0_countCommunities 42 = .ok (.istore 4, 2) := by decide +kernel
theorem dX0_countCommunities_44 : decode cX0_countCommunities 44 = .ok (.iinc 3 1, 3) := by decide +kernel
theorem dX0_countCommunities_47 : decode cX0_countCommunities 47 = .ok (.iinc 5 1, 3) := by decide +kernel
theorem dX0_countCommunities_50 : decode cX0_countCommunities 50 = .ok (.goto (-42), 3) := by decide +kernel
theorem dX0_countCommunities_53 : decode cX0_countCommunities 53 = .ok (.iload_n 3, 1) := by decide +kernel
theorem dX0_countCommunities_54 : decode cX0_countCommunities 54 = .ok (.ireturn, 1) := by decide +kernel
set_option maxRecDepth 20000 in
theorem ggX0_nextToPeel_X0_contains : GoodIn wsX0_nextToPeel wsX0_contains := goodIn_r _ [6, 7, 8, 5, 9] (by decide +kernel) (by decide +kernel)
set_option maxRecDepth 20000 in
theorem gX0_nextToPeel_X0_contains : GoodIn wsX0_nextToPeel (va_wsS RX0 40 yX0_contains wsX0_contains) := goodIn_app (goodIn_of _ (by decide +kernel)) ggX0_nextToPeel_X0_contains
set_option maxRecDepth 20000 in
theorem ggX0_nextToPeel_X0_size : GoodIn wsX0_nextToPeel wsX0_size := goodIn_r _ [12, 13, 14, 15, 16, 17, 18, 19] (by decide +kernel) (by decide +kernel)
set_option maxRecDepth 20000 in
theorem gX0_nextToPeel_X0_size : GoodIn wsX0_nextToPeel (va_wsS RX0 63 yX0_size wsX0_size) := goodIn_app (goodIn_of _ (by decide +kernel)) ggX0_nextToPeel_X0_size
theorem dX0_nextToPeel_0 : decode cX0_nextToPeel 0 = .ok (.iconst 0, 1) := by decide +kernel
theorem dX0_nextToPeel_1 : decode cX0_nextToPeel 1 = .ok (.istore_n 2, 1) := by decide +kernel
theorem dX0_nextToPeel_2 : decode cX0_nextToPeel 2 = .ok (.bipush 20, 2) := by decide +kernel
theorem dX0_nextToPeel_4 : decode cX0_nextToPeel 4 = .ok (.istore_n 3, 1) := by decide +kernel
theorem dX0_nextToPeel_5 : decode cX0_nextToPeel 5 = .ok (.iconst 0, 1) := by decide +kernel
theorem dX0_nextToPeel_6 : decode cX0_nextToPeel 6 = .ok (.istore 4, 2) := by decide +kernel
theorem dX0_nextToPeel_8 : decode cX0_nextToPeel 8 = .ok (.iload 4, 2) := by decide +kernel
theorem dX0_nextToPeel_10 : decode cX0_nextToPeel 10 = .ok (.aload_n 0, 1) := by decide +kernel
theorem dX0_nextToPeel_11 : decode cX0_nextToPeel 11 = .ok (.getfield 19, 3) := by decide +kernel
theorem dX0_nextToPeel_14 : decode cX0_nextToPeel 14 = .ok (.if_icmp .ge 50, 3) := by decide +kernel
theorem dX0_nextToPeel_17 : decode cX0_nextToPeel 17 = .ok (.iload_n 1, 1) := by decide +kernel
theorem dX0_nextToPeel_18 : decode cX0_nextToPeel 18 = .ok (.iload 4, 2) := by decide +kernel
theorem dX0_nextToPeel_20 : decode cX0_nextToPeel 20 = .ok (.invokestatic 40, 3) := by decide +kernel
theorem dX0_nextToPeel_23 : decode cX0_nextToPeel 23 = .ok (.ifCond .eq 35, 3) := by decide +kernel
theorem dX0_nextToPeel_26 : decode cX0_nextToPeel 26 = .ok (.aload_n 0, 1) := by decide +kernel
theorem dX0_nextToPeel_27 : decode cX0_nextToPeel 27 = .ok (.getfield 9, 3) := by decide +kernel
theorem dX0_nextToPeel_30 : decode cX0_nextToPeel 30 = .ok (.iload 4, 2) := by decide +kernel
theorem dX0_nextToPeel_32 : decode cX0_nextToPeel 32 = .ok (.iaload, 1) := by decide +kernel
theorem dX0_nextToPeel_33 : decode cX0_nextToPeel 33 = .ok (.iload_n 1, 1) := by decide +kernel
theorem dX0_nextToPeel_34 : decode cX0_nextToPeel 34 = .ok (.iand, 1) := by decide +kernel
theorem dX0_nextToPeel_35 : decode cX0_nextToPeel 35 = .ok (.invokestatic 63, 3) := by decide +kernel
theorem dX0_nextToPeel_38 : decode cX0_nextToPeel 38 = .ok (.iload_n 3, 1) := by decide +kernel
theorem dX0_nextToPeel_39 : decode cX0_nextToPeel 39 = .ok (.if_icmp .ge 19, 3) := by decide +kernel
theorem dX0_nextToPeel_42 : decode cX0_nextToPeel 42 = .ok (.iload 4, 2) := by decide +kernel
theorem dX0_nextToPeel_44 : decode cX0_nextToPeel 44 = .ok (.istore_n 2, 1) := by decide +kernel
theorem dX0_nextToPeel_45 : decode cX0_nextToPeel 45 = .ok (.aload_n 0, 1) := by decide +kernel
theorem dX0_nextToPeel_46 : decode cX0_nextToPeel 46 = .ok (.getfield 9, 3) := by decide +kernel
theorem dX0_nextToPeel_49 : decode cX0_nextToPeel 49 = .ok (.iload 4, 2) := by decide +kernel
theorem dX0_nextToPeel_51 : decode cX0_nextToPeel 51 = .ok (.iaload, 1) := by decide +kernel
theorem dX0_nextToPeel_52 : decode cX0_nextToPeel 52 = .ok (.iload_n 1, 1) := by decide +kernel
theorem dX0_nextToPeel_53 : decode cX0_nextToPeel 53 = .ok (.iand, 1) := by decide +kernel
theorem dX0_nextToPeel_54 : decode cX0_nextToPeel 54 = .ok (.invokestatic 63, 3) := by decide +kernel
theorem dX0_nextToPeel_57 : decode cX0_nextToPeel 57 = .ok (.istore_n 3, 1) := by decide +kernel
theorem dX0_nextToPeel_58 : decode cX0_nextToPeel 58 = .ok (.iinc 4 1, 3) := by decide +kernel
theorem dX0_nextToPeel_61 : decode cX0_nextToPeel 61 = .ok (.goto (-53), 3) := by decide +kernel
theorem dX0_nextToPeel_64 : decode cX0_nextToPeel 64 = .ok (.iload_n 2, 1) := by decide +kernel
theorem dX0_nextToPeel_65 : decode cX0_nextToPeel 65 = .ok (.ireturn, 1) := by decide +kernel
set_option maxRecDepth 20000 in
theorem ggX0_denseSet_X0_allNodes : GoodIn wsX0_denseSet wsX0_allNodes := goodIn_r _ [7, 2, 8, 9, 6, 10, 36, 37, 38, 39, 40, 41] (by decide +kernel) (by decide +kernel)
set_option maxRecDepth 20000 in
theorem gX0_denseSet_X0_allNodes : GoodIn wsX0_denseSet (wsV RX0 109 RX0 yX0_allNodes wsX0_allNodes) := goodIn_app (goodIn_of _ (by decide +kernel)) ggX0_denseSet_X0_allNodes
set_option maxRecDepth 20000 in
theorem ggX0_denseSet_X0_nextToPeel : GoodIn wsX0_denseSet wsX0_nextToPeel := goodIn_r _ [14, 2, 15, 16, 17, 6, 18, 8, 9, 10, 19, 20, 21, 22, 23, 24, 25, 26, 27, 28, 36, 37, 38, 39, 40, 41] (by decide +kernel) (by decide +kernel)
set_option maxRecDepth 20000 in
theorem gX0_denseSet_X0_nextToPeel : GoodIn wsX0_denseSet (wsV RX0 112 RX0 yX0_nextToPeel wsX0_nextToPeel) := goodIn_app (goodIn_of _ (by decide +kernel)) ggX0_denseSet_X0_nextToPeel
set_option maxRecDepth 20000 in
theorem ggX0_denseSet_X0_without : GoodIn wsX0_denseSet wsX0_without := goodIn_r _ [31, 8, 9, 6, 10] (by decide +kernel) (by decide +kernel)
set_option maxRecDepth 20000 in
theorem gX0_denseSet_X0_without : GoodIn wsX0_denseSet (va_wsS RX0 115 yX0_without wsX0_without) := goodIn_app (goodIn_of _ (by decide +kernel)) ggX0_denseSet_X0_without
set_option maxRecDepth 20000 in
theorem ggX0_denseSet_X0_edgesWithin : GoodIn wsX0_denseSet wsX0_edgesWithin := goodIn_r _ [35, 2, 15, 16, 17, 6, 18, 8, 9, 10, 19, 20, 21, 22, 23, 24, 25, 26, 27, 28, 36, 37, 38, 39, 40, 41] (by decide +kernel) (by decide +kernel)
set_option maxRecDepth 20000 in
theorem gX0_denseSet_X0_edgesWithin : GoodIn wsX0_denseSet (wsV RX0 121 RX0 yX0_edgesWithin wsX0_edgesWithin) := goodIn_app (goodIn_of _ (by decide +kernel)) ggX0_denseSet_X0_edgesWithin
set_option maxRecDepth 20000 in
theorem ggX0_denseSet_X0_size : GoodIn wsX0_denseSet wsX0_size := goodIn_r _ [21, 22, 23, 24, 25, 26, 27, 28] (by decide +kernel) (by decide +kernel)
set_option maxRecDepth 20000 in
theorem gX0_denseSet_X0_size : GoodIn wsX0_denseSet (va_wsS RX0 63 yX0_size wsX0_size) := goodIn_app (goodIn_of _ (by decide +kernel)) ggX0_denseSet_X0_size
theorem dX0_denseSet_0 : decode cX0_denseSet 0 = .ok (.aload_n 0, 1) := by decide +kernel
theorem dX0_denseSet_1 : decode cX0_denseSet 1 = .ok (.invokevirtual 109, 3) := by decide +kernel
theorem dX0_denseSet_4 : decode cX0_denseSet 4 = .ok (.istore_n 1, 1) := by decide +kernel
theorem dX0_denseSet_5 : decode cX0_denseSet 5 = .ok (.iload_n 1, 1) := by decide +kernel
theorem dX0_denseSet_6 : decode cX0_denseSet 6 = .ok (.istore_n 2, 1) := by decide +kernel
theorem dX0_denseSet_7 : decode cX0_denseSet 7 = .ok (.aload_n 0, 1) := by decide +kernel
theorem dX0_denseSet_8 : decode cX0_denseSet 8 = .ok (.getfield 23, 3) := by decide +kernel
theorem dX0_denseSet_11 : decode cX0_denseSet 11 = .ok (.istore_n 3, 1) := by decide +kernel
theorem dX0_denseSet_12 : decode cX0_denseSet 12 = .ok (.iconst 1, 1) := by decide +kernel
theorem dX0_denseSet_13 : decode cX0_denseSet 13 = .ok (.istore 4, 2) := by decide +kernel
theorem dX0_denseSet_15 : decode cX0_denseSet 15 = .ok (.iload 4, 2) := by decide +kernel
theorem dX0_denseSet_17 : decode cX0_denseSet 17 = .ok (.aload_n 0, 1) := by decide +kernel
theorem dX0_denseSet_18 : decode cX0_denseSet 18 = .ok (.getfield 19, 3) := by decide +kernel
theorem dX0_denseSet_21 : decode cX0_denseSet 21 = .ok (.if_icmp .ge 47, 3) := by decide +kernel
theorem dX0_denseSet_24 : decode cX0_denseSet 24 = .ok (.iload_n 1, 1) := by decide +kernel
theorem dX0_denseSet_25 : decode cX0_denseSet 25 = .ok (.aload_n 0, 1) := by decide +kernel
theorem dX0_denseSet_26 : decode cX0_denseSet 26 = .ok (.iload_n 1, 1) := by decide +kernel
theorem dX0_denseSet_27 : decode cX0_denseSet 27 = .ok (.invokevirtual 112, 3) := by decide +kernel
theorem dX0_denseSet_30 : decode cX0_denseSet 30 = .ok (.invokestatic 115, 3) := by decide +kernel
theorem dX0_denseSet_33 : decode cX0_denseSet 33 = .ok (.istore_n 1, 1) := by decide +kernel
theorem dX0_denseSet_34 : decode cX0_denseSet 34 = .ok (.aload_n 0, 1) := by decide +kernel
theorem dX0_denseSet_35 : decode cX0_denseSet 35 = .ok (.iload_n 1, 1) := by decide +kernel
theorem dX0_denseSet_36 : decode cX0_denseSet 36 = .ok (.invokevirtual 121, 3) := by decide +kernel
theorem dX0_denseSet_39 : decode cX0_denseSet 39 = .ok (.istore 5, 2) := by decide +kernel
theorem dX0_denseSet_41 : decode cX0_denseSet 41 = .ok (.iload 5, 2) := by decide +kernel
theorem dX0_denseSet_43 : decode cX0_denseSet 43 = .ok (.iload_n 2, 1) := by decide +kernel
theorem dX0_denseSet_44 : decode cX0_denseSet 44 = .ok (.invokestatic 63, 3) := by decide +kernel
theorem dX0_denseSet_47 : decode cX0_denseSet 47 = .ok (.imul, 1) := by decide +kernel
theorem dX0_denseSet_48 : decode cX0_denseSet 48 = .ok (.iload_n 3, 1) := by decide +kernel
theorem dX0_denseSet_49 : decode cX0_denseSet 49 = .ok (.iload_n 1, 1) := by decide +kernel
theorem dX0_denseSet_50 : decode cX0_denseSet 50 = .ok (.invokestatic 63, 3) := by decide +kernel
theorem dX0_denseSet_53 : decode cX0_denseSet 53 = .ok (.imul, 1) := by decide +kernel
theorem dX0_denseSet_54 : decode cX0_denseSet 54 = .ok (.if_icmp .le 8, 3) := by decide +kernel
theorem dX0_denseSet_57 : decode cX0_denseSet 57 = .ok (.iload_n 1, 1) := by decide +kernel
theorem dX0_denseSet_58 : decode cX0_denseSet 58 = .ok (.istore_n 2, 1) := by decide +kernel
theorem dX0_denseSet_59 : decode cX0_denseSet 59 = .ok (.iload 5, 2) := by decide +kernel
theorem dX0_denseSet_61 : decode cX0_denseSet 61 = .ok (.istore_n 3, 1) := by decide +kernel
theorem dX0_denseSet_62 : decode cX0_denseSet 62 = .ok (.iinc 4 1, 3) := by decide +kernel
theorem dX0_denseSet_65 : decode cX0_denseSet 65 = .ok (.goto (-50), 3) := by decide +kernel
theorem dX0_denseSet_68 : decode cX0_denseSet 68 = .ok (.iload_n 2, 1) := by decide +kernel
theorem dX0_denseSet_69 : decode cX0_denseSet 69 = .ok (.ireturn, 1) := by decide +kernel
theorem dX0_startTrusses_0 : decode cX0_startTrusses 0 = .ok (.iconst 0, 1) := by decide +kernel
theorem dX0_startTrusses_1 : decode cX0_startTrusses 1 = .ok (.istore_n 1, 1) := by decide +kernel
theorem dX0_startTrusses_2 : decode cX0_startTrusses 2 = .ok (.iload_n 1, 1) := by decide +kernel
theorem dX0_startTrusses_3 : decode cX0_startTrusses 3 = .ok (.aload_n 0, 1) := by decide +kernel
theorem dX0_startTrusses_4 : decode cX0_startTrusses 4 = .ok (.getfield 19, 3) := by decide +kernel
theorem dX0_startTrusses_7 : decode cX0_startTrusses 7 = .ok (.if_icmp .ge 21, 3) := by decide +kernel
theorem dX0_startTrusses_10 : decode cX0_startTrusses 10 = .ok (.aload_n 0, 1) := by decide +kernel
theorem dX0_startTrusses_11 : decode cX0_startTrusses 11 = .ok (.getfield 16, 3) := by decide +kernel
theorem dX0_startTrusses_14 : decode cX0_startTrusses 14 = .ok (.iload_n 1, 1) := by decide +kernel
theorem dX0_startTrusses_15 : decode cX0_startTrusses 15 = .ok (.aload_n 0, 1) := by decide +kernel
theorem dX0_startTrusses_16 : decode cX0_startTrusses 16 = .ok (.getfield 9, 3) := by decide +kernel
theorem dX0_startTrusses_19 : decode cX0_startTrusses 19 = .ok (.iload_n 1, 1) := by decide +kernel
theorem dX0_startTrusses_20 : decode cX0_startTrusses 20 = .ok (.iaload, 1) := by decide +kernel
theorem dX0_startTrusses_21 : decode cX0_startTrusses 21 = .ok (.iastore, 1) := by decide +kernel
theorem dX0_startTrusses_22 : decode cX0_startTrusses 22 = .ok (.iinc 1 1, 3) := by decide +kernel
theorem dX0_startTrusses_25 : decode cX0_startTrusses 25 = .ok (.goto (-23), 3) := by decide +kernel
theorem dX0_startTrusses_28 : decode cX0_startTrusses 28 = .ok (.return_, 1) := by decide +kernel
set_option maxRecDepth 20000 in
theorem ggX0_shrinkToTruss_X0_dropWeakEdges : GoodIn wsX0_shrinkToTruss wsX0_dropWeakEdges := goodIn_r _ [5, 6, 7, 8, 9, 4, 10, 11, 12, 13, 14, 15, 16, 17, 18, 19, 20, 21, 22, 23, 24, 25, 26, 27, 28, 29, 30, 31, 32] (by decide +kernel) (by decide +kernel)
set_option maxRecDepth 20000 in
theorem gX0_shrinkToTruss_X0_dropWeakEdges : GoodIn wsX0_shrinkToTruss (wsV RX0 158 RX0 yX0_dropWeakEdges wsX0_dropWeakEdges) := goodIn_app (goodIn_of _ (by decide +kernel)) ggX0_shrinkToTruss_X0_dropWeakEdges
theorem dX0_shrinkToTruss_0 : decode cX0_shrinkToTruss 0 = .ok (.iconst 1, 1) := by decide +kernel
theorem dX0_shrinkToTruss_1 : decode cX0_shrinkToTruss 1 = .ok (.istore_n 2, 1) := by decide +kernel
theorem dX0_shrinkToTruss_2 : decode cX0_shrinkToTruss 2 = .ok (.iconst 0, 1) := by decide +kernel
theorem dX0_shrinkToTruss_3 : decode cX0_shrinkToTruss 3 = .ok (.istore_n 3, 1) := by decide +kernel
theorem dX0_shrinkToTruss_4 : decode cX0_shrinkToTruss 4 = .ok (.iload_n 2, 1) := by decide +kernel
theorem dX0_shrinkToTruss_5 : decode cX0_shrinkToTruss 5 = .ok (.ifCond .eq 24, 3) := by decide +kernel
theorem dX0_shrinkToTruss_8 : decode cX0_shrinkToTruss 8 = .ok (.iload_n 3, 1) := by decide +kernel
theorem dX0_shrinkToTruss_9 : decode cX0_shrinkToTruss 9 = .ok (.sipush 190, 3) := by decide +kernel
theorem dX0_shrinkToTruss_12 : decode cX0_shrinkToTruss 12 = .ok (.if_icmp .gt 17, 3) := by decide +kernel
theorem dX0_shrinkToTruss_15 : decode cX0_shrinkToTruss 15 = .ok (.aload_n 0, 1) := by decide +kernel
theorem dX0_shrinkToTruss_16 : decode cX0_shrinkToTruss 16 = .ok (.iload_n 1, 1) := by decide +kernel
theorem dX0_shrinkToTruss_17 : decode cX0_shrinkToTruss 17 = .ok (.iconst 2, 1) := by decide +kernel
theorem dX0_shrinkToTruss_18 : decode cX0_shrinkToTruss 18 = .ok (.isub, 1) := by decide +kernel
theorem dX0_shrinkToTruss_19 : decode cX0_shrinkToTruss 19 = .ok (.invokevirtual 158, 3) := by decide +kernel
theorem dX0_shrinkToTruss_22 : decode cX0_shrinkToTruss 22 = .ok (.istore_n 2, 1) := by decide +kernel
theorem dX0_shrinkToTruss_23 : decode cX0_shrinkToTruss 23 = .ok (.iinc 3 1, 3) := by decide +kernel
theorem dX0_shrinkToTruss_26 : decode cX0_shrinkToTruss 26 = .ok (.goto (-22), 3) := by decide +kernel
theorem dX0_shrinkToTruss_29 : decode cX0_shrinkToTruss 29 = .ok (.return_, 1) := by decide +kernel
set_option maxRecDepth 20000 in
theorem ggX0_dropWeakEdges_X0_contains : GoodIn wsX0_dropWeakEdges wsX0_contains := goodIn_r _ [6, 7, 8, 5, 9] (by decide +kernel) (by decide +kernel)
set_option maxRecDepth 20000 in
theorem gX0_dropWeakEdges_X0_contains : GoodIn wsX0_dropWeakEdges (va_wsS RX0 40 yX0_contains wsX0_contains) := goodIn_app (goodIn_of _ (by decide +kernel)) ggX0_dropWeakEdges_X0_contains
set_option maxRecDepth 20000 in
theorem ggX0_dropWeakEdges_X0_size : GoodIn wsX0_dropWeakEdges wsX0_size := goodIn_r _ [12, 13, 14, 15, 16, 17, 18, 19] (by decide +kernel) (by decide +kernel)
set_option maxRecDepth 20000 in
theorem gX0_dropWeakEdges_X0_size : GoodIn wsX0_dropWeakEdges (va_wsS RX0 63 yX0_size wsX0_size) := goodIn_app (goodIn_of _ (by decide +kernel)) ggX0_dropWeakEdges_X0_size
set_option maxRecDepth 20000 in
theorem ggX0_dropWeakEdges_X0_without : GoodIn wsX0_dropWeakEdges wsX0_without := goodIn_r _ [22, 7, 8, 5, 9] (by decide +kernel) (by decide +kernel)
set_option maxRecDepth 20000 in
theorem gX0_dropWeakEdges_X0_without : GoodIn wsX0_dropWeakEdges (va_wsS RX0 115 yX0_without wsX0_without) := goodIn_app (goodIn_of _ (by decide +kernel)) ggX0_dropWeakEdges_X0_without
theorem dX0_dropWeakEdges_0 : decode cX0_dropWeakEdges 0 = .ok (.iconst 0, 1) := by decide +kernel
theorem dX0_dropWeakEdges_1 : decode cX0_dropWeakEdges 1 = .ok (.istore_n 2, 1) := by decide +kernel
theorem dX0_dropWeakEdges_2 : decode cX0_dropWeakEdges 2 = .ok (.iconst 0, 1) := by decide +kernel
theorem dX0_dropWeakEdges_3 : decode cX0_dropWeakEdges 3 = .ok (.istore_n 3, 1) := by decide +kernel
theorem dX0_dropWeakEdges_4 : decode cX0_dropWeakEdges 4 = .ok (.iload_n 3, 1) := by decide +kernel
theorem dX0_dropWeakEdges_5 : decode cX0_dropWeakEdges 5 = .ok (.aload_n 0, 1) := by decide +kernel
theorem dX0_dropWeakEdges_6 : decode cX0_dropWeakEdges 6 = .ok (.getfield 19, 3) := by decide +kernel
theorem dX0_dropWeakEdges_9 : decode cX0_dropWeakEdges 9 = .ok (.if_icmp .ge 101, 3) := by decide +kernel
theorem dX0_dropWeakEdges_12 : decode cX0_dropWeakEdges 12 = .ok (.iload_n 3, 1) := by decide +kernel
theorem dX0_dropWeakEdges_13 : decode cX0_dropWeakEdges 13 = .ok (.iconst 1, 1) := by decide +kernel
theorem dX0_dropWeakEdges_14 : decode cX0_dropWeakEdges 14 = .ok (.iadd, 1) := by decide +kernel
theorem dX0_dropWeakEdges_15 : decode cX0_dropWeakEdges 15 = .ok (.istore 4, 2) := by decide +kernel
theorem dX0_dropWeakEdges_17 : decode cX0_dropWeakEdges 17 = .ok (.iload 4, 2) := by decide +kernel
theorem dX0_dropWeakEdges_19 : decode cX0_dropWeakEdges 19 = .ok (.aload_n 0, 1) := by decide +kernel
theorem dX0_dropWeakEdges_20 : decode cX0_dropWeakEdges 20 = .ok (.getfield 19, 3) := by decide +kernel
theorem dX0_dropWeakEdges_23 : decode cX0_dropWeakEdges 23 = .ok (.if_icmp .ge 81, 3) := by decide +kernel
theorem dX0_dropWeakEdges_26 : decode cX0_dropWeakEdges 26 = .ok (.aload_n 0, 1) := by decide +kernel
theorem dX0_dropWeakEdges_27 : decode cX0_dropWeakEdges 27 = .ok (.getfield 16, 3) := by decide +kernel
theorem dX0_dropWeakEdges_30 : decode cX0_dropWeakEdges 30 = .ok (.iload_n 3, 1) := by decide +kernel
theorem dX0_dropWeakEdges_31 : decode cX0_dropWeakEdges 31 = .ok (.iaload, 1) := by decide +kernel
theorem dX0_dropWeakEdges_32 : decode cX0_dropWeakEdges 32 = .ok (.iload 4, 2) := by decide +kernel
theorem dX0_dropWeakEdges_34 : decode cX0_dropWeakEdges 34 = .ok (.invokestatic 40, 3) := by decide +kernel
theorem dX0_dropWeakEdges_37 : decode cX0_dropWeakEdges 37 = .ok (.ifCond .eq 61, 3) := by decide +kernel
theorem dX0_dropWeakEdges_40 : decode cX0_dropWeakEdges 40 = .ok (.aload_n 0, 1) := by decide +kernel
theorem dX0_dropWeakEdges_41 : decode cX0_dropWeakEdges 41 = .ok (.getfield 16, 3) := by decide +kernel
theorem dX0_dropWeakEdges_44 : decode cX0_dropWeakEdges 44 = .ok (.iload_n 3, 1) := by decide +kernel
theorem dX0_dropWeakEdges_45 : decode cX0_dropWeakEdges 45 = .ok (.iaload, 1) := by decide +kernel
theorem dX0_dropWeakEdges_46 : decode cX0_dropWeakEdges 46 = .ok (.aload_n 0, 1) := by decide +kernel
theorem dX0_dropWeakEdges_47 : decode cX0_dropWeakEdges 47 = .ok (.getfield 16, 3) := by decide +kernel
theorem dX0_dropWeakEdges_50 : decode cX0_dropWeakEdges 50 = .ok (.iload 4, 2) := by decide +kernel
theorem dX0_dropWeakEdges_52 : decode cX0_dropWeakEdges 52 = .ok (.iaload, 1) := by decide +kernel
theorem dX0_dropWeakEdges_53 : decode cX0_dropWeakEdges 53 = .ok (.iand, 1) := by decide +kernel
theorem dX0_dropWeakEdges_54 : decode cX0_dropWeakEdges 54 = .ok (.invokestatic 63, 3) := by decide +kernel
theorem dX0_dropWeakEdges_57 : decode cX0_dropWeakEdges 57 = .ok (.iload_n 1, 1) := by decide +kernel
theorem dX0_dropWeakEdges_58 : decode cX0_dropWeakEdges 58 = .ok (.if_icmp .ge 40, 3) := by decide +kernel
theorem dX0_dropWeakEdges_61 : decode cX0_dropWeakEdges 61 = .ok (.aload_n 0, 1) := by decide +kernel
theorem dX0_dropWeakEdges_62 : decode cX0_dropWeakEdges 62 = .ok (.getfield 16, 3) := by decide +kernel
theorem dX0_dropWeakEdges_65 : decode cX0_dropWeakEdges 65 = .ok (.iload_n 3, 1) := by decide +kernel
theorem dX0_dropWeakEdges_66 : decode cX0_dropWeakEdges 66 = .ok (.aload_n 0, 1) := by decide +kernel
theorem dX0_dropWeakEdges_67 : decode cX0_dropWeakEdges 67 = .ok (.getfield 16, 3) := by decide +kernel
theorem dX0_dropWeakEdges_70 : decode cX0_dropWeakEdges 70 = .ok (.iload_n 3, 1) := by decide +kernel
theorem dX0_dropWeakEdges_71 : decode cX0_dropWeakEdges 71 = .ok (.iaload, 1) := by decide +kernel
theorem dX0_dropWeakEdges_72 : decode cX0_dropWeakEdges 72 = .ok (.iload 4, 2) := by decide +kernel
theorem dX0_dropWeakEdges_74 : decode cX0_dropWeakEdges 74 = .ok (.invokestatic 115, 3) := by decide +kernel
theorem dX0_dropWeakEdges_77 : decode cX0_dropWeakEdges 77 = .ok (.iastore, 1) := by decide +kernel
theorem dX0_dropWeakEdges_78 : decode cX0_dropWeakEdges 78 = .ok (.aload_n 0, 1) := by decide +kernel
theorem dX0_dropWeakEdges_79 : decode cX0_dropWeakEdges 79 = .ok (.getfield 16, 3) := by decide +kernel
theorem dX0_dropWeakEdges_82 : decode cX0_dropWeakEdges 82 = .ok (.iload 4, 2) := by decide +kernel
theorem dX0_dropWeakEdges_84 : decode cX0_dropWeakEdges 84 = .ok (.aload_n 0, 1) := by decide +kernel
theorem dX0_dropWeakEdges_85 : decode cX0_dropWeakEdges 85 = .ok (.getfield 16, 3) := by decide +kernel
theorem dX0_dropWeakEdges_88 : decode cX0_dropWeakEdges 88 = .ok (.iload 4, 2) := by decide +kernel
theorem dX0_dropWeakEdges_90 : decode cX0_dropWeakEdges 90 = .ok (.iaload, 1) := by decide +kernel
theorem dX0_dropWeakEdges_91 : decode cX0_dropWeakEdges 91 = .ok (.iload_n 3, 1) := by decide +kernel
theorem dX0_dropWeakEdges_92 : decode cX0_dropWeakEdges 92 = .ok (.invokestatic 115, 3) := by decide +kernel
theorem dX0_dropWeakEdges_95 : decode cX0_dropWeakEdges 95 = .ok (.iastore, 1) := by decide +kernel
theorem dX0_dropWeakEdges_96 : decode cX0_dropWeakEdges 96 = .ok (.iconst 1, 1) := by decide +kernel
theorem dX0_dropWeakEdges_97 : decode cX0_dropWeakEdges 97 = .ok (.istore_n 2, 1) := by decide +kernel
theorem dX0_dropWeakEdges_98 : decode cX0_dropWeakEdges 98 = .ok (.iinc 4 1, 3) := by decide +kernel
theorem dX0_dropWeakEdges_101 : decode cX0_dropWeakEdges 101 = .ok (.goto (-84), 3) := by decide +kernel
theorem dX0_dropWeakEdges_104 : decode cX0_dropWeakEdges 104 = .ok (.iinc 3 1, 3) := by decide +kernel
theorem dX0_dropWeakEdges_107 : decode cX0_dropWeakEdges 107 = .ok (.goto (-103), 3) := by decide +kernel
theorem dX0_dropWeakEdges_110 : decode cX0_dropWeakEdges 110 = .ok (.iload_n 2, 1) := by decide +kernel
theorem dX0_dropWeakEdges_111 : decode cX0_dropWeakEdges 111 = .ok (.ireturn, 1) := by decide +kernel
end
section
theorem dJ6_bitCount_0f7a4_0 : decode cJ6_bitCount_0f7a4 0 = .ok (.iload_n 0, 1) := by decide +kernel
theorem dJ6_bitCount_0f7a4_1 : decode cJ6_bitCount_0f7a4 1 = .ok (.iload_n 0, 1) := by decide +kernel
theorem dJ6_bitCount_0f7a4_2 : decode cJ6_bitCount_0f7a4 2 = .ok (.iconst 1, 1) := by decide +kernel
theorem dJ6_bitCount_0f7a4_3 : decode cJ6_bitCount_0f7a4 3 = .ok (.iushr, 1) := by decide +kernel
theorem dJ6_bitCount_0f7a4_4 : decode cJ6_bitCount_0f7a4 4 = .ok (.ldc_w 265, 3) := by decide +kernel
theorem dJ6_bitCount_0f7a4_7 : decode cJ6_bitCount_0f7a4 7 = .ok (.iand, 1) := by decide +kernel
theorem dJ6_bitCount_0f7a4_8 : decode cJ6_bitCount_0f7a4 8 = .ok (.isub, 1) := by decide +kernel
theorem dJ6_bitCount_0f7a4_9 : decode cJ6_bitCount_0f7a4 9 = .ok (.istore_n 0, 1) := by decide +kernel
theorem dJ6_bitCount_0f7a4_10 : decode cJ6_bitCount_0f7a4 10 = .ok (.iload_n 0, 1) := by decide +kernel
theorem dJ6_bitCount_0f7a4_11 : decode cJ6_bitCount_0f7a4 11 = .ok (.ldc_w 266, 3) := by decide +kernel
theorem dJ6_bitCount_0f7a4_14 : decode cJ6_bitCount_0f7a4 14 = .ok (.iand, 1) := by decide +kernel
theorem dJ6_bitCount_0f7a4_15 : decode cJ6_bitCount_0f7a4 15 = .ok (.iload_n 0, 1) := by decide +kernel
theorem dJ6_bitCount_0f7a4_16 : decode cJ6_bitCount_0f7a4 16 = .ok (.iconst 2, 1) := by decide +kernel
theorem dJ6_bitCount_0f7a4_17 : decode cJ6_bitCount_0f7a4 17 = .ok (.iushr, 1) := by decide +kernel
theorem dJ6_bitCount_0f7a4_18 : decode cJ6_bitCount_0f7a4 18 = .ok (.ldc_w 266, 3) := by decide +kernel
theorem dJ6_bitCount_0f7a4_21 : decode cJ6_bitCount_0f7a4 21 = .ok (.iand, 1) := by decide +kernel
theorem dJ6_bitCount_0f7a4_22 : decode cJ6_bitCount_0f7a4 22 = .ok (.iadd, 1) := by decide +kernel
theorem dJ6_bitCount_0f7a4_23 : decode cJ6_bitCount_0f7a4 23 = .ok (.istore_n 0, 1) := by decide +kernel
theorem dJ6_bitCount_0f7a4_24 : decode cJ6_bitCount_0f7a4 24 = .ok (.iload_n 0, 1) := by decide +kernel
theorem dJ6_bitCount_0f7a4_25 : decode cJ6_bitCount_0f7a4 25 = .ok (.iload_n 0, 1) := by decide +kernel
theorem dJ6_bitCount_0f7a4_26 : decode cJ6_bitCount_0f7a4 26 = .ok (.iconst 4, 1) := by decide +kernel
theorem dJ6_bitCount_0f7a4_27 : decode cJ6_bitCount_0f7a4 27 = .ok (.iushr, 1) := by decide +kernel
theorem dJ6_bitCount_0f7a4_28 : decode cJ6_bitCount_0f7a4 28 = .ok (.iadd, 1) := by decide +kernel
theorem dJ6_bitCount_0f7a4_29 : decode cJ6_bitCount_0f7a4 29 = .ok (.ldc_w 267, 3) := by decide +kernel
theorem dJ6_bitCount_0f7a4_32 : decode cJ6_bitCount_0f7a4 32 = .ok (.iand, 1) := by decide +kernel
theorem dJ6_bitCount_0f7a4_33 : decode cJ6_bitCount_0f7a4 33 = .ok (.istore_n 0, 1) := by decide +kernel
theorem dJ6_bitCount_0f7a4_34 : decode cJ6_bitCount_0f7a4 34 = .ok (.iload_n 0, 1) := by decide +kernel
theorem dJ6_bitCount_0f7a4_35 : decode cJ6_bitCount_0f7a4 35 = .ok (.iload_n 0, 1) := by decide +kernel
theorem dJ6_bitCount_0f7a4_36 : decode cJ6_bitCount_0f7a4 36 = .ok (.bipush 8, 2) := by decide +kernel
theorem dJ6_bitCount_0f7a4_38 : decode cJ6_bitCount_0f7a4 38 = .ok (.iushr, 1) := by decide +kernel
theorem dJ6_bitCount_0f7a4_39 : decode cJ6_bitCount_0f7a4 39 = .ok (.iadd, 1) := by decide +kernel
theorem dJ6_bitCount_0f7a4_40 : decode cJ6_bitCount_0f7a4 40 = .ok (.istore_n 0, 1) := by decide +kernel
theorem dJ6_bitCount_0f7a4_41 : decode cJ6_bitCount_0f7a4 41 = .ok (.iload_n 0, 1) := by decide +kernel
theorem dJ6_bitCount_0f7a4_42 : decode cJ6_bitCount_0f7a4 42 = .ok (.iload_n 0, 1) := by decide +kernel
theorem dJ6_bitCount_0f7a4_43 : decode cJ6_bitCount_0f7a4 43 = .ok (.bipush 16, 2) := by decide +kernel
theorem dJ6_bitCount_0f7a4_45 : decode cJ6_bitCount_0f7a4 45 = .ok (.iushr, 1) := by decide +kernel
theorem dJ6_bitCount_0f7a4_46 : decode cJ6_bitCount_0f7a4 46 = .ok (.iadd, 1) := by decide +kernel
theorem dJ6_bitCount_0f7a4_47 : decode cJ6_bitCount_0f7a4 47 = .ok (.istore_n 0, 1) := by decide +kernel
theorem dJ6_bitCount_0f7a4_48 : decode cJ6_bitCount_0f7a4 48 = .ok (.iload_n 0, 1) := by decide +kernel
theorem dJ6_bitCount_0f7a4_49 : decode cJ6_bitCount_0f7a4 49 = .ok (.bipush 63, 2) := by decide +kernel
theorem dJ6_bitCount_0f7a4_51 : decode cJ6_bitCount_0f7a4 51 = .ok (.iand, 1) := by decide +kernel
theorem dJ6_bitCount_0f7a4_52 : decode cJ6_bitCount_0f7a4 52 = .ok (.ireturn, 1) := by decide +kernel
theorem dJ9_max_7cf53_0 : decode cJ9_max_7cf53 0 = .ok (.iload_n 0, 1) := by decide +kernel
theorem dJ9_max_7cf53_1 : decode cJ9_max_7cf53 1 = .ok (.iload_n 1, 1) := by decide +kernel
theorem dJ9_max_7cf53_2 : decode cJ9_max_7cf53 2 = .ok (.if_icmp .lt 7, 3) := by decide +kernel
theorem dJ9_max_7cf53_5 : decode cJ9_max_7cf53 5 = .ok (.iload_n 0, 1) := by decide +kernel
theorem dJ9_max_7cf53_6 : decode cJ9_max_7cf53 6 = .ok (.goto 4, 3) := by decide +kernel
theorem dJ9_max_7cf53_9 : decode cJ9_max_7cf53 9 = .ok (.iload_n 1, 1) := by decide +kernel
theorem dJ9_max_7cf53_10 : decode cJ9_max_7cf53 10 = .ok (.ireturn, 1) := by decide +kernel
theorem dJ9_min_7cf53_0 : decode cJ9_min_7cf53 0 = .ok (.iload_n 0, 1) := by decide +kernel
theorem dJ9_min_7cf53_1 : decode cJ9_min_7cf53 1 = .ok (.iload_n 1, 1) := by decide +kernel
theorem dJ9_min_7cf53_2 : decode cJ9_min_7cf53 2 = .ok (.if_icmp .gt 7, 3) := by decide +kernel
theorem dJ9_min_7cf53_5 : decode cJ9_min_7cf53 5 = .ok (.iload_n 0, 1) := by decide +kernel
theorem dJ9_min_7cf53_6 : decode cJ9_min_7cf53 6 = .ok (.goto 4, 3) := by decide +kernel
theorem dJ9_min_7cf53_9 : decode cJ9_min_7cf53 9 = .ok (.iload_n 1, 1) := by decide +kernel
theorem dJ9_min_7cf53_10 : decode cJ9_min_7cf53 10 = .ok (.ireturn, 1) := by decide +kernel
end
section
theorem dL_cell_0 : decode cL_cell 0 = .ok (.iload_n 1, 1) := by decide +kernel
theorem dL_cell_1 : decode cL_cell 1 = .ok (.aload_n 0, 1) := by decide +kernel
theorem dL_cell_2 : decode cL_cell 2 = .ok (.arraylength, 1) := by decide +kernel
theorem dL_cell_3 : decode cL_cell 3 = .ok (.if_icmp .ge 9, 3) := by decide +kernel
theorem dL_cell_6 : decode cL_cell 6 = .ok (.aload_n 0, 1) := by decide +kernel
theorem dL_cell_7 : decode cL_cell 7 = .ok (.iload_n 1, 1) := by decide +kernel
theorem dL_cell_8 : decode cL_cell 8 = .ok (.iaload, 1) := by decide +kernel
theorem dL_cell_9 : decode cL_cell 9 = .ok (.goto 18, 3) := by decide +kernel
theorem dL_cell_12 : decode cL_cell 12 = .ok (.sipush 7919, 3) := by decide +kernel
theorem dL_cell_15 : decode cL_cell 15 = .ok (.iload_n 1, 1) := by decide +kernel
theorem dL_cell_16 : decode cL_cell 16 = .ok (.sipush 263, 3) := by decide +kernel
theorem dL_cell_19 : decode cL_cell 19 = .ok (.iadd, 1) := by decide +kernel
theorem dL_cell_20 : decode cL_cell 20 = .ok (.imul, 1) := by decide +kernel
theorem dL_cell_21 : decode cL_cell 21 = .ok (.iload_n 1, 1) := by decide +kernel
theorem dL_cell_22 : decode cL_cell 22 = .ok (.sipush 1627, 3) := by decide +kernel
theorem dL_cell_25 : decode cL_cell 25 = .ok (.iadd, 1) := by decide +kernel
theorem dL_cell_26 : decode cL_cell 26 = .ok (.imul, 1) := by decide +kernel
theorem dL_cell_27 : decode cL_cell 27 = .ok (.ireturn, 1) := by decide +kernel
theorem dL_low_0 : decode cL_low 0 = .ok (.iload_n 0, 1) := by decide +kernel
theorem dL_low_1 : decode cL_low 1 = .ok (.ldc 7, 2) := by decide +kernel
theorem dL_low_3 : decode cL_low 3 = .ok (.iand, 1) := by decide +kernel
theorem dL_low_4 : decode cL_low 4 = .ok (.iload_n 1, 1) := by decide +kernel
theorem dL_low_5 : decode cL_low 5 = .ok (.irem, 1) := by decide +kernel
theorem dL_low_6 : decode cL_low 6 = .ok (.ireturn, 1) := by decide +kernel
set_option maxRecDepth 20000 in
theorem ggL_addNode_X0_addNode : GoodIn wsL_addNode wsX0_addNode := goodIn_ca (goodIn_r _ [7, 8, 9, 10, 11, 12, 13, 14, 15, 16] (by decide +kernel) (by decide +kernel)) (goodIn_sub (fun _ h => List.mem_cons_of_mem _ (List.mem_append_right _ h)) (by decide +kernel))
set_option maxRecDepth 20000 in
theorem gL_addNode_X0_addNode : GoodIn wsL_addNode (wsV RL 8 RX0 yX0_addNode wsX0_addNode) := goodIn_app (goodIn_of _ (by decide +kernel)) ggL_addNode_X0_addNode
theorem dL_addNode_0 : decode cL_addNode 0 = .ok (.aload_n 0, 1) := by decide +kernel
theorem dL_addNode_1 : decode cL_addNode 1 = .ok (.invokevirtual 8, 3) := by decide +kernel
theorem dL_addNode_4 : decode cL_addNode 4 = .ok (.ireturn, 1) := by decide +kernel
theorem dL_addNode_5 : decode cL_addNode 5 = .ok (.astore_n 1, 1) := by decide +kernel
theorem dL_addNode_6 : decode cL_addNode 6 = .ok (.ldc 16, 2) := by decide +kernel
theorem dL_addNode_8 : decode cL_addNode 8 = .ok (.ireturn, 1) := by decide +kernel
set_option maxRecDepth 20000 in
theorem ggL_join_X0_join : GoodIn wsL_join wsX0_join := goodIn_ca (goodIn_ca (goodIn_ca (goodIn_r _ [9, 10, 11, 12, 13, 14, 15, 16, 8, 17, 18, 19, 20, 21, 22, 23, 24, 25, 26, 27, 28, 29, 30, 31, 32, 33, 34, 35, 36, 37, 38, 39, 40, 41, 42, 43, 44, 45, 46, 47, 48, 49, 50, 51, 52, 53, 54, 55, 56, 57, 58, 59, 60, 61, 62, 63, 64, 65, 66, 67, 68, 69, 70, 71, 72, 73, 74, 75, 76, 77, 78, 79, 80, 81, 82, 83, 84, 85, 86, 87, 88] (by decide +kernel) (by decide +kernel)) (goodIn_sub (fun _ h => List.mem_cons_of_mem _ (List.mem_append_left _ (List.mem_append_left _ (List.mem_append_right _ h)))) (by decide +kernel))) (goodIn_sub (fun _ h => List.mem_cons_of_mem _ (List.mem_append_left _ (List.mem_append_right _ h))) (by decide +kernel))) (goodIn_sub (fun _ h => List.mem_cons_of_mem _ (List.mem_append_right _ h)) (by decide +kernel))
set_option maxRecDepth 20000 in
theorem gL_join_X0_join : GoodIn wsL_join (wsV RL 17 RX0 yX0_join wsX0_join) := goodIn_app (goodIn_of _ (by decide +kernel)) ggL_join_X0_join
theorem dL_join_0 : decode cL_join 0 = .ok (.aload_n 0, 1) := by decide +kernel
theorem dL_join_1 : decode cL_join 1 = .ok (.iload_n 1, 1) := by decide +kernel
theorem dL_join_2 : decode cL_join 2 = .ok (.iload_n 2, 1) := by decide +kernel
theorem dL_join_3 : decode cL_join 3 = .ok (.invokevirtual 17, 3) := by decide +kernel
theorem dL_join_6 : decode cL_join 6 = .ok (.ireturn, 1) := by decide +kernel
theorem dL_join_7 : decode cL_join 7 = .ok (.astore_n 3, 1) := by decide +kernel
theorem dL_join_8 : decode cL_join 8 = .ok (.ldc 16, 2) := by decide +kernel
theorem dL_join_10 : decode cL_join 10 = .ok (.ireturn, 1) := by decide +kernel
theorem dL_join_11 : decode cL_join 11 = .ok (.astore_n 3, 1) := by decide +kernel
theorem dL_join_12 : decode cL_join 12 = .ok (.ldc 16, 2) := by decide +kernel
theorem dL_join_14 : decode cL_join 14 = .ok (.ireturn, 1) := by decide +kernel
theorem dL_join_15 : decode cL_join 15 = .ok (.astore_n 3, 1) := by decide +kernel
theorem dL_join_16 : decode cL_join 16 = .ok (.ldc 16, 2) := by decide +kernel
theorem dL_join_18 : decode cL_join 18 = .ok (.ireturn, 1) := by decide +kernel
set_option maxRecDepth 20000 in
theorem ggL_part_X0_part : GoodIn wsL_part wsX0_part := goodIn_ca (goodIn_ca (goodIn_ca (goodIn_r _ [9, 10, 11, 12, 8, 13, 14, 15, 16, 17, 18, 19, 20, 21, 22, 23, 24, 25, 26, 27, 28, 29, 30, 31, 32, 33, 34, 35, 36, 37, 38, 39, 40, 41, 42, 43, 44, 45, 46, 47, 48, 49, 50, 51, 52, 53, 54, 55, 56, 57, 58, 59, 60, 61, 62, 63, 64, 65, 66, 67, 68, 69, 70, 71, 72, 73, 74, 75, 76, 77, 78, 79, 80, 81, 82, 83, 84, 85, 86, 87, 88, 89, 90, 91, 92] (by decide +kernel) (by decide +kernel)) (goodIn_sub (fun _ h => List.mem_cons_of_mem _ (List.mem_append_left _ (List.mem_append_left _ (List.mem_append_right _ h)))) (by decide +kernel))) (goodIn_sub (fun _ h => List.mem_cons_of_mem _ (List.mem_append_left _ (List.mem_append_right _ h))) (by decide +kernel))) (goodIn_sub (fun _ h => List.mem_cons_of_mem _ (List.mem_append_right _ h)) (by decide +kernel))
set_option maxRecDepth 20000 in
theorem gL_part_X0_part : GoodIn wsL_part (wsV RL 25 RX0 yX0_part wsX0_part) := goodIn_app (goodIn_of _ (by decide +kernel)) ggL_part_X0_part
theorem dL_part_0 : decode cL_part 0 = .ok (.aload_n 0, 1) := by decide +kernel
theorem dL_part_1 : decode cL_part 1 = .ok (.iload_n 1, 1) := by decide +kernel
theorem dL_part_2 : decode cL_part 2 = .ok (.iload_n 2, 1) := by decide +kernel
theorem dL_part_3 : decode cL_part 3 = .ok (.invokevirtual 25, 3) := by decide +kernel
theorem dL_part_6 : decode cL_part 6 = .ok (.ireturn, 1) := by decide +kernel
theorem dL_part_7 : decode cL_part 7 = .ok (.astore_n 3, 1) := by decide +kernel
theorem dL_part_8 : decode cL_part 8 = .ok (.ldc 16, 2) := by decide +kernel
theorem dL_part_10 : decode cL_part 10 = .ok (.ireturn, 1) := by decide +kernel
theorem dL_part_11 : decode cL_part 11 = .ok (.astore_n 3, 1) := by decide +kernel
theorem dL_part_12 : decode cL_part 12 = .ok (.ldc 16, 2) := by decide +kernel
theorem dL_part_14 : decode cL_part 14 = .ok (.ireturn, 1) := by decide +kernel
theorem dL_part_15 : decode cL_part 15 = .ok (.astore_n 3, 1) := by decide +kernel
theorem dL_part_16 : decode cL_part 16 = .ok (.ldc 16, 2) := by decide +kernel
theorem dL_part_18 : decode cL_part 18 = .ok (.ireturn, 1) := by decide +kernel
set_option maxRecDepth 20000 in
theorem ggL_isolate_X0_isolate : GoodIn wsL_isolate wsX0_isolate := goodIn_ca (goodIn_r _ [7, 8, 9, 10, 11, 12, 6, 13, 14, 15, 16, 17, 18, 19, 20, 21, 22, 23, 24, 25, 26, 27, 28, 29, 30, 31, 32, 33, 34, 35, 36, 37, 38, 39, 40, 41, 42, 43, 44, 45, 46, 47, 48, 49, 50, 51, 52, 53, 54, 55, 56, 57, 58, 59, 60, 61, 62, 63, 64, 65, 66, 67, 68, 69, 70, 71, 72, 73, 74, 75, 76, 77, 78] (by decide +kernel) (by decide +kernel)) (goodIn_sub (fun _ h => List.mem_cons_of_mem _ (List.mem_append_right _ h)) (by decide +kernel))
set_option maxRecDepth 20000 in
theorem gL_isolate_X0_isolate : GoodIn wsL_isolate (wsV RL 30 RX0 yX0_isolate wsX0_isolate) := goodIn_app (goodIn_of _ (by decide +kernel)) ggL_isolate_X0_isolate
theorem dL_isolate_0 : decode cL_isolate 0 = .ok (.aload_n 0, 1) := by decide +kernel
theorem dL_isolate_1 : decode cL_isolate 1 = .ok (.iload_n 1, 1) := by decide +kernel
theorem dL_isolate_2 : decode cL_isolate 2 = .ok (.invokevirtual 30, 3) := by decide +kernel
theorem dL_isolate_5 : decode cL_isolate 5 = .ok (.ireturn, 1) := by decide +kernel
theorem dL_isolate_6 : decode cL_isolate 6 = .ok (.astore_n 2, 1) := by decide +kernel
theorem dL_isolate_7 : decode cL_isolate 7 = .ok (.ldc 16, 2) := by decide +kernel
theorem dL_isolate_9 : decode cL_isolate 9 = .ok (.ireturn, 1) := by decide +kernel
set_option maxRecDepth 20000 in
theorem ggL_together_X0_together : GoodIn wsL_together wsX0_together := goodIn_ca (goodIn_ca (goodIn_r _ [8, 9, 10, 11, 12, 13, 14, 15, 16, 17, 18, 7, 19, 20, 21, 22, 23, 24, 25, 26, 27, 28, 29, 30, 31, 32, 33, 34, 35, 36, 37, 38, 39, 40, 41, 42, 43, 44, 45, 46] (by decide +kernel) (by decide +kernel)) (goodIn_sub (fun _ h => List.mem_cons_of_mem _ (List.mem_append_left _ (List.mem_append_right _ h))) (by decide +kernel))) (goodIn_sub (fun _ h => List.mem_cons_of_mem _ (List.mem_append_right _ h)) (by decide +kernel))
set_option maxRecDepth 20000 in
theorem gL_together_X0_together : GoodIn wsL_together (wsV RL 34 RX0 yX0_together wsX0_together) := goodIn_app (goodIn_of _ (by decide +kernel)) ggL_together_X0_together
theorem dL_together_0 : decode cL_together 0 = .ok (.aload_n 0, 1) := by decide +kernel
theorem dL_together_1 : decode cL_together 1 = .ok (.iload_n 1, 1) := by decide +kernel
theorem dL_together_2 : decode cL_together 2 = .ok (.iload_n 2, 1) := by decide +kernel
theorem dL_together_3 : decode cL_together 3 = .ok (.invokevirtual 34, 3) := by decide +kernel
theorem dL_together_6 : decode cL_together 6 = .ok (.ireturn, 1) := by decide +kernel
theorem dL_together_7 : decode cL_together 7 = .ok (.astore_n 3, 1) := by decide +kernel
theorem dL_together_8 : decode cL_together 8 = .ok (.ldc 16, 2) := by decide +kernel
theorem dL_together_10 : decode cL_together 10 = .ok (.ireturn, 1) := by decide +kernel
theorem dL_together_11 : decode cL_together 11 = .ok (.astore_n 3, 1) := by decide +kernel
theorem dL_together_12 : decode cL_together 12 = .ok (.iconst (-1), 1) := by decide +kernel
theorem dL_together_13 : decode cL_together 13 = .ok (.ireturn, 1) := by decide +kernel
set_option maxRecDepth 20000 in
theorem ggL_truss_X0_truss : GoodIn wsL_truss wsX0_truss := goodIn_ca (goodIn_ca (goodIn_r _ [8, 9, 10, 11, 12, 7, 13, 14, 15, 16, 17, 18, 19, 20, 21, 22, 23, 24, 25, 26, 27, 28, 29, 30, 31, 32, 33, 34, 35, 36, 37, 38, 39, 40, 41, 42, 43, 44, 45, 46, 47, 48, 49, 50, 51, 52, 53, 54, 55, 56, 57, 58, 59, 60] (by decide +kernel) (by decide +kernel)) (goodIn_sub (fun _ h => List.mem_cons_of_mem _ (List.mem_append_left _ (List.mem_append_right _ h))) (by decide +kernel))) (goodIn_sub (fun _ h => List.mem_cons_of_mem _ (List.mem_append_right _ h)) (by decide +kernel))
set_option maxRecDepth 20000 in
theorem gL_truss_X0_truss : GoodIn wsL_truss (wsV RL 37 RX0 yX0_truss wsX0_truss) := goodIn_app (goodIn_of _ (by decide +kernel)) ggL_truss_X0_truss
theorem dL_truss_0 : decode cL_truss 0 = .ok (.aload_n 0, 1) := by decide +kernel
theorem dL_truss_1 : decode cL_truss 1 = .ok (.iload_n 1, 1) := by decide +kernel
theorem dL_truss_2 : decode cL_truss 2 = .ok (.iload_n 2, 1) := by decide +kernel
theorem dL_truss_3 : decode cL_truss 3 = .ok (.invokevirtual 37, 3) := by decide +kernel
theorem dL_truss_6 : decode cL_truss 6 = .ok (.ireturn, 1) := by decide +kernel
theorem dL_truss_7 : decode cL_truss 7 = .ok (.astore_n 3, 1) := by decide +kernel
theorem dL_truss_8 : decode cL_truss 8 = .ok (.ldc 16, 2) := by decide +kernel
theorem dL_truss_10 : decode cL_truss 10 = .ok (.ireturn, 1) := by decide +kernel
theorem dL_truss_11 : decode cL_truss 11 = .ok (.astore_n 3, 1) := by decide +kernel
theorem dL_truss_12 : decode cL_truss 12 = .ok (.iconst (-1), 1) := by decide +kernel
theorem dL_truss_13 : decode cL_truss 13 = .ok (.ireturn, 1) := by decide +kernel
set_option maxRecDepth 20000 in
theorem ggL_act_L_low : GoodIn wsL_act wsL_low := goodIn_r _ [4, 5] (by decide +kernel) (by decide +kernel)
set_option maxRecDepth 20000 in
theorem gL_act_L_low : GoodIn wsL_act (va_wsS RL 40 yL_low wsL_low) := goodIn_app (goodIn_of _ (by decide +kernel)) ggL_act_L_low
set_option maxRecDepth 20000 in
theorem ggL_act_X0_nodes : GoodIn wsL_act wsX0_nodes := goodIn_r _ [10, 11, 127, 128, 129, 130, 131, 132] (by decide +kernel) (by decide +kernel)
set_option maxRecDepth 20000 in
theorem gL_act_X0_nodes : GoodIn wsL_act (wsV RL 45 RX0 yX0_nodes wsX0_nodes) := goodIn_app (goodIn_of _ (by decide +kernel)) ggL_act_X0_nodes
set_option maxRecDepth 20000 in
theorem ggL_act_L_addNode : GoodIn wsL_act wsL_addNode := goodIn_ca (goodIn_r _ [14, 15, 16, 17, 18, 19, 9, 20, 21, 22, 11, 127, 128, 129, 130, 131, 132] (by decide +kernel) (by decide +kernel)) (goodIn_sub (fun _ h => List.mem_cons_of_mem _ (List.mem_append_left _ (List.mem_append_left _ (List.mem_append_left _ (List.mem_append_right _ h))))) (by decide +kernel))
set_option maxRecDepth 20000 in
theorem gL_act_L_addNode : GoodIn wsL_act (va_wsS RL 48 yL_addNode wsL_addNode) := goodIn_app (goodIn_of _ (by decide +kernel)) ggL_act_L_addNode
set_option maxRecDepth 20000 in
theorem ggL_act_L_part : GoodIn wsL_act wsL_part := goodIn_ca (goodIn_ca (goodIn_ca (goodIn_r _ [25, 26, 27, 28, 16, 29, 30, 31, 9, 32, 33, 34, 35, 36, 37, 38, 39, 40, 41, 42, 43, 44, 11, 45, 46, 47, 48, 49, 50, 51, 52, 53, 54, 55, 56, 57, 58, 59, 60, 61, 62, 63, 64, 65, 66, 67, 68, 69, 70, 71, 72, 73, 74, 75, 76, 77, 78, 79, 80, 81, 82, 83, 84, 85, 86, 87, 88, 89, 90, 91, 92, 93, 94, 95, 96, 97, 98, 99, 100, 101, 102, 103, 104, 105, 106, 107, 108, 127, 128, 129, 130, 131, 132] (by decide +kernel) (by decide +kernel)) (goodIn_sub (fun _ h => List.mem_cons_of_mem _ (List.mem_append_left _ (List.mem_append_left _ (List.mem_append_right _ h)))) (by decide +kernel))) (goodIn_sub (fun _ h => List.mem_cons_of_mem _ (List.mem_append_left _ (List.mem_append_right _ h))) (by decide +kernel))) (goodIn_sub (fun _ h => List.mem_cons_of_mem _ (List.mem_append_right _ h)) (by decide +kernel))
set_option maxRecDepth 20000 in
theorem gL_act_L_part : GoodIn wsL_act (va_wsS RL 51 yL_part wsL_part) := goodIn_app (goodIn_of _ (by decide +kernel)) ggL_act_L_part
set_option maxRecDepth 20000 in
theorem ggL_act_L_isolate : GoodIn wsL_act wsL_isolate := goodIn_ca (goodIn_r _ [111, 26, 16, 112, 113, 114, 9, 115, 11, 51, 39, 40, 41, 42, 43, 44, 52, 53, 54, 55, 56, 57, 58, 59, 60, 61, 62, 63, 64, 65, 66, 67, 68, 69, 70, 71, 72, 73, 74, 75, 76, 77, 78, 79, 80, 81, 82, 83, 84, 85, 86, 87, 88, 89, 90, 91, 92, 93, 94, 95, 96, 97, 98, 99, 100, 101, 102, 103, 104, 105, 106, 107, 108, 127, 128, 129, 130, 131, 132] (by decide +kernel) (by decide +kernel)) (goodIn_sub (fun _ h => List.mem_cons_of_mem _ (List.mem_append_left _ (List.mem_append_right _ h))) (by decide +kernel))
set_option maxRecDepth 20000 in
theorem gL_act_L_isolate : GoodIn wsL_act (va_wsS RL 54 yL_isolate wsL_isolate) := goodIn_app (goodIn_of _ (by decide +kernel)) ggL_act_L_isolate
set_option maxRecDepth 20000 in
theorem ggL_act_L_join : GoodIn wsL_act wsL_join := goodIn_ca (goodIn_ca (goodIn_ca (goodIn_r _ [118, 26, 27, 15, 16, 119, 120, 121, 9, 122, 21, 22, 51, 67, 33, 34, 35, 36, 37, 38, 39, 40, 41, 42, 43, 44, 11, 52, 53, 54, 55, 56, 57, 75, 76, 77, 123, 124, 125, 126, 62, 63, 64, 65, 66, 71, 72, 73, 74, 78, 79, 80, 81, 82, 83, 84, 85, 86, 87, 88, 89, 90, 91, 92, 93, 94, 95, 96, 97, 98, 99, 100, 101, 102, 103, 68, 69, 70, 104, 105, 106, 107, 108, 127, 128, 129, 130, 131, 132] (by decide +kernel) (by decide +kernel)) (goodIn_sub (fun _ h => List.mem_cons_of_mem _ (List.mem_append_left _ (List.mem_append_left _ (List.mem_append_left _ (List.mem_append_right _ h))))) (by decide +kernel))) (goodIn_sub (fun _ h => List.mem_cons_of_mem _ (List.mem_append_left _ (List.mem_append_left _ (List.mem_append_right _ h)))) (by decide +kernel))) (goodIn_sub (fun _ h => List.mem_cons_of_mem _ (List.mem_append_left _ (List.mem_append_right _ h))) (by decide +kernel))
set_option maxRecDepth 20000 in
theorem gL_act_L_join : GoodIn wsL_act (va_wsS RL 57 yL_join wsL_join) := goodIn_app (goodIn_of _ (by decide +kernel)) ggL_act_L_join
theorem dL_act_0 : decode cL_act 0 = .ok (.iload_n 1, 1) := by decide +kernel
theorem dL_act_1 : decode cL_act 1 = .ok (.bipush 24, 2) := by decide +kernel
theorem dL_act_3 : decode cL_act 3 = .ok (.ishr, 1) := by decide +kernel
theorem dL_act_4 : decode cL_act 4 = .ok (.bipush 9, 2) := by decide +kernel
theorem dL_act_6 : decode cL_act 6 = .ok (.invokestatic 40, 3) := by decide +kernel
theorem dL_act_9 : decode cL_act 9 = .ok (.ifCond .ne 7, 3) := by decide +kernel
theorem dL_act_12 : decode cL_act 12 = .ok (.iconst 1, 1) := by decide +kernel
theorem dL_act_13 : decode cL_act 13 = .ok (.goto 4, 3) := by decide +kernel
theorem dL_act_16 : decode cL_act 16 = .ok (.iconst 0, 1) := by decide +kernel
theorem dL_act_17 : decode cL_act 17 = .ok (.istore_n 2, 1) := by decide +kernel
theorem dL_act_18 : decode cL_act 18 = .ok (.aload_n 0, 1) := by decide +kernel
theorem dL_act_19 : decode cL_act 19 = .ok (.invokevirtual 45, 3) := by decide +kernel
theorem dL_act_22 : decode cL_act 22 = .ok (.istore_n 3, 1) := by decide +kernel
theorem dL_act_23 : decode cL_act 23 = .ok (.iload_n 1, 1) := by decide +kernel
theorem dL_act_24 : decode cL_act 24 = .ok (.iconst 4, 1) := by decide +kernel
theorem dL_act_25 : decode cL_act 25 = .ok (.ishr, 1) := by decide +kernel
theorem dL_act_26 : decode cL_act 26 = .ok (.iload_n 3, 1) := by decide +kernel
theorem dL_act_27 : decode cL_act 27 = .ok (.iconst 1, 1) := by decide +kernel
theorem dL_act_28 : decode cL_act 28 = .ok (.iadd, 1) := by decide +kernel
theorem dL_act_29 : decode cL_act 29 = .ok (.invokestatic 40, 3) := by decide +kernel
theorem dL_act_32 : decode cL_act 32 = .ok (.iload_n 2, 1) := by decide +kernel
theorem dL_act_33 : decode cL_act 33 = .ok (.ifCond .eq 7, 3) := by decide +kernel
theorem dL_act_36 : decode cL_act 36 = .ok (.iconst 1, 1) := by decide +kernel
theorem dL_act_37 : decode cL_act 37 = .ok (.goto 4, 3) := by decide +kernel
theorem dL_act_40 : decode cL_act 40 = .ok (.iconst 0, 1) := by decide +kernel
theorem dL_act_41 : decode cL_act 41 = .ok (.isub, 1) := by decide +kernel
theorem dL_act_42 : decode cL_act 42 = .ok (.istore 4, 2) := by decide +kernel
theorem dL_act_44 : decode cL_act 44 = .ok (.iload_n 1, 1) := by decide +kernel
theorem dL_act_45 : decode cL_act 45 = .ok (.bipush 9, 2) := by decide +kernel
theorem dL_act_47 : decode cL_act 47 = .ok (.ishr, 1) := by decide +kernel
theorem dL_act_48 : decode cL_act 48 = .ok (.iload_n 3, 1) := by decide +kernel
theorem dL_act_49 : decode cL_act 49 = .ok (.iconst 1, 1) := by decide +kernel
theorem dL_act_50 : decode cL_act 50 = .ok (.iadd, 1) := by decide +kernel
theorem dL_act_51 : decode cL_act 51 = .ok (.invokestatic 40, 3) := by decide +kernel
theorem dL_act_54 : decode cL_act 54 = .ok (.istore 5, 2) := by decide +kernel
theorem dL_act_56 : decode cL_act 56 = .ok (.iload_n 1, 1) := by decide +kernel
theorem dL_act_57 : decode cL_act 57 = .ok (.bipush 11, 2) := by decide +kernel
theorem dL_act_59 : decode cL_act 59 = .ok (.invokestatic 40, 3) := by decide +kernel
theorem dL_act_62 : decode cL_act 62 = .ok (.tableswitch 69 0 3 #[30, 30, 35, 44], 30) := by decide +kernel
theorem dL_act_92 : decode cL_act 92 = .ok (.aload_n 0, 1) := by decide +kernel
theorem dL_act_93 : decode cL_act 93 = .ok (.invokestatic 48, 3) := by decide +kernel
theorem dL_act_96 : decode cL_act 96 = .ok (.ireturn, 1) := by decide +kernel
theorem dL_act_97 : decode cL_act 97 = .ok (.aload_n 0, 1) := by decide +kernel
theorem dL_act_98 : decode cL_act 98 = .ok (.iload 4, 2) := by decide +kernel
theorem dL_act_100 : decode cL_act 100 = .ok (.iload 5, 2) := by decide +kernel
theorem dL_act_102 : decode cL_act 102 = .ok (.invokestatic 51, 3) := by decide +kernel
theorem dL_act_105 : decode cL_act 105 = .ok (.ireturn, 1) := by decide +kernel
theorem dL_act_106 : decode cL_act 106 = .ok (.iload_n 1, 1) := by decide +kernel
theorem dL_act_107 : decode cL_act 107 = .ok (.bipush 14, 2) := by decide +kernel
theorem dL_act_109 : decode cL_act 109 = .ok (.ishr, 1) := by decide +kernel
theorem dL_act_110 : decode cL_act 110 = .ok (.iconst 4, 1) := by decide +kernel
theorem dL_act_111 : decode cL_act 111 = .ok (.invokestatic 40, 3) := by decide +kernel
theorem dL_act_114 : decode cL_act 114 = .ok (.ifCond .ne 12, 3) := by decide +kernel
theorem dL_act_117 : decode cL_act 117 = .ok (.aload_n 0, 1) := by decide +kernel
theorem dL_act_118 : decode cL_act 118 = .ok (.iload 4, 2) := by decide +kernel
theorem dL_act_120 : decode cL_act 120 = .ok (.invokestatic 54, 3) := by decide +kernel
theorem dL_act_123 : decode cL_act 123 = .ok (.goto 7, 3) := by decide +kernel
theorem dL_act_126 : decode cL_act 126 = .ok (.aload_n 0, 1) := by decide +kernel
theorem dL_act_127 : decode cL_act 127 = .ok (.invokestatic 48, 3) := by decide +kernel
theorem dL_act_130 : decode cL_act 130 = .ok (.ireturn, 1) := by decide +kernel
theorem dL_act_131 : decode cL_act 131 = .ok (.aload_n 0, 1) := by decide +kernel
theorem dL_act_132 : decode cL_act 132 = .ok (.iload 4, 2) := by decide +kernel
theorem dL_act_134 : decode cL_act 134 = .ok (.iload 5, 2) := by decide +kernel
theorem dL_act_136 : decode cL_act 136 = .ok (.invokestatic 57, 3) := by decide +kernel
theorem dL_act_139 : decode cL_act 139 = .ok (.ireturn, 1) := by decide +kernel
set_option maxRecDepth 20000 in
theorem ggL_areAlike_X0_nodes : GoodIn wsL_areAlike wsX0_nodes := goodIn_r _ [5, 6, 61, 62, 63, 64, 65, 66] (by decide +kernel) (by decide +kernel)
set_option maxRecDepth 20000 in
theorem gL_areAlike_X0_nodes : GoodIn wsL_areAlike (wsV RL 45 RX0 yX0_nodes wsX0_nodes) := goodIn_app (goodIn_of _ (by decide +kernel)) ggL_areAlike_X0_nodes
set_option maxRecDepth 20000 in
theorem ggL_areAlike_X0_edges : GoodIn wsL_areAlike wsX0_edges := goodIn_r _ [10, 11, 61, 62, 63, 64, 65, 66] (by decide +kernel) (by decide +kernel)
set_option maxRecDepth 20000 in
theorem gL_areAlike_X0_edges : GoodIn wsL_areAlike (wsV RL 59 RX0 yX0_edges wsX0_edges) := goodIn_app (goodIn_of _ (by decide +kernel)) ggL_areAlike_X0_edges
set_option maxRecDepth 20000 in
theorem ggL_areAlike_X0_changes : GoodIn wsL_areAlike wsX0_changes := goodIn_r _ [15, 16, 61, 62, 63, 64, 65, 66] (by decide +kernel) (by decide +kernel)
set_option maxRecDepth 20000 in
theorem gL_areAlike_X0_changes : GoodIn wsL_areAlike (wsV RL 62 RX0 yX0_changes wsX0_changes) := goodIn_app (goodIn_of _ (by decide +kernel)) ggL_areAlike_X0_changes
set_option maxRecDepth 20000 in
theorem ggL_areAlike_X0_degeneracy : GoodIn wsL_areAlike wsX0_degeneracy := goodIn_r _ [20, 6, 21, 22, 23, 24, 25, 61, 62, 63, 64, 65, 66] (by decide +kernel) (by decide +kernel)
set_option maxRecDepth 20000 in
theorem gL_areAlike_X0_degeneracy : GoodIn wsL_areAlike (wsV RL 65 RX0 yX0_degeneracy wsX0_degeneracy) := goodIn_app (goodIn_of _ (by decide +kernel)) ggL_areAlike_X0_degeneracy
set_option maxRecDepth 20000 in
theorem ggL_areAlike_X0_triangles : GoodIn wsL_areAlike wsX0_triangles := goodIn_r _ [29, 6, 30, 31, 32, 4, 33, 34, 35, 36, 37, 38, 39, 40, 41, 42, 43, 44, 45, 46, 61, 62, 63, 64, 65, 66] (by decide +kernel) (by decide +kernel)
set_option maxRecDepth 20000 in
theorem gL_areAlike_X0_triangles : GoodIn wsL_areAlike (wsV RL 68 RX0 yX0_triangles wsX0_triangles) := goodIn_app (goodIn_of _ (by decide +kernel)) ggL_areAlike_X0_triangles
set_option maxRecDepth 20000 in
theorem ggL_areAlike_X0_core : GoodIn wsL_areAlike wsX0_core := goodIn_ca (goodIn_r _ [50, 21, 51, 52, 53, 4, 54, 55, 56, 6, 61, 62, 63, 64, 65, 66] (by decide +kernel) (by decide +kernel)) (goodIn_sub (fun _ h => List.mem_cons_of_mem _ (List.mem_append_right _ h)) (by decide +kernel))
set_option maxRecDepth 20000 in
theorem gL_areAlike_X0_core : GoodIn wsL_areAlike (wsV RL 71 RX0 yX0_core wsX0_core) := goodIn_app (goodIn_of _ (by decide +kernel)) ggL_areAlike_X0_core
set_option maxRecDepth 20000 in
theorem ggL_areAlike_X0_degree : GoodIn wsL_areAlike wsX0_degree := goodIn_ca (goodIn_r _ [60, 30, 51, 52, 53, 4, 54, 55, 56, 6, 37, 38, 39, 40, 41, 42, 43, 44, 45, 46, 61, 62, 63, 64, 65, 66] (by decide +kernel) (by decide +kernel)) (goodIn_sub (fun _ h => List.mem_cons_of_mem _ (List.mem_append_right _ h)) (by decide +kernel))
set_option maxRecDepth 20000 in
theorem gL_areAlike_X0_degree : GoodIn wsL_areAlike (wsV RL 74 RX0 yX0_degree wsX0_degree) := goodIn_app (goodIn_of _ (by decide +kernel)) ggL_areAlike_X0_degree
theorem dL_areAlike_0 : decode cL_areAlike 0 = .ok (.aload_n 0, 1) := by decide +kernel
theorem dL_areAlike_1 : decode cL_areAlike 1 = .ok (.invokevirtual 45, 3) := by decide +kernel
theorem dL_areAlike_4 : decode cL_areAlike 4 = .ok (.aload_n 1, 1) := by decide +kernel
theorem dL_areAlike_5 : decode cL_areAlike 5 = .ok (.invokevirtual 45, 3) := by decide +kernel
theorem dL_areAlike_8 : decode cL_areAlike 8 = .ok (.if_icmp .ne 51, 3) := by decide +kernel
theorem dL_areAlike_11 : decode cL_areAlike 11 = .ok (.aload_n 0, 1) := by decide +kernel
theorem dL_areAlike_12 : decode cL_areAlike 12 = .ok (.invokevirtual 59, 3) := by decide +kernel
theorem dL_areAlike_15 : decode cL_areAlike 15 = .ok (.aload_n 1, 1) := by decide +kernel
theorem dL_areAlike_16 : decode cL_areAlike 16 = .ok (.invokevirtual 59, 3) := by decide +kernel
theorem dL_areAlike_19 : decode cL_areAlike 19 = .ok (.if_icmp .ne 40, 3) := by decide +kernel
theorem dL_areAlike_22 : decode cL_areAlike 22 = .ok (.aload_n 0, 1) := by decide +kernel
theorem dL_areAlike_23 : decode cL_areAlike 23 = .ok (.invokevirtual 62, 3) := by decide +kernel
theorem dL_areAlike_26 : decode cL_areAlike 26 = .ok (.aload_n 1, 1) := by decide +kernel
theorem dL_areAlike_27 : decode cL_areAlike 27 = .ok (.invokevirtual 62, 3) := by decide +kernel
theorem dL_areAlike_30 : decode cL_areAlike 30 = .ok (.if_icmp .ne 29, 3) := by decide +kernel
theorem dL_areAlike_33 : decode cL_areAlike 33 = .ok (.aload_n 0, 1) := by decide +kernel
theorem dL_areAlike_34 : decode cL_areAlike 34 = .ok (.invokevirtual 65, 3) := by decide +kernel
theorem dL_areAlike_37 : decode cL_areAlike 37 = .ok (.aload_n 1, 1) := by decide +kernel
theorem dL_areAlike_38 : decode cL_areAlike 38 = .ok (.invokevirtual 65, 3) := by decide +kernel
theorem dL_areAlike_41 : decode cL_areAlike 41 = .ok (.if_icmp .ne 18, 3) := by decide +kernel
theorem dL_areAlike_44 : decode cL_areAlike 44 = .ok (.aload_n 0, 1) := by decide +kernel
theorem dL_areAlike_45 : decode cL_areAlike 45 = .ok (.invokevirtual 68, 3) := by decide +kernel
theorem dL_areAlike_48 : decode cL_areAlike 48 = .ok (.aload_n 1, 1) := by decide +kernel
theorem dL_areAlike_49 : decode cL_areAlike 49 = .ok (.invokevirtual 68, 3) := by decide +kernel
theorem dL_areAlike_52 : decode cL_areAlike 52 = .ok (.if_icmp .ne 7, 3) := by decide +kernel
theorem dL_areAlike_55 : decode cL_areAlike 55 = .ok (.iconst 1, 1) := by decide +kernel
theorem dL_areAlike_56 : decode cL_areAlike 56 = .ok (.goto 4, 3) := by decide +kernel
theorem dL_areAlike_59 : decode cL_areAlike 59 = .ok (.iconst 0, 1) := by decide +kernel
theorem dL_areAlike_60 : decode cL_areAlike 60 = .ok (.istore_n 2, 1) := by decide +kernel
theorem dL_areAlike_61 : decode cL_areAlike 61 = .ok (.iconst 0, 1) := by decide +kernel
theorem dL_areAlike_62 : decode cL_areAlike 62 = .ok (.istore_n 3, 1) := by decide +kernel
theorem dL_areAlike_63 : decode cL_areAlike 63 = .ok (.iload_n 3, 1) := by decide +kernel
theorem dL_areAlike_64 : decode cL_areAlike 64 = .ok (.aload_n 0, 1) := by decide +kernel
theorem dL_areAlike_65 : decode cL_areAlike 65 = .ok (.invokevirtual 45, 3) := by decide +kernel
theorem dL_areAlike_68 : decode cL_areAlike 68 = .ok (.if_icmp .ge 45, 3) := by decide +kernel
theorem dL_areAlike_71 : decode cL_areAlike 71 = .ok (.iload_n 2, 1) := by decide +kernel
theorem dL_areAlike_72 : decode cL_areAlike 72 = .ok (.ifCond .eq 41, 3) := by decide +kernel
theorem dL_areAlike_75 : decode cL_areAlike 75 = .ok (.aload_n 0, 1) := by decide +kernel
theorem dL_areAlike_76 : decode cL_areAlike 76 = .ok (.iload_n 3, 1) := by decide +kernel
theorem dL_areAlike_77 : decode cL_areAlike 77 = .ok (.invokevirtual 71, 3) := by decide +kernel
theorem dL_areAlike_80 : decode cL_areAlike 80 = .ok (.aload_n 1, 1) := by decide +kernel
theorem dL_areAlike_81 : decode cL_areAlike 81 = .ok (.iload_n 3, 1) := by decide +kernel
theorem dL_areAlike_82 : decode cL_areAlike 82 = .ok (.invokevirtual 71, 3) := by decide +kernel
theorem dL_areAlike_85 : decode cL_areAlike 85 = .ok (.if_icmp .ne 20, 3) := by decide +kernel
theorem dL_areAlike_88 : decode cL_areAlike 88 = .ok (.aload_n 0, 1) := by decide +kernel
theorem dL_areAlike_89 : decode cL_areAlike 89 = .ok (.iload_n 3, 1) := by decide +kernel
theorem dL_areAlike_90 : decode cL_areAlike 90 = .ok (.invokevirtual 74, 3) := by decide +kernel
theorem dL_areAlike_93 : decode cL_areAlike 93 = .ok (.aload_n 1, 1) := by decide +kernel
theorem dL_areAlike_94 : decode cL_areAlike 94 = .ok (.iload_n 3, 1) := by decide +kernel
theorem dL_areAlike_95 : decode cL_areAlike 95 = .ok (.invokevirtual 74, 3) := by decide +kernel
theorem dL_areAlike_98 : decode cL_areAlike 98 = .ok (.if_icmp .ne 7, 3) := by decide +kernel
theorem dL_areAlike_101 : decode cL_areAlike 101 = .ok (.iconst 1, 1) := by decide +kernel
theorem dL_areAlike_102 : decode cL_areAlike 102 = .ok (.goto 4, 3) := by decide +kernel
theorem dL_areAlike_105 : decode cL_areAlike 105 = .ok (.iconst 0, 1) := by decide +kernel
theorem dL_areAlike_106 : decode cL_areAlike 106 = .ok (.istore_n 2, 1) := by decide +kernel
theorem dL_areAlike_107 : decode cL_areAlike 107 = .ok (.iinc 3 1, 3) := by decide +kernel
theorem dL_areAlike_110 : decode cL_areAlike 110 = .ok (.goto (-47), 3) := by decide +kernel
theorem dL_areAlike_113 : decode cL_areAlike 113 = .ok (.iload_n 2, 1) := by decide +kernel
theorem dL_areAlike_114 : decode cL_areAlike 114 = .ok (.ireturn, 1) := by decide +kernel
set_option maxRecDepth 20000 in
theorem ggL_isNodeSo_X0_core : GoodIn wsL_isNodeSo wsX0_core := goodIn_ca (goodIn_r _ [5, 6, 7, 8, 9, 4, 10, 11, 12, 13, 80, 81, 82, 83, 84, 85] (by decide +kernel) (by decide +kernel)) (goodIn_sub (fun _ h => List.mem_cons_of_mem _ (List.mem_append_left _ (List.mem_append_left _ (List.mem_append_right _ h)))) (by decide +kernel))
set_option maxRecDepth 20000 in
theorem gL_isNodeSo_X0_core : GoodIn wsL_isNodeSo (wsV RL 71 RX0 yX0_core wsX0_core) := goodIn_app (goodIn_of _ (by decide +kernel)) ggL_isNodeSo_X0_core
set_option maxRecDepth 20000 in
theorem ggL_isNodeSo_X0_degree : GoodIn wsL_isNodeSo wsX0_degree := goodIn_ca (goodIn_r _ [17, 18, 7, 8, 9, 4, 10, 11, 12, 13, 19, 20, 21, 22, 23, 24, 25, 26, 27, 28, 80, 81, 82, 83, 84, 85] (by decide +kernel) (by decide +kernel)) (goodIn_sub (fun _ h => List.mem_cons_of_mem _ (List.mem_append_left _ (List.mem_append_left _ (List.mem_append_right _ h)))) (by decide +kernel))
set_option maxRecDepth 20000 in
theorem gL_isNodeSo_X0_degree : GoodIn wsL_isNodeSo (wsV RL 74 RX0 yX0_degree wsX0_degree) := goodIn_app (goodIn_of _ (by decide +kernel)) ggL_isNodeSo_X0_degree
set_option maxRecDepth 20000 in
theorem ggL_isNodeSo_X0_neighbour : GoodIn wsL_isNodeSo wsX0_neighbour := goodIn_ca (goodIn_r _ [32, 11, 12, 13, 18, 7, 8, 9, 4, 10, 33, 34, 35, 36, 37, 38, 80, 81, 82, 83, 84, 85] (by decide +kernel) (by decide +kernel)) (goodIn_sub (fun _ h => List.mem_cons_of_mem _ (List.mem_append_left _ (List.mem_append_left _ (List.mem_append_right _ h)))) (by decide +kernel))
set_option maxRecDepth 20000 in
theorem gL_isNodeSo_X0_neighbour : GoodIn wsL_isNodeSo (wsV RL 77 RX0 yX0_neighbour wsX0_neighbour) := goodIn_app (goodIn_of _ (by decide +kernel)) ggL_isNodeSo_X0_neighbour
set_option maxRecDepth 20000 in
theorem ggL_isNodeSo_X0_areJoined : GoodIn wsL_isNodeSo wsX0_areJoined := goodIn_ca (goodIn_r _ [42, 18, 7, 8, 9, 4, 10, 11, 12, 13, 33, 34, 35, 36, 37, 38, 80, 81, 82, 83, 84, 85] (by decide +kernel) (by decide +kernel)) (goodIn_sub (fun _ h => List.mem_cons_of_mem _ (List.mem_append_left _ (List.mem_append_left _ (List.mem_append_right _ h)))) (by decide +kernel))
set_option maxRecDepth 20000 in
theorem gL_isNodeSo_X0_areJoined : GoodIn wsL_isNodeSo (wsV RL 80 RX0 yX0_areJoined wsX0_areJoined) := goodIn_app (goodIn_of _ (by decide +kernel)) ggL_isNodeSo_X0_areJoined
set_option maxRecDepth 20000 in
theorem ggL_isNodeSo_X0_community : GoodIn wsL_isNodeSo wsX0_community := goodIn_ca (goodIn_ca (goodIn_r _ [46, 7, 8, 9, 4, 10, 11, 12, 13, 47, 48, 49, 50, 51, 36, 37, 38, 52, 53, 54, 55, 6, 56, 57, 58, 59, 60, 61, 62, 18, 33, 34, 35, 19, 20, 21, 22, 23, 24, 25, 26, 27, 28, 80, 81, 82, 83, 84, 85] (by decide +kernel) (by decide +kernel)) (goodIn_sub (fun _ h => List.mem_cons_of_mem _ (List.mem_append_left _ (List.mem_append_left _ (List.mem_append_right _ h)))) (by decide +kernel))) (goodIn_sub (fun _ h => List.mem_cons_of_mem _ (List.mem_append_left _ (List.mem_append_right _ h))) (by decide +kernel))
set_option maxRecDepth 20000 in
theorem gL_isNodeSo_X0_community : GoodIn wsL_isNodeSo (wsV RL 84 RX0 yX0_community wsX0_community) := goodIn_app (goodIn_of _ (by decide +kernel)) ggL_isNodeSo_X0_community
set_option maxRecDepth 20000 in
theorem ggL_isNodeSo_L_together : GoodIn wsL_isNodeSo wsL_together := goodIn_ca (goodIn_ca (goodIn_r _ [66, 67, 68, 69, 70, 71, 72, 4, 73, 74, 75, 6, 76, 77, 78, 79, 7, 8, 9, 10, 11, 12, 13, 36, 37, 38, 52, 53, 54, 55, 56, 57, 58, 59, 60, 61, 62, 18, 33, 34, 35, 80, 81, 82, 83, 84, 85] (by decide +kernel) (by decide +kernel)) (goodIn_sub (fun _ h => List.mem_cons_of_mem _ (List.mem_append_right _ h)) (by decide +kernel))) (goodIn_sub (fun _ h => List.mem_cons_of_mem _ (List.mem_append_left _ (List.mem_append_left _ (List.mem_append_right _ h)))) (by decide +kernel))
set_option maxRecDepth 20000 in
theorem gL_isNodeSo_L_together : GoodIn wsL_isNodeSo (va_wsS RL 87 yL_together wsL_together) := goodIn_app (goodIn_of _ (by decide +kernel)) ggL_isNodeSo_L_together
theorem dL_isNodeSo_0 : decode cL_isNodeSo 0 = .ok (.aload_n 0, 1) := by decide +kernel
theorem dL_isNodeSo_1 : decode cL_isNodeSo 1 = .ok (.iload_n 1, 1) := by decide +kernel
theorem dL_isNodeSo_2 : decode cL_isNodeSo 2 = .ok (.invokevirtual 71, 3) := by decide +kernel
theorem dL_isNodeSo_5 : decode cL_isNodeSo 5 = .ok (.istore_n 2, 1) := by decide +kernel
theorem dL_isNodeSo_6 : decode cL_isNodeSo 6 = .ok (.iconst 0, 1) := by decide +kernel
theorem dL_isNodeSo_7 : decode cL_isNodeSo 7 = .ok (.istore_n 3, 1) := by decide +kernel
theorem dL_isNodeSo_8 : decode cL_isNodeSo 8 = .ok (.iconst 0, 1) := by decide +kernel
theorem dL_isNodeSo_9 : decode cL_isNodeSo 9 = .ok (.istore 4, 2) := by decide +kernel
theorem dL_isNodeSo_11 : decode cL_isNodeSo 11 = .ok (.iconst (-1), 1) := by decide +kernel
theorem dL_isNodeSo_12 : decode cL_isNodeSo 12 = .ok (.istore 5, 2) := by decide +kernel
theorem dL_isNodeSo_14 : decode cL_isNodeSo 14 = .ok (.iconst 0, 1) := by decide +kernel
theorem dL_isNodeSo_15 : decode cL_isNodeSo 15 = .ok (.istore 6, 2) := by decide +kernel
theorem dL_isNodeSo_17 : decode cL_isNodeSo 17 = .ok (.iload 6, 2) := by decide +kernel
theorem dL_isNodeSo_19 : decode cL_isNodeSo 19 = .ok (.aload_n 0, 1) := by decide +kernel
theorem dL_isNodeSo_20 : decode cL_isNodeSo 20 = .ok (.iload_n 1, 1) := by decide +kernel
theorem dL_isNodeSo_21 : decode cL_isNodeSo 21 = .ok (.invokevirtual 74, 3) := by decide +kernel
theorem dL_isNodeSo_24 : decode cL_isNodeSo 24 = .ok (.if_icmp .ge 95, 3) := by decide +kernel
theorem dL_isNodeSo_27 : decode cL_isNodeSo 27 = .ok (.aload_n 0, 1) := by decide +kernel
theorem dL_isNodeSo_28 : decode cL_isNodeSo 28 = .ok (.iload_n 1, 1) := by decide +kernel
theorem dL_isNodeSo_29 : decode cL_isNodeSo 29 = .ok (.iload 6, 2) := by decide +kernel
theorem dL_isNodeSo_31 : decode cL_isNodeSo 31 = .ok (.invokevirtual 77, 3) := by decide +kernel
theorem dL_isNodeSo_34 : decode cL_isNodeSo 34 = .ok (.istore 7, 2) := by decide +kernel
theorem dL_isNodeSo_36 : decode cL_isNodeSo 36 = .ok (.iload 7, 2) := by decide +kernel
theorem dL_isNodeSo_38 : decode cL_isNodeSo 38 = .ok (.iload 5, 2) := by decide +kernel
theorem dL_isNodeSo_40 : decode cL_isNodeSo 40 = .ok (.if_icmp .le 29, 3) := by decide +kernel
theorem dL_isNodeSo_43 : decode cL_isNodeSo 43 = .ok (.iload 7, 2) := by decide +kernel
theorem dL_isNodeSo_45 : decode cL_isNodeSo 45 = .ok (.iload_n 1, 1) := by decide +kernel
theorem dL_isNodeSo_46 : decode cL_isNodeSo 46 = .ok (.if_icmp .eq 23, 3) := by decide +kernel
theorem dL_isNodeSo_49 : decode cL_isNodeSo 49 = .ok (.aload_n 0, 1) := by decide +kernel
theorem dL_isNodeSo_50 : decode cL_isNodeSo 50 = .ok (.iload_n 1, 1) := by decide +kernel
theorem dL_isNodeSo_51 : decode cL_isNodeSo 51 = .ok (.iload 7, 2) := by decide +kernel
theorem dL_isNodeSo_53 : decode cL_isNodeSo 53 = .ok (.invokevirtual 80, 3) := by decide +kernel
theorem dL_isNodeSo_56 : decode cL_isNodeSo 56 = .ok (.ifCond .eq 13, 3) := by decide +kernel
theorem dL_isNodeSo_59 : decode cL_isNodeSo 59 = .ok (.aload_n 0, 1) := by decide +kernel
theorem dL_isNodeSo_60 : decode cL_isNodeSo 60 = .ok (.iload 7, 2) := by decide +kernel
theorem dL_isNodeSo_62 : decode cL_isNodeSo 62 = .ok (.iload_n 1, 1) := by decide +kernel
theorem dL_isNodeSo_63 : decode cL_isNodeSo 63 = .ok (.invokevirtual 80, 3) := by decide +kernel
theorem dL_isNodeSo_66 : decode cL_isNodeSo 66 = .ok (.ifCond .ne 5, 3) := by decide +kernel
theorem dL_isNodeSo_69 : decode cL_isNodeSo 69 = .ok (.iconst 0, 1) := by decide +kernel
theorem dL_isNodeSo_70 : decode cL_isNodeSo 70 = .ok (.ireturn, 1) := by decide +kernel
theorem dL_isNodeSo_71 : decode cL_isNodeSo 71 = .ok (.iload 7, 2) := by decide +kernel
theorem dL_isNodeSo_73 : decode cL_isNodeSo 73 = .ok (.istore 5, 2) := by decide +kernel
theorem dL_isNodeSo_75 : decode cL_isNodeSo 75 = .ok (.iload_n 3, 1) := by decide +kernel
theorem dL_isNodeSo_76 : decode cL_isNodeSo 76 = .ok (.aload_n 0, 1) := by decide +kernel
theorem dL_isNodeSo_77 : decode cL_isNodeSo 77 = .ok (.iload 7, 2) := by decide +kernel
theorem dL_isNodeSo_79 : decode cL_isNodeSo 79 = .ok (.invokevirtual 71, 3) := by decide +kernel
theorem dL_isNodeSo_82 : decode cL_isNodeSo 82 = .ok (.iload_n 2, 1) := by decide +kernel
theorem dL_isNodeSo_83 : decode cL_isNodeSo 83 = .ok (.if_icmp .lt 7, 3) := by decide +kernel
theorem dL_isNodeSo_86 : decode cL_isNodeSo 86 = .ok (.iconst 1, 1) := by decide +kernel
theorem dL_isNodeSo_87 : decode cL_isNodeSo 87 = .ok (.goto 4, 3) := by decide +kernel
theorem dL_isNodeSo_90 : decode cL_isNodeSo 90 = .ok (.iconst 0, 1) := by decide +kernel
theorem dL_isNodeSo_91 : decode cL_isNodeSo 91 = .ok (.iadd, 1) := by decide +kernel
theorem dL_isNodeSo_92 : decode cL_isNodeSo 92 = .ok (.istore_n 3, 1) := by decide +kernel
theorem dL_isNodeSo_93 : decode cL_isNodeSo 93 = .ok (.iload 4, 2) := by decide +kernel
theorem dL_isNodeSo_95 : decode cL_isNodeSo 95 = .ok (.aload_n 0, 1) := by decide +kernel
theorem dL_isNodeSo_96 : decode cL_isNodeSo 96 = .ok (.iload 7, 2) := by decide +kernel
theorem dL_isNodeSo_98 : decode cL_isNodeSo 98 = .ok (.invokevirtual 71, 3) := by decide +kernel
theorem dL_isNodeSo_101 : decode cL_isNodeSo 101 = .ok (.iload_n 2, 1) := by decide +kernel
theorem dL_isNodeSo_102 : decode cL_isNodeSo 102 = .ok (.if_icmp .le 7, 3) := by decide +kernel
theorem dL_isNodeSo_105 : decode cL_isNodeSo 105 = .ok (.iconst 1, 1) := by decide +kernel
theorem dL_isNodeSo_106 : decode cL_isNodeSo 106 = .ok (.goto 4, 3) := by decide +kernel
theorem dL_isNodeSo_109 : decode cL_isNodeSo 109 = .ok (.iconst 0, 1) := by decide +kernel
theorem dL_isNodeSo_110 : decode cL_isNodeSo 110 = .ok (.iadd, 1) := by decide +kernel
theorem dL_isNodeSo_111 : decode cL_isNodeSo 111 = .ok (.istore 4, 2) := by decide +kernel
theorem dL_isNodeSo_113 : decode cL_isNodeSo 113 = .ok (.iinc 6 1, 3) := by decide +kernel
theorem dL_isNodeSo_116 : decode cL_isNodeSo 116 = .ok (.goto (-99), 3) := by decide +kernel
theorem dL_isNodeSo_119 : decode cL_isNodeSo 119 = .ok (.iload_n 3, 1) := by decide +kernel
theorem dL_isNodeSo_120 : decode cL_isNodeSo 120 = .ok (.iload_n 2, 1) := by decide +kernel
theorem dL_isNodeSo_121 : decode cL_isNodeSo 121 = .ok (.if_icmp .lt 53, 3) := by decide +kernel
theorem dL_isNodeSo_124 : decode cL_isNodeSo 124 = .ok (.iload 4, 2) := by decide +kernel
theorem dL_isNodeSo_126 : decode cL_isNodeSo 126 = .ok (.iload_n 2, 1) := by decide +kernel
theorem dL_isNodeSo_127 : decode cL_isNodeSo 127 = .ok (.if_icmp .gt 47, 3) := by decide +kernel
theorem dL_isNodeSo_130 : decode cL_isNodeSo 130 = .ok (.aload_n 0, 1) := by decide +kernel
theorem dL_isNodeSo_131 : decode cL_isNodeSo 131 = .ok (.iload_n 1, 1) := by decide +kernel
theorem dL_isNodeSo_132 : decode cL_isNodeSo 132 = .ok (.iload_n 2, 1) := by decide +kernel
theorem dL_isNodeSo_133 : decode cL_isNodeSo 133 = .ok (.invokevirtual 84, 3) := by decide +kernel
theorem dL_isNodeSo_136 : decode cL_isNodeSo 136 = .ok (.iload_n 2, 1) := by decide +kernel
theorem dL_isNodeSo_137 : decode cL_isNodeSo 137 = .ok (.if_icmp .le 37, 3) := by decide +kernel
theorem dL_isNodeSo_140 : decode cL_isNodeSo 140 = .ok (.aload_n 0, 1) := by decide +kernel
theorem dL_isNodeSo_141 : decode cL_isNodeSo 141 = .ok (.iload_n 1, 1) := by decide +kernel
theorem dL_isNodeSo_142 : decode cL_isNodeSo 142 = .ok (.iload_n 2, 1) := by decide +kernel
theorem dL_isNodeSo_143 : decode cL_isNodeSo 143 = .ok (.iconst 1, 1) := by decide +kernel
theorem dL_isNodeSo_144 : decode cL_isNodeSo 144 = .ok (.iadd, 1) := by decide +kernel
theorem dL_isNodeSo_145 : decode cL_isNodeSo 145 = .ok (.invokevirtual 84, 3) := by decide +kernel
theorem dL_isNodeSo_148 : decode cL_isNodeSo 148 = .ok (.ifCond .ne 26, 3) := by decide +kernel
theorem dL_isNodeSo_151 : decode cL_isNodeSo 151 = .ok (.aload_n 0, 1) := by decide +kernel
theorem dL_isNodeSo_152 : decode cL_isNodeSo 152 = .ok (.iload_n 1, 1) := by decide +kernel
theorem dL_isNodeSo_153 : decode cL_isNodeSo 153 = .ok (.iload_n 1, 1) := by decide +kernel
theorem dL_isNodeSo_154 : decode cL_isNodeSo 154 = .ok (.invokestatic 87, 3) := by decide +kernel
theorem dL_isNodeSo_157 : decode cL_isNodeSo 157 = .ok (.iload_n 2, 1) := by decide +kernel
theorem dL_isNodeSo_158 : decode cL_isNodeSo 158 = .ok (.if_icmp .ne 16, 3) := by decide +kernel
theorem dL_isNodeSo_161 : decode cL_isNodeSo 161 = .ok (.aload_n 0, 1) := by decide +kernel
theorem dL_isNodeSo_162 : decode cL_isNodeSo 162 = .ok (.iload_n 1, 1) := by decide +kernel
theorem dL_isNodeSo_163 : decode cL_isNodeSo 163 = .ok (.iload_n 1, 1) := by decide +kernel
theorem dL_isNodeSo_164 : decode cL_isNodeSo 164 = .ok (.invokevirtual 80, 3) := by decide +kernel
theorem dL_isNodeSo_167 : decode cL_isNodeSo 167 = .ok (.ifCond .ne 7, 3) := by decide +kernel
theorem dL_isNodeSo_170 : decode cL_isNodeSo 170 = .ok (.iconst 1, 1) := by decide +kernel
theorem dL_isNodeSo_171 : decode cL_isNodeSo 171 = .ok (.goto 4, 3) := by decide +kernel
theorem dL_isNodeSo_174 : decode cL_isNodeSo 174 = .ok (.iconst 0, 1) := by decide +kernel
theorem dL_isNodeSo_175 : decode cL_isNodeSo 175 = .ok (.ireturn, 1) := by decide +kernel
set_option maxRecDepth 20000 in
theorem ggL_isPeeledSo_X0_nodes : GoodIn wsL_isPeeledSo wsX0_nodes := goodIn_r _ [5, 6, 83, 84, 85, 86, 87, 88] (by decide +kernel) (by decide +kernel)
set_option maxRecDepth 20000 in
theorem gL_isPeeledSo_X0_nodes : GoodIn wsL_isPeeledSo (wsV RL 45 RX0 yX0_nodes wsX0_nodes) := goodIn_app (goodIn_of _ (by decide +kernel)) ggL_isPeeledSo_X0_nodes
set_option maxRecDepth 20000 in
theorem ggL_isPeeledSo_X0_peeled : GoodIn wsL_isPeeledSo wsX0_peeled := goodIn_ca (goodIn_r _ [10, 11, 12, 6, 13, 14, 15, 4, 16, 17, 18, 19, 20, 21, 22, 23, 24, 25, 26, 27, 28, 29, 30, 31, 32, 33, 34, 35, 36, 37, 38, 39, 40, 83, 84, 85, 86, 87, 88] (by decide +kernel) (by decide +kernel)) (goodIn_sub (fun _ h => List.mem_cons_of_mem _ (List.mem_append_right _ h)) (by decide +kernel))
set_option maxRecDepth 20000 in
theorem gL_isPeeledSo_X0_peeled : GoodIn wsL_isPeeledSo (wsV RL 89 RX0 yX0_peeled wsX0_peeled) := goodIn_app (goodIn_of _ (by decide +kernel)) ggL_isPeeledSo_X0_peeled
set_option maxRecDepth 20000 in
theorem ggL_isPeeledSo_X0_areJoined : GoodIn wsL_isPeeledSo wsX0_areJoined := goodIn_ca (goodIn_r _ [44, 24, 45, 46, 47, 4, 48, 11, 12, 6, 25, 26, 27, 17, 18, 19, 83, 84, 85, 86, 87, 88] (by decide +kernel) (by decide +kernel)) (goodIn_sub (fun _ h => List.mem_cons_of_mem _ (List.mem_append_right _ h)) (by decide +kernel))
set_option maxRecDepth 20000 in
theorem gL_isPeeledSo_X0_areJoined : GoodIn wsL_isPeeledSo (wsV RL 80 RX0 yX0_areJoined wsX0_areJoined) := goodIn_app (goodIn_of _ (by decide +kernel)) ggL_isPeeledSo_X0_areJoined
set_option maxRecDepth 20000 in
theorem ggL_isPeeledSo_X0_isDense : GoodIn wsL_isPeeledSo wsX0_isDense := goodIn_ca (goodIn_r _ [52, 45, 46, 47, 4, 48, 11, 12, 6, 53, 54, 55, 56, 57, 13, 14, 15, 16, 17, 18, 19, 20, 21, 22, 23, 24, 25, 26, 27, 28, 29, 30, 31, 32, 33, 34, 35, 36, 37, 38, 39, 40, 58, 59, 60, 61, 83, 84, 85, 86, 87, 88] (by decide +kernel) (by decide +kernel)) (goodIn_sub (fun _ h => List.mem_cons_of_mem _ (List.mem_append_right _ h)) (by decide +kernel))
set_option maxRecDepth 20000 in
theorem gL_isPeeledSo_X0_isDense : GoodIn wsL_isPeeledSo (wsV RL 92 RX0 yX0_isDense wsX0_isDense) := goodIn_app (goodIn_of _ (by decide +kernel)) ggL_isPeeledSo_X0_isDense
set_option maxRecDepth 20000 in
theorem ggL_isPeeledSo_X0_degeneracy : GoodIn wsL_isPeeledSo wsX0_degeneracy := goodIn_r _ [65, 6, 66, 67, 68, 69, 70, 83, 84, 85, 86, 87, 88] (by decide +kernel) (by decide +kernel)
set_option maxRecDepth 20000 in
theorem gL_isPeeledSo_X0_degeneracy : GoodIn wsL_isPeeledSo (wsV RL 65 RX0 yX0_degeneracy wsX0_degeneracy) := goodIn_app (goodIn_of _ (by decide +kernel)) ggL_isPeeledSo_X0_degeneracy
set_option maxRecDepth 20000 in
theorem ggL_isPeeledSo_X0_edges : GoodIn wsL_isPeeledSo wsX0_edges := goodIn_r _ [74, 57, 83, 84, 85, 86, 87, 88] (by decide +kernel) (by decide +kernel)
set_option maxRecDepth 20000 in
theorem gL_isPeeledSo_X0_edges : GoodIn wsL_isPeeledSo (wsV RL 59 RX0 yX0_edges wsX0_edges) := goodIn_app (goodIn_of _ (by decide +kernel)) ggL_isPeeledSo_X0_edges
set_option maxRecDepth 20000 in
theorem ggL_isPeeledSo_X0_denseSize : GoodIn wsL_isPeeledSo wsX0_denseSize := goodIn_r _ [78, 53, 54, 55, 4, 56, 57, 6, 13, 14, 15, 16, 17, 18, 19, 20, 21, 22, 23, 24, 25, 26, 27, 28, 29, 30, 31, 32, 33, 34, 35, 36, 37, 38, 39, 40, 58, 59, 60, 61, 83, 84, 85, 86, 87, 88] (by decide +kernel) (by decide +kernel)
set_option maxRecDepth 20000 in
theorem gL_isPeeledSo_X0_denseSize : GoodIn wsL_isPeeledSo (wsV RL 96 RX0 yX0_denseSize wsX0_denseSize) := goodIn_app (goodIn_of _ (by decide +kernel)) ggL_isPeeledSo_X0_denseSize
set_option maxRecDepth 20000 in
theorem ggL_isPeeledSo_X0_density : GoodIn wsL_isPeeledSo wsX0_density := goodIn_r _ [82, 53, 54, 55, 4, 56, 57, 6, 13, 14, 15, 16, 17, 18, 19, 20, 21, 22, 23, 24, 25, 26, 27, 28, 29, 30, 31, 32, 33, 34, 35, 36, 37, 38, 39, 40, 58, 59, 60, 61, 83, 84, 85, 86, 87, 88] (by decide +kernel) (by decide +kernel)
set_option maxRecDepth 20000 in
theorem gL_isPeeledSo_X0_density : GoodIn wsL_isPeeledSo (wsV RL 99 RX0 yX0_density wsX0_density) := goodIn_app (goodIn_of _ (by decide +kernel)) ggL_isPeeledSo_X0_density
theorem dL_isPeeledSo_0 : decode cL_isPeeledSo 0 = .ok (.aload_n 0, 1) := by decide +kernel
theorem dL_isPeeledSo_1 : decode cL_isPeeledSo 1 = .ok (.invokevirtual 45, 3) := by decide +kernel
theorem dL_isPeeledSo_4 : decode cL_isPeeledSo 4 = .ok (.istore_n 1, 1) := by decide +kernel
theorem dL_isPeeledSo_5 : decode cL_isPeeledSo 5 = .ok (.iconst 1, 1) := by decide +kernel
theorem dL_isPeeledSo_6 : decode cL_isPeeledSo 6 = .ok (.iload_n 1, 1) := by decide +kernel
theorem dL_isPeeledSo_7 : decode cL_isPeeledSo 7 = .ok (.ishl, 1) := by decide +kernel
theorem dL_isPeeledSo_8 : decode cL_isPeeledSo 8 = .ok (.iconst 1, 1) := by decide +kernel
theorem dL_isPeeledSo_9 : decode cL_isPeeledSo 9 = .ok (.isub, 1) := by decide +kernel
theorem dL_isPeeledSo_10 : decode cL_isPeeledSo 10 = .ok (.istore_n 2, 1) := by decide +kernel
theorem dL_isPeeledSo_11 : decode cL_isPeeledSo 11 = .ok (.iconst 0, 1) := by decide +kernel
theorem dL_isPeeledSo_12 : decode cL_isPeeledSo 12 = .ok (.istore_n 3, 1) := by decide +kernel
theorem dL_isPeeledSo_13 : decode cL_isPeeledSo 13 = .ok (.iconst 0, 1) := by decide +kernel
theorem dL_isPeeledSo_14 : decode cL_isPeeledSo 14 = .ok (.istore 4, 2) := by decide +kernel
theorem dL_isPeeledSo_16 : decode cL_isPeeledSo 16 = .ok (.iconst 0, 1) := by decide +kernel
theorem dL_isPeeledSo_17 : decode cL_isPeeledSo 17 = .ok (.istore 5, 2) := by decide +kernel
theorem dL_isPeeledSo_19 : decode cL_isPeeledSo 19 = .ok (.iload 5, 2) := by decide +kernel
theorem dL_isPeeledSo_21 : decode cL_isPeeledSo 21 = .ok (.iload_n 1, 1) := by decide +kernel
theorem dL_isPeeledSo_22 : decode cL_isPeeledSo 22 = .ok (.if_icmp .ge 104, 3) := by decide +kernel
theorem dL_isPeeledSo_25 : decode cL_isPeeledSo 25 = .ok (.aload_n 0, 1) := by decide +kernel
theorem dL_isPeeledSo_26 : decode cL_isPeeledSo 26 = .ok (.iload 5, 2) := by decide +kernel
theorem dL_isPeeledSo_28 : decode cL_isPeeledSo 28 = .ok (.invokevirtual 89, 3) := by decide +kernel
theorem dL_isPeeledSo_31 : decode cL_isPeeledSo 31 = .ok (.istore 6, 2) := by decide +kernel
theorem dL_isPeeledSo_33 : decode cL_isPeeledSo 33 = .ok (.iload_n 2, 1) := by decide +kernel
theorem dL_isPeeledSo_34 : decode cL_isPeeledSo 34 = .ok (.iload 6, 2) := by decide +kernel
theorem dL_isPeeledSo_36 : decode cL_isPeeledSo 36 = .ok (.ishr, 1) := by decide +kernel
theorem dL_isPeeledSo_37 : decode cL_isPeeledSo 37 = .ok (.iconst 1, 1) := by decide +kernel
theorem dL_isPeeledSo_38 : decode cL_isPeeledSo 38 = .ok (.iand, 1) := by decide +kernel
theorem dL_isPeeledSo_39 : decode cL_isPeeledSo 39 = .ok (.ifCond .ne 5, 3) := by decide +kernel
theorem dL_isPeeledSo_42 : decode cL_isPeeledSo 42 = .ok (.iconst 0, 1) := by decide +kernel
theorem dL_isPeeledSo_43 : decode cL_isPeeledSo 43 = .ok (.ireturn, 1) := by decide +kernel
theorem dL_isPeeledSo_44 : decode cL_isPeeledSo 44 = .ok (.iload_n 2, 1) := by decide +kernel
theorem dL_isPeeledSo_45 : decode cL_isPeeledSo 45 = .ok (.iconst 1, 1) := by decide +kernel
theorem dL_isPeeledSo_46 : decode cL_isPeeledSo 46 = .ok (.iload 6, 2) := by decide +kernel
theorem dL_isPeeledSo_48 : decode cL_isPeeledSo 48 = .ok (.ishl, 1) := by decide +kernel
theorem dL_isPeeledSo_49 : decode cL_isPeeledSo 49 = .ok (.ixor, 1) := by decide +kernel
theorem dL_isPeeledSo_50 : decode cL_isPeeledSo 50 = .ok (.istore_n 2, 1) := by decide +kernel
theorem dL_isPeeledSo_51 : decode cL_isPeeledSo 51 = .ok (.iconst 0, 1) := by decide +kernel
theorem dL_isPeeledSo_52 : decode cL_isPeeledSo 52 = .ok (.istore 7, 2) := by decide +kernel
theorem dL_isPeeledSo_54 : decode cL_isPeeledSo 54 = .ok (.iconst 0, 1) := by decide +kernel
theorem dL_isPeeledSo_55 : decode cL_isPeeledSo 55 = .ok (.istore 8, 2) := by decide +kernel
theorem dL_isPeeledSo_57 : decode cL_isPeeledSo 57 = .ok (.iload 8, 2) := by decide +kernel
theorem dL_isPeeledSo_59 : decode cL_isPeeledSo 59 = .ok (.iload_n 1, 1) := by decide +kernel
theorem dL_isPeeledSo_60 : decode cL_isPeeledSo 60 = .ok (.if_icmp .ge 40, 3) := by decide +kernel
theorem dL_isPeeledSo_63 : decode cL_isPeeledSo 63 = .ok (.iload 7, 2) := by decide +kernel
theorem dL_isPeeledSo_65 : decode cL_isPeeledSo 65 = .ok (.iload_n 2, 1) := by decide +kernel
theorem dL_isPeeledSo_66 : decode cL_isPeeledSo 66 = .ok (.iload 8, 2) := by decide +kernel
theorem dL_isPeeledSo_68 : decode cL_isPeeledSo 68 = .ok (.ishr, 1) := by decide +kernel
theorem dL_isPeeledSo_69 : decode cL_isPeeledSo 69 = .ok (.iconst 1, 1) := by decide +kernel
theorem dL_isPeeledSo_70 : decode cL_isPeeledSo 70 = .ok (.iand, 1) := by decide +kernel
theorem dL_isPeeledSo_71 : decode cL_isPeeledSo 71 = .ok (.iconst 1, 1) := by decide +kernel
theorem dL_isPeeledSo_72 : decode cL_isPeeledSo 72 = .ok (.if_icmp .ne 18, 3) := by decide +kernel
theorem dL_isPeeledSo_75 : decode cL_isPeeledSo 75 = .ok (.aload_n 0, 1) := by decide +kernel
theorem dL_isPeeledSo_76 : decode cL_isPeeledSo 76 = .ok (.iload 6, 2) := by decide +kernel
theorem dL_isPeeledSo_78 : decode cL_isPeeledSo 78 = .ok (.iload 8, 2) := by decide +kernel
theorem dL_isPeeledSo_80 : decode cL_isPeeledSo 80 = .ok (.invokevirtual 80, 3) := by decide +kernel
theorem dL_isPeeledSo_83 : decode cL_isPeeledSo 83 = .ok (.ifCond .eq 7, 3) := by decide +kernel
theorem dL_isPeeledSo_86 : decode cL_isPeeledSo 86 = .ok (.iconst 1, 1) := by decide +kernel
theorem dL_isPeeledSo_87 : decode cL_isPeeledSo 87 = .ok (.goto 4, 3) := by decide +kernel
theorem dL_isPeeledSo_90 : decode cL_isPeeledSo 90 = .ok (.iconst 0, 1) := by decide +kernel
theorem dL_isPeeledSo_91 : decode cL_isPeeledSo 91 = .ok (.iadd, 1) := by decide +kernel
theorem dL_isPeeledSo_92 : decode cL_isPeeledSo 92 = .ok (.istore 7, 2) := by decide +kernel
theorem dL_isPeeledSo_94 : decode cL_isPeeledSo 94 = .ok (.iinc 8 1, 3) := by decide +kernel
theorem dL_isPeeledSo_97 : decode cL_isPeeledSo 97 = .ok (.goto (-40), 3) := by decide +kernel
theorem dL_isPeeledSo_100 : decode cL_isPeeledSo 100 = .ok (.iload 7, 2) := by decide +kernel
theorem dL_isPeeledSo_102 : decode cL_isPeeledSo 102 = .ok (.iload_n 3, 1) := by decide +kernel
theorem dL_isPeeledSo_103 : decode cL_isPeeledSo 103 = .ok (.if_icmp .le 8, 3) := by decide +kernel
theorem dL_isPeeledSo_106 : decode cL_isPeeledSo 106 = .ok (.iload 7, 2) := by decide +kernel
theorem dL_isPeeledSo_108 : decode cL_isPeeledSo 108 = .ok (.goto 4, 3) := by decide +kernel
theorem dL_isPeeledSo_111 : decode cL_isPeeledSo 111 = .ok (.iload_n 3, 1) := by decide +kernel
theorem dL_isPeeledSo_112 : decode cL_isPeeledSo 112 = .ok (.istore_n 3, 1) := by decide +kernel
theorem dL_isPeeledSo_113 : decode cL_isPeeledSo 113 = .ok (.iload 4, 2) := by decide +kernel
theorem dL_isPeeledSo_115 : decode cL_isPeeledSo 115 = .ok (.iload 7, 2) := by decide +kernel
theorem dL_isPeeledSo_117 : decode cL_isPeeledSo 117 = .ok (.iadd, 1) := by decide +kernel
theorem dL_isPeeledSo_118 : decode cL_isPeeledSo 118 = .ok (.istore 4, 2) := by decide +kernel
theorem dL_isPeeledSo_120 : decode cL_isPeeledSo 120 = .ok (.iinc 5 1, 3) := by decide +kernel
theorem dL_isPeeledSo_123 : decode cL_isPeeledSo 123 = .ok (.goto (-104), 3) := by decide +kernel
theorem dL_isPeeledSo_126 : decode cL_isPeeledSo 126 = .ok (.iconst 0, 1) := by decide +kernel
theorem dL_isPeeledSo_127 : decode cL_isPeeledSo 127 = .ok (.istore 5, 2) := by decide +kernel
theorem dL_isPeeledSo_129 : decode cL_isPeeledSo 129 = .ok (.iconst 0, 1) := by decide +kernel
theorem dL_isPeeledSo_130 : decode cL_isPeeledSo 130 = .ok (.istore 6, 2) := by decide +kernel
theorem dL_isPeeledSo_132 : decode cL_isPeeledSo 132 = .ok (.iconst 0, 1) := by decide +kernel
theorem dL_isPeeledSo_133 : decode cL_isPeeledSo 133 = .ok (.istore 7, 2) := by decide +kernel
theorem dL_isPeeledSo_135 : decode cL_isPeeledSo 135 = .ok (.iload 7, 2) := by decide +kernel
theorem dL_isPeeledSo_137 : decode cL_isPeeledSo 137 = .ok (.iload_n 1, 1) := by decide +kernel
theorem dL_isPeeledSo_138 : decode cL_isPeeledSo 138 = .ok (.if_icmp .ge 83, 3) := by decide +kernel
theorem dL_isPeeledSo_141 : decode cL_isPeeledSo 141 = .ok (.iload 5, 2) := by decide +kernel
theorem dL_isPeeledSo_143 : decode cL_isPeeledSo 143 = .ok (.aload_n 0, 1) := by decide +kernel
theorem dL_isPeeledSo_144 : decode cL_isPeeledSo 144 = .ok (.iload 7, 2) := by decide +kernel
theorem dL_isPeeledSo_146 : decode cL_isPeeledSo 146 = .ok (.invokevirtual 92, 3) := by decide +kernel
theorem dL_isPeeledSo_149 : decode cL_isPeeledSo 149 = .ok (.ifCond .eq 7, 3) := by decide +kernel
theorem dL_isPeeledSo_152 : decode cL_isPeeledSo 152 = .ok (.iconst 1, 1) := by decide +kernel
theorem dL_isPeeledSo_153 : decode cL_isPeeledSo 153 = .ok (.goto 4, 3) := by decide +kernel
theorem dL_isPeeledSo_156 : decode cL_isPeeledSo 156 = .ok (.iconst 0, 1) := by decide +kernel
theorem dL_isPeeledSo_157 : decode cL_isPeeledSo 157 = .ok (.iadd, 1) := by decide +kernel
theorem dL_isPeeledSo_158 : decode cL_isPeeledSo 158 = .ok (.istore 5, 2) := by decide +kernel
theorem dL_isPeeledSo_160 : decode cL_isPeeledSo 160 = .ok (.iconst 0, 1) := by decide +kernel
theorem dL_isPeeledSo_161 : decode cL_isPeeledSo 161 = .ok (.istore 8, 2) := by decide +kernel
theorem dL_isPeeledSo_163 : decode cL_isPeeledSo 163 = .ok (.iload 8, 2) := by decide +kernel
theorem dL_isPeeledSo_165 : decode cL_isPeeledSo 165 = .ok (.iload 7, 2) := by decide +kernel
theorem dL_isPeeledSo_167 : decode cL_isPeeledSo 167 = .ok (.if_icmp .ge 48, 3) := by decide +kernel
theorem dL_isPeeledSo_170 : decode cL_isPeeledSo 170 = .ok (.iload 6, 2) := by decide +kernel
theorem dL_isPeeledSo_172 : decode cL_isPeeledSo 172 = .ok (.aload_n 0, 1) := by decide +kernel
theorem dL_isPeeledSo_173 : decode cL_isPeeledSo 173 = .ok (.iload 7, 2) := by decide +kernel
theorem dL_isPeeledSo_175 : decode cL_isPeeledSo 175 = .ok (.invokevirtual 92, 3) := by decide +kernel
theorem dL_isPeeledSo_178 : decode cL_isPeeledSo 178 = .ok (.ifCond .eq 27, 3) := by decide +kernel
theorem dL_isPeeledSo_181 : decode cL_isPeeledSo 181 = .ok (.aload_n 0, 1) := by decide +kernel
theorem dL_isPeeledSo_182 : decode cL_isPeeledSo 182 = .ok (.iload 8, 2) := by decide +kernel
theorem dL_isPeeledSo_184 : decode cL_isPeeledSo 184 = .ok (.invokevirtual 92, 3) := by decide +kernel
theorem dL_isPeeledSo_187 : decode cL_isPeeledSo 187 = .ok (.ifCond .eq 18, 3) := by decide +kernel
theorem dL_isPeeledSo_190 : decode cL_isPeeledSo 190 = .ok (.aload_n 0, 1) := by decide +kernel
theorem dL_isPeeledSo_191 : decode cL_isPeeledSo 191 = .ok (.iload 7, 2) := by decide +kernel
theorem dL_isPeeledSo_193 : decode cL_isPeeledSo 193 = .ok (.iload 8, 2) := by decide +kernel
theorem dL_isPeeledSo_195 : decode cL_isPeeledSo 195 = .ok (.invokevirtual 80, 3) := by decide +kernel
theorem dL_isPeeledSo_198 : decode cL_isPeeledSo 198 = .ok (.ifCond .eq 7, 3) := by decide +kernel
theorem dL_isPeeledSo_201 : decode cL_isPeeledSo 201 = .ok (.iconst 1, 1) := by decide +kernel
theorem dL_isPeeledSo_202 : decode cL_isPeeledSo 202 = .ok (.goto 4, 3) := by decide +kernel
theorem dL_isPeeledSo_205 : decode cL_isPeeledSo 205 = .ok (.iconst 0, 1) := by decide +kernel
theorem dL_isPeeledSo_206 : decode cL_isPeeledSo 206 = .ok (.iadd, 1) := by decide +kernel
theorem dL_isPeeledSo_207 : decode cL_isPeeledSo 207 = .ok (.istore 6, 2) := by decide +kernel
theorem dL_isPeeledSo_209 : decode cL_isPeeledSo 209 = .ok (.iinc 8 1, 3) := by decide +kernel
theorem dL_isPeeledSo_212 : decode cL_isPeeledSo 212 = .ok (.goto (-49), 3) := by decide +kernel
theorem dL_isPeeledSo_215 : decode cL_isPeeledSo 215 = .ok (.iinc 7 1, 3) := by decide +kernel
theorem dL_isPeeledSo_218 : decode cL_isPeeledSo 218 = .ok (.goto (-83), 3) := by decide +kernel
theorem dL_isPeeledSo_221 : decode cL_isPeeledSo 221 = .ok (.iload_n 3, 1) := by decide +kernel
theorem dL_isPeeledSo_222 : decode cL_isPeeledSo 222 = .ok (.aload_n 0, 1) := by decide +kernel
theorem dL_isPeeledSo_223 : decode cL_isPeeledSo 223 = .ok (.invokevirtual 65, 3) := by decide +kernel
theorem dL_isPeeledSo_226 : decode cL_isPeeledSo 226 = .ok (.if_icmp .ne 47, 3) := by decide +kernel
theorem dL_isPeeledSo_229 : decode cL_isPeeledSo 229 = .ok (.iload 4, 2) := by decide +kernel
theorem dL_isPeeledSo_231 : decode cL_isPeeledSo 231 = .ok (.aload_n 0, 1) := by decide +kernel
theorem dL_isPeeledSo_232 : decode cL_isPeeledSo 232 = .ok (.invokevirtual 59, 3) := by decide +kernel
theorem dL_isPeeledSo_235 : decode cL_isPeeledSo 235 = .ok (.if_icmp .ne 38, 3) := by decide +kernel
theorem dL_isPeeledSo_238 : decode cL_isPeeledSo 238 = .ok (.iload 5, 2) := by decide +kernel
theorem dL_isPeeledSo_240 : decode cL_isPeeledSo 240 = .ok (.aload_n 0, 1) := by decide +kernel
theorem dL_isPeeledSo_241 : decode cL_isPeeledSo 241 = .ok (.invokevirtual 96, 3) := by decide +kernel
theorem dL_isPeeledSo_244 : decode cL_isPeeledSo 244 = .ok (.if_icmp .ne 29, 3) := by decide +kernel
theorem dL_isPeeledSo_247 : decode cL_isPeeledSo 247 = .ok (.iload_n 1, 1) := by decide +kernel
theorem dL_isPeeledSo_248 : decode cL_isPeeledSo 248 = .ok (.ifCond .ne 7, 3) := by decide +kernel
theorem dL_isPeeledSo_251 : decode cL_isPeeledSo 251 = .ok (.iconst 1, 1) := by decide +kernel
theorem dL_isPeeledSo_252 : decode cL_isPeeledSo 252 = .ok (.goto 4, 3) := by decide +kernel
theorem dL_isPeeledSo_255 : decode cL_isPeeledSo 255 = .ok (.iconst 0, 1) := by decide +kernel
theorem dL_isPeeledSo_256 : decode cL_isPeeledSo 256 = .ok (.iload 5, 2) := by decide +kernel
theorem dL_isPeeledSo_258 : decode cL_isPeeledSo 258 = .ok (.ifCond .ne 7, 3) := by decide +kernel
theorem dL_isPeeledSo_261 : decode cL_isPeeledSo 261 = .ok (.iconst 1, 1) := by decide +kernel
theorem dL_isPeeledSo_262 : decode cL_isPeeledSo 262 = .ok (.goto 4, 3) := by decide +kernel
theorem dL_isPeeledSo_265 : decode cL_isPeeledSo 265 = .ok (.iconst 0, 1) := by decide +kernel
theorem dL_isPeeledSo_266 : decode cL_isPeeledSo 266 = .ok (.if_icmp .ne 7, 3) := by decide +kernel
theorem dL_isPeeledSo_269 : decode cL_isPeeledSo 269 = .ok (.iconst 1, 1) := by decide +kernel
theorem dL_isPeeledSo_270 : decode cL_isPeeledSo 270 = .ok (.goto 4, 3) := by decide +kernel
theorem dL_isPeeledSo_273 : decode cL_isPeeledSo 273 = .ok (.iconst 0, 1) := by decide +kernel
theorem dL_isPeeledSo_274 : decode cL_isPeeledSo 274 = .ok (.istore 7, 2) := by decide +kernel
theorem dL_isPeeledSo_276 : decode cL_isPeeledSo 276 = .ok (.iload 7, 2) := by decide +kernel
theorem dL_isPeeledSo_278 : decode cL_isPeeledSo 278 = .ok (.ifCond .eq 52, 3) := by decide +kernel
theorem dL_isPeeledSo_281 : decode cL_isPeeledSo 281 = .ok (.iload_n 1, 1) := by decide +kernel
theorem dL_isPeeledSo_282 : decode cL_isPeeledSo 282 = .ok (.ifCond .ne 15, 3) := by decide +kernel
theorem dL_isPeeledSo_285 : decode cL_isPeeledSo 285 = .ok (.aload_n 0, 1) := by decide +kernel
theorem dL_isPeeledSo_286 : decode cL_isPeeledSo 286 = .ok (.invokevirtual 99, 3) := by decide +kernel
theorem dL_isPeeledSo_289 : decode cL_isPeeledSo 289 = .ok (.dconst 0, 1) := by decide +kernel
theorem dL_isPeeledSo_290 : decode cL_isPeeledSo 290 = .ok (.dcmp .l, 1) := by decide +kernel
theorem dL_isPeeledSo_291 : decode cL_isPeeledSo 291 = .ok (.ifCond .ne 39, 3) := by decide +kernel
theorem dL_isPeeledSo_294 : decode cL_isPeeledSo 294 = .ok (.goto 32, 3) := by decide +kernel
theorem dL_isPeeledSo_297 : decode cL_isPeeledSo 297 = .ok (.aload_n 0, 1) := by decide +kernel
theorem dL_isPeeledSo_298 : decode cL_isPeeledSo 298 = .ok (.invokevirtual 99, 3) := by decide +kernel
theorem dL_isPeeledSo_301 : decode cL_isPeeledSo 301 = .ok (.iload 6, 2) := by decide +kernel
theorem dL_isPeeledSo_303 : decode cL_isPeeledSo 303 = .ok (.i2d, 1) := by decide +kernel
theorem dL_isPeeledSo_304 : decode cL_isPeeledSo 304 = .ok (.iload 5, 2) := by decide +kernel
theorem dL_isPeeledSo_306 : decode cL_isPeeledSo 306 = .ok (.i2d, 1) := by decide +kernel
theorem dL_isPeeledSo_307 : decode cL_isPeeledSo 307 = .ok (.ddiv, 1) := by decide +kernel
theorem dL_isPeeledSo_308 : decode cL_isPeeledSo 308 = .ok (.dcmp .l, 1) := by decide +kernel
theorem dL_isPeeledSo_309 : decode cL_isPeeledSo 309 = .ok (.ifCond .ne 21, 3) := by decide +kernel
theorem dL_isPeeledSo_312 : decode cL_isPeeledSo 312 = .ok (.iload 6, 2) := by decide +kernel
theorem dL_isPeeledSo_314 : decode cL_isPeeledSo 314 = .ok (.iload_n 1, 1) := by decide +kernel
theorem dL_isPeeledSo_315 : decode cL_isPeeledSo 315 = .ok (.imul, 1) := by decide +kernel
theorem dL_isPeeledSo_316 : decode cL_isPeeledSo 316 = .ok (.aload_n 0, 1) := by decide +kernel
theorem dL_isPeeledSo_317 : decode cL_isPeeledSo 317 = .ok (.invokevirtual 59, 3) := by decide +kernel
theorem dL_isPeeledSo_320 : decode cL_isPeeledSo 320 = .ok (.iload 5, 2) := by decide +kernel
theorem dL_isPeeledSo_322 : decode cL_isPeeledSo 322 = .ok (.imul, 1) := by decide +kernel
theorem dL_isPeeledSo_323 : decode cL_isPeeledSo 323 = .ok (.if_icmp .lt 7, 3) := by decide +kernel
theorem dL_isPeeledSo_326 : decode cL_isPeeledSo 326 = .ok (.iconst 1, 1) := by decide +kernel
theorem dL_isPeeledSo_327 : decode cL_isPeeledSo 327 = .ok (.goto 4, 3) := by decide +kernel
theorem dL_isPeeledSo_330 : decode cL_isPeeledSo 330 = .ok (.iconst 0, 1) := by decide +kernel
theorem dL_isPeeledSo_331 : decode cL_isPeeledSo 331 = .ok (.ireturn, 1) := by decide +kernel
set_option maxRecDepth 20000 in
theorem ggL_arePairsSo_L_together : GoodIn wsL_arePairsSo wsL_together := goodIn_ca (goodIn_ca (goodIn_r _ [4, 5, 6, 7, 8, 9, 10, 11, 12, 13, 14, 15, 16, 17, 18, 19, 20, 21, 22, 23, 24, 25, 26, 27, 28, 29, 30, 31, 32, 33, 34, 35, 36, 37, 38, 39, 40, 41, 42, 43, 44, 100, 101, 102, 103, 104, 105] (by decide +kernel) (by decide +kernel)) (goodIn_sub (fun _ h => List.mem_cons_of_mem _ (List.mem_append_left _ (List.mem_append_left _ (List.mem_append_right _ h)))) (by decide +kernel))) (goodIn_sub (fun _ h => List.mem_cons_of_mem _ (List.mem_append_left _ (List.mem_append_right _ h))) (by decide +kernel))
set_option maxRecDepth 20000 in
theorem gL_arePairsSo_L_together : GoodIn wsL_arePairsSo (va_wsS RL 87 yL_together wsL_together) := goodIn_app (goodIn_of _ (by decide +kernel)) ggL_arePairsSo_L_together
set_option maxRecDepth 20000 in
theorem ggL_arePairsSo_L_truss : GoodIn wsL_arePairsSo wsL_truss := goodIn_ca (goodIn_ca (goodIn_r _ [47, 5, 6, 7, 48, 49, 50, 11, 51, 52, 20, 21, 22, 23, 24, 25, 26, 53, 54, 55, 56, 13, 14, 41, 42, 43, 44, 27, 28, 29, 57, 58, 59, 60, 61, 62, 63, 64, 65, 66, 67, 68, 69, 70, 71, 72, 73, 74, 75, 76, 77, 78, 79, 80, 81, 100, 101, 102, 103, 104, 105] (by decide +kernel) (by decide +kernel)) (goodIn_sub (fun _ h => List.mem_cons_of_mem _ (List.mem_append_left _ (List.mem_append_right _ h))) (by decide +kernel))) (goodIn_sub (fun _ h => List.mem_cons_of_mem _ (List.mem_append_left _ (List.mem_append_left _ (List.mem_append_right _ h)))) (by decide +kernel))
set_option maxRecDepth 20000 in
theorem gL_arePairsSo_L_truss : GoodIn wsL_arePairsSo (va_wsS RL 103 yL_truss wsL_truss) := goodIn_app (goodIn_of _ (by decide +kernel)) ggL_arePairsSo_L_truss
set_option maxRecDepth 20000 in
theorem ggL_arePairsSo_X0_core : GoodIn wsL_arePairsSo wsX0_core := goodIn_ca (goodIn_r _ [85, 15, 20, 21, 22, 11, 23, 24, 25, 26, 100, 101, 102, 103, 104, 105] (by decide +kernel) (by decide +kernel)) (goodIn_sub (fun _ h => List.mem_cons_of_mem _ (List.mem_append_left _ (List.mem_append_right _ h))) (by decide +kernel))
set_option maxRecDepth 20000 in
theorem gL_arePairsSo_X0_core : GoodIn wsL_arePairsSo (wsV RL 71 RX0 yX0_core wsX0_core) := goodIn_app (goodIn_of _ (by decide +kernel)) ggL_arePairsSo_X0_core
set_option maxRecDepth 20000 in
theorem ggL_arePairsSo_X0_areJoined : GoodIn wsL_arePairsSo wsX0_areJoined := goodIn_ca (goodIn_r _ [89, 41, 20, 21, 22, 11, 23, 24, 25, 26, 42, 43, 44, 27, 28, 29, 100, 101, 102, 103, 104, 105] (by decide +kernel) (by decide +kernel)) (goodIn_sub (fun _ h => List.mem_cons_of_mem _ (List.mem_append_left _ (List.mem_append_right _ h))) (by decide +kernel))
set_option maxRecDepth 20000 in
theorem gL_arePairsSo_X0_areJoined : GoodIn wsL_arePairsSo (wsV RL 80 RX0 yX0_areJoined wsX0_areJoined) := goodIn_app (goodIn_of _ (by decide +kernel)) ggL_arePairsSo_X0_areJoined
set_option maxRecDepth 20000 in
theorem ggL_arePairsSo_X0_support : GoodIn wsL_arePairsSo wsX0_support := goodIn_ca (goodIn_ca (goodIn_r _ [93, 41, 20, 21, 22, 11, 23, 24, 25, 26, 53, 54, 55, 56, 13, 14, 42, 43, 44, 27, 28, 29, 69, 70, 71, 72, 73, 74, 75, 76, 77, 78, 100, 101, 102, 103, 104, 105] (by decide +kernel) (by decide +kernel)) (goodIn_sub (fun _ h => List.mem_cons_of_mem _ (List.mem_append_left _ (List.mem_append_right _ h))) (by decide +kernel))) (goodIn_sub (fun _ h => List.mem_cons_of_mem _ (List.mem_append_left _ (List.mem_append_left _ (List.mem_append_right _ h)))) (by decide +kernel))
set_option maxRecDepth 20000 in
theorem gL_arePairsSo_X0_support : GoodIn wsL_arePairsSo (wsV RL 105 RX0 yX0_support wsX0_support) := goodIn_app (goodIn_of _ (by decide +kernel)) ggL_arePairsSo_X0_support
set_option maxRecDepth 20000 in
theorem ggL_arePairsSo_X0_trussSize : GoodIn wsL_arePairsSo wsX0_trussSize := goodIn_ca (goodIn_r _ [97, 98, 99, 26, 52, 57, 58, 59, 11, 60, 41, 61, 62, 63, 64, 65, 66, 67, 68, 42, 43, 44, 27, 28, 29, 69, 70, 71, 72, 73, 74, 75, 76, 77, 78, 79, 80, 81, 100, 101, 102, 103, 104, 105] (by decide +kernel) (by decide +kernel)) (goodIn_sub (fun _ h => List.mem_cons_of_mem _ (List.mem_append_right _ h)) (by decide +kernel))
set_option maxRecDepth 20000 in
theorem gL_arePairsSo_X0_trussSize : GoodIn wsL_arePairsSo (wsV RL 108 RX0 yX0_trussSize wsX0_trussSize) := goodIn_app (goodIn_of _ (by decide +kernel)) ggL_arePairsSo_X0_trussSize
theorem dL_arePairsSo_0 : decode cL_arePairsSo 0 = .ok (.aload_n 0, 1) := by decide +kernel
theorem dL_arePairsSo_1 : decode cL_arePairsSo 1 = .ok (.iload_n 1, 1) := by decide +kernel
theorem dL_arePairsSo_2 : decode cL_arePairsSo 2 = .ok (.iload_n 2, 1) := by decide +kernel
theorem dL_arePairsSo_3 : decode cL_arePairsSo 3 = .ok (.invokestatic 87, 3) := by decide +kernel
theorem dL_arePairsSo_6 : decode cL_arePairsSo 6 = .ok (.istore_n 3, 1) := by decide +kernel
theorem dL_arePairsSo_7 : decode cL_arePairsSo 7 = .ok (.aload_n 0, 1) := by decide +kernel
theorem dL_arePairsSo_8 : decode cL_arePairsSo 8 = .ok (.iload_n 1, 1) := by decide +kernel
theorem dL_arePairsSo_9 : decode cL_arePairsSo 9 = .ok (.iload_n 2, 1) := by decide +kernel
theorem dL_arePairsSo_10 : decode cL_arePairsSo 10 = .ok (.invokestatic 103, 3) := by decide +kernel
theorem dL_arePairsSo_13 : decode cL_arePairsSo 13 = .ok (.istore 4, 2) := by decide +kernel
theorem dL_arePairsSo_15 : decode cL_arePairsSo 15 = .ok (.aload_n 0, 1) := by decide +kernel
theorem dL_arePairsSo_16 : decode cL_arePairsSo 16 = .ok (.iload_n 2, 1) := by decide +kernel
theorem dL_arePairsSo_17 : decode cL_arePairsSo 17 = .ok (.iload_n 1, 1) := by decide +kernel
theorem dL_arePairsSo_18 : decode cL_arePairsSo 18 = .ok (.invokestatic 87, 3) := by decide +kernel
theorem dL_arePairsSo_21 : decode cL_arePairsSo 21 = .ok (.iload_n 3, 1) := by decide +kernel
theorem dL_arePairsSo_22 : decode cL_arePairsSo 22 = .ok (.if_icmp .ne 56, 3) := by decide +kernel
theorem dL_arePairsSo_25 : decode cL_arePairsSo 25 = .ok (.iload_n 3, 1) := by decide +kernel
theorem dL_arePairsSo_26 : decode cL_arePairsSo 26 = .ok (.aload_n 0, 1) := by decide +kernel
theorem dL_arePairsSo_27 : decode cL_arePairsSo 27 = .ok (.iload_n 1, 1) := by decide +kernel
theorem dL_arePairsSo_28 : decode cL_arePairsSo 28 = .ok (.invokevirtual 71, 3) := by decide +kernel
theorem dL_arePairsSo_31 : decode cL_arePairsSo 31 = .ok (.if_icmp .gt 47, 3) := by decide +kernel
theorem dL_arePairsSo_34 : decode cL_arePairsSo 34 = .ok (.iload_n 3, 1) := by decide +kernel
theorem dL_arePairsSo_35 : decode cL_arePairsSo 35 = .ok (.aload_n 0, 1) := by decide +kernel
theorem dL_arePairsSo_36 : decode cL_arePairsSo 36 = .ok (.iload_n 2, 1) := by decide +kernel
theorem dL_arePairsSo_37 : decode cL_arePairsSo 37 = .ok (.invokevirtual 71, 3) := by decide +kernel
theorem dL_arePairsSo_40 : decode cL_arePairsSo 40 = .ok (.if_icmp .gt 38, 3) := by decide +kernel
theorem dL_arePairsSo_43 : decode cL_arePairsSo 43 = .ok (.aload_n 0, 1) := by decide +kernel
theorem dL_arePairsSo_44 : decode cL_arePairsSo 44 = .ok (.iload_n 2, 1) := by decide +kernel
theorem dL_arePairsSo_45 : decode cL_arePairsSo 45 = .ok (.iload_n 1, 1) := by decide +kernel
theorem dL_arePairsSo_46 : decode cL_arePairsSo 46 = .ok (.invokestatic 103, 3) := by decide +kernel
theorem dL_arePairsSo_49 : decode cL_arePairsSo 49 = .ok (.iload 4, 2) := by decide +kernel
theorem dL_arePairsSo_51 : decode cL_arePairsSo 51 = .ok (.if_icmp .ne 27, 3) := by decide +kernel
theorem dL_arePairsSo_54 : decode cL_arePairsSo 54 = .ok (.iload 4, 2) := by decide +kernel
theorem dL_arePairsSo_56 : decode cL_arePairsSo 56 = .ok (.iconst 2, 1) := by decide +kernel
theorem dL_arePairsSo_57 : decode cL_arePairsSo 57 = .ok (.if_icmp .lt 7, 3) := by decide +kernel
theorem dL_arePairsSo_60 : decode cL_arePairsSo 60 = .ok (.iconst 1, 1) := by decide +kernel
theorem dL_arePairsSo_61 : decode cL_arePairsSo 61 = .ok (.goto 4, 3) := by decide +kernel
theorem dL_arePairsSo_64 : decode cL_arePairsSo 64 = .ok (.iconst 0, 1) := by decide +kernel
theorem dL_arePairsSo_65 : decode cL_arePairsSo 65 = .ok (.aload_n 0, 1) := by decide +kernel
theorem dL_arePairsSo_66 : decode cL_arePairsSo 66 = .ok (.iload_n 1, 1) := by decide +kernel
theorem dL_arePairsSo_67 : decode cL_arePairsSo 67 = .ok (.iload_n 2, 1) := by decide +kernel
theorem dL_arePairsSo_68 : decode cL_arePairsSo 68 = .ok (.invokevirtual 80, 3) := by decide +kernel
theorem dL_arePairsSo_71 : decode cL_arePairsSo 71 = .ok (.if_icmp .ne 7, 3) := by decide +kernel
theorem dL_arePairsSo_74 : decode cL_arePairsSo 74 = .ok (.iconst 1, 1) := by decide +kernel
theorem dL_arePairsSo_75 : decode cL_arePairsSo 75 = .ok (.goto 4, 3) := by decide +kernel
theorem dL_arePairsSo_78 : decode cL_arePairsSo 78 = .ok (.iconst 0, 1) := by decide +kernel
theorem dL_arePairsSo_79 : decode cL_arePairsSo 79 = .ok (.istore 5, 2) := by decide +kernel
theorem dL_arePairsSo_81 : decode cL_arePairsSo 81 = .ok (.iload 5, 2) := by decide +kernel
theorem dL_arePairsSo_83 : decode cL_arePairsSo 83 = .ok (.ifCond .eq 105, 3) := by decide +kernel
theorem dL_arePairsSo_86 : decode cL_arePairsSo 86 = .ok (.iload 4, 2) := by decide +kernel
theorem dL_arePairsSo_88 : decode cL_arePairsSo 88 = .ok (.iconst 2, 1) := by decide +kernel
theorem dL_arePairsSo_89 : decode cL_arePairsSo 89 = .ok (.if_icmp .lt 99, 3) := by decide +kernel
theorem dL_arePairsSo_92 : decode cL_arePairsSo 92 = .ok (.aload_n 0, 1) := by decide +kernel
theorem dL_arePairsSo_93 : decode cL_arePairsSo 93 = .ok (.iload_n 1, 1) := by decide +kernel
theorem dL_arePairsSo_94 : decode cL_arePairsSo 94 = .ok (.invokevirtual 71, 3) := by decide +kernel
theorem dL_arePairsSo_97 : decode cL_arePairsSo 97 = .ok (.aload_n 0, 1) := by decide +kernel
theorem dL_arePairsSo_98 : decode cL_arePairsSo 98 = .ok (.iload_n 2, 1) := by decide +kernel
theorem dL_arePairsSo_99 : decode cL_arePairsSo 99 = .ok (.invokevirtual 71, 3) := by decide +kernel
theorem dL_arePairsSo_102 : decode cL_arePairsSo 102 = .ok (.if_icmp .ge 11, 3) := by decide +kernel
theorem dL_arePairsSo_105 : decode cL_arePairsSo 105 = .ok (.aload_n 0, 1) := by decide +kernel
theorem dL_arePairsSo_106 : decode cL_arePairsSo 106 = .ok (.iload_n 1, 1) := by decide +kernel
theorem dL_arePairsSo_107 : decode cL_arePairsSo 107 = .ok (.invokevirtual 71, 3) := by decide +kernel
theorem dL_arePairsSo_110 : decode cL_arePairsSo 110 = .ok (.goto 8, 3) := by decide +kernel
theorem dL_arePairsSo_113 : decode cL_arePairsSo 113 = .ok (.aload_n 0, 1) := by decide +kernel
theorem dL_arePairsSo_114 : decode cL_arePairsSo 114 = .ok (.iload_n 2, 1) := by decide +kernel
theorem dL_arePairsSo_115 : decode cL_arePairsSo 115 = .ok (.invokevirtual 71, 3) := by decide +kernel
theorem dL_arePairsSo_118 : decode cL_arePairsSo 118 = .ok (.istore 6, 2) := by decide +kernel
theorem dL_arePairsSo_120 : decode cL_arePairsSo 120 = .ok (.iload_n 3, 1) := by decide +kernel
theorem dL_arePairsSo_121 : decode cL_arePairsSo 121 = .ok (.iload 6, 2) := by decide +kernel
theorem dL_arePairsSo_123 : decode cL_arePairsSo 123 = .ok (.if_icmp .ne 62, 3) := by decide +kernel
theorem dL_arePairsSo_126 : decode cL_arePairsSo 126 = .ok (.iload 4, 2) := by decide +kernel
theorem dL_arePairsSo_128 : decode cL_arePairsSo 128 = .ok (.iconst 1, 1) := by decide +kernel
theorem dL_arePairsSo_129 : decode cL_arePairsSo 129 = .ok (.isub, 1) := by decide +kernel
theorem dL_arePairsSo_130 : decode cL_arePairsSo 130 = .ok (.iload 6, 2) := by decide +kernel
theorem dL_arePairsSo_132 : decode cL_arePairsSo 132 = .ok (.if_icmp .gt 53, 3) := by decide +kernel
theorem dL_arePairsSo_135 : decode cL_arePairsSo 135 = .ok (.iload 4, 2) := by decide +kernel
theorem dL_arePairsSo_137 : decode cL_arePairsSo 137 = .ok (.iconst 2, 1) := by decide +kernel
theorem dL_arePairsSo_138 : decode cL_arePairsSo 138 = .ok (.isub, 1) := by decide +kernel
theorem dL_arePairsSo_139 : decode cL_arePairsSo 139 = .ok (.aload_n 0, 1) := by decide +kernel
theorem dL_arePairsSo_140 : decode cL_arePairsSo 140 = .ok (.iload_n 1, 1) := by decide +kernel
theorem dL_arePairsSo_141 : decode cL_arePairsSo 141 = .ok (.iload_n 2, 1) := by decide +kernel
theorem dL_arePairsSo_142 : decode cL_arePairsSo 142 = .ok (.invokevirtual 105, 3) := by decide +kernel
theorem dL_arePairsSo_145 : decode cL_arePairsSo 145 = .ok (.if_icmp .gt 40, 3) := by decide +kernel
theorem dL_arePairsSo_148 : decode cL_arePairsSo 148 = .ok (.aload_n 0, 1) := by decide +kernel
theorem dL_arePairsSo_149 : decode cL_arePairsSo 149 = .ok (.iload_n 1, 1) := by decide +kernel
theorem dL_arePairsSo_150 : decode cL_arePairsSo 150 = .ok (.iload_n 2, 1) := by decide +kernel
theorem dL_arePairsSo_151 : decode cL_arePairsSo 151 = .ok (.invokevirtual 105, 3) := by decide +kernel
theorem dL_arePairsSo_154 : decode cL_arePairsSo 154 = .ok (.aload_n 0, 1) := by decide +kernel
theorem dL_arePairsSo_155 : decode cL_arePairsSo 155 = .ok (.iload_n 2, 1) := by decide +kernel
theorem dL_arePairsSo_156 : decode cL_arePairsSo 156 = .ok (.iload_n 1, 1) := by decide +kernel
theorem dL_arePairsSo_157 : decode cL_arePairsSo 157 = .ok (.invokevirtual 105, 3) := by decide +kernel
theorem dL_arePairsSo_160 : decode cL_arePairsSo 160 = .ok (.if_icmp .ne 25, 3) := by decide +kernel
theorem dL_arePairsSo_163 : decode cL_arePairsSo 163 = .ok (.aload_n 0, 1) := by decide +kernel
theorem dL_arePairsSo_164 : decode cL_arePairsSo 164 = .ok (.iload 4, 2) := by decide +kernel
theorem dL_arePairsSo_166 : decode cL_arePairsSo 166 = .ok (.invokevirtual 108, 3) := by decide +kernel
theorem dL_arePairsSo_169 : decode cL_arePairsSo 169 = .ok (.iload 4, 2) := by decide +kernel
theorem dL_arePairsSo_171 : decode cL_arePairsSo 171 = .ok (.iload 4, 2) := by decide +kernel
theorem dL_arePairsSo_173 : decode cL_arePairsSo 173 = .ok (.iconst 1, 1) := by decide +kernel
theorem dL_arePairsSo_174 : decode cL_arePairsSo 174 = .ok (.isub, 1) := by decide +kernel
theorem dL_arePairsSo_175 : decode cL_arePairsSo 175 = .ok (.imul, 1) := by decide +kernel
theorem dL_arePairsSo_176 : decode cL_arePairsSo 176 = .ok (.iconst 2, 1) := by decide +kernel
theorem dL_arePairsSo_177 : decode cL_arePairsSo 177 = .ok (.idiv, 1) := by decide +kernel
theorem dL_arePairsSo_178 : decode cL_arePairsSo 178 = .ok (.if_icmp .lt 7, 3) := by decide +kernel
theorem dL_arePairsSo_181 : decode cL_arePairsSo 181 = .ok (.iconst 1, 1) := by decide +kernel
theorem dL_arePairsSo_182 : decode cL_arePairsSo 182 = .ok (.goto 4, 3) := by decide +kernel
theorem dL_arePairsSo_185 : decode cL_arePairsSo 185 = .ok (.iconst 0, 1) := by decide +kernel
theorem dL_arePairsSo_186 : decode cL_arePairsSo 186 = .ok (.istore 5, 2) := by decide +kernel
theorem dL_arePairsSo_188 : decode cL_arePairsSo 188 = .ok (.iload 5, 2) := by decide +kernel
theorem dL_arePairsSo_190 : decode cL_arePairsSo 190 = .ok (.ireturn, 1) := by decide +kernel
set_option maxRecDepth 20000 in
theorem ggL_areCoresSo_X0_degeneracy : GoodIn wsL_areCoresSo wsX0_degeneracy := goodIn_r _ [5, 6, 7, 8, 9, 10, 11, 95, 96, 97, 98, 99, 100] (by decide +kernel) (by decide +kernel)
set_option maxRecDepth 20000 in
theorem gL_areCoresSo_X0_degeneracy : GoodIn wsL_areCoresSo (wsV RL 65 RX0 yX0_degeneracy wsX0_degeneracy) := goodIn_app (goodIn_of _ (by decide +kernel)) ggL_areCoresSo_X0_degeneracy
set_option maxRecDepth 20000 in
theorem ggL_areCoresSo_X0_coreSize : GoodIn wsL_areCoresSo wsX0_coreSize := goodIn_ca (goodIn_r _ [15, 16, 17, 4, 18, 19, 20, 21, 22, 23, 24, 6, 7, 25, 26, 27, 28, 29, 30, 31, 32, 33, 34, 35, 36, 37, 38, 39, 40, 95, 96, 97, 98, 99, 100] (by decide +kernel) (by decide +kernel)) (goodIn_sub (fun _ h => List.mem_cons_of_mem _ (List.mem_append_right _ h)) (by decide +kernel))
set_option maxRecDepth 20000 in
theorem gL_areCoresSo_X0_coreSize : GoodIn wsL_areCoresSo (wsV RL 111 RX0 yX0_coreSize wsX0_coreSize) := goodIn_app (goodIn_of _ (by decide +kernel)) ggL_areCoresSo_X0_coreSize
set_option maxRecDepth 20000 in
theorem ggL_areCoresSo_X0_nodes : GoodIn wsL_areCoresSo wsX0_nodes := goodIn_r _ [44, 6, 95, 96, 97, 98, 99, 100] (by decide +kernel) (by decide +kernel)
set_option maxRecDepth 20000 in
theorem gL_areCoresSo_X0_nodes : GoodIn wsL_areCoresSo (wsV RL 45 RX0 yX0_nodes wsX0_nodes) := goodIn_app (goodIn_of _ (by decide +kernel)) ggL_areCoresSo_X0_nodes
set_option maxRecDepth 20000 in
theorem ggL_areCoresSo_X0_communities : GoodIn wsL_areCoresSo wsX0_communities := goodIn_ca (goodIn_r _ [48, 16, 17, 4, 18, 19, 20, 21, 22, 23, 24, 6, 7, 25, 26, 27, 28, 29, 30, 49, 50, 51, 52, 53, 54, 55, 56, 57, 58, 59, 60, 95, 96, 97, 98, 99, 100] (by decide +kernel) (by decide +kernel)) (goodIn_sub (fun _ h => List.mem_cons_of_mem _ (List.mem_append_right _ h)) (by decide +kernel))
set_option maxRecDepth 20000 in
theorem gL_areCoresSo_X0_communities : GoodIn wsL_areCoresSo (wsV RL 114 RX0 yX0_communities wsX0_communities) := goodIn_app (goodIn_of _ (by decide +kernel)) ggL_areCoresSo_X0_communities
set_option maxRecDepth 20000 in
theorem ggL_areCoresSo_X0_trussSize : GoodIn wsL_areCoresSo wsX0_trussSize := goodIn_ca (goodIn_r _ [64, 19, 20, 6, 65, 66, 67, 68, 4, 69, 60, 70, 71, 72, 73, 74, 75, 76, 77, 53, 54, 55, 28, 29, 30, 31, 32, 33, 34, 35, 36, 37, 38, 39, 40, 78, 79, 80, 95, 96, 97, 98, 99, 100] (by decide +kernel) (by decide +kernel)) (goodIn_sub (fun _ h => List.mem_cons_of_mem _ (List.mem_append_right _ h)) (by decide +kernel))
set_option maxRecDepth 20000 in
theorem gL_areCoresSo_X0_trussSize : GoodIn wsL_areCoresSo (wsV RL 108 RX0 yX0_trussSize wsX0_trussSize) := goodIn_app (goodIn_of _ (by decide +kernel)) ggL_areCoresSo_X0_trussSize
set_option maxRecDepth 20000 in
theorem ggL_areCoresSo_X0_edges : GoodIn wsL_areCoresSo wsX0_edges := goodIn_r _ [84, 85, 95, 96, 97, 98, 99, 100] (by decide +kernel) (by decide +kernel)
set_option maxRecDepth 20000 in
theorem gL_areCoresSo_X0_edges : GoodIn wsL_areCoresSo (wsV RL 59 RX0 yX0_edges wsX0_edges) := goodIn_app (goodIn_of _ (by decide +kernel)) ggL_areCoresSo_X0_edges
set_option maxRecDepth 20000 in
theorem ggL_areCoresSo_X0_hierarchy : GoodIn wsL_areCoresSo wsX0_hierarchy := goodIn_r _ [89, 90, 2, 3, 4, 5, 6, 7, 8, 9, 10, 11, 21, 22, 23, 24, 25, 26, 27, 28, 29, 30, 91, 92, 93, 94, 49, 50, 51, 52, 53, 54, 55, 56, 57, 58, 59, 60, 95, 96, 97, 98, 99, 100] (by decide +kernel) (by decide +kernel)
set_option maxRecDepth 20000 in
theorem gL_areCoresSo_X0_hierarchy : GoodIn wsL_areCoresSo (wsV RL 117 RX0 yX0_hierarchy wsX0_hierarchy) := goodIn_app (goodIn_of _ (by decide +kernel)) ggL_areCoresSo_X0_hierarchy
theorem dL_areCoresSo_0 : decode cL_areCoresSo 0 = .ok (.aload_n 0, 1) := by decide +kernel
theorem dL_areCoresSo_1 : decode cL_areCoresSo 1 = .ok (.invokevirtual 65, 3) := by decide +kernel
theorem dL_areCoresSo_4 : decode cL_areCoresSo 4 = .ok (.istore_n 1, 1) := by decide +kernel
theorem dL_areCoresSo_5 : decode cL_areCoresSo 5 = .ok (.aload_n 0, 1) := by decide +kernel
theorem dL_areCoresSo_6 : decode cL_areCoresSo 6 = .ok (.iconst 0, 1) := by decide +kernel
theorem dL_areCoresSo_7 : decode cL_areCoresSo 7 = .ok (.invokevirtual 111, 3) := by decide +kernel
theorem dL_areCoresSo_10 : decode cL_areCoresSo 10 = .ok (.aload_n 0, 1) := by decide +kernel
theorem dL_areCoresSo_11 : decode cL_areCoresSo 11 = .ok (.invokevirtual 45, 3) := by decide +kernel
theorem dL_areCoresSo_14 : decode cL_areCoresSo 14 = .ok (.if_icmp .ne 67, 3) := by decide +kernel
theorem dL_areCoresSo_17 : decode cL_areCoresSo 17 = .ok (.aload_n 0, 1) := by decide +kernel
theorem dL_areCoresSo_18 : decode cL_areCoresSo 18 = .ok (.iload_n 1, 1) := by decide +kernel
theorem dL_areCoresSo_19 : decode cL_areCoresSo 19 = .ok (.iconst 1, 1) := by decide +kernel
theorem dL_areCoresSo_20 : decode cL_areCoresSo 20 = .ok (.iadd, 1) := by decide +kernel
theorem dL_areCoresSo_21 : decode cL_areCoresSo 21 = .ok (.invokevirtual 111, 3) := by decide +kernel
theorem dL_areCoresSo_24 : decode cL_areCoresSo 24 = .ok (.ifCond .ne 57, 3) := by decide +kernel
theorem dL_areCoresSo_27 : decode cL_areCoresSo 27 = .ok (.aload_n 0, 1) := by decide +kernel
theorem dL_areCoresSo_28 : decode cL_areCoresSo 28 = .ok (.invokevirtual 45, 3) := by decide +kernel
theorem dL_areCoresSo_31 : decode cL_areCoresSo 31 = .ok (.ifCond .eq 12, 3) := by decide +kernel
theorem dL_areCoresSo_34 : decode cL_areCoresSo 34 = .ok (.aload_n 0, 1) := by decide +kernel
theorem dL_areCoresSo_35 : decode cL_areCoresSo 35 = .ok (.iload_n 1, 1) := by decide +kernel
theorem dL_areCoresSo_36 : decode cL_areCoresSo 36 = .ok (.invokevirtual 111, 3) := by decide +kernel
theorem dL_areCoresSo_39 : decode cL_areCoresSo 39 = .ok (.iload_n 1, 1) := by decide +kernel
theorem dL_areCoresSo_40 : decode cL_areCoresSo 40 = .ok (.if_icmp .le 41, 3) := by decide +kernel
theorem dL_areCoresSo_43 : decode cL_areCoresSo 43 = .ok (.aload_n 0, 1) := by decide +kernel
theorem dL_areCoresSo_44 : decode cL_areCoresSo 44 = .ok (.iload_n 1, 1) := by decide +kernel
theorem dL_areCoresSo_45 : decode cL_areCoresSo 45 = .ok (.iconst 1, 1) := by decide +kernel
theorem dL_areCoresSo_46 : decode cL_areCoresSo 46 = .ok (.iadd, 1) := by decide +kernel
theorem dL_areCoresSo_47 : decode cL_areCoresSo 47 = .ok (.invokevirtual 114, 3) := by decide +kernel
theorem dL_areCoresSo_50 : decode cL_areCoresSo 50 = .ok (.ifCond .ne 31, 3) := by decide +kernel
theorem dL_areCoresSo_53 : decode cL_areCoresSo 53 = .ok (.aload_n 0, 1) := by decide +kernel
theorem dL_areCoresSo_54 : decode cL_areCoresSo 54 = .ok (.iconst 2, 1) := by decide +kernel
theorem dL_areCoresSo_55 : decode cL_areCoresSo 55 = .ok (.invokevirtual 108, 3) := by decide +kernel
theorem dL_areCoresSo_58 : decode cL_areCoresSo 58 = .ok (.aload_n 0, 1) := by decide +kernel
theorem dL_areCoresSo_59 : decode cL_areCoresSo 59 = .ok (.invokevirtual 59, 3) := by decide +kernel
theorem dL_areCoresSo_62 : decode cL_areCoresSo 62 = .ok (.if_icmp .ne 19, 3) := by decide +kernel
theorem dL_areCoresSo_65 : decode cL_areCoresSo 65 = .ok (.aload_n 0, 1) := by decide +kernel
theorem dL_areCoresSo_66 : decode cL_areCoresSo 66 = .ok (.invokevirtual 117, 3) := by decide +kernel
theorem dL_areCoresSo_69 : decode cL_areCoresSo 69 = .ok (.aload_n 0, 1) := by decide +kernel
theorem dL_areCoresSo_70 : decode cL_areCoresSo 70 = .ok (.iconst 0, 1) := by decide +kernel
theorem dL_areCoresSo_71 : decode cL_areCoresSo 71 = .ok (.invokevirtual 114, 3) := by decide +kernel
theorem dL_areCoresSo_74 : decode cL_areCoresSo 74 = .ok (.if_icmp .lt 7, 3) := by decide +kernel
theorem dL_areCoresSo_77 : decode cL_areCoresSo 77 = .ok (.iconst 1, 1) := by decide +kernel
theorem dL_areCoresSo_78 : decode cL_areCoresSo 78 = .ok (.goto 4, 3) := by decide +kernel
theorem dL_areCoresSo_81 : decode cL_areCoresSo 81 = .ok (.iconst 0, 1) := by decide +kernel
theorem dL_areCoresSo_82 : decode cL_areCoresSo 82 = .ok (.istore_n 2, 1) := by decide +kernel
theorem dL_areCoresSo_83 : decode cL_areCoresSo 83 = .ok (.iconst 0, 1) := by decide +kernel
theorem dL_areCoresSo_84 : decode cL_areCoresSo 84 = .ok (.istore_n 3, 1) := by decide +kernel
theorem dL_areCoresSo_85 : decode cL_areCoresSo 85 = .ok (.iload_n 3, 1) := by decide +kernel
theorem dL_areCoresSo_86 : decode cL_areCoresSo 86 = .ok (.iload_n 1, 1) := by decide +kernel
theorem dL_areCoresSo_87 : decode cL_areCoresSo 87 = .ok (.if_icmp .gt 63, 3) := by decide +kernel
theorem dL_areCoresSo_90 : decode cL_areCoresSo 90 = .ok (.iload_n 2, 1) := by decide +kernel
theorem dL_areCoresSo_91 : decode cL_areCoresSo 91 = .ok (.ifCond .eq 51, 3) := by decide +kernel
theorem dL_areCoresSo_94 : decode cL_areCoresSo 94 = .ok (.aload_n 0, 1) := by decide +kernel
theorem dL_areCoresSo_95 : decode cL_areCoresSo 95 = .ok (.iload_n 3, 1) := by decide +kernel
theorem dL_areCoresSo_96 : decode cL_areCoresSo 96 = .ok (.invokevirtual 111, 3) := by decide +kernel
theorem dL_areCoresSo_99 : decode cL_areCoresSo 99 = .ok (.aload_n 0, 1) := by decide +kernel
theorem dL_areCoresSo_100 : decode cL_areCoresSo 100 = .ok (.iload_n 3, 1) := by decide +kernel
theorem dL_areCoresSo_101 : decode cL_areCoresSo 101 = .ok (.iconst 1, 1) := by decide +kernel
theorem dL_areCoresSo_102 : decode cL_areCoresSo 102 = .ok (.iadd, 1) := by decide +kernel
theorem dL_areCoresSo_103 : decode cL_areCoresSo 103 = .ok (.invokevirtual 111, 3) := by decide +kernel
theorem dL_areCoresSo_106 : decode cL_areCoresSo 106 = .ok (.if_icmp .lt 36, 3) := by decide +kernel
theorem dL_areCoresSo_109 : decode cL_areCoresSo 109 = .ok (.aload_n 0, 1) := by decide +kernel
theorem dL_areCoresSo_110 : decode cL_areCoresSo 110 = .ok (.iload_n 3, 1) := by decide +kernel
theorem dL_areCoresSo_111 : decode cL_areCoresSo 111 = .ok (.iconst 2, 1) := by decide +kernel
theorem dL_areCoresSo_112 : decode cL_areCoresSo 112 = .ok (.iadd, 1) := by decide +kernel
theorem dL_areCoresSo_113 : decode cL_areCoresSo 113 = .ok (.invokevirtual 108, 3) := by decide +kernel
theorem dL_areCoresSo_116 : decode cL_areCoresSo 116 = .ok (.aload_n 0, 1) := by decide +kernel
theorem dL_areCoresSo_117 : decode cL_areCoresSo 117 = .ok (.iload_n 3, 1) := by decide +kernel
theorem dL_areCoresSo_118 : decode cL_areCoresSo 118 = .ok (.iconst 3, 1) := by decide +kernel
theorem dL_areCoresSo_119 : decode cL_areCoresSo 119 = .ok (.iadd, 1) := by decide +kernel
theorem dL_areCoresSo_120 : decode cL_areCoresSo 120 = .ok (.invokevirtual 108, 3) := by decide +kernel
theorem dL_areCoresSo_123 : decode cL_areCoresSo 123 = .ok (.if_icmp .lt 19, 3) := by decide +kernel
theorem dL_areCoresSo_126 : decode cL_areCoresSo 126 = .ok (.aload_n 0, 1) := by decide +kernel
theorem dL_areCoresSo_127 : decode cL_areCoresSo 127 = .ok (.invokevirtual 117, 3) := by decide +kernel
theorem dL_areCoresSo_130 : decode cL_areCoresSo 130 = .ok (.aload_n 0, 1) := by decide +kernel
theorem dL_areCoresSo_131 : decode cL_areCoresSo 131 = .ok (.iload_n 3, 1) := by decide +kernel
theorem dL_areCoresSo_132 : decode cL_areCoresSo 132 = .ok (.invokevirtual 114, 3) := by decide +kernel
theorem dL_areCoresSo_135 : decode cL_areCoresSo 135 = .ok (.if_icmp .lt 7, 3) := by decide +kernel
theorem dL_areCoresSo_138 : decode cL_areCoresSo 138 = .ok (.iconst 1, 1) := by decide +kernel
theorem dL_areCoresSo_139 : decode cL_areCoresSo 139 = .ok (.goto 4, 3) := by decide +kernel
theorem dL_areCoresSo_142 : decode cL_areCoresSo 142 = .ok (.iconst 0, 1) := by decide +kernel
theorem dL_areCoresSo_143 : decode cL_areCoresSo 143 = .ok (.istore_n 2, 1) := by decide +kernel
theorem dL_areCoresSo_144 : decode cL_areCoresSo 144 = .ok (.iinc 3 1, 3) := by decide +kernel
theorem dL_areCoresSo_147 : decode cL_areCoresSo 147 = .ok (.goto (-62), 3) := by decide +kernel
theorem dL_areCoresSo_150 : decode cL_areCoresSo 150 = .ok (.iload_n 2, 1) := by decide +kernel
theorem dL_areCoresSo_151 : decode cL_areCoresSo 151 = .ok (.ireturn, 1) := by decide +kernel
end
section
/-! ===== Int32 by its bits: bt x i ===== -/
def bt (x : Int32) (i : Nat) : Bool := x.toBitVec.getLsbD i
theorem b_ext {x y : Int32} (h : ∀ i, i < 32 → bt x i = bt y i) : x = y := Int32.toBitVec_inj.mp (BitVec.eq_of_getLsbD_eq (fun i hi => h i hi))
theorem b_or (x y : Int32) (i : Nat) : bt (x ||| y) i = (bt x i || bt y i) := by unfold bt; rw [Int32.toBitVec_or, BitVec.getLsbD_or]
theorem b_and (x y : Int32) (i : Nat) : bt (x &&& y) i = (bt x i && bt y i) := by unfold bt; rw [Int32.toBitVec_and, BitVec.getLsbD_and]
theorem b_xor (x y : Int32) (i : Nat) : bt (x ^^^ y) i = (bt x i ^^ bt y i) := by unfold bt; rw [Int32.toBitVec_xor, BitVec.getLsbD_xor]
theorem b_big {x : Int32} {i : Nat} (h : 32 ≤ i) : bt x i = false := BitVec.getLsbD_of_ge _ _ h
theorem b_m1 : ∀ i, i < 32 → bt (-1) i = true := by decide +kernel
theorem b_0 (i : Nat) : bt 0 i = false := BitVec.getLsbD_zero
/-! ===== how many places have a property ===== -/
def fb_ct (p : Nat → Bool) : Nat → Nat
  | 0 => 0
  | n + 1 => fb_ct p n + (if p n then 1 else 0)
theorem fb_ct_succ (p : Nat → Bool) (n : Nat) : fb_ct p (n + 1) = fb_ct p n + (if p n then 1 else 0) := rfl
theorem fb_ct_le (p : Nat → Bool) : ∀ n, fb_ct p n ≤ n
  | 0 => Nat.le_refl _
  | n + 1 => by
    have h := fb_ct_le p n
    rw [fb_ct_succ]
    split <;> omega
theorem fb_ct_cong {p q : Nat → Bool} : ∀ {n : Nat}, (∀ k, k < n → p k = q k) → fb_ct p n = fb_ct q n
  | 0, _ => rfl
  | n + 1, h => by
    rw [fb_ct_succ, fb_ct_succ, fb_ct_cong (fun k hk => h k (by omega)), h n (by omega)]
/-- one place changed -/
theorem fb_ct_out (p : Nat → Bool) (b : Bool) {i n : Nat} (h : n ≤ i) : fb_ct (fun k => if k = i then b else p k) n = fb_ct p n :=
  fb_ct_cong fun k hk => if_neg (by omega)
theorem fb_ct_upd (p : Nat → Bool) (b : Bool) {i : Nat} : ∀ {n : Nat}, i < n → fb_ct (fun k => if k = i then b else p k) n + (if p i then 1 else 0) = fb_ct p n + (if b then 1 else 0)
  | 0, h => absurd h (Nat.not_lt_zero i)
  | n + 1, h => by
    rw [fb_ct_succ, fb_ct_succ]
    rcases Nat.lt_or_ge i n with q | q
    · have := fb_ct_upd p b q
      have e : (if n = i then b else p n) = p n := if_neg (by omega)
      rw [e]
      omega
    · have e : i = n := by omega
      subst e
      rw [fb_ct_out p b (Nat.le_refl _)]
      simp only [if_true]
      omega
theorem fb_ct_sub {p q : Nat → Bool} : ∀ {n : Nat}, (∀ k, k < n → p k = true → q k = true) → fb_ct p n ≤ fb_ct q n
  | 0, _ => Nat.le_refl _
  | n + 1, h => by
    have h1 := fb_ct_sub (n := n) (p := p) (q := q) (fun k hk => h k (by omega))
    have h2 := h n (by omega)
    rw [fb_ct_succ, fb_ct_succ]
    cases hp : p n <;> cases hq : q n <;> simp_all <;> omega
theorem fb_ct_split (p : Nat → Bool) (m : Nat) : ∀ n, fb_ct p (m + n) = fb_ct p m + fb_ct (fun k => p (m + k)) n
  | 0 => rfl
  | n + 1 => by
    have h := fb_ct_split p m n
    show fb_ct p (m + n + 1) = _
    rw [fb_ct_succ, fb_ct_succ, h, Nat.add_assoc]
theorem fb_ct_zero {p : Nat → Bool} : ∀ {n : Nat}, fb_ct p n = 0 ↔ ∀ k, k < n → p k = false
  | 0 => ⟨fun _ k hk => absurd hk (Nat.not_lt_zero k), fun _ => rfl⟩
  | n + 1 => by
    have h := fb_ct_zero (p := p) (n := n)
    rw [fb_ct_succ]
    constructor
    · intro e k hk
      have e1 : fb_ct p n = 0 := by omega
      rcases Nat.lt_or_ge k n with q | q
      · exact h.mp e1 k q
      · have ek : k = n := by omega
        subst ek
        cases hp : p k
        · rfl
        · simp [hp] at e
    · intro a
      rw [h.mpr (fun k hk => a k (by omega)), a n (by omega)]
      rfl
theorem fb_ct_pos {p : Nat → Bool} {n : Nat} : 0 < fb_ct p n ↔ ∃ k, k < n ∧ p k = true := by
  constructor
  · intro h
    refine Classical.byContradiction fun hx => ?_
    have := fb_ct_zero.mpr (fun k hk => by
      cases hp : p k
      · rfl
      · exact absurd ⟨k, hk, hp⟩ hx : ∀ k, k < n → p k = false)
    omega
  · rintro ⟨k, hk, hp⟩
    rcases Nat.eq_zero_or_pos (fb_ct p n) with e | e
    · have := fb_ct_zero.mp e k hk
      rw [this] at hp
      cases hp
    · exact e
/-! ===== sums over a range: one place changed, parts, bounds ===== -/
def fb_sm (f : Nat → Nat) : Nat → Nat
  | 0 => 0
  | n + 1 => fb_sm f n + f n
theorem fb_sm_succ (f : Nat → Nat) (n : Nat) : fb_sm f (n + 1) = fb_sm f n + f n := rfl
theorem fb_sm_cong {f g : Nat → Nat} : ∀ {n : Nat}, (∀ k, k < n → f k = g k) → fb_sm f n = fb_sm g n
  | 0, _ => rfl
  | n + 1, h => by rw [fb_sm_succ, fb_sm_succ, fb_sm_cong (fun k hk => h k (by omega)), h n (by omega)]
theorem fb_sm_out (f : Nat → Nat) (v : Nat) {i n : Nat} (h : n ≤ i) : fb_sm (fun k => if k = i then v else f k) n = fb_sm f n :=
  fb_sm_cong fun k hk => if_neg (by omega)
theorem fb_sm_upd (f : Nat → Nat) (v : Nat) {i : Nat} : ∀ {n : Nat}, i < n → fb_sm (fun k => if k = i then v else f k) n + f i = fb_sm f n + v
  | 0, h => absurd h (Nat.not_lt_zero i)
  | n + 1, h => by
    rw [fb_sm_succ, fb_sm_succ]
    rcases Nat.lt_or_ge i n with q | q
    · have := fb_sm_upd f v q
      have e : (if n = i then v else f n) = f n := if_neg (by omega)
      rw [e]
      omega
    · have e : i = n := by omega
      subst e
      rw [fb_sm_out f v (Nat.le_refl _)]
      simp only [if_true]
      omega
theorem fb_sm_le {f g : Nat → Nat} : ∀ {n : Nat}, (∀ k, k < n → f k ≤ g k) → fb_sm f n ≤ fb_sm g n
  | 0, _ => Nat.le_refl _
  | n + 1, h => by
    have h1 := fb_sm_le (n := n) (f := f) (g := g) (fun k hk => h k (by omega))
    have h2 := h n (by omega)
    rw [fb_sm_succ, fb_sm_succ]
    omega
theorem fb_sm_const (c : Nat) : ∀ n, fb_sm (fun _ => c) n = n * c
  | 0 => by rw [Nat.zero_mul]; rfl
  | n + 1 => by rw [fb_sm_succ, fb_sm_const c n, Nat.succ_mul]
theorem fb_sm_bound {f : Nat → Nat} {c n : Nat} (h : ∀ k, k < n → f k ≤ c) : fb_sm f n ≤ n * c := by
  rw [← fb_sm_const c n]
  exact fb_sm_le h
/-! ===== sets of nodes as the bits of an int ===== -/
def zpop (x : Int32) : Nat := fb_ct (bt x) 32
def zsg (j : Nat) : Int32 := (1 : Int32) <<< (nI j &&& 31)
def zb (b : Bool) : Int32 := if b then 1 else 0
def zal (n : Nat) : Int32 := zsg n - 1
def zdl (x : Int32) (j : Nat) : Int32 := x &&& (zsg j ^^^ (-1))
def znt (x : Int32) : Int32 := x ^^^ (-1)
/-- every node of x lies below N -/
def zsub (x : Int32) (N : Nat) : Prop := ∀ i, bt x i = true → i < N
/-- x is a part of y -/
def zle (x y : Int32) : Prop := ∀ i, bt x i = true → bt y i = true
theorem b_sg0 : ∀ j, j < 32 → ∀ i, i < 32 → bt (zsg j) i = decide (i = j) := by decide +kernel
theorem b_sg {j : Nat} (hj : j < 32) (i : Nat) : bt (zsg j) i = decide (i = j) := by
  rcases Nat.lt_or_ge i 32 with h | h
  · exact b_sg0 j hj i h
  · rw [b_big h, decide_eq_false (by omega)]
theorem b_al0 : ∀ n, n < 21 → ∀ i, i < 32 → bt (zal n) i = decide (i < n) := by decide +kernel
theorem b_al {n : Nat} (hn : n ≤ 20) (i : Nat) : bt (zal n) i = decide (i < n) := by
  rcases Nat.lt_or_ge i 32 with h | h
  · exact b_al0 n (by omega) i h
  · rw [b_big h, decide_eq_false (by omega)]
theorem b_nt {x : Int32} {i : Nat} (h : i < 32) : bt (znt x) i = !bt x i := by
  unfold znt
  rw [b_xor, b_m1 i h]
  cases bt x i <;> rfl
theorem b_dif (x y : Int32) (i : Nat) : bt (x &&& znt y) i = (bt x i && !bt y i) := by
  rw [b_and]
  rcases Nat.lt_or_ge i 32 with h | h
  · rw [b_nt h]
  · rw [b_big h]; rfl
theorem b_dl {x : Int32} {j : Nat} (hj : j < 32) (i : Nat) : bt (zdl x j) i = (bt x i && !decide (i = j)) := by
  have h := b_dif x (zsg j) i
  rw [b_sg hj] at h
  exact h
theorem b_32 {x : Int32} {i : Nat} (h : bt x i = true) : i < 32 := by
  rcases Nat.lt_or_ge i 32 with q | q
  · exact q
  · rw [b_big q] at h; cases h
theorem set_ext {x y : Int32} (h : ∀ i, bt x i = true ↔ bt y i = true) : x = y := b_ext fun i _ => by
  have := h i
  cases hx : bt x i <;> cases hy : bt y i <;> simp_all
theorem le_rf (x : Int32) : zle x x := fun _ h => h
theorem le_tr {x y z : Int32} (h : zle x y) (h2 : zle y z) : zle x z := fun i q => h2 i (h i q)
theorem le_anti {x y : Int32} (h : zle x y) (h2 : zle y x) : x = y := set_ext fun i => ⟨h i, h2 i⟩
theorem le_andl (x y : Int32) : zle (x &&& y) x := fun i h => by rw [b_and, Bool.and_eq_true] at h; exact h.1
theorem le_andr (x y : Int32) : zle (x &&& y) y := fun i h => by rw [b_and, Bool.and_eq_true] at h; exact h.2
theorem le_and {x y z w : Int32} (h : zle x z) (h2 : zle y w) : zle (x &&& y) (z &&& w) := fun i q => by
  rw [b_and, Bool.and_eq_true] at q ⊢
  exact ⟨h i q.1, h2 i q.2⟩
theorem le_dl {x : Int32} {j : Nat} (hj : j < 32) : zle (zdl x j) x := fun i h => by
  rw [b_dl hj, Bool.and_eq_true] at h; exact h.1
theorem sub_le {x y : Int32} {N : Nat} (h : zle x y) (h2 : zsub y N) : zsub x N := fun i q => h2 i (h i q)
theorem sub_al {N : Nat} (hN : N ≤ 20) : zsub (zal N) N := fun i h => by rw [b_al hN] at h; exact of_decide_eq_true h
theorem le_al {x : Int32} {N : Nat} (hN : N ≤ 20) (h : zsub x N) : zle x (zal N) := fun i q => by rw [b_al hN]; exact decide_eq_true (h i q)
theorem pop_le {x y : Int32} (h : zle x y) : zpop x ≤ zpop y := fb_ct_sub fun k _ q => h k q
theorem pop_32 (x : Int32) : zpop x ≤ 32 := fb_ct_le _ 32
theorem pop_0 : zpop 0 = 0 := by decide +kernel
theorem pop_lt {x y : Int32} (h : zle x y) {j : Nat} (h1 : bt x j = false) (h2 : bt y j = true) : zpop x < zpop y := by
  have hj : j < 32 := b_32 h2
  have e : fb_ct (fun k => if k = j then true else bt x k) 32 + (if bt x j then 1 else 0) = zpop x + (if true then 1 else 0) := fb_ct_upd (bt x) true hj
  rw [h1] at e
  have e2 : fb_ct (fun k => if k = j then true else bt x k) 32 ≤ zpop y := fb_ct_sub fun k _ q => by
    by_cases hk : k = j
    · rw [hk]; exact h2
    · rw [if_neg hk] at q; exact h k q
  simp only [reduceIte, Bool.false_eq_true, Nat.add_zero] at e
  omega
theorem pop_dl {x : Int32} {j : Nat} (h : bt x j = true) : zpop (zdl x j) + 1 = zpop x := by
  have hj : j < 32 := b_32 h
  have e : fb_ct (fun k => if k = j then false else bt x k) 32 + (if bt x j then 1 else 0) = zpop x + (if false then 1 else 0) := fb_ct_upd (bt x) false hj
  rw [h] at e
  have e2 : zpop (zdl x j) = fb_ct (fun k => if k = j then false else bt x k) 32 := fb_ct_cong fun k _ => by
    rw [b_dl hj]
    by_cases hk : k = j
    · simp [hk]
    · simp [hk]
  rw [e2]
  simpa using e
theorem ct_all (N : Nat) : ∀ n, fb_ct (fun k => decide (k < N)) n = min n N
  | 0 => by simp [fb_ct]
  | n + 1 => by
    rw [fb_ct_succ, ct_all N n]
    by_cases h : n < N
    · simp [h]; omega
    · simp [h]; omega
theorem pop_al {N : Nat} (hN : N ≤ 20) : zpop (zal N) = N := by
  have : zpop (zal N) = fb_ct (fun k => decide (k < N)) 32 := fb_ct_cong fun k _ => b_al hN k
  rw [this, ct_all]
  omega
theorem pop_N {x : Int32} {N : Nat} (hN : N ≤ 20) (h : zsub x N) : zpop x ≤ N := by
  have := pop_le (le_al hN h)
  rwa [pop_al hN] at this
theorem pop_full {x y : Int32} (h : zle x y) (h2 : zpop y ≤ zpop x) : x = y := by
  refine le_anti h fun i hi => ?_
  cases hx : bt x i
  · have := pop_lt h hx hi; omega
  · rfl
theorem pop_ex {x : Int32} (h : 0 < zpop x) : ∃ i, bt x i = true := by
  obtain ⟨k, -, hk⟩ := fb_ct_pos.mp h
  exact ⟨k, hk⟩
theorem ne_0 {x : Int32} : x = 0 ↔ ∀ i, bt x i = false := ⟨fun h i => by rw [h, b_0], fun h => b_ext fun i _ => by rw [h, b_0]⟩
theorem zb_0 {b : Bool} : zb b = 0 ↔ b = false := by cases b <;> simp [zb]
/-- a set by its members -/
def zmk (p : Nat → Bool) : Nat → Int32
  | 0 => 0
  | n + 1 => if p n then zmk p n ||| zsg n else zmk p n
theorem b_mk (p : Nat → Bool) : ∀ {n : Nat}, n ≤ 32 → ∀ i, bt (zmk p n) i = (decide (i < n) && p i)
  | 0, _, i => by simp [zmk, b_0]
  | n + 1, h, i => by
    have ih := b_mk p (n := n) (by omega) i
    unfold zmk
    by_cases hp : p n = true
    · rw [if_pos hp, b_or, ih, b_sg (by omega)]
      by_cases hi : i = n
      · simp [hi, hp]
      · have : decide (i < n + 1) = decide (i < n) := by simp; omega
        rw [this]; simp [hi]
    · rw [if_neg hp, ih]
      by_cases hi : i = n
      · simp [hi, hp]
      · have : decide (i < n + 1) = decide (i < n) := by simp; omega
        rw [this]
theorem b_mkt (p : Nat → Bool) {n : Nat} (h : n ≤ 32) {i : Nat} : bt (zmk p n) i = true ↔ i < n ∧ p i = true := by
  rw [b_mk p h, Bool.and_eq_true, decide_eq_true_iff]
/-! ===== the JDK's count of bits ===== -/
def b1 (x : Nat) : Nat := x - (x / 2 &&& 21845)
def b2 (x : Nat) : Nat := (x &&& 13107) + (x / 4 &&& 13107)
def b3 (x : Nat) : Nat := (x + x / 16) &&& 3855
def a1 (x : Nat) : Nat := x - (x / 2 &&& 85)
def a2 (x : Nat) : Nat := (x &&& 51) + (x / 4 &&& 51)
def a3 (x : Nat) : Nat := (x + x / 16) &&& 15
def a123 (x : Nat) : Bool := decide (x / 2 &&& 85 ≤ x) && decide (a1 x < 256) && decide (a2 (a1 x) ≤ 68) && decide (a2 (a1 x) % 16 ≤ 4) && decide (a3 (a2 (a1 x)) ≤ 8) && decide (a3 (a2 (a1 x)) = fb_ct (fun i => x.testBit i) 8)
def ball (f : Nat → Bool) : Nat → Bool
  | 0 => true
  | n + 1 => f n && ball f n
theorem ball_ok {f : Nat → Bool} : ∀ {n : Nat}, ball f n = true → ∀ i, i < n → f i = true
  | 0, _, i, h => absurd h (Nat.not_lt_zero i)
  | n + 1, h, i, hi => by
    unfold ball at h
    rw [Bool.and_eq_true] at h
    rcases Nat.lt_or_ge i n with q | q
    · exact ball_ok h.2 i q
    · have : i = n := by omega
      rw [this]; exact h.1
theorem a123_ok : ball a123 256 = true := by decide +kernel
theorem land_sp (k : Nat) {h l a b : Nat} (hl : l < 2 ^ k) (hb : b < 2 ^ k) : (2 ^ k * h + l) &&& (2 ^ k * a + b) = 2 ^ k * (h &&& a) + (l &&& b) := by
  have hlb : l &&& b < 2 ^ k := Nat.and_lt_two_pow _ hb
  refine Nat.eq_of_testBit_eq fun j => ?_
  rw [Nat.testBit_and, Nat.testBit_two_pow_mul_add _ hl, Nat.testBit_two_pow_mul_add _ hb, Nat.testBit_two_pow_mul_add _ hlb]
  by_cases q : j < k
  · simp only [q, if_true, Nat.testBit_and]
  · simp only [q, if_false, Nat.testBit_and]
theorem b123_all {x : Nat} (hx : x < 65536) : x / 2 &&& 21845 ≤ x ∧ b1 x < 65536 ∧ b2 (b1 x) ≤ 17476 ∧ b2 (b1 x) % 16 ≤ 4 ∧ b3 (b2 (b1 x)) % 256 ≤ 8 ∧ b3 (b2 (b1 x)) / 256 ≤ 8 ∧ b3 (b2 (b1 x)) % 256 + b3 (b2 (b1 x)) / 256 = fb_ct (fun i => x.testBit i) 16 := by
  obtain ⟨h, l, hl, hh, rfl⟩ : ∃ h l, l < 256 ∧ h < 256 ∧ x = 2 ^ 8 * h + l := ⟨x / 256, x % 256, by omega, by omega, by omega⟩
  have ql := ball_ok a123_ok l hl
  have qh := ball_ok a123_ok h hh
  simp only [a123, Bool.and_eq_true, decide_eq_true_iff] at ql qh
  obtain ⟨⟨⟨⟨⟨l1, l2⟩, l3⟩, l4⟩, l5⟩, l6⟩ := ql
  obtain ⟨⟨⟨⟨⟨h1, h2⟩, h3⟩, h4⟩, h5⟩, h6⟩ := qh
  have e0 : (2 ^ 8 * h + l) / 2 &&& 21845 = 2 ^ 8 * (h / 2 &&& 85) + (l / 2 &&& 85) := by
    have e : (2 ^ 8 * h + l) / 2 = 2 ^ 8 * (h / 2) + (2 ^ 7 * (h % 2) + l / 2) := by omega
    have e3 : (2 ^ 7 * (h % 2) + l / 2) &&& 85 = l / 2 &&& 85 := by
      have := land_sp 7 (h := h % 2) (l := l / 2) (a := 0) (b := 85) (by omega) (by omega)
      simpa using this
    have := land_sp 8 (h := h / 2) (l := 2 ^ 7 * (h % 2) + l / 2) (a := 85) (b := 85) (by omega) (by omega)
    rw [e3] at this
    rw [e]
    exact this
  have e1 : b1 (2 ^ 8 * h + l) = 2 ^ 8 * a1 h + a1 l := by
    unfold b1 a1
    rw [e0]
    omega
  have e2 : b2 (2 ^ 8 * a1 h + a1 l) = 2 ^ 8 * a2 (a1 h) + a2 (a1 l) := by
    generalize a1 h = h at *
    generalize a1 l = l at *
    have e : (2 ^ 8 * h + l) / 4 = 2 ^ 8 * (h / 4) + (2 ^ 6 * (h % 4) + l / 4) := by omega
    have e3 : (2 ^ 6 * (h % 4) + l / 4) &&& 51 = l / 4 &&& 51 := by
      have := land_sp 6 (h := h % 4) (l := l / 4) (a := 0) (b := 51) (by omega) (by omega)
      simpa using this
    have e5 := land_sp 8 (h := h / 4) (l := 2 ^ 6 * (h % 4) + l / 4) (a := 51) (b := 51) (by omega) (by omega)
    have e6 := land_sp 8 (h := h) (l := l) (a := 51) (b := 51) (by omega) (by omega)
    rw [e3, ← e] at e5
    have e7 : (2 ^ 8 * h + l) / 4 &&& 13107 = 2 ^ 8 * (h / 4 &&& 51) + (l / 4 &&& 51) := e5
    have e8 : (2 ^ 8 * h + l) &&& 13107 = 2 ^ 8 * (h &&& 51) + (l &&& 51) := e6
    unfold b2 a2
    rw [e7, e8]
    omega
  have e3 : b3 (2 ^ 8 * a2 (a1 h) + a2 (a1 l)) = 2 ^ 8 * a3 (a2 (a1 h)) + a3 (a2 (a1 l)) := by
    generalize a2 (a1 h) = h at *
    generalize a2 (a1 l) = l at *
    have e : 2 ^ 8 * h + l + (2 ^ 8 * h + l) / 16 = 2 ^ 8 * (h + h / 16) + (2 ^ 4 * (h % 16 + (l + l / 16) / 16) + (l + l / 16) % 16) := by omega
    have e3 : (2 ^ 4 * (h % 16 + (l + l / 16) / 16) + (l + l / 16) % 16) &&& 15 = (l + l / 16) % 16 &&& 15 := by
      have := land_sp 4 (h := h % 16 + (l + l / 16) / 16) (l := (l + l / 16) % 16) (a := 0) (b := 15) (by omega) (by omega)
      simpa using this
    have e4 : (l + l / 16) &&& 15 = (l + l / 16) % 16 &&& 15 := by
      have := land_sp 4 (h := (l + l / 16) / 16) (l := (l + l / 16) % 16) (a := 0) (b := 15) (by omega) (by omega)
      have e5 : 2 ^ 4 * ((l + l / 16) / 16) + (l + l / 16) % 16 = l + l / 16 := by omega
      rw [e5] at this
      simpa using this
    have e5 := land_sp 8 (h := h + h / 16) (l := 2 ^ 4 * (h % 16 + (l + l / 16) / 16) + (l + l / 16) % 16) (a := 15) (b := 15) (by omega) (by omega)
    rw [e3, ← e4, ← e] at e5
    exact e5
  rw [e0, e1, e2, e3]
  have e : fb_ct (fun i => (2 ^ 8 * h + l).testBit i) 16 = fb_ct (fun i => l.testBit i) 8 + fb_ct (fun i => h.testBit i) 8 := by
    rw [show (16 : Nat) = 8 + 8 from rfl, fb_ct_split]
    congr 1
    · exact fb_ct_cong fun k hk => by rw [Nat.testBit_two_pow_mul_add _ (by omega), if_pos hk]
    · exact fb_ct_cong fun k hk => by rw [Nat.testBit_two_pow_mul_add _ (by omega), if_neg (by omega)]; congr 1; omega
  rw [e, ← l6, ← h6]
  generalize a3 (a2 (a1 l)) = u at *
  generalize a3 (a2 (a1 h)) = v at *
  generalize a2 (a1 l) = u2 at *
  generalize a2 (a1 h) = v2 at *
  generalize a1 l = u1 at *
  generalize a1 h = v1 at *
  generalize l / 2 &&& 85 = u0 at *
  generalize h / 2 &&& 85 = v0 at *
  refine ⟨by omega, by omega, by omega, by omega, by omega, by omega, by omega⟩
def c1 (n : Nat) : Nat := n - (n / 2 &&& 1431655765)
def c2 (n : Nat) : Nat := (n &&& 858993459) + (n / 4 &&& 858993459)
def c3 (n : Nat) : Nat := (n + n / 16) &&& 252645135
def c4 (n : Nat) : Nat := n + n / 256
def c5 (n : Nat) : Nat := n + n / 65536
theorem c1_le {h l : Nat} (hl : l < 65536) (hh : h < 65536) : (65536 * h + l) / 2 &&& 1431655765 = 65536 * (h / 2 &&& 21845) + (l / 2 &&& 21845) := by
  have e : (65536 * h + l) / 2 = 2 ^ 16 * (h / 2) + (2 ^ 15 * (h % 2) + l / 2) := by omega
  have e2 : (1431655765 : Nat) = 2 ^ 16 * 21845 + 21845 := by omega
  have e3 : (2 ^ 15 * (h % 2) + l / 2) &&& 21845 = l / 2 &&& 21845 := by
    have := land_sp 15 (h := h % 2) (l := l / 2) (a := 0) (b := 21845) (by omega) (by omega)
    simpa using this
  rw [e, e2, land_sp 16 (by omega) (by omega), e3]
theorem c1_eq {h l : Nat} (hl : l < 65536) (hh : h < 65536) (q1 : l / 2 &&& 21845 ≤ l) (q2 : h / 2 &&& 21845 ≤ h) : c1 (65536 * h + l) = 65536 * b1 h + b1 l := by
  unfold c1 b1
  rw [c1_le hl hh]
  generalize l / 2 &&& 21845 = u at *
  generalize h / 2 &&& 21845 = v at *
  omega
theorem c2_eq {h l : Nat} (hl : l < 65536) (hh : h < 65536) : c2 (65536 * h + l) = 65536 * b2 h + b2 l := by
  have e : (65536 * h + l) / 4 = 2 ^ 16 * (h / 4) + (2 ^ 14 * (h % 4) + l / 4) := by omega
  have e3 : (2 ^ 14 * (h % 4) + l / 4) &&& 13107 = l / 4 &&& 13107 := by
    have := land_sp 14 (h := h % 4) (l := l / 4) (a := 0) (b := 13107) (by omega) (by omega)
    simpa using this
  have e5 := land_sp 16 (h := h / 4) (l := 2 ^ 14 * (h % 4) + l / 4) (a := 13107) (b := 13107) (by omega) (by omega)
  have e6 := land_sp 16 (h := h) (l := l) (a := 13107) (b := 13107) (by omega) (by omega)
  rw [e3, ← e] at e5
  have e7 : (65536 * h + l) / 4 &&& 858993459 = 65536 * (h / 4 &&& 13107) + (l / 4 &&& 13107) := e5
  have e8 : (65536 * h + l) &&& 858993459 = 65536 * (h &&& 13107) + (l &&& 13107) := e6
  unfold c2 b2
  rw [e7, e8]
  omega
theorem c3_eq {h l : Nat} (hl : l ≤ 17476) (hh : h ≤ 17476) (h4 : h % 16 ≤ 4) : c3 (65536 * h + l) = 65536 * b3 h + b3 l := by
  have e : 65536 * h + l + (65536 * h + l) / 16 = 2 ^ 16 * (h + h / 16) + (2 ^ 12 * (h % 16 + (l + l / 16) / 4096) + (l + l / 16) % 4096) := by omega
  have e2 : (252645135 : Nat) = 2 ^ 16 * 3855 + 3855 := by omega
  have e3 : (2 ^ 12 * (h % 16 + (l + l / 16) / 4096) + (l + l / 16) % 4096) &&& 3855 = (l + l / 16) % 4096 &&& 3855 := by
    have := land_sp 12 (h := h % 16 + (l + l / 16) / 4096) (l := (l + l / 16) % 4096) (a := 0) (b := 3855) (by omega) (by omega)
    simpa using this
  have e4 : (l + l / 16) &&& 3855 = (l + l / 16) % 4096 &&& 3855 := by
    have := land_sp 12 (h := (l + l / 16) / 4096) (l := (l + l / 16) % 4096) (a := 0) (b := 3855) (by omega) (by omega)
    have e5 : 2 ^ 12 * ((l + l / 16) / 4096) + (l + l / 16) % 4096 = l + l / 16 := by omega
    rw [e5] at this
    simpa using this
  unfold c3 b3
  rw [e, e2, land_sp 16 (by omega) (by omega), e3, ← e4]
theorem pop_nI {n : Nat} : zpop (nI n) = fb_ct (fun i => n.testBit i) 32 := fb_ct_cong fun k hk => by
  show (BitVec.ofNat 32 n).getLsbD k = n.testBit k
  rw [BitVec.getLsbD_ofNat]
  simp [hk]
theorem pop_n {n : Nat} (hn : n < 4294967296) : (n / 2 &&& 1431655765) ≤ n ∧ c1 n < 4294967296 ∧ c2 (c1 n) < 2147483648 ∧ c3 (c2 (c1 n)) < 1073741824 ∧ c5 (c4 (c3 (c2 (c1 n)))) &&& 63 = zpop (nI n) := by
  obtain ⟨h, l, hl, hh, rfl⟩ : ∃ h l, l < 65536 ∧ h < 65536 ∧ n = 65536 * h + l := ⟨n / 65536, n % 65536, by omega, by omega, by omega⟩
  have ql := b123_all hl
  have qh := b123_all hh
  obtain ⟨l1, l2, l3, l4, l5, l6, l7⟩ := ql
  obtain ⟨h1, h2, h3, h4, h5, h6, h7⟩ := qh
  rw [c1_le hl hh, c1_eq hl hh l1 h1, c2_eq l2 h2, c3_eq l3 h3 h4]
  have e : zpop (nI (65536 * h + l)) = fb_ct (fun i => l.testBit i) 16 + fb_ct (fun i => h.testBit i) 16 := by
    rw [pop_nI, show (32 : Nat) = 16 + 16 from rfl, fb_ct_split]
    have e4 : (65536 * h + l : Nat) = 2 ^ 16 * h + l := by omega
    rw [e4]
    congr 1
    · exact fb_ct_cong fun k hk => by rw [Nat.testBit_two_pow_mul_add _ (by omega), if_pos hk]
    · exact fb_ct_cong fun k hk => by rw [Nat.testBit_two_pow_mul_add _ (by omega), if_neg (by omega)]; congr 1; omega
  rw [e, ← l7, ← h7]
  generalize b3 (b2 (b1 l)) = u at *
  generalize b3 (b2 (b1 h)) = v at *
  generalize b2 (b1 l) = u2 at *
  generalize b2 (b1 h) = v2 at *
  generalize b1 l = u1 at *
  generalize b1 h = v1 at *
  generalize l / 2 &&& 21845 = u0 at *
  generalize h / 2 &&& 21845 = v0 at *
  have e63 : ∀ z : Nat, z &&& 63 = z % 64 := fun z => Nat.and_two_pow_sub_one_eq_mod z 6
  rw [e63]
  unfold c5 c4
  refine ⟨by omega, by omega, by omega, by omega, ?_⟩
  obtain ⟨ud, hud⟩ : ∃ z, z = u / 256 := ⟨_, rfl⟩
  obtain ⟨vd, hvd⟩ : ∃ z, z = v / 256 := ⟨_, rfl⟩
  have t1 : (65536 * v + u) / 256 = 256 * v + ud := by omega
  rw [t1]
  have t2 : (65536 * v + u + (256 * v + ud)) / 65536 = v + vd := by omega
  rw [t2]
  omega
end
section
def ddq (e s : Nat) : UInt64 := FP.ddiv (FP.i2d (nI e)) (FP.i2d (nI s))
def ddc (e s : Nat) : Bool := decide (ddq e s &&& 0x7fffffffffffffff ≤ 0x7ff0000000000000) && decide (FP.dcmp (ddq e s) (ddq e s) = some .eq)
set_option maxRecDepth 100000 in
theorem ddc_0 : ball (fun e => ball (fun s => ddc (e + 0) (s + 1)) 20) 20 = true := by decide +kernel
set_option maxRecDepth 100000 in
theorem ddc_1 : ball (fun e => ball (fun s => ddc (e + 20) (s + 1)) 20) 20 = true := by decide +kernel
set_option maxRecDepth 100000 in
theorem ddc_2 : ball (fun e => ball (fun s => ddc (e + 40) (s + 1)) 20) 20 = true := by decide +kernel
set_option maxRecDepth 100000 in
theorem ddc_3 : ball (fun e => ball (fun s => ddc (e + 60) (s + 1)) 20) 20 = true := by decide +kernel
set_option maxRecDepth 100000 in
theorem ddc_4 : ball (fun e => ball (fun s => ddc (e + 80) (s + 1)) 20) 20 = true := by decide +kernel
set_option maxRecDepth 100000 in
theorem ddc_5 : ball (fun e => ball (fun s => ddc (e + 100) (s + 1)) 20) 20 = true := by decide +kernel
set_option maxRecDepth 100000 in
theorem ddc_6 : ball (fun e => ball (fun s => ddc (e + 120) (s + 1)) 20) 20 = true := by decide +kernel
set_option maxRecDepth 100000 in
theorem ddc_7 : ball (fun e => ball (fun s => ddc (e + 140) (s + 1)) 20) 20 = true := by decide +kernel
set_option maxRecDepth 100000 in
theorem ddc_8 : ball (fun e => ball (fun s => ddc (e + 160) (s + 1)) 20) 20 = true := by decide +kernel
set_option maxRecDepth 100000 in
theorem ddc_9 : ball (fun e => ball (fun s => ddc (e + 180) (s + 1)) 20) 20 = true := by decide +kernel
theorem ddc_ok {e s : Nat} (he : e ≤ 190) (h1 : 1 ≤ s) (h2 : s ≤ 20) : ddc e s = true := by
  obtain ⟨t, rfl⟩ : ∃ t, s = t + 1 := ⟨s - 1, by omega⟩
  rcases Nat.lt_or_ge e 20 with q | q
  · have := ball_ok (ball_ok ddc_0 (e - 0) (by omega)) t (by omega)
    rw [show e - 0 + 0 = e by omega] at this
    exact this
  rcases Nat.lt_or_ge e 40 with q | q
  · have := ball_ok (ball_ok ddc_1 (e - 20) (by omega)) t (by omega)
    rw [show e - 20 + 20 = e by omega] at this
    exact this
  rcases Nat.lt_or_ge e 60 with q | q
  · have := ball_ok (ball_ok ddc_2 (e - 40) (by omega)) t (by omega)
    rw [show e - 40 + 40 = e by omega] at this
    exact this
  rcases Nat.lt_or_ge e 80 with q | q
  · have := ball_ok (ball_ok ddc_3 (e - 60) (by omega)) t (by omega)
    rw [show e - 60 + 60 = e by omega] at this
    exact this
  rcases Nat.lt_or_ge e 100 with q | q
  · have := ball_ok (ball_ok ddc_4 (e - 80) (by omega)) t (by omega)
    rw [show e - 80 + 80 = e by omega] at this
    exact this
  rcases Nat.lt_or_ge e 120 with q | q
  · have := ball_ok (ball_ok ddc_5 (e - 100) (by omega)) t (by omega)
    rw [show e - 100 + 100 = e by omega] at this
    exact this
  rcases Nat.lt_or_ge e 140 with q | q
  · have := ball_ok (ball_ok ddc_6 (e - 120) (by omega)) t (by omega)
    rw [show e - 120 + 120 = e by omega] at this
    exact this
  rcases Nat.lt_or_ge e 160 with q | q
  · have := ball_ok (ball_ok ddc_7 (e - 140) (by omega)) t (by omega)
    rw [show e - 140 + 140 = e by omega] at this
    exact this
  rcases Nat.lt_or_ge e 180 with q | q
  · have := ball_ok (ball_ok ddc_8 (e - 160) (by omega)) t (by omega)
    rw [show e - 160 + 160 = e by omega] at this
    exact this
  rcases Nat.lt_or_ge e 200 with q | q
  · have := ball_ok (ball_ok ddc_9 (e - 180) (by omega)) t (by omega)
    rw [show e - 180 + 180 = e by omega] at this
    exact this
  omega
end
section
/-! ===== the network as rows of bits; cores ===== -/
def gd (f : Nat → Int32) (N : Nat) : Prop := N ≤ 20 ∧ (∀ u v, u < N → bt (f u) v = true → v < N ∧ v ≠ u ∧ bt (f v) u = true) ∧ ∀ u, N ≤ u → u < 20 → f u = 0
def cst (c : Nat → Nat) (N : Nat) (k : Int) : Int32 := zmk (fun i => decide (k ≤ (c i : Int))) N
/-- r is what ways inside z lead to from s -/
def rch (f : Nat → Int32) (s z r : Int32) : Prop := zle r z ∧ (∀ i, bt s i = true → bt z i = true → bt r i = true) ∧ (∀ u, bt r u = true → ∀ w, bt (f u) w = true → bt z w = true → bt r w = true) ∧ ∀ T : Int32, (∀ i, bt s i = true → bt z i = true → bt T i = true) → (∀ u, bt T u = true → ∀ w, bt (f u) w = true → bt z w = true → bt T w = true) → zle r T
theorem b_ort {x y : Int32} {i : Nat} : bt (x ||| y) i = true ↔ bt x i = true ∨ bt y i = true := by rw [b_or, Bool.or_eq_true]
theorem b_andt {x y : Int32} {i : Nat} : bt (x &&& y) i = true ↔ bt x i = true ∧ bt y i = true := by rw [b_and, Bool.and_eq_true]
theorem b_dift {x y : Int32} {i : Nat} : bt (x &&& znt y) i = true ↔ bt x i = true ∧ ¬ bt y i = true := by rw [b_dif, Bool.and_eq_true]; cases bt y i <;> simp
theorem b_sgt {j i : Nat} (hj : j < 32) : bt (zsg j) i = true ↔ i = j := by rw [b_sg hj, decide_eq_true_iff]
theorem b_cst {c : Nat → Nat} {N : Nat} (hN : N ≤ 20) {k : Int} {i : Nat} : bt (cst c N k) i = true ↔ i < N ∧ k ≤ (c i : Int) := by
  unfold cst
  rw [b_mkt _ (by omega), decide_eq_true_iff]
theorem cst_sub {c : Nat → Nat} {N : Nat} (hN : N ≤ 20) (k : Int) : zsub (cst c N k) N := fun i h => ((b_cst hN).mp h).1
theorem rch_one {f : Nat → Int32} {s z r r2 : Int32} (h : rch f s z r) (h2 : rch f s z r2) : r = r2 := le_anti (h.2.2.2 r2 h2.2.1 h2.2.2.1) (h2.2.2.2 r h.2.1 h.2.2.1)
end
section
/-! ===== rows over numbers nI a, truth values zb b; calls that only read ===== -/
section ZR
variable {p : Program} {l : Launch} {e : Env} {R : Room} {s : State} {m : MethodId} {args : Array Value} {below : List Frame} {meth : Method} {c : Code} {H : Heap} {locs : List Loc} {cells slots : Nat} {Q : State → Prop}
variable {cc : ByteArray} {pc : Nat} {ls : Array Slot} {rest : List Value}
theorem z_icmp_lt (hexec : p.tables.exec = Jvm.exec) (hb : c.code = cc) {a b : Nat} {off : Int} {tgt : Nat} (hdg : decode cc pc = .ok (.if_icmp .lt off, 3)) (ht : (pc : Int) + off = (tgt : Int)) (ha : a < 2 ^ 31) (hb2 : b < 2 ^ 31)
    (kt : a < b → W p l e R s m args below meth c H locs cells slots Q (F0 m tgt ls rest)) (kf : b ≤ a → W p l e R s m args below meth c H locs cells slots Q (F0 m (pc + 3) ls rest)) : W p l e R s m args below meth c H locs cells slots Q (F0 m pc ls (.int (nI b) :: .int (nI a) :: rest)) :=
  lv_icmp_lt hexec hb hdg ht (fun h => kt ((nI_ltI ha hb2).mp h)) (fun h => kf (Nat.le_of_not_lt fun q => h ((nI_ltI ha hb2).mpr q)))
theorem z_icmp_ge (hexec : p.tables.exec = Jvm.exec) (hb : c.code = cc) {a b : Nat} {off : Int} {tgt : Nat} (hdg : decode cc pc = .ok (.if_icmp .ge off, 3)) (ht : (pc : Int) + off = (tgt : Int)) (ha : a < 2 ^ 31) (hb2 : b < 2 ^ 31)
    (kt : b ≤ a → W p l e R s m args below meth c H locs cells slots Q (F0 m tgt ls rest)) (kf : a < b → W p l e R s m args below meth c H locs cells slots Q (F0 m (pc + 3) ls rest)) : W p l e R s m args below meth c H locs cells slots Q (F0 m pc ls (.int (nI b) :: .int (nI a) :: rest)) :=
  lv_icmp_ge hexec hb hdg ht (fun h => kt ((nI_leI hb2 ha).mp h)) (fun h => kf (Nat.lt_of_not_le fun q => h ((nI_leI hb2 ha).mpr q)))
theorem z_icmp_gt (hexec : p.tables.exec = Jvm.exec) (hb : c.code = cc) {a b : Nat} {off : Int} {tgt : Nat} (hdg : decode cc pc = .ok (.if_icmp .gt off, 3)) (ht : (pc : Int) + off = (tgt : Int)) (ha : a < 2 ^ 31) (hb2 : b < 2 ^ 31)
    (kt : b < a → W p l e R s m args below meth c H locs cells slots Q (F0 m tgt ls rest)) (kf : a ≤ b → W p l e R s m args below meth c H locs cells slots Q (F0 m (pc + 3) ls rest)) : W p l e R s m args below meth c H locs cells slots Q (F0 m pc ls (.int (nI b) :: .int (nI a) :: rest)) :=
  lv_icmp_gt hexec hb hdg ht (fun h => kt ((nI_ltI hb2 ha).mp h)) (fun h => kf (Nat.le_of_not_lt fun q => h ((nI_ltI hb2 ha).mpr q)))
theorem z_icmp_le (hexec : p.tables.exec = Jvm.exec) (hb : c.code = cc) {a b : Nat} {off : Int} {tgt : Nat} (hdg : decode cc pc = .ok (.if_icmp .le off, 3)) (ht : (pc : Int) + off = (tgt : Int)) (ha : a < 2 ^ 31) (hb2 : b < 2 ^ 31)
    (kt : a ≤ b → W p l e R s m args below meth c H locs cells slots Q (F0 m tgt ls rest)) (kf : b < a → W p l e R s m args below meth c H locs cells slots Q (F0 m (pc + 3) ls rest)) : W p l e R s m args below meth c H locs cells slots Q (F0 m pc ls (.int (nI b) :: .int (nI a) :: rest)) :=
  lv_icmp_le hexec hb hdg ht (fun h => kt ((nI_leI ha hb2).mp h)) (fun h => kf (Nat.lt_of_not_le fun q => h ((nI_leI ha hb2).mpr q)))
theorem z_icmp_ne (hexec : p.tables.exec = Jvm.exec) (hb : c.code = cc) {a b : Nat} {off : Int} {tgt : Nat} (hdg : decode cc pc = .ok (.if_icmp .ne off, 3)) (ht : (pc : Int) + off = (tgt : Int)) (ha : a < 2 ^ 31) (hb2 : b < 2 ^ 31)
    (kt : a ≠ b → W p l e R s m args below meth c H locs cells slots Q (F0 m tgt ls rest)) (kf : a = b → W p l e R s m args below meth c H locs cells slots Q (F0 m (pc + 3) ls rest)) : W p l e R s m args below meth c H locs cells slots Q (F0 m pc ls (.int (nI b) :: .int (nI a) :: rest)) :=
  lv_icmp_ne hexec hb hdg ht (fun h => kt fun q => h ((nI_eq ha hb2).mpr q)) (fun h => kf ((nI_eq ha hb2).mp h))
theorem z_ifb_eq (hexec : p.tables.exec = Jvm.exec) (hb : c.code = cc) {b : Bool} {off : Int} {tgt : Nat} (hdg : decode cc pc = .ok (.ifCond .eq off, 3)) (ht : (pc : Int) + off = (tgt : Int))
    (kt : b = false → W p l e R s m args below meth c H locs cells slots Q (F0 m tgt ls rest)) (kf : b = true → W p l e R s m args below meth c H locs cells slots Q (F0 m (pc + 3) ls rest)) : W p l e R s m args below meth c H locs cells slots Q (F0 m pc ls (.int (zb b) :: rest)) :=
  lv_if_eq hexec hb hdg ht (fun h => kt (zb_0.mp h)) (fun h => kf (by cases b; exact absurd rfl h; rfl))
theorem z_ifb_ne (hexec : p.tables.exec = Jvm.exec) (hb : c.code = cc) {b : Bool} {off : Int} {tgt : Nat} (hdg : decode cc pc = .ok (.ifCond .ne off, 3)) (ht : (pc : Int) + off = (tgt : Int))
    (kt : b = true → W p l e R s m args below meth c H locs cells slots Q (F0 m tgt ls rest)) (kf : b = false → W p l e R s m args below meth c H locs cells slots Q (F0 m (pc + 3) ls rest)) : W p l e R s m args below meth c H locs cells slots Q (F0 m pc ls (.int (zb b) :: rest)) :=
  lv_if_ne hexec hb hdg ht (fun h => kt (by cases b; exact absurd rfl h; rfl)) (fun h => kf (zb_0.mp h))
theorem z_ifn_lt (hexec : p.tables.exec = Jvm.exec) (hb : c.code = cc) {a : Nat} {off : Int} {tgt : Nat} (hdg : decode cc pc = .ok (.ifCond .lt off, 3)) (ht : (pc : Int) + off = (tgt : Int)) (ha : a < 2 ^ 31)
    (kf : W p l e R s m args below meth c H locs cells slots Q (F0 m (pc + 3) ls rest)) : W p l e R s m args below meth c H locs cells slots Q (F0 m pc ls (.int (nI a) :: rest)) :=
  lv_if_lt hexec hb hdg ht (fun h => absurd h (nI_pos ha)) (fun _ => kf)
theorem z_iadd (hexec : p.tables.exec = Jvm.exec) (hb : c.code = cc) {a b : Nat} (hdg : decode cc pc = .ok (.iadd, 1)) (k : W p l e R s m args below meth c H locs cells slots Q (F0 m (pc + 1) ls (.int (nI (a + b)) :: rest))) : W p l e R s m args below meth c H locs cells slots Q (F0 m pc ls (.int (nI b) :: .int (nI a) :: rest)) :=
  lv_iadd hexec hb hdg (by rw [nI_add]; exact k)
theorem z_imul (hexec : p.tables.exec = Jvm.exec) (hb : c.code = cc) {a b : Nat} (hdg : decode cc pc = .ok (.imul, 1)) (k : W p l e R s m args below meth c H locs cells slots Q (F0 m (pc + 1) ls (.int (nI (a * b)) :: rest))) : W p l e R s m args below meth c H locs cells slots Q (F0 m pc ls (.int (nI b) :: .int (nI a) :: rest)) :=
  lv_imul hexec hb hdg (by rw [pk_mul]; exact k)
theorem z_isub (hexec : p.tables.exec = Jvm.exec) (hb : c.code = cc) {a b : Nat} (hdg : decode cc pc = .ok (.isub, 1)) (h : b ≤ a) (k : W p l e R s m args below meth c H locs cells slots Q (F0 m (pc + 1) ls (.int (nI (a - b)) :: rest))) : W p l e R s m args below meth c H locs cells slots Q (F0 m pc ls (.int (nI b) :: .int (nI a) :: rest)) :=
  lv_isub hexec hb hdg (by rw [pk_sub h]; exact k)
theorem z_idiv (hexec : p.tables.exec = Jvm.exec) (hb : c.code = cc) {a b : Nat} (hdg : decode cc pc = .ok (.idiv, 1)) (ha : a < 2 ^ 31) (h0 : 0 < b) (hb2 : b < 2 ^ 31) (k : W p l e R s m args below meth c H locs cells slots Q (F0 m (pc + 1) ls (.int (nI (a / b)) :: rest))) : W p l e R s m args below meth c H locs cells slots Q (F0 m pc ls (.int (nI b) :: .int (nI a) :: rest)) :=
  lv_idiv hexec hb hdg (nI_ne0 h0 hb2) (by rw [pk_div ha h0 hb2]; exact k)
theorem z_iald (hexec : p.tables.exec = Jvm.exec) (hb : c.code = cc) {D : va_G} {cl : List vw_C} {tys : List (ClassId × FieldType)} {ws : va_W} {a : Nat} (hK : va_K D cl tys s) (hP : va_P D cl ws H) (q0 t0 : Nat) {cA : ClassId} {n : Nat} {f : Nat → Int32} (ha : ws[q0]? = some (a, .inl (cA, n, .inl f))) (ht : tys[t0]? = some (cA, .int)) {j : Nat} (hj : j < n) (hn : n < 2 ^ 31) (hdg : decode cc pc = .ok (.iaload, 1))
    (kk : W p l e R s m args below meth c H locs cells slots Q (F0 m (pc + 1) ls (.int (f j) :: rest))) : W p l e R s m args below meth c H locs cells slots Q (F0 m pc ls (.int (nI j) :: .ref a :: rest)) :=
  va_iald hexec hb hK hP q0 t0 ha ht (vp_in_nI hj hn) hdg (by rw [nI_clamp (Nat.lt_trans hj hn)]; exact kk)
theorem z_iast (hexec : p.tables.exec = Jvm.exec) (hb : c.code = cc) {D : va_G} {cl : List vw_C} {tys : List (ClassId × FieldType)} {ws : va_W} {a : Nat} {A : Nat → Prop} {H0 : Heap} (hK : va_K D cl tys s) (hP : va_P D cl ws H) (hD : va_D A ws) (hS : va_S A H0 H locs) (q0 t0 : Nat) {cA : ClassId} {n : Nat} {f : Nat → Int32} (ha : ws[q0]? = some (a, .inl (cA, n, .inl f))) (ht : tys[t0]? = some (cA, .int)) {j : Nat} {x : Int32} (hj : j < n) (hn : n < 2 ^ 31) (hdg : decode cc pc = .ok (.iastore, 1))
    (kk : ∀ (H1 : Heap) (locs1 : List Loc), va_P D cl (ws.set q0 (a, .inl (cA, n, .inl (upd f j x)))) H1 → va_S A H0 H1 locs1 → W p l e R s m args below meth c H1 locs1 cells slots Q (F0 m (pc + 1) ls rest)) : W p l e R s m args below meth c H locs cells slots Q (F0 m pc ls (.int x :: .int (nI j) :: .ref a :: rest)) :=
  va_iast hexec hb hK hP hD hS q0 t0 ha ht (vp_in_nI hj hn) hdg (by rw [nI_clamp (Nat.lt_trans hj hn)]; exact fun H1 locs1 h1 _ h2 => kk H1 locs1 h1 h2)
end ZR
/-- H1 has all that H has -/
def zKp (H H1 : Heap) : Prop := H.size ≤ H1.size ∧ ∀ q : Nat, q < H.size → H1[q]? = H[q]?
theorem zkeep {D : va_G} {cl : List vw_C} {w : va_W} {H H1 : Heap} (hP : va_P D cl w H) (hk : zKp H H1) : va_P D cl w H1 := hP.kept fun _ q h => hk.2 q.1 (vx_lt hP h)
theorem zD {A : Nat → Prop} {w w1 : va_W} (h : va_D A w) (he : w1.map (fun q => q.1) = w.map (fun q => q.1)) : va_D A w1 := by
  have key : ∀ k : Nat, (w1[k]?).map (fun q => q.1) = (w[k]?).map (fun q => q.1) := fun k => by rw [← List.getElem?_map, ← List.getElem?_map, he]
  have get : ∀ (k : Nat) (q : Nat × va_E), w1[k]? = some q → ∃ q2, w[k]? = some q2 ∧ q2.1 = q.1 := fun k q hq => by
    have := key k
    rw [hq] at this
    cases hw : w[k]? with
    | none => rw [hw] at this; cases this
    | some q2 => rw [hw] at this; exact ⟨q2, rfl, (Option.some.inj this).symm⟩
  refine ⟨fun i j p q hp hq e => ?_, fun k q hq => ?_⟩
  · obtain ⟨p2, a1, a2⟩ := get i p hp
    obtain ⟨q2, b1, b2⟩ := get j q hq
    exact h.1 i j p2 q2 a1 b1 (by rw [a2, b2, e])
  · obtain ⟨q2, b1, b2⟩ := get k q hq
    rw [← b2]
    exact h.2 k q2 b1
theorem zb_nar (b : Bool) : narrow .boolean (.int (zb b)) = .int (zb b) := by cases b <;> rfl
/-- what a method wants that reads the cells w -/
abbrev zRd (D : va_G) (w : va_W) (tys : List (ClassId × FieldType)) : State → Prop := fun U => va_P D vwCl w U.heap ∧ va_K D vwCl tys U
/-- a method that answers an int and changes nothing -/
abbrev zPo (post : Int32 → Prop) : Array Value → State → Outcome → State → Prop := va_Qi (fun (r : Int32) (_ : Unit) => post r) (fun _ _ => True) (fun _ => False)
abbrev zNo : Addr → Prop := fun _ => False
section ZC
variable {p : Program} {l : Launch} {e : Env} {R : Room} {s : State} {m : MethodId} {args : Array Value} {below : List Frame} {meth : Method} {c : Code} {H : Heap} {locs : List Loc} {cells slots : Nat} {Q : State → Prop}
variable {cc : ByteArray} {pc : Nat} {ls : Array Slot} {rest st0 : List Value} {y : MethodName} {bytes : ByteArray} {maxL nL n index : Nat} {ret : Option FieldType} {ws Ts : List Cond} {rm : Room} {own C : String} {As : List Value} {post : Int32 → Prop} {A0 : Nat → Prop} {H0 : Heap} {lv : List (Nat × Value)}
/-- a static call that reads no cell -/
theorem zrS0 (cf : CallFix p m c cc nL s args Ts own) (hM : Met l y ws rm (va_Pc As (fun _ => True)) (zPo post) 0 0 zNo) (cw : CallB R s args own index y bytes maxL ret ws rm 0 0 n ∧ (Cond.static y).before args s = true) (hn : As.length = n) (hl : lv_has ls nL lv) (hst : st0 = As.reverse ++ rest) (hrm : (rest.map fun v => v.category).sum ≤ 8) (hdg : decode cc pc = .ok (.invokestatic index, 3)) (hf : cells + 0 ≤ R.cells ∧ slots + 0 ≤ R.slots) (hS : va_S A0 H0 H locs)
    (kk : ∀ (r : Int32) (H1 : Heap) (locs1 : List Loc), post r → zKp H H1 → va_S A0 H0 H1 locs1 → W p l e R s m args below meth c H1 locs1 cells slots Q (F0 m (pc + 3) ls (.int r :: rest))) : W p l e R s m args below meth c H locs cells slots Q (F0 m pc ls st0) := by
  subst hst
  exact va_calli (va_runS cf hM cw ⟨fun a U g mk q => q, fun U hU hW => ⟨rfl, trivial⟩⟩ rfl hn hl.1 rfl (lv_room hrm) hdg hf) hS (fun _ _ h => h.elim) (fun _ h => h.elim) (fun r u t H1 locs1 ht hvm hw hB hz hk hS1 => kk r H1 locs1 hw ⟨hz, fun q h => hk q h (fun z => z)⟩ hS1)
/-- a call by name that reads the cells w -/
theorem zrV {D : va_G} {w : va_W} {tys : List (ClassId × FieldType)} {b ci : Nat} {T : u_T} {N0 : Nat} {fs : List Value} (q0 : Nat) (cf : CallFix p m c cc nL s args Ts own) (hM : Met l y ws rm (va_Pc (.ref b :: As) (zRd D w tys)) (zPo post) 0 0 zNo) (cw : CallW R s args own C index y bytes maxL ret ws rm 0 0 n) (hK : va_K D vwCl tys s) (hP : va_P D vwCl w H) (he : w[q0]? = some (b, .inr (ci, fs))) (hc : vwCl[ci]? = some (C, T, N0)) (hn : As.length = n) (hl : lv_has ls nL lv) (hst : st0 = As.reverse ++ .ref b :: rest) (hrm : (rest.map fun v => v.category).sum ≤ 8) (hdg : decode cc pc = .ok (.invokevirtual index, 3)) (hf : cells + 0 ≤ R.cells ∧ slots + 0 ≤ R.slots) (hS : va_S A0 H0 H locs)
    (kk : ∀ (r : Int32) (H1 : Heap) (locs1 : List Loc), post r → zKp H H1 → va_S A0 H0 H1 locs1 → W p l e R s m args below meth c H1 locs1 cells slots Q (F0 m (pc + 3) ls (.int r :: rest))) : W p l e R s m args below meth c H locs cells slots Q (F0 m pc ls st0) := by
  subst hst
  exact va_calli (va_runV cf hM cw ⟨fun a U g mk q => ⟨q.1, q.2.1, va_K.moved (u := U) (U := U.calling g mk a) (Vm.Alike.refl U.vm) q.2.2⟩, va_recv hK hP hc he, fun U hU hW => ⟨rfl, by rw [hU]; exact hP, va_K.moved hW.alike hK⟩⟩ rfl hn hl.1 rfl (lv_room hrm) hdg hf) hS (fun _ _ h => h.elim) (fun _ h => h.elim) (fun r u t H1 locs1 ht hvm hw hB hz hk hS1 => kk r H1 locs1 hw ⟨hz, fun q h => hk q h (fun z => z)⟩ hS1)
end ZC
/-- Corebarn's cells -/
abbrev wB (h a0 a1 a2 : Nat) (cy : ClassId) (N : Nat) (ec cc : Int32) (f cs tr : Nat → Int32) : va_W := [(h, .inr (0, [.ref a0, .ref a1, .ref a2, .int (nI N), .int ec, .int cc])), (a0, .inl (cy, 20, .inl f)), (a1, .inl (cy, 20, .inl cs)), (a2, .inl (cy, 20, .inl tr))]
end
section
/-! ===== what the loops do, step by step ===== -/
theorem mk_no {p : Nat → Bool} {i : Nat} (h : p i = false) : zmk p (i + 1) = zmk p i := by unfold zmk; rw [if_neg (by rw [h]; exact Bool.false_ne_true)]; cases i <;> rfl
theorem mk_yes {p : Nat → Bool} {i : Nat} (h : p i = true) : zmk p (i + 1) = zmk p i ||| zsg i := by show (if p i = true then _ else _) = _; rw [if_pos h]
theorem i_le (a b : Int32) : a ≤ b ↔ a.toInt ≤ b.toInt := Int32.le_iff_toInt_le
theorem i_leN {k : Int32} {a : Nat} (h : a < 2 ^ 31) : k ≤ nI a ↔ k.toInt ≤ (a : Int) := by rw [i_le, nI_toInt h]
theorem pop_31 (x : Int32) : zpop x < 2 ^ 31 := by have := pop_32 x; omega
-- ways
def rI (f : Nat → Int32) (s z x : Int32) : Prop := zle x z ∧ (∀ i, bt s i = true → bt z i = true → bt x i = true) ∧ ∀ T : Int32, (∀ i, bt s i = true → bt z i = true → bt T i = true) → (∀ u, bt T u = true → ∀ w, bt (f u) w = true → bt z w = true → bt T w = true) → zle x T
def rJ (f : Nat → Int32) (z x : Int32) (i : Nat) (y : Int32) : Prop := ∀ w, bt y w = true ↔ bt x w = true ∨ ∃ u, u < i ∧ bt x u = true ∧ bt (f u) w = true ∧ bt z w = true
theorem rI_0 (f : Nat → Int32) (s z : Int32) : rI f s z (s &&& z) := ⟨le_andr _ _, fun i h1 h2 => b_andt.mpr ⟨h1, h2⟩, fun T h1 _ i hi => h1 i (b_andt.mp hi).1 (b_andt.mp hi).2⟩
theorem rJ_0 (f : Nat → Int32) (z x : Int32) : rJ f z x 0 x := fun w => ⟨Or.inl, fun h => h.elim id fun ⟨u, hu, _⟩ => absurd hu (Nat.not_lt_zero u)⟩
theorem rJ_no {f : Nat → Int32} {z x y : Int32} {i : Nat} (hi : bt x i = false) (h : rJ f z x i y) : rJ f z x (i + 1) y := fun w => by
  rw [h w]
  constructor
  · rintro (q | ⟨u, q1, q2⟩)
    · exact Or.inl q
    · exact Or.inr ⟨u, by omega, q2⟩
  · rintro (q | ⟨u, q1, q2, q3⟩)
    · exact Or.inl q
    · refine Or.inr ⟨u, ?_, q2, q3⟩
      have : u ≠ i := fun e => by rw [e, hi] at q2; cases q2
      omega
theorem rJ_yes {f : Nat → Int32} {z x y : Int32} {i : Nat} (hi : bt x i = true) (h : rJ f z x i y) : rJ f z x (i + 1) (y ||| (f i &&& z)) := fun w => by
  rw [b_ort, h w, b_andt]
  constructor
  · rintro ((q | ⟨u, q1, q2⟩) | q)
    · exact Or.inl q
    · exact Or.inr ⟨u, by omega, q2⟩
    · exact Or.inr ⟨i, by omega, hi, q⟩
  · rintro (q | ⟨u, q1, q2, q3⟩)
    · exact Or.inl (Or.inl q)
    · by_cases e : u = i
      · exact Or.inr (e ▸ q3)
      · exact Or.inl (Or.inr ⟨u, by omega, q2, q3⟩)
theorem rI_step {f : Nat → Int32} {s z x y : Int32} {N : Nat} (h : rI f s z x) (hj : rJ f z x N y) : rI f s z y := by
  refine ⟨fun w hw => ?_, fun i h1 h2 => (hj i).mpr (Or.inl (h.2.1 i h1 h2)), fun T h1 h2 w hw => ?_⟩
  · rcases (hj w).mp hw with q | ⟨u, -, -, -, q⟩
    · exact h.1 w q
    · exact q
  · rcases (hj w).mp hw with q | ⟨u, -, q1, q2, q3⟩
    · exact h.2.2 T h1 h2 w q
    · exact h2 u (h.2.2 T h1 h2 u q1) w q2 q3
theorem rI_grow {f : Nat → Int32} {z x y : Int32} {N : Nat} (hj : rJ f z x N y) (hne : ¬ y = x) : zpop x + 1 ≤ zpop y := by
  have hle : zle x y := fun w hw => (hj w).mpr (Or.inl hw)
  rcases Nat.lt_or_ge (zpop x) (zpop y) with q | q
  · exact q
  · exact absurd (pop_full hle q).symm hne
theorem rI_end {f : Nat → Int32} {s z x : Int32} {N : Nat} (hz : zsub z N) (h : rI f s z x) (hj : rJ f z x N x) : rch f s z x := ⟨h.1, h.2.1, fun u hu w h1 h2 => (hj w).mpr (Or.inr ⟨u, hz u (h.1 u hu), hu, h1, h2⟩), h.2.2⟩
theorem rI_full {f : Nat → Int32} {s z x : Int32} {N t : Nat} (hN : N ≤ 20) (hz : zsub z N) (h : rI f s z x) (ht : t ≤ zpop x) (hNt : N ≤ t) : rch f s z x := by
  have e : x = zal N := pop_full (le_al hN (sub_le h.1 hz)) (by rw [pop_al hN]; omega)
  exact ⟨h.1, h.2.1, fun u hu w h1 h2 => by rw [e, b_al hN]; exact decide_eq_true (hz w h2), h.2.2⟩
/-- what ways lead to, at all -/
theorem rch_ex (f : Nat → Int32) (s z : Int32) : ∃ r, rch f s z r := by
  let P : Nat → Prop := fun i => bt z i = true ∧ ∀ T : Int32, (∀ i, bt s i = true → bt z i = true → bt T i = true) → (∀ u, bt T u = true → ∀ w, bt (f u) w = true → bt z w = true → bt T w = true) → bt T i = true
  have hb : ∀ i, bt (zmk (fun i => @decide (P i) (Classical.propDecidable _)) 32) i = true ↔ P i := fun i => by
    rw [b_mkt _ (Nat.le_refl 32), @decide_eq_true_iff _ (Classical.propDecidable _)]
    exact ⟨fun h => h.2, fun h => ⟨b_32 h.1, h⟩⟩
  refine ⟨_, fun i hi => ((hb i).mp hi).1, fun i h1 h2 => (hb i).mpr ⟨h2, fun T h3 _ => h3 i h1 h2⟩, fun u hu w h1 h2 => (hb w).mpr ⟨h2, fun T h3 h4 => h4 u (((hb u).mp hu).2 T h3 h4) w h1 h2⟩, fun T h3 h4 i hi => ((hb i).mp hi).2 T h3 h4⟩
/-- the community of u inside z -/
noncomputable def cmp (f : Nat → Int32) (z : Int32) (u : Nat) : Int32 := Classical.choose (rch_ex f (zsg u) z)
theorem cmp_ok (f : Nat → Int32) (z : Int32) (u : Nat) : rch f (zsg u) z (cmp f z u) := Classical.choose_spec (rch_ex f (zsg u) z)
theorem cmp_of {f : Nat → Int32} {z r : Int32} {u : Nat} (h : rch f (zsg u) z r) : r = cmp f z u := rch_one h (cmp_ok f z u)
theorem cmp_in {f : Nat → Int32} {z : Int32} {u : Nat} (h : bt z u = true) : bt (cmp f z u) u = true := (cmp_ok f z u).2.1 u ((b_sgt (b_32 h)).mpr rfl) h
theorem cmp_le (f : Nat → Int32) (z : Int32) (u : Nat) : zle (cmp f z u) z := (cmp_ok f z u).1
theorem cmp_0 {f : Nat → Int32} {z : Int32} {u : Nat} (hu : u < 32) (h : bt z u = false) : cmp f z u = 0 := by
  refine le_anti ((cmp_ok f z u).2.2.2 0 (fun i h1 h2 => ?_) (fun i h1 => ?_)) (fun i hi => ?_)
  · rw [(b_sgt hu).mp h1, h] at h2; cases h2
  · rw [b_0] at h1; cases h1
  · rw [b_0] at hi; cases hi
/-- edges run both ways inside z -/
def sym (f : Nat → Int32) (z : Int32) : Prop := ∀ u v, bt z u = true → bt (f u) v = true → bt (f v) u = true
theorem sym_of {f : Nat → Int32} {N : Nat} {z : Int32} (hg : gd f N) (hz : zsub z N) : sym f z := fun u v h1 h2 => (hg.2.1 u v (hz u h1) h2).2.2
theorem cmp_sub {f : Nat → Int32} {z : Int32} {u v : Nat} (h : bt (cmp f z u) v = true) : zle (cmp f z v) (cmp f z u) := (cmp_ok f z v).2.2.2 _ (fun i h1 _ => by rw [(b_sgt (b_32 h)).mp h1]; exact h) (cmp_ok f z u).2.2.1
theorem cmp_sym {f : Nat → Int32} {z : Int32} (hs : sym f z) {u v : Nat} (hu : bt z u = true) (h : bt (cmp f z u) v = true) : bt (cmp f z v) u = true := by
  have hv := cmp_le f z u v h
  cases q : bt (cmp f z v) u
  · exfalso
    have key : zle (cmp f z u) (cmp f z u &&& znt (cmp f z v)) := (cmp_ok f z u).2.2.2 _ (fun i h1 h2 => by
        rw [(b_sgt (b_32 hu)).mp h1]
        exact b_dift.mpr ⟨cmp_in hu, by rw [q]; exact Bool.false_ne_true⟩) (fun a ha b h1 h2 => by
        obtain ⟨h3, h4⟩ := b_dift.mp ha
        refine b_dift.mpr ⟨(cmp_ok f z u).2.2.1 a h3 b h1 h2, fun h5 => h4 ?_⟩
        exact (cmp_ok f z v).2.2.1 b h5 a (hs a b (cmp_le f z u a h3) h1) (cmp_le f z u a h3))
    exact (b_dift.mp (key v h)).2 (cmp_in hv)
  · rfl
theorem cmp_eq {f : Nat → Int32} {z : Int32} (hs : sym f z) {u v : Nat} (hu : bt z u = true) (h : bt (cmp f z u) v = true) : cmp f z v = cmp f z u := le_anti (cmp_sub h) (cmp_sub (cmp_sym hs hu h))
-- communities, one by one
/-- i is the first of the wanted of its community -/
noncomputable def fst1 (f : Nat → Int32) (z w : Int32) (i : Nat) : Bool := bt w i && @decide (∀ u, u < i → bt w u = true → ¬ bt (cmp f z u) i = true) (Classical.propDecidable _)
theorem fst1_t {f : Nat → Int32} {z w : Int32} {i : Nat} : fst1 f z w i = true ↔ bt w i = true ∧ ∀ u, u < i → bt w u = true → ¬ bt (cmp f z u) i = true := by
  unfold fst1
  rw [Bool.and_eq_true, @decide_eq_true_iff _ (Classical.propDecidable _)]
noncomputable def ccn (f : Nat → Int32) (N : Nat) (z w : Int32) : Nat := fb_ct (fst1 f z w) N
def cI (f : Nat → Int32) (z w : Int32) (i : Nat) (o : Int32) : Prop := ∀ v, bt o v = true ↔ bt w v = true ∧ ∀ u, u < i → bt w u = true → ¬ bt (cmp f z u) v = true
theorem cI_0 (f : Nat → Int32) (z w : Int32) : cI f z w 0 w := fun v => ⟨fun h => ⟨h, fun u hu => absurd hu (Nat.not_lt_zero u)⟩, fun h => h.1⟩
theorem cI_yes {f : Nat → Int32} {z w o : Int32} {i : Nat} (h : cI f z w i o) (hi : bt o i = true) : fst1 f z w i = true ∧ cI f z w (i + 1) (o &&& znt (cmp f z i)) := by
  refine ⟨fst1_t.mpr ((h i).mp hi), fun v => ?_⟩
  rw [b_dift, h v]
  constructor
  · rintro ⟨⟨h1, h2⟩, h3⟩
    refine ⟨h1, fun u hu hw => ?_⟩
    by_cases e : u = i
    · rw [e]; exact h3
    · exact h2 u (by omega) hw
  · rintro ⟨h1, h2⟩
    exact ⟨⟨h1, fun u hu hw => h2 u (by omega) hw⟩, h2 i (by omega) ((h i).mp hi).1⟩
theorem cI_no {f : Nat → Int32} {z w o : Int32} {i : Nat} (hs : sym f z) (hwz : zle w z) (h : cI f z w i o) (hi : bt o i = false) : fst1 f z w i = false ∧ cI f z w (i + 1) o := by
  have hn : ¬ (bt w i = true ∧ ∀ u, u < i → bt w u = true → ¬ bt (cmp f z u) i = true) := fun q => by rw [← h i, hi] at q; cases q
  refine ⟨?_, fun v => ?_⟩
  · cases q : fst1 f z w i
    · rfl
    · exact absurd (fst1_t.mp q) hn
  · rw [h v]
    constructor
    · rintro ⟨h1, h2⟩
      refine ⟨h1, fun u hu hw hv => ?_⟩
      by_cases e : u = i
      · subst e
        apply hn
        refine ⟨hw, fun u2 hu2 hw2 hc => ?_⟩
        exact h2 u2 hu2 hw2 (by rw [← cmp_eq hs (hwz u2 hw2) hc]; exact hv)
      · exact h2 u (by omega) hw hv
    · rintro ⟨h1, h2⟩
      exact ⟨h1, fun u hu hw => h2 u (by omega) hw⟩
-- peeling
def npk (f : Nat → Int32) (z : Int32) : Nat → Nat × Nat
  | 0 => (0, 20)
  | i + 1 => if bt z i = true ∧ zpop (f i &&& z) < (npk f z i).2 then (i, zpop (f i &&& z)) else npk f z i
theorem npk_le (f : Nat → Int32) (z : Int32) : ∀ i, (npk f z i).2 ≤ 20
  | 0 => Nat.le_refl _
  | i + 1 => by
    have ih := npk_le f z i
    unfold npk
    split
    next h => have := h.2; show zpop (f i &&& z) ≤ 20; omega
    next => exact ih
theorem npk_lt (f : Nat → Int32) (z : Int32) : ∀ i, 0 < i → (npk f z i).1 < i
  | 0, h => absurd h (Nat.lt_irrefl 0)
  | i + 1, _ => by
    have ih := npk_lt f z i
    unfold npk
    split
    · exact Nat.lt_succ_self i
    · rcases Nat.eq_zero_or_pos i with e | e
      · subst e; exact Nat.lt_succ_self 0
      · exact Nat.lt_succ_of_lt (ih e)
theorem npk_le0 (f : Nat → Int32) (z : Int32) (i : Nat) : (npk f z i).1 ≤ i := by
  rcases Nat.eq_zero_or_pos i with e | e
  · subst e; exact Nat.le_refl 0
  · exact Nat.le_of_lt (npk_lt f z i e)
theorem npk_yes {f : Nat → Int32} {z : Int32} {i : Nat} (h1 : bt z i = true) (h2 : zpop (f i &&& z) < (npk f z i).2) : npk f z (i + 1) = (i, zpop (f i &&& z)) := by
  show (if _ then _ else _) = _
  rw [if_pos ⟨h1, h2⟩]
theorem npk_no {f : Nat → Int32} {z : Int32} {i : Nat} (h : ¬ (bt z i = true ∧ zpop (f i &&& z) < (npk f z i).2)) : npk f z (i + 1) = npk f z i := by
  show (if _ then _ else _) = _
  rw [if_neg h]
/-- edges inside z -/
def ews (f : Nat → Int32) (z : Int32) (i : Nat) : Nat := if bt z i = true then zpop (f i &&& z) else 0
def ewn (f : Nat → Int32) (N : Nat) (z : Int32) : Nat := fb_sm (ews f z) N / 2
theorem ews_le (f : Nat → Int32) (z : Int32) (i : Nat) : ews f z i ≤ 32 := by
  unfold ews
  split
  · exact pop_32 _
  · exact Nat.zero_le _
theorem ews_b (f : Nat → Int32) (z : Int32) (n : Nat) : fb_sm (ews f z) n ≤ n * 32 := fb_sm_bound fun k _ => ews_le f z k
theorem ewn_b (f : Nat → Int32) {N : Nat} (hN : N ≤ 20) (z : Int32) : ewn f N z ≤ 320 := by
  have := ews_b f z N
  unfold ewn
  omega
theorem ews_yes {f : Nat → Int32} {z : Int32} {i : Nat} (h : bt z i = true) : fb_sm (ews f z) (i + 1) = fb_sm (ews f z) i + zpop (f i &&& z) := by
  rw [fb_sm_succ]; unfold ews; rw [if_pos h]
theorem ews_no {f : Nat → Int32} {z : Int32} {i : Nat} (h : bt z i = false) : fb_sm (ews f z) (i + 1) = fb_sm (ews f z) i := by
  rw [fb_sm_succ]; unfold ews; rw [if_neg (by rw [h]; exact Bool.false_ne_true)]; rfl
/-- left, the best so far, its edges, after t nodes are peeled -/
def dsk (f : Nat → Int32) (N : Nat) : Nat → Int32 × Int32 × Nat
  | 0 => (zal N, zal N, ewn f N (zal N))
  | t + 1 => if (dsk f N t).2.2 * zpop (zdl (dsk f N t).1 (npk f (dsk f N t).1 N).1) < ewn f N (zdl (dsk f N t).1 (npk f (dsk f N t).1 N).1) * zpop (dsk f N t).2.1 then (zdl (dsk f N t).1 (npk f (dsk f N t).1 N).1, zdl (dsk f N t).1 (npk f (dsk f N t).1 N).1, ewn f N (zdl (dsk f N t).1 (npk f (dsk f N t).1 N).1)) else (zdl (dsk f N t).1 (npk f (dsk f N t).1 N).1, (dsk f N t).2)
theorem dsk_1 (f : Nat → Int32) (N t : Nat) : (dsk f N (t + 1)).1 = zdl (dsk f N t).1 (npk f (dsk f N t).1 N).1 := by
  show (if _ then _ else _ : Int32 × Int32 × Nat).1 = _
  split <;> rfl
theorem dsk_yes {f : Nat → Int32} {N t : Nat} {x : Int32} (hx : x = zdl (dsk f N t).1 (npk f (dsk f N t).1 N).1) (h : (dsk f N t).2.2 * zpop x < ewn f N x * zpop (dsk f N t).2.1) : dsk f N (t + 1) = (x, x, ewn f N x) := by
  subst hx
  show (if _ then _ else _) = _
  rw [if_pos h]
theorem dsk_no {f : Nat → Int32} {N t : Nat} {x : Int32} (hx : x = zdl (dsk f N t).1 (npk f (dsk f N t).1 N).1) (h : ewn f N x * zpop (dsk f N t).2.1 ≤ (dsk f N t).2.2 * zpop x) : dsk f N (t + 1) = (x, (dsk f N t).2) := by
  subst hx
  show (if _ then _ else _) = _
  rw [if_neg (Nat.not_lt.mpr h)]
theorem dsk_sub {f : Nat → Int32} {N : Nat} (hN : N ≤ 20) : ∀ t, zle (dsk f N t).1 (zal N) ∧ zle (dsk f N t).2.1 (zal N) ∧ (dsk f N t).2.2 = ewn f N (dsk f N t).2.1
  | 0 => ⟨le_rf _, le_rf _, rfl⟩
  | t + 1 => by
    obtain ⟨h1, h2, h3⟩ := dsk_sub hN t
    have hn : (npk f (dsk f N t).1 N).1 < 32 := by have := npk_le0 f (dsk f N t).1 N; omega
    have h4 : zle (zdl (dsk f N t).1 (npk f (dsk f N t).1 N).1) (zal N) := le_tr (le_dl hn) h1
    unfold dsk
    split
    · exact ⟨h4, h4, rfl⟩
    · exact ⟨h4, h2, h3⟩
/-- triangles, each for each of its edges -/
def tri (f : Nat → Int32) (i j : Nat) : Nat := if i < j ∧ bt (f i) j = true then zpop (f i &&& f j) else 0
def trs (f : Nat → Int32) (N i : Nat) : Nat := fb_sm (tri f i) N
theorem tri_le (f : Nat → Int32) (i j : Nat) : tri f i j ≤ 32 := by
  unfold tri
  split
  · exact pop_32 _
  · exact Nat.zero_le _
theorem tri_0 (f : Nat → Int32) (i : Nat) : ∀ n, n ≤ i + 1 → fb_sm (tri f i) n = 0
  | 0, _ => rfl
  | n + 1, h => by
    rw [fb_sm_succ, tri_0 f i n (by omega)]
    unfold tri
    rw [if_neg (by omega)]
theorem trs_b (f : Nat → Int32) {N : Nat} (hN : N ≤ 20) (i : Nat) : trs f N i ≤ 640 := by
  have : trs f N i ≤ N * 32 := fb_sm_bound fun k _ => tri_le f i k
  omega
theorem trs_bb (f : Nat → Int32) {N : Nat} (hN : N ≤ 20) (n : Nat) : fb_sm (trs f N) n ≤ n * 640 := fb_sm_bound fun k _ => trs_b f hN k
theorem tri_b (f : Nat → Int32) (i n : Nat) : fb_sm (tri f i) n ≤ n * 32 := fb_sm_bound fun k _ => tri_le f i k
end
section
theorem nx_and (a b : Nat) : nI a &&& nI b = nI (a &&& b) := by
  apply Int32.toBitVec_inj.1
  show BitVec.ofNat 32 a &&& BitVec.ofNat 32 b = BitVec.ofNat 32 (a &&& b)
  apply BitVec.eq_of_getLsbD_eq
  intro i hi
  simp [hi]
theorem wb_of32 (x : Int32) : ∃ n, n < 4294967296 ∧ x = nI n := ⟨x.toBitVec.toNat, x.toBitVec.isLt, Int32.toBitVec_inj.mp (BitVec.eq_of_toNat_eq (by show _ = (BitVec.ofNat 32 _).toNat; rw [BitVec.toNat_ofNat, Nat.mod_eq_of_lt x.toBitVec.isLt]))⟩
theorem zc_and {x : Int32} {j : Nat} (hj : j < 32) : (x &&& zsg j = 0) ↔ bt x j = false := by
  rw [ne_0]
  constructor
  · intro h
    have := h j
    rw [b_and, b_sg hj] at this
    simpa using this
  · intro h i
    rw [b_and, b_sg hj]
    by_cases e : i = j
    · rw [e, h]; rfl
    · simp [e]
theorem zc_no {x : Int32} {j : Nat} (hj : j < 32) (h : x &&& zsg j = 0) : nI 0 = zb (bt x j) := by rw [(zc_and hj).mp h]; rfl
theorem zc_yes {x : Int32} {j : Nat} (hj : j < 32) (h : ¬ x &&& zsg j = 0) : nI 1 = zb (bt x j) := by
  have e : bt x j = true := by
    cases q : bt x j
    · exact absurd ((zc_and hj).mpr q) h
    · rfl
  rw [e]; rfl
set_option maxHeartbeats 4000000 in
set_option maxRecDepth 100000 in
theorem c_X0_single (l : Launch) (j : Nat) : Met l yX0_single wsX0_single ({ frames := 0, cells := 0, slots := 0, locals := 0 } : Room) (va_Pc [.int (nI j)] (fun _ => True)) (zPo (fun r => r = zsg j)) 0 0 zNo := by
  refine Met.ofW (cc := cX0_single) (maxL := 1) (ret := (some .int)) (by decide) rfl ?_
  intro p e s m args below meth c s₁ B hml hv
  obtain ⟨rfl, -⟩ := hv
  have hx := B.exec
  have hb := B.bytes
  have hr := B.returns
  have hts := atoms_spec (ws := wsX0_single) B.pre
  have hown : s.vm.findClass RX0 = some m.cls := findClass_of_methodNamed B.named
  have hlocks := B.notSynchronized
  have hS : va_S (fun _ => False) s.heap s.heap [] := va_S.rf
  have hl := lv_entry ([.int (nI j)]) (n := 1) (Nat.le_of_ble_eq_true rfl)
  rw [lg_entry_eq]
  generalize (lg_sl ([.int (nI j)]) ++ List.replicate (1 - (lg_sl ([.int (nI j)])).length) Slot.unset).toArray = ls at hl ⊢
  have hl : lv_has ls 1 [(0, .int (nI j))] := hl
  refine lv_iconst (v := (nI 1)) hx hb dX0_single_0 (by decide) ?_
  refine lv_iload_n hx hb dX0_single_1 rfl (lv_at hl 0 rfl) ?_
  refine lv_ishl hx hb dX0_single_2 ?_
  exact W.iret (v := ((nI 1) <<< ((nI j) &&& 31))) hx hb hr (fun t9 ht9 hW9 => ⟨⟨((nI 1) <<< ((nI j) &&& 31)), (), rfl, rfl, trivial⟩, hS.F ht9⟩) hS.2.2 dX0_single_3
set_option maxHeartbeats 4000000 in
set_option maxRecDepth 100000 in
theorem c_X0_contains (l : Launch) (x : Int32) (j : Nat) (hj : j < 32) : Met l yX0_contains wsX0_contains ({ frames := 1, cells := 0, slots := 0, locals := 20 } : Room) (va_Pc [.int x, .int (nI j)] (fun _ => True)) (zPo (fun r => r = zb (bt x j))) 0 0 zNo := by
  refine Met.ofW (cc := cX0_contains) (maxL := 2) (ret := (some .boolean)) (by decide) rfl ?_
  intro p e s m args below meth c s₁ B hml hv
  obtain ⟨rfl, -⟩ := hv
  have hx := B.exec
  have hb := B.bytes
  have hr := B.returns
  have hts := atoms_spec (ws := wsX0_contains) B.pre
  have hown : s.vm.findClass RX0 = some m.cls := findClass_of_methodNamed B.named
  have hlocks := B.notSynchronized
  have hS : va_S (fun _ => False) s.heap s.heap [] := va_S.rf
  have hl := lv_entry ([.int x, .int (nI j)]) (n := 2) (Nat.le_of_ble_eq_true rfl)
  rw [lg_entry_eq]
  generalize (lg_sl ([.int x, .int (nI j)]) ++ List.replicate (2 - (lg_sl ([.int x, .int (nI j)])).length) Slot.unset).toArray = ls at hl ⊢
  have hl : lv_has ls 2 [(0, .int x), (1, .int (nI j))] := hl
  refine lv_iload_n hx hb dX0_contains_0 rfl (lv_at hl 0 rfl) ?_
  refine lv_iload_n hx hb dX0_contains_1 rfl (lv_at hl 1 rfl) ?_
  refine zrS0 (As := [.int (nI j)]) (rest := [.int x]) ⟨hx, hb, hml, hown, hts⟩ (c_X0_single l j) (va_cwS 1 hts gX0_contains_X0_single rfl rfl rfl (by decide +kernel) ⟨Nat.le_of_ble_eq_true rfl, Nat.le_of_ble_eq_true rfl⟩) rfl hl rfl (Nat.le_of_ble_eq_true rfl) dX0_contains_2 ⟨Nat.le_of_ble_eq_true rfl, Nat.le_of_ble_eq_true rfl⟩ hS (fun r2 H locs hw2 hk9 hS => ?_)
  obtain rfl : r2 = zsg j := hw2
  refine lv_iand hx hb dX0_contains_5 ?_
  refine lv_if_eq (tgt := 13) hx hb dX0_contains_6 (by decide) (fun h6 => ?_) (fun h6 => ?_)
  · refine lv_iconst (v := (nI 0)) hx hb dX0_contains_13 (by decide) ?_
    exact W.zret (v := (nI 0)) (ty := .boolean) hx hb hr rfl (fun t9 ht9 hW9 => ⟨⟨(nI 0), (), rfl, (zc_no hj h6), trivial⟩, hS.F ht9⟩) hS.2.2 dX0_contains_14
  · refine lv_iconst (v := (nI 1)) hx hb dX0_contains_9 (by decide) ?_
    refine lv_goto (tgt := 14) hx hb dX0_contains_10 (by decide) ?_
    exact W.zret (v := (nI 1)) (ty := .boolean) hx hb hr rfl (fun t9 ht9 hW9 => ⟨⟨(nI 1), (), rfl, (zc_yes hj h6), trivial⟩, hS.F ht9⟩) hS.2.2 dX0_contains_14
set_option maxHeartbeats 4000000 in
set_option maxRecDepth 100000 in
theorem c_X0_with (l : Launch) (x : Int32) (j : Nat) : Met l yX0_with wsX0_with ({ frames := 1, cells := 0, slots := 0, locals := 20 } : Room) (va_Pc [.int x, .int (nI j)] (fun _ => True)) (zPo (fun r => r = x ||| zsg j)) 0 0 zNo := by
  refine Met.ofW (cc := cX0_with) (maxL := 2) (ret := (some .int)) (by decide) rfl ?_
  intro p e s m args below meth c s₁ B hml hv
  obtain ⟨rfl, -⟩ := hv
  have hx := B.exec
  have hb := B.bytes
  have hr := B.returns
  have hts := atoms_spec (ws := wsX0_with) B.pre
  have hown : s.vm.findClass RX0 = some m.cls := findClass_of_methodNamed B.named
  have hlocks := B.notSynchronized
  have hS : va_S (fun _ => False) s.heap s.heap [] := va_S.rf
  have hl := lv_entry ([.int x, .int (nI j)]) (n := 2) (Nat.le_of_ble_eq_true rfl)
  rw [lg_entry_eq]
  generalize (lg_sl ([.int x, .int (nI j)]) ++ List.replicate (2 - (lg_sl ([.int x, .int (nI j)])).length) Slot.unset).toArray = ls at hl ⊢
  have hl : lv_has ls 2 [(0, .int x), (1, .int (nI j))] := hl
  refine lv_iload_n hx hb dX0_with_0 rfl (lv_at hl 0 rfl) ?_
  refine lv_iload_n hx hb dX0_with_1 rfl (lv_at hl 1 rfl) ?_
  refine zrS0 (As := [.int (nI j)]) (rest := [.int x]) ⟨hx, hb, hml, hown, hts⟩ (c_X0_single l j) (va_cwS 1 hts gX0_with_X0_single rfl rfl rfl (by decide +kernel) ⟨Nat.le_of_ble_eq_true rfl, Nat.le_of_ble_eq_true rfl⟩) rfl hl rfl (Nat.le_of_ble_eq_true rfl) dX0_with_2 ⟨Nat.le_of_ble_eq_true rfl, Nat.le_of_ble_eq_true rfl⟩ hS (fun r2 H locs hw2 hk9 hS => ?_)
  obtain rfl : r2 = zsg j := hw2
  refine lv_ior hx hb dX0_with_5 ?_
  exact W.iret (v := (x ||| zsg j)) hx hb hr (fun t9 ht9 hW9 => ⟨⟨(x ||| zsg j), (), rfl, rfl, trivial⟩, hS.F ht9⟩) hS.2.2 dX0_with_6
set_option maxHeartbeats 4000000 in
set_option maxRecDepth 100000 in
theorem c_X0_without (l : Launch) (x : Int32) (j : Nat) : Met l yX0_without wsX0_without ({ frames := 1, cells := 0, slots := 0, locals := 20 } : Room) (va_Pc [.int x, .int (nI j)] (fun _ => True)) (zPo (fun r => r = zdl x j)) 0 0 zNo := by
  refine Met.ofW (cc := cX0_without) (maxL := 2) (ret := (some .int)) (by decide) rfl ?_
  intro p e s m args below meth c s₁ B hml hv
  obtain ⟨rfl, -⟩ := hv
  have hx := B.exec
  have hb := B.bytes
  have hr := B.returns
  have hts := atoms_spec (ws := wsX0_without) B.pre
  have hown : s.vm.findClass RX0 = some m.cls := findClass_of_methodNamed B.named
  have hlocks := B.notSynchronized
  have hS : va_S (fun _ => False) s.heap s.heap [] := va_S.rf
  have hl := lv_entry ([.int x, .int (nI j)]) (n := 2) (Nat.le_of_ble_eq_true rfl)
  rw [lg_entry_eq]
  generalize (lg_sl ([.int x, .int (nI j)]) ++ List.replicate (2 - (lg_sl ([.int x, .int (nI j)])).length) Slot.unset).toArray = ls at hl ⊢
  have hl : lv_has ls 2 [(0, .int x), (1, .int (nI j))] := hl
  refine lv_iload_n hx hb dX0_without_0 rfl (lv_at hl 0 rfl) ?_
  refine lv_iload_n hx hb dX0_without_1 rfl (lv_at hl 1 rfl) ?_
  refine zrS0 (As := [.int (nI j)]) (rest := [.int x]) ⟨hx, hb, hml, hown, hts⟩ (c_X0_single l j) (va_cwS 1 hts gX0_without_X0_single rfl rfl rfl (by decide +kernel) ⟨Nat.le_of_ble_eq_true rfl, Nat.le_of_ble_eq_true rfl⟩) rfl hl rfl (Nat.le_of_ble_eq_true rfl) dX0_without_2 ⟨Nat.le_of_ble_eq_true rfl, Nat.le_of_ble_eq_true rfl⟩ hS (fun r2 H locs hw2 hk9 hS => ?_)
  obtain rfl : r2 = zsg j := hw2
  refine lv_iconst (v := (-1)) hx hb dX0_without_5 (by decide) ?_
  refine lv_ixor hx hb dX0_without_6 ?_
  refine lv_iand hx hb dX0_without_7 ?_
  exact W.iret (v := (x &&& (zsg j ^^^ (-1)))) hx hb hr (fun t9 ht9 hW9 => ⟨⟨(x &&& (zsg j ^^^ (-1))), (), rfl, rfl, trivial⟩, hS.F ht9⟩) hS.2.2 dX0_without_8
set_option maxHeartbeats 4000000 in
set_option maxRecDepth 100000 in
theorem c_J6_bitCount_0f7a4 (l : Launch) (n : Nat) (hn : n < 4294967296) : Met l yJ6_bitCount_0f7a4 wsJ6_bitCount_0f7a4 ({ frames := 0, cells := 0, slots := 0, locals := 0 } : Room) (va_Pc [.int (nI n)] (fun _ => True)) (zPo (fun r => r = nI (zpop (nI n)))) 0 0 zNo := by
  refine Met.ofW (cc := cJ6_bitCount_0f7a4) (maxL := 1) (ret := (some .int)) (by decide) rfl ?_
  intro p e s m args below meth c s₁ B hml hv
  obtain ⟨rfl, -⟩ := hv
  have hx := B.exec
  have hb := B.bytes
  have hr := B.returns
  have hts := atoms_spec (ws := wsJ6_bitCount_0f7a4) B.pre
  have hown : s.vm.findClass RJ6 = some m.cls := findClass_of_methodNamed B.named
  have hlocks := B.notSynchronized
  have hS : va_S (fun _ => False) s.heap s.heap [] := va_S.rf
  have hc265 := hts (.constant RJ6 265 (1431655765)) (by decide +kernel)
  have hc266 := hts (.constant RJ6 266 (858993459)) (by decide +kernel)
  have hc267 := hts (.constant RJ6 267 (252645135)) (by decide +kernel)
  obtain ⟨q1, q2, q3, q4, q5⟩ := pop_n hn
  have q6 : c4 (c3 (c2 (c1 n))) < 2147483648 := by unfold c4; omega
  have hl := lv_entry ([.int (nI n)]) (n := 1) (Nat.le_of_ble_eq_true rfl)
  rw [lg_entry_eq]
  generalize (lg_sl ([.int (nI n)]) ++ List.replicate (1 - (lg_sl ([.int (nI n)])).length) Slot.unset).toArray = ls at hl ⊢
  have hl : lv_has ls 1 [(0, .int (nI n))] := hl
  refine lv_iload_n hx hb dJ6_bitCount_0f7a4_0 rfl (lv_at hl 0 rfl) ?_
  refine lv_iload_n hx hb dJ6_bitCount_0f7a4_1 rfl (lv_at hl 0 rfl) ?_
  refine lv_iconst (v := (nI 1)) hx hb dJ6_bitCount_0f7a4_2 (by decide) ?_
  refine lv_iushr (v := (nI (n / 2))) hx hb dJ6_bitCount_0f7a4_3 (pk_ushrN (by omega) (nI 1) 1 (by decide)) ?_
  refine lv_ldcw hx hb hown hc265 dJ6_bitCount_0f7a4_4 ?_
  refine lv_iand hx hb dJ6_bitCount_0f7a4_7 ?_
  rw [show nI (n / 2) &&& 1431655765 = nI (n / 2 &&& 1431655765) from nx_and (n / 2) 1431655765]
  refine z_isub hx hb dJ6_bitCount_0f7a4_8 q1 ?_
  refine lv_istore_n (lv' := [(0, .int (nI (c1 n)))]) hx hb dJ6_bitCount_0f7a4_9 rfl hl (by decide) rfl (fun ls hl => ?_)
  refine lv_iload_n hx hb dJ6_bitCount_0f7a4_10 rfl (lv_at hl 0 rfl) ?_
  refine lv_ldcw hx hb hown hc266 dJ6_bitCount_0f7a4_11 ?_
  refine lv_iand hx hb dJ6_bitCount_0f7a4_14 ?_
  rw [show nI (c1 n) &&& 858993459 = nI (c1 n &&& 858993459) from nx_and (c1 n) 858993459]
  refine lv_iload_n hx hb dJ6_bitCount_0f7a4_15 rfl (lv_at hl 0 rfl) ?_
  refine lv_iconst (v := (nI 2)) hx hb dJ6_bitCount_0f7a4_16 (by decide) ?_
  refine lv_iushr (v := (nI (c1 n / 4))) hx hb dJ6_bitCount_0f7a4_17 (pk_ushrN (by omega) (nI 2) 2 (by decide)) ?_
  refine lv_ldcw hx hb hown hc266 dJ6_bitCount_0f7a4_18 ?_
  refine lv_iand hx hb dJ6_bitCount_0f7a4_21 ?_
  rw [show nI (c1 n / 4) &&& 858993459 = nI (c1 n / 4 &&& 858993459) from nx_and (c1 n / 4) 858993459]
  refine z_iadd hx hb dJ6_bitCount_0f7a4_22 ?_
  refine lv_istore_n (lv' := [(0, .int (nI (c2 (c1 n))))]) hx hb dJ6_bitCount_0f7a4_23 rfl hl (by decide) rfl (fun ls hl => ?_)
  refine lv_iload_n hx hb dJ6_bitCount_0f7a4_24 rfl (lv_at hl 0 rfl) ?_
  refine lv_iload_n hx hb dJ6_bitCount_0f7a4_25 rfl (lv_at hl 0 rfl) ?_
  refine lv_iconst (v := (nI 4)) hx hb dJ6_bitCount_0f7a4_26 (by decide) ?_
  refine lv_iushr (v := (nI (c2 (c1 n) / 16))) hx hb dJ6_bitCount_0f7a4_27 (pk_ushrN (by omega) (nI 4) 4 (by decide)) ?_
  refine z_iadd hx hb dJ6_bitCount_0f7a4_28 ?_
  refine lv_ldcw hx hb hown hc267 dJ6_bitCount_0f7a4_29 ?_
  refine lv_iand hx hb dJ6_bitCount_0f7a4_32 ?_
  rw [show nI (c2 (c1 n) + c2 (c1 n) / 16) &&& 252645135 = nI (c2 (c1 n) + c2 (c1 n) / 16 &&& 252645135) from nx_and (c2 (c1 n) + c2 (c1 n) / 16) 252645135]
  refine lv_istore_n (lv' := [(0, .int (nI (c3 (c2 (c1 n)))))]) hx hb dJ6_bitCount_0f7a4_33 rfl hl (by decide) rfl (fun ls hl => ?_)
  refine lv_iload_n hx hb dJ6_bitCount_0f7a4_34 rfl (lv_at hl 0 rfl) ?_
  refine lv_iload_n hx hb dJ6_bitCount_0f7a4_35 rfl (lv_at hl 0 rfl) ?_
  refine lv_bipush (v := (nI 8)) hx hb dJ6_bitCount_0f7a4_36 (by decide) ?_
  refine lv_iushr (v := (nI (c3 (c2 (c1 n)) / 256))) hx hb dJ6_bitCount_0f7a4_38 (pk_ushrN (by omega) (nI 8) 8 (by decide)) ?_
  refine z_iadd hx hb dJ6_bitCount_0f7a4_39 ?_
  refine lv_istore_n (lv' := [(0, .int (nI (c4 (c3 (c2 (c1 n))))))]) hx hb dJ6_bitCount_0f7a4_40 rfl hl (by decide) rfl (fun ls hl => ?_)
  refine lv_iload_n hx hb dJ6_bitCount_0f7a4_41 rfl (lv_at hl 0 rfl) ?_
  refine lv_iload_n hx hb dJ6_bitCount_0f7a4_42 rfl (lv_at hl 0 rfl) ?_
  refine lv_bipush (v := (nI 16)) hx hb dJ6_bitCount_0f7a4_43 (by decide) ?_
  refine lv_iushr (v := (nI (c4 (c3 (c2 (c1 n))) / 65536))) hx hb dJ6_bitCount_0f7a4_45 (pk_ushrN (by omega) (nI 16) 16 (by decide)) ?_
  refine z_iadd hx hb dJ6_bitCount_0f7a4_46 ?_
  refine lv_istore_n (lv' := [(0, .int (nI (c5 (c4 (c3 (c2 (c1 n)))))))]) hx hb dJ6_bitCount_0f7a4_47 rfl hl (by decide) rfl (fun ls hl => ?_)
  refine lv_iload_n hx hb dJ6_bitCount_0f7a4_48 rfl (lv_at hl 0 rfl) ?_
  refine lv_bipush (v := (nI 63)) hx hb dJ6_bitCount_0f7a4_49 (by decide) ?_
  refine lv_iand hx hb dJ6_bitCount_0f7a4_51 ?_
  rw [show nI (c5 (c4 (c3 (c2 (c1 n))))) &&& nI 63 = nI (c5 (c4 (c3 (c2 (c1 n)))) &&& 63) from nx_and (c5 (c4 (c3 (c2 (c1 n))))) 63]
  exact W.iret (v := (nI (c5 (c4 (c3 (c2 (c1 n)))) &&& 63))) hx hb hr (fun t9 ht9 hW9 => ⟨⟨(nI (c5 (c4 (c3 (c2 (c1 n)))) &&& 63)), (), rfl, (by rw [q5]), trivial⟩, hS.F ht9⟩) hS.2.2 dJ6_bitCount_0f7a4_52
set_option maxHeartbeats 4000000 in
set_option maxRecDepth 100000 in
theorem c_X0_size_n (l : Launch) (n : Nat) (hn : n < 4294967296) : Met l yX0_size wsX0_size ({ frames := 1, cells := 0, slots := 0, locals := 20 } : Room) (va_Pc [.int (nI n)] (fun _ => True)) (zPo (fun r => r = nI (zpop (nI n)))) 0 0 zNo := by
  refine Met.ofW (cc := cX0_size) (maxL := 1) (ret := (some .int)) (by decide) rfl ?_
  intro p e s m args below meth c s₁ B hml hv
  obtain ⟨rfl, -⟩ := hv
  have hx := B.exec
  have hb := B.bytes
  have hr := B.returns
  have hts := atoms_spec (ws := wsX0_size) B.pre
  have hown : s.vm.findClass RX0 = some m.cls := findClass_of_methodNamed B.named
  have hlocks := B.notSynchronized
  have hS : va_S (fun _ => False) s.heap s.heap [] := va_S.rf
  have hl := lv_entry ([.int (nI n)]) (n := 1) (Nat.le_of_ble_eq_true rfl)
  rw [lg_entry_eq]
  generalize (lg_sl ([.int (nI n)]) ++ List.replicate (1 - (lg_sl ([.int (nI n)])).length) Slot.unset).toArray = ls at hl ⊢
  have hl : lv_has ls 1 [(0, .int (nI n))] := hl
  refine lv_iload_n hx hb dX0_size_0 rfl (lv_at hl 0 rfl) ?_
  refine zrS0 (As := [.int (nI n)]) (rest := []) ⟨hx, hb, hml, hown, hts⟩ (c_J6_bitCount_0f7a4 l n hn) (va_cwS 1 hts gX0_size_J6_bitCount_0f7a4 rfl rfl rfl (by decide +kernel) ⟨Nat.le_of_ble_eq_true rfl, Nat.le_of_ble_eq_true rfl⟩) rfl hl rfl (Nat.le_of_ble_eq_true rfl) dX0_size_1 ⟨Nat.le_of_ble_eq_true rfl, Nat.le_of_ble_eq_true rfl⟩ hS (fun r1 H locs hw1 hk9 hS => ?_)
  obtain rfl : r1 = nI (zpop (nI n)) := hw1
  exact W.iret (v := nI (zpop (nI n))) hx hb hr (fun t9 ht9 hW9 => ⟨⟨nI (zpop (nI n)), (), rfl, rfl, trivial⟩, hS.F ht9⟩) hS.2.2 dX0_size_4
theorem c_X0_size (l : Launch) (x : Int32) : Met l yX0_size wsX0_size ({ frames := 1, cells := 0, slots := 0, locals := 20 } : Room) (va_Pc [.int x] (fun _ => True)) (zPo (fun r => r = nI (zpop x))) 0 0 zNo := by
  obtain ⟨n, hn, rfl⟩ := wb_of32 x
  exact c_X0_size_n l n hn
end
section
theorem ct_no {p : Nat → Bool} {i c : Nat} (hc : c = fb_ct p i) (h : p i = false) : c = fb_ct p (i + 1) := by rw [fb_ct_succ, h]; exact hc
theorem ct_yes {p : Nat → Bool} {i c : Nat} (hc : c = fb_ct p i) (h : p i = true) : c + 1 = fb_ct p (i + 1) := by rw [fb_ct_succ, h, hc]; rfl
/-- d is the greatest of the first n numbers c -/
def isMx (c : Nat → Nat) (n d : Nat) : Prop := (∀ v, v < n → c v ≤ d) ∧ (d = 0 ∨ ∃ v, v < n ∧ c v = d)
theorem isMx_0 (c : Nat → Nat) : isMx c 0 0 := ⟨fun v h => absurd h (Nat.not_lt_zero v), Or.inl rfl⟩
theorem isMx_s {c : Nat → Nat} {i d : Nat} (h : isMx c i d) : isMx c (i + 1) (max d (c i)) := by
  refine ⟨fun v hv => ?_, ?_⟩
  · by_cases e : v = i
    · rw [e]; omega
    · have := h.1 v (by omega); omega
  · rcases Nat.lt_or_ge d (c i) with q | q
    · exact Or.inr ⟨i, by omega, by omega⟩
    · rcases h.2 with q2 | ⟨v, q2, q3⟩
      · exact Or.inl (by omega)
      · exact Or.inr ⟨v, by omega, by omega⟩
theorem z_max {a b : Nat} (ha : a < 2 ^ 31) (hb : b < 2 ^ 31) : (if nI a < nI b then nI b else nI a) = nI (max a b) := by
  by_cases h : a < b
  · rw [if_pos ((nI_ltI ha hb).mpr h), Nat.max_eq_right (Nat.le_of_lt h)]
  · rw [if_neg (fun q => h ((nI_ltI ha hb).mp q)), Nat.max_eq_left (Nat.le_of_not_lt h)]
theorem z_min {a b : Nat} (ha : a < 2 ^ 31) (hb : b < 2 ^ 31) : (if nI b < nI a then nI b else nI a) = nI (min a b) := by
  by_cases h : b < a
  · rw [if_pos ((nI_ltI hb ha).mpr h), Nat.min_eq_right (Nat.le_of_lt h)]
  · rw [if_neg (fun q => h ((nI_ltI hb ha).mp q)), Nat.min_eq_left (Nat.le_of_not_lt h)]
/-- the core numbers lie in cs as c has them -/
def csI (cs : Nat → Int32) (c : Nat → Nat) (N : Nat) : Prop := ∀ v, v < N → cs v = nI (c v) ∧ c v < 20
theorem cst_ofk {cs : Nat → Int32} {c : Nat → Nat} {N : Nat} (hN : N ≤ 20) (h : csI cs c N) (k : Int32) : zmk (fun i => decide (k ≤ cs i)) N = cst c N k.toInt := set_ext fun i => by
  rw [b_mkt _ (by omega), b_cst hN]
  constructor
  · rintro ⟨h1, h2⟩
    refine ⟨h1, ?_⟩
    have h3 := of_decide_eq_true h2
    rw [(h i h1).1, i_leN (by have := (h i h1).2; omega)] at h3
    exact h3
  · rintro ⟨h1, h2⟩
    refine ⟨h1, decide_eq_true ?_⟩
    rw [(h i h1).1, i_leN (by have := (h i h1).2; omega)]
    exact h2
theorem cst_of {cs : Nat → Int32} {c : Nat → Nat} {N : Nat} (hN : N ≤ 20) (h : csI cs c N) {k : Nat} (hk : k < 2 ^ 31) : zmk (fun i => decide (nI k ≤ cs i)) N = cst c N k := by rw [cst_ofk hN h, nI_toInt hk]
def shl (c : Nat → Nat) (N r : Nat) : Int32 := cst c N r &&& znt (cst c N ((r : Int) + 1))
theorem shl_of {cs : Nat → Int32} {c : Nat → Nat} {N : Nat} (hN : N ≤ 20) (h : csI cs c N) {k : Nat} (hk : k + 1 < 2 ^ 31) : (zmk (fun i => decide (nI k ≤ cs i)) N &&& znt (zmk (fun i => decide (nI k + nI 1 ≤ cs i)) N)) = shl c N k := by
  rw [nI_add, cst_of hN h (by omega), cst_of hN h hk]
  rfl
theorem shl_le (c : Nat → Nat) (N r : Nat) : zle (shl c N r) (cst c N r) := le_andl _ _
noncomputable def hie (f : Nat → Int32) (c : Nat → Nat) (N k : Nat) : Nat := ccn f N (cst c N k) (shl c N k)
theorem hie_b (f : Nat → Int32) (c : Nat → Nat) {N : Nat} (hN : N ≤ 20) (n : Nat) : fb_sm (hie f c N) n ≤ n * 20 := fb_sm_bound fun k _ => Nat.le_trans (fb_ct_le _ _) hN
set_option maxHeartbeats 4000000 in
set_option maxRecDepth 100000 in
theorem c_X0_allNodes (l : Launch) (D : va_G) (cy : ClassId) (h a0 a1 a2 N : Nat) (ec cc : Int32) (f cs tr : Nat → Int32) (hN : N ≤ 20) : Met l yX0_allNodes wsX0_allNodes ({ frames := 1, cells := 0, slots := 0, locals := 20 } : Room) (va_Pc [.ref h] (zRd D (wB h a0 a1 a2 cy N ec cc f cs tr) [(cy, .int)])) (zPo (fun r => r = zal N)) 0 0 zNo := by
  refine Met.ofW (cc := cX0_allNodes) (maxL := 1) (ret := (some .int)) (by decide) rfl ?_
  intro p e s m args below meth c s₁ B hml hv
  obtain ⟨rfl, hP, hK⟩ := hv
  have hx := B.exec
  have hb := B.bytes
  have hr := B.returns
  have hts := atoms_spec (ws := wsX0_allNodes) B.pre
  have hown : s.vm.findClass RX0 = some m.cls := findClass_of_methodNamed B.named
  have hlocks := B.notSynchronized
  have hS : va_S (fun _ => False) s.heap s.heap [] := va_S.rf
  have hin : ∀ w ∈ wsX00, w ∈ wsX0_allNodes := by decide +kernel
  have hf19 := hts (.fieldLink RX0 19 "Corebarn" "nodeCount" "I") (by decide +kernel)
  have hl := lv_entry ([.ref h]) (n := 1) (Nat.le_of_ble_eq_true rfl)
  rw [lg_entry_eq]
  generalize (lg_sl ([.ref h]) ++ List.replicate (1 - (lg_sl ([.ref h])).length) Slot.unset).toArray = ls at hl ⊢
  have hl : lv_has ls 1 [(0, .ref h)] := hl
  refine lv_aload_n hx hb dX0_allNodes_0 rfl (lv_at hl 0 rfl) ?_
  refine va_get (D := D) (ci := 0) (v := .int (nI N)) (C := RX0) (T := TX0) (N := 6) hx hb hts hin hown hK hP 0 rfl rfl 3 (by decide) hf19 (fun _ h9 => h9) rfl dX0_allNodes_1 ?_
  refine zrS0 (As := [.int (nI N)]) (rest := []) ⟨hx, hb, hml, hown, hts⟩ (c_X0_single l N) (va_cwS 1 hts gX0_allNodes_X0_single rfl rfl rfl (by decide +kernel) ⟨Nat.le_of_ble_eq_true rfl, Nat.le_of_ble_eq_true rfl⟩) rfl hl rfl (Nat.le_of_ble_eq_true rfl) dX0_allNodes_4 ⟨Nat.le_of_ble_eq_true rfl, Nat.le_of_ble_eq_true rfl⟩ hS (fun r4 H locs hw4 hk9 hS => ?_)
  obtain rfl : r4 = zsg N := hw4
  have hP := zkeep hP hk9
  refine lv_iconst (v := (nI 1)) hx hb dX0_allNodes_7 (by decide) ?_
  refine lv_isub hx hb dX0_allNodes_8 ?_
  exact W.iret (v := (zsg N - (nI 1))) hx hb hr (fun t9 ht9 hW9 => ⟨⟨(zsg N - (nI 1)), (), rfl, rfl, trivial⟩, hS.F ht9⟩) hS.2.2 dX0_allNodes_9
set_option maxHeartbeats 4000000 in
set_option maxRecDepth 100000 in
theorem c_X0_coreSet (l : Launch) (D : va_G) (cy : ClassId) (h a0 a1 a2 N : Nat) (ec cc : Int32) (f cs tr : Nat → Int32) (k : Int32) (hN : N ≤ 20) : Met l yX0_coreSet wsX0_coreSet ({ frames := 2, cells := 0, slots := 0, locals := 41 } : Room) (va_Pc [.ref h, .int k] (zRd D (wB h a0 a1 a2 cy N ec cc f cs tr) [(cy, .int)])) (zPo (fun r => r = zmk (fun i => decide (k ≤ cs i)) N)) 0 0 zNo := by
  refine Met.ofW (cc := cX0_coreSet) (maxL := 4) (ret := (some .int)) (by decide) rfl ?_
  intro p e s m args below meth c s₁ B hml hv
  obtain ⟨rfl, hP, hK⟩ := hv
  have hx := B.exec
  have hb := B.bytes
  have hr := B.returns
  have hts := atoms_spec (ws := wsX0_coreSet) B.pre
  have hown : s.vm.findClass RX0 = some m.cls := findClass_of_methodNamed B.named
  have hlocks := B.notSynchronized
  have hS : va_S (fun _ => False) s.heap s.heap [] := va_S.rf
  have hin : ∀ w ∈ wsX00, w ∈ wsX0_coreSet := by decide +kernel
  have hf13 := hts (.fieldLink RX0 13 "Corebarn" "cores" "[I") (by decide +kernel)
  have hf19 := hts (.fieldLink RX0 19 "Corebarn" "nodeCount" "I") (by decide +kernel)
  have hl := lv_entry ([.ref h, .int k]) (n := 4) (Nat.le_of_ble_eq_true rfl)
  rw [lg_entry_eq]
  generalize (lg_sl ([.ref h, .int k]) ++ List.replicate (4 - (lg_sl ([.ref h, .int k])).length) Slot.unset).toArray = ls at hl ⊢
  have hl : lv_has ls 4 [(0, .ref h), (1, .int k)] := hl
  refine lv_iconst (v := (nI 0)) hx hb dX0_coreSet_0 (by decide) ?_
  refine lv_istore_n (lv' := [(2, .int (nI 0)), (0, .ref h), (1, .int k)]) hx hb dX0_coreSet_1 rfl hl (by decide) rfl (fun ls hl => ?_)
  refine lv_iconst (v := (nI 0)) hx hb dX0_coreSet_2 (by decide) ?_
  refine lv_istore_n (lv' := [(3, .int (nI 0)), (2, .int (nI 0)), (0, .ref h), (1, .int k)]) hx hb dX0_coreSet_3 rfl hl (by decide) rfl (fun ls hl => ?_)
  have K4 : ∀ (fu4 : Nat) (i : Nat) (x : Int32) (H : Heap) (locs : List Loc) (ls : Array Slot), (i ≤ N) → (x = zmk (fun i => decide (k ≤ cs i)) i) → N - i < fu4 → va_P D vwCl (wB h a0 a1 a2 cy N ec cc f cs tr) H → va_S (fun _ => False) s.heap H locs → lv_has ls 4 [(2, .int x), (3, .int (nI i)), (0, .ref h), (1, .int k)] → W p l e (headSpec wsX0_coreSet ({ frames := 2, cells := 0, slots := 0, locals := 41 } : Room)).room s m ([.ref h, .int k] : List Value).toArray below meth c H locs 0 0 (MQ below (zPo (fun r => r = zmk (fun i => decide (k ≤ cs i)) N)) ([.ref h, .int k] : List Value).toArray s 0 0 zNo) (F0 m 4 ls []) := by
    intro fu4
    induction fu4 with
    | zero =>
      intro i x H locs ls hi hxe hfu4
      exact absurd hfu4 (Nat.not_lt_zero _)
    | succ fu4 ih4 =>
      intro i x H locs ls hi hxe hfu4 hP hS hl
      refine lv_iload_n hx hb dX0_coreSet_4 rfl (lv_at hl 1 rfl) ?_
      refine lv_aload_n hx hb dX0_coreSet_5 rfl (lv_at hl 2 rfl) ?_
      refine va_get (D := D) (ci := 0) (v := .int (nI N)) (C := RX0) (T := TX0) (N := 6) hx hb hts hin hown hK hP 0 rfl rfl 3 (by decide) hf19 (fun _ h9 => h9) rfl dX0_coreSet_6 ?_
      refine z_icmp_ge (tgt := 34) hx hb dX0_coreSet_9 (by decide) (by omega) (by omega) (fun h9 => ?_) (fun h9 => ?_)
      · refine lv_iload_n hx hb dX0_coreSet_34 rfl (lv_at hl 0 rfl) ?_
        exact W.iret (v := x) hx hb hr (fun t9 ht9 hW9 => ⟨⟨x, (), rfl, (by rw [hxe, Nat.le_antisymm hi h9]), trivial⟩, hS.F ht9⟩) hS.2.2 dX0_coreSet_35
      · refine lv_aload_n hx hb dX0_coreSet_12 rfl (lv_at hl 2 rfl) ?_
        refine va_get (D := D) (ci := 0) (v := .ref a1) (C := RX0) (T := TX0) (N := 6) hx hb hts hin hown hK hP 0 rfl rfl 1 (by decide) hf13 (fun _ h9 => h9) rfl dX0_coreSet_13 ?_
        refine lv_iload_n hx hb dX0_coreSet_16 rfl (lv_at hl 1 rfl) ?_
        refine z_iald hx hb hK hP 2 0 rfl rfl (by omega) (by decide) dX0_coreSet_17 ?_
        refine lv_iload_n hx hb dX0_coreSet_18 rfl (lv_at hl 3 rfl) ?_
        refine lv_icmp_lt (tgt := 28) hx hb dX0_coreSet_19 (by decide) (fun h19 => ?_) (fun h19 => ?_)
        · refine lv_iinc (v := (nI (i + 1))) (lv' := [(3, .int (nI (i + 1))), (2, .int x), (0, .ref h), (1, .int k)]) hx hb dX0_coreSet_28 hl (k := 1) rfl (nI_1 _) (by decide) rfl (fun ls hl => ?_)
          refine lv_goto (tgt := 4) hx hb dX0_coreSet_31 (by decide) ?_
          exact ih4 (i + 1) x _ _ _ (by omega) (by rw [mk_no (decide_eq_false (Int32.not_le.mpr h19))]; exact hxe) (by omega) hP hS (lv_sub hl [1, 0, 2, 3] rfl)
        · refine lv_iload_n hx hb dX0_coreSet_22 rfl (lv_at hl 0 rfl) ?_
          refine lv_iload_n hx hb dX0_coreSet_23 rfl (lv_at hl 1 rfl) ?_
          refine zrS0 (As := [.int x, .int (nI i)]) (rest := []) ⟨hx, hb, hml, hown, hts⟩ (c_X0_with l x i) (va_cwS 2 hts gX0_coreSet_X0_with rfl rfl rfl (by decide +kernel) ⟨Nat.le_of_ble_eq_true rfl, Nat.le_of_ble_eq_true rfl⟩) rfl hl rfl (Nat.le_of_ble_eq_true rfl) dX0_coreSet_24 ⟨Nat.le_of_ble_eq_true rfl, Nat.le_of_ble_eq_true rfl⟩ hS (fun r24 H locs hw24 hk9 hS => ?_)
          obtain rfl : r24 = (x ||| zsg i) := hw24
          have hP := zkeep hP hk9
          refine lv_istore_n (lv' := [(2, .int (x ||| zsg i)), (3, .int (nI i)), (0, .ref h), (1, .int k)]) hx hb dX0_coreSet_27 rfl hl (by decide) rfl (fun ls hl => ?_)
          refine lv_iinc (v := (nI (i + 1))) (lv' := [(3, .int (nI (i + 1))), (2, .int (x ||| zsg i)), (0, .ref h), (1, .int k)]) hx hb dX0_coreSet_28 hl (k := 1) rfl (nI_1 _) (by decide) rfl (fun ls hl => ?_)
          refine lv_goto (tgt := 4) hx hb dX0_coreSet_31 (by decide) ?_
          exact ih4 (i + 1) (x ||| zsg i) _ _ _ (by omega) (by rw [mk_yes (decide_eq_true (Int32.not_lt.mp h19)), hxe]) (by omega) hP hS (lv_sub hl [1, 0, 2, 3] rfl)
  exact K4 (N - 0 + 1) 0 (nI 0) _ _ _ (by omega) rfl (Nat.lt_succ_self _) hP hS (lv_sub hl [1, 0, 2, 3] rfl)
set_option maxHeartbeats 4000000 in
set_option maxRecDepth 100000 in
theorem c_X0_shellSet (l : Launch) (D : va_G) (cy : ClassId) (h a0 a1 a2 N : Nat) (ec cc : Int32) (f cs tr : Nat → Int32) (k : Int32) (hN : N ≤ 20) : Met l yX0_shellSet wsX0_shellSet ({ frames := 3, cells := 0, slots := 0, locals := 64 } : Room) (va_Pc [.ref h, .int k] (zRd D (wB h a0 a1 a2 cy N ec cc f cs tr) [(cy, .int)])) (zPo (fun r => r = zmk (fun i => decide (k ≤ cs i)) N &&& znt (zmk (fun i => decide (k + nI 1 ≤ cs i)) N))) 0 0 zNo := by
  refine Met.ofW (cc := cX0_shellSet) (maxL := 2) (ret := (some .int)) (by decide) rfl ?_
  intro p e s m args below meth c s₁ B hml hv
  obtain ⟨rfl, hP, hK⟩ := hv
  have hx := B.exec
  have hb := B.bytes
  have hr := B.returns
  have hts := atoms_spec (ws := wsX0_shellSet) B.pre
  have hown : s.vm.findClass RX0 = some m.cls := findClass_of_methodNamed B.named
  have hlocks := B.notSynchronized
  have hS : va_S (fun _ => False) s.heap s.heap [] := va_S.rf
  have hl := lv_entry ([.ref h, .int k]) (n := 2) (Nat.le_of_ble_eq_true rfl)
  rw [lg_entry_eq]
  generalize (lg_sl ([.ref h, .int k]) ++ List.replicate (2 - (lg_sl ([.ref h, .int k])).length) Slot.unset).toArray = ls at hl ⊢
  have hl : lv_has ls 2 [(0, .ref h), (1, .int k)] := hl
  refine lv_aload_n hx hb dX0_shellSet_0 rfl (lv_at hl 0 rfl) ?_
  refine lv_iload_n hx hb dX0_shellSet_1 rfl (lv_at hl 1 rfl) ?_
  refine zrV (As := [.int k]) (rest := []) 0 ⟨hx, hb, hml, hown, hts⟩ (c_X0_coreSet l D cy h a0 a1 a2 N ec cc f cs tr k hN) (cwV 1 hts gX0_shellSet_X0_coreSet rfl rfl rfl (by decide +kernel) ⟨Nat.le_of_ble_eq_true rfl, Nat.le_of_ble_eq_true rfl⟩) hK hP rfl rfl rfl hl rfl (Nat.le_of_ble_eq_true rfl) dX0_shellSet_2 ⟨Nat.le_of_ble_eq_true rfl, Nat.le_of_ble_eq_true rfl⟩ hS (fun r2 H locs hw2 hk9 hS => ?_)
  obtain rfl : r2 = (zmk (fun i => decide (k ≤ cs i)) N) := hw2
  have hP := zkeep hP hk9
  refine lv_aload_n hx hb dX0_shellSet_5 rfl (lv_at hl 0 rfl) ?_
  refine lv_iload_n hx hb dX0_shellSet_6 rfl (lv_at hl 1 rfl) ?_
  refine lv_iconst (v := (nI 1)) hx hb dX0_shellSet_7 (by decide) ?_
  refine lv_iadd hx hb dX0_shellSet_8 ?_
  refine zrV (As := [.int (k + (nI 1))]) (rest := [.int (zmk (fun i => decide (k ≤ cs i)) N)]) 0 ⟨hx, hb, hml, hown, hts⟩ (c_X0_coreSet l D cy h a0 a1 a2 N ec cc f cs tr (k + (nI 1)) hN) (cwV 1 hts gX0_shellSet_X0_coreSet rfl rfl rfl (by decide +kernel) ⟨Nat.le_of_ble_eq_true rfl, Nat.le_of_ble_eq_true rfl⟩) hK hP rfl rfl rfl hl rfl (Nat.le_of_ble_eq_true rfl) dX0_shellSet_9 ⟨Nat.le_of_ble_eq_true rfl, Nat.le_of_ble_eq_true rfl⟩ hS (fun r9 H locs hw9 hk9 hS => ?_)
  obtain rfl : r9 = (zmk (fun i => decide ((k + (nI 1)) ≤ cs i)) N) := hw9
  have hP := zkeep hP hk9
  refine lv_iconst (v := (-1)) hx hb dX0_shellSet_12 (by decide) ?_
  refine lv_ixor hx hb dX0_shellSet_13 ?_
  refine lv_iand hx hb dX0_shellSet_14 ?_
  exact W.iret (v := ((zmk (fun i => decide (k ≤ cs i)) N) &&& ((zmk (fun i => decide ((k + (nI 1)) ≤ cs i)) N) ^^^ (-1)))) hx hb hr (fun t9 ht9 hW9 => ⟨⟨((zmk (fun i => decide (k ≤ cs i)) N) &&& ((zmk (fun i => decide ((k + (nI 1)) ≤ cs i)) N) ^^^ (-1))), (), rfl, rfl, trivial⟩, hS.F ht9⟩) hS.2.2 dX0_shellSet_15
set_option maxHeartbeats 4000000 in
set_option maxRecDepth 100000 in
theorem c_X0_edgesWithin (l : Launch) (D : va_G) (cy : ClassId) (h a0 a1 a2 N : Nat) (ec cc : Int32) (f cs tr : Nat → Int32) (z : Int32) (hN : N ≤ 20) : Met l yX0_edgesWithin wsX0_edgesWithin ({ frames := 2, cells := 0, slots := 0, locals := 41 } : Room) (va_Pc [.ref h, .int z] (zRd D (wB h a0 a1 a2 cy N ec cc f cs tr) [(cy, .int)])) (zPo (fun r => r = nI (ewn f N z))) 0 0 zNo := by
  refine Met.ofW (cc := cX0_edgesWithin) (maxL := 4) (ret := (some .int)) (by decide) rfl ?_
  intro p e s m args below meth c s₁ B hml hv
  obtain ⟨rfl, hP, hK⟩ := hv
  have hx := B.exec
  have hb := B.bytes
  have hr := B.returns
  have hts := atoms_spec (ws := wsX0_edgesWithin) B.pre
  have hown : s.vm.findClass RX0 = some m.cls := findClass_of_methodNamed B.named
  have hlocks := B.notSynchronized
  have hS : va_S (fun _ => False) s.heap s.heap [] := va_S.rf
  have hin : ∀ w ∈ wsX00, w ∈ wsX0_edgesWithin := by decide +kernel
  have hf9 := hts (.fieldLink RX0 9 "Corebarn" "neighbours" "[I") (by decide +kernel)
  have hf19 := hts (.fieldLink RX0 19 "Corebarn" "nodeCount" "I") (by decide +kernel)
  have hl := lv_entry ([.ref h, .int z]) (n := 4) (Nat.le_of_ble_eq_true rfl)
  rw [lg_entry_eq]
  generalize (lg_sl ([.ref h, .int z]) ++ List.replicate (4 - (lg_sl ([.ref h, .int z])).length) Slot.unset).toArray = ls at hl ⊢
  have hl : lv_has ls 4 [(0, .ref h), (1, .int z)] := hl
  refine lv_iconst (v := (nI 0)) hx hb dX0_edgesWithin_0 (by decide) ?_
  refine lv_istore_n (lv' := [(2, .int (nI 0)), (0, .ref h), (1, .int z)]) hx hb dX0_edgesWithin_1 rfl hl (by decide) rfl (fun ls hl => ?_)
  refine lv_iconst (v := (nI 0)) hx hb dX0_edgesWithin_2 (by decide) ?_
  refine lv_istore_n (lv' := [(3, .int (nI 0)), (2, .int (nI 0)), (0, .ref h), (1, .int z)]) hx hb dX0_edgesWithin_3 rfl hl (by decide) rfl (fun ls hl => ?_)
  have K4 : ∀ (fu4 : Nat) (i : Nat) (x : Nat) (H : Heap) (locs : List Loc) (ls : Array Slot), (i ≤ N) → (x = fb_sm (ews f z) i) → N - i < fu4 → va_P D vwCl (wB h a0 a1 a2 cy N ec cc f cs tr) H → va_S (fun _ => False) s.heap H locs → lv_has ls 4 [(2, .int (nI x)), (3, .int (nI i)), (0, .ref h), (1, .int z)] → W p l e (headSpec wsX0_edgesWithin ({ frames := 2, cells := 0, slots := 0, locals := 41 } : Room)).room s m ([.ref h, .int z] : List Value).toArray below meth c H locs 0 0 (MQ below (zPo (fun r => r = nI (ewn f N z))) ([.ref h, .int z] : List Value).toArray s 0 0 zNo) (F0 m 4 ls []) := by
    intro fu4
    induction fu4 with
    | zero =>
      intro i x H locs ls hi hxe hfu4
      exact absurd hfu4 (Nat.not_lt_zero _)
    | succ fu4 ih4 =>
      intro i x H locs ls hi hxe hfu4 hP hS hl
      have hxb := ews_b f z i
      refine lv_iload_n hx hb dX0_edgesWithin_4 rfl (lv_at hl 1 rfl) ?_
      refine lv_aload_n hx hb dX0_edgesWithin_5 rfl (lv_at hl 2 rfl) ?_
      refine va_get (D := D) (ci := 0) (v := .int (nI N)) (C := RX0) (T := TX0) (N := 6) hx hb hts hin hown hK hP 0 rfl rfl 3 (by decide) hf19 (fun _ h9 => h9) rfl dX0_edgesWithin_6 ?_
      refine z_icmp_ge (tgt := 40) hx hb dX0_edgesWithin_9 (by decide) (by omega) (by omega) (fun h9 => ?_) (fun h9 => ?_)
      · refine lv_iload_n hx hb dX0_edgesWithin_40 rfl (lv_at hl 0 rfl) ?_
        refine lv_iconst (v := (nI 2)) hx hb dX0_edgesWithin_41 (by decide) ?_
        refine z_idiv hx hb dX0_edgesWithin_42 (by omega) (by omega) (by omega) ?_
        exact W.iret (v := (nI (x / 2))) hx hb hr (fun t9 ht9 hW9 => ⟨⟨(nI (x / 2)), (), rfl, (by rw [hxe, Nat.le_antisymm hi h9]; rfl), trivial⟩, hS.F ht9⟩) hS.2.2 dX0_edgesWithin_43
      · refine lv_iload_n hx hb dX0_edgesWithin_12 rfl (lv_at hl 3 rfl) ?_
        refine lv_iload_n hx hb dX0_edgesWithin_13 rfl (lv_at hl 1 rfl) ?_
        refine zrS0 (As := [.int z, .int (nI i)]) (rest := []) ⟨hx, hb, hml, hown, hts⟩ (c_X0_contains l z i (by omega)) (va_cwS 2 hts gX0_edgesWithin_X0_contains rfl rfl rfl (by decide +kernel) ⟨Nat.le_of_ble_eq_true rfl, Nat.le_of_ble_eq_true rfl⟩) rfl hl rfl (Nat.le_of_ble_eq_true rfl) dX0_edgesWithin_14 ⟨Nat.le_of_ble_eq_true rfl, Nat.le_of_ble_eq_true rfl⟩ hS (fun r14 H locs hw14 hk9 hS => ?_)
        obtain rfl : r14 = (zb (bt z i)) := hw14
        have hP := zkeep hP hk9
        refine z_ifb_eq (tgt := 34) hx hb dX0_edgesWithin_17 (by decide) (fun h17 => ?_) (fun h17 => ?_)
        · refine lv_iinc (v := (nI (i + 1))) (lv' := [(3, .int (nI (i + 1))), (2, .int (nI x)), (0, .ref h), (1, .int z)]) hx hb dX0_edgesWithin_34 hl (k := 1) rfl (nI_1 _) (by decide) rfl (fun ls hl => ?_)
          refine lv_goto (tgt := 4) hx hb dX0_edgesWithin_37 (by decide) ?_
          exact ih4 (i + 1) x _ _ _ (by omega) (by rw [ews_no h17]; exact hxe) (by omega) hP hS (lv_sub hl [1, 0, 2, 3] rfl)
        · refine lv_iload_n hx hb dX0_edgesWithin_20 rfl (lv_at hl 0 rfl) ?_
          refine lv_aload_n hx hb dX0_edgesWithin_21 rfl (lv_at hl 2 rfl) ?_
          refine va_get (D := D) (ci := 0) (v := .ref a0) (C := RX0) (T := TX0) (N := 6) hx hb hts hin hown hK hP 0 rfl rfl 0 (by decide) hf9 (fun _ h9 => h9) rfl dX0_edgesWithin_22 ?_
          refine lv_iload_n hx hb dX0_edgesWithin_25 rfl (lv_at hl 1 rfl) ?_
          refine z_iald hx hb hK hP 1 0 rfl rfl (by omega) (by decide) dX0_edgesWithin_26 ?_
          refine lv_iload_n hx hb dX0_edgesWithin_27 rfl (lv_at hl 3 rfl) ?_
          refine lv_iand hx hb dX0_edgesWithin_28 ?_
          refine zrS0 (As := [.int ((f i) &&& z)]) (rest := [.int (nI x)]) ⟨hx, hb, hml, hown, hts⟩ (c_X0_size l ((f i) &&& z)) (va_cwS 1 hts gX0_edgesWithin_X0_size rfl rfl rfl (by decide +kernel) ⟨Nat.le_of_ble_eq_true rfl, Nat.le_of_ble_eq_true rfl⟩) rfl hl rfl (Nat.le_of_ble_eq_true rfl) dX0_edgesWithin_29 ⟨Nat.le_of_ble_eq_true rfl, Nat.le_of_ble_eq_true rfl⟩ hS (fun r29 H locs hw29 hk9 hS => ?_)
          obtain rfl : r29 = (nI (zpop ((f i) &&& z))) := hw29
          have hP := zkeep hP hk9
          refine z_iadd hx hb dX0_edgesWithin_32 ?_
          refine lv_istore_n (lv' := [(2, .int (nI (x + (zpop ((f i) &&& z))))), (3, .int (nI i)), (0, .ref h), (1, .int z)]) hx hb dX0_edgesWithin_33 rfl hl (by decide) rfl (fun ls hl => ?_)
          refine lv_iinc (v := (nI (i + 1))) (lv' := [(3, .int (nI (i + 1))), (2, .int (nI (x + (zpop ((f i) &&& z))))), (0, .ref h), (1, .int z)]) hx hb dX0_edgesWithin_34 hl (k := 1) rfl (nI_1 _) (by decide) rfl (fun ls hl => ?_)
          refine lv_goto (tgt := 4) hx hb dX0_edgesWithin_37 (by decide) ?_
          exact ih4 (i + 1) (x + (zpop ((f i) &&& z))) _ _ _ (by omega) (by rw [ews_yes h17, hxe]) (by omega) hP hS (lv_sub hl [1, 0, 2, 3] rfl)
  exact K4 (N - 0 + 1) 0 0 _ _ _ (by omega) rfl (Nat.lt_succ_self _) hP hS (lv_sub hl [1, 0, 2, 3] rfl)
set_option maxHeartbeats 4000000 in
set_option maxRecDepth 100000 in
theorem c_X0_reach (l : Launch) (D : va_G) (cy : ClassId) (h a0 a1 a2 N : Nat) (ec cc : Int32) (f cs tr : Nat → Int32) (q z : Int32) (hN : N ≤ 20) (hz : zsub z N) : Met l yX0_reach wsX0_reach ({ frames := 2, cells := 0, slots := 0, locals := 41 } : Room) (va_Pc [.ref h, .int q, .int z] (zRd D (wB h a0 a1 a2 cy N ec cc f cs tr) [(cy, .int)])) (zPo (fun r => rch f q z r)) 0 0 zNo := by
  refine Met.ofW (cc := cX0_reach) (maxL := 7) (ret := (some .int)) (by decide) rfl ?_
  intro p e s m args below meth c s₁ B hml hv
  obtain ⟨rfl, hP, hK⟩ := hv
  have hx := B.exec
  have hb := B.bytes
  have hr := B.returns
  have hts := atoms_spec (ws := wsX0_reach) B.pre
  have hown : s.vm.findClass RX0 = some m.cls := findClass_of_methodNamed B.named
  have hlocks := B.notSynchronized
  have hS : va_S (fun _ => False) s.heap s.heap [] := va_S.rf
  have hin : ∀ w ∈ wsX00, w ∈ wsX0_reach := by decide +kernel
  have hf9 := hts (.fieldLink RX0 9 "Corebarn" "neighbours" "[I") (by decide +kernel)
  have hf19 := hts (.fieldLink RX0 19 "Corebarn" "nodeCount" "I") (by decide +kernel)
  have hl := lv_entry ([.ref h, .int q, .int z]) (n := 7) (Nat.le_of_ble_eq_true rfl)
  rw [lg_entry_eq]
  generalize (lg_sl ([.ref h, .int q, .int z]) ++ List.replicate (7 - (lg_sl ([.ref h, .int q, .int z])).length) Slot.unset).toArray = ls at hl ⊢
  have hl : lv_has ls 7 [(0, .ref h), (1, .int q), (2, .int z)] := hl
  refine lv_iload_n hx hb dX0_reach_0 rfl (lv_at hl 1 rfl) ?_
  refine lv_iload_n hx hb dX0_reach_1 rfl (lv_at hl 2 rfl) ?_
  refine lv_iand hx hb dX0_reach_2 ?_
  refine lv_istore_n (lv' := [(3, .int (q &&& z)), (0, .ref h), (1, .int q), (2, .int z)]) hx hb dX0_reach_3 rfl hl (by decide) rfl (fun ls hl => ?_)
  refine lv_iconst (v := (nI 0)) hx hb dX0_reach_4 (by decide) ?_
  refine lv_istore (lv' := [(4, .int (nI 0)), (3, .int (q &&& z)), (0, .ref h), (1, .int q), (2, .int z)]) hx hb dX0_reach_5 hl (by decide) rfl (fun ls hl => ?_)
  have K7 : ∀ (fu7 : Nat) (t : Nat) (x : Int32) (H : Heap) (locs : List Loc) (ls : Array Slot), (t ≤ N) → (rI f q z x) → (t ≤ zpop x) → N - t < fu7 → va_P D vwCl (wB h a0 a1 a2 cy N ec cc f cs tr) H → va_S (fun _ => False) s.heap H locs → lv_has ls 7 [(4, .int (nI t)), (3, .int x), (0, .ref h), (1, .int q), (2, .int z)] → W p l e (headSpec wsX0_reach ({ frames := 2, cells := 0, slots := 0, locals := 41 } : Room)).room s m ([.ref h, .int q, .int z] : List Value).toArray below meth c H locs 0 0 (MQ below (zPo (fun r => rch f q z r)) ([.ref h, .int q, .int z] : List Value).toArray s 0 0 zNo) (F0 m 7 ls []) := by
    intro fu7
    induction fu7 with
    | zero =>
      intro t x H locs ls ht hI hpop hfu7
      exact absurd hfu7 (Nat.not_lt_zero _)
    | succ fu7 ih7 =>
      intro t x H locs ls ht hI hpop hfu7 hP hS hl
      refine lv_iload hx hb dX0_reach_7 (lv_at hl 0 rfl) ?_
      refine lv_aload_n hx hb dX0_reach_9 rfl (lv_at hl 2 rfl) ?_
      refine va_get (D := D) (ci := 0) (v := .int (nI N)) (C := RX0) (T := TX0) (N := 6) hx hb hts hin hown hK hP 0 rfl rfl 3 (by decide) hf19 (fun _ h9 => h9) rfl dX0_reach_10 ?_
      refine z_icmp_ge (tgt := 77) hx hb dX0_reach_13 (by decide) (by omega) (by omega) (fun h13 => ?_) (fun h13 => ?_)
      · refine lv_iload_n hx hb dX0_reach_77 rfl (lv_at hl 1 rfl) ?_
        exact W.iret (v := x) hx hb hr (fun t9 ht9 hW9 => ⟨⟨x, (), rfl, (rI_full hN hz hI hpop h13), trivial⟩, hS.F ht9⟩) hS.2.2 dX0_reach_78
      · refine lv_iload_n hx hb dX0_reach_16 rfl (lv_at hl 1 rfl) ?_
        refine lv_istore (lv' := [(5, .int x), (4, .int (nI t)), (3, .int x), (0, .ref h), (1, .int q), (2, .int z)]) hx hb dX0_reach_17 hl (by decide) rfl (fun ls hl => ?_)
        refine lv_iconst (v := (nI 0)) hx hb dX0_reach_19 (by decide) ?_
        refine lv_istore (lv' := [(6, .int (nI 0)), (5, .int x), (4, .int (nI t)), (3, .int x), (0, .ref h), (1, .int q), (2, .int z)]) hx hb dX0_reach_20 hl (by decide) rfl (fun ls hl => ?_)
        have K22 : ∀ (fu22 : Nat) (i : Nat) (y : Int32) (H : Heap) (locs : List Loc) (ls : Array Slot), (i ≤ N) → (rJ f z x i y) → N - i < fu22 → va_P D vwCl (wB h a0 a1 a2 cy N ec cc f cs tr) H → va_S (fun _ => False) s.heap H locs → lv_has ls 7 [(6, .int (nI i)), (5, .int y), (0, .ref h), (1, .int q), (2, .int z), (3, .int x), (4, .int (nI t))] → W p l e (headSpec wsX0_reach ({ frames := 2, cells := 0, slots := 0, locals := 41 } : Room)).room s m ([.ref h, .int q, .int z] : List Value).toArray below meth c H locs 0 0 (MQ below (zPo (fun r => rch f q z r)) ([.ref h, .int q, .int z] : List Value).toArray s 0 0 zNo) (F0 m 22 ls []) := by
          intro fu22
          induction fu22 with
          | zero =>
            intro i y H locs ls hi hJ hfu22
            exact absurd hfu22 (Nat.not_lt_zero _)
          | succ fu22 ih22 =>
            intro i y H locs ls hi hJ hfu22 hP hS hl
            refine lv_iload hx hb dX0_reach_22 (lv_at hl 0 rfl) ?_
            refine lv_aload_n hx hb dX0_reach_24 rfl (lv_at hl 2 rfl) ?_
            refine va_get (D := D) (ci := 0) (v := .int (nI N)) (C := RX0) (T := TX0) (N := 6) hx hb hts hin hown hK hP 0 rfl rfl 3 (by decide) hf19 (fun _ h9 => h9) rfl dX0_reach_25 ?_
            refine z_icmp_ge (tgt := 60) hx hb dX0_reach_28 (by decide) (by omega) (by omega) (fun h28 => ?_) (fun h28 => ?_)
            · refine lv_iload hx hb dX0_reach_60 (lv_at hl 1 rfl) ?_
              refine lv_iload_n hx hb dX0_reach_62 rfl (lv_at hl 5 rfl) ?_
              refine lv_icmp_ne (tgt := 68) hx hb dX0_reach_63 (by decide) (fun h63 => ?_) (fun h63 => ?_)
              · refine lv_iload hx hb dX0_reach_68 (lv_at hl 1 rfl) ?_
                refine lv_istore_n (lv' := [(3, .int y), (6, .int (nI i)), (5, .int y), (0, .ref h), (1, .int q), (2, .int z), (4, .int (nI t))]) hx hb dX0_reach_70 rfl hl (by decide) rfl (fun ls hl => ?_)
                refine lv_iinc (v := (nI (t + 1))) (lv' := [(4, .int (nI (t + 1))), (3, .int y), (6, .int (nI i)), (5, .int y), (0, .ref h), (1, .int q), (2, .int z)]) hx hb dX0_reach_71 hl (k := 6) rfl (nI_1 _) (by decide) rfl (fun ls hl => ?_)
                refine lv_goto (tgt := 7) hx hb dX0_reach_74 (by decide) ?_
                exact ih7 (t + 1) y _ _ _ (by omega) (rI_step hI (Nat.le_antisymm hi h28 ▸ hJ)) (by have := rI_grow hJ h63; omega) (by omega) hP hS (lv_sub hl [0, 1, 4, 5, 6] rfl)
              · refine lv_iload_n hx hb dX0_reach_66 rfl (lv_at hl 5 rfl) ?_
                exact W.iret (v := x) hx hb hr (fun t9 ht9 hW9 => ⟨⟨x, (), rfl, (rI_end hz hI (by rw [Nat.le_antisymm hi h28, h63] at hJ; exact hJ)), trivial⟩, hS.F ht9⟩) hS.2.2 dX0_reach_67
            · refine lv_iload_n hx hb dX0_reach_31 rfl (lv_at hl 5 rfl) ?_
              refine lv_iload hx hb dX0_reach_32 (lv_at hl 0 rfl) ?_
              refine zrS0 (As := [.int x, .int (nI i)]) (rest := []) ⟨hx, hb, hml, hown, hts⟩ (c_X0_contains l x i (by omega)) (va_cwS 2 hts gX0_reach_X0_contains rfl rfl rfl (by decide +kernel) ⟨Nat.le_of_ble_eq_true rfl, Nat.le_of_ble_eq_true rfl⟩) rfl hl rfl (Nat.le_of_ble_eq_true rfl) dX0_reach_34 ⟨Nat.le_of_ble_eq_true rfl, Nat.le_of_ble_eq_true rfl⟩ hS (fun r34 H locs hw34 hk9 hS => ?_)
              obtain rfl : r34 = (zb (bt x i)) := hw34
              have hP := zkeep hP hk9
              refine z_ifb_eq (tgt := 54) hx hb dX0_reach_37 (by decide) (fun h37 => ?_) (fun h37 => ?_)
              · refine lv_iinc (v := (nI (i + 1))) (lv' := [(6, .int (nI (i + 1))), (5, .int y), (0, .ref h), (1, .int q), (2, .int z), (3, .int x), (4, .int (nI t))]) hx hb dX0_reach_54 hl (k := 0) rfl (nI_1 _) (by decide) rfl (fun ls hl => ?_)
                refine lv_goto (tgt := 22) hx hb dX0_reach_57 (by decide) ?_
                exact ih22 (i + 1) y _ _ _ (by omega) (rJ_no h37 hJ) (by omega) hP hS (lv_sub hl [0, 1, 2, 3, 4, 5, 6] rfl)
              · refine lv_iload hx hb dX0_reach_40 (lv_at hl 1 rfl) ?_
                refine lv_aload_n hx hb dX0_reach_42 rfl (lv_at hl 2 rfl) ?_
                refine va_get (D := D) (ci := 0) (v := .ref a0) (C := RX0) (T := TX0) (N := 6) hx hb hts hin hown hK hP 0 rfl rfl 0 (by decide) hf9 (fun _ h9 => h9) rfl dX0_reach_43 ?_
                refine lv_iload hx hb dX0_reach_46 (lv_at hl 0 rfl) ?_
                refine z_iald hx hb hK hP 1 0 rfl rfl (by omega) (by decide) dX0_reach_48 ?_
                refine lv_iload_n hx hb dX0_reach_49 rfl (lv_at hl 4 rfl) ?_
                refine lv_iand hx hb dX0_reach_50 ?_
                refine lv_ior hx hb dX0_reach_51 ?_
                refine lv_istore (lv' := [(5, .int (y ||| ((f i) &&& z))), (6, .int (nI i)), (0, .ref h), (1, .int q), (2, .int z), (3, .int x), (4, .int (nI t))]) hx hb dX0_reach_52 hl (by decide) rfl (fun ls hl => ?_)
                refine lv_iinc (v := (nI (i + 1))) (lv' := [(6, .int (nI (i + 1))), (5, .int (y ||| ((f i) &&& z))), (0, .ref h), (1, .int q), (2, .int z), (3, .int x), (4, .int (nI t))]) hx hb dX0_reach_54 hl (k := 1) rfl (nI_1 _) (by decide) rfl (fun ls hl => ?_)
                refine lv_goto (tgt := 22) hx hb dX0_reach_57 (by decide) ?_
                exact ih22 (i + 1) (y ||| ((f i) &&& z)) _ _ _ (by omega) (rJ_yes h37 hJ) (by omega) hP hS (lv_sub hl [0, 1, 2, 3, 4, 5, 6] rfl)
        exact K22 (N - 0 + 1) 0 x _ _ _ (by omega) (rJ_0 f z x) (Nat.lt_succ_self _) hP hS (lv_sub hl [0, 1, 4, 5, 6, 3, 2] rfl)
  exact K7 (N - 0 + 1) 0 (q &&& z) _ _ _ (by omega) (rI_0 f q z) (by omega) (Nat.lt_succ_self _) hP hS (lv_sub hl [0, 1, 2, 3, 4] rfl)
set_option maxHeartbeats 4000000 in
set_option maxRecDepth 100000 in
theorem c_X0_countCommunities (l : Launch) (D : va_G) (cy : ClassId) (h a0 a1 a2 N : Nat) (ec cc : Int32) (f cs tr : Nat → Int32) (z w : Int32) (hN : N ≤ 20) (hg : gd f N) (hz : zsub z N) (hwz : zle w z) : Met l yX0_countCommunities wsX0_countCommunities ({ frames := 3, cells := 0, slots := 0, locals := 67 } : Room) (va_Pc [.ref h, .int z, .int w] (zRd D (wB h a0 a1 a2 cy N ec cc f cs tr) [(cy, .int)])) (zPo (fun r => r = nI (ccn f N z w))) 0 0 zNo := by
  refine Met.ofW (cc := cX0_countCommunities) (maxL := 6) (ret := (some .int)) (by decide) rfl ?_
  intro p e s m args below meth c s₁ B hml hv
  obtain ⟨rfl, hP, hK⟩ := hv
  have hx := B.exec
  have hb := B.bytes
  have hr := B.returns
  have hts := atoms_spec (ws := wsX0_countCommunities) B.pre
  have hown : s.vm.findClass RX0 = some m.cls := findClass_of_methodNamed B.named
  have hlocks := B.notSynchronized
  have hS : va_S (fun _ => False) s.heap s.heap [] := va_S.rf
  have hin : ∀ w ∈ wsX00, w ∈ wsX0_countCommunities := by decide +kernel
  have hf19 := hts (.fieldLink RX0 19 "Corebarn" "nodeCount" "I") (by decide +kernel)
  have hl := lv_entry ([.ref h, .int z, .int w]) (n := 6) (Nat.le_of_ble_eq_true rfl)
  rw [lg_entry_eq]
  generalize (lg_sl ([.ref h, .int z, .int w]) ++ List.replicate (6 - (lg_sl ([.ref h, .int z, .int w])).length) Slot.unset).toArray = ls at hl ⊢
  have hl : lv_has ls 6 [(0, .ref h), (1, .int z), (2, .int w)] := hl
  refine lv_iconst (v := (nI 0)) hx hb dX0_countCommunities_0 (by decide) ?_
  refine lv_istore_n (lv' := [(3, .int (nI 0)), (0, .ref h), (1, .int z), (2, .int w)]) hx hb dX0_countCommunities_1 rfl hl (by decide) rfl (fun ls hl => ?_)
  refine lv_iload_n hx hb dX0_countCommunities_2 rfl (lv_at hl 3 rfl) ?_
  refine lv_istore (lv' := [(4, .int w), (3, .int (nI 0)), (0, .ref h), (1, .int z), (2, .int w)]) hx hb dX0_countCommunities_3 hl (by decide) rfl (fun ls hl => ?_)
  refine lv_iconst (v := (nI 0)) hx hb dX0_countCommunities_5 (by decide) ?_
  refine lv_istore (lv' := [(5, .int (nI 0)), (4, .int w), (3, .int (nI 0)), (0, .ref h), (1, .int z), (2, .int w)]) hx hb dX0_countCommunities_6 hl (by decide) rfl (fun ls hl => ?_)
  have K8 : ∀ (fu8 : Nat) (i : Nat) (o : Int32) (k : Nat) (H : Heap) (locs : List Loc) (ls : Array Slot), (i ≤ N) → (cI f z w i o) → (k = fb_ct (fst1 f z w) i) → N - i < fu8 → va_P D vwCl (wB h a0 a1 a2 cy N ec cc f cs tr) H → va_S (fun _ => False) s.heap H locs → lv_has ls 6 [(5, .int (nI i)), (4, .int o), (3, .int (nI k)), (0, .ref h), (1, .int z), (2, .int w)] → W p l e (headSpec wsX0_countCommunities ({ frames := 3, cells := 0, slots := 0, locals := 67 } : Room)).room s m ([.ref h, .int z, .int w] : List Value).toArray below meth c H locs 0 0 (MQ below (zPo (fun r => r = nI (ccn f N z w))) ([.ref h, .int z, .int w] : List Value).toArray s 0 0 zNo) (F0 m 8 ls []) := by
    intro fu8
    induction fu8 with
    | zero =>
      intro i o k H locs ls hi hI hk0 hfu8
      exact absurd hfu8 (Nat.not_lt_zero _)
    | succ fu8 ih8 =>
      intro i o k H locs ls hi hI hk0 hfu8 hP hS hl
      have hkb : k ≤ i := by rw [hk0]; exact fb_ct_le _ _
      refine lv_iload hx hb dX0_countCommunities_8 (lv_at hl 0 rfl) ?_
      refine lv_aload_n hx hb dX0_countCommunities_10 rfl (lv_at hl 3 rfl) ?_
      refine va_get (D := D) (ci := 0) (v := .int (nI N)) (C := RX0) (T := TX0) (N := 6) hx hb hts hin hown hK hP 0 rfl rfl 3 (by decide) hf19 (fun _ h9 => h9) rfl dX0_countCommunities_11 ?_
      refine z_icmp_ge (tgt := 53) hx hb dX0_countCommunities_14 (by decide) (by omega) (by omega) (fun h14 => ?_) (fun h14 => ?_)
      · refine lv_iload_n hx hb dX0_countCommunities_53 rfl (lv_at hl 2 rfl) ?_
        exact W.iret (v := (nI k)) hx hb hr (fun t9 ht9 hW9 => ⟨⟨(nI k), (), rfl, (by rw [hk0, Nat.le_antisymm hi h14]; rfl), trivial⟩, hS.F ht9⟩) hS.2.2 dX0_countCommunities_54
      · refine lv_iload hx hb dX0_countCommunities_17 (lv_at hl 1 rfl) ?_
        refine lv_iload hx hb dX0_countCommunities_19 (lv_at hl 0 rfl) ?_
        refine zrS0 (As := [.int o, .int (nI i)]) (rest := []) ⟨hx, hb, hml, hown, hts⟩ (c_X0_contains l o i (by omega)) (va_cwS 2 hts gX0_countCommunities_X0_contains rfl rfl rfl (by decide +kernel) ⟨Nat.le_of_ble_eq_true rfl, Nat.le_of_ble_eq_true rfl⟩) rfl hl rfl (Nat.le_of_ble_eq_true rfl) dX0_countCommunities_21 ⟨Nat.le_of_ble_eq_true rfl, Nat.le_of_ble_eq_true rfl⟩ hS (fun r21 H locs hw21 hk9 hS => ?_)
        obtain rfl : r21 = (zb (bt o i)) := hw21
        have hP := zkeep hP hk9
        refine z_ifb_eq (tgt := 47) hx hb dX0_countCommunities_24 (by decide) (fun h24 => ?_) (fun h24 => ?_)
        · refine lv_iinc (v := (nI (i + 1))) (lv' := [(5, .int (nI (i + 1))), (4, .int o), (3, .int (nI k)), (0, .ref h), (1, .int z), (2, .int w)]) hx hb dX0_countCommunities_47 hl (k := 0) rfl (nI_1 _) (by decide) rfl (fun ls hl => ?_)
          refine lv_goto (tgt := 8) hx hb dX0_countCommunities_50 (by decide) ?_
          exact ih8 (i + 1) o k _ _ _ (by omega) (cI_no (sym_of hg hz) hwz hI h24).2 (ct_no hk0 (cI_no (sym_of hg hz) hwz hI h24).1) (by omega) hP hS (lv_sub hl [0, 1, 2, 3, 4, 5] rfl)
        · refine lv_iload hx hb dX0_countCommunities_27 (lv_at hl 1 rfl) ?_
          refine lv_aload_n hx hb dX0_countCommunities_29 rfl (lv_at hl 3 rfl) ?_
          refine lv_iload hx hb dX0_countCommunities_30 (lv_at hl 0 rfl) ?_
          refine zrS0 (As := [.int (nI i)]) (rest := [.ref h, .int o]) ⟨hx, hb, hml, hown, hts⟩ (c_X0_single l i) (va_cwS 1 hts gX0_countCommunities_X0_single rfl rfl rfl (by decide +kernel) ⟨Nat.le_of_ble_eq_true rfl, Nat.le_of_ble_eq_true rfl⟩) rfl hl rfl (Nat.le_of_ble_eq_true rfl) dX0_countCommunities_32 ⟨Nat.le_of_ble_eq_true rfl, Nat.le_of_ble_eq_true rfl⟩ hS (fun r32 H locs hw32 hk9 hS => ?_)
          obtain rfl : r32 = zsg i := hw32
          have hP := zkeep hP hk9
          refine lv_iload_n hx hb dX0_countCommunities_35 rfl (lv_at hl 4 rfl) ?_
          refine zrV (As := [.int (zsg i), .int z]) (rest := [.int o]) 0 ⟨hx, hb, hml, hown, hts⟩ (c_X0_reach l D cy h a0 a1 a2 N ec cc f cs tr (zsg i) z hN hz) (cwV 2 hts gX0_countCommunities_X0_reach rfl rfl rfl (by decide +kernel) ⟨Nat.le_of_ble_eq_true rfl, Nat.le_of_ble_eq_true rfl⟩) hK hP rfl rfl rfl hl rfl (Nat.le_of_ble_eq_true rfl) dX0_countCommunities_36 ⟨Nat.le_of_ble_eq_true rfl, Nat.le_of_ble_eq_true rfl⟩ hS (fun r36 H locs hw36 hk9 hS => ?_)
          have hw36 : rch f (zsg i) z r36 := hw36
          obtain rfl : r36 = cmp f z i := cmp_of hw36
          have hP := zkeep hP hk9
          refine lv_iconst (v := (-1)) hx hb dX0_countCommunities_39 (by decide) ?_
          refine lv_ixor hx hb dX0_countCommunities_40 ?_
          refine lv_iand hx hb dX0_countCommunities_41 ?_
          refine lv_istore (lv' := [(4, .int (o &&& ((cmp f z i) ^^^ (-1)))), (5, .int (nI i)), (3, .int (nI k)), (0, .ref h), (1, .int z), (2, .int w)]) hx hb dX0_countCommunities_42 hl (by decide) rfl (fun ls hl => ?_)
          refine lv_iinc (v := (nI (k + 1))) (lv' := [(3, .int (nI (k + 1))), (4, .int (o &&& ((cmp f z i) ^^^ (-1)))), (5, .int (nI i)), (0, .ref h), (1, .int z), (2, .int w)]) hx hb dX0_countCommunities_44 hl (k := 2) rfl (nI_1 _) (by decide) rfl (fun ls hl => ?_)
          refine lv_iinc (v := (nI (i + 1))) (lv' := [(5, .int (nI (i + 1))), (3, .int (nI (k + 1))), (4, .int (o &&& ((cmp f z i) ^^^ (-1)))), (0, .ref h), (1, .int z), (2, .int w)]) hx hb dX0_countCommunities_47 hl (k := 2) rfl (nI_1 _) (by decide) rfl (fun ls hl => ?_)
          refine lv_goto (tgt := 8) hx hb dX0_countCommunities_50 (by decide) ?_
          exact ih8 (i + 1) (o &&& ((cmp f z i) ^^^ (-1))) (k + 1) _ _ _ (by omega) (cI_yes hI h24).2 (ct_yes hk0 (cI_yes hI h24).1) (by omega) hP hS (lv_sub hl [0, 2, 1, 3, 4, 5] rfl)
  exact K8 (N - 0 + 1) 0 w 0 _ _ _ (by omega) (cI_0 f z w) rfl (Nat.lt_succ_self _) hP hS (lv_sub hl [0, 1, 2, 3, 4, 5] rfl)
set_option maxHeartbeats 4000000 in
set_option maxRecDepth 100000 in
theorem c_X0_nextToPeel (l : Launch) (D : va_G) (cy : ClassId) (h a0 a1 a2 N : Nat) (ec cc : Int32) (f cs tr : Nat → Int32) (z : Int32) (hN : N ≤ 20) : Met l yX0_nextToPeel wsX0_nextToPeel ({ frames := 2, cells := 0, slots := 0, locals := 41 } : Room) (va_Pc [.ref h, .int z] (zRd D (wB h a0 a1 a2 cy N ec cc f cs tr) [(cy, .int)])) (zPo (fun r => r = nI (npk f z N).1)) 0 0 zNo := by
  refine Met.ofW (cc := cX0_nextToPeel) (maxL := 5) (ret := (some .int)) (by decide) rfl ?_
  intro p e s m args below meth c s₁ B hml hv
  obtain ⟨rfl, hP, hK⟩ := hv
  have hx := B.exec
  have hb := B.bytes
  have hr := B.returns
  have hts := atoms_spec (ws := wsX0_nextToPeel) B.pre
  have hown : s.vm.findClass RX0 = some m.cls := findClass_of_methodNamed B.named
  have hlocks := B.notSynchronized
  have hS : va_S (fun _ => False) s.heap s.heap [] := va_S.rf
  have hin : ∀ w ∈ wsX00, w ∈ wsX0_nextToPeel := by decide +kernel
  have hf9 := hts (.fieldLink RX0 9 "Corebarn" "neighbours" "[I") (by decide +kernel)
  have hf19 := hts (.fieldLink RX0 19 "Corebarn" "nodeCount" "I") (by decide +kernel)
  have hl := lv_entry ([.ref h, .int z]) (n := 5) (Nat.le_of_ble_eq_true rfl)
  rw [lg_entry_eq]
  generalize (lg_sl ([.ref h, .int z]) ++ List.replicate (5 - (lg_sl ([.ref h, .int z])).length) Slot.unset).toArray = ls at hl ⊢
  have hl : lv_has ls 5 [(0, .ref h), (1, .int z)] := hl
  refine lv_iconst (v := (nI 0)) hx hb dX0_nextToPeel_0 (by decide) ?_
  refine lv_istore_n (lv' := [(2, .int (nI 0)), (0, .ref h), (1, .int z)]) hx hb dX0_nextToPeel_1 rfl hl (by decide) rfl (fun ls hl => ?_)
  refine lv_bipush (v := (nI 20)) hx hb dX0_nextToPeel_2 (by decide) ?_
  refine lv_istore_n (lv' := [(3, .int (nI 20)), (2, .int (nI 0)), (0, .ref h), (1, .int z)]) hx hb dX0_nextToPeel_4 rfl hl (by decide) rfl (fun ls hl => ?_)
  refine lv_iconst (v := (nI 0)) hx hb dX0_nextToPeel_5 (by decide) ?_
  refine lv_istore (lv' := [(4, .int (nI 0)), (3, .int (nI 20)), (2, .int (nI 0)), (0, .ref h), (1, .int z)]) hx hb dX0_nextToPeel_6 hl (by decide) rfl (fun ls hl => ?_)
  have K8 : ∀ (fu8 : Nat) (i : Nat) (a : Nat) (q : Nat) (H : Heap) (locs : List Loc) (ls : Array Slot), (i ≤ N) → (npk f z i = (a, q)) → N - i < fu8 → va_P D vwCl (wB h a0 a1 a2 cy N ec cc f cs tr) H → va_S (fun _ => False) s.heap H locs → lv_has ls 5 [(4, .int (nI i)), (2, .int (nI a)), (3, .int (nI q)), (0, .ref h), (1, .int z)] → W p l e (headSpec wsX0_nextToPeel ({ frames := 2, cells := 0, slots := 0, locals := 41 } : Room)).room s m ([.ref h, .int z] : List Value).toArray below meth c H locs 0 0 (MQ below (zPo (fun r => r = nI (npk f z N).1)) ([.ref h, .int z] : List Value).toArray s 0 0 zNo) (F0 m 8 ls []) := by
    intro fu8
    induction fu8 with
    | zero =>
      intro i a q H locs ls hi hn hfu8
      exact absurd hfu8 (Nat.not_lt_zero _)
    | succ fu8 ih8 =>
      intro i a q H locs ls hi hn hfu8 hP hS hl
      have hq20 : q ≤ 20 := by have := npk_le f z i; rw [hn] at this; exact this
      refine lv_iload hx hb dX0_nextToPeel_8 (lv_at hl 0 rfl) ?_
      refine lv_aload_n hx hb dX0_nextToPeel_10 rfl (lv_at hl 3 rfl) ?_
      refine va_get (D := D) (ci := 0) (v := .int (nI N)) (C := RX0) (T := TX0) (N := 6) hx hb hts hin hown hK hP 0 rfl rfl 3 (by decide) hf19 (fun _ h9 => h9) rfl dX0_nextToPeel_11 ?_
      refine z_icmp_ge (tgt := 64) hx hb dX0_nextToPeel_14 (by decide) (by omega) (by omega) (fun h14 => ?_) (fun h14 => ?_)
      · refine lv_iload_n hx hb dX0_nextToPeel_64 rfl (lv_at hl 1 rfl) ?_
        exact W.iret (v := (nI a)) hx hb hr (fun t9 ht9 hW9 => ⟨⟨(nI a), (), rfl, (by rw [← Nat.le_antisymm hi h14, hn]), trivial⟩, hS.F ht9⟩) hS.2.2 dX0_nextToPeel_65
      · refine lv_iload_n hx hb dX0_nextToPeel_17 rfl (lv_at hl 4 rfl) ?_
        refine lv_iload hx hb dX0_nextToPeel_18 (lv_at hl 0 rfl) ?_
        refine zrS0 (As := [.int z, .int (nI i)]) (rest := []) ⟨hx, hb, hml, hown, hts⟩ (c_X0_contains l z i (by omega)) (va_cwS 2 hts gX0_nextToPeel_X0_contains rfl rfl rfl (by decide +kernel) ⟨Nat.le_of_ble_eq_true rfl, Nat.le_of_ble_eq_true rfl⟩) rfl hl rfl (Nat.le_of_ble_eq_true rfl) dX0_nextToPeel_20 ⟨Nat.le_of_ble_eq_true rfl, Nat.le_of_ble_eq_true rfl⟩ hS (fun r20 H locs hw20 hk9 hS => ?_)
        obtain rfl : r20 = (zb (bt z i)) := hw20
        have hP := zkeep hP hk9
        refine z_ifb_eq (tgt := 58) hx hb dX0_nextToPeel_23 (by decide) (fun h23 => ?_) (fun h23 => ?_)
        · refine lv_iinc (v := (nI (i + 1))) (lv' := [(4, .int (nI (i + 1))), (2, .int (nI a)), (3, .int (nI q)), (0, .ref h), (1, .int z)]) hx hb dX0_nextToPeel_58 hl (k := 0) rfl (nI_1 _) (by decide) rfl (fun ls hl => ?_)
          refine lv_goto (tgt := 8) hx hb dX0_nextToPeel_61 (by decide) ?_
          exact ih8 (i + 1) a q _ _ _ (by omega) (by rw [npk_no (fun q => by rw [h23] at q; cases q.1)]; exact hn) (by omega) hP hS (lv_sub hl [0, 1, 2, 3, 4] rfl)
        · refine lv_aload_n hx hb dX0_nextToPeel_26 rfl (lv_at hl 3 rfl) ?_
          refine va_get (D := D) (ci := 0) (v := .ref a0) (C := RX0) (T := TX0) (N := 6) hx hb hts hin hown hK hP 0 rfl rfl 0 (by decide) hf9 (fun _ h9 => h9) rfl dX0_nextToPeel_27 ?_
          refine lv_iload hx hb dX0_nextToPeel_30 (lv_at hl 0 rfl) ?_
          refine z_iald hx hb hK hP 1 0 rfl rfl (by omega) (by decide) dX0_nextToPeel_32 ?_
          refine lv_iload_n hx hb dX0_nextToPeel_33 rfl (lv_at hl 4 rfl) ?_
          refine lv_iand hx hb dX0_nextToPeel_34 ?_
          refine zrS0 (As := [.int ((f i) &&& z)]) (rest := []) ⟨hx, hb, hml, hown, hts⟩ (c_X0_size l ((f i) &&& z)) (va_cwS 1 hts gX0_nextToPeel_X0_size rfl rfl rfl (by decide +kernel) ⟨Nat.le_of_ble_eq_true rfl, Nat.le_of_ble_eq_true rfl⟩) rfl hl rfl (Nat.le_of_ble_eq_true rfl) dX0_nextToPeel_35 ⟨Nat.le_of_ble_eq_true rfl, Nat.le_of_ble_eq_true rfl⟩ hS (fun r35 H locs hw35 hk9 hS => ?_)
          obtain rfl : r35 = (nI (zpop ((f i) &&& z))) := hw35
          have hP := zkeep hP hk9
          refine lv_iload_n hx hb dX0_nextToPeel_38 rfl (lv_at hl 2 rfl) ?_
          refine z_icmp_ge (tgt := 58) hx hb dX0_nextToPeel_39 (by decide) (pop_31 _) (by omega) (fun h39 => ?_) (fun h39 => ?_)
          · refine lv_iinc (v := (nI (i + 1))) (lv' := [(4, .int (nI (i + 1))), (2, .int (nI a)), (3, .int (nI q)), (0, .ref h), (1, .int z)]) hx hb dX0_nextToPeel_58 hl (k := 0) rfl (nI_1 _) (by decide) rfl (fun ls hl => ?_)
            refine lv_goto (tgt := 8) hx hb dX0_nextToPeel_61 (by decide) ?_
            exact ih8 (i + 1) a q _ _ _ (by omega) (by rw [npk_no (fun q => absurd q.2 (by rw [hn]; exact Nat.not_lt.mpr h39))]; exact hn) (by omega) hP hS (lv_sub hl [0, 1, 2, 3, 4] rfl)
          · refine lv_iload hx hb dX0_nextToPeel_42 (lv_at hl 0 rfl) ?_
            refine lv_istore_n (lv' := [(2, .int (nI i)), (4, .int (nI i)), (3, .int (nI q)), (0, .ref h), (1, .int z)]) hx hb dX0_nextToPeel_44 rfl hl (by decide) rfl (fun ls hl => ?_)
            refine lv_aload_n hx hb dX0_nextToPeel_45 rfl (lv_at hl 3 rfl) ?_
            refine va_get (D := D) (ci := 0) (v := .ref a0) (C := RX0) (T := TX0) (N := 6) hx hb hts hin hown hK hP 0 rfl rfl 0 (by decide) hf9 (fun _ h9 => h9) rfl dX0_nextToPeel_46 ?_
            refine lv_iload hx hb dX0_nextToPeel_49 (lv_at hl 1 rfl) ?_
            refine z_iald hx hb hK hP 1 0 rfl rfl (by omega) (by decide) dX0_nextToPeel_51 ?_
            refine lv_iload_n hx hb dX0_nextToPeel_52 rfl (lv_at hl 4 rfl) ?_
            refine lv_iand hx hb dX0_nextToPeel_53 ?_
            refine zrS0 (As := [.int ((f i) &&& z)]) (rest := []) ⟨hx, hb, hml, hown, hts⟩ (c_X0_size l ((f i) &&& z)) (va_cwS 1 hts gX0_nextToPeel_X0_size rfl rfl rfl (by decide +kernel) ⟨Nat.le_of_ble_eq_true rfl, Nat.le_of_ble_eq_true rfl⟩) rfl hl rfl (Nat.le_of_ble_eq_true rfl) dX0_nextToPeel_54 ⟨Nat.le_of_ble_eq_true rfl, Nat.le_of_ble_eq_true rfl⟩ hS (fun r54 H locs hw54 hk9 hS => ?_)
            obtain rfl : r54 = (nI (zpop ((f i) &&& z))) := hw54
            have hP := zkeep hP hk9
            refine lv_istore_n (lv' := [(3, .int (nI (zpop ((f i) &&& z)))), (2, .int (nI i)), (4, .int (nI i)), (0, .ref h), (1, .int z)]) hx hb dX0_nextToPeel_57 rfl hl (by decide) rfl (fun ls hl => ?_)
            refine lv_iinc (v := (nI (i + 1))) (lv' := [(4, .int (nI (i + 1))), (3, .int (nI (zpop ((f i) &&& z)))), (2, .int (nI i)), (0, .ref h), (1, .int z)]) hx hb dX0_nextToPeel_58 hl (k := 2) rfl (nI_1 _) (by decide) rfl (fun ls hl => ?_)
            refine lv_goto (tgt := 8) hx hb dX0_nextToPeel_61 (by decide) ?_
            exact ih8 (i + 1) i (zpop ((f i) &&& z)) _ _ _ (by omega) (npk_yes h23 (by rw [hn]; exact h39)) (by omega) hP hS (lv_sub hl [0, 2, 1, 3, 4] rfl)
  exact K8 (N - 0 + 1) 0 0 20 _ _ _ (by omega) rfl (Nat.lt_succ_self _) hP hS (lv_sub hl [0, 2, 1, 3, 4] rfl)
set_option maxHeartbeats 4000000 in
set_option maxRecDepth 100000 in
theorem c_X0_denseSet (l : Launch) (D : va_G) (cy : ClassId) (h a0 a1 a2 N : Nat) (ec cc : Int32) (f cs tr : Nat → Int32) (hN : N ≤ 20) (hec : ec = nI (ewn f N (zal N))) : Met l yX0_denseSet wsX0_denseSet ({ frames := 3, cells := 0, slots := 0, locals := 65 } : Room) (va_Pc [.ref h] (zRd D (wB h a0 a1 a2 cy N ec cc f cs tr) [(cy, .int)])) (zPo (fun r => r = (dsk f N (N - 1)).2.1)) 0 0 zNo := by
  refine Met.ofW (cc := cX0_denseSet) (maxL := 6) (ret := (some .int)) (by decide) rfl ?_
  intro p e s m args below meth c s₁ B hml hv
  obtain ⟨rfl, hP, hK⟩ := hv
  have hx := B.exec
  have hb := B.bytes
  have hr := B.returns
  have hts := atoms_spec (ws := wsX0_denseSet) B.pre
  have hown : s.vm.findClass RX0 = some m.cls := findClass_of_methodNamed B.named
  have hlocks := B.notSynchronized
  have hS : va_S (fun _ => False) s.heap s.heap [] := va_S.rf
  have hin : ∀ w ∈ wsX00, w ∈ wsX0_denseSet := by decide +kernel
  have hf19 := hts (.fieldLink RX0 19 "Corebarn" "nodeCount" "I") (by decide +kernel)
  have hf23 := hts (.fieldLink RX0 23 "Corebarn" "edgeCount" "I") (by decide +kernel)
  have hl := lv_entry ([.ref h]) (n := 6) (Nat.le_of_ble_eq_true rfl)
  rw [lg_entry_eq]
  generalize (lg_sl ([.ref h]) ++ List.replicate (6 - (lg_sl ([.ref h])).length) Slot.unset).toArray = ls at hl ⊢
  have hl : lv_has ls 6 [(0, .ref h)] := hl
  refine lv_aload_n hx hb dX0_denseSet_0 rfl (lv_at hl 0 rfl) ?_
  refine zrV (As := []) (rest := []) 0 ⟨hx, hb, hml, hown, hts⟩ (c_X0_allNodes l D cy h a0 a1 a2 N ec cc f cs tr hN) (cwV 0 hts gX0_denseSet_X0_allNodes rfl rfl rfl (by decide +kernel) ⟨Nat.le_of_ble_eq_true rfl, Nat.le_of_ble_eq_true rfl⟩) hK hP rfl rfl rfl hl rfl (Nat.le_of_ble_eq_true rfl) dX0_denseSet_1 ⟨Nat.le_of_ble_eq_true rfl, Nat.le_of_ble_eq_true rfl⟩ hS (fun r1 H locs hw1 hk9 hS => ?_)
  obtain rfl : r1 = zal N := hw1
  have hP := zkeep hP hk9
  refine lv_istore_n (lv' := [(1, .int (zal N)), (0, .ref h)]) hx hb dX0_denseSet_4 rfl hl (by decide) rfl (fun ls hl => ?_)
  refine lv_iload_n hx hb dX0_denseSet_5 rfl (lv_at hl 0 rfl) ?_
  refine lv_istore_n (lv' := [(2, .int (zal N)), (1, .int (zal N)), (0, .ref h)]) hx hb dX0_denseSet_6 rfl hl (by decide) rfl (fun ls hl => ?_)
  refine lv_aload_n hx hb dX0_denseSet_7 rfl (lv_at hl 2 rfl) ?_
  refine va_get (D := D) (ci := 0) (v := .int ec) (C := RX0) (T := TX0) (N := 6) hx hb hts hin hown hK hP 0 rfl rfl 4 (by decide) hf23 (fun _ h9 => h9) rfl dX0_denseSet_8 ?_
  rw [hec]
  refine lv_istore_n (lv' := [(3, .int (nI (ewn f N (zal N)))), (2, .int (zal N)), (1, .int (zal N)), (0, .ref h)]) hx hb dX0_denseSet_11 rfl hl (by decide) rfl (fun ls hl => ?_)
  refine lv_iconst (v := (nI 1)) hx hb dX0_denseSet_12 (by decide) ?_
  refine lv_istore (lv' := [(4, .int (nI 1)), (3, .int (nI (ewn f N (zal N)))), (2, .int (zal N)), (1, .int (zal N)), (0, .ref h)]) hx hb dX0_denseSet_13 hl (by decide) rfl (fun ls hl => ?_)
  have K15 : ∀ (fu15 : Nat) (t : Nat) (x : Int32) (y : Int32) (q : Nat) (H : Heap) (locs : List Loc) (ls : Array Slot), (t + 1 ≤ N ∨ t = 0) → (dsk f N t = (x, y, q)) → N - t < fu15 → va_P D vwCl (wB h a0 a1 a2 cy N ec cc f cs tr) H → va_S (fun _ => False) s.heap H locs → lv_has ls 6 [(4, .int (nI (t + 1))), (1, .int x), (2, .int y), (3, .int (nI q)), (0, .ref h)] → W p l e (headSpec wsX0_denseSet ({ frames := 3, cells := 0, slots := 0, locals := 65 } : Room)).room s m ([.ref h] : List Value).toArray below meth c H locs 0 0 (MQ below (zPo (fun r => r = (dsk f N (N - 1)).2.1)) ([.ref h] : List Value).toArray s 0 0 zNo) (F0 m 15 ls []) := by
    intro fu15
    induction fu15 with
    | zero =>
      intro t x y q H locs ls ht hd hfu15
      exact absurd hfu15 (Nat.not_lt_zero _)
    | succ fu15 ih15 =>
      intro t x y q H locs ls ht hd hfu15 hP hS hl
      have hq : q ≤ 320 := by have h1 := (dsk_sub hN t (f := f)).2.2; rw [hd] at h1; have h2 := ewn_b f hN y; simp only at h1; omega
      have hm1 : ewn f N (zdl x (npk f x N).1) * zpop y ≤ 320 * 32 := Nat.mul_le_mul (ewn_b f hN _) (pop_32 y)
      have hm2 : q * zpop (zdl x (npk f x N).1) ≤ 320 * 32 := Nat.mul_le_mul hq (pop_32 _)
      have hp0 := npk_le0 f x N
      refine lv_iload hx hb dX0_denseSet_15 (lv_at hl 0 rfl) ?_
      refine lv_aload_n hx hb dX0_denseSet_17 rfl (lv_at hl 4 rfl) ?_
      refine va_get (D := D) (ci := 0) (v := .int (nI N)) (C := RX0) (T := TX0) (N := 6) hx hb hts hin hown hK hP 0 rfl rfl 3 (by decide) hf19 (fun _ h9 => h9) rfl dX0_denseSet_18 ?_
      refine z_icmp_ge (tgt := 68) hx hb dX0_denseSet_21 (by decide) (by omega) (by omega) (fun h21 => ?_) (fun h21 => ?_)
      · refine lv_iload_n hx hb dX0_denseSet_68 rfl (lv_at hl 2 rfl) ?_
        exact W.iret (v := y) hx hb hr (fun t9 ht9 hW9 => ⟨⟨y, (), rfl, (by rw [show N - 1 = t by omega, hd]), trivial⟩, hS.F ht9⟩) hS.2.2 dX0_denseSet_69
      · refine lv_iload_n hx hb dX0_denseSet_24 rfl (lv_at hl 1 rfl) ?_
        refine lv_aload_n hx hb dX0_denseSet_25 rfl (lv_at hl 4 rfl) ?_
        refine lv_iload_n hx hb dX0_denseSet_26 rfl (lv_at hl 1 rfl) ?_
        refine zrV (As := [.int x]) (rest := [.int x]) 0 ⟨hx, hb, hml, hown, hts⟩ (c_X0_nextToPeel l D cy h a0 a1 a2 N ec cc f cs tr x hN) (cwV 1 hts gX0_denseSet_X0_nextToPeel rfl rfl rfl (by decide +kernel) ⟨Nat.le_of_ble_eq_true rfl, Nat.le_of_ble_eq_true rfl⟩) hK hP rfl rfl rfl hl rfl (Nat.le_of_ble_eq_true rfl) dX0_denseSet_27 ⟨Nat.le_of_ble_eq_true rfl, Nat.le_of_ble_eq_true rfl⟩ hS (fun r27 H locs hw27 hk9 hS => ?_)
        obtain rfl : r27 = (nI ((npk f x N).1)) := hw27
        have hP := zkeep hP hk9
        refine zrS0 (As := [.int x, .int (nI ((npk f x N).1))]) (rest := []) ⟨hx, hb, hml, hown, hts⟩ (c_X0_without l x ((npk f x N).1)) (va_cwS 2 hts gX0_denseSet_X0_without rfl rfl rfl (by decide +kernel) ⟨Nat.le_of_ble_eq_true rfl, Nat.le_of_ble_eq_true rfl⟩) rfl hl rfl (Nat.le_of_ble_eq_true rfl) dX0_denseSet_30 ⟨Nat.le_of_ble_eq_true rfl, Nat.le_of_ble_eq_true rfl⟩ hS (fun r30 H locs hw30 hk9 hS => ?_)
        obtain rfl : r30 = (zdl x ((npk f x N).1)) := hw30
        have hP := zkeep hP hk9
        refine lv_istore_n (lv' := [(1, .int (zdl x ((npk f x N).1))), (4, .int (nI (t + 1))), (2, .int y), (3, .int (nI q)), (0, .ref h)]) hx hb dX0_denseSet_33 rfl hl (by decide) rfl (fun ls hl => ?_)
        refine lv_aload_n hx hb dX0_denseSet_34 rfl (lv_at hl 4 rfl) ?_
        refine lv_iload_n hx hb dX0_denseSet_35 rfl (lv_at hl 0 rfl) ?_
        refine zrV (As := [.int (zdl x ((npk f x N).1))]) (rest := []) 0 ⟨hx, hb, hml, hown, hts⟩ (c_X0_edgesWithin l D cy h a0 a1 a2 N ec cc f cs tr (zdl x ((npk f x N).1)) hN) (cwV 1 hts gX0_denseSet_X0_edgesWithin rfl rfl rfl (by decide +kernel) ⟨Nat.le_of_ble_eq_true rfl, Nat.le_of_ble_eq_true rfl⟩) hK hP rfl rfl rfl hl rfl (Nat.le_of_ble_eq_true rfl) dX0_denseSet_36 ⟨Nat.le_of_ble_eq_true rfl, Nat.le_of_ble_eq_true rfl⟩ hS (fun r36 H locs hw36 hk9 hS => ?_)
        obtain rfl : r36 = (nI (ewn f N (zdl x ((npk f x N).1)))) := hw36
        have hP := zkeep hP hk9
        refine lv_istore (lv' := [(5, .int (nI (ewn f N (zdl x ((npk f x N).1))))), (1, .int (zdl x ((npk f x N).1))), (4, .int (nI (t + 1))), (2, .int y), (3, .int (nI q)), (0, .ref h)]) hx hb dX0_denseSet_39 hl (by decide) rfl (fun ls hl => ?_)
        refine lv_iload hx hb dX0_denseSet_41 (lv_at hl 0 rfl) ?_
        refine lv_iload_n hx hb dX0_denseSet_43 rfl (lv_at hl 3 rfl) ?_
        refine zrS0 (As := [.int y]) (rest := [.int (nI (ewn f N (zdl x ((npk f x N).1))))]) ⟨hx, hb, hml, hown, hts⟩ (c_X0_size l y) (va_cwS 1 hts gX0_denseSet_X0_size rfl rfl rfl (by decide +kernel) ⟨Nat.le_of_ble_eq_true rfl, Nat.le_of_ble_eq_true rfl⟩) rfl hl rfl (Nat.le_of_ble_eq_true rfl) dX0_denseSet_44 ⟨Nat.le_of_ble_eq_true rfl, Nat.le_of_ble_eq_true rfl⟩ hS (fun r44 H locs hw44 hk9 hS => ?_)
        obtain rfl : r44 = (nI (zpop y)) := hw44
        have hP := zkeep hP hk9
        refine z_imul hx hb dX0_denseSet_47 ?_
        refine lv_iload_n hx hb dX0_denseSet_48 rfl (lv_at hl 4 rfl) ?_
        refine lv_iload_n hx hb dX0_denseSet_49 rfl (lv_at hl 1 rfl) ?_
        refine zrS0 (As := [.int (zdl x ((npk f x N).1))]) (rest := [.int (nI q), .int (nI ((ewn f N (zdl x ((npk f x N).1))) * (zpop y)))]) ⟨hx, hb, hml, hown, hts⟩ (c_X0_size l (zdl x ((npk f x N).1))) (va_cwS 1 hts gX0_denseSet_X0_size rfl rfl rfl (by decide +kernel) ⟨Nat.le_of_ble_eq_true rfl, Nat.le_of_ble_eq_true rfl⟩) rfl hl rfl (Nat.le_of_ble_eq_true rfl) dX0_denseSet_50 ⟨Nat.le_of_ble_eq_true rfl, Nat.le_of_ble_eq_true rfl⟩ hS (fun r50 H locs hw50 hk9 hS => ?_)
        obtain rfl : r50 = (nI (zpop (zdl x ((npk f x N).1)))) := hw50
        have hP := zkeep hP hk9
        refine z_imul hx hb dX0_denseSet_53 ?_
        refine z_icmp_le (tgt := 62) hx hb dX0_denseSet_54 (by decide) (by omega) (by omega) (fun h54 => ?_) (fun h54 => ?_)
        · refine lv_iinc (v := (nI (t + 1 + 1))) (lv' := [(4, .int (nI (t + 1 + 1))), (5, .int (nI (ewn f N (zdl x ((npk f x N).1))))), (1, .int (zdl x ((npk f x N).1))), (2, .int y), (3, .int (nI q)), (0, .ref h)]) hx hb dX0_denseSet_62 hl (k := 2) rfl (nI_1 _) (by decide) rfl (fun ls hl => ?_)
          refine lv_goto (tgt := 15) hx hb dX0_denseSet_65 (by decide) ?_
          exact ih15 (t + 1) (zdl x ((npk f x N).1)) y q _ _ _ (by omega) (by rw [dsk_no (x := zdl x (npk f x N).1) (by rw [hd]) (by rw [hd]; exact h54), hd]) (by omega) hP hS (lv_sub hl [0, 2, 3, 4, 5] rfl)
        · refine lv_iload_n hx hb dX0_denseSet_57 rfl (lv_at hl 1 rfl) ?_
          refine lv_istore_n (lv' := [(2, .int (zdl x ((npk f x N).1))), (5, .int (nI (ewn f N (zdl x ((npk f x N).1))))), (1, .int (zdl x ((npk f x N).1))), (4, .int (nI (t + 1))), (3, .int (nI q)), (0, .ref h)]) hx hb dX0_denseSet_58 rfl hl (by decide) rfl (fun ls hl => ?_)
          refine lv_iload hx hb dX0_denseSet_59 (lv_at hl 1 rfl) ?_
          refine lv_istore_n (lv' := [(3, .int (nI (ewn f N (zdl x ((npk f x N).1))))), (2, .int (zdl x ((npk f x N).1))), (5, .int (nI (ewn f N (zdl x ((npk f x N).1))))), (1, .int (zdl x ((npk f x N).1))), (4, .int (nI (t + 1))), (0, .ref h)]) hx hb dX0_denseSet_61 rfl hl (by decide) rfl (fun ls hl => ?_)
          refine lv_iinc (v := (nI (t + 1 + 1))) (lv' := [(4, .int (nI (t + 1 + 1))), (3, .int (nI (ewn f N (zdl x ((npk f x N).1))))), (2, .int (zdl x ((npk f x N).1))), (5, .int (nI (ewn f N (zdl x ((npk f x N).1))))), (1, .int (zdl x ((npk f x N).1))), (0, .ref h)]) hx hb dX0_denseSet_62 hl (k := 4) rfl (nI_1 _) (by decide) rfl (fun ls hl => ?_)
          refine lv_goto (tgt := 15) hx hb dX0_denseSet_65 (by decide) ?_
          exact ih15 (t + 1) (zdl x ((npk f x N).1)) (zdl x ((npk f x N).1)) (ewn f N (zdl x ((npk f x N).1))) _ _ _ (by omega) (dsk_yes (by rw [hd]) (by rw [hd]; exact h54)) (by omega) hP hS (lv_sub hl [0, 4, 2, 1, 5] rfl)
  exact K15 (N - 0 + 1) 0 (zal N) (zal N) (ewn f N (zal N)) _ _ _ (by omega) rfl (Nat.lt_succ_self _) hP hS (lv_sub hl [0, 3, 2, 1, 4] rfl)
set_option maxHeartbeats 4000000 in
set_option maxRecDepth 100000 in
theorem c_X0_nodes (l : Launch) (D : va_G) (cy : ClassId) (h a0 a1 a2 N : Nat) (ec cc : Int32) (f cs tr : Nat → Int32)  : Met l yX0_nodes wsX0_nodes ({ frames := 0, cells := 0, slots := 0, locals := 0 } : Room) (va_Pc [.ref h] (zRd D (wB h a0 a1 a2 cy N ec cc f cs tr) [(cy, .int)])) (zPo (fun r => r = nI N)) 0 0 zNo := by
  refine Met.ofW (cc := cX0_nodes) (maxL := 1) (ret := (some .int)) (by decide) rfl ?_
  intro p e s m args below meth c s₁ B hml hv
  obtain ⟨rfl, hP, hK⟩ := hv
  have hx := B.exec
  have hb := B.bytes
  have hr := B.returns
  have hts := atoms_spec (ws := wsX0_nodes) B.pre
  have hown : s.vm.findClass RX0 = some m.cls := findClass_of_methodNamed B.named
  have hlocks := B.notSynchronized
  have hS : va_S (fun _ => False) s.heap s.heap [] := va_S.rf
  have hin : ∀ w ∈ wsX00, w ∈ wsX0_nodes := by decide +kernel
  have hf19 := hts (.fieldLink RX0 19 "Corebarn" "nodeCount" "I") (by decide +kernel)
  have hl := lv_entry ([.ref h]) (n := 1) (Nat.le_of_ble_eq_true rfl)
  rw [lg_entry_eq]
  generalize (lg_sl ([.ref h]) ++ List.replicate (1 - (lg_sl ([.ref h])).length) Slot.unset).toArray = ls at hl ⊢
  have hl : lv_has ls 1 [(0, .ref h)] := hl
  refine lv_aload_n hx hb dX0_nodes_0 rfl (lv_at hl 0 rfl) ?_
  refine va_get (D := D) (ci := 0) (v := .int (nI N)) (C := RX0) (T := TX0) (N := 6) hx hb hts hin hown hK hP 0 rfl rfl 3 (by decide) hf19 (fun _ h9 => h9) rfl dX0_nodes_1 ?_
  exact W.iret (v := (nI N)) hx hb hr (fun t9 ht9 hW9 => ⟨⟨(nI N), (), rfl, rfl, trivial⟩, hS.F ht9⟩) hS.2.2 dX0_nodes_4
set_option maxHeartbeats 4000000 in
set_option maxRecDepth 100000 in
theorem c_X0_edges (l : Launch) (D : va_G) (cy : ClassId) (h a0 a1 a2 N : Nat) (ec cc : Int32) (f cs tr : Nat → Int32)  : Met l yX0_edges wsX0_edges ({ frames := 0, cells := 0, slots := 0, locals := 0 } : Room) (va_Pc [.ref h] (zRd D (wB h a0 a1 a2 cy N ec cc f cs tr) [(cy, .int)])) (zPo (fun r => r = ec)) 0 0 zNo := by
  refine Met.ofW (cc := cX0_edges) (maxL := 1) (ret := (some .int)) (by decide) rfl ?_
  intro p e s m args below meth c s₁ B hml hv
  obtain ⟨rfl, hP, hK⟩ := hv
  have hx := B.exec
  have hb := B.bytes
  have hr := B.returns
  have hts := atoms_spec (ws := wsX0_edges) B.pre
  have hown : s.vm.findClass RX0 = some m.cls := findClass_of_methodNamed B.named
  have hlocks := B.notSynchronized
  have hS : va_S (fun _ => False) s.heap s.heap [] := va_S.rf
  have hin : ∀ w ∈ wsX00, w ∈ wsX0_edges := by decide +kernel
  have hf23 := hts (.fieldLink RX0 23 "Corebarn" "edgeCount" "I") (by decide +kernel)
  have hl := lv_entry ([.ref h]) (n := 1) (Nat.le_of_ble_eq_true rfl)
  rw [lg_entry_eq]
  generalize (lg_sl ([.ref h]) ++ List.replicate (1 - (lg_sl ([.ref h])).length) Slot.unset).toArray = ls at hl ⊢
  have hl : lv_has ls 1 [(0, .ref h)] := hl
  refine lv_aload_n hx hb dX0_edges_0 rfl (lv_at hl 0 rfl) ?_
  refine va_get (D := D) (ci := 0) (v := .int ec) (C := RX0) (T := TX0) (N := 6) hx hb hts hin hown hK hP 0 rfl rfl 4 (by decide) hf23 (fun _ h9 => h9) rfl dX0_edges_1 ?_
  exact W.iret (v := ec) hx hb hr (fun t9 ht9 hW9 => ⟨⟨ec, (), rfl, rfl, trivial⟩, hS.F ht9⟩) hS.2.2 dX0_edges_4
set_option maxHeartbeats 4000000 in
set_option maxRecDepth 100000 in
theorem c_X0_changes (l : Launch) (D : va_G) (cy : ClassId) (h a0 a1 a2 N : Nat) (ec cc : Int32) (f cs tr : Nat → Int32)  : Met l yX0_changes wsX0_changes ({ frames := 0, cells := 0, slots := 0, locals := 0 } : Room) (va_Pc [.ref h] (zRd D (wB h a0 a1 a2 cy N ec cc f cs tr) [(cy, .int)])) (zPo (fun r => r = cc)) 0 0 zNo := by
  refine Met.ofW (cc := cX0_changes) (maxL := 1) (ret := (some .int)) (by decide) rfl ?_
  intro p e s m args below meth c s₁ B hml hv
  obtain ⟨rfl, hP, hK⟩ := hv
  have hx := B.exec
  have hb := B.bytes
  have hr := B.returns
  have hts := atoms_spec (ws := wsX0_changes) B.pre
  have hown : s.vm.findClass RX0 = some m.cls := findClass_of_methodNamed B.named
  have hlocks := B.notSynchronized
  have hS : va_S (fun _ => False) s.heap s.heap [] := va_S.rf
  have hin : ∀ w ∈ wsX00, w ∈ wsX0_changes := by decide +kernel
  have hf26 := hts (.fieldLink RX0 26 "Corebarn" "coreChanges" "I") (by decide +kernel)
  have hl := lv_entry ([.ref h]) (n := 1) (Nat.le_of_ble_eq_true rfl)
  rw [lg_entry_eq]
  generalize (lg_sl ([.ref h]) ++ List.replicate (1 - (lg_sl ([.ref h])).length) Slot.unset).toArray = ls at hl ⊢
  have hl : lv_has ls 1 [(0, .ref h)] := hl
  refine lv_aload_n hx hb dX0_changes_0 rfl (lv_at hl 0 rfl) ?_
  refine va_get (D := D) (ci := 0) (v := .int cc) (C := RX0) (T := TX0) (N := 6) hx hb hts hin hown hK hP 0 rfl rfl 5 (by decide) hf26 (fun _ h9 => h9) rfl dX0_changes_1 ?_
  exact W.iret (v := cc) hx hb hr (fun t9 ht9 hW9 => ⟨⟨cc, (), rfl, rfl, trivial⟩, hS.F ht9⟩) hS.2.2 dX0_changes_4
set_option maxHeartbeats 4000000 in
set_option maxRecDepth 100000 in
theorem c_X0_degeneracy (l : Launch) (D : va_G) (cy : ClassId) (h a0 a1 a2 N : Nat) (ec cc : Int32) (f cs tr : Nat → Int32) (c0 : Nat → Nat) (hN : N ≤ 20) (hc : csI cs c0 N) : Met l yX0_degeneracy wsX0_degeneracy ({ frames := 1, cells := 0, slots := 0, locals := 21 } : Room) (va_Pc [.ref h] (zRd D (wB h a0 a1 a2 cy N ec cc f cs tr) [(cy, .int)])) (zPo (fun r => ∃ d, r = nI d ∧ d < 20 ∧ isMx c0 N d)) 0 0 zNo := by
  refine Met.ofW (cc := cX0_degeneracy) (maxL := 3) (ret := (some .int)) (by decide) rfl ?_
  intro p e s m args below meth c s₁ B hml hv
  obtain ⟨rfl, hP, hK⟩ := hv
  have hx := B.exec
  have hb := B.bytes
  have hr := B.returns
  have hts := atoms_spec (ws := wsX0_degeneracy) B.pre
  have hown : s.vm.findClass RX0 = some m.cls := findClass_of_methodNamed B.named
  have hlocks := B.notSynchronized
  have hS : va_S (fun _ => False) s.heap s.heap [] := va_S.rf
  have hin : ∀ w ∈ wsX00, w ∈ wsX0_degeneracy := by decide +kernel
  have hf13 := hts (.fieldLink RX0 13 "Corebarn" "cores" "[I") (by decide +kernel)
  have hf19 := hts (.fieldLink RX0 19 "Corebarn" "nodeCount" "I") (by decide +kernel)
  have hl := lv_entry ([.ref h]) (n := 3) (Nat.le_of_ble_eq_true rfl)
  rw [lg_entry_eq]
  generalize (lg_sl ([.ref h]) ++ List.replicate (3 - (lg_sl ([.ref h])).length) Slot.unset).toArray = ls at hl ⊢
  have hl : lv_has ls 3 [(0, .ref h)] := hl
  refine lv_iconst (v := (nI 0)) hx hb dX0_degeneracy_0 (by decide) ?_
  refine lv_istore_n (lv' := [(1, .int (nI 0)), (0, .ref h)]) hx hb dX0_degeneracy_1 rfl hl (by decide) rfl (fun ls hl => ?_)
  refine lv_iconst (v := (nI 0)) hx hb dX0_degeneracy_2 (by decide) ?_
  refine lv_istore_n (lv' := [(2, .int (nI 0)), (1, .int (nI 0)), (0, .ref h)]) hx hb dX0_degeneracy_3 rfl hl (by decide) rfl (fun ls hl => ?_)
  have K4 : ∀ (fu4 : Nat) (i : Nat) (d : Nat) (H : Heap) (locs : List Loc) (ls : Array Slot), (i ≤ N) → (isMx c0 i d) → (d < 20) → N - i < fu4 → va_P D vwCl (wB h a0 a1 a2 cy N ec cc f cs tr) H → va_S (fun _ => False) s.heap H locs → lv_has ls 3 [(2, .int (nI i)), (1, .int (nI d)), (0, .ref h)] → W p l e (headSpec wsX0_degeneracy ({ frames := 1, cells := 0, slots := 0, locals := 21 } : Room)).room s m ([.ref h] : List Value).toArray below meth c H locs 0 0 (MQ below (zPo (fun r => ∃ d, r = nI d ∧ d < 20 ∧ isMx c0 N d)) ([.ref h] : List Value).toArray s 0 0 zNo) (F0 m 4 ls []) := by
    intro fu4
    induction fu4 with
    | zero =>
      intro i d H locs ls hi hd hd20 hfu4
      exact absurd hfu4 (Nat.not_lt_zero _)
    | succ fu4 ih4 =>
      intro i d H locs ls hi hd hd20 hfu4 hP hS hl
      refine lv_iload_n hx hb dX0_degeneracy_4 rfl (lv_at hl 0 rfl) ?_
      refine lv_aload_n hx hb dX0_degeneracy_5 rfl (lv_at hl 2 rfl) ?_
      refine va_get (D := D) (ci := 0) (v := .int (nI N)) (C := RX0) (T := TX0) (N := 6) hx hb hts hin hown hK hP 0 rfl rfl 3 (by decide) hf19 (fun _ h9 => h9) rfl dX0_degeneracy_6 ?_
      refine z_icmp_ge (tgt := 29) hx hb dX0_degeneracy_9 (by decide) (by omega) (by omega) (fun h9 => ?_) (fun h9 => ?_)
      · refine lv_iload_n hx hb dX0_degeneracy_29 rfl (lv_at hl 1 rfl) ?_
        exact W.iret (v := (nI d)) hx hb hr (fun t9 ht9 hW9 => ⟨⟨(nI d), (), rfl, ⟨d, rfl, hd20, Nat.le_antisymm hi h9 ▸ hd⟩, trivial⟩, hS.F ht9⟩) hS.2.2 dX0_degeneracy_30
      · refine lv_iload_n hx hb dX0_degeneracy_12 rfl (lv_at hl 1 rfl) ?_
        refine lv_aload_n hx hb dX0_degeneracy_13 rfl (lv_at hl 2 rfl) ?_
        refine va_get (D := D) (ci := 0) (v := .ref a1) (C := RX0) (T := TX0) (N := 6) hx hb hts hin hown hK hP 0 rfl rfl 1 (by decide) hf13 (fun _ h9 => h9) rfl dX0_degeneracy_14 ?_
        refine lv_iload_n hx hb dX0_degeneracy_17 rfl (lv_at hl 0 rfl) ?_
        refine z_iald hx hb hK hP 2 0 rfl rfl (by omega) (by decide) dX0_degeneracy_18 ?_
        rw [(hc i h9).1]
        refine va_mmax hx hb (by rw [hml]; exact hl.1.symm) hown (hts (.methodLink RX0 72 Lib.Math.max.name) (by decide +kernel)) (hts (.static Lib.Math.max.name) (by decide +kernel)) (hts (.initialized "java/lang/Math") (by decide +kernel)) (hts (.code Lib.Math.max.name Lib.Math.max.code 2 (some .int)) (by decide +kernel)) (Nat.le_of_ble_eq_true rfl) (Nat.le_of_ble_eq_true rfl) (Nat.le_of_ble_eq_true rfl) (Nat.le_of_ble_eq_true rfl) dX0_degeneracy_19 ?_
        rw [z_max (a := d) (b := c0 i) (by omega) (by have := (hc i h9).2; omega)]
        refine lv_istore_n (lv' := [(1, .int (nI (max d (c0 i)))), (2, .int (nI i)), (0, .ref h)]) hx hb dX0_degeneracy_22 rfl hl (by decide) rfl (fun ls hl => ?_)
        refine lv_iinc (v := (nI (i + 1))) (lv' := [(2, .int (nI (i + 1))), (1, .int (nI (max d (c0 i)))), (0, .ref h)]) hx hb dX0_degeneracy_23 hl (k := 1) rfl (nI_1 _) (by decide) rfl (fun ls hl => ?_)
        refine lv_goto (tgt := 4) hx hb dX0_degeneracy_26 (by decide) ?_
        exact ih4 (i + 1) (max d (c0 i)) _ _ _ (by omega) (isMx_s hd) (by have := (hc i h9).2; omega) (by omega) hP hS (lv_sub hl [0, 1, 2] rfl)
  exact K4 (N - 0 + 1) 0 0 _ _ _ (by omega) (isMx_0 c0) (by omega) (Nat.lt_succ_self _) hP hS (lv_sub hl [0, 1, 2] rfl)
set_option maxHeartbeats 4000000 in
set_option maxRecDepth 100000 in
theorem c_X0_hierarchy (l : Launch) (D : va_G) (cy : ClassId) (h a0 a1 a2 N : Nat) (ec cc : Int32) (f cs tr : Nat → Int32) (c0 : Nat → Nat) (hN : N ≤ 20) (hg : gd f N) (hc : csI cs c0 N) : Met l yX0_hierarchy wsX0_hierarchy ({ frames := 4, cells := 0, slots := 0, locals := 92 } : Room) (va_Pc [.ref h] (zRd D (wB h a0 a1 a2 cy N ec cc f cs tr) [(cy, .int)])) (zPo (fun r => ∃ d, isMx c0 N d ∧ r = nI (fb_sm (hie f c0 N) (d + 1)))) 0 0 zNo := by
  refine Met.ofW (cc := cX0_hierarchy) (maxL := 4) (ret := (some .int)) (by decide) rfl ?_
  intro p e s m args below meth c s₁ B hml hv
  obtain ⟨rfl, hP, hK⟩ := hv
  have hx := B.exec
  have hb := B.bytes
  have hr := B.returns
  have hts := atoms_spec (ws := wsX0_hierarchy) B.pre
  have hown : s.vm.findClass RX0 = some m.cls := findClass_of_methodNamed B.named
  have hlocks := B.notSynchronized
  have hS : va_S (fun _ => False) s.heap s.heap [] := va_S.rf
  have hl := lv_entry ([.ref h]) (n := 4) (Nat.le_of_ble_eq_true rfl)
  rw [lg_entry_eq]
  generalize (lg_sl ([.ref h]) ++ List.replicate (4 - (lg_sl ([.ref h])).length) Slot.unset).toArray = ls at hl ⊢
  have hl : lv_has ls 4 [(0, .ref h)] := hl
  refine lv_iconst (v := (nI 0)) hx hb dX0_hierarchy_0 (by decide) ?_
  refine lv_istore_n (lv' := [(1, .int (nI 0)), (0, .ref h)]) hx hb dX0_hierarchy_1 rfl hl (by decide) rfl (fun ls hl => ?_)
  refine lv_aload_n hx hb dX0_hierarchy_2 rfl (lv_at hl 1 rfl) ?_
  refine zrV (As := []) (rest := []) 0 ⟨hx, hb, hml, hown, hts⟩ (c_X0_degeneracy l D cy h a0 a1 a2 N ec cc f cs tr c0 hN hc) (cwV 0 hts gX0_hierarchy_X0_degeneracy rfl rfl rfl (by decide +kernel) ⟨Nat.le_of_ble_eq_true rfl, Nat.le_of_ble_eq_true rfl⟩) hK hP rfl rfl rfl hl rfl (Nat.le_of_ble_eq_true rfl) dX0_hierarchy_3 ⟨Nat.le_of_ble_eq_true rfl, Nat.le_of_ble_eq_true rfl⟩ hS (fun r3 H locs hw3 hk9 hS => ?_)
  have hw3 : ∃ d, r3 = nI d ∧ d < 20 ∧ isMx c0 N d := hw3
  obtain ⟨d, rfl, hd20, hd⟩ := hw3
  have hP := zkeep hP hk9
  refine lv_istore_n (lv' := [(2, .int (nI d)), (1, .int (nI 0)), (0, .ref h)]) hx hb dX0_hierarchy_6 rfl hl (by decide) rfl (fun ls hl => ?_)
  refine lv_iconst (v := (nI 0)) hx hb dX0_hierarchy_7 (by decide) ?_
  refine lv_istore_n (lv' := [(3, .int (nI 0)), (2, .int (nI d)), (1, .int (nI 0)), (0, .ref h)]) hx hb dX0_hierarchy_8 rfl hl (by decide) rfl (fun ls hl => ?_)
  have K9 : ∀ (fu9 : Nat) (k : Nat) (x : Nat) (H : Heap) (locs : List Loc) (ls : Array Slot), (k ≤ d + 1) → (x = fb_sm (hie f c0 N) k) → d + 1 - k < fu9 → va_P D vwCl (wB h a0 a1 a2 cy N ec cc f cs tr) H → va_S (fun _ => False) s.heap H locs → lv_has ls 4 [(3, .int (nI k)), (1, .int (nI x)), (0, .ref h), (2, .int (nI d))] → W p l e (headSpec wsX0_hierarchy ({ frames := 4, cells := 0, slots := 0, locals := 92 } : Room)).room s m ([.ref h] : List Value).toArray below meth c H locs 0 0 (MQ below (zPo (fun r => ∃ d, isMx c0 N d ∧ r = nI (fb_sm (hie f c0 N) (d + 1)))) ([.ref h] : List Value).toArray s 0 0 zNo) (F0 m 9 ls []) := by
    intro fu9
    induction fu9 with
    | zero =>
      intro k x H locs ls hk0 hxe hfu9
      exact absurd hfu9 (Nat.not_lt_zero _)
    | succ fu9 ih9 =>
      intro k x H locs ls hk0 hxe hfu9 hP hS hl
      have hxb := hie_b f c0 hN k
      refine lv_iload_n hx hb dX0_hierarchy_9 rfl (lv_at hl 0 rfl) ?_
      refine lv_iload_n hx hb dX0_hierarchy_10 rfl (lv_at hl 3 rfl) ?_
      refine z_icmp_gt (tgt := 37) hx hb dX0_hierarchy_11 (by decide) (by omega) (by omega) (fun h11 => ?_) (fun h11 => ?_)
      · refine lv_iload_n hx hb dX0_hierarchy_37 rfl (lv_at hl 1 rfl) ?_
        exact W.iret (v := (nI x)) hx hb hr (fun t9 ht9 hW9 => ⟨⟨(nI x), (), rfl, ⟨d, hd, by rw [hxe, show k = d + 1 by omega]⟩, trivial⟩, hS.F ht9⟩) hS.2.2 dX0_hierarchy_38
      · refine lv_iload_n hx hb dX0_hierarchy_14 rfl (lv_at hl 1 rfl) ?_
        refine lv_aload_n hx hb dX0_hierarchy_15 rfl (lv_at hl 2 rfl) ?_
        refine lv_aload_n hx hb dX0_hierarchy_16 rfl (lv_at hl 2 rfl) ?_
        refine lv_iload_n hx hb dX0_hierarchy_17 rfl (lv_at hl 0 rfl) ?_
        refine zrV (As := [.int (nI k)]) (rest := [.ref h, .int (nI x)]) 0 ⟨hx, hb, hml, hown, hts⟩ (c_X0_coreSet l D cy h a0 a1 a2 N ec cc f cs tr (nI k) hN) (cwV 1 hts gX0_hierarchy_X0_coreSet rfl rfl rfl (by decide +kernel) ⟨Nat.le_of_ble_eq_true rfl, Nat.le_of_ble_eq_true rfl⟩) hK hP rfl rfl rfl hl rfl (Nat.le_of_ble_eq_true rfl) dX0_hierarchy_18 ⟨Nat.le_of_ble_eq_true rfl, Nat.le_of_ble_eq_true rfl⟩ hS (fun r18 H locs hw18 hk9 hS => ?_)
        obtain rfl : r18 = (zmk (fun i => decide ((nI k) ≤ cs i)) N) := hw18
        have hP := zkeep hP hk9
        rw [cst_of hN hc (k := k) (by omega)]
        refine lv_aload_n hx hb dX0_hierarchy_21 rfl (lv_at hl 2 rfl) ?_
        refine lv_iload_n hx hb dX0_hierarchy_22 rfl (lv_at hl 0 rfl) ?_
        refine zrV (As := [.int (nI k)]) (rest := [.int (cst c0 N (k : Int)), .ref h, .int (nI x)]) 0 ⟨hx, hb, hml, hown, hts⟩ (c_X0_shellSet l D cy h a0 a1 a2 N ec cc f cs tr (nI k) hN) (cwV 1 hts gX0_hierarchy_X0_shellSet rfl rfl rfl (by decide +kernel) ⟨Nat.le_of_ble_eq_true rfl, Nat.le_of_ble_eq_true rfl⟩) hK hP rfl rfl rfl hl rfl (Nat.le_of_ble_eq_true rfl) dX0_hierarchy_23 ⟨Nat.le_of_ble_eq_true rfl, Nat.le_of_ble_eq_true rfl⟩ hS (fun r23 H locs hw23 hk9 hS => ?_)
        obtain rfl : r23 = (zmk (fun i => decide ((nI k) ≤ cs i)) N &&& znt (zmk (fun i => decide ((nI k) + nI 1 ≤ cs i)) N)) := hw23
        have hP := zkeep hP hk9
        rw [shl_of hN hc (k := k) (by omega)]
        refine zrV (As := [.int (cst c0 N (k : Int)), .int (shl c0 N k)]) (rest := [.int (nI x)]) 0 ⟨hx, hb, hml, hown, hts⟩ (c_X0_countCommunities l D cy h a0 a1 a2 N ec cc f cs tr (cst c0 N (k : Int)) (shl c0 N k) hN hg (cst_sub hN _) (shl_le c0 N k)) (cwV 2 hts gX0_hierarchy_X0_countCommunities rfl rfl rfl (by decide +kernel) ⟨Nat.le_of_ble_eq_true rfl, Nat.le_of_ble_eq_true rfl⟩) hK hP rfl rfl rfl hl rfl (Nat.le_of_ble_eq_true rfl) dX0_hierarchy_26 ⟨Nat.le_of_ble_eq_true rfl, Nat.le_of_ble_eq_true rfl⟩ hS (fun r26 H locs hw26 hk9 hS => ?_)
        obtain rfl : r26 = (nI (ccn f N (cst c0 N (k : Int)) (shl c0 N k))) := hw26
        have hP := zkeep hP hk9
        refine z_iadd hx hb dX0_hierarchy_29 ?_
        refine lv_istore_n (lv' := [(1, .int (nI (x + (ccn f N (cst c0 N (k : Int)) (shl c0 N k))))), (3, .int (nI k)), (0, .ref h), (2, .int (nI d))]) hx hb dX0_hierarchy_30 rfl hl (by decide) rfl (fun ls hl => ?_)
        refine lv_iinc (v := (nI (k + 1))) (lv' := [(3, .int (nI (k + 1))), (1, .int (nI (x + (ccn f N (cst c0 N (k : Int)) (shl c0 N k))))), (0, .ref h), (2, .int (nI d))]) hx hb dX0_hierarchy_31 hl (k := 1) rfl (nI_1 _) (by decide) rfl (fun ls hl => ?_)
        refine lv_goto (tgt := 9) hx hb dX0_hierarchy_34 (by decide) ?_
        exact ih9 (k + 1) (x + (ccn f N (cst c0 N (k : Int)) (shl c0 N k))) _ _ _ (by omega) (by rw [hxe, fb_sm_succ]; rfl) (by omega) hP hS (lv_sub hl [0, 1, 2, 3] rfl)
  exact K9 (d + 1 - 0 + 1) 0 0 _ _ _ (by omega) rfl (Nat.lt_succ_self _) hP hS (lv_sub hl [0, 2, 3, 1] rfl)
set_option maxHeartbeats 4000000 in
set_option maxRecDepth 100000 in
theorem c_X0_denseSize (l : Launch) (D : va_G) (cy : ClassId) (h a0 a1 a2 N : Nat) (ec cc : Int32) (f cs tr : Nat → Int32) (hN : N ≤ 20) (hec : ec = nI (ewn f N (zal N))) : Met l yX0_denseSize wsX0_denseSize ({ frames := 4, cells := 0, slots := 0, locals := 90 } : Room) (va_Pc [.ref h] (zRd D (wB h a0 a1 a2 cy N ec cc f cs tr) [(cy, .int)])) (zPo (fun r => r = nI (zpop (dsk f N (N - 1)).2.1))) 0 0 zNo := by
  refine Met.ofW (cc := cX0_denseSize) (maxL := 1) (ret := (some .int)) (by decide) rfl ?_
  intro p e s m args below meth c s₁ B hml hv
  obtain ⟨rfl, hP, hK⟩ := hv
  have hx := B.exec
  have hb := B.bytes
  have hr := B.returns
  have hts := atoms_spec (ws := wsX0_denseSize) B.pre
  have hown : s.vm.findClass RX0 = some m.cls := findClass_of_methodNamed B.named
  have hlocks := B.notSynchronized
  have hS : va_S (fun _ => False) s.heap s.heap [] := va_S.rf
  have hl := lv_entry ([.ref h]) (n := 1) (Nat.le_of_ble_eq_true rfl)
  rw [lg_entry_eq]
  generalize (lg_sl ([.ref h]) ++ List.replicate (1 - (lg_sl ([.ref h])).length) Slot.unset).toArray = ls at hl ⊢
  have hl : lv_has ls 1 [(0, .ref h)] := hl
  refine lv_aload_n hx hb dX0_denseSize_0 rfl (lv_at hl 0 rfl) ?_
  refine zrV (As := []) (rest := []) 0 ⟨hx, hb, hml, hown, hts⟩ (c_X0_denseSet l D cy h a0 a1 a2 N ec cc f cs tr hN hec) (cwV 0 hts gX0_denseSize_X0_denseSet rfl rfl rfl (by decide +kernel) ⟨Nat.le_of_ble_eq_true rfl, Nat.le_of_ble_eq_true rfl⟩) hK hP rfl rfl rfl hl rfl (Nat.le_of_ble_eq_true rfl) dX0_denseSize_1 ⟨Nat.le_of_ble_eq_true rfl, Nat.le_of_ble_eq_true rfl⟩ hS (fun r1 H locs hw1 hk9 hS => ?_)
  obtain rfl : r1 = (dsk f N (N - 1)).2.1 := hw1
  have hP := zkeep hP hk9
  refine zrS0 (As := [.int ((dsk f N (N - 1)).2.1)]) (rest := []) ⟨hx, hb, hml, hown, hts⟩ (c_X0_size l ((dsk f N (N - 1)).2.1)) (va_cwS 1 hts gX0_denseSize_X0_size rfl rfl rfl (by decide +kernel) ⟨Nat.le_of_ble_eq_true rfl, Nat.le_of_ble_eq_true rfl⟩) rfl hl rfl (Nat.le_of_ble_eq_true rfl) dX0_denseSize_4 ⟨Nat.le_of_ble_eq_true rfl, Nat.le_of_ble_eq_true rfl⟩ hS (fun r4 H locs hw4 hk9 hS => ?_)
  obtain rfl : r4 = (nI (zpop ((dsk f N (N - 1)).2.1))) := hw4
  have hP := zkeep hP hk9
  exact W.iret (v := (nI (zpop ((dsk f N (N - 1)).2.1)))) hx hb hr (fun t9 ht9 hW9 => ⟨⟨(nI (zpop ((dsk f N (N - 1)).2.1))), (), rfl, rfl, trivial⟩, hS.F ht9⟩) hS.2.2 dX0_denseSize_7
set_option maxHeartbeats 4000000 in
set_option maxRecDepth 100000 in
theorem c_X0_triangles (l : Launch) (D : va_G) (cy : ClassId) (h a0 a1 a2 N : Nat) (ec cc : Int32) (f cs tr : Nat → Int32) (hN : N ≤ 20) : Met l yX0_triangles wsX0_triangles ({ frames := 2, cells := 0, slots := 0, locals := 41 } : Room) (va_Pc [.ref h] (zRd D (wB h a0 a1 a2 cy N ec cc f cs tr) [(cy, .int)])) (zPo (fun r => r = nI (fb_sm (trs f N) N / 3))) 0 0 zNo := by
  refine Met.ofW (cc := cX0_triangles) (maxL := 4) (ret := (some .int)) (by decide) rfl ?_
  intro p e s m args below meth c s₁ B hml hv
  obtain ⟨rfl, hP, hK⟩ := hv
  have hx := B.exec
  have hb := B.bytes
  have hr := B.returns
  have hts := atoms_spec (ws := wsX0_triangles) B.pre
  have hown : s.vm.findClass RX0 = some m.cls := findClass_of_methodNamed B.named
  have hlocks := B.notSynchronized
  have hS : va_S (fun _ => False) s.heap s.heap [] := va_S.rf
  have hin : ∀ w ∈ wsX00, w ∈ wsX0_triangles := by decide +kernel
  have hf9 := hts (.fieldLink RX0 9 "Corebarn" "neighbours" "[I") (by decide +kernel)
  have hf19 := hts (.fieldLink RX0 19 "Corebarn" "nodeCount" "I") (by decide +kernel)
  have hl := lv_entry ([.ref h]) (n := 4) (Nat.le_of_ble_eq_true rfl)
  rw [lg_entry_eq]
  generalize (lg_sl ([.ref h]) ++ List.replicate (4 - (lg_sl ([.ref h])).length) Slot.unset).toArray = ls at hl ⊢
  have hl : lv_has ls 4 [(0, .ref h)] := hl
  refine lv_iconst (v := (nI 0)) hx hb dX0_triangles_0 (by decide) ?_
  refine lv_istore_n (lv' := [(1, .int (nI 0)), (0, .ref h)]) hx hb dX0_triangles_1 rfl hl (by decide) rfl (fun ls hl => ?_)
  refine lv_iconst (v := (nI 0)) hx hb dX0_triangles_2 (by decide) ?_
  refine lv_istore_n (lv' := [(2, .int (nI 0)), (1, .int (nI 0)), (0, .ref h)]) hx hb dX0_triangles_3 rfl hl (by decide) rfl (fun ls hl => ?_)
  have K4 : ∀ (fu4 : Nat) (i : Nat) (x : Nat) (H : Heap) (locs : List Loc) (ls : Array Slot), (i ≤ N) → (x = fb_sm (trs f N) i) → N - i < fu4 → va_P D vwCl (wB h a0 a1 a2 cy N ec cc f cs tr) H → va_S (fun _ => False) s.heap H locs → lv_has ls 4 [(2, .int (nI i)), (1, .int (nI x)), (0, .ref h)] → W p l e (headSpec wsX0_triangles ({ frames := 2, cells := 0, slots := 0, locals := 41 } : Room)).room s m ([.ref h] : List Value).toArray below meth c H locs 0 0 (MQ below (zPo (fun r => r = nI (fb_sm (trs f N) N / 3))) ([.ref h] : List Value).toArray s 0 0 zNo) (F0 m 4 ls []) := by
    intro fu4
    induction fu4 with
    | zero =>
      intro i x H locs ls hi hxe hfu4
      exact absurd hfu4 (Nat.not_lt_zero _)
    | succ fu4 ih4 =>
      intro i x H locs ls hi hxe hfu4 hP hS hl
      have hxb := trs_bb f hN i
      refine lv_iload_n hx hb dX0_triangles_4 rfl (lv_at hl 0 rfl) ?_
      refine lv_aload_n hx hb dX0_triangles_5 rfl (lv_at hl 2 rfl) ?_
      refine va_get (D := D) (ci := 0) (v := .int (nI N)) (C := RX0) (T := TX0) (N := 6) hx hb hts hin hown hK hP 0 rfl rfl 3 (by decide) hf19 (fun _ h9 => h9) rfl dX0_triangles_6 ?_
      refine z_icmp_ge (tgt := 68) hx hb dX0_triangles_9 (by decide) (by omega) (by omega) (fun h9 => ?_) (fun h9 => ?_)
      · refine lv_iload_n hx hb dX0_triangles_68 rfl (lv_at hl 1 rfl) ?_
        refine lv_iconst (v := (nI 3)) hx hb dX0_triangles_69 (by decide) ?_
        refine z_idiv hx hb dX0_triangles_70 (by omega) (by omega) (by omega) ?_
        exact W.iret (v := (nI (x / 3))) hx hb hr (fun t9 ht9 hW9 => ⟨⟨(nI (x / 3)), (), rfl, (by rw [hxe, Nat.le_antisymm hi h9]), trivial⟩, hS.F ht9⟩) hS.2.2 dX0_triangles_71
      · refine lv_iload_n hx hb dX0_triangles_12 rfl (lv_at hl 0 rfl) ?_
        refine lv_iconst (v := (nI 1)) hx hb dX0_triangles_13 (by decide) ?_
        refine z_iadd hx hb dX0_triangles_14 ?_
        refine lv_istore_n (lv' := [(3, .int (nI (i + 1))), (2, .int (nI i)), (1, .int (nI x)), (0, .ref h)]) hx hb dX0_triangles_15 rfl hl (by decide) rfl (fun ls hl => ?_)
        have K16 : ∀ (fu16 : Nat) (j : Nat) (y : Nat) (H : Heap) (locs : List Loc) (ls : Array Slot), (i + 1 ≤ j) → (j ≤ N) → (y = fb_sm (trs f N) i + fb_sm (tri f i) j) → N - j < fu16 → va_P D vwCl (wB h a0 a1 a2 cy N ec cc f cs tr) H → va_S (fun _ => False) s.heap H locs → lv_has ls 4 [(3, .int (nI j)), (1, .int (nI y)), (0, .ref h), (2, .int (nI i))] → W p l e (headSpec wsX0_triangles ({ frames := 2, cells := 0, slots := 0, locals := 41 } : Room)).room s m ([.ref h] : List Value).toArray below meth c H locs 0 0 (MQ below (zPo (fun r => r = nI (fb_sm (trs f N) N / 3))) ([.ref h] : List Value).toArray s 0 0 zNo) (F0 m 16 ls []) := by
          intro fu16
          induction fu16 with
          | zero =>
            intro j y H locs ls hij hj hye hfu16
            exact absurd hfu16 (Nat.not_lt_zero _)
          | succ fu16 ih16 =>
            intro j y H locs ls hij hj hye hfu16 hP hS hl
            have hyb := tri_b f i j
            refine lv_iload_n hx hb dX0_triangles_16 rfl (lv_at hl 0 rfl) ?_
            refine lv_aload_n hx hb dX0_triangles_17 rfl (lv_at hl 2 rfl) ?_
            refine va_get (D := D) (ci := 0) (v := .int (nI N)) (C := RX0) (T := TX0) (N := 6) hx hb hts hin hown hK hP 0 rfl rfl 3 (by decide) hf19 (fun _ h9 => h9) rfl dX0_triangles_18 ?_
            refine z_icmp_ge (tgt := 62) hx hb dX0_triangles_21 (by decide) (by omega) (by omega) (fun h21 => ?_) (fun h21 => ?_)
            · refine lv_iinc (v := (nI (i + 1))) (lv' := [(2, .int (nI (i + 1))), (3, .int (nI j)), (1, .int (nI y)), (0, .ref h)]) hx hb dX0_triangles_62 hl (k := 3) rfl (nI_1 _) (by decide) rfl (fun ls hl => ?_)
              refine lv_goto (tgt := 4) hx hb dX0_triangles_65 (by decide) ?_
              exact ih4 (i + 1) y _ _ _ (by omega) (by rw [hye, fb_sm_succ, Nat.le_antisymm hj h21]; rfl) (by omega) hP hS (lv_sub hl [0, 2, 3] rfl)
            · refine lv_aload_n hx hb dX0_triangles_24 rfl (lv_at hl 2 rfl) ?_
              refine va_get (D := D) (ci := 0) (v := .ref a0) (C := RX0) (T := TX0) (N := 6) hx hb hts hin hown hK hP 0 rfl rfl 0 (by decide) hf9 (fun _ h9 => h9) rfl dX0_triangles_25 ?_
              refine lv_iload_n hx hb dX0_triangles_28 rfl (lv_at hl 3 rfl) ?_
              refine z_iald hx hb hK hP 1 0 rfl rfl (by omega) (by decide) dX0_triangles_29 ?_
              refine lv_iload_n hx hb dX0_triangles_30 rfl (lv_at hl 0 rfl) ?_
              refine zrS0 (As := [.int (f i), .int (nI j)]) (rest := []) ⟨hx, hb, hml, hown, hts⟩ (c_X0_contains l (f i) j (by omega)) (va_cwS 2 hts gX0_triangles_X0_contains rfl rfl rfl (by decide +kernel) ⟨Nat.le_of_ble_eq_true rfl, Nat.le_of_ble_eq_true rfl⟩) rfl hl rfl (Nat.le_of_ble_eq_true rfl) dX0_triangles_31 ⟨Nat.le_of_ble_eq_true rfl, Nat.le_of_ble_eq_true rfl⟩ hS (fun r31 H locs hw31 hk9 hS => ?_)
              obtain rfl : r31 = (zb (bt (f i) j)) := hw31
              have hP := zkeep hP hk9
              refine z_ifb_eq (tgt := 56) hx hb dX0_triangles_34 (by decide) (fun h34 => ?_) (fun h34 => ?_)
              · refine lv_iinc (v := (nI (j + 1))) (lv' := [(3, .int (nI (j + 1))), (1, .int (nI y)), (0, .ref h), (2, .int (nI i))]) hx hb dX0_triangles_56 hl (k := 0) rfl (nI_1 _) (by decide) rfl (fun ls hl => ?_)
                refine lv_goto (tgt := 16) hx hb dX0_triangles_59 (by decide) ?_
                exact ih16 (j + 1) y _ _ _ (by omega) (by omega) (by rw [fb_sm_succ, hye, tri, if_neg (fun q => by rw [h34] at q; cases q.2)]; rfl) (by omega) hP hS (lv_sub hl [0, 1, 2, 3] rfl)
              · refine lv_iload_n hx hb dX0_triangles_37 rfl (lv_at hl 1 rfl) ?_
                refine lv_aload_n hx hb dX0_triangles_38 rfl (lv_at hl 2 rfl) ?_
                refine va_get (D := D) (ci := 0) (v := .ref a0) (C := RX0) (T := TX0) (N := 6) hx hb hts hin hown hK hP 0 rfl rfl 0 (by decide) hf9 (fun _ h9 => h9) rfl dX0_triangles_39 ?_
                refine lv_iload_n hx hb dX0_triangles_42 rfl (lv_at hl 3 rfl) ?_
                refine z_iald hx hb hK hP 1 0 rfl rfl (by omega) (by decide) dX0_triangles_43 ?_
                refine lv_aload_n hx hb dX0_triangles_44 rfl (lv_at hl 2 rfl) ?_
                refine va_get (D := D) (ci := 0) (v := .ref a0) (C := RX0) (T := TX0) (N := 6) hx hb hts hin hown hK hP 0 rfl rfl 0 (by decide) hf9 (fun _ h9 => h9) rfl dX0_triangles_45 ?_
                refine lv_iload_n hx hb dX0_triangles_48 rfl (lv_at hl 0 rfl) ?_
                refine z_iald hx hb hK hP 1 0 rfl rfl (by omega) (by decide) dX0_triangles_49 ?_
                refine lv_iand hx hb dX0_triangles_50 ?_
                refine zrS0 (As := [.int ((f i) &&& (f j))]) (rest := [.int (nI y)]) ⟨hx, hb, hml, hown, hts⟩ (c_X0_size l ((f i) &&& (f j))) (va_cwS 1 hts gX0_triangles_X0_size rfl rfl rfl (by decide +kernel) ⟨Nat.le_of_ble_eq_true rfl, Nat.le_of_ble_eq_true rfl⟩) rfl hl rfl (Nat.le_of_ble_eq_true rfl) dX0_triangles_51 ⟨Nat.le_of_ble_eq_true rfl, Nat.le_of_ble_eq_true rfl⟩ hS (fun r51 H locs hw51 hk9 hS => ?_)
                obtain rfl : r51 = (nI (zpop ((f i) &&& (f j)))) := hw51
                have hP := zkeep hP hk9
                refine z_iadd hx hb dX0_triangles_54 ?_
                refine lv_istore_n (lv' := [(1, .int (nI (y + (zpop ((f i) &&& (f j)))))), (3, .int (nI j)), (0, .ref h), (2, .int (nI i))]) hx hb dX0_triangles_55 rfl hl (by decide) rfl (fun ls hl => ?_)
                refine lv_iinc (v := (nI (j + 1))) (lv' := [(3, .int (nI (j + 1))), (1, .int (nI (y + (zpop ((f i) &&& (f j)))))), (0, .ref h), (2, .int (nI i))]) hx hb dX0_triangles_56 hl (k := 1) rfl (nI_1 _) (by decide) rfl (fun ls hl => ?_)
                refine lv_goto (tgt := 16) hx hb dX0_triangles_59 (by decide) ?_
                exact ih16 (j + 1) (y + (zpop ((f i) &&& (f j)))) _ _ _ (by omega) (by omega) (by rw [fb_sm_succ, hye, tri, if_pos ⟨by omega, h34⟩, Nat.add_assoc]) (by omega) hP hS (lv_sub hl [0, 1, 2, 3] rfl)
        exact K16 (N - (i + 1) + 1) (i + 1) x _ _ _ (by omega) (by omega) (by rw [tri_0 f i (i + 1) (Nat.le_refl _)]; exact hxe) (Nat.lt_succ_self _) hP hS (lv_sub hl [0, 2, 3, 1] rfl)
  exact K4 (N - 0 + 1) 0 0 _ _ _ (by omega) rfl (Nat.lt_succ_self _) hP hS (lv_sub hl [0, 1, 2] rfl)
end
section
/-! ===== calls that write; what the model's loops do ===== -/
/-- what a method wants that writes the cells w -/
abbrev zWr (D : va_G) (w : va_W) (tys : List (ClassId × FieldType)) (sz : Nat) : State → Prop := fun U => U.heap.size = sz ∧ va_P D vwCl w U.heap ∧ va_K D vwCl tys U ∧ va_D (fun _ => True) w
section ZW
variable {p : Program} {l : Launch} {e : Env} {R : Room} {s : State} {m : MethodId} {args : Array Value} {below : List Frame} {meth : Method} {c : Code} {H : Heap} {locs : List Loc} {cells slots : Nat} {Q : State → Prop}
variable {cc : ByteArray} {pc : Nat} {ls : Array Slot} {rest st0 : List Value} {y : MethodName} {bytes : ByteArray} {maxL nL n index mc ms : Nat} {ret : Option FieldType} {ws Ts : List Cond} {rm : Room} {own C : String} {As : List Value} {A0 : Nat → Prop} {H0 : Heap} {lv : List (Nat × Value)}
theorem zwPre {D : va_G} {w : va_W} {tys : List (ClassId × FieldType)} {b ci : Nat} {T : u_T} {N0 : Nat} {fs : List Value} {q0 : Nat} (hK : va_K D vwCl tys s) (hP : va_P D vwCl w H) (hD : va_D A0 w) (he : w[q0]? = some (b, .inr (ci, fs))) (hc : vwCl[ci]? = some (C, T, N0)) : PreV s H C b (va_Pc (.ref b :: As) (zWr D w tys H.size)) As :=
  ⟨fun a U g mk q => ⟨q.1, q.2.1, q.2.2.1, va_K.moved (u := U) (U := U.calling g mk a) (Vm.Alike.refl U.vm) q.2.2.2.1, q.2.2.2.2⟩, va_recv hK hP hc he, fun U hU hW => ⟨rfl, by rw [hU], by rw [hU]; exact hP, va_K.moved hW.alike hK, hD.weaken (fun _ _ _ _ => trivial)⟩⟩
/-- a call by name that answers an int and writes the cells w -/
theorem zwVi {SU : Type} {post : Int32 → SU → Prop} {w1 : SU → va_W} {D : va_G} {w : va_W} {tys : List (ClassId × FieldType)} {b ci : Nat} {T : u_T} {N0 : Nat} {fs : List Value} (q0 : Nat) (is : List Nat) (his : is.map (fun i => w[i]?) = w.map some) (cf : CallFix p m c cc nL s args Ts own) (hM : Met l y ws rm (va_Pc (.ref b :: As) (zWr D w tys H.size)) (va_Qi post (fun u t => va_P D vwCl (w1 u) t.heap) (va_A w H.size)) mc ms (va_A w H.size)) (cw : CallW R s args own C index y bytes maxL ret ws rm mc ms n) (hK : va_K D vwCl tys s) (hP : va_P D vwCl w H) (hD : va_D A0 w) (hA : ∀ q, H0.size ≤ q → A0 q) (he : w[q0]? = some (b, .inr (ci, fs))) (hc : vwCl[ci]? = some (C, T, N0)) (hn : As.length = n) (hl : lv_has ls nL lv) (hst : st0 = As.reverse ++ .ref b :: rest) (hrm : (rest.map fun v => v.category).sum ≤ 8) (hdg : decode cc pc = .ok (.invokevirtual index, 3)) (hf : cells + mc ≤ R.cells ∧ slots + ms ≤ R.slots) (hS : va_S A0 H0 H locs)
    (kk : ∀ (r : Int32) (u : SU) (H1 : Heap) (locs1 : List Loc), post r u → va_P D vwCl (w1 u) H1 → va_S A0 H0 H1 locs1 → W p l e R s m args below meth c H1 locs1 (cells + mc) (slots + ms) Q (F0 m (pc + 3) ls (.int r :: rest))) : W p l e R s m args below meth c H locs cells slots Q (F0 m pc ls st0) := by
  subst hst
  have hF := va_free (wc := w) hD hS hA is his
  exact va_calli (va_runV cf hM cw (zwPre hK hP hD he hc) rfl hn hl.1 rfl (lv_room hrm) hdg hf) hS (fun q _ h => hF q h) hF (fun r u t H1 locs1 ht hvm hw hB hz hk hS1 => kk r u H1 locs1 hw (ht ▸ hB) hS1)
/-- .. that answers nothing -/
theorem zwVv {SU : Type} {post : SU → Prop} {w1 : SU → va_W} {D : va_G} {w : va_W} {tys : List (ClassId × FieldType)} {b ci : Nat} {T : u_T} {N0 : Nat} {fs : List Value} (q0 : Nat) (is : List Nat) (his : is.map (fun i => w[i]?) = w.map some) (cf : CallFix p m c cc nL s args Ts own) (hM : Met l y ws rm (va_Pc (.ref b :: As) (zWr D w tys H.size)) (va_Qv post (fun u t => va_P D vwCl (w1 u) t.heap) (va_A w H.size)) mc ms (va_A w H.size)) (cw : CallW R s args own C index y bytes maxL ret ws rm mc ms n) (hK : va_K D vwCl tys s) (hP : va_P D vwCl w H) (hD : va_D A0 w) (hA : ∀ q, H0.size ≤ q → A0 q) (he : w[q0]? = some (b, .inr (ci, fs))) (hc : vwCl[ci]? = some (C, T, N0)) (hn : As.length = n) (hl : lv_has ls nL lv) (hst : st0 = As.reverse ++ .ref b :: rest) (hrm : (rest.map fun v => v.category).sum ≤ 8) (hdg : decode cc pc = .ok (.invokevirtual index, 3)) (hf : cells + mc ≤ R.cells ∧ slots + ms ≤ R.slots) (hS : va_S A0 H0 H locs)
    (kk : ∀ (u : SU) (H1 : Heap) (locs1 : List Loc), post u → va_P D vwCl (w1 u) H1 → va_S A0 H0 H1 locs1 → W p l e R s m args below meth c H1 locs1 (cells + mc) (slots + ms) Q (F0 m (pc + 3) ls rest)) : W p l e R s m args below meth c H locs cells slots Q (F0 m pc ls st0) := by
  subst hst
  have hF := va_free (wc := w) hD hS hA is his
  exact va_callv (va_runV cf hM cw (zwPre hK hP hD he hc) rfl hn hl.1 rfl (lv_room hrm) hdg hf) hS (fun q _ h => hF q h) hF (fun u t H1 locs1 ht hvm hw hB hz hk hS1 => kk u H1 locs1 hw (ht ▸ hB) hS1)
/-- a call by name that reads the cells w and answers nothing -/
theorem zrVv {post : Prop} {D : va_G} {w : va_W} {tys : List (ClassId × FieldType)} {b ci : Nat} {T : u_T} {N0 : Nat} {fs : List Value} (q0 : Nat) (cf : CallFix p m c cc nL s args Ts own) (hM : Met l y ws rm (va_Pc (.ref b :: As) (zRd D w tys)) (va_Qv (fun (_ : Unit) => post) (fun _ _ => True) (fun _ => False)) 0 0 zNo) (cw : CallW R s args own C index y bytes maxL ret ws rm 0 0 n) (hK : va_K D vwCl tys s) (hP : va_P D vwCl w H) (he : w[q0]? = some (b, .inr (ci, fs))) (hc : vwCl[ci]? = some (C, T, N0)) (hn : As.length = n) (hl : lv_has ls nL lv) (hst : st0 = As.reverse ++ .ref b :: rest) (hrm : (rest.map fun v => v.category).sum ≤ 8) (hdg : decode cc pc = .ok (.invokevirtual index, 3)) (hf : cells + 0 ≤ R.cells ∧ slots + 0 ≤ R.slots) (hS : va_S A0 H0 H locs)
    (kk : ∀ (H1 : Heap) (locs1 : List Loc), post → zKp H H1 → va_S A0 H0 H1 locs1 → W p l e R s m args below meth c H1 locs1 cells slots Q (F0 m (pc + 3) ls rest)) : W p l e R s m args below meth c H locs cells slots Q (F0 m pc ls st0) := by
  subst hst
  exact va_callv (va_runV cf hM cw ⟨fun a U g mk q => ⟨q.1, q.2.1, va_K.moved (u := U) (U := U.calling g mk a) (Vm.Alike.refl U.vm) q.2.2⟩, va_recv hK hP hc he, fun U hU hW => ⟨rfl, by rw [hU]; exact hP, va_K.moved hW.alike hK⟩⟩ rfl hn hl.1 rfl (lv_room hrm) hdg hf) hS (fun _ _ h => h.elim) (fun _ h => h.elim) (fun u t H1 locs1 ht hvm hw hB hz hk hS1 => kk H1 locs1 hw ⟨hz, fun q h => hk q h (fun z => z)⟩ hS1)
/-- a static call that answers nothing -/
theorem zrS0v {post : Prop} (cf : CallFix p m c cc nL s args Ts own) (hM : Met l y ws rm (va_Pc As (fun _ => True)) (va_Qv (fun (_ : Unit) => post) (fun _ _ => True) (fun _ => False)) 0 0 zNo) (cw : CallB R s args own index y bytes maxL ret ws rm 0 0 n ∧ (Cond.static y).before args s = true) (hn : As.length = n) (hl : lv_has ls nL lv) (hst : st0 = As.reverse ++ rest) (hrm : (rest.map fun v => v.category).sum ≤ 8) (hdg : decode cc pc = .ok (.invokestatic index, 3)) (hf : cells + 0 ≤ R.cells ∧ slots + 0 ≤ R.slots) (hS : va_S A0 H0 H locs)
    (kk : ∀ (H1 : Heap) (locs1 : List Loc), post → zKp H H1 → va_S A0 H0 H1 locs1 → W p l e R s m args below meth c H1 locs1 cells slots Q (F0 m (pc + 3) ls rest)) : W p l e R s m args below meth c H locs cells slots Q (F0 m pc ls st0) := by
  subst hst
  exact va_callv (va_runS cf hM cw ⟨fun a U g mk q => q, fun U hU hW => ⟨rfl, trivial⟩⟩ rfl hn hl.1 rfl (lv_room hrm) hdg hf) hS (fun _ _ h => h.elim) (fun _ h => h.elim) (fun u t H1 locs1 ht hvm hw hB hz hk hS1 => kk H1 locs1 hw ⟨hz, fun q h => hk q h (fun z => z)⟩ hS1)
theorem z_ifb_true (hexec : p.tables.exec = Jvm.exec) (hb : c.code = cc) {off : Int} {tgt : Nat} (hdg : decode cc pc = .ok (.ifCond .eq off, 3)) (ht : (pc : Int) + off = (tgt : Int))
    (kf : W p l e R s m args below meth c H locs cells slots Q (F0 m (pc + 3) ls rest)) : W p l e R s m args below meth c H locs cells slots Q (F0 m pc ls (.int (zb true) :: rest)) := z_ifb_eq hexec hb hdg ht (fun h => by cases h) (fun _ => kf)
theorem z_ifb_false (hexec : p.tables.exec = Jvm.exec) (hb : c.code = cc) {off : Int} {tgt : Nat} (hdg : decode cc pc = .ok (.ifCond .eq off, 3)) (ht : (pc : Int) + off = (tgt : Int))
    (kt : W p l e R s m args below meth c H locs cells slots Q (F0 m tgt ls rest)) : W p l e R s m args below meth c H locs cells slots Q (F0 m pc ls (.int (zb false) :: rest)) := z_ifb_eq hexec hb hdg ht (fun _ => kt) (fun h => by cases h)
theorem z_ifb_false_ne (hexec : p.tables.exec = Jvm.exec) (hb : c.code = cc) {off : Int} {tgt : Nat} (hdg : decode cc pc = .ok (.ifCond .ne off, 3)) (ht : (pc : Int) + off = (tgt : Int))
    (kf : W p l e R s m args below meth c H locs cells slots Q (F0 m (pc + 3) ls rest)) : W p l e R s m args below meth c H locs cells slots Q (F0 m pc ls (.int (zb false) :: rest)) := z_ifb_ne hexec hb hdg ht (fun h => by cases h) (fun _ => kf)
end ZW
/-! ===== nodes; single bits ===== -/
theorem gd_sub {f : Nat → Int32} {N u : Nat} (hg : gd f N) (hu : u < N) : zsub (f u) N := fun i q => (hg.2.1 u i hu q).1
theorem and_c (x y : Int32) : x &&& y = y &&& x := set_ext fun i => by rw [b_andt, b_andt]; exact ⟨fun h => ⟨h.2, h.1⟩, fun h => ⟨h.2, h.1⟩⟩
end
section
/-! ===== what the model's writers lay down ===== -/
theorem pop_lt20 {f : Nat → Int32} {N v : Nat} (hg : gd f N) (hv : v < N) (x : Int32) : zpop (f v &&& x) < 20 := by
  have h1 : zle (f v &&& x) (zal N) := le_al hg.1 (sub_le (le_andl _ _) (gd_sub hg hv))
  have h2 : bt (f v &&& x) v = false := by
    cases q : bt (f v &&& x) v
    · rfl
    · exact absurd rfl (hg.2.1 v v hv (b_andt.mp q).1).2.1
  have h3 : bt (zal N) v = true := by rw [b_al hg.1]; exact decide_eq_true hv
  have := pop_lt h1 h2 h3
  rw [pop_al hg.1] at this
  have := hg.1
  omega
/-- the last level below K at which the two are together, plus one; 0: none -/
noncomputable def tgk (f : Nat → Int32) (c : Nat → Nat) (N u v : Nat) : Nat → Nat
  | 0 => 0
  | K + 1 => if bt (cmp f (cst c N K) u) v = true then K + 1 else tgk f c N u v K
def tgi (t : Nat) : Int32 := if t = 0 then -1 else nI (t - 1)
theorem tgk_yes {f : Nat → Int32} {c : Nat → Nat} {N u v K : Nat} (h : bt (cmp f (cst c N K) u) v = true) : tgk f c N u v (K + 1) = K + 1 := by
  show (if _ then _ else _) = _
  rw [if_pos h]
theorem tgk_no {f : Nat → Int32} {c : Nat → Nat} {N u v K : Nat} (h : bt (cmp f (cst c N K) u) v = false) : tgk f c N u v (K + 1) = tgk f c N u v K := by
  show (if _ then _ else _) = _
  rw [if_neg (by rw [h]; exact Bool.false_ne_true)]
end
section
/-! ===== trusses; peeling, the model's way ===== -/
def trS (f : Nat → Int32) (N : Nat) (k : Int) (T : Nat → Int32) : Prop := (∀ u, u < N → zle (T u) (f u)) ∧ (∀ u v, u < N → bt (T u) v = true → bt (T v) u = true) ∧ ∀ u v, u < N → bt (T u) v = true → k ≤ (zpop (T u &&& T v) : Int)
/-- g holds the edges of the truss -/
def isTr (f : Nat → Int32) (N : Nat) (k : Int) (g : Nat → Int32) : Prop := trS f N k g ∧ ∀ T, trS f N k T → ∀ u, u < N → zle (T u) (g u)
def tE (g : Nat → Int32) (N : Nat) : Nat := fb_sm (fun u => zpop (g u)) N
def tI (f : Nat → Int32) (N : Nat) (k : Int) (g : Nat → Int32) : Prop := (∀ u, u < N → zle (g u) (f u)) ∧ (∀ u v, u < N → bt (g u) v = true → bt (g v) u = true) ∧ ∀ T, trS f N k T → ∀ u, u < N → zle (T u) (g u)
def tO (f : Nat → Int32) (N : Nat) (k : Int) (g : Nat → Int32) (d : Bool) (t : Nat) : Prop := tI f N k g ∧ (d = true → 2 * t + tE g N ≤ tE f N) ∧ (d = false → trS f N k g)
def tJ (f : Nat → Int32) (N : Nat) (k : Int) (g0 : Nat → Int32) (V : Nat → Nat → Prop) (g : Nat → Int32) (d : Bool) : Prop := tI f N k g ∧ (d = false → (∀ u, u < N → g u = g0 u) ∧ ∀ a b, a < N → V a b → bt (g0 a) b = true → k ≤ (zpop (g0 a &&& g0 b) : Int)) ∧ (d = true → tE g N + 2 ≤ tE g0 N)
theorem tE_cong {g g2 : Nat → Int32} {N : Nat} (h : ∀ u, u < N → g u = g2 u) : tE g N = tE g2 N := fb_sm_cong fun k hk => by rw [h k hk]
theorem tI_in {f g : Nat → Int32} {N : Nat} {k : Int} (hg : gd f N) (h : tI f N k g) {u v : Nat} (hu : u < N) (hv : bt (g u) v = true) : v < N ∧ v ≠ u := by
  have := hg.2.1 u v hu (h.1 u hu v hv)
  exact ⟨this.1, this.2.1⟩
theorem tO_0 {f g : Nat → Int32} {N : Nat} (k : Int) (hg : gd f N) (h : ∀ u, u < N → g u = f u) : tO f N k g true 0 := by
  refine ⟨⟨fun u hu => by rw [h u hu]; exact le_rf _, fun u v hu hv => ?_, fun T hT u hu => by rw [h u hu]; exact hT.1 u hu⟩, fun _ => by rw [tE_cong h]; omega, fun q => by cases q⟩
  rw [h u hu] at hv
  have := hg.2.1 u v hu hv
  rw [h v this.1]
  exact this.2.2
theorem tJ_V {f g g0 : Nat → Int32} {N : Nat} {k : Int} {d : Bool} {V V2 : Nat → Nat → Prop} (h : tJ f N k g0 V g d) (hV : ∀ a b, a < N → b < N → b ≠ a → V2 a b → V a b) (hg : gd f N) : tJ f N k g0 V2 g d := by
  refine ⟨h.1, fun hd => ?_, h.2.2⟩
  obtain ⟨h1, h2⟩ := h.2.1 hd
  refine ⟨h1, fun a b ha hab hb => ?_⟩
  have h3 := tI_in hg h.1 ha (by rw [h1 a ha]; exact hb)
  exact h2 a b ha (hV a b ha h3.1 h3.2 hab) hb
theorem tJ_skip {f g g0 : Nat → Int32} {N : Nat} {k : Int} {d : Bool} {V : Nat → Nat → Prop} {i j : Nat} (h : tJ f N k g0 V g d) (hi : i < N) (hb : bt (g i) j = false) : tJ f N k g0 (fun a b => V a b ∨ (a = i ∧ b = j)) g d := by
  refine ⟨h.1, fun hd => ?_, h.2.2⟩
  obtain ⟨h1, h2⟩ := h.2.1 hd
  refine ⟨h1, fun a b ha hab hc => ?_⟩
  rcases hab with q | ⟨q1, q2⟩
  · exact h2 a b ha q hc
  · rw [q1, q2, ← h1 i hi, hb] at hc; cases hc
theorem tJ_stay {f g g0 : Nat → Int32} {N : Nat} {k : Int} {d : Bool} {V : Nat → Nat → Prop} {i j : Nat} (h : tJ f N k g0 V g d) (hi : i < N) (hj : j < N) (hk : k ≤ (zpop (g i &&& g j) : Int)) : tJ f N k g0 (fun a b => V a b ∨ (a = i ∧ b = j)) g d := by
  refine ⟨h.1, fun hd => ?_, h.2.2⟩
  obtain ⟨h1, h2⟩ := h.2.1 hd
  refine ⟨h1, fun a b ha hab hc => ?_⟩
  rcases hab with q | ⟨q1, q2⟩
  · exact h2 a b ha q hc
  · rw [q1, q2, ← h1 i hi, ← h1 j hj]; exact hk
def cut2 (g : Nat → Int32) (i j : Nat) : Nat → Int32 := upd (upd g i (zdl (g i) j)) j (zdl (upd g i (zdl (g i) j) j) i)
theorem cut2_i {g : Nat → Int32} {i j : Nat} (h : i ≠ j) : cut2 g i j i = zdl (g i) j := by unfold cut2 upd; rw [if_neg h, if_pos rfl]
theorem cut2_j {g : Nat → Int32} {i j : Nat} (h : i ≠ j) : cut2 g i j j = zdl (g j) i := by unfold cut2 upd; rw [if_pos rfl, if_neg (Ne.symm h)]
theorem cut2_o {g : Nat → Int32} {i j w : Nat} (h : w ≠ i) (h2 : w ≠ j) : cut2 g i j w = g w := by unfold cut2 upd; rw [if_neg h2, if_neg h]
theorem cut2_b {g : Nat → Int32} {i j w x : Nat} (hij : i ≠ j) (hi : i < 32) (hj : j < 32) : bt (cut2 g i j w) x = true ↔ bt (g w) x = true ∧ ¬ (w = i ∧ x = j) ∧ ¬ (w = j ∧ x = i) := by
  by_cases h1 : w = i
  · subst h1
    rw [cut2_i hij, b_dl hj, Bool.and_eq_true]
    constructor
    · rintro ⟨q1, q2⟩
      refine ⟨q1, fun q => ?_, fun q => hij q.1⟩
      rw [q.2] at q2; simp at q2
    · rintro ⟨q1, q2, -⟩
      exact ⟨q1, by simp; exact fun q => q2 ⟨rfl, q⟩⟩
  · by_cases h2 : w = j
    · subst h2
      rw [cut2_j hij, b_dl hi, Bool.and_eq_true]
      constructor
      · rintro ⟨q1, q2⟩
        refine ⟨q1, fun q => hij q.1.symm, fun q => ?_⟩
        rw [q.2] at q2; simp at q2
      · rintro ⟨q1, -, q2⟩
        exact ⟨q1, by simp; exact fun q => q2 ⟨rfl, q⟩⟩
    · rw [cut2_o h1 h2]
      exact ⟨fun q => ⟨q, fun z => h1 z.1, fun z => h2 z.1⟩, fun q => q.1⟩
theorem tE_cut {g : Nat → Int32} {N i j : Nat} (hi : i < N) (hj : j < N) (hij : i ≠ j) (h1 : bt (g i) j = true) (h2 : bt (g j) i = true) : tE (cut2 g i j) N + 2 = tE g N := by
  have e1 : fb_sm (fun u => if u = i then zpop (zdl (g i) j) else zpop (g u)) N + zpop (g i) = tE g N + zpop (zdl (g i) j) := fb_sm_upd (fun u => zpop (g u)) _ hi
  have e2 : fb_sm (fun u => if u = j then zpop (zdl (g j) i) else (if u = i then zpop (zdl (g i) j) else zpop (g u))) N + (if j = i then zpop (zdl (g i) j) else zpop (g j)) = fb_sm (fun u => if u = i then zpop (zdl (g i) j) else zpop (g u)) N + zpop (zdl (g j) i) := fb_sm_upd (fun u => if u = i then zpop (zdl (g i) j) else zpop (g u)) _ hj
  have e3 : tE (cut2 g i j) N = fb_sm (fun u => if u = j then zpop (zdl (g j) i) else (if u = i then zpop (zdl (g i) j) else zpop (g u))) N := fb_sm_cong fun w _ => by
    by_cases q : w = j
    · rw [if_pos q, q, cut2_j hij]
    · rw [if_neg q]
      by_cases q2 : w = i
      · rw [if_pos q2, q2, cut2_i hij]
      · rw [if_neg q2, cut2_o q2 q]
  rw [if_neg (Ne.symm hij)] at e2
  have e4 := pop_dl h1
  have e5 := pop_dl h2
  omega
theorem tJ_drop {f g g0 : Nat → Int32} {N : Nat} {k : Int} {d : Bool} {V V2 : Nat → Nat → Prop} {i j : Nat} (hg : gd f N) (h : tJ f N k g0 V g d) (hi : i < N) (hb : bt (g i) j = true) (hk : ¬ k ≤ (zpop (g i &&& g j) : Int)) : tJ f N k g0 V2 (cut2 g i j) true := by
  have hN := hg.1
  obtain ⟨hj, hji⟩ := tI_in hg h.1 hi hb
  have hij : i ≠ j := Ne.symm hji
  have hb2 : bt (g j) i = true := h.1.2.1 i j hi hb
  have cb : ∀ w x, bt (cut2 g i j w) x = true ↔ bt (g w) x = true ∧ ¬ (w = i ∧ x = j) ∧ ¬ (w = j ∧ x = i) := fun w x => cut2_b hij (by omega) (by omega)
  refine ⟨⟨fun u hu x hx => h.1.1 u hu x ((cb u x).mp hx).1, fun u v hu hv => ?_, fun T hT u hu x hx => ?_⟩, fun q => (by cases q), fun _ => ?_⟩
  · obtain ⟨q1, q2, q3⟩ := (cb u v).mp hv
    exact (cb v u).mpr ⟨h.1.2.1 u v hu q1, fun q => q3 ⟨q.2, q.1⟩, fun q => q2 ⟨q.2, q.1⟩⟩
  · have key : ∀ a b, a < N → b < N → bt (T a) b = true → zpop (T a &&& T b) ≤ zpop (g a &&& g b) := fun a b ha hb _ => pop_le (le_and (h.1.2.2 T hT a ha) (h.1.2.2 T hT b hb))
    refine (cb u x).mpr ⟨h.1.2.2 T hT u hu x hx, fun q => ?_, fun q => ?_⟩
    · rw [q.1, q.2] at hx
      have := hT.2.2 i j hi hx
      have := key i j hi hj hx
      omega
    · rw [q.1, q.2] at hx
      have hx2 := hT.2.1 j i hj hx
      have := hT.2.2 i j hi hx2
      have := key i j hi hj hx2
      omega
  · have e := tE_cut hi hj hij hb hb2
    cases d
    · rw [tE_cong (h.2.1 rfl).1] at e; omega
    · have := h.2.2 rfl; omega
theorem tO_step {f g g0 : Nat → Int32} {N t : Nat} {k : Int} {d : Bool} {V : Nat → Nat → Prop} (hg : gd f N) (h : tO f N k g0 true t) (hj : tJ f N k g0 V g d) (hV : ∀ a b, a < N → b < N → b ≠ a → V a b ∨ V b a) : tO f N k g d (t + 1) := by
  refine ⟨hj.1, fun hd => ?_, fun hd => ?_⟩
  · have := hj.2.2 hd
    have := h.2.1 rfl
    omega
  · obtain ⟨h1, h2⟩ := hj.2.1 hd
    refine ⟨hj.1.1, hj.1.2.1, fun u v hu hv => ?_⟩
    obtain ⟨hv1, hv2⟩ := tI_in hg hj.1 hu hv
    have hv3 := hj.1.2.1 u v hu hv
    rw [h1 u hu, h1 v hv1]
    rw [h1 u hu] at hv
    rw [h1 v hv1] at hv3
    rcases hV u v hu hv1 hv2 with q | q
    · exact h2 u v hu q hv
    · have := h2 v u hv1 q hv3
      rw [and_c] at this
      exact this
theorem tO_end {f g : Nat → Int32} {N t : Nat} {k : Int} (h : tO f N k g false t) : isTr f N k g := ⟨h.2.2 rfl, h.1.2.2⟩
theorem tE_b {f : Nat → Int32} {N : Nat} (hg : gd f N) : tE f N ≤ 380 := by
  have h1 : tE f N ≤ N * 19 := fb_sm_bound fun k hk => by
    have := pop_lt20 hg hk (f k)
    rw [show f k &&& f k = f k from set_ext fun i => by rw [b_andt]; exact ⟨fun q => q.1, fun q => ⟨q, q⟩⟩] at this
    omega
  have := hg.1
  omega
theorem tO_t {f g : Nat → Int32} {N t : Nat} {k : Int} (hg : gd f N) (h : tO f N k g true t) : t ≤ 190 := by
  have := h.2.1 rfl
  have := tE_b hg
  omega
-- peeling
theorem npk_mem {f : Nat → Int32} {N : Nat} (hg : gd f N) (z : Int32) : ∀ i, i ≤ N → (((∀ w, w < i → bt z w = false) ∧ npk f z i = (0, 20)) ∨ (bt z (npk f z i).1 = true ∧ (npk f z i).1 < i ∧ (npk f z i).2 = zpop (f (npk f z i).1 &&& z)))
  | 0, _ => Or.inl ⟨fun w hw => absurd hw (Nat.not_lt_zero w), rfl⟩
  | i + 1, hi => by
    have ih := npk_mem hg z i (by omega)
    by_cases hc : bt z i = true ∧ zpop (f i &&& z) < (npk f z i).2
    · rw [npk_yes hc.1 hc.2]
      exact Or.inr ⟨hc.1, Nat.lt_succ_self i, rfl⟩
    · rw [npk_no hc]
      rcases ih with ⟨h1, h2⟩ | ⟨h1, h2, h3⟩
      · refine Or.inl ⟨fun w hw => ?_, h2⟩
        by_cases e : w = i
        · rw [e]
          cases q : bt z i
          · rfl
          · exact absurd ⟨q, by rw [h2]; exact pop_lt20 hg (by omega) z⟩ hc
        · exact h1 w (by omega)
      · exact Or.inr ⟨h1, by omega, h3⟩
theorem npk_in {f : Nat → Int32} {N : Nat} {z : Int32} (hg : gd f N) (hz : zsub z N) (h : 0 < zpop z) : bt z (npk f z N).1 = true ∧ (npk f z N).1 < N := by
  rcases npk_mem hg z N (Nat.le_refl N) with ⟨h1, -⟩ | ⟨h1, h2, -⟩
  · obtain ⟨i, hi⟩ := pop_ex h
    rw [h1 i (hz i hi)] at hi; cases hi
  · exact ⟨h1, h2⟩
theorem dsk_pop {f : Nat → Int32} {N : Nat} (hg : gd f N) : ∀ t, t ≤ N → zpop (dsk f N t).1 = N - t
  | 0, _ => pop_al hg.1
  | t + 1, h => by
    have ih := dsk_pop hg t (by omega)
    have hz : zsub (dsk f N t).1 N := sub_le (dsk_sub hg.1 t).1 (sub_al hg.1)
    have h1 := (npk_in hg hz (by omega)).1
    rw [dsk_1]
    have := pop_dl h1
    omega
end
section
/-! ===== core numbers of a network; an edge turned over ===== -/
theorem tJ_i {f g : Nat → Int32} {N : Nat} {k : Int} {V : Nat → Nat → Prop} (h : tI f N k g) (hV : ∀ a b, ¬ V a b) : tJ f N k g V g false := ⟨h, fun _ => ⟨fun _ _ => rfl, fun a b _ hab => absurd hab (hV a b)⟩, fun q => by cases q⟩
end
section
set_option maxHeartbeats 4000000 in
set_option maxRecDepth 100000 in
theorem c_X0_startTrusses (l : Launch) (D : va_G) (cy : ClassId) (h a0 a1 a2 N : Nat) (ec cc : Int32) (f cs tr : Nat → Int32) (sz : Nat) (hN : N ≤ 20) : Met l yX0_startTrusses wsX0_startTrusses ({ frames := 0, cells := 0, slots := 0, locals := 0 } : Room) (va_Pc [.ref h] (zWr D (wB h a0 a1 a2 cy N ec cc f cs tr) [(cy, .int)] sz)) (va_Qv (fun (z9 : (Nat → Int32)) => ∀ w, w < N → z9 w = f w) (fun (z9 : (Nat → Int32)) t => va_P D vwCl (wB h a0 a1 a2 cy N ec cc f cs z9) t.heap) (va_A (wB h a0 a1 a2 cy N ec cc f cs tr) sz)) 0 0 (va_A (wB h a0 a1 a2 cy N ec cc f cs tr) sz) := by
  refine Met.ofW (cc := cX0_startTrusses) (maxL := 2) (ret := none) (by decide) rfl ?_
  intro p e s m args below meth c s₁ B hml hv
  obtain ⟨rfl, hsz, hP, hK, hD0⟩ := hv
  have hx := B.exec
  have hb := B.bytes
  have hr := B.returns
  have hts := atoms_spec (ws := wsX0_startTrusses) B.pre
  have hown : s.vm.findClass RX0 = some m.cls := findClass_of_methodNamed B.named
  have hlocks := B.notSynchronized
  subst hsz
  have hD := hD0.self (sz := s.heap.size)
  generalize hAe : va_A (wB h a0 a1 a2 cy N ec cc f cs tr) s.heap.size = A at hD ⊢
  have hA : ∀ q : Nat, s.heap.size ≤ q → A q := fun q h => by rw [← hAe]; exact Or.inr h
  have hS : va_S A s.heap s.heap [] := va_S.rf
  have hin : ∀ w ∈ wsX00, w ∈ wsX0_startTrusses := by decide +kernel
  have hf9 := hts (.fieldLink RX0 9 "Corebarn" "neighbours" "[I") (by decide +kernel)
  have hf16 := hts (.fieldLink RX0 16 "Corebarn" "trussNeighbours" "[I") (by decide +kernel)
  have hf19 := hts (.fieldLink RX0 19 "Corebarn" "nodeCount" "I") (by decide +kernel)
  have hl := lv_entry ([.ref h]) (n := 2) (Nat.le_of_ble_eq_true rfl)
  rw [lg_entry_eq]
  generalize (lg_sl ([.ref h]) ++ List.replicate (2 - (lg_sl ([.ref h])).length) Slot.unset).toArray = ls at hl ⊢
  have hl : lv_has ls 2 [(0, .ref h)] := hl
  refine lv_iconst (v := (nI 0)) hx hb dX0_startTrusses_0 (by decide) ?_
  refine lv_istore_n (lv' := [(1, .int (nI 0)), (0, .ref h)]) hx hb dX0_startTrusses_1 rfl hl (by decide) rfl (fun ls hl => ?_)
  have K2 : ∀ (fu2 : Nat) (i : Nat) (g1 : Nat → Int32) (H : Heap) (locs : List Loc) (ls : Array Slot), (i ≤ N) → (∀ w, w < i → g1 w = f w) → N - i < fu2 → va_P D vwCl (wB h a0 a1 a2 cy N ec cc f cs g1) H → va_S A s.heap H locs → lv_has ls 2 [(1, .int (nI i)), (0, .ref h)] → W p l e (headSpec wsX0_startTrusses ({ frames := 0, cells := 0, slots := 0, locals := 0 } : Room)).room s m ([.ref h] : List Value).toArray below meth c H locs 0 0 (MQ below (va_Qv (fun (z9 : (Nat → Int32)) => ∀ w, w < N → z9 w = f w) (fun (z9 : (Nat → Int32)) t => va_P D vwCl (wB h a0 a1 a2 cy N ec cc f cs z9) t.heap) A) ([.ref h] : List Value).toArray s 0 0 A) (F0 m 2 ls []) := by
    intro fu2
    induction fu2 with
    | zero =>
      intro i g1 H locs ls hi hg1 hfu2
      exact absurd hfu2 (Nat.not_lt_zero _)
    | succ fu2 ih2 =>
      intro i g1 H locs ls hi hg1 hfu2 hP hS hl
      have hD : va_D A (wB h a0 a1 a2 cy N ec cc f cs g1) := zD hD rfl
      refine lv_iload_n hx hb dX0_startTrusses_2 rfl (lv_at hl 0 rfl) ?_
      refine lv_aload_n hx hb dX0_startTrusses_3 rfl (lv_at hl 1 rfl) ?_
      refine va_get (D := D) (ci := 0) (v := .int (nI N)) (C := RX0) (T := TX0) (N := 6) hx hb hts hin hown hK hP 0 rfl rfl 3 (by decide) hf19 (fun _ h9 => h9) rfl dX0_startTrusses_4 ?_
      refine z_icmp_ge (tgt := 28) hx hb dX0_startTrusses_7 (by decide) (by omega) (by omega) (fun h7 => ?_) (fun h7 => ?_)
      · exact W.vret hx hb hr (fun t9 ht9 hW9 => ⟨⟨g1, rfl, (fun w hw => hg1 w (by omega)), by show va_P D vwCl (wB h a0 a1 a2 cy N ec cc f cs g1) t9.heap; rw [ht9]; exact hP⟩, hS.F ht9⟩) hS.2.2 dX0_startTrusses_28
      · refine lv_aload_n hx hb dX0_startTrusses_10 rfl (lv_at hl 1 rfl) ?_
        refine va_get (D := D) (ci := 0) (v := .ref a2) (C := RX0) (T := TX0) (N := 6) hx hb hts hin hown hK hP 0 rfl rfl 2 (by decide) hf16 (fun _ h9 => h9) rfl dX0_startTrusses_11 ?_
        refine lv_iload_n hx hb dX0_startTrusses_14 rfl (lv_at hl 0 rfl) ?_
        refine lv_aload_n hx hb dX0_startTrusses_15 rfl (lv_at hl 1 rfl) ?_
        refine va_get (D := D) (ci := 0) (v := .ref a0) (C := RX0) (T := TX0) (N := 6) hx hb hts hin hown hK hP 0 rfl rfl 0 (by decide) hf9 (fun _ h9 => h9) rfl dX0_startTrusses_16 ?_
        refine lv_iload_n hx hb dX0_startTrusses_19 rfl (lv_at hl 0 rfl) ?_
        refine z_iald hx hb hK hP 1 0 rfl rfl (by omega) (by decide) dX0_startTrusses_20 ?_
        refine z_iast hx hb hK hP hD hS 3 0 rfl rfl (by omega) (by decide) dX0_startTrusses_21 (fun H locs hP hS => ?_)
        have hP : va_P D vwCl (wB h a0 a1 a2 cy N ec cc f cs (upd g1 i (f i))) H := hP
        have hD : va_D A (wB h a0 a1 a2 cy N ec cc f cs (upd g1 i (f i))) := zD hD rfl
        refine lv_iinc (v := (nI (i + 1))) (lv' := [(1, .int (nI (i + 1))), (0, .ref h)]) hx hb dX0_startTrusses_22 hl (k := 0) rfl (nI_1 _) (by decide) rfl (fun ls hl => ?_)
        refine lv_goto (tgt := 2) hx hb dX0_startTrusses_25 (by decide) ?_
        exact ih2 (i + 1) (upd g1 i (f i)) _ _ _ (by omega) (fun w hw => by by_cases e : w = i; (rw [e, pk_us]); (rw [pk_un e]; exact hg1 w (by omega))) (by omega) hP hS (lv_sub hl [0, 1] rfl)
  exact K2 (N - 0 + 1) 0 tr _ _ _ (by omega) (fun w hw => absurd hw (Nat.not_lt_zero w)) (Nat.lt_succ_self _) hP hS (lv_sub hl [0, 1] rfl)
set_option maxHeartbeats 4000000 in
set_option maxRecDepth 100000 in
theorem c_X0_dropWeakEdges (l : Launch) (D : va_G) (cy : ClassId) (h a0 a1 a2 N : Nat) (ec cc : Int32) (f cs tr : Nat → Int32) (sz : Nat) (k : Int32) (f0 : Nat → Int32) (hg : gd f0 N) (hI : tI f0 N k.toInt tr) : Met l yX0_dropWeakEdges wsX0_dropWeakEdges ({ frames := 2, cells := 0, slots := 0, locals := 41 } : Room) (va_Pc [.ref h, .int k] (zWr D (wB h a0 a1 a2 cy N ec cc f cs tr) [(cy, .int)] sz)) (va_Qi (fun (r : Int32) (z9 : (Nat → Int32)) => ∃ d, r = zb d ∧ tJ f0 N (k).toInt tr (fun a b => a < N ∧ a < b) z9 d) (fun (z9 : (Nat → Int32)) t => va_P D vwCl (wB h a0 a1 a2 cy N ec cc f cs z9) t.heap) (va_A (wB h a0 a1 a2 cy N ec cc f cs tr) sz)) 0 0 (va_A (wB h a0 a1 a2 cy N ec cc f cs tr) sz) := by
  refine Met.ofW (cc := cX0_dropWeakEdges) (maxL := 5) (ret := (some .boolean)) (by decide) rfl ?_
  intro p e s m args below meth c s₁ B hml hv
  obtain ⟨rfl, hsz, hP, hK, hD0⟩ := hv
  have hx := B.exec
  have hb := B.bytes
  have hr := B.returns
  have hts := atoms_spec (ws := wsX0_dropWeakEdges) B.pre
  have hown : s.vm.findClass RX0 = some m.cls := findClass_of_methodNamed B.named
  have hlocks := B.notSynchronized
  subst hsz
  have hD := hD0.self (sz := s.heap.size)
  generalize hAe : va_A (wB h a0 a1 a2 cy N ec cc f cs tr) s.heap.size = A at hD ⊢
  have hA : ∀ q : Nat, s.heap.size ≤ q → A q := fun q h => by rw [← hAe]; exact Or.inr h
  have hS : va_S A s.heap s.heap [] := va_S.rf
  have hin : ∀ w ∈ wsX00, w ∈ wsX0_dropWeakEdges := by decide +kernel
  have hf16 := hts (.fieldLink RX0 16 "Corebarn" "trussNeighbours" "[I") (by decide +kernel)
  have hf19 := hts (.fieldLink RX0 19 "Corebarn" "nodeCount" "I") (by decide +kernel)
  have hN := hg.1
  have hl := lv_entry ([.ref h, .int k]) (n := 5) (Nat.le_of_ble_eq_true rfl)
  rw [lg_entry_eq]
  generalize (lg_sl ([.ref h, .int k]) ++ List.replicate (5 - (lg_sl ([.ref h, .int k])).length) Slot.unset).toArray = ls at hl ⊢
  have hl : lv_has ls 5 [(0, .ref h), (1, .int k)] := hl
  refine lv_iconst (v := (nI 0)) hx hb dX0_dropWeakEdges_0 (by decide) ?_
  refine lv_istore_n (lv' := [(2, .int (nI 0)), (0, .ref h), (1, .int k)]) hx hb dX0_dropWeakEdges_1 rfl hl (by decide) rfl (fun ls hl => ?_)
  refine lv_iconst (v := (nI 0)) hx hb dX0_dropWeakEdges_2 (by decide) ?_
  refine lv_istore_n (lv' := [(3, .int (nI 0)), (2, .int (nI 0)), (0, .ref h), (1, .int k)]) hx hb dX0_dropWeakEdges_3 rfl hl (by decide) rfl (fun ls hl => ?_)
  have K4 : ∀ (fu4 : Nat) (i : Nat) (d2 : Bool) (g3 : Nat → Int32) (H : Heap) (locs : List Loc) (ls : Array Slot), (i ≤ N) → (tJ f0 N k.toInt tr (fun a b => a < i ∧ a < b) g3 d2) → N - i < fu4 → va_P D vwCl (wB h a0 a1 a2 cy N ec cc f cs g3) H → va_S A s.heap H locs → lv_has ls 5 [(3, .int (nI i)), (2, .int (zb d2)), (0, .ref h), (1, .int k)] → W p l e (headSpec wsX0_dropWeakEdges ({ frames := 2, cells := 0, slots := 0, locals := 41 } : Room)).room s m ([.ref h, .int k] : List Value).toArray below meth c H locs 0 0 (MQ below (va_Qi (fun (r : Int32) (z9 : (Nat → Int32)) => ∃ d, r = zb d ∧ tJ f0 N (k).toInt tr (fun a b => a < N ∧ a < b) z9 d) (fun (z9 : (Nat → Int32)) t => va_P D vwCl (wB h a0 a1 a2 cy N ec cc f cs z9) t.heap) A) ([.ref h, .int k] : List Value).toArray s 0 0 A) (F0 m 4 ls []) := by
    intro fu4
    induction fu4 with
    | zero =>
      intro i d2 g3 H locs ls hi hJ hfu4
      exact absurd hfu4 (Nat.not_lt_zero _)
    | succ fu4 ih4 =>
      intro i d2 g3 H locs ls hi hJ hfu4 hP hS hl
      have hD : va_D A (wB h a0 a1 a2 cy N ec cc f cs g3) := zD hD rfl
      refine lv_iload_n hx hb dX0_dropWeakEdges_4 rfl (lv_at hl 0 rfl) ?_
      refine lv_aload_n hx hb dX0_dropWeakEdges_5 rfl (lv_at hl 2 rfl) ?_
      refine va_get (D := D) (ci := 0) (v := .int (nI N)) (C := RX0) (T := TX0) (N := 6) hx hb hts hin hown hK hP 0 rfl rfl 3 (by decide) hf19 (fun _ h9 => h9) rfl dX0_dropWeakEdges_6 ?_
      refine z_icmp_ge (tgt := 110) hx hb dX0_dropWeakEdges_9 (by decide) (by omega) (by omega) (fun h9 => ?_) (fun h9 => ?_)
      · refine lv_iload_n hx hb dX0_dropWeakEdges_110 rfl (lv_at hl 1 rfl) ?_
        exact W.zret (v := (zb d2)) (ty := .boolean) hx hb hr (zb_nar _) (fun t9 ht9 hW9 => ⟨⟨(zb d2), g3, rfl, ⟨d2, rfl, by rw [Nat.le_antisymm hi h9] at hJ; exact hJ⟩, by show va_P D vwCl (wB h a0 a1 a2 cy N ec cc f cs g3) t9.heap; rw [ht9]; exact hP⟩, hS.F ht9⟩) hS.2.2 dX0_dropWeakEdges_111
      · refine lv_iload_n hx hb dX0_dropWeakEdges_12 rfl (lv_at hl 0 rfl) ?_
        refine lv_iconst (v := (nI 1)) hx hb dX0_dropWeakEdges_13 (by decide) ?_
        refine z_iadd hx hb dX0_dropWeakEdges_14 ?_
        refine lv_istore (lv' := [(4, .int (nI (i + 1))), (3, .int (nI i)), (2, .int (zb d2)), (0, .ref h), (1, .int k)]) hx hb dX0_dropWeakEdges_15 hl (by decide) rfl (fun ls hl => ?_)
        have K17 : ∀ (fu17 : Nat) (j : Nat) (d3 : Bool) (g4 : Nat → Int32) (H : Heap) (locs : List Loc) (ls : Array Slot), (i + 1 ≤ j) → (j ≤ N) → (tJ f0 N k.toInt tr (fun a b => (a < i ∧ a < b) ∨ (a = i ∧ a < b ∧ b < j)) g4 d3) → N - j < fu17 → va_P D vwCl (wB h a0 a1 a2 cy N ec cc f cs g4) H → va_S A s.heap H locs → lv_has ls 5 [(4, .int (nI j)), (2, .int (zb d3)), (0, .ref h), (1, .int k), (3, .int (nI i))] → W p l e (headSpec wsX0_dropWeakEdges ({ frames := 2, cells := 0, slots := 0, locals := 41 } : Room)).room s m ([.ref h, .int k] : List Value).toArray below meth c H locs 0 0 (MQ below (va_Qi (fun (r : Int32) (z9 : (Nat → Int32)) => ∃ d, r = zb d ∧ tJ f0 N (k).toInt tr (fun a b => a < N ∧ a < b) z9 d) (fun (z9 : (Nat → Int32)) t => va_P D vwCl (wB h a0 a1 a2 cy N ec cc f cs z9) t.heap) A) ([.ref h, .int k] : List Value).toArray s 0 0 A) (F0 m 17 ls []) := by
          intro fu17
          induction fu17 with
          | zero =>
            intro j d3 g4 H locs ls hj hj2 hJ2 hfu17
            exact absurd hfu17 (Nat.not_lt_zero _)
          | succ fu17 ih17 =>
            intro j d3 g4 H locs ls hj hj2 hJ2 hfu17 hP hS hl
            have hD : va_D A (wB h a0 a1 a2 cy N ec cc f cs g4) := zD hD rfl
            refine lv_iload hx hb dX0_dropWeakEdges_17 (lv_at hl 0 rfl) ?_
            refine lv_aload_n hx hb dX0_dropWeakEdges_19 rfl (lv_at hl 2 rfl) ?_
            refine va_get (D := D) (ci := 0) (v := .int (nI N)) (C := RX0) (T := TX0) (N := 6) hx hb hts hin hown hK hP 0 rfl rfl 3 (by decide) hf19 (fun _ h9 => h9) rfl dX0_dropWeakEdges_20 ?_
            refine z_icmp_ge (tgt := 104) hx hb dX0_dropWeakEdges_23 (by decide) (by omega) (by omega) (fun h23 => ?_) (fun h23 => ?_)
            · refine lv_iinc (v := (nI (i + 1))) (lv' := [(3, .int (nI (i + 1))), (4, .int (nI j)), (2, .int (zb d3)), (0, .ref h), (1, .int k)]) hx hb dX0_dropWeakEdges_104 hl (k := 4) rfl (nI_1 _) (by decide) rfl (fun ls hl => ?_)
              refine lv_goto (tgt := 4) hx hb dX0_dropWeakEdges_107 (by decide) ?_
              exact ih4 (i + 1) d3 g4 _ _ _ (by omega) (tJ_V hJ2 (fun a b ha hb hab q => by omega) hg) (by omega) hP hS (lv_sub hl [0, 2, 3, 4] rfl)
            · refine lv_aload_n hx hb dX0_dropWeakEdges_26 rfl (lv_at hl 2 rfl) ?_
              refine va_get (D := D) (ci := 0) (v := .ref a2) (C := RX0) (T := TX0) (N := 6) hx hb hts hin hown hK hP 0 rfl rfl 2 (by decide) hf16 (fun _ h9 => h9) rfl dX0_dropWeakEdges_27 ?_
              refine lv_iload_n hx hb dX0_dropWeakEdges_30 rfl (lv_at hl 4 rfl) ?_
              refine z_iald hx hb hK hP 3 0 rfl rfl (by omega) (by decide) dX0_dropWeakEdges_31 ?_
              refine lv_iload hx hb dX0_dropWeakEdges_32 (lv_at hl 0 rfl) ?_
              refine zrS0 (As := [.int (g4 i), .int (nI j)]) (rest := []) ⟨hx, hb, hml, hown, hts⟩ (c_X0_contains l (g4 i) j (by omega)) (va_cwS 2 hts gX0_dropWeakEdges_X0_contains rfl rfl rfl (by decide +kernel) ⟨Nat.le_of_ble_eq_true rfl, Nat.le_of_ble_eq_true rfl⟩) rfl hl rfl (Nat.le_of_ble_eq_true rfl) dX0_dropWeakEdges_34 ⟨Nat.le_of_ble_eq_true rfl, Nat.le_of_ble_eq_true rfl⟩ hS (fun r34 H locs hw34 hk9 hS => ?_)
              obtain rfl : r34 = (zb (bt (g4 i) j)) := hw34
              have hP := zkeep hP hk9
              refine z_ifb_eq (tgt := 98) hx hb dX0_dropWeakEdges_37 (by decide) (fun h37 => ?_) (fun h37 => ?_)
              · refine lv_iinc (v := (nI (j + 1))) (lv' := [(4, .int (nI (j + 1))), (2, .int (zb d3)), (0, .ref h), (1, .int k), (3, .int (nI i))]) hx hb dX0_dropWeakEdges_98 hl (k := 0) rfl (nI_1 _) (by decide) rfl (fun ls hl => ?_)
                refine lv_goto (tgt := 17) hx hb dX0_dropWeakEdges_101 (by decide) ?_
                exact ih17 (j + 1) d3 g4 _ _ _ (by omega) (by omega) (tJ_V (tJ_skip hJ2 (by omega) h37) (fun a b ha hb hab q => by omega) hg) (by omega) hP hS (lv_sub hl [0, 1, 2, 3, 4] rfl)
              · refine lv_aload_n hx hb dX0_dropWeakEdges_40 rfl (lv_at hl 2 rfl) ?_
                refine va_get (D := D) (ci := 0) (v := .ref a2) (C := RX0) (T := TX0) (N := 6) hx hb hts hin hown hK hP 0 rfl rfl 2 (by decide) hf16 (fun _ h9 => h9) rfl dX0_dropWeakEdges_41 ?_
                refine lv_iload_n hx hb dX0_dropWeakEdges_44 rfl (lv_at hl 4 rfl) ?_
                refine z_iald hx hb hK hP 3 0 rfl rfl (by omega) (by decide) dX0_dropWeakEdges_45 ?_
                refine lv_aload_n hx hb dX0_dropWeakEdges_46 rfl (lv_at hl 2 rfl) ?_
                refine va_get (D := D) (ci := 0) (v := .ref a2) (C := RX0) (T := TX0) (N := 6) hx hb hts hin hown hK hP 0 rfl rfl 2 (by decide) hf16 (fun _ h9 => h9) rfl dX0_dropWeakEdges_47 ?_
                refine lv_iload hx hb dX0_dropWeakEdges_50 (lv_at hl 0 rfl) ?_
                refine z_iald hx hb hK hP 3 0 rfl rfl (by omega) (by decide) dX0_dropWeakEdges_52 ?_
                refine lv_iand hx hb dX0_dropWeakEdges_53 ?_
                refine zrS0 (As := [.int ((g4 i) &&& (g4 j))]) (rest := []) ⟨hx, hb, hml, hown, hts⟩ (c_X0_size l ((g4 i) &&& (g4 j))) (va_cwS 1 hts gX0_dropWeakEdges_X0_size rfl rfl rfl (by decide +kernel) ⟨Nat.le_of_ble_eq_true rfl, Nat.le_of_ble_eq_true rfl⟩) rfl hl rfl (Nat.le_of_ble_eq_true rfl) dX0_dropWeakEdges_54 ⟨Nat.le_of_ble_eq_true rfl, Nat.le_of_ble_eq_true rfl⟩ hS (fun r54 H locs hw54 hk9 hS => ?_)
                obtain rfl : r54 = (nI (zpop ((g4 i) &&& (g4 j)))) := hw54
                have hP := zkeep hP hk9
                refine lv_iload_n hx hb dX0_dropWeakEdges_57 rfl (lv_at hl 3 rfl) ?_
                refine lv_icmp_ge (tgt := 98) hx hb dX0_dropWeakEdges_58 (by decide) (fun h58 => ?_) (fun h58 => ?_)
                · refine lv_iinc (v := (nI (j + 1))) (lv' := [(4, .int (nI (j + 1))), (2, .int (zb d3)), (0, .ref h), (1, .int k), (3, .int (nI i))]) hx hb dX0_dropWeakEdges_98 hl (k := 0) rfl (nI_1 _) (by decide) rfl (fun ls hl => ?_)
                  refine lv_goto (tgt := 17) hx hb dX0_dropWeakEdges_101 (by decide) ?_
                  exact ih17 (j + 1) d3 g4 _ _ _ (by omega) (by omega) (tJ_V (tJ_stay hJ2 (by omega) (by omega) ((i_leN (pop_31 _)).mp h58)) (fun a b ha hb hab q => by omega) hg) (by omega) hP hS (lv_sub hl [0, 1, 2, 3, 4] rfl)
                · refine lv_aload_n hx hb dX0_dropWeakEdges_61 rfl (lv_at hl 2 rfl) ?_
                  refine va_get (D := D) (ci := 0) (v := .ref a2) (C := RX0) (T := TX0) (N := 6) hx hb hts hin hown hK hP 0 rfl rfl 2 (by decide) hf16 (fun _ h9 => h9) rfl dX0_dropWeakEdges_62 ?_
                  refine lv_iload_n hx hb dX0_dropWeakEdges_65 rfl (lv_at hl 4 rfl) ?_
                  refine lv_aload_n hx hb dX0_dropWeakEdges_66 rfl (lv_at hl 2 rfl) ?_
                  refine va_get (D := D) (ci := 0) (v := .ref a2) (C := RX0) (T := TX0) (N := 6) hx hb hts hin hown hK hP 0 rfl rfl 2 (by decide) hf16 (fun _ h9 => h9) rfl dX0_dropWeakEdges_67 ?_
                  refine lv_iload_n hx hb dX0_dropWeakEdges_70 rfl (lv_at hl 4 rfl) ?_
                  refine z_iald hx hb hK hP 3 0 rfl rfl (by omega) (by decide) dX0_dropWeakEdges_71 ?_
                  refine lv_iload hx hb dX0_dropWeakEdges_72 (lv_at hl 0 rfl) ?_
                  refine zrS0 (As := [.int (g4 i), .int (nI j)]) (rest := [.int (nI i), .ref a2]) ⟨hx, hb, hml, hown, hts⟩ (c_X0_without l (g4 i) j) (va_cwS 2 hts gX0_dropWeakEdges_X0_without rfl rfl rfl (by decide +kernel) ⟨Nat.le_of_ble_eq_true rfl, Nat.le_of_ble_eq_true rfl⟩) rfl hl rfl (Nat.le_of_ble_eq_true rfl) dX0_dropWeakEdges_74 ⟨Nat.le_of_ble_eq_true rfl, Nat.le_of_ble_eq_true rfl⟩ hS (fun r74 H locs hw74 hk9 hS => ?_)
                  obtain rfl : r74 = (zdl (g4 i) j) := hw74
                  have hP := zkeep hP hk9
                  refine z_iast hx hb hK hP hD hS 3 0 rfl rfl (by omega) (by decide) dX0_dropWeakEdges_77 (fun H locs hP hS => ?_)
                  have hP : va_P D vwCl (wB h a0 a1 a2 cy N ec cc f cs (upd g4 i (zdl (g4 i) j))) H := hP
                  have hD : va_D A (wB h a0 a1 a2 cy N ec cc f cs (upd g4 i (zdl (g4 i) j))) := zD hD rfl
                  refine lv_aload_n hx hb dX0_dropWeakEdges_78 rfl (lv_at hl 2 rfl) ?_
                  refine va_get (D := D) (ci := 0) (v := .ref a2) (C := RX0) (T := TX0) (N := 6) hx hb hts hin hown hK hP 0 rfl rfl 2 (by decide) hf16 (fun _ h9 => h9) rfl dX0_dropWeakEdges_79 ?_
                  refine lv_iload hx hb dX0_dropWeakEdges_82 (lv_at hl 0 rfl) ?_
                  refine lv_aload_n hx hb dX0_dropWeakEdges_84 rfl (lv_at hl 2 rfl) ?_
                  refine va_get (D := D) (ci := 0) (v := .ref a2) (C := RX0) (T := TX0) (N := 6) hx hb hts hin hown hK hP 0 rfl rfl 2 (by decide) hf16 (fun _ h9 => h9) rfl dX0_dropWeakEdges_85 ?_
                  refine lv_iload hx hb dX0_dropWeakEdges_88 (lv_at hl 0 rfl) ?_
                  refine z_iald hx hb hK hP 3 0 rfl rfl (by omega) (by decide) dX0_dropWeakEdges_90 ?_
                  refine lv_iload_n hx hb dX0_dropWeakEdges_91 rfl (lv_at hl 4 rfl) ?_
                  refine zrS0 (As := [.int ((upd g4 i (zdl (g4 i) j)) j), .int (nI i)]) (rest := [.int (nI j), .ref a2]) ⟨hx, hb, hml, hown, hts⟩ (c_X0_without l ((upd g4 i (zdl (g4 i) j)) j) i) (va_cwS 2 hts gX0_dropWeakEdges_X0_without rfl rfl rfl (by decide +kernel) ⟨Nat.le_of_ble_eq_true rfl, Nat.le_of_ble_eq_true rfl⟩) rfl hl rfl (Nat.le_of_ble_eq_true rfl) dX0_dropWeakEdges_92 ⟨Nat.le_of_ble_eq_true rfl, Nat.le_of_ble_eq_true rfl⟩ hS (fun r92 H locs hw92 hk9 hS => ?_)
                  obtain rfl : r92 = (zdl ((upd g4 i (zdl (g4 i) j)) j) i) := hw92
                  have hP := zkeep hP hk9
                  refine z_iast hx hb hK hP hD hS 3 0 rfl rfl (by omega) (by decide) dX0_dropWeakEdges_95 (fun H locs hP hS => ?_)
                  have hP : va_P D vwCl (wB h a0 a1 a2 cy N ec cc f cs (upd (upd g4 i (zdl (g4 i) j)) j (zdl ((upd g4 i (zdl (g4 i) j)) j) i))) H := hP
                  have hD : va_D A (wB h a0 a1 a2 cy N ec cc f cs (upd (upd g4 i (zdl (g4 i) j)) j (zdl ((upd g4 i (zdl (g4 i) j)) j) i))) := zD hD rfl
                  refine lv_iconst (v := (nI 1)) hx hb dX0_dropWeakEdges_96 (by decide) ?_
                  refine lv_istore_n (lv' := [(2, .int (nI 1)), (4, .int (nI j)), (0, .ref h), (1, .int k), (3, .int (nI i))]) hx hb dX0_dropWeakEdges_97 rfl hl (by decide) rfl (fun ls hl => ?_)
                  refine lv_iinc (v := (nI (j + 1))) (lv' := [(4, .int (nI (j + 1))), (2, .int (nI 1)), (0, .ref h), (1, .int k), (3, .int (nI i))]) hx hb dX0_dropWeakEdges_98 hl (k := 1) rfl (nI_1 _) (by decide) rfl (fun ls hl => ?_)
                  refine lv_goto (tgt := 17) hx hb dX0_dropWeakEdges_101 (by decide) ?_
                  exact ih17 (j + 1) true (upd (upd g4 i (zdl (g4 i) j)) j (zdl ((upd g4 i (zdl (g4 i) j)) j) i)) _ _ _ (by omega) (by omega) (tJ_drop hg hJ2 (by omega) h37 (fun q => h58 ((i_leN (pop_31 _)).mpr q))) (by omega) hP hS (lv_sub hl [0, 1, 2, 3, 4] rfl)
        exact K17 (N - (i + 1) + 1) (i + 1) d2 g3 _ _ _ (by omega) (by omega) (tJ_V hJ (fun a b ha hb hab q => by omega) hg) (Nat.lt_succ_self _) hP hS (lv_sub hl [0, 2, 3, 4, 1] rfl)
  exact K4 (N - 0 + 1) 0 false tr _ _ _ (by omega) (tJ_i hI (fun a b q => by omega)) (Nat.lt_succ_self _) hP hS (lv_sub hl [0, 1, 2, 3] rfl)
set_option maxHeartbeats 4000000 in
set_option maxRecDepth 100000 in
theorem c_X0_shrinkToTruss (l : Launch) (D : va_G) (cy : ClassId) (h a0 a1 a2 N : Nat) (ec cc : Int32) (f cs tr : Nat → Int32) (sz : Nat) (k : Int32) (f0 : Nat → Int32) (hg : gd f0 N) (he : ∀ w, w < N → tr w = f0 w) : Met l yX0_shrinkToTruss wsX0_shrinkToTruss ({ frames := 3, cells := 0, slots := 0, locals := 65 } : Room) (va_Pc [.ref h, .int k] (zWr D (wB h a0 a1 a2 cy N ec cc f cs tr) [(cy, .int)] sz)) (va_Qv (fun (z9 : (Nat → Int32)) => isTr f0 N (k - nI 2).toInt z9) (fun (z9 : (Nat → Int32)) t => va_P D vwCl (wB h a0 a1 a2 cy N ec cc f cs z9) t.heap) (va_A (wB h a0 a1 a2 cy N ec cc f cs tr) sz)) 0 0 (va_A (wB h a0 a1 a2 cy N ec cc f cs tr) sz) := by
  refine Met.ofW (cc := cX0_shrinkToTruss) (maxL := 4) (ret := none) (by decide) rfl ?_
  intro p e s m args below meth c s₁ B hml hv
  obtain ⟨rfl, hsz, hP, hK, hD0⟩ := hv
  have hx := B.exec
  have hb := B.bytes
  have hr := B.returns
  have hts := atoms_spec (ws := wsX0_shrinkToTruss) B.pre
  have hown : s.vm.findClass RX0 = some m.cls := findClass_of_methodNamed B.named
  have hlocks := B.notSynchronized
  subst hsz
  have hD := hD0.self (sz := s.heap.size)
  generalize hAe : va_A (wB h a0 a1 a2 cy N ec cc f cs tr) s.heap.size = A at hD ⊢
  have hA : ∀ q : Nat, s.heap.size ≤ q → A q := fun q h => by rw [← hAe]; exact Or.inr h
  have hS : va_S A s.heap s.heap [] := va_S.rf
  have hl := lv_entry ([.ref h, .int k]) (n := 4) (Nat.le_of_ble_eq_true rfl)
  rw [lg_entry_eq]
  generalize (lg_sl ([.ref h, .int k]) ++ List.replicate (4 - (lg_sl ([.ref h, .int k])).length) Slot.unset).toArray = ls at hl ⊢
  have hl : lv_has ls 4 [(0, .ref h), (1, .int k)] := hl
  refine lv_iconst (v := (nI 1)) hx hb dX0_shrinkToTruss_0 (by decide) ?_
  refine lv_istore_n (lv' := [(2, .int (nI 1)), (0, .ref h), (1, .int k)]) hx hb dX0_shrinkToTruss_1 rfl hl (by decide) rfl (fun ls hl => ?_)
  refine lv_iconst (v := (nI 0)) hx hb dX0_shrinkToTruss_2 (by decide) ?_
  refine lv_istore_n (lv' := [(3, .int (nI 0)), (2, .int (nI 1)), (0, .ref h), (1, .int k)]) hx hb dX0_shrinkToTruss_3 rfl hl (by decide) rfl (fun ls hl => ?_)
  have K4 : ∀ (fu4 : Nat) (d : Bool) (t0 : Nat) (g2 : Nat → Int32) (H : Heap) (locs : List Loc) (ls : Array Slot), (tO f0 N (k - nI 2).toInt g2 d t0) → (t0 ≤ 191) → 400 - t0 < fu4 → va_P D vwCl (wB h a0 a1 a2 cy N ec cc f cs g2) H → va_S A s.heap H locs → lv_has ls 4 [(2, .int (zb d)), (3, .int (nI t0)), (0, .ref h), (1, .int k)] → W p l e (headSpec wsX0_shrinkToTruss ({ frames := 3, cells := 0, slots := 0, locals := 65 } : Room)).room s m ([.ref h, .int k] : List Value).toArray below meth c H locs 0 0 (MQ below (va_Qv (fun (z9 : (Nat → Int32)) => isTr f0 N (k - nI 2).toInt z9) (fun (z9 : (Nat → Int32)) t => va_P D vwCl (wB h a0 a1 a2 cy N ec cc f cs z9) t.heap) A) ([.ref h, .int k] : List Value).toArray s 0 0 A) (F0 m 4 ls []) := by
    intro fu4
    induction fu4 with
    | zero =>
      intro d t0 g2 H locs ls hO ht0 hfu4
      exact absurd hfu4 (Nat.not_lt_zero _)
    | succ fu4 ih4 =>
      intro d t0 g2 H locs ls hO ht0 hfu4 hP hS hl
      have hD : va_D A (wB h a0 a1 a2 cy N ec cc f cs g2) := zD hD rfl
      refine lv_iload_n hx hb dX0_shrinkToTruss_4 rfl (lv_at hl 0 rfl) ?_
      refine z_ifb_eq (tgt := 29) hx hb dX0_shrinkToTruss_5 (by decide) (fun h5 => ?_) (fun h5 => ?_)
      · exact W.vret hx hb hr (fun t9 ht9 hW9 => ⟨⟨g2, rfl, (tO_end (by rw [h5] at hO; exact hO)), by show va_P D vwCl (wB h a0 a1 a2 cy N ec cc f cs g2) t9.heap; rw [ht9]; exact hP⟩, hS.F ht9⟩) hS.2.2 dX0_shrinkToTruss_29
      · refine lv_iload_n hx hb dX0_shrinkToTruss_8 rfl (lv_at hl 1 rfl) ?_
        refine lv_sipush (v := (nI 190)) hx hb dX0_shrinkToTruss_9 (by decide) ?_
        refine z_icmp_gt (tgt := 29) hx hb dX0_shrinkToTruss_12 (by decide) (by omega) (by omega) (fun h12 => ?_) (fun h12 => ?_)
        · exact absurd (tO_t hg (by rw [h5] at hO; exact hO)) (by omega)
        · refine lv_aload_n hx hb dX0_shrinkToTruss_15 rfl (lv_at hl 2 rfl) ?_
          refine lv_iload_n hx hb dX0_shrinkToTruss_16 rfl (lv_at hl 3 rfl) ?_
          refine lv_iconst (v := (nI 2)) hx hb dX0_shrinkToTruss_17 (by decide) ?_
          refine lv_isub hx hb dX0_shrinkToTruss_18 ?_
          refine zwVi (As := [.int (k - (nI 2))]) (rest := []) 0 [0, 1, 2, 3] rfl ⟨hx, hb, hml, hown, hts⟩ (c_X0_dropWeakEdges l D cy h a0 a1 a2 N ec cc f cs g2 _ (k - (nI 2)) f0 hg hO.1) (cwV 1 hts gX0_shrinkToTruss_X0_dropWeakEdges rfl rfl rfl (by decide +kernel) ⟨Nat.le_of_ble_eq_true rfl, Nat.le_of_ble_eq_true rfl⟩) hK hP hD hA rfl rfl rfl hl rfl (Nat.le_of_ble_eq_true rfl) dX0_shrinkToTruss_19 ⟨Nat.le_of_ble_eq_true rfl, Nat.le_of_ble_eq_true rfl⟩ hS (fun r19 u19 H locs hw19 hP hS => ?_)
          obtain ⟨tr_19, rfl⟩ : ∃ z, z = u19 := ⟨_, rfl⟩
          have hP : va_P D vwCl (wB h a0 a1 a2 cy N ec cc f cs tr_19) H := hP
          have hD : va_D A (wB h a0 a1 a2 cy N ec cc f cs tr_19) := zD hD rfl
          have hw19 : ∃ d, r19 = zb d ∧ tJ f0 N ((k - (nI 2))).toInt g2 (fun a b => a < N ∧ a < b) tr_19 d := hw19
          obtain ⟨d2, rfl, hJ⟩ := hw19
          refine lv_istore_n (lv' := [(2, .int (zb d2)), (3, .int (nI t0)), (0, .ref h), (1, .int k)]) hx hb dX0_shrinkToTruss_22 rfl hl (by decide) rfl (fun ls hl => ?_)
          refine lv_iinc (v := (nI (t0 + 1))) (lv' := [(3, .int (nI (t0 + 1))), (2, .int (zb d2)), (0, .ref h), (1, .int k)]) hx hb dX0_shrinkToTruss_23 hl (k := 1) rfl (nI_1 _) (by decide) rfl (fun ls hl => ?_)
          refine lv_goto (tgt := 4) hx hb dX0_shrinkToTruss_26 (by decide) ?_
          exact ih4 d2 (t0 + 1) tr_19 _ _ _ (tO_step hg (by rw [h5] at hO; exact hO) hJ (fun a b ha hb hab => by omega)) (by omega) (by omega) hP hS (lv_sub hl [1, 0, 2, 3] rfl)
  exact K4 (400 - 0 + 1) true 0 tr _ _ _ (tO_0 _ hg he) (by omega) (Nat.lt_succ_self _) hP hS (lv_sub hl [1, 0, 2, 3] rfl)
end
section
theorem tgi_m (m : Nat) : nI m + Int32.ofInt (-1) = tgi m := by
  unfold tgi
  by_cases h : m = 0
  · rw [if_pos h, h]; rfl
  · rw [if_neg h]
    obtain ⟨k, rfl⟩ : ∃ k, m = k + 1 := ⟨m - 1, by omega⟩
    rw [Nat.add_sub_cancel]
    exact pk_m1 k
theorem tgi_ge {t : Nat} {x : Int32} (ht : t ≤ 40) (hx : x = tgi t) (h : ¬ x < 0) : ∃ m, x = nI m ∧ t = m + 1 := by
  unfold tgi at hx
  by_cases e : t = 0
  · rw [if_pos e] at hx; rw [hx] at h; exact absurd (by decide) h
  · rw [if_neg e] at hx; exact ⟨t - 1, hx, by omega⟩
theorem tgi_lt {t : Nat} {x : Int32} (ht : t ≤ 40) (hx : x = tgi t) (h : x < 0) : t = 0 := by
  unfold tgi at hx
  by_cases e : t = 0
  · exact e
  · rw [if_neg e] at hx; rw [hx] at h; exact absurd h (nI_pos (by omega))
theorem tgk_top {f : Nat → Int32} {c : Nat → Nat} {N u v m : Nat} (hb : bt (cmp f (cst c N m) u) v = true) : ∀ K : Nat, m < K → (∀ j : Nat, m < j → j < K → bt (cmp f (cst c N j) u) v = false) → tgk f c N u v K = m + 1
  | 0, h, _ => absurd h (Nat.not_lt_zero m)
  | K + 1, h, hj => by
    rcases Nat.lt_or_ge m K with q | q
    · rw [tgk_no (hj K q (Nat.lt_succ_self K))]
      exact tgk_top hb K q fun j h1 h2 => hj j h1 (by omega)
    · have e : K = m := by omega
      subst e
      rw [tgk_yes hb]
theorem tgk_zero {f : Nat → Int32} {c : Nat → Nat} {N u v : Nat} : ∀ K : Nat, (∀ j : Nat, j < K → bt (cmp f (cst c N j) u) v = false) → tgk f c N u v K = 0
  | 0, _ => rfl
  | K + 1, hj => by
    rw [tgk_no (hj K (Nat.lt_succ_self K))]
    exact tgk_zero K fun j h => hj j (by omega)
theorem cmp_hi {f : Nat → Int32} {c : Nat → Nat} {N u v j : Nat} (hN : N ≤ 20) (hu : u < N) (h : min (c u) (c v) < j) : bt (cmp f (cst c N j) u) v = false := by
  cases q : bt (cmp f (cst c N j) u) v
  · rfl
  · exfalso
    have h1 := ((b_cst hN).mp (cmp_le f _ u v q)).2
    have h2 : bt (cst c N j) u = true := by
      cases q2 : bt (cst c N j) u
      · rw [cmp_0 (by omega) q2, b_0] at q; cases q
      · rfl
    have h3 := ((b_cst hN).mp h2).2
    omega
theorem ewn_190 {f : Nat → Int32} {N : Nat} (hg : gd f N) (x : Int32) : ewn f N x ≤ 190 := by
  have h1 : fb_sm (ews f x) N ≤ tE f N := fb_sm_le fun k _ => by
    unfold ews
    split
    · exact pop_le (le_andl _ _)
    · exact Nat.zero_le _
  have h2 := tE_b hg
  unfold ewn
  omega
theorem dsk_pos {f : Nat → Int32} {N : Nat} (hg : gd f N) : ∀ t, t < N → 1 ≤ zpop (dsk f N t).2.1
  | 0, h => by show 1 ≤ zpop (zal N); rw [pop_al hg.1]; omega
  | t + 1, h => by
    have ih := dsk_pos hg t (by omega)
    have hp := dsk_pop hg (t + 1) (by omega)
    by_cases q : (dsk f N t).2.2 * zpop (dsk f N (t + 1)).1 < ewn f N (dsk f N (t + 1)).1 * zpop (dsk f N t).2.1
    · rw [dsk_yes (dsk_1 f N t) q]
      show 1 ≤ zpop (dsk f N (t + 1)).1
      omega
    · rw [dsk_no (dsk_1 f N t) (Nat.le_of_not_lt q)]
      exact ih
/-- the density -/
def dnv (f : Nat → Int32) (N : Nat) : UInt64 := if N = 0 then FP.dconst0 else ddq (dsk f N (N - 1)).2.2 (zpop (dsk f N (N - 1)).2.1)
theorem dn_b {f : Nat → Int32} {N : Nat} (hg : gd f N) (h : N ≠ 0) : ddc (dsk f N (N - 1)).2.2 (zpop (dsk f N (N - 1)).2.1) = true := by
  have hN := hg.1
  have h1 := dsk_sub hN (N - 1) (f := f)
  refine ddc_ok (by rw [h1.2.2]; exact ewn_190 hg _) (dsk_pos hg _ (by omega)) ?_
  have := pop_N hN (sub_le h1.2.1 (sub_al hN))
  omega
theorem ddc_n {e s : Nat} (h : ddc e s = true) : vf_n64 (FP.ddiv (FP.i2d (nI e)) (FP.i2d (nI s))) := by
  unfold ddc at h
  rw [Bool.and_eq_true, decide_eq_true_iff] at h
  exact h.1
set_option maxHeartbeats 4000000 in
set_option maxRecDepth 100000 in
theorem c_X0_checkNode_ok (l : Launch) (D : va_G) (cy : ClassId) (h a0 a1 a2 N : Nat) (ec cc : Int32) (f cs tr : Nat → Int32) (u : Nat) (hN : N ≤ 20) (hu : u < N) : Met l yX0_checkNode wsX0_checkNode ({ frames := 6, cells := 0, slots := 0, locals := 82 } : Room) (va_Pc [.ref h, .int (nI u)] (zRd D (wB h a0 a1 a2 cy N ec cc f cs tr) [(cy, .int)])) (va_Qv (fun (_ : Unit) => True) (fun _ _ => True) (fun _ => False)) 0 0 zNo := by
  refine Met.ofW (cc := cX0_checkNode) (maxL := 2) (ret := none) (by decide) rfl ?_
  intro p e s m args below meth c s₁ B hml hv
  obtain ⟨rfl, hP, hK⟩ := hv
  have hx := B.exec
  have hb := B.bytes
  have hr := B.returns
  have hts := atoms_spec (ws := wsX0_checkNode) B.pre
  have hown : s.vm.findClass RX0 = some m.cls := findClass_of_methodNamed B.named
  have hlocks := B.notSynchronized
  have hS : va_S (fun _ => False) s.heap s.heap [] := va_S.rf
  have hin : ∀ w ∈ wsX00, w ∈ wsX0_checkNode := by decide +kernel
  have hf19 := hts (.fieldLink RX0 19 "Corebarn" "nodeCount" "I") (by decide +kernel)
  have hl := lv_entry ([.ref h, .int (nI u)]) (n := 2) (Nat.le_of_ble_eq_true rfl)
  rw [lg_entry_eq]
  generalize (lg_sl ([.ref h, .int (nI u)]) ++ List.replicate (2 - (lg_sl ([.ref h, .int (nI u)])).length) Slot.unset).toArray = ls at hl ⊢
  have hl : lv_has ls 2 [(0, .ref h), (1, .int (nI u))] := hl
  refine lv_iload_n hx hb dX0_checkNode_0 rfl (lv_at hl 1 rfl) ?_
  refine z_ifn_lt (tgt := 12) hx hb dX0_checkNode_1 (by decide) (by omega) ?_
  refine lv_iload_n hx hb dX0_checkNode_4 rfl (lv_at hl 1 rfl) ?_
  refine lv_aload_n hx hb dX0_checkNode_5 rfl (lv_at hl 0 rfl) ?_
  refine va_get (D := D) (ci := 0) (v := .int (nI N)) (C := RX0) (T := TX0) (N := 6) hx hb hts hin hown hK hP 0 rfl rfl 3 (by decide) hf19 (fun _ h9 => h9) rfl dX0_checkNode_6 ?_
  refine z_icmp_lt (tgt := 22) hx hb dX0_checkNode_9 (by decide) (by omega) (by omega) (fun h9 => ?_) (fun h9 => ?_)
  · exact W.vret hx hb hr (fun t9 ht9 hW9 => ⟨⟨(), rfl, trivial, trivial⟩, hS.F ht9⟩) hS.2.2 dX0_checkNode_22
  · exact absurd hu (Nat.not_lt.mpr h9)
set_option maxHeartbeats 4000000 in
set_option maxRecDepth 100000 in
theorem c_X0_checkLevel_ok (l : Launch) (k : Int32) (hk : ¬ k < 0) : Met l yX0_checkLevel wsX0_checkLevel ({ frames := 6, cells := 0, slots := 0, locals := 82 } : Room) (va_Pc [.int k] (fun _ => True)) (va_Qv (fun (_ : Unit) => True) (fun _ _ => True) (fun _ => False)) 0 0 zNo := by
  refine Met.ofW (cc := cX0_checkLevel) (maxL := 1) (ret := none) (by decide) rfl ?_
  intro p e s m args below meth c s₁ B hml hv
  obtain ⟨rfl, -⟩ := hv
  have hx := B.exec
  have hb := B.bytes
  have hr := B.returns
  have hts := atoms_spec (ws := wsX0_checkLevel) B.pre
  have hown : s.vm.findClass RX0 = some m.cls := findClass_of_methodNamed B.named
  have hlocks := B.notSynchronized
  have hS : va_S (fun _ => False) s.heap s.heap [] := va_S.rf
  have hl := lv_entry ([.int k]) (n := 1) (Nat.le_of_ble_eq_true rfl)
  rw [lg_entry_eq]
  generalize (lg_sl ([.int k]) ++ List.replicate (1 - (lg_sl ([.int k])).length) Slot.unset).toArray = ls at hl ⊢
  have hl : lv_has ls 1 [(0, .int k)] := hl
  refine lv_iload_n hx hb dX0_checkLevel_0 rfl (lv_at hl 0 rfl) ?_
  refine lv_if_ge (tgt := 14) hx hb dX0_checkLevel_1 (by decide) (fun h1 => ?_) (fun h1 => ?_)
  · exact W.vret hx hb hr (fun t9 ht9 hW9 => ⟨⟨(), rfl, trivial, trivial⟩, hS.F ht9⟩) hS.2.2 dX0_checkLevel_14
  · exact absurd (Int32.not_le.mp h1) hk
set_option maxHeartbeats 4000000 in
set_option maxRecDepth 100000 in
theorem c_X0_addNode_ok (l : Launch) (D : va_G) (cy : ClassId) (h a0 a1 a2 N : Nat) (ec cc : Int32) (f cs tr : Nat → Int32) (sz : Nat) (hN : N < 20) : Met l yX0_addNode wsX0_addNode ({ frames := 0, cells := 0, slots := 0, locals := 0 } : Room) (va_Pc [.ref h] (zWr D (wB h a0 a1 a2 cy N ec cc f cs tr) [(cy, .int)] sz)) (va_Qi (fun (r : Int32) (z9 : Unit) => r = nI N) (fun (z9 : Unit) t => va_P D vwCl (wB h a0 a1 a2 cy (N + 1) ec cc f cs tr) t.heap) (va_A (wB h a0 a1 a2 cy N ec cc f cs tr) sz)) 0 0 (va_A (wB h a0 a1 a2 cy N ec cc f cs tr) sz) := by
  refine Met.ofW (cc := cX0_addNode) (maxL := 2) (ret := (some .int)) (by decide) rfl ?_
  intro p e s m args below meth c s₁ B hml hv
  obtain ⟨rfl, hsz, hP, hK, hD0⟩ := hv
  have hx := B.exec
  have hb := B.bytes
  have hr := B.returns
  have hts := atoms_spec (ws := wsX0_addNode) B.pre
  have hown : s.vm.findClass RX0 = some m.cls := findClass_of_methodNamed B.named
  have hlocks := B.notSynchronized
  subst hsz
  have hD := hD0.self (sz := s.heap.size)
  generalize hAe : va_A (wB h a0 a1 a2 cy N ec cc f cs tr) s.heap.size = A at hD ⊢
  have hA : ∀ q : Nat, s.heap.size ≤ q → A q := fun q h => by rw [← hAe]; exact Or.inr h
  have hS : va_S A s.heap s.heap [] := va_S.rf
  have hin : ∀ w ∈ wsX00, w ∈ wsX0_addNode := by decide +kernel
  have hf19 := hts (.fieldLink RX0 19 "Corebarn" "nodeCount" "I") (by decide +kernel)
  have hl := lv_entry ([.ref h]) (n := 2) (Nat.le_of_ble_eq_true rfl)
  rw [lg_entry_eq]
  generalize (lg_sl ([.ref h]) ++ List.replicate (2 - (lg_sl ([.ref h])).length) Slot.unset).toArray = ls at hl ⊢
  have hl : lv_has ls 2 [(0, .ref h)] := hl
  refine lv_aload_n hx hb dX0_addNode_0 rfl (lv_at hl 0 rfl) ?_
  refine va_get (D := D) (ci := 0) (v := .int (nI N)) (C := RX0) (T := TX0) (N := 6) hx hb hts hin hown hK hP 0 rfl rfl 3 (by decide) hf19 (fun _ h9 => h9) rfl dX0_addNode_1 ?_
  refine lv_bipush (v := (nI 20)) hx hb dX0_addNode_4 (by decide) ?_
  refine z_icmp_lt (tgt := 19) hx hb dX0_addNode_6 (by decide) (by omega) (by omega) (fun h6 => ?_) (fun h6 => ?_)
  · refine lv_aload_n hx hb dX0_addNode_19 rfl (lv_at hl 0 rfl) ?_
    refine va_get (D := D) (ci := 0) (v := .int (nI N)) (C := RX0) (T := TX0) (N := 6) hx hb hts hin hown hK hP 0 rfl rfl 3 (by decide) hf19 (fun _ h9 => h9) rfl dX0_addNode_20 ?_
    refine lv_istore_n (lv' := [(1, .int (nI N)), (0, .ref h)]) hx hb dX0_addNode_23 rfl hl (by decide) rfl (fun ls hl => ?_)
    refine lv_aload_n hx hb dX0_addNode_24 rfl (lv_at hl 1 rfl) ?_
    refine lv_dup hx hb dX0_addNode_25 rfl ?_
    refine va_get (D := D) (ci := 0) (v := .int (nI N)) (C := RX0) (T := TX0) (N := 6) hx hb hts hin hown hK hP 0 rfl rfl 3 (by decide) hf19 (fun _ h9 => h9) rfl dX0_addNode_26 ?_
    refine lv_iconst (v := (nI 1)) hx hb dX0_addNode_29 (by decide) ?_
    refine z_iadd hx hb dX0_addNode_30 ?_
    refine va_put (D := D) (ci := 0) (v := .int (nI (N + 1))) (ty := .int) (C := RX0) (T := TX0) (N := 6) hx hb hts hin tyX0 tyX0_ok nmX0 hown hK hP hD hS 0 rfl rfl 3 (by decide) hf19 (fun _ h9 => h9) rfl (by decide +kernel) rfl rfl (Nat.le_of_ble_eq_true rfl) dX0_addNode_31 (fun H locs hP hD hS => ?_)
    have hP : va_P D vwCl (wB h a0 a1 a2 cy (N + 1) ec cc f cs tr) H := hP
    have hD : va_D A (wB h a0 a1 a2 cy (N + 1) ec cc f cs tr) := hD
    refine lv_iload_n hx hb dX0_addNode_34 rfl (lv_at hl 0 rfl) ?_
    exact W.iret (v := (nI N)) hx hb hr (fun t9 ht9 hW9 => ⟨⟨(nI N), (), rfl, rfl, by show va_P D vwCl (wB h a0 a1 a2 cy (N + 1) ec cc f cs tr) t9.heap; rw [ht9]; exact hP⟩, hS.F ht9⟩) hS.2.2 dX0_addNode_35
  · exact absurd hN (Nat.not_lt.mpr h6)
set_option maxHeartbeats 4000000 in
set_option maxRecDepth 100000 in
theorem c_X0_degree_ok (l : Launch) (D : va_G) (cy : ClassId) (h a0 a1 a2 N : Nat) (ec cc : Int32) (f cs tr : Nat → Int32) (u : Nat) (hN : N ≤ 20) (hu : u < N) : Met l yX0_degree wsX0_degree ({ frames := 7, cells := 0, slots := 0, locals := 103 } : Room) (va_Pc [.ref h, .int (nI u)] (zRd D (wB h a0 a1 a2 cy N ec cc f cs tr) [(cy, .int)])) (zPo (fun r => r = nI (zpop (f u)))) 0 0 zNo := by
  refine Met.ofW (cc := cX0_degree) (maxL := 2) (ret := (some .int)) (by decide) rfl ?_
  intro p e s m args below meth c s₁ B hml hv
  obtain ⟨rfl, hP, hK⟩ := hv
  have hx := B.exec
  have hb := B.bytes
  have hr := B.returns
  have hts := atoms_spec (ws := wsX0_degree) B.pre
  have hown : s.vm.findClass RX0 = some m.cls := findClass_of_methodNamed B.named
  have hlocks := B.notSynchronized
  have hS : va_S (fun _ => False) s.heap s.heap [] := va_S.rf
  have hin : ∀ w ∈ wsX00, w ∈ wsX0_degree := by decide +kernel
  have hf9 := hts (.fieldLink RX0 9 "Corebarn" "neighbours" "[I") (by decide +kernel)
  have hl := lv_entry ([.ref h, .int (nI u)]) (n := 2) (Nat.le_of_ble_eq_true rfl)
  rw [lg_entry_eq]
  generalize (lg_sl ([.ref h, .int (nI u)]) ++ List.replicate (2 - (lg_sl ([.ref h, .int (nI u)])).length) Slot.unset).toArray = ls at hl ⊢
  have hl : lv_has ls 2 [(0, .ref h), (1, .int (nI u))] := hl
  refine lv_aload_n hx hb dX0_degree_0 rfl (lv_at hl 0 rfl) ?_
  refine lv_iload_n hx hb dX0_degree_1 rfl (lv_at hl 1 rfl) ?_
  refine zrVv (As := [.int (nI u)]) (rest := []) 0 ⟨hx, hb, hml, hown, hts⟩ (c_X0_checkNode_ok l D cy h a0 a1 a2 N ec cc f cs tr u hN hu) (cwV 1 hts gX0_degree_X0_checkNode rfl rfl rfl (by decide +kernel) ⟨Nat.le_of_ble_eq_true rfl, Nat.le_of_ble_eq_true rfl⟩) hK hP rfl rfl rfl hl rfl (Nat.le_of_ble_eq_true rfl) dX0_degree_2 ⟨Nat.le_of_ble_eq_true rfl, Nat.le_of_ble_eq_true rfl⟩ hS (fun H locs hw2 hk9 hS => ?_)
  have hP := zkeep hP hk9
  refine lv_aload_n hx hb dX0_degree_5 rfl (lv_at hl 0 rfl) ?_
  refine va_get (D := D) (ci := 0) (v := .ref a0) (C := RX0) (T := TX0) (N := 6) hx hb hts hin hown hK hP 0 rfl rfl 0 (by decide) hf9 (fun _ h9 => h9) rfl dX0_degree_6 ?_
  refine lv_iload_n hx hb dX0_degree_9 rfl (lv_at hl 1 rfl) ?_
  refine z_iald hx hb hK hP 1 0 rfl rfl (by omega) (by decide) dX0_degree_10 ?_
  refine zrS0 (As := [.int (f u)]) (rest := []) ⟨hx, hb, hml, hown, hts⟩ (c_X0_size l (f u)) (va_cwS 1 hts gX0_degree_X0_size rfl rfl rfl (by decide +kernel) ⟨Nat.le_of_ble_eq_true rfl, Nat.le_of_ble_eq_true rfl⟩) rfl hl rfl (Nat.le_of_ble_eq_true rfl) dX0_degree_11 ⟨Nat.le_of_ble_eq_true rfl, Nat.le_of_ble_eq_true rfl⟩ hS (fun r11 H locs hw11 hk9 hS => ?_)
  obtain rfl : r11 = (nI (zpop (f u))) := hw11
  have hP := zkeep hP hk9
  exact W.iret (v := (nI (zpop (f u)))) hx hb hr (fun t9 ht9 hW9 => ⟨⟨(nI (zpop (f u))), (), rfl, rfl, trivial⟩, hS.F ht9⟩) hS.2.2 dX0_degree_14
set_option maxHeartbeats 4000000 in
set_option maxRecDepth 100000 in
theorem c_X0_areJoined_ok (l : Launch) (D : va_G) (cy : ClassId) (h a0 a1 a2 N : Nat) (ec cc : Int32) (f cs tr : Nat → Int32) (u v : Nat) (hN : N ≤ 20) (hu : u < N) (hv : v < N) : Met l yX0_areJoined wsX0_areJoined ({ frames := 7, cells := 0, slots := 0, locals := 103 } : Room) (va_Pc [.ref h, .int (nI u), .int (nI v)] (zRd D (wB h a0 a1 a2 cy N ec cc f cs tr) [(cy, .int)])) (zPo (fun r => r = zb (bt (f u) v))) 0 0 zNo := by
  refine Met.ofW (cc := cX0_areJoined) (maxL := 3) (ret := (some .boolean)) (by decide) rfl ?_
  intro p e s m args below meth c s₁ B hml hv
  obtain ⟨rfl, hP, hK⟩ := hv
  have hx := B.exec
  have hb := B.bytes
  have hr := B.returns
  have hts := atoms_spec (ws := wsX0_areJoined) B.pre
  have hown : s.vm.findClass RX0 = some m.cls := findClass_of_methodNamed B.named
  have hlocks := B.notSynchronized
  have hS : va_S (fun _ => False) s.heap s.heap [] := va_S.rf
  have hin : ∀ w ∈ wsX00, w ∈ wsX0_areJoined := by decide +kernel
  have hf9 := hts (.fieldLink RX0 9 "Corebarn" "neighbours" "[I") (by decide +kernel)
  have hl := lv_entry ([.ref h, .int (nI u), .int (nI v)]) (n := 3) (Nat.le_of_ble_eq_true rfl)
  rw [lg_entry_eq]
  generalize (lg_sl ([.ref h, .int (nI u), .int (nI v)]) ++ List.replicate (3 - (lg_sl ([.ref h, .int (nI u), .int (nI v)])).length) Slot.unset).toArray = ls at hl ⊢
  have hl : lv_has ls 3 [(0, .ref h), (1, .int (nI u)), (2, .int (nI v))] := hl
  refine lv_aload_n hx hb dX0_areJoined_0 rfl (lv_at hl 0 rfl) ?_
  refine lv_iload_n hx hb dX0_areJoined_1 rfl (lv_at hl 1 rfl) ?_
  refine zrVv (As := [.int (nI u)]) (rest := []) 0 ⟨hx, hb, hml, hown, hts⟩ (c_X0_checkNode_ok l D cy h a0 a1 a2 N ec cc f cs tr u hN hu) (cwV 1 hts gX0_areJoined_X0_checkNode rfl rfl rfl (by decide +kernel) ⟨Nat.le_of_ble_eq_true rfl, Nat.le_of_ble_eq_true rfl⟩) hK hP rfl rfl rfl hl rfl (Nat.le_of_ble_eq_true rfl) dX0_areJoined_2 ⟨Nat.le_of_ble_eq_true rfl, Nat.le_of_ble_eq_true rfl⟩ hS (fun H locs hw2 hk9 hS => ?_)
  have hP := zkeep hP hk9
  refine lv_aload_n hx hb dX0_areJoined_5 rfl (lv_at hl 0 rfl) ?_
  refine lv_iload_n hx hb dX0_areJoined_6 rfl (lv_at hl 2 rfl) ?_
  refine zrVv (As := [.int (nI v)]) (rest := []) 0 ⟨hx, hb, hml, hown, hts⟩ (c_X0_checkNode_ok l D cy h a0 a1 a2 N ec cc f cs tr v hN hv) (cwV 1 hts gX0_areJoined_X0_checkNode rfl rfl rfl (by decide +kernel) ⟨Nat.le_of_ble_eq_true rfl, Nat.le_of_ble_eq_true rfl⟩) hK hP rfl rfl rfl hl rfl (Nat.le_of_ble_eq_true rfl) dX0_areJoined_7 ⟨Nat.le_of_ble_eq_true rfl, Nat.le_of_ble_eq_true rfl⟩ hS (fun H locs hw7 hk9 hS => ?_)
  have hP := zkeep hP hk9
  refine lv_aload_n hx hb dX0_areJoined_10 rfl (lv_at hl 0 rfl) ?_
  refine va_get (D := D) (ci := 0) (v := .ref a0) (C := RX0) (T := TX0) (N := 6) hx hb hts hin hown hK hP 0 rfl rfl 0 (by decide) hf9 (fun _ h9 => h9) rfl dX0_areJoined_11 ?_
  refine lv_iload_n hx hb dX0_areJoined_14 rfl (lv_at hl 1 rfl) ?_
  refine z_iald hx hb hK hP 1 0 rfl rfl (by omega) (by decide) dX0_areJoined_15 ?_
  refine lv_iload_n hx hb dX0_areJoined_16 rfl (lv_at hl 2 rfl) ?_
  refine zrS0 (As := [.int (f u), .int (nI v)]) (rest := []) ⟨hx, hb, hml, hown, hts⟩ (c_X0_contains l (f u) v (by omega)) (va_cwS 2 hts gX0_areJoined_X0_contains rfl rfl rfl (by decide +kernel) ⟨Nat.le_of_ble_eq_true rfl, Nat.le_of_ble_eq_true rfl⟩) rfl hl rfl (Nat.le_of_ble_eq_true rfl) dX0_areJoined_17 ⟨Nat.le_of_ble_eq_true rfl, Nat.le_of_ble_eq_true rfl⟩ hS (fun r17 H locs hw17 hk9 hS => ?_)
  obtain rfl : r17 = (zb (bt (f u) v)) := hw17
  have hP := zkeep hP hk9
  exact W.zret (v := (zb (bt (f u) v))) (ty := .boolean) hx hb hr (zb_nar _) (fun t9 ht9 hW9 => ⟨⟨(zb (bt (f u) v)), (), rfl, rfl, trivial⟩, hS.F ht9⟩) hS.2.2 dX0_areJoined_20
set_option maxHeartbeats 4000000 in
set_option maxRecDepth 100000 in
theorem c_X0_core_ok (l : Launch) (D : va_G) (cy : ClassId) (h a0 a1 a2 N : Nat) (ec cc : Int32) (f cs tr : Nat → Int32) (u : Nat) (c0 : Nat → Nat) (hN : N ≤ 20) (hu : u < N) (hcs : csI cs c0 N) : Met l yX0_core wsX0_core ({ frames := 7, cells := 0, slots := 0, locals := 103 } : Room) (va_Pc [.ref h, .int (nI u)] (zRd D (wB h a0 a1 a2 cy N ec cc f cs tr) [(cy, .int)])) (zPo (fun r => r = nI (c0 u))) 0 0 zNo := by
  refine Met.ofW (cc := cX0_core) (maxL := 2) (ret := (some .int)) (by decide) rfl ?_
  intro p e s m args below meth c s₁ B hml hv
  obtain ⟨rfl, hP, hK⟩ := hv
  have hx := B.exec
  have hb := B.bytes
  have hr := B.returns
  have hts := atoms_spec (ws := wsX0_core) B.pre
  have hown : s.vm.findClass RX0 = some m.cls := findClass_of_methodNamed B.named
  have hlocks := B.notSynchronized
  have hS : va_S (fun _ => False) s.heap s.heap [] := va_S.rf
  have hin : ∀ w ∈ wsX00, w ∈ wsX0_core := by decide +kernel
  have hf13 := hts (.fieldLink RX0 13 "Corebarn" "cores" "[I") (by decide +kernel)
  have hl := lv_entry ([.ref h, .int (nI u)]) (n := 2) (Nat.le_of_ble_eq_true rfl)
  rw [lg_entry_eq]
  generalize (lg_sl ([.ref h, .int (nI u)]) ++ List.replicate (2 - (lg_sl ([.ref h, .int (nI u)])).length) Slot.unset).toArray = ls at hl ⊢
  have hl : lv_has ls 2 [(0, .ref h), (1, .int (nI u))] := hl
  refine lv_aload_n hx hb dX0_core_0 rfl (lv_at hl 0 rfl) ?_
  refine lv_iload_n hx hb dX0_core_1 rfl (lv_at hl 1 rfl) ?_
  refine zrVv (As := [.int (nI u)]) (rest := []) 0 ⟨hx, hb, hml, hown, hts⟩ (c_X0_checkNode_ok l D cy h a0 a1 a2 N ec cc f cs tr u hN hu) (cwV 1 hts gX0_core_X0_checkNode rfl rfl rfl (by decide +kernel) ⟨Nat.le_of_ble_eq_true rfl, Nat.le_of_ble_eq_true rfl⟩) hK hP rfl rfl rfl hl rfl (Nat.le_of_ble_eq_true rfl) dX0_core_2 ⟨Nat.le_of_ble_eq_true rfl, Nat.le_of_ble_eq_true rfl⟩ hS (fun H locs hw2 hk9 hS => ?_)
  have hP := zkeep hP hk9
  refine lv_aload_n hx hb dX0_core_5 rfl (lv_at hl 0 rfl) ?_
  refine va_get (D := D) (ci := 0) (v := .ref a1) (C := RX0) (T := TX0) (N := 6) hx hb hts hin hown hK hP 0 rfl rfl 1 (by decide) hf13 (fun _ h9 => h9) rfl dX0_core_6 ?_
  refine lv_iload_n hx hb dX0_core_9 rfl (lv_at hl 1 rfl) ?_
  refine z_iald hx hb hK hP 2 0 rfl rfl (by omega) (by decide) dX0_core_10 ?_
  rw [(hcs u hu).1]
  exact W.iret (v := (nI (c0 u))) hx hb hr (fun t9 ht9 hW9 => ⟨⟨(nI (c0 u)), (), rfl, rfl, trivial⟩, hS.F ht9⟩) hS.2.2 dX0_core_11
set_option maxHeartbeats 4000000 in
set_option maxRecDepth 100000 in
theorem c_X0_coreSize_ok (l : Launch) (D : va_G) (cy : ClassId) (h a0 a1 a2 N : Nat) (ec cc : Int32) (f cs tr : Nat → Int32) (k : Int32) (c0 : Nat → Nat) (hN : N ≤ 20) (hk : ¬ k < 0) (hcs : csI cs c0 N) : Met l yX0_coreSize wsX0_coreSize ({ frames := 7, cells := 0, slots := 0, locals := 102 } : Room) (va_Pc [.ref h, .int k] (zRd D (wB h a0 a1 a2 cy N ec cc f cs tr) [(cy, .int)])) (zPo (fun r => r = nI (zpop (cst c0 N k.toInt)))) 0 0 zNo := by
  refine Met.ofW (cc := cX0_coreSize) (maxL := 2) (ret := (some .int)) (by decide) rfl ?_
  intro p e s m args below meth c s₁ B hml hv
  obtain ⟨rfl, hP, hK⟩ := hv
  have hx := B.exec
  have hb := B.bytes
  have hr := B.returns
  have hts := atoms_spec (ws := wsX0_coreSize) B.pre
  have hown : s.vm.findClass RX0 = some m.cls := findClass_of_methodNamed B.named
  have hlocks := B.notSynchronized
  have hS : va_S (fun _ => False) s.heap s.heap [] := va_S.rf
  have hl := lv_entry ([.ref h, .int k]) (n := 2) (Nat.le_of_ble_eq_true rfl)
  rw [lg_entry_eq]
  generalize (lg_sl ([.ref h, .int k]) ++ List.replicate (2 - (lg_sl ([.ref h, .int k])).length) Slot.unset).toArray = ls at hl ⊢
  have hl : lv_has ls 2 [(0, .ref h), (1, .int k)] := hl
  refine lv_iload_n hx hb dX0_coreSize_0 rfl (lv_at hl 1 rfl) ?_
  refine zrS0v (As := [.int k]) (rest := []) ⟨hx, hb, hml, hown, hts⟩ (c_X0_checkLevel_ok l k hk) (va_cwS 1 hts gX0_coreSize_X0_checkLevel rfl rfl rfl (by decide +kernel) ⟨Nat.le_of_ble_eq_true rfl, Nat.le_of_ble_eq_true rfl⟩) rfl hl rfl (Nat.le_of_ble_eq_true rfl) dX0_coreSize_1 ⟨Nat.le_of_ble_eq_true rfl, Nat.le_of_ble_eq_true rfl⟩ hS (fun H locs hw1 hk9 hS => ?_)
  have hP := zkeep hP hk9
  refine lv_aload_n hx hb dX0_coreSize_4 rfl (lv_at hl 0 rfl) ?_
  refine lv_iload_n hx hb dX0_coreSize_5 rfl (lv_at hl 1 rfl) ?_
  refine zrV (As := [.int k]) (rest := []) 0 ⟨hx, hb, hml, hown, hts⟩ (c_X0_coreSet l D cy h a0 a1 a2 N ec cc f cs tr k hN) (cwV 1 hts gX0_coreSize_X0_coreSet rfl rfl rfl (by decide +kernel) ⟨Nat.le_of_ble_eq_true rfl, Nat.le_of_ble_eq_true rfl⟩) hK hP rfl rfl rfl hl rfl (Nat.le_of_ble_eq_true rfl) dX0_coreSize_6 ⟨Nat.le_of_ble_eq_true rfl, Nat.le_of_ble_eq_true rfl⟩ hS (fun r6 H locs hw6 hk9 hS => ?_)
  obtain rfl : r6 = (zmk (fun i => decide (k ≤ cs i)) N) := hw6
  have hP := zkeep hP hk9
  rw [cst_ofk hN hcs k]
  refine zrS0 (As := [.int (cst c0 N k.toInt)]) (rest := []) ⟨hx, hb, hml, hown, hts⟩ (c_X0_size l (cst c0 N k.toInt)) (va_cwS 1 hts gX0_coreSize_X0_size rfl rfl rfl (by decide +kernel) ⟨Nat.le_of_ble_eq_true rfl, Nat.le_of_ble_eq_true rfl⟩) rfl hl rfl (Nat.le_of_ble_eq_true rfl) dX0_coreSize_9 ⟨Nat.le_of_ble_eq_true rfl, Nat.le_of_ble_eq_true rfl⟩ hS (fun r9 H locs hw9 hk9 hS => ?_)
  obtain rfl : r9 = (nI (zpop (cst c0 N k.toInt))) := hw9
  have hP := zkeep hP hk9
  exact W.iret (v := (nI (zpop (cst c0 N k.toInt)))) hx hb hr (fun t9 ht9 hW9 => ⟨⟨(nI (zpop (cst c0 N k.toInt))), (), rfl, rfl, trivial⟩, hS.F ht9⟩) hS.2.2 dX0_coreSize_12
set_option maxHeartbeats 4000000 in
set_option maxRecDepth 100000 in
theorem c_X0_community_ok (l : Launch) (D : va_G) (cy : ClassId) (h a0 a1 a2 N : Nat) (ec cc : Int32) (f cs tr : Nat → Int32) (u : Nat) (k : Int32) (c0 : Nat → Nat) (hN : N ≤ 20) (hu : u < N) (hk : ¬ k < 0) (hcs : csI cs c0 N) : Met l yX0_community wsX0_community ({ frames := 7, cells := 0, slots := 0, locals := 103 } : Room) (va_Pc [.ref h, .int (nI u), .int k] (zRd D (wB h a0 a1 a2 cy N ec cc f cs tr) [(cy, .int)])) (zPo (fun r => r = nI (zpop (cmp f (cst c0 N k.toInt) u)))) 0 0 zNo := by
  refine Met.ofW (cc := cX0_community) (maxL := 3) (ret := (some .int)) (by decide) rfl ?_
  intro p e s m args below meth c s₁ B hml hv
  obtain ⟨rfl, hP, hK⟩ := hv
  have hx := B.exec
  have hb := B.bytes
  have hr := B.returns
  have hts := atoms_spec (ws := wsX0_community) B.pre
  have hown : s.vm.findClass RX0 = some m.cls := findClass_of_methodNamed B.named
  have hlocks := B.notSynchronized
  have hS : va_S (fun _ => False) s.heap s.heap [] := va_S.rf
  have hl := lv_entry ([.ref h, .int (nI u), .int k]) (n := 3) (Nat.le_of_ble_eq_true rfl)
  rw [lg_entry_eq]
  generalize (lg_sl ([.ref h, .int (nI u), .int k]) ++ List.replicate (3 - (lg_sl ([.ref h, .int (nI u), .int k])).length) Slot.unset).toArray = ls at hl ⊢
  have hl : lv_has ls 3 [(0, .ref h), (1, .int (nI u)), (2, .int k)] := hl
  refine lv_aload_n hx hb dX0_community_0 rfl (lv_at hl 0 rfl) ?_
  refine lv_iload_n hx hb dX0_community_1 rfl (lv_at hl 1 rfl) ?_
  refine zrVv (As := [.int (nI u)]) (rest := []) 0 ⟨hx, hb, hml, hown, hts⟩ (c_X0_checkNode_ok l D cy h a0 a1 a2 N ec cc f cs tr u hN hu) (cwV 1 hts gX0_community_X0_checkNode rfl rfl rfl (by decide +kernel) ⟨Nat.le_of_ble_eq_true rfl, Nat.le_of_ble_eq_true rfl⟩) hK hP rfl rfl rfl hl rfl (Nat.le_of_ble_eq_true rfl) dX0_community_2 ⟨Nat.le_of_ble_eq_true rfl, Nat.le_of_ble_eq_true rfl⟩ hS (fun H locs hw2 hk9 hS => ?_)
  have hP := zkeep hP hk9
  refine lv_iload_n hx hb dX0_community_5 rfl (lv_at hl 2 rfl) ?_
  refine zrS0v (As := [.int k]) (rest := []) ⟨hx, hb, hml, hown, hts⟩ (c_X0_checkLevel_ok l k hk) (va_cwS 1 hts gX0_community_X0_checkLevel rfl rfl rfl (by decide +kernel) ⟨Nat.le_of_ble_eq_true rfl, Nat.le_of_ble_eq_true rfl⟩) rfl hl rfl (Nat.le_of_ble_eq_true rfl) dX0_community_6 ⟨Nat.le_of_ble_eq_true rfl, Nat.le_of_ble_eq_true rfl⟩ hS (fun H locs hw6 hk9 hS => ?_)
  have hP := zkeep hP hk9
  refine lv_aload_n hx hb dX0_community_9 rfl (lv_at hl 0 rfl) ?_
  refine lv_iload_n hx hb dX0_community_10 rfl (lv_at hl 1 rfl) ?_
  refine zrS0 (As := [.int (nI u)]) (rest := [.ref h]) ⟨hx, hb, hml, hown, hts⟩ (c_X0_single l u) (va_cwS 1 hts gX0_community_X0_single rfl rfl rfl (by decide +kernel) ⟨Nat.le_of_ble_eq_true rfl, Nat.le_of_ble_eq_true rfl⟩) rfl hl rfl (Nat.le_of_ble_eq_true rfl) dX0_community_11 ⟨Nat.le_of_ble_eq_true rfl, Nat.le_of_ble_eq_true rfl⟩ hS (fun r11 H locs hw11 hk9 hS => ?_)
  obtain rfl : r11 = zsg u := hw11
  have hP := zkeep hP hk9
  refine lv_aload_n hx hb dX0_community_14 rfl (lv_at hl 0 rfl) ?_
  refine lv_iload_n hx hb dX0_community_15 rfl (lv_at hl 2 rfl) ?_
  refine zrV (As := [.int k]) (rest := [.int (zsg u), .ref h]) 0 ⟨hx, hb, hml, hown, hts⟩ (c_X0_coreSet l D cy h a0 a1 a2 N ec cc f cs tr k hN) (cwV 1 hts gX0_community_X0_coreSet rfl rfl rfl (by decide +kernel) ⟨Nat.le_of_ble_eq_true rfl, Nat.le_of_ble_eq_true rfl⟩) hK hP rfl rfl rfl hl rfl (Nat.le_of_ble_eq_true rfl) dX0_community_16 ⟨Nat.le_of_ble_eq_true rfl, Nat.le_of_ble_eq_true rfl⟩ hS (fun r16 H locs hw16 hk9 hS => ?_)
  obtain rfl : r16 = (zmk (fun i => decide (k ≤ cs i)) N) := hw16
  have hP := zkeep hP hk9
  rw [cst_ofk hN hcs k]
  refine zrV (As := [.int (zsg u), .int (cst c0 N k.toInt)]) (rest := []) 0 ⟨hx, hb, hml, hown, hts⟩ (c_X0_reach l D cy h a0 a1 a2 N ec cc f cs tr (zsg u) (cst c0 N k.toInt) hN (cst_sub hN _)) (cwV 2 hts gX0_community_X0_reach rfl rfl rfl (by decide +kernel) ⟨Nat.le_of_ble_eq_true rfl, Nat.le_of_ble_eq_true rfl⟩) hK hP rfl rfl rfl hl rfl (Nat.le_of_ble_eq_true rfl) dX0_community_19 ⟨Nat.le_of_ble_eq_true rfl, Nat.le_of_ble_eq_true rfl⟩ hS (fun r19 H locs hw19 hk9 hS => ?_)
  have hw19 : rch f (zsg u) (cst c0 N k.toInt) r19 := hw19
  obtain rfl : r19 = cmp f (cst c0 N k.toInt) u := cmp_of hw19
  have hP := zkeep hP hk9
  refine zrS0 (As := [.int (cmp f (cst c0 N k.toInt) u)]) (rest := []) ⟨hx, hb, hml, hown, hts⟩ (c_X0_size l (cmp f (cst c0 N k.toInt) u)) (va_cwS 1 hts gX0_community_X0_size rfl rfl rfl (by decide +kernel) ⟨Nat.le_of_ble_eq_true rfl, Nat.le_of_ble_eq_true rfl⟩) rfl hl rfl (Nat.le_of_ble_eq_true rfl) dX0_community_22 ⟨Nat.le_of_ble_eq_true rfl, Nat.le_of_ble_eq_true rfl⟩ hS (fun r22 H locs hw22 hk9 hS => ?_)
  obtain rfl : r22 = (nI (zpop (cmp f (cst c0 N k.toInt) u))) := hw22
  have hP := zkeep hP hk9
  exact W.iret (v := (nI (zpop (cmp f (cst c0 N k.toInt) u)))) hx hb hr (fun t9 ht9 hW9 => ⟨⟨(nI (zpop (cmp f (cst c0 N k.toInt) u))), (), rfl, rfl, trivial⟩, hS.F ht9⟩) hS.2.2 dX0_community_25
set_option maxHeartbeats 4000000 in
set_option maxRecDepth 100000 in
theorem c_X0_communities_ok (l : Launch) (D : va_G) (cy : ClassId) (h a0 a1 a2 N : Nat) (ec cc : Int32) (f cs tr : Nat → Int32) (k : Int32) (c0 : Nat → Nat) (hN : N ≤ 20) (hg : gd f N) (hk : ¬ k < 0) (hcs : csI cs c0 N) : Met l yX0_communities wsX0_communities ({ frames := 7, cells := 0, slots := 0, locals := 102 } : Room) (va_Pc [.ref h, .int k] (zRd D (wB h a0 a1 a2 cy N ec cc f cs tr) [(cy, .int)])) (zPo (fun r => r = nI (ccn f N (cst c0 N k.toInt) (cst c0 N k.toInt)))) 0 0 zNo := by
  refine Met.ofW (cc := cX0_communities) (maxL := 2) (ret := (some .int)) (by decide) rfl ?_
  intro p e s m args below meth c s₁ B hml hv
  obtain ⟨rfl, hP, hK⟩ := hv
  have hx := B.exec
  have hb := B.bytes
  have hr := B.returns
  have hts := atoms_spec (ws := wsX0_communities) B.pre
  have hown : s.vm.findClass RX0 = some m.cls := findClass_of_methodNamed B.named
  have hlocks := B.notSynchronized
  have hS : va_S (fun _ => False) s.heap s.heap [] := va_S.rf
  have hl := lv_entry ([.ref h, .int k]) (n := 2) (Nat.le_of_ble_eq_true rfl)
  rw [lg_entry_eq]
  generalize (lg_sl ([.ref h, .int k]) ++ List.replicate (2 - (lg_sl ([.ref h, .int k])).length) Slot.unset).toArray = ls at hl ⊢
  have hl : lv_has ls 2 [(0, .ref h), (1, .int k)] := hl
  refine lv_iload_n hx hb dX0_communities_0 rfl (lv_at hl 1 rfl) ?_
  refine zrS0v (As := [.int k]) (rest := []) ⟨hx, hb, hml, hown, hts⟩ (c_X0_checkLevel_ok l k hk) (va_cwS 1 hts gX0_communities_X0_checkLevel rfl rfl rfl (by decide +kernel) ⟨Nat.le_of_ble_eq_true rfl, Nat.le_of_ble_eq_true rfl⟩) rfl hl rfl (Nat.le_of_ble_eq_true rfl) dX0_communities_1 ⟨Nat.le_of_ble_eq_true rfl, Nat.le_of_ble_eq_true rfl⟩ hS (fun H locs hw1 hk9 hS => ?_)
  have hP := zkeep hP hk9
  refine lv_aload_n hx hb dX0_communities_4 rfl (lv_at hl 0 rfl) ?_
  refine lv_aload_n hx hb dX0_communities_5 rfl (lv_at hl 0 rfl) ?_
  refine lv_iload_n hx hb dX0_communities_6 rfl (lv_at hl 1 rfl) ?_
  refine zrV (As := [.int k]) (rest := [.ref h]) 0 ⟨hx, hb, hml, hown, hts⟩ (c_X0_coreSet l D cy h a0 a1 a2 N ec cc f cs tr k hN) (cwV 1 hts gX0_communities_X0_coreSet rfl rfl rfl (by decide +kernel) ⟨Nat.le_of_ble_eq_true rfl, Nat.le_of_ble_eq_true rfl⟩) hK hP rfl rfl rfl hl rfl (Nat.le_of_ble_eq_true rfl) dX0_communities_7 ⟨Nat.le_of_ble_eq_true rfl, Nat.le_of_ble_eq_true rfl⟩ hS (fun r7 H locs hw7 hk9 hS => ?_)
  obtain rfl : r7 = (zmk (fun i => decide (k ≤ cs i)) N) := hw7
  have hP := zkeep hP hk9
  rw [cst_ofk hN hcs k]
  refine lv_aload_n hx hb dX0_communities_10 rfl (lv_at hl 0 rfl) ?_
  refine lv_iload_n hx hb dX0_communities_11 rfl (lv_at hl 1 rfl) ?_
  refine zrV (As := [.int k]) (rest := [.int (cst c0 N k.toInt), .ref h]) 0 ⟨hx, hb, hml, hown, hts⟩ (c_X0_coreSet l D cy h a0 a1 a2 N ec cc f cs tr k hN) (cwV 1 hts gX0_communities_X0_coreSet rfl rfl rfl (by decide +kernel) ⟨Nat.le_of_ble_eq_true rfl, Nat.le_of_ble_eq_true rfl⟩) hK hP rfl rfl rfl hl rfl (Nat.le_of_ble_eq_true rfl) dX0_communities_12 ⟨Nat.le_of_ble_eq_true rfl, Nat.le_of_ble_eq_true rfl⟩ hS (fun r12 H locs hw12 hk9 hS => ?_)
  obtain rfl : r12 = (zmk (fun i => decide (k ≤ cs i)) N) := hw12
  have hP := zkeep hP hk9
  rw [cst_ofk hN hcs k]
  refine zrV (As := [.int (cst c0 N k.toInt), .int (cst c0 N k.toInt)]) (rest := []) 0 ⟨hx, hb, hml, hown, hts⟩ (c_X0_countCommunities l D cy h a0 a1 a2 N ec cc f cs tr (cst c0 N k.toInt) (cst c0 N k.toInt) hN hg (cst_sub hN _) (le_rf _)) (cwV 2 hts gX0_communities_X0_countCommunities rfl rfl rfl (by decide +kernel) ⟨Nat.le_of_ble_eq_true rfl, Nat.le_of_ble_eq_true rfl⟩) hK hP rfl rfl rfl hl rfl (Nat.le_of_ble_eq_true rfl) dX0_communities_15 ⟨Nat.le_of_ble_eq_true rfl, Nat.le_of_ble_eq_true rfl⟩ hS (fun r15 H locs hw15 hk9 hS => ?_)
  obtain rfl : r15 = (nI (ccn f N (cst c0 N k.toInt) (cst c0 N k.toInt))) := hw15
  have hP := zkeep hP hk9
  exact W.iret (v := (nI (ccn f N (cst c0 N k.toInt) (cst c0 N k.toInt)))) hx hb hr (fun t9 ht9 hW9 => ⟨⟨(nI (ccn f N (cst c0 N k.toInt) (cst c0 N k.toInt))), (), rfl, rfl, trivial⟩, hS.F ht9⟩) hS.2.2 dX0_communities_18
set_option maxHeartbeats 4000000 in
set_option maxRecDepth 100000 in
theorem c_X0_together_ok (l : Launch) (D : va_G) (cy : ClassId) (h a0 a1 a2 N : Nat) (ec cc : Int32) (f cs tr : Nat → Int32) (u v t0 : Nat) (c0 : Nat → Nat) (hN : N ≤ 20) (hu : u < N) (hv : v < N) (hcs : csI cs c0 N) (ht0 : tgk f c0 N u v 20 = t0 + 1) : Met l yX0_together wsX0_together ({ frames := 7, cells := 0, slots := 0, locals := 103 } : Room) (va_Pc [.ref h, .int (nI u), .int (nI v)] (zRd D (wB h a0 a1 a2 cy N ec cc f cs tr) [(cy, .int)])) (zPo (fun r => r = nI t0)) 0 0 zNo := by
  refine Met.ofW (cc := cX0_together) (maxL := 4) (ret := (some .int)) (by decide) rfl ?_
  intro p e s m args below meth c s₁ B hml hv
  obtain ⟨rfl, hP, hK⟩ := hv
  have hx := B.exec
  have hb := B.bytes
  have hr := B.returns
  have hts := atoms_spec (ws := wsX0_together) B.pre
  have hown : s.vm.findClass RX0 = some m.cls := findClass_of_methodNamed B.named
  have hlocks := B.notSynchronized
  have hS : va_S (fun _ => False) s.heap s.heap [] := va_S.rf
  have hin : ∀ w ∈ wsX00, w ∈ wsX0_together := by decide +kernel
  have hf13 := hts (.fieldLink RX0 13 "Corebarn" "cores" "[I") (by decide +kernel)
  have hcu := (hcs u hu).2
  have hcv := (hcs v hv).2
  have hl := lv_entry ([.ref h, .int (nI u), .int (nI v)]) (n := 4) (Nat.le_of_ble_eq_true rfl)
  rw [lg_entry_eq]
  generalize (lg_sl ([.ref h, .int (nI u), .int (nI v)]) ++ List.replicate (4 - (lg_sl ([.ref h, .int (nI u), .int (nI v)])).length) Slot.unset).toArray = ls at hl ⊢
  have hl : lv_has ls 4 [(0, .ref h), (1, .int (nI u)), (2, .int (nI v))] := hl
  refine lv_aload_n hx hb dX0_together_0 rfl (lv_at hl 0 rfl) ?_
  refine lv_iload_n hx hb dX0_together_1 rfl (lv_at hl 1 rfl) ?_
  refine zrVv (As := [.int (nI u)]) (rest := []) 0 ⟨hx, hb, hml, hown, hts⟩ (c_X0_checkNode_ok l D cy h a0 a1 a2 N ec cc f cs tr u hN hu) (cwV 1 hts gX0_together_X0_checkNode rfl rfl rfl (by decide +kernel) ⟨Nat.le_of_ble_eq_true rfl, Nat.le_of_ble_eq_true rfl⟩) hK hP rfl rfl rfl hl rfl (Nat.le_of_ble_eq_true rfl) dX0_together_2 ⟨Nat.le_of_ble_eq_true rfl, Nat.le_of_ble_eq_true rfl⟩ hS (fun H locs hw2 hk9 hS => ?_)
  have hP := zkeep hP hk9
  refine lv_aload_n hx hb dX0_together_5 rfl (lv_at hl 0 rfl) ?_
  refine lv_iload_n hx hb dX0_together_6 rfl (lv_at hl 2 rfl) ?_
  refine zrVv (As := [.int (nI v)]) (rest := []) 0 ⟨hx, hb, hml, hown, hts⟩ (c_X0_checkNode_ok l D cy h a0 a1 a2 N ec cc f cs tr v hN hv) (cwV 1 hts gX0_together_X0_checkNode rfl rfl rfl (by decide +kernel) ⟨Nat.le_of_ble_eq_true rfl, Nat.le_of_ble_eq_true rfl⟩) hK hP rfl rfl rfl hl rfl (Nat.le_of_ble_eq_true rfl) dX0_together_7 ⟨Nat.le_of_ble_eq_true rfl, Nat.le_of_ble_eq_true rfl⟩ hS (fun H locs hw7 hk9 hS => ?_)
  have hP := zkeep hP hk9
  refine lv_aload_n hx hb dX0_together_10 rfl (lv_at hl 0 rfl) ?_
  refine va_get (D := D) (ci := 0) (v := .ref a1) (C := RX0) (T := TX0) (N := 6) hx hb hts hin hown hK hP 0 rfl rfl 1 (by decide) hf13 (fun _ h9 => h9) rfl dX0_together_11 ?_
  refine lv_iload_n hx hb dX0_together_14 rfl (lv_at hl 1 rfl) ?_
  refine z_iald hx hb hK hP 2 0 rfl rfl (by omega) (by decide) dX0_together_15 ?_
  rw [(hcs u hu).1]
  refine lv_aload_n hx hb dX0_together_16 rfl (lv_at hl 0 rfl) ?_
  refine va_get (D := D) (ci := 0) (v := .ref a1) (C := RX0) (T := TX0) (N := 6) hx hb hts hin hown hK hP 0 rfl rfl 1 (by decide) hf13 (fun _ h9 => h9) rfl dX0_together_17 ?_
  refine lv_iload_n hx hb dX0_together_20 rfl (lv_at hl 2 rfl) ?_
  refine z_iald hx hb hK hP 2 0 rfl rfl (by omega) (by decide) dX0_together_21 ?_
  rw [(hcs v hv).1]
  refine va_mmin hx hb (by rw [hml]; exact hl.1.symm) hown (hts (.methodLink RX0 92 Lib.Math.min.name) (by decide +kernel)) (hts (.static Lib.Math.min.name) (by decide +kernel)) (hts (.initialized "java/lang/Math") (by decide +kernel)) (hts (.code Lib.Math.min.name Lib.Math.min.code 2 (some .int)) (by decide +kernel)) (Nat.le_of_ble_eq_true rfl) (Nat.le_of_ble_eq_true rfl) (Nat.le_of_ble_eq_true rfl) (Nat.le_of_ble_eq_true rfl) dX0_together_22 ?_
  rw [z_min (a := c0 u) (b := c0 v) (by omega) (by omega)]
  refine lv_istore_n (lv' := [(3, .int (nI (min (c0 u) (c0 v)))), (0, .ref h), (1, .int (nI u)), (2, .int (nI v))]) hx hb dX0_together_25 rfl hl (by decide) rfl (fun ls hl => ?_)
  have K26 : ∀ (fu26 : Nat) (t1 : Nat) (x : Int32) (H : Heap) (locs : List Loc) (ls : Array Slot), (t1 ≤ 20) → (x = tgi t1) → (∀ j : Nat, t1 ≤ j → j < 20 → bt (cmp f (cst c0 N (j : Int)) u) v = false) → t1 < fu26 → va_P D vwCl (wB h a0 a1 a2 cy N ec cc f cs tr) H → va_S (fun _ => False) s.heap H locs → lv_has ls 4 [(3, .int x), (0, .ref h), (1, .int (nI u)), (2, .int (nI v))] → W p l e (headSpec wsX0_together ({ frames := 7, cells := 0, slots := 0, locals := 103 } : Room)).room s m ([.ref h, .int (nI u), .int (nI v)] : List Value).toArray below meth c H locs 0 0 (MQ below (zPo (fun r => r = nI t0)) ([.ref h, .int (nI u), .int (nI v)] : List Value).toArray s 0 0 zNo) (F0 m 26 ls []) := by
    intro fu26
    induction fu26 with
    | zero =>
      intro t1 x H locs ls ht1 hxe hno hfu26
      exact absurd hfu26 (Nat.not_lt_zero _)
    | succ fu26 ih26 =>
      intro t1 x H locs ls ht1 hxe hno hfu26 hP hS hl
      refine lv_iload_n hx hb dX0_together_26 rfl (lv_at hl 0 rfl) ?_
      refine lv_if_lt (tgt := 58) hx hb dX0_together_27 (by decide) (fun h27 => ?_) (fun h27 => ?_)
      · exact absurd ht0 (by rw [tgk_zero 20 (fun j hj => hno j (by rw [tgi_lt (by omega) hxe h27]; exact Nat.zero_le j) hj)]; omega)
      · obtain ⟨m9, rfl, hm9⟩ := tgi_ge (by omega) hxe h27
        refine lv_aload_n hx hb dX0_together_30 rfl (lv_at hl 1 rfl) ?_
        refine lv_iload_n hx hb dX0_together_31 rfl (lv_at hl 2 rfl) ?_
        refine zrS0 (As := [.int (nI u)]) (rest := [.ref h]) ⟨hx, hb, hml, hown, hts⟩ (c_X0_single l u) (va_cwS 1 hts gX0_together_X0_single rfl rfl rfl (by decide +kernel) ⟨Nat.le_of_ble_eq_true rfl, Nat.le_of_ble_eq_true rfl⟩) rfl hl rfl (Nat.le_of_ble_eq_true rfl) dX0_together_32 ⟨Nat.le_of_ble_eq_true rfl, Nat.le_of_ble_eq_true rfl⟩ hS (fun r32 H locs hw32 hk9 hS => ?_)
        obtain rfl : r32 = zsg u := hw32
        have hP := zkeep hP hk9
        refine lv_aload_n hx hb dX0_together_35 rfl (lv_at hl 1 rfl) ?_
        refine lv_iload_n hx hb dX0_together_36 rfl (lv_at hl 0 rfl) ?_
        refine zrV (As := [.int (nI m9)]) (rest := [.int (zsg u), .ref h]) 0 ⟨hx, hb, hml, hown, hts⟩ (c_X0_coreSet l D cy h a0 a1 a2 N ec cc f cs tr (nI m9) hN) (cwV 1 hts gX0_together_X0_coreSet rfl rfl rfl (by decide +kernel) ⟨Nat.le_of_ble_eq_true rfl, Nat.le_of_ble_eq_true rfl⟩) hK hP rfl rfl rfl hl rfl (Nat.le_of_ble_eq_true rfl) dX0_together_37 ⟨Nat.le_of_ble_eq_true rfl, Nat.le_of_ble_eq_true rfl⟩ hS (fun r37 H locs hw37 hk9 hS => ?_)
        obtain rfl : r37 = (zmk (fun i => decide ((nI m9) ≤ cs i)) N) := hw37
        have hP := zkeep hP hk9
        rw [cst_of hN hcs (k := m9) (by omega)]
        refine zrV (As := [.int (zsg u), .int (cst c0 N (m9 : Int))]) (rest := []) 0 ⟨hx, hb, hml, hown, hts⟩ (c_X0_reach l D cy h a0 a1 a2 N ec cc f cs tr (zsg u) (cst c0 N (m9 : Int)) hN (cst_sub hN _)) (cwV 2 hts gX0_together_X0_reach rfl rfl rfl (by decide +kernel) ⟨Nat.le_of_ble_eq_true rfl, Nat.le_of_ble_eq_true rfl⟩) hK hP rfl rfl rfl hl rfl (Nat.le_of_ble_eq_true rfl) dX0_together_40 ⟨Nat.le_of_ble_eq_true rfl, Nat.le_of_ble_eq_true rfl⟩ hS (fun r40 H locs hw40 hk9 hS => ?_)
        have hw40 : rch f (zsg u) (cst c0 N (m9 : Int)) r40 := hw40
        obtain rfl : r40 = cmp f (cst c0 N (m9 : Int)) u := cmp_of hw40
        have hP := zkeep hP hk9
        refine lv_iload_n hx hb dX0_together_43 rfl (lv_at hl 3 rfl) ?_
        refine zrS0 (As := [.int (cmp f (cst c0 N (m9 : Int)) u), .int (nI v)]) (rest := []) ⟨hx, hb, hml, hown, hts⟩ (c_X0_contains l (cmp f (cst c0 N (m9 : Int)) u) v (by omega)) (va_cwS 2 hts gX0_together_X0_contains rfl rfl rfl (by decide +kernel) ⟨Nat.le_of_ble_eq_true rfl, Nat.le_of_ble_eq_true rfl⟩) rfl hl rfl (Nat.le_of_ble_eq_true rfl) dX0_together_44 ⟨Nat.le_of_ble_eq_true rfl, Nat.le_of_ble_eq_true rfl⟩ hS (fun r44 H locs hw44 hk9 hS => ?_)
        obtain rfl : r44 = (zb (bt (cmp f (cst c0 N (m9 : Int)) u) v)) := hw44
        have hP := zkeep hP hk9
        refine z_ifb_eq (tgt := 52) hx hb dX0_together_47 (by decide) (fun h47 => ?_) (fun h47 => ?_)
        · refine lv_iinc (v := (tgi m9)) (lv' := [(3, .int (tgi m9)), (0, .ref h), (1, .int (nI u)), (2, .int (nI v))]) hx hb dX0_together_52 hl (k := 0) rfl (tgi_m m9) (by decide) rfl (fun ls hl => ?_)
          refine lv_goto (tgt := 26) hx hb dX0_together_55 (by decide) ?_
          exact ih26 m9 (tgi m9) _ _ _ (by omega) rfl (fun j h1 h2 => by by_cases e : j = m9; (rw [e]; exact h47); exact hno j (by omega) h2) (by omega) hP hS (lv_sub hl [0, 1, 2, 3] rfl)
        · refine lv_iload_n hx hb dX0_together_50 rfl (lv_at hl 0 rfl) ?_
          exact W.iret (v := (nI m9)) hx hb hr (fun t9 ht9 hW9 => ⟨⟨(nI m9), (), rfl, (by have z := tgk_top h47 20 (by omega) (fun j h1 h2 => hno j (by omega) h2); rw [ht0] at z; rw [show m9 = t0 by omega]), trivial⟩, hS.F ht9⟩) hS.2.2 dX0_together_51
  exact K26 ((min (c0 u) (c0 v) + 1) + 1) (min (c0 u) (c0 v) + 1) (nI (min (c0 u) (c0 v))) _ _ _ (by omega) (by unfold tgi; rw [if_neg (by omega), Nat.add_sub_cancel]) (fun j h1 h2 => cmp_hi hN hu (by omega)) (Nat.lt_succ_self _) hP hS (lv_sub hl [0, 1, 2, 3] rfl)
set_option maxHeartbeats 4000000 in
set_option maxRecDepth 100000 in
theorem c_X0_peeled_ok (l : Launch) (D : va_G) (cy : ClassId) (h a0 a1 a2 N : Nat) (ec cc : Int32) (f cs tr : Nat → Int32) (u : Nat) (hN : N ≤ 20) (hu : u < N) : Met l yX0_peeled wsX0_peeled ({ frames := 3, cells := 0, slots := 0, locals := 65 } : Room) (va_Pc [.ref h, .int (nI u)] (zRd D (wB h a0 a1 a2 cy N ec cc f cs tr) [(cy, .int)])) (zPo (fun r => r = nI (npk f (dsk f N u).1 N).1)) 0 0 zNo := by
  refine Met.ofW (cc := cX0_peeled) (maxL := 4) (ret := (some .int)) (by decide) rfl ?_
  intro p e s m args below meth c s₁ B hml hv
  obtain ⟨rfl, hP, hK⟩ := hv
  have hx := B.exec
  have hb := B.bytes
  have hr := B.returns
  have hts := atoms_spec (ws := wsX0_peeled) B.pre
  have hown : s.vm.findClass RX0 = some m.cls := findClass_of_methodNamed B.named
  have hlocks := B.notSynchronized
  have hS : va_S (fun _ => False) s.heap s.heap [] := va_S.rf
  have hin : ∀ w ∈ wsX00, w ∈ wsX0_peeled := by decide +kernel
  have hf19 := hts (.fieldLink RX0 19 "Corebarn" "nodeCount" "I") (by decide +kernel)
  have hl := lv_entry ([.ref h, .int (nI u)]) (n := 4) (Nat.le_of_ble_eq_true rfl)
  rw [lg_entry_eq]
  generalize (lg_sl ([.ref h, .int (nI u)]) ++ List.replicate (4 - (lg_sl ([.ref h, .int (nI u)])).length) Slot.unset).toArray = ls at hl ⊢
  have hl : lv_has ls 4 [(0, .ref h), (1, .int (nI u))] := hl
  refine lv_iload_n hx hb dX0_peeled_0 rfl (lv_at hl 1 rfl) ?_
  refine z_ifn_lt (tgt := 12) hx hb dX0_peeled_1 (by decide) (by omega) ?_
  refine lv_iload_n hx hb dX0_peeled_4 rfl (lv_at hl 1 rfl) ?_
  refine lv_aload_n hx hb dX0_peeled_5 rfl (lv_at hl 0 rfl) ?_
  refine va_get (D := D) (ci := 0) (v := .int (nI N)) (C := RX0) (T := TX0) (N := 6) hx hb hts hin hown hK hP 0 rfl rfl 3 (by decide) hf19 (fun _ h9 => h9) rfl dX0_peeled_6 ?_
  refine z_icmp_lt (tgt := 22) hx hb dX0_peeled_9 (by decide) (by omega) (by omega) (fun h9 => ?_) (fun h9 => ?_)
  · refine lv_aload_n hx hb dX0_peeled_22 rfl (lv_at hl 0 rfl) ?_
    refine zrV (As := []) (rest := []) 0 ⟨hx, hb, hml, hown, hts⟩ (c_X0_allNodes l D cy h a0 a1 a2 N ec cc f cs tr hN) (cwV 0 hts gX0_peeled_X0_allNodes rfl rfl rfl (by decide +kernel) ⟨Nat.le_of_ble_eq_true rfl, Nat.le_of_ble_eq_true rfl⟩) hK hP rfl rfl rfl hl rfl (Nat.le_of_ble_eq_true rfl) dX0_peeled_23 ⟨Nat.le_of_ble_eq_true rfl, Nat.le_of_ble_eq_true rfl⟩ hS (fun r23 H locs hw23 hk9 hS => ?_)
    obtain rfl : r23 = zal N := hw23
    have hP := zkeep hP hk9
    refine lv_istore_n (lv' := [(2, .int (zal N)), (0, .ref h), (1, .int (nI u))]) hx hb dX0_peeled_26 rfl hl (by decide) rfl (fun ls hl => ?_)
    refine lv_iconst (v := (nI 0)) hx hb dX0_peeled_27 (by decide) ?_
    refine lv_istore_n (lv' := [(3, .int (nI 0)), (2, .int (zal N)), (0, .ref h), (1, .int (nI u))]) hx hb dX0_peeled_28 rfl hl (by decide) rfl (fun ls hl => ?_)
    have K29 : ∀ (fu29 : Nat) (i : Nat) (x : Int32) (H : Heap) (locs : List Loc) (ls : Array Slot), (i ≤ u) → (x = (dsk f N i).1) → u - i < fu29 → va_P D vwCl (wB h a0 a1 a2 cy N ec cc f cs tr) H → va_S (fun _ => False) s.heap H locs → lv_has ls 4 [(3, .int (nI i)), (2, .int x), (0, .ref h), (1, .int (nI u))] → W p l e (headSpec wsX0_peeled ({ frames := 3, cells := 0, slots := 0, locals := 65 } : Room)).room s m ([.ref h, .int (nI u)] : List Value).toArray below meth c H locs 0 0 (MQ below (zPo (fun r => r = nI (npk f (dsk f N u).1 N).1)) ([.ref h, .int (nI u)] : List Value).toArray s 0 0 zNo) (F0 m 29 ls []) := by
      intro fu29
      induction fu29 with
      | zero =>
        intro i x H locs ls hi hxe hfu29
        exact absurd hfu29 (Nat.not_lt_zero _)
      | succ fu29 ih29 =>
        intro i x H locs ls hi hxe hfu29 hP hS hl
        refine lv_iload_n hx hb dX0_peeled_29 rfl (lv_at hl 0 rfl) ?_
        refine lv_iload_n hx hb dX0_peeled_30 rfl (lv_at hl 3 rfl) ?_
        refine z_icmp_ge (tgt := 50) hx hb dX0_peeled_31 (by decide) (by omega) (by omega) (fun h31 => ?_) (fun h31 => ?_)
        · refine lv_aload_n hx hb dX0_peeled_50 rfl (lv_at hl 2 rfl) ?_
          refine lv_iload_n hx hb dX0_peeled_51 rfl (lv_at hl 1 rfl) ?_
          refine zrV (As := [.int x]) (rest := []) 0 ⟨hx, hb, hml, hown, hts⟩ (c_X0_nextToPeel l D cy h a0 a1 a2 N ec cc f cs tr x hN) (cwV 1 hts gX0_peeled_X0_nextToPeel rfl rfl rfl (by decide +kernel) ⟨Nat.le_of_ble_eq_true rfl, Nat.le_of_ble_eq_true rfl⟩) hK hP rfl rfl rfl hl rfl (Nat.le_of_ble_eq_true rfl) dX0_peeled_52 ⟨Nat.le_of_ble_eq_true rfl, Nat.le_of_ble_eq_true rfl⟩ hS (fun r52 H locs hw52 hk9 hS => ?_)
          obtain rfl : r52 = (nI ((npk f x N).1)) := hw52
          have hP := zkeep hP hk9
          exact W.iret (v := (nI ((npk f x N).1))) hx hb hr (fun t9 ht9 hW9 => ⟨⟨(nI ((npk f x N).1)), (), rfl, (by rw [hxe, Nat.le_antisymm hi h31]), trivial⟩, hS.F ht9⟩) hS.2.2 dX0_peeled_55
        · refine lv_iload_n hx hb dX0_peeled_34 rfl (lv_at hl 1 rfl) ?_
          refine lv_aload_n hx hb dX0_peeled_35 rfl (lv_at hl 2 rfl) ?_
          refine lv_iload_n hx hb dX0_peeled_36 rfl (lv_at hl 1 rfl) ?_
          refine zrV (As := [.int x]) (rest := [.int x]) 0 ⟨hx, hb, hml, hown, hts⟩ (c_X0_nextToPeel l D cy h a0 a1 a2 N ec cc f cs tr x hN) (cwV 1 hts gX0_peeled_X0_nextToPeel rfl rfl rfl (by decide +kernel) ⟨Nat.le_of_ble_eq_true rfl, Nat.le_of_ble_eq_true rfl⟩) hK hP rfl rfl rfl hl rfl (Nat.le_of_ble_eq_true rfl) dX0_peeled_37 ⟨Nat.le_of_ble_eq_true rfl, Nat.le_of_ble_eq_true rfl⟩ hS (fun r37 H locs hw37 hk9 hS => ?_)
          obtain rfl : r37 = (nI ((npk f x N).1)) := hw37
          have hP := zkeep hP hk9
          refine zrS0 (As := [.int x, .int (nI ((npk f x N).1))]) (rest := []) ⟨hx, hb, hml, hown, hts⟩ (c_X0_without l x ((npk f x N).1)) (va_cwS 2 hts gX0_peeled_X0_without rfl rfl rfl (by decide +kernel) ⟨Nat.le_of_ble_eq_true rfl, Nat.le_of_ble_eq_true rfl⟩) rfl hl rfl (Nat.le_of_ble_eq_true rfl) dX0_peeled_40 ⟨Nat.le_of_ble_eq_true rfl, Nat.le_of_ble_eq_true rfl⟩ hS (fun r40 H locs hw40 hk9 hS => ?_)
          obtain rfl : r40 = (zdl x ((npk f x N).1)) := hw40
          have hP := zkeep hP hk9
          refine lv_istore_n (lv' := [(2, .int (zdl x ((npk f x N).1))), (3, .int (nI i)), (0, .ref h), (1, .int (nI u))]) hx hb dX0_peeled_43 rfl hl (by decide) rfl (fun ls hl => ?_)
          refine lv_iinc (v := (nI (i + 1))) (lv' := [(3, .int (nI (i + 1))), (2, .int (zdl x ((npk f x N).1))), (0, .ref h), (1, .int (nI u))]) hx hb dX0_peeled_44 hl (k := 1) rfl (nI_1 _) (by decide) rfl (fun ls hl => ?_)
          refine lv_goto (tgt := 29) hx hb dX0_peeled_47 (by decide) ?_
          exact ih29 (i + 1) (zdl x ((npk f x N).1)) _ _ _ (by omega) (by rw [dsk_1, ← hxe]) (by omega) hP hS (lv_sub hl [0, 1, 2, 3] rfl)
    exact K29 (u - 0 + 1) 0 (zal N) _ _ _ (by omega) rfl (Nat.lt_succ_self _) hP hS (lv_sub hl [0, 1, 2, 3] rfl)
  · exact absurd hu (Nat.not_lt.mpr h9)
set_option maxHeartbeats 4000000 in
set_option maxRecDepth 100000 in
theorem c_X0_isDense_ok (l : Launch) (D : va_G) (cy : ClassId) (h a0 a1 a2 N : Nat) (ec cc : Int32) (f cs tr : Nat → Int32) (u : Nat) (hN : N ≤ 20) (hu : u < N) (hec : ec = nI (ewn f N (zal N))) : Met l yX0_isDense wsX0_isDense ({ frames := 7, cells := 0, slots := 0, locals := 103 } : Room) (va_Pc [.ref h, .int (nI u)] (zRd D (wB h a0 a1 a2 cy N ec cc f cs tr) [(cy, .int)])) (zPo (fun r => r = zb (bt (dsk f N (N - 1)).2.1 u))) 0 0 zNo := by
  refine Met.ofW (cc := cX0_isDense) (maxL := 2) (ret := (some .boolean)) (by decide) rfl ?_
  intro p e s m args below meth c s₁ B hml hv
  obtain ⟨rfl, hP, hK⟩ := hv
  have hx := B.exec
  have hb := B.bytes
  have hr := B.returns
  have hts := atoms_spec (ws := wsX0_isDense) B.pre
  have hown : s.vm.findClass RX0 = some m.cls := findClass_of_methodNamed B.named
  have hlocks := B.notSynchronized
  have hS : va_S (fun _ => False) s.heap s.heap [] := va_S.rf
  have hl := lv_entry ([.ref h, .int (nI u)]) (n := 2) (Nat.le_of_ble_eq_true rfl)
  rw [lg_entry_eq]
  generalize (lg_sl ([.ref h, .int (nI u)]) ++ List.replicate (2 - (lg_sl ([.ref h, .int (nI u)])).length) Slot.unset).toArray = ls at hl ⊢
  have hl : lv_has ls 2 [(0, .ref h), (1, .int (nI u))] := hl
  refine lv_aload_n hx hb dX0_isDense_0 rfl (lv_at hl 0 rfl) ?_
  refine lv_iload_n hx hb dX0_isDense_1 rfl (lv_at hl 1 rfl) ?_
  refine zrVv (As := [.int (nI u)]) (rest := []) 0 ⟨hx, hb, hml, hown, hts⟩ (c_X0_checkNode_ok l D cy h a0 a1 a2 N ec cc f cs tr u hN hu) (cwV 1 hts gX0_isDense_X0_checkNode rfl rfl rfl (by decide +kernel) ⟨Nat.le_of_ble_eq_true rfl, Nat.le_of_ble_eq_true rfl⟩) hK hP rfl rfl rfl hl rfl (Nat.le_of_ble_eq_true rfl) dX0_isDense_2 ⟨Nat.le_of_ble_eq_true rfl, Nat.le_of_ble_eq_true rfl⟩ hS (fun H locs hw2 hk9 hS => ?_)
  have hP := zkeep hP hk9
  refine lv_aload_n hx hb dX0_isDense_5 rfl (lv_at hl 0 rfl) ?_
  refine zrV (As := []) (rest := []) 0 ⟨hx, hb, hml, hown, hts⟩ (c_X0_denseSet l D cy h a0 a1 a2 N ec cc f cs tr hN hec) (cwV 0 hts gX0_isDense_X0_denseSet rfl rfl rfl (by decide +kernel) ⟨Nat.le_of_ble_eq_true rfl, Nat.le_of_ble_eq_true rfl⟩) hK hP rfl rfl rfl hl rfl (Nat.le_of_ble_eq_true rfl) dX0_isDense_6 ⟨Nat.le_of_ble_eq_true rfl, Nat.le_of_ble_eq_true rfl⟩ hS (fun r6 H locs hw6 hk9 hS => ?_)
  obtain rfl : r6 = (dsk f N (N - 1)).2.1 := hw6
  have hP := zkeep hP hk9
  refine lv_iload_n hx hb dX0_isDense_9 rfl (lv_at hl 1 rfl) ?_
  refine zrS0 (As := [.int ((dsk f N (N - 1)).2.1), .int (nI u)]) (rest := []) ⟨hx, hb, hml, hown, hts⟩ (c_X0_contains l ((dsk f N (N - 1)).2.1) u (by omega)) (va_cwS 2 hts gX0_isDense_X0_contains rfl rfl rfl (by decide +kernel) ⟨Nat.le_of_ble_eq_true rfl, Nat.le_of_ble_eq_true rfl⟩) rfl hl rfl (Nat.le_of_ble_eq_true rfl) dX0_isDense_10 ⟨Nat.le_of_ble_eq_true rfl, Nat.le_of_ble_eq_true rfl⟩ hS (fun r10 H locs hw10 hk9 hS => ?_)
  obtain rfl : r10 = (zb (bt ((dsk f N (N - 1)).2.1) u)) := hw10
  have hP := zkeep hP hk9
  exact W.zret (v := (zb (bt ((dsk f N (N - 1)).2.1) u))) (ty := .boolean) hx hb hr (zb_nar _) (fun t9 ht9 hW9 => ⟨⟨(zb (bt ((dsk f N (N - 1)).2.1) u)), (), rfl, rfl, trivial⟩, hS.F ht9⟩) hS.2.2 dX0_isDense_13
set_option maxHeartbeats 4000000 in
set_option maxRecDepth 100000 in
theorem c_X0_trussSize_ok (l : Launch) (D : va_G) (cy : ClassId) (h a0 a1 a2 N : Nat) (ec cc : Int32) (f cs tr : Nat → Int32) (sz : Nat) (k : Int32) (hN : N ≤ 20) (hg : gd f N) (hk : ¬ k < nI 2) : Met l yX0_trussSize wsX0_trussSize ({ frames := 4, cells := 0, slots := 0, locals := 88 } : Room) (va_Pc [.ref h, .int k] (zWr D (wB h a0 a1 a2 cy N ec cc f cs tr) [(cy, .int)] sz)) (va_Qi (fun (r : Int32) (z9 : (Nat → Int32)) => ∃ g, isTr f N (k - nI 2).toInt g ∧ r = nI (tE g N / 2)) (fun (z9 : (Nat → Int32)) t => va_P D vwCl (wB h a0 a1 a2 cy N ec cc f cs z9) t.heap) (va_A (wB h a0 a1 a2 cy N ec cc f cs tr) sz)) 0 0 (va_A (wB h a0 a1 a2 cy N ec cc f cs tr) sz) := by
  refine Met.ofW (cc := cX0_trussSize) (maxL := 4) (ret := (some .int)) (by decide) rfl ?_
  intro p e s m args below meth c s₁ B hml hv
  obtain ⟨rfl, hsz, hP, hK, hD0⟩ := hv
  have hx := B.exec
  have hb := B.bytes
  have hr := B.returns
  have hts := atoms_spec (ws := wsX0_trussSize) B.pre
  have hown : s.vm.findClass RX0 = some m.cls := findClass_of_methodNamed B.named
  have hlocks := B.notSynchronized
  subst hsz
  have hD := hD0.self (sz := s.heap.size)
  generalize hAe : va_A (wB h a0 a1 a2 cy N ec cc f cs tr) s.heap.size = A at hD ⊢
  have hA : ∀ q : Nat, s.heap.size ≤ q → A q := fun q h => by rw [← hAe]; exact Or.inr h
  have hS : va_S A s.heap s.heap [] := va_S.rf
  have hin : ∀ w ∈ wsX00, w ∈ wsX0_trussSize := by decide +kernel
  have hf16 := hts (.fieldLink RX0 16 "Corebarn" "trussNeighbours" "[I") (by decide +kernel)
  have hf19 := hts (.fieldLink RX0 19 "Corebarn" "nodeCount" "I") (by decide +kernel)
  have hl := lv_entry ([.ref h, .int k]) (n := 4) (Nat.le_of_ble_eq_true rfl)
  rw [lg_entry_eq]
  generalize (lg_sl ([.ref h, .int k]) ++ List.replicate (4 - (lg_sl ([.ref h, .int k])).length) Slot.unset).toArray = ls at hl ⊢
  have hl : lv_has ls 4 [(0, .ref h), (1, .int k)] := hl
  refine lv_iload_n hx hb dX0_trussSize_0 rfl (lv_at hl 1 rfl) ?_
  refine lv_iconst (v := (nI 2)) hx hb dX0_trussSize_1 (by decide) ?_
  refine lv_icmp_ge (tgt := 15) hx hb dX0_trussSize_2 (by decide) (fun h2 => ?_) (fun h2 => ?_)
  · refine lv_aload_n hx hb dX0_trussSize_15 rfl (lv_at hl 0 rfl) ?_
    refine zwVv (As := []) (rest := []) 0 [0, 1, 2, 3] rfl ⟨hx, hb, hml, hown, hts⟩ (c_X0_startTrusses l D cy h a0 a1 a2 N ec cc f cs tr _ hN) (cwV 0 hts gX0_trussSize_X0_startTrusses rfl rfl rfl (by decide +kernel) ⟨Nat.le_of_ble_eq_true rfl, Nat.le_of_ble_eq_true rfl⟩) hK hP hD hA rfl rfl rfl hl rfl (Nat.le_of_ble_eq_true rfl) dX0_trussSize_16 ⟨Nat.le_of_ble_eq_true rfl, Nat.le_of_ble_eq_true rfl⟩ hS (fun u16 H locs hw16 hP hS => ?_)
    obtain ⟨tr_16, rfl⟩ : ∃ z, z = u16 := ⟨_, rfl⟩
    have hP : va_P D vwCl (wB h a0 a1 a2 cy N ec cc f cs tr_16) H := hP
    have hD : va_D A (wB h a0 a1 a2 cy N ec cc f cs tr_16) := zD hD rfl
    have hw16 : ∀ w, w < N → tr_16 w = f w := hw16
    refine lv_aload_n hx hb dX0_trussSize_19 rfl (lv_at hl 0 rfl) ?_
    refine lv_iload_n hx hb dX0_trussSize_20 rfl (lv_at hl 1 rfl) ?_
    refine zwVv (As := [.int k]) (rest := []) 0 [0, 1, 2, 3] rfl ⟨hx, hb, hml, hown, hts⟩ (c_X0_shrinkToTruss l D cy h a0 a1 a2 N ec cc f cs tr_16 _ k f hg hw16) (cwV 1 hts gX0_trussSize_X0_shrinkToTruss rfl rfl rfl (by decide +kernel) ⟨Nat.le_of_ble_eq_true rfl, Nat.le_of_ble_eq_true rfl⟩) hK hP hD hA rfl rfl rfl hl rfl (Nat.le_of_ble_eq_true rfl) dX0_trussSize_21 ⟨Nat.le_of_ble_eq_true rfl, Nat.le_of_ble_eq_true rfl⟩ hS (fun u21 H locs hw21 hP hS => ?_)
    obtain ⟨tr_21, rfl⟩ : ∃ z, z = u21 := ⟨_, rfl⟩
    have hP : va_P D vwCl (wB h a0 a1 a2 cy N ec cc f cs tr_21) H := hP
    have hD : va_D A (wB h a0 a1 a2 cy N ec cc f cs tr_21) := zD hD rfl
    have hw21 : isTr f N (k - nI 2).toInt tr_21 := hw21
    refine lv_iconst (v := (nI 0)) hx hb dX0_trussSize_24 (by decide) ?_
    refine lv_istore_n (lv' := [(2, .int (nI 0)), (0, .ref h), (1, .int k)]) hx hb dX0_trussSize_25 rfl hl (by decide) rfl (fun ls hl => ?_)
    refine lv_iconst (v := (nI 0)) hx hb dX0_trussSize_26 (by decide) ?_
    refine lv_istore_n (lv' := [(3, .int (nI 0)), (2, .int (nI 0)), (0, .ref h), (1, .int k)]) hx hb dX0_trussSize_27 rfl hl (by decide) rfl (fun ls hl => ?_)
    have K28 : ∀ (fu28 : Nat) (i : Nat) (x : Nat) (H : Heap) (locs : List Loc) (ls : Array Slot), (i ≤ N) → (x = fb_sm (fun u => zpop (tr_21 u)) i) → N - i < fu28 → va_P D vwCl (wB h a0 a1 a2 cy N ec cc f cs tr_21) H → va_S A s.heap H locs → lv_has ls 4 [(3, .int (nI i)), (2, .int (nI x)), (0, .ref h), (1, .int k)] → W p l e (headSpec wsX0_trussSize ({ frames := 4, cells := 0, slots := 0, locals := 88 } : Room)).room s m ([.ref h, .int k] : List Value).toArray below meth c H locs 0 0 (MQ below (va_Qi (fun (r : Int32) (z9 : (Nat → Int32)) => ∃ g, isTr f N (k - nI 2).toInt g ∧ r = nI (tE g N / 2)) (fun (z9 : (Nat → Int32)) t => va_P D vwCl (wB h a0 a1 a2 cy N ec cc f cs z9) t.heap) A) ([.ref h, .int k] : List Value).toArray s 0 0 A) (F0 m 28 ls []) := by
      intro fu28
      induction fu28 with
      | zero =>
        intro i x H locs ls hi hxe hfu28
        exact absurd hfu28 (Nat.not_lt_zero _)
      | succ fu28 ih28 =>
        intro i x H locs ls hi hxe hfu28 hP hS hl
        have hD : va_D A (wB h a0 a1 a2 cy N ec cc f cs tr_21) := zD hD rfl
        have hxb : fb_sm (fun u => zpop (tr_21 u)) i ≤ i * 32 := fb_sm_bound fun k _ => pop_32 _
        refine lv_iload_n hx hb dX0_trussSize_28 rfl (lv_at hl 0 rfl) ?_
        refine lv_aload_n hx hb dX0_trussSize_29 rfl (lv_at hl 2 rfl) ?_
        refine va_get (D := D) (ci := 0) (v := .int (nI N)) (C := RX0) (T := TX0) (N := 6) hx hb hts hin hown hK hP 0 rfl rfl 3 (by decide) hf19 (fun _ h9 => h9) rfl dX0_trussSize_30 ?_
        refine z_icmp_ge (tgt := 54) hx hb dX0_trussSize_33 (by decide) (by omega) (by omega) (fun h33 => ?_) (fun h33 => ?_)
        · refine lv_iload_n hx hb dX0_trussSize_54 rfl (lv_at hl 1 rfl) ?_
          refine lv_iconst (v := (nI 2)) hx hb dX0_trussSize_55 (by decide) ?_
          refine z_idiv hx hb dX0_trussSize_56 (by omega) (by omega) (by omega) ?_
          exact W.iret (v := (nI (x / 2))) hx hb hr (fun t9 ht9 hW9 => ⟨⟨(nI (x / 2)), tr_21, rfl, ⟨tr_21, hw21, by rw [hxe, Nat.le_antisymm hi h33]; rfl⟩, by show va_P D vwCl (wB h a0 a1 a2 cy N ec cc f cs tr_21) t9.heap; rw [ht9]; exact hP⟩, hS.F ht9⟩) hS.2.2 dX0_trussSize_57
        · refine lv_iload_n hx hb dX0_trussSize_36 rfl (lv_at hl 1 rfl) ?_
          refine lv_aload_n hx hb dX0_trussSize_37 rfl (lv_at hl 2 rfl) ?_
          refine va_get (D := D) (ci := 0) (v := .ref a2) (C := RX0) (T := TX0) (N := 6) hx hb hts hin hown hK hP 0 rfl rfl 2 (by decide) hf16 (fun _ h9 => h9) rfl dX0_trussSize_38 ?_
          refine lv_iload_n hx hb dX0_trussSize_41 rfl (lv_at hl 0 rfl) ?_
          refine z_iald hx hb hK hP 3 0 rfl rfl (by omega) (by decide) dX0_trussSize_42 ?_
          refine zrS0 (As := [.int (tr_21 i)]) (rest := [.int (nI x)]) ⟨hx, hb, hml, hown, hts⟩ (c_X0_size l (tr_21 i)) (va_cwS 1 hts gX0_trussSize_X0_size rfl rfl rfl (by decide +kernel) ⟨Nat.le_of_ble_eq_true rfl, Nat.le_of_ble_eq_true rfl⟩) rfl hl rfl (Nat.le_of_ble_eq_true rfl) dX0_trussSize_43 ⟨Nat.le_of_ble_eq_true rfl, Nat.le_of_ble_eq_true rfl⟩ hS (fun r43 H locs hw43 hk9 hS => ?_)
          obtain rfl : r43 = (nI (zpop (tr_21 i))) := hw43
          have hP := zkeep hP hk9
          refine z_iadd hx hb dX0_trussSize_46 ?_
          refine lv_istore_n (lv' := [(2, .int (nI (x + (zpop (tr_21 i))))), (3, .int (nI i)), (0, .ref h), (1, .int k)]) hx hb dX0_trussSize_47 rfl hl (by decide) rfl (fun ls hl => ?_)
          refine lv_iinc (v := (nI (i + 1))) (lv' := [(3, .int (nI (i + 1))), (2, .int (nI (x + (zpop (tr_21 i))))), (0, .ref h), (1, .int k)]) hx hb dX0_trussSize_48 hl (k := 1) rfl (nI_1 _) (by decide) rfl (fun ls hl => ?_)
          refine lv_goto (tgt := 28) hx hb dX0_trussSize_51 (by decide) ?_
          exact ih28 (i + 1) (x + (zpop (tr_21 i))) _ _ _ (by omega) (by rw [hxe, fb_sm_succ]) (by omega) hP hS (lv_sub hl [0, 1, 2, 3] rfl)
    exact K28 (N - 0 + 1) 0 0 _ _ _ (by omega) rfl (Nat.lt_succ_self _) hP hS (lv_sub hl [0, 1, 2, 3] rfl)
  · exact absurd (Int32.not_le.mp h2) hk
set_option maxHeartbeats 4000000 in
set_option maxRecDepth 100000 in
theorem c_X0_density (l : Launch) (D : va_G) (cy : ClassId) (h a0 a1 a2 N : Nat) (ec cc : Int32) (f cs tr : Nat → Int32) (hN : N ≤ 20) (hg : gd f N) (hec : ec = nI (ewn f N (zal N))) : Met l yX0_density wsX0_density ({ frames := 4, cells := 0, slots := 0, locals := 90 } : Room) (va_Pc [.ref h] (zRd D (wB h a0 a1 a2 cy N ec cc f cs tr) [(cy, .int)])) (va_Qd (fun (r : UInt64) (_ : Unit) => r = dnv f N) (fun _ _ => True) (fun _ => False)) 0 0 zNo := by
  refine Met.ofW (cc := cX0_density) (maxL := 2) (ret := (some .double)) (by decide) rfl ?_
  intro p e s m args below meth c s₁ B hml hv
  obtain ⟨rfl, hP, hK⟩ := hv
  have hx := B.exec
  have hb := B.bytes
  have hr := B.returns
  have hts := atoms_spec (ws := wsX0_density) B.pre
  have hown : s.vm.findClass RX0 = some m.cls := findClass_of_methodNamed B.named
  have hlocks := B.notSynchronized
  have hS : va_S (fun _ => False) s.heap s.heap [] := va_S.rf
  have hl := lv_entry ([.ref h]) (n := 2) (Nat.le_of_ble_eq_true rfl)
  rw [lg_entry_eq]
  generalize (lg_sl ([.ref h]) ++ List.replicate (2 - (lg_sl ([.ref h])).length) Slot.unset).toArray = ls at hl ⊢
  have hl : lv_has ls 2 [(0, .ref h)] := hl
  refine lv_aload_n hx hb dX0_density_0 rfl (lv_at hl 0 rfl) ?_
  refine zrV (As := []) (rest := []) 0 ⟨hx, hb, hml, hown, hts⟩ (c_X0_denseSet l D cy h a0 a1 a2 N ec cc f cs tr hN hec) (cwV 0 hts gX0_density_X0_denseSet rfl rfl rfl (by decide +kernel) ⟨Nat.le_of_ble_eq_true rfl, Nat.le_of_ble_eq_true rfl⟩) hK hP rfl rfl rfl hl rfl (Nat.le_of_ble_eq_true rfl) dX0_density_1 ⟨Nat.le_of_ble_eq_true rfl, Nat.le_of_ble_eq_true rfl⟩ hS (fun r1 H locs hw1 hk9 hS => ?_)
  obtain rfl : r1 = (dsk f N (N - 1)).2.1 := hw1
  have hP := zkeep hP hk9
  refine lv_istore_n (lv' := [(1, .int ((dsk f N (N - 1)).2.1)), (0, .ref h)]) hx hb dX0_density_4 rfl hl (by decide) rfl (fun ls hl => ?_)
  refine lv_iload_n hx hb dX0_density_5 rfl (lv_at hl 0 rfl) ?_
  refine lv_if_ne (tgt := 11) hx hb dX0_density_6 (by decide) (fun h6 => ?_) (fun h6 => ?_)
  · have hN0 : N ≠ 0 := fun e => h6 (by rw [e]; rfl)
    have hde := (dsk_sub hN (N - 1) (f := f)).2.2
    refine lv_aload_n hx hb dX0_density_11 rfl (lv_at hl 1 rfl) ?_
    refine lv_iload_n hx hb dX0_density_12 rfl (lv_at hl 0 rfl) ?_
    refine zrV (As := [.int ((dsk f N (N - 1)).2.1)]) (rest := []) 0 ⟨hx, hb, hml, hown, hts⟩ (c_X0_edgesWithin l D cy h a0 a1 a2 N ec cc f cs tr ((dsk f N (N - 1)).2.1) hN) (cwV 1 hts gX0_density_X0_edgesWithin rfl rfl rfl (by decide +kernel) ⟨Nat.le_of_ble_eq_true rfl, Nat.le_of_ble_eq_true rfl⟩) hK hP rfl rfl rfl hl rfl (Nat.le_of_ble_eq_true rfl) dX0_density_13 ⟨Nat.le_of_ble_eq_true rfl, Nat.le_of_ble_eq_true rfl⟩ hS (fun r13 H locs hw13 hk9 hS => ?_)
    obtain rfl : r13 = (nI (ewn f N ((dsk f N (N - 1)).2.1))) := hw13
    have hP := zkeep hP hk9
    refine lv_i2d hx hb dX0_density_16 ?_
    refine lv_iload_n hx hb dX0_density_17 rfl (lv_at hl 0 rfl) ?_
    refine zrS0 (As := [.int ((dsk f N (N - 1)).2.1)]) (rest := [.double (FP.i2d (nI (ewn f N ((dsk f N (N - 1)).2.1))))]) ⟨hx, hb, hml, hown, hts⟩ (c_X0_size l ((dsk f N (N - 1)).2.1)) (va_cwS 1 hts gX0_density_X0_size rfl rfl rfl (by decide +kernel) ⟨Nat.le_of_ble_eq_true rfl, Nat.le_of_ble_eq_true rfl⟩) rfl hl rfl (Nat.le_of_ble_eq_true rfl) dX0_density_18 ⟨Nat.le_of_ble_eq_true rfl, Nat.le_of_ble_eq_true rfl⟩ hS (fun r18 H locs hw18 hk9 hS => ?_)
    obtain rfl : r18 = (nI (zpop ((dsk f N (N - 1)).2.1))) := hw18
    have hP := zkeep hP hk9
    refine lv_i2d hx hb dX0_density_21 ?_
    refine lv_ddiv hx hb dX0_density_22 (ddc_n (by rw [← hde]; exact dn_b hg hN0)) ?_
    exact W.dret hx hb hr (fun t9 ht9 hW9 => ⟨⟨(FP.ddiv (FP.i2d (nI (ewn f N ((dsk f N (N - 1)).2.1)))) (FP.i2d (nI (zpop ((dsk f N (N - 1)).2.1))))), (), rfl, (by unfold dnv ddq; rw [if_neg hN0, hde]), trivial⟩, hS.F ht9⟩) hS.2.2 dX0_density_23
  · have hN0 : N = 0 := Nat.eq_zero_of_not_pos (fun q => by have z := dsk_pos hg (N - 1) (by omega); rw [h6, pop_0] at z; omega)
    refine lv_dconst0 hx hb dX0_density_9 ?_
    exact W.dret hx hb hr (fun t9 ht9 hW9 => ⟨⟨FP.dconst0, (), rfl, (by unfold dnv; rw [if_pos hN0]), trivial⟩, hS.F ht9⟩) hS.2.2 dX0_density_10
end
section
/-! ===== methods that throw ===== -/
abbrev nISE : String := "java/lang/IllegalStateException"
abbrev nIAE : String := "java/lang/IllegalArgumentException"
abbrev nIOB : String := "java/lang/IndexOutOfBoundsException"
abbrev nNSE : String := "java/util/NoSuchElementException"
def zStr : List (Nat × String) := [(31, "there are 20 nodes"), (44, "there is such an edge"), (69, "the node has not so many edges"), (97, "the nodes belong to the same community at no level"), (107, "there is no such place"), (132, "k is less than 2"), (135, "there is no such node"), (137, "both nodes are the same"), (139, "there is no such edge"), (141, "k is negative")]
/-- what a throw wants of the state -/
def zTh (U : State) : Prop := (∀ X ∈ ["java/lang/RuntimeException", "java/lang/Exception", Bundle.tN], va_Nw (.declares (Bundle.initS X)) U) ∧ (∀ X ∈ [nISE, nIAE, nIOB, nNSE], va_Nw (.castable X X) U) ∧ (∀ X ∈ [nISE, nIAE, nIOB, nNSE], ∀ Y ∈ [nISE, nIAE, nIOB, nNSE], X ≠ Y → va_Nc X Y U) ∧
  vx_Zq Bundle.tN "UNASSIGNED_STACK" Bundle.steD (fun _ => False) U U.heap ∧ vx_Zq Bundle.tN "SUPPRESSED_SENTINEL" Bundle.listD (fun _ => False) U U.heap ∧ ∀ q ∈ zStr, ∃ a, vk_R RX0 q.1 q.2 a U
theorem zTh.move {s U : State} (hW : s.WarmedH U.vm) (hk : zKp s.heap U.heap) (h : zTh s) : zTh U := by
  obtain ⟨h1, h2, h3, h4, h5, h6⟩ := h
  refine ⟨fun X hX => va_Nw.warmD hW (h1 X hX), fun X hX => va_Nw.warmC hW (h2 X hX), fun X hX Y hY hn => va_Nc.moved hW.alike (h3 X hX Y hY hn), (vx_Zq.moved hW.alike h4).kept (fun a ha _ => hk.2 a ha), (vx_Zq.moved hW.alike h5).kept (fun a ha _ => hk.2 a ha), fun q hq => ?_⟩
  obtain ⟨a, ha⟩ := h6 q hq
  exact ⟨a, vk_R.warm hW ha⟩
theorem zTh.same {s U : State} (hv : U.vm = s.vm) (hk : U.heap = s.heap) (h : zTh s) : zTh U := by
  obtain ⟨h1, h2, h3, h4, h5, h6⟩ := h
  have ha : s.vm.Alike U.vm := by rw [hv]; exact Vm.Alike.refl _
  refine ⟨fun X hX => va_Nw.same rfl hv.symm (h1 X hX), fun X hX => va_Nw.same rfl hv.symm (h2 X hX), fun X hX Y hY hn => va_Nc.moved ha (h3 X hX Y hY hn), by rw [hk]; exact vx_Zq.moved ha h4, by rw [hk]; exact vx_Zq.moved ha h5, fun q hq => ?_⟩
  obtain ⟨a, ha⟩ := h6 q hq
  exact ⟨a, vk_R.same hv ha⟩
abbrev zNm : List String := ["java/lang/RuntimeException", "java/lang/Exception"]
/-- throws E, changes nothing -/
abbrev zXc (E : String) : String → State → State → Prop := vx_X (fun (_ : Unit) => True) (fun E2 _ _ => E2 = E) (fun _ => False)
abbrev zNi : Array Value → State → Outcome → State → Prop := va_Qi (fun _ (_ : Unit) => False) (fun _ _ => True) (fun _ => False)
abbrev zNv : Array Value → State → Outcome → State → Prop := va_Qv (fun (_ : Unit) => False) (fun _ _ => True) (fun _ => False)
theorem zhat {ic : Nat} {X : String} {args : Array Value} {s : State} (hX : X ∈ [nISE, nIAE, nIOB, nNSE]) (h1 : ∀ w ∈ (vx_atS RX0 ic X zNm).filter goodWord, w.before args s = true) (h2 : ∀ w ∈ (vx_atS RX0 ic X zNm).filter (fun w => !goodWord w), w ∈ [Cond.declares (Bundle.initS "java/lang/RuntimeException"), .declares (Bundle.initS "java/lang/Exception"), .declares (Bundle.initS Bundle.tN), .castable X X]) (hT : zTh s) : ∀ w ∈ vx_atS RX0 ic X zNm, w.before args s = true :=
  vx_hat h1 h2 (vx_c (va_Nw.use rfl (hT.1 _ (by simp))) (vx_c (va_Nw.use rfl (hT.1 _ (by simp))) (vx_c (va_Nw.use rfl (hT.1 _ (by simp))) (vx_c (va_Nw.use rfl (hT.2.1 X hX)) vx_n))))
section ZX
variable {p : Program} {l : Launch} {e : Env} {R : Room} {s : State} {m : MethodId} {args : Array Value} {below : List Frame} {meth : Method} {c : Code} {H : Heap} {locs : List Loc} {cells slots : Nat} {Q : State → Prop}
variable {cc : ByteArray} {pc : Nat} {ls : Array Slot} {rest st0 : List Value} {y : MethodName} {bytes : ByteArray} {maxL nL n index : Nat} {ret : Option FieldType} {ws Ts : List Cond} {rm : Room} {own C : String} {As : List Value} {lv : List (Nat × Value)} {Qc : Array Value → State → Outcome → State → Prop}
theorem zXk {E : String} {t : State} (hS : va_S (fun _ => False) s.heap H locs) (hz : H.size ≤ t.heap.size) (hk : ∀ q : Nat, q < H.size → t.heap[q]? = H[q]?) : zXc E E s t :=
  ⟨(), trivial, rfl, Nat.le_trans hS.1 hz, fun q h1 h2 => (hk q (Nat.lt_of_lt_of_le h1 hS.1)).trans (hS.2.1 q h1 h2)⟩
/-- throw new X(text) -/
theorem zthrow {X text : String} {ik is ic : Nat} (hx : p.tables.exec = Jvm.exec) (hb : c.code = cc) (hfl : l.stackTraces = false) (hown : s.vm.findClass RX0 = some m.cls) (hX : X ∈ [nISE, nIAE, nIOB, nNSE]) (hfit : Bundle.fit X = true) (hq : (is, text) ∈ zStr)
    (hk : (Cond.classLink RX0 ik X).before args s = true) (hini : (Cond.initialized X).before args s = true) (h1 : ∀ w ∈ (vx_atS RX0 ic X zNm).filter goodWord, w.before args s = true) (h2 : ∀ w ∈ (vx_atS RX0 ic X zNm).filter (fun w => !goodWord w), w ∈ [Cond.declares (Bundle.initS "java/lang/RuntimeException"), .declares (Bundle.initS "java/lang/Exception"), .declares (Bundle.initS Bundle.tN), .castable X X])
    (hgood : ∀ w ∈ Cond.classLink RX0 ik X :: Cond.initialized X :: vx_atS RX0 ic X zNm, vx_ot w = true) (hT : zTh s) (hS : va_S (fun _ => False) s.heap H locs) (hsize : ls.size = c.maxLocals)
    (d0 : decode cc pc = .ok (.new ik, 3)) (d3 : decode cc (pc + 3) = .ok (.dup, 1)) (d4 : decode cc (pc + 4) = .ok (.ldc is, 2)) (d6 : decode cc (pc + 6) = .ok (.invokespecial ic, 3)) (d9 : decode cc (pc + 9) = .ok (.athrow, 1))
    (hto : ∀ x ∈ c.exceptionTable.toList, False) (hRf : 6 ≤ R.frames) (hRl : (rest.map fun v => v.category).sum + 82 ≤ R.locals) (hRc : 0 + 1 ≤ R.cells) (hRs : 0 + 6 ≤ R.slots) (hlocks : meth.locks = false) :
    W p l e R s m args below meth c H locs 0 0 (vx_MQ below Qc (zXc X) args s 1 6 zNo) (F0 m pc ls rest) := by
  obtain ⟨a, ha⟩ := hT.2.2.2.2.2 (is, text) hq
  exact vx_throwS (names := zNm) hx hb hfl hown hfit (by decide +kernel) hk hini ha (zhat hX h1 h2 hT) hgood hT.2.2.2.1 hT.2.2.2.2.1 hS hsize d0 d3 d4 d6 d9 (fun x hx => (hto x hx).elim) hRf hRl hRc hRs hlocks (fun t _ hz hk => zXk hS hz hk) (fun z hz => hS.2.2 z hz) (Nat.le_refl _) (Nat.le_refl _)
/-- throw new NoSuchElementException(text) -/
theorem zthrowN {text : String} {is : Nat} (hx : p.tables.exec = Jvm.exec) (hb : c.code = cc) (hfl : l.stackTraces = false) (hown : s.vm.findClass RX0 = some m.cls) (hq : (is, text) ∈ zStr)
    (hk : (Cond.classLink RX0 95 nNSE).before args s = true) (hini : (Cond.initialized nNSE).before args s = true) (h1 : ∀ w ∈ zat99.filter goodWord, w.before args s = true) (h2 : ∀ w ∈ zat99.filter (fun w => !goodWord w), w ∈ [Cond.declares (Bundle.initS "java/lang/RuntimeException"), .declares (Bundle.initS "java/lang/Exception"), .declares (Bundle.initS Bundle.tN), .castable nNSE nNSE])
    (hgood : ∀ w ∈ Cond.classLink RX0 95 nNSE :: Cond.initialized nNSE :: zat99, vx_ot w = true) (hT : zTh s) (hS : va_S (fun _ => False) s.heap H locs) (hsize : ls.size = c.maxLocals)
    (d0 : decode cc pc = .ok (.new 95, 3)) (d3 : decode cc (pc + 3) = .ok (.dup, 1)) (d4 : decode cc (pc + 4) = .ok (.ldc is, 2)) (d6 : decode cc (pc + 6) = .ok (.invokespecial 99, 3)) (d9 : decode cc (pc + 9) = .ok (.athrow, 1))
    (hto : ∀ x ∈ c.exceptionTable.toList, False) (hRf : 6 ≤ R.frames) (hRl : (rest.map fun v => v.category).sum + 82 ≤ R.locals) (hRc : 0 + 1 ≤ R.cells) (hRs : 0 + 6 ≤ R.slots) (hlocks : meth.locks = false) :
    W p l e R s m args below meth c H locs 0 0 (vx_MQ below Qc (zXc nNSE) args s 1 6 zNo) (F0 m pc ls rest) := by
  obtain ⟨a, ha⟩ := hT.2.2.2.2.2 (is, text) hq
  have hat : ∀ w ∈ zat99, w.before args s = true := vx_hat h1 h2 (vx_c (va_Nw.use rfl (hT.1 _ (by simp))) (vx_c (va_Nw.use rfl (hT.1 _ (by simp))) (vx_c (va_Nw.use rfl (hT.1 _ (by simp))) (vx_c (va_Nw.use rfl (hT.2.1 nNSE (by simp))) vx_n))))
  exact zthrowX (names := zNm) hx hb hfl zrx_0 zrx_1 zrx_2 zrx_5 hown (by decide +kernel) (by decide +kernel) hk hini ha hat hgood hT.2.2.2.1 hT.2.2.2.2.1 hS hsize d0 d3 d4 d6 d9 (fun x hx => (hto x hx).elim) hRf hRl hRc hRs hlocks (fun t _ hz hk => zXk hS hz hk) (fun z hz => hS.2.2 z hz) (Nat.le_refl _) (Nat.le_refl _)
/-- what is thrown below goes on -/
theorem zxout {E E2 : String} {ce : Cell} {q9 : Addr} (hto : ∀ x ∈ c.exceptionTable.toList, False) (hlocks : meth.locks = false) (he : E2 = E) (hS : va_S (fun _ => False) s.heap H locs) (hce : H[q9]? = some ce) (hcv : ce.vm = .none) (hcl : s.vm.findClass E2 = some ce.cls) : vx_W p l e R s m args below meth c H locs 1 6 (vx_MQ below Qc (zXc E) args s 1 6 zNo) (F0 m pc ls rest) q9 := by
  subst he
  exact vx_out (fun x hx => (hto x hx).elim) hlocks hce hcv hcl (fun t ht _ => zXk hS (by rw [ht]; exact Nat.le_refl _) (fun q _ => by rw [ht])) (fun z hz => hS.2.2 z hz) (Nat.le_refl _) (Nat.le_refl _)
/-- a call by name of what throws -/
theorem zxV {E : String} {D : va_G} {w : va_W} {tys : List (ClassId × FieldType)} {b ci : Nat} {T : u_T} {N0 : Nat} {fs : List Value} (q0 : Nat) (cf : CallFix p m c cc nL s args Ts own) (hM : vx_Met l y ws rm (va_Pc (.ref b :: As) (fun U => zRd D w tys U ∧ zTh U)) zNv (zXc E) 1 6 zNo) (cw : CallW R s args own C index y bytes maxL ret ws rm 1 6 n) (hK : va_K D vwCl tys s) (hP : va_P D vwCl w H) (hT : zTh s) (he : w[q0]? = some (b, .inr (ci, fs))) (hc : vwCl[ci]? = some (C, T, N0)) (hn : As.length = n) (hl : lv_has ls nL lv) (hst : st0 = As.reverse ++ .ref b :: rest) (hrm : (rest.map fun v => v.category).sum ≤ 8) (hdg : decode cc pc = .ok (.invokevirtual index, 3)) (hf : 0 + 1 ≤ R.cells ∧ 0 + 6 ≤ R.slots) (hS : va_S (fun _ => False) s.heap H locs) (hto : ∀ x ∈ c.exceptionTable.toList, False) (hlocks : meth.locks = false) :
    W p l e R s m args below meth c H locs 0 0 (vx_MQ below Qc (zXc E) args s 1 6 zNo) (F0 m pc ls st0) := by
  subst hst
  exact vx_callv (vx_runV cf hM cw ⟨fun a U g mk q => ⟨q.1, ⟨q.2.1.1, va_K.moved (u := U) (U := U.calling g mk a) (Vm.Alike.refl U.vm) q.2.1.2⟩, q.2.2.same rfl rfl⟩, va_recv hK hP hc he, fun U hU hW => ⟨rfl, ⟨by rw [hU]; exact hP, va_K.moved hW.alike hK⟩, hT.move hW ⟨by rw [hU]; exact hS.1, fun q h => by rw [hU]; exact hS.2.1 q h (fun z => z)⟩⟩⟩ rfl hn hl.1 rfl (lv_room hrm) hdg hf) hS (fun _ _ h => h.elim) (fun _ h => h.elim) (fun _ _ h => h.elim)
    (fun E2 ce q9 u t H1 locs1 ht hvm hp hB hz hk hS1 hce hcv hcl => zxout hto hlocks hB hS1 hce hcv hcl) (fun u t H1 locs1 ht hvm hw hB hz hk hS1 => hw.elim)
end ZX
theorem zh2_134 : ∀ w ∈ (vx_atS RX0 134 nIAE zNm).filter (fun w => !goodWord w), w ∈ [Cond.declares (Bundle.initS "java/lang/RuntimeException"), .declares (Bundle.initS "java/lang/Exception"), .declares (Bundle.initS Bundle.tN), .castable nIAE nIAE] := by decide +kernel
theorem zh2_99 : ∀ w ∈ zat99.filter (fun w => !goodWord w), w ∈ [Cond.declares (Bundle.initS "java/lang/RuntimeException"), .declares (Bundle.initS "java/lang/Exception"), .declares (Bundle.initS Bundle.tN), .castable nNSE nNSE] := by decide +kernel
theorem zg_134 : ∀ w ∈ Cond.classLink RX0 130 nIAE :: Cond.initialized nIAE :: vx_atS RX0 134 nIAE zNm, vx_ot w = true := by decide +kernel
theorem zg_99 : ∀ w ∈ Cond.classLink RX0 95 nNSE :: Cond.initialized nNSE :: zat99, vx_ot w = true := by decide +kernel
end
section
theorem tgk_ne {f : Nat → Int32} {c : Nat → Nat} {N u v m : Nat} (hb : bt (cmp f (cst c N m) u) v = true) : ∀ K : Nat, m < K → tgk f c N u v K ≠ 0
  | 0, h => absurd h (Nat.not_lt_zero m)
  | K + 1, h => by
    by_cases e : bt (cmp f (cst c N K) u) v = true
    · rw [tgk_yes e]; exact Nat.succ_ne_zero K
    · have e2 : bt (cmp f (cst c N K) u) v = false := by cases q : bt (cmp f (cst c N K) u) v; rfl; exact absurd q e
      rw [tgk_no e2]
      refine tgk_ne hb K ?_
      rcases Nat.lt_or_ge m K with q | q
      · exact q
      · exact absurd (show K = m by omega) (fun z => e (z ▸ hb))
set_option maxHeartbeats 4000000 in
set_option maxRecDepth 100000 in
theorem c_X0_checkPair_same (l : Launch) (hfl : l.stackTraces = false) (D : va_G) (cy : ClassId) (h a0 a1 a2 N : Nat) (ec cc : Int32) (f cs tr : Nat → Int32) (u : Nat) (hN : N ≤ 20) (hu : u < N) : vx_Met l yX0_checkPair wsX0_checkPair ({ frames := 7, cells := 1, slots := 6, locals := 103 } : Room) (va_Pc [.ref h, .int (nI u), .int (nI u)] (fun U => zRd D (wB h a0 a1 a2 cy N ec cc f cs tr) [(cy, .int)] U ∧ zTh U)) zNv (zXc nIAE) 1 6 zNo := by
  refine vx_ofW (cc := cX0_checkPair) (maxL := 3) (ret := none) (by decide) rfl ?_
  intro p e s m args below meth c s₁ B hml hto hv
  obtain ⟨rfl, ⟨hP, hK⟩, hT⟩ := hv
  have hx := B.exec
  have hb := B.bytes
  have hr := B.returns
  have hts := atoms_spec (ws := wsX0_checkPair) B.pre
  have hown : s.vm.findClass RX0 = some m.cls := findClass_of_methodNamed B.named
  have hlocks := B.notSynchronized
  have hS : va_S (fun _ => False) s.heap s.heap [] := va_S.rf
  have hl := lv_entry ([.ref h, .int (nI u), .int (nI u)]) (n := 3) (Nat.le_of_ble_eq_true rfl)
  rw [lg_entry_eq]
  generalize (lg_sl ([.ref h, .int (nI u), .int (nI u)]) ++ List.replicate (3 - (lg_sl ([.ref h, .int (nI u), .int (nI u)])).length) Slot.unset).toArray = ls at hl ⊢
  have hl : lv_has ls 3 [(0, .ref h), (1, .int (nI u)), (2, .int (nI u))] := hl
  refine lv_aload_n hx hb dX0_checkPair_0 rfl (lv_at hl 0 rfl) ?_
  refine lv_iload_n hx hb dX0_checkPair_1 rfl (lv_at hl 1 rfl) ?_
  refine zrVv (As := [.int (nI u)]) (rest := []) 0 ⟨hx, hb, hml, hown, hts⟩ (c_X0_checkNode_ok l D cy h a0 a1 a2 N ec cc f cs tr u hN hu) (cwV 1 hts gX0_checkPair_X0_checkNode rfl rfl rfl (by decide +kernel) ⟨Nat.le_of_ble_eq_true rfl, Nat.le_of_ble_eq_true rfl⟩) hK hP rfl rfl rfl hl rfl (Nat.le_of_ble_eq_true rfl) dX0_checkPair_2 ⟨Nat.le_of_ble_eq_true rfl, Nat.le_of_ble_eq_true rfl⟩ hS (fun H locs hw2 hk9 hS => ?_)
  have hP := zkeep hP hk9
  refine lv_aload_n hx hb dX0_checkPair_5 rfl (lv_at hl 0 rfl) ?_
  refine lv_iload_n hx hb dX0_checkPair_6 rfl (lv_at hl 2 rfl) ?_
  refine zrVv (As := [.int (nI u)]) (rest := []) 0 ⟨hx, hb, hml, hown, hts⟩ (c_X0_checkNode_ok l D cy h a0 a1 a2 N ec cc f cs tr u hN hu) (cwV 1 hts gX0_checkPair_X0_checkNode rfl rfl rfl (by decide +kernel) ⟨Nat.le_of_ble_eq_true rfl, Nat.le_of_ble_eq_true rfl⟩) hK hP rfl rfl rfl hl rfl (Nat.le_of_ble_eq_true rfl) dX0_checkPair_7 ⟨Nat.le_of_ble_eq_true rfl, Nat.le_of_ble_eq_true rfl⟩ hS (fun H locs hw7 hk9 hS => ?_)
  have hP := zkeep hP hk9
  refine lv_iload_n hx hb dX0_checkPair_10 rfl (lv_at hl 1 rfl) ?_
  refine lv_iload_n hx hb dX0_checkPair_11 rfl (lv_at hl 2 rfl) ?_
  refine z_icmp_ne (tgt := 25) hx hb dX0_checkPair_12 (by decide) (by omega) (by omega) (fun h12 => ?_) (fun h12 => ?_)
  · exact absurd rfl h12
  · exact zthrow (cc := cX0_checkPair) (rest := []) (text := "both nodes are the same") (ik := 130) (is := 137) (ic := 134) hx hb hfl hown (by simp) (by decide +kernel) (by decide +kernel) (hts (.classLink RX0 130 nIAE) (by decide +kernel)) (hts (.initialized nIAE) (by decide +kernel)) (fun w h => hts w (List.mem_cons_of_mem _ (List.mem_append_left _ (List.mem_append_right _ h)))) zh2_134 zg_134 hT hS (by rw [hml]; exact hl.1) dX0_checkPair_15 dX0_checkPair_18 dX0_checkPair_19 dX0_checkPair_21 dX0_checkPair_24 hto (Nat.le_of_ble_eq_true rfl) (Nat.le_of_ble_eq_true rfl) (Nat.le_of_ble_eq_true rfl) (Nat.le_of_ble_eq_true rfl) hlocks
set_option maxHeartbeats 4000000 in
set_option maxRecDepth 100000 in
theorem c_X0_checkEdge_none (l : Launch) (hfl : l.stackTraces = false) (D : va_G) (cy : ClassId) (h a0 a1 a2 N : Nat) (ec cc : Int32) (f cs tr : Nat → Int32) (u v : Nat) (hN : N ≤ 20) (hu : u < N) (hv : v < N) (he : bt (f u) v = false) : vx_Met l yX0_checkEdge wsX0_checkEdge ({ frames := 6, cells := 1, slots := 6, locals := 82 } : Room) (va_Pc [.ref h, .int (nI u), .int (nI v)] (fun U => zRd D (wB h a0 a1 a2 cy N ec cc f cs tr) [(cy, .int)] U ∧ zTh U)) zNv (zXc nNSE) 1 6 zNo := by
  refine vx_ofW (cc := cX0_checkEdge) (maxL := 3) (ret := none) (by decide) rfl ?_
  intro p e s m args below meth c s₁ B hml hto hv
  obtain ⟨rfl, ⟨hP, hK⟩, hT⟩ := hv
  have hx := B.exec
  have hb := B.bytes
  have hr := B.returns
  have hts := atoms_spec (ws := wsX0_checkEdge) B.pre
  have hown : s.vm.findClass RX0 = some m.cls := findClass_of_methodNamed B.named
  have hlocks := B.notSynchronized
  have hS : va_S (fun _ => False) s.heap s.heap [] := va_S.rf
  have hin : ∀ w ∈ wsX00, w ∈ wsX0_checkEdge := by decide +kernel
  have hf9 := hts (.fieldLink RX0 9 "Corebarn" "neighbours" "[I") (by decide +kernel)
  have hl := lv_entry ([.ref h, .int (nI u), .int (nI v)]) (n := 3) (Nat.le_of_ble_eq_true rfl)
  rw [lg_entry_eq]
  generalize (lg_sl ([.ref h, .int (nI u), .int (nI v)]) ++ List.replicate (3 - (lg_sl ([.ref h, .int (nI u), .int (nI v)])).length) Slot.unset).toArray = ls at hl ⊢
  have hl : lv_has ls 3 [(0, .ref h), (1, .int (nI u)), (2, .int (nI v))] := hl
  refine lv_aload_n hx hb dX0_checkEdge_0 rfl (lv_at hl 0 rfl) ?_
  refine va_get (D := D) (ci := 0) (v := .ref a0) (C := RX0) (T := TX0) (N := 6) hx hb hts hin hown hK hP 0 rfl rfl 0 (by decide) hf9 (fun _ h9 => h9) rfl dX0_checkEdge_1 ?_
  refine lv_iload_n hx hb dX0_checkEdge_4 rfl (lv_at hl 1 rfl) ?_
  refine z_iald hx hb hK hP 1 0 rfl rfl (by omega) (by decide) dX0_checkEdge_5 ?_
  refine lv_iload_n hx hb dX0_checkEdge_6 rfl (lv_at hl 2 rfl) ?_
  refine zrS0 (As := [.int (f u), .int (nI v)]) (rest := []) ⟨hx, hb, hml, hown, hts⟩ (c_X0_contains l (f u) v (by omega)) (va_cwS 2 hts gX0_checkEdge_X0_contains rfl rfl rfl (by decide +kernel) ⟨Nat.le_of_ble_eq_true rfl, Nat.le_of_ble_eq_true rfl⟩) rfl hl rfl (Nat.le_of_ble_eq_true rfl) dX0_checkEdge_7 ⟨Nat.le_of_ble_eq_true rfl, Nat.le_of_ble_eq_true rfl⟩ hS (fun r7 H locs hw7 hk9 hS => ?_)
  obtain rfl : r7 = (zb (bt (f u) v)) := hw7
  have hP := zkeep hP hk9
  rw [he]
  refine z_ifb_false_ne (tgt := 23) hx hb dX0_checkEdge_10 (by decide) ?_
  exact zthrowN (cc := cX0_checkEdge) (rest := []) (text := "there is no such edge") (is := 139) hx hb hfl hown (by decide +kernel) (hts (.classLink RX0 95 nNSE) (by decide +kernel)) (hts (.initialized nNSE) (by decide +kernel)) (fun w h => hts w (List.mem_cons_of_mem _ (List.mem_append_right _ h))) zh2_99 zg_99 hT hS (by rw [hml]; exact hl.1) dX0_checkEdge_13 dX0_checkEdge_16 dX0_checkEdge_17 dX0_checkEdge_19 dX0_checkEdge_22 hto (Nat.le_of_ble_eq_true rfl) (Nat.le_of_ble_eq_true rfl) (Nat.le_of_ble_eq_true rfl) (Nat.le_of_ble_eq_true rfl) hlocks
set_option maxHeartbeats 4000000 in
set_option maxRecDepth 100000 in
theorem c_X0_truss_none (l : Launch) (hfl : l.stackTraces = false) (D : va_G) (cy : ClassId) (h a0 a1 a2 N : Nat) (ec cc : Int32) (f cs tr : Nat → Int32) (u v : Nat) (hN : N ≤ 20) (hu : u < N) (hv : v < N) (he : bt (f u) v = false) : vx_Met l yX0_truss wsX0_truss ({ frames := 7, cells := 1, slots := 6, locals := 104 } : Room) (va_Pc [.ref h, .int (nI u), .int (nI v)] (fun U => zRd D (wB h a0 a1 a2 cy N ec cc f cs tr) [(cy, .int)] U ∧ zTh U)) zNi (zXc nNSE) 1 6 zNo := by
  refine vx_ofW (cc := cX0_truss) (maxL := 5) (ret := (some .int)) (by decide) rfl ?_
  intro p e s m args below meth c s₁ B hml hto hv
  obtain ⟨rfl, ⟨hP, hK⟩, hT⟩ := hv
  have hx := B.exec
  have hb := B.bytes
  have hr := B.returns
  have hts := atoms_spec (ws := wsX0_truss) B.pre
  have hown : s.vm.findClass RX0 = some m.cls := findClass_of_methodNamed B.named
  have hlocks := B.notSynchronized
  have hS : va_S (fun _ => False) s.heap s.heap [] := va_S.rf
  have hin : ∀ w ∈ wsX00, w ∈ wsX0_truss := by decide +kernel
  have hf16 := hts (.fieldLink RX0 16 "Corebarn" "trussNeighbours" "[I") (by decide +kernel)
  have hl := lv_entry ([.ref h, .int (nI u), .int (nI v)]) (n := 5) (Nat.le_of_ble_eq_true rfl)
  rw [lg_entry_eq]
  generalize (lg_sl ([.ref h, .int (nI u), .int (nI v)]) ++ List.replicate (5 - (lg_sl ([.ref h, .int (nI u), .int (nI v)])).length) Slot.unset).toArray = ls at hl ⊢
  have hl : lv_has ls 5 [(0, .ref h), (1, .int (nI u)), (2, .int (nI v))] := hl
  refine lv_aload_n hx hb dX0_truss_0 rfl (lv_at hl 0 rfl) ?_
  refine lv_iload_n hx hb dX0_truss_1 rfl (lv_at hl 1 rfl) ?_
  refine zrVv (As := [.int (nI u)]) (rest := []) 0 ⟨hx, hb, hml, hown, hts⟩ (c_X0_checkNode_ok l D cy h a0 a1 a2 N ec cc f cs tr u hN hu) (cwV 1 hts gX0_truss_X0_checkNode rfl rfl rfl (by decide +kernel) ⟨Nat.le_of_ble_eq_true rfl, Nat.le_of_ble_eq_true rfl⟩) hK hP rfl rfl rfl hl rfl (Nat.le_of_ble_eq_true rfl) dX0_truss_2 ⟨Nat.le_of_ble_eq_true rfl, Nat.le_of_ble_eq_true rfl⟩ hS (fun H locs hw2 hk9 hS => ?_)
  have hP := zkeep hP hk9
  refine lv_aload_n hx hb dX0_truss_5 rfl (lv_at hl 0 rfl) ?_
  refine lv_iload_n hx hb dX0_truss_6 rfl (lv_at hl 2 rfl) ?_
  refine zrVv (As := [.int (nI v)]) (rest := []) 0 ⟨hx, hb, hml, hown, hts⟩ (c_X0_checkNode_ok l D cy h a0 a1 a2 N ec cc f cs tr v hN hv) (cwV 1 hts gX0_truss_X0_checkNode rfl rfl rfl (by decide +kernel) ⟨Nat.le_of_ble_eq_true rfl, Nat.le_of_ble_eq_true rfl⟩) hK hP rfl rfl rfl hl rfl (Nat.le_of_ble_eq_true rfl) dX0_truss_7 ⟨Nat.le_of_ble_eq_true rfl, Nat.le_of_ble_eq_true rfl⟩ hS (fun H locs hw7 hk9 hS => ?_)
  have hP := zkeep hP hk9
  refine lv_aload_n hx hb dX0_truss_10 rfl (lv_at hl 0 rfl) ?_
  refine lv_iload_n hx hb dX0_truss_11 rfl (lv_at hl 1 rfl) ?_
  refine lv_iload_n hx hb dX0_truss_12 rfl (lv_at hl 2 rfl) ?_
  exact zxV (As := [.int (nI u), .int (nI v)]) (rest := []) 0 ⟨hx, hb, hml, hown, hts⟩ (c_X0_checkEdge_none l hfl D cy h a0 a1 a2 N ec cc f cs tr u v hN hu hv he) (cwV 2 hts gX0_truss_X0_checkEdge rfl rfl rfl (by decide +kernel) ⟨Nat.le_of_ble_eq_true rfl, Nat.le_of_ble_eq_true rfl⟩) hK hP hT rfl rfl rfl hl rfl (Nat.le_of_ble_eq_true rfl) dX0_truss_13 ⟨Nat.le_of_ble_eq_true rfl, Nat.le_of_ble_eq_true rfl⟩ hS hto hlocks
set_option maxHeartbeats 4000000 in
set_option maxRecDepth 100000 in
theorem c_X0_join_same (l : Launch) (hfl : l.stackTraces = false) (D : va_G) (cy : ClassId) (h a0 a1 a2 N : Nat) (ec cc : Int32) (f cs tr : Nat → Int32) (u : Nat) (hN : N ≤ 20) (hu : u < N) : vx_Met l yX0_join wsX0_join ({ frames := 8, cells := 1, slots := 6, locals := 132 } : Room) (va_Pc [.ref h, .int (nI u), .int (nI u)] (fun U => zRd D (wB h a0 a1 a2 cy N ec cc f cs tr) [(cy, .int)] U ∧ zTh U)) zNi (zXc nIAE) 1 6 zNo := by
  refine vx_ofW (cc := cX0_join) (maxL := 3) (ret := (some .int)) (by decide) rfl ?_
  intro p e s m args below meth c s₁ B hml hto hv
  obtain ⟨rfl, ⟨hP, hK⟩, hT⟩ := hv
  have hx := B.exec
  have hb := B.bytes
  have hr := B.returns
  have hts := atoms_spec (ws := wsX0_join) B.pre
  have hown : s.vm.findClass RX0 = some m.cls := findClass_of_methodNamed B.named
  have hlocks := B.notSynchronized
  have hS : va_S (fun _ => False) s.heap s.heap [] := va_S.rf
  have hin : ∀ w ∈ wsX00, w ∈ wsX0_join := by decide +kernel
  have hf9 := hts (.fieldLink RX0 9 "Corebarn" "neighbours" "[I") (by decide +kernel)
  have hf23 := hts (.fieldLink RX0 23 "Corebarn" "edgeCount" "I") (by decide +kernel)
  have hl := lv_entry ([.ref h, .int (nI u), .int (nI u)]) (n := 3) (Nat.le_of_ble_eq_true rfl)
  rw [lg_entry_eq]
  generalize (lg_sl ([.ref h, .int (nI u), .int (nI u)]) ++ List.replicate (3 - (lg_sl ([.ref h, .int (nI u), .int (nI u)])).length) Slot.unset).toArray = ls at hl ⊢
  have hl : lv_has ls 3 [(0, .ref h), (1, .int (nI u)), (2, .int (nI u))] := hl
  refine lv_aload_n hx hb dX0_join_0 rfl (lv_at hl 0 rfl) ?_
  refine lv_iload_n hx hb dX0_join_1 rfl (lv_at hl 1 rfl) ?_
  refine lv_iload_n hx hb dX0_join_2 rfl (lv_at hl 2 rfl) ?_
  exact zxV (As := [.int (nI u), .int (nI u)]) (rest := []) 0 ⟨hx, hb, hml, hown, hts⟩ (c_X0_checkPair_same l hfl D cy h a0 a1 a2 N ec cc f cs tr u hN hu) (cwV 2 hts gX0_join_X0_checkPair rfl rfl rfl (by decide +kernel) ⟨Nat.le_of_ble_eq_true rfl, Nat.le_of_ble_eq_true rfl⟩) hK hP hT rfl rfl rfl hl rfl (Nat.le_of_ble_eq_true rfl) dX0_join_3 ⟨Nat.le_of_ble_eq_true rfl, Nat.le_of_ble_eq_true rfl⟩ hS hto hlocks
set_option maxHeartbeats 4000000 in
set_option maxRecDepth 100000 in
theorem c_X0_together_none (l : Launch) (hfl : l.stackTraces = false) (D : va_G) (cy : ClassId) (h a0 a1 a2 N : Nat) (ec cc : Int32) (f cs tr : Nat → Int32) (u v : Nat) (c0 : Nat → Nat) (hN : N ≤ 20) (hu : u < N) (hv : v < N) (hcs : csI cs c0 N) (ht0 : tgk f c0 N u v 20 = 0) : vx_Met l yX0_together wsX0_together ({ frames := 7, cells := 1, slots := 6, locals := 103 } : Room) (va_Pc [.ref h, .int (nI u), .int (nI v)] (fun U => zRd D (wB h a0 a1 a2 cy N ec cc f cs tr) [(cy, .int)] U ∧ zTh U)) zNi (zXc nNSE) 1 6 zNo := by
  refine vx_ofW (cc := cX0_together) (maxL := 4) (ret := (some .int)) (by decide) rfl ?_
  intro p e s m args below meth c s₁ B hml hto hv
  obtain ⟨rfl, ⟨hP, hK⟩, hT⟩ := hv
  have hx := B.exec
  have hb := B.bytes
  have hr := B.returns
  have hts := atoms_spec (ws := wsX0_together) B.pre
  have hown : s.vm.findClass RX0 = some m.cls := findClass_of_methodNamed B.named
  have hlocks := B.notSynchronized
  have hS : va_S (fun _ => False) s.heap s.heap [] := va_S.rf
  have hin : ∀ w ∈ wsX00, w ∈ wsX0_together := by decide +kernel
  have hf13 := hts (.fieldLink RX0 13 "Corebarn" "cores" "[I") (by decide +kernel)
  have hcu := (hcs u hu).2
  have hcv := (hcs v hv).2
  have hl := lv_entry ([.ref h, .int (nI u), .int (nI v)]) (n := 4) (Nat.le_of_ble_eq_true rfl)
  rw [lg_entry_eq]
  generalize (lg_sl ([.ref h, .int (nI u), .int (nI v)]) ++ List.replicate (4 - (lg_sl ([.ref h, .int (nI u), .int (nI v)])).length) Slot.unset).toArray = ls at hl ⊢
  have hl : lv_has ls 4 [(0, .ref h), (1, .int (nI u)), (2, .int (nI v))] := hl
  refine lv_aload_n hx hb dX0_together_0 rfl (lv_at hl 0 rfl) ?_
  refine lv_iload_n hx hb dX0_together_1 rfl (lv_at hl 1 rfl) ?_
  refine zrVv (As := [.int (nI u)]) (rest := []) 0 ⟨hx, hb, hml, hown, hts⟩ (c_X0_checkNode_ok l D cy h a0 a1 a2 N ec cc f cs tr u hN hu) (cwV 1 hts gX0_together_X0_checkNode rfl rfl rfl (by decide +kernel) ⟨Nat.le_of_ble_eq_true rfl, Nat.le_of_ble_eq_true rfl⟩) hK hP rfl rfl rfl hl rfl (Nat.le_of_ble_eq_true rfl) dX0_together_2 ⟨Nat.le_of_ble_eq_true rfl, Nat.le_of_ble_eq_true rfl⟩ hS (fun H locs hw2 hk9 hS => ?_)
  have hP := zkeep hP hk9
  refine lv_aload_n hx hb dX0_together_5 rfl (lv_at hl 0 rfl) ?_
  refine lv_iload_n hx hb dX0_together_6 rfl (lv_at hl 2 rfl) ?_
  refine zrVv (As := [.int (nI v)]) (rest := []) 0 ⟨hx, hb, hml, hown, hts⟩ (c_X0_checkNode_ok l D cy h a0 a1 a2 N ec cc f cs tr v hN hv) (cwV 1 hts gX0_together_X0_checkNode rfl rfl rfl (by decide +kernel) ⟨Nat.le_of_ble_eq_true rfl, Nat.le_of_ble_eq_true rfl⟩) hK hP rfl rfl rfl hl rfl (Nat.le_of_ble_eq_true rfl) dX0_together_7 ⟨Nat.le_of_ble_eq_true rfl, Nat.le_of_ble_eq_true rfl⟩ hS (fun H locs hw7 hk9 hS => ?_)
  have hP := zkeep hP hk9
  refine lv_aload_n hx hb dX0_together_10 rfl (lv_at hl 0 rfl) ?_
  refine va_get (D := D) (ci := 0) (v := .ref a1) (C := RX0) (T := TX0) (N := 6) hx hb hts hin hown hK hP 0 rfl rfl 1 (by decide) hf13 (fun _ h9 => h9) rfl dX0_together_11 ?_
  refine lv_iload_n hx hb dX0_together_14 rfl (lv_at hl 1 rfl) ?_
  refine z_iald hx hb hK hP 2 0 rfl rfl (by omega) (by decide) dX0_together_15 ?_
  rw [(hcs u hu).1]
  refine lv_aload_n hx hb dX0_together_16 rfl (lv_at hl 0 rfl) ?_
  refine va_get (D := D) (ci := 0) (v := .ref a1) (C := RX0) (T := TX0) (N := 6) hx hb hts hin hown hK hP 0 rfl rfl 1 (by decide) hf13 (fun _ h9 => h9) rfl dX0_together_17 ?_
  refine lv_iload_n hx hb dX0_together_20 rfl (lv_at hl 2 rfl) ?_
  refine z_iald hx hb hK hP 2 0 rfl rfl (by omega) (by decide) dX0_together_21 ?_
  rw [(hcs v hv).1]
  refine va_mmin hx hb (by rw [hml]; exact hl.1.symm) hown (hts (.methodLink RX0 92 Lib.Math.min.name) (by decide +kernel)) (hts (.static Lib.Math.min.name) (by decide +kernel)) (hts (.initialized "java/lang/Math") (by decide +kernel)) (hts (.code Lib.Math.min.name Lib.Math.min.code 2 (some .int)) (by decide +kernel)) (Nat.le_of_ble_eq_true rfl) (Nat.le_of_ble_eq_true rfl) (Nat.le_of_ble_eq_true rfl) (Nat.le_of_ble_eq_true rfl) dX0_together_22 ?_
  rw [z_min (a := c0 u) (b := c0 v) (by omega) (by omega)]
  refine lv_istore_n (lv' := [(3, .int (nI (min (c0 u) (c0 v)))), (0, .ref h), (1, .int (nI u)), (2, .int (nI v))]) hx hb dX0_together_25 rfl hl (by decide) rfl (fun ls hl => ?_)
  have K26 : ∀ (fu26 : Nat) (t1 : Nat) (x : Int32) (H : Heap) (locs : List Loc) (ls : Array Slot), (t1 ≤ 20) → (x = tgi t1) → t1 < fu26 → va_P D vwCl (wB h a0 a1 a2 cy N ec cc f cs tr) H → va_S (fun _ => False) s.heap H locs → lv_has ls 4 [(3, .int x), (0, .ref h), (1, .int (nI u)), (2, .int (nI v))] → W p l e (headSpec wsX0_together ({ frames := 7, cells := 1, slots := 6, locals := 103 } : Room)).room s m ([.ref h, .int (nI u), .int (nI v)] : List Value).toArray below meth c H locs 0 0 (vx_MQ below zNi (zXc nNSE) ([.ref h, .int (nI u), .int (nI v)] : List Value).toArray s 1 6 zNo) (F0 m 26 ls []) := by
    intro fu26
    induction fu26 with
    | zero =>
      intro t1 x H locs ls ht1 hxe hfu26
      exact absurd hfu26 (Nat.not_lt_zero _)
    | succ fu26 ih26 =>
      intro t1 x H locs ls ht1 hxe hfu26 hP hS hl
      refine lv_iload_n hx hb dX0_together_26 rfl (lv_at hl 0 rfl) ?_
      refine lv_if_lt (tgt := 58) hx hb dX0_together_27 (by decide) (fun h27 => ?_) (fun h27 => ?_)
      · exact zthrowN (cc := cX0_together) (rest := []) (text := "the nodes belong to the same community at no level") (is := 97) hx hb hfl hown (by decide +kernel) (hts (.classLink RX0 95 nNSE) (by decide +kernel)) (hts (.initialized nNSE) (by decide +kernel)) (fun w h => hts w (List.mem_cons_of_mem _ (List.mem_append_left _ (List.mem_append_right _ h)))) zh2_99 zg_99 hT hS (by rw [hml]; exact hl.1) dX0_together_58 dX0_together_61 dX0_together_62 dX0_together_64 dX0_together_67 hto (Nat.le_of_ble_eq_true rfl) (Nat.le_of_ble_eq_true rfl) (Nat.le_of_ble_eq_true rfl) (Nat.le_of_ble_eq_true rfl) hlocks
      · obtain ⟨m9, rfl, hm9⟩ := tgi_ge (by omega) hxe h27
        refine lv_aload_n hx hb dX0_together_30 rfl (lv_at hl 1 rfl) ?_
        refine lv_iload_n hx hb dX0_together_31 rfl (lv_at hl 2 rfl) ?_
        refine zrS0 (As := [.int (nI u)]) (rest := [.ref h]) ⟨hx, hb, hml, hown, hts⟩ (c_X0_single l u) (va_cwS 1 hts gX0_together_X0_single rfl rfl rfl (by decide +kernel) ⟨Nat.le_of_ble_eq_true rfl, Nat.le_of_ble_eq_true rfl⟩) rfl hl rfl (Nat.le_of_ble_eq_true rfl) dX0_together_32 ⟨Nat.le_of_ble_eq_true rfl, Nat.le_of_ble_eq_true rfl⟩ hS (fun r32 H locs hw32 hk9 hS => ?_)
        obtain rfl : r32 = zsg u := hw32
        have hP := zkeep hP hk9
        refine lv_aload_n hx hb dX0_together_35 rfl (lv_at hl 1 rfl) ?_
        refine lv_iload_n hx hb dX0_together_36 rfl (lv_at hl 0 rfl) ?_
        refine zrV (As := [.int (nI m9)]) (rest := [.int (zsg u), .ref h]) 0 ⟨hx, hb, hml, hown, hts⟩ (c_X0_coreSet l D cy h a0 a1 a2 N ec cc f cs tr (nI m9) hN) (cwV 1 hts gX0_together_X0_coreSet rfl rfl rfl (by decide +kernel) ⟨Nat.le_of_ble_eq_true rfl, Nat.le_of_ble_eq_true rfl⟩) hK hP rfl rfl rfl hl rfl (Nat.le_of_ble_eq_true rfl) dX0_together_37 ⟨Nat.le_of_ble_eq_true rfl, Nat.le_of_ble_eq_true rfl⟩ hS (fun r37 H locs hw37 hk9 hS => ?_)
        obtain rfl : r37 = (zmk (fun i => decide ((nI m9) ≤ cs i)) N) := hw37
        have hP := zkeep hP hk9
        rw [cst_of hN hcs (k := m9) (by omega)]
        refine zrV (As := [.int (zsg u), .int (cst c0 N (m9 : Int))]) (rest := []) 0 ⟨hx, hb, hml, hown, hts⟩ (c_X0_reach l D cy h a0 a1 a2 N ec cc f cs tr (zsg u) (cst c0 N (m9 : Int)) hN (cst_sub hN _)) (cwV 2 hts gX0_together_X0_reach rfl rfl rfl (by decide +kernel) ⟨Nat.le_of_ble_eq_true rfl, Nat.le_of_ble_eq_true rfl⟩) hK hP rfl rfl rfl hl rfl (Nat.le_of_ble_eq_true rfl) dX0_together_40 ⟨Nat.le_of_ble_eq_true rfl, Nat.le_of_ble_eq_true rfl⟩ hS (fun r40 H locs hw40 hk9 hS => ?_)
        have hw40 : rch f (zsg u) (cst c0 N (m9 : Int)) r40 := hw40
        obtain rfl : r40 = cmp f (cst c0 N (m9 : Int)) u := cmp_of hw40
        have hP := zkeep hP hk9
        refine lv_iload_n hx hb dX0_together_43 rfl (lv_at hl 3 rfl) ?_
        refine zrS0 (As := [.int (cmp f (cst c0 N (m9 : Int)) u), .int (nI v)]) (rest := []) ⟨hx, hb, hml, hown, hts⟩ (c_X0_contains l (cmp f (cst c0 N (m9 : Int)) u) v (by omega)) (va_cwS 2 hts gX0_together_X0_contains rfl rfl rfl (by decide +kernel) ⟨Nat.le_of_ble_eq_true rfl, Nat.le_of_ble_eq_true rfl⟩) rfl hl rfl (Nat.le_of_ble_eq_true rfl) dX0_together_44 ⟨Nat.le_of_ble_eq_true rfl, Nat.le_of_ble_eq_true rfl⟩ hS (fun r44 H locs hw44 hk9 hS => ?_)
        obtain rfl : r44 = (zb (bt (cmp f (cst c0 N (m9 : Int)) u) v)) := hw44
        have hP := zkeep hP hk9
        refine z_ifb_eq (tgt := 52) hx hb dX0_together_47 (by decide) (fun h47 => ?_) (fun h47 => ?_)
        · refine lv_iinc (v := (tgi m9)) (lv' := [(3, .int (tgi m9)), (0, .ref h), (1, .int (nI u)), (2, .int (nI v))]) hx hb dX0_together_52 hl (k := 0) rfl (tgi_m m9) (by decide) rfl (fun ls hl => ?_)
          refine lv_goto (tgt := 26) hx hb dX0_together_55 (by decide) ?_
          exact ih26 m9 (tgi m9) _ _ _ (by omega) rfl (by omega) hP hS (lv_sub hl [0, 1, 2, 3] rfl)
        · exact absurd ht0 (tgk_ne h47 20 (by omega))
  exact K26 ((min (c0 u) (c0 v) + 1) + 1) (min (c0 u) (c0 v) + 1) (nI (min (c0 u) (c0 v))) _ _ _ (by omega) (by unfold tgi; rw [if_neg (by omega), Nat.add_sub_cancel]) (Nat.lt_succ_self _) hP hS (lv_sub hl [0, 1, 2, 3] rfl)
end
section
theorem zcy {D : va_G} {cl : List vw_C} {tys : List (ClassId × FieldType)} {s : State} {c1 c2 : ClassId} (hK : va_K D cl tys s) (i j : Nat) (h1 : tys[i]? = some (c1, .int)) (h2 : tys[j]? = some (c2, .int)) : c1 = c2 := by
  have a := (hK.2 i _ h1).2
  have b := (hK.2 j _ h2).2
  exact Option.some.inj (Eq.trans (Eq.symm a) b)
set_option maxHeartbeats 4000000 in
set_option maxRecDepth 100000 in
theorem c_X0_init (l : Launch) (D : va_G) (h sz : Nat) : Met l yX0_init wsX0_init ({ frames := 1, cells := 3, slots := 60, locals := 40 } : Room) (va_Pc [.ref h] (zWr D [(h, .inr (0, [.null, .null, .null, .int 0, .int 0, .int 0]))] [] sz)) (va_Qv (fun (_ : Nat × Nat × Nat × ClassId) => True) (fun z9 t => va_P D vwCl (wB h z9.1 z9.2.1 z9.2.2.1 z9.2.2.2 0 (nI 0) (nI 0) (fun _ => 0) (fun _ => 0) (fun _ => 0)) t.heap ∧ va_K D vwCl [(z9.2.2.2, .int)] t ∧ va_D (va_A [(h, .inr (0, [.null, .null, .null, .int 0, .int 0, .int 0]))] sz) (wB h z9.1 z9.2.1 z9.2.2.1 z9.2.2.2 0 (nI 0) (nI 0) (fun _ => 0) (fun _ => 0) (fun _ => 0))) (va_A [(h, .inr (0, [.null, .null, .null, .int 0, .int 0, .int 0]))] sz)) 3 60 (va_A [(h, .inr (0, [.null, .null, .null, .int 0, .int 0, .int 0]))] sz) := by
  refine Met.ofW (cc := cX0_init) (maxL := 1) (ret := none) (by decide) rfl ?_
  intro p e s m args below meth c s₁ B hml hv
  obtain ⟨rfl, hsz, hP, hK, hD0⟩ := hv
  have hx := B.exec
  have hb := B.bytes
  have hr := B.returns
  have hts := atoms_spec (ws := wsX0_init) B.pre
  have hown : s.vm.findClass RX0 = some m.cls := findClass_of_methodNamed B.named
  have hlocks := B.notSynchronized
  have hin2 : meth.name = "<init>" := (name_of_methodNamed B.named B.method).1
  subst hsz
  have hD := hD0.self (sz := s.heap.size)
  generalize hAe : va_A [(h, .inr (0, [.null, .null, .null, .int 0, .int 0, .int 0]))] s.heap.size = A at hD ⊢
  have hA : ∀ q : Nat, s.heap.size ≤ q → A q := fun q h => by rw [← hAe]; exact Or.inr h
  have hS : va_S A s.heap s.heap [] := va_S.rf
  have hin : ∀ w ∈ wsX00, w ∈ wsX0_init := by decide +kernel
  have hl := lv_entry ([.ref h]) (n := 1) (Nat.le_of_ble_eq_true rfl)
  rw [lg_entry_eq]
  generalize (lg_sl ([.ref h]) ++ List.replicate (1 - (lg_sl ([.ref h])).length) Slot.unset).toArray = ls at hl ⊢
  have hl : lv_has ls 1 [(0, .ref h)] := hl
  refine lv_aload_n hx hb dX0_init_0 rfl (lv_at hl 0 rfl) ?_
  refine W.objInit hx hb hown (hts (.methodLink RX0 3 objectInit) (by decide +kernel)) (hts (.instanceMethod objectInit) (by decide +kernel)) (hts (.code objectInit ⟨#[0xb1]⟩ 1 none) (by decide +kernel)) rfl (by rw [hml]; exact hl.1) rfl dX0_init_1 (Nat.le_of_ble_eq_true rfl) (Nat.le_of_ble_eq_true rfl) ?_
  refine W.eq (g2 := F0 m 4 ls []) rfl ?_
  refine lv_aload_n hx hb dX0_init_4 rfl (lv_at hl 0 rfl) ?_
  refine lv_bipush (v := nI 20) hx hb dX0_init_5 (by decide) ?_
  refine va_newa (atype := .int) (ty := .int) (a0 := (20, .inl (fun _ => 0))) (N' := 20) hx hb (hts (.arrayClass .int) (by decide +kernel)) rfl hK hP hD hS hA (fun _ => rfl) (by decide) (by decide) (by decide) (Nat.le_of_ble_eq_true rfl) (Nat.le_of_ble_eq_true rfl) dX0_init_7 (fun q0 cA0 H hK hP hD hS => ?_)
  have hK : va_K D vwCl [(cA0, .int)] s := hK
  have hP : va_P D vwCl [(h, .inr (0, [.null, .null, .null, .int 0, .int 0, .int 0])), (q0, .inl (cA0, 20, .inl (fun _ => 0)))] H := hP
  have hD : va_D A [(h, .inr (0, [.null, .null, .null, .int 0, .int 0, .int 0])), (q0, .inl (cA0, 20, .inl (fun _ => 0)))] := hD
  refine va_putF (D := D) (ci := 0) (v := .ref q0) (ty := .array .int) (C := RX0) (T := TX0) (N := 6) hx hb hts hin tyX0 tyX0_ok nmX0 hown hK hP hD hS 0 rfl rfl 0 (by decide) (hts (.fieldLink RX0 9 "Corebarn" "neighbours" "[I") (by decide +kernel)) (fun _ h9 => h9) rfl hin2 rfl (by decide +kernel) rfl rfl (Nat.le_of_ble_eq_true rfl) dX0_init_9 (fun H locs hP hD hS => ?_)
  have hP : va_P D vwCl [(h, .inr (0, [.ref q0, .null, .null, .int 0, .int 0, .int 0])), (q0, .inl (cA0, 20, .inl (fun _ => 0)))] H := hP
  have hD : va_D A [(h, .inr (0, [.ref q0, .null, .null, .int 0, .int 0, .int 0])), (q0, .inl (cA0, 20, .inl (fun _ => 0)))] := hD
  refine lv_aload_n hx hb dX0_init_12 rfl (lv_at hl 0 rfl) ?_
  refine lv_bipush (v := nI 20) hx hb dX0_init_13 (by decide) ?_
  refine va_newa (atype := .int) (ty := .int) (a0 := (20, .inl (fun _ => 0))) (N' := 20) hx hb (hts (.arrayClass .int) (by decide +kernel)) rfl hK hP hD hS hA (fun _ => rfl) (by decide) (by decide) (by decide) (Nat.le_of_ble_eq_true rfl) (Nat.le_of_ble_eq_true rfl) dX0_init_15 (fun q1 cA1 H hK hP hD hS => ?_)
  obtain rfl : cA0 = cA1 := zcy hK 0 1 rfl rfl
  have hK : va_K D vwCl [(cA0, .int)] s := hK.sub [0] rfl
  have hP : va_P D vwCl [(h, .inr (0, [.ref q0, .null, .null, .int 0, .int 0, .int 0])), (q0, .inl (cA0, 20, .inl (fun _ => 0))), (q1, .inl (cA0, 20, .inl (fun _ => 0)))] H := hP
  have hD : va_D A [(h, .inr (0, [.ref q0, .null, .null, .int 0, .int 0, .int 0])), (q0, .inl (cA0, 20, .inl (fun _ => 0))), (q1, .inl (cA0, 20, .inl (fun _ => 0)))] := hD
  refine va_putF (D := D) (ci := 0) (v := .ref q1) (ty := .array .int) (C := RX0) (T := TX0) (N := 6) hx hb hts hin tyX0 tyX0_ok nmX0 hown hK hP hD hS 0 rfl rfl 1 (by decide) (hts (.fieldLink RX0 13 "Corebarn" "cores" "[I") (by decide +kernel)) (fun _ h9 => h9) rfl hin2 rfl (by decide +kernel) rfl rfl (Nat.le_of_ble_eq_true rfl) dX0_init_17 (fun H locs hP hD hS => ?_)
  have hP : va_P D vwCl [(h, .inr (0, [.ref q0, .ref q1, .null, .int 0, .int 0, .int 0])), (q0, .inl (cA0, 20, .inl (fun _ => 0))), (q1, .inl (cA0, 20, .inl (fun _ => 0)))] H := hP
  have hD : va_D A [(h, .inr (0, [.ref q0, .ref q1, .null, .int 0, .int 0, .int 0])), (q0, .inl (cA0, 20, .inl (fun _ => 0))), (q1, .inl (cA0, 20, .inl (fun _ => 0)))] := hD
  refine lv_aload_n hx hb dX0_init_20 rfl (lv_at hl 0 rfl) ?_
  refine lv_bipush (v := nI 20) hx hb dX0_init_21 (by decide) ?_
  refine va_newa (atype := .int) (ty := .int) (a0 := (20, .inl (fun _ => 0))) (N' := 20) hx hb (hts (.arrayClass .int) (by decide +kernel)) rfl hK hP hD hS hA (fun _ => rfl) (by decide) (by decide) (by decide) (Nat.le_of_ble_eq_true rfl) (Nat.le_of_ble_eq_true rfl) dX0_init_23 (fun q2 cA2 H hK hP hD hS => ?_)
  obtain rfl : cA0 = cA2 := zcy hK 0 1 rfl rfl
  have hK : va_K D vwCl [(cA0, .int)] s := hK.sub [0] rfl
  have hP : va_P D vwCl [(h, .inr (0, [.ref q0, .ref q1, .null, .int 0, .int 0, .int 0])), (q0, .inl (cA0, 20, .inl (fun _ => 0))), (q1, .inl (cA0, 20, .inl (fun _ => 0))), (q2, .inl (cA0, 20, .inl (fun _ => 0)))] H := hP
  have hD : va_D A [(h, .inr (0, [.ref q0, .ref q1, .null, .int 0, .int 0, .int 0])), (q0, .inl (cA0, 20, .inl (fun _ => 0))), (q1, .inl (cA0, 20, .inl (fun _ => 0))), (q2, .inl (cA0, 20, .inl (fun _ => 0)))] := hD
  refine va_putF (D := D) (ci := 0) (v := .ref q2) (ty := .array .int) (C := RX0) (T := TX0) (N := 6) hx hb hts hin tyX0 tyX0_ok nmX0 hown hK hP hD hS 0 rfl rfl 2 (by decide) (hts (.fieldLink RX0 16 "Corebarn" "trussNeighbours" "[I") (by decide +kernel)) (fun _ h9 => h9) rfl hin2 rfl (by decide +kernel) rfl rfl (Nat.le_of_ble_eq_true rfl) dX0_init_25 (fun H locs hP hD hS => ?_)
  have hP : va_P D vwCl [(h, .inr (0, [.ref q0, .ref q1, .ref q2, .int 0, .int 0, .int 0])), (q0, .inl (cA0, 20, .inl (fun _ => 0))), (q1, .inl (cA0, 20, .inl (fun _ => 0))), (q2, .inl (cA0, 20, .inl (fun _ => 0)))] H := hP
  have hD : va_D A [(h, .inr (0, [.ref q0, .ref q1, .ref q2, .int 0, .int 0, .int 0])), (q0, .inl (cA0, 20, .inl (fun _ => 0))), (q1, .inl (cA0, 20, .inl (fun _ => 0))), (q2, .inl (cA0, 20, .inl (fun _ => 0)))] := hD
  refine lv_aload_n hx hb dX0_init_28 rfl (lv_at hl 0 rfl) ?_
  refine lv_iconst (v := nI 0) hx hb dX0_init_29 (by decide) ?_
  refine va_put (D := D) (ci := 0) (v := .int (nI 0)) (ty := .int) (C := RX0) (T := TX0) (N := 6) hx hb hts hin tyX0 tyX0_ok nmX0 hown hK hP hD hS 0 rfl rfl 3 (by decide) (hts (.fieldLink RX0 19 "Corebarn" "nodeCount" "I") (by decide +kernel)) (fun _ h9 => h9) rfl (by decide +kernel) rfl rfl (Nat.le_of_ble_eq_true rfl) dX0_init_30 (fun H locs hP hD hS => ?_)
  have hP : va_P D vwCl [(h, .inr (0, [.ref q0, .ref q1, .ref q2, .int (nI 0), .int 0, .int 0])), (q0, .inl (cA0, 20, .inl (fun _ => 0))), (q1, .inl (cA0, 20, .inl (fun _ => 0))), (q2, .inl (cA0, 20, .inl (fun _ => 0)))] H := hP
  have hD : va_D A [(h, .inr (0, [.ref q0, .ref q1, .ref q2, .int (nI 0), .int 0, .int 0])), (q0, .inl (cA0, 20, .inl (fun _ => 0))), (q1, .inl (cA0, 20, .inl (fun _ => 0))), (q2, .inl (cA0, 20, .inl (fun _ => 0)))] := hD
  refine lv_aload_n hx hb dX0_init_33 rfl (lv_at hl 0 rfl) ?_
  refine lv_iconst (v := nI 0) hx hb dX0_init_34 (by decide) ?_
  refine va_put (D := D) (ci := 0) (v := .int (nI 0)) (ty := .int) (C := RX0) (T := TX0) (N := 6) hx hb hts hin tyX0 tyX0_ok nmX0 hown hK hP hD hS 0 rfl rfl 4 (by decide) (hts (.fieldLink RX0 23 "Corebarn" "edgeCount" "I") (by decide +kernel)) (fun _ h9 => h9) rfl (by decide +kernel) rfl rfl (Nat.le_of_ble_eq_true rfl) dX0_init_35 (fun H locs hP hD hS => ?_)
  have hP : va_P D vwCl [(h, .inr (0, [.ref q0, .ref q1, .ref q2, .int (nI 0), .int (nI 0), .int 0])), (q0, .inl (cA0, 20, .inl (fun _ => 0))), (q1, .inl (cA0, 20, .inl (fun _ => 0))), (q2, .inl (cA0, 20, .inl (fun _ => 0)))] H := hP
  have hD : va_D A [(h, .inr (0, [.ref q0, .ref q1, .ref q2, .int (nI 0), .int (nI 0), .int 0])), (q0, .inl (cA0, 20, .inl (fun _ => 0))), (q1, .inl (cA0, 20, .inl (fun _ => 0))), (q2, .inl (cA0, 20, .inl (fun _ => 0)))] := hD
  refine lv_aload_n hx hb dX0_init_38 rfl (lv_at hl 0 rfl) ?_
  refine lv_iconst (v := nI 0) hx hb dX0_init_39 (by decide) ?_
  refine va_put (D := D) (ci := 0) (v := .int (nI 0)) (ty := .int) (C := RX0) (T := TX0) (N := 6) hx hb hts hin tyX0 tyX0_ok nmX0 hown hK hP hD hS 0 rfl rfl 5 (by decide) (hts (.fieldLink RX0 26 "Corebarn" "coreChanges" "I") (by decide +kernel)) (fun _ h9 => h9) rfl (by decide +kernel) rfl rfl (Nat.le_of_ble_eq_true rfl) dX0_init_40 (fun H locs hP hD hS => ?_)
  have hP : va_P D vwCl [(h, .inr (0, [.ref q0, .ref q1, .ref q2, .int (nI 0), .int (nI 0), .int (nI 0)])), (q0, .inl (cA0, 20, .inl (fun _ => 0))), (q1, .inl (cA0, 20, .inl (fun _ => 0))), (q2, .inl (cA0, 20, .inl (fun _ => 0)))] H := hP
  have hD : va_D A [(h, .inr (0, [.ref q0, .ref q1, .ref q2, .int (nI 0), .int (nI 0), .int (nI 0)])), (q0, .inl (cA0, 20, .inl (fun _ => 0))), (q1, .inl (cA0, 20, .inl (fun _ => 0))), (q2, .inl (cA0, 20, .inl (fun _ => 0)))] := hD
  refine W.widen (k := 3) (n := 60) (Nat.le_of_ble_eq_true rfl) (Nat.le_of_ble_eq_true rfl) ?_
  exact W.vret hx hb hr (fun t9 ht9 hW9 => ⟨⟨(q0, q1, q2, cA0), rfl, trivial, by rw [ht9]; exact hP, va_K.moved hW9.alike hK, hD⟩, hS.F ht9⟩) hS.2.2 dX0_init_43
end
section
/-! ===== calls that leave the rest of a world as it was ===== -/
abbrev zXn : String → State → State → Prop := vx_X (fun (_ : Unit) => False) (fun _ _ _ => True) (fun _ => False)
section ZJ
variable {p : Program} {l : Launch} {e : Env} {R : Room} {s : State} {m : MethodId} {args : Array Value} {below : List Frame} {meth : Method} {c : Code} {H : Heap} {locs : List Loc} {cells slots : Nat} {Q : State → Prop}
variable {cc : ByteArray} {pc : Nat} {ls : Array Slot} {rest st0 : List Value} {y : MethodName} {bytes : ByteArray} {maxL nL n index mc ms : Nat} {ret : Option FieldType} {ws Ts : List Cond} {rm : Room} {own C : String} {As : List Value} {A0 : Nat → Prop} {H0 : Heap} {lv : List (Nat × Value)} {hh : List (Nat × Nat × Nat × Nat)}
variable {SU : Type} {D : va_G} {w wc wr : va_W} {w1 : SU → va_W} {tys : List (ClassId × FieldType)} {b ci : Nat} {T : u_T} {N0 : Nat} {fs : List Value}
/-- by name; it answers an int and writes the cells wc -/
theorem zjVi {post : Int32 → SU → Prop} (q0 : Nat) (isC isR : List Nat) (hC : isC.map (fun i => w[i]?) = wc.map some) (hR : isR.map (fun i => w[i]?) = wr.map some) (hn2 : va_nd isR = true) (hdis : ∀ i ∈ isR, i ∉ isC) (hw1 : ∀ u, (w1 u).map (fun q => q.1) = wc.map (fun q => q.1)) (cf : CallFix p m c cc nL s args Ts own) (hM : Met l y ws rm (va_Pc (.ref b :: As) (zWr D wc tys H.size)) (va_Qi post (fun u t => va_P D vwCl (w1 u) t.heap) (va_A wc H.size)) mc ms (va_A wc H.size)) (cw : CallW R s args own C index y bytes maxL ret ws rm mc ms n) (hK : va_K D vwCl tys s) (hP : va_P D vwCl w H) (hPc : va_P D vwCl wc H) (hD : va_D A0 w) (hDc : va_D A0 wc) (hA : ∀ q, H0.size ≤ q → A0 q) (he : wc[q0]? = some (b, .inr (ci, fs))) (hc : vwCl[ci]? = some (C, T, N0)) (hn : As.length = n) (hl : lv_has ls nL lv) (hst : st0 = As.reverse ++ .ref b :: rest) (hrm : (rest.map fun v => v.category).sum ≤ 8) (hdg : decode cc pc = .ok (.invokevirtual index, 3)) (hf : cells + mc ≤ R.cells ∧ slots + ms ≤ R.slots) (hS : va_S A0 H0 H locs)
    (kk : ∀ (r : Int32) (u : SU) (H1 : Heap) (locs1 : List Loc), post r u → va_P D vwCl (wr ++ w1 u) H1 → va_S A0 H0 H1 locs1 → W p l e R s m args below meth c H1 locs1 (cells + mc) (slots + ms) Q (F0 m (pc + 3) ls (.int r :: rest))) : W p l e R s m args below meth c H locs cells slots Q (F0 m pc ls st0) := by
  subst hst
  have hF := va_free (wc := wc) hD hS hA isC hC
  exact va_calli (va_runV cf hM cw (zwPre hK hPc hDc he hc) rfl hn hl.1 rfl (lv_room hrm) hdg hf) hS (fun q _ h => hF q h) hF (fun r u t H1 locs1 ht hvm hw hB hz hk hS1 => kk r u H1 locs1 hw (va_join hP hD isC isR hC hR hn2 hdis hk hF (ht ▸ hB) (zD (hDc.self (A := A0)) (hw1 u))).1 hS1)
/-- .. a double -/
theorem zjVd {post : UInt64 → SU → Prop} (q0 : Nat) (isC isR : List Nat) (hC : isC.map (fun i => w[i]?) = wc.map some) (hR : isR.map (fun i => w[i]?) = wr.map some) (hn2 : va_nd isR = true) (hdis : ∀ i ∈ isR, i ∉ isC) (hw1 : ∀ u, (w1 u).map (fun q => q.1) = wc.map (fun q => q.1)) (cf : CallFix p m c cc nL s args Ts own) (hM : Met l y ws rm (va_Pc (.ref b :: As) (zWr D wc tys H.size)) (va_Qd post (fun u t => va_P D vwCl (w1 u) t.heap) (va_A wc H.size)) mc ms (va_A wc H.size)) (cw : CallW R s args own C index y bytes maxL ret ws rm mc ms n) (hK : va_K D vwCl tys s) (hP : va_P D vwCl w H) (hPc : va_P D vwCl wc H) (hD : va_D A0 w) (hDc : va_D A0 wc) (hA : ∀ q, H0.size ≤ q → A0 q) (he : wc[q0]? = some (b, .inr (ci, fs))) (hc : vwCl[ci]? = some (C, T, N0)) (hn : As.length = n) (hl : lv_has ls nL lv) (hst : st0 = As.reverse ++ .ref b :: rest) (hrm : (rest.map fun v => v.category).sum ≤ 8) (hdg : decode cc pc = .ok (.invokevirtual index, 3)) (hf : cells + mc ≤ R.cells ∧ slots + ms ≤ R.slots) (hS : va_S A0 H0 H locs)
    (kk : ∀ (r : UInt64) (u : SU) (H1 : Heap) (locs1 : List Loc), post r u → va_P D vwCl (wr ++ w1 u) H1 → va_S A0 H0 H1 locs1 → W p l e R s m args below meth c H1 locs1 (cells + mc) (slots + ms) Q (F0 m (pc + 3) ls (.double r :: rest))) : W p l e R s m args below meth c H locs cells slots Q (F0 m pc ls st0) := by
  subst hst
  have hF := va_free (wc := wc) hD hS hA isC hC
  exact va_calld (va_runV cf hM cw (zwPre hK hPc hDc he hc) rfl hn hl.1 rfl (lv_room hrm) hdg hf) hS (fun q _ h => hF q h) hF (fun r u t H1 locs1 ht hvm hw hB hz hk hS1 => kk r u H1 locs1 hw (va_join hP hD isC isR hC hR hn2 hdis hk hF (ht ▸ hB) (zD (hDc.self (A := A0)) (hw1 u))).1 hS1)
/-- a call by name that reads the cells w and answers a double -/
theorem zrVd {post : UInt64 → Prop} (q0 : Nat) (cf : CallFix p m c cc nL s args Ts own) (hM : Met l y ws rm (va_Pc (.ref b :: As) (zRd D w tys)) (va_Qd (fun (r : UInt64) (_ : Unit) => post r) (fun _ _ => True) (fun _ => False)) 0 0 zNo) (cw : CallW R s args own C index y bytes maxL ret ws rm 0 0 n) (hK : va_K D vwCl tys s) (hP : va_P D vwCl w H) (he : w[q0]? = some (b, .inr (ci, fs))) (hc : vwCl[ci]? = some (C, T, N0)) (hn : As.length = n) (hl : lv_has ls nL lv) (hst : st0 = As.reverse ++ .ref b :: rest) (hrm : (rest.map fun v => v.category).sum ≤ 8) (hdg : decode cc pc = .ok (.invokevirtual index, 3)) (hf : cells + 0 ≤ R.cells ∧ slots + 0 ≤ R.slots) (hS : va_S A0 H0 H locs)
    (kk : ∀ (r : UInt64) (H1 : Heap) (locs1 : List Loc), post r → zKp H H1 → va_S A0 H0 H1 locs1 → W p l e R s m args below meth c H1 locs1 cells slots Q (F0 m (pc + 3) ls (.double r :: rest))) : W p l e R s m args below meth c H locs cells slots Q (F0 m pc ls st0) := by
  subst hst
  exact va_calld (va_runV cf hM cw ⟨fun a U g mk q => ⟨q.1, q.2.1, va_K.moved (u := U) (U := U.calling g mk a) (Vm.Alike.refl U.vm) q.2.2⟩, va_recv hK hP hc he, fun U hU hW => ⟨rfl, by rw [hU]; exact hP, va_K.moved hW.alike hK⟩⟩ rfl hn hl.1 rfl (lv_room hrm) hdg hf) hS (fun _ _ h => h.elim) (fun _ h => h.elim) (fun r u t H1 locs1 ht hvm hw hB hz hk hS1 => kk r H1 locs1 hw ⟨hz, fun q h => hk q h (fun z => z)⟩ hS1)
/-- a static call of the law's own: it answers an int, writes the cells wc, throws nothing -/
theorem zjSi {X : State → Prop} {post : Int32 → SU → Prop} (isC isR : List Nat) (hC : isC.map (fun i => w[i]?) = wc.map some) (hR : isR.map (fun i => w[i]?) = wr.map some) (hn2 : va_nd isR = true) (hdis : ∀ i ∈ isR, i ∉ isC) (hw1 : ∀ u, (w1 u).map (fun q => q.1) = wc.map (fun q => q.1)) (cf : CallFix p m c cc nL s args Ts own) (hM : vx_Met l y ws rm (va_Pc As (fun U => zWr D wc tys H.size U ∧ X U)) (va_Qi post (fun u t => va_P D vwCl (w1 u) t.heap) (va_A wc H.size)) zXn mc ms (va_A wc H.size)) (cw : vx_CSW R s args own index y bytes maxL ret hh ws rm mc ms n) (hK : va_K D vwCl tys s) (hP : va_P D vwCl w H) (hPc : va_P D vwCl wc H) (hD : va_D A0 w) (hDc : va_D A0 wc) (hA : ∀ q, H0.size ≤ q → A0 q) (hXb : ∀ (U : State) (g : JFrame) (mk : MethodId) (a : Array Value), X U → X (U.calling g mk a)) (hXp : ∀ U : State, U.heap = H → s.WarmedH U.vm → X U) (hn : As.length = n) (hl : lv_has ls nL lv) (hst : st0 = As.reverse ++ rest) (hrm : (rest.map fun v => v.category).sum ≤ 8) (hdg : decode cc pc = .ok (.invokestatic index, 3)) (hf : cells + mc ≤ R.cells ∧ slots + ms ≤ R.slots) (hS : va_S A0 H0 H locs)
    (kk : ∀ (r : Int32) (u : SU) (H1 : Heap) (locs1 : List Loc), post r u → va_P D vwCl (wr ++ w1 u) H1 → va_S A0 H0 H1 locs1 → W p l e R s m args below meth c H1 locs1 (cells + mc) (slots + ms) Q (F0 m (pc + 3) ls (.int r :: rest))) : W p l e R s m args below meth c H locs cells slots Q (F0 m pc ls st0) := by
  subst hst
  have hF := va_free (wc := wc) hD hS hA isC hC
  exact vx_calli (vx_runSX cf hM cw ⟨fun a U g mk q => ⟨q.1, ⟨q.2.1.1, q.2.1.2.1, va_K.moved (u := U) (U := U.calling g mk a) (Vm.Alike.refl U.vm) q.2.1.2.2.1, q.2.1.2.2.2⟩, hXb U g mk a q.2.2⟩, fun U hU hW => ⟨rfl, ⟨by rw [hU], by rw [hU]; exact hPc, va_K.moved hW.alike hK, hDc.weaken (fun _ _ _ _ => trivial)⟩, hXp U hU hW⟩⟩ rfl hn hl.1 rfl (lv_room hrm) hdg hf) hS (fun q _ h => hF q h) hF (fun _ _ h => h.elim) (fun E2 ce q9 u t H1 locs1 ht hvm hp hB hz hk hS1 hce hcv hcl => hp.elim)
    (fun r u t H1 locs1 ht hvm hw hB hz hk hS1 => kk r u H1 locs1 hw (va_join hP hD isC isR hC hR hn2 hdis hk hF (ht ▸ hB) (zD (hDc.self (A := A0)) (hw1 u))).1 hS1)
end ZJ
end
section
/-! ===== rows for written-out numbers ===== -/
section ZK
variable {p : Program} {l : Launch} {e : Env} {R : Room} {s : State} {m : MethodId} {args : Array Value} {below : List Frame} {meth : Method} {c : Code} {H : Heap} {locs : List Loc} {cells slots : Nat} {Q : State → Prop}
variable {cc : ByteArray} {pc : Nat} {ls : Array Slot} {rest st0 : List Value} {y : MethodName} {bytes : ByteArray} {maxL nL n index mc ms : Nat} {ret : Option FieldType} {ws Ts : List Cond} {rm : Room} {own C : String} {As : List Value} {A0 : Nat → Prop} {H0 : Heap} {lv : List (Nat × Value)}
theorem k_iadd (hexec : p.tables.exec = Jvm.exec) (hb : c.code = cc) {x y v : Int32} (hdg : decode cc pc = .ok (.iadd, 1)) (h : x + y = v) (k : W p l e R s m args below meth c H locs cells slots Q (F0 m (pc + 1) ls (.int v :: rest))) : W p l e R s m args below meth c H locs cells slots Q (F0 m pc ls (.int y :: .int x :: rest)) := lv_iadd hexec hb hdg (by rw [h]; exact k)
theorem k_isub (hexec : p.tables.exec = Jvm.exec) (hb : c.code = cc) {x y v : Int32} (hdg : decode cc pc = .ok (.isub, 1)) (h : x - y = v) (k : W p l e R s m args below meth c H locs cells slots Q (F0 m (pc + 1) ls (.int v :: rest))) : W p l e R s m args below meth c H locs cells slots Q (F0 m pc ls (.int y :: .int x :: rest)) := lv_isub hexec hb hdg (by rw [h]; exact k)
theorem k_imul (hexec : p.tables.exec = Jvm.exec) (hb : c.code = cc) {x y v : Int32} (hdg : decode cc pc = .ok (.imul, 1)) (h : x * y = v) (k : W p l e R s m args below meth c H locs cells slots Q (F0 m (pc + 1) ls (.int v :: rest))) : W p l e R s m args below meth c H locs cells slots Q (F0 m pc ls (.int y :: .int x :: rest)) := lv_imul hexec hb hdg (by rw [h]; exact k)
theorem k_iand (hexec : p.tables.exec = Jvm.exec) (hb : c.code = cc) {x y v : Int32} (hdg : decode cc pc = .ok (.iand, 1)) (h : x &&& y = v) (k : W p l e R s m args below meth c H locs cells slots Q (F0 m (pc + 1) ls (.int v :: rest))) : W p l e R s m args below meth c H locs cells slots Q (F0 m pc ls (.int y :: .int x :: rest)) := lv_iand hexec hb hdg (by rw [h]; exact k)
theorem k_ixor (hexec : p.tables.exec = Jvm.exec) (hb : c.code = cc) {x y v : Int32} (hdg : decode cc pc = .ok (.ixor, 1)) (h : x ^^^ y = v) (k : W p l e R s m args below meth c H locs cells slots Q (F0 m (pc + 1) ls (.int v :: rest))) : W p l e R s m args below meth c H locs cells slots Q (F0 m pc ls (.int y :: .int x :: rest)) := lv_ixor hexec hb hdg (by rw [h]; exact k)
theorem k_ishl (hexec : p.tables.exec = Jvm.exec) (hb : c.code = cc) {x y v : Int32} (hdg : decode cc pc = .ok (.ishl, 1)) (h : x <<< (y &&& 31) = v) (k : W p l e R s m args below meth c H locs cells slots Q (F0 m (pc + 1) ls (.int v :: rest))) : W p l e R s m args below meth c H locs cells slots Q (F0 m pc ls (.int y :: .int x :: rest)) := lv_ishl hexec hb hdg (by rw [h]; exact k)
theorem k_ishr (hexec : p.tables.exec = Jvm.exec) (hb : c.code = cc) {x y v : Int32} (hdg : decode cc pc = .ok (.ishr, 1)) (h : x >>> (y &&& 31) = v) (k : W p l e R s m args below meth c H locs cells slots Q (F0 m (pc + 1) ls (.int v :: rest))) : W p l e R s m args below meth c H locs cells slots Q (F0 m pc ls (.int y :: .int x :: rest)) := lv_ishr hexec hb hdg (by rw [h]; exact k)
theorem k_irem (hexec : p.tables.exec = Jvm.exec) (hb : c.code = cc) {x y v : Int32} (hdg : decode cc pc = .ok (.irem, 1)) (hy : ¬ y = 0) (h : x - x / y * y = v) (k : W p l e R s m args below meth c H locs cells slots Q (F0 m (pc + 1) ls (.int v :: rest))) : W p l e R s m args below meth c H locs cells slots Q (F0 m pc ls (.int y :: .int x :: rest)) := lv_irem hexec hb hdg hy (by rw [h]; exact k)
theorem k_icmp_eq_t (hexec : p.tables.exec = Jvm.exec) (hb : c.code = cc) {x y : Int32} {off : Int} {tgt : Nat} (hdg : decode cc pc = .ok (.if_icmp .eq off, 3)) (ht : (pc : Int) + off = (tgt : Int)) (h : x = y) (k : W p l e R s m args below meth c H locs cells slots Q (F0 m tgt ls rest)) : W p l e R s m args below meth c H locs cells slots Q (F0 m pc ls (.int y :: .int x :: rest)) := lv_icmp_eq hexec hb hdg ht (fun _ => k) (fun q => absurd h q)
theorem k_icmp_eq_f (hexec : p.tables.exec = Jvm.exec) (hb : c.code = cc) {x y : Int32} {off : Int} {tgt : Nat} (hdg : decode cc pc = .ok (.if_icmp .eq off, 3)) (ht : (pc : Int) + off = (tgt : Int)) (h : ¬ x = y) (k : W p l e R s m args below meth c H locs cells slots Q (F0 m (pc + 3) ls rest)) : W p l e R s m args below meth c H locs cells slots Q (F0 m pc ls (.int y :: .int x :: rest)) := lv_icmp_eq hexec hb hdg ht (fun q => (absurd q h)) (fun _ => k)
theorem k_if_eq_t (hexec : p.tables.exec = Jvm.exec) (hb : c.code = cc) {x : Int32} {off : Int} {tgt : Nat} (hdg : decode cc pc = .ok (.ifCond .eq off, 3)) (ht : (pc : Int) + off = (tgt : Int)) (h : x = 0) (k : W p l e R s m args below meth c H locs cells slots Q (F0 m tgt ls rest)) : W p l e R s m args below meth c H locs cells slots Q (F0 m pc ls (.int x :: rest)) := lv_if_eq hexec hb hdg ht (fun _ => k) (fun q => absurd h q)
theorem k_if_eq_f (hexec : p.tables.exec = Jvm.exec) (hb : c.code = cc) {x : Int32} {off : Int} {tgt : Nat} (hdg : decode cc pc = .ok (.ifCond .eq off, 3)) (ht : (pc : Int) + off = (tgt : Int)) (h : ¬ x = 0) (k : W p l e R s m args below meth c H locs cells slots Q (F0 m (pc + 3) ls rest)) : W p l e R s m args below meth c H locs cells slots Q (F0 m pc ls (.int x :: rest)) := lv_if_eq hexec hb hdg ht (fun q => (absurd q h)) (fun _ => k)
theorem k_icmp_ne_t (hexec : p.tables.exec = Jvm.exec) (hb : c.code = cc) {x y : Int32} {off : Int} {tgt : Nat} (hdg : decode cc pc = .ok (.if_icmp .ne off, 3)) (ht : (pc : Int) + off = (tgt : Int)) (h : ¬ x = y) (k : W p l e R s m args below meth c H locs cells slots Q (F0 m tgt ls rest)) : W p l e R s m args below meth c H locs cells slots Q (F0 m pc ls (.int y :: .int x :: rest)) := lv_icmp_ne hexec hb hdg ht (fun _ => k) (fun q => absurd q h)
theorem k_icmp_ne_f (hexec : p.tables.exec = Jvm.exec) (hb : c.code = cc) {x y : Int32} {off : Int} {tgt : Nat} (hdg : decode cc pc = .ok (.if_icmp .ne off, 3)) (ht : (pc : Int) + off = (tgt : Int)) (h : x = y) (k : W p l e R s m args below meth c H locs cells slots Q (F0 m (pc + 3) ls rest)) : W p l e R s m args below meth c H locs cells slots Q (F0 m pc ls (.int y :: .int x :: rest)) := lv_icmp_ne hexec hb hdg ht (fun q => (absurd h q)) (fun _ => k)
theorem k_if_ne_t (hexec : p.tables.exec = Jvm.exec) (hb : c.code = cc) {x : Int32} {off : Int} {tgt : Nat} (hdg : decode cc pc = .ok (.ifCond .ne off, 3)) (ht : (pc : Int) + off = (tgt : Int)) (h : ¬ x = 0) (k : W p l e R s m args below meth c H locs cells slots Q (F0 m tgt ls rest)) : W p l e R s m args below meth c H locs cells slots Q (F0 m pc ls (.int x :: rest)) := lv_if_ne hexec hb hdg ht (fun _ => k) (fun q => absurd q h)
theorem k_if_ne_f (hexec : p.tables.exec = Jvm.exec) (hb : c.code = cc) {x : Int32} {off : Int} {tgt : Nat} (hdg : decode cc pc = .ok (.ifCond .ne off, 3)) (ht : (pc : Int) + off = (tgt : Int)) (h : x = 0) (k : W p l e R s m args below meth c H locs cells slots Q (F0 m (pc + 3) ls rest)) : W p l e R s m args below meth c H locs cells slots Q (F0 m pc ls (.int x :: rest)) := lv_if_ne hexec hb hdg ht (fun q => (absurd h q)) (fun _ => k)
theorem k_icmp_lt_t (hexec : p.tables.exec = Jvm.exec) (hb : c.code = cc) {x y : Int32} {off : Int} {tgt : Nat} (hdg : decode cc pc = .ok (.if_icmp .lt off, 3)) (ht : (pc : Int) + off = (tgt : Int)) (h : x < y) (k : W p l e R s m args below meth c H locs cells slots Q (F0 m tgt ls rest)) : W p l e R s m args below meth c H locs cells slots Q (F0 m pc ls (.int y :: .int x :: rest)) := lv_icmp_lt hexec hb hdg ht (fun _ => k) (fun q => absurd h q)
theorem k_icmp_lt_f (hexec : p.tables.exec = Jvm.exec) (hb : c.code = cc) {x y : Int32} {off : Int} {tgt : Nat} (hdg : decode cc pc = .ok (.if_icmp .lt off, 3)) (ht : (pc : Int) + off = (tgt : Int)) (h : ¬ x < y) (k : W p l e R s m args below meth c H locs cells slots Q (F0 m (pc + 3) ls rest)) : W p l e R s m args below meth c H locs cells slots Q (F0 m pc ls (.int y :: .int x :: rest)) := lv_icmp_lt hexec hb hdg ht (fun q => (absurd q h)) (fun _ => k)
theorem k_if_lt_t (hexec : p.tables.exec = Jvm.exec) (hb : c.code = cc) {x : Int32} {off : Int} {tgt : Nat} (hdg : decode cc pc = .ok (.ifCond .lt off, 3)) (ht : (pc : Int) + off = (tgt : Int)) (h : x < 0) (k : W p l e R s m args below meth c H locs cells slots Q (F0 m tgt ls rest)) : W p l e R s m args below meth c H locs cells slots Q (F0 m pc ls (.int x :: rest)) := lv_if_lt hexec hb hdg ht (fun _ => k) (fun q => absurd h q)
theorem k_if_lt_f (hexec : p.tables.exec = Jvm.exec) (hb : c.code = cc) {x : Int32} {off : Int} {tgt : Nat} (hdg : decode cc pc = .ok (.ifCond .lt off, 3)) (ht : (pc : Int) + off = (tgt : Int)) (h : ¬ x < 0) (k : W p l e R s m args below meth c H locs cells slots Q (F0 m (pc + 3) ls rest)) : W p l e R s m args below meth c H locs cells slots Q (F0 m pc ls (.int x :: rest)) := lv_if_lt hexec hb hdg ht (fun q => (absurd q h)) (fun _ => k)
theorem k_icmp_ge_t (hexec : p.tables.exec = Jvm.exec) (hb : c.code = cc) {x y : Int32} {off : Int} {tgt : Nat} (hdg : decode cc pc = .ok (.if_icmp .ge off, 3)) (ht : (pc : Int) + off = (tgt : Int)) (h : y ≤ x) (k : W p l e R s m args below meth c H locs cells slots Q (F0 m tgt ls rest)) : W p l e R s m args below meth c H locs cells slots Q (F0 m pc ls (.int y :: .int x :: rest)) := lv_icmp_ge hexec hb hdg ht (fun _ => k) (fun q => absurd h q)
theorem k_icmp_ge_f (hexec : p.tables.exec = Jvm.exec) (hb : c.code = cc) {x y : Int32} {off : Int} {tgt : Nat} (hdg : decode cc pc = .ok (.if_icmp .ge off, 3)) (ht : (pc : Int) + off = (tgt : Int)) (h : ¬ y ≤ x) (k : W p l e R s m args below meth c H locs cells slots Q (F0 m (pc + 3) ls rest)) : W p l e R s m args below meth c H locs cells slots Q (F0 m pc ls (.int y :: .int x :: rest)) := lv_icmp_ge hexec hb hdg ht (fun q => (absurd q h)) (fun _ => k)
theorem k_if_ge_t (hexec : p.tables.exec = Jvm.exec) (hb : c.code = cc) {x : Int32} {off : Int} {tgt : Nat} (hdg : decode cc pc = .ok (.ifCond .ge off, 3)) (ht : (pc : Int) + off = (tgt : Int)) (h : 0 ≤ x) (k : W p l e R s m args below meth c H locs cells slots Q (F0 m tgt ls rest)) : W p l e R s m args below meth c H locs cells slots Q (F0 m pc ls (.int x :: rest)) := lv_if_ge hexec hb hdg ht (fun _ => k) (fun q => absurd h q)
theorem k_if_ge_f (hexec : p.tables.exec = Jvm.exec) (hb : c.code = cc) {x : Int32} {off : Int} {tgt : Nat} (hdg : decode cc pc = .ok (.ifCond .ge off, 3)) (ht : (pc : Int) + off = (tgt : Int)) (h : ¬ 0 ≤ x) (k : W p l e R s m args below meth c H locs cells slots Q (F0 m (pc + 3) ls rest)) : W p l e R s m args below meth c H locs cells slots Q (F0 m pc ls (.int x :: rest)) := lv_if_ge hexec hb hdg ht (fun q => (absurd q h)) (fun _ => k)
theorem k_icmp_gt_t (hexec : p.tables.exec = Jvm.exec) (hb : c.code = cc) {x y : Int32} {off : Int} {tgt : Nat} (hdg : decode cc pc = .ok (.if_icmp .gt off, 3)) (ht : (pc : Int) + off = (tgt : Int)) (h : y < x) (k : W p l e R s m args below meth c H locs cells slots Q (F0 m tgt ls rest)) : W p l e R s m args below meth c H locs cells slots Q (F0 m pc ls (.int y :: .int x :: rest)) := lv_icmp_gt hexec hb hdg ht (fun _ => k) (fun q => absurd h q)
theorem k_icmp_gt_f (hexec : p.tables.exec = Jvm.exec) (hb : c.code = cc) {x y : Int32} {off : Int} {tgt : Nat} (hdg : decode cc pc = .ok (.if_icmp .gt off, 3)) (ht : (pc : Int) + off = (tgt : Int)) (h : ¬ y < x) (k : W p l e R s m args below meth c H locs cells slots Q (F0 m (pc + 3) ls rest)) : W p l e R s m args below meth c H locs cells slots Q (F0 m pc ls (.int y :: .int x :: rest)) := lv_icmp_gt hexec hb hdg ht (fun q => (absurd q h)) (fun _ => k)
theorem k_if_gt_t (hexec : p.tables.exec = Jvm.exec) (hb : c.code = cc) {x : Int32} {off : Int} {tgt : Nat} (hdg : decode cc pc = .ok (.ifCond .gt off, 3)) (ht : (pc : Int) + off = (tgt : Int)) (h : 0 < x) (k : W p l e R s m args below meth c H locs cells slots Q (F0 m tgt ls rest)) : W p l e R s m args below meth c H locs cells slots Q (F0 m pc ls (.int x :: rest)) := lv_if_gt hexec hb hdg ht (fun _ => k) (fun q => absurd h q)
theorem k_if_gt_f (hexec : p.tables.exec = Jvm.exec) (hb : c.code = cc) {x : Int32} {off : Int} {tgt : Nat} (hdg : decode cc pc = .ok (.ifCond .gt off, 3)) (ht : (pc : Int) + off = (tgt : Int)) (h : ¬ 0 < x) (k : W p l e R s m args below meth c H locs cells slots Q (F0 m (pc + 3) ls rest)) : W p l e R s m args below meth c H locs cells slots Q (F0 m pc ls (.int x :: rest)) := lv_if_gt hexec hb hdg ht (fun q => (absurd q h)) (fun _ => k)
theorem k_icmp_le_t (hexec : p.tables.exec = Jvm.exec) (hb : c.code = cc) {x y : Int32} {off : Int} {tgt : Nat} (hdg : decode cc pc = .ok (.if_icmp .le off, 3)) (ht : (pc : Int) + off = (tgt : Int)) (h : x ≤ y) (k : W p l e R s m args below meth c H locs cells slots Q (F0 m tgt ls rest)) : W p l e R s m args below meth c H locs cells slots Q (F0 m pc ls (.int y :: .int x :: rest)) := lv_icmp_le hexec hb hdg ht (fun _ => k) (fun q => absurd h q)
theorem k_icmp_le_f (hexec : p.tables.exec = Jvm.exec) (hb : c.code = cc) {x y : Int32} {off : Int} {tgt : Nat} (hdg : decode cc pc = .ok (.if_icmp .le off, 3)) (ht : (pc : Int) + off = (tgt : Int)) (h : ¬ x ≤ y) (k : W p l e R s m args below meth c H locs cells slots Q (F0 m (pc + 3) ls rest)) : W p l e R s m args below meth c H locs cells slots Q (F0 m pc ls (.int y :: .int x :: rest)) := lv_icmp_le hexec hb hdg ht (fun q => (absurd q h)) (fun _ => k)
theorem k_if_le_t (hexec : p.tables.exec = Jvm.exec) (hb : c.code = cc) {x : Int32} {off : Int} {tgt : Nat} (hdg : decode cc pc = .ok (.ifCond .le off, 3)) (ht : (pc : Int) + off = (tgt : Int)) (h : x ≤ 0) (k : W p l e R s m args below meth c H locs cells slots Q (F0 m tgt ls rest)) : W p l e R s m args below meth c H locs cells slots Q (F0 m pc ls (.int x :: rest)) := lv_if_le hexec hb hdg ht (fun _ => k) (fun q => absurd h q)
theorem k_if_le_f (hexec : p.tables.exec = Jvm.exec) (hb : c.code = cc) {x : Int32} {off : Int} {tgt : Nat} (hdg : decode cc pc = .ok (.ifCond .le off, 3)) (ht : (pc : Int) + off = (tgt : Int)) (h : ¬ x ≤ 0) (k : W p l e R s m args below meth c H locs cells slots Q (F0 m (pc + 3) ls rest)) : W p l e R s m args below meth c H locs cells slots Q (F0 m pc ls (.int x :: rest)) := lv_if_le hexec hb hdg ht (fun q => (absurd q h)) (fun _ => k)
end ZK
/-! ===== throws, with the word that the heap has grown ===== -/
/-- throws E, changes nothing, makes a cell at the least -/
abbrev zXg (E : String) (sz : Nat) : String → State → State → Prop := vx_X (fun (_ : Unit) => True) (fun E2 _ t => E2 = E ∧ sz + 1 ≤ t.heap.size) (fun _ => False)
/-- what a method wants that reads the cells w, may throw and catch, at a heap of size sz -/
abbrev kRd (D : va_G) (w : va_W) (tys : List (ClassId × FieldType)) (sz : Nat) : State → Prop := fun U => (zRd D w tys U ∧ U.heap.size = sz) ∧ zTh U
/-- answers val, changes nothing, makes k cells at the least -/
abbrev kPo (val : Int32) (sz k : Nat) : Array Value → State → Outcome → State → Prop := va_Qi (fun (r : Int32) (_ : Unit) => r = val) (fun _ t => sz + k ≤ t.heap.size) (fun _ => False)
section ZNT2
variable {p : Program} {l : Launch} {e : Env} {below : List Frame} {R : Room} {s : State} {m : MethodId} {args : Array Value} {meth : Method} {c : Code} {H : Heap} {locs : List Loc} {cells slots : Nat} {Q : State → Prop}
variable {mc ms : Nat} {free : Addr → Prop} {a : Array Value} {ls : Array Slot} {st0 rest : List Value}
variable {Qc : Array Value → State → Outcome → State → Prop} {XC : String → State → State → Prop}
theorem zthrowX2 {cc : ByteArray} {pc : Nat} (hexec : p.tables.exec = Jvm.exec) (hb : c.code = cc) (hl : l.stackTraces = false) {own cls text : String} {names : List String} {ik is ic ix mc ms sa : Nat} {rx : ByteArray} {A : Nat → Prop}
    (x0 : decode rx 0 = .ok (.aload_n 0, 1)) (x1 : decode rx 1 = .ok (.aload_n 1, 1)) (x2 : decode rx 2 = .ok (.invokespecial ix, 3)) (x5 : decode rx 5 = .ok (.return_, 1))
    (hown : s.vm.findClass own = some m.cls) (hcls : Bundle.fit cls = true) (hnames : ∀ n ∈ names, Bundle.fit n = true)
    (hk : (Cond.classLink own ik cls).before args s = true) (hini : (Cond.initialized cls).before args s = true) (hstr : vk_R own is text sa s) (hat : ∀ w ∈ vx_atX own ic cls ix rx names, w.before args s = true)
    (hgood : ∀ w ∈ Cond.classLink own ik cls :: Cond.initialized cls :: vx_atX own ic cls ix rx names, vx_ot w = true)
    (hU : vx_Zq Bundle.tN "UNASSIGNED_STACK" Bundle.steD A s s.heap) (hN : vx_Zq Bundle.tN "SUPPRESSED_SENTINEL" Bundle.listD A s s.heap) (hS : va_S A s.heap H locs) (hsize : ls.size = c.maxLocals)
    (d0 : decode cc pc = .ok (.new ik, 3)) (d3 : decode cc (pc + 3) = .ok (.dup, 1)) (d4 : decode cc (pc + 4) = .ok (.ldc is, 2)) (d6 : decode cc (pc + 6) = .ok (.invokespecial ic, 3)) (d9 : decode cc (pc + 9) = .ok (.athrow, 1))
    (hout : ∀ x ∈ c.exceptionTable.toList, covers x (pc + 9) = false)
    (hRframes : names.length + 3 < R.frames) (hRlocals : (rest.map fun v => v.category).sum + (13 * (names.length + 1) + 43) ≤ R.locals) (hRcells : cells + 1 ≤ R.cells) (hRslots : slots + 6 ≤ R.slots) (hlocks : meth.locks = false)
    (hx : ∀ t : State, s.vm.Alike t.vm → H.size + 1 ≤ t.heap.size → (∀ q : Nat, q < H.size → t.heap[q]? = H[q]?) → XC cls s t)
    (hf : ∀ z ∈ locs, free z.base) (hc : cells + 1 ≤ mc) (hs : slots + 6 ≤ ms) :
    W p l e R s m args below meth c H locs cells slots (vx_MQ below Qc XC args s mc ms free) (F0 m pc ls rest) := by
  intro T hT X
  have htr : e.platform.stackTraces = false := (show e.platform.stackTraces = l.stackTraces by rw [X.admits.platform]).trans hl
  have Y := vx_rebase X (R' := { frames := R.frames, locals := R.locals, cells := 1, slots := 6 }) (Nat.le_refl _) (Nat.le_refl _) hRcells hRslots
  obtain ⟨s', hA⟩ : ∃ z, z = (T.setVm s.vm).setFrames (.invoking m args :: below) := ⟨_, rfl⟩
  rw [← hA] at Y
  have hvm : s'.vm = s.vm := by rw [hA]; rfl
  have hhp : s'.heap = H := by rw [hA]; exact hT
  have hW0 : s.WarmedH s'.vm := by rw [hvm]; exact State.WarmedH.refl s
  have hat' : ∀ w ∈ vx_atX own ic cls ix rx names, w.before args s' = true := fun w hw => vx_ot_at hW0 hvm.symm (hgood w (List.mem_cons_of_mem _ (List.mem_cons_of_mem _ hw))) (hat w hw)
  have hk' : (Cond.classLink own ik cls).before args s' = true := vx_ot_at hW0 hvm.symm (hgood _ List.mem_cons_self) hk
  have hini' : (Cond.initialized cls).before args s' = true := vx_ot_at hW0 hvm.symm (hgood _ (List.mem_cons_of_mem _ List.mem_cons_self)) hini
  have hU' : vx_Zq Bundle.tN "UNASSIGNED_STACK" Bundle.steD A s' s'.heap := by rw [hhp]; exact vx_Zq.moved hW0.alike (hU.kept hS.2.1)
  have hN' : vx_Zq Bundle.tN "SUPPRESSED_SENTINEL" Bundle.listD A s' s'.heap := by rw [hhp]; exact vx_Zq.moved hW0.alike (hN.kept hS.2.1)
  have h : ∀ w ∈ Bundle.ownAtomsX own ic cls ix rx names, w.before args s' = true := vx_own hat' (vx_isRefq hU'.1) (vx_isRefq hN'.1) hU'.2.word hN'.2.word
  have hown' : s'.vm.findClass own = some m.cls := by rw [hvm]; exact hown
  have hins : (Cond.instantiable cls 6).before args s' = true := h _ (by simp [Bundle.ownAtomsX])
  obtain ⟨vm₁, cX, kX, hfX, hkX, -, -, X₁, st1⟩ := Y.newCold hexec (own := own) (C := cls) (index := ik) (n := 6) hown' hk' hins hini'
    (g := F0 m pc ls rest) rfl (by rw [hb]; exact d0) (Nat.le_refl _) (Nat.le_refl _)
  generalize hT1 : (T.setVm vm₁).pushCell { cls := cX, slots := kX.instanceTypes.map defaultValue, vm := .none } = T1 at X₁ st1
  have hcat : (Value.ref T.heap.size).category = 1 := rfl
  have hcellA : T1.heap[T.heap.size]? = some (freshCell cX kX) := by rw [← hT1]; exact State.heap_pushCell_size _ _
  have d3' : decode c.code (pc + 3) = .ok (.dup, 1) := by rw [hb]; exact d3
  have d4' : decode c.code (pc + 4) = .ok (.ldc is, 2) := by rw [hb]; exact d4
  have hstr' : vk_R own is text sa s' := vk_R.warm hW0 hstr
  obtain ⟨U, hsteps, hrun, hend, hW, hsame, ce, hce, hoc, hov⟩ := zctorX X₁ hexec htr (own := own) (cls := cls) (names := names) (ic := ic) x0 x1 x2 x5 hown' hcls hnames h (fun x hx => nomatch hx) hfX hkX hcellA (by rw [hhp, hT]; exact Nat.le_refl _) (msg := .ref sa) rfl
    (g := { method := m, pc := pc + 6, locals := ls, stack := .ref sa :: .ref T.heap.size :: .ref T.heap.size :: rest, locked := none }) rfl hsize rfl rfl (rest := rest) rfl
    (by rw [hb]; exact d6) (by rw [hb]; exact d9) hout hRframes (by simp only [List.map_cons, List.sum_cons, hcat]; omega) hlocks
  obtain ⟨f1, f2⟩ := vx_frame hsame
  rw [hhp] at f1 f2
  have hWs : s.WarmedH U.vm := State.WarmedH.trans hW0 hW
  have hcl : s.vm.findClass cls = some ce.cls := by
    rw [hoc, ← hvm]; exact hfX
  have hall : s.sameButNew ({ U with vm := s.vm } : State) locs mc ms := by
    subst hA
    obtain ⟨e1, e2⟩ := hsame
    rw [State.setFrames_setFrames] at e1
    have h2 : (T.setVm s.vm).sameButNew ({ U with vm := s.vm } : State) [] (0 + 1) (0 + 6) := ⟨e1, e2⟩
    have h3 := X.same.trans h2
    rw [List.append_nil] at h3
    exact h3.mono hc hs
  refine ⟨U, ?_, .threw T.heap.size, hrun, hend, Or.inr ⟨T.heap.size, rfl, cls, ce, locs, hx U hWs.alike (by have h9 := (Array.getElem?_eq_some_iff.mp hce).1; rw [hT] at h9; exact h9) (fun q hq => f2 q hq (fun z hz => nomatch hz)), hce, hov, hcl, hWs, hall, hf⟩⟩
  refine st1 _ ?_
  show Steps p.tables e below (T1.setTop { method := m, pc := pc + 3, locals := ls, stack := .ref T.heap.size :: rest, locked := none }) _
  jvm_step X₁.here [X₁.here.top, hexec, d3', Value.category]
  exact X₁.ldcString hexec (own := own) (text := text) (index := is) (a := sa) hown' hstr'.1 hstr'.2
    (g := { method := m, pc := pc + 4, locals := ls, stack := .ref T.heap.size :: .ref T.heap.size :: rest, locked := none }) rfl d4' _ hsteps
end ZNT2
section ZX2
variable {p : Program} {l : Launch} {e : Env} {R : Room} {s : State} {m : MethodId} {args : Array Value} {below : List Frame} {meth : Method} {c : Code} {H : Heap} {locs : List Loc} {cells slots : Nat} {Q : State → Prop}
variable {cc : ByteArray} {pc : Nat} {ls : Array Slot} {rest st0 : List Value} {y : MethodName} {bytes : ByteArray} {maxL nL n index mc ms : Nat} {ret : Option FieldType} {ws Ts : List Cond} {rm : Room} {own C : String} {As : List Value} {A0 : Nat → Prop} {H0 : Heap} {lv : List (Nat × Value)} {Qc : Array Value → State → Outcome → State → Prop}
theorem zXk2 {E : String} {t : State} {n1 : Nat} (hn1 : n1 = s.heap.size) (hS : va_S (fun _ => False) s.heap H locs) (hz : H.size + 1 ≤ t.heap.size) (hk : ∀ q : Nat, q < H.size → t.heap[q]? = H[q]?) : zXg E n1 E s t :=
  ⟨(), trivial, ⟨rfl, by have := hS.1; omega⟩, Nat.le_trans hS.1 (Nat.le_of_succ_le hz), fun q h1 h2 => (hk q (Nat.lt_of_lt_of_le h1 hS.1)).trans (hS.2.1 q h1 h2)⟩
theorem zthrowN2 {text : String} {is n1 : Nat} (hn1 : n1 = s.heap.size) (hx : p.tables.exec = Jvm.exec) (hb : c.code = cc) (hfl : l.stackTraces = false) (hown : s.vm.findClass RX0 = some m.cls) (hq : (is, text) ∈ zStr)
    (hk : (Cond.classLink RX0 95 nNSE).before args s = true) (hini : (Cond.initialized nNSE).before args s = true) (h1 : ∀ w ∈ zat99.filter goodWord, w.before args s = true) (h2 : ∀ w ∈ zat99.filter (fun w => !goodWord w), w ∈ [Cond.declares (Bundle.initS "java/lang/RuntimeException"), .declares (Bundle.initS "java/lang/Exception"), .declares (Bundle.initS Bundle.tN), .castable nNSE nNSE])
    (hgood : ∀ w ∈ Cond.classLink RX0 95 nNSE :: Cond.initialized nNSE :: zat99, vx_ot w = true) (hT : zTh s) (hS : va_S (fun _ => False) s.heap H locs) (hsize : ls.size = c.maxLocals)
    (d0 : decode cc pc = .ok (.new 95, 3)) (d3 : decode cc (pc + 3) = .ok (.dup, 1)) (d4 : decode cc (pc + 4) = .ok (.ldc is, 2)) (d6 : decode cc (pc + 6) = .ok (.invokespecial 99, 3)) (d9 : decode cc (pc + 9) = .ok (.athrow, 1))
    (hto : ∀ x ∈ c.exceptionTable.toList, False) (hRf : 6 ≤ R.frames) (hRl : (rest.map fun v => v.category).sum + 82 ≤ R.locals) (hRc : 0 + 1 ≤ R.cells) (hRs : 0 + 6 ≤ R.slots) (hlocks : meth.locks = false) :
    W p l e R s m args below meth c H locs 0 0 (vx_MQ below Qc (zXg nNSE n1) args s 1 6 zNo) (F0 m pc ls rest) := by
  obtain ⟨a, ha⟩ := hT.2.2.2.2.2 (is, text) hq
  have hat : ∀ w ∈ zat99, w.before args s = true := vx_hat h1 h2 (vx_c (va_Nw.use rfl (hT.1 _ (by simp))) (vx_c (va_Nw.use rfl (hT.1 _ (by simp))) (vx_c (va_Nw.use rfl (hT.1 _ (by simp))) (vx_c (va_Nw.use rfl (hT.2.1 nNSE (by simp))) vx_n))))
  exact zthrowX2 (names := zNm) hx hb hfl zrx_0 zrx_1 zrx_2 zrx_5 hown (by decide +kernel) (by decide +kernel) hk hini ha hat hgood hT.2.2.2.1 hT.2.2.2.2.1 hS hsize d0 d3 d4 d6 d9 (fun x hx => (hto x hx).elim) hRf hRl hRc hRs hlocks (fun t _ hz hk => zXk2 hn1 hS hz hk) (fun z hz => hS.2.2 z hz) (Nat.le_refl _) (Nat.le_refl _)
theorem zxout2 {E E2 : String} {ce : Cell} {q9 : Addr} {n1 n2 : Nat} (hn1 : n1 = s.heap.size) (hto : ∀ x ∈ c.exceptionTable.toList, False) (hlocks : meth.locks = false) (he : E2 = E) (hg : n1 + 1 ≤ H.size) (hS : va_S (fun _ => False) s.heap H locs) (hce : H[q9]? = some ce) (hcv : ce.vm = .none) (hcl : s.vm.findClass E2 = some ce.cls) : vx_W p l e R s m args below meth c H locs 1 6 (vx_MQ below Qc (zXg E n1) args s 1 6 zNo) (F0 m pc ls rest) q9 := by
  subst he
  exact vx_out (fun x hx => (hto x hx).elim) hlocks hce hcv hcl (fun t ht _ => ⟨(), trivial, ⟨rfl, by rw [ht]; exact hg⟩, by rw [ht]; exact hS.1, fun q h1 h2 => by rw [ht]; exact hS.2.1 q h1 h2⟩) (fun z hz => hS.2.2 z hz) (Nat.le_refl _) (Nat.le_refl _)
/-- a call by name of what throws -/
theorem zxV2 {E : String} {D : va_G} {w : va_W} {tys : List (ClassId × FieldType)} {b ci n1 : Nat} {T : u_T} {N0 : Nat} {fs : List Value} (hn1 : n1 = s.heap.size) (q0 : Nat) (cf : CallFix p m c cc nL s args Ts own) (hM : vx_Met l y ws rm (va_Pc (.ref b :: As) (kRd D w tys H.size)) zNv (zXg E H.size) 1 6 zNo) (cw : CallW R s args own C index y bytes maxL ret ws rm 1 6 n) (hK : va_K D vwCl tys s) (hP : va_P D vwCl w H) (hT : zTh s) (he : w[q0]? = some (b, .inr (ci, fs))) (hc : vwCl[ci]? = some (C, T, N0)) (hn : As.length = n) (hl : lv_has ls nL lv) (hst : st0 = As.reverse ++ .ref b :: rest) (hrm : (rest.map fun v => v.category).sum ≤ 8) (hdg : decode cc pc = .ok (.invokevirtual index, 3)) (hf : 0 + 1 ≤ R.cells ∧ 0 + 6 ≤ R.slots) (hS : va_S (fun _ => False) s.heap H locs) (hto : ∀ x ∈ c.exceptionTable.toList, False) (hlocks : meth.locks = false) :
    W p l e R s m args below meth c H locs 0 0 (vx_MQ below Qc (zXg E n1) args s 1 6 zNo) (F0 m pc ls st0) := by
  subst hst
  exact vx_callv (vx_runV cf hM cw ⟨fun a U g mk q => ⟨q.1, ⟨⟨q.2.1.1.1, va_K.moved (u := U) (U := U.calling g mk a) (Vm.Alike.refl U.vm) q.2.1.1.2⟩, q.2.1.2⟩, q.2.2.same rfl rfl⟩, va_recv hK hP hc he, fun U hU hW => ⟨rfl, ⟨⟨by rw [hU]; exact hP, va_K.moved hW.alike hK⟩, by rw [hU]⟩, hT.move hW ⟨by rw [hU]; exact hS.1, fun q h => by rw [hU]; exact hS.2.1 q h (fun z => z)⟩⟩⟩ rfl hn hl.1 rfl (lv_room hrm) hdg hf) hS (fun _ _ h => h.elim) (fun _ h => h.elim) (fun _ _ h => h.elim)
    (fun E2 ce q9 u t H1 locs1 ht hvm hp hB hz hk hS1 hce hcv hcl => zxout2 (n2 := 0) hn1 hto hlocks hB.1 (by have h9 := hB.2; rw [ht] at h9; have := hS.1; omega) hS1 hce hcv hcl) (fun u t H1 locs1 ht hvm hw hB hz hk hS1 => hw.elim)
/-- a static call that reads the cells w, of a method without handlers -/
theorem kS {val : Int32} {k : Nat} {D : va_G} {w : va_W} {tys : List (ClassId × FieldType)} (cf : CallFix p m c cc nL s args Ts own) (hM : vx_Met l y ws rm (va_Pc As (kRd D w tys H.size)) (kPo val H.size k) zXn mc ms zNo) (cw : CallB R s args own index y bytes maxL ret ws rm mc ms n ∧ (Cond.static y).before args s = true) (hK : va_K D vwCl tys s) (hP : va_P D vwCl w H) (hT : ∀ U : State, U.heap = H → s.WarmedH U.vm → zTh U) (hn : As.length = n) (hl : lv_has ls nL lv) (hst : st0 = As.reverse ++ rest) (hrm : (rest.map fun v => v.category).sum ≤ 8) (hdg : decode cc pc = .ok (.invokestatic index, 3)) (hf : cells + mc ≤ R.cells ∧ slots + ms ≤ R.slots) (hS : va_S A0 H0 H locs)
    (kk : ∀ (H1 : Heap) (locs1 : List Loc), zKp H H1 → H.size + k ≤ H1.size → va_S A0 H0 H1 locs1 → W p l e R s m args below meth c H1 locs1 (cells + mc) (slots + ms) Q (F0 m (pc + 3) ls (.int val :: rest))) : W p l e R s m args below meth c H locs cells slots Q (F0 m pc ls st0) := by
  subst hst
  exact vx_calli (vx_runS cf hM cw ⟨fun a U g mk q => ⟨q.1, ⟨⟨q.2.1.1.1, va_K.moved (u := U) (U := U.calling g mk a) (Vm.Alike.refl U.vm) q.2.1.1.2⟩, q.2.1.2⟩, q.2.2.same rfl rfl⟩, fun U hU hW => ⟨rfl, ⟨⟨by rw [hU]; exact hP, va_K.moved hW.alike hK⟩, by rw [hU]⟩, hT U hU hW⟩⟩ rfl hn hl.1 rfl (lv_room hrm) hdg hf) hS (fun _ _ h => h.elim) (fun _ h => h.elim) (fun _ _ h => h.elim) (fun E2 ce q9 u t H1 locs1 ht hvm hp hB hz hk hS1 hce hcv hcl => hp.elim)
    (fun r u t H1 locs1 ht hvm hw hB hz hk hS1 => by
      obtain rfl : r = val := hw
      exact kk H1 locs1 ⟨hz, fun q h => hk q h (fun z => z)⟩ (by have h9 := hB; rw [ht] at h9; exact h9) hS1)
/-- .. of a method with handlers -/
theorem kSW {hh : List (Nat × Nat × Nat × Nat)} {val : Int32} {k : Nat} {D : va_G} {w : va_W} {tys : List (ClassId × FieldType)} (cf : CallFix p m c cc nL s args Ts own) (hM : vx_Met l y ws rm (va_Pc As (kRd D w tys H.size)) (kPo val H.size k) zXn mc ms zNo) (cw : vx_CSW R s args own index y bytes maxL ret hh ws rm mc ms n) (hK : va_K D vwCl tys s) (hP : va_P D vwCl w H) (hT : ∀ U : State, U.heap = H → s.WarmedH U.vm → zTh U) (hn : As.length = n) (hl : lv_has ls nL lv) (hst : st0 = As.reverse ++ rest) (hrm : (rest.map fun v => v.category).sum ≤ 8) (hdg : decode cc pc = .ok (.invokestatic index, 3)) (hf : cells + mc ≤ R.cells ∧ slots + ms ≤ R.slots) (hS : va_S A0 H0 H locs)
    (kk : ∀ (H1 : Heap) (locs1 : List Loc), zKp H H1 → H.size + k ≤ H1.size → va_S A0 H0 H1 locs1 → W p l e R s m args below meth c H1 locs1 (cells + mc) (slots + ms) Q (F0 m (pc + 3) ls (.int val :: rest))) : W p l e R s m args below meth c H locs cells slots Q (F0 m pc ls st0) := by
  subst hst
  exact vx_calli (vx_runSX cf hM cw ⟨fun a U g mk q => ⟨q.1, ⟨⟨q.2.1.1.1, va_K.moved (u := U) (U := U.calling g mk a) (Vm.Alike.refl U.vm) q.2.1.1.2⟩, q.2.1.2⟩, q.2.2.same rfl rfl⟩, fun U hU hW => ⟨rfl, ⟨⟨by rw [hU]; exact hP, va_K.moved hW.alike hK⟩, by rw [hU]⟩, hT U hU hW⟩⟩ rfl hn hl.1 rfl (lv_room hrm) hdg hf) hS (fun _ _ h => h.elim) (fun _ h => h.elim) (fun _ _ h => h.elim) (fun E2 ce q9 u t H1 locs1 ht hvm hp hB hz hk hS1 hce hcv hcl => hp.elim)
    (fun r u t H1 locs1 ht hvm hw hB hz hk hS1 => by
      obtain rfl : r = val := hw
      exact kk H1 locs1 ⟨hz, fun q h => hk q h (fun z => z)⟩ (by have h9 := hB; rw [ht] at h9; exact h9) hS1)
/-- a static call that writes the cells wc, of a method without handlers -/
theorem kSwi {SU : Type} {D : va_G} {w wc wr : va_W} {w1 : SU → va_W} {tys : List (ClassId × FieldType)} {post : Int32 → SU → Prop} (isC isR : List Nat) (hC : isC.map (fun i => w[i]?) = wc.map some) (hR : isR.map (fun i => w[i]?) = wr.map some) (hn2 : va_nd isR = true) (hdis : ∀ i ∈ isR, i ∉ isC) (hw1 : ∀ u, (w1 u).map (fun q => q.1) = wc.map (fun q => q.1)) (cf : CallFix p m c cc nL s args Ts own) (hM : vx_Met l y ws rm (va_Pc As (zWr D wc tys H.size)) (va_Qi post (fun u t => va_P D vwCl (w1 u) t.heap) (va_A wc H.size)) zXn mc ms (va_A wc H.size)) (cw : CallB R s args own index y bytes maxL ret ws rm mc ms n ∧ (Cond.static y).before args s = true) (hK : va_K D vwCl tys s) (hP : va_P D vwCl w H) (hPc : va_P D vwCl wc H) (hD : va_D A0 w) (hDc : va_D A0 wc) (hA : ∀ q, H0.size ≤ q → A0 q) (hn : As.length = n) (hl : lv_has ls nL lv) (hst : st0 = As.reverse ++ rest) (hrm : (rest.map fun v => v.category).sum ≤ 8) (hdg : decode cc pc = .ok (.invokestatic index, 3)) (hf : cells + mc ≤ R.cells ∧ slots + ms ≤ R.slots) (hS : va_S A0 H0 H locs)
    (kk : ∀ (r : Int32) (u : SU) (H1 : Heap) (locs1 : List Loc), post r u → va_P D vwCl (wr ++ w1 u) H1 → H.size ≤ H1.size → va_S A0 H0 H1 locs1 → W p l e R s m args below meth c H1 locs1 (cells + mc) (slots + ms) Q (F0 m (pc + 3) ls (.int r :: rest))) : W p l e R s m args below meth c H locs cells slots Q (F0 m pc ls st0) := by
  subst hst
  have hF := va_free (wc := wc) hD hS hA isC hC
  exact vx_calli (vx_runS cf hM cw ⟨fun a U g mk q => ⟨q.1, q.2.1, q.2.2.1, va_K.moved (u := U) (U := U.calling g mk a) (Vm.Alike.refl U.vm) q.2.2.2.1, q.2.2.2.2⟩, fun U hU hW => ⟨rfl, by rw [hU], by rw [hU]; exact hPc, va_K.moved hW.alike hK, hDc.weaken (fun _ _ _ _ => trivial)⟩⟩ rfl hn hl.1 rfl (lv_room hrm) hdg hf) hS (fun q _ h => hF q h) hF (fun _ _ h => h.elim) (fun E2 ce q9 u t H1 locs1 ht hvm hp hB hz hk hS1 hce hcv hcl => hp.elim)
    (fun r u t H1 locs1 ht hvm hw hB hz hk hS1 => kk r u H1 locs1 hw (va_join hP hD isC isR hC hR hn2 hdis hk hF (ht ▸ hB) (zD (hDc.self (A := A0)) (hw1 u))).1 hz hS1)
/-- .. with handlers, that takes all cells -/
theorem kSWwi {hh : List (Nat × Nat × Nat × Nat)} {SU : Type} {D : va_G} {wc : va_W} {w1 : SU → va_W} {tys : List (ClassId × FieldType)} {post : Int32 → SU → Prop} (is : List Nat) (hC : is.map (fun i => wc[i]?) = wc.map some) (cf : CallFix p m c cc nL s args Ts own) (hM : vx_Met l y ws rm (va_Pc As (zWr D wc tys H.size)) (va_Qi post (fun u t => va_P D vwCl (w1 u) t.heap) (va_A wc H.size)) zXn mc ms (va_A wc H.size)) (cw : vx_CSW R s args own index y bytes maxL ret hh ws rm mc ms n) (hK : va_K D vwCl tys s) (hP : va_P D vwCl wc H) (hD : va_D A0 wc) (hA : ∀ q, H0.size ≤ q → A0 q) (hn : As.length = n) (hl : lv_has ls nL lv) (hst : st0 = As.reverse ++ rest) (hrm : (rest.map fun v => v.category).sum ≤ 8) (hdg : decode cc pc = .ok (.invokestatic index, 3)) (hf : cells + mc ≤ R.cells ∧ slots + ms ≤ R.slots) (hS : va_S A0 H0 H locs)
    (kk : ∀ (r : Int32) (u : SU) (H1 : Heap) (locs1 : List Loc), post r u → va_P D vwCl (w1 u) H1 → va_S A0 H0 H1 locs1 → W p l e R s m args below meth c H1 locs1 (cells + mc) (slots + ms) Q (F0 m (pc + 3) ls (.int r :: rest))) : W p l e R s m args below meth c H locs cells slots Q (F0 m pc ls st0) := by
  subst hst
  have hF := va_free (wc := wc) hD hS hA is hC
  exact vx_calli (vx_runSX cf hM cw ⟨fun a U g mk q => ⟨q.1, q.2.1, q.2.2.1, va_K.moved (u := U) (U := U.calling g mk a) (Vm.Alike.refl U.vm) q.2.2.2.1, q.2.2.2.2⟩, fun U hU hW => ⟨rfl, by rw [hU], by rw [hU]; exact hP, va_K.moved hW.alike hK, hD.weaken (fun _ _ _ _ => trivial)⟩⟩ rfl hn hl.1 rfl (lv_room hrm) hdg hf) hS (fun q _ h => hF q h) hF (fun _ _ h => h.elim) (fun E2 ce q9 u t H1 locs1 ht hvm hp hB hz hk hS1 hce hcv hcl => hp.elim)
    (fun r u t H1 locs1 ht hvm hw hB hz hk hS1 => kk r u H1 locs1 hw (ht ▸ hB) hS1)
end ZX2
end
section
/-! ===== the network without edges ===== -/
abbrev zf : Nat → Int32 := fun _ => 0
abbrev z0 : Nat → Nat := fun _ => 0
abbrev wZ (h a0 a1 a2 : Nat) (cy : ClassId) (N : Nat) (tr : Nat → Int32) : va_W := wB h a0 a1 a2 cy N (nI 0) (nI 0) zf zf tr
theorem zcs (N : Nat) : csI zf z0 N := fun _ _ => ⟨nI_0.symm, Nat.zero_lt_succ 19⟩
theorem zf_b (u v : Nat) : bt (zf u) v = false := b_0 v
theorem zgd {N : Nat} (hN : N ≤ 20) : gd zf N := ⟨hN, fun u v _ h => (by rw [zf_b] at h; cases h), fun _ _ _ => rfl⟩
theorem zrow (u : Nat) : zpop (zf u) = 0 := pop_0
theorem zcst0 {N : Nat} (hN : N ≤ 20) : cst z0 N 0 = zal N := set_ext fun i => by
  rw [b_cst hN, b_al hN, decide_eq_true_iff]
  exact ⟨fun q => q.1, fun q => ⟨q, Int.le_refl _⟩⟩
theorem zcst1 {N : Nat} (hN : N ≤ 20) {k : Int} (hk : 0 < k) : cst z0 N k = 0 := set_ext fun i => by
  rw [b_cst hN, b_0]
  exact ⟨fun q => by have := q.2; exact absurd this (by show ¬ k ≤ ((0 : Nat) : Int); omega), fun q => by cases q⟩
theorem zt0 : (nI 0).toInt = 0 := by decide
theorem zt1 : (nI 1).toInt = 1 := by decide
theorem zcmp {z : Int32} {u : Nat} (h : bt z u = true) : cmp zf z u = zsg u := by
  have hu := b_32 h
  refine (cmp_of ⟨fun i hi => by rw [(b_sgt hu).mp hi]; exact h, fun i h1 _ => h1, fun v _ w hw _ => (by rw [zf_b] at hw; cases hw), fun T hT _ i hi => hT i hi (by rw [(b_sgt hu).mp hi]; exact h)⟩).symm
theorem pop_sg : ∀ j, j < 32 → zpop (zsg j) = 1 := by decide +kernel
theorem zb_al0 {N u : Nat} (hN : N ≤ 20) (hu : u < N) : bt (cst z0 N 0) u = true := (b_cst hN).mpr ⟨hu, Int.le_refl _⟩
theorem zcom0 {N u : Nat} (hN : N ≤ 20) (hu : u < N) : zpop (cmp zf (cst z0 N (nI 0).toInt) u) = 1 := by
  rw [zt0, zcmp (zb_al0 hN hu)]
  exact pop_sg u (by omega)
theorem zcom1 {N u : Nat} (hN : N ≤ 20) (hu : u < N) : zpop (cmp zf (cst z0 N (nI 1).toInt) u) = 0 := by
  rw [zt1, zcst1 hN (by decide), cmp_0 (by omega) (b_0 u)]
  exact pop_0
theorem ztg_same {N u : Nat} (hN : N ≤ 20) (hu : u < N) : tgk zf z0 N u u 20 = 0 + 1 :=
  tgk_top (m := 0) (cmp_in (zb_al0 hN hu)) 20 (by decide) (fun j h1 _ => cmp_hi hN hu h1)
theorem ztg_none {N u v : Nat} (hN : N ≤ 20) (hu : u < N) (huv : u ≠ v) : tgk zf z0 N u v 20 = 0 := tgk_zero 20 fun j _ => by
  rcases Nat.eq_zero_or_pos j with rfl | hj
  · have e : cmp zf (cst z0 N ((0 : Nat) : Int)) u = zsg u := zcmp (zb_al0 hN hu)
    rw [e, b_sg (by omega)]
    exact decide_eq_false (fun q => huv q.symm)
  · exact cmp_hi hN hu hj
theorem zdeg0 {N d : Nat} (h : isMx z0 N d) : d = 0 := by
  rcases h.2 with q | ⟨v, _, q⟩
  · exact q
  · exact q.symm
theorem ztr {N : Nat} {k : Int} {g : Nat → Int32} (h : isTr zf N k g) : tE g N = 0 := by
  have h1 : tE g N ≤ fb_sm (fun _ => 0) N := fb_sm_le fun u hu => by
    have := pop_le (h.1.1 u hu)
    rw [zrow] at this
    exact this
  rw [fb_sm_const] at h1
  omega
/-- how many communities there are at level 0 -/
noncomputable def kC (N : Nat) : Nat := ccn zf N (cst z0 N 0) (cst z0 N 0)
theorem zcomm0 (N : Nat) : ccn zf N (cst z0 N (nI 0).toInt) (cst z0 N (nI 0).toInt) = kC N := by rw [zt0]; rfl
theorem zcomm1 {N : Nat} (hN : N ≤ 20) : ccn zf N (cst z0 N (nI 1).toInt) (cst z0 N (nI 1).toInt) = 0 := by
  rw [zt1, zcst1 hN (by decide)]
  exact fb_ct_zero.mpr fun i _ => by
    cases q : fst1 zf 0 0 i
    · rfl
    · have := (fst1_t.mp q).1
      rw [b_0] at this
      cases this
theorem zhie {N : Nat} (hN : N ≤ 20) : fb_sm (hie zf z0 N) (0 + 1) = kC N := by
  have e : shl z0 N 0 = cst z0 N 0 := by
    show cst z0 N ((0 : Nat) : Int) &&& znt (cst z0 N (((0 : Nat) : Int) + 1)) = cst z0 N 0
    rw [zcst1 hN (k := ((0 : Nat) : Int) + 1) (by decide)]
    refine set_ext fun i => ?_
    rw [b_dift, b_0]
    exact ⟨fun q => q.1, fun q => ⟨q, Bool.false_ne_true⟩⟩
  show 0 + hie zf z0 N 0 = kC N
  rw [Nat.zero_add]
  unfold hie kC
  rw [e]
  rfl
theorem zpe0 : (npk zf (dsk zf 2 0).1 2).1 = 0 := by decide +kernel
theorem zpe1 : (npk zf (dsk zf 2 1).1 2).1 = 1 := by decide +kernel
theorem zds : zpop (dsk zf 2 (2 - 1)).2.1 = 2 := by decide +kernel
theorem zde0 : bt (dsk zf 2 (2 - 1)).2.1 0 = true := by decide +kernel
theorem zde1 : bt (dsk zf 2 (2 - 1)).2.1 1 = true := by decide +kernel
theorem zew2 : nI 0 = nI (ewn zf 2 (zal 2)) := by decide +kernel
theorem ztri1 : fb_sm (trs zf 1) 1 / 3 = 0 := by decide +kernel
theorem ztri2 : fb_sm (trs zf 2) 2 / 3 = 0 := by decide +kernel
theorem zcz0 : zpop (cst z0 2 (nI 0).toInt) = 2 := by decide +kernel
theorem zcz1 : zpop (cst z0 2 (nI 1).toInt) = 0 := by decide +kernel
theorem zdc : ddc 0 2 = true := by decide +kernel
theorem zdn : dnv zf 2 = ddq 0 2 := by
  unfold dnv
  rw [if_neg (by decide), show (dsk zf 2 (2 - 1)).2.2 = 0 by decide +kernel, zds]
theorem zdq : FP.dcmp (ddq 0 2) (ddq 0 2) = some .eq := by
  have h := zdc
  unfold ddc at h
  rw [Bool.and_eq_true, decide_eq_true_iff, decide_eq_true_iff] at h
  exact h.2
set_option maxHeartbeats 4000000 in
set_option maxRecDepth 100000 in
theorem c_X0_checkEdge_none2 (l : Launch) (hfl : l.stackTraces = false) (D : va_G) (cy : ClassId) (h a0 a1 a2 N : Nat) (ec cc : Int32) (f cs tr : Nat → Int32) (sz : Nat) (u v : Nat) (hN : N ≤ 20) (hu : u < N) (hv : v < N) (he : bt (f u) v = false) : vx_Met l yX0_checkEdge wsX0_checkEdge ({ frames := 6, cells := 1, slots := 6, locals := 82 } : Room) (va_Pc [.ref h, .int (nI u), .int (nI v)] (kRd D (wB h a0 a1 a2 cy N ec cc f cs tr) [(cy, .int)] sz)) zNv (zXg nNSE sz) 1 6 zNo := by
  refine vx_ofW (cc := cX0_checkEdge) (maxL := 3) (ret := none) (by decide) rfl ?_
  intro p e s m args below meth c s₁ B hml hto hv
  obtain ⟨rfl, ⟨⟨hP, hK⟩, hsz⟩, hT⟩ := hv
  have hx := B.exec
  have hb := B.bytes
  have hr := B.returns
  have hts := atoms_spec (ws := wsX0_checkEdge) B.pre
  have hown : s.vm.findClass RX0 = some m.cls := findClass_of_methodNamed B.named
  have hlocks := B.notSynchronized
  have hS : va_S (fun _ => False) s.heap s.heap [] := va_S.rf
  have hin : ∀ w ∈ wsX00, w ∈ wsX0_checkEdge := by decide +kernel
  have hf9 := hts (.fieldLink RX0 9 "Corebarn" "neighbours" "[I") (by decide +kernel)
  have hl := lv_entry ([.ref h, .int (nI u), .int (nI v)]) (n := 3) (Nat.le_of_ble_eq_true rfl)
  rw [lg_entry_eq]
  generalize (lg_sl ([.ref h, .int (nI u), .int (nI v)]) ++ List.replicate (3 - (lg_sl ([.ref h, .int (nI u), .int (nI v)])).length) Slot.unset).toArray = ls at hl ⊢
  have hl : lv_has ls 3 [(0, .ref h), (1, .int (nI u)), (2, .int (nI v))] := hl
  refine lv_aload_n hx hb dX0_checkEdge_0 rfl (lv_at hl 0 rfl) ?_
  refine va_get (D := D) (ci := 0) (v := .ref a0) (C := RX0) (T := TX0) (N := 6) hx hb hts hin hown hK hP 0 rfl rfl 0 (by decide) hf9 (fun _ h9 => h9) rfl dX0_checkEdge_1 ?_
  refine lv_iload_n hx hb dX0_checkEdge_4 rfl (lv_at hl 1 rfl) ?_
  refine z_iald hx hb hK hP 1 0 rfl rfl (by omega) (by decide) dX0_checkEdge_5 ?_
  refine lv_iload_n hx hb dX0_checkEdge_6 rfl (lv_at hl 2 rfl) ?_
  refine zrS0 (As := [.int (f u), .int (nI v)]) (rest := []) ⟨hx, hb, hml, hown, hts⟩ (c_X0_contains l (f u) v (by omega)) (va_cwS 2 hts gX0_checkEdge_X0_contains rfl rfl rfl (by decide +kernel) ⟨Nat.le_of_ble_eq_true rfl, Nat.le_of_ble_eq_true rfl⟩) rfl hl rfl (Nat.le_of_ble_eq_true rfl) dX0_checkEdge_7 ⟨Nat.le_of_ble_eq_true rfl, Nat.le_of_ble_eq_true rfl⟩ hS (fun r7 H locs hw7 hk9 hS => ?_)
  obtain rfl : r7 = (zb (bt (f u) v)) := hw7
  have hP := zkeep hP hk9
  rw [he]
  refine z_ifb_false_ne (tgt := 23) hx hb dX0_checkEdge_10 (by decide) ?_
  exact zthrowN2 hsz.symm (cc := cX0_checkEdge) (rest := []) (text := "there is no such edge") (is := 139) hx hb hfl hown (by decide +kernel) (hts (.classLink RX0 95 nNSE) (by decide +kernel)) (hts (.initialized nNSE) (by decide +kernel)) (fun w h => hts w (List.mem_cons_of_mem _ (List.mem_append_right _ h))) zh2_99 zg_99 hT hS (by rw [hml]; exact hl.1) dX0_checkEdge_13 dX0_checkEdge_16 dX0_checkEdge_17 dX0_checkEdge_19 dX0_checkEdge_22 hto (Nat.le_of_ble_eq_true rfl) (Nat.le_of_ble_eq_true rfl) (Nat.le_of_ble_eq_true rfl) (Nat.le_of_ble_eq_true rfl) hlocks

set_option maxHeartbeats 4000000 in
set_option maxRecDepth 100000 in
theorem c_X0_truss_none2 (l : Launch) (hfl : l.stackTraces = false) (D : va_G) (cy : ClassId) (h a0 a1 a2 N : Nat) (ec cc : Int32) (f cs tr : Nat → Int32) (sz : Nat) (u v : Nat) (hN : N ≤ 20) (hu : u < N) (hv : v < N) (he : bt (f u) v = false) : vx_Met l yX0_truss wsX0_truss ({ frames := 7, cells := 1, slots := 6, locals := 104 } : Room) (va_Pc [.ref h, .int (nI u), .int (nI v)] (kRd D (wB h a0 a1 a2 cy N ec cc f cs tr) [(cy, .int)] sz)) zNi (zXg nNSE sz) 1 6 zNo := by
  refine vx_ofW (cc := cX0_truss) (maxL := 5) (ret := (some .int)) (by decide) rfl ?_
  intro p e s m args below meth c s₁ B hml hto hv
  obtain ⟨rfl, ⟨⟨hP, hK⟩, hsz⟩, hT⟩ := hv
  have hx := B.exec
  have hb := B.bytes
  have hr := B.returns
  have hts := atoms_spec (ws := wsX0_truss) B.pre
  have hown : s.vm.findClass RX0 = some m.cls := findClass_of_methodNamed B.named
  have hlocks := B.notSynchronized
  have hS : va_S (fun _ => False) s.heap s.heap [] := va_S.rf
  have hin : ∀ w ∈ wsX00, w ∈ wsX0_truss := by decide +kernel
  have hf16 := hts (.fieldLink RX0 16 "Corebarn" "trussNeighbours" "[I") (by decide +kernel)
  have hl := lv_entry ([.ref h, .int (nI u), .int (nI v)]) (n := 5) (Nat.le_of_ble_eq_true rfl)
  rw [lg_entry_eq]
  generalize (lg_sl ([.ref h, .int (nI u), .int (nI v)]) ++ List.replicate (5 - (lg_sl ([.ref h, .int (nI u), .int (nI v)])).length) Slot.unset).toArray = ls at hl ⊢
  have hl : lv_has ls 5 [(0, .ref h), (1, .int (nI u)), (2, .int (nI v))] := hl
  refine lv_aload_n hx hb dX0_truss_0 rfl (lv_at hl 0 rfl) ?_
  refine lv_iload_n hx hb dX0_truss_1 rfl (lv_at hl 1 rfl) ?_
  refine zrVv (As := [.int (nI u)]) (rest := []) 0 ⟨hx, hb, hml, hown, hts⟩ (c_X0_checkNode_ok l D cy h a0 a1 a2 N ec cc f cs tr u hN hu) (cwV 1 hts gX0_truss_X0_checkNode rfl rfl rfl (by decide +kernel) ⟨Nat.le_of_ble_eq_true rfl, Nat.le_of_ble_eq_true rfl⟩) hK hP rfl rfl rfl hl rfl (Nat.le_of_ble_eq_true rfl) dX0_truss_2 ⟨Nat.le_of_ble_eq_true rfl, Nat.le_of_ble_eq_true rfl⟩ hS (fun H locs hw2 hk9 hS => ?_)
  have hP := zkeep hP hk9
  refine lv_aload_n hx hb dX0_truss_5 rfl (lv_at hl 0 rfl) ?_
  refine lv_iload_n hx hb dX0_truss_6 rfl (lv_at hl 2 rfl) ?_
  refine zrVv (As := [.int (nI v)]) (rest := []) 0 ⟨hx, hb, hml, hown, hts⟩ (c_X0_checkNode_ok l D cy h a0 a1 a2 N ec cc f cs tr v hN hv) (cwV 1 hts gX0_truss_X0_checkNode rfl rfl rfl (by decide +kernel) ⟨Nat.le_of_ble_eq_true rfl, Nat.le_of_ble_eq_true rfl⟩) hK hP rfl rfl rfl hl rfl (Nat.le_of_ble_eq_true rfl) dX0_truss_7 ⟨Nat.le_of_ble_eq_true rfl, Nat.le_of_ble_eq_true rfl⟩ hS (fun H locs hw7 hk9 hS => ?_)
  have hP := zkeep hP hk9
  refine lv_aload_n hx hb dX0_truss_10 rfl (lv_at hl 0 rfl) ?_
  refine lv_iload_n hx hb dX0_truss_11 rfl (lv_at hl 1 rfl) ?_
  refine lv_iload_n hx hb dX0_truss_12 rfl (lv_at hl 2 rfl) ?_
  exact zxV2 hsz.symm (As := [.int (nI u), .int (nI v)]) (rest := []) 0 ⟨hx, hb, hml, hown, hts⟩ (c_X0_checkEdge_none2 l hfl D cy h a0 a1 a2 N ec cc f cs tr _ u v hN hu hv he) (cwV 2 hts gX0_truss_X0_checkEdge rfl rfl rfl (by decide +kernel) ⟨Nat.le_of_ble_eq_true rfl, Nat.le_of_ble_eq_true rfl⟩) hK hP hT rfl rfl rfl hl rfl (Nat.le_of_ble_eq_true rfl) dX0_truss_13 ⟨Nat.le_of_ble_eq_true rfl, Nat.le_of_ble_eq_true rfl⟩ hS hto hlocks

set_option maxHeartbeats 4000000 in
set_option maxRecDepth 100000 in
theorem c_X0_together_none2 (l : Launch) (hfl : l.stackTraces = false) (D : va_G) (cy : ClassId) (h a0 a1 a2 N : Nat) (ec cc : Int32) (f cs tr : Nat → Int32) (sz : Nat) (u v : Nat) (c0 : Nat → Nat) (hN : N ≤ 20) (hu : u < N) (hv : v < N) (hcs : csI cs c0 N) (ht0 : tgk f c0 N u v 20 = 0) : vx_Met l yX0_together wsX0_together ({ frames := 7, cells := 1, slots := 6, locals := 103 } : Room) (va_Pc [.ref h, .int (nI u), .int (nI v)] (kRd D (wB h a0 a1 a2 cy N ec cc f cs tr) [(cy, .int)] sz)) zNi (zXg nNSE sz) 1 6 zNo := by
  refine vx_ofW (cc := cX0_together) (maxL := 4) (ret := (some .int)) (by decide) rfl ?_
  intro p e s m args below meth c s₁ B hml hto hv
  obtain ⟨rfl, ⟨⟨hP, hK⟩, hsz⟩, hT⟩ := hv
  have hx := B.exec
  have hb := B.bytes
  have hr := B.returns
  have hts := atoms_spec (ws := wsX0_together) B.pre
  have hown : s.vm.findClass RX0 = some m.cls := findClass_of_methodNamed B.named
  have hlocks := B.notSynchronized
  have hS : va_S (fun _ => False) s.heap s.heap [] := va_S.rf
  have hin : ∀ w ∈ wsX00, w ∈ wsX0_together := by decide +kernel
  have hf13 := hts (.fieldLink RX0 13 "Corebarn" "cores" "[I") (by decide +kernel)
  have hcu := (hcs u hu).2
  have hcv := (hcs v hv).2
  have hl := lv_entry ([.ref h, .int (nI u), .int (nI v)]) (n := 4) (Nat.le_of_ble_eq_true rfl)
  rw [lg_entry_eq]
  generalize (lg_sl ([.ref h, .int (nI u), .int (nI v)]) ++ List.replicate (4 - (lg_sl ([.ref h, .int (nI u), .int (nI v)])).length) Slot.unset).toArray = ls at hl ⊢
  have hl : lv_has ls 4 [(0, .ref h), (1, .int (nI u)), (2, .int (nI v))] := hl
  refine lv_aload_n hx hb dX0_together_0 rfl (lv_at hl 0 rfl) ?_
  refine lv_iload_n hx hb dX0_together_1 rfl (lv_at hl 1 rfl) ?_
  refine zrVv (As := [.int (nI u)]) (rest := []) 0 ⟨hx, hb, hml, hown, hts⟩ (c_X0_checkNode_ok l D cy h a0 a1 a2 N ec cc f cs tr u hN hu) (cwV 1 hts gX0_together_X0_checkNode rfl rfl rfl (by decide +kernel) ⟨Nat.le_of_ble_eq_true rfl, Nat.le_of_ble_eq_true rfl⟩) hK hP rfl rfl rfl hl rfl (Nat.le_of_ble_eq_true rfl) dX0_together_2 ⟨Nat.le_of_ble_eq_true rfl, Nat.le_of_ble_eq_true rfl⟩ hS (fun H locs hw2 hk9 hS => ?_)
  have hP := zkeep hP hk9
  refine lv_aload_n hx hb dX0_together_5 rfl (lv_at hl 0 rfl) ?_
  refine lv_iload_n hx hb dX0_together_6 rfl (lv_at hl 2 rfl) ?_
  refine zrVv (As := [.int (nI v)]) (rest := []) 0 ⟨hx, hb, hml, hown, hts⟩ (c_X0_checkNode_ok l D cy h a0 a1 a2 N ec cc f cs tr v hN hv) (cwV 1 hts gX0_together_X0_checkNode rfl rfl rfl (by decide +kernel) ⟨Nat.le_of_ble_eq_true rfl, Nat.le_of_ble_eq_true rfl⟩) hK hP rfl rfl rfl hl rfl (Nat.le_of_ble_eq_true rfl) dX0_together_7 ⟨Nat.le_of_ble_eq_true rfl, Nat.le_of_ble_eq_true rfl⟩ hS (fun H locs hw7 hk9 hS => ?_)
  have hP := zkeep hP hk9
  refine lv_aload_n hx hb dX0_together_10 rfl (lv_at hl 0 rfl) ?_
  refine va_get (D := D) (ci := 0) (v := .ref a1) (C := RX0) (T := TX0) (N := 6) hx hb hts hin hown hK hP 0 rfl rfl 1 (by decide) hf13 (fun _ h9 => h9) rfl dX0_together_11 ?_
  refine lv_iload_n hx hb dX0_together_14 rfl (lv_at hl 1 rfl) ?_
  refine z_iald hx hb hK hP 2 0 rfl rfl (by omega) (by decide) dX0_together_15 ?_
  rw [(hcs u hu).1]
  refine lv_aload_n hx hb dX0_together_16 rfl (lv_at hl 0 rfl) ?_
  refine va_get (D := D) (ci := 0) (v := .ref a1) (C := RX0) (T := TX0) (N := 6) hx hb hts hin hown hK hP 0 rfl rfl 1 (by decide) hf13 (fun _ h9 => h9) rfl dX0_together_17 ?_
  refine lv_iload_n hx hb dX0_together_20 rfl (lv_at hl 2 rfl) ?_
  refine z_iald hx hb hK hP 2 0 rfl rfl (by omega) (by decide) dX0_together_21 ?_
  rw [(hcs v hv).1]
  refine va_mmin hx hb (by rw [hml]; exact hl.1.symm) hown (hts (.methodLink RX0 92 Lib.Math.min.name) (by decide +kernel)) (hts (.static Lib.Math.min.name) (by decide +kernel)) (hts (.initialized "java/lang/Math") (by decide +kernel)) (hts (.code Lib.Math.min.name Lib.Math.min.code 2 (some .int)) (by decide +kernel)) (Nat.le_of_ble_eq_true rfl) (Nat.le_of_ble_eq_true rfl) (Nat.le_of_ble_eq_true rfl) (Nat.le_of_ble_eq_true rfl) dX0_together_22 ?_
  rw [z_min (a := c0 u) (b := c0 v) (by omega) (by omega)]
  refine lv_istore_n (lv' := [(3, .int (nI (min (c0 u) (c0 v)))), (0, .ref h), (1, .int (nI u)), (2, .int (nI v))]) hx hb dX0_together_25 rfl hl (by decide) rfl (fun ls hl => ?_)
  have K26 : ∀ (fu26 : Nat) (t1 : Nat) (x : Int32) (H : Heap) (locs : List Loc) (ls : Array Slot), (t1 ≤ 20) → (x = tgi t1) → t1 < fu26 → va_P D vwCl (wB h a0 a1 a2 cy N ec cc f cs tr) H → va_S (fun _ => False) s.heap H locs → lv_has ls 4 [(3, .int x), (0, .ref h), (1, .int (nI u)), (2, .int (nI v))] → W p l e (headSpec wsX0_together ({ frames := 7, cells := 1, slots := 6, locals := 103 } : Room)).room s m ([.ref h, .int (nI u), .int (nI v)] : List Value).toArray below meth c H locs 0 0 (vx_MQ below zNi (zXg nNSE sz) ([.ref h, .int (nI u), .int (nI v)] : List Value).toArray s 1 6 zNo) (F0 m 26 ls []) := by
    intro fu26
    induction fu26 with
    | zero =>
      intro t1 x H locs ls ht1 hxe hfu26
      exact absurd hfu26 (Nat.not_lt_zero _)
    | succ fu26 ih26 =>
      intro t1 x H locs ls ht1 hxe hfu26 hP hS hl
      refine lv_iload_n hx hb dX0_together_26 rfl (lv_at hl 0 rfl) ?_
      refine lv_if_lt (tgt := 58) hx hb dX0_together_27 (by decide) (fun h27 => ?_) (fun h27 => ?_)
      · exact zthrowN2 hsz.symm (cc := cX0_together) (rest := []) (text := "the nodes belong to the same community at no level") (is := 97) hx hb hfl hown (by decide +kernel) (hts (.classLink RX0 95 nNSE) (by decide +kernel)) (hts (.initialized nNSE) (by decide +kernel)) (fun w h => hts w (List.mem_cons_of_mem _ (List.mem_append_left _ (List.mem_append_right _ h)))) zh2_99 zg_99 hT hS (by rw [hml]; exact hl.1) dX0_together_58 dX0_together_61 dX0_together_62 dX0_together_64 dX0_together_67 hto (Nat.le_of_ble_eq_true rfl) (Nat.le_of_ble_eq_true rfl) (Nat.le_of_ble_eq_true rfl) (Nat.le_of_ble_eq_true rfl) hlocks
      · obtain ⟨m9, rfl, hm9⟩ := tgi_ge (by omega) hxe h27
        refine lv_aload_n hx hb dX0_together_30 rfl (lv_at hl 1 rfl) ?_
        refine lv_iload_n hx hb dX0_together_31 rfl (lv_at hl 2 rfl) ?_
        refine zrS0 (As := [.int (nI u)]) (rest := [.ref h]) ⟨hx, hb, hml, hown, hts⟩ (c_X0_single l u) (va_cwS 1 hts gX0_together_X0_single rfl rfl rfl (by decide +kernel) ⟨Nat.le_of_ble_eq_true rfl, Nat.le_of_ble_eq_true rfl⟩) rfl hl rfl (Nat.le_of_ble_eq_true rfl) dX0_together_32 ⟨Nat.le_of_ble_eq_true rfl, Nat.le_of_ble_eq_true rfl⟩ hS (fun r32 H locs hw32 hk9 hS => ?_)
        obtain rfl : r32 = zsg u := hw32
        have hP := zkeep hP hk9
        refine lv_aload_n hx hb dX0_together_35 rfl (lv_at hl 1 rfl) ?_
        refine lv_iload_n hx hb dX0_together_36 rfl (lv_at hl 0 rfl) ?_
        refine zrV (As := [.int (nI m9)]) (rest := [.int (zsg u), .ref h]) 0 ⟨hx, hb, hml, hown, hts⟩ (c_X0_coreSet l D cy h a0 a1 a2 N ec cc f cs tr (nI m9) hN) (cwV 1 hts gX0_together_X0_coreSet rfl rfl rfl (by decide +kernel) ⟨Nat.le_of_ble_eq_true rfl, Nat.le_of_ble_eq_true rfl⟩) hK hP rfl rfl rfl hl rfl (Nat.le_of_ble_eq_true rfl) dX0_together_37 ⟨Nat.le_of_ble_eq_true rfl, Nat.le_of_ble_eq_true rfl⟩ hS (fun r37 H locs hw37 hk9 hS => ?_)
        obtain rfl : r37 = (zmk (fun i => decide ((nI m9) ≤ cs i)) N) := hw37
        have hP := zkeep hP hk9
        rw [cst_of hN hcs (k := m9) (by omega)]
        refine zrV (As := [.int (zsg u), .int (cst c0 N (m9 : Int))]) (rest := []) 0 ⟨hx, hb, hml, hown, hts⟩ (c_X0_reach l D cy h a0 a1 a2 N ec cc f cs tr (zsg u) (cst c0 N (m9 : Int)) hN (cst_sub hN _)) (cwV 2 hts gX0_together_X0_reach rfl rfl rfl (by decide +kernel) ⟨Nat.le_of_ble_eq_true rfl, Nat.le_of_ble_eq_true rfl⟩) hK hP rfl rfl rfl hl rfl (Nat.le_of_ble_eq_true rfl) dX0_together_40 ⟨Nat.le_of_ble_eq_true rfl, Nat.le_of_ble_eq_true rfl⟩ hS (fun r40 H locs hw40 hk9 hS => ?_)
        have hw40 : rch f (zsg u) (cst c0 N (m9 : Int)) r40 := hw40
        obtain rfl : r40 = cmp f (cst c0 N (m9 : Int)) u := cmp_of hw40
        have hP := zkeep hP hk9
        refine lv_iload_n hx hb dX0_together_43 rfl (lv_at hl 3 rfl) ?_
        refine zrS0 (As := [.int (cmp f (cst c0 N (m9 : Int)) u), .int (nI v)]) (rest := []) ⟨hx, hb, hml, hown, hts⟩ (c_X0_contains l (cmp f (cst c0 N (m9 : Int)) u) v (by omega)) (va_cwS 2 hts gX0_together_X0_contains rfl rfl rfl (by decide +kernel) ⟨Nat.le_of_ble_eq_true rfl, Nat.le_of_ble_eq_true rfl⟩) rfl hl rfl (Nat.le_of_ble_eq_true rfl) dX0_together_44 ⟨Nat.le_of_ble_eq_true rfl, Nat.le_of_ble_eq_true rfl⟩ hS (fun r44 H locs hw44 hk9 hS => ?_)
        obtain rfl : r44 = (zb (bt (cmp f (cst c0 N (m9 : Int)) u) v)) := hw44
        have hP := zkeep hP hk9
        refine z_ifb_eq (tgt := 52) hx hb dX0_together_47 (by decide) (fun h47 => ?_) (fun h47 => ?_)
        · refine lv_iinc (v := (tgi m9)) (lv' := [(3, .int (tgi m9)), (0, .ref h), (1, .int (nI u)), (2, .int (nI v))]) hx hb dX0_together_52 hl (k := 0) rfl (tgi_m m9) (by decide) rfl (fun ls hl => ?_)
          refine lv_goto (tgt := 26) hx hb dX0_together_55 (by decide) ?_
          exact ih26 m9 (tgi m9) _ _ _ (by omega) rfl (by omega) hP hS (lv_sub hl [0, 1, 2, 3] rfl)
        · exact absurd ht0 (tgk_ne h47 20 (by omega))
  exact K26 ((min (c0 u) (c0 v) + 1) + 1) (min (c0 u) (c0 v) + 1) (nI (min (c0 u) (c0 v))) _ _ _ (by omega) (by unfold tgi; rw [if_neg (by omega), Nat.add_sub_cancel]) (Nat.lt_succ_self _) hP hS (lv_sub hl [0, 1, 2, 3] rfl)
end
section
section ZL
variable {p : Program} {l : Launch} {e : Env} {R : Room} {s : State} {m : MethodId} {args : Array Value} {below : List Frame} {meth : Method} {c : Code} {H : Heap} {locs : List Loc} {cells slots : Nat} {Q : State → Prop}
variable {cc : ByteArray} {pc : Nat} {ls : Array Slot} {rest : List Value}
theorem z_dcmp (hexec : p.tables.exec = Jvm.exec) (hb : c.code = cc) {x : UInt64} {op : CmpOp} (he : FP.dcmp x x = some .eq) (hdg : decode cc pc = .ok (.dcmp op, 1))
    (kk : W p l e R s m args below meth c H locs cells slots Q (F0 m (pc + 1) ls (.int (nI 0) :: rest))) : W p l e R s m args below meth c H locs cells slots Q (F0 m pc ls (.double x :: .double x :: rest)) :=
  lv_dcmp hexec hb hdg (by rw [he]; exact kk)
end ZL
/-! ===== the law's small methods ===== -/
set_option maxHeartbeats 4000000 in
theorem c_L_low (l : Launch) (v n : Int32) (hn : ¬ n = 0) : Met l yL_low wsL_low ({ frames := 0, cells := 0, slots := 0, locals := 0 } : Room) (va_Pc [.int v, .int n] (fun _ => True)) (zPo (fun r => r = (v &&& 2147483647) - (v &&& 2147483647) / n * n)) 0 0 zNo := by
  refine Met.ofW (cc := cL_low) (maxL := 2) (ret := (some .int)) (by decide) rfl ?_
  intro p e s m args below meth c s₁ B hml hv
  obtain ⟨rfl, -⟩ := hv
  have hx := B.exec
  have hb := B.bytes
  have hr := B.returns
  have hts := atoms_spec (ws := wsL_low) B.pre
  have hown : s.vm.findClass RL = some m.cls := findClass_of_methodNamed B.named
  have hlocks := B.notSynchronized
  have hS : va_S (fun _ => False) s.heap s.heap [] := va_S.rf
  have hl := lv_entry ([.int v, .int n]) (n := 2) (Nat.le_of_ble_eq_true rfl)
  rw [lg_entry_eq]
  generalize (lg_sl ([.int v, .int n]) ++ List.replicate (2 - (lg_sl ([.int v, .int n])).length) Slot.unset).toArray = ls at hl ⊢
  have hl : lv_has ls 2 [(0, .int v), (1, .int n)] := hl
  refine lv_iload_n hx hb dL_low_0 rfl (lv_at hl 0 rfl) ?_
  refine lv_ldc hx hb hown (hts (.constant RL 7 (2147483647)) (by decide +kernel)) dL_low_1 ?_
  refine lv_iand hx hb dL_low_3 ?_
  refine lv_iload_n hx hb dL_low_4 rfl (lv_at hl 1 rfl) ?_
  refine lv_irem hx hb dL_low_5 hn ?_
  exact W.iret hx hb hr (fun t9 ht9 hW9 => ⟨⟨_, (), rfl, rfl, trivial⟩, hS.F ht9⟩) hS.2.2 dL_low_6

set_option maxHeartbeats 4000000 in
set_option maxRecDepth 100000 in
theorem w_together_none (l : Launch) (hfl : l.stackTraces = false) (D : va_G) (cy : ClassId) (h a0 a1 a2 N : Nat) (tr : Nat → Int32) (sz : Nat) (u v : Nat) (hN : N ≤ 20) (hu : u < N) (hv : v < N) (huv : u ≠ v) : vx_Met l yL_together wsL_together ({ frames := 8, cells := 1, slots := 6, locals := 126 } : Room) (va_Pc [.ref h, .int (nI u), .int (nI v)] (kRd D (wZ h a0 a1 a2 cy N tr) [(cy, .int)] sz)) (kPo (-1) sz 1) zXn 1 6 zNo := by
  refine vx_ofWH (cc := cL_together) (maxL := 4) (ret := (some .int)) (by decide) rfl ?_
  intro p e s m args below meth c s₁ B hml hv
  obtain ⟨rfl, ⟨⟨hP, hK⟩, hsz⟩, hT⟩ := hv
  have hx := B.exec
  have hb := B.bytes
  have hr := B.returns
  have hts := atoms_spec (ws := wsL_together) B.pre
  have hown : s.vm.findClass RL = some m.cls := findClass_of_methodNamed B.named
  have hlocks := B.notSynchronized
  subst hsz
  have hS : va_S (fun _ => False) s.heap s.heap [] := va_S.rf
  have htb := vx_table (x := yL_together) B (hts (.codeWith yL_together cL_together 4 (some .int) [(0, 6, 7, 21), (0, 6, 11, 28)]) (by decide +kernel))
  have hl := lv_entry ([.ref h, .int (nI u), .int (nI v)]) (n := 4) (Nat.le_of_ble_eq_true rfl)
  rw [lg_entry_eq]
  generalize (lg_sl ([.ref h, .int (nI u), .int (nI v)]) ++ List.replicate (4 - (lg_sl ([.ref h, .int (nI u), .int (nI v)])).length) Slot.unset).toArray = ls at hl ⊢
  have hl : lv_has ls 4 [(0, .ref h), (1, .int (nI u)), (2, .int (nI v))] := hl
  refine lv_aload_n hx hb dL_together_0 rfl (lv_at hl 0 rfl) ?_
  refine lv_iload_n hx hb dL_together_1 rfl (lv_at hl 1 rfl) ?_
  refine lv_iload_n hx hb dL_together_2 rfl (lv_at hl 2 rfl) ?_
  refine vx_calli (vx_runV (As := [.int (nI u), .int (nI v)]) (rest := []) ⟨hx, hb, hml, hown, hts⟩ (c_X0_together_none2 l hfl D cy h a0 a1 a2 N (nI 0) (nI 0) zf zf tr _ u v z0 hN hu hv (zcs N) (ztg_none hN hu huv)) (cwV 2 hts gL_together_X0_together rfl rfl rfl (by decide +kernel) ⟨Nat.le_of_ble_eq_true rfl, Nat.le_of_ble_eq_true rfl⟩) ⟨fun a U g mk q => ⟨q.1, ⟨⟨q.2.1.1.1, va_K.moved (u := U) (U := U.calling g mk a) (Vm.Alike.refl U.vm) q.2.1.1.2⟩, q.2.1.2⟩, q.2.2.same rfl rfl⟩, va_recv hK hP (ci := 0) (q0 := 0) rfl rfl, fun U hU hW => ⟨rfl, ⟨⟨by rw [hU]; exact hP, va_K.moved hW.alike hK⟩, by rw [hU]⟩, hT.move hW ⟨by rw [hU]; exact Nat.le_refl _, fun q _ => by rw [hU]⟩⟩⟩ rfl rfl hl.1 rfl (lv_room (Nat.le_of_ble_eq_true rfl)) dL_together_3 ⟨Nat.le_of_ble_eq_true rfl, Nat.le_of_ble_eq_true rfl⟩) hS (fun _ _ h => h.elim) (fun _ h => h.elim) (fun _ _ h => h.elim) (fun E2 ce q9 u9 t9 H locs ht9 hvm9 hp9 hB hz hk hS hce hcv hcl => ?_) (fun r u t H1 locs1 ht hvm hw hB hz hk hS1 => hw.elim)
  obtain ⟨rfl, hg9⟩ : E2 = nNSE ∧ s.heap.size + 1 ≤ t9.heap.size := hB
  rw [ht9] at hg9
  refine vx_catch (name := nNSE) hown [⟨0, 6, 7, 21⟩] ⟨0, 6, 11, 28⟩ [] (htb.trans rfl) (List.forall_mem_cons.mpr ⟨Or.inr ⟨by decide, nIOB, hts (.classLink RL 21 nIOB) (by decide +kernel), hT.2.2.1 nNSE (by simp) nIOB (by simp) (by decide)⟩, (fun _ h => absurd h List.not_mem_nil)⟩) (by decide) (by decide) (hts (.classLink RL 28 nNSE) (by decide +kernel)) (va_Nw.use rfl (hT.2.1 nNSE (by simp))) hce hcv hcl ?_
  refine lv_astore_n (lv' := [(3, .ref q9), (0, .ref h), (1, .int (nI u)), (2, .int (nI v))]) hx hb dL_together_11 rfl hl (by decide) rfl (fun ls hl => ?_)
  refine lv_iconst (v := (-1)) hx hb dL_together_12 (by decide) ?_
  refine vx_ret ?_
  exact W.iret (v := (-1)) hx hb hr (fun t9 ht9 hW9 => ⟨⟨(-1), (), rfl, rfl, by show s.heap.size + 1 ≤ t9.heap.size; rw [ht9]; exact hg9⟩, hS.F ht9⟩) hS.2.2 dL_together_13

set_option maxHeartbeats 4000000 in
set_option maxRecDepth 100000 in
theorem w_truss_none (l : Launch) (hfl : l.stackTraces = false) (D : va_G) (cy : ClassId) (h a0 a1 a2 N : Nat) (tr : Nat → Int32) (sz : Nat) (u v : Nat) (hN : N ≤ 20) (hu : u < N) (hv : v < N) : vx_Met l yL_truss wsL_truss ({ frames := 8, cells := 1, slots := 6, locals := 128 } : Room) (va_Pc [.ref h, .int (nI u), .int (nI v)] (kRd D (wZ h a0 a1 a2 cy N tr) [(cy, .int)] sz)) (kPo (-1) sz 1) zXn 1 6 zNo := by
  refine vx_ofWH (cc := cL_truss) (maxL := 4) (ret := (some .int)) (by decide) rfl ?_
  intro p e s m args below meth c s₁ B hml hv
  obtain ⟨rfl, ⟨⟨hP, hK⟩, hsz⟩, hT⟩ := hv
  have hx := B.exec
  have hb := B.bytes
  have hr := B.returns
  have hts := atoms_spec (ws := wsL_truss) B.pre
  have hown : s.vm.findClass RL = some m.cls := findClass_of_methodNamed B.named
  have hlocks := B.notSynchronized
  subst hsz
  have hS : va_S (fun _ => False) s.heap s.heap [] := va_S.rf
  have htb := vx_table (x := yL_truss) B (hts (.codeWith yL_truss cL_truss 4 (some .int) [(0, 6, 7, 21), (0, 6, 11, 28)]) (by decide +kernel))
  have hl := lv_entry ([.ref h, .int (nI u), .int (nI v)]) (n := 4) (Nat.le_of_ble_eq_true rfl)
  rw [lg_entry_eq]
  generalize (lg_sl ([.ref h, .int (nI u), .int (nI v)]) ++ List.replicate (4 - (lg_sl ([.ref h, .int (nI u), .int (nI v)])).length) Slot.unset).toArray = ls at hl ⊢
  have hl : lv_has ls 4 [(0, .ref h), (1, .int (nI u)), (2, .int (nI v))] := hl
  refine lv_aload_n hx hb dL_truss_0 rfl (lv_at hl 0 rfl) ?_
  refine lv_iload_n hx hb dL_truss_1 rfl (lv_at hl 1 rfl) ?_
  refine lv_iload_n hx hb dL_truss_2 rfl (lv_at hl 2 rfl) ?_
  refine vx_calli (vx_runV (As := [.int (nI u), .int (nI v)]) (rest := []) ⟨hx, hb, hml, hown, hts⟩ (c_X0_truss_none2 l hfl D cy h a0 a1 a2 N (nI 0) (nI 0) zf zf tr _ u v hN hu hv (zf_b u v)) (cwV 2 hts gL_truss_X0_truss rfl rfl rfl (by decide +kernel) ⟨Nat.le_of_ble_eq_true rfl, Nat.le_of_ble_eq_true rfl⟩) ⟨fun a U g mk q => ⟨q.1, ⟨⟨q.2.1.1.1, va_K.moved (u := U) (U := U.calling g mk a) (Vm.Alike.refl U.vm) q.2.1.1.2⟩, q.2.1.2⟩, q.2.2.same rfl rfl⟩, va_recv hK hP (ci := 0) (q0 := 0) rfl rfl, fun U hU hW => ⟨rfl, ⟨⟨by rw [hU]; exact hP, va_K.moved hW.alike hK⟩, by rw [hU]⟩, hT.move hW ⟨by rw [hU]; exact Nat.le_refl _, fun q _ => by rw [hU]⟩⟩⟩ rfl rfl hl.1 rfl (lv_room (Nat.le_of_ble_eq_true rfl)) dL_truss_3 ⟨Nat.le_of_ble_eq_true rfl, Nat.le_of_ble_eq_true rfl⟩) hS (fun _ _ h => h.elim) (fun _ h => h.elim) (fun _ _ h => h.elim) (fun E2 ce q9 u9 t9 H locs ht9 hvm9 hp9 hB hz hk hS hce hcv hcl => ?_) (fun r u t H1 locs1 ht hvm hw hB hz hk hS1 => hw.elim)
  obtain ⟨rfl, hg9⟩ : E2 = nNSE ∧ s.heap.size + 1 ≤ t9.heap.size := hB
  rw [ht9] at hg9
  refine vx_catch (name := nNSE) hown [⟨0, 6, 7, 21⟩] ⟨0, 6, 11, 28⟩ [] (htb.trans rfl) (List.forall_mem_cons.mpr ⟨Or.inr ⟨by decide, nIOB, hts (.classLink RL 21 nIOB) (by decide +kernel), hT.2.2.1 nNSE (by simp) nIOB (by simp) (by decide)⟩, (fun _ h => absurd h List.not_mem_nil)⟩) (by decide) (by decide) (hts (.classLink RL 28 nNSE) (by decide +kernel)) (va_Nw.use rfl (hT.2.1 nNSE (by simp))) hce hcv hcl ?_
  refine lv_astore_n (lv' := [(3, .ref q9), (0, .ref h), (1, .int (nI u)), (2, .int (nI v))]) hx hb dL_truss_11 rfl hl (by decide) rfl (fun ls hl => ?_)
  refine lv_iconst (v := (-1)) hx hb dL_truss_12 (by decide) ?_
  refine vx_ret ?_
  exact W.iret (v := (-1)) hx hb hr (fun t9 ht9 hW9 => ⟨⟨(-1), (), rfl, rfl, by show s.heap.size + 1 ≤ t9.heap.size; rw [ht9]; exact hg9⟩, hS.F ht9⟩) hS.2.2 dL_truss_13

set_option maxHeartbeats 4000000 in
set_option maxRecDepth 100000 in
theorem w_join_same (l : Launch) (hfl : l.stackTraces = false) (D : va_G) (cy : ClassId) (h a0 a1 a2 N : Nat) (tr : Nat → Int32) (sz : Nat) (u : Nat) (hN : N ≤ 20) (hu : u < N) : vx_Met l yL_join wsL_join ({ frames := 9, cells := 1, slots := 6, locals := 154 } : Room) (va_Pc [.ref h, .int (nI u), .int (nI u)] (kRd D (wZ h a0 a1 a2 cy N tr) [(cy, .int)] sz)) (kPo (-99999) sz 0) zXn 1 6 zNo := by
  refine vx_ofWH (cc := cL_join) (maxL := 4) (ret := (some .int)) (by decide) rfl ?_
  intro p e s m args below meth c s₁ B hml hv
  obtain ⟨rfl, ⟨⟨hP, hK⟩, hsz⟩, hT⟩ := hv
  have hx := B.exec
  have hb := B.bytes
  have hr := B.returns
  have hts := atoms_spec (ws := wsL_join) B.pre
  have hown : s.vm.findClass RL = some m.cls := findClass_of_methodNamed B.named
  have hlocks := B.notSynchronized
  subst hsz
  have hS : va_S (fun _ => False) s.heap s.heap [] := va_S.rf
  have htb := vx_table (x := yL_join) B (hts (.codeWith yL_join cL_join 4 (some .int) [(0, 6, 7, 21), (0, 6, 11, 23), (0, 6, 15, 14)]) (by decide +kernel))
  have hl := lv_entry ([.ref h, .int (nI u), .int (nI u)]) (n := 4) (Nat.le_of_ble_eq_true rfl)
  rw [lg_entry_eq]
  generalize (lg_sl ([.ref h, .int (nI u), .int (nI u)]) ++ List.replicate (4 - (lg_sl ([.ref h, .int (nI u), .int (nI u)])).length) Slot.unset).toArray = ls at hl ⊢
  have hl : lv_has ls 4 [(0, .ref h), (1, .int (nI u)), (2, .int (nI u))] := hl
  refine lv_aload_n hx hb dL_join_0 rfl (lv_at hl 0 rfl) ?_
  refine lv_iload_n hx hb dL_join_1 rfl (lv_at hl 1 rfl) ?_
  refine lv_iload_n hx hb dL_join_2 rfl (lv_at hl 2 rfl) ?_
  refine vx_calli (vx_runV (As := [.int (nI u), .int (nI u)]) (rest := []) ⟨hx, hb, hml, hown, hts⟩ (c_X0_join_same l hfl D cy h a0 a1 a2 N (nI 0) (nI 0) zf zf tr u hN hu) (cwV 2 hts gL_join_X0_join rfl rfl rfl (by decide +kernel) ⟨Nat.le_of_ble_eq_true rfl, Nat.le_of_ble_eq_true rfl⟩) ⟨fun a U g mk q => ⟨q.1, ⟨q.2.1.1, va_K.moved (u := U) (U := U.calling g mk a) (Vm.Alike.refl U.vm) q.2.1.2⟩, q.2.2.same rfl rfl⟩, va_recv hK hP (ci := 0) (q0 := 0) rfl rfl, fun U hU hW => ⟨rfl, ⟨by rw [hU]; exact hP, va_K.moved hW.alike hK⟩, hT.move hW ⟨by rw [hU]; exact Nat.le_refl _, fun q _ => by rw [hU]⟩⟩⟩ rfl rfl hl.1 rfl (lv_room (Nat.le_of_ble_eq_true rfl)) dL_join_3 ⟨Nat.le_of_ble_eq_true rfl, Nat.le_of_ble_eq_true rfl⟩) hS (fun _ _ h => h.elim) (fun _ h => h.elim) (fun _ _ h => h.elim) (fun E2 ce q9 u9 t9 H locs ht9 hvm9 hp9 hB hz hk hS hce hcv hcl => ?_) (fun r u t H1 locs1 ht hvm hw hB hz hk hS1 => hw.elim)
  obtain rfl : E2 = nIAE := hB
  have hg9 : s.heap.size + 0 ≤ H.size := hz
  refine vx_catch (name := nIAE) hown [⟨0, 6, 7, 21⟩] ⟨0, 6, 11, 23⟩ [⟨0, 6, 15, 14⟩] (htb.trans rfl) (List.forall_mem_cons.mpr ⟨Or.inr ⟨by decide, nIOB, hts (.classLink RL 21 nIOB) (by decide +kernel), hT.2.2.1 nIAE (by simp) nIOB (by simp) (by decide)⟩, (fun _ h => absurd h List.not_mem_nil)⟩) (by decide) (by decide) (hts (.classLink RL 23 nIAE) (by decide +kernel)) (va_Nw.use rfl (hT.2.1 nIAE (by simp))) hce hcv hcl ?_
  refine lv_astore_n (lv' := [(3, .ref q9), (0, .ref h), (1, .int (nI u)), (2, .int (nI u))]) hx hb dL_join_11 rfl hl (by decide) rfl (fun ls hl => ?_)
  refine lv_ldc hx hb hown (hts (.constant RL 16 (-99999)) (by decide +kernel)) dL_join_12 ?_
  refine vx_ret ?_
  exact W.iret (v := (-99999)) hx hb hr (fun t9 ht9 hW9 => ⟨⟨(-99999), (), rfl, rfl, by show s.heap.size + 0 ≤ t9.heap.size; rw [ht9]; exact hg9⟩, hS.F ht9⟩) hS.2.2 dL_join_14

set_option maxHeartbeats 4000000 in
set_option maxRecDepth 100000 in
theorem w_together_same (l : Launch) (hfl : l.stackTraces = false) (D : va_G) (cy : ClassId) (h a0 a1 a2 N : Nat) (tr : Nat → Int32) (sz : Nat) (u : Nat) (hN : N ≤ 20) (hu : u < N) : vx_Met l yL_together wsL_together ({ frames := 8, cells := 0, slots := 0, locals := 126 } : Room) (va_Pc [.ref h, .int (nI u), .int (nI u)] (kRd D (wZ h a0 a1 a2 cy N tr) [(cy, .int)] sz)) (kPo (nI 0) sz 0) zXn 0 0 zNo := by
  refine vx_ofWH (cc := cL_together) (maxL := 4) (ret := (some .int)) (by decide) rfl ?_
  intro p e s m args below meth c s₁ B hml hv
  obtain ⟨rfl, ⟨⟨hP, hK⟩, hsz⟩, hT⟩ := hv
  have hx := B.exec
  have hb := B.bytes
  have hr := B.returns
  have hts := atoms_spec (ws := wsL_together) B.pre
  have hown : s.vm.findClass RL = some m.cls := findClass_of_methodNamed B.named
  have hlocks := B.notSynchronized
  subst hsz
  have hS : va_S (fun _ => False) s.heap s.heap [] := va_S.rf
  have hl := lv_entry ([.ref h, .int (nI u), .int (nI u)]) (n := 4) (Nat.le_of_ble_eq_true rfl)
  rw [lg_entry_eq]
  generalize (lg_sl ([.ref h, .int (nI u), .int (nI u)]) ++ List.replicate (4 - (lg_sl ([.ref h, .int (nI u), .int (nI u)])).length) Slot.unset).toArray = ls at hl ⊢
  have hl : lv_has ls 4 [(0, .ref h), (1, .int (nI u)), (2, .int (nI u))] := hl
  refine lv_aload_n hx hb dL_together_0 rfl (lv_at hl 0 rfl) ?_
  refine lv_iload_n hx hb dL_together_1 rfl (lv_at hl 1 rfl) ?_
  refine lv_iload_n hx hb dL_together_2 rfl (lv_at hl 2 rfl) ?_
  refine zrV (As := [.int (nI u), .int (nI u)]) (rest := []) 0 ⟨hx, hb, hml, hown, hts⟩ (c_X0_together_ok l D cy h a0 a1 a2 N (nI 0) (nI 0) zf zf tr u u 0 z0 hN hu hu (zcs N) (ztg_same hN hu)) (cwV 2 hts gL_together_X0_together rfl rfl rfl (by decide +kernel) ⟨Nat.le_of_ble_eq_true rfl, Nat.le_of_ble_eq_true rfl⟩) hK hP rfl rfl rfl hl rfl (Nat.le_of_ble_eq_true rfl) dL_together_3 ⟨Nat.le_of_ble_eq_true rfl, Nat.le_of_ble_eq_true rfl⟩ hS (fun r9 H locs hw9 hk9 hS => ?_)
  obtain rfl : r9 = (nI 0) := hw9
  refine vx_ret ?_
  exact W.iret (v := (nI 0)) hx hb hr (fun t9 ht9 hW9 => ⟨⟨(nI 0), (), rfl, rfl, by show s.heap.size + 0 ≤ t9.heap.size; rw [ht9]; exact hk9.1⟩, hS.F ht9⟩) hS.2.2 dL_together_6

set_option maxHeartbeats 4000000 in
set_option maxRecDepth 100000 in
theorem w_addNode (l : Launch) (hfl : l.stackTraces = false) (D : va_G) (cy : ClassId) (h a0 a1 a2 N : Nat) (tr : Nat → Int32) (sz : Nat) (hN : N < 20) : vx_Met l yL_addNode wsL_addNode ({ frames := 1, cells := 0, slots := 0, locals := 21 } : Room) (va_Pc [.ref h] (zWr D (wZ h a0 a1 a2 cy N tr) [(cy, .int)] sz)) (va_Qi (fun (r : Int32) (z9 : Unit) => r = nI N) (fun (z9 : Unit) t => va_P D vwCl (wZ h a0 a1 a2 cy (N + 1) tr) t.heap) (va_A (wZ h a0 a1 a2 cy N tr) sz)) zXn 0 0 (va_A (wZ h a0 a1 a2 cy N tr) sz) := by
  refine vx_ofWH (cc := cL_addNode) (maxL := 2) (ret := (some .int)) (by decide) rfl ?_
  intro p e s m args below meth c s₁ B hml hv
  obtain ⟨rfl, hsz, hP, hK, hD0⟩ := hv
  have hx := B.exec
  have hb := B.bytes
  have hr := B.returns
  have hts := atoms_spec (ws := wsL_addNode) B.pre
  have hown : s.vm.findClass RL = some m.cls := findClass_of_methodNamed B.named
  have hlocks := B.notSynchronized
  subst hsz
  have hD := hD0.self (sz := s.heap.size)
  generalize hAe : va_A (wZ h a0 a1 a2 cy N tr) s.heap.size = A at hD ⊢
  have hA : ∀ q : Nat, s.heap.size ≤ q → A q := fun q h => by rw [← hAe]; exact Or.inr h
  have hS : va_S A s.heap s.heap [] := va_S.rf
  have hl := lv_entry ([.ref h]) (n := 2) (Nat.le_of_ble_eq_true rfl)
  rw [lg_entry_eq]
  generalize (lg_sl ([.ref h]) ++ List.replicate (2 - (lg_sl ([.ref h])).length) Slot.unset).toArray = ls at hl ⊢
  have hl : lv_has ls 2 [(0, .ref h)] := hl
  refine lv_aload_n hx hb dL_addNode_0 rfl (lv_at hl 0 rfl) ?_
  refine zwVi (As := []) (rest := []) 0 [0, 1, 2, 3] rfl ⟨hx, hb, hml, hown, hts⟩ (c_X0_addNode_ok l D cy h a0 a1 a2 N (nI 0) (nI 0) zf zf tr _ hN) (cwV 0 hts gL_addNode_X0_addNode rfl rfl rfl (by decide +kernel) ⟨Nat.le_of_ble_eq_true rfl, Nat.le_of_ble_eq_true rfl⟩) hK hP hD hA rfl rfl rfl hl rfl (Nat.le_of_ble_eq_true rfl) dL_addNode_1 ⟨Nat.le_of_ble_eq_true rfl, Nat.le_of_ble_eq_true rfl⟩ hS (fun r9 u9 H locs hw9 hP hS => ?_)
  obtain rfl : r9 = (nI N) := hw9
  refine vx_ret ?_
  exact W.iret (v := (nI N)) hx hb hr (fun t9 ht9 hW9 => ⟨⟨(nI N), (), rfl, rfl, by show va_P D vwCl (wZ h a0 a1 a2 cy (N + 1) tr) t9.heap; rw [ht9]; exact hP⟩, hS.F ht9⟩) hS.2.2 dL_addNode_4
end
section
/-! ===== what the law asks of the network without edges ===== -/
set_option maxHeartbeats 4000000 in
set_option maxRecDepth 100000 in
theorem w_isNodeSo (l : Launch) (hfl : l.stackTraces = false) (D : va_G) (cy : ClassId) (h a0 a1 a2 : Nat) (N : Nat) (tr : Nat → Int32) (sz : Nat) (u : Nat) (hN : N ≤ 20) (hu : u < N) : vx_Met l yL_isNodeSo wsL_isNodeSo ({ frames := 9, cells := 0, slots := 0, locals := 149 } : Room) (va_Pc [.ref h, .int (nI u)] (kRd D (wZ h a0 a1 a2 cy N tr) [(cy, .int)] sz)) (kPo (nI 1) sz 0) zXn 0 0 zNo := by
  refine vx_ofW (cc := cL_isNodeSo) (maxL := 8) (ret := (some .boolean)) (by decide) rfl ?_
  intro p e s m args below meth c s₁ B hml hto hv
  obtain ⟨rfl, ⟨⟨hP, hK⟩, hsz⟩, hT⟩ := hv
  have hx := B.exec
  have hb := B.bytes
  have hr := B.returns
  have hts := atoms_spec (ws := wsL_isNodeSo) B.pre
  have hown : s.vm.findClass RL = some m.cls := findClass_of_methodNamed B.named
  have hlocks := B.notSynchronized
  subst hsz
  have hS : va_S (fun _ => False) s.heap s.heap [] := va_S.rf
  have hl := lv_entry ([.ref h, .int (nI u)]) (n := 8) (Nat.le_of_ble_eq_true rfl)
  rw [lg_entry_eq]
  generalize (lg_sl ([.ref h, .int (nI u)]) ++ List.replicate (8 - (lg_sl ([.ref h, .int (nI u)])).length) Slot.unset).toArray = ls at hl ⊢
  have hl : lv_has ls 8 [(0, .ref h), (1, .int (nI u))] := hl
  have hz : s.heap.size + 0 ≤ s.heap.size := Nat.le_refl _
  refine lv_aload_n hx hb dL_isNodeSo_0 rfl (lv_at hl 0 rfl) ?_
  refine lv_iload_n hx hb dL_isNodeSo_1 rfl (lv_at hl 1 rfl) ?_
  refine zrV (As := [.int (nI u)]) (rest := []) 0 ⟨hx, hb, hml, hown, hts⟩ (c_X0_core_ok l D cy h a0 a1 a2 N (nI 0) (nI 0) zf zf tr u z0 hN hu (zcs _)) (cwV 1 hts gL_isNodeSo_X0_core rfl rfl rfl (by decide +kernel) ⟨Nat.le_of_ble_eq_true rfl, Nat.le_of_ble_eq_true rfl⟩) hK hP rfl rfl rfl hl rfl (Nat.le_of_ble_eq_true rfl) dL_isNodeSo_2 ⟨Nat.le_of_ble_eq_true rfl, Nat.le_of_ble_eq_true rfl⟩ hS (fun r9 H1 locs hw9 hk9 hS => ?_)
  obtain rfl : r9 = (nI 0) := hw9
  have hP := zkeep hP hk9
  have hz : s.heap.size + 0 ≤ H1.size := Nat.le_trans hz hk9.1
  refine lv_istore_n (lv' := [(2, .int (nI 0)), (0, .ref h), (1, .int (nI u))]) hx hb dL_isNodeSo_5 rfl hl (by decide) rfl (fun ls hl => ?_)
  refine lv_iconst (v := (nI 0)) hx hb dL_isNodeSo_6 (by decide) ?_
  refine lv_istore_n (lv' := [(3, .int (nI 0)), (2, .int (nI 0)), (0, .ref h), (1, .int (nI u))]) hx hb dL_isNodeSo_7 rfl hl (by decide) rfl (fun ls hl => ?_)
  refine lv_iconst (v := (nI 0)) hx hb dL_isNodeSo_8 (by decide) ?_
  refine lv_istore (lv' := [(4, .int (nI 0)), (3, .int (nI 0)), (2, .int (nI 0)), (0, .ref h), (1, .int (nI u))]) hx hb dL_isNodeSo_9 hl (by decide) rfl (fun ls hl => ?_)
  refine lv_iconst (v := (-1)) hx hb dL_isNodeSo_11 (by decide) ?_
  refine lv_istore (lv' := [(5, .int (-1)), (4, .int (nI 0)), (3, .int (nI 0)), (2, .int (nI 0)), (0, .ref h), (1, .int (nI u))]) hx hb dL_isNodeSo_12 hl (by decide) rfl (fun ls hl => ?_)
  refine lv_iconst (v := (nI 0)) hx hb dL_isNodeSo_14 (by decide) ?_
  refine lv_istore (lv' := [(6, .int (nI 0)), (5, .int (-1)), (4, .int (nI 0)), (3, .int (nI 0)), (2, .int (nI 0)), (0, .ref h), (1, .int (nI u))]) hx hb dL_isNodeSo_15 hl (by decide) rfl (fun ls hl => ?_)
  refine lv_iload hx hb dL_isNodeSo_17 (lv_at hl 0 rfl) ?_
  refine lv_aload_n hx hb dL_isNodeSo_19 rfl (lv_at hl 5 rfl) ?_
  refine lv_iload_n hx hb dL_isNodeSo_20 rfl (lv_at hl 6 rfl) ?_
  refine zrV (As := [.int (nI u)]) (rest := [.int (nI 0)]) 0 ⟨hx, hb, hml, hown, hts⟩ (c_X0_degree_ok l D cy h a0 a1 a2 N (nI 0) (nI 0) zf zf tr u hN hu) (cwV 1 hts gL_isNodeSo_X0_degree rfl rfl rfl (by decide +kernel) ⟨Nat.le_of_ble_eq_true rfl, Nat.le_of_ble_eq_true rfl⟩) hK hP rfl rfl rfl hl rfl (Nat.le_of_ble_eq_true rfl) dL_isNodeSo_21 ⟨Nat.le_of_ble_eq_true rfl, Nat.le_of_ble_eq_true rfl⟩ hS (fun r9 H2 locs hw9 hk9 hS => ?_)
  obtain rfl : r9 = (nI 0) := hw9.trans (congrArg nI (zrow u))
  have hP := zkeep hP hk9
  have hz : s.heap.size + 0 ≤ H2.size := Nat.le_trans hz hk9.1
  refine k_icmp_ge_t (tgt := 119) hx hb dL_isNodeSo_24 (by decide) (by decide +kernel) ?_
  refine lv_iload_n hx hb dL_isNodeSo_119 rfl (lv_at hl 3 rfl) ?_
  refine lv_iload_n hx hb dL_isNodeSo_120 rfl (lv_at hl 4 rfl) ?_
  refine k_icmp_lt_f (tgt := 174) hx hb dL_isNodeSo_121 (by decide) (by decide +kernel) ?_
  refine lv_iload hx hb dL_isNodeSo_124 (lv_at hl 2 rfl) ?_
  refine lv_iload_n hx hb dL_isNodeSo_126 rfl (lv_at hl 4 rfl) ?_
  refine k_icmp_gt_f (tgt := 174) hx hb dL_isNodeSo_127 (by decide) (by decide +kernel) ?_
  refine lv_aload_n hx hb dL_isNodeSo_130 rfl (lv_at hl 5 rfl) ?_
  refine lv_iload_n hx hb dL_isNodeSo_131 rfl (lv_at hl 6 rfl) ?_
  refine lv_iload_n hx hb dL_isNodeSo_132 rfl (lv_at hl 4 rfl) ?_
  refine zrV (As := [.int (nI u), .int (nI 0)]) (rest := []) 0 ⟨hx, hb, hml, hown, hts⟩ (c_X0_community_ok l D cy h a0 a1 a2 N (nI 0) (nI 0) zf zf tr u (nI 0) z0 hN hu (by decide) (zcs _)) (cwV 2 hts gL_isNodeSo_X0_community rfl rfl rfl (by decide +kernel) ⟨Nat.le_of_ble_eq_true rfl, Nat.le_of_ble_eq_true rfl⟩) hK hP rfl rfl rfl hl rfl (Nat.le_of_ble_eq_true rfl) dL_isNodeSo_133 ⟨Nat.le_of_ble_eq_true rfl, Nat.le_of_ble_eq_true rfl⟩ hS (fun r9 H3 locs hw9 hk9 hS => ?_)
  obtain rfl : r9 = (nI 1) := hw9.trans (congrArg nI (zcom0 hN hu))
  have hP := zkeep hP hk9
  have hz : s.heap.size + 0 ≤ H3.size := Nat.le_trans hz hk9.1
  refine lv_iload_n hx hb dL_isNodeSo_136 rfl (lv_at hl 4 rfl) ?_
  refine k_icmp_le_f (tgt := 174) hx hb dL_isNodeSo_137 (by decide) (by decide +kernel) ?_
  refine lv_aload_n hx hb dL_isNodeSo_140 rfl (lv_at hl 5 rfl) ?_
  refine lv_iload_n hx hb dL_isNodeSo_141 rfl (lv_at hl 6 rfl) ?_
  refine lv_iload_n hx hb dL_isNodeSo_142 rfl (lv_at hl 4 rfl) ?_
  refine lv_iconst (v := (nI 1)) hx hb dL_isNodeSo_143 (by decide) ?_
  refine k_iadd (v := (nI 1)) hx hb dL_isNodeSo_144 (by decide +kernel) ?_
  refine zrV (As := [.int (nI u), .int (nI 1)]) (rest := []) 0 ⟨hx, hb, hml, hown, hts⟩ (c_X0_community_ok l D cy h a0 a1 a2 N (nI 0) (nI 0) zf zf tr u (nI 1) z0 hN hu (by decide) (zcs _)) (cwV 2 hts gL_isNodeSo_X0_community rfl rfl rfl (by decide +kernel) ⟨Nat.le_of_ble_eq_true rfl, Nat.le_of_ble_eq_true rfl⟩) hK hP rfl rfl rfl hl rfl (Nat.le_of_ble_eq_true rfl) dL_isNodeSo_145 ⟨Nat.le_of_ble_eq_true rfl, Nat.le_of_ble_eq_true rfl⟩ hS (fun r9 H4 locs hw9 hk9 hS => ?_)
  obtain rfl : r9 = (nI 0) := hw9.trans (congrArg nI (zcom1 hN hu))
  have hP := zkeep hP hk9
  have hz : s.heap.size + 0 ≤ H4.size := Nat.le_trans hz hk9.1
  refine k_if_ne_f (tgt := 174) hx hb dL_isNodeSo_148 (by decide) (by decide +kernel) ?_
  refine lv_aload_n hx hb dL_isNodeSo_151 rfl (lv_at hl 5 rfl) ?_
  refine lv_iload_n hx hb dL_isNodeSo_152 rfl (lv_at hl 6 rfl) ?_
  refine lv_iload_n hx hb dL_isNodeSo_153 rfl (lv_at hl 6 rfl) ?_
  refine kSW (k := 0) (As := [.ref h, .int (nI u), .int (nI u)]) (rest := []) ⟨hx, hb, hml, hown, hts⟩ (w_together_same l hfl D cy h a0 a1 a2 N tr _ u hN hu) (vx_cwSW 3 hts gL_isNodeSo_L_together rfl rfl rfl (by decide +kernel) ⟨Nat.le_of_ble_eq_true rfl, Nat.le_of_ble_eq_true rfl⟩) hK hP (fun U hU hW => hT.move hW ⟨Nat.le_trans hS.1 (Nat.le_of_eq (by rw [hU])), fun q h => Eq.trans (by rw [hU]) (hS.2.1 q h (fun z => z))⟩) rfl hl rfl (Nat.le_of_ble_eq_true rfl) dL_isNodeSo_154 ⟨Nat.le_of_ble_eq_true rfl, Nat.le_of_ble_eq_true rfl⟩ hS (fun H5 locs hk9 hz9 hS => ?_)
  have hP := zkeep hP hk9
  have hz : s.heap.size + 0 ≤ H5.size := Nat.le_trans hz hk9.1
  refine lv_iload_n hx hb dL_isNodeSo_157 rfl (lv_at hl 4 rfl) ?_
  refine k_icmp_ne_f (tgt := 174) hx hb dL_isNodeSo_158 (by decide) (by decide +kernel) ?_
  refine lv_aload_n hx hb dL_isNodeSo_161 rfl (lv_at hl 5 rfl) ?_
  refine lv_iload_n hx hb dL_isNodeSo_162 rfl (lv_at hl 6 rfl) ?_
  refine lv_iload_n hx hb dL_isNodeSo_163 rfl (lv_at hl 6 rfl) ?_
  refine zrV (As := [.int (nI u), .int (nI u)]) (rest := []) 0 ⟨hx, hb, hml, hown, hts⟩ (c_X0_areJoined_ok l D cy h a0 a1 a2 N (nI 0) (nI 0) zf zf tr u u hN hu hu) (cwV 2 hts gL_isNodeSo_X0_areJoined rfl rfl rfl (by decide +kernel) ⟨Nat.le_of_ble_eq_true rfl, Nat.le_of_ble_eq_true rfl⟩) hK hP rfl rfl rfl hl rfl (Nat.le_of_ble_eq_true rfl) dL_isNodeSo_164 ⟨Nat.le_of_ble_eq_true rfl, Nat.le_of_ble_eq_true rfl⟩ hS (fun r9 H6 locs hw9 hk9 hS => ?_)
  obtain rfl : r9 = (zb false) := hw9.trans (congrArg zb (zf_b u u))
  have hP := zkeep hP hk9
  have hz : s.heap.size + 0 ≤ H6.size := Nat.le_trans hz hk9.1
  refine k_if_ne_f (tgt := 174) hx hb dL_isNodeSo_167 (by decide) (by decide +kernel) ?_
  refine lv_iconst (v := (nI 1)) hx hb dL_isNodeSo_170 (by decide) ?_
  refine lv_goto (tgt := 175) hx hb dL_isNodeSo_171 (by decide) ?_
  refine W.widen (k := 0) (n := 0) (Nat.le_of_ble_eq_true rfl) (Nat.le_of_ble_eq_true rfl) ?_
  refine vx_ret ?_
  exact W.zret (v := (nI 1)) (ty := .boolean) hx hb hr rfl (fun t9 ht9 hW9 => ⟨⟨(nI 1), (), rfl, rfl, by show s.heap.size + 0 ≤ t9.heap.size; rw [ht9]; exact hz⟩, hS.F ht9⟩) hS.2.2 dL_isNodeSo_175

set_option maxHeartbeats 4000000 in
set_option maxRecDepth 100000 in
theorem w_arePairsSo_same (l : Launch) (hfl : l.stackTraces = false) (D : va_G) (cy : ClassId) (h a0 a1 a2 : Nat) (N : Nat) (tr : Nat → Int32) (sz : Nat) (u : Nat) (hN : N ≤ 20) (hu : u < N) : vx_Met l yL_arePairsSo wsL_arePairsSo ({ frames := 9, cells := 2, slots := 12, locals := 151 } : Room) (va_Pc [.ref h, .int (nI u), .int (nI u)] (kRd D (wZ h a0 a1 a2 cy N tr) [(cy, .int)] sz)) (kPo (nI 1) sz 2) zXn 2 12 zNo := by
  refine vx_ofW (cc := cL_arePairsSo) (maxL := 7) (ret := (some .boolean)) (by decide) rfl ?_
  intro p e s m args below meth c s₁ B hml hto hv
  obtain ⟨rfl, ⟨⟨hP, hK⟩, hsz⟩, hT⟩ := hv
  have hx := B.exec
  have hb := B.bytes
  have hr := B.returns
  have hts := atoms_spec (ws := wsL_arePairsSo) B.pre
  have hown : s.vm.findClass RL = some m.cls := findClass_of_methodNamed B.named
  have hlocks := B.notSynchronized
  subst hsz
  have hS : va_S (fun _ => False) s.heap s.heap [] := va_S.rf
  have hl := lv_entry ([.ref h, .int (nI u), .int (nI u)]) (n := 7) (Nat.le_of_ble_eq_true rfl)
  rw [lg_entry_eq]
  generalize (lg_sl ([.ref h, .int (nI u), .int (nI u)]) ++ List.replicate (7 - (lg_sl ([.ref h, .int (nI u), .int (nI u)])).length) Slot.unset).toArray = ls at hl ⊢
  have hl : lv_has ls 7 [(0, .ref h), (1, .int (nI u)), (2, .int (nI u))] := hl
  have hz : s.heap.size + 0 ≤ s.heap.size := Nat.le_refl _
  refine lv_aload_n hx hb dL_arePairsSo_0 rfl (lv_at hl 0 rfl) ?_
  refine lv_iload_n hx hb dL_arePairsSo_1 rfl (lv_at hl 1 rfl) ?_
  refine lv_iload_n hx hb dL_arePairsSo_2 rfl (lv_at hl 2 rfl) ?_
  refine kSW (k := 0) (As := [.ref h, .int (nI u), .int (nI u)]) (rest := []) ⟨hx, hb, hml, hown, hts⟩ (w_together_same l hfl D cy h a0 a1 a2 N tr _ u hN hu) (vx_cwSW 3 hts gL_arePairsSo_L_together rfl rfl rfl (by decide +kernel) ⟨Nat.le_of_ble_eq_true rfl, Nat.le_of_ble_eq_true rfl⟩) hK hP (fun U hU hW => hT.move hW ⟨Nat.le_trans hS.1 (Nat.le_of_eq (by rw [hU])), fun q h => Eq.trans (by rw [hU]) (hS.2.1 q h (fun z => z))⟩) rfl hl rfl (Nat.le_of_ble_eq_true rfl) dL_arePairsSo_3 ⟨Nat.le_of_ble_eq_true rfl, Nat.le_of_ble_eq_true rfl⟩ hS (fun H1 locs hk9 hz9 hS => ?_)
  have hP := zkeep hP hk9
  have hz : s.heap.size + 0 ≤ H1.size := Nat.le_trans hz hk9.1
  refine lv_istore_n (lv' := [(3, .int (nI 0)), (0, .ref h), (1, .int (nI u)), (2, .int (nI u))]) hx hb dL_arePairsSo_6 rfl hl (by decide) rfl (fun ls hl => ?_)
  refine lv_aload_n hx hb dL_arePairsSo_7 rfl (lv_at hl 1 rfl) ?_
  refine lv_iload_n hx hb dL_arePairsSo_8 rfl (lv_at hl 2 rfl) ?_
  refine lv_iload_n hx hb dL_arePairsSo_9 rfl (lv_at hl 3 rfl) ?_
  refine kSW (k := 1) (As := [.ref h, .int (nI u), .int (nI u)]) (rest := []) ⟨hx, hb, hml, hown, hts⟩ (w_truss_none l hfl D cy h a0 a1 a2 N tr _ u u hN hu hu) (vx_cwSW 3 hts gL_arePairsSo_L_truss rfl rfl rfl (by decide +kernel) ⟨Nat.le_of_ble_eq_true rfl, Nat.le_of_ble_eq_true rfl⟩) hK hP (fun U hU hW => hT.move hW ⟨Nat.le_trans hS.1 (Nat.le_of_eq (by rw [hU])), fun q h => Eq.trans (by rw [hU]) (hS.2.1 q h (fun z => z))⟩) rfl hl rfl (Nat.le_of_ble_eq_true rfl) dL_arePairsSo_10 ⟨Nat.le_of_ble_eq_true rfl, Nat.le_of_ble_eq_true rfl⟩ hS (fun H2 locs hk9 hz9 hS => ?_)
  have hP := zkeep hP hk9
  have hz : s.heap.size + 1 ≤ H2.size := by omega
  refine lv_istore (lv' := [(4, .int (-1)), (3, .int (nI 0)), (0, .ref h), (1, .int (nI u)), (2, .int (nI u))]) hx hb dL_arePairsSo_13 hl (by decide) rfl (fun ls hl => ?_)
  refine lv_aload_n hx hb dL_arePairsSo_15 rfl (lv_at hl 2 rfl) ?_
  refine lv_iload_n hx hb dL_arePairsSo_16 rfl (lv_at hl 4 rfl) ?_
  refine lv_iload_n hx hb dL_arePairsSo_17 rfl (lv_at hl 3 rfl) ?_
  refine kSW (k := 0) (As := [.ref h, .int (nI u), .int (nI u)]) (rest := []) ⟨hx, hb, hml, hown, hts⟩ (w_together_same l hfl D cy h a0 a1 a2 N tr _ u hN hu) (vx_cwSW 3 hts gL_arePairsSo_L_together rfl rfl rfl (by decide +kernel) ⟨Nat.le_of_ble_eq_true rfl, Nat.le_of_ble_eq_true rfl⟩) hK hP (fun U hU hW => hT.move hW ⟨Nat.le_trans hS.1 (Nat.le_of_eq (by rw [hU])), fun q h => Eq.trans (by rw [hU]) (hS.2.1 q h (fun z => z))⟩) rfl hl rfl (Nat.le_of_ble_eq_true rfl) dL_arePairsSo_18 ⟨Nat.le_of_ble_eq_true rfl, Nat.le_of_ble_eq_true rfl⟩ hS (fun H3 locs hk9 hz9 hS => ?_)
  have hP := zkeep hP hk9
  have hz : s.heap.size + 1 ≤ H3.size := Nat.le_trans hz hk9.1
  refine lv_iload_n hx hb dL_arePairsSo_21 rfl (lv_at hl 1 rfl) ?_
  refine k_icmp_ne_f (tgt := 78) hx hb dL_arePairsSo_22 (by decide) (by decide +kernel) ?_
  refine lv_iload_n hx hb dL_arePairsSo_25 rfl (lv_at hl 1 rfl) ?_
  refine lv_aload_n hx hb dL_arePairsSo_26 rfl (lv_at hl 2 rfl) ?_
  refine lv_iload_n hx hb dL_arePairsSo_27 rfl (lv_at hl 3 rfl) ?_
  refine zrV (As := [.int (nI u)]) (rest := [.int (nI 0)]) 0 ⟨hx, hb, hml, hown, hts⟩ (c_X0_core_ok l D cy h a0 a1 a2 N (nI 0) (nI 0) zf zf tr u z0 hN hu (zcs _)) (cwV 1 hts gL_arePairsSo_X0_core rfl rfl rfl (by decide +kernel) ⟨Nat.le_of_ble_eq_true rfl, Nat.le_of_ble_eq_true rfl⟩) hK hP rfl rfl rfl hl rfl (Nat.le_of_ble_eq_true rfl) dL_arePairsSo_28 ⟨Nat.le_of_ble_eq_true rfl, Nat.le_of_ble_eq_true rfl⟩ hS (fun r9 H4 locs hw9 hk9 hS => ?_)
  obtain rfl : r9 = (nI 0) := hw9
  have hP := zkeep hP hk9
  have hz : s.heap.size + 1 ≤ H4.size := Nat.le_trans hz hk9.1
  refine k_icmp_gt_f (tgt := 78) hx hb dL_arePairsSo_31 (by decide) (by decide +kernel) ?_
  refine lv_iload_n hx hb dL_arePairsSo_34 rfl (lv_at hl 1 rfl) ?_
  refine lv_aload_n hx hb dL_arePairsSo_35 rfl (lv_at hl 2 rfl) ?_
  refine lv_iload_n hx hb dL_arePairsSo_36 rfl (lv_at hl 4 rfl) ?_
  refine zrV (As := [.int (nI u)]) (rest := [.int (nI 0)]) 0 ⟨hx, hb, hml, hown, hts⟩ (c_X0_core_ok l D cy h a0 a1 a2 N (nI 0) (nI 0) zf zf tr u z0 hN hu (zcs _)) (cwV 1 hts gL_arePairsSo_X0_core rfl rfl rfl (by decide +kernel) ⟨Nat.le_of_ble_eq_true rfl, Nat.le_of_ble_eq_true rfl⟩) hK hP rfl rfl rfl hl rfl (Nat.le_of_ble_eq_true rfl) dL_arePairsSo_37 ⟨Nat.le_of_ble_eq_true rfl, Nat.le_of_ble_eq_true rfl⟩ hS (fun r9 H5 locs hw9 hk9 hS => ?_)
  obtain rfl : r9 = (nI 0) := hw9
  have hP := zkeep hP hk9
  have hz : s.heap.size + 1 ≤ H5.size := Nat.le_trans hz hk9.1
  refine k_icmp_gt_f (tgt := 78) hx hb dL_arePairsSo_40 (by decide) (by decide +kernel) ?_
  refine lv_aload_n hx hb dL_arePairsSo_43 rfl (lv_at hl 2 rfl) ?_
  refine lv_iload_n hx hb dL_arePairsSo_44 rfl (lv_at hl 4 rfl) ?_
  refine lv_iload_n hx hb dL_arePairsSo_45 rfl (lv_at hl 3 rfl) ?_
  refine kSW (k := 1) (As := [.ref h, .int (nI u), .int (nI u)]) (rest := []) ⟨hx, hb, hml, hown, hts⟩ (w_truss_none l hfl D cy h a0 a1 a2 N tr _ u u hN hu hu) (vx_cwSW 3 hts gL_arePairsSo_L_truss rfl rfl rfl (by decide +kernel) ⟨Nat.le_of_ble_eq_true rfl, Nat.le_of_ble_eq_true rfl⟩) hK hP (fun U hU hW => hT.move hW ⟨Nat.le_trans hS.1 (Nat.le_of_eq (by rw [hU])), fun q h => Eq.trans (by rw [hU]) (hS.2.1 q h (fun z => z))⟩) rfl hl rfl (Nat.le_of_ble_eq_true rfl) dL_arePairsSo_46 ⟨Nat.le_of_ble_eq_true rfl, Nat.le_of_ble_eq_true rfl⟩ hS (fun H6 locs hk9 hz9 hS => ?_)
  have hP := zkeep hP hk9
  have hz : s.heap.size + 2 ≤ H6.size := by omega
  refine lv_iload hx hb dL_arePairsSo_49 (lv_at hl 0 rfl) ?_
  refine k_icmp_ne_f (tgt := 78) hx hb dL_arePairsSo_51 (by decide) (by decide +kernel) ?_
  refine lv_iload hx hb dL_arePairsSo_54 (lv_at hl 0 rfl) ?_
  refine lv_iconst (v := (nI 2)) hx hb dL_arePairsSo_56 (by decide) ?_
  refine k_icmp_lt_t (tgt := 64) hx hb dL_arePairsSo_57 (by decide) (by decide +kernel) ?_
  refine lv_iconst (v := (nI 0)) hx hb dL_arePairsSo_64 (by decide) ?_
  refine lv_aload_n hx hb dL_arePairsSo_65 rfl (lv_at hl 2 rfl) ?_
  refine lv_iload_n hx hb dL_arePairsSo_66 rfl (lv_at hl 3 rfl) ?_
  refine lv_iload_n hx hb dL_arePairsSo_67 rfl (lv_at hl 4 rfl) ?_
  refine zrV (As := [.int (nI u), .int (nI u)]) (rest := [.int (nI 0)]) 0 ⟨hx, hb, hml, hown, hts⟩ (c_X0_areJoined_ok l D cy h a0 a1 a2 N (nI 0) (nI 0) zf zf tr u u hN hu hu) (cwV 2 hts gL_arePairsSo_X0_areJoined rfl rfl rfl (by decide +kernel) ⟨Nat.le_of_ble_eq_true rfl, Nat.le_of_ble_eq_true rfl⟩) hK hP rfl rfl rfl hl rfl (Nat.le_of_ble_eq_true rfl) dL_arePairsSo_68 ⟨Nat.le_of_ble_eq_true rfl, Nat.le_of_ble_eq_true rfl⟩ hS (fun r9 H7 locs hw9 hk9 hS => ?_)
  obtain rfl : r9 = (zb false) := hw9.trans (congrArg zb (zf_b u u))
  have hP := zkeep hP hk9
  have hz : s.heap.size + 2 ≤ H7.size := Nat.le_trans hz hk9.1
  refine k_icmp_ne_f (tgt := 78) hx hb dL_arePairsSo_71 (by decide) (by decide +kernel) ?_
  refine lv_iconst (v := (nI 1)) hx hb dL_arePairsSo_74 (by decide) ?_
  refine lv_goto (tgt := 79) hx hb dL_arePairsSo_75 (by decide) ?_
  refine lv_istore (lv' := [(5, .int (nI 1)), (4, .int (-1)), (3, .int (nI 0)), (0, .ref h), (1, .int (nI u)), (2, .int (nI u))]) hx hb dL_arePairsSo_79 hl (by decide) rfl (fun ls hl => ?_)
  refine lv_iload hx hb dL_arePairsSo_81 (lv_at hl 0 rfl) ?_
  refine k_if_eq_f (tgt := 188) hx hb dL_arePairsSo_83 (by decide) (by decide +kernel) ?_
  refine lv_iload hx hb dL_arePairsSo_86 (lv_at hl 1 rfl) ?_
  refine lv_iconst (v := (nI 2)) hx hb dL_arePairsSo_88 (by decide) ?_
  refine k_icmp_lt_t (tgt := 188) hx hb dL_arePairsSo_89 (by decide) (by decide +kernel) ?_
  refine lv_iload hx hb dL_arePairsSo_188 (lv_at hl 0 rfl) ?_
  refine W.widen (k := 2) (n := 12) (Nat.le_of_ble_eq_true rfl) (Nat.le_of_ble_eq_true rfl) ?_
  refine vx_ret ?_
  exact W.zret (v := (nI 1)) (ty := .boolean) hx hb hr rfl (fun t9 ht9 hW9 => ⟨⟨(nI 1), (), rfl, rfl, by show s.heap.size + 2 ≤ t9.heap.size; rw [ht9]; exact hz⟩, hS.F ht9⟩) hS.2.2 dL_arePairsSo_190

set_option maxHeartbeats 4000000 in
set_option maxRecDepth 100000 in
theorem w_arePairsSo_two (l : Launch) (hfl : l.stackTraces = false) (D : va_G) (cy : ClassId) (h a0 a1 a2 : Nat) (N : Nat) (tr : Nat → Int32) (sz : Nat) (u v : Nat) (hN : N ≤ 20) (hu : u < N) (hv : v < N) (huv : u ≠ v) : vx_Met l yL_arePairsSo wsL_arePairsSo ({ frames := 9, cells := 4, slots := 24, locals := 151 } : Room) (va_Pc [.ref h, .int (nI u), .int (nI v)] (kRd D (wZ h a0 a1 a2 cy N tr) [(cy, .int)] sz)) (kPo (nI 1) sz 4) zXn 4 24 zNo := by
  refine vx_ofW (cc := cL_arePairsSo) (maxL := 7) (ret := (some .boolean)) (by decide) rfl ?_
  intro p e s m args below meth c s₁ B hml hto hv
  obtain ⟨rfl, ⟨⟨hP, hK⟩, hsz⟩, hT⟩ := hv
  have hx := B.exec
  have hb := B.bytes
  have hr := B.returns
  have hts := atoms_spec (ws := wsL_arePairsSo) B.pre
  have hown : s.vm.findClass RL = some m.cls := findClass_of_methodNamed B.named
  have hlocks := B.notSynchronized
  subst hsz
  have hS : va_S (fun _ => False) s.heap s.heap [] := va_S.rf
  have hl := lv_entry ([.ref h, .int (nI u), .int (nI v)]) (n := 7) (Nat.le_of_ble_eq_true rfl)
  rw [lg_entry_eq]
  generalize (lg_sl ([.ref h, .int (nI u), .int (nI v)]) ++ List.replicate (7 - (lg_sl ([.ref h, .int (nI u), .int (nI v)])).length) Slot.unset).toArray = ls at hl ⊢
  have hl : lv_has ls 7 [(0, .ref h), (1, .int (nI u)), (2, .int (nI v))] := hl
  have hz : s.heap.size + 0 ≤ s.heap.size := Nat.le_refl _
  refine lv_aload_n hx hb dL_arePairsSo_0 rfl (lv_at hl 0 rfl) ?_
  refine lv_iload_n hx hb dL_arePairsSo_1 rfl (lv_at hl 1 rfl) ?_
  refine lv_iload_n hx hb dL_arePairsSo_2 rfl (lv_at hl 2 rfl) ?_
  refine kSW (k := 1) (As := [.ref h, .int (nI u), .int (nI v)]) (rest := []) ⟨hx, hb, hml, hown, hts⟩ (w_together_none l hfl D cy h a0 a1 a2 N tr _ u v hN hu hv huv) (vx_cwSW 3 hts gL_arePairsSo_L_together rfl rfl rfl (by decide +kernel) ⟨Nat.le_of_ble_eq_true rfl, Nat.le_of_ble_eq_true rfl⟩) hK hP (fun U hU hW => hT.move hW ⟨Nat.le_trans hS.1 (Nat.le_of_eq (by rw [hU])), fun q h => Eq.trans (by rw [hU]) (hS.2.1 q h (fun z => z))⟩) rfl hl rfl (Nat.le_of_ble_eq_true rfl) dL_arePairsSo_3 ⟨Nat.le_of_ble_eq_true rfl, Nat.le_of_ble_eq_true rfl⟩ hS (fun H1 locs hk9 hz9 hS => ?_)
  have hP := zkeep hP hk9
  have hz : s.heap.size + 1 ≤ H1.size := by omega
  refine lv_istore_n (lv' := [(3, .int (-1)), (0, .ref h), (1, .int (nI u)), (2, .int (nI v))]) hx hb dL_arePairsSo_6 rfl hl (by decide) rfl (fun ls hl => ?_)
  refine lv_aload_n hx hb dL_arePairsSo_7 rfl (lv_at hl 1 rfl) ?_
  refine lv_iload_n hx hb dL_arePairsSo_8 rfl (lv_at hl 2 rfl) ?_
  refine lv_iload_n hx hb dL_arePairsSo_9 rfl (lv_at hl 3 rfl) ?_
  refine kSW (k := 1) (As := [.ref h, .int (nI u), .int (nI v)]) (rest := []) ⟨hx, hb, hml, hown, hts⟩ (w_truss_none l hfl D cy h a0 a1 a2 N tr _ u v hN hu hv) (vx_cwSW 3 hts gL_arePairsSo_L_truss rfl rfl rfl (by decide +kernel) ⟨Nat.le_of_ble_eq_true rfl, Nat.le_of_ble_eq_true rfl⟩) hK hP (fun U hU hW => hT.move hW ⟨Nat.le_trans hS.1 (Nat.le_of_eq (by rw [hU])), fun q h => Eq.trans (by rw [hU]) (hS.2.1 q h (fun z => z))⟩) rfl hl rfl (Nat.le_of_ble_eq_true rfl) dL_arePairsSo_10 ⟨Nat.le_of_ble_eq_true rfl, Nat.le_of_ble_eq_true rfl⟩ hS (fun H2 locs hk9 hz9 hS => ?_)
  have hP := zkeep hP hk9
  have hz : s.heap.size + 2 ≤ H2.size := by omega
  refine lv_istore (lv' := [(4, .int (-1)), (3, .int (-1)), (0, .ref h), (1, .int (nI u)), (2, .int (nI v))]) hx hb dL_arePairsSo_13 hl (by decide) rfl (fun ls hl => ?_)
  refine lv_aload_n hx hb dL_arePairsSo_15 rfl (lv_at hl 2 rfl) ?_
  refine lv_iload_n hx hb dL_arePairsSo_16 rfl (lv_at hl 4 rfl) ?_
  refine lv_iload_n hx hb dL_arePairsSo_17 rfl (lv_at hl 3 rfl) ?_
  refine kSW (k := 1) (As := [.ref h, .int (nI v), .int (nI u)]) (rest := []) ⟨hx, hb, hml, hown, hts⟩ (w_together_none l hfl D cy h a0 a1 a2 N tr _ v u hN hv hu (Ne.symm huv)) (vx_cwSW 3 hts gL_arePairsSo_L_together rfl rfl rfl (by decide +kernel) ⟨Nat.le_of_ble_eq_true rfl, Nat.le_of_ble_eq_true rfl⟩) hK hP (fun U hU hW => hT.move hW ⟨Nat.le_trans hS.1 (Nat.le_of_eq (by rw [hU])), fun q h => Eq.trans (by rw [hU]) (hS.2.1 q h (fun z => z))⟩) rfl hl rfl (Nat.le_of_ble_eq_true rfl) dL_arePairsSo_18 ⟨Nat.le_of_ble_eq_true rfl, Nat.le_of_ble_eq_true rfl⟩ hS (fun H3 locs hk9 hz9 hS => ?_)
  have hP := zkeep hP hk9
  have hz : s.heap.size + 3 ≤ H3.size := by omega
  refine lv_iload_n hx hb dL_arePairsSo_21 rfl (lv_at hl 1 rfl) ?_
  refine k_icmp_ne_f (tgt := 78) hx hb dL_arePairsSo_22 (by decide) (by decide +kernel) ?_
  refine lv_iload_n hx hb dL_arePairsSo_25 rfl (lv_at hl 1 rfl) ?_
  refine lv_aload_n hx hb dL_arePairsSo_26 rfl (lv_at hl 2 rfl) ?_
  refine lv_iload_n hx hb dL_arePairsSo_27 rfl (lv_at hl 3 rfl) ?_
  refine zrV (As := [.int (nI u)]) (rest := [.int (-1)]) 0 ⟨hx, hb, hml, hown, hts⟩ (c_X0_core_ok l D cy h a0 a1 a2 N (nI 0) (nI 0) zf zf tr u z0 hN hu (zcs _)) (cwV 1 hts gL_arePairsSo_X0_core rfl rfl rfl (by decide +kernel) ⟨Nat.le_of_ble_eq_true rfl, Nat.le_of_ble_eq_true rfl⟩) hK hP rfl rfl rfl hl rfl (Nat.le_of_ble_eq_true rfl) dL_arePairsSo_28 ⟨Nat.le_of_ble_eq_true rfl, Nat.le_of_ble_eq_true rfl⟩ hS (fun r9 H4 locs hw9 hk9 hS => ?_)
  obtain rfl : r9 = (nI 0) := hw9
  have hP := zkeep hP hk9
  have hz : s.heap.size + 3 ≤ H4.size := Nat.le_trans hz hk9.1
  refine k_icmp_gt_f (tgt := 78) hx hb dL_arePairsSo_31 (by decide) (by decide +kernel) ?_
  refine lv_iload_n hx hb dL_arePairsSo_34 rfl (lv_at hl 1 rfl) ?_
  refine lv_aload_n hx hb dL_arePairsSo_35 rfl (lv_at hl 2 rfl) ?_
  refine lv_iload_n hx hb dL_arePairsSo_36 rfl (lv_at hl 4 rfl) ?_
  refine zrV (As := [.int (nI v)]) (rest := [.int (-1)]) 0 ⟨hx, hb, hml, hown, hts⟩ (c_X0_core_ok l D cy h a0 a1 a2 N (nI 0) (nI 0) zf zf tr v z0 hN hv (zcs _)) (cwV 1 hts gL_arePairsSo_X0_core rfl rfl rfl (by decide +kernel) ⟨Nat.le_of_ble_eq_true rfl, Nat.le_of_ble_eq_true rfl⟩) hK hP rfl rfl rfl hl rfl (Nat.le_of_ble_eq_true rfl) dL_arePairsSo_37 ⟨Nat.le_of_ble_eq_true rfl, Nat.le_of_ble_eq_true rfl⟩ hS (fun r9 H5 locs hw9 hk9 hS => ?_)
  obtain rfl : r9 = (nI 0) := hw9
  have hP := zkeep hP hk9
  have hz : s.heap.size + 3 ≤ H5.size := Nat.le_trans hz hk9.1
  refine k_icmp_gt_f (tgt := 78) hx hb dL_arePairsSo_40 (by decide) (by decide +kernel) ?_
  refine lv_aload_n hx hb dL_arePairsSo_43 rfl (lv_at hl 2 rfl) ?_
  refine lv_iload_n hx hb dL_arePairsSo_44 rfl (lv_at hl 4 rfl) ?_
  refine lv_iload_n hx hb dL_arePairsSo_45 rfl (lv_at hl 3 rfl) ?_
  refine kSW (k := 1) (As := [.ref h, .int (nI v), .int (nI u)]) (rest := []) ⟨hx, hb, hml, hown, hts⟩ (w_truss_none l hfl D cy h a0 a1 a2 N tr _ v u hN hv hu) (vx_cwSW 3 hts gL_arePairsSo_L_truss rfl rfl rfl (by decide +kernel) ⟨Nat.le_of_ble_eq_true rfl, Nat.le_of_ble_eq_true rfl⟩) hK hP (fun U hU hW => hT.move hW ⟨Nat.le_trans hS.1 (Nat.le_of_eq (by rw [hU])), fun q h => Eq.trans (by rw [hU]) (hS.2.1 q h (fun z => z))⟩) rfl hl rfl (Nat.le_of_ble_eq_true rfl) dL_arePairsSo_46 ⟨Nat.le_of_ble_eq_true rfl, Nat.le_of_ble_eq_true rfl⟩ hS (fun H6 locs hk9 hz9 hS => ?_)
  have hP := zkeep hP hk9
  have hz : s.heap.size + 4 ≤ H6.size := by omega
  refine lv_iload hx hb dL_arePairsSo_49 (lv_at hl 0 rfl) ?_
  refine k_icmp_ne_f (tgt := 78) hx hb dL_arePairsSo_51 (by decide) (by decide +kernel) ?_
  refine lv_iload hx hb dL_arePairsSo_54 (lv_at hl 0 rfl) ?_
  refine lv_iconst (v := (nI 2)) hx hb dL_arePairsSo_56 (by decide) ?_
  refine k_icmp_lt_t (tgt := 64) hx hb dL_arePairsSo_57 (by decide) (by decide +kernel) ?_
  refine lv_iconst (v := (nI 0)) hx hb dL_arePairsSo_64 (by decide) ?_
  refine lv_aload_n hx hb dL_arePairsSo_65 rfl (lv_at hl 2 rfl) ?_
  refine lv_iload_n hx hb dL_arePairsSo_66 rfl (lv_at hl 3 rfl) ?_
  refine lv_iload_n hx hb dL_arePairsSo_67 rfl (lv_at hl 4 rfl) ?_
  refine zrV (As := [.int (nI u), .int (nI v)]) (rest := [.int (nI 0)]) 0 ⟨hx, hb, hml, hown, hts⟩ (c_X0_areJoined_ok l D cy h a0 a1 a2 N (nI 0) (nI 0) zf zf tr u v hN hu hv) (cwV 2 hts gL_arePairsSo_X0_areJoined rfl rfl rfl (by decide +kernel) ⟨Nat.le_of_ble_eq_true rfl, Nat.le_of_ble_eq_true rfl⟩) hK hP rfl rfl rfl hl rfl (Nat.le_of_ble_eq_true rfl) dL_arePairsSo_68 ⟨Nat.le_of_ble_eq_true rfl, Nat.le_of_ble_eq_true rfl⟩ hS (fun r9 H7 locs hw9 hk9 hS => ?_)
  obtain rfl : r9 = (zb false) := hw9.trans (congrArg zb (zf_b u v))
  have hP := zkeep hP hk9
  have hz : s.heap.size + 4 ≤ H7.size := Nat.le_trans hz hk9.1
  refine k_icmp_ne_f (tgt := 78) hx hb dL_arePairsSo_71 (by decide) (by decide +kernel) ?_
  refine lv_iconst (v := (nI 1)) hx hb dL_arePairsSo_74 (by decide) ?_
  refine lv_goto (tgt := 79) hx hb dL_arePairsSo_75 (by decide) ?_
  refine lv_istore (lv' := [(5, .int (nI 1)), (4, .int (-1)), (3, .int (-1)), (0, .ref h), (1, .int (nI u)), (2, .int (nI v))]) hx hb dL_arePairsSo_79 hl (by decide) rfl (fun ls hl => ?_)
  refine lv_iload hx hb dL_arePairsSo_81 (lv_at hl 0 rfl) ?_
  refine k_if_eq_f (tgt := 188) hx hb dL_arePairsSo_83 (by decide) (by decide +kernel) ?_
  refine lv_iload hx hb dL_arePairsSo_86 (lv_at hl 1 rfl) ?_
  refine lv_iconst (v := (nI 2)) hx hb dL_arePairsSo_88 (by decide) ?_
  refine k_icmp_lt_t (tgt := 188) hx hb dL_arePairsSo_89 (by decide) (by decide +kernel) ?_
  refine lv_iload hx hb dL_arePairsSo_188 (lv_at hl 0 rfl) ?_
  refine W.widen (k := 4) (n := 24) (Nat.le_of_ble_eq_true rfl) (Nat.le_of_ble_eq_true rfl) ?_
  refine vx_ret ?_
  exact W.zret (v := (nI 1)) (ty := .boolean) hx hb hr rfl (fun t9 ht9 hW9 => ⟨⟨(nI 1), (), rfl, rfl, by show s.heap.size + 4 ≤ t9.heap.size; rw [ht9]; exact hz⟩, hS.F ht9⟩) hS.2.2 dL_arePairsSo_190

set_option maxHeartbeats 4000000 in
set_option maxRecDepth 100000 in
theorem w_areAlike_1 (l : Launch) (hfl : l.stackTraces = false) (D : va_G) (cy : ClassId) (h a0 a1 a2 : Nat) (h2 b0 b1 b2 : Nat) (tr tr2 : Nat → Int32) (sz : Nat)  : vx_Met l yL_areAlike wsL_areAlike ({ frames := 8, cells := 0, slots := 0, locals := 124 } : Room) (va_Pc [.ref h, .ref h2] (kRd D (wZ h a0 a1 a2 cy 1 tr ++ wZ h2 b0 b1 b2 cy 1 tr2) [(cy, .int)] sz)) (kPo (nI 1) sz 0) zXn 0 0 zNo := by
  refine vx_ofW (cc := cL_areAlike) (maxL := 4) (ret := (some .boolean)) (by decide) rfl ?_
  intro p e s m args below meth c s₁ B hml hto hv
  obtain ⟨rfl, ⟨⟨hP, hK⟩, hsz⟩, hT⟩ := hv
  have hx := B.exec
  have hb := B.bytes
  have hr := B.returns
  have hts := atoms_spec (ws := wsL_areAlike) B.pre
  have hown : s.vm.findClass RL = some m.cls := findClass_of_methodNamed B.named
  have hlocks := B.notSynchronized
  subst hsz
  have hS : va_S (fun _ => False) s.heap s.heap [] := va_S.rf
  have hl := lv_entry ([.ref h, .ref h2]) (n := 4) (Nat.le_of_ble_eq_true rfl)
  rw [lg_entry_eq]
  generalize (lg_sl ([.ref h, .ref h2]) ++ List.replicate (4 - (lg_sl ([.ref h, .ref h2])).length) Slot.unset).toArray = ls at hl ⊢
  have hl : lv_has ls 4 [(0, .ref h), (1, .ref h2)] := hl
  have hz : s.heap.size + 0 ≤ s.heap.size := Nat.le_refl _
  refine lv_aload_n hx hb dL_areAlike_0 rfl (lv_at hl 0 rfl) ?_
  have hPo := hP.sub (ws' := wZ h a0 a1 a2 cy 1 tr) [0, 1, 2, 3] rfl
  refine zrV (As := []) (rest := []) 0 ⟨hx, hb, hml, hown, hts⟩ (c_X0_nodes l D cy h a0 a1 a2 1 (nI 0) (nI 0) zf zf tr) (cwV 0 hts gL_areAlike_X0_nodes rfl rfl rfl (by decide +kernel) ⟨Nat.le_of_ble_eq_true rfl, Nat.le_of_ble_eq_true rfl⟩) hK hPo rfl rfl rfl hl rfl (Nat.le_of_ble_eq_true rfl) dL_areAlike_1 ⟨Nat.le_of_ble_eq_true rfl, Nat.le_of_ble_eq_true rfl⟩ hS (fun r9 H1 locs hw9 hk9 hS => ?_)
  obtain rfl : r9 = (nI 1) := hw9
  have hP := zkeep hP hk9
  have hz : s.heap.size + 0 ≤ H1.size := Nat.le_trans hz hk9.1
  refine lv_aload_n hx hb dL_areAlike_4 rfl (lv_at hl 1 rfl) ?_
  have hPo := hP.sub (ws' := wZ h2 b0 b1 b2 cy 1 tr2) [4, 5, 6, 7] rfl
  refine zrV (As := []) (rest := [.int (nI 1)]) 0 ⟨hx, hb, hml, hown, hts⟩ (c_X0_nodes l D cy h2 b0 b1 b2 1 (nI 0) (nI 0) zf zf tr2) (cwV 0 hts gL_areAlike_X0_nodes rfl rfl rfl (by decide +kernel) ⟨Nat.le_of_ble_eq_true rfl, Nat.le_of_ble_eq_true rfl⟩) hK hPo rfl rfl rfl hl rfl (Nat.le_of_ble_eq_true rfl) dL_areAlike_5 ⟨Nat.le_of_ble_eq_true rfl, Nat.le_of_ble_eq_true rfl⟩ hS (fun r9 H2 locs hw9 hk9 hS => ?_)
  obtain rfl : r9 = (nI 1) := hw9
  have hP := zkeep hP hk9
  have hz : s.heap.size + 0 ≤ H2.size := Nat.le_trans hz hk9.1
  refine k_icmp_ne_f (tgt := 59) hx hb dL_areAlike_8 (by decide) (by decide +kernel) ?_
  refine lv_aload_n hx hb dL_areAlike_11 rfl (lv_at hl 0 rfl) ?_
  have hPo := hP.sub (ws' := wZ h a0 a1 a2 cy 1 tr) [0, 1, 2, 3] rfl
  refine zrV (As := []) (rest := []) 0 ⟨hx, hb, hml, hown, hts⟩ (c_X0_edges l D cy h a0 a1 a2 1 (nI 0) (nI 0) zf zf tr) (cwV 0 hts gL_areAlike_X0_edges rfl rfl rfl (by decide +kernel) ⟨Nat.le_of_ble_eq_true rfl, Nat.le_of_ble_eq_true rfl⟩) hK hPo rfl rfl rfl hl rfl (Nat.le_of_ble_eq_true rfl) dL_areAlike_12 ⟨Nat.le_of_ble_eq_true rfl, Nat.le_of_ble_eq_true rfl⟩ hS (fun r9 H3 locs hw9 hk9 hS => ?_)
  obtain rfl : r9 = (nI 0) := hw9
  have hP := zkeep hP hk9
  have hz : s.heap.size + 0 ≤ H3.size := Nat.le_trans hz hk9.1
  refine lv_aload_n hx hb dL_areAlike_15 rfl (lv_at hl 1 rfl) ?_
  have hPo := hP.sub (ws' := wZ h2 b0 b1 b2 cy 1 tr2) [4, 5, 6, 7] rfl
  refine zrV (As := []) (rest := [.int (nI 0)]) 0 ⟨hx, hb, hml, hown, hts⟩ (c_X0_edges l D cy h2 b0 b1 b2 1 (nI 0) (nI 0) zf zf tr2) (cwV 0 hts gL_areAlike_X0_edges rfl rfl rfl (by decide +kernel) ⟨Nat.le_of_ble_eq_true rfl, Nat.le_of_ble_eq_true rfl⟩) hK hPo rfl rfl rfl hl rfl (Nat.le_of_ble_eq_true rfl) dL_areAlike_16 ⟨Nat.le_of_ble_eq_true rfl, Nat.le_of_ble_eq_true rfl⟩ hS (fun r9 H4 locs hw9 hk9 hS => ?_)
  obtain rfl : r9 = (nI 0) := hw9
  have hP := zkeep hP hk9
  have hz : s.heap.size + 0 ≤ H4.size := Nat.le_trans hz hk9.1
  refine k_icmp_ne_f (tgt := 59) hx hb dL_areAlike_19 (by decide) (by decide +kernel) ?_
  refine lv_aload_n hx hb dL_areAlike_22 rfl (lv_at hl 0 rfl) ?_
  have hPo := hP.sub (ws' := wZ h a0 a1 a2 cy 1 tr) [0, 1, 2, 3] rfl
  refine zrV (As := []) (rest := []) 0 ⟨hx, hb, hml, hown, hts⟩ (c_X0_changes l D cy h a0 a1 a2 1 (nI 0) (nI 0) zf zf tr) (cwV 0 hts gL_areAlike_X0_changes rfl rfl rfl (by decide +kernel) ⟨Nat.le_of_ble_eq_true rfl, Nat.le_of_ble_eq_true rfl⟩) hK hPo rfl rfl rfl hl rfl (Nat.le_of_ble_eq_true rfl) dL_areAlike_23 ⟨Nat.le_of_ble_eq_true rfl, Nat.le_of_ble_eq_true rfl⟩ hS (fun r9 H5 locs hw9 hk9 hS => ?_)
  obtain rfl : r9 = (nI 0) := hw9
  have hP := zkeep hP hk9
  have hz : s.heap.size + 0 ≤ H5.size := Nat.le_trans hz hk9.1
  refine lv_aload_n hx hb dL_areAlike_26 rfl (lv_at hl 1 rfl) ?_
  have hPo := hP.sub (ws' := wZ h2 b0 b1 b2 cy 1 tr2) [4, 5, 6, 7] rfl
  refine zrV (As := []) (rest := [.int (nI 0)]) 0 ⟨hx, hb, hml, hown, hts⟩ (c_X0_changes l D cy h2 b0 b1 b2 1 (nI 0) (nI 0) zf zf tr2) (cwV 0 hts gL_areAlike_X0_changes rfl rfl rfl (by decide +kernel) ⟨Nat.le_of_ble_eq_true rfl, Nat.le_of_ble_eq_true rfl⟩) hK hPo rfl rfl rfl hl rfl (Nat.le_of_ble_eq_true rfl) dL_areAlike_27 ⟨Nat.le_of_ble_eq_true rfl, Nat.le_of_ble_eq_true rfl⟩ hS (fun r9 H6 locs hw9 hk9 hS => ?_)
  obtain rfl : r9 = (nI 0) := hw9
  have hP := zkeep hP hk9
  have hz : s.heap.size + 0 ≤ H6.size := Nat.le_trans hz hk9.1
  refine k_icmp_ne_f (tgt := 59) hx hb dL_areAlike_30 (by decide) (by decide +kernel) ?_
  refine lv_aload_n hx hb dL_areAlike_33 rfl (lv_at hl 0 rfl) ?_
  have hPo := hP.sub (ws' := wZ h a0 a1 a2 cy 1 tr) [0, 1, 2, 3] rfl
  refine zrV (As := []) (rest := []) 0 ⟨hx, hb, hml, hown, hts⟩ (c_X0_degeneracy l D cy h a0 a1 a2 1 (nI 0) (nI 0) zf zf tr z0 (by decide) (zcs _)) (cwV 0 hts gL_areAlike_X0_degeneracy rfl rfl rfl (by decide +kernel) ⟨Nat.le_of_ble_eq_true rfl, Nat.le_of_ble_eq_true rfl⟩) hK hPo rfl rfl rfl hl rfl (Nat.le_of_ble_eq_true rfl) dL_areAlike_34 ⟨Nat.le_of_ble_eq_true rfl, Nat.le_of_ble_eq_true rfl⟩ hS (fun r9 H7 locs hw9 hk9 hS => ?_)
  obtain rfl : r9 = (nI 0) := by obtain ⟨d, h1, -, h2⟩ := hw9; rw [h1, zdeg0 h2]
  have hP := zkeep hP hk9
  have hz : s.heap.size + 0 ≤ H7.size := Nat.le_trans hz hk9.1
  refine lv_aload_n hx hb dL_areAlike_37 rfl (lv_at hl 1 rfl) ?_
  have hPo := hP.sub (ws' := wZ h2 b0 b1 b2 cy 1 tr2) [4, 5, 6, 7] rfl
  refine zrV (As := []) (rest := [.int (nI 0)]) 0 ⟨hx, hb, hml, hown, hts⟩ (c_X0_degeneracy l D cy h2 b0 b1 b2 1 (nI 0) (nI 0) zf zf tr2 z0 (by decide) (zcs _)) (cwV 0 hts gL_areAlike_X0_degeneracy rfl rfl rfl (by decide +kernel) ⟨Nat.le_of_ble_eq_true rfl, Nat.le_of_ble_eq_true rfl⟩) hK hPo rfl rfl rfl hl rfl (Nat.le_of_ble_eq_true rfl) dL_areAlike_38 ⟨Nat.le_of_ble_eq_true rfl, Nat.le_of_ble_eq_true rfl⟩ hS (fun r9 H8 locs hw9 hk9 hS => ?_)
  obtain rfl : r9 = (nI 0) := by obtain ⟨d, h1, -, h2⟩ := hw9; rw [h1, zdeg0 h2]
  have hP := zkeep hP hk9
  have hz : s.heap.size + 0 ≤ H8.size := Nat.le_trans hz hk9.1
  refine k_icmp_ne_f (tgt := 59) hx hb dL_areAlike_41 (by decide) (by decide +kernel) ?_
  refine lv_aload_n hx hb dL_areAlike_44 rfl (lv_at hl 0 rfl) ?_
  have hPo := hP.sub (ws' := wZ h a0 a1 a2 cy 1 tr) [0, 1, 2, 3] rfl
  refine zrV (As := []) (rest := []) 0 ⟨hx, hb, hml, hown, hts⟩ (c_X0_triangles l D cy h a0 a1 a2 1 (nI 0) (nI 0) zf zf tr (by decide)) (cwV 0 hts gL_areAlike_X0_triangles rfl rfl rfl (by decide +kernel) ⟨Nat.le_of_ble_eq_true rfl, Nat.le_of_ble_eq_true rfl⟩) hK hPo rfl rfl rfl hl rfl (Nat.le_of_ble_eq_true rfl) dL_areAlike_45 ⟨Nat.le_of_ble_eq_true rfl, Nat.le_of_ble_eq_true rfl⟩ hS (fun r9 H9 locs hw9 hk9 hS => ?_)
  obtain rfl : r9 = (nI 0) := hw9.trans (congrArg nI ztri1)
  have hP := zkeep hP hk9
  have hz : s.heap.size + 0 ≤ H9.size := Nat.le_trans hz hk9.1
  refine lv_aload_n hx hb dL_areAlike_48 rfl (lv_at hl 1 rfl) ?_
  have hPo := hP.sub (ws' := wZ h2 b0 b1 b2 cy 1 tr2) [4, 5, 6, 7] rfl
  refine zrV (As := []) (rest := [.int (nI 0)]) 0 ⟨hx, hb, hml, hown, hts⟩ (c_X0_triangles l D cy h2 b0 b1 b2 1 (nI 0) (nI 0) zf zf tr2 (by decide)) (cwV 0 hts gL_areAlike_X0_triangles rfl rfl rfl (by decide +kernel) ⟨Nat.le_of_ble_eq_true rfl, Nat.le_of_ble_eq_true rfl⟩) hK hPo rfl rfl rfl hl rfl (Nat.le_of_ble_eq_true rfl) dL_areAlike_49 ⟨Nat.le_of_ble_eq_true rfl, Nat.le_of_ble_eq_true rfl⟩ hS (fun r9 H10 locs hw9 hk9 hS => ?_)
  obtain rfl : r9 = (nI 0) := hw9.trans (congrArg nI ztri1)
  have hP := zkeep hP hk9
  have hz : s.heap.size + 0 ≤ H10.size := Nat.le_trans hz hk9.1
  refine k_icmp_ne_f (tgt := 59) hx hb dL_areAlike_52 (by decide) (by decide +kernel) ?_
  refine lv_iconst (v := (nI 1)) hx hb dL_areAlike_55 (by decide) ?_
  refine lv_goto (tgt := 60) hx hb dL_areAlike_56 (by decide) ?_
  refine lv_istore_n (lv' := [(2, .int (nI 1)), (0, .ref h), (1, .ref h2)]) hx hb dL_areAlike_60 rfl hl (by decide) rfl (fun ls hl => ?_)
  refine lv_iconst (v := (nI 0)) hx hb dL_areAlike_61 (by decide) ?_
  refine lv_istore_n (lv' := [(3, .int (nI 0)), (2, .int (nI 1)), (0, .ref h), (1, .ref h2)]) hx hb dL_areAlike_62 rfl hl (by decide) rfl (fun ls hl => ?_)
  refine lv_iload_n hx hb dL_areAlike_63 rfl (lv_at hl 0 rfl) ?_
  refine lv_aload_n hx hb dL_areAlike_64 rfl (lv_at hl 2 rfl) ?_
  have hPo := hP.sub (ws' := wZ h a0 a1 a2 cy 1 tr) [0, 1, 2, 3] rfl
  refine zrV (As := []) (rest := [.int (nI 0)]) 0 ⟨hx, hb, hml, hown, hts⟩ (c_X0_nodes l D cy h a0 a1 a2 1 (nI 0) (nI 0) zf zf tr) (cwV 0 hts gL_areAlike_X0_nodes rfl rfl rfl (by decide +kernel) ⟨Nat.le_of_ble_eq_true rfl, Nat.le_of_ble_eq_true rfl⟩) hK hPo rfl rfl rfl hl rfl (Nat.le_of_ble_eq_true rfl) dL_areAlike_65 ⟨Nat.le_of_ble_eq_true rfl, Nat.le_of_ble_eq_true rfl⟩ hS (fun r9 H11 locs hw9 hk9 hS => ?_)
  obtain rfl : r9 = (nI 1) := hw9
  have hP := zkeep hP hk9
  have hz : s.heap.size + 0 ≤ H11.size := Nat.le_trans hz hk9.1
  refine k_icmp_ge_f (tgt := 113) hx hb dL_areAlike_68 (by decide) (by decide +kernel) ?_
  refine lv_iload_n hx hb dL_areAlike_71 rfl (lv_at hl 1 rfl) ?_
  refine k_if_eq_f (tgt := 113) hx hb dL_areAlike_72 (by decide) (by decide +kernel) ?_
  refine lv_aload_n hx hb dL_areAlike_75 rfl (lv_at hl 2 rfl) ?_
  refine lv_iload_n hx hb dL_areAlike_76 rfl (lv_at hl 0 rfl) ?_
  have hPo := hP.sub (ws' := wZ h a0 a1 a2 cy 1 tr) [0, 1, 2, 3] rfl
  refine zrV (As := [.int (nI 0)]) (rest := []) 0 ⟨hx, hb, hml, hown, hts⟩ (c_X0_core_ok l D cy h a0 a1 a2 1 (nI 0) (nI 0) zf zf tr 0 z0 (by decide) (by decide) (zcs _)) (cwV 1 hts gL_areAlike_X0_core rfl rfl rfl (by decide +kernel) ⟨Nat.le_of_ble_eq_true rfl, Nat.le_of_ble_eq_true rfl⟩) hK hPo rfl rfl rfl hl rfl (Nat.le_of_ble_eq_true rfl) dL_areAlike_77 ⟨Nat.le_of_ble_eq_true rfl, Nat.le_of_ble_eq_true rfl⟩ hS (fun r9 H12 locs hw9 hk9 hS => ?_)
  obtain rfl : r9 = (nI 0) := hw9
  have hP := zkeep hP hk9
  have hz : s.heap.size + 0 ≤ H12.size := Nat.le_trans hz hk9.1
  refine lv_aload_n hx hb dL_areAlike_80 rfl (lv_at hl 3 rfl) ?_
  refine lv_iload_n hx hb dL_areAlike_81 rfl (lv_at hl 0 rfl) ?_
  have hPo := hP.sub (ws' := wZ h2 b0 b1 b2 cy 1 tr2) [4, 5, 6, 7] rfl
  refine zrV (As := [.int (nI 0)]) (rest := [.int (nI 0)]) 0 ⟨hx, hb, hml, hown, hts⟩ (c_X0_core_ok l D cy h2 b0 b1 b2 1 (nI 0) (nI 0) zf zf tr2 0 z0 (by decide) (by decide) (zcs _)) (cwV 1 hts gL_areAlike_X0_core rfl rfl rfl (by decide +kernel) ⟨Nat.le_of_ble_eq_true rfl, Nat.le_of_ble_eq_true rfl⟩) hK hPo rfl rfl rfl hl rfl (Nat.le_of_ble_eq_true rfl) dL_areAlike_82 ⟨Nat.le_of_ble_eq_true rfl, Nat.le_of_ble_eq_true rfl⟩ hS (fun r9 H13 locs hw9 hk9 hS => ?_)
  obtain rfl : r9 = (nI 0) := hw9
  have hP := zkeep hP hk9
  have hz : s.heap.size + 0 ≤ H13.size := Nat.le_trans hz hk9.1
  refine k_icmp_ne_f (tgt := 105) hx hb dL_areAlike_85 (by decide) (by decide +kernel) ?_
  refine lv_aload_n hx hb dL_areAlike_88 rfl (lv_at hl 2 rfl) ?_
  refine lv_iload_n hx hb dL_areAlike_89 rfl (lv_at hl 0 rfl) ?_
  have hPo := hP.sub (ws' := wZ h a0 a1 a2 cy 1 tr) [0, 1, 2, 3] rfl
  refine zrV (As := [.int (nI 0)]) (rest := []) 0 ⟨hx, hb, hml, hown, hts⟩ (c_X0_degree_ok l D cy h a0 a1 a2 1 (nI 0) (nI 0) zf zf tr 0 (by decide) (by decide)) (cwV 1 hts gL_areAlike_X0_degree rfl rfl rfl (by decide +kernel) ⟨Nat.le_of_ble_eq_true rfl, Nat.le_of_ble_eq_true rfl⟩) hK hPo rfl rfl rfl hl rfl (Nat.le_of_ble_eq_true rfl) dL_areAlike_90 ⟨Nat.le_of_ble_eq_true rfl, Nat.le_of_ble_eq_true rfl⟩ hS (fun r9 H14 locs hw9 hk9 hS => ?_)
  obtain rfl : r9 = (nI 0) := hw9.trans (congrArg nI (zrow 0))
  have hP := zkeep hP hk9
  have hz : s.heap.size + 0 ≤ H14.size := Nat.le_trans hz hk9.1
  refine lv_aload_n hx hb dL_areAlike_93 rfl (lv_at hl 3 rfl) ?_
  refine lv_iload_n hx hb dL_areAlike_94 rfl (lv_at hl 0 rfl) ?_
  have hPo := hP.sub (ws' := wZ h2 b0 b1 b2 cy 1 tr2) [4, 5, 6, 7] rfl
  refine zrV (As := [.int (nI 0)]) (rest := [.int (nI 0)]) 0 ⟨hx, hb, hml, hown, hts⟩ (c_X0_degree_ok l D cy h2 b0 b1 b2 1 (nI 0) (nI 0) zf zf tr2 0 (by decide) (by decide)) (cwV 1 hts gL_areAlike_X0_degree rfl rfl rfl (by decide +kernel) ⟨Nat.le_of_ble_eq_true rfl, Nat.le_of_ble_eq_true rfl⟩) hK hPo rfl rfl rfl hl rfl (Nat.le_of_ble_eq_true rfl) dL_areAlike_95 ⟨Nat.le_of_ble_eq_true rfl, Nat.le_of_ble_eq_true rfl⟩ hS (fun r9 H15 locs hw9 hk9 hS => ?_)
  obtain rfl : r9 = (nI 0) := hw9.trans (congrArg nI (zrow 0))
  have hP := zkeep hP hk9
  have hz : s.heap.size + 0 ≤ H15.size := Nat.le_trans hz hk9.1
  refine k_icmp_ne_f (tgt := 105) hx hb dL_areAlike_98 (by decide) (by decide +kernel) ?_
  refine lv_iconst (v := (nI 1)) hx hb dL_areAlike_101 (by decide) ?_
  refine lv_goto (tgt := 106) hx hb dL_areAlike_102 (by decide) ?_
  refine lv_istore_n (lv' := [(2, .int (nI 1)), (3, .int (nI 0)), (0, .ref h), (1, .ref h2)]) hx hb dL_areAlike_106 rfl hl (by decide) rfl (fun ls hl => ?_)
  refine lv_iinc (v := (nI 1)) (lv' := [(3, .int (nI 1)), (2, .int (nI 1)), (0, .ref h), (1, .ref h2)]) hx hb dL_areAlike_107 hl (k := 1) rfl (by decide +kernel) (by decide) rfl (fun ls hl => ?_)
  refine lv_goto (tgt := 63) hx hb dL_areAlike_110 (by decide) ?_
  refine lv_iload_n hx hb dL_areAlike_63 rfl (lv_at hl 0 rfl) ?_
  refine lv_aload_n hx hb dL_areAlike_64 rfl (lv_at hl 2 rfl) ?_
  have hPo := hP.sub (ws' := wZ h a0 a1 a2 cy 1 tr) [0, 1, 2, 3] rfl
  refine zrV (As := []) (rest := [.int (nI 1)]) 0 ⟨hx, hb, hml, hown, hts⟩ (c_X0_nodes l D cy h a0 a1 a2 1 (nI 0) (nI 0) zf zf tr) (cwV 0 hts gL_areAlike_X0_nodes rfl rfl rfl (by decide +kernel) ⟨Nat.le_of_ble_eq_true rfl, Nat.le_of_ble_eq_true rfl⟩) hK hPo rfl rfl rfl hl rfl (Nat.le_of_ble_eq_true rfl) dL_areAlike_65 ⟨Nat.le_of_ble_eq_true rfl, Nat.le_of_ble_eq_true rfl⟩ hS (fun r9 H16 locs hw9 hk9 hS => ?_)
  obtain rfl : r9 = (nI 1) := hw9
  have hP := zkeep hP hk9
  have hz : s.heap.size + 0 ≤ H16.size := Nat.le_trans hz hk9.1
  refine k_icmp_ge_t (tgt := 113) hx hb dL_areAlike_68 (by decide) (by decide +kernel) ?_
  refine lv_iload_n hx hb dL_areAlike_113 rfl (lv_at hl 1 rfl) ?_
  refine W.widen (k := 0) (n := 0) (Nat.le_of_ble_eq_true rfl) (Nat.le_of_ble_eq_true rfl) ?_
  refine vx_ret ?_
  exact W.zret (v := (nI 1)) (ty := .boolean) hx hb hr rfl (fun t9 ht9 hW9 => ⟨⟨(nI 1), (), rfl, rfl, by show s.heap.size + 0 ≤ t9.heap.size; rw [ht9]; exact hz⟩, hS.F ht9⟩) hS.2.2 dL_areAlike_114

set_option maxHeartbeats 4000000 in
set_option maxRecDepth 100000 in
theorem w_areAlike_2 (l : Launch) (hfl : l.stackTraces = false) (D : va_G) (cy : ClassId) (h a0 a1 a2 : Nat) (h2 b0 b1 b2 : Nat) (tr tr2 : Nat → Int32) (sz : Nat)  : vx_Met l yL_areAlike wsL_areAlike ({ frames := 8, cells := 0, slots := 0, locals := 124 } : Room) (va_Pc [.ref h, .ref h2] (kRd D (wZ h a0 a1 a2 cy 2 tr ++ wZ h2 b0 b1 b2 cy 2 tr2) [(cy, .int)] sz)) (kPo (nI 1) sz 0) zXn 0 0 zNo := by
  refine vx_ofW (cc := cL_areAlike) (maxL := 4) (ret := (some .boolean)) (by decide) rfl ?_
  intro p e s m args below meth c s₁ B hml hto hv
  obtain ⟨rfl, ⟨⟨hP, hK⟩, hsz⟩, hT⟩ := hv
  have hx := B.exec
  have hb := B.bytes
  have hr := B.returns
  have hts := atoms_spec (ws := wsL_areAlike) B.pre
  have hown : s.vm.findClass RL = some m.cls := findClass_of_methodNamed B.named
  have hlocks := B.notSynchronized
  subst hsz
  have hS : va_S (fun _ => False) s.heap s.heap [] := va_S.rf
  have hl := lv_entry ([.ref h, .ref h2]) (n := 4) (Nat.le_of_ble_eq_true rfl)
  rw [lg_entry_eq]
  generalize (lg_sl ([.ref h, .ref h2]) ++ List.replicate (4 - (lg_sl ([.ref h, .ref h2])).length) Slot.unset).toArray = ls at hl ⊢
  have hl : lv_has ls 4 [(0, .ref h), (1, .ref h2)] := hl
  have hz : s.heap.size + 0 ≤ s.heap.size := Nat.le_refl _
  refine lv_aload_n hx hb dL_areAlike_0 rfl (lv_at hl 0 rfl) ?_
  have hPo := hP.sub (ws' := wZ h a0 a1 a2 cy 2 tr) [0, 1, 2, 3] rfl
  refine zrV (As := []) (rest := []) 0 ⟨hx, hb, hml, hown, hts⟩ (c_X0_nodes l D cy h a0 a1 a2 2 (nI 0) (nI 0) zf zf tr) (cwV 0 hts gL_areAlike_X0_nodes rfl rfl rfl (by decide +kernel) ⟨Nat.le_of_ble_eq_true rfl, Nat.le_of_ble_eq_true rfl⟩) hK hPo rfl rfl rfl hl rfl (Nat.le_of_ble_eq_true rfl) dL_areAlike_1 ⟨Nat.le_of_ble_eq_true rfl, Nat.le_of_ble_eq_true rfl⟩ hS (fun r9 H1 locs hw9 hk9 hS => ?_)
  obtain rfl : r9 = (nI 2) := hw9
  have hP := zkeep hP hk9
  have hz : s.heap.size + 0 ≤ H1.size := Nat.le_trans hz hk9.1
  refine lv_aload_n hx hb dL_areAlike_4 rfl (lv_at hl 1 rfl) ?_
  have hPo := hP.sub (ws' := wZ h2 b0 b1 b2 cy 2 tr2) [4, 5, 6, 7] rfl
  refine zrV (As := []) (rest := [.int (nI 2)]) 0 ⟨hx, hb, hml, hown, hts⟩ (c_X0_nodes l D cy h2 b0 b1 b2 2 (nI 0) (nI 0) zf zf tr2) (cwV 0 hts gL_areAlike_X0_nodes rfl rfl rfl (by decide +kernel) ⟨Nat.le_of_ble_eq_true rfl, Nat.le_of_ble_eq_true rfl⟩) hK hPo rfl rfl rfl hl rfl (Nat.le_of_ble_eq_true rfl) dL_areAlike_5 ⟨Nat.le_of_ble_eq_true rfl, Nat.le_of_ble_eq_true rfl⟩ hS (fun r9 H2 locs hw9 hk9 hS => ?_)
  obtain rfl : r9 = (nI 2) := hw9
  have hP := zkeep hP hk9
  have hz : s.heap.size + 0 ≤ H2.size := Nat.le_trans hz hk9.1
  refine k_icmp_ne_f (tgt := 59) hx hb dL_areAlike_8 (by decide) (by decide +kernel) ?_
  refine lv_aload_n hx hb dL_areAlike_11 rfl (lv_at hl 0 rfl) ?_
  have hPo := hP.sub (ws' := wZ h a0 a1 a2 cy 2 tr) [0, 1, 2, 3] rfl
  refine zrV (As := []) (rest := []) 0 ⟨hx, hb, hml, hown, hts⟩ (c_X0_edges l D cy h a0 a1 a2 2 (nI 0) (nI 0) zf zf tr) (cwV 0 hts gL_areAlike_X0_edges rfl rfl rfl (by decide +kernel) ⟨Nat.le_of_ble_eq_true rfl, Nat.le_of_ble_eq_true rfl⟩) hK hPo rfl rfl rfl hl rfl (Nat.le_of_ble_eq_true rfl) dL_areAlike_12 ⟨Nat.le_of_ble_eq_true rfl, Nat.le_of_ble_eq_true rfl⟩ hS (fun r9 H3 locs hw9 hk9 hS => ?_)
  obtain rfl : r9 = (nI 0) := hw9
  have hP := zkeep hP hk9
  have hz : s.heap.size + 0 ≤ H3.size := Nat.le_trans hz hk9.1
  refine lv_aload_n hx hb dL_areAlike_15 rfl (lv_at hl 1 rfl) ?_
  have hPo := hP.sub (ws' := wZ h2 b0 b1 b2 cy 2 tr2) [4, 5, 6, 7] rfl
  refine zrV (As := []) (rest := [.int (nI 0)]) 0 ⟨hx, hb, hml, hown, hts⟩ (c_X0_edges l D cy h2 b0 b1 b2 2 (nI 0) (nI 0) zf zf tr2) (cwV 0 hts gL_areAlike_X0_edges rfl rfl rfl (by decide +kernel) ⟨Nat.le_of_ble_eq_true rfl, Nat.le_of_ble_eq_true rfl⟩) hK hPo rfl rfl rfl hl rfl (Nat.le_of_ble_eq_true rfl) dL_areAlike_16 ⟨Nat.le_of_ble_eq_true rfl, Nat.le_of_ble_eq_true rfl⟩ hS (fun r9 H4 locs hw9 hk9 hS => ?_)
  obtain rfl : r9 = (nI 0) := hw9
  have hP := zkeep hP hk9
  have hz : s.heap.size + 0 ≤ H4.size := Nat.le_trans hz hk9.1
  refine k_icmp_ne_f (tgt := 59) hx hb dL_areAlike_19 (by decide) (by decide +kernel) ?_
  refine lv_aload_n hx hb dL_areAlike_22 rfl (lv_at hl 0 rfl) ?_
  have hPo := hP.sub (ws' := wZ h a0 a1 a2 cy 2 tr) [0, 1, 2, 3] rfl
  refine zrV (As := []) (rest := []) 0 ⟨hx, hb, hml, hown, hts⟩ (c_X0_changes l D cy h a0 a1 a2 2 (nI 0) (nI 0) zf zf tr) (cwV 0 hts gL_areAlike_X0_changes rfl rfl rfl (by decide +kernel) ⟨Nat.le_of_ble_eq_true rfl, Nat.le_of_ble_eq_true rfl⟩) hK hPo rfl rfl rfl hl rfl (Nat.le_of_ble_eq_true rfl) dL_areAlike_23 ⟨Nat.le_of_ble_eq_true rfl, Nat.le_of_ble_eq_true rfl⟩ hS (fun r9 H5 locs hw9 hk9 hS => ?_)
  obtain rfl : r9 = (nI 0) := hw9
  have hP := zkeep hP hk9
  have hz : s.heap.size + 0 ≤ H5.size := Nat.le_trans hz hk9.1
  refine lv_aload_n hx hb dL_areAlike_26 rfl (lv_at hl 1 rfl) ?_
  have hPo := hP.sub (ws' := wZ h2 b0 b1 b2 cy 2 tr2) [4, 5, 6, 7] rfl
  refine zrV (As := []) (rest := [.int (nI 0)]) 0 ⟨hx, hb, hml, hown, hts⟩ (c_X0_changes l D cy h2 b0 b1 b2 2 (nI 0) (nI 0) zf zf tr2) (cwV 0 hts gL_areAlike_X0_changes rfl rfl rfl (by decide +kernel) ⟨Nat.le_of_ble_eq_true rfl, Nat.le_of_ble_eq_true rfl⟩) hK hPo rfl rfl rfl hl rfl (Nat.le_of_ble_eq_true rfl) dL_areAlike_27 ⟨Nat.le_of_ble_eq_true rfl, Nat.le_of_ble_eq_true rfl⟩ hS (fun r9 H6 locs hw9 hk9 hS => ?_)
  obtain rfl : r9 = (nI 0) := hw9
  have hP := zkeep hP hk9
  have hz : s.heap.size + 0 ≤ H6.size := Nat.le_trans hz hk9.1
  refine k_icmp_ne_f (tgt := 59) hx hb dL_areAlike_30 (by decide) (by decide +kernel) ?_
  refine lv_aload_n hx hb dL_areAlike_33 rfl (lv_at hl 0 rfl) ?_
  have hPo := hP.sub (ws' := wZ h a0 a1 a2 cy 2 tr) [0, 1, 2, 3] rfl
  refine zrV (As := []) (rest := []) 0 ⟨hx, hb, hml, hown, hts⟩ (c_X0_degeneracy l D cy h a0 a1 a2 2 (nI 0) (nI 0) zf zf tr z0 (by decide) (zcs _)) (cwV 0 hts gL_areAlike_X0_degeneracy rfl rfl rfl (by decide +kernel) ⟨Nat.le_of_ble_eq_true rfl, Nat.le_of_ble_eq_true rfl⟩) hK hPo rfl rfl rfl hl rfl (Nat.le_of_ble_eq_true rfl) dL_areAlike_34 ⟨Nat.le_of_ble_eq_true rfl, Nat.le_of_ble_eq_true rfl⟩ hS (fun r9 H7 locs hw9 hk9 hS => ?_)
  obtain rfl : r9 = (nI 0) := by obtain ⟨d, h1, -, h2⟩ := hw9; rw [h1, zdeg0 h2]
  have hP := zkeep hP hk9
  have hz : s.heap.size + 0 ≤ H7.size := Nat.le_trans hz hk9.1
  refine lv_aload_n hx hb dL_areAlike_37 rfl (lv_at hl 1 rfl) ?_
  have hPo := hP.sub (ws' := wZ h2 b0 b1 b2 cy 2 tr2) [4, 5, 6, 7] rfl
  refine zrV (As := []) (rest := [.int (nI 0)]) 0 ⟨hx, hb, hml, hown, hts⟩ (c_X0_degeneracy l D cy h2 b0 b1 b2 2 (nI 0) (nI 0) zf zf tr2 z0 (by decide) (zcs _)) (cwV 0 hts gL_areAlike_X0_degeneracy rfl rfl rfl (by decide +kernel) ⟨Nat.le_of_ble_eq_true rfl, Nat.le_of_ble_eq_true rfl⟩) hK hPo rfl rfl rfl hl rfl (Nat.le_of_ble_eq_true rfl) dL_areAlike_38 ⟨Nat.le_of_ble_eq_true rfl, Nat.le_of_ble_eq_true rfl⟩ hS (fun r9 H8 locs hw9 hk9 hS => ?_)
  obtain rfl : r9 = (nI 0) := by obtain ⟨d, h1, -, h2⟩ := hw9; rw [h1, zdeg0 h2]
  have hP := zkeep hP hk9
  have hz : s.heap.size + 0 ≤ H8.size := Nat.le_trans hz hk9.1
  refine k_icmp_ne_f (tgt := 59) hx hb dL_areAlike_41 (by decide) (by decide +kernel) ?_
  refine lv_aload_n hx hb dL_areAlike_44 rfl (lv_at hl 0 rfl) ?_
  have hPo := hP.sub (ws' := wZ h a0 a1 a2 cy 2 tr) [0, 1, 2, 3] rfl
  refine zrV (As := []) (rest := []) 0 ⟨hx, hb, hml, hown, hts⟩ (c_X0_triangles l D cy h a0 a1 a2 2 (nI 0) (nI 0) zf zf tr (by decide)) (cwV 0 hts gL_areAlike_X0_triangles rfl rfl rfl (by decide +kernel) ⟨Nat.le_of_ble_eq_true rfl, Nat.le_of_ble_eq_true rfl⟩) hK hPo rfl rfl rfl hl rfl (Nat.le_of_ble_eq_true rfl) dL_areAlike_45 ⟨Nat.le_of_ble_eq_true rfl, Nat.le_of_ble_eq_true rfl⟩ hS (fun r9 H9 locs hw9 hk9 hS => ?_)
  obtain rfl : r9 = (nI 0) := hw9.trans (congrArg nI ztri2)
  have hP := zkeep hP hk9
  have hz : s.heap.size + 0 ≤ H9.size := Nat.le_trans hz hk9.1
  refine lv_aload_n hx hb dL_areAlike_48 rfl (lv_at hl 1 rfl) ?_
  have hPo := hP.sub (ws' := wZ h2 b0 b1 b2 cy 2 tr2) [4, 5, 6, 7] rfl
  refine zrV (As := []) (rest := [.int (nI 0)]) 0 ⟨hx, hb, hml, hown, hts⟩ (c_X0_triangles l D cy h2 b0 b1 b2 2 (nI 0) (nI 0) zf zf tr2 (by decide)) (cwV 0 hts gL_areAlike_X0_triangles rfl rfl rfl (by decide +kernel) ⟨Nat.le_of_ble_eq_true rfl, Nat.le_of_ble_eq_true rfl⟩) hK hPo rfl rfl rfl hl rfl (Nat.le_of_ble_eq_true rfl) dL_areAlike_49 ⟨Nat.le_of_ble_eq_true rfl, Nat.le_of_ble_eq_true rfl⟩ hS (fun r9 H10 locs hw9 hk9 hS => ?_)
  obtain rfl : r9 = (nI 0) := hw9.trans (congrArg nI ztri2)
  have hP := zkeep hP hk9
  have hz : s.heap.size + 0 ≤ H10.size := Nat.le_trans hz hk9.1
  refine k_icmp_ne_f (tgt := 59) hx hb dL_areAlike_52 (by decide) (by decide +kernel) ?_
  refine lv_iconst (v := (nI 1)) hx hb dL_areAlike_55 (by decide) ?_
  refine lv_goto (tgt := 60) hx hb dL_areAlike_56 (by decide) ?_
  refine lv_istore_n (lv' := [(2, .int (nI 1)), (0, .ref h), (1, .ref h2)]) hx hb dL_areAlike_60 rfl hl (by decide) rfl (fun ls hl => ?_)
  refine lv_iconst (v := (nI 0)) hx hb dL_areAlike_61 (by decide) ?_
  refine lv_istore_n (lv' := [(3, .int (nI 0)), (2, .int (nI 1)), (0, .ref h), (1, .ref h2)]) hx hb dL_areAlike_62 rfl hl (by decide) rfl (fun ls hl => ?_)
  refine lv_iload_n hx hb dL_areAlike_63 rfl (lv_at hl 0 rfl) ?_
  refine lv_aload_n hx hb dL_areAlike_64 rfl (lv_at hl 2 rfl) ?_
  have hPo := hP.sub (ws' := wZ h a0 a1 a2 cy 2 tr) [0, 1, 2, 3] rfl
  refine zrV (As := []) (rest := [.int (nI 0)]) 0 ⟨hx, hb, hml, hown, hts⟩ (c_X0_nodes l D cy h a0 a1 a2 2 (nI 0) (nI 0) zf zf tr) (cwV 0 hts gL_areAlike_X0_nodes rfl rfl rfl (by decide +kernel) ⟨Nat.le_of_ble_eq_true rfl, Nat.le_of_ble_eq_true rfl⟩) hK hPo rfl rfl rfl hl rfl (Nat.le_of_ble_eq_true rfl) dL_areAlike_65 ⟨Nat.le_of_ble_eq_true rfl, Nat.le_of_ble_eq_true rfl⟩ hS (fun r9 H11 locs hw9 hk9 hS => ?_)
  obtain rfl : r9 = (nI 2) := hw9
  have hP := zkeep hP hk9
  have hz : s.heap.size + 0 ≤ H11.size := Nat.le_trans hz hk9.1
  refine k_icmp_ge_f (tgt := 113) hx hb dL_areAlike_68 (by decide) (by decide +kernel) ?_
  refine lv_iload_n hx hb dL_areAlike_71 rfl (lv_at hl 1 rfl) ?_
  refine k_if_eq_f (tgt := 113) hx hb dL_areAlike_72 (by decide) (by decide +kernel) ?_
  refine lv_aload_n hx hb dL_areAlike_75 rfl (lv_at hl 2 rfl) ?_
  refine lv_iload_n hx hb dL_areAlike_76 rfl (lv_at hl 0 rfl) ?_
  have hPo := hP.sub (ws' := wZ h a0 a1 a2 cy 2 tr) [0, 1, 2, 3] rfl
  refine zrV (As := [.int (nI 0)]) (rest := []) 0 ⟨hx, hb, hml, hown, hts⟩ (c_X0_core_ok l D cy h a0 a1 a2 2 (nI 0) (nI 0) zf zf tr 0 z0 (by decide) (by decide) (zcs _)) (cwV 1 hts gL_areAlike_X0_core rfl rfl rfl (by decide +kernel) ⟨Nat.le_of_ble_eq_true rfl, Nat.le_of_ble_eq_true rfl⟩) hK hPo rfl rfl rfl hl rfl (Nat.le_of_ble_eq_true rfl) dL_areAlike_77 ⟨Nat.le_of_ble_eq_true rfl, Nat.le_of_ble_eq_true rfl⟩ hS (fun r9 H12 locs hw9 hk9 hS => ?_)
  obtain rfl : r9 = (nI 0) := hw9
  have hP := zkeep hP hk9
  have hz : s.heap.size + 0 ≤ H12.size := Nat.le_trans hz hk9.1
  refine lv_aload_n hx hb dL_areAlike_80 rfl (lv_at hl 3 rfl) ?_
  refine lv_iload_n hx hb dL_areAlike_81 rfl (lv_at hl 0 rfl) ?_
  have hPo := hP.sub (ws' := wZ h2 b0 b1 b2 cy 2 tr2) [4, 5, 6, 7] rfl
  refine zrV (As := [.int (nI 0)]) (rest := [.int (nI 0)]) 0 ⟨hx, hb, hml, hown, hts⟩ (c_X0_core_ok l D cy h2 b0 b1 b2 2 (nI 0) (nI 0) zf zf tr2 0 z0 (by decide) (by decide) (zcs _)) (cwV 1 hts gL_areAlike_X0_core rfl rfl rfl (by decide +kernel) ⟨Nat.le_of_ble_eq_true rfl, Nat.le_of_ble_eq_true rfl⟩) hK hPo rfl rfl rfl hl rfl (Nat.le_of_ble_eq_true rfl) dL_areAlike_82 ⟨Nat.le_of_ble_eq_true rfl, Nat.le_of_ble_eq_true rfl⟩ hS (fun r9 H13 locs hw9 hk9 hS => ?_)
  obtain rfl : r9 = (nI 0) := hw9
  have hP := zkeep hP hk9
  have hz : s.heap.size + 0 ≤ H13.size := Nat.le_trans hz hk9.1
  refine k_icmp_ne_f (tgt := 105) hx hb dL_areAlike_85 (by decide) (by decide +kernel) ?_
  refine lv_aload_n hx hb dL_areAlike_88 rfl (lv_at hl 2 rfl) ?_
  refine lv_iload_n hx hb dL_areAlike_89 rfl (lv_at hl 0 rfl) ?_
  have hPo := hP.sub (ws' := wZ h a0 a1 a2 cy 2 tr) [0, 1, 2, 3] rfl
  refine zrV (As := [.int (nI 0)]) (rest := []) 0 ⟨hx, hb, hml, hown, hts⟩ (c_X0_degree_ok l D cy h a0 a1 a2 2 (nI 0) (nI 0) zf zf tr 0 (by decide) (by decide)) (cwV 1 hts gL_areAlike_X0_degree rfl rfl rfl (by decide +kernel) ⟨Nat.le_of_ble_eq_true rfl, Nat.le_of_ble_eq_true rfl⟩) hK hPo rfl rfl rfl hl rfl (Nat.le_of_ble_eq_true rfl) dL_areAlike_90 ⟨Nat.le_of_ble_eq_true rfl, Nat.le_of_ble_eq_true rfl⟩ hS (fun r9 H14 locs hw9 hk9 hS => ?_)
  obtain rfl : r9 = (nI 0) := hw9.trans (congrArg nI (zrow 0))
  have hP := zkeep hP hk9
  have hz : s.heap.size + 0 ≤ H14.size := Nat.le_trans hz hk9.1
  refine lv_aload_n hx hb dL_areAlike_93 rfl (lv_at hl 3 rfl) ?_
  refine lv_iload_n hx hb dL_areAlike_94 rfl (lv_at hl 0 rfl) ?_
  have hPo := hP.sub (ws' := wZ h2 b0 b1 b2 cy 2 tr2) [4, 5, 6, 7] rfl
  refine zrV (As := [.int (nI 0)]) (rest := [.int (nI 0)]) 0 ⟨hx, hb, hml, hown, hts⟩ (c_X0_degree_ok l D cy h2 b0 b1 b2 2 (nI 0) (nI 0) zf zf tr2 0 (by decide) (by decide)) (cwV 1 hts gL_areAlike_X0_degree rfl rfl rfl (by decide +kernel) ⟨Nat.le_of_ble_eq_true rfl, Nat.le_of_ble_eq_true rfl⟩) hK hPo rfl rfl rfl hl rfl (Nat.le_of_ble_eq_true rfl) dL_areAlike_95 ⟨Nat.le_of_ble_eq_true rfl, Nat.le_of_ble_eq_true rfl⟩ hS (fun r9 H15 locs hw9 hk9 hS => ?_)
  obtain rfl : r9 = (nI 0) := hw9.trans (congrArg nI (zrow 0))
  have hP := zkeep hP hk9
  have hz : s.heap.size + 0 ≤ H15.size := Nat.le_trans hz hk9.1
  refine k_icmp_ne_f (tgt := 105) hx hb dL_areAlike_98 (by decide) (by decide +kernel) ?_
  refine lv_iconst (v := (nI 1)) hx hb dL_areAlike_101 (by decide) ?_
  refine lv_goto (tgt := 106) hx hb dL_areAlike_102 (by decide) ?_
  refine lv_istore_n (lv' := [(2, .int (nI 1)), (3, .int (nI 0)), (0, .ref h), (1, .ref h2)]) hx hb dL_areAlike_106 rfl hl (by decide) rfl (fun ls hl => ?_)
  refine lv_iinc (v := (nI 1)) (lv' := [(3, .int (nI 1)), (2, .int (nI 1)), (0, .ref h), (1, .ref h2)]) hx hb dL_areAlike_107 hl (k := 1) rfl (by decide +kernel) (by decide) rfl (fun ls hl => ?_)
  refine lv_goto (tgt := 63) hx hb dL_areAlike_110 (by decide) ?_
  refine lv_iload_n hx hb dL_areAlike_63 rfl (lv_at hl 0 rfl) ?_
  refine lv_aload_n hx hb dL_areAlike_64 rfl (lv_at hl 2 rfl) ?_
  have hPo := hP.sub (ws' := wZ h a0 a1 a2 cy 2 tr) [0, 1, 2, 3] rfl
  refine zrV (As := []) (rest := [.int (nI 1)]) 0 ⟨hx, hb, hml, hown, hts⟩ (c_X0_nodes l D cy h a0 a1 a2 2 (nI 0) (nI 0) zf zf tr) (cwV 0 hts gL_areAlike_X0_nodes rfl rfl rfl (by decide +kernel) ⟨Nat.le_of_ble_eq_true rfl, Nat.le_of_ble_eq_true rfl⟩) hK hPo rfl rfl rfl hl rfl (Nat.le_of_ble_eq_true rfl) dL_areAlike_65 ⟨Nat.le_of_ble_eq_true rfl, Nat.le_of_ble_eq_true rfl⟩ hS (fun r9 H16 locs hw9 hk9 hS => ?_)
  obtain rfl : r9 = (nI 2) := hw9
  have hP := zkeep hP hk9
  have hz : s.heap.size + 0 ≤ H16.size := Nat.le_trans hz hk9.1
  refine k_icmp_ge_f (tgt := 113) hx hb dL_areAlike_68 (by decide) (by decide +kernel) ?_
  refine lv_iload_n hx hb dL_areAlike_71 rfl (lv_at hl 1 rfl) ?_
  refine k_if_eq_f (tgt := 113) hx hb dL_areAlike_72 (by decide) (by decide +kernel) ?_
  refine lv_aload_n hx hb dL_areAlike_75 rfl (lv_at hl 2 rfl) ?_
  refine lv_iload_n hx hb dL_areAlike_76 rfl (lv_at hl 0 rfl) ?_
  have hPo := hP.sub (ws' := wZ h a0 a1 a2 cy 2 tr) [0, 1, 2, 3] rfl
  refine zrV (As := [.int (nI 1)]) (rest := []) 0 ⟨hx, hb, hml, hown, hts⟩ (c_X0_core_ok l D cy h a0 a1 a2 2 (nI 0) (nI 0) zf zf tr 1 z0 (by decide) (by decide) (zcs _)) (cwV 1 hts gL_areAlike_X0_core rfl rfl rfl (by decide +kernel) ⟨Nat.le_of_ble_eq_true rfl, Nat.le_of_ble_eq_true rfl⟩) hK hPo rfl rfl rfl hl rfl (Nat.le_of_ble_eq_true rfl) dL_areAlike_77 ⟨Nat.le_of_ble_eq_true rfl, Nat.le_of_ble_eq_true rfl⟩ hS (fun r9 H17 locs hw9 hk9 hS => ?_)
  obtain rfl : r9 = (nI 0) := hw9
  have hP := zkeep hP hk9
  have hz : s.heap.size + 0 ≤ H17.size := Nat.le_trans hz hk9.1
  refine lv_aload_n hx hb dL_areAlike_80 rfl (lv_at hl 3 rfl) ?_
  refine lv_iload_n hx hb dL_areAlike_81 rfl (lv_at hl 0 rfl) ?_
  have hPo := hP.sub (ws' := wZ h2 b0 b1 b2 cy 2 tr2) [4, 5, 6, 7] rfl
  refine zrV (As := [.int (nI 1)]) (rest := [.int (nI 0)]) 0 ⟨hx, hb, hml, hown, hts⟩ (c_X0_core_ok l D cy h2 b0 b1 b2 2 (nI 0) (nI 0) zf zf tr2 1 z0 (by decide) (by decide) (zcs _)) (cwV 1 hts gL_areAlike_X0_core rfl rfl rfl (by decide +kernel) ⟨Nat.le_of_ble_eq_true rfl, Nat.le_of_ble_eq_true rfl⟩) hK hPo rfl rfl rfl hl rfl (Nat.le_of_ble_eq_true rfl) dL_areAlike_82 ⟨Nat.le_of_ble_eq_true rfl, Nat.le_of_ble_eq_true rfl⟩ hS (fun r9 H18 locs hw9 hk9 hS => ?_)
  obtain rfl : r9 = (nI 0) := hw9
  have hP := zkeep hP hk9
  have hz : s.heap.size + 0 ≤ H18.size := Nat.le_trans hz hk9.1
  refine k_icmp_ne_f (tgt := 105) hx hb dL_areAlike_85 (by decide) (by decide +kernel) ?_
  refine lv_aload_n hx hb dL_areAlike_88 rfl (lv_at hl 2 rfl) ?_
  refine lv_iload_n hx hb dL_areAlike_89 rfl (lv_at hl 0 rfl) ?_
  have hPo := hP.sub (ws' := wZ h a0 a1 a2 cy 2 tr) [0, 1, 2, 3] rfl
  refine zrV (As := [.int (nI 1)]) (rest := []) 0 ⟨hx, hb, hml, hown, hts⟩ (c_X0_degree_ok l D cy h a0 a1 a2 2 (nI 0) (nI 0) zf zf tr 1 (by decide) (by decide)) (cwV 1 hts gL_areAlike_X0_degree rfl rfl rfl (by decide +kernel) ⟨Nat.le_of_ble_eq_true rfl, Nat.le_of_ble_eq_true rfl⟩) hK hPo rfl rfl rfl hl rfl (Nat.le_of_ble_eq_true rfl) dL_areAlike_90 ⟨Nat.le_of_ble_eq_true rfl, Nat.le_of_ble_eq_true rfl⟩ hS (fun r9 H19 locs hw9 hk9 hS => ?_)
  obtain rfl : r9 = (nI 0) := hw9.trans (congrArg nI (zrow 1))
  have hP := zkeep hP hk9
  have hz : s.heap.size + 0 ≤ H19.size := Nat.le_trans hz hk9.1
  refine lv_aload_n hx hb dL_areAlike_93 rfl (lv_at hl 3 rfl) ?_
  refine lv_iload_n hx hb dL_areAlike_94 rfl (lv_at hl 0 rfl) ?_
  have hPo := hP.sub (ws' := wZ h2 b0 b1 b2 cy 2 tr2) [4, 5, 6, 7] rfl
  refine zrV (As := [.int (nI 1)]) (rest := [.int (nI 0)]) 0 ⟨hx, hb, hml, hown, hts⟩ (c_X0_degree_ok l D cy h2 b0 b1 b2 2 (nI 0) (nI 0) zf zf tr2 1 (by decide) (by decide)) (cwV 1 hts gL_areAlike_X0_degree rfl rfl rfl (by decide +kernel) ⟨Nat.le_of_ble_eq_true rfl, Nat.le_of_ble_eq_true rfl⟩) hK hPo rfl rfl rfl hl rfl (Nat.le_of_ble_eq_true rfl) dL_areAlike_95 ⟨Nat.le_of_ble_eq_true rfl, Nat.le_of_ble_eq_true rfl⟩ hS (fun r9 H20 locs hw9 hk9 hS => ?_)
  obtain rfl : r9 = (nI 0) := hw9.trans (congrArg nI (zrow 1))
  have hP := zkeep hP hk9
  have hz : s.heap.size + 0 ≤ H20.size := Nat.le_trans hz hk9.1
  refine k_icmp_ne_f (tgt := 105) hx hb dL_areAlike_98 (by decide) (by decide +kernel) ?_
  refine lv_iconst (v := (nI 1)) hx hb dL_areAlike_101 (by decide) ?_
  refine lv_goto (tgt := 106) hx hb dL_areAlike_102 (by decide) ?_
  refine lv_istore_n (lv' := [(2, .int (nI 1)), (3, .int (nI 1)), (0, .ref h), (1, .ref h2)]) hx hb dL_areAlike_106 rfl hl (by decide) rfl (fun ls hl => ?_)
  refine lv_iinc (v := (nI 2)) (lv' := [(3, .int (nI 2)), (2, .int (nI 1)), (0, .ref h), (1, .ref h2)]) hx hb dL_areAlike_107 hl (k := 1) rfl (by decide +kernel) (by decide) rfl (fun ls hl => ?_)
  refine lv_goto (tgt := 63) hx hb dL_areAlike_110 (by decide) ?_
  refine lv_iload_n hx hb dL_areAlike_63 rfl (lv_at hl 0 rfl) ?_
  refine lv_aload_n hx hb dL_areAlike_64 rfl (lv_at hl 2 rfl) ?_
  have hPo := hP.sub (ws' := wZ h a0 a1 a2 cy 2 tr) [0, 1, 2, 3] rfl
  refine zrV (As := []) (rest := [.int (nI 2)]) 0 ⟨hx, hb, hml, hown, hts⟩ (c_X0_nodes l D cy h a0 a1 a2 2 (nI 0) (nI 0) zf zf tr) (cwV 0 hts gL_areAlike_X0_nodes rfl rfl rfl (by decide +kernel) ⟨Nat.le_of_ble_eq_true rfl, Nat.le_of_ble_eq_true rfl⟩) hK hPo rfl rfl rfl hl rfl (Nat.le_of_ble_eq_true rfl) dL_areAlike_65 ⟨Nat.le_of_ble_eq_true rfl, Nat.le_of_ble_eq_true rfl⟩ hS (fun r9 H21 locs hw9 hk9 hS => ?_)
  obtain rfl : r9 = (nI 2) := hw9
  have hP := zkeep hP hk9
  have hz : s.heap.size + 0 ≤ H21.size := Nat.le_trans hz hk9.1
  refine k_icmp_ge_t (tgt := 113) hx hb dL_areAlike_68 (by decide) (by decide +kernel) ?_
  refine lv_iload_n hx hb dL_areAlike_113 rfl (lv_at hl 1 rfl) ?_
  refine W.widen (k := 0) (n := 0) (Nat.le_of_ble_eq_true rfl) (Nat.le_of_ble_eq_true rfl) ?_
  refine vx_ret ?_
  exact W.zret (v := (nI 1)) (ty := .boolean) hx hb hr rfl (fun t9 ht9 hW9 => ⟨⟨(nI 1), (), rfl, rfl, by show s.heap.size + 0 ≤ t9.heap.size; rw [ht9]; exact hz⟩, hS.F ht9⟩) hS.2.2 dL_areAlike_114
end
section
set_option maxHeartbeats 4000000 in
set_option maxRecDepth 100000 in
theorem w_areCoresSo_2 (l : Launch) (hfl : l.stackTraces = false) (D : va_G) (cy : ClassId) (h a0 a1 a2 : Nat) (tr : Nat → Int32) (sz : Nat)  : vx_Met l yL_areCoresSo wsL_areCoresSo ({ frames := 8, cells := 0, slots := 0, locals := 123 } : Room) (va_Pc [.ref h] (zWr D (wZ h a0 a1 a2 cy 2 tr) [(cy, .int)] sz)) (va_Qi (fun (r : Int32) (z9 : (Nat → Int32)) => r = (nI 1)) (fun (z9 : (Nat → Int32)) t => va_P D vwCl (wZ h a0 a1 a2 cy 2 z9) t.heap) (va_A (wZ h a0 a1 a2 cy 2 tr) sz)) zXn 0 0 (va_A (wZ h a0 a1 a2 cy 2 tr) sz) := by
  refine vx_ofW (cc := cL_areCoresSo) (maxL := 4) (ret := (some .boolean)) (by decide) rfl ?_
  intro p e s m args below meth c s₁ B hml hto hv
  obtain ⟨rfl, hsz, hP, hK, hD0⟩ := hv
  have hx := B.exec
  have hb := B.bytes
  have hr := B.returns
  have hts := atoms_spec (ws := wsL_areCoresSo) B.pre
  have hown : s.vm.findClass RL = some m.cls := findClass_of_methodNamed B.named
  have hlocks := B.notSynchronized
  subst hsz
  have hD := hD0.self (sz := s.heap.size)
  generalize hAe : va_A (wZ h a0 a1 a2 cy 2 tr) s.heap.size = A at hD ⊢
  have hA : ∀ q : Nat, s.heap.size ≤ q → A q := fun q h => by rw [← hAe]; exact Or.inr h
  have hS : va_S A s.heap s.heap [] := va_S.rf
  have hl := lv_entry ([.ref h]) (n := 4) (Nat.le_of_ble_eq_true rfl)
  rw [lg_entry_eq]
  generalize (lg_sl ([.ref h]) ++ List.replicate (4 - (lg_sl ([.ref h])).length) Slot.unset).toArray = ls at hl ⊢
  have hl : lv_has ls 4 [(0, .ref h)] := hl
  refine lv_aload_n hx hb dL_areCoresSo_0 rfl (lv_at hl 0 rfl) ?_
  refine zrV (As := []) (rest := []) 0 ⟨hx, hb, hml, hown, hts⟩ (c_X0_degeneracy l D cy h a0 a1 a2 2 (nI 0) (nI 0) zf zf tr z0 (by decide) (zcs _)) (cwV 0 hts gL_areCoresSo_X0_degeneracy rfl rfl rfl (by decide +kernel) ⟨Nat.le_of_ble_eq_true rfl, Nat.le_of_ble_eq_true rfl⟩) hK hP rfl rfl rfl hl rfl (Nat.le_of_ble_eq_true rfl) dL_areCoresSo_1 ⟨Nat.le_of_ble_eq_true rfl, Nat.le_of_ble_eq_true rfl⟩ hS (fun r9 H1 locs hw9 hk9 hS => ?_)
  obtain rfl : r9 = (nI 0) := by obtain ⟨d, h1, -, h2⟩ := hw9; rw [h1, zdeg0 h2]
  have hP := zkeep hP hk9
  refine lv_istore_n (lv' := [(1, .int (nI 0)), (0, .ref h)]) hx hb dL_areCoresSo_4 rfl hl (by decide) rfl (fun ls hl => ?_)
  refine lv_aload_n hx hb dL_areCoresSo_5 rfl (lv_at hl 1 rfl) ?_
  refine lv_iconst (v := (nI 0)) hx hb dL_areCoresSo_6 (by decide) ?_
  refine zrV (As := [.int (nI 0)]) (rest := []) 0 ⟨hx, hb, hml, hown, hts⟩ (c_X0_coreSize_ok l D cy h a0 a1 a2 2 (nI 0) (nI 0) zf zf tr (nI 0) z0 (by decide) (by decide) (zcs _)) (cwV 1 hts gL_areCoresSo_X0_coreSize rfl rfl rfl (by decide +kernel) ⟨Nat.le_of_ble_eq_true rfl, Nat.le_of_ble_eq_true rfl⟩) hK hP rfl rfl rfl hl rfl (Nat.le_of_ble_eq_true rfl) dL_areCoresSo_7 ⟨Nat.le_of_ble_eq_true rfl, Nat.le_of_ble_eq_true rfl⟩ hS (fun r9 H2 locs hw9 hk9 hS => ?_)
  obtain rfl : r9 = (nI 2) := hw9.trans (congrArg nI zcz0)
  have hP := zkeep hP hk9
  refine lv_aload_n hx hb dL_areCoresSo_10 rfl (lv_at hl 1 rfl) ?_
  refine zrV (As := []) (rest := [.int (nI 2)]) 0 ⟨hx, hb, hml, hown, hts⟩ (c_X0_nodes l D cy h a0 a1 a2 2 (nI 0) (nI 0) zf zf tr) (cwV 0 hts gL_areCoresSo_X0_nodes rfl rfl rfl (by decide +kernel) ⟨Nat.le_of_ble_eq_true rfl, Nat.le_of_ble_eq_true rfl⟩) hK hP rfl rfl rfl hl rfl (Nat.le_of_ble_eq_true rfl) dL_areCoresSo_11 ⟨Nat.le_of_ble_eq_true rfl, Nat.le_of_ble_eq_true rfl⟩ hS (fun r9 H3 locs hw9 hk9 hS => ?_)
  obtain rfl : r9 = (nI 2) := hw9
  have hP := zkeep hP hk9
  refine k_icmp_ne_f (tgt := 81) hx hb dL_areCoresSo_14 (by decide) (by decide +kernel) ?_
  refine lv_aload_n hx hb dL_areCoresSo_17 rfl (lv_at hl 1 rfl) ?_
  refine lv_iload_n hx hb dL_areCoresSo_18 rfl (lv_at hl 0 rfl) ?_
  refine lv_iconst (v := (nI 1)) hx hb dL_areCoresSo_19 (by decide) ?_
  refine k_iadd (v := (nI 1)) hx hb dL_areCoresSo_20 (by decide +kernel) ?_
  refine zrV (As := [.int (nI 1)]) (rest := []) 0 ⟨hx, hb, hml, hown, hts⟩ (c_X0_coreSize_ok l D cy h a0 a1 a2 2 (nI 0) (nI 0) zf zf tr (nI 1) z0 (by decide) (by decide) (zcs _)) (cwV 1 hts gL_areCoresSo_X0_coreSize rfl rfl rfl (by decide +kernel) ⟨Nat.le_of_ble_eq_true rfl, Nat.le_of_ble_eq_true rfl⟩) hK hP rfl rfl rfl hl rfl (Nat.le_of_ble_eq_true rfl) dL_areCoresSo_21 ⟨Nat.le_of_ble_eq_true rfl, Nat.le_of_ble_eq_true rfl⟩ hS (fun r9 H4 locs hw9 hk9 hS => ?_)
  obtain rfl : r9 = (nI 0) := hw9.trans (congrArg nI zcz1)
  have hP := zkeep hP hk9
  refine k_if_ne_f (tgt := 81) hx hb dL_areCoresSo_24 (by decide) (by decide +kernel) ?_
  refine lv_aload_n hx hb dL_areCoresSo_27 rfl (lv_at hl 1 rfl) ?_
  refine zrV (As := []) (rest := []) 0 ⟨hx, hb, hml, hown, hts⟩ (c_X0_nodes l D cy h a0 a1 a2 2 (nI 0) (nI 0) zf zf tr) (cwV 0 hts gL_areCoresSo_X0_nodes rfl rfl rfl (by decide +kernel) ⟨Nat.le_of_ble_eq_true rfl, Nat.le_of_ble_eq_true rfl⟩) hK hP rfl rfl rfl hl rfl (Nat.le_of_ble_eq_true rfl) dL_areCoresSo_28 ⟨Nat.le_of_ble_eq_true rfl, Nat.le_of_ble_eq_true rfl⟩ hS (fun r9 H5 locs hw9 hk9 hS => ?_)
  obtain rfl : r9 = (nI 2) := hw9
  have hP := zkeep hP hk9
  refine k_if_eq_f (tgt := 43) hx hb dL_areCoresSo_31 (by decide) (by decide +kernel) ?_
  refine lv_aload_n hx hb dL_areCoresSo_34 rfl (lv_at hl 1 rfl) ?_
  refine lv_iload_n hx hb dL_areCoresSo_35 rfl (lv_at hl 0 rfl) ?_
  refine zrV (As := [.int (nI 0)]) (rest := []) 0 ⟨hx, hb, hml, hown, hts⟩ (c_X0_coreSize_ok l D cy h a0 a1 a2 2 (nI 0) (nI 0) zf zf tr (nI 0) z0 (by decide) (by decide) (zcs _)) (cwV 1 hts gL_areCoresSo_X0_coreSize rfl rfl rfl (by decide +kernel) ⟨Nat.le_of_ble_eq_true rfl, Nat.le_of_ble_eq_true rfl⟩) hK hP rfl rfl rfl hl rfl (Nat.le_of_ble_eq_true rfl) dL_areCoresSo_36 ⟨Nat.le_of_ble_eq_true rfl, Nat.le_of_ble_eq_true rfl⟩ hS (fun r9 H6 locs hw9 hk9 hS => ?_)
  obtain rfl : r9 = (nI 2) := hw9.trans (congrArg nI zcz0)
  have hP := zkeep hP hk9
  refine lv_iload_n hx hb dL_areCoresSo_39 rfl (lv_at hl 0 rfl) ?_
  refine k_icmp_le_f (tgt := 81) hx hb dL_areCoresSo_40 (by decide) (by decide +kernel) ?_
  refine lv_aload_n hx hb dL_areCoresSo_43 rfl (lv_at hl 1 rfl) ?_
  refine lv_iload_n hx hb dL_areCoresSo_44 rfl (lv_at hl 0 rfl) ?_
  refine lv_iconst (v := (nI 1)) hx hb dL_areCoresSo_45 (by decide) ?_
  refine k_iadd (v := (nI 1)) hx hb dL_areCoresSo_46 (by decide +kernel) ?_
  refine zrV (As := [.int (nI 1)]) (rest := []) 0 ⟨hx, hb, hml, hown, hts⟩ (c_X0_communities_ok l D cy h a0 a1 a2 2 (nI 0) (nI 0) zf zf tr (nI 1) z0 (by decide) (zgd (by decide)) (by decide) (zcs _)) (cwV 1 hts gL_areCoresSo_X0_communities rfl rfl rfl (by decide +kernel) ⟨Nat.le_of_ble_eq_true rfl, Nat.le_of_ble_eq_true rfl⟩) hK hP rfl rfl rfl hl rfl (Nat.le_of_ble_eq_true rfl) dL_areCoresSo_47 ⟨Nat.le_of_ble_eq_true rfl, Nat.le_of_ble_eq_true rfl⟩ hS (fun r9 H7 locs hw9 hk9 hS => ?_)
  obtain rfl : r9 = (nI 0) := hw9.trans (congrArg nI (zcomm1 (by decide)))
  have hP := zkeep hP hk9
  refine k_if_ne_f (tgt := 81) hx hb dL_areCoresSo_50 (by decide) (by decide +kernel) ?_
  refine lv_aload_n hx hb dL_areCoresSo_53 rfl (lv_at hl 1 rfl) ?_
  refine lv_iconst (v := (nI 2)) hx hb dL_areCoresSo_54 (by decide) ?_
  refine zwVi (As := [.int (nI 2)]) (rest := []) 0 [0, 1, 2, 3] rfl ⟨hx, hb, hml, hown, hts⟩ (c_X0_trussSize_ok l D cy h a0 a1 a2 2 (nI 0) (nI 0) zf zf tr _ (nI 2) (by decide) (zgd (by decide)) (by decide)) (cwV 1 hts gL_areCoresSo_X0_trussSize rfl rfl rfl (by decide +kernel) ⟨Nat.le_of_ble_eq_true rfl, Nat.le_of_ble_eq_true rfl⟩) hK hP hD hA rfl rfl rfl hl rfl (Nat.le_of_ble_eq_true rfl) dL_areCoresSo_55 ⟨Nat.le_of_ble_eq_true rfl, Nat.le_of_ble_eq_true rfl⟩ hS (fun r9 tr_1 H8 locs hw9 hP hS => ?_)
  obtain rfl : r9 = (nI 0) := by obtain ⟨g9, h1, h2⟩ := hw9; rw [h2, ztr h1]
  have hP : va_P D vwCl (wZ h a0 a1 a2 cy 2 tr_1) H8 := hP
  have hD : va_D A (wZ h a0 a1 a2 cy 2 tr_1) := zD hD rfl
  refine lv_aload_n hx hb dL_areCoresSo_58 rfl (lv_at hl 1 rfl) ?_
  refine zrV (As := []) (rest := [.int (nI 0)]) 0 ⟨hx, hb, hml, hown, hts⟩ (c_X0_edges l D cy h a0 a1 a2 2 (nI 0) (nI 0) zf zf tr_1) (cwV 0 hts gL_areCoresSo_X0_edges rfl rfl rfl (by decide +kernel) ⟨Nat.le_of_ble_eq_true rfl, Nat.le_of_ble_eq_true rfl⟩) hK hP rfl rfl rfl hl rfl (Nat.le_of_ble_eq_true rfl) dL_areCoresSo_59 ⟨Nat.le_of_ble_eq_true rfl, Nat.le_of_ble_eq_true rfl⟩ hS (fun r9 H9 locs hw9 hk9 hS => ?_)
  obtain rfl : r9 = (nI 0) := hw9
  have hP := zkeep hP hk9
  refine k_icmp_ne_f (tgt := 81) hx hb dL_areCoresSo_62 (by decide) (by decide +kernel) ?_
  refine lv_aload_n hx hb dL_areCoresSo_65 rfl (lv_at hl 1 rfl) ?_
  refine zrV (As := []) (rest := []) 0 ⟨hx, hb, hml, hown, hts⟩ (c_X0_hierarchy l D cy h a0 a1 a2 2 (nI 0) (nI 0) zf zf tr_1 z0 (by decide) (zgd (by decide)) (zcs _)) (cwV 0 hts gL_areCoresSo_X0_hierarchy rfl rfl rfl (by decide +kernel) ⟨Nat.le_of_ble_eq_true rfl, Nat.le_of_ble_eq_true rfl⟩) hK hP rfl rfl rfl hl rfl (Nat.le_of_ble_eq_true rfl) dL_areCoresSo_66 ⟨Nat.le_of_ble_eq_true rfl, Nat.le_of_ble_eq_true rfl⟩ hS (fun r9 H10 locs hw9 hk9 hS => ?_)
  obtain rfl : r9 = (nI (kC 2)) := by obtain ⟨d, h1, h2⟩ := hw9; rw [h2, zdeg0 h1, zhie (by decide)]
  have hP := zkeep hP hk9
  refine lv_aload_n hx hb dL_areCoresSo_69 rfl (lv_at hl 1 rfl) ?_
  refine lv_iconst (v := (nI 0)) hx hb dL_areCoresSo_70 (by decide) ?_
  refine zrV (As := [.int (nI 0)]) (rest := [.int (nI (kC 2))]) 0 ⟨hx, hb, hml, hown, hts⟩ (c_X0_communities_ok l D cy h a0 a1 a2 2 (nI 0) (nI 0) zf zf tr_1 (nI 0) z0 (by decide) (zgd (by decide)) (by decide) (zcs _)) (cwV 1 hts gL_areCoresSo_X0_communities rfl rfl rfl (by decide +kernel) ⟨Nat.le_of_ble_eq_true rfl, Nat.le_of_ble_eq_true rfl⟩) hK hP rfl rfl rfl hl rfl (Nat.le_of_ble_eq_true rfl) dL_areCoresSo_71 ⟨Nat.le_of_ble_eq_true rfl, Nat.le_of_ble_eq_true rfl⟩ hS (fun r9 H11 locs hw9 hk9 hS => ?_)
  obtain rfl : r9 = (nI (kC 2)) := hw9.trans (congrArg nI (zcomm0 _))
  have hP := zkeep hP hk9
  refine k_icmp_lt_f (tgt := 81) hx hb dL_areCoresSo_74 (by decide) Int32.lt_irrefl ?_
  refine lv_iconst (v := (nI 1)) hx hb dL_areCoresSo_77 (by decide) ?_
  refine lv_goto (tgt := 82) hx hb dL_areCoresSo_78 (by decide) ?_
  refine lv_istore_n (lv' := [(2, .int (nI 1)), (1, .int (nI 0)), (0, .ref h)]) hx hb dL_areCoresSo_82 rfl hl (by decide) rfl (fun ls hl => ?_)
  refine lv_iconst (v := (nI 0)) hx hb dL_areCoresSo_83 (by decide) ?_
  refine lv_istore_n (lv' := [(3, .int (nI 0)), (2, .int (nI 1)), (1, .int (nI 0)), (0, .ref h)]) hx hb dL_areCoresSo_84 rfl hl (by decide) rfl (fun ls hl => ?_)
  refine lv_iload_n hx hb dL_areCoresSo_85 rfl (lv_at hl 0 rfl) ?_
  refine lv_iload_n hx hb dL_areCoresSo_86 rfl (lv_at hl 2 rfl) ?_
  refine k_icmp_gt_f (tgt := 150) hx hb dL_areCoresSo_87 (by decide) (by decide +kernel) ?_
  refine lv_iload_n hx hb dL_areCoresSo_90 rfl (lv_at hl 1 rfl) ?_
  refine k_if_eq_f (tgt := 142) hx hb dL_areCoresSo_91 (by decide) (by decide +kernel) ?_
  refine lv_aload_n hx hb dL_areCoresSo_94 rfl (lv_at hl 3 rfl) ?_
  refine lv_iload_n hx hb dL_areCoresSo_95 rfl (lv_at hl 0 rfl) ?_
  refine zrV (As := [.int (nI 0)]) (rest := []) 0 ⟨hx, hb, hml, hown, hts⟩ (c_X0_coreSize_ok l D cy h a0 a1 a2 2 (nI 0) (nI 0) zf zf tr_1 (nI 0) z0 (by decide) (by decide) (zcs _)) (cwV 1 hts gL_areCoresSo_X0_coreSize rfl rfl rfl (by decide +kernel) ⟨Nat.le_of_ble_eq_true rfl, Nat.le_of_ble_eq_true rfl⟩) hK hP rfl rfl rfl hl rfl (Nat.le_of_ble_eq_true rfl) dL_areCoresSo_96 ⟨Nat.le_of_ble_eq_true rfl, Nat.le_of_ble_eq_true rfl⟩ hS (fun r9 H12 locs hw9 hk9 hS => ?_)
  obtain rfl : r9 = (nI 2) := hw9.trans (congrArg nI zcz0)
  have hP := zkeep hP hk9
  refine lv_aload_n hx hb dL_areCoresSo_99 rfl (lv_at hl 3 rfl) ?_
  refine lv_iload_n hx hb dL_areCoresSo_100 rfl (lv_at hl 0 rfl) ?_
  refine lv_iconst (v := (nI 1)) hx hb dL_areCoresSo_101 (by decide) ?_
  refine k_iadd (v := (nI 1)) hx hb dL_areCoresSo_102 (by decide +kernel) ?_
  refine zrV (As := [.int (nI 1)]) (rest := [.int (nI 2)]) 0 ⟨hx, hb, hml, hown, hts⟩ (c_X0_coreSize_ok l D cy h a0 a1 a2 2 (nI 0) (nI 0) zf zf tr_1 (nI 1) z0 (by decide) (by decide) (zcs _)) (cwV 1 hts gL_areCoresSo_X0_coreSize rfl rfl rfl (by decide +kernel) ⟨Nat.le_of_ble_eq_true rfl, Nat.le_of_ble_eq_true rfl⟩) hK hP rfl rfl rfl hl rfl (Nat.le_of_ble_eq_true rfl) dL_areCoresSo_103 ⟨Nat.le_of_ble_eq_true rfl, Nat.le_of_ble_eq_true rfl⟩ hS (fun r9 H13 locs hw9 hk9 hS => ?_)
  obtain rfl : r9 = (nI 0) := hw9.trans (congrArg nI zcz1)
  have hP := zkeep hP hk9
  refine k_icmp_lt_f (tgt := 142) hx hb dL_areCoresSo_106 (by decide) (by decide +kernel) ?_
  refine lv_aload_n hx hb dL_areCoresSo_109 rfl (lv_at hl 3 rfl) ?_
  refine lv_iload_n hx hb dL_areCoresSo_110 rfl (lv_at hl 0 rfl) ?_
  refine lv_iconst (v := (nI 2)) hx hb dL_areCoresSo_111 (by decide) ?_
  refine k_iadd (v := (nI 2)) hx hb dL_areCoresSo_112 (by decide +kernel) ?_
  refine zwVi (As := [.int (nI 2)]) (rest := []) 0 [0, 1, 2, 3] rfl ⟨hx, hb, hml, hown, hts⟩ (c_X0_trussSize_ok l D cy h a0 a1 a2 2 (nI 0) (nI 0) zf zf tr_1 _ (nI 2) (by decide) (zgd (by decide)) (by decide)) (cwV 1 hts gL_areCoresSo_X0_trussSize rfl rfl rfl (by decide +kernel) ⟨Nat.le_of_ble_eq_true rfl, Nat.le_of_ble_eq_true rfl⟩) hK hP hD hA rfl rfl rfl hl rfl (Nat.le_of_ble_eq_true rfl) dL_areCoresSo_113 ⟨Nat.le_of_ble_eq_true rfl, Nat.le_of_ble_eq_true rfl⟩ hS (fun r9 tr_2 H14 locs hw9 hP hS => ?_)
  obtain rfl : r9 = (nI 0) := by obtain ⟨g9, h1, h2⟩ := hw9; rw [h2, ztr h1]
  have hP : va_P D vwCl (wZ h a0 a1 a2 cy 2 tr_2) H14 := hP
  have hD : va_D A (wZ h a0 a1 a2 cy 2 tr_2) := zD hD rfl
  refine lv_aload_n hx hb dL_areCoresSo_116 rfl (lv_at hl 3 rfl) ?_
  refine lv_iload_n hx hb dL_areCoresSo_117 rfl (lv_at hl 0 rfl) ?_
  refine lv_iconst (v := (nI 3)) hx hb dL_areCoresSo_118 (by decide) ?_
  refine k_iadd (v := (nI 3)) hx hb dL_areCoresSo_119 (by decide +kernel) ?_
  refine zwVi (As := [.int (nI 3)]) (rest := [.int (nI 0)]) 0 [0, 1, 2, 3] rfl ⟨hx, hb, hml, hown, hts⟩ (c_X0_trussSize_ok l D cy h a0 a1 a2 2 (nI 0) (nI 0) zf zf tr_2 _ (nI 3) (by decide) (zgd (by decide)) (by decide)) (cwV 1 hts gL_areCoresSo_X0_trussSize rfl rfl rfl (by decide +kernel) ⟨Nat.le_of_ble_eq_true rfl, Nat.le_of_ble_eq_true rfl⟩) hK hP hD hA rfl rfl rfl hl rfl (Nat.le_of_ble_eq_true rfl) dL_areCoresSo_120 ⟨Nat.le_of_ble_eq_true rfl, Nat.le_of_ble_eq_true rfl⟩ hS (fun r9 tr_3 H15 locs hw9 hP hS => ?_)
  obtain rfl : r9 = (nI 0) := by obtain ⟨g9, h1, h2⟩ := hw9; rw [h2, ztr h1]
  have hP : va_P D vwCl (wZ h a0 a1 a2 cy 2 tr_3) H15 := hP
  have hD : va_D A (wZ h a0 a1 a2 cy 2 tr_3) := zD hD rfl
  refine k_icmp_lt_f (tgt := 142) hx hb dL_areCoresSo_123 (by decide) (by decide +kernel) ?_
  refine lv_aload_n hx hb dL_areCoresSo_126 rfl (lv_at hl 3 rfl) ?_
  refine zrV (As := []) (rest := []) 0 ⟨hx, hb, hml, hown, hts⟩ (c_X0_hierarchy l D cy h a0 a1 a2 2 (nI 0) (nI 0) zf zf tr_3 z0 (by decide) (zgd (by decide)) (zcs _)) (cwV 0 hts gL_areCoresSo_X0_hierarchy rfl rfl rfl (by decide +kernel) ⟨Nat.le_of_ble_eq_true rfl, Nat.le_of_ble_eq_true rfl⟩) hK hP rfl rfl rfl hl rfl (Nat.le_of_ble_eq_true rfl) dL_areCoresSo_127 ⟨Nat.le_of_ble_eq_true rfl, Nat.le_of_ble_eq_true rfl⟩ hS (fun r9 H16 locs hw9 hk9 hS => ?_)
  obtain rfl : r9 = (nI (kC 2)) := by obtain ⟨d, h1, h2⟩ := hw9; rw [h2, zdeg0 h1, zhie (by decide)]
  have hP := zkeep hP hk9
  refine lv_aload_n hx hb dL_areCoresSo_130 rfl (lv_at hl 3 rfl) ?_
  refine lv_iload_n hx hb dL_areCoresSo_131 rfl (lv_at hl 0 rfl) ?_
  refine zrV (As := [.int (nI 0)]) (rest := [.int (nI (kC 2))]) 0 ⟨hx, hb, hml, hown, hts⟩ (c_X0_communities_ok l D cy h a0 a1 a2 2 (nI 0) (nI 0) zf zf tr_3 (nI 0) z0 (by decide) (zgd (by decide)) (by decide) (zcs _)) (cwV 1 hts gL_areCoresSo_X0_communities rfl rfl rfl (by decide +kernel) ⟨Nat.le_of_ble_eq_true rfl, Nat.le_of_ble_eq_true rfl⟩) hK hP rfl rfl rfl hl rfl (Nat.le_of_ble_eq_true rfl) dL_areCoresSo_132 ⟨Nat.le_of_ble_eq_true rfl, Nat.le_of_ble_eq_true rfl⟩ hS (fun r9 H17 locs hw9 hk9 hS => ?_)
  obtain rfl : r9 = (nI (kC 2)) := hw9.trans (congrArg nI (zcomm0 _))
  have hP := zkeep hP hk9
  refine k_icmp_lt_f (tgt := 142) hx hb dL_areCoresSo_135 (by decide) Int32.lt_irrefl ?_
  refine lv_iconst (v := (nI 1)) hx hb dL_areCoresSo_138 (by decide) ?_
  refine lv_goto (tgt := 143) hx hb dL_areCoresSo_139 (by decide) ?_
  refine lv_istore_n (lv' := [(2, .int (nI 1)), (3, .int (nI 0)), (1, .int (nI 0)), (0, .ref h)]) hx hb dL_areCoresSo_143 rfl hl (by decide) rfl (fun ls hl => ?_)
  refine lv_iinc (v := (nI 1)) (lv' := [(3, .int (nI 1)), (2, .int (nI 1)), (1, .int (nI 0)), (0, .ref h)]) hx hb dL_areCoresSo_144 hl (k := 1) rfl (by decide +kernel) (by decide) rfl (fun ls hl => ?_)
  refine lv_goto (tgt := 85) hx hb dL_areCoresSo_147 (by decide) ?_
  refine lv_iload_n hx hb dL_areCoresSo_85 rfl (lv_at hl 0 rfl) ?_
  refine lv_iload_n hx hb dL_areCoresSo_86 rfl (lv_at hl 2 rfl) ?_
  refine k_icmp_gt_t (tgt := 150) hx hb dL_areCoresSo_87 (by decide) (by decide +kernel) ?_
  refine lv_iload_n hx hb dL_areCoresSo_150 rfl (lv_at hl 1 rfl) ?_
  refine W.widen (k := 0) (n := 0) (Nat.le_of_ble_eq_true rfl) (Nat.le_of_ble_eq_true rfl) ?_
  refine vx_ret ?_
  exact W.zret (v := (nI 1)) (ty := .boolean) hx hb hr rfl (fun t9 ht9 hW9 => ⟨⟨(nI 1), tr_3, rfl, rfl, by show va_P D vwCl (wZ h a0 a1 a2 cy 2 tr_3) t9.heap; rw [ht9]; exact hP⟩, hS.F ht9⟩) hS.2.2 dL_areCoresSo_151

set_option maxHeartbeats 4000000 in
set_option maxRecDepth 100000 in
theorem w_act_0 (l : Launch) (hfl : l.stackTraces = false) (D : va_G) (cy : ClassId) (h a0 a1 a2 : Nat) (tr : Nat → Int32) (sz : Nat)  : vx_Met l yL_act wsL_act ({ frames := 2, cells := 0, slots := 0, locals := 42 } : Room) (va_Pc [.ref h, .int (nI 0)] (zWr D (wZ h a0 a1 a2 cy 0 tr) [(cy, .int)] sz)) (va_Qi (fun (r : Int32) (z9 : Unit) => r = (nI 0)) (fun (z9 : Unit) t => va_P D vwCl (wZ h a0 a1 a2 cy 1 tr) t.heap) (va_A (wZ h a0 a1 a2 cy 0 tr) sz)) zXn 0 0 (va_A (wZ h a0 a1 a2 cy 0 tr) sz) := by
  refine vx_ofW (cc := cL_act) (maxL := 6) (ret := (some .int)) (by decide) rfl ?_
  intro p e s m args below meth c s₁ B hml hto hv
  obtain ⟨rfl, hsz, hP, hK, hD0⟩ := hv
  have hx := B.exec
  have hb := B.bytes
  have hr := B.returns
  have hts := atoms_spec (ws := wsL_act) B.pre
  have hown : s.vm.findClass RL = some m.cls := findClass_of_methodNamed B.named
  have hlocks := B.notSynchronized
  subst hsz
  have hD := hD0.self (sz := s.heap.size)
  generalize hAe : va_A (wZ h a0 a1 a2 cy 0 tr) s.heap.size = A at hD ⊢
  have hA : ∀ q : Nat, s.heap.size ≤ q → A q := fun q h => by rw [← hAe]; exact Or.inr h
  have hS : va_S A s.heap s.heap [] := va_S.rf
  have hl := lv_entry ([.ref h, .int (nI 0)]) (n := 6) (Nat.le_of_ble_eq_true rfl)
  rw [lg_entry_eq]
  generalize (lg_sl ([.ref h, .int (nI 0)]) ++ List.replicate (6 - (lg_sl ([.ref h, .int (nI 0)])).length) Slot.unset).toArray = ls at hl ⊢
  have hl : lv_has ls 6 [(0, .ref h), (1, .int (nI 0))] := hl
  refine lv_iload_n hx hb dL_act_0 rfl (lv_at hl 1 rfl) ?_
  refine lv_bipush (v := (nI 24)) hx hb dL_act_1 (by decide) ?_
  refine k_ishr (v := (nI 0)) hx hb dL_act_3 (by decide +kernel) ?_
  refine lv_bipush (v := (nI 9)) hx hb dL_act_4 (by decide) ?_
  refine zrS0 (As := [.int (nI 0), .int (nI 9)]) (rest := []) ⟨hx, hb, hml, hown, hts⟩ (c_L_low l (nI 0) (nI 9) (by decide)) (va_cwS 2 hts gL_act_L_low rfl rfl rfl (by decide +kernel) ⟨Nat.le_of_ble_eq_true rfl, Nat.le_of_ble_eq_true rfl⟩) rfl hl rfl (Nat.le_of_ble_eq_true rfl) dL_act_6 ⟨Nat.le_of_ble_eq_true rfl, Nat.le_of_ble_eq_true rfl⟩ hS (fun r9 H1 locs hw9 hk9 hS => ?_)
  obtain rfl : r9 = (nI 0) := hw9.trans (by decide +kernel)
  have hP := zkeep hP hk9
  refine k_if_ne_f (tgt := 16) hx hb dL_act_9 (by decide) (by decide +kernel) ?_
  refine lv_iconst (v := (nI 1)) hx hb dL_act_12 (by decide) ?_
  refine lv_goto (tgt := 17) hx hb dL_act_13 (by decide) ?_
  refine lv_istore_n (lv' := [(2, .int (nI 1)), (0, .ref h), (1, .int (nI 0))]) hx hb dL_act_17 rfl hl (by decide) rfl (fun ls hl => ?_)
  refine lv_aload_n hx hb dL_act_18 rfl (lv_at hl 1 rfl) ?_
  refine zrV (As := []) (rest := []) 0 ⟨hx, hb, hml, hown, hts⟩ (c_X0_nodes l D cy h a0 a1 a2 0 (nI 0) (nI 0) zf zf tr) (cwV 0 hts gL_act_X0_nodes rfl rfl rfl (by decide +kernel) ⟨Nat.le_of_ble_eq_true rfl, Nat.le_of_ble_eq_true rfl⟩) hK hP rfl rfl rfl hl rfl (Nat.le_of_ble_eq_true rfl) dL_act_19 ⟨Nat.le_of_ble_eq_true rfl, Nat.le_of_ble_eq_true rfl⟩ hS (fun r9 H2 locs hw9 hk9 hS => ?_)
  obtain rfl : r9 = (nI 0) := hw9
  have hP := zkeep hP hk9
  refine lv_istore_n (lv' := [(3, .int (nI 0)), (2, .int (nI 1)), (0, .ref h), (1, .int (nI 0))]) hx hb dL_act_22 rfl hl (by decide) rfl (fun ls hl => ?_)
  refine lv_iload_n hx hb dL_act_23 rfl (lv_at hl 3 rfl) ?_
  refine lv_iconst (v := (nI 4)) hx hb dL_act_24 (by decide) ?_
  refine k_ishr (v := (nI 0)) hx hb dL_act_25 (by decide +kernel) ?_
  refine lv_iload_n hx hb dL_act_26 rfl (lv_at hl 0 rfl) ?_
  refine lv_iconst (v := (nI 1)) hx hb dL_act_27 (by decide) ?_
  refine k_iadd (v := (nI 1)) hx hb dL_act_28 (by decide +kernel) ?_
  refine zrS0 (As := [.int (nI 0), .int (nI 1)]) (rest := []) ⟨hx, hb, hml, hown, hts⟩ (c_L_low l (nI 0) (nI 1) (by decide)) (va_cwS 2 hts gL_act_L_low rfl rfl rfl (by decide +kernel) ⟨Nat.le_of_ble_eq_true rfl, Nat.le_of_ble_eq_true rfl⟩) rfl hl rfl (Nat.le_of_ble_eq_true rfl) dL_act_29 ⟨Nat.le_of_ble_eq_true rfl, Nat.le_of_ble_eq_true rfl⟩ hS (fun r9 H3 locs hw9 hk9 hS => ?_)
  obtain rfl : r9 = (nI 0) := hw9.trans (by decide +kernel)
  have hP := zkeep hP hk9
  refine lv_iload_n hx hb dL_act_32 rfl (lv_at hl 1 rfl) ?_
  refine k_if_eq_f (tgt := 40) hx hb dL_act_33 (by decide) (by decide +kernel) ?_
  refine lv_iconst (v := (nI 1)) hx hb dL_act_36 (by decide) ?_
  refine lv_goto (tgt := 41) hx hb dL_act_37 (by decide) ?_
  refine k_isub (v := (-1)) hx hb dL_act_41 (by decide +kernel) ?_
  refine lv_istore (lv' := [(4, .int (-1)), (3, .int (nI 0)), (2, .int (nI 1)), (0, .ref h), (1, .int (nI 0))]) hx hb dL_act_42 hl (by decide) rfl (fun ls hl => ?_)
  refine lv_iload_n hx hb dL_act_44 rfl (lv_at hl 4 rfl) ?_
  refine lv_bipush (v := (nI 9)) hx hb dL_act_45 (by decide) ?_
  refine k_ishr (v := (nI 0)) hx hb dL_act_47 (by decide +kernel) ?_
  refine lv_iload_n hx hb dL_act_48 rfl (lv_at hl 1 rfl) ?_
  refine lv_iconst (v := (nI 1)) hx hb dL_act_49 (by decide) ?_
  refine k_iadd (v := (nI 1)) hx hb dL_act_50 (by decide +kernel) ?_
  refine zrS0 (As := [.int (nI 0), .int (nI 1)]) (rest := []) ⟨hx, hb, hml, hown, hts⟩ (c_L_low l (nI 0) (nI 1) (by decide)) (va_cwS 2 hts gL_act_L_low rfl rfl rfl (by decide +kernel) ⟨Nat.le_of_ble_eq_true rfl, Nat.le_of_ble_eq_true rfl⟩) rfl hl rfl (Nat.le_of_ble_eq_true rfl) dL_act_51 ⟨Nat.le_of_ble_eq_true rfl, Nat.le_of_ble_eq_true rfl⟩ hS (fun r9 H4 locs hw9 hk9 hS => ?_)
  obtain rfl : r9 = (nI 0) := hw9.trans (by decide +kernel)
  have hP := zkeep hP hk9
  refine lv_istore (lv' := [(5, .int (nI 0)), (4, .int (-1)), (3, .int (nI 0)), (2, .int (nI 1)), (0, .ref h), (1, .int (nI 0))]) hx hb dL_act_54 hl (by decide) rfl (fun ls hl => ?_)
  refine lv_iload_n hx hb dL_act_56 rfl (lv_at hl 5 rfl) ?_
  refine lv_bipush (v := (nI 11)) hx hb dL_act_57 (by decide) ?_
  refine zrS0 (As := [.int (nI 0), .int (nI 11)]) (rest := []) ⟨hx, hb, hml, hown, hts⟩ (c_L_low l (nI 0) (nI 11) (by decide)) (va_cwS 2 hts gL_act_L_low rfl rfl rfl (by decide +kernel) ⟨Nat.le_of_ble_eq_true rfl, Nat.le_of_ble_eq_true rfl⟩) rfl hl rfl (Nat.le_of_ble_eq_true rfl) dL_act_59 ⟨Nat.le_of_ble_eq_true rfl, Nat.le_of_ble_eq_true rfl⟩ hS (fun r9 H5 locs hw9 hk9 hS => ?_)
  obtain rfl : r9 = (nI 0) := hw9.trans (by decide +kernel)
  have hP := zkeep hP hk9
  refine lv_tableIn (off := 30) (tgt := 92) hx hb dL_act_62 (by decide +kernel) (by decide +kernel) (by decide +kernel) (by decide) ?_
  refine lv_aload_n hx hb dL_act_92 rfl (lv_at hl 4 rfl) ?_
  refine kSWwi (As := [.ref h]) (rest := []) [0, 1, 2, 3] rfl ⟨hx, hb, hml, hown, hts⟩ (w_addNode l hfl D cy h a0 a1 a2 0 tr _ (by decide)) (vx_cwSW 1 hts gL_act_L_addNode rfl rfl rfl (by decide +kernel) ⟨Nat.le_of_ble_eq_true rfl, Nat.le_of_ble_eq_true rfl⟩) hK hP hD hA rfl hl rfl (Nat.le_of_ble_eq_true rfl) dL_act_93 ⟨Nat.le_of_ble_eq_true rfl, Nat.le_of_ble_eq_true rfl⟩ hS (fun r9 u9 H6 locs hw9 hP hS => ?_)
  obtain rfl : r9 = (nI 0) := hw9
  have hP : va_P D vwCl (wZ h a0 a1 a2 cy 1 tr) H6 := hP
  refine W.widen (k := 0) (n := 0) (Nat.le_of_ble_eq_true rfl) (Nat.le_of_ble_eq_true rfl) ?_
  refine vx_ret ?_
  exact W.iret (v := (nI 0)) hx hb hr (fun t9 ht9 hW9 => ⟨⟨(nI 0), (), rfl, rfl, by show va_P D vwCl (wZ h a0 a1 a2 cy 1 tr) t9.heap; rw [ht9]; exact hP⟩, hS.F ht9⟩) hS.2.2 dL_act_96

set_option maxHeartbeats 4000000 in
set_option maxRecDepth 100000 in
theorem w_act_1 (l : Launch) (hfl : l.stackTraces = false) (D : va_G) (cy : ClassId) (h a0 a1 a2 : Nat) (tr : Nat → Int32) (sz : Nat)  : vx_Met l yL_act wsL_act ({ frames := 2, cells := 0, slots := 0, locals := 42 } : Room) (va_Pc [.ref h, .int (nI 264)] (zWr D (wZ h a0 a1 a2 cy 1 tr) [(cy, .int)] sz)) (va_Qi (fun (r : Int32) (z9 : Unit) => r = (nI 1)) (fun (z9 : Unit) t => va_P D vwCl (wZ h a0 a1 a2 cy 2 tr) t.heap) (va_A (wZ h a0 a1 a2 cy 1 tr) sz)) zXn 0 0 (va_A (wZ h a0 a1 a2 cy 1 tr) sz) := by
  refine vx_ofW (cc := cL_act) (maxL := 6) (ret := (some .int)) (by decide) rfl ?_
  intro p e s m args below meth c s₁ B hml hto hv
  obtain ⟨rfl, hsz, hP, hK, hD0⟩ := hv
  have hx := B.exec
  have hb := B.bytes
  have hr := B.returns
  have hts := atoms_spec (ws := wsL_act) B.pre
  have hown : s.vm.findClass RL = some m.cls := findClass_of_methodNamed B.named
  have hlocks := B.notSynchronized
  subst hsz
  have hD := hD0.self (sz := s.heap.size)
  generalize hAe : va_A (wZ h a0 a1 a2 cy 1 tr) s.heap.size = A at hD ⊢
  have hA : ∀ q : Nat, s.heap.size ≤ q → A q := fun q h => by rw [← hAe]; exact Or.inr h
  have hS : va_S A s.heap s.heap [] := va_S.rf
  have hl := lv_entry ([.ref h, .int (nI 264)]) (n := 6) (Nat.le_of_ble_eq_true rfl)
  rw [lg_entry_eq]
  generalize (lg_sl ([.ref h, .int (nI 264)]) ++ List.replicate (6 - (lg_sl ([.ref h, .int (nI 264)])).length) Slot.unset).toArray = ls at hl ⊢
  have hl : lv_has ls 6 [(0, .ref h), (1, .int (nI 264))] := hl
  refine lv_iload_n hx hb dL_act_0 rfl (lv_at hl 1 rfl) ?_
  refine lv_bipush (v := (nI 24)) hx hb dL_act_1 (by decide) ?_
  refine k_ishr (v := (nI 0)) hx hb dL_act_3 (by decide +kernel) ?_
  refine lv_bipush (v := (nI 9)) hx hb dL_act_4 (by decide) ?_
  refine zrS0 (As := [.int (nI 0), .int (nI 9)]) (rest := []) ⟨hx, hb, hml, hown, hts⟩ (c_L_low l (nI 0) (nI 9) (by decide)) (va_cwS 2 hts gL_act_L_low rfl rfl rfl (by decide +kernel) ⟨Nat.le_of_ble_eq_true rfl, Nat.le_of_ble_eq_true rfl⟩) rfl hl rfl (Nat.le_of_ble_eq_true rfl) dL_act_6 ⟨Nat.le_of_ble_eq_true rfl, Nat.le_of_ble_eq_true rfl⟩ hS (fun r9 H1 locs hw9 hk9 hS => ?_)
  obtain rfl : r9 = (nI 0) := hw9.trans (by decide +kernel)
  have hP := zkeep hP hk9
  refine k_if_ne_f (tgt := 16) hx hb dL_act_9 (by decide) (by decide +kernel) ?_
  refine lv_iconst (v := (nI 1)) hx hb dL_act_12 (by decide) ?_
  refine lv_goto (tgt := 17) hx hb dL_act_13 (by decide) ?_
  refine lv_istore_n (lv' := [(2, .int (nI 1)), (0, .ref h), (1, .int (nI 264))]) hx hb dL_act_17 rfl hl (by decide) rfl (fun ls hl => ?_)
  refine lv_aload_n hx hb dL_act_18 rfl (lv_at hl 1 rfl) ?_
  refine zrV (As := []) (rest := []) 0 ⟨hx, hb, hml, hown, hts⟩ (c_X0_nodes l D cy h a0 a1 a2 1 (nI 0) (nI 0) zf zf tr) (cwV 0 hts gL_act_X0_nodes rfl rfl rfl (by decide +kernel) ⟨Nat.le_of_ble_eq_true rfl, Nat.le_of_ble_eq_true rfl⟩) hK hP rfl rfl rfl hl rfl (Nat.le_of_ble_eq_true rfl) dL_act_19 ⟨Nat.le_of_ble_eq_true rfl, Nat.le_of_ble_eq_true rfl⟩ hS (fun r9 H2 locs hw9 hk9 hS => ?_)
  obtain rfl : r9 = (nI 1) := hw9
  have hP := zkeep hP hk9
  refine lv_istore_n (lv' := [(3, .int (nI 1)), (2, .int (nI 1)), (0, .ref h), (1, .int (nI 264))]) hx hb dL_act_22 rfl hl (by decide) rfl (fun ls hl => ?_)
  refine lv_iload_n hx hb dL_act_23 rfl (lv_at hl 3 rfl) ?_
  refine lv_iconst (v := (nI 4)) hx hb dL_act_24 (by decide) ?_
  refine k_ishr (v := (nI 16)) hx hb dL_act_25 (by decide +kernel) ?_
  refine lv_iload_n hx hb dL_act_26 rfl (lv_at hl 0 rfl) ?_
  refine lv_iconst (v := (nI 1)) hx hb dL_act_27 (by decide) ?_
  refine k_iadd (v := (nI 2)) hx hb dL_act_28 (by decide +kernel) ?_
  refine zrS0 (As := [.int (nI 16), .int (nI 2)]) (rest := []) ⟨hx, hb, hml, hown, hts⟩ (c_L_low l (nI 16) (nI 2) (by decide)) (va_cwS 2 hts gL_act_L_low rfl rfl rfl (by decide +kernel) ⟨Nat.le_of_ble_eq_true rfl, Nat.le_of_ble_eq_true rfl⟩) rfl hl rfl (Nat.le_of_ble_eq_true rfl) dL_act_29 ⟨Nat.le_of_ble_eq_true rfl, Nat.le_of_ble_eq_true rfl⟩ hS (fun r9 H3 locs hw9 hk9 hS => ?_)
  obtain rfl : r9 = (nI 0) := hw9.trans (by decide +kernel)
  have hP := zkeep hP hk9
  refine lv_iload_n hx hb dL_act_32 rfl (lv_at hl 1 rfl) ?_
  refine k_if_eq_f (tgt := 40) hx hb dL_act_33 (by decide) (by decide +kernel) ?_
  refine lv_iconst (v := (nI 1)) hx hb dL_act_36 (by decide) ?_
  refine lv_goto (tgt := 41) hx hb dL_act_37 (by decide) ?_
  refine k_isub (v := (-1)) hx hb dL_act_41 (by decide +kernel) ?_
  refine lv_istore (lv' := [(4, .int (-1)), (3, .int (nI 1)), (2, .int (nI 1)), (0, .ref h), (1, .int (nI 264))]) hx hb dL_act_42 hl (by decide) rfl (fun ls hl => ?_)
  refine lv_iload_n hx hb dL_act_44 rfl (lv_at hl 4 rfl) ?_
  refine lv_bipush (v := (nI 9)) hx hb dL_act_45 (by decide) ?_
  refine k_ishr (v := (nI 0)) hx hb dL_act_47 (by decide +kernel) ?_
  refine lv_iload_n hx hb dL_act_48 rfl (lv_at hl 1 rfl) ?_
  refine lv_iconst (v := (nI 1)) hx hb dL_act_49 (by decide) ?_
  refine k_iadd (v := (nI 2)) hx hb dL_act_50 (by decide +kernel) ?_
  refine zrS0 (As := [.int (nI 0), .int (nI 2)]) (rest := []) ⟨hx, hb, hml, hown, hts⟩ (c_L_low l (nI 0) (nI 2) (by decide)) (va_cwS 2 hts gL_act_L_low rfl rfl rfl (by decide +kernel) ⟨Nat.le_of_ble_eq_true rfl, Nat.le_of_ble_eq_true rfl⟩) rfl hl rfl (Nat.le_of_ble_eq_true rfl) dL_act_51 ⟨Nat.le_of_ble_eq_true rfl, Nat.le_of_ble_eq_true rfl⟩ hS (fun r9 H4 locs hw9 hk9 hS => ?_)
  obtain rfl : r9 = (nI 0) := hw9.trans (by decide +kernel)
  have hP := zkeep hP hk9
  refine lv_istore (lv' := [(5, .int (nI 0)), (4, .int (-1)), (3, .int (nI 1)), (2, .int (nI 1)), (0, .ref h), (1, .int (nI 264))]) hx hb dL_act_54 hl (by decide) rfl (fun ls hl => ?_)
  refine lv_iload_n hx hb dL_act_56 rfl (lv_at hl 5 rfl) ?_
  refine lv_bipush (v := (nI 11)) hx hb dL_act_57 (by decide) ?_
  refine zrS0 (As := [.int (nI 264), .int (nI 11)]) (rest := []) ⟨hx, hb, hml, hown, hts⟩ (c_L_low l (nI 264) (nI 11) (by decide)) (va_cwS 2 hts gL_act_L_low rfl rfl rfl (by decide +kernel) ⟨Nat.le_of_ble_eq_true rfl, Nat.le_of_ble_eq_true rfl⟩) rfl hl rfl (Nat.le_of_ble_eq_true rfl) dL_act_59 ⟨Nat.le_of_ble_eq_true rfl, Nat.le_of_ble_eq_true rfl⟩ hS (fun r9 H5 locs hw9 hk9 hS => ?_)
  obtain rfl : r9 = (nI 0) := hw9.trans (by decide +kernel)
  have hP := zkeep hP hk9
  refine lv_tableIn (off := 30) (tgt := 92) hx hb dL_act_62 (by decide +kernel) (by decide +kernel) (by decide +kernel) (by decide) ?_
  refine lv_aload_n hx hb dL_act_92 rfl (lv_at hl 4 rfl) ?_
  refine kSWwi (As := [.ref h]) (rest := []) [0, 1, 2, 3] rfl ⟨hx, hb, hml, hown, hts⟩ (w_addNode l hfl D cy h a0 a1 a2 1 tr _ (by decide)) (vx_cwSW 1 hts gL_act_L_addNode rfl rfl rfl (by decide +kernel) ⟨Nat.le_of_ble_eq_true rfl, Nat.le_of_ble_eq_true rfl⟩) hK hP hD hA rfl hl rfl (Nat.le_of_ble_eq_true rfl) dL_act_93 ⟨Nat.le_of_ble_eq_true rfl, Nat.le_of_ble_eq_true rfl⟩ hS (fun r9 u9 H6 locs hw9 hP hS => ?_)
  obtain rfl : r9 = (nI 1) := hw9
  have hP : va_P D vwCl (wZ h a0 a1 a2 cy 2 tr) H6 := hP
  refine W.widen (k := 0) (n := 0) (Nat.le_of_ble_eq_true rfl) (Nat.le_of_ble_eq_true rfl) ?_
  refine vx_ret ?_
  exact W.iret (v := (nI 1)) hx hb hr (fun t9 ht9 hW9 => ⟨⟨(nI 1), (), rfl, rfl, by show va_P D vwCl (wZ h a0 a1 a2 cy 2 tr) t9.heap; rw [ht9]; exact hP⟩, hS.F ht9⟩) hS.2.2 dL_act_96

set_option maxHeartbeats 4000000 in
set_option maxRecDepth 100000 in
theorem w_act_2 (l : Launch) (hfl : l.stackTraces = false) (D : va_G) (cy : ClassId) (h a0 a1 a2 : Nat) (tr : Nat → Int32) (sz : Nat)  : vx_Met l yL_act wsL_act ({ frames := 10, cells := 1, slots := 6, locals := 177 } : Room) (va_Pc [.ref h, .int (nI 257)] (kRd D (wZ h a0 a1 a2 cy 2 tr) [(cy, .int)] sz)) (kPo (-99999) sz 0) zXn 1 6 zNo := by
  refine vx_ofW (cc := cL_act) (maxL := 6) (ret := (some .int)) (by decide) rfl ?_
  intro p e s m args below meth c s₁ B hml hto hv
  obtain ⟨rfl, ⟨⟨hP, hK⟩, hsz⟩, hT⟩ := hv
  have hx := B.exec
  have hb := B.bytes
  have hr := B.returns
  have hts := atoms_spec (ws := wsL_act) B.pre
  have hown : s.vm.findClass RL = some m.cls := findClass_of_methodNamed B.named
  have hlocks := B.notSynchronized
  subst hsz
  have hS : va_S (fun _ => False) s.heap s.heap [] := va_S.rf
  have hl := lv_entry ([.ref h, .int (nI 257)]) (n := 6) (Nat.le_of_ble_eq_true rfl)
  rw [lg_entry_eq]
  generalize (lg_sl ([.ref h, .int (nI 257)]) ++ List.replicate (6 - (lg_sl ([.ref h, .int (nI 257)])).length) Slot.unset).toArray = ls at hl ⊢
  have hl : lv_has ls 6 [(0, .ref h), (1, .int (nI 257))] := hl
  have hz : s.heap.size + 0 ≤ s.heap.size := Nat.le_refl _
  refine lv_iload_n hx hb dL_act_0 rfl (lv_at hl 1 rfl) ?_
  refine lv_bipush (v := (nI 24)) hx hb dL_act_1 (by decide) ?_
  refine k_ishr (v := (nI 0)) hx hb dL_act_3 (by decide +kernel) ?_
  refine lv_bipush (v := (nI 9)) hx hb dL_act_4 (by decide) ?_
  refine zrS0 (As := [.int (nI 0), .int (nI 9)]) (rest := []) ⟨hx, hb, hml, hown, hts⟩ (c_L_low l (nI 0) (nI 9) (by decide)) (va_cwS 2 hts gL_act_L_low rfl rfl rfl (by decide +kernel) ⟨Nat.le_of_ble_eq_true rfl, Nat.le_of_ble_eq_true rfl⟩) rfl hl rfl (Nat.le_of_ble_eq_true rfl) dL_act_6 ⟨Nat.le_of_ble_eq_true rfl, Nat.le_of_ble_eq_true rfl⟩ hS (fun r9 H1 locs hw9 hk9 hS => ?_)
  obtain rfl : r9 = (nI 0) := hw9.trans (by decide +kernel)
  have hP := zkeep hP hk9
  have hz : s.heap.size + 0 ≤ H1.size := Nat.le_trans hz hk9.1
  refine k_if_ne_f (tgt := 16) hx hb dL_act_9 (by decide) (by decide +kernel) ?_
  refine lv_iconst (v := (nI 1)) hx hb dL_act_12 (by decide) ?_
  refine lv_goto (tgt := 17) hx hb dL_act_13 (by decide) ?_
  refine lv_istore_n (lv' := [(2, .int (nI 1)), (0, .ref h), (1, .int (nI 257))]) hx hb dL_act_17 rfl hl (by decide) rfl (fun ls hl => ?_)
  refine lv_aload_n hx hb dL_act_18 rfl (lv_at hl 1 rfl) ?_
  refine zrV (As := []) (rest := []) 0 ⟨hx, hb, hml, hown, hts⟩ (c_X0_nodes l D cy h a0 a1 a2 2 (nI 0) (nI 0) zf zf tr) (cwV 0 hts gL_act_X0_nodes rfl rfl rfl (by decide +kernel) ⟨Nat.le_of_ble_eq_true rfl, Nat.le_of_ble_eq_true rfl⟩) hK hP rfl rfl rfl hl rfl (Nat.le_of_ble_eq_true rfl) dL_act_19 ⟨Nat.le_of_ble_eq_true rfl, Nat.le_of_ble_eq_true rfl⟩ hS (fun r9 H2 locs hw9 hk9 hS => ?_)
  obtain rfl : r9 = (nI 2) := hw9
  have hP := zkeep hP hk9
  have hz : s.heap.size + 0 ≤ H2.size := Nat.le_trans hz hk9.1
  refine lv_istore_n (lv' := [(3, .int (nI 2)), (2, .int (nI 1)), (0, .ref h), (1, .int (nI 257))]) hx hb dL_act_22 rfl hl (by decide) rfl (fun ls hl => ?_)
  refine lv_iload_n hx hb dL_act_23 rfl (lv_at hl 3 rfl) ?_
  refine lv_iconst (v := (nI 4)) hx hb dL_act_24 (by decide) ?_
  refine k_ishr (v := (nI 16)) hx hb dL_act_25 (by decide +kernel) ?_
  refine lv_iload_n hx hb dL_act_26 rfl (lv_at hl 0 rfl) ?_
  refine lv_iconst (v := (nI 1)) hx hb dL_act_27 (by decide) ?_
  refine k_iadd (v := (nI 3)) hx hb dL_act_28 (by decide +kernel) ?_
  refine zrS0 (As := [.int (nI 16), .int (nI 3)]) (rest := []) ⟨hx, hb, hml, hown, hts⟩ (c_L_low l (nI 16) (nI 3) (by decide)) (va_cwS 2 hts gL_act_L_low rfl rfl rfl (by decide +kernel) ⟨Nat.le_of_ble_eq_true rfl, Nat.le_of_ble_eq_true rfl⟩) rfl hl rfl (Nat.le_of_ble_eq_true rfl) dL_act_29 ⟨Nat.le_of_ble_eq_true rfl, Nat.le_of_ble_eq_true rfl⟩ hS (fun r9 H3 locs hw9 hk9 hS => ?_)
  obtain rfl : r9 = (nI 1) := hw9.trans (by decide +kernel)
  have hP := zkeep hP hk9
  have hz : s.heap.size + 0 ≤ H3.size := Nat.le_trans hz hk9.1
  refine lv_iload_n hx hb dL_act_32 rfl (lv_at hl 1 rfl) ?_
  refine k_if_eq_f (tgt := 40) hx hb dL_act_33 (by decide) (by decide +kernel) ?_
  refine lv_iconst (v := (nI 1)) hx hb dL_act_36 (by decide) ?_
  refine lv_goto (tgt := 41) hx hb dL_act_37 (by decide) ?_
  refine k_isub (v := (nI 0)) hx hb dL_act_41 (by decide +kernel) ?_
  refine lv_istore (lv' := [(4, .int (nI 0)), (3, .int (nI 2)), (2, .int (nI 1)), (0, .ref h), (1, .int (nI 257))]) hx hb dL_act_42 hl (by decide) rfl (fun ls hl => ?_)
  refine lv_iload_n hx hb dL_act_44 rfl (lv_at hl 4 rfl) ?_
  refine lv_bipush (v := (nI 9)) hx hb dL_act_45 (by decide) ?_
  refine k_ishr (v := (nI 0)) hx hb dL_act_47 (by decide +kernel) ?_
  refine lv_iload_n hx hb dL_act_48 rfl (lv_at hl 1 rfl) ?_
  refine lv_iconst (v := (nI 1)) hx hb dL_act_49 (by decide) ?_
  refine k_iadd (v := (nI 3)) hx hb dL_act_50 (by decide +kernel) ?_
  refine zrS0 (As := [.int (nI 0), .int (nI 3)]) (rest := []) ⟨hx, hb, hml, hown, hts⟩ (c_L_low l (nI 0) (nI 3) (by decide)) (va_cwS 2 hts gL_act_L_low rfl rfl rfl (by decide +kernel) ⟨Nat.le_of_ble_eq_true rfl, Nat.le_of_ble_eq_true rfl⟩) rfl hl rfl (Nat.le_of_ble_eq_true rfl) dL_act_51 ⟨Nat.le_of_ble_eq_true rfl, Nat.le_of_ble_eq_true rfl⟩ hS (fun r9 H4 locs hw9 hk9 hS => ?_)
  obtain rfl : r9 = (nI 0) := hw9.trans (by decide +kernel)
  have hP := zkeep hP hk9
  have hz : s.heap.size + 0 ≤ H4.size := Nat.le_trans hz hk9.1
  refine lv_istore (lv' := [(5, .int (nI 0)), (4, .int (nI 0)), (3, .int (nI 2)), (2, .int (nI 1)), (0, .ref h), (1, .int (nI 257))]) hx hb dL_act_54 hl (by decide) rfl (fun ls hl => ?_)
  refine lv_iload_n hx hb dL_act_56 rfl (lv_at hl 5 rfl) ?_
  refine lv_bipush (v := (nI 11)) hx hb dL_act_57 (by decide) ?_
  refine zrS0 (As := [.int (nI 257), .int (nI 11)]) (rest := []) ⟨hx, hb, hml, hown, hts⟩ (c_L_low l (nI 257) (nI 11) (by decide)) (va_cwS 2 hts gL_act_L_low rfl rfl rfl (by decide +kernel) ⟨Nat.le_of_ble_eq_true rfl, Nat.le_of_ble_eq_true rfl⟩) rfl hl rfl (Nat.le_of_ble_eq_true rfl) dL_act_59 ⟨Nat.le_of_ble_eq_true rfl, Nat.le_of_ble_eq_true rfl⟩ hS (fun r9 H5 locs hw9 hk9 hS => ?_)
  obtain rfl : r9 = (nI 4) := hw9.trans (by decide +kernel)
  have hP := zkeep hP hk9
  have hz : s.heap.size + 0 ≤ H5.size := Nat.le_trans hz hk9.1
  refine lv_tableOut (tgt := 131) hx hb dL_act_62 (by decide +kernel) (by decide) ?_
  refine lv_aload_n hx hb dL_act_131 rfl (lv_at hl 4 rfl) ?_
  refine lv_iload hx hb dL_act_132 (lv_at hl 1 rfl) ?_
  refine lv_iload hx hb dL_act_134 (lv_at hl 0 rfl) ?_
  refine kSW (k := 0) (As := [.ref h, .int (nI 0), .int (nI 0)]) (rest := []) ⟨hx, hb, hml, hown, hts⟩ (w_join_same l hfl D cy h a0 a1 a2 2 tr _ 0 (by decide) (by decide)) (vx_cwSW 3 hts gL_act_L_join rfl rfl rfl (by decide +kernel) ⟨Nat.le_of_ble_eq_true rfl, Nat.le_of_ble_eq_true rfl⟩) hK hP (fun U hU hW => hT.move hW ⟨Nat.le_trans hS.1 (Nat.le_of_eq (by rw [hU])), fun q h => Eq.trans (by rw [hU]) (hS.2.1 q h (fun z => z))⟩) rfl hl rfl (Nat.le_of_ble_eq_true rfl) dL_act_136 ⟨Nat.le_of_ble_eq_true rfl, Nat.le_of_ble_eq_true rfl⟩ hS (fun H6 locs hk9 hz9 hS => ?_)
  have hP := zkeep hP hk9
  have hz : s.heap.size + 0 ≤ H6.size := Nat.le_trans hz hk9.1
  refine W.widen (k := 1) (n := 6) (Nat.le_of_ble_eq_true rfl) (Nat.le_of_ble_eq_true rfl) ?_
  refine vx_ret ?_
  exact W.iret (v := (-99999)) hx hb hr (fun t9 ht9 hW9 => ⟨⟨(-99999), (), rfl, rfl, by show s.heap.size + 0 ≤ t9.heap.size; rw [ht9]; exact hz⟩, hS.F ht9⟩) hS.2.2 dL_act_139
end
