/-! ===== THE CLAIM IS FALSE BY ITS ROOM: at every start with this script the law makes more cells than the claim allows ===== -/
/-- the script -/
def script56 : List Int32 := nI 0 :: nI 264 :: List.replicate 54 (nI 257)
theorem s56_len : script56.length = 56 := by decide +kernel
theorem s56_tail : ∀ j, j < 56 → 2 ≤ j → script56.getD j 0 = nI 257 := by decide +kernel
def lx_P (b : Addr) (args : Array Value) (s : State) : Prop := args = #[.ref b] ∧ s.IntsAt b script56 ∧ (Jvm.Cond.and given_1 narrow_1).before args s = true
set_option maxHeartbeats 4000000 in
theorem lx_walk (l : Launch) (hflags : l.flags = flags0) (b : Addr) : MetFree l x (headSpec (Jvm.Cond.code x code maxLocals ret :: tables_1) rB) (lx_P b) (fun _ _ _ _ _ => True) (fun _ s o t => o = .returned (some (.int 1)) ∧ s.heap.size + 191 ≤ t.heap.size) := by
  refine MetFree.of_bodyS (code := code) (maxLocals := maxLocals) (ret := ret) (by decide) ?_ ?_
  · intro args s m h hn
    obtain ⟨meth, c, h1, h2, h3, h4, h5, h6, -, -⟩ := Cond.code_spec hn (atoms_spec (ws := Jvm.Cond.code x code maxLocals ret :: tables_1) h _ List.mem_cons_self)
    exact ⟨meth, c, h1, h2, h3, h4, h5, h6⟩
  · intro p e s m args below meth c s₁ B hml0 hP _
    obtain ⟨rfl, hx, hgv⟩ := hP
    obtain ⟨scr, harrAt, hlist, hof, hsmall⟩ := hx
    obtain ⟨hcb, hkn, -, -⟩ := State.arrayAt?_spec harrAt
    have hown : s.vm.findClass RL = some m.cls := findClass_of_methodNamed B.named
    have hts0 : ∀ c ∈ (Jvm.Cond.code x code maxLocals ret :: tables_1), c.before #[Value.ref b] s = true := atoms_spec (ws := Jvm.Cond.code x code maxLocals ret :: tables_1) B.pre
    have hts : ∀ w ∈ lw_tbl, w.before #[Value.ref b] s = true := k2_hts_sels lw_privs (fun w hw => hts0 w (List.mem_cons_of_mem _ hw)) lw_privs_ok
    have hml : c.maxLocals = 7 := B.maxLocals_eq (hts0 _ List.mem_cons_self)
    have X₀ : Stand p l e rB s m #[Value.ref b] below meth c s₁ [] 0 0 := Stand.of_body B
    have hh0 : s₁.heap = s.heap := by rw [B.state]; rfl
    have hsz : scr.slots.size = script56.length := by rw [← Array.length_toList, hlist, List.length_map]
    have hval : ∀ j : Nat, j < script56.length → scr.slots[j]? = some (.int (script56.getD j 0)) := fun j hj => by
      rw [← Array.getElem?_toList, hlist]
      simp [hj]
    have hbl : b < s.heap.size := (Array.getElem?_eq_some_iff.mp hcb).1
    have hX : va_X b script56.length (fun j => script56.getD j 0) s s.heap := ⟨scr, hcb, hof, hkn, hsz, hval⟩
    have K : W p l e rB s m #[Value.ref b] below meth c s₁.heap [] 0 0 (lx_Z below s) (entryFrame m ([Value.ref b] : List Value).toArray 7) := by
      rw [hh0]
      exact lx_start l hflags B.exec B.bytes B.returns hml hown hts hX hbl B.notSynchronized hgv s56_len rfl rfl (fun j h1 h2 => s56_tail j h2 h1)
    obtain ⟨t, a1, o, b1, b2, b3, b4⟩ := K s₁ rfl X₀
    exact ⟨t, o, a1, b1, b2, b3, b4⟩
/-- at every start of the claim (any launch with the claim's flags) that holds this script and has the larger room: the run's end is told, and the claim's frame is not kept there -/
theorem lx_ends {l : Launch} (hflags : l.flags = flags0) {p : Program} {e : Env} {s : State} {m : MethodId} {args : Array Value} {below : List Frame} {b : Addr}
    (hA : Jvm.D.AtStart classFile x code maxLocals ret World_1 tables_1 room_1 Calls_1 rest_1 Pre_1 l p e s m args below) (ha : args = #[.ref b]) (hs : s.IntsAt b script56) (hroom : s.hasRoom e.platform rB = true) :
    ∃ (n : Nat) (o : Outcome), (∀ k, k < n → Within (stepsAlone p.tables e k s) below) ∧ (stepsAlone p.tables e n s).status = Status.running ∧ Ended (stepsAlone p.tables e n s) below o ∧ ¬ Post_1_1 p.tables e args s o (stepsAlone p.tables e n s) := by
  obtain ⟨hl, hw, had, hle, hc, hk, hf, hfit, hheap, happ, hcalls, hrest, hpre⟩ := id hA
  have happ2 : (headSpec (Jvm.Cond.code x code maxLocals ret :: tables_1) rB).applies x e.platform s = true := (Spec.applies_iff hf).mpr (by
    obtain ⟨q1, q2, q3, q4, q5, q6, q7, q8⟩ := (Spec.applies_iff hf).mp happ
    exact ⟨q1, q2, q3, q4, q5, q6, hroom, q8⟩)
  obtain ⟨n, o, h1, h2, h3, h4, h5⟩ := lx_walk l hflags b p e had hc hk s m args below hf ((Spec.applies_iff_loose hf).mp happ2).1 ⟨ha, hs, hpre⟩ trivial
  refine ⟨n, o, h1, h2, h3, fun hpost => ?_⟩
  have h6 := hpost.2.1.2.2.2.2.1
  have h7 : (stepsAlone p.tables e n s).heap.size ≤ s.heap.size + 190 := h6
  omega
/-- so the claim falls -/
theorem lx_falls {l : Launch} (hflags : l.flags = flags0) {p : Program} {e : Env} {s : State} {m : MethodId} {args : Array Value} {below : List Frame} {b : Addr}
    (hA : Jvm.D.AtStart classFile x code maxLocals ret World_1 tables_1 room_1 Calls_1 rest_1 Pre_1 l p e s m args below) (ha : args = #[.ref b]) (hs : s.IntsAt b script56) (hroom : s.hasRoom e.platform rB = true) : RefutedClaimed_1_1 := by
  obtain ⟨n, o, h1, h2, h3, h4⟩ := lx_ends hflags hA ha hs hroom
  exact ⟨l, p, e, s, m, args, below, hflags, hA, n, o, h1, h2, h3, h4⟩
/-- and what is owed is false -/
theorem lx_not {l : Launch} (hflags : l.flags = flags0) {p : Program} {e : Env} {s : State} {m : MethodId} {args : Array Value} {below : List Frame} {b : Addr}
    (hA : Jvm.D.AtStart classFile x code maxLocals ret World_1 tables_1 room_1 Calls_1 rest_1 Pre_1 l p e s m args below) (ha : args = #[.ref b]) (hs : s.IntsAt b script56) (hroom : s.hasRoom e.platform rB = true) : ¬ (Claimed_1_1 ∧ Claimed_1_2) := by
  rintro ⟨hC, -⟩
  obtain ⟨n, o, h1, h2, h3, h4⟩ := lx_ends hflags hA ha hs hroom
  obtain ⟨hl, hw, had, hle, hc, hk, hf, hfit, hheap, happ, hcalls, hrest, hpre⟩ := hA
  obtain ⟨n2, o2, g1, g2, g3, g4⟩ := hC l hflags hl hw p e had hc hk s m args below hf hfit hheap happ ⟨hcalls, hrest, hpre⟩
  obtain ⟨rfl, rfl⟩ := the_end_unique (f := fun k => stepsAlone p.tables e k s) h1 h3 g1 g3
  exact h4 g4
