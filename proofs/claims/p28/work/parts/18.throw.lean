/-! ===== methods that throw ===== -/
abbrev nISE : String := "java/lang/IllegalStateException"
abbrev nIAE : String := "java/lang/IllegalArgumentException"
abbrev nIOB : String := "java/lang/IndexOutOfBoundsException"
abbrev nNSE : String := "java/util/NoSuchElementException"
def zStr : List (Nat × String) := [(31, "there are 20 nodes"), (44, "there is such an edge"), (69, "the node has not so many edges"), (97, "the nodes belong to the same community at no level"), (107, "there is no such place"), (132, "k is less than 2"), (135, "there is no such node"), (137, "both nodes are the same"), (139, "there is no such edge"), (141, "k is negative")]
/-- what a throw wants of the state -/
def zTh (U : State) : Prop := (∀ X ∈ ["java/lang/RuntimeException", "java/lang/Exception", Bundle.tN], va_Nw (.declares (Bundle.initS X)) U) ∧ (∀ X ∈ [nISE, nIAE, nIOB, nNSE], va_Nw (.castable X X) U) ∧ (∀ X ∈ [nISE, nIAE, nIOB, nNSE], ∀ Y ∈ [nISE, nIAE, nIOB, nNSE], X ≠ Y → va_Nc X Y U) ∧
  vx_Zq Bundle.tN "UNASSIGNED_STACK" Bundle.steD (fun _ => False) U U.heap ∧ vx_Zq Bundle.tN "SUPPRESSED_SENTINEL" Bundle.listD (fun _ => False) U U.heap ∧ ∀ q ∈ zStr, ∃ a, vk_R RX0 q.1 q.2 a U
theorem zTh.move {s U : State} (hW : s.WarmedH U.vm) (hk : zKp s.heap U.heap) (h : zTh s) : zTh U := by
  obtain ⟨h1, h2, h3, h4, h5, h6⟩ := h
  refine ⟨fun X hX => va_Nw.warmD hW (h1 X hX), fun X hX => va_Nw.warmC hW (h2 X hX), fun X hX Y hY hn => va_Nc.moved hW.alike (h3 X hX Y hY hn), (vx_Zq.moved hW.alike h4).kept (fun a ha _ => hk.2 a ha), (vx_Zq.moved hW.alike h5).kept (fun a ha _ => hk.2 a ha), fun q hq => ?_⟩
  obtain ⟨a, ha⟩ := h6 q hq
  exact ⟨a, vk_R.warm hW ha⟩
theorem zTh.same {s U : State} (hv : U.vm = s.vm) (hk : U.heap = s.heap) (h : zTh s) : zTh U := by
  obtain ⟨h1, h2, h3, h4, h5, h6⟩ := h
  have ha : s.vm.Alike U.vm := by rw [hv]; exact Vm.Alike.refl _
  refine ⟨fun X hX => va_Nw.same rfl hv.symm (h1 X hX), fun X hX => va_Nw.same rfl hv.symm (h2 X hX), fun X hX Y hY hn => va_Nc.moved ha (h3 X hX Y hY hn), by rw [hk]; exact vx_Zq.moved ha h4, by rw [hk]; exact vx_Zq.moved ha h5, fun q hq => ?_⟩
  obtain ⟨a, ha⟩ := h6 q hq
  exact ⟨a, vk_R.same hv ha⟩
abbrev zNm : List String := ["java/lang/RuntimeException", "java/lang/Exception"]
/-- throws E, changes nothing -/
abbrev zXc (E : String) : String → State → State → Prop := vx_X (fun (_ : Unit) => True) (fun E2 _ _ => E2 = E) (fun _ => False)
abbrev zNi : Array Value → State → Outcome → State → Prop := va_Qi (fun _ (_ : Unit) => False) (fun _ _ => True) (fun _ => False)
abbrev zNv : Array Value → State → Outcome → State → Prop := va_Qv (fun (_ : Unit) => False) (fun _ _ => True) (fun _ => False)
theorem zhat {ic : Nat} {X : String} {args : Array Value} {s : State} (hX : X ∈ [nISE, nIAE, nIOB, nNSE]) (h1 : ∀ w ∈ (vx_atS RX0 ic X zNm).filter goodWord, w.before args s = true) (h2 : ∀ w ∈ (vx_atS RX0 ic X zNm).filter (fun w => !goodWord w), w ∈ [Cond.declares (Bundle.initS "java/lang/RuntimeException"), .declares (Bundle.initS "java/lang/Exception"), .declares (Bundle.initS Bundle.tN), .castable X X]) (hT : zTh s) : ∀ w ∈ vx_atS RX0 ic X zNm, w.before args s = true :=
  vx_hat h1 h2 (vx_c (va_Nw.use rfl (hT.1 _ (by simp))) (vx_c (va_Nw.use rfl (hT.1 _ (by simp))) (vx_c (va_Nw.use rfl (hT.1 _ (by simp))) (vx_c (va_Nw.use rfl (hT.2.1 X hX)) vx_n))))
section ZX
variable {p : Program} {l : Launch} {e : Env} {R : Room} {s : State} {m : MethodId} {args : Array Value} {below : List Frame} {meth : Method} {c : Code} {H : Heap} {locs : List Loc} {cells slots : Nat} {Q : State → Prop}
variable {cc : ByteArray} {pc : Nat} {ls : Array Slot} {rest st0 : List Value} {y : MethodName} {bytes : ByteArray} {maxL nL n index : Nat} {ret : Option FieldType} {ws Ts : List Cond} {rm : Room} {own C : String} {As : List Value} {lv : List (Nat × Value)} {Qc : Array Value → State → Outcome → State → Prop}
theorem zXk {E : String} {t : State} (hS : va_S (fun _ => False) s.heap H locs) (hz : H.size ≤ t.heap.size) (hk : ∀ q : Nat, q < H.size → t.heap[q]? = H[q]?) : zXc E E s t :=
  ⟨(), trivial, rfl, Nat.le_trans hS.1 hz, fun q h1 h2 => (hk q (Nat.lt_of_lt_of_le h1 hS.1)).trans (hS.2.1 q h1 h2)⟩
/-- throw new X(text) -/
theorem zthrow {X text : String} {ik is ic : Nat} (hx : p.tables.exec = Jvm.exec) (hb : c.code = cc) (hfl : l.stackTraces = false) (hown : s.vm.findClass RX0 = some m.cls) (hX : X ∈ [nISE, nIAE, nIOB, nNSE]) (hfit : Bundle.fit X = true) (hq : (is, text) ∈ zStr)
    (hk : (Cond.classLink RX0 ik X).before args s = true) (hini : (Cond.initialized X).before args s = true) (h1 : ∀ w ∈ (vx_atS RX0 ic X zNm).filter goodWord, w.before args s = true) (h2 : ∀ w ∈ (vx_atS RX0 ic X zNm).filter (fun w => !goodWord w), w ∈ [Cond.declares (Bundle.initS "java/lang/RuntimeException"), .declares (Bundle.initS "java/lang/Exception"), .declares (Bundle.initS Bundle.tN), .castable X X])
    (hgood : ∀ w ∈ Cond.classLink RX0 ik X :: Cond.initialized X :: vx_atS RX0 ic X zNm, vx_ot w = true) (hT : zTh s) (hS : va_S (fun _ => False) s.heap H locs) (hsize : ls.size = c.maxLocals)
    (d0 : decode cc pc = .ok (.new ik, 3)) (d3 : decode cc (pc + 3) = .ok (.dup, 1)) (d4 : decode cc (pc + 4) = .ok (.ldc is, 2)) (d6 : decode cc (pc + 6) = .ok (.invokespecial ic, 3)) (d9 : decode cc (pc + 9) = .ok (.athrow, 1))
    (hto : ∀ x ∈ c.exceptionTable.toList, False) (hRf : 6 ≤ R.frames) (hRl : (rest.map fun v => v.category).sum + 82 ≤ R.locals) (hRc : 0 + 1 ≤ R.cells) (hRs : 0 + 6 ≤ R.slots) (hlocks : meth.locks = false) :
    W p l e R s m args below meth c H locs 0 0 (vx_MQ below Qc (zXc X) args s 1 6 zNo) (F0 m pc ls rest) := by
  obtain ⟨a, ha⟩ := hT.2.2.2.2.2 (is, text) hq
  exact vx_throwS (names := zNm) hx hb hfl hown hfit (by decide +kernel) hk hini ha (zhat hX h1 h2 hT) hgood hT.2.2.2.1 hT.2.2.2.2.1 hS hsize d0 d3 d4 d6 d9 (fun x hx => (hto x hx).elim) hRf hRl hRc hRs hlocks (fun t _ hz hk => zXk hS hz hk) (fun z hz => hS.2.2 z hz) (Nat.le_refl _) (Nat.le_refl _)
/-- throw new NoSuchElementException(text) -/
theorem zthrowN {text : String} {is : Nat} (hx : p.tables.exec = Jvm.exec) (hb : c.code = cc) (hfl : l.stackTraces = false) (hown : s.vm.findClass RX0 = some m.cls) (hq : (is, text) ∈ zStr)
    (hk : (Cond.classLink RX0 95 nNSE).before args s = true) (hini : (Cond.initialized nNSE).before args s = true) (h1 : ∀ w ∈ zat99.filter goodWord, w.before args s = true) (h2 : ∀ w ∈ zat99.filter (fun w => !goodWord w), w ∈ [Cond.declares (Bundle.initS "java/lang/RuntimeException"), .declares (Bundle.initS "java/lang/Exception"), .declares (Bundle.initS Bundle.tN), .castable nNSE nNSE])
    (hgood : ∀ w ∈ Cond.classLink RX0 95 nNSE :: Cond.initialized nNSE :: zat99, vx_ot w = true) (hT : zTh s) (hS : va_S (fun _ => False) s.heap H locs) (hsize : ls.size = c.maxLocals)
    (d0 : decode cc pc = .ok (.new 95, 3)) (d3 : decode cc (pc + 3) = .ok (.dup, 1)) (d4 : decode cc (pc + 4) = .ok (.ldc is, 2)) (d6 : decode cc (pc + 6) = .ok (.invokespecial 99, 3)) (d9 : decode cc (pc + 9) = .ok (.athrow, 1))
    (hto : ∀ x ∈ c.exceptionTable.toList, False) (hRf : 6 ≤ R.frames) (hRl : (rest.map fun v => v.category).sum + 82 ≤ R.locals) (hRc : 0 + 1 ≤ R.cells) (hRs : 0 + 6 ≤ R.slots) (hlocks : meth.locks = false) :
    W p l e R s m args below meth c H locs 0 0 (vx_MQ below Qc (zXc nNSE) args s 1 6 zNo) (F0 m pc ls rest) := by
  obtain ⟨a, ha⟩ := hT.2.2.2.2.2 (is, text) hq
  have hat : ∀ w ∈ zat99, w.before args s = true := vx_hat h1 h2 (vx_c (va_Nw.use rfl (hT.1 _ (by simp))) (vx_c (va_Nw.use rfl (hT.1 _ (by simp))) (vx_c (va_Nw.use rfl (hT.1 _ (by simp))) (vx_c (va_Nw.use rfl (hT.2.1 nNSE (by simp))) vx_n))))
  exact zthrowX (names := zNm) hx hb hfl zrx_0 zrx_1 zrx_2 zrx_5 hown (by decide +kernel) (by decide +kernel) hk hini ha hat hgood hT.2.2.2.1 hT.2.2.2.2.1 hS hsize d0 d3 d4 d6 d9 (fun x hx => (hto x hx).elim) hRf hRl hRc hRs hlocks (fun t _ hz hk => zXk hS hz hk) (fun z hz => hS.2.2 z hz) (Nat.le_refl _) (Nat.le_refl _)
/-- what is thrown below goes on -/
theorem zxout {E E2 : String} {ce : Cell} {q9 : Addr} (hto : ∀ x ∈ c.exceptionTable.toList, False) (hlocks : meth.locks = false) (he : E2 = E) (hS : va_S (fun _ => False) s.heap H locs) (hce : H[q9]? = some ce) (hcv : ce.vm = .none) (hcl : s.vm.findClass E2 = some ce.cls) : vx_W p l e R s m args below meth c H locs 1 6 (vx_MQ below Qc (zXc E) args s 1 6 zNo) (F0 m pc ls rest) q9 := by
  subst he
  exact vx_out (fun x hx => (hto x hx).elim) hlocks hce hcv hcl (fun t ht _ => zXk hS (by rw [ht]; exact Nat.le_refl _) (fun q _ => by rw [ht])) (fun z hz => hS.2.2 z hz) (Nat.le_refl _) (Nat.le_refl _)
/-- a call by name of what throws -/
theorem zxV {E : String} {D : va_G} {w : va_W} {tys : List (ClassId × FieldType)} {b ci : Nat} {T : u_T} {N0 : Nat} {fs : List Value} (q0 : Nat) (cf : CallFix p m c cc nL s args Ts own) (hM : vx_Met l y ws rm (va_Pc (.ref b :: As) (fun U => zRd D w tys U ∧ zTh U)) zNv (zXc E) 1 6 zNo) (cw : CallW R s args own C index y bytes maxL ret ws rm 1 6 n) (hK : va_K D vwCl tys s) (hP : va_P D vwCl w H) (hT : zTh s) (he : w[q0]? = some (b, .inr (ci, fs))) (hc : vwCl[ci]? = some (C, T, N0)) (hn : As.length = n) (hl : lv_has ls nL lv) (hst : st0 = As.reverse ++ .ref b :: rest) (hrm : (rest.map fun v => v.category).sum ≤ 8) (hdg : decode cc pc = .ok (.invokevirtual index, 3)) (hf : 0 + 1 ≤ R.cells ∧ 0 + 6 ≤ R.slots) (hS : va_S (fun _ => False) s.heap H locs) (hto : ∀ x ∈ c.exceptionTable.toList, False) (hlocks : meth.locks = false) :
    W p l e R s m args below meth c H locs 0 0 (vx_MQ below Qc (zXc E) args s 1 6 zNo) (F0 m pc ls st0) := by
  subst hst
  exact vx_callv (vx_runV cf hM cw ⟨fun a U g mk q => ⟨q.1, ⟨q.2.1.1, va_K.moved (u := U) (U := U.calling g mk a) (Vm.Alike.refl U.vm) q.2.1.2⟩, q.2.2.same rfl rfl⟩, va_recv hK hP hc he, fun U hU hW => ⟨rfl, ⟨by rw [hU]; exact hP, va_K.moved hW.alike hK⟩, hT.move hW ⟨by rw [hU]; exact hS.1, fun q h => by rw [hU]; exact hS.2.1 q h (fun z => z)⟩⟩⟩ rfl hn hl.1 rfl (lv_room hrm) hdg hf) hS (fun _ _ h => h.elim) (fun _ h => h.elim) (fun _ _ h => h.elim)
    (fun E2 ce q9 u t H1 locs1 ht hvm hp hB hz hk hS1 hce hcv hcl => zxout hto hlocks hB hS1 hce hcv hcl) (fun u t H1 locs1 ht hvm hw hB hz hk hS1 => hw.elim)
end ZX
theorem zh2_134 : ∀ w ∈ (vx_atS RX0 134 nIAE zNm).filter (fun w => !goodWord w), w ∈ [Cond.declares (Bundle.initS "java/lang/RuntimeException"), .declares (Bundle.initS "java/lang/Exception"), .declares (Bundle.initS Bundle.tN), .castable nIAE nIAE] := by decide +kernel
theorem zh2_99 : ∀ w ∈ zat99.filter (fun w => !goodWord w), w ∈ [Cond.declares (Bundle.initS "java/lang/RuntimeException"), .declares (Bundle.initS "java/lang/Exception"), .declares (Bundle.initS Bundle.tN), .castable nNSE nNSE] := by decide +kernel
theorem zg_134 : ∀ w ∈ Cond.classLink RX0 130 nIAE :: Cond.initialized nIAE :: vx_atS RX0 134 nIAE zNm, vx_ot w = true := by decide +kernel
theorem zg_99 : ∀ w ∈ Cond.classLink RX0 95 nNSE :: Cond.initialized nNSE :: zat99, vx_ot w = true := by decide +kernel
