/-! ===== calls that write; what the model's loops do ===== -/
/-- what a method wants that writes the cells w -/
abbrev zWr (D : va_G) (w : va_W) (tys : List (ClassId × FieldType)) (sz : Nat) : State → Prop := fun U => U.heap.size = sz ∧ va_P D vwCl w U.heap ∧ va_K D vwCl tys U ∧ va_D (fun _ => True) w
section ZW
variable {p : Program} {l : Launch} {e : Env} {R : Room} {s : State} {m : MethodId} {args : Array Value} {below : List Frame} {meth : Method} {c : Code} {H : Heap} {locs : List Loc} {cells slots : Nat} {Q : State → Prop}
variable {cc : ByteArray} {pc : Nat} {ls : Array Slot} {rest st0 : List Value} {y : MethodName} {bytes : ByteArray} {maxL nL n index mc ms : Nat} {ret : Option FieldType} {ws Ts : List Cond} {rm : Room} {own C : String} {As : List Value} {A0 : Nat → Prop} {H0 : Heap} {lv : List (Nat × Value)}
theorem zwPre {D : va_G} {w : va_W} {tys : List (ClassId × FieldType)} {b ci : Nat} {T : u_T} {N0 : Nat} {fs : List Value} {q0 : Nat} (hK : va_K D vwCl tys s) (hP : va_P D vwCl w H) (hD : va_D A0 w) (he : w[q0]? = some (b, .inr (ci, fs))) (hc : vwCl[ci]? = some (C, T, N0)) : PreV s H C b (va_Pc (.ref b :: As) (zWr D w tys H.size)) As :=
  ⟨fun a U g mk q => ⟨q.1, q.2.1, q.2.2.1, va_K.moved (u := U) (U := U.calling g mk a) (Vm.Alike.refl U.vm) q.2.2.2.1, q.2.2.2.2⟩, va_recv hK hP hc he, fun U hU hW => ⟨rfl, by rw [hU], by rw [hU]; exact hP, va_K.moved hW.alike hK, hD.weaken (fun _ _ _ _ => trivial)⟩⟩
/-- a call by name that answers an int and writes the cells w -/
theorem zwVi {SU : Type} {post : Int32 → SU → Prop} {w1 : SU → va_W} {D : va_G} {w : va_W} {tys : List (ClassId × FieldType)} {b ci : Nat} {T : u_T} {N0 : Nat} {fs : List Value} (q0 : Nat) (is : List Nat) (his : is.map (fun i => w[i]?) = w.map some) (cf : CallFix p m c cc nL s args Ts own) (hM : Met l y ws rm (va_Pc (.ref b :: As) (zWr D w tys H.size)) (va_Qi post (fun u t => va_P D vwCl (w1 u) t.heap) (va_A w H.size)) mc ms (va_A w H.size)) (cw : CallW R s args own C index y bytes maxL ret ws rm mc ms n) (hK : va_K D vwCl tys s) (hP : va_P D vwCl w H) (hD : va_D A0 w) (hA : ∀ q, H0.size ≤ q → A0 q) (he : w[q0]? = some (b, .inr (ci, fs))) (hc : vwCl[ci]? = some (C, T, N0)) (hn : As.length = n) (hl : lv_has ls nL lv) (hst : st0 = As.reverse ++ .ref b :: rest) (hrm : (rest.map fun v => v.category).sum ≤ 8) (hdg : decode cc pc = .ok (.invokevirtual index, 3)) (hf : cells + mc ≤ R.cells ∧ slots + ms ≤ R.slots) (hS : va_S A0 H0 H locs)
    (kk : ∀ (r : Int32) (u : SU) (H1 : Heap) (locs1 : List Loc), post r u → va_P D vwCl (w1 u) H1 → va_S A0 H0 H1 locs1 → W p l e R s m args below meth c H1 locs1 (cells + mc) (slots + ms) Q (F0 m (pc + 3) ls (.int r :: rest))) : W p l e R s m args below meth c H locs cells slots Q (F0 m pc ls st0) := by
  subst hst
  have hF := va_free (wc := w) hD hS hA is his
  exact va_calli (va_runV cf hM cw (zwPre hK hP hD he hc) rfl hn hl.1 rfl (lv_room hrm) hdg hf) hS (fun q _ h => hF q h) hF (fun r u t H1 locs1 ht hvm hw hB hz hk hS1 => kk r u H1 locs1 hw (ht ▸ hB) hS1)
/-- .. that answers nothing -/
theorem zwVv {SU : Type} {post : SU → Prop} {w1 : SU → va_W} {D : va_G} {w : va_W} {tys : List (ClassId × FieldType)} {b ci : Nat} {T : u_T} {N0 : Nat} {fs : List Value} (q0 : Nat) (is : List Nat) (his : is.map (fun i => w[i]?) = w.map some) (cf : CallFix p m c cc nL s args Ts own) (hM : Met l y ws rm (va_Pc (.ref b :: As) (zWr D w tys H.size)) (va_Qv post (fun u t => va_P D vwCl (w1 u) t.heap) (va_A w H.size)) mc ms (va_A w H.size)) (cw : CallW R s args own C index y bytes maxL ret ws rm mc ms n) (hK : va_K D vwCl tys s) (hP : va_P D vwCl w H) (hD : va_D A0 w) (hA : ∀ q, H0.size ≤ q → A0 q) (he : w[q0]? = some (b, .inr (ci, fs))) (hc : vwCl[ci]? = some (C, T, N0)) (hn : As.length = n) (hl : lv_has ls nL lv) (hst : st0 = As.reverse ++ .ref b :: rest) (hrm : (rest.map fun v => v.category).sum ≤ 8) (hdg : decode cc pc = .ok (.invokevirtual index, 3)) (hf : cells + mc ≤ R.cells ∧ slots + ms ≤ R.slots) (hS : va_S A0 H0 H locs)
    (kk : ∀ (u : SU) (H1 : Heap) (locs1 : List Loc), post u → va_P D vwCl (w1 u) H1 → va_S A0 H0 H1 locs1 → W p l e R s m args below meth c H1 locs1 (cells + mc) (slots + ms) Q (F0 m (pc + 3) ls rest)) : W p l e R s m args below meth c H locs cells slots Q (F0 m pc ls st0) := by
  subst hst
  have hF := va_free (wc := w) hD hS hA is his
  exact va_callv (va_runV cf hM cw (zwPre hK hP hD he hc) rfl hn hl.1 rfl (lv_room hrm) hdg hf) hS (fun q _ h => hF q h) hF (fun u t H1 locs1 ht hvm hw hB hz hk hS1 => kk u H1 locs1 hw (ht ▸ hB) hS1)
/-- a call by name that reads the cells w and answers nothing -/
theorem zrVv {post : Prop} {D : va_G} {w : va_W} {tys : List (ClassId × FieldType)} {b ci : Nat} {T : u_T} {N0 : Nat} {fs : List Value} (q0 : Nat) (cf : CallFix p m c cc nL s args Ts own) (hM : Met l y ws rm (va_Pc (.ref b :: As) (zRd D w tys)) (va_Qv (fun (_ : Unit) => post) (fun _ _ => True) (fun _ => False)) 0 0 zNo) (cw : CallW R s args own C index y bytes maxL ret ws rm 0 0 n) (hK : va_K D vwCl tys s) (hP : va_P D vwCl w H) (he : w[q0]? = some (b, .inr (ci, fs))) (hc : vwCl[ci]? = some (C, T, N0)) (hn : As.length = n) (hl : lv_has ls nL lv) (hst : st0 = As.reverse ++ .ref b :: rest) (hrm : (rest.map fun v => v.category).sum ≤ 8) (hdg : decode cc pc = .ok (.invokevirtual index, 3)) (hf : cells + 0 ≤ R.cells ∧ slots + 0 ≤ R.slots) (hS : va_S A0 H0 H locs)
    (kk : ∀ (H1 : Heap) (locs1 : List Loc), post → zKp H H1 → va_S A0 H0 H1 locs1 → W p l e R s m args below meth c H1 locs1 cells slots Q (F0 m (pc + 3) ls rest)) : W p l e R s m args below meth c H locs cells slots Q (F0 m pc ls st0) := by
  subst hst
  exact va_callv (va_runV cf hM cw ⟨fun a U g mk q => ⟨q.1, q.2.1, va_K.moved (u := U) (U := U.calling g mk a) (Vm.Alike.refl U.vm) q.2.2⟩, va_recv hK hP hc he, fun U hU hW => ⟨rfl, by rw [hU]; exact hP, va_K.moved hW.alike hK⟩⟩ rfl hn hl.1 rfl (lv_room hrm) hdg hf) hS (fun _ _ h => h.elim) (fun _ h => h.elim) (fun u t H1 locs1 ht hvm hw hB hz hk hS1 => kk H1 locs1 hw ⟨hz, fun q h => hk q h (fun z => z)⟩ hS1)
/-- a static call that answers nothing -/
theorem zrS0v {post : Prop} (cf : CallFix p m c cc nL s args Ts own) (hM : Met l y ws rm (va_Pc As (fun _ => True)) (va_Qv (fun (_ : Unit) => post) (fun _ _ => True) (fun _ => False)) 0 0 zNo) (cw : CallB R s args own index y bytes maxL ret ws rm 0 0 n ∧ (Cond.static y).before args s = true) (hn : As.length = n) (hl : lv_has ls nL lv) (hst : st0 = As.reverse ++ rest) (hrm : (rest.map fun v => v.category).sum ≤ 8) (hdg : decode cc pc = .ok (.invokestatic index, 3)) (hf : cells + 0 ≤ R.cells ∧ slots + 0 ≤ R.slots) (hS : va_S A0 H0 H locs)
    (kk : ∀ (H1 : Heap) (locs1 : List Loc), post → zKp H H1 → va_S A0 H0 H1 locs1 → W p l e R s m args below meth c H1 locs1 cells slots Q (F0 m (pc + 3) ls rest)) : W p l e R s m args below meth c H locs cells slots Q (F0 m pc ls st0) := by
  subst hst
  exact va_callv (va_runS cf hM cw ⟨fun a U g mk q => q, fun U hU hW => ⟨rfl, trivial⟩⟩ rfl hn hl.1 rfl (lv_room hrm) hdg hf) hS (fun _ _ h => h.elim) (fun _ h => h.elim) (fun u t H1 locs1 ht hvm hw hB hz hk hS1 => kk H1 locs1 hw ⟨hz, fun q h => hk q h (fun z => z)⟩ hS1)
theorem z_ifb_true (hexec : p.tables.exec = Jvm.exec) (hb : c.code = cc) {off : Int} {tgt : Nat} (hdg : decode cc pc = .ok (.ifCond .eq off, 3)) (ht : (pc : Int) + off = (tgt : Int))
    (kf : W p l e R s m args below meth c H locs cells slots Q (F0 m (pc + 3) ls rest)) : W p l e R s m args below meth c H locs cells slots Q (F0 m pc ls (.int (zb true) :: rest)) := z_ifb_eq hexec hb hdg ht (fun h => by cases h) (fun _ => kf)
theorem z_ifb_false (hexec : p.tables.exec = Jvm.exec) (hb : c.code = cc) {off : Int} {tgt : Nat} (hdg : decode cc pc = .ok (.ifCond .eq off, 3)) (ht : (pc : Int) + off = (tgt : Int))
    (kt : W p l e R s m args below meth c H locs cells slots Q (F0 m tgt ls rest)) : W p l e R s m args below meth c H locs cells slots Q (F0 m pc ls (.int (zb false) :: rest)) := z_ifb_eq hexec hb hdg ht (fun _ => kt) (fun h => by cases h)
theorem z_ifb_true_ne (hexec : p.tables.exec = Jvm.exec) (hb : c.code = cc) {off : Int} {tgt : Nat} (hdg : decode cc pc = .ok (.ifCond .ne off, 3)) (ht : (pc : Int) + off = (tgt : Int))
    (kt : W p l e R s m args below meth c H locs cells slots Q (F0 m tgt ls rest)) : W p l e R s m args below meth c H locs cells slots Q (F0 m pc ls (.int (zb true) :: rest)) := z_ifb_ne hexec hb hdg ht (fun _ => kt) (fun h => by cases h)
theorem z_ifb_false_ne (hexec : p.tables.exec = Jvm.exec) (hb : c.code = cc) {off : Int} {tgt : Nat} (hdg : decode cc pc = .ok (.ifCond .ne off, 3)) (ht : (pc : Int) + off = (tgt : Int))
    (kf : W p l e R s m args below meth c H locs cells slots Q (F0 m (pc + 3) ls rest)) : W p l e R s m args below meth c H locs cells slots Q (F0 m pc ls (.int (zb false) :: rest)) := z_ifb_ne hexec hb hdg ht (fun h => by cases h) (fun _ => kf)
end ZW
/-! ===== nodes; single bits ===== -/
def isNb (p : Int32) (N : Nat) : Bool := decide (¬ p < 0) && decide (p < nI N)
theorem isNb_n {u N : Nat} (hu : u < 2 ^ 31) (hN : N < 2 ^ 31) : isNb (nI u) N = decide (u < N) := by
  unfold isNb
  rw [decide_eq_true (nI_pos hu), Bool.true_and]
  exact decide_eq_decide.mpr (nI_ltI hu hN)
theorem isNb_y {u N : Nat} (hu : u < N) (hN : N ≤ 20) : isNb (nI u) N = true := by rw [isNb_n (by omega) (by omega), decide_eq_true hu]
theorem isNb_of {p : Int32} {N : Nat} (hN : N ≤ 20) (h : isNb p N = true) : ∃ u, u < N ∧ p = nI u := by
  unfold isNb at h
  rw [Bool.and_eq_true, decide_eq_true_iff, decide_eq_true_iff] at h
  rcases pk_ix p (n := N) (by omega) with q | q | q
  · exact absurd q h.1
  · exact absurd h.2 (Int32.not_lt.mpr q)
  · exact q
theorem isNb_neg {p : Int32} {N : Nat} (h : p < 0) : isNb p N = false := by unfold isNb; rw [decide_eq_false (fun q => q h)]; rfl
theorem isNb_ge {p : Int32} {N : Nat} (h : nI N ≤ p) : isNb p N = false := by unfold isNb; rw [decide_eq_false (Int32.not_lt.mpr h), Bool.and_false]
theorem isNb_in {p : Int32} {N : Nat} (h : ¬ p < 0) (h2 : ¬ nI N ≤ p) : isNb p N = true := by unfold isNb; rw [decide_eq_true h, decide_eq_true (Int32.not_le.mp h2)]; rfl
theorem b_one0 : ∀ i, i < 32 → bt (nI 1) i = decide (i = 0) := by decide +kernel
theorem hbit (x : Int32) {j : Nat} (hj : j < 32) : (x >>> (nI j &&& 31)) &&& nI 1 = zb (bt x j) := b_ext fun i hi => by
  rw [b_and, b_sshr j hj x hi, b_one0 i hi]
  by_cases e : i = 0
  · subst e
    rw [if_pos (by omega)]
    cases bt x j <;> rfl
  · rw [decide_eq_false e, Bool.and_false]
    cases bt x j
    · exact (b_0 i).symm
    · have := b_one0 i hi
      rw [decide_eq_false e] at this
      exact this.symm
theorem zb_n (b : Bool) : zb b = nI (if b = true then 1 else 0) := by cases b <;> rfl
theorem pop20 {x : Int32} (h : zsub x 20) : zpop x = fb_ct (bt x) 20 := by
  unfold zpop
  rw [show (32 : Nat) = 20 + 12 from rfl, fb_ct_split]
  have e : fb_ct (fun k => bt x (20 + k)) 12 = 0 := fb_ct_zero.mpr (fun k _ => by
    cases q : bt x (20 + k)
    · rfl
    · exact absurd (h _ q) (by omega))
  rw [e, Nat.add_zero]
theorem zsub20 {x : Int32} {N : Nat} (hN : N ≤ 20) (h : zsub x N) : zsub x 20 := fun i q => Nat.lt_of_lt_of_le (h i q) hN
theorem gd_sub {f : Nat → Int32} {N u : Nat} (hg : gd f N) (hu : u < N) : zsub (f u) N := fun i q => (hg.2.1 u i hu q).1
theorem gd_20 {f : Nat → Int32} {N u : Nat} (hg : gd f N) (hu : u < N) (x : Int32) : zsub (f u &&& x) 20 := zsub20 hg.1 (sub_le (le_andl _ _) (gd_sub hg hu))
theorem or_0 (x : Int32) : x ||| 0 = x := set_ext fun i => by rw [b_ort, b_0]; simp
theorem and_c (x y : Int32) : x &&& y = y &&& x := set_ext fun i => by rw [b_andt, b_andt]; exact ⟨fun h => ⟨h.2, h.1⟩, fun h => ⟨h.2, h.1⟩⟩
theorem kco_of {f : Nat → Int32} {N : Nat} {c : Nat → Nat} {k : Int} {x : Int32} {t : Nat} (hN : N ≤ 20) (hc : ∀ v, v < N → cno f N v (c v)) (h : sO f (zal N) 0 k x false t) : x = cst c N k := by
  have hs := sO_end h
  refine le_anti (cst_max hN hc (sub_le hs.1 (sub_al hN)) fun u hu => ?_) (hs.2.2 _ (le_al hN (cst_sub hN k)) fun u hu => ?_)
  · have := hs.2.1 u hu; rw [or_0] at this; exact this
  · rw [or_0]; exact cst_kst hN hc k u hu
/-- v is the lowest of the set -/
def low (x : Int32) (v : Nat) : Bool := bt x v && decide (x &&& zal v = 0)
theorem zb_ne {b : Bool} (h : ¬ zb b = nI 1) : b = false := by cases b; rfl; exact absurd rfl h
theorem zb_eq {b : Bool} (h : zb b = nI 1) : b = true := by cases b; cases h; rfl
