/-! ===== a start with the script: the witness's, its script exchanged; the claim refuted by the Statement's own word ===== -/
def fx56 : Array Value := (script56.map Value.int).toArray
def fxAt : State := start1.aboutOf fx56
set_option maxRecDepth 16384 in
theorem fx_rest : ((Cond.code x code maxLocals ret :: tables_1).filter (fun c => !vx_ot c)).all (fun c => c.before start1.args0 fxAt) = true := by decide +kernel
theorem fx_words : ∀ c ∈ (Cond.code x code maxLocals ret :: tables_1), c.before start1.args0 fxAt = true := by
  intro c hc
  by_cases h : vx_ot c = true
  · exact vx_ot_at (s := start1.about) (State.WarmedH.refl _) rfl h (start1.words c hc)
  · exact List.all_eq_true.mp fx_rest c (List.mem_filter.mpr ⟨hc, by simp [h]⟩)
set_option maxRecDepth 16384 in
theorem fx_start : Jvm.D.AtStart classFile x code maxLocals ret World_1 tables_1 room_1 Calls_1 rest_1 Pre_1 launch0 start1.p0 start1.e0 fxAt ⟨0, 0⟩ start1.args0 Lib.HandBits.below0 :=
  ⟨lists_1, trivial, launch0.admits_env _ _ _, launch0.least_env, fairChoices_fair.cas, fairChoices_fair.clock, rfl, by decide +kernel, by decide +kernel,
    (Spec.applies_iff rfl).mpr ⟨rfl, rfl, rfl, by decide +kernel, by decide +kernel, by decide +kernel, launch0.hasRoom_least _ room_1 (by decide +kernel) (by decide +kernel) (by decide +kernel) (by decide +kernel) (by decide +kernel) (by decide +kernel), atoms_intro fx_words⟩,
    trivial, (show rest_1_c.before start1.args0 fxAt = true by decide +kernel), (show (Cond.and given_1 narrow_1).before start1.args0 fxAt = true by decide +kernel)⟩
set_option maxRecDepth 16384 in
theorem fx_ints : fxAt.IntsAt 0 script56 := ⟨{ cls := 15, slots := fx56, vm := .none }, rfl, rfl, ⟨(fun k h => nomatch h), _, rfl, _, rfl⟩, by decide⟩
set_option maxRecDepth 16384 in
theorem fx_room : fxAt.hasRoom start1.e0.platform rB = true := launch0.hasRoom_least _ rB (by decide +kernel) (by decide +kernel) (by decide +kernel) (by decide +kernel) (by decide +kernel) (by decide +kernel)
/-- THE CLAIM IS REFUTED, by the Statement's own word for it -/
theorem p28_refuted : RefutedClaimed_1_1 := lx_falls (l := launch0) rfl fx_start rfl fx_ints fx_room
/-- what is owed is false -/
theorem p28_not : ¬ (Claimed_1_1 ∧ Claimed_1_2) := lx_not (l := launch0) rfl fx_start rfl fx_ints fx_room
