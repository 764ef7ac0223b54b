/-! ===== core numbers of a network; an edge turned over ===== -/
theorem tJ_i {f g : Nat → Int32} {N : Nat} {k : Int} {V : Nat → Nat → Prop} (h : tI f N k g) (hV : ∀ a b, ¬ V a b) : tJ f N k g V g false := ⟨h, fun _ => ⟨fun _ _ => rfl, fun a b _ hab => absurd hab (hV a b)⟩, fun q => by cases q⟩
