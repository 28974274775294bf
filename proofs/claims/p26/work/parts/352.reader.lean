def z53 (cz cz' : Nat → Nat → Int32) : Prop := (∀ j, j ≠ 53 → cz' j = cz j) ∧ cz' 53 5 = cz 53 5
theorem z53.rfl {cz : Nat → Nat → Int32} : z53 cz cz := ⟨fun _ _ => Eq.refl _, Eq.refl _⟩
theorem z53.tr {a b c : Nat → Nat → Int32} (h : z53 a b) (h2 : z53 b c) : z53 a c := ⟨fun j hj => (h2.1 j hj).trans (h.1 j hj), h2.2.trans h.2⟩
