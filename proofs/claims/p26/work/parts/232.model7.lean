abbrev SLT : Type := Nat → Option (Nat → Int32)
def sloR (ar : Nat → Nat → Int32) (S : SLT) : Prop := ∀ i, i < 2 → match S i with
  | none => ar 6 i = 0
  | some B => ar 6 i = 1 ∧ ∀ k, k < 132 → ar 5 (132 * i + k) = B k
theorem hisR.of_eq {it it' : Nat → Int32} {ar ar' : Nat → Nat → Int32} {H : List (Nat → Int32)} (h : hisR it ar H) (e : it' 4 = it 4) (e4 : ar' 4 = ar 4) : hisR it' ar' H := ⟨h.1, e.trans h.2.1, fun j B hj k hk => by rw [e4]; exact h.2.2 j B hj k hk⟩
theorem sloR.of_eq {ar ar' : Nat → Nat → Int32} {S : SLT} (h : sloR ar S) (e5 : ar' 5 = ar 5) (e6 : ar' 6 = ar 6) : sloR ar' S := by
  intro i hi
  have := h i hi
  rw [e5, e6]
  exact this
