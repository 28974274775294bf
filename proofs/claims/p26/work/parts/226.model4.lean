def scr (ar ar' : Nat → Nat → Int32) : Prop := ∀ j, j ≠ 7 → j ≠ 8 → j ≠ 9 → j ≠ 10 → ar' j = ar j
theorem scr.rf {ar : Nat → Nat → Int32} : scr ar ar := fun _ _ _ _ _ => rfl
theorem scr.trans {a b c : Nat → Nat → Int32} (h : scr a b) (g : scr b c) : scr a c := fun j h7 h8 h9 h10 => (g j h7 h8 h9 h10).trans (h j h7 h8 h9 h10)
