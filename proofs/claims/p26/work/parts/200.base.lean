theorem pu_lt (a b : Int32) : a < b ↔ a.toInt < b.toInt := Int32.lt_iff_toInt_lt
theorem pu_le (a b : Int32) : a ≤ b ↔ a.toInt ≤ b.toInt := Int32.le_iff_toInt_le
theorem pu_eq (a b : Int32) : a = b ↔ a.toInt = b.toInt := Int32.toInt_inj.symm
theorem bd_some {α β : Type} (a : α) (s : Hp) (f : α → Hp → Option β) : bd (some (a, s)) f = f a s := rfl
theorem nm_eq {α β : Type} (x : α) (f : α → β) : nm x f = f x := rfl
theorem retZ_0 {α : Type} (r : α) : retZ 0 r = some r := rfl
theorem retZ_1 {α : Type} (r : α) : retZ 1 r = some r := rfl
theorem mtO_some {α : Type} (a : Nat) (A : α) (B : Nat → α) : mtO (some a) A B = B a := rfl
