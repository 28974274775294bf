section M5
variable {σ : Hp} {m : Nat} {it : Nat → Int32} {ar : Nat → Nat → Int32} {n : Nat}
def oth (ar ar' : Nat → Nat → Int32) : Prop := ∀ j, j ≠ 1 → j ≠ 7 → j ≠ 8 → j ≠ 9 → j ≠ 10 → ar' j = ar j
end M5
