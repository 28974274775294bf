section P4
variable {σ : Hp} {m : Nat} {p : Nat → Int32} {pl : Nat}
theorem oth.tr {a b c : Nat → Nat → Int32} (h : oth a b) (h2 : oth b c) : oth a c := fun j a b c d e => (h2 j a b c d e).trans (h j a b c d e)
variable {it : Nat → Int32} {ar : Nat → Nat → Int32} {n : Nat} {A : Nat → Int32} {H : List (Nat → Int32)} {S : SLT}
theorem nI_n6 {k : Nat} (hk : k < 2147483648) : nI k ≠ -6 := by
  intro q
  rw [pu_eq, nI_toInt (by omega)] at q
  have e : (-6 : Int32).toInt = -6 := rfl
  omega
end P4
