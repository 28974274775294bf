theorem i_add {a b : Int32} (h1 : -2147483648 ≤ a.toInt + b.toInt) (h2 : a.toInt + b.toInt < 2147483648) : (a + b).toInt = a.toInt + b.toInt := by
  rw [Int32.toInt_add, Int.bmod_eq_of_le (by omega) (by omega)]
theorem i_sub {a b : Int32} (h1 : -2147483648 ≤ a.toInt - b.toInt) (h2 : a.toInt - b.toInt < 2147483648) : (a - b).toInt = a.toInt - b.toInt := by
  rw [Int32.toInt_sub, Int.bmod_eq_of_le (by omega) (by omega)]
theorem i_mul {a b : Int32} (h1 : -2147483648 ≤ a.toInt * b.toInt) (h2 : a.toInt * b.toInt < 2147483648) : (a * b).toInt = a.toInt * b.toInt := by
  rw [Int32.toInt_mul, Int.bmod_eq_of_le (by omega) (by omega)]
theorem i_nI {a : Int32} {n : Nat} (h : a.toInt = (n : Int)) (hn : n < 2147483648) : a = nI n := by
  rw [pu_eq, nI_toInt (by omega)]; exact h
section P1
variable {σ : Hp} {m : Nat} {it : Nat → Int32} {ar : Nat → Nat → Int32} {p : Nat → Int32} {pl i : Nat}
def sm13 (it it' : Nat → Int32) : Prop := ∀ k, k ≠ 13 → k ≠ 14 → it' k = it k
theorem sm13.rfl : sm13 it it := fun _ _ _ => Eq.refl _
theorem sm13.trans {it' it2 : Nat → Int32} (h : sm13 it it') (h2 : sm13 it' it2) : sm13 it it2 := fun k a b => (h2 k a b).trans (h k a b)
end P1
