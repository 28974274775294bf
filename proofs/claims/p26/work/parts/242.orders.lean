section P2
variable {σ : Hp} {m : Nat} {it : Nat → Int32} {ar : Nat → Nat → Int32} {p : Nat → Int32} {pl i : Nat}
/-- what an order does to the row -/
def nO (A : Nat → Int32) : Nat := (A 6).toInt.toNat
theorem nO_eq {A : Nat → Int32} {n : Nat} (h : WS A n) : nO A = n := by
  unfold nO
  rw [h.1.1.2, nI_toInt (by have := h.2; omega)]
  omega
end P2
