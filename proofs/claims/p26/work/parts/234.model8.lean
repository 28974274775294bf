section M8
variable {σ : Hp} {m : Nat} {it : Nat → Int32} {ar : Nat → Nat → Int32} {n : Nat} {A : Nat → Int32} {H : List (Nat → Int32)} {S : SLT} {p : Nat → Int32} {pl : Nat}
theorem maskF_congr {f g : Nat → Bool} : ∀ k, (∀ i, i < k → f i = g i) → maskF f k = maskF g k
  | 0, _ => rfl
  | k + 1, h => by rw [maskF, maskF, maskF_congr k (fun i hi => h i (by omega)), h k (by omega)]
end M8
