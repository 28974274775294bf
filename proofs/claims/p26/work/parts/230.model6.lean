/-- the rows of history hold these states, oldest first -/
def hisR (it : Nat → Int32) (ar : Nat → Nat → Int32) (H : List (Nat → Int32)) : Prop := H.length ≤ 6 ∧ it 4 = nI H.length ∧ ∀ j B, H[j]? = some B → ∀ k, k < 132 → ar 4 (132 * j + k) = B k
def pushH (H : List (Nat → Int32)) (B : Nat → Int32) : List (Nat → Int32) := (if H.length = 6 then H.drop 1 else H) ++ [B]
section M6
variable {σ : Hp} {m : Nat} {it : Nat → Int32} {ar : Nat → Nat → Int32} {n : Nat}
/-- a change's end: an answer that is no error brings what was kept into the history -/
def endH (r : Int32) (H : List (Nat → Int32)) (K : Nat → Int32) : List (Nat → Int32) := if 0 ≤ r then pushH H K else H
end M6
