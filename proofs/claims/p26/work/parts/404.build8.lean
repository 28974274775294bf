section BZ
variable {s : Hp} {a x m : Nat} {cs : List HC}
theorem b_xh : bk s x (mC x) = xh (x + 184, s.2) x ci0 cz0 := by
  rw [mC_eq]
  unfold bk xh
  rw [List.length_map, List.length_range]
  congr 1
  funext q
  dsimp only
  by_cases c : x ≤ q ∧ q < x + 184
  · rw [if_pos c, if_pos c, List.getElem?_map, List.getElem?_range (by omega)]
    rfl
  · rw [if_neg c, if_neg c]
def ar0 (j : Nat) : Nat → Int32 := if j = 1 then upd (upd (upd (fun _ => 0) 0 400) 1 50) 2 2 else fun _ => 0
end BZ
