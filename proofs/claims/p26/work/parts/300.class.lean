def kdT : List Nat := [18, 2, 1, 103, 1, 125, 1, 125, 1, 125, 1, 125, 1, 125, 4, 1, 500, 1, 375, 1, 125, 1, 125, 1, 104, 10, 2, 1, 103, 1, 125, 1, 125, 1, 125, 1, 125, 1, 125, 4, 1, 500, 1, 375, 1, 125, 1, 125, 1, 104, 15, 1, 180, 16, 1, 180, 1, 180, 1, 180, 1, 180, 13, 17, 27, 2, 1, 103, 1, 125, 1, 125, 1, 125, 1, 125, 1, 125, 2, 1, 103, 1, 125, 1, 125, 1, 125, 1, 125, 1, 125, 2, 1, 103, 1, 125, 1, 125, 1, 125, 1, 125, 1, 125, 2, 1, 103, 1, 125, 1, 125, 1, 125, 1, 125, 1, 125, 2, 1, 103, 1, 125, 1, 125, 1, 125, 1, 125, 1, 125, 2, 1, 103, 1, 125, 1, 125, 1, 125, 1, 125, 1, 125, 2, 1, 103, 1, 125, 1, 125, 1, 125, 1, 125, 1, 125, 17, 22, 2, 1, 103, 1, 125, 1, 125, 1, 125, 1, 125, 1, 125, 2, 1, 103, 1, 125, 1, 125, 1, 125, 1, 125, 1, 125]
def kd (j : Nat) : Nat := kdT.getD j 0
def xf (x : Nat) (z : Nat → Int32) (j k : Nat) : Nat × List Value :=
  if k = 1 then (1, [.ref (x + (j + 1))])
  else if k = 2 then (2, [.ref (x + (j + 1)), .ref (x + (j + 3)), .ref (x + (j + 5)), .ref (x + (j + 7)), .ref (x + (j + 9)), .ref (x + (j + 11)), .int (z 6), .int (z 7), .int (z 8), .int (z 9)])
  else if k = 4 then (4, [.ref (x + (j - 13)), .ref (x + (j + 1)), .ref (x + (j + 3)), .ref (x + (j + 5)), .ref (x + (j + 7)), .ref (x + (j + 9)), .int (z 6), .int (z 7)])
  else if k = 10 then (0, [.ref (x + 1), .ref (x + 26), .ref (x + 39), .int (z 3), .int (z 4)])
  else if k = 15 then (5, [.ref (x + 51), .int (z 1)])
  else if k = 16 then (6, [.ref (x + 50), .ref (x + 54), .ref (x + 56), .ref (x + 58), .ref (x + 60), .int (z 5), .int (z 6), .int (z 7)])
  else if k = 13 then (3, [.ref (x + 63), .int (z 1), .int (z 2)])
  else if k = 17 then (7, [.ref (x + (j + 1))])
  else (8, [.ref (x + 1), .ref (x + 14), .ref (x + 25), .ref (x + 50), .ref (x + 53), .ref (x + 62), .ref (x + 156), .int (z 7)])
def xcl (x : Nat) (ci cz : Nat → Nat → Int32) (j k : Nat) : HC := if 100 ≤ k then .inl (k - 100, ci j) else if k = 27 then .inr (.inl (7, fun i => if i < 7 then some (x + (65 + 13 * i)) else none)) else if k = 22 then .inr (.inl (2, fun i => if i < 2 then some (x + (158 + 13 * i)) else none)) else .inr (.inr (xf x (cz j) j k))
def xh (σ : Hp) (x : Nat) (ci cz : Nat → Nat → Int32) : Hp := (σ.1, fun q => if x ≤ q ∧ q < x + 184 then some (xcl x ci cz (q - x) (kd (q - x))) else σ.2 q)
theorem kd_lt {j : Nat} (h : 0 < kd j) : j < 184 := by
  rcases Nat.lt_or_ge j 184 with q | q
  · exact q
  · unfold kd at h
    rw [List.getD_eq_getElem?_getD, List.getElem?_eq_none (show kdT.length ≤ j from q)] at h
    exact absurd h (by simp)
section XH
variable {σ : Hp} {x : Nat} {ci cz : Nat → Nat → Int32}
theorem xh_at {j k : Nat} (h : kd j = k) (hk : 0 < k) : (xh σ x ci cz).2 (x + j) = some (xcl x ci cz j k) := by
  have hj := kd_lt (h ▸ hk : 0 < kd j)
  unfold xh
  dsimp only
  rw [if_pos (show x ≤ x + j ∧ x + j < x + 184 by omega), show x + j - x = j by omega, h]
theorem xh_row {j s : Nat} (h : kd j = 100 + s) : (xh σ x ci cz).2 (x + j) = some (.inl (s, ci j)) := by
  rw [xh_at h (by omega)]
  unfold xcl
  rw [if_pos (by omega), Nat.add_sub_cancel_left]
theorem xh_obj {j k : Nat} (h : kd j = k) (hk : 0 < k) (h1 : k < 22) : (xh σ x ci cz).2 (x + j) = some (.inr (.inr (xf x (cz j) j k))) := by
  rw [xh_at h hk]
  unfold xcl
  rw [if_neg (by omega), if_neg (by omega), if_neg (by omega)]
theorem xh_setA {j s : Nat} (h : kd j = 100 + s) (f : Nat → Int32) : setC (xh σ x ci cz) (x + j) (.inl (s, f)) = xh σ x (va_up ci j f) cz := by
  have hj := kd_lt (h ▸ (by omega) : 0 < kd j)
  unfold setC xh
  congr 1
  funext q
  by_cases c : q = x + j
  · subst c
    rw [if_pos rfl, if_pos (show x ≤ x + j ∧ x + j < x + 184 by omega), show x + j - x = j by omega, h]
    unfold xcl
    rw [if_pos (by omega), Nat.add_sub_cancel_left, up_eq]
  · rw [if_neg c]
    dsimp only
    by_cases c2 : x ≤ q ∧ q < x + 184
    · rw [if_pos c2, if_pos c2]
      have : xcl x ci cz (q - x) (kd (q - x)) = xcl x (va_up ci j f) cz (q - x) (kd (q - x)) := by
        unfold xcl
        rw [up_ne (by omega)]
      rw [this]
    · rw [if_neg c2, if_neg c2]
theorem xh_setO {j k : Nat} (h : kd j = k) (hk : 0 < k) (h1 : k < 22) (z : Nat → Int32) : setC (xh σ x ci cz) (x + j) (.inr (.inr (xf x z j k))) = xh σ x ci (va_up cz j z) := by
  have hj := kd_lt (h ▸ hk : 0 < kd j)
  unfold setC xh
  congr 1
  funext q
  by_cases c : q = x + j
  · subst c
    rw [if_pos rfl, if_pos (show x ≤ x + j ∧ x + j < x + 184 by omega), show x + j - x = j by omega, h]
    unfold xcl
    rw [if_neg (by omega), if_neg (by omega), if_neg (by omega), up_eq]
  · rw [if_neg c]
    dsimp only
    by_cases c2 : x ≤ q ∧ q < x + 184
    · rw [if_pos c2, if_pos c2]
      have : xcl x ci cz (q - x) (kd (q - x)) = xcl x ci (va_up cz j z) (q - x) (kd (q - x)) := by
        unfold xcl
        rw [up_ne (by omega)]
      rw [this]
    · rw [if_neg c2, if_neg c2]
end XH
