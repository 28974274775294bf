def bk (s : Hp) (a : Nat) (cs : List HC) : Hp := (a + cs.length, fun q => if a ≤ q ∧ q < a + cs.length then cs[q - a]? else s.2 q)
section BK
variable {s : Hp} {a : Nat} {cs : List HC}
theorem bk_nil (h : s.1 = a) : bk s a [] = s := by
  unfold bk
  subst h
  obtain ⟨n, f⟩ := s
  congr 1
  funext q
  dsimp only
  rw [if_neg (by rw [List.length_nil]; omega)]
theorem bk_add (c : HC) : addC (bk s a cs) c = bk s a (cs ++ [c]) := by
  unfold addC bk
  rw [List.length_append]
  congr 1
  funext q
  dsimp only
  by_cases e : q = a + cs.length
  · rw [if_pos e, if_pos (by simp; omega), e, show a + cs.length - a = cs.length by omega, List.getElem?_append_right (Nat.le_refl _)]
    simp
  · rw [if_neg e]
    by_cases e2 : a ≤ q ∧ q < a + cs.length
    · rw [if_pos e2, if_pos (by simp; omega), List.getElem?_append_left (by omega)]
    · rw [if_neg e2, if_neg (by simp; omega)]
theorem bk_at {j : Nat} (hj : j < cs.length) : (bk s a cs).2 (a + j) = cs[j]? := by
  unfold bk
  dsimp only
  rw [if_pos (by omega), show a + j - a = j by omega]
theorem bk_set {j : Nat} (hj : j < cs.length) (c : HC) : setC (bk s a cs) (a + j) c = bk s a (cs.set j c) := by
  unfold setC bk
  rw [List.length_set]
  congr 1
  funext q
  dsimp only
  by_cases e : q = a + j
  · rw [if_pos e, if_pos (by omega), e, show a + j - a = j by omega, List.getElem?_set_self hj]
  · rw [if_neg e]
    by_cases e2 : a ≤ q ∧ q < a + cs.length
    · rw [if_pos e2, if_pos e2, List.getElem?_set_ne (by omega)]
    · rw [if_neg e2, if_neg e2]
theorem bk_blk {ds : List HC} : bk (bk s a cs) (a + cs.length) ds = bk s a (cs ++ ds) := by
  unfold bk
  rw [List.length_append]
  congr 1
  · omega
  · funext q
    dsimp only
    by_cases e : a + cs.length ≤ q ∧ q < a + cs.length + ds.length
    · rw [if_pos e, if_pos (by omega), List.getElem?_append_right (by omega)]
      congr 1
      omega
    · rw [if_neg e]
      by_cases e2 : a ≤ q ∧ q < a + cs.length
      · rw [if_pos e2, if_pos (by omega), List.getElem?_append_left (by omega)]
      · rw [if_neg e2, if_neg (by omega)]
theorem b_isO {j c : Nat} {fs : List Value} (hj : cs[j]? = some (.inr (.inr (c, fs)))) : isO (bk s a cs) (a + j) c = some () := by
  have hl : j < cs.length := by
    rcases Nat.lt_or_ge j cs.length with q | q
    · exact q
    · rw [List.getElem?_eq_none q] at hj; cases hj
  unfold isO
  rw [bk_at hl, hj]
  dsimp only
  rw [if_pos rfl]
theorem b_putV {j c k : Nat} {fs : List Value} (hj : cs[j]? = some (.inr (.inr (c, fs)))) (hk : k < fs.length) (v : Value) : putV (bk s a cs) (a + j) c k v = some (bk s a (cs.set j (.inr (.inr (c, fs.set k v))))) := by
  have hl : j < cs.length := by
    rcases Nat.lt_or_ge j cs.length with q | q
    · exact q
    · rw [List.getElem?_eq_none q] at hj; cases hj
  unfold putV
  rw [bk_at hl, hj]
  dsimp only
  rw [if_pos ⟨rfl, hk⟩, bk_set hl]
theorem b_getR {j c k : Nat} {fs : List Value} {r : Nat} (hj : cs[j]? = some (.inr (.inr (c, fs)))) (hk : fs[k]? = some (.ref r)) : getR (bk s a cs) (a + j) c k = some r := by
  have hl : j < cs.length := by
    rcases Nat.lt_or_ge j cs.length with q | q
    · exact q
    · rw [List.getElem?_eq_none q] at hj; cases hj
  unfold getR getV
  rw [bk_at hl, hj]
  dsimp only
  rw [if_pos rfl, hk]
/-- a Cells of k ints -/
theorem b_cells {k : Nat} (hk : k ≤ 800) : D_X1_init (a + cs.length) (nI k) (newO (bk s a cs) 1 [.null]) = some (bk s a (cs ++ [.inr (.inr (1, [.ref (a + cs.length + 1)])), .inl (k, fun _ => 0)])) := by
  unfold newO
  rw [bk_add]
  have h1 : (cs ++ [.inr (.inr (1, [Value.null]))] : List HC)[cs.length]? = some (.inr (.inr (1, [Value.null]))) := by
    rw [List.getElem?_append_right (Nat.le_refl _)]; simp
  unfold D_X1_init
  have e : (if nI k < (0 : Int32) then (0 : Int32) else nI k) = nI k := if_neg (nI_pos (by omega))
  rw [b_isO h1, Option.bind_some, nm_eq, e]
  unfold newI
  rw [nI_toInt (by omega), if_pos (by omega), Option.bind_some, bk_add, nI_tn (by omega), List.append_assoc]
  have h2 : (cs ++ ([.inr (.inr (1, [Value.null]))] ++ [.inl (k, fun _ => 0)]) : List HC)[cs.length]? = some (.inr (.inr (1, [Value.null]))) := by
    rw [List.getElem?_append_right (Nat.le_refl _)]; simp
  have e1 : (bk s a (cs ++ [.inr (.inr (1, [Value.null]))])).1 = a + cs.length + 1 := by
    unfold bk
    dsimp only
    rw [List.length_append]
    rfl
  rw [b_putV h2 (by simp), Option.bind_some, e1, List.set_append_right _ _ (Nat.le_refl _)]
  simp
end BK
