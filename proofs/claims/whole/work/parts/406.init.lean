/-! the state that both objects start from -/
theorem mCs_eq (m : Nat) : mCs m (ar0 1) = (List.range 12).map (fun j => if j = 0 then .inr (.inr (9, mf m (fun _ => 0))) else .inl (msz j, ar0 j)) := rfl
theorem b_mh {s : Hp} {m : Nat} : bk s m (mCs m (ar0 1)) = mh (m + 12, s.2) m (fun _ => 0) ar0 := by
  rw [mCs_eq]
  unfold bk mh
  rw [List.length_map, List.length_range]
  congr 1
  funext q
  dsimp only
  by_cases c : m ≤ q ∧ q < m + 12
  · rw [if_pos c, List.getElem?_map, List.getElem?_range (by omega)]
    dsimp only [Option.map]
    by_cases e : q = m
    · rw [if_pos e, if_pos (by omega)]
    · rw [if_neg e, if_neg (by omega), if_pos (by omega)]
  · rw [if_neg c, if_neg (by omega), if_neg (by omega)]
theorem A0_WS : WS (ar0 1) 0 := ⟨⟨⟨by omega, rfl⟩, fun i hi => by omega, fun i j hi => by omega, by decide, by decide, by decide, by decide, by decide⟩, by omega⟩
theorem XI0 : XI ci0 cz0 (ar0 1) 0 [] (fun _ => none) (fun _ => 0) 0 := by
  refine ⟨⟨⟨⟨rfl, rfl, rfl, rfl⟩, fun i hi => ?_, fun i hi => by omega, fun i hi => by omega, fun i hi => by omega, fun i hi => by omega, fun i hi => by omega⟩, A0_WS⟩, ⟨⟨rfl, by omega⟩, fun i hi => by omega⟩, ⟨0, ⟨by omega, by simp⟩, ⟨rfl, rfl⟩, fun j B hj => by simp at hj⟩, fun i _ => bit_0 i⟩
  rfl
theorem MI0 : MI (fun _ => 0) ar0 (ar0 1) [] (fun _ => none) (fun _ => 0) 0 := ⟨rfl, ⟨by simp, rfl, fun j B hj => by simp at hj⟩, fun i _ => rfl, ⟨rfl, by omega⟩, fun i hi => by omega⟩
