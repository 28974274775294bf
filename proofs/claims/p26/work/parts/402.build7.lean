def ci0 (j : Nat) : Nat → Int32 := if kd j = 103 then upd (upd (upd (fun _ => 0) 0 400) 1 50) 2 2 else fun _ => 0
def cz0 (j : Nat) : Nat → Int32 := if j = 25 then fun _ => -6 else fun _ => 0
theorem shR7 (x : Nat) : shR (x + 62 + 1) 7 = fun i => if i < 7 then some (x + (65 + 13 * i)) else none := by
  funext i
  unfold shR
  by_cases c : i < 7
  · rw [if_pos c, if_pos c]
    congr 1
    omega
  · rw [if_neg c, if_neg c]
theorem shR2 (x : Nat) : shR (x + 156) 2 = fun i => if i < 2 then some (x + (158 + 13 * i)) else none := by
  funext i
  unfold shR
  by_cases c : i < 2
  · rw [if_pos c, if_pos c]
    congr 1
    omega
  · rw [if_neg c, if_neg c]
set_option maxRecDepth 20000 in
set_option maxHeartbeats 2000000 in
theorem mC_eq (x : Nat) : mC x = (List.range 184).map (fun j => xcl x ci0 cz0 j (kd j)) := by
  unfold mC hC shC
  rw [shR7, shR2]
  rfl

