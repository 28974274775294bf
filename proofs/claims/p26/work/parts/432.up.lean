/-! the law's small tools -/
theorem and_nn (a : Int32) : 0 ≤ (a &&& (2147483647 : Int32)).toInt := by
  have hm : ((a &&& (2147483647 : Int32)).toBitVec).msb = false := by
    rw [Int32.toBitVec_and, BitVec.msb_and, show (2147483647 : Int32).toBitVec.msb = false from rfl, Bool.and_false]
  show 0 ≤ (a &&& (2147483647 : Int32)).toBitVec.toInt
  rw [BitVec.toInt_eq_toNat_of_msb hm]
  omega
theorem remI_nn {a b : Int32} (ha : 0 ≤ a.toInt) (hb : 0 < b.toInt) : ∃ r : Int32, remI a b = some r ∧ r.toInt = a.toInt % b.toInt := by
  have hA : a.toInt < 2147483648 := by have := Int32.toInt_lt a; omega
  have z0 : (0 : Int32).toInt = 0 := rfl
  have t1 : a.toInt.tdiv b.toInt = a.toInt / b.toInt := Int.tdiv_eq_ediv_of_nonneg ha
  have t2 : 0 ≤ a.toInt / b.toInt := Int.ediv_nonneg ha (by omega)
  have t3 : a.toInt / b.toInt ≤ a.toInt := Int.ediv_le_self _ ha
  have t4 : a.toInt / b.toInt * b.toInt + a.toInt % b.toInt = a.toInt := by rw [Int.mul_comm]; exact Int.mul_ediv_add_emod _ _
  have t5 : 0 ≤ a.toInt % b.toInt := Int.emod_nonneg _ (by omega)
  have t6 : 0 ≤ a.toInt / b.toInt * b.toInt := Int.mul_nonneg t2 (by omega)
  have e1 : (a / b).toInt = a.toInt / b.toInt := by rw [i_div (by rw [t1]; omega) (by rw [t1]; omega), t1]
  have e2 : (a / b * b).toInt = a.toInt / b.toInt * b.toInt := by rw [i_mul (by rw [e1]; omega) (by rw [e1]; omega), e1]
  refine ⟨a - a / b * b, ?_, ?_⟩
  · unfold remI
    rw [if_neg]
    intro q
    rw [q, z0] at hb
    omega
  · rw [i_sub (by rw [e2]; omega) (by rw [e2]; omega), e2]
    omega
theorem up_s {a b : Int32} (hb : 0 < b.toInt) (s : Hp) : ∃ r : Int32, D_L_up a b s = some (r, s) ∧ 0 ≤ r.toInt ∧ r.toInt < b.toInt := by
  obtain ⟨r, h1, h2⟩ := remI_nn (and_nn a) hb
  refine ⟨r, ?_, ?_, ?_⟩
  · unfold D_L_up
    rw [h1, Option.bind_some]
  · rw [h2]; exact Int.emod_nonneg _ (by omega)
  · rw [h2]; exact Int.emod_lt_of_pos _ hb
theorem up_n {a b : Int32} {n : Nat} (hb : b.toInt = (n : Int)) (hn : 0 < n) (s : Hp) : ∃ k : Nat, k < n ∧ D_L_up a b s = some (nI k, s) := by
  obtain ⟨r, h1, h2, h3⟩ := up_s (a := a) (b := b) (by omega) s
  have h4 : r.toInt < 2147483648 := by have := Int32.toInt_lt r; omega
  refine ⟨r.toInt.toNat, by omega, ?_⟩
  rw [h1]
  exact congrArg (fun z => some (z, s)) (i_nI (a := r) (n := r.toInt.toNat) (by omega) (by omega))
theorem cell_s {L : Nat} {xs : Nat → Int32} (hL : L ≤ 260) {k : Nat} (hk : k < 100) (s : Hp) : ∃ v, D_L_cell L xs (nI k) s = some (v, s) := by
  unfold D_L_cell
  have e : (Int32.ofNat L).toInt = (L : Int) := nI_toInt (n := L) (by omega)
  by_cases c : Int32.ofNat L ≤ nI k
  · rw [if_pos c]; exact ⟨_, rfl⟩
  · rw [if_neg c]
    rw [pu_le, e, nI_toInt (by omega)] at c
    unfold ldS
    rw [nI_toInt (by omega), if_pos (by omega), Option.bind_some]
    exact ⟨_, rfl⟩
theorem dm4 {k : Nat} (hk : k < 44) : divI (nI k) (4 : Int32) = some (nI (k / 4)) ∧ remI (nI k) (4 : Int32) = some (nI (k % 4)) := by
  have : ∀ j : Fin 44, divI (nI j.1) (4 : Int32) = some (nI (j.1 / 4)) ∧ remI (nI j.1) (4 : Int32) = some (nI (j.1 % 4)) := by decide
  exact this ⟨k, hk⟩
theorem rm9 {k : Nat} (hk : k < 44) : remI (nI k) (9 : Int32) = some (nI (k % 9)) := by
  have : ∀ j : Fin 44, remI (nI j.1) (9 : Int32) = some (nI (j.1 % 9)) := by decide
  exact this ⟨k, hk⟩
