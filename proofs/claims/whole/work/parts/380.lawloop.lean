/-! the law's loop -/
theorem ldS_k {L : Nat} {xs : Nat → Int32} {i : Nat} (hi : i < L) (hL : L ≤ 2048) : ldS L xs (nI i) = some (xs i) := by
  unfold ldS
  rw [nI_toInt (by omega), nI_tn (by omega), if_pos (by omega)]
theorem law_loop {L : Nat} {xs : Nat → Int32} {x m : Nat} (hL : L ≤ 2048) (hm : x + 184 ≤ m) : ∀ (k i f : Nat) (s : Hp), L ≤ i + 4 * k → k < f → i ≤ 4000 → Inv x m s → ∃ s', D_L_law_w18 L xs x m (fun s175 => retZ (1 : Int32) ((1 : Int32), s175)) f (nI i) s = some (1, s') := by
  intro k
  have z4 : (4 : Int32).toInt = 4 := rfl
  have hc : ∀ i, i ≤ 4000 → (Int32.ofNat L - 4 < nI i ↔ L < i + 4) := by
    intro i hi
    have e : (Int32.ofNat L).toInt = (L : Int) := nI_toInt (n := L) (by omega)
    rw [pu_lt, i_sub (by rw [e, z4]; omega) (by rw [e, z4]; omega), e, z4, nI_toInt (by omega)]
    omega
  induction k with
  | zero =>
    intro i f s hi hf hi2 _
    obtain ⟨f, rfl⟩ : ∃ g, f = g + 1 := ⟨f - 1, by omega⟩
    refine ⟨s, ?_⟩
    unfold D_L_law_w18
    rw [if_pos ((hc i hi2).2 (by omega)), retZ_1]
  | succ k ih =>
    intro i f s hi hf hi2 h
    obtain ⟨f, rfl⟩ : ∃ g, f = g + 1 := ⟨f - 1, by omega⟩
    by_cases c : L < i + 4
    · refine ⟨s, ?_⟩
      unfold D_L_law_w18
      rw [if_pos ((hc i hi2).2 c), retZ_1]
    · have l0 : ldS L xs (nI i) = some (xs i) := ldS_k (by omega) hL
      have l1 : ldS L xs (nI i + 1) = some (xs (i + 1)) := by rw [nI_1]; exact ldS_k (by omega) hL
      have l2 : ldS L xs (nI i + 2) = some (xs (i + 2)) := by rw [show (2 : Int32) = nI 2 from rfl, nI_add]; exact ldS_k (by omega) hL
      have l3 : ldS L xs (nI i + 3) = some (xs (i + 3)) := by rw [show (3 : Int32) = nI 3 from rfl, nI_add]; exact ldS_k (by omega) hL
      have i4 : nI i + 4 = nI (i + 4) := by rw [show (4 : Int32) = nI 4 from rfl, nI_add]
      have go := fun s' => ih (i + 4) f s' (by omega) (by omega) (by omega)
      unfold D_L_law_w18
      rw [if_neg (fun q => c ((hc i hi2).1 q)), l0, Option.bind_some, nm_eq]
      by_cases c0 : xs i &&& 31 = 0
      · obtain ⟨v, s1, s2, g1, g2, g3⟩ := s_set hm h (xs (i + 1)) (xs (i + 2))
        obtain ⟨s3, g4⟩ := go s2 g3
        exact ⟨s3, by rw [if_pos c0, l1, Option.bind_some, l2, Option.bind_some, g1, bd_some, Option.bind_some, Option.bind_some, g2, bd_some, if_pos rfl, i4]; exact g4⟩
      rw [if_neg c0]
      by_cases c1 : xs i &&& 31 = 1
      · obtain ⟨v, s1, s2, g1, g2, g3⟩ := s_mirror hm h (xs (i + 1)) (xs (i + 2)) (xs (i + 3))
        obtain ⟨s3, g4⟩ := go s2 g3
        exact ⟨s3, by rw [if_pos c1, l1, Option.bind_some, l2, Option.bind_some, l3, Option.bind_some, g1, bd_some, Option.bind_some, Option.bind_some, Option.bind_some, g2, bd_some, if_pos rfl, i4]; exact g4⟩
      rw [if_neg c1]
      by_cases c2 : xs i &&& 31 = 2
      · obtain ⟨v, s1, s2, g1, g2, g3⟩ := s_take hm h (xs (i + 1))
        obtain ⟨s3, g4⟩ := go s2 g3
        exact ⟨s3, by rw [if_pos c2, l1, Option.bind_some, g1, bd_some, Option.bind_some, g2, bd_some, if_pos rfl, i4]; exact g4⟩
      rw [if_neg c2]
      by_cases c3 : xs i &&& 31 = 3
      · obtain ⟨v, s1, s2, g1, g2, g3⟩ := s_aim hm h (xs (i + 1)) (xs (i + 2))
        obtain ⟨s3, g4⟩ := go s2 g3
        exact ⟨s3, by rw [if_pos c3, l1, Option.bind_some, l2, Option.bind_some, g1, bd_some, Option.bind_some, Option.bind_some, g2, bd_some, if_pos rfl, i4]; exact g4⟩
      rw [if_neg c3]
      by_cases c4 : xs i &&& 31 = 4
      · obtain ⟨v, s1, s2, g1, g2, g3⟩ := s_wash hm h (xs (i + 1))
        obtain ⟨s3, g4⟩ := go s2 g3
        exact ⟨s3, by rw [if_pos c4, l1, Option.bind_some, g1, bd_some, Option.bind_some, g2, bd_some, if_pos rfl, i4]; exact g4⟩
      rw [if_neg c4]
      by_cases c5 : xs i &&& 31 = 5
      · obtain ⟨v, s1, s2, g1, g2, g3⟩ := s_wind hm h (xs (i + 1))
        obtain ⟨s3, g4⟩ := go s2 g3
        exact ⟨s3, by rw [if_pos c5, l1, Option.bind_some, g1, bd_some, Option.bind_some, g2, bd_some, if_pos rfl, i4]; exact g4⟩
      rw [if_neg c5]
      by_cases c6 : xs i &&& 31 = 6
      · obtain ⟨v, s1, s2, g1, g2, g3⟩ := s_pass hm h (xs (i + 1))
        obtain ⟨s3, g4⟩ := go s2 g3
        exact ⟨s3, by rw [if_pos c6, l1, Option.bind_some, g1, bd_some, Option.bind_some, g2, bd_some, if_pos rfl, i4]; exact g4⟩
      rw [if_neg c6]
      by_cases c7 : xs i &&& 31 = 7
      · obtain ⟨v, s1, s2, g1, g2, g3⟩ := s_of hm h (xs (i + 1)) (xs (i + 2))
        obtain ⟨s3, g4⟩ := go s2 g3
        exact ⟨s3, by rw [if_pos c7, l1, Option.bind_some, l2, Option.bind_some, g1, bd_some, Option.bind_some, Option.bind_some, g2, bd_some, if_pos rfl, i4]; exact g4⟩
      rw [if_neg c7]
      by_cases c8 : xs i &&& 31 = 8
      · obtain ⟨v, s1, s2, g1, g2, g3⟩ := s_at hm h (xs (i + 1)) (xs (i + 2)) (xs (i + 3))
        obtain ⟨s3, g4⟩ := go s2 g3
        exact ⟨s3, by rw [if_pos c8, l1, Option.bind_some, l2, Option.bind_some, l3, Option.bind_some, g1, bd_some, Option.bind_some, Option.bind_some, Option.bind_some, g2, bd_some, if_pos rfl, i4]; exact g4⟩
      rw [if_neg c8]
      by_cases c9 : xs i &&& 31 = 9
      · obtain ⟨v, s1, s2, g1, g2, g3⟩ := s_point hm h (xs (i + 1)) (xs (i + 2)) (xs (i + 3))
        obtain ⟨s3, g4⟩ := go s2 g3
        exact ⟨s3, by rw [if_pos c9, l1, Option.bind_some, l2, Option.bind_some, l3, Option.bind_some, g1, bd_some, Option.bind_some, Option.bind_some, Option.bind_some, g2, bd_some, if_pos rfl, i4]; exact g4⟩
      rw [if_neg c9]
      by_cases c10 : xs i &&& 31 = 10
      · obtain ⟨v, s1, s2, g1, g2, g3⟩ := s_count hm h (xs (i + 1))
        obtain ⟨s3, g4⟩ := go s2 g3
        exact ⟨s3, by rw [if_pos c10, l1, Option.bind_some, g1, bd_some, Option.bind_some, g2, bd_some, if_pos rfl, i4]; exact g4⟩
      rw [if_neg c10]
      by_cases c11 : xs i &&& 31 = 11
      · obtain ⟨v, s1, s2, g1, g2, g3⟩ := s_in hm h (xs (i + 1)) (xs (i + 2))
        obtain ⟨s3, g4⟩ := go s2 g3
        exact ⟨s3, by rw [if_pos c11, l1, Option.bind_some, l2, Option.bind_some, g1, bd_some, Option.bind_some, Option.bind_some, g2, bd_some, if_pos rfl, i4]; exact g4⟩
      rw [if_neg c11]
      by_cases c12 : xs i &&& 31 = 12
      · obtain ⟨v, s1, s2, g1, g2, g3⟩ := s_worth hm h (xs (i + 1))
        obtain ⟨s3, g4⟩ := go s2 g3
        exact ⟨s3, by rw [if_pos c12, l1, Option.bind_some, g1, bd_some, Option.bind_some, g2, bd_some, if_pos rfl, i4]; exact g4⟩
      rw [if_neg c12]
      by_cases c13 : xs i &&& 31 = 13
      · obtain ⟨v, s1, s2, g1, g2, g3⟩ := s_best hm h (xs (i + 1)) (xs (i + 2)) (xs (i + 3))
        obtain ⟨s3, g4⟩ := go s2 g3
        exact ⟨s3, by rw [if_pos c13, l1, Option.bind_some, l2, Option.bind_some, l3, Option.bind_some, g1, bd_some, Option.bind_some, Option.bind_some, Option.bind_some, g2, bd_some, if_pos rfl, i4]; exact g4⟩
      rw [if_neg c13]
      by_cases c14 : xs i &&& 31 = 14
      · obtain ⟨v, s1, s2, g1, g2, g3⟩ := s_toWash hm h
        obtain ⟨s3, g4⟩ := go s2 g3
        exact ⟨s3, by rw [if_pos c14, g1, bd_some, g2, bd_some, if_pos rfl, i4]; exact g4⟩
      rw [if_neg c14]
      by_cases c15 : xs i &&& 31 = 15
      · obtain ⟨v, s1, s2, g1, g2, g3⟩ := s_least hm h
        obtain ⟨s3, g4⟩ := go s2 g3
        exact ⟨s3, by rw [if_pos c15, g1, bd_some, g2, bd_some, if_pos rfl, i4]; exact g4⟩
      rw [if_neg c15]
      by_cases c16 : xs i &&& 31 = 16
      · obtain ⟨v, s1, s2, g1, g2, g3⟩ := s_put hm h _
        obtain ⟨s3, g4⟩ := go s2 g3
        exact ⟨s3, by rw [if_pos c16, l1, Option.bind_some, l2, Option.bind_some, g1, bd_some, Option.bind_some, Option.bind_some, g2, bd_some, if_pos rfl, i4]; exact g4⟩
      rw [if_neg c16]
      by_cases c17 : xs i &&& 31 = 17
      · obtain ⟨v, s1, s2, g1, g2, g3⟩ := s_wipe hm h
        obtain ⟨s3, g4⟩ := go s2 g3
        exact ⟨s3, by rw [if_pos c17, g1, bd_some, g2, bd_some, if_pos rfl, i4]; exact g4⟩
      rw [if_neg c17]
      by_cases c18 : xs i &&& 31 = 18
      · obtain ⟨v, s1, s2, g1, g2, g3⟩ := s_fault hm h
        obtain ⟨s3, g4⟩ := go s2 g3
        exact ⟨s3, by rw [if_pos c18, g1, bd_some, g2, bd_some, if_pos rfl, i4]; exact g4⟩
      rw [if_neg c18]
      by_cases c19 : xs i &&& 31 = 19
      · obtain ⟨v, s1, s2, g1, g2, g3⟩ := s_carry hm h
        obtain ⟨s3, g4⟩ := go s2 g3
        exact ⟨s3, by rw [if_pos c19, g1, bd_some, g2, bd_some, if_pos rfl, i4]; exact g4⟩
      rw [if_neg c19]
      by_cases c20 : xs i &&& 31 = 20
      · obtain ⟨v, s1, s2, g1, g2, g3⟩ := s_undo hm h
        obtain ⟨s3, g4⟩ := go s2 g3
        exact ⟨s3, by rw [if_pos c20, g1, bd_some, g2, bd_some, if_pos rfl, i4]; exact g4⟩
      rw [if_neg c20]
      by_cases c21 : xs i &&& 31 = 21
      · obtain ⟨v, s1, s2, g1, g2, g3⟩ := s_save hm h (xs (i + 1))
        obtain ⟨s3, g4⟩ := go s2 g3
        exact ⟨s3, by rw [if_pos c21, l1, Option.bind_some, g1, bd_some, Option.bind_some, g2, bd_some, if_pos rfl, i4]; exact g4⟩
      rw [if_neg c21]
      by_cases c22 : xs i &&& 31 = 22
      · obtain ⟨v, s1, s2, g1, g2, g3⟩ := s_restore hm h (xs (i + 1))
        obtain ⟨s3, g4⟩ := go s2 g3
        exact ⟨s3, by rw [if_pos c22, l1, Option.bind_some, g1, bd_some, Option.bind_some, g2, bd_some, if_pos rfl, i4]; exact g4⟩
      rw [if_neg c22]
      obtain ⟨s3, g4⟩ := go s h
      exact ⟨s3, by rw [i4]; exact g4⟩
