/-! the reference: sun, shade, blocking, what a mirror gives -/
section M2
variable {σ : Hp} {m : Nat} {it : Nat → Int32} {ar : Nat → Nat → Int32} {n : Nat}
theorem hour_cases {P : Nat → Prop} (h0 : P 0) (h1 : P 1) (h2 : P 2) (h3 : P 3) (h4 : P 4) (h5 : P 5) (h6 : P 6) (h7 : P 7) (h8 : P 8) (h9 : P 9) (h10 : P 10) {h : Nat} (hh : h < 11) : P h := by
  match h, hh with
  | 0, _ => exact h0
  | 1, _ => exact h1
  | 2, _ => exact h2
  | 3, _ => exact h3
  | 4, _ => exact h4
  | 5, _ => exact h5
  | 6, _ => exact h6
  | 7, _ => exact h7
  | 8, _ => exact h8
  | 9, _ => exact h9
  | 10, _ => exact h10
  | h + 11, hh => omega
theorem hiN_pos {h : Nat} (hh : h < 11) : 1 ≤ hiN h ∧ hiN h ≤ 6 := by
  unfold hiN
  split <;> omega
theorem m_size (x : Int32) : D_X10_size x σ = some (if 0 ≤ x then x else -x, σ) := by
  unfold D_X10_size
  split <;> rfl
theorem high_eq {h : Nat} (hh : h < 11) : (6 - (if 0 ≤ nI h - 5 then nI h - 5 else -(nI h - 5)) : Int32) = nI (hiN h) := hour_cases (P := fun h => (6 - (if 0 ≤ nI h - 5 then nI h - 5 else -(nI h - 5)) : Int32) = nI (hiN h)) (by decide) (by decide) (by decide) (by decide) (by decide) (by decide) (by decide) (by decide) (by decide) (by decide) (by decide) hh
theorem m_high {h : Nat} (hh : h < 11) : D_X10_high (nI h) σ = some (nI (hiN h), σ) := by
  unfold D_X10_high
  rw [m_size, bd_some, high_eq hh]
theorem m_shadeOf_w2 {i h : Nat} (kx : Hp → Option (Int32 × Hp)) (hn : n ≤ 25) (h6 : ar 1 6 = nI n) (hi : i < n) (hh : h < 11) : ∀ (c k f : Nat), k + c = 6 / hiN h + 1 → 1 ≤ k → c < f → D_X10_shadeOf_w2 m (nI i) (nI h) kx f (nI k) (mh σ m it ar) = match shF (ar 1) n i h c k with
    | none => kx (mh σ m it ar)
    | some j => some (nI j, mh σ m it ar) := by
  have hp := hiN_pos hh
  have hdiv : 6 / hiN h ≤ 6 := Nat.div_le_self _ _
  have hd : divI 6 (nI (hiN h)) = some (nI (6 / hiN h)) := by
    unfold divI
    rw [if_neg (nI_ne0 (by omega) (by omega)), show (6 : Int32) = nI 6 from rfl, pk_div (by omega) (by omega) (by omega)]
  intro c
  induction c with
  | zero =>
    intro k f hk hk1 hf
    obtain ⟨f, rfl⟩ : ∃ g, f = g + 1 := ⟨f - 1, by omega⟩
    unfold D_X10_shadeOf_w2
    simp only [m_high hh, bd_some, hd, Option.bind_some]
    rw [if_pos (nI_lt (by omega) (by omega))]
    rfl
  | succ c ih =>
    intro k f hk hk1 hf
    obtain ⟨f, rfl⟩ : ∃ g, f = g + 1 := ⟨f - 1, by omega⟩
    unfold D_X10_shadeOf_w2
    simp only [m_high hh, bd_some, hd, Option.bind_some]
    rw [if_neg (nI_nlt (by omega) (by omega))]
    simp only [its0 (show i < 25 by omega), its1 (show i < 25 by omega), bd_some, m_mirrorAt _ _ hn h6, nI_1]
    rw [ih (k + 1) f (by omega) (by omega) (by omega)]
    conv => rhs; unfold shF
    cases hm : mAt (ar 1) n (gA (ar 1) i 0 - nI k) (gA (ar 1) i 1 + nI k * (5 - nI h)) with
    | none => simp [oI]
    | some j =>
      have hj := (mAt_lt hm).1
      simp only [oI]
      exact if_neg (oI_ne (j := j) (by omega))
theorem m_shadeOf {i h : Nat} (hn : n ≤ 25) (h6 : ar 1 6 = nI n) (hi : i < n) (hh : h < 11) : D_X10_shadeOf m (nI i) (nI h) (mh σ m it ar) = some (oI (shade (ar 1) n i h), mh σ m it ar) := by
  unfold D_X10_shadeOf
  simp only [mh_isO, Option.bind_some]
  have hdiv : 6 / hiN h ≤ 6 := Nat.div_le_self _ _
  rw [show (1 : Int32) = nI 1 from rfl, m_shadeOf_w2 _ hn h6 hi hh (6 / hiN h) 1 FU (by omega) (by omega) (by rw [FU_eq]; omega)]
  show (match shade (ar 1) n i h with | none => _ | some j => _) = _
  cases shade (ar 1) n i h with
  | none => rfl
  | some j => rfl
theorem m_isBlocked_w26 {i : Nat} (kx : Int32 → Hp → Option (Int32 × Hp)) (hn : n ≤ 25) (h6 : ar 1 6 = nI n) (hi : i < n) : ∀ (k j f : Nat) (b : Bool), j + k = n → k < f → D_X10_isBlocked_w26 m (nI i) (gA (ar 1) i 0 - -2) (gA (ar 1) i 1 - 10) kx f (bI b) (nI j) (mh σ m it ar) = kx (bI (b || blkF (ar 1) i k j)) (mh σ m it ar) := by
  intro k
  induction k with
  | zero =>
    intro j f b hj hf
    obtain ⟨f, rfl⟩ : ∃ g, f = g + 1 := ⟨f - 1, by omega⟩
    unfold D_X10_isBlocked_w26
    simp only [mh_r0, Option.bind_some, mh_A6, h6]
    rw [if_pos (nI_le (by omega) (by omega))]
    simp [blkF]
  | succ k ih =>
    intro j f b hj hf
    obtain ⟨f, rfl⟩ : ∃ g, f = g + 1 := ⟨f - 1, by omega⟩
    unfold D_X10_isBlocked_w26
    simp only [mh_r0, Option.bind_some, mh_A6, h6]
    rw [if_neg (nI_ge (by omega) (by omega))]
    simp only [its0 (show i < 25 by omega), its0 (show j < 25 by omega), its1 (show j < 25 by omega), bd_some, nm_eq, D_X10_isBlocked_b99, D_X10_isBlocked_b103, D_X10_isBlocked_b104, isInI, nI_1]
    have ht := fun b => ih (j + 1) f b (by omega) (by omega)
    have h1 := ht true
    have h0 := ht false
    simp only [bI_t, bI_f] at h1 h0
    conv => rhs; unfold blkF
    rw [h1, h0]
    cases b with
    | true => rw [if_neg (by decide)]; rfl
    | false =>
      rw [if_pos (show bI false = 0 from rfl)]
      simp only [Bool.false_or]
      by_cases c1 : 1 ≤ (gA (ar 1) i 0 - gA (ar 1) j 0).toInt ∧ (gA (ar 1) i 0 - gA (ar 1) j 0).toInt ≤ 4
      · rw [if_pos (show (1 : Int64).toInt ≤ _ ∧ _ ≤ (4 : Int64).toInt from c1), if_neg (by decide)]
        by_cases c2 : (gA (ar 1) j 1 - 10) * (gA (ar 1) i 0 - -2) = (gA (ar 1) i 1 - 10) * (gA (ar 1) j 0 - -2)
        · rw [if_pos c2, show blk1 (ar 1) i j = true from decide_eq_true ⟨c1, c2⟩]
        · rw [if_neg c2, show blk1 (ar 1) i j = false from decide_eq_false (fun q => c2 q.2), Bool.false_or]
      · rw [if_neg (show ¬ ((1 : Int64).toInt ≤ _ ∧ _ ≤ (4 : Int64).toInt) from c1), if_pos rfl, show blk1 (ar 1) i j = false from decide_eq_false (fun q => c1 q.1), Bool.false_or]
theorem m_isBlocked {i : Nat} (hn : n ≤ 25) (h6 : ar 1 6 = nI n) (hi : i < n) : D_X10_isBlocked m (nI i) (mh σ m it ar) = some (bI (blk (ar 1) n i), mh σ m it ar) := by
  unfold D_X10_isBlocked
  rw [mh_isO, Option.bind_some, its0 (show i < 25 by omega), bd_some, nm_eq, its1 (show i < 25 by omega), bd_some, nm_eq]
  have h := m_isBlocked_w26 (σ := σ) (m := m) (it := it) (fun i69 s68 => retZ i69 (i69, s68)) hn h6 hi n 0 FU false (by omega) (by rw [FU_eq]; omega)
  rw [show nI 0 = (0 : Int32) from rfl, show bI false = (0 : Int32) from rfl] at h
  rw [h, bI_z]
  rfl
theorem row_pos {r : Int32} (h : 0 ≤ r.toInt ∧ r.toInt < 20) : (20 + r).toInt = 20 + r.toInt := by
  rw [Int32.toInt_add]
  show ((20 : Int) + r.toInt).bmod (2 ^ 32) = _
  rw [Int.bmod_eq_of_le (by omega) (by omega)]
theorem m_gives {i h : Nat} (hW : WF (ar 1) n) (hi : i < n) (hh : h < 11) : D_X10_gives m (nI i) (nI h) (mh σ m it ar) = some (gv (ar 1) n h i, mh σ m it ar) := by
  obtain ⟨⟨hn, h6⟩, hM, -⟩ := id hW
  have hM := hM i hi
  unfold D_X10_gives gv
  simp only [mh_isO, Option.bind_some, m_areFlat, bd_some, m_shadeOf hn h6 hi hh, m_isBlocked hn h6 hi, its0 (show i < 25 by omega), its3 (show i < 25 by omega), m_high hh]
  have hlt : ∀ j, shade (ar 1) n i h = some j → j < 100 := fun j hj => by have := shade_lt hj; omega
  by_cases c1 : flat (ar 1) = true
  · simp [c1, bI]
  · by_cases c2 : shade (ar 1) n i h = none
    · by_cases c3 : blk (ar 1) n i = true
      · simp [c1, c2, c3, oI, bI]
      · have hne : ¬ (20 + gA (ar 1) i 0 : Int32) = 0 := by
          rw [pu_eq, row_pos hM.1]
          have := hM.1.1
          show ¬ _ = (0 : Int)
          omega
        simp [c1, c2, c3, oI, divI, hne, bI]
    · have : ¬ oI (shade (ar 1) n i h) = -6 := fun q => c2 ((oI_eq hlt).mp q)
      simp [c1, c2, this, bI]
end M2
