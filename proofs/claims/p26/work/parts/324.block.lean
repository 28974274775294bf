theorem i_div {a b : Int32} (h1 : -2147483648 ≤ a.toInt.tdiv b.toInt) (h2 : a.toInt.tdiv b.toInt < 2147483648) : (a / b).toInt = a.toInt.tdiv b.toInt := by
  rw [Int32.toInt_div, Int.bmod_eq_of_le (by omega) (by omega)]
def bkD (A : Nat → Int32) (i k : Nat) : Int32 := (10 - gA A i 1) * nI k
def bkR (A : Nat → Int32) (i : Nat) : Int32 := gA A i 0 - -2
def bkF (A : Nat → Int32) (n i : Nat) : Nat → Nat → Bool
  | 0, _ => false
  | c + 1, k => if bkR A i ≤ nI k then false else if bkD A i k - bkD A i k / bkR A i * bkR A i = 0 then (if mAt A n (gA A i 0 - nI k) (gA A i 1 + bkD A i k / bkR A i) = none then bkF A n i c (k + 1) else true) else bkF A n i c (k + 1)
def bkS (A : Nat → Int32) (n i k : Nat) : Prop := ¬ bkR A i ≤ nI k ∧ bkD A i k - bkD A i k / bkR A i * bkR A i = 0 ∧ mAt A n (gA A i 0 - nI k) (gA A i 1 + bkD A i k / bkR A i) ≠ none
theorem bkF_iff {A : Nat → Int32} {n i : Nat} : ∀ c k, k + c ≤ 100 → (bkF A n i c k = true ↔ ∃ q, k ≤ q ∧ q < k + c ∧ bkS A n i q)
  | 0, k, _ => by
    constructor
    · intro h; cases h
    · rintro ⟨q, h1, h2, -⟩; omega
  | c + 1, k, hk => by
    have ih := bkF_iff (A := A) (n := n) (i := i) c (k + 1) (by omega)
    have nx : ¬ bkS A n i k → ((∃ q, k + 1 ≤ q ∧ q < k + 1 + c ∧ bkS A n i q) ↔ ∃ q, k ≤ q ∧ q < k + (c + 1) ∧ bkS A n i q) := by
      intro hn
      constructor
      · rintro ⟨q, h1, h2, h3⟩; exact ⟨q, by omega, by omega, h3⟩
      · rintro ⟨q, h1, h2, h3⟩
        by_cases e : q = k
        · rw [e] at h3; exact absurd h3 hn
        · exact ⟨q, by omega, by omega, h3⟩
    unfold bkF
    by_cases c1 : bkR A i ≤ nI k
    · rw [if_pos c1]
      constructor
      · intro h; cases h
      · rintro ⟨q, h1, h2, h3, -⟩
        exact absurd (by rw [pu_le] at c1 ⊢; rw [nI_toInt (by omega)] at c1 ⊢; omega) h3
    · rw [if_neg c1]
      by_cases c2 : bkD A i k - bkD A i k / bkR A i * bkR A i = 0
      · rw [if_pos c2]
        by_cases c3 : mAt A n (gA A i 0 - nI k) (gA A i 1 + bkD A i k / bkR A i) = none
        · rw [if_pos c3, ih]
          exact nx (fun q => q.2.2 c3)
        · rw [if_neg c3]
          exact ⟨fun _ => ⟨k, by omega, by omega, c1, c2, c3⟩, fun _ => rfl⟩
      · rw [if_neg c2, ih]
        exact nx (fun q => c2 q.2.1)
theorem blkF_iff {A : Nat → Int32} {i : Nat} : ∀ k j, blkF A i k j = true ↔ ∃ q, j ≤ q ∧ q < j + k ∧ blk1 A i q = true
  | 0, j => by
    constructor
    · intro h; cases h
    · rintro ⟨q, h1, h2, -⟩; omega
  | k + 1, j => by
    unfold blkF
    rw [Bool.or_eq_true, blkF_iff k (j + 1)]
    constructor
    · rintro (h | ⟨q, h1, h2, h3⟩)
      · exact ⟨j, by omega, by omega, h⟩
      · exact ⟨q, by omega, by omega, h3⟩
    · rintro ⟨q, h1, h2, h3⟩
      by_cases e : q = j
      · rw [e] at h3; exact Or.inl h3
      · exact Or.inr ⟨q, by omega, by omega, h3⟩
section B1
variable {A : Nat → Int32} {n i : Nat}
theorem bkR_v (hW : WF A n) (hi : i < n) : (bkR A i).toInt = (gA A i 0).toInt + 2 := by
  obtain ⟨a0, a1, -⟩ := hW.2.1 i hi
  have e : (-2 : Int32).toInt = -2 := rfl
  unfold bkR
  rw [i_sub (by rw [e]; omega) (by rw [e]; omega), e]
  omega
theorem bkD_v (hW : WF A n) (hi : i < n) {k : Nat} (hk : 1 ≤ k ∧ k < 5) : (bkD A i k).toInt = (10 - (gA A i 1).toInt) * (k : Int) := by
  obtain ⟨a0, a1, -⟩ := hW.2.1 i hi
  have e : (10 : Int32).toInt = 10 := rfl
  have m1 : (10 - gA A i 1 : Int32).toInt = 10 - (gA A i 1).toInt := by rw [i_sub (by rw [e]; omega) (by rw [e]; omega), e]
  have hb : -100 ≤ (10 - (gA A i 1).toInt) * (k : Int) ∧ (10 - (gA A i 1).toInt) * (k : Int) ≤ 100 := by
    have : k = 1 ∨ k = 2 ∨ k = 3 ∨ k = 4 := by omega
    rcases this with q | q | q | q <;> subst q <;> constructor <;> omega
  unfold bkD
  rw [i_mul (by rw [m1, nI_toInt (by omega)]; omega) (by rw [m1, nI_toInt (by omega)]; omega), m1, nI_toInt (by omega)]
/-- the equation of the promise, on numbers -/
theorem blk1_iff (hW : WF A n) (hi : i < n) {j : Nat} (hj : j < n) : blk1 A i j = true ↔ (1 ≤ (gA A i 0).toInt - (gA A j 0).toInt ∧ (gA A i 0).toInt - (gA A j 0).toInt ≤ 4) ∧ ((gA A j 1).toInt - 10) * ((gA A i 0).toInt + 2) = ((gA A i 1).toInt - 10) * ((gA A j 0).toInt + 2) := by
  obtain ⟨a0, a1, -⟩ := hW.2.1 i hi
  obtain ⟨b0, b1, -⟩ := hW.2.1 j hj
  have e10 : (10 : Int32).toInt = 10 := rfl
  have e2 : (-2 : Int32).toInt = -2 := rfl
  have m0 : (gA A i 0 - gA A j 0).toInt = (gA A i 0).toInt - (gA A j 0).toInt := i_sub (by omega) (by omega)
  have m1 : (gA A j 1 - 10).toInt = (gA A j 1).toInt - 10 := by rw [i_sub (by omega) (by omega), e10]
  have m2 : (gA A i 1 - 10).toInt = (gA A i 1).toInt - 10 := by rw [i_sub (by omega) (by omega), e10]
  have m3 : (gA A i 0 - -2).toInt = (gA A i 0).toInt + 2 := bkR_v hW hi
  have m4 : (gA A j 0 - -2).toInt = (gA A j 0).toInt + 2 := bkR_v hW hj
  have bd : ∀ a b : Int, -10 ≤ a → a ≤ 9 → 2 ≤ b → b ≤ 21 → -1000 ≤ a * b ∧ a * b ≤ 1000 := by
    intro a b h1 h2 h3 h4
    constructor
    · have : -10 * b ≤ a * b := Int.mul_le_mul_of_nonneg_right h1 (by omega)
      omega
    · have : a * b ≤ 9 * b := Int.mul_le_mul_of_nonneg_right h2 (by omega)
      omega
  have q1 := bd ((gA A j 1).toInt - 10) ((gA A i 0).toInt + 2) (by omega) (by omega) (by omega) (by omega)
  have q2 := bd ((gA A i 1).toInt - 10) ((gA A j 0).toInt + 2) (by omega) (by omega) (by omega) (by omega)
  unfold blk1
  rw [decide_eq_true_iff, m0, pu_eq, i_mul (by rw [m1, m3]; omega) (by rw [m1, m3]; omega), i_mul (by rw [m2, m4]; omega) (by rw [m2, m4]; omega), m1, m2, m3, m4]
theorem bk_eq (hW : WF A n) (hi : i < n) : bkF A n i 4 1 = blk A n i := by
  rw [Bool.eq_iff_iff, bkF_iff 4 1 (by omega)]
  unfold blk
  rw [blkF_iff]
  obtain ⟨a0, a1, -⟩ := hW.2.1 i hi
  have hR := bkR_v hW hi
  have hR0 : bkR A i ≠ 0 := by rw [Ne, pu_eq, hR]; have e : (0 : Int32).toInt = 0 := rfl; omega
  -- the quotient
  have hq : ∀ k : Nat, 1 ≤ k ∧ k < 5 → (bkD A i k / bkR A i).toInt = ((10 - (gA A i 1).toInt) * (k : Int)).tdiv ((gA A i 0).toInt + 2) ∧ -100 ≤ (10 - (gA A i 1).toInt) * (k : Int) ∧ (10 - (gA A i 1).toInt) * (k : Int) ≤ 100 ∧ -100 ≤ ((10 - (gA A i 1).toInt) * (k : Int)).tdiv ((gA A i 0).toInt + 2) ∧ ((10 - (gA A i 1).toInt) * (k : Int)).tdiv ((gA A i 0).toInt + 2) ≤ 100 := by
    intro k hk
    have hb : -100 ≤ (10 - (gA A i 1).toInt) * (k : Int) ∧ (10 - (gA A i 1).toInt) * (k : Int) ≤ 100 := by
      have : k = 1 ∨ k = 2 ∨ k = 3 ∨ k = 4 := by omega
      rcases this with q | q | q | q <;> subst q <;> constructor <;> omega
    have ht : (((10 - (gA A i 1).toInt) * (k : Int)).tdiv ((gA A i 0).toInt + 2)).natAbs ≤ 100 := by
      rw [Int.natAbs_tdiv]
      exact Nat.le_trans (Nat.div_le_self _ _) (by omega)
    refine ⟨?_, hb.1, hb.2, by omega, by omega⟩
    rw [i_div (by rw [bkD_v hW hi hk, hR]; omega) (by rw [bkD_v hW hi hk, hR]; omega), bkD_v hW hi hk, hR]
  constructor
  · rintro ⟨k, h1, h2, h3, h4, h5⟩
    obtain ⟨d1, d2, d3, d4, d5⟩ := hq k ⟨h1, h2⟩
    rcases hm : mAt A n (gA A i 0 - nI k) (gA A i 1 + bkD A i k / bkR A i) with _ | j
    · exact absurd hm h5
    · obtain ⟨w1, w2, w3⟩ := mAt_lt hm
      obtain ⟨b0, b1, -⟩ := hW.2.1 j w1
      refine ⟨j, by omega, by omega, ?_⟩
      rw [blk1_iff hW hi w1]
      have r1 : (gA A j 0).toInt = (gA A i 0).toInt - k := by
        rw [w2, i_sub (by rw [nI_toInt (by omega)]; omega) (by rw [nI_toInt (by omega)]; omega), nI_toInt (by omega)]
      have r2 : (gA A j 1).toInt = (gA A i 1).toInt + ((10 - (gA A i 1).toInt) * (k : Int)).tdiv ((gA A i 0).toInt + 2) := by
        rw [w3, i_add (by rw [d1]; omega) (by rw [d1]; omega), d1]
      generalize ((10 - (gA A i 1).toInt) * (k : Int)).tdiv ((gA A i 0).toInt + 2) = d at d1 d4 d5 r2
      have r3 : (10 - (gA A i 1).toInt) * (k : Int) = d * ((gA A i 0).toInt + 2) := by
        have bdd : -3000 ≤ d * ((gA A i 0).toInt + 2) ∧ d * ((gA A i 0).toInt + 2) ≤ 3000 := by
          constructor
          · have : -100 * ((gA A i 0).toInt + 2) ≤ d * ((gA A i 0).toInt + 2) := Int.mul_le_mul_of_nonneg_right d4 (by omega)
            omega
          · have : d * ((gA A i 0).toInt + 2) ≤ 100 * ((gA A i 0).toInt + 2) := Int.mul_le_mul_of_nonneg_right d5 (by omega)
            omega
        have m1 : (bkD A i k / bkR A i * bkR A i).toInt = d * ((gA A i 0).toInt + 2) := by
          rw [i_mul (by rw [d1, hR]; omega) (by rw [d1, hR]; omega), d1, hR]
        rw [pu_eq, i_sub (by rw [bkD_v hW hi ⟨h1, h2⟩, m1]; omega) (by rw [bkD_v hW hi ⟨h1, h2⟩, m1]; omega), bkD_v hW hi ⟨h1, h2⟩, m1] at h4
        have e : (0 : Int32).toInt = 0 := rfl
        omega
      refine ⟨⟨by omega, by omega⟩, ?_⟩
      rw [r1, r2]
      have e1 : ((gA A i 1).toInt + d - 10) * ((gA A i 0).toInt + 2) = ((gA A i 1).toInt - 10) * ((gA A i 0).toInt + 2) + d * ((gA A i 0).toInt + 2) := by
        rw [← Int.add_mul]
        congr 1
        omega
      have e2 : ((gA A i 1).toInt - 10) * ((gA A i 0).toInt - k + 2) = ((gA A i 1).toInt - 10) * ((gA A i 0).toInt + 2) + (10 - (gA A i 1).toInt) * (k : Int) := by
        rw [show (gA A i 0).toInt - (k : Int) + 2 = ((gA A i 0).toInt + 2) - k by omega, Int.mul_sub, show ((10 : Int) - (gA A i 1).toInt) = -((gA A i 1).toInt - 10) by omega, Int.neg_mul]
        omega
      rw [e1, e2, r3]
  · rintro ⟨j, -, h2, h3⟩
    rw [blk1_iff hW hi (by omega)] at h3
    obtain ⟨⟨h4, h5⟩, h6⟩ := h3
    obtain ⟨b0, b1, -⟩ := hW.2.1 j (by omega)
    obtain ⟨k, hk⟩ : ∃ k : Nat, (k : Int) = (gA A i 0).toInt - (gA A j 0).toInt := ⟨((gA A i 0).toInt - (gA A j 0).toInt).toNat, by omega⟩
    have hk5 : 1 ≤ k ∧ k < 5 := by omega
    obtain ⟨d1, d2, d3, d4, d5⟩ := hq k hk5
    have r3 : (10 - (gA A i 1).toInt) * (k : Int) = ((gA A j 1).toInt - (gA A i 1).toInt) * ((gA A i 0).toInt + 2) := by
      have e1 : ((gA A j 1).toInt - 10) * ((gA A i 0).toInt + 2) = ((gA A j 1).toInt - (gA A i 1).toInt) * ((gA A i 0).toInt + 2) + ((gA A i 1).toInt - 10) * ((gA A i 0).toInt + 2) := by
        rw [← Int.add_mul]
        congr 1
        omega
      have e2 : ((gA A i 1).toInt - 10) * ((gA A j 0).toInt + 2) = ((gA A i 1).toInt - 10) * ((gA A i 0).toInt + 2) + (10 - (gA A i 1).toInt) * (k : Int) := by
        rw [show (gA A j 0).toInt + 2 = ((gA A i 0).toInt + 2) - k by omega, Int.mul_sub, show ((10 : Int) - (gA A i 1).toInt) = -((gA A i 1).toInt - 10) by omega, Int.neg_mul]
        omega
      omega
    have r4 : ((10 - (gA A i 1).toInt) * (k : Int)).tdiv ((gA A i 0).toInt + 2) = (gA A j 1).toInt - (gA A i 1).toInt := by
      rw [r3, Int.mul_tdiv_cancel _ (by omega)]
    rw [r4] at d1
    refine ⟨k, by omega, by omega, ?_, ?_, ?_⟩
    · rw [pu_le, hR, nI_toInt (by omega)]
      omega
    · rw [pu_eq, i_sub (by rw [bkD_v hW hi hk5, i_mul (by rw [d1, hR]; omega) (by rw [d1, hR]; omega), d1, hR]; omega) (by rw [bkD_v hW hi hk5, i_mul (by rw [d1, hR]; omega) (by rw [d1, hR]; omega), d1, hR]; omega), bkD_v hW hi hk5, i_mul (by rw [d1, hR]; omega) (by rw [d1, hR]; omega), d1, hR, r3]
      have e : (0 : Int32).toInt = 0 := rfl
      omega
    · have s1 : gA A i 0 - nI k = gA A j 0 := by
        rw [pu_eq, i_sub (by rw [nI_toInt (by omega)]; omega) (by rw [nI_toInt (by omega)]; omega), nI_toInt (by omega)]
        omega
      have s2 : gA A i 1 + bkD A i k / bkR A i = gA A j 1 := by
        rw [pu_eq, i_add (by rw [d1]; omega) (by rw [d1]; omega), d1]
        omega
      rw [s1, s2, mAt_first hW (by omega)]
      simp
end B1
