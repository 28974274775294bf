/-! THE PURE SIDE. First: plain facts on ints, then the reference's object as one block of the heap. -/
theorem pu_lt (a b : Int32) : a < b ↔ a.toInt < b.toInt := Int32.lt_iff_toInt_lt
theorem pu_le (a b : Int32) : a ≤ b ↔ a.toInt ≤ b.toInt := Int32.le_iff_toInt_le
theorem pu_eq (a b : Int32) : a = b ↔ a.toInt = b.toInt := Int32.toInt_inj.symm
theorem pu_lt64 (a b : Int64) : a < b ↔ a.toInt < b.toInt := Int64.lt_iff_toInt_lt
theorem pu_le64 (a b : Int64) : a ≤ b ↔ a.toInt ≤ b.toInt := Int64.le_iff_toInt_le
theorem pu_eq64 (a b : Int64) : a = b ↔ a.toInt = b.toInt := Int64.toInt_inj.symm
theorem pu_lit (n : Nat) : (OfNat.ofNat n : Int32) = nI n := rfl
theorem bd_some {α β : Type} (a : α) (s : Hp) (f : α → Hp → Option β) : bd (some (a, s)) f = f a s := rfl
theorem bd_none {α β : Type} (f : α → Hp → Option β) : bd none f = none := rfl
theorem nm_eq {α β : Type} (x : α) (f : α → β) : nm x f = f x := rfl
theorem retZ_0 {α : Type} (r : α) : retZ 0 r = some r := rfl
theorem retZ_1 {α : Type} (r : α) : retZ 1 r = some r := rfl
theorem mtO_none {α : Type} (A : α) (B : Nat → α) : mtO none A B = A := rfl
theorem mtO_some {α : Type} (a : Nat) (A : α) (B : Nat → α) : mtO (some a) A B = B a := rfl
theorem lg_lt0 (a b : Int64) : lg_cmp a b < 0 ↔ a.toInt < b.toInt := by
  unfold lg_cmp
  rw [← pu_lt64]
  by_cases h1 : a > b
  · rw [if_pos h1]
    have : ¬ a < b := by rw [gt_iff_lt, pu_lt64] at h1; rw [pu_lt64]; omega
    simp [this]
  · rw [if_neg h1]
    by_cases h2 : a = b
    · rw [if_pos h2]; subst h2; rw [pu_lt64]; simp
    · rw [if_neg h2]
      have : a < b := by
        rw [gt_iff_lt, pu_lt64] at h1; rw [pu_eq64] at h2; rw [pu_lt64]; omega
      simp [this]
theorem lg_gt0 (a b : Int64) : 0 < lg_cmp a b ↔ b.toInt < a.toInt := by
  unfold lg_cmp
  rw [← pu_lt64]
  by_cases h1 : a > b
  · rw [if_pos h1]
    have : b < a := h1
    simp [this]
  · rw [if_neg h1]
    have hn : ¬ b < a := h1
    by_cases h2 : a = b
    · rw [if_pos h2]; simp [hn]
    · rw [if_neg h2]; simp [hn]
theorem lg_eq0 (a b : Int64) : lg_cmp a b = 0 ↔ a = b := by
  unfold lg_cmp
  by_cases h1 : a > b
  · rw [if_pos h1]
    have : ¬ a = b := by rw [gt_iff_lt, pu_lt64] at h1; rw [pu_eq64]; omega
    simp [this]
  · rw [if_neg h1]
    by_cases h2 : a = b
    · simp [h2]
    · simp [h2]
/-- the reference's isIn -/
theorem isIn_eq (a b c : Int64) (σ : Hp) : D_X10_isIn a b c σ = some (if b.toInt ≤ a.toInt ∧ a.toInt ≤ c.toInt then 1 else 0, σ) := by
  unfold D_X10_isIn
  simp only [lg_lt0, lg_gt0, retZ_0, retZ_1]
  by_cases h1 : a.toInt < b.toInt
  · rw [if_pos h1, if_neg (by omega)]
  · rw [if_neg h1]
    by_cases h2 : c.toInt < a.toInt
    · rw [if_pos h2, if_neg (by omega)]
    · rw [if_neg h2, if_pos (by omega)]
theorem isInI (i : Int32) (b c : Int64) (σ : Hp) : D_X10_isIn i.toInt64 b c σ = some (if b.toInt ≤ i.toInt ∧ i.toInt ≤ c.toInt then 1 else 0, σ) := by
  rw [isIn_eq, Int32.toInt_toInt64]
theorem nI_lo {n : Nat} (h : n < 2 ^ 31) : (nI n).toInt64.toInt = (n : Int) := by rw [Int32.toInt_toInt64, nI_toInt h]
theorem nI_pre {n : Nat} (h : n < 2 ^ 31) : ((nI n).toInt64 - 1).toInt = (n : Int) - 1 := by
  rw [Int64.toInt_sub, nI_lo h]
  show ((n : Int) - 1).bmod (2 ^ 64) = _
  rw [Int.bmod_eq_of_le (by omega) (by omega)]
/-! the reference's object: m, and its eleven rows behind it -/
def mf (m : Nat) (it : Nat → Int32) : List Value := [.ref (m + 1), .ref (m + 2), .ref (m + 3), .ref (m + 4), .int (it 4), .ref (m + 5), .ref (m + 6), .ref (m + 7), .ref (m + 8), .ref (m + 9), .ref (m + 10), .ref (m + 11), .int (it 12), .int (it 13), .int (it 14), .int (it 15), .int (it 16)]
def msz (j : Nat) : Nat := if j = 1 ∨ j = 2 ∨ j = 3 then 132 else if j = 4 then 792 else if j = 5 then 264 else if j = 6 then 2 else if j = 9 then 4 else if j = 11 then 80 else 25
def mh (σ : Hp) (m : Nat) (it : Nat → Int32) (ar : Nat → Nat → Int32) : Hp := (σ.1, fun q => if q = m then some (.inr (.inr (9, mf m it))) else if m < q ∧ q < m + 12 then some (.inl (msz (q - m), ar (q - m))) else σ.2 q)
section MH
variable {σ : Hp} {m : Nat} {it : Nat → Int32} {ar : Nat → Nat → Int32}
theorem mh_at : (mh σ m it ar).2 m = some (.inr (.inr (9, mf m it))) := by simp [mh]
theorem mh_row {j : Nat} (h1 : 0 < j) (h2 : j < 12) : (mh σ m it ar).2 (m + j) = some (.inl (msz j, ar j)) := by
  have e1 : ¬ m + j = m := by omega
  have e2 : m < m + j ∧ m + j < m + 12 := by omega
  have e3 : m + j - m = j := by omega
  simp only [mh, if_neg e1, if_pos e2, e3]
theorem mh_isO : isO (mh σ m it ar) m 9 = some () := by simp [isO, mh_at]
theorem mh_r0 : getR (mh σ m it ar) m 9 0 = some (m + 1) := by simp [getR, getV, mh_at, mf]
theorem mh_r1 : getR (mh σ m it ar) m 9 1 = some (m + 2) := by simp [getR, getV, mh_at, mf]
theorem mh_r2 : getR (mh σ m it ar) m 9 2 = some (m + 3) := by simp [getR, getV, mh_at, mf]
theorem mh_r3 : getR (mh σ m it ar) m 9 3 = some (m + 4) := by simp [getR, getV, mh_at, mf]
theorem mh_r5 : getR (mh σ m it ar) m 9 5 = some (m + 5) := by simp [getR, getV, mh_at, mf]
theorem mh_r6 : getR (mh σ m it ar) m 9 6 = some (m + 6) := by simp [getR, getV, mh_at, mf]
theorem mh_r7 : getR (mh σ m it ar) m 9 7 = some (m + 7) := by simp [getR, getV, mh_at, mf]
theorem mh_r8 : getR (mh σ m it ar) m 9 8 = some (m + 8) := by simp [getR, getV, mh_at, mf]
theorem mh_r9 : getR (mh σ m it ar) m 9 9 = some (m + 9) := by simp [getR, getV, mh_at, mf]
theorem mh_r10 : getR (mh σ m it ar) m 9 10 = some (m + 10) := by simp [getR, getV, mh_at, mf]
theorem mh_r11 : getR (mh σ m it ar) m 9 11 = some (m + 11) := by simp [getR, getV, mh_at, mf]
theorem mh_i4 : getI (mh σ m it ar) m 9 4 = some (it 4) := by simp [getI, getV, mh_at, mf]
theorem mh_i12 : getI (mh σ m it ar) m 9 12 = some (it 12) := by simp [getI, getV, mh_at, mf]
theorem mh_i13 : getI (mh σ m it ar) m 9 13 = some (it 13) := by simp [getI, getV, mh_at, mf]
theorem mh_i14 : getI (mh σ m it ar) m 9 14 = some (it 14) := by simp [getI, getV, mh_at, mf]
theorem mh_i15 : getI (mh σ m it ar) m 9 15 = some (it 15) := by simp [getI, getV, mh_at, mf]
theorem mh_i16 : getI (mh σ m it ar) m 9 16 = some (it 16) := by simp [getI, getV, mh_at, mf]
theorem mh_setO (it' : Nat → Int32) : setC (mh σ m it ar) m (.inr (.inr (9, mf m it'))) = mh σ m it' ar := by
  unfold setC mh
  congr 1
  funext q
  by_cases h : q = m
  · simp [h]
  · simp [h]
theorem mh_p4 (x : Int32) : putI (mh σ m it ar) m 9 4 x = some (mh σ m (upd it 4 x) ar) := by
  rw [putI]; simp only [putV, mh_at]; rw [if_pos (by simp [mf])]; exact congrArg some (mh_setO (upd it 4 x))
theorem mh_p12 (x : Int32) : putI (mh σ m it ar) m 9 12 x = some (mh σ m (upd it 12 x) ar) := by
  rw [putI]; simp only [putV, mh_at]; rw [if_pos (by simp [mf])]; exact congrArg some (mh_setO (upd it 12 x))
theorem mh_p13 (x : Int32) : putI (mh σ m it ar) m 9 13 x = some (mh σ m (upd it 13 x) ar) := by
  rw [putI]; simp only [putV, mh_at]; rw [if_pos (by simp [mf])]; exact congrArg some (mh_setO (upd it 13 x))
theorem mh_p14 (x : Int32) : putI (mh σ m it ar) m 9 14 x = some (mh σ m (upd it 14 x) ar) := by
  rw [putI]; simp only [putV, mh_at]; rw [if_pos (by simp [mf])]; exact congrArg some (mh_setO (upd it 14 x))
theorem mh_p15_0 : putZ (mh σ m it ar) m 9 15 0 = some (mh σ m (upd it 15 0) ar) := by
  rw [putZ, if_pos (by decide)]; simp only [putV, mh_at]; rw [if_pos (by simp [mf])]; exact congrArg some (mh_setO (upd it 15 0))
theorem mh_p15_1 : putZ (mh σ m it ar) m 9 15 1 = some (mh σ m (upd it 15 1) ar) := by
  rw [putZ, if_pos (by decide)]; simp only [putV, mh_at]; rw [if_pos (by simp [mf])]; exact congrArg some (mh_setO (upd it 15 1))
theorem mh_p16 (x : Int32) : putI (mh σ m it ar) m 9 16 x = some (mh σ m (upd it 16 x) ar) := by
  rw [putI]; simp only [putV, mh_at]; rw [if_pos (by simp [mf])]; exact congrArg some (mh_setO (upd it 16 x))
theorem mh_setA {j : Nat} (h1 : 0 < j) (h2 : j < 12) (f : Nat → Int32) : setC (mh σ m it ar) (m + j) (.inl (msz j, f)) = mh σ m it (va_up ar j f) := by
  unfold setC mh
  congr 1
  funext q
  by_cases h : q = m + j
  · subst h
    have e1 : ¬ m + j = m := by omega
    have e2 : m < m + j ∧ m + j < m + 12 := by omega
    have e3 : m + j - m = j := by omega
    simp only [if_neg e1, if_pos e2, e3, if_true, va_up]
  · simp only [if_neg h]
    by_cases h3 : q = m
    · simp only [if_pos h3]
    · simp only [if_neg h3]
      by_cases h4 : m < q ∧ q < m + 12
      · have e4 : ¬ q - m = j := by omega
        simp only [if_pos h4, va_up, if_neg e4]
      · simp only [if_neg h4]
theorem mh_ld (j k : Nat) {i : Int32} (hi : i.toInt = (k : Int)) (h1 : 0 < j) (h2 : j < 12) (hk : k < msz j) : ldI (mh σ m it ar) (m + j) i = some (ar j k) := by
  have e : i.toNatClampNeg = k := by
    have : i.toNatClampNeg = i.toInt.toNat := rfl
    omega
  simp only [ldI, mh_row h1 h2, e]
  rw [if_pos (by omega)]
theorem mh_st (j k : Nat) {i : Int32} (x : Int32) (hi : i.toInt = (k : Int)) (h1 : 0 < j) (h2 : j < 12) (hk : k < msz j) : stI (mh σ m it ar) (m + j) i x = some (mh σ m it (va_up ar j (upd (ar j) k x))) := by
  have e : i.toNatClampNeg = k := by
    have : i.toNatClampNeg = i.toInt.toNat := rfl
    omega
  simp only [stI, mh_row h1 h2, e]
  rw [if_pos (by omega), mh_setA h1 h2]
end MH
