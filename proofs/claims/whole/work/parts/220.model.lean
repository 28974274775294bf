/-! the reference's methods, on its block -/
section M1
variable {σ : Hp} {m : Nat} {it : Nat → Int32} {ar : Nat → Nat → Int32} {n : Nat}
theorem mh_A {k : Nat} {i : Int32} (hi : i.toInt = (k : Int)) (hk : k < 132) : ldI (mh σ m it ar) (m + 1) i = some (ar 1 k) := mh_ld 1 k hi (by omega) (by omega) hk
theorem mh_A0 : ldI (mh σ m it ar) (m + 1) 0 = some (ar 1 0) := mh_A rfl (by omega)
theorem mh_A1 : ldI (mh σ m it ar) (m + 1) 1 = some (ar 1 1) := mh_A rfl (by omega)
theorem mh_A2 : ldI (mh σ m it ar) (m + 1) 2 = some (ar 1 2) := mh_A rfl (by omega)
theorem mh_A3 : ldI (mh σ m it ar) (m + 1) 3 = some (ar 1 3) := mh_A rfl (by omega)
theorem mh_A4 : ldI (mh σ m it ar) (m + 1) 4 = some (ar 1 4) := mh_A rfl (by omega)
theorem mh_A5 : ldI (mh σ m it ar) (m + 1) 5 = some (ar 1 5) := mh_A rfl (by omega)
theorem mh_A6 : ldI (mh σ m it ar) (m + 1) 6 = some (ar 1 6) := mh_A rfl (by omega)
theorem mh_S {k : Nat} {i : Int32} (x : Int32) (hi : i.toInt = (k : Int)) (hk : k < 132) : stI (mh σ m it ar) (m + 1) i x = some (mh σ m it (va_up ar 1 (upd (ar 1) k x))) := mh_st 1 k x hi (by omega) (by omega) hk
theorem ix5 {i w : Nat} (hi : i < 26) (hw : w < 5) : (7 + 5 * nI i + nI w : Int32).toInt = ((7 + 5 * i + w : Nat) : Int) := by
  rw [show (7 : Int32) = nI 7 from rfl, show (5 : Int32) = nI 5 from rfl, pk_mul, nI_add, nI_add, nI_toInt (by omega)]
theorem its_eq {i w : Nat} (hi : i < 25) (hw : w < 5) : D_X10_its m (nI i) (nI w) (mh σ m it ar) = some (gA (ar 1) i w, mh σ m it ar) := by
  unfold D_X10_its
  simp only [mh_isO, mh_r0, Option.bind_some, mh_A (ix5 (show i < 26 by omega) hw) (by omega)]
  rfl
theorem its0 {i : Nat} (hi : i < 25) : D_X10_its m (nI i) 0 (mh σ m it ar) = some (gA (ar 1) i 0, mh σ m it ar) := its_eq hi (w := 0) (by omega)
theorem its1 {i : Nat} (hi : i < 25) : D_X10_its m (nI i) 1 (mh σ m it ar) = some (gA (ar 1) i 1, mh σ m it ar) := its_eq hi (w := 1) (by omega)
theorem its2 {i : Nat} (hi : i < 25) : D_X10_its m (nI i) 2 (mh σ m it ar) = some (gA (ar 1) i 2, mh σ m it ar) := its_eq hi (w := 2) (by omega)
theorem its3 {i : Nat} (hi : i < 25) : D_X10_its m (nI i) 3 (mh σ m it ar) = some (gA (ar 1) i 3, mh σ m it ar) := its_eq hi (w := 3) (by omega)
theorem its4 {i : Nat} (hi : i < 25) : D_X10_its m (nI i) 4 (mh σ m it ar) = some (gA (ar 1) i 4, mh σ m it ar) := its_eq hi (w := 4) (by omega)
theorem sets_eq {i w : Nat} (x : Int32) (hi : i < 25) (hw : w < 5) : D_X10_sets m (nI i) (nI w) x (mh σ m it ar) = some (mh σ m it (va_up ar 1 (upd (ar 1) (7 + 5 * i + w) x))) := by
  unfold D_X10_sets
  simp only [mh_isO, mh_r0, Option.bind_some, mh_S x (ix5 (show i < 26 by omega) hw) (by omega)]
theorem sets0 {i : Nat} (x : Int32) (hi : i < 25) : D_X10_sets m (nI i) 0 x (mh σ m it ar) = some (mh σ m it (va_up ar 1 (upd (ar 1) (7 + 5 * i + 0) x))) := sets_eq x hi (w := 0) (by omega)
theorem sets1 {i : Nat} (x : Int32) (hi : i < 25) : D_X10_sets m (nI i) 1 x (mh σ m it ar) = some (mh σ m it (va_up ar 1 (upd (ar 1) (7 + 5 * i + 1) x))) := sets_eq x hi (w := 1) (by omega)
theorem sets2 {i : Nat} (x : Int32) (hi : i < 25) : D_X10_sets m (nI i) 2 x (mh σ m it ar) = some (mh σ m it (va_up ar 1 (upd (ar 1) (7 + 5 * i + 2) x))) := sets_eq x hi (w := 2) (by omega)
theorem sets3 {i : Nat} (x : Int32) (hi : i < 25) : D_X10_sets m (nI i) 3 x (mh σ m it ar) = some (mh σ m it (va_up ar 1 (upd (ar 1) (7 + 5 * i + 3) x))) := sets_eq x hi (w := 3) (by omega)
theorem sets4 {i : Nat} (x : Int32) (hi : i < 25) : D_X10_sets m (nI i) 4 x (mh σ m it ar) = some (mh σ m it (va_up ar 1 (upd (ar 1) (7 + 5 * i + 4) x))) := sets_eq x hi (w := 4) (by omega)
theorem m_areFlat : D_X10_areFlat m (mh σ m it ar) = some (bI (flat (ar 1)), mh σ m it ar) := by
  unfold D_X10_areFlat flat
  simp only [mh_isO, mh_r0, Option.bind_some, mh_A4, mh_A1, retZ_0, retZ_1]
  by_cases h : ar 1 4 ≤ ar 1 1
  · rw [if_pos h, decide_eq_false (by rw [pu_le] at h; rw [pu_lt]; omega)]; rfl
  · rw [if_neg h, decide_eq_true (by rw [pu_le] at h; rw [pu_lt]; omega)]; rfl
theorem m_isMirror (hn : n ≤ 25) (h6 : ar 1 6 = nI n) (x : Int32) : D_X10_isMirror m x (mh σ m it ar) = some (if 0 ≤ x.toInt ∧ x.toInt < n then 1 else 0, mh σ m it ar) := by
  unfold D_X10_isMirror
  simp only [mh_isO, mh_r0, Option.bind_some, mh_A6, h6, isInI, nI_pre (show n < 2 ^ 31 by omega), bd_some]
  by_cases h : 0 ≤ x.toInt ∧ x.toInt < (n : Int)
  · rw [if_pos h, if_pos ⟨by simpa using h.1, by omega⟩, retZ_1]
  · rw [if_neg h, if_neg (by simp; omega), retZ_0]
theorem m_isPlace (r c : Int32) : D_X10_isPlace r c σ = some (if (0 ≤ r.toInt ∧ r.toInt < 20) ∧ (0 ≤ c.toInt ∧ c.toInt < 20) then 1 else 0, σ) := by
  unfold D_X10_isPlace
  simp only [isInI, bd_some]
  by_cases h1 : 0 ≤ r.toInt ∧ r.toInt < 20
  · rw [if_pos (show (0 : Int64).toInt ≤ r.toInt ∧ r.toInt ≤ (19 : Int64).toInt from ⟨h1.1, by have := h1.2; show r.toInt ≤ 19; omega⟩), if_neg (by decide)]
    by_cases h2 : 0 ≤ c.toInt ∧ c.toInt < 20
    · rw [if_pos (show (0 : Int64).toInt ≤ c.toInt ∧ c.toInt ≤ (19 : Int64).toInt from ⟨h2.1, by have := h2.2; show c.toInt ≤ 19; omega⟩), if_neg (by decide), if_pos ⟨h1, h2⟩]
      rfl
    · rw [if_neg (show ¬ ((0 : Int64).toInt ≤ c.toInt ∧ c.toInt ≤ (19 : Int64).toInt) from fun q => h2 ⟨q.1, by have h3 : c.toInt ≤ 19 := q.2; omega⟩), if_pos rfl, if_neg (fun q => h2 q.2)]
      rfl
  · rw [if_neg (show ¬ ((0 : Int64).toInt ≤ r.toInt ∧ r.toInt ≤ (19 : Int64).toInt) from fun q => h1 ⟨q.1, by have h3 : r.toInt ≤ 19 := q.2; omega⟩), if_pos rfl, if_neg (fun q => h1 q.1)]
    rfl
theorem m_mirrorAt_w2 (r c : Int32) (kx : Hp → Option (Int32 × Hp)) (hn : n ≤ 25) (h6 : ar 1 6 = nI n) : ∀ (k i f : Nat), i + k = n → k < f → D_X10_mirrorAt_w2 m r c kx f (nI i) (mh σ m it ar) = match mAtF (ar 1) r c k i with
    | none => kx (mh σ m it ar)
    | some j => some (nI j, mh σ m it ar) := by
  intro k
  induction k with
  | zero =>
    intro i f hi hf
    obtain ⟨f, rfl⟩ : ∃ g, f = g + 1 := ⟨f - 1, by omega⟩
    unfold D_X10_mirrorAt_w2
    simp only [mh_r0, Option.bind_some, mh_A6, h6]
    rw [if_pos (nI_le (by omega) (by omega))]
    rfl
  | succ k ih =>
    intro i f hi hf
    obtain ⟨f, rfl⟩ : ∃ g, f = g + 1 := ⟨f - 1, by omega⟩
    unfold D_X10_mirrorAt_w2
    simp only [mh_r0, Option.bind_some, mh_A6, h6]
    rw [if_neg (nI_ge (by omega) (by omega))]
    simp only [its0 (show i < 25 by omega), its1 (show i < 25 by omega), bd_some, nI_1]
    rw [ih (i + 1) f (by omega) (by omega)]
    conv => rhs; unfold mAtF
    by_cases h1 : gA (ar 1) i 0 = r
    · by_cases h2 : gA (ar 1) i 1 = c
      · simp [h1, h2]
      · simp [h1, h2]
    · simp [h1]
theorem m_mirrorAt (r c : Int32) (hn : n ≤ 25) (h6 : ar 1 6 = nI n) : D_X10_mirrorAt m r c (mh σ m it ar) = some (oI (mAt (ar 1) n r c), mh σ m it ar) := by
  unfold D_X10_mirrorAt
  simp only [mh_isO, Option.bind_some]
  rw [show (0 : Int32) = nI 0 from rfl, m_mirrorAt_w2 r c _ hn h6 n 0 FU (by omega) (by rw [FU_eq]; omega)]
  show (match mAt (ar 1) n r c with | none => _ | some j => _) = _
  cases mAt (ar 1) n r c with
  | none => rfl
  | some j => rfl
end M1
