theorem one_shl {k : Nat} (hk : k < 25) : ((1 : Int32) <<< (nI k &&& 31)).toBitVec = BitVec.twoPow 32 k := by
  have : ∀ k : Fin 25, ((1 : Int32) <<< (nI k.1 &&& 31)).toBitVec = BitVec.twoPow 32 k.1 := by decide
  exact this ⟨k, hk⟩
def bit (v : Int32) (i : Nat) : Bool := v.toBitVec.getLsbD i
theorem smod_k {k : Nat} (hk : k < 25) : ((nI k &&& 31).toBitVec.smod 32).toNat = k := by
  have : ∀ k : Fin 25, ((nI k.1 &&& 31).toBitVec.smod 32).toNat = k.1 := by decide
  exact this ⟨k, hk⟩
theorem bit_or (v w : Int32) (i : Nat) : bit (v ||| w) i = (bit v i || bit w i) := by
  unfold bit
  rw [Int32.toBitVec_or, BitVec.getLsbD_or]
theorem bit_0 (i : Nat) : bit 0 i = false := by
  unfold bit
  show (0#32).getLsbD i = false
  exact BitVec.getLsbD_zero
theorem bit_one {k : Nat} (hk : k < 25) (i : Nat) : bit ((1 : Int32) <<< (nI k &&& 31)) i = decide (i = k) := by
  unfold bit
  rw [one_shl hk, BitVec.getLsbD_twoPow]
  by_cases c : i = k
  · subst c
    simp; omega
  · simp [c, Ne.symm c]
theorem bit_get (v : Int32) {i : Nat} (hi : i < 25) : ((v >>> (nI i &&& 31)) &&& (1 : Int32)) = 0 ↔ bit v i = false := by
  have e : (v >>> (nI i &&& 31)).toBitVec.getLsbD 0 = bit v i := by
    rw [Int32.toBitVec_shiftRight, BitVec.sshiftRight', smod_k hi, BitVec.getLsbD_sshiftRight]
    unfold bit
    simp
    omega
  rw [← e, ← Int32.toBitVec_inj, Int32.toBitVec_and]
  constructor
  · intro h
    have := congrArg (fun b => BitVec.getLsbD b 0) h
    simpa using this
  · intro h
    apply BitVec.eq_of_getLsbD_eq
    intro j hj
    rw [BitVec.getLsbD_and]
    by_cases c : j = 0
    · subst c
      rw [h]
      simp
    · have : (1 : Int32).toBitVec.getLsbD j = false := by
        show (1#32).getLsbD j = false
        rw [BitVec.getLsbD_one]
        simp [c]
      rw [this]
      simp
theorem bit_mask (f : Nat → Bool) : ∀ n, n ≤ 25 → ∀ i, bit (maskF f n) i = (decide (i < n) && f i)
  | 0, _, i => by
    rw [maskF, bit_0]
    simp
  | n + 1, h, i => by
    rw [maskF, bit_or, bit_mask f n (by omega) i]
    by_cases c : f n = true
    · rw [if_pos c, bit_one (by omega)]
      by_cases q : i = n
      · subst q; simp [c]
      · simp [q]
        by_cases q2 : i < n
        · simp [q2, Nat.lt_succ_of_lt q2]
        · simp [q2, show ¬ i < n + 1 by omega]
    · rw [if_neg c, bit_0]
      by_cases q : i = n
      · subst q
        simp [c]
      · by_cases q2 : i < n
        · simp [q2, Nat.lt_succ_of_lt q2]
        · simp [q2, show ¬ i < n + 1 by omega]
theorem bit_ext {v w : Int32} (h : ∀ i, i < 32 → bit v i = bit w i) : v = w := by
  rw [← Int32.toBitVec_inj]
  exact BitVec.eq_of_getLsbD_eq h

