/-! isWell: bits, the first loop -/
theorem and1 (v : Int32) : v &&& 1 = bI (bit v 0) := by
  have b1 : ∀ i, bit 1 i = decide (i = 0) := fun i => by
    have := bit_one (k := 0) (by omega) i
    rw [show (1 : Int32) <<< (nI 0 &&& 31) = 1 by decide] at this
    exact this
  apply bit_ext
  intro i _
  rw [bit_and, b1]
  cases hb : bit v 0 with
  | false =>
    rw [bI_f, bit_0]
    by_cases e : i = 0
    · rw [e, hb, Bool.false_and]
    · rw [decide_eq_false e, Bool.and_false]
  | true =>
    rw [bI_t, b1]
    by_cases e : i = 0
    · rw [e, hb, Bool.true_and]
    · rw [decide_eq_false e, Bool.and_false]
theorem sh_bit {f : Nat → Bool} {n k : Nat} (hk : k < n) (hn : n ≤ 24) : (maskF f n >>> (nI k &&& 31)) &&& 1 = bI (f k) := by
  have h := bit_get (maskF f n) (i := k) (by omega)
  rw [bit_mask f n (by omega), decide_eq_true hk, Bool.true_and] at h
  cases hf : f k with
  | false => rw [bI_f]; exact h.2 hf
  | true =>
    have h2 := and1 (maskF f n >>> (nI k &&& 31))
    cases hb : bit (maskF f n >>> (nI k &&& 31)) 0 with
    | false =>
      rw [hb, bI_f] at h2
      have := h.1 h2
      rw [hf] at this
      cases this
    | true => rw [hb] at h2; exact h2
theorem z_shl {k : Nat} (hk : k < 25) : (0 : Int32) <<< (nI k &&& 31) = 0 := by
  have : ∀ j : Fin 25, (0 : Int32) <<< (nI j.1 &&& 31) = 0 := by decide
  exact this ⟨k, hk⟩
theorem mask_st {f : Nat → Bool} {k : Nat} (hk : k < 25) : maskF f k ||| (bI (f k) <<< (nI k &&& 31)) = maskF f (k + 1) := by
  rw [maskF]
  cases hf : f k with
  | false => rw [bI_f, z_shl hk, if_neg (by decide)]
  | true => rw [bI_t, if_pos rfl]
theorem mAt_self {A : Nat → Int32} {n k : Nat} (hW : WF A n) (hk : k < n) : mAt A n (gA A k 0) (gA A k 1) = some k := by
  cases hm : mAt A n (gA A k 0) (gA A k 1) with
  | none => exact absurd ⟨rfl, rfl⟩ (mAt_none hm k hk)
  | some j =>
    obtain ⟨h1, h2, h3⟩ := mAt_lt hm
    rw [hW.2.2.1 j k h1 hk h2 h3]
section IW
variable {x y : Nat} {A B : Nat → Int32} {H G : List (Nat → Int32)}
theorem in_self {n k : Nat} (hW : WF A n) (hk : k < n) : inO A n (gA A k 0) (gA A k 1) = nI k := by
  obtain ⟨a0, a1, -⟩ := hW.2.1 k hk
  unfold inO
  rw [if_pos ⟨⟨a0.1, by have := a0.2; omega⟩, ⟨a1.1, by have := a1.2; omega⟩⟩, mAt_self hW hk]
  rfl
theorem iw_74 (hW : WS A (nO A)) {i53 i54 i55 i56 : Int32} (kx : Int32 → Int32 → Int32 → Hp → Option (Int32 × Hp)) : ∀ (c k f : Nat) (s : Hp), k + c = nO A → c < f → St x y A H B G s → ∃ s', D_L_isWell_w74 x (nI (nO A)) i53 i54 i55 i56 kx f (sumF (fun i => gA A i 3) k) (maskF (blk A (nO A)) k) 1 (nI k) s = kx (sumF (fun i => gA A i 3) (nO A)) (maskF (blk A (nO A)) (nO A)) 1 s' ∧ St x y A H B G s' := by
  intro c
  have hn := hW.2
  induction c with
  | zero =>
    intro k f s hk hf h
    obtain ⟨f, rfl⟩ : ∃ g, f = g + 1 := ⟨f - 1, by omega⟩
    have hk : k = nO A := by omega
    refine ⟨s, ?_, h⟩
    unfold D_L_isWell_w74
    rw [hk, if_pos (Int32.le_refl _)]
  | succ c ih =>
    intro k f s hk hf h
    obtain ⟨f, rfl⟩ : ∃ g, f = g + 1 := ⟨f - 1, by omega⟩
    have hkn : k < nO A := by omega
    obtain ⟨-, -, -, a3⟩ := hW.1.2.1 k hkn
    obtain ⟨s1, e1, h1⟩ := q_of h (nI k) 3
    obtain ⟨s2, e2, h2⟩ := q_of h1 (nI k) 4
    obtain ⟨s3, e3, h3⟩ := q_of h2 (nI k) 0
    obtain ⟨s4, e4, h4⟩ := q_of h3 (nI k) 1
    obtain ⟨s5, e5, h5⟩ := q_in h4 (gA A k 0) (gA A k 1)
    obtain ⟨s6, e6, h6⟩ := q_of h5 (nI k) 3
    rw [of_3 hkn (by omega)] at e1 e6
    rw [of_4 hkn (by omega)] at e2
    rw [of_0 hkn (by omega)] at e3
    rw [of_1 hkn (by omega)] at e4
    rw [in_self hW.1 hkn] at e5
    obtain ⟨s', e7, h7⟩ := ih (k + 1) f s6 (by omega) (by omega) h6
    refine ⟨s', ?_, h7⟩
    rw [sumF, ← mask_st (by omega)] at e7
    unfold D_L_isWell_w74
    rw [if_neg (nI_ge (a := k) (b := nO A) hkn (by omega)), if_neg (by decide), e1, bd_some, nm_eq, e2, bd_some, nm_eq, e3, bd_some, e4, bd_some, e5, bd_some, if_pos rfl, e6, bd_some, if_neg (by rw [pu_lt, show (100 : Int32).toInt = 100 from rfl]; omega)]
    unfold D_L_isWell_b152
    rw [nI_1]
    exact e7
end IW
