theorem FA.congr {ci cz : Nat → Nat → Int32} {F n : Nat} {A B : Nat → Int32} (h : FA ci cz F A n) (h7 : ∀ j, j < 7 → B j = A j) (hg : ∀ i w, i < n → w < 5 → gA B i w = gA A i w) : FA ci cz F B n := by
  obtain ⟨h0, h1, h2⟩ := h
  refine ⟨⟨?_, ?_, ?_, ?_⟩, fun k hk => by rw [h7 k (by omega)]; exact h1 k hk, fun k hk => ?_, fun k hk => ?_, fun k hk => ?_, fun k hk => ?_, fun k hk => ?_⟩
  · rw [h7 6 (by omega)]; exact h0.1
  · rw [h7 4 (by omega)]; exact h0.2.1
  · rw [h7 3 (by omega)]; exact h0.2.2.1
  · rw [h7 5 (by omega)]; exact h0.2.2.2
  · rw [hg k 0 hk (by omega)]; exact h2.1 k hk
  · rw [hg k 1 hk (by omega)]; exact h2.2.1 k hk
  · rw [hg k 2 hk (by omega)]; exact h2.2.2.1 k hk
  · rw [hg k 3 hk (by omega)]; exact h2.2.2.2.1 k hk
  · rw [hg k 4 hk (by omega)]; exact h2.2.2.2.2 k hk
section S1
variable {σ : Hp} {x : Nat} {ci cz : Nat → Nat → Int32} {F n : Nat} {A : Nat → Int32}
theorem LK.congr (hk : LK ci cz F A n) {B : Nat → Int32} (h : ∀ i w, i < n → w < 4 → gA A i w = gA B i w) : LK ci cz F B n := by
  refine ⟨fun i hi hr hh => by rw [← shade_congr h hi hr]; exact hk.1 i hi hr hh, ?_⟩
  rw [hk.2]
  exact maskF_congr n (fun i hi => blk_congr h hi)
theorem c_credU_w2 (hF : FD F) (hL : LD F) (kx : Hp → Option Hp) {u : Nat → Bool} {g : Nat → Int32} (hn : n ≤ 25) (h6 : A 6 = nI n) (hu : ∀ i, bit (cz (F + 13) 7) i = (decide (i < n) && u i)) : ∀ (k i f : Nat) (ci : Nat → Nat → Int32), i + k = n → k < f → FA ci cz F (crF A u g i) n → (∀ i, i < n → ci (F + 13 + 5 + 1) i = g i) → ∃ ci', D_X4_creditUsed_w2 (x + (F + 13)) kx f (nI i) (xh σ x ci cz) = kx (xh σ x ci' cz) ∧ FA ci' cz F (crF A u g n) n ∧ ∀ j, j ≠ F + 11 + 1 → ci' j = ci j := by
  intro k
  induction k with
  | zero =>
    intro i f ci hi hf h hg
    obtain ⟨f, rfl⟩ : ∃ g, f = g + 1 := ⟨f - 1, by omega⟩
    have : i = n := by omega
    subst this
    refine ⟨ci, ?_, h, fun _ _ => rfl⟩
    unfold D_X4_creditUsed_w2
    rw [xl_0 hL.1, Option.bind_some, xf_6 hF.1, Option.bind_some, h.1.1, crF_lo (by omega), h6, if_pos (Int32.le_refl _)]
  | succ k ih =>
    intro i f ci hi hf h hg
    obtain ⟨f, rfl⟩ : ∃ g, f = g + 1 := ⟨f - 1, by omega⟩
    have hin : i < n := by omega
    have hb : bit (cz (F + 13) 7) i = u i := by rw [hu i]; simp [hin]
    have hus : D_X4_isUsed (x + (F + 13)) (nI i) (xh σ x ci cz) = some (bI (u i), xh σ x ci cz) := by
      unfold D_X4_isUsed
      rw [xl_o hL.1, Option.bind_some, xl_7 hL.1, Option.bind_some]
      cases hbb : u i with
      | true => rw [if_neg (fun q => by rw [bit_get _ (by omega), hb, hbb] at q; cases q)]; exact retZ_1 _
      | false => rw [if_pos ((bit_get _ (by omega)).2 (hb.trans hbb)), retZ_0]; rfl
    have hhead : (getR (xh σ x ci cz) (x + (F + 13)) 4 0) = some (x + F) := xl_0 hL.1
    by_cases c : u i = true
    · obtain ⟨c1, w1, w2, w3⟩ := c_credit (σ := σ) (x := x) (cz := cz) hF h hn hin (g i)
      have w2' : FA c1 cz F (crF A u g (i + 1)) n := by
        have e : crF A u g (i + 1) = upd (crF A u g i) (7 + 5 * i + 4) (gA (crF A u g i) i 4 + g i) := by
          rw [crF, c, bI_t, Int32.one_mul]
        rw [e]; exact w2
      obtain ⟨c2, q1, q2, q3⟩ := ih (i + 1) f c1 (by omega) (by omega) w2' (fun j hj => by rw [w3 _ (by omega)]; exact hg j hj)
      refine ⟨c2, ?_, q2, fun j hj => (q3 j hj).trans (w3 j hj)⟩
      rw [← q1]
      conv => lhs; unfold D_X4_creditUsed_w2
      rw [hhead, Option.bind_some, xf_6 hF.1, Option.bind_some, h.1.1, crF_lo (by omega), h6, if_neg (nI_ge (a := i) (b := n) (by omega) (by omega)), hus, bd_some, c, if_neg (by decide), hhead, Option.bind_some, xl_3 hL.1, Option.bind_some, x_rd hL.2.2.2.1.1 hL.2.2.2.1.2 (by omega), bd_some, hg i hin, w1, Option.bind_some, nI_1]
    · have c' : u i = false := by cases hbb : u i with
        | true => exact absurd hbb c
        | false => rfl
      have w2' : FA ci cz F (crF A u g (i + 1)) n := by
        have e : crF A u g (i + 1) = crF A u g i := by
          rw [crF, c', bI_f, Int32.zero_mul, Int32.add_zero]
          exact upd_same
        rw [e]; exact h
      obtain ⟨c2, q1, q2, q3⟩ := ih (i + 1) f ci (by omega) (by omega) w2' hg
      refine ⟨c2, ?_, q2, q3⟩
      rw [← q1]
      conv => lhs; unfold D_X4_creditUsed_w2
      rw [hhead, Option.bind_some, xf_6 hF.1, Option.bind_some, h.1.1, crF_lo (by omega), h6, if_neg (nI_ge (a := i) (b := n) (by omega) (by omega)), hus, bd_some, c', if_pos (show bI false = 0 from rfl), nI_1]
theorem c_credU (hF : FD F) (hL : LD F) (h : FA ci cz F A n) (hW : WF A n) {hr : Nat} (hw : WK ci cz F A n hr) : ∃ ci', D_X4_creditUsed (x + (F + 13)) (xh σ x ci cz) = some (xh σ x ci' cz) ∧ FA ci' cz F (crF A (looks A n hr).2.1 (gv A n hr) n) n ∧ ∀ j, j ≠ F + 11 + 1 → ci' j = ci j := by
  obtain ⟨c2, q1, q2, q3⟩ := c_credU_w2 (σ := σ) (x := x) hF hL (fun s25 =>
  some s25
  ) hW.1.1 hW.1.2 hw.2.2 n 0 FU ci (by omega) (by rw [FU_eq]; have := hW.1.1; omega) h hw.1
  refine ⟨c2, ?_, q2, q3⟩
  unfold D_X4_creditUsed
  rw [xl_o hL.1, Option.bind_some]
  exact q1
end S1
