/-- what the Light at F + 13 holds once it has looked -/
def LK (ci cz : Nat → Nat → Int32) (F : Nat) (A : Nat → Int32) (n : Nat) : Prop := (∀ i, i < n → ∀ h, h < 11 → ci (F + 13 + 3 + 1) (i * 11 + h) = oI (shade A n i h)) ∧ cz (F + 13) 6 = maskF (blk A n) n
section L2
variable {σ : Hp} {x : Nat} {ci cz : Nat → Nat → Int32} {F n : Nat} {A : Nat → Int32}
theorem c_hasB_w33 (hL : LD F) (hW : WF A n) (hg : gridA A n (ci (F + 13 + 1 + 1))) {i : Nat} (hi : i < n) : ∀ (c k f : Nat), 1 ≤ k → k + c = 5 → c < f → D_X4_hasBlocker_w33 (x + (F + 13)) (gA A i 0) (gA A i 1) (bkR A i) (fun s33 => retZ (0 : Int32) ((0 : Int32), s33)) f (nI k) (xh σ x ci cz) = some (bI (bkF A n i c k), xh σ x ci cz) := by
  intro c
  have z4 : (4 : Int32).toInt = 4 := rfl
  have hR := bkR_v hW hi
  obtain ⟨a0, a1, -⟩ := hW.2.1 i hi
  have hR0 : bkR A i ≠ 0 := by rw [Ne, pu_eq, hR]; have e : (0 : Int32).toInt = 0 := rfl; omega
  induction c with
  | zero =>
    intro k f h1 hk hf
    obtain ⟨f, rfl⟩ : ∃ g, f = g + 1 := ⟨f - 1, by omega⟩
    unfold D_X4_hasBlocker_w33
    rw [if_pos (by rw [pu_lt, z4, nI_toInt (by omega)]; omega), retZ_0]
    rfl
  | succ c ih =>
    intro k f h1 hk hf
    obtain ⟨f, rfl⟩ : ∃ g, f = g + 1 := ⟨f - 1, by omega⟩
    unfold D_X4_hasBlocker_w33 bkF
    rw [if_neg (by rw [pu_lt, z4, nI_toInt (by omega)]; omega)]
    by_cases c1 : bkR A i ≤ nI k
    · rw [if_pos c1, if_pos c1, retZ_0]; rfl
    · rw [if_neg c1, if_neg c1, nm_eq]
      unfold remI divI
      rw [if_neg hR0, Option.bind_some, if_neg hR0, Option.bind_some, c_inPlace hL hW hg, bd_some, nI_1, ih (k + 1) f (by omega) (by omega) (by omega)]
      rw [show (10 - gA A i 1) * nI k = bkD A i k from rfl]
      by_cases c2 : bkD A i k - bkD A i k / bkR A i * bkR A i = 0
      · rw [if_pos c2, if_pos c2]
        rcases q : mAt A n (gA A i 0 - nI k) (gA A i 1 + bkD A i k / bkR A i) with _ | j
        · rw [if_pos (show oI none = -6 from rfl), if_pos rfl]
        · rw [if_neg (show ¬ oI (some j) = -6 from oI_ne (by have := (mAt_lt q).1; have := hW.1.1; omega)), if_neg (by simp), retZ_1]
          rfl
      · rw [if_neg c2, if_neg c2]
theorem c_hasB (hF : FD F) (hL : LD F) (h : FA ci cz F A n) (hW : WF A n) (hg : gridA A n (ci (F + 13 + 1 + 1))) {i : Nat} (hi : i < n) : D_X4_hasBlocker (x + (F + 13)) (nI i) (xh σ x ci cz) = some (bI (blk A n i), xh σ x ci cz) := by
  unfold D_X4_hasBlocker
  rw [xl_o hL.1, Option.bind_some, xl_0 hL.1, Option.bind_some, xf_1 hF.1, Option.bind_some, c_g0 hF h hW.1.1 hi, bd_some, xl_0 hL.1, Option.bind_some, xf_2 hF.1, Option.bind_some, c_g1 hF h hW.1.1 hi, bd_some, nm_eq, show (1 : Int32) = nI 1 from rfl, ← bk_eq hW hi]
  exact c_hasB_w33 hL hW hg hi 4 1 FU (by omega) (by omega) (by rw [FU_eq]; omega)
theorem FA.upL (h : FA ci cz F A n) {k : Nat} (hk : F + 13 ≤ k) (f : Nat → Int32) : FA (va_up ci k f) cz F A n := h.fr (a := F + 13) (b := k + 1) (fr.rfl.upc hk (by omega)) (Or.inl (Nat.le_refl _))
theorem c_look_w11 (hF : FD F) (hL : LD F) (hW : WF A n) (kx : Hp → Option Hp) : ∀ (k i f : Nat) (ci : Nat → Nat → Int32), i + k = n → k < f → FA ci cz F A n → gridA A i (ci (F + 13 + 1 + 1)) → ∃ ci', D_X4_look_w11 (x + (F + 13)) kx f (nI i) (xh σ x ci cz) = kx (xh σ x ci' cz) ∧ gridA A n (ci' (F + 13 + 1 + 1)) ∧ ∀ j, j ≠ F + 13 + 1 + 1 → ci' j = ci j := by
  intro k
  have hn := hW.1.1
  induction k with
  | zero =>
    intro i f ci hi hf h hg
    obtain ⟨f, rfl⟩ : ∃ g, f = g + 1 := ⟨f - 1, by omega⟩
    have : i = n := by omega
    subst this
    refine ⟨ci, ?_, hg, fun _ _ => rfl⟩
    unfold D_X4_look_w11
    rw [xl_0 hL.1, Option.bind_some, xf_6 hF.1, Option.bind_some, h.1.1, hW.1.2, if_pos (Int32.le_refl _)]
  | succ k ih =>
    intro i f ci hi hf h hg
    obtain ⟨f, rfl⟩ : ∃ g, f = g + 1 := ⟨f - 1, by omega⟩
    have hin : i < n := by omega
    obtain ⟨ci', g1, g2, g3⟩ := ih (i + 1) f (va_up ci (F + 13 + 1 + 1) (upd (ci (F + 13 + 1 + 1)) (pos A i) (nI i))) (by omega) (by omega) (h.upL (by omega) _) (by rw [up_eq]; exact hg.s hW hin)
    refine ⟨ci', ?_, g2, fun j hj => (g3 j hj).trans (up_ne hj)⟩
    rw [← g1]
    conv => lhs; unfold D_X4_look_w11
    rw [xl_0 hL.1, Option.bind_some, xf_6 hF.1, Option.bind_some, h.1.1, hW.1.2, if_neg (nI_ge (a := i) (b := n) (by omega) (by omega)), xl_1 hL.1, Option.bind_some, Option.bind_some, xf_1 hF.1, Option.bind_some, c_g0 hF h hn hin, bd_some, xl_0 hL.1, Option.bind_some, xf_2 hF.1, Option.bind_some, c_g1 hF h hn hin, bd_some, pos_i hW hin, x_wr hL.2.1.1 hL.2.1.2 (pos_lt hW hin), Option.bind_some, nI_1]
theorem sh_i {i h : Nat} : nI i * 11 + nI h = nI (i * 11 + h) := by
  rw [show (11 : Int32) = nI 11 from rfl, pk_mul, nI_add]
theorem c_look_w102 (hF : FD F) (hL : LD F) (hW : WF A n) {i : Nat} (hi : i < n) (kx : Hp → Option Hp) : ∀ (c h f : Nat) (ci : Nat → Nat → Int32), h + c = 11 → c < f → FA ci cz F A n → gridA A n (ci (F + 13 + 1 + 1)) → ∃ ci', D_X4_look_w102 (x + (F + 13)) (nI i) kx f (nI h) (xh σ x ci cz) = kx (xh σ x ci' cz) ∧ (∀ q, h ≤ q → q < 11 → ci' (F + 13 + 3 + 1) (i * 11 + q) = oI (shade A n i q)) ∧ (∀ q, (q < i * 11 + h ∨ i * 11 + 11 ≤ q) → ci' (F + 13 + 3 + 1) q = ci (F + 13 + 3 + 1) q) ∧ ∀ j, j ≠ F + 13 + 3 + 1 → ci' j = ci j := by
  intro c
  have hn := hW.1.1
  induction c with
  | zero =>
    intro h f ci hh hf hA hg
    obtain ⟨f, rfl⟩ : ∃ g, f = g + 1 := ⟨f - 1, by omega⟩
    have : h = 11 := by omega
    subst this
    refine ⟨ci, ?_, fun q h1 h2 => by omega, fun _ _ => rfl, fun _ _ => rfl⟩
    unfold D_X4_look_w102
    rw [if_pos (by decide)]
  | succ c ih =>
    intro h f ci hh hf hA hg
    obtain ⟨f, rfl⟩ : ∃ g, f = g + 1 := ⟨f - 1, by omega⟩
    obtain ⟨ci', g1, g2, g3, g4⟩ := ih (h + 1) f (va_up ci (F + 13 + 3 + 1) (upd (ci (F + 13 + 3 + 1)) (i * 11 + h) (oI (shade A n i h)))) (by omega) (by omega) (hA.upL (by omega) _) (by rw [up_ne (by omega)]; exact hg)
    refine ⟨ci', ?_, fun q h1 h2 => ?_, fun q hq => ?_, fun j hj => (g4 j hj).trans (up_ne hj)⟩
    · rw [← g1]
      conv => lhs; unfold D_X4_look_w102
      rw [if_neg (show ¬ (11 : Int32) ≤ nI h from nI_ge (a := h) (b := 11) (by omega) (by omega)), xl_2 hL.1, Option.bind_some, c_near hF hL hA hW hg hi (by omega), bd_some, sh_i, x_wr hL.2.2.1.1 hL.2.2.1.2 (by omega), Option.bind_some, nI_1]
    · by_cases e : q = h
      · rw [e, g3 _ (by omega), up_eq, upd_eq]
      · exact g2 q (by omega) h2
    · rw [g3 q (by omega), up_eq, upd_ne (by omega)]
theorem c_look_w69 (hF : FD F) (hL : LD F) (hW : WF A n) (kx : Hp → Option Hp) : ∀ (k i f : Nat) (ci cz : Nat → Nat → Int32), i + k = n → k < f → FA ci cz F A n → gridA A n (ci (F + 13 + 1 + 1)) → cz (F + 13) 6 = maskF (blk A n) i → ∃ ci' cz', D_X4_look_w69 (x + (F + 13)) kx f (nI i) (xh σ x ci cz) = kx (xh σ x ci' cz') ∧ (∀ j, i ≤ j → j < n → ∀ h, h < 11 → ci' (F + 13 + 3 + 1) (j * 11 + h) = oI (shade A n j h)) ∧ (∀ q, q < i * 11 → ci' (F + 13 + 3 + 1) q = ci (F + 13 + 3 + 1) q) ∧ cz' (F + 13) 6 = maskF (blk A n) n ∧ (∀ j, j ≠ F + 13 + 3 + 1 → ci' j = ci j) ∧ ∀ j, j ≠ F + 13 → cz' j = cz j := by
  intro k
  have hn := hW.1.1
  induction k with
  | zero =>
    intro i f ci cz hi hf h hg hb
    obtain ⟨f, rfl⟩ : ∃ g, f = g + 1 := ⟨f - 1, by omega⟩
    have : i = n := by omega
    subst this
    refine ⟨ci, cz, ?_, fun j h1 h2 => by omega, fun _ _ => rfl, hb, fun _ _ => rfl, fun _ _ => rfl⟩
    unfold D_X4_look_w69
    rw [xl_0 hL.1, Option.bind_some, xf_6 hF.1, Option.bind_some, h.1.1, hW.1.2, if_pos (Int32.le_refl _)]
  | succ k ih =>
    intro i f ci cz hi hf h hg hb
    obtain ⟨f, rfl⟩ : ∃ g, f = g + 1 := ⟨f - 1, by omega⟩
    have hin : i < n := by omega
    -- the bits first, then the hours
    have body : ∀ cz1 : Nat → Nat → Int32, (∀ j, j ≠ F + 13 → cz1 j = cz j) → cz1 (F + 13) 6 = maskF (blk A n) (i + 1) → D_X4_look_w69 (x + (F + 13)) kx (f + 1) (nI i) (xh σ x ci cz) = D_X4_look_b100 (D_X4_look_w69 (x + (F + 13)) kx f) (x + (F + 13)) (nI i) (xh σ x ci cz1) → ∃ ci' cz', D_X4_look_w69 (x + (F + 13)) kx (f + 1) (nI i) (xh σ x ci cz) = kx (xh σ x ci' cz') ∧ (∀ j, i ≤ j → j < n → ∀ h, h < 11 → ci' (F + 13 + 3 + 1) (j * 11 + h) = oI (shade A n j h)) ∧ (∀ q, q < i * 11 → ci' (F + 13 + 3 + 1) q = ci (F + 13 + 3 + 1) q) ∧ cz' (F + 13) 6 = maskF (blk A n) n ∧ (∀ j, j ≠ F + 13 + 3 + 1 → ci' j = ci j) ∧ ∀ j, j ≠ F + 13 → cz' j = cz j := by
      intro cz1 hz1 hz2 e
      have h1 : FA ci cz1 F A n := h.fr (a := F + 13) (b := F + 14) (fun j hj => ⟨rfl, hz1 j (by omega)⟩) (Or.inl (Nat.le_refl _))
      obtain ⟨ci2, w1, w2, w3, w4⟩ := c_look_w102 (σ := σ) (x := x) (cz := cz1) hF hL hW hin (fun s53 => D_X4_look_w69 (x + (F + 13)) kx f (nI i + 1) s53) 11 0 FU ci (by omega) (by rw [FU_eq]; omega) h1 hg
      have h2 : FA ci2 cz1 F A n := h1.fr (a := F + 13) (b := F + 24) (fun j hj => ⟨w4 j (by omega), rfl⟩) (Or.inl (Nat.le_refl _))
      obtain ⟨ci3, cz3, q1, q2, q3, q4, q5, q6⟩ := ih (i + 1) f ci2 cz1 (by omega) (by omega) h2 (by rw [w4 _ (by omega)]; exact hg) hz2
      refine ⟨ci3, cz3, ?_, fun j h1 h2 hh hlt => ?_, fun q hq => ?_, q4, fun j hj => (q5 j hj).trans (w4 j hj), fun j hj => (q6 j hj).trans (hz1 j hj)⟩
      · rw [e, ← q1]
        unfold D_X4_look_b100
        rw [show (0 : Int32) = nI 0 from rfl, w1, nI_1]
      · by_cases e : j = i
        · rw [e, q3 _ (by omega)]
          exact w2 hh (by omega) hlt
        · exact q2 j (by omega) h2 hh hlt
      · rw [q3 q (by omega)]
        exact w3 q (by omega)
    have em : maskF (blk A n) (i + 1) = maskF (blk A n) i ||| (if blk A n i = true then (1 : Int32) <<< (nI i &&& 31) else 0) := rfl
    by_cases c : blk A n i = true
    · refine body (va_up cz (F + 13) (upd (cz (F + 13)) 6 (maskF (blk A n) (i + 1)))) (fun j hj => up_ne hj) (by rw [up_eq, upd_eq]) ?_
      conv => lhs; unfold D_X4_look_w69
      rw [xl_0 hL.1, Option.bind_some, xf_6 hF.1, Option.bind_some, h.1.1, hW.1.2, if_neg (nI_ge (a := i) (b := n) (by omega) (by omega)), c_hasB hF hL h hW hg hin, bd_some, c, if_neg (by decide), xl_6 hL.1, Option.bind_some, xl_p6 hL.1, Option.bind_some, hb, em, if_pos c]
    · refine body cz (fun _ _ => rfl) (by rw [em, if_neg c, Int32.or_zero]; exact hb) ?_
      conv => lhs; unfold D_X4_look_w69
      have c' : blk A n i = false := by cases hbb : blk A n i with
        | true => exact absurd hbb c
        | false => rfl
      rw [xl_0 hL.1, Option.bind_some, xf_6 hF.1, Option.bind_some, h.1.1, hW.1.2, if_neg (nI_ge (a := i) (b := n) (by omega) (by omega)), c_hasB hF hL h hW hg hin, bd_some, c', if_pos (show bI false = 0 from rfl)]
theorem c_look (hF : FD F) (hL : LD F) (h : FA ci cz F A n) (hW : WF A n) : ∃ ci' cz', D_X4_look (x + (F + 13)) (xh σ x ci cz) = some (xh σ x ci' cz') ∧ LK ci' cz' F A n ∧ fr (F + 13) (F + 24) ci cz ci' cz' := by
  generalize h1 : va_up ci (F + 13 + 1 + 1) (fillN (fun _ => -6) 400 (ci (F + 13 + 1 + 1))) = ci1
  have h2 : FA ci1 cz F A n := h1 ▸ h.upL (by omega) _
  have g0 : gridA A 0 (ci1 (F + 13 + 1 + 1)) := ⟨fun j hj => by omega, fun k hk _ => by rw [← h1, up_eq, fillN_lt hk]⟩
  obtain ⟨ci2, w1, w2, w3⟩ := c_look_w11 (σ := σ) (x := x) (cz := cz) hF hL hW (fun s30 =>
  (putI s30 (x + (F + 13)) 4 6 (0 : Int32)).bind fun s31 =>
  D_X4_look_w69 (x + (F + 13)) (fun s59 =>
  some s59
  ) FU (0 : Int32) s31
  ) n 0 FU ci1 (by omega) (by rw [FU_eq]; have := hW.1.1; omega) h2 g0
  generalize h3 : va_up cz (F + 13) (upd (cz (F + 13)) 6 0) = cz1
  have h4 : FA ci2 cz1 F A n := h2.fr (a := F + 13) (b := F + 24) (fun j hj => ⟨w3 j (by omega), by rw [← h3, up_ne (by omega)]⟩) (Or.inl (Nat.le_refl _))
  obtain ⟨ci3, cz3, q1, q2, q3, q4, q5, q6⟩ := c_look_w69 (σ := σ) (x := x) hF hL hW (fun s59 =>
  some s59
  ) n 0 FU ci2 cz1 (by omega) (by rw [FU_eq]; have := hW.1.1; omega) h4 w2 (by rw [← h3, up_eq, upd_eq]; rfl)
  refine ⟨ci3, cz3, ?_, ⟨fun i hi hh hlt => q2 i (by omega) hi hh hlt, q4⟩, fun j hj => ⟨?_, ?_⟩⟩
  · unfold D_X4_look
    rw [xl_o hL.1, Option.bind_some, xl_1 hL.1, Option.bind_some, x_fill hL.2.1.1 hL.2.1.2, Option.bind_some, h1]
    rw [show nI 0 = (0 : Int32) from rfl] at w1 q1
    rw [w1, xl_p6 hL.1, Option.bind_some, h3, q1]
  · rw [q5 j (by omega), w3 j (by omega), ← h1, up_ne (by omega)]
  · rw [q6 j (by omega), ← h3, up_ne (by omega)]
end L2
