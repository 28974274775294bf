section X4
variable {σ : Hp} {x : Nat} {ci cz : Nat → Nat → Int32} {F n : Nat} {A : Nat → Int32}
theorem c_add (hF : FD F) (h : FA ci cz F A n) (hW : WS A n) (r c a : Int32) (hn : n < 25) : ∃ ci' cz', D_X2_add (x + F) r c a (xh σ x ci cz) = some (nI n, xh σ x ci' cz') ∧ FA ci' cz' F (putA A n r c a) (n + 1) ∧ fr F (F + 13) ci cz ci' cz' := by
  have h6 : cz F 6 = nI n := h.1.1.trans hW.1.1.2
  apply Exists.intro
  apply Exists.intro
  refine ⟨?_, ?_, ?_⟩
  · unfold D_X2_add
    rw [xf_o hF.1, Option.bind_some, xf_6 hF.1, Option.bind_some, h6, xf_1 hF.1, Option.bind_some, x_wr hF.2.2.1.1 hF.2.2.1.2 hn, Option.bind_some, xf_2 hF.1, Option.bind_some, x_wr hF.2.2.2.1.1 hF.2.2.2.1.2 hn, Option.bind_some, xf_3 hF.1, Option.bind_some, x_wr hF.2.2.2.2.1.1 hF.2.2.2.2.1.2 hn, Option.bind_some, xf_4 hF.1, Option.bind_some, x_wr hF.2.2.2.2.2.1.1 hF.2.2.2.2.2.1.2 hn, Option.bind_some, xf_5 hF.1, Option.bind_some, x_wr hF.2.2.2.2.2.2.1 hF.2.2.2.2.2.2.2 hn, Option.bind_some, xf_6 hF.1, Option.bind_some, xf_p6 hF.1, Option.bind_some, h6, nI_1]
  · refine ⟨⟨?_, ?_, ?_, ?_⟩, fun k hk => ?_, fun k hk => ?_, fun k hk => ?_, fun k hk => ?_, fun k hk => ?_, fun k hk => ?_⟩
    · rw [up_eq, upd_eq, putA_6]
    · rw [up_eq, upd_ne (by omega), putA_lo (by omega)]; exact h.1.2.1
    · rw [up_eq, upd_ne (by omega), putA_lo (by omega)]; exact h.1.2.2.1
    · rw [up_eq, upd_ne (by omega), putA_lo (by omega)]; exact h.1.2.2.2
    · rw [up_ne (by omega), up_ne (by omega), up_ne (by omega), up_ne (by omega), up_ne (by omega), putA_lo (by omega)]; exact h.2.1 k hk
    · rw [up_ne (by omega), up_ne (by omega), up_ne (by omega), up_ne (by omega), up_eq]
      by_cases q : k = n
      · rw [q, upd_eq, putA_0]
      · rw [upd_ne q, putA_old (by omega) (by omega)]; exact h.2.2.1 k (by omega)
    · rw [up_ne (by omega), up_ne (by omega), up_ne (by omega), up_eq]
      by_cases q : k = n
      · rw [q, upd_eq, putA_1]
      · rw [upd_ne q, up_ne (by omega), putA_old (by omega) (by omega)]; exact h.2.2.2.1 k (by omega)
    · rw [up_ne (by omega), up_ne (by omega), up_eq]
      by_cases q : k = n
      · rw [q, upd_eq, putA_2]
      · rw [upd_ne q, up_ne (by omega), up_ne (by omega), putA_old (by omega) (by omega)]; exact h.2.2.2.2.1 k (by omega)
    · rw [up_ne (by omega), up_eq]
      by_cases q : k = n
      · rw [q, upd_eq, putA_3]
      · rw [upd_ne q, up_ne (by omega), up_ne (by omega), up_ne (by omega), putA_old (by omega) (by omega)]; exact h.2.2.2.2.2.1 k (by omega)
    · rw [up_eq]
      by_cases q : k = n
      · rw [q, upd_eq, putA_4]
      · rw [upd_ne q, up_ne (by omega), up_ne (by omega), up_ne (by omega), up_ne (by omega), putA_old (by omega) (by omega)]; exact h.2.2.2.2.2.2 k (by omega)
  · exact (((((fr.rfl.upc (by omega) (by omega)).upc (by omega) (by omega)).upc (by omega) (by omega)).upc (by omega) (by omega)).upc (by omega) (by omega)).upz (by omega) (by omega)
theorem C_place (hF : FD F) (h : FA ci cz F A n) (hW : WS A n) (r c a : Int32) : Chg σ x F ci cz (D_X2_place (x + F) r c a (xh σ x ci cz)) (mirO A n r c a) := by
  unfold D_X2_place
  rw [xf_o hF.1, Option.bind_some, x_isPlace, bd_some]
  have n0 : nO A = n := nO_eq hW
  unfold mirO
  by_cases c1 : rng r 0 19 ∧ rng c 0 19
  · rw [if_pos c1, if_neg (by decide), x_isAim, bd_some]
    by_cases c2 : rng a 0 3
    · rw [if_pos c2, if_neg (by decide), c_mirrorIn hF h hW.1, bd_some, if_neg (show ¬ ¬ ((rng r 0 19 ∧ rng c 0 19) ∧ rng a 0 3) from fun q => q ⟨c1, c2⟩)]
      have ho : oI (mAt A n r c) = -6 ↔ mAt A n r c = none := oI_eq (fun j hj => by have := (mAt_lt hj).1; have := hW.2; omega)
      by_cases c3 : mAt A n r c = none
      · rw [if_pos (ho.2 c3), if_neg (show ¬ mAt A n r c ≠ none from fun q => q c3), xf_6 hF.1, Option.bind_some, h.1.1, hW.1.1.2]
        have z24 : (24 : Int32).toInt = 24 := rfl
        by_cases c4 : n = 24
        · rw [if_neg (by rw [pu_lt, nI_toInt (by omega), z24]; omega), if_pos c4]
          exact ⟨_, _, rfl, by rw [n0]; exact h, fr.rfl⟩
        · have hn := hW.2
          rw [if_pos (by rw [pu_lt, nI_toInt (by omega), z24]; omega), if_neg c4]
          obtain ⟨ci', cz', g1, g2, g3⟩ := c_add (σ := σ) (x := x) hF h hW r c a (by omega)
          rw [g1, bd_some]
          refine ⟨ci', cz', rfl, ?_, g3⟩
          have : nO (putA A n r c a) = n + 1 := by unfold nO; rw [putA_6, nI_toInt (by omega)]; omega
          rw [this]
          exact g2
      · rw [if_neg (fun q => c3 (ho.1 q)), if_pos (show mAt A n r c ≠ none from c3)]
        exact ⟨_, _, rfl, by rw [n0]; exact h, fr.rfl⟩
    · rw [if_neg c2, if_pos rfl, if_pos (show ¬ ((rng r 0 19 ∧ rng c 0 19) ∧ rng a 0 3) from fun q => c2 q.2)]
      exact ⟨_, _, rfl, by rw [n0]; exact h, fr.rfl⟩
  · rw [if_neg c1, if_pos rfl, if_pos (show ¬ ((rng r 0 19 ∧ rng c 0 19) ∧ rng a 0 3) from fun q => c1 q.1)]
    exact ⟨_, _, rfl, by rw [n0]; exact h, fr.rfl⟩
theorem lvF_g {f : Nat → Int32} {g : Nat → Int32} {i n : Nat} (hn : n ≤ 24) (h : ∀ k, k < n → f k = g k) {k : Nat} (hk : k < n - 1) : lvF f i 25 k = g (skp i k) := by
  unfold lvF skp
  by_cases q : k < i
  · rw [if_neg (by omega), if_pos q]; exact h k (by omega)
  · rw [if_pos (by omega), if_neg q]; exact h (k + 1) (by omega)
theorem C_remove (hF : FD F) (h : FA ci cz F A n) (hW : WS A n) (i : Int32) : Chg σ x F ci cz (D_X2_remove (x + F) i (xh σ x ci cz)) (takO A n i) := by
  unfold D_X2_remove
  rw [xf_o hF.1, Option.bind_some, c_isMirror hF h hW.1, bd_some]
  have n0 : nO A = n := nO_eq hW
  have hn := hW.2
  unfold takO
  by_cases c : rng i 0 ((n : Int) - 1)
  · obtain ⟨k, hk, e, e2⟩ := rng_nat c (by omega)
    rw [if_neg (show ¬ ¬ rng i 0 ((n : Int) - 1) from fun q => q c), e2, if_pos c, if_neg (by decide), e]
    have h6 : cz F 6 = nI n := h.1.1.trans hW.1.1.2
    have e1 : nI n - 1 = nI (n - 1) := by
      have o : (1 : Int32).toInt = 1 := rfl
      apply i_nI
      · rw [i_sub (by rw [nI_toInt (by omega)]; omega) (by rw [nI_toInt (by omega)]; omega), nI_toInt (by omega), o]
        omega
      · omega
    have en : nO (takeA A n k) = n - 1 := by unfold nO; rw [takeA_6, nI_toInt (by omega)]; omega
    apply Exists.intro
    apply Exists.intro
    refine ⟨?_, ?_, ?_⟩
    · rw [xf_1 hF.1, Option.bind_some, x_lv hF.2.2.1.1 hF.2.2.1.2 (show k < 25 by omega), Option.bind_some, xf_2 hF.1, Option.bind_some, x_lv hF.2.2.2.1.1 hF.2.2.2.1.2 (show k < 25 by omega), Option.bind_some, xf_3 hF.1, Option.bind_some, x_lv hF.2.2.2.2.1.1 hF.2.2.2.2.1.2 (show k < 25 by omega), Option.bind_some, xf_4 hF.1, Option.bind_some, x_lv hF.2.2.2.2.2.1.1 hF.2.2.2.2.2.1.2 (show k < 25 by omega), Option.bind_some, xf_5 hF.1, Option.bind_some, x_lv hF.2.2.2.2.2.2.1 hF.2.2.2.2.2.2.2 (show k < 25 by omega), Option.bind_some, xf_6 hF.1, Option.bind_some, xf_p6 hF.1, Option.bind_some, xf_6 hF.1, Option.bind_some, up_eq, upd_eq, h6, e1]
    · rw [en]
      dsimp only
      refine ⟨⟨?_, ?_, ?_, ?_⟩, fun q hq => ?_, fun q hq => ?_, fun q hq => ?_, fun q hq => ?_, fun q hq => ?_, fun q hq => ?_⟩
      · rw [up_eq, upd_eq, takeA_6]
      · rw [up_eq, upd_ne (by omega), takeA_lo (by omega)]; exact h.1.2.1
      · rw [up_eq, upd_ne (by omega), takeA_lo (by omega)]; exact h.1.2.2.1
      · rw [up_eq, upd_ne (by omega), takeA_lo (by omega)]; exact h.1.2.2.2
      · rw [up_ne (by omega), up_ne (by omega), up_ne (by omega), up_ne (by omega), up_ne (by omega), takeA_lo (by omega)]; exact h.2.1 q hq
      · rw [up_ne (by omega), up_ne (by omega), up_ne (by omega), up_ne (by omega), up_eq, takeA_g hq (by omega)]; exact lvF_g hn h.2.2.1 hq
      · rw [up_ne (by omega), up_ne (by omega), up_ne (by omega), up_eq, up_ne (by omega), takeA_g hq (by omega)]; exact lvF_g hn h.2.2.2.1 hq
      · rw [up_ne (by omega), up_ne (by omega), up_eq, up_ne (by omega), up_ne (by omega), takeA_g hq (by omega)]; exact lvF_g hn h.2.2.2.2.1 hq
      · rw [up_ne (by omega), up_eq, up_ne (by omega), up_ne (by omega), up_ne (by omega), takeA_g hq (by omega)]; exact lvF_g hn h.2.2.2.2.2.1 hq
      · rw [up_eq, up_ne (by omega), up_ne (by omega), up_ne (by omega), up_ne (by omega), takeA_g hq (by omega)]; exact lvF_g hn h.2.2.2.2.2.2 hq
    · exact (((((fr.rfl.upc (by omega) (by omega)).upc (by omega) (by omega)).upc (by omega) (by omega)).upc (by omega) (by omega)).upc (by omega) (by omega)).upz (by omega) (by omega)
  · rw [if_pos c, if_neg c, if_pos rfl]
    exact ⟨_, _, rfl, by rw [n0]; exact h, fr.rfl⟩
theorem c_credit (hF : FD F) (h : FA ci cz F A n) (hn : n ≤ 25) {i : Nat} (hi : i < n) (v : Int32) : ∃ ci', D_X2_credit (x + F) (nI i) v (xh σ x ci cz) = some (xh σ x ci' cz) ∧ FA ci' cz F (upd A (7 + 5 * i + 4) (gA A i 4 + v)) n ∧ ∀ j, j ≠ F + 11 + 1 → ci' j = ci j := by
  refine ⟨_, ?_, h.set4 hi _, fun j hj => up_ne hj⟩
  unfold D_X2_credit
  rw [xf_o hF.1, Option.bind_some, xf_5 hF.1, Option.bind_some, Option.bind_some, c_g4 hF h hn hi, bd_some, x_wr hF.2.2.2.2.2.2.1 hF.2.2.2.2.2.2.2 (by omega), Option.bind_some]
theorem c_endDay_w22 (hF : FD F) (kx : Hp → Option Hp) (hn : n ≤ 25) (h6 : A 6 = nI n) : ∀ (k i f : Nat) (ci : Nat → Nat → Int32), i + k = n → k < f → FA ci cz F (duF A i) n → ∃ ci', D_X2_endDay_w22 (x + F) kx f (nI i) (xh σ x ci cz) = kx (xh σ x ci' cz) ∧ FA ci' cz F (duF A n) n ∧ ∀ j, j ≠ F + 9 + 1 → ci' j = ci j := by
  intro k
  induction k with
  | zero =>
    intro i f ci hi hf h
    obtain ⟨f, rfl⟩ : ∃ g, f = g + 1 := ⟨f - 1, by omega⟩
    have : i = n := by omega
    subst this
    refine ⟨ci, ?_, h, fun _ _ => rfl⟩
    unfold D_X2_endDay_w22
    rw [xf_6 hF.1, Option.bind_some, h.1.1, duF_lo (by omega), h6, if_pos (Int32.le_refl _)]
  | succ k ih =>
    intro i f ci hi hf h
    obtain ⟨f, rfl⟩ : ∃ g, f = g + 1 := ⟨f - 1, by omega⟩
    have h' : FA (va_up ci (F + 9 + 1) (upd (ci (F + 9 + 1)) i (dst (gA (duF A i) i 3) (duF A i 2)))) cz F (duF A (i + 1)) n := h.set3 (by omega) _
    obtain ⟨ci', g1, g2, g3⟩ := ih (i + 1) f _ (by omega) (by omega) h'
    refine ⟨ci', ?_, g2, fun j hj => (g3 j hj).trans (up_ne hj)⟩
    rw [← g1]
    conv => lhs; unfold D_X2_endDay_w22
    have ed : (if gA (duF A i) i 3 + duF A i 2 < 100 then gA (duF A i) i 3 + duF A i 2 else 100) = dst (gA (duF A i) i 3) (duF A i 2) := by
      unfold dst
      by_cases c : gA (duF A i) i 3 + duF A i 2 < 100
      · rw [if_pos c, if_neg (by rw [pu_le]; rw [pu_lt] at c; omega)]
      · rw [if_neg c, if_pos (by rw [pu_le]; rw [pu_lt] at c; omega)]
    rw [xf_6 hF.1, Option.bind_some, h.1.1, duF_lo (by omega), h6, if_neg (nI_ge (a := i) (b := n) (by omega) (by omega)), xf_4 hF.1, Option.bind_some, Option.bind_some, c_g3 hF h hn (by omega), bd_some, xf_0 hF.1, Option.bind_some, show (2 : Int32) = nI 2 from rfl, c_s hF h (by omega), bd_some, nm_eq, ed, x_wr hF.2.2.2.2.2.1.1 hF.2.2.2.2.2.1.2 (by omega), Option.bind_some, nI_1]
theorem c_endDay (hF : FD F) (h : FA ci cz F A n) (hn : n ≤ 25) (h6 : A 6 = nI n) (t : Int32) : ∃ ci' cz', D_X2_endDay (x + F) t (xh σ x ci cz) = some (xh σ x ci' cz') ∧ FA ci' cz' F (duF (upd (upd A 3 (A 3 + 1)) 5 (A 5 + t)) n) n ∧ fr F (F + 13) ci cz ci' cz' := by
  have h' : FA ci (va_up (va_up cz F (upd (cz F) 8 (cz F 8 + 1))) F (upd (upd (cz F) 8 (cz F 8 + 1)) 9 (cz F 9 + t))) F (upd (upd A 3 (A 3 + 1)) 5 (A 5 + t)) n := by
    obtain ⟨h0, h1, h2⟩ := h
    rw [up_up]
    refine ⟨⟨?_, ?_, ?_, ?_⟩, fun k hk => by rw [upd_ne (by omega), upd_ne (by omega)]; exact h1 k hk, fun k hk => ?_, fun k hk => ?_, fun k hk => ?_, fun k hk => ?_, fun k hk => ?_⟩
    · rw [up_eq, upd_ne (by omega), upd_ne (by omega), upd_ne (by omega), upd_ne (by omega)]; exact h0.1
    · rw [up_eq, upd_ne (by omega), upd_ne (by omega), upd_ne (by omega), upd_ne (by omega)]; exact h0.2.1
    · rw [up_eq, upd_ne (by omega), upd_eq, upd_ne (by omega), upd_eq, h0.2.2.1]
    · rw [up_eq, upd_eq, upd_eq, h0.2.2.2]
    · rw [gA_upd_ne (by omega), gA_upd_ne (by omega)]; exact h2.1 k hk
    · rw [gA_upd_ne (by omega), gA_upd_ne (by omega)]; exact h2.2.1 k hk
    · rw [gA_upd_ne (by omega), gA_upd_ne (by omega)]; exact h2.2.2.1 k hk
    · rw [gA_upd_ne (by omega), gA_upd_ne (by omega)]; exact h2.2.2.2.1 k hk
    · rw [gA_upd_ne (by omega), gA_upd_ne (by omega)]; exact h2.2.2.2.2 k hk
  obtain ⟨ci', g1, g2, g3⟩ := c_endDay_w22 (σ := σ) (x := x) hF (fun s30 =>
  some s30
  ) hn (show upd (upd A 3 (A 3 + 1)) 5 (A 5 + t) 6 = nI n by rw [upd_ne (by omega), upd_ne (by omega)]; exact h6) n 0 FU ci (by omega) (by rw [FU_eq]; omega) h'
  refine ⟨ci', _, ?_, g2, fun j hj => ⟨g3 j (by omega), ?_⟩⟩
  · unfold D_X2_endDay
    rw [xf_o hF.1, Option.bind_some, xf_8 hF.1, Option.bind_some, xf_p8 hF.1, Option.bind_some, xf_9 hF.1, Option.bind_some, up_eq, upd_ne (by omega), xf_p9 hF.1, Option.bind_some, up_eq, show (0 : Int32) = nI 0 from rfl]
    exact g1
  · rw [up_ne (by omega), up_ne (by omega)]
theorem C_copy {G : Nat} (hF : FD F) (hG : FD G) (h : FA ci cz G A n) (hn : n ≤ 25) (hd : F + 13 ≤ G ∨ G + 13 ≤ F) : ∃ ci' cz', D_X2_copy (x + F) (x + G) (xh σ x ci cz) = some (xh σ x ci' cz') ∧ FA ci' cz' F A n ∧ fr F (F + 13) ci cz ci' cz' := by
  have z : ∀ (v : Nat → Int32) (cz : Nat → Nat → Int32), va_up cz F v G = cz G := fun v cz => up_ne (by omega)
  apply Exists.intro
  apply Exists.intro
  refine ⟨?_, ?_, ?_⟩
  · unfold D_X2_copy
    rw [xf_o hF.1, Option.bind_some, xf_0 hF.1, Option.bind_some, xf_0 hG.1, Option.bind_some, x_cpy hF.2.1.1 hG.2.1.1 hF.2.1.2 hG.2.1.2, Option.bind_some, xf_1 hF.1, Option.bind_some, xf_1 hG.1, Option.bind_some, x_cpy hF.2.2.1.1 hG.2.2.1.1 hF.2.2.1.2 hG.2.2.1.2, Option.bind_some, xf_2 hF.1, Option.bind_some, xf_2 hG.1, Option.bind_some, x_cpy hF.2.2.2.1.1 hG.2.2.2.1.1 hF.2.2.2.1.2 hG.2.2.2.1.2, Option.bind_some, xf_3 hF.1, Option.bind_some, xf_3 hG.1, Option.bind_some, x_cpy hF.2.2.2.2.1.1 hG.2.2.2.2.1.1 hF.2.2.2.2.1.2 hG.2.2.2.2.1.2, Option.bind_some, xf_4 hF.1, Option.bind_some, xf_4 hG.1, Option.bind_some, x_cpy hF.2.2.2.2.2.1.1 hG.2.2.2.2.2.1.1 hF.2.2.2.2.2.1.2 hG.2.2.2.2.2.1.2, Option.bind_some, xf_5 hF.1, Option.bind_some, xf_5 hG.1, Option.bind_some, x_cpy hF.2.2.2.2.2.2.1 hG.2.2.2.2.2.2.1 hF.2.2.2.2.2.2.2 hG.2.2.2.2.2.2.2, Option.bind_some, xf_6 hG.1, Option.bind_some, xf_p6 hF.1, Option.bind_some, xf_7 hG.1, Option.bind_some, xf_p7 hF.1, Option.bind_some, xf_8 hG.1, Option.bind_some, xf_p8 hF.1, Option.bind_some, xf_9 hG.1, Option.bind_some, xf_p9 hF.1, Option.bind_some, up_eq, up_eq, up_eq, z, z, z, up_up, up_up, up_up]
  · obtain ⟨h0, h1, h2⟩ := h
    refine ⟨⟨?_, ?_, ?_, ?_⟩, fun k hk => ?_, fun k hk => ?_, fun k hk => ?_, fun k hk => ?_, fun k hk => ?_, fun k hk => ?_⟩
    · rw [up_eq, upd_ne (by omega), upd_ne (by omega), upd_ne (by omega), upd_eq]; exact h0.1
    · rw [up_eq, upd_ne (by omega), upd_ne (by omega), upd_eq]; exact h0.2.1
    · rw [up_eq, upd_ne (by omega), upd_eq]; exact h0.2.2.1
    · rw [up_eq, upd_eq, up_ne (by omega), up_ne (by omega), up_ne (by omega)]; exact h0.2.2.2
    · rw [up_ne (by omega), up_ne (by omega), up_ne (by omega), up_ne (by omega), up_ne (by omega), up_eq, fillN_lt (by omega)]; exact h1 k hk
    · rw [up_ne (by omega), up_ne (by omega), up_ne (by omega), up_ne (by omega), up_eq, fillN_lt (by omega), up_ne (by omega)]; exact h2.1 k hk
    · rw [up_ne (by omega), up_ne (by omega), up_ne (by omega), up_eq, fillN_lt (by omega), up_ne (by omega), up_ne (by omega)]; exact h2.2.1 k hk
    · rw [up_ne (by omega), up_ne (by omega), up_eq, fillN_lt (by omega), up_ne (by omega), up_ne (by omega), up_ne (by omega)]; exact h2.2.2.1 k hk
    · rw [up_ne (by omega), up_eq, fillN_lt (by omega), up_ne (by omega), up_ne (by omega), up_ne (by omega), up_ne (by omega)]; exact h2.2.2.2.1 k hk
    · rw [up_eq, fillN_lt (by omega), up_ne (by omega), up_ne (by omega), up_ne (by omega), up_ne (by omega), up_ne (by omega)]; exact h2.2.2.2.2 k hk
  · exact ((((((fr.rfl.upc (by omega) (by omega)).upc (by omega) (by omega)).upc (by omega) (by omega)).upc (by omega) (by omega)).upc (by omega) (by omega)).upc (by omega) (by omega)).upz (by omega) (by omega)
end X4
