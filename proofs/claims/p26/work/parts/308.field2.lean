theorem x_isAim (a : Int32) (σ : Hp) : D_X9_isAimPoint a σ = some (if rng a 0 3 then 1 else 0, σ) := by
  unfold D_X9_isAimPoint
  have z : (0 : Int32).toInt = 0 := rfl
  have z4 : (4 : Int32).toInt = 4 := rfl
  by_cases c1 : a < 0
  · rw [if_pos c1, retZ_0, if_neg (fun q => by rw [pu_lt, z] at c1; have := q.1; omega)]
  · rw [if_neg c1]
    rw [pu_lt, z] at c1
    by_cases c2 : 4 ≤ a
    · rw [if_pos c2, retZ_0, if_neg (fun q => by rw [pu_le, z4] at c2; have := q.2; omega)]
    · rw [if_neg c2, retZ_1, if_pos ⟨by omega, by rw [pu_le, z4] at c2; omega⟩]
theorem x_isChoice (a : Int32) (σ : Hp) : D_X9_isChoice a σ = some (if rng a 0 1 then 1 else 0, σ) := by
  unfold D_X9_isChoice
  have z : (0 : Int32).toInt = 0 := rfl
  have z4 : (1 : Int32).toInt = 1 := rfl
  by_cases c1 : a = 0
  · rw [if_pos c1, retZ_1, if_pos (by rw [c1]; decide)]
  · rw [if_neg c1]
    by_cases c2 : a = 1
    · rw [if_pos c2, retZ_1, if_pos (by rw [c2]; decide)]
    · rw [if_neg c2, retZ_0, if_neg]
      intro q
      rw [pu_eq, z] at c1
      rw [pu_eq, z4] at c2
      have := q.1
      have := q.2
      omega
theorem x_isPlace (r c : Int32) (σ : Hp) : D_X9_isPlace r c σ = some (if rng r 0 19 ∧ rng c 0 19 then 1 else 0, σ) := by
  unfold D_X9_isPlace
  have z : (0 : Int32).toInt = 0 := rfl
  have z4 : (20 : Int32).toInt = 20 := rfl
  by_cases c1 : r < 0
  · rw [if_pos c1, retZ_0, if_neg (fun q => by rw [pu_lt, z] at c1; have := q.1.1; omega)]
  · rw [if_neg c1]
    rw [pu_lt, z] at c1
    by_cases c2 : 20 ≤ r
    · rw [if_pos c2, retZ_0, if_neg (fun q => by rw [pu_le, z4] at c2; have := q.1.2; omega)]
    · rw [if_neg c2]
      rw [pu_le, z4] at c2
      by_cases c3 : c < 0
      · rw [if_pos c3, retZ_0, if_neg (fun q => by rw [pu_lt, z] at c3; have := q.2.1; omega)]
      · rw [if_neg c3]
        rw [pu_lt, z] at c3
        by_cases c4 : 20 ≤ c
        · rw [if_pos c4, retZ_0, if_neg (fun q => by rw [pu_le, z4] at c4; have := q.2.2; omega)]
        · rw [if_neg c4, retZ_1]
          rw [pu_le, z4] at c4
          rw [if_pos ⟨⟨by omega, by omega⟩, by omega, by omega⟩]
section X3
variable {σ : Hp} {x : Nat} {ci cz : Nat → Nat → Int32} {F n : Nat} {A : Nat → Int32}
theorem FA.setz (h : FA ci cz F A n) {i : Nat} (hi : i < 3) (v : Int32) : FA (va_up ci (F + 1 + 1) (upd (ci (F + 1 + 1)) i v)) cz F (upd A i v) n := by
  obtain ⟨h0, h1, h2⟩ := h
  refine ⟨by rw [upd_ne (by omega), upd_ne (by omega), upd_ne (by omega), upd_ne (by omega)]; exact h0, fun k hk => ?_, ?_⟩
  · rw [up_eq]
    by_cases q : k = i
    · rw [q, upd_eq, upd_eq]
    · rw [upd_ne q, upd_ne q]; exact h1 k hk
  · rw [up_ne (by omega), up_ne (by omega), up_ne (by omega), up_ne (by omega), up_ne (by omega)]
    refine ⟨fun k hk => ?_, fun k hk => ?_, fun k hk => ?_, fun k hk => ?_, fun k hk => ?_⟩ <;> rw [gA_upd_ne (by omega)]
    · exact h2.1 k hk
    · exact h2.2.1 k hk
    · exact h2.2.2.1 k hk
    · exact h2.2.2.2.1 k hk
    · exact h2.2.2.2.2 k hk
theorem FA.set2 (h : FA ci cz F A n) {i : Nat} (hi : i < n) (v : Int32) : FA (va_up ci (F + 7 + 1) (upd (ci (F + 7 + 1)) i v)) cz F (upd A (7 + 5 * i + 2) v) n := by
  obtain ⟨h0, h1, h2⟩ := h
  refine ⟨by rw [upd_ne (by omega), upd_ne (by omega), upd_ne (by omega), upd_ne (by omega)]; exact h0, fun k hk => by rw [up_ne (by omega), upd_ne (by omega)]; exact h1 k hk, fun k hk => ?_, fun k hk => ?_, fun k hk => ?_, fun k hk => ?_, fun k hk => ?_⟩
  · rw [up_ne (by omega), gA_upd_ne (by omega)]; exact h2.1 k hk
  · rw [up_ne (by omega), gA_upd_ne (by omega)]; exact h2.2.1 k hk
  · rw [up_eq]
    by_cases q : k = i
    · rw [q, upd_eq, gA_upd_eq]
    · rw [upd_ne q, gA_upd_ne (by omega)]; exact h2.2.2.1 k hk
  · rw [up_ne (by omega), gA_upd_ne (by omega)]; exact h2.2.2.2.1 k hk
  · rw [up_ne (by omega), gA_upd_ne (by omega)]; exact h2.2.2.2.2 k hk
theorem FA.set3 (h : FA ci cz F A n) {i : Nat} (hi : i < n) (v : Int32) : FA (va_up ci (F + 9 + 1) (upd (ci (F + 9 + 1)) i v)) cz F (upd A (7 + 5 * i + 3) v) n := by
  obtain ⟨h0, h1, h2⟩ := h
  refine ⟨by rw [upd_ne (by omega), upd_ne (by omega), upd_ne (by omega), upd_ne (by omega)]; exact h0, fun k hk => by rw [up_ne (by omega), upd_ne (by omega)]; exact h1 k hk, fun k hk => ?_, fun k hk => ?_, fun k hk => ?_, fun k hk => ?_, fun k hk => ?_⟩
  · rw [up_ne (by omega), gA_upd_ne (by omega)]; exact h2.1 k hk
  · rw [up_ne (by omega), gA_upd_ne (by omega)]; exact h2.2.1 k hk
  · rw [up_ne (by omega), gA_upd_ne (by omega)]; exact h2.2.2.1 k hk
  · rw [up_eq]
    by_cases q : k = i
    · rw [q, upd_eq, gA_upd_eq]
    · rw [upd_ne q, gA_upd_ne (by omega)]; exact h2.2.2.2.1 k hk
  · rw [up_ne (by omega), gA_upd_ne (by omega)]; exact h2.2.2.2.2 k hk
theorem FA.set4 (h : FA ci cz F A n) {i : Nat} (hi : i < n) (v : Int32) : FA (va_up ci (F + 11 + 1) (upd (ci (F + 11 + 1)) i v)) cz F (upd A (7 + 5 * i + 4) v) n := by
  obtain ⟨h0, h1, h2⟩ := h
  refine ⟨by rw [upd_ne (by omega), upd_ne (by omega), upd_ne (by omega), upd_ne (by omega)]; exact h0, fun k hk => by rw [up_ne (by omega), upd_ne (by omega)]; exact h1 k hk, fun k hk => ?_, fun k hk => ?_, fun k hk => ?_, fun k hk => ?_, fun k hk => ?_⟩
  · rw [up_ne (by omega), gA_upd_ne (by omega)]; exact h2.1 k hk
  · rw [up_ne (by omega), gA_upd_ne (by omega)]; exact h2.2.1 k hk
  · rw [up_ne (by omega), gA_upd_ne (by omega)]; exact h2.2.2.1 k hk
  · rw [up_ne (by omega), gA_upd_ne (by omega)]; exact h2.2.2.2.1 k hk
  · rw [up_eq]
    by_cases q : k = i
    · rw [q, upd_eq, gA_upd_eq]
    · rw [upd_ne q, gA_upd_ne (by omega)]; exact h2.2.2.2.2 k hk
theorem c_isSet (s v : Int32) (σ : Hp) : D_X2_isSettingValue s v σ = some (if (s = 0 ∧ rng v 1 9999) ∨ (s = 1 ∧ rng v 1 99) ∨ (s = 2 ∧ rng v 0 20) then 1 else 0, σ) := by
  unfold D_X2_isSettingValue
  have z0 : (0 : Int32).toInt = 0 := rfl
  have z1 : (1 : Int32).toInt = 1 := rfl
  have z20 : (20 : Int32).toInt = 20 := rfl
  have z99 : (99 : Int32).toInt = 99 := rfl
  have z9 : (9999 : Int32).toInt = 9999 := rfl
  by_cases h0 : s = 0
  · subst h0
    rw [if_pos rfl]
    by_cases c1 : v < 1
    · rw [if_pos c1, retZ_0, if_neg]
      rw [pu_lt, z1] at c1
      rintro (q | q | q)
      · have := q.2.1; omega
      · exact absurd q.1 (by decide)
      · exact absurd q.1 (by decide)
    · rw [if_neg c1]
      rw [pu_lt, z1] at c1
      by_cases c2 : 9999 < v
      · rw [if_pos c2, retZ_0, if_neg]
        rw [pu_lt, z9] at c2
        rintro (q | q | q)
        · have := q.2.2; omega
        · exact absurd q.1 (by decide)
        · exact absurd q.1 (by decide)
      · rw [if_neg c2, retZ_1]
        rw [pu_lt, z9] at c2
        rw [if_pos (Or.inl ⟨rfl, by omega, by omega⟩)]
  · rw [if_neg h0]
    by_cases h1 : s = 1
    · subst h1
      rw [if_pos rfl]
      by_cases c1 : v < 1
      · rw [if_pos c1, retZ_0, if_neg]
        rw [pu_lt, z1] at c1
        rintro (q | q | q)
        · exact h0 q.1
        · have := q.2.1; omega
        · exact absurd q.1 (by decide)
      · rw [if_neg c1]
        rw [pu_lt, z1] at c1
        by_cases c2 : 99 < v
        · rw [if_pos c2, retZ_0, if_neg]
          rw [pu_lt, z99] at c2
          rintro (q | q | q)
          · exact h0 q.1
          · have := q.2.2; omega
          · exact absurd q.1 (by decide)
        · rw [if_neg c2, retZ_1]
          rw [pu_lt, z99] at c2
          rw [if_pos (Or.inr (Or.inl ⟨rfl, by omega, by omega⟩))]
    · rw [if_neg h1]
      by_cases h2 : s = 2
      · subst h2
        rw [if_pos rfl]
        by_cases c1 : v < 0
        · rw [if_pos c1, retZ_0, if_neg]
          rw [pu_lt, z0] at c1
          rintro (q | q | q)
          · exact h0 q.1
          · exact h1 q.1
          · have := q.2.1; omega
        · rw [if_neg c1]
          rw [pu_lt, z0] at c1
          by_cases c2 : 20 < v
          · rw [if_pos c2, retZ_0, if_neg]
            rw [pu_lt, z20] at c2
            rintro (q | q | q)
            · exact h0 q.1
            · exact h1 q.1
            · have := q.2.2; omega
          · rw [if_neg c2, retZ_1]
            rw [pu_lt, z20] at c2
            rw [if_pos (Or.inr (Or.inr ⟨rfl, by omega, by omega⟩))]
      · rw [if_neg h2, retZ_0, if_neg]
        rintro (q | q | q)
        · exact h0 q.1
        · exact h1 q.1
        · exact h2 q.1
/-- a change of the Field at F -/
def Chg (σ : Hp) (x F : Nat) (ci cz : Nat → Nat → Int32) (D : Option (Int32 × Hp)) (r : OpR) : Prop := ∃ ci' cz', D = some (r.1, xh σ x ci' cz') ∧ FA ci' cz' F r.2 (nO r.2) ∧ fr F (F + 13) ci cz ci' cz'
theorem C_set (hF : FD F) (h : FA ci cz F A n) (hW : WS A n) (s v : Int32) : Chg σ x F ci cz (D_X2_changeSetting (x + F) s v (xh σ x ci cz)) (setO A s v) := by
  unfold D_X2_changeSetting
  rw [xf_o hF.1, Option.bind_some, c_isSet, bd_some]
  have hn := nO_eq (setO_WS (s := s) (v := v) hW)
  unfold setO at hn ⊢
  by_cases c : (s = 0 ∧ rng v 1 9999) ∨ (s = 1 ∧ rng v 1 99) ∨ (s = 2 ∧ rng v 0 20)
  · rw [if_pos c] at hn ⊢
    rw [if_pos c, if_neg (by decide)]
    dsimp only at hn
    have hs : ∃ k : Nat, k < 3 ∧ s = nI k := by
      rcases c with q | q | q
      · exact ⟨0, by omega, q.1⟩
      · exact ⟨1, by omega, q.1⟩
      · exact ⟨2, by omega, q.1⟩
    obtain ⟨k, hk, rfl⟩ := hs
    have ek : (nI k).toInt.toNat = k := by rw [nI_toInt (by omega)]; omega
    rw [ek] at hn ⊢
    rw [xf_0 hF.1, Option.bind_some, c_s hF h hk, bd_some, xf_0 hF.1, Option.bind_some, x_wr hF.2.1.1 hF.2.1.2 hk, Option.bind_some]
    exact ⟨_, _, rfl, by rw [hn]; exact h.setz hk v, fr.rfl.upc (by omega) (by omega)⟩
  · rw [if_neg c] at hn ⊢
    rw [if_neg c, if_pos rfl]
    exact ⟨_, _, rfl, by rw [hn]; exact h, fr.rfl⟩
theorem C_turn (hF : FD F) (h : FA ci cz F A n) (hW : WS A n) (i a : Int32) : Chg σ x F ci cz (D_X2_turn (x + F) i a (xh σ x ci cz)) (aimO A n i a) := by
  unfold D_X2_turn
  rw [xf_o hF.1, Option.bind_some, c_isMirror hF h hW.1, bd_some]
  have hn := nO_eq (aimO_WS (i := i) (a := a) hW)
  unfold aimO at hn ⊢
  by_cases c : rng i 0 ((n : Int) - 1)
  · obtain ⟨k, hk, e, e2⟩ := rng_nat c (by have := hW.2; omega)
    rw [if_neg (show ¬ ¬ rng i 0 ((n : Int) - 1) from fun q => q c)] at hn ⊢
    rw [if_pos c, if_neg (by decide), x_isAim, bd_some]
    by_cases c2 : rng a 0 3
    · rw [if_neg (show ¬ ¬ rng a 0 3 from fun q => q c2)] at hn ⊢
      dsimp only at hn
      rw [e2] at hn ⊢
      rw [if_pos c2, if_neg (by decide), xf_3 hF.1, Option.bind_some, e, c_g2 hF h hW.1.1.1 hk, bd_some, xf_3 hF.1, Option.bind_some, x_wr hF.2.2.2.2.1.1 hF.2.2.2.2.1.2 (by have := hW.2; omega), Option.bind_some]
      exact ⟨_, _, rfl, by rw [hn]; exact h.set2 hk a, fr.rfl.upc (by omega) (by omega)⟩
    · rw [if_pos c2] at hn ⊢
      rw [if_neg c2, if_pos rfl]
      exact ⟨_, _, rfl, by rw [hn]; exact h, fr.rfl⟩
  · rw [if_pos c] at hn ⊢
    rw [if_neg c, if_pos rfl]
    exact ⟨_, _, rfl, by rw [hn]; exact h, fr.rfl⟩
theorem C_clean (hF : FD F) (h : FA ci cz F A n) (hW : WS A n) (i : Int32) : Chg σ x F ci cz (D_X2_clean (x + F) i (xh σ x ci cz)) (wasO A n i) := by
  unfold D_X2_clean
  rw [xf_o hF.1, Option.bind_some, c_isMirror hF h hW.1, bd_some]
  have hn := nO_eq (wasO_WS (i := i) hW)
  unfold wasO at hn ⊢
  by_cases c : rng i 0 ((n : Int) - 1)
  · obtain ⟨k, hk, e, e2⟩ := rng_nat c (by have := hW.2; omega)
    rw [if_neg (show ¬ ¬ rng i 0 ((n : Int) - 1) from fun q => q c)] at hn ⊢
    dsimp only at hn
    rw [e2] at hn ⊢
    rw [if_pos c, if_neg (by decide), xf_4 hF.1, Option.bind_some, e, c_g3 hF h hW.1.1.1 hk, bd_some, xf_4 hF.1, Option.bind_some, x_wr hF.2.2.2.2.2.1.1 hF.2.2.2.2.2.1.2 (by have := hW.2; omega), Option.bind_some]
    exact ⟨_, _, rfl, by rw [hn]; exact h.set3 hk 0, fr.rfl.upc (by omega) (by omega)⟩
  · rw [if_pos c] at hn ⊢
    rw [if_neg c, if_pos rfl]
    exact ⟨_, _, rfl, by rw [hn]; exact h, fr.rfl⟩
theorem FA.wind (h : FA ci cz F A n) (v : Int32) : FA ci (va_up cz F (upd (cz F) 7 v)) F (upd A 4 v) n := by
  obtain ⟨h0, h1, h2⟩ := h
  refine ⟨⟨?_, ?_, ?_, ?_⟩, fun k hk => by rw [upd_ne (by omega)]; exact h1 k hk, fun k hk => ?_, fun k hk => ?_, fun k hk => ?_, fun k hk => ?_, fun k hk => ?_⟩
  · rw [up_eq, upd_ne (by omega), upd_ne (by omega)]; exact h0.1
  · rw [up_eq, upd_eq, upd_eq]
  · rw [up_eq, upd_ne (by omega), upd_ne (by omega)]; exact h0.2.2.1
  · rw [up_eq, upd_ne (by omega), upd_ne (by omega)]; exact h0.2.2.2
  · rw [gA_upd_ne (by omega)]; exact h2.1 k hk
  · rw [gA_upd_ne (by omega)]; exact h2.2.1 k hk
  · rw [gA_upd_ne (by omega)]; exact h2.2.2.1 k hk
  · rw [gA_upd_ne (by omega)]; exact h2.2.2.2.1 k hk
  · rw [gA_upd_ne (by omega)]; exact h2.2.2.2.2 k hk
theorem C_blow (hF : FD F) (h : FA ci cz F A n) (hW : WS A n) (w : Int32) : Chg σ x F ci cz (D_X2_blow (x + F) w (xh σ x ci cz)) (winO A w) := by
  unfold D_X2_blow
  rw [xf_o hF.1, Option.bind_some]
  have hn := nO_eq (winO_WS (w := w) hW)
  unfold winO at hn ⊢
  have z0 : (0 : Int32).toInt = 0 := rfl
  have z99 : (99 : Int32).toInt = 99 := rfl
  by_cases c : rng w 0 99
  · rw [if_neg (show ¬ ¬ rng w 0 99 from fun q => q c)] at hn ⊢
    dsimp only at hn
    rw [if_neg (show ¬ w < 0 by rw [pu_lt, z0]; have := c.1; omega), if_pos (show w ≤ 99 by rw [pu_le, z99]; exact c.2), xf_p7 hF.1, Option.bind_some, c_flat hF (h.wind w), bd_some]
    refine ⟨_, _, ?_, by rw [hn]; exact h.wind w, fr.rfl.upz (by omega) (by omega)⟩
    cases flat (upd A 4 w) <;> rfl
  · rw [if_pos c] at hn ⊢
    refine ⟨_, _, ?_, by rw [hn]; exact h, fr.rfl⟩
    by_cases c1 : w < 0
    · rw [if_pos c1]
    · rw [if_neg c1, if_neg (fun q => c ⟨by rw [pu_lt, z0] at c1; omega, by rw [pu_le, z99] at q; exact q⟩)]
end X3
