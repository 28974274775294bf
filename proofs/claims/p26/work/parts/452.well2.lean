/-! isWell: the mirrors of an aim point at an hour -/
section IW2
variable {x y : Nat} {A B : Nat → Int32} {H G : List (Nat → Int32)}
theorem aim_t {a k : Nat} : aimM A (nI a) k = true ↔ gA A k 2 = nI a := by
  unfold aimM
  exact decide_eq_true_iff
theorem iw_228 (hW : WS A (nO A)) {g a : Nat} (hg : g < 11) (ha : a < 4) {i158 i159 i160 i161 i162 i163 i165 : Int32} (kx : Int32 → Int32 → Int32 → Int32 → Hp → Option (Int32 × Hp)) : ∀ (c k f : Nat) (s : Hp), k + c = nO A → c < f → St x y A H B G s → ∃ s', D_L_isWell_w228 x (nI (nO A)) i158 i159 i160 i161 i162 i163 (nI g) i165 (nI a) (maskF (aimM A (nI a)) (nO A)) (maskF (fun i => aimM A (nI a) i && (looks A (nO A) g).2.1 i) (nO A)) kx f 1 (sumF (aS A (gv A (nO A) g) (looks A (nO A) g).2.1 a) k) (sumF (wS A (gv A (nO A) g) a) k) (awF (aimM A (nI a)) (looks A (nO A) g).2.1 (gv A (nO A) g) k) (nI k) s = kx 1 (sumF (aS A (gv A (nO A) g) (looks A (nO A) g).2.1 a) (nO A)) (sumF (wS A (gv A (nO A) g) a) (nO A)) (awF (aimM A (nI a)) (looks A (nO A) g).2.1 (gv A (nO A) g) (nO A)) s' ∧ St x y A H B G s' := by
  intro c
  have hn := hW.2
  induction c with
  | zero =>
    intro k f s hk hf h
    obtain ⟨f, rfl⟩ : ∃ g, f = g + 1 := ⟨f - 1, by omega⟩
    have hk : k = nO A := by omega
    refine ⟨s, ?_, h⟩
    unfold D_L_isWell_w228
    rw [hk, if_pos (Int32.le_refl _)]
  | succ c ih =>
    intro k f s hk hf h
    obtain ⟨f, rfl⟩ : ∃ g, f = g + 1 := ⟨f - 1, by omega⟩
    have hkn : k < nO A := by omega
    have hs1 := sh_bit (f := aimM A (nI a)) hkn hn
    have hs2 := sh_bit (f := fun i => aimM A (nI a) i && (looks A (nO A) g).2.1 i) hkn hn
    obtain ⟨s1, e1, h1⟩ := q_at h (nI k) (nI g) 1
    rw [at_1 hkn (by omega) hg] at e1
    obtain ⟨s2, e2, h2⟩ := q_of h1 (nI k) 2
    rw [of_2 hkn (by omega)] at e2
    cases hit : aimM A (nI a) k with
    | false =>
      rw [hit] at hs1
      rw [hit, Bool.false_and] at hs2
      rw [bI_f] at hs1 hs2
      have hne : ¬ gA A k 2 = nI a := fun q => by rw [aim_t.2 q] at hit; cases hit
      have es : sumF (aS A (gv A (nO A) g) (looks A (nO A) g).2.1 a) (k + 1) = sumF (aS A (gv A (nO A) g) (looks A (nO A) g).2.1 a) k + 0 := by rw [sumF, aS_n hit]
      have ew : sumF (wS A (gv A (nO A) g) a) (k + 1) = sumF (wS A (gv A (nO A) g) a) k + 0 := by
        rw [sumF]; unfold wS; rw [hit]; rfl
      have ea : awF (aimM A (nI a)) (looks A (nO A) g).2.1 (gv A (nO A) g) (k + 1) = awF (aimM A (nI a)) (looks A (nO A) g).2.1 (gv A (nO A) g) k := by
        rw [awF, if_neg (fun q => by rw [hit] at q; cases q.1.1)]
      obtain ⟨s', e7, h7⟩ := ih (k + 1) f s2 (by omega) (by omega) h2
      rw [es, ew, ea] at e7
      refine ⟨s', ?_, h7⟩
      unfold D_L_isWell_w228
      rw [if_neg (nI_ge (a := k) (b := nO A) hkn (by omega)), hs1, if_neg (show ¬ (0 : Int32) = 1 by decide)]
      unfold D_L_isWell_b250
      rw [e1, bd_some, if_neg (show ¬ (1 : Int32) = 0 by decide), e2, bd_some, if_neg hne]
      unfold D_L_isWell_b287
      rw [if_pos (show (0 : Int32) = 0 from rfl), if_pos (show (0 : Int32) = 0 from rfl)]
      unfold D_L_isWell_b314
      rw [if_pos (show (0 : Int32) = 0 from rfl), hs2, if_pos (show (0 : Int32) = 0 from rfl)]
      unfold D_L_isWell_b329 D_L_isWell_b334
      rw [hs2, if_neg (show ¬ (0 : Int32) = 1 by decide)]
      unfold D_L_isWell_b355
      rw [nm_eq, if_pos (show (0 : Int32) = 0 from rfl)]
      unfold D_L_isWell_b371
      rw [nm_eq, if_pos (show (0 : Int32) = 0 from rfl)]
      unfold D_L_isWell_b401 D_L_isWell_b403
      rw [nI_1]
      exact e7
    | true =>
      rw [hit] at hs1
      rw [hit, Bool.true_and] at hs2
      rw [bI_t] at hs1
      have heq : gA A k 2 = nI a := aim_t.1 hit
      obtain ⟨s3, e3, h3⟩ := q_at h2 (nI k) (nI g) 2
      rw [at_2 hkn (by omega) hg] at e3
      have ew : sumF (wS A (gv A (nO A) g) a) (k + 1) = sumF (wS A (gv A (nO A) g) a) k + gv A (nO A) g k := by
        rw [sumF]; unfold wS; rw [hit]; rfl
      obtain ⟨s', e7, h7⟩ := ih (k + 1) f s3 (by omega) (by omega) h3
      refine ⟨s', ?_, h7⟩
      rw [ew] at e7
      unfold D_L_isWell_w228
      rw [if_neg (nI_ge (a := k) (b := nO A) hkn (by omega)), hs1, if_pos (show (1 : Int32) = 1 from rfl)]
      unfold D_L_isWell_b250
      rw [e1, bd_some, if_neg (show ¬ (1 : Int32) = 0 by decide), e2, bd_some, if_pos heq]
      unfold D_L_isWell_b287
      rw [if_pos (show (1 : Int32) = 1 from rfl), if_neg (show ¬ (1 : Int32) = 0 by decide), e3, bd_some, hs2, if_pos rfl]
      unfold D_L_isWell_b314
      rw [if_neg (show ¬ (1 : Int32) = 0 by decide)]
      unfold D_L_isWell_b329 D_L_isWell_b334
      rw [hs2]
      cases hu : (looks A (nO A) g).2.1 k with
      | true =>
        have es : sumF (aS A (gv A (nO A) g) (looks A (nO A) g).2.1 a) (k + 1) = sumF (aS A (gv A (nO A) g) (looks A (nO A) g).2.1 a) k + gv A (nO A) g k := by rw [sumF, aS_t hit hu]
        have ea : awF (aimM A (nI a)) (looks A (nO A) g).2.1 (gv A (nO A) g) (k + 1) = awF (aimM A (nI a)) (looks A (nO A) g).2.1 (gv A (nO A) g) k := by
          rw [awF, if_neg (fun q => by rw [hu] at q; cases q.1.2)]
        rw [es, ea] at e7
        rw [hu, bI_t] at hs2
        rw [if_pos (show bI true = 1 from rfl)]
        unfold D_L_isWell_b355
        rw [nm_eq, if_neg (show ¬ (1 : Int32) = 0 by decide)]
        unfold D_L_isWell_b371
        rw [nm_eq, if_neg (show ¬ (1 : Int32) = 0 by decide), hs2, if_neg (show ¬ (1 : Int32) = 0 by decide)]
        unfold D_L_isWell_b401 D_L_isWell_b403
        rw [nI_1]
        exact e7
      | false =>
        have es : sumF (aS A (gv A (nO A) g) (looks A (nO A) g).2.1 a) (k + 1) = sumF (aS A (gv A (nO A) g) (looks A (nO A) g).2.1 a) k + 0 := by rw [sumF, aS_f hu]
        rw [es] at e7
        rw [hu, bI_f] at hs2
        rw [if_neg (show ¬ bI false = 1 by decide)]
        unfold D_L_isWell_b355
        rw [nm_eq, if_neg (show ¬ (1 : Int32) = 0 by decide)]
        unfold D_L_isWell_b371
        rw [nm_eq, if_neg (show ¬ (1 : Int32) = 0 by decide), hs2, if_pos (show (0 : Int32) = 0 from rfl)]
        by_cases c : awF (aimM A (nI a)) (looks A (nO A) g).2.1 (gv A (nO A) g) k ≤ gv A (nO A) g k
        · have ea : awF (aimM A (nI a)) (looks A (nO A) g).2.1 (gv A (nO A) g) (k + 1) = awF (aimM A (nI a)) (looks A (nO A) g).2.1 (gv A (nO A) g) k := by
            rw [awF, if_neg (fun q => by
              have q2 := q.2
              rw [pu_lt] at q2
              rw [pu_le] at c
              omega)]
          rw [ea] at e7
          rw [if_pos c]
          unfold D_L_isWell_b401 D_L_isWell_b403
          rw [nI_1]
          exact e7
        · have ea : awF (aimM A (nI a)) (looks A (nO A) g).2.1 (gv A (nO A) g) (k + 1) = gv A (nO A) g k := by
            rw [awF, if_pos ⟨⟨hit, hu⟩, by
              rw [pu_le] at c
              rw [pu_lt]
              omega⟩]
          rw [ea] at e7
          rw [if_neg c]
          unfold D_L_isWell_b403
          rw [nI_1]
          exact e7
end IW2
