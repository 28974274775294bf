/-! isWell: the aim points of an hour -/
section IW3
variable {x y : Nat} {A B : Nat → Int32} {H G : List (Nat → Int32)}
theorem iw_181 (hW : WS A (nO A)) {g : Nat} (hg : g < 11) {i141 i142 i143 i144 : Int32} (b0 : Int32) (kx : Int32 → Int32 → Int32 → Hp → Option (Int32 × Hp)) : ∀ (c a f : Nat) (s : Hp), a + c = 4 → c < f → St x y A H B G s → ∃ s', D_L_isWell_w181 x (nI (nO A)) (A 0) i141 i142 i143 i144 (nI g) kx f (mx4 (looks (upd A 0 9999) (nO A) g).1 a b0) 1 (sumF (looks A (nO A) g).1 a) (nI a) s = kx (mx4 (looks (upd A 0 9999) (nO A) g).1 4 b0) 1 (sumF (looks A (nO A) g).1 4) s' ∧ St x y A H B G s' := by
  intro c
  have hn := hW.2
  have hA0 := hW.1.2.2.2.1
  induction c with
  | zero =>
    intro a f s hk hf h
    obtain ⟨f, rfl⟩ : ∃ g, f = g + 1 := ⟨f - 1, by omega⟩
    have hk : a = 4 := by omega
    subst hk
    refine ⟨s, ?_, h⟩
    unfold D_L_isWell_w181
    rw [if_pos (show (4 : Int32) ≤ nI 4 by decide)]
  | succ c ih =>
    intro a f s hk hf h
    obtain ⟨f, rfl⟩ : ∃ g, f = g + 1 := ⟨f - 1, by omega⟩
    have ha : a < 4 := by omega
    obtain ⟨s1, e1, h1⟩ := q_point h (nI a) (nI g) 1
    rw [poi_1 ha hg] at e1
    obtain ⟨s2, e2, h2⟩ := q_point h1 (nI a) (nI g) 2
    rw [poi_2 ha hg] at e2
    have hsum := lk_sum hW.1 hg ha
    have hlim := lk_lim hW.1 hg ha
    have hlea := lea_looks hW hg ha
    have hg60 : ∀ j, j < nO A → (gv A (nO A) g j).toInt ≤ 60 := fun j hj => (gv_in hW.1 hj hg).2
    have hstep : ∀ s3, St x y A H B G s3 → ∃ s', D_L_isWell_b463 (D_L_isWell_w181 x (nI (nO A)) (A 0) i141 i142 i143 i144 (nI g) kx f) x (nI (nO A)) (A 0) i141 i142 i143 (mx4 (looks (upd A 0 9999) (nO A) g).1 a b0) i144 (nI g) (sumF (looks A (nO A) g).1 a) (nI a) ((looks A (nO A) g).1 a) ((looks (upd A 0 9999) (nO A) g).1 a) s3 = kx (mx4 (looks (upd A 0 9999) (nO A) g).1 4 b0) 1 (sumF (looks A (nO A) g).1 4) s' ∧ St x y A H B G s' := by
      intro s3 h3
      obtain ⟨s', e7, h7⟩ := ih (a + 1) f s3 (by omega) (by omega) h3
      refine ⟨s', ?_, h7⟩
      rw [mx4, sumF] at e7
      unfold D_L_isWell_b463 D_L_isWell_b468
      rw [nm_eq]
      by_cases c : (looks (upd A 0 9999) (nO A) g).1 a ≤ mx4 (looks (upd A 0 9999) (nO A) g).1 a b0
      · rw [if_pos c] at e7 ⊢
        unfold D_L_isWell_b491
        rw [nI_1]
        exact e7
      · rw [if_neg c] at e7 ⊢
        unfold D_L_isWell_b491
        rw [nI_1]
        exact e7
    obtain ⟨s3, e3, h3⟩ := iw_228 hW hg ha (i158 := A 0) (i159 := i141) (i160 := i142) (i161 := i143) (i162 := mx4 (looks (upd A 0 9999) (nO A) g).1 a b0) (i163 := i144) (i165 := sumF (looks A (nO A) g).1 a) (fun i455 i456 i457 i458 s454 =>
      if i455 = 0 then
      D_L_isWell_b467 (D_L_isWell_w181 x (nI (nO A)) (A 0) i141 i142 i143 i144 (nI g) kx f) x (nI (nO A)) (A 0) i141 i142 i143 (mx4 (looks (upd A 0 9999) (nO A) g).1 a b0) i144 (nI g) (sumF (looks A (nO A) g).1 a) (nI a) i456 i457 s454
      else
      bd (D_X9_point x (nI a) (nI g) (0 : Int32) s454) fun i517 s518 =>
      if i456 = i517 then
      if (A 0) < i456 then
      D_L_isWell_b467 (D_L_isWell_w181 x (nI (nO A)) (A 0) i141 i142 i143 i144 (nI g) kx f) x (nI (nO A)) (A 0) i141 i142 i143 (mx4 (looks (upd A 0 9999) (nO A) g).1 a b0) i144 (nI g) (sumF (looks A (nO A) g).1 a) (nI a) i456 i457 s518
      else
      if i458 = (1000 : Int32) then
      if (maskF (fun i => aimM A (nI a) i && (looks A (nO A) g).2.1 i) (nO A)) = (maskF (aimM A (nI a)) (nO A)) then
      D_L_isWell_b463 (D_L_isWell_w181 x (nI (nO A)) (A 0) i141 i142 i143 i144 (nI g) kx f) x (nI (nO A)) (A 0) i141 i142 i143 (mx4 (looks (upd A 0 9999) (nO A) g).1 a b0) i144 (nI g) (sumF (looks A (nO A) g).1 a) (nI a) i456 i457 s518
      else
      D_L_isWell_b467 (D_L_isWell_w181 x (nI (nO A)) (A 0) i141 i142 i143 i144 (nI g) kx f) x (nI (nO A)) (A 0) i141 i142 i143 (mx4 (looks (upd A 0 9999) (nO A) g).1 a b0) i144 (nI g) (sumF (looks A (nO A) g).1 a) (nI a) i456 i457 s518
      else
      if (i456 + i458) ≤ (A 0) then
      D_L_isWell_b467 (D_L_isWell_w181 x (nI (nO A)) (A 0) i141 i142 i143 i144 (nI g) kx f) x (nI (nO A)) (A 0) i141 i142 i143 (mx4 (looks (upd A 0 9999) (nO A) g).1 a b0) i144 (nI g) (sumF (looks A (nO A) g).1 a) (nI a) i456 i457 s518
      else
      D_L_isWell_b463 (D_L_isWell_w181 x (nI (nO A)) (A 0) i141 i142 i143 i144 (nI g) kx f) x (nI (nO A)) (A 0) i141 i142 i143 (mx4 (looks (upd A 0 9999) (nO A) g).1 a b0) i144 (nI g) (sumF (looks A (nO A) g).1 a) (nI a) i456 i457 s518
      else
      D_L_isWell_b467 (D_L_isWell_w181 x (nI (nO A)) (A 0) i141 i142 i143 i144 (nI g) kx f) x (nI (nO A)) (A 0) i141 i142 i143 (mx4 (looks (upd A 0 9999) (nO A) g).1 a b0) i144 (nI g) (sumF (looks A (nO A) g).1 a) (nI a) i456 i457 s518
      ) (nO A) 0 FU s2 (by omega) (by rw [FU_eq]; omega) h2
    obtain ⟨s4, e4, h4⟩ := q_point h3 (nI a) (nI g) 0
    rw [poi_0 ha hg] at e4
    obtain ⟨s5, e5, h5⟩ := hstep s4 h4
    refine ⟨s5, ?_, h5⟩
    rw [← hsum, ← hlea, show nI 0 = (0 : Int32) from rfl] at e3
    unfold D_L_isWell_w181
    rw [if_neg (show ¬ (4 : Int32) ≤ nI a from nI_ge (a := a) (b := 4) (by omega) (by omega)), if_neg (show ¬ (1 : Int32) = 0 by decide), e1, bd_some, e2, bd_some]
    refine e3.trans ?_
    rw [if_neg (show ¬ (1 : Int32) = 0 by decide), e4, bd_some, if_pos rfl, if_neg (by rw [pu_lt]; omega)]
    rcases awF_spec (its := aimM A (nI a)) (used := (looks A (nO A) g).2.1) (nO A) hg60 with ⟨q1, q2⟩ | ⟨j, q1, q2, q3, q4⟩
    · have em : maskF (fun i => aimM A (nI a) i && (looks A (nO A) g).2.1 i) (nO A) = maskF (aimM A (nI a)) (nO A) := maskF_congr _ (fun i hi => by
        cases hc : aimM A (nI a) i with
        | false => rfl
        | true => rw [q2 i hi hc]; rfl)
      rw [if_pos q1, if_pos em]
      exact e5
    · have hj60 := gv_in hW.1 q1 hg
      have haw := lk_away hW.1 hg q1 q3
      have hja : (gA A j 2).toInt.toNat = a := by rw [aim_t.1 q2, tn_n (by omega)]
      rw [hja] at haw
      rw [if_neg (by rw [q4, pu_eq, show (1000 : Int32).toInt = 1000 from rfl]; omega), if_neg (by
        rw [q4, pu_le, i_add (by omega) (by omega)]
        omega)]
      exact e5
end IW3
