/-! isWell: the hours, the whole -/
section IW5
variable {x y : Nat} {A B : Nat → Int32} {H G : List (Nat → Int32)}
def hoS (A : Nat → Int32) (n : Nat) (h : Nat) : Int32 := sumF (looks A n h).1 4
theorem hoS_all {n : Nat} (hW : WF A n) : sumF (hoS A n) 11 = brings A n := by
  unfold brings
  rw [bringsF_sum]
  refine sumF_cg 11 (fun h hh => ?_)
  unfold hoS
  rw [lk_all hW hh]
  simp only [sumF]
  rw [Int32.zero_add]
theorem iw_163 (hW : WS A (nO A)) {i129 i130 : Int32} (kx : Int32 → Int32 → Int32 → Hp → Option (Int32 × Hp)) : ∀ (c g f : Nat) (s : Hp), g + c = 11 → c < f → St x y A H B G s → ∃ s', D_L_isWell_w163 x (nI (nO A)) (A 0) i129 i130 (bI (flat A)) kx f (sumF (hoS A (nO A)) g) (llF (upd A 0 9999) (nO A) g) 1 (nI g) s = kx (brings A (nO A)) (leaO A (nO A)) 1 s' ∧ St x y A H B G s' := by
  intro c
  have hn := hW.2
  induction c with
  | zero =>
    intro g f s hk hf h
    obtain ⟨f, rfl⟩ : ∃ g, f = g + 1 := ⟨f - 1, by omega⟩
    have hk : g = 11 := by omega
    subst hk
    refine ⟨s, ?_, h⟩
    unfold D_L_isWell_w163
    rw [if_pos (show (11 : Int32) ≤ nI 11 by decide), hoS_all hW.1]
    rfl
  | succ c ih =>
    intro g f s hk hf h
    obtain ⟨f, rfl⟩ : ∃ g, f = g + 1 := ⟨f - 1, by omega⟩
    have hg : g < 11 := by omega
    obtain ⟨s1, e1, h1⟩ := iw_181 hW hg (i141 := sumF (hoS A (nO A)) g) (i142 := i129) (i143 := i130) (i144 := bI (flat A)) (llF (upd A 0 9999) (nO A) g) (fun i543 i544 i545 s542 =>
      D_L_isWell_b499 (D_L_isWell_w163 x (nI (nO A)) (A 0) i129 i130 (bI (flat A)) kx f) x (nI (nO A)) (A 0) (sumF (hoS A (nO A)) g) i129 i130 i543 (bI (flat A)) i544 (nI g) i545 s542
      ) 4 0 FU s (by omega) (by rw [FU_eq]; omega) h
    obtain ⟨s2, e2, h2⟩ := iw_507 hW hg (i561 := A 0) (i562 := sumF (hoS A (nO A)) g + sumF (looks A (nO A) g).1 4) (i563 := i129) (i564 := i130) (i565 := mx4 (looks (upd A 0 9999) (nO A) g).1 4 (llF (upd A 0 9999) (nO A) g)) (fun i737 s736 =>
      D_L_isWell_w163 x (nI (nO A)) (A 0) i129 i130 (bI (flat A)) kx f (sumF (hoS A (nO A)) g + sumF (looks A (nO A) g).1 4) (mx4 (looks (upd A 0 9999) (nO A) g).1 4 (llF (upd A 0 9999) (nO A) g)) i737 (nI g + 1) s736
      ) (nO A) 0 FU s1 (by omega) (by rw [FU_eq]; omega) h1
    obtain ⟨s', e7, h7⟩ := ih (g + 1) f s2 (by omega) (by omega) h2
    refine ⟨s', ?_, h7⟩
    rw [show mx4 (looks (upd A 0 9999) (nO A) g).1 0 (llF (upd A 0 9999) (nO A) g) = llF (upd A 0 9999) (nO A) g from rfl, show sumF (looks A (nO A) g).1 0 = 0 from rfl, show nI 0 = (0 : Int32) from rfl] at e1
    rw [show nI 0 = (0 : Int32) from rfl] at e2
    unfold D_L_isWell_w163
    rw [if_neg (show ¬ (11 : Int32) ≤ nI g from nI_ge (a := g) (b := 11) (by omega) (by omega)), if_neg (show ¬ (1 : Int32) = 0 by decide)]
    refine e1.trans ?_
    unfold D_L_isWell_b499
    rw [nm_eq]
    refine e2.trans ?_
    rw [nI_1]
    exact e7
theorem iw_all {s : Hp} (h : St x y A H B G s) : ∃ s', D_L_isWell x s = some (1, s') ∧ St x y A H B G s' := by
  have hW := h.ws
  have hn := hW.2
  obtain ⟨s1, e1, h1⟩ := q_count1 h
  rw [hW.1.1.2] at e1
  obtain ⟨s2, e2, h2⟩ := q_count8 h1
  obtain ⟨s3, e3, h3⟩ := q_count3 h2
  obtain ⟨s4, e4, h4⟩ := q_count2 h3
  obtain ⟨s5, e5, h5⟩ := q_count9 h4
  have hrest : ∃ s', D_L_isWell_b69 x (nI (nO A)) (A 0) (0 : Int32) (0 : Int32) (0 : Int32) (1 : Int32) (bI (flat A)) (1 : Int32) s5 = some (1, s') ∧ St x y A H B G s' := by
    obtain ⟨s6, e6, h6⟩ := iw_74 hW (i53 := A 0) (i54 := 0) (i55 := 1) (i56 := bI (flat A)) (fun i113 i114 i115 s112 =>
      D_L_isWell_b160 x (nI (nO A)) (A 0) 0 i113 i114 1 (bI (flat A)) i115 s112
      ) (nO A) 0 FU s5 (by omega) (by rw [FU_eq]; omega) h5
    obtain ⟨s7, e7, h7⟩ := iw_163 hW (i129 := sumF (fun i => gA A i 3) (nO A)) (i130 := maskF (blk A (nO A)) (nO A)) (fun i748 i749 i750 s747 =>
      D_L_isWell_b679 x i748 (sumF (fun i => gA A i 3) (nO A)) (maskF (blk A (nO A)) (nO A)) i749 i750 s747
      ) 11 0 FU s6 (by omega) (by rw [FU_eq]; omega) h6
    obtain ⟨s8, e8, h8⟩ := q_count5 h7
    obtain ⟨s9, e9, h9⟩ := q_count7 h8
    obtain ⟨s10, e10, h10⟩ := q_count6 h9
    obtain ⟨s11, e11, h11⟩ := q_least h10
    refine ⟨s11, ?_, h11⟩
    unfold D_L_isWell_b69
    refine e6.trans ?_
    unfold D_L_isWell_b160
    refine e7.trans ?_
    unfold D_L_isWell_b679
    rw [if_neg (show ¬ (1 : Int32) = 0 by decide), e8, bd_some, if_pos rfl, e9, bd_some, if_pos rfl, e10, bd_some, if_pos rfl, e11, bd_some, if_pos rfl, retZ_1]
  obtain ⟨s', e6, h6⟩ := hrest
  refine ⟨s', ?_, h6⟩
  have h38 : D_L_isWell_b38 x (nI (nO A)) (A 0) (0 : Int32) (0 : Int32) (0 : Int32) (1 : Int32) (bI (flat A)) s3 = some (1, s') := by
    unfold D_L_isWell_b38
    rw [e4, bd_some, e5, bd_some]
    cases hf : flat A with
    | true =>
      have c : A 1 < A 4 := by unfold flat at hf; exact of_decide_eq_true hf
      rw [if_neg (show ¬ A 4 ≤ A 1 by rw [pu_lt] at c; rw [pu_le]; omega)]
      unfold D_L_isWell_b61
      rw [if_pos (show bI true = 1 from rfl)]
      rw [hf] at e6
      exact e6
    | false =>
      have c : ¬ A 1 < A 4 := by unfold flat at hf; exact of_decide_eq_false hf
      rw [if_pos (show A 4 ≤ A 1 by rw [pu_lt] at c; rw [pu_le]; omega)]
      unfold D_L_isWell_b61
      rw [if_pos (show bI false = 0 from rfl)]
      rw [hf] at e6
      exact e6
  unfold D_L_isWell
  rw [e1, bd_some, e2, bd_some, e3, bd_some]
  cases hf : flat A with
  | true =>
    rw [hf] at h38
    rw [if_pos (show bI true = 1 from rfl)]
    exact h38
  | false =>
    rw [hf] at h38
    rw [if_neg (show ¬ bI false = 1 by decide)]
    exact h38
end IW5
