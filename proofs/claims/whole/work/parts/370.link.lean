/-! class and reference side by side -/
theorem comm {σ : Hp} {x m : Nat} {ci cz : Nat → Nat → Int32} {it : Nat → Int32} {ar : Nat → Nat → Int32} (h : x + 184 ≤ m) : xh (mh σ m it ar) x ci cz = mh (xh σ x ci cz) m it ar := by
  unfold xh mh
  congr 1
  funext q
  dsimp only
  by_cases c1 : x ≤ q ∧ q < x + 184
  · rw [if_pos c1, if_neg (by omega), if_neg (by omega), if_pos c1]
  · rw [if_neg c1, if_neg c1]
def Inv (x m : Nat) (s : Hp) : Prop := ∃ σ ci cz it ar A n H S p pl, s = xh (mh σ m it ar) x ci cz ∧ XI ci cz A n H S p pl ∧ MI it ar A H S p pl
def Step (x m : Nat) (s : Hp) (D9 D10 : Hp → Option (Int32 × Hp)) : Prop := ∃ v s1 s2, D9 s = some (v, s1) ∧ D10 s1 = some (v, s2) ∧ Inv x m s2
section LI
variable {σ : Hp} {x m : Nat} {ci cz : Nat → Nat → Int32} {it : Nat → Int32} {ar : Nat → Nat → Int32} {p p' : Nat → Int32} {pl pl' n : Nat} {A A' : Nat → Int32} {H H' : List (Nat → Int32)} {S S' : SLT} {v : Int32} {D9 D10 : Hp → Option (Int32 × Hp)}
theorem XI.agr {B : Nat → Int32} (h : XI ci cz A n H S p pl) (e : ∀ k, k < 132 → B k = A k) : XI ci cz B n H S p pl := ⟨⟨h.1.1.agr h.1.2.1.1.1 e, h.1.2.agr e⟩, h.2⟩
theorem stp (hm : x + 184 ≤ m) (h9 : Did (mh σ m it ar) x (D9 (xh (mh σ m it ar) x ci cz)) v A' H' S' p' pl') (h10 : ∀ σ, ∃ it' ar' A2, D10 (mh σ m it ar) = some (v, mh σ m it' ar') ∧ MI it' ar' A2 H' S' p' pl' ∧ agr A2 A') : Step x m (xh (mh σ m it ar) x ci cz) D9 D10 := by
  obtain ⟨c1, z1, n1, w1, w2⟩ := h9
  obtain ⟨it', ar', A2, q1, q2, q3⟩ := h10 (xh σ x c1 z1)
  refine ⟨v, _, _, w1, by rw [comm hm]; exact q1, σ, c1, z1, it', ar', A2, n1, H', S', p', pl', (comm hm).symm, w2.agr q3, q2⟩
theorem agr_rf : agr A A := fun _ _ => rfl
theorem did (h : Ask σ x A n H S p pl (D9 (xh σ x ci cz)) v) : Did σ x (D9 (xh σ x ci cz)) v A H S p pl := by
  obtain ⟨c1, z1, w1, w2⟩ := h
  exact ⟨c1, z1, n, w1, w2⟩
end LI
section LS
variable {x m : Nat} {s : Hp}
theorem s_set (hm : x + 184 ≤ m) (h : Inv x m s) (a b : Int32) : Step x m s (D_X9_set x a b) (D_X10_set m a b) := by
  obtain ⟨σ, ci, cz, it, ar, A, n, H, S, p, pl, rfl, hX, hM⟩ := h
  exact stp hm (X_set hX a b) (fun σ => by
    obtain ⟨it', ar', g1, g2⟩ := M_set (σ := σ) (m := m) a b hM hX.1.2
    exact ⟨it', ar', _, g1, g2, agr_rf⟩)
theorem s_mirror (hm : x + 184 ≤ m) (h : Inv x m s) (a b c : Int32) : Step x m s (D_X9_mirror x a b c) (D_X10_mirror m a b c) := by
  obtain ⟨σ, ci, cz, it, ar, A, n, H, S, p, pl, rfl, hX, hM⟩ := h
  exact stp hm (X_mirror hX a b c) (fun σ => by
    obtain ⟨it', ar', g1, g2⟩ := M_mirror (σ := σ) (m := m) a b c hM hX.1.2
    exact ⟨it', ar', _, g1, g2, agr_rf⟩)
theorem s_take (hm : x + 184 ≤ m) (h : Inv x m s) (a : Int32) : Step x m s (D_X9_take x a) (D_X10_take m a) := by
  obtain ⟨σ, ci, cz, it, ar, A, n, H, S, p, pl, rfl, hX, hM⟩ := h
  exact stp hm (X_take hX a) (fun σ => by
    obtain ⟨it', ar', g1, g2⟩ := M_take (σ := σ) (m := m) a hM hX.1.2
    exact ⟨it', ar', _, g1, g2, agr_rf⟩)
theorem s_aim (hm : x + 184 ≤ m) (h : Inv x m s) (a b : Int32) : Step x m s (D_X9_aim x a b) (D_X10_aim m a b) := by
  obtain ⟨σ, ci, cz, it, ar, A, n, H, S, p, pl, rfl, hX, hM⟩ := h
  exact stp hm (X_aim hX a b) (fun σ => by
    obtain ⟨it', ar', g1, g2⟩ := M_aim (σ := σ) (m := m) a b hM hX.1.2
    exact ⟨it', ar', _, g1, g2, agr_rf⟩)
theorem s_wash (hm : x + 184 ≤ m) (h : Inv x m s) (a : Int32) : Step x m s (D_X9_wash x a) (D_X10_wash m a) := by
  obtain ⟨σ, ci, cz, it, ar, A, n, H, S, p, pl, rfl, hX, hM⟩ := h
  exact stp hm (X_wash hX a) (fun σ => by
    obtain ⟨it', ar', g1, g2⟩ := M_wash (σ := σ) (m := m) a hM hX.1.2
    exact ⟨it', ar', _, g1, g2, agr_rf⟩)
theorem s_wind (hm : x + 184 ≤ m) (h : Inv x m s) (a : Int32) : Step x m s (D_X9_wind x a) (D_X10_wind m a) := by
  obtain ⟨σ, ci, cz, it, ar, A, n, H, S, p, pl, rfl, hX, hM⟩ := h
  exact stp hm (X_wind hX a) (fun σ => by
    obtain ⟨it', ar', g1, g2⟩ := M_wind (σ := σ) (m := m) a hM
    exact ⟨it', ar', _, g1, g2, agr_rf⟩)
theorem s_pass (hm : x + 184 ≤ m) (h : Inv x m s) (a : Int32) : Step x m s (D_X9_pass x a) (D_X10_pass m a) := by
  obtain ⟨σ, ci, cz, it, ar, A, n, H, S, p, pl, rfl, hX, hM⟩ := h
  exact stp hm (X_pass hX a) (fun σ => by
    obtain ⟨it', ar', g1, g2⟩ := M_pass (σ := σ) (m := m) a hM hX.1.2
    exact ⟨it', ar', _, g1, g2, agr_rf⟩)
theorem s_of (hm : x + 184 ≤ m) (h : Inv x m s) (a b : Int32) : Step x m s (D_X9_of x a b) (D_X10_of m a b) := by
  obtain ⟨σ, ci, cz, it, ar, A, n, H, S, p, pl, rfl, hX, hM⟩ := h
  exact stp hm (did (D9 := D_X9_of x a b) (X_of hX a b)) (fun σ => ⟨it, ar, A, M_of (σ := σ) (m := m) a b hM hX.1.2, hM, agr_rf⟩)
theorem s_in (hm : x + 184 ≤ m) (h : Inv x m s) (a b : Int32) : Step x m s (D_X9_in x a b) (D_X10_in m a b) := by
  obtain ⟨σ, ci, cz, it, ar, A, n, H, S, p, pl, rfl, hX, hM⟩ := h
  exact stp hm (did (D9 := D_X9_in x a b) (X_in hX a b)) (fun σ => ⟨it, ar, A, M_in (σ := σ) (m := m) a b hM hX.1.2, hM, agr_rf⟩)
theorem s_at (hm : x + 184 ≤ m) (h : Inv x m s) (a b c : Int32) : Step x m s (D_X9_at x a b c) (D_X10_at m a b c) := by
  obtain ⟨σ, ci, cz, it, ar, A, n, H, S, p, pl, rfl, hX, hM⟩ := h
  exact stp hm (did (D9 := D_X9_at x a b c) (X_at hX a b c)) (fun σ => by
    obtain ⟨ar', g1, g2⟩ := M_at (σ := σ) (m := m) a b c hM hX.1.2
    exact ⟨it, ar', A, g1, hM.scr g2, agr_rf⟩)
theorem s_point (hm : x + 184 ≤ m) (h : Inv x m s) (a b c : Int32) : Step x m s (D_X9_point x a b c) (D_X10_point m a b c) := by
  obtain ⟨σ, ci, cz, it, ar, A, n, H, S, p, pl, rfl, hX, hM⟩ := h
  exact stp hm (did (D9 := D_X9_point x a b c) (X_point hX a b c)) (fun σ => by
    obtain ⟨ar', g1, g2⟩ := M_point (σ := σ) (m := m) a b c hM hX.1.2
    exact ⟨it, ar', A, g1, hM.scr g2, agr_rf⟩)
theorem s_count (hm : x + 184 ≤ m) (h : Inv x m s) (a : Int32) : Step x m s (D_X9_count x a) (D_X10_count m a) := by
  obtain ⟨σ, ci, cz, it, ar, A, n, H, S, p, pl, rfl, hX, hM⟩ := h
  exact stp hm (did (D9 := D_X9_count x a) (X_count hX a)) (fun σ => by
    obtain ⟨ar', g1, g2⟩ := M_count (σ := σ) (m := m) a hM hX.1.2
    exact ⟨it, ar', A, g1, hM.scr g2, agr_rf⟩)
theorem s_worth (hm : x + 184 ≤ m) (h : Inv x m s) (a : Int32) : Step x m s (D_X9_worthLeast x a) (D_X10_worthLeast m a) := by
  obtain ⟨σ, ci, cz, it, ar, A, n, H, S, p, pl, rfl, hX, hM⟩ := h
  exact stp hm (did (D9 := D_X9_worthLeast x a) (X_worth hX a)) (fun σ => by
    obtain ⟨ar', g1, g2⟩ := M_worth (σ := σ) (m := m) a hM hX.1.2
    exact ⟨it, ar', A, g1, hM.scr3 g2, agr_rf⟩)
theorem s_best (hm : x + 184 ≤ m) (h : Inv x m s) (a b c : Int32) : Step x m s (D_X9_bestColumn x a b c) (D_X10_bestColumn m a b c) := by
  obtain ⟨σ, ci, cz, it, ar, A, n, H, S, p, pl, rfl, hX, hM⟩ := h
  exact stp hm (did (D9 := D_X9_bestColumn x a b c) (X_best hX a b c)) (fun σ => by
    obtain ⟨ar', g1, g2⟩ := M_best (σ := σ) (m := m) a b c hM hX.1.2
    exact ⟨it, ar', A, g1, hM.scr3 g2, agr_rf⟩)
theorem s_toWash (hm : x + 184 ≤ m) (h : Inv x m s) : Step x m s (D_X9_toWash x) (D_X10_toWash m) := by
  obtain ⟨σ, ci, cz, it, ar, A, n, H, S, p, pl, rfl, hX, hM⟩ := h
  exact stp hm (did (D9 := D_X9_toWash x) (X_toWash hX)) (fun σ => by
    obtain ⟨ar', g1, g2⟩ := M_toWash (σ := σ) (m := m) hM hX.1.2
    exact ⟨it, ar', A, g1, hM.scr g2, agr_rf⟩)
theorem s_least (hm : x + 184 ≤ m) (h : Inv x m s) : Step x m s (D_X9_leastLimit x) (D_X10_leastLimit m) := by
  obtain ⟨σ, ci, cz, it, ar, A, n, H, S, p, pl, rfl, hX, hM⟩ := h
  exact stp hm (did (D9 := D_X9_leastLimit x) (X_least hX)) (fun σ => by
    obtain ⟨ar', g1, g2⟩ := M_least (σ := σ) (m := m) hM hX.1.2
    exact ⟨it, ar', A, g1, hM.scr g2, agr_rf⟩)
theorem s_put (hm : x + 184 ≤ m) (h : Inv x m s) (l : Int64) : Step x m s (D_X9_put x l) (D_X10_put m l) := by
  obtain ⟨σ, ci, cz, it, ar, A, n, H, S, p, pl, rfl, hX, hM⟩ := h
  by_cases hg : ∃ k, good (ub l) k
  · obtain ⟨k, hg⟩ := hg
    have hx := X_put (σ := mh σ m it ar) (x := x) hX l hg
    have hy := fun σ => M_put (σ := σ) (m := m) l hg hM
    by_cases c : pl + k ≤ 80
    · rw [if_pos c] at hx
      exact stp hm hx (fun σ => by
        obtain ⟨it', ar', g1, g2⟩ := hy σ
        rw [if_pos c] at g1 g2
        exact ⟨it', ar', A, g1, g2, agr_rf⟩)
    · rw [if_neg c] at hx
      exact stp hm hx (fun σ => by
        obtain ⟨it', ar', g1, g2⟩ := hy σ
        rw [if_neg c] at g1 g2
        exact ⟨it', ar', A, g1, g2, agr_rf⟩)
  · have hn : ∀ k, ¬ good (ub l) k := fun k q => hg ⟨k, q⟩
    exact stp hm (⟨ci, cz, n, X_putN l hn, hX⟩ : Did _ x _ (-2) A H S p pl) (fun σ => ⟨it, ar, A, M_putN l hn, hM, agr_rf⟩)
theorem s_wipe (hm : x + 184 ≤ m) (h : Inv x m s) : Step x m s (D_X9_wipe x) (D_X10_wipe m) := by
  obtain ⟨σ, ci, cz, it, ar, A, n, H, S, p, pl, rfl, hX, hM⟩ := h
  exact stp hm (X_wipe hX) (fun σ => by
    obtain ⟨it', g1, g2⟩ := M_wipe (σ := σ) (m := m) hM
    exact ⟨it', ar, A, g1, g2, agr_rf⟩)
theorem s_fault (hm : x + 184 ≤ m) (h : Inv x m s) : Step x m s (D_X9_fault x) (D_X10_fault m) := by
  obtain ⟨σ, ci, cz, it, ar, A, n, H, S, p, pl, rfl, hX, hM⟩ := h
  exact stp hm (X_fault hX) (fun σ => by
    obtain ⟨it', g1, g2⟩ := M_fault (σ := σ) (m := m) hM
    exact ⟨it', ar, A, g1, g2, agr_rf⟩)
theorem s_carry (hm : x + 184 ≤ m) (h : Inv x m s) : Step x m s (D_X9_carryOut x) (D_X10_carryOut m) := by
  obtain ⟨σ, ci, cz, it, ar, A, n, H, S, p, pl, rfl, hX, hM⟩ := h
  by_cases c : fauO p pl = -6
  · obtain ⟨l, hl⟩ := fauO_y hX.2.1.1.2 c
    exact stp hm (X_carry hX hl) (fun σ => by
      obtain ⟨it', ar', g1, g2⟩ := M_carry (σ := σ) (m := m) hM hX.1.2 hl
      exact ⟨it', ar', _, g1, g2, agr_rf⟩)
  · exact stp hm (X_carryN hX c) (fun σ => by
      obtain ⟨it', g1, g2⟩ := M_carryN (σ := σ) (m := m) hM c
      exact ⟨it', ar, A, g1, g2, agr_rf⟩)
theorem s_undo (hm : x + 184 ≤ m) (h : Inv x m s) : Step x m s (D_X9_undo x) (D_X10_undo m) := by
  obtain ⟨σ, ci, cz, it, ar, A, n, H, S, p, pl, rfl, hX, hM⟩ := h
  rcases List.eq_nil_or_concat H with e | ⟨H0, B, e⟩
  · subst e
    exact stp hm (⟨ci, cz, n, X_undo0 hX, hX⟩ : Did _ x _ (-5) A [] S p pl) (fun σ => ⟨it, ar, A, M_undo0 hM, hM, agr_rf⟩)
  · have e : H = H0 ++ [B] := by rw [e]; simp
    subst e
    exact stp hm (X_undo hX) (fun σ => by
      obtain ⟨it', ar', A', g1, g2, g3⟩ := M_undo (σ := σ) (m := m) hM
      exact ⟨it', ar', A', g1, g2, g3⟩)
theorem s_save (hm : x + 184 ≤ m) (h : Inv x m s) (a : Int32) : Step x m s (D_X9_save x a) (D_X10_save m a) := by
  obtain ⟨σ, ci, cz, it, ar, A, n, H, S, p, pl, rfl, hX, hM⟩ := h
  by_cases c : rng a 0 1
  · obtain ⟨q, hq, e, -⟩ := rng_nat (n := 2) ⟨c.1, by have := c.2; omega⟩ (by omega)
    subst e
    exact stp hm (X_save hX hq) (fun σ => by
      obtain ⟨ar', g1, g2⟩ := M_save (σ := σ) (m := m) hq hM
      exact ⟨it, ar', A, g1, g2, agr_rf⟩)
  · exact stp hm (⟨ci, cz, n, X_saveN c, hX⟩ : Did _ x _ (-2) A H S p pl) (fun σ => ⟨it, ar, A, M_saveN c, hM, agr_rf⟩)
theorem s_restore (hm : x + 184 ≤ m) (h : Inv x m s) (a : Int32) : Step x m s (D_X9_restore x a) (D_X10_restore m a) := by
  obtain ⟨σ, ci, cz, it, ar, A, n, H, S, p, pl, rfl, hX, hM⟩ := h
  by_cases c : rng a 0 1
  · obtain ⟨q, hq, e, -⟩ := rng_nat (n := 2) ⟨c.1, by have := c.2; omega⟩ (by omega)
    subst e
    rcases hS : S q with _ | B
    · exact stp hm (⟨ci, cz, n, X_restore0 hX hq hS, hX⟩ : Did _ x _ (-5) A H S p pl) (fun σ => ⟨it, ar, A, M_restore0 hq hM hS, hM, agr_rf⟩)
    · exact stp hm (X_restore hX hq hS) (fun σ => by
        obtain ⟨it', ar', A', g1, g2, g3⟩ := M_restore (σ := σ) (m := m) hq hM hS
        rw [g3 6 (by omega)] at g1
        exact ⟨it', ar', A', g1, g2, g3⟩)
  · exact stp hm (⟨ci, cz, n, X_restoreN c, hX⟩ : Did _ x _ (-2) A H S p pl) (fun σ => ⟨it, ar, A, M_restoreN c, hM, agr_rf⟩)
end LS
