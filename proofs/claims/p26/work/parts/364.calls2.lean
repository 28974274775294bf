section XD
variable {σ : Hp} {x : Nat} {ci cz : Nat → Nat → Int32} {p : Nat → Int32} {pl n : Nat} {A : Nat → Int32} {H : List (Nat → Int32)} {S : SLT} {nx : Nat}
theorem X_count (h : XI ci cz A n H S p pl) (w : Int32) : Ask σ x A n H S p pl (D_X9_count x w (xh σ x ci cz)) (couO A n H.length pl w) := by
  have hn := h.1.2.2
  have hA := h.1.1
  have hW := h.1.2.1
  obtain ⟨nx, hH⟩ := h.2.2.1
  unfold D_X9_count couO
  rw [xm_o, Option.bind_some]
  by_cases c0 : w = 0
  · refine ⟨ci, cz, ?_, h⟩
    rw [if_pos c0, if_pos c0, xm_0, Option.bind_some, xf_8 FD_1.1, Option.bind_some, hA.1.2.2.1]
  rw [if_neg c0, if_neg c0]
  by_cases c1 : w = 1
  · refine ⟨ci, cz, ?_, h⟩
    rw [if_pos c1, if_pos c1, xm_0, Option.bind_some, xf_6 FD_1.1, Option.bind_some, hA.1.1]
  rw [if_neg c1, if_neg c1]
  by_cases c2 : w = 2
  · refine ⟨ci, cz, ?_, h⟩
    rw [if_pos c2, if_pos c2, xm_0, Option.bind_some, xf_7 FD_1.1, Option.bind_some, hA.1.2.1]
  rw [if_neg c2, if_neg c2]
  by_cases c3 : w = 3
  · refine ⟨ci, cz, ?_, h⟩
    rw [if_pos c3, if_pos c3, xm_0, Option.bind_some, c_flat FD_1 hA, bd_some]
    cases flat A <;> rfl
  rw [if_neg c3, if_neg c3]
  by_cases c4 : w = 4
  · refine ⟨ci, cz, ?_, h⟩
    rw [if_pos c4, if_pos c4, xm_0, Option.bind_some, xf_9 FD_1.1, Option.bind_some, hA.1.2.2.2]
  rw [if_neg c4, if_neg c4]
  by_cases c5 : w = 5
  · obtain ⟨c1', z1', w1, w2, w3⟩ := c_look (σ := σ) (x := x) FD_1 LD_1 hA hW
    obtain ⟨c2', z2', q1, q2, q3⟩ := c_day (σ := σ) (x := x) FD_1 LD_1 (hA.fr w3 (Or.inl (Nat.le_refl _))) hW w2
    refine ⟨c2', z2', ?_, h.fr (w3.tr q3) (Or.inl ⟨by omega, by omega⟩)⟩
    rw [if_pos c5, if_pos c5, xm_1, Option.bind_some, w1, Option.bind_some, xm_1, Option.bind_some, q1, bd_some]
  rw [if_neg c5, if_neg c5]
  by_cases c6 : w = 6
  · obtain ⟨c1', z1', w1, w2, w3⟩ := c_look (σ := σ) (x := x) FD_1 LD_1 hA hW
    refine ⟨c1', z1', ?_, h.fr w3 (Or.inl ⟨by omega, by omega⟩)⟩
    rw [if_pos c6, if_pos c6, xm_1, Option.bind_some, w1, Option.bind_some, xm_1, Option.bind_some]
    unfold D_X4_blocked
    rw [show x + 14 = x + (1 + 13) from rfl, xl_o LD_1.1, Option.bind_some, xl_6 LD_1.1, Option.bind_some, bd_some, w2.2]
  rw [if_neg c6, if_neg c6]
  by_cases c7 : w = 7
  · refine ⟨ci, cz, ?_, h⟩
    rw [if_pos c7, if_pos c7, xm_0, Option.bind_some, c_allDust FD_1 hA hW, bd_some]
  rw [if_neg c7, if_neg c7]
  by_cases c8 : w = 8
  · refine ⟨ci, cz, ?_, h⟩
    rw [if_pos c8, if_pos c8, xm_0, Option.bind_some, xf_0 FD_1.1, Option.bind_some, show (0 : Int32) = nI 0 from rfl, c_s FD_1 hA (by omega), bd_some]
  rw [if_neg c8, if_neg c8]
  by_cases c9 : w = 9
  · refine ⟨ci, cz, ?_, h⟩
    rw [if_pos c9, if_pos c9, xm_0, Option.bind_some, xf_0 FD_1.1, Option.bind_some, show (1 : Int32) = nI 1 from rfl, c_s FD_1 hA (by omega), bd_some]
  rw [if_neg c9, if_neg c9]
  by_cases c10 : w = 10
  · refine ⟨ci, cz, ?_, h⟩
    rw [if_pos c10, if_pos c10, xm_0, Option.bind_some, xf_0 FD_1.1, Option.bind_some, show (2 : Int32) = nI 2 from rfl, c_s FD_1 hA (by omega), bd_some]
  rw [if_neg c10, if_neg c10]
  by_cases c11 : w = 11
  · refine ⟨ci, cz, ?_, h⟩
    rw [if_pos c11, if_pos c11, xm_3, Option.bind_some]
    unfold D_X5_length
    rw [xp_o, Option.bind_some, xp_1, Option.bind_some, bd_some, h.2.1.1.1]
  rw [if_neg c11, if_neg c11]
  by_cases c12 : w = 12
  · refine ⟨ci, cz, ?_, h⟩
    rw [if_pos c12, if_pos c12, xm_5, Option.bind_some]
    unfold D_X3_size
    rw [xy_o, Option.bind_some, xy_2, Option.bind_some, bd_some, hH.2.1.2]
  rw [if_neg c12, if_neg c12]
  exact ⟨ci, cz, rfl, h⟩
theorem X_worth (h : XI ci cz A n H S p pl) (w : Int32) : Ask σ x A n H S p pl (D_X9_worthLeast x w (xh σ x ci cz)) (worO A n w) := by
  unfold D_X9_worthLeast worO
  rw [xm_o, Option.bind_some, x_isChoice, bd_some]
  by_cases c : rng w 0 1
  · obtain ⟨c1, z1, w1, w2⟩ := C_worth (σ := σ) (x := x) h.1.1 h.1.2 w
    refine ⟨c1, z1, ?_, h.fr w2 (Or.inl ⟨by omega, by omega⟩)⟩
    rw [if_pos c, if_neg (by decide), if_neg (show ¬ ¬ rng w 0 1 from fun q => q c), xm_2, Option.bind_some, w1, bd_some]
  · rw [if_neg c, if_pos rfl, if_pos c]
    exact ⟨ci, cz, rfl, h⟩
theorem X_best (h : XI ci cz A n H S p pl) (r a w : Int32) : Ask σ x A n H S p pl (D_X9_bestColumn x r a w (xh σ x ci cz)) (besO A n r a w) := by
  unfold D_X9_bestColumn besO
  have z0 : rng 0 0 19 := by decide
  rw [xm_o, Option.bind_some, x_isPlace, bd_some]
  by_cases c1 : rng r 0 19
  · rw [if_pos (show rng r 0 19 ∧ rng 0 0 19 from ⟨c1, z0⟩), if_neg (by decide), x_isAim, bd_some]
    by_cases c2 : rng a 0 3
    · rw [if_pos c2, if_neg (by decide), x_isChoice, bd_some]
      by_cases c3 : rng w 0 1
      · obtain ⟨c1', z1, w1, w2⟩ := C_best (σ := σ) (x := x) h.1.1 h.1.2 c1 c2 w
        refine ⟨c1', z1, ?_, h.fr w2 (Or.inl ⟨by omega, by omega⟩)⟩
        rw [if_pos c3, if_neg (by decide), if_neg (show ¬ ¬ ((rng r 0 19 ∧ rng a 0 3) ∧ rng w 0 1) from fun q => q ⟨⟨c1, c2⟩, c3⟩), xm_2, Option.bind_some, w1, bd_some]
      · rw [if_neg c3, if_pos rfl, if_pos (show ¬ ((rng r 0 19 ∧ rng a 0 3) ∧ rng w 0 1) from fun q => c3 q.2)]
        exact ⟨ci, cz, rfl, h⟩
    · rw [if_neg c2, if_pos rfl, if_pos (show ¬ ((rng r 0 19 ∧ rng a 0 3) ∧ rng w 0 1) from fun q => c2 q.1.2)]
      exact ⟨ci, cz, rfl, h⟩
  · rw [if_neg (show ¬ (rng r 0 19 ∧ rng 0 0 19) from fun q => c1 q.1), if_pos rfl, if_pos (show ¬ ((rng r 0 19 ∧ rng a 0 3) ∧ rng w 0 1) from fun q => c1 q.1.1)]
    exact ⟨ci, cz, rfl, h⟩
theorem X_toWash (h : XI ci cz A n H S p pl) : Ask σ x A n H S p pl (D_X9_toWash x (xh σ x ci cz)) (tWaO A n) := by
  obtain ⟨c1, z1, w1, w2⟩ := C_wash (σ := σ) (x := x) h.1.1 h.1.2
  refine ⟨c1, z1, ?_, h.fr w2 (Or.inl ⟨by omega, by omega⟩)⟩
  unfold D_X9_toWash
  rw [xm_o, Option.bind_some, xm_2, Option.bind_some, w1, bd_some]
theorem X_least (h : XI ci cz A n H S p pl) : Ask σ x A n H S p pl (D_X9_leastLimit x (xh σ x ci cz)) (leaO A n) := by
  obtain ⟨c1, z1, w1, w2⟩ := C_least (σ := σ) (x := x) h.1.1 h.1.2
  refine ⟨c1, z1, ?_, h.fr w2 (Or.inl ⟨by omega, by omega⟩)⟩
  unfold D_X9_leastLimit
  rw [xm_o, Option.bind_some, xm_2, Option.bind_some, w1, bd_some]
/-- note, change, recorded: the changing calls -/
theorem x_rec (hh : HR ci cz H nx) (h : FA ci cz (65 + 13 * nx) A n) (hW : WS A n) (v : Int32) : ∃ cz' nx', D_X9_recorded x v (xh σ x ci cz) = some (v, xh σ x ci cz') ∧ HR ci cz' (endH v H A) nx' ∧ ∀ j, j ≠ 62 → cz' j = cz j := by
  unfold D_X9_recorded endH
  have z0 : (0 : Int32).toInt = 0 := rfl
  rw [xm_o, Option.bind_some]
  by_cases c : v < 0
  · rw [if_pos c, if_neg (by rw [pu_le]; rw [pu_lt] at c; omega)]
    exact ⟨cz, nx, rfl, hh, fun _ _ => rfl⟩
  · rw [if_neg c, if_pos (by rw [pu_le]; rw [pu_lt] at c; omega)]
    obtain ⟨z1, nx', w1, w2, w3⟩ := C_keep (σ := σ) (x := x) hh h hW
    refine ⟨z1, nx', ?_, w2, w3⟩
    rw [xm_5, Option.bind_some, w1, Option.bind_some]
/-- the state after a change of the Field (and the Light) -/
theorem x_chg (h : XI ci cz A n H S p pl) : ∃ c1 z1, D_X3_note (x + 62) (x + 1) (xh σ x ci cz) = some (xh σ x c1 z1) ∧ FA c1 z1 1 A n ∧ ∀ (r : OpR) (c2 z2 : Nat → Nat → Int32) (n' : Nat), WS r.2 n' → FA c2 z2 1 r.2 n' → fr 1 25 c1 z1 c2 z2 → ∃ c3 z3, D_X9_recorded x r.1 (xh σ x c2 z2) = some (r.1, xh σ x c3 z3) ∧ XI c3 z3 r.2 n' (endH r.1 H A) S p pl := by
  obtain ⟨⟨h1, h2⟩, h3, ⟨nx, h4⟩, h5⟩ := h
  obtain ⟨c1, z1, w1, w2, w3, w4⟩ := C_note (σ := σ) (x := x) h1 h2 h4
  refine ⟨c1, z1, w1, h1.fr w4 (by omega), fun r c2 z2 n' hW hA hf => ?_⟩
  have h7 := h4.1.1
  obtain ⟨z3, nx', q1, q2, q3⟩ := x_rec (σ := σ) (x := x) (w2.fr hf (Or.inl (by omega))) (w3.fr hf (by omega)) h2 r.1
  have hf3 : fr 62 63 c2 z2 c2 z3 := fun j hj => ⟨rfl, q3 j (by omega)⟩
  exact ⟨c2, z3, q1, ⟨hA.fr hf3 (by omega), hW⟩, ((h3.fr w4 (by omega)).fr hf (by omega)).fr hf3 (by omega), ⟨nx', q2⟩, ((h5.fr w4 (by omega)).fr hf (by omega)).fr hf3 (by omega)⟩
end XD
