/-! the reference as a whole: its state, and the calls that change it -/
abbrev SLT : Type := Nat → Option (Nat → Int32)
def sloR (ar : Nat → Nat → Int32) (S : SLT) : Prop := ∀ i, i < 2 → match S i with
  | none => ar 6 i = 0
  | some B => ar 6 i = 1 ∧ ∀ k, k < 132 → ar 5 (132 * i + k) = B k
def MI (it : Nat → Int32) (ar : Nat → Nat → Int32) (A : Nat → Int32) (H : List (Nat → Int32)) (S : SLT) (p : Nat → Int32) (pl : Nat) : Prop := ar 1 = A ∧ hisR it ar H ∧ sloR ar S ∧ (it 12 = nI pl ∧ pl ≤ 80) ∧ ∀ i, i < pl → ar 11 i = p i
theorem hisR.of_eq {it it' : Nat → Int32} {ar ar' : Nat → Nat → Int32} {H : List (Nat → Int32)} (h : hisR it ar H) (e : it' 4 = it 4) (e4 : ar' 4 = ar 4) : hisR it' ar' H := ⟨h.1, e.trans h.2.1, fun j B hj k hk => by rw [e4]; exact h.2.2 j B hj k hk⟩
theorem sloR.of_eq {ar ar' : Nat → Nat → Int32} {S : SLT} (h : sloR ar S) (e5 : ar' 5 = ar 5) (e6 : ar' 6 = ar 6) : sloR ar' S := by
  intro i hi
  have := h i hi
  rw [e5, e6]
  exact this
theorem MI.of_eq {it it' : Nat → Int32} {ar ar' : Nat → Nat → Int32} {A A' : Nat → Int32} {H : List (Nat → Int32)} {S : SLT} {p : Nat → Int32} {pl : Nat} (h : MI it ar A H S p pl) (e1 : ar' 1 = A') (e4 : ar' 4 = ar 4) (e5 : ar' 5 = ar 5) (e6 : ar' 6 = ar 6) (e11 : ar' 11 = ar 11) (i4 : it' 4 = it 4) (i12 : it' 12 = it 12) : MI it' ar' A' H S p pl :=
  ⟨e1, h.2.1.of_eq i4 e4, h.2.2.1.of_eq e5 e6, ⟨i12.trans h.2.2.2.1.1, h.2.2.2.1.2⟩, fun i hi => by rw [e11]; exact h.2.2.2.2 i hi⟩
theorem MI.scr {it : Nat → Int32} {ar ar' : Nat → Nat → Int32} {A : Nat → Int32} {H : List (Nat → Int32)} {S : SLT} {p : Nat → Int32} {pl : Nat} (h : MI it ar A H S p pl) (hs : scr ar ar') : MI it ar' A H S p pl := h.of_eq ((hs 1 (by omega) (by omega) (by omega) (by omega)).trans h.1) (hs 4 (by omega) (by omega) (by omega) (by omega)) (hs 5 (by omega) (by omega) (by omega) (by omega)) (hs 6 (by omega) (by omega) (by omega) (by omega)) (hs 11 (by omega) (by omega) (by omega) (by omega)) rfl rfl
section M7
variable {σ : Hp} {m : Nat} {it : Nat → Int32} {ar : Nat → Nat → Int32} {n : Nat} {A : Nat → Int32} {H : List (Nat → Int32)} {S : SLT} {p : Nat → Int32} {pl : Nat}
/-- keep, do, end: a change -/
theorem m_chg (h : MI it ar A H S p pl) {r : Int32} {A' : Nat → Int32} {ar2 : Nat → Nat → Int32} (h1 : ar2 1 = A') (ho : oth (va_up ar 2 (fillN (ar 1) 132 (ar 2))) ar2) : ∃ it' ar', D_X10_ends m r (mh σ m it ar2) = some (r, mh σ m it' ar') ∧ MI it' ar' A' (endH r H A) S p pl := by
  have e := fun j j1 j7 j8 j9 j10 => ho j j1 j7 j8 j9 j10
  have e4 : ar2 4 = ar 4 := by rw [e 4 (by omega) (by omega) (by omega) (by omega) (by omega), up_ne (by omega)]
  have e2 : agr (ar2 2) A := fun k hk => by rw [e 2 (by omega) (by omega) (by omega) (by omega) (by omega), up_eq, fillN_lt hk, h.1]
  obtain ⟨it', ar', g1, g2, g3, g4⟩ := m_ends (σ := σ) (m := m) r (h.2.1.of_eq rfl e4) e2
  refine ⟨it', ar', g1, (g4 1 (by omega)).trans h1, g2, h.2.2.1.of_eq ?_ ?_, ⟨by rw [g3 12 (by omega)]; exact h.2.2.2.1.1, h.2.2.2.1.2⟩, fun i hi => ?_⟩
  · rw [g4 5 (by omega), e 5 (by omega) (by omega) (by omega) (by omega) (by omega), up_ne (by omega)]
  · rw [g4 6 (by omega), e 6 (by omega) (by omega) (by omega) (by omega) (by omega), up_ne (by omega)]
  · rw [g4 11 (by omega), e 11 (by omega) (by omega) (by omega) (by omega) (by omega), up_ne (by omega)]
    exact h.2.2.2.2 i hi
theorem oth_up {ar : Nat → Nat → Int32} {f : Nat → Int32} : oth ar (va_up ar 1 f) := fun j j1 _ _ _ _ => up_ne j1
theorem M_mirror (r c a : Int32) (h : MI it ar A H S p pl) (hW : WS A n) : ∃ it' ar', D_X10_mirror m r c a (mh σ m it ar) = some ((mirO A n r c a).1, mh σ m it' ar') ∧ MI it' ar' (mirO A n r c a).2 (endH (mirO A n r c a).1 H A) S p pl := by
  have e1 : (va_up ar 2 (fillN (ar 1) 132 (ar 2))) 1 = A := by rw [up_ne (by omega)]; exact h.1
  obtain ⟨it', ar', g1, g2⟩ := m_chg (σ := σ) (m := m) h (r := (mirO A n r c a).1) (A' := (mirO A n r c a).2) (ar2 := va_up (va_up ar 2 (fillN (ar 1) 132 (ar 2))) 1 (mirO A n r c a).2) up_eq oth_up
  refine ⟨it', ar', ?_, g2⟩
  unfold D_X10_mirror
  rw [mh_isO, Option.bind_some, mh_r0, Option.bind_some, mh_r1, Option.bind_some, m_copy 1 2 (by omega) (by omega) (by omega), Option.bind_some, m_doMirror r c a hW.2 (by rw [e1]; exact hW.1.1.2), e1, bd_some, g1, bd_some]
theorem M_take (i : Int32) (h : MI it ar A H S p pl) (hW : WS A n) : ∃ it' ar', D_X10_take m i (mh σ m it ar) = some ((takO A n i).1, mh σ m it' ar') ∧ MI it' ar' (takO A n i).2 (endH (takO A n i).1 H A) S p pl := by
  have e1 : (va_up ar 2 (fillN (ar 1) 132 (ar 2))) 1 = A := by rw [up_ne (by omega)]; exact h.1
  obtain ⟨it', ar', g1, g2⟩ := m_chg (σ := σ) (m := m) h (r := (takO A n i).1) (A' := (takO A n i).2) (ar2 := va_up (va_up ar 2 (fillN (ar 1) 132 (ar 2))) 1 (takO A n i).2) up_eq oth_up
  refine ⟨it', ar', ?_, g2⟩
  unfold D_X10_take
  rw [mh_isO, Option.bind_some, mh_r0, Option.bind_some, mh_r1, Option.bind_some, m_copy 1 2 (by omega) (by omega) (by omega), Option.bind_some, m_doTake i hW.2 (by rw [e1]; exact hW.1.1.2), e1, bd_some, g1, bd_some]
theorem M_aim (i a : Int32) (h : MI it ar A H S p pl) (hW : WS A n) : ∃ it' ar', D_X10_aim m i a (mh σ m it ar) = some ((aimO A n i a).1, mh σ m it' ar') ∧ MI it' ar' (aimO A n i a).2 (endH (aimO A n i a).1 H A) S p pl := by
  have e1 : (va_up ar 2 (fillN (ar 1) 132 (ar 2))) 1 = A := by rw [up_ne (by omega)]; exact h.1
  obtain ⟨it', ar', g1, g2⟩ := m_chg (σ := σ) (m := m) h (r := (aimO A n i a).1) (A' := (aimO A n i a).2) (ar2 := va_up (va_up ar 2 (fillN (ar 1) 132 (ar 2))) 1 (aimO A n i a).2) up_eq oth_up
  refine ⟨it', ar', ?_, g2⟩
  unfold D_X10_aim
  rw [mh_isO, Option.bind_some, mh_r0, Option.bind_some, mh_r1, Option.bind_some, m_copy 1 2 (by omega) (by omega) (by omega), Option.bind_some, m_doAim i a hW.2 (by rw [e1]; exact hW.1.1.2), e1, bd_some, g1, bd_some]
theorem M_wash (i : Int32) (h : MI it ar A H S p pl) (hW : WS A n) : ∃ it' ar', D_X10_wash m i (mh σ m it ar) = some ((wasO A n i).1, mh σ m it' ar') ∧ MI it' ar' (wasO A n i).2 (endH (wasO A n i).1 H A) S p pl := by
  have e1 : (va_up ar 2 (fillN (ar 1) 132 (ar 2))) 1 = A := by rw [up_ne (by omega)]; exact h.1
  obtain ⟨it', ar', g1, g2⟩ := m_chg (σ := σ) (m := m) h (r := (wasO A n i).1) (A' := (wasO A n i).2) (ar2 := va_up (va_up ar 2 (fillN (ar 1) 132 (ar 2))) 1 (wasO A n i).2) up_eq oth_up
  refine ⟨it', ar', ?_, g2⟩
  unfold D_X10_wash
  rw [mh_isO, Option.bind_some, mh_r0, Option.bind_some, mh_r1, Option.bind_some, m_copy 1 2 (by omega) (by omega) (by omega), Option.bind_some, m_doWash i hW.2 (by rw [e1]; exact hW.1.1.2), e1, bd_some, g1, bd_some]
theorem M_wind (w : Int32) (h : MI it ar A H S p pl) : ∃ it' ar', D_X10_wind m w (mh σ m it ar) = some ((winO A w).1, mh σ m it' ar') ∧ MI it' ar' (winO A w).2 (endH (winO A w).1 H A) S p pl := by
  have e1 : (va_up ar 2 (fillN (ar 1) 132 (ar 2))) 1 = A := by rw [up_ne (by omega)]; exact h.1
  obtain ⟨it', ar', g1, g2⟩ := m_chg (σ := σ) (m := m) h (r := (winO A w).1) (A' := (winO A w).2) (ar2 := va_up (va_up ar 2 (fillN (ar 1) 132 (ar 2))) 1 (winO A w).2) up_eq oth_up
  refine ⟨it', ar', ?_, g2⟩
  unfold D_X10_wind
  rw [mh_isO, Option.bind_some, mh_r0, Option.bind_some, mh_r1, Option.bind_some, m_copy 1 2 (by omega) (by omega) (by omega), Option.bind_some, m_doWind w, e1, bd_some, g1, bd_some]
theorem M_pass (d : Int32) (h : MI it ar A H S p pl) (hW : WS A n) : ∃ it' ar', D_X10_pass m d (mh σ m it ar) = some ((pasO A n d).1, mh σ m it' ar') ∧ MI it' ar' (pasO A n d).2 (endH (pasO A n d).1 H A) S p pl := by
  have e1 : (va_up ar 2 (fillN (ar 1) 132 (ar 2))) 1 = A := by rw [up_ne (by omega)]; exact h.1
  obtain ⟨a2, q1, q2, q3⟩ := m_doPass (σ := σ) (m := m) (it := it) (ar := va_up ar 2 (fillN (ar 1) 132 (ar 2))) (n := n) d (by rw [e1]; exact hW)
  rw [e1] at q1 q2
  obtain ⟨it', ar', g1, g2⟩ := m_chg (σ := σ) (m := m) h (r := (pasO A n d).1) q2 q3
  refine ⟨it', ar', ?_, g2⟩
  unfold D_X10_pass
  rw [mh_isO, Option.bind_some, mh_r0, Option.bind_some, mh_r1, Option.bind_some, m_copy 1 2 (by omega) (by omega) (by omega), Option.bind_some, q1, bd_some, g1, bd_some]
theorem m_isSetting (s v : Int32) : D_X10_isSetting s v σ = some (if (s = 0 ∧ rng v 1 9999) ∨ (s = 1 ∧ rng v 1 99) ∨ (s = 2 ∧ rng v 0 20) then 1 else 0, σ) := by
  unfold D_X10_isSetting
  by_cases h0 : s = 0
  · subst h0
    rw [if_pos rfl, isInI, bd_some]
    by_cases c : rng v 1 9999
    · rw [if_pos (show (1 : Int64).toInt ≤ v.toInt ∧ v.toInt ≤ (9999 : Int64).toInt from c), if_pos (Or.inl ⟨rfl, c⟩), retZ_1]
    · rw [if_neg (show ¬ ((1 : Int64).toInt ≤ v.toInt ∧ v.toInt ≤ (9999 : Int64).toInt) from c), if_neg (by
        rintro (q | q | q)
        · exact c q.2
        · exact absurd q.1 (by decide)
        · exact absurd q.1 (by decide)), retZ_0]
  · rw [if_neg h0]
    by_cases h1 : s = 1
    · subst h1
      rw [if_pos rfl, isInI, bd_some]
      by_cases c : rng v 1 99
      · rw [if_pos (show (1 : Int64).toInt ≤ v.toInt ∧ v.toInt ≤ (99 : Int64).toInt from c), if_pos (Or.inr (Or.inl ⟨rfl, c⟩)), retZ_1]
      · rw [if_neg (show ¬ ((1 : Int64).toInt ≤ v.toInt ∧ v.toInt ≤ (99 : Int64).toInt) from c), if_neg (by
          rintro (q | q | q)
          · exact absurd q.1 (by decide)
          · exact c q.2
          · exact absurd q.1 (by decide)), retZ_0]
    · rw [if_neg h1]
      by_cases h2 : s = 2
      · subst h2
        rw [if_pos rfl, isInI, bd_some]
        by_cases c : rng v 0 20
        · rw [if_pos (show (0 : Int64).toInt ≤ v.toInt ∧ v.toInt ≤ (20 : Int64).toInt from c), if_neg (by decide), if_pos (Or.inr (Or.inr ⟨rfl, c⟩)), retZ_1]
        · rw [if_neg (show ¬ ((0 : Int64).toInt ≤ v.toInt ∧ v.toInt ≤ (20 : Int64).toInt) from c), if_pos rfl, if_neg (by
            rintro (q | q | q)
            · exact absurd q.1 (by decide)
            · exact absurd q.1 (by decide)
            · exact c q.2), retZ_0]
      · rw [if_neg h2, if_neg (by
          rintro (q | q | q)
          · exact h0 q.1
          · exact h1 q.1
          · exact h2 q.1), retZ_0]
theorem M_set (s v : Int32) (h : MI it ar A H S p pl) (hW : WS A n) : ∃ it' ar', D_X10_set m s v (mh σ m it ar) = some ((setO A s v).1, mh σ m it' ar') ∧ MI it' ar' (setO A s v).2 (endH (setO A s v).1 H A) S p pl := by
  unfold D_X10_set
  rw [mh_isO, Option.bind_some, m_isSetting, bd_some]
  have e1 : (va_up ar 2 (fillN (ar 1) 132 (ar 2))) 1 = A := by rw [up_ne (by omega)]; exact h.1
  by_cases c : (s = 0 ∧ rng v 1 9999) ∨ (s = 1 ∧ rng v 1 99) ∨ (s = 2 ∧ rng v 0 20)
  · obtain ⟨k, hk, hs⟩ : ∃ k : Nat, k < 3 ∧ s = nI k := by
      rcases c with ⟨rfl, -⟩ | ⟨rfl, -⟩ | ⟨rfl, -⟩
      · exact ⟨0, by omega, rfl⟩
      · exact ⟨1, by omega, rfl⟩
      · exact ⟨2, by omega, rfl⟩
    have hsi : s.toInt = (k : Int) := by rw [hs, nI_toInt (by omega)]
    have hsn : s.toInt.toNat = k := by omega
    have e2 : setO A s v = (A k, upd A k v) := by unfold setO; rw [if_pos c, hsn]
    have hpos : (0 : Int32) ≤ A k := by
      obtain ⟨⟨-, -, -, q0, q1, q2, -⟩, -⟩ := hW
      rw [pu_le]
      show (0 : Int) ≤ _
      match k, hk with
      | 0, _ => omega
      | 1, _ => omega
      | 2, _ => omega
    rw [e2, if_pos c, if_neg (by decide), mh_r0, Option.bind_some, mh_r1, Option.bind_some, m_copy 1 2 (by omega) (by omega) (by omega), Option.bind_some, mh_r0, Option.bind_some, mh_S (k := k) _ hsi (by omega), e1, Option.bind_some, mh_r1, Option.bind_some,
      mh_ld 2 k hsi (by omega) (by omega) (by simp [msz]; omega), up_ne (by omega), up_eq, fillN_lt (by omega), h.1, Option.bind_some]
    obtain ⟨it', ar', g1, g2⟩ := m_chg (σ := σ) (m := m) h (r := A k) (A' := upd A k v) (ar2 := va_up (va_up ar 2 (fillN A 132 (ar 2))) 1 (upd A k v)) up_eq (by rw [h.1]; exact oth_up)
    unfold D_X10_ends at g1
    rw [mh_isO, Option.bind_some, if_pos hpos] at g1
    refine ⟨it', ar', ?_, g2⟩
    exact g1
  · have e2 : setO A s v = (-2, A) := by unfold setO; rw [if_neg c]
    rw [e2, if_neg c, if_pos rfl]
    exact ⟨it, ar, rfl, h⟩
end M7
