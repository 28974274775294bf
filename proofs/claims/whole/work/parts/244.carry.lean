/-! the whole pad: read, and carried out -/
theorem n99_ge {g : Nat → Int32} {i : Nat} {v : Int32} {j : Nat} (h : n99 g i = some (v, j)) : i + 1 ≤ j ∧ j ≤ i + 2 := by
  unfold n99 at h
  split at h
  · split at h
    · have := congrArg Prod.snd (Option.some.inj h)
      dsimp only at this
      omega
    · have := congrArg Prod.snd (Option.some.inj h)
      dsimp only at this
      omega
  · simp at h
theorem n3_ge {g : Nat → Int32} {i : Nat} {v : Int32} {j : Nat} (h : n3 g i = some (v, j)) : j = i + 1 := by
  unfold n3 at h
  split at h
  · have := congrArg Prod.snd (Option.some.inj h)
    dsimp only at this
    omega
  · simp at h
theorem pMir_ge {g : Nat → Int32} {i : Nat} : i ≤ (pMir g i).2 := by
  unfold pMir
  rcases h1 : n99 g i with _ | ⟨a, j⟩
  · exact Nat.le_refl _
  · have := n99_ge h1
    dsimp only
    split
    · rcases h2 : n99 g (j + 1) with _ | ⟨b, k⟩
      · dsimp only; omega
      · have := n99_ge h2
        dsimp only
        split
        · rcases h3 : n3 g (k + 1) with _ | ⟨c, l⟩
          · dsimp only; omega
          · have := n3_ge h3
            dsimp only; omega
        · dsimp only; omega
    · dsimp only; omega
theorem pAim_ge {g : Nat → Int32} {i : Nat} : i ≤ (pAim g i).2 := by
  unfold pAim
  rcases h1 : n99 g i with _ | ⟨a, j⟩
  · exact Nat.le_refl _
  · have := n99_ge h1
    dsimp only
    split
    · rcases h3 : n3 g (j + 1) with _ | ⟨c, l⟩
      · dsimp only; omega
      · have := n3_ge h3
        dsimp only; omega
    · dsimp only; omega
theorem pOrd_ge {g : Nat → Int32} {i : Nat} : i ≤ (pOrd g i).2 := by
  unfold pOrd
  split
  · have := pMir_ge (g := g) (i := i + 1); omega
  · split
    · have := pAim_ge (g := g) (i := i + 1); omega
    · split
      · unfold pOne
        rcases h1 : n99 g (i + 1) with _ | ⟨a, j⟩
        · dsimp only; omega
        · have := n99_ge h1
          dsimp only; omega
      · exact Nat.le_refl _
def runO : List Ord4 → Nat → (Nat → Int32) → Nat × (Nat → Int32)
  | [], c, A => (c, A)
  | o :: l, c, A => if 0 ≤ (exO A o).1 then runO l (c + 1) (exO A o).2 else (c, (exO A o).2)
def fauO (p : Nat → Int32) (pl : Nat) : Int32 := match pAll (sgn p pl) 81 0 with
  | (none, j) => nI j
  | (some _, j) => if j = pl then -6 else nI j
section P3
variable {σ : Hp} {m : Nat} {p : Nat → Int32} {pl : Nat}
theorem m_w12 (kx : Hp → Option (Int32 × Hp)) : ∀ (N i f : Nat) (it : Nat → Int32) (ar : Nat → Nat → Int32), pl + 1 ≤ i + N → N < f → Rd it ar p pl i → it 15 = 0 → match pAll (sgn p pl) N i with
    | (none, j) => ∃ it', D_X10_fault_w12 m kx f 1 (mh σ m it ar) = some (nI j, mh σ m it' ar) ∧ Rd it' ar p pl j ∧ sm13 it it'
    | (some _, j) => ∃ it', D_X10_fault_w12 m kx f 1 (mh σ m it ar) = kx (mh σ m it' ar) ∧ Rd it' ar p pl j ∧ sm13 it it' := by
  intro N
  induction N with
  | zero => intro i f it ar h1 _ h2; exact absurd h2.2.2.2 (by omega)
  | succ N ih =>
    intro i f it ar h1 hf h h15
    obtain ⟨f, rfl⟩ : ∃ g, f = g + 1 := ⟨f - 1, by omega⟩
    have e := m_rOrd (σ := σ) (m := m) h
    unfold ReadsTo at e
    unfold pAll
    have hge := pOrd_ge (g := sgn p pl) (i := i)
    rcases hp : pOrd (sgn p pl) i with ⟨_ | o, j⟩
    · rw [hp] at e
      obtain ⟨it', g1, g2, g3⟩ := e
      refine ⟨it', ?_, g2, g3⟩
      unfold D_X10_fault_w12
      rw [if_neg (by decide), g1, bd_some, if_pos rfl, mh_i13, Option.bind_some, g2.2.2.1]
    · rw [hp] at e hge
      dsimp only at e hge
      obtain ⟨it', g2, g3, g1, -⟩ := e
      have g1 := g1 h15
      dsimp only
      by_cases c : sgn p pl j = 59
      · rw [if_pos c]
        have r2 := g2.p13 (v := j + 1) (sg_lt (by decide) c)
        have s2 := g3.p13 (v := nI (j + 1))
        have ih2 := ih (j + 1) f _ ar (by omega) (by omega) r2 ((s2 15 (by omega) (by omega)).trans h15)
        have st : D_X10_fault_w12 m kx (f + 1) 1 (mh σ m it ar) = D_X10_fault_w12 m kx f 1 (mh σ m (upd it' 13 (nI (j + 1))) ar) := by
          conv => lhs; unfold D_X10_fault_w12
          rw [if_neg (by decide), g1, bd_some, if_neg (by decide), m_takes_y g2 (by decide) c, bd_some]
        rw [st]
        rcases hq : pAll (sgn p pl) N (j + 1) with ⟨_ | l, k⟩
        · rw [hq] at ih2
          obtain ⟨it2, q1, q2, q3⟩ := ih2
          exact ⟨it2, q1, q2, s2.trans q3⟩
        · rw [hq] at ih2
          obtain ⟨it2, q1, q2, q3⟩ := ih2
          exact ⟨it2, q1, q2, s2.trans q3⟩
      · rw [if_neg c]
        refine ⟨it', ?_, g2, g3⟩
        obtain ⟨f, rfl⟩ : ∃ g, f = g + 1 := ⟨f - 1, by omega⟩
        unfold D_X10_fault_w12
        rw [if_neg (by decide), g1, bd_some, if_neg (by decide), m_takes_n g2 (by decide) c, bd_some]
        unfold D_X10_fault_w12
        rw [if_pos rfl]
variable {it : Nat → Int32} {ar : Nat → Nat → Int32} {n : Nat} {A : Nat → Int32} {H : List (Nat → Int32)} {S : SLT}
theorem m_fault (h : MI it ar A H S p pl) : ∃ it', D_X10_fault m (mh σ m it ar) = some (fauO p pl, mh σ m it' ar) ∧ MI it' ar A H S p pl := by
  generalize h1 : upd (upd it 13 0) 15 0 = it1
  have r1 : Rd it1 ar p pl 0 := ⟨⟨by rw [← h1, upd_ne (by omega), upd_ne (by omega)]; exact h.2.2.2.1.1, h.2.2.2.1.2⟩, h.2.2.2.2, by rw [← h1, upd_ne (by omega), upd_eq]; rfl, by omega⟩
  have e4 : it1 4 = it 4 := by rw [← h1, upd_ne (by omega), upd_ne (by omega)]
  have e12 : it1 12 = it 12 := by rw [← h1, upd_ne (by omega), upd_ne (by omega)]
  have w := m_w12 (σ := σ) (m := m) (p := p) (pl := pl) (fun s23 =>
  (getI s23 m 9 13).bind fun i24 =>
  (getI s23 m 9 12).bind fun i25 =>
  if i24 = i25 then
  some ((-6 : Int32), s23)
  else
  (getI s23 m 9 13).bind fun i26 =>
  some (i26, s23)
  ) 81 0 FU it1 ar (by have := h.2.2.2.1.2; omega) (by rw [FU_eq]; omega) r1 (by rw [← h1, upd_eq])
  have st : D_X10_fault m (mh σ m it ar) = D_X10_fault_w12 m (fun s23 =>
  (getI s23 m 9 13).bind fun i24 =>
  (getI s23 m 9 12).bind fun i25 =>
  if i24 = i25 then
  some ((-6 : Int32), s23)
  else
  (getI s23 m 9 13).bind fun i26 =>
  some (i26, s23)
  ) FU (1 : Int32) (mh σ m it1 ar) := by
    unfold D_X10_fault
    rw [mh_isO, Option.bind_some, mh_p13, Option.bind_some, mh_p15_0, Option.bind_some, h1]
  rw [st]
  unfold fauO
  rcases hq : pAll (sgn p pl) 81 0 with ⟨_ | l, k⟩
  · rw [hq] at w
    obtain ⟨it', g1, g2, g3⟩ := w
    exact ⟨it', g1, h.of_eq h.1 rfl rfl rfl rfl ((g3 4 (by omega) (by omega)).trans e4) ((g3 12 (by omega) (by omega)).trans e12)⟩
  · rw [hq] at w
    obtain ⟨it', g1, g2, g3⟩ := w
    refine ⟨it', ?_, h.of_eq h.1 rfl rfl rfl rfl ((g3 4 (by omega) (by omega)).trans e4) ((g3 12 (by omega) (by omega)).trans e12)⟩
    rw [g1, mh_i13, Option.bind_some, mh_i12, Option.bind_some, g2.2.2.1, g2.1.1]
    dsimp only
    by_cases c : k = pl
    · subst c
      rw [if_pos rfl, if_pos rfl]
    · rw [if_neg (fun q => c (by
        rw [pu_eq, nI_toInt (by have := g2.2.2.2; have := g2.1.2; omega), nI_toInt (by have := g2.1.2; omega)] at q
        omega)), if_neg c, Option.bind_some]
end P3
