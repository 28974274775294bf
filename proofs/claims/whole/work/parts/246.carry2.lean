theorem exO_WS {A : Nat → Int32} {n : Nat} {o : Ord4} (hW : WS A n) : ∃ n', WS (exO A o).2 n' := by
  unfold exO
  rw [nO_eq hW]
  split
  · exact mirO_WS hW
  · split
    · exact ⟨n, aimO_WS hW⟩
    · split
      · exact takO_WS hW
      · split
        · exact ⟨n, wasO_WS hW⟩
        · split
          · exact ⟨n, winO_WS hW⟩
          · exact ⟨n, pasO_WS hW⟩
theorem runO_WS : ∀ (l : List Ord4) (c : Nat) {A : Nat → Int32} {n : Nat}, WS A n → ∃ n', WS (runO l c A).2 n'
  | [], _, _, n, hW => ⟨n, hW⟩
  | o :: l, c, A, n, hW => by
    obtain ⟨n', hW'⟩ := exO_WS (o := o) hW
    unfold runO
    split
    · exact runO_WS l (c + 1) hW'
    · exact ⟨n', hW'⟩
theorem runO_le : ∀ (l : List Ord4) (c : Nat) {A : Nat → Int32}, (runO l c A).1 ≤ c + l.length
  | [], _, _ => Nat.le_refl _
  | o :: l, c, A => by
    unfold runO
    split
    · have := runO_le l (c + 1) (A := (exO A o).2)
      rw [List.length_cons]; omega
    · rw [List.length_cons]; dsimp only; omega
section P4
variable {σ : Hp} {m : Nat} {p : Nat → Int32} {pl : Nat}
theorem Rd.ar {it : Nat → Int32} {ar ar' : Nat → Nat → Int32} {i : Nat} (h : Rd it ar p pl i) (e : ar' 11 = ar 11) : Rd it ar' p pl i := ⟨h.1, fun k hk => by rw [e]; exact h.2.1 k hk, h.2.2⟩
theorem oth.tr {a b c : Nat → Nat → Int32} (h : oth a b) (h2 : oth b c) : oth a c := fun j a b c d e => (h2 j a b c d e).trans (h j a b c d e)
theorem m_w42 (kx : Int32 → Hp → Option (Int32 × Hp)) : ∀ (N i f c n : Nat) (it : Nat → Int32) (ar : Nat → Nat → Int32) (l : List Ord4) (j : Nat), pl + 1 ≤ i + N → N < f → Rd it ar p pl i → it 15 = 1 → WS (ar 1) n → pAll (sgn p pl) N i = (some l, j) → ∃ it' ar', D_X10_carryOut_w42 m kx f (nI c) 1 (mh σ m it ar) = kx (nI (runO l c (ar 1)).1) (mh σ m it' ar') ∧ ar' 1 = (runO l c (ar 1)).2 ∧ oth ar ar' ∧ ∀ k, k ≠ 13 → k ≠ 14 → k ≠ 16 → it' k = it k := by
  intro N
  induction N with
  | zero => intro i f c n it ar l j h1 _ h2; exact absurd h2.2.2.2 (by omega)
  | succ N ih =>
    intro i f c n it ar l j h1 hf h h15 hW hp
    obtain ⟨f, rfl⟩ : ∃ g, f = g + 1 := ⟨f - 1, by omega⟩
    obtain ⟨f, rfl⟩ : ∃ g, f = g + 1 := ⟨f - 1, by omega⟩
    have e := m_rOrd (σ := σ) (m := m) h
    have hge := pOrd_ge (g := sgn p pl) (i := i)
    unfold ReadsTo at e
    unfold pAll at hp
    rcases hq : pOrd (sgn p pl) i with ⟨_ | o, j1⟩
    · rw [hq] at hp
      exact absurd (congrArg Prod.fst hp) (by simp)
    · rw [hq] at hp e hge
      dsimp only at hp e hge
      obtain ⟨it', g2, g3, -, g1⟩ := e
      obtain ⟨ar2, q1, q2, q3⟩ := g1 h15 n hW
      obtain ⟨n', hW'⟩ := exO_WS (o := o) hW
      have e11 : ar2 11 = ar 11 := q3 11 (by omega) (by omega) (by omega) (by omega) (by omega)
      generalize hx : (if 0 ≤ (exO (ar 1) o).1 then 0 else (exO (ar 1) o).1) = x at q1
      have g4 : Rd (upd it' 16 x) ar2 p pl j1 := ⟨⟨by rw [upd_ne (by omega)]; exact g2.1.1, g2.1.2⟩, fun k hk => by rw [e11]; exact g2.2.1 k hk, by rw [upd_ne (by omega)]; exact g2.2.2.1, g2.2.2.2⟩
      have i3 : ∀ k, k ≠ 13 → k ≠ 14 → k ≠ 16 → upd it' 16 x k = it k := fun k a b c => (upd_ne c).trans (g3 k a b)
      have stop : ∀ c' : Nat, (if 0 ≤ (exO (ar 1) o).1 then (sgn p pl j1 ≠ 59 ∧ c' = c + 1) else c' = c) → D_X10_carryOut_w42 m kx (f + 1 + 1) (nI c) 1 (mh σ m it ar) = kx (nI c') (mh σ m (upd it' 16 x) ar2) := by
        intro c' hc'
        conv => lhs; unfold D_X10_carryOut_w42
        rw [if_neg (by decide), q1, bd_some, mh_i16, Option.bind_some, upd_eq]
        by_cases c0 : 0 ≤ (exO (ar 1) o).1
        · rw [if_pos c0] at hc' hx
          rw [← hx, if_pos rfl]
          rw [← hx] at g4
          unfold D_X10_carryOut_b64
          rw [nm_eq, mh_i16, Option.bind_some, upd_eq, if_pos rfl, m_takes_n g4 (by decide) hc'.1, bd_some, if_pos rfl]
          unfold D_X10_carryOut_b86 D_X10_carryOut_b87 D_X10_carryOut_w42
          rw [if_pos rfl, nI_1, hc'.2]
        · rw [if_neg c0] at hc' hx
          have hn0 : x ≠ 0 := fun q => c0 (by rw [hx, q]; decide)
          rw [if_neg hn0]
          unfold D_X10_carryOut_b64
          rw [nm_eq, mh_i16, Option.bind_some, upd_eq, if_neg hn0]
          unfold D_X10_carryOut_b86 D_X10_carryOut_b87 D_X10_carryOut_w42
          rw [if_pos rfl, Int32.add_zero, hc']
      by_cases c0 : 0 ≤ (exO (ar 1) o).1
      · by_cases c5 : sgn p pl j1 = 59
        · rw [if_pos c5] at hp
          rcases hr : pAll (sgn p pl) N (j1 + 1) with ⟨_ | l2, k⟩
          · rw [hr] at hp
            exact absurd (congrArg Prod.fst hp) (by simp)
          · rw [hr] at hp
            have el : o :: l2 = l := Option.some.inj (congrArg Prod.fst hp)
            have ex0 : x = 0 := by rw [← hx, if_pos c0]
            have r5 := g4.p13 (v := j1 + 1) (sg_lt (by decide) c5)
            obtain ⟨it4, ar4, w1, w2, w3, w4⟩ := ih (j1 + 1) (f + 1) (c + 1) n' _ ar2 l2 k (by omega) (by omega) r5 (by rw [upd_ne (by omega), upd_ne (by omega), g3 15 (by omega) (by omega)]; exact h15) (by rw [q2]; exact hW') hr
            refine ⟨it4, ar4, ?_, ?_, q3.tr w3, fun k a b c => (w4 k a b c).trans ((upd_ne a).trans (i3 k a b c))⟩
            · rw [← el]
              unfold runO
              rw [if_pos c0, ← q2, ← w1]
              conv => lhs; unfold D_X10_carryOut_w42
              rw [if_neg (by decide), q1, bd_some, mh_i16, Option.bind_some, upd_eq, if_pos ex0]
              unfold D_X10_carryOut_b64
              rw [nm_eq, mh_i16, Option.bind_some, upd_eq, if_pos ex0, m_takes_y g4 (by decide) c5, bd_some, if_neg (by decide), nI_1]
              rfl
            · rw [← el]
              unfold runO
              rw [if_pos c0, ← q2]
              exact w2
        · rw [if_neg c5] at hp
          have el : [o] = l := Option.some.inj (congrArg Prod.fst hp)
          refine ⟨_, ar2, ?_, ?_, q3, i3⟩
          · rw [← el]
            unfold runO
            rw [if_pos c0]
            unfold runO
            exact stop (c + 1) (by rw [if_pos c0]; exact ⟨c5, rfl⟩)
          · rw [← el]
            unfold runO
            rw [if_pos c0]
            exact q2
      · have el : ∃ l2, l = o :: l2 := by
          by_cases c5 : sgn p pl j1 = 59
          · rw [if_pos c5] at hp
            rcases hr : pAll (sgn p pl) N (j1 + 1) with ⟨_ | l2, k⟩
            · rw [hr] at hp
              exact absurd (congrArg Prod.fst hp) (by simp)
            · rw [hr] at hp
              exact ⟨l2, (Option.some.inj (congrArg Prod.fst hp)).symm⟩
          · rw [if_neg c5] at hp
            exact ⟨[], (Option.some.inj (congrArg Prod.fst hp)).symm⟩
        obtain ⟨l2, rfl⟩ := el
        refine ⟨_, ar2, ?_, ?_, q3, i3⟩
        · unfold runO
          rw [if_neg c0]
          exact stop c (by rw [if_neg c0])
        · unfold runO
          rw [if_neg c0]
          exact q2
variable {it : Nat → Int32} {ar : Nat → Nat → Int32} {n : Nat} {A : Nat → Int32} {H : List (Nat → Int32)} {S : SLT}
theorem M_fault (h : MI it ar A H S p pl) : ∃ it', D_X10_fault m (mh σ m it ar) = some (fauO p pl, mh σ m it' ar) ∧ MI it' ar A H S p pl := m_fault h
theorem M_carryN (h : MI it ar A H S p pl) (hn : fauO p pl ≠ -6) : ∃ it', D_X10_carryOut m (mh σ m it ar) = some (-3, mh σ m it' ar) ∧ MI it' ar A H S p pl := by
  obtain ⟨it', g1, g2⟩ := m_fault (σ := σ) (m := m) h
  refine ⟨it', ?_, g2⟩
  unfold D_X10_carryOut
  rw [mh_isO, Option.bind_some, g1, bd_some, if_neg hn]
theorem pAll_le {p : Nat → Int32} {pl : Nat} (hp : pl ≤ 80) : (pAll (sgn p pl) 81 0).2 ≤ pl := by
  have r : Rd (upd (upd (fun _ => 0) 12 (nI pl)) 13 (nI 0)) (fun _ => p) p pl 0 := ⟨⟨by rw [upd_ne (by omega), upd_eq], hp⟩, fun _ _ => rfl, upd_eq, by omega⟩
  have w := m_w12 (σ := ((0, fun _ => none) : Hp)) (m := 0) (fun _ => none) 81 0 FU _ _ (by omega) (by rw [FU_eq]; omega) r (by rw [upd_ne (by omega), upd_ne (by omega)])
  rcases hq : pAll (sgn p pl) 81 0 with ⟨_ | l, k⟩
  · rw [hq] at w
    obtain ⟨_, -, g, -⟩ := w
    exact g.2.2.2
  · rw [hq] at w
    obtain ⟨_, -, g, -⟩ := w
    exact g.2.2.2
theorem nI_n6 {k : Nat} (hk : k < 2147483648) : nI k ≠ -6 := by
  intro q
  rw [pu_eq, nI_toInt (by omega)] at q
  have e : (-6 : Int32).toInt = -6 := rfl
  omega
theorem fauO_y {p : Nat → Int32} {pl : Nat} (hp : pl ≤ 80) (h : fauO p pl = -6) : ∃ l, pAll (sgn p pl) 81 0 = (some l, pl) := by
  have hle := pAll_le (p := p) hp
  unfold fauO at h
  rcases hq : pAll (sgn p pl) 81 0 with ⟨_ | l, k⟩
  · rw [hq] at h hle
    exact absurd h (nI_n6 (by dsimp only at hle; omega))
  · rw [hq] at h hle
    dsimp only at h hle
    by_cases c : k = pl
    · exact ⟨l, by rw [c]⟩
    · rw [if_neg c] at h
      exact absurd h (nI_n6 (by omega))
theorem fauO_n {p : Nat → Int32} {pl : Nat} {l : List Ord4} (h : pAll (sgn p pl) 81 0 = (some l, pl)) : fauO p pl = -6 := by
  unfold fauO
  rw [h]
  dsimp only
  rw [if_pos rfl]
theorem M_carry (h : MI it ar A H S p pl) (hW : WS A n) {l : List Ord4} (hl : pAll (sgn p pl) 81 0 = (some l, pl)) : ∃ it' ar', D_X10_carryOut m (mh σ m it ar) = some (nI (runO l 0 A).1, mh σ m it' ar') ∧ MI it' ar' (runO l 0 A).2 (pushH H A) S p 0 := by
  obtain ⟨it0, g1, g2⟩ := m_fault (σ := σ) (m := m) h
  generalize h1 : upd (upd (upd it0 13 0) 15 1) 16 0 = it1
  generalize ha : va_up ar 2 (fillN (ar 1) 132 (ar 2)) = a2
  have ea : ∀ j, j ≠ 2 → a2 j = ar j := fun j hj => by rw [← ha, up_ne hj]
  have ei : ∀ j, j ≠ 13 → j ≠ 15 → j ≠ 16 → it1 j = it0 j := fun j a b c => by rw [← h1, upd_ne c, upd_ne b, upd_ne a]
  have r1 : Rd it1 a2 p pl 0 := ⟨⟨by rw [ei 12 (by omega) (by omega) (by omega)]; exact g2.2.2.2.1.1, g2.2.2.2.1.2⟩, fun k hk => by rw [ea 11 (by omega)]; exact h.2.2.2.2 k hk, by rw [← h1, upd_ne (by omega), upd_ne (by omega), upd_eq]; rfl, by omega⟩
  have eA : a2 1 = A := by rw [ea 1 (by omega)]; exact h.1
  obtain ⟨it3, ar3, w1, w2, w3, w4⟩ := m_w42 (σ := σ) (m := m) (p := p) (pl := pl) (fun i54 s53 =>
  (putI s53 m 9 12 (0 : Int32)).bind fun s55 =>
  bd (D_X10_changed m i54 s55) fun i56 s57 =>
  some (i56, s57)
  ) 81 0 FU 0 n it1 a2 l pl (by have := h.2.2.2.1.2; omega) (by rw [FU_eq]; omega) r1 (by rw [← h1, upd_ne (by omega), upd_eq]) (by rw [eA]; exact hW) hl
  rw [eA, show nI 0 = (0 : Int32) from rfl] at w1
  rw [eA] at w2
  have w3 := fun j a b c d e => w3 j a b c d e
  have o4 : ar3 4 = ar 4 := (w3 4 (by omega) (by omega) (by omega) (by omega) (by omega)).trans (ea 4 (by omega))
  have h2 : hisR (upd it3 12 0) ar3 H := g2.2.1.of_eq ((upd_ne (by omega)).trans ((w4 4 (by omega) (by omega) (by omega)).trans (ei 4 (by omega) (by omega) (by omega)))) o4
  obtain ⟨it4, ar4, q1, q2, q3, q4⟩ := m_changed (σ := σ) (m := m) (it := upd it3 12 0) (ar := ar3) (nI (runO l 0 A).1) (H := H) (K := A) h2 (fun k hk => by rw [w3 2 (by omega) (by omega) (by omega) (by omega) (by omega), ← ha, up_eq, fillN_lt hk, h.1])
  refine ⟨it4, ar4, ?_, ⟨by rw [q4 1 (by omega)]; exact w2, q2, h.2.2.1.of_eq ?_ ?_, ⟨by rw [q3 12 (by omega), upd_eq]; rfl, by omega⟩, fun i hi => by omega⟩⟩
  · unfold D_X10_carryOut
    rw [mh_isO, Option.bind_some, g1, bd_some, if_pos (fauO_n hl), mh_r0, Option.bind_some, mh_r1, Option.bind_some, m_copy 1 2 (by omega) (by omega) (by omega), ha, Option.bind_some, mh_p13, Option.bind_some, mh_p15_1, Option.bind_some, mh_p16, Option.bind_some, h1, w1, mh_p12, Option.bind_some, q1, bd_some]
  · rw [q4 5 (by omega), w3 5 (by omega) (by omega) (by omega) (by omega) (by omega), ea 5 (by omega)]
  · rw [q4 6 (by omega), w3 6 (by omega) (by omega) (by omega) (by omega) (by omega), ea 6 (by omega)]
end P4
