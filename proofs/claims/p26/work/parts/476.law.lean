/-! isStep whole; the law's loop -/
section LW
variable {x y : Nat} {s : Hp} {d d' : Int}
theorem st_all (hxy : x + 184 ≤ y ∨ y + 184 ≤ x) (hI : PI2 x y d s) (hd : d + 15 ≤ d') (hd2 : d' ≤ 999) (v w : Int32) : ∃ s', D_L_isStep x y v w s = some (1, s') ∧ PI2 x y d' s' := by
  obtain ⟨A, B, H, G, h⟩ := hI
  have hW := h.1.ws
  have hn := hW.2
  have hd1 : d ≤ d' := by omega
  obtain ⟨s1, e1, h1⟩ := q_count1 h.1
  rw [hW.1.1.2] at e1
  obtain ⟨m, hm, e2⟩ := up_n (a := v >>> ((4 : Int32) &&& 31)) (b := nI (nO A) + (1 : Int32)) (n := nO A + 1) (by rw [nI_1, nI_toInt (by omega)]) (by omega) s1
  have hm : m ≤ nO A := by omega
  obtain ⟨s2, e3, h2⟩ := q_count5 h1
  obtain ⟨t, ht, e4⟩ := up_n (a := v) (b := 14) (n := 14) rfl (by omega) s2
  have h : PD x y d A B H G s2 := ⟨h2, h.2⟩
  have hr329 : ∀ (v : Int32) (s' : Hp), D_L_isStep_b329 v v s' = some (1, s') := fun v s' => by
    unfold D_L_isStep_b329
    rw [if_pos rfl, retZ_1]
  unfold D_L_isStep
  rw [nm_eq, e1, bd_some, e2, bd_some, e3, bd_some, e4, bd_some]
  by_cases c0 : nI t = 0
  · rw [if_pos c0]; exact st_104 hxy h hd1
  rw [if_neg c0]
  by_cases c1 : nI t = 1
  · rw [if_pos c1]; exact st_104 hxy h hd1
  rw [if_neg c1]
  by_cases c2 : nI t = 2
  · rw [if_pos c2]; exact st_104 hxy h hd1
  rw [if_neg c2]
  by_cases c3 : nI t = 3
  · rw [if_pos c3]; exact st_104 hxy h hd1
  rw [if_neg c3]
  by_cases c4 : nI t = 4
  · rw [if_pos c4]
    obtain ⟨r, hr, e5⟩ := up_n (a := w) (b := 3) (n := 3) rfl (by omega) s2
    rw [e5, bd_some]
    by_cases cr : nI r ≤ 0
    · obtain ⟨u, s3, s4, e6, e7, e8, h8⟩ := st_take hxy h hm hd1 hr329
      refine ⟨s4, ?_, h8⟩
      rw [if_pos cr, e6, bd_some, e7, bd_some, if_pos rfl]
      exact e8
    · refine ⟨s2, ?_, h.to h2 hd1⟩
      rw [if_neg cr, retZ_1]
  rw [if_neg c4]
  by_cases c5 : nI t = 5
  · rw [if_pos c5]
    obtain ⟨a, ha, e5⟩ := up_n (a := w) (b := 4) (n := 4) rfl (by omega) s2
    obtain ⟨o, u, s3, s4, s5, s6, e6, e7, e8, e9, h9⟩ := st_aim hxy h hm ha hd1
    refine ⟨s6, ?_, h9⟩
    rw [e5, bd_some, e6, bd_some, e7, bd_some, e8, bd_some, if_pos rfl]
    exact e9
  rw [if_neg c5]
  by_cases c6 : nI t = 6
  · rw [if_pos c6]
    obtain ⟨o, u, s3, s4, s5, e6, e7, e8, e9, h9⟩ := st_wash hxy h hm hd1
    refine ⟨s5, ?_, h9⟩
    rw [e6, bd_some, e7, bd_some, e8, bd_some, if_pos rfl]
    exact e9
  rw [if_neg c6]
  by_cases c7 : nI t = 7
  · rw [if_pos c7]
    obtain ⟨r, hr, e5⟩ := up_n (a := v >>> ((4 : Int32) &&& 31)) (b := 3) (n := 3) rfl (by omega) s2
    rw [e5, bd_some]
    by_cases cr : nI r = 0
    · rw [if_pos cr]
      exact st_489 hxy h (q := 100) rfl (by omega) (by omega) hd1
    · rw [if_neg cr]
      exact st_489 hxy h (q := 40) rfl (by omega) (by omega) hd1
  rw [if_neg c7]
  by_cases c8 : nI t = 8
  · rw [if_pos c8]; exact st_553 hxy h hd1
  rw [if_neg c8]
  by_cases c9 : nI t = 9
  · rw [if_pos c9]; exact st_553 hxy h hd1
  rw [if_neg c9]
  by_cases c10 : nI t = 10
  · rw [if_pos c10]; exact st_643 hxy h hd hd2
  rw [if_neg c10]
  by_cases c11 : nI t = 11
  · rw [if_pos c11]; exact st_643 hxy h hd hd2
  rw [if_neg c11]
  by_cases c12 : nI t = 12
  · rw [if_pos c12]
    exact st_undo hxy h hd1 (R := fun i182 i184 s185 =>
      if i182 = i184 then
      retZ (1 : Int32) ((1 : Int32), s185)
      else
      retZ (0 : Int32) ((0 : Int32), s185)) (fun v s' => by
      rw [if_pos rfl, retZ_1])
  rw [if_neg c12]
  exact st_found hxy h hd1
theorem lw_loop {L : Nat} {xs : Nat → Int32} (hL : L ≤ 260) (hxy : x + 184 ≤ y ∨ y + 184 ≤ x) (kx : Int32 → Hp → Option (Int32 × Hp)) : ∀ (c k f : Nat) (s : Hp), k + c = 44 → c < f → PI2 x y (15 * k) s → ∃ s', D_L_law_w21 L xs x y kx f 1 (nI k) s = kx 1 s' ∧ PI2 x y 660 s' := by
  intro c
  induction c with
  | zero =>
    intro k f s hk hf h
    obtain ⟨f, rfl⟩ : ∃ g, f = g + 1 := ⟨f - 1, by omega⟩
    have hk : k = 44 := by omega
    subst hk
    refine ⟨s, ?_, h⟩
    unfold D_L_law_w21
    rw [if_pos (show (44 : Int32) ≤ nI 44 by decide)]
  | succ c ih =>
    intro k f s hk hf h
    obtain ⟨f, rfl⟩ : ∃ g, f = g + 1 := ⟨f - 1, by omega⟩
    obtain ⟨v, e1⟩ := cell_s (L := L) (xs := xs) hL (show k < 100 by omega) s
    obtain ⟨w, e2⟩ := cell_s (L := L) (xs := xs) hL (show k + 1 < 100 by omega) s
    obtain ⟨s1, e3, h1⟩ := st_all hxy h (d' := 15 * ((k + 1 : Nat) : Int)) (by omega) (by omega) v (w >>> ((2 : Int32) &&& 31))
    have goon : ∀ s2, PI2 x y (15 * ((k + 1 : Nat) : Int)) s2 → ∃ s', D_L_law_b71 L xs (D_L_law_w21 L xs x y kx f) x y (nI k) s2 = kx 1 s' ∧ PI2 x y 660 s' := by
      intro s2 h2
      obtain ⟨s', e7, h7⟩ := ih (k + 1) f s2 (by omega) (by omega) h2
      refine ⟨s', ?_, h7⟩
      unfold D_L_law_b71 D_L_law_b76
      rw [nI_1]
      exact e7
    have hun : ∀ R, (remI (nI k) (9 : Int32)).bind (fun i42 =>
        if 0 < i42 then
        D_L_law_b71 L xs (D_L_law_w21 L xs x y kx f) x y (nI k) s1
        else
        bd (D_L_isWell x s1) fun i50 s51 =>
        if i50 = 0 then
        D_L_law_b75 L xs (D_L_law_w21 L xs x y kx f) x y (nI k) s51
        else
        D_L_law_b71 L xs (D_L_law_w21 L xs x y kx f) x y (nI k) s51) = R → D_L_law_w21 L xs x y kx (f + 1) 1 (nI k) s = R := by
      intro R hR
      unfold D_L_law_w21
      rw [if_neg (show ¬ (44 : Int32) ≤ nI k from nI_ge (a := k) (b := 44) (by omega) (by omega)), if_neg (show ¬ (1 : Int32) = 0 by decide), e1, bd_some, nI_1, e2, bd_some, e3, bd_some, if_neg (show ¬ (1 : Int32) = 0 by decide)]
      exact hR
    by_cases c9 : (0 : Int32) < nI (k % 9)
    · obtain ⟨s', e7, h7⟩ := goon s1 h1
      refine ⟨s', hun _ ?_, h7⟩
      rw [rm9 (by omega), Option.bind_some, if_pos c9]
      exact e7
    · obtain ⟨A, B, H, G, hD⟩ := h1
      obtain ⟨s2, e4, h2⟩ := iw_all hD.1
      obtain ⟨s', e7, h7⟩ := goon s2 ⟨A, B, H, G, h2, hD.2⟩
      refine ⟨s', hun _ ?_, h7⟩
      rw [rm9 (by omega), Option.bind_some, if_neg c9, e4, bd_some, if_neg (show ¬ (1 : Int32) = 0 by decide)]
      exact e7
end LW
/-! the law's function ends with 1, whatever the script says -/
theorem sm_pure (o L : Nat) (xs : Nat → Int32) (hL : L ≤ 260) : OK jI (D_L_law L xs (o, fun _ => none)) sm_PL := by
  have h1 := b_main (s := (o, fun _ => none)) (x := o) rfl
  have h2 := b_main (s := xh (o + 184, fun _ => none) o ci0 cz0) (x := o + 184) rfl
  rw [b_xh] at h1 h2
  have hxy : o + 184 ≤ o + 184 ∨ o + 184 + 184 ≤ o := Or.inl (Nat.le_refl _)
  have e0 : nO (ar0 1) = 0 := rfl
  have hI : PI2 o (o + 184) (15 * ((0 : Nat) : Int)) (xh (o + 184 + 184, (xh (o + 184, fun _ => none) o ci0 cz0).2) (o + 184) ci0 cz0) := by
    refine ⟨ar0 1, ar0 1, [], [], ⟨(o + 184 + 184, fun _ => none), ci0, cz0, ci0, cz0, 0, 0, fun _ => none, fun _ => 0, 0, fun _ => none, fun _ => 0, 0, ?_, XI0, XI0⟩, ⟨fun k _ => rfl, fun i hi => ?_⟩, trivial, ?_, fun C hC => (by cases hC)⟩
    · rw [comm2 hxy]
      rfl
    · rw [e0] at hi
      omega
    · show (0 : Int32).toInt ≤ _
      rw [show (0 : Int32).toInt = 0 from rfl]
      omega
  obtain ⟨s1, w1, A, B, H, G, hD⟩ := lw_loop (xs := xs) hL hxy (fun i55 s54 =>
    D_L_law_b83 L xs o (o + 184) i55 s54
    ) 44 0 FU _ (by omega) (by rw [FU_eq]; omega) hI
  obtain ⟨s2, w2, g2⟩ := iw_all hD.1
  obtain ⟨s3, w3, g3⟩ := al_all hxy hD.2.1 g2
  refine ⟨(1, s3), ?_, rfl⟩
  rw [show nI 0 = (0 : Int32) from rfl] at w1
  unfold D_L_law
  rw [nm_eq, h1, Option.bind_some, nm_eq, show (xh (o + 184, fun _ => none) o ci0 cz0).1 = o + 184 from rfl, h2, Option.bind_some]
  refine w1.trans ?_
  unfold D_L_law_b83
  rw [if_neg (show ¬ (1 : Int32) = 0 by decide), w2, bd_some, if_neg (show ¬ (1 : Int32) = 0 by decide), w3, bd_some, if_neg (show ¬ (1 : Int32) = 0 by decide), retZ_1]
