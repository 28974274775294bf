/-! isWell: what each mirror gives at an hour -/
section IW4
variable {x y : Nat} {A B : Nat → Int32} {H G : List (Nat → Int32)}
theorem oI_lt {A : Nat → Int32} {n i h : Nat} (hn : n ≤ 25) : oI (shade A n i h) < 0 ↔ shade A n i h = none := by
  cases hs : shade A n i h with
  | none => exact ⟨fun _ => rfl, fun _ => (by show (-6 : Int32) < 0; decide)⟩
  | some j =>
    have := shade_lt hs
    constructor
    · intro q
      have q : nI j < 0 := q
      rw [pu_lt, nI_toInt (by omega), show (0 : Int32).toInt = 0 from rfl] at q
      omega
    · intro q; cases q
theorem iw_561 (hW : WS A (nO A)) {g k : Nat} (hg : g < 11) (hk : k < nO A) {i592 i593 i594 i595 i596 i597 : Int32} (k507 : Int32 → Int32 → Hp → Option (Int32 × Hp)) (dk : Bool) (hdk : dk = true ↔ (flat A = true ∨ shade A (nO A) k g ≠ none ∨ blk A (nO A) k = true)) {s : Hp} (h : St x y A H B G s) : ∃ s', D_L_isWell_b561 k507 x (nI (nO A)) i592 i593 i594 i595 i596 i597 1 (nI g) (nI k) (oI (shade A (nO A) k g)) (gv A (nO A) g k) (bI dk) s = k507 1 (nI k + 1) s' ∧ St x y A H B G s' := by
  have hn := hW.2
  have h60 := gv_in hW.1 hk hg
  obtain ⟨-, -, -, a3⟩ := hW.1.2.1 k hk
  have hend : ∀ s2, St x y A H B G s2 → ∃ s', D_L_isWell_b631 k507 x (nI (nO A)) i592 i593 i594 i595 i596 i597 (nI g) (nI k) (gv A (nO A) g k) (bI dk) s2 = k507 1 (nI k + 1) s' ∧ St x y A H B G s' := by
    intro s2 h2
    unfold D_L_isWell_b631
    rw [if_neg (show ¬ (60 : Int32) < gv A (nO A) g k by rw [pu_lt, show (60 : Int32).toInt = 60 from rfl]; omega)]
    cases hd : dk with
    | true =>
      refine ⟨s2, ?_, h2⟩
      rw [if_neg (show ¬ bI true = 0 by decide)]
      rfl
    | false =>
      obtain ⟨s3, e3, h3⟩ := q_of h2 (nI k) 3
      rw [of_3 hk (by omega)] at e3
      refine ⟨s3, ?_, h3⟩
      rw [if_pos (show bI false = 0 from rfl), e3, bd_some]
      by_cases c50 : (50 : Int32) < gA A k 3
      · rw [if_pos c50]
        rfl
      · rw [if_neg c50, if_neg]
        · rfl
        · have hp := gv_pos hW.1 hk hg (fun q => by rw [hdk.2 q] at hd; cases hd) (by
            rw [pu_lt, show (50 : Int32).toInt = 50 from rfl] at c50
            omega)
          rw [pu_le, show (0 : Int32).toInt = 0 from rfl]
          omega
  obtain ⟨s1, e1, h1⟩ := q_at h (nI k) (nI g) 0
  rw [at_0 hk (by omega) hg] at e1
  have hmid : ∀ s2, St x y A H B G s2 → ∃ s', D_L_isWell_b609 k507 x (nI (nO A)) i592 i593 i594 i595 i596 i597 (nI g) (nI k) (oI (shade A (nO A) k g)) (gv A (nO A) g k) (bI dk) s2 = k507 1 (nI k + 1) s' ∧ St x y A H B G s' := by
    intro s2 h2
    unfold D_L_isWell_b609
    by_cases cs : shade A (nO A) k g = none
    · rw [if_pos ((oI_lt (by omega)).2 cs)]
      exact hend s2 h2
    · rw [if_neg (fun q => cs ((oI_lt (by omega)).1 q))]
      obtain ⟨j, hj⟩ := Option.ne_none_iff_exists'.1 cs
      have hjn := shade_lt hj
      have hrow := shade_row hW.1 hk hg hj
      obtain ⟨s3, e3, h3⟩ := q_of h2 (nI j) 0
      rw [of_0 hjn (by omega)] at e3
      obtain ⟨s4, e4, h4⟩ := q_of h3 (nI k) 0
      rw [of_0 hk (by omega)] at e4
      rw [hj]
      rw [show oI (some j) = nI j from rfl, e3, bd_some, e4, bd_some, if_neg (show ¬ gA A k 0 ≤ gA A j 0 by rw [pu_le]; omega)]
      exact hend s4 h4
  obtain ⟨s2, e2, h2⟩ := hmid s1 h1
  refine ⟨s2, ?_, h2⟩
  have hgive : dk = true → gv A (nO A) g k = 0 := fun q => gv_dark (hdk.1 q)
  have h596 : ∀ b : Int32, D_L_isWell_b596 k507 x (nI (nO A)) i592 i593 i594 i595 i596 i597 (nI g) (nI k) (oI (shade A (nO A) k g)) (gv A (nO A) g k) (bI dk) b b s1 = k507 1 (nI k + 1) s2 := by
    intro b
    unfold D_L_isWell_b596
    rw [if_pos rfl]
    cases hd : dk with
    | false =>
      rw [if_pos (show bI false = 0 from rfl)]
      rw [hd] at e2
      exact e2
    | true =>
      rw [if_neg (show ¬ bI true = 0 by decide), if_pos (hgive hd)]
      rw [hd] at e2
      exact e2
  unfold D_L_isWell_b561
  rw [if_neg (show ¬ (1 : Int32) = 0 by decide)]
  by_cases cs : shade A (nO A) k g = none
  · rw [if_pos ((oI_lt (by omega)).2 cs)]
    unfold D_L_isWell_b578
    rw [e1, bd_some, if_pos cs, if_neg (show ¬ (0 : Int32) = 1 by decide)]
    exact h596 0
  · rw [if_neg (fun q => cs ((oI_lt (by omega)).1 q))]
    unfold D_L_isWell_b578
    rw [e1, bd_some, if_neg cs, if_pos (show (1 : Int32) = 1 from rfl)]
    exact h596 1
theorem iw_507 (hW : WS A (nO A)) {g : Nat} (hg : g < 11) {i561 i562 i563 i564 i565 : Int32} (kx : Int32 → Hp → Option (Int32 × Hp)) : ∀ (c k f : Nat) (s : Hp), k + c = nO A → c < f → St x y A H B G s → ∃ s', D_L_isWell_w507 x (nI (nO A)) i561 i562 i563 i564 i565 (bI (flat A)) (nI g) kx f 1 (nI k) s = kx 1 s' ∧ St x y A H B G s' := by
  intro c
  have hn := hW.2
  induction c with
  | zero =>
    intro k f s hk hf h
    obtain ⟨f, rfl⟩ : ∃ g, f = g + 1 := ⟨f - 1, by omega⟩
    have hk : k = nO A := by omega
    refine ⟨s, ?_, h⟩
    unfold D_L_isWell_w507
    rw [hk, if_pos (Int32.le_refl _)]
  | succ c ih =>
    intro k f s hk hf h
    obtain ⟨f, rfl⟩ : ∃ g, f = g + 1 := ⟨f - 1, by omega⟩
    have hkn : k < nO A := by omega
    obtain ⟨s1, e1, h1⟩ := q_at h (nI k) (nI g) 3
    rw [at_3 hkn (by omega) hg] at e1
    obtain ⟨s2, e2, h2⟩ := q_at h1 (nI k) (nI g) 1
    rw [at_1 hkn (by omega) hg] at e2
    have go : ∀ (dk : Bool), (dk = true ↔ (flat A = true ∨ shade A (nO A) k g ≠ none ∨ blk A (nO A) k = true)) → ∀ s3, St x y A H B G s3 → ∃ s', D_L_isWell_b561 (D_L_isWell_w507 x (nI (nO A)) i561 i562 i563 i564 i565 (bI (flat A)) (nI g) kx f) x (nI (nO A)) i561 i562 i563 i564 i565 (bI (flat A)) 1 (nI g) (nI k) (oI (shade A (nO A) k g)) (gv A (nO A) g k) (bI dk) s3 = kx 1 s' ∧ St x y A H B G s' := by
      intro dk hdk s3 h3
      obtain ⟨s4, e4, h4⟩ := iw_561 hW hg hkn (i592 := i561) (i593 := i562) (i594 := i563) (i595 := i564) (i596 := i565) (i597 := bI (flat A)) (D_L_isWell_w507 x (nI (nO A)) i561 i562 i563 i564 i565 (bI (flat A)) (nI g) kx f) dk hdk h3
      obtain ⟨s', e7, h7⟩ := ih (k + 1) f s4 (by omega) (by omega) h4
      refine ⟨s', ?_, h7⟩
      rw [e4, nI_1]
      exact e7
    by_cases cf : flat A = true
    · obtain ⟨s', e7, h7⟩ := go true ⟨fun _ => Or.inl cf, fun _ => rfl⟩ s2 h2
      refine ⟨s', ?_, h7⟩
      unfold D_L_isWell_w507
      rw [if_neg (nI_ge (a := k) (b := nO A) hkn (by omega)), e1, bd_some, e2, bd_some, if_neg (show ¬ bI (flat A) = 0 by rw [cf]; decide)]
      exact e7
    · have cf0 : flat A = false := by cases hf0 : flat A with | true => exact absurd hf0 cf | false => rfl
      by_cases cs : shade A (nO A) k g = none
      · obtain ⟨s3, e3, h3⟩ := q_of h2 (nI k) 4
        rw [of_4 hkn (by omega)] at e3
        cases hb : blk A (nO A) k with
        | true =>
          rw [hb] at e3
          obtain ⟨s', e7, h7⟩ := go true ⟨fun _ => Or.inr (Or.inr hb), fun _ => rfl⟩ s3 h3
          refine ⟨s', ?_, h7⟩
          unfold D_L_isWell_w507
          rw [if_neg (nI_ge (a := k) (b := nO A) hkn (by omega)), e1, bd_some, e2, bd_some, if_pos (show bI (flat A) = 0 by rw [cf0]; rfl), if_neg (show ¬ 0 ≤ oI (shade A (nO A) k g) by have := (oI_lt (A := A) (n := nO A) (i := k) (h := g) (by omega)).2 cs; rw [pu_lt] at this; rw [pu_le]; omega), e3, bd_some, if_pos (show bI true = 1 from rfl)]
          exact e7
        | false =>
          rw [hb] at e3
          obtain ⟨s', e7, h7⟩ := go false ⟨fun q => (by cases q), fun q => (by
            rcases q with q | q | q
            · exact absurd q cf
            · exact absurd cs q
            · rw [hb] at q; cases q)⟩ s3 h3
          refine ⟨s', ?_, h7⟩
          unfold D_L_isWell_w507
          rw [if_neg (nI_ge (a := k) (b := nO A) hkn (by omega)), e1, bd_some, e2, bd_some, if_pos (show bI (flat A) = 0 by rw [cf0]; rfl), if_neg (show ¬ 0 ≤ oI (shade A (nO A) k g) by have := (oI_lt (A := A) (n := nO A) (i := k) (h := g) (by omega)).2 cs; rw [pu_lt] at this; rw [pu_le]; omega), e3, bd_some, if_neg (show ¬ bI false = 1 by decide)]
          exact e7
      · obtain ⟨s', e7, h7⟩ := go true ⟨fun _ => Or.inr (Or.inl cs), fun _ => rfl⟩ s2 h2
        refine ⟨s', ?_, h7⟩
        unfold D_L_isWell_w507
        rw [if_neg (nI_ge (a := k) (b := nO A) hkn (by omega)), e1, bd_some, e2, bd_some, if_pos (show bI (flat A) = 0 by rw [cf0]; rfl), if_pos (show 0 ≤ oI (shade A (nO A) k g) by have := mt (oI_lt (A := A) (n := nO A) (i := k) (h := g) (by omega)).1 cs; rw [pu_lt] at this; rw [pu_le]; omega)]
        exact e7
end IW4
