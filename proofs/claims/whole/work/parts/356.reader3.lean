/-! the class's reader: the whole pad -/
theorem c_isKind (k : Int32) (σ : Hp) : D_X6_isKind k σ = some (if k = 43 ∨ k = 97 ∨ k = 120 ∨ k = 119 ∨ k = 118 ∨ k = 116 then 1 else 0, σ) := by
  unfold D_X6_isKind
  by_cases c1 : k = 43
  · rw [if_pos c1, retZ_1, if_pos (Or.inl c1)]
  · rw [if_neg c1]
    by_cases c2 : k = 120
    · rw [if_pos c2, retZ_1, if_pos (Or.inr (Or.inr (Or.inl c2)))]
    · rw [if_neg c2]
      by_cases c3 : k = 97
      · rw [if_pos c3, retZ_1, if_pos (Or.inr (Or.inl c3))]
      · rw [if_neg c3]
        by_cases c4 : k = 119
        · rw [if_pos c4, retZ_1, if_pos (Or.inr (Or.inr (Or.inr (Or.inl c4))))]
        · rw [if_neg c4]
          by_cases c5 : k = 118
          · rw [if_pos c5, retZ_1, if_pos (Or.inr (Or.inr (Or.inr (Or.inr (Or.inl c5)))))]
          · rw [if_neg c5]
            by_cases c6 : k = 116
            · rw [if_pos c6, retZ_1, if_pos (Or.inr (Or.inr (Or.inr (Or.inr (Or.inr c6)))))]
            · rw [if_neg c6, retZ_0, if_neg]
              rintro (q | q | q | q | q | q)
              · exact c1 q
              · exact c3 q
              · exact c2 q
              · exact c4 q
              · exact c5 q
              · exact c6 q
def pRest (g : Nat → Int32) (N i : Nat) : Option (List Ord4) × Nat := if g i = 59 then pAll g N (i + 1) else (some [], i)
theorem pAll_s (g : Nat → Int32) (N i : Nat) : pAll g (N + 1) i = match pOrd g i with
    | (none, j) => (none, j)
    | (some o, j) => match pRest g N j with
      | (none, k) => (none, k)
      | (some l, k) => (some (o :: l), k) := by
  rw [pAll]
  rcases pOrd g i with ⟨_ | o, j⟩
  · rfl
  · dsimp only
    unfold pRest
    by_cases c : g j = 59
    · rw [if_pos c, if_pos c]
      rcases pAll g N (j + 1) with ⟨_ | l, k⟩ <;> rfl
    · rw [if_neg c, if_neg c]
section RW
variable {σ : Hp} {x : Nat} {ci cz : Nat → Nat → Int32} {p : Nat → Int32} {pl i q : Nat}
theorem RS.mv {br : Bool} (h : RS cz i br) (e : RS cz i br → True) : RS cz i br := h
theorem c_rdOrd_n (h : PadR ci cz p pl) (hr : RS cz i true) (hi : i ≤ 80) (hq : q < 80) : ∃ cz' o, D_X6_readOrder (x + 53) (nI q) (xh σ x ci cz) = some (xh σ x (ow ci q o) cz') ∧ RS cz' i true ∧ z53 cz cz' := by
  have hk : ¬ ((0 : Int32) = 43 ∨ (0 : Int32) = 97 ∨ (0 : Int32) = 120 ∨ (0 : Int32) = 119 ∨ (0 : Int32) = 118 ∨ (0 : Int32) = 116) := by decide
  have zz := (z53.rfl (cz := cz)).up (show 6 ≠ 5 by omega) (nI i)
  obtain ⟨z1, o, w1, w2, w3⟩ := c_b57_n (σ := σ) (x := x) (h.z zz) (hr.p6 (j := i)) hi hq (k := 0) ⟨by decide, by decide⟩
  refine ⟨z1, o, ?_, w2, zz.tr w3⟩
  unfold D_X6_readOrder D_X6_readOrder_b22 D_X6_readOrder_b40
  rw [xr_o, Option.bind_some, xr_7, Option.bind_some, hr.2, if_neg (show ¬ bI true = 0 by decide), xr_6, Option.bind_some, c_isKind, bd_some, if_neg hk, if_pos rfl, xr_p6, Option.bind_some, c_isKind, bd_some, if_neg hk, if_pos rfl, hr.1, Int32.add_zero, w1]
theorem c_rdOrd_y (h : PadR ci cz p pl) (hr : RS cz i false) (hi : i ≤ pl) (hq : q < 80) : ROut σ x ci cz q (D_X6_readOrder (x + 53) (nI q) (xh σ x ci cz)) (pOrd (sgn p pl) i) := by
  have hpl := h.1.2
  by_cases c : sgn p pl i = 43 ∨ sgn p pl i = 97 ∨ sgn p pl i = 120 ∨ sgn p pl i = 119 ∨ sgn p pl i = 118 ∨ sgn p pl i = 116
  · have hlt : i < pl := by rcases c with e | e | e | e | e | e <;> exact sg_lt (by decide) e
    have zz := (z53.rfl (cz := cz)).up (show 6 ≠ 5 by omega) (nI (i + 1))
    have w := c_b57_y (σ := σ) (x := x) (q := q) (h.z zz) (hr.p6 (j := i + 1)) (by omega) hq (sgn p pl i)
    have ek : pKind (sgn p pl) (sgn p pl i) (i + 1) = pOrd (sgn p pl) i := by
      unfold pKind pOrd pOne
      by_cases c1 : sgn p pl i = 43
      · rw [if_pos c1, if_pos c1]
      · rw [if_neg c1, if_neg c1]
        by_cases c2 : sgn p pl i = 97
        · rw [if_pos c2, if_pos c2]
        · rw [if_neg c2, if_neg c2, if_pos (by
            rcases c with e | e | e
            · exact absurd e c1
            · exact absurd e c2
            · exact e)]
          rfl
    rw [ek] at w
    obtain ⟨z1, o, w1, w2, w3, w4⟩ := w
    refine ⟨z1, o, ?_, w2, zz.tr w3, w4⟩
    unfold D_X6_readOrder D_X6_readOrder_b22 D_X6_readOrder_b40
    rw [xr_o, Option.bind_some, xr_7, Option.bind_some, hr.2, if_pos (show bI false = 0 from rfl), xr_0, Option.bind_some, xr_6, Option.bind_some, hr.1, c_sign h (by omega), bd_some, xr_6, Option.bind_some, c_isKind, bd_some, if_pos c, if_neg (by decide), xr_p6, Option.bind_some, c_isKind, bd_some, if_pos c, if_neg (by decide), hr.1, nI_1, w1]
  · have zz := (z53.rfl (cz := cz)).up (show 6 ≠ 5 by omega) (nI i)
    have c1 : sgn p pl i ≠ 43 := fun e => c (Or.inl e)
    have c2 : sgn p pl i ≠ 97 := fun e => c (Or.inr (Or.inl e))
    have c3 : ¬ (sgn p pl i = 120 ∨ sgn p pl i = 119 ∨ sgn p pl i = 118 ∨ sgn p pl i = 116) := fun e => c (Or.inr (Or.inr e))
    obtain ⟨z1, o, w1, w2, w3⟩ := c_b57_n (σ := σ) (x := x) (h.z zz) (hr.p6 (j := i)) (by omega) hq (k := sgn p pl i) ⟨c1, c2⟩
    have ek : pOrd (sgn p pl) i = (none, i) := by
      unfold pOrd
      rw [if_neg c1, if_neg c2, if_neg c3]
    rw [ek]
    refine ⟨z1, o, ?_, w2, zz.tr w3, fun o' ho => by cases ho⟩
    unfold D_X6_readOrder D_X6_readOrder_b22 D_X6_readOrder_b40
    rw [xr_o, Option.bind_some, xr_7, Option.bind_some, hr.2, if_pos (show bI false = 0 from rfl), xr_0, Option.bind_some, xr_6, Option.bind_some, hr.1, c_sign h (by omega), bd_some, xr_6, Option.bind_some, c_isKind, bd_some, if_neg c, if_pos rfl, xr_p6, Option.bind_some, c_isKind, bd_some, if_neg c, if_pos rfl, hr.1, Int32.add_zero, w1]
theorem pOrd_le {o : Ord4} {j : Nat} (hi : i ≤ pl) (h : pOrd (sgn p pl) i = (some o, j)) : j ≤ pl := by
  have n3le : ∀ {i : Nat} {v : Int32} {j : Nat}, n3 (sgn p pl) i = some (v, j) → j ≤ pl := by
    intro i v j hn
    have e := n3_ge hn
    unfold n3 at hn
    by_cases hd : rng (sgn p pl i) 48 51
    · have := sgn_rng hd (by omega)
      omega
    · rw [if_neg hd] at hn; cases hn
  unfold pOrd at h
  split at h
  · unfold pMir at h
    rcases h1 : n99 (sgn p pl) (i + 1) with _ | ⟨a, k⟩
    · rw [h1] at h; cases h
    · rw [h1] at h
      dsimp only at h
      split at h
      · rcases h2 : n99 (sgn p pl) (k + 1) with _ | ⟨b, l⟩
        · rw [h2] at h; cases h
        · rw [h2] at h
          dsimp only at h
          split at h
          · rcases h3 : n3 (sgn p pl) (l + 1) with _ | ⟨c, t⟩
            · rw [h3] at h; cases h
            · rw [h3] at h
              cases h
              exact n3le h3
          · cases h
            exact n99_le h2
      · cases h
  · split at h
    · unfold pAim at h
      rcases h1 : n99 (sgn p pl) (i + 1) with _ | ⟨a, k⟩
      · rw [h1] at h; cases h
      · rw [h1] at h
        dsimp only at h
        split at h
        · rcases h3 : n3 (sgn p pl) (k + 1) with _ | ⟨c, t⟩
          · rw [h3] at h; cases h
          · rw [h3] at h
            cases h
            exact n3le h3
        · cases h
    · split at h
      · unfold pOne at h
        rcases h1 : n99 (sgn p pl) (i + 1) with _ | ⟨a, k⟩
        · rw [h1] at h; cases h
        · rw [h1] at h
          cases h
          exact n99_le h1
      · cases h
theorem pOrd_s {o : Ord4} {j : Nat} (h : pOrd (sgn p pl) i = (some o, j)) : i + 1 ≤ j := by
  unfold pOrd at h
  split at h
  · have := pMir_ge (g := sgn p pl) (i := i + 1); rw [h] at this; exact this
  · split at h
    · have := pAim_ge (g := sgn p pl) (i := i + 1); rw [h] at this; exact this
    · split at h
      · unfold pOne at h
        rcases h1 : n99 (sgn p pl) (i + 1) with _ | ⟨a, k⟩
        · rw [h1] at h; cases h
        · rw [h1] at h
          have := n99_ge h1
          cases h
          omega
      · cases h
def rAns (pl : Nat) (r : Option (List Ord4) × Nat) : Int32 := match r with
  | (none, j) => nI j
  | (some _, j) => if j = pl then -6 else nI j
theorem c_b77 {br : Bool} (hr : RS cz i br) : D_X6_read_b77 (x + 53) (xh σ x ci cz) = some (if br = true then nI i else -6, xh σ x ci cz) := by
  unfold D_X6_read_b77
  rw [xr_7, Option.bind_some, hr.2]
  cases br with
  | true => rw [if_neg (show ¬ bI true = 0 by decide), xr_6, Option.bind_some, hr.1, if_pos rfl]
  | false => rw [if_pos (show bI false = 0 from rfl), if_neg (by decide)]
theorem c_w20_br (hr : RS cz i true) (f : Nat) : D_X6_read_w20 (x + 53) (fun s30 => D_X6_read_b77 (x + 53) s30) (f + 1) (xh σ x ci cz) = some (nI i, xh σ x ci cz) := by
  unfold D_X6_read_w20
  rw [xr_7, Option.bind_some, hr.2, if_neg (show ¬ bI true = 0 by decide), c_b77 hr, if_pos rfl]
theorem c_w20 : ∀ (N i f t : Nat) (ci cz : Nat → Nat → Int32), pl ≤ i + N → N + 1 < f → i ≤ pl → t ≤ i → PadR ci cz p pl → RS cz i false → cz 53 5 = nI t → ∃ ci' cz', D_X6_read_w20 (x + 53) (fun s30 => D_X6_read_b77 (x + 53) s30) f (xh σ x ci cz) = some (rAns pl (pRest (sgn p pl) N i), xh σ x ci' cz') ∧ (∀ l, pRest (sgn p pl) N i = (some l, pl) → cz' 53 5 = nI (t + l.length) ∧ ∀ k o, l[k]? = some o → rowO ci' (t + k) = o) ∧ (∀ k, k < t → rowO ci' k = rowO ci k) ∧ (∀ j, (j < 55 ∨ 61 < j) → ci' j = ci j) ∧ ∀ j, j ≠ 53 → cz' j = cz j := by
  intro N
  induction N with
  | zero =>
    intro i f t ci cz h1 hf hi ht h hr h5
    obtain ⟨f, rfl⟩ : ∃ g, f = g + 1 := ⟨f - 1, by omega⟩
    have hpl := h.1.2
    have e : i = pl := by omega
    have eR : pRest (sgn p pl) 0 i = (some [], i) := by
      unfold pRest
      rw [if_neg (by rw [sgn_ge (by omega)]; decide)]
    refine ⟨ci, cz, ?_, fun l hl => ?_, fun _ _ => rfl, fun _ _ => rfl, fun _ _ => rfl⟩
    · rw [eR]
      unfold D_X6_read_w20 D_X5_length rAns
      dsimp only
      rw [xr_7, Option.bind_some, hr.2, if_pos (show bI false = 0 from rfl), xr_6, Option.bind_some, hr.1, xr_0, Option.bind_some, xp_o, Option.bind_some, xp_1, Option.bind_some, h.1.1, bd_some, if_pos (nI_le (by omega) (by omega)), c_b77 hr, if_neg (by decide), if_pos e]
    · rw [eR] at hl
      cases hl
      exact ⟨h5, fun k o hk => by simp at hk⟩
  | succ N ih =>
    intro i f t ci cz h1 hf hi ht h hr h5
    obtain ⟨f, rfl⟩ : ∃ g, f = g + 1 := ⟨f - 1, by omega⟩
    have hpl := h.1.2
    rcases Nat.lt_or_ge i pl with hlt | hge
    · have hhead : D_X6_read_w20 (x + 53) (fun s30 => D_X6_read_b77 (x + 53) s30) (f + 1) (xh σ x ci cz) = (D_X6_expect (x + 53) (59 : Int32) (xh σ x ci cz)).bind fun s24 =>
          (getI s24 (x + 53) 6 5).bind fun i25 =>
          (D_X6_readOrder (x + 53) i25 s24).bind fun s26 =>
          (getI s26 (x + 53) 6 5).bind fun i27 =>
          (putI s26 (x + 53) 6 5 (i27 + (1 : Int32))).bind fun s28 =>
          D_X6_read_w20 (x + 53) (fun s30 => D_X6_read_b77 (x + 53) s30) f s28 := by
        conv => lhs; unfold D_X6_read_w20 D_X5_length
        rw [xr_7, Option.bind_some, hr.2, if_pos (show bI false = 0 from rfl), xr_6, Option.bind_some, hr.1, xr_0, Option.bind_some, xp_o, Option.bind_some, xp_1, Option.bind_some, h.1.1, bd_some, if_neg (nI_ge (a := i) (b := pl) hlt (by omega)), xr_5, Option.bind_some, h5, if_neg (show ¬ (80 : Int32) ≤ nI t from nI_ge (a := t) (b := 80) (by omega) (by omega))]
      have ht80 : t < 80 := by omega
      by_cases c : sgn p pl i = 59
      · obtain ⟨z1, w1, w2, w3⟩ := c_exp_y (σ := σ) (x := x) h hr (by omega) c
        have hR := c_rdOrd_y (σ := σ) (x := x) (q := t) (h.z w3) w2 (by omega) ht80
        have eR : pRest (sgn p pl) (N + 1) i = pAll (sgn p pl) (N + 1) (i + 1) := by unfold pRest; rw [if_pos c]
        rw [eR, pAll_s]
        rcases hp : pOrd (sgn p pl) (i + 1) with ⟨_ | o, j⟩
        · rw [hp] at hR
          obtain ⟨z2, o2, q1, q2, q3, -⟩ := hR
          dsimp only at q2 ⊢
          refine ⟨ow ci t o2, va_up z2 53 (upd (z2 53) 5 (nI (t + 1))), ?_, (fun l hl => by cases hl), fun k hk => row_ne (by omega), fun j hj => ow_ne hj, fun j hj => (up_ne hj).trans ((w3.tr q3).1 j hj)⟩
          have e5 : z2 53 5 = nI t := ((w3.tr q3).2).trans h5
          have r2 : RS (va_up z2 53 (upd (z2 53) 5 (nI (t + 1)))) j true := ⟨by rw [up_eq, upd_ne (by omega)]; exact q2.1, by rw [up_eq, upd_ne (by omega)]; exact q2.2⟩
          obtain ⟨f, rfl⟩ : ∃ g, f = g + 1 := ⟨f - 1, by omega⟩
          rw [hhead, w1, Option.bind_some, xr_5, Option.bind_some, w3.2, h5, q1, Option.bind_some, xr_5, Option.bind_some, e5, xr_p5, Option.bind_some, nI_1, c_w20_br r2]
          rfl
        · rw [hp] at hR
          obtain ⟨z2, o2, q1, q2, q3, q4⟩ := hR
          dsimp only at q2 q4 ⊢
          have eo : o2 = o := q4 o rfl
          subst eo
          have e5 : z2 53 5 = nI t := ((w3.tr q3).2).trans h5
          have hj1 := pOrd_s hp
          have hj2 := pOrd_le (by omega) hp
          have r2 : RS (va_up z2 53 (upd (z2 53) 5 (nI (t + 1)))) j false := ⟨by rw [up_eq, upd_ne (by omega)]; exact q2.1, by rw [up_eq, upd_ne (by omega)]; exact q2.2⟩
          have p2 : PadR (ow ci t o2) (va_up z2 53 (upd (z2 53) 5 (nI (t + 1)))) p pl := ⟨by rw [up_ne (by omega), (w3.tr q3).1 50 (by omega)]; exact h.1, h.ow.2⟩
          obtain ⟨c3, z3, s1, s2, s3, s4, s5⟩ := ih j f (t + 1) (ow ci t o2) _ (by omega) (by omega) hj2 (by omega) p2 r2 (by rw [up_eq, upd_eq])
          refine ⟨c3, z3, ?_, fun l hl => ?_, fun k hk => (s3 k (by omega)).trans (row_ne (by omega)), fun j' hj' => (s4 j' hj').trans (ow_ne hj'), fun j' hj' => (s5 j' hj').trans ((up_ne hj').trans ((w3.tr q3).1 j' hj'))⟩
          · rw [hhead, w1, Option.bind_some, xr_5, Option.bind_some, w3.2, h5, q1, Option.bind_some, xr_5, Option.bind_some, e5, xr_p5, Option.bind_some, nI_1, s1]
            rcases pRest (sgn p pl) N j with ⟨_ | l, k⟩ <;> rfl
          · rcases hq : pRest (sgn p pl) N j with ⟨_ | l2, k⟩
            · rw [hq] at hl; cases hl
            · rw [hq] at hl s2
              cases hl
              obtain ⟨g1, g2⟩ := s2 l2 rfl
              refine ⟨by rw [g1, List.length_cons]; congr 1; omega, fun k o hk => ?_⟩
              cases k with
              | zero =>
                simp at hk
                rw [← hk, Nat.add_zero, s3 t (by omega), row_ow]
              | succ k =>
                have := g2 k o (by simpa using hk)
                rw [← this]
                congr 1
                omega
      · obtain ⟨z1, w1, w2, w3⟩ := c_exp_n (σ := σ) (x := x) (br := false) h hr (by omega) (c := 59) (Or.inr c)
        obtain ⟨z2, o2, q1, q2, q3⟩ := c_rdOrd_n (σ := σ) (x := x) (q := t) (h.z w3) w2 (by omega) ht80
        have eR : pRest (sgn p pl) (N + 1) i = (some [], i) := by unfold pRest; rw [if_neg c]
        rw [eR]
        have e5 : z2 53 5 = nI t := ((w3.tr q3).2).trans h5
        refine ⟨ow ci t o2, va_up z2 53 (upd (z2 53) 5 (nI (t + 1))), ?_, fun l hl => by
          have := congrArg Prod.snd hl
          dsimp only at this
          omega, fun k hk => row_ne (by omega), fun j hj => ow_ne hj, fun j hj => (up_ne hj).trans ((w3.tr q3).1 j hj)⟩
        have r2 : RS (va_up z2 53 (upd (z2 53) 5 (nI (t + 1)))) i true := ⟨by rw [up_eq, upd_ne (by omega)]; exact q2.1, by rw [up_eq, upd_ne (by omega)]; exact q2.2⟩
        obtain ⟨f, rfl⟩ : ∃ g, f = g + 1 := ⟨f - 1, by omega⟩
        rw [hhead, w1, Option.bind_some, xr_5, Option.bind_some, w3.2, h5, q1, Option.bind_some, xr_5, Option.bind_some, e5, xr_p5, Option.bind_some, nI_1, c_w20_br r2]
        unfold rAns
        dsimp only
        rw [if_neg (by omega)]
    · have e : i = pl := by omega
      have eR : pRest (sgn p pl) (N + 1) i = (some [], i) := by
        unfold pRest
        rw [if_neg (by rw [sgn_ge (by omega)]; decide)]
      refine ⟨ci, cz, ?_, fun l hl => ?_, fun _ _ => rfl, fun _ _ => rfl, fun _ _ => rfl⟩
      · rw [eR]
        unfold D_X6_read_w20 D_X5_length rAns
        dsimp only
        rw [xr_7, Option.bind_some, hr.2, if_pos (show bI false = 0 from rfl), xr_6, Option.bind_some, hr.1, xr_0, Option.bind_some, xp_o, Option.bind_some, xp_1, Option.bind_some, h.1.1, bd_some, if_pos (nI_le (by omega) (by omega)), c_b77 hr, if_neg (by decide), if_pos e]
      · rw [eR] at hl
        cases hl
        exact ⟨h5, fun k o hk => by simp at hk⟩
end RW
