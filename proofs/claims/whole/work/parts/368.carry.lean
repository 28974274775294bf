/-! the class carries orders out -/
def kO (o : Ord4) : Prop := o.1 = 43 ∨ o.1 = 97 ∨ o.1 = 120 ∨ o.1 = 119 ∨ o.1 = 118 ∨ o.1 = 116
theorem pOrd_kind {g : Nat → Int32} {i : Nat} {o : Ord4} {j : Nat} (h : pOrd g i = (some o, j)) : kO o := by
  unfold pOrd at h
  split at h
  · unfold pMir at h
    rcases h1 : n99 g (i + 1) with _ | ⟨a, k⟩
    · rw [h1] at h; cases h
    · rw [h1] at h
      dsimp only at h
      split at h
      · rcases h2 : n99 g (k + 1) with _ | ⟨b, l⟩
        · rw [h2] at h; cases h
        · rw [h2] at h
          dsimp only at h
          split at h
          · rcases h3 : n3 g (l + 1) with _ | ⟨c, t⟩
            · rw [h3] at h; cases h
            · rw [h3] at h
              cases h
              exact Or.inl rfl
          · cases h
            exact Or.inl rfl
      · cases h
  · split at h
    · unfold pAim at h
      rcases h1 : n99 g (i + 1) with _ | ⟨a, k⟩
      · rw [h1] at h; cases h
      · rw [h1] at h
        dsimp only at h
        split at h
        · rcases h3 : n3 g (k + 1) with _ | ⟨c, t⟩
          · rw [h3] at h; cases h
          · rw [h3] at h
            cases h
            exact Or.inr (Or.inl rfl)
        · cases h
    · split at h
      · rename_i hk
        unfold pOne at h
        rcases h1 : n99 g (i + 1) with _ | ⟨a, k⟩
        · rw [h1] at h; cases h
        · rw [h1] at h
          cases h
          exact Or.inr (Or.inr hk)
      · cases h
theorem pAll_pos {p : Nat → Int32} {pl : Nat} : ∀ (N i : Nat) (l : List Ord4) (k : Nat), pAll (sgn p pl) N i = (some l, k) → i + l.length ≤ k ∧ ∀ o, o ∈ l → kO o
  | 0, _, _, _, h => by
    rw [pAll] at h
    cases h
  | N + 1, i, l, k, h => by
    rw [pAll] at h
    rcases hp : pOrd (sgn p pl) i with ⟨_ | o, j⟩
    · rw [hp] at h; cases h
    · rw [hp] at h
      have hs := pOrd_s hp
      have hk := pOrd_kind hp
      dsimp only at h
      split at h
      · rcases hq : pAll (sgn p pl) N (j + 1) with ⟨_ | l2, k2⟩
        · rw [hq] at h; cases h
        · rw [hq] at h
          cases h
          obtain ⟨g1, g2⟩ := pAll_pos N (j + 1) l2 _ hq
          refine ⟨by rw [List.length_cons]; omega, fun o' ho => ?_⟩
          rcases List.mem_cons.1 ho with e | e
          · rw [e]; exact hk
          · exact g2 o' e
      · cases h
        refine ⟨by simp; omega, fun o' ho => ?_⟩
        rw [List.mem_singleton.1 ho]; exact hk
section XF
variable {σ : Hp} {x : Nat} {ci cz : Nat → Nat → Int32} {p : Nat → Int32} {pl n : Nat} {A : Nat → Int32} {H : List (Nat → Int32)} {S : SLT}
theorem x_carry (h : FA ci cz 1 A n) (hW : WS A n) {i : Nat} (hi : i < 80) {o : Ord4} (ho : rowO ci i = o) (hk : kO o) : ∃ c' z', D_X9_carry x (nI i) (xh σ x ci cz) = some ((exO A o).1, xh σ x c' z') ∧ FA c' z' 1 (exO A o).2 (nO (exO A o).2) ∧ fr 1 25 ci cz c' z' := by
  obtain ⟨k, a, b, c⟩ := o
  have e1 : ci (54 + 1) i = k := congrArg (fun q => q.1) ho
  have e2 : ci (56 + 1) i = a := congrArg (fun q => q.2.1) ho
  have e3 : ci (58 + 1) i = b := congrArg (fun q => q.2.2.1) ho
  have e4 : ci (60 + 1) i = c := congrArg (fun q => q.2.2.2) ho
  have hn := nO_eq hW
  have r1 : D_X6_first (x + 53) (nI i) (xh σ x ci cz) = some (a, xh σ x ci cz) := by
    unfold D_X6_first
    rw [xr_o, Option.bind_some, xr_2, Option.bind_some, x_rd kd54.2.1.1 kd54.2.1.2 hi, bd_some, e2]
  have r2 : D_X6_second (x + 53) (nI i) (xh σ x ci cz) = some (b, xh σ x ci cz) := by
    unfold D_X6_second
    rw [xr_o, Option.bind_some, xr_3, Option.bind_some, x_rd kd54.2.2.1.1 kd54.2.2.1.2 hi, bd_some, e3]
  have r3 : D_X6_third (x + 53) (nI i) (xh σ x ci cz) = some (c, xh σ x ci cz) := by
    unfold D_X6_third
    rw [xr_o, Option.bind_some, xr_4, Option.bind_some, x_rd kd54.2.2.2.1 kd54.2.2.2.2 hi, bd_some, e4]
  have r0 : D_X6_kind (x + 53) (nI i) (xh σ x ci cz) = some (k, xh σ x ci cz) := by
    unfold D_X6_kind
    rw [xr_o, Option.bind_some, xr_1, Option.bind_some, x_rd kd54.1.1 kd54.1.2 hi, bd_some, e1]
  unfold D_X9_carry
  rw [xm_o, Option.bind_some, xm_4, Option.bind_some, r1, bd_some, xm_4, Option.bind_some, r2, bd_some, xm_4, Option.bind_some, r0, bd_some]
  rcases hk with q | q | q | q | q | q
  · dsimp only at q
    subst q
    obtain ⟨c2, z2, w1, w2, w3⟩ := C_place (σ := σ) (x := x) FD_1 h hW a b c
    rw [exO_m, hn, if_pos rfl, xm_0, Option.bind_some, xm_4, Option.bind_some, r3, bd_some, w1, bd_some]
    exact ⟨c2, z2, rfl, w2, w3.mono (by omega) (by omega)⟩
  · dsimp only at q
    subst q
    obtain ⟨c2, z2, w1, w2, w3⟩ := C_turn (σ := σ) (x := x) FD_1 h hW a b
    rw [exO_a, hn, if_neg (by decide), if_pos rfl, xm_0, Option.bind_some, w1, bd_some]
    exact ⟨c2, z2, rfl, w2, w3.mono (by omega) (by omega)⟩
  · dsimp only at q
    subst q
    obtain ⟨c2, z2, w1, w2, w3⟩ := C_remove (σ := σ) (x := x) FD_1 h hW a
    rw [exO_x, hn, if_neg (by decide), if_neg (by decide), if_neg (by decide), if_neg (by decide), if_neg (by decide), if_pos rfl, xm_0, Option.bind_some, w1, bd_some]
    exact ⟨c2, z2, rfl, w2, w3.mono (by omega) (by omega)⟩
  · dsimp only at q
    subst q
    obtain ⟨c2, z2, w1, w2, w3⟩ := C_clean (σ := σ) (x := x) FD_1 h hW a
    rw [exO_w, hn, if_neg (by decide), if_neg (by decide), if_neg (by decide), if_neg (by decide), if_pos rfl, xm_0, Option.bind_some, w1, bd_some]
    exact ⟨c2, z2, rfl, w2, w3.mono (by omega) (by omega)⟩
  · dsimp only at q
    subst q
    obtain ⟨c2, z2, w1, w2, w3⟩ := C_blow (σ := σ) (x := x) FD_1 h hW a
    rw [exO_v, if_neg (by decide), if_neg (by decide), if_neg (by decide), if_pos rfl, xm_0, Option.bind_some, w1, bd_some]
    exact ⟨c2, z2, rfl, w2, w3.mono (by omega) (by omega)⟩
  · dsimp only at q
    subst q
    obtain ⟨c2, z2, w1, w2, w3⟩ := C_spend (σ := σ) (x := x) FD_1 LD_1 h hW a
    rw [exO_t, hn, if_neg (by decide), if_neg (by decide), if_pos rfl, xm_1, Option.bind_some, w1, bd_some]
    exact ⟨c2, z2, rfl, w2, w3.mono (by omega) (by omega)⟩
theorem x_w36 {L : Nat} (hL : L ≤ 80) (kx : Int32 → Hp → Option (Int32 × Hp)) : ∀ (r : List Ord4) (i f : Nat) (ci cz : Nat → Nat → Int32) (A : Nat → Int32) (n : Nat), (∀ k o, r[k]? = some o → rowO ci (i + k) = o) → (∀ o, o ∈ r → kO o) → r.length < f → i + r.length = L → FA ci cz 1 A n → WS A n → ∃ c' z' n', D_X9_carryOut_w36 x (nI L) kx f (nI i) (xh σ x ci cz) = kx (nI (runO r i A).1) (xh σ x c' z') ∧ FA c' z' 1 (runO r i A).2 n' ∧ WS (runO r i A).2 n' ∧ fr 1 25 ci cz c' z' := by
  intro r
  induction r with
  | nil =>
    intro i f ci cz A n _ _ hf hi h hW
    obtain ⟨f, rfl⟩ : ∃ g, f = g + 1 := ⟨f - 1, by simp at hf; omega⟩
    have : i = L := by simpa using hi
    subst this
    refine ⟨ci, cz, n, ?_, h, hW, fr.rfl⟩
    unfold D_X9_carryOut_w36
    rw [if_pos (Int32.le_refl _)]
    rfl
  | cons o r ih =>
    intro i f ci cz A n hr hk hf hi h hW
    obtain ⟨f, rfl⟩ : ∃ g, f = g + 1 := ⟨f - 1, by simp at hf; omega⟩
    rw [List.length_cons] at hf hi
    have z0 : (0 : Int32).toInt = 0 := rfl
    obtain ⟨c1, z1, w1, w2, w3⟩ := x_carry (σ := σ) (x := x) h hW (show i < 80 by omega) (by have := hr 0 o (by simp); simpa using this) (hk o List.mem_cons_self)
    obtain ⟨n1, hW1⟩ := exO_WS (o := o) hW
    rw [nO_eq hW1] at w2
    unfold runO
    by_cases c : 0 ≤ (exO A o).1
    · rw [if_pos c]
      obtain ⟨c2, z2, n2, q1, q2, q3, q4⟩ := ih (i + 1) f c1 z1 (exO A o).2 n1 (fun k o' ho' => by
        have := hr (k + 1) o' (by simpa using ho')
        rw [← this]
        unfold rowO
        rw [(w3 (54 + 1) (by omega)).1, (w3 (56 + 1) (by omega)).1, (w3 (58 + 1) (by omega)).1, (w3 (60 + 1) (by omega)).1, show i + 1 + k = i + (k + 1) by omega]) (fun o' ho' => hk o' (List.mem_cons_of_mem _ ho')) (by omega) (by omega) w2 hW1
      refine ⟨c2, z2, n2, ?_, q2, q3, w3.tr q4⟩
      rw [← q1]
      conv => lhs; unfold D_X9_carryOut_w36
      rw [if_neg (nI_ge (a := i) (b := L) (by omega) (by omega)), w1, bd_some, if_neg (by rw [pu_lt]; rw [pu_le] at c; omega), nI_1]
    · rw [if_neg c]
      refine ⟨c1, z1, n1, ?_, w2, hW1, w3⟩
      unfold D_X9_carryOut_w36
      rw [if_neg (nI_ge (a := i) (b := L) (by omega) (by omega)), w1, bd_some, if_pos (by rw [pu_lt]; rw [pu_le] at c; omega)]
theorem X_carryN (h : XI ci cz A n H S p pl) (hn : fauO p pl ≠ -6) : Did σ x (D_X9_carryOut x (xh σ x ci cz)) (-3) A H S p pl := by
  obtain ⟨c1, z1, w1, w2, w3⟩ := C_read (σ := σ) (x := x) h.2.1
  refine ⟨c1, z1, n, ?_, h.fr w3 (Or.inr ⟨by omega, by omega⟩)⟩
  unfold D_X9_carryOut
  rw [xm_o, Option.bind_some, xm_4, Option.bind_some, w1, bd_some, if_neg hn]
theorem X_carry (h : XI ci cz A n H S p pl) {l : List Ord4} (hl : pAll (sgn p pl) 81 0 = (some l, pl)) : Did σ x (D_X9_carryOut x (xh σ x ci cz)) (nI (runO l 0 A).1) (runO l 0 A).2 (pushH H A) S p 0 := by
  have hpl := h.2.1.1.2
  obtain ⟨g1, g2⟩ := pAll_pos 81 0 l pl hl
  obtain ⟨c1, z1, w1, w2, w3⟩ := C_read (σ := σ) (x := x) h.2.1
  obtain ⟨hx1, hx2⟩ := w2 l hl
  have h1 := h.fr w3 (Or.inr ⟨by omega, by omega⟩)
  obtain ⟨⟨a1, a2⟩, a3, ⟨nx, a4⟩, a5⟩ := h1
  have h7 := a4.1.1
  obtain ⟨c2, z2, q1, q2, q3, q4⟩ := C_note (σ := σ) (x := x) a1 a2 a4
  have e53 : z2 53 5 = nI l.length := by rw [(q4 53 (by omega)).2]; exact hx1
  obtain ⟨c3, z3, n3, p1, p2, p3, p4⟩ := x_w36 (σ := σ) (x := x) (L := l.length) (by omega) (fun i30 s29 =>
  D_X9_carryOut_b55 x i30 s29
  ) l 0 FU c2 z2 A n (fun k o hk => by
    rw [Nat.zero_add]
    have := hx2 k o hk
    rw [← this]
    unfold rowO
    rw [(q4 (54 + 1) (by omega)).1, (q4 (56 + 1) (by omega)).1, (q4 (58 + 1) (by omega)).1, (q4 (60 + 1) (by omega)).1]) g2 (by rw [FU_eq]; omega) (by omega) (a1.fr q4 (by omega)) a2
  have b3 : PadR c3 z3 p pl := (a3.fr q4 (by omega)).fr p4 (by omega)
  obtain ⟨z4, s1, s2, s3⟩ := C_empty (σ := σ) (x := x) b3
  have hR3 : HR c3 z4 H nx := (q2.fr p4 (Or.inl (by omega))).fr s3 (Or.inl (by omega))
  have hF3 : FA c3 z4 (65 + 13 * nx) A n := (q3.fr p4 (by omega)).fr s3 (by omega)
  have hle := runO_le l 0 (A := A)
  obtain ⟨z5, nx', t1, t2, t3⟩ := x_rec (σ := σ) (x := x) hR3 hF3 a2 (nI (runO l 0 A).1)
  have he : endH (nI (runO l 0 A).1) H A = pushH H A := by
    unfold endH
    rw [if_pos]
    rw [pu_le, nI_toInt (by omega)]
    have e : (0 : Int32).toInt = 0 := rfl
    omega
  rw [he] at t2
  have hf5 : fr 62 63 c3 z4 c3 z5 := fun j hj => ⟨rfl, t3 j (by omega)⟩
  refine ⟨c3, z5, n3, ?_, ⟨(p2.fr s3 (by omega)).fr hf5 (by omega), p3⟩, s2.fr hf5 (by omega), ⟨nx', t2⟩, (((a5.fr q4 (by omega)).fr p4 (by omega)).fr s3 (by omega)).fr hf5 (by omega)⟩
  rw [show nI 0 = (0 : Int32) from rfl] at p1
  unfold D_X9_carryOut
  rw [xm_o, Option.bind_some, xm_4, Option.bind_some, w1, bd_some, if_pos (fauO_n hl), xm_5, Option.bind_some, xm_0, Option.bind_some, q1, Option.bind_some, xm_4, Option.bind_some]
  unfold D_X6_orders
  rw [xr_o, Option.bind_some, xr_5, Option.bind_some, bd_some, e53, p1]
  unfold D_X9_carryOut_b55
  rw [xm_3, Option.bind_some, s1, bd_some, t1, bd_some]
end XF
