/-! the class's pad -/
def PadR (ci cz : Nat → Nat → Int32) (p : Nat → Int32) (pl : Nat) : Prop := (cz 50 1 = nI pl ∧ pl ≤ 80) ∧ ∀ i, i < pl → ci (51 + 1) i = p i
theorem PadR.fr {ci cz ci' cz' : Nat → Nat → Int32} {p : Nat → Int32} {pl a b : Nat} (h : PadR ci cz p pl) (hf : fr a b ci cz ci' cz') (hd : b ≤ 50 ∨ 53 ≤ a) : PadR ci' cz' p pl := ⟨by rw [(hf 50 (by omega)).2]; exact h.1, fun i hi => by rw [(hf (51 + 1) (by omega)).1]; exact h.2 i hi⟩
theorem pow_0 {u k i : Nat} (h : u / 256 ^ k = 0) (hi : k ≤ i) : u / 256 ^ i = 0 := by
  have h1 : u < 256 ^ k := by
    rcases Nat.div_eq_zero_iff.1 h with q | q
    · exact absurd q (by have := Nat.pow_pos (n := k) (show 0 < 256 by omega); omega)
    · exact q
  exact Nat.div_eq_of_lt (Nat.lt_of_lt_of_le h1 (Nat.pow_le_pow_right (by omega) hi))
section PD
variable {σ : Hp} {x : Nat} {ci cz : Nat → Nat → Int32} {p : Nat → Int32} {pl : Nat}
theorem c_sfe (l : Int64) {i : Nat} (hi : i < 8) (σ : Hp) : D_X5_signFromEnd l (nI i) σ = some (nI (byt (ub l) i), σ) := by
  unfold D_X5_signFromEnd
  rw [to32_and, shr_ub l _ hi (sh_k hi)]
  rfl
theorem c_count_w2 (l : Int64) : ∀ (c i f : Nat), i + c = 8 → c < f → (∀ j, j < i → 33 ≤ byt (ub l) j ∧ byt (ub l) j ≤ 126) → ∃ r : Nat, D_X5_countSigns_w2 l (fun i20 s19 => some (i20, s19)) f (nI i) σ = some (nI r, σ) ∧ ((r = 0 ∧ ∀ k, ¬ good (ub l) k) ∨ good (ub l) r) := by
  intro c
  induction c with
  | zero =>
    intro i f hi hf hb
    obtain ⟨f, rfl⟩ : ∃ g, f = g + 1 := ⟨f - 1, by omega⟩
    have : i = 8 := by omega
    subst this
    refine ⟨8, ?_, Or.inr ⟨by omega, by omega, hb, ?_⟩⟩
    · unfold D_X5_countSigns_w2
      rw [if_pos (by decide)]
    · exact Nat.div_eq_of_lt (ub_lt l)
  | succ c ih =>
    intro i f hi hf hb
    obtain ⟨f, rfl⟩ : ∃ g, f = g + 1 := ⟨f - 1, by omega⟩
    unfold D_X5_countSigns_w2
    rw [if_neg (show ¬ (8 : Int32) ≤ nI i from nI_ge (a := i) (b := 8) (by omega) (by omega))]
    have hz : lg_cmp ((l).toUInt64 >>> (((nI i * (8 : Int32))).toInt64.toUInt64 &&& Int64.toUInt64 63)).toInt64 (0 : Int64) = 0 ↔ ub l / 256 ^ i = 0 := by
      rw [lg_eq0, ub_0, shr_ub l _ (show i < 8 by omega) (sh_k (by omega))]
    by_cases c1 : ub l / 256 ^ i = 0
    · rw [if_pos (hz.2 c1)]
      refine ⟨i, rfl, ?_⟩
      rcases Nat.eq_zero_or_pos i with q | q
      · left
        refine ⟨q, fun k hk => ?_⟩
        have := hk.2.2.1 0 hk.1
        rw [q] at c1
        rw [byt_0 c1] at this
        omega
      · exact Or.inr ⟨q, by omega, hb, c1⟩
    · rw [if_neg (fun q => c1 (hz.1 q)), c_sfe l (show i < 8 by omega), bd_some]
      have hbl : byt (ub l) i < 256 := Nat.mod_lt _ (by omega)
      have z33 : (33 : Int32).toInt = 33 := rfl
      have z126 : (126 : Int32).toInt = 126 := rfl
      have bad : ¬ (33 ≤ byt (ub l) i ∧ byt (ub l) i ≤ 126) → ∀ k, ¬ good (ub l) k := by
        intro hn k hk
        rcases Nat.lt_or_ge i k with q | q
        · exact hn (hk.2.2.1 i q)
        · exact c1 (pow_0 hk.2.2.2 q)
      by_cases c2 : nI (byt (ub l) i) < 33
      · rw [if_pos c2]
        rw [pu_lt, z33, nI_toInt (by omega)] at c2
        exact ⟨0, rfl, Or.inl ⟨rfl, bad (by omega)⟩⟩
      · rw [if_neg c2]
        rw [pu_lt, z33, nI_toInt (by omega)] at c2
        by_cases c3 : nI (byt (ub l) i) ≤ 126
        · rw [if_pos c3, nI_1]
          rw [pu_le, z126, nI_toInt (by omega)] at c3
          exact ih (i + 1) f (by omega) (by omega) (fun j hj => by
            by_cases e : j = i
            · rw [e]; omega
            · exact hb j (by omega))
        · rw [if_neg c3]
          rw [pu_le, z126, nI_toInt (by omega)] at c3
          exact ⟨0, rfl, Or.inl ⟨rfl, bad (by omega)⟩⟩
theorem c_count (l : Int64) : ∃ r : Nat, D_X5_countSigns l σ = some (nI r, σ) ∧ ((r = 0 ∧ ∀ k, ¬ good (ub l) k) ∨ good (ub l) r) := by
  obtain ⟨r, h1, h2⟩ := c_count_w2 (σ := σ) l 8 0 FU (by omega) (by rw [FU_eq]; omega) (fun j hj => by omega)
  exact ⟨r, h1, h2⟩
theorem good_one {u k r : Nat} (h : good u k) (h2 : good u r) : k = r := by
  rcases Nat.lt_trichotomy k r with q | q | q
  · have := (h2.2.2.1 k q).1
    rw [byt_0 h.2.2.2] at this; omega
  · exact q
  · have := (h.2.2.1 r q).1
    rw [byt_0 h2.2.2.2] at this; omega
theorem kd51 : kd 51 = 1 ∧ kd (51 + 1) = 100 + 80 := by decide
theorem c_app_w29 (l : Int64) {k : Nat} (hk : k ≤ 8) (hp : pl + k ≤ 80) (h50 : cz 50 1 = nI pl) (kx : Hp → Option (Int32 × Hp)) : ∀ (c j f : Nat) (ci : Nat → Nat → Int32), j + c = k → c < f → ∃ ci', D_X5_append_w29 (x + 50) l (nI k) kx f (nI j) (xh σ x ci cz) = kx (xh σ x ci' cz) ∧ (∀ i, i < pl + j → ci' (51 + 1) i = ci (51 + 1) i) ∧ (∀ i, pl + j ≤ i → i < pl + k → ci' (51 + 1) i = nI (byt (ub l) (k - 1 - (i - pl)))) ∧ ∀ q, q ≠ 51 + 1 → ci' q = ci q := by
  intro c
  induction c with
  | zero =>
    intro j f ci hj hf
    obtain ⟨f, rfl⟩ : ∃ g, f = g + 1 := ⟨f - 1, by omega⟩
    have : j = k := by omega
    subst this
    refine ⟨ci, ?_, fun _ _ => rfl, fun i h1 h2 => by omega, fun _ _ => rfl⟩
    unfold D_X5_append_w29
    rw [if_pos (Int32.le_refl _)]
  | succ c ih =>
    intro j f ci hj hf
    obtain ⟨f, rfl⟩ : ∃ g, f = g + 1 := ⟨f - 1, by omega⟩
    obtain ⟨ci', g1, g2, g3, g4⟩ := ih (j + 1) f (va_up ci (51 + 1) (upd (ci (51 + 1)) (pl + j) (nI (byt (ub l) (k - 1 - j))))) (by omega) (by omega)
    refine ⟨ci', ?_, fun i hi => ?_, fun i h1 h2 => ?_, fun q hq => (g4 q hq).trans (up_ne hq)⟩
    · rw [← g1]
      conv => lhs; unfold D_X5_append_w29
      have e : nI k - 1 - nI j = nI (k - 1 - j) := by
        have z1 : (1 : Int32).toInt = 1 := rfl
        have e1 : (nI k - 1).toInt = (k : Int) - 1 := by rw [i_sub (by rw [nI_toInt (by omega)]; omega) (by rw [nI_toInt (by omega)]; omega), nI_toInt (by omega), z1]
        apply i_nI
        · rw [i_sub (by rw [e1, nI_toInt (by omega)]; omega) (by rw [e1, nI_toInt (by omega)]; omega), e1, nI_toInt (by omega)]
          omega
        · omega
      rw [if_neg (nI_ge (a := j) (b := k) (by omega) (by omega)), xp_0, Option.bind_some, xp_1, Option.bind_some, e, c_sfe l (by omega), bd_some, h50, nI_add, x_wr kd51.1 kd51.2 (by omega), Option.bind_some, nI_1]
    · rw [g2 i (by omega), up_eq, upd_ne (by omega)]
    · by_cases e : i = pl + j
      · rw [g2 i (by omega), up_eq, e, upd_eq]
        congr 2
        omega
      · exact g3 i (by omega) h2
theorem C_put (h : PadR ci cz p pl) (l : Int64) {k : Nat} (hg : good (ub l) k) : ∃ ci' cz', D_X5_append (x + 50) l (xh σ x ci cz) = some (if pl + k ≤ 80 then nI (pl + k) else -4, xh σ x ci' cz') ∧ (if pl + k ≤ 80 then PadR ci' cz' (putF (ub l) k pl p) (pl + k) else PadR ci' cz' p pl) ∧ fr 50 53 ci cz ci' cz' := by
  obtain ⟨r, w1, w2⟩ := c_count (σ := xh σ x ci cz) l
  have hr : r = k := by
    rcases w2 with q | q
    · exact absurd hg (q.2 k)
    · exact good_one q hg
  subst hr
  have h1 := hg.1
  have h8 := hg.2.1
  have hpl := h.1.2
  have z0 : (0 : Int32).toInt = 0 := rfl
  have z80 : (80 : Int32).toInt = 80 := rfl
  unfold D_X5_append
  rw [xp_o, Option.bind_some, w1, bd_some, if_neg (by rw [pu_eq, nI_toInt (by omega), z0]; omega), xp_1, Option.bind_some, h.1.1, nI_add]
  by_cases c : pl + r ≤ 80
  · rw [if_pos c, if_pos (by rw [pu_le, nI_toInt (by omega), z80]; omega)]
    obtain ⟨c1, q1, q2, q3, q4⟩ := c_app_w29 (σ := σ) (x := x) (cz := cz) l h8 c h.1.1 (fun s26 =>
      (getI s26 (x + 50) 5 1).bind fun i27 =>
      (putI s26 (x + 50) 5 1 (i27 + nI r)).bind fun s28 =>
      (getI s28 (x + 50) 5 1).bind fun i29 =>
      some (i29, s28)
      ) r 0 FU ci (by omega) (by rw [FU_eq]; omega)
    rw [show nI 0 = (0 : Int32) from rfl] at q1
    refine ⟨c1, va_up cz 50 (upd (cz 50) 1 (nI (pl + r))), ?_, ?_, fun j hj => ⟨q4 j (by omega), up_ne (by omega)⟩⟩
    · rw [q1, xp_1, Option.bind_some, xp_p1, Option.bind_some, h.1.1, nI_add, xp_1, Option.bind_some, up_eq, upd_eq]
    · rw [if_pos c]
      refine ⟨⟨by rw [up_eq, upd_eq], c⟩, fun i hi => ?_⟩
      unfold putF
      by_cases e : pl ≤ i ∧ i < pl + r
      · rw [if_pos e]; exact q3 i (by omega) e.2
      · rw [if_neg e, q2 i (by omega)]
        exact h.2 i (by omega)
  · rw [if_neg c, if_neg (by rw [pu_le, nI_toInt (by omega), z80]; omega)]
    exact ⟨_, _, rfl, by rw [if_neg c]; exact h, fr.rfl⟩
theorem C_putN (l : Int64) (hn : ∀ k, ¬ good (ub l) k) : D_X5_append (x + 50) l (xh σ x ci cz) = some (-2, xh σ x ci cz) := by
  obtain ⟨r, w1, w2⟩ := c_count (σ := xh σ x ci cz) l
  have hr : r = 0 := by
    rcases w2 with q | q
    · exact q.1
    · exact absurd q (hn r)
  subst hr
  unfold D_X5_append
  rw [xp_o, Option.bind_some, w1, bd_some, if_pos (show nI 0 = 0 from rfl)]
theorem C_empty (h : PadR ci cz p pl) : ∃ cz', D_X5_empty (x + 50) (xh σ x ci cz) = some (nI pl, xh σ x ci cz') ∧ PadR ci cz' p 0 ∧ fr 50 53 ci cz ci cz' := by
  refine ⟨va_up cz 50 (upd (cz 50) 1 0), ?_, ⟨⟨by rw [up_eq, upd_eq]; rfl, by omega⟩, fun i hi => by omega⟩, fr.rfl.upz (by omega) (by omega)⟩
  unfold D_X5_empty
  rw [xp_o, Option.bind_some, xp_1, Option.bind_some, xp_p1, Option.bind_some, h.1.1]
theorem c_sign (h : PadR ci cz p pl) {i : Nat} (hi : i ≤ 80) : D_X5_sign (x + 50) (nI i) (xh σ x ci cz) = some (sgn p pl i, xh σ x ci cz) := by
  unfold D_X5_sign
  have hpl := h.1.2
  rw [xp_o, Option.bind_some, xp_1, Option.bind_some, h.1.1]
  rcases Nat.lt_or_ge i pl with q | q
  · rw [if_neg (nI_ge (a := i) (b := pl) q (by omega)), xp_0, Option.bind_some, x_rd kd51.1 kd51.2 (by omega), bd_some, sgn_lt q, h.2 i q]
  · rw [if_pos (nI_le (by omega) (by omega)), sgn_ge q]
end PD
