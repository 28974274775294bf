theorem x_isHour (h : Int32) (σ : Hp) : D_X8_isHour h σ = some (if rng h 0 10 then 1 else 0, σ) := by
  unfold D_X8_isHour
  have z : (0 : Int32).toInt = 0 := rfl
  have z4 : (11 : Int32).toInt = 11 := rfl
  by_cases c1 : h < 0
  · rw [if_pos c1, retZ_0, if_neg (fun q => by rw [pu_lt, z] at c1; have := q.1; omega)]
  · rw [if_neg c1]
    rw [pu_lt, z] at c1
    by_cases c2 : 11 ≤ h
    · rw [if_pos c2, retZ_0, if_neg (fun q => by rw [pu_le, z4] at c2; have := q.2; omega)]
    · rw [if_neg c2, retZ_1, if_pos ⟨by omega, by rw [pu_le, z4] at c2; omega⟩]
theorem bit_and (v w : Int32) (i : Nat) : bit (v &&& w) i = (bit v i && bit w i) := by
  unfold bit
  rw [Int32.toBitVec_and, BitVec.getLsbD_and]
section XC
variable {σ : Hp} {x : Nat} {ci cz : Nat → Nat → Int32} {p : Nat → Int32} {pl n : Nat} {A : Nat → Int32} {H : List (Nat → Int32)} {S : SLT}
def Ask (σ : Hp) (x : Nat) (A : Nat → Int32) (n : Nat) (H : List (Nat → Int32)) (S : SLT) (p : Nat → Int32) (pl : Nat) (D : Option (Int32 × Hp)) (v : Int32) : Prop := ∃ ci' cz', D = some (v, xh σ x ci' cz') ∧ XI ci' cz' A n H S p pl
theorem X_in (h : XI ci cz A n H S p pl) (r c : Int32) : Ask σ x A n H S p pl (D_X9_in x r c (xh σ x ci cz)) (inO A n r c) := by
  refine ⟨ci, cz, ?_, h⟩
  unfold D_X9_in inO
  rw [xm_o, Option.bind_some, x_isPlace, bd_some]
  by_cases q : rng r 0 19 ∧ rng c 0 19
  · rw [if_pos q, if_neg (by decide), xm_0, Option.bind_some, c_mirrorIn FD_1 h.1.1 h.1.2.1, bd_some, if_pos q]
  · rw [if_neg q, if_pos rfl, if_neg q]
theorem X_of (h : XI ci cz A n H S p pl) (i w : Int32) : Ask σ x A n H S p pl (D_X9_of x i w (xh σ x ci cz)) (ofO A n i w) := by
  have hn := h.1.2.2
  have hA := h.1.1
  have hW := h.1.2.1
  unfold D_X9_of ofO
  rw [xm_o, Option.bind_some, xm_0, Option.bind_some, c_isMirror FD_1 hA hW, bd_some]
  by_cases c : rng i 0 ((n : Int) - 1)
  · obtain ⟨k, hk, e, e2⟩ := rng_nat c (by omega)
    rw [if_pos c, if_neg (by decide), if_neg (show ¬ ¬ rng i 0 ((n : Int) - 1) from fun q => q c), e2, e]
    by_cases c0 : w = 0
    · rw [if_pos c0, if_pos (show rng w 0 3 by rw [c0]; decide), xm_0, Option.bind_some, xf_1 FD_1.1, Option.bind_some, c_g0 FD_1 hA hW.1.1 hk, bd_some, c0]
      exact ⟨ci, cz, rfl, h⟩
    · rw [if_neg c0]
      by_cases c1 : w = 1
      · rw [if_pos c1, if_pos (show rng w 0 3 by rw [c1]; decide), xm_0, Option.bind_some, xf_2 FD_1.1, Option.bind_some, c_g1 FD_1 hA hW.1.1 hk, bd_some, c1]
        exact ⟨ci, cz, rfl, h⟩
      · rw [if_neg c1]
        by_cases c2 : w = 2
        · rw [if_pos c2, if_pos (show rng w 0 3 by rw [c2]; decide), xm_0, Option.bind_some, xf_3 FD_1.1, Option.bind_some, c_g2 FD_1 hA hW.1.1 hk, bd_some, c2]
          exact ⟨ci, cz, rfl, h⟩
        · rw [if_neg c2]
          by_cases c3 : w = 3
          · rw [if_pos c3, if_pos (show rng w 0 3 by rw [c3]; decide), xm_0, Option.bind_some, xf_4 FD_1.1, Option.bind_some, c_g3 FD_1 hA hW.1.1 hk, bd_some, c3]
            exact ⟨ci, cz, rfl, h⟩
          · have z0 : (0 : Int32).toInt = 0 := rfl
            have z1 : (1 : Int32).toInt = 1 := rfl
            have z2 : (2 : Int32).toInt = 2 := rfl
            have z3 : (3 : Int32).toInt = 3 := rfl
            have hr : ¬ rng w 0 3 := by
              rintro ⟨q1, q2⟩
              rw [pu_eq, z0] at c0
              rw [pu_eq, z1] at c1
              rw [pu_eq, z2] at c2
              rw [pu_eq, z3] at c3
              omega
            rw [if_neg c3, if_neg hr]
            by_cases c4 : w = 4
            · obtain ⟨c1', z1', w1, w2, w3⟩ := c_look (σ := σ) (x := x) FD_1 LD_1 hA hW
              refine ⟨c1', z1', ?_, h.fr w3 (Or.inl ⟨by omega, by omega⟩)⟩
              rw [if_pos c4, if_pos c4, xm_1, Option.bind_some, w1, Option.bind_some, xm_1, Option.bind_some, c_isBl LD_1 w2 hW.1.1 hk, bd_some]
              cases blk A n k <;> rfl
            · rw [if_neg c4, if_neg c4]
              by_cases c5 : w = 5
              · rw [if_pos c5, if_pos c5, xm_0, Option.bind_some, xf_5 FD_1.1, Option.bind_some, c_g4 FD_1 hA hW.1.1 hk, bd_some]
                exact ⟨ci, cz, rfl, h⟩
              · rw [if_neg c5, if_neg c5]
                exact ⟨ci, cz, rfl, h⟩
  · rw [if_neg c, if_pos rfl, if_pos c]
    exact ⟨ci, cz, rfl, h⟩
theorem X_at (h : XI ci cz A n H S p pl) (i hh w : Int32) : Ask σ x A n H S p pl (D_X9_at x i hh w (xh σ x ci cz)) (atO A n i hh w) := by
  have hn := h.1.2.2
  have hA := h.1.1
  have hW := h.1.2.1
  unfold D_X9_at atO
  rw [xm_o, Option.bind_some, xm_0, Option.bind_some, c_isMirror FD_1 hA hW, bd_some]
  by_cases c : rng i 0 ((n : Int) - 1)
  · obtain ⟨k, hk, e, e2⟩ := rng_nat c (by omega)
    rw [if_pos c, if_neg (by decide), x_isHour, bd_some]
    by_cases d : rng hh 0 10
    · obtain ⟨g, hg, f1, f2⟩ := rng_nat (n := 11) ⟨d.1, by have := d.2; omega⟩ (by omega)
      rw [if_pos d, if_neg (by decide), if_neg (show ¬ ¬ (rng i 0 ((n : Int) - 1) ∧ rng hh 0 10) from fun q => q ⟨c, d⟩), e2, f2, e, f1]
      obtain ⟨c1, z1, w1, w2, w3⟩ := c_look (σ := σ) (x := x) FD_1 LD_1 hA hW
      obtain ⟨c2, z2, q1, q2, q3, q4⟩ := c_work (σ := σ) (x := x) FD_1 LD_1 (hA.fr w3 (Or.inl (Nat.le_refl _))) hW w2 hg
      have hX : XI c2 z2 A n H S p pl := h.fr (w3.tr q4) (Or.inl ⟨by omega, by omega⟩)
      rw [xm_1, Option.bind_some, w1, Option.bind_some, xm_1, Option.bind_some, q1, bd_some, xm_1, Option.bind_some, Option.bind_some, Option.bind_some, Option.bind_some]
      have ho : oI (shade A n k g) = -6 ↔ shade A n k g = none := oI_eq (fun j hj => by have := shade_lt hj; omega)
      refine ⟨c2, z2, ?_, hX⟩
      by_cases c0 : w = 0
      · rw [if_pos c0, if_pos c0, c_shader LD_1 q3 hW.1.1 hk hg, bd_some]
        by_cases cs : shade A n k g = none
        · rw [if_pos (ho.2 cs), if_pos cs]
        · rw [if_neg (fun q => cs (ho.1 q)), if_neg cs]
      · rw [if_neg c0, if_neg c0]
        by_cases c1 : w = 1
        · rw [if_pos c1, if_pos c1]
          unfold D_X4_given
          rw [show x + 14 = x + (1 + 13) from rfl, xl_o LD_1.1, Option.bind_some, xl_3 LD_1.1, Option.bind_some, x_rd LD_1.2.2.2.1.1 LD_1.2.2.2.1.2 (by omega), bd_some, bd_some, q2.1 k hk]
        · rw [if_neg c1, if_neg c1]
          by_cases c2 : w = 2
          · rw [if_pos c2, if_pos c2]
            have hb : bit (z2 (1 + 13) 7) k = (looks A n g).2.1 k := by rw [q2.2.2 k]; simp [hk]
            unfold D_X4_isUsed
            rw [show x + 14 = x + (1 + 13) from rfl, xl_o LD_1.1, Option.bind_some, xl_7 LD_1.1, Option.bind_some]
            cases hbb : (looks A n g).2.1 k with
            | true => rw [if_neg (fun q => by rw [bit_get _ (by omega), hb, hbb] at q; cases q), retZ_1, bd_some, if_neg (by decide)]; rfl
            | false => rw [if_pos ((bit_get _ (by omega)).2 (hb.trans hbb)), retZ_0, bd_some, if_pos rfl]; rfl
          · rw [if_neg c2, if_neg c2]
            by_cases c3 : w = 3
            · rw [if_pos c3, if_pos c3, c_shader LD_1 q3 hW.1.1 hk hg, bd_some]
            · rw [if_neg c3, if_neg c3]
    · rw [if_neg d, if_pos rfl, if_pos (show ¬ (rng i 0 ((n : Int) - 1) ∧ rng hh 0 10) from fun q => d q.2)]
      exact ⟨ci, cz, rfl, h⟩
  · rw [if_neg c, if_pos rfl, if_pos (show ¬ (rng i 0 ((n : Int) - 1) ∧ rng hh 0 10) from fun q => c q.1)]
    exact ⟨ci, cz, rfl, h⟩
theorem X_point (h : XI ci cz A n H S p pl) (a hh w : Int32) : Ask σ x A n H S p pl (D_X9_point x a hh w (xh σ x ci cz)) (poiO A n a hh w) := by
  have hn := h.1.2.2
  have hA := h.1.1
  have hW := h.1.2.1
  unfold D_X9_point poiO
  rw [xm_o, Option.bind_some, x_isAim, bd_some]
  by_cases c : rng a 0 3
  · obtain ⟨k, hk, e, e2⟩ := rng_nat (n := 4) ⟨c.1, by have := c.2; omega⟩ (by omega)
    rw [if_pos c, if_neg (by decide), x_isHour, bd_some]
    by_cases d : rng hh 0 10
    · obtain ⟨g, hg, f1, f2⟩ := rng_nat (n := 11) ⟨d.1, by have := d.2; omega⟩ (by omega)
      rw [if_pos d, if_neg (by decide), if_neg (show ¬ ¬ (rng a 0 3 ∧ rng hh 0 10) from fun q => q ⟨c, d⟩), e2, f2, f1]
      obtain ⟨c1, z1, w1, w2, w3⟩ := c_look (σ := σ) (x := x) FD_1 LD_1 hA hW
      obtain ⟨c2, z2, q1, q2, q3, q4⟩ := c_work (σ := σ) (x := x) FD_1 LD_1 (hA.fr w3 (Or.inl (Nat.le_refl _))) hW w2 hg
      have hX : XI c2 z2 A n H S p pl := h.fr (w3.tr q4) (Or.inl ⟨by omega, by omega⟩)
      have hA2 : FA c2 z2 1 A n := hX.1.1
      rw [xm_1, Option.bind_some, w1, Option.bind_some, xm_1, Option.bind_some, q1, bd_some]
      refine ⟨c2, z2, ?_, hX⟩
      by_cases c0 : w = 0
      · rw [if_pos c0, if_pos c0, xm_1, Option.bind_some, e]
        unfold D_X4_held
        rw [show x + 14 = x + (1 + 13) from rfl, xl_o LD_1.1, Option.bind_some, xl_5 LD_1.1, Option.bind_some, x_rd LD_1.2.2.2.2.2.1 LD_1.2.2.2.2.2.2 hk, bd_some, bd_some, q2.2.1 k hk]
      · rw [if_neg c0, if_neg c0]
        by_cases c1 : w = 1
        · rw [if_pos c1, if_pos c1, xm_0, Option.bind_some, c_mirrorsOf FD_1 hA2 hW, bd_some]
        · rw [if_neg c1, if_neg c1]
          by_cases c2' : w = 2
          · rw [if_pos c2', if_pos c2', xm_0, Option.bind_some, c_mirrorsOf FD_1 hA2 hW, bd_some, xm_1, Option.bind_some]
            unfold D_X4_used
            rw [show x + 14 = x + (1 + 13) from rfl, xl_o LD_1.1, Option.bind_some, xl_7 LD_1.1, Option.bind_some, bd_some]
            have em : maskF (aimM A a) n &&& z2 (1 + 13) 7 = maskF (fun i => aimM A a i && (looks A n g).2.1 i) n := by
              apply bit_ext
              intro i _
              rw [bit_and, bit_mask _ n (by omega) i, bit_mask _ n (by omega) i, q2.2.2 i]
              by_cases hi : i < n
              · simp [hi]
              · simp [hi]
            rw [em]
          · rw [if_neg c2', if_neg c2']
    · rw [if_neg d, if_pos rfl, if_pos (show ¬ (rng a 0 3 ∧ rng hh 0 10) from fun q => d q.2)]
      exact ⟨ci, cz, rfl, h⟩
  · rw [if_neg c, if_pos rfl, if_pos (show ¬ (rng a 0 3 ∧ rng hh 0 10) from fun q => c q.1)]
    exact ⟨ci, cz, rfl, h⟩
end XC
