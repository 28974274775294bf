/-! the class's reader: signs, digits, numbers -/
def RS (cz : Nat → Nat → Int32) (i : Nat) (br : Bool) : Prop := cz 53 6 = nI i ∧ cz 53 7 = bI br
def z53 (cz cz' : Nat → Nat → Int32) : Prop := (∀ j, j ≠ 53 → cz' j = cz j) ∧ cz' 53 5 = cz 53 5
theorem z53.rfl {cz : Nat → Nat → Int32} : z53 cz cz := ⟨fun _ _ => Eq.refl _, Eq.refl _⟩
theorem z53.tr {a b c : Nat → Nat → Int32} (h : z53 a b) (h2 : z53 b c) : z53 a c := ⟨fun j hj => (h2.1 j hj).trans (h.1 j hj), h2.2.trans h.2⟩
theorem z53.up {a b : Nat → Nat → Int32} (h : z53 a b) {k : Nat} (hk : k ≠ 5) (v : Int32) : z53 a (va_up b 53 (upd (b 53) k v)) := ⟨fun j hj => (up_ne hj).trans (h.1 j hj), by rw [up_eq, upd_ne (Ne.symm hk)]; exact h.2⟩
theorem PadR.z {ci cz cz' : Nat → Nat → Int32} {p : Nat → Int32} {pl : Nat} (h : PadR ci cz p pl) (hz : z53 cz cz') : PadR ci cz' p pl := ⟨by rw [hz.1 50 (by omega)]; exact h.1, h.2⟩
theorem RS.p6 {cz : Nat → Nat → Int32} {i j : Nat} {br : Bool} (h : RS cz i br) : RS (va_up cz 53 (upd (cz 53) 6 (nI j))) j br := ⟨by rw [up_eq, upd_eq], by rw [up_eq, upd_ne (by omega)]; exact h.2⟩
theorem RS.p7 {cz : Nat → Nat → Int32} {i : Nat} {br : Bool} (h : RS cz i br) (b2 : Bool) : RS (va_up cz 53 (upd (cz 53) 7 (bI b2))) i b2 := ⟨by rw [up_eq, upd_ne (by omega)]; exact h.1, by rw [up_eq, upd_eq]⟩
section RD
variable {σ : Hp} {x : Nat} {ci cz : Nat → Nat → Int32} {p : Nat → Int32} {pl i : Nat}
theorem c_acc_y (h : PadR ci cz p pl) (hr : RS cz i false) (hi : i ≤ 80) {c : Int32} (hc : sgn p pl i = c) : ∃ cz', D_X6_accept (x + 53) c (xh σ x ci cz) = some (1, xh σ x ci cz') ∧ RS cz' (i + 1) false ∧ z53 cz cz' := by
  refine ⟨_, ?_, hr.p6 (j := i + 1), z53.rfl.up (by omega) _⟩
  unfold D_X6_accept D_X6_accept_b27 D_X6_accept_b42
  rw [xr_o, Option.bind_some, xr_7, Option.bind_some, hr.2, if_pos (show bI false = 0 from rfl), xr_0, Option.bind_some, xr_6, Option.bind_some, hr.1, c_sign h hi, bd_some, if_pos hc, xr_6, Option.bind_some, hr.1, if_neg (by decide), xr_p6, Option.bind_some, retZ_1, nI_1]
theorem c_acc_n (h : PadR ci cz p pl) {br : Bool} (hr : RS cz i br) (hi : i ≤ 80) {c : Int32} (hc : br = true ∨ sgn p pl i ≠ c) : D_X6_accept (x + 53) c (xh σ x ci cz) = some (0, xh σ x ci cz) := by
  have tail : D_X6_accept_b26 (x + 53) (xh σ x ci cz) = some (0, xh σ x ci cz) := by
    unfold D_X6_accept_b26 D_X6_accept_b27 D_X6_accept_b42
    rw [xr_6, Option.bind_some, if_pos rfl, xr_p6, Option.bind_some, retZ_0, Int32.add_zero, upd_same, up_self]
  unfold D_X6_accept
  rw [xr_o, Option.bind_some, xr_7, Option.bind_some, hr.2]
  cases br with
  | true => rw [if_neg (show ¬ bI true = 0 by decide), tail]
  | false =>
    rcases hc with q | q
    · cases q
    · rw [if_pos (show bI false = 0 from rfl), xr_0, Option.bind_some, xr_6, Option.bind_some, hr.1, c_sign h hi, bd_some, if_neg q, tail]
theorem dg_sub {s mx : Int32} (hm : mx.toInt ≤ 9) : (¬ s - 48 < 0 ∧ s - 48 ≤ mx) ↔ rng s 48 (48 + mx.toInt) := by
  have z0 : (0 : Int32).toInt = 0 := rfl
  have z48 : (48 : Int32).toInt = 48 := rfl
  rw [pu_lt, pu_le, z0]
  constructor
  · rintro ⟨h1, h2⟩
    have e : s = (s - 48) + 48 := by rw [Int32.sub_add_cancel]
    have e2 : s.toInt = (s - 48).toInt + 48 := by
      conv => lhs; rw [e]
      rw [i_add (by omega) (by omega), z48]
    exact ⟨by omega, by omega⟩
  · rintro ⟨h1, h2⟩
    have e2 : (s - 48).toInt = s.toInt - 48 := by rw [i_sub (by omega) (by omega), z48]
    omega
theorem c_dig_y (h : PadR ci cz p pl) (hr : RS cz i false) (hi : i ≤ 80) {mx : Int32} (hm : mx.toInt ≤ 9) (hd : rng (sgn p pl i) 48 (48 + mx.toInt)) : ∃ cz', D_X6_readDigit (x + 53) mx (xh σ x ci cz) = some (sgn p pl i - 48, xh σ x ci cz') ∧ RS cz' (i + 1) false ∧ z53 cz cz' := by
  obtain ⟨d1, d2⟩ := (dg_sub hm).2 hd
  refine ⟨_, ?_, hr.p6 (j := i + 1), z53.rfl.up (by omega) _⟩
  unfold D_X6_readDigit
  rw [xr_o, Option.bind_some, xr_0, Option.bind_some, xr_6, Option.bind_some, hr.1, c_sign h hi, bd_some, nm_eq, xr_7, Option.bind_some, hr.2, if_pos (show bI false = 0 from rfl), if_neg d1, if_pos d2, xr_6, Option.bind_some, hr.1, xr_p6, Option.bind_some, nI_1]
theorem c_dig_n (h : PadR ci cz p pl) {br : Bool} (hr : RS cz i br) (hi : i ≤ 80) {mx : Int32} (hm : mx.toInt ≤ 9) (hd : br = true ∨ ¬ rng (sgn p pl i) 48 (48 + mx.toInt)) : ∃ cz', D_X6_readDigit (x + 53) mx (xh σ x ci cz) = some (0, xh σ x ci cz') ∧ RS cz' i true ∧ z53 cz cz' := by
  refine ⟨_, ?_, hr.p7 true, z53.rfl.up (by omega) _⟩
  have tail : D_X6_readDigit_b31 (x + 53) (xh σ x ci cz) = some (0, xh σ x ci (va_up cz 53 (upd (cz 53) 7 (bI true)))) := by
    unfold D_X6_readDigit_b31
    rw [xr_z7_1, Option.bind_some]
    rfl
  unfold D_X6_readDigit
  rw [xr_o, Option.bind_some, xr_0, Option.bind_some, xr_6, Option.bind_some, hr.1, c_sign h hi, bd_some, nm_eq, xr_7, Option.bind_some, hr.2]
  cases br with
  | true => rw [if_neg (show ¬ bI true = 0 by decide), tail]
  | false =>
    rw [if_pos (show bI false = 0 from rfl)]
    rcases hd with q | q
    · cases q
    · have q := fun w => q ((dg_sub hm).1 w)
      by_cases c1 : sgn p pl i - 48 < 0
      · rw [if_pos c1, tail]
      · rw [if_neg c1, if_neg (fun c2 => q ⟨c1, c2⟩), tail]
/-- a number of one or two digits -/
theorem c_num_n (h : PadR ci cz p pl) {br : Bool} (hr : RS cz i br) (hi : i ≤ 80) (hd : br = true ∨ n99 (sgn p pl) i = none) : ∃ cz', D_X6_readNumber (x + 53) (xh σ x ci cz) = some (0, xh σ x ci cz') ∧ RS cz' i true ∧ z53 cz cz' := by
  obtain ⟨z1, w1, w2, w3⟩ := c_dig_n (σ := σ) (x := x) h hr hi (mx := 9) (by decide) (by
    rcases hd with q | q
    · exact Or.inl q
    · exact Or.inr (n99_none q))
  refine ⟨z1, ?_, w2, w3⟩
  unfold D_X6_readNumber D_X6_readNumber_b39 D_X6_readNumber_b40
  rw [xr_o, Option.bind_some, w1, bd_some, xr_0, Option.bind_some, xr_6, Option.bind_some, w2.1, c_sign (h.z w3) hi, bd_some, if_pos rfl, if_pos rfl]
theorem c_num_y (h : PadR ci cz p pl) (hr : RS cz i false) (hi : i ≤ 80) {v : Int32} {j : Nat} (hn : n99 (sgn p pl) i = some (v, j)) : ∃ cz', D_X6_readNumber (x + 53) (xh σ x ci cz) = some (v, xh σ x ci cz') ∧ RS cz' j false ∧ z53 cz cz' := by
  unfold n99 at hn
  have z9 : (9 : Int32).toInt = 9 := rfl
  have z0 : (0 : Int32).toInt = 0 := rfl
  have z48 : (48 : Int32).toInt = 48 := rfl
  have z57 : (57 : Int32).toInt = 57 := rfl
  by_cases hd : dg (sgn p pl i)
  · rw [if_pos hd] at hn
    have hlt := dg_lt hd
    have hpl := h.1.2
    obtain ⟨z1, w1, w2, w3⟩ := c_dig_y (σ := σ) (x := x) h hr hi (mx := 9) (by decide) (by rw [z9]; exact hd)
    have h1 := h.z w3
    have d48 : sgn p pl i - 48 = 0 ↔ sgn p pl i = 48 := by
      rw [pu_eq, dg_val hd, pu_eq, z0, z48]
      omega
    by_cases c : sgn p pl i ≠ 48 ∧ dg (sgn p pl (i + 1))
    · rw [if_pos c] at hn
      have hv := congrArg Prod.fst (Option.some.inj hn)
      have hj := congrArg Prod.snd (Option.some.inj hn)
      dsimp only at hv hj
      obtain ⟨z2, q1, q2, q3⟩ := c_dig_y (σ := σ) (x := x) h1 w2 (by omega) (mx := 9) (by decide) (by rw [z9]; exact c.2)
      refine ⟨z2, ?_, hj ▸ q2, w3.tr q3⟩
      have b1 := c.2.1
      have b2 := c.2.2
      unfold D_X6_readNumber D_X6_readNumber_b40
      rw [xr_o, Option.bind_some, w1, bd_some, xr_0, Option.bind_some, xr_6, Option.bind_some, w2.1, c_sign h1 (by omega), bd_some, if_neg (fun q => c.1 (d48.1 q)), if_neg (by rw [pu_lt, z48]; omega), if_neg (by rw [pu_lt, z57]; omega), if_neg (by decide), q1, bd_some, ← hv]
      rw [Int32.mul_comm, Int32.sub_eq_add_neg (a := sgn p pl (i + 1)), ← Int32.add_assoc, ← Int32.sub_eq_add_neg]
    · rw [if_neg c] at hn
      have hv := congrArg Prod.fst (Option.some.inj hn)
      have hj := congrArg Prod.snd (Option.some.inj hn)
      dsimp only at hv hj
      refine ⟨z1, ?_, hj ▸ w2, w3⟩
      have tail : D_X6_readNumber_b39 (x + 53) (sgn p pl i - 48) (xh σ x ci z1) = some (v, xh σ x ci z1) := by
        unfold D_X6_readNumber_b39 D_X6_readNumber_b40
        rw [if_pos rfl, hv]
      unfold D_X6_readNumber
      rw [xr_o, Option.bind_some, w1, bd_some, xr_0, Option.bind_some, xr_6, Option.bind_some, w2.1, c_sign h1 (by omega), bd_some]
      by_cases c0 : sgn p pl i - 48 = 0
      · rw [if_pos c0, tail]
      · rw [if_neg c0]
        by_cases c1 : sgn p pl (i + 1) < 48
        · rw [if_pos c1, tail]
        · rw [if_neg c1]
          by_cases c2 : 57 < sgn p pl (i + 1)
          · rw [if_pos c2, tail]
          · rw [pu_lt, z48] at c1
            rw [pu_lt, z57] at c2
            exact absurd ⟨fun q => c0 (d48.2 q), by omega, by omega⟩ c
  · rw [if_neg hd] at hn
    exact absurd hn (by simp)
theorem c_exp_y (h : PadR ci cz p pl) (hr : RS cz i false) (hi : i ≤ 80) {c : Int32} (hc : sgn p pl i = c) : ∃ cz', D_X6_expect (x + 53) c (xh σ x ci cz) = some (xh σ x ci cz') ∧ RS cz' (i + 1) false ∧ z53 cz cz' := by
  obtain ⟨z1, w1, w2, w3⟩ := c_acc_y (σ := σ) (x := x) h hr hi hc
  refine ⟨z1, ?_, w2, w3⟩
  unfold D_X6_expect
  rw [xr_o, Option.bind_some, w1, bd_some, if_neg (by decide)]
theorem c_exp_n (h : PadR ci cz p pl) {br : Bool} (hr : RS cz i br) (hi : i ≤ 80) {c : Int32} (hc : br = true ∨ sgn p pl i ≠ c) : ∃ cz', D_X6_expect (x + 53) c (xh σ x ci cz) = some (xh σ x ci cz') ∧ RS cz' i true ∧ z53 cz cz' := by
  refine ⟨_, ?_, hr.p7 true, z53.rfl.up (by omega) _⟩
  unfold D_X6_expect
  rw [xr_o, Option.bind_some, c_acc_n h hr hi hc, bd_some, if_pos rfl, xr_z7_1, Option.bind_some]
  rfl
end RD
