def LD (F : Nat) : Prop := kd (F + 13) = 4 ∧ (kd (F + 13 + 1) = 1 ∧ kd (F + 13 + 1 + 1) = 100 + 400) ∧ (kd (F + 13 + 3) = 1 ∧ kd (F + 13 + 3 + 1) = 100 + 275) ∧ (kd (F + 13 + 5) = 1 ∧ kd (F + 13 + 5 + 1) = 100 + 25) ∧ (kd (F + 13 + 7) = 1 ∧ kd (F + 13 + 7 + 1) = 100 + 25) ∧ (kd (F + 13 + 9) = 1 ∧ kd (F + 13 + 9 + 1) = 100 + 4)
theorem LD_1 : LD 1 := by unfold LD; decide
theorem LD_26 : LD 26 := by unfold LD; decide
/-- where mirror j stands, as a place of the grid -/
def pos (A : Nat → Int32) (j : Nat) : Nat := 20 * (gA A j 0).toInt.toNat + (gA A j 1).toInt.toNat
theorem pos_lt {A : Nat → Int32} {n j : Nat} (hW : WF A n) (hj : j < n) : pos A j < 400 := by
  obtain ⟨h0, h1, -⟩ := hW.2.1 j hj
  unfold pos
  omega
theorem pos_inj {A : Nat → Int32} {n j k : Nat} (hW : WF A n) (hj : j < n) (hk : k < n) (h : pos A j = pos A k) : j = k := by
  obtain ⟨a0, a1, -⟩ := hW.2.1 j hj
  obtain ⟨b0, b1, -⟩ := hW.2.1 k hk
  unfold pos at h
  exact hW.2.2.1 j k hj hk (by rw [pu_eq]; omega) (by rw [pu_eq]; omega)
theorem pos_i {A : Nat → Int32} {n j : Nat} (hW : WF A n) (hj : j < n) : gA A j 0 * 20 + gA A j 1 = nI (pos A j) := by
  obtain ⟨a0, a1, -⟩ := hW.2.1 j hj
  have z20 : (20 : Int32).toInt = 20 := rfl
  apply i_nI
  · have m1 : (gA A j 0 * 20).toInt = (gA A j 0).toInt * 20 := by rw [i_mul (by rw [z20]; omega) (by rw [z20]; omega), z20]
    rw [i_add (by omega) (by omega), m1]
    unfold pos
    omega
  · have := pos_lt hW hj
    omega
/-- the grid after the first i mirrors are laid -/
def gridA (A : Nat → Int32) (i : Nat) (G : Nat → Int32) : Prop := (∀ j, j < i → G (pos A j) = nI j) ∧ ∀ k, k < 400 → (∀ j, j < i → pos A j ≠ k) → G k = -6
theorem gridA.s {A : Nat → Int32} {n i : Nat} {G : Nat → Int32} (hW : WF A n) (hi : i < n) (h : gridA A i G) : gridA A (i + 1) (upd G (pos A i) (nI i)) := by
  refine ⟨fun j hj => ?_, fun k hk hn => ?_⟩
  · by_cases c : j = i
    · rw [c, upd_eq]
    · rw [upd_ne (fun q => c (pos_inj hW (by omega) hi q))]
      exact h.1 j (by omega)
  · rw [upd_ne (fun q => hn i (by omega) q.symm)]
    exact h.2 k hk (fun j hj => hn j (by omega))
theorem mAt_first {A : Nat → Int32} {n j : Nat} (hW : WF A n) (hj : j < n) : mAt A n (gA A j 0) (gA A j 1) = some j := by
  rcases h : mAt A n (gA A j 0) (gA A j 1) with _ | k
  · exact absurd ⟨rfl, rfl⟩ (mAt_none h j hj)
  · obtain ⟨h1, h2, h3⟩ := mAt_lt h
    rw [hW.2.2.1 k j h1 hj h2 h3]
theorem mAt_out {A : Nat → Int32} {n : Nat} {r c : Int32} (hW : WF A n) (h : ¬ (rng r 0 19 ∧ rng c 0 19)) : mAt A n r c = none := by
  rcases q : mAt A n r c with _ | k
  · rfl
  · obtain ⟨h1, h2, h3⟩ := mAt_lt q
    obtain ⟨a0, a1, -⟩ := hW.2.1 k h1
    rw [h2] at a0
    rw [h3] at a1
    exact absurd ⟨⟨a0.1, by omega⟩, a1.1, by omega⟩ h
theorem grid_mAt {A : Nat → Int32} {n : Nat} {G : Nat → Int32} (hW : WF A n) (h : gridA A n G) {r c : Int32} (hr : rng r 0 19 ∧ rng c 0 19) : G (20 * r.toInt.toNat + c.toInt.toNat) = oI (mAt A n r c) := by
  rcases q : mAt A n r c with _ | k
  · have hn := mAt_none q
    refine h.2 _ (by have := hr.1; have := hr.2; omega) (fun j hj e => hn j hj ?_)
    obtain ⟨a0, a1, -⟩ := hW.2.1 j hj
    unfold pos at e
    have := hr.1
    have := hr.2
    exact ⟨by rw [pu_eq]; omega, by rw [pu_eq]; omega⟩
  · obtain ⟨h1, h2, h3⟩ := mAt_lt q
    rw [← h2, ← h3]
    exact h.1 k h1
section L1
variable {σ : Hp} {x : Nat} {ci cz : Nat → Nat → Int32} {F n : Nat} {A : Nat → Int32}
theorem c_inPlace (hL : LD F) (hW : WF A n) (hg : gridA A n (ci (F + 13 + 1 + 1))) (r c : Int32) : D_X4_inPlace (x + (F + 13)) r c (xh σ x ci cz) = some (oI (mAt A n r c), xh σ x ci cz) := by
  unfold D_X4_inPlace
  rw [xl_o hL.1, Option.bind_some, x_isPlace, bd_some]
  by_cases h : rng r 0 19 ∧ rng c 0 19
  · have z20 : (20 : Int32).toInt = 20 := rfl
    have e : r * 20 + c = nI (20 * r.toInt.toNat + c.toInt.toNat) := by
      have h1 := h.1
      have h2 := h.2
      apply i_nI
      · have m1 : (r * 20).toInt = r.toInt * 20 := by rw [i_mul (by rw [z20]; omega) (by rw [z20]; omega), z20]
        rw [i_add (by omega) (by omega), m1]
        omega
      · omega
    rw [if_pos h, if_neg (by decide), xl_1 hL.1, Option.bind_some, e, x_rd hL.2.1.1 hL.2.1.2 (by have h1 := h.1; have h2 := h.2; omega), bd_some, grid_mAt hW hg h]
  · rw [if_neg h, if_pos rfl, mAt_out hW h]
    rfl
theorem c_height {h : Nat} (hh : h < 11) (σ : Hp) : D_X8_height (nI h) σ = some (nI (hiN h), σ) := by
  match h, hh with
  | 0, _ => rfl
  | 1, _ => rfl
  | 2, _ => rfl
  | 3, _ => rfl
  | 4, _ => rfl
  | 5, _ => rfl
  | 6, _ => rfl
  | 7, _ => rfl
  | 8, _ => rfl
  | 9, _ => rfl
  | 10, _ => rfl
theorem hiN_in {h : Nat} (hh : h < 11) : 1 ≤ hiN h ∧ hiN h ≤ 6 := by
  unfold hiN
  split <;> omega
theorem c_near_w34 (hL : LD F) (hW : WF A n) (hg : gridA A n (ci (F + 13 + 1 + 1))) {i h : Nat} (hh : h < 11) : ∀ (c k f : Nat), 1 ≤ k → k + c = 6 / hiN h + 1 → c < f → D_X4_nearestShader_w34 (x + (F + 13)) (nI h) (gA A i 0) (gA A i 1) (nI (hiN h)) (fun s34 => some ((-6 : Int32), s34)) f (nI k) (xh σ x ci cz) = some (oI (shF A n i h c k), xh σ x ci cz) := by
  intro c
  have hi := hiN_in hh
  have z6 : (6 : Int32).toInt = 6 := rfl
  have hm : ∀ k, k < 100 → (nI k * nI (hiN h)).toInt = ((k * hiN h : Nat) : Int) := by
    intro k hk
    have : k * hiN h < 1000 := by
      have : k * hiN h ≤ k * 6 := Nat.mul_le_mul_left k hi.2
      omega
    rw [pk_mul, nI_toInt (by omega)]
  have hq : 6 / hiN h ≤ 6 := Nat.div_le_self _ _
  induction c with
  | zero =>
    intro k f h1 hk hf
    obtain ⟨f, rfl⟩ : ∃ g, f = g + 1 := ⟨f - 1, by omega⟩
    unfold D_X4_nearestShader_w34
    have hgt : 6 < k * hiN h := by
      have e : k = 6 / hiN h + 1 := by omega
      rw [e]
      have := Nat.lt_div_mul_add (a := 6) (b := hiN h) (by omega)
      rw [Nat.add_mul, Nat.one_mul]
      exact this
    by_cases c6 : (6 : Int32) < nI k
    · rw [if_pos c6]; rfl
    · rw [if_neg c6, if_pos (by rw [pu_lt, z6, hm k (by omega)]; omega)]; rfl
  | succ c ih =>
    intro k f h1 hk hf
    obtain ⟨f, rfl⟩ : ∃ g, f = g + 1 := ⟨f - 1, by omega⟩
    have hle : k * hiN h ≤ 6 := by
      have : k ≤ 6 / hiN h := by omega
      exact (Nat.le_div_iff_mul_le (by omega)).1 this
    unfold D_X4_nearestShader_w34
    rw [if_neg (by rw [pu_lt, z6, nI_toInt (by omega)]; omega), if_neg (by rw [pu_lt, z6, hm k (by omega)]; omega)]
    unfold D_X8_columns
    rw [bd_some, c_inPlace hL hW hg, bd_some, nI_1, ih (k + 1) f (by omega) (by omega) (by omega)]
    conv => rhs; unfold shF
    rcases q : mAt A n (gA A i 0 - nI k) (gA A i 1 + nI k * (5 - nI h)) with _ | j
    · rw [if_pos (show oI none = -6 from rfl)]
    · rw [if_neg (show ¬ oI (some j) = -6 from oI_ne (by have := (mAt_lt q).1; have := hW.1.1; omega))]
theorem c_near (hF : FD F) (hL : LD F) (h : FA ci cz F A n) (hW : WF A n) (hg : gridA A n (ci (F + 13 + 1 + 1))) {i hr : Nat} (hi : i < n) (hh : hr < 11) : D_X4_nearestShader (x + (F + 13)) (nI i) (nI hr) (xh σ x ci cz) = some (oI (shade A n i hr), xh σ x ci cz) := by
  unfold D_X4_nearestShader
  rw [xl_o hL.1, Option.bind_some, xl_0 hL.1, Option.bind_some, xf_1 hF.1, Option.bind_some, c_g0 hF h hW.1.1 hi, bd_some, xl_0 hL.1, Option.bind_some, xf_2 hF.1, Option.bind_some, c_g1 hF h hW.1.1 hi, bd_some, c_height hh, bd_some, show (1 : Int32) = nI 1 from rfl]
  exact c_near_w34 hL hW hg hh (6 / hiN hr) 1 FU (by omega) (by omega) (by rw [FU_eq]; have := Nat.div_le_self 6 (hiN hr); omega)
end L1
