def lvF (f : Nat → Int32) (i s : Nat) : Nat → Int32 := fun k => if i ≤ k ∧ k < s - 1 then f (k + 1) else f k
section X2
variable {σ : Hp} {x : Nat} {ci cz : Nat → Nat → Int32} {j s : Nat}
theorem nI_tn {i : Nat} (hi : i < 2147483648) : (nI i).toNatClampNeg = i := by
  have : (nI i).toNatClampNeg = (nI i).toInt.toNat := rfl
  rw [this, nI_toInt (by omega)]
  omega
theorem x_cpy {k : Nat} (h : kd j = 1) (h' : kd k = 1) (hs : kd (j + 1) = 100 + s) (hs' : kd (k + 1) = 100 + s) : D_X1_copy (x + j) (x + k) (xh σ x ci cz) = some (xh σ x (va_up ci (j + 1) (fillN (ci (k + 1)) s (ci (j + 1)))) cz) := by
  have := kd_le (j + 1)
  unfold D_X1_copy
  rw [xc_o h, Option.bind_some, xc_0 h', Option.bind_some, xc_0 h, Option.bind_some, Option.bind_some, x_len hs', Option.bind_some, Option.bind_some, x_len hs, Option.bind_some, nm_eq]
  have e : (if nI s < nI s then nI s else nI s) = nI s := by split <;> rfl
  rw [e]
  unfold cpyI
  rw [xh_row hs', xh_row hs]
  dsimp only
  rw [if_pos ⟨⟨by decide, by decide, nI_nn (by omega)⟩, by rw [nI_tn (by omega)]; show 0 + s ≤ s; omega, by rw [nI_tn (by omega)]; show 0 + s ≤ s; omega⟩, Option.bind_some, xh_setA hs, nI_tn (by omega)]
  have e2 : va_cpy (ci (k + 1)) (ci (j + 1)) (0 : Int32).toNatClampNeg (0 : Int32).toNatClampNeg s = fillN (ci (k + 1)) s (ci (j + 1)) := by
    funext q
    show (if 0 ≤ q ∧ q < 0 + s then ci (k + 1) (0 + (q - 0)) else ci (j + 1) q) = _
    unfold fillN
    by_cases c : q < s
    · rw [if_pos (by omega), if_pos c, Nat.zero_add, Nat.sub_zero]
    · rw [if_neg (by omega), if_neg c]
  rw [e2]
theorem x_lv (h : kd j = 1) (hs : kd (j + 1) = 100 + s) {i : Nat} (hi : i < s) : D_X1_leaveOut (x + j) (nI i) (xh σ x ci cz) = some (xh σ x (va_up ci (j + 1) (lvF (ci (j + 1)) i s)) cz) := by
  have := kd_le (j + 1)
  unfold D_X1_leaveOut
  have e1 : nI s - 1 - nI i = nI (s - 1 - i) := by
    have o : (1 : Int32).toInt = 1 := rfl
    have a1 : (nI s - 1).toInt = (s : Int) - 1 := by
      rw [i_sub (by rw [nI_toInt (by omega)]; omega) (by rw [nI_toInt (by omega)]; omega), nI_toInt (by omega), o]
    apply i_nI
    · rw [i_sub (by rw [a1, nI_toInt (by omega)]; omega) (by rw [a1, nI_toInt (by omega)]; omega), a1, nI_toInt (by omega)]
      omega
    · omega
  rw [xc_o h, Option.bind_some, if_neg (nI_nn (by omega)), xc_0 h, Option.bind_some, x_len hs, Option.bind_some, if_neg (nI_ge (a := i) (b := s) hi (by omega)), Option.bind_some, Option.bind_some, Option.bind_some, x_len hs, Option.bind_some, nI_1, e1]
  unfold cpyI
  rw [xh_row hs]
  dsimp only
  rw [if_pos ⟨⟨nI_nn (by omega), nI_nn (by omega), nI_nn (by omega)⟩, by rw [nI_tn (by omega), nI_tn (by omega)]; omega, by rw [nI_tn (by omega), nI_tn (by omega)]; omega⟩, Option.bind_some, xh_setA hs, nI_tn (by omega), nI_tn (by omega), nI_tn (by omega)]
  have e2 : va_cpy (ci (j + 1)) (ci (j + 1)) (i + 1) i (s - 1 - i) = lvF (ci (j + 1)) i s := by
    funext q
    unfold va_cpy lvF
    by_cases c : i ≤ q ∧ q < s - 1
    · rw [if_pos (by omega), if_pos c]
      congr 1
      omega
    · rw [if_neg (by omega), if_neg c]
  rw [e2]
end X2
/-- a Field lies at F -/
def FD (F : Nat) : Prop := kd F = 2 ∧ (kd (F + 1) = 1 ∧ kd (F + 1 + 1) = 100 + 3) ∧ (kd (F + 3) = 1 ∧ kd (F + 3 + 1) = 100 + 25) ∧ (kd (F + 5) = 1 ∧ kd (F + 5 + 1) = 100 + 25) ∧ (kd (F + 7) = 1 ∧ kd (F + 7 + 1) = 100 + 25) ∧ (kd (F + 9) = 1 ∧ kd (F + 9 + 1) = 100 + 25) ∧ (kd (F + 11) = 1 ∧ kd (F + 11 + 1) = 100 + 25)
theorem FD_1 : FD 1 := by unfold FD; decide
theorem FD_26 : FD 26 := by unfold FD; decide
theorem FD_h {i : Nat} (hi : i < 7) : FD (65 + 13 * i) := by
  match i, hi with
  | 0, _ => unfold FD; decide
  | 1, _ => unfold FD; decide
  | 2, _ => unfold FD; decide
  | 3, _ => unfold FD; decide
  | 4, _ => unfold FD; decide
  | 5, _ => unfold FD; decide
  | 6, _ => unfold FD; decide
/-- the Field at F says what the row A of n mirrors says -/
def FA (ci cz : Nat → Nat → Int32) (F : Nat) (A : Nat → Int32) (n : Nat) : Prop := (cz F 6 = A 6 ∧ cz F 7 = A 4 ∧ cz F 8 = A 3 ∧ cz F 9 = A 5) ∧ (∀ i, i < 3 → ci (F + 1 + 1) i = A i) ∧ (∀ i, i < n → ci (F + 3 + 1) i = gA A i 0) ∧ (∀ i, i < n → ci (F + 5 + 1) i = gA A i 1) ∧ (∀ i, i < n → ci (F + 7 + 1) i = gA A i 2) ∧ (∀ i, i < n → ci (F + 9 + 1) i = gA A i 3) ∧ (∀ i, i < n → ci (F + 11 + 1) i = gA A i 4)
/-- nothing changed outside of [a, b) -/
def fr (a b : Nat) (ci cz ci' cz' : Nat → Nat → Int32) : Prop := ∀ j, (j < a ∨ b ≤ j) → ci' j = ci j ∧ cz' j = cz j
theorem fr.rfl {a b : Nat} {ci cz : Nat → Nat → Int32} : fr a b ci cz ci cz := fun _ _ => ⟨Eq.refl _, Eq.refl _⟩
theorem fr.tr {a b : Nat} {ci cz ci' cz' ci2 cz2 : Nat → Nat → Int32} (h : fr a b ci cz ci' cz') (h2 : fr a b ci' cz' ci2 cz2) : fr a b ci cz ci2 cz2 := fun j hj => ⟨(h2 j hj).1.trans (h j hj).1, (h2 j hj).2.trans (h j hj).2⟩
theorem fr.mono {a b c d : Nat} {ci cz ci' cz' : Nat → Nat → Int32} (h : fr a b ci cz ci' cz') (h1 : c ≤ a) (h2 : b ≤ d) : fr c d ci cz ci' cz' := fun j hj => h j (by omega)
theorem fr.upc {a b k : Nat} {ci cz ci' cz' : Nat → Nat → Int32} (h : fr a b ci cz ci' cz') (h1 : a ≤ k) (h2 : k < b) {f : Nat → Int32} : fr a b ci cz (va_up ci' k f) cz' := fun j hj => ⟨(up_ne (by omega)).trans (h j hj).1, (h j hj).2⟩
theorem fr.upz {a b k : Nat} {ci cz ci' cz' : Nat → Nat → Int32} (h : fr a b ci cz ci' cz') (h1 : a ≤ k) (h2 : k < b) {f : Nat → Int32} : fr a b ci cz ci' (va_up cz' k f) := fun j hj => ⟨(h j hj).1, (up_ne (by omega)).trans (h j hj).2⟩
theorem FA.fr {a b F n : Nat} {ci cz ci' cz' : Nat → Nat → Int32} {A : Nat → Int32} (h : FA ci cz F A n) (hf : fr a b ci cz ci' cz') (hd : F + 13 ≤ a ∨ b ≤ F) : FA ci' cz' F A n := by
  obtain ⟨h0, h1, h2, h3, h4, h5, h6⟩ := h
  refine ⟨by rw [(hf F (by omega)).2]; exact h0, ?_, ?_, ?_, ?_, ?_, ?_⟩
  · rw [(hf (F + 1 + 1) (by omega)).1]; exact h1
  · rw [(hf (F + 3 + 1) (by omega)).1]; exact h2
  · rw [(hf (F + 5 + 1) (by omega)).1]; exact h3
  · rw [(hf (F + 7 + 1) (by omega)).1]; exact h4
  · rw [(hf (F + 9 + 1) (by omega)).1]; exact h5
  · rw [(hf (F + 11 + 1) (by omega)).1]; exact h6
section X2
variable {σ : Hp} {x : Nat} {ci cz : Nat → Nat → Int32} {F n : Nat} {A : Nat → Int32}
theorem c_isMirror (hF : FD F) (h : FA ci cz F A n) (hW : WF A n) (i : Int32) : D_X2_isMirror (x + F) i (xh σ x ci cz) = some (if rng i 0 ((n : Int) - 1) then 1 else 0, xh σ x ci cz) := by
  unfold D_X2_isMirror
  have hn := hW.1.1
  rw [xf_o hF.1, Option.bind_some, xf_6 hF.1, Option.bind_some, h.1.1, hW.1.2]
  have z : (0 : Int32).toInt = 0 := rfl
  by_cases c1 : i < 0
  · rw [if_pos c1, retZ_0, if_neg (fun q => by rw [pu_lt, z] at c1; have := q.1; omega)]
  · rw [if_neg c1]
    rw [pu_lt, z] at c1
    by_cases c2 : nI n ≤ i
    · rw [if_pos c2, retZ_0, if_neg (fun q => by rw [pu_le, nI_toInt (by omega)] at c2; have := q.2; omega)]
    · rw [if_neg c2, retZ_1, if_pos ⟨by omega, by rw [pu_le, nI_toInt (by omega)] at c2; omega⟩]
theorem c_s (hF : FD F) (h : FA ci cz F A n) {i : Nat} (hi : i < 3) : D_X1_read (x + (F + 1)) (nI i) (xh σ x ci cz) = some (A i, xh σ x ci cz) := by
  rw [x_rd hF.2.1.1 hF.2.1.2 hi, h.2.1 i hi]
theorem c_g0 (hF : FD F) (h : FA ci cz F A n) (hn : n ≤ 25) {i : Nat} (hi : i < n) : D_X1_read (x + (F + 3)) (nI i) (xh σ x ci cz) = some (gA A i 0, xh σ x ci cz) := by
  rw [x_rd hF.2.2.1.1 hF.2.2.1.2 (by omega), h.2.2.1 i hi]
theorem c_g1 (hF : FD F) (h : FA ci cz F A n) (hn : n ≤ 25) {i : Nat} (hi : i < n) : D_X1_read (x + (F + 5)) (nI i) (xh σ x ci cz) = some (gA A i 1, xh σ x ci cz) := by
  rw [x_rd hF.2.2.2.1.1 hF.2.2.2.1.2 (by omega), h.2.2.2.1 i hi]
theorem c_g2 (hF : FD F) (h : FA ci cz F A n) (hn : n ≤ 25) {i : Nat} (hi : i < n) : D_X1_read (x + (F + 7)) (nI i) (xh σ x ci cz) = some (gA A i 2, xh σ x ci cz) := by
  rw [x_rd hF.2.2.2.2.1.1 hF.2.2.2.2.1.2 (by omega), h.2.2.2.2.1 i hi]
theorem c_g3 (hF : FD F) (h : FA ci cz F A n) (hn : n ≤ 25) {i : Nat} (hi : i < n) : D_X1_read (x + (F + 9)) (nI i) (xh σ x ci cz) = some (gA A i 3, xh σ x ci cz) := by
  rw [x_rd hF.2.2.2.2.2.1.1 hF.2.2.2.2.2.1.2 (by omega), h.2.2.2.2.2.1 i hi]
theorem c_g4 (hF : FD F) (h : FA ci cz F A n) (hn : n ≤ 25) {i : Nat} (hi : i < n) : D_X1_read (x + (F + 11)) (nI i) (xh σ x ci cz) = some (gA A i 4, xh σ x ci cz) := by
  rw [x_rd hF.2.2.2.2.2.2.1 hF.2.2.2.2.2.2.2 (by omega), h.2.2.2.2.2.2 i hi]
theorem c_flat (hF : FD F) (h : FA ci cz F A n) : D_X2_liesFlat (x + F) (xh σ x ci cz) = some (bI (flat A), xh σ x ci cz) := by
  unfold D_X2_liesFlat flat
  rw [xf_o hF.1, Option.bind_some, xf_7 hF.1, Option.bind_some, xf_0 hF.1, Option.bind_some, show (1 : Int32) = nI 1 from rfl, c_s hF h (by omega), bd_some, h.1.2.1]
  by_cases c : A 4 ≤ A 1
  · rw [if_pos c, decide_eq_false (by rw [pu_lt]; rw [pu_le] at c; omega), bI_f, retZ_0]
  · rw [if_neg c, decide_eq_true (by rw [pu_lt]; rw [pu_le] at c; omega), bI_t]
    exact retZ_1 _
theorem c_mirrorIn_w2 (hF : FD F) (h : FA ci cz F A n) (hW : WF A n) (r c : Int32) (kx : Hp → Option (Int32 × Hp)) : ∀ (k i f : Nat), i + k = n → k < f → D_X2_mirrorIn_w2 (x + F) r c kx f (nI i) (xh σ x ci cz) = match mAtF A r c k i with
    | none => kx (xh σ x ci cz)
    | some j => some (nI j, xh σ x ci cz) := by
  intro k
  have hn := hW.1.1
  induction k with
  | zero =>
    intro i f hi hf
    obtain ⟨f, rfl⟩ : ∃ g, f = g + 1 := ⟨f - 1, by omega⟩
    have : i = n := by omega
    subst this
    unfold D_X2_mirrorIn_w2
    rw [xf_6 hF.1, Option.bind_some, h.1.1, hW.1.2, if_pos (Int32.le_refl _)]
    rfl
  | succ k ih =>
    intro i f hi hf
    obtain ⟨f, rfl⟩ : ∃ g, f = g + 1 := ⟨f - 1, by omega⟩
    unfold D_X2_mirrorIn_w2
    rw [xf_6 hF.1, Option.bind_some, h.1.1, hW.1.2, if_neg (nI_ge (a := i) (b := n) (by omega) (by omega)), xf_1 hF.1, Option.bind_some, c_g0 hF h hn (by omega), bd_some, xf_2 hF.1, Option.bind_some, c_g1 hF h hn (by omega), bd_some, nI_1, ih (i + 1) f (by omega) (by omega)]
    conv => rhs; unfold mAtF
    by_cases h1 : gA A i 0 = r
    · by_cases h2 : gA A i 1 = c
      · rw [if_pos h1, if_pos h2, if_pos ⟨h1, h2⟩]
      · rw [if_pos h1, if_neg h2, if_neg (fun q => h2 q.2)]
    · rw [if_neg h1, if_neg (fun q => h1 q.1)]
theorem c_mirrorIn (hF : FD F) (h : FA ci cz F A n) (hW : WF A n) (r c : Int32) : D_X2_mirrorIn (x + F) r c (xh σ x ci cz) = some (oI (mAt A n r c), xh σ x ci cz) := by
  unfold D_X2_mirrorIn
  rw [xf_o hF.1, Option.bind_some, show (0 : Int32) = nI 0 from rfl, c_mirrorIn_w2 hF h hW r c _ n 0 FU (by omega) (by rw [FU_eq]; have := hW.1.1; omega)]
  show (match mAt A n r c with | none => _ | some j => _) = _
  cases mAt A n r c with
  | none => rfl
  | some j => rfl
theorem c_allDust_w4 (hF : FD F) (h : FA ci cz F A n) (hW : WF A n) (kx : Int32 → Hp → Option (Int32 × Hp)) : ∀ (k i f : Nat), i + k = n → k < f → D_X2_allDust_w4 (x + F) kx f (sumF (fun i => gA A i 3) i) (nI i) (xh σ x ci cz) = kx (sumF (fun i => gA A i 3) n) (xh σ x ci cz) := by
  intro k
  have hn := hW.1.1
  induction k with
  | zero =>
    intro i f hi hf
    obtain ⟨f, rfl⟩ : ∃ g, f = g + 1 := ⟨f - 1, by omega⟩
    have : i = n := by omega
    subst this
    unfold D_X2_allDust_w4
    rw [xf_6 hF.1, Option.bind_some, h.1.1, hW.1.2, if_pos (Int32.le_refl _)]
  | succ k ih =>
    intro i f hi hf
    obtain ⟨f, rfl⟩ : ∃ g, f = g + 1 := ⟨f - 1, by omega⟩
    rw [← ih (i + 1) f (by omega) (by omega)]
    conv => lhs; unfold D_X2_allDust_w4
    rw [xf_6 hF.1, Option.bind_some, h.1.1, hW.1.2, if_neg (nI_ge (a := i) (b := n) (by omega) (by omega)), xf_4 hF.1, Option.bind_some, c_g3 hF h hn (by omega), bd_some, nm_eq, nI_1]
    rfl
theorem c_allDust (hF : FD F) (h : FA ci cz F A n) (hW : WF A n) : D_X2_allDust (x + F) (xh σ x ci cz) = some (sumF (fun i => gA A i 3) n, xh σ x ci cz) := by
  unfold D_X2_allDust
  rw [xf_o hF.1, Option.bind_some]
  exact c_allDust_w4 hF h hW _ n 0 FU (by omega) (by rw [FU_eq]; have := hW.1.1; omega)
theorem c_mirrorsOf_w4 (hF : FD F) (h : FA ci cz F A n) (hW : WF A n) (a : Int32) (kx : Int32 → Hp → Option (Int32 × Hp)) : ∀ (k i f : Nat), i + k = n → k < f → D_X2_mirrorsOf_w4 (x + F) a kx f (maskF (aimM A a) i) (nI i) (xh σ x ci cz) = kx (maskF (aimM A a) n) (xh σ x ci cz) := by
  intro k
  have hn := hW.1.1
  induction k with
  | zero =>
    intro i f hi hf
    obtain ⟨f, rfl⟩ : ∃ g, f = g + 1 := ⟨f - 1, by omega⟩
    have : i = n := by omega
    subst this
    unfold D_X2_mirrorsOf_w4
    rw [xf_6 hF.1, Option.bind_some, h.1.1, hW.1.2, if_pos (Int32.le_refl _)]
  | succ k ih =>
    intro i f hi hf
    obtain ⟨f, rfl⟩ : ∃ g, f = g + 1 := ⟨f - 1, by omega⟩
    rw [← ih (i + 1) f (by omega) (by omega)]
    conv => lhs; unfold D_X2_mirrorsOf_w4
    rw [xf_6 hF.1, Option.bind_some, h.1.1, hW.1.2, if_neg (nI_ge (a := i) (b := n) (by omega) (by omega)), xf_3 hF.1, Option.bind_some, c_g2 hF h hn (by omega), bd_some, nm_eq, nI_1]
    have e : maskF (aimM A a) (i + 1) = maskF (aimM A a) i ||| (if aimM A a i = true then (1 : Int32) <<< (nI i &&& 31) else 0) := rfl
    by_cases c : gA A i 2 = a
    · rw [if_pos c, e, if_pos (show aimM A a i = true from decide_eq_true c)]
    · rw [if_neg c, e, if_neg (show ¬ aimM A a i = true from fun q => c (of_decide_eq_true q)), Int32.or_zero]
theorem c_mirrorsOf (hF : FD F) (h : FA ci cz F A n) (hW : WF A n) (a : Int32) : D_X2_mirrorsOf (x + F) a (xh σ x ci cz) = some (maskF (aimM A a) n, xh σ x ci cz) := by
  unfold D_X2_mirrorsOf
  rw [xf_o hF.1, Option.bind_some]
  exact c_mirrorsOf_w4 hF h hW a _ n 0 FU (by omega) (by rw [FU_eq]; have := hW.1.1; omega)
end X2
