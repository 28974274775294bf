/-! the reference: history, slots -/
def agr (f g : Nat → Int32) : Prop := ∀ k, k < 132 → f k = g k
/-- the rows of history hold these states, oldest first -/
def hisR (it : Nat → Int32) (ar : Nat → Nat → Int32) (H : List (Nat → Int32)) : Prop := H.length ≤ 6 ∧ it 4 = nI H.length ∧ ∀ j B, H[j]? = some B → ∀ k, k < 132 → ar 4 (132 * j + k) = B k
def pushH (H : List (Nat → Int32)) (B : Nat → Int32) : List (Nat → Int32) := (if H.length = 6 then H.drop 1 else H) ++ [B]
section M6
variable {σ : Hp} {m : Nat} {it : Nat → Int32} {ar : Nat → Nat → Int32} {n : Nat}
theorem m_copy_w2 (i j : Nat) (hi : i = 1 ∨ i = 2 ∨ i = 3) (hj : j = 1 ∨ j = 2 ∨ j = 3) (hij : i ≠ j) (kx : Hp → Option Hp) : ∀ (c k f : Nat), k + c = 132 → c < f → D_X10_copy_w2 (m + i) (m + j) kx f (nI k) (mh σ m it (va_up ar j (fillN (ar i) k (ar j)))) = kx (mh σ m it (va_up ar j (fillN (ar i) 132 (ar j)))) := by
  have hsi : msz i = 132 := by unfold msz; rw [if_pos hi]
  have hsj : msz j = 132 := by unfold msz; rw [if_pos hj]
  intro c
  induction c with
  | zero =>
    intro k f hk hf
    obtain ⟨f, rfl⟩ : ∃ g, f = g + 1 := ⟨f - 1, by omega⟩
    have : k = 132 := by omega
    subst this
    unfold D_X10_copy_w2
    rw [if_pos (by decide)]
  | succ c ih =>
    intro k f hk hf
    obtain ⟨f, rfl⟩ : ∃ g, f = g + 1 := ⟨f - 1, by omega⟩
    rw [← ih (k + 1) f (by omega) (by omega)]
    conv => lhs; unfold D_X10_copy_w2
    rw [if_neg (show ¬ (132 : Int32) ≤ nI k from nI_ge (a := k) (b := 132) (by omega) (by omega)), mh_ld i k (nI_toInt (by omega)) (by omega) (by omega) (by omega), up_ne hij, Option.bind_some,
      mh_st j k _ (nI_toInt (by omega)) (by omega) (by omega) (by omega), up_eq, up_up, fillN_s, Option.bind_some, nI_1]
theorem m_copy (i j : Nat) (hi : i = 1 ∨ i = 2 ∨ i = 3) (hj : j = 1 ∨ j = 2 ∨ j = 3) (hij : i ≠ j) : D_X10_copy (m + i) (m + j) (mh σ m it ar) = some (mh σ m it (va_up ar j (fillN (ar i) 132 (ar j)))) := by
  have h := m_copy_w2 (σ := σ) (m := m) (it := it) (ar := ar) i j hi hj hij (fun s19 => some s19) 132 0 FU (by omega) (by rw [FU_eq]; omega)
  rw [fillN_0, up_self] at h
  unfold D_X10_copy
  exact h
theorem m_changed_w52 (x : Int32) (kx : Hp → Option (Int32 × Hp)) {q : Nat} (hq : q < 6) (h4 : it 4 = nI q) : ∀ (c k f : Nat), k + c = 132 → c < f → D_X10_changed_w52 m x kx f (nI k) (mh σ m it (va_up ar 4 (fun p => if 132 * q ≤ p ∧ p < 132 * q + k then ar 2 (p - 132 * q) else ar 4 p))) = kx (mh σ m it (va_up ar 4 (fun p => if 132 * q ≤ p ∧ p < 132 * q + 132 then ar 2 (p - 132 * q) else ar 4 p))) := by
  intro c
  induction c with
  | zero =>
    intro k f hk hf
    obtain ⟨f, rfl⟩ : ∃ g, f = g + 1 := ⟨f - 1, by omega⟩
    have : k = 132 := by omega
    subst this
    unfold D_X10_changed_w52
    rw [if_pos (by decide)]
  | succ c ih =>
    intro k f hk hf
    obtain ⟨f, rfl⟩ : ∃ g, f = g + 1 := ⟨f - 1, by omega⟩
    rw [← ih (k + 1) f (by omega) (by omega)]
    conv => lhs; unfold D_X10_changed_w52
    have e : ((132 : Int32) * nI q + nI k).toInt = ((132 * q + k : Nat) : Int) := by
      rw [show (132 : Int32) = nI 132 from rfl, pk_mul, nI_add, nI_toInt (by omega)]
    rw [if_neg (show ¬ (132 : Int32) ≤ nI k from nI_ge (a := k) (b := 132) (by omega) (by omega)), mh_r3, Option.bind_some, mh_i4, h4, Option.bind_some, mh_r1, Option.bind_some, mh_ld 2 k (nI_toInt (by omega)) (by omega) (by omega) (by simp [msz]; omega), up_ne (by omega), Option.bind_some,
      mh_st 4 (132 * q + k) _ e (by omega) (by omega) (by simp [msz]; omega), up_eq, up_up, Option.bind_some, nI_1]
    congr 3
    funext p
    by_cases h : p = 132 * q + k
    · subst h
      rw [upd_eq, if_pos (by omega)]
      congr 1
      omega
    · rw [upd_ne h]
      by_cases h2 : 132 * q ≤ p ∧ p < 132 * q + k
      · rw [if_pos h2, if_pos (by omega)]
      · rw [if_neg h2, if_neg (by omega)]
theorem m_changed_w11 (x : Int32) (kx : Hp → Option (Int32 × Hp)) : ∀ (c k f : Nat), k + c = 660 → c < f → D_X10_changed_w11 m x kx f (nI k) (mh σ m it (va_up ar 4 (fillN (fun p => ar 4 (p + 132)) k (ar 4)))) = kx (mh σ m it (va_up ar 4 (fillN (fun p => ar 4 (p + 132)) 660 (ar 4)))) := by
  intro c
  induction c with
  | zero =>
    intro k f hk hf
    obtain ⟨f, rfl⟩ : ∃ g, f = g + 1 := ⟨f - 1, by omega⟩
    have : k = 660 := by omega
    subst this
    unfold D_X10_changed_w11
    rw [if_pos (by decide)]
  | succ c ih =>
    intro k f hk hf
    obtain ⟨f, rfl⟩ : ∃ g, f = g + 1 := ⟨f - 1, by omega⟩
    rw [← ih (k + 1) f (by omega) (by omega)]
    conv => lhs; unfold D_X10_changed_w11
    have e : (nI k + (132 : Int32)).toInt = ((k + 132 : Nat) : Int) := by
      rw [show (132 : Int32) = nI 132 from rfl, nI_add, nI_toInt (by omega)]
    have e2 : fillN (fun p => ar 4 (p + 132)) k (ar 4) (k + 132) = ar 4 (k + 132) := by unfold fillN; rw [if_neg (by omega)]
    have e3 := fillN_s (f := fun p => ar 4 (p + 132)) (old := ar 4) (k := k)
    rw [if_neg (show ¬ (660 : Int32) ≤ nI k from nI_ge (a := k) (b := 660) (by omega) (by omega)), mh_r3, Option.bind_some, Option.bind_some, mh_ld 4 (k + 132) e (by omega) (by omega) (by simp [msz]; omega), up_eq, e2, Option.bind_some,
      mh_st 4 k _ (nI_toInt (by omega)) (by omega) (by omega) (by simp [msz]; omega), up_eq, up_up, e3, Option.bind_some, nI_1]
theorem m_changed_b50 (x : Int32) {q : Nat} (hq : q < 6) (h4 : it 4 = nI q) : D_X10_changed_b50 m x (mh σ m it ar) = some (x, mh σ m (upd it 4 (nI (q + 1))) (va_up ar 4 (fun p => if 132 * q ≤ p ∧ p < 132 * q + 132 then ar 2 (p - 132 * q) else ar 4 p))) := by
  unfold D_X10_changed_b50
  have h := m_changed_w52 (σ := σ) (m := m) (it := it) (ar := ar) x (fun s26 =>
  (getI s26 m 9 4).bind fun i27 =>
  (putI s26 m 9 4 (i27 + (1 : Int32))).bind fun s28 =>
  some (x, s28)) hq h4 132 0 FU (by omega) (by rw [FU_eq]; omega)
  have e0 : va_up ar 4 (fun p => if 132 * q ≤ p ∧ p < 132 * q + 0 then ar 2 (p - 132 * q) else ar 4 p) = ar := by
    have : (fun p => if 132 * q ≤ p ∧ p < 132 * q + 0 then ar 2 (p - 132 * q) else ar 4 p) = ar 4 := by
      funext p
      rw [if_neg (by omega)]
    rw [this, up_self]
  rw [e0, show nI 0 = (0 : Int32) from rfl] at h
  rw [h, mh_i4, h4, Option.bind_some, mh_p4, Option.bind_some, nI_1]
/-- what was kept comes into the history -/
theorem m_changed (x : Int32) {H : List (Nat → Int32)} {K : Nat → Int32} (hH : hisR it ar H) (hK : agr (ar 2) K) : ∃ it' ar', D_X10_changed m x (mh σ m it ar) = some (x, mh σ m it' ar') ∧ hisR it' ar' (pushH H K) ∧ (∀ j, j ≠ 4 → it' j = it j) ∧ ∀ j, j ≠ 4 → ar' j = ar j := by
  obtain ⟨hl, h4, hB⟩ := hH
  unfold D_X10_changed
  rw [mh_isO, Option.bind_some, mh_i4, h4, Option.bind_some]
  by_cases c : H.length = 6
  · rw [if_pos (by rw [c]; rfl)]
    have w := m_changed_w11 (σ := σ) (m := m) (it := it) (ar := ar) x (fun s39 =>
  (getI s39 m 9 4).bind fun i40 =>
  (putI s39 m 9 4 (i40 - (1 : Int32))).bind fun s41 =>
  D_X10_changed_b50 m x s41) 660 0 FU (by omega) (by rw [FU_eq]; omega)
    rw [fillN_0, up_self, show nI 0 = (0 : Int32) from rfl] at w
    rw [w, mh_i4, h4, c, Option.bind_some, show (nI 6 - 1 : Int32) = nI 5 from rfl, mh_p4, Option.bind_some, m_changed_b50 x (q := 5) (by omega) (by rw [upd_eq])]
    refine ⟨_, _, rfl, ⟨?_, ?_, ?_⟩, fun j hj => by rw [upd_ne hj, upd_ne hj], fun j hj => by rw [up_ne hj, up_ne hj]⟩
    · unfold pushH; rw [if_pos c]; simp; omega
    · unfold pushH; rw [if_pos c, upd_eq]; simp [c]
    · intro j B hjB k hk
      unfold pushH at hjB
      rw [if_pos c] at hjB
      rw [up_eq, up_ne (show (2 : Nat) ≠ 4 by omega), up_eq]
      by_cases hj : j < 5
      · rw [List.getElem?_append_left (by simp; omega), List.getElem?_drop] at hjB
        rw [if_neg (by omega), fillN_lt (by omega)]
        have := hB (1 + j) B hjB k hk
        rw [← this]
        congr 1
        omega
      · rw [List.getElem?_append_right (by simp; omega)] at hjB
        have h2 : j - (H.drop 1).length < 1 := (List.getElem?_eq_some_iff.mp hjB).1
        have h3 : j = 5 := by simp at h2; omega
        subst h3
        have h4' : (5 : Nat) - (H.drop 1).length = 0 := by simp; omega
        rw [h4', List.getElem?_cons_zero] at hjB
        cases hjB
        rw [if_pos (by omega), ← hK k hk]
        exact congrArg (ar 2) (by omega)
  · have hlt : H.length < 6 := by omega
    rw [if_neg (show ¬ nI H.length = 6 from fun q => c ((nI_eq (b := 6) (by omega) (by omega)).mp q)), m_changed_b50 x hlt h4]
    refine ⟨_, _, rfl, ⟨?_, ?_, ?_⟩, fun j hj => by rw [upd_ne hj], fun j hj => by rw [up_ne hj]⟩
    · unfold pushH; rw [if_neg c]; simp; omega
    · unfold pushH; rw [if_neg c, upd_eq]; simp
    · intro j B hjB k hk
      unfold pushH at hjB
      rw [if_neg c] at hjB
      rw [up_eq]
      by_cases hj : j < H.length
      · rw [List.getElem?_append_left hj] at hjB
        rw [if_neg (by omega)]
        exact hB j B hjB k hk
      · rw [List.getElem?_append_right (by omega)] at hjB
        have h2 : j - H.length < 1 := (List.getElem?_eq_some_iff.mp hjB).1
        have h3 : j = H.length := by omega
        subst h3
        rw [Nat.sub_self, List.getElem?_cons_zero] at hjB
        cases hjB
        rw [if_pos (by omega), ← hK k hk]
        exact congrArg (ar 2) (by omega)
/-- a change's end: an answer that is no error brings what was kept into the history -/
def endH (r : Int32) (H : List (Nat → Int32)) (K : Nat → Int32) : List (Nat → Int32) := if 0 ≤ r then pushH H K else H
theorem m_ends (x : Int32) {H : List (Nat → Int32)} {K : Nat → Int32} (hH : hisR it ar H) (hK : agr (ar 2) K) : ∃ it' ar', D_X10_ends m x (mh σ m it ar) = some (x, mh σ m it' ar') ∧ hisR it' ar' (endH x H K) ∧ (∀ j, j ≠ 4 → it' j = it j) ∧ ∀ j, j ≠ 4 → ar' j = ar j := by
  unfold D_X10_ends endH
  rw [mh_isO, Option.bind_some]
  by_cases c : 0 ≤ x
  · rw [if_pos c, if_pos c]
    obtain ⟨it', ar', g1, g2⟩ := m_changed (σ := σ) (m := m) x hH hK
    exact ⟨it', ar', by rw [g1]; rfl, g2⟩
  · rw [if_neg c, if_neg c]
    exact ⟨it, ar, rfl, hH, fun _ _ => rfl, fun _ _ => rfl⟩
end M6
