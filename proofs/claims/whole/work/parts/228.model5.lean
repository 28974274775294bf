/-! the reference's changes -/
section M5
variable {σ : Hp} {m : Nat} {it : Nat → Int32} {ar : Nat → Nat → Int32} {n : Nat}
theorem m_puts (r c a : Int32) (hn : n < 25) (h6 : ar 1 6 = nI n) : D_X10_puts m r c a (mh σ m it ar) = some (mh σ m it (va_up ar 1 (putA (ar 1) n r c a))) := by
  unfold D_X10_puts putA
  rw [mh_isO, Option.bind_some, mh_r0, Option.bind_some, mh_A6, h6, Option.bind_some, Option.bind_some, mh_A6, h6, Option.bind_some, mh_S (k := 6) _ rfl (by omega), Option.bind_some, nI_1,
    sets0 _ hn, Option.bind_some, sets1 _ hn, Option.bind_some, sets2 _ hn, Option.bind_some, sets3 _ hn, Option.bind_some, sets4 _ hn, Option.bind_some]
  simp only [up_eq, up_up]
def tkF (A : Nat → Int32) (n i k : Nat) : Nat → Int32 := fun q => if 7 + 5 * i ≤ q ∧ q < k then A (q + 5) else upd A 6 (nI (n - 1)) q
theorem tkF_s {A : Nat → Int32} {n i k : Nat} (hk : 7 + 5 * i ≤ k) : upd (tkF A n i k) k (A (k + 5)) = tkF A n i (k + 1) := by
  funext q
  unfold tkF
  by_cases h : q = k
  · subst h
    rw [upd_eq, if_pos (by omega)]
  · rw [upd_ne h]
    by_cases h2 : 7 + 5 * i ≤ q ∧ q < k
    · rw [if_pos h2, if_pos (by omega)]
    · rw [if_neg h2, if_neg (by omega)]
theorem m_takesOut_w18 {i : Nat} (kx : Hp → Option Hp) (hn : n ≤ 25) (hi : i < n) : ∀ (c k f : Nat), k + c = 7 + 5 * (n - 1) → 7 + 5 * i ≤ k → c < f → D_X10_takesOut_w18 m kx f (nI k) (mh σ m it (va_up ar 1 (tkF (ar 1) n i k))) = kx (mh σ m it (va_up ar 1 (takeA (ar 1) n i))) := by
  intro c
  have e6 : ∀ k, tkF (ar 1) n i k 6 = nI (n - 1) := fun k => by unfold tkF; rw [if_neg (by omega), upd_eq]
  have ek : (7 + 5 * nI (n - 1) : Int32) = nI (7 + 5 * (n - 1)) := by
    rw [show (7 : Int32) = nI 7 from rfl, show (5 : Int32) = nI 5 from rfl, pk_mul, nI_add]
  induction c with
  | zero =>
    intro k f hk hik hf
    obtain ⟨f, rfl⟩ : ∃ g, f = g + 1 := ⟨f - 1, by omega⟩
    have : k = 7 + 5 * (n - 1) := by omega
    subst this
    unfold D_X10_takesOut_w18
    rw [mh_r0, Option.bind_some, mh_A6, up_eq, e6, Option.bind_some, ek, if_pos (nI_le (by omega) (by omega))]
    rfl
  | succ c ih =>
    intro k f hk hik hf
    obtain ⟨f, rfl⟩ : ∃ g, f = g + 1 := ⟨f - 1, by omega⟩
    rw [← ih (k + 1) f (by omega) (by omega) (by omega)]
    conv => lhs; unfold D_X10_takesOut_w18
    have e5 : (nI k + 5 : Int32) = nI (k + 5) := nI_add k 5
    have el : tkF (ar 1) n i k (k + 5) = ar 1 (k + 5) := by unfold tkF; rw [if_neg (by omega), upd_ne (by omega)]
    rw [mh_r0, Option.bind_some, mh_A6, up_eq, e6, Option.bind_some, ek, if_neg (nI_ge (by omega) (by omega)), Option.bind_some, Option.bind_some, e5, mh_A (k := k + 5) (nI_toInt (by omega)) (by omega), up_eq, el, Option.bind_some,
      mh_S (k := k) _ (nI_toInt (by omega)) (by omega), up_eq, up_up, Option.bind_some, nI_1, tkF_s hik]
theorem m_takesOut {i : Nat} (hn : n ≤ 25) (hi : i < n) (h6 : ar 1 6 = nI n) : D_X10_takesOut m (nI i) (mh σ m it ar) = some (mh σ m it (va_up ar 1 (takeA (ar 1) n i))) := by
  unfold D_X10_takesOut
  obtain ⟨k, rfl⟩ : ∃ k, n = k + 1 := ⟨n - 1, by omega⟩
  have e7 : (7 + 5 * nI i : Int32) = nI (7 + 5 * i) := by
    rw [show (7 : Int32) = nI 7 from rfl, show (5 : Int32) = nI 5 from rfl, pk_mul, nI_add]
  have e0 : upd (ar 1) 6 (nI k) = tkF (ar 1) (k + 1) i (7 + 5 * i) := by
    funext q
    unfold tkF
    rw [if_neg (by omega)]
    rfl
  rw [mh_isO, Option.bind_some, mh_r0, Option.bind_some, mh_A6, h6, Option.bind_some, nI_pred, mh_S (k := 6) _ rfl (by omega), Option.bind_some, nm_eq, e7, e0, m_takesOut_w18 _ hn hi _ _ FU (show 7 + 5 * i + 5 * (k - i) = _ by omega) (Nat.le_refl _) (by rw [FU_eq]; omega)]
theorem m_doMirror (r c a : Int32) (hn : n ≤ 24) (h6 : ar 1 6 = nI n) : D_X10_doMirror m r c a (mh σ m it ar) = some ((mirO (ar 1) n r c a).1, mh σ m it (va_up ar 1 (mirO (ar 1) n r c a).2)) := by
  unfold D_X10_doMirror mirO
  rw [mh_isO, Option.bind_some, m_isPlace, bd_some]
  by_cases h1 : rng r 0 19 ∧ rng c 0 19
  · rw [if_pos (show (0 ≤ r.toInt ∧ r.toInt < 20) ∧ (0 ≤ c.toInt ∧ c.toInt < 20) from ⟨⟨h1.1.1, by have := h1.1.2; omega⟩, h1.2.1, by have := h1.2.2; omega⟩), if_neg (by decide), isInI, bd_some]
    by_cases h2 : rng a 0 3
    · rw [if_pos (show (0 : Int64).toInt ≤ a.toInt ∧ a.toInt ≤ (3 : Int64).toInt from h2), if_neg (by decide), m_mirrorAt r c (by omega) h6, bd_some, if_neg (show ¬ ¬ ((rng r 0 19 ∧ rng c 0 19) ∧ rng a 0 3) from fun q => q ⟨h1, h2⟩)]
      by_cases h3 : mAt (ar 1) n r c = none
      · rw [h3, if_pos (show oI none = -6 from rfl), mh_r0, Option.bind_some, mh_A6, h6, Option.bind_some, if_neg (show ¬ ((none : Option Nat) ≠ none) from fun q => q rfl)]
        by_cases h4 : n = 24
        · subst h4
          rw [if_pos (show nI 24 = 24 from rfl), if_pos rfl, up_self]
        · rw [if_neg (show ¬ nI n = 24 from fun q => h4 ((nI_eq (b := 24) (by omega) (by omega)).mp q)), if_neg h4, m_puts r c a (by omega) h6, Option.bind_some, mh_r0, Option.bind_some, mh_A6, up_eq, putA_6, Option.bind_some, nI_pred]
      · rw [if_neg (show ¬ oI (mAt (ar 1) n r c) = -6 from fun q => h3 ((oI_eq (fun j hj => by have := (mAt_lt hj).1; omega)).mp q)), if_pos h3, up_self]
    · rw [if_neg (show ¬ ((0 : Int64).toInt ≤ a.toInt ∧ a.toInt ≤ (3 : Int64).toInt) from h2), if_pos rfl, if_pos (show ¬ ((rng r 0 19 ∧ rng c 0 19) ∧ rng a 0 3) from fun q => h2 q.2), up_self]
  · rw [if_neg (show ¬ ((0 ≤ r.toInt ∧ r.toInt < 20) ∧ (0 ≤ c.toInt ∧ c.toInt < 20)) from fun q => h1 ⟨⟨q.1.1, by have := q.1.2; omega⟩, q.2.1, by have := q.2.2; omega⟩), if_pos rfl, if_pos (show ¬ ((rng r 0 19 ∧ rng c 0 19) ∧ rng a 0 3) from fun q => h1 q.1), up_self]
theorem m_doTake (i : Int32) (hn : n ≤ 24) (h6 : ar 1 6 = nI n) : D_X10_doTake m i (mh σ m it ar) = some ((takO (ar 1) n i).1, mh σ m it (va_up ar 1 (takO (ar 1) n i).2)) := by
  unfold D_X10_doTake takO
  rw [mh_isO, Option.bind_some, m_isMirror (show n ≤ 25 by omega) h6, bd_some]
  by_cases h : rng i 0 ((n : Int) - 1)
  · obtain ⟨k, hk, e, e2⟩ := rng_nat h (by omega)
    rw [if_pos (show 0 ≤ i.toInt ∧ i.toInt < n from ⟨h.1, by have := h.2; omega⟩), if_neg (by decide), if_neg (fun q => q h), e2, e, m_takesOut (by omega) hk h6, Option.bind_some, mh_r0, Option.bind_some, mh_A6, up_eq, takeA_6, Option.bind_some]
  · rw [if_neg (show ¬ (0 ≤ i.toInt ∧ i.toInt < n) from fun q => h ⟨q.1, by have := q.2; omega⟩), if_pos rfl, if_pos h, up_self]
theorem m_doAim (i a : Int32) (hn : n ≤ 24) (h6 : ar 1 6 = nI n) : D_X10_doAim m i a (mh σ m it ar) = some ((aimO (ar 1) n i a).1, mh σ m it (va_up ar 1 (aimO (ar 1) n i a).2)) := by
  unfold D_X10_doAim aimO
  rw [mh_isO, Option.bind_some, m_isMirror (show n ≤ 25 by omega) h6, bd_some]
  by_cases h : rng i 0 ((n : Int) - 1)
  · obtain ⟨k, hk, e, e2⟩ := rng_nat h (by omega)
    rw [if_pos (show 0 ≤ i.toInt ∧ i.toInt < n from ⟨h.1, by have := h.2; omega⟩), if_neg (by decide), if_neg (fun q => q h), e2, e, isInI, bd_some]
    by_cases h2 : rng a 0 3
    · rw [if_pos (show (0 : Int64).toInt ≤ a.toInt ∧ a.toInt ≤ (3 : Int64).toInt from h2), if_neg (by decide), if_neg (fun q => q h2), its2 (show k < 25 by omega), bd_some, sets2 _ (show k < 25 by omega), Option.bind_some]
    · rw [if_neg (show ¬ ((0 : Int64).toInt ≤ a.toInt ∧ a.toInt ≤ (3 : Int64).toInt) from h2), if_pos rfl, if_pos h2, up_self]
  · rw [if_neg (show ¬ (0 ≤ i.toInt ∧ i.toInt < n) from fun q => h ⟨q.1, by have := q.2; omega⟩), if_pos rfl, if_pos h, up_self]
theorem m_doWash (i : Int32) (hn : n ≤ 24) (h6 : ar 1 6 = nI n) : D_X10_doWash m i (mh σ m it ar) = some ((wasO (ar 1) n i).1, mh σ m it (va_up ar 1 (wasO (ar 1) n i).2)) := by
  unfold D_X10_doWash wasO
  rw [mh_isO, Option.bind_some, m_isMirror (show n ≤ 25 by omega) h6, bd_some]
  by_cases h : rng i 0 ((n : Int) - 1)
  · obtain ⟨k, hk, e, e2⟩ := rng_nat h (by omega)
    rw [if_pos (show 0 ≤ i.toInt ∧ i.toInt < n from ⟨h.1, by have := h.2; omega⟩), if_neg (by decide), if_neg (fun q => q h), e2, e, its3 (show k < 25 by omega), bd_some, sets3 _ (show k < 25 by omega), Option.bind_some]
  · rw [if_neg (show ¬ (0 ≤ i.toInt ∧ i.toInt < n) from fun q => h ⟨q.1, by have := q.2; omega⟩), if_pos rfl, if_pos h, up_self]
theorem m_doWind (w : Int32) : D_X10_doWind m w (mh σ m it ar) = some ((winO (ar 1) w).1, mh σ m it (va_up ar 1 (winO (ar 1) w).2)) := by
  unfold D_X10_doWind winO
  rw [mh_isO, Option.bind_some, isInI, bd_some]
  by_cases h : rng w 0 99
  · rw [if_pos (show (0 : Int64).toInt ≤ w.toInt ∧ w.toInt ≤ (99 : Int64).toInt from h), if_neg (by decide), if_neg (fun q => q h), mh_r0, Option.bind_some, mh_S (k := 4) _ rfl (by omega), Option.bind_some, m_areFlat, up_eq, bd_some]
    cases flat (upd (ar 1) 4 w) <;> rfl
  · rw [if_neg (show ¬ ((0 : Int64).toInt ≤ w.toInt ∧ w.toInt ≤ (99 : Int64).toInt) from h), if_pos rfl, if_pos h, up_self]
/-! a day -/
theorem m_day_w24 (x : Int32) (kx : Hp → Option Hp) {u : Nat → Bool} {g A : Nat → Int32} (hn : n ≤ 25) (h6 : A 6 = nI n) (hu : ∀ i, i < n → ar 8 i = bI (u i)) (hg : ∀ i, i < n → ar 7 i = g i) : ∀ (k i f : Nat), i + k = n → k < f → D_X10_day_w24 m x kx f (nI i) (mh σ m it (va_up ar 1 (crF A u g i))) = kx (mh σ m it (va_up ar 1 (crF A u g n))) := by
  intro k
  induction k with
  | zero =>
    intro i f hi hf
    obtain ⟨f, rfl⟩ : ∃ g, f = g + 1 := ⟨f - 1, by omega⟩
    have : i = n := by omega
    subst this
    unfold D_X10_day_w24
    rw [mh_r0, Option.bind_some, mh_A6, up_eq, crF_lo (by omega), h6, Option.bind_some, if_pos (nI_le (by omega) (by omega))]
  | succ k ih =>
    intro i f hi hf
    obtain ⟨f, rfl⟩ : ∃ g, f = g + 1 := ⟨f - 1, by omega⟩
    rw [← ih (i + 1) f (by omega) (by omega)]
    conv => lhs; unfold D_X10_day_w24
    rw [mh_r0, Option.bind_some, mh_A6, up_eq, crF_lo (by omega), h6, Option.bind_some, if_neg (nI_ge (by omega) (by omega)), its4 (show i < 25 by omega), up_eq, bd_some, mh_r8, Option.bind_some,
      mh_ld 8 i (nI_toInt (by omega)) (by omega) (by omega) (by simp [msz]; omega), up_ne (by omega), hu i (by omega), Option.bind_some, mh_r7, Option.bind_some,
      mh_ld 7 i (nI_toInt (by omega)) (by omega) (by omega) (by simp [msz]; omega), up_ne (by omega), hg i (by omega), Option.bind_some, sets4 _ (show i < 25 by omega), up_eq, up_up, Option.bind_some, nI_1]
    rfl
theorem m_day_w2 (kx : Hp → Option Hp) {A : Nat → Int32} (hW : WF A n) : ∀ (k h f : Nat) (ar' : Nat → Nat → Int32), h + k = 11 → k < f → ar' 1 = dayH A n h → (∀ j, j ≠ 1 → j ≠ 7 → j ≠ 8 → j ≠ 9 → j ≠ 10 → ar' j = ar j) → ∃ ar2, D_X10_day_w2 m kx f (nI h) (mh σ m it ar') = kx (mh σ m it ar2) ∧ ar2 1 = dayH A n 11 ∧ (∀ j, j ≠ 1 → j ≠ 7 → j ≠ 8 → j ≠ 9 → j ≠ 10 → ar2 j = ar j) := by
  intro k
  induction k with
  | zero =>
    intro h f ar' hh hf h1 hj
    obtain ⟨f, rfl⟩ : ∃ g, f = g + 1 := ⟨f - 1, by omega⟩
    have : h = 11 := by omega
    subst this
    refine ⟨ar', ?_, h1, hj⟩
    unfold D_X10_day_w2
    rw [if_pos (by decide)]
  | succ k ih =>
    intro h f ar' hh hf h1 hj
    obtain ⟨f, rfl⟩ : ∃ g, f = g + 1 := ⟨f - 1, by omega⟩
    have hWh := dayH_WF hW h
    obtain ⟨a2, hl1, hl2, hl3⟩ := m_looks (σ := σ) (m := m) (it := it) (ar := ar') (n := n) (h := h) (by rw [h1]; exact hWh) (by omega)
    rw [h1] at hl1 hl3
    have e21 : a2 1 = dayH A n h := by rw [hl2 1 (by omega) (by omega) (by omega) (by omega), h1]
    have w24 := m_day_w24 (σ := σ) (m := m) (it := it) (ar := a2) (n := n) (nI h) (fun s35 => D_X10_day_w2 m kx f (nI h + 1) s35) (u := (looks (dayH A n h) n h).2.1) (g := gv (dayH A n h) n h) (A := upd (dayH A n h) 5 (dayH A n h 5 + (looks (dayH A n h) n h).2.2)) hWh.1.1 (by rw [upd_ne (by omega)]; exact hWh.1.2) hl3.2.2 hl3.1 n 0 FU (by omega) (by rw [FU_eq]; have := hWh.1.1; omega)
    obtain ⟨a3, g1, g2, g3⟩ := ih (h + 1) f (va_up a2 1 (hourA (dayH A n h) n h)) (by omega) (by omega) (by rw [up_eq]; rfl) (fun j j1 j7 j8 j9 j10 => by rw [up_ne j1, hl2 j j7 j8 j9 j10, hj j j1 j7 j8 j9 j10])
    refine ⟨a3, ?_, g2, g3⟩
    rw [← g1]
    conv => lhs; unfold D_X10_day_w2
    rw [if_neg (show ¬ (11 : Int32) ≤ nI h from nI_ge (a := h) (b := 11) (by omega) (by omega)), mh_r0, Option.bind_some, mh_A5, h1, Option.bind_some, hl1, bd_some, mh_S (k := 5) _ rfl (by omega), e21, Option.bind_some]
    rw [show nI 0 = (0 : Int32) from rfl] at w24
    have e0 : crF (upd (dayH A n h) 5 (dayH A n h 5 + (looks (dayH A n h) n h).2.2)) (looks (dayH A n h) n h).2.1 (gv (dayH A n h) n h) 0 = upd (dayH A n h) 5 (dayH A n h 5 + (looks (dayH A n h) n h).2.2) := rfl
    rw [e0] at w24
    rw [w24, nI_1]
    rfl
theorem m_day_w75 (kx : Hp → Option Hp) {A : Nat → Int32} (hn : n ≤ 25) (h6 : A 6 = nI n) : ∀ (k i f : Nat), i + k = n → k < f → D_X10_day_w75 m kx f (nI i) (mh σ m it (va_up ar 1 (duF A i))) = kx (mh σ m it (va_up ar 1 (duF A n))) := by
  intro k
  induction k with
  | zero =>
    intro i f hi hf
    obtain ⟨f, rfl⟩ : ∃ g, f = g + 1 := ⟨f - 1, by omega⟩
    have : i = n := by omega
    subst this
    unfold D_X10_day_w75
    rw [mh_r0, Option.bind_some, mh_A6, up_eq, duF_lo (by omega), h6, Option.bind_some, if_pos (nI_le (by omega) (by omega))]
  | succ k ih =>
    intro i f hi hf
    obtain ⟨f, rfl⟩ : ∃ g, f = g + 1 := ⟨f - 1, by omega⟩
    rw [← ih (i + 1) f (by omega) (by omega)]
    conv => lhs; unfold D_X10_day_w75
    rw [mh_r0, Option.bind_some, mh_A6, up_eq, duF_lo (by omega), h6, Option.bind_some, if_neg (nI_ge (by omega) (by omega)), its3 (show i < 25 by omega), up_eq, bd_some, mh_r0, Option.bind_some, mh_A2, up_eq, Option.bind_some, nm_eq]
    unfold D_X10_day_b115
    rw [sets3 _ (show i < 25 by omega), sets3 _ (show i < 25 by omega), up_eq, up_up, up_up, Option.bind_some, Option.bind_some, nI_1]
    conv => rhs; rw [duF]
    unfold dst
    by_cases c : (100 : Int32) ≤ gA (duF A i) i 3 + duF A i 2
    · rw [if_pos c, if_pos c]
    · rw [if_neg c, if_neg c]
theorem m_day (hW : WF (ar 1) n) : ∃ ar', D_X10_day m (mh σ m it ar) = some (mh σ m it ar') ∧ ar' 1 = dayA (ar 1) n ∧ (∀ j, j ≠ 1 → j ≠ 7 → j ≠ 8 → j ≠ 9 → j ≠ 10 → ar' j = ar j) := by
  obtain ⟨a2, g1, g2, g3⟩ := m_day_w2 (σ := σ) (m := m) (it := it) (ar := ar) (n := n) (fun s37 =>
  D_X10_day_w75 m (fun s60 =>
  (getR s60 m 9 0).bind fun a61 =>
  (ldI s60 a61 (3 : Int32)).bind fun i62 =>
  (stI s60 a61 (3 : Int32) (i62 + (1 : Int32))).bind fun s63 =>
  some s63
  ) FU (0 : Int32) s37) hW 11 0 FU ar (by omega) (by rw [FU_eq]; omega) rfl (fun _ _ _ _ _ _ => rfl)
  have hW2 := dayH_WF hW 11
  have w75 := m_day_w75 (σ := σ) (m := m) (it := it) (ar := a2) (n := n) (fun s60 =>
  (getR s60 m 9 0).bind fun a61 =>
  (ldI s60 a61 (3 : Int32)).bind fun i62 =>
  (stI s60 a61 (3 : Int32) (i62 + (1 : Int32))).bind fun s63 =>
  some s63) (A := dayH (ar 1) n 11) hW2.1.1 hW2.1.2 n 0 FU (by omega) (by rw [FU_eq]; have := hW2.1.1; omega)
  have e0 : va_up a2 1 (duF (dayH (ar 1) n 11) 0) = a2 := by
    rw [duF, ← g2, up_self]
  rw [e0, show nI 0 = (0 : Int32) from rfl] at w75
  refine ⟨va_up a2 1 (dayA (ar 1) n), ?_, up_eq, fun j j1 j7 j8 j9 j10 => by rw [up_ne j1, g3 j j1 j7 j8 j9 j10]⟩
  unfold D_X10_day
  rw [mh_isO, Option.bind_some]
  rw [show nI 0 = (0 : Int32) from rfl] at g1
  rw [g1, w75, mh_r0, Option.bind_some, mh_A3, up_eq, Option.bind_some, mh_S (k := 3) _ rfl (by omega), up_eq, up_up, Option.bind_some]
  rfl
def oth (ar ar' : Nat → Nat → Int32) : Prop := ∀ j, j ≠ 1 → j ≠ 7 → j ≠ 8 → j ≠ 9 → j ≠ 10 → ar' j = ar j
theorem m_doPass_w41 (x h0 : Int32) (kx : Hp → Option (Int32 × Hp)) {A : Nat → Int32} {d : Nat} (hW : WF A n) (hd : d ≤ 99) (h3 : (A 3).toInt + d ≤ 999) (hx : x = nI d) : ∀ (k i f : Nat) (ar' : Nat → Nat → Int32), i + k = d → k < f → ar' 1 = daysA A n i → oth ar ar' → ∃ ar2, D_X10_doPass_w41 m x h0 kx f (nI i) (mh σ m it ar') = kx (mh σ m it ar2) ∧ ar2 1 = daysA A n d ∧ oth ar ar2 := by
  intro k
  subst hx
  induction k with
  | zero =>
    intro i f ar' hi hf h1 ho
    obtain ⟨f, rfl⟩ : ∃ g, f = g + 1 := ⟨f - 1, by omega⟩
    have : i = d := by omega
    subst this
    refine ⟨ar', ?_, h1, ho⟩
    unfold D_X10_doPass_w41
    rw [if_pos (nI_le (by omega) (by omega))]
  | succ k ih =>
    intro i f ar' hi hf h1 ho
    obtain ⟨f, rfl⟩ : ∃ g, f = g + 1 := ⟨f - 1, by omega⟩
    have hWi := (daysA_WF hW i (by omega)).1
    obtain ⟨a2, g1, g2, g3⟩ := m_day (σ := σ) (m := m) (it := it) (ar := ar') (n := n) (by rw [h1]; exact hWi)
    obtain ⟨a3, q1, q2, q3⟩ := ih (i + 1) f a2 (by omega) (by omega) (by rw [g2, h1]; rfl) (fun j j1 j7 j8 j9 j10 => (g3 j j1 j7 j8 j9 j10).trans (ho j j1 j7 j8 j9 j10))
    refine ⟨a3, ?_, q2, q3⟩
    rw [← q1]
    conv => lhs; unfold D_X10_doPass_w41
    rw [if_neg (nI_ge (by omega) (by omega)), g1, Option.bind_some, nI_1]
theorem m_doPass (d : Int32) (hW : WS (ar 1) n) : ∃ ar', D_X10_doPass m d (mh σ m it ar) = some ((pasO (ar 1) n d).1, mh σ m it ar') ∧ ar' 1 = (pasO (ar 1) n d).2 ∧ oth ar ar' := by
  unfold D_X10_doPass pasO
  rw [mh_isO, Option.bind_some, isInI, bd_some]
  by_cases h : rng d 1 99
  · rw [if_pos (show (1 : Int64).toInt ≤ d.toInt ∧ d.toInt ≤ (99 : Int64).toInt from h), if_neg (by decide), if_neg (fun q => q h), mh_r0, Option.bind_some, mh_A3, Option.bind_some]
    have q3 := hW.1.2.2.2.2.2.2.1
    have es : (ar 1 3 + d).toInt = (ar 1 3).toInt + d.toInt := by
      rw [Int32.toInt_add, Int.bmod_eq_of_le (by have := h.1; omega) (by have := h.2; omega)]
    by_cases h2 : 999 < (ar 1 3).toInt + d.toInt
    · have c : ¬ (ar 1 3 + d ≤ 999) := by rw [pu_le, es]; show ¬ _ ≤ (999 : Int); omega
      rw [if_neg c, if_pos h2]
      exact ⟨ar, rfl, rfl, fun _ _ _ _ _ _ => rfl⟩
    · have c : ar 1 3 + d ≤ 999 := by rw [pu_le, es]; show _ ≤ (999 : Int); omega
      rw [if_pos c, if_neg h2, Option.bind_some, mh_A5, Option.bind_some]
      obtain ⟨k, hk⟩ : ∃ k : Nat, d.toInt = (k : Int) := ⟨d.toInt.toNat, by have := h.1; omega⟩
      have hk2 : d.toInt.toNat = k := by omega
      have hd99 : k ≤ 99 := by have := h.2; omega
      have ed : d = nI k := by rw [pu_eq, hk, nI_toInt (by omega)]
      obtain ⟨a2, g1, g2, g3⟩ := m_doPass_w41 (σ := σ) (m := m) (it := it) (ar := ar) (n := n) d (ar 1 5) (fun s25 =>
  (getR s25 m 9 0).bind fun a26 =>
  (ldI s25 a26 (5 : Int32)).bind fun i27 =>
  some ((i27 - ar 1 5), s25)) hW.1 hd99 (by omega) ed k 0 FU ar (by omega) (by rw [FU_eq]; omega) rfl (fun _ _ _ _ _ _ => rfl)
      rw [show nI 0 = (0 : Int32) from rfl] at g1
      rw [g1, mh_r0, Option.bind_some, mh_A5, Option.bind_some, hk2, g2]
      exact ⟨a2, rfl, g2, g3⟩
  · rw [if_neg (show ¬ ((1 : Int64).toInt ≤ d.toInt ∧ d.toInt ≤ (99 : Int64).toInt) from h), if_pos rfl, if_pos h]
    exact ⟨ar, rfl, rfl, fun _ _ _ _ _ _ => rfl⟩
end M5
