/-! the reference: undo, slots, wipe -/
section M10
variable {σ : Hp} {m : Nat} {it : Nat → Int32} {ar : Nat → Nat → Int32} {n : Nat} {A : Nat → Int32} {H : List (Nat → Int32)} {S : SLT} {p : Nat → Int32} {pl : Nat}
theorem m_undo_w22 (kx : Hp → Option (Int32 × Hp)) {q : Nat} (hq : q < 6) (h4 : it 4 = nI q) : ∀ (c k f : Nat), k + c = 132 → c < f → D_X10_undo_w22 m kx f (nI k) (mh σ m it (va_up ar 1 (fillN (fun k => ar 4 (132 * q + k)) k (ar 1)))) = kx (mh σ m it (va_up ar 1 (fillN (fun k => ar 4 (132 * q + k)) 132 (ar 1)))) := by
  intro c
  induction c with
  | zero =>
    intro k f hk hf
    obtain ⟨f, rfl⟩ : ∃ g, f = g + 1 := ⟨f - 1, by omega⟩
    have : k = 132 := by omega
    subst this
    unfold D_X10_undo_w22
    rw [if_pos (by decide)]
  | succ c ih =>
    intro k f hk hf
    obtain ⟨f, rfl⟩ : ∃ g, f = g + 1 := ⟨f - 1, by omega⟩
    rw [← ih (k + 1) f (by omega) (by omega)]
    conv => lhs; unfold D_X10_undo_w22
    have e : ((132 : Int32) * nI q + nI k).toInt = ((132 * q + k : Nat) : Int) := by
      rw [show (132 : Int32) = nI 132 from rfl, pk_mul, nI_add, nI_toInt (by omega)]
    have e3 := fillN_s (f := fun k => ar 4 (132 * q + k)) (old := ar 1) (k := k)
    rw [if_neg (show ¬ (132 : Int32) ≤ nI k from nI_ge (a := k) (b := 132) (by omega) (by omega)), mh_r0, Option.bind_some, mh_r3, Option.bind_some, mh_i4, h4, Option.bind_some, mh_ld 4 (132 * q + k) e (by omega) (by omega) (by simp [msz]; omega), up_ne (by omega), Option.bind_some,
      mh_S (k := k) _ (nI_toInt (by omega)) (by omega), up_eq, up_up, e3, Option.bind_some, nI_1]
theorem M_undo0 (h : MI it ar A [] S p pl) : D_X10_undo m (mh σ m it ar) = some (-5, mh σ m it ar) := by
  unfold D_X10_undo
  rw [mh_isO, Option.bind_some, mh_i4, h.2.1.2.1, Option.bind_some, if_pos (by decide)]
theorem M_undo {H0 : List (Nat → Int32)} {B : Nat → Int32} (h : MI it ar A (H0 ++ [B]) S p pl) : ∃ it' ar' A', D_X10_undo m (mh σ m it ar) = some (nI H0.length, mh σ m it' ar') ∧ MI it' ar' A' H0 S p pl ∧ agr A' B := by
  have hl : (H0 ++ [B]).length = H0.length + 1 := by simp
  obtain ⟨hl6, h4, hB⟩ := h.2.1
  rw [hl] at hl6 h4
  have w := m_undo_w22 (σ := σ) (m := m) (it := upd it 4 (nI H0.length)) (ar := ar) (fun s24 =>
  (getI s24 m 9 4).bind fun i25 =>
  some (i25, s24)) (q := H0.length) (by omega) upd_eq 132 0 FU (by omega) (by rw [FU_eq]; omega)
  rw [fillN_0, up_self, show nI 0 = (0 : Int32) from rfl] at w
  refine ⟨upd it 4 (nI H0.length), va_up ar 1 (fillN (fun k => ar 4 (132 * H0.length + k)) 132 (ar 1)), _, ?_, ⟨up_eq, ⟨by omega, upd_eq, fun j C hj k hk => ?_⟩, h.2.2.1.of_eq (up_ne (by omega)) (up_ne (by omega)), ⟨by rw [upd_ne (by omega)]; exact h.2.2.2.1.1, h.2.2.2.1.2⟩, fun i hi => by rw [up_ne (by omega)]; exact h.2.2.2.2 i hi⟩, fun k hk => ?_⟩
  · unfold D_X10_undo
    rw [mh_isO, Option.bind_some, mh_i4, h4, Option.bind_some, if_neg (nI_ne0 (by omega) (by omega)), Option.bind_some, nI_pred, mh_p4, Option.bind_some, w, mh_i4, upd_eq, Option.bind_some]
  · have hlt : j < H0.length := (List.getElem?_eq_some_iff.mp hj).1
    rw [up_ne (by omega)]
    exact hB j C (by rw [List.getElem?_append_left hlt]; exact hj) k hk
  · rw [fillN_lt hk]
    exact hB H0.length B (by rw [List.getElem?_append_right (Nat.le_refl _)]; simp) k hk
theorem m_save_w15 {q : Nat} (hq : q < 2) (kx : Hp → Option (Int32 × Hp)) : ∀ (c k f : Nat), k + c = 132 → c < f → D_X10_save_w15 m (nI q) kx f (nI k) (mh σ m it (va_up ar 5 (fun z => if 132 * q ≤ z ∧ z < 132 * q + k then ar 1 (z - 132 * q) else ar 5 z))) = kx (mh σ m it (va_up ar 5 (fun z => if 132 * q ≤ z ∧ z < 132 * q + 132 then ar 1 (z - 132 * q) else ar 5 z))) := by
  intro c
  induction c with
  | zero =>
    intro k f hk hf
    obtain ⟨f, rfl⟩ : ∃ g, f = g + 1 := ⟨f - 1, by omega⟩
    have : k = 132 := by omega
    subst this
    unfold D_X10_save_w15
    rw [if_pos (by decide)]
  | succ c ih =>
    intro k f hk hf
    obtain ⟨f, rfl⟩ : ∃ g, f = g + 1 := ⟨f - 1, by omega⟩
    rw [← ih (k + 1) f (by omega) (by omega)]
    conv => lhs; unfold D_X10_save_w15
    have e : ((132 : Int32) * nI q + nI k).toInt = ((132 * q + k : Nat) : Int) := by
      rw [show (132 : Int32) = nI 132 from rfl, pk_mul, nI_add, nI_toInt (by omega)]
    rw [if_neg (show ¬ (132 : Int32) ≤ nI k from nI_ge (a := k) (b := 132) (by omega) (by omega)), mh_r5, Option.bind_some, mh_r0, Option.bind_some, mh_A (k := k) (nI_toInt (by omega)) (by omega), up_ne (by omega), Option.bind_some,
      mh_st 5 (132 * q + k) _ e (by omega) (by omega) (by simp [msz]; omega), up_eq, up_up, Option.bind_some, nI_1]
    congr 3
    funext z
    by_cases h : z = 132 * q + k
    · subst h
      rw [upd_eq, if_pos (by omega)]
      exact congrArg (ar 1) (by omega)
    · rw [upd_ne h]
      by_cases h2 : 132 * q ≤ z ∧ z < 132 * q + k
      · rw [if_pos h2, if_pos (by omega)]
      · rw [if_neg h2, if_neg (by omega)]
theorem M_saveN {i : Int32} (hi : ¬ rng i 0 1) : D_X10_save m i (mh σ m it ar) = some (-2, mh σ m it ar) := by
  unfold D_X10_save
  rw [mh_isO, Option.bind_some, isInI, bd_some, if_neg (show ¬ ((0 : Int64).toInt ≤ i.toInt ∧ i.toInt ≤ (1 : Int64).toInt) from hi), if_pos rfl]
theorem M_save {q : Nat} (hq : q < 2) (h : MI it ar A H S p pl) : ∃ ar', D_X10_save m (nI q) (mh σ m it ar) = some (A 6, mh σ m it ar') ∧ MI it ar' A H (fun j => if j = q then some A else S j) p pl := by
  have hi : rng (nI q) 0 1 := by unfold rng; rw [nI_toInt (by omega)]; omega
  have w := m_save_w15 (σ := σ) (m := m) (it := it) (ar := ar) hq (fun s23 =>
  (getR s23 m 9 6).bind fun a24 =>
  (stI s23 a24 (nI q) (1 : Int32)).bind fun s25 =>
  (getR s25 m 9 0).bind fun a26 =>
  (ldI s25 a26 (6 : Int32)).bind fun i27 =>
  some (i27, s25)) 132 0 FU (by omega) (by rw [FU_eq]; omega)
  have e0 : va_up ar 5 (fun z => if 132 * q ≤ z ∧ z < 132 * q + 0 then ar 1 (z - 132 * q) else ar 5 z) = ar := by
    have : (fun z => if 132 * q ≤ z ∧ z < 132 * q + 0 then ar 1 (z - 132 * q) else ar 5 z) = ar 5 := by
      funext z
      rw [if_neg (by omega)]
    rw [this, up_self]
  rw [e0, show nI 0 = (0 : Int32) from rfl] at w
  generalize ha : va_up ar 5 (fun z => if 132 * q ≤ z ∧ z < 132 * q + 132 then ar 1 (z - 132 * q) else ar 5 z) = a2 at w
  have ea : ∀ j, j ≠ 5 → a2 j = ar j := fun j hj => by rw [← ha, up_ne hj]
  have e5 : ∀ z, a2 5 z = if 132 * q ≤ z ∧ z < 132 * q + 132 then ar 1 (z - 132 * q) else ar 5 z := fun z => by rw [← ha, up_eq]
  refine ⟨va_up a2 6 (upd (a2 6) q 1), ?_, ⟨by rw [up_ne (by omega), ea 1 (by omega)]; exact h.1, h.2.1.of_eq rfl (by rw [up_ne (by omega), ea 4 (by omega)]), fun i hi2 => ?_, h.2.2.2.1, fun i hi2 => by rw [up_ne (by omega), ea 11 (by omega)]; exact h.2.2.2.2 i hi2⟩⟩
  · unfold D_X10_save
    rw [mh_isO, Option.bind_some, isInI, bd_some, if_pos (show (0 : Int64).toInt ≤ (nI q).toInt ∧ (nI q).toInt ≤ (1 : Int64).toInt from hi), if_neg (by decide), w, mh_r6, Option.bind_some, mh_st 6 q _ (nI_toInt (by omega)) (by omega) (by omega) (by simp [msz]; omega), Option.bind_some, mh_r0, Option.bind_some, mh_A6, up_ne (by omega), ea 1 (by omega), h.1, Option.bind_some]
  · rw [up_eq, up_ne (show (5 : Nat) ≠ 6 by omega)]
    by_cases c : i = q
    · subst c
      have hm : (fun j => if j = i then some A else S j) i = some A := if_pos rfl
      rw [hm]
      refine ⟨upd_eq, fun k hk => ?_⟩
      rw [e5, if_pos (by omega), h.1]
      exact congrArg A (by omega)
    · have hm : (fun j => if j = q then some A else S j) i = S i := if_neg c
      rw [hm, upd_ne c, ea 6 (by omega)]
      have := h.2.2.1 i hi2
      cases hS : S i with
      | none => rw [hS] at this; exact this
      | some B =>
        rw [hS] at this
        refine ⟨this.1, fun k hk => ?_⟩
        rw [e5, if_neg (by omega)]
        exact this.2 k hk
theorem m_restore_w38 {q : Nat} (hq : q < 2) (kx : Hp → Option (Int32 × Hp)) : ∀ (c k f : Nat), k + c = 132 → c < f → D_X10_restore_w38 m (nI q) kx f (nI k) (mh σ m it (va_up ar 1 (fillN (fun k => ar 5 (132 * q + k)) k (ar 1)))) = kx (mh σ m it (va_up ar 1 (fillN (fun k => ar 5 (132 * q + k)) 132 (ar 1)))) := by
  intro c
  induction c with
  | zero =>
    intro k f hk hf
    obtain ⟨f, rfl⟩ : ∃ g, f = g + 1 := ⟨f - 1, by omega⟩
    have : k = 132 := by omega
    subst this
    unfold D_X10_restore_w38
    rw [if_pos (by decide)]
  | succ c ih =>
    intro k f hk hf
    obtain ⟨f, rfl⟩ : ∃ g, f = g + 1 := ⟨f - 1, by omega⟩
    rw [← ih (k + 1) f (by omega) (by omega)]
    conv => lhs; unfold D_X10_restore_w38
    have e : ((132 : Int32) * nI q + nI k).toInt = ((132 * q + k : Nat) : Int) := by
      rw [show (132 : Int32) = nI 132 from rfl, pk_mul, nI_add, nI_toInt (by omega)]
    have e3 := fillN_s (f := fun k => ar 5 (132 * q + k)) (old := ar 1) (k := k)
    rw [if_neg (show ¬ (132 : Int32) ≤ nI k from nI_ge (a := k) (b := 132) (by omega) (by omega)), mh_r0, Option.bind_some, mh_r5, Option.bind_some, mh_ld 5 (132 * q + k) e (by omega) (by omega) (by simp [msz]; omega), up_ne (by omega), Option.bind_some,
      mh_S (k := k) _ (nI_toInt (by omega)) (by omega), up_eq, up_up, e3, Option.bind_some, nI_1]
theorem M_restoreN {i : Int32} (hi : ¬ rng i 0 1) : D_X10_restore m i (mh σ m it ar) = some (-2, mh σ m it ar) := by
  unfold D_X10_restore
  rw [mh_isO, Option.bind_some, isInI, bd_some, if_neg (show ¬ ((0 : Int64).toInt ≤ i.toInt ∧ i.toInt ≤ (1 : Int64).toInt) from hi), if_pos rfl]
theorem M_restore0 {q : Nat} (hq : q < 2) (h : MI it ar A H S p pl) (hS : S q = none) : D_X10_restore m (nI q) (mh σ m it ar) = some (-5, mh σ m it ar) := by
  have hi : rng (nI q) 0 1 := by unfold rng; rw [nI_toInt (by omega)]; omega
  have := h.2.2.1 q hq
  rw [hS] at this
  unfold D_X10_restore
  rw [mh_isO, Option.bind_some, isInI, bd_some, if_pos (show (0 : Int64).toInt ≤ (nI q).toInt ∧ (nI q).toInt ≤ (1 : Int64).toInt from hi), if_neg (by decide), mh_r6, Option.bind_some, mh_ld 6 q (nI_toInt (by omega)) (by omega) (by omega) (by simp [msz]; omega), this, Option.bind_some, if_pos rfl]
theorem M_restore {q : Nat} (hq : q < 2) {B : Nat → Int32} (h : MI it ar A H S p pl) (hS : S q = some B) : ∃ it' ar' A', D_X10_restore m (nI q) (mh σ m it ar) = some (A' 6, mh σ m it' ar') ∧ MI it' ar' A' (pushH H A) S p pl ∧ agr A' B := by
  have hi : rng (nI q) 0 1 := by unfold rng; rw [nI_toInt (by omega)]; omega
  have hs := h.2.2.1 q hq
  rw [hS] at hs
  generalize ha : va_up ar 2 (fillN (ar 1) 132 (ar 2)) = a2
  have ea : ∀ j, j ≠ 2 → a2 j = ar j := fun j hj => by rw [← ha, up_ne hj]
  have w := m_restore_w38 (σ := σ) (m := m) (it := it) (ar := a2) hq (fun s28 =>
  (getR s28 m 9 0).bind fun a29 =>
  (ldI s28 a29 (6 : Int32)).bind fun i30 =>
  bd (D_X10_changed m i30 s28) fun i31 s32 =>
  some (i31, s32)) 132 0 FU (by omega) (by rw [FU_eq]; omega)
  rw [fillN_0, up_self, show nI 0 = (0 : Int32) from rfl] at w
  generalize hA' : fillN (fun k => a2 5 (132 * q + k)) 132 (a2 1) = A' at w
  have hag : agr A' B := fun k hk => by
    rw [← hA', fillN_lt hk, ea 5 (by omega)]
    exact hs.2 k hk
  obtain ⟨it', ar', g1, g2, g3, g4⟩ := m_changed (σ := σ) (m := m) (it := it) (ar := va_up a2 1 A') (A' 6) (H := H) (K := A) (h.2.1.of_eq rfl (by rw [up_ne (by omega), ea 4 (by omega)])) (fun k hk => by rw [up_ne (by omega), ← ha, up_eq, fillN_lt hk, h.1])
  refine ⟨it', ar', A', ?_, ⟨by rw [g4 1 (by omega), up_eq], g2, h.2.2.1.of_eq (by rw [g4 5 (by omega), up_ne (by omega), ea 5 (by omega)]) (by rw [g4 6 (by omega), up_ne (by omega), ea 6 (by omega)]), ⟨by rw [g3 12 (by omega)]; exact h.2.2.2.1.1, h.2.2.2.1.2⟩, fun i hi2 => by rw [g4 11 (by omega), up_ne (by omega), ea 11 (by omega)]; exact h.2.2.2.2 i hi2⟩, hag⟩
  unfold D_X10_restore
  rw [mh_isO, Option.bind_some, isInI, bd_some, if_pos (show (0 : Int64).toInt ≤ (nI q).toInt ∧ (nI q).toInt ≤ (1 : Int64).toInt from hi), if_neg (by decide), mh_r6, Option.bind_some, mh_ld 6 q (nI_toInt (by omega)) (by omega) (by omega) (by simp [msz]; omega), hs.1, Option.bind_some, if_neg (by decide), mh_r0, Option.bind_some, mh_r1, Option.bind_some, m_copy 1 2 (by omega) (by omega) (by omega), ha, Option.bind_some, w, mh_r0, Option.bind_some, mh_A6, up_eq, Option.bind_some, g1, bd_some]
theorem M_wipe (h : MI it ar A H S p pl) : ∃ it', D_X10_wipe m (mh σ m it ar) = some (nI pl, mh σ m it' ar) ∧ MI it' ar A H S p 0 := by
  refine ⟨upd it 12 0, ?_, ⟨h.1, h.2.1.of_eq (upd_ne (by omega)) rfl, h.2.2.1, ⟨upd_eq, by omega⟩, fun i hi => by omega⟩⟩
  unfold D_X10_wipe
  rw [mh_isO, Option.bind_some, mh_i12, h.2.2.2.1.1, Option.bind_some, mh_p12, Option.bind_some]
end M10
