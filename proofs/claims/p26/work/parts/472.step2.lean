/-! isStep: take, aim, wash, wind -/
section SP2
variable {x y : Nat} {A B : Nat → Int32} {H G : List (Nat → Int32)} {s : Hp} {d d' : Int}
theorem rg_no {n : Nat} (hn : n < 1000) : ¬ rng (nI n) 0 ((n : Int) - 1) := by
  unfold rng
  rw [nI_toInt (by omega)]
  omega
theorem nI_inj {a b : Nat} (ha : a < 1000) (hb : b < 1000) (h : nI a = nI b) : a = b := by
  rw [pu_eq, nI_toInt (by omega), nI_toInt (by omega)] at h
  omega
theorem Mr.cast {n m : Nat} (h : Mr A B n) (e : n = m) : Mr A B m := e ▸ h
theorem st_take (hxy : x + 184 ≤ y ∨ y + 184 ≤ x) (h : PD x y d A B H G s) {m : Nat} (hm : m ≤ nO A) (hd : d ≤ d') {R : Int32 → Int32 → Hp → Option (Int32 × Hp)} (hR : ∀ v s', R v v s' = some (1, s')) : ∃ v s1 s2, D_X9_take x (nI m) s = some (v, s1) ∧ D_X9_take y (nI m) s1 = some (v, s2) ∧ (if nI m = nI (nO A) then R (-1) v s2 else R (nI (nO A) - 1) v s2) = some (1, s2) ∧ PI2 x y d' s2 := by
  have hS := h.1
  have hM := h.2.1
  have hn := hS.ws.2
  have h3 := h.2.2.2.1
  obtain ⟨s1, e1, h1⟩ := q_take hS (nI m)
  obtain ⟨s2, e2, h2⟩ := r_take hxy h1 (nI m)
  rw [m_nO hM] at e2 h2
  by_cases c : m = nO A
  · have ea : ∀ C, takO C (nO A) (nI m) = (-1, C) := fun C => by
      unfold takO
      rw [c, if_pos (rg_no (by omega))]
    rw [ea] at e1 h2 e2
    rw [ea] at h2
    refine ⟨-1, s1, s2, e1, e2, ?_, h.ed h2 hM (by show (A 3).toInt ≤ d'; omega) hd⟩
    rw [if_pos (by rw [c])]
    exact hR _ _
  · have hmn : m < nO A := by omega
    have ea : ∀ C, takO C (nO A) (nI m) = (nI (nO A - 1), takeA C (nO A) m) := fun C => by
      unfold takO
      rw [if_neg (fun q => q (rg_n hmn (by omega))), tn_n (by omega)]
    rw [ea] at e1 h2 e2
    rw [ea] at h2
    have enO : nO (takeA A (nO A) m) = nO A - 1 := nO_nI takeA_6 (by omega)
    refine ⟨nI (nO A - 1), s1, s2, e1, e2, ?_, h.ed h2 (by dsimp only; rw [enO]; exact m_takeA hM hmn) (by dsimp only; rw [takeA_lo (by omega)]; omega) hd⟩
    rw [if_neg (fun q => c (nI_inj (by omega) (by omega) q))]
    have ep : nI (nO A) - 1 = nI (nO A - 1) := by
      obtain ⟨k, hk⟩ : ∃ k, nO A = k + 1 := ⟨nO A - 1, by omega⟩
      rw [hk]
      exact nI_pred _
    rw [ep]
    exact hR _ _
theorem st_aim (hxy : x + 184 ≤ y ∨ y + 184 ≤ x) (h : PD x y d A B H G s) {m a : Nat} (hm : m ≤ nO A) (ha : a < 4) (hd : d ≤ d') : ∃ o v s0 s1 s2 s3, D_X9_of x (nI m) 2 s = some (o, s0) ∧ D_X9_aim x (nI m) (nI a) s0 = some (v, s1) ∧ D_X9_aim y (nI m) (nI a) s1 = some (v, s2) ∧ (if nI m = nI (nO A) then D_L_isStep_b392 x (nI (nO A)) (nI m) (nI a) (-1) v s2 else D_L_isStep_b392 x (nI (nO A)) (nI m) (nI a) o v s2) = some (1, s3) ∧ PI2 x y d' s3 := by
  have hS := h.1
  have hM := h.2.1
  have hn := hS.ws.2
  have h3 := h.2.2.2.1
  have har : rng (nI a) 0 3 := rg_c (m := 3) (by omega) (by omega)
  obtain ⟨s0, e0, h0⟩ := q_of hS (nI m) 2
  obtain ⟨s1, e1, h1⟩ := q_aim h0 (nI m) (nI a)
  obtain ⟨s2, e2, h2⟩ := r_aim hxy h1 (nI m) (nI a)
  rw [m_nO hM] at e2 h2
  by_cases c : m = nO A
  · have ea : ∀ C, aimO C (nO A) (nI m) (nI a) = (-1, C) := fun C => by
      unfold aimO
      rw [c, if_pos (rg_no (by omega))]
    rw [ea] at e1 h2 e2
    rw [ea] at h2
    refine ⟨_, -1, s0, s1, s2, s2, e0, e1, e2, ?_, h.ed h2 hM (by show (A 3).toInt ≤ d'; omega) hd⟩
    rw [if_pos (by rw [c])]
    unfold D_L_isStep_b392
    rw [if_pos rfl, if_pos (by rw [c]), retZ_1]
  · have hmn : m < nO A := by omega
    have ea : ∀ C, aimO C (nO A) (nI m) (nI a) = (gA C m 2, upd C (7 + 5 * m + 2) (nI a)) := fun C => by
      unfold aimO
      rw [if_neg (fun q => q (rg_n hmn (by omega))), if_neg (fun q => q har), tn_n (by omega)]
    rw [ea] at e1 h2 e2
    rw [ea] at h2
    rw [of_2 hmn (by omega)] at e0
    dsimp only at e1 e2
    rw [(hM.2 m hmn).2.2.1] at e2
    have h2 : St x y (upd A (7 + 5 * m + 2) (nI a)) (endH (gA A m 2) H A) (upd B (7 + 5 * m + 2) (nI a)) (endH (gA A m 2) G B) s2 := by
      have := h2
      dsimp only at this
      rw [(hM.2 m hmn).2.2.1] at this
      exact this
    have enO : nO (upd A (7 + 5 * m + 2) (nI a)) = nO A := by unfold nO; rw [upd_ne (by omega)]
    obtain ⟨s3, e3, h3'⟩ := q_of h2 (nI m) 2
    rw [enO, of_2 hmn (by omega), gA_upd_eq] at e3
    refine ⟨_, gA A m 2, s0, s1, s2, s3, e0, e1, e2, ?_, h.ed h3' (by rw [enO]; exact m_fld hM (Or.inl rfl) _) (by rw [upd_ne (by omega)]; omega) hd⟩
    have hne : ¬ nI m = nI (nO A) := fun q => c (nI_inj (by omega) (by omega) q)
    rw [if_neg hne]
    unfold D_L_isStep_b392
    rw [if_pos rfl, if_neg hne, e3, bd_some, if_pos rfl, retZ_1]
theorem st_wash (hxy : x + 184 ≤ y ∨ y + 184 ≤ x) (h : PD x y d A B H G s) {m : Nat} (hm : m ≤ nO A) (hd : d ≤ d') : ∃ o v s0 s1 s2, D_X9_of x (nI m) 3 s = some (o, s0) ∧ D_X9_wash x (nI m) s0 = some (v, s1) ∧ D_X9_wash y (nI m) s1 = some (v, s2) ∧ (if nI m = nI (nO A) then D_L_isStep_b463 (-1) v s2 else D_L_isStep_b463 o v s2) = some (1, s2) ∧ PI2 x y d' s2 := by
  have hS := h.1
  have hM := h.2.1
  have hn := hS.ws.2
  have h3 := h.2.2.2.1
  obtain ⟨s0, e0, h0⟩ := q_of hS (nI m) 3
  obtain ⟨s1, e1, h1⟩ := q_wash h0 (nI m)
  obtain ⟨s2, e2, h2⟩ := r_wash hxy h1 (nI m)
  rw [m_nO hM] at e2 h2
  by_cases c : m = nO A
  · have ea : ∀ C, wasO C (nO A) (nI m) = (-1, C) := fun C => by
      unfold wasO
      rw [c, if_pos (rg_no (by omega))]
    rw [ea] at e1 h2 e2
    rw [ea] at h2
    refine ⟨_, -1, s0, s1, s2, e0, e1, e2, ?_, h.ed h2 hM (by show (A 3).toInt ≤ d'; omega) hd⟩
    rw [if_pos (by rw [c])]
    unfold D_L_isStep_b463
    rw [if_pos rfl, retZ_1]
  · have hmn : m < nO A := by omega
    have ea : ∀ C, wasO C (nO A) (nI m) = (gA C m 3, upd C (7 + 5 * m + 3) 0) := fun C => by
      unfold wasO
      rw [if_neg (fun q => q (rg_n hmn (by omega))), tn_n (by omega)]
    rw [ea] at e1 h2 e2
    rw [ea] at h2
    rw [of_3 hmn (by omega)] at e0
    dsimp only at e1 e2
    rw [(hM.2 m hmn).2.2.2.1] at e2
    have h2 : St x y (upd A (7 + 5 * m + 3) 0) (endH (gA A m 3) H A) (upd B (7 + 5 * m + 3) 0) (endH (gA A m 3) G B) s2 := by
      have := h2
      dsimp only at this
      rw [(hM.2 m hmn).2.2.2.1] at this
      exact this
    have enO : nO (upd A (7 + 5 * m + 3) 0) = nO A := by unfold nO; rw [upd_ne (by omega)]
    refine ⟨_, gA A m 3, s0, s1, s2, e0, e1, e2, ?_, h.ed h2 (by rw [enO]; exact m_fld hM (Or.inr rfl) _) (by rw [upd_ne (by omega)]; omega) hd⟩
    have hne : ¬ nI m = nI (nO A) := fun q => c (nI_inj (by omega) (by omega) q)
    rw [if_neg hne]
    unfold D_L_isStep_b463
    rw [if_pos rfl, retZ_1]
theorem brings_flat {n : Nat} (hW : WF A n) (hf : flat A = true) : brings A n = 0 := by
  unfold brings
  rw [bringsF_sum]
  refine sumF_0 11 (fun h hh => ?_)
  have hz : ∀ a, a < 4 → (looks A n h).1 a = 0 := fun a ha => by
    rw [lk_sum hW hh ha]
    refine sumF_0 n (fun k hk => ?_)
    unfold aS
    rw [gv_dark (Or.inl hf)]
    split <;> rfl
  rw [lk_all hW hh, hz 0 (by omega), hz 1 (by omega), hz 2 (by omega), hz 3 (by omega)]
  rfl
theorem st_489 (hxy : x + 184 ≤ y ∨ y + 184 ≤ x) (h : PD x y d A B H G s) {m v : Int32} {q : Nat} (hm : m.toInt = (q : Int)) (hq : 0 < q) (hq2 : q ≤ 100) (hd : d ≤ d') : ∃ s', D_L_isStep_b489 x y m v s = some (1, s') ∧ PI2 x y d' s' := by
  have hS := h.1
  have hM := h.2.1
  have h3 := h.2.2.2.1
  obtain ⟨w, hw, e0⟩ := up_n (a := v) (b := m) (n := q) hm hq s
  have hwr : rng (nI w) 0 99 := rg_c (m := 99) (by omega) (by omega)
  obtain ⟨s1, e1, h1⟩ := q_wind hS (nI w)
  obtain ⟨s2, e2, h2⟩ := r_wind hxy h1 (nI w)
  have hM' := m_set hM (j := 4) (by omega) (nI w)
  have ea : ∀ C, winO C (nI w) = (bI (flat (upd C 4 (nI w))), upd C 4 (nI w)) := fun C => by
    unfold winO
    rw [if_neg (fun q => q hwr)]
  rw [ea] at e1 h2 e2
  rw [ea, m_flat hM'] at h2
  rw [m_flat hM'] at e2
  have enO : nO (upd A 4 (nI w)) = nO A := by unfold nO; rw [upd_ne (by omega)]
  obtain ⟨s3, e3, h3'⟩ := q_count9 h2
  dsimp only at e3
  rw [upd_ne (by omega)] at e3
  have hfl : flat (upd A 4 (nI w)) = decide (A 1 < nI w) := by
    unfold flat
    rw [upd_eq, upd_ne (by omega)]
  have hPI : ∀ s4, St x y (upd A 4 (nI w)) (endH (bI (flat (upd A 4 (nI w)))) H A) (upd B 4 (nI w)) (endH (bI (flat (upd A 4 (nI w)))) G B) s4 → PI2 x y d' s4 := fun s4 h4 => h.ed h4 (by rw [enO]; exact hM') (by rw [upd_ne (by omega)]; omega) hd
  by_cases c : A 1 < nI w
  · have hf : flat (upd A 4 (nI w)) = true := by rw [hfl]; exact decide_eq_true c
    obtain ⟨s4, e4, h4⟩ := q_count5 h3'
    dsimp only at e4
    rw [brings_flat h3'.ws.1 hf] at e4
    refine ⟨s4, ?_, hPI s4 h4⟩
    unfold D_L_isStep_b489
    rw [e0, bd_some, e1, bd_some, e2, bd_some, if_pos rfl, e3, bd_some, if_neg (show ¬ nI w ≤ A 1 by rw [pu_lt] at c; rw [pu_le]; omega), hf]
    unfold D_L_isStep_b531
    rw [if_pos (show bI true = 1 from rfl), if_neg (show ¬ bI true = 0 by decide), e4, bd_some, if_pos rfl, retZ_1]
  · have hf : flat (upd A 4 (nI w)) = false := by rw [hfl]; exact decide_eq_false c
    refine ⟨s3, ?_, hPI s3 h3'⟩
    unfold D_L_isStep_b489
    rw [e0, bd_some, e1, bd_some, e2, bd_some, if_pos rfl, e3, bd_some, if_pos (show nI w ≤ A 1 by rw [pu_lt] at c; rw [pu_le]; omega), hf]
    unfold D_L_isStep_b531
    rw [if_pos (show bI false = 0 from rfl), if_pos (show bI false = 0 from rfl), retZ_1]
end SP2
