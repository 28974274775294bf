/-! isStep: set, pass, undo -/
section SP3
variable {x y : Nat} {A B : Nat → Int32} {H G : List (Nat → Int32)} {s : Hp} {d d' : Int}
theorem st_602 (hxy : x + 184 ≤ y ∨ y + 184 ≤ x) (h : PD x y d A B H G s) {t v : Int32} (hv : (t = 0 ∧ rng v 1 9999) ∨ (t = 1 ∧ rng v 1 99) ∨ (t = 2 ∧ rng v 0 20)) (hd : d ≤ d') : ∃ s', D_L_isStep_b602 x y t v s = some (1, s') ∧ PI2 x y d' s' := by
  have hS := h.1
  have hM := h.2.1
  have h3 := h.2.2.2.1
  obtain ⟨s1, e1, h1⟩ := q_set hS t v
  obtain ⟨s2, e2, h2⟩ := r_set hxy h1 t v
  have ea : ∀ C, setO C t v = (C t.toInt.toNat, upd C t.toInt.toNat v) := fun C => by
    unfold setO
    rw [if_pos hv]
  rw [ea] at e1 h2 e2
  rw [ea] at h2
  have ht : t.toInt.toNat < 3 := by rcases hv with ⟨q, -⟩ | ⟨q, -⟩ | ⟨q, -⟩ <;> rw [q] <;> decide
  dsimp only at e1 e2 h2
  rw [hM.1 _ (by omega)] at e2 h2
  have enO : nO (upd A t.toInt.toNat v) = nO A := by unfold nO; rw [upd_ne (by omega)]
  have hcnt : ∃ s3, D_X9_count x (8 + t) s2 = some (v, s3) ∧ St x y (upd A t.toInt.toNat v) (endH (A t.toInt.toNat) H A) (upd B t.toInt.toNat v) (endH (A t.toInt.toNat) G B) s3 := by
    rcases hv with ⟨q, -⟩ | ⟨q, -⟩ | ⟨q, -⟩
    · subst q
      obtain ⟨s3, e3, h3'⟩ := q_count8 h2
      rw [show upd A (0 : Int32).toInt.toNat v 0 = v from upd_eq] at e3
      exact ⟨s3, e3, h3'⟩
    · subst q
      obtain ⟨s3, e3, h3'⟩ := q_count9 h2
      rw [show upd A (1 : Int32).toInt.toNat v 1 = v from upd_eq] at e3
      exact ⟨s3, e3, h3'⟩
    · subst q
      obtain ⟨s3, e3, h3'⟩ := q_count10 h2
      rw [show upd A (2 : Int32).toInt.toNat v 2 = v from upd_eq] at e3
      exact ⟨s3, e3, h3'⟩
  obtain ⟨s3, e3, h3'⟩ := hcnt
  refine ⟨s3, ?_, h.ed h3' (by rw [enO]; exact m_set hM (by omega) v) (by rw [upd_ne (by omega)]; omega) hd⟩
  unfold D_L_isStep_b602
  rw [e1, bd_some, e2, bd_some, if_pos rfl, e3, bd_some, if_pos rfl, retZ_1]
theorem st_553 (hxy : x + 184 ≤ y ∨ y + 184 ≤ x) (h : PD x y d A B H G s) {v z : Int32} (hd : d ≤ d') : ∃ s', D_L_isStep_b553 x y v z s = some (1, s') ∧ PI2 x y d' s' := by
  obtain ⟨t, ht, e0⟩ := up_n (a := z) (b := 3) (n := 3) rfl (by omega) s
  unfold D_L_isStep_b553
  rw [e0, bd_some]
  by_cases c0 : nI t = 0
  · obtain ⟨k, hk, e1⟩ := up_n (a := v) (b := 300) (n := 300) rfl (by omega) s
    rw [if_pos c0, e1, bd_some]
    refine st_602 hxy h (Or.inl ⟨c0, ?_⟩) hd
    unfold rng
    rw [i_add (by rw [nI_toInt (by omega), show (1 : Int32).toInt = 1 from rfl]; omega) (by rw [nI_toInt (by omega), show (1 : Int32).toInt = 1 from rfl]; omega), nI_toInt (by omega), show (1 : Int32).toInt = 1 from rfl]
    omega
  · rw [if_neg c0]
    by_cases c1 : nI t = 1
    · obtain ⟨k, hk, e1⟩ := up_n (a := v) (b := 80) (n := 80) rfl (by omega) s
      rw [if_pos c1, e1, bd_some]
      refine st_602 hxy h (Or.inr (Or.inl ⟨c1, ?_⟩)) hd
      unfold rng
      rw [i_add (by rw [nI_toInt (by omega), show (20 : Int32).toInt = 20 from rfl]; omega) (by rw [nI_toInt (by omega), show (20 : Int32).toInt = 20 from rfl]; omega), nI_toInt (by omega), show (20 : Int32).toInt = 20 from rfl]
      omega
    · obtain ⟨k, hk, e1⟩ := up_n (a := v) (b := 21) (n := 21) rfl (by omega) s
      rw [if_neg c1, e1, bd_some]
      have c2 : nI t = 2 := by
        have z0 : (0 : Int32).toInt = 0 := rfl
        have z1 : (1 : Int32).toInt = 1 := rfl
        have z2 : (2 : Int32).toInt = 2 := rfl
        rw [pu_eq, nI_toInt (by omega)] at c0 c1
        rw [pu_eq, nI_toInt (by omega)]
        omega
      exact st_602 hxy h (Or.inr (Or.inr ⟨c2, rg_c (m := 20) (by omega) (by omega)⟩)) hd
/-! days -/
theorem days_sum {n : Nat} (hW : WF A n) : ∀ k : Nat, k ≤ 99 → (A 3).toInt + k ≤ 999 → ∃ t : Int32, daysA A n k 5 = A 5 + t ∧ 0 ≤ t.toInt ∧ t.toInt ≤ 16500 * k
  | 0, _, _ => ⟨0, (Int32.add_zero _).symm, by decide, by decide⟩
  | k + 1, hk, h3 => by
    obtain ⟨t, h1, h2, h3'⟩ := days_sum hW k (by omega) (by omega)
    have hWk := (daysA_WF hW k (by omega)).1
    have hb := brings_bd hWk 11 (Nat.le_refl _)
    refine ⟨t + brings (daysA A n k) n, ?_, ?_⟩
    · rw [daysA, dayA_5, h1, Int32.add_assoc]
    · have hb2 : 0 ≤ (brings (daysA A n k) n).toInt ∧ (brings (daysA A n k) n).toInt ≤ 1500 * 11 := hb
      rw [i_add (by omega) (by omega)]
      omega
theorem asub (a t : Int32) : a + t - a = t := by grind
theorem add_sb (a b : Int32) : b = a + (b - a) := by grind
theorem st_660 (hxy : x + 184 ≤ y ∨ y + 184 ≤ x) (h : PD x y d A B H G s) {m v : Int32} {q : Nat} (hm : m.toInt = (q : Int)) (hq : 0 < q) (hq2 : q ≤ 15) (hd : d + 15 ≤ d') (hd2 : d' ≤ 999) : ∃ s', D_L_isStep_b660 x y (brings A (nO A)) m v 1 s = some (1, s') ∧ PI2 x y d' s' := by
  have hS := h.1
  have hM := h.2.1
  have h3 := h.2.2.2.1
  have hW := hS.ws
  obtain ⟨k, hk, e0⟩ := up_n (a := v) (b := m) (n := q) hm hq s
  have ek : (1 : Int32) + nI k = nI (k + 1) := by
    rw [show (1 : Int32) = nI 1 from rfl, nI_add, Nat.add_comm]
  have hA3 := hW.1.2.2.2.2.2.2.1
  have hkr : rng (nI (k + 1)) 1 99 := by
    unfold rng
    rw [nI_toInt (by omega)]
    omega
  obtain ⟨s1, e1, h1⟩ := q_count4 hS
  obtain ⟨s2, e2, h2⟩ := q_pass h1 (nI (k + 1))
  obtain ⟨s3, e3, h3'⟩ := r_pass hxy h2 (nI (k + 1))
  have ea : ∀ C, C 3 = A 3 → pasO C (nO A) (nI (k + 1)) = (daysA C (nO A) (k + 1) 5 - C 5, daysA C (nO A) (k + 1)) := fun C hC => by
    unfold pasO
    rw [if_neg (fun q => q hkr), hC, if_neg (by rw [nI_toInt (by omega)]; omega), tn_n (by omega)]
  have hM' := m_days hM (k + 1)
  rw [m_nO hM] at e3 h3'
  rw [ea A rfl] at e2 h3'
  rw [ea B (hM.1 3 (by omega))] at e3 h3'
  obtain ⟨t, t1, t2, t3⟩ := days_sum hW.1 (k + 1) (by omega) (by omega)
  dsimp only at e2 e3 h3'
  rw [hM'.1 5 (by omega), hM.1 5 (by omega)] at e3 h3'
  obtain ⟨hWd, h3d⟩ := daysA_WF hW.1 (k + 1) (by omega)
  have enO : nO (daysA A (nO A) (k + 1)) = nO A := nO_nI hWd.1.2 (by have := hW.2; omega)
  obtain ⟨s4, e4, h4⟩ := q_count4 h3'
  refine ⟨s4, ?_, h.ed h4 (by rw [enO]; exact hM') (by rw [h3d]; omega) (by omega)⟩
  unfold D_L_isStep_b660
  rw [e0, bd_some, nm_eq, ek, e1, bd_some, e2, bd_some, e3, bd_some, if_pos rfl, e4, bd_some, if_pos (add_sb _ _), if_neg (show ¬ daysA A (nO A) (k + 1) 5 - A 5 < 0 by rw [t1, asub, pu_lt, show (0 : Int32).toInt = 0 from rfl]; omega)]
  by_cases c : (1 : Int32) < nI (k + 1)
  · rw [if_pos c, retZ_1]
  · have hk0 : k = 0 := by
      rw [pu_lt, nI_toInt (by omega), show (1 : Int32).toInt = 1 from rfl] at c
      omega
    subst hk0
    rw [if_neg c, if_pos, retZ_1]
    show daysA A (nO A) 1 5 - A 5 = _
    rw [show daysA A (nO A) 1 = dayA A (nO A) from rfl, dayA_5, asub]
theorem st_643 (hxy : x + 184 ≤ y ∨ y + 184 ≤ x) (h : PD x y d A B H G s) {v z : Int32} (hd : d + 15 ≤ d') (hd2 : d' ≤ 999) : ∃ s', D_L_isStep_b643 x y v z (brings A (nO A)) s = some (1, s') ∧ PI2 x y d' s' := by
  obtain ⟨t, ht, e0⟩ := up_n (a := z) (b := 3) (n := 3) rfl (by omega) s
  unfold D_L_isStep_b643
  rw [e0, bd_some]
  by_cases c : nI t = 0
  · rw [if_pos c]
    exact st_660 hxy h (q := 15) rfl (by omega) (by omega) hd hd2
  · rw [if_neg c]
    exact st_660 hxy h (q := 2) rfl (by omega) (by omega) hd hd2
/-! undo, found -/
theorem st_undo (hxy : x + 184 ≤ y ∨ y + 184 ≤ x) (h : PD x y d A B H G s) (hd : d ≤ d') {R : Int32 → Int32 → Hp → Option (Int32 × Hp)} (hR : ∀ v s', R v v s' = some (1, s')) : ∃ s', (bd (D_X9_count x (12 : Int32) s) fun i180 s181 =>
    if i180 = 0 then
    retZ (1 : Int32) ((1 : Int32), s181)
    else
    bd (D_X9_undo x s181) fun i182 s183 =>
    bd (D_X9_undo y s183) fun i184 s185 =>
    R i182 i184 s185) = some (1, s') ∧ PI2 x y d' s' := by
  have hS := h.1
  have hl := hS.hlen
  obtain ⟨s1, e1, h1⟩ := q_count12 hS
  rcases List.eq_nil_or_concat H with e | ⟨H0, C, e⟩
  · subst e
    refine ⟨s1, ?_, h.to h1 hd⟩
    rw [e1, bd_some, if_pos (show nI ([] : List (Nat → Int32)).length = 0 from rfl), retZ_1]
  · have e : H = H0 ++ [C] := by rw [e]; simp
    subst e
    obtain ⟨G0, D, g1, g2, g3⟩ := MH.last h.2.2.1
    subst g1
    obtain ⟨s2, e2, h2⟩ := q_undo h1
    obtain ⟨s3, e3, h3⟩ := r_undo hxy h2
    rw [g2.len] at e3
    have hlen : (H0 ++ [C]).length = H0.length + 1 := by rw [List.length_append]; rfl
    refine ⟨s3, ?_, C, D, H0, G0, h3, g3, g2, ?_, fun C' hC => ?_⟩
    · rw [e1, bd_some, if_neg (show ¬ nI (H0 ++ [C]).length = 0 by rw [pu_eq, nI_toInt (by omega), show (0 : Int32).toInt = 0 from rfl]; omega), e2, bd_some, e3, bd_some]
      exact hR _ _
    · have := h.2.2.2.2 C (List.mem_append_right _ (List.mem_singleton.mpr rfl))
      omega
    · have := h.2.2.2.2 C' (List.mem_append_left _ hC)
      omega
theorem st_found (hxy : x + 184 ≤ y ∨ y + 184 ≤ x) (h : PD x y d A B H G s) {v : Int32} (hd : d ≤ d') : ∃ s', (bd (D_L_up v (20 : Int32) s) fun i186 s187 =>
    bd (D_L_up (v >>> ((6 : Int32) &&& 31)) (4 : Int32) s187) fun i188 s189 =>
    bd (D_L_isFound x y i186 i188 s189) fun i190 s191 =>
    retZ i190 (i190, s191)) = some (1, s') ∧ PI2 x y d' s' := by
  obtain ⟨r, hr, e0⟩ := up_n (a := v) (b := 20) (n := 20) rfl (by omega) s
  obtain ⟨a, ha, e1⟩ := up_n (a := v >>> ((6 : Int32) &&& 31)) (b := 4) (n := 4) rfl (by omega) s
  obtain ⟨s', H', G', e2, h2, h3⟩ := fo_all hxy h.2.1 hr ha h.1
  refine ⟨s', ?_, ?_⟩
  · rw [e0, bd_some, e1, bd_some, e2, bd_some, retZ_1]
  · rcases h3 with ⟨q1, q2⟩ | ⟨q1, q2⟩
    · subst q1; subst q2
      exact h.to h2 hd
    · subst q1; subst q2
      exact ⟨A, B, _, _, h2, h.2.1, h.2.2.1.pop1, by have := h.2.2.2.1; omega, fun C hC => by have := h.2.2.2.2 C (pop_mem hC); omega⟩
end SP3
