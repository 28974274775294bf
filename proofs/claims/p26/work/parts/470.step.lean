/-! isStep: what holds between steps; mirror, take, aim, wash -/
def PD (x y : Nat) (d : Int) (A B : Nat → Int32) (H G : List (Nat → Int32)) (s : Hp) : Prop := St x y A H B G s ∧ Mr A B (nO A) ∧ MH H G ∧ (A 3).toInt ≤ d ∧ ∀ C, C ∈ H → (C 3).toInt ≤ d
def PI2 (x y : Nat) (d : Int) (s : Hp) : Prop := ∃ A B H G, PD x y d A B H G s
theorem ss20 (c : Int32) : 20 - (20 - c) = c := by grind
section SP
variable {x y : Nat} {A B A' B' : Nat → Int32} {H G : List (Nat → Int32)} {s s' : Hp} {d d' : Int}
theorem PD.to (h : PD x y d A B H G s) (h' : St x y A H B G s') (hd : d ≤ d') : PI2 x y d' s' := ⟨A, B, H, G, h', h.2.1, h.2.2.1, by have := h.2.2.2.1; omega, fun C hC => by have := h.2.2.2.2 C hC; omega⟩
theorem PD.ed {v : Int32} (h : PD x y d A B H G s) (h' : St x y A' (endH v H A) B' (endH v G B) s') (hM : Mr A' B' (nO A')) (h3 : (A' 3).toInt ≤ d') (hd : d ≤ d') : PI2 x y d' s' := by
  refine ⟨A', B', _, _, h', hM, h.2.2.1.ends h.2.1 v, h3, fun C hC => ?_⟩
  by_cases c : v.toInt < 0
  · rw [endH_n c] at hC
    have := h.2.2.2.2 C hC
    omega
  · rw [endH_y (by omega)] at hC
    rcases List.mem_append.mp hC with q | q
    · have := h.2.2.2.2 C (pop_mem q)
      omega
    · rw [List.mem_singleton.mp q]
      have := h.2.2.2.1
      omega
theorem st_158 (hxy : x + 184 ≤ y ∨ y + 184 ≤ x) (h : PD x y d A B H G s) {v row col : Int32} (hr : rng row 0 19) (hc : rng col 1 19) (hd : d ≤ d') : ∃ s', D_L_isStep_b158 x y v (nI (nO A)) row col s = some (1, s') ∧ PI2 x y d' s' := by
  have hS := h.1
  have hM := h.2.1
  have hW := hS.ws
  have hn := hW.2
  have h3 := h.2.2.2.1
  have z0 : (0 : Int32).toInt = 0 := rfl
  have hc0 : rng col 0 19 := ⟨by have := hc.1; omega, hc.2⟩
  have hc2 : rng (20 - col) 0 19 := by
    have e : (20 - col).toInt = 20 - col.toInt := by
      rw [i_sub (by rw [show (20 : Int32).toInt = 20 from rfl]; have := hc.1; have := hc.2; omega) (by rw [show (20 : Int32).toInt = 20 from rfl]; have := hc.1; have := hc.2; omega)]
      rfl
    unfold rng
    rw [e]
    have := hc.1
    have := hc.2
    omega
  obtain ⟨a, ha, e0⟩ := up_n (a := v >>> ((9 : Int32) &&& 31)) (b := 4) (n := 4) rfl (by omega) s
  have har : rng (nI a) 0 3 := rg_c (m := 3) (by omega) (by omega)
  obtain ⟨s1, e1, h1⟩ := q_in hS row col
  have ein : inO A (nO A) row col = oI (mAt A (nO A) row col) := by
    unfold inO
    rw [if_pos ⟨hr, hc0⟩]
  rw [ein] at e1
  obtain ⟨s2, e2, h2⟩ := q_mirror h1 row col (nI a)
  obtain ⟨s3, e3, h3'⟩ := r_mirror hxy h2 row (20 - col) (nI a)
  have emB : mAt B (nO B) row (20 - col) = mAt A (nO A) row col := by rw [m_nO hM, m_mAt hM, ss20]
  cases hm : mAt A (nO A) row col with
  | some j =>
    have hj := (mAt_lt hm).1
    rw [mir_np hr hc0 har (by rw [hm]; exact fun q => (by cases q))] at e2 h2 h3'
    rw [mir_np hr hc2 har (by rw [emB, hm]; exact fun q => (by cases q))] at e3 h3'
    refine ⟨s3, ?_, h.ed h3' hM (by show (A 3).toInt ≤ d'; omega) hd⟩
    rw [hm] at e1
    unfold D_L_isStep_b158
    rw [e0, bd_some, e1, bd_some, e2, bd_some, e3, bd_some, if_pos rfl, if_neg (show ¬ oI (some j) < 0 from nI_nl0 (by omega))]
    unfold D_L_isStep_b236
    rw [if_pos (show (-5 : Int32) = -5 from rfl), if_pos (show (-5 : Int32) < 0 by decide), retZ_1]
  | none =>
    rw [hm] at e1
    by_cases c24 : nO A = 24
    · rw [mir_tm hr hc0 har hm c24] at e2 h2 h3'
      rw [mir_tm hr hc2 har (by rw [emB, hm]) (by rw [m_nO hM]; exact c24)] at e3 h3'
      refine ⟨s3, ?_, h.ed h3' hM (by show (A 3).toInt ≤ d'; omega) hd⟩
      unfold D_L_isStep_b158
      rw [e0, bd_some, e1, bd_some, e2, bd_some, e3, bd_some, if_pos rfl, if_pos (show oI none < 0 by decide), if_pos (show nI (nO A) = 24 by rw [c24]; rfl)]
      unfold D_L_isStep_b236
      rw [if_pos (show (-4 : Int32) = -4 from rfl), if_pos (show (-4 : Int32) < 0 by decide), retZ_1]
    · rw [mir_ok hr hc0 har hm c24] at e2 h2 h3'
      rw [mir_ok hr hc2 har (by rw [emB, hm]) (by rw [m_nO hM]; exact c24), m_nO hM] at e3 h3'
      have enO : nO (putA A (nO A) row col (nI a)) = nO A + 1 := nO_put hn
      have hW3 := h3'.ws
      dsimp only at hW3 e2 e3
      rw [enO] at hW3
      obtain ⟨s4, e4, h4⟩ := q_in h3' row col
      dsimp only at e4
      rw [enO] at e4
      have es := in_self hW3.1 (show nO A < nO A + 1 by omega)
      rw [putA_0, putA_1] at es
      rw [es] at e4
      obtain ⟨s5, e5, h5⟩ := q_of h4 (nI (nO A)) 3
      dsimp only at e5
      rw [enO, of_3 (by omega) (by omega), putA_3] at e5
      obtain ⟨s6, e6, h6⟩ := q_of h5 (nI (nO A)) 5
      dsimp only at e6
      rw [enO, of_5 (by omega) (by omega), putA_4] at e6
      refine ⟨s6, ?_, h.ed h6 (by dsimp only; rw [enO]; exact m_putA hM _ _ _) (by dsimp only; rw [putA_lo (by omega)]; omega) hd⟩
      unfold D_L_isStep_b158
      rw [e0, bd_some, e1, bd_some, e2, bd_some, e3, bd_some, if_pos rfl, if_pos (show oI none < 0 by decide), if_neg (show ¬ nI (nO A) = 24 by rw [pu_eq, nI_toInt (by omega), show (24 : Int32).toInt = 24 from rfl]; omega)]
      unfold D_L_isStep_b236
      rw [if_pos rfl, if_neg (nI_nl0 (by omega)), e4, bd_some, if_pos rfl, e5, bd_some, if_pos rfl, e6, bd_some, if_pos rfl, retZ_1]
theorem st_104 (hxy : x + 184 ≤ y ∨ y + 184 ≤ x) (h : PD x y d A B H G s) {v z : Int32} (hd : d ≤ d') : ∃ s', D_L_isStep_b104 x y v z (nI (nO A)) s = some (1, s') ∧ PI2 x y d' s' := by
  have go : ∀ (m : Int32) (q : Nat), m.toInt = (q : Int) → 0 < q → q ≤ 20 → ∃ s', D_L_isStep_b121 x y v z (nI (nO A)) m v s = some (1, s') ∧ PI2 x y d' s' := by
    intro m q hm hq hq20
    obtain ⟨r, hr, e1⟩ := up_n (a := v) (b := m) (n := q) hm hq s
    obtain ⟨t, ht, e2⟩ := up_n (a := z) (b := 2) (n := 2) rfl (by omega) s
    have hrr : rng (nI r) 0 19 := rg_c (m := 19) (by omega) (by omega)
    by_cases c : nI t = 0
    · obtain ⟨k, hk, e3⟩ := up_n (a := v >>> ((5 : Int32) &&& 31)) (b := 19) (n := 19) rfl (by omega) s
      have hkr : rng (1 + nI k) 1 19 := by
        unfold rng
        rw [i_add (by rw [nI_toInt (by omega), show (1 : Int32).toInt = 1 from rfl]; omega) (by rw [nI_toInt (by omega), show (1 : Int32).toInt = 1 from rfl]; omega), nI_toInt (by omega), show (1 : Int32).toInt = 1 from rfl]
        omega
      obtain ⟨s', e4, h4⟩ := st_158 hxy h (v := v) hrr hkr hd
      refine ⟨s', ?_, h4⟩
      unfold D_L_isStep_b121
      rw [e1, bd_some, e2, bd_some, if_pos c, e3, bd_some]
      exact e4
    · obtain ⟨k, hk, e3⟩ := up_n (a := v >>> ((5 : Int32) &&& 31)) (b := 5) (n := 5) rfl (by omega) s
      have hkr : rng (8 + nI k) 1 19 := by
        unfold rng
        rw [i_add (by rw [nI_toInt (by omega), show (8 : Int32).toInt = 8 from rfl]; omega) (by rw [nI_toInt (by omega), show (8 : Int32).toInt = 8 from rfl]; omega), nI_toInt (by omega), show (8 : Int32).toInt = 8 from rfl]
        omega
      obtain ⟨s', e4, h4⟩ := st_158 hxy h (v := v) hrr hkr hd
      refine ⟨s', ?_, h4⟩
      unfold D_L_isStep_b121
      rw [e1, bd_some, e2, bd_some, if_neg c, e3, bd_some]
      exact e4
  obtain ⟨t, ht, e2⟩ := up_n (a := z) (b := 2) (n := 2) rfl (by omega) s
  unfold D_L_isStep_b104
  rw [e2, bd_some]
  by_cases c : nI t = 0
  · rw [if_pos c]
    exact go 20 20 rfl (by omega) (by omega)
  · rw [if_neg c]
    exact go 7 7 rfl (by omega) (by omega)
end SP
