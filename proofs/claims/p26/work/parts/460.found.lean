/-! isFound -/
def pop (H : List (Nat → Int32)) : List (Nat → Int32) := if H.length = 6 then H.drop 1 else H
theorem endH_y {v : Int32} {H : List (Nat → Int32)} {A : Nat → Int32} (h : 0 ≤ v.toInt) : endH v H A = pop H ++ [A] := by
  unfold endH
  rw [if_pos (show (0 : Int32) ≤ v by rw [pu_le, show (0 : Int32).toInt = 0 from rfl]; exact h)]
  rfl
theorem endH_n {v : Int32} {H : List (Nat → Int32)} {A : Nat → Int32} (h : v.toInt < 0) : endH v H A = H := by
  unfold endH
  rw [if_neg (show ¬ (0 : Int32) ≤ v by rw [pu_le, show (0 : Int32).toInt = 0 from rfl]; omega)]
theorem pop_mem {H : List (Nat → Int32)} {C : Nat → Int32} (h : C ∈ pop H) : C ∈ H := by
  unfold pop at h
  split at h
  · exact List.mem_of_mem_drop h
  · exact h
theorem MH.pop1 {H G : List (Nat → Int32)} (h : MH H G) : MH (pop H) (pop G) := by
  unfold pop
  rw [h.len]
  split
  · exact h.drop1
  · exact h
theorem nI_0le {k : Nat} (hk : k < 2147483648) : 0 ≤ (nI k).toInt := by
  rw [nI_toInt (by omega)]
  omega
theorem nI_nl0 {k : Nat} (hk : k < 2147483648) : ¬ nI k < 0 := by
  rw [pu_lt, nI_toInt (by omega), show (0 : Int32).toInt = 0 from rfl]
  omega
theorem pop_len {H : List (Nat → Int32)} (h : H.length ≤ 6) : (pop H).length ≤ 6 := by
  unfold pop
  split
  · rw [List.length_drop]; omega
  · exact h
section FO
variable {x y : Nat} {A B : Nat → Int32} {H G : List (Nat → Int32)} {s : Hp}
theorem St.hlen (h : St x y A H B G s) : H.length ≤ 6 := by
  obtain ⟨σ, ci, cz, ci', cz', n, m, S, p, pl, S', p', pl', e, h1, h2⟩ := h
  obtain ⟨nx, q⟩ := h1.2.2.1
  exact q.1.2
theorem mir_ok {n : Nat} {r c a : Int32} (hr : rng r 0 19) (hc : rng c 0 19) (ha : rng a 0 3) (hno : mAt A n r c = none) (h24 : n ≠ 24) : mirO A n r c a = (nI n, putA A n r c a) := by
  unfold mirO
  rw [if_neg (fun q => q ⟨⟨hr, hc⟩, ha⟩), if_neg (fun q => q hno), if_neg h24]
theorem mir_np {n : Nat} {r c a : Int32} (hr : rng r 0 19) (hc : rng c 0 19) (ha : rng a 0 3) (hno : mAt A n r c ≠ none) : mirO A n r c a = (-5, A) := by
  unfold mirO
  rw [if_neg (fun q => q ⟨⟨hr, hc⟩, ha⟩), if_pos hno]
theorem mir_tm {n : Nat} {r c a : Int32} (hr : rng r 0 19) (hc : rng c 0 19) (ha : rng a 0 3) (hno : mAt A n r c = none) (h24 : n = 24) : mirO A n r c a = (-4, A) := by
  unfold mirO
  rw [if_neg (fun q => q ⟨⟨hr, hc⟩, ha⟩), if_neg (fun q => q hno), if_pos h24]
theorem nO_put {n : Nat} {r c a : Int32} (hn : n ≤ 24) : nO (putA A n r c a) = n + 1 := nO_nI putA_6 (by omega)
theorem fo_149 (hxy : x + 184 ≤ y ∨ y + 184 ≤ x) {row : Int32} (hr : rng row 0 19) (h : St x y A H B G s) : ∃ s', D_L_isFound_b149 y row (nI (nO B)) 1 s = some (1, s') ∧ St x y A H B (pop G) s' := by
  have hyx : y + 184 ≤ x ∨ x + 184 ≤ y := by omega
  have hW := (h.symm hxy).ws
  have hn := hW.2
  have hGl := (h.symm hxy).hlen
  have hpl := pop_len hGl
  obtain ⟨s1, e1, h1⟩ := r_wash hxy h 0
  have z0 : (0 : Int32).toInt = 0 := rfl
  by_cases c : nO B = 0
  · have ew : wasO B (nO B) 0 = (-1, B) := by
      unfold wasO
      rw [if_pos]
      intro q
      have := q.2
      rw [z0, c] at this
      omega
    rw [ew] at e1 h1
    have h1 : St x y A H B G s1 := by
      have := h1
      rw [show endH (-1, B).1 G B = G from endH_n (show (-1 : Int32).toInt < 0 by decide)] at this
      exact this
    obtain ⟨s2, e2, h2⟩ := r_mirror hxy h1 row 10 0
    rw [mir_ok hr (by decide) (by decide) (by rw [c]; rfl) (by omega)] at e2 h2
    rw [endH_y (nI_0le (by omega))] at h2
    obtain ⟨s3, e3, h3⟩ := r_undo hxy h2
    refine ⟨s3, ?_, h3⟩
    unfold D_L_isFound_b149
    rw [if_neg (show ¬ (1 : Int32) = 0 by decide), e1, bd_some, if_neg (show ¬ (-1 : Int32) < -1 by decide), if_pos (show nI (nO B) = 0 by rw [c]; rfl), e2, bd_some, if_pos (show nI (nO B) = 0 by rw [c]; rfl), e3, bd_some, if_neg (nI_nl0 (by omega)), retZ_1]
  · have ew : wasO B (nO B) 0 = (gA B 0 3, upd B (7 + 5 * 0 + 3) 0) := by
      unfold wasO
      rw [if_neg]
      · rfl
      · intro q
        apply q
        unfold rng
        rw [z0]
        omega
    rw [ew] at e1 h1
    obtain ⟨-, -, -, a3⟩ := hW.1.2.1 0 (by omega)
    rw [endH_y a3.1] at h1
    obtain ⟨s3, e3, h3⟩ := r_undo hxy h1
    refine ⟨s3, ?_, h3⟩
    unfold D_L_isFound_b149
    rw [if_neg (show ¬ (1 : Int32) = 0 by decide), e1, bd_some, if_neg (show ¬ gA B 0 3 < -1 by rw [pu_lt, show (-1 : Int32).toInt = -1 from rfl]; omega), if_neg (show ¬ nI (nO B) = 0 by rw [pu_eq, nI_toInt (by omega), z0]; omega), e3, bd_some, if_neg (nI_nl0 (by omega)), retZ_1]
theorem fo_all (hxy : x + 184 ≤ y ∨ y + 184 ≤ x) (hM : Mr A B (nO A)) {r a : Nat} (hr : r < 20) (ha : a < 4) (h : St x y A H B G s) : ∃ s' H' G', D_L_isFound x y (nI r) (nI a) s = some (1, s') ∧ St x y A H' B G' s' ∧ ((H' = H ∧ G' = G) ∨ (H' = pop H ∧ G' = pop G)) := by
  have hW := h.ws
  have hn := hW.2
  have hpl := pop_len h.hlen
  have hrr : rng (nI r) 0 19 := rg_c (m := 19) (by omega) (by omega)
  have har : rng (nI a) 0 3 := rg_c (m := 3) (by omega) (by omega)
  have hv : ∀ w, rng w 0 1 → besO A (nO A) (nI r) (nI a) w = selO (bst (fun k => decide (mAt A (nO A) (nI r) (nI k) = none)) (fun k => brings (putA A (nO A) (nI r) (nI k) (nI a)) (nO A + 1)) 20) w := fun w hw => by
    unfold besO
    rw [if_neg (fun q => q ⟨⟨hrr, har⟩, hw⟩)]
  obtain ⟨s1, e1, h1⟩ := q_best h (nI r) (nI a) 0
  obtain ⟨s2, e2, h2⟩ := q_best h1 (nI r) (nI a) 1
  rw [hv 0 (by decide)] at e1
  rw [hv 1 (by decide)] at e2
  obtain ⟨s3, e3, h3⟩ := q_worth h2 0
  obtain ⟨s4, e4, h4⟩ := r_worth hxy h3 0
  rw [m_nO hM, m_worO hM] at e4
  obtain ⟨s5, e5, h5⟩ := q_worth h4 1
  obtain ⟨s6, e6, h6⟩ := r_worth hxy h5 1
  rw [m_nO hM, m_worO hM] at e6
  obtain ⟨s7, e7, h7⟩ := q_toWash h6
  obtain ⟨s8, e8, h8⟩ := r_toWash hxy h7
  rw [m_nO hM, m_tWaO hM] at e8
  obtain ⟨s9, e9, h9⟩ := q_least h8
  obtain ⟨s10, e10, h10⟩ := r_least hxy h9
  rw [m_nO hM, m_leaO hM] at e10
  obtain ⟨s11, e11, h11⟩ := q_count1 h10
  rw [hW.1.1.2] at e11
  generalize hb : bst (fun k => decide (mAt A (nO A) (nI r) (nI k) = none)) (fun k => brings (putA A (nO A) (nI r) (nI k) (nI a)) (nO A + 1)) 20 = b at e1 e2
  have hsp := bst_spec (ok := fun k => decide (mAt A (nO A) (nI r) (nI k) = none)) (f := fun k => brings (putA A (nO A) (nI r) (nI k) (nI a)) (nO A + 1)) 20
  rw [hb] at hsp
  have s0 : selO b 0 = b.1 := if_pos rfl
  have s1' : selO b 1 = b.2 := if_neg (by decide)
  rw [s0] at e1
  rw [s1'] at e2
  have hpre : ∀ (R : Option (Int32 × Hp)), D_L_isFound_b71 x y (nI r) (nI a) b.1 b.2 1 s10 = R → D_L_isFound x y (nI r) (nI a) s = R := by
    intro R hR
    unfold D_L_isFound
    rw [e1, bd_some, e2, bd_some, e3, bd_some, e4, bd_some, if_pos rfl, e5, bd_some, e6, bd_some, if_pos rfl, e7, bd_some, e8, bd_some, if_pos rfl, e9, bd_some, e10, bd_some, if_pos rfl]
    exact hR
  rcases hsp with q | ⟨j, hj, hok, q⟩
  · refine ⟨s11, H, G, hpre _ ?_, h11, Or.inl ⟨rfl, rfl⟩⟩
    unfold D_L_isFound_b71
    rw [e11, bd_some, q, if_pos rfl, retZ_1]
  · have hno : mAt A (nO A) (nI r) (nI j) = none := of_decide_eq_true hok
    by_cases c24 : nO A = 24
    · refine ⟨s11, H, G, hpre _ ?_, h11, Or.inl ⟨rfl, rfl⟩⟩
      unfold D_L_isFound_b71
      rw [e11, bd_some, q, if_neg (nI_n6 (by omega)), if_pos (show nI (nO A) = 24 by rw [c24]; rfl), retZ_1]
    · have hjr : rng (nI j) 0 19 := rg_c (m := 19) (by omega) (by omega)
      obtain ⟨s12, e12, h12⟩ := q_in h11 (nI r) (nI j)
      have ein : inO A (nO A) (nI r) (nI j) = -6 := by
        unfold inO
        rw [if_pos ⟨hrr, hjr⟩, hno]
        rfl
      rw [ein] at e12
      obtain ⟨s13, e13, h13⟩ := q_mirror h12 (nI r) (nI j) (nI a)
      rw [mir_ok hrr hjr har hno c24] at e13 h13
      rw [endH_y (nI_0le (by omega))] at h13
      obtain ⟨s14, e14, h14⟩ := q_count5 h13
      rw [show nO (nI (nO A), putA A (nO A) (nI r) (nI j) (nI a)).2 = nO A + 1 from nO_put hn] at e14
      obtain ⟨s15, e15, h15⟩ := q_undo h14
      obtain ⟨s16, e16, h16⟩ := fo_149 hxy hrr h15
      rw [m_nO hM] at e16
      refine ⟨s16, pop H, pop G, hpre _ ?_, h16, Or.inr ⟨rfl, rfl⟩⟩
      unfold D_L_isFound_b71
      rw [e11, bd_some, q]
      dsimp only at e13 e14 ⊢
      rw [if_neg (nI_n6 (by omega)), if_neg (show ¬ nI (nO A) = 24 by rw [pu_eq, nI_toInt (by omega), show (24 : Int32).toInt = 24 from rfl]; omega), if_neg (show ¬ (1 : Int32) = 0 by decide), e12, bd_some, if_pos rfl, e13, bd_some, if_pos rfl, e14, bd_some, if_pos rfl, e15, bd_some, if_neg (nI_nl0 (by omega))]
      exact e16
end FO
