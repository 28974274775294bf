/-! the class's reader as a whole; its history and slots -/
theorem pAll_len {g : Nat → Int32} : ∀ (N i : Nat) (l : List Ord4) (k : Nat), pAll g N i = (some l, k) → l.length ≤ N
  | 0, _, _, _, h => by
    rw [pAll] at h
    cases h
  | N + 1, i, l, k, h => by
    rw [pAll] at h
    rcases hp : pOrd g i with ⟨_ | o, j⟩
    · rw [hp] at h; cases h
    · rw [hp] at h
      dsimp only at h
      split at h
      · rcases hq : pAll g N (j + 1) with ⟨_ | l2, k2⟩
        · rw [hq] at h; cases h
        · rw [hq] at h
          cases h
          have := pAll_len N (j + 1) l2 _ hq
          rw [List.length_cons]
          omega
      · cases h
        simp
section HI
variable {σ : Hp} {x : Nat} {ci cz : Nat → Nat → Int32} {p : Nat → Int32} {pl n : Nat} {A : Nat → Int32} {H : List (Nat → Int32)}
theorem C_read (h : PadR ci cz p pl) : ∃ ci' cz', D_X6_read (x + 53) (xh σ x ci cz) = some (fauO p pl, xh σ x ci' cz') ∧ (∀ l, pAll (sgn p pl) 81 0 = (some l, pl) → cz' 53 5 = nI l.length ∧ ∀ k o, l[k]? = some o → rowO ci' k = o) ∧ fr 53 62 ci cz ci' cz' := by
  have hpl := h.1.2
  generalize hz1 : va_up (va_up cz 53 (upd (cz 53) 6 0)) 53 (upd (va_up cz 53 (upd (cz 53) 6 0) 53) 7 0) = z1
  have r1 : RS z1 0 false := ⟨by rw [← hz1, up_eq, upd_ne (by omega), up_eq, upd_eq]; rfl, by rw [← hz1, up_eq, upd_eq]; rfl⟩
  have e1 : ∀ j, j ≠ 53 → z1 j = cz j := fun j hj => by rw [← hz1, up_ne hj, up_ne hj]
  have h1 : PadR ci z1 p pl := ⟨by rw [e1 50 (by omega)]; exact h.1, h.2⟩
  have hR := c_rdOrd_y (σ := σ) (x := x) (q := 0) h1 r1 (by omega) (by omega)
  have ef : fauO p pl = rAns pl (pAll (sgn p pl) 81 0) := rfl
  have head : ∀ c2 z2, D_X6_readOrder (x + 53) (nI 0) (xh σ x ci z1) = some (xh σ x c2 z2) → D_X6_read (x + 53) (xh σ x ci cz) = D_X6_read_w20 (x + 53) (fun s30 => D_X6_read_b77 (x + 53) s30) FU (xh σ x c2 (va_up z2 53 (upd (z2 53) 5 (nI 1)))) := by
    intro c2 z2 e
    rw [show nI 0 = (0 : Int32) from rfl] at e
    unfold D_X6_read
    rw [xr_o, Option.bind_some, xr_p6, Option.bind_some, xr_z7_0, Option.bind_some, hz1, e, Option.bind_some, xr_p5, Option.bind_some]
    rfl
  rw [ef, pAll_s]
  rcases hp : pOrd (sgn p pl) 0 with ⟨_ | o, j⟩
  · rw [hp] at hR
    obtain ⟨z2, o2, q1, q2, q3, -⟩ := hR
    dsimp only at q2 ⊢
    have r2 : RS (va_up z2 53 (upd (z2 53) 5 (nI 1))) j true := ⟨by rw [up_eq, upd_ne (by omega)]; exact q2.1, by rw [up_eq, upd_ne (by omega)]; exact q2.2⟩
    refine ⟨_, _, ?_, (fun l hl => by cases hl), fun j hj => ⟨ow_ne (ci := ci) (q := 0) (o := o2) (by omega), (up_ne (k := 53) (v := upd (z2 53) 5 (nI 1)) (by omega)).trans ((q3.1 j (by omega)).trans (e1 j (by omega)))⟩⟩
    rw [head _ _ q1, show FU = 4999 + 1 from rfl, c_w20_br r2]
    rfl
  · rw [hp] at hR
    obtain ⟨z2, o2, q1, q2, q3, q4⟩ := hR
    dsimp only at q2 q4 ⊢
    have eo : o2 = o := q4 o rfl
    subst eo
    have hj1 := pOrd_s hp
    have hj2 := pOrd_le (by omega) hp
    have r2 : RS (va_up z2 53 (upd (z2 53) 5 (nI 1))) j false := ⟨by rw [up_eq, upd_ne (by omega)]; exact q2.1, by rw [up_eq, upd_ne (by omega)]; exact q2.2⟩
    have p2 : PadR (ow ci 0 o2) (va_up z2 53 (upd (z2 53) 5 (nI 1))) p pl := ⟨by rw [up_ne (by omega), q3.1 50 (by omega)]; exact h1.1, h.ow.2⟩
    obtain ⟨c3, z3, s1, s2, s3, s4, s5⟩ := c_w20 (σ := σ) (x := x) (p := p) (pl := pl) 80 j FU 1 (ow ci 0 o2) _ (by omega) (by rw [FU_eq]; omega) hj2 (by omega) p2 r2 (by rw [up_eq, upd_eq])
    refine ⟨c3, z3, ?_, fun l hl => ?_, fun j' hj' => ⟨(s4 j' (by omega)).trans (ow_ne (by omega)), (s5 j' (by omega)).trans ((up_ne (by omega)).trans ((q3.1 j' (by omega)).trans (e1 j' (by omega))))⟩⟩
    · rw [head _ _ q1, s1]
      rcases pRest (sgn p pl) 80 j with ⟨_ | l, k⟩ <;> rfl
    · rcases hq : pRest (sgn p pl) 80 j with ⟨_ | l2, k⟩
      · rw [hq] at hl; cases hl
      · rw [hq] at hl s2
        cases hl
        obtain ⟨g1, g2⟩ := s2 l2 rfl
        refine ⟨by rw [g1, List.length_cons]; congr 1; omega, fun k o hk => ?_⟩
        cases k with
        | zero =>
          simp at hk
          rw [← hk, s3 0 (by omega), row_ow]
        | succ k =>
          have := g2 k o (by simpa using hk)
          rw [← this]
          congr 1
          omega
/-! the ring of states -/
def HR (ci cz : Nat → Nat → Int32) (H : List (Nat → Int32)) (nx : Nat) : Prop := (nx < 7 ∧ H.length ≤ 6) ∧ (cz 62 1 = nI nx ∧ cz 62 2 = nI H.length) ∧ ∀ j B, H[j]? = some B → ∃ k, WS B k ∧ FA ci cz (65 + 13 * ((nx + 7 - H.length + j) % 7)) B k
theorem HR.fr {ci' cz' : Nat → Nat → Int32} {nx a b : Nat} (h : HR ci cz H nx) (hf : fr a b ci cz ci' cz') (hd : b ≤ 62 ∨ 156 ≤ a) : HR ci' cz' H nx := by
  refine ⟨h.1, by rw [(hf 62 (by omega)).2]; exact h.2.1, fun j B hj => ?_⟩
  obtain ⟨k, h1, h2⟩ := h.2.2 j B hj
  have := Nat.mod_lt (nx + 7 - H.length + j) (show 7 > 0 by omega)
  exact ⟨k, h1, h2.fr hf (by omega)⟩
theorem x_ref1 {i : Nat} (hi : i < 7) : ldR (xh σ x ci cz) (x + 64) (nI i) = some (some (x + (65 + 13 * i))) := by
  unfold ldR
  rw [xh_at (show kd 64 = 27 from rfl) (by omega)]
  unfold xcl
  rw [if_neg (by omega), if_pos rfl]
  dsimp only
  rw [nI_toInt (by omega), nI_tn (by omega), if_pos (by omega), if_pos hi]
theorem x_ref2 {i : Nat} (hi : i < 2) : ldR (xh σ x ci cz) (x + 157) (nI i) = some (some (x + (158 + 13 * i))) := by
  unfold ldR
  rw [xh_at (show kd 157 = 22 from rfl) (by omega)]
  unfold xcl
  rw [if_neg (by omega), if_neg (by omega), if_pos rfl]
  dsimp only
  rw [nI_toInt (by omega), nI_tn (by omega), if_pos (by omega), if_pos hi]
theorem x_al1 : alen (xh σ x ci cz) (x + 64) = some (nI 7) := by
  unfold alen
  rw [xh_at (show kd 64 = 27 from rfl) (by omega)]
  rfl
theorem x_al2 : alen (xh σ x ci cz) (x + 157) = some (nI 2) := by
  unfold alen
  rw [xh_at (show kd 157 = 22 from rfl) (by omega)]
  rfl
theorem c_state1 {i : Nat} (hi : i < 7) : D_X7_state (x + 63) (nI i) (xh σ x ci cz) = some (some (x + (65 + 13 * i)), xh σ x ci cz) := by
  unfold D_X7_state
  rw [xs_o1, Option.bind_some, if_neg (nI_nn (by omega)), xs_01, Option.bind_some, x_al1, Option.bind_some, if_neg (nI_ge (a := i) (b := 7) hi (by omega)), Option.bind_some, x_ref1 hi, Option.bind_some, mtO_some]
theorem c_state2 {i : Nat} (hi : i < 2) : D_X7_state (x + 156) (nI i) (xh σ x ci cz) = some (some (x + (158 + 13 * i)), xh σ x ci cz) := by
  unfold D_X7_state
  rw [xs_o2, Option.bind_some, if_neg (nI_nn (by omega)), xs_02, Option.bind_some, x_al2, Option.bind_some, if_neg (nI_ge (a := i) (b := 2) hi (by omega)), Option.bind_some, x_ref2 hi, Option.bind_some, mtO_some]
theorem rem7 {a : Nat} (ha : a < 14) : remI (nI a) 7 = some (nI (a % 7)) := by
  have : ∀ a : Fin 14, remI (nI a.1) 7 = some (nI (a.1 % 7)) := by decide
  exact this ⟨a, ha⟩
theorem C_note (h : FA ci cz 1 A n) (hW : WS A n) {nx : Nat} (hh : HR ci cz H nx) : ∃ ci' cz', D_X3_note (x + 62) (x + 1) (xh σ x ci cz) = some (xh σ x ci' cz') ∧ HR ci' cz' H nx ∧ FA ci' cz' (65 + 13 * nx) A n ∧ fr 65 156 ci cz ci' cz' := by
  have h7 := hh.1.1
  have hl := hh.1.2
  obtain ⟨c1, z1, w1, w2, w3⟩ := C_copy (σ := σ) (x := x) (FD_h h7) FD_1 h hW.1.1.1 (by omega)
  refine ⟨c1, z1, ?_, ⟨hh.1, by rw [(w3 62 (by omega)).2]; exact hh.2.1, fun j B hj => ?_⟩, w2, w3.mono (by omega) (by omega)⟩
  · unfold D_X3_note D_X7_keep
    rw [xy_o, Option.bind_some, xy_0, Option.bind_some, xy_1, Option.bind_some, hh.2.1.1, xs_o1, Option.bind_some, c_state1 h7, bd_some, mtO_some, w1, Option.bind_some, Option.bind_some]
  · obtain ⟨k, g1, g2⟩ := hh.2.2 j B hj
    have hjl : j < H.length := by
      rcases Nat.lt_or_ge j H.length with q | q
      · exact q
      · rw [List.getElem?_eq_none q] at hj; cases hj
    have hne : (nx + 7 - H.length + j) % 7 ≠ nx := by omega
    have hlt : (nx + 7 - H.length + j) % 7 < 7 := Nat.mod_lt _ (by omega)
    exact ⟨k, g1, g2.fr w3 (by omega)⟩
theorem C_keep {nx : Nat} (hh : HR ci cz H nx) (h : FA ci cz (65 + 13 * nx) A n) (hW : WS A n) : ∃ cz' nx', D_X3_keepNote (x + 62) (xh σ x ci cz) = some (xh σ x ci cz') ∧ HR ci cz' (pushH H A) nx' ∧ ∀ j, j ≠ 62 → cz' j = cz j := by
  have h7 := hh.1.1
  have hl := hh.1.2
  have z6 : (6 : Int32).toInt = 6 := rfl
  have e15 : (if (6 : Int32) < nI (H.length + 1) then (6 : Int32) else nI (H.length + 1)) = nI (pushH H A).length := by
    unfold pushH
    by_cases c : H.length = 6
    · rw [if_pos (by rw [pu_lt, z6, nI_toInt (by omega)]; omega), if_pos c, List.length_append, List.length_drop, c]
      rfl
    · rw [if_neg (by rw [pu_lt, z6, nI_toInt (by omega)]; omega), if_neg c, List.length_append]
      rfl
  have hlen : (pushH H A).length = if H.length = 6 then 6 else H.length + 1 := by
    unfold pushH
    by_cases c : H.length = 6
    · rw [if_pos c, if_pos c, List.length_append, List.length_drop, c]
      rfl
    · rw [if_neg c, if_neg c, List.length_append]
      rfl
  refine ⟨va_up cz 62 (upd (upd (cz 62) 1 (nI ((nx + 1) % 7))) 2 (nI (pushH H A).length)), (nx + 1) % 7, ?_, ⟨⟨Nat.mod_lt _ (by omega), by rw [hlen]; split <;> omega⟩, ⟨by rw [up_eq, upd_ne (by omega), upd_eq], by rw [up_eq, upd_eq]⟩, fun j B hj => ?_⟩, fun j hj => up_ne hj⟩
  · unfold D_X3_keepNote
    rw [xy_o, Option.bind_some, xy_1, Option.bind_some, hh.2.1.1, nI_1, rem7 (by omega), Option.bind_some, xy_p1, Option.bind_some, xy_2, Option.bind_some, up_eq, upd_ne (by omega), hh.2.1.2, nI_1, nm_eq, e15, xy_p2, Option.bind_some, up_up, up_eq]
  · have hf : fr 62 63 ci cz ci (va_up cz 62 (upd (upd (cz 62) 1 (nI ((nx + 1) % 7))) 2 (nI (pushH H A).length))) := fr.rfl.upz (by omega) (by omega)
    have hjl : j < (pushH H A).length := by
      rcases Nat.lt_or_ge j (pushH H A).length with q | q
      · exact q
      · rw [List.getElem?_eq_none q] at hj; cases hj
    rw [hlen] at hjl
    by_cases c : H.length = 6
    · rw [if_pos c] at hjl
      have hL : (pushH H A).length = 6 := by rw [hlen, if_pos c]
      unfold pushH at hj
      rw [if_pos c] at hj
      by_cases c2 : j = 5
      · rw [List.getElem?_append_right (by rw [List.length_drop]; omega), List.length_drop, c, c2] at hj
        simp at hj
        subst hj
        refine ⟨n, hW, ?_⟩
        rw [show ((nx + 1) % 7 + 7 - (pushH H A).length + j) % 7 = nx by omega]
        exact h.fr hf (by omega)
      · rw [List.getElem?_append_left (by rw [List.length_drop]; omega), List.getElem?_drop] at hj
        obtain ⟨k, g1, g2⟩ := hh.2.2 (1 + j) B hj
        refine ⟨k, g1, ?_⟩
        rw [show ((nx + 1) % 7 + 7 - (pushH H A).length + j) % 7 = (nx + 7 - H.length + (1 + j)) % 7 by omega]
        exact g2.fr hf (by omega)
    · rw [if_neg c] at hjl
      have hL : (pushH H A).length = H.length + 1 := by rw [hlen, if_neg c]
      unfold pushH at hj
      rw [if_neg c] at hj
      by_cases c2 : j = H.length
      · rw [List.getElem?_append_right (by omega), c2] at hj
        simp at hj
        subst hj
        refine ⟨n, hW, ?_⟩
        rw [show ((nx + 1) % 7 + 7 - (pushH H A).length + j) % 7 = nx by omega]
        exact h.fr hf (by omega)
      · rw [List.getElem?_append_left (by omega)] at hj
        obtain ⟨k, g1, g2⟩ := hh.2.2 j B hj
        refine ⟨k, g1, ?_⟩
        rw [show ((nx + 1) % 7 + 7 - (pushH H A).length + j) % 7 = (nx + 7 - H.length + j) % 7 by omega]
        exact g2.fr hf (by omega)
end HI
