section HI
variable {σ : Hp} {x : Nat} {ci cz : Nat → Nat → Int32} {p : Nat → Int32} {pl n : Nat} {A : Nat → Int32} {H : List (Nat → Int32)}
def HR (ci cz : Nat → Nat → Int32) (H : List (Nat → Int32)) (nx : Nat) : Prop := (nx < 7 ∧ H.length ≤ 6) ∧ (cz 62 1 = nI nx ∧ cz 62 2 = nI H.length) ∧ ∀ j B, H[j]? = some B → ∃ k, WS B k ∧ FA ci cz (65 + 13 * ((nx + 7 - H.length + j) % 7)) B k
theorem HR.fr {ci' cz' : Nat → Nat → Int32} {nx a b : Nat} (h : HR ci cz H nx) (hf : fr a b ci cz ci' cz') (hd : b ≤ 62 ∨ 156 ≤ a) : HR ci' cz' H nx := by
  refine ⟨h.1, by rw [(hf 62 (by omega)).2]; exact h.2.1, fun j B hj => ?_⟩
  obtain ⟨k, h1, h2⟩ := h.2.2 j B hj
  have := Nat.mod_lt (nx + 7 - H.length + j) (show 7 > 0 by omega)
  exact ⟨k, h1, h2.fr hf (by omega)⟩
theorem x_ref1 {i : Nat} (hi : i < 7) : ldR (xh σ x ci cz) (x + 64) (nI i) = some (some (x + (65 + 13 * i))) := by
  unfold ldR
  rw [xh_at (show kd 64 = 27 from rfl) (by omega)]
  unfold xcl
  rw [if_neg (by omega), if_pos rfl]
  dsimp only
  rw [nI_toInt (by omega), nI_tn (by omega), if_pos (by omega), if_pos hi]
theorem x_al1 : alen (xh σ x ci cz) (x + 64) = some (nI 7) := by
  unfold alen
  rw [xh_at (show kd 64 = 27 from rfl) (by omega)]
  rfl
theorem c_state1 {i : Nat} (hi : i < 7) : D_X7_state (x + 63) (nI i) (xh σ x ci cz) = some (some (x + (65 + 13 * i)), xh σ x ci cz) := by
  unfold D_X7_state
  rw [xs_o1, Option.bind_some, if_neg (nI_nn (by omega)), xs_01, Option.bind_some, x_al1, Option.bind_some, if_neg (nI_ge (a := i) (b := 7) hi (by omega)), Option.bind_some, x_ref1 hi, Option.bind_some, mtO_some]
theorem rem7 {a : Nat} (ha : a < 14) : remI (nI a) 7 = some (nI (a % 7)) := by
  have : ∀ a : Fin 14, remI (nI a.1) 7 = some (nI (a.1 % 7)) := by decide
  exact this ⟨a, ha⟩
theorem C_note (h : FA ci cz 1 A n) (hW : WS A n) {nx : Nat} (hh : HR ci cz H nx) : ∃ ci' cz', D_X3_note (x + 62) (x + 1) (xh σ x ci cz) = some (xh σ x ci' cz') ∧ HR ci' cz' H nx ∧ FA ci' cz' (65 + 13 * nx) A n ∧ fr 65 156 ci cz ci' cz' := by
  have h7 := hh.1.1
  have hl := hh.1.2
  obtain ⟨c1, z1, w1, w2, w3⟩ := C_copy (σ := σ) (x := x) (FD_h h7) FD_1 h hW.1.1.1 (by omega)
  refine ⟨c1, z1, ?_, ⟨hh.1, by rw [(w3 62 (by omega)).2]; exact hh.2.1, fun j B hj => ?_⟩, w2, w3.mono (by omega) (by omega)⟩
  · unfold D_X3_note D_X7_keep
    rw [xy_o, Option.bind_some, xy_0, Option.bind_some, xy_1, Option.bind_some, hh.2.1.1, xs_o1, Option.bind_some, c_state1 h7, bd_some, mtO_some, w1, Option.bind_some, Option.bind_some]
  · obtain ⟨k, g1, g2⟩ := hh.2.2 j B hj
    have hjl : j < H.length := by
      rcases Nat.lt_or_ge j H.length with q | q
      · exact q
      · rw [List.getElem?_eq_none q] at hj; cases hj
    have hne : (nx + 7 - H.length + j) % 7 ≠ nx := by omega
    have hlt : (nx + 7 - H.length + j) % 7 < 7 := Nat.mod_lt _ (by omega)
    exact ⟨k, g1, g2.fr w3 (by omega)⟩
theorem C_keep {nx : Nat} (hh : HR ci cz H nx) (h : FA ci cz (65 + 13 * nx) A n) (hW : WS A n) : ∃ cz' nx', D_X3_keepNote (x + 62) (xh σ x ci cz) = some (xh σ x ci cz') ∧ HR ci cz' (pushH H A) nx' ∧ ∀ j, j ≠ 62 → cz' j = cz j := by
  have h7 := hh.1.1
  have hl := hh.1.2
  have z6 : (6 : Int32).toInt = 6 := rfl
  have e15 : (if (6 : Int32) < nI (H.length + 1) then (6 : Int32) else nI (H.length + 1)) = nI (pushH H A).length := by
    unfold pushH
    by_cases c : H.length = 6
    · rw [if_pos (by rw [pu_lt, z6, nI_toInt (by omega)]; omega), if_pos c, List.length_append, List.length_drop, c]
      rfl
    · rw [if_neg (by rw [pu_lt, z6, nI_toInt (by omega)]; omega), if_neg c, List.length_append]
      rfl
  have hlen : (pushH H A).length = if H.length = 6 then 6 else H.length + 1 := by
    unfold pushH
    by_cases c : H.length = 6
    · rw [if_pos c, if_pos c, List.length_append, List.length_drop, c]
      rfl
    · rw [if_neg c, if_neg c, List.length_append]
      rfl
  refine ⟨va_up cz 62 (upd (upd (cz 62) 1 (nI ((nx + 1) % 7))) 2 (nI (pushH H A).length)), (nx + 1) % 7, ?_, ⟨⟨Nat.mod_lt _ (by omega), by rw [hlen]; split <;> omega⟩, ⟨by rw [up_eq, upd_ne (by omega), upd_eq], by rw [up_eq, upd_eq]⟩, fun j B hj => ?_⟩, fun j hj => up_ne hj⟩
  · unfold D_X3_keepNote
    rw [xy_o, Option.bind_some, xy_1, Option.bind_some, hh.2.1.1, nI_1, rem7 (by omega), Option.bind_some, xy_p1, Option.bind_some, xy_2, Option.bind_some, up_eq, upd_ne (by omega), hh.2.1.2, nI_1, nm_eq, e15, xy_p2, Option.bind_some, up_up, up_eq]
  · have hf : fr 62 63 ci cz ci (va_up cz 62 (upd (upd (cz 62) 1 (nI ((nx + 1) % 7))) 2 (nI (pushH H A).length))) := fr.rfl.upz (by omega) (by omega)
    have hjl : j < (pushH H A).length := by
      rcases Nat.lt_or_ge j (pushH H A).length with q | q
      · exact q
      · rw [List.getElem?_eq_none q] at hj; cases hj
    rw [hlen] at hjl
    by_cases c : H.length = 6
    · rw [if_pos c] at hjl
      have hL : (pushH H A).length = 6 := by rw [hlen, if_pos c]
      unfold pushH at hj
      rw [if_pos c] at hj
      by_cases c2 : j = 5
      · rw [List.getElem?_append_right (by rw [List.length_drop]; omega), List.length_drop, c, c2] at hj
        simp at hj
        subst hj
        refine ⟨n, hW, ?_⟩
        rw [show ((nx + 1) % 7 + 7 - (pushH H A).length + j) % 7 = nx by omega]
        exact h.fr hf (by omega)
      · rw [List.getElem?_append_left (by rw [List.length_drop]; omega), List.getElem?_drop] at hj
        obtain ⟨k, g1, g2⟩ := hh.2.2 (1 + j) B hj
        refine ⟨k, g1, ?_⟩
        rw [show ((nx + 1) % 7 + 7 - (pushH H A).length + j) % 7 = (nx + 7 - H.length + (1 + j)) % 7 by omega]
        exact g2.fr hf (by omega)
    · rw [if_neg c] at hjl
      have hL : (pushH H A).length = H.length + 1 := by rw [hlen, if_neg c]
      unfold pushH at hj
      rw [if_neg c] at hj
      by_cases c2 : j = H.length
      · rw [List.getElem?_append_right (by omega), c2] at hj
        simp at hj
        subst hj
        refine ⟨n, hW, ?_⟩
        rw [show ((nx + 1) % 7 + 7 - (pushH H A).length + j) % 7 = nx by omega]
        exact h.fr hf (by omega)
      · rw [List.getElem?_append_left (by omega)] at hj
        obtain ⟨k, g1, g2⟩ := hh.2.2 j B hj
        refine ⟨k, g1, ?_⟩
        rw [show ((nx + 1) % 7 + 7 - (pushH H A).length + j) % 7 = (nx + 7 - H.length + j) % 7 by omega]
        exact g2.fr hf (by omega)
end HI
