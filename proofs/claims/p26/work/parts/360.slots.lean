def SR (ci cz : Nat → Nat → Int32) (S : SLT) : Prop := ∀ i, i < 2 → match S i with
  | none => bit (cz 0 7) i = false
  | some B => bit (cz 0 7) i = true ∧ ∃ k, WS B k ∧ FA ci cz (158 + 13 * i) B k
theorem SR.fr {ci cz ci' cz' : Nat → Nat → Int32} {S : SLT} {a b : Nat} (h : SR ci cz S) (hf : fr a b ci cz ci' cz') (hd : b ≤ 158 ∧ 0 < a) : SR ci' cz' S := by
  intro i hi
  have := h i hi
  rw [(hf 0 (by omega)).2]
  rcases hS : S i with _ | B
  · rw [hS] at this; exact this
  · rw [hS] at this
    obtain ⟨h1, k, h2, h3⟩ := this
    exact ⟨h1, k, h2, h3.fr hf (by omega)⟩
/-- the class's state -/
def XI (ci cz : Nat → Nat → Int32) (A : Nat → Int32) (n : Nat) (H : List (Nat → Int32)) (S : SLT) (p : Nat → Int32) (pl : Nat) : Prop := (FA ci cz 1 A n ∧ WS A n) ∧ PadR ci cz p pl ∧ (∃ nx, HR ci cz H nx) ∧ SR ci cz S
section XS
variable {σ : Hp} {x : Nat} {ci cz : Nat → Nat → Int32} {p : Nat → Int32} {pl n : Nat} {A : Nat → Int32} {H : List (Nat → Int32)} {S : SLT}
/-- the Light, the Advice, the reader may change as they like -/
theorem XI.fr {ci' cz' : Nat → Nat → Int32} {a b : Nat} (h : XI ci cz A n H S p pl) (hf : fr a b ci cz ci' cz') (hd : (14 ≤ a ∧ b ≤ 50) ∨ (53 ≤ a ∧ b ≤ 62)) : XI ci' cz' A n H S p pl := by
  obtain ⟨⟨h1, h2⟩, h3, ⟨nx, h4⟩, h5⟩ := h
  exact ⟨⟨h1.fr hf (by omega), h2⟩, h3.fr hf (by omega), ⟨nx, h4.fr hf (by omega)⟩, h5.fr hf (by omega)⟩
theorem C_back {H0 : List (Nat → Int32)} {B : Nat → Int32} {nx : Nat} (hh : HR ci cz (H0 ++ [B]) nx) : ∃ ci' cz' k nx', D_X3_stepBack (x + 62) (x + 1) (xh σ x ci cz) = some (1, xh σ x ci' cz') ∧ WS B k ∧ FA ci' cz' 1 B k ∧ HR ci' cz' H0 nx' ∧ cz' 62 2 = nI H0.length ∧ ∀ j, (j = 0 ∨ (14 ≤ j ∧ j ≠ 62)) → ci' j = ci j ∧ cz' j = cz j := by
  have h7 := hh.1.1
  have hl := hh.1.2
  have eL : (H0 ++ [B]).length = H0.length + 1 := by rw [List.length_append]; rfl
  rw [eL] at hl
  have z0 : (0 : Int32).toInt = 0 := rfl
  generalize hnx : (nx + 6) % 7 = nx'
  have hnx7 : nx' < 7 := hnx ▸ Nat.mod_lt _ (by omega)
  generalize hz1 : va_up cz 62 (upd (upd (cz 62) 1 (nI nx')) 2 (nI H0.length)) = z1
  have e1 : ∀ j, j ≠ 62 → z1 j = cz j := fun j hj => by rw [← hz1, up_ne hj]
  have hf : fr 62 63 ci cz ci z1 := fun j hj => ⟨rfl, e1 j (by omega)⟩
  obtain ⟨k, g1, g2⟩ := hh.2.2 H0.length B (by rw [List.getElem?_append_right (Nat.le_refl _)]; simp)
  rw [eL, show (nx + 7 - (H0.length + 1) + H0.length) % 7 = nx' by omega] at g2
  have g3 := g2.fr hf (by omega)
  obtain ⟨c2, z2, w1, w2, w3⟩ := C_copy (σ := σ) (x := x) FD_1 (FD_h hnx7) g3 g1.1.1.1 (by omega)
  have ez : z2 62 = z1 62 := (w3 62 (by omega)).2
  refine ⟨c2, z2, k, nx', ?_, g1, w2, ⟨⟨hnx7, by omega⟩, ⟨by rw [ez, ← hz1, up_eq, upd_ne (by omega), upd_eq], by rw [ez, ← hz1, up_eq, upd_eq]⟩, fun j B' hj => ?_⟩, by rw [ez, ← hz1, up_eq, upd_eq], fun j hj => ⟨(w3 j (by omega)).1, ((w3 j (by omega)).2).trans (e1 j (by omega))⟩⟩
  · have e7 : nI nx + 7 - 1 = nI (nx + 6) := by
      rw [show (7 : Int32) = nI 7 from rfl, nI_add, show nx + 7 = nx + 6 + 1 from rfl]
      exact nI_pred _
    have es : nI (H0.length + 1) - 1 = nI H0.length := nI_pred _
    unfold D_X3_stepBack
    rw [xy_o, Option.bind_some, xy_2, Option.bind_some, hh.2.1.2, eL, if_neg (by rw [pu_eq, nI_toInt (by omega), z0]; omega), xy_1, Option.bind_some, hh.2.1.1, e7, rem7 (by omega), hnx, Option.bind_some, xy_p1, Option.bind_some, xy_2, Option.bind_some, up_eq, upd_ne (by omega), hh.2.1.2, eL, es, xy_p2, Option.bind_some, up_up, up_eq, hz1, xy_0, Option.bind_some, xy_1, Option.bind_some]
    have e62 : z1 62 1 = nI nx' := by rw [← hz1, up_eq, upd_ne (by omega), upd_eq]
    unfold D_X7_bringBack
    rw [e62, xs_o1, Option.bind_some, c_state1 hnx7, bd_some, mtO_some, w1, Option.bind_some, Option.bind_some, retZ_1]
  · have hjl : j < H0.length := by
      rcases Nat.lt_or_ge j H0.length with q | q
      · exact q
      · rw [List.getElem?_eq_none q] at hj; cases hj
    obtain ⟨k2, p1, p2⟩ := hh.2.2 j B' (by rw [List.getElem?_append_left hjl]; exact hj)
    rw [eL] at p2
    rw [show (nx' + 7 - H0.length + j) % 7 = (nx + 7 - (H0.length + 1) + j) % 7 by omega]
    exact ⟨k2, p1, (p2.fr hf (by omega)).fr w3 (by omega)⟩
theorem C_back0 {nx : Nat} (hh : HR ci cz [] nx) : D_X3_stepBack (x + 62) (x + 1) (xh σ x ci cz) = some (0, xh σ x ci cz) := by
  unfold D_X3_stepBack
  rw [xy_o, Option.bind_some, xy_2, Option.bind_some, hh.2.1.2, if_pos (show nI ([] : List (Nat → Int32)).length = 0 from rfl), retZ_0]
end XS
