section XE
variable {σ : Hp} {x : Nat} {ci cz : Nat → Nat → Int32} {p : Nat → Int32} {pl n : Nat} {A : Nat → Int32} {H : List (Nat → Int32)} {S : SLT}
def Did (σ : Hp) (x : Nat) (D : Option (Int32 × Hp)) (v : Int32) (A : Nat → Int32) (H : List (Nat → Int32)) (S : SLT) (p : Nat → Int32) (pl : Nat) : Prop := ∃ ci' cz' n, D = some (v, xh σ x ci' cz') ∧ XI ci' cz' A n H S p pl
theorem X_set (h : XI ci cz A n H S p pl) (s v : Int32) : Did σ x (D_X9_set x s v (xh σ x ci cz)) (setO A s v).1 (setO A s v).2 (endH (setO A s v).1 H A) S p pl := by
  obtain ⟨c1, z1, w1, w2, w3⟩ := x_chg (σ := σ) (x := x) h
  obtain ⟨c2, z2, q1, q2, q3⟩ := C_set (σ := σ) (x := x) FD_1 w2 h.1.2 s v
  have hWS : WS (setO A s v).2 (nO (setO A s v).2) := by
    have w := setO_WS (s := s) (v := v) h.1.2
    rw [nO_eq w]; exact w
  obtain ⟨c3, z3, p1, p2⟩ := w3 (setO A s v) c2 z2 _ hWS q2 (q3.mono (by omega) (by omega))
  refine ⟨c3, z3, _, ?_, p2⟩
  unfold D_X9_set
  rw [xm_o, Option.bind_some, xm_5, Option.bind_some, xm_0, Option.bind_some, w1, Option.bind_some, xm_0, Option.bind_some, q1, bd_some, p1, bd_some]
theorem X_mirror (h : XI ci cz A n H S p pl) (r c a : Int32) : Did σ x (D_X9_mirror x r c a (xh σ x ci cz)) (mirO A n r c a).1 (mirO A n r c a).2 (endH (mirO A n r c a).1 H A) S p pl := by
  obtain ⟨c1, z1, w1, w2, w3⟩ := x_chg (σ := σ) (x := x) h
  obtain ⟨c2, z2, q1, q2, q3⟩ := C_place (σ := σ) (x := x) FD_1 w2 h.1.2 r c a
  have hWS : WS (mirO A n r c a).2 (nO (mirO A n r c a).2) := by
    obtain ⟨k, w⟩ := mirO_WS (r := r) (c := c) (a := a) h.1.2
    rw [nO_eq w]; exact w
  obtain ⟨c3, z3, p1, p2⟩ := w3 (mirO A n r c a) c2 z2 _ hWS q2 (q3.mono (by omega) (by omega))
  refine ⟨c3, z3, _, ?_, p2⟩
  unfold D_X9_mirror
  rw [xm_o, Option.bind_some, xm_5, Option.bind_some, xm_0, Option.bind_some, w1, Option.bind_some, xm_0, Option.bind_some, q1, bd_some, p1, bd_some]
theorem X_take (h : XI ci cz A n H S p pl) (i : Int32) : Did σ x (D_X9_take x i (xh σ x ci cz)) (takO A n i).1 (takO A n i).2 (endH (takO A n i).1 H A) S p pl := by
  obtain ⟨c1, z1, w1, w2, w3⟩ := x_chg (σ := σ) (x := x) h
  obtain ⟨c2, z2, q1, q2, q3⟩ := C_remove (σ := σ) (x := x) FD_1 w2 h.1.2 i
  have hWS : WS (takO A n i).2 (nO (takO A n i).2) := by
    obtain ⟨k, w⟩ := takO_WS (i := i) h.1.2
    rw [nO_eq w]; exact w
  obtain ⟨c3, z3, p1, p2⟩ := w3 (takO A n i) c2 z2 _ hWS q2 (q3.mono (by omega) (by omega))
  refine ⟨c3, z3, _, ?_, p2⟩
  unfold D_X9_take
  rw [xm_o, Option.bind_some, xm_5, Option.bind_some, xm_0, Option.bind_some, w1, Option.bind_some, xm_0, Option.bind_some, q1, bd_some, p1, bd_some]
theorem X_aim (h : XI ci cz A n H S p pl) (i a : Int32) : Did σ x (D_X9_aim x i a (xh σ x ci cz)) (aimO A n i a).1 (aimO A n i a).2 (endH (aimO A n i a).1 H A) S p pl := by
  obtain ⟨c1, z1, w1, w2, w3⟩ := x_chg (σ := σ) (x := x) h
  obtain ⟨c2, z2, q1, q2, q3⟩ := C_turn (σ := σ) (x := x) FD_1 w2 h.1.2 i a
  have hWS : WS (aimO A n i a).2 (nO (aimO A n i a).2) := by
    have w := aimO_WS (i := i) (a := a) h.1.2
    rw [nO_eq w]; exact w
  obtain ⟨c3, z3, p1, p2⟩ := w3 (aimO A n i a) c2 z2 _ hWS q2 (q3.mono (by omega) (by omega))
  refine ⟨c3, z3, _, ?_, p2⟩
  unfold D_X9_aim
  rw [xm_o, Option.bind_some, xm_5, Option.bind_some, xm_0, Option.bind_some, w1, Option.bind_some, xm_0, Option.bind_some, q1, bd_some, p1, bd_some]
theorem X_wash (h : XI ci cz A n H S p pl) (i : Int32) : Did σ x (D_X9_wash x i (xh σ x ci cz)) (wasO A n i).1 (wasO A n i).2 (endH (wasO A n i).1 H A) S p pl := by
  obtain ⟨c1, z1, w1, w2, w3⟩ := x_chg (σ := σ) (x := x) h
  obtain ⟨c2, z2, q1, q2, q3⟩ := C_clean (σ := σ) (x := x) FD_1 w2 h.1.2 i
  have hWS : WS (wasO A n i).2 (nO (wasO A n i).2) := by
    have w := wasO_WS (i := i) h.1.2
    rw [nO_eq w]; exact w
  obtain ⟨c3, z3, p1, p2⟩ := w3 (wasO A n i) c2 z2 _ hWS q2 (q3.mono (by omega) (by omega))
  refine ⟨c3, z3, _, ?_, p2⟩
  unfold D_X9_wash
  rw [xm_o, Option.bind_some, xm_5, Option.bind_some, xm_0, Option.bind_some, w1, Option.bind_some, xm_0, Option.bind_some, q1, bd_some, p1, bd_some]
theorem X_wind (h : XI ci cz A n H S p pl) (w : Int32) : Did σ x (D_X9_wind x w (xh σ x ci cz)) (winO A w).1 (winO A w).2 (endH (winO A w).1 H A) S p pl := by
  obtain ⟨c1, z1, w1, w2, w3⟩ := x_chg (σ := σ) (x := x) h
  obtain ⟨c2, z2, q1, q2, q3⟩ := C_blow (σ := σ) (x := x) FD_1 w2 h.1.2 w
  have hWS : WS (winO A w).2 (nO (winO A w).2) := by
    have w := winO_WS (w := w) h.1.2
    rw [nO_eq w]; exact w
  obtain ⟨c3, z3, p1, p2⟩ := w3 (winO A w) c2 z2 _ hWS q2 (q3.mono (by omega) (by omega))
  refine ⟨c3, z3, _, ?_, p2⟩
  unfold D_X9_wind
  rw [xm_o, Option.bind_some, xm_5, Option.bind_some, xm_0, Option.bind_some, w1, Option.bind_some, xm_0, Option.bind_some, q1, bd_some, p1, bd_some]
theorem X_pass (h : XI ci cz A n H S p pl) (d : Int32) : Did σ x (D_X9_pass x d (xh σ x ci cz)) (pasO A n d).1 (pasO A n d).2 (endH (pasO A n d).1 H A) S p pl := by
  obtain ⟨c1, z1, w1, w2, w3⟩ := x_chg (σ := σ) (x := x) h
  obtain ⟨c2, z2, q1, q2, q3⟩ := C_spend (σ := σ) (x := x) FD_1 LD_1 w2 h.1.2 d
  have hWS : WS (pasO A n d).2 (nO (pasO A n d).2) := by
    have w := pasO_WS (d := d) h.1.2
    rw [nO_eq w]; exact w
  obtain ⟨c3, z3, p1, p2⟩ := w3 (pasO A n d) c2 z2 _ hWS q2 (q3.mono (by omega) (by omega))
  refine ⟨c3, z3, _, ?_, p2⟩
  unfold D_X9_pass
  rw [xm_o, Option.bind_some, xm_5, Option.bind_some, xm_0, Option.bind_some, w1, Option.bind_some, xm_1, Option.bind_some, q1, bd_some, p1, bd_some]
theorem X_undo0 (h : XI ci cz A n [] S p pl) : D_X9_undo x (xh σ x ci cz) = some (-5, xh σ x ci cz) := by
  obtain ⟨nx, h4⟩ := h.2.2.1
  unfold D_X9_undo
  rw [xm_o, Option.bind_some, xm_5, Option.bind_some, xm_0, Option.bind_some, C_back0 h4, bd_some, if_pos rfl]
theorem X_undo {H0 : List (Nat → Int32)} {B : Nat → Int32} (h : XI ci cz A n (H0 ++ [B]) S p pl) : Did σ x (D_X9_undo x (xh σ x ci cz)) (nI H0.length) B H0 S p pl := by
  obtain ⟨⟨h1, h2⟩, h3, ⟨nx, h4⟩, h5⟩ := h
  obtain ⟨c1, z1, k, nx', w1, w2, w3, w4, w5, w6⟩ := C_back (σ := σ) (x := x) h4
  refine ⟨c1, z1, k, ?_, ⟨w3, w2⟩, ⟨by rw [(w6 50 (by omega)).2]; exact h3.1, fun i hi => by rw [(w6 (51 + 1) (by omega)).1]; exact h3.2 i hi⟩, ⟨nx', w4⟩, fun i hi => ?_⟩
  · unfold D_X9_undo D_X3_size
    rw [xm_o, Option.bind_some, xm_5, Option.bind_some, xm_0, Option.bind_some, w1, bd_some, if_neg (by decide), xm_5, Option.bind_some, xy_o, Option.bind_some, xy_2, Option.bind_some, bd_some, w5]
  · have := h5 i hi
    rw [(w6 0 (by omega)).2]
    rcases hS : S i with _ | B'
    · rw [hS] at this; exact this
    · rw [hS] at this
      obtain ⟨g1, k2, g2, g3⟩ := this
      have hf : fr 1 158 ci cz c1 z1 := fun j hj => by
        by_cases e : j = 0
        · exact w6 j (Or.inl e)
        · exact w6 j (Or.inr ⟨by omega, by omega⟩)
      exact ⟨g1, k2, g2, g3.fr hf (by omega)⟩
end XE
