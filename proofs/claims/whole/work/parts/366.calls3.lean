/-! the class's changing calls -/
section XE
variable {σ : Hp} {x : Nat} {ci cz : Nat → Nat → Int32} {p : Nat → Int32} {pl n : Nat} {A : Nat → Int32} {H : List (Nat → Int32)} {S : SLT}
def Did (σ : Hp) (x : Nat) (D : Option (Int32 × Hp)) (v : Int32) (A : Nat → Int32) (H : List (Nat → Int32)) (S : SLT) (p : Nat → Int32) (pl : Nat) : Prop := ∃ ci' cz' n, D = some (v, xh σ x ci' cz') ∧ XI ci' cz' A n H S p pl
theorem X_set (h : XI ci cz A n H S p pl) (s v : Int32) : Did σ x (D_X9_set x s v (xh σ x ci cz)) (setO A s v).1 (setO A s v).2 (endH (setO A s v).1 H A) S p pl := by
  obtain ⟨c1, z1, w1, w2, w3⟩ := x_chg (σ := σ) (x := x) h
  obtain ⟨c2, z2, q1, q2, q3⟩ := C_set (σ := σ) (x := x) FD_1 w2 h.1.2 s v
  have hWS : WS (setO A s v).2 (nO (setO A s v).2) := by
    have w := setO_WS (s := s) (v := v) h.1.2
    rw [nO_eq w]; exact w
  obtain ⟨c3, z3, p1, p2⟩ := w3 (setO A s v) c2 z2 _ hWS q2 (q3.mono (by omega) (by omega))
  refine ⟨c3, z3, _, ?_, p2⟩
  unfold D_X9_set
  rw [xm_o, Option.bind_some, xm_5, Option.bind_some, xm_0, Option.bind_some, w1, Option.bind_some, xm_0, Option.bind_some, q1, bd_some, p1, bd_some]
theorem X_mirror (h : XI ci cz A n H S p pl) (r c a : Int32) : Did σ x (D_X9_mirror x r c a (xh σ x ci cz)) (mirO A n r c a).1 (mirO A n r c a).2 (endH (mirO A n r c a).1 H A) S p pl := by
  obtain ⟨c1, z1, w1, w2, w3⟩ := x_chg (σ := σ) (x := x) h
  obtain ⟨c2, z2, q1, q2, q3⟩ := C_place (σ := σ) (x := x) FD_1 w2 h.1.2 r c a
  have hWS : WS (mirO A n r c a).2 (nO (mirO A n r c a).2) := by
    obtain ⟨k, w⟩ := mirO_WS (r := r) (c := c) (a := a) h.1.2
    rw [nO_eq w]; exact w
  obtain ⟨c3, z3, p1, p2⟩ := w3 (mirO A n r c a) c2 z2 _ hWS q2 (q3.mono (by omega) (by omega))
  refine ⟨c3, z3, _, ?_, p2⟩
  unfold D_X9_mirror
  rw [xm_o, Option.bind_some, xm_5, Option.bind_some, xm_0, Option.bind_some, w1, Option.bind_some, xm_0, Option.bind_some, q1, bd_some, p1, bd_some]
theorem X_take (h : XI ci cz A n H S p pl) (i : Int32) : Did σ x (D_X9_take x i (xh σ x ci cz)) (takO A n i).1 (takO A n i).2 (endH (takO A n i).1 H A) S p pl := by
  obtain ⟨c1, z1, w1, w2, w3⟩ := x_chg (σ := σ) (x := x) h
  obtain ⟨c2, z2, q1, q2, q3⟩ := C_remove (σ := σ) (x := x) FD_1 w2 h.1.2 i
  have hWS : WS (takO A n i).2 (nO (takO A n i).2) := by
    obtain ⟨k, w⟩ := takO_WS (i := i) h.1.2
    rw [nO_eq w]; exact w
  obtain ⟨c3, z3, p1, p2⟩ := w3 (takO A n i) c2 z2 _ hWS q2 (q3.mono (by omega) (by omega))
  refine ⟨c3, z3, _, ?_, p2⟩
  unfold D_X9_take
  rw [xm_o, Option.bind_some, xm_5, Option.bind_some, xm_0, Option.bind_some, w1, Option.bind_some, xm_0, Option.bind_some, q1, bd_some, p1, bd_some]
theorem X_aim (h : XI ci cz A n H S p pl) (i a : Int32) : Did σ x (D_X9_aim x i a (xh σ x ci cz)) (aimO A n i a).1 (aimO A n i a).2 (endH (aimO A n i a).1 H A) S p pl := by
  obtain ⟨c1, z1, w1, w2, w3⟩ := x_chg (σ := σ) (x := x) h
  obtain ⟨c2, z2, q1, q2, q3⟩ := C_turn (σ := σ) (x := x) FD_1 w2 h.1.2 i a
  have hWS : WS (aimO A n i a).2 (nO (aimO A n i a).2) := by
    have w := aimO_WS (i := i) (a := a) h.1.2
    rw [nO_eq w]; exact w
  obtain ⟨c3, z3, p1, p2⟩ := w3 (aimO A n i a) c2 z2 _ hWS q2 (q3.mono (by omega) (by omega))
  refine ⟨c3, z3, _, ?_, p2⟩
  unfold D_X9_aim
  rw [xm_o, Option.bind_some, xm_5, Option.bind_some, xm_0, Option.bind_some, w1, Option.bind_some, xm_0, Option.bind_some, q1, bd_some, p1, bd_some]
theorem X_wash (h : XI ci cz A n H S p pl) (i : Int32) : Did σ x (D_X9_wash x i (xh σ x ci cz)) (wasO A n i).1 (wasO A n i).2 (endH (wasO A n i).1 H A) S p pl := by
  obtain ⟨c1, z1, w1, w2, w3⟩ := x_chg (σ := σ) (x := x) h
  obtain ⟨c2, z2, q1, q2, q3⟩ := C_clean (σ := σ) (x := x) FD_1 w2 h.1.2 i
  have hWS : WS (wasO A n i).2 (nO (wasO A n i).2) := by
    have w := wasO_WS (i := i) h.1.2
    rw [nO_eq w]; exact w
  obtain ⟨c3, z3, p1, p2⟩ := w3 (wasO A n i) c2 z2 _ hWS q2 (q3.mono (by omega) (by omega))
  refine ⟨c3, z3, _, ?_, p2⟩
  unfold D_X9_wash
  rw [xm_o, Option.bind_some, xm_5, Option.bind_some, xm_0, Option.bind_some, w1, Option.bind_some, xm_0, Option.bind_some, q1, bd_some, p1, bd_some]
theorem X_wind (h : XI ci cz A n H S p pl) (w : Int32) : Did σ x (D_X9_wind x w (xh σ x ci cz)) (winO A w).1 (winO A w).2 (endH (winO A w).1 H A) S p pl := by
  obtain ⟨c1, z1, w1, w2, w3⟩ := x_chg (σ := σ) (x := x) h
  obtain ⟨c2, z2, q1, q2, q3⟩ := C_blow (σ := σ) (x := x) FD_1 w2 h.1.2 w
  have hWS : WS (winO A w).2 (nO (winO A w).2) := by
    have w := winO_WS (w := w) h.1.2
    rw [nO_eq w]; exact w
  obtain ⟨c3, z3, p1, p2⟩ := w3 (winO A w) c2 z2 _ hWS q2 (q3.mono (by omega) (by omega))
  refine ⟨c3, z3, _, ?_, p2⟩
  unfold D_X9_wind
  rw [xm_o, Option.bind_some, xm_5, Option.bind_some, xm_0, Option.bind_some, w1, Option.bind_some, xm_0, Option.bind_some, q1, bd_some, p1, bd_some]
theorem X_pass (h : XI ci cz A n H S p pl) (d : Int32) : Did σ x (D_X9_pass x d (xh σ x ci cz)) (pasO A n d).1 (pasO A n d).2 (endH (pasO A n d).1 H A) S p pl := by
  obtain ⟨c1, z1, w1, w2, w3⟩ := x_chg (σ := σ) (x := x) h
  obtain ⟨c2, z2, q1, q2, q3⟩ := C_spend (σ := σ) (x := x) FD_1 LD_1 w2 h.1.2 d
  have hWS : WS (pasO A n d).2 (nO (pasO A n d).2) := by
    have w := pasO_WS (d := d) h.1.2
    rw [nO_eq w]; exact w
  obtain ⟨c3, z3, p1, p2⟩ := w3 (pasO A n d) c2 z2 _ hWS q2 (q3.mono (by omega) (by omega))
  refine ⟨c3, z3, _, ?_, p2⟩
  unfold D_X9_pass
  rw [xm_o, Option.bind_some, xm_5, Option.bind_some, xm_0, Option.bind_some, w1, Option.bind_some, xm_1, Option.bind_some, q1, bd_some, p1, bd_some]
/-! slots, undo, the pad -/
theorem X_saveN {i : Int32} (hi : ¬ rng i 0 1) : D_X9_save x i (xh σ x ci cz) = some (-2, xh σ x ci cz) := by
  unfold D_X9_save
  rw [xm_o, Option.bind_some, x_isSlot, bd_some, if_neg hi, if_pos rfl]
theorem X_save (h : XI ci cz A n H S p pl) {q : Nat} (hq : q < 2) : Did σ x (D_X9_save x (nI q) (xh σ x ci cz)) (A 6) A H (fun j => if j = q then some A else S j) p pl := by
  obtain ⟨⟨h1, h2⟩, h3, ⟨nx, h4⟩, h5⟩ := h
  obtain ⟨c1, z1, w1, w2, w3⟩ := C_copy (σ := σ) (x := x) (FD_s hq) FD_1 h1 h2.1.1.1 (by omega)
  have e0 : z1 0 = cz 0 := (w3 0 (by omega)).2
  have hf : fr 0 1 c1 z1 c1 (va_up z1 0 (upd (z1 0) 7 (z1 0 7 ||| ((1 : Int32) <<< (nI q &&& 31))))) := fr.rfl.upz (by omega) (by omega)
  have hr : rng (nI q) 0 1 := by unfold rng; rw [nI_toInt (by omega)]; omega
  have hA1 : FA c1 z1 1 A n := h1.fr w3 (by omega)
  refine ⟨c1, _, n, ?_, ⟨hA1.fr hf (by omega), h2⟩, (h3.fr w3 (by omega)).fr hf (by omega), ⟨nx, ?_⟩, fun i hi => ?_⟩
  · unfold D_X9_save D_X7_keep
    rw [xm_o, Option.bind_some, x_isSlot, bd_some, if_pos hr, if_neg (by decide), xm_6, Option.bind_some, xm_0, Option.bind_some, xs_o2, Option.bind_some, c_state2 hq, bd_some, mtO_some, w1, Option.bind_some, Option.bind_some, xm_7, Option.bind_some, xm_p7, Option.bind_some, xm_0, Option.bind_some, xf_6 FD_1.1, Option.bind_some, (hA1.fr hf (by omega)).1.1]
  · have h4' := h4.fr w3 (Or.inr (by omega))
    refine ⟨h4'.1, by rw [up_ne (by omega)]; exact h4'.2.1, fun j B hj => ?_⟩
    obtain ⟨k, g1, g2⟩ := h4'.2.2 j B hj
    exact ⟨k, g1, g2.fr hf (by omega)⟩
  · rw [up_eq, upd_eq, bit_or, bit_one (by omega), e0]
    rw [e0] at hf
    have := h5 i hi
    by_cases e : i = q
    · dsimp only
      rw [if_pos e]
      refine ⟨by simp [e], n, h2, ?_⟩
      rw [e]
      exact w2.fr hf (by omega)
    · dsimp only
      rw [if_neg e]
      rcases hS : S i with _ | B
      · rw [hS] at this
        simp [this, e]
      · rw [hS] at this
        obtain ⟨g1, k, g2, g3⟩ := this
        exact ⟨by simp [g1], k, g2, (g3.fr w3 (by omega)).fr hf (by omega)⟩
theorem X_restoreN {i : Int32} (hi : ¬ rng i 0 1) : D_X9_restore x i (xh σ x ci cz) = some (-2, xh σ x ci cz) := by
  unfold D_X9_restore
  rw [xm_o, Option.bind_some, x_isSlot, bd_some, if_neg hi, if_pos rfl]
theorem X_restore0 (h : XI ci cz A n H S p pl) {q : Nat} (hq : q < 2) (hS : S q = none) : D_X9_restore x (nI q) (xh σ x ci cz) = some (-5, xh σ x ci cz) := by
  have hr : rng (nI q) 0 1 := by unfold rng; rw [nI_toInt (by omega)]; omega
  have := h.2.2.2 q hq
  rw [hS] at this
  unfold D_X9_restore
  rw [xm_o, Option.bind_some, x_isSlot, bd_some, if_pos hr, if_neg (by decide), xm_7, Option.bind_some, if_pos ((bit_get _ (by omega)).2 this)]
theorem X_restore (h : XI ci cz A n H S p pl) {q : Nat} (hq : q < 2) {B : Nat → Int32} (hS : S q = some B) : Did σ x (D_X9_restore x (nI q) (xh σ x ci cz)) (B 6) B (pushH H A) S p pl := by
  have hr : rng (nI q) 0 1 := by unfold rng; rw [nI_toInt (by omega)]; omega
  have hs := h.2.2.2 q hq
  rw [hS] at hs
  obtain ⟨g1, k, g2, g3⟩ := hs
  obtain ⟨⟨h1, h2⟩, h3, ⟨nx, h4⟩, h5⟩ := h
  have h7 := h4.1.1
  obtain ⟨c1, z1, w1, w2, w3, w4⟩ := C_note (σ := σ) (x := x) h1 h2 h4
  have g4 : FA c1 z1 (158 + 13 * q) B k := g3.fr w4 (by omega)
  obtain ⟨c2, z2, q1, q2, q3⟩ := C_copy (σ := σ) (x := x) FD_1 (FD_s hq) g4 g2.1.1.1 (by omega)
  obtain ⟨z3, nx', p1, p2, p3⟩ := x_rec (σ := σ) (x := x) (w2.fr q3 (Or.inl (by omega))) (w3.fr q3 (by omega)) h2 (B 6)
  have hf3 : fr 62 63 c2 z2 c2 z3 := fun j hj => ⟨rfl, p3 j (by omega)⟩
  have h6 : endH (B 6) H A = pushH H A := by
    unfold endH
    rw [if_pos]
    rw [g2.1.1.2, pu_le, nI_toInt (by have := g2.2; omega)]
    have e : (0 : Int32).toInt = 0 := rfl
    omega
  rw [h6] at p2
  refine ⟨c2, z3, k, ?_, ⟨q2.fr hf3 (by omega), g2⟩, ((h3.fr w4 (by omega)).fr q3 (by omega)).fr hf3 (by omega), ⟨nx', p2⟩, ((h5.fr w4 (by omega)).fr q3 (by omega)).fr hf3 (by omega)⟩
  unfold D_X9_restore D_X7_bringBack
  rw [xm_o, Option.bind_some, x_isSlot, bd_some, if_pos hr, if_neg (by decide), xm_7, Option.bind_some, if_neg (fun e => by rw [bit_get _ (by omega), g1] at e; cases e), xm_5, Option.bind_some, xm_0, Option.bind_some, w1, Option.bind_some, xm_6, Option.bind_some, xm_0, Option.bind_some, xs_o2, Option.bind_some, c_state2 hq, bd_some, mtO_some, q1, Option.bind_some, Option.bind_some, xm_0, Option.bind_some, xf_6 FD_1.1, Option.bind_some, q2.1.1, p1, bd_some]
theorem X_undo0 (h : XI ci cz A n [] S p pl) : D_X9_undo x (xh σ x ci cz) = some (-5, xh σ x ci cz) := by
  obtain ⟨nx, h4⟩ := h.2.2.1
  unfold D_X9_undo
  rw [xm_o, Option.bind_some, xm_5, Option.bind_some, xm_0, Option.bind_some, C_back0 h4, bd_some, if_pos rfl]
theorem X_undo {H0 : List (Nat → Int32)} {B : Nat → Int32} (h : XI ci cz A n (H0 ++ [B]) S p pl) : Did σ x (D_X9_undo x (xh σ x ci cz)) (nI H0.length) B H0 S p pl := by
  obtain ⟨⟨h1, h2⟩, h3, ⟨nx, h4⟩, h5⟩ := h
  obtain ⟨c1, z1, k, nx', w1, w2, w3, w4, w5, w6⟩ := C_back (σ := σ) (x := x) h4
  refine ⟨c1, z1, k, ?_, ⟨w3, w2⟩, ⟨by rw [(w6 50 (by omega)).2]; exact h3.1, fun i hi => by rw [(w6 (51 + 1) (by omega)).1]; exact h3.2 i hi⟩, ⟨nx', w4⟩, fun i hi => ?_⟩
  · unfold D_X9_undo D_X3_size
    rw [xm_o, Option.bind_some, xm_5, Option.bind_some, xm_0, Option.bind_some, w1, bd_some, if_neg (by decide), xm_5, Option.bind_some, xy_o, Option.bind_some, xy_2, Option.bind_some, bd_some, w5]
  · have := h5 i hi
    rw [(w6 0 (by omega)).2]
    rcases hS : S i with _ | B'
    · rw [hS] at this; exact this
    · rw [hS] at this
      obtain ⟨g1, k2, g2, g3⟩ := this
      have hf : fr 1 158 ci cz c1 z1 := fun j hj => by
        by_cases e : j = 0
        · exact w6 j (Or.inl e)
        · exact w6 j (Or.inr ⟨by omega, by omega⟩)
      exact ⟨g1, k2, g2, g3.fr hf (by omega)⟩
theorem XI_pad {ci' cz' : Nat → Nat → Int32} {p' : Nat → Int32} {pl' : Nat} (h : XI ci cz A n H S p pl) (hf : fr 50 53 ci cz ci' cz') (hp : PadR ci' cz' p' pl') : XI ci' cz' A n H S p' pl' := by
  obtain ⟨⟨h1, h2⟩, h3, ⟨nx, h4⟩, h5⟩ := h
  exact ⟨⟨h1.fr hf (by omega), h2⟩, hp, ⟨nx, h4.fr hf (by omega)⟩, h5.fr hf (by omega)⟩
theorem X_wipe (h : XI ci cz A n H S p pl) : Did σ x (D_X9_wipe x (xh σ x ci cz)) (nI pl) A H S p 0 := by
  obtain ⟨z1, w1, w2, w3⟩ := C_empty (σ := σ) (x := x) h.2.1
  refine ⟨ci, z1, n, ?_, XI_pad h w3 w2⟩
  unfold D_X9_wipe
  rw [xm_o, Option.bind_some, xm_3, Option.bind_some, w1, bd_some]
theorem X_putN (l : Int64) (hn : ∀ k, ¬ good (ub l) k) : D_X9_put x l (xh σ x ci cz) = some (-2, xh σ x ci cz) := by
  unfold D_X9_put
  rw [xm_o, Option.bind_some, xm_3, Option.bind_some, C_putN l hn, bd_some]
theorem X_put (h : XI ci cz A n H S p pl) (l : Int64) {k : Nat} (hg : good (ub l) k) : if pl + k ≤ 80 then Did σ x (D_X9_put x l (xh σ x ci cz)) (nI (pl + k)) A H S (putF (ub l) k pl p) (pl + k) else Did σ x (D_X9_put x l (xh σ x ci cz)) (-4) A H S p pl := by
  obtain ⟨c1, z1, w1, w2, w3⟩ := C_put (σ := σ) (x := x) h.2.1 l hg
  have hd : D_X9_put x l (xh σ x ci cz) = some (if pl + k ≤ 80 then nI (pl + k) else -4, xh σ x c1 z1) := by
    unfold D_X9_put
    rw [xm_o, Option.bind_some, xm_3, Option.bind_some, w1, bd_some]
  rw [hd]
  by_cases c : pl + k ≤ 80
  · rw [if_pos c] at w2 ⊢
    rw [if_pos c]
    exact ⟨c1, z1, n, rfl, XI_pad h w3 w2⟩
  · rw [if_neg c] at w2 ⊢
    rw [if_neg c]
    exact ⟨c1, z1, n, rfl, XI_pad h w3 w2⟩
theorem X_fault (h : XI ci cz A n H S p pl) : Did σ x (D_X9_fault x (xh σ x ci cz)) (fauO p pl) A H S p pl := by
  obtain ⟨c1, z1, w1, w2, w3⟩ := C_read (σ := σ) (x := x) h.2.1
  refine ⟨c1, z1, n, ?_, h.fr w3 (Or.inr ⟨by omega, by omega⟩)⟩
  unfold D_X9_fault
  rw [xm_o, Option.bind_some, xm_4, Option.bind_some, w1, bd_some]
end XE
