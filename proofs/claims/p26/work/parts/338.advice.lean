section AV
variable {σ : Hp} {x : Nat} {ci cz : Nat → Nat → Int32} {n : Nat} {A : Nat → Int32}
def bstR (cz : Nat → Nat → Int32) (b : Int32 × Int32) : Prop := cz 25 3 = b.1 ∧ cz 25 4 = b.2 ∧ (b.1 = -6 → b.2 = -6)
theorem bst_6 {ok : Nat → Bool} {f : Nat → Int32} : ∀ k, k < 100 → (bst ok f k).1 = -6 → (bst ok f k).2 = -6
  | 0, _, _ => rfl
  | k + 1, hk, h => by
    unfold bst at h ⊢
    split
    · rename_i hc
      rw [if_pos hc] at h
      exact absurd h (nI_n6 (by omega))
    · rename_i hc
      rw [if_neg hc] at h
      exact bst_6 k (by omega) h
theorem c_weigh {B : Nat → Int32} {k : Nat} (h : FA ci cz 26 B k) (hW : WF B k) (i : Int32) {b : Int32 × Int32} (hb : bstR cz b) : ∃ ci' cz', D_X0_weigh (x + 25) i (xh σ x ci cz) = some (xh σ x ci' cz') ∧ (cz' 25 3 = (if b.2 < brings B k then (i, brings B k) else b).1 ∧ cz' 25 4 = (if b.2 < brings B k then (i, brings B k) else b).2) ∧ fr 25 50 ci cz ci' cz' := by
  obtain ⟨c1, z1, w1, w2, w3⟩ := c_look (σ := σ) (x := x) FD_26 LD_26 h hW
  obtain ⟨c2, z2, q1, q2, q3⟩ := c_day (σ := σ) (x := x) FD_26 LD_26 (h.fr w3 (Or.inl (Nat.le_refl _))) hW w2
  have hf := (w3.tr q3).mono (show 25 ≤ 26 + 13 by omega) (show 26 + 24 ≤ 50 by omega)
  have z25 : z2 25 = cz 25 := ((w3.tr q3) 25 (by omega)).2
  have hnn := brings_nn hW
  have n6 : (-6 : Int32).toInt = -6 := rfl
  have head : D_X0_weigh (x + 25) i (xh σ x ci cz) = if b.1 = -6 then D_X0_weigh_b32 (x + 25) i (brings B k) (xh σ x c2 z2) else if brings B k ≤ b.2 then some (xh σ x c2 z2) else D_X0_weigh_b32 (x + 25) i (brings B k) (xh σ x c2 z2) := by
    unfold D_X0_weigh
    rw [xa_o, Option.bind_some, xa_2, Option.bind_some, w1, Option.bind_some, xa_2, Option.bind_some, q1, bd_some, xa_3, Option.bind_some, xa_4, Option.bind_some, z25, hb.1, hb.2.1]
  rw [head]
  have take : D_X0_weigh_b32 (x + 25) i (brings B k) (xh σ x c2 z2) = some (xh σ x c2 (va_up (va_up z2 25 (upd (z2 25) 3 i)) 25 (upd (va_up z2 25 (upd (z2 25) 3 i) 25) 4 (brings B k)))) := by
    unfold D_X0_weigh_b32
    rw [xa_p3, Option.bind_some, xa_p4, Option.bind_some]
  have fin : (va_up (va_up z2 25 (upd (z2 25) 3 i)) 25 (upd (va_up z2 25 (upd (z2 25) 3 i) 25) 4 (brings B k)) 25 3 = i ∧ va_up (va_up z2 25 (upd (z2 25) 3 i)) 25 (upd (va_up z2 25 (upd (z2 25) 3 i) 25) 4 (brings B k)) 25 4 = brings B k) := by
    constructor
    · rw [up_eq, upd_ne (by omega), up_eq, upd_eq]
    · rw [up_eq, upd_eq]
  by_cases c : b.1 = -6
  · rw [if_pos c, take, if_pos (by rw [pu_lt, hb.2.2 c, n6]; omega)]
    exact ⟨_, _, rfl, fin, (hf.upz (by omega) (by omega)).upz (by omega) (by omega)⟩
  · rw [if_neg c]
    by_cases c2 : brings B k ≤ b.2
    · rw [if_pos c2, if_neg (by rw [pu_lt]; rw [pu_le] at c2; omega)]
      exact ⟨_, _, rfl, ⟨by rw [z25]; exact hb.1, by rw [z25]; exact hb.2.1⟩, hf⟩
    · rw [if_neg c2, take, if_pos (by rw [pu_lt]; rw [pu_le] at c2; omega)]
      exact ⟨_, _, rfl, fin, (hf.upz (by omega) (by omega)).upz (by omega) (by omega)⟩
theorem c_forget : ∃ cz', D_X0_forgetBest (x + 25) (xh σ x ci cz) = some (xh σ x ci cz') ∧ bstR cz' (-6, -6) ∧ fr 25 50 ci cz ci cz' := by
  refine ⟨va_up (va_up cz 25 (upd (cz 25) 3 (-6))) 25 (upd (upd (cz 25) 3 (-6)) 4 (-6)), ?_, ⟨?_, ?_, fun _ => rfl⟩, (fr.rfl.upz (by omega) (by omega)).upz (by omega) (by omega)⟩
  · unfold D_X0_forgetBest
    rw [xa_o, Option.bind_some, xa_p3, Option.bind_some, xa_p4, Option.bind_some, up_eq]
  · rw [up_eq, upd_ne (by omega), upd_eq]
  · rw [up_eq, upd_eq]
theorem c_answer {b : Int32 × Int32} (hb : bstR cz b) (w : Int32) : D_X0_answer (x + 25) w (xh σ x ci cz) = some (selO b w, xh σ x ci cz) := by
  unfold D_X0_answer selO
  rw [xa_o, Option.bind_some, xa_3, Option.bind_some, xa_4, Option.bind_some, hb.1, hb.2.1]
  by_cases c : w = 0
  · rw [if_pos c, if_pos c]
  · rw [if_neg c, if_neg c]
/-- the least worth -/
theorem c_worth_w6 (hW : WS A n) (w : Int32) (kx : Hp → Option (Int32 × Hp)) : ∀ (k i f : Nat) (ci cz : Nat → Nat → Int32), i + k = n → k < f → FA ci cz 1 A n → bstR cz (bst (fun _ => true) (fun k => brings (takeA A n k) (n - 1)) i) → ∃ ci' cz', D_X0_leastWorth_w6 (x + 25) w kx f (nI i) (xh σ x ci cz) = kx (xh σ x ci' cz') ∧ bstR cz' (bst (fun _ => true) (fun k => brings (takeA A n k) (n - 1)) n) ∧ fr 25 50 ci cz ci' cz' := by
  intro k
  have hn := hW.2
  induction k with
  | zero =>
    intro i f ci cz hi hf h hb
    obtain ⟨f, rfl⟩ : ∃ g, f = g + 1 := ⟨f - 1, by omega⟩
    have : i = n := by omega
    subst this
    refine ⟨ci, cz, ?_, hb, fr.rfl⟩
    unfold D_X0_leastWorth_w6
    rw [xa_0, Option.bind_some, xf_6 FD_1.1, Option.bind_some, h.1.1, hW.1.1.2, if_pos (Int32.le_refl _)]
  | succ k ih =>
    intro i f ci cz hi hf h hb
    obtain ⟨f, rfl⟩ : ∃ g, f = g + 1 := ⟨f - 1, by omega⟩
    have hin : i < n := by omega
    obtain ⟨c1, z1, w1, w2, w3⟩ := C_copy (σ := σ) (x := x) FD_26 FD_1 h hW.1.1.1 (by omega)
    obtain ⟨c2, z2, q1, q2, q3⟩ := C_remove (σ := σ) (x := x) FD_26 w2 hW (nI i)
    have hr : rng (nI i) 0 ((n : Int) - 1) := by unfold rng; rw [nI_toInt (by omega)]; omega
    have et : takO A n (nI i) = (nI (n - 1), takeA A n i) := by
      unfold takO
      rw [if_neg (fun q => q hr), nI_toInt (by omega)]
      rfl
    rw [et] at q1 q2
    dsimp only at q1 q2
    have en : nO (takeA A n i) = n - 1 := by unfold nO; rw [takeA_6, nI_toInt (by omega)]; omega
    rw [en] at q2
    have f2 := (w3.tr q3).mono (show 25 ≤ 26 by omega) (show 26 + 13 ≤ 50 by omega)
    have hb2 : bstR z2 (bst (fun _ => true) (fun k => brings (takeA A n k) (n - 1)) i) := by
      have e : z2 25 = cz 25 := ((w3.tr q3) 25 (by omega)).2
      unfold bstR
      rw [e]; exact hb
    obtain ⟨c3, z3, p1, p2, p3⟩ := c_weigh (σ := σ) (x := x) q2 (takeA_WF hW.1 hin) (nI i) hb2
    have f3 := f2.tr p3
    have hstep : (if (bst (fun _ => true) (fun k => brings (takeA A n k) (n - 1)) i).2 < brings (takeA A n i) (n - 1) then (nI i, brings (takeA A n i) (n - 1)) else bst (fun _ => true) (fun k => brings (takeA A n k) (n - 1)) i) = bst (fun _ => true) (fun k => brings (takeA A n k) (n - 1)) (i + 1) := by
      rw [bst]
      by_cases c : (bst (fun _ => true) (fun k => brings (takeA A n k) (n - 1)) i).2 < brings (takeA A n i) (n - 1)
      · rw [if_pos c, if_pos ⟨rfl, c⟩]
      · rw [if_neg c, if_neg (fun q => c q.2)]
    rw [hstep] at p2
    obtain ⟨c4, z4, r1, r2, r3⟩ := ih (i + 1) f c3 z3 (by omega) (by omega) (h.fr f3 (Or.inl (by omega))) ⟨p2.1, p2.2, bst_6 _ (by omega)⟩
    refine ⟨c4, z4, ?_, r2, f3.tr r3⟩
    rw [← r1]
    conv => lhs; unfold D_X0_leastWorth_w6
    rw [xa_0, Option.bind_some, xf_6 FD_1.1, Option.bind_some, h.1.1, hW.1.1.2, if_neg (nI_ge (a := i) (b := n) (by omega) (by omega)), xa_1, Option.bind_some, Option.bind_some, w1, Option.bind_some, xa_1, Option.bind_some, q1, bd_some, p1, Option.bind_some, nI_1]
theorem C_worth (h : FA ci cz 1 A n) (hW : WS A n) (w : Int32) : ∃ ci' cz', D_X0_leastWorth (x + 25) w (xh σ x ci cz) = some (selO (bst (fun _ => true) (fun k => brings (takeA A n k) (n - 1)) n) w, xh σ x ci' cz') ∧ fr 25 50 ci cz ci' cz' := by
  obtain ⟨z1, w1, w2, w3⟩ := c_forget (σ := σ) (x := x) (ci := ci) (cz := cz)
  obtain ⟨c2, z2, q1, q2, q3⟩ := c_worth_w6 (σ := σ) (x := x) hW w (fun s27 =>
  bd (D_X0_answer (x + 25) w s27) fun i28 s29 =>
  some (i28, s29)
  ) n 0 FU ci z1 (by omega) (by rw [FU_eq]; have := hW.2; omega) (h.fr w3 (Or.inl (by omega))) w2
  refine ⟨c2, z2, ?_, w3.tr q3⟩
  rw [show nI 0 = (0 : Int32) from rfl] at q1
  unfold D_X0_leastWorth
  rw [xa_o, Option.bind_some, w1, Option.bind_some, q1, c_answer q2, bd_some]
end AV
