section AW
variable {σ : Hp} {x : Nat} {ci cz : Nat → Nat → Int32} {n : Nat} {A : Nat → Int32}
theorem bst_s {ok : Nat → Bool} {f : Nat → Int32} {i : Nat} (h : ok i = true) : (if (bst ok f i).2 < f i then (nI i, f i) else bst ok f i) = bst ok f (i + 1) := by
  rw [bst]
  by_cases c : (bst ok f i).2 < f i
  · rw [if_pos c, if_pos ⟨h, c⟩]
  · rw [if_neg c, if_neg (fun q => c q.2)]
theorem bst_n {ok : Nat → Bool} {f : Nat → Int32} {i : Nat} (h : ok i = false) : bst ok f i = bst ok f (i + 1) := by
  rw [bst, if_neg (fun q => by rw [h] at q; cases q.1)]
theorem bstR.fr {cz' : Nat → Nat → Int32} {b : Int32 × Int32} (h : bstR cz b) (e : cz' 25 = cz 25) : bstR cz' b := by
  unfold bstR
  rw [e]; exact h
theorem c_wash_w6 (hW : WS A n) (kx : Hp → Option (Int32 × Hp)) : ∀ (k i f : Nat) (ci cz : Nat → Nat → Int32), i + k = n → k < f → FA ci cz 1 A n → bstR cz (bst (fun _ => true) (fun k => brings (upd A (7 + 5 * k + 3) 0) n) i) → ∃ ci' cz', D_X0_mirrorToWash_w6 (x + 25) kx f (nI i) (xh σ x ci cz) = kx (xh σ x ci' cz') ∧ bstR cz' (bst (fun _ => true) (fun k => brings (upd A (7 + 5 * k + 3) 0) n) n) ∧ fr 25 50 ci cz ci' cz' := by
  intro k
  have hn := hW.2
  induction k with
  | zero =>
    intro i f ci cz hi hf h hb
    obtain ⟨f, rfl⟩ : ∃ g, f = g + 1 := ⟨f - 1, by omega⟩
    have : i = n := by omega
    subst this
    refine ⟨ci, cz, ?_, hb, fr.rfl⟩
    unfold D_X0_mirrorToWash_w6
    rw [xa_0, Option.bind_some, xf_6 FD_1.1, Option.bind_some, h.1.1, hW.1.1.2, if_pos (Int32.le_refl _)]
  | succ k ih =>
    intro i f ci cz hi hf h hb
    obtain ⟨f, rfl⟩ : ∃ g, f = g + 1 := ⟨f - 1, by omega⟩
    have hin : i < n := by omega
    obtain ⟨c1, z1, w1, w2, w3⟩ := C_copy (σ := σ) (x := x) FD_26 FD_1 h hW.1.1.1 (by omega)
    obtain ⟨c2, z2, q1, q2, q3⟩ := C_clean (σ := σ) (x := x) FD_26 w2 hW (nI i)
    have hr : rng (nI i) 0 ((n : Int) - 1) := by unfold rng; rw [nI_toInt (by omega)]; omega
    have en := nO_eq (wasO_WS (i := nI i) hW)
    have et : wasO A n (nI i) = (gA A i 3, upd A (7 + 5 * i + 3) 0) := by
      unfold wasO
      rw [if_neg (fun q => q hr), nI_toInt (by omega)]
      rfl
    rw [et] at q1 q2 en
    dsimp only at q1 q2 en
    rw [en] at q2
    have hWi : WF (upd A (7 + 5 * i + 3) 0) n := upd_WF hW.1 (Or.inr ⟨rfl, by decide⟩)
    have f2 := (w3.tr q3).mono (show 25 ≤ 26 by omega) (show 26 + 13 ≤ 50 by omega)
    have hb2 := hb.fr (cz' := z2) ((w3.tr q3) 25 (by omega)).2
    obtain ⟨c3, z3, p1, p2, p3⟩ := c_weigh (σ := σ) (x := x) q2 hWi (nI i) hb2
    have f3 := f2.tr p3
    rw [bst_s (ok := fun _ => true) (f := fun k => brings (upd A (7 + 5 * k + 3) 0) n) rfl] at p2
    obtain ⟨c4, z4, r1, r2, r3⟩ := ih (i + 1) f c3 z3 (by omega) (by omega) (h.fr f3 (Or.inl (by omega))) ⟨p2.1, p2.2, bst_6 _ (by omega)⟩
    refine ⟨c4, z4, ?_, r2, f3.tr r3⟩
    rw [← r1]
    conv => lhs; unfold D_X0_mirrorToWash_w6
    rw [xa_0, Option.bind_some, xf_6 FD_1.1, Option.bind_some, h.1.1, hW.1.1.2, if_neg (nI_ge (a := i) (b := n) (by omega) (by omega)), xa_1, Option.bind_some, Option.bind_some, w1, Option.bind_some, xa_1, Option.bind_some, q1, bd_some, p1, Option.bind_some, nI_1]
theorem C_wash (h : FA ci cz 1 A n) (hW : WS A n) : ∃ ci' cz', D_X0_mirrorToWash (x + 25) (xh σ x ci cz) = some (tWaO A n, xh σ x ci' cz') ∧ fr 25 50 ci cz ci' cz' := by
  obtain ⟨z1, w1, w2, w3⟩ := c_forget (σ := σ) (x := x) (ci := ci) (cz := cz)
  obtain ⟨c2, z2, q1, q2, q3⟩ := c_wash_w6 (σ := σ) (x := x) hW (fun s26 =>
  bd (D_X0_answer (x + 25) (0 : Int32) s26) fun i27 s28 =>
  some (i27, s28)
  ) n 0 FU ci z1 (by omega) (by rw [FU_eq]; have := hW.2; omega) (h.fr w3 (Or.inl (by omega))) w2
  refine ⟨c2, z2, ?_, w3.tr q3⟩
  rw [show nI 0 = (0 : Int32) from rfl] at q1
  unfold D_X0_mirrorToWash
  rw [xa_o, Option.bind_some, w1, Option.bind_some, q1, c_answer q2, bd_some]
  unfold selO tWaO
  rw [if_pos rfl]
theorem c_best_w7 (hW : WS A n) {r a : Int32} (hr : rng r 0 19) (ha : rng a 0 3) (w : Int32) (kx : Hp → Option (Int32 × Hp)) : ∀ (k i f : Nat) (ci cz : Nat → Nat → Int32), i + k = 20 → k < f → FA ci cz 1 A n → bstR cz (bst (fun k => decide (mAt A n r (nI k) = none)) (fun k => brings (putA A n r (nI k) a) (n + 1)) i) → ∃ ci' cz', D_X0_columnForOneMore_w7 (x + 25) r a w kx f (nI i) (xh σ x ci cz) = kx (xh σ x ci' cz') ∧ bstR cz' (bst (fun k => decide (mAt A n r (nI k) = none)) (fun k => brings (putA A n r (nI k) a) (n + 1)) 20) ∧ fr 25 50 ci cz ci' cz' := by
  intro k
  have hn := hW.2
  induction k with
  | zero =>
    intro i f ci cz hi hf h hb
    obtain ⟨f, rfl⟩ : ∃ g, f = g + 1 := ⟨f - 1, by omega⟩
    have : i = 20 := by omega
    subst this
    refine ⟨ci, cz, ?_, hb, fr.rfl⟩
    unfold D_X0_columnForOneMore_w7
    rw [if_pos (by decide)]
  | succ k ih =>
    intro i f ci cz hi hf h hb
    obtain ⟨f, rfl⟩ : ∃ g, f = g + 1 := ⟨f - 1, by omega⟩
    have ho : oI (mAt A n r (nI i)) = -6 ↔ mAt A n r (nI i) = none := oI_eq (fun j hj => by have := (mAt_lt hj).1; omega)
    by_cases c : mAt A n r (nI i) = none
    · obtain ⟨c1, z1, w1, w2, w3⟩ := C_copy (σ := σ) (x := x) FD_26 FD_1 h hW.1.1.1 (by omega)
      obtain ⟨c2, z2, q1, q2, q3⟩ := c_add (σ := σ) (x := x) FD_26 w2 hW r (nI i) a (by omega)
      have hWi : WF (putA A n r (nI i) a) (n + 1) := putA_WF hW.1 (by omega) hr (by unfold rng; rw [nI_toInt (by omega)]; omega) ha c
      have f2 := (w3.tr q3).mono (show 25 ≤ 26 by omega) (show 26 + 13 ≤ 50 by omega)
      have hb2 := hb.fr (cz' := z2) ((w3.tr q3) 25 (by omega)).2
      obtain ⟨c3, z3, p1, p2, p3⟩ := c_weigh (σ := σ) (x := x) q2 hWi (nI i) hb2
      have f3 := f2.tr p3
      rw [bst_s (ok := fun k => decide (mAt A n r (nI k) = none)) (f := fun k => brings (putA A n r (nI k) a) (n + 1)) (decide_eq_true c)] at p2
      obtain ⟨c4, z4, r1, r2, r3⟩ := ih (i + 1) f c3 z3 (by omega) (by omega) (h.fr f3 (Or.inl (by omega))) ⟨p2.1, p2.2, bst_6 _ (by omega)⟩
      refine ⟨c4, z4, ?_, r2, f3.tr r3⟩
      rw [← r1]
      conv => lhs; unfold D_X0_columnForOneMore_w7
      rw [if_neg (show ¬ (20 : Int32) ≤ nI i from nI_ge (a := i) (b := 20) (by omega) (by omega)), xa_0, Option.bind_some, c_mirrorIn FD_1 h hW.1, bd_some, if_pos (ho.2 c), xa_1, Option.bind_some, xa_0, Option.bind_some, w1, Option.bind_some, xa_1, Option.bind_some, q1, bd_some, p1, Option.bind_some, nI_1]
    · rw [bst_n (ok := fun k => decide (mAt A n r (nI k) = none)) (decide_eq_false c)] at hb
      obtain ⟨c4, z4, r1, r2, r3⟩ := ih (i + 1) f ci cz (by omega) (by omega) h hb
      refine ⟨c4, z4, ?_, r2, r3⟩
      rw [← r1]
      conv => lhs; unfold D_X0_columnForOneMore_w7
      rw [if_neg (show ¬ (20 : Int32) ≤ nI i from nI_ge (a := i) (b := 20) (by omega) (by omega)), xa_0, Option.bind_some, c_mirrorIn FD_1 h hW.1, bd_some, if_neg (fun q => c (ho.1 q)), nI_1]
theorem C_best (h : FA ci cz 1 A n) (hW : WS A n) {r a : Int32} (hr : rng r 0 19) (ha : rng a 0 3) (w : Int32) : ∃ ci' cz', D_X0_columnForOneMore (x + 25) r a w (xh σ x ci cz) = some (selO (bst (fun k => decide (mAt A n r (nI k) = none)) (fun k => brings (putA A n r (nI k) a) (n + 1)) 20) w, xh σ x ci' cz') ∧ fr 25 50 ci cz ci' cz' := by
  obtain ⟨z1, w1, w2, w3⟩ := c_forget (σ := σ) (x := x) (ci := ci) (cz := cz)
  obtain ⟨c2, z2, q1, q2, q3⟩ := c_best_w7 (σ := σ) (x := x) hW hr ha w (fun s30 =>
  bd (D_X0_answer (x + 25) w s30) fun i31 s32 =>
  some (i31, s32)
  ) 20 0 FU ci z1 (by omega) (by rw [FU_eq]; omega) (h.fr w3 (Or.inl (by omega))) w2
  refine ⟨c2, z2, ?_, w3.tr q3⟩
  rw [show nI 0 = (0 : Int32) from rfl] at q1
  unfold D_X0_columnForOneMore
  rw [xa_o, Option.bind_some, w1, Option.bind_some, q1, c_answer q2, bd_some]
theorem c_held (hL : LD 26) {a : Nat} (ha : a < 4) : D_X4_held (x + 39) (nI a) (xh σ x ci cz) = some (ci (26 + 13 + 9 + 1) a, xh σ x ci cz) := by
  unfold D_X4_held
  rw [show x + 39 = x + (26 + 13) from rfl, xl_o hL.1, Option.bind_some, xl_5 hL.1, Option.bind_some, x_rd hL.2.2.2.2.2.1 hL.2.2.2.2.2.2 ha, bd_some]
def mxU (u : Nat → Int32) : Nat → Int32 → Int32
  | 0, b => b
  | k + 1, b => if mxU u k b < u k then u k else mxU u k b
theorem mxU_eq (u : Nat → Int32) (b : Int32) : ∀ k, mxU u k b = mx4 u k b
  | 0 => rfl
  | k + 1 => by
    rw [mxU, mx4, mxU_eq u b k]
    by_cases c : u k ≤ mx4 u k b
    · rw [if_pos c, if_neg (by rw [pu_lt]; rw [pu_le] at c; omega)]
    · rw [if_neg c, if_pos (by rw [pu_lt]; rw [pu_le] at c; omega)]
theorem c_lim78 (u : Nat → Int32) (hu : ∀ a, a < 4 → ci (26 + 13 + 9 + 1) a = u a) (p q b : Int32) (kx : Int32 → Hp → Option (Int32 × Hp)) : ∀ (k a f : Nat), a + k = 4 → k < f → D_X0_limitForAll_w78 (x + 25) p q kx f (mxU u a b) (nI a) (xh σ x ci cz) = kx (mxU u 4 b) (xh σ x ci cz) := by
  intro k
  induction k with
  | zero =>
    intro a f ha hf
    obtain ⟨f, rfl⟩ : ∃ g, f = g + 1 := ⟨f - 1, by omega⟩
    have : a = 4 := by omega
    subst this
    unfold D_X0_limitForAll_w78
    rw [if_pos (by decide)]
  | succ k ih =>
    intro a f ha hf
    obtain ⟨f, rfl⟩ : ∃ g, f = g + 1 := ⟨f - 1, by omega⟩
    rw [← ih (a + 1) f (by omega) (by omega)]
    conv => lhs; unfold D_X0_limitForAll_w78
    rw [if_neg (show ¬ (4 : Int32) ≤ nI a from nI_ge (a := a) (b := 4) (by omega) (by omega)), xa_2, Option.bind_some, c_held LD_26 (by omega), bd_some, nm_eq, hu a (by omega), nI_1]
    rfl
theorem c_lim46 {B : Nat → Int32} (hW : WF B n) (hn : n < 25) (h0 : 1500 ≤ (B 0).toInt) (kx : Int32 → Hp → Option (Int32 × Hp)) : ∀ (k h f : Nat) (ci cz : Nat → Nat → Int32), h + k = 11 → k < f → FA ci cz 26 B n → LK ci cz 26 B n → ∃ ci' cz', D_X0_limitForAll_w46 (x + 25) (maskF (fun _ => true) n) kx f (llF B n h) (nI h) (xh σ x ci cz) = kx (llF B n 11) (xh σ x ci' cz') ∧ fr 25 50 ci cz ci' cz' := by
  intro k
  induction k with
  | zero =>
    intro h f ci cz hh hf _ _
    obtain ⟨f, rfl⟩ : ∃ g, f = g + 1 := ⟨f - 1, by omega⟩
    have : h = 11 := by omega
    subst this
    refine ⟨ci, cz, ?_, fr.rfl⟩
    unfold D_X0_limitForAll_w46
    rw [if_pos (by decide)]
  | succ k ih =>
    intro h f ci cz hh hf hA hk
    obtain ⟨f, rfl⟩ : ∃ g, f = g + 1 := ⟨f - 1, by omega⟩
    obtain ⟨c1, z1, w1, w2, w3, w4⟩ := c_work (σ := σ) (x := x) FD_26 LD_26 hA hW hk (show h < 11 by omega)
    obtain ⟨-, -, hall⟩ := looks_bd hW (show h < 11 by omega)
    have hus : z1 (26 + 13) 7 = maskF (fun _ => true) n := by
      apply bit_ext
      intro i _
      rw [w2.2.2 i, bit_mask _ n (by omega) i]
      by_cases c : i < n
      · rw [hall h0 i c]
      · simp [c]
    obtain ⟨c2, z2, q1, q2⟩ := ih (h + 1) f c1 z1 (by omega) (by omega) (hA.fr w4 (Or.inl (Nat.le_refl _))) w3
    refine ⟨c2, z2, ?_, (w4.mono (by omega) (by omega)).tr q2⟩
    rw [← q1]
    conv => lhs; unfold D_X0_limitForAll_w46
    have hused : D_X4_used (x + 39) (xh σ x c1 z1) = some (maskF (fun _ => true) n, xh σ x c1 z1) := by
      unfold D_X4_used
      rw [show x + 39 = x + (26 + 13) from rfl, xl_o LD_26.1, Option.bind_some, xl_7 LD_26.1, Option.bind_some, hus]
    have w78 := c_lim78 (σ := σ) (x := x) (ci := c1) (cz := z1) (looks B n h).1 w2.2.1 (maskF (fun _ => true) n) (nI h) (llF B n h) (fun i48 s47 =>
      D_X0_limitForAll_w46 (x + 25) (maskF (fun _ => true) n) kx f i48 (nI h + 1) s47
      ) 4 0 FU (by omega) (by rw [FU_eq]; omega)
    rw [show nI 0 = (0 : Int32) from rfl, show mxU (looks B n h).1 0 (llF B n h) = llF B n h from rfl] at w78
    rw [if_neg (show ¬ (11 : Int32) ≤ nI h from nI_ge (a := h) (b := 11) (by omega) (by omega)), xa_2, Option.bind_some, w1, bd_some, xa_2, Option.bind_some, hused, bd_some, if_pos rfl, w78, mxU_eq, nI_1]
    rfl
theorem C_least (h : FA ci cz 1 A n) (hW : WS A n) : ∃ ci' cz', D_X0_limitForAll (x + 25) (xh σ x ci cz) = some (leaO A n, xh σ x ci' cz') ∧ fr 25 50 ci cz ci' cz' := by
  have hn := hW.2
  obtain ⟨c1, z1, w1, w2, w3⟩ := C_copy (σ := σ) (x := x) FD_26 FD_1 h hW.1.1.1 (by omega)
  obtain ⟨c2, z2, q1, q2, q3⟩ := C_set (σ := σ) (x := x) FD_26 w2 hW 0 9999
  have hWS := setO_WS (s := 0) (v := 9999) hW
  have en := nO_eq hWS
  have hc : (((0 : Int32) = 0 ∧ rng 9999 1 9999) ∨ ((0 : Int32) = 1 ∧ rng 9999 1 99) ∨ ((0 : Int32) = 2 ∧ rng 9999 0 20)) := Or.inl ⟨rfl, by decide⟩
  have et : setO A 0 9999 = (A 0, upd A 0 9999) := by
    unfold setO
    rw [if_pos hc]
    rfl
  rw [et] at q1 q2 en hWS
  dsimp only at q1 q2 en hWS
  rw [en] at q2
  obtain ⟨c3, z3, p1, p2, p3⟩ := c_look (σ := σ) (x := x) FD_26 LD_26 q2 hWS.1
  have hA3 : FA c3 z3 26 (upd A 0 9999) n := q2.fr p3 (Or.inl (Nat.le_refl _))
  obtain ⟨c4, z4, r1, r2⟩ := c_lim46 (σ := σ) (x := x) hWS.1 (by omega) (by rw [upd_eq]; decide) (fun i52 s51 =>
  some (i52, s51)
  ) 11 0 FU c3 z3 (by omega) (by rw [FU_eq]; omega) hA3 p2
  rw [show nI 0 = (0 : Int32) from rfl, show llF (upd A 0 9999) n 0 = 1 from rfl] at r1
  refine ⟨c4, z4, ?_, (((w3.tr q3).mono (by omega) (by omega)).tr (p3.mono (by omega) (by omega))).tr r2⟩
  unfold D_X0_limitForAll
  rw [xa_o, Option.bind_some, xa_1, Option.bind_some, xa_0, Option.bind_some, w1, Option.bind_some, xa_1, Option.bind_some, q1, bd_some, xa_2, Option.bind_some, p1, Option.bind_some, xa_1, Option.bind_some, xf_6 FD_26.1, Option.bind_some, hA3.1.1, hWS.1.1.2, nm_eq, mask_all (by omega), r1]
  rfl
end AW
