set_option maxRecDepth 4000 in
theorem kd_all : kdT.all (fun y => decide (y ≤ 500)) = true := by decide
theorem kd_le (j : Nat) : kd j ≤ 500 := by
  rcases Nat.lt_or_ge j kdT.length with q | q
  · have h := List.all_eq_true.1 kd_all (kdT[j]) (List.getElem_mem q)
    unfold kd
    rw [List.getD_eq_getElem?_getD, List.getElem?_eq_getElem q, Option.getD_some]
    exact of_decide_eq_true h
  · unfold kd
    rw [List.getD_eq_getElem?_getD, List.getElem?_eq_none q]
    exact Nat.zero_le _
section X1
variable {σ : Hp} {x : Nat} {ci cz : Nat → Nat → Int32} {j s : Nat}
theorem x_len (hs : kd (j + 1) = 100 + s) : alen (xh σ x ci cz) (x + (j + 1)) = some (nI s) := by
  unfold alen
  rw [xh_row hs]
  rfl
theorem x_ldI (hs : kd j = 100 + s) {i : Nat} (hi : i < s) : ldI (xh σ x ci cz) (x + j) (nI i) = some (ci j i) := by
  have := kd_le j
  unfold ldI
  rw [xh_row hs]
  dsimp only
  rw [nI_toInt (by omega), if_pos (by omega)]
  have e : (nI i).toNatClampNeg = i := by
    have : (nI i).toNatClampNeg = (nI i).toInt.toNat := rfl
    rw [this, nI_toInt (by omega)]
    omega
  rw [e]
theorem x_stI (hs : kd j = 100 + s) {i : Nat} (hi : i < s) (v : Int32) : stI (xh σ x ci cz) (x + j) (nI i) v = some (xh σ x (va_up ci j (upd (ci j) i v)) cz) := by
  have := kd_le j
  unfold stI
  rw [xh_row hs]
  dsimp only
  rw [nI_toInt (by omega), if_pos (by omega)]
  have e : (nI i).toNatClampNeg = i := by
    have : (nI i).toNatClampNeg = (nI i).toInt.toNat := rfl
    rw [this, nI_toInt (by omega)]
    omega
  rw [e, xh_setA hs]
theorem nI_nn {i : Nat} (hi : i < 1000) : ¬ nI i < 0 := nI_pos (by omega)
theorem x_rd (h : kd j = 1) (hs : kd (j + 1) = 100 + s) {i : Nat} (hi : i < s) : D_X1_read (x + j) (nI i) (xh σ x ci cz) = some (ci (j + 1) i, xh σ x ci cz) := by
  have := kd_le (j + 1)
  unfold D_X1_read
  rw [xc_o h, Option.bind_some, if_neg (nI_nn (by omega)), xc_0 h, Option.bind_some, x_len hs, Option.bind_some, if_neg (nI_ge (a := i) (b := s) hi (by omega)), Option.bind_some, x_ldI hs hi, Option.bind_some]
theorem x_wr (h : kd j = 1) (hs : kd (j + 1) = 100 + s) {i : Nat} (hi : i < s) (v : Int32) : D_X1_write (x + j) (nI i) v (xh σ x ci cz) = some (xh σ x (va_up ci (j + 1) (upd (ci (j + 1)) i v)) cz) := by
  have := kd_le (j + 1)
  unfold D_X1_write
  rw [xc_o h, Option.bind_some, if_neg (nI_nn (by omega)), xc_0 h, Option.bind_some, x_len hs, Option.bind_some, if_neg (nI_ge (a := i) (b := s) hi (by omega)), Option.bind_some, x_stI hs hi, Option.bind_some]
theorem x_fillw (hs : kd j = 100 + s) (v : Int32) (kx : Hp → Option Hp) : ∀ (c k f : Nat), k + c = s → c < f → D_J7_fill_53178_w5 (x + j) v (nI s) kx f (nI k) (xh σ x (va_up ci j (fillN (fun _ => v) k (ci j))) cz) = kx (xh σ x (va_up ci j (fillN (fun _ => v) s (ci j))) cz) := by
  have := kd_le j
  intro c
  induction c with
  | zero =>
    intro k f hk hf
    obtain ⟨f, rfl⟩ : ∃ g, f = g + 1 := ⟨f - 1, by omega⟩
    have : k = s := by omega
    subst this
    unfold D_J7_fill_53178_w5
    rw [if_pos (Int32.le_refl _)]
  | succ c ih =>
    intro k f hk hf
    obtain ⟨f, rfl⟩ : ∃ g, f = g + 1 := ⟨f - 1, by omega⟩
    rw [← ih (k + 1) f (by omega) (by omega)]
    conv => lhs; unfold D_J7_fill_53178_w5
    have e := fillN_s (f := fun _ => v) (old := ci j) (k := k)
    rw [if_neg (nI_ge (a := k) (b := s) (by omega) (by omega)), x_stI hs (by omega), Option.bind_some, up_eq, up_up, e, nI_1]
theorem x_fill (h : kd j = 1) (hs : kd (j + 1) = 100 + s) (v : Int32) : D_X1_fill (x + j) v (xh σ x ci cz) = some (xh σ x (va_up ci (j + 1) (fillN (fun _ => v) s (ci (j + 1)))) cz) := by
  have := kd_le (j + 1)
  have w := x_fillw (σ := σ) (x := x) (ci := ci) (cz := cz) hs v (fun s20 =>
  some s20
  ) s 0 FU (by omega) (by rw [FU_eq]; omega)
  rw [fillN_0, up_self, show nI 0 = (0 : Int32) from rfl] at w
  unfold D_X1_fill
  rw [xc_o h, Option.bind_some, xc_0 h, Option.bind_some]
  unfold D_J7_fill_53178
  rw [x_len hs, Option.bind_some, w, Option.bind_some]
end X1
