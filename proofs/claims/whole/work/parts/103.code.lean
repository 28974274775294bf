def D_X2_changeSetting (a0 : Nat) (i1 : Int32) (i2 : Int32) (s0 : Hp) : Option (Int32 × Hp) :=
  (isO s0 a0 2).bind fun _ =>
  bd (D_X2_isSettingValue i1 i2 s0) fun i11 s12 =>
  if i11 = 0 then
  some ((-2 : Int32), s12)
  else
  (getR s12 a0 2 0).bind fun a13 =>
  bd (D_X1_read a13 i1 s12) fun i14 s15 =>
  (getR s15 a0 2 0).bind fun a16 =>
  (D_X1_write a16 i1 i2 s15).bind fun s17 =>
  some (i14, s17)
set_option maxRecDepth 100000 in
set_option maxHeartbeats 4000000 in
theorem K_X2_changeSetting {l : Launch} {a0 : Nat} {i1 : Int32} {i2 : Int32} {s0 : Hp} : ∀ P, OK jI (D_X2_changeSetting a0 i1 i2 s0) P → sm_Ct l yX2_changeSetting cX2_changeSetting 4 (some .int) 1 0 0 [.ref a0, .int i1, .int i2] s0 P := by
  intro P h
  unfold D_X2_changeSetting at h
  obtain ⟨_, hb0, h⟩ := h.bind
  refine sm_enter (own := RX2) (lv := [(0, .ref a0), (1, .int i1), (2, .int i2)]) (by decide) rfl (Nat.le_of_ble_eq_true rfl) rfl (fun G => ?_)
  refine T_iload_n dX2_changeSetting_0 rfl 1 rfl ?_
  refine T_iload_n dX2_changeSetting_1 rfl 2 rfl ?_
  refine T_callSI (As := [.int i1, .int i2]) (rest := []) dX2_changeSetting_2 mc_X2_isSettingValue mi_X2_isSettingValue ml_RX2_56 rfl rfl (Nat.le_of_ble_eq_true rfl) ⟨⟨Nat.le_of_ble_eq_true rfl, Nat.le_of_ble_eq_true rfl⟩, ⟨Nat.le_of_ble_eq_true rfl, Nat.le_of_ble_eq_true rfl⟩⟩ K_X2_isSettingValue h (fun i11 s12 h => ?_)
  refine T_if_ne 11 dX2_changeSetting_5 (by decide) h (fun _ h => ?_) (fun _ h => ?_)
  · refine T_aload_n dX2_changeSetting_11 rfl 0 rfl ?_
    refine T_getR dX2_changeSetting_12 fl_RX2_14 h (fun a13 h => ?_)
    refine T_iload_n dX2_changeSetting_15 rfl 1 rfl ?_
    refine T_callVI (As := [.int i1]) (rest := []) (b := a13) (ci := 1) dX2_changeSetting_16 mc_X1_read mi_X1_read ml_RX2_60 rfl (fun _ hr => chk_of hr) rfl rfl (Nat.le_of_ble_eq_true rfl) ⟨⟨Nat.le_of_ble_eq_true rfl, Nat.le_of_ble_eq_true rfl⟩, ⟨Nat.le_of_ble_eq_true rfl, Nat.le_of_ble_eq_true rfl⟩⟩ K_X1_read h (fun i14 s15 h => ?_)
    refine T_istore_n (lv' := [(3, .int i14), (0, .ref a0), (1, .int i1), (2, .int i2)]) dX2_changeSetting_19 rfl (by decide) rfl ?_
    refine T_aload_n dX2_changeSetting_20 rfl 1 rfl ?_
    refine T_getR dX2_changeSetting_21 fl_RX2_14 h (fun a16 h => ?_)
    refine T_iload_n dX2_changeSetting_24 rfl 2 rfl ?_
    refine T_iload_n dX2_changeSetting_25 rfl 3 rfl ?_
    refine T_callVV (As := [.int i1, .int i2]) (rest := []) (b := a16) (ci := 1) dX2_changeSetting_26 mc_X1_write mi_X1_write ml_RX2_48 rfl (fun _ hr => chk_of hr) rfl rfl (Nat.le_of_ble_eq_true rfl) ⟨⟨Nat.le_of_ble_eq_true rfl, Nat.le_of_ble_eq_true rfl⟩, ⟨Nat.le_of_ble_eq_true rfl, Nat.le_of_ble_eq_true rfl⟩⟩ K_X1_write h (fun s17 h => ?_)
    refine T_iload_n dX2_changeSetting_29 rfl 0 rfl ?_
    exact T_ireturn dX2_changeSetting_30 (Nat.le_of_ble_eq_true rfl) (Nat.le_of_ble_eq_true rfl) h
  · refine T_bipush (-2 : Int32) dX2_changeSetting_8 (by decide) ?_
    exact T_ireturn dX2_changeSetting_10 (Nat.le_of_ble_eq_true rfl) (Nat.le_of_ble_eq_true rfl) h

def D_X2_clean (a0 : Nat) (i1 : Int32) (s0 : Hp) : Option (Int32 × Hp) :=
  (isO s0 a0 2).bind fun _ =>
  bd (D_X2_isMirror a0 i1 s0) fun i11 s12 =>
  if i11 = 0 then
  some ((-1 : Int32), s12)
  else
  (getR s12 a0 2 4).bind fun a13 =>
  bd (D_X1_read a13 i1 s12) fun i14 s15 =>
  (getR s15 a0 2 4).bind fun a16 =>
  (D_X1_write a16 i1 (0 : Int32) s15).bind fun s17 =>
  some (i14, s17)
set_option maxRecDepth 100000 in
set_option maxHeartbeats 4000000 in
theorem K_X2_clean {l : Launch} {a0 : Nat} {i1 : Int32} {s0 : Hp} : ∀ P, OK jI (D_X2_clean a0 i1 s0) P → sm_Ct l yX2_clean cX2_clean 3 (some .int) 1 0 0 [.ref a0, .int i1] s0 P := by
  intro P h
  unfold D_X2_clean at h
  obtain ⟨_, hb0, h⟩ := h.bind
  refine sm_enter (own := RX2) (lv := [(0, .ref a0), (1, .int i1)]) (by decide) rfl (Nat.le_of_ble_eq_true rfl) rfl (fun G => ?_)
  refine T_aload_n dX2_clean_0 rfl 0 rfl ?_
  refine T_iload_n dX2_clean_1 rfl 1 rfl ?_
  refine T_callVI (As := [.int i1]) (rest := []) (b := a0) (ci := 2) dX2_clean_2 mc_X2_isMirror mi_X2_isMirror ml_RX2_79 rfl (fun _ hr => chk_of hr) rfl rfl (Nat.le_of_ble_eq_true rfl) ⟨⟨Nat.le_of_ble_eq_true rfl, Nat.le_of_ble_eq_true rfl⟩, ⟨Nat.le_of_ble_eq_true rfl, Nat.le_of_ble_eq_true rfl⟩⟩ K_X2_isMirror h (fun i11 s12 h => ?_)
  refine T_if_ne 10 dX2_clean_5 (by decide) h (fun _ h => ?_) (fun _ h => ?_)
  · refine T_aload_n dX2_clean_10 rfl 0 rfl ?_
    refine T_getR dX2_clean_11 fl_RX2_29 h (fun a13 h => ?_)
    refine T_iload_n dX2_clean_14 rfl 1 rfl ?_
    refine T_callVI (As := [.int i1]) (rest := []) (b := a13) (ci := 1) dX2_clean_15 mc_X1_read mi_X1_read ml_RX2_60 rfl (fun _ hr => chk_of hr) rfl rfl (Nat.le_of_ble_eq_true rfl) ⟨⟨Nat.le_of_ble_eq_true rfl, Nat.le_of_ble_eq_true rfl⟩, ⟨Nat.le_of_ble_eq_true rfl, Nat.le_of_ble_eq_true rfl⟩⟩ K_X1_read h (fun i14 s15 h => ?_)
    refine T_istore_n (lv' := [(2, .int i14), (0, .ref a0), (1, .int i1)]) dX2_clean_18 rfl (by decide) rfl ?_
    refine T_aload_n dX2_clean_19 rfl 1 rfl ?_
    refine T_getR dX2_clean_20 fl_RX2_29 h (fun a16 h => ?_)
    refine T_iload_n dX2_clean_23 rfl 2 rfl ?_
    refine T_iconst (0 : Int32) dX2_clean_24 (by decide) ?_
    refine T_callVV (As := [.int i1, .int (0 : Int32)]) (rest := []) (b := a16) (ci := 1) dX2_clean_25 mc_X1_write mi_X1_write ml_RX2_48 rfl (fun _ hr => chk_of hr) rfl rfl (Nat.le_of_ble_eq_true rfl) ⟨⟨Nat.le_of_ble_eq_true rfl, Nat.le_of_ble_eq_true rfl⟩, ⟨Nat.le_of_ble_eq_true rfl, Nat.le_of_ble_eq_true rfl⟩⟩ K_X1_write h (fun s17 h => ?_)
    refine T_iload_n dX2_clean_28 rfl 0 rfl ?_
    exact T_ireturn dX2_clean_29 (Nat.le_of_ble_eq_true rfl) (Nat.le_of_ble_eq_true rfl) h
  · refine T_iconst (-1 : Int32) dX2_clean_8 (by decide) ?_
    exact T_ireturn dX2_clean_9 (Nat.le_of_ble_eq_true rfl) (Nat.le_of_ble_eq_true rfl) h

def D_X2_credit (a0 : Nat) (i1 : Int32) (i2 : Int32) (s0 : Hp) : Option Hp :=
  (isO s0 a0 2).bind fun _ =>
  (getR s0 a0 2 5).bind fun a11 =>
  (getR s0 a0 2 5).bind fun a12 =>
  bd (D_X1_read a12 i1 s0) fun i13 s14 =>
  (D_X1_write a11 i1 (i13 + i2) s14).bind fun s15 =>
  some s15
set_option maxRecDepth 100000 in
set_option maxHeartbeats 4000000 in
theorem K_X2_credit {l : Launch} {a0 : Nat} {i1 : Int32} {i2 : Int32} {s0 : Hp} : ∀ P, OK jV (D_X2_credit a0 i1 i2 s0) P → sm_Ct l yX2_credit cX2_credit 3 none 1 0 0 [.ref a0, .int i1, .int i2] s0 P := by
  intro P h
  unfold D_X2_credit at h
  obtain ⟨_, hb0, h⟩ := h.bind
  refine sm_enter (own := RX2) (lv := [(0, .ref a0), (1, .int i1), (2, .int i2)]) (by decide) rfl (Nat.le_of_ble_eq_true rfl) rfl (fun G => ?_)
  refine T_aload_n dX2_credit_0 rfl 0 rfl ?_
  refine T_getR dX2_credit_1 fl_RX2_32 h (fun a11 h => ?_)
  refine T_iload_n dX2_credit_4 rfl 1 rfl ?_
  refine T_aload_n dX2_credit_5 rfl 0 rfl ?_
  refine T_getR dX2_credit_6 fl_RX2_32 h (fun a12 h => ?_)
  refine T_iload_n dX2_credit_9 rfl 1 rfl ?_
  refine T_callVI (As := [.int i1]) (rest := [.int i1, .ref a11]) (b := a12) (ci := 1) dX2_credit_10 mc_X1_read mi_X1_read ml_RX2_60 rfl (fun _ hr => chk_of hr) rfl rfl (Nat.le_of_ble_eq_true rfl) ⟨⟨Nat.le_of_ble_eq_true rfl, Nat.le_of_ble_eq_true rfl⟩, ⟨Nat.le_of_ble_eq_true rfl, Nat.le_of_ble_eq_true rfl⟩⟩ K_X1_read h (fun i13 s14 h => ?_)
  refine T_iload_n dX2_credit_13 rfl 2 rfl ?_
  refine T_iadd dX2_credit_14 ?_
  refine T_callVV (As := [.int i1, .int (i13 + i2)]) (rest := []) (b := a11) (ci := 1) dX2_credit_15 mc_X1_write mi_X1_write ml_RX2_48 rfl (fun _ hr => chk_of hr) rfl rfl (Nat.le_of_ble_eq_true rfl) ⟨⟨Nat.le_of_ble_eq_true rfl, Nat.le_of_ble_eq_true rfl⟩, ⟨Nat.le_of_ble_eq_true rfl, Nat.le_of_ble_eq_true rfl⟩⟩ K_X1_write h (fun s15 h => ?_)
  exact T_vreturn dX2_credit_18 (Nat.le_of_ble_eq_true rfl) (Nat.le_of_ble_eq_true rfl) h

def D_X2_endDay_w22 (a15 : Nat) (k66 : Hp → Option Hp) : Nat → Int32 → Hp → Option Hp
  | 0, _, _ => none
  | n18 + 1, i16, s17 =>
  (getI s17 a15 2 6).bind fun i19 =>
  if i19 ≤ i16 then
  k66 s17
  else
  (getR s17 a15 2 4).bind fun a20 =>
  (getR s17 a15 2 4).bind fun a21 =>
  bd (D_X1_read a21 i16 s17) fun i22 s23 =>
  (getR s23 a15 2 0).bind fun a24 =>
  bd (D_X1_read a24 (2 : Int32) s23) fun i25 s26 =>
  nm (if (i22 + i25) < (100 : Int32) then (i22 + i25) else (100 : Int32)) fun i27 =>
  (D_X1_write a20 i16 i27 s26).bind fun s28 =>
  D_X2_endDay_w22 a15 k66 n18 (i16 + 1) s28
def D_X2_endDay (a0 : Nat) (i1 : Int32) (s0 : Hp) : Option Hp :=
  (isO s0 a0 2).bind fun _ =>
  (getI s0 a0 2 8).bind fun i11 =>
  (putI s0 a0 2 8 (i11 + (1 : Int32))).bind fun s12 =>
  (getI s12 a0 2 9).bind fun i13 =>
  (putI s12 a0 2 9 (i13 + i1)).bind fun s14 =>
  D_X2_endDay_w22 a0 (fun s30 =>
  some s30
  ) FU (0 : Int32) s14
set_option maxRecDepth 100000 in
set_option maxHeartbeats 4000000 in
theorem K_X2_endDay_w22 {l : Launch} {G : smG} {P : Option Value → Hp → Prop} {a15 : Nat} {k66 : Hp → Option Hp} (hk66 : ∀  (s29 : Hp), OK jV (k66 s29) P → T l G RX2 cX2_endDay 3 (sm_rm 1 0 0) (sm_E none yX2_endDay.name) (sm_Qs G P 0 0) 0 0 66 [] [] s29) : ∀ (n : Nat) (i16 : Int32) (s17 : Hp), OK jV (D_X2_endDay_w22 a15 k66 n i16 s17) P → T l G RX2 cX2_endDay 3 (sm_rm 1 0 0) (sm_E none yX2_endDay.name) (sm_Qs G P 0 0) 0 0 22 [(0, .ref a15), (2, .int i16)] [] s17 := by
  intro n
  induction n with
  | zero => intro i16 s17 h; obtain ⟨_, h0, _⟩ := h; exact absurd h0 (by simp [D_X2_endDay_w22])
  | succ n18 ih =>
    intro i16 s17 h
    unfold D_X2_endDay_w22 at h
    refine T_iload_n dX2_endDay_22 rfl 1 rfl ?_
    refine T_aload_n dX2_endDay_23 rfl 0 rfl ?_
    refine T_getI dX2_endDay_24 fl_RX2_35 h (fun i19 h => ?_)
    refine T_icmp_ge 66 dX2_endDay_27 (by decide) h (fun _ h => ?_) (fun _ h => ?_)
    · refine T_lv (lv' := []) [] rfl ?_
      exact hk66 s17 h
    · refine T_aload_n dX2_endDay_30 rfl 0 rfl ?_
      refine T_getR dX2_endDay_31 fl_RX2_29 h (fun a20 h => ?_)
      refine T_iload_n dX2_endDay_34 rfl 1 rfl ?_
      refine T_bipush (100 : Int32) dX2_endDay_35 (by decide) ?_
      refine T_aload_n dX2_endDay_37 rfl 0 rfl ?_
      refine T_getR dX2_endDay_38 fl_RX2_29 h (fun a21 h => ?_)
      refine T_iload_n dX2_endDay_41 rfl 1 rfl ?_
      refine T_callVI (As := [.int i16]) (rest := [.int (100 : Int32), .int i16, .ref a20]) (b := a21) (ci := 1) dX2_endDay_42 mc_X1_read mi_X1_read ml_RX2_60 rfl (fun _ hr => chk_of hr) rfl rfl (Nat.le_of_ble_eq_true rfl) ⟨⟨Nat.le_of_ble_eq_true rfl, Nat.le_of_ble_eq_true rfl⟩, ⟨Nat.le_of_ble_eq_true rfl, Nat.le_of_ble_eq_true rfl⟩⟩ K_X1_read h (fun i22 s23 h => ?_)
      refine T_aload_n dX2_endDay_45 rfl 0 rfl ?_
      refine T_getR dX2_endDay_46 fl_RX2_14 h (fun a24 h => ?_)
      refine T_iconst (2 : Int32) dX2_endDay_49 (by decide) ?_
      refine T_callVI (As := [.int (2 : Int32)]) (rest := [.int i22, .int (100 : Int32), .int i16, .ref a20]) (b := a24) (ci := 1) dX2_endDay_50 mc_X1_read mi_X1_read ml_RX2_60 rfl (fun _ hr => chk_of hr) rfl rfl (Nat.le_of_ble_eq_true rfl) ⟨⟨Nat.le_of_ble_eq_true rfl, Nat.le_of_ble_eq_true rfl⟩, ⟨Nat.le_of_ble_eq_true rfl, Nat.le_of_ble_eq_true rfl⟩⟩ K_X1_read h (fun i25 s26 h => ?_)
      refine T_iadd dX2_endDay_53 ?_
      refine T_mmin dX2_endDay_54 ml_RX2_89 wd_8_9 wd_3_17 wd_8_10 ⟨Nat.le_of_ble_eq_true rfl, Nat.le_of_ble_eq_true rfl, Nat.le_of_ble_eq_true rfl, Nat.le_of_ble_eq_true rfl⟩ ?_
      refine T_nm h (fun i27 h => ?_)
      refine T_callVV (As := [.int i16, .int i27]) (rest := []) (b := a20) (ci := 1) dX2_endDay_57 mc_X1_write mi_X1_write ml_RX2_48 rfl (fun _ hr => chk_of hr) rfl rfl (Nat.le_of_ble_eq_true rfl) ⟨⟨Nat.le_of_ble_eq_true rfl, Nat.le_of_ble_eq_true rfl⟩, ⟨Nat.le_of_ble_eq_true rfl, Nat.le_of_ble_eq_true rfl⟩⟩ K_X1_write h (fun s28 h => ?_)
      refine T_iinc (i16 + 1) (lv' := [(2, .int (i16 + 1)), (0, .ref a15)]) dX2_endDay_60 (j := 1) rfl rfl (by decide) rfl ?_
      refine T_goto 22 dX2_endDay_63 (by decide) ?_
      refine T_lv (lv' := [(0, .ref a15), (2, .int (i16 + 1))]) [1, 0] rfl ?_
      exact ih (i16 + 1) s28 h
set_option maxRecDepth 100000 in
set_option maxHeartbeats 4000000 in
theorem K_X2_endDay {l : Launch} {a0 : Nat} {i1 : Int32} {s0 : Hp} : ∀ P, OK jV (D_X2_endDay a0 i1 s0) P → sm_Ct l yX2_endDay cX2_endDay 3 none 1 0 0 [.ref a0, .int i1] s0 P := by
  intro P h
  unfold D_X2_endDay at h
  obtain ⟨_, hb0, h⟩ := h.bind
  refine sm_enter (own := RX2) (lv := [(0, .ref a0), (1, .int i1)]) (by decide) rfl (Nat.le_of_ble_eq_true rfl) rfl (fun G => ?_)
  refine T_aload_n dX2_endDay_0 rfl 0 rfl ?_
  refine T_dup dX2_endDay_1 rfl ?_
  refine T_getI dX2_endDay_2 fl_RX2_42 h (fun i11 h => ?_)
  refine T_iconst (1 : Int32) dX2_endDay_5 (by decide) ?_
  refine T_iadd dX2_endDay_6 ?_
  refine T_putI dX2_endDay_7 fl_RX2_42 ft_2_8 h (fun s12 h => ?_)
  refine T_aload_n dX2_endDay_10 rfl 0 rfl ?_
  refine T_dup dX2_endDay_11 rfl ?_
  refine T_getI dX2_endDay_12 fl_RX2_45 h (fun i13 h => ?_)
  refine T_iload_n dX2_endDay_15 rfl 1 rfl ?_
  refine T_iadd dX2_endDay_16 ?_
  refine T_putI dX2_endDay_17 fl_RX2_45 ft_2_9 h (fun s14 h => ?_)
  refine T_iconst (0 : Int32) dX2_endDay_20 (by decide) ?_
  refine T_istore_n (lv' := [(2, .int (0 : Int32)), (0, .ref a0), (1, .int i1)]) dX2_endDay_21 rfl (by decide) rfl ?_
  refine T_lv (lv' := [(0, .ref a0), (2, .int (0 : Int32))]) [1, 0] rfl ?_
  refine K_X2_endDay_w22 ?_ FU (0 : Int32) s14 h
  intro s30 h
  exact T_vreturn dX2_endDay_66 (Nat.le_of_ble_eq_true rfl) (Nat.le_of_ble_eq_true rfl) h

def D_X2_liesFlat (a0 : Nat) (s0 : Hp) : Option (Int32 × Hp) :=
  (isO s0 a0 2).bind fun _ =>
  (getI s0 a0 2 7).bind fun i11 =>
  (getR s0 a0 2 0).bind fun a12 =>
  bd (D_X1_read a12 (1 : Int32) s0) fun i13 s14 =>
  if i11 ≤ i13 then
  retZ (0 : Int32) ((0 : Int32), s14)
  else
  retZ (1 : Int32) ((1 : Int32), s14)
set_option maxRecDepth 100000 in
set_option maxHeartbeats 4000000 in
theorem K_X2_liesFlat {l : Launch} {a0 : Nat} {s0 : Hp} : ∀ P, OK jI (D_X2_liesFlat a0 s0) P → sm_Ct l yX2_liesFlat cX2_liesFlat 1 (some .boolean) 1 0 0 [.ref a0] s0 P := by
  intro P h
  unfold D_X2_liesFlat at h
  obtain ⟨_, hb0, h⟩ := h.bind
  refine sm_enter (own := RX2) (lv := [(0, .ref a0)]) (by decide) rfl (Nat.le_of_ble_eq_true rfl) rfl (fun G => ?_)
  refine T_aload_n dX2_liesFlat_0 rfl 0 rfl ?_
  refine T_getI dX2_liesFlat_1 fl_RX2_39 h (fun i11 h => ?_)
  refine T_aload_n dX2_liesFlat_4 rfl 0 rfl ?_
  refine T_getR dX2_liesFlat_5 fl_RX2_14 h (fun a12 h => ?_)
  refine T_iconst (1 : Int32) dX2_liesFlat_8 (by decide) ?_
  refine T_callVI (As := [.int (1 : Int32)]) (rest := [.int i11]) (b := a12) (ci := 1) dX2_liesFlat_9 mc_X1_read mi_X1_read ml_RX2_60 rfl (fun _ hr => chk_of hr) rfl rfl (Nat.le_of_ble_eq_true rfl) ⟨⟨Nat.le_of_ble_eq_true rfl, Nat.le_of_ble_eq_true rfl⟩, ⟨Nat.le_of_ble_eq_true rfl, Nat.le_of_ble_eq_true rfl⟩⟩ K_X1_read h (fun i13 s14 h => ?_)
  refine T_icmp_le 19 dX2_liesFlat_12 (by decide) h (fun _ h => ?_) (fun _ h => ?_)
  · refine T_iconst (0 : Int32) dX2_liesFlat_19 (by decide) ?_
    exact T_zreturn dX2_liesFlat_20 (Nat.le_of_ble_eq_true rfl) (Nat.le_of_ble_eq_true rfl) h
  · refine T_iconst (1 : Int32) dX2_liesFlat_15 (by decide) ?_
    refine T_goto 20 dX2_liesFlat_16 (by decide) ?_
    exact T_zreturn dX2_liesFlat_20 (Nat.le_of_ble_eq_true rfl) (Nat.le_of_ble_eq_true rfl) h

def D_X2_mirrorIn_w2 (a11 : Nat) (i12 : Int32) (i13 : Int32) (k42 : Hp → Option (Int32 × Hp)) : Nat → Int32 → Hp → Option (Int32 × Hp)
  | 0, _, _ => none
  | n16 + 1, i14, s15 =>
  (getI s15 a11 2 6).bind fun i17 =>
  if i17 ≤ i14 then
  k42 s15
  else
  (getR s15 a11 2 1).bind fun a18 =>
  bd (D_X1_read a18 i14 s15) fun i19 s20 =>
  if i19 = i12 then
  (getR s20 a11 2 2).bind fun a21 =>
  bd (D_X1_read a21 i14 s20) fun i22 s23 =>
  if i22 = i13 then
  some (i14, s23)
  else
  D_X2_mirrorIn_w2 a11 i12 i13 k42 n16 (i14 + 1) s23
  else
  D_X2_mirrorIn_w2 a11 i12 i13 k42 n16 (i14 + 1) s20
def D_X2_mirrorIn (a0 : Nat) (i1 : Int32) (i2 : Int32) (s0 : Hp) : Option (Int32 × Hp) :=
  (isO s0 a0 2).bind fun _ =>
  D_X2_mirrorIn_w2 a0 i1 i2 (fun s25 =>
  some ((-6 : Int32), s25)
  ) FU (0 : Int32) s0
set_option maxRecDepth 100000 in
set_option maxHeartbeats 4000000 in
theorem K_X2_mirrorIn_w2 {l : Launch} {G : smG} {P : Option Value → Hp → Prop} {a11 : Nat} {i12 : Int32} {i13 : Int32} {k42 : Hp → Option (Int32 × Hp)} (hk42 : ∀  (s24 : Hp), OK jI (k42 s24) P → T l G RX2 cX2_mirrorIn 4 (sm_rm 1 0 0) (sm_E (some .int) yX2_mirrorIn.name) (sm_Qs G P 0 0) 0 0 42 [] [] s24) : ∀ (n : Nat) (i14 : Int32) (s15 : Hp), OK jI (D_X2_mirrorIn_w2 a11 i12 i13 k42 n i14 s15) P → T l G RX2 cX2_mirrorIn 4 (sm_rm 1 0 0) (sm_E (some .int) yX2_mirrorIn.name) (sm_Qs G P 0 0) 0 0 2 [(0, .ref a11), (1, .int i12), (2, .int i13), (3, .int i14)] [] s15 := by
  intro n
  induction n with
  | zero => intro i14 s15 h; obtain ⟨_, h0, _⟩ := h; exact absurd h0 (by simp [D_X2_mirrorIn_w2])
  | succ n16 ih =>
    intro i14 s15 h
    unfold D_X2_mirrorIn_w2 at h
    refine T_iload_n dX2_mirrorIn_2 rfl 3 rfl ?_
    refine T_aload_n dX2_mirrorIn_3 rfl 0 rfl ?_
    refine T_getI dX2_mirrorIn_4 fl_RX2_35 h (fun i17 h => ?_)
    refine T_icmp_ge 42 dX2_mirrorIn_7 (by decide) h (fun _ h => ?_) (fun _ h => ?_)
    · refine T_lv (lv' := []) [] rfl ?_
      exact hk42 s15 h
    · refine T_aload_n dX2_mirrorIn_10 rfl 0 rfl ?_
      refine T_getR dX2_mirrorIn_11 fl_RX2_20 h (fun a18 h => ?_)
      refine T_iload_n dX2_mirrorIn_14 rfl 3 rfl ?_
      refine T_callVI (As := [.int i14]) (rest := []) (b := a18) (ci := 1) dX2_mirrorIn_15 mc_X1_read mi_X1_read ml_RX2_60 rfl (fun _ hr => chk_of hr) rfl rfl (Nat.le_of_ble_eq_true rfl) ⟨⟨Nat.le_of_ble_eq_true rfl, Nat.le_of_ble_eq_true rfl⟩, ⟨Nat.le_of_ble_eq_true rfl, Nat.le_of_ble_eq_true rfl⟩⟩ K_X1_read h (fun i19 s20 h => ?_)
      refine T_iload_n dX2_mirrorIn_18 rfl 1 rfl ?_
      refine T_icmp_ne 36 dX2_mirrorIn_19 (by decide) h (fun _ h => ?_) (fun _ h => ?_)
      · refine T_iinc (i14 + 1) (lv' := [(3, .int (i14 + 1)), (0, .ref a11), (1, .int i12), (2, .int i13)]) dX2_mirrorIn_36 (j := 3) rfl rfl (by decide) rfl ?_
        refine T_goto 2 dX2_mirrorIn_39 (by decide) ?_
        refine T_lv (lv' := [(0, .ref a11), (1, .int i12), (2, .int i13), (3, .int (i14 + 1))]) [1, 2, 3, 0] rfl ?_
        exact ih (i14 + 1) s20 h
      · refine T_aload_n dX2_mirrorIn_22 rfl 0 rfl ?_
        refine T_getR dX2_mirrorIn_23 fl_RX2_23 h (fun a21 h => ?_)
        refine T_iload_n dX2_mirrorIn_26 rfl 3 rfl ?_
        refine T_callVI (As := [.int i14]) (rest := []) (b := a21) (ci := 1) dX2_mirrorIn_27 mc_X1_read mi_X1_read ml_RX2_60 rfl (fun _ hr => chk_of hr) rfl rfl (Nat.le_of_ble_eq_true rfl) ⟨⟨Nat.le_of_ble_eq_true rfl, Nat.le_of_ble_eq_true rfl⟩, ⟨Nat.le_of_ble_eq_true rfl, Nat.le_of_ble_eq_true rfl⟩⟩ K_X1_read h (fun i22 s23 h => ?_)
        refine T_iload_n dX2_mirrorIn_30 rfl 2 rfl ?_
        refine T_icmp_ne 36 dX2_mirrorIn_31 (by decide) h (fun _ h => ?_) (fun _ h => ?_)
        · refine T_iinc (i14 + 1) (lv' := [(3, .int (i14 + 1)), (0, .ref a11), (1, .int i12), (2, .int i13)]) dX2_mirrorIn_36 (j := 3) rfl rfl (by decide) rfl ?_
          refine T_goto 2 dX2_mirrorIn_39 (by decide) ?_
          refine T_lv (lv' := [(0, .ref a11), (1, .int i12), (2, .int i13), (3, .int (i14 + 1))]) [1, 2, 3, 0] rfl ?_
          exact ih (i14 + 1) s23 h
        · refine T_iload_n dX2_mirrorIn_34 rfl 3 rfl ?_
          exact T_ireturn dX2_mirrorIn_35 (Nat.le_of_ble_eq_true rfl) (Nat.le_of_ble_eq_true rfl) h
set_option maxRecDepth 100000 in
set_option maxHeartbeats 4000000 in
theorem K_X2_mirrorIn {l : Launch} {a0 : Nat} {i1 : Int32} {i2 : Int32} {s0 : Hp} : ∀ P, OK jI (D_X2_mirrorIn a0 i1 i2 s0) P → sm_Ct l yX2_mirrorIn cX2_mirrorIn 4 (some .int) 1 0 0 [.ref a0, .int i1, .int i2] s0 P := by
  intro P h
  unfold D_X2_mirrorIn at h
  obtain ⟨_, hb0, h⟩ := h.bind
  refine sm_enter (own := RX2) (lv := [(0, .ref a0), (1, .int i1), (2, .int i2)]) (by decide) rfl (Nat.le_of_ble_eq_true rfl) rfl (fun G => ?_)
  refine T_iconst (0 : Int32) dX2_mirrorIn_0 (by decide) ?_
  refine T_istore_n (lv' := [(3, .int (0 : Int32)), (0, .ref a0), (1, .int i1), (2, .int i2)]) dX2_mirrorIn_1 rfl (by decide) rfl ?_
  refine T_lv (lv' := [(0, .ref a0), (1, .int i1), (2, .int i2), (3, .int (0 : Int32))]) [1, 2, 3, 0] rfl ?_
  refine K_X2_mirrorIn_w2 ?_ FU (0 : Int32) s0 h
  intro s25 h
  refine T_bipush (-6 : Int32) dX2_mirrorIn_42 (by decide) ?_
  exact T_ireturn dX2_mirrorIn_44 (Nat.le_of_ble_eq_true rfl) (Nat.le_of_ble_eq_true rfl) h

def D_X2_mirrorsOf_w4 (a11 : Nat) (i12 : Int32) (k36 : Int32 → Hp → Option (Int32 × Hp)) : Nat → Int32 → Int32 → Hp → Option (Int32 × Hp)
  | 0, _, _, _ => none
  | n16 + 1, i13, i14, s15 =>
  (getI s15 a11 2 6).bind fun i17 =>
  if i17 ≤ i14 then
  k36 i13 s15
  else
  (getR s15 a11 2 3).bind fun a18 =>
  bd (D_X1_read a18 i14 s15) fun i19 s20 =>
  if i19 = i12 then
  nm (i13 ||| ((1 : Int32) <<< (i14 &&& 31))) fun i21 =>
  D_X2_mirrorsOf_w4 a11 i12 k36 n16 i21 (i14 + 1) s20
  else
  D_X2_mirrorsOf_w4 a11 i12 k36 n16 i13 (i14 + 1) s20
def D_X2_mirrorsOf (a0 : Nat) (i1 : Int32) (s0 : Hp) : Option (Int32 × Hp) :=
  (isO s0 a0 2).bind fun _ =>
  D_X2_mirrorsOf_w4 a0 i1 (fun i25 s24 =>
  some (i25, s24)
  ) FU (0 : Int32) (0 : Int32) s0
set_option maxRecDepth 100000 in
set_option maxHeartbeats 4000000 in
theorem K_X2_mirrorsOf_w4 {l : Launch} {G : smG} {P : Option Value → Hp → Prop} {a11 : Nat} {i12 : Int32} {k36 : Int32 → Hp → Option (Int32 × Hp)} (hk36 : ∀ (i22 : Int32) (s23 : Hp), OK jI (k36 i22 s23) P → T l G RX2 cX2_mirrorsOf 4 (sm_rm 1 0 0) (sm_E (some .int) yX2_mirrorsOf.name) (sm_Qs G P 0 0) 0 0 36 [(2, .int i22)] [] s23) : ∀ (n : Nat) (i13 : Int32) (i14 : Int32) (s15 : Hp), OK jI (D_X2_mirrorsOf_w4 a11 i12 k36 n i13 i14 s15) P → T l G RX2 cX2_mirrorsOf 4 (sm_rm 1 0 0) (sm_E (some .int) yX2_mirrorsOf.name) (sm_Qs G P 0 0) 0 0 4 [(0, .ref a11), (1, .int i12), (2, .int i13), (3, .int i14)] [] s15 := by
  intro n
  induction n with
  | zero => intro i13 i14 s15 h; obtain ⟨_, h0, _⟩ := h; exact absurd h0 (by simp [D_X2_mirrorsOf_w4])
  | succ n16 ih =>
    intro i13 i14 s15 h
    unfold D_X2_mirrorsOf_w4 at h
    refine T_iload_n dX2_mirrorsOf_4 rfl 3 rfl ?_
    refine T_aload_n dX2_mirrorsOf_5 rfl 0 rfl ?_
    refine T_getI dX2_mirrorsOf_6 fl_RX2_35 h (fun i17 h => ?_)
    refine T_icmp_ge 36 dX2_mirrorsOf_9 (by decide) h (fun _ h => ?_) (fun _ h => ?_)
    · refine T_lv (lv' := [(2, .int i13)]) [2] rfl ?_
      exact hk36 i13 s15 h
    · refine T_aload_n dX2_mirrorsOf_12 rfl 0 rfl ?_
      refine T_getR dX2_mirrorsOf_13 fl_RX2_26 h (fun a18 h => ?_)
      refine T_iload_n dX2_mirrorsOf_16 rfl 3 rfl ?_
      refine T_callVI (As := [.int i14]) (rest := []) (b := a18) (ci := 1) dX2_mirrorsOf_17 mc_X1_read mi_X1_read ml_RX2_60 rfl (fun _ hr => chk_of hr) rfl rfl (Nat.le_of_ble_eq_true rfl) ⟨⟨Nat.le_of_ble_eq_true rfl, Nat.le_of_ble_eq_true rfl⟩, ⟨Nat.le_of_ble_eq_true rfl, Nat.le_of_ble_eq_true rfl⟩⟩ K_X1_read h (fun i19 s20 h => ?_)
      refine T_iload_n dX2_mirrorsOf_20 rfl 1 rfl ?_
      refine T_icmp_ne 30 dX2_mirrorsOf_21 (by decide) h (fun _ h => ?_) (fun _ h => ?_)
      · refine T_iinc (i14 + 1) (lv' := [(3, .int (i14 + 1)), (0, .ref a11), (1, .int i12), (2, .int i13)]) dX2_mirrorsOf_30 (j := 3) rfl rfl (by decide) rfl ?_
        refine T_goto 4 dX2_mirrorsOf_33 (by decide) ?_
        refine T_lv (lv' := [(0, .ref a11), (1, .int i12), (2, .int i13), (3, .int (i14 + 1))]) [1, 2, 3, 0] rfl ?_
        exact ih i13 (i14 + 1) s20 h
      · refine T_iload_n dX2_mirrorsOf_24 rfl 2 rfl ?_
        refine T_iconst (1 : Int32) dX2_mirrorsOf_25 (by decide) ?_
        refine T_iload_n dX2_mirrorsOf_26 rfl 3 rfl ?_
        refine T_ishl dX2_mirrorsOf_27 ?_
        refine T_ior dX2_mirrorsOf_28 ?_
        refine T_nm h (fun i21 h => ?_)
        refine T_istore_n (lv' := [(2, .int i21), (0, .ref a11), (1, .int i12), (3, .int i14)]) dX2_mirrorsOf_29 rfl (by decide) rfl ?_
        refine T_iinc (i14 + 1) (lv' := [(3, .int (i14 + 1)), (2, .int i21), (0, .ref a11), (1, .int i12)]) dX2_mirrorsOf_30 (j := 3) rfl rfl (by decide) rfl ?_
        refine T_goto 4 dX2_mirrorsOf_33 (by decide) ?_
        refine T_lv (lv' := [(0, .ref a11), (1, .int i12), (2, .int i21), (3, .int (i14 + 1))]) [2, 3, 1, 0] rfl ?_
        exact ih i21 (i14 + 1) s20 h
set_option maxRecDepth 100000 in
set_option maxHeartbeats 4000000 in
theorem K_X2_mirrorsOf {l : Launch} {a0 : Nat} {i1 : Int32} {s0 : Hp} : ∀ P, OK jI (D_X2_mirrorsOf a0 i1 s0) P → sm_Ct l yX2_mirrorsOf cX2_mirrorsOf 4 (some .int) 1 0 0 [.ref a0, .int i1] s0 P := by
  intro P h
  unfold D_X2_mirrorsOf at h
  obtain ⟨_, hb0, h⟩ := h.bind
  refine sm_enter (own := RX2) (lv := [(0, .ref a0), (1, .int i1)]) (by decide) rfl (Nat.le_of_ble_eq_true rfl) rfl (fun G => ?_)
  refine T_iconst (0 : Int32) dX2_mirrorsOf_0 (by decide) ?_
  refine T_istore_n (lv' := [(2, .int (0 : Int32)), (0, .ref a0), (1, .int i1)]) dX2_mirrorsOf_1 rfl (by decide) rfl ?_
  refine T_iconst (0 : Int32) dX2_mirrorsOf_2 (by decide) ?_
  refine T_istore_n (lv' := [(3, .int (0 : Int32)), (2, .int (0 : Int32)), (0, .ref a0), (1, .int i1)]) dX2_mirrorsOf_3 rfl (by decide) rfl ?_
  refine T_lv (lv' := [(0, .ref a0), (1, .int i1), (2, .int (0 : Int32)), (3, .int (0 : Int32))]) [2, 3, 1, 0] rfl ?_
  refine K_X2_mirrorsOf_w4 ?_ FU (0 : Int32) (0 : Int32) s0 h
  intro i25 s24 h
  refine T_iload_n dX2_mirrorsOf_36 rfl 0 rfl ?_
  exact T_ireturn dX2_mirrorsOf_37 (Nat.le_of_ble_eq_true rfl) (Nat.le_of_ble_eq_true rfl) h

def D_X2_turn (a0 : Nat) (i1 : Int32) (i2 : Int32) (s0 : Hp) : Option (Int32 × Hp) :=
  (isO s0 a0 2).bind fun _ =>
  bd (D_X2_isMirror a0 i1 s0) fun i11 s12 =>
  if i11 = 0 then
  some ((-1 : Int32), s12)
  else
  bd (D_X9_isAimPoint i2 s12) fun i13 s14 =>
  if i13 = 0 then
  some ((-2 : Int32), s14)
  else
  (getR s14 a0 2 3).bind fun a15 =>
  bd (D_X1_read a15 i1 s14) fun i16 s17 =>
  (getR s17 a0 2 3).bind fun a18 =>
  (D_X1_write a18 i1 i2 s17).bind fun s19 =>
  some (i16, s19)
set_option maxRecDepth 100000 in
set_option maxHeartbeats 4000000 in
theorem K_X2_turn {l : Launch} {a0 : Nat} {i1 : Int32} {i2 : Int32} {s0 : Hp} : ∀ P, OK jI (D_X2_turn a0 i1 i2 s0) P → sm_Ct l yX2_turn cX2_turn 4 (some .int) 1 0 0 [.ref a0, .int i1, .int i2] s0 P := by
  intro P h
  unfold D_X2_turn at h
  obtain ⟨_, hb0, h⟩ := h.bind
  refine sm_enter (own := RX2) (lv := [(0, .ref a0), (1, .int i1), (2, .int i2)]) (by decide) rfl (Nat.le_of_ble_eq_true rfl) rfl (fun G => ?_)
  refine T_aload_n dX2_turn_0 rfl 0 rfl ?_
  refine T_iload_n dX2_turn_1 rfl 1 rfl ?_
  refine T_callVI (As := [.int i1]) (rest := []) (b := a0) (ci := 2) dX2_turn_2 mc_X2_isMirror mi_X2_isMirror ml_RX2_79 rfl (fun _ hr => chk_of hr) rfl rfl (Nat.le_of_ble_eq_true rfl) ⟨⟨Nat.le_of_ble_eq_true rfl, Nat.le_of_ble_eq_true rfl⟩, ⟨Nat.le_of_ble_eq_true rfl, Nat.le_of_ble_eq_true rfl⟩⟩ K_X2_isMirror h (fun i11 s12 h => ?_)
  refine T_if_ne 10 dX2_turn_5 (by decide) h (fun _ h => ?_) (fun _ h => ?_)
  · refine T_iload_n dX2_turn_10 rfl 2 rfl ?_
    refine T_callSNI (As := [.int i2]) (rest := []) dX2_turn_11 mc_X9_isAimPoint mi_X9_isAimPoint ml_RX2_67 rfl rfl (Nat.le_of_ble_eq_true rfl) ⟨⟨Nat.le_of_ble_eq_true rfl, Nat.le_of_ble_eq_true rfl⟩, ⟨Nat.le_of_ble_eq_true rfl, Nat.le_of_ble_eq_true rfl⟩⟩ K_X9_isAimPoint h (fun i13 s14 h => ?_)
    refine T_if_ne 20 dX2_turn_14 (by decide) h (fun _ h => ?_) (fun _ h => ?_)
    · refine T_aload_n dX2_turn_20 rfl 0 rfl ?_
      refine T_getR dX2_turn_21 fl_RX2_26 h (fun a15 h => ?_)
      refine T_iload_n dX2_turn_24 rfl 1 rfl ?_
      refine T_callVI (As := [.int i1]) (rest := []) (b := a15) (ci := 1) dX2_turn_25 mc_X1_read mi_X1_read ml_RX2_60 rfl (fun _ hr => chk_of hr) rfl rfl (Nat.le_of_ble_eq_true rfl) ⟨⟨Nat.le_of_ble_eq_true rfl, Nat.le_of_ble_eq_true rfl⟩, ⟨Nat.le_of_ble_eq_true rfl, Nat.le_of_ble_eq_true rfl⟩⟩ K_X1_read h (fun i16 s17 h => ?_)
      refine T_istore_n (lv' := [(3, .int i16), (0, .ref a0), (1, .int i1), (2, .int i2)]) dX2_turn_28 rfl (by decide) rfl ?_
      refine T_aload_n dX2_turn_29 rfl 1 rfl ?_
      refine T_getR dX2_turn_30 fl_RX2_26 h (fun a18 h => ?_)
      refine T_iload_n dX2_turn_33 rfl 2 rfl ?_
      refine T_iload_n dX2_turn_34 rfl 3 rfl ?_
      refine T_callVV (As := [.int i1, .int i2]) (rest := []) (b := a18) (ci := 1) dX2_turn_35 mc_X1_write mi_X1_write ml_RX2_48 rfl (fun _ hr => chk_of hr) rfl rfl (Nat.le_of_ble_eq_true rfl) ⟨⟨Nat.le_of_ble_eq_true rfl, Nat.le_of_ble_eq_true rfl⟩, ⟨Nat.le_of_ble_eq_true rfl, Nat.le_of_ble_eq_true rfl⟩⟩ K_X1_write h (fun s19 h => ?_)
      refine T_iload_n dX2_turn_38 rfl 0 rfl ?_
      exact T_ireturn dX2_turn_39 (Nat.le_of_ble_eq_true rfl) (Nat.le_of_ble_eq_true rfl) h
    · refine T_bipush (-2 : Int32) dX2_turn_17 (by decide) ?_
      exact T_ireturn dX2_turn_19 (Nat.le_of_ble_eq_true rfl) (Nat.le_of_ble_eq_true rfl) h
  · refine T_iconst (-1 : Int32) dX2_turn_8 (by decide) ?_
    exact T_ireturn dX2_turn_9 (Nat.le_of_ble_eq_true rfl) (Nat.le_of_ble_eq_true rfl) h

def D_X3_keepNote (a0 : Nat) (s0 : Hp) : Option Hp :=
  (isO s0 a0 3).bind fun _ =>
  (getI s0 a0 3 1).bind fun i11 =>
  (remI (i11 + (1 : Int32)) (7 : Int32)).bind fun i12 =>
  (putI s0 a0 3 1 i12).bind fun s13 =>
  (getI s13 a0 3 2).bind fun i14 =>
  nm (if (6 : Int32) < (i14 + (1 : Int32)) then (6 : Int32) else (i14 + (1 : Int32))) fun i15 =>
  (putI s13 a0 3 2 i15).bind fun s16 =>
  some s16
set_option maxRecDepth 100000 in
set_option maxHeartbeats 4000000 in
theorem K_X3_keepNote {l : Launch} {a0 : Nat} {s0 : Hp} : ∀ P, OK jV (D_X3_keepNote a0 s0) P → sm_Ct l yX3_keepNote cX3_keepNote 1 none 1 0 0 [.ref a0] s0 P := by
  intro P h
  unfold D_X3_keepNote at h
  obtain ⟨_, hb0, h⟩ := h.bind
  refine sm_enter (own := RX3) (lv := [(0, .ref a0)]) (by decide) rfl (Nat.le_of_ble_eq_true rfl) rfl (fun G => ?_)
  refine T_aload_n dX3_keepNote_0 rfl 0 rfl ?_
  refine T_aload_n dX3_keepNote_1 rfl 0 rfl ?_
  refine T_getI dX3_keepNote_2 fl_RX3_20 h (fun i11 h => ?_)
  refine T_iconst (1 : Int32) dX3_keepNote_5 (by decide) ?_
  refine T_iadd dX3_keepNote_6 ?_
  refine T_bipush (7 : Int32) dX3_keepNote_7 (by decide) ?_
  refine T_irem dX3_keepNote_9 h (fun i12 h => ?_)
  refine T_putI dX3_keepNote_10 fl_RX3_20 ft_3_1 h (fun s13 h => ?_)
  refine T_aload_n dX3_keepNote_13 rfl 0 rfl ?_
  refine T_aload_n dX3_keepNote_14 rfl 0 rfl ?_
  refine T_getI dX3_keepNote_15 fl_RX3_24 h (fun i14 h => ?_)
  refine T_iconst (1 : Int32) dX3_keepNote_18 (by decide) ?_
  refine T_iadd dX3_keepNote_19 ?_
  refine T_bipush (6 : Int32) dX3_keepNote_20 (by decide) ?_
  refine T_mmin dX3_keepNote_22 ml_RX3_31 wd_8_9 wd_3_17 wd_8_10 ⟨Nat.le_of_ble_eq_true rfl, Nat.le_of_ble_eq_true rfl, Nat.le_of_ble_eq_true rfl, Nat.le_of_ble_eq_true rfl⟩ ?_
  refine T_nm h (fun i15 h => ?_)
  refine T_putI dX3_keepNote_25 fl_RX3_24 ft_3_2 h (fun s16 h => ?_)
  exact T_vreturn dX3_keepNote_28 (Nat.le_of_ble_eq_true rfl) (Nat.le_of_ble_eq_true rfl) h

def D_X4_given (a0 : Nat) (i1 : Int32) (s0 : Hp) : Option (Int32 × Hp) :=
  (isO s0 a0 4).bind fun _ =>
  (getR s0 a0 4 3).bind fun a11 =>
  bd (D_X1_read a11 i1 s0) fun i12 s13 =>
  some (i12, s13)
set_option maxRecDepth 100000 in
set_option maxHeartbeats 4000000 in
theorem K_X4_given {l : Launch} {a0 : Nat} {i1 : Int32} {s0 : Hp} : ∀ P, OK jI (D_X4_given a0 i1 s0) P → sm_Ct l yX4_given cX4_given 2 (some .int) 1 0 0 [.ref a0, .int i1] s0 P := by
  intro P h
  unfold D_X4_given at h
  obtain ⟨_, hb0, h⟩ := h.bind
  refine sm_enter (own := RX4) (lv := [(0, .ref a0), (1, .int i1)]) (by decide) rfl (Nat.le_of_ble_eq_true rfl) rfl (fun G => ?_)
  refine T_aload_n dX4_given_0 rfl 0 rfl ?_
  refine T_getR dX4_given_1 fl_RX4_23 h (fun a11 h => ?_)
  refine T_iload_n dX4_given_4 rfl 1 rfl ?_
  refine T_callVI (As := [.int i1]) (rest := []) (b := a11) (ci := 1) dX4_given_5 mc_X1_read mi_X1_read ml_RX4_54 rfl (fun _ hr => chk_of hr) rfl rfl (Nat.le_of_ble_eq_true rfl) ⟨⟨Nat.le_of_ble_eq_true rfl, Nat.le_of_ble_eq_true rfl⟩, ⟨Nat.le_of_ble_eq_true rfl, Nat.le_of_ble_eq_true rfl⟩⟩ K_X1_read h (fun i12 s13 h => ?_)
  exact T_ireturn dX4_given_8 (Nat.le_of_ble_eq_true rfl) (Nat.le_of_ble_eq_true rfl) h

def D_X4_held (a0 : Nat) (i1 : Int32) (s0 : Hp) : Option (Int32 × Hp) :=
  (isO s0 a0 4).bind fun _ =>
  (getR s0 a0 4 5).bind fun a11 =>
  bd (D_X1_read a11 i1 s0) fun i12 s13 =>
  some (i12, s13)
set_option maxRecDepth 100000 in
set_option maxHeartbeats 4000000 in
theorem K_X4_held {l : Launch} {a0 : Nat} {i1 : Int32} {s0 : Hp} : ∀ P, OK jI (D_X4_held a0 i1 s0) P → sm_Ct l yX4_held cX4_held 2 (some .int) 1 0 0 [.ref a0, .int i1] s0 P := by
  intro P h
  unfold D_X4_held at h
  obtain ⟨_, hb0, h⟩ := h.bind
  refine sm_enter (own := RX4) (lv := [(0, .ref a0), (1, .int i1)]) (by decide) rfl (Nat.le_of_ble_eq_true rfl) rfl (fun G => ?_)
  refine T_aload_n dX4_held_0 rfl 0 rfl ?_
  refine T_getR dX4_held_1 fl_RX4_29 h (fun a11 h => ?_)
  refine T_iload_n dX4_held_4 rfl 1 rfl ?_
  refine T_callVI (As := [.int i1]) (rest := []) (b := a11) (ci := 1) dX4_held_5 mc_X1_read mi_X1_read ml_RX4_54 rfl (fun _ hr => chk_of hr) rfl rfl (Nat.le_of_ble_eq_true rfl) ⟨⟨Nat.le_of_ble_eq_true rfl, Nat.le_of_ble_eq_true rfl⟩, ⟨Nat.le_of_ble_eq_true rfl, Nat.le_of_ble_eq_true rfl⟩⟩ K_X1_read h (fun i12 s13 h => ?_)
  exact T_ireturn dX4_held_8 (Nat.le_of_ble_eq_true rfl) (Nat.le_of_ble_eq_true rfl) h

def D_X4_inPlace (a0 : Nat) (i1 : Int32) (i2 : Int32) (s0 : Hp) : Option (Int32 × Hp) :=
  (isO s0 a0 4).bind fun _ =>
  bd (D_X9_isPlace i1 i2 s0) fun i11 s12 =>
  if i11 = 0 then
  some ((-6 : Int32), s12)
  else
  (getR s12 a0 4 1).bind fun a13 =>
  bd (D_X1_read a13 ((i1 * (20 : Int32)) + i2) s12) fun i14 s15 =>
  some (i14, s15)
set_option maxRecDepth 100000 in
set_option maxHeartbeats 4000000 in
theorem K_X4_inPlace {l : Launch} {a0 : Nat} {i1 : Int32} {i2 : Int32} {s0 : Hp} : ∀ P, OK jI (D_X4_inPlace a0 i1 i2 s0) P → sm_Ct l yX4_inPlace cX4_inPlace 3 (some .int) 1 0 0 [.ref a0, .int i1, .int i2] s0 P := by
  intro P h
  unfold D_X4_inPlace at h
  obtain ⟨_, hb0, h⟩ := h.bind
  refine sm_enter (own := RX4) (lv := [(0, .ref a0), (1, .int i1), (2, .int i2)]) (by decide) rfl (Nat.le_of_ble_eq_true rfl) rfl (fun G => ?_)
  refine T_iload_n dX4_inPlace_0 rfl 1 rfl ?_
  refine T_iload_n dX4_inPlace_1 rfl 2 rfl ?_
  refine T_callSNI (As := [.int i1, .int i2]) (rest := []) dX4_inPlace_2 mc_X9_isPlace mi_X9_isPlace ml_RX4_83 rfl rfl (Nat.le_of_ble_eq_true rfl) ⟨⟨Nat.le_of_ble_eq_true rfl, Nat.le_of_ble_eq_true rfl⟩, ⟨Nat.le_of_ble_eq_true rfl, Nat.le_of_ble_eq_true rfl⟩⟩ K_X9_isPlace h (fun i11 s12 h => ?_)
  refine T_if_eq 24 dX4_inPlace_5 (by decide) h (fun _ h => ?_) (fun _ h => ?_)
  · refine T_bipush (-6 : Int32) dX4_inPlace_24 (by decide) ?_
    exact T_ireturn dX4_inPlace_26 (Nat.le_of_ble_eq_true rfl) (Nat.le_of_ble_eq_true rfl) h
  · refine T_aload_n dX4_inPlace_8 rfl 0 rfl ?_
    refine T_getR dX4_inPlace_9 fl_RX4_14 h (fun a13 h => ?_)
    refine T_iload_n dX4_inPlace_12 rfl 1 rfl ?_
    refine T_bipush (20 : Int32) dX4_inPlace_13 (by decide) ?_
    refine T_imul dX4_inPlace_15 ?_
    refine T_iload_n dX4_inPlace_16 rfl 2 rfl ?_
    refine T_iadd dX4_inPlace_17 ?_
    refine T_callVI (As := [.int ((i1 * (20 : Int32)) + i2)]) (rest := []) (b := a13) (ci := 1) dX4_inPlace_18 mc_X1_read mi_X1_read ml_RX4_54 rfl (fun _ hr => chk_of hr) rfl rfl (Nat.le_of_ble_eq_true rfl) ⟨⟨Nat.le_of_ble_eq_true rfl, Nat.le_of_ble_eq_true rfl⟩, ⟨Nat.le_of_ble_eq_true rfl, Nat.le_of_ble_eq_true rfl⟩⟩ K_X1_read h (fun i14 s15 h => ?_)
    refine T_goto 26 dX4_inPlace_21 (by decide) ?_
    exact T_ireturn dX4_inPlace_26 (Nat.le_of_ble_eq_true rfl) (Nat.le_of_ble_eq_true rfl) h

def D_X4_putInOrder_w2 (a11 : Nat) (i12 : Int32) (k58 : Int32 → Hp → Option Hp) : Nat → Int32 → Hp → Option Hp
  | 0, _, _ => none
  | n15 + 1, i13, s14 =>
  if i13 ≤ 0 then
  k58 i13 s14
  else
  (getR s14 a11 4 3).bind fun a16 =>
  (getR s14 a11 4 4).bind fun a17 =>
  bd (D_X1_read a17 (i13 - (1 : Int32)) s14) fun i18 s19 =>
  bd (D_X1_read a16 i18 s19) fun i20 s21 =>
  (getR s21 a11 4 3).bind fun a22 =>
  bd (D_X1_read a22 i12 s21) fun i23 s24 =>
  if i23 ≤ i20 then
  k58 i13 s24
  else
  (getR s24 a11 4 4).bind fun a25 =>
  (getR s24 a11 4 4).bind fun a26 =>
  bd (D_X1_read a26 (i13 - (1 : Int32)) s24) fun i27 s28 =>
  (D_X1_write a25 i13 i27 s28).bind fun s29 =>
  D_X4_putInOrder_w2 a11 i12 k58 n15 (i13 + (-1)) s29
def D_X4_putInOrder_b58  (a34 : Nat) (i35 : Int32) (i36 : Int32) (s37 : Hp) : Option Hp :=
  (getR s37 a34 4 4).bind fun a38 =>
  (D_X1_write a38 i36 i35 s37).bind fun s39 =>
  some s39
def D_X4_putInOrder (a0 : Nat) (i1 : Int32) (s0 : Hp) : Option Hp :=
  (isO s0 a0 4).bind fun _ =>
  D_X4_putInOrder_w2 a0 i1 (fun i33 s32 =>
  D_X4_putInOrder_b58 a0 i1 i33 s32
  ) FU i1 s0
set_option maxRecDepth 100000 in
set_option maxHeartbeats 4000000 in
theorem K_X4_putInOrder_w2 {l : Launch} {G : smG} {P : Option Value → Hp → Prop} {a11 : Nat} {i12 : Int32} {k58 : Int32 → Hp → Option Hp} (hk58 : ∀ (i30 : Int32) (s31 : Hp), OK jV (k58 i30 s31) P → T l G RX4 cX4_putInOrder 3 (sm_rm 1 0 0) (sm_E none yX4_putInOrder.name) (sm_Qs G P 0 0) 0 0 58 [(0, .ref a11), (1, .int i12), (2, .int i30)] [] s31) : ∀ (n : Nat) (i13 : Int32) (s14 : Hp), OK jV (D_X4_putInOrder_w2 a11 i12 k58 n i13 s14) P → T l G RX4 cX4_putInOrder 3 (sm_rm 1 0 0) (sm_E none yX4_putInOrder.name) (sm_Qs G P 0 0) 0 0 2 [(0, .ref a11), (1, .int i12), (2, .int i13)] [] s14 := by
  intro n
  induction n with
  | zero => intro i13 s14 h; obtain ⟨_, h0, _⟩ := h; exact absurd h0 (by simp [D_X4_putInOrder_w2])
  | succ n15 ih =>
    intro i13 s14 h
    unfold D_X4_putInOrder_w2 at h
    refine T_iload_n dX4_putInOrder_2 rfl 2 rfl ?_
    refine T_if_le 58 dX4_putInOrder_3 (by decide) h (fun _ h => ?_) (fun _ h => ?_)
    · exact hk58 i13 s14 h
    · refine T_aload_n dX4_putInOrder_6 rfl 0 rfl ?_
      refine T_getR dX4_putInOrder_7 fl_RX4_23 h (fun a16 h => ?_)
      refine T_aload_n dX4_putInOrder_10 rfl 0 rfl ?_
      refine T_getR dX4_putInOrder_11 fl_RX4_26 h (fun a17 h => ?_)
      refine T_iload_n dX4_putInOrder_14 rfl 2 rfl ?_
      refine T_iconst (1 : Int32) dX4_putInOrder_15 (by decide) ?_
      refine T_isub dX4_putInOrder_16 ?_
      refine T_callVI (As := [.int (i13 - (1 : Int32))]) (rest := [.ref a16]) (b := a17) (ci := 1) dX4_putInOrder_17 mc_X1_read mi_X1_read ml_RX4_54 rfl (fun _ hr => chk_of hr) rfl rfl (Nat.le_of_ble_eq_true rfl) ⟨⟨Nat.le_of_ble_eq_true rfl, Nat.le_of_ble_eq_true rfl⟩, ⟨Nat.le_of_ble_eq_true rfl, Nat.le_of_ble_eq_true rfl⟩⟩ K_X1_read h (fun i18 s19 h => ?_)
      refine T_callVI (As := [.int i18]) (rest := []) (b := a16) (ci := 1) dX4_putInOrder_20 mc_X1_read mi_X1_read ml_RX4_54 rfl (fun _ hr => chk_of hr) rfl rfl (Nat.le_of_ble_eq_true rfl) ⟨⟨Nat.le_of_ble_eq_true rfl, Nat.le_of_ble_eq_true rfl⟩, ⟨Nat.le_of_ble_eq_true rfl, Nat.le_of_ble_eq_true rfl⟩⟩ K_X1_read h (fun i20 s21 h => ?_)
      refine T_aload_n dX4_putInOrder_23 rfl 0 rfl ?_
      refine T_getR dX4_putInOrder_24 fl_RX4_23 h (fun a22 h => ?_)
      refine T_iload_n dX4_putInOrder_27 rfl 1 rfl ?_
      refine T_callVI (As := [.int i12]) (rest := [.int i20]) (b := a22) (ci := 1) dX4_putInOrder_28 mc_X1_read mi_X1_read ml_RX4_54 rfl (fun _ hr => chk_of hr) rfl rfl (Nat.le_of_ble_eq_true rfl) ⟨⟨Nat.le_of_ble_eq_true rfl, Nat.le_of_ble_eq_true rfl⟩, ⟨Nat.le_of_ble_eq_true rfl, Nat.le_of_ble_eq_true rfl⟩⟩ K_X1_read h (fun i23 s24 h => ?_)
      refine T_icmp_ge 58 dX4_putInOrder_31 (by decide) h (fun _ h => ?_) (fun _ h => ?_)
      · exact hk58 i13 s24 h
      · refine T_aload_n dX4_putInOrder_34 rfl 0 rfl ?_
        refine T_getR dX4_putInOrder_35 fl_RX4_26 h (fun a25 h => ?_)
        refine T_iload_n dX4_putInOrder_38 rfl 2 rfl ?_
        refine T_aload_n dX4_putInOrder_39 rfl 0 rfl ?_
        refine T_getR dX4_putInOrder_40 fl_RX4_26 h (fun a26 h => ?_)
        refine T_iload_n dX4_putInOrder_43 rfl 2 rfl ?_
        refine T_iconst (1 : Int32) dX4_putInOrder_44 (by decide) ?_
        refine T_isub dX4_putInOrder_45 ?_
        refine T_callVI (As := [.int (i13 - (1 : Int32))]) (rest := [.int i13, .ref a25]) (b := a26) (ci := 1) dX4_putInOrder_46 mc_X1_read mi_X1_read ml_RX4_54 rfl (fun _ hr => chk_of hr) rfl rfl (Nat.le_of_ble_eq_true rfl) ⟨⟨Nat.le_of_ble_eq_true rfl, Nat.le_of_ble_eq_true rfl⟩, ⟨Nat.le_of_ble_eq_true rfl, Nat.le_of_ble_eq_true rfl⟩⟩ K_X1_read h (fun i27 s28 h => ?_)
        refine T_callVV (As := [.int i13, .int i27]) (rest := []) (b := a25) (ci := 1) dX4_putInOrder_49 mc_X1_write mi_X1_write ml_RX4_61 rfl (fun _ hr => chk_of hr) rfl rfl (Nat.le_of_ble_eq_true rfl) ⟨⟨Nat.le_of_ble_eq_true rfl, Nat.le_of_ble_eq_true rfl⟩, ⟨Nat.le_of_ble_eq_true rfl, Nat.le_of_ble_eq_true rfl⟩⟩ K_X1_write h (fun s29 h => ?_)
        refine T_iinc (i13 + (-1)) (lv' := [(2, .int (i13 + (-1))), (0, .ref a11), (1, .int i12)]) dX4_putInOrder_52 (j := 2) rfl rfl (by decide) rfl ?_
        refine T_goto 2 dX4_putInOrder_55 (by decide) ?_
        refine T_lv (lv' := [(0, .ref a11), (1, .int i12), (2, .int (i13 + (-1)))]) [1, 2, 0] rfl ?_
        exact ih (i13 + (-1)) s29 h
set_option maxRecDepth 100000 in
set_option maxHeartbeats 4000000 in
theorem K_X4_putInOrder_b58 {l : Launch} {G : smG} {P : Option Value → Hp → Prop}  {a34 : Nat} {i35 : Int32} {i36 : Int32} {s37 : Hp}  (h : OK jV (D_X4_putInOrder_b58 a34 i35 i36 s37) P) : T l G RX4 cX4_putInOrder 3 (sm_rm 1 0 0) (sm_E none yX4_putInOrder.name) (sm_Qs G P 0 0) 0 0 58 [(0, .ref a34), (1, .int i35), (2, .int i36)] [] s37 := by
  unfold D_X4_putInOrder_b58 at h
  refine T_aload_n dX4_putInOrder_58 rfl 0 rfl ?_
  refine T_getR dX4_putInOrder_59 fl_RX4_26 h (fun a38 h => ?_)
  refine T_iload_n dX4_putInOrder_62 rfl 2 rfl ?_
  refine T_iload_n dX4_putInOrder_63 rfl 1 rfl ?_
  refine T_callVV (As := [.int i36, .int i35]) (rest := []) (b := a38) (ci := 1) dX4_putInOrder_64 mc_X1_write mi_X1_write ml_RX4_61 rfl (fun _ hr => chk_of hr) rfl rfl (Nat.le_of_ble_eq_true rfl) ⟨⟨Nat.le_of_ble_eq_true rfl, Nat.le_of_ble_eq_true rfl⟩, ⟨Nat.le_of_ble_eq_true rfl, Nat.le_of_ble_eq_true rfl⟩⟩ K_X1_write h (fun s39 h => ?_)
  exact T_vreturn dX4_putInOrder_67 (Nat.le_of_ble_eq_true rfl) (Nat.le_of_ble_eq_true rfl) h
set_option maxRecDepth 100000 in
set_option maxHeartbeats 4000000 in
theorem K_X4_putInOrder {l : Launch} {a0 : Nat} {i1 : Int32} {s0 : Hp} : ∀ P, OK jV (D_X4_putInOrder a0 i1 s0) P → sm_Ct l yX4_putInOrder cX4_putInOrder 3 none 1 0 0 [.ref a0, .int i1] s0 P := by
  intro P h
  unfold D_X4_putInOrder at h
  obtain ⟨_, hb0, h⟩ := h.bind
  refine sm_enter (own := RX4) (lv := [(0, .ref a0), (1, .int i1)]) (by decide) rfl (Nat.le_of_ble_eq_true rfl) rfl (fun G => ?_)
  refine T_iload_n dX4_putInOrder_0 rfl 1 rfl ?_
  refine T_istore_n (lv' := [(2, .int i1), (0, .ref a0), (1, .int i1)]) dX4_putInOrder_1 rfl (by decide) rfl ?_
  refine T_lv (lv' := [(0, .ref a0), (1, .int i1), (2, .int i1)]) [1, 2, 0] rfl ?_
  refine K_X4_putInOrder_w2 ?_ FU i1 s0 h
  intro i33 s32 h
  exact K_X4_putInOrder_b58 h

def D_X4_shader (a0 : Nat) (i1 : Int32) (i2 : Int32) (s0 : Hp) : Option (Int32 × Hp) :=
  (isO s0 a0 4).bind fun _ =>
  (getR s0 a0 4 2).bind fun a11 =>
  bd (D_X1_read a11 ((i1 * (11 : Int32)) + i2) s0) fun i12 s13 =>
  some (i12, s13)
set_option maxRecDepth 100000 in
set_option maxHeartbeats 4000000 in
theorem K_X4_shader {l : Launch} {a0 : Nat} {i1 : Int32} {i2 : Int32} {s0 : Hp} : ∀ P, OK jI (D_X4_shader a0 i1 i2 s0) P → sm_Ct l yX4_shader cX4_shader 3 (some .int) 1 0 0 [.ref a0, .int i1, .int i2] s0 P := by
  intro P h
  unfold D_X4_shader at h
  obtain ⟨_, hb0, h⟩ := h.bind
  refine sm_enter (own := RX4) (lv := [(0, .ref a0), (1, .int i1), (2, .int i2)]) (by decide) rfl (Nat.le_of_ble_eq_true rfl) rfl (fun G => ?_)
  refine T_aload_n dX4_shader_0 rfl 0 rfl ?_
  refine T_getR dX4_shader_1 fl_RX4_20 h (fun a11 h => ?_)
  refine T_iload_n dX4_shader_4 rfl 1 rfl ?_
  refine T_bipush (11 : Int32) dX4_shader_5 (by decide) ?_
  refine T_imul dX4_shader_7 ?_
  refine T_iload_n dX4_shader_8 rfl 2 rfl ?_
  refine T_iadd dX4_shader_9 ?_
  refine T_callVI (As := [.int ((i1 * (11 : Int32)) + i2)]) (rest := []) (b := a11) (ci := 1) dX4_shader_10 mc_X1_read mi_X1_read ml_RX4_54 rfl (fun _ hr => chk_of hr) rfl rfl (Nat.le_of_ble_eq_true rfl) ⟨⟨Nat.le_of_ble_eq_true rfl, Nat.le_of_ble_eq_true rfl⟩, ⟨Nat.le_of_ble_eq_true rfl, Nat.le_of_ble_eq_true rfl⟩⟩ K_X1_read h (fun i12 s13 h => ?_)
  exact T_ireturn dX4_shader_13 (Nat.le_of_ble_eq_true rfl) (Nat.le_of_ble_eq_true rfl) h

def D_X4_useIfBearable (a0 : Nat) (i1 : Int32) (s0 : Hp) : Option (Int32 × Hp) :=
  (isO s0 a0 4).bind fun _ =>
  (getR s0 a0 4 0).bind fun a11 =>
  (getR s0 a11 2 3).bind fun a12 =>
  bd (D_X1_read a12 i1 s0) fun i13 s14 =>
  (getR s14 a0 4 5).bind fun a15 =>
  bd (D_X1_read a15 i13 s14) fun i16 s17 =>
  (getR s17 a0 4 3).bind fun a18 =>
  bd (D_X1_read a18 i1 s17) fun i19 s20 =>
  nm (i16 + i19) fun i21 =>
  (getR s20 a0 4 0).bind fun a22 =>
  (getR s20 a22 2 0).bind fun a23 =>
  bd (D_X1_read a23 (0 : Int32) s20) fun i24 s25 =>
  if i21 ≤ i24 then
  (getR s25 a0 4 5).bind fun a26 =>
  (D_X1_write a26 i13 i21 s25).bind fun s27 =>
  (getI s27 a0 4 7).bind fun i28 =>
  (putI s27 a0 4 7 (i28 ||| ((1 : Int32) <<< (i1 &&& 31)))).bind fun s29 =>
  (getR s29 a0 4 3).bind fun a30 =>
  bd (D_X1_read a30 i1 s29) fun i31 s32 =>
  some (i31, s32)
  else
  some ((0 : Int32), s25)
set_option maxRecDepth 100000 in
set_option maxHeartbeats 4000000 in
theorem K_X4_useIfBearable {l : Launch} {a0 : Nat} {i1 : Int32} {s0 : Hp} : ∀ P, OK jI (D_X4_useIfBearable a0 i1 s0) P → sm_Ct l yX4_useIfBearable cX4_useIfBearable 4 (some .int) 1 0 0 [.ref a0, .int i1] s0 P := by
  intro P h
  unfold D_X4_useIfBearable at h
  obtain ⟨_, hb0, h⟩ := h.bind
  refine sm_enter (own := RX4) (lv := [(0, .ref a0), (1, .int i1)]) (by decide) rfl (Nat.le_of_ble_eq_true rfl) rfl (fun G => ?_)
  refine T_aload_n dX4_useIfBearable_0 rfl 0 rfl ?_
  refine T_getR dX4_useIfBearable_1 fl_RX4_39 h (fun a11 h => ?_)
  refine T_getR dX4_useIfBearable_4 fl_RX4_109 h (fun a12 h => ?_)
  refine T_iload_n dX4_useIfBearable_7 rfl 1 rfl ?_
  refine T_callVI (As := [.int i1]) (rest := []) (b := a12) (ci := 1) dX4_useIfBearable_8 mc_X1_read mi_X1_read ml_RX4_54 rfl (fun _ hr => chk_of hr) rfl rfl (Nat.le_of_ble_eq_true rfl) ⟨⟨Nat.le_of_ble_eq_true rfl, Nat.le_of_ble_eq_true rfl⟩, ⟨Nat.le_of_ble_eq_true rfl, Nat.le_of_ble_eq_true rfl⟩⟩ K_X1_read h (fun i13 s14 h => ?_)
  refine T_istore_n (lv' := [(2, .int i13), (0, .ref a0), (1, .int i1)]) dX4_useIfBearable_11 rfl (by decide) rfl ?_
  refine T_aload_n dX4_useIfBearable_12 rfl 1 rfl ?_
  refine T_getR dX4_useIfBearable_13 fl_RX4_29 h (fun a15 h => ?_)
  refine T_iload_n dX4_useIfBearable_16 rfl 0 rfl ?_
  refine T_callVI (As := [.int i13]) (rest := []) (b := a15) (ci := 1) dX4_useIfBearable_17 mc_X1_read mi_X1_read ml_RX4_54 rfl (fun _ hr => chk_of hr) rfl rfl (Nat.le_of_ble_eq_true rfl) ⟨⟨Nat.le_of_ble_eq_true rfl, Nat.le_of_ble_eq_true rfl⟩, ⟨Nat.le_of_ble_eq_true rfl, Nat.le_of_ble_eq_true rfl⟩⟩ K_X1_read h (fun i16 s17 h => ?_)
  refine T_aload_n dX4_useIfBearable_20 rfl 1 rfl ?_
  refine T_getR dX4_useIfBearable_21 fl_RX4_23 h (fun a18 h => ?_)
  refine T_iload_n dX4_useIfBearable_24 rfl 2 rfl ?_
  refine T_callVI (As := [.int i1]) (rest := [.int i16]) (b := a18) (ci := 1) dX4_useIfBearable_25 mc_X1_read mi_X1_read ml_RX4_54 rfl (fun _ hr => chk_of hr) rfl rfl (Nat.le_of_ble_eq_true rfl) ⟨⟨Nat.le_of_ble_eq_true rfl, Nat.le_of_ble_eq_true rfl⟩, ⟨Nat.le_of_ble_eq_true rfl, Nat.le_of_ble_eq_true rfl⟩⟩ K_X1_read h (fun i19 s20 h => ?_)
  refine T_iadd dX4_useIfBearable_28 ?_
  refine T_nm h (fun i21 h => ?_)
  refine T_istore_n (lv' := [(3, .int i21), (2, .int i13), (0, .ref a0), (1, .int i1)]) dX4_useIfBearable_29 rfl (by decide) rfl ?_
  refine T_iload_n dX4_useIfBearable_30 rfl 0 rfl ?_
  refine T_aload_n dX4_useIfBearable_31 rfl 2 rfl ?_
  refine T_getR dX4_useIfBearable_32 fl_RX4_39 h (fun a22 h => ?_)
  refine T_getR dX4_useIfBearable_35 fl_RX4_112 h (fun a23 h => ?_)
  refine T_iconst (0 : Int32) dX4_useIfBearable_38 (by decide) ?_
  refine T_callVI (As := [.int (0 : Int32)]) (rest := [.int i21]) (b := a23) (ci := 1) dX4_useIfBearable_39 mc_X1_read mi_X1_read ml_RX4_54 rfl (fun _ hr => chk_of hr) rfl rfl (Nat.le_of_ble_eq_true rfl) ⟨⟨Nat.le_of_ble_eq_true rfl, Nat.le_of_ble_eq_true rfl⟩, ⟨Nat.le_of_ble_eq_true rfl, Nat.le_of_ble_eq_true rfl⟩⟩ K_X1_read h (fun i24 s25 h => ?_)
  refine T_icmp_le 47 dX4_useIfBearable_42 (by decide) h (fun _ h => ?_) (fun _ h => ?_)
  · refine T_aload_n dX4_useIfBearable_47 rfl 2 rfl ?_
    refine T_getR dX4_useIfBearable_48 fl_RX4_29 h (fun a26 h => ?_)
    refine T_iload_n dX4_useIfBearable_51 rfl 1 rfl ?_
    refine T_iload_n dX4_useIfBearable_52 rfl 0 rfl ?_
    refine T_callVV (As := [.int i13, .int i21]) (rest := []) (b := a26) (ci := 1) dX4_useIfBearable_53 mc_X1_write mi_X1_write ml_RX4_61 rfl (fun _ hr => chk_of hr) rfl rfl (Nat.le_of_ble_eq_true rfl) ⟨⟨Nat.le_of_ble_eq_true rfl, Nat.le_of_ble_eq_true rfl⟩, ⟨Nat.le_of_ble_eq_true rfl, Nat.le_of_ble_eq_true rfl⟩⟩ K_X1_write h (fun s27 h => ?_)
    refine T_aload_n dX4_useIfBearable_56 rfl 2 rfl ?_
    refine T_dup dX4_useIfBearable_57 rfl ?_
    refine T_getI dX4_useIfBearable_58 fl_RX4_36 h (fun i28 h => ?_)
    refine T_iconst (1 : Int32) dX4_useIfBearable_61 (by decide) ?_
    refine T_iload_n dX4_useIfBearable_62 rfl 3 rfl ?_
    refine T_ishl dX4_useIfBearable_63 ?_
    refine T_ior dX4_useIfBearable_64 ?_
    refine T_putI dX4_useIfBearable_65 fl_RX4_36 ft_4_7 h (fun s29 h => ?_)
    refine T_aload_n dX4_useIfBearable_68 rfl 2 rfl ?_
    refine T_getR dX4_useIfBearable_69 fl_RX4_23 h (fun a30 h => ?_)
    refine T_iload_n dX4_useIfBearable_72 rfl 3 rfl ?_
    refine T_callVI (As := [.int i1]) (rest := []) (b := a30) (ci := 1) dX4_useIfBearable_73 mc_X1_read mi_X1_read ml_RX4_54 rfl (fun _ hr => chk_of hr) rfl rfl (Nat.le_of_ble_eq_true rfl) ⟨⟨Nat.le_of_ble_eq_true rfl, Nat.le_of_ble_eq_true rfl⟩, ⟨Nat.le_of_ble_eq_true rfl, Nat.le_of_ble_eq_true rfl⟩⟩ K_X1_read h (fun i31 s32 h => ?_)
    exact T_ireturn dX4_useIfBearable_76 (Nat.le_of_ble_eq_true rfl) (Nat.le_of_ble_eq_true rfl) h
  · refine T_iconst (0 : Int32) dX4_useIfBearable_45 (by decide) ?_
    exact T_ireturn dX4_useIfBearable_46 (Nat.le_of_ble_eq_true rfl) (Nat.le_of_ble_eq_true rfl) h

def D_X5_countSigns_w2 (l11 : Int64) (k45 : Int32 → Hp → Option (Int32 × Hp)) : Nat → Int32 → Hp → Option (Int32 × Hp)
  | 0, _, _ => none
  | n14 + 1, i12, s13 =>
  if (8 : Int32) ≤ i12 then
  k45 i12 s13
  else
  if (lg_cmp ((l11).toUInt64 >>> (((i12 * (8 : Int32))).toInt64.toUInt64 &&& Int64.toUInt64 63)).toInt64 (0 : Int64)) = 0 then
  k45 i12 s13
  else
  bd (D_X5_signFromEnd l11 i12 s13) fun i15 s16 =>
  if i15 < (33 : Int32) then
  some ((0 : Int32), s16)
  else
  if i15 ≤ (126 : Int32) then
  D_X5_countSigns_w2 l11 k45 n14 (i12 + 1) s16
  else
  some ((0 : Int32), s16)
def D_X5_countSigns (l0 : Int64) (s0 : Hp) : Option (Int32 × Hp) :=
  D_X5_countSigns_w2 l0 (fun i20 s19 =>
  some (i20, s19)
  ) FU (0 : Int32) s0
set_option maxRecDepth 100000 in
set_option maxHeartbeats 4000000 in
theorem K_X5_countSigns_w2 {l : Launch} {G : smG} {P : Option Value → Hp → Prop} {l11 : Int64} {k45 : Int32 → Hp → Option (Int32 × Hp)} (hk45 : ∀ (i17 : Int32) (s18 : Hp), OK jI (k45 i17 s18) P → T l G RX5 cX5_countSigns 4 (sm_rm 1 0 0) (sm_E (some .int) yX5_countSigns.name) (sm_Qs G P 0 0) 0 0 45 [(2, .int i17)] [] s18) : ∀ (n : Nat) (i12 : Int32) (s13 : Hp), OK jI (D_X5_countSigns_w2 l11 k45 n i12 s13) P → T l G RX5 cX5_countSigns 4 (sm_rm 1 0 0) (sm_E (some .int) yX5_countSigns.name) (sm_Qs G P 0 0) 0 0 2 [(0, .long l11), (2, .int i12)] [] s13 := by
  intro n
  induction n with
  | zero => intro i12 s13 h; obtain ⟨_, h0, _⟩ := h; exact absurd h0 (by simp [D_X5_countSigns_w2])
  | succ n14 ih =>
    intro i12 s13 h
    unfold D_X5_countSigns_w2 at h
    refine T_iload_n dX5_countSigns_2 rfl 1 rfl ?_
    refine T_bipush (8 : Int32) dX5_countSigns_3 (by decide) ?_
    refine T_icmp_ge 45 dX5_countSigns_5 (by decide) h (fun _ h => ?_) (fun _ h => ?_)
    · refine T_lv (lv' := [(2, .int i12)]) [1] rfl ?_
      exact hk45 i12 s13 h
    · refine T_lload_n dX5_countSigns_8 rfl 0 rfl ?_
      refine T_iload_n dX5_countSigns_9 rfl 1 rfl ?_
      refine T_bipush (8 : Int32) dX5_countSigns_10 (by decide) ?_
      refine T_imul dX5_countSigns_12 ?_
      refine T_lushr dX5_countSigns_13 ?_
      refine T_lconst (0 : Int64) dX5_countSigns_14 (by decide) ?_
      refine T_lcmp dX5_countSigns_15 ?_
      refine T_if_eq 45 dX5_countSigns_16 (by decide) h (fun _ h => ?_) (fun _ h => ?_)
      · refine T_lv (lv' := [(2, .int i12)]) [1] rfl ?_
        exact hk45 i12 s13 h
      · refine T_lload_n dX5_countSigns_19 rfl 0 rfl ?_
        refine T_iload_n dX5_countSigns_20 rfl 1 rfl ?_
        refine T_callSI (As := [.long l11, .int i12]) (rest := []) dX5_countSigns_21 mc_X5_signFromEnd mi_X5_signFromEnd ml_RX5_28 rfl rfl (Nat.le_of_ble_eq_true rfl) ⟨⟨Nat.le_of_ble_eq_true rfl, Nat.le_of_ble_eq_true rfl⟩, ⟨Nat.le_of_ble_eq_true rfl, Nat.le_of_ble_eq_true rfl⟩⟩ K_X5_signFromEnd h (fun i15 s16 h => ?_)
        refine T_istore_n (lv' := [(3, .int i15), (0, .long l11), (2, .int i12)]) dX5_countSigns_24 rfl (by decide) rfl ?_
        refine T_iload_n dX5_countSigns_25 rfl 0 rfl ?_
        refine T_bipush (33 : Int32) dX5_countSigns_26 (by decide) ?_
        refine T_icmp_lt 37 dX5_countSigns_28 (by decide) h (fun _ h => ?_) (fun _ h => ?_)
        · refine T_iconst (0 : Int32) dX5_countSigns_37 (by decide) ?_
          exact T_ireturn dX5_countSigns_38 (Nat.le_of_ble_eq_true rfl) (Nat.le_of_ble_eq_true rfl) h
        · refine T_iload_n dX5_countSigns_31 rfl 0 rfl ?_
          refine T_bipush (126 : Int32) dX5_countSigns_32 (by decide) ?_
          refine T_icmp_le 39 dX5_countSigns_34 (by decide) h (fun _ h => ?_) (fun _ h => ?_)
          · refine T_iinc (i12 + 1) (lv' := [(2, .int (i12 + 1)), (3, .int i15), (0, .long l11)]) dX5_countSigns_39 (j := 2) rfl rfl (by decide) rfl ?_
            refine T_goto 2 dX5_countSigns_42 (by decide) ?_
            refine T_lv (lv' := [(0, .long l11), (2, .int (i12 + 1))]) [2, 0] rfl ?_
            exact ih (i12 + 1) s16 h
          · refine T_iconst (0 : Int32) dX5_countSigns_37 (by decide) ?_
            exact T_ireturn dX5_countSigns_38 (Nat.le_of_ble_eq_true rfl) (Nat.le_of_ble_eq_true rfl) h
set_option maxRecDepth 100000 in
set_option maxHeartbeats 4000000 in
theorem K_X5_countSigns {l : Launch} {l0 : Int64} {s0 : Hp} : ∀ P, OK jI (D_X5_countSigns l0 s0) P → sm_Ct l yX5_countSigns cX5_countSigns 4 (some .int) 1 0 0 [.long l0] s0 P := by
  intro P h
  unfold D_X5_countSigns at h
  refine sm_enter (own := RX5) (lv := [(0, .long l0)]) (by decide) rfl (Nat.le_of_ble_eq_true rfl) rfl (fun G => ?_)
  refine T_iconst (0 : Int32) dX5_countSigns_0 (by decide) ?_
  refine T_istore_n (lv' := [(2, .int (0 : Int32)), (0, .long l0)]) dX5_countSigns_1 rfl (by decide) rfl ?_
  refine T_lv (lv' := [(0, .long l0), (2, .int (0 : Int32))]) [1, 0] rfl ?_
  refine K_X5_countSigns_w2 ?_ FU (0 : Int32) s0 h
  intro i20 s19 h
  refine T_iload_n dX5_countSigns_45 rfl 0 rfl ?_
  exact T_ireturn dX5_countSigns_46 (Nat.le_of_ble_eq_true rfl) (Nat.le_of_ble_eq_true rfl) h

def D_X5_sign (a0 : Nat) (i1 : Int32) (s0 : Hp) : Option (Int32 × Hp) :=
  (isO s0 a0 5).bind fun _ =>
  (getI s0 a0 5 1).bind fun i11 =>
  if i11 ≤ i1 then
  some ((0 : Int32), s0)
  else
  (getR s0 a0 5 0).bind fun a12 =>
  bd (D_X1_read a12 i1 s0) fun i13 s14 =>
  some (i13, s14)
set_option maxRecDepth 100000 in
set_option maxHeartbeats 4000000 in
theorem K_X5_sign {l : Launch} {a0 : Nat} {i1 : Int32} {s0 : Hp} : ∀ P, OK jI (D_X5_sign a0 i1 s0) P → sm_Ct l yX5_sign cX5_sign 2 (some .int) 1 0 0 [.ref a0, .int i1] s0 P := by
  intro P h
  unfold D_X5_sign at h
  obtain ⟨_, hb0, h⟩ := h.bind
  refine sm_enter (own := RX5) (lv := [(0, .ref a0), (1, .int i1)]) (by decide) rfl (Nat.le_of_ble_eq_true rfl) rfl (fun G => ?_)
  refine T_iload_n dX5_sign_0 rfl 1 rfl ?_
  refine T_aload_n dX5_sign_1 rfl 0 rfl ?_
  refine T_getI dX5_sign_2 fl_RX5_20 h (fun i11 h => ?_)
  refine T_icmp_ge 19 dX5_sign_5 (by decide) h (fun _ h => ?_) (fun _ h => ?_)
  · refine T_iconst (0 : Int32) dX5_sign_19 (by decide) ?_
    exact T_ireturn dX5_sign_20 (Nat.le_of_ble_eq_true rfl) (Nat.le_of_ble_eq_true rfl) h
  · refine T_aload_n dX5_sign_8 rfl 0 rfl ?_
    refine T_getR dX5_sign_9 fl_RX5_14 h (fun a12 h => ?_)
    refine T_iload_n dX5_sign_12 rfl 1 rfl ?_
    refine T_callVI (As := [.int i1]) (rest := []) (b := a12) (ci := 1) dX5_sign_13 mc_X1_read mi_X1_read ml_RX5_36 rfl (fun _ hr => chk_of hr) rfl rfl (Nat.le_of_ble_eq_true rfl) ⟨⟨Nat.le_of_ble_eq_true rfl, Nat.le_of_ble_eq_true rfl⟩, ⟨Nat.le_of_ble_eq_true rfl, Nat.le_of_ble_eq_true rfl⟩⟩ K_X1_read h (fun i13 s14 h => ?_)
    refine T_goto 20 dX5_sign_16 (by decide) ?_
    exact T_ireturn dX5_sign_20 (Nat.le_of_ble_eq_true rfl) (Nat.le_of_ble_eq_true rfl) h

def D_X6_first (a0 : Nat) (i1 : Int32) (s0 : Hp) : Option (Int32 × Hp) :=
  (isO s0 a0 6).bind fun _ =>
  (getR s0 a0 6 2).bind fun a11 =>
  bd (D_X1_read a11 i1 s0) fun i12 s13 =>
  some (i12, s13)
set_option maxRecDepth 100000 in
set_option maxHeartbeats 4000000 in
theorem K_X6_first {l : Launch} {a0 : Nat} {i1 : Int32} {s0 : Hp} : ∀ P, OK jI (D_X6_first a0 i1 s0) P → sm_Ct l yX6_first cX6_first 2 (some .int) 1 0 0 [.ref a0, .int i1] s0 P := by
  intro P h
  unfold D_X6_first at h
  obtain ⟨_, hb0, h⟩ := h.bind
  refine sm_enter (own := RX6) (lv := [(0, .ref a0), (1, .int i1)]) (by decide) rfl (Nat.le_of_ble_eq_true rfl) rfl (fun G => ?_)
  refine T_aload_n dX6_first_0 rfl 0 rfl ?_
  refine T_getR dX6_first_1 fl_RX6_20 h (fun a11 h => ?_)
  refine T_iload_n dX6_first_4 rfl 1 rfl ?_
  refine T_callVI (As := [.int i1]) (rest := []) (b := a11) (ci := 1) dX6_first_5 mc_X1_read mi_X1_read ml_RX6_79 rfl (fun _ hr => chk_of hr) rfl rfl (Nat.le_of_ble_eq_true rfl) ⟨⟨Nat.le_of_ble_eq_true rfl, Nat.le_of_ble_eq_true rfl⟩, ⟨Nat.le_of_ble_eq_true rfl, Nat.le_of_ble_eq_true rfl⟩⟩ K_X1_read h (fun i12 s13 h => ?_)
  exact T_ireturn dX6_first_8 (Nat.le_of_ble_eq_true rfl) (Nat.le_of_ble_eq_true rfl) h

def D_X6_kind (a0 : Nat) (i1 : Int32) (s0 : Hp) : Option (Int32 × Hp) :=
  (isO s0 a0 6).bind fun _ =>
  (getR s0 a0 6 1).bind fun a11 =>
  bd (D_X1_read a11 i1 s0) fun i12 s13 =>
  some (i12, s13)
set_option maxRecDepth 100000 in
set_option maxHeartbeats 4000000 in
theorem K_X6_kind {l : Launch} {a0 : Nat} {i1 : Int32} {s0 : Hp} : ∀ P, OK jI (D_X6_kind a0 i1 s0) P → sm_Ct l yX6_kind cX6_kind 2 (some .int) 1 0 0 [.ref a0, .int i1] s0 P := by
  intro P h
  unfold D_X6_kind at h
  obtain ⟨_, hb0, h⟩ := h.bind
  refine sm_enter (own := RX6) (lv := [(0, .ref a0), (1, .int i1)]) (by decide) rfl (Nat.le_of_ble_eq_true rfl) rfl (fun G => ?_)
  refine T_aload_n dX6_kind_0 rfl 0 rfl ?_
  refine T_getR dX6_kind_1 fl_RX6_14 h (fun a11 h => ?_)
  refine T_iload_n dX6_kind_4 rfl 1 rfl ?_
  refine T_callVI (As := [.int i1]) (rest := []) (b := a11) (ci := 1) dX6_kind_5 mc_X1_read mi_X1_read ml_RX6_79 rfl (fun _ hr => chk_of hr) rfl rfl (Nat.le_of_ble_eq_true rfl) ⟨⟨Nat.le_of_ble_eq_true rfl, Nat.le_of_ble_eq_true rfl⟩, ⟨Nat.le_of_ble_eq_true rfl, Nat.le_of_ble_eq_true rfl⟩⟩ K_X1_read h (fun i12 s13 h => ?_)
  exact T_ireturn dX6_kind_8 (Nat.le_of_ble_eq_true rfl) (Nat.le_of_ble_eq_true rfl) h

def D_X6_second (a0 : Nat) (i1 : Int32) (s0 : Hp) : Option (Int32 × Hp) :=
  (isO s0 a0 6).bind fun _ =>
  (getR s0 a0 6 3).bind fun a11 =>
  bd (D_X1_read a11 i1 s0) fun i12 s13 =>
  some (i12, s13)
set_option maxRecDepth 100000 in
set_option maxHeartbeats 4000000 in
theorem K_X6_second {l : Launch} {a0 : Nat} {i1 : Int32} {s0 : Hp} : ∀ P, OK jI (D_X6_second a0 i1 s0) P → sm_Ct l yX6_second cX6_second 2 (some .int) 1 0 0 [.ref a0, .int i1] s0 P := by
  intro P h
  unfold D_X6_second at h
  obtain ⟨_, hb0, h⟩ := h.bind
  refine sm_enter (own := RX6) (lv := [(0, .ref a0), (1, .int i1)]) (by decide) rfl (Nat.le_of_ble_eq_true rfl) rfl (fun G => ?_)
  refine T_aload_n dX6_second_0 rfl 0 rfl ?_
  refine T_getR dX6_second_1 fl_RX6_23 h (fun a11 h => ?_)
  refine T_iload_n dX6_second_4 rfl 1 rfl ?_
  refine T_callVI (As := [.int i1]) (rest := []) (b := a11) (ci := 1) dX6_second_5 mc_X1_read mi_X1_read ml_RX6_79 rfl (fun _ hr => chk_of hr) rfl rfl (Nat.le_of_ble_eq_true rfl) ⟨⟨Nat.le_of_ble_eq_true rfl, Nat.le_of_ble_eq_true rfl⟩, ⟨Nat.le_of_ble_eq_true rfl, Nat.le_of_ble_eq_true rfl⟩⟩ K_X1_read h (fun i12 s13 h => ?_)
  exact T_ireturn dX6_second_8 (Nat.le_of_ble_eq_true rfl) (Nat.le_of_ble_eq_true rfl) h
