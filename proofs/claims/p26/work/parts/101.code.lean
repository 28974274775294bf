def D_X2_add (a0 : Nat) (i1 : Int32) (i2 : Int32) (i3 : Int32) (s0 : Hp) : Option (Int32 × Hp) :=
  (isO s0 a0 2).bind fun _ =>
  (getI s0 a0 2 6).bind fun i11 =>
  (getR s0 a0 2 1).bind fun a12 =>
  (D_X1_write a12 i11 i1 s0).bind fun s13 =>
  (getR s13 a0 2 2).bind fun a14 =>
  (D_X1_write a14 i11 i2 s13).bind fun s15 =>
  (getR s15 a0 2 3).bind fun a16 =>
  (D_X1_write a16 i11 i3 s15).bind fun s17 =>
  (getR s17 a0 2 4).bind fun a18 =>
  (D_X1_write a18 i11 (0 : Int32) s17).bind fun s19 =>
  (getR s19 a0 2 5).bind fun a20 =>
  (D_X1_write a20 i11 (0 : Int32) s19).bind fun s21 =>
  (getI s21 a0 2 6).bind fun i22 =>
  (putI s21 a0 2 6 (i22 + (1 : Int32))).bind fun s23 =>
  some (i11, s23)
set_option maxRecDepth 100000 in
set_option maxHeartbeats 4000000 in
theorem K_X2_add {l : Launch} {a0 : Nat} {i1 : Int32} {i2 : Int32} {i3 : Int32} {s0 : Hp} : ∀ P, OK jI (D_X2_add a0 i1 i2 i3 s0) P → sm_Ct l yX2_add cX2_add 5 (some .int) 1 0 0 [.ref a0, .int i1, .int i2, .int i3] s0 P := by
  intro P h
  unfold D_X2_add at h
  obtain ⟨_, hb0, h⟩ := h.bind
  refine sm_enter (own := RX2) (lv := [(0, .ref a0), (1, .int i1), (2, .int i2), (3, .int i3)]) (by decide) rfl (Nat.le_of_ble_eq_true rfl) rfl (fun G => ?_)
  refine T_aload_n dX2_add_0 rfl 0 rfl ?_
  refine T_getI dX2_add_1 fl_RX2_35 h (fun i11 h => ?_)
  refine T_istore (lv' := [(4, .int i11), (0, .ref a0), (1, .int i1), (2, .int i2), (3, .int i3)]) dX2_add_4 (by decide) rfl ?_
  refine T_aload_n dX2_add_6 rfl 1 rfl ?_
  refine T_getR dX2_add_7 fl_RX2_20 h (fun a12 h => ?_)
  refine T_iload dX2_add_10 0 rfl ?_
  refine T_iload_n dX2_add_12 rfl 2 rfl ?_
  refine T_callVV (As := [.int i11, .int i1]) (rest := []) (b := a12) (ci := 1) dX2_add_13 mc_X1_write mi_X1_write ml_RX2_48 rfl (fun _ hr => chk_of hr) rfl rfl (Nat.le_of_ble_eq_true rfl) ⟨⟨Nat.le_of_ble_eq_true rfl, Nat.le_of_ble_eq_true rfl⟩, ⟨Nat.le_of_ble_eq_true rfl, Nat.le_of_ble_eq_true rfl⟩⟩ K_X1_write h (fun s13 h => ?_)
  refine T_aload_n dX2_add_16 rfl 1 rfl ?_
  refine T_getR dX2_add_17 fl_RX2_23 h (fun a14 h => ?_)
  refine T_iload dX2_add_20 0 rfl ?_
  refine T_iload_n dX2_add_22 rfl 3 rfl ?_
  refine T_callVV (As := [.int i11, .int i2]) (rest := []) (b := a14) (ci := 1) dX2_add_23 mc_X1_write mi_X1_write ml_RX2_48 rfl (fun _ hr => chk_of hr) rfl rfl (Nat.le_of_ble_eq_true rfl) ⟨⟨Nat.le_of_ble_eq_true rfl, Nat.le_of_ble_eq_true rfl⟩, ⟨Nat.le_of_ble_eq_true rfl, Nat.le_of_ble_eq_true rfl⟩⟩ K_X1_write h (fun s15 h => ?_)
  refine T_aload_n dX2_add_26 rfl 1 rfl ?_
  refine T_getR dX2_add_27 fl_RX2_26 h (fun a16 h => ?_)
  refine T_iload dX2_add_30 0 rfl ?_
  refine T_iload_n dX2_add_32 rfl 4 rfl ?_
  refine T_callVV (As := [.int i11, .int i3]) (rest := []) (b := a16) (ci := 1) dX2_add_33 mc_X1_write mi_X1_write ml_RX2_48 rfl (fun _ hr => chk_of hr) rfl rfl (Nat.le_of_ble_eq_true rfl) ⟨⟨Nat.le_of_ble_eq_true rfl, Nat.le_of_ble_eq_true rfl⟩, ⟨Nat.le_of_ble_eq_true rfl, Nat.le_of_ble_eq_true rfl⟩⟩ K_X1_write h (fun s17 h => ?_)
  refine T_aload_n dX2_add_36 rfl 1 rfl ?_
  refine T_getR dX2_add_37 fl_RX2_29 h (fun a18 h => ?_)
  refine T_iload dX2_add_40 0 rfl ?_
  refine T_iconst (0 : Int32) dX2_add_42 (by decide) ?_
  refine T_callVV (As := [.int i11, .int (0 : Int32)]) (rest := []) (b := a18) (ci := 1) dX2_add_43 mc_X1_write mi_X1_write ml_RX2_48 rfl (fun _ hr => chk_of hr) rfl rfl (Nat.le_of_ble_eq_true rfl) ⟨⟨Nat.le_of_ble_eq_true rfl, Nat.le_of_ble_eq_true rfl⟩, ⟨Nat.le_of_ble_eq_true rfl, Nat.le_of_ble_eq_true rfl⟩⟩ K_X1_write h (fun s19 h => ?_)
  refine T_aload_n dX2_add_46 rfl 1 rfl ?_
  refine T_getR dX2_add_47 fl_RX2_32 h (fun a20 h => ?_)
  refine T_iload dX2_add_50 0 rfl ?_
  refine T_iconst (0 : Int32) dX2_add_52 (by decide) ?_
  refine T_callVV (As := [.int i11, .int (0 : Int32)]) (rest := []) (b := a20) (ci := 1) dX2_add_53 mc_X1_write mi_X1_write ml_RX2_48 rfl (fun _ hr => chk_of hr) rfl rfl (Nat.le_of_ble_eq_true rfl) ⟨⟨Nat.le_of_ble_eq_true rfl, Nat.le_of_ble_eq_true rfl⟩, ⟨Nat.le_of_ble_eq_true rfl, Nat.le_of_ble_eq_true rfl⟩⟩ K_X1_write h (fun s21 h => ?_)
  refine T_aload_n dX2_add_56 rfl 1 rfl ?_
  refine T_dup dX2_add_57 rfl ?_
  refine T_getI dX2_add_58 fl_RX2_35 h (fun i22 h => ?_)
  refine T_iconst (1 : Int32) dX2_add_61 (by decide) ?_
  refine T_iadd dX2_add_62 ?_
  refine T_putI dX2_add_63 fl_RX2_35 ft_2_6 h (fun s23 h => ?_)
  refine T_iload dX2_add_66 0 rfl ?_
  exact T_ireturn dX2_add_68 (Nat.le_of_ble_eq_true rfl) (Nat.le_of_ble_eq_true rfl) h

def D_X2_allDust_w4 (a11 : Nat) (k29 : Int32 → Hp → Option (Int32 × Hp)) : Nat → Int32 → Int32 → Hp → Option (Int32 × Hp)
  | 0, _, _, _ => none
  | n15 + 1, i12, i13, s14 =>
  (getI s14 a11 2 6).bind fun i16 =>
  if i16 ≤ i13 then
  k29 i12 s14
  else
  (getR s14 a11 2 4).bind fun a17 =>
  bd (D_X1_read a17 i13 s14) fun i18 s19 =>
  nm (i12 + i18) fun i20 =>
  D_X2_allDust_w4 a11 k29 n15 i20 (i13 + 1) s19
def D_X2_allDust (a0 : Nat) (s0 : Hp) : Option (Int32 × Hp) :=
  (isO s0 a0 2).bind fun _ =>
  D_X2_allDust_w4 a0 (fun i24 s23 =>
  some (i24, s23)
  ) FU (0 : Int32) (0 : Int32) s0
set_option maxRecDepth 100000 in
set_option maxHeartbeats 4000000 in
theorem K_X2_allDust_w4 {l : Launch} {G : smG} {P : Option Value → Hp → Prop} {a11 : Nat} {k29 : Int32 → Hp → Option (Int32 × Hp)} (hk29 : ∀ (i21 : Int32) (s22 : Hp), OK jI (k29 i21 s22) P → T l G RX2 cX2_allDust 3 (sm_rm 1 0 0) (sm_E (some .int) yX2_allDust.name) (sm_Qs G P 0 0) 0 0 29 [(1, .int i21)] [] s22) : ∀ (n : Nat) (i12 : Int32) (i13 : Int32) (s14 : Hp), OK jI (D_X2_allDust_w4 a11 k29 n i12 i13 s14) P → T l G RX2 cX2_allDust 3 (sm_rm 1 0 0) (sm_E (some .int) yX2_allDust.name) (sm_Qs G P 0 0) 0 0 4 [(0, .ref a11), (1, .int i12), (2, .int i13)] [] s14 := by
  intro n
  induction n with
  | zero => intro i12 i13 s14 h; obtain ⟨_, h0, _⟩ := h; exact absurd h0 (by simp [D_X2_allDust_w4])
  | succ n15 ih =>
    intro i12 i13 s14 h
    unfold D_X2_allDust_w4 at h
    refine T_iload_n dX2_allDust_4 rfl 2 rfl ?_
    refine T_aload_n dX2_allDust_5 rfl 0 rfl ?_
    refine T_getI dX2_allDust_6 fl_RX2_35 h (fun i16 h => ?_)
    refine T_icmp_ge 29 dX2_allDust_9 (by decide) h (fun _ h => ?_) (fun _ h => ?_)
    · refine T_lv (lv' := [(1, .int i12)]) [1] rfl ?_
      exact hk29 i12 s14 h
    · refine T_iload_n dX2_allDust_12 rfl 1 rfl ?_
      refine T_aload_n dX2_allDust_13 rfl 0 rfl ?_
      refine T_getR dX2_allDust_14 fl_RX2_29 h (fun a17 h => ?_)
      refine T_iload_n dX2_allDust_17 rfl 2 rfl ?_
      refine T_callVI (As := [.int i13]) (rest := [.int i12]) (b := a17) (ci := 1) dX2_allDust_18 mc_X1_read mi_X1_read ml_RX2_60 rfl (fun _ hr => chk_of hr) rfl rfl (Nat.le_of_ble_eq_true rfl) ⟨⟨Nat.le_of_ble_eq_true rfl, Nat.le_of_ble_eq_true rfl⟩, ⟨Nat.le_of_ble_eq_true rfl, Nat.le_of_ble_eq_true rfl⟩⟩ K_X1_read h (fun i18 s19 h => ?_)
      refine T_iadd dX2_allDust_21 ?_
      refine T_nm h (fun i20 h => ?_)
      refine T_istore_n (lv' := [(1, .int i20), (0, .ref a11), (2, .int i13)]) dX2_allDust_22 rfl (by decide) rfl ?_
      refine T_iinc (i13 + 1) (lv' := [(2, .int (i13 + 1)), (1, .int i20), (0, .ref a11)]) dX2_allDust_23 (j := 2) rfl rfl (by decide) rfl ?_
      refine T_goto 4 dX2_allDust_26 (by decide) ?_
      refine T_lv (lv' := [(0, .ref a11), (1, .int i20), (2, .int (i13 + 1))]) [2, 1, 0] rfl ?_
      exact ih i20 (i13 + 1) s19 h
set_option maxRecDepth 100000 in
set_option maxHeartbeats 4000000 in
theorem K_X2_allDust {l : Launch} {a0 : Nat} {s0 : Hp} : ∀ P, OK jI (D_X2_allDust a0 s0) P → sm_Ct l yX2_allDust cX2_allDust 3 (some .int) 1 0 0 [.ref a0] s0 P := by
  intro P h
  unfold D_X2_allDust at h
  obtain ⟨_, hb0, h⟩ := h.bind
  refine sm_enter (own := RX2) (lv := [(0, .ref a0)]) (by decide) rfl (Nat.le_of_ble_eq_true rfl) rfl (fun G => ?_)
  refine T_iconst (0 : Int32) dX2_allDust_0 (by decide) ?_
  refine T_istore_n (lv' := [(1, .int (0 : Int32)), (0, .ref a0)]) dX2_allDust_1 rfl (by decide) rfl ?_
  refine T_iconst (0 : Int32) dX2_allDust_2 (by decide) ?_
  refine T_istore_n (lv' := [(2, .int (0 : Int32)), (1, .int (0 : Int32)), (0, .ref a0)]) dX2_allDust_3 rfl (by decide) rfl ?_
  refine T_lv (lv' := [(0, .ref a0), (1, .int (0 : Int32)), (2, .int (0 : Int32))]) [2, 1, 0] rfl ?_
  refine K_X2_allDust_w4 ?_ FU (0 : Int32) (0 : Int32) s0 h
  intro i24 s23 h
  refine T_iload_n dX2_allDust_29 rfl 0 rfl ?_
  exact T_ireturn dX2_allDust_30 (Nat.le_of_ble_eq_true rfl) (Nat.le_of_ble_eq_true rfl) h

def D_X2_changeSetting (a0 : Nat) (i1 : Int32) (i2 : Int32) (s0 : Hp) : Option (Int32 × Hp) :=
  (isO s0 a0 2).bind fun _ =>
  bd (D_X2_isSettingValue i1 i2 s0) fun i11 s12 =>
  if i11 = 0 then
  some ((-2 : Int32), s12)
  else
  (getR s12 a0 2 0).bind fun a13 =>
  bd (D_X1_read a13 i1 s12) fun i14 s15 =>
  (getR s15 a0 2 0).bind fun a16 =>
  (D_X1_write a16 i1 i2 s15).bind fun s17 =>
  some (i14, s17)
set_option maxRecDepth 100000 in
set_option maxHeartbeats 4000000 in
theorem K_X2_changeSetting {l : Launch} {a0 : Nat} {i1 : Int32} {i2 : Int32} {s0 : Hp} : ∀ P, OK jI (D_X2_changeSetting a0 i1 i2 s0) P → sm_Ct l yX2_changeSetting cX2_changeSetting 4 (some .int) 1 0 0 [.ref a0, .int i1, .int i2] s0 P := by
  intro P h
  unfold D_X2_changeSetting at h
  obtain ⟨_, hb0, h⟩ := h.bind
  refine sm_enter (own := RX2) (lv := [(0, .ref a0), (1, .int i1), (2, .int i2)]) (by decide) rfl (Nat.le_of_ble_eq_true rfl) rfl (fun G => ?_)
  refine T_iload_n dX2_changeSetting_0 rfl 1 rfl ?_
  refine T_iload_n dX2_changeSetting_1 rfl 2 rfl ?_
  refine T_callSI (As := [.int i1, .int i2]) (rest := []) dX2_changeSetting_2 mc_X2_isSettingValue mi_X2_isSettingValue ml_RX2_56 rfl rfl (Nat.le_of_ble_eq_true rfl) ⟨⟨Nat.le_of_ble_eq_true rfl, Nat.le_of_ble_eq_true rfl⟩, ⟨Nat.le_of_ble_eq_true rfl, Nat.le_of_ble_eq_true rfl⟩⟩ K_X2_isSettingValue h (fun i11 s12 h => ?_)
  refine T_if_ne 11 dX2_changeSetting_5 (by decide) h (fun _ h => ?_) (fun _ h => ?_)
  · refine T_aload_n dX2_changeSetting_11 rfl 0 rfl ?_
    refine T_getR dX2_changeSetting_12 fl_RX2_14 h (fun a13 h => ?_)
    refine T_iload_n dX2_changeSetting_15 rfl 1 rfl ?_
    refine T_callVI (As := [.int i1]) (rest := []) (b := a13) (ci := 1) dX2_changeSetting_16 mc_X1_read mi_X1_read ml_RX2_60 rfl (fun _ hr => chk_of hr) rfl rfl (Nat.le_of_ble_eq_true rfl) ⟨⟨Nat.le_of_ble_eq_true rfl, Nat.le_of_ble_eq_true rfl⟩, ⟨Nat.le_of_ble_eq_true rfl, Nat.le_of_ble_eq_true rfl⟩⟩ K_X1_read h (fun i14 s15 h => ?_)
    refine T_istore_n (lv' := [(3, .int i14), (0, .ref a0), (1, .int i1), (2, .int i2)]) dX2_changeSetting_19 rfl (by decide) rfl ?_
    refine T_aload_n dX2_changeSetting_20 rfl 1 rfl ?_
    refine T_getR dX2_changeSetting_21 fl_RX2_14 h (fun a16 h => ?_)
    refine T_iload_n dX2_changeSetting_24 rfl 2 rfl ?_
    refine T_iload_n dX2_changeSetting_25 rfl 3 rfl ?_
    refine T_callVV (As := [.int i1, .int i2]) (rest := []) (b := a16) (ci := 1) dX2_changeSetting_26 mc_X1_write mi_X1_write ml_RX2_48 rfl (fun _ hr => chk_of hr) rfl rfl (Nat.le_of_ble_eq_true rfl) ⟨⟨Nat.le_of_ble_eq_true rfl, Nat.le_of_ble_eq_true rfl⟩, ⟨Nat.le_of_ble_eq_true rfl, Nat.le_of_ble_eq_true rfl⟩⟩ K_X1_write h (fun s17 h => ?_)
    refine T_iload_n dX2_changeSetting_29 rfl 0 rfl ?_
    exact T_ireturn dX2_changeSetting_30 (Nat.le_of_ble_eq_true rfl) (Nat.le_of_ble_eq_true rfl) h
  · refine T_bipush (-2 : Int32) dX2_changeSetting_8 (by decide) ?_
    exact T_ireturn dX2_changeSetting_10 (Nat.le_of_ble_eq_true rfl) (Nat.le_of_ble_eq_true rfl) h

def D_X2_clean (a0 : Nat) (i1 : Int32) (s0 : Hp) : Option (Int32 × Hp) :=
  (isO s0 a0 2).bind fun _ =>
  bd (D_X2_isMirror a0 i1 s0) fun i11 s12 =>
  if i11 = 0 then
  some ((-1 : Int32), s12)
  else
  (getR s12 a0 2 4).bind fun a13 =>
  bd (D_X1_read a13 i1 s12) fun i14 s15 =>
  (getR s15 a0 2 4).bind fun a16 =>
  (D_X1_write a16 i1 (0 : Int32) s15).bind fun s17 =>
  some (i14, s17)
set_option maxRecDepth 100000 in
set_option maxHeartbeats 4000000 in
theorem K_X2_clean {l : Launch} {a0 : Nat} {i1 : Int32} {s0 : Hp} : ∀ P, OK jI (D_X2_clean a0 i1 s0) P → sm_Ct l yX2_clean cX2_clean 3 (some .int) 1 0 0 [.ref a0, .int i1] s0 P := by
  intro P h
  unfold D_X2_clean at h
  obtain ⟨_, hb0, h⟩ := h.bind
  refine sm_enter (own := RX2) (lv := [(0, .ref a0), (1, .int i1)]) (by decide) rfl (Nat.le_of_ble_eq_true rfl) rfl (fun G => ?_)
  refine T_aload_n dX2_clean_0 rfl 0 rfl ?_
  refine T_iload_n dX2_clean_1 rfl 1 rfl ?_
  refine T_callVI (As := [.int i1]) (rest := []) (b := a0) (ci := 2) dX2_clean_2 mc_X2_isMirror mi_X2_isMirror ml_RX2_79 rfl (fun _ hr => chk_of hr) rfl rfl (Nat.le_of_ble_eq_true rfl) ⟨⟨Nat.le_of_ble_eq_true rfl, Nat.le_of_ble_eq_true rfl⟩, ⟨Nat.le_of_ble_eq_true rfl, Nat.le_of_ble_eq_true rfl⟩⟩ K_X2_isMirror h (fun i11 s12 h => ?_)
  refine T_if_ne 10 dX2_clean_5 (by decide) h (fun _ h => ?_) (fun _ h => ?_)
  · refine T_aload_n dX2_clean_10 rfl 0 rfl ?_
    refine T_getR dX2_clean_11 fl_RX2_29 h (fun a13 h => ?_)
    refine T_iload_n dX2_clean_14 rfl 1 rfl ?_
    refine T_callVI (As := [.int i1]) (rest := []) (b := a13) (ci := 1) dX2_clean_15 mc_X1_read mi_X1_read ml_RX2_60 rfl (fun _ hr => chk_of hr) rfl rfl (Nat.le_of_ble_eq_true rfl) ⟨⟨Nat.le_of_ble_eq_true rfl, Nat.le_of_ble_eq_true rfl⟩, ⟨Nat.le_of_ble_eq_true rfl, Nat.le_of_ble_eq_true rfl⟩⟩ K_X1_read h (fun i14 s15 h => ?_)
    refine T_istore_n (lv' := [(2, .int i14), (0, .ref a0), (1, .int i1)]) dX2_clean_18 rfl (by decide) rfl ?_
    refine T_aload_n dX2_clean_19 rfl 1 rfl ?_
    refine T_getR dX2_clean_20 fl_RX2_29 h (fun a16 h => ?_)
    refine T_iload_n dX2_clean_23 rfl 2 rfl ?_
    refine T_iconst (0 : Int32) dX2_clean_24 (by decide) ?_
    refine T_callVV (As := [.int i1, .int (0 : Int32)]) (rest := []) (b := a16) (ci := 1) dX2_clean_25 mc_X1_write mi_X1_write ml_RX2_48 rfl (fun _ hr => chk_of hr) rfl rfl (Nat.le_of_ble_eq_true rfl) ⟨⟨Nat.le_of_ble_eq_true rfl, Nat.le_of_ble_eq_true rfl⟩, ⟨Nat.le_of_ble_eq_true rfl, Nat.le_of_ble_eq_true rfl⟩⟩ K_X1_write h (fun s17 h => ?_)
    refine T_iload_n dX2_clean_28 rfl 0 rfl ?_
    exact T_ireturn dX2_clean_29 (Nat.le_of_ble_eq_true rfl) (Nat.le_of_ble_eq_true rfl) h
  · refine T_iconst (-1 : Int32) dX2_clean_8 (by decide) ?_
    exact T_ireturn dX2_clean_9 (Nat.le_of_ble_eq_true rfl) (Nat.le_of_ble_eq_true rfl) h

def D_X2_credit (a0 : Nat) (i1 : Int32) (i2 : Int32) (s0 : Hp) : Option Hp :=
  (isO s0 a0 2).bind fun _ =>
  (getR s0 a0 2 5).bind fun a11 =>
  (getR s0 a0 2 5).bind fun a12 =>
  bd (D_X1_read a12 i1 s0) fun i13 s14 =>
  (D_X1_write a11 i1 (i13 + i2) s14).bind fun s15 =>
  some s15
set_option maxRecDepth 100000 in
set_option maxHeartbeats 4000000 in
theorem K_X2_credit {l : Launch} {a0 : Nat} {i1 : Int32} {i2 : Int32} {s0 : Hp} : ∀ P, OK jV (D_X2_credit a0 i1 i2 s0) P → sm_Ct l yX2_credit cX2_credit 3 none 1 0 0 [.ref a0, .int i1, .int i2] s0 P := by
  intro P h
  unfold D_X2_credit at h
  obtain ⟨_, hb0, h⟩ := h.bind
  refine sm_enter (own := RX2) (lv := [(0, .ref a0), (1, .int i1), (2, .int i2)]) (by decide) rfl (Nat.le_of_ble_eq_true rfl) rfl (fun G => ?_)
  refine T_aload_n dX2_credit_0 rfl 0 rfl ?_
  refine T_getR dX2_credit_1 fl_RX2_32 h (fun a11 h => ?_)
  refine T_iload_n dX2_credit_4 rfl 1 rfl ?_
  refine T_aload_n dX2_credit_5 rfl 0 rfl ?_
  refine T_getR dX2_credit_6 fl_RX2_32 h (fun a12 h => ?_)
  refine T_iload_n dX2_credit_9 rfl 1 rfl ?_
  refine T_callVI (As := [.int i1]) (rest := [.int i1, .ref a11]) (b := a12) (ci := 1) dX2_credit_10 mc_X1_read mi_X1_read ml_RX2_60 rfl (fun _ hr => chk_of hr) rfl rfl (Nat.le_of_ble_eq_true rfl) ⟨⟨Nat.le_of_ble_eq_true rfl, Nat.le_of_ble_eq_true rfl⟩, ⟨Nat.le_of_ble_eq_true rfl, Nat.le_of_ble_eq_true rfl⟩⟩ K_X1_read h (fun i13 s14 h => ?_)
  refine T_iload_n dX2_credit_13 rfl 2 rfl ?_
  refine T_iadd dX2_credit_14 ?_
  refine T_callVV (As := [.int i1, .int (i13 + i2)]) (rest := []) (b := a11) (ci := 1) dX2_credit_15 mc_X1_write mi_X1_write ml_RX2_48 rfl (fun _ hr => chk_of hr) rfl rfl (Nat.le_of_ble_eq_true rfl) ⟨⟨Nat.le_of_ble_eq_true rfl, Nat.le_of_ble_eq_true rfl⟩, ⟨Nat.le_of_ble_eq_true rfl, Nat.le_of_ble_eq_true rfl⟩⟩ K_X1_write h (fun s15 h => ?_)
  exact T_vreturn dX2_credit_18 (Nat.le_of_ble_eq_true rfl) (Nat.le_of_ble_eq_true rfl) h

def D_X2_endDay_w22 (a15 : Nat) (k66 : Hp → Option Hp) : Nat → Int32 → Hp → Option Hp
  | 0, _, _ => none
  | n18 + 1, i16, s17 =>
  (getI s17 a15 2 6).bind fun i19 =>
  if i19 ≤ i16 then
  k66 s17
  else
  (getR s17 a15 2 4).bind fun a20 =>
  (getR s17 a15 2 4).bind fun a21 =>
  bd (D_X1_read a21 i16 s17) fun i22 s23 =>
  (getR s23 a15 2 0).bind fun a24 =>
  bd (D_X1_read a24 (2 : Int32) s23) fun i25 s26 =>
  nm (if (i22 + i25) < (100 : Int32) then (i22 + i25) else (100 : Int32)) fun i27 =>
  (D_X1_write a20 i16 i27 s26).bind fun s28 =>
  D_X2_endDay_w22 a15 k66 n18 (i16 + 1) s28
def D_X2_endDay (a0 : Nat) (i1 : Int32) (s0 : Hp) : Option Hp :=
  (isO s0 a0 2).bind fun _ =>
  (getI s0 a0 2 8).bind fun i11 =>
  (putI s0 a0 2 8 (i11 + (1 : Int32))).bind fun s12 =>
  (getI s12 a0 2 9).bind fun i13 =>
  (putI s12 a0 2 9 (i13 + i1)).bind fun s14 =>
  D_X2_endDay_w22 a0 (fun s30 =>
  some s30
  ) FU (0 : Int32) s14
set_option maxRecDepth 100000 in
set_option maxHeartbeats 4000000 in
theorem K_X2_endDay_w22 {l : Launch} {G : smG} {P : Option Value → Hp → Prop} {a15 : Nat} {k66 : Hp → Option Hp} (hk66 : ∀  (s29 : Hp), OK jV (k66 s29) P → T l G RX2 cX2_endDay 3 (sm_rm 1 0 0) (sm_E none yX2_endDay.name) (sm_Qs G P 0 0) 0 0 66 [] [] s29) : ∀ (n : Nat) (i16 : Int32) (s17 : Hp), OK jV (D_X2_endDay_w22 a15 k66 n i16 s17) P → T l G RX2 cX2_endDay 3 (sm_rm 1 0 0) (sm_E none yX2_endDay.name) (sm_Qs G P 0 0) 0 0 22 [(0, .ref a15), (2, .int i16)] [] s17 := by
  intro n
  induction n with
  | zero => intro i16 s17 h; obtain ⟨_, h0, _⟩ := h; exact absurd h0 (by simp [D_X2_endDay_w22])
  | succ n18 ih =>
    intro i16 s17 h
    unfold D_X2_endDay_w22 at h
    refine T_iload_n dX2_endDay_22 rfl 1 rfl ?_
    refine T_aload_n dX2_endDay_23 rfl 0 rfl ?_
    refine T_getI dX2_endDay_24 fl_RX2_35 h (fun i19 h => ?_)
    refine T_icmp_ge 66 dX2_endDay_27 (by decide) h (fun _ h => ?_) (fun _ h => ?_)
    · refine T_lv (lv' := []) [] rfl ?_
      exact hk66 s17 h
    · refine T_aload_n dX2_endDay_30 rfl 0 rfl ?_
      refine T_getR dX2_endDay_31 fl_RX2_29 h (fun a20 h => ?_)
      refine T_iload_n dX2_endDay_34 rfl 1 rfl ?_
      refine T_bipush (100 : Int32) dX2_endDay_35 (by decide) ?_
      refine T_aload_n dX2_endDay_37 rfl 0 rfl ?_
      refine T_getR dX2_endDay_38 fl_RX2_29 h (fun a21 h => ?_)
      refine T_iload_n dX2_endDay_41 rfl 1 rfl ?_
      refine T_callVI (As := [.int i16]) (rest := [.int (100 : Int32), .int i16, .ref a20]) (b := a21) (ci := 1) dX2_endDay_42 mc_X1_read mi_X1_read ml_RX2_60 rfl (fun _ hr => chk_of hr) rfl rfl (Nat.le_of_ble_eq_true rfl) ⟨⟨Nat.le_of_ble_eq_true rfl, Nat.le_of_ble_eq_true rfl⟩, ⟨Nat.le_of_ble_eq_true rfl, Nat.le_of_ble_eq_true rfl⟩⟩ K_X1_read h (fun i22 s23 h => ?_)
      refine T_aload_n dX2_endDay_45 rfl 0 rfl ?_
      refine T_getR dX2_endDay_46 fl_RX2_14 h (fun a24 h => ?_)
      refine T_iconst (2 : Int32) dX2_endDay_49 (by decide) ?_
      refine T_callVI (As := [.int (2 : Int32)]) (rest := [.int i22, .int (100 : Int32), .int i16, .ref a20]) (b := a24) (ci := 1) dX2_endDay_50 mc_X1_read mi_X1_read ml_RX2_60 rfl (fun _ hr => chk_of hr) rfl rfl (Nat.le_of_ble_eq_true rfl) ⟨⟨Nat.le_of_ble_eq_true rfl, Nat.le_of_ble_eq_true rfl⟩, ⟨Nat.le_of_ble_eq_true rfl, Nat.le_of_ble_eq_true rfl⟩⟩ K_X1_read h (fun i25 s26 h => ?_)
      refine T_iadd dX2_endDay_53 ?_
      refine T_mmin dX2_endDay_54 ml_RX2_89 wd_12_22 wd_3_13 wd_12_23 ⟨Nat.le_of_ble_eq_true rfl, Nat.le_of_ble_eq_true rfl, Nat.le_of_ble_eq_true rfl, Nat.le_of_ble_eq_true rfl⟩ ?_
      refine T_nm h (fun i27 h => ?_)
      refine T_callVV (As := [.int i16, .int i27]) (rest := []) (b := a20) (ci := 1) dX2_endDay_57 mc_X1_write mi_X1_write ml_RX2_48 rfl (fun _ hr => chk_of hr) rfl rfl (Nat.le_of_ble_eq_true rfl) ⟨⟨Nat.le_of_ble_eq_true rfl, Nat.le_of_ble_eq_true rfl⟩, ⟨Nat.le_of_ble_eq_true rfl, Nat.le_of_ble_eq_true rfl⟩⟩ K_X1_write h (fun s28 h => ?_)
      refine T_iinc (i16 + 1) (lv' := [(2, .int (i16 + 1)), (0, .ref a15)]) dX2_endDay_60 (j := 1) rfl rfl (by decide) rfl ?_
      refine T_goto 22 dX2_endDay_63 (by decide) ?_
      refine T_lv (lv' := [(0, .ref a15), (2, .int (i16 + 1))]) [1, 0] rfl ?_
      exact ih (i16 + 1) s28 h
set_option maxRecDepth 100000 in
set_option maxHeartbeats 4000000 in
theorem K_X2_endDay {l : Launch} {a0 : Nat} {i1 : Int32} {s0 : Hp} : ∀ P, OK jV (D_X2_endDay a0 i1 s0) P → sm_Ct l yX2_endDay cX2_endDay 3 none 1 0 0 [.ref a0, .int i1] s0 P := by
  intro P h
  unfold D_X2_endDay at h
  obtain ⟨_, hb0, h⟩ := h.bind
  refine sm_enter (own := RX2) (lv := [(0, .ref a0), (1, .int i1)]) (by decide) rfl (Nat.le_of_ble_eq_true rfl) rfl (fun G => ?_)
  refine T_aload_n dX2_endDay_0 rfl 0 rfl ?_
  refine T_dup dX2_endDay_1 rfl ?_
  refine T_getI dX2_endDay_2 fl_RX2_42 h (fun i11 h => ?_)
  refine T_iconst (1 : Int32) dX2_endDay_5 (by decide) ?_
  refine T_iadd dX2_endDay_6 ?_
  refine T_putI dX2_endDay_7 fl_RX2_42 ft_2_8 h (fun s12 h => ?_)
  refine T_aload_n dX2_endDay_10 rfl 0 rfl ?_
  refine T_dup dX2_endDay_11 rfl ?_
  refine T_getI dX2_endDay_12 fl_RX2_45 h (fun i13 h => ?_)
  refine T_iload_n dX2_endDay_15 rfl 1 rfl ?_
  refine T_iadd dX2_endDay_16 ?_
  refine T_putI dX2_endDay_17 fl_RX2_45 ft_2_9 h (fun s14 h => ?_)
  refine T_iconst (0 : Int32) dX2_endDay_20 (by decide) ?_
  refine T_istore_n (lv' := [(2, .int (0 : Int32)), (0, .ref a0), (1, .int i1)]) dX2_endDay_21 rfl (by decide) rfl ?_
  refine T_lv (lv' := [(0, .ref a0), (2, .int (0 : Int32))]) [1, 0] rfl ?_
  refine K_X2_endDay_w22 ?_ FU (0 : Int32) s14 h
  intro s30 h
  exact T_vreturn dX2_endDay_66 (Nat.le_of_ble_eq_true rfl) (Nat.le_of_ble_eq_true rfl) h

def D_X2_liesFlat (a0 : Nat) (s0 : Hp) : Option (Int32 × Hp) :=
  (isO s0 a0 2).bind fun _ =>
  (getI s0 a0 2 7).bind fun i11 =>
  (getR s0 a0 2 0).bind fun a12 =>
  bd (D_X1_read a12 (1 : Int32) s0) fun i13 s14 =>
  if i11 ≤ i13 then
  retZ (0 : Int32) ((0 : Int32), s14)
  else
  retZ (1 : Int32) ((1 : Int32), s14)
set_option maxRecDepth 100000 in
set_option maxHeartbeats 4000000 in
theorem K_X2_liesFlat {l : Launch} {a0 : Nat} {s0 : Hp} : ∀ P, OK jI (D_X2_liesFlat a0 s0) P → sm_Ct l yX2_liesFlat cX2_liesFlat 1 (some .boolean) 1 0 0 [.ref a0] s0 P := by
  intro P h
  unfold D_X2_liesFlat at h
  obtain ⟨_, hb0, h⟩ := h.bind
  refine sm_enter (own := RX2) (lv := [(0, .ref a0)]) (by decide) rfl (Nat.le_of_ble_eq_true rfl) rfl (fun G => ?_)
  refine T_aload_n dX2_liesFlat_0 rfl 0 rfl ?_
  refine T_getI dX2_liesFlat_1 fl_RX2_39 h (fun i11 h => ?_)
  refine T_aload_n dX2_liesFlat_4 rfl 0 rfl ?_
  refine T_getR dX2_liesFlat_5 fl_RX2_14 h (fun a12 h => ?_)
  refine T_iconst (1 : Int32) dX2_liesFlat_8 (by decide) ?_
  refine T_callVI (As := [.int (1 : Int32)]) (rest := [.int i11]) (b := a12) (ci := 1) dX2_liesFlat_9 mc_X1_read mi_X1_read ml_RX2_60 rfl (fun _ hr => chk_of hr) rfl rfl (Nat.le_of_ble_eq_true rfl) ⟨⟨Nat.le_of_ble_eq_true rfl, Nat.le_of_ble_eq_true rfl⟩, ⟨Nat.le_of_ble_eq_true rfl, Nat.le_of_ble_eq_true rfl⟩⟩ K_X1_read h (fun i13 s14 h => ?_)
  refine T_icmp_le 19 dX2_liesFlat_12 (by decide) h (fun _ h => ?_) (fun _ h => ?_)
  · refine T_iconst (0 : Int32) dX2_liesFlat_19 (by decide) ?_
    exact T_zreturn dX2_liesFlat_20 (Nat.le_of_ble_eq_true rfl) (Nat.le_of_ble_eq_true rfl) h
  · refine T_iconst (1 : Int32) dX2_liesFlat_15 (by decide) ?_
    refine T_goto 20 dX2_liesFlat_16 (by decide) ?_
    exact T_zreturn dX2_liesFlat_20 (Nat.le_of_ble_eq_true rfl) (Nat.le_of_ble_eq_true rfl) h

def D_X2_mirrorIn_w2 (a11 : Nat) (i12 : Int32) (i13 : Int32) (k42 : Hp → Option (Int32 × Hp)) : Nat → Int32 → Hp → Option (Int32 × Hp)
  | 0, _, _ => none
  | n16 + 1, i14, s15 =>
  (getI s15 a11 2 6).bind fun i17 =>
  if i17 ≤ i14 then
  k42 s15
  else
  (getR s15 a11 2 1).bind fun a18 =>
  bd (D_X1_read a18 i14 s15) fun i19 s20 =>
  if i19 = i12 then
  (getR s20 a11 2 2).bind fun a21 =>
  bd (D_X1_read a21 i14 s20) fun i22 s23 =>
  if i22 = i13 then
  some (i14, s23)
  else
  D_X2_mirrorIn_w2 a11 i12 i13 k42 n16 (i14 + 1) s23
  else
  D_X2_mirrorIn_w2 a11 i12 i13 k42 n16 (i14 + 1) s20
def D_X2_mirrorIn (a0 : Nat) (i1 : Int32) (i2 : Int32) (s0 : Hp) : Option (Int32 × Hp) :=
  (isO s0 a0 2).bind fun _ =>
  D_X2_mirrorIn_w2 a0 i1 i2 (fun s25 =>
  some ((-6 : Int32), s25)
  ) FU (0 : Int32) s0
set_option maxRecDepth 100000 in
set_option maxHeartbeats 4000000 in
theorem K_X2_mirrorIn_w2 {l : Launch} {G : smG} {P : Option Value → Hp → Prop} {a11 : Nat} {i12 : Int32} {i13 : Int32} {k42 : Hp → Option (Int32 × Hp)} (hk42 : ∀  (s24 : Hp), OK jI (k42 s24) P → T l G RX2 cX2_mirrorIn 4 (sm_rm 1 0 0) (sm_E (some .int) yX2_mirrorIn.name) (sm_Qs G P 0 0) 0 0 42 [] [] s24) : ∀ (n : Nat) (i14 : Int32) (s15 : Hp), OK jI (D_X2_mirrorIn_w2 a11 i12 i13 k42 n i14 s15) P → T l G RX2 cX2_mirrorIn 4 (sm_rm 1 0 0) (sm_E (some .int) yX2_mirrorIn.name) (sm_Qs G P 0 0) 0 0 2 [(0, .ref a11), (1, .int i12), (2, .int i13), (3, .int i14)] [] s15 := by
  intro n
  induction n with
  | zero => intro i14 s15 h; obtain ⟨_, h0, _⟩ := h; exact absurd h0 (by simp [D_X2_mirrorIn_w2])
  | succ n16 ih =>
    intro i14 s15 h
    unfold D_X2_mirrorIn_w2 at h
    refine T_iload_n dX2_mirrorIn_2 rfl 3 rfl ?_
    refine T_aload_n dX2_mirrorIn_3 rfl 0 rfl ?_
    refine T_getI dX2_mirrorIn_4 fl_RX2_35 h (fun i17 h => ?_)
    refine T_icmp_ge 42 dX2_mirrorIn_7 (by decide) h (fun _ h => ?_) (fun _ h => ?_)
    · refine T_lv (lv' := []) [] rfl ?_
      exact hk42 s15 h
    · refine T_aload_n dX2_mirrorIn_10 rfl 0 rfl ?_
      refine T_getR dX2_mirrorIn_11 fl_RX2_20 h (fun a18 h => ?_)
      refine T_iload_n dX2_mirrorIn_14 rfl 3 rfl ?_
      refine T_callVI (As := [.int i14]) (rest := []) (b := a18) (ci := 1) dX2_mirrorIn_15 mc_X1_read mi_X1_read ml_RX2_60 rfl (fun _ hr => chk_of hr) rfl rfl (Nat.le_of_ble_eq_true rfl) ⟨⟨Nat.le_of_ble_eq_true rfl, Nat.le_of_ble_eq_true rfl⟩, ⟨Nat.le_of_ble_eq_true rfl, Nat.le_of_ble_eq_true rfl⟩⟩ K_X1_read h (fun i19 s20 h => ?_)
      refine T_iload_n dX2_mirrorIn_18 rfl 1 rfl ?_
      refine T_icmp_ne 36 dX2_mirrorIn_19 (by decide) h (fun _ h => ?_) (fun _ h => ?_)
      · refine T_iinc (i14 + 1) (lv' := [(3, .int (i14 + 1)), (0, .ref a11), (1, .int i12), (2, .int i13)]) dX2_mirrorIn_36 (j := 3) rfl rfl (by decide) rfl ?_
        refine T_goto 2 dX2_mirrorIn_39 (by decide) ?_
        refine T_lv (lv' := [(0, .ref a11), (1, .int i12), (2, .int i13), (3, .int (i14 + 1))]) [1, 2, 3, 0] rfl ?_
        exact ih (i14 + 1) s20 h
      · refine T_aload_n dX2_mirrorIn_22 rfl 0 rfl ?_
        refine T_getR dX2_mirrorIn_23 fl_RX2_23 h (fun a21 h => ?_)
        refine T_iload_n dX2_mirrorIn_26 rfl 3 rfl ?_
        refine T_callVI (As := [.int i14]) (rest := []) (b := a21) (ci := 1) dX2_mirrorIn_27 mc_X1_read mi_X1_read ml_RX2_60 rfl (fun _ hr => chk_of hr) rfl rfl (Nat.le_of_ble_eq_true rfl) ⟨⟨Nat.le_of_ble_eq_true rfl, Nat.le_of_ble_eq_true rfl⟩, ⟨Nat.le_of_ble_eq_true rfl, Nat.le_of_ble_eq_true rfl⟩⟩ K_X1_read h (fun i22 s23 h => ?_)
        refine T_iload_n dX2_mirrorIn_30 rfl 2 rfl ?_
        refine T_icmp_ne 36 dX2_mirrorIn_31 (by decide) h (fun _ h => ?_) (fun _ h => ?_)
        · refine T_iinc (i14 + 1) (lv' := [(3, .int (i14 + 1)), (0, .ref a11), (1, .int i12), (2, .int i13)]) dX2_mirrorIn_36 (j := 3) rfl rfl (by decide) rfl ?_
          refine T_goto 2 dX2_mirrorIn_39 (by decide) ?_
          refine T_lv (lv' := [(0, .ref a11), (1, .int i12), (2, .int i13), (3, .int (i14 + 1))]) [1, 2, 3, 0] rfl ?_
          exact ih (i14 + 1) s23 h
        · refine T_iload_n dX2_mirrorIn_34 rfl 3 rfl ?_
          exact T_ireturn dX2_mirrorIn_35 (Nat.le_of_ble_eq_true rfl) (Nat.le_of_ble_eq_true rfl) h
set_option maxRecDepth 100000 in
set_option maxHeartbeats 4000000 in
theorem K_X2_mirrorIn {l : Launch} {a0 : Nat} {i1 : Int32} {i2 : Int32} {s0 : Hp} : ∀ P, OK jI (D_X2_mirrorIn a0 i1 i2 s0) P → sm_Ct l yX2_mirrorIn cX2_mirrorIn 4 (some .int) 1 0 0 [.ref a0, .int i1, .int i2] s0 P := by
  intro P h
  unfold D_X2_mirrorIn at h
  obtain ⟨_, hb0, h⟩ := h.bind
  refine sm_enter (own := RX2) (lv := [(0, .ref a0), (1, .int i1), (2, .int i2)]) (by decide) rfl (Nat.le_of_ble_eq_true rfl) rfl (fun G => ?_)
  refine T_iconst (0 : Int32) dX2_mirrorIn_0 (by decide) ?_
  refine T_istore_n (lv' := [(3, .int (0 : Int32)), (0, .ref a0), (1, .int i1), (2, .int i2)]) dX2_mirrorIn_1 rfl (by decide) rfl ?_
  refine T_lv (lv' := [(0, .ref a0), (1, .int i1), (2, .int i2), (3, .int (0 : Int32))]) [1, 2, 3, 0] rfl ?_
  refine K_X2_mirrorIn_w2 ?_ FU (0 : Int32) s0 h
  intro s25 h
  refine T_bipush (-6 : Int32) dX2_mirrorIn_42 (by decide) ?_
  exact T_ireturn dX2_mirrorIn_44 (Nat.le_of_ble_eq_true rfl) (Nat.le_of_ble_eq_true rfl) h

def D_X2_mirrorsOf_w4 (a11 : Nat) (i12 : Int32) (k36 : Int32 → Hp → Option (Int32 × Hp)) : Nat → Int32 → Int32 → Hp → Option (Int32 × Hp)
  | 0, _, _, _ => none
  | n16 + 1, i13, i14, s15 =>
  (getI s15 a11 2 6).bind fun i17 =>
  if i17 ≤ i14 then
  k36 i13 s15
  else
  (getR s15 a11 2 3).bind fun a18 =>
  bd (D_X1_read a18 i14 s15) fun i19 s20 =>
  if i19 = i12 then
  nm (i13 ||| ((1 : Int32) <<< (i14 &&& 31))) fun i21 =>
  D_X2_mirrorsOf_w4 a11 i12 k36 n16 i21 (i14 + 1) s20
  else
  D_X2_mirrorsOf_w4 a11 i12 k36 n16 i13 (i14 + 1) s20
def D_X2_mirrorsOf (a0 : Nat) (i1 : Int32) (s0 : Hp) : Option (Int32 × Hp) :=
  (isO s0 a0 2).bind fun _ =>
  D_X2_mirrorsOf_w4 a0 i1 (fun i25 s24 =>
  some (i25, s24)
  ) FU (0 : Int32) (0 : Int32) s0
set_option maxRecDepth 100000 in
set_option maxHeartbeats 4000000 in
theorem K_X2_mirrorsOf_w4 {l : Launch} {G : smG} {P : Option Value → Hp → Prop} {a11 : Nat} {i12 : Int32} {k36 : Int32 → Hp → Option (Int32 × Hp)} (hk36 : ∀ (i22 : Int32) (s23 : Hp), OK jI (k36 i22 s23) P → T l G RX2 cX2_mirrorsOf 4 (sm_rm 1 0 0) (sm_E (some .int) yX2_mirrorsOf.name) (sm_Qs G P 0 0) 0 0 36 [(2, .int i22)] [] s23) : ∀ (n : Nat) (i13 : Int32) (i14 : Int32) (s15 : Hp), OK jI (D_X2_mirrorsOf_w4 a11 i12 k36 n i13 i14 s15) P → T l G RX2 cX2_mirrorsOf 4 (sm_rm 1 0 0) (sm_E (some .int) yX2_mirrorsOf.name) (sm_Qs G P 0 0) 0 0 4 [(0, .ref a11), (1, .int i12), (2, .int i13), (3, .int i14)] [] s15 := by
  intro n
  induction n with
  | zero => intro i13 i14 s15 h; obtain ⟨_, h0, _⟩ := h; exact absurd h0 (by simp [D_X2_mirrorsOf_w4])
  | succ n16 ih =>
    intro i13 i14 s15 h
    unfold D_X2_mirrorsOf_w4 at h
    refine T_iload_n dX2_mirrorsOf_4 rfl 3 rfl ?_
    refine T_aload_n dX2_mirrorsOf_5 rfl 0 rfl ?_
    refine T_getI dX2_mirrorsOf_6 fl_RX2_35 h (fun i17 h => ?_)
    refine T_icmp_ge 36 dX2_mirrorsOf_9 (by decide) h (fun _ h => ?_) (fun _ h => ?_)
    · refine T_lv (lv' := [(2, .int i13)]) [2] rfl ?_
      exact hk36 i13 s15 h
    · refine T_aload_n dX2_mirrorsOf_12 rfl 0 rfl ?_
      refine T_getR dX2_mirrorsOf_13 fl_RX2_26 h (fun a18 h => ?_)
      refine T_iload_n dX2_mirrorsOf_16 rfl 3 rfl ?_
      refine T_callVI (As := [.int i14]) (rest := []) (b := a18) (ci := 1) dX2_mirrorsOf_17 mc_X1_read mi_X1_read ml_RX2_60 rfl (fun _ hr => chk_of hr) rfl rfl (Nat.le_of_ble_eq_true rfl) ⟨⟨Nat.le_of_ble_eq_true rfl, Nat.le_of_ble_eq_true rfl⟩, ⟨Nat.le_of_ble_eq_true rfl, Nat.le_of_ble_eq_true rfl⟩⟩ K_X1_read h (fun i19 s20 h => ?_)
      refine T_iload_n dX2_mirrorsOf_20 rfl 1 rfl ?_
      refine T_icmp_ne 30 dX2_mirrorsOf_21 (by decide) h (fun _ h => ?_) (fun _ h => ?_)
      · refine T_iinc (i14 + 1) (lv' := [(3, .int (i14 + 1)), (0, .ref a11), (1, .int i12), (2, .int i13)]) dX2_mirrorsOf_30 (j := 3) rfl rfl (by decide) rfl ?_
        refine T_goto 4 dX2_mirrorsOf_33 (by decide) ?_
        refine T_lv (lv' := [(0, .ref a11), (1, .int i12), (2, .int i13), (3, .int (i14 + 1))]) [1, 2, 3, 0] rfl ?_
        exact ih i13 (i14 + 1) s20 h
      · refine T_iload_n dX2_mirrorsOf_24 rfl 2 rfl ?_
        refine T_iconst (1 : Int32) dX2_mirrorsOf_25 (by decide) ?_
        refine T_iload_n dX2_mirrorsOf_26 rfl 3 rfl ?_
        refine T_ishl dX2_mirrorsOf_27 ?_
        refine T_ior dX2_mirrorsOf_28 ?_
        refine T_nm h (fun i21 h => ?_)
        refine T_istore_n (lv' := [(2, .int i21), (0, .ref a11), (1, .int i12), (3, .int i14)]) dX2_mirrorsOf_29 rfl (by decide) rfl ?_
        refine T_iinc (i14 + 1) (lv' := [(3, .int (i14 + 1)), (2, .int i21), (0, .ref a11), (1, .int i12)]) dX2_mirrorsOf_30 (j := 3) rfl rfl (by decide) rfl ?_
        refine T_goto 4 dX2_mirrorsOf_33 (by decide) ?_
        refine T_lv (lv' := [(0, .ref a11), (1, .int i12), (2, .int i21), (3, .int (i14 + 1))]) [2, 3, 1, 0] rfl ?_
        exact ih i21 (i14 + 1) s20 h
set_option maxRecDepth 100000 in
set_option maxHeartbeats 4000000 in
theorem K_X2_mirrorsOf {l : Launch} {a0 : Nat} {i1 : Int32} {s0 : Hp} : ∀ P, OK jI (D_X2_mirrorsOf a0 i1 s0) P → sm_Ct l yX2_mirrorsOf cX2_mirrorsOf 4 (some .int) 1 0 0 [.ref a0, .int i1] s0 P := by
  intro P h
  unfold D_X2_mirrorsOf at h
  obtain ⟨_, hb0, h⟩ := h.bind
  refine sm_enter (own := RX2) (lv := [(0, .ref a0), (1, .int i1)]) (by decide) rfl (Nat.le_of_ble_eq_true rfl) rfl (fun G => ?_)
  refine T_iconst (0 : Int32) dX2_mirrorsOf_0 (by decide) ?_
  refine T_istore_n (lv' := [(2, .int (0 : Int32)), (0, .ref a0), (1, .int i1)]) dX2_mirrorsOf_1 rfl (by decide) rfl ?_
  refine T_iconst (0 : Int32) dX2_mirrorsOf_2 (by decide) ?_
  refine T_istore_n (lv' := [(3, .int (0 : Int32)), (2, .int (0 : Int32)), (0, .ref a0), (1, .int i1)]) dX2_mirrorsOf_3 rfl (by decide) rfl ?_
  refine T_lv (lv' := [(0, .ref a0), (1, .int i1), (2, .int (0 : Int32)), (3, .int (0 : Int32))]) [2, 3, 1, 0] rfl ?_
  refine K_X2_mirrorsOf_w4 ?_ FU (0 : Int32) (0 : Int32) s0 h
  intro i25 s24 h
  refine T_iload_n dX2_mirrorsOf_36 rfl 0 rfl ?_
  exact T_ireturn dX2_mirrorsOf_37 (Nat.le_of_ble_eq_true rfl) (Nat.le_of_ble_eq_true rfl) h

def D_X2_turn (a0 : Nat) (i1 : Int32) (i2 : Int32) (s0 : Hp) : Option (Int32 × Hp) :=
  (isO s0 a0 2).bind fun _ =>
  bd (D_X2_isMirror a0 i1 s0) fun i11 s12 =>
  if i11 = 0 then
  some ((-1 : Int32), s12)
  else
  bd (D_X9_isAimPoint i2 s12) fun i13 s14 =>
  if i13 = 0 then
  some ((-2 : Int32), s14)
  else
  (getR s14 a0 2 3).bind fun a15 =>
  bd (D_X1_read a15 i1 s14) fun i16 s17 =>
  (getR s17 a0 2 3).bind fun a18 =>
  (D_X1_write a18 i1 i2 s17).bind fun s19 =>
  some (i16, s19)
set_option maxRecDepth 100000 in
set_option maxHeartbeats 4000000 in
theorem K_X2_turn {l : Launch} {a0 : Nat} {i1 : Int32} {i2 : Int32} {s0 : Hp} : ∀ P, OK jI (D_X2_turn a0 i1 i2 s0) P → sm_Ct l yX2_turn cX2_turn 4 (some .int) 1 0 0 [.ref a0, .int i1, .int i2] s0 P := by
  intro P h
  unfold D_X2_turn at h
  obtain ⟨_, hb0, h⟩ := h.bind
  refine sm_enter (own := RX2) (lv := [(0, .ref a0), (1, .int i1), (2, .int i2)]) (by decide) rfl (Nat.le_of_ble_eq_true rfl) rfl (fun G => ?_)
  refine T_aload_n dX2_turn_0 rfl 0 rfl ?_
  refine T_iload_n dX2_turn_1 rfl 1 rfl ?_
  refine T_callVI (As := [.int i1]) (rest := []) (b := a0) (ci := 2) dX2_turn_2 mc_X2_isMirror mi_X2_isMirror ml_RX2_79 rfl (fun _ hr => chk_of hr) rfl rfl (Nat.le_of_ble_eq_true rfl) ⟨⟨Nat.le_of_ble_eq_true rfl, Nat.le_of_ble_eq_true rfl⟩, ⟨Nat.le_of_ble_eq_true rfl, Nat.le_of_ble_eq_true rfl⟩⟩ K_X2_isMirror h (fun i11 s12 h => ?_)
  refine T_if_ne 10 dX2_turn_5 (by decide) h (fun _ h => ?_) (fun _ h => ?_)
  · refine T_iload_n dX2_turn_10 rfl 2 rfl ?_
    refine T_callSNI (As := [.int i2]) (rest := []) dX2_turn_11 mc_X9_isAimPoint mi_X9_isAimPoint ml_RX2_67 rfl rfl (Nat.le_of_ble_eq_true rfl) ⟨⟨Nat.le_of_ble_eq_true rfl, Nat.le_of_ble_eq_true rfl⟩, ⟨Nat.le_of_ble_eq_true rfl, Nat.le_of_ble_eq_true rfl⟩⟩ K_X9_isAimPoint h (fun i13 s14 h => ?_)
    refine T_if_ne 20 dX2_turn_14 (by decide) h (fun _ h => ?_) (fun _ h => ?_)
    · refine T_aload_n dX2_turn_20 rfl 0 rfl ?_
      refine T_getR dX2_turn_21 fl_RX2_26 h (fun a15 h => ?_)
      refine T_iload_n dX2_turn_24 rfl 1 rfl ?_
      refine T_callVI (As := [.int i1]) (rest := []) (b := a15) (ci := 1) dX2_turn_25 mc_X1_read mi_X1_read ml_RX2_60 rfl (fun _ hr => chk_of hr) rfl rfl (Nat.le_of_ble_eq_true rfl) ⟨⟨Nat.le_of_ble_eq_true rfl, Nat.le_of_ble_eq_true rfl⟩, ⟨Nat.le_of_ble_eq_true rfl, Nat.le_of_ble_eq_true rfl⟩⟩ K_X1_read h (fun i16 s17 h => ?_)
      refine T_istore_n (lv' := [(3, .int i16), (0, .ref a0), (1, .int i1), (2, .int i2)]) dX2_turn_28 rfl (by decide) rfl ?_
      refine T_aload_n dX2_turn_29 rfl 1 rfl ?_
      refine T_getR dX2_turn_30 fl_RX2_26 h (fun a18 h => ?_)
      refine T_iload_n dX2_turn_33 rfl 2 rfl ?_
      refine T_iload_n dX2_turn_34 rfl 3 rfl ?_
      refine T_callVV (As := [.int i1, .int i2]) (rest := []) (b := a18) (ci := 1) dX2_turn_35 mc_X1_write mi_X1_write ml_RX2_48 rfl (fun _ hr => chk_of hr) rfl rfl (Nat.le_of_ble_eq_true rfl) ⟨⟨Nat.le_of_ble_eq_true rfl, Nat.le_of_ble_eq_true rfl⟩, ⟨Nat.le_of_ble_eq_true rfl, Nat.le_of_ble_eq_true rfl⟩⟩ K_X1_write h (fun s19 h => ?_)
      refine T_iload_n dX2_turn_38 rfl 0 rfl ?_
      exact T_ireturn dX2_turn_39 (Nat.le_of_ble_eq_true rfl) (Nat.le_of_ble_eq_true rfl) h
    · refine T_bipush (-2 : Int32) dX2_turn_17 (by decide) ?_
      exact T_ireturn dX2_turn_19 (Nat.le_of_ble_eq_true rfl) (Nat.le_of_ble_eq_true rfl) h
  · refine T_iconst (-1 : Int32) dX2_turn_8 (by decide) ?_
    exact T_ireturn dX2_turn_9 (Nat.le_of_ble_eq_true rfl) (Nat.le_of_ble_eq_true rfl) h

def D_X3_keepNote (a0 : Nat) (s0 : Hp) : Option Hp :=
  (isO s0 a0 3).bind fun _ =>
  (getI s0 a0 3 1).bind fun i11 =>
  (remI (i11 + (1 : Int32)) (7 : Int32)).bind fun i12 =>
  (putI s0 a0 3 1 i12).bind fun s13 =>
  (getI s13 a0 3 2).bind fun i14 =>
  nm (if (6 : Int32) < (i14 + (1 : Int32)) then (6 : Int32) else (i14 + (1 : Int32))) fun i15 =>
  (putI s13 a0 3 2 i15).bind fun s16 =>
  some s16
set_option maxRecDepth 100000 in
set_option maxHeartbeats 4000000 in
theorem K_X3_keepNote {l : Launch} {a0 : Nat} {s0 : Hp} : ∀ P, OK jV (D_X3_keepNote a0 s0) P → sm_Ct l yX3_keepNote cX3_keepNote 1 none 1 0 0 [.ref a0] s0 P := by
  intro P h
  unfold D_X3_keepNote at h
  obtain ⟨_, hb0, h⟩ := h.bind
  refine sm_enter (own := RX3) (lv := [(0, .ref a0)]) (by decide) rfl (Nat.le_of_ble_eq_true rfl) rfl (fun G => ?_)
  refine T_aload_n dX3_keepNote_0 rfl 0 rfl ?_
  refine T_aload_n dX3_keepNote_1 rfl 0 rfl ?_
  refine T_getI dX3_keepNote_2 fl_RX3_20 h (fun i11 h => ?_)
  refine T_iconst (1 : Int32) dX3_keepNote_5 (by decide) ?_
  refine T_iadd dX3_keepNote_6 ?_
  refine T_bipush (7 : Int32) dX3_keepNote_7 (by decide) ?_
  refine T_irem dX3_keepNote_9 h (fun i12 h => ?_)
  refine T_putI dX3_keepNote_10 fl_RX3_20 ft_3_1 h (fun s13 h => ?_)
  refine T_aload_n dX3_keepNote_13 rfl 0 rfl ?_
  refine T_aload_n dX3_keepNote_14 rfl 0 rfl ?_
  refine T_getI dX3_keepNote_15 fl_RX3_24 h (fun i14 h => ?_)
  refine T_iconst (1 : Int32) dX3_keepNote_18 (by decide) ?_
  refine T_iadd dX3_keepNote_19 ?_
  refine T_bipush (6 : Int32) dX3_keepNote_20 (by decide) ?_
  refine T_mmin dX3_keepNote_22 ml_RX3_31 wd_12_22 wd_3_13 wd_12_23 ⟨Nat.le_of_ble_eq_true rfl, Nat.le_of_ble_eq_true rfl, Nat.le_of_ble_eq_true rfl, Nat.le_of_ble_eq_true rfl⟩ ?_
  refine T_nm h (fun i15 h => ?_)
  refine T_putI dX3_keepNote_25 fl_RX3_24 ft_3_2 h (fun s16 h => ?_)
  exact T_vreturn dX3_keepNote_28 (Nat.le_of_ble_eq_true rfl) (Nat.le_of_ble_eq_true rfl) h

def D_X4_given (a0 : Nat) (i1 : Int32) (s0 : Hp) : Option (Int32 × Hp) :=
  (isO s0 a0 4).bind fun _ =>
  (getR s0 a0 4 3).bind fun a11 =>
  bd (D_X1_read a11 i1 s0) fun i12 s13 =>
  some (i12, s13)
set_option maxRecDepth 100000 in
set_option maxHeartbeats 4000000 in
theorem K_X4_given {l : Launch} {a0 : Nat} {i1 : Int32} {s0 : Hp} : ∀ P, OK jI (D_X4_given a0 i1 s0) P → sm_Ct l yX4_given cX4_given 2 (some .int) 1 0 0 [.ref a0, .int i1] s0 P := by
  intro P h
  unfold D_X4_given at h
  obtain ⟨_, hb0, h⟩ := h.bind
  refine sm_enter (own := RX4) (lv := [(0, .ref a0), (1, .int i1)]) (by decide) rfl (Nat.le_of_ble_eq_true rfl) rfl (fun G => ?_)
  refine T_aload_n dX4_given_0 rfl 0 rfl ?_
  refine T_getR dX4_given_1 fl_RX4_23 h (fun a11 h => ?_)
  refine T_iload_n dX4_given_4 rfl 1 rfl ?_
  refine T_callVI (As := [.int i1]) (rest := []) (b := a11) (ci := 1) dX4_given_5 mc_X1_read mi_X1_read ml_RX4_54 rfl (fun _ hr => chk_of hr) rfl rfl (Nat.le_of_ble_eq_true rfl) ⟨⟨Nat.le_of_ble_eq_true rfl, Nat.le_of_ble_eq_true rfl⟩, ⟨Nat.le_of_ble_eq_true rfl, Nat.le_of_ble_eq_true rfl⟩⟩ K_X1_read h (fun i12 s13 h => ?_)
  exact T_ireturn dX4_given_8 (Nat.le_of_ble_eq_true rfl) (Nat.le_of_ble_eq_true rfl) h
