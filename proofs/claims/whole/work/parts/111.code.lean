def D_X10_doPass_w41 (a17 : Nat) (i18 : Int32) (i19 : Int32) (k56 : Hp → Option (Int32 × Hp)) : Nat → Int32 → Hp → Option (Int32 × Hp)
  | 0, _, _ => none
  | n22 + 1, i20, s21 =>
  if i18 ≤ i20 then
  k56 s21
  else
  (D_X10_day a17 s21).bind fun s23 =>
  D_X10_doPass_w41 a17 i18 i19 k56 n22 (i20 + 1) s23
def D_X10_doPass (a0 : Nat) (i1 : Int32) (s0 : Hp) : Option (Int32 × Hp) :=
  (isO s0 a0 9).bind fun _ =>
  bd (D_X10_isIn (i1).toInt64 (1 : Int64) (99 : Int64) s0) fun i11 s12 =>
  if i11 = 0 then
  some ((-2 : Int32), s12)
  else
  (getR s12 a0 9 0).bind fun a13 =>
  (ldI s12 a13 (3 : Int32)).bind fun i14 =>
  if (i14 + i1) ≤ (999 : Int32) then
  (getR s12 a0 9 0).bind fun a15 =>
  (ldI s12 a15 (5 : Int32)).bind fun i16 =>
  D_X10_doPass_w41 a0 i1 i16 (fun s25 =>
  (getR s25 a0 9 0).bind fun a26 =>
  (ldI s25 a26 (5 : Int32)).bind fun i27 =>
  some ((i27 - i16), s25)
  ) FU (0 : Int32) s12
  else
  some ((-5 : Int32), s12)
set_option maxRecDepth 100000 in
set_option maxHeartbeats 4000000 in
theorem K_X10_doPass_w41 {l : Launch} {G : smG} {P : Option Value → Hp → Prop} {a17 : Nat} {i18 : Int32} {i19 : Int32} {k56 : Hp → Option (Int32 × Hp)} (hk56 : ∀  (s24 : Hp), OK jI (k56 s24) P → T l G RX10 cX10_doPass 4 (sm_rm 6 0 0) (sm_E (some .int) yX10_doPass.name) (sm_Qs G P 0 0) 0 0 56 [(0, .ref a17), (2, .int i19)] [] s24) : ∀ (n : Nat) (i20 : Int32) (s21 : Hp), OK jI (D_X10_doPass_w41 a17 i18 i19 k56 n i20 s21) P → T l G RX10 cX10_doPass 4 (sm_rm 6 0 0) (sm_E (some .int) yX10_doPass.name) (sm_Qs G P 0 0) 0 0 41 [(0, .ref a17), (1, .int i18), (2, .int i19), (3, .int i20)] [] s21 := by
  intro n
  induction n with
  | zero => intro i20 s21 h; obtain ⟨_, h0, _⟩ := h; exact absurd h0 (by simp [D_X10_doPass_w41])
  | succ n22 ih =>
    intro i20 s21 h
    unfold D_X10_doPass_w41 at h
    refine T_iload_n dX10_doPass_41 rfl 3 rfl ?_
    refine T_iload_n dX10_doPass_42 rfl 1 rfl ?_
    refine T_icmp_ge 56 dX10_doPass_43 (by decide) h (fun _ h => ?_) (fun _ h => ?_)
    · refine T_lv (lv' := [(0, .ref a17), (2, .int i19)]) [0, 2] rfl ?_
      exact hk56 s21 h
    · refine T_aload_n dX10_doPass_46 rfl 0 rfl ?_
      refine T_callVV (As := []) (rest := []) (b := a17) (ci := 9) dX10_doPass_47 mc_X10_day mi_X10_day ml_RX10_115 rfl (fun _ hr => chk_of hr) rfl rfl (Nat.le_of_ble_eq_true rfl) ⟨⟨Nat.le_of_ble_eq_true rfl, Nat.le_of_ble_eq_true rfl⟩, ⟨Nat.le_of_ble_eq_true rfl, Nat.le_of_ble_eq_true rfl⟩⟩ K_X10_day h (fun s23 h => ?_)
      refine T_iinc (i20 + 1) (lv' := [(3, .int (i20 + 1)), (0, .ref a17), (1, .int i18), (2, .int i19)]) dX10_doPass_50 (j := 3) rfl rfl (by decide) rfl ?_
      refine T_goto 41 dX10_doPass_53 (by decide) ?_
      refine T_lv (lv' := [(0, .ref a17), (1, .int i18), (2, .int i19), (3, .int (i20 + 1))]) [1, 2, 3, 0] rfl ?_
      exact ih (i20 + 1) s23 h
set_option maxRecDepth 100000 in
set_option maxHeartbeats 4000000 in
theorem K_X10_doPass {l : Launch} {a0 : Nat} {i1 : Int32} {s0 : Hp} : ∀ P, OK jI (D_X10_doPass a0 i1 s0) P → sm_Ct l yX10_doPass cX10_doPass 4 (some .int) 6 0 0 [.ref a0, .int i1] s0 P := by
  intro P h
  unfold D_X10_doPass at h
  obtain ⟨_, hb0, h⟩ := h.bind
  refine sm_enter (own := RX10) (lv := [(0, .ref a0), (1, .int i1)]) (by decide) rfl (Nat.le_of_ble_eq_true rfl) rfl (fun G => ?_)
  refine T_iload_n dX10_doPass_0 rfl 1 rfl ?_
  refine T_i2l dX10_doPass_1 ?_
  refine T_lconst (1 : Int64) dX10_doPass_2 (by decide) ?_
  refine T_ldc2 (99 : Int64) dX10_doPass_3 wd_9_19 ?_
  refine T_callSI (As := [.long (i1).toInt64, .long (1 : Int64), .long (99 : Int64)]) (rest := []) dX10_doPass_6 mc_X10_isIn mi_X10_isIn ml_RX10_51 rfl rfl (Nat.le_of_ble_eq_true rfl) ⟨⟨Nat.le_of_ble_eq_true rfl, Nat.le_of_ble_eq_true rfl⟩, ⟨Nat.le_of_ble_eq_true rfl, Nat.le_of_ble_eq_true rfl⟩⟩ K_X10_isIn h (fun i11 s12 h => ?_)
  refine T_if_ne 15 dX10_doPass_9 (by decide) h (fun _ h => ?_) (fun _ h => ?_)
  · refine T_aload_n dX10_doPass_15 rfl 0 rfl ?_
    refine T_getR dX10_doPass_16 fl_RX10_7 h (fun a13 h => ?_)
    refine T_iconst (3 : Int32) dX10_doPass_19 (by decide) ?_
    refine T_iaload dX10_doPass_20 h (fun i14 h => ?_)
    refine T_iload_n dX10_doPass_21 rfl 1 rfl ?_
    refine T_iadd dX10_doPass_22 ?_
    refine T_sipush (999 : Int32) dX10_doPass_23 (by decide) ?_
    refine T_icmp_le 32 dX10_doPass_26 (by decide) h (fun _ h => ?_) (fun _ h => ?_)
    · refine T_aload_n dX10_doPass_32 rfl 0 rfl ?_
      refine T_getR dX10_doPass_33 fl_RX10_7 h (fun a15 h => ?_)
      refine T_iconst (5 : Int32) dX10_doPass_36 (by decide) ?_
      refine T_iaload dX10_doPass_37 h (fun i16 h => ?_)
      refine T_istore_n (lv' := [(2, .int i16), (0, .ref a0), (1, .int i1)]) dX10_doPass_38 rfl (by decide) rfl ?_
      refine T_iconst (0 : Int32) dX10_doPass_39 (by decide) ?_
      refine T_istore_n (lv' := [(3, .int (0 : Int32)), (2, .int i16), (0, .ref a0), (1, .int i1)]) dX10_doPass_40 rfl (by decide) rfl ?_
      refine T_lv (lv' := [(0, .ref a0), (1, .int i1), (2, .int i16), (3, .int (0 : Int32))]) [2, 3, 1, 0] rfl ?_
      refine K_X10_doPass_w41 ?_ FU (0 : Int32) s12 h
      intro s25 h
      refine T_aload_n dX10_doPass_56 rfl 0 rfl ?_
      refine T_getR dX10_doPass_57 fl_RX10_7 h (fun a26 h => ?_)
      refine T_iconst (5 : Int32) dX10_doPass_60 (by decide) ?_
      refine T_iaload dX10_doPass_61 h (fun i27 h => ?_)
      refine T_iload_n dX10_doPass_62 rfl 1 rfl ?_
      refine T_isub dX10_doPass_63 ?_
      exact T_ireturn dX10_doPass_64 (Nat.le_of_ble_eq_true rfl) (Nat.le_of_ble_eq_true rfl) h
    · refine T_bipush (-5 : Int32) dX10_doPass_29 (by decide) ?_
      exact T_ireturn dX10_doPass_31 (Nat.le_of_ble_eq_true rfl) (Nat.le_of_ble_eq_true rfl) h
  · refine T_bipush (-2 : Int32) dX10_doPass_12 (by decide) ?_
    exact T_ireturn dX10_doPass_14 (Nat.le_of_ble_eq_true rfl) (Nat.le_of_ble_eq_true rfl) h

def D_X10_toWash_b72 (k8 : Int32 → Int32 → Int32 → Hp → Option (Int32 × Hp)) (a31 : Nat) (i32 : Int32) (i33 : Int32) (i35 : Int32) (s34 : Hp) : Option (Int32 × Hp) :=
  k8 i32 i35 (i33 + 1) s34
def D_X10_toWash_b59 (k8 : Int32 → Int32 → Int32 → Hp → Option (Int32 × Hp)) (a25 : Nat) (i26 : Int32) (i27 : Int32) (i28 : Int32) (i30 : Int32) (s29 : Hp) : Option (Int32 × Hp) :=
  if i28 ≤ i26 then
  D_X10_toWash_b72 k8 a25 i30 i27 i26 s29
  else
  D_X10_toWash_b72 k8 a25 i30 i27 i28 s29
def D_X10_toWash_w8 (a11 : Nat) (k79 : Int32 → Hp → Option (Int32 × Hp)) : Nat → Int32 → Int32 → Int32 → Hp → Option (Int32 × Hp)
  | 0, _, _, _, _ => none
  | n16 + 1, i12, i13, i14, s15 =>
  (getR s15 a11 9 0).bind fun a17 =>
  (ldI s15 a17 (6 : Int32)).bind fun i18 =>
  if i18 ≤ i14 then
  k79 i12 s15
  else
  bd (D_X10_its a11 i14 (3 : Int32) s15) fun i19 s20 =>
  (D_X10_sets a11 i14 (3 : Int32) (0 : Int32) s20).bind fun s21 =>
  bd (D_X10_brings a11 s21) fun i22 s23 =>
  (D_X10_sets a11 i14 (3 : Int32) i19 s23).bind fun s24 =>
  if i22 ≤ i13 then
  D_X10_toWash_b59 (D_X10_toWash_w8 a11 k79 n16) a11 i13 i14 i22 i12 s24
  else
  D_X10_toWash_b59 (D_X10_toWash_w8 a11 k79 n16) a11 i13 i14 i22 i14 s24
def D_X10_toWash (a0 : Nat) (s0 : Hp) : Option (Int32 × Hp) :=
  (isO s0 a0 9).bind fun _ =>
  D_X10_toWash_w8 a0 (fun i47 s46 =>
  some (i47, s46)
  ) FU (-6 : Int32) (-6 : Int32) (0 : Int32) s0
set_option maxRecDepth 100000 in
set_option maxHeartbeats 4000000 in
theorem K_X10_toWash_b72 {l : Launch} {G : smG} {P : Option Value → Hp → Prop} {k8 : Int32 → Int32 → Int32 → Hp → Option (Int32 × Hp)} {a31 : Nat} {i32 : Int32} {i33 : Int32} {i35 : Int32} {s34 : Hp} (hk8 : ∀ (i36 : Int32) (i37 : Int32) (i38 : Int32) (s39 : Hp), OK jI (k8 i36 i37 i38 s39) P → T l G RX10 cX10_toWash 6 (sm_rm 6 0 0) (sm_E (some .int) yX10_toWash.name) (sm_Qs G P 0 0) 0 0 8 [(0, .ref a31), (1, .int i36), (2, .int i37), (3, .int i38)] [] s39) (h : OK jI (D_X10_toWash_b72 k8 a31 i32 i33 i35 s34) P) : T l G RX10 cX10_toWash 6 (sm_rm 6 0 0) (sm_E (some .int) yX10_toWash.name) (sm_Qs G P 0 0) 0 0 72 [(0, .ref a31), (1, .int i32), (3, .int i33)] [.int i35] s34 := by
  unfold D_X10_toWash_b72 at h
  refine T_istore_n (lv' := [(2, .int i35), (0, .ref a31), (1, .int i32), (3, .int i33)]) dX10_toWash_72 rfl (by decide) rfl ?_
  refine T_iinc (i33 + 1) (lv' := [(3, .int (i33 + 1)), (2, .int i35), (0, .ref a31), (1, .int i32)]) dX10_toWash_73 (j := 3) rfl rfl (by decide) rfl ?_
  refine T_goto 8 dX10_toWash_76 (by decide) ?_
  refine T_lv (lv' := [(0, .ref a31), (1, .int i32), (2, .int i35), (3, .int (i33 + 1))]) [2, 3, 1, 0] rfl ?_
  exact hk8 i32 i35 (i33 + 1) s34 h
set_option maxRecDepth 100000 in
set_option maxHeartbeats 4000000 in
theorem K_X10_toWash_b59 {l : Launch} {G : smG} {P : Option Value → Hp → Prop} {k8 : Int32 → Int32 → Int32 → Hp → Option (Int32 × Hp)} {a25 : Nat} {i26 : Int32} {i27 : Int32} {i28 : Int32} {i30 : Int32} {s29 : Hp} (hk8 : ∀ (i40 : Int32) (i41 : Int32) (i42 : Int32) (s43 : Hp), OK jI (k8 i40 i41 i42 s43) P → T l G RX10 cX10_toWash 6 (sm_rm 6 0 0) (sm_E (some .int) yX10_toWash.name) (sm_Qs G P 0 0) 0 0 8 [(0, .ref a25), (1, .int i40), (2, .int i41), (3, .int i42)] [] s43) (h : OK jI (D_X10_toWash_b59 k8 a25 i26 i27 i28 i30 s29) P) : T l G RX10 cX10_toWash 6 (sm_rm 6 0 0) (sm_E (some .int) yX10_toWash.name) (sm_Qs G P 0 0) 0 0 59 [(0, .ref a25), (2, .int i26), (3, .int i27), (5, .int i28)] [.int i30] s29 := by
  unfold D_X10_toWash_b59 at h
  refine T_istore_n (lv' := [(1, .int i30), (0, .ref a25), (2, .int i26), (3, .int i27), (5, .int i28)]) dX10_toWash_59 rfl (by decide) rfl ?_
  refine T_iload dX10_toWash_60 4 rfl ?_
  refine T_iload_n dX10_toWash_62 rfl 2 rfl ?_
  refine T_icmp_le 71 dX10_toWash_63 (by decide) h (fun _ h => ?_) (fun _ h => ?_)
  · refine T_iload_n dX10_toWash_71 rfl 2 rfl ?_
    refine T_lv (lv' := [(0, .ref a25), (1, .int i30), (3, .int i27)]) [1, 0, 3] rfl ?_
    exact K_X10_toWash_b72 hk8 h
  · refine T_iload dX10_toWash_66 4 rfl ?_
    refine T_goto 72 dX10_toWash_68 (by decide) ?_
    refine T_lv (lv' := [(0, .ref a25), (1, .int i30), (3, .int i27)]) [1, 0, 3] rfl ?_
    exact K_X10_toWash_b72 hk8 h
set_option maxRecDepth 100000 in
set_option maxHeartbeats 4000000 in
theorem K_X10_toWash_w8 {l : Launch} {G : smG} {P : Option Value → Hp → Prop} {a11 : Nat} {k79 : Int32 → Hp → Option (Int32 × Hp)} (hk79 : ∀ (i44 : Int32) (s45 : Hp), OK jI (k79 i44 s45) P → T l G RX10 cX10_toWash 6 (sm_rm 6 0 0) (sm_E (some .int) yX10_toWash.name) (sm_Qs G P 0 0) 0 0 79 [(1, .int i44)] [] s45) : ∀ (n : Nat) (i12 : Int32) (i13 : Int32) (i14 : Int32) (s15 : Hp), OK jI (D_X10_toWash_w8 a11 k79 n i12 i13 i14 s15) P → T l G RX10 cX10_toWash 6 (sm_rm 6 0 0) (sm_E (some .int) yX10_toWash.name) (sm_Qs G P 0 0) 0 0 8 [(0, .ref a11), (1, .int i12), (2, .int i13), (3, .int i14)] [] s15 := by
  intro n
  induction n with
  | zero => intro i12 i13 i14 s15 h; obtain ⟨_, h0, _⟩ := h; exact absurd h0 (by simp [D_X10_toWash_w8])
  | succ n16 ih =>
    intro i12 i13 i14 s15 h
    unfold D_X10_toWash_w8 at h
    refine T_iload_n dX10_toWash_8 rfl 3 rfl ?_
    refine T_aload_n dX10_toWash_9 rfl 0 rfl ?_
    refine T_getR dX10_toWash_10 fl_RX10_7 h (fun a17 h => ?_)
    refine T_bipush (6 : Int32) dX10_toWash_13 (by decide) ?_
    refine T_iaload dX10_toWash_15 h (fun i18 h => ?_)
    refine T_icmp_ge 79 dX10_toWash_16 (by decide) h (fun _ h => ?_) (fun _ h => ?_)
    · refine T_lv (lv' := [(1, .int i12)]) [1] rfl ?_
      exact hk79 i12 s15 h
    · refine T_aload_n dX10_toWash_19 rfl 0 rfl ?_
      refine T_iload_n dX10_toWash_20 rfl 3 rfl ?_
      refine T_iconst (3 : Int32) dX10_toWash_21 (by decide) ?_
      refine T_callVI (As := [.int i14, .int (3 : Int32)]) (rest := []) (b := a11) (ci := 9) dX10_toWash_22 mc_X10_its mi_X10_its ml_RX10_57 rfl (fun _ hr => chk_of hr) rfl rfl (Nat.le_of_ble_eq_true rfl) ⟨⟨Nat.le_of_ble_eq_true rfl, Nat.le_of_ble_eq_true rfl⟩, ⟨Nat.le_of_ble_eq_true rfl, Nat.le_of_ble_eq_true rfl⟩⟩ K_X10_its h (fun i19 s20 h => ?_)
      refine T_istore (lv' := [(4, .int i19), (0, .ref a11), (1, .int i12), (2, .int i13), (3, .int i14)]) dX10_toWash_25 (by decide) rfl ?_
      refine T_aload_n dX10_toWash_27 rfl 1 rfl ?_
      refine T_iload_n dX10_toWash_28 rfl 4 rfl ?_
      refine T_iconst (3 : Int32) dX10_toWash_29 (by decide) ?_
      refine T_iconst (0 : Int32) dX10_toWash_30 (by decide) ?_
      refine T_callVV (As := [.int i14, .int (3 : Int32), .int (0 : Int32)]) (rest := []) (b := a11) (ci := 9) dX10_toWash_31 mc_X10_sets mi_X10_sets ml_RX10_89 rfl (fun _ hr => chk_of hr) rfl rfl (Nat.le_of_ble_eq_true rfl) ⟨⟨Nat.le_of_ble_eq_true rfl, Nat.le_of_ble_eq_true rfl⟩, ⟨Nat.le_of_ble_eq_true rfl, Nat.le_of_ble_eq_true rfl⟩⟩ K_X10_sets h (fun s21 h => ?_)
      refine T_aload_n dX10_toWash_34 rfl 1 rfl ?_
      refine T_callVI (As := []) (rest := []) (b := a11) (ci := 9) dX10_toWash_35 mc_X10_brings mi_X10_brings ml_RX10_159 rfl (fun _ hr => chk_of hr) rfl rfl (Nat.le_of_ble_eq_true rfl) ⟨⟨Nat.le_of_ble_eq_true rfl, Nat.le_of_ble_eq_true rfl⟩, ⟨Nat.le_of_ble_eq_true rfl, Nat.le_of_ble_eq_true rfl⟩⟩ K_X10_brings h (fun i22 s23 h => ?_)
      refine T_istore (lv' := [(5, .int i22), (4, .int i19), (0, .ref a11), (1, .int i12), (2, .int i13), (3, .int i14)]) dX10_toWash_38 (by decide) rfl ?_
      refine T_aload_n dX10_toWash_40 rfl 2 rfl ?_
      refine T_iload_n dX10_toWash_41 rfl 5 rfl ?_
      refine T_iconst (3 : Int32) dX10_toWash_42 (by decide) ?_
      refine T_iload dX10_toWash_43 1 rfl ?_
      refine T_callVV (As := [.int i14, .int (3 : Int32), .int i19]) (rest := []) (b := a11) (ci := 9) dX10_toWash_45 mc_X10_sets mi_X10_sets ml_RX10_89 rfl (fun _ hr => chk_of hr) rfl rfl (Nat.le_of_ble_eq_true rfl) ⟨⟨Nat.le_of_ble_eq_true rfl, Nat.le_of_ble_eq_true rfl⟩, ⟨Nat.le_of_ble_eq_true rfl, Nat.le_of_ble_eq_true rfl⟩⟩ K_X10_sets h (fun s24 h => ?_)
      refine T_iload dX10_toWash_48 0 rfl ?_
      refine T_iload_n dX10_toWash_50 rfl 4 rfl ?_
      refine T_icmp_le 58 dX10_toWash_51 (by decide) h (fun _ h => ?_) (fun _ h => ?_)
      · refine T_iload_n dX10_toWash_58 rfl 3 rfl ?_
        refine T_lv (lv' := [(0, .ref a11), (2, .int i13), (3, .int i14), (5, .int i22)]) [2, 4, 5, 0] rfl ?_
        exact K_X10_toWash_b59 ih h
      · refine T_iload_n dX10_toWash_54 rfl 5 rfl ?_
        refine T_goto 59 dX10_toWash_55 (by decide) ?_
        refine T_lv (lv' := [(0, .ref a11), (2, .int i13), (3, .int i14), (5, .int i22)]) [2, 4, 5, 0] rfl ?_
        exact K_X10_toWash_b59 ih h
set_option maxRecDepth 100000 in
set_option maxHeartbeats 4000000 in
theorem K_X10_toWash {l : Launch} {a0 : Nat} {s0 : Hp} : ∀ P, OK jI (D_X10_toWash a0 s0) P → sm_Ct l yX10_toWash cX10_toWash 6 (some .int) 6 0 0 [.ref a0] s0 P := by
  intro P h
  unfold D_X10_toWash at h
  obtain ⟨_, hb0, h⟩ := h.bind
  refine sm_enter (own := RX10) (lv := [(0, .ref a0)]) (by decide) rfl (Nat.le_of_ble_eq_true rfl) rfl (fun G => ?_)
  refine T_bipush (-6 : Int32) dX10_toWash_0 (by decide) ?_
  refine T_istore_n (lv' := [(1, .int (-6 : Int32)), (0, .ref a0)]) dX10_toWash_2 rfl (by decide) rfl ?_
  refine T_bipush (-6 : Int32) dX10_toWash_3 (by decide) ?_
  refine T_istore_n (lv' := [(2, .int (-6 : Int32)), (1, .int (-6 : Int32)), (0, .ref a0)]) dX10_toWash_5 rfl (by decide) rfl ?_
  refine T_iconst (0 : Int32) dX10_toWash_6 (by decide) ?_
  refine T_istore_n (lv' := [(3, .int (0 : Int32)), (2, .int (-6 : Int32)), (1, .int (-6 : Int32)), (0, .ref a0)]) dX10_toWash_7 rfl (by decide) rfl ?_
  refine T_lv (lv' := [(0, .ref a0), (1, .int (-6 : Int32)), (2, .int (-6 : Int32)), (3, .int (0 : Int32))]) [3, 2, 1, 0] rfl ?_
  refine K_X10_toWash_w8 ?_ FU (-6 : Int32) (-6 : Int32) (0 : Int32) s0 h
  intro i47 s46 h
  refine T_iload_n dX10_toWash_79 rfl 0 rfl ?_
  exact T_ireturn dX10_toWash_80 (Nat.le_of_ble_eq_true rfl) (Nat.le_of_ble_eq_true rfl) h

def D_X10_worthLeast_b93 (k33 : Int32 → Int32 → Int32 → Hp → Option (Int32 × Hp)) (a38 : Nat) (i39 : Int32) (i40 : Int32) (i41 : Int32) (i43 : Int32) (s42 : Hp) : Option (Int32 × Hp) :=
  k33 i40 i43 (i41 + 1) s42
def D_X10_worthLeast_b80 (k33 : Int32 → Int32 → Int32 → Hp → Option (Int32 × Hp)) (a31 : Nat) (i32 : Int32) (i33 : Int32) (i34 : Int32) (i35 : Int32) (i37 : Int32) (s36 : Hp) : Option (Int32 × Hp) :=
  if i35 ≤ i33 then
  D_X10_worthLeast_b93 k33 a31 i32 i37 i34 i33 s36
  else
  D_X10_worthLeast_b93 k33 a31 i32 i37 i34 i35 s36
def D_X10_worthLeast_w33 (a16 : Nat) (i17 : Int32) (k100 : Int32 → Int32 → Hp → Option (Int32 × Hp)) : Nat → Int32 → Int32 → Int32 → Hp → Option (Int32 × Hp)
  | 0, _, _, _, _ => none
  | n22 + 1, i18, i19, i20, s21 =>
  (getR s21 a16 9 2).bind fun a23 =>
  (ldI s21 a23 (6 : Int32)).bind fun i24 =>
  if i24 ≤ i20 then
  k100 i18 i19 s21
  else
  (D_X10_takesOut a16 i20 s21).bind fun s25 =>
  bd (D_X10_brings a16 s25) fun i26 s27 =>
  (getR s27 a16 9 2).bind fun a28 =>
  (getR s27 a16 9 0).bind fun a29 =>
  (D_X10_copy a28 a29 s27).bind fun s30 =>
  if i26 ≤ i19 then
  D_X10_worthLeast_b80 (D_X10_worthLeast_w33 a16 i17 k100 n22) a16 i17 i19 i20 i26 i18 s30
  else
  D_X10_worthLeast_b80 (D_X10_worthLeast_w33 a16 i17 k100 n22) a16 i17 i19 i20 i26 i20 s30
def D_X10_worthLeast (a0 : Nat) (i1 : Int32) (s0 : Hp) : Option (Int32 × Hp) :=
  (isO s0 a0 9).bind fun _ =>
  bd (D_X10_isIn (i1).toInt64 (0 : Int64) (1 : Int64) s0) fun i11 s12 =>
  if i11 = 0 then
  some ((-2 : Int32), s12)
  else
  (getR s12 a0 9 0).bind fun a13 =>
  (getR s12 a0 9 2).bind fun a14 =>
  (D_X10_copy a13 a14 s12).bind fun s15 =>
  D_X10_worthLeast_w33 a0 i1 (fun i56 i57 s55 =>
  if i1 = 0 then
  some (i56, s55)
  else
  some (i57, s55)
  ) FU (-6 : Int32) (-6 : Int32) (0 : Int32) s15
set_option maxRecDepth 100000 in
set_option maxHeartbeats 4000000 in
theorem K_X10_worthLeast_b93 {l : Launch} {G : smG} {P : Option Value → Hp → Prop} {k33 : Int32 → Int32 → Int32 → Hp → Option (Int32 × Hp)} {a38 : Nat} {i39 : Int32} {i40 : Int32} {i41 : Int32} {i43 : Int32} {s42 : Hp} (hk33 : ∀ (i44 : Int32) (i45 : Int32) (i46 : Int32) (s47 : Hp), OK jI (k33 i44 i45 i46 s47) P → T l G RX10 cX10_worthLeast 6 (sm_rm 6 0 0) (sm_E (some .int) yX10_worthLeast.name) (sm_Qs G P 0 0) 0 0 33 [(0, .ref a38), (1, .int i39), (2, .int i44), (3, .int i45), (4, .int i46)] [] s47) (h : OK jI (D_X10_worthLeast_b93 k33 a38 i39 i40 i41 i43 s42) P) : T l G RX10 cX10_worthLeast 6 (sm_rm 6 0 0) (sm_E (some .int) yX10_worthLeast.name) (sm_Qs G P 0 0) 0 0 93 [(0, .ref a38), (1, .int i39), (2, .int i40), (4, .int i41)] [.int i43] s42 := by
  unfold D_X10_worthLeast_b93 at h
  refine T_istore_n (lv' := [(3, .int i43), (0, .ref a38), (1, .int i39), (2, .int i40), (4, .int i41)]) dX10_worthLeast_93 rfl (by decide) rfl ?_
  refine T_iinc (i41 + 1) (lv' := [(4, .int (i41 + 1)), (3, .int i43), (0, .ref a38), (1, .int i39), (2, .int i40)]) dX10_worthLeast_94 (j := 4) rfl rfl (by decide) rfl ?_
  refine T_goto 33 dX10_worthLeast_97 (by decide) ?_
  refine T_lv (lv' := [(0, .ref a38), (1, .int i39), (2, .int i40), (3, .int i43), (4, .int (i41 + 1))]) [2, 3, 4, 1, 0] rfl ?_
  exact hk33 i40 i43 (i41 + 1) s42 h
set_option maxRecDepth 100000 in
set_option maxHeartbeats 4000000 in
theorem K_X10_worthLeast_b80 {l : Launch} {G : smG} {P : Option Value → Hp → Prop} {k33 : Int32 → Int32 → Int32 → Hp → Option (Int32 × Hp)} {a31 : Nat} {i32 : Int32} {i33 : Int32} {i34 : Int32} {i35 : Int32} {i37 : Int32} {s36 : Hp} (hk33 : ∀ (i48 : Int32) (i49 : Int32) (i50 : Int32) (s51 : Hp), OK jI (k33 i48 i49 i50 s51) P → T l G RX10 cX10_worthLeast 6 (sm_rm 6 0 0) (sm_E (some .int) yX10_worthLeast.name) (sm_Qs G P 0 0) 0 0 33 [(0, .ref a31), (1, .int i32), (2, .int i48), (3, .int i49), (4, .int i50)] [] s51) (h : OK jI (D_X10_worthLeast_b80 k33 a31 i32 i33 i34 i35 i37 s36) P) : T l G RX10 cX10_worthLeast 6 (sm_rm 6 0 0) (sm_E (some .int) yX10_worthLeast.name) (sm_Qs G P 0 0) 0 0 80 [(0, .ref a31), (1, .int i32), (3, .int i33), (4, .int i34), (5, .int i35)] [.int i37] s36 := by
  unfold D_X10_worthLeast_b80 at h
  refine T_istore_n (lv' := [(2, .int i37), (0, .ref a31), (1, .int i32), (3, .int i33), (4, .int i34), (5, .int i35)]) dX10_worthLeast_80 rfl (by decide) rfl ?_
  refine T_iload dX10_worthLeast_81 5 rfl ?_
  refine T_iload_n dX10_worthLeast_83 rfl 3 rfl ?_
  refine T_icmp_le 92 dX10_worthLeast_84 (by decide) h (fun _ h => ?_) (fun _ h => ?_)
  · refine T_iload_n dX10_worthLeast_92 rfl 3 rfl ?_
    refine T_lv (lv' := [(0, .ref a31), (1, .int i32), (2, .int i37), (4, .int i34)]) [1, 2, 0, 4] rfl ?_
    exact K_X10_worthLeast_b93 hk33 h
  · refine T_iload dX10_worthLeast_87 5 rfl ?_
    refine T_goto 93 dX10_worthLeast_89 (by decide) ?_
    refine T_lv (lv' := [(0, .ref a31), (1, .int i32), (2, .int i37), (4, .int i34)]) [1, 2, 0, 4] rfl ?_
    exact K_X10_worthLeast_b93 hk33 h
set_option maxRecDepth 100000 in
set_option maxHeartbeats 4000000 in
theorem K_X10_worthLeast_w33 {l : Launch} {G : smG} {P : Option Value → Hp → Prop} {a16 : Nat} {i17 : Int32} {k100 : Int32 → Int32 → Hp → Option (Int32 × Hp)} (hk100 : ∀ (i52 : Int32) (i53 : Int32) (s54 : Hp), OK jI (k100 i52 i53 s54) P → T l G RX10 cX10_worthLeast 6 (sm_rm 6 0 0) (sm_E (some .int) yX10_worthLeast.name) (sm_Qs G P 0 0) 0 0 100 [(1, .int i17), (2, .int i52), (3, .int i53)] [] s54) : ∀ (n : Nat) (i18 : Int32) (i19 : Int32) (i20 : Int32) (s21 : Hp), OK jI (D_X10_worthLeast_w33 a16 i17 k100 n i18 i19 i20 s21) P → T l G RX10 cX10_worthLeast 6 (sm_rm 6 0 0) (sm_E (some .int) yX10_worthLeast.name) (sm_Qs G P 0 0) 0 0 33 [(0, .ref a16), (1, .int i17), (2, .int i18), (3, .int i19), (4, .int i20)] [] s21 := by
  intro n
  induction n with
  | zero => intro i18 i19 i20 s21 h; obtain ⟨_, h0, _⟩ := h; exact absurd h0 (by simp [D_X10_worthLeast_w33])
  | succ n22 ih =>
    intro i18 i19 i20 s21 h
    unfold D_X10_worthLeast_w33 at h
    refine T_iload dX10_worthLeast_33 4 rfl ?_
    refine T_aload_n dX10_worthLeast_35 rfl 0 rfl ?_
    refine T_getR dX10_worthLeast_36 fl_RX10_16 h (fun a23 h => ?_)
    refine T_bipush (6 : Int32) dX10_worthLeast_39 (by decide) ?_
    refine T_iaload dX10_worthLeast_41 h (fun i24 h => ?_)
    refine T_icmp_ge 100 dX10_worthLeast_42 (by decide) h (fun _ h => ?_) (fun _ h => ?_)
    · refine T_lv (lv' := [(1, .int i17), (2, .int i18), (3, .int i19)]) [1, 2, 3] rfl ?_
      exact hk100 i18 i19 s21 h
    · refine T_aload_n dX10_worthLeast_45 rfl 0 rfl ?_
      refine T_iload dX10_worthLeast_46 4 rfl ?_
      refine T_callVV (As := [.int i20]) (rest := []) (b := a16) (ci := 9) dX10_worthLeast_48 mc_X10_takesOut mi_X10_takesOut ml_RX10_111 rfl (fun _ hr => chk_of hr) rfl rfl (Nat.le_of_ble_eq_true rfl) ⟨⟨Nat.le_of_ble_eq_true rfl, Nat.le_of_ble_eq_true rfl⟩, ⟨Nat.le_of_ble_eq_true rfl, Nat.le_of_ble_eq_true rfl⟩⟩ K_X10_takesOut h (fun s25 h => ?_)
      refine T_aload_n dX10_worthLeast_51 rfl 0 rfl ?_
      refine T_callVI (As := []) (rest := []) (b := a16) (ci := 9) dX10_worthLeast_52 mc_X10_brings mi_X10_brings ml_RX10_159 rfl (fun _ hr => chk_of hr) rfl rfl (Nat.le_of_ble_eq_true rfl) ⟨⟨Nat.le_of_ble_eq_true rfl, Nat.le_of_ble_eq_true rfl⟩, ⟨Nat.le_of_ble_eq_true rfl, Nat.le_of_ble_eq_true rfl⟩⟩ K_X10_brings h (fun i26 s27 h => ?_)
      refine T_istore (lv' := [(5, .int i26), (0, .ref a16), (1, .int i17), (2, .int i18), (3, .int i19), (4, .int i20)]) dX10_worthLeast_55 (by decide) rfl ?_
      refine T_aload_n dX10_worthLeast_57 rfl 1 rfl ?_
      refine T_getR dX10_worthLeast_58 fl_RX10_16 h (fun a28 h => ?_)
      refine T_aload_n dX10_worthLeast_61 rfl 1 rfl ?_
      refine T_getR dX10_worthLeast_62 fl_RX10_7 h (fun a29 h => ?_)
      refine T_callSV (As := [.ref a28, .ref a29]) (rest := []) dX10_worthLeast_65 mc_X10_copy mi_X10_copy ml_RX10_124 rfl rfl (Nat.le_of_ble_eq_true rfl) ⟨⟨Nat.le_of_ble_eq_true rfl, Nat.le_of_ble_eq_true rfl⟩, ⟨Nat.le_of_ble_eq_true rfl, Nat.le_of_ble_eq_true rfl⟩⟩ K_X10_copy h (fun s30 h => ?_)
      refine T_iload dX10_worthLeast_68 0 rfl ?_
      refine T_iload_n dX10_worthLeast_70 rfl 4 rfl ?_
      refine T_icmp_le 79 dX10_worthLeast_71 (by decide) h (fun _ h => ?_) (fun _ h => ?_)
      · refine T_iload_n dX10_worthLeast_79 rfl 3 rfl ?_
        refine T_lv (lv' := [(0, .ref a16), (1, .int i17), (3, .int i19), (4, .int i20), (5, .int i26)]) [1, 2, 4, 5, 0] rfl ?_
        exact K_X10_worthLeast_b80 ih h
      · refine T_iload dX10_worthLeast_74 5 rfl ?_
        refine T_goto 80 dX10_worthLeast_76 (by decide) ?_
        refine T_lv (lv' := [(0, .ref a16), (1, .int i17), (3, .int i19), (4, .int i20), (5, .int i26)]) [1, 2, 4, 5, 0] rfl ?_
        exact K_X10_worthLeast_b80 ih h
set_option maxRecDepth 100000 in
set_option maxHeartbeats 4000000 in
theorem K_X10_worthLeast {l : Launch} {a0 : Nat} {i1 : Int32} {s0 : Hp} : ∀ P, OK jI (D_X10_worthLeast a0 i1 s0) P → sm_Ct l yX10_worthLeast cX10_worthLeast 6 (some .int) 6 0 0 [.ref a0, .int i1] s0 P := by
  intro P h
  unfold D_X10_worthLeast at h
  obtain ⟨_, hb0, h⟩ := h.bind
  refine sm_enter (own := RX10) (lv := [(0, .ref a0), (1, .int i1)]) (by decide) rfl (Nat.le_of_ble_eq_true rfl) rfl (fun G => ?_)
  refine T_iload_n dX10_worthLeast_0 rfl 1 rfl ?_
  refine T_i2l dX10_worthLeast_1 ?_
  refine T_lconst (0 : Int64) dX10_worthLeast_2 (by decide) ?_
  refine T_lconst (1 : Int64) dX10_worthLeast_3 (by decide) ?_
  refine T_callSI (As := [.long (i1).toInt64, .long (0 : Int64), .long (1 : Int64)]) (rest := []) dX10_worthLeast_4 mc_X10_isIn mi_X10_isIn ml_RX10_51 rfl rfl (Nat.le_of_ble_eq_true rfl) ⟨⟨Nat.le_of_ble_eq_true rfl, Nat.le_of_ble_eq_true rfl⟩, ⟨Nat.le_of_ble_eq_true rfl, Nat.le_of_ble_eq_true rfl⟩⟩ K_X10_isIn h (fun i11 s12 h => ?_)
  refine T_if_ne 13 dX10_worthLeast_7 (by decide) h (fun _ h => ?_) (fun _ h => ?_)
  · refine T_bipush (-6 : Int32) dX10_worthLeast_13 (by decide) ?_
    refine T_istore_n (lv' := [(2, .int (-6 : Int32)), (0, .ref a0), (1, .int i1)]) dX10_worthLeast_15 rfl (by decide) rfl ?_
    refine T_bipush (-6 : Int32) dX10_worthLeast_16 (by decide) ?_
    refine T_istore_n (lv' := [(3, .int (-6 : Int32)), (2, .int (-6 : Int32)), (0, .ref a0), (1, .int i1)]) dX10_worthLeast_18 rfl (by decide) rfl ?_
    refine T_aload_n dX10_worthLeast_19 rfl 2 rfl ?_
    refine T_getR dX10_worthLeast_20 fl_RX10_7 h (fun a13 h => ?_)
    refine T_aload_n dX10_worthLeast_23 rfl 2 rfl ?_
    refine T_getR dX10_worthLeast_24 fl_RX10_16 h (fun a14 h => ?_)
    refine T_callSV (As := [.ref a13, .ref a14]) (rest := []) dX10_worthLeast_27 mc_X10_copy mi_X10_copy ml_RX10_124 rfl rfl (Nat.le_of_ble_eq_true rfl) ⟨⟨Nat.le_of_ble_eq_true rfl, Nat.le_of_ble_eq_true rfl⟩, ⟨Nat.le_of_ble_eq_true rfl, Nat.le_of_ble_eq_true rfl⟩⟩ K_X10_copy h (fun s15 h => ?_)
    refine T_iconst (0 : Int32) dX10_worthLeast_30 (by decide) ?_
    refine T_istore (lv' := [(4, .int (0 : Int32)), (3, .int (-6 : Int32)), (2, .int (-6 : Int32)), (0, .ref a0), (1, .int i1)]) dX10_worthLeast_31 (by decide) rfl ?_
    refine T_lv (lv' := [(0, .ref a0), (1, .int i1), (2, .int (-6 : Int32)), (3, .int (-6 : Int32)), (4, .int (0 : Int32))]) [3, 4, 2, 1, 0] rfl ?_
    refine K_X10_worthLeast_w33 ?_ FU (-6 : Int32) (-6 : Int32) (0 : Int32) s15 h
    intro i56 i57 s55 h
    refine T_iload_n dX10_worthLeast_100 rfl 0 rfl ?_
    refine T_if_ne 108 dX10_worthLeast_101 (by decide) h (fun _ h => ?_) (fun _ h => ?_)
    · refine T_iload_n dX10_worthLeast_108 rfl 2 rfl ?_
      exact T_ireturn dX10_worthLeast_109 (Nat.le_of_ble_eq_true rfl) (Nat.le_of_ble_eq_true rfl) h
    · refine T_iload_n dX10_worthLeast_104 rfl 1 rfl ?_
      refine T_goto 109 dX10_worthLeast_105 (by decide) ?_
      exact T_ireturn dX10_worthLeast_109 (Nat.le_of_ble_eq_true rfl) (Nat.le_of_ble_eq_true rfl) h
  · refine T_bipush (-2 : Int32) dX10_worthLeast_10 (by decide) ?_
    exact T_ireturn dX10_worthLeast_12 (Nat.le_of_ble_eq_true rfl) (Nat.le_of_ble_eq_true rfl) h

def D_X9_carryOut_w36 (a20 : Nat) (i21 : Int32) (k55 : Int32 → Hp → Option (Int32 × Hp)) : Nat → Int32 → Hp → Option (Int32 × Hp)
  | 0, _, _ => none
  | n24 + 1, i22, s23 =>
  if i21 ≤ i22 then
  k55 i22 s23
  else
  bd (D_X9_carry a20 i22 s23) fun i25 s26 =>
  if i25 < 0 then
  k55 i22 s26
  else
  D_X9_carryOut_w36 a20 i21 k55 n24 (i22 + 1) s26
def D_X9_carryOut_b55  (a31 : Nat) (i32 : Int32) (s33 : Hp) : Option (Int32 × Hp) :=
  (getR s33 a31 8 3).bind fun a34 =>
  bd (D_X5_empty a34 s33) fun i35 s36 =>
  bd (D_X9_recorded a31 i32 s36) fun i37 s38 =>
  some (i37, s38)
def D_X9_carryOut (a0 : Nat) (s0 : Hp) : Option (Int32 × Hp) :=
  (isO s0 a0 8).bind fun _ =>
  (getR s0 a0 8 4).bind fun a11 =>
  bd (D_X6_read a11 s0) fun i12 s13 =>
  if i12 = (-6 : Int32) then
  (getR s13 a0 8 5).bind fun a14 =>
  (getR s13 a0 8 0).bind fun a15 =>
  (D_X3_note a14 a15 s13).bind fun s16 =>
  (getR s16 a0 8 4).bind fun a17 =>
  bd (D_X6_orders a17 s16) fun i18 s19 =>
  D_X9_carryOut_w36 a0 i18 (fun i30 s29 =>
  D_X9_carryOut_b55 a0 i30 s29
  ) FU (0 : Int32) s19
  else
  some ((-3 : Int32), s13)
set_option maxRecDepth 100000 in
set_option maxHeartbeats 4000000 in
theorem K_X9_carryOut_w36 {l : Launch} {G : smG} {P : Option Value → Hp → Prop} {a20 : Nat} {i21 : Int32} {k55 : Int32 → Hp → Option (Int32 × Hp)} (hk55 : ∀ (i27 : Int32) (s28 : Hp), OK jI (k55 i27 s28) P → T l G RX9 cX9_carryOut 3 (sm_rm 6 0 0) (sm_E (some .int) yX9_carryOut.name) (sm_Qs G P 0 0) 0 0 55 [(0, .ref a20), (2, .int i27)] [] s28) : ∀ (n : Nat) (i22 : Int32) (s23 : Hp), OK jI (D_X9_carryOut_w36 a20 i21 k55 n i22 s23) P → T l G RX9 cX9_carryOut 3 (sm_rm 6 0 0) (sm_E (some .int) yX9_carryOut.name) (sm_Qs G P 0 0) 0 0 36 [(0, .ref a20), (1, .int i21), (2, .int i22)] [] s23 := by
  intro n
  induction n with
  | zero => intro i22 s23 h; obtain ⟨_, h0, _⟩ := h; exact absurd h0 (by simp [D_X9_carryOut_w36])
  | succ n24 ih =>
    intro i22 s23 h
    unfold D_X9_carryOut_w36 at h
    refine T_iload_n dX9_carryOut_36 rfl 2 rfl ?_
    refine T_iload_n dX9_carryOut_37 rfl 1 rfl ?_
    refine T_icmp_ge 55 dX9_carryOut_38 (by decide) h (fun _ h => ?_) (fun _ h => ?_)
    · refine T_lv (lv' := [(0, .ref a20), (2, .int i22)]) [0, 2] rfl ?_
      exact hk55 i22 s23 h
    · refine T_aload_n dX9_carryOut_41 rfl 0 rfl ?_
      refine T_iload_n dX9_carryOut_42 rfl 2 rfl ?_
      refine T_callVI (As := [.int i22]) (rest := []) (b := a20) (ci := 8) dX9_carryOut_43 mc_X9_carry mi_X9_carry ml_RX9_227 rfl (fun _ hr => chk_of hr) rfl rfl (Nat.le_of_ble_eq_true rfl) ⟨⟨Nat.le_of_ble_eq_true rfl, Nat.le_of_ble_eq_true rfl⟩, ⟨Nat.le_of_ble_eq_true rfl, Nat.le_of_ble_eq_true rfl⟩⟩ K_X9_carry h (fun i25 s26 h => ?_)
      refine T_if_lt 55 dX9_carryOut_46 (by decide) h (fun _ h => ?_) (fun _ h => ?_)
      · refine T_lv (lv' := [(0, .ref a20), (2, .int i22)]) [0, 2] rfl ?_
        exact hk55 i22 s26 h
      · refine T_iinc (i22 + 1) (lv' := [(2, .int (i22 + 1)), (0, .ref a20), (1, .int i21)]) dX9_carryOut_49 (j := 2) rfl rfl (by decide) rfl ?_
        refine T_goto 36 dX9_carryOut_52 (by decide) ?_
        refine T_lv (lv' := [(0, .ref a20), (1, .int i21), (2, .int (i22 + 1))]) [1, 2, 0] rfl ?_
        exact ih (i22 + 1) s26 h
set_option maxRecDepth 100000 in
set_option maxHeartbeats 4000000 in
theorem K_X9_carryOut_b55 {l : Launch} {G : smG} {P : Option Value → Hp → Prop}  {a31 : Nat} {i32 : Int32} {s33 : Hp}  (h : OK jI (D_X9_carryOut_b55 a31 i32 s33) P) : T l G RX9 cX9_carryOut 3 (sm_rm 6 0 0) (sm_E (some .int) yX9_carryOut.name) (sm_Qs G P 0 0) 0 0 55 [(0, .ref a31), (2, .int i32)] [] s33 := by
  unfold D_X9_carryOut_b55 at h
  refine T_aload_n dX9_carryOut_55 rfl 0 rfl ?_
  refine T_getR dX9_carryOut_56 fl_RX9_35 h (fun a34 h => ?_)
  refine T_callVI (As := []) (rest := []) (b := a34) (ci := 5) dX9_carryOut_59 mc_X5_empty mi_X5_empty ml_RX9_219 rfl (fun _ hr => chk_of hr) rfl rfl (Nat.le_of_ble_eq_true rfl) ⟨⟨Nat.le_of_ble_eq_true rfl, Nat.le_of_ble_eq_true rfl⟩, ⟨Nat.le_of_ble_eq_true rfl, Nat.le_of_ble_eq_true rfl⟩⟩ K_X5_empty h (fun i35 s36 h => ?_)
  refine T_pop dX9_carryOut_62 rfl ?_
  refine T_aload_n dX9_carryOut_63 rfl 0 rfl ?_
  refine T_iload_n dX9_carryOut_64 rfl 1 rfl ?_
  refine T_callVI (As := [.int i32]) (rest := []) (b := a31) (ci := 8) dX9_carryOut_65 mc_X9_recorded mi_X9_recorded ml_RX9_75 rfl (fun _ hr => chk_of hr) rfl rfl (Nat.le_of_ble_eq_true rfl) ⟨⟨Nat.le_of_ble_eq_true rfl, Nat.le_of_ble_eq_true rfl⟩, ⟨Nat.le_of_ble_eq_true rfl, Nat.le_of_ble_eq_true rfl⟩⟩ K_X9_recorded h (fun i37 s38 h => ?_)
  exact T_ireturn dX9_carryOut_68 (Nat.le_of_ble_eq_true rfl) (Nat.le_of_ble_eq_true rfl) h
set_option maxRecDepth 100000 in
set_option maxHeartbeats 4000000 in
theorem K_X9_carryOut {l : Launch} {a0 : Nat} {s0 : Hp} : ∀ P, OK jI (D_X9_carryOut a0 s0) P → sm_Ct l yX9_carryOut cX9_carryOut 3 (some .int) 6 0 0 [.ref a0] s0 P := by
  intro P h
  unfold D_X9_carryOut at h
  obtain ⟨_, hb0, h⟩ := h.bind
  refine sm_enter (own := RX9) (lv := [(0, .ref a0)]) (by decide) rfl (Nat.le_of_ble_eq_true rfl) rfl (fun G => ?_)
  refine T_aload_n dX9_carryOut_0 rfl 0 rfl ?_
  refine T_getR dX9_carryOut_1 fl_RX9_44 h (fun a11 h => ?_)
  refine T_callVI (As := []) (rest := []) (b := a11) (ci := 6) dX9_carryOut_4 mc_X6_read mi_X6_read ml_RX9_222 rfl (fun _ hr => chk_of hr) rfl rfl (Nat.le_of_ble_eq_true rfl) ⟨⟨Nat.le_of_ble_eq_true rfl, Nat.le_of_ble_eq_true rfl⟩, ⟨Nat.le_of_ble_eq_true rfl, Nat.le_of_ble_eq_true rfl⟩⟩ K_X6_read h (fun i12 s13 h => ?_)
  refine T_bipush (-6 : Int32) dX9_carryOut_7 (by decide) ?_
  refine T_icmp_eq 15 dX9_carryOut_9 (by decide) h (fun _ h => ?_) (fun _ h => ?_)
  · refine T_aload_n dX9_carryOut_15 rfl 0 rfl ?_
    refine T_getR dX9_carryOut_16 fl_RX9_51 h (fun a14 h => ?_)
    refine T_aload_n dX9_carryOut_19 rfl 0 rfl ?_
    refine T_getR dX9_carryOut_20 fl_RX9_12 h (fun a15 h => ?_)
    refine T_callVV (As := [.ref a15]) (rest := []) (b := a14) (ci := 3) dX9_carryOut_23 mc_X3_note mi_X3_note ml_RX9_68 rfl (fun _ hr => chk_of hr) rfl rfl (Nat.le_of_ble_eq_true rfl) ⟨⟨Nat.le_of_ble_eq_true rfl, Nat.le_of_ble_eq_true rfl⟩, ⟨Nat.le_of_ble_eq_true rfl, Nat.le_of_ble_eq_true rfl⟩⟩ K_X3_note h (fun s16 h => ?_)
    refine T_aload_n dX9_carryOut_26 rfl 0 rfl ?_
    refine T_getR dX9_carryOut_27 fl_RX9_44 h (fun a17 h => ?_)
    refine T_callVI (As := []) (rest := []) (b := a17) (ci := 6) dX9_carryOut_30 mc_X6_orders mi_X6_orders ml_RX9_224 rfl (fun _ hr => chk_of hr) rfl rfl (Nat.le_of_ble_eq_true rfl) ⟨⟨Nat.le_of_ble_eq_true rfl, Nat.le_of_ble_eq_true rfl⟩, ⟨Nat.le_of_ble_eq_true rfl, Nat.le_of_ble_eq_true rfl⟩⟩ K_X6_orders h (fun i18 s19 h => ?_)
    refine T_istore_n (lv' := [(1, .int i18), (0, .ref a0)]) dX9_carryOut_33 rfl (by decide) rfl ?_
    refine T_iconst (0 : Int32) dX9_carryOut_34 (by decide) ?_
    refine T_istore_n (lv' := [(2, .int (0 : Int32)), (1, .int i18), (0, .ref a0)]) dX9_carryOut_35 rfl (by decide) rfl ?_
    refine T_lv (lv' := [(0, .ref a0), (1, .int i18), (2, .int (0 : Int32))]) [2, 1, 0] rfl ?_
    refine K_X9_carryOut_w36 ?_ FU (0 : Int32) s19 h
    intro i30 s29 h
    exact K_X9_carryOut_b55 h
  · refine T_bipush (-3 : Int32) dX9_carryOut_12 (by decide) ?_
    exact T_ireturn dX9_carryOut_14 (Nat.le_of_ble_eq_true rfl) (Nat.le_of_ble_eq_true rfl) h

def D_X9_fault (a0 : Nat) (s0 : Hp) : Option (Int32 × Hp) :=
  (isO s0 a0 8).bind fun _ =>
  (getR s0 a0 8 4).bind fun a11 =>
  bd (D_X6_read a11 s0) fun i12 s13 =>
  some (i12, s13)
set_option maxRecDepth 100000 in
set_option maxHeartbeats 4000000 in
theorem K_X9_fault {l : Launch} {a0 : Nat} {s0 : Hp} : ∀ P, OK jI (D_X9_fault a0 s0) P → sm_Ct l yX9_fault cX9_fault 1 (some .int) 6 0 0 [.ref a0] s0 P := by
  intro P h
  unfold D_X9_fault at h
  obtain ⟨_, hb0, h⟩ := h.bind
  refine sm_enter (own := RX9) (lv := [(0, .ref a0)]) (by decide) rfl (Nat.le_of_ble_eq_true rfl) rfl (fun G => ?_)
  refine T_aload_n dX9_fault_0 rfl 0 rfl ?_
  refine T_getR dX9_fault_1 fl_RX9_44 h (fun a11 h => ?_)
  refine T_callVI (As := []) (rest := []) (b := a11) (ci := 6) dX9_fault_4 mc_X6_read mi_X6_read ml_RX9_222 rfl (fun _ hr => chk_of hr) rfl rfl (Nat.le_of_ble_eq_true rfl) ⟨⟨Nat.le_of_ble_eq_true rfl, Nat.le_of_ble_eq_true rfl⟩, ⟨Nat.le_of_ble_eq_true rfl, Nat.le_of_ble_eq_true rfl⟩⟩ K_X6_read h (fun i12 s13 h => ?_)
  exact T_ireturn dX9_fault_7 (Nat.le_of_ble_eq_true rfl) (Nat.le_of_ble_eq_true rfl) h

def D_X10_pass (a0 : Nat) (i1 : Int32) (s0 : Hp) : Option (Int32 × Hp) :=
  (isO s0 a0 9).bind fun _ =>
  (getR s0 a0 9 0).bind fun a11 =>
  (getR s0 a0 9 1).bind fun a12 =>
  (D_X10_copy a11 a12 s0).bind fun s13 =>
  bd (D_X10_doPass a0 i1 s13) fun i14 s15 =>
  bd (D_X10_ends a0 i14 s15) fun i16 s17 =>
  some (i16, s17)
set_option maxRecDepth 100000 in
set_option maxHeartbeats 4000000 in
theorem K_X10_pass {l : Launch} {a0 : Nat} {i1 : Int32} {s0 : Hp} : ∀ P, OK jI (D_X10_pass a0 i1 s0) P → sm_Ct l yX10_pass cX10_pass 2 (some .int) 7 0 0 [.ref a0, .int i1] s0 P := by
  intro P h
  unfold D_X10_pass at h
  obtain ⟨_, hb0, h⟩ := h.bind
  refine sm_enter (own := RX10) (lv := [(0, .ref a0), (1, .int i1)]) (by decide) rfl (Nat.le_of_ble_eq_true rfl) rfl (fun G => ?_)
  refine T_aload_n dX10_pass_0 rfl 0 rfl ?_
  refine T_getR dX10_pass_1 fl_RX10_7 h (fun a11 h => ?_)
  refine T_aload_n dX10_pass_4 rfl 0 rfl ?_
  refine T_getR dX10_pass_5 fl_RX10_13 h (fun a12 h => ?_)
  refine T_callSV (As := [.ref a11, .ref a12]) (rest := []) dX10_pass_8 mc_X10_copy mi_X10_copy ml_RX10_124 rfl rfl (Nat.le_of_ble_eq_true rfl) ⟨⟨Nat.le_of_ble_eq_true rfl, Nat.le_of_ble_eq_true rfl⟩, ⟨Nat.le_of_ble_eq_true rfl, Nat.le_of_ble_eq_true rfl⟩⟩ K_X10_copy h (fun s13 h => ?_)
  refine T_aload_n dX10_pass_11 rfl 0 rfl ?_
  refine T_aload_n dX10_pass_12 rfl 0 rfl ?_
  refine T_iload_n dX10_pass_13 rfl 1 rfl ?_
  refine T_callVI (As := [.int i1]) (rest := [.ref a0]) (b := a0) (ci := 9) dX10_pass_14 mc_X10_doPass mi_X10_doPass ml_RX10_147 rfl (fun _ hr => chk_of hr) rfl rfl (Nat.le_of_ble_eq_true rfl) ⟨⟨Nat.le_of_ble_eq_true rfl, Nat.le_of_ble_eq_true rfl⟩, ⟨Nat.le_of_ble_eq_true rfl, Nat.le_of_ble_eq_true rfl⟩⟩ K_X10_doPass h (fun i14 s15 h => ?_)
  refine T_callVI (As := [.int i14]) (rest := []) (b := a0) (ci := 9) dX10_pass_17 mc_X10_ends mi_X10_ends ml_RX10_132 rfl (fun _ hr => chk_of hr) rfl rfl (Nat.le_of_ble_eq_true rfl) ⟨⟨Nat.le_of_ble_eq_true rfl, Nat.le_of_ble_eq_true rfl⟩, ⟨Nat.le_of_ble_eq_true rfl, Nat.le_of_ble_eq_true rfl⟩⟩ K_X10_ends h (fun i16 s17 h => ?_)
  exact T_ireturn dX10_pass_20 (Nat.le_of_ble_eq_true rfl) (Nat.le_of_ble_eq_true rfl) h

def D_X10_readsOrder_b191  (i40 : Int32) (a41 : Nat) (s39 : Hp) : Option (Int32 × Hp) :=
  (D_X10_does a41 i40 s39).bind fun s42 =>
  retZ (1 : Int32) ((1 : Int32), s42)
def D_X10_readsOrder_b103  (a26 : Nat) (i27 : Int32) (i29 : Int32) (i30 : Int32) (a31 : Nat) (s28 : Hp) : Option (Int32 × Hp) :=
  (putI s28 a31 9 13 (i30 + i29)).bind fun s32 =>
  if i27 = (-6 : Int32) then
  retZ (0 : Int32) ((0 : Int32), s32)
  else
  bd (D_X10_readsNumber a26 (99 : Int32) s32) fun i33 s34 =>
  if i33 = 0 then
  retZ (0 : Int32) ((0 : Int32), s34)
  else
  (getI s34 a26 9 15).bind fun i35 =>
  if i35 = 0 then
  retZ (1 : Int32) ((1 : Int32), s34)
  else
  if i27 = (120 : Int32) then
  (getI s34 a26 9 14).bind fun i49 =>
  bd (D_X10_doTake a26 i49 s34) fun i50 s51 =>
  D_X10_readsOrder_b191 i50 a26 s51
  else
  if i27 = (119 : Int32) then
  (getI s34 a26 9 14).bind fun i46 =>
  bd (D_X10_doWash a26 i46 s34) fun i47 s48 =>
  D_X10_readsOrder_b191 i47 a26 s48
  else
  if i27 = (118 : Int32) then
  (getI s34 a26 9 14).bind fun i43 =>
  bd (D_X10_doWind a26 i43 s34) fun i44 s45 =>
  D_X10_readsOrder_b191 i44 a26 s45
  else
  (getI s34 a26 9 14).bind fun i36 =>
  bd (D_X10_doPass a26 i36 s34) fun i37 s38 =>
  D_X10_readsOrder_b191 i37 a26 s38
def D_X10_readsOrder_b86  (a22 : Nat) (i24 : Int32) (s23 : Hp) : Option (Int32 × Hp) :=
  (getI s23 a22 9 13).bind fun i25 =>
  if i24 = (-6 : Int32) then
  D_X10_readsOrder_b103 a22 i24 (0 : Int32) i25 a22 s23
  else
  D_X10_readsOrder_b103 a22 i24 (1 : Int32) i25 a22 s23
def D_X10_readsOrder_b72  (a17 : Nat) (s18 : Hp) : Option (Int32 × Hp) :=
  (getR s18 a17 9 11).bind fun a19 =>
  (getI s18 a17 9 13).bind fun i20 =>
  (ldI s18 a19 i20).bind fun i21 =>
  D_X10_readsOrder_b86 a17 i21 s18
def D_X10_readsOrder (a0 : Nat) (s0 : Hp) : Option (Int32 × Hp) :=
  (isO s0 a0 9).bind fun _ =>
  bd (D_X10_takes a0 (43 : Int32) s0) fun i11 s12 =>
  if i11 = 0 then
  bd (D_X10_takes a0 (97 : Int32) s12) fun i13 s14 =>
  if i13 = 0 then
  bd (D_X10_isHere a0 (120 : Int32) (120 : Int32) s14) fun i15 s16 =>
  if i15 = 0 then
  bd (D_X10_isHere a0 (119 : Int32) (119 : Int32) s16) fun i52 s53 =>
  if i52 = 0 then
  bd (D_X10_isHere a0 (118 : Int32) (118 : Int32) s53) fun i54 s55 =>
  if i54 = 0 then
  bd (D_X10_isHere a0 (116 : Int32) (116 : Int32) s55) fun i56 s57 =>
  if i56 = 0 then
  D_X10_readsOrder_b86 a0 (-6 : Int32) s57
  else
  D_X10_readsOrder_b72 a0 s57
  else
  D_X10_readsOrder_b72 a0 s55
  else
  D_X10_readsOrder_b72 a0 s53
  else
  D_X10_readsOrder_b72 a0 s16
  else
  bd (D_X10_readsAim a0 s14) fun i58 s59 =>
  retZ i58 (i58, s59)
  else
  bd (D_X10_readsMirror a0 s12) fun i60 s61 =>
  retZ i60 (i60, s61)
set_option maxRecDepth 100000 in
set_option maxHeartbeats 4000000 in
theorem K_X10_readsOrder_b191 {l : Launch} {G : smG} {P : Option Value → Hp → Prop}  {i40 : Int32} {a41 : Nat} {s39 : Hp}  (h : OK jI (D_X10_readsOrder_b191 i40 a41 s39) P) : T l G RX10 cX10_readsOrder 2 (sm_rm 7 0 0) (sm_E (some .boolean) yX10_readsOrder.name) (sm_Qs G P 0 0) 0 0 191 [] [.int i40, .ref a41] s39 := by
  unfold D_X10_readsOrder_b191 at h
  refine T_callVV (As := [.int i40]) (rest := []) (b := a41) (ci := 9) dX10_readsOrder_191 mc_X10_does mi_X10_does ml_RX10_200 rfl (fun _ hr => chk_of hr) rfl rfl (Nat.le_of_ble_eq_true rfl) ⟨⟨Nat.le_of_ble_eq_true rfl, Nat.le_of_ble_eq_true rfl⟩, ⟨Nat.le_of_ble_eq_true rfl, Nat.le_of_ble_eq_true rfl⟩⟩ K_X10_does h (fun s42 h => ?_)
  refine T_iconst (1 : Int32) dX10_readsOrder_194 (by decide) ?_
  exact T_zreturn dX10_readsOrder_195 (Nat.le_of_ble_eq_true rfl) (Nat.le_of_ble_eq_true rfl) h
set_option maxRecDepth 100000 in
set_option maxHeartbeats 4000000 in
theorem K_X10_readsOrder_b103 {l : Launch} {G : smG} {P : Option Value → Hp → Prop}  {a26 : Nat} {i27 : Int32} {i29 : Int32} {i30 : Int32} {a31 : Nat} {s28 : Hp}  (h : OK jI (D_X10_readsOrder_b103 a26 i27 i29 i30 a31 s28) P) : T l G RX10 cX10_readsOrder 2 (sm_rm 7 0 0) (sm_E (some .boolean) yX10_readsOrder.name) (sm_Qs G P 0 0) 0 0 103 [(0, .ref a26), (1, .int i27)] [.int i29, .int i30, .ref a31] s28 := by
  unfold D_X10_readsOrder_b103 at h
  refine T_iadd dX10_readsOrder_103 ?_
  refine T_putI dX10_readsOrder_104 fl_RX10_178 ft_9_13 h (fun s32 h => ?_)
  refine T_iload_n dX10_readsOrder_107 rfl 1 rfl ?_
  refine T_bipush (-6 : Int32) dX10_readsOrder_108 (by decide) ?_
  refine T_icmp_eq 122 dX10_readsOrder_110 (by decide) h (fun _ h => ?_) (fun _ h => ?_)
  · refine T_iconst (0 : Int32) dX10_readsOrder_122 (by decide) ?_
    exact T_zreturn dX10_readsOrder_123 (Nat.le_of_ble_eq_true rfl) (Nat.le_of_ble_eq_true rfl) h
  · refine T_aload_n dX10_readsOrder_113 rfl 0 rfl ?_
    refine T_bipush (99 : Int32) dX10_readsOrder_114 (by decide) ?_
    refine T_callVI (As := [.int (99 : Int32)]) (rest := []) (b := a26) (ci := 9) dX10_readsOrder_116 mc_X10_readsNumber mi_X10_readsNumber ml_RX10_190 rfl (fun _ hr => chk_of hr) rfl rfl (Nat.le_of_ble_eq_true rfl) ⟨⟨Nat.le_of_ble_eq_true rfl, Nat.le_of_ble_eq_true rfl⟩, ⟨Nat.le_of_ble_eq_true rfl, Nat.le_of_ble_eq_true rfl⟩⟩ K_X10_readsNumber h (fun i33 s34 h => ?_)
    refine T_if_ne 124 dX10_readsOrder_119 (by decide) h (fun _ h => ?_) (fun _ h => ?_)
    · refine T_aload_n dX10_readsOrder_124 rfl 0 rfl ?_
      refine T_getI dX10_readsOrder_125 fl_RX10_196 h (fun i35 h => ?_)
      refine T_if_eq 194 dX10_readsOrder_128 (by decide) h (fun _ h => ?_) (fun _ h => ?_)
      · refine T_iconst (1 : Int32) dX10_readsOrder_194 (by decide) ?_
        exact T_zreturn dX10_readsOrder_195 (Nat.le_of_ble_eq_true rfl) (Nat.le_of_ble_eq_true rfl) h
      · refine T_aload_n dX10_readsOrder_131 rfl 0 rfl ?_
        refine T_iload_n dX10_readsOrder_132 rfl 1 rfl ?_
        refine T_bipush (120 : Int32) dX10_readsOrder_133 (by decide) ?_
        refine T_icmp_ne 149 dX10_readsOrder_135 (by decide) h (fun _ h => ?_) (fun _ h => ?_)
        · refine T_iload_n dX10_readsOrder_149 rfl 1 rfl ?_
          refine T_bipush (119 : Int32) dX10_readsOrder_150 (by decide) ?_
          refine T_icmp_ne 166 dX10_readsOrder_152 (by decide) h (fun _ h => ?_) (fun _ h => ?_)
          · refine T_iload_n dX10_readsOrder_166 rfl 1 rfl ?_
            refine T_bipush (118 : Int32) dX10_readsOrder_167 (by decide) ?_
            refine T_icmp_ne 183 dX10_readsOrder_169 (by decide) h (fun _ h => ?_) (fun _ h => ?_)
            · refine T_aload_n dX10_readsOrder_183 rfl 0 rfl ?_
              refine T_aload_n dX10_readsOrder_184 rfl 0 rfl ?_
              refine T_getI dX10_readsOrder_185 fl_RX10_184 h (fun i36 h => ?_)
              refine T_callVI (As := [.int i36]) (rest := [.ref a26]) (b := a26) (ci := 9) dX10_readsOrder_188 mc_X10_doPass mi_X10_doPass ml_RX10_147 rfl (fun _ hr => chk_of hr) rfl rfl (Nat.le_of_ble_eq_true rfl) ⟨⟨Nat.le_of_ble_eq_true rfl, Nat.le_of_ble_eq_true rfl⟩, ⟨Nat.le_of_ble_eq_true rfl, Nat.le_of_ble_eq_true rfl⟩⟩ K_X10_doPass h (fun i37 s38 h => ?_)
              refine T_lv (lv' := []) [] rfl ?_
              exact K_X10_readsOrder_b191 h
            · refine T_aload_n dX10_readsOrder_172 rfl 0 rfl ?_
              refine T_aload_n dX10_readsOrder_173 rfl 0 rfl ?_
              refine T_getI dX10_readsOrder_174 fl_RX10_184 h (fun i43 h => ?_)
              refine T_callVI (As := [.int i43]) (rest := [.ref a26]) (b := a26) (ci := 9) dX10_readsOrder_177 mc_X10_doWind mi_X10_doWind ml_RX10_144 rfl (fun _ hr => chk_of hr) rfl rfl (Nat.le_of_ble_eq_true rfl) ⟨⟨Nat.le_of_ble_eq_true rfl, Nat.le_of_ble_eq_true rfl⟩, ⟨Nat.le_of_ble_eq_true rfl, Nat.le_of_ble_eq_true rfl⟩⟩ K_X10_doWind h (fun i44 s45 h => ?_)
              refine T_goto 191 dX10_readsOrder_180 (by decide) ?_
              refine T_lv (lv' := []) [] rfl ?_
              exact K_X10_readsOrder_b191 h
          · refine T_aload_n dX10_readsOrder_155 rfl 0 rfl ?_
            refine T_aload_n dX10_readsOrder_156 rfl 0 rfl ?_
            refine T_getI dX10_readsOrder_157 fl_RX10_184 h (fun i46 h => ?_)
            refine T_callVI (As := [.int i46]) (rest := [.ref a26]) (b := a26) (ci := 9) dX10_readsOrder_160 mc_X10_doWash mi_X10_doWash ml_RX10_141 rfl (fun _ hr => chk_of hr) rfl rfl (Nat.le_of_ble_eq_true rfl) ⟨⟨Nat.le_of_ble_eq_true rfl, Nat.le_of_ble_eq_true rfl⟩, ⟨Nat.le_of_ble_eq_true rfl, Nat.le_of_ble_eq_true rfl⟩⟩ K_X10_doWash h (fun i47 s48 h => ?_)
            refine T_goto 191 dX10_readsOrder_163 (by decide) ?_
            refine T_lv (lv' := []) [] rfl ?_
            exact K_X10_readsOrder_b191 h
        · refine T_aload_n dX10_readsOrder_138 rfl 0 rfl ?_
          refine T_aload_n dX10_readsOrder_139 rfl 0 rfl ?_
          refine T_getI dX10_readsOrder_140 fl_RX10_184 h (fun i49 h => ?_)
          refine T_callVI (As := [.int i49]) (rest := [.ref a26]) (b := a26) (ci := 9) dX10_readsOrder_143 mc_X10_doTake mi_X10_doTake ml_RX10_135 rfl (fun _ hr => chk_of hr) rfl rfl (Nat.le_of_ble_eq_true rfl) ⟨⟨Nat.le_of_ble_eq_true rfl, Nat.le_of_ble_eq_true rfl⟩, ⟨Nat.le_of_ble_eq_true rfl, Nat.le_of_ble_eq_true rfl⟩⟩ K_X10_doTake h (fun i50 s51 h => ?_)
          refine T_goto 191 dX10_readsOrder_146 (by decide) ?_
          refine T_lv (lv' := []) [] rfl ?_
          exact K_X10_readsOrder_b191 h
    · refine T_iconst (0 : Int32) dX10_readsOrder_122 (by decide) ?_
      exact T_zreturn dX10_readsOrder_123 (Nat.le_of_ble_eq_true rfl) (Nat.le_of_ble_eq_true rfl) h
set_option maxRecDepth 100000 in
set_option maxHeartbeats 4000000 in
theorem K_X10_readsOrder_b86 {l : Launch} {G : smG} {P : Option Value → Hp → Prop}  {a22 : Nat} {i24 : Int32} {s23 : Hp}  (h : OK jI (D_X10_readsOrder_b86 a22 i24 s23) P) : T l G RX10 cX10_readsOrder 2 (sm_rm 7 0 0) (sm_E (some .boolean) yX10_readsOrder.name) (sm_Qs G P 0 0) 0 0 86 [(0, .ref a22)] [.int i24] s23 := by
  unfold D_X10_readsOrder_b86 at h
  refine T_istore_n (lv' := [(1, .int i24), (0, .ref a22)]) dX10_readsOrder_86 rfl (by decide) rfl ?_
  refine T_aload_n dX10_readsOrder_87 rfl 1 rfl ?_
  refine T_dup dX10_readsOrder_88 rfl ?_
  refine T_getI dX10_readsOrder_89 fl_RX10_178 h (fun i25 h => ?_)
  refine T_iload_n dX10_readsOrder_92 rfl 0 rfl ?_
  refine T_bipush (-6 : Int32) dX10_readsOrder_93 (by decide) ?_
  refine T_icmp_ne 102 dX10_readsOrder_95 (by decide) h (fun _ h => ?_) (fun _ h => ?_)
  · refine T_iconst (1 : Int32) dX10_readsOrder_102 (by decide) ?_
    refine T_lv (lv' := [(0, .ref a22), (1, .int i24)]) [1, 0] rfl ?_
    exact K_X10_readsOrder_b103 h
  · refine T_iconst (0 : Int32) dX10_readsOrder_98 (by decide) ?_
    refine T_goto 103 dX10_readsOrder_99 (by decide) ?_
    refine T_lv (lv' := [(0, .ref a22), (1, .int i24)]) [1, 0] rfl ?_
    exact K_X10_readsOrder_b103 h
set_option maxRecDepth 100000 in
set_option maxHeartbeats 4000000 in
theorem K_X10_readsOrder_b72 {l : Launch} {G : smG} {P : Option Value → Hp → Prop}  {a17 : Nat} {s18 : Hp}  (h : OK jI (D_X10_readsOrder_b72 a17 s18) P) : T l G RX10 cX10_readsOrder 2 (sm_rm 7 0 0) (sm_E (some .boolean) yX10_readsOrder.name) (sm_Qs G P 0 0) 0 0 72 [(0, .ref a17)] [] s18 := by
  unfold D_X10_readsOrder_b72 at h
  refine T_aload_n dX10_readsOrder_72 rfl 0 rfl ?_
  refine T_getR dX10_readsOrder_73 fl_RX10_40 h (fun a19 h => ?_)
  refine T_aload_n dX10_readsOrder_76 rfl 0 rfl ?_
  refine T_getI dX10_readsOrder_77 fl_RX10_178 h (fun i20 h => ?_)
  refine T_iaload dX10_readsOrder_80 h (fun i21 h => ?_)
  refine T_goto 86 dX10_readsOrder_81 (by decide) ?_
  exact K_X10_readsOrder_b86 h
set_option maxRecDepth 100000 in
set_option maxHeartbeats 4000000 in
theorem K_X10_readsOrder {l : Launch} {a0 : Nat} {s0 : Hp} : ∀ P, OK jI (D_X10_readsOrder a0 s0) P → sm_Ct l yX10_readsOrder cX10_readsOrder 2 (some .boolean) 7 0 0 [.ref a0] s0 P := by
  intro P h
  unfold D_X10_readsOrder at h
  obtain ⟨_, hb0, h⟩ := h.bind
  refine sm_enter (own := RX10) (lv := [(0, .ref a0)]) (by decide) rfl (Nat.le_of_ble_eq_true rfl) rfl (fun G => ?_)
  refine T_aload_n dX10_readsOrder_0 rfl 0 rfl ?_
  refine T_bipush (43 : Int32) dX10_readsOrder_1 (by decide) ?_
  refine T_callVI (As := [.int (43 : Int32)]) (rest := []) (b := a0) (ci := 9) dX10_readsOrder_3 mc_X10_takes mi_X10_takes ml_RX10_193 rfl (fun _ hr => chk_of hr) rfl rfl (Nat.le_of_ble_eq_true rfl) ⟨⟨Nat.le_of_ble_eq_true rfl, Nat.le_of_ble_eq_true rfl⟩, ⟨Nat.le_of_ble_eq_true rfl, Nat.le_of_ble_eq_true rfl⟩⟩ K_X10_takes h (fun i11 s12 h => ?_)
  refine T_if_eq 14 dX10_readsOrder_6 (by decide) h (fun _ h => ?_) (fun _ h => ?_)
  · refine T_aload_n dX10_readsOrder_14 rfl 0 rfl ?_
    refine T_bipush (97 : Int32) dX10_readsOrder_15 (by decide) ?_
    refine T_callVI (As := [.int (97 : Int32)]) (rest := []) (b := a0) (ci := 9) dX10_readsOrder_17 mc_X10_takes mi_X10_takes ml_RX10_193 rfl (fun _ hr => chk_of hr) rfl rfl (Nat.le_of_ble_eq_true rfl) ⟨⟨Nat.le_of_ble_eq_true rfl, Nat.le_of_ble_eq_true rfl⟩, ⟨Nat.le_of_ble_eq_true rfl, Nat.le_of_ble_eq_true rfl⟩⟩ K_X10_takes h (fun i13 s14 h => ?_)
    refine T_if_eq 28 dX10_readsOrder_20 (by decide) h (fun _ h => ?_) (fun _ h => ?_)
    · refine T_aload_n dX10_readsOrder_28 rfl 0 rfl ?_
      refine T_bipush (120 : Int32) dX10_readsOrder_29 (by decide) ?_
      refine T_bipush (120 : Int32) dX10_readsOrder_31 (by decide) ?_
      refine T_callVI (As := [.int (120 : Int32), .int (120 : Int32)]) (rest := []) (b := a0) (ci := 9) dX10_readsOrder_33 mc_X10_isHere mi_X10_isHere ml_RX10_181 rfl (fun _ hr => chk_of hr) rfl rfl (Nat.le_of_ble_eq_true rfl) ⟨⟨Nat.le_of_ble_eq_true rfl, Nat.le_of_ble_eq_true rfl⟩, ⟨Nat.le_of_ble_eq_true rfl, Nat.le_of_ble_eq_true rfl⟩⟩ K_X10_isHere h (fun i15 s16 h => ?_)
      refine T_if_ne 72 dX10_readsOrder_36 (by decide) h (fun _ h => ?_) (fun _ h => ?_)
      · exact K_X10_readsOrder_b72 h
      · refine T_aload_n dX10_readsOrder_39 rfl 0 rfl ?_
        refine T_bipush (119 : Int32) dX10_readsOrder_40 (by decide) ?_
        refine T_bipush (119 : Int32) dX10_readsOrder_42 (by decide) ?_
        refine T_callVI (As := [.int (119 : Int32), .int (119 : Int32)]) (rest := []) (b := a0) (ci := 9) dX10_readsOrder_44 mc_X10_isHere mi_X10_isHere ml_RX10_181 rfl (fun _ hr => chk_of hr) rfl rfl (Nat.le_of_ble_eq_true rfl) ⟨⟨Nat.le_of_ble_eq_true rfl, Nat.le_of_ble_eq_true rfl⟩, ⟨Nat.le_of_ble_eq_true rfl, Nat.le_of_ble_eq_true rfl⟩⟩ K_X10_isHere h (fun i52 s53 h => ?_)
        refine T_if_ne 72 dX10_readsOrder_47 (by decide) h (fun _ h => ?_) (fun _ h => ?_)
        · exact K_X10_readsOrder_b72 h
        · refine T_aload_n dX10_readsOrder_50 rfl 0 rfl ?_
          refine T_bipush (118 : Int32) dX10_readsOrder_51 (by decide) ?_
          refine T_bipush (118 : Int32) dX10_readsOrder_53 (by decide) ?_
          refine T_callVI (As := [.int (118 : Int32), .int (118 : Int32)]) (rest := []) (b := a0) (ci := 9) dX10_readsOrder_55 mc_X10_isHere mi_X10_isHere ml_RX10_181 rfl (fun _ hr => chk_of hr) rfl rfl (Nat.le_of_ble_eq_true rfl) ⟨⟨Nat.le_of_ble_eq_true rfl, Nat.le_of_ble_eq_true rfl⟩, ⟨Nat.le_of_ble_eq_true rfl, Nat.le_of_ble_eq_true rfl⟩⟩ K_X10_isHere h (fun i54 s55 h => ?_)
          refine T_if_ne 72 dX10_readsOrder_58 (by decide) h (fun _ h => ?_) (fun _ h => ?_)
          · exact K_X10_readsOrder_b72 h
          · refine T_aload_n dX10_readsOrder_61 rfl 0 rfl ?_
            refine T_bipush (116 : Int32) dX10_readsOrder_62 (by decide) ?_
            refine T_bipush (116 : Int32) dX10_readsOrder_64 (by decide) ?_
            refine T_callVI (As := [.int (116 : Int32), .int (116 : Int32)]) (rest := []) (b := a0) (ci := 9) dX10_readsOrder_66 mc_X10_isHere mi_X10_isHere ml_RX10_181 rfl (fun _ hr => chk_of hr) rfl rfl (Nat.le_of_ble_eq_true rfl) ⟨⟨Nat.le_of_ble_eq_true rfl, Nat.le_of_ble_eq_true rfl⟩, ⟨Nat.le_of_ble_eq_true rfl, Nat.le_of_ble_eq_true rfl⟩⟩ K_X10_isHere h (fun i56 s57 h => ?_)
            refine T_if_eq 84 dX10_readsOrder_69 (by decide) h (fun _ h => ?_) (fun _ h => ?_)
            · refine T_bipush (-6 : Int32) dX10_readsOrder_84 (by decide) ?_
              exact K_X10_readsOrder_b86 h
            · exact K_X10_readsOrder_b72 h
    · refine T_aload_n dX10_readsOrder_23 rfl 0 rfl ?_
      refine T_callVI (As := []) (rest := []) (b := a0) (ci := 9) dX10_readsOrder_24 mc_X10_readsAim mi_X10_readsAim ml_RX10_206 rfl (fun _ hr => chk_of hr) rfl rfl (Nat.le_of_ble_eq_true rfl) ⟨⟨Nat.le_of_ble_eq_true rfl, Nat.le_of_ble_eq_true rfl⟩, ⟨Nat.le_of_ble_eq_true rfl, Nat.le_of_ble_eq_true rfl⟩⟩ K_X10_readsAim h (fun i58 s59 h => ?_)
      exact T_zreturn dX10_readsOrder_27 (Nat.le_of_ble_eq_true rfl) (Nat.le_of_ble_eq_true rfl) h
  · refine T_aload_n dX10_readsOrder_9 rfl 0 rfl ?_
    refine T_callVI (As := []) (rest := []) (b := a0) (ci := 9) dX10_readsOrder_10 mc_X10_readsMirror mi_X10_readsMirror ml_RX10_203 rfl (fun _ hr => chk_of hr) rfl rfl (Nat.le_of_ble_eq_true rfl) ⟨⟨Nat.le_of_ble_eq_true rfl, Nat.le_of_ble_eq_true rfl⟩, ⟨Nat.le_of_ble_eq_true rfl, Nat.le_of_ble_eq_true rfl⟩⟩ K_X10_readsMirror h (fun i60 s61 h => ?_)
    exact T_zreturn dX10_readsOrder_13 (Nat.le_of_ble_eq_true rfl) (Nat.le_of_ble_eq_true rfl) h

def D_X9_bestColumn (a0 : Nat) (i1 : Int32) (i2 : Int32) (i3 : Int32) (s0 : Hp) : Option (Int32 × Hp) :=
  (isO s0 a0 8).bind fun _ =>
  bd (D_X9_isPlace i1 (0 : Int32) s0) fun i11 s12 =>
  if i11 = 0 then
  some ((-2 : Int32), s12)
  else
  bd (D_X9_isAimPoint i2 s12) fun i13 s14 =>
  if i13 = 0 then
  some ((-2 : Int32), s14)
  else
  bd (D_X9_isChoice i3 s14) fun i15 s16 =>
  if i15 = 0 then
  some ((-2 : Int32), s16)
  else
  (getR s16 a0 8 2).bind fun a17 =>
  bd (D_X0_columnForOneMore a17 i1 i2 i3 s16) fun i18 s19 =>
  some (i18, s19)
set_option maxRecDepth 100000 in
set_option maxHeartbeats 4000000 in
theorem K_X9_bestColumn {l : Launch} {a0 : Nat} {i1 : Int32} {i2 : Int32} {i3 : Int32} {s0 : Hp} : ∀ P, OK jI (D_X9_bestColumn a0 i1 i2 i3 s0) P → sm_Ct l yX9_bestColumn cX9_bestColumn 4 (some .int) 7 0 0 [.ref a0, .int i1, .int i2, .int i3] s0 P := by
  intro P h
  unfold D_X9_bestColumn at h
  obtain ⟨_, hb0, h⟩ := h.bind
  refine sm_enter (own := RX9) (lv := [(0, .ref a0), (1, .int i1), (2, .int i2), (3, .int i3)]) (by decide) rfl (Nat.le_of_ble_eq_true rfl) rfl (fun G => ?_)
  refine T_iload_n dX9_bestColumn_0 rfl 1 rfl ?_
  refine T_iconst (0 : Int32) dX9_bestColumn_1 (by decide) ?_
  refine T_callSI (As := [.int i1, .int (0 : Int32)]) (rest := []) dX9_bestColumn_2 mc_X9_isPlace mi_X9_isPlace ml_RX9_193 rfl rfl (Nat.le_of_ble_eq_true rfl) ⟨⟨Nat.le_of_ble_eq_true rfl, Nat.le_of_ble_eq_true rfl⟩, ⟨Nat.le_of_ble_eq_true rfl, Nat.le_of_ble_eq_true rfl⟩⟩ K_X9_isPlace h (fun i11 s12 h => ?_)
  refine T_if_eq 22 dX9_bestColumn_5 (by decide) h (fun _ h => ?_) (fun _ h => ?_)
  · refine T_bipush (-2 : Int32) dX9_bestColumn_22 (by decide) ?_
    exact T_ireturn dX9_bestColumn_24 (Nat.le_of_ble_eq_true rfl) (Nat.le_of_ble_eq_true rfl) h
  · refine T_iload_n dX9_bestColumn_8 rfl 2 rfl ?_
    refine T_callSI (As := [.int i2]) (rest := []) dX9_bestColumn_9 mc_X9_isAimPoint mi_X9_isAimPoint ml_RX9_146 rfl rfl (Nat.le_of_ble_eq_true rfl) ⟨⟨Nat.le_of_ble_eq_true rfl, Nat.le_of_ble_eq_true rfl⟩, ⟨Nat.le_of_ble_eq_true rfl, Nat.le_of_ble_eq_true rfl⟩⟩ K_X9_isAimPoint h (fun i13 s14 h => ?_)
    refine T_if_eq 22 dX9_bestColumn_12 (by decide) h (fun _ h => ?_) (fun _ h => ?_)
    · refine T_bipush (-2 : Int32) dX9_bestColumn_22 (by decide) ?_
      exact T_ireturn dX9_bestColumn_24 (Nat.le_of_ble_eq_true rfl) (Nat.le_of_ble_eq_true rfl) h
    · refine T_iload_n dX9_bestColumn_15 rfl 3 rfl ?_
      refine T_callSI (As := [.int i3]) (rest := []) dX9_bestColumn_16 mc_X9_isChoice mi_X9_isChoice ml_RX9_200 rfl rfl (Nat.le_of_ble_eq_true rfl) ⟨⟨Nat.le_of_ble_eq_true rfl, Nat.le_of_ble_eq_true rfl⟩, ⟨Nat.le_of_ble_eq_true rfl, Nat.le_of_ble_eq_true rfl⟩⟩ K_X9_isChoice h (fun i15 s16 h => ?_)
      refine T_if_ne 25 dX9_bestColumn_19 (by decide) h (fun _ h => ?_) (fun _ h => ?_)
      · refine T_aload_n dX9_bestColumn_25 rfl 0 rfl ?_
        refine T_getR dX9_bestColumn_26 fl_RX9_28 h (fun a17 h => ?_)
        refine T_iload_n dX9_bestColumn_29 rfl 1 rfl ?_
        refine T_iload_n dX9_bestColumn_30 rfl 2 rfl ?_
        refine T_iload_n dX9_bestColumn_31 rfl 3 rfl ?_
        refine T_callVI (As := [.int i1, .int i2, .int i3]) (rest := []) (b := a17) (ci := 0) dX9_bestColumn_32 mc_X0_columnForOneMore mi_X0_columnForOneMore ml_RX9_206 rfl (fun _ hr => chk_of hr) rfl rfl (Nat.le_of_ble_eq_true rfl) ⟨⟨Nat.le_of_ble_eq_true rfl, Nat.le_of_ble_eq_true rfl⟩, ⟨Nat.le_of_ble_eq_true rfl, Nat.le_of_ble_eq_true rfl⟩⟩ K_X0_columnForOneMore h (fun i18 s19 h => ?_)
        exact T_ireturn dX9_bestColumn_35 (Nat.le_of_ble_eq_true rfl) (Nat.le_of_ble_eq_true rfl) h
      · refine T_bipush (-2 : Int32) dX9_bestColumn_22 (by decide) ?_
        exact T_ireturn dX9_bestColumn_24 (Nat.le_of_ble_eq_true rfl) (Nat.le_of_ble_eq_true rfl) h

def D_X9_toWash (a0 : Nat) (s0 : Hp) : Option (Int32 × Hp) :=
  (isO s0 a0 8).bind fun _ =>
  (getR s0 a0 8 2).bind fun a11 =>
  bd (D_X0_mirrorToWash a11 s0) fun i12 s13 =>
  some (i12, s13)
set_option maxRecDepth 100000 in
set_option maxHeartbeats 4000000 in
theorem K_X9_toWash {l : Launch} {a0 : Nat} {s0 : Hp} : ∀ P, OK jI (D_X9_toWash a0 s0) P → sm_Ct l yX9_toWash cX9_toWash 1 (some .int) 7 0 0 [.ref a0] s0 P := by
  intro P h
  unfold D_X9_toWash at h
  obtain ⟨_, hb0, h⟩ := h.bind
  refine sm_enter (own := RX9) (lv := [(0, .ref a0)]) (by decide) rfl (Nat.le_of_ble_eq_true rfl) rfl (fun G => ?_)
  refine T_aload_n dX9_toWash_0 rfl 0 rfl ?_
  refine T_getR dX9_toWash_1 fl_RX9_28 h (fun a11 h => ?_)
  refine T_callVI (As := []) (rest := []) (b := a11) (ci := 0) dX9_toWash_4 mc_X0_mirrorToWash mi_X0_mirrorToWash ml_RX9_209 rfl (fun _ hr => chk_of hr) rfl rfl (Nat.le_of_ble_eq_true rfl) ⟨⟨Nat.le_of_ble_eq_true rfl, Nat.le_of_ble_eq_true rfl⟩, ⟨Nat.le_of_ble_eq_true rfl, Nat.le_of_ble_eq_true rfl⟩⟩ K_X0_mirrorToWash h (fun i12 s13 h => ?_)
  exact T_ireturn dX9_toWash_7 (Nat.le_of_ble_eq_true rfl) (Nat.le_of_ble_eq_true rfl) h

def D_X9_worthLeast (a0 : Nat) (i1 : Int32) (s0 : Hp) : Option (Int32 × Hp) :=
  (isO s0 a0 8).bind fun _ =>
  bd (D_X9_isChoice i1 s0) fun i11 s12 =>
  if i11 = 0 then
  some ((-2 : Int32), s12)
  else
  (getR s12 a0 8 2).bind fun a13 =>
  bd (D_X0_leastWorth a13 i1 s12) fun i14 s15 =>
  some (i14, s15)
set_option maxRecDepth 100000 in
set_option maxHeartbeats 4000000 in
theorem K_X9_worthLeast {l : Launch} {a0 : Nat} {i1 : Int32} {s0 : Hp} : ∀ P, OK jI (D_X9_worthLeast a0 i1 s0) P → sm_Ct l yX9_worthLeast cX9_worthLeast 2 (some .int) 7 0 0 [.ref a0, .int i1] s0 P := by
  intro P h
  unfold D_X9_worthLeast at h
  obtain ⟨_, hb0, h⟩ := h.bind
  refine sm_enter (own := RX9) (lv := [(0, .ref a0), (1, .int i1)]) (by decide) rfl (Nat.le_of_ble_eq_true rfl) rfl (fun G => ?_)
  refine T_iload_n dX9_worthLeast_0 rfl 1 rfl ?_
  refine T_callSI (As := [.int i1]) (rest := []) dX9_worthLeast_1 mc_X9_isChoice mi_X9_isChoice ml_RX9_200 rfl rfl (Nat.le_of_ble_eq_true rfl) ⟨⟨Nat.le_of_ble_eq_true rfl, Nat.le_of_ble_eq_true rfl⟩, ⟨Nat.le_of_ble_eq_true rfl, Nat.le_of_ble_eq_true rfl⟩⟩ K_X9_isChoice h (fun i11 s12 h => ?_)
  refine T_if_eq 18 dX9_worthLeast_4 (by decide) h (fun _ h => ?_) (fun _ h => ?_)
  · refine T_bipush (-2 : Int32) dX9_worthLeast_18 (by decide) ?_
    exact T_ireturn dX9_worthLeast_20 (Nat.le_of_ble_eq_true rfl) (Nat.le_of_ble_eq_true rfl) h
  · refine T_aload_n dX9_worthLeast_7 rfl 0 rfl ?_
    refine T_getR dX9_worthLeast_8 fl_RX9_28 h (fun a13 h => ?_)
    refine T_iload_n dX9_worthLeast_11 rfl 1 rfl ?_
    refine T_callVI (As := [.int i1]) (rest := []) (b := a13) (ci := 0) dX9_worthLeast_12 mc_X0_leastWorth mi_X0_leastWorth ml_RX9_203 rfl (fun _ hr => chk_of hr) rfl rfl (Nat.le_of_ble_eq_true rfl) ⟨⟨Nat.le_of_ble_eq_true rfl, Nat.le_of_ble_eq_true rfl⟩, ⟨Nat.le_of_ble_eq_true rfl, Nat.le_of_ble_eq_true rfl⟩⟩ K_X0_leastWorth h (fun i14 s15 h => ?_)
    refine T_goto 20 dX9_worthLeast_15 (by decide) ?_
    exact T_ireturn dX9_worthLeast_20 (Nat.le_of_ble_eq_true rfl) (Nat.le_of_ble_eq_true rfl) h
