def D_X2_remove (a0 : Nat) (i1 : Int32) (s0 : Hp) : Option (Int32 × Hp) :=
  (isO s0 a0 2).bind fun _ =>
  bd (D_X2_isMirror a0 i1 s0) fun i11 s12 =>
  if i11 = 0 then
  some ((-1 : Int32), s12)
  else
  (getR s12 a0 2 1).bind fun a13 =>
  (D_X1_leaveOut a13 i1 s12).bind fun s14 =>
  (getR s14 a0 2 2).bind fun a15 =>
  (D_X1_leaveOut a15 i1 s14).bind fun s16 =>
  (getR s16 a0 2 3).bind fun a17 =>
  (D_X1_leaveOut a17 i1 s16).bind fun s18 =>
  (getR s18 a0 2 4).bind fun a19 =>
  (D_X1_leaveOut a19 i1 s18).bind fun s20 =>
  (getR s20 a0 2 5).bind fun a21 =>
  (D_X1_leaveOut a21 i1 s20).bind fun s22 =>
  (getI s22 a0 2 6).bind fun i23 =>
  (putI s22 a0 2 6 (i23 - (1 : Int32))).bind fun s24 =>
  (getI s24 a0 2 6).bind fun i25 =>
  some (i25, s24)
set_option maxRecDepth 100000 in
set_option maxHeartbeats 4000000 in
theorem K_X2_remove {l : Launch} {a0 : Nat} {i1 : Int32} {s0 : Hp} : ∀ P, OK jI (D_X2_remove a0 i1 s0) P → sm_Ct l yX2_remove cX2_remove 2 (some .int) 2 0 0 [.ref a0, .int i1] s0 P := by
  intro P h
  unfold D_X2_remove at h
  obtain ⟨_, hb0, h⟩ := h.bind
  refine sm_enter (own := RX2) (lv := [(0, .ref a0), (1, .int i1)]) (by decide) rfl (Nat.le_of_ble_eq_true rfl) rfl (fun G => ?_)
  refine T_aload_n dX2_remove_0 rfl 0 rfl ?_
  refine T_iload_n dX2_remove_1 rfl 1 rfl ?_
  refine T_callVI (As := [.int i1]) (rest := []) (b := a0) (ci := 2) dX2_remove_2 mc_X2_isMirror mi_X2_isMirror ml_RX2_79 rfl (fun _ hr => chk_of hr) rfl rfl (Nat.le_of_ble_eq_true rfl) ⟨⟨Nat.le_of_ble_eq_true rfl, Nat.le_of_ble_eq_true rfl⟩, ⟨Nat.le_of_ble_eq_true rfl, Nat.le_of_ble_eq_true rfl⟩⟩ K_X2_isMirror h (fun i11 s12 h => ?_)
  refine T_if_ne 10 dX2_remove_5 (by decide) h (fun _ h => ?_) (fun _ h => ?_)
  · refine T_aload_n dX2_remove_10 rfl 0 rfl ?_
    refine T_getR dX2_remove_11 fl_RX2_20 h (fun a13 h => ?_)
    refine T_iload_n dX2_remove_14 rfl 1 rfl ?_
    refine T_callVV (As := [.int i1]) (rest := []) (b := a13) (ci := 1) dX2_remove_15 mc_X1_leaveOut mi_X1_leaveOut ml_RX2_82 rfl (fun _ hr => chk_of hr) rfl rfl (Nat.le_of_ble_eq_true rfl) ⟨⟨Nat.le_of_ble_eq_true rfl, Nat.le_of_ble_eq_true rfl⟩, ⟨Nat.le_of_ble_eq_true rfl, Nat.le_of_ble_eq_true rfl⟩⟩ K_X1_leaveOut h (fun s14 h => ?_)
    refine T_aload_n dX2_remove_18 rfl 0 rfl ?_
    refine T_getR dX2_remove_19 fl_RX2_23 h (fun a15 h => ?_)
    refine T_iload_n dX2_remove_22 rfl 1 rfl ?_
    refine T_callVV (As := [.int i1]) (rest := []) (b := a15) (ci := 1) dX2_remove_23 mc_X1_leaveOut mi_X1_leaveOut ml_RX2_82 rfl (fun _ hr => chk_of hr) rfl rfl (Nat.le_of_ble_eq_true rfl) ⟨⟨Nat.le_of_ble_eq_true rfl, Nat.le_of_ble_eq_true rfl⟩, ⟨Nat.le_of_ble_eq_true rfl, Nat.le_of_ble_eq_true rfl⟩⟩ K_X1_leaveOut h (fun s16 h => ?_)
    refine T_aload_n dX2_remove_26 rfl 0 rfl ?_
    refine T_getR dX2_remove_27 fl_RX2_26 h (fun a17 h => ?_)
    refine T_iload_n dX2_remove_30 rfl 1 rfl ?_
    refine T_callVV (As := [.int i1]) (rest := []) (b := a17) (ci := 1) dX2_remove_31 mc_X1_leaveOut mi_X1_leaveOut ml_RX2_82 rfl (fun _ hr => chk_of hr) rfl rfl (Nat.le_of_ble_eq_true rfl) ⟨⟨Nat.le_of_ble_eq_true rfl, Nat.le_of_ble_eq_true rfl⟩, ⟨Nat.le_of_ble_eq_true rfl, Nat.le_of_ble_eq_true rfl⟩⟩ K_X1_leaveOut h (fun s18 h => ?_)
    refine T_aload_n dX2_remove_34 rfl 0 rfl ?_
    refine T_getR dX2_remove_35 fl_RX2_29 h (fun a19 h => ?_)
    refine T_iload_n dX2_remove_38 rfl 1 rfl ?_
    refine T_callVV (As := [.int i1]) (rest := []) (b := a19) (ci := 1) dX2_remove_39 mc_X1_leaveOut mi_X1_leaveOut ml_RX2_82 rfl (fun _ hr => chk_of hr) rfl rfl (Nat.le_of_ble_eq_true rfl) ⟨⟨Nat.le_of_ble_eq_true rfl, Nat.le_of_ble_eq_true rfl⟩, ⟨Nat.le_of_ble_eq_true rfl, Nat.le_of_ble_eq_true rfl⟩⟩ K_X1_leaveOut h (fun s20 h => ?_)
    refine T_aload_n dX2_remove_42 rfl 0 rfl ?_
    refine T_getR dX2_remove_43 fl_RX2_32 h (fun a21 h => ?_)
    refine T_iload_n dX2_remove_46 rfl 1 rfl ?_
    refine T_callVV (As := [.int i1]) (rest := []) (b := a21) (ci := 1) dX2_remove_47 mc_X1_leaveOut mi_X1_leaveOut ml_RX2_82 rfl (fun _ hr => chk_of hr) rfl rfl (Nat.le_of_ble_eq_true rfl) ⟨⟨Nat.le_of_ble_eq_true rfl, Nat.le_of_ble_eq_true rfl⟩, ⟨Nat.le_of_ble_eq_true rfl, Nat.le_of_ble_eq_true rfl⟩⟩ K_X1_leaveOut h (fun s22 h => ?_)
    refine T_aload_n dX2_remove_50 rfl 0 rfl ?_
    refine T_dup dX2_remove_51 rfl ?_
    refine T_getI dX2_remove_52 fl_RX2_35 h (fun i23 h => ?_)
    refine T_iconst (1 : Int32) dX2_remove_55 (by decide) ?_
    refine T_isub dX2_remove_56 ?_
    refine T_putI dX2_remove_57 fl_RX2_35 ft_2_6 h (fun s24 h => ?_)
    refine T_aload_n dX2_remove_60 rfl 0 rfl ?_
    refine T_getI dX2_remove_61 fl_RX2_35 h (fun i25 h => ?_)
    exact T_ireturn dX2_remove_64 (Nat.le_of_ble_eq_true rfl) (Nat.le_of_ble_eq_true rfl) h
  · refine T_iconst (-1 : Int32) dX2_remove_8 (by decide) ?_
    exact T_ireturn dX2_remove_9 (Nat.le_of_ble_eq_true rfl) (Nat.le_of_ble_eq_true rfl) h

def D_X4_creditUsed_w2 (a11 : Nat) (k43 : Hp → Option Hp) : Nat → Int32 → Hp → Option Hp
  | 0, _, _ => none
  | n14 + 1, i12, s13 =>
  (getR s13 a11 4 0).bind fun a15 =>
  (getI s13 a15 2 6).bind fun i16 =>
  if i16 ≤ i12 then
  k43 s13
  else
  bd (D_X4_isUsed a11 i12 s13) fun i17 s18 =>
  if i17 = 0 then
  D_X4_creditUsed_w2 a11 k43 n14 (i12 + 1) s18
  else
  (getR s18 a11 4 0).bind fun a19 =>
  (getR s18 a11 4 3).bind fun a20 =>
  bd (D_X1_read a20 i12 s18) fun i21 s22 =>
  (D_X2_credit a19 i12 i21 s22).bind fun s23 =>
  D_X4_creditUsed_w2 a11 k43 n14 (i12 + 1) s23
def D_X4_creditUsed (a0 : Nat) (s0 : Hp) : Option Hp :=
  (isO s0 a0 4).bind fun _ =>
  D_X4_creditUsed_w2 a0 (fun s25 =>
  some s25
  ) FU (0 : Int32) s0
set_option maxRecDepth 100000 in
set_option maxHeartbeats 4000000 in
theorem K_X4_creditUsed_w2 {l : Launch} {G : smG} {P : Option Value → Hp → Prop} {a11 : Nat} {k43 : Hp → Option Hp} (hk43 : ∀  (s24 : Hp), OK jV (k43 s24) P → T l G RX4 cX4_creditUsed 2 (sm_rm 2 0 0) (sm_E none yX4_creditUsed.name) (sm_Qs G P 0 0) 0 0 43 [] [] s24) : ∀ (n : Nat) (i12 : Int32) (s13 : Hp), OK jV (D_X4_creditUsed_w2 a11 k43 n i12 s13) P → T l G RX4 cX4_creditUsed 2 (sm_rm 2 0 0) (sm_E none yX4_creditUsed.name) (sm_Qs G P 0 0) 0 0 2 [(0, .ref a11), (1, .int i12)] [] s13 := by
  intro n
  induction n with
  | zero => intro i12 s13 h; obtain ⟨_, h0, _⟩ := h; exact absurd h0 (by simp [D_X4_creditUsed_w2])
  | succ n14 ih =>
    intro i12 s13 h
    unfold D_X4_creditUsed_w2 at h
    refine T_iload_n dX4_creditUsed_2 rfl 1 rfl ?_
    refine T_aload_n dX4_creditUsed_3 rfl 0 rfl ?_
    refine T_getR dX4_creditUsed_4 fl_RX4_39 h (fun a15 h => ?_)
    refine T_getI dX4_creditUsed_7 fl_RX4_46 h (fun i16 h => ?_)
    refine T_icmp_ge 43 dX4_creditUsed_10 (by decide) h (fun _ h => ?_) (fun _ h => ?_)
    · refine T_lv (lv' := []) [] rfl ?_
      exact hk43 s13 h
    · refine T_aload_n dX4_creditUsed_13 rfl 0 rfl ?_
      refine T_iload_n dX4_creditUsed_14 rfl 1 rfl ?_
      refine T_callVI (As := [.int i12]) (rest := []) (b := a11) (ci := 4) dX4_creditUsed_15 mc_X4_isUsed mi_X4_isUsed ml_RX4_130 rfl (fun _ hr => chk_of hr) rfl rfl (Nat.le_of_ble_eq_true rfl) ⟨⟨Nat.le_of_ble_eq_true rfl, Nat.le_of_ble_eq_true rfl⟩, ⟨Nat.le_of_ble_eq_true rfl, Nat.le_of_ble_eq_true rfl⟩⟩ K_X4_isUsed h (fun i17 s18 h => ?_)
      refine T_if_eq 37 dX4_creditUsed_18 (by decide) h (fun _ h => ?_) (fun _ h => ?_)
      · refine T_iinc (i12 + 1) (lv' := [(1, .int (i12 + 1)), (0, .ref a11)]) dX4_creditUsed_37 (j := 1) rfl rfl (by decide) rfl ?_
        refine T_goto 2 dX4_creditUsed_40 (by decide) ?_
        refine T_lv (lv' := [(0, .ref a11), (1, .int (i12 + 1))]) [1, 0] rfl ?_
        exact ih (i12 + 1) s18 h
      · refine T_aload_n dX4_creditUsed_21 rfl 0 rfl ?_
        refine T_getR dX4_creditUsed_22 fl_RX4_39 h (fun a19 h => ?_)
        refine T_iload_n dX4_creditUsed_25 rfl 1 rfl ?_
        refine T_aload_n dX4_creditUsed_26 rfl 0 rfl ?_
        refine T_getR dX4_creditUsed_27 fl_RX4_23 h (fun a20 h => ?_)
        refine T_iload_n dX4_creditUsed_30 rfl 1 rfl ?_
        refine T_callVI (As := [.int i12]) (rest := [.int i12, .ref a19]) (b := a20) (ci := 1) dX4_creditUsed_31 mc_X1_read mi_X1_read ml_RX4_54 rfl (fun _ hr => chk_of hr) rfl rfl (Nat.le_of_ble_eq_true rfl) ⟨⟨Nat.le_of_ble_eq_true rfl, Nat.le_of_ble_eq_true rfl⟩, ⟨Nat.le_of_ble_eq_true rfl, Nat.le_of_ble_eq_true rfl⟩⟩ K_X1_read h (fun i21 s22 h => ?_)
        refine T_callVV (As := [.int i12, .int i21]) (rest := []) (b := a19) (ci := 2) dX4_creditUsed_34 mc_X2_credit mi_X2_credit ml_RX4_133 rfl (fun _ hr => chk_of hr) rfl rfl (Nat.le_of_ble_eq_true rfl) ⟨⟨Nat.le_of_ble_eq_true rfl, Nat.le_of_ble_eq_true rfl⟩, ⟨Nat.le_of_ble_eq_true rfl, Nat.le_of_ble_eq_true rfl⟩⟩ K_X2_credit h (fun s23 h => ?_)
        refine T_iinc (i12 + 1) (lv' := [(1, .int (i12 + 1)), (0, .ref a11)]) dX4_creditUsed_37 (j := 1) rfl rfl (by decide) rfl ?_
        refine T_goto 2 dX4_creditUsed_40 (by decide) ?_
        refine T_lv (lv' := [(0, .ref a11), (1, .int (i12 + 1))]) [1, 0] rfl ?_
        exact ih (i12 + 1) s23 h
set_option maxRecDepth 100000 in
set_option maxHeartbeats 4000000 in
theorem K_X4_creditUsed {l : Launch} {a0 : Nat} {s0 : Hp} : ∀ P, OK jV (D_X4_creditUsed a0 s0) P → sm_Ct l yX4_creditUsed cX4_creditUsed 2 none 2 0 0 [.ref a0] s0 P := by
  intro P h
  unfold D_X4_creditUsed at h
  obtain ⟨_, hb0, h⟩ := h.bind
  refine sm_enter (own := RX4) (lv := [(0, .ref a0)]) (by decide) rfl (Nat.le_of_ble_eq_true rfl) rfl (fun G => ?_)
  refine T_iconst (0 : Int32) dX4_creditUsed_0 (by decide) ?_
  refine T_istore_n (lv' := [(1, .int (0 : Int32)), (0, .ref a0)]) dX4_creditUsed_1 rfl (by decide) rfl ?_
  refine T_lv (lv' := [(0, .ref a0), (1, .int (0 : Int32))]) [1, 0] rfl ?_
  refine K_X4_creditUsed_w2 ?_ FU (0 : Int32) s0 h
  intro s25 h
  exact T_vreturn dX4_creditUsed_43 (Nat.le_of_ble_eq_true rfl) (Nat.le_of_ble_eq_true rfl) h

def D_X4_gift (a0 : Nat) (i1 : Int32) (i2 : Int32) (s0 : Hp) : Option (Int32 × Hp) :=
  (isO s0 a0 4).bind fun _ =>
  (getR s0 a0 4 0).bind fun a11 =>
  (getR s0 a11 2 1).bind fun a12 =>
  bd (D_X1_read a12 i1 s0) fun i13 s14 =>
  nm ((20 : Int32) + i13) fun i15 =>
  bd (D_X4_isBlocked a0 i1 s14) fun i16 s17 =>
  if i16 = 0 then
  bd (D_X4_shader a0 i1 i2 s17) fun i18 s19 =>
  if i18 = (-6 : Int32) then
  if 0 < i15 then
  (getR s19 a0 4 0).bind fun a20 =>
  (getR s19 a20 2 4).bind fun a21 =>
  bd (D_X1_read a21 i1 s19) fun i22 s23 =>
  bd (D_X8_height i2 s23) fun i24 s25 =>
  (divI ((((100 : Int32) - i22) * i24) * (20 : Int32)) i15).bind fun i26 =>
  (divI i26 (10 : Int32)).bind fun i27 =>
  some (i27, s25)
  else
  some ((0 : Int32), s19)
  else
  some ((0 : Int32), s19)
  else
  some ((0 : Int32), s17)
set_option maxRecDepth 100000 in
set_option maxHeartbeats 4000000 in
theorem K_X4_gift {l : Launch} {a0 : Nat} {i1 : Int32} {i2 : Int32} {s0 : Hp} : ∀ P, OK jI (D_X4_gift a0 i1 i2 s0) P → sm_Ct l yX4_gift cX4_gift 4 (some .int) 2 0 0 [.ref a0, .int i1, .int i2] s0 P := by
  intro P h
  unfold D_X4_gift at h
  obtain ⟨_, hb0, h⟩ := h.bind
  refine sm_enter (own := RX4) (lv := [(0, .ref a0), (1, .int i1), (2, .int i2)]) (by decide) rfl (Nat.le_of_ble_eq_true rfl) rfl (fun G => ?_)
  refine T_bipush (20 : Int32) dX4_gift_0 (by decide) ?_
  refine T_aload_n dX4_gift_2 rfl 0 rfl ?_
  refine T_getR dX4_gift_3 fl_RX4_39 h (fun a11 h => ?_)
  refine T_getR dX4_gift_6 fl_RX4_51 h (fun a12 h => ?_)
  refine T_iload_n dX4_gift_9 rfl 1 rfl ?_
  refine T_callVI (As := [.int i1]) (rest := [.int (20 : Int32)]) (b := a12) (ci := 1) dX4_gift_10 mc_X1_read mi_X1_read ml_RX4_54 rfl (fun _ hr => chk_of hr) rfl rfl (Nat.le_of_ble_eq_true rfl) ⟨⟨Nat.le_of_ble_eq_true rfl, Nat.le_of_ble_eq_true rfl⟩, ⟨Nat.le_of_ble_eq_true rfl, Nat.le_of_ble_eq_true rfl⟩⟩ K_X1_read h (fun i13 s14 h => ?_)
  refine T_iadd dX4_gift_13 ?_
  refine T_nm h (fun i15 h => ?_)
  refine T_istore_n (lv' := [(3, .int i15), (0, .ref a0), (1, .int i1), (2, .int i2)]) dX4_gift_14 rfl (by decide) rfl ?_
  refine T_aload_n dX4_gift_15 rfl 1 rfl ?_
  refine T_iload_n dX4_gift_16 rfl 2 rfl ?_
  refine T_callVI (As := [.int i1]) (rest := []) (b := a0) (ci := 4) dX4_gift_17 mc_X4_isBlocked mi_X4_isBlocked ml_RX4_100 rfl (fun _ hr => chk_of hr) rfl rfl (Nat.le_of_ble_eq_true rfl) ⟨⟨Nat.le_of_ble_eq_true rfl, Nat.le_of_ble_eq_true rfl⟩, ⟨Nat.le_of_ble_eq_true rfl, Nat.le_of_ble_eq_true rfl⟩⟩ K_X4_isBlocked h (fun i16 s17 h => ?_)
  refine T_if_ne 38 dX4_gift_20 (by decide) h (fun _ h => ?_) (fun _ h => ?_)
  · refine T_iconst (0 : Int32) dX4_gift_38 (by decide) ?_
    exact T_ireturn dX4_gift_39 (Nat.le_of_ble_eq_true rfl) (Nat.le_of_ble_eq_true rfl) h
  · refine T_aload_n dX4_gift_23 rfl 1 rfl ?_
    refine T_iload_n dX4_gift_24 rfl 2 rfl ?_
    refine T_iload_n dX4_gift_25 rfl 3 rfl ?_
    refine T_callVI (As := [.int i1, .int i2]) (rest := []) (b := a0) (ci := 4) dX4_gift_26 mc_X4_shader mi_X4_shader ml_RX4_103 rfl (fun _ hr => chk_of hr) rfl rfl (Nat.le_of_ble_eq_true rfl) ⟨⟨Nat.le_of_ble_eq_true rfl, Nat.le_of_ble_eq_true rfl⟩, ⟨Nat.le_of_ble_eq_true rfl, Nat.le_of_ble_eq_true rfl⟩⟩ K_X4_shader h (fun i18 s19 h => ?_)
    refine T_bipush (-6 : Int32) dX4_gift_29 (by decide) ?_
    refine T_icmp_ne 38 dX4_gift_31 (by decide) h (fun _ h => ?_) (fun _ h => ?_)
    · refine T_iconst (0 : Int32) dX4_gift_38 (by decide) ?_
      exact T_ireturn dX4_gift_39 (Nat.le_of_ble_eq_true rfl) (Nat.le_of_ble_eq_true rfl) h
    · refine T_iload_n dX4_gift_34 rfl 0 rfl ?_
      refine T_if_gt 40 dX4_gift_35 (by decide) h (fun _ h => ?_) (fun _ h => ?_)
      · refine T_bipush (100 : Int32) dX4_gift_40 (by decide) ?_
        refine T_aload_n dX4_gift_42 rfl 1 rfl ?_
        refine T_getR dX4_gift_43 fl_RX4_39 h (fun a20 h => ?_)
        refine T_getR dX4_gift_46 fl_RX4_106 h (fun a21 h => ?_)
        refine T_iload_n dX4_gift_49 rfl 2 rfl ?_
        refine T_callVI (As := [.int i1]) (rest := [.int (100 : Int32)]) (b := a21) (ci := 1) dX4_gift_50 mc_X1_read mi_X1_read ml_RX4_54 rfl (fun _ hr => chk_of hr) rfl rfl (Nat.le_of_ble_eq_true rfl) ⟨⟨Nat.le_of_ble_eq_true rfl, Nat.le_of_ble_eq_true rfl⟩, ⟨Nat.le_of_ble_eq_true rfl, Nat.le_of_ble_eq_true rfl⟩⟩ K_X1_read h (fun i22 s23 h => ?_)
        refine T_isub dX4_gift_53 ?_
        refine T_iload_n dX4_gift_54 rfl 3 rfl ?_
        refine T_callSI (As := [.int i2]) (rest := [.int ((100 : Int32) - i22)]) dX4_gift_55 mc_X8_height mi_X8_height ml_RX4_76 rfl rfl (Nat.le_of_ble_eq_true rfl) ⟨⟨Nat.le_of_ble_eq_true rfl, Nat.le_of_ble_eq_true rfl⟩, ⟨Nat.le_of_ble_eq_true rfl, Nat.le_of_ble_eq_true rfl⟩⟩ K_X8_height h (fun i24 s25 h => ?_)
        refine T_imul dX4_gift_58 ?_
        refine T_bipush (20 : Int32) dX4_gift_59 (by decide) ?_
        refine T_imul dX4_gift_61 ?_
        refine T_iload_n dX4_gift_62 rfl 0 rfl ?_
        refine T_idiv dX4_gift_63 h (fun i26 h => ?_)
        refine T_bipush (10 : Int32) dX4_gift_64 (by decide) ?_
        refine T_idiv dX4_gift_66 h (fun i27 h => ?_)
        exact T_ireturn dX4_gift_67 (Nat.le_of_ble_eq_true rfl) (Nat.le_of_ble_eq_true rfl) h
      · refine T_iconst (0 : Int32) dX4_gift_38 (by decide) ?_
        exact T_ireturn dX4_gift_39 (Nat.le_of_ble_eq_true rfl) (Nat.le_of_ble_eq_true rfl) h

def D_X4_hasBlocker_w33 (a20 : Nat) (i21 : Int32) (i22 : Int32) (i23 : Int32) (k91 : Hp → Option (Int32 × Hp)) : Nat → Int32 → Hp → Option (Int32 × Hp)
  | 0, _, _ => none
  | n26 + 1, i24, s25 =>
  if (4 : Int32) < i24 then
  k91 s25
  else
  if i23 ≤ i24 then
  k91 s25
  else
  nm (((10 : Int32) - i22) * i24) fun i27 =>
  (remI i27 i23).bind fun i28 =>
  if i28 = 0 then
  (divI i27 i23).bind fun i29 =>
  bd (D_X4_inPlace a20 (i21 - i24) (i22 + i29) s25) fun i30 s31 =>
  if i30 = (-6 : Int32) then
  D_X4_hasBlocker_w33 a20 i21 i22 i23 k91 n26 (i24 + 1) s31
  else
  retZ (1 : Int32) ((1 : Int32), s31)
  else
  D_X4_hasBlocker_w33 a20 i21 i22 i23 k91 n26 (i24 + 1) s25
def D_X4_hasBlocker (a0 : Nat) (i1 : Int32) (s0 : Hp) : Option (Int32 × Hp) :=
  (isO s0 a0 4).bind fun _ =>
  (getR s0 a0 4 0).bind fun a11 =>
  (getR s0 a11 2 1).bind fun a12 =>
  bd (D_X1_read a12 i1 s0) fun i13 s14 =>
  (getR s14 a0 4 0).bind fun a15 =>
  (getR s14 a15 2 2).bind fun a16 =>
  bd (D_X1_read a16 i1 s14) fun i17 s18 =>
  nm (i13 - (-2 : Int32)) fun i19 =>
  D_X4_hasBlocker_w33 a0 i13 i17 i19 (fun s33 =>
  retZ (0 : Int32) ((0 : Int32), s33)
  ) FU (1 : Int32) s18
set_option maxRecDepth 100000 in
set_option maxHeartbeats 4000000 in
theorem K_X4_hasBlocker_w33 {l : Launch} {G : smG} {P : Option Value → Hp → Prop} {a20 : Nat} {i21 : Int32} {i22 : Int32} {i23 : Int32} {k91 : Hp → Option (Int32 × Hp)} (hk91 : ∀  (s32 : Hp), OK jI (k91 s32) P → T l G RX4 cX4_hasBlocker 7 (sm_rm 2 0 0) (sm_E (some .boolean) yX4_hasBlocker.name) (sm_Qs G P 0 0) 0 0 91 [] [] s32) : ∀ (n : Nat) (i24 : Int32) (s25 : Hp), OK jI (D_X4_hasBlocker_w33 a20 i21 i22 i23 k91 n i24 s25) P → T l G RX4 cX4_hasBlocker 7 (sm_rm 2 0 0) (sm_E (some .boolean) yX4_hasBlocker.name) (sm_Qs G P 0 0) 0 0 33 [(0, .ref a20), (2, .int i21), (3, .int i22), (4, .int i23), (5, .int i24)] [] s25 := by
  intro n
  induction n with
  | zero => intro i24 s25 h; obtain ⟨_, h0, _⟩ := h; exact absurd h0 (by simp [D_X4_hasBlocker_w33])
  | succ n26 ih =>
    intro i24 s25 h
    unfold D_X4_hasBlocker_w33 at h
    refine T_iload dX4_hasBlocker_33 4 rfl ?_
    refine T_iconst (4 : Int32) dX4_hasBlocker_35 (by decide) ?_
    refine T_icmp_gt 91 dX4_hasBlocker_36 (by decide) h (fun _ h => ?_) (fun _ h => ?_)
    · refine T_lv (lv' := []) [] rfl ?_
      exact hk91 s25 h
    · refine T_iload dX4_hasBlocker_39 4 rfl ?_
      refine T_iload dX4_hasBlocker_41 3 rfl ?_
      refine T_icmp_ge 91 dX4_hasBlocker_43 (by decide) h (fun _ h => ?_) (fun _ h => ?_)
      · refine T_lv (lv' := []) [] rfl ?_
        exact hk91 s25 h
      · refine T_bipush (10 : Int32) dX4_hasBlocker_46 (by decide) ?_
        refine T_iload_n dX4_hasBlocker_48 rfl 2 rfl ?_
        refine T_isub dX4_hasBlocker_49 ?_
        refine T_iload dX4_hasBlocker_50 4 rfl ?_
        refine T_imul dX4_hasBlocker_52 ?_
        refine T_nm h (fun i27 h => ?_)
        refine T_istore (lv' := [(6, .int i27), (0, .ref a20), (2, .int i21), (3, .int i22), (4, .int i23), (5, .int i24)]) dX4_hasBlocker_53 (by decide) rfl ?_
        refine T_iload dX4_hasBlocker_55 0 rfl ?_
        refine T_iload dX4_hasBlocker_57 4 rfl ?_
        refine T_irem dX4_hasBlocker_59 h (fun i28 h => ?_)
        refine T_if_ne 85 dX4_hasBlocker_60 (by decide) h (fun _ h => ?_) (fun _ h => ?_)
        · refine T_iinc (i24 + 1) (lv' := [(5, .int (i24 + 1)), (6, .int i27), (0, .ref a20), (2, .int i21), (3, .int i22), (4, .int i23)]) dX4_hasBlocker_85 (j := 5) rfl rfl (by decide) rfl ?_
          refine T_goto 33 dX4_hasBlocker_88 (by decide) ?_
          refine T_lv (lv' := [(0, .ref a20), (2, .int i21), (3, .int i22), (4, .int i23), (5, .int (i24 + 1))]) [2, 3, 4, 5, 0] rfl ?_
          exact ih (i24 + 1) s25 h
        · refine T_aload_n dX4_hasBlocker_63 rfl 1 rfl ?_
          refine T_iload_n dX4_hasBlocker_64 rfl 2 rfl ?_
          refine T_iload dX4_hasBlocker_65 5 rfl ?_
          refine T_isub dX4_hasBlocker_67 ?_
          refine T_iload_n dX4_hasBlocker_68 rfl 3 rfl ?_
          refine T_iload dX4_hasBlocker_69 0 rfl ?_
          refine T_iload dX4_hasBlocker_71 4 rfl ?_
          refine T_idiv dX4_hasBlocker_73 h (fun i29 h => ?_)
          refine T_iadd dX4_hasBlocker_74 ?_
          refine T_callVI (As := [.int (i21 - i24), .int (i22 + i29)]) (rest := []) (b := a20) (ci := 4) dX4_hasBlocker_75 mc_X4_inPlace mi_X4_inPlace ml_RX4_73 rfl (fun _ hr => chk_of hr) rfl rfl (Nat.le_of_ble_eq_true rfl) ⟨⟨Nat.le_of_ble_eq_true rfl, Nat.le_of_ble_eq_true rfl⟩, ⟨Nat.le_of_ble_eq_true rfl, Nat.le_of_ble_eq_true rfl⟩⟩ K_X4_inPlace h (fun i30 s31 h => ?_)
          refine T_bipush (-6 : Int32) dX4_hasBlocker_78 (by decide) ?_
          refine T_icmp_eq 85 dX4_hasBlocker_80 (by decide) h (fun _ h => ?_) (fun _ h => ?_)
          · refine T_iinc (i24 + 1) (lv' := [(5, .int (i24 + 1)), (6, .int i27), (0, .ref a20), (2, .int i21), (3, .int i22), (4, .int i23)]) dX4_hasBlocker_85 (j := 5) rfl rfl (by decide) rfl ?_
            refine T_goto 33 dX4_hasBlocker_88 (by decide) ?_
            refine T_lv (lv' := [(0, .ref a20), (2, .int i21), (3, .int i22), (4, .int i23), (5, .int (i24 + 1))]) [2, 3, 4, 5, 0] rfl ?_
            exact ih (i24 + 1) s31 h
          · refine T_iconst (1 : Int32) dX4_hasBlocker_83 (by decide) ?_
            exact T_zreturn dX4_hasBlocker_84 (Nat.le_of_ble_eq_true rfl) (Nat.le_of_ble_eq_true rfl) h
set_option maxRecDepth 100000 in
set_option maxHeartbeats 4000000 in
theorem K_X4_hasBlocker {l : Launch} {a0 : Nat} {i1 : Int32} {s0 : Hp} : ∀ P, OK jI (D_X4_hasBlocker a0 i1 s0) P → sm_Ct l yX4_hasBlocker cX4_hasBlocker 7 (some .boolean) 2 0 0 [.ref a0, .int i1] s0 P := by
  intro P h
  unfold D_X4_hasBlocker at h
  obtain ⟨_, hb0, h⟩ := h.bind
  refine sm_enter (own := RX4) (lv := [(0, .ref a0), (1, .int i1)]) (by decide) rfl (Nat.le_of_ble_eq_true rfl) rfl (fun G => ?_)
  refine T_aload_n dX4_hasBlocker_0 rfl 0 rfl ?_
  refine T_getR dX4_hasBlocker_1 fl_RX4_39 h (fun a11 h => ?_)
  refine T_getR dX4_hasBlocker_4 fl_RX4_51 h (fun a12 h => ?_)
  refine T_iload_n dX4_hasBlocker_7 rfl 1 rfl ?_
  refine T_callVI (As := [.int i1]) (rest := []) (b := a12) (ci := 1) dX4_hasBlocker_8 mc_X1_read mi_X1_read ml_RX4_54 rfl (fun _ hr => chk_of hr) rfl rfl (Nat.le_of_ble_eq_true rfl) ⟨⟨Nat.le_of_ble_eq_true rfl, Nat.le_of_ble_eq_true rfl⟩, ⟨Nat.le_of_ble_eq_true rfl, Nat.le_of_ble_eq_true rfl⟩⟩ K_X1_read h (fun i13 s14 h => ?_)
  refine T_istore_n (lv' := [(2, .int i13), (0, .ref a0), (1, .int i1)]) dX4_hasBlocker_11 rfl (by decide) rfl ?_
  refine T_aload_n dX4_hasBlocker_12 rfl 1 rfl ?_
  refine T_getR dX4_hasBlocker_13 fl_RX4_39 h (fun a15 h => ?_)
  refine T_getR dX4_hasBlocker_16 fl_RX4_58 h (fun a16 h => ?_)
  refine T_iload_n dX4_hasBlocker_19 rfl 2 rfl ?_
  refine T_callVI (As := [.int i1]) (rest := []) (b := a16) (ci := 1) dX4_hasBlocker_20 mc_X1_read mi_X1_read ml_RX4_54 rfl (fun _ hr => chk_of hr) rfl rfl (Nat.le_of_ble_eq_true rfl) ⟨⟨Nat.le_of_ble_eq_true rfl, Nat.le_of_ble_eq_true rfl⟩, ⟨Nat.le_of_ble_eq_true rfl, Nat.le_of_ble_eq_true rfl⟩⟩ K_X1_read h (fun i17 s18 h => ?_)
  refine T_istore_n (lv' := [(3, .int i17), (2, .int i13), (0, .ref a0), (1, .int i1)]) dX4_hasBlocker_23 rfl (by decide) rfl ?_
  refine T_iload_n dX4_hasBlocker_24 rfl 1 rfl ?_
  refine T_bipush (-2 : Int32) dX4_hasBlocker_25 (by decide) ?_
  refine T_isub dX4_hasBlocker_27 ?_
  refine T_nm h (fun i19 h => ?_)
  refine T_istore (lv' := [(4, .int i19), (3, .int i17), (2, .int i13), (0, .ref a0), (1, .int i1)]) dX4_hasBlocker_28 (by decide) rfl ?_
  refine T_iconst (1 : Int32) dX4_hasBlocker_30 (by decide) ?_
  refine T_istore (lv' := [(5, .int (1 : Int32)), (4, .int i19), (3, .int i17), (2, .int i13), (0, .ref a0), (1, .int i1)]) dX4_hasBlocker_31 (by decide) rfl ?_
  refine T_lv (lv' := [(0, .ref a0), (2, .int i13), (3, .int i17), (4, .int i19), (5, .int (1 : Int32))]) [4, 3, 2, 1, 0] rfl ?_
  refine K_X4_hasBlocker_w33 ?_ FU (1 : Int32) s18 h
  intro s33 h
  refine T_iconst (0 : Int32) dX4_hasBlocker_91 (by decide) ?_
  exact T_zreturn dX4_hasBlocker_92 (Nat.le_of_ble_eq_true rfl) (Nat.le_of_ble_eq_true rfl) h

def D_X4_init (a0 : Nat) (a1 : Nat) (s0 : Hp) : Option Hp :=
  (isO s0 a0 4).bind fun _ =>
  nm (newO s0 1 [.null]) fun s11 =>
  (D_X1_init s0.1 (400 : Int32) s11).bind fun s12 =>
  (putV s12 a0 4 1 (.ref s0.1)).bind fun s13 =>
  nm (newO s13 1 [.null]) fun s14 =>
  (D_X1_init s13.1 (275 : Int32) s14).bind fun s15 =>
  (putV s15 a0 4 2 (.ref s13.1)).bind fun s16 =>
  nm (newO s16 1 [.null]) fun s17 =>
  (D_X1_init s16.1 (25 : Int32) s17).bind fun s18 =>
  (putV s18 a0 4 3 (.ref s16.1)).bind fun s19 =>
  nm (newO s19 1 [.null]) fun s20 =>
  (D_X1_init s19.1 (25 : Int32) s20).bind fun s21 =>
  (putV s21 a0 4 4 (.ref s19.1)).bind fun s22 =>
  nm (newO s22 1 [.null]) fun s23 =>
  (D_X1_init s22.1 (4 : Int32) s23).bind fun s24 =>
  (putV s24 a0 4 5 (.ref s22.1)).bind fun s25 =>
  (putI s25 a0 4 6 (0 : Int32)).bind fun s26 =>
  (putI s26 a0 4 7 (0 : Int32)).bind fun s27 =>
  (putV s27 a0 4 0 (.ref a1)).bind fun s28 =>
  some s28
set_option maxRecDepth 100000 in
set_option maxHeartbeats 4000000 in
theorem K_X4_init {l : Launch} {a0 : Nat} {a1 : Nat} {s0 : Hp} : ∀ P, OK jV (D_X4_init a0 a1 s0) P → sm_Ct l yX4_init cX4_init 2 none 2 10 4005 [.ref a0, .ref a1] s0 P := by
  intro P h
  unfold D_X4_init at h
  obtain ⟨_, hb0, h⟩ := h.bind
  refine sm_enter (own := RX4) (lv := [(0, .ref a0), (1, .ref a1)]) (by decide) rfl (Nat.le_of_ble_eq_true rfl) rfl (fun G => ?_)
  refine T_aload_n dX4_init_0 rfl 0 rfl ?_
  refine T_objInit dX4_init_1 ml_RX4_3 wd_1_7 wd_1_8 ⟨Nat.le_of_ble_eq_true rfl, Nat.le_of_ble_eq_true rfl⟩ ?_
  refine T_aload_n dX4_init_4 rfl 0 rfl ?_
  refine T_newO (C := RX1) (ci := 1) (fs := [.null]) dX4_init_5 wd_4_1 wd_2_19 wd_2_20 ⟨TX1, tyX1, rfl, inlX1, tyX1_ok, by decide +kernel⟩ (Nat.le_of_ble_eq_true rfl) (Nat.le_of_ble_eq_true rfl) ?_
  refine T_nh h (fun s11 h => ?_)
  refine T_dup dX4_init_8 rfl ?_
  refine T_sipush (400 : Int32) dX4_init_9 (by decide) ?_
  refine T_callIV (As := [.int (400 : Int32)]) (rest := [.ref s0.1, .ref a0]) (b := s0.1) dX4_init_12 mc_X1_init mi_X1_init ml_RX4_11 rfl rfl (Nat.le_of_ble_eq_true rfl) ⟨⟨Nat.le_of_ble_eq_true rfl, Nat.le_of_ble_eq_true rfl⟩, ⟨Nat.le_of_ble_eq_true rfl, Nat.le_of_ble_eq_true rfl⟩⟩ K_X1_init h (fun s12 h => ?_)
  refine T_putF (rt := none) rfl dX4_init_15 fl_RX4_14 ft_4_1 rfl rfl rfl h (fun s13 h => ?_)
  refine T_aload_n dX4_init_18 rfl 0 rfl ?_
  refine T_newO (C := RX1) (ci := 1) (fs := [.null]) dX4_init_19 wd_4_1 wd_2_19 wd_2_20 ⟨TX1, tyX1, rfl, inlX1, tyX1_ok, by decide +kernel⟩ (Nat.le_of_ble_eq_true rfl) (Nat.le_of_ble_eq_true rfl) ?_
  refine T_nh h (fun s14 h => ?_)
  refine T_dup dX4_init_22 rfl ?_
  refine T_sipush (275 : Int32) dX4_init_23 (by decide) ?_
  refine T_callIV (As := [.int (275 : Int32)]) (rest := [.ref s13.1, .ref a0]) (b := s13.1) dX4_init_26 mc_X1_init mi_X1_init ml_RX4_11 rfl rfl (Nat.le_of_ble_eq_true rfl) ⟨⟨Nat.le_of_ble_eq_true rfl, Nat.le_of_ble_eq_true rfl⟩, ⟨Nat.le_of_ble_eq_true rfl, Nat.le_of_ble_eq_true rfl⟩⟩ K_X1_init h (fun s15 h => ?_)
  refine T_putF (rt := none) rfl dX4_init_29 fl_RX4_20 ft_4_2 rfl rfl rfl h (fun s16 h => ?_)
  refine T_aload_n dX4_init_32 rfl 0 rfl ?_
  refine T_newO (C := RX1) (ci := 1) (fs := [.null]) dX4_init_33 wd_4_1 wd_2_19 wd_2_20 ⟨TX1, tyX1, rfl, inlX1, tyX1_ok, by decide +kernel⟩ (Nat.le_of_ble_eq_true rfl) (Nat.le_of_ble_eq_true rfl) ?_
  refine T_nh h (fun s17 h => ?_)
  refine T_dup dX4_init_36 rfl ?_
  refine T_bipush (25 : Int32) dX4_init_37 (by decide) ?_
  refine T_callIV (As := [.int (25 : Int32)]) (rest := [.ref s16.1, .ref a0]) (b := s16.1) dX4_init_39 mc_X1_init mi_X1_init ml_RX4_11 rfl rfl (Nat.le_of_ble_eq_true rfl) ⟨⟨Nat.le_of_ble_eq_true rfl, Nat.le_of_ble_eq_true rfl⟩, ⟨Nat.le_of_ble_eq_true rfl, Nat.le_of_ble_eq_true rfl⟩⟩ K_X1_init h (fun s18 h => ?_)
  refine T_putF (rt := none) rfl dX4_init_42 fl_RX4_23 ft_4_3 rfl rfl rfl h (fun s19 h => ?_)
  refine T_aload_n dX4_init_45 rfl 0 rfl ?_
  refine T_newO (C := RX1) (ci := 1) (fs := [.null]) dX4_init_46 wd_4_1 wd_2_19 wd_2_20 ⟨TX1, tyX1, rfl, inlX1, tyX1_ok, by decide +kernel⟩ (Nat.le_of_ble_eq_true rfl) (Nat.le_of_ble_eq_true rfl) ?_
  refine T_nh h (fun s20 h => ?_)
  refine T_dup dX4_init_49 rfl ?_
  refine T_bipush (25 : Int32) dX4_init_50 (by decide) ?_
  refine T_callIV (As := [.int (25 : Int32)]) (rest := [.ref s19.1, .ref a0]) (b := s19.1) dX4_init_52 mc_X1_init mi_X1_init ml_RX4_11 rfl rfl (Nat.le_of_ble_eq_true rfl) ⟨⟨Nat.le_of_ble_eq_true rfl, Nat.le_of_ble_eq_true rfl⟩, ⟨Nat.le_of_ble_eq_true rfl, Nat.le_of_ble_eq_true rfl⟩⟩ K_X1_init h (fun s21 h => ?_)
  refine T_putF (rt := none) rfl dX4_init_55 fl_RX4_26 ft_4_4 rfl rfl rfl h (fun s22 h => ?_)
  refine T_aload_n dX4_init_58 rfl 0 rfl ?_
  refine T_newO (C := RX1) (ci := 1) (fs := [.null]) dX4_init_59 wd_4_1 wd_2_19 wd_2_20 ⟨TX1, tyX1, rfl, inlX1, tyX1_ok, by decide +kernel⟩ (Nat.le_of_ble_eq_true rfl) (Nat.le_of_ble_eq_true rfl) ?_
  refine T_nh h (fun s23 h => ?_)
  refine T_dup dX4_init_62 rfl ?_
  refine T_iconst (4 : Int32) dX4_init_63 (by decide) ?_
  refine T_callIV (As := [.int (4 : Int32)]) (rest := [.ref s22.1, .ref a0]) (b := s22.1) dX4_init_64 mc_X1_init mi_X1_init ml_RX4_11 rfl rfl (Nat.le_of_ble_eq_true rfl) ⟨⟨Nat.le_of_ble_eq_true rfl, Nat.le_of_ble_eq_true rfl⟩, ⟨Nat.le_of_ble_eq_true rfl, Nat.le_of_ble_eq_true rfl⟩⟩ K_X1_init h (fun s24 h => ?_)
  refine T_putF (rt := none) rfl dX4_init_67 fl_RX4_29 ft_4_5 rfl rfl rfl h (fun s25 h => ?_)
  refine T_aload_n dX4_init_70 rfl 0 rfl ?_
  refine T_iconst (0 : Int32) dX4_init_71 (by decide) ?_
  refine T_putI dX4_init_72 fl_RX4_32 ft_4_6 h (fun s26 h => ?_)
  refine T_aload_n dX4_init_75 rfl 0 rfl ?_
  refine T_iconst (0 : Int32) dX4_init_76 (by decide) ?_
  refine T_putI dX4_init_77 fl_RX4_36 ft_4_7 h (fun s27 h => ?_)
  refine T_aload_n dX4_init_80 rfl 0 rfl ?_
  refine T_aload_n dX4_init_81 rfl 1 rfl ?_
  refine T_putF (rt := none) rfl dX4_init_82 fl_RX4_39 ft_4_0 rfl rfl rfl h (fun s28 h => ?_)
  exact T_vreturn dX4_init_85 (Nat.le_of_ble_eq_true rfl) (Nat.le_of_ble_eq_true rfl) h

def D_X4_nearestShader_w34 (a21 : Nat) (i22 : Int32) (i23 : Int32) (i24 : Int32) (i25 : Int32) (k87 : Hp → Option (Int32 × Hp)) : Nat → Int32 → Hp → Option (Int32 × Hp)
  | 0, _, _ => none
  | n28 + 1, i26, s27 =>
  if (6 : Int32) < i26 then
  k87 s27
  else
  if (6 : Int32) < (i26 * i25) then
  k87 s27
  else
  bd (D_X8_columns i22 s27) fun i29 s30 =>
  bd (D_X4_inPlace a21 (i23 - i26) (i24 + (i26 * i29)) s30) fun i31 s32 =>
  if i31 = (-6 : Int32) then
  D_X4_nearestShader_w34 a21 i22 i23 i24 i25 k87 n28 (i26 + 1) s32
  else
  some (i31, s32)
def D_X4_nearestShader (a0 : Nat) (i1 : Int32) (i2 : Int32) (s0 : Hp) : Option (Int32 × Hp) :=
  (isO s0 a0 4).bind fun _ =>
  (getR s0 a0 4 0).bind fun a11 =>
  (getR s0 a11 2 1).bind fun a12 =>
  bd (D_X1_read a12 i1 s0) fun i13 s14 =>
  (getR s14 a0 4 0).bind fun a15 =>
  (getR s14 a15 2 2).bind fun a16 =>
  bd (D_X1_read a16 i1 s14) fun i17 s18 =>
  bd (D_X8_height i2 s18) fun i19 s20 =>
  D_X4_nearestShader_w34 a0 i2 i13 i17 i19 (fun s34 =>
  some ((-6 : Int32), s34)
  ) FU (1 : Int32) s20
set_option maxRecDepth 100000 in
set_option maxHeartbeats 4000000 in
theorem K_X4_nearestShader_w34 {l : Launch} {G : smG} {P : Option Value → Hp → Prop} {a21 : Nat} {i22 : Int32} {i23 : Int32} {i24 : Int32} {i25 : Int32} {k87 : Hp → Option (Int32 × Hp)} (hk87 : ∀  (s33 : Hp), OK jI (k87 s33) P → T l G RX4 cX4_nearestShader 8 (sm_rm 2 0 0) (sm_E (some .int) yX4_nearestShader.name) (sm_Qs G P 0 0) 0 0 87 [] [] s33) : ∀ (n : Nat) (i26 : Int32) (s27 : Hp), OK jI (D_X4_nearestShader_w34 a21 i22 i23 i24 i25 k87 n i26 s27) P → T l G RX4 cX4_nearestShader 8 (sm_rm 2 0 0) (sm_E (some .int) yX4_nearestShader.name) (sm_Qs G P 0 0) 0 0 34 [(0, .ref a21), (2, .int i22), (3, .int i23), (4, .int i24), (5, .int i25), (6, .int i26)] [] s27 := by
  intro n
  induction n with
  | zero => intro i26 s27 h; obtain ⟨_, h0, _⟩ := h; exact absurd h0 (by simp [D_X4_nearestShader_w34])
  | succ n28 ih =>
    intro i26 s27 h
    unfold D_X4_nearestShader_w34 at h
    refine T_iload dX4_nearestShader_34 5 rfl ?_
    refine T_bipush (6 : Int32) dX4_nearestShader_36 (by decide) ?_
    refine T_icmp_gt 87 dX4_nearestShader_38 (by decide) h (fun _ h => ?_) (fun _ h => ?_)
    · refine T_lv (lv' := []) [] rfl ?_
      exact hk87 s27 h
    · refine T_iload dX4_nearestShader_41 5 rfl ?_
      refine T_iload dX4_nearestShader_43 4 rfl ?_
      refine T_imul dX4_nearestShader_45 ?_
      refine T_bipush (6 : Int32) dX4_nearestShader_46 (by decide) ?_
      refine T_icmp_gt 87 dX4_nearestShader_48 (by decide) h (fun _ h => ?_) (fun _ h => ?_)
      · refine T_lv (lv' := []) [] rfl ?_
        exact hk87 s27 h
      · refine T_aload_n dX4_nearestShader_51 rfl 0 rfl ?_
        refine T_iload_n dX4_nearestShader_52 rfl 2 rfl ?_
        refine T_iload dX4_nearestShader_53 5 rfl ?_
        refine T_isub dX4_nearestShader_55 ?_
        refine T_iload dX4_nearestShader_56 3 rfl ?_
        refine T_iload dX4_nearestShader_58 5 rfl ?_
        refine T_iload_n dX4_nearestShader_60 rfl 1 rfl ?_
        refine T_callSI (As := [.int i22]) (rest := [.int i26, .int i24, .int (i23 - i26), .ref a21]) dX4_nearestShader_61 mc_X8_columns mi_X8_columns ml_RX4_81 rfl rfl (Nat.le_of_ble_eq_true rfl) ⟨⟨Nat.le_of_ble_eq_true rfl, Nat.le_of_ble_eq_true rfl⟩, ⟨Nat.le_of_ble_eq_true rfl, Nat.le_of_ble_eq_true rfl⟩⟩ K_X8_columns h (fun i29 s30 h => ?_)
        refine T_imul dX4_nearestShader_64 ?_
        refine T_iadd dX4_nearestShader_65 ?_
        refine T_callVI (As := [.int (i23 - i26), .int (i24 + (i26 * i29))]) (rest := []) (b := a21) (ci := 4) dX4_nearestShader_66 mc_X4_inPlace mi_X4_inPlace ml_RX4_73 rfl (fun _ hr => chk_of hr) rfl rfl (Nat.le_of_ble_eq_true rfl) ⟨⟨Nat.le_of_ble_eq_true rfl, Nat.le_of_ble_eq_true rfl⟩, ⟨Nat.le_of_ble_eq_true rfl, Nat.le_of_ble_eq_true rfl⟩⟩ K_X4_inPlace h (fun i31 s32 h => ?_)
        refine T_istore (lv' := [(7, .int i31), (0, .ref a21), (2, .int i22), (3, .int i23), (4, .int i24), (5, .int i25), (6, .int i26)]) dX4_nearestShader_69 (by decide) rfl ?_
        refine T_iload dX4_nearestShader_71 0 rfl ?_
        refine T_bipush (-6 : Int32) dX4_nearestShader_73 (by decide) ?_
        refine T_icmp_eq 81 dX4_nearestShader_75 (by decide) h (fun _ h => ?_) (fun _ h => ?_)
        · refine T_iinc (i26 + 1) (lv' := [(6, .int (i26 + 1)), (7, .int i31), (0, .ref a21), (2, .int i22), (3, .int i23), (4, .int i24), (5, .int i25)]) dX4_nearestShader_81 (j := 6) rfl rfl (by decide) rfl ?_
          refine T_goto 34 dX4_nearestShader_84 (by decide) ?_
          refine T_lv (lv' := [(0, .ref a21), (2, .int i22), (3, .int i23), (4, .int i24), (5, .int i25), (6, .int (i26 + 1))]) [2, 3, 4, 5, 6, 0] rfl ?_
          exact ih (i26 + 1) s32 h
        · refine T_iload dX4_nearestShader_78 0 rfl ?_
          exact T_ireturn dX4_nearestShader_80 (Nat.le_of_ble_eq_true rfl) (Nat.le_of_ble_eq_true rfl) h
set_option maxRecDepth 100000 in
set_option maxHeartbeats 4000000 in
theorem K_X4_nearestShader {l : Launch} {a0 : Nat} {i1 : Int32} {i2 : Int32} {s0 : Hp} : ∀ P, OK jI (D_X4_nearestShader a0 i1 i2 s0) P → sm_Ct l yX4_nearestShader cX4_nearestShader 8 (some .int) 2 0 0 [.ref a0, .int i1, .int i2] s0 P := by
  intro P h
  unfold D_X4_nearestShader at h
  obtain ⟨_, hb0, h⟩ := h.bind
  refine sm_enter (own := RX4) (lv := [(0, .ref a0), (1, .int i1), (2, .int i2)]) (by decide) rfl (Nat.le_of_ble_eq_true rfl) rfl (fun G => ?_)
  refine T_aload_n dX4_nearestShader_0 rfl 0 rfl ?_
  refine T_getR dX4_nearestShader_1 fl_RX4_39 h (fun a11 h => ?_)
  refine T_getR dX4_nearestShader_4 fl_RX4_51 h (fun a12 h => ?_)
  refine T_iload_n dX4_nearestShader_7 rfl 1 rfl ?_
  refine T_callVI (As := [.int i1]) (rest := []) (b := a12) (ci := 1) dX4_nearestShader_8 mc_X1_read mi_X1_read ml_RX4_54 rfl (fun _ hr => chk_of hr) rfl rfl (Nat.le_of_ble_eq_true rfl) ⟨⟨Nat.le_of_ble_eq_true rfl, Nat.le_of_ble_eq_true rfl⟩, ⟨Nat.le_of_ble_eq_true rfl, Nat.le_of_ble_eq_true rfl⟩⟩ K_X1_read h (fun i13 s14 h => ?_)
  refine T_istore_n (lv' := [(3, .int i13), (0, .ref a0), (1, .int i1), (2, .int i2)]) dX4_nearestShader_11 rfl (by decide) rfl ?_
  refine T_aload_n dX4_nearestShader_12 rfl 1 rfl ?_
  refine T_getR dX4_nearestShader_13 fl_RX4_39 h (fun a15 h => ?_)
  refine T_getR dX4_nearestShader_16 fl_RX4_58 h (fun a16 h => ?_)
  refine T_iload_n dX4_nearestShader_19 rfl 2 rfl ?_
  refine T_callVI (As := [.int i1]) (rest := []) (b := a16) (ci := 1) dX4_nearestShader_20 mc_X1_read mi_X1_read ml_RX4_54 rfl (fun _ hr => chk_of hr) rfl rfl (Nat.le_of_ble_eq_true rfl) ⟨⟨Nat.le_of_ble_eq_true rfl, Nat.le_of_ble_eq_true rfl⟩, ⟨Nat.le_of_ble_eq_true rfl, Nat.le_of_ble_eq_true rfl⟩⟩ K_X1_read h (fun i17 s18 h => ?_)
  refine T_istore (lv' := [(4, .int i17), (3, .int i13), (0, .ref a0), (1, .int i1), (2, .int i2)]) dX4_nearestShader_23 (by decide) rfl ?_
  refine T_iload_n dX4_nearestShader_25 rfl 4 rfl ?_
  refine T_callSI (As := [.int i2]) (rest := []) dX4_nearestShader_26 mc_X8_height mi_X8_height ml_RX4_76 rfl rfl (Nat.le_of_ble_eq_true rfl) ⟨⟨Nat.le_of_ble_eq_true rfl, Nat.le_of_ble_eq_true rfl⟩, ⟨Nat.le_of_ble_eq_true rfl, Nat.le_of_ble_eq_true rfl⟩⟩ K_X8_height h (fun i19 s20 h => ?_)
  refine T_istore (lv' := [(5, .int i19), (4, .int i17), (3, .int i13), (0, .ref a0), (1, .int i1), (2, .int i2)]) dX4_nearestShader_29 (by decide) rfl ?_
  refine T_iconst (1 : Int32) dX4_nearestShader_31 (by decide) ?_
  refine T_istore (lv' := [(6, .int (1 : Int32)), (5, .int i19), (4, .int i17), (3, .int i13), (0, .ref a0), (1, .int i1), (2, .int i2)]) dX4_nearestShader_32 (by decide) rfl ?_
  refine T_lv (lv' := [(0, .ref a0), (2, .int i2), (3, .int i13), (4, .int i17), (5, .int i19), (6, .int (1 : Int32))]) [4, 6, 3, 2, 1, 0] rfl ?_
  refine K_X4_nearestShader_w34 ?_ FU (1 : Int32) s20 h
  intro s34 h
  refine T_bipush (-6 : Int32) dX4_nearestShader_87 (by decide) ?_
  exact T_ireturn dX4_nearestShader_89 (Nat.le_of_ble_eq_true rfl) (Nat.le_of_ble_eq_true rfl) h

def D_X5_init (a0 : Nat) (s0 : Hp) : Option Hp :=
  (isO s0 a0 5).bind fun _ =>
  nm (newO s0 1 [.null]) fun s11 =>
  (D_X1_init s0.1 (80 : Int32) s11).bind fun s12 =>
  (putV s12 a0 5 0 (.ref s0.1)).bind fun s13 =>
  (putI s13 a0 5 1 (0 : Int32)).bind fun s14 =>
  some s14
set_option maxRecDepth 100000 in
set_option maxHeartbeats 4000000 in
theorem K_X5_init {l : Launch} {a0 : Nat} {s0 : Hp} : ∀ P, OK jV (D_X5_init a0 s0) P → sm_Ct l yX5_init cX5_init 1 none 2 2 801 [.ref a0] s0 P := by
  intro P h
  unfold D_X5_init at h
  obtain ⟨_, hb0, h⟩ := h.bind
  refine sm_enter (own := RX5) (lv := [(0, .ref a0)]) (by decide) rfl (Nat.le_of_ble_eq_true rfl) rfl (fun G => ?_)
  refine T_aload_n dX5_init_0 rfl 0 rfl ?_
  refine T_objInit dX5_init_1 ml_RX5_3 wd_1_7 wd_1_8 ⟨Nat.le_of_ble_eq_true rfl, Nat.le_of_ble_eq_true rfl⟩ ?_
  refine T_aload_n dX5_init_4 rfl 0 rfl ?_
  refine T_newO (C := RX1) (ci := 1) (fs := [.null]) dX5_init_5 wd_5_3 wd_2_19 wd_2_20 ⟨TX1, tyX1, rfl, inlX1, tyX1_ok, by decide +kernel⟩ (Nat.le_of_ble_eq_true rfl) (Nat.le_of_ble_eq_true rfl) ?_
  refine T_nh h (fun s11 h => ?_)
  refine T_dup dX5_init_8 rfl ?_
  refine T_bipush (80 : Int32) dX5_init_9 (by decide) ?_
  refine T_callIV (As := [.int (80 : Int32)]) (rest := [.ref s0.1, .ref a0]) (b := s0.1) dX5_init_11 mc_X1_init mi_X1_init ml_RX5_11 rfl rfl (Nat.le_of_ble_eq_true rfl) ⟨⟨Nat.le_of_ble_eq_true rfl, Nat.le_of_ble_eq_true rfl⟩, ⟨Nat.le_of_ble_eq_true rfl, Nat.le_of_ble_eq_true rfl⟩⟩ K_X1_init h (fun s12 h => ?_)
  refine T_putF (rt := none) rfl dX5_init_14 fl_RX5_14 ft_5_0 rfl rfl rfl h (fun s13 h => ?_)
  refine T_aload_n dX5_init_17 rfl 0 rfl ?_
  refine T_iconst (0 : Int32) dX5_init_18 (by decide) ?_
  refine T_putI dX5_init_19 fl_RX5_20 ft_5_1 h (fun s14 h => ?_)
  exact T_vreturn dX5_init_22 (Nat.le_of_ble_eq_true rfl) (Nat.le_of_ble_eq_true rfl) h

def D_X6_init (a0 : Nat) (a1 : Nat) (s0 : Hp) : Option Hp :=
  (isO s0 a0 6).bind fun _ =>
  nm (newO s0 1 [.null]) fun s11 =>
  (D_X1_init s0.1 (80 : Int32) s11).bind fun s12 =>
  (putV s12 a0 6 1 (.ref s0.1)).bind fun s13 =>
  nm (newO s13 1 [.null]) fun s14 =>
  (D_X1_init s13.1 (80 : Int32) s14).bind fun s15 =>
  (putV s15 a0 6 2 (.ref s13.1)).bind fun s16 =>
  nm (newO s16 1 [.null]) fun s17 =>
  (D_X1_init s16.1 (80 : Int32) s17).bind fun s18 =>
  (putV s18 a0 6 3 (.ref s16.1)).bind fun s19 =>
  nm (newO s19 1 [.null]) fun s20 =>
  (D_X1_init s19.1 (80 : Int32) s20).bind fun s21 =>
  (putV s21 a0 6 4 (.ref s19.1)).bind fun s22 =>
  (putI s22 a0 6 5 (0 : Int32)).bind fun s23 =>
  (putI s23 a0 6 6 (0 : Int32)).bind fun s24 =>
  (putZ s24 a0 6 7 (0 : Int32)).bind fun s25 =>
  (putV s25 a0 6 0 (.ref a1)).bind fun s26 =>
  some s26
set_option maxRecDepth 100000 in
set_option maxHeartbeats 4000000 in
theorem K_X6_init {l : Launch} {a0 : Nat} {a1 : Nat} {s0 : Hp} : ∀ P, OK jV (D_X6_init a0 a1 s0) P → sm_Ct l yX6_init cX6_init 2 none 2 8 3204 [.ref a0, .ref a1] s0 P := by
  intro P h
  unfold D_X6_init at h
  obtain ⟨_, hb0, h⟩ := h.bind
  refine sm_enter (own := RX6) (lv := [(0, .ref a0), (1, .ref a1)]) (by decide) rfl (Nat.le_of_ble_eq_true rfl) rfl (fun G => ?_)
  refine T_aload_n dX6_init_0 rfl 0 rfl ?_
  refine T_objInit dX6_init_1 ml_RX6_3 wd_1_7 wd_1_8 ⟨Nat.le_of_ble_eq_true rfl, Nat.le_of_ble_eq_true rfl⟩ ?_
  refine T_aload_n dX6_init_4 rfl 0 rfl ?_
  refine T_newO (C := RX1) (ci := 1) (fs := [.null]) dX6_init_5 wd_5_11 wd_2_19 wd_2_20 ⟨TX1, tyX1, rfl, inlX1, tyX1_ok, by decide +kernel⟩ (Nat.le_of_ble_eq_true rfl) (Nat.le_of_ble_eq_true rfl) ?_
  refine T_nh h (fun s11 h => ?_)
  refine T_dup dX6_init_8 rfl ?_
  refine T_bipush (80 : Int32) dX6_init_9 (by decide) ?_
  refine T_callIV (As := [.int (80 : Int32)]) (rest := [.ref s0.1, .ref a0]) (b := s0.1) dX6_init_11 mc_X1_init mi_X1_init ml_RX6_11 rfl rfl (Nat.le_of_ble_eq_true rfl) ⟨⟨Nat.le_of_ble_eq_true rfl, Nat.le_of_ble_eq_true rfl⟩, ⟨Nat.le_of_ble_eq_true rfl, Nat.le_of_ble_eq_true rfl⟩⟩ K_X1_init h (fun s12 h => ?_)
  refine T_putF (rt := none) rfl dX6_init_14 fl_RX6_14 ft_6_1 rfl rfl rfl h (fun s13 h => ?_)
  refine T_aload_n dX6_init_17 rfl 0 rfl ?_
  refine T_newO (C := RX1) (ci := 1) (fs := [.null]) dX6_init_18 wd_5_11 wd_2_19 wd_2_20 ⟨TX1, tyX1, rfl, inlX1, tyX1_ok, by decide +kernel⟩ (Nat.le_of_ble_eq_true rfl) (Nat.le_of_ble_eq_true rfl) ?_
  refine T_nh h (fun s14 h => ?_)
  refine T_dup dX6_init_21 rfl ?_
  refine T_bipush (80 : Int32) dX6_init_22 (by decide) ?_
  refine T_callIV (As := [.int (80 : Int32)]) (rest := [.ref s13.1, .ref a0]) (b := s13.1) dX6_init_24 mc_X1_init mi_X1_init ml_RX6_11 rfl rfl (Nat.le_of_ble_eq_true rfl) ⟨⟨Nat.le_of_ble_eq_true rfl, Nat.le_of_ble_eq_true rfl⟩, ⟨Nat.le_of_ble_eq_true rfl, Nat.le_of_ble_eq_true rfl⟩⟩ K_X1_init h (fun s15 h => ?_)
  refine T_putF (rt := none) rfl dX6_init_27 fl_RX6_20 ft_6_2 rfl rfl rfl h (fun s16 h => ?_)
  refine T_aload_n dX6_init_30 rfl 0 rfl ?_
  refine T_newO (C := RX1) (ci := 1) (fs := [.null]) dX6_init_31 wd_5_11 wd_2_19 wd_2_20 ⟨TX1, tyX1, rfl, inlX1, tyX1_ok, by decide +kernel⟩ (Nat.le_of_ble_eq_true rfl) (Nat.le_of_ble_eq_true rfl) ?_
  refine T_nh h (fun s17 h => ?_)
  refine T_dup dX6_init_34 rfl ?_
  refine T_bipush (80 : Int32) dX6_init_35 (by decide) ?_
  refine T_callIV (As := [.int (80 : Int32)]) (rest := [.ref s16.1, .ref a0]) (b := s16.1) dX6_init_37 mc_X1_init mi_X1_init ml_RX6_11 rfl rfl (Nat.le_of_ble_eq_true rfl) ⟨⟨Nat.le_of_ble_eq_true rfl, Nat.le_of_ble_eq_true rfl⟩, ⟨Nat.le_of_ble_eq_true rfl, Nat.le_of_ble_eq_true rfl⟩⟩ K_X1_init h (fun s18 h => ?_)
  refine T_putF (rt := none) rfl dX6_init_40 fl_RX6_23 ft_6_3 rfl rfl rfl h (fun s19 h => ?_)
  refine T_aload_n dX6_init_43 rfl 0 rfl ?_
  refine T_newO (C := RX1) (ci := 1) (fs := [.null]) dX6_init_44 wd_5_11 wd_2_19 wd_2_20 ⟨TX1, tyX1, rfl, inlX1, tyX1_ok, by decide +kernel⟩ (Nat.le_of_ble_eq_true rfl) (Nat.le_of_ble_eq_true rfl) ?_
  refine T_nh h (fun s20 h => ?_)
  refine T_dup dX6_init_47 rfl ?_
  refine T_bipush (80 : Int32) dX6_init_48 (by decide) ?_
  refine T_callIV (As := [.int (80 : Int32)]) (rest := [.ref s19.1, .ref a0]) (b := s19.1) dX6_init_50 mc_X1_init mi_X1_init ml_RX6_11 rfl rfl (Nat.le_of_ble_eq_true rfl) ⟨⟨Nat.le_of_ble_eq_true rfl, Nat.le_of_ble_eq_true rfl⟩, ⟨Nat.le_of_ble_eq_true rfl, Nat.le_of_ble_eq_true rfl⟩⟩ K_X1_init h (fun s21 h => ?_)
  refine T_putF (rt := none) rfl dX6_init_53 fl_RX6_26 ft_6_4 rfl rfl rfl h (fun s22 h => ?_)
  refine T_aload_n dX6_init_56 rfl 0 rfl ?_
  refine T_iconst (0 : Int32) dX6_init_57 (by decide) ?_
  refine T_putI dX6_init_58 fl_RX6_29 ft_6_5 h (fun s23 h => ?_)
  refine T_aload_n dX6_init_61 rfl 0 rfl ?_
  refine T_iconst (0 : Int32) dX6_init_62 (by decide) ?_
  refine T_putI dX6_init_63 fl_RX6_33 ft_6_6 h (fun s24 h => ?_)
  refine T_aload_n dX6_init_66 rfl 0 rfl ?_
  refine T_iconst (0 : Int32) dX6_init_67 (by decide) ?_
  refine T_putZ dX6_init_68 fl_RX6_36 ft_6_7 h (fun s25 h => ?_)
  refine T_aload_n dX6_init_71 rfl 0 rfl ?_
  refine T_aload_n dX6_init_72 rfl 1 rfl ?_
  refine T_putF (rt := none) rfl dX6_init_73 fl_RX6_40 ft_6_0 rfl rfl rfl h (fun s26 h => ?_)
  exact T_vreturn dX6_init_76 (Nat.le_of_ble_eq_true rfl) (Nat.le_of_ble_eq_true rfl) h
