def D_X9_point (a0 : Nat) (i1 : Int32) (i2 : Int32) (i3 : Int32) (s0 : Hp) : Option (Int32 × Hp) :=
  (isO s0 a0 8).bind fun _ =>
  bd (D_X9_isAimPoint i1 s0) fun i11 s12 =>
  if i11 = 0 then
  some ((-1 : Int32), s12)
  else
  bd (D_X8_isHour i2 s12) fun i13 s14 =>
  if i13 = 0 then
  some ((-1 : Int32), s14)
  else
  (getR s14 a0 8 1).bind fun a15 =>
  (D_X4_look a15 s14).bind fun s16 =>
  (getR s16 a0 8 1).bind fun a17 =>
  bd (D_X4_work a17 i2 s16) fun i18 s19 =>
  if i3 = (0 : Int32) then
  (getR s19 a0 8 1).bind fun a20 =>
  bd (D_X4_held a20 i1 s19) fun i21 s22 =>
  some (i21, s22)
  else
  if i3 = (1 : Int32) then
  (getR s19 a0 8 0).bind fun a23 =>
  bd (D_X2_mirrorsOf a23 i1 s19) fun i24 s25 =>
  some (i24, s25)
  else
  if i3 = (2 : Int32) then
  (getR s19 a0 8 0).bind fun a26 =>
  bd (D_X2_mirrorsOf a26 i1 s19) fun i27 s28 =>
  (getR s28 a0 8 1).bind fun a29 =>
  bd (D_X4_used a29 s28) fun i30 s31 =>
  some ((i27 &&& i30), s31)
  else
  some ((-2 : Int32), s19)
set_option maxRecDepth 100000 in
set_option maxHeartbeats 4000000 in
theorem K_X9_point {l : Launch} {a0 : Nat} {i1 : Int32} {i2 : Int32} {i3 : Int32} {s0 : Hp} : ∀ P, OK jI (D_X9_point a0 i1 i2 i3 s0) P → sm_Ct l yX9_point cX9_point 4 (some .int) 4 0 0 [.ref a0, .int i1, .int i2, .int i3] s0 P := by
  intro P h
  unfold D_X9_point at h
  obtain ⟨_, hb0, h⟩ := h.bind
  refine sm_enter (own := RX9) (lv := [(0, .ref a0), (1, .int i1), (2, .int i2), (3, .int i3)]) (by decide) rfl (Nat.le_of_ble_eq_true rfl) rfl (fun G => ?_)
  refine T_iload_n dX9_point_0 rfl 1 rfl ?_
  refine T_callSI (As := [.int i1]) (rest := []) dX9_point_1 mc_X9_isAimPoint mi_X9_isAimPoint ml_RX9_146 rfl rfl (Nat.le_of_ble_eq_true rfl) ⟨⟨Nat.le_of_ble_eq_true rfl, Nat.le_of_ble_eq_true rfl⟩, ⟨Nat.le_of_ble_eq_true rfl, Nat.le_of_ble_eq_true rfl⟩⟩ K_X9_isAimPoint h (fun i11 s12 h => ?_)
  refine T_if_eq 14 dX9_point_4 (by decide) h (fun _ h => ?_) (fun _ h => ?_)
  · refine T_iconst (-1 : Int32) dX9_point_14 (by decide) ?_
    exact T_ireturn dX9_point_15 (Nat.le_of_ble_eq_true rfl) (Nat.le_of_ble_eq_true rfl) h
  · refine T_iload_n dX9_point_7 rfl 2 rfl ?_
    refine T_callSI (As := [.int i2]) (rest := []) dX9_point_8 mc_X8_isHour mi_X8_isHour ml_RX9_129 rfl rfl (Nat.le_of_ble_eq_true rfl) ⟨⟨Nat.le_of_ble_eq_true rfl, Nat.le_of_ble_eq_true rfl⟩, ⟨Nat.le_of_ble_eq_true rfl, Nat.le_of_ble_eq_true rfl⟩⟩ K_X8_isHour h (fun i13 s14 h => ?_)
    refine T_if_ne 16 dX9_point_11 (by decide) h (fun _ h => ?_) (fun _ h => ?_)
    · refine T_aload_n dX9_point_16 rfl 0 rfl ?_
      refine T_getR dX9_point_17 fl_RX9_21 h (fun a15 h => ?_)
      refine T_callVV (As := []) (rest := []) (b := a15) (ci := 4) dX9_point_20 mc_X4_look mi_X4_look ml_RX9_120 rfl (fun _ hr => chk_of hr) rfl rfl (Nat.le_of_ble_eq_true rfl) ⟨⟨Nat.le_of_ble_eq_true rfl, Nat.le_of_ble_eq_true rfl⟩, ⟨Nat.le_of_ble_eq_true rfl, Nat.le_of_ble_eq_true rfl⟩⟩ K_X4_look h (fun s16 h => ?_)
      refine T_aload_n dX9_point_23 rfl 0 rfl ?_
      refine T_getR dX9_point_24 fl_RX9_21 h (fun a17 h => ?_)
      refine T_iload_n dX9_point_27 rfl 2 rfl ?_
      refine T_callVI (As := [.int i2]) (rest := []) (b := a17) (ci := 4) dX9_point_28 mc_X4_work mi_X4_work ml_RX9_134 rfl (fun _ hr => chk_of hr) rfl rfl (Nat.le_of_ble_eq_true rfl) ⟨⟨Nat.le_of_ble_eq_true rfl, Nat.le_of_ble_eq_true rfl⟩, ⟨Nat.le_of_ble_eq_true rfl, Nat.le_of_ble_eq_true rfl⟩⟩ K_X4_work h (fun i18 s19 h => ?_)
      refine T_pop dX9_point_31 rfl ?_
      refine T_iload_n dX9_point_32 rfl 3 rfl ?_
      refine T_ite h (fun c0 h => ?_) (fun c0 h => ?_)
      · refine T_tableIn 60 dX9_point_33 (by rw [c0]; decide) (by rw [c0]; decide) (by rw [c0]; rfl) (by decide) ?_
        refine T_aload_n dX9_point_60 rfl 0 rfl ?_
        refine T_getR dX9_point_61 fl_RX9_21 h (fun a20 h => ?_)
        refine T_iload_n dX9_point_64 rfl 1 rfl ?_
        refine T_callVI (As := [.int i1]) (rest := []) (b := a20) (ci := 4) dX9_point_65 mc_X4_held mi_X4_held ml_RX9_149 rfl (fun _ hr => chk_of hr) rfl rfl (Nat.le_of_ble_eq_true rfl) ⟨⟨Nat.le_of_ble_eq_true rfl, Nat.le_of_ble_eq_true rfl⟩, ⟨Nat.le_of_ble_eq_true rfl, Nat.le_of_ble_eq_true rfl⟩⟩ K_X4_held h (fun i21 s22 h => ?_)
        exact T_ireturn dX9_point_68 (Nat.le_of_ble_eq_true rfl) (Nat.le_of_ble_eq_true rfl) h
      refine T_ite h (fun c1 h => ?_) (fun c1 h => ?_)
      · refine T_tableIn 69 dX9_point_33 (by rw [c1]; decide) (by rw [c1]; decide) (by rw [c1]; rfl) (by decide) ?_
        refine T_aload_n dX9_point_69 rfl 0 rfl ?_
        refine T_getR dX9_point_70 fl_RX9_12 h (fun a23 h => ?_)
        refine T_iload_n dX9_point_73 rfl 1 rfl ?_
        refine T_callVI (As := [.int i1]) (rest := []) (b := a23) (ci := 2) dX9_point_74 mc_X2_mirrorsOf mi_X2_mirrorsOf ml_RX9_152 rfl (fun _ hr => chk_of hr) rfl rfl (Nat.le_of_ble_eq_true rfl) ⟨⟨Nat.le_of_ble_eq_true rfl, Nat.le_of_ble_eq_true rfl⟩, ⟨Nat.le_of_ble_eq_true rfl, Nat.le_of_ble_eq_true rfl⟩⟩ K_X2_mirrorsOf h (fun i24 s25 h => ?_)
        exact T_ireturn dX9_point_77 (Nat.le_of_ble_eq_true rfl) (Nat.le_of_ble_eq_true rfl) h
      refine T_ite h (fun c2 h => ?_) (fun c2 h => ?_)
      · refine T_tableIn 78 dX9_point_33 (by rw [c2]; decide) (by rw [c2]; decide) (by rw [c2]; rfl) (by decide) ?_
        refine T_aload_n dX9_point_78 rfl 0 rfl ?_
        refine T_getR dX9_point_79 fl_RX9_12 h (fun a26 h => ?_)
        refine T_iload_n dX9_point_82 rfl 1 rfl ?_
        refine T_callVI (As := [.int i1]) (rest := []) (b := a26) (ci := 2) dX9_point_83 mc_X2_mirrorsOf mi_X2_mirrorsOf ml_RX9_152 rfl (fun _ hr => chk_of hr) rfl rfl (Nat.le_of_ble_eq_true rfl) ⟨⟨Nat.le_of_ble_eq_true rfl, Nat.le_of_ble_eq_true rfl⟩, ⟨Nat.le_of_ble_eq_true rfl, Nat.le_of_ble_eq_true rfl⟩⟩ K_X2_mirrorsOf h (fun i27 s28 h => ?_)
        refine T_aload_n dX9_point_86 rfl 0 rfl ?_
        refine T_getR dX9_point_87 fl_RX9_21 h (fun a29 h => ?_)
        refine T_callVI (As := []) (rest := [.int i27]) (b := a29) (ci := 4) dX9_point_90 mc_X4_used mi_X4_used ml_RX9_155 rfl (fun _ hr => chk_of hr) rfl rfl (Nat.le_of_ble_eq_true rfl) ⟨⟨Nat.le_of_ble_eq_true rfl, Nat.le_of_ble_eq_true rfl⟩, ⟨Nat.le_of_ble_eq_true rfl, Nat.le_of_ble_eq_true rfl⟩⟩ K_X4_used h (fun i30 s31 h => ?_)
        refine T_iand dX9_point_93 ?_
        exact T_ireturn dX9_point_94 (Nat.le_of_ble_eq_true rfl) (Nat.le_of_ble_eq_true rfl) h
      refine T_tableOut 95 dX9_point_33 (by have e0 := lv_neT (a := 0) c0 rfl; have e1 := lv_neT (a := 1) c1 rfl; have e2 := lv_neT (a := 2) c2 rfl; omega) (by decide) ?_
      refine T_bipush (-2 : Int32) dX9_point_95 (by decide) ?_
      exact T_ireturn dX9_point_97 (Nat.le_of_ble_eq_true rfl) (Nat.le_of_ble_eq_true rfl) h
    · refine T_iconst (-1 : Int32) dX9_point_14 (by decide) ?_
      exact T_ireturn dX9_point_15 (Nat.le_of_ble_eq_true rfl) (Nat.le_of_ble_eq_true rfl) h

def D_X0_weigh_b32  (a17 : Nat) (i18 : Int32) (i19 : Int32) (s20 : Hp) : Option Hp :=
  (putI s20 a17 0 3 i18).bind fun s21 =>
  (putI s21 a17 0 4 i19).bind fun s22 =>
  some s22
def D_X0_weigh (a0 : Nat) (i1 : Int32) (s0 : Hp) : Option Hp :=
  (isO s0 a0 0).bind fun _ =>
  (getR s0 a0 0 2).bind fun a11 =>
  (D_X4_look a11 s0).bind fun s12 =>
  (getR s12 a0 0 2).bind fun a13 =>
  bd (D_X4_day a13 s12) fun i14 s15 =>
  (getI s15 a0 0 3).bind fun i16 =>
  if i16 = (-6 : Int32) then
  D_X0_weigh_b32 a0 i1 i14 s15
  else
  (getI s15 a0 0 4).bind fun i23 =>
  if i14 ≤ i23 then
  some s15
  else
  D_X0_weigh_b32 a0 i1 i14 s15
set_option maxRecDepth 100000 in
set_option maxHeartbeats 4000000 in
theorem K_X0_weigh_b32 {l : Launch} {G : smG} {P : Option Value → Hp → Prop}  {a17 : Nat} {i18 : Int32} {i19 : Int32} {s20 : Hp}  (h : OK jV (D_X0_weigh_b32 a17 i18 i19 s20) P) : T l G RX0 cX0_weigh 3 (sm_rm 5 0 0) (sm_E none yX0_weigh.name) (sm_Qs G P 0 0) 0 0 32 [(0, .ref a17), (1, .int i18), (2, .int i19)] [] s20 := by
  unfold D_X0_weigh_b32 at h
  refine T_aload_n dX0_weigh_32 rfl 0 rfl ?_
  refine T_iload_n dX0_weigh_33 rfl 1 rfl ?_
  refine T_putI dX0_weigh_34 fl_RX0_27 ft_0_3 h (fun s21 h => ?_)
  refine T_aload_n dX0_weigh_37 rfl 0 rfl ?_
  refine T_iload_n dX0_weigh_38 rfl 2 rfl ?_
  refine T_putI dX0_weigh_39 fl_RX0_31 ft_0_4 h (fun s22 h => ?_)
  exact T_vreturn dX0_weigh_42 (Nat.le_of_ble_eq_true rfl) (Nat.le_of_ble_eq_true rfl) h
set_option maxRecDepth 100000 in
set_option maxHeartbeats 4000000 in
theorem K_X0_weigh {l : Launch} {a0 : Nat} {i1 : Int32} {s0 : Hp} : ∀ P, OK jV (D_X0_weigh a0 i1 s0) P → sm_Ct l yX0_weigh cX0_weigh 3 none 5 0 0 [.ref a0, .int i1] s0 P := by
  intro P h
  unfold D_X0_weigh at h
  obtain ⟨_, hb0, h⟩ := h.bind
  refine sm_enter (own := RX0) (lv := [(0, .ref a0), (1, .int i1)]) (by decide) rfl (Nat.le_of_ble_eq_true rfl) rfl (fun G => ?_)
  refine T_aload_n dX0_weigh_0 rfl 0 rfl ?_
  refine T_getR dX0_weigh_1 fl_RX0_23 h (fun a11 h => ?_)
  refine T_callVV (As := []) (rest := []) (b := a11) (ci := 4) dX0_weigh_4 mc_X4_look mi_X4_look ml_RX0_71 rfl (fun _ hr => chk_of hr) rfl rfl (Nat.le_of_ble_eq_true rfl) ⟨⟨Nat.le_of_ble_eq_true rfl, Nat.le_of_ble_eq_true rfl⟩, ⟨Nat.le_of_ble_eq_true rfl, Nat.le_of_ble_eq_true rfl⟩⟩ K_X4_look h (fun s12 h => ?_)
  refine T_aload_n dX0_weigh_7 rfl 0 rfl ?_
  refine T_getR dX0_weigh_8 fl_RX0_23 h (fun a13 h => ?_)
  refine T_callVI (As := []) (rest := []) (b := a13) (ci := 4) dX0_weigh_11 mc_X4_day mi_X4_day ml_RX0_89 rfl (fun _ hr => chk_of hr) rfl rfl (Nat.le_of_ble_eq_true rfl) ⟨⟨Nat.le_of_ble_eq_true rfl, Nat.le_of_ble_eq_true rfl⟩, ⟨Nat.le_of_ble_eq_true rfl, Nat.le_of_ble_eq_true rfl⟩⟩ K_X4_day h (fun i14 s15 h => ?_)
  refine T_istore_n (lv' := [(2, .int i14), (0, .ref a0), (1, .int i1)]) dX0_weigh_14 rfl (by decide) rfl ?_
  refine T_aload_n dX0_weigh_15 rfl 1 rfl ?_
  refine T_getI dX0_weigh_16 fl_RX0_27 h (fun i16 h => ?_)
  refine T_bipush (-6 : Int32) dX0_weigh_19 (by decide) ?_
  refine T_icmp_eq 32 dX0_weigh_21 (by decide) h (fun _ h => ?_) (fun _ h => ?_)
  · refine T_lv (lv' := [(0, .ref a0), (1, .int i1), (2, .int i14)]) [1, 2, 0] rfl ?_
    exact K_X0_weigh_b32 h
  · refine T_iload_n dX0_weigh_24 rfl 0 rfl ?_
    refine T_aload_n dX0_weigh_25 rfl 1 rfl ?_
    refine T_getI dX0_weigh_26 fl_RX0_31 h (fun i23 h => ?_)
    refine T_icmp_le 42 dX0_weigh_29 (by decide) h (fun _ h => ?_) (fun _ h => ?_)
    · exact T_vreturn dX0_weigh_42 (Nat.le_of_ble_eq_true rfl) (Nat.le_of_ble_eq_true rfl) h
    · refine T_lv (lv' := [(0, .ref a0), (1, .int i1), (2, .int i14)]) [1, 2, 0] rfl ?_
      exact K_X0_weigh_b32 h

def D_X9_aim (a0 : Nat) (i1 : Int32) (i2 : Int32) (s0 : Hp) : Option (Int32 × Hp) :=
  (isO s0 a0 8).bind fun _ =>
  (getR s0 a0 8 5).bind fun a11 =>
  (getR s0 a0 8 0).bind fun a12 =>
  (D_X3_note a11 a12 s0).bind fun s13 =>
  (getR s13 a0 8 0).bind fun a14 =>
  bd (D_X2_turn a14 i1 i2 s13) fun i15 s16 =>
  bd (D_X9_recorded a0 i15 s16) fun i17 s18 =>
  some (i17, s18)
set_option maxRecDepth 100000 in
set_option maxHeartbeats 4000000 in
theorem K_X9_aim {l : Launch} {a0 : Nat} {i1 : Int32} {i2 : Int32} {s0 : Hp} : ∀ P, OK jI (D_X9_aim a0 i1 i2 s0) P → sm_Ct l yX9_aim cX9_aim 3 (some .int) 5 0 0 [.ref a0, .int i1, .int i2] s0 P := by
  intro P h
  unfold D_X9_aim at h
  obtain ⟨_, hb0, h⟩ := h.bind
  refine sm_enter (own := RX9) (lv := [(0, .ref a0), (1, .int i1), (2, .int i2)]) (by decide) rfl (Nat.le_of_ble_eq_true rfl) rfl (fun G => ?_)
  refine T_aload_n dX9_aim_0 rfl 0 rfl ?_
  refine T_getR dX9_aim_1 fl_RX9_51 h (fun a11 h => ?_)
  refine T_aload_n dX9_aim_4 rfl 0 rfl ?_
  refine T_getR dX9_aim_5 fl_RX9_12 h (fun a12 h => ?_)
  refine T_callVV (As := [.ref a12]) (rest := []) (b := a11) (ci := 3) dX9_aim_8 mc_X3_note mi_X3_note ml_RX9_68 rfl (fun _ hr => chk_of hr) rfl rfl (Nat.le_of_ble_eq_true rfl) ⟨⟨Nat.le_of_ble_eq_true rfl, Nat.le_of_ble_eq_true rfl⟩, ⟨Nat.le_of_ble_eq_true rfl, Nat.le_of_ble_eq_true rfl⟩⟩ K_X3_note h (fun s13 h => ?_)
  refine T_aload_n dX9_aim_11 rfl 0 rfl ?_
  refine T_aload_n dX9_aim_12 rfl 0 rfl ?_
  refine T_getR dX9_aim_13 fl_RX9_12 h (fun a14 h => ?_)
  refine T_iload_n dX9_aim_16 rfl 1 rfl ?_
  refine T_iload_n dX9_aim_17 rfl 2 rfl ?_
  refine T_callVI (As := [.int i1, .int i2]) (rest := [.ref a0]) (b := a14) (ci := 2) dX9_aim_18 mc_X2_turn mi_X2_turn ml_RX9_86 rfl (fun _ hr => chk_of hr) rfl rfl (Nat.le_of_ble_eq_true rfl) ⟨⟨Nat.le_of_ble_eq_true rfl, Nat.le_of_ble_eq_true rfl⟩, ⟨Nat.le_of_ble_eq_true rfl, Nat.le_of_ble_eq_true rfl⟩⟩ K_X2_turn h (fun i15 s16 h => ?_)
  refine T_callVI (As := [.int i15]) (rest := []) (b := a0) (ci := 8) dX9_aim_21 mc_X9_recorded mi_X9_recorded ml_RX9_75 rfl (fun _ hr => chk_of hr) rfl rfl (Nat.le_of_ble_eq_true rfl) ⟨⟨Nat.le_of_ble_eq_true rfl, Nat.le_of_ble_eq_true rfl⟩, ⟨Nat.le_of_ble_eq_true rfl, Nat.le_of_ble_eq_true rfl⟩⟩ K_X9_recorded h (fun i17 s18 h => ?_)
  exact T_ireturn dX9_aim_24 (Nat.le_of_ble_eq_true rfl) (Nat.le_of_ble_eq_true rfl) h

def D_X9_count (a0 : Nat) (i1 : Int32) (s0 : Hp) : Option (Int32 × Hp) :=
  (isO s0 a0 8).bind fun _ =>
  if i1 = (0 : Int32) then
  (getR s0 a0 8 0).bind fun a11 =>
  (getI s0 a11 2 8).bind fun i12 =>
  some (i12, s0)
  else
  if i1 = (1 : Int32) then
  (getR s0 a0 8 0).bind fun a13 =>
  (getI s0 a13 2 6).bind fun i14 =>
  some (i14, s0)
  else
  if i1 = (2 : Int32) then
  (getR s0 a0 8 0).bind fun a15 =>
  (getI s0 a15 2 7).bind fun i16 =>
  some (i16, s0)
  else
  if i1 = (3 : Int32) then
  (getR s0 a0 8 0).bind fun a17 =>
  bd (D_X2_liesFlat a17 s0) fun i18 s19 =>
  if i18 = 0 then
  some ((0 : Int32), s19)
  else
  some ((1 : Int32), s19)
  else
  if i1 = (4 : Int32) then
  (getR s0 a0 8 0).bind fun a20 =>
  (getI s0 a20 2 9).bind fun i21 =>
  some (i21, s0)
  else
  if i1 = (5 : Int32) then
  (getR s0 a0 8 1).bind fun a22 =>
  (D_X4_look a22 s0).bind fun s23 =>
  (getR s23 a0 8 1).bind fun a24 =>
  bd (D_X4_day a24 s23) fun i25 s26 =>
  some (i25, s26)
  else
  if i1 = (6 : Int32) then
  (getR s0 a0 8 1).bind fun a27 =>
  (D_X4_look a27 s0).bind fun s28 =>
  (getR s28 a0 8 1).bind fun a29 =>
  bd (D_X4_blocked a29 s28) fun i30 s31 =>
  some (i30, s31)
  else
  if i1 = (7 : Int32) then
  (getR s0 a0 8 0).bind fun a32 =>
  bd (D_X2_allDust a32 s0) fun i33 s34 =>
  some (i33, s34)
  else
  if i1 = (8 : Int32) then
  (getR s0 a0 8 0).bind fun a35 =>
  (getR s0 a35 2 0).bind fun a36 =>
  bd (D_X1_read a36 (0 : Int32) s0) fun i37 s38 =>
  some (i37, s38)
  else
  if i1 = (9 : Int32) then
  (getR s0 a0 8 0).bind fun a39 =>
  (getR s0 a39 2 0).bind fun a40 =>
  bd (D_X1_read a40 (1 : Int32) s0) fun i41 s42 =>
  some (i41, s42)
  else
  if i1 = (10 : Int32) then
  (getR s0 a0 8 0).bind fun a43 =>
  (getR s0 a43 2 0).bind fun a44 =>
  bd (D_X1_read a44 (2 : Int32) s0) fun i45 s46 =>
  some (i45, s46)
  else
  if i1 = (11 : Int32) then
  (getR s0 a0 8 3).bind fun a47 =>
  bd (D_X5_length a47 s0) fun i48 s49 =>
  some (i48, s49)
  else
  if i1 = (12 : Int32) then
  (getR s0 a0 8 5).bind fun a50 =>
  bd (D_X3_size a50 s0) fun i51 s52 =>
  some (i51, s52)
  else
  some ((-2 : Int32), s0)
set_option maxRecDepth 100000 in
set_option maxHeartbeats 4000000 in
theorem K_X9_count {l : Launch} {a0 : Nat} {i1 : Int32} {s0 : Hp} : ∀ P, OK jI (D_X9_count a0 i1 s0) P → sm_Ct l yX9_count cX9_count 2 (some .int) 5 0 0 [.ref a0, .int i1] s0 P := by
  intro P h
  unfold D_X9_count at h
  obtain ⟨_, hb0, h⟩ := h.bind
  refine sm_enter (own := RX9) (lv := [(0, .ref a0), (1, .int i1)]) (by decide) rfl (Nat.le_of_ble_eq_true rfl) rfl (fun G => ?_)
  refine T_iload_n dX9_count_0 rfl 1 rfl ?_
  refine T_ite h (fun c0 h => ?_) (fun c0 h => ?_)
  · refine T_tableIn 68 dX9_count_1 (by rw [c0]; decide) (by rw [c0]; decide) (by rw [c0]; rfl) (by decide) ?_
    refine T_aload_n dX9_count_68 rfl 0 rfl ?_
    refine T_getR dX9_count_69 fl_RX9_12 h (fun a11 h => ?_)
    refine T_getI dX9_count_72 fl_RX9_159 h (fun i12 h => ?_)
    exact T_ireturn dX9_count_75 (Nat.le_of_ble_eq_true rfl) (Nat.le_of_ble_eq_true rfl) h
  refine T_ite h (fun c1 h => ?_) (fun c1 h => ?_)
  · refine T_tableIn 76 dX9_count_1 (by rw [c1]; decide) (by rw [c1]; decide) (by rw [c1]; rfl) (by decide) ?_
    refine T_aload_n dX9_count_76 rfl 0 rfl ?_
    refine T_getR dX9_count_77 fl_RX9_12 h (fun a13 h => ?_)
    refine T_getI dX9_count_80 fl_RX9_162 h (fun i14 h => ?_)
    exact T_ireturn dX9_count_83 (Nat.le_of_ble_eq_true rfl) (Nat.le_of_ble_eq_true rfl) h
  refine T_ite h (fun c2 h => ?_) (fun c2 h => ?_)
  · refine T_tableIn 84 dX9_count_1 (by rw [c2]; decide) (by rw [c2]; decide) (by rw [c2]; rfl) (by decide) ?_
    refine T_aload_n dX9_count_84 rfl 0 rfl ?_
    refine T_getR dX9_count_85 fl_RX9_12 h (fun a15 h => ?_)
    refine T_getI dX9_count_88 fl_RX9_165 h (fun i16 h => ?_)
    exact T_ireturn dX9_count_91 (Nat.le_of_ble_eq_true rfl) (Nat.le_of_ble_eq_true rfl) h
  refine T_ite h (fun c3 h => ?_) (fun c3 h => ?_)
  · refine T_tableIn 92 dX9_count_1 (by rw [c3]; decide) (by rw [c3]; decide) (by rw [c3]; rfl) (by decide) ?_
    refine T_aload_n dX9_count_92 rfl 0 rfl ?_
    refine T_getR dX9_count_93 fl_RX9_12 h (fun a17 h => ?_)
    refine T_callVI (As := []) (rest := []) (b := a17) (ci := 2) dX9_count_96 mc_X2_liesFlat mi_X2_liesFlat ml_RX9_168 rfl (fun _ hr => chk_of hr) rfl rfl (Nat.le_of_ble_eq_true rfl) ⟨⟨Nat.le_of_ble_eq_true rfl, Nat.le_of_ble_eq_true rfl⟩, ⟨Nat.le_of_ble_eq_true rfl, Nat.le_of_ble_eq_true rfl⟩⟩ K_X2_liesFlat h (fun i18 s19 h => ?_)
    refine T_if_eq 106 dX9_count_99 (by decide) h (fun _ h => ?_) (fun _ h => ?_)
    · refine T_iconst (0 : Int32) dX9_count_106 (by decide) ?_
      exact T_ireturn dX9_count_107 (Nat.le_of_ble_eq_true rfl) (Nat.le_of_ble_eq_true rfl) h
    · refine T_iconst (1 : Int32) dX9_count_102 (by decide) ?_
      refine T_goto 107 dX9_count_103 (by decide) ?_
      exact T_ireturn dX9_count_107 (Nat.le_of_ble_eq_true rfl) (Nat.le_of_ble_eq_true rfl) h
  refine T_ite h (fun c4 h => ?_) (fun c4 h => ?_)
  · refine T_tableIn 108 dX9_count_1 (by rw [c4]; decide) (by rw [c4]; decide) (by rw [c4]; rfl) (by decide) ?_
    refine T_aload_n dX9_count_108 rfl 0 rfl ?_
    refine T_getR dX9_count_109 fl_RX9_12 h (fun a20 h => ?_)
    refine T_getI dX9_count_112 fl_RX9_172 h (fun i21 h => ?_)
    exact T_ireturn dX9_count_115 (Nat.le_of_ble_eq_true rfl) (Nat.le_of_ble_eq_true rfl) h
  refine T_ite h (fun c5 h => ?_) (fun c5 h => ?_)
  · refine T_tableIn 116 dX9_count_1 (by rw [c5]; decide) (by rw [c5]; decide) (by rw [c5]; rfl) (by decide) ?_
    refine T_aload_n dX9_count_116 rfl 0 rfl ?_
    refine T_getR dX9_count_117 fl_RX9_21 h (fun a22 h => ?_)
    refine T_callVV (As := []) (rest := []) (b := a22) (ci := 4) dX9_count_120 mc_X4_look mi_X4_look ml_RX9_120 rfl (fun _ hr => chk_of hr) rfl rfl (Nat.le_of_ble_eq_true rfl) ⟨⟨Nat.le_of_ble_eq_true rfl, Nat.le_of_ble_eq_true rfl⟩, ⟨Nat.le_of_ble_eq_true rfl, Nat.le_of_ble_eq_true rfl⟩⟩ K_X4_look h (fun s23 h => ?_)
    refine T_aload_n dX9_count_123 rfl 0 rfl ?_
    refine T_getR dX9_count_124 fl_RX9_21 h (fun a24 h => ?_)
    refine T_callVI (As := []) (rest := []) (b := a24) (ci := 4) dX9_count_127 mc_X4_day mi_X4_day ml_RX9_175 rfl (fun _ hr => chk_of hr) rfl rfl (Nat.le_of_ble_eq_true rfl) ⟨⟨Nat.le_of_ble_eq_true rfl, Nat.le_of_ble_eq_true rfl⟩, ⟨Nat.le_of_ble_eq_true rfl, Nat.le_of_ble_eq_true rfl⟩⟩ K_X4_day h (fun i25 s26 h => ?_)
    exact T_ireturn dX9_count_130 (Nat.le_of_ble_eq_true rfl) (Nat.le_of_ble_eq_true rfl) h
  refine T_ite h (fun c6 h => ?_) (fun c6 h => ?_)
  · refine T_tableIn 131 dX9_count_1 (by rw [c6]; decide) (by rw [c6]; decide) (by rw [c6]; rfl) (by decide) ?_
    refine T_aload_n dX9_count_131 rfl 0 rfl ?_
    refine T_getR dX9_count_132 fl_RX9_21 h (fun a27 h => ?_)
    refine T_callVV (As := []) (rest := []) (b := a27) (ci := 4) dX9_count_135 mc_X4_look mi_X4_look ml_RX9_120 rfl (fun _ hr => chk_of hr) rfl rfl (Nat.le_of_ble_eq_true rfl) ⟨⟨Nat.le_of_ble_eq_true rfl, Nat.le_of_ble_eq_true rfl⟩, ⟨Nat.le_of_ble_eq_true rfl, Nat.le_of_ble_eq_true rfl⟩⟩ K_X4_look h (fun s28 h => ?_)
    refine T_aload_n dX9_count_138 rfl 0 rfl ?_
    refine T_getR dX9_count_139 fl_RX9_21 h (fun a29 h => ?_)
    refine T_callVI (As := []) (rest := []) (b := a29) (ci := 4) dX9_count_142 mc_X4_blocked mi_X4_blocked ml_RX9_178 rfl (fun _ hr => chk_of hr) rfl rfl (Nat.le_of_ble_eq_true rfl) ⟨⟨Nat.le_of_ble_eq_true rfl, Nat.le_of_ble_eq_true rfl⟩, ⟨Nat.le_of_ble_eq_true rfl, Nat.le_of_ble_eq_true rfl⟩⟩ K_X4_blocked h (fun i30 s31 h => ?_)
    exact T_ireturn dX9_count_145 (Nat.le_of_ble_eq_true rfl) (Nat.le_of_ble_eq_true rfl) h
  refine T_ite h (fun c7 h => ?_) (fun c7 h => ?_)
  · refine T_tableIn 146 dX9_count_1 (by rw [c7]; decide) (by rw [c7]; decide) (by rw [c7]; rfl) (by decide) ?_
    refine T_aload_n dX9_count_146 rfl 0 rfl ?_
    refine T_getR dX9_count_147 fl_RX9_12 h (fun a32 h => ?_)
    refine T_callVI (As := []) (rest := []) (b := a32) (ci := 2) dX9_count_150 mc_X2_allDust mi_X2_allDust ml_RX9_181 rfl (fun _ hr => chk_of hr) rfl rfl (Nat.le_of_ble_eq_true rfl) ⟨⟨Nat.le_of_ble_eq_true rfl, Nat.le_of_ble_eq_true rfl⟩, ⟨Nat.le_of_ble_eq_true rfl, Nat.le_of_ble_eq_true rfl⟩⟩ K_X2_allDust h (fun i33 s34 h => ?_)
    exact T_ireturn dX9_count_153 (Nat.le_of_ble_eq_true rfl) (Nat.le_of_ble_eq_true rfl) h
  refine T_ite h (fun c8 h => ?_) (fun c8 h => ?_)
  · refine T_tableIn 154 dX9_count_1 (by rw [c8]; decide) (by rw [c8]; decide) (by rw [c8]; rfl) (by decide) ?_
    refine T_aload_n dX9_count_154 rfl 0 rfl ?_
    refine T_getR dX9_count_155 fl_RX9_12 h (fun a35 h => ?_)
    refine T_getR dX9_count_158 fl_RX9_184 h (fun a36 h => ?_)
    refine T_iconst (0 : Int32) dX9_count_161 (by decide) ?_
    refine T_callVI (As := [.int (0 : Int32)]) (rest := []) (b := a36) (ci := 1) dX9_count_162 mc_X1_read mi_X1_read ml_RX9_106 rfl (fun _ hr => chk_of hr) rfl rfl (Nat.le_of_ble_eq_true rfl) ⟨⟨Nat.le_of_ble_eq_true rfl, Nat.le_of_ble_eq_true rfl⟩, ⟨Nat.le_of_ble_eq_true rfl, Nat.le_of_ble_eq_true rfl⟩⟩ K_X1_read h (fun i37 s38 h => ?_)
    exact T_ireturn dX9_count_165 (Nat.le_of_ble_eq_true rfl) (Nat.le_of_ble_eq_true rfl) h
  refine T_ite h (fun c9 h => ?_) (fun c9 h => ?_)
  · refine T_tableIn 166 dX9_count_1 (by rw [c9]; decide) (by rw [c9]; decide) (by rw [c9]; rfl) (by decide) ?_
    refine T_aload_n dX9_count_166 rfl 0 rfl ?_
    refine T_getR dX9_count_167 fl_RX9_12 h (fun a39 h => ?_)
    refine T_getR dX9_count_170 fl_RX9_184 h (fun a40 h => ?_)
    refine T_iconst (1 : Int32) dX9_count_173 (by decide) ?_
    refine T_callVI (As := [.int (1 : Int32)]) (rest := []) (b := a40) (ci := 1) dX9_count_174 mc_X1_read mi_X1_read ml_RX9_106 rfl (fun _ hr => chk_of hr) rfl rfl (Nat.le_of_ble_eq_true rfl) ⟨⟨Nat.le_of_ble_eq_true rfl, Nat.le_of_ble_eq_true rfl⟩, ⟨Nat.le_of_ble_eq_true rfl, Nat.le_of_ble_eq_true rfl⟩⟩ K_X1_read h (fun i41 s42 h => ?_)
    exact T_ireturn dX9_count_177 (Nat.le_of_ble_eq_true rfl) (Nat.le_of_ble_eq_true rfl) h
  refine T_ite h (fun c10 h => ?_) (fun c10 h => ?_)
  · refine T_tableIn 178 dX9_count_1 (by rw [c10]; decide) (by rw [c10]; decide) (by rw [c10]; rfl) (by decide) ?_
    refine T_aload_n dX9_count_178 rfl 0 rfl ?_
    refine T_getR dX9_count_179 fl_RX9_12 h (fun a43 h => ?_)
    refine T_getR dX9_count_182 fl_RX9_184 h (fun a44 h => ?_)
    refine T_iconst (2 : Int32) dX9_count_185 (by decide) ?_
    refine T_callVI (As := [.int (2 : Int32)]) (rest := []) (b := a44) (ci := 1) dX9_count_186 mc_X1_read mi_X1_read ml_RX9_106 rfl (fun _ hr => chk_of hr) rfl rfl (Nat.le_of_ble_eq_true rfl) ⟨⟨Nat.le_of_ble_eq_true rfl, Nat.le_of_ble_eq_true rfl⟩, ⟨Nat.le_of_ble_eq_true rfl, Nat.le_of_ble_eq_true rfl⟩⟩ K_X1_read h (fun i45 s46 h => ?_)
    exact T_ireturn dX9_count_189 (Nat.le_of_ble_eq_true rfl) (Nat.le_of_ble_eq_true rfl) h
  refine T_ite h (fun c11 h => ?_) (fun c11 h => ?_)
  · refine T_tableIn 190 dX9_count_1 (by rw [c11]; decide) (by rw [c11]; decide) (by rw [c11]; rfl) (by decide) ?_
    refine T_aload_n dX9_count_190 rfl 0 rfl ?_
    refine T_getR dX9_count_191 fl_RX9_35 h (fun a47 h => ?_)
    refine T_callVI (As := []) (rest := []) (b := a47) (ci := 5) dX9_count_194 mc_X5_length mi_X5_length ml_RX9_187 rfl (fun _ hr => chk_of hr) rfl rfl (Nat.le_of_ble_eq_true rfl) ⟨⟨Nat.le_of_ble_eq_true rfl, Nat.le_of_ble_eq_true rfl⟩, ⟨Nat.le_of_ble_eq_true rfl, Nat.le_of_ble_eq_true rfl⟩⟩ K_X5_length h (fun i48 s49 h => ?_)
    exact T_ireturn dX9_count_197 (Nat.le_of_ble_eq_true rfl) (Nat.le_of_ble_eq_true rfl) h
  refine T_ite h (fun c12 h => ?_) (fun c12 h => ?_)
  · refine T_tableIn 198 dX9_count_1 (by rw [c12]; decide) (by rw [c12]; decide) (by rw [c12]; rfl) (by decide) ?_
    refine T_aload_n dX9_count_198 rfl 0 rfl ?_
    refine T_getR dX9_count_199 fl_RX9_51 h (fun a50 h => ?_)
    refine T_callVI (As := []) (rest := []) (b := a50) (ci := 3) dX9_count_202 mc_X3_size mi_X3_size ml_RX9_190 rfl (fun _ hr => chk_of hr) rfl rfl (Nat.le_of_ble_eq_true rfl) ⟨⟨Nat.le_of_ble_eq_true rfl, Nat.le_of_ble_eq_true rfl⟩, ⟨Nat.le_of_ble_eq_true rfl, Nat.le_of_ble_eq_true rfl⟩⟩ K_X3_size h (fun i51 s52 h => ?_)
    exact T_ireturn dX9_count_205 (Nat.le_of_ble_eq_true rfl) (Nat.le_of_ble_eq_true rfl) h
  refine T_tableOut 206 dX9_count_1 (by have e0 := lv_neT (a := 0) c0 rfl; have e1 := lv_neT (a := 1) c1 rfl; have e2 := lv_neT (a := 2) c2 rfl; have e3 := lv_neT (a := 3) c3 rfl; have e4 := lv_neT (a := 4) c4 rfl; have e5 := lv_neT (a := 5) c5 rfl; have e6 := lv_neT (a := 6) c6 rfl; have e7 := lv_neT (a := 7) c7 rfl; have e8 := lv_neT (a := 8) c8 rfl; have e9 := lv_neT (a := 9) c9 rfl; have e10 := lv_neT (a := 10) c10 rfl; have e11 := lv_neT (a := 11) c11 rfl; have e12 := lv_neT (a := 12) c12 rfl; omega) (by decide) ?_
  refine T_bipush (-2 : Int32) dX9_count_206 (by decide) ?_
  exact T_ireturn dX9_count_208 (Nat.le_of_ble_eq_true rfl) (Nat.le_of_ble_eq_true rfl) h

def D_X9_init (a0 : Nat) (s0 : Hp) : Option Hp :=
  (isO s0 a0 8).bind fun _ =>
  nm (newO s0 2 [.null, .null, .null, .null, .null, .null, .int 0, .int 0, .int 0, .int 0]) fun s11 =>
  (D_X2_init s0.1 s11).bind fun s12 =>
  (putV s12 a0 8 0 (.ref s0.1)).bind fun s13 =>
  nm (newO s13 4 [.null, .null, .null, .null, .null, .null, .int 0, .int 0]) fun s14 =>
  (getR s14 a0 8 0).bind fun a15 =>
  (D_X4_init s13.1 a15 s14).bind fun s16 =>
  (putV s16 a0 8 1 (.ref s13.1)).bind fun s17 =>
  nm (newO s17 0 [.null, .null, .null, .int 0, .int 0]) fun s18 =>
  (getR s18 a0 8 0).bind fun a19 =>
  (D_X0_init s17.1 a19 s18).bind fun s20 =>
  (putV s20 a0 8 2 (.ref s17.1)).bind fun s21 =>
  nm (newO s21 5 [.null, .int 0]) fun s22 =>
  (D_X5_init s21.1 s22).bind fun s23 =>
  (putV s23 a0 8 3 (.ref s21.1)).bind fun s24 =>
  nm (newO s24 6 [.null, .null, .null, .null, .null, .int 0, .int 0, .int 0]) fun s25 =>
  (getR s25 a0 8 3).bind fun a26 =>
  (D_X6_init s24.1 a26 s25).bind fun s27 =>
  (putV s27 a0 8 4 (.ref s24.1)).bind fun s28 =>
  nm (newO s28 3 [.null, .int 0, .int 0]) fun s29 =>
  (D_X3_init s28.1 s29).bind fun s30 =>
  (putV s30 a0 8 5 (.ref s28.1)).bind fun s31 =>
  nm (newO s31 7 [.null]) fun s32 =>
  (D_X7_init s31.1 (2 : Int32) s32).bind fun s33 =>
  (putV s33 a0 8 6 (.ref s31.1)).bind fun s34 =>
  (putI s34 a0 8 7 (0 : Int32)).bind fun s35 =>
  some s35
set_option maxRecDepth 100000 in
set_option maxHeartbeats 4000000 in
theorem K_X9_init {l : Launch} {a0 : Nat} {s0 : Hp} : ∀ P, OK jV (D_X9_init a0 s0) P → sm_Ct l yX9_init cX9_init 1 none 5 274 100339 [.ref a0] s0 P := by
  intro P h
  unfold D_X9_init at h
  obtain ⟨_, hb0, h⟩ := h.bind
  refine sm_enter (own := RX9) (lv := [(0, .ref a0)]) (by decide) rfl (Nat.le_of_ble_eq_true rfl) rfl (fun G => ?_)
  refine T_aload_n dX9_init_0 rfl 0 rfl ?_
  refine T_objInit dX9_init_1 ml_RX9_3 wd_1_7 wd_1_8 ⟨Nat.le_of_ble_eq_true rfl, Nat.le_of_ble_eq_true rfl⟩ ?_
  refine T_aload_n dX9_init_4 rfl 0 rfl ?_
  refine T_newO (C := RX2) (ci := 2) (fs := [.null, .null, .null, .null, .null, .null, .int 0, .int 0, .int 0, .int 0]) dX9_init_5 wd_1_9 wd_1_10 wd_1_11 ⟨TX2, tyX2, rfl, inlX2, tyX2_ok, by decide +kernel⟩ (Nat.le_of_ble_eq_true rfl) (Nat.le_of_ble_eq_true rfl) ?_
  refine T_nh h (fun s11 h => ?_)
  refine T_dup dX9_init_8 rfl ?_
  refine T_callIV (As := []) (rest := [.ref s0.1, .ref a0]) (b := s0.1) dX9_init_9 mc_X2_init mi_X2_init ml_RX9_11 rfl rfl (Nat.le_of_ble_eq_true rfl) ⟨⟨Nat.le_of_ble_eq_true rfl, Nat.le_of_ble_eq_true rfl⟩, ⟨Nat.le_of_ble_eq_true rfl, Nat.le_of_ble_eq_true rfl⟩⟩ K_X2_init h (fun s12 h => ?_)
  refine T_putF (rt := none) rfl dX9_init_12 fl_RX9_12 ft_8_0 rfl rfl rfl h (fun s13 h => ?_)
  refine T_aload_n dX9_init_15 rfl 0 rfl ?_
  refine T_newO (C := RX4) (ci := 4) (fs := [.null, .null, .null, .null, .null, .null, .int 0, .int 0]) dX9_init_16 wd_1_13 wd_1_14 wd_1_15 ⟨TX4, tyX4, rfl, inlX4, tyX4_ok, by decide +kernel⟩ (Nat.le_of_ble_eq_true rfl) (Nat.le_of_ble_eq_true rfl) ?_
  refine T_nh h (fun s14 h => ?_)
  refine T_dup dX9_init_19 rfl ?_
  refine T_aload_n dX9_init_20 rfl 0 rfl ?_
  refine T_getR dX9_init_21 fl_RX9_12 h (fun a15 h => ?_)
  refine T_callIV (As := [.ref a15]) (rest := [.ref s13.1, .ref a0]) (b := s13.1) dX9_init_24 mc_X4_init mi_X4_init ml_RX9_18 rfl rfl (Nat.le_of_ble_eq_true rfl) ⟨⟨Nat.le_of_ble_eq_true rfl, Nat.le_of_ble_eq_true rfl⟩, ⟨Nat.le_of_ble_eq_true rfl, Nat.le_of_ble_eq_true rfl⟩⟩ K_X4_init h (fun s16 h => ?_)
  refine T_putF (rt := none) rfl dX9_init_27 fl_RX9_21 ft_8_1 rfl rfl rfl h (fun s17 h => ?_)
  refine T_aload_n dX9_init_30 rfl 0 rfl ?_
  refine T_newO (C := RX0) (ci := 0) (fs := [.null, .null, .null, .int 0, .int 0]) dX9_init_31 wd_1_17 wd_1_18 wd_1_19 ⟨TX0, tyX0, rfl, inlX0, tyX0_ok, by decide +kernel⟩ (Nat.le_of_ble_eq_true rfl) (Nat.le_of_ble_eq_true rfl) ?_
  refine T_nh h (fun s18 h => ?_)
  refine T_dup dX9_init_34 rfl ?_
  refine T_aload_n dX9_init_35 rfl 0 rfl ?_
  refine T_getR dX9_init_36 fl_RX9_12 h (fun a19 h => ?_)
  refine T_callIV (As := [.ref a19]) (rest := [.ref s17.1, .ref a0]) (b := s17.1) dX9_init_39 mc_X0_init mi_X0_init ml_RX9_27 rfl rfl (Nat.le_of_ble_eq_true rfl) ⟨⟨Nat.le_of_ble_eq_true rfl, Nat.le_of_ble_eq_true rfl⟩, ⟨Nat.le_of_ble_eq_true rfl, Nat.le_of_ble_eq_true rfl⟩⟩ K_X0_init h (fun s20 h => ?_)
  refine T_putF (rt := none) rfl dX9_init_42 fl_RX9_28 ft_8_2 rfl rfl rfl h (fun s21 h => ?_)
  refine T_aload_n dX9_init_45 rfl 0 rfl ?_
  refine T_newO (C := RX5) (ci := 5) (fs := [.null, .int 0]) dX9_init_46 wd_1_21 wd_1_22 wd_1_23 ⟨TX5, tyX5, rfl, inlX5, tyX5_ok, by decide +kernel⟩ (Nat.le_of_ble_eq_true rfl) (Nat.le_of_ble_eq_true rfl) ?_
  refine T_nh h (fun s22 h => ?_)
  refine T_dup dX9_init_49 rfl ?_
  refine T_callINV (As := []) (rest := [.ref s21.1, .ref a0]) (b := s21.1) dX9_init_50 mc_X5_init mi_X5_init ml_RX9_34 rfl rfl (Nat.le_of_ble_eq_true rfl) ⟨⟨Nat.le_of_ble_eq_true rfl, Nat.le_of_ble_eq_true rfl⟩, ⟨Nat.le_of_ble_eq_true rfl, Nat.le_of_ble_eq_true rfl⟩⟩ K_X5_init h (fun s23 h => ?_)
  refine T_putF (rt := none) rfl dX9_init_53 fl_RX9_35 ft_8_3 rfl rfl rfl h (fun s24 h => ?_)
  refine T_aload_n dX9_init_56 rfl 0 rfl ?_
  refine T_newO (C := RX6) (ci := 6) (fs := [.null, .null, .null, .null, .null, .int 0, .int 0, .int 0]) dX9_init_57 wd_2_1 wd_2_2 wd_2_3 ⟨TX6, tyX6, rfl, inlX6, tyX6_ok, by decide +kernel⟩ (Nat.le_of_ble_eq_true rfl) (Nat.le_of_ble_eq_true rfl) ?_
  refine T_nh h (fun s25 h => ?_)
  refine T_dup dX9_init_60 rfl ?_
  refine T_aload_n dX9_init_61 rfl 0 rfl ?_
  refine T_getR dX9_init_62 fl_RX9_35 h (fun a26 h => ?_)
  refine T_callIV (As := [.ref a26]) (rest := [.ref s24.1, .ref a0]) (b := s24.1) dX9_init_65 mc_X6_init mi_X6_init ml_RX9_41 rfl rfl (Nat.le_of_ble_eq_true rfl) ⟨⟨Nat.le_of_ble_eq_true rfl, Nat.le_of_ble_eq_true rfl⟩, ⟨Nat.le_of_ble_eq_true rfl, Nat.le_of_ble_eq_true rfl⟩⟩ K_X6_init h (fun s27 h => ?_)
  refine T_putF (rt := none) rfl dX9_init_68 fl_RX9_44 ft_8_4 rfl rfl rfl h (fun s28 h => ?_)
  refine T_aload_n dX9_init_71 rfl 0 rfl ?_
  refine T_newO (C := RX3) (ci := 3) (fs := [.null, .int 0, .int 0]) dX9_init_72 wd_2_5 wd_2_6 wd_2_7 ⟨TX3, tyX3, rfl, inlX3, tyX3_ok, by decide +kernel⟩ (Nat.le_of_ble_eq_true rfl) (Nat.le_of_ble_eq_true rfl) ?_
  refine T_nh h (fun s29 h => ?_)
  refine T_dup dX9_init_75 rfl ?_
  refine T_callINV (As := []) (rest := [.ref s28.1, .ref a0]) (b := s28.1) dX9_init_76 mc_X3_init mi_X3_init ml_RX9_50 rfl rfl (Nat.le_of_ble_eq_true rfl) ⟨⟨Nat.le_of_ble_eq_true rfl, Nat.le_of_ble_eq_true rfl⟩, ⟨Nat.le_of_ble_eq_true rfl, Nat.le_of_ble_eq_true rfl⟩⟩ K_X3_init h (fun s30 h => ?_)
  refine T_putF (rt := none) rfl dX9_init_79 fl_RX9_51 ft_8_5 rfl rfl rfl h (fun s31 h => ?_)
  refine T_aload_n dX9_init_82 rfl 0 rfl ?_
  refine T_newO (C := RX7) (ci := 7) (fs := [.null]) dX9_init_83 wd_2_9 wd_2_10 wd_2_11 ⟨TX7, tyX7, rfl, inlX7, tyX7_ok, by decide +kernel⟩ (Nat.le_of_ble_eq_true rfl) (Nat.le_of_ble_eq_true rfl) ?_
  refine T_nh h (fun s32 h => ?_)
  refine T_dup dX9_init_86 rfl ?_
  refine T_iconst (2 : Int32) dX9_init_87 (by decide) ?_
  refine T_callIV (As := [.int (2 : Int32)]) (rest := [.ref s31.1, .ref a0]) (b := s31.1) dX9_init_88 mc_X7_init mi_X7_init ml_RX9_57 rfl rfl (Nat.le_of_ble_eq_true rfl) ⟨⟨Nat.le_of_ble_eq_true rfl, Nat.le_of_ble_eq_true rfl⟩, ⟨Nat.le_of_ble_eq_true rfl, Nat.le_of_ble_eq_true rfl⟩⟩ K_X7_init h (fun s33 h => ?_)
  refine T_putF (rt := none) rfl dX9_init_91 fl_RX9_60 ft_8_6 rfl rfl rfl h (fun s34 h => ?_)
  refine T_aload_n dX9_init_94 rfl 0 rfl ?_
  refine T_iconst (0 : Int32) dX9_init_95 (by decide) ?_
  refine T_putI dX9_init_96 fl_RX9_64 ft_8_7 h (fun s35 h => ?_)
  exact T_vreturn dX9_init_99 (Nat.le_of_ble_eq_true rfl) (Nat.le_of_ble_eq_true rfl) h

def D_X9_leastLimit (a0 : Nat) (s0 : Hp) : Option (Int32 × Hp) :=
  (isO s0 a0 8).bind fun _ =>
  (getR s0 a0 8 2).bind fun a11 =>
  bd (D_X0_limitForAll a11 s0) fun i12 s13 =>
  some (i12, s13)
set_option maxRecDepth 100000 in
set_option maxHeartbeats 4000000 in
theorem K_X9_leastLimit {l : Launch} {a0 : Nat} {s0 : Hp} : ∀ P, OK jI (D_X9_leastLimit a0 s0) P → sm_Ct l yX9_leastLimit cX9_leastLimit 1 (some .int) 5 0 0 [.ref a0] s0 P := by
  intro P h
  unfold D_X9_leastLimit at h
  obtain ⟨_, hb0, h⟩ := h.bind
  refine sm_enter (own := RX9) (lv := [(0, .ref a0)]) (by decide) rfl (Nat.le_of_ble_eq_true rfl) rfl (fun G => ?_)
  refine T_aload_n dX9_leastLimit_0 rfl 0 rfl ?_
  refine T_getR dX9_leastLimit_1 fl_RX9_28 h (fun a11 h => ?_)
  refine T_callVI (As := []) (rest := []) (b := a11) (ci := 0) dX9_leastLimit_4 mc_X0_limitForAll mi_X0_limitForAll ml_RX9_212 rfl (fun _ hr => chk_of hr) rfl rfl (Nat.le_of_ble_eq_true rfl) ⟨⟨Nat.le_of_ble_eq_true rfl, Nat.le_of_ble_eq_true rfl⟩, ⟨Nat.le_of_ble_eq_true rfl, Nat.le_of_ble_eq_true rfl⟩⟩ K_X0_limitForAll h (fun i12 s13 h => ?_)
  exact T_ireturn dX9_leastLimit_7 (Nat.le_of_ble_eq_true rfl) (Nat.le_of_ble_eq_true rfl) h

def D_X9_mirror (a0 : Nat) (i1 : Int32) (i2 : Int32) (i3 : Int32) (s0 : Hp) : Option (Int32 × Hp) :=
  (isO s0 a0 8).bind fun _ =>
  (getR s0 a0 8 5).bind fun a11 =>
  (getR s0 a0 8 0).bind fun a12 =>
  (D_X3_note a11 a12 s0).bind fun s13 =>
  (getR s13 a0 8 0).bind fun a14 =>
  bd (D_X2_place a14 i1 i2 i3 s13) fun i15 s16 =>
  bd (D_X9_recorded a0 i15 s16) fun i17 s18 =>
  some (i17, s18)
set_option maxRecDepth 100000 in
set_option maxHeartbeats 4000000 in
theorem K_X9_mirror {l : Launch} {a0 : Nat} {i1 : Int32} {i2 : Int32} {i3 : Int32} {s0 : Hp} : ∀ P, OK jI (D_X9_mirror a0 i1 i2 i3 s0) P → sm_Ct l yX9_mirror cX9_mirror 4 (some .int) 5 0 0 [.ref a0, .int i1, .int i2, .int i3] s0 P := by
  intro P h
  unfold D_X9_mirror at h
  obtain ⟨_, hb0, h⟩ := h.bind
  refine sm_enter (own := RX9) (lv := [(0, .ref a0), (1, .int i1), (2, .int i2), (3, .int i3)]) (by decide) rfl (Nat.le_of_ble_eq_true rfl) rfl (fun G => ?_)
  refine T_aload_n dX9_mirror_0 rfl 0 rfl ?_
  refine T_getR dX9_mirror_1 fl_RX9_51 h (fun a11 h => ?_)
  refine T_aload_n dX9_mirror_4 rfl 0 rfl ?_
  refine T_getR dX9_mirror_5 fl_RX9_12 h (fun a12 h => ?_)
  refine T_callVV (As := [.ref a12]) (rest := []) (b := a11) (ci := 3) dX9_mirror_8 mc_X3_note mi_X3_note ml_RX9_68 rfl (fun _ hr => chk_of hr) rfl rfl (Nat.le_of_ble_eq_true rfl) ⟨⟨Nat.le_of_ble_eq_true rfl, Nat.le_of_ble_eq_true rfl⟩, ⟨Nat.le_of_ble_eq_true rfl, Nat.le_of_ble_eq_true rfl⟩⟩ K_X3_note h (fun s13 h => ?_)
  refine T_aload_n dX9_mirror_11 rfl 0 rfl ?_
  refine T_aload_n dX9_mirror_12 rfl 0 rfl ?_
  refine T_getR dX9_mirror_13 fl_RX9_12 h (fun a14 h => ?_)
  refine T_iload_n dX9_mirror_16 rfl 1 rfl ?_
  refine T_iload_n dX9_mirror_17 rfl 2 rfl ?_
  refine T_iload_n dX9_mirror_18 rfl 3 rfl ?_
  refine T_callVI (As := [.int i1, .int i2, .int i3]) (rest := [.ref a0]) (b := a14) (ci := 2) dX9_mirror_19 mc_X2_place mi_X2_place ml_RX9_79 rfl (fun _ hr => chk_of hr) rfl rfl (Nat.le_of_ble_eq_true rfl) ⟨⟨Nat.le_of_ble_eq_true rfl, Nat.le_of_ble_eq_true rfl⟩, ⟨Nat.le_of_ble_eq_true rfl, Nat.le_of_ble_eq_true rfl⟩⟩ K_X2_place h (fun i15 s16 h => ?_)
  refine T_callVI (As := [.int i15]) (rest := []) (b := a0) (ci := 8) dX9_mirror_22 mc_X9_recorded mi_X9_recorded ml_RX9_75 rfl (fun _ hr => chk_of hr) rfl rfl (Nat.le_of_ble_eq_true rfl) ⟨⟨Nat.le_of_ble_eq_true rfl, Nat.le_of_ble_eq_true rfl⟩, ⟨Nat.le_of_ble_eq_true rfl, Nat.le_of_ble_eq_true rfl⟩⟩ K_X9_recorded h (fun i17 s18 h => ?_)
  exact T_ireturn dX9_mirror_25 (Nat.le_of_ble_eq_true rfl) (Nat.le_of_ble_eq_true rfl) h

def D_X9_pass (a0 : Nat) (i1 : Int32) (s0 : Hp) : Option (Int32 × Hp) :=
  (isO s0 a0 8).bind fun _ =>
  (getR s0 a0 8 5).bind fun a11 =>
  (getR s0 a0 8 0).bind fun a12 =>
  (D_X3_note a11 a12 s0).bind fun s13 =>
  (getR s13 a0 8 1).bind fun a14 =>
  bd (D_X4_spend a14 i1 s13) fun i15 s16 =>
  bd (D_X9_recorded a0 i15 s16) fun i17 s18 =>
  some (i17, s18)
set_option maxRecDepth 100000 in
set_option maxHeartbeats 4000000 in
theorem K_X9_pass {l : Launch} {a0 : Nat} {i1 : Int32} {s0 : Hp} : ∀ P, OK jI (D_X9_pass a0 i1 s0) P → sm_Ct l yX9_pass cX9_pass 2 (some .int) 5 0 0 [.ref a0, .int i1] s0 P := by
  intro P h
  unfold D_X9_pass at h
  obtain ⟨_, hb0, h⟩ := h.bind
  refine sm_enter (own := RX9) (lv := [(0, .ref a0), (1, .int i1)]) (by decide) rfl (Nat.le_of_ble_eq_true rfl) rfl (fun G => ?_)
  refine T_aload_n dX9_pass_0 rfl 0 rfl ?_
  refine T_getR dX9_pass_1 fl_RX9_51 h (fun a11 h => ?_)
  refine T_aload_n dX9_pass_4 rfl 0 rfl ?_
  refine T_getR dX9_pass_5 fl_RX9_12 h (fun a12 h => ?_)
  refine T_callVV (As := [.ref a12]) (rest := []) (b := a11) (ci := 3) dX9_pass_8 mc_X3_note mi_X3_note ml_RX9_68 rfl (fun _ hr => chk_of hr) rfl rfl (Nat.le_of_ble_eq_true rfl) ⟨⟨Nat.le_of_ble_eq_true rfl, Nat.le_of_ble_eq_true rfl⟩, ⟨Nat.le_of_ble_eq_true rfl, Nat.le_of_ble_eq_true rfl⟩⟩ K_X3_note h (fun s13 h => ?_)
  refine T_aload_n dX9_pass_11 rfl 0 rfl ?_
  refine T_aload_n dX9_pass_12 rfl 0 rfl ?_
  refine T_getR dX9_pass_13 fl_RX9_21 h (fun a14 h => ?_)
  refine T_iload_n dX9_pass_16 rfl 1 rfl ?_
  refine T_callVI (As := [.int i1]) (rest := [.ref a0]) (b := a14) (ci := 4) dX9_pass_17 mc_X4_spend mi_X4_spend ml_RX9_95 rfl (fun _ hr => chk_of hr) rfl rfl (Nat.le_of_ble_eq_true rfl) ⟨⟨Nat.le_of_ble_eq_true rfl, Nat.le_of_ble_eq_true rfl⟩, ⟨Nat.le_of_ble_eq_true rfl, Nat.le_of_ble_eq_true rfl⟩⟩ K_X4_spend h (fun i15 s16 h => ?_)
  refine T_callVI (As := [.int i15]) (rest := []) (b := a0) (ci := 8) dX9_pass_20 mc_X9_recorded mi_X9_recorded ml_RX9_75 rfl (fun _ hr => chk_of hr) rfl rfl (Nat.le_of_ble_eq_true rfl) ⟨⟨Nat.le_of_ble_eq_true rfl, Nat.le_of_ble_eq_true rfl⟩, ⟨Nat.le_of_ble_eq_true rfl, Nat.le_of_ble_eq_true rfl⟩⟩ K_X9_recorded h (fun i17 s18 h => ?_)
  exact T_ireturn dX9_pass_23 (Nat.le_of_ble_eq_true rfl) (Nat.le_of_ble_eq_true rfl) h

def D_X9_set (a0 : Nat) (i1 : Int32) (i2 : Int32) (s0 : Hp) : Option (Int32 × Hp) :=
  (isO s0 a0 8).bind fun _ =>
  (getR s0 a0 8 5).bind fun a11 =>
  (getR s0 a0 8 0).bind fun a12 =>
  (D_X3_note a11 a12 s0).bind fun s13 =>
  (getR s13 a0 8 0).bind fun a14 =>
  bd (D_X2_changeSetting a14 i1 i2 s13) fun i15 s16 =>
  bd (D_X9_recorded a0 i15 s16) fun i17 s18 =>
  some (i17, s18)
set_option maxRecDepth 100000 in
set_option maxHeartbeats 4000000 in
theorem K_X9_set {l : Launch} {a0 : Nat} {i1 : Int32} {i2 : Int32} {s0 : Hp} : ∀ P, OK jI (D_X9_set a0 i1 i2 s0) P → sm_Ct l yX9_set cX9_set 3 (some .int) 5 0 0 [.ref a0, .int i1, .int i2] s0 P := by
  intro P h
  unfold D_X9_set at h
  obtain ⟨_, hb0, h⟩ := h.bind
  refine sm_enter (own := RX9) (lv := [(0, .ref a0), (1, .int i1), (2, .int i2)]) (by decide) rfl (Nat.le_of_ble_eq_true rfl) rfl (fun G => ?_)
  refine T_aload_n dX9_set_0 rfl 0 rfl ?_
  refine T_getR dX9_set_1 fl_RX9_51 h (fun a11 h => ?_)
  refine T_aload_n dX9_set_4 rfl 0 rfl ?_
  refine T_getR dX9_set_5 fl_RX9_12 h (fun a12 h => ?_)
  refine T_callVV (As := [.ref a12]) (rest := []) (b := a11) (ci := 3) dX9_set_8 mc_X3_note mi_X3_note ml_RX9_68 rfl (fun _ hr => chk_of hr) rfl rfl (Nat.le_of_ble_eq_true rfl) ⟨⟨Nat.le_of_ble_eq_true rfl, Nat.le_of_ble_eq_true rfl⟩, ⟨Nat.le_of_ble_eq_true rfl, Nat.le_of_ble_eq_true rfl⟩⟩ K_X3_note h (fun s13 h => ?_)
  refine T_aload_n dX9_set_11 rfl 0 rfl ?_
  refine T_aload_n dX9_set_12 rfl 0 rfl ?_
  refine T_getR dX9_set_13 fl_RX9_12 h (fun a14 h => ?_)
  refine T_iload_n dX9_set_16 rfl 1 rfl ?_
  refine T_iload_n dX9_set_17 rfl 2 rfl ?_
  refine T_callVI (As := [.int i1, .int i2]) (rest := [.ref a0]) (b := a14) (ci := 2) dX9_set_18 mc_X2_changeSetting mi_X2_changeSetting ml_RX9_71 rfl (fun _ hr => chk_of hr) rfl rfl (Nat.le_of_ble_eq_true rfl) ⟨⟨Nat.le_of_ble_eq_true rfl, Nat.le_of_ble_eq_true rfl⟩, ⟨Nat.le_of_ble_eq_true rfl, Nat.le_of_ble_eq_true rfl⟩⟩ K_X2_changeSetting h (fun i15 s16 h => ?_)
  refine T_callVI (As := [.int i15]) (rest := []) (b := a0) (ci := 8) dX9_set_21 mc_X9_recorded mi_X9_recorded ml_RX9_75 rfl (fun _ hr => chk_of hr) rfl rfl (Nat.le_of_ble_eq_true rfl) ⟨⟨Nat.le_of_ble_eq_true rfl, Nat.le_of_ble_eq_true rfl⟩, ⟨Nat.le_of_ble_eq_true rfl, Nat.le_of_ble_eq_true rfl⟩⟩ K_X9_recorded h (fun i17 s18 h => ?_)
  exact T_ireturn dX9_set_24 (Nat.le_of_ble_eq_true rfl) (Nat.le_of_ble_eq_true rfl) h
