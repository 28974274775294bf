def D_X9_restore (a0 : Nat) (i1 : Int32) (s0 : Hp) : Option (Int32 × Hp) :=
  (isO s0 a0 8).bind fun _ =>
  bd (D_X9_isSlot i1 s0) fun i11 s12 =>
  if i11 = 0 then
  some ((-2 : Int32), s12)
  else
  (getI s12 a0 8 7).bind fun i13 =>
  if ((i13 >>> (i1 &&& 31)) &&& (1 : Int32)) = 0 then
  some ((-5 : Int32), s12)
  else
  (getR s12 a0 8 5).bind fun a14 =>
  (getR s12 a0 8 0).bind fun a15 =>
  (D_X3_note a14 a15 s12).bind fun s16 =>
  (getR s16 a0 8 6).bind fun a17 =>
  (getR s16 a0 8 0).bind fun a18 =>
  (D_X7_bringBack a17 i1 a18 s16).bind fun s19 =>
  (getR s19 a0 8 0).bind fun a20 =>
  (getI s19 a20 2 6).bind fun i21 =>
  bd (D_X9_recorded a0 i21 s19) fun i22 s23 =>
  some (i22, s23)
set_option maxRecDepth 100000 in
set_option maxHeartbeats 4000000 in
theorem K_X9_restore {l : Launch} {a0 : Nat} {i1 : Int32} {s0 : Hp} : ∀ P, OK jI (D_X9_restore a0 i1 s0) P → sm_Ct l yX9_restore cX9_restore 2 (some .int) 5 0 0 [.ref a0, .int i1] s0 P := by
  intro P h
  unfold D_X9_restore at h
  obtain ⟨_, hb0, h⟩ := h.bind
  refine sm_enter (own := RX9) (lv := [(0, .ref a0), (1, .int i1)]) (by decide) rfl (Nat.le_of_ble_eq_true rfl) rfl (fun G => ?_)
  refine T_iload_n dX9_restore_0 rfl 1 rfl ?_
  refine T_callSI (As := [.int i1]) (rest := []) dX9_restore_1 mc_X9_isSlot mi_X9_isSlot ml_RX9_234 rfl rfl (Nat.le_of_ble_eq_true rfl) ⟨⟨Nat.le_of_ble_eq_true rfl, Nat.le_of_ble_eq_true rfl⟩, ⟨Nat.le_of_ble_eq_true rfl, Nat.le_of_ble_eq_true rfl⟩⟩ K_X9_isSlot h (fun i11 s12 h => ?_)
  refine T_if_ne 10 dX9_restore_4 (by decide) h (fun _ h => ?_) (fun _ h => ?_)
  · refine T_aload_n dX9_restore_10 rfl 0 rfl ?_
    refine T_getI dX9_restore_11 fl_RX9_64 h (fun i13 h => ?_)
    refine T_iload_n dX9_restore_14 rfl 1 rfl ?_
    refine T_ishr dX9_restore_15 ?_
    refine T_iconst (1 : Int32) dX9_restore_16 (by decide) ?_
    refine T_iand dX9_restore_17 ?_
    refine T_if_ne 24 dX9_restore_18 (by decide) h (fun _ h => ?_) (fun _ h => ?_)
    · refine T_aload_n dX9_restore_24 rfl 0 rfl ?_
      refine T_getR dX9_restore_25 fl_RX9_51 h (fun a14 h => ?_)
      refine T_aload_n dX9_restore_28 rfl 0 rfl ?_
      refine T_getR dX9_restore_29 fl_RX9_12 h (fun a15 h => ?_)
      refine T_callVV (As := [.ref a15]) (rest := []) (b := a14) (ci := 3) dX9_restore_32 mc_X3_note mi_X3_note ml_RX9_68 rfl (fun _ hr => chk_of hr) rfl rfl (Nat.le_of_ble_eq_true rfl) ⟨⟨Nat.le_of_ble_eq_true rfl, Nat.le_of_ble_eq_true rfl⟩, ⟨Nat.le_of_ble_eq_true rfl, Nat.le_of_ble_eq_true rfl⟩⟩ K_X3_note h (fun s16 h => ?_)
      refine T_aload_n dX9_restore_35 rfl 0 rfl ?_
      refine T_getR dX9_restore_36 fl_RX9_60 h (fun a17 h => ?_)
      refine T_iload_n dX9_restore_39 rfl 1 rfl ?_
      refine T_aload_n dX9_restore_40 rfl 0 rfl ?_
      refine T_getR dX9_restore_41 fl_RX9_12 h (fun a18 h => ?_)
      refine T_callVV (As := [.int i1, .ref a18]) (rest := []) (b := a17) (ci := 7) dX9_restore_44 mc_X7_bringBack mi_X7_bringBack ml_RX9_241 rfl (fun _ hr => chk_of hr) rfl rfl (Nat.le_of_ble_eq_true rfl) ⟨⟨Nat.le_of_ble_eq_true rfl, Nat.le_of_ble_eq_true rfl⟩, ⟨Nat.le_of_ble_eq_true rfl, Nat.le_of_ble_eq_true rfl⟩⟩ K_X7_bringBack h (fun s19 h => ?_)
      refine T_aload_n dX9_restore_47 rfl 0 rfl ?_
      refine T_aload_n dX9_restore_48 rfl 0 rfl ?_
      refine T_getR dX9_restore_49 fl_RX9_12 h (fun a20 h => ?_)
      refine T_getI dX9_restore_52 fl_RX9_162 h (fun i21 h => ?_)
      refine T_callVI (As := [.int i21]) (rest := []) (b := a0) (ci := 8) dX9_restore_55 mc_X9_recorded mi_X9_recorded ml_RX9_75 rfl (fun _ hr => chk_of hr) rfl rfl (Nat.le_of_ble_eq_true rfl) ⟨⟨Nat.le_of_ble_eq_true rfl, Nat.le_of_ble_eq_true rfl⟩, ⟨Nat.le_of_ble_eq_true rfl, Nat.le_of_ble_eq_true rfl⟩⟩ K_X9_recorded h (fun i22 s23 h => ?_)
      exact T_ireturn dX9_restore_58 (Nat.le_of_ble_eq_true rfl) (Nat.le_of_ble_eq_true rfl) h
    · refine T_bipush (-5 : Int32) dX9_restore_21 (by decide) ?_
      exact T_ireturn dX9_restore_23 (Nat.le_of_ble_eq_true rfl) (Nat.le_of_ble_eq_true rfl) h
  · refine T_bipush (-2 : Int32) dX9_restore_7 (by decide) ?_
    exact T_ireturn dX9_restore_9 (Nat.le_of_ble_eq_true rfl) (Nat.le_of_ble_eq_true rfl) h

def D_X9_set (a0 : Nat) (i1 : Int32) (i2 : Int32) (s0 : Hp) : Option (Int32 × Hp) :=
  (isO s0 a0 8).bind fun _ =>
  (getR s0 a0 8 5).bind fun a11 =>
  (getR s0 a0 8 0).bind fun a12 =>
  (D_X3_note a11 a12 s0).bind fun s13 =>
  (getR s13 a0 8 0).bind fun a14 =>
  bd (D_X2_changeSetting a14 i1 i2 s13) fun i15 s16 =>
  bd (D_X9_recorded a0 i15 s16) fun i17 s18 =>
  some (i17, s18)
set_option maxRecDepth 100000 in
set_option maxHeartbeats 4000000 in
theorem K_X9_set {l : Launch} {a0 : Nat} {i1 : Int32} {i2 : Int32} {s0 : Hp} : ∀ P, OK jI (D_X9_set a0 i1 i2 s0) P → sm_Ct l yX9_set cX9_set 3 (some .int) 5 0 0 [.ref a0, .int i1, .int i2] s0 P := by
  intro P h
  unfold D_X9_set at h
  obtain ⟨_, hb0, h⟩ := h.bind
  refine sm_enter (own := RX9) (lv := [(0, .ref a0), (1, .int i1), (2, .int i2)]) (by decide) rfl (Nat.le_of_ble_eq_true rfl) rfl (fun G => ?_)
  refine T_aload_n dX9_set_0 rfl 0 rfl ?_
  refine T_getR dX9_set_1 fl_RX9_51 h (fun a11 h => ?_)
  refine T_aload_n dX9_set_4 rfl 0 rfl ?_
  refine T_getR dX9_set_5 fl_RX9_12 h (fun a12 h => ?_)
  refine T_callVV (As := [.ref a12]) (rest := []) (b := a11) (ci := 3) dX9_set_8 mc_X3_note mi_X3_note ml_RX9_68 rfl (fun _ hr => chk_of hr) rfl rfl (Nat.le_of_ble_eq_true rfl) ⟨⟨Nat.le_of_ble_eq_true rfl, Nat.le_of_ble_eq_true rfl⟩, ⟨Nat.le_of_ble_eq_true rfl, Nat.le_of_ble_eq_true rfl⟩⟩ K_X3_note h (fun s13 h => ?_)
  refine T_aload_n dX9_set_11 rfl 0 rfl ?_
  refine T_aload_n dX9_set_12 rfl 0 rfl ?_
  refine T_getR dX9_set_13 fl_RX9_12 h (fun a14 h => ?_)
  refine T_iload_n dX9_set_16 rfl 1 rfl ?_
  refine T_iload_n dX9_set_17 rfl 2 rfl ?_
  refine T_callVI (As := [.int i1, .int i2]) (rest := [.ref a0]) (b := a14) (ci := 2) dX9_set_18 mc_X2_changeSetting mi_X2_changeSetting ml_RX9_71 rfl (fun _ hr => chk_of hr) rfl rfl (Nat.le_of_ble_eq_true rfl) ⟨⟨Nat.le_of_ble_eq_true rfl, Nat.le_of_ble_eq_true rfl⟩, ⟨Nat.le_of_ble_eq_true rfl, Nat.le_of_ble_eq_true rfl⟩⟩ K_X2_changeSetting h (fun i15 s16 h => ?_)
  refine T_callVI (As := [.int i15]) (rest := []) (b := a0) (ci := 8) dX9_set_21 mc_X9_recorded mi_X9_recorded ml_RX9_75 rfl (fun _ hr => chk_of hr) rfl rfl (Nat.le_of_ble_eq_true rfl) ⟨⟨Nat.le_of_ble_eq_true rfl, Nat.le_of_ble_eq_true rfl⟩, ⟨Nat.le_of_ble_eq_true rfl, Nat.le_of_ble_eq_true rfl⟩⟩ K_X9_recorded h (fun i17 s18 h => ?_)
  exact T_ireturn dX9_set_24 (Nat.le_of_ble_eq_true rfl) (Nat.le_of_ble_eq_true rfl) h

def D_X9_take (a0 : Nat) (i1 : Int32) (s0 : Hp) : Option (Int32 × Hp) :=
  (isO s0 a0 8).bind fun _ =>
  (getR s0 a0 8 5).bind fun a11 =>
  (getR s0 a0 8 0).bind fun a12 =>
  (D_X3_note a11 a12 s0).bind fun s13 =>
  (getR s13 a0 8 0).bind fun a14 =>
  bd (D_X2_remove a14 i1 s13) fun i15 s16 =>
  bd (D_X9_recorded a0 i15 s16) fun i17 s18 =>
  some (i17, s18)
set_option maxRecDepth 100000 in
set_option maxHeartbeats 4000000 in
theorem K_X9_take {l : Launch} {a0 : Nat} {i1 : Int32} {s0 : Hp} : ∀ P, OK jI (D_X9_take a0 i1 s0) P → sm_Ct l yX9_take cX9_take 2 (some .int) 5 0 0 [.ref a0, .int i1] s0 P := by
  intro P h
  unfold D_X9_take at h
  obtain ⟨_, hb0, h⟩ := h.bind
  refine sm_enter (own := RX9) (lv := [(0, .ref a0), (1, .int i1)]) (by decide) rfl (Nat.le_of_ble_eq_true rfl) rfl (fun G => ?_)
  refine T_aload_n dX9_take_0 rfl 0 rfl ?_
  refine T_getR dX9_take_1 fl_RX9_51 h (fun a11 h => ?_)
  refine T_aload_n dX9_take_4 rfl 0 rfl ?_
  refine T_getR dX9_take_5 fl_RX9_12 h (fun a12 h => ?_)
  refine T_callVV (As := [.ref a12]) (rest := []) (b := a11) (ci := 3) dX9_take_8 mc_X3_note mi_X3_note ml_RX9_68 rfl (fun _ hr => chk_of hr) rfl rfl (Nat.le_of_ble_eq_true rfl) ⟨⟨Nat.le_of_ble_eq_true rfl, Nat.le_of_ble_eq_true rfl⟩, ⟨Nat.le_of_ble_eq_true rfl, Nat.le_of_ble_eq_true rfl⟩⟩ K_X3_note h (fun s13 h => ?_)
  refine T_aload_n dX9_take_11 rfl 0 rfl ?_
  refine T_aload_n dX9_take_12 rfl 0 rfl ?_
  refine T_getR dX9_take_13 fl_RX9_12 h (fun a14 h => ?_)
  refine T_iload_n dX9_take_16 rfl 1 rfl ?_
  refine T_callVI (As := [.int i1]) (rest := [.ref a0]) (b := a14) (ci := 2) dX9_take_17 mc_X2_remove mi_X2_remove ml_RX9_83 rfl (fun _ hr => chk_of hr) rfl rfl (Nat.le_of_ble_eq_true rfl) ⟨⟨Nat.le_of_ble_eq_true rfl, Nat.le_of_ble_eq_true rfl⟩, ⟨Nat.le_of_ble_eq_true rfl, Nat.le_of_ble_eq_true rfl⟩⟩ K_X2_remove h (fun i15 s16 h => ?_)
  refine T_callVI (As := [.int i15]) (rest := []) (b := a0) (ci := 8) dX9_take_20 mc_X9_recorded mi_X9_recorded ml_RX9_75 rfl (fun _ hr => chk_of hr) rfl rfl (Nat.le_of_ble_eq_true rfl) ⟨⟨Nat.le_of_ble_eq_true rfl, Nat.le_of_ble_eq_true rfl⟩, ⟨Nat.le_of_ble_eq_true rfl, Nat.le_of_ble_eq_true rfl⟩⟩ K_X9_recorded h (fun i17 s18 h => ?_)
  exact T_ireturn dX9_take_23 (Nat.le_of_ble_eq_true rfl) (Nat.le_of_ble_eq_true rfl) h

def D_X9_undo (a0 : Nat) (s0 : Hp) : Option (Int32 × Hp) :=
  (isO s0 a0 8).bind fun _ =>
  (getR s0 a0 8 5).bind fun a11 =>
  (getR s0 a0 8 0).bind fun a12 =>
  bd (D_X3_stepBack a11 a12 s0) fun i13 s14 =>
  if i13 = 0 then
  some ((-5 : Int32), s14)
  else
  (getR s14 a0 8 5).bind fun a15 =>
  bd (D_X3_size a15 s14) fun i16 s17 =>
  some (i16, s17)
set_option maxRecDepth 100000 in
set_option maxHeartbeats 4000000 in
theorem K_X9_undo {l : Launch} {a0 : Nat} {s0 : Hp} : ∀ P, OK jI (D_X9_undo a0 s0) P → sm_Ct l yX9_undo cX9_undo 1 (some .int) 5 0 0 [.ref a0] s0 P := by
  intro P h
  unfold D_X9_undo at h
  obtain ⟨_, hb0, h⟩ := h.bind
  refine sm_enter (own := RX9) (lv := [(0, .ref a0)]) (by decide) rfl (Nat.le_of_ble_eq_true rfl) rfl (fun G => ?_)
  refine T_aload_n dX9_undo_0 rfl 0 rfl ?_
  refine T_getR dX9_undo_1 fl_RX9_51 h (fun a11 h => ?_)
  refine T_aload_n dX9_undo_4 rfl 0 rfl ?_
  refine T_getR dX9_undo_5 fl_RX9_12 h (fun a12 h => ?_)
  refine T_callVI (As := [.ref a12]) (rest := []) (b := a11) (ci := 3) dX9_undo_8 mc_X3_stepBack mi_X3_stepBack ml_RX9_230 rfl (fun _ hr => chk_of hr) rfl rfl (Nat.le_of_ble_eq_true rfl) ⟨⟨Nat.le_of_ble_eq_true rfl, Nat.le_of_ble_eq_true rfl⟩, ⟨Nat.le_of_ble_eq_true rfl, Nat.le_of_ble_eq_true rfl⟩⟩ K_X3_stepBack h (fun i13 s14 h => ?_)
  refine T_if_eq 24 dX9_undo_11 (by decide) h (fun _ h => ?_) (fun _ h => ?_)
  · refine T_bipush (-5 : Int32) dX9_undo_24 (by decide) ?_
    exact T_ireturn dX9_undo_26 (Nat.le_of_ble_eq_true rfl) (Nat.le_of_ble_eq_true rfl) h
  · refine T_aload_n dX9_undo_14 rfl 0 rfl ?_
    refine T_getR dX9_undo_15 fl_RX9_51 h (fun a15 h => ?_)
    refine T_callVI (As := []) (rest := []) (b := a15) (ci := 3) dX9_undo_18 mc_X3_size mi_X3_size ml_RX9_190 rfl (fun _ hr => chk_of hr) rfl rfl (Nat.le_of_ble_eq_true rfl) ⟨⟨Nat.le_of_ble_eq_true rfl, Nat.le_of_ble_eq_true rfl⟩, ⟨Nat.le_of_ble_eq_true rfl, Nat.le_of_ble_eq_true rfl⟩⟩ K_X3_size h (fun i16 s17 h => ?_)
    refine T_goto 26 dX9_undo_21 (by decide) ?_
    exact T_ireturn dX9_undo_26 (Nat.le_of_ble_eq_true rfl) (Nat.le_of_ble_eq_true rfl) h

def D_X9_wash (a0 : Nat) (i1 : Int32) (s0 : Hp) : Option (Int32 × Hp) :=
  (isO s0 a0 8).bind fun _ =>
  (getR s0 a0 8 5).bind fun a11 =>
  (getR s0 a0 8 0).bind fun a12 =>
  (D_X3_note a11 a12 s0).bind fun s13 =>
  (getR s13 a0 8 0).bind fun a14 =>
  bd (D_X2_clean a14 i1 s13) fun i15 s16 =>
  bd (D_X9_recorded a0 i15 s16) fun i17 s18 =>
  some (i17, s18)
set_option maxRecDepth 100000 in
set_option maxHeartbeats 4000000 in
theorem K_X9_wash {l : Launch} {a0 : Nat} {i1 : Int32} {s0 : Hp} : ∀ P, OK jI (D_X9_wash a0 i1 s0) P → sm_Ct l yX9_wash cX9_wash 2 (some .int) 5 0 0 [.ref a0, .int i1] s0 P := by
  intro P h
  unfold D_X9_wash at h
  obtain ⟨_, hb0, h⟩ := h.bind
  refine sm_enter (own := RX9) (lv := [(0, .ref a0), (1, .int i1)]) (by decide) rfl (Nat.le_of_ble_eq_true rfl) rfl (fun G => ?_)
  refine T_aload_n dX9_wash_0 rfl 0 rfl ?_
  refine T_getR dX9_wash_1 fl_RX9_51 h (fun a11 h => ?_)
  refine T_aload_n dX9_wash_4 rfl 0 rfl ?_
  refine T_getR dX9_wash_5 fl_RX9_12 h (fun a12 h => ?_)
  refine T_callVV (As := [.ref a12]) (rest := []) (b := a11) (ci := 3) dX9_wash_8 mc_X3_note mi_X3_note ml_RX9_68 rfl (fun _ hr => chk_of hr) rfl rfl (Nat.le_of_ble_eq_true rfl) ⟨⟨Nat.le_of_ble_eq_true rfl, Nat.le_of_ble_eq_true rfl⟩, ⟨Nat.le_of_ble_eq_true rfl, Nat.le_of_ble_eq_true rfl⟩⟩ K_X3_note h (fun s13 h => ?_)
  refine T_aload_n dX9_wash_11 rfl 0 rfl ?_
  refine T_aload_n dX9_wash_12 rfl 0 rfl ?_
  refine T_getR dX9_wash_13 fl_RX9_12 h (fun a14 h => ?_)
  refine T_iload_n dX9_wash_16 rfl 1 rfl ?_
  refine T_callVI (As := [.int i1]) (rest := [.ref a0]) (b := a14) (ci := 2) dX9_wash_17 mc_X2_clean mi_X2_clean ml_RX9_89 rfl (fun _ hr => chk_of hr) rfl rfl (Nat.le_of_ble_eq_true rfl) ⟨⟨Nat.le_of_ble_eq_true rfl, Nat.le_of_ble_eq_true rfl⟩, ⟨Nat.le_of_ble_eq_true rfl, Nat.le_of_ble_eq_true rfl⟩⟩ K_X2_clean h (fun i15 s16 h => ?_)
  refine T_callVI (As := [.int i15]) (rest := []) (b := a0) (ci := 8) dX9_wash_20 mc_X9_recorded mi_X9_recorded ml_RX9_75 rfl (fun _ hr => chk_of hr) rfl rfl (Nat.le_of_ble_eq_true rfl) ⟨⟨Nat.le_of_ble_eq_true rfl, Nat.le_of_ble_eq_true rfl⟩, ⟨Nat.le_of_ble_eq_true rfl, Nat.le_of_ble_eq_true rfl⟩⟩ K_X9_recorded h (fun i17 s18 h => ?_)
  exact T_ireturn dX9_wash_23 (Nat.le_of_ble_eq_true rfl) (Nat.le_of_ble_eq_true rfl) h

def D_X9_wind (a0 : Nat) (i1 : Int32) (s0 : Hp) : Option (Int32 × Hp) :=
  (isO s0 a0 8).bind fun _ =>
  (getR s0 a0 8 5).bind fun a11 =>
  (getR s0 a0 8 0).bind fun a12 =>
  (D_X3_note a11 a12 s0).bind fun s13 =>
  (getR s13 a0 8 0).bind fun a14 =>
  bd (D_X2_blow a14 i1 s13) fun i15 s16 =>
  bd (D_X9_recorded a0 i15 s16) fun i17 s18 =>
  some (i17, s18)
set_option maxRecDepth 100000 in
set_option maxHeartbeats 4000000 in
theorem K_X9_wind {l : Launch} {a0 : Nat} {i1 : Int32} {s0 : Hp} : ∀ P, OK jI (D_X9_wind a0 i1 s0) P → sm_Ct l yX9_wind cX9_wind 2 (some .int) 5 0 0 [.ref a0, .int i1] s0 P := by
  intro P h
  unfold D_X9_wind at h
  obtain ⟨_, hb0, h⟩ := h.bind
  refine sm_enter (own := RX9) (lv := [(0, .ref a0), (1, .int i1)]) (by decide) rfl (Nat.le_of_ble_eq_true rfl) rfl (fun G => ?_)
  refine T_aload_n dX9_wind_0 rfl 0 rfl ?_
  refine T_getR dX9_wind_1 fl_RX9_51 h (fun a11 h => ?_)
  refine T_aload_n dX9_wind_4 rfl 0 rfl ?_
  refine T_getR dX9_wind_5 fl_RX9_12 h (fun a12 h => ?_)
  refine T_callVV (As := [.ref a12]) (rest := []) (b := a11) (ci := 3) dX9_wind_8 mc_X3_note mi_X3_note ml_RX9_68 rfl (fun _ hr => chk_of hr) rfl rfl (Nat.le_of_ble_eq_true rfl) ⟨⟨Nat.le_of_ble_eq_true rfl, Nat.le_of_ble_eq_true rfl⟩, ⟨Nat.le_of_ble_eq_true rfl, Nat.le_of_ble_eq_true rfl⟩⟩ K_X3_note h (fun s13 h => ?_)
  refine T_aload_n dX9_wind_11 rfl 0 rfl ?_
  refine T_aload_n dX9_wind_12 rfl 0 rfl ?_
  refine T_getR dX9_wind_13 fl_RX9_12 h (fun a14 h => ?_)
  refine T_iload_n dX9_wind_16 rfl 1 rfl ?_
  refine T_callVI (As := [.int i1]) (rest := [.ref a0]) (b := a14) (ci := 2) dX9_wind_17 mc_X2_blow mi_X2_blow ml_RX9_92 rfl (fun _ hr => chk_of hr) rfl rfl (Nat.le_of_ble_eq_true rfl) ⟨⟨Nat.le_of_ble_eq_true rfl, Nat.le_of_ble_eq_true rfl⟩, ⟨Nat.le_of_ble_eq_true rfl, Nat.le_of_ble_eq_true rfl⟩⟩ K_X2_blow h (fun i15 s16 h => ?_)
  refine T_callVI (As := [.int i15]) (rest := []) (b := a0) (ci := 8) dX9_wind_20 mc_X9_recorded mi_X9_recorded ml_RX9_75 rfl (fun _ hr => chk_of hr) rfl rfl (Nat.le_of_ble_eq_true rfl) ⟨⟨Nat.le_of_ble_eq_true rfl, Nat.le_of_ble_eq_true rfl⟩, ⟨Nat.le_of_ble_eq_true rfl, Nat.le_of_ble_eq_true rfl⟩⟩ K_X9_recorded h (fun i17 s18 h => ?_)
  exact T_ireturn dX9_wind_23 (Nat.le_of_ble_eq_true rfl) (Nat.le_of_ble_eq_true rfl) h

def D_X0_columnForOneMore_w7 (a12 : Nat) (i13 : Int32) (i14 : Int32) (i15 : Int32) (k64 : Hp → Option (Int32 × Hp)) : Nat → Int32 → Hp → Option (Int32 × Hp)
  | 0, _, _ => none
  | n18 + 1, i16, s17 =>
  if (20 : Int32) ≤ i16 then
  k64 s17
  else
  (getR s17 a12 0 0).bind fun a19 =>
  bd (D_X2_mirrorIn a19 i13 i16 s17) fun i20 s21 =>
  if i20 = (-6 : Int32) then
  (getR s21 a12 0 1).bind fun a22 =>
  (getR s21 a12 0 0).bind fun a23 =>
  (D_X2_copy a22 a23 s21).bind fun s24 =>
  (getR s24 a12 0 1).bind fun a25 =>
  bd (D_X2_add a25 i13 i16 i14 s24) fun i26 s27 =>
  (D_X0_weigh a12 i16 s27).bind fun s28 =>
  D_X0_columnForOneMore_w7 a12 i13 i14 i15 k64 n18 (i16 + 1) s28
  else
  D_X0_columnForOneMore_w7 a12 i13 i14 i15 k64 n18 (i16 + 1) s21
def D_X0_columnForOneMore (a0 : Nat) (i1 : Int32) (i2 : Int32) (i3 : Int32) (s0 : Hp) : Option (Int32 × Hp) :=
  (isO s0 a0 0).bind fun _ =>
  (D_X0_forgetBest a0 s0).bind fun s11 =>
  D_X0_columnForOneMore_w7 a0 i1 i2 i3 (fun s30 =>
  bd (D_X0_answer a0 i3 s30) fun i31 s32 =>
  some (i31, s32)
  ) FU (0 : Int32) s11
set_option maxRecDepth 100000 in
set_option maxHeartbeats 4000000 in
theorem K_X0_columnForOneMore_w7 {l : Launch} {G : smG} {P : Option Value → Hp → Prop} {a12 : Nat} {i13 : Int32} {i14 : Int32} {i15 : Int32} {k64 : Hp → Option (Int32 × Hp)} (hk64 : ∀  (s29 : Hp), OK jI (k64 s29) P → T l G RX0 cX0_columnForOneMore 5 (sm_rm 6 0 0) (sm_E (some .int) yX0_columnForOneMore.name) (sm_Qs G P 0 0) 0 0 64 [(0, .ref a12), (3, .int i15)] [] s29) : ∀ (n : Nat) (i16 : Int32) (s17 : Hp), OK jI (D_X0_columnForOneMore_w7 a12 i13 i14 i15 k64 n i16 s17) P → T l G RX0 cX0_columnForOneMore 5 (sm_rm 6 0 0) (sm_E (some .int) yX0_columnForOneMore.name) (sm_Qs G P 0 0) 0 0 7 [(0, .ref a12), (1, .int i13), (2, .int i14), (3, .int i15), (4, .int i16)] [] s17 := by
  intro n
  induction n with
  | zero => intro i16 s17 h; obtain ⟨_, h0, _⟩ := h; exact absurd h0 (by simp [D_X0_columnForOneMore_w7])
  | succ n18 ih =>
    intro i16 s17 h
    unfold D_X0_columnForOneMore_w7 at h
    refine T_iload dX0_columnForOneMore_7 4 rfl ?_
    refine T_bipush (20 : Int32) dX0_columnForOneMore_9 (by decide) ?_
    refine T_icmp_ge 64 dX0_columnForOneMore_11 (by decide) h (fun _ h => ?_) (fun _ h => ?_)
    · refine T_lv (lv' := [(0, .ref a12), (3, .int i15)]) [0, 3] rfl ?_
      exact hk64 s17 h
    · refine T_aload_n dX0_columnForOneMore_14 rfl 0 rfl ?_
      refine T_getR dX0_columnForOneMore_15 fl_RX0_34 h (fun a19 h => ?_)
      refine T_iload_n dX0_columnForOneMore_18 rfl 1 rfl ?_
      refine T_iload dX0_columnForOneMore_19 4 rfl ?_
      refine T_callVI (As := [.int i13, .int i16]) (rest := []) (b := a19) (ci := 2) dX0_columnForOneMore_21 mc_X2_mirrorIn mi_X2_mirrorIn ml_RX0_57 rfl (fun _ hr => chk_of hr) rfl rfl (Nat.le_of_ble_eq_true rfl) ⟨⟨Nat.le_of_ble_eq_true rfl, Nat.le_of_ble_eq_true rfl⟩, ⟨Nat.le_of_ble_eq_true rfl, Nat.le_of_ble_eq_true rfl⟩⟩ K_X2_mirrorIn h (fun i20 s21 h => ?_)
      refine T_bipush (-6 : Int32) dX0_columnForOneMore_24 (by decide) ?_
      refine T_icmp_ne 58 dX0_columnForOneMore_26 (by decide) h (fun _ h => ?_) (fun _ h => ?_)
      · refine T_iinc (i16 + 1) (lv' := [(4, .int (i16 + 1)), (0, .ref a12), (1, .int i13), (2, .int i14), (3, .int i15)]) dX0_columnForOneMore_58 (j := 4) rfl rfl (by decide) rfl ?_
        refine T_goto 7 dX0_columnForOneMore_61 (by decide) ?_
        refine T_lv (lv' := [(0, .ref a12), (1, .int i13), (2, .int i14), (3, .int i15), (4, .int (i16 + 1))]) [1, 2, 3, 4, 0] rfl ?_
        exact ih (i16 + 1) s21 h
      · refine T_aload_n dX0_columnForOneMore_29 rfl 0 rfl ?_
        refine T_getR dX0_columnForOneMore_30 fl_RX0_12 h (fun a22 h => ?_)
        refine T_aload_n dX0_columnForOneMore_33 rfl 0 rfl ?_
        refine T_getR dX0_columnForOneMore_34 fl_RX0_34 h (fun a23 h => ?_)
        refine T_callVV (As := [.ref a23]) (rest := []) (b := a22) (ci := 2) dX0_columnForOneMore_37 mc_X2_copy mi_X2_copy ml_RX0_43 rfl (fun _ hr => chk_of hr) rfl rfl (Nat.le_of_ble_eq_true rfl) ⟨⟨Nat.le_of_ble_eq_true rfl, Nat.le_of_ble_eq_true rfl⟩, ⟨Nat.le_of_ble_eq_true rfl, Nat.le_of_ble_eq_true rfl⟩⟩ K_X2_copy h (fun s24 h => ?_)
        refine T_aload_n dX0_columnForOneMore_40 rfl 0 rfl ?_
        refine T_getR dX0_columnForOneMore_41 fl_RX0_12 h (fun a25 h => ?_)
        refine T_iload_n dX0_columnForOneMore_44 rfl 1 rfl ?_
        refine T_iload dX0_columnForOneMore_45 4 rfl ?_
        refine T_iload_n dX0_columnForOneMore_47 rfl 2 rfl ?_
        refine T_callVI (As := [.int i13, .int i16, .int i14]) (rest := []) (b := a25) (ci := 2) dX0_columnForOneMore_48 mc_X2_add mi_X2_add ml_RX0_61 rfl (fun _ hr => chk_of hr) rfl rfl (Nat.le_of_ble_eq_true rfl) ⟨⟨Nat.le_of_ble_eq_true rfl, Nat.le_of_ble_eq_true rfl⟩, ⟨Nat.le_of_ble_eq_true rfl, Nat.le_of_ble_eq_true rfl⟩⟩ K_X2_add h (fun i26 s27 h => ?_)
        refine T_pop dX0_columnForOneMore_51 rfl ?_
        refine T_aload_n dX0_columnForOneMore_52 rfl 0 rfl ?_
        refine T_iload dX0_columnForOneMore_53 4 rfl ?_
        refine T_callVV (As := [.int i16]) (rest := []) (b := a12) (ci := 0) dX0_columnForOneMore_55 mc_X0_weigh mi_X0_weigh ml_RX0_50 rfl (fun _ hr => chk_of hr) rfl rfl (Nat.le_of_ble_eq_true rfl) ⟨⟨Nat.le_of_ble_eq_true rfl, Nat.le_of_ble_eq_true rfl⟩, ⟨Nat.le_of_ble_eq_true rfl, Nat.le_of_ble_eq_true rfl⟩⟩ K_X0_weigh h (fun s28 h => ?_)
        refine T_iinc (i16 + 1) (lv' := [(4, .int (i16 + 1)), (0, .ref a12), (1, .int i13), (2, .int i14), (3, .int i15)]) dX0_columnForOneMore_58 (j := 4) rfl rfl (by decide) rfl ?_
        refine T_goto 7 dX0_columnForOneMore_61 (by decide) ?_
        refine T_lv (lv' := [(0, .ref a12), (1, .int i13), (2, .int i14), (3, .int i15), (4, .int (i16 + 1))]) [1, 2, 3, 4, 0] rfl ?_
        exact ih (i16 + 1) s28 h
set_option maxRecDepth 100000 in
set_option maxHeartbeats 4000000 in
theorem K_X0_columnForOneMore {l : Launch} {a0 : Nat} {i1 : Int32} {i2 : Int32} {i3 : Int32} {s0 : Hp} : ∀ P, OK jI (D_X0_columnForOneMore a0 i1 i2 i3 s0) P → sm_Ct l yX0_columnForOneMore cX0_columnForOneMore 5 (some .int) 6 0 0 [.ref a0, .int i1, .int i2, .int i3] s0 P := by
  intro P h
  unfold D_X0_columnForOneMore at h
  obtain ⟨_, hb0, h⟩ := h.bind
  refine sm_enter (own := RX0) (lv := [(0, .ref a0), (1, .int i1), (2, .int i2), (3, .int i3)]) (by decide) rfl (Nat.le_of_ble_eq_true rfl) rfl (fun G => ?_)
  refine T_aload_n dX0_columnForOneMore_0 rfl 0 rfl ?_
  refine T_callVV (As := []) (rest := []) (b := a0) (ci := 0) dX0_columnForOneMore_1 mc_X0_forgetBest mi_X0_forgetBest ml_RX0_37 rfl (fun _ hr => chk_of hr) rfl rfl (Nat.le_of_ble_eq_true rfl) ⟨⟨Nat.le_of_ble_eq_true rfl, Nat.le_of_ble_eq_true rfl⟩, ⟨Nat.le_of_ble_eq_true rfl, Nat.le_of_ble_eq_true rfl⟩⟩ K_X0_forgetBest h (fun s11 h => ?_)
  refine T_iconst (0 : Int32) dX0_columnForOneMore_4 (by decide) ?_
  refine T_istore (lv' := [(4, .int (0 : Int32)), (0, .ref a0), (1, .int i1), (2, .int i2), (3, .int i3)]) dX0_columnForOneMore_5 (by decide) rfl ?_
  refine T_lv (lv' := [(0, .ref a0), (1, .int i1), (2, .int i2), (3, .int i3), (4, .int (0 : Int32))]) [1, 2, 3, 4, 0] rfl ?_
  refine K_X0_columnForOneMore_w7 ?_ FU (0 : Int32) s11 h
  intro s30 h
  refine T_aload_n dX0_columnForOneMore_64 rfl 0 rfl ?_
  refine T_iload_n dX0_columnForOneMore_65 rfl 1 rfl ?_
  refine T_callVI (As := [.int i3]) (rest := []) (b := a0) (ci := 0) dX0_columnForOneMore_66 mc_X0_answer mi_X0_answer ml_RX0_54 rfl (fun _ hr => chk_of hr) rfl rfl (Nat.le_of_ble_eq_true rfl) ⟨⟨Nat.le_of_ble_eq_true rfl, Nat.le_of_ble_eq_true rfl⟩, ⟨Nat.le_of_ble_eq_true rfl, Nat.le_of_ble_eq_true rfl⟩⟩ K_X0_answer h (fun i31 s32 h => ?_)
  exact T_ireturn dX0_columnForOneMore_69 (Nat.le_of_ble_eq_true rfl) (Nat.le_of_ble_eq_true rfl) h

def D_X0_leastWorth_w6 (a12 : Nat) (i13 : Int32) (k48 : Hp → Option (Int32 × Hp)) : Nat → Int32 → Hp → Option (Int32 × Hp)
  | 0, _, _ => none
  | n16 + 1, i14, s15 =>
  (getR s15 a12 0 0).bind fun a17 =>
  (getI s15 a17 2 6).bind fun i18 =>
  if i18 ≤ i14 then
  k48 s15
  else
  (getR s15 a12 0 1).bind fun a19 =>
  (getR s15 a12 0 0).bind fun a20 =>
  (D_X2_copy a19 a20 s15).bind fun s21 =>
  (getR s21 a12 0 1).bind fun a22 =>
  bd (D_X2_remove a22 i14 s21) fun i23 s24 =>
  (D_X0_weigh a12 i14 s24).bind fun s25 =>
  D_X0_leastWorth_w6 a12 i13 k48 n16 (i14 + 1) s25
def D_X0_leastWorth (a0 : Nat) (i1 : Int32) (s0 : Hp) : Option (Int32 × Hp) :=
  (isO s0 a0 0).bind fun _ =>
  (D_X0_forgetBest a0 s0).bind fun s11 =>
  D_X0_leastWorth_w6 a0 i1 (fun s27 =>
  bd (D_X0_answer a0 i1 s27) fun i28 s29 =>
  some (i28, s29)
  ) FU (0 : Int32) s11
set_option maxRecDepth 100000 in
set_option maxHeartbeats 4000000 in
theorem K_X0_leastWorth_w6 {l : Launch} {G : smG} {P : Option Value → Hp → Prop} {a12 : Nat} {i13 : Int32} {k48 : Hp → Option (Int32 × Hp)} (hk48 : ∀  (s26 : Hp), OK jI (k48 s26) P → T l G RX0 cX0_leastWorth 3 (sm_rm 6 0 0) (sm_E (some .int) yX0_leastWorth.name) (sm_Qs G P 0 0) 0 0 48 [(0, .ref a12), (1, .int i13)] [] s26) : ∀ (n : Nat) (i14 : Int32) (s15 : Hp), OK jI (D_X0_leastWorth_w6 a12 i13 k48 n i14 s15) P → T l G RX0 cX0_leastWorth 3 (sm_rm 6 0 0) (sm_E (some .int) yX0_leastWorth.name) (sm_Qs G P 0 0) 0 0 6 [(0, .ref a12), (1, .int i13), (2, .int i14)] [] s15 := by
  intro n
  induction n with
  | zero => intro i14 s15 h; obtain ⟨_, h0, _⟩ := h; exact absurd h0 (by simp [D_X0_leastWorth_w6])
  | succ n16 ih =>
    intro i14 s15 h
    unfold D_X0_leastWorth_w6 at h
    refine T_iload_n dX0_leastWorth_6 rfl 2 rfl ?_
    refine T_aload_n dX0_leastWorth_7 rfl 0 rfl ?_
    refine T_getR dX0_leastWorth_8 fl_RX0_34 h (fun a17 h => ?_)
    refine T_getI dX0_leastWorth_11 fl_RX0_40 h (fun i18 h => ?_)
    refine T_icmp_ge 48 dX0_leastWorth_14 (by decide) h (fun _ h => ?_) (fun _ h => ?_)
    · refine T_lv (lv' := [(0, .ref a12), (1, .int i13)]) [0, 1] rfl ?_
      exact hk48 s15 h
    · refine T_aload_n dX0_leastWorth_17 rfl 0 rfl ?_
      refine T_getR dX0_leastWorth_18 fl_RX0_12 h (fun a19 h => ?_)
      refine T_aload_n dX0_leastWorth_21 rfl 0 rfl ?_
      refine T_getR dX0_leastWorth_22 fl_RX0_34 h (fun a20 h => ?_)
      refine T_callVV (As := [.ref a20]) (rest := []) (b := a19) (ci := 2) dX0_leastWorth_25 mc_X2_copy mi_X2_copy ml_RX0_43 rfl (fun _ hr => chk_of hr) rfl rfl (Nat.le_of_ble_eq_true rfl) ⟨⟨Nat.le_of_ble_eq_true rfl, Nat.le_of_ble_eq_true rfl⟩, ⟨Nat.le_of_ble_eq_true rfl, Nat.le_of_ble_eq_true rfl⟩⟩ K_X2_copy h (fun s21 h => ?_)
      refine T_aload_n dX0_leastWorth_28 rfl 0 rfl ?_
      refine T_getR dX0_leastWorth_29 fl_RX0_12 h (fun a22 h => ?_)
      refine T_iload_n dX0_leastWorth_32 rfl 2 rfl ?_
      refine T_callVI (As := [.int i14]) (rest := []) (b := a22) (ci := 2) dX0_leastWorth_33 mc_X2_remove mi_X2_remove ml_RX0_46 rfl (fun _ hr => chk_of hr) rfl rfl (Nat.le_of_ble_eq_true rfl) ⟨⟨Nat.le_of_ble_eq_true rfl, Nat.le_of_ble_eq_true rfl⟩, ⟨Nat.le_of_ble_eq_true rfl, Nat.le_of_ble_eq_true rfl⟩⟩ K_X2_remove h (fun i23 s24 h => ?_)
      refine T_pop dX0_leastWorth_36 rfl ?_
      refine T_aload_n dX0_leastWorth_37 rfl 0 rfl ?_
      refine T_iload_n dX0_leastWorth_38 rfl 2 rfl ?_
      refine T_callVV (As := [.int i14]) (rest := []) (b := a12) (ci := 0) dX0_leastWorth_39 mc_X0_weigh mi_X0_weigh ml_RX0_50 rfl (fun _ hr => chk_of hr) rfl rfl (Nat.le_of_ble_eq_true rfl) ⟨⟨Nat.le_of_ble_eq_true rfl, Nat.le_of_ble_eq_true rfl⟩, ⟨Nat.le_of_ble_eq_true rfl, Nat.le_of_ble_eq_true rfl⟩⟩ K_X0_weigh h (fun s25 h => ?_)
      refine T_iinc (i14 + 1) (lv' := [(2, .int (i14 + 1)), (0, .ref a12), (1, .int i13)]) dX0_leastWorth_42 (j := 2) rfl rfl (by decide) rfl ?_
      refine T_goto 6 dX0_leastWorth_45 (by decide) ?_
      refine T_lv (lv' := [(0, .ref a12), (1, .int i13), (2, .int (i14 + 1))]) [1, 2, 0] rfl ?_
      exact ih (i14 + 1) s25 h
set_option maxRecDepth 100000 in
set_option maxHeartbeats 4000000 in
theorem K_X0_leastWorth {l : Launch} {a0 : Nat} {i1 : Int32} {s0 : Hp} : ∀ P, OK jI (D_X0_leastWorth a0 i1 s0) P → sm_Ct l yX0_leastWorth cX0_leastWorth 3 (some .int) 6 0 0 [.ref a0, .int i1] s0 P := by
  intro P h
  unfold D_X0_leastWorth at h
  obtain ⟨_, hb0, h⟩ := h.bind
  refine sm_enter (own := RX0) (lv := [(0, .ref a0), (1, .int i1)]) (by decide) rfl (Nat.le_of_ble_eq_true rfl) rfl (fun G => ?_)
  refine T_aload_n dX0_leastWorth_0 rfl 0 rfl ?_
  refine T_callVV (As := []) (rest := []) (b := a0) (ci := 0) dX0_leastWorth_1 mc_X0_forgetBest mi_X0_forgetBest ml_RX0_37 rfl (fun _ hr => chk_of hr) rfl rfl (Nat.le_of_ble_eq_true rfl) ⟨⟨Nat.le_of_ble_eq_true rfl, Nat.le_of_ble_eq_true rfl⟩, ⟨Nat.le_of_ble_eq_true rfl, Nat.le_of_ble_eq_true rfl⟩⟩ K_X0_forgetBest h (fun s11 h => ?_)
  refine T_iconst (0 : Int32) dX0_leastWorth_4 (by decide) ?_
  refine T_istore_n (lv' := [(2, .int (0 : Int32)), (0, .ref a0), (1, .int i1)]) dX0_leastWorth_5 rfl (by decide) rfl ?_
  refine T_lv (lv' := [(0, .ref a0), (1, .int i1), (2, .int (0 : Int32))]) [1, 2, 0] rfl ?_
  refine K_X0_leastWorth_w6 ?_ FU (0 : Int32) s11 h
  intro s27 h
  refine T_aload_n dX0_leastWorth_48 rfl 0 rfl ?_
  refine T_iload_n dX0_leastWorth_49 rfl 1 rfl ?_
  refine T_callVI (As := [.int i1]) (rest := []) (b := a0) (ci := 0) dX0_leastWorth_50 mc_X0_answer mi_X0_answer ml_RX0_54 rfl (fun _ hr => chk_of hr) rfl rfl (Nat.le_of_ble_eq_true rfl) ⟨⟨Nat.le_of_ble_eq_true rfl, Nat.le_of_ble_eq_true rfl⟩, ⟨Nat.le_of_ble_eq_true rfl, Nat.le_of_ble_eq_true rfl⟩⟩ K_X0_answer h (fun i28 s29 h => ?_)
  exact T_ireturn dX0_leastWorth_53 (Nat.le_of_ble_eq_true rfl) (Nat.le_of_ble_eq_true rfl) h

def D_X0_mirrorToWash_w6 (a12 : Nat) (k48 : Hp → Option (Int32 × Hp)) : Nat → Int32 → Hp → Option (Int32 × Hp)
  | 0, _, _ => none
  | n15 + 1, i13, s14 =>
  (getR s14 a12 0 0).bind fun a16 =>
  (getI s14 a16 2 6).bind fun i17 =>
  if i17 ≤ i13 then
  k48 s14
  else
  (getR s14 a12 0 1).bind fun a18 =>
  (getR s14 a12 0 0).bind fun a19 =>
  (D_X2_copy a18 a19 s14).bind fun s20 =>
  (getR s20 a12 0 1).bind fun a21 =>
  bd (D_X2_clean a21 i13 s20) fun i22 s23 =>
  (D_X0_weigh a12 i13 s23).bind fun s24 =>
  D_X0_mirrorToWash_w6 a12 k48 n15 (i13 + 1) s24
def D_X0_mirrorToWash (a0 : Nat) (s0 : Hp) : Option (Int32 × Hp) :=
  (isO s0 a0 0).bind fun _ =>
  (D_X0_forgetBest a0 s0).bind fun s11 =>
  D_X0_mirrorToWash_w6 a0 (fun s26 =>
  bd (D_X0_answer a0 (0 : Int32) s26) fun i27 s28 =>
  some (i27, s28)
  ) FU (0 : Int32) s11
set_option maxRecDepth 100000 in
set_option maxHeartbeats 4000000 in
theorem K_X0_mirrorToWash_w6 {l : Launch} {G : smG} {P : Option Value → Hp → Prop} {a12 : Nat} {k48 : Hp → Option (Int32 × Hp)} (hk48 : ∀  (s25 : Hp), OK jI (k48 s25) P → T l G RX0 cX0_mirrorToWash 2 (sm_rm 6 0 0) (sm_E (some .int) yX0_mirrorToWash.name) (sm_Qs G P 0 0) 0 0 48 [(0, .ref a12)] [] s25) : ∀ (n : Nat) (i13 : Int32) (s14 : Hp), OK jI (D_X0_mirrorToWash_w6 a12 k48 n i13 s14) P → T l G RX0 cX0_mirrorToWash 2 (sm_rm 6 0 0) (sm_E (some .int) yX0_mirrorToWash.name) (sm_Qs G P 0 0) 0 0 6 [(0, .ref a12), (1, .int i13)] [] s14 := by
  intro n
  induction n with
  | zero => intro i13 s14 h; obtain ⟨_, h0, _⟩ := h; exact absurd h0 (by simp [D_X0_mirrorToWash_w6])
  | succ n15 ih =>
    intro i13 s14 h
    unfold D_X0_mirrorToWash_w6 at h
    refine T_iload_n dX0_mirrorToWash_6 rfl 1 rfl ?_
    refine T_aload_n dX0_mirrorToWash_7 rfl 0 rfl ?_
    refine T_getR dX0_mirrorToWash_8 fl_RX0_34 h (fun a16 h => ?_)
    refine T_getI dX0_mirrorToWash_11 fl_RX0_40 h (fun i17 h => ?_)
    refine T_icmp_ge 48 dX0_mirrorToWash_14 (by decide) h (fun _ h => ?_) (fun _ h => ?_)
    · refine T_lv (lv' := [(0, .ref a12)]) [0] rfl ?_
      exact hk48 s14 h
    · refine T_aload_n dX0_mirrorToWash_17 rfl 0 rfl ?_
      refine T_getR dX0_mirrorToWash_18 fl_RX0_12 h (fun a18 h => ?_)
      refine T_aload_n dX0_mirrorToWash_21 rfl 0 rfl ?_
      refine T_getR dX0_mirrorToWash_22 fl_RX0_34 h (fun a19 h => ?_)
      refine T_callVV (As := [.ref a19]) (rest := []) (b := a18) (ci := 2) dX0_mirrorToWash_25 mc_X2_copy mi_X2_copy ml_RX0_43 rfl (fun _ hr => chk_of hr) rfl rfl (Nat.le_of_ble_eq_true rfl) ⟨⟨Nat.le_of_ble_eq_true rfl, Nat.le_of_ble_eq_true rfl⟩, ⟨Nat.le_of_ble_eq_true rfl, Nat.le_of_ble_eq_true rfl⟩⟩ K_X2_copy h (fun s20 h => ?_)
      refine T_aload_n dX0_mirrorToWash_28 rfl 0 rfl ?_
      refine T_getR dX0_mirrorToWash_29 fl_RX0_12 h (fun a21 h => ?_)
      refine T_iload_n dX0_mirrorToWash_32 rfl 1 rfl ?_
      refine T_callVI (As := [.int i13]) (rest := []) (b := a21) (ci := 2) dX0_mirrorToWash_33 mc_X2_clean mi_X2_clean ml_RX0_65 rfl (fun _ hr => chk_of hr) rfl rfl (Nat.le_of_ble_eq_true rfl) ⟨⟨Nat.le_of_ble_eq_true rfl, Nat.le_of_ble_eq_true rfl⟩, ⟨Nat.le_of_ble_eq_true rfl, Nat.le_of_ble_eq_true rfl⟩⟩ K_X2_clean h (fun i22 s23 h => ?_)
      refine T_pop dX0_mirrorToWash_36 rfl ?_
      refine T_aload_n dX0_mirrorToWash_37 rfl 0 rfl ?_
      refine T_iload_n dX0_mirrorToWash_38 rfl 1 rfl ?_
      refine T_callVV (As := [.int i13]) (rest := []) (b := a12) (ci := 0) dX0_mirrorToWash_39 mc_X0_weigh mi_X0_weigh ml_RX0_50 rfl (fun _ hr => chk_of hr) rfl rfl (Nat.le_of_ble_eq_true rfl) ⟨⟨Nat.le_of_ble_eq_true rfl, Nat.le_of_ble_eq_true rfl⟩, ⟨Nat.le_of_ble_eq_true rfl, Nat.le_of_ble_eq_true rfl⟩⟩ K_X0_weigh h (fun s24 h => ?_)
      refine T_iinc (i13 + 1) (lv' := [(1, .int (i13 + 1)), (0, .ref a12)]) dX0_mirrorToWash_42 (j := 1) rfl rfl (by decide) rfl ?_
      refine T_goto 6 dX0_mirrorToWash_45 (by decide) ?_
      refine T_lv (lv' := [(0, .ref a12), (1, .int (i13 + 1))]) [1, 0] rfl ?_
      exact ih (i13 + 1) s24 h
set_option maxRecDepth 100000 in
set_option maxHeartbeats 4000000 in
theorem K_X0_mirrorToWash {l : Launch} {a0 : Nat} {s0 : Hp} : ∀ P, OK jI (D_X0_mirrorToWash a0 s0) P → sm_Ct l yX0_mirrorToWash cX0_mirrorToWash 2 (some .int) 6 0 0 [.ref a0] s0 P := by
  intro P h
  unfold D_X0_mirrorToWash at h
  obtain ⟨_, hb0, h⟩ := h.bind
  refine sm_enter (own := RX0) (lv := [(0, .ref a0)]) (by decide) rfl (Nat.le_of_ble_eq_true rfl) rfl (fun G => ?_)
  refine T_aload_n dX0_mirrorToWash_0 rfl 0 rfl ?_
  refine T_callVV (As := []) (rest := []) (b := a0) (ci := 0) dX0_mirrorToWash_1 mc_X0_forgetBest mi_X0_forgetBest ml_RX0_37 rfl (fun _ hr => chk_of hr) rfl rfl (Nat.le_of_ble_eq_true rfl) ⟨⟨Nat.le_of_ble_eq_true rfl, Nat.le_of_ble_eq_true rfl⟩, ⟨Nat.le_of_ble_eq_true rfl, Nat.le_of_ble_eq_true rfl⟩⟩ K_X0_forgetBest h (fun s11 h => ?_)
  refine T_iconst (0 : Int32) dX0_mirrorToWash_4 (by decide) ?_
  refine T_istore_n (lv' := [(1, .int (0 : Int32)), (0, .ref a0)]) dX0_mirrorToWash_5 rfl (by decide) rfl ?_
  refine T_lv (lv' := [(0, .ref a0), (1, .int (0 : Int32))]) [1, 0] rfl ?_
  refine K_X0_mirrorToWash_w6 ?_ FU (0 : Int32) s11 h
  intro s26 h
  refine T_aload_n dX0_mirrorToWash_48 rfl 0 rfl ?_
  refine T_iconst (0 : Int32) dX0_mirrorToWash_49 (by decide) ?_
  refine T_callVI (As := [.int (0 : Int32)]) (rest := []) (b := a0) (ci := 0) dX0_mirrorToWash_50 mc_X0_answer mi_X0_answer ml_RX0_54 rfl (fun _ hr => chk_of hr) rfl rfl (Nat.le_of_ble_eq_true rfl) ⟨⟨Nat.le_of_ble_eq_true rfl, Nat.le_of_ble_eq_true rfl⟩, ⟨Nat.le_of_ble_eq_true rfl, Nat.le_of_ble_eq_true rfl⟩⟩ K_X0_answer h (fun i27 s28 h => ?_)
  exact T_ireturn dX0_mirrorToWash_53 (Nat.le_of_ble_eq_true rfl) (Nat.le_of_ble_eq_true rfl) h

def D_X10_bestColumn_b129 (k55 : Int32 → Int32 → Int32 → Hp → Option (Int32 × Hp)) (a46 : Nat) (i47 : Int32) (i48 : Int32) (i49 : Int32) (i50 : Int32) (i51 : Int32) (i53 : Int32) (s52 : Hp) : Option (Int32 × Hp) :=
  k55 i50 i53 (i51 + 1) s52
def D_X10_bestColumn_b113 (k55 : Int32 → Int32 → Int32 → Hp → Option (Int32 × Hp)) (a37 : Nat) (i38 : Int32) (i39 : Int32) (i40 : Int32) (i41 : Int32) (i42 : Int32) (i43 : Int32) (i45 : Int32) (s44 : Hp) : Option (Int32 × Hp) :=
  if i43 ≤ i41 then
  D_X10_bestColumn_b129 k55 a37 i38 i39 i40 i45 i42 i41 s44
  else
  D_X10_bestColumn_b129 k55 a37 i38 i39 i40 i45 i42 i43 s44
def D_X10_bestColumn_w55 (a20 : Nat) (i21 : Int32) (i22 : Int32) (i23 : Int32) (k137 : Int32 → Int32 → Hp → Option (Int32 × Hp)) : Nat → Int32 → Int32 → Int32 → Hp → Option (Int32 × Hp)
  | 0, _, _, _, _ => none
  | n28 + 1, i24, i25, i26, s27 =>
  if (20 : Int32) ≤ i26 then
  k137 i24 i25 s27
  else
  bd (D_X10_mirrorAt a20 i21 i26 s27) fun i29 s30 =>
  if i29 = (-6 : Int32) then
  (D_X10_puts a20 i21 i26 i22 s30).bind fun s31 =>
  bd (D_X10_brings a20 s31) fun i32 s33 =>
  (getR s33 a20 9 2).bind fun a34 =>
  (getR s33 a20 9 0).bind fun a35 =>
  (D_X10_copy a34 a35 s33).bind fun s36 =>
  if i32 ≤ i25 then
  D_X10_bestColumn_b113 (D_X10_bestColumn_w55 a20 i21 i22 i23 k137 n28) a20 i21 i22 i23 i25 i26 i32 i24 s36
  else
  D_X10_bestColumn_b113 (D_X10_bestColumn_w55 a20 i21 i22 i23 k137 n28) a20 i21 i22 i23 i25 i26 i32 i26 s36
  else
  D_X10_bestColumn_w55 a20 i21 i22 i23 k137 n28 i24 i25 (i26 + 1) s30
def D_X10_bestColumn (a0 : Nat) (i1 : Int32) (i2 : Int32) (i3 : Int32) (s0 : Hp) : Option (Int32 × Hp) :=
  (isO s0 a0 9).bind fun _ =>
  bd (D_X10_isPlace i1 (0 : Int32) s0) fun i11 s12 =>
  if i11 = 0 then
  some ((-2 : Int32), s12)
  else
  bd (D_X10_isIn (i2).toInt64 (0 : Int64) (3 : Int64) s12) fun i13 s14 =>
  if i13 = 0 then
  some ((-2 : Int32), s14)
  else
  bd (D_X10_isIn (i3).toInt64 (0 : Int64) (1 : Int64) s14) fun i15 s16 =>
  if i15 = 0 then
  some ((-2 : Int32), s16)
  else
  (getR s16 a0 9 0).bind fun a17 =>
  (getR s16 a0 9 2).bind fun a18 =>
  (D_X10_copy a17 a18 s16).bind fun s19 =>
  D_X10_bestColumn_w55 a0 i1 i2 i3 (fun i66 i67 s65 =>
  if i3 = 0 then
  some (i66, s65)
  else
  some (i67, s65)
  ) FU (-6 : Int32) (-6 : Int32) (0 : Int32) s19
set_option maxRecDepth 100000 in
set_option maxHeartbeats 4000000 in
theorem K_X10_bestColumn_b129 {l : Launch} {G : smG} {P : Option Value → Hp → Prop} {k55 : Int32 → Int32 → Int32 → Hp → Option (Int32 × Hp)} {a46 : Nat} {i47 : Int32} {i48 : Int32} {i49 : Int32} {i50 : Int32} {i51 : Int32} {i53 : Int32} {s52 : Hp} (hk55 : ∀ (i54 : Int32) (i55 : Int32) (i56 : Int32) (s57 : Hp), OK jI (k55 i54 i55 i56 s57) P → T l G RX10 cX10_bestColumn 8 (sm_rm 6 0 0) (sm_E (some .int) yX10_bestColumn.name) (sm_Qs G P 0 0) 0 0 55 [(0, .ref a46), (1, .int i47), (2, .int i48), (3, .int i49), (4, .int i54), (5, .int i55), (6, .int i56)] [] s57) (h : OK jI (D_X10_bestColumn_b129 k55 a46 i47 i48 i49 i50 i51 i53 s52) P) : T l G RX10 cX10_bestColumn 8 (sm_rm 6 0 0) (sm_E (some .int) yX10_bestColumn.name) (sm_Qs G P 0 0) 0 0 129 [(0, .ref a46), (1, .int i47), (2, .int i48), (3, .int i49), (4, .int i50), (6, .int i51)] [.int i53] s52 := by
  unfold D_X10_bestColumn_b129 at h
  refine T_istore (lv' := [(5, .int i53), (0, .ref a46), (1, .int i47), (2, .int i48), (3, .int i49), (4, .int i50), (6, .int i51)]) dX10_bestColumn_129 (by decide) rfl ?_
  refine T_iinc (i51 + 1) (lv' := [(6, .int (i51 + 1)), (5, .int i53), (0, .ref a46), (1, .int i47), (2, .int i48), (3, .int i49), (4, .int i50)]) dX10_bestColumn_131 (j := 6) rfl rfl (by decide) rfl ?_
  refine T_goto 55 dX10_bestColumn_134 (by decide) ?_
  refine T_lv (lv' := [(0, .ref a46), (1, .int i47), (2, .int i48), (3, .int i49), (4, .int i50), (5, .int i53), (6, .int (i51 + 1))]) [2, 3, 4, 5, 6, 1, 0] rfl ?_
  exact hk55 i50 i53 (i51 + 1) s52 h
set_option maxRecDepth 100000 in
set_option maxHeartbeats 4000000 in
theorem K_X10_bestColumn_b113 {l : Launch} {G : smG} {P : Option Value → Hp → Prop} {k55 : Int32 → Int32 → Int32 → Hp → Option (Int32 × Hp)} {a37 : Nat} {i38 : Int32} {i39 : Int32} {i40 : Int32} {i41 : Int32} {i42 : Int32} {i43 : Int32} {i45 : Int32} {s44 : Hp} (hk55 : ∀ (i58 : Int32) (i59 : Int32) (i60 : Int32) (s61 : Hp), OK jI (k55 i58 i59 i60 s61) P → T l G RX10 cX10_bestColumn 8 (sm_rm 6 0 0) (sm_E (some .int) yX10_bestColumn.name) (sm_Qs G P 0 0) 0 0 55 [(0, .ref a37), (1, .int i38), (2, .int i39), (3, .int i40), (4, .int i58), (5, .int i59), (6, .int i60)] [] s61) (h : OK jI (D_X10_bestColumn_b113 k55 a37 i38 i39 i40 i41 i42 i43 i45 s44) P) : T l G RX10 cX10_bestColumn 8 (sm_rm 6 0 0) (sm_E (some .int) yX10_bestColumn.name) (sm_Qs G P 0 0) 0 0 113 [(0, .ref a37), (1, .int i38), (2, .int i39), (3, .int i40), (5, .int i41), (6, .int i42), (7, .int i43)] [.int i45] s44 := by
  unfold D_X10_bestColumn_b113 at h
  refine T_istore (lv' := [(4, .int i45), (0, .ref a37), (1, .int i38), (2, .int i39), (3, .int i40), (5, .int i41), (6, .int i42), (7, .int i43)]) dX10_bestColumn_113 (by decide) rfl ?_
  refine T_iload dX10_bestColumn_115 7 rfl ?_
  refine T_iload dX10_bestColumn_117 5 rfl ?_
  refine T_icmp_le 127 dX10_bestColumn_119 (by decide) h (fun _ h => ?_) (fun _ h => ?_)
  · refine T_iload dX10_bestColumn_127 5 rfl ?_
    refine T_lv (lv' := [(0, .ref a37), (1, .int i38), (2, .int i39), (3, .int i40), (4, .int i45), (6, .int i42)]) [1, 2, 3, 4, 0, 6] rfl ?_
    exact K_X10_bestColumn_b129 hk55 h
  · refine T_iload dX10_bestColumn_122 7 rfl ?_
    refine T_goto 129 dX10_bestColumn_124 (by decide) ?_
    refine T_lv (lv' := [(0, .ref a37), (1, .int i38), (2, .int i39), (3, .int i40), (4, .int i45), (6, .int i42)]) [1, 2, 3, 4, 0, 6] rfl ?_
    exact K_X10_bestColumn_b129 hk55 h
set_option maxRecDepth 100000 in
set_option maxHeartbeats 4000000 in
theorem K_X10_bestColumn_w55 {l : Launch} {G : smG} {P : Option Value → Hp → Prop} {a20 : Nat} {i21 : Int32} {i22 : Int32} {i23 : Int32} {k137 : Int32 → Int32 → Hp → Option (Int32 × Hp)} (hk137 : ∀ (i62 : Int32) (i63 : Int32) (s64 : Hp), OK jI (k137 i62 i63 s64) P → T l G RX10 cX10_bestColumn 8 (sm_rm 6 0 0) (sm_E (some .int) yX10_bestColumn.name) (sm_Qs G P 0 0) 0 0 137 [(3, .int i23), (4, .int i62), (5, .int i63)] [] s64) : ∀ (n : Nat) (i24 : Int32) (i25 : Int32) (i26 : Int32) (s27 : Hp), OK jI (D_X10_bestColumn_w55 a20 i21 i22 i23 k137 n i24 i25 i26 s27) P → T l G RX10 cX10_bestColumn 8 (sm_rm 6 0 0) (sm_E (some .int) yX10_bestColumn.name) (sm_Qs G P 0 0) 0 0 55 [(0, .ref a20), (1, .int i21), (2, .int i22), (3, .int i23), (4, .int i24), (5, .int i25), (6, .int i26)] [] s27 := by
  intro n
  induction n with
  | zero => intro i24 i25 i26 s27 h; obtain ⟨_, h0, _⟩ := h; exact absurd h0 (by simp [D_X10_bestColumn_w55])
  | succ n28 ih =>
    intro i24 i25 i26 s27 h
    unfold D_X10_bestColumn_w55 at h
    refine T_iload dX10_bestColumn_55 6 rfl ?_
    refine T_bipush (20 : Int32) dX10_bestColumn_57 (by decide) ?_
    refine T_icmp_ge 137 dX10_bestColumn_59 (by decide) h (fun _ h => ?_) (fun _ h => ?_)
    · refine T_lv (lv' := [(3, .int i23), (4, .int i24), (5, .int i25)]) [3, 4, 5] rfl ?_
      exact hk137 i24 i25 s27 h
    · refine T_aload_n dX10_bestColumn_62 rfl 0 rfl ?_
      refine T_iload_n dX10_bestColumn_63 rfl 1 rfl ?_
      refine T_iload dX10_bestColumn_64 6 rfl ?_
      refine T_callVI (As := [.int i21, .int i26]) (rest := []) (b := a20) (ci := 9) dX10_bestColumn_66 mc_X10_mirrorAt mi_X10_mirrorAt ml_RX10_64 rfl (fun _ hr => chk_of hr) rfl rfl (Nat.le_of_ble_eq_true rfl) ⟨⟨Nat.le_of_ble_eq_true rfl, Nat.le_of_ble_eq_true rfl⟩, ⟨Nat.le_of_ble_eq_true rfl, Nat.le_of_ble_eq_true rfl⟩⟩ K_X10_mirrorAt h (fun i29 s30 h => ?_)
      refine T_bipush (-6 : Int32) dX10_bestColumn_69 (by decide) ?_
      refine T_icmp_ne 131 dX10_bestColumn_71 (by decide) h (fun _ h => ?_) (fun _ h => ?_)
      · refine T_iinc (i26 + 1) (lv' := [(6, .int (i26 + 1)), (0, .ref a20), (1, .int i21), (2, .int i22), (3, .int i23), (4, .int i24), (5, .int i25)]) dX10_bestColumn_131 (j := 6) rfl rfl (by decide) rfl ?_
        refine T_goto 55 dX10_bestColumn_134 (by decide) ?_
        refine T_lv (lv' := [(0, .ref a20), (1, .int i21), (2, .int i22), (3, .int i23), (4, .int i24), (5, .int i25), (6, .int (i26 + 1))]) [1, 2, 3, 4, 5, 6, 0] rfl ?_
        exact ih i24 i25 (i26 + 1) s30 h
      · refine T_aload_n dX10_bestColumn_74 rfl 0 rfl ?_
        refine T_iload_n dX10_bestColumn_75 rfl 1 rfl ?_
        refine T_iload dX10_bestColumn_76 6 rfl ?_
        refine T_iload_n dX10_bestColumn_78 rfl 2 rfl ?_
        refine T_callVV (As := [.int i21, .int i26, .int i22]) (rest := []) (b := a20) (ci := 9) dX10_bestColumn_79 mc_X10_puts mi_X10_puts ml_RX10_105 rfl (fun _ hr => chk_of hr) rfl rfl (Nat.le_of_ble_eq_true rfl) ⟨⟨Nat.le_of_ble_eq_true rfl, Nat.le_of_ble_eq_true rfl⟩, ⟨Nat.le_of_ble_eq_true rfl, Nat.le_of_ble_eq_true rfl⟩⟩ K_X10_puts h (fun s31 h => ?_)
        refine T_aload_n dX10_bestColumn_82 rfl 0 rfl ?_
        refine T_callVI (As := []) (rest := []) (b := a20) (ci := 9) dX10_bestColumn_83 mc_X10_brings mi_X10_brings ml_RX10_159 rfl (fun _ hr => chk_of hr) rfl rfl (Nat.le_of_ble_eq_true rfl) ⟨⟨Nat.le_of_ble_eq_true rfl, Nat.le_of_ble_eq_true rfl⟩, ⟨Nat.le_of_ble_eq_true rfl, Nat.le_of_ble_eq_true rfl⟩⟩ K_X10_brings h (fun i32 s33 h => ?_)
        refine T_istore (lv' := [(7, .int i32), (0, .ref a20), (1, .int i21), (2, .int i22), (3, .int i23), (4, .int i24), (5, .int i25), (6, .int i26)]) dX10_bestColumn_86 (by decide) rfl ?_
        refine T_aload_n dX10_bestColumn_88 rfl 1 rfl ?_
        refine T_getR dX10_bestColumn_89 fl_RX10_16 h (fun a34 h => ?_)
        refine T_aload_n dX10_bestColumn_92 rfl 1 rfl ?_
        refine T_getR dX10_bestColumn_93 fl_RX10_7 h (fun a35 h => ?_)
        refine T_callSV (As := [.ref a34, .ref a35]) (rest := []) dX10_bestColumn_96 mc_X10_copy mi_X10_copy ml_RX10_124 rfl rfl (Nat.le_of_ble_eq_true rfl) ⟨⟨Nat.le_of_ble_eq_true rfl, Nat.le_of_ble_eq_true rfl⟩, ⟨Nat.le_of_ble_eq_true rfl, Nat.le_of_ble_eq_true rfl⟩⟩ K_X10_copy h (fun s36 h => ?_)
        refine T_iload dX10_bestColumn_99 0 rfl ?_
        refine T_iload dX10_bestColumn_101 6 rfl ?_
        refine T_icmp_le 111 dX10_bestColumn_103 (by decide) h (fun _ h => ?_) (fun _ h => ?_)
        · refine T_iload dX10_bestColumn_111 5 rfl ?_
          refine T_lv (lv' := [(0, .ref a20), (1, .int i21), (2, .int i22), (3, .int i23), (5, .int i25), (6, .int i26), (7, .int i32)]) [1, 2, 3, 4, 6, 7, 0] rfl ?_
          exact K_X10_bestColumn_b113 ih h
        · refine T_iload dX10_bestColumn_106 7 rfl ?_
          refine T_goto 113 dX10_bestColumn_108 (by decide) ?_
          refine T_lv (lv' := [(0, .ref a20), (1, .int i21), (2, .int i22), (3, .int i23), (5, .int i25), (6, .int i26), (7, .int i32)]) [1, 2, 3, 4, 6, 7, 0] rfl ?_
          exact K_X10_bestColumn_b113 ih h
set_option maxRecDepth 100000 in
set_option maxHeartbeats 4000000 in
theorem K_X10_bestColumn {l : Launch} {a0 : Nat} {i1 : Int32} {i2 : Int32} {i3 : Int32} {s0 : Hp} : ∀ P, OK jI (D_X10_bestColumn a0 i1 i2 i3 s0) P → sm_Ct l yX10_bestColumn cX10_bestColumn 8 (some .int) 6 0 0 [.ref a0, .int i1, .int i2, .int i3] s0 P := by
  intro P h
  unfold D_X10_bestColumn at h
  obtain ⟨_, hb0, h⟩ := h.bind
  refine sm_enter (own := RX10) (lv := [(0, .ref a0), (1, .int i1), (2, .int i2), (3, .int i3)]) (by decide) rfl (Nat.le_of_ble_eq_true rfl) rfl (fun G => ?_)
  refine T_iload_n dX10_bestColumn_0 rfl 1 rfl ?_
  refine T_iconst (0 : Int32) dX10_bestColumn_1 (by decide) ?_
  refine T_callSI (As := [.int i1, .int (0 : Int32)]) (rest := []) dX10_bestColumn_2 mc_X10_isPlace mi_X10_isPlace ml_RX10_99 rfl rfl (Nat.le_of_ble_eq_true rfl) ⟨⟨Nat.le_of_ble_eq_true rfl, Nat.le_of_ble_eq_true rfl⟩, ⟨Nat.le_of_ble_eq_true rfl, Nat.le_of_ble_eq_true rfl⟩⟩ K_X10_isPlace h (fun i11 s12 h => ?_)
  refine T_if_eq 30 dX10_bestColumn_5 (by decide) h (fun _ h => ?_) (fun _ h => ?_)
  · refine T_bipush (-2 : Int32) dX10_bestColumn_30 (by decide) ?_
    exact T_ireturn dX10_bestColumn_32 (Nat.le_of_ble_eq_true rfl) (Nat.le_of_ble_eq_true rfl) h
  · refine T_iload_n dX10_bestColumn_8 rfl 2 rfl ?_
    refine T_i2l dX10_bestColumn_9 ?_
    refine T_lconst (0 : Int64) dX10_bestColumn_10 (by decide) ?_
    refine T_ldc2 (3 : Int64) dX10_bestColumn_11 wd_11_12 ?_
    refine T_callSI (As := [.long (i2).toInt64, .long (0 : Int64), .long (3 : Int64)]) (rest := []) dX10_bestColumn_14 mc_X10_isIn mi_X10_isIn ml_RX10_51 rfl rfl (Nat.le_of_ble_eq_true rfl) ⟨⟨Nat.le_of_ble_eq_true rfl, Nat.le_of_ble_eq_true rfl⟩, ⟨Nat.le_of_ble_eq_true rfl, Nat.le_of_ble_eq_true rfl⟩⟩ K_X10_isIn h (fun i13 s14 h => ?_)
    refine T_if_eq 30 dX10_bestColumn_17 (by decide) h (fun _ h => ?_) (fun _ h => ?_)
    · refine T_bipush (-2 : Int32) dX10_bestColumn_30 (by decide) ?_
      exact T_ireturn dX10_bestColumn_32 (Nat.le_of_ble_eq_true rfl) (Nat.le_of_ble_eq_true rfl) h
    · refine T_iload_n dX10_bestColumn_20 rfl 3 rfl ?_
      refine T_i2l dX10_bestColumn_21 ?_
      refine T_lconst (0 : Int64) dX10_bestColumn_22 (by decide) ?_
      refine T_lconst (1 : Int64) dX10_bestColumn_23 (by decide) ?_
      refine T_callSI (As := [.long (i3).toInt64, .long (0 : Int64), .long (1 : Int64)]) (rest := []) dX10_bestColumn_24 mc_X10_isIn mi_X10_isIn ml_RX10_51 rfl rfl (Nat.le_of_ble_eq_true rfl) ⟨⟨Nat.le_of_ble_eq_true rfl, Nat.le_of_ble_eq_true rfl⟩, ⟨Nat.le_of_ble_eq_true rfl, Nat.le_of_ble_eq_true rfl⟩⟩ K_X10_isIn h (fun i15 s16 h => ?_)
      refine T_if_ne 33 dX10_bestColumn_27 (by decide) h (fun _ h => ?_) (fun _ h => ?_)
      · refine T_bipush (-6 : Int32) dX10_bestColumn_33 (by decide) ?_
        refine T_istore (lv' := [(4, .int (-6 : Int32)), (0, .ref a0), (1, .int i1), (2, .int i2), (3, .int i3)]) dX10_bestColumn_35 (by decide) rfl ?_
        refine T_bipush (-6 : Int32) dX10_bestColumn_37 (by decide) ?_
        refine T_istore (lv' := [(5, .int (-6 : Int32)), (4, .int (-6 : Int32)), (0, .ref a0), (1, .int i1), (2, .int i2), (3, .int i3)]) dX10_bestColumn_39 (by decide) rfl ?_
        refine T_aload_n dX10_bestColumn_41 rfl 2 rfl ?_
        refine T_getR dX10_bestColumn_42 fl_RX10_7 h (fun a17 h => ?_)
        refine T_aload_n dX10_bestColumn_45 rfl 2 rfl ?_
        refine T_getR dX10_bestColumn_46 fl_RX10_16 h (fun a18 h => ?_)
        refine T_callSV (As := [.ref a17, .ref a18]) (rest := []) dX10_bestColumn_49 mc_X10_copy mi_X10_copy ml_RX10_124 rfl rfl (Nat.le_of_ble_eq_true rfl) ⟨⟨Nat.le_of_ble_eq_true rfl, Nat.le_of_ble_eq_true rfl⟩, ⟨Nat.le_of_ble_eq_true rfl, Nat.le_of_ble_eq_true rfl⟩⟩ K_X10_copy h (fun s19 h => ?_)
        refine T_iconst (0 : Int32) dX10_bestColumn_52 (by decide) ?_
        refine T_istore (lv' := [(6, .int (0 : Int32)), (5, .int (-6 : Int32)), (4, .int (-6 : Int32)), (0, .ref a0), (1, .int i1), (2, .int i2), (3, .int i3)]) dX10_bestColumn_53 (by decide) rfl ?_
        refine T_lv (lv' := [(0, .ref a0), (1, .int i1), (2, .int i2), (3, .int i3), (4, .int (-6 : Int32)), (5, .int (-6 : Int32)), (6, .int (0 : Int32))]) [3, 4, 5, 6, 2, 1, 0] rfl ?_
        refine K_X10_bestColumn_w55 ?_ FU (-6 : Int32) (-6 : Int32) (0 : Int32) s19 h
        intro i66 i67 s65 h
        refine T_iload_n dX10_bestColumn_137 rfl 0 rfl ?_
        refine T_if_ne 146 dX10_bestColumn_138 (by decide) h (fun _ h => ?_) (fun _ h => ?_)
        · refine T_iload dX10_bestColumn_146 2 rfl ?_
          exact T_ireturn dX10_bestColumn_148 (Nat.le_of_ble_eq_true rfl) (Nat.le_of_ble_eq_true rfl) h
        · refine T_iload dX10_bestColumn_141 1 rfl ?_
          refine T_goto 148 dX10_bestColumn_143 (by decide) ?_
          exact T_ireturn dX10_bestColumn_148 (Nat.le_of_ble_eq_true rfl) (Nat.le_of_ble_eq_true rfl) h
      · refine T_bipush (-2 : Int32) dX10_bestColumn_30 (by decide) ?_
        exact T_ireturn dX10_bestColumn_32 (Nat.le_of_ble_eq_true rfl) (Nat.le_of_ble_eq_true rfl) h

def D_X10_count_b125  (a27 : Nat) (i28 : Int32) (s29 : Hp) : Option (Int32 × Hp) :=
  (getR s29 a27 9 0).bind fun a30 =>
  (ldI s29 a30 (i28 - (8 : Int32))).bind fun i31 =>
  some (i31, s29)
def D_X10_count (a0 : Nat) (i1 : Int32) (s0 : Hp) : Option (Int32 × Hp) :=
  (isO s0 a0 9).bind fun _ =>
  if i1 = (0 : Int32) then
  (getR s0 a0 9 0).bind fun a11 =>
  (ldI s0 a11 (3 : Int32)).bind fun i12 =>
  some (i12, s0)
  else
  if i1 = (1 : Int32) then
  (getR s0 a0 9 0).bind fun a13 =>
  (ldI s0 a13 (6 : Int32)).bind fun i14 =>
  some (i14, s0)
  else
  if i1 = (2 : Int32) then
  (getR s0 a0 9 0).bind fun a15 =>
  (ldI s0 a15 (4 : Int32)).bind fun i16 =>
  some (i16, s0)
  else
  if i1 = (3 : Int32) then
  bd (D_X10_areFlat a0 s0) fun i17 s18 =>
  if i17 = 0 then
  some ((0 : Int32), s18)
  else
  some ((1 : Int32), s18)
  else
  if i1 = (4 : Int32) then
  (getR s0 a0 9 0).bind fun a19 =>
  (ldI s0 a19 (5 : Int32)).bind fun i20 =>
  some (i20, s0)
  else
  if i1 = (5 : Int32) then
  bd (D_X10_brings a0 s0) fun i21 s22 =>
  some (i21, s22)
  else
  if i1 = (6 : Int32) then
  bd (D_X10_blockedOnes a0 s0) fun i23 s24 =>
  some (i23, s24)
  else
  if i1 = (7 : Int32) then
  bd (D_X10_allDirt a0 s0) fun i25 s26 =>
  some (i25, s26)
  else
  if i1 = (8 : Int32) then
  D_X10_count_b125 a0 i1 s0
  else
  if i1 = (9 : Int32) then
  D_X10_count_b125 a0 i1 s0
  else
  if i1 = (10 : Int32) then
  D_X10_count_b125 a0 i1 s0
  else
  if i1 = (11 : Int32) then
  (getI s0 a0 9 12).bind fun i32 =>
  some (i32, s0)
  else
  if i1 = (12 : Int32) then
  (getI s0 a0 9 4).bind fun i33 =>
  some (i33, s0)
  else
  some ((-2 : Int32), s0)
set_option maxRecDepth 100000 in
set_option maxHeartbeats 4000000 in
theorem K_X10_count_b125 {l : Launch} {G : smG} {P : Option Value → Hp → Prop}  {a27 : Nat} {i28 : Int32} {s29 : Hp}  (h : OK jI (D_X10_count_b125 a27 i28 s29) P) : T l G RX10 cX10_count 2 (sm_rm 6 0 0) (sm_E (some .int) yX10_count.name) (sm_Qs G P 0 0) 0 0 125 [(0, .ref a27), (1, .int i28)] [] s29 := by
  unfold D_X10_count_b125 at h
  refine T_aload_n dX10_count_125 rfl 0 rfl ?_
  refine T_getR dX10_count_126 fl_RX10_7 h (fun a30 h => ?_)
  refine T_iload_n dX10_count_129 rfl 1 rfl ?_
  refine T_bipush (8 : Int32) dX10_count_130 (by decide) ?_
  refine T_isub dX10_count_132 ?_
  refine T_iaload dX10_count_133 h (fun i31 h => ?_)
  exact T_ireturn dX10_count_134 (Nat.le_of_ble_eq_true rfl) (Nat.le_of_ble_eq_true rfl) h
set_option maxRecDepth 100000 in
set_option maxHeartbeats 4000000 in
theorem K_X10_count {l : Launch} {a0 : Nat} {i1 : Int32} {s0 : Hp} : ∀ P, OK jI (D_X10_count a0 i1 s0) P → sm_Ct l yX10_count cX10_count 2 (some .int) 6 0 0 [.ref a0, .int i1] s0 P := by
  intro P h
  unfold D_X10_count at h
  obtain ⟨_, hb0, h⟩ := h.bind
  refine sm_enter (own := RX10) (lv := [(0, .ref a0), (1, .int i1)]) (by decide) rfl (Nat.le_of_ble_eq_true rfl) rfl (fun G => ?_)
  refine T_iload_n dX10_count_0 rfl 1 rfl ?_
  refine T_ite h (fun c0 h => ?_) (fun c0 h => ?_)
  · refine T_tableIn 68 dX10_count_1 (by rw [c0]; decide) (by rw [c0]; decide) (by rw [c0]; rfl) (by decide) ?_
    refine T_aload_n dX10_count_68 rfl 0 rfl ?_
    refine T_getR dX10_count_69 fl_RX10_7 h (fun a11 h => ?_)
    refine T_iconst (3 : Int32) dX10_count_72 (by decide) ?_
    refine T_iaload dX10_count_73 h (fun i12 h => ?_)
    exact T_ireturn dX10_count_74 (Nat.le_of_ble_eq_true rfl) (Nat.le_of_ble_eq_true rfl) h
  refine T_ite h (fun c1 h => ?_) (fun c1 h => ?_)
  · refine T_tableIn 75 dX10_count_1 (by rw [c1]; decide) (by rw [c1]; decide) (by rw [c1]; rfl) (by decide) ?_
    refine T_aload_n dX10_count_75 rfl 0 rfl ?_
    refine T_getR dX10_count_76 fl_RX10_7 h (fun a13 h => ?_)
    refine T_bipush (6 : Int32) dX10_count_79 (by decide) ?_
    refine T_iaload dX10_count_81 h (fun i14 h => ?_)
    exact T_ireturn dX10_count_82 (Nat.le_of_ble_eq_true rfl) (Nat.le_of_ble_eq_true rfl) h
  refine T_ite h (fun c2 h => ?_) (fun c2 h => ?_)
  · refine T_tableIn 83 dX10_count_1 (by rw [c2]; decide) (by rw [c2]; decide) (by rw [c2]; rfl) (by decide) ?_
    refine T_aload_n dX10_count_83 rfl 0 rfl ?_
    refine T_getR dX10_count_84 fl_RX10_7 h (fun a15 h => ?_)
    refine T_iconst (4 : Int32) dX10_count_87 (by decide) ?_
    refine T_iaload dX10_count_88 h (fun i16 h => ?_)
    exact T_ireturn dX10_count_89 (Nat.le_of_ble_eq_true rfl) (Nat.le_of_ble_eq_true rfl) h
  refine T_ite h (fun c3 h => ?_) (fun c3 h => ?_)
  · refine T_tableIn 90 dX10_count_1 (by rw [c3]; decide) (by rw [c3]; decide) (by rw [c3]; rfl) (by decide) ?_
    refine T_aload_n dX10_count_90 rfl 0 rfl ?_
    refine T_callVI (As := []) (rest := []) (b := a0) (ci := 9) dX10_count_91 mc_X10_areFlat mi_X10_areFlat ml_RX10_69 rfl (fun _ hr => chk_of hr) rfl rfl (Nat.le_of_ble_eq_true rfl) ⟨⟨Nat.le_of_ble_eq_true rfl, Nat.le_of_ble_eq_true rfl⟩, ⟨Nat.le_of_ble_eq_true rfl, Nat.le_of_ble_eq_true rfl⟩⟩ K_X10_areFlat h (fun i17 s18 h => ?_)
    refine T_if_eq 101 dX10_count_94 (by decide) h (fun _ h => ?_) (fun _ h => ?_)
    · refine T_iconst (0 : Int32) dX10_count_101 (by decide) ?_
      exact T_ireturn dX10_count_102 (Nat.le_of_ble_eq_true rfl) (Nat.le_of_ble_eq_true rfl) h
    · refine T_iconst (1 : Int32) dX10_count_97 (by decide) ?_
      refine T_goto 102 dX10_count_98 (by decide) ?_
      exact T_ireturn dX10_count_102 (Nat.le_of_ble_eq_true rfl) (Nat.le_of_ble_eq_true rfl) h
  refine T_ite h (fun c4 h => ?_) (fun c4 h => ?_)
  · refine T_tableIn 103 dX10_count_1 (by rw [c4]; decide) (by rw [c4]; decide) (by rw [c4]; rfl) (by decide) ?_
    refine T_aload_n dX10_count_103 rfl 0 rfl ?_
    refine T_getR dX10_count_104 fl_RX10_7 h (fun a19 h => ?_)
    refine T_iconst (5 : Int32) dX10_count_107 (by decide) ?_
    refine T_iaload dX10_count_108 h (fun i20 h => ?_)
    exact T_ireturn dX10_count_109 (Nat.le_of_ble_eq_true rfl) (Nat.le_of_ble_eq_true rfl) h
  refine T_ite h (fun c5 h => ?_) (fun c5 h => ?_)
  · refine T_tableIn 110 dX10_count_1 (by rw [c5]; decide) (by rw [c5]; decide) (by rw [c5]; rfl) (by decide) ?_
    refine T_aload_n dX10_count_110 rfl 0 rfl ?_
    refine T_callVI (As := []) (rest := []) (b := a0) (ci := 9) dX10_count_111 mc_X10_brings mi_X10_brings ml_RX10_159 rfl (fun _ hr => chk_of hr) rfl rfl (Nat.le_of_ble_eq_true rfl) ⟨⟨Nat.le_of_ble_eq_true rfl, Nat.le_of_ble_eq_true rfl⟩, ⟨Nat.le_of_ble_eq_true rfl, Nat.le_of_ble_eq_true rfl⟩⟩ K_X10_brings h (fun i21 s22 h => ?_)
    exact T_ireturn dX10_count_114 (Nat.le_of_ble_eq_true rfl) (Nat.le_of_ble_eq_true rfl) h
  refine T_ite h (fun c6 h => ?_) (fun c6 h => ?_)
  · refine T_tableIn 115 dX10_count_1 (by rw [c6]; decide) (by rw [c6]; decide) (by rw [c6]; rfl) (by decide) ?_
    refine T_aload_n dX10_count_115 rfl 0 rfl ?_
    refine T_callVI (As := []) (rest := []) (b := a0) (ci := 9) dX10_count_116 mc_X10_blockedOnes mi_X10_blockedOnes ml_RX10_163 rfl (fun _ hr => chk_of hr) rfl rfl (Nat.le_of_ble_eq_true rfl) ⟨⟨Nat.le_of_ble_eq_true rfl, Nat.le_of_ble_eq_true rfl⟩, ⟨Nat.le_of_ble_eq_true rfl, Nat.le_of_ble_eq_true rfl⟩⟩ K_X10_blockedOnes h (fun i23 s24 h => ?_)
    exact T_ireturn dX10_count_119 (Nat.le_of_ble_eq_true rfl) (Nat.le_of_ble_eq_true rfl) h
  refine T_ite h (fun c7 h => ?_) (fun c7 h => ?_)
  · refine T_tableIn 120 dX10_count_1 (by rw [c7]; decide) (by rw [c7]; decide) (by rw [c7]; rfl) (by decide) ?_
    refine T_aload_n dX10_count_120 rfl 0 rfl ?_
    refine T_callVI (As := []) (rest := []) (b := a0) (ci := 9) dX10_count_121 mc_X10_allDirt mi_X10_allDirt ml_RX10_166 rfl (fun _ hr => chk_of hr) rfl rfl (Nat.le_of_ble_eq_true rfl) ⟨⟨Nat.le_of_ble_eq_true rfl, Nat.le_of_ble_eq_true rfl⟩, ⟨Nat.le_of_ble_eq_true rfl, Nat.le_of_ble_eq_true rfl⟩⟩ K_X10_allDirt h (fun i25 s26 h => ?_)
    exact T_ireturn dX10_count_124 (Nat.le_of_ble_eq_true rfl) (Nat.le_of_ble_eq_true rfl) h
  refine T_ite h (fun c8 h => ?_) (fun c8 h => ?_)
  · refine T_tableIn 125 dX10_count_1 (by rw [c8]; decide) (by rw [c8]; decide) (by rw [c8]; rfl) (by decide) ?_
    exact K_X10_count_b125 h
  refine T_ite h (fun c9 h => ?_) (fun c9 h => ?_)
  · refine T_tableIn 125 dX10_count_1 (by rw [c9]; decide) (by rw [c9]; decide) (by rw [c9]; rfl) (by decide) ?_
    exact K_X10_count_b125 h
  refine T_ite h (fun c10 h => ?_) (fun c10 h => ?_)
  · refine T_tableIn 125 dX10_count_1 (by rw [c10]; decide) (by rw [c10]; decide) (by rw [c10]; rfl) (by decide) ?_
    exact K_X10_count_b125 h
  refine T_ite h (fun c11 h => ?_) (fun c11 h => ?_)
  · refine T_tableIn 135 dX10_count_1 (by rw [c11]; decide) (by rw [c11]; decide) (by rw [c11]; rfl) (by decide) ?_
    refine T_aload_n dX10_count_135 rfl 0 rfl ?_
    refine T_getI dX10_count_136 fl_RX10_169 h (fun i32 h => ?_)
    exact T_ireturn dX10_count_139 (Nat.le_of_ble_eq_true rfl) (Nat.le_of_ble_eq_true rfl) h
  refine T_ite h (fun c12 h => ?_) (fun c12 h => ?_)
  · refine T_tableIn 140 dX10_count_1 (by rw [c12]; decide) (by rw [c12]; decide) (by rw [c12]; rfl) (by decide) ?_
    refine T_aload_n dX10_count_140 rfl 0 rfl ?_
    refine T_getI dX10_count_141 fl_RX10_43 h (fun i33 h => ?_)
    exact T_ireturn dX10_count_144 (Nat.le_of_ble_eq_true rfl) (Nat.le_of_ble_eq_true rfl) h
  refine T_tableOut 145 dX10_count_1 (by have e0 := lv_neT (a := 0) c0 rfl; have e1 := lv_neT (a := 1) c1 rfl; have e2 := lv_neT (a := 2) c2 rfl; have e3 := lv_neT (a := 3) c3 rfl; have e4 := lv_neT (a := 4) c4 rfl; have e5 := lv_neT (a := 5) c5 rfl; have e6 := lv_neT (a := 6) c6 rfl; have e7 := lv_neT (a := 7) c7 rfl; have e8 := lv_neT (a := 8) c8 rfl; have e9 := lv_neT (a := 9) c9 rfl; have e10 := lv_neT (a := 10) c10 rfl; have e11 := lv_neT (a := 11) c11 rfl; have e12 := lv_neT (a := 12) c12 rfl; omega) (by decide) ?_
  refine T_bipush (-2 : Int32) dX10_count_145 (by decide) ?_
  exact T_ireturn dX10_count_147 (Nat.le_of_ble_eq_true rfl) (Nat.le_of_ble_eq_true rfl) h
