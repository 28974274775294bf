def D_X9_take (a0 : Nat) (i1 : Int32) (s0 : Hp) : Option (Int32 × Hp) :=
  (isO s0 a0 8).bind fun _ =>
  (getR s0 a0 8 5).bind fun a11 =>
  (getR s0 a0 8 0).bind fun a12 =>
  (D_X3_note a11 a12 s0).bind fun s13 =>
  (getR s13 a0 8 0).bind fun a14 =>
  bd (D_X2_remove a14 i1 s13) fun i15 s16 =>
  bd (D_X9_recorded a0 i15 s16) fun i17 s18 =>
  some (i17, s18)
set_option maxRecDepth 100000 in
set_option maxHeartbeats 4000000 in
theorem K_X9_take {l : Launch} {a0 : Nat} {i1 : Int32} {s0 : Hp} : ∀ P, OK jI (D_X9_take a0 i1 s0) P → sm_Ct l yX9_take cX9_take 2 (some .int) 5 0 0 [.ref a0, .int i1] s0 P := by
  intro P h
  unfold D_X9_take at h
  obtain ⟨_, hb0, h⟩ := h.bind
  refine sm_enter (own := RX9) (lv := [(0, .ref a0), (1, .int i1)]) (by decide) rfl (Nat.le_of_ble_eq_true rfl) rfl (fun G => ?_)
  refine T_aload_n dX9_take_0 rfl 0 rfl ?_
  refine T_getR dX9_take_1 fl_RX9_51 h (fun a11 h => ?_)
  refine T_aload_n dX9_take_4 rfl 0 rfl ?_
  refine T_getR dX9_take_5 fl_RX9_12 h (fun a12 h => ?_)
  refine T_callVV (As := [.ref a12]) (rest := []) (b := a11) (ci := 3) dX9_take_8 mc_X3_note mi_X3_note ml_RX9_68 rfl (fun _ hr => chk_of hr) rfl rfl (Nat.le_of_ble_eq_true rfl) ⟨⟨Nat.le_of_ble_eq_true rfl, Nat.le_of_ble_eq_true rfl⟩, ⟨Nat.le_of_ble_eq_true rfl, Nat.le_of_ble_eq_true rfl⟩⟩ K_X3_note h (fun s13 h => ?_)
  refine T_aload_n dX9_take_11 rfl 0 rfl ?_
  refine T_aload_n dX9_take_12 rfl 0 rfl ?_
  refine T_getR dX9_take_13 fl_RX9_12 h (fun a14 h => ?_)
  refine T_iload_n dX9_take_16 rfl 1 rfl ?_
  refine T_callVI (As := [.int i1]) (rest := [.ref a0]) (b := a14) (ci := 2) dX9_take_17 mc_X2_remove mi_X2_remove ml_RX9_83 rfl (fun _ hr => chk_of hr) rfl rfl (Nat.le_of_ble_eq_true rfl) ⟨⟨Nat.le_of_ble_eq_true rfl, Nat.le_of_ble_eq_true rfl⟩, ⟨Nat.le_of_ble_eq_true rfl, Nat.le_of_ble_eq_true rfl⟩⟩ K_X2_remove h (fun i15 s16 h => ?_)
  refine T_callVI (As := [.int i15]) (rest := []) (b := a0) (ci := 8) dX9_take_20 mc_X9_recorded mi_X9_recorded ml_RX9_75 rfl (fun _ hr => chk_of hr) rfl rfl (Nat.le_of_ble_eq_true rfl) ⟨⟨Nat.le_of_ble_eq_true rfl, Nat.le_of_ble_eq_true rfl⟩, ⟨Nat.le_of_ble_eq_true rfl, Nat.le_of_ble_eq_true rfl⟩⟩ K_X9_recorded h (fun i17 s18 h => ?_)
  exact T_ireturn dX9_take_23 (Nat.le_of_ble_eq_true rfl) (Nat.le_of_ble_eq_true rfl) h

def D_X9_undo (a0 : Nat) (s0 : Hp) : Option (Int32 × Hp) :=
  (isO s0 a0 8).bind fun _ =>
  (getR s0 a0 8 5).bind fun a11 =>
  (getR s0 a0 8 0).bind fun a12 =>
  bd (D_X3_stepBack a11 a12 s0) fun i13 s14 =>
  if i13 = 0 then
  some ((-5 : Int32), s14)
  else
  (getR s14 a0 8 5).bind fun a15 =>
  bd (D_X3_size a15 s14) fun i16 s17 =>
  some (i16, s17)
set_option maxRecDepth 100000 in
set_option maxHeartbeats 4000000 in
theorem K_X9_undo {l : Launch} {a0 : Nat} {s0 : Hp} : ∀ P, OK jI (D_X9_undo a0 s0) P → sm_Ct l yX9_undo cX9_undo 1 (some .int) 5 0 0 [.ref a0] s0 P := by
  intro P h
  unfold D_X9_undo at h
  obtain ⟨_, hb0, h⟩ := h.bind
  refine sm_enter (own := RX9) (lv := [(0, .ref a0)]) (by decide) rfl (Nat.le_of_ble_eq_true rfl) rfl (fun G => ?_)
  refine T_aload_n dX9_undo_0 rfl 0 rfl ?_
  refine T_getR dX9_undo_1 fl_RX9_51 h (fun a11 h => ?_)
  refine T_aload_n dX9_undo_4 rfl 0 rfl ?_
  refine T_getR dX9_undo_5 fl_RX9_12 h (fun a12 h => ?_)
  refine T_callVI (As := [.ref a12]) (rest := []) (b := a11) (ci := 3) dX9_undo_8 mc_X3_stepBack mi_X3_stepBack ml_RX9_230 rfl (fun _ hr => chk_of hr) rfl rfl (Nat.le_of_ble_eq_true rfl) ⟨⟨Nat.le_of_ble_eq_true rfl, Nat.le_of_ble_eq_true rfl⟩, ⟨Nat.le_of_ble_eq_true rfl, Nat.le_of_ble_eq_true rfl⟩⟩ K_X3_stepBack h (fun i13 s14 h => ?_)
  refine T_if_eq 24 dX9_undo_11 (by decide) h (fun _ h => ?_) (fun _ h => ?_)
  · refine T_bipush (-5 : Int32) dX9_undo_24 (by decide) ?_
    exact T_ireturn dX9_undo_26 (Nat.le_of_ble_eq_true rfl) (Nat.le_of_ble_eq_true rfl) h
  · refine T_aload_n dX9_undo_14 rfl 0 rfl ?_
    refine T_getR dX9_undo_15 fl_RX9_51 h (fun a15 h => ?_)
    refine T_callVI (As := []) (rest := []) (b := a15) (ci := 3) dX9_undo_18 mc_X3_size mi_X3_size ml_RX9_190 rfl (fun _ hr => chk_of hr) rfl rfl (Nat.le_of_ble_eq_true rfl) ⟨⟨Nat.le_of_ble_eq_true rfl, Nat.le_of_ble_eq_true rfl⟩, ⟨Nat.le_of_ble_eq_true rfl, Nat.le_of_ble_eq_true rfl⟩⟩ K_X3_size h (fun i16 s17 h => ?_)
    refine T_goto 26 dX9_undo_21 (by decide) ?_
    exact T_ireturn dX9_undo_26 (Nat.le_of_ble_eq_true rfl) (Nat.le_of_ble_eq_true rfl) h

def D_X9_wash (a0 : Nat) (i1 : Int32) (s0 : Hp) : Option (Int32 × Hp) :=
  (isO s0 a0 8).bind fun _ =>
  (getR s0 a0 8 5).bind fun a11 =>
  (getR s0 a0 8 0).bind fun a12 =>
  (D_X3_note a11 a12 s0).bind fun s13 =>
  (getR s13 a0 8 0).bind fun a14 =>
  bd (D_X2_clean a14 i1 s13) fun i15 s16 =>
  bd (D_X9_recorded a0 i15 s16) fun i17 s18 =>
  some (i17, s18)
set_option maxRecDepth 100000 in
set_option maxHeartbeats 4000000 in
theorem K_X9_wash {l : Launch} {a0 : Nat} {i1 : Int32} {s0 : Hp} : ∀ P, OK jI (D_X9_wash a0 i1 s0) P → sm_Ct l yX9_wash cX9_wash 2 (some .int) 5 0 0 [.ref a0, .int i1] s0 P := by
  intro P h
  unfold D_X9_wash at h
  obtain ⟨_, hb0, h⟩ := h.bind
  refine sm_enter (own := RX9) (lv := [(0, .ref a0), (1, .int i1)]) (by decide) rfl (Nat.le_of_ble_eq_true rfl) rfl (fun G => ?_)
  refine T_aload_n dX9_wash_0 rfl 0 rfl ?_
  refine T_getR dX9_wash_1 fl_RX9_51 h (fun a11 h => ?_)
  refine T_aload_n dX9_wash_4 rfl 0 rfl ?_
  refine T_getR dX9_wash_5 fl_RX9_12 h (fun a12 h => ?_)
  refine T_callVV (As := [.ref a12]) (rest := []) (b := a11) (ci := 3) dX9_wash_8 mc_X3_note mi_X3_note ml_RX9_68 rfl (fun _ hr => chk_of hr) rfl rfl (Nat.le_of_ble_eq_true rfl) ⟨⟨Nat.le_of_ble_eq_true rfl, Nat.le_of_ble_eq_true rfl⟩, ⟨Nat.le_of_ble_eq_true rfl, Nat.le_of_ble_eq_true rfl⟩⟩ K_X3_note h (fun s13 h => ?_)
  refine T_aload_n dX9_wash_11 rfl 0 rfl ?_
  refine T_aload_n dX9_wash_12 rfl 0 rfl ?_
  refine T_getR dX9_wash_13 fl_RX9_12 h (fun a14 h => ?_)
  refine T_iload_n dX9_wash_16 rfl 1 rfl ?_
  refine T_callVI (As := [.int i1]) (rest := [.ref a0]) (b := a14) (ci := 2) dX9_wash_17 mc_X2_clean mi_X2_clean ml_RX9_89 rfl (fun _ hr => chk_of hr) rfl rfl (Nat.le_of_ble_eq_true rfl) ⟨⟨Nat.le_of_ble_eq_true rfl, Nat.le_of_ble_eq_true rfl⟩, ⟨Nat.le_of_ble_eq_true rfl, Nat.le_of_ble_eq_true rfl⟩⟩ K_X2_clean h (fun i15 s16 h => ?_)
  refine T_callVI (As := [.int i15]) (rest := []) (b := a0) (ci := 8) dX9_wash_20 mc_X9_recorded mi_X9_recorded ml_RX9_75 rfl (fun _ hr => chk_of hr) rfl rfl (Nat.le_of_ble_eq_true rfl) ⟨⟨Nat.le_of_ble_eq_true rfl, Nat.le_of_ble_eq_true rfl⟩, ⟨Nat.le_of_ble_eq_true rfl, Nat.le_of_ble_eq_true rfl⟩⟩ K_X9_recorded h (fun i17 s18 h => ?_)
  exact T_ireturn dX9_wash_23 (Nat.le_of_ble_eq_true rfl) (Nat.le_of_ble_eq_true rfl) h

def D_X9_wind (a0 : Nat) (i1 : Int32) (s0 : Hp) : Option (Int32 × Hp) :=
  (isO s0 a0 8).bind fun _ =>
  (getR s0 a0 8 5).bind fun a11 =>
  (getR s0 a0 8 0).bind fun a12 =>
  (D_X3_note a11 a12 s0).bind fun s13 =>
  (getR s13 a0 8 0).bind fun a14 =>
  bd (D_X2_blow a14 i1 s13) fun i15 s16 =>
  bd (D_X9_recorded a0 i15 s16) fun i17 s18 =>
  some (i17, s18)
set_option maxRecDepth 100000 in
set_option maxHeartbeats 4000000 in
theorem K_X9_wind {l : Launch} {a0 : Nat} {i1 : Int32} {s0 : Hp} : ∀ P, OK jI (D_X9_wind a0 i1 s0) P → sm_Ct l yX9_wind cX9_wind 2 (some .int) 5 0 0 [.ref a0, .int i1] s0 P := by
  intro P h
  unfold D_X9_wind at h
  obtain ⟨_, hb0, h⟩ := h.bind
  refine sm_enter (own := RX9) (lv := [(0, .ref a0), (1, .int i1)]) (by decide) rfl (Nat.le_of_ble_eq_true rfl) rfl (fun G => ?_)
  refine T_aload_n dX9_wind_0 rfl 0 rfl ?_
  refine T_getR dX9_wind_1 fl_RX9_51 h (fun a11 h => ?_)
  refine T_aload_n dX9_wind_4 rfl 0 rfl ?_
  refine T_getR dX9_wind_5 fl_RX9_12 h (fun a12 h => ?_)
  refine T_callVV (As := [.ref a12]) (rest := []) (b := a11) (ci := 3) dX9_wind_8 mc_X3_note mi_X3_note ml_RX9_68 rfl (fun _ hr => chk_of hr) rfl rfl (Nat.le_of_ble_eq_true rfl) ⟨⟨Nat.le_of_ble_eq_true rfl, Nat.le_of_ble_eq_true rfl⟩, ⟨Nat.le_of_ble_eq_true rfl, Nat.le_of_ble_eq_true rfl⟩⟩ K_X3_note h (fun s13 h => ?_)
  refine T_aload_n dX9_wind_11 rfl 0 rfl ?_
  refine T_aload_n dX9_wind_12 rfl 0 rfl ?_
  refine T_getR dX9_wind_13 fl_RX9_12 h (fun a14 h => ?_)
  refine T_iload_n dX9_wind_16 rfl 1 rfl ?_
  refine T_callVI (As := [.int i1]) (rest := [.ref a0]) (b := a14) (ci := 2) dX9_wind_17 mc_X2_blow mi_X2_blow ml_RX9_92 rfl (fun _ hr => chk_of hr) rfl rfl (Nat.le_of_ble_eq_true rfl) ⟨⟨Nat.le_of_ble_eq_true rfl, Nat.le_of_ble_eq_true rfl⟩, ⟨Nat.le_of_ble_eq_true rfl, Nat.le_of_ble_eq_true rfl⟩⟩ K_X2_blow h (fun i15 s16 h => ?_)
  refine T_callVI (As := [.int i15]) (rest := []) (b := a0) (ci := 8) dX9_wind_20 mc_X9_recorded mi_X9_recorded ml_RX9_75 rfl (fun _ hr => chk_of hr) rfl rfl (Nat.le_of_ble_eq_true rfl) ⟨⟨Nat.le_of_ble_eq_true rfl, Nat.le_of_ble_eq_true rfl⟩, ⟨Nat.le_of_ble_eq_true rfl, Nat.le_of_ble_eq_true rfl⟩⟩ K_X9_recorded h (fun i17 s18 h => ?_)
  exact T_ireturn dX9_wind_23 (Nat.le_of_ble_eq_true rfl) (Nat.le_of_ble_eq_true rfl) h

def D_L_areAlike_b32 (k4 : Int32 → Int32 → Hp → Option (Int32 × Hp)) (a21 : Nat) (a22 : Nat) (i23 : Int32) (i25 : Int32) (s24 : Hp) : Option (Int32 × Hp) :=
  k4 i25 (i23 + 1) s24
def D_L_areAlike_b31 (k4 : Int32 → Int32 → Hp → Option (Int32 × Hp)) (a17 : Nat) (a18 : Nat) (i19 : Int32) (s20 : Hp) : Option (Int32 × Hp) :=
  D_L_areAlike_b32 k4 a17 a18 i19 (0 : Int32) s20
def D_L_areAlike_w4 (a11 : Nat) (a12 : Nat) (k39 : Int32 → Hp → Option (Int32 × Hp)) : Nat → Int32 → Int32 → Hp → Option (Int32 × Hp)
  | 0, _, _, _ => none
  | n16 + 1, i13, i14, s15 =>
  if (11 : Int32) ≤ i14 then
  k39 i13 s15
  else
  if i13 = 0 then
  D_L_areAlike_b31 (D_L_areAlike_w4 a11 a12 k39 n16) a11 a12 i14 s15
  else
  bd (D_X9_count a11 i14 s15) fun i32 s33 =>
  bd (D_X9_count a12 i14 s33) fun i34 s35 =>
  if i32 = i34 then
  D_L_areAlike_b32 (D_L_areAlike_w4 a11 a12 k39 n16) a11 a12 i14 (1 : Int32) s35
  else
  D_L_areAlike_b31 (D_L_areAlike_w4 a11 a12 k39 n16) a11 a12 i14 s35
def D_L_areAlike_b108 (k57 : Int32 → Int32 → Hp → Option (Int32 × Hp)) (a60 : Nat) (a61 : Nat) (i62 : Int32) (i63 : Int32) (i65 : Int32) (s64 : Hp) : Option (Int32 × Hp) :=
  k57 i65 (i63 + 1) s64
def D_L_areAlike_b107 (k57 : Int32 → Int32 → Hp → Option (Int32 × Hp)) (a55 : Nat) (a56 : Nat) (i57 : Int32) (i58 : Int32) (s59 : Hp) : Option (Int32 × Hp) :=
  D_L_areAlike_b108 k57 a55 a56 i57 i58 (0 : Int32) s59
def D_L_areAlike_b100 (k57 : Int32 → Int32 → Hp → Option (Int32 × Hp)) (a76 : Nat) (a77 : Nat) (i78 : Int32) (i79 : Int32) (i81 : Int32) (i82 : Int32) (s80 : Hp) : Option (Int32 × Hp) :=
  if i82 = i81 then
  D_L_areAlike_b108 k57 a76 a77 i78 i79 (1 : Int32) s80
  else
  D_L_areAlike_b107 k57 a76 a77 i78 i79 s80
def D_L_areAlike_w57 (a48 : Nat) (a49 : Nat) (i50 : Int32) (k115 : Int32 → Hp → Option (Int32 × Hp)) : Nat → Int32 → Int32 → Hp → Option (Int32 × Hp)
  | 0, _, _, _ => none
  | n54 + 1, i51, i52, s53 =>
  if (6 : Int32) ≤ i52 then
  k115 i51 s53
  else
  if i51 = 0 then
  D_L_areAlike_b107 (D_L_areAlike_w57 a48 a49 i50 k115 n54) a48 a49 i50 i52 s53
  else
  bd (D_X9_of a49 i50 i52 s53) fun i72 s73 =>
  if i52 = (1 : Int32) then
  bd (D_X9_of a48 i50 (1 : Int32) s73) fun i86 s87 =>
  D_L_areAlike_b100 (D_L_areAlike_w57 a48 a49 i50 k115 n54) a48 a49 i50 i52 ((20 : Int32) - i86) i72 s87
  else
  bd (D_X9_of a48 i50 i52 s73) fun i74 s75 =>
  D_L_areAlike_b100 (D_L_areAlike_w57 a48 a49 i50 k115 n54) a48 a49 i50 i52 i74 i72 s75
def D_L_areAlike_b166 (k118 : Int32 → Int32 → Hp → Option (Int32 × Hp)) (a104 : Nat) (a105 : Nat) (i106 : Int32) (i107 : Int32) (i109 : Int32) (s108 : Hp) : Option (Int32 × Hp) :=
  k118 i109 (i107 + 1) s108
def D_L_areAlike_b165 (k118 : Int32 → Int32 → Hp → Option (Int32 × Hp)) (a99 : Nat) (a100 : Nat) (i101 : Int32) (i102 : Int32) (s103 : Hp) : Option (Int32 × Hp) :=
  D_L_areAlike_b166 k118 a99 a100 i101 i102 (0 : Int32) s103
def D_L_areAlike_w118 (a92 : Nat) (a93 : Nat) (i94 : Int32) (k173 : Int32 → Hp → Option (Int32 × Hp)) : Nat → Int32 → Int32 → Hp → Option (Int32 × Hp)
  | 0, _, _, _ => none
  | n98 + 1, i95, i96, s97 =>
  if (44 : Int32) ≤ i96 then
  k173 i95 s97
  else
  if i95 = 0 then
  D_L_areAlike_b165 (D_L_areAlike_w118 a92 a93 i94 k173 n98) a92 a93 i94 i96 s97
  else
  (divI i96 (4 : Int32)).bind fun i116 =>
  (remI i96 (4 : Int32)).bind fun i117 =>
  bd (D_X9_at a92 i94 i116 i117 s97) fun i118 s119 =>
  (divI i96 (4 : Int32)).bind fun i120 =>
  (remI i96 (4 : Int32)).bind fun i121 =>
  bd (D_X9_at a93 i94 ((10 : Int32) - i120) i121 s119) fun i122 s123 =>
  if i118 = i122 then
  D_L_areAlike_b166 (D_L_areAlike_w118 a92 a93 i94 k173 n98) a92 a93 i94 i96 (1 : Int32) s123
  else
  D_L_areAlike_b165 (D_L_areAlike_w118 a92 a93 i94 k173 n98) a92 a93 i94 i96 s123
def D_L_areAlike_w41 (a40 : Nat) (a41 : Nat) (k179 : Int32 → Hp → Option (Int32 × Hp)) : Nat → Int32 → Int32 → Hp → Option (Int32 × Hp)
  | 0, _, _, _ => none
  | n45 + 1, i42, i43, s44 =>
  bd (D_X9_count a40 (1 : Int32) s44) fun i46 s47 =>
  if i46 ≤ i43 then
  k179 i42 s47
  else
  if i42 = 0 then
  k179 i42 s47
  else
  D_L_areAlike_w57 a40 a41 i43 (fun i91 s90 =>
  D_L_areAlike_w118 a40 a41 i43 (fun i127 s126 =>
  D_L_areAlike_w41 a40 a41 k179 n45 i127 (i43 + 1) s126
  ) FU i91 (0 : Int32) s90
  ) FU i42 (0 : Int32) s47
def D_L_areAlike_b239 (k194 : Int32 → Int32 → Hp → Option (Int32 × Hp)) (a154 : Nat) (a155 : Nat) (i156 : Int32) (i157 : Int32) (i159 : Int32) (s158 : Hp) : Option (Int32 × Hp) :=
  k194 i159 (i157 + 1) s158
def D_L_areAlike_b238 (k194 : Int32 → Int32 → Hp → Option (Int32 × Hp)) (a149 : Nat) (a150 : Nat) (i151 : Int32) (i152 : Int32) (s153 : Hp) : Option (Int32 × Hp) :=
  D_L_areAlike_b239 k194 a149 a150 i151 i152 (0 : Int32) s153
def D_L_areAlike_w194 (a142 : Nat) (a143 : Nat) (i144 : Int32) (k246 : Int32 → Hp → Option (Int32 × Hp)) : Nat → Int32 → Int32 → Hp → Option (Int32 × Hp)
  | 0, _, _, _ => none
  | n148 + 1, i145, i146, s147 =>
  if (3 : Int32) ≤ i146 then
  k246 i145 s147
  else
  if i145 = 0 then
  D_L_areAlike_b238 (D_L_areAlike_w194 a142 a143 i144 k246 n148) a142 a143 i144 i146 s147
  else
  (remI i144 (4 : Int32)).bind fun i166 =>
  (divI i144 (4 : Int32)).bind fun i167 =>
  bd (D_X9_point a142 i166 i167 i146 s147) fun i168 s169 =>
  (remI i144 (4 : Int32)).bind fun i170 =>
  (divI i144 (4 : Int32)).bind fun i171 =>
  bd (D_X9_point a143 i170 ((10 : Int32) - i171) i146 s169) fun i172 s173 =>
  if i168 = i172 then
  D_L_areAlike_b239 (D_L_areAlike_w194 a142 a143 i144 k246 n148) a142 a143 i144 i146 (1 : Int32) s173
  else
  D_L_areAlike_b238 (D_L_areAlike_w194 a142 a143 i144 k246 n148) a142 a143 i144 i146 s173
def D_L_areAlike_w181 (a136 : Nat) (a137 : Nat) (k252 : Int32 → Hp → Option (Int32 × Hp)) : Nat → Int32 → Int32 → Hp → Option (Int32 × Hp)
  | 0, _, _, _ => none
  | n141 + 1, i138, i139, s140 =>
  if (44 : Int32) ≤ i139 then
  k252 i138 s140
  else
  if i138 = 0 then
  k252 i138 s140
  else
  D_L_areAlike_w194 a136 a137 i139 (fun i177 s176 =>
  D_L_areAlike_w181 a136 a137 k252 n141 i177 (i139 + 1) s176
  ) FU i138 (0 : Int32) s140
def D_L_areAlike_b179  (a132 : Nat) (a133 : Nat) (i134 : Int32) (s135 : Hp) : Option (Int32 × Hp) :=
  D_L_areAlike_w181 a132 a133 (fun i181 s180 =>
  retZ i181 (i181, s180)
  ) FU i134 (0 : Int32) s135
def D_L_areAlike (a0 : Nat) (a1 : Nat) (s0 : Hp) : Option (Int32 × Hp) :=
  D_L_areAlike_w4 a0 a1 (fun i39 s38 =>
  D_L_areAlike_w41 a0 a1 (fun i131 s130 =>
  D_L_areAlike_b179 a0 a1 i131 s130
  ) FU i39 (0 : Int32) s38
  ) FU (1 : Int32) (0 : Int32) s0
set_option maxRecDepth 100000 in
set_option maxHeartbeats 4000000 in
theorem K_L_areAlike_b32 {l : Launch} {G : smG} {P : Option Value → Hp → Prop} {k4 : Int32 → Int32 → Hp → Option (Int32 × Hp)} {a21 : Nat} {a22 : Nat} {i23 : Int32} {i25 : Int32} {s24 : Hp} (hk4 : ∀ (i26 : Int32) (i27 : Int32) (s28 : Hp), OK jI (k4 i26 i27 s28) P → T l G RL cL_areAlike 5 (sm_rm 6 0 0) (sm_E (some .boolean) yL_areAlike.name) (sm_Qs G P 0 0) 0 0 4 [(0, .ref a21), (1, .ref a22), (2, .int i26), (3, .int i27)] [] s28) (h : OK jI (D_L_areAlike_b32 k4 a21 a22 i23 i25 s24) P) : T l G RL cL_areAlike 5 (sm_rm 6 0 0) (sm_E (some .boolean) yL_areAlike.name) (sm_Qs G P 0 0) 0 0 32 [(0, .ref a21), (1, .ref a22), (3, .int i23)] [.int i25] s24 := by
  unfold D_L_areAlike_b32 at h
  refine T_istore_n (lv' := [(2, .int i25), (0, .ref a21), (1, .ref a22), (3, .int i23)]) dL_areAlike_32 rfl (by decide) rfl ?_
  refine T_iinc (i23 + 1) (lv' := [(3, .int (i23 + 1)), (2, .int i25), (0, .ref a21), (1, .ref a22)]) dL_areAlike_33 (j := 3) rfl rfl (by decide) rfl ?_
  refine T_goto 4 dL_areAlike_36 (by decide) ?_
  refine T_lv (lv' := [(0, .ref a21), (1, .ref a22), (2, .int i25), (3, .int (i23 + 1))]) [2, 3, 1, 0] rfl ?_
  exact hk4 i25 (i23 + 1) s24 h
set_option maxRecDepth 100000 in
set_option maxHeartbeats 4000000 in
theorem K_L_areAlike_b31 {l : Launch} {G : smG} {P : Option Value → Hp → Prop} {k4 : Int32 → Int32 → Hp → Option (Int32 × Hp)} {a17 : Nat} {a18 : Nat} {i19 : Int32} {s20 : Hp} (hk4 : ∀ (i29 : Int32) (i30 : Int32) (s31 : Hp), OK jI (k4 i29 i30 s31) P → T l G RL cL_areAlike 5 (sm_rm 6 0 0) (sm_E (some .boolean) yL_areAlike.name) (sm_Qs G P 0 0) 0 0 4 [(0, .ref a17), (1, .ref a18), (2, .int i29), (3, .int i30)] [] s31) (h : OK jI (D_L_areAlike_b31 k4 a17 a18 i19 s20) P) : T l G RL cL_areAlike 5 (sm_rm 6 0 0) (sm_E (some .boolean) yL_areAlike.name) (sm_Qs G P 0 0) 0 0 31 [(0, .ref a17), (1, .ref a18), (3, .int i19)] [] s20 := by
  unfold D_L_areAlike_b31 at h
  refine T_iconst (0 : Int32) dL_areAlike_31 (by decide) ?_
  exact K_L_areAlike_b32 hk4 h
set_option maxRecDepth 100000 in
set_option maxHeartbeats 4000000 in
theorem K_L_areAlike_w4 {l : Launch} {G : smG} {P : Option Value → Hp → Prop} {a11 : Nat} {a12 : Nat} {k39 : Int32 → Hp → Option (Int32 × Hp)} (hk39 : ∀ (i36 : Int32) (s37 : Hp), OK jI (k39 i36 s37) P → T l G RL cL_areAlike 5 (sm_rm 6 0 0) (sm_E (some .boolean) yL_areAlike.name) (sm_Qs G P 0 0) 0 0 39 [(0, .ref a11), (1, .ref a12), (2, .int i36)] [] s37) : ∀ (n : Nat) (i13 : Int32) (i14 : Int32) (s15 : Hp), OK jI (D_L_areAlike_w4 a11 a12 k39 n i13 i14 s15) P → T l G RL cL_areAlike 5 (sm_rm 6 0 0) (sm_E (some .boolean) yL_areAlike.name) (sm_Qs G P 0 0) 0 0 4 [(0, .ref a11), (1, .ref a12), (2, .int i13), (3, .int i14)] [] s15 := by
  intro n
  induction n with
  | zero => intro i13 i14 s15 h; obtain ⟨_, h0, _⟩ := h; exact absurd h0 (by simp [D_L_areAlike_w4])
  | succ n16 ih =>
    intro i13 i14 s15 h
    unfold D_L_areAlike_w4 at h
    refine T_iload_n dL_areAlike_4 rfl 3 rfl ?_
    refine T_bipush (11 : Int32) dL_areAlike_5 (by decide) ?_
    refine T_icmp_ge 39 dL_areAlike_7 (by decide) h (fun _ h => ?_) (fun _ h => ?_)
    · refine T_lv (lv' := [(0, .ref a11), (1, .ref a12), (2, .int i13)]) [0, 1, 2] rfl ?_
      exact hk39 i13 s15 h
    · refine T_iload_n dL_areAlike_10 rfl 2 rfl ?_
      refine T_if_eq 31 dL_areAlike_11 (by decide) h (fun _ h => ?_) (fun _ h => ?_)
      · refine T_lv (lv' := [(0, .ref a11), (1, .ref a12), (3, .int i14)]) [0, 1, 3] rfl ?_
        exact K_L_areAlike_b31 ih h
      · refine T_aload_n dL_areAlike_14 rfl 0 rfl ?_
        refine T_iload_n dL_areAlike_15 rfl 3 rfl ?_
        refine T_callVI (As := [.int i14]) (rest := []) (b := a11) (ci := 8) dL_areAlike_16 mc_X9_count mi_X9_count ml_RL_9 rfl (fun _ hr => chk_of hr) rfl rfl (Nat.le_of_ble_eq_true rfl) ⟨⟨Nat.le_of_ble_eq_true rfl, Nat.le_of_ble_eq_true rfl⟩, ⟨Nat.le_of_ble_eq_true rfl, Nat.le_of_ble_eq_true rfl⟩⟩ K_X9_count h (fun i32 s33 h => ?_)
        refine T_aload_n dL_areAlike_19 rfl 1 rfl ?_
        refine T_iload_n dL_areAlike_20 rfl 3 rfl ?_
        refine T_callVI (As := [.int i14]) (rest := [.int i32]) (b := a12) (ci := 8) dL_areAlike_21 mc_X9_count mi_X9_count ml_RL_9 rfl (fun _ hr => chk_of hr) rfl rfl (Nat.le_of_ble_eq_true rfl) ⟨⟨Nat.le_of_ble_eq_true rfl, Nat.le_of_ble_eq_true rfl⟩, ⟨Nat.le_of_ble_eq_true rfl, Nat.le_of_ble_eq_true rfl⟩⟩ K_X9_count h (fun i34 s35 h => ?_)
        refine T_icmp_ne 31 dL_areAlike_24 (by decide) h (fun _ h => ?_) (fun _ h => ?_)
        · refine T_lv (lv' := [(0, .ref a11), (1, .ref a12), (3, .int i14)]) [0, 1, 3] rfl ?_
          exact K_L_areAlike_b31 ih h
        · refine T_iconst (1 : Int32) dL_areAlike_27 (by decide) ?_
          refine T_goto 32 dL_areAlike_28 (by decide) ?_
          refine T_lv (lv' := [(0, .ref a11), (1, .ref a12), (3, .int i14)]) [0, 1, 3] rfl ?_
          exact K_L_areAlike_b32 ih h
set_option maxRecDepth 100000 in
set_option maxHeartbeats 4000000 in
theorem K_L_areAlike_b108 {l : Launch} {G : smG} {P : Option Value → Hp → Prop} {k57 : Int32 → Int32 → Hp → Option (Int32 × Hp)} {a60 : Nat} {a61 : Nat} {i62 : Int32} {i63 : Int32} {i65 : Int32} {s64 : Hp} (hk57 : ∀ (i66 : Int32) (i67 : Int32) (s68 : Hp), OK jI (k57 i66 i67 s68) P → T l G RL cL_areAlike 5 (sm_rm 6 0 0) (sm_E (some .boolean) yL_areAlike.name) (sm_Qs G P 0 0) 0 0 57 [(0, .ref a60), (1, .ref a61), (2, .int i66), (3, .int i62), (4, .int i67)] [] s68) (h : OK jI (D_L_areAlike_b108 k57 a60 a61 i62 i63 i65 s64) P) : T l G RL cL_areAlike 5 (sm_rm 6 0 0) (sm_E (some .boolean) yL_areAlike.name) (sm_Qs G P 0 0) 0 0 108 [(0, .ref a60), (1, .ref a61), (3, .int i62), (4, .int i63)] [.int i65] s64 := by
  unfold D_L_areAlike_b108 at h
  refine T_istore_n (lv' := [(2, .int i65), (0, .ref a60), (1, .ref a61), (3, .int i62), (4, .int i63)]) dL_areAlike_108 rfl (by decide) rfl ?_
  refine T_iinc (i63 + 1) (lv' := [(4, .int (i63 + 1)), (2, .int i65), (0, .ref a60), (1, .ref a61), (3, .int i62)]) dL_areAlike_109 (j := 4) rfl rfl (by decide) rfl ?_
  refine T_goto 57 dL_areAlike_112 (by decide) ?_
  refine T_lv (lv' := [(0, .ref a60), (1, .ref a61), (2, .int i65), (3, .int i62), (4, .int (i63 + 1))]) [2, 3, 1, 4, 0] rfl ?_
  exact hk57 i65 (i63 + 1) s64 h
set_option maxRecDepth 100000 in
set_option maxHeartbeats 4000000 in
theorem K_L_areAlike_b107 {l : Launch} {G : smG} {P : Option Value → Hp → Prop} {k57 : Int32 → Int32 → Hp → Option (Int32 × Hp)} {a55 : Nat} {a56 : Nat} {i57 : Int32} {i58 : Int32} {s59 : Hp} (hk57 : ∀ (i69 : Int32) (i70 : Int32) (s71 : Hp), OK jI (k57 i69 i70 s71) P → T l G RL cL_areAlike 5 (sm_rm 6 0 0) (sm_E (some .boolean) yL_areAlike.name) (sm_Qs G P 0 0) 0 0 57 [(0, .ref a55), (1, .ref a56), (2, .int i69), (3, .int i57), (4, .int i70)] [] s71) (h : OK jI (D_L_areAlike_b107 k57 a55 a56 i57 i58 s59) P) : T l G RL cL_areAlike 5 (sm_rm 6 0 0) (sm_E (some .boolean) yL_areAlike.name) (sm_Qs G P 0 0) 0 0 107 [(0, .ref a55), (1, .ref a56), (3, .int i57), (4, .int i58)] [] s59 := by
  unfold D_L_areAlike_b107 at h
  refine T_iconst (0 : Int32) dL_areAlike_107 (by decide) ?_
  exact K_L_areAlike_b108 hk57 h
set_option maxRecDepth 100000 in
set_option maxHeartbeats 4000000 in
theorem K_L_areAlike_b100 {l : Launch} {G : smG} {P : Option Value → Hp → Prop} {k57 : Int32 → Int32 → Hp → Option (Int32 × Hp)} {a76 : Nat} {a77 : Nat} {i78 : Int32} {i79 : Int32} {i81 : Int32} {i82 : Int32} {s80 : Hp} (hk57 : ∀ (i83 : Int32) (i84 : Int32) (s85 : Hp), OK jI (k57 i83 i84 s85) P → T l G RL cL_areAlike 5 (sm_rm 6 0 0) (sm_E (some .boolean) yL_areAlike.name) (sm_Qs G P 0 0) 0 0 57 [(0, .ref a76), (1, .ref a77), (2, .int i83), (3, .int i78), (4, .int i84)] [] s85) (h : OK jI (D_L_areAlike_b100 k57 a76 a77 i78 i79 i81 i82 s80) P) : T l G RL cL_areAlike 5 (sm_rm 6 0 0) (sm_E (some .boolean) yL_areAlike.name) (sm_Qs G P 0 0) 0 0 100 [(0, .ref a76), (1, .ref a77), (3, .int i78), (4, .int i79)] [.int i81, .int i82] s80 := by
  unfold D_L_areAlike_b100 at h
  refine T_icmp_ne 107 dL_areAlike_100 (by decide) h (fun _ h => ?_) (fun _ h => ?_)
  · exact K_L_areAlike_b107 hk57 h
  · refine T_iconst (1 : Int32) dL_areAlike_103 (by decide) ?_
    refine T_goto 108 dL_areAlike_104 (by decide) ?_
    exact K_L_areAlike_b108 hk57 h
set_option maxRecDepth 100000 in
set_option maxHeartbeats 4000000 in
theorem K_L_areAlike_w57 {l : Launch} {G : smG} {P : Option Value → Hp → Prop} {a48 : Nat} {a49 : Nat} {i50 : Int32} {k115 : Int32 → Hp → Option (Int32 × Hp)} (hk115 : ∀ (i88 : Int32) (s89 : Hp), OK jI (k115 i88 s89) P → T l G RL cL_areAlike 5 (sm_rm 6 0 0) (sm_E (some .boolean) yL_areAlike.name) (sm_Qs G P 0 0) 0 0 115 [(0, .ref a48), (1, .ref a49), (2, .int i88), (3, .int i50)] [] s89) : ∀ (n : Nat) (i51 : Int32) (i52 : Int32) (s53 : Hp), OK jI (D_L_areAlike_w57 a48 a49 i50 k115 n i51 i52 s53) P → T l G RL cL_areAlike 5 (sm_rm 6 0 0) (sm_E (some .boolean) yL_areAlike.name) (sm_Qs G P 0 0) 0 0 57 [(0, .ref a48), (1, .ref a49), (2, .int i51), (3, .int i50), (4, .int i52)] [] s53 := by
  intro n
  induction n with
  | zero => intro i51 i52 s53 h; obtain ⟨_, h0, _⟩ := h; exact absurd h0 (by simp [D_L_areAlike_w57])
  | succ n54 ih =>
    intro i51 i52 s53 h
    unfold D_L_areAlike_w57 at h
    refine T_iload dL_areAlike_57 4 rfl ?_
    refine T_bipush (6 : Int32) dL_areAlike_59 (by decide) ?_
    refine T_icmp_ge 115 dL_areAlike_61 (by decide) h (fun _ h => ?_) (fun _ h => ?_)
    · refine T_lv (lv' := [(0, .ref a48), (1, .ref a49), (2, .int i51), (3, .int i50)]) [0, 1, 2, 3] rfl ?_
      exact hk115 i51 s53 h
    · refine T_iload_n dL_areAlike_64 rfl 2 rfl ?_
      refine T_if_eq 107 dL_areAlike_65 (by decide) h (fun _ h => ?_) (fun _ h => ?_)
      · refine T_lv (lv' := [(0, .ref a48), (1, .ref a49), (3, .int i50), (4, .int i52)]) [0, 1, 3, 4] rfl ?_
        exact K_L_areAlike_b107 ih h
      · refine T_aload_n dL_areAlike_68 rfl 1 rfl ?_
        refine T_iload_n dL_areAlike_69 rfl 3 rfl ?_
        refine T_iload dL_areAlike_70 4 rfl ?_
        refine T_callVI (As := [.int i50, .int i52]) (rest := []) (b := a49) (ci := 8) dL_areAlike_72 mc_X9_of mi_X9_of ml_RL_28 rfl (fun _ hr => chk_of hr) rfl rfl (Nat.le_of_ble_eq_true rfl) ⟨⟨Nat.le_of_ble_eq_true rfl, Nat.le_of_ble_eq_true rfl⟩, ⟨Nat.le_of_ble_eq_true rfl, Nat.le_of_ble_eq_true rfl⟩⟩ K_X9_of h (fun i72 s73 h => ?_)
        refine T_iload dL_areAlike_75 4 rfl ?_
        refine T_iconst (1 : Int32) dL_areAlike_77 (by decide) ?_
        refine T_icmp_ne 93 dL_areAlike_78 (by decide) h (fun _ h => ?_) (fun _ h => ?_)
        · refine T_aload_n dL_areAlike_93 rfl 0 rfl ?_
          refine T_iload_n dL_areAlike_94 rfl 3 rfl ?_
          refine T_iload dL_areAlike_95 4 rfl ?_
          refine T_callVI (As := [.int i50, .int i52]) (rest := [.int i72]) (b := a48) (ci := 8) dL_areAlike_97 mc_X9_of mi_X9_of ml_RL_28 rfl (fun _ hr => chk_of hr) rfl rfl (Nat.le_of_ble_eq_true rfl) ⟨⟨Nat.le_of_ble_eq_true rfl, Nat.le_of_ble_eq_true rfl⟩, ⟨Nat.le_of_ble_eq_true rfl, Nat.le_of_ble_eq_true rfl⟩⟩ K_X9_of h (fun i74 s75 h => ?_)
          refine T_lv (lv' := [(0, .ref a48), (1, .ref a49), (3, .int i50), (4, .int i52)]) [0, 1, 3, 4] rfl ?_
          exact K_L_areAlike_b100 ih h
        · refine T_bipush (20 : Int32) dL_areAlike_81 (by decide) ?_
          refine T_aload_n dL_areAlike_83 rfl 0 rfl ?_
          refine T_iload_n dL_areAlike_84 rfl 3 rfl ?_
          refine T_iconst (1 : Int32) dL_areAlike_85 (by decide) ?_
          refine T_callVI (As := [.int i50, .int (1 : Int32)]) (rest := [.int (20 : Int32), .int i72]) (b := a48) (ci := 8) dL_areAlike_86 mc_X9_of mi_X9_of ml_RL_28 rfl (fun _ hr => chk_of hr) rfl rfl (Nat.le_of_ble_eq_true rfl) ⟨⟨Nat.le_of_ble_eq_true rfl, Nat.le_of_ble_eq_true rfl⟩, ⟨Nat.le_of_ble_eq_true rfl, Nat.le_of_ble_eq_true rfl⟩⟩ K_X9_of h (fun i86 s87 h => ?_)
          refine T_isub dL_areAlike_89 ?_
          refine T_goto 100 dL_areAlike_90 (by decide) ?_
          refine T_lv (lv' := [(0, .ref a48), (1, .ref a49), (3, .int i50), (4, .int i52)]) [0, 1, 3, 4] rfl ?_
          exact K_L_areAlike_b100 ih h
set_option maxRecDepth 100000 in
set_option maxHeartbeats 4000000 in
theorem K_L_areAlike_b166 {l : Launch} {G : smG} {P : Option Value → Hp → Prop} {k118 : Int32 → Int32 → Hp → Option (Int32 × Hp)} {a104 : Nat} {a105 : Nat} {i106 : Int32} {i107 : Int32} {i109 : Int32} {s108 : Hp} (hk118 : ∀ (i110 : Int32) (i111 : Int32) (s112 : Hp), OK jI (k118 i110 i111 s112) P → T l G RL cL_areAlike 5 (sm_rm 6 0 0) (sm_E (some .boolean) yL_areAlike.name) (sm_Qs G P 0 0) 0 0 118 [(0, .ref a104), (1, .ref a105), (2, .int i110), (3, .int i106), (4, .int i111)] [] s112) (h : OK jI (D_L_areAlike_b166 k118 a104 a105 i106 i107 i109 s108) P) : T l G RL cL_areAlike 5 (sm_rm 6 0 0) (sm_E (some .boolean) yL_areAlike.name) (sm_Qs G P 0 0) 0 0 166 [(0, .ref a104), (1, .ref a105), (3, .int i106), (4, .int i107)] [.int i109] s108 := by
  unfold D_L_areAlike_b166 at h
  refine T_istore_n (lv' := [(2, .int i109), (0, .ref a104), (1, .ref a105), (3, .int i106), (4, .int i107)]) dL_areAlike_166 rfl (by decide) rfl ?_
  refine T_iinc (i107 + 1) (lv' := [(4, .int (i107 + 1)), (2, .int i109), (0, .ref a104), (1, .ref a105), (3, .int i106)]) dL_areAlike_167 (j := 4) rfl rfl (by decide) rfl ?_
  refine T_goto 118 dL_areAlike_170 (by decide) ?_
  refine T_lv (lv' := [(0, .ref a104), (1, .ref a105), (2, .int i109), (3, .int i106), (4, .int (i107 + 1))]) [2, 3, 1, 4, 0] rfl ?_
  exact hk118 i109 (i107 + 1) s108 h
set_option maxRecDepth 100000 in
set_option maxHeartbeats 4000000 in
theorem K_L_areAlike_b165 {l : Launch} {G : smG} {P : Option Value → Hp → Prop} {k118 : Int32 → Int32 → Hp → Option (Int32 × Hp)} {a99 : Nat} {a100 : Nat} {i101 : Int32} {i102 : Int32} {s103 : Hp} (hk118 : ∀ (i113 : Int32) (i114 : Int32) (s115 : Hp), OK jI (k118 i113 i114 s115) P → T l G RL cL_areAlike 5 (sm_rm 6 0 0) (sm_E (some .boolean) yL_areAlike.name) (sm_Qs G P 0 0) 0 0 118 [(0, .ref a99), (1, .ref a100), (2, .int i113), (3, .int i101), (4, .int i114)] [] s115) (h : OK jI (D_L_areAlike_b165 k118 a99 a100 i101 i102 s103) P) : T l G RL cL_areAlike 5 (sm_rm 6 0 0) (sm_E (some .boolean) yL_areAlike.name) (sm_Qs G P 0 0) 0 0 165 [(0, .ref a99), (1, .ref a100), (3, .int i101), (4, .int i102)] [] s103 := by
  unfold D_L_areAlike_b165 at h
  refine T_iconst (0 : Int32) dL_areAlike_165 (by decide) ?_
  exact K_L_areAlike_b166 hk118 h
set_option maxRecDepth 100000 in
set_option maxHeartbeats 4000000 in
theorem K_L_areAlike_w118 {l : Launch} {G : smG} {P : Option Value → Hp → Prop} {a92 : Nat} {a93 : Nat} {i94 : Int32} {k173 : Int32 → Hp → Option (Int32 × Hp)} (hk173 : ∀ (i124 : Int32) (s125 : Hp), OK jI (k173 i124 s125) P → T l G RL cL_areAlike 5 (sm_rm 6 0 0) (sm_E (some .boolean) yL_areAlike.name) (sm_Qs G P 0 0) 0 0 173 [(0, .ref a92), (1, .ref a93), (2, .int i124), (3, .int i94)] [] s125) : ∀ (n : Nat) (i95 : Int32) (i96 : Int32) (s97 : Hp), OK jI (D_L_areAlike_w118 a92 a93 i94 k173 n i95 i96 s97) P → T l G RL cL_areAlike 5 (sm_rm 6 0 0) (sm_E (some .boolean) yL_areAlike.name) (sm_Qs G P 0 0) 0 0 118 [(0, .ref a92), (1, .ref a93), (2, .int i95), (3, .int i94), (4, .int i96)] [] s97 := by
  intro n
  induction n with
  | zero => intro i95 i96 s97 h; obtain ⟨_, h0, _⟩ := h; exact absurd h0 (by simp [D_L_areAlike_w118])
  | succ n98 ih =>
    intro i95 i96 s97 h
    unfold D_L_areAlike_w118 at h
    refine T_iload dL_areAlike_118 4 rfl ?_
    refine T_bipush (44 : Int32) dL_areAlike_120 (by decide) ?_
    refine T_icmp_ge 173 dL_areAlike_122 (by decide) h (fun _ h => ?_) (fun _ h => ?_)
    · refine T_lv (lv' := [(0, .ref a92), (1, .ref a93), (2, .int i95), (3, .int i94)]) [0, 1, 2, 3] rfl ?_
      exact hk173 i95 s97 h
    · refine T_iload_n dL_areAlike_125 rfl 2 rfl ?_
      refine T_if_eq 165 dL_areAlike_126 (by decide) h (fun _ h => ?_) (fun _ h => ?_)
      · refine T_lv (lv' := [(0, .ref a92), (1, .ref a93), (3, .int i94), (4, .int i96)]) [0, 1, 3, 4] rfl ?_
        exact K_L_areAlike_b165 ih h
      · refine T_aload_n dL_areAlike_129 rfl 0 rfl ?_
        refine T_iload_n dL_areAlike_130 rfl 3 rfl ?_
        refine T_iload dL_areAlike_131 4 rfl ?_
        refine T_iconst (4 : Int32) dL_areAlike_133 (by decide) ?_
        refine T_idiv dL_areAlike_134 h (fun i116 h => ?_)
        refine T_iload dL_areAlike_135 4 rfl ?_
        refine T_iconst (4 : Int32) dL_areAlike_137 (by decide) ?_
        refine T_irem dL_areAlike_138 h (fun i117 h => ?_)
        refine T_callVI (As := [.int i94, .int i116, .int i117]) (rest := []) (b := a92) (ci := 8) dL_areAlike_139 mc_X9_at mi_X9_at ml_RL_69 rfl (fun _ hr => chk_of hr) rfl rfl (Nat.le_of_ble_eq_true rfl) ⟨⟨Nat.le_of_ble_eq_true rfl, Nat.le_of_ble_eq_true rfl⟩, ⟨Nat.le_of_ble_eq_true rfl, Nat.le_of_ble_eq_true rfl⟩⟩ K_X9_at h (fun i118 s119 h => ?_)
        refine T_aload_n dL_areAlike_142 rfl 1 rfl ?_
        refine T_iload_n dL_areAlike_143 rfl 3 rfl ?_
        refine T_bipush (10 : Int32) dL_areAlike_144 (by decide) ?_
        refine T_iload dL_areAlike_146 4 rfl ?_
        refine T_iconst (4 : Int32) dL_areAlike_148 (by decide) ?_
        refine T_idiv dL_areAlike_149 h (fun i120 h => ?_)
        refine T_isub dL_areAlike_150 ?_
        refine T_iload dL_areAlike_151 4 rfl ?_
        refine T_iconst (4 : Int32) dL_areAlike_153 (by decide) ?_
        refine T_irem dL_areAlike_154 h (fun i121 h => ?_)
        refine T_callVI (As := [.int i94, .int ((10 : Int32) - i120), .int i121]) (rest := [.int i118]) (b := a93) (ci := 8) dL_areAlike_155 mc_X9_at mi_X9_at ml_RL_69 rfl (fun _ hr => chk_of hr) rfl rfl (Nat.le_of_ble_eq_true rfl) ⟨⟨Nat.le_of_ble_eq_true rfl, Nat.le_of_ble_eq_true rfl⟩, ⟨Nat.le_of_ble_eq_true rfl, Nat.le_of_ble_eq_true rfl⟩⟩ K_X9_at h (fun i122 s123 h => ?_)
        refine T_icmp_ne 165 dL_areAlike_158 (by decide) h (fun _ h => ?_) (fun _ h => ?_)
        · refine T_lv (lv' := [(0, .ref a92), (1, .ref a93), (3, .int i94), (4, .int i96)]) [0, 1, 3, 4] rfl ?_
          exact K_L_areAlike_b165 ih h
        · refine T_iconst (1 : Int32) dL_areAlike_161 (by decide) ?_
          refine T_goto 166 dL_areAlike_162 (by decide) ?_
          refine T_lv (lv' := [(0, .ref a92), (1, .ref a93), (3, .int i94), (4, .int i96)]) [0, 1, 3, 4] rfl ?_
          exact K_L_areAlike_b166 ih h
set_option maxRecDepth 100000 in
set_option maxHeartbeats 4000000 in
theorem K_L_areAlike_w41 {l : Launch} {G : smG} {P : Option Value → Hp → Prop} {a40 : Nat} {a41 : Nat} {k179 : Int32 → Hp → Option (Int32 × Hp)} (hk179 : ∀ (i128 : Int32) (s129 : Hp), OK jI (k179 i128 s129) P → T l G RL cL_areAlike 5 (sm_rm 6 0 0) (sm_E (some .boolean) yL_areAlike.name) (sm_Qs G P 0 0) 0 0 179 [(0, .ref a40), (1, .ref a41), (2, .int i128)] [] s129) : ∀ (n : Nat) (i42 : Int32) (i43 : Int32) (s44 : Hp), OK jI (D_L_areAlike_w41 a40 a41 k179 n i42 i43 s44) P → T l G RL cL_areAlike 5 (sm_rm 6 0 0) (sm_E (some .boolean) yL_areAlike.name) (sm_Qs G P 0 0) 0 0 41 [(0, .ref a40), (1, .ref a41), (2, .int i42), (3, .int i43)] [] s44 := by
  intro n
  induction n with
  | zero => intro i42 i43 s44 h; obtain ⟨_, h0, _⟩ := h; exact absurd h0 (by simp [D_L_areAlike_w41])
  | succ n45 ih =>
    intro i42 i43 s44 h
    unfold D_L_areAlike_w41 at h
    refine T_iload_n dL_areAlike_41 rfl 3 rfl ?_
    refine T_aload_n dL_areAlike_42 rfl 0 rfl ?_
    refine T_iconst (1 : Int32) dL_areAlike_43 (by decide) ?_
    refine T_callVI (As := [.int (1 : Int32)]) (rest := [.int i43]) (b := a40) (ci := 8) dL_areAlike_44 mc_X9_count mi_X9_count ml_RL_9 rfl (fun _ hr => chk_of hr) rfl rfl (Nat.le_of_ble_eq_true rfl) ⟨⟨Nat.le_of_ble_eq_true rfl, Nat.le_of_ble_eq_true rfl⟩, ⟨Nat.le_of_ble_eq_true rfl, Nat.le_of_ble_eq_true rfl⟩⟩ K_X9_count h (fun i46 s47 h => ?_)
    refine T_icmp_ge 179 dL_areAlike_47 (by decide) h (fun _ h => ?_) (fun _ h => ?_)
    · refine T_lv (lv' := [(0, .ref a40), (1, .ref a41), (2, .int i42)]) [0, 1, 2] rfl ?_
      exact hk179 i42 s47 h
    · refine T_iload_n dL_areAlike_50 rfl 2 rfl ?_
      refine T_if_eq 179 dL_areAlike_51 (by decide) h (fun _ h => ?_) (fun _ h => ?_)
      · refine T_lv (lv' := [(0, .ref a40), (1, .ref a41), (2, .int i42)]) [0, 1, 2] rfl ?_
        exact hk179 i42 s47 h
      · refine T_iconst (0 : Int32) dL_areAlike_54 (by decide) ?_
        refine T_istore (lv' := [(4, .int (0 : Int32)), (0, .ref a40), (1, .ref a41), (2, .int i42), (3, .int i43)]) dL_areAlike_55 (by decide) rfl ?_
        refine T_lv (lv' := [(0, .ref a40), (1, .ref a41), (2, .int i42), (3, .int i43), (4, .int (0 : Int32))]) [1, 2, 3, 4, 0] rfl ?_
        refine K_L_areAlike_w57 ?_ FU i42 (0 : Int32) s47 h
        intro i91 s90 h
        refine T_iconst (0 : Int32) dL_areAlike_115 (by decide) ?_
        refine T_istore (lv' := [(4, .int (0 : Int32)), (0, .ref a40), (1, .ref a41), (2, .int i91), (3, .int i43)]) dL_areAlike_116 (by decide) rfl ?_
        refine T_lv (lv' := [(0, .ref a40), (1, .ref a41), (2, .int i91), (3, .int i43), (4, .int (0 : Int32))]) [1, 2, 3, 4, 0] rfl ?_
        refine K_L_areAlike_w118 ?_ FU i91 (0 : Int32) s90 h
        intro i127 s126 h
        refine T_iinc (i43 + 1) (lv' := [(3, .int (i43 + 1)), (0, .ref a40), (1, .ref a41), (2, .int i127)]) dL_areAlike_173 (j := 3) rfl rfl (by decide) rfl ?_
        refine T_goto 41 dL_areAlike_176 (by decide) ?_
        refine T_lv (lv' := [(0, .ref a40), (1, .ref a41), (2, .int i127), (3, .int (i43 + 1))]) [1, 2, 3, 0] rfl ?_
        exact ih i127 (i43 + 1) s126 h
set_option maxRecDepth 100000 in
set_option maxHeartbeats 4000000 in
theorem K_L_areAlike_b239 {l : Launch} {G : smG} {P : Option Value → Hp → Prop} {k194 : Int32 → Int32 → Hp → Option (Int32 × Hp)} {a154 : Nat} {a155 : Nat} {i156 : Int32} {i157 : Int32} {i159 : Int32} {s158 : Hp} (hk194 : ∀ (i160 : Int32) (i161 : Int32) (s162 : Hp), OK jI (k194 i160 i161 s162) P → T l G RL cL_areAlike 5 (sm_rm 6 0 0) (sm_E (some .boolean) yL_areAlike.name) (sm_Qs G P 0 0) 0 0 194 [(0, .ref a154), (1, .ref a155), (2, .int i160), (3, .int i156), (4, .int i161)] [] s162) (h : OK jI (D_L_areAlike_b239 k194 a154 a155 i156 i157 i159 s158) P) : T l G RL cL_areAlike 5 (sm_rm 6 0 0) (sm_E (some .boolean) yL_areAlike.name) (sm_Qs G P 0 0) 0 0 239 [(0, .ref a154), (1, .ref a155), (3, .int i156), (4, .int i157)] [.int i159] s158 := by
  unfold D_L_areAlike_b239 at h
  refine T_istore_n (lv' := [(2, .int i159), (0, .ref a154), (1, .ref a155), (3, .int i156), (4, .int i157)]) dL_areAlike_239 rfl (by decide) rfl ?_
  refine T_iinc (i157 + 1) (lv' := [(4, .int (i157 + 1)), (2, .int i159), (0, .ref a154), (1, .ref a155), (3, .int i156)]) dL_areAlike_240 (j := 4) rfl rfl (by decide) rfl ?_
  refine T_goto 194 dL_areAlike_243 (by decide) ?_
  refine T_lv (lv' := [(0, .ref a154), (1, .ref a155), (2, .int i159), (3, .int i156), (4, .int (i157 + 1))]) [2, 3, 1, 4, 0] rfl ?_
  exact hk194 i159 (i157 + 1) s158 h
set_option maxRecDepth 100000 in
set_option maxHeartbeats 4000000 in
theorem K_L_areAlike_b238 {l : Launch} {G : smG} {P : Option Value → Hp → Prop} {k194 : Int32 → Int32 → Hp → Option (Int32 × Hp)} {a149 : Nat} {a150 : Nat} {i151 : Int32} {i152 : Int32} {s153 : Hp} (hk194 : ∀ (i163 : Int32) (i164 : Int32) (s165 : Hp), OK jI (k194 i163 i164 s165) P → T l G RL cL_areAlike 5 (sm_rm 6 0 0) (sm_E (some .boolean) yL_areAlike.name) (sm_Qs G P 0 0) 0 0 194 [(0, .ref a149), (1, .ref a150), (2, .int i163), (3, .int i151), (4, .int i164)] [] s165) (h : OK jI (D_L_areAlike_b238 k194 a149 a150 i151 i152 s153) P) : T l G RL cL_areAlike 5 (sm_rm 6 0 0) (sm_E (some .boolean) yL_areAlike.name) (sm_Qs G P 0 0) 0 0 238 [(0, .ref a149), (1, .ref a150), (3, .int i151), (4, .int i152)] [] s153 := by
  unfold D_L_areAlike_b238 at h
  refine T_iconst (0 : Int32) dL_areAlike_238 (by decide) ?_
  exact K_L_areAlike_b239 hk194 h
set_option maxRecDepth 100000 in
set_option maxHeartbeats 4000000 in
theorem K_L_areAlike_w194 {l : Launch} {G : smG} {P : Option Value → Hp → Prop} {a142 : Nat} {a143 : Nat} {i144 : Int32} {k246 : Int32 → Hp → Option (Int32 × Hp)} (hk246 : ∀ (i174 : Int32) (s175 : Hp), OK jI (k246 i174 s175) P → T l G RL cL_areAlike 5 (sm_rm 6 0 0) (sm_E (some .boolean) yL_areAlike.name) (sm_Qs G P 0 0) 0 0 246 [(0, .ref a142), (1, .ref a143), (2, .int i174), (3, .int i144)] [] s175) : ∀ (n : Nat) (i145 : Int32) (i146 : Int32) (s147 : Hp), OK jI (D_L_areAlike_w194 a142 a143 i144 k246 n i145 i146 s147) P → T l G RL cL_areAlike 5 (sm_rm 6 0 0) (sm_E (some .boolean) yL_areAlike.name) (sm_Qs G P 0 0) 0 0 194 [(0, .ref a142), (1, .ref a143), (2, .int i145), (3, .int i144), (4, .int i146)] [] s147 := by
  intro n
  induction n with
  | zero => intro i145 i146 s147 h; obtain ⟨_, h0, _⟩ := h; exact absurd h0 (by simp [D_L_areAlike_w194])
  | succ n148 ih =>
    intro i145 i146 s147 h
    unfold D_L_areAlike_w194 at h
    refine T_iload dL_areAlike_194 4 rfl ?_
    refine T_iconst (3 : Int32) dL_areAlike_196 (by decide) ?_
    refine T_icmp_ge 246 dL_areAlike_197 (by decide) h (fun _ h => ?_) (fun _ h => ?_)
    · refine T_lv (lv' := [(0, .ref a142), (1, .ref a143), (2, .int i145), (3, .int i144)]) [0, 1, 2, 3] rfl ?_
      exact hk246 i145 s147 h
    · refine T_iload_n dL_areAlike_200 rfl 2 rfl ?_
      refine T_if_eq 238 dL_areAlike_201 (by decide) h (fun _ h => ?_) (fun _ h => ?_)
      · refine T_lv (lv' := [(0, .ref a142), (1, .ref a143), (3, .int i144), (4, .int i146)]) [0, 1, 3, 4] rfl ?_
        exact K_L_areAlike_b238 ih h
      · refine T_aload_n dL_areAlike_204 rfl 0 rfl ?_
        refine T_iload_n dL_areAlike_205 rfl 3 rfl ?_
        refine T_iconst (4 : Int32) dL_areAlike_206 (by decide) ?_
        refine T_irem dL_areAlike_207 h (fun i166 h => ?_)
        refine T_iload_n dL_areAlike_208 rfl 3 rfl ?_
        refine T_iconst (4 : Int32) dL_areAlike_209 (by decide) ?_
        refine T_idiv dL_areAlike_210 h (fun i167 h => ?_)
        refine T_iload dL_areAlike_211 4 rfl ?_
        refine T_callVI (As := [.int i166, .int i167, .int i146]) (rest := []) (b := a142) (ci := 8) dL_areAlike_213 mc_X9_point mi_X9_point ml_RL_72 rfl (fun _ hr => chk_of hr) rfl rfl (Nat.le_of_ble_eq_true rfl) ⟨⟨Nat.le_of_ble_eq_true rfl, Nat.le_of_ble_eq_true rfl⟩, ⟨Nat.le_of_ble_eq_true rfl, Nat.le_of_ble_eq_true rfl⟩⟩ K_X9_point h (fun i168 s169 h => ?_)
        refine T_aload_n dL_areAlike_216 rfl 1 rfl ?_
        refine T_iload_n dL_areAlike_217 rfl 3 rfl ?_
        refine T_iconst (4 : Int32) dL_areAlike_218 (by decide) ?_
        refine T_irem dL_areAlike_219 h (fun i170 h => ?_)
        refine T_bipush (10 : Int32) dL_areAlike_220 (by decide) ?_
        refine T_iload_n dL_areAlike_222 rfl 3 rfl ?_
        refine T_iconst (4 : Int32) dL_areAlike_223 (by decide) ?_
        refine T_idiv dL_areAlike_224 h (fun i171 h => ?_)
        refine T_isub dL_areAlike_225 ?_
        refine T_iload dL_areAlike_226 4 rfl ?_
        refine T_callVI (As := [.int i170, .int ((10 : Int32) - i171), .int i146]) (rest := [.int i168]) (b := a143) (ci := 8) dL_areAlike_228 mc_X9_point mi_X9_point ml_RL_72 rfl (fun _ hr => chk_of hr) rfl rfl (Nat.le_of_ble_eq_true rfl) ⟨⟨Nat.le_of_ble_eq_true rfl, Nat.le_of_ble_eq_true rfl⟩, ⟨Nat.le_of_ble_eq_true rfl, Nat.le_of_ble_eq_true rfl⟩⟩ K_X9_point h (fun i172 s173 h => ?_)
        refine T_icmp_ne 238 dL_areAlike_231 (by decide) h (fun _ h => ?_) (fun _ h => ?_)
        · refine T_lv (lv' := [(0, .ref a142), (1, .ref a143), (3, .int i144), (4, .int i146)]) [0, 1, 3, 4] rfl ?_
          exact K_L_areAlike_b238 ih h
        · refine T_iconst (1 : Int32) dL_areAlike_234 (by decide) ?_
          refine T_goto 239 dL_areAlike_235 (by decide) ?_
          refine T_lv (lv' := [(0, .ref a142), (1, .ref a143), (3, .int i144), (4, .int i146)]) [0, 1, 3, 4] rfl ?_
          exact K_L_areAlike_b239 ih h
set_option maxRecDepth 100000 in
set_option maxHeartbeats 4000000 in
theorem K_L_areAlike_w181 {l : Launch} {G : smG} {P : Option Value → Hp → Prop} {a136 : Nat} {a137 : Nat} {k252 : Int32 → Hp → Option (Int32 × Hp)} (hk252 : ∀ (i178 : Int32) (s179 : Hp), OK jI (k252 i178 s179) P → T l G RL cL_areAlike 5 (sm_rm 6 0 0) (sm_E (some .boolean) yL_areAlike.name) (sm_Qs G P 0 0) 0 0 252 [(2, .int i178)] [] s179) : ∀ (n : Nat) (i138 : Int32) (i139 : Int32) (s140 : Hp), OK jI (D_L_areAlike_w181 a136 a137 k252 n i138 i139 s140) P → T l G RL cL_areAlike 5 (sm_rm 6 0 0) (sm_E (some .boolean) yL_areAlike.name) (sm_Qs G P 0 0) 0 0 181 [(0, .ref a136), (1, .ref a137), (2, .int i138), (3, .int i139)] [] s140 := by
  intro n
  induction n with
  | zero => intro i138 i139 s140 h; obtain ⟨_, h0, _⟩ := h; exact absurd h0 (by simp [D_L_areAlike_w181])
  | succ n141 ih =>
    intro i138 i139 s140 h
    unfold D_L_areAlike_w181 at h
    refine T_iload_n dL_areAlike_181 rfl 3 rfl ?_
    refine T_bipush (44 : Int32) dL_areAlike_182 (by decide) ?_
    refine T_icmp_ge 252 dL_areAlike_184 (by decide) h (fun _ h => ?_) (fun _ h => ?_)
    · refine T_lv (lv' := [(2, .int i138)]) [2] rfl ?_
      exact hk252 i138 s140 h
    · refine T_iload_n dL_areAlike_187 rfl 2 rfl ?_
      refine T_if_eq 252 dL_areAlike_188 (by decide) h (fun _ h => ?_) (fun _ h => ?_)
      · refine T_lv (lv' := [(2, .int i138)]) [2] rfl ?_
        exact hk252 i138 s140 h
      · refine T_iconst (0 : Int32) dL_areAlike_191 (by decide) ?_
        refine T_istore (lv' := [(4, .int (0 : Int32)), (0, .ref a136), (1, .ref a137), (2, .int i138), (3, .int i139)]) dL_areAlike_192 (by decide) rfl ?_
        refine T_lv (lv' := [(0, .ref a136), (1, .ref a137), (2, .int i138), (3, .int i139), (4, .int (0 : Int32))]) [1, 2, 3, 4, 0] rfl ?_
        refine K_L_areAlike_w194 ?_ FU i138 (0 : Int32) s140 h
        intro i177 s176 h
        refine T_iinc (i139 + 1) (lv' := [(3, .int (i139 + 1)), (0, .ref a136), (1, .ref a137), (2, .int i177)]) dL_areAlike_246 (j := 3) rfl rfl (by decide) rfl ?_
        refine T_goto 181 dL_areAlike_249 (by decide) ?_
        refine T_lv (lv' := [(0, .ref a136), (1, .ref a137), (2, .int i177), (3, .int (i139 + 1))]) [1, 2, 3, 0] rfl ?_
        exact ih i177 (i139 + 1) s176 h
set_option maxRecDepth 100000 in
set_option maxHeartbeats 4000000 in
theorem K_L_areAlike_b179 {l : Launch} {G : smG} {P : Option Value → Hp → Prop}  {a132 : Nat} {a133 : Nat} {i134 : Int32} {s135 : Hp}  (h : OK jI (D_L_areAlike_b179 a132 a133 i134 s135) P) : T l G RL cL_areAlike 5 (sm_rm 6 0 0) (sm_E (some .boolean) yL_areAlike.name) (sm_Qs G P 0 0) 0 0 179 [(0, .ref a132), (1, .ref a133), (2, .int i134)] [] s135 := by
  unfold D_L_areAlike_b179 at h
  refine T_iconst (0 : Int32) dL_areAlike_179 (by decide) ?_
  refine T_istore_n (lv' := [(3, .int (0 : Int32)), (0, .ref a132), (1, .ref a133), (2, .int i134)]) dL_areAlike_180 rfl (by decide) rfl ?_
  refine T_lv (lv' := [(0, .ref a132), (1, .ref a133), (2, .int i134), (3, .int (0 : Int32))]) [1, 2, 3, 0] rfl ?_
  refine K_L_areAlike_w181 ?_ FU i134 (0 : Int32) s135 h
  intro i181 s180 h
  refine T_iload_n dL_areAlike_252 rfl 0 rfl ?_
  exact T_zreturn dL_areAlike_253 (Nat.le_of_ble_eq_true rfl) (Nat.le_of_ble_eq_true rfl) h
set_option maxRecDepth 100000 in
set_option maxHeartbeats 4000000 in
theorem K_L_areAlike {l : Launch} {a0 : Nat} {a1 : Nat} {s0 : Hp} : ∀ P, OK jI (D_L_areAlike a0 a1 s0) P → sm_Ct l yL_areAlike cL_areAlike 5 (some .boolean) 6 0 0 [.ref a0, .ref a1] s0 P := by
  intro P h
  unfold D_L_areAlike at h
  refine sm_enter (own := RL) (lv := [(0, .ref a0), (1, .ref a1)]) (by decide) rfl (Nat.le_of_ble_eq_true rfl) rfl (fun G => ?_)
  refine T_iconst (1 : Int32) dL_areAlike_0 (by decide) ?_
  refine T_istore_n (lv' := [(2, .int (1 : Int32)), (0, .ref a0), (1, .ref a1)]) dL_areAlike_1 rfl (by decide) rfl ?_
  refine T_iconst (0 : Int32) dL_areAlike_2 (by decide) ?_
  refine T_istore_n (lv' := [(3, .int (0 : Int32)), (2, .int (1 : Int32)), (0, .ref a0), (1, .ref a1)]) dL_areAlike_3 rfl (by decide) rfl ?_
  refine T_lv (lv' := [(0, .ref a0), (1, .ref a1), (2, .int (1 : Int32)), (3, .int (0 : Int32))]) [2, 3, 1, 0] rfl ?_
  refine K_L_areAlike_w4 ?_ FU (1 : Int32) (0 : Int32) s0 h
  intro i39 s38 h
  refine T_iconst (0 : Int32) dL_areAlike_39 (by decide) ?_
  refine T_istore_n (lv' := [(3, .int (0 : Int32)), (0, .ref a0), (1, .ref a1), (2, .int i39)]) dL_areAlike_40 rfl (by decide) rfl ?_
  refine T_lv (lv' := [(0, .ref a0), (1, .ref a1), (2, .int i39), (3, .int (0 : Int32))]) [1, 2, 3, 0] rfl ?_
  refine K_L_areAlike_w41 ?_ FU i39 (0 : Int32) s38 h
  intro i131 s130 h
  exact K_L_areAlike_b179 h
