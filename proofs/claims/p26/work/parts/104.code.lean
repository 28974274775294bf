def D_X9_in (a0 : Nat) (i1 : Int32) (i2 : Int32) (s0 : Hp) : Option (Int32 × Hp) :=
  (isO s0 a0 8).bind fun _ =>
  bd (D_X9_isPlace i1 i2 s0) fun i11 s12 =>
  if i11 = 0 then
  some ((-1 : Int32), s12)
  else
  (getR s12 a0 8 0).bind fun a13 =>
  bd (D_X2_mirrorIn a13 i1 i2 s12) fun i14 s15 =>
  some (i14, s15)
set_option maxRecDepth 100000 in
set_option maxHeartbeats 4000000 in
theorem K_X9_in {l : Launch} {a0 : Nat} {i1 : Int32} {i2 : Int32} {s0 : Hp} : ∀ P, OK jI (D_X9_in a0 i1 i2 s0) P → sm_Ct l yX9_in cX9_in 3 (some .int) 2 0 0 [.ref a0, .int i1, .int i2] s0 P := by
  intro P h
  unfold D_X9_in at h
  obtain ⟨_, hb0, h⟩ := h.bind
  refine sm_enter (own := RX9) (lv := [(0, .ref a0), (1, .int i1), (2, .int i2)]) (by decide) rfl (Nat.le_of_ble_eq_true rfl) rfl (fun G => ?_)
  refine T_iload_n dX9_in_0 rfl 1 rfl ?_
  refine T_iload_n dX9_in_1 rfl 2 rfl ?_
  refine T_callSI (As := [.int i1, .int i2]) (rest := []) dX9_in_2 mc_X9_isPlace mi_X9_isPlace ml_RX9_193 rfl rfl (Nat.le_of_ble_eq_true rfl) ⟨⟨Nat.le_of_ble_eq_true rfl, Nat.le_of_ble_eq_true rfl⟩, ⟨Nat.le_of_ble_eq_true rfl, Nat.le_of_ble_eq_true rfl⟩⟩ K_X9_isPlace h (fun i11 s12 h => ?_)
  refine T_if_eq 20 dX9_in_5 (by decide) h (fun _ h => ?_) (fun _ h => ?_)
  · refine T_iconst (-1 : Int32) dX9_in_20 (by decide) ?_
    exact T_ireturn dX9_in_21 (Nat.le_of_ble_eq_true rfl) (Nat.le_of_ble_eq_true rfl) h
  · refine T_aload_n dX9_in_8 rfl 0 rfl ?_
    refine T_getR dX9_in_9 fl_RX9_12 h (fun a13 h => ?_)
    refine T_iload_n dX9_in_12 rfl 1 rfl ?_
    refine T_iload_n dX9_in_13 rfl 2 rfl ?_
    refine T_callVI (As := [.int i1, .int i2]) (rest := []) (b := a13) (ci := 2) dX9_in_14 mc_X2_mirrorIn mi_X2_mirrorIn ml_RX9_197 rfl (fun _ hr => chk_of hr) rfl rfl (Nat.le_of_ble_eq_true rfl) ⟨⟨Nat.le_of_ble_eq_true rfl, Nat.le_of_ble_eq_true rfl⟩, ⟨Nat.le_of_ble_eq_true rfl, Nat.le_of_ble_eq_true rfl⟩⟩ K_X2_mirrorIn h (fun i14 s15 h => ?_)
    refine T_goto 21 dX9_in_17 (by decide) ?_
    exact T_ireturn dX9_in_21 (Nat.le_of_ble_eq_true rfl) (Nat.le_of_ble_eq_true rfl) h

def D_X9_recorded (a0 : Nat) (i1 : Int32) (s0 : Hp) : Option (Int32 × Hp) :=
  (isO s0 a0 8).bind fun _ =>
  if i1 < 0 then
  some (i1, s0)
  else
  (getR s0 a0 8 5).bind fun a11 =>
  (D_X3_keepNote a11 s0).bind fun s12 =>
  some (i1, s12)
set_option maxRecDepth 100000 in
set_option maxHeartbeats 4000000 in
theorem K_X9_recorded {l : Launch} {a0 : Nat} {i1 : Int32} {s0 : Hp} : ∀ P, OK jI (D_X9_recorded a0 i1 s0) P → sm_Ct l yX9_recorded cX9_recorded 2 (some .int) 2 0 0 [.ref a0, .int i1] s0 P := by
  intro P h
  unfold D_X9_recorded at h
  obtain ⟨_, hb0, h⟩ := h.bind
  refine sm_enter (own := RX9) (lv := [(0, .ref a0), (1, .int i1)]) (by decide) rfl (Nat.le_of_ble_eq_true rfl) rfl (fun G => ?_)
  refine T_iload_n dX9_recorded_0 rfl 1 rfl ?_
  refine T_if_lt 11 dX9_recorded_1 (by decide) h (fun _ h => ?_) (fun _ h => ?_)
  · refine T_iload_n dX9_recorded_11 rfl 1 rfl ?_
    exact T_ireturn dX9_recorded_12 (Nat.le_of_ble_eq_true rfl) (Nat.le_of_ble_eq_true rfl) h
  · refine T_aload_n dX9_recorded_4 rfl 0 rfl ?_
    refine T_getR dX9_recorded_5 fl_RX9_51 h (fun a11 h => ?_)
    refine T_callVV (As := []) (rest := []) (b := a11) (ci := 3) dX9_recorded_8 mc_X3_keepNote mi_X3_keepNote ml_RX9_244 rfl (fun _ hr => chk_of hr) rfl rfl (Nat.le_of_ble_eq_true rfl) ⟨⟨Nat.le_of_ble_eq_true rfl, Nat.le_of_ble_eq_true rfl⟩, ⟨Nat.le_of_ble_eq_true rfl, Nat.le_of_ble_eq_true rfl⟩⟩ K_X3_keepNote h (fun s12 h => ?_)
    refine T_iload_n dX9_recorded_11 rfl 1 rfl ?_
    exact T_ireturn dX9_recorded_12 (Nat.le_of_ble_eq_true rfl) (Nat.le_of_ble_eq_true rfl) h

def D_X0_init (a0 : Nat) (a1 : Nat) (s0 : Hp) : Option Hp :=
  (isO s0 a0 0).bind fun _ =>
  nm (newO s0 2 [.null, .null, .null, .null, .null, .null, .int 0, .int 0, .int 0, .int 0]) fun s11 =>
  (D_X2_init s0.1 s11).bind fun s12 =>
  (putV s12 a0 0 1 (.ref s0.1)).bind fun s13 =>
  nm (newO s13 4 [.null, .null, .null, .null, .null, .null, .int 0, .int 0]) fun s14 =>
  (getR s14 a0 0 1).bind fun a15 =>
  (D_X4_init s13.1 a15 s14).bind fun s16 =>
  (putV s16 a0 0 2 (.ref s13.1)).bind fun s17 =>
  (putI s17 a0 0 3 (-6 : Int32)).bind fun s18 =>
  (putI s18 a0 0 4 (-6 : Int32)).bind fun s19 =>
  (putV s19 a0 0 0 (.ref a1)).bind fun s20 =>
  some s20
set_option maxRecDepth 100000 in
set_option maxHeartbeats 4000000 in
theorem K_X0_init {l : Launch} {a0 : Nat} {a1 : Nat} {s0 : Hp} : ∀ P, OK jV (D_X0_init a0 a1 s0) P → sm_Ct l yX0_init cX0_init 2 none 3 24 8829 [.ref a0, .ref a1] s0 P := by
  intro P h
  unfold D_X0_init at h
  obtain ⟨_, hb0, h⟩ := h.bind
  refine sm_enter (own := RX0) (lv := [(0, .ref a0), (1, .ref a1)]) (by decide) rfl (Nat.le_of_ble_eq_true rfl) rfl (fun G => ?_)
  refine T_aload_n dX0_init_0 rfl 0 rfl ?_
  refine T_objInit dX0_init_1 ml_RX0_3 wd_1_7 wd_1_8 ⟨Nat.le_of_ble_eq_true rfl, Nat.le_of_ble_eq_true rfl⟩ ?_
  refine T_aload_n dX0_init_4 rfl 0 rfl ?_
  refine T_newO (C := RX2) (ci := 2) (fs := [.null, .null, .null, .null, .null, .null, .int 0, .int 0, .int 0, .int 0]) dX0_init_5 wd_4_15 wd_1_10 wd_1_11 ⟨TX2, tyX2, rfl, inlX2, tyX2_ok, by decide +kernel⟩ (Nat.le_of_ble_eq_true rfl) (Nat.le_of_ble_eq_true rfl) ?_
  refine T_nh h (fun s11 h => ?_)
  refine T_dup dX0_init_8 rfl ?_
  refine T_callIV (As := []) (rest := [.ref s0.1, .ref a0]) (b := s0.1) dX0_init_9 mc_X2_init mi_X2_init ml_RX0_11 rfl rfl (Nat.le_of_ble_eq_true rfl) ⟨⟨Nat.le_of_ble_eq_true rfl, Nat.le_of_ble_eq_true rfl⟩, ⟨Nat.le_of_ble_eq_true rfl, Nat.le_of_ble_eq_true rfl⟩⟩ K_X2_init h (fun s12 h => ?_)
  refine T_putF (rt := none) rfl dX0_init_12 fl_RX0_12 ft_0_1 rfl rfl rfl h (fun s13 h => ?_)
  refine T_aload_n dX0_init_15 rfl 0 rfl ?_
  refine T_newO (C := RX4) (ci := 4) (fs := [.null, .null, .null, .null, .null, .null, .int 0, .int 0]) dX0_init_16 wd_4_17 wd_1_14 wd_1_15 ⟨TX4, tyX4, rfl, inlX4, tyX4_ok, by decide +kernel⟩ (Nat.le_of_ble_eq_true rfl) (Nat.le_of_ble_eq_true rfl) ?_
  refine T_nh h (fun s14 h => ?_)
  refine T_dup dX0_init_19 rfl ?_
  refine T_aload_n dX0_init_20 rfl 0 rfl ?_
  refine T_getR dX0_init_21 fl_RX0_12 h (fun a15 h => ?_)
  refine T_callIV (As := [.ref a15]) (rest := [.ref s13.1, .ref a0]) (b := s13.1) dX0_init_24 mc_X4_init mi_X4_init ml_RX0_20 rfl rfl (Nat.le_of_ble_eq_true rfl) ⟨⟨Nat.le_of_ble_eq_true rfl, Nat.le_of_ble_eq_true rfl⟩, ⟨Nat.le_of_ble_eq_true rfl, Nat.le_of_ble_eq_true rfl⟩⟩ K_X4_init h (fun s16 h => ?_)
  refine T_putF (rt := none) rfl dX0_init_27 fl_RX0_23 ft_0_2 rfl rfl rfl h (fun s17 h => ?_)
  refine T_aload_n dX0_init_30 rfl 0 rfl ?_
  refine T_bipush (-6 : Int32) dX0_init_31 (by decide) ?_
  refine T_putI dX0_init_33 fl_RX0_27 ft_0_3 h (fun s18 h => ?_)
  refine T_aload_n dX0_init_36 rfl 0 rfl ?_
  refine T_bipush (-6 : Int32) dX0_init_37 (by decide) ?_
  refine T_putI dX0_init_39 fl_RX0_31 ft_0_4 h (fun s19 h => ?_)
  refine T_aload_n dX0_init_42 rfl 0 rfl ?_
  refine T_aload_n dX0_init_43 rfl 1 rfl ?_
  refine T_putF (rt := none) rfl dX0_init_44 fl_RX0_34 ft_0_0 rfl rfl rfl h (fun s20 h => ?_)
  exact T_vreturn dX0_init_47 (Nat.le_of_ble_eq_true rfl) (Nat.le_of_ble_eq_true rfl) h

def D_X4_look_w11 (a13 : Nat) (k62 : Hp → Option Hp) : Nat → Int32 → Hp → Option Hp
  | 0, _, _ => none
  | n16 + 1, i14, s15 =>
  (getR s15 a13 4 0).bind fun a17 =>
  (getI s15 a17 2 6).bind fun i18 =>
  if i18 ≤ i14 then
  k62 s15
  else
  (getR s15 a13 4 1).bind fun a19 =>
  (getR s15 a13 4 0).bind fun a20 =>
  (getR s15 a20 2 1).bind fun a21 =>
  bd (D_X1_read a21 i14 s15) fun i22 s23 =>
  (getR s23 a13 4 0).bind fun a24 =>
  (getR s23 a24 2 2).bind fun a25 =>
  bd (D_X1_read a25 i14 s23) fun i26 s27 =>
  (D_X1_write a19 ((i22 * (20 : Int32)) + i26) i14 s27).bind fun s28 =>
  D_X4_look_w11 a13 k62 n16 (i14 + 1) s28
def D_X4_look_w102 (a43 : Nat) (i44 : Int32) (k133 : Hp → Option Hp) : Nat → Int32 → Hp → Option Hp
  | 0, _, _ => none
  | n47 + 1, i45, s46 =>
  if (11 : Int32) ≤ i45 then
  k133 s46
  else
  (getR s46 a43 4 2).bind fun a48 =>
  bd (D_X4_nearestShader a43 i44 i45 s46) fun i49 s50 =>
  (D_X1_write a48 ((i44 * (11 : Int32)) + i45) i49 s50).bind fun s51 =>
  D_X4_look_w102 a43 i44 k133 n47 (i45 + 1) s51
def D_X4_look_b100 (k69 : Int32 → Hp → Option Hp) (a40 : Nat) (i41 : Int32) (s42 : Hp) : Option Hp :=
  D_X4_look_w102 a40 i41 (fun s53 =>
  k69 (i41 + 1) s53
  ) FU (0 : Int32) s42
def D_X4_look_w69 (a32 : Nat) (k139 : Hp → Option Hp) : Nat → Int32 → Hp → Option Hp
  | 0, _, _ => none
  | n35 + 1, i33, s34 =>
  (getR s34 a32 4 0).bind fun a36 =>
  (getI s34 a36 2 6).bind fun i37 =>
  if i37 ≤ i33 then
  k139 s34
  else
  bd (D_X4_hasBlocker a32 i33 s34) fun i38 s39 =>
  if i38 = 0 then
  D_X4_look_b100 (D_X4_look_w69 a32 k139 n35) a32 i33 s39
  else
  (getI s39 a32 4 6).bind fun i56 =>
  (putI s39 a32 4 6 (i56 ||| ((1 : Int32) <<< (i33 &&& 31)))).bind fun s57 =>
  D_X4_look_b100 (D_X4_look_w69 a32 k139 n35) a32 i33 s57
def D_X4_look (a0 : Nat) (s0 : Hp) : Option Hp :=
  (isO s0 a0 4).bind fun _ =>
  (getR s0 a0 4 1).bind fun a11 =>
  (D_X1_fill a11 (-6 : Int32) s0).bind fun s12 =>
  D_X4_look_w11 a0 (fun s30 =>
  (putI s30 a0 4 6 (0 : Int32)).bind fun s31 =>
  D_X4_look_w69 a0 (fun s59 =>
  some s59
  ) FU (0 : Int32) s31
  ) FU (0 : Int32) s12
set_option maxRecDepth 100000 in
set_option maxHeartbeats 4000000 in
theorem K_X4_look_w11 {l : Launch} {G : smG} {P : Option Value → Hp → Prop} {a13 : Nat} {k62 : Hp → Option Hp} (hk62 : ∀  (s29 : Hp), OK jV (k62 s29) P → T l G RX4 cX4_look 3 (sm_rm 3 0 0) (sm_E none yX4_look.name) (sm_Qs G P 0 0) 0 0 62 [(0, .ref a13)] [] s29) : ∀ (n : Nat) (i14 : Int32) (s15 : Hp), OK jV (D_X4_look_w11 a13 k62 n i14 s15) P → T l G RX4 cX4_look 3 (sm_rm 3 0 0) (sm_E none yX4_look.name) (sm_Qs G P 0 0) 0 0 11 [(0, .ref a13), (1, .int i14)] [] s15 := by
  intro n
  induction n with
  | zero => intro i14 s15 h; obtain ⟨_, h0, _⟩ := h; exact absurd h0 (by simp [D_X4_look_w11])
  | succ n16 ih =>
    intro i14 s15 h
    unfold D_X4_look_w11 at h
    refine T_iload_n dX4_look_11 rfl 1 rfl ?_
    refine T_aload_n dX4_look_12 rfl 0 rfl ?_
    refine T_getR dX4_look_13 fl_RX4_39 h (fun a17 h => ?_)
    refine T_getI dX4_look_16 fl_RX4_46 h (fun i18 h => ?_)
    refine T_icmp_ge 62 dX4_look_19 (by decide) h (fun _ h => ?_) (fun _ h => ?_)
    · refine T_lv (lv' := [(0, .ref a13)]) [0] rfl ?_
      exact hk62 s15 h
    · refine T_aload_n dX4_look_22 rfl 0 rfl ?_
      refine T_getR dX4_look_23 fl_RX4_14 h (fun a19 h => ?_)
      refine T_aload_n dX4_look_26 rfl 0 rfl ?_
      refine T_getR dX4_look_27 fl_RX4_39 h (fun a20 h => ?_)
      refine T_getR dX4_look_30 fl_RX4_51 h (fun a21 h => ?_)
      refine T_iload_n dX4_look_33 rfl 1 rfl ?_
      refine T_callVI (As := [.int i14]) (rest := [.ref a19]) (b := a21) (ci := 1) dX4_look_34 mc_X1_read mi_X1_read ml_RX4_54 rfl (fun _ hr => chk_of hr) rfl rfl (Nat.le_of_ble_eq_true rfl) ⟨⟨Nat.le_of_ble_eq_true rfl, Nat.le_of_ble_eq_true rfl⟩, ⟨Nat.le_of_ble_eq_true rfl, Nat.le_of_ble_eq_true rfl⟩⟩ K_X1_read h (fun i22 s23 h => ?_)
      refine T_bipush (20 : Int32) dX4_look_37 (by decide) ?_
      refine T_imul dX4_look_39 ?_
      refine T_aload_n dX4_look_40 rfl 0 rfl ?_
      refine T_getR dX4_look_41 fl_RX4_39 h (fun a24 h => ?_)
      refine T_getR dX4_look_44 fl_RX4_58 h (fun a25 h => ?_)
      refine T_iload_n dX4_look_47 rfl 1 rfl ?_
      refine T_callVI (As := [.int i14]) (rest := [.int (i22 * (20 : Int32)), .ref a19]) (b := a25) (ci := 1) dX4_look_48 mc_X1_read mi_X1_read ml_RX4_54 rfl (fun _ hr => chk_of hr) rfl rfl (Nat.le_of_ble_eq_true rfl) ⟨⟨Nat.le_of_ble_eq_true rfl, Nat.le_of_ble_eq_true rfl⟩, ⟨Nat.le_of_ble_eq_true rfl, Nat.le_of_ble_eq_true rfl⟩⟩ K_X1_read h (fun i26 s27 h => ?_)
      refine T_iadd dX4_look_51 ?_
      refine T_iload_n dX4_look_52 rfl 1 rfl ?_
      refine T_callVV (As := [.int ((i22 * (20 : Int32)) + i26), .int i14]) (rest := []) (b := a19) (ci := 1) dX4_look_53 mc_X1_write mi_X1_write ml_RX4_61 rfl (fun _ hr => chk_of hr) rfl rfl (Nat.le_of_ble_eq_true rfl) ⟨⟨Nat.le_of_ble_eq_true rfl, Nat.le_of_ble_eq_true rfl⟩, ⟨Nat.le_of_ble_eq_true rfl, Nat.le_of_ble_eq_true rfl⟩⟩ K_X1_write h (fun s28 h => ?_)
      refine T_iinc (i14 + 1) (lv' := [(1, .int (i14 + 1)), (0, .ref a13)]) dX4_look_56 (j := 1) rfl rfl (by decide) rfl ?_
      refine T_goto 11 dX4_look_59 (by decide) ?_
      refine T_lv (lv' := [(0, .ref a13), (1, .int (i14 + 1))]) [1, 0] rfl ?_
      exact ih (i14 + 1) s28 h
set_option maxRecDepth 100000 in
set_option maxHeartbeats 4000000 in
theorem K_X4_look_w102 {l : Launch} {G : smG} {P : Option Value → Hp → Prop} {a43 : Nat} {i44 : Int32} {k133 : Hp → Option Hp} (hk133 : ∀  (s52 : Hp), OK jV (k133 s52) P → T l G RX4 cX4_look 3 (sm_rm 3 0 0) (sm_E none yX4_look.name) (sm_Qs G P 0 0) 0 0 133 [(0, .ref a43), (1, .int i44)] [] s52) : ∀ (n : Nat) (i45 : Int32) (s46 : Hp), OK jV (D_X4_look_w102 a43 i44 k133 n i45 s46) P → T l G RX4 cX4_look 3 (sm_rm 3 0 0) (sm_E none yX4_look.name) (sm_Qs G P 0 0) 0 0 102 [(0, .ref a43), (1, .int i44), (2, .int i45)] [] s46 := by
  intro n
  induction n with
  | zero => intro i45 s46 h; obtain ⟨_, h0, _⟩ := h; exact absurd h0 (by simp [D_X4_look_w102])
  | succ n47 ih =>
    intro i45 s46 h
    unfold D_X4_look_w102 at h
    refine T_iload_n dX4_look_102 rfl 2 rfl ?_
    refine T_bipush (11 : Int32) dX4_look_103 (by decide) ?_
    refine T_icmp_ge 133 dX4_look_105 (by decide) h (fun _ h => ?_) (fun _ h => ?_)
    · refine T_lv (lv' := [(0, .ref a43), (1, .int i44)]) [0, 1] rfl ?_
      exact hk133 s46 h
    · refine T_aload_n dX4_look_108 rfl 0 rfl ?_
      refine T_getR dX4_look_109 fl_RX4_20 h (fun a48 h => ?_)
      refine T_iload_n dX4_look_112 rfl 1 rfl ?_
      refine T_bipush (11 : Int32) dX4_look_113 (by decide) ?_
      refine T_imul dX4_look_115 ?_
      refine T_iload_n dX4_look_116 rfl 2 rfl ?_
      refine T_iadd dX4_look_117 ?_
      refine T_aload_n dX4_look_118 rfl 0 rfl ?_
      refine T_iload_n dX4_look_119 rfl 1 rfl ?_
      refine T_iload_n dX4_look_120 rfl 2 rfl ?_
      refine T_callVI (As := [.int i44, .int i45]) (rest := [.int ((i44 * (11 : Int32)) + i45), .ref a48]) (b := a43) (ci := 4) dX4_look_121 mc_X4_nearestShader mi_X4_nearestShader ml_RX4_69 rfl (fun _ hr => chk_of hr) rfl rfl (Nat.le_of_ble_eq_true rfl) ⟨⟨Nat.le_of_ble_eq_true rfl, Nat.le_of_ble_eq_true rfl⟩, ⟨Nat.le_of_ble_eq_true rfl, Nat.le_of_ble_eq_true rfl⟩⟩ K_X4_nearestShader h (fun i49 s50 h => ?_)
      refine T_callVV (As := [.int ((i44 * (11 : Int32)) + i45), .int i49]) (rest := []) (b := a48) (ci := 1) dX4_look_124 mc_X1_write mi_X1_write ml_RX4_61 rfl (fun _ hr => chk_of hr) rfl rfl (Nat.le_of_ble_eq_true rfl) ⟨⟨Nat.le_of_ble_eq_true rfl, Nat.le_of_ble_eq_true rfl⟩, ⟨Nat.le_of_ble_eq_true rfl, Nat.le_of_ble_eq_true rfl⟩⟩ K_X1_write h (fun s51 h => ?_)
      refine T_iinc (i45 + 1) (lv' := [(2, .int (i45 + 1)), (0, .ref a43), (1, .int i44)]) dX4_look_127 (j := 2) rfl rfl (by decide) rfl ?_
      refine T_goto 102 dX4_look_130 (by decide) ?_
      refine T_lv (lv' := [(0, .ref a43), (1, .int i44), (2, .int (i45 + 1))]) [1, 2, 0] rfl ?_
      exact ih (i45 + 1) s51 h
set_option maxRecDepth 100000 in
set_option maxHeartbeats 4000000 in
theorem K_X4_look_b100 {l : Launch} {G : smG} {P : Option Value → Hp → Prop} {k69 : Int32 → Hp → Option Hp} {a40 : Nat} {i41 : Int32} {s42 : Hp} (hk69 : ∀ (i54 : Int32) (s55 : Hp), OK jV (k69 i54 s55) P → T l G RX4 cX4_look 3 (sm_rm 3 0 0) (sm_E none yX4_look.name) (sm_Qs G P 0 0) 0 0 69 [(0, .ref a40), (1, .int i54)] [] s55) (h : OK jV (D_X4_look_b100 k69 a40 i41 s42) P) : T l G RX4 cX4_look 3 (sm_rm 3 0 0) (sm_E none yX4_look.name) (sm_Qs G P 0 0) 0 0 100 [(0, .ref a40), (1, .int i41)] [] s42 := by
  unfold D_X4_look_b100 at h
  refine T_iconst (0 : Int32) dX4_look_100 (by decide) ?_
  refine T_istore_n (lv' := [(2, .int (0 : Int32)), (0, .ref a40), (1, .int i41)]) dX4_look_101 rfl (by decide) rfl ?_
  refine T_lv (lv' := [(0, .ref a40), (1, .int i41), (2, .int (0 : Int32))]) [1, 2, 0] rfl ?_
  refine K_X4_look_w102 ?_ FU (0 : Int32) s42 h
  intro s53 h
  refine T_iinc (i41 + 1) (lv' := [(1, .int (i41 + 1)), (0, .ref a40)]) dX4_look_133 (j := 1) rfl rfl (by decide) rfl ?_
  refine T_goto 69 dX4_look_136 (by decide) ?_
  refine T_lv (lv' := [(0, .ref a40), (1, .int (i41 + 1))]) [1, 0] rfl ?_
  exact hk69 (i41 + 1) s53 h
set_option maxRecDepth 100000 in
set_option maxHeartbeats 4000000 in
theorem K_X4_look_w69 {l : Launch} {G : smG} {P : Option Value → Hp → Prop} {a32 : Nat} {k139 : Hp → Option Hp} (hk139 : ∀  (s58 : Hp), OK jV (k139 s58) P → T l G RX4 cX4_look 3 (sm_rm 3 0 0) (sm_E none yX4_look.name) (sm_Qs G P 0 0) 0 0 139 [] [] s58) : ∀ (n : Nat) (i33 : Int32) (s34 : Hp), OK jV (D_X4_look_w69 a32 k139 n i33 s34) P → T l G RX4 cX4_look 3 (sm_rm 3 0 0) (sm_E none yX4_look.name) (sm_Qs G P 0 0) 0 0 69 [(0, .ref a32), (1, .int i33)] [] s34 := by
  intro n
  induction n with
  | zero => intro i33 s34 h; obtain ⟨_, h0, _⟩ := h; exact absurd h0 (by simp [D_X4_look_w69])
  | succ n35 ih =>
    intro i33 s34 h
    unfold D_X4_look_w69 at h
    refine T_iload_n dX4_look_69 rfl 1 rfl ?_
    refine T_aload_n dX4_look_70 rfl 0 rfl ?_
    refine T_getR dX4_look_71 fl_RX4_39 h (fun a36 h => ?_)
    refine T_getI dX4_look_74 fl_RX4_46 h (fun i37 h => ?_)
    refine T_icmp_ge 139 dX4_look_77 (by decide) h (fun _ h => ?_) (fun _ h => ?_)
    · refine T_lv (lv' := []) [] rfl ?_
      exact hk139 s34 h
    · refine T_aload_n dX4_look_80 rfl 0 rfl ?_
      refine T_iload_n dX4_look_81 rfl 1 rfl ?_
      refine T_callVI (As := [.int i33]) (rest := []) (b := a32) (ci := 4) dX4_look_82 mc_X4_hasBlocker mi_X4_hasBlocker ml_RX4_65 rfl (fun _ hr => chk_of hr) rfl rfl (Nat.le_of_ble_eq_true rfl) ⟨⟨Nat.le_of_ble_eq_true rfl, Nat.le_of_ble_eq_true rfl⟩, ⟨Nat.le_of_ble_eq_true rfl, Nat.le_of_ble_eq_true rfl⟩⟩ K_X4_hasBlocker h (fun i38 s39 h => ?_)
      refine T_if_eq 100 dX4_look_85 (by decide) h (fun _ h => ?_) (fun _ h => ?_)
      · exact K_X4_look_b100 ih h
      · refine T_aload_n dX4_look_88 rfl 0 rfl ?_
        refine T_dup dX4_look_89 rfl ?_
        refine T_getI dX4_look_90 fl_RX4_32 h (fun i56 h => ?_)
        refine T_iconst (1 : Int32) dX4_look_93 (by decide) ?_
        refine T_iload_n dX4_look_94 rfl 1 rfl ?_
        refine T_ishl dX4_look_95 ?_
        refine T_ior dX4_look_96 ?_
        refine T_putI dX4_look_97 fl_RX4_32 ft_4_6 h (fun s57 h => ?_)
        exact K_X4_look_b100 ih h
set_option maxRecDepth 100000 in
set_option maxHeartbeats 4000000 in
theorem K_X4_look {l : Launch} {a0 : Nat} {s0 : Hp} : ∀ P, OK jV (D_X4_look a0 s0) P → sm_Ct l yX4_look cX4_look 3 none 3 0 0 [.ref a0] s0 P := by
  intro P h
  unfold D_X4_look at h
  obtain ⟨_, hb0, h⟩ := h.bind
  refine sm_enter (own := RX4) (lv := [(0, .ref a0)]) (by decide) rfl (Nat.le_of_ble_eq_true rfl) rfl (fun G => ?_)
  refine T_aload_n dX4_look_0 rfl 0 rfl ?_
  refine T_getR dX4_look_1 fl_RX4_14 h (fun a11 h => ?_)
  refine T_bipush (-6 : Int32) dX4_look_4 (by decide) ?_
  refine T_callVV (As := [.int (-6 : Int32)]) (rest := []) (b := a11) (ci := 1) dX4_look_6 mc_X1_fill mi_X1_fill ml_RX4_43 rfl (fun _ hr => chk_of hr) rfl rfl (Nat.le_of_ble_eq_true rfl) ⟨⟨Nat.le_of_ble_eq_true rfl, Nat.le_of_ble_eq_true rfl⟩, ⟨Nat.le_of_ble_eq_true rfl, Nat.le_of_ble_eq_true rfl⟩⟩ K_X1_fill h (fun s12 h => ?_)
  refine T_iconst (0 : Int32) dX4_look_9 (by decide) ?_
  refine T_istore_n (lv' := [(1, .int (0 : Int32)), (0, .ref a0)]) dX4_look_10 rfl (by decide) rfl ?_
  refine T_lv (lv' := [(0, .ref a0), (1, .int (0 : Int32))]) [1, 0] rfl ?_
  refine K_X4_look_w11 ?_ FU (0 : Int32) s12 h
  intro s30 h
  refine T_aload_n dX4_look_62 rfl 0 rfl ?_
  refine T_iconst (0 : Int32) dX4_look_63 (by decide) ?_
  refine T_putI dX4_look_64 fl_RX4_32 ft_4_6 h (fun s31 h => ?_)
  refine T_iconst (0 : Int32) dX4_look_67 (by decide) ?_
  refine T_istore_n (lv' := [(1, .int (0 : Int32)), (0, .ref a0)]) dX4_look_68 rfl (by decide) rfl ?_
  refine T_lv (lv' := [(0, .ref a0), (1, .int (0 : Int32))]) [1, 0] rfl ?_
  refine K_X4_look_w69 ?_ FU (0 : Int32) s31 h
  intro s59 h
  exact T_vreturn dX4_look_139 (Nat.le_of_ble_eq_true rfl) (Nat.le_of_ble_eq_true rfl) h

def D_X4_work_b46 (k19 : Int32 → Hp → Option (Int32 × Hp)) (a26 : Nat) (i27 : Int32) (i28 : Int32) (i29 : Int32) (i30 : Int32) (i32 : Int32) (i33 : Int32) (a34 : Nat) (s31 : Hp) : Option (Int32 × Hp) :=
  (D_X1_write a34 i33 i32 s31).bind fun s35 =>
  (D_X4_putInOrder a26 i30 s35).bind fun s36 =>
  k19 (i30 + 1) s36
def D_X4_work_w19 (a16 : Nat) (i17 : Int32) (i18 : Int32) (i19 : Int32) (k61 : Hp → Option (Int32 × Hp)) : Nat → Int32 → Hp → Option (Int32 × Hp)
  | 0, _, _ => none
  | n22 + 1, i20, s21 =>
  if i18 ≤ i20 then
  k61 s21
  else
  (getR s21 a16 4 3).bind fun a23 =>
  if i19 = 0 then
  bd (D_X4_gift a16 i20 i17 s21) fun i24 s25 =>
  D_X4_work_b46 (D_X4_work_w19 a16 i17 i18 i19 k61 n22) a16 i17 i18 i19 i20 i24 i20 a23 s25
  else
  D_X4_work_b46 (D_X4_work_w19 a16 i17 i18 i19 k61 n22) a16 i17 i18 i19 i20 (0 : Int32) i20 a23 s21
def D_X4_work_w80 (a44 : Nat) (i45 : Int32) (k110 : Int32 → Hp → Option (Int32 × Hp)) : Nat → Int32 → Int32 → Hp → Option (Int32 × Hp)
  | 0, _, _, _ => none
  | n49 + 1, i46, i47, s48 =>
  if i45 ≤ i47 then
  k110 i46 s48
  else
  (getR s48 a44 4 4).bind fun a50 =>
  bd (D_X1_read a50 i47 s48) fun i51 s52 =>
  bd (D_X4_useIfBearable a44 i51 s52) fun i53 s54 =>
  nm (i46 + i53) fun i55 =>
  D_X4_work_w80 a44 i45 k110 n49 i55 (i47 + 1) s54
def D_X4_work (a0 : Nat) (i1 : Int32) (s0 : Hp) : Option (Int32 × Hp) :=
  (isO s0 a0 4).bind fun _ =>
  (getR s0 a0 4 0).bind fun a11 =>
  (getI s0 a11 2 6).bind fun i12 =>
  (getR s0 a0 4 0).bind fun a13 =>
  bd (D_X2_liesFlat a13 s0) fun i14 s15 =>
  D_X4_work_w19 a0 i1 i12 i14 (fun s40 =>
  (getR s40 a0 4 5).bind fun a41 =>
  (D_X1_fill a41 (0 : Int32) s40).bind fun s42 =>
  (putI s42 a0 4 7 (0 : Int32)).bind fun s43 =>
  D_X4_work_w80 a0 i12 (fun i59 s58 =>
  some (i59, s58)
  ) FU (0 : Int32) (0 : Int32) s43
  ) FU (0 : Int32) s15
set_option maxRecDepth 100000 in
set_option maxHeartbeats 4000000 in
theorem K_X4_work_b46 {l : Launch} {G : smG} {P : Option Value → Hp → Prop} {k19 : Int32 → Hp → Option (Int32 × Hp)} {a26 : Nat} {i27 : Int32} {i28 : Int32} {i29 : Int32} {i30 : Int32} {i32 : Int32} {i33 : Int32} {a34 : Nat} {s31 : Hp} (hk19 : ∀ (i37 : Int32) (s38 : Hp), OK jI (k19 i37 s38) P → T l G RX4 cX4_work 6 (sm_rm 3 0 0) (sm_E (some .int) yX4_work.name) (sm_Qs G P 0 0) 0 0 19 [(0, .ref a26), (1, .int i27), (2, .int i28), (3, .int i29), (4, .int i37)] [] s38) (h : OK jI (D_X4_work_b46 k19 a26 i27 i28 i29 i30 i32 i33 a34 s31) P) : T l G RX4 cX4_work 6 (sm_rm 3 0 0) (sm_E (some .int) yX4_work.name) (sm_Qs G P 0 0) 0 0 46 [(0, .ref a26), (1, .int i27), (2, .int i28), (3, .int i29), (4, .int i30)] [.int i32, .int i33, .ref a34] s31 := by
  unfold D_X4_work_b46 at h
  refine T_callVV (As := [.int i33, .int i32]) (rest := []) (b := a34) (ci := 1) dX4_work_46 mc_X1_write mi_X1_write ml_RX4_61 rfl (fun _ hr => chk_of hr) rfl rfl (Nat.le_of_ble_eq_true rfl) ⟨⟨Nat.le_of_ble_eq_true rfl, Nat.le_of_ble_eq_true rfl⟩, ⟨Nat.le_of_ble_eq_true rfl, Nat.le_of_ble_eq_true rfl⟩⟩ K_X1_write h (fun s35 h => ?_)
  refine T_aload_n dX4_work_49 rfl 0 rfl ?_
  refine T_iload dX4_work_50 4 rfl ?_
  refine T_callVV (As := [.int i30]) (rest := []) (b := a26) (ci := 4) dX4_work_52 mc_X4_putInOrder mi_X4_putInOrder ml_RX4_94 rfl (fun _ hr => chk_of hr) rfl rfl (Nat.le_of_ble_eq_true rfl) ⟨⟨Nat.le_of_ble_eq_true rfl, Nat.le_of_ble_eq_true rfl⟩, ⟨Nat.le_of_ble_eq_true rfl, Nat.le_of_ble_eq_true rfl⟩⟩ K_X4_putInOrder h (fun s36 h => ?_)
  refine T_iinc (i30 + 1) (lv' := [(4, .int (i30 + 1)), (0, .ref a26), (1, .int i27), (2, .int i28), (3, .int i29)]) dX4_work_55 (j := 4) rfl rfl (by decide) rfl ?_
  refine T_goto 19 dX4_work_58 (by decide) ?_
  refine T_lv (lv' := [(0, .ref a26), (1, .int i27), (2, .int i28), (3, .int i29), (4, .int (i30 + 1))]) [1, 2, 3, 4, 0] rfl ?_
  exact hk19 (i30 + 1) s36 h
set_option maxRecDepth 100000 in
set_option maxHeartbeats 4000000 in
theorem K_X4_work_w19 {l : Launch} {G : smG} {P : Option Value → Hp → Prop} {a16 : Nat} {i17 : Int32} {i18 : Int32} {i19 : Int32} {k61 : Hp → Option (Int32 × Hp)} (hk61 : ∀  (s39 : Hp), OK jI (k61 s39) P → T l G RX4 cX4_work 6 (sm_rm 3 0 0) (sm_E (some .int) yX4_work.name) (sm_Qs G P 0 0) 0 0 61 [(0, .ref a16), (2, .int i18)] [] s39) : ∀ (n : Nat) (i20 : Int32) (s21 : Hp), OK jI (D_X4_work_w19 a16 i17 i18 i19 k61 n i20 s21) P → T l G RX4 cX4_work 6 (sm_rm 3 0 0) (sm_E (some .int) yX4_work.name) (sm_Qs G P 0 0) 0 0 19 [(0, .ref a16), (1, .int i17), (2, .int i18), (3, .int i19), (4, .int i20)] [] s21 := by
  intro n
  induction n with
  | zero => intro i20 s21 h; obtain ⟨_, h0, _⟩ := h; exact absurd h0 (by simp [D_X4_work_w19])
  | succ n22 ih =>
    intro i20 s21 h
    unfold D_X4_work_w19 at h
    refine T_iload dX4_work_19 4 rfl ?_
    refine T_iload_n dX4_work_21 rfl 2 rfl ?_
    refine T_icmp_ge 61 dX4_work_22 (by decide) h (fun _ h => ?_) (fun _ h => ?_)
    · refine T_lv (lv' := [(0, .ref a16), (2, .int i18)]) [0, 2] rfl ?_
      exact hk61 s21 h
    · refine T_aload_n dX4_work_25 rfl 0 rfl ?_
      refine T_getR dX4_work_26 fl_RX4_23 h (fun a23 h => ?_)
      refine T_iload dX4_work_29 4 rfl ?_
      refine T_iload_n dX4_work_31 rfl 3 rfl ?_
      refine T_if_eq 39 dX4_work_32 (by decide) h (fun _ h => ?_) (fun _ h => ?_)
      · refine T_aload_n dX4_work_39 rfl 0 rfl ?_
        refine T_iload dX4_work_40 4 rfl ?_
        refine T_iload_n dX4_work_42 rfl 1 rfl ?_
        refine T_callVI (As := [.int i20, .int i17]) (rest := [.int i20, .ref a23]) (b := a16) (ci := 4) dX4_work_43 mc_X4_gift mi_X4_gift ml_RX4_91 rfl (fun _ hr => chk_of hr) rfl rfl (Nat.le_of_ble_eq_true rfl) ⟨⟨Nat.le_of_ble_eq_true rfl, Nat.le_of_ble_eq_true rfl⟩, ⟨Nat.le_of_ble_eq_true rfl, Nat.le_of_ble_eq_true rfl⟩⟩ K_X4_gift h (fun i24 s25 h => ?_)
        exact K_X4_work_b46 ih h
      · refine T_iconst (0 : Int32) dX4_work_35 (by decide) ?_
        refine T_goto 46 dX4_work_36 (by decide) ?_
        exact K_X4_work_b46 ih h
set_option maxRecDepth 100000 in
set_option maxHeartbeats 4000000 in
theorem K_X4_work_w80 {l : Launch} {G : smG} {P : Option Value → Hp → Prop} {a44 : Nat} {i45 : Int32} {k110 : Int32 → Hp → Option (Int32 × Hp)} (hk110 : ∀ (i56 : Int32) (s57 : Hp), OK jI (k110 i56 s57) P → T l G RX4 cX4_work 6 (sm_rm 3 0 0) (sm_E (some .int) yX4_work.name) (sm_Qs G P 0 0) 0 0 110 [(4, .int i56)] [] s57) : ∀ (n : Nat) (i46 : Int32) (i47 : Int32) (s48 : Hp), OK jI (D_X4_work_w80 a44 i45 k110 n i46 i47 s48) P → T l G RX4 cX4_work 6 (sm_rm 3 0 0) (sm_E (some .int) yX4_work.name) (sm_Qs G P 0 0) 0 0 80 [(0, .ref a44), (2, .int i45), (4, .int i46), (5, .int i47)] [] s48 := by
  intro n
  induction n with
  | zero => intro i46 i47 s48 h; obtain ⟨_, h0, _⟩ := h; exact absurd h0 (by simp [D_X4_work_w80])
  | succ n49 ih =>
    intro i46 i47 s48 h
    unfold D_X4_work_w80 at h
    refine T_iload dX4_work_80 3 rfl ?_
    refine T_iload_n dX4_work_82 rfl 1 rfl ?_
    refine T_icmp_ge 110 dX4_work_83 (by decide) h (fun _ h => ?_) (fun _ h => ?_)
    · refine T_lv (lv' := [(4, .int i46)]) [2] rfl ?_
      exact hk110 i46 s48 h
    · refine T_iload dX4_work_86 2 rfl ?_
      refine T_aload_n dX4_work_88 rfl 0 rfl ?_
      refine T_aload_n dX4_work_89 rfl 0 rfl ?_
      refine T_getR dX4_work_90 fl_RX4_26 h (fun a50 h => ?_)
      refine T_iload dX4_work_93 3 rfl ?_
      refine T_callVI (As := [.int i47]) (rest := [.ref a44, .int i46]) (b := a50) (ci := 1) dX4_work_95 mc_X1_read mi_X1_read ml_RX4_54 rfl (fun _ hr => chk_of hr) rfl rfl (Nat.le_of_ble_eq_true rfl) ⟨⟨Nat.le_of_ble_eq_true rfl, Nat.le_of_ble_eq_true rfl⟩, ⟨Nat.le_of_ble_eq_true rfl, Nat.le_of_ble_eq_true rfl⟩⟩ K_X1_read h (fun i51 s52 h => ?_)
      refine T_callVI (As := [.int i51]) (rest := [.int i46]) (b := a44) (ci := 4) dX4_work_98 mc_X4_useIfBearable mi_X4_useIfBearable ml_RX4_97 rfl (fun _ hr => chk_of hr) rfl rfl (Nat.le_of_ble_eq_true rfl) ⟨⟨Nat.le_of_ble_eq_true rfl, Nat.le_of_ble_eq_true rfl⟩, ⟨Nat.le_of_ble_eq_true rfl, Nat.le_of_ble_eq_true rfl⟩⟩ K_X4_useIfBearable h (fun i53 s54 h => ?_)
      refine T_iadd dX4_work_101 ?_
      refine T_nm h (fun i55 h => ?_)
      refine T_istore (lv' := [(4, .int i55), (0, .ref a44), (2, .int i45), (5, .int i47)]) dX4_work_102 (by decide) rfl ?_
      refine T_iinc (i47 + 1) (lv' := [(5, .int (i47 + 1)), (4, .int i55), (0, .ref a44), (2, .int i45)]) dX4_work_104 (j := 3) rfl rfl (by decide) rfl ?_
      refine T_goto 80 dX4_work_107 (by decide) ?_
      refine T_lv (lv' := [(0, .ref a44), (2, .int i45), (4, .int i55), (5, .int (i47 + 1))]) [2, 3, 1, 0] rfl ?_
      exact ih i55 (i47 + 1) s54 h
set_option maxRecDepth 100000 in
set_option maxHeartbeats 4000000 in
theorem K_X4_work {l : Launch} {a0 : Nat} {i1 : Int32} {s0 : Hp} : ∀ P, OK jI (D_X4_work a0 i1 s0) P → sm_Ct l yX4_work cX4_work 6 (some .int) 3 0 0 [.ref a0, .int i1] s0 P := by
  intro P h
  unfold D_X4_work at h
  obtain ⟨_, hb0, h⟩ := h.bind
  refine sm_enter (own := RX4) (lv := [(0, .ref a0), (1, .int i1)]) (by decide) rfl (Nat.le_of_ble_eq_true rfl) rfl (fun G => ?_)
  refine T_aload_n dX4_work_0 rfl 0 rfl ?_
  refine T_getR dX4_work_1 fl_RX4_39 h (fun a11 h => ?_)
  refine T_getI dX4_work_4 fl_RX4_46 h (fun i12 h => ?_)
  refine T_istore_n (lv' := [(2, .int i12), (0, .ref a0), (1, .int i1)]) dX4_work_7 rfl (by decide) rfl ?_
  refine T_aload_n dX4_work_8 rfl 1 rfl ?_
  refine T_getR dX4_work_9 fl_RX4_39 h (fun a13 h => ?_)
  refine T_callVI (As := []) (rest := []) (b := a13) (ci := 2) dX4_work_12 mc_X2_liesFlat mi_X2_liesFlat ml_RX4_87 rfl (fun _ hr => chk_of hr) rfl rfl (Nat.le_of_ble_eq_true rfl) ⟨⟨Nat.le_of_ble_eq_true rfl, Nat.le_of_ble_eq_true rfl⟩, ⟨Nat.le_of_ble_eq_true rfl, Nat.le_of_ble_eq_true rfl⟩⟩ K_X2_liesFlat h (fun i14 s15 h => ?_)
  refine T_istore_n (lv' := [(3, .int i14), (2, .int i12), (0, .ref a0), (1, .int i1)]) dX4_work_15 rfl (by decide) rfl ?_
  refine T_iconst (0 : Int32) dX4_work_16 (by decide) ?_
  refine T_istore (lv' := [(4, .int (0 : Int32)), (3, .int i14), (2, .int i12), (0, .ref a0), (1, .int i1)]) dX4_work_17 (by decide) rfl ?_
  refine T_lv (lv' := [(0, .ref a0), (1, .int i1), (2, .int i12), (3, .int i14), (4, .int (0 : Int32))]) [3, 4, 2, 1, 0] rfl ?_
  refine K_X4_work_w19 ?_ FU (0 : Int32) s15 h
  intro s40 h
  refine T_aload_n dX4_work_61 rfl 0 rfl ?_
  refine T_getR dX4_work_62 fl_RX4_29 h (fun a41 h => ?_)
  refine T_iconst (0 : Int32) dX4_work_65 (by decide) ?_
  refine T_callVV (As := [.int (0 : Int32)]) (rest := []) (b := a41) (ci := 1) dX4_work_66 mc_X1_fill mi_X1_fill ml_RX4_43 rfl (fun _ hr => chk_of hr) rfl rfl (Nat.le_of_ble_eq_true rfl) ⟨⟨Nat.le_of_ble_eq_true rfl, Nat.le_of_ble_eq_true rfl⟩, ⟨Nat.le_of_ble_eq_true rfl, Nat.le_of_ble_eq_true rfl⟩⟩ K_X1_fill h (fun s42 h => ?_)
  refine T_aload_n dX4_work_69 rfl 0 rfl ?_
  refine T_iconst (0 : Int32) dX4_work_70 (by decide) ?_
  refine T_putI dX4_work_71 fl_RX4_36 ft_4_7 h (fun s43 h => ?_)
  refine T_iconst (0 : Int32) dX4_work_74 (by decide) ?_
  refine T_istore (lv' := [(4, .int (0 : Int32)), (0, .ref a0), (2, .int i12)]) dX4_work_75 (by decide) rfl ?_
  refine T_iconst (0 : Int32) dX4_work_77 (by decide) ?_
  refine T_istore (lv' := [(5, .int (0 : Int32)), (4, .int (0 : Int32)), (0, .ref a0), (2, .int i12)]) dX4_work_78 (by decide) rfl ?_
  refine T_lv (lv' := [(0, .ref a0), (2, .int i12), (4, .int (0 : Int32)), (5, .int (0 : Int32))]) [2, 3, 1, 0] rfl ?_
  refine K_X4_work_w80 ?_ FU (0 : Int32) (0 : Int32) s43 h
  intro i59 s58 h
  refine T_iload dX4_work_110 0 rfl ?_
  exact T_ireturn dX4_work_112 (Nat.le_of_ble_eq_true rfl) (Nat.le_of_ble_eq_true rfl) h

def D_X7_bringBack (a0 : Nat) (i1 : Int32) (a2 : Nat) (s0 : Hp) : Option Hp :=
  (isO s0 a0 7).bind fun _ =>
  bd (D_X7_state a0 i1 s0) fun o11 s12 =>
  mtO o11 (
  some s12
  ) fun a13 =>
  (D_X2_copy a2 a13 s12).bind fun s14 =>
  some s14
set_option maxRecDepth 100000 in
set_option maxHeartbeats 4000000 in
theorem K_X7_bringBack {l : Launch} {a0 : Nat} {i1 : Int32} {a2 : Nat} {s0 : Hp} : ∀ P, OK jV (D_X7_bringBack a0 i1 a2 s0) P → sm_Ct l yX7_bringBack cX7_bringBack 4 none 3 0 0 [.ref a0, .int i1, .ref a2] s0 P := by
  intro P h
  unfold D_X7_bringBack at h
  obtain ⟨_, hb0, h⟩ := h.bind
  refine sm_enter (own := RX7) (lv := [(0, .ref a0), (1, .int i1), (2, .ref a2)]) (by decide) rfl (Nat.le_of_ble_eq_true rfl) rfl (fun G => ?_)
  refine T_aload_n dX7_bringBack_0 rfl 0 rfl ?_
  refine T_iload_n dX7_bringBack_1 rfl 1 rfl ?_
  refine T_callVR (As := [.int i1]) (rest := []) (b := a0) (ci := 7) dX7_bringBack_2 mc_X7_state mi_X7_state ml_RX7_22 rfl (fun _ hr => chk_of hr) rfl rfl (Nat.le_of_ble_eq_true rfl) ⟨⟨Nat.le_of_ble_eq_true rfl, Nat.le_of_ble_eq_true rfl⟩, ⟨Nat.le_of_ble_eq_true rfl, Nat.le_of_ble_eq_true rfl⟩⟩ K_X7_state h (fun o11 s12 h => ?_)
  refine T_mtO h (fun h => ?_) (fun a13 h => ?_)
  · refine T_astore_nN (lv' := [(3, .null), (0, .ref a0), (1, .int i1), (2, .ref a2)]) dX7_bringBack_5 rfl (by decide) rfl ?_
    refine T_aload_nN dX7_bringBack_6 rfl 0 rfl ?_
    refine T_ifnullN 15 dX7_bringBack_7 (by decide) ?_
    exact T_vreturn dX7_bringBack_15 (Nat.le_of_ble_eq_true rfl) (Nat.le_of_ble_eq_true rfl) h
  · refine T_astore_n (lv' := [(3, .ref a13), (0, .ref a0), (1, .int i1), (2, .ref a2)]) dX7_bringBack_5 rfl (by decide) rfl ?_
    refine T_aload_n dX7_bringBack_6 rfl 0 rfl ?_
    refine T_ifnull dX7_bringBack_7 ?_
    refine T_aload_n dX7_bringBack_10 rfl 3 rfl ?_
    refine T_aload_n dX7_bringBack_11 rfl 0 rfl ?_
    refine T_callVV (As := [.ref a13]) (rest := []) (b := a2) (ci := 2) dX7_bringBack_12 mc_X2_copy mi_X2_copy ml_RX7_26 rfl (fun _ hr => chk_of hr) rfl rfl (Nat.le_of_ble_eq_true rfl) ⟨⟨Nat.le_of_ble_eq_true rfl, Nat.le_of_ble_eq_true rfl⟩, ⟨Nat.le_of_ble_eq_true rfl, Nat.le_of_ble_eq_true rfl⟩⟩ K_X2_copy h (fun s14 h => ?_)
    exact T_vreturn dX7_bringBack_15 (Nat.le_of_ble_eq_true rfl) (Nat.le_of_ble_eq_true rfl) h

def D_X7_init_w18 (a14 : Nat) (k46 : Hp → Option Hp) : Nat → Int32 → Hp → Option Hp
  | 0, _, _ => none
  | n17 + 1, i15, s16 =>
  (getR s16 a14 7 0).bind fun a18 =>
  (alen s16 a18).bind fun i19 =>
  if i19 ≤ i15 then
  k46 s16
  else
  (getR s16 a14 7 0).bind fun a20 =>
  nm (newO s16 2 [.null, .null, .null, .null, .null, .null, .int 0, .int 0, .int 0, .int 0]) fun s21 =>
  (D_X2_init s16.1 s21).bind fun s22 =>
  (stR s22 a20 i15 s16.1).bind fun s23 =>
  D_X7_init_w18 a14 k46 n17 (i15 + 1) s23
def D_X7_init (a0 : Nat) (i1 : Int32) (s0 : Hp) : Option Hp :=
  (isO s0 a0 7).bind fun _ =>
  nm (if i1 < (0 : Int32) then (0 : Int32) else i1) fun i11 =>
  (newR s0 i11).bind fun s12 =>
  (putV s12 a0 7 0 (.ref s0.1)).bind fun s13 =>
  D_X7_init_w18 a0 (fun s25 =>
  some s25
  ) 8 (0 : Int32) s13
set_option maxRecDepth 100000 in
set_option maxHeartbeats 4000000 in
theorem K_X7_init_w18 {l : Launch} {G : smG} {P : Option Value → Hp → Prop} {a14 : Nat} {k46 : Hp → Option Hp} (hk46 : ∀ (cs sl : Nat), cs ≤ 105 → sl ≤ 39328 → ∀  (s24 : Hp), OK jV (k46 s24) P → T l G RX7 cX7_init 3 (sm_rm 3 105 39328) (sm_E none yX7_init.name) (sm_Qs G P 105 39328) cs sl 46 [] [] s24) : ∀ (n cs sl : Nat), cs + 13 * n ≤ 105 → sl + 4816 * n ≤ 39328 → ∀ (i15 : Int32) (s16 : Hp), OK jV (D_X7_init_w18 a14 k46 n i15 s16) P → T l G RX7 cX7_init 3 (sm_rm 3 105 39328) (sm_E none yX7_init.name) (sm_Qs G P 105 39328) cs sl 18 [(0, .ref a14), (2, .int i15)] [] s16 := by
  intro n
  induction n with
  | zero => intro cs sl hc hs i15 s16 h; obtain ⟨_, h0, _⟩ := h; exact absurd h0 (by simp [D_X7_init_w18])
  | succ n17 ih =>
    intro cs sl hc hs i15 s16 h
    unfold D_X7_init_w18 at h
    refine T_iload_n dX7_init_18 rfl 1 rfl ?_
    refine T_aload_n dX7_init_19 rfl 0 rfl ?_
    refine T_getR dX7_init_20 fl_RX7_15 h (fun a18 h => ?_)
    refine T_alen dX7_init_23 h (fun i19 h => ?_)
    refine T_icmp_ge 46 dX7_init_24 (by decide) h (fun _ h => ?_) (fun _ h => ?_)
    · refine T_lv (lv' := []) [] rfl ?_
      exact hk46 cs sl (by omega) (by omega) s16 h
    · refine T_aload_n dX7_init_27 rfl 0 rfl ?_
      refine T_getR dX7_init_28 fl_RX7_15 h (fun a20 h => ?_)
      refine T_iload_n dX7_init_31 rfl 1 rfl ?_
      refine T_newO (C := RX2) (ci := 2) (fs := [.null, .null, .null, .null, .null, .null, .int 0, .int 0, .int 0, .int 0]) dX7_init_32 wd_6_9 wd_1_10 wd_1_11 ⟨TX2, tyX2, rfl, inlX2, tyX2_ok, by decide +kernel⟩ (by show _ ≤ 105; omega) (by show _ ≤ 39328; omega) ?_
      refine T_nh h (fun s21 h => ?_)
      refine T_dup dX7_init_35 rfl ?_
      refine T_callIV (As := []) (rest := [.ref s16.1, .int i15, .ref a20]) (b := s16.1) dX7_init_36 mc_X2_init mi_X2_init ml_RX7_21 rfl rfl (Nat.le_of_ble_eq_true rfl) ⟨⟨Nat.le_of_ble_eq_true rfl, Nat.le_of_ble_eq_true rfl⟩, ⟨(by show _ ≤ 105; omega), (by show _ ≤ 39328; omega)⟩⟩ K_X2_init h (fun s22 h => ?_)
      refine T_aastore dX7_init_39 h (fun s23 h => ?_)
      refine T_iinc (i15 + 1) (lv' := [(2, .int (i15 + 1)), (0, .ref a14)]) dX7_init_40 (j := 1) rfl rfl (by decide) rfl ?_
      refine T_goto 18 dX7_init_43 (by decide) ?_
      refine T_lv (lv' := [(0, .ref a14), (2, .int (i15 + 1))]) [1, 0] rfl ?_
      exact ih ((cs + 1) + 12) ((sl + 10) + 4806) (by omega) (by omega) (i15 + 1) s23 h
set_option maxRecDepth 100000 in
set_option maxHeartbeats 4000000 in
theorem K_X7_init {l : Launch} {a0 : Nat} {i1 : Int32} {s0 : Hp} : ∀ P, OK jV (D_X7_init a0 i1 s0) P → sm_Ct l yX7_init cX7_init 3 none 3 105 39328 [.ref a0, .int i1] s0 P := by
  intro P h
  unfold D_X7_init at h
  obtain ⟨_, hb0, h⟩ := h.bind
  refine sm_enter (own := RX7) (lv := [(0, .ref a0), (1, .int i1)]) (by decide) rfl (Nat.le_of_ble_eq_true rfl) rfl (fun G => ?_)
  refine T_aload_n dX7_init_0 rfl 0 rfl ?_
  refine T_objInit dX7_init_1 ml_RX7_1 wd_1_7 wd_1_8 ⟨Nat.le_of_ble_eq_true rfl, Nat.le_of_ble_eq_true rfl⟩ ?_
  refine T_aload_n dX7_init_4 rfl 0 rfl ?_
  refine T_iload_n dX7_init_5 rfl 1 rfl ?_
  refine T_iconst (0 : Int32) dX7_init_6 (by decide) ?_
  refine T_mmax dX7_init_7 ml_RX7_7 wd_3_12 wd_3_13 wd_3_14 ⟨Nat.le_of_ble_eq_true rfl, Nat.le_of_ble_eq_true rfl, Nat.le_of_ble_eq_true rfl, Nat.le_of_ble_eq_true rfl⟩ ?_
  refine T_nm h (fun i11 h => ?_)
  refine T_newR dX7_init_10 wd_6_9 (Nat.le_of_ble_eq_true rfl) (Nat.le_of_ble_eq_true rfl) h (fun s12 h => ?_)
  refine T_putF (rt := none) rfl dX7_init_13 fl_RX7_15 ft_7_0 rfl rfl rfl h (fun s13 h => ?_)
  refine T_iconst (0 : Int32) dX7_init_16 (by decide) ?_
  refine T_istore_n (lv' := [(2, .int (0 : Int32)), (0, .ref a0), (1, .int i1)]) dX7_init_17 rfl (by decide) rfl ?_
  refine T_lv (lv' := [(0, .ref a0), (2, .int (0 : Int32))]) [1, 0] rfl ?_
  refine K_X7_init_w18 ?_  8 _ _ (Nat.le_of_ble_eq_true rfl) (Nat.le_of_ble_eq_true rfl) (0 : Int32) s13 h
  intro cs sl hc hs s25 h
  exact T_vreturn dX7_init_46 (by show _ ≤ _; omega) (by show _ ≤ _; omega) h

def D_X7_keep (a0 : Nat) (i1 : Int32) (a2 : Nat) (s0 : Hp) : Option Hp :=
  (isO s0 a0 7).bind fun _ =>
  bd (D_X7_state a0 i1 s0) fun o11 s12 =>
  mtO o11 (
  some s12
  ) fun a13 =>
  (D_X2_copy a13 a2 s12).bind fun s14 =>
  some s14
set_option maxRecDepth 100000 in
set_option maxHeartbeats 4000000 in
theorem K_X7_keep {l : Launch} {a0 : Nat} {i1 : Int32} {a2 : Nat} {s0 : Hp} : ∀ P, OK jV (D_X7_keep a0 i1 a2 s0) P → sm_Ct l yX7_keep cX7_keep 4 none 3 0 0 [.ref a0, .int i1, .ref a2] s0 P := by
  intro P h
  unfold D_X7_keep at h
  obtain ⟨_, hb0, h⟩ := h.bind
  refine sm_enter (own := RX7) (lv := [(0, .ref a0), (1, .int i1), (2, .ref a2)]) (by decide) rfl (Nat.le_of_ble_eq_true rfl) rfl (fun G => ?_)
  refine T_aload_n dX7_keep_0 rfl 0 rfl ?_
  refine T_iload_n dX7_keep_1 rfl 1 rfl ?_
  refine T_callVR (As := [.int i1]) (rest := []) (b := a0) (ci := 7) dX7_keep_2 mc_X7_state mi_X7_state ml_RX7_22 rfl (fun _ hr => chk_of hr) rfl rfl (Nat.le_of_ble_eq_true rfl) ⟨⟨Nat.le_of_ble_eq_true rfl, Nat.le_of_ble_eq_true rfl⟩, ⟨Nat.le_of_ble_eq_true rfl, Nat.le_of_ble_eq_true rfl⟩⟩ K_X7_state h (fun o11 s12 h => ?_)
  refine T_mtO h (fun h => ?_) (fun a13 h => ?_)
  · refine T_astore_nN (lv' := [(3, .null), (0, .ref a0), (1, .int i1), (2, .ref a2)]) dX7_keep_5 rfl (by decide) rfl ?_
    refine T_aload_nN dX7_keep_6 rfl 0 rfl ?_
    refine T_ifnullN 15 dX7_keep_7 (by decide) ?_
    exact T_vreturn dX7_keep_15 (Nat.le_of_ble_eq_true rfl) (Nat.le_of_ble_eq_true rfl) h
  · refine T_astore_n (lv' := [(3, .ref a13), (0, .ref a0), (1, .int i1), (2, .ref a2)]) dX7_keep_5 rfl (by decide) rfl ?_
    refine T_aload_n dX7_keep_6 rfl 0 rfl ?_
    refine T_ifnull dX7_keep_7 ?_
    refine T_aload_n dX7_keep_10 rfl 0 rfl ?_
    refine T_aload_n dX7_keep_11 rfl 3 rfl ?_
    refine T_callVV (As := [.ref a2]) (rest := []) (b := a13) (ci := 2) dX7_keep_12 mc_X2_copy mi_X2_copy ml_RX7_26 rfl (fun _ hr => chk_of hr) rfl rfl (Nat.le_of_ble_eq_true rfl) ⟨⟨Nat.le_of_ble_eq_true rfl, Nat.le_of_ble_eq_true rfl⟩, ⟨Nat.le_of_ble_eq_true rfl, Nat.le_of_ble_eq_true rfl⟩⟩ K_X2_copy h (fun s14 h => ?_)
    exact T_vreturn dX7_keep_15 (Nat.le_of_ble_eq_true rfl) (Nat.le_of_ble_eq_true rfl) h
