def D_X0_limitForAll_w78 (a34 : Nat) (i35 : Int32) (i36 : Int32) (k104 : Int32 → Hp → Option (Int32 × Hp)) : Nat → Int32 → Int32 → Hp → Option (Int32 × Hp)
  | 0, _, _, _ => none
  | n40 + 1, i37, i38, s39 =>
  if (4 : Int32) ≤ i38 then
  k104 i37 s39
  else
  (getR s39 a34 0 2).bind fun a41 =>
  bd (D_X4_held a41 i38 s39) fun i42 s43 =>
  nm (if i37 < i42 then i42 else i37) fun i44 =>
  D_X0_limitForAll_w78 a34 i35 i36 k104 n40 i44 (i38 + 1) s43
def D_X0_limitForAll_w46 (a22 : Nat) (i23 : Int32) (k110 : Int32 → Hp → Option (Int32 × Hp)) : Nat → Int32 → Int32 → Hp → Option (Int32 × Hp)
  | 0, _, _, _ => none
  | n27 + 1, i24, i25, s26 =>
  if (11 : Int32) ≤ i25 then
  k110 i24 s26
  else
  (getR s26 a22 0 2).bind fun a28 =>
  bd (D_X4_work a28 i25 s26) fun i29 s30 =>
  (getR s30 a22 0 2).bind fun a31 =>
  bd (D_X4_used a31 s30) fun i32 s33 =>
  if i32 = i23 then
  D_X0_limitForAll_w78 a22 i23 i25 (fun i48 s47 =>
  D_X0_limitForAll_w46 a22 i23 k110 n27 i48 (i25 + 1) s47
  ) FU i24 (0 : Int32) s33
  else
  some ((-6 : Int32), s33)
def D_X0_limitForAll (a0 : Nat) (s0 : Hp) : Option (Int32 × Hp) :=
  (isO s0 a0 0).bind fun _ =>
  (getR s0 a0 0 1).bind fun a11 =>
  (getR s0 a0 0 0).bind fun a12 =>
  (D_X2_copy a11 a12 s0).bind fun s13 =>
  (getR s13 a0 0 1).bind fun a14 =>
  bd (D_X2_changeSetting a14 (0 : Int32) (9999 : Int32) s13) fun i15 s16 =>
  (getR s16 a0 0 2).bind fun a17 =>
  (D_X4_look a17 s16).bind fun s18 =>
  (getR s18 a0 0 1).bind fun a19 =>
  (getI s18 a19 2 6).bind fun i20 =>
  nm (((1 : Int32) <<< (i20 &&& 31)) - (1 : Int32)) fun i21 =>
  D_X0_limitForAll_w46 a0 i21 (fun i52 s51 =>
  some (i52, s51)
  ) FU (1 : Int32) (0 : Int32) s18
set_option maxRecDepth 100000 in
set_option maxHeartbeats 4000000 in
theorem K_X0_limitForAll_w78 {l : Launch} {G : smG} {P : Option Value → Hp → Prop} {a34 : Nat} {i35 : Int32} {i36 : Int32} {k104 : Int32 → Hp → Option (Int32 × Hp)} (hk104 : ∀ (i45 : Int32) (s46 : Hp), OK jI (k104 i45 s46) P → T l G RX0 cX0_limitForAll 5 (sm_rm 4 0 0) (sm_E (some .int) yX0_limitForAll.name) (sm_Qs G P 0 0) 0 0 104 [(0, .ref a34), (1, .int i35), (2, .int i45), (3, .int i36)] [] s46) : ∀ (n : Nat) (i37 : Int32) (i38 : Int32) (s39 : Hp), OK jI (D_X0_limitForAll_w78 a34 i35 i36 k104 n i37 i38 s39) P → T l G RX0 cX0_limitForAll 5 (sm_rm 4 0 0) (sm_E (some .int) yX0_limitForAll.name) (sm_Qs G P 0 0) 0 0 78 [(0, .ref a34), (1, .int i35), (2, .int i37), (3, .int i36), (4, .int i38)] [] s39 := by
  intro n
  induction n with
  | zero => intro i37 i38 s39 h; obtain ⟨_, h0, _⟩ := h; exact absurd h0 (by simp [D_X0_limitForAll_w78])
  | succ n40 ih =>
    intro i37 i38 s39 h
    unfold D_X0_limitForAll_w78 at h
    refine T_iload dX0_limitForAll_78 4 rfl ?_
    refine T_iconst (4 : Int32) dX0_limitForAll_80 (by decide) ?_
    refine T_icmp_ge 104 dX0_limitForAll_81 (by decide) h (fun _ h => ?_) (fun _ h => ?_)
    · refine T_lv (lv' := [(0, .ref a34), (1, .int i35), (2, .int i37), (3, .int i36)]) [0, 1, 2, 3] rfl ?_
      exact hk104 i37 s39 h
    · refine T_iload_n dX0_limitForAll_84 rfl 2 rfl ?_
      refine T_aload_n dX0_limitForAll_85 rfl 0 rfl ?_
      refine T_getR dX0_limitForAll_86 fl_RX0_23 h (fun a41 h => ?_)
      refine T_iload dX0_limitForAll_89 4 rfl ?_
      refine T_callVI (As := [.int i38]) (rest := [.int i37]) (b := a41) (ci := 4) dX0_limitForAll_91 mc_X4_held mi_X4_held ml_RX0_81 rfl (fun _ hr => chk_of hr) rfl rfl (Nat.le_of_ble_eq_true rfl) ⟨⟨Nat.le_of_ble_eq_true rfl, Nat.le_of_ble_eq_true rfl⟩, ⟨Nat.le_of_ble_eq_true rfl, Nat.le_of_ble_eq_true rfl⟩⟩ K_X4_held h (fun i42 s43 h => ?_)
      refine T_mmax dX0_limitForAll_94 ml_RX0_84 wd_3_12 wd_3_13 wd_3_14 ⟨Nat.le_of_ble_eq_true rfl, Nat.le_of_ble_eq_true rfl, Nat.le_of_ble_eq_true rfl, Nat.le_of_ble_eq_true rfl⟩ ?_
      refine T_nm h (fun i44 h => ?_)
      refine T_istore_n (lv' := [(2, .int i44), (0, .ref a34), (1, .int i35), (3, .int i36), (4, .int i38)]) dX0_limitForAll_97 rfl (by decide) rfl ?_
      refine T_iinc (i38 + 1) (lv' := [(4, .int (i38 + 1)), (2, .int i44), (0, .ref a34), (1, .int i35), (3, .int i36)]) dX0_limitForAll_98 (j := 4) rfl rfl (by decide) rfl ?_
      refine T_goto 78 dX0_limitForAll_101 (by decide) ?_
      refine T_lv (lv' := [(0, .ref a34), (1, .int i35), (2, .int i44), (3, .int i36), (4, .int (i38 + 1))]) [2, 3, 1, 4, 0] rfl ?_
      exact ih i44 (i38 + 1) s43 h
set_option maxRecDepth 100000 in
set_option maxHeartbeats 4000000 in
theorem K_X0_limitForAll_w46 {l : Launch} {G : smG} {P : Option Value → Hp → Prop} {a22 : Nat} {i23 : Int32} {k110 : Int32 → Hp → Option (Int32 × Hp)} (hk110 : ∀ (i49 : Int32) (s50 : Hp), OK jI (k110 i49 s50) P → T l G RX0 cX0_limitForAll 5 (sm_rm 4 0 0) (sm_E (some .int) yX0_limitForAll.name) (sm_Qs G P 0 0) 0 0 110 [(2, .int i49)] [] s50) : ∀ (n : Nat) (i24 : Int32) (i25 : Int32) (s26 : Hp), OK jI (D_X0_limitForAll_w46 a22 i23 k110 n i24 i25 s26) P → T l G RX0 cX0_limitForAll 5 (sm_rm 4 0 0) (sm_E (some .int) yX0_limitForAll.name) (sm_Qs G P 0 0) 0 0 46 [(0, .ref a22), (1, .int i23), (2, .int i24), (3, .int i25)] [] s26 := by
  intro n
  induction n with
  | zero => intro i24 i25 s26 h; obtain ⟨_, h0, _⟩ := h; exact absurd h0 (by simp [D_X0_limitForAll_w46])
  | succ n27 ih =>
    intro i24 i25 s26 h
    unfold D_X0_limitForAll_w46 at h
    refine T_iload_n dX0_limitForAll_46 rfl 3 rfl ?_
    refine T_bipush (11 : Int32) dX0_limitForAll_47 (by decide) ?_
    refine T_icmp_ge 110 dX0_limitForAll_49 (by decide) h (fun _ h => ?_) (fun _ h => ?_)
    · refine T_lv (lv' := [(2, .int i24)]) [2] rfl ?_
      exact hk110 i24 s26 h
    · refine T_aload_n dX0_limitForAll_52 rfl 0 rfl ?_
      refine T_getR dX0_limitForAll_53 fl_RX0_23 h (fun a28 h => ?_)
      refine T_iload_n dX0_limitForAll_56 rfl 3 rfl ?_
      refine T_callVI (As := [.int i25]) (rest := []) (b := a28) (ci := 4) dX0_limitForAll_57 mc_X4_work mi_X4_work ml_RX0_74 rfl (fun _ hr => chk_of hr) rfl rfl (Nat.le_of_ble_eq_true rfl) ⟨⟨Nat.le_of_ble_eq_true rfl, Nat.le_of_ble_eq_true rfl⟩, ⟨Nat.le_of_ble_eq_true rfl, Nat.le_of_ble_eq_true rfl⟩⟩ K_X4_work h (fun i29 s30 h => ?_)
      refine T_pop dX0_limitForAll_60 rfl ?_
      refine T_aload_n dX0_limitForAll_61 rfl 0 rfl ?_
      refine T_getR dX0_limitForAll_62 fl_RX0_23 h (fun a31 h => ?_)
      refine T_callVI (As := []) (rest := []) (b := a31) (ci := 4) dX0_limitForAll_65 mc_X4_used mi_X4_used ml_RX0_77 rfl (fun _ hr => chk_of hr) rfl rfl (Nat.le_of_ble_eq_true rfl) ⟨⟨Nat.le_of_ble_eq_true rfl, Nat.le_of_ble_eq_true rfl⟩, ⟨Nat.le_of_ble_eq_true rfl, Nat.le_of_ble_eq_true rfl⟩⟩ K_X4_used h (fun i32 s33 h => ?_)
      refine T_iload_n dX0_limitForAll_68 rfl 1 rfl ?_
      refine T_icmp_eq 75 dX0_limitForAll_69 (by decide) h (fun _ h => ?_) (fun _ h => ?_)
      · refine T_iconst (0 : Int32) dX0_limitForAll_75 (by decide) ?_
        refine T_istore (lv' := [(4, .int (0 : Int32)), (0, .ref a22), (1, .int i23), (2, .int i24), (3, .int i25)]) dX0_limitForAll_76 (by decide) rfl ?_
        refine T_lv (lv' := [(0, .ref a22), (1, .int i23), (2, .int i24), (3, .int i25), (4, .int (0 : Int32))]) [1, 2, 3, 4, 0] rfl ?_
        refine K_X0_limitForAll_w78 ?_ FU i24 (0 : Int32) s33 h
        intro i48 s47 h
        refine T_iinc (i25 + 1) (lv' := [(3, .int (i25 + 1)), (0, .ref a22), (1, .int i23), (2, .int i48)]) dX0_limitForAll_104 (j := 3) rfl rfl (by decide) rfl ?_
        refine T_goto 46 dX0_limitForAll_107 (by decide) ?_
        refine T_lv (lv' := [(0, .ref a22), (1, .int i23), (2, .int i48), (3, .int (i25 + 1))]) [1, 2, 3, 0] rfl ?_
        exact ih i48 (i25 + 1) s47 h
      · refine T_bipush (-6 : Int32) dX0_limitForAll_72 (by decide) ?_
        exact T_ireturn dX0_limitForAll_74 (Nat.le_of_ble_eq_true rfl) (Nat.le_of_ble_eq_true rfl) h
set_option maxRecDepth 100000 in
set_option maxHeartbeats 4000000 in
theorem K_X0_limitForAll {l : Launch} {a0 : Nat} {s0 : Hp} : ∀ P, OK jI (D_X0_limitForAll a0 s0) P → sm_Ct l yX0_limitForAll cX0_limitForAll 5 (some .int) 4 0 0 [.ref a0] s0 P := by
  intro P h
  unfold D_X0_limitForAll at h
  obtain ⟨_, hb0, h⟩ := h.bind
  refine sm_enter (own := RX0) (lv := [(0, .ref a0)]) (by decide) rfl (Nat.le_of_ble_eq_true rfl) rfl (fun G => ?_)
  refine T_aload_n dX0_limitForAll_0 rfl 0 rfl ?_
  refine T_getR dX0_limitForAll_1 fl_RX0_12 h (fun a11 h => ?_)
  refine T_aload_n dX0_limitForAll_4 rfl 0 rfl ?_
  refine T_getR dX0_limitForAll_5 fl_RX0_34 h (fun a12 h => ?_)
  refine T_callVV (As := [.ref a12]) (rest := []) (b := a11) (ci := 2) dX0_limitForAll_8 mc_X2_copy mi_X2_copy ml_RX0_43 rfl (fun _ hr => chk_of hr) rfl rfl (Nat.le_of_ble_eq_true rfl) ⟨⟨Nat.le_of_ble_eq_true rfl, Nat.le_of_ble_eq_true rfl⟩, ⟨Nat.le_of_ble_eq_true rfl, Nat.le_of_ble_eq_true rfl⟩⟩ K_X2_copy h (fun s13 h => ?_)
  refine T_aload_n dX0_limitForAll_11 rfl 0 rfl ?_
  refine T_getR dX0_limitForAll_12 fl_RX0_12 h (fun a14 h => ?_)
  refine T_iconst (0 : Int32) dX0_limitForAll_15 (by decide) ?_
  refine T_sipush (9999 : Int32) dX0_limitForAll_16 (by decide) ?_
  refine T_callVI (As := [.int (0 : Int32), .int (9999 : Int32)]) (rest := []) (b := a14) (ci := 2) dX0_limitForAll_19 mc_X2_changeSetting mi_X2_changeSetting ml_RX0_68 rfl (fun _ hr => chk_of hr) rfl rfl (Nat.le_of_ble_eq_true rfl) ⟨⟨Nat.le_of_ble_eq_true rfl, Nat.le_of_ble_eq_true rfl⟩, ⟨Nat.le_of_ble_eq_true rfl, Nat.le_of_ble_eq_true rfl⟩⟩ K_X2_changeSetting h (fun i15 s16 h => ?_)
  refine T_pop dX0_limitForAll_22 rfl ?_
  refine T_aload_n dX0_limitForAll_23 rfl 0 rfl ?_
  refine T_getR dX0_limitForAll_24 fl_RX0_23 h (fun a17 h => ?_)
  refine T_callVV (As := []) (rest := []) (b := a17) (ci := 4) dX0_limitForAll_27 mc_X4_look mi_X4_look ml_RX0_71 rfl (fun _ hr => chk_of hr) rfl rfl (Nat.le_of_ble_eq_true rfl) ⟨⟨Nat.le_of_ble_eq_true rfl, Nat.le_of_ble_eq_true rfl⟩, ⟨Nat.le_of_ble_eq_true rfl, Nat.le_of_ble_eq_true rfl⟩⟩ K_X4_look h (fun s18 h => ?_)
  refine T_iconst (1 : Int32) dX0_limitForAll_30 (by decide) ?_
  refine T_aload_n dX0_limitForAll_31 rfl 0 rfl ?_
  refine T_getR dX0_limitForAll_32 fl_RX0_12 h (fun a19 h => ?_)
  refine T_getI dX0_limitForAll_35 fl_RX0_40 h (fun i20 h => ?_)
  refine T_ishl dX0_limitForAll_38 ?_
  refine T_iconst (1 : Int32) dX0_limitForAll_39 (by decide) ?_
  refine T_isub dX0_limitForAll_40 ?_
  refine T_nm h (fun i21 h => ?_)
  refine T_istore_n (lv' := [(1, .int i21), (0, .ref a0)]) dX0_limitForAll_41 rfl (by decide) rfl ?_
  refine T_iconst (1 : Int32) dX0_limitForAll_42 (by decide) ?_
  refine T_istore_n (lv' := [(2, .int (1 : Int32)), (1, .int i21), (0, .ref a0)]) dX0_limitForAll_43 rfl (by decide) rfl ?_
  refine T_iconst (0 : Int32) dX0_limitForAll_44 (by decide) ?_
  refine T_istore_n (lv' := [(3, .int (0 : Int32)), (2, .int (1 : Int32)), (1, .int i21), (0, .ref a0)]) dX0_limitForAll_45 rfl (by decide) rfl ?_
  refine T_lv (lv' := [(0, .ref a0), (1, .int i21), (2, .int (1 : Int32)), (3, .int (0 : Int32))]) [3, 2, 1, 0] rfl ?_
  refine K_X0_limitForAll_w46 ?_ FU (1 : Int32) (0 : Int32) s18 h
  intro i52 s51 h
  refine T_iload_n dX0_limitForAll_110 rfl 0 rfl ?_
  exact T_ireturn dX0_limitForAll_111 (Nat.le_of_ble_eq_true rfl) (Nat.le_of_ble_eq_true rfl) h

def D_X3_init (a0 : Nat) (s0 : Hp) : Option Hp :=
  (isO s0 a0 3).bind fun _ =>
  nm (newO s0 7 [.null]) fun s11 =>
  (D_X7_init s0.1 (7 : Int32) s11).bind fun s12 =>
  (putV s12 a0 3 0 (.ref s0.1)).bind fun s13 =>
  (putI s13 a0 3 1 (0 : Int32)).bind fun s14 =>
  (putI s14 a0 3 2 (0 : Int32)).bind fun s15 =>
  some s15
set_option maxRecDepth 100000 in
set_option maxHeartbeats 4000000 in
theorem K_X3_init {l : Launch} {a0 : Nat} {s0 : Hp} : ∀ P, OK jV (D_X3_init a0 s0) P → sm_Ct l yX3_init cX3_init 1 none 4 106 39329 [.ref a0] s0 P := by
  intro P h
  unfold D_X3_init at h
  obtain ⟨_, hb0, h⟩ := h.bind
  refine sm_enter (own := RX3) (lv := [(0, .ref a0)]) (by decide) rfl (Nat.le_of_ble_eq_true rfl) rfl (fun G => ?_)
  refine T_aload_n dX3_init_0 rfl 0 rfl ?_
  refine T_objInit dX3_init_1 ml_RX3_3 wd_1_7 wd_1_8 ⟨Nat.le_of_ble_eq_true rfl, Nat.le_of_ble_eq_true rfl⟩ ?_
  refine T_aload_n dX3_init_4 rfl 0 rfl ?_
  refine T_newO (C := RX7) (ci := 7) (fs := [.null]) dX3_init_5 wd_6_0 wd_2_10 wd_2_11 ⟨TX7, tyX7, rfl, inlX7, tyX7_ok, by decide +kernel⟩ (Nat.le_of_ble_eq_true rfl) (Nat.le_of_ble_eq_true rfl) ?_
  refine T_nh h (fun s11 h => ?_)
  refine T_dup dX3_init_8 rfl ?_
  refine T_bipush (7 : Int32) dX3_init_9 (by decide) ?_
  refine T_callIV (As := [.int (7 : Int32)]) (rest := [.ref s0.1, .ref a0]) (b := s0.1) dX3_init_11 mc_X7_init mi_X7_init ml_RX3_13 rfl rfl (Nat.le_of_ble_eq_true rfl) ⟨⟨Nat.le_of_ble_eq_true rfl, Nat.le_of_ble_eq_true rfl⟩, ⟨Nat.le_of_ble_eq_true rfl, Nat.le_of_ble_eq_true rfl⟩⟩ K_X7_init h (fun s12 h => ?_)
  refine T_putF (rt := none) rfl dX3_init_14 fl_RX3_16 ft_3_0 rfl rfl rfl h (fun s13 h => ?_)
  refine T_aload_n dX3_init_17 rfl 0 rfl ?_
  refine T_iconst (0 : Int32) dX3_init_18 (by decide) ?_
  refine T_putI dX3_init_19 fl_RX3_20 ft_3_1 h (fun s14 h => ?_)
  refine T_aload_n dX3_init_22 rfl 0 rfl ?_
  refine T_iconst (0 : Int32) dX3_init_23 (by decide) ?_
  refine T_putI dX3_init_24 fl_RX3_24 ft_3_2 h (fun s15 h => ?_)
  exact T_vreturn dX3_init_27 (Nat.le_of_ble_eq_true rfl) (Nat.le_of_ble_eq_true rfl) h

def D_X3_note (a0 : Nat) (a1 : Nat) (s0 : Hp) : Option Hp :=
  (isO s0 a0 3).bind fun _ =>
  (getR s0 a0 3 0).bind fun a11 =>
  (getI s0 a0 3 1).bind fun i12 =>
  (D_X7_keep a11 i12 a1 s0).bind fun s13 =>
  some s13
set_option maxRecDepth 100000 in
set_option maxHeartbeats 4000000 in
theorem K_X3_note {l : Launch} {a0 : Nat} {a1 : Nat} {s0 : Hp} : ∀ P, OK jV (D_X3_note a0 a1 s0) P → sm_Ct l yX3_note cX3_note 2 none 4 0 0 [.ref a0, .ref a1] s0 P := by
  intro P h
  unfold D_X3_note at h
  obtain ⟨_, hb0, h⟩ := h.bind
  refine sm_enter (own := RX3) (lv := [(0, .ref a0), (1, .ref a1)]) (by decide) rfl (Nat.le_of_ble_eq_true rfl) rfl (fun G => ?_)
  refine T_aload_n dX3_note_0 rfl 0 rfl ?_
  refine T_getR dX3_note_1 fl_RX3_16 h (fun a11 h => ?_)
  refine T_aload_n dX3_note_4 rfl 0 rfl ?_
  refine T_getI dX3_note_5 fl_RX3_20 h (fun i12 h => ?_)
  refine T_aload_n dX3_note_8 rfl 1 rfl ?_
  refine T_callVV (As := [.int i12, .ref a1]) (rest := []) (b := a11) (ci := 7) dX3_note_9 mc_X7_keep mi_X7_keep ml_RX3_27 rfl (fun _ hr => chk_of hr) rfl rfl (Nat.le_of_ble_eq_true rfl) ⟨⟨Nat.le_of_ble_eq_true rfl, Nat.le_of_ble_eq_true rfl⟩, ⟨Nat.le_of_ble_eq_true rfl, Nat.le_of_ble_eq_true rfl⟩⟩ K_X7_keep h (fun s13 h => ?_)
  exact T_vreturn dX3_note_12 (Nat.le_of_ble_eq_true rfl) (Nat.le_of_ble_eq_true rfl) h

def D_X3_stepBack (a0 : Nat) (a1 : Nat) (s0 : Hp) : Option (Int32 × Hp) :=
  (isO s0 a0 3).bind fun _ =>
  (getI s0 a0 3 2).bind fun i11 =>
  if i11 = 0 then
  retZ (0 : Int32) ((0 : Int32), s0)
  else
  (getI s0 a0 3 1).bind fun i12 =>
  (remI ((i12 + (7 : Int32)) - (1 : Int32)) (7 : Int32)).bind fun i13 =>
  (putI s0 a0 3 1 i13).bind fun s14 =>
  (getI s14 a0 3 2).bind fun i15 =>
  (putI s14 a0 3 2 (i15 - (1 : Int32))).bind fun s16 =>
  (getR s16 a0 3 0).bind fun a17 =>
  (getI s16 a0 3 1).bind fun i18 =>
  (D_X7_bringBack a17 i18 a1 s16).bind fun s19 =>
  retZ (1 : Int32) ((1 : Int32), s19)
set_option maxRecDepth 100000 in
set_option maxHeartbeats 4000000 in
theorem K_X3_stepBack {l : Launch} {a0 : Nat} {a1 : Nat} {s0 : Hp} : ∀ P, OK jI (D_X3_stepBack a0 a1 s0) P → sm_Ct l yX3_stepBack cX3_stepBack 2 (some .boolean) 4 0 0 [.ref a0, .ref a1] s0 P := by
  intro P h
  unfold D_X3_stepBack at h
  obtain ⟨_, hb0, h⟩ := h.bind
  refine sm_enter (own := RX3) (lv := [(0, .ref a0), (1, .ref a1)]) (by decide) rfl (Nat.le_of_ble_eq_true rfl) rfl (fun G => ?_)
  refine T_aload_n dX3_stepBack_0 rfl 0 rfl ?_
  refine T_getI dX3_stepBack_1 fl_RX3_24 h (fun i11 h => ?_)
  refine T_if_ne 9 dX3_stepBack_4 (by decide) h (fun _ h => ?_) (fun _ h => ?_)
  · refine T_aload_n dX3_stepBack_9 rfl 0 rfl ?_
    refine T_aload_n dX3_stepBack_10 rfl 0 rfl ?_
    refine T_getI dX3_stepBack_11 fl_RX3_20 h (fun i12 h => ?_)
    refine T_bipush (7 : Int32) dX3_stepBack_14 (by decide) ?_
    refine T_iadd dX3_stepBack_16 ?_
    refine T_iconst (1 : Int32) dX3_stepBack_17 (by decide) ?_
    refine T_isub dX3_stepBack_18 ?_
    refine T_bipush (7 : Int32) dX3_stepBack_19 (by decide) ?_
    refine T_irem dX3_stepBack_21 h (fun i13 h => ?_)
    refine T_putI dX3_stepBack_22 fl_RX3_20 ft_3_1 h (fun s14 h => ?_)
    refine T_aload_n dX3_stepBack_25 rfl 0 rfl ?_
    refine T_dup dX3_stepBack_26 rfl ?_
    refine T_getI dX3_stepBack_27 fl_RX3_24 h (fun i15 h => ?_)
    refine T_iconst (1 : Int32) dX3_stepBack_30 (by decide) ?_
    refine T_isub dX3_stepBack_31 ?_
    refine T_putI dX3_stepBack_32 fl_RX3_24 ft_3_2 h (fun s16 h => ?_)
    refine T_aload_n dX3_stepBack_35 rfl 0 rfl ?_
    refine T_getR dX3_stepBack_36 fl_RX3_16 h (fun a17 h => ?_)
    refine T_aload_n dX3_stepBack_39 rfl 0 rfl ?_
    refine T_getI dX3_stepBack_40 fl_RX3_20 h (fun i18 h => ?_)
    refine T_aload_n dX3_stepBack_43 rfl 1 rfl ?_
    refine T_callVV (As := [.int i18, .ref a1]) (rest := []) (b := a17) (ci := 7) dX3_stepBack_44 mc_X7_bringBack mi_X7_bringBack ml_RX3_37 rfl (fun _ hr => chk_of hr) rfl rfl (Nat.le_of_ble_eq_true rfl) ⟨⟨Nat.le_of_ble_eq_true rfl, Nat.le_of_ble_eq_true rfl⟩, ⟨Nat.le_of_ble_eq_true rfl, Nat.le_of_ble_eq_true rfl⟩⟩ K_X7_bringBack h (fun s19 h => ?_)
    refine T_iconst (1 : Int32) dX3_stepBack_47 (by decide) ?_
    exact T_zreturn dX3_stepBack_48 (Nat.le_of_ble_eq_true rfl) (Nat.le_of_ble_eq_true rfl) h
  · refine T_iconst (0 : Int32) dX3_stepBack_7 (by decide) ?_
    exact T_zreturn dX3_stepBack_8 (Nat.le_of_ble_eq_true rfl) (Nat.le_of_ble_eq_true rfl) h

def D_X4_day_w4 (a11 : Nat) (k24 : Int32 → Hp → Option (Int32 × Hp)) : Nat → Int32 → Int32 → Hp → Option (Int32 × Hp)
  | 0, _, _, _ => none
  | n15 + 1, i12, i13, s14 =>
  if (11 : Int32) ≤ i13 then
  k24 i12 s14
  else
  bd (D_X4_work a11 i13 s14) fun i16 s17 =>
  nm (i12 + i16) fun i18 =>
  D_X4_day_w4 a11 k24 n15 i18 (i13 + 1) s17
def D_X4_day (a0 : Nat) (s0 : Hp) : Option (Int32 × Hp) :=
  (isO s0 a0 4).bind fun _ =>
  D_X4_day_w4 a0 (fun i22 s21 =>
  some (i22, s21)
  ) FU (0 : Int32) (0 : Int32) s0
set_option maxRecDepth 100000 in
set_option maxHeartbeats 4000000 in
theorem K_X4_day_w4 {l : Launch} {G : smG} {P : Option Value → Hp → Prop} {a11 : Nat} {k24 : Int32 → Hp → Option (Int32 × Hp)} (hk24 : ∀ (i19 : Int32) (s20 : Hp), OK jI (k24 i19 s20) P → T l G RX4 cX4_day 3 (sm_rm 4 0 0) (sm_E (some .int) yX4_day.name) (sm_Qs G P 0 0) 0 0 24 [(1, .int i19)] [] s20) : ∀ (n : Nat) (i12 : Int32) (i13 : Int32) (s14 : Hp), OK jI (D_X4_day_w4 a11 k24 n i12 i13 s14) P → T l G RX4 cX4_day 3 (sm_rm 4 0 0) (sm_E (some .int) yX4_day.name) (sm_Qs G P 0 0) 0 0 4 [(0, .ref a11), (1, .int i12), (2, .int i13)] [] s14 := by
  intro n
  induction n with
  | zero => intro i12 i13 s14 h; obtain ⟨_, h0, _⟩ := h; exact absurd h0 (by simp [D_X4_day_w4])
  | succ n15 ih =>
    intro i12 i13 s14 h
    unfold D_X4_day_w4 at h
    refine T_iload_n dX4_day_4 rfl 2 rfl ?_
    refine T_bipush (11 : Int32) dX4_day_5 (by decide) ?_
    refine T_icmp_ge 24 dX4_day_7 (by decide) h (fun _ h => ?_) (fun _ h => ?_)
    · refine T_lv (lv' := [(1, .int i12)]) [1] rfl ?_
      exact hk24 i12 s14 h
    · refine T_iload_n dX4_day_10 rfl 1 rfl ?_
      refine T_aload_n dX4_day_11 rfl 0 rfl ?_
      refine T_iload_n dX4_day_12 rfl 2 rfl ?_
      refine T_callVI (As := [.int i13]) (rest := [.int i12]) (b := a11) (ci := 4) dX4_day_13 mc_X4_work mi_X4_work ml_RX4_115 rfl (fun _ hr => chk_of hr) rfl rfl (Nat.le_of_ble_eq_true rfl) ⟨⟨Nat.le_of_ble_eq_true rfl, Nat.le_of_ble_eq_true rfl⟩, ⟨Nat.le_of_ble_eq_true rfl, Nat.le_of_ble_eq_true rfl⟩⟩ K_X4_work h (fun i16 s17 h => ?_)
      refine T_iadd dX4_day_16 ?_
      refine T_nm h (fun i18 h => ?_)
      refine T_istore_n (lv' := [(1, .int i18), (0, .ref a11), (2, .int i13)]) dX4_day_17 rfl (by decide) rfl ?_
      refine T_iinc (i13 + 1) (lv' := [(2, .int (i13 + 1)), (1, .int i18), (0, .ref a11)]) dX4_day_18 (j := 2) rfl rfl (by decide) rfl ?_
      refine T_goto 4 dX4_day_21 (by decide) ?_
      refine T_lv (lv' := [(0, .ref a11), (1, .int i18), (2, .int (i13 + 1))]) [2, 1, 0] rfl ?_
      exact ih i18 (i13 + 1) s17 h
set_option maxRecDepth 100000 in
set_option maxHeartbeats 4000000 in
theorem K_X4_day {l : Launch} {a0 : Nat} {s0 : Hp} : ∀ P, OK jI (D_X4_day a0 s0) P → sm_Ct l yX4_day cX4_day 3 (some .int) 4 0 0 [.ref a0] s0 P := by
  intro P h
  unfold D_X4_day at h
  obtain ⟨_, hb0, h⟩ := h.bind
  refine sm_enter (own := RX4) (lv := [(0, .ref a0)]) (by decide) rfl (Nat.le_of_ble_eq_true rfl) rfl (fun G => ?_)
  refine T_iconst (0 : Int32) dX4_day_0 (by decide) ?_
  refine T_istore_n (lv' := [(1, .int (0 : Int32)), (0, .ref a0)]) dX4_day_1 rfl (by decide) rfl ?_
  refine T_iconst (0 : Int32) dX4_day_2 (by decide) ?_
  refine T_istore_n (lv' := [(2, .int (0 : Int32)), (1, .int (0 : Int32)), (0, .ref a0)]) dX4_day_3 rfl (by decide) rfl ?_
  refine T_lv (lv' := [(0, .ref a0), (1, .int (0 : Int32)), (2, .int (0 : Int32))]) [2, 1, 0] rfl ?_
  refine K_X4_day_w4 ?_ FU (0 : Int32) (0 : Int32) s0 h
  intro i22 s21 h
  refine T_iload_n dX4_day_24 rfl 0 rfl ?_
  exact T_ireturn dX4_day_25 (Nat.le_of_ble_eq_true rfl) (Nat.le_of_ble_eq_true rfl) h

def D_X4_spend_w51 (a20 : Nat) (i21 : Int32) (i22 : Int32) (i23 : Int32) (k79 : Int32 → Hp → Option (Int32 × Hp)) : Nat → Int32 → Int32 → Hp → Option (Int32 × Hp)
  | 0, _, _, _ => none
  | n27 + 1, i24, i25, s26 =>
  if (11 : Int32) ≤ i25 then
  k79 i24 s26
  else
  bd (D_X4_work a20 i25 s26) fun i28 s29 =>
  nm (i24 + i28) fun i30 =>
  (D_X4_creditUsed a20 s29).bind fun s31 =>
  D_X4_spend_w51 a20 i21 i22 i23 k79 n27 i30 (i25 + 1) s31
def D_X4_spend_w40 (a14 : Nat) (i15 : Int32) (k99 : Int32 → Hp → Option (Int32 × Hp)) : Nat → Int32 → Int32 → Hp → Option (Int32 × Hp)
  | 0, _, _, _ => none
  | n19 + 1, i16, i17, s18 =>
  if i15 ≤ i17 then
  k99 i16 s18
  else
  D_X4_spend_w51 a14 i15 i16 i17 (fun i35 s34 =>
  (getR s34 a14 4 0).bind fun a36 =>
  (D_X2_endDay a36 i35 s34).bind fun s37 =>
  nm (i16 + i35) fun i38 =>
  D_X4_spend_w40 a14 i15 k99 n19 i38 (i17 + 1) s37
  ) FU (0 : Int32) (0 : Int32) s18
def D_X4_spend (a0 : Nat) (i1 : Int32) (s0 : Hp) : Option (Int32 × Hp) :=
  (isO s0 a0 4).bind fun _ =>
  if i1 < (1 : Int32) then
  some ((-2 : Int32), s0)
  else
  if i1 ≤ (99 : Int32) then
  (getR s0 a0 4 0).bind fun a11 =>
  (getI s0 a11 2 8).bind fun i12 =>
  if (i12 + i1) ≤ (999 : Int32) then
  (D_X4_look a0 s0).bind fun s13 =>
  D_X4_spend_w40 a0 i1 (fun i42 s41 =>
  some (i42, s41)
  ) FU (0 : Int32) (0 : Int32) s13
  else
  some ((-5 : Int32), s0)
  else
  some ((-2 : Int32), s0)
set_option maxRecDepth 100000 in
set_option maxHeartbeats 4000000 in
theorem K_X4_spend_w51 {l : Launch} {G : smG} {P : Option Value → Hp → Prop} {a20 : Nat} {i21 : Int32} {i22 : Int32} {i23 : Int32} {k79 : Int32 → Hp → Option (Int32 × Hp)} (hk79 : ∀ (i32 : Int32) (s33 : Hp), OK jI (k79 i32 s33) P → T l G RX4 cX4_spend 6 (sm_rm 4 0 0) (sm_E (some .int) yX4_spend.name) (sm_Qs G P 0 0) 0 0 79 [(0, .ref a20), (1, .int i21), (2, .int i22), (3, .int i23), (4, .int i32)] [] s33) : ∀ (n : Nat) (i24 : Int32) (i25 : Int32) (s26 : Hp), OK jI (D_X4_spend_w51 a20 i21 i22 i23 k79 n i24 i25 s26) P → T l G RX4 cX4_spend 6 (sm_rm 4 0 0) (sm_E (some .int) yX4_spend.name) (sm_Qs G P 0 0) 0 0 51 [(0, .ref a20), (1, .int i21), (2, .int i22), (3, .int i23), (4, .int i24), (5, .int i25)] [] s26 := by
  intro n
  induction n with
  | zero => intro i24 i25 s26 h; obtain ⟨_, h0, _⟩ := h; exact absurd h0 (by simp [D_X4_spend_w51])
  | succ n27 ih =>
    intro i24 i25 s26 h
    unfold D_X4_spend_w51 at h
    refine T_iload dX4_spend_51 5 rfl ?_
    refine T_bipush (11 : Int32) dX4_spend_53 (by decide) ?_
    refine T_icmp_ge 79 dX4_spend_55 (by decide) h (fun _ h => ?_) (fun _ h => ?_)
    · refine T_lv (lv' := [(0, .ref a20), (1, .int i21), (2, .int i22), (3, .int i23), (4, .int i24)]) [0, 1, 2, 3, 4] rfl ?_
      exact hk79 i24 s26 h
    · refine T_iload dX4_spend_58 4 rfl ?_
      refine T_aload_n dX4_spend_60 rfl 0 rfl ?_
      refine T_iload dX4_spend_61 5 rfl ?_
      refine T_callVI (As := [.int i25]) (rest := [.int i24]) (b := a20) (ci := 4) dX4_spend_63 mc_X4_work mi_X4_work ml_RX4_115 rfl (fun _ hr => chk_of hr) rfl rfl (Nat.le_of_ble_eq_true rfl) ⟨⟨Nat.le_of_ble_eq_true rfl, Nat.le_of_ble_eq_true rfl⟩, ⟨Nat.le_of_ble_eq_true rfl, Nat.le_of_ble_eq_true rfl⟩⟩ K_X4_work h (fun i28 s29 h => ?_)
      refine T_iadd dX4_spend_66 ?_
      refine T_nm h (fun i30 h => ?_)
      refine T_istore (lv' := [(4, .int i30), (0, .ref a20), (1, .int i21), (2, .int i22), (3, .int i23), (5, .int i25)]) dX4_spend_67 (by decide) rfl ?_
      refine T_aload_n dX4_spend_69 rfl 1 rfl ?_
      refine T_callVV (As := []) (rest := []) (b := a20) (ci := 4) dX4_spend_70 mc_X4_creditUsed mi_X4_creditUsed ml_RX4_124 rfl (fun _ hr => chk_of hr) rfl rfl (Nat.le_of_ble_eq_true rfl) ⟨⟨Nat.le_of_ble_eq_true rfl, Nat.le_of_ble_eq_true rfl⟩, ⟨Nat.le_of_ble_eq_true rfl, Nat.le_of_ble_eq_true rfl⟩⟩ K_X4_creditUsed h (fun s31 h => ?_)
      refine T_iinc (i25 + 1) (lv' := [(5, .int (i25 + 1)), (4, .int i30), (0, .ref a20), (1, .int i21), (2, .int i22), (3, .int i23)]) dX4_spend_73 (j := 5) rfl rfl (by decide) rfl ?_
      refine T_goto 51 dX4_spend_76 (by decide) ?_
      refine T_lv (lv' := [(0, .ref a20), (1, .int i21), (2, .int i22), (3, .int i23), (4, .int i30), (5, .int (i25 + 1))]) [2, 3, 4, 5, 1, 0] rfl ?_
      exact ih i30 (i25 + 1) s31 h
set_option maxRecDepth 100000 in
set_option maxHeartbeats 4000000 in
theorem K_X4_spend_w40 {l : Launch} {G : smG} {P : Option Value → Hp → Prop} {a14 : Nat} {i15 : Int32} {k99 : Int32 → Hp → Option (Int32 × Hp)} (hk99 : ∀ (i39 : Int32) (s40 : Hp), OK jI (k99 i39 s40) P → T l G RX4 cX4_spend 6 (sm_rm 4 0 0) (sm_E (some .int) yX4_spend.name) (sm_Qs G P 0 0) 0 0 99 [(2, .int i39)] [] s40) : ∀ (n : Nat) (i16 : Int32) (i17 : Int32) (s18 : Hp), OK jI (D_X4_spend_w40 a14 i15 k99 n i16 i17 s18) P → T l G RX4 cX4_spend 6 (sm_rm 4 0 0) (sm_E (some .int) yX4_spend.name) (sm_Qs G P 0 0) 0 0 40 [(0, .ref a14), (1, .int i15), (2, .int i16), (3, .int i17)] [] s18 := by
  intro n
  induction n with
  | zero => intro i16 i17 s18 h; obtain ⟨_, h0, _⟩ := h; exact absurd h0 (by simp [D_X4_spend_w40])
  | succ n19 ih =>
    intro i16 i17 s18 h
    unfold D_X4_spend_w40 at h
    refine T_iload_n dX4_spend_40 rfl 3 rfl ?_
    refine T_iload_n dX4_spend_41 rfl 1 rfl ?_
    refine T_icmp_ge 99 dX4_spend_42 (by decide) h (fun _ h => ?_) (fun _ h => ?_)
    · refine T_lv (lv' := [(2, .int i16)]) [2] rfl ?_
      exact hk99 i16 s18 h
    · refine T_iconst (0 : Int32) dX4_spend_45 (by decide) ?_
      refine T_istore (lv' := [(4, .int (0 : Int32)), (0, .ref a14), (1, .int i15), (2, .int i16), (3, .int i17)]) dX4_spend_46 (by decide) rfl ?_
      refine T_iconst (0 : Int32) dX4_spend_48 (by decide) ?_
      refine T_istore (lv' := [(5, .int (0 : Int32)), (4, .int (0 : Int32)), (0, .ref a14), (1, .int i15), (2, .int i16), (3, .int i17)]) dX4_spend_49 (by decide) rfl ?_
      refine T_lv (lv' := [(0, .ref a14), (1, .int i15), (2, .int i16), (3, .int i17), (4, .int (0 : Int32)), (5, .int (0 : Int32))]) [2, 3, 4, 5, 1, 0] rfl ?_
      refine K_X4_spend_w51 ?_ FU (0 : Int32) (0 : Int32) s18 h
      intro i35 s34 h
      refine T_aload_n dX4_spend_79 rfl 0 rfl ?_
      refine T_getR dX4_spend_80 fl_RX4_39 h (fun a36 h => ?_)
      refine T_iload dX4_spend_83 4 rfl ?_
      refine T_callVV (As := [.int i35]) (rest := []) (b := a36) (ci := 2) dX4_spend_85 mc_X2_endDay mi_X2_endDay ml_RX4_127 rfl (fun _ hr => chk_of hr) rfl rfl (Nat.le_of_ble_eq_true rfl) ⟨⟨Nat.le_of_ble_eq_true rfl, Nat.le_of_ble_eq_true rfl⟩, ⟨Nat.le_of_ble_eq_true rfl, Nat.le_of_ble_eq_true rfl⟩⟩ K_X2_endDay h (fun s37 h => ?_)
      refine T_iload_n dX4_spend_88 rfl 2 rfl ?_
      refine T_iload dX4_spend_89 4 rfl ?_
      refine T_iadd dX4_spend_91 ?_
      refine T_nm h (fun i38 h => ?_)
      refine T_istore_n (lv' := [(2, .int i38), (0, .ref a14), (1, .int i15), (3, .int i17), (4, .int i35)]) dX4_spend_92 rfl (by decide) rfl ?_
      refine T_iinc (i17 + 1) (lv' := [(3, .int (i17 + 1)), (2, .int i38), (0, .ref a14), (1, .int i15), (4, .int i35)]) dX4_spend_93 (j := 3) rfl rfl (by decide) rfl ?_
      refine T_goto 40 dX4_spend_96 (by decide) ?_
      refine T_lv (lv' := [(0, .ref a14), (1, .int i15), (2, .int i38), (3, .int (i17 + 1))]) [2, 3, 1, 0] rfl ?_
      exact ih i38 (i17 + 1) s37 h
set_option maxRecDepth 100000 in
set_option maxHeartbeats 4000000 in
theorem K_X4_spend {l : Launch} {a0 : Nat} {i1 : Int32} {s0 : Hp} : ∀ P, OK jI (D_X4_spend a0 i1 s0) P → sm_Ct l yX4_spend cX4_spend 6 (some .int) 4 0 0 [.ref a0, .int i1] s0 P := by
  intro P h
  unfold D_X4_spend at h
  obtain ⟨_, hb0, h⟩ := h.bind
  refine sm_enter (own := RX4) (lv := [(0, .ref a0), (1, .int i1)]) (by decide) rfl (Nat.le_of_ble_eq_true rfl) rfl (fun G => ?_)
  refine T_iload_n dX4_spend_0 rfl 1 rfl ?_
  refine T_iconst (1 : Int32) dX4_spend_1 (by decide) ?_
  refine T_icmp_lt 11 dX4_spend_2 (by decide) h (fun _ h => ?_) (fun _ h => ?_)
  · refine T_bipush (-2 : Int32) dX4_spend_11 (by decide) ?_
    exact T_ireturn dX4_spend_13 (Nat.le_of_ble_eq_true rfl) (Nat.le_of_ble_eq_true rfl) h
  · refine T_iload_n dX4_spend_5 rfl 1 rfl ?_
    refine T_bipush (99 : Int32) dX4_spend_6 (by decide) ?_
    refine T_icmp_le 14 dX4_spend_8 (by decide) h (fun _ h => ?_) (fun _ h => ?_)
    · refine T_aload_n dX4_spend_14 rfl 0 rfl ?_
      refine T_getR dX4_spend_15 fl_RX4_39 h (fun a11 h => ?_)
      refine T_getI dX4_spend_18 fl_RX4_118 h (fun i12 h => ?_)
      refine T_iload_n dX4_spend_21 rfl 1 rfl ?_
      refine T_iadd dX4_spend_22 ?_
      refine T_sipush (999 : Int32) dX4_spend_23 (by decide) ?_
      refine T_icmp_le 32 dX4_spend_26 (by decide) h (fun _ h => ?_) (fun _ h => ?_)
      · refine T_aload_n dX4_spend_32 rfl 0 rfl ?_
        refine T_callVV (As := []) (rest := []) (b := a0) (ci := 4) dX4_spend_33 mc_X4_look mi_X4_look ml_RX4_121 rfl (fun _ hr => chk_of hr) rfl rfl (Nat.le_of_ble_eq_true rfl) ⟨⟨Nat.le_of_ble_eq_true rfl, Nat.le_of_ble_eq_true rfl⟩, ⟨Nat.le_of_ble_eq_true rfl, Nat.le_of_ble_eq_true rfl⟩⟩ K_X4_look h (fun s13 h => ?_)
        refine T_iconst (0 : Int32) dX4_spend_36 (by decide) ?_
        refine T_istore_n (lv' := [(2, .int (0 : Int32)), (0, .ref a0), (1, .int i1)]) dX4_spend_37 rfl (by decide) rfl ?_
        refine T_iconst (0 : Int32) dX4_spend_38 (by decide) ?_
        refine T_istore_n (lv' := [(3, .int (0 : Int32)), (2, .int (0 : Int32)), (0, .ref a0), (1, .int i1)]) dX4_spend_39 rfl (by decide) rfl ?_
        refine T_lv (lv' := [(0, .ref a0), (1, .int i1), (2, .int (0 : Int32)), (3, .int (0 : Int32))]) [2, 3, 1, 0] rfl ?_
        refine K_X4_spend_w40 ?_ FU (0 : Int32) (0 : Int32) s13 h
        intro i42 s41 h
        refine T_iload_n dX4_spend_99 rfl 0 rfl ?_
        exact T_ireturn dX4_spend_100 (Nat.le_of_ble_eq_true rfl) (Nat.le_of_ble_eq_true rfl) h
      · refine T_bipush (-5 : Int32) dX4_spend_29 (by decide) ?_
        exact T_ireturn dX4_spend_31 (Nat.le_of_ble_eq_true rfl) (Nat.le_of_ble_eq_true rfl) h
    · refine T_bipush (-2 : Int32) dX4_spend_11 (by decide) ?_
      exact T_ireturn dX4_spend_13 (Nat.le_of_ble_eq_true rfl) (Nat.le_of_ble_eq_true rfl) h

def D_X9_at (a0 : Nat) (i1 : Int32) (i2 : Int32) (i3 : Int32) (s0 : Hp) : Option (Int32 × Hp) :=
  (isO s0 a0 8).bind fun _ =>
  (getR s0 a0 8 0).bind fun a11 =>
  bd (D_X2_isMirror a11 i1 s0) fun i12 s13 =>
  if i12 = 0 then
  some ((-1 : Int32), s13)
  else
  bd (D_X8_isHour i2 s13) fun i14 s15 =>
  if i14 = 0 then
  some ((-1 : Int32), s15)
  else
  (getR s15 a0 8 1).bind fun a16 =>
  (D_X4_look a16 s15).bind fun s17 =>
  (getR s17 a0 8 1).bind fun a18 =>
  bd (D_X4_work a18 i2 s17) fun i19 s20 =>
  if i3 = (0 : Int32) then
  (getR s20 a0 8 1).bind fun a21 =>
  bd (D_X4_shader a21 i1 i2 s20) fun i22 s23 =>
  if i22 = (-6 : Int32) then
  some ((0 : Int32), s23)
  else
  some ((1 : Int32), s23)
  else
  if i3 = (1 : Int32) then
  (getR s20 a0 8 1).bind fun a24 =>
  bd (D_X4_given a24 i1 s20) fun i25 s26 =>
  some (i25, s26)
  else
  if i3 = (2 : Int32) then
  (getR s20 a0 8 1).bind fun a27 =>
  bd (D_X4_isUsed a27 i1 s20) fun i28 s29 =>
  if i28 = 0 then
  some ((0 : Int32), s29)
  else
  some ((1 : Int32), s29)
  else
  if i3 = (3 : Int32) then
  (getR s20 a0 8 1).bind fun a30 =>
  bd (D_X4_shader a30 i1 i2 s20) fun i31 s32 =>
  some (i31, s32)
  else
  some ((-2 : Int32), s20)
set_option maxRecDepth 100000 in
set_option maxHeartbeats 4000000 in
theorem K_X9_at {l : Launch} {a0 : Nat} {i1 : Int32} {i2 : Int32} {i3 : Int32} {s0 : Hp} : ∀ P, OK jI (D_X9_at a0 i1 i2 i3 s0) P → sm_Ct l yX9_at cX9_at 4 (some .int) 4 0 0 [.ref a0, .int i1, .int i2, .int i3] s0 P := by
  intro P h
  unfold D_X9_at at h
  obtain ⟨_, hb0, h⟩ := h.bind
  refine sm_enter (own := RX9) (lv := [(0, .ref a0), (1, .int i1), (2, .int i2), (3, .int i3)]) (by decide) rfl (Nat.le_of_ble_eq_true rfl) rfl (fun G => ?_)
  refine T_aload_n dX9_at_0 rfl 0 rfl ?_
  refine T_getR dX9_at_1 fl_RX9_12 h (fun a11 h => ?_)
  refine T_iload_n dX9_at_4 rfl 1 rfl ?_
  refine T_callVI (As := [.int i1]) (rest := []) (b := a11) (ci := 2) dX9_at_5 mc_X2_isMirror mi_X2_isMirror ml_RX9_98 rfl (fun _ hr => chk_of hr) rfl rfl (Nat.le_of_ble_eq_true rfl) ⟨⟨Nat.le_of_ble_eq_true rfl, Nat.le_of_ble_eq_true rfl⟩, ⟨Nat.le_of_ble_eq_true rfl, Nat.le_of_ble_eq_true rfl⟩⟩ K_X2_isMirror h (fun i12 s13 h => ?_)
  refine T_if_eq 18 dX9_at_8 (by decide) h (fun _ h => ?_) (fun _ h => ?_)
  · refine T_iconst (-1 : Int32) dX9_at_18 (by decide) ?_
    exact T_ireturn dX9_at_19 (Nat.le_of_ble_eq_true rfl) (Nat.le_of_ble_eq_true rfl) h
  · refine T_iload_n dX9_at_11 rfl 2 rfl ?_
    refine T_callSI (As := [.int i2]) (rest := []) dX9_at_12 mc_X8_isHour mi_X8_isHour ml_RX9_129 rfl rfl (Nat.le_of_ble_eq_true rfl) ⟨⟨Nat.le_of_ble_eq_true rfl, Nat.le_of_ble_eq_true rfl⟩, ⟨Nat.le_of_ble_eq_true rfl, Nat.le_of_ble_eq_true rfl⟩⟩ K_X8_isHour h (fun i14 s15 h => ?_)
    refine T_if_ne 20 dX9_at_15 (by decide) h (fun _ h => ?_) (fun _ h => ?_)
    · refine T_aload_n dX9_at_20 rfl 0 rfl ?_
      refine T_getR dX9_at_21 fl_RX9_21 h (fun a16 h => ?_)
      refine T_callVV (As := []) (rest := []) (b := a16) (ci := 4) dX9_at_24 mc_X4_look mi_X4_look ml_RX9_120 rfl (fun _ hr => chk_of hr) rfl rfl (Nat.le_of_ble_eq_true rfl) ⟨⟨Nat.le_of_ble_eq_true rfl, Nat.le_of_ble_eq_true rfl⟩, ⟨Nat.le_of_ble_eq_true rfl, Nat.le_of_ble_eq_true rfl⟩⟩ K_X4_look h (fun s17 h => ?_)
      refine T_aload_n dX9_at_27 rfl 0 rfl ?_
      refine T_getR dX9_at_28 fl_RX9_21 h (fun a18 h => ?_)
      refine T_iload_n dX9_at_31 rfl 2 rfl ?_
      refine T_callVI (As := [.int i2]) (rest := []) (b := a18) (ci := 4) dX9_at_32 mc_X4_work mi_X4_work ml_RX9_134 rfl (fun _ hr => chk_of hr) rfl rfl (Nat.le_of_ble_eq_true rfl) ⟨⟨Nat.le_of_ble_eq_true rfl, Nat.le_of_ble_eq_true rfl⟩, ⟨Nat.le_of_ble_eq_true rfl, Nat.le_of_ble_eq_true rfl⟩⟩ K_X4_work h (fun i19 s20 h => ?_)
      refine T_pop dX9_at_35 rfl ?_
      refine T_iload_n dX9_at_36 rfl 3 rfl ?_
      refine T_ite h (fun c0 h => ?_) (fun c0 h => ?_)
      · refine T_tableIn 68 dX9_at_37 (by rw [c0]; decide) (by rw [c0]; decide) (by rw [c0]; rfl) (by decide) ?_
        refine T_aload_n dX9_at_68 rfl 0 rfl ?_
        refine T_getR dX9_at_69 fl_RX9_21 h (fun a21 h => ?_)
        refine T_iload_n dX9_at_72 rfl 1 rfl ?_
        refine T_iload_n dX9_at_73 rfl 2 rfl ?_
        refine T_callVI (As := [.int i1, .int i2]) (rest := []) (b := a21) (ci := 4) dX9_at_74 mc_X4_shader mi_X4_shader ml_RX9_137 rfl (fun _ hr => chk_of hr) rfl rfl (Nat.le_of_ble_eq_true rfl) ⟨⟨Nat.le_of_ble_eq_true rfl, Nat.le_of_ble_eq_true rfl⟩, ⟨Nat.le_of_ble_eq_true rfl, Nat.le_of_ble_eq_true rfl⟩⟩ K_X4_shader h (fun i22 s23 h => ?_)
        refine T_bipush (-6 : Int32) dX9_at_77 (by decide) ?_
        refine T_icmp_ne 86 dX9_at_79 (by decide) h (fun _ h => ?_) (fun _ h => ?_)
        · refine T_iconst (1 : Int32) dX9_at_86 (by decide) ?_
          exact T_ireturn dX9_at_87 (Nat.le_of_ble_eq_true rfl) (Nat.le_of_ble_eq_true rfl) h
        · refine T_iconst (0 : Int32) dX9_at_82 (by decide) ?_
          refine T_goto 87 dX9_at_83 (by decide) ?_
          exact T_ireturn dX9_at_87 (Nat.le_of_ble_eq_true rfl) (Nat.le_of_ble_eq_true rfl) h
      refine T_ite h (fun c1 h => ?_) (fun c1 h => ?_)
      · refine T_tableIn 88 dX9_at_37 (by rw [c1]; decide) (by rw [c1]; decide) (by rw [c1]; rfl) (by decide) ?_
        refine T_aload_n dX9_at_88 rfl 0 rfl ?_
        refine T_getR dX9_at_89 fl_RX9_21 h (fun a24 h => ?_)
        refine T_iload_n dX9_at_92 rfl 1 rfl ?_
        refine T_callVI (As := [.int i1]) (rest := []) (b := a24) (ci := 4) dX9_at_93 mc_X4_given mi_X4_given ml_RX9_140 rfl (fun _ hr => chk_of hr) rfl rfl (Nat.le_of_ble_eq_true rfl) ⟨⟨Nat.le_of_ble_eq_true rfl, Nat.le_of_ble_eq_true rfl⟩, ⟨Nat.le_of_ble_eq_true rfl, Nat.le_of_ble_eq_true rfl⟩⟩ K_X4_given h (fun i25 s26 h => ?_)
        exact T_ireturn dX9_at_96 (Nat.le_of_ble_eq_true rfl) (Nat.le_of_ble_eq_true rfl) h
      refine T_ite h (fun c2 h => ?_) (fun c2 h => ?_)
      · refine T_tableIn 97 dX9_at_37 (by rw [c2]; decide) (by rw [c2]; decide) (by rw [c2]; rfl) (by decide) ?_
        refine T_aload_n dX9_at_97 rfl 0 rfl ?_
        refine T_getR dX9_at_98 fl_RX9_21 h (fun a27 h => ?_)
        refine T_iload_n dX9_at_101 rfl 1 rfl ?_
        refine T_callVI (As := [.int i1]) (rest := []) (b := a27) (ci := 4) dX9_at_102 mc_X4_isUsed mi_X4_isUsed ml_RX9_143 rfl (fun _ hr => chk_of hr) rfl rfl (Nat.le_of_ble_eq_true rfl) ⟨⟨Nat.le_of_ble_eq_true rfl, Nat.le_of_ble_eq_true rfl⟩, ⟨Nat.le_of_ble_eq_true rfl, Nat.le_of_ble_eq_true rfl⟩⟩ K_X4_isUsed h (fun i28 s29 h => ?_)
        refine T_if_eq 112 dX9_at_105 (by decide) h (fun _ h => ?_) (fun _ h => ?_)
        · refine T_iconst (0 : Int32) dX9_at_112 (by decide) ?_
          exact T_ireturn dX9_at_113 (Nat.le_of_ble_eq_true rfl) (Nat.le_of_ble_eq_true rfl) h
        · refine T_iconst (1 : Int32) dX9_at_108 (by decide) ?_
          refine T_goto 113 dX9_at_109 (by decide) ?_
          exact T_ireturn dX9_at_113 (Nat.le_of_ble_eq_true rfl) (Nat.le_of_ble_eq_true rfl) h
      refine T_ite h (fun c3 h => ?_) (fun c3 h => ?_)
      · refine T_tableIn 114 dX9_at_37 (by rw [c3]; decide) (by rw [c3]; decide) (by rw [c3]; rfl) (by decide) ?_
        refine T_aload_n dX9_at_114 rfl 0 rfl ?_
        refine T_getR dX9_at_115 fl_RX9_21 h (fun a30 h => ?_)
        refine T_iload_n dX9_at_118 rfl 1 rfl ?_
        refine T_iload_n dX9_at_119 rfl 2 rfl ?_
        refine T_callVI (As := [.int i1, .int i2]) (rest := []) (b := a30) (ci := 4) dX9_at_120 mc_X4_shader mi_X4_shader ml_RX9_137 rfl (fun _ hr => chk_of hr) rfl rfl (Nat.le_of_ble_eq_true rfl) ⟨⟨Nat.le_of_ble_eq_true rfl, Nat.le_of_ble_eq_true rfl⟩, ⟨Nat.le_of_ble_eq_true rfl, Nat.le_of_ble_eq_true rfl⟩⟩ K_X4_shader h (fun i31 s32 h => ?_)
        exact T_ireturn dX9_at_123 (Nat.le_of_ble_eq_true rfl) (Nat.le_of_ble_eq_true rfl) h
      refine T_tableOut 124 dX9_at_37 (by have e0 := lv_neT (a := 0) c0 rfl; have e1 := lv_neT (a := 1) c1 rfl; have e2 := lv_neT (a := 2) c2 rfl; have e3 := lv_neT (a := 3) c3 rfl; omega) (by decide) ?_
      refine T_bipush (-2 : Int32) dX9_at_124 (by decide) ?_
      exact T_ireturn dX9_at_126 (Nat.le_of_ble_eq_true rfl) (Nat.le_of_ble_eq_true rfl) h
    · refine T_iconst (-1 : Int32) dX9_at_18 (by decide) ?_
      exact T_ireturn dX9_at_19 (Nat.le_of_ble_eq_true rfl) (Nat.le_of_ble_eq_true rfl) h

def D_X9_of (a0 : Nat) (i1 : Int32) (i2 : Int32) (s0 : Hp) : Option (Int32 × Hp) :=
  (isO s0 a0 8).bind fun _ =>
  (getR s0 a0 8 0).bind fun a11 =>
  bd (D_X2_isMirror a11 i1 s0) fun i12 s13 =>
  if i12 = 0 then
  some ((-1 : Int32), s13)
  else
  if i2 = (0 : Int32) then
  (getR s13 a0 8 0).bind fun a14 =>
  (getR s13 a14 2 1).bind fun a15 =>
  bd (D_X1_read a15 i1 s13) fun i16 s17 =>
  some (i16, s17)
  else
  if i2 = (1 : Int32) then
  (getR s13 a0 8 0).bind fun a18 =>
  (getR s13 a18 2 2).bind fun a19 =>
  bd (D_X1_read a19 i1 s13) fun i20 s21 =>
  some (i20, s21)
  else
  if i2 = (2 : Int32) then
  (getR s13 a0 8 0).bind fun a22 =>
  (getR s13 a22 2 3).bind fun a23 =>
  bd (D_X1_read a23 i1 s13) fun i24 s25 =>
  some (i24, s25)
  else
  if i2 = (3 : Int32) then
  (getR s13 a0 8 0).bind fun a26 =>
  (getR s13 a26 2 4).bind fun a27 =>
  bd (D_X1_read a27 i1 s13) fun i28 s29 =>
  some (i28, s29)
  else
  if i2 = (4 : Int32) then
  (getR s13 a0 8 1).bind fun a30 =>
  (D_X4_look a30 s13).bind fun s31 =>
  (getR s31 a0 8 1).bind fun a32 =>
  bd (D_X4_isBlocked a32 i1 s31) fun i33 s34 =>
  if i33 = 0 then
  some ((0 : Int32), s34)
  else
  some ((1 : Int32), s34)
  else
  if i2 = (5 : Int32) then
  (getR s13 a0 8 0).bind fun a35 =>
  (getR s13 a35 2 5).bind fun a36 =>
  bd (D_X1_read a36 i1 s13) fun i37 s38 =>
  some (i37, s38)
  else
  some ((-2 : Int32), s13)
set_option maxRecDepth 100000 in
set_option maxHeartbeats 4000000 in
theorem K_X9_of {l : Launch} {a0 : Nat} {i1 : Int32} {i2 : Int32} {s0 : Hp} : ∀ P, OK jI (D_X9_of a0 i1 i2 s0) P → sm_Ct l yX9_of cX9_of 3 (some .int) 4 0 0 [.ref a0, .int i1, .int i2] s0 P := by
  intro P h
  unfold D_X9_of at h
  obtain ⟨_, hb0, h⟩ := h.bind
  refine sm_enter (own := RX9) (lv := [(0, .ref a0), (1, .int i1), (2, .int i2)]) (by decide) rfl (Nat.le_of_ble_eq_true rfl) rfl (fun G => ?_)
  refine T_aload_n dX9_of_0 rfl 0 rfl ?_
  refine T_getR dX9_of_1 fl_RX9_12 h (fun a11 h => ?_)
  refine T_iload_n dX9_of_4 rfl 1 rfl ?_
  refine T_callVI (As := [.int i1]) (rest := []) (b := a11) (ci := 2) dX9_of_5 mc_X2_isMirror mi_X2_isMirror ml_RX9_98 rfl (fun _ hr => chk_of hr) rfl rfl (Nat.le_of_ble_eq_true rfl) ⟨⟨Nat.le_of_ble_eq_true rfl, Nat.le_of_ble_eq_true rfl⟩, ⟨Nat.le_of_ble_eq_true rfl, Nat.le_of_ble_eq_true rfl⟩⟩ K_X2_isMirror h (fun i12 s13 h => ?_)
  refine T_if_ne 13 dX9_of_8 (by decide) h (fun _ h => ?_) (fun _ h => ?_)
  · refine T_iload_n dX9_of_13 rfl 2 rfl ?_
    refine T_ite h (fun c0 h => ?_) (fun c0 h => ?_)
    · refine T_tableIn 52 dX9_of_14 (by rw [c0]; decide) (by rw [c0]; decide) (by rw [c0]; rfl) (by decide) ?_
      refine T_aload_n dX9_of_52 rfl 0 rfl ?_
      refine T_getR dX9_of_53 fl_RX9_12 h (fun a14 h => ?_)
      refine T_getR dX9_of_56 fl_RX9_102 h (fun a15 h => ?_)
      refine T_iload_n dX9_of_59 rfl 1 rfl ?_
      refine T_callVI (As := [.int i1]) (rest := []) (b := a15) (ci := 1) dX9_of_60 mc_X1_read mi_X1_read ml_RX9_106 rfl (fun _ hr => chk_of hr) rfl rfl (Nat.le_of_ble_eq_true rfl) ⟨⟨Nat.le_of_ble_eq_true rfl, Nat.le_of_ble_eq_true rfl⟩, ⟨Nat.le_of_ble_eq_true rfl, Nat.le_of_ble_eq_true rfl⟩⟩ K_X1_read h (fun i16 s17 h => ?_)
      exact T_ireturn dX9_of_63 (Nat.le_of_ble_eq_true rfl) (Nat.le_of_ble_eq_true rfl) h
    refine T_ite h (fun c1 h => ?_) (fun c1 h => ?_)
    · refine T_tableIn 64 dX9_of_14 (by rw [c1]; decide) (by rw [c1]; decide) (by rw [c1]; rfl) (by decide) ?_
      refine T_aload_n dX9_of_64 rfl 0 rfl ?_
      refine T_getR dX9_of_65 fl_RX9_12 h (fun a18 h => ?_)
      refine T_getR dX9_of_68 fl_RX9_111 h (fun a19 h => ?_)
      refine T_iload_n dX9_of_71 rfl 1 rfl ?_
      refine T_callVI (As := [.int i1]) (rest := []) (b := a19) (ci := 1) dX9_of_72 mc_X1_read mi_X1_read ml_RX9_106 rfl (fun _ hr => chk_of hr) rfl rfl (Nat.le_of_ble_eq_true rfl) ⟨⟨Nat.le_of_ble_eq_true rfl, Nat.le_of_ble_eq_true rfl⟩, ⟨Nat.le_of_ble_eq_true rfl, Nat.le_of_ble_eq_true rfl⟩⟩ K_X1_read h (fun i20 s21 h => ?_)
      exact T_ireturn dX9_of_75 (Nat.le_of_ble_eq_true rfl) (Nat.le_of_ble_eq_true rfl) h
    refine T_ite h (fun c2 h => ?_) (fun c2 h => ?_)
    · refine T_tableIn 76 dX9_of_14 (by rw [c2]; decide) (by rw [c2]; decide) (by rw [c2]; rfl) (by decide) ?_
      refine T_aload_n dX9_of_76 rfl 0 rfl ?_
      refine T_getR dX9_of_77 fl_RX9_12 h (fun a22 h => ?_)
      refine T_getR dX9_of_80 fl_RX9_114 h (fun a23 h => ?_)
      refine T_iload_n dX9_of_83 rfl 1 rfl ?_
      refine T_callVI (As := [.int i1]) (rest := []) (b := a23) (ci := 1) dX9_of_84 mc_X1_read mi_X1_read ml_RX9_106 rfl (fun _ hr => chk_of hr) rfl rfl (Nat.le_of_ble_eq_true rfl) ⟨⟨Nat.le_of_ble_eq_true rfl, Nat.le_of_ble_eq_true rfl⟩, ⟨Nat.le_of_ble_eq_true rfl, Nat.le_of_ble_eq_true rfl⟩⟩ K_X1_read h (fun i24 s25 h => ?_)
      exact T_ireturn dX9_of_87 (Nat.le_of_ble_eq_true rfl) (Nat.le_of_ble_eq_true rfl) h
    refine T_ite h (fun c3 h => ?_) (fun c3 h => ?_)
    · refine T_tableIn 88 dX9_of_14 (by rw [c3]; decide) (by rw [c3]; decide) (by rw [c3]; rfl) (by decide) ?_
      refine T_aload_n dX9_of_88 rfl 0 rfl ?_
      refine T_getR dX9_of_89 fl_RX9_12 h (fun a26 h => ?_)
      refine T_getR dX9_of_92 fl_RX9_117 h (fun a27 h => ?_)
      refine T_iload_n dX9_of_95 rfl 1 rfl ?_
      refine T_callVI (As := [.int i1]) (rest := []) (b := a27) (ci := 1) dX9_of_96 mc_X1_read mi_X1_read ml_RX9_106 rfl (fun _ hr => chk_of hr) rfl rfl (Nat.le_of_ble_eq_true rfl) ⟨⟨Nat.le_of_ble_eq_true rfl, Nat.le_of_ble_eq_true rfl⟩, ⟨Nat.le_of_ble_eq_true rfl, Nat.le_of_ble_eq_true rfl⟩⟩ K_X1_read h (fun i28 s29 h => ?_)
      exact T_ireturn dX9_of_99 (Nat.le_of_ble_eq_true rfl) (Nat.le_of_ble_eq_true rfl) h
    refine T_ite h (fun c4 h => ?_) (fun c4 h => ?_)
    · refine T_tableIn 100 dX9_of_14 (by rw [c4]; decide) (by rw [c4]; decide) (by rw [c4]; rfl) (by decide) ?_
      refine T_aload_n dX9_of_100 rfl 0 rfl ?_
      refine T_getR dX9_of_101 fl_RX9_21 h (fun a30 h => ?_)
      refine T_callVV (As := []) (rest := []) (b := a30) (ci := 4) dX9_of_104 mc_X4_look mi_X4_look ml_RX9_120 rfl (fun _ hr => chk_of hr) rfl rfl (Nat.le_of_ble_eq_true rfl) ⟨⟨Nat.le_of_ble_eq_true rfl, Nat.le_of_ble_eq_true rfl⟩, ⟨Nat.le_of_ble_eq_true rfl, Nat.le_of_ble_eq_true rfl⟩⟩ K_X4_look h (fun s31 h => ?_)
      refine T_aload_n dX9_of_107 rfl 0 rfl ?_
      refine T_getR dX9_of_108 fl_RX9_21 h (fun a32 h => ?_)
      refine T_iload_n dX9_of_111 rfl 1 rfl ?_
      refine T_callVI (As := [.int i1]) (rest := []) (b := a32) (ci := 4) dX9_of_112 mc_X4_isBlocked mi_X4_isBlocked ml_RX9_123 rfl (fun _ hr => chk_of hr) rfl rfl (Nat.le_of_ble_eq_true rfl) ⟨⟨Nat.le_of_ble_eq_true rfl, Nat.le_of_ble_eq_true rfl⟩, ⟨Nat.le_of_ble_eq_true rfl, Nat.le_of_ble_eq_true rfl⟩⟩ K_X4_isBlocked h (fun i33 s34 h => ?_)
      refine T_if_eq 122 dX9_of_115 (by decide) h (fun _ h => ?_) (fun _ h => ?_)
      · refine T_iconst (0 : Int32) dX9_of_122 (by decide) ?_
        exact T_ireturn dX9_of_123 (Nat.le_of_ble_eq_true rfl) (Nat.le_of_ble_eq_true rfl) h
      · refine T_iconst (1 : Int32) dX9_of_118 (by decide) ?_
        refine T_goto 123 dX9_of_119 (by decide) ?_
        exact T_ireturn dX9_of_123 (Nat.le_of_ble_eq_true rfl) (Nat.le_of_ble_eq_true rfl) h
    refine T_ite h (fun c5 h => ?_) (fun c5 h => ?_)
    · refine T_tableIn 124 dX9_of_14 (by rw [c5]; decide) (by rw [c5]; decide) (by rw [c5]; rfl) (by decide) ?_
      refine T_aload_n dX9_of_124 rfl 0 rfl ?_
      refine T_getR dX9_of_125 fl_RX9_12 h (fun a35 h => ?_)
      refine T_getR dX9_of_128 fl_RX9_126 h (fun a36 h => ?_)
      refine T_iload_n dX9_of_131 rfl 1 rfl ?_
      refine T_callVI (As := [.int i1]) (rest := []) (b := a36) (ci := 1) dX9_of_132 mc_X1_read mi_X1_read ml_RX9_106 rfl (fun _ hr => chk_of hr) rfl rfl (Nat.le_of_ble_eq_true rfl) ⟨⟨Nat.le_of_ble_eq_true rfl, Nat.le_of_ble_eq_true rfl⟩, ⟨Nat.le_of_ble_eq_true rfl, Nat.le_of_ble_eq_true rfl⟩⟩ K_X1_read h (fun i37 s38 h => ?_)
      exact T_ireturn dX9_of_135 (Nat.le_of_ble_eq_true rfl) (Nat.le_of_ble_eq_true rfl) h
    refine T_tableOut 136 dX9_of_14 (by have e0 := lv_neT (a := 0) c0 rfl; have e1 := lv_neT (a := 1) c1 rfl; have e2 := lv_neT (a := 2) c2 rfl; have e3 := lv_neT (a := 3) c3 rfl; have e4 := lv_neT (a := 4) c4 rfl; have e5 := lv_neT (a := 5) c5 rfl; omega) (by decide) ?_
    refine T_bipush (-2 : Int32) dX9_of_136 (by decide) ?_
    exact T_ireturn dX9_of_138 (Nat.le_of_ble_eq_true rfl) (Nat.le_of_ble_eq_true rfl) h
  · refine T_iconst (-1 : Int32) dX9_of_11 (by decide) ?_
    exact T_ireturn dX9_of_12 (Nat.le_of_ble_eq_true rfl) (Nat.le_of_ble_eq_true rfl) h
