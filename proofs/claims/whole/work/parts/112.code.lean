def D_X10_fault_w12 (a13 : Nat) (k38 : Hp → Option (Int32 × Hp)) : Nat → Int32 → Hp → Option (Int32 × Hp)
  | 0, _, _ => none
  | n16 + 1, i14, s15 =>
  if i14 = 0 then
  k38 s15
  else
  bd (D_X10_readsOrder a13 s15) fun i17 s18 =>
  if i17 = 0 then
  (getI s18 a13 9 13).bind fun i21 =>
  some (i21, s18)
  else
  bd (D_X10_takes a13 (59 : Int32) s18) fun i19 s20 =>
  D_X10_fault_w12 a13 k38 n16 i19 s20
def D_X10_fault (a0 : Nat) (s0 : Hp) : Option (Int32 × Hp) :=
  (isO s0 a0 9).bind fun _ =>
  (putI s0 a0 9 13 (0 : Int32)).bind fun s11 =>
  (putZ s11 a0 9 15 (0 : Int32)).bind fun s12 =>
  D_X10_fault_w12 a0 (fun s23 =>
  (getI s23 a0 9 13).bind fun i24 =>
  (getI s23 a0 9 12).bind fun i25 =>
  if i24 = i25 then
  some ((-6 : Int32), s23)
  else
  (getI s23 a0 9 13).bind fun i26 =>
  some (i26, s23)
  ) FU (1 : Int32) s12
set_option maxRecDepth 100000 in
set_option maxHeartbeats 4000000 in
theorem K_X10_fault_w12 {l : Launch} {G : smG} {P : Option Value → Hp → Prop} {a13 : Nat} {k38 : Hp → Option (Int32 × Hp)} (hk38 : ∀  (s22 : Hp), OK jI (k38 s22) P → T l G RX10 cX10_fault 2 (sm_rm 8 0 0) (sm_E (some .int) yX10_fault.name) (sm_Qs G P 0 0) 0 0 38 [(0, .ref a13)] [] s22) : ∀ (n : Nat) (i14 : Int32) (s15 : Hp), OK jI (D_X10_fault_w12 a13 k38 n i14 s15) P → T l G RX10 cX10_fault 2 (sm_rm 8 0 0) (sm_E (some .int) yX10_fault.name) (sm_Qs G P 0 0) 0 0 12 [(0, .ref a13), (1, .int i14)] [] s15 := by
  intro n
  induction n with
  | zero => intro i14 s15 h; obtain ⟨_, h0, _⟩ := h; exact absurd h0 (by simp [D_X10_fault_w12])
  | succ n16 ih =>
    intro i14 s15 h
    unfold D_X10_fault_w12 at h
    refine T_iload_n dX10_fault_12 rfl 1 rfl ?_
    refine T_if_eq 38 dX10_fault_13 (by decide) h (fun _ h => ?_) (fun _ h => ?_)
    · refine T_lv (lv' := [(0, .ref a13)]) [0] rfl ?_
      exact hk38 s15 h
    · refine T_aload_n dX10_fault_16 rfl 0 rfl ?_
      refine T_callVI (As := []) (rest := []) (b := a13) (ci := 9) dX10_fault_17 mc_X10_readsOrder mi_X10_readsOrder ml_RX10_209 rfl (fun _ hr => chk_of hr) rfl rfl (Nat.le_of_ble_eq_true rfl) ⟨⟨Nat.le_of_ble_eq_true rfl, Nat.le_of_ble_eq_true rfl⟩, ⟨Nat.le_of_ble_eq_true rfl, Nat.le_of_ble_eq_true rfl⟩⟩ K_X10_readsOrder h (fun i17 s18 h => ?_)
      refine T_if_ne 28 dX10_fault_20 (by decide) h (fun _ h => ?_) (fun _ h => ?_)
      · refine T_aload_n dX10_fault_28 rfl 0 rfl ?_
        refine T_bipush (59 : Int32) dX10_fault_29 (by decide) ?_
        refine T_callVI (As := [.int (59 : Int32)]) (rest := []) (b := a13) (ci := 9) dX10_fault_31 mc_X10_takes mi_X10_takes ml_RX10_193 rfl (fun _ hr => chk_of hr) rfl rfl (Nat.le_of_ble_eq_true rfl) ⟨⟨Nat.le_of_ble_eq_true rfl, Nat.le_of_ble_eq_true rfl⟩, ⟨Nat.le_of_ble_eq_true rfl, Nat.le_of_ble_eq_true rfl⟩⟩ K_X10_takes h (fun i19 s20 h => ?_)
        refine T_istore_n (lv' := [(1, .int i19), (0, .ref a13)]) dX10_fault_34 rfl (by decide) rfl ?_
        refine T_goto 12 dX10_fault_35 (by decide) ?_
        refine T_lv (lv' := [(0, .ref a13), (1, .int i19)]) [1, 0] rfl ?_
        exact ih i19 s20 h
      · refine T_aload_n dX10_fault_23 rfl 0 rfl ?_
        refine T_getI dX10_fault_24 fl_RX10_178 h (fun i21 h => ?_)
        exact T_ireturn dX10_fault_27 (Nat.le_of_ble_eq_true rfl) (Nat.le_of_ble_eq_true rfl) h
set_option maxRecDepth 100000 in
set_option maxHeartbeats 4000000 in
theorem K_X10_fault {l : Launch} {a0 : Nat} {s0 : Hp} : ∀ P, OK jI (D_X10_fault a0 s0) P → sm_Ct l yX10_fault cX10_fault 2 (some .int) 8 0 0 [.ref a0] s0 P := by
  intro P h
  unfold D_X10_fault at h
  obtain ⟨_, hb0, h⟩ := h.bind
  refine sm_enter (own := RX10) (lv := [(0, .ref a0)]) (by decide) rfl (Nat.le_of_ble_eq_true rfl) rfl (fun G => ?_)
  refine T_aload_n dX10_fault_0 rfl 0 rfl ?_
  refine T_iconst (0 : Int32) dX10_fault_1 (by decide) ?_
  refine T_putI dX10_fault_2 fl_RX10_178 ft_9_13 h (fun s11 h => ?_)
  refine T_aload_n dX10_fault_5 rfl 0 rfl ?_
  refine T_iconst (0 : Int32) dX10_fault_6 (by decide) ?_
  refine T_putZ dX10_fault_7 fl_RX10_196 ft_9_15 h (fun s12 h => ?_)
  refine T_iconst (1 : Int32) dX10_fault_10 (by decide) ?_
  refine T_istore_n (lv' := [(1, .int (1 : Int32)), (0, .ref a0)]) dX10_fault_11 rfl (by decide) rfl ?_
  refine T_lv (lv' := [(0, .ref a0), (1, .int (1 : Int32))]) [1, 0] rfl ?_
  refine K_X10_fault_w12 ?_ FU (1 : Int32) s12 h
  intro s23 h
  refine T_aload_n dX10_fault_38 rfl 0 rfl ?_
  refine T_getI dX10_fault_39 fl_RX10_178 h (fun i24 h => ?_)
  refine T_aload_n dX10_fault_42 rfl 0 rfl ?_
  refine T_getI dX10_fault_43 fl_RX10_169 h (fun i25 h => ?_)
  refine T_icmp_ne 54 dX10_fault_46 (by decide) h (fun _ h => ?_) (fun _ h => ?_)
  · refine T_aload_n dX10_fault_54 rfl 0 rfl ?_
    refine T_getI dX10_fault_55 fl_RX10_178 h (fun i26 h => ?_)
    exact T_ireturn dX10_fault_58 (Nat.le_of_ble_eq_true rfl) (Nat.le_of_ble_eq_true rfl) h
  · refine T_bipush (-6 : Int32) dX10_fault_49 (by decide) ?_
    refine T_goto 58 dX10_fault_51 (by decide) ?_
    exact T_ireturn dX10_fault_58 (Nat.le_of_ble_eq_true rfl) (Nat.le_of_ble_eq_true rfl) h

def D_X10_carryOut_b87 (k42 : Int32 → Int32 → Hp → Option (Int32 × Hp)) (a36 : Nat) (i37 : Int32) (i39 : Int32) (s38 : Hp) : Option (Int32 × Hp) :=
  k42 i37 i39 s38
def D_X10_carryOut_b86 (k42 : Int32 → Int32 → Hp → Option (Int32 × Hp)) (a33 : Nat) (i34 : Int32) (s35 : Hp) : Option (Int32 × Hp) :=
  D_X10_carryOut_b87 k42 a33 i34 (0 : Int32) s35
def D_X10_carryOut_b64 (k42 : Int32 → Int32 → Hp → Option (Int32 × Hp)) (a27 : Nat) (i29 : Int32) (i30 : Int32) (s28 : Hp) : Option (Int32 × Hp) :=
  nm (i30 + i29) fun i31 =>
  (getI s28 a27 9 16).bind fun i32 =>
  if i32 = 0 then
  bd (D_X10_takes a27 (59 : Int32) s28) fun i46 s47 =>
  if i46 = 0 then
  D_X10_carryOut_b86 k42 a27 i31 s47
  else
  D_X10_carryOut_b87 k42 a27 i31 (1 : Int32) s47
  else
  D_X10_carryOut_b86 k42 a27 i31 s28
def D_X10_carryOut_w42 (a19 : Nat) (k91 : Int32 → Hp → Option (Int32 × Hp)) : Nat → Int32 → Int32 → Hp → Option (Int32 × Hp)
  | 0, _, _, _ => none
  | n23 + 1, i20, i21, s22 =>
  if i21 = 0 then
  k91 i20 s22
  else
  bd (D_X10_readsOrder a19 s22) fun i24 s25 =>
  (getI s25 a19 9 16).bind fun i26 =>
  if i26 = 0 then
  D_X10_carryOut_b64 (D_X10_carryOut_w42 a19 k91 n23) a19 (1 : Int32) i20 s25
  else
  D_X10_carryOut_b64 (D_X10_carryOut_w42 a19 k91 n23) a19 (0 : Int32) i20 s25
def D_X10_carryOut (a0 : Nat) (s0 : Hp) : Option (Int32 × Hp) :=
  (isO s0 a0 9).bind fun _ =>
  bd (D_X10_fault a0 s0) fun i11 s12 =>
  if i11 = (-6 : Int32) then
  (getR s12 a0 9 0).bind fun a13 =>
  (getR s12 a0 9 1).bind fun a14 =>
  (D_X10_copy a13 a14 s12).bind fun s15 =>
  (putI s15 a0 9 13 (0 : Int32)).bind fun s16 =>
  (putZ s16 a0 9 15 (1 : Int32)).bind fun s17 =>
  (putI s17 a0 9 16 (0 : Int32)).bind fun s18 =>
  D_X10_carryOut_w42 a0 (fun i54 s53 =>
  (putI s53 a0 9 12 (0 : Int32)).bind fun s55 =>
  bd (D_X10_changed a0 i54 s55) fun i56 s57 =>
  some (i56, s57)
  ) FU (0 : Int32) (1 : Int32) s18
  else
  some ((-3 : Int32), s12)
set_option maxRecDepth 100000 in
set_option maxHeartbeats 4000000 in
theorem K_X10_carryOut_b87 {l : Launch} {G : smG} {P : Option Value → Hp → Prop} {k42 : Int32 → Int32 → Hp → Option (Int32 × Hp)} {a36 : Nat} {i37 : Int32} {i39 : Int32} {s38 : Hp} (hk42 : ∀ (i40 : Int32) (i41 : Int32) (s42 : Hp), OK jI (k42 i40 i41 s42) P → T l G RX10 cX10_carryOut 4 (sm_rm 9 0 0) (sm_E (some .int) yX10_carryOut.name) (sm_Qs G P 0 0) 0 0 42 [(0, .ref a36), (1, .int i40), (2, .int i41)] [] s42) (h : OK jI (D_X10_carryOut_b87 k42 a36 i37 i39 s38) P) : T l G RX10 cX10_carryOut 4 (sm_rm 9 0 0) (sm_E (some .int) yX10_carryOut.name) (sm_Qs G P 0 0) 0 0 87 [(0, .ref a36), (1, .int i37)] [.int i39] s38 := by
  unfold D_X10_carryOut_b87 at h
  refine T_istore_n (lv' := [(2, .int i39), (0, .ref a36), (1, .int i37)]) dX10_carryOut_87 rfl (by decide) rfl ?_
  refine T_goto 42 dX10_carryOut_88 (by decide) ?_
  refine T_lv (lv' := [(0, .ref a36), (1, .int i37), (2, .int i39)]) [1, 2, 0] rfl ?_
  exact hk42 i37 i39 s38 h
set_option maxRecDepth 100000 in
set_option maxHeartbeats 4000000 in
theorem K_X10_carryOut_b86 {l : Launch} {G : smG} {P : Option Value → Hp → Prop} {k42 : Int32 → Int32 → Hp → Option (Int32 × Hp)} {a33 : Nat} {i34 : Int32} {s35 : Hp} (hk42 : ∀ (i43 : Int32) (i44 : Int32) (s45 : Hp), OK jI (k42 i43 i44 s45) P → T l G RX10 cX10_carryOut 4 (sm_rm 9 0 0) (sm_E (some .int) yX10_carryOut.name) (sm_Qs G P 0 0) 0 0 42 [(0, .ref a33), (1, .int i43), (2, .int i44)] [] s45) (h : OK jI (D_X10_carryOut_b86 k42 a33 i34 s35) P) : T l G RX10 cX10_carryOut 4 (sm_rm 9 0 0) (sm_E (some .int) yX10_carryOut.name) (sm_Qs G P 0 0) 0 0 86 [(0, .ref a33), (1, .int i34)] [] s35 := by
  unfold D_X10_carryOut_b86 at h
  refine T_iconst (0 : Int32) dX10_carryOut_86 (by decide) ?_
  exact K_X10_carryOut_b87 hk42 h
set_option maxRecDepth 100000 in
set_option maxHeartbeats 4000000 in
theorem K_X10_carryOut_b64 {l : Launch} {G : smG} {P : Option Value → Hp → Prop} {k42 : Int32 → Int32 → Hp → Option (Int32 × Hp)} {a27 : Nat} {i29 : Int32} {i30 : Int32} {s28 : Hp} (hk42 : ∀ (i48 : Int32) (i49 : Int32) (s50 : Hp), OK jI (k42 i48 i49 s50) P → T l G RX10 cX10_carryOut 4 (sm_rm 9 0 0) (sm_E (some .int) yX10_carryOut.name) (sm_Qs G P 0 0) 0 0 42 [(0, .ref a27), (1, .int i48), (2, .int i49)] [] s50) (h : OK jI (D_X10_carryOut_b64 k42 a27 i29 i30 s28) P) : T l G RX10 cX10_carryOut 4 (sm_rm 9 0 0) (sm_E (some .int) yX10_carryOut.name) (sm_Qs G P 0 0) 0 0 64 [(0, .ref a27)] [.int i29, .int i30] s28 := by
  unfold D_X10_carryOut_b64 at h
  refine T_iadd dX10_carryOut_64 ?_
  refine T_nm h (fun i31 h => ?_)
  refine T_istore_n (lv' := [(1, .int i31), (0, .ref a27)]) dX10_carryOut_65 rfl (by decide) rfl ?_
  refine T_aload_n dX10_carryOut_66 rfl 1 rfl ?_
  refine T_getI dX10_carryOut_67 fl_RX10_187 h (fun i32 h => ?_)
  refine T_if_ne 86 dX10_carryOut_70 (by decide) h (fun _ h => ?_) (fun _ h => ?_)
  · refine T_lv (lv' := [(0, .ref a27), (1, .int i31)]) [1, 0] rfl ?_
    exact K_X10_carryOut_b86 hk42 h
  · refine T_aload_n dX10_carryOut_73 rfl 1 rfl ?_
    refine T_bipush (59 : Int32) dX10_carryOut_74 (by decide) ?_
    refine T_callVI (As := [.int (59 : Int32)]) (rest := []) (b := a27) (ci := 9) dX10_carryOut_76 mc_X10_takes mi_X10_takes ml_RX10_193 rfl (fun _ hr => chk_of hr) rfl rfl (Nat.le_of_ble_eq_true rfl) ⟨⟨Nat.le_of_ble_eq_true rfl, Nat.le_of_ble_eq_true rfl⟩, ⟨Nat.le_of_ble_eq_true rfl, Nat.le_of_ble_eq_true rfl⟩⟩ K_X10_takes h (fun i46 s47 h => ?_)
    refine T_if_eq 86 dX10_carryOut_79 (by decide) h (fun _ h => ?_) (fun _ h => ?_)
    · refine T_lv (lv' := [(0, .ref a27), (1, .int i31)]) [1, 0] rfl ?_
      exact K_X10_carryOut_b86 hk42 h
    · refine T_iconst (1 : Int32) dX10_carryOut_82 (by decide) ?_
      refine T_goto 87 dX10_carryOut_83 (by decide) ?_
      refine T_lv (lv' := [(0, .ref a27), (1, .int i31)]) [1, 0] rfl ?_
      exact K_X10_carryOut_b87 hk42 h
set_option maxRecDepth 100000 in
set_option maxHeartbeats 4000000 in
theorem K_X10_carryOut_w42 {l : Launch} {G : smG} {P : Option Value → Hp → Prop} {a19 : Nat} {k91 : Int32 → Hp → Option (Int32 × Hp)} (hk91 : ∀ (i51 : Int32) (s52 : Hp), OK jI (k91 i51 s52) P → T l G RX10 cX10_carryOut 4 (sm_rm 9 0 0) (sm_E (some .int) yX10_carryOut.name) (sm_Qs G P 0 0) 0 0 91 [(0, .ref a19), (1, .int i51)] [] s52) : ∀ (n : Nat) (i20 : Int32) (i21 : Int32) (s22 : Hp), OK jI (D_X10_carryOut_w42 a19 k91 n i20 i21 s22) P → T l G RX10 cX10_carryOut 4 (sm_rm 9 0 0) (sm_E (some .int) yX10_carryOut.name) (sm_Qs G P 0 0) 0 0 42 [(0, .ref a19), (1, .int i20), (2, .int i21)] [] s22 := by
  intro n
  induction n with
  | zero => intro i20 i21 s22 h; obtain ⟨_, h0, _⟩ := h; exact absurd h0 (by simp [D_X10_carryOut_w42])
  | succ n23 ih =>
    intro i20 i21 s22 h
    unfold D_X10_carryOut_w42 at h
    refine T_iload_n dX10_carryOut_42 rfl 2 rfl ?_
    refine T_if_eq 91 dX10_carryOut_43 (by decide) h (fun _ h => ?_) (fun _ h => ?_)
    · refine T_lv (lv' := [(0, .ref a19), (1, .int i20)]) [0, 1] rfl ?_
      exact hk91 i20 s22 h
    · refine T_aload_n dX10_carryOut_46 rfl 0 rfl ?_
      refine T_callVI (As := []) (rest := []) (b := a19) (ci := 9) dX10_carryOut_47 mc_X10_readsOrder mi_X10_readsOrder ml_RX10_209 rfl (fun _ hr => chk_of hr) rfl rfl (Nat.le_of_ble_eq_true rfl) ⟨⟨Nat.le_of_ble_eq_true rfl, Nat.le_of_ble_eq_true rfl⟩, ⟨Nat.le_of_ble_eq_true rfl, Nat.le_of_ble_eq_true rfl⟩⟩ K_X10_readsOrder h (fun i24 s25 h => ?_)
      refine T_istore_n (lv' := [(3, .int i24), (0, .ref a19), (1, .int i20), (2, .int i21)]) dX10_carryOut_50 rfl (by decide) rfl ?_
      refine T_iload_n dX10_carryOut_51 rfl 2 rfl ?_
      refine T_aload_n dX10_carryOut_52 rfl 1 rfl ?_
      refine T_getI dX10_carryOut_53 fl_RX10_187 h (fun i26 h => ?_)
      refine T_if_ne 63 dX10_carryOut_56 (by decide) h (fun _ h => ?_) (fun _ h => ?_)
      · refine T_iconst (0 : Int32) dX10_carryOut_63 (by decide) ?_
        refine T_lv (lv' := [(0, .ref a19)]) [1] rfl ?_
        exact K_X10_carryOut_b64 ih h
      · refine T_iconst (1 : Int32) dX10_carryOut_59 (by decide) ?_
        refine T_goto 64 dX10_carryOut_60 (by decide) ?_
        refine T_lv (lv' := [(0, .ref a19)]) [1] rfl ?_
        exact K_X10_carryOut_b64 ih h
set_option maxRecDepth 100000 in
set_option maxHeartbeats 4000000 in
theorem K_X10_carryOut {l : Launch} {a0 : Nat} {s0 : Hp} : ∀ P, OK jI (D_X10_carryOut a0 s0) P → sm_Ct l yX10_carryOut cX10_carryOut 4 (some .int) 9 0 0 [.ref a0] s0 P := by
  intro P h
  unfold D_X10_carryOut at h
  obtain ⟨_, hb0, h⟩ := h.bind
  refine sm_enter (own := RX10) (lv := [(0, .ref a0)]) (by decide) rfl (Nat.le_of_ble_eq_true rfl) rfl (fun G => ?_)
  refine T_aload_n dX10_carryOut_0 rfl 0 rfl ?_
  refine T_callVI (As := []) (rest := []) (b := a0) (ci := 9) dX10_carryOut_1 mc_X10_fault mi_X10_fault ml_RX10_212 rfl (fun _ hr => chk_of hr) rfl rfl (Nat.le_of_ble_eq_true rfl) ⟨⟨Nat.le_of_ble_eq_true rfl, Nat.le_of_ble_eq_true rfl⟩, ⟨Nat.le_of_ble_eq_true rfl, Nat.le_of_ble_eq_true rfl⟩⟩ K_X10_fault h (fun i11 s12 h => ?_)
  refine T_bipush (-6 : Int32) dX10_carryOut_4 (by decide) ?_
  refine T_icmp_eq 12 dX10_carryOut_6 (by decide) h (fun _ h => ?_) (fun _ h => ?_)
  · refine T_aload_n dX10_carryOut_12 rfl 0 rfl ?_
    refine T_getR dX10_carryOut_13 fl_RX10_7 h (fun a13 h => ?_)
    refine T_aload_n dX10_carryOut_16 rfl 0 rfl ?_
    refine T_getR dX10_carryOut_17 fl_RX10_13 h (fun a14 h => ?_)
    refine T_callSV (As := [.ref a13, .ref a14]) (rest := []) dX10_carryOut_20 mc_X10_copy mi_X10_copy ml_RX10_124 rfl rfl (Nat.le_of_ble_eq_true rfl) ⟨⟨Nat.le_of_ble_eq_true rfl, Nat.le_of_ble_eq_true rfl⟩, ⟨Nat.le_of_ble_eq_true rfl, Nat.le_of_ble_eq_true rfl⟩⟩ K_X10_copy h (fun s15 h => ?_)
    refine T_aload_n dX10_carryOut_23 rfl 0 rfl ?_
    refine T_iconst (0 : Int32) dX10_carryOut_24 (by decide) ?_
    refine T_putI dX10_carryOut_25 fl_RX10_178 ft_9_13 h (fun s16 h => ?_)
    refine T_aload_n dX10_carryOut_28 rfl 0 rfl ?_
    refine T_iconst (1 : Int32) dX10_carryOut_29 (by decide) ?_
    refine T_putZ dX10_carryOut_30 fl_RX10_196 ft_9_15 h (fun s17 h => ?_)
    refine T_aload_n dX10_carryOut_33 rfl 0 rfl ?_
    refine T_iconst (0 : Int32) dX10_carryOut_34 (by decide) ?_
    refine T_putI dX10_carryOut_35 fl_RX10_187 ft_9_16 h (fun s18 h => ?_)
    refine T_iconst (0 : Int32) dX10_carryOut_38 (by decide) ?_
    refine T_istore_n (lv' := [(1, .int (0 : Int32)), (0, .ref a0)]) dX10_carryOut_39 rfl (by decide) rfl ?_
    refine T_iconst (1 : Int32) dX10_carryOut_40 (by decide) ?_
    refine T_istore_n (lv' := [(2, .int (1 : Int32)), (1, .int (0 : Int32)), (0, .ref a0)]) dX10_carryOut_41 rfl (by decide) rfl ?_
    refine T_lv (lv' := [(0, .ref a0), (1, .int (0 : Int32)), (2, .int (1 : Int32))]) [2, 1, 0] rfl ?_
    refine K_X10_carryOut_w42 ?_ FU (0 : Int32) (1 : Int32) s18 h
    intro i54 s53 h
    refine T_aload_n dX10_carryOut_91 rfl 0 rfl ?_
    refine T_iconst (0 : Int32) dX10_carryOut_92 (by decide) ?_
    refine T_putI dX10_carryOut_93 fl_RX10_169 ft_9_12 h (fun s55 h => ?_)
    refine T_aload_n dX10_carryOut_96 rfl 0 rfl ?_
    refine T_iload_n dX10_carryOut_97 rfl 1 rfl ?_
    refine T_callVI (As := [.int i54]) (rest := []) (b := a0) (ci := 9) dX10_carryOut_98 mc_X10_changed mi_X10_changed ml_RX10_118 rfl (fun _ hr => chk_of hr) rfl rfl (Nat.le_of_ble_eq_true rfl) ⟨⟨Nat.le_of_ble_eq_true rfl, Nat.le_of_ble_eq_true rfl⟩, ⟨Nat.le_of_ble_eq_true rfl, Nat.le_of_ble_eq_true rfl⟩⟩ K_X10_changed h (fun i56 s57 h => ?_)
    exact T_ireturn dX10_carryOut_101 (Nat.le_of_ble_eq_true rfl) (Nat.le_of_ble_eq_true rfl) h
  · refine T_bipush (-3 : Int32) dX10_carryOut_9 (by decide) ?_
    exact T_ireturn dX10_carryOut_11 (Nat.le_of_ble_eq_true rfl) (Nat.le_of_ble_eq_true rfl) h
