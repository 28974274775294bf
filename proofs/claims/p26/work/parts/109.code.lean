def D_X0_columnForOneMore_w7 (a12 : Nat) (i13 : Int32) (i14 : Int32) (i15 : Int32) (k64 : Hp → Option (Int32 × Hp)) : Nat → Int32 → Hp → Option (Int32 × Hp)
  | 0, _, _ => none
  | n18 + 1, i16, s17 =>
  if (20 : Int32) ≤ i16 then
  k64 s17
  else
  (getR s17 a12 0 0).bind fun a19 =>
  bd (D_X2_mirrorIn a19 i13 i16 s17) fun i20 s21 =>
  if i20 = (-6 : Int32) then
  (getR s21 a12 0 1).bind fun a22 =>
  (getR s21 a12 0 0).bind fun a23 =>
  (D_X2_copy a22 a23 s21).bind fun s24 =>
  (getR s24 a12 0 1).bind fun a25 =>
  bd (D_X2_add a25 i13 i16 i14 s24) fun i26 s27 =>
  (D_X0_weigh a12 i16 s27).bind fun s28 =>
  D_X0_columnForOneMore_w7 a12 i13 i14 i15 k64 n18 (i16 + 1) s28
  else
  D_X0_columnForOneMore_w7 a12 i13 i14 i15 k64 n18 (i16 + 1) s21
def D_X0_columnForOneMore (a0 : Nat) (i1 : Int32) (i2 : Int32) (i3 : Int32) (s0 : Hp) : Option (Int32 × Hp) :=
  (isO s0 a0 0).bind fun _ =>
  (D_X0_forgetBest a0 s0).bind fun s11 =>
  D_X0_columnForOneMore_w7 a0 i1 i2 i3 (fun s30 =>
  bd (D_X0_answer a0 i3 s30) fun i31 s32 =>
  some (i31, s32)
  ) FU (0 : Int32) s11
set_option maxRecDepth 100000 in
set_option maxHeartbeats 4000000 in
theorem K_X0_columnForOneMore_w7 {l : Launch} {G : smG} {P : Option Value → Hp → Prop} {a12 : Nat} {i13 : Int32} {i14 : Int32} {i15 : Int32} {k64 : Hp → Option (Int32 × Hp)} (hk64 : ∀  (s29 : Hp), OK jI (k64 s29) P → T l G RX0 cX0_columnForOneMore 5 (sm_rm 6 0 0) (sm_E (some .int) yX0_columnForOneMore.name) (sm_Qs G P 0 0) 0 0 64 [(0, .ref a12), (3, .int i15)] [] s29) : ∀ (n : Nat) (i16 : Int32) (s17 : Hp), OK jI (D_X0_columnForOneMore_w7 a12 i13 i14 i15 k64 n i16 s17) P → T l G RX0 cX0_columnForOneMore 5 (sm_rm 6 0 0) (sm_E (some .int) yX0_columnForOneMore.name) (sm_Qs G P 0 0) 0 0 7 [(0, .ref a12), (1, .int i13), (2, .int i14), (3, .int i15), (4, .int i16)] [] s17 := by
  intro n
  induction n with
  | zero => intro i16 s17 h; obtain ⟨_, h0, _⟩ := h; exact absurd h0 (by simp [D_X0_columnForOneMore_w7])
  | succ n18 ih =>
    intro i16 s17 h
    unfold D_X0_columnForOneMore_w7 at h
    refine T_iload dX0_columnForOneMore_7 4 rfl ?_
    refine T_bipush (20 : Int32) dX0_columnForOneMore_9 (by decide) ?_
    refine T_icmp_ge 64 dX0_columnForOneMore_11 (by decide) h (fun _ h => ?_) (fun _ h => ?_)
    · refine T_lv (lv' := [(0, .ref a12), (3, .int i15)]) [0, 3] rfl ?_
      exact hk64 s17 h
    · refine T_aload_n dX0_columnForOneMore_14 rfl 0 rfl ?_
      refine T_getR dX0_columnForOneMore_15 fl_RX0_34 h (fun a19 h => ?_)
      refine T_iload_n dX0_columnForOneMore_18 rfl 1 rfl ?_
      refine T_iload dX0_columnForOneMore_19 4 rfl ?_
      refine T_callVI (As := [.int i13, .int i16]) (rest := []) (b := a19) (ci := 2) dX0_columnForOneMore_21 mc_X2_mirrorIn mi_X2_mirrorIn ml_RX0_57 rfl (fun _ hr => chk_of hr) rfl rfl (Nat.le_of_ble_eq_true rfl) ⟨⟨Nat.le_of_ble_eq_true rfl, Nat.le_of_ble_eq_true rfl⟩, ⟨Nat.le_of_ble_eq_true rfl, Nat.le_of_ble_eq_true rfl⟩⟩ K_X2_mirrorIn h (fun i20 s21 h => ?_)
      refine T_bipush (-6 : Int32) dX0_columnForOneMore_24 (by decide) ?_
      refine T_icmp_ne 58 dX0_columnForOneMore_26 (by decide) h (fun _ h => ?_) (fun _ h => ?_)
      · refine T_iinc (i16 + 1) (lv' := [(4, .int (i16 + 1)), (0, .ref a12), (1, .int i13), (2, .int i14), (3, .int i15)]) dX0_columnForOneMore_58 (j := 4) rfl rfl (by decide) rfl ?_
        refine T_goto 7 dX0_columnForOneMore_61 (by decide) ?_
        refine T_lv (lv' := [(0, .ref a12), (1, .int i13), (2, .int i14), (3, .int i15), (4, .int (i16 + 1))]) [1, 2, 3, 4, 0] rfl ?_
        exact ih (i16 + 1) s21 h
      · refine T_aload_n dX0_columnForOneMore_29 rfl 0 rfl ?_
        refine T_getR dX0_columnForOneMore_30 fl_RX0_12 h (fun a22 h => ?_)
        refine T_aload_n dX0_columnForOneMore_33 rfl 0 rfl ?_
        refine T_getR dX0_columnForOneMore_34 fl_RX0_34 h (fun a23 h => ?_)
        refine T_callVV (As := [.ref a23]) (rest := []) (b := a22) (ci := 2) dX0_columnForOneMore_37 mc_X2_copy mi_X2_copy ml_RX0_43 rfl (fun _ hr => chk_of hr) rfl rfl (Nat.le_of_ble_eq_true rfl) ⟨⟨Nat.le_of_ble_eq_true rfl, Nat.le_of_ble_eq_true rfl⟩, ⟨Nat.le_of_ble_eq_true rfl, Nat.le_of_ble_eq_true rfl⟩⟩ K_X2_copy h (fun s24 h => ?_)
        refine T_aload_n dX0_columnForOneMore_40 rfl 0 rfl ?_
        refine T_getR dX0_columnForOneMore_41 fl_RX0_12 h (fun a25 h => ?_)
        refine T_iload_n dX0_columnForOneMore_44 rfl 1 rfl ?_
        refine T_iload dX0_columnForOneMore_45 4 rfl ?_
        refine T_iload_n dX0_columnForOneMore_47 rfl 2 rfl ?_
        refine T_callVI (As := [.int i13, .int i16, .int i14]) (rest := []) (b := a25) (ci := 2) dX0_columnForOneMore_48 mc_X2_add mi_X2_add ml_RX0_61 rfl (fun _ hr => chk_of hr) rfl rfl (Nat.le_of_ble_eq_true rfl) ⟨⟨Nat.le_of_ble_eq_true rfl, Nat.le_of_ble_eq_true rfl⟩, ⟨Nat.le_of_ble_eq_true rfl, Nat.le_of_ble_eq_true rfl⟩⟩ K_X2_add h (fun i26 s27 h => ?_)
        refine T_pop dX0_columnForOneMore_51 rfl ?_
        refine T_aload_n dX0_columnForOneMore_52 rfl 0 rfl ?_
        refine T_iload dX0_columnForOneMore_53 4 rfl ?_
        refine T_callVV (As := [.int i16]) (rest := []) (b := a12) (ci := 0) dX0_columnForOneMore_55 mc_X0_weigh mi_X0_weigh ml_RX0_50 rfl (fun _ hr => chk_of hr) rfl rfl (Nat.le_of_ble_eq_true rfl) ⟨⟨Nat.le_of_ble_eq_true rfl, Nat.le_of_ble_eq_true rfl⟩, ⟨Nat.le_of_ble_eq_true rfl, Nat.le_of_ble_eq_true rfl⟩⟩ K_X0_weigh h (fun s28 h => ?_)
        refine T_iinc (i16 + 1) (lv' := [(4, .int (i16 + 1)), (0, .ref a12), (1, .int i13), (2, .int i14), (3, .int i15)]) dX0_columnForOneMore_58 (j := 4) rfl rfl (by decide) rfl ?_
        refine T_goto 7 dX0_columnForOneMore_61 (by decide) ?_
        refine T_lv (lv' := [(0, .ref a12), (1, .int i13), (2, .int i14), (3, .int i15), (4, .int (i16 + 1))]) [1, 2, 3, 4, 0] rfl ?_
        exact ih (i16 + 1) s28 h
set_option maxRecDepth 100000 in
set_option maxHeartbeats 4000000 in
theorem K_X0_columnForOneMore {l : Launch} {a0 : Nat} {i1 : Int32} {i2 : Int32} {i3 : Int32} {s0 : Hp} : ∀ P, OK jI (D_X0_columnForOneMore a0 i1 i2 i3 s0) P → sm_Ct l yX0_columnForOneMore cX0_columnForOneMore 5 (some .int) 6 0 0 [.ref a0, .int i1, .int i2, .int i3] s0 P := by
  intro P h
  unfold D_X0_columnForOneMore at h
  obtain ⟨_, hb0, h⟩ := h.bind
  refine sm_enter (own := RX0) (lv := [(0, .ref a0), (1, .int i1), (2, .int i2), (3, .int i3)]) (by decide) rfl (Nat.le_of_ble_eq_true rfl) rfl (fun G => ?_)
  refine T_aload_n dX0_columnForOneMore_0 rfl 0 rfl ?_
  refine T_callVV (As := []) (rest := []) (b := a0) (ci := 0) dX0_columnForOneMore_1 mc_X0_forgetBest mi_X0_forgetBest ml_RX0_37 rfl (fun _ hr => chk_of hr) rfl rfl (Nat.le_of_ble_eq_true rfl) ⟨⟨Nat.le_of_ble_eq_true rfl, Nat.le_of_ble_eq_true rfl⟩, ⟨Nat.le_of_ble_eq_true rfl, Nat.le_of_ble_eq_true rfl⟩⟩ K_X0_forgetBest h (fun s11 h => ?_)
  refine T_iconst (0 : Int32) dX0_columnForOneMore_4 (by decide) ?_
  refine T_istore (lv' := [(4, .int (0 : Int32)), (0, .ref a0), (1, .int i1), (2, .int i2), (3, .int i3)]) dX0_columnForOneMore_5 (by decide) rfl ?_
  refine T_lv (lv' := [(0, .ref a0), (1, .int i1), (2, .int i2), (3, .int i3), (4, .int (0 : Int32))]) [1, 2, 3, 4, 0] rfl ?_
  refine K_X0_columnForOneMore_w7 ?_ FU (0 : Int32) s11 h
  intro s30 h
  refine T_aload_n dX0_columnForOneMore_64 rfl 0 rfl ?_
  refine T_iload_n dX0_columnForOneMore_65 rfl 1 rfl ?_
  refine T_callVI (As := [.int i3]) (rest := []) (b := a0) (ci := 0) dX0_columnForOneMore_66 mc_X0_answer mi_X0_answer ml_RX0_54 rfl (fun _ hr => chk_of hr) rfl rfl (Nat.le_of_ble_eq_true rfl) ⟨⟨Nat.le_of_ble_eq_true rfl, Nat.le_of_ble_eq_true rfl⟩, ⟨Nat.le_of_ble_eq_true rfl, Nat.le_of_ble_eq_true rfl⟩⟩ K_X0_answer h (fun i31 s32 h => ?_)
  exact T_ireturn dX0_columnForOneMore_69 (Nat.le_of_ble_eq_true rfl) (Nat.le_of_ble_eq_true rfl) h

def D_X0_leastWorth_w6 (a12 : Nat) (i13 : Int32) (k48 : Hp → Option (Int32 × Hp)) : Nat → Int32 → Hp → Option (Int32 × Hp)
  | 0, _, _ => none
  | n16 + 1, i14, s15 =>
  (getR s15 a12 0 0).bind fun a17 =>
  (getI s15 a17 2 6).bind fun i18 =>
  if i18 ≤ i14 then
  k48 s15
  else
  (getR s15 a12 0 1).bind fun a19 =>
  (getR s15 a12 0 0).bind fun a20 =>
  (D_X2_copy a19 a20 s15).bind fun s21 =>
  (getR s21 a12 0 1).bind fun a22 =>
  bd (D_X2_remove a22 i14 s21) fun i23 s24 =>
  (D_X0_weigh a12 i14 s24).bind fun s25 =>
  D_X0_leastWorth_w6 a12 i13 k48 n16 (i14 + 1) s25
def D_X0_leastWorth (a0 : Nat) (i1 : Int32) (s0 : Hp) : Option (Int32 × Hp) :=
  (isO s0 a0 0).bind fun _ =>
  (D_X0_forgetBest a0 s0).bind fun s11 =>
  D_X0_leastWorth_w6 a0 i1 (fun s27 =>
  bd (D_X0_answer a0 i1 s27) fun i28 s29 =>
  some (i28, s29)
  ) FU (0 : Int32) s11
set_option maxRecDepth 100000 in
set_option maxHeartbeats 4000000 in
theorem K_X0_leastWorth_w6 {l : Launch} {G : smG} {P : Option Value → Hp → Prop} {a12 : Nat} {i13 : Int32} {k48 : Hp → Option (Int32 × Hp)} (hk48 : ∀  (s26 : Hp), OK jI (k48 s26) P → T l G RX0 cX0_leastWorth 3 (sm_rm 6 0 0) (sm_E (some .int) yX0_leastWorth.name) (sm_Qs G P 0 0) 0 0 48 [(0, .ref a12), (1, .int i13)] [] s26) : ∀ (n : Nat) (i14 : Int32) (s15 : Hp), OK jI (D_X0_leastWorth_w6 a12 i13 k48 n i14 s15) P → T l G RX0 cX0_leastWorth 3 (sm_rm 6 0 0) (sm_E (some .int) yX0_leastWorth.name) (sm_Qs G P 0 0) 0 0 6 [(0, .ref a12), (1, .int i13), (2, .int i14)] [] s15 := by
  intro n
  induction n with
  | zero => intro i14 s15 h; obtain ⟨_, h0, _⟩ := h; exact absurd h0 (by simp [D_X0_leastWorth_w6])
  | succ n16 ih =>
    intro i14 s15 h
    unfold D_X0_leastWorth_w6 at h
    refine T_iload_n dX0_leastWorth_6 rfl 2 rfl ?_
    refine T_aload_n dX0_leastWorth_7 rfl 0 rfl ?_
    refine T_getR dX0_leastWorth_8 fl_RX0_34 h (fun a17 h => ?_)
    refine T_getI dX0_leastWorth_11 fl_RX0_40 h (fun i18 h => ?_)
    refine T_icmp_ge 48 dX0_leastWorth_14 (by decide) h (fun _ h => ?_) (fun _ h => ?_)
    · refine T_lv (lv' := [(0, .ref a12), (1, .int i13)]) [0, 1] rfl ?_
      exact hk48 s15 h
    · refine T_aload_n dX0_leastWorth_17 rfl 0 rfl ?_
      refine T_getR dX0_leastWorth_18 fl_RX0_12 h (fun a19 h => ?_)
      refine T_aload_n dX0_leastWorth_21 rfl 0 rfl ?_
      refine T_getR dX0_leastWorth_22 fl_RX0_34 h (fun a20 h => ?_)
      refine T_callVV (As := [.ref a20]) (rest := []) (b := a19) (ci := 2) dX0_leastWorth_25 mc_X2_copy mi_X2_copy ml_RX0_43 rfl (fun _ hr => chk_of hr) rfl rfl (Nat.le_of_ble_eq_true rfl) ⟨⟨Nat.le_of_ble_eq_true rfl, Nat.le_of_ble_eq_true rfl⟩, ⟨Nat.le_of_ble_eq_true rfl, Nat.le_of_ble_eq_true rfl⟩⟩ K_X2_copy h (fun s21 h => ?_)
      refine T_aload_n dX0_leastWorth_28 rfl 0 rfl ?_
      refine T_getR dX0_leastWorth_29 fl_RX0_12 h (fun a22 h => ?_)
      refine T_iload_n dX0_leastWorth_32 rfl 2 rfl ?_
      refine T_callVI (As := [.int i14]) (rest := []) (b := a22) (ci := 2) dX0_leastWorth_33 mc_X2_remove mi_X2_remove ml_RX0_46 rfl (fun _ hr => chk_of hr) rfl rfl (Nat.le_of_ble_eq_true rfl) ⟨⟨Nat.le_of_ble_eq_true rfl, Nat.le_of_ble_eq_true rfl⟩, ⟨Nat.le_of_ble_eq_true rfl, Nat.le_of_ble_eq_true rfl⟩⟩ K_X2_remove h (fun i23 s24 h => ?_)
      refine T_pop dX0_leastWorth_36 rfl ?_
      refine T_aload_n dX0_leastWorth_37 rfl 0 rfl ?_
      refine T_iload_n dX0_leastWorth_38 rfl 2 rfl ?_
      refine T_callVV (As := [.int i14]) (rest := []) (b := a12) (ci := 0) dX0_leastWorth_39 mc_X0_weigh mi_X0_weigh ml_RX0_50 rfl (fun _ hr => chk_of hr) rfl rfl (Nat.le_of_ble_eq_true rfl) ⟨⟨Nat.le_of_ble_eq_true rfl, Nat.le_of_ble_eq_true rfl⟩, ⟨Nat.le_of_ble_eq_true rfl, Nat.le_of_ble_eq_true rfl⟩⟩ K_X0_weigh h (fun s25 h => ?_)
      refine T_iinc (i14 + 1) (lv' := [(2, .int (i14 + 1)), (0, .ref a12), (1, .int i13)]) dX0_leastWorth_42 (j := 2) rfl rfl (by decide) rfl ?_
      refine T_goto 6 dX0_leastWorth_45 (by decide) ?_
      refine T_lv (lv' := [(0, .ref a12), (1, .int i13), (2, .int (i14 + 1))]) [1, 2, 0] rfl ?_
      exact ih (i14 + 1) s25 h
set_option maxRecDepth 100000 in
set_option maxHeartbeats 4000000 in
theorem K_X0_leastWorth {l : Launch} {a0 : Nat} {i1 : Int32} {s0 : Hp} : ∀ P, OK jI (D_X0_leastWorth a0 i1 s0) P → sm_Ct l yX0_leastWorth cX0_leastWorth 3 (some .int) 6 0 0 [.ref a0, .int i1] s0 P := by
  intro P h
  unfold D_X0_leastWorth at h
  obtain ⟨_, hb0, h⟩ := h.bind
  refine sm_enter (own := RX0) (lv := [(0, .ref a0), (1, .int i1)]) (by decide) rfl (Nat.le_of_ble_eq_true rfl) rfl (fun G => ?_)
  refine T_aload_n dX0_leastWorth_0 rfl 0 rfl ?_
  refine T_callVV (As := []) (rest := []) (b := a0) (ci := 0) dX0_leastWorth_1 mc_X0_forgetBest mi_X0_forgetBest ml_RX0_37 rfl (fun _ hr => chk_of hr) rfl rfl (Nat.le_of_ble_eq_true rfl) ⟨⟨Nat.le_of_ble_eq_true rfl, Nat.le_of_ble_eq_true rfl⟩, ⟨Nat.le_of_ble_eq_true rfl, Nat.le_of_ble_eq_true rfl⟩⟩ K_X0_forgetBest h (fun s11 h => ?_)
  refine T_iconst (0 : Int32) dX0_leastWorth_4 (by decide) ?_
  refine T_istore_n (lv' := [(2, .int (0 : Int32)), (0, .ref a0), (1, .int i1)]) dX0_leastWorth_5 rfl (by decide) rfl ?_
  refine T_lv (lv' := [(0, .ref a0), (1, .int i1), (2, .int (0 : Int32))]) [1, 2, 0] rfl ?_
  refine K_X0_leastWorth_w6 ?_ FU (0 : Int32) s11 h
  intro s27 h
  refine T_aload_n dX0_leastWorth_48 rfl 0 rfl ?_
  refine T_iload_n dX0_leastWorth_49 rfl 1 rfl ?_
  refine T_callVI (As := [.int i1]) (rest := []) (b := a0) (ci := 0) dX0_leastWorth_50 mc_X0_answer mi_X0_answer ml_RX0_54 rfl (fun _ hr => chk_of hr) rfl rfl (Nat.le_of_ble_eq_true rfl) ⟨⟨Nat.le_of_ble_eq_true rfl, Nat.le_of_ble_eq_true rfl⟩, ⟨Nat.le_of_ble_eq_true rfl, Nat.le_of_ble_eq_true rfl⟩⟩ K_X0_answer h (fun i28 s29 h => ?_)
  exact T_ireturn dX0_leastWorth_53 (Nat.le_of_ble_eq_true rfl) (Nat.le_of_ble_eq_true rfl) h

def D_X0_mirrorToWash_w6 (a12 : Nat) (k48 : Hp → Option (Int32 × Hp)) : Nat → Int32 → Hp → Option (Int32 × Hp)
  | 0, _, _ => none
  | n15 + 1, i13, s14 =>
  (getR s14 a12 0 0).bind fun a16 =>
  (getI s14 a16 2 6).bind fun i17 =>
  if i17 ≤ i13 then
  k48 s14
  else
  (getR s14 a12 0 1).bind fun a18 =>
  (getR s14 a12 0 0).bind fun a19 =>
  (D_X2_copy a18 a19 s14).bind fun s20 =>
  (getR s20 a12 0 1).bind fun a21 =>
  bd (D_X2_clean a21 i13 s20) fun i22 s23 =>
  (D_X0_weigh a12 i13 s23).bind fun s24 =>
  D_X0_mirrorToWash_w6 a12 k48 n15 (i13 + 1) s24
def D_X0_mirrorToWash (a0 : Nat) (s0 : Hp) : Option (Int32 × Hp) :=
  (isO s0 a0 0).bind fun _ =>
  (D_X0_forgetBest a0 s0).bind fun s11 =>
  D_X0_mirrorToWash_w6 a0 (fun s26 =>
  bd (D_X0_answer a0 (0 : Int32) s26) fun i27 s28 =>
  some (i27, s28)
  ) FU (0 : Int32) s11
set_option maxRecDepth 100000 in
set_option maxHeartbeats 4000000 in
theorem K_X0_mirrorToWash_w6 {l : Launch} {G : smG} {P : Option Value → Hp → Prop} {a12 : Nat} {k48 : Hp → Option (Int32 × Hp)} (hk48 : ∀  (s25 : Hp), OK jI (k48 s25) P → T l G RX0 cX0_mirrorToWash 2 (sm_rm 6 0 0) (sm_E (some .int) yX0_mirrorToWash.name) (sm_Qs G P 0 0) 0 0 48 [(0, .ref a12)] [] s25) : ∀ (n : Nat) (i13 : Int32) (s14 : Hp), OK jI (D_X0_mirrorToWash_w6 a12 k48 n i13 s14) P → T l G RX0 cX0_mirrorToWash 2 (sm_rm 6 0 0) (sm_E (some .int) yX0_mirrorToWash.name) (sm_Qs G P 0 0) 0 0 6 [(0, .ref a12), (1, .int i13)] [] s14 := by
  intro n
  induction n with
  | zero => intro i13 s14 h; obtain ⟨_, h0, _⟩ := h; exact absurd h0 (by simp [D_X0_mirrorToWash_w6])
  | succ n15 ih =>
    intro i13 s14 h
    unfold D_X0_mirrorToWash_w6 at h
    refine T_iload_n dX0_mirrorToWash_6 rfl 1 rfl ?_
    refine T_aload_n dX0_mirrorToWash_7 rfl 0 rfl ?_
    refine T_getR dX0_mirrorToWash_8 fl_RX0_34 h (fun a16 h => ?_)
    refine T_getI dX0_mirrorToWash_11 fl_RX0_40 h (fun i17 h => ?_)
    refine T_icmp_ge 48 dX0_mirrorToWash_14 (by decide) h (fun _ h => ?_) (fun _ h => ?_)
    · refine T_lv (lv' := [(0, .ref a12)]) [0] rfl ?_
      exact hk48 s14 h
    · refine T_aload_n dX0_mirrorToWash_17 rfl 0 rfl ?_
      refine T_getR dX0_mirrorToWash_18 fl_RX0_12 h (fun a18 h => ?_)
      refine T_aload_n dX0_mirrorToWash_21 rfl 0 rfl ?_
      refine T_getR dX0_mirrorToWash_22 fl_RX0_34 h (fun a19 h => ?_)
      refine T_callVV (As := [.ref a19]) (rest := []) (b := a18) (ci := 2) dX0_mirrorToWash_25 mc_X2_copy mi_X2_copy ml_RX0_43 rfl (fun _ hr => chk_of hr) rfl rfl (Nat.le_of_ble_eq_true rfl) ⟨⟨Nat.le_of_ble_eq_true rfl, Nat.le_of_ble_eq_true rfl⟩, ⟨Nat.le_of_ble_eq_true rfl, Nat.le_of_ble_eq_true rfl⟩⟩ K_X2_copy h (fun s20 h => ?_)
      refine T_aload_n dX0_mirrorToWash_28 rfl 0 rfl ?_
      refine T_getR dX0_mirrorToWash_29 fl_RX0_12 h (fun a21 h => ?_)
      refine T_iload_n dX0_mirrorToWash_32 rfl 1 rfl ?_
      refine T_callVI (As := [.int i13]) (rest := []) (b := a21) (ci := 2) dX0_mirrorToWash_33 mc_X2_clean mi_X2_clean ml_RX0_65 rfl (fun _ hr => chk_of hr) rfl rfl (Nat.le_of_ble_eq_true rfl) ⟨⟨Nat.le_of_ble_eq_true rfl, Nat.le_of_ble_eq_true rfl⟩, ⟨Nat.le_of_ble_eq_true rfl, Nat.le_of_ble_eq_true rfl⟩⟩ K_X2_clean h (fun i22 s23 h => ?_)
      refine T_pop dX0_mirrorToWash_36 rfl ?_
      refine T_aload_n dX0_mirrorToWash_37 rfl 0 rfl ?_
      refine T_iload_n dX0_mirrorToWash_38 rfl 1 rfl ?_
      refine T_callVV (As := [.int i13]) (rest := []) (b := a12) (ci := 0) dX0_mirrorToWash_39 mc_X0_weigh mi_X0_weigh ml_RX0_50 rfl (fun _ hr => chk_of hr) rfl rfl (Nat.le_of_ble_eq_true rfl) ⟨⟨Nat.le_of_ble_eq_true rfl, Nat.le_of_ble_eq_true rfl⟩, ⟨Nat.le_of_ble_eq_true rfl, Nat.le_of_ble_eq_true rfl⟩⟩ K_X0_weigh h (fun s24 h => ?_)
      refine T_iinc (i13 + 1) (lv' := [(1, .int (i13 + 1)), (0, .ref a12)]) dX0_mirrorToWash_42 (j := 1) rfl rfl (by decide) rfl ?_
      refine T_goto 6 dX0_mirrorToWash_45 (by decide) ?_
      refine T_lv (lv' := [(0, .ref a12), (1, .int (i13 + 1))]) [1, 0] rfl ?_
      exact ih (i13 + 1) s24 h
set_option maxRecDepth 100000 in
set_option maxHeartbeats 4000000 in
theorem K_X0_mirrorToWash {l : Launch} {a0 : Nat} {s0 : Hp} : ∀ P, OK jI (D_X0_mirrorToWash a0 s0) P → sm_Ct l yX0_mirrorToWash cX0_mirrorToWash 2 (some .int) 6 0 0 [.ref a0] s0 P := by
  intro P h
  unfold D_X0_mirrorToWash at h
  obtain ⟨_, hb0, h⟩ := h.bind
  refine sm_enter (own := RX0) (lv := [(0, .ref a0)]) (by decide) rfl (Nat.le_of_ble_eq_true rfl) rfl (fun G => ?_)
  refine T_aload_n dX0_mirrorToWash_0 rfl 0 rfl ?_
  refine T_callVV (As := []) (rest := []) (b := a0) (ci := 0) dX0_mirrorToWash_1 mc_X0_forgetBest mi_X0_forgetBest ml_RX0_37 rfl (fun _ hr => chk_of hr) rfl rfl (Nat.le_of_ble_eq_true rfl) ⟨⟨Nat.le_of_ble_eq_true rfl, Nat.le_of_ble_eq_true rfl⟩, ⟨Nat.le_of_ble_eq_true rfl, Nat.le_of_ble_eq_true rfl⟩⟩ K_X0_forgetBest h (fun s11 h => ?_)
  refine T_iconst (0 : Int32) dX0_mirrorToWash_4 (by decide) ?_
  refine T_istore_n (lv' := [(1, .int (0 : Int32)), (0, .ref a0)]) dX0_mirrorToWash_5 rfl (by decide) rfl ?_
  refine T_lv (lv' := [(0, .ref a0), (1, .int (0 : Int32))]) [1, 0] rfl ?_
  refine K_X0_mirrorToWash_w6 ?_ FU (0 : Int32) s11 h
  intro s26 h
  refine T_aload_n dX0_mirrorToWash_48 rfl 0 rfl ?_
  refine T_iconst (0 : Int32) dX0_mirrorToWash_49 (by decide) ?_
  refine T_callVI (As := [.int (0 : Int32)]) (rest := []) (b := a0) (ci := 0) dX0_mirrorToWash_50 mc_X0_answer mi_X0_answer ml_RX0_54 rfl (fun _ hr => chk_of hr) rfl rfl (Nat.le_of_ble_eq_true rfl) ⟨⟨Nat.le_of_ble_eq_true rfl, Nat.le_of_ble_eq_true rfl⟩, ⟨Nat.le_of_ble_eq_true rfl, Nat.le_of_ble_eq_true rfl⟩⟩ K_X0_answer h (fun i27 s28 h => ?_)
  exact T_ireturn dX0_mirrorToWash_53 (Nat.le_of_ble_eq_true rfl) (Nat.le_of_ble_eq_true rfl) h

def D_X9_bestColumn (a0 : Nat) (i1 : Int32) (i2 : Int32) (i3 : Int32) (s0 : Hp) : Option (Int32 × Hp) :=
  (isO s0 a0 8).bind fun _ =>
  bd (D_X9_isPlace i1 (0 : Int32) s0) fun i11 s12 =>
  if i11 = 0 then
  some ((-2 : Int32), s12)
  else
  bd (D_X9_isAimPoint i2 s12) fun i13 s14 =>
  if i13 = 0 then
  some ((-2 : Int32), s14)
  else
  bd (D_X9_isChoice i3 s14) fun i15 s16 =>
  if i15 = 0 then
  some ((-2 : Int32), s16)
  else
  (getR s16 a0 8 2).bind fun a17 =>
  bd (D_X0_columnForOneMore a17 i1 i2 i3 s16) fun i18 s19 =>
  some (i18, s19)
set_option maxRecDepth 100000 in
set_option maxHeartbeats 4000000 in
theorem K_X9_bestColumn {l : Launch} {a0 : Nat} {i1 : Int32} {i2 : Int32} {i3 : Int32} {s0 : Hp} : ∀ P, OK jI (D_X9_bestColumn a0 i1 i2 i3 s0) P → sm_Ct l yX9_bestColumn cX9_bestColumn 4 (some .int) 7 0 0 [.ref a0, .int i1, .int i2, .int i3] s0 P := by
  intro P h
  unfold D_X9_bestColumn at h
  obtain ⟨_, hb0, h⟩ := h.bind
  refine sm_enter (own := RX9) (lv := [(0, .ref a0), (1, .int i1), (2, .int i2), (3, .int i3)]) (by decide) rfl (Nat.le_of_ble_eq_true rfl) rfl (fun G => ?_)
  refine T_iload_n dX9_bestColumn_0 rfl 1 rfl ?_
  refine T_iconst (0 : Int32) dX9_bestColumn_1 (by decide) ?_
  refine T_callSI (As := [.int i1, .int (0 : Int32)]) (rest := []) dX9_bestColumn_2 mc_X9_isPlace mi_X9_isPlace ml_RX9_193 rfl rfl (Nat.le_of_ble_eq_true rfl) ⟨⟨Nat.le_of_ble_eq_true rfl, Nat.le_of_ble_eq_true rfl⟩, ⟨Nat.le_of_ble_eq_true rfl, Nat.le_of_ble_eq_true rfl⟩⟩ K_X9_isPlace h (fun i11 s12 h => ?_)
  refine T_if_eq 22 dX9_bestColumn_5 (by decide) h (fun _ h => ?_) (fun _ h => ?_)
  · refine T_bipush (-2 : Int32) dX9_bestColumn_22 (by decide) ?_
    exact T_ireturn dX9_bestColumn_24 (Nat.le_of_ble_eq_true rfl) (Nat.le_of_ble_eq_true rfl) h
  · refine T_iload_n dX9_bestColumn_8 rfl 2 rfl ?_
    refine T_callSI (As := [.int i2]) (rest := []) dX9_bestColumn_9 mc_X9_isAimPoint mi_X9_isAimPoint ml_RX9_146 rfl rfl (Nat.le_of_ble_eq_true rfl) ⟨⟨Nat.le_of_ble_eq_true rfl, Nat.le_of_ble_eq_true rfl⟩, ⟨Nat.le_of_ble_eq_true rfl, Nat.le_of_ble_eq_true rfl⟩⟩ K_X9_isAimPoint h (fun i13 s14 h => ?_)
    refine T_if_eq 22 dX9_bestColumn_12 (by decide) h (fun _ h => ?_) (fun _ h => ?_)
    · refine T_bipush (-2 : Int32) dX9_bestColumn_22 (by decide) ?_
      exact T_ireturn dX9_bestColumn_24 (Nat.le_of_ble_eq_true rfl) (Nat.le_of_ble_eq_true rfl) h
    · refine T_iload_n dX9_bestColumn_15 rfl 3 rfl ?_
      refine T_callSI (As := [.int i3]) (rest := []) dX9_bestColumn_16 mc_X9_isChoice mi_X9_isChoice ml_RX9_200 rfl rfl (Nat.le_of_ble_eq_true rfl) ⟨⟨Nat.le_of_ble_eq_true rfl, Nat.le_of_ble_eq_true rfl⟩, ⟨Nat.le_of_ble_eq_true rfl, Nat.le_of_ble_eq_true rfl⟩⟩ K_X9_isChoice h (fun i15 s16 h => ?_)
      refine T_if_ne 25 dX9_bestColumn_19 (by decide) h (fun _ h => ?_) (fun _ h => ?_)
      · refine T_aload_n dX9_bestColumn_25 rfl 0 rfl ?_
        refine T_getR dX9_bestColumn_26 fl_RX9_28 h (fun a17 h => ?_)
        refine T_iload_n dX9_bestColumn_29 rfl 1 rfl ?_
        refine T_iload_n dX9_bestColumn_30 rfl 2 rfl ?_
        refine T_iload_n dX9_bestColumn_31 rfl 3 rfl ?_
        refine T_callVI (As := [.int i1, .int i2, .int i3]) (rest := []) (b := a17) (ci := 0) dX9_bestColumn_32 mc_X0_columnForOneMore mi_X0_columnForOneMore ml_RX9_206 rfl (fun _ hr => chk_of hr) rfl rfl (Nat.le_of_ble_eq_true rfl) ⟨⟨Nat.le_of_ble_eq_true rfl, Nat.le_of_ble_eq_true rfl⟩, ⟨Nat.le_of_ble_eq_true rfl, Nat.le_of_ble_eq_true rfl⟩⟩ K_X0_columnForOneMore h (fun i18 s19 h => ?_)
        exact T_ireturn dX9_bestColumn_35 (Nat.le_of_ble_eq_true rfl) (Nat.le_of_ble_eq_true rfl) h
      · refine T_bipush (-2 : Int32) dX9_bestColumn_22 (by decide) ?_
        exact T_ireturn dX9_bestColumn_24 (Nat.le_of_ble_eq_true rfl) (Nat.le_of_ble_eq_true rfl) h

def D_X9_toWash (a0 : Nat) (s0 : Hp) : Option (Int32 × Hp) :=
  (isO s0 a0 8).bind fun _ =>
  (getR s0 a0 8 2).bind fun a11 =>
  bd (D_X0_mirrorToWash a11 s0) fun i12 s13 =>
  some (i12, s13)
set_option maxRecDepth 100000 in
set_option maxHeartbeats 4000000 in
theorem K_X9_toWash {l : Launch} {a0 : Nat} {s0 : Hp} : ∀ P, OK jI (D_X9_toWash a0 s0) P → sm_Ct l yX9_toWash cX9_toWash 1 (some .int) 7 0 0 [.ref a0] s0 P := by
  intro P h
  unfold D_X9_toWash at h
  obtain ⟨_, hb0, h⟩ := h.bind
  refine sm_enter (own := RX9) (lv := [(0, .ref a0)]) (by decide) rfl (Nat.le_of_ble_eq_true rfl) rfl (fun G => ?_)
  refine T_aload_n dX9_toWash_0 rfl 0 rfl ?_
  refine T_getR dX9_toWash_1 fl_RX9_28 h (fun a11 h => ?_)
  refine T_callVI (As := []) (rest := []) (b := a11) (ci := 0) dX9_toWash_4 mc_X0_mirrorToWash mi_X0_mirrorToWash ml_RX9_209 rfl (fun _ hr => chk_of hr) rfl rfl (Nat.le_of_ble_eq_true rfl) ⟨⟨Nat.le_of_ble_eq_true rfl, Nat.le_of_ble_eq_true rfl⟩, ⟨Nat.le_of_ble_eq_true rfl, Nat.le_of_ble_eq_true rfl⟩⟩ K_X0_mirrorToWash h (fun i12 s13 h => ?_)
  exact T_ireturn dX9_toWash_7 (Nat.le_of_ble_eq_true rfl) (Nat.le_of_ble_eq_true rfl) h

def D_X9_worthLeast (a0 : Nat) (i1 : Int32) (s0 : Hp) : Option (Int32 × Hp) :=
  (isO s0 a0 8).bind fun _ =>
  bd (D_X9_isChoice i1 s0) fun i11 s12 =>
  if i11 = 0 then
  some ((-2 : Int32), s12)
  else
  (getR s12 a0 8 2).bind fun a13 =>
  bd (D_X0_leastWorth a13 i1 s12) fun i14 s15 =>
  some (i14, s15)
set_option maxRecDepth 100000 in
set_option maxHeartbeats 4000000 in
theorem K_X9_worthLeast {l : Launch} {a0 : Nat} {i1 : Int32} {s0 : Hp} : ∀ P, OK jI (D_X9_worthLeast a0 i1 s0) P → sm_Ct l yX9_worthLeast cX9_worthLeast 2 (some .int) 7 0 0 [.ref a0, .int i1] s0 P := by
  intro P h
  unfold D_X9_worthLeast at h
  obtain ⟨_, hb0, h⟩ := h.bind
  refine sm_enter (own := RX9) (lv := [(0, .ref a0), (1, .int i1)]) (by decide) rfl (Nat.le_of_ble_eq_true rfl) rfl (fun G => ?_)
  refine T_iload_n dX9_worthLeast_0 rfl 1 rfl ?_
  refine T_callSI (As := [.int i1]) (rest := []) dX9_worthLeast_1 mc_X9_isChoice mi_X9_isChoice ml_RX9_200 rfl rfl (Nat.le_of_ble_eq_true rfl) ⟨⟨Nat.le_of_ble_eq_true rfl, Nat.le_of_ble_eq_true rfl⟩, ⟨Nat.le_of_ble_eq_true rfl, Nat.le_of_ble_eq_true rfl⟩⟩ K_X9_isChoice h (fun i11 s12 h => ?_)
  refine T_if_eq 18 dX9_worthLeast_4 (by decide) h (fun _ h => ?_) (fun _ h => ?_)
  · refine T_bipush (-2 : Int32) dX9_worthLeast_18 (by decide) ?_
    exact T_ireturn dX9_worthLeast_20 (Nat.le_of_ble_eq_true rfl) (Nat.le_of_ble_eq_true rfl) h
  · refine T_aload_n dX9_worthLeast_7 rfl 0 rfl ?_
    refine T_getR dX9_worthLeast_8 fl_RX9_28 h (fun a13 h => ?_)
    refine T_iload_n dX9_worthLeast_11 rfl 1 rfl ?_
    refine T_callVI (As := [.int i1]) (rest := []) (b := a13) (ci := 0) dX9_worthLeast_12 mc_X0_leastWorth mi_X0_leastWorth ml_RX9_203 rfl (fun _ hr => chk_of hr) rfl rfl (Nat.le_of_ble_eq_true rfl) ⟨⟨Nat.le_of_ble_eq_true rfl, Nat.le_of_ble_eq_true rfl⟩, ⟨Nat.le_of_ble_eq_true rfl, Nat.le_of_ble_eq_true rfl⟩⟩ K_X0_leastWorth h (fun i14 s15 h => ?_)
    refine T_goto 20 dX9_worthLeast_15 (by decide) ?_
    exact T_ireturn dX9_worthLeast_20 (Nat.le_of_ble_eq_true rfl) (Nat.le_of_ble_eq_true rfl) h

def D_L_isFound_b149  (a40 : Nat) (i41 : Int32) (i42 : Int32) (i44 : Int32) (s43 : Hp) : Option (Int32 × Hp) :=
  if i44 = 0 then
  retZ (0 : Int32) ((0 : Int32), s43)
  else
  bd (D_X9_wash a40 (0 : Int32) s43) fun i45 s46 =>
  if i45 < (-1 : Int32) then
  retZ (0 : Int32) ((0 : Int32), s46)
  else
  if i42 = 0 then
  bd (D_X9_mirror a40 i41 (10 : Int32) (0 : Int32) s46) fun i49 s50 =>
  if i49 = 0 then
  bd (D_X9_undo a40 s50) fun i51 s52 =>
  if i51 < 0 then
  retZ (0 : Int32) ((0 : Int32), s52)
  else
  retZ (1 : Int32) ((1 : Int32), s52)
  else
  retZ (0 : Int32) ((0 : Int32), s50)
  else
  bd (D_X9_undo a40 s46) fun i47 s48 =>
  if i47 < 0 then
  retZ (0 : Int32) ((0 : Int32), s48)
  else
  retZ (1 : Int32) ((1 : Int32), s48)
def D_L_isFound_b148  (a36 : Nat) (i37 : Int32) (i38 : Int32) (s39 : Hp) : Option (Int32 × Hp) :=
  D_L_isFound_b149 a36 i37 i38 (0 : Int32) s39
def D_L_isFound_b71  (a26 : Nat) (a27 : Nat) (i28 : Int32) (i29 : Int32) (i30 : Int32) (i31 : Int32) (i33 : Int32) (s32 : Hp) : Option (Int32 × Hp) :=
  bd (D_X9_count a26 (1 : Int32) s32) fun i34 s35 =>
  if i30 = (-6 : Int32) then
  retZ i33 (i33, s35)
  else
  if i34 = (24 : Int32) then
  retZ i33 (i33, s35)
  else
  if i33 = 0 then
  D_L_isFound_b148 a27 i28 i34 s35
  else
  bd (D_X9_in a26 i28 i30 s35) fun i53 s54 =>
  if i53 = (-6 : Int32) then
  bd (D_X9_mirror a26 i28 i30 i29 s54) fun i55 s56 =>
  if i55 = i34 then
  bd (D_X9_count a26 (5 : Int32) s56) fun i57 s58 =>
  if i57 = i31 then
  bd (D_X9_undo a26 s58) fun i59 s60 =>
  if i59 < 0 then
  D_L_isFound_b148 a27 i28 i34 s60
  else
  D_L_isFound_b149 a27 i28 i34 (1 : Int32) s60
  else
  D_L_isFound_b148 a27 i28 i34 s58
  else
  D_L_isFound_b148 a27 i28 i34 s56
  else
  D_L_isFound_b148 a27 i28 i34 s54
def D_L_isFound_b70  (a19 : Nat) (a20 : Nat) (i21 : Int32) (i22 : Int32) (i23 : Int32) (i24 : Int32) (s25 : Hp) : Option (Int32 × Hp) :=
  D_L_isFound_b71 a19 a20 i21 i22 i23 i24 (0 : Int32) s25
def D_L_isFound (a0 : Nat) (a1 : Nat) (i2 : Int32) (i3 : Int32) (s0 : Hp) : Option (Int32 × Hp) :=
  bd (D_X9_bestColumn a0 i2 i3 (0 : Int32) s0) fun i11 s12 =>
  bd (D_X9_bestColumn a0 i2 i3 (1 : Int32) s12) fun i13 s14 =>
  bd (D_X9_worthLeast a0 (0 : Int32) s14) fun i15 s16 =>
  bd (D_X9_worthLeast a1 (0 : Int32) s16) fun i17 s18 =>
  if i15 = i17 then
  bd (D_X9_worthLeast a0 (1 : Int32) s18) fun i61 s62 =>
  bd (D_X9_worthLeast a1 (1 : Int32) s62) fun i63 s64 =>
  if i61 = i63 then
  bd (D_X9_toWash a0 s64) fun i65 s66 =>
  bd (D_X9_toWash a1 s66) fun i67 s68 =>
  if i65 = i67 then
  bd (D_X9_leastLimit a0 s68) fun i69 s70 =>
  bd (D_X9_leastLimit a1 s70) fun i71 s72 =>
  if i69 = i71 then
  D_L_isFound_b71 a0 a1 i2 i3 i11 i13 (1 : Int32) s72
  else
  D_L_isFound_b70 a0 a1 i2 i3 i11 i13 s72
  else
  D_L_isFound_b70 a0 a1 i2 i3 i11 i13 s68
  else
  D_L_isFound_b70 a0 a1 i2 i3 i11 i13 s64
  else
  D_L_isFound_b70 a0 a1 i2 i3 i11 i13 s18
set_option maxRecDepth 100000 in
set_option maxHeartbeats 4000000 in
theorem K_L_isFound_b149 {l : Launch} {G : smG} {P : Option Value → Hp → Prop}  {a40 : Nat} {i41 : Int32} {i42 : Int32} {i44 : Int32} {s43 : Hp}  (h : OK jI (D_L_isFound_b149 a40 i41 i42 i44 s43) P) : T l G RL cL_isFound 8 (sm_rm 8 0 0) (sm_E (some .boolean) yL_isFound.name) (sm_Qs G P 0 0) 0 0 149 [(1, .ref a40), (2, .int i41), (7, .int i42)] [.int i44] s43 := by
  unfold D_L_isFound_b149 at h
  refine T_istore (lv' := [(6, .int i44), (1, .ref a40), (2, .int i41), (7, .int i42)]) dL_isFound_149 (by decide) rfl ?_
  refine T_iload dL_isFound_151 0 rfl ?_
  refine T_if_eq 202 dL_isFound_153 (by decide) h (fun _ h => ?_) (fun _ h => ?_)
  · refine T_iconst (0 : Int32) dL_isFound_202 (by decide) ?_
    exact T_zreturn dL_isFound_203 (Nat.le_of_ble_eq_true rfl) (Nat.le_of_ble_eq_true rfl) h
  · refine T_aload_n dL_isFound_156 rfl 1 rfl ?_
    refine T_iconst (0 : Int32) dL_isFound_157 (by decide) ?_
    refine T_callVI (As := [.int (0 : Int32)]) (rest := []) (b := a40) (ci := 8) dL_isFound_158 mc_X9_wash mi_X9_wash ml_RL_37 rfl (fun _ hr => chk_of hr) rfl rfl (Nat.le_of_ble_eq_true rfl) ⟨⟨Nat.le_of_ble_eq_true rfl, Nat.le_of_ble_eq_true rfl⟩, ⟨Nat.le_of_ble_eq_true rfl, Nat.le_of_ble_eq_true rfl⟩⟩ K_X9_wash h (fun i45 s46 h => ?_)
    refine T_iconst (-1 : Int32) dL_isFound_161 (by decide) ?_
    refine T_icmp_lt 202 dL_isFound_162 (by decide) h (fun _ h => ?_) (fun _ h => ?_)
    · refine T_iconst (0 : Int32) dL_isFound_202 (by decide) ?_
      exact T_zreturn dL_isFound_203 (Nat.le_of_ble_eq_true rfl) (Nat.le_of_ble_eq_true rfl) h
    · refine T_iload dL_isFound_165 3 rfl ?_
      refine T_if_ne 191 dL_isFound_167 (by decide) h (fun _ h => ?_) (fun _ h => ?_)
      · refine T_aload_n dL_isFound_191 rfl 1 rfl ?_
        refine T_callVI (As := []) (rest := []) (b := a40) (ci := 8) dL_isFound_192 mc_X9_undo mi_X9_undo ml_RL_49 rfl (fun _ hr => chk_of hr) rfl rfl (Nat.le_of_ble_eq_true rfl) ⟨⟨Nat.le_of_ble_eq_true rfl, Nat.le_of_ble_eq_true rfl⟩, ⟨Nat.le_of_ble_eq_true rfl, Nat.le_of_ble_eq_true rfl⟩⟩ K_X9_undo h (fun i47 s48 h => ?_)
        refine T_if_lt 202 dL_isFound_195 (by decide) h (fun _ h => ?_) (fun _ h => ?_)
        · refine T_iconst (0 : Int32) dL_isFound_202 (by decide) ?_
          exact T_zreturn dL_isFound_203 (Nat.le_of_ble_eq_true rfl) (Nat.le_of_ble_eq_true rfl) h
        · refine T_iconst (1 : Int32) dL_isFound_198 (by decide) ?_
          refine T_goto 203 dL_isFound_199 (by decide) ?_
          exact T_zreturn dL_isFound_203 (Nat.le_of_ble_eq_true rfl) (Nat.le_of_ble_eq_true rfl) h
      · refine T_aload_n dL_isFound_170 rfl 1 rfl ?_
        refine T_iload_n dL_isFound_171 rfl 2 rfl ?_
        refine T_bipush (10 : Int32) dL_isFound_172 (by decide) ?_
        refine T_iconst (0 : Int32) dL_isFound_174 (by decide) ?_
        refine T_callVI (As := [.int i41, .int (10 : Int32), .int (0 : Int32)]) (rest := []) (b := a40) (ci := 8) dL_isFound_175 mc_X9_mirror mi_X9_mirror ml_RL_24 rfl (fun _ hr => chk_of hr) rfl rfl (Nat.le_of_ble_eq_true rfl) ⟨⟨Nat.le_of_ble_eq_true rfl, Nat.le_of_ble_eq_true rfl⟩, ⟨Nat.le_of_ble_eq_true rfl, Nat.le_of_ble_eq_true rfl⟩⟩ K_X9_mirror h (fun i49 s50 h => ?_)
        refine T_if_ne 202 dL_isFound_178 (by decide) h (fun _ h => ?_) (fun _ h => ?_)
        · refine T_iconst (0 : Int32) dL_isFound_202 (by decide) ?_
          exact T_zreturn dL_isFound_203 (Nat.le_of_ble_eq_true rfl) (Nat.le_of_ble_eq_true rfl) h
        · refine T_aload_n dL_isFound_181 rfl 1 rfl ?_
          refine T_callVI (As := []) (rest := []) (b := a40) (ci := 8) dL_isFound_182 mc_X9_undo mi_X9_undo ml_RL_49 rfl (fun _ hr => chk_of hr) rfl rfl (Nat.le_of_ble_eq_true rfl) ⟨⟨Nat.le_of_ble_eq_true rfl, Nat.le_of_ble_eq_true rfl⟩, ⟨Nat.le_of_ble_eq_true rfl, Nat.le_of_ble_eq_true rfl⟩⟩ K_X9_undo h (fun i51 s52 h => ?_)
          refine T_if_lt 202 dL_isFound_185 (by decide) h (fun _ h => ?_) (fun _ h => ?_)
          · refine T_iconst (0 : Int32) dL_isFound_202 (by decide) ?_
            exact T_zreturn dL_isFound_203 (Nat.le_of_ble_eq_true rfl) (Nat.le_of_ble_eq_true rfl) h
          · refine T_goto 198 dL_isFound_188 (by decide) ?_
            refine T_iconst (1 : Int32) dL_isFound_198 (by decide) ?_
            refine T_goto 203 dL_isFound_199 (by decide) ?_
            exact T_zreturn dL_isFound_203 (Nat.le_of_ble_eq_true rfl) (Nat.le_of_ble_eq_true rfl) h
set_option maxRecDepth 100000 in
set_option maxHeartbeats 4000000 in
theorem K_L_isFound_b148 {l : Launch} {G : smG} {P : Option Value → Hp → Prop}  {a36 : Nat} {i37 : Int32} {i38 : Int32} {s39 : Hp}  (h : OK jI (D_L_isFound_b148 a36 i37 i38 s39) P) : T l G RL cL_isFound 8 (sm_rm 8 0 0) (sm_E (some .boolean) yL_isFound.name) (sm_Qs G P 0 0) 0 0 148 [(1, .ref a36), (2, .int i37), (7, .int i38)] [] s39 := by
  unfold D_L_isFound_b148 at h
  refine T_iconst (0 : Int32) dL_isFound_148 (by decide) ?_
  exact K_L_isFound_b149 h
set_option maxRecDepth 100000 in
set_option maxHeartbeats 4000000 in
theorem K_L_isFound_b71 {l : Launch} {G : smG} {P : Option Value → Hp → Prop}  {a26 : Nat} {a27 : Nat} {i28 : Int32} {i29 : Int32} {i30 : Int32} {i31 : Int32} {i33 : Int32} {s32 : Hp}  (h : OK jI (D_L_isFound_b71 a26 a27 i28 i29 i30 i31 i33 s32) P) : T l G RL cL_isFound 8 (sm_rm 8 0 0) (sm_E (some .boolean) yL_isFound.name) (sm_Qs G P 0 0) 0 0 71 [(0, .ref a26), (1, .ref a27), (2, .int i28), (3, .int i29), (4, .int i30), (5, .int i31)] [.int i33] s32 := by
  unfold D_L_isFound_b71 at h
  refine T_istore (lv' := [(6, .int i33), (0, .ref a26), (1, .ref a27), (2, .int i28), (3, .int i29), (4, .int i30), (5, .int i31)]) dL_isFound_71 (by decide) rfl ?_
  refine T_aload_n dL_isFound_73 rfl 1 rfl ?_
  refine T_iconst (1 : Int32) dL_isFound_74 (by decide) ?_
  refine T_callVI (As := [.int (1 : Int32)]) (rest := []) (b := a26) (ci := 8) dL_isFound_75 mc_X9_count mi_X9_count ml_RL_9 rfl (fun _ hr => chk_of hr) rfl rfl (Nat.le_of_ble_eq_true rfl) ⟨⟨Nat.le_of_ble_eq_true rfl, Nat.le_of_ble_eq_true rfl⟩, ⟨Nat.le_of_ble_eq_true rfl, Nat.le_of_ble_eq_true rfl⟩⟩ K_X9_count h (fun i34 s35 h => ?_)
  refine T_istore (lv' := [(7, .int i34), (6, .int i33), (0, .ref a26), (1, .ref a27), (2, .int i28), (3, .int i29), (4, .int i30), (5, .int i31)]) dL_isFound_78 (by decide) rfl ?_
  refine T_iload dL_isFound_80 6 rfl ?_
  refine T_bipush (-6 : Int32) dL_isFound_82 (by decide) ?_
  refine T_icmp_eq 94 dL_isFound_84 (by decide) h (fun _ h => ?_) (fun _ h => ?_)
  · refine T_iload dL_isFound_94 1 rfl ?_
    exact T_zreturn dL_isFound_96 (Nat.le_of_ble_eq_true rfl) (Nat.le_of_ble_eq_true rfl) h
  · refine T_iload dL_isFound_87 0 rfl ?_
    refine T_bipush (24 : Int32) dL_isFound_89 (by decide) ?_
    refine T_icmp_ne 97 dL_isFound_91 (by decide) h (fun _ h => ?_) (fun _ h => ?_)
    · refine T_iload dL_isFound_97 1 rfl ?_
      refine T_if_eq 148 dL_isFound_99 (by decide) h (fun _ h => ?_) (fun _ h => ?_)
      · refine T_lv (lv' := [(1, .ref a27), (2, .int i28), (7, .int i34)]) [3, 4, 0] rfl ?_
        exact K_L_isFound_b148 h
      · refine T_aload_n dL_isFound_102 rfl 2 rfl ?_
        refine T_iload_n dL_isFound_103 rfl 4 rfl ?_
        refine T_iload dL_isFound_104 6 rfl ?_
        refine T_callVI (As := [.int i28, .int i30]) (rest := []) (b := a26) (ci := 8) dL_isFound_106 mc_X9_in mi_X9_in ml_RL_21 rfl (fun _ hr => chk_of hr) rfl rfl (Nat.le_of_ble_eq_true rfl) ⟨⟨Nat.le_of_ble_eq_true rfl, Nat.le_of_ble_eq_true rfl⟩, ⟨Nat.le_of_ble_eq_true rfl, Nat.le_of_ble_eq_true rfl⟩⟩ K_X9_in h (fun i53 s54 h => ?_)
        refine T_bipush (-6 : Int32) dL_isFound_109 (by decide) ?_
        refine T_icmp_ne 148 dL_isFound_111 (by decide) h (fun _ h => ?_) (fun _ h => ?_)
        · refine T_lv (lv' := [(1, .ref a27), (2, .int i28), (7, .int i34)]) [3, 4, 0] rfl ?_
          exact K_L_isFound_b148 h
        · refine T_aload_n dL_isFound_114 rfl 2 rfl ?_
          refine T_iload_n dL_isFound_115 rfl 4 rfl ?_
          refine T_iload dL_isFound_116 6 rfl ?_
          refine T_iload_n dL_isFound_118 rfl 5 rfl ?_
          refine T_callVI (As := [.int i28, .int i30, .int i29]) (rest := []) (b := a26) (ci := 8) dL_isFound_119 mc_X9_mirror mi_X9_mirror ml_RL_24 rfl (fun _ hr => chk_of hr) rfl rfl (Nat.le_of_ble_eq_true rfl) ⟨⟨Nat.le_of_ble_eq_true rfl, Nat.le_of_ble_eq_true rfl⟩, ⟨Nat.le_of_ble_eq_true rfl, Nat.le_of_ble_eq_true rfl⟩⟩ K_X9_mirror h (fun i55 s56 h => ?_)
          refine T_iload dL_isFound_122 0 rfl ?_
          refine T_icmp_ne 148 dL_isFound_124 (by decide) h (fun _ h => ?_) (fun _ h => ?_)
          · refine T_lv (lv' := [(1, .ref a27), (2, .int i28), (7, .int i34)]) [3, 4, 0] rfl ?_
            exact K_L_isFound_b148 h
          · refine T_aload_n dL_isFound_127 rfl 2 rfl ?_
            refine T_iconst (5 : Int32) dL_isFound_128 (by decide) ?_
            refine T_callVI (As := [.int (5 : Int32)]) (rest := []) (b := a26) (ci := 8) dL_isFound_129 mc_X9_count mi_X9_count ml_RL_9 rfl (fun _ hr => chk_of hr) rfl rfl (Nat.le_of_ble_eq_true rfl) ⟨⟨Nat.le_of_ble_eq_true rfl, Nat.le_of_ble_eq_true rfl⟩, ⟨Nat.le_of_ble_eq_true rfl, Nat.le_of_ble_eq_true rfl⟩⟩ K_X9_count h (fun i57 s58 h => ?_)
            refine T_iload dL_isFound_132 7 rfl ?_
            refine T_icmp_ne 148 dL_isFound_134 (by decide) h (fun _ h => ?_) (fun _ h => ?_)
            · refine T_lv (lv' := [(1, .ref a27), (2, .int i28), (7, .int i34)]) [3, 4, 0] rfl ?_
              exact K_L_isFound_b148 h
            · refine T_aload_n dL_isFound_137 rfl 2 rfl ?_
              refine T_callVI (As := []) (rest := []) (b := a26) (ci := 8) dL_isFound_138 mc_X9_undo mi_X9_undo ml_RL_49 rfl (fun _ hr => chk_of hr) rfl rfl (Nat.le_of_ble_eq_true rfl) ⟨⟨Nat.le_of_ble_eq_true rfl, Nat.le_of_ble_eq_true rfl⟩, ⟨Nat.le_of_ble_eq_true rfl, Nat.le_of_ble_eq_true rfl⟩⟩ K_X9_undo h (fun i59 s60 h => ?_)
              refine T_if_lt 148 dL_isFound_141 (by decide) h (fun _ h => ?_) (fun _ h => ?_)
              · refine T_lv (lv' := [(1, .ref a27), (2, .int i28), (7, .int i34)]) [3, 4, 0] rfl ?_
                exact K_L_isFound_b148 h
              · refine T_iconst (1 : Int32) dL_isFound_144 (by decide) ?_
                refine T_goto 149 dL_isFound_145 (by decide) ?_
                refine T_lv (lv' := [(1, .ref a27), (2, .int i28), (7, .int i34)]) [3, 4, 0] rfl ?_
                exact K_L_isFound_b149 h
    · refine T_iload dL_isFound_94 1 rfl ?_
      exact T_zreturn dL_isFound_96 (Nat.le_of_ble_eq_true rfl) (Nat.le_of_ble_eq_true rfl) h
set_option maxRecDepth 100000 in
set_option maxHeartbeats 4000000 in
theorem K_L_isFound_b70 {l : Launch} {G : smG} {P : Option Value → Hp → Prop}  {a19 : Nat} {a20 : Nat} {i21 : Int32} {i22 : Int32} {i23 : Int32} {i24 : Int32} {s25 : Hp}  (h : OK jI (D_L_isFound_b70 a19 a20 i21 i22 i23 i24 s25) P) : T l G RL cL_isFound 8 (sm_rm 8 0 0) (sm_E (some .boolean) yL_isFound.name) (sm_Qs G P 0 0) 0 0 70 [(0, .ref a19), (1, .ref a20), (2, .int i21), (3, .int i22), (4, .int i23), (5, .int i24)] [] s25 := by
  unfold D_L_isFound_b70 at h
  refine T_iconst (0 : Int32) dL_isFound_70 (by decide) ?_
  exact K_L_isFound_b71 h
set_option maxRecDepth 100000 in
set_option maxHeartbeats 4000000 in
theorem K_L_isFound {l : Launch} {a0 : Nat} {a1 : Nat} {i2 : Int32} {i3 : Int32} {s0 : Hp} : ∀ P, OK jI (D_L_isFound a0 a1 i2 i3 s0) P → sm_Ct l yL_isFound cL_isFound 8 (some .boolean) 8 0 0 [.ref a0, .ref a1, .int i2, .int i3] s0 P := by
  intro P h
  unfold D_L_isFound at h
  refine sm_enter (own := RL) (lv := [(0, .ref a0), (1, .ref a1), (2, .int i2), (3, .int i3)]) (by decide) rfl (Nat.le_of_ble_eq_true rfl) rfl (fun G => ?_)
  refine T_aload_n dL_isFound_0 rfl 0 rfl ?_
  refine T_iload_n dL_isFound_1 rfl 2 rfl ?_
  refine T_iload_n dL_isFound_2 rfl 3 rfl ?_
  refine T_iconst (0 : Int32) dL_isFound_3 (by decide) ?_
  refine T_callVI (As := [.int i2, .int i3, .int (0 : Int32)]) (rest := []) (b := a0) (ci := 8) dL_isFound_4 mc_X9_bestColumn mi_X9_bestColumn ml_RL_57 rfl (fun _ hr => chk_of hr) rfl rfl (Nat.le_of_ble_eq_true rfl) ⟨⟨Nat.le_of_ble_eq_true rfl, Nat.le_of_ble_eq_true rfl⟩, ⟨Nat.le_of_ble_eq_true rfl, Nat.le_of_ble_eq_true rfl⟩⟩ K_X9_bestColumn h (fun i11 s12 h => ?_)
  refine T_istore (lv' := [(4, .int i11), (0, .ref a0), (1, .ref a1), (2, .int i2), (3, .int i3)]) dL_isFound_7 (by decide) rfl ?_
  refine T_aload_n dL_isFound_9 rfl 1 rfl ?_
  refine T_iload_n dL_isFound_10 rfl 3 rfl ?_
  refine T_iload_n dL_isFound_11 rfl 4 rfl ?_
  refine T_iconst (1 : Int32) dL_isFound_12 (by decide) ?_
  refine T_callVI (As := [.int i2, .int i3, .int (1 : Int32)]) (rest := []) (b := a0) (ci := 8) dL_isFound_13 mc_X9_bestColumn mi_X9_bestColumn ml_RL_57 rfl (fun _ hr => chk_of hr) rfl rfl (Nat.le_of_ble_eq_true rfl) ⟨⟨Nat.le_of_ble_eq_true rfl, Nat.le_of_ble_eq_true rfl⟩, ⟨Nat.le_of_ble_eq_true rfl, Nat.le_of_ble_eq_true rfl⟩⟩ K_X9_bestColumn h (fun i13 s14 h => ?_)
  refine T_istore (lv' := [(5, .int i13), (4, .int i11), (0, .ref a0), (1, .ref a1), (2, .int i2), (3, .int i3)]) dL_isFound_16 (by decide) rfl ?_
  refine T_aload_n dL_isFound_18 rfl 2 rfl ?_
  refine T_iconst (0 : Int32) dL_isFound_19 (by decide) ?_
  refine T_callVI (As := [.int (0 : Int32)]) (rest := []) (b := a0) (ci := 8) dL_isFound_20 mc_X9_worthLeast mi_X9_worthLeast ml_RL_60 rfl (fun _ hr => chk_of hr) rfl rfl (Nat.le_of_ble_eq_true rfl) ⟨⟨Nat.le_of_ble_eq_true rfl, Nat.le_of_ble_eq_true rfl⟩, ⟨Nat.le_of_ble_eq_true rfl, Nat.le_of_ble_eq_true rfl⟩⟩ K_X9_worthLeast h (fun i15 s16 h => ?_)
  refine T_aload_n dL_isFound_23 rfl 3 rfl ?_
  refine T_iconst (0 : Int32) dL_isFound_24 (by decide) ?_
  refine T_callVI (As := [.int (0 : Int32)]) (rest := [.int i15]) (b := a1) (ci := 8) dL_isFound_25 mc_X9_worthLeast mi_X9_worthLeast ml_RL_60 rfl (fun _ hr => chk_of hr) rfl rfl (Nat.le_of_ble_eq_true rfl) ⟨⟨Nat.le_of_ble_eq_true rfl, Nat.le_of_ble_eq_true rfl⟩, ⟨Nat.le_of_ble_eq_true rfl, Nat.le_of_ble_eq_true rfl⟩⟩ K_X9_worthLeast h (fun i17 s18 h => ?_)
  refine T_icmp_ne 70 dL_isFound_28 (by decide) h (fun _ h => ?_) (fun _ h => ?_)
  · refine T_lv (lv' := [(0, .ref a0), (1, .ref a1), (2, .int i2), (3, .int i3), (4, .int i11), (5, .int i13)]) [2, 3, 4, 5, 1, 0] rfl ?_
    exact K_L_isFound_b70 h
  · refine T_aload_n dL_isFound_31 rfl 2 rfl ?_
    refine T_iconst (1 : Int32) dL_isFound_32 (by decide) ?_
    refine T_callVI (As := [.int (1 : Int32)]) (rest := []) (b := a0) (ci := 8) dL_isFound_33 mc_X9_worthLeast mi_X9_worthLeast ml_RL_60 rfl (fun _ hr => chk_of hr) rfl rfl (Nat.le_of_ble_eq_true rfl) ⟨⟨Nat.le_of_ble_eq_true rfl, Nat.le_of_ble_eq_true rfl⟩, ⟨Nat.le_of_ble_eq_true rfl, Nat.le_of_ble_eq_true rfl⟩⟩ K_X9_worthLeast h (fun i61 s62 h => ?_)
    refine T_aload_n dL_isFound_36 rfl 3 rfl ?_
    refine T_iconst (1 : Int32) dL_isFound_37 (by decide) ?_
    refine T_callVI (As := [.int (1 : Int32)]) (rest := [.int i61]) (b := a1) (ci := 8) dL_isFound_38 mc_X9_worthLeast mi_X9_worthLeast ml_RL_60 rfl (fun _ hr => chk_of hr) rfl rfl (Nat.le_of_ble_eq_true rfl) ⟨⟨Nat.le_of_ble_eq_true rfl, Nat.le_of_ble_eq_true rfl⟩, ⟨Nat.le_of_ble_eq_true rfl, Nat.le_of_ble_eq_true rfl⟩⟩ K_X9_worthLeast h (fun i63 s64 h => ?_)
    refine T_icmp_ne 70 dL_isFound_41 (by decide) h (fun _ h => ?_) (fun _ h => ?_)
    · refine T_lv (lv' := [(0, .ref a0), (1, .ref a1), (2, .int i2), (3, .int i3), (4, .int i11), (5, .int i13)]) [2, 3, 4, 5, 1, 0] rfl ?_
      exact K_L_isFound_b70 h
    · refine T_aload_n dL_isFound_44 rfl 2 rfl ?_
      refine T_callVI (As := []) (rest := []) (b := a0) (ci := 8) dL_isFound_45 mc_X9_toWash mi_X9_toWash ml_RL_63 rfl (fun _ hr => chk_of hr) rfl rfl (Nat.le_of_ble_eq_true rfl) ⟨⟨Nat.le_of_ble_eq_true rfl, Nat.le_of_ble_eq_true rfl⟩, ⟨Nat.le_of_ble_eq_true rfl, Nat.le_of_ble_eq_true rfl⟩⟩ K_X9_toWash h (fun i65 s66 h => ?_)
      refine T_aload_n dL_isFound_48 rfl 3 rfl ?_
      refine T_callVI (As := []) (rest := [.int i65]) (b := a1) (ci := 8) dL_isFound_49 mc_X9_toWash mi_X9_toWash ml_RL_63 rfl (fun _ hr => chk_of hr) rfl rfl (Nat.le_of_ble_eq_true rfl) ⟨⟨Nat.le_of_ble_eq_true rfl, Nat.le_of_ble_eq_true rfl⟩, ⟨Nat.le_of_ble_eq_true rfl, Nat.le_of_ble_eq_true rfl⟩⟩ K_X9_toWash h (fun i67 s68 h => ?_)
      refine T_icmp_ne 70 dL_isFound_52 (by decide) h (fun _ h => ?_) (fun _ h => ?_)
      · refine T_lv (lv' := [(0, .ref a0), (1, .ref a1), (2, .int i2), (3, .int i3), (4, .int i11), (5, .int i13)]) [2, 3, 4, 5, 1, 0] rfl ?_
        exact K_L_isFound_b70 h
      · refine T_aload_n dL_isFound_55 rfl 2 rfl ?_
        refine T_callVI (As := []) (rest := []) (b := a0) (ci := 8) dL_isFound_56 mc_X9_leastLimit mi_X9_leastLimit ml_RL_66 rfl (fun _ hr => chk_of hr) rfl rfl (Nat.le_of_ble_eq_true rfl) ⟨⟨Nat.le_of_ble_eq_true rfl, Nat.le_of_ble_eq_true rfl⟩, ⟨Nat.le_of_ble_eq_true rfl, Nat.le_of_ble_eq_true rfl⟩⟩ K_X9_leastLimit h (fun i69 s70 h => ?_)
        refine T_aload_n dL_isFound_59 rfl 3 rfl ?_
        refine T_callVI (As := []) (rest := [.int i69]) (b := a1) (ci := 8) dL_isFound_60 mc_X9_leastLimit mi_X9_leastLimit ml_RL_66 rfl (fun _ hr => chk_of hr) rfl rfl (Nat.le_of_ble_eq_true rfl) ⟨⟨Nat.le_of_ble_eq_true rfl, Nat.le_of_ble_eq_true rfl⟩, ⟨Nat.le_of_ble_eq_true rfl, Nat.le_of_ble_eq_true rfl⟩⟩ K_X9_leastLimit h (fun i71 s72 h => ?_)
        refine T_icmp_ne 70 dL_isFound_63 (by decide) h (fun _ h => ?_) (fun _ h => ?_)
        · refine T_lv (lv' := [(0, .ref a0), (1, .ref a1), (2, .int i2), (3, .int i3), (4, .int i11), (5, .int i13)]) [2, 3, 4, 5, 1, 0] rfl ?_
          exact K_L_isFound_b70 h
        · refine T_iconst (1 : Int32) dL_isFound_66 (by decide) ?_
          refine T_goto 71 dL_isFound_67 (by decide) ?_
          refine T_lv (lv' := [(0, .ref a0), (1, .ref a1), (2, .int i2), (3, .int i3), (4, .int i11), (5, .int i13)]) [2, 3, 4, 5, 1, 0] rfl ?_
          exact K_L_isFound_b71 h
