def D_X4_held (a0 : Nat) (i1 : Int32) (s0 : Hp) : Option (Int32 × Hp) :=
  (isO s0 a0 4).bind fun _ =>
  (getR s0 a0 4 5).bind fun a11 =>
  bd (D_X1_read a11 i1 s0) fun i12 s13 =>
  some (i12, s13)
set_option maxRecDepth 100000 in
set_option maxHeartbeats 4000000 in
theorem K_X4_held {l : Launch} {a0 : Nat} {i1 : Int32} {s0 : Hp} : ∀ P, OK jI (D_X4_held a0 i1 s0) P → sm_Ct l yX4_held cX4_held 2 (some .int) 1 0 0 [.ref a0, .int i1] s0 P := by
  intro P h
  unfold D_X4_held at h
  obtain ⟨_, hb0, h⟩ := h.bind
  refine sm_enter (own := RX4) (lv := [(0, .ref a0), (1, .int i1)]) (by decide) rfl (Nat.le_of_ble_eq_true rfl) rfl (fun G => ?_)
  refine T_aload_n dX4_held_0 rfl 0 rfl ?_
  refine T_getR dX4_held_1 fl_RX4_29 h (fun a11 h => ?_)
  refine T_iload_n dX4_held_4 rfl 1 rfl ?_
  refine T_callVI (As := [.int i1]) (rest := []) (b := a11) (ci := 1) dX4_held_5 mc_X1_read mi_X1_read ml_RX4_54 rfl (fun _ hr => chk_of hr) rfl rfl (Nat.le_of_ble_eq_true rfl) ⟨⟨Nat.le_of_ble_eq_true rfl, Nat.le_of_ble_eq_true rfl⟩, ⟨Nat.le_of_ble_eq_true rfl, Nat.le_of_ble_eq_true rfl⟩⟩ K_X1_read h (fun i12 s13 h => ?_)
  exact T_ireturn dX4_held_8 (Nat.le_of_ble_eq_true rfl) (Nat.le_of_ble_eq_true rfl) h

def D_X4_inPlace (a0 : Nat) (i1 : Int32) (i2 : Int32) (s0 : Hp) : Option (Int32 × Hp) :=
  (isO s0 a0 4).bind fun _ =>
  bd (D_X9_isPlace i1 i2 s0) fun i11 s12 =>
  if i11 = 0 then
  some ((-6 : Int32), s12)
  else
  (getR s12 a0 4 1).bind fun a13 =>
  bd (D_X1_read a13 ((i1 * (20 : Int32)) + i2) s12) fun i14 s15 =>
  some (i14, s15)
set_option maxRecDepth 100000 in
set_option maxHeartbeats 4000000 in
theorem K_X4_inPlace {l : Launch} {a0 : Nat} {i1 : Int32} {i2 : Int32} {s0 : Hp} : ∀ P, OK jI (D_X4_inPlace a0 i1 i2 s0) P → sm_Ct l yX4_inPlace cX4_inPlace 3 (some .int) 1 0 0 [.ref a0, .int i1, .int i2] s0 P := by
  intro P h
  unfold D_X4_inPlace at h
  obtain ⟨_, hb0, h⟩ := h.bind
  refine sm_enter (own := RX4) (lv := [(0, .ref a0), (1, .int i1), (2, .int i2)]) (by decide) rfl (Nat.le_of_ble_eq_true rfl) rfl (fun G => ?_)
  refine T_iload_n dX4_inPlace_0 rfl 1 rfl ?_
  refine T_iload_n dX4_inPlace_1 rfl 2 rfl ?_
  refine T_callSNI (As := [.int i1, .int i2]) (rest := []) dX4_inPlace_2 mc_X9_isPlace mi_X9_isPlace ml_RX4_83 rfl rfl (Nat.le_of_ble_eq_true rfl) ⟨⟨Nat.le_of_ble_eq_true rfl, Nat.le_of_ble_eq_true rfl⟩, ⟨Nat.le_of_ble_eq_true rfl, Nat.le_of_ble_eq_true rfl⟩⟩ K_X9_isPlace h (fun i11 s12 h => ?_)
  refine T_if_eq 24 dX4_inPlace_5 (by decide) h (fun _ h => ?_) (fun _ h => ?_)
  · refine T_bipush (-6 : Int32) dX4_inPlace_24 (by decide) ?_
    exact T_ireturn dX4_inPlace_26 (Nat.le_of_ble_eq_true rfl) (Nat.le_of_ble_eq_true rfl) h
  · refine T_aload_n dX4_inPlace_8 rfl 0 rfl ?_
    refine T_getR dX4_inPlace_9 fl_RX4_14 h (fun a13 h => ?_)
    refine T_iload_n dX4_inPlace_12 rfl 1 rfl ?_
    refine T_bipush (20 : Int32) dX4_inPlace_13 (by decide) ?_
    refine T_imul dX4_inPlace_15 ?_
    refine T_iload_n dX4_inPlace_16 rfl 2 rfl ?_
    refine T_iadd dX4_inPlace_17 ?_
    refine T_callVI (As := [.int ((i1 * (20 : Int32)) + i2)]) (rest := []) (b := a13) (ci := 1) dX4_inPlace_18 mc_X1_read mi_X1_read ml_RX4_54 rfl (fun _ hr => chk_of hr) rfl rfl (Nat.le_of_ble_eq_true rfl) ⟨⟨Nat.le_of_ble_eq_true rfl, Nat.le_of_ble_eq_true rfl⟩, ⟨Nat.le_of_ble_eq_true rfl, Nat.le_of_ble_eq_true rfl⟩⟩ K_X1_read h (fun i14 s15 h => ?_)
    refine T_goto 26 dX4_inPlace_21 (by decide) ?_
    exact T_ireturn dX4_inPlace_26 (Nat.le_of_ble_eq_true rfl) (Nat.le_of_ble_eq_true rfl) h

def D_X4_putInOrder_w2 (a11 : Nat) (i12 : Int32) (k58 : Int32 → Hp → Option Hp) : Nat → Int32 → Hp → Option Hp
  | 0, _, _ => none
  | n15 + 1, i13, s14 =>
  if i13 ≤ 0 then
  k58 i13 s14
  else
  (getR s14 a11 4 3).bind fun a16 =>
  (getR s14 a11 4 4).bind fun a17 =>
  bd (D_X1_read a17 (i13 - (1 : Int32)) s14) fun i18 s19 =>
  bd (D_X1_read a16 i18 s19) fun i20 s21 =>
  (getR s21 a11 4 3).bind fun a22 =>
  bd (D_X1_read a22 i12 s21) fun i23 s24 =>
  if i23 ≤ i20 then
  k58 i13 s24
  else
  (getR s24 a11 4 4).bind fun a25 =>
  (getR s24 a11 4 4).bind fun a26 =>
  bd (D_X1_read a26 (i13 - (1 : Int32)) s24) fun i27 s28 =>
  (D_X1_write a25 i13 i27 s28).bind fun s29 =>
  D_X4_putInOrder_w2 a11 i12 k58 n15 (i13 + (-1)) s29
def D_X4_putInOrder_b58  (a34 : Nat) (i35 : Int32) (i36 : Int32) (s37 : Hp) : Option Hp :=
  (getR s37 a34 4 4).bind fun a38 =>
  (D_X1_write a38 i36 i35 s37).bind fun s39 =>
  some s39
def D_X4_putInOrder (a0 : Nat) (i1 : Int32) (s0 : Hp) : Option Hp :=
  (isO s0 a0 4).bind fun _ =>
  D_X4_putInOrder_w2 a0 i1 (fun i33 s32 =>
  D_X4_putInOrder_b58 a0 i1 i33 s32
  ) FU i1 s0
set_option maxRecDepth 100000 in
set_option maxHeartbeats 4000000 in
theorem K_X4_putInOrder_w2 {l : Launch} {G : smG} {P : Option Value → Hp → Prop} {a11 : Nat} {i12 : Int32} {k58 : Int32 → Hp → Option Hp} (hk58 : ∀ (i30 : Int32) (s31 : Hp), OK jV (k58 i30 s31) P → T l G RX4 cX4_putInOrder 3 (sm_rm 1 0 0) (sm_E none yX4_putInOrder.name) (sm_Qs G P 0 0) 0 0 58 [(0, .ref a11), (1, .int i12), (2, .int i30)] [] s31) : ∀ (n : Nat) (i13 : Int32) (s14 : Hp), OK jV (D_X4_putInOrder_w2 a11 i12 k58 n i13 s14) P → T l G RX4 cX4_putInOrder 3 (sm_rm 1 0 0) (sm_E none yX4_putInOrder.name) (sm_Qs G P 0 0) 0 0 2 [(0, .ref a11), (1, .int i12), (2, .int i13)] [] s14 := by
  intro n
  induction n with
  | zero => intro i13 s14 h; obtain ⟨_, h0, _⟩ := h; exact absurd h0 (by simp [D_X4_putInOrder_w2])
  | succ n15 ih =>
    intro i13 s14 h
    unfold D_X4_putInOrder_w2 at h
    refine T_iload_n dX4_putInOrder_2 rfl 2 rfl ?_
    refine T_if_le 58 dX4_putInOrder_3 (by decide) h (fun _ h => ?_) (fun _ h => ?_)
    · exact hk58 i13 s14 h
    · refine T_aload_n dX4_putInOrder_6 rfl 0 rfl ?_
      refine T_getR dX4_putInOrder_7 fl_RX4_23 h (fun a16 h => ?_)
      refine T_aload_n dX4_putInOrder_10 rfl 0 rfl ?_
      refine T_getR dX4_putInOrder_11 fl_RX4_26 h (fun a17 h => ?_)
      refine T_iload_n dX4_putInOrder_14 rfl 2 rfl ?_
      refine T_iconst (1 : Int32) dX4_putInOrder_15 (by decide) ?_
      refine T_isub dX4_putInOrder_16 ?_
      refine T_callVI (As := [.int (i13 - (1 : Int32))]) (rest := [.ref a16]) (b := a17) (ci := 1) dX4_putInOrder_17 mc_X1_read mi_X1_read ml_RX4_54 rfl (fun _ hr => chk_of hr) rfl rfl (Nat.le_of_ble_eq_true rfl) ⟨⟨Nat.le_of_ble_eq_true rfl, Nat.le_of_ble_eq_true rfl⟩, ⟨Nat.le_of_ble_eq_true rfl, Nat.le_of_ble_eq_true rfl⟩⟩ K_X1_read h (fun i18 s19 h => ?_)
      refine T_callVI (As := [.int i18]) (rest := []) (b := a16) (ci := 1) dX4_putInOrder_20 mc_X1_read mi_X1_read ml_RX4_54 rfl (fun _ hr => chk_of hr) rfl rfl (Nat.le_of_ble_eq_true rfl) ⟨⟨Nat.le_of_ble_eq_true rfl, Nat.le_of_ble_eq_true rfl⟩, ⟨Nat.le_of_ble_eq_true rfl, Nat.le_of_ble_eq_true rfl⟩⟩ K_X1_read h (fun i20 s21 h => ?_)
      refine T_aload_n dX4_putInOrder_23 rfl 0 rfl ?_
      refine T_getR dX4_putInOrder_24 fl_RX4_23 h (fun a22 h => ?_)
      refine T_iload_n dX4_putInOrder_27 rfl 1 rfl ?_
      refine T_callVI (As := [.int i12]) (rest := [.int i20]) (b := a22) (ci := 1) dX4_putInOrder_28 mc_X1_read mi_X1_read ml_RX4_54 rfl (fun _ hr => chk_of hr) rfl rfl (Nat.le_of_ble_eq_true rfl) ⟨⟨Nat.le_of_ble_eq_true rfl, Nat.le_of_ble_eq_true rfl⟩, ⟨Nat.le_of_ble_eq_true rfl, Nat.le_of_ble_eq_true rfl⟩⟩ K_X1_read h (fun i23 s24 h => ?_)
      refine T_icmp_ge 58 dX4_putInOrder_31 (by decide) h (fun _ h => ?_) (fun _ h => ?_)
      · exact hk58 i13 s24 h
      · refine T_aload_n dX4_putInOrder_34 rfl 0 rfl ?_
        refine T_getR dX4_putInOrder_35 fl_RX4_26 h (fun a25 h => ?_)
        refine T_iload_n dX4_putInOrder_38 rfl 2 rfl ?_
        refine T_aload_n dX4_putInOrder_39 rfl 0 rfl ?_
        refine T_getR dX4_putInOrder_40 fl_RX4_26 h (fun a26 h => ?_)
        refine T_iload_n dX4_putInOrder_43 rfl 2 rfl ?_
        refine T_iconst (1 : Int32) dX4_putInOrder_44 (by decide) ?_
        refine T_isub dX4_putInOrder_45 ?_
        refine T_callVI (As := [.int (i13 - (1 : Int32))]) (rest := [.int i13, .ref a25]) (b := a26) (ci := 1) dX4_putInOrder_46 mc_X1_read mi_X1_read ml_RX4_54 rfl (fun _ hr => chk_of hr) rfl rfl (Nat.le_of_ble_eq_true rfl) ⟨⟨Nat.le_of_ble_eq_true rfl, Nat.le_of_ble_eq_true rfl⟩, ⟨Nat.le_of_ble_eq_true rfl, Nat.le_of_ble_eq_true rfl⟩⟩ K_X1_read h (fun i27 s28 h => ?_)
        refine T_callVV (As := [.int i13, .int i27]) (rest := []) (b := a25) (ci := 1) dX4_putInOrder_49 mc_X1_write mi_X1_write ml_RX4_61 rfl (fun _ hr => chk_of hr) rfl rfl (Nat.le_of_ble_eq_true rfl) ⟨⟨Nat.le_of_ble_eq_true rfl, Nat.le_of_ble_eq_true rfl⟩, ⟨Nat.le_of_ble_eq_true rfl, Nat.le_of_ble_eq_true rfl⟩⟩ K_X1_write h (fun s29 h => ?_)
        refine T_iinc (i13 + (-1)) (lv' := [(2, .int (i13 + (-1))), (0, .ref a11), (1, .int i12)]) dX4_putInOrder_52 (j := 2) rfl rfl (by decide) rfl ?_
        refine T_goto 2 dX4_putInOrder_55 (by decide) ?_
        refine T_lv (lv' := [(0, .ref a11), (1, .int i12), (2, .int (i13 + (-1)))]) [1, 2, 0] rfl ?_
        exact ih (i13 + (-1)) s29 h
set_option maxRecDepth 100000 in
set_option maxHeartbeats 4000000 in
theorem K_X4_putInOrder_b58 {l : Launch} {G : smG} {P : Option Value → Hp → Prop}  {a34 : Nat} {i35 : Int32} {i36 : Int32} {s37 : Hp}  (h : OK jV (D_X4_putInOrder_b58 a34 i35 i36 s37) P) : T l G RX4 cX4_putInOrder 3 (sm_rm 1 0 0) (sm_E none yX4_putInOrder.name) (sm_Qs G P 0 0) 0 0 58 [(0, .ref a34), (1, .int i35), (2, .int i36)] [] s37 := by
  unfold D_X4_putInOrder_b58 at h
  refine T_aload_n dX4_putInOrder_58 rfl 0 rfl ?_
  refine T_getR dX4_putInOrder_59 fl_RX4_26 h (fun a38 h => ?_)
  refine T_iload_n dX4_putInOrder_62 rfl 2 rfl ?_
  refine T_iload_n dX4_putInOrder_63 rfl 1 rfl ?_
  refine T_callVV (As := [.int i36, .int i35]) (rest := []) (b := a38) (ci := 1) dX4_putInOrder_64 mc_X1_write mi_X1_write ml_RX4_61 rfl (fun _ hr => chk_of hr) rfl rfl (Nat.le_of_ble_eq_true rfl) ⟨⟨Nat.le_of_ble_eq_true rfl, Nat.le_of_ble_eq_true rfl⟩, ⟨Nat.le_of_ble_eq_true rfl, Nat.le_of_ble_eq_true rfl⟩⟩ K_X1_write h (fun s39 h => ?_)
  exact T_vreturn dX4_putInOrder_67 (Nat.le_of_ble_eq_true rfl) (Nat.le_of_ble_eq_true rfl) h
set_option maxRecDepth 100000 in
set_option maxHeartbeats 4000000 in
theorem K_X4_putInOrder {l : Launch} {a0 : Nat} {i1 : Int32} {s0 : Hp} : ∀ P, OK jV (D_X4_putInOrder a0 i1 s0) P → sm_Ct l yX4_putInOrder cX4_putInOrder 3 none 1 0 0 [.ref a0, .int i1] s0 P := by
  intro P h
  unfold D_X4_putInOrder at h
  obtain ⟨_, hb0, h⟩ := h.bind
  refine sm_enter (own := RX4) (lv := [(0, .ref a0), (1, .int i1)]) (by decide) rfl (Nat.le_of_ble_eq_true rfl) rfl (fun G => ?_)
  refine T_iload_n dX4_putInOrder_0 rfl 1 rfl ?_
  refine T_istore_n (lv' := [(2, .int i1), (0, .ref a0), (1, .int i1)]) dX4_putInOrder_1 rfl (by decide) rfl ?_
  refine T_lv (lv' := [(0, .ref a0), (1, .int i1), (2, .int i1)]) [1, 2, 0] rfl ?_
  refine K_X4_putInOrder_w2 ?_ FU i1 s0 h
  intro i33 s32 h
  exact K_X4_putInOrder_b58 h

def D_X4_shader (a0 : Nat) (i1 : Int32) (i2 : Int32) (s0 : Hp) : Option (Int32 × Hp) :=
  (isO s0 a0 4).bind fun _ =>
  (getR s0 a0 4 2).bind fun a11 =>
  bd (D_X1_read a11 ((i1 * (11 : Int32)) + i2) s0) fun i12 s13 =>
  some (i12, s13)
set_option maxRecDepth 100000 in
set_option maxHeartbeats 4000000 in
theorem K_X4_shader {l : Launch} {a0 : Nat} {i1 : Int32} {i2 : Int32} {s0 : Hp} : ∀ P, OK jI (D_X4_shader a0 i1 i2 s0) P → sm_Ct l yX4_shader cX4_shader 3 (some .int) 1 0 0 [.ref a0, .int i1, .int i2] s0 P := by
  intro P h
  unfold D_X4_shader at h
  obtain ⟨_, hb0, h⟩ := h.bind
  refine sm_enter (own := RX4) (lv := [(0, .ref a0), (1, .int i1), (2, .int i2)]) (by decide) rfl (Nat.le_of_ble_eq_true rfl) rfl (fun G => ?_)
  refine T_aload_n dX4_shader_0 rfl 0 rfl ?_
  refine T_getR dX4_shader_1 fl_RX4_20 h (fun a11 h => ?_)
  refine T_iload_n dX4_shader_4 rfl 1 rfl ?_
  refine T_bipush (11 : Int32) dX4_shader_5 (by decide) ?_
  refine T_imul dX4_shader_7 ?_
  refine T_iload_n dX4_shader_8 rfl 2 rfl ?_
  refine T_iadd dX4_shader_9 ?_
  refine T_callVI (As := [.int ((i1 * (11 : Int32)) + i2)]) (rest := []) (b := a11) (ci := 1) dX4_shader_10 mc_X1_read mi_X1_read ml_RX4_54 rfl (fun _ hr => chk_of hr) rfl rfl (Nat.le_of_ble_eq_true rfl) ⟨⟨Nat.le_of_ble_eq_true rfl, Nat.le_of_ble_eq_true rfl⟩, ⟨Nat.le_of_ble_eq_true rfl, Nat.le_of_ble_eq_true rfl⟩⟩ K_X1_read h (fun i12 s13 h => ?_)
  exact T_ireturn dX4_shader_13 (Nat.le_of_ble_eq_true rfl) (Nat.le_of_ble_eq_true rfl) h

def D_X4_useIfBearable (a0 : Nat) (i1 : Int32) (s0 : Hp) : Option (Int32 × Hp) :=
  (isO s0 a0 4).bind fun _ =>
  (getR s0 a0 4 0).bind fun a11 =>
  (getR s0 a11 2 3).bind fun a12 =>
  bd (D_X1_read a12 i1 s0) fun i13 s14 =>
  (getR s14 a0 4 5).bind fun a15 =>
  bd (D_X1_read a15 i13 s14) fun i16 s17 =>
  (getR s17 a0 4 3).bind fun a18 =>
  bd (D_X1_read a18 i1 s17) fun i19 s20 =>
  nm (i16 + i19) fun i21 =>
  (getR s20 a0 4 0).bind fun a22 =>
  (getR s20 a22 2 0).bind fun a23 =>
  bd (D_X1_read a23 (0 : Int32) s20) fun i24 s25 =>
  if i21 ≤ i24 then
  (getR s25 a0 4 5).bind fun a26 =>
  (D_X1_write a26 i13 i21 s25).bind fun s27 =>
  (getI s27 a0 4 7).bind fun i28 =>
  (putI s27 a0 4 7 (i28 ||| ((1 : Int32) <<< (i1 &&& 31)))).bind fun s29 =>
  (getR s29 a0 4 3).bind fun a30 =>
  bd (D_X1_read a30 i1 s29) fun i31 s32 =>
  some (i31, s32)
  else
  some ((0 : Int32), s25)
set_option maxRecDepth 100000 in
set_option maxHeartbeats 4000000 in
theorem K_X4_useIfBearable {l : Launch} {a0 : Nat} {i1 : Int32} {s0 : Hp} : ∀ P, OK jI (D_X4_useIfBearable a0 i1 s0) P → sm_Ct l yX4_useIfBearable cX4_useIfBearable 4 (some .int) 1 0 0 [.ref a0, .int i1] s0 P := by
  intro P h
  unfold D_X4_useIfBearable at h
  obtain ⟨_, hb0, h⟩ := h.bind
  refine sm_enter (own := RX4) (lv := [(0, .ref a0), (1, .int i1)]) (by decide) rfl (Nat.le_of_ble_eq_true rfl) rfl (fun G => ?_)
  refine T_aload_n dX4_useIfBearable_0 rfl 0 rfl ?_
  refine T_getR dX4_useIfBearable_1 fl_RX4_39 h (fun a11 h => ?_)
  refine T_getR dX4_useIfBearable_4 fl_RX4_109 h (fun a12 h => ?_)
  refine T_iload_n dX4_useIfBearable_7 rfl 1 rfl ?_
  refine T_callVI (As := [.int i1]) (rest := []) (b := a12) (ci := 1) dX4_useIfBearable_8 mc_X1_read mi_X1_read ml_RX4_54 rfl (fun _ hr => chk_of hr) rfl rfl (Nat.le_of_ble_eq_true rfl) ⟨⟨Nat.le_of_ble_eq_true rfl, Nat.le_of_ble_eq_true rfl⟩, ⟨Nat.le_of_ble_eq_true rfl, Nat.le_of_ble_eq_true rfl⟩⟩ K_X1_read h (fun i13 s14 h => ?_)
  refine T_istore_n (lv' := [(2, .int i13), (0, .ref a0), (1, .int i1)]) dX4_useIfBearable_11 rfl (by decide) rfl ?_
  refine T_aload_n dX4_useIfBearable_12 rfl 1 rfl ?_
  refine T_getR dX4_useIfBearable_13 fl_RX4_29 h (fun a15 h => ?_)
  refine T_iload_n dX4_useIfBearable_16 rfl 0 rfl ?_
  refine T_callVI (As := [.int i13]) (rest := []) (b := a15) (ci := 1) dX4_useIfBearable_17 mc_X1_read mi_X1_read ml_RX4_54 rfl (fun _ hr => chk_of hr) rfl rfl (Nat.le_of_ble_eq_true rfl) ⟨⟨Nat.le_of_ble_eq_true rfl, Nat.le_of_ble_eq_true rfl⟩, ⟨Nat.le_of_ble_eq_true rfl, Nat.le_of_ble_eq_true rfl⟩⟩ K_X1_read h (fun i16 s17 h => ?_)
  refine T_aload_n dX4_useIfBearable_20 rfl 1 rfl ?_
  refine T_getR dX4_useIfBearable_21 fl_RX4_23 h (fun a18 h => ?_)
  refine T_iload_n dX4_useIfBearable_24 rfl 2 rfl ?_
  refine T_callVI (As := [.int i1]) (rest := [.int i16]) (b := a18) (ci := 1) dX4_useIfBearable_25 mc_X1_read mi_X1_read ml_RX4_54 rfl (fun _ hr => chk_of hr) rfl rfl (Nat.le_of_ble_eq_true rfl) ⟨⟨Nat.le_of_ble_eq_true rfl, Nat.le_of_ble_eq_true rfl⟩, ⟨Nat.le_of_ble_eq_true rfl, Nat.le_of_ble_eq_true rfl⟩⟩ K_X1_read h (fun i19 s20 h => ?_)
  refine T_iadd dX4_useIfBearable_28 ?_
  refine T_nm h (fun i21 h => ?_)
  refine T_istore_n (lv' := [(3, .int i21), (2, .int i13), (0, .ref a0), (1, .int i1)]) dX4_useIfBearable_29 rfl (by decide) rfl ?_
  refine T_iload_n dX4_useIfBearable_30 rfl 0 rfl ?_
  refine T_aload_n dX4_useIfBearable_31 rfl 2 rfl ?_
  refine T_getR dX4_useIfBearable_32 fl_RX4_39 h (fun a22 h => ?_)
  refine T_getR dX4_useIfBearable_35 fl_RX4_112 h (fun a23 h => ?_)
  refine T_iconst (0 : Int32) dX4_useIfBearable_38 (by decide) ?_
  refine T_callVI (As := [.int (0 : Int32)]) (rest := [.int i21]) (b := a23) (ci := 1) dX4_useIfBearable_39 mc_X1_read mi_X1_read ml_RX4_54 rfl (fun _ hr => chk_of hr) rfl rfl (Nat.le_of_ble_eq_true rfl) ⟨⟨Nat.le_of_ble_eq_true rfl, Nat.le_of_ble_eq_true rfl⟩, ⟨Nat.le_of_ble_eq_true rfl, Nat.le_of_ble_eq_true rfl⟩⟩ K_X1_read h (fun i24 s25 h => ?_)
  refine T_icmp_le 47 dX4_useIfBearable_42 (by decide) h (fun _ h => ?_) (fun _ h => ?_)
  · refine T_aload_n dX4_useIfBearable_47 rfl 2 rfl ?_
    refine T_getR dX4_useIfBearable_48 fl_RX4_29 h (fun a26 h => ?_)
    refine T_iload_n dX4_useIfBearable_51 rfl 1 rfl ?_
    refine T_iload_n dX4_useIfBearable_52 rfl 0 rfl ?_
    refine T_callVV (As := [.int i13, .int i21]) (rest := []) (b := a26) (ci := 1) dX4_useIfBearable_53 mc_X1_write mi_X1_write ml_RX4_61 rfl (fun _ hr => chk_of hr) rfl rfl (Nat.le_of_ble_eq_true rfl) ⟨⟨Nat.le_of_ble_eq_true rfl, Nat.le_of_ble_eq_true rfl⟩, ⟨Nat.le_of_ble_eq_true rfl, Nat.le_of_ble_eq_true rfl⟩⟩ K_X1_write h (fun s27 h => ?_)
    refine T_aload_n dX4_useIfBearable_56 rfl 2 rfl ?_
    refine T_dup dX4_useIfBearable_57 rfl ?_
    refine T_getI dX4_useIfBearable_58 fl_RX4_36 h (fun i28 h => ?_)
    refine T_iconst (1 : Int32) dX4_useIfBearable_61 (by decide) ?_
    refine T_iload_n dX4_useIfBearable_62 rfl 3 rfl ?_
    refine T_ishl dX4_useIfBearable_63 ?_
    refine T_ior dX4_useIfBearable_64 ?_
    refine T_putI dX4_useIfBearable_65 fl_RX4_36 ft_4_7 h (fun s29 h => ?_)
    refine T_aload_n dX4_useIfBearable_68 rfl 2 rfl ?_
    refine T_getR dX4_useIfBearable_69 fl_RX4_23 h (fun a30 h => ?_)
    refine T_iload_n dX4_useIfBearable_72 rfl 3 rfl ?_
    refine T_callVI (As := [.int i1]) (rest := []) (b := a30) (ci := 1) dX4_useIfBearable_73 mc_X1_read mi_X1_read ml_RX4_54 rfl (fun _ hr => chk_of hr) rfl rfl (Nat.le_of_ble_eq_true rfl) ⟨⟨Nat.le_of_ble_eq_true rfl, Nat.le_of_ble_eq_true rfl⟩, ⟨Nat.le_of_ble_eq_true rfl, Nat.le_of_ble_eq_true rfl⟩⟩ K_X1_read h (fun i31 s32 h => ?_)
    exact T_ireturn dX4_useIfBearable_76 (Nat.le_of_ble_eq_true rfl) (Nat.le_of_ble_eq_true rfl) h
  · refine T_iconst (0 : Int32) dX4_useIfBearable_45 (by decide) ?_
    exact T_ireturn dX4_useIfBearable_46 (Nat.le_of_ble_eq_true rfl) (Nat.le_of_ble_eq_true rfl) h

def D_X8_height (i0 : Int32) (s0 : Hp) : Option (Int32 × Hp) :=
  nm (if 0 ≤ (i0 - (5 : Int32)) then (i0 - (5 : Int32)) else 0 - (i0 - (5 : Int32))) fun i11 =>
  some (((6 : Int32) - i11), s0)
set_option maxRecDepth 100000 in
set_option maxHeartbeats 4000000 in
theorem K_X8_height {l : Launch} {i0 : Int32} {s0 : Hp} : ∀ P, OK jI (D_X8_height i0 s0) P → sm_Ct l yX8_height cX8_height 1 (some .int) 1 0 0 [.int i0] s0 P := by
  intro P h
  unfold D_X8_height at h
  refine sm_enter (own := RX8) (lv := [(0, .int i0)]) (by decide) rfl (Nat.le_of_ble_eq_true rfl) rfl (fun G => ?_)
  refine T_bipush (6 : Int32) dX8_height_0 (by decide) ?_
  refine T_iload_n dX8_height_2 rfl 0 rfl ?_
  refine T_iconst (5 : Int32) dX8_height_3 (by decide) ?_
  refine T_isub dX8_height_4 ?_
  refine T_mabs dX8_height_5 ml_RX8_9 wd_9_2 wd_3_13 wd_9_3 ⟨Nat.le_of_ble_eq_true rfl, Nat.le_of_ble_eq_true rfl, Nat.le_of_ble_eq_true rfl, Nat.le_of_ble_eq_true rfl⟩ ?_
  refine T_nm h (fun i11 h => ?_)
  refine T_isub dX8_height_8 ?_
  exact T_ireturn dX8_height_9 (Nat.le_of_ble_eq_true rfl) (Nat.le_of_ble_eq_true rfl) h

def D_X2_blow (a0 : Nat) (i1 : Int32) (s0 : Hp) : Option (Int32 × Hp) :=
  (isO s0 a0 2).bind fun _ =>
  if i1 < 0 then
  some ((-2 : Int32), s0)
  else
  if i1 ≤ (99 : Int32) then
  (putI s0 a0 2 7 i1).bind fun s11 =>
  bd (D_X2_liesFlat a0 s11) fun i12 s13 =>
  if i12 = 0 then
  some ((0 : Int32), s13)
  else
  some ((1 : Int32), s13)
  else
  some ((-2 : Int32), s0)
set_option maxRecDepth 100000 in
set_option maxHeartbeats 4000000 in
theorem K_X2_blow {l : Launch} {a0 : Nat} {i1 : Int32} {s0 : Hp} : ∀ P, OK jI (D_X2_blow a0 i1 s0) P → sm_Ct l yX2_blow cX2_blow 2 (some .int) 2 0 0 [.ref a0, .int i1] s0 P := by
  intro P h
  unfold D_X2_blow at h
  obtain ⟨_, hb0, h⟩ := h.bind
  refine sm_enter (own := RX2) (lv := [(0, .ref a0), (1, .int i1)]) (by decide) rfl (Nat.le_of_ble_eq_true rfl) rfl (fun G => ?_)
  refine T_iload_n dX2_blow_0 rfl 1 rfl ?_
  refine T_if_lt 10 dX2_blow_1 (by decide) h (fun _ h => ?_) (fun _ h => ?_)
  · refine T_bipush (-2 : Int32) dX2_blow_10 (by decide) ?_
    exact T_ireturn dX2_blow_12 (Nat.le_of_ble_eq_true rfl) (Nat.le_of_ble_eq_true rfl) h
  · refine T_iload_n dX2_blow_4 rfl 1 rfl ?_
    refine T_bipush (99 : Int32) dX2_blow_5 (by decide) ?_
    refine T_icmp_le 13 dX2_blow_7 (by decide) h (fun _ h => ?_) (fun _ h => ?_)
    · refine T_aload_n dX2_blow_13 rfl 0 rfl ?_
      refine T_iload_n dX2_blow_14 rfl 1 rfl ?_
      refine T_putI dX2_blow_15 fl_RX2_39 ft_2_7 h (fun s11 h => ?_)
      refine T_aload_n dX2_blow_18 rfl 0 rfl ?_
      refine T_callVI (As := []) (rest := []) (b := a0) (ci := 2) dX2_blow_19 mc_X2_liesFlat mi_X2_liesFlat ml_RX2_85 rfl (fun _ hr => chk_of hr) rfl rfl (Nat.le_of_ble_eq_true rfl) ⟨⟨Nat.le_of_ble_eq_true rfl, Nat.le_of_ble_eq_true rfl⟩, ⟨Nat.le_of_ble_eq_true rfl, Nat.le_of_ble_eq_true rfl⟩⟩ K_X2_liesFlat h (fun i12 s13 h => ?_)
      refine T_if_eq 29 dX2_blow_22 (by decide) h (fun _ h => ?_) (fun _ h => ?_)
      · refine T_iconst (0 : Int32) dX2_blow_29 (by decide) ?_
        exact T_ireturn dX2_blow_30 (Nat.le_of_ble_eq_true rfl) (Nat.le_of_ble_eq_true rfl) h
      · refine T_iconst (1 : Int32) dX2_blow_25 (by decide) ?_
        refine T_goto 30 dX2_blow_26 (by decide) ?_
        exact T_ireturn dX2_blow_30 (Nat.le_of_ble_eq_true rfl) (Nat.le_of_ble_eq_true rfl) h
    · refine T_bipush (-2 : Int32) dX2_blow_10 (by decide) ?_
      exact T_ireturn dX2_blow_12 (Nat.le_of_ble_eq_true rfl) (Nat.le_of_ble_eq_true rfl) h

def D_X2_copy (a0 : Nat) (a1 : Nat) (s0 : Hp) : Option Hp :=
  (isO s0 a0 2).bind fun _ =>
  (getR s0 a0 2 0).bind fun a11 =>
  (getR s0 a1 2 0).bind fun a12 =>
  (D_X1_copy a11 a12 s0).bind fun s13 =>
  (getR s13 a0 2 1).bind fun a14 =>
  (getR s13 a1 2 1).bind fun a15 =>
  (D_X1_copy a14 a15 s13).bind fun s16 =>
  (getR s16 a0 2 2).bind fun a17 =>
  (getR s16 a1 2 2).bind fun a18 =>
  (D_X1_copy a17 a18 s16).bind fun s19 =>
  (getR s19 a0 2 3).bind fun a20 =>
  (getR s19 a1 2 3).bind fun a21 =>
  (D_X1_copy a20 a21 s19).bind fun s22 =>
  (getR s22 a0 2 4).bind fun a23 =>
  (getR s22 a1 2 4).bind fun a24 =>
  (D_X1_copy a23 a24 s22).bind fun s25 =>
  (getR s25 a0 2 5).bind fun a26 =>
  (getR s25 a1 2 5).bind fun a27 =>
  (D_X1_copy a26 a27 s25).bind fun s28 =>
  (getI s28 a1 2 6).bind fun i29 =>
  (putI s28 a0 2 6 i29).bind fun s30 =>
  (getI s30 a1 2 7).bind fun i31 =>
  (putI s30 a0 2 7 i31).bind fun s32 =>
  (getI s32 a1 2 8).bind fun i33 =>
  (putI s32 a0 2 8 i33).bind fun s34 =>
  (getI s34 a1 2 9).bind fun i35 =>
  (putI s34 a0 2 9 i35).bind fun s36 =>
  some s36
set_option maxRecDepth 100000 in
set_option maxHeartbeats 4000000 in
theorem K_X2_copy {l : Launch} {a0 : Nat} {a1 : Nat} {s0 : Hp} : ∀ P, OK jV (D_X2_copy a0 a1 s0) P → sm_Ct l yX2_copy cX2_copy 2 none 2 0 0 [.ref a0, .ref a1] s0 P := by
  intro P h
  unfold D_X2_copy at h
  obtain ⟨_, hb0, h⟩ := h.bind
  refine sm_enter (own := RX2) (lv := [(0, .ref a0), (1, .ref a1)]) (by decide) rfl (Nat.le_of_ble_eq_true rfl) rfl (fun G => ?_)
  refine T_aload_n dX2_copy_0 rfl 0 rfl ?_
  refine T_getR dX2_copy_1 fl_RX2_14 h (fun a11 h => ?_)
  refine T_aload_n dX2_copy_4 rfl 1 rfl ?_
  refine T_getR dX2_copy_5 fl_RX2_14 h (fun a12 h => ?_)
  refine T_callVV (As := [.ref a12]) (rest := []) (b := a11) (ci := 1) dX2_copy_8 mc_X1_copy mi_X1_copy ml_RX2_52 rfl (fun _ hr => chk_of hr) rfl rfl (Nat.le_of_ble_eq_true rfl) ⟨⟨Nat.le_of_ble_eq_true rfl, Nat.le_of_ble_eq_true rfl⟩, ⟨Nat.le_of_ble_eq_true rfl, Nat.le_of_ble_eq_true rfl⟩⟩ K_X1_copy h (fun s13 h => ?_)
  refine T_aload_n dX2_copy_11 rfl 0 rfl ?_
  refine T_getR dX2_copy_12 fl_RX2_20 h (fun a14 h => ?_)
  refine T_aload_n dX2_copy_15 rfl 1 rfl ?_
  refine T_getR dX2_copy_16 fl_RX2_20 h (fun a15 h => ?_)
  refine T_callVV (As := [.ref a15]) (rest := []) (b := a14) (ci := 1) dX2_copy_19 mc_X1_copy mi_X1_copy ml_RX2_52 rfl (fun _ hr => chk_of hr) rfl rfl (Nat.le_of_ble_eq_true rfl) ⟨⟨Nat.le_of_ble_eq_true rfl, Nat.le_of_ble_eq_true rfl⟩, ⟨Nat.le_of_ble_eq_true rfl, Nat.le_of_ble_eq_true rfl⟩⟩ K_X1_copy h (fun s16 h => ?_)
  refine T_aload_n dX2_copy_22 rfl 0 rfl ?_
  refine T_getR dX2_copy_23 fl_RX2_23 h (fun a17 h => ?_)
  refine T_aload_n dX2_copy_26 rfl 1 rfl ?_
  refine T_getR dX2_copy_27 fl_RX2_23 h (fun a18 h => ?_)
  refine T_callVV (As := [.ref a18]) (rest := []) (b := a17) (ci := 1) dX2_copy_30 mc_X1_copy mi_X1_copy ml_RX2_52 rfl (fun _ hr => chk_of hr) rfl rfl (Nat.le_of_ble_eq_true rfl) ⟨⟨Nat.le_of_ble_eq_true rfl, Nat.le_of_ble_eq_true rfl⟩, ⟨Nat.le_of_ble_eq_true rfl, Nat.le_of_ble_eq_true rfl⟩⟩ K_X1_copy h (fun s19 h => ?_)
  refine T_aload_n dX2_copy_33 rfl 0 rfl ?_
  refine T_getR dX2_copy_34 fl_RX2_26 h (fun a20 h => ?_)
  refine T_aload_n dX2_copy_37 rfl 1 rfl ?_
  refine T_getR dX2_copy_38 fl_RX2_26 h (fun a21 h => ?_)
  refine T_callVV (As := [.ref a21]) (rest := []) (b := a20) (ci := 1) dX2_copy_41 mc_X1_copy mi_X1_copy ml_RX2_52 rfl (fun _ hr => chk_of hr) rfl rfl (Nat.le_of_ble_eq_true rfl) ⟨⟨Nat.le_of_ble_eq_true rfl, Nat.le_of_ble_eq_true rfl⟩, ⟨Nat.le_of_ble_eq_true rfl, Nat.le_of_ble_eq_true rfl⟩⟩ K_X1_copy h (fun s22 h => ?_)
  refine T_aload_n dX2_copy_44 rfl 0 rfl ?_
  refine T_getR dX2_copy_45 fl_RX2_29 h (fun a23 h => ?_)
  refine T_aload_n dX2_copy_48 rfl 1 rfl ?_
  refine T_getR dX2_copy_49 fl_RX2_29 h (fun a24 h => ?_)
  refine T_callVV (As := [.ref a24]) (rest := []) (b := a23) (ci := 1) dX2_copy_52 mc_X1_copy mi_X1_copy ml_RX2_52 rfl (fun _ hr => chk_of hr) rfl rfl (Nat.le_of_ble_eq_true rfl) ⟨⟨Nat.le_of_ble_eq_true rfl, Nat.le_of_ble_eq_true rfl⟩, ⟨Nat.le_of_ble_eq_true rfl, Nat.le_of_ble_eq_true rfl⟩⟩ K_X1_copy h (fun s25 h => ?_)
  refine T_aload_n dX2_copy_55 rfl 0 rfl ?_
  refine T_getR dX2_copy_56 fl_RX2_32 h (fun a26 h => ?_)
  refine T_aload_n dX2_copy_59 rfl 1 rfl ?_
  refine T_getR dX2_copy_60 fl_RX2_32 h (fun a27 h => ?_)
  refine T_callVV (As := [.ref a27]) (rest := []) (b := a26) (ci := 1) dX2_copy_63 mc_X1_copy mi_X1_copy ml_RX2_52 rfl (fun _ hr => chk_of hr) rfl rfl (Nat.le_of_ble_eq_true rfl) ⟨⟨Nat.le_of_ble_eq_true rfl, Nat.le_of_ble_eq_true rfl⟩, ⟨Nat.le_of_ble_eq_true rfl, Nat.le_of_ble_eq_true rfl⟩⟩ K_X1_copy h (fun s28 h => ?_)
  refine T_aload_n dX2_copy_66 rfl 0 rfl ?_
  refine T_aload_n dX2_copy_67 rfl 1 rfl ?_
  refine T_getI dX2_copy_68 fl_RX2_35 h (fun i29 h => ?_)
  refine T_putI dX2_copy_71 fl_RX2_35 ft_2_6 h (fun s30 h => ?_)
  refine T_aload_n dX2_copy_74 rfl 0 rfl ?_
  refine T_aload_n dX2_copy_75 rfl 1 rfl ?_
  refine T_getI dX2_copy_76 fl_RX2_39 h (fun i31 h => ?_)
  refine T_putI dX2_copy_79 fl_RX2_39 ft_2_7 h (fun s32 h => ?_)
  refine T_aload_n dX2_copy_82 rfl 0 rfl ?_
  refine T_aload_n dX2_copy_83 rfl 1 rfl ?_
  refine T_getI dX2_copy_84 fl_RX2_42 h (fun i33 h => ?_)
  refine T_putI dX2_copy_87 fl_RX2_42 ft_2_8 h (fun s34 h => ?_)
  refine T_aload_n dX2_copy_90 rfl 0 rfl ?_
  refine T_aload_n dX2_copy_91 rfl 1 rfl ?_
  refine T_getI dX2_copy_92 fl_RX2_45 h (fun i35 h => ?_)
  refine T_putI dX2_copy_95 fl_RX2_45 ft_2_9 h (fun s36 h => ?_)
  exact T_vreturn dX2_copy_98 (Nat.le_of_ble_eq_true rfl) (Nat.le_of_ble_eq_true rfl) h

def D_X2_init (a0 : Nat) (s0 : Hp) : Option Hp :=
  (isO s0 a0 2).bind fun _ =>
  nm (newO s0 1 [.null]) fun s11 =>
  (D_X1_init s0.1 (3 : Int32) s11).bind fun s12 =>
  (putV s12 a0 2 0 (.ref s0.1)).bind fun s13 =>
  nm (newO s13 1 [.null]) fun s14 =>
  (D_X1_init s13.1 (25 : Int32) s14).bind fun s15 =>
  (putV s15 a0 2 1 (.ref s13.1)).bind fun s16 =>
  nm (newO s16 1 [.null]) fun s17 =>
  (D_X1_init s16.1 (25 : Int32) s17).bind fun s18 =>
  (putV s18 a0 2 2 (.ref s16.1)).bind fun s19 =>
  nm (newO s19 1 [.null]) fun s20 =>
  (D_X1_init s19.1 (25 : Int32) s20).bind fun s21 =>
  (putV s21 a0 2 3 (.ref s19.1)).bind fun s22 =>
  nm (newO s22 1 [.null]) fun s23 =>
  (D_X1_init s22.1 (25 : Int32) s23).bind fun s24 =>
  (putV s24 a0 2 4 (.ref s22.1)).bind fun s25 =>
  nm (newO s25 1 [.null]) fun s26 =>
  (D_X1_init s25.1 (25 : Int32) s26).bind fun s27 =>
  (putV s27 a0 2 5 (.ref s25.1)).bind fun s28 =>
  (putI s28 a0 2 6 (0 : Int32)).bind fun s29 =>
  (putI s29 a0 2 7 (0 : Int32)).bind fun s30 =>
  (putI s30 a0 2 8 (0 : Int32)).bind fun s31 =>
  (putI s31 a0 2 9 (0 : Int32)).bind fun s32 =>
  (getR s32 a0 2 0).bind fun a33 =>
  (D_X1_write a33 (0 : Int32) (400 : Int32) s32).bind fun s34 =>
  (getR s34 a0 2 0).bind fun a35 =>
  (D_X1_write a35 (1 : Int32) (50 : Int32) s34).bind fun s36 =>
  (getR s36 a0 2 0).bind fun a37 =>
  (D_X1_write a37 (2 : Int32) (2 : Int32) s36).bind fun s38 =>
  some s38
set_option maxRecDepth 100000 in
set_option maxHeartbeats 4000000 in
theorem K_X2_init {l : Launch} {a0 : Nat} {s0 : Hp} : ∀ P, OK jV (D_X2_init a0 s0) P → sm_Ct l yX2_init cX2_init 1 none 2 12 4806 [.ref a0] s0 P := by
  intro P h
  unfold D_X2_init at h
  obtain ⟨_, hb0, h⟩ := h.bind
  refine sm_enter (own := RX2) (lv := [(0, .ref a0)]) (by decide) rfl (Nat.le_of_ble_eq_true rfl) rfl (fun G => ?_)
  refine T_aload_n dX2_init_0 rfl 0 rfl ?_
  refine T_objInit dX2_init_1 ml_RX2_3 wd_1_7 wd_1_8 ⟨Nat.le_of_ble_eq_true rfl, Nat.le_of_ble_eq_true rfl⟩ ?_
  refine T_aload_n dX2_init_4 rfl 0 rfl ?_
  refine T_newO (C := RX1) (ci := 1) (fs := [.null]) dX2_init_5 wd_2_18 wd_2_19 wd_2_20 ⟨TX1, tyX1, rfl, inlX1, tyX1_ok, by decide +kernel⟩ (Nat.le_of_ble_eq_true rfl) (Nat.le_of_ble_eq_true rfl) ?_
  refine T_nh h (fun s11 h => ?_)
  refine T_dup dX2_init_8 rfl ?_
  refine T_iconst (3 : Int32) dX2_init_9 (by decide) ?_
  refine T_callIV (As := [.int (3 : Int32)]) (rest := [.ref s0.1, .ref a0]) (b := s0.1) dX2_init_10 mc_X1_init mi_X1_init ml_RX2_11 rfl rfl (Nat.le_of_ble_eq_true rfl) ⟨⟨Nat.le_of_ble_eq_true rfl, Nat.le_of_ble_eq_true rfl⟩, ⟨Nat.le_of_ble_eq_true rfl, Nat.le_of_ble_eq_true rfl⟩⟩ K_X1_init h (fun s12 h => ?_)
  refine T_putF (rt := none) rfl dX2_init_13 fl_RX2_14 ft_2_0 rfl rfl rfl h (fun s13 h => ?_)
  refine T_aload_n dX2_init_16 rfl 0 rfl ?_
  refine T_newO (C := RX1) (ci := 1) (fs := [.null]) dX2_init_17 wd_2_18 wd_2_19 wd_2_20 ⟨TX1, tyX1, rfl, inlX1, tyX1_ok, by decide +kernel⟩ (Nat.le_of_ble_eq_true rfl) (Nat.le_of_ble_eq_true rfl) ?_
  refine T_nh h (fun s14 h => ?_)
  refine T_dup dX2_init_20 rfl ?_
  refine T_bipush (25 : Int32) dX2_init_21 (by decide) ?_
  refine T_callIV (As := [.int (25 : Int32)]) (rest := [.ref s13.1, .ref a0]) (b := s13.1) dX2_init_23 mc_X1_init mi_X1_init ml_RX2_11 rfl rfl (Nat.le_of_ble_eq_true rfl) ⟨⟨Nat.le_of_ble_eq_true rfl, Nat.le_of_ble_eq_true rfl⟩, ⟨Nat.le_of_ble_eq_true rfl, Nat.le_of_ble_eq_true rfl⟩⟩ K_X1_init h (fun s15 h => ?_)
  refine T_putF (rt := none) rfl dX2_init_26 fl_RX2_20 ft_2_1 rfl rfl rfl h (fun s16 h => ?_)
  refine T_aload_n dX2_init_29 rfl 0 rfl ?_
  refine T_newO (C := RX1) (ci := 1) (fs := [.null]) dX2_init_30 wd_2_18 wd_2_19 wd_2_20 ⟨TX1, tyX1, rfl, inlX1, tyX1_ok, by decide +kernel⟩ (Nat.le_of_ble_eq_true rfl) (Nat.le_of_ble_eq_true rfl) ?_
  refine T_nh h (fun s17 h => ?_)
  refine T_dup dX2_init_33 rfl ?_
  refine T_bipush (25 : Int32) dX2_init_34 (by decide) ?_
  refine T_callIV (As := [.int (25 : Int32)]) (rest := [.ref s16.1, .ref a0]) (b := s16.1) dX2_init_36 mc_X1_init mi_X1_init ml_RX2_11 rfl rfl (Nat.le_of_ble_eq_true rfl) ⟨⟨Nat.le_of_ble_eq_true rfl, Nat.le_of_ble_eq_true rfl⟩, ⟨Nat.le_of_ble_eq_true rfl, Nat.le_of_ble_eq_true rfl⟩⟩ K_X1_init h (fun s18 h => ?_)
  refine T_putF (rt := none) rfl dX2_init_39 fl_RX2_23 ft_2_2 rfl rfl rfl h (fun s19 h => ?_)
  refine T_aload_n dX2_init_42 rfl 0 rfl ?_
  refine T_newO (C := RX1) (ci := 1) (fs := [.null]) dX2_init_43 wd_2_18 wd_2_19 wd_2_20 ⟨TX1, tyX1, rfl, inlX1, tyX1_ok, by decide +kernel⟩ (Nat.le_of_ble_eq_true rfl) (Nat.le_of_ble_eq_true rfl) ?_
  refine T_nh h (fun s20 h => ?_)
  refine T_dup dX2_init_46 rfl ?_
  refine T_bipush (25 : Int32) dX2_init_47 (by decide) ?_
  refine T_callIV (As := [.int (25 : Int32)]) (rest := [.ref s19.1, .ref a0]) (b := s19.1) dX2_init_49 mc_X1_init mi_X1_init ml_RX2_11 rfl rfl (Nat.le_of_ble_eq_true rfl) ⟨⟨Nat.le_of_ble_eq_true rfl, Nat.le_of_ble_eq_true rfl⟩, ⟨Nat.le_of_ble_eq_true rfl, Nat.le_of_ble_eq_true rfl⟩⟩ K_X1_init h (fun s21 h => ?_)
  refine T_putF (rt := none) rfl dX2_init_52 fl_RX2_26 ft_2_3 rfl rfl rfl h (fun s22 h => ?_)
  refine T_aload_n dX2_init_55 rfl 0 rfl ?_
  refine T_newO (C := RX1) (ci := 1) (fs := [.null]) dX2_init_56 wd_2_18 wd_2_19 wd_2_20 ⟨TX1, tyX1, rfl, inlX1, tyX1_ok, by decide +kernel⟩ (Nat.le_of_ble_eq_true rfl) (Nat.le_of_ble_eq_true rfl) ?_
  refine T_nh h (fun s23 h => ?_)
  refine T_dup dX2_init_59 rfl ?_
  refine T_bipush (25 : Int32) dX2_init_60 (by decide) ?_
  refine T_callIV (As := [.int (25 : Int32)]) (rest := [.ref s22.1, .ref a0]) (b := s22.1) dX2_init_62 mc_X1_init mi_X1_init ml_RX2_11 rfl rfl (Nat.le_of_ble_eq_true rfl) ⟨⟨Nat.le_of_ble_eq_true rfl, Nat.le_of_ble_eq_true rfl⟩, ⟨Nat.le_of_ble_eq_true rfl, Nat.le_of_ble_eq_true rfl⟩⟩ K_X1_init h (fun s24 h => ?_)
  refine T_putF (rt := none) rfl dX2_init_65 fl_RX2_29 ft_2_4 rfl rfl rfl h (fun s25 h => ?_)
  refine T_aload_n dX2_init_68 rfl 0 rfl ?_
  refine T_newO (C := RX1) (ci := 1) (fs := [.null]) dX2_init_69 wd_2_18 wd_2_19 wd_2_20 ⟨TX1, tyX1, rfl, inlX1, tyX1_ok, by decide +kernel⟩ (Nat.le_of_ble_eq_true rfl) (Nat.le_of_ble_eq_true rfl) ?_
  refine T_nh h (fun s26 h => ?_)
  refine T_dup dX2_init_72 rfl ?_
  refine T_bipush (25 : Int32) dX2_init_73 (by decide) ?_
  refine T_callIV (As := [.int (25 : Int32)]) (rest := [.ref s25.1, .ref a0]) (b := s25.1) dX2_init_75 mc_X1_init mi_X1_init ml_RX2_11 rfl rfl (Nat.le_of_ble_eq_true rfl) ⟨⟨Nat.le_of_ble_eq_true rfl, Nat.le_of_ble_eq_true rfl⟩, ⟨Nat.le_of_ble_eq_true rfl, Nat.le_of_ble_eq_true rfl⟩⟩ K_X1_init h (fun s27 h => ?_)
  refine T_putF (rt := none) rfl dX2_init_78 fl_RX2_32 ft_2_5 rfl rfl rfl h (fun s28 h => ?_)
  refine T_aload_n dX2_init_81 rfl 0 rfl ?_
  refine T_iconst (0 : Int32) dX2_init_82 (by decide) ?_
  refine T_putI dX2_init_83 fl_RX2_35 ft_2_6 h (fun s29 h => ?_)
  refine T_aload_n dX2_init_86 rfl 0 rfl ?_
  refine T_iconst (0 : Int32) dX2_init_87 (by decide) ?_
  refine T_putI dX2_init_88 fl_RX2_39 ft_2_7 h (fun s30 h => ?_)
  refine T_aload_n dX2_init_91 rfl 0 rfl ?_
  refine T_iconst (0 : Int32) dX2_init_92 (by decide) ?_
  refine T_putI dX2_init_93 fl_RX2_42 ft_2_8 h (fun s31 h => ?_)
  refine T_aload_n dX2_init_96 rfl 0 rfl ?_
  refine T_iconst (0 : Int32) dX2_init_97 (by decide) ?_
  refine T_putI dX2_init_98 fl_RX2_45 ft_2_9 h (fun s32 h => ?_)
  refine T_aload_n dX2_init_101 rfl 0 rfl ?_
  refine T_getR dX2_init_102 fl_RX2_14 h (fun a33 h => ?_)
  refine T_iconst (0 : Int32) dX2_init_105 (by decide) ?_
  refine T_sipush (400 : Int32) dX2_init_106 (by decide) ?_
  refine T_callVV (As := [.int (0 : Int32), .int (400 : Int32)]) (rest := []) (b := a33) (ci := 1) dX2_init_109 mc_X1_write mi_X1_write ml_RX2_48 rfl (fun _ hr => chk_of hr) rfl rfl (Nat.le_of_ble_eq_true rfl) ⟨⟨Nat.le_of_ble_eq_true rfl, Nat.le_of_ble_eq_true rfl⟩, ⟨Nat.le_of_ble_eq_true rfl, Nat.le_of_ble_eq_true rfl⟩⟩ K_X1_write h (fun s34 h => ?_)
  refine T_aload_n dX2_init_112 rfl 0 rfl ?_
  refine T_getR dX2_init_113 fl_RX2_14 h (fun a35 h => ?_)
  refine T_iconst (1 : Int32) dX2_init_116 (by decide) ?_
  refine T_bipush (50 : Int32) dX2_init_117 (by decide) ?_
  refine T_callVV (As := [.int (1 : Int32), .int (50 : Int32)]) (rest := []) (b := a35) (ci := 1) dX2_init_119 mc_X1_write mi_X1_write ml_RX2_48 rfl (fun _ hr => chk_of hr) rfl rfl (Nat.le_of_ble_eq_true rfl) ⟨⟨Nat.le_of_ble_eq_true rfl, Nat.le_of_ble_eq_true rfl⟩, ⟨Nat.le_of_ble_eq_true rfl, Nat.le_of_ble_eq_true rfl⟩⟩ K_X1_write h (fun s36 h => ?_)
  refine T_aload_n dX2_init_122 rfl 0 rfl ?_
  refine T_getR dX2_init_123 fl_RX2_14 h (fun a37 h => ?_)
  refine T_iconst (2 : Int32) dX2_init_126 (by decide) ?_
  refine T_iconst (2 : Int32) dX2_init_127 (by decide) ?_
  refine T_callVV (As := [.int (2 : Int32), .int (2 : Int32)]) (rest := []) (b := a37) (ci := 1) dX2_init_128 mc_X1_write mi_X1_write ml_RX2_48 rfl (fun _ hr => chk_of hr) rfl rfl (Nat.le_of_ble_eq_true rfl) ⟨⟨Nat.le_of_ble_eq_true rfl, Nat.le_of_ble_eq_true rfl⟩, ⟨Nat.le_of_ble_eq_true rfl, Nat.le_of_ble_eq_true rfl⟩⟩ K_X1_write h (fun s38 h => ?_)
  exact T_vreturn dX2_init_131 (Nat.le_of_ble_eq_true rfl) (Nat.le_of_ble_eq_true rfl) h

def D_X2_place (a0 : Nat) (i1 : Int32) (i2 : Int32) (i3 : Int32) (s0 : Hp) : Option (Int32 × Hp) :=
  (isO s0 a0 2).bind fun _ =>
  bd (D_X9_isPlace i1 i2 s0) fun i11 s12 =>
  if i11 = 0 then
  some ((-2 : Int32), s12)
  else
  bd (D_X9_isAimPoint i3 s12) fun i13 s14 =>
  if i13 = 0 then
  some ((-2 : Int32), s14)
  else
  bd (D_X2_mirrorIn a0 i1 i2 s14) fun i15 s16 =>
  if i15 = (-6 : Int32) then
  (getI s16 a0 2 6).bind fun i17 =>
  if i17 < (24 : Int32) then
  bd (D_X2_add a0 i1 i2 i3 s16) fun i18 s19 =>
  some (i18, s19)
  else
  some ((-4 : Int32), s16)
  else
  some ((-5 : Int32), s16)
set_option maxRecDepth 100000 in
set_option maxHeartbeats 4000000 in
theorem K_X2_place {l : Launch} {a0 : Nat} {i1 : Int32} {i2 : Int32} {i3 : Int32} {s0 : Hp} : ∀ P, OK jI (D_X2_place a0 i1 i2 i3 s0) P → sm_Ct l yX2_place cX2_place 4 (some .int) 2 0 0 [.ref a0, .int i1, .int i2, .int i3] s0 P := by
  intro P h
  unfold D_X2_place at h
  obtain ⟨_, hb0, h⟩ := h.bind
  refine sm_enter (own := RX2) (lv := [(0, .ref a0), (1, .int i1), (2, .int i2), (3, .int i3)]) (by decide) rfl (Nat.le_of_ble_eq_true rfl) rfl (fun G => ?_)
  refine T_iload_n dX2_place_0 rfl 1 rfl ?_
  refine T_iload_n dX2_place_1 rfl 2 rfl ?_
  refine T_callSNI (As := [.int i1, .int i2]) (rest := []) dX2_place_2 mc_X9_isPlace mi_X9_isPlace ml_RX2_64 rfl rfl (Nat.le_of_ble_eq_true rfl) ⟨⟨Nat.le_of_ble_eq_true rfl, Nat.le_of_ble_eq_true rfl⟩, ⟨Nat.le_of_ble_eq_true rfl, Nat.le_of_ble_eq_true rfl⟩⟩ K_X9_isPlace h (fun i11 s12 h => ?_)
  refine T_if_eq 15 dX2_place_5 (by decide) h (fun _ h => ?_) (fun _ h => ?_)
  · refine T_bipush (-2 : Int32) dX2_place_15 (by decide) ?_
    exact T_ireturn dX2_place_17 (Nat.le_of_ble_eq_true rfl) (Nat.le_of_ble_eq_true rfl) h
  · refine T_iload_n dX2_place_8 rfl 3 rfl ?_
    refine T_callSNI (As := [.int i3]) (rest := []) dX2_place_9 mc_X9_isAimPoint mi_X9_isAimPoint ml_RX2_67 rfl rfl (Nat.le_of_ble_eq_true rfl) ⟨⟨Nat.le_of_ble_eq_true rfl, Nat.le_of_ble_eq_true rfl⟩, ⟨Nat.le_of_ble_eq_true rfl, Nat.le_of_ble_eq_true rfl⟩⟩ K_X9_isAimPoint h (fun i13 s14 h => ?_)
    refine T_if_ne 18 dX2_place_12 (by decide) h (fun _ h => ?_) (fun _ h => ?_)
    · refine T_aload_n dX2_place_18 rfl 0 rfl ?_
      refine T_iload_n dX2_place_19 rfl 1 rfl ?_
      refine T_iload_n dX2_place_20 rfl 2 rfl ?_
      refine T_callVI (As := [.int i1, .int i2]) (rest := []) (b := a0) (ci := 2) dX2_place_21 mc_X2_mirrorIn mi_X2_mirrorIn ml_RX2_71 rfl (fun _ hr => chk_of hr) rfl rfl (Nat.le_of_ble_eq_true rfl) ⟨⟨Nat.le_of_ble_eq_true rfl, Nat.le_of_ble_eq_true rfl⟩, ⟨Nat.le_of_ble_eq_true rfl, Nat.le_of_ble_eq_true rfl⟩⟩ K_X2_mirrorIn h (fun i15 s16 h => ?_)
      refine T_bipush (-6 : Int32) dX2_place_24 (by decide) ?_
      refine T_icmp_eq 32 dX2_place_26 (by decide) h (fun _ h => ?_) (fun _ h => ?_)
      · refine T_aload_n dX2_place_32 rfl 0 rfl ?_
        refine T_getI dX2_place_33 fl_RX2_35 h (fun i17 h => ?_)
        refine T_bipush (24 : Int32) dX2_place_36 (by decide) ?_
        refine T_icmp_lt 44 dX2_place_38 (by decide) h (fun _ h => ?_) (fun _ h => ?_)
        · refine T_aload_n dX2_place_44 rfl 0 rfl ?_
          refine T_iload_n dX2_place_45 rfl 1 rfl ?_
          refine T_iload_n dX2_place_46 rfl 2 rfl ?_
          refine T_iload_n dX2_place_47 rfl 3 rfl ?_
          refine T_callVI (As := [.int i1, .int i2, .int i3]) (rest := []) (b := a0) (ci := 2) dX2_place_48 mc_X2_add mi_X2_add ml_RX2_75 rfl (fun _ hr => chk_of hr) rfl rfl (Nat.le_of_ble_eq_true rfl) ⟨⟨Nat.le_of_ble_eq_true rfl, Nat.le_of_ble_eq_true rfl⟩, ⟨Nat.le_of_ble_eq_true rfl, Nat.le_of_ble_eq_true rfl⟩⟩ K_X2_add h (fun i18 s19 h => ?_)
          exact T_ireturn dX2_place_51 (Nat.le_of_ble_eq_true rfl) (Nat.le_of_ble_eq_true rfl) h
        · refine T_bipush (-4 : Int32) dX2_place_41 (by decide) ?_
          exact T_ireturn dX2_place_43 (Nat.le_of_ble_eq_true rfl) (Nat.le_of_ble_eq_true rfl) h
      · refine T_bipush (-5 : Int32) dX2_place_29 (by decide) ?_
        exact T_ireturn dX2_place_31 (Nat.le_of_ble_eq_true rfl) (Nat.le_of_ble_eq_true rfl) h
    · refine T_bipush (-2 : Int32) dX2_place_15 (by decide) ?_
      exact T_ireturn dX2_place_17 (Nat.le_of_ble_eq_true rfl) (Nat.le_of_ble_eq_true rfl) h
