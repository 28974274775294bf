def D_X10_mirrorAt_w2 (a11 : Nat) (i12 : Int32) (i13 : Int32) (k41 : Hp → Option (Int32 × Hp)) : Nat → Int32 → Hp → Option (Int32 × Hp)
  | 0, _, _ => none
  | n16 + 1, i14, s15 =>
  (getR s15 a11 9 0).bind fun a17 =>
  (ldI s15 a17 (6 : Int32)).bind fun i18 =>
  if i18 ≤ i14 then
  k41 s15
  else
  bd (D_X10_its a11 i14 (0 : Int32) s15) fun i19 s20 =>
  if i19 = i12 then
  bd (D_X10_its a11 i14 (1 : Int32) s20) fun i21 s22 =>
  if i21 = i13 then
  some (i14, s22)
  else
  D_X10_mirrorAt_w2 a11 i12 i13 k41 n16 (i14 + 1) s22
  else
  D_X10_mirrorAt_w2 a11 i12 i13 k41 n16 (i14 + 1) s20
def D_X10_mirrorAt (a0 : Nat) (i1 : Int32) (i2 : Int32) (s0 : Hp) : Option (Int32 × Hp) :=
  (isO s0 a0 9).bind fun _ =>
  D_X10_mirrorAt_w2 a0 i1 i2 (fun s24 =>
  some ((-6 : Int32), s24)
  ) FU (0 : Int32) s0
set_option maxRecDepth 100000 in
set_option maxHeartbeats 4000000 in
theorem K_X10_mirrorAt_w2 {l : Launch} {G : smG} {P : Option Value → Hp → Prop} {a11 : Nat} {i12 : Int32} {i13 : Int32} {k41 : Hp → Option (Int32 × Hp)} (hk41 : ∀  (s23 : Hp), OK jI (k41 s23) P → T l G RX10 cX10_mirrorAt 4 (sm_rm 1 0 0) (sm_E (some .int) yX10_mirrorAt.name) (sm_Qs G P 0 0) 0 0 41 [] [] s23) : ∀ (n : Nat) (i14 : Int32) (s15 : Hp), OK jI (D_X10_mirrorAt_w2 a11 i12 i13 k41 n i14 s15) P → T l G RX10 cX10_mirrorAt 4 (sm_rm 1 0 0) (sm_E (some .int) yX10_mirrorAt.name) (sm_Qs G P 0 0) 0 0 2 [(0, .ref a11), (1, .int i12), (2, .int i13), (3, .int i14)] [] s15 := by
  intro n
  induction n with
  | zero => intro i14 s15 h; obtain ⟨_, h0, _⟩ := h; exact absurd h0 (by simp [D_X10_mirrorAt_w2])
  | succ n16 ih =>
    intro i14 s15 h
    unfold D_X10_mirrorAt_w2 at h
    refine T_iload_n dX10_mirrorAt_2 rfl 3 rfl ?_
    refine T_aload_n dX10_mirrorAt_3 rfl 0 rfl ?_
    refine T_getR dX10_mirrorAt_4 fl_RX10_7 h (fun a17 h => ?_)
    refine T_bipush (6 : Int32) dX10_mirrorAt_7 (by decide) ?_
    refine T_iaload dX10_mirrorAt_9 h (fun i18 h => ?_)
    refine T_icmp_ge 41 dX10_mirrorAt_10 (by decide) h (fun _ h => ?_) (fun _ h => ?_)
    · refine T_lv (lv' := []) [] rfl ?_
      exact hk41 s15 h
    · refine T_aload_n dX10_mirrorAt_13 rfl 0 rfl ?_
      refine T_iload_n dX10_mirrorAt_14 rfl 3 rfl ?_
      refine T_iconst (0 : Int32) dX10_mirrorAt_15 (by decide) ?_
      refine T_callVI (As := [.int i14, .int (0 : Int32)]) (rest := []) (b := a11) (ci := 9) dX10_mirrorAt_16 mc_X10_its mi_X10_its ml_RX10_57 rfl (fun _ hr => chk_of hr) rfl rfl (Nat.le_of_ble_eq_true rfl) ⟨⟨Nat.le_of_ble_eq_true rfl, Nat.le_of_ble_eq_true rfl⟩, ⟨Nat.le_of_ble_eq_true rfl, Nat.le_of_ble_eq_true rfl⟩⟩ K_X10_its h (fun i19 s20 h => ?_)
      refine T_iload_n dX10_mirrorAt_19 rfl 1 rfl ?_
      refine T_icmp_ne 35 dX10_mirrorAt_20 (by decide) h (fun _ h => ?_) (fun _ h => ?_)
      · refine T_iinc (i14 + 1) (lv' := [(3, .int (i14 + 1)), (0, .ref a11), (1, .int i12), (2, .int i13)]) dX10_mirrorAt_35 (j := 3) rfl rfl (by decide) rfl ?_
        refine T_goto 2 dX10_mirrorAt_38 (by decide) ?_
        refine T_lv (lv' := [(0, .ref a11), (1, .int i12), (2, .int i13), (3, .int (i14 + 1))]) [1, 2, 3, 0] rfl ?_
        exact ih (i14 + 1) s20 h
      · refine T_aload_n dX10_mirrorAt_23 rfl 0 rfl ?_
        refine T_iload_n dX10_mirrorAt_24 rfl 3 rfl ?_
        refine T_iconst (1 : Int32) dX10_mirrorAt_25 (by decide) ?_
        refine T_callVI (As := [.int i14, .int (1 : Int32)]) (rest := []) (b := a11) (ci := 9) dX10_mirrorAt_26 mc_X10_its mi_X10_its ml_RX10_57 rfl (fun _ hr => chk_of hr) rfl rfl (Nat.le_of_ble_eq_true rfl) ⟨⟨Nat.le_of_ble_eq_true rfl, Nat.le_of_ble_eq_true rfl⟩, ⟨Nat.le_of_ble_eq_true rfl, Nat.le_of_ble_eq_true rfl⟩⟩ K_X10_its h (fun i21 s22 h => ?_)
        refine T_iload_n dX10_mirrorAt_29 rfl 2 rfl ?_
        refine T_icmp_ne 35 dX10_mirrorAt_30 (by decide) h (fun _ h => ?_) (fun _ h => ?_)
        · refine T_iinc (i14 + 1) (lv' := [(3, .int (i14 + 1)), (0, .ref a11), (1, .int i12), (2, .int i13)]) dX10_mirrorAt_35 (j := 3) rfl rfl (by decide) rfl ?_
          refine T_goto 2 dX10_mirrorAt_38 (by decide) ?_
          refine T_lv (lv' := [(0, .ref a11), (1, .int i12), (2, .int i13), (3, .int (i14 + 1))]) [1, 2, 3, 0] rfl ?_
          exact ih (i14 + 1) s22 h
        · refine T_iload_n dX10_mirrorAt_33 rfl 3 rfl ?_
          exact T_ireturn dX10_mirrorAt_34 (Nat.le_of_ble_eq_true rfl) (Nat.le_of_ble_eq_true rfl) h
set_option maxRecDepth 100000 in
set_option maxHeartbeats 4000000 in
theorem K_X10_mirrorAt {l : Launch} {a0 : Nat} {i1 : Int32} {i2 : Int32} {s0 : Hp} : ∀ P, OK jI (D_X10_mirrorAt a0 i1 i2 s0) P → sm_Ct l yX10_mirrorAt cX10_mirrorAt 4 (some .int) 1 0 0 [.ref a0, .int i1, .int i2] s0 P := by
  intro P h
  unfold D_X10_mirrorAt at h
  obtain ⟨_, hb0, h⟩ := h.bind
  refine sm_enter (own := RX10) (lv := [(0, .ref a0), (1, .int i1), (2, .int i2)]) (by decide) rfl (Nat.le_of_ble_eq_true rfl) rfl (fun G => ?_)
  refine T_iconst (0 : Int32) dX10_mirrorAt_0 (by decide) ?_
  refine T_istore_n (lv' := [(3, .int (0 : Int32)), (0, .ref a0), (1, .int i1), (2, .int i2)]) dX10_mirrorAt_1 rfl (by decide) rfl ?_
  refine T_lv (lv' := [(0, .ref a0), (1, .int i1), (2, .int i2), (3, .int (0 : Int32))]) [1, 2, 3, 0] rfl ?_
  refine K_X10_mirrorAt_w2 ?_ FU (0 : Int32) s0 h
  intro s24 h
  refine T_bipush (-6 : Int32) dX10_mirrorAt_41 (by decide) ?_
  exact T_ireturn dX10_mirrorAt_43 (Nat.le_of_ble_eq_true rfl) (Nat.le_of_ble_eq_true rfl) h

def D_X10_mirrorsOf_b52 (k5 : Int32 → Int32 → Hp → Option (Int32 × Hp)) (a28 : Nat) (i29 : Int32) (i30 : Int32) (i31 : Int32) (i33 : Int32) (i34 : Int32) (s32 : Hp) : Option (Int32 × Hp) :=
  nm (i34 ||| i33) fun i35 =>
  k5 i35 (i31 + 1) s32
def D_X10_mirrorsOf_b51 (k5 : Int32 → Int32 → Hp → Option (Int32 × Hp)) (a22 : Nat) (i23 : Int32) (i24 : Int32) (i25 : Int32) (i27 : Int32) (s26 : Hp) : Option (Int32 × Hp) :=
  D_X10_mirrorsOf_b52 k5 a22 i23 i24 i25 (0 : Int32) i27 s26
def D_X10_mirrorsOf_b44 (k5 : Int32 → Int32 → Hp → Option (Int32 × Hp)) (a42 : Nat) (i43 : Int32) (i44 : Int32) (i45 : Int32) (i47 : Int32) (s46 : Hp) : Option (Int32 × Hp) :=
  D_X10_mirrorsOf_b52 k5 a42 i43 i44 i45 ((1 : Int32) <<< (i45 &&& 31)) i47 s46
def D_X10_mirrorsOf_w5 (a11 : Nat) (i12 : Int32) (i13 : Int32) (k60 : Int32 → Hp → Option (Int32 × Hp)) : Nat → Int32 → Int32 → Hp → Option (Int32 × Hp)
  | 0, _, _, _ => none
  | n17 + 1, i14, i15, s16 =>
  (getR s16 a11 9 0).bind fun a18 =>
  (ldI s16 a18 (6 : Int32)).bind fun i19 =>
  if i19 ≤ i15 then
  k60 i14 s16
  else
  bd (D_X10_its a11 i15 (2 : Int32) s16) fun i20 s21 =>
  if i20 = i12 then
  if i13 = 0 then
  D_X10_mirrorsOf_b44 (D_X10_mirrorsOf_w5 a11 i12 i13 k60 n17) a11 i12 i13 i15 i14 s21
  else
  (getR s21 a11 9 8).bind fun a51 =>
  (ldI s21 a51 i15).bind fun i52 =>
  if i52 = (1 : Int32) then
  D_X10_mirrorsOf_b44 (D_X10_mirrorsOf_w5 a11 i12 i13 k60 n17) a11 i12 i13 i15 i14 s21
  else
  D_X10_mirrorsOf_b51 (D_X10_mirrorsOf_w5 a11 i12 i13 k60 n17) a11 i12 i13 i15 i14 s21
  else
  D_X10_mirrorsOf_b51 (D_X10_mirrorsOf_w5 a11 i12 i13 k60 n17) a11 i12 i13 i15 i14 s21
def D_X10_mirrorsOf (a0 : Nat) (i1 : Int32) (i2 : Int32) (s0 : Hp) : Option (Int32 × Hp) :=
  (isO s0 a0 9).bind fun _ =>
  D_X10_mirrorsOf_w5 a0 i1 i2 (fun i56 s55 =>
  some (i56, s55)
  ) FU (0 : Int32) (0 : Int32) s0
set_option maxRecDepth 100000 in
set_option maxHeartbeats 4000000 in
theorem K_X10_mirrorsOf_b52 {l : Launch} {G : smG} {P : Option Value → Hp → Prop} {k5 : Int32 → Int32 → Hp → Option (Int32 × Hp)} {a28 : Nat} {i29 : Int32} {i30 : Int32} {i31 : Int32} {i33 : Int32} {i34 : Int32} {s32 : Hp} (hk5 : ∀ (i36 : Int32) (i37 : Int32) (s38 : Hp), OK jI (k5 i36 i37 s38) P → T l G RX10 cX10_mirrorsOf 5 (sm_rm 1 0 0) (sm_E (some .int) yX10_mirrorsOf.name) (sm_Qs G P 0 0) 0 0 5 [(0, .ref a28), (1, .int i29), (2, .int i30), (3, .int i36), (4, .int i37)] [] s38) (h : OK jI (D_X10_mirrorsOf_b52 k5 a28 i29 i30 i31 i33 i34 s32) P) : T l G RX10 cX10_mirrorsOf 5 (sm_rm 1 0 0) (sm_E (some .int) yX10_mirrorsOf.name) (sm_Qs G P 0 0) 0 0 52 [(0, .ref a28), (1, .int i29), (2, .int i30), (4, .int i31)] [.int i33, .int i34] s32 := by
  unfold D_X10_mirrorsOf_b52 at h
  refine T_ior dX10_mirrorsOf_52 ?_
  refine T_nm h (fun i35 h => ?_)
  refine T_istore_n (lv' := [(3, .int i35), (0, .ref a28), (1, .int i29), (2, .int i30), (4, .int i31)]) dX10_mirrorsOf_53 rfl (by decide) rfl ?_
  refine T_iinc (i31 + 1) (lv' := [(4, .int (i31 + 1)), (3, .int i35), (0, .ref a28), (1, .int i29), (2, .int i30)]) dX10_mirrorsOf_54 (j := 4) rfl rfl (by decide) rfl ?_
  refine T_goto 5 dX10_mirrorsOf_57 (by decide) ?_
  refine T_lv (lv' := [(0, .ref a28), (1, .int i29), (2, .int i30), (3, .int i35), (4, .int (i31 + 1))]) [2, 3, 4, 1, 0] rfl ?_
  exact hk5 i35 (i31 + 1) s32 h
set_option maxRecDepth 100000 in
set_option maxHeartbeats 4000000 in
theorem K_X10_mirrorsOf_b51 {l : Launch} {G : smG} {P : Option Value → Hp → Prop} {k5 : Int32 → Int32 → Hp → Option (Int32 × Hp)} {a22 : Nat} {i23 : Int32} {i24 : Int32} {i25 : Int32} {i27 : Int32} {s26 : Hp} (hk5 : ∀ (i39 : Int32) (i40 : Int32) (s41 : Hp), OK jI (k5 i39 i40 s41) P → T l G RX10 cX10_mirrorsOf 5 (sm_rm 1 0 0) (sm_E (some .int) yX10_mirrorsOf.name) (sm_Qs G P 0 0) 0 0 5 [(0, .ref a22), (1, .int i23), (2, .int i24), (3, .int i39), (4, .int i40)] [] s41) (h : OK jI (D_X10_mirrorsOf_b51 k5 a22 i23 i24 i25 i27 s26) P) : T l G RX10 cX10_mirrorsOf 5 (sm_rm 1 0 0) (sm_E (some .int) yX10_mirrorsOf.name) (sm_Qs G P 0 0) 0 0 51 [(0, .ref a22), (1, .int i23), (2, .int i24), (4, .int i25)] [.int i27] s26 := by
  unfold D_X10_mirrorsOf_b51 at h
  refine T_iconst (0 : Int32) dX10_mirrorsOf_51 (by decide) ?_
  exact K_X10_mirrorsOf_b52 hk5 h
set_option maxRecDepth 100000 in
set_option maxHeartbeats 4000000 in
theorem K_X10_mirrorsOf_b44 {l : Launch} {G : smG} {P : Option Value → Hp → Prop} {k5 : Int32 → Int32 → Hp → Option (Int32 × Hp)} {a42 : Nat} {i43 : Int32} {i44 : Int32} {i45 : Int32} {i47 : Int32} {s46 : Hp} (hk5 : ∀ (i48 : Int32) (i49 : Int32) (s50 : Hp), OK jI (k5 i48 i49 s50) P → T l G RX10 cX10_mirrorsOf 5 (sm_rm 1 0 0) (sm_E (some .int) yX10_mirrorsOf.name) (sm_Qs G P 0 0) 0 0 5 [(0, .ref a42), (1, .int i43), (2, .int i44), (3, .int i48), (4, .int i49)] [] s50) (h : OK jI (D_X10_mirrorsOf_b44 k5 a42 i43 i44 i45 i47 s46) P) : T l G RX10 cX10_mirrorsOf 5 (sm_rm 1 0 0) (sm_E (some .int) yX10_mirrorsOf.name) (sm_Qs G P 0 0) 0 0 44 [(0, .ref a42), (1, .int i43), (2, .int i44), (4, .int i45)] [.int i47] s46 := by
  unfold D_X10_mirrorsOf_b44 at h
  refine T_iconst (1 : Int32) dX10_mirrorsOf_44 (by decide) ?_
  refine T_iload dX10_mirrorsOf_45 3 rfl ?_
  refine T_ishl dX10_mirrorsOf_47 ?_
  refine T_goto 52 dX10_mirrorsOf_48 (by decide) ?_
  exact K_X10_mirrorsOf_b52 hk5 h
set_option maxRecDepth 100000 in
set_option maxHeartbeats 4000000 in
theorem K_X10_mirrorsOf_w5 {l : Launch} {G : smG} {P : Option Value → Hp → Prop} {a11 : Nat} {i12 : Int32} {i13 : Int32} {k60 : Int32 → Hp → Option (Int32 × Hp)} (hk60 : ∀ (i53 : Int32) (s54 : Hp), OK jI (k60 i53 s54) P → T l G RX10 cX10_mirrorsOf 5 (sm_rm 1 0 0) (sm_E (some .int) yX10_mirrorsOf.name) (sm_Qs G P 0 0) 0 0 60 [(3, .int i53)] [] s54) : ∀ (n : Nat) (i14 : Int32) (i15 : Int32) (s16 : Hp), OK jI (D_X10_mirrorsOf_w5 a11 i12 i13 k60 n i14 i15 s16) P → T l G RX10 cX10_mirrorsOf 5 (sm_rm 1 0 0) (sm_E (some .int) yX10_mirrorsOf.name) (sm_Qs G P 0 0) 0 0 5 [(0, .ref a11), (1, .int i12), (2, .int i13), (3, .int i14), (4, .int i15)] [] s16 := by
  intro n
  induction n with
  | zero => intro i14 i15 s16 h; obtain ⟨_, h0, _⟩ := h; exact absurd h0 (by simp [D_X10_mirrorsOf_w5])
  | succ n17 ih =>
    intro i14 i15 s16 h
    unfold D_X10_mirrorsOf_w5 at h
    refine T_iload dX10_mirrorsOf_5 4 rfl ?_
    refine T_aload_n dX10_mirrorsOf_7 rfl 0 rfl ?_
    refine T_getR dX10_mirrorsOf_8 fl_RX10_7 h (fun a18 h => ?_)
    refine T_bipush (6 : Int32) dX10_mirrorsOf_11 (by decide) ?_
    refine T_iaload dX10_mirrorsOf_13 h (fun i19 h => ?_)
    refine T_icmp_ge 60 dX10_mirrorsOf_14 (by decide) h (fun _ h => ?_) (fun _ h => ?_)
    · refine T_lv (lv' := [(3, .int i14)]) [3] rfl ?_
      exact hk60 i14 s16 h
    · refine T_iload_n dX10_mirrorsOf_17 rfl 3 rfl ?_
      refine T_aload_n dX10_mirrorsOf_18 rfl 0 rfl ?_
      refine T_iload dX10_mirrorsOf_19 4 rfl ?_
      refine T_iconst (2 : Int32) dX10_mirrorsOf_21 (by decide) ?_
      refine T_callVI (As := [.int i15, .int (2 : Int32)]) (rest := [.int i14]) (b := a11) (ci := 9) dX10_mirrorsOf_22 mc_X10_its mi_X10_its ml_RX10_57 rfl (fun _ hr => chk_of hr) rfl rfl (Nat.le_of_ble_eq_true rfl) ⟨⟨Nat.le_of_ble_eq_true rfl, Nat.le_of_ble_eq_true rfl⟩, ⟨Nat.le_of_ble_eq_true rfl, Nat.le_of_ble_eq_true rfl⟩⟩ K_X10_its h (fun i20 s21 h => ?_)
      refine T_iload_n dX10_mirrorsOf_25 rfl 1 rfl ?_
      refine T_icmp_ne 51 dX10_mirrorsOf_26 (by decide) h (fun _ h => ?_) (fun _ h => ?_)
      · refine T_lv (lv' := [(0, .ref a11), (1, .int i12), (2, .int i13), (4, .int i15)]) [0, 1, 2, 4] rfl ?_
        exact K_X10_mirrorsOf_b51 ih h
      · refine T_iload_n dX10_mirrorsOf_29 rfl 2 rfl ?_
        refine T_if_eq 44 dX10_mirrorsOf_30 (by decide) h (fun _ h => ?_) (fun _ h => ?_)
        · refine T_lv (lv' := [(0, .ref a11), (1, .int i12), (2, .int i13), (4, .int i15)]) [0, 1, 2, 4] rfl ?_
          exact K_X10_mirrorsOf_b44 ih h
        · refine T_aload_n dX10_mirrorsOf_33 rfl 0 rfl ?_
          refine T_getR dX10_mirrorsOf_34 fl_RX10_31 h (fun a51 h => ?_)
          refine T_iload dX10_mirrorsOf_37 4 rfl ?_
          refine T_iaload dX10_mirrorsOf_39 h (fun i52 h => ?_)
          refine T_iconst (1 : Int32) dX10_mirrorsOf_40 (by decide) ?_
          refine T_icmp_ne 51 dX10_mirrorsOf_41 (by decide) h (fun _ h => ?_) (fun _ h => ?_)
          · refine T_lv (lv' := [(0, .ref a11), (1, .int i12), (2, .int i13), (4, .int i15)]) [0, 1, 2, 4] rfl ?_
            exact K_X10_mirrorsOf_b51 ih h
          · refine T_lv (lv' := [(0, .ref a11), (1, .int i12), (2, .int i13), (4, .int i15)]) [0, 1, 2, 4] rfl ?_
            exact K_X10_mirrorsOf_b44 ih h
set_option maxRecDepth 100000 in
set_option maxHeartbeats 4000000 in
theorem K_X10_mirrorsOf {l : Launch} {a0 : Nat} {i1 : Int32} {i2 : Int32} {s0 : Hp} : ∀ P, OK jI (D_X10_mirrorsOf a0 i1 i2 s0) P → sm_Ct l yX10_mirrorsOf cX10_mirrorsOf 5 (some .int) 1 0 0 [.ref a0, .int i1, .int i2] s0 P := by
  intro P h
  unfold D_X10_mirrorsOf at h
  obtain ⟨_, hb0, h⟩ := h.bind
  refine sm_enter (own := RX10) (lv := [(0, .ref a0), (1, .int i1), (2, .int i2)]) (by decide) rfl (Nat.le_of_ble_eq_true rfl) rfl (fun G => ?_)
  refine T_iconst (0 : Int32) dX10_mirrorsOf_0 (by decide) ?_
  refine T_istore_n (lv' := [(3, .int (0 : Int32)), (0, .ref a0), (1, .int i1), (2, .int i2)]) dX10_mirrorsOf_1 rfl (by decide) rfl ?_
  refine T_iconst (0 : Int32) dX10_mirrorsOf_2 (by decide) ?_
  refine T_istore (lv' := [(4, .int (0 : Int32)), (3, .int (0 : Int32)), (0, .ref a0), (1, .int i1), (2, .int i2)]) dX10_mirrorsOf_3 (by decide) rfl ?_
  refine T_lv (lv' := [(0, .ref a0), (1, .int i1), (2, .int i2), (3, .int (0 : Int32)), (4, .int (0 : Int32))]) [2, 3, 4, 1, 0] rfl ?_
  refine K_X10_mirrorsOf_w5 ?_ FU (0 : Int32) (0 : Int32) s0 h
  intro i56 s55 h
  refine T_iload_n dX10_mirrorsOf_60 rfl 0 rfl ?_
  exact T_ireturn dX10_mirrorsOf_61 (Nat.le_of_ble_eq_true rfl) (Nat.le_of_ble_eq_true rfl) h

def D_X10_put_b53 (k8 : Int32 → Int32 → Int64 → Hp → Option (Int32 × Hp)) (a23 : Nat) (l24 : Int64) (i25 : Int32) (l26 : Int64) (i28 : Int32) (s27 : Hp) : Option (Int32 × Hp) :=
  nm ((l26).toUInt64 >>> (((8 : Int32)).toInt64.toUInt64 &&& Int64.toUInt64 63)).toInt64 fun l29 =>
  k8 (i25 + 1) i28 l29 s27
def D_X10_put_b52 (k8 : Int32 → Int32 → Int64 → Hp → Option (Int32 × Hp)) (a18 : Nat) (l19 : Int64) (i20 : Int32) (l21 : Int64) (s22 : Hp) : Option (Int32 × Hp) :=
  D_X10_put_b53 k8 a18 l19 i20 l21 (0 : Int32) s22
def D_X10_put_w8 (a11 : Nat) (l12 : Int64) (k68 : Int32 → Int32 → Int64 → Hp → Option (Int32 × Hp)) : Nat → Int32 → Int32 → Int64 → Hp → Option (Int32 × Hp)
  | 0, _, _, _, _ => none
  | n17 + 1, i13, i14, l15, s16 =>
  if (8 : Int32) ≤ i13 then
  k68 i13 i14 l15 s16
  else
  if (lg_cmp (l15 &&& (255 : Int64)) (0 : Int64)) = 0 then
  k68 i13 i14 l15 s16
  else
  if i14 = 0 then
  D_X10_put_b52 (D_X10_put_w8 a11 l12 k68 n17) a11 l12 i13 l15 s16
  else
  bd (D_X10_isIn (l15 &&& (255 : Int64)) (33 : Int64) (126 : Int64) s16) fun i38 s39 =>
  if i38 = 0 then
  D_X10_put_b52 (D_X10_put_w8 a11 l12 k68 n17) a11 l12 i13 l15 s39
  else
  D_X10_put_b53 (D_X10_put_w8 a11 l12 k68 n17) a11 l12 i13 l15 (1 : Int32) s39
def D_X10_put_w106 (a56 : Nat) (l57 : Int64) (k148 : Hp → Option (Int32 × Hp)) : Nat → Int32 → Hp → Option (Int32 × Hp)
  | 0, _, _ => none
  | n60 + 1, i58, s59 =>
  if i58 < 0 then
  k148 s59
  else
  (getR s59 a56 9 11).bind fun a61 =>
  (getI s59 a56 9 12).bind fun i62 =>
  (stI s59 a61 i62 ((((l57).toUInt64 >>> ((((8 : Int32) * i58)).toInt64.toUInt64 &&& Int64.toUInt64 63)).toInt64 &&& (255 : Int64))).toInt32).bind fun s63 =>
  (getI s63 a56 9 12).bind fun i64 =>
  (putI s63 a56 9 12 (i64 + (1 : Int32))).bind fun s65 =>
  D_X10_put_w106 a56 l57 k148 n60 (i58 + (-1)) s65
def D_X10_put_b68  (a48 : Nat) (l49 : Int64) (i50 : Int32) (i51 : Int32) (l52 : Int64) (s53 : Hp) : Option (Int32 × Hp) :=
  if i50 = 0 then
  some ((-2 : Int32), s53)
  else
  if (lg_cmp l52 (0 : Int64)) = 0 then
  if i51 = 0 then
  some ((-2 : Int32), s53)
  else
  (getI s53 a48 9 12).bind fun i54 =>
  if (i54 + i50) ≤ (80 : Int32) then
  nm (i50 - (1 : Int32)) fun i55 =>
  D_X10_put_w106 a48 l49 (fun s67 =>
  (getI s67 a48 9 12).bind fun i68 =>
  some (i68, s67)
  ) FU i55 s53
  else
  some ((-4 : Int32), s53)
  else
  some ((-2 : Int32), s53)
def D_X10_put (a0 : Nat) (l1 : Int64) (s0 : Hp) : Option (Int32 × Hp) :=
  (isO s0 a0 9).bind fun _ =>
  D_X10_put_w8 a0 l1 (fun i45 i46 l47 s44 =>
  D_X10_put_b68 a0 l1 i45 i46 l47 s44
  ) FU (0 : Int32) (1 : Int32) l1 s0
set_option maxRecDepth 100000 in
set_option maxHeartbeats 4000000 in
theorem K_X10_put_b53 {l : Launch} {G : smG} {P : Option Value → Hp → Prop} {k8 : Int32 → Int32 → Int64 → Hp → Option (Int32 × Hp)} {a23 : Nat} {l24 : Int64} {i25 : Int32} {l26 : Int64} {i28 : Int32} {s27 : Hp} (hk8 : ∀ (i30 : Int32) (i31 : Int32) (l32 : Int64) (s33 : Hp), OK jI (k8 i30 i31 l32 s33) P → T l G RX10 cX10_put 8 (sm_rm 1 0 0) (sm_E (some .int) yX10_put.name) (sm_Qs G P 0 0) 0 0 8 [(0, .ref a23), (1, .long l24), (3, .int i30), (4, .int i31), (5, .long l32)] [] s33) (h : OK jI (D_X10_put_b53 k8 a23 l24 i25 l26 i28 s27) P) : T l G RX10 cX10_put 8 (sm_rm 1 0 0) (sm_E (some .int) yX10_put.name) (sm_Qs G P 0 0) 0 0 53 [(0, .ref a23), (1, .long l24), (3, .int i25), (5, .long l26)] [.int i28] s27 := by
  unfold D_X10_put_b53 at h
  refine T_istore (lv' := [(4, .int i28), (0, .ref a23), (1, .long l24), (3, .int i25), (5, .long l26)]) dX10_put_53 (by decide) rfl ?_
  refine T_lload dX10_put_55 4 rfl ?_
  refine T_bipush (8 : Int32) dX10_put_57 (by decide) ?_
  refine T_lushr dX10_put_59 ?_
  refine T_nmL h (fun l29 h => ?_)
  refine T_lstore (lv' := [(5, .long l29), (4, .int i28), (0, .ref a23), (1, .long l24), (3, .int i25)]) dX10_put_60 (by decide) rfl ?_
  refine T_iinc (i25 + 1) (lv' := [(3, .int (i25 + 1)), (5, .long l29), (4, .int i28), (0, .ref a23), (1, .long l24)]) dX10_put_62 (j := 4) rfl rfl (by decide) rfl ?_
  refine T_goto 8 dX10_put_65 (by decide) ?_
  refine T_lv (lv' := [(0, .ref a23), (1, .long l24), (3, .int (i25 + 1)), (4, .int i28), (5, .long l29)]) [3, 4, 0, 2, 1] rfl ?_
  exact hk8 (i25 + 1) i28 l29 s27 h
set_option maxRecDepth 100000 in
set_option maxHeartbeats 4000000 in
theorem K_X10_put_b52 {l : Launch} {G : smG} {P : Option Value → Hp → Prop} {k8 : Int32 → Int32 → Int64 → Hp → Option (Int32 × Hp)} {a18 : Nat} {l19 : Int64} {i20 : Int32} {l21 : Int64} {s22 : Hp} (hk8 : ∀ (i34 : Int32) (i35 : Int32) (l36 : Int64) (s37 : Hp), OK jI (k8 i34 i35 l36 s37) P → T l G RX10 cX10_put 8 (sm_rm 1 0 0) (sm_E (some .int) yX10_put.name) (sm_Qs G P 0 0) 0 0 8 [(0, .ref a18), (1, .long l19), (3, .int i34), (4, .int i35), (5, .long l36)] [] s37) (h : OK jI (D_X10_put_b52 k8 a18 l19 i20 l21 s22) P) : T l G RX10 cX10_put 8 (sm_rm 1 0 0) (sm_E (some .int) yX10_put.name) (sm_Qs G P 0 0) 0 0 52 [(0, .ref a18), (1, .long l19), (3, .int i20), (5, .long l21)] [] s22 := by
  unfold D_X10_put_b52 at h
  refine T_iconst (0 : Int32) dX10_put_52 (by decide) ?_
  exact K_X10_put_b53 hk8 h
set_option maxRecDepth 100000 in
set_option maxHeartbeats 4000000 in
theorem K_X10_put_w8 {l : Launch} {G : smG} {P : Option Value → Hp → Prop} {a11 : Nat} {l12 : Int64} {k68 : Int32 → Int32 → Int64 → Hp → Option (Int32 × Hp)} (hk68 : ∀ (i40 : Int32) (i41 : Int32) (l42 : Int64) (s43 : Hp), OK jI (k68 i40 i41 l42 s43) P → T l G RX10 cX10_put 8 (sm_rm 1 0 0) (sm_E (some .int) yX10_put.name) (sm_Qs G P 0 0) 0 0 68 [(0, .ref a11), (1, .long l12), (3, .int i40), (4, .int i41), (5, .long l42)] [] s43) : ∀ (n : Nat) (i13 : Int32) (i14 : Int32) (l15 : Int64) (s16 : Hp), OK jI (D_X10_put_w8 a11 l12 k68 n i13 i14 l15 s16) P → T l G RX10 cX10_put 8 (sm_rm 1 0 0) (sm_E (some .int) yX10_put.name) (sm_Qs G P 0 0) 0 0 8 [(0, .ref a11), (1, .long l12), (3, .int i13), (4, .int i14), (5, .long l15)] [] s16 := by
  intro n
  induction n with
  | zero => intro i13 i14 l15 s16 h; obtain ⟨_, h0, _⟩ := h; exact absurd h0 (by simp [D_X10_put_w8])
  | succ n17 ih =>
    intro i13 i14 l15 s16 h
    unfold D_X10_put_w8 at h
    refine T_iload_n dX10_put_8 rfl 2 rfl ?_
    refine T_bipush (8 : Int32) dX10_put_9 (by decide) ?_
    refine T_icmp_ge 68 dX10_put_11 (by decide) h (fun _ h => ?_) (fun _ h => ?_)
    · exact hk68 i13 i14 l15 s16 h
    · refine T_lload dX10_put_14 4 rfl ?_
      refine T_ldc2 (255 : Int64) dX10_put_16 wd_30_17 ?_
      refine T_land dX10_put_19 ?_
      refine T_lconst (0 : Int64) dX10_put_20 (by decide) ?_
      refine T_lcmp dX10_put_21 ?_
      refine T_if_eq 68 dX10_put_22 (by decide) h (fun _ h => ?_) (fun _ h => ?_)
      · exact hk68 i13 i14 l15 s16 h
      · refine T_iload dX10_put_25 3 rfl ?_
        refine T_if_eq 52 dX10_put_27 (by decide) h (fun _ h => ?_) (fun _ h => ?_)
        · refine T_lv (lv' := [(0, .ref a11), (1, .long l12), (3, .int i13), (5, .long l15)]) [0, 1, 2, 4] rfl ?_
          exact K_X10_put_b52 ih h
        · refine T_lload dX10_put_30 4 rfl ?_
          refine T_ldc2 (255 : Int64) dX10_put_32 wd_30_17 ?_
          refine T_land dX10_put_35 ?_
          refine T_ldc2 (33 : Int64) dX10_put_36 wd_30_18 ?_
          refine T_ldc2 (126 : Int64) dX10_put_39 wd_30_19 ?_
          refine T_callSI (As := [.long (l15 &&& (255 : Int64)), .long (33 : Int64), .long (126 : Int64)]) (rest := []) dX10_put_42 mc_X10_isIn mi_X10_isIn ml_RX10_51 rfl rfl (Nat.le_of_ble_eq_true rfl) ⟨⟨Nat.le_of_ble_eq_true rfl, Nat.le_of_ble_eq_true rfl⟩, ⟨Nat.le_of_ble_eq_true rfl, Nat.le_of_ble_eq_true rfl⟩⟩ K_X10_isIn h (fun i38 s39 h => ?_)
          refine T_if_eq 52 dX10_put_45 (by decide) h (fun _ h => ?_) (fun _ h => ?_)
          · refine T_lv (lv' := [(0, .ref a11), (1, .long l12), (3, .int i13), (5, .long l15)]) [0, 1, 2, 4] rfl ?_
            exact K_X10_put_b52 ih h
          · refine T_iconst (1 : Int32) dX10_put_48 (by decide) ?_
            refine T_goto 53 dX10_put_49 (by decide) ?_
            refine T_lv (lv' := [(0, .ref a11), (1, .long l12), (3, .int i13), (5, .long l15)]) [0, 1, 2, 4] rfl ?_
            exact K_X10_put_b53 ih h
set_option maxRecDepth 100000 in
set_option maxHeartbeats 4000000 in
theorem K_X10_put_w106 {l : Launch} {G : smG} {P : Option Value → Hp → Prop} {a56 : Nat} {l57 : Int64} {k148 : Hp → Option (Int32 × Hp)} (hk148 : ∀  (s66 : Hp), OK jI (k148 s66) P → T l G RX10 cX10_put 8 (sm_rm 1 0 0) (sm_E (some .int) yX10_put.name) (sm_Qs G P 0 0) 0 0 148 [(0, .ref a56)] [] s66) : ∀ (n : Nat) (i58 : Int32) (s59 : Hp), OK jI (D_X10_put_w106 a56 l57 k148 n i58 s59) P → T l G RX10 cX10_put 8 (sm_rm 1 0 0) (sm_E (some .int) yX10_put.name) (sm_Qs G P 0 0) 0 0 106 [(0, .ref a56), (1, .long l57), (7, .int i58)] [] s59 := by
  intro n
  induction n with
  | zero => intro i58 s59 h; obtain ⟨_, h0, _⟩ := h; exact absurd h0 (by simp [D_X10_put_w106])
  | succ n60 ih =>
    intro i58 s59 h
    unfold D_X10_put_w106 at h
    refine T_iload dX10_put_106 2 rfl ?_
    refine T_if_lt 148 dX10_put_108 (by decide) h (fun _ h => ?_) (fun _ h => ?_)
    · refine T_lv (lv' := [(0, .ref a56)]) [0] rfl ?_
      exact hk148 s59 h
    · refine T_aload_n dX10_put_111 rfl 0 rfl ?_
      refine T_getR dX10_put_112 fl_RX10_40 h (fun a61 h => ?_)
      refine T_aload_n dX10_put_115 rfl 0 rfl ?_
      refine T_getI dX10_put_116 fl_RX10_169 h (fun i62 h => ?_)
      refine T_lload_n dX10_put_119 rfl 1 rfl ?_
      refine T_bipush (8 : Int32) dX10_put_120 (by decide) ?_
      refine T_iload dX10_put_122 2 rfl ?_
      refine T_imul dX10_put_124 ?_
      refine T_lushr dX10_put_125 ?_
      refine T_ldc2 (255 : Int64) dX10_put_126 wd_30_17 ?_
      refine T_land dX10_put_129 ?_
      refine T_l2i dX10_put_130 ?_
      refine T_iastore dX10_put_131 h (fun s63 h => ?_)
      refine T_aload_n dX10_put_132 rfl 0 rfl ?_
      refine T_dup dX10_put_133 rfl ?_
      refine T_getI dX10_put_134 fl_RX10_169 h (fun i64 h => ?_)
      refine T_iconst (1 : Int32) dX10_put_137 (by decide) ?_
      refine T_iadd dX10_put_138 ?_
      refine T_putI dX10_put_139 fl_RX10_169 ft_9_12 h (fun s65 h => ?_)
      refine T_iinc (i58 + (-1)) (lv' := [(7, .int (i58 + (-1))), (0, .ref a56), (1, .long l57)]) dX10_put_142 (j := 2) rfl rfl (by decide) rfl ?_
      refine T_goto 106 dX10_put_145 (by decide) ?_
      refine T_lv (lv' := [(0, .ref a56), (1, .long l57), (7, .int (i58 + (-1)))]) [1, 2, 0] rfl ?_
      exact ih (i58 + (-1)) s65 h
set_option maxRecDepth 100000 in
set_option maxHeartbeats 4000000 in
theorem K_X10_put_b68 {l : Launch} {G : smG} {P : Option Value → Hp → Prop}  {a48 : Nat} {l49 : Int64} {i50 : Int32} {i51 : Int32} {l52 : Int64} {s53 : Hp}  (h : OK jI (D_X10_put_b68 a48 l49 i50 i51 l52 s53) P) : T l G RX10 cX10_put 8 (sm_rm 1 0 0) (sm_E (some .int) yX10_put.name) (sm_Qs G P 0 0) 0 0 68 [(0, .ref a48), (1, .long l49), (3, .int i50), (4, .int i51), (5, .long l52)] [] s53 := by
  unfold D_X10_put_b68 at h
  refine T_iload_n dX10_put_68 rfl 2 rfl ?_
  refine T_if_eq 84 dX10_put_69 (by decide) h (fun _ h => ?_) (fun _ h => ?_)
  · refine T_bipush (-2 : Int32) dX10_put_84 (by decide) ?_
    exact T_ireturn dX10_put_86 (Nat.le_of_ble_eq_true rfl) (Nat.le_of_ble_eq_true rfl) h
  · refine T_lload dX10_put_72 4 rfl ?_
    refine T_lconst (0 : Int64) dX10_put_74 (by decide) ?_
    refine T_lcmp dX10_put_75 ?_
    refine T_if_ne 84 dX10_put_76 (by decide) h (fun _ h => ?_) (fun _ h => ?_)
    · refine T_bipush (-2 : Int32) dX10_put_84 (by decide) ?_
      exact T_ireturn dX10_put_86 (Nat.le_of_ble_eq_true rfl) (Nat.le_of_ble_eq_true rfl) h
    · refine T_iload dX10_put_79 3 rfl ?_
      refine T_if_ne 87 dX10_put_81 (by decide) h (fun _ h => ?_) (fun _ h => ?_)
      · refine T_aload_n dX10_put_87 rfl 0 rfl ?_
        refine T_getI dX10_put_88 fl_RX10_169 h (fun i54 h => ?_)
        refine T_iload_n dX10_put_91 rfl 2 rfl ?_
        refine T_iadd dX10_put_92 ?_
        refine T_bipush (80 : Int32) dX10_put_93 (by decide) ?_
        refine T_icmp_le 101 dX10_put_95 (by decide) h (fun _ h => ?_) (fun _ h => ?_)
        · refine T_iload_n dX10_put_101 rfl 2 rfl ?_
          refine T_iconst (1 : Int32) dX10_put_102 (by decide) ?_
          refine T_isub dX10_put_103 ?_
          refine T_nm h (fun i55 h => ?_)
          refine T_istore (lv' := [(7, .int i55), (0, .ref a48), (1, .long l49), (3, .int i50), (4, .int i51), (5, .long l52)]) dX10_put_104 (by decide) rfl ?_
          refine T_lv (lv' := [(0, .ref a48), (1, .long l49), (7, .int i55)]) [1, 2, 0] rfl ?_
          refine K_X10_put_w106 ?_ FU i55 s53 h
          intro s67 h
          refine T_aload_n dX10_put_148 rfl 0 rfl ?_
          refine T_getI dX10_put_149 fl_RX10_169 h (fun i68 h => ?_)
          exact T_ireturn dX10_put_152 (Nat.le_of_ble_eq_true rfl) (Nat.le_of_ble_eq_true rfl) h
        · refine T_bipush (-4 : Int32) dX10_put_98 (by decide) ?_
          exact T_ireturn dX10_put_100 (Nat.le_of_ble_eq_true rfl) (Nat.le_of_ble_eq_true rfl) h
      · refine T_bipush (-2 : Int32) dX10_put_84 (by decide) ?_
        exact T_ireturn dX10_put_86 (Nat.le_of_ble_eq_true rfl) (Nat.le_of_ble_eq_true rfl) h
set_option maxRecDepth 100000 in
set_option maxHeartbeats 4000000 in
theorem K_X10_put {l : Launch} {a0 : Nat} {l1 : Int64} {s0 : Hp} : ∀ P, OK jI (D_X10_put a0 l1 s0) P → sm_Ct l yX10_put cX10_put 8 (some .int) 1 0 0 [.ref a0, .long l1] s0 P := by
  intro P h
  unfold D_X10_put at h
  obtain ⟨_, hb0, h⟩ := h.bind
  refine sm_enter (own := RX10) (lv := [(0, .ref a0), (1, .long l1)]) (by decide) rfl (Nat.le_of_ble_eq_true rfl) rfl (fun G => ?_)
  refine T_iconst (0 : Int32) dX10_put_0 (by decide) ?_
  refine T_istore_n (lv' := [(3, .int (0 : Int32)), (0, .ref a0), (1, .long l1)]) dX10_put_1 rfl (by decide) rfl ?_
  refine T_iconst (1 : Int32) dX10_put_2 (by decide) ?_
  refine T_istore (lv' := [(4, .int (1 : Int32)), (3, .int (0 : Int32)), (0, .ref a0), (1, .long l1)]) dX10_put_3 (by decide) rfl ?_
  refine T_lload_n dX10_put_5 rfl 3 rfl ?_
  refine T_lstore (lv' := [(5, .long l1), (4, .int (1 : Int32)), (3, .int (0 : Int32)), (0, .ref a0), (1, .long l1)]) dX10_put_6 (by decide) rfl ?_
  refine T_lv (lv' := [(0, .ref a0), (1, .long l1), (3, .int (0 : Int32)), (4, .int (1 : Int32)), (5, .long l1)]) [3, 4, 2, 1, 0] rfl ?_
  refine K_X10_put_w8 ?_ FU (0 : Int32) (1 : Int32) l1 s0 h
  intro i45 i46 l47 s44 h
  exact K_X10_put_b68 h

def D_X10_puts (a0 : Nat) (i1 : Int32) (i2 : Int32) (i3 : Int32) (s0 : Hp) : Option Hp :=
  (isO s0 a0 9).bind fun _ =>
  (getR s0 a0 9 0).bind fun a11 =>
  (ldI s0 a11 (6 : Int32)).bind fun i12 =>
  (getR s0 a0 9 0).bind fun a13 =>
  (ldI s0 a13 (6 : Int32)).bind fun i14 =>
  (stI s0 a13 (6 : Int32) (i14 + (1 : Int32))).bind fun s15 =>
  (D_X10_sets a0 i12 (0 : Int32) i1 s15).bind fun s16 =>
  (D_X10_sets a0 i12 (1 : Int32) i2 s16).bind fun s17 =>
  (D_X10_sets a0 i12 (2 : Int32) i3 s17).bind fun s18 =>
  (D_X10_sets a0 i12 (3 : Int32) (0 : Int32) s18).bind fun s19 =>
  (D_X10_sets a0 i12 (4 : Int32) (0 : Int32) s19).bind fun s20 =>
  some s20
set_option maxRecDepth 100000 in
set_option maxHeartbeats 4000000 in
theorem K_X10_puts {l : Launch} {a0 : Nat} {i1 : Int32} {i2 : Int32} {i3 : Int32} {s0 : Hp} : ∀ P, OK jV (D_X10_puts a0 i1 i2 i3 s0) P → sm_Ct l yX10_puts cX10_puts 5 none 1 0 0 [.ref a0, .int i1, .int i2, .int i3] s0 P := by
  intro P h
  unfold D_X10_puts at h
  obtain ⟨_, hb0, h⟩ := h.bind
  refine sm_enter (own := RX10) (lv := [(0, .ref a0), (1, .int i1), (2, .int i2), (3, .int i3)]) (by decide) rfl (Nat.le_of_ble_eq_true rfl) rfl (fun G => ?_)
  refine T_aload_n dX10_puts_0 rfl 0 rfl ?_
  refine T_getR dX10_puts_1 fl_RX10_7 h (fun a11 h => ?_)
  refine T_bipush (6 : Int32) dX10_puts_4 (by decide) ?_
  refine T_iaload dX10_puts_6 h (fun i12 h => ?_)
  refine T_istore (lv' := [(4, .int i12), (0, .ref a0), (1, .int i1), (2, .int i2), (3, .int i3)]) dX10_puts_7 (by decide) rfl ?_
  refine T_aload_n dX10_puts_9 rfl 1 rfl ?_
  refine T_getR dX10_puts_10 fl_RX10_7 h (fun a13 h => ?_)
  refine T_bipush (6 : Int32) dX10_puts_13 (by decide) ?_
  refine T_dup2 dX10_puts_15 rfl rfl ?_
  refine T_iaload dX10_puts_16 h (fun i14 h => ?_)
  refine T_iconst (1 : Int32) dX10_puts_17 (by decide) ?_
  refine T_iadd dX10_puts_18 ?_
  refine T_iastore dX10_puts_19 h (fun s15 h => ?_)
  refine T_aload_n dX10_puts_20 rfl 1 rfl ?_
  refine T_iload dX10_puts_21 0 rfl ?_
  refine T_iconst (0 : Int32) dX10_puts_23 (by decide) ?_
  refine T_iload_n dX10_puts_24 rfl 2 rfl ?_
  refine T_callVV (As := [.int i12, .int (0 : Int32), .int i1]) (rest := []) (b := a0) (ci := 9) dX10_puts_25 mc_X10_sets mi_X10_sets ml_RX10_89 rfl (fun _ hr => chk_of hr) rfl rfl (Nat.le_of_ble_eq_true rfl) ⟨⟨Nat.le_of_ble_eq_true rfl, Nat.le_of_ble_eq_true rfl⟩, ⟨Nat.le_of_ble_eq_true rfl, Nat.le_of_ble_eq_true rfl⟩⟩ K_X10_sets h (fun s16 h => ?_)
  refine T_aload_n dX10_puts_28 rfl 1 rfl ?_
  refine T_iload dX10_puts_29 0 rfl ?_
  refine T_iconst (1 : Int32) dX10_puts_31 (by decide) ?_
  refine T_iload_n dX10_puts_32 rfl 3 rfl ?_
  refine T_callVV (As := [.int i12, .int (1 : Int32), .int i2]) (rest := []) (b := a0) (ci := 9) dX10_puts_33 mc_X10_sets mi_X10_sets ml_RX10_89 rfl (fun _ hr => chk_of hr) rfl rfl (Nat.le_of_ble_eq_true rfl) ⟨⟨Nat.le_of_ble_eq_true rfl, Nat.le_of_ble_eq_true rfl⟩, ⟨Nat.le_of_ble_eq_true rfl, Nat.le_of_ble_eq_true rfl⟩⟩ K_X10_sets h (fun s17 h => ?_)
  refine T_aload_n dX10_puts_36 rfl 1 rfl ?_
  refine T_iload dX10_puts_37 0 rfl ?_
  refine T_iconst (2 : Int32) dX10_puts_39 (by decide) ?_
  refine T_iload_n dX10_puts_40 rfl 4 rfl ?_
  refine T_callVV (As := [.int i12, .int (2 : Int32), .int i3]) (rest := []) (b := a0) (ci := 9) dX10_puts_41 mc_X10_sets mi_X10_sets ml_RX10_89 rfl (fun _ hr => chk_of hr) rfl rfl (Nat.le_of_ble_eq_true rfl) ⟨⟨Nat.le_of_ble_eq_true rfl, Nat.le_of_ble_eq_true rfl⟩, ⟨Nat.le_of_ble_eq_true rfl, Nat.le_of_ble_eq_true rfl⟩⟩ K_X10_sets h (fun s18 h => ?_)
  refine T_aload_n dX10_puts_44 rfl 1 rfl ?_
  refine T_iload dX10_puts_45 0 rfl ?_
  refine T_iconst (3 : Int32) dX10_puts_47 (by decide) ?_
  refine T_iconst (0 : Int32) dX10_puts_48 (by decide) ?_
  refine T_callVV (As := [.int i12, .int (3 : Int32), .int (0 : Int32)]) (rest := []) (b := a0) (ci := 9) dX10_puts_49 mc_X10_sets mi_X10_sets ml_RX10_89 rfl (fun _ hr => chk_of hr) rfl rfl (Nat.le_of_ble_eq_true rfl) ⟨⟨Nat.le_of_ble_eq_true rfl, Nat.le_of_ble_eq_true rfl⟩, ⟨Nat.le_of_ble_eq_true rfl, Nat.le_of_ble_eq_true rfl⟩⟩ K_X10_sets h (fun s19 h => ?_)
  refine T_aload_n dX10_puts_52 rfl 1 rfl ?_
  refine T_iload dX10_puts_53 0 rfl ?_
  refine T_iconst (4 : Int32) dX10_puts_55 (by decide) ?_
  refine T_iconst (0 : Int32) dX10_puts_56 (by decide) ?_
  refine T_callVV (As := [.int i12, .int (4 : Int32), .int (0 : Int32)]) (rest := []) (b := a0) (ci := 9) dX10_puts_57 mc_X10_sets mi_X10_sets ml_RX10_89 rfl (fun _ hr => chk_of hr) rfl rfl (Nat.le_of_ble_eq_true rfl) ⟨⟨Nat.le_of_ble_eq_true rfl, Nat.le_of_ble_eq_true rfl⟩, ⟨Nat.le_of_ble_eq_true rfl, Nat.le_of_ble_eq_true rfl⟩⟩ K_X10_sets h (fun s20 h => ?_)
  exact T_vreturn dX10_puts_60 (Nat.le_of_ble_eq_true rfl) (Nat.le_of_ble_eq_true rfl) h

def D_X10_restore_w38 (a18 : Nat) (i19 : Int32) (k69 : Hp → Option (Int32 × Hp)) : Nat → Int32 → Hp → Option (Int32 × Hp)
  | 0, _, _ => none
  | n22 + 1, i20, s21 =>
  if (132 : Int32) ≤ i20 then
  k69 s21
  else
  (getR s21 a18 9 0).bind fun a23 =>
  (getR s21 a18 9 5).bind fun a24 =>
  (ldI s21 a24 (((132 : Int32) * i19) + i20)).bind fun i25 =>
  (stI s21 a23 i20 i25).bind fun s26 =>
  D_X10_restore_w38 a18 i19 k69 n22 (i20 + 1) s26
def D_X10_restore (a0 : Nat) (i1 : Int32) (s0 : Hp) : Option (Int32 × Hp) :=
  (isO s0 a0 9).bind fun _ =>
  bd (D_X10_isIn (i1).toInt64 (0 : Int64) (1 : Int64) s0) fun i11 s12 =>
  if i11 = 0 then
  some ((-2 : Int32), s12)
  else
  (getR s12 a0 9 6).bind fun a13 =>
  (ldI s12 a13 i1).bind fun i14 =>
  if i14 = 0 then
  some ((-5 : Int32), s12)
  else
  (getR s12 a0 9 0).bind fun a15 =>
  (getR s12 a0 9 1).bind fun a16 =>
  (D_X10_copy a15 a16 s12).bind fun s17 =>
  D_X10_restore_w38 a0 i1 (fun s28 =>
  (getR s28 a0 9 0).bind fun a29 =>
  (ldI s28 a29 (6 : Int32)).bind fun i30 =>
  bd (D_X10_changed a0 i30 s28) fun i31 s32 =>
  some (i31, s32)
  ) FU (0 : Int32) s17
set_option maxRecDepth 100000 in
set_option maxHeartbeats 4000000 in
theorem K_X10_restore_w38 {l : Launch} {G : smG} {P : Option Value → Hp → Prop} {a18 : Nat} {i19 : Int32} {k69 : Hp → Option (Int32 × Hp)} (hk69 : ∀  (s27 : Hp), OK jI (k69 s27) P → T l G RX10 cX10_restore 3 (sm_rm 1 0 0) (sm_E (some .int) yX10_restore.name) (sm_Qs G P 0 0) 0 0 69 [(0, .ref a18)] [] s27) : ∀ (n : Nat) (i20 : Int32) (s21 : Hp), OK jI (D_X10_restore_w38 a18 i19 k69 n i20 s21) P → T l G RX10 cX10_restore 3 (sm_rm 1 0 0) (sm_E (some .int) yX10_restore.name) (sm_Qs G P 0 0) 0 0 38 [(0, .ref a18), (1, .int i19), (2, .int i20)] [] s21 := by
  intro n
  induction n with
  | zero => intro i20 s21 h; obtain ⟨_, h0, _⟩ := h; exact absurd h0 (by simp [D_X10_restore_w38])
  | succ n22 ih =>
    intro i20 s21 h
    unfold D_X10_restore_w38 at h
    refine T_iload_n dX10_restore_38 rfl 2 rfl ?_
    refine T_sipush (132 : Int32) dX10_restore_39 (by decide) ?_
    refine T_icmp_ge 69 dX10_restore_42 (by decide) h (fun _ h => ?_) (fun _ h => ?_)
    · refine T_lv (lv' := [(0, .ref a18)]) [0] rfl ?_
      exact hk69 s21 h
    · refine T_aload_n dX10_restore_45 rfl 0 rfl ?_
      refine T_getR dX10_restore_46 fl_RX10_7 h (fun a23 h => ?_)
      refine T_iload_n dX10_restore_49 rfl 2 rfl ?_
      refine T_aload_n dX10_restore_50 rfl 0 rfl ?_
      refine T_getR dX10_restore_51 fl_RX10_22 h (fun a24 h => ?_)
      refine T_sipush (132 : Int32) dX10_restore_54 (by decide) ?_
      refine T_iload_n dX10_restore_57 rfl 1 rfl ?_
      refine T_imul dX10_restore_58 ?_
      refine T_iload_n dX10_restore_59 rfl 2 rfl ?_
      refine T_iadd dX10_restore_60 ?_
      refine T_iaload dX10_restore_61 h (fun i25 h => ?_)
      refine T_iastore dX10_restore_62 h (fun s26 h => ?_)
      refine T_iinc (i20 + 1) (lv' := [(2, .int (i20 + 1)), (0, .ref a18), (1, .int i19)]) dX10_restore_63 (j := 2) rfl rfl (by decide) rfl ?_
      refine T_goto 38 dX10_restore_66 (by decide) ?_
      refine T_lv (lv' := [(0, .ref a18), (1, .int i19), (2, .int (i20 + 1))]) [1, 2, 0] rfl ?_
      exact ih (i20 + 1) s26 h
set_option maxRecDepth 100000 in
set_option maxHeartbeats 4000000 in
theorem K_X10_restore {l : Launch} {a0 : Nat} {i1 : Int32} {s0 : Hp} : ∀ P, OK jI (D_X10_restore a0 i1 s0) P → sm_Ct l yX10_restore cX10_restore 3 (some .int) 1 0 0 [.ref a0, .int i1] s0 P := by
  intro P h
  unfold D_X10_restore at h
  obtain ⟨_, hb0, h⟩ := h.bind
  refine sm_enter (own := RX10) (lv := [(0, .ref a0), (1, .int i1)]) (by decide) rfl (Nat.le_of_ble_eq_true rfl) rfl (fun G => ?_)
  refine T_iload_n dX10_restore_0 rfl 1 rfl ?_
  refine T_i2l dX10_restore_1 ?_
  refine T_lconst (0 : Int64) dX10_restore_2 (by decide) ?_
  refine T_lconst (1 : Int64) dX10_restore_3 (by decide) ?_
  refine T_callSI (As := [.long (i1).toInt64, .long (0 : Int64), .long (1 : Int64)]) (rest := []) dX10_restore_4 mc_X10_isIn mi_X10_isIn ml_RX10_51 rfl rfl (Nat.le_of_ble_eq_true rfl) ⟨⟨Nat.le_of_ble_eq_true rfl, Nat.le_of_ble_eq_true rfl⟩, ⟨Nat.le_of_ble_eq_true rfl, Nat.le_of_ble_eq_true rfl⟩⟩ K_X10_isIn h (fun i11 s12 h => ?_)
  refine T_if_ne 13 dX10_restore_7 (by decide) h (fun _ h => ?_) (fun _ h => ?_)
  · refine T_aload_n dX10_restore_13 rfl 0 rfl ?_
    refine T_getR dX10_restore_14 fl_RX10_25 h (fun a13 h => ?_)
    refine T_iload_n dX10_restore_17 rfl 1 rfl ?_
    refine T_iaload dX10_restore_18 h (fun i14 h => ?_)
    refine T_if_ne 25 dX10_restore_19 (by decide) h (fun _ h => ?_) (fun _ h => ?_)
    · refine T_aload_n dX10_restore_25 rfl 0 rfl ?_
      refine T_getR dX10_restore_26 fl_RX10_7 h (fun a15 h => ?_)
      refine T_aload_n dX10_restore_29 rfl 0 rfl ?_
      refine T_getR dX10_restore_30 fl_RX10_13 h (fun a16 h => ?_)
      refine T_callSV (As := [.ref a15, .ref a16]) (rest := []) dX10_restore_33 mc_X10_copy mi_X10_copy ml_RX10_124 rfl rfl (Nat.le_of_ble_eq_true rfl) ⟨⟨Nat.le_of_ble_eq_true rfl, Nat.le_of_ble_eq_true rfl⟩, ⟨Nat.le_of_ble_eq_true rfl, Nat.le_of_ble_eq_true rfl⟩⟩ K_X10_copy h (fun s17 h => ?_)
      refine T_iconst (0 : Int32) dX10_restore_36 (by decide) ?_
      refine T_istore_n (lv' := [(2, .int (0 : Int32)), (0, .ref a0), (1, .int i1)]) dX10_restore_37 rfl (by decide) rfl ?_
      refine T_lv (lv' := [(0, .ref a0), (1, .int i1), (2, .int (0 : Int32))]) [1, 2, 0] rfl ?_
      refine K_X10_restore_w38 ?_ FU (0 : Int32) s17 h
      intro s28 h
      refine T_aload_n dX10_restore_69 rfl 0 rfl ?_
      refine T_aload_n dX10_restore_70 rfl 0 rfl ?_
      refine T_getR dX10_restore_71 fl_RX10_7 h (fun a29 h => ?_)
      refine T_bipush (6 : Int32) dX10_restore_74 (by decide) ?_
      refine T_iaload dX10_restore_76 h (fun i30 h => ?_)
      refine T_callVI (As := [.int i30]) (rest := []) (b := a0) (ci := 9) dX10_restore_77 mc_X10_changed mi_X10_changed ml_RX10_118 rfl (fun _ hr => chk_of hr) rfl rfl (Nat.le_of_ble_eq_true rfl) ⟨⟨Nat.le_of_ble_eq_true rfl, Nat.le_of_ble_eq_true rfl⟩, ⟨Nat.le_of_ble_eq_true rfl, Nat.le_of_ble_eq_true rfl⟩⟩ K_X10_changed h (fun i31 s32 h => ?_)
      exact T_ireturn dX10_restore_80 (Nat.le_of_ble_eq_true rfl) (Nat.le_of_ble_eq_true rfl) h
    · refine T_bipush (-5 : Int32) dX10_restore_22 (by decide) ?_
      exact T_ireturn dX10_restore_24 (Nat.le_of_ble_eq_true rfl) (Nat.le_of_ble_eq_true rfl) h
  · refine T_bipush (-2 : Int32) dX10_restore_10 (by decide) ?_
    exact T_ireturn dX10_restore_12 (Nat.le_of_ble_eq_true rfl) (Nat.le_of_ble_eq_true rfl) h

def D_X10_save_w15 (a13 : Nat) (i14 : Int32) (k46 : Hp → Option (Int32 × Hp)) : Nat → Int32 → Hp → Option (Int32 × Hp)
  | 0, _, _ => none
  | n17 + 1, i15, s16 =>
  if (132 : Int32) ≤ i15 then
  k46 s16
  else
  (getR s16 a13 9 5).bind fun a18 =>
  (getR s16 a13 9 0).bind fun a19 =>
  (ldI s16 a19 i15).bind fun i20 =>
  (stI s16 a18 (((132 : Int32) * i14) + i15) i20).bind fun s21 =>
  D_X10_save_w15 a13 i14 k46 n17 (i15 + 1) s21
def D_X10_save (a0 : Nat) (i1 : Int32) (s0 : Hp) : Option (Int32 × Hp) :=
  (isO s0 a0 9).bind fun _ =>
  bd (D_X10_isIn (i1).toInt64 (0 : Int64) (1 : Int64) s0) fun i11 s12 =>
  if i11 = 0 then
  some ((-2 : Int32), s12)
  else
  D_X10_save_w15 a0 i1 (fun s23 =>
  (getR s23 a0 9 6).bind fun a24 =>
  (stI s23 a24 i1 (1 : Int32)).bind fun s25 =>
  (getR s25 a0 9 0).bind fun a26 =>
  (ldI s25 a26 (6 : Int32)).bind fun i27 =>
  some (i27, s25)
  ) FU (0 : Int32) s12
set_option maxRecDepth 100000 in
set_option maxHeartbeats 4000000 in
theorem K_X10_save_w15 {l : Launch} {G : smG} {P : Option Value → Hp → Prop} {a13 : Nat} {i14 : Int32} {k46 : Hp → Option (Int32 × Hp)} (hk46 : ∀  (s22 : Hp), OK jI (k46 s22) P → T l G RX10 cX10_save 3 (sm_rm 1 0 0) (sm_E (some .int) yX10_save.name) (sm_Qs G P 0 0) 0 0 46 [(0, .ref a13), (1, .int i14)] [] s22) : ∀ (n : Nat) (i15 : Int32) (s16 : Hp), OK jI (D_X10_save_w15 a13 i14 k46 n i15 s16) P → T l G RX10 cX10_save 3 (sm_rm 1 0 0) (sm_E (some .int) yX10_save.name) (sm_Qs G P 0 0) 0 0 15 [(0, .ref a13), (1, .int i14), (2, .int i15)] [] s16 := by
  intro n
  induction n with
  | zero => intro i15 s16 h; obtain ⟨_, h0, _⟩ := h; exact absurd h0 (by simp [D_X10_save_w15])
  | succ n17 ih =>
    intro i15 s16 h
    unfold D_X10_save_w15 at h
    refine T_iload_n dX10_save_15 rfl 2 rfl ?_
    refine T_sipush (132 : Int32) dX10_save_16 (by decide) ?_
    refine T_icmp_ge 46 dX10_save_19 (by decide) h (fun _ h => ?_) (fun _ h => ?_)
    · refine T_lv (lv' := [(0, .ref a13), (1, .int i14)]) [0, 1] rfl ?_
      exact hk46 s16 h
    · refine T_aload_n dX10_save_22 rfl 0 rfl ?_
      refine T_getR dX10_save_23 fl_RX10_22 h (fun a18 h => ?_)
      refine T_sipush (132 : Int32) dX10_save_26 (by decide) ?_
      refine T_iload_n dX10_save_29 rfl 1 rfl ?_
      refine T_imul dX10_save_30 ?_
      refine T_iload_n dX10_save_31 rfl 2 rfl ?_
      refine T_iadd dX10_save_32 ?_
      refine T_aload_n dX10_save_33 rfl 0 rfl ?_
      refine T_getR dX10_save_34 fl_RX10_7 h (fun a19 h => ?_)
      refine T_iload_n dX10_save_37 rfl 2 rfl ?_
      refine T_iaload dX10_save_38 h (fun i20 h => ?_)
      refine T_iastore dX10_save_39 h (fun s21 h => ?_)
      refine T_iinc (i15 + 1) (lv' := [(2, .int (i15 + 1)), (0, .ref a13), (1, .int i14)]) dX10_save_40 (j := 2) rfl rfl (by decide) rfl ?_
      refine T_goto 15 dX10_save_43 (by decide) ?_
      refine T_lv (lv' := [(0, .ref a13), (1, .int i14), (2, .int (i15 + 1))]) [1, 2, 0] rfl ?_
      exact ih (i15 + 1) s21 h
set_option maxRecDepth 100000 in
set_option maxHeartbeats 4000000 in
theorem K_X10_save {l : Launch} {a0 : Nat} {i1 : Int32} {s0 : Hp} : ∀ P, OK jI (D_X10_save a0 i1 s0) P → sm_Ct l yX10_save cX10_save 3 (some .int) 1 0 0 [.ref a0, .int i1] s0 P := by
  intro P h
  unfold D_X10_save at h
  obtain ⟨_, hb0, h⟩ := h.bind
  refine sm_enter (own := RX10) (lv := [(0, .ref a0), (1, .int i1)]) (by decide) rfl (Nat.le_of_ble_eq_true rfl) rfl (fun G => ?_)
  refine T_iload_n dX10_save_0 rfl 1 rfl ?_
  refine T_i2l dX10_save_1 ?_
  refine T_lconst (0 : Int64) dX10_save_2 (by decide) ?_
  refine T_lconst (1 : Int64) dX10_save_3 (by decide) ?_
  refine T_callSI (As := [.long (i1).toInt64, .long (0 : Int64), .long (1 : Int64)]) (rest := []) dX10_save_4 mc_X10_isIn mi_X10_isIn ml_RX10_51 rfl rfl (Nat.le_of_ble_eq_true rfl) ⟨⟨Nat.le_of_ble_eq_true rfl, Nat.le_of_ble_eq_true rfl⟩, ⟨Nat.le_of_ble_eq_true rfl, Nat.le_of_ble_eq_true rfl⟩⟩ K_X10_isIn h (fun i11 s12 h => ?_)
  refine T_if_ne 13 dX10_save_7 (by decide) h (fun _ h => ?_) (fun _ h => ?_)
  · refine T_iconst (0 : Int32) dX10_save_13 (by decide) ?_
    refine T_istore_n (lv' := [(2, .int (0 : Int32)), (0, .ref a0), (1, .int i1)]) dX10_save_14 rfl (by decide) rfl ?_
    refine T_lv (lv' := [(0, .ref a0), (1, .int i1), (2, .int (0 : Int32))]) [1, 2, 0] rfl ?_
    refine K_X10_save_w15 ?_ FU (0 : Int32) s12 h
    intro s23 h
    refine T_aload_n dX10_save_46 rfl 0 rfl ?_
    refine T_getR dX10_save_47 fl_RX10_25 h (fun a24 h => ?_)
    refine T_iload_n dX10_save_50 rfl 1 rfl ?_
    refine T_iconst (1 : Int32) dX10_save_51 (by decide) ?_
    refine T_iastore dX10_save_52 h (fun s25 h => ?_)
    refine T_aload_n dX10_save_53 rfl 0 rfl ?_
    refine T_getR dX10_save_54 fl_RX10_7 h (fun a26 h => ?_)
    refine T_bipush (6 : Int32) dX10_save_57 (by decide) ?_
    refine T_iaload dX10_save_59 h (fun i27 h => ?_)
    exact T_ireturn dX10_save_60 (Nat.le_of_ble_eq_true rfl) (Nat.le_of_ble_eq_true rfl) h
  · refine T_bipush (-2 : Int32) dX10_save_10 (by decide) ?_
    exact T_ireturn dX10_save_12 (Nat.le_of_ble_eq_true rfl) (Nat.le_of_ble_eq_true rfl) h

def D_X1_copy (a0 : Nat) (a1 : Nat) (s0 : Hp) : Option Hp :=
  (isO s0 a0 1).bind fun _ =>
  (getR s0 a1 1 0).bind fun a11 =>
  (getR s0 a0 1 0).bind fun a12 =>
  (getR s0 a1 1 0).bind fun a13 =>
  (alen s0 a13).bind fun i14 =>
  (getR s0 a0 1 0).bind fun a15 =>
  (alen s0 a15).bind fun i16 =>
  nm (if i16 < i14 then i16 else i14) fun i17 =>
  (cpyI s0 a11 (0 : Int32) a12 (0 : Int32) i17).bind fun s18 =>
  some s18
set_option maxRecDepth 100000 in
set_option maxHeartbeats 4000000 in
theorem K_X1_copy {l : Launch} {a0 : Nat} {a1 : Nat} {s0 : Hp} : ∀ P, OK jV (D_X1_copy a0 a1 s0) P → sm_Ct l yX1_copy cX1_copy 2 none 1 0 0 [.ref a0, .ref a1] s0 P := by
  intro P h
  unfold D_X1_copy at h
  obtain ⟨_, hb0, h⟩ := h.bind
  refine sm_enter (own := RX1) (lv := [(0, .ref a0), (1, .ref a1)]) (by decide) rfl (Nat.le_of_ble_eq_true rfl) rfl (fun G => ?_)
  refine T_aload_n dX1_copy_0 rfl 1 rfl ?_
  refine T_getR dX1_copy_1 fl_RX1_13 h (fun a11 h => ?_)
  refine T_iconst (0 : Int32) dX1_copy_4 (by decide) ?_
  refine T_aload_n dX1_copy_5 rfl 0 rfl ?_
  refine T_getR dX1_copy_6 fl_RX1_13 h (fun a12 h => ?_)
  refine T_iconst (0 : Int32) dX1_copy_9 (by decide) ?_
  refine T_aload_n dX1_copy_10 rfl 1 rfl ?_
  refine T_getR dX1_copy_11 fl_RX1_13 h (fun a13 h => ?_)
  refine T_alen dX1_copy_14 h (fun i14 h => ?_)
  refine T_aload_n dX1_copy_15 rfl 0 rfl ?_
  refine T_getR dX1_copy_16 fl_RX1_13 h (fun a15 h => ?_)
  refine T_alen dX1_copy_19 h (fun i16 h => ?_)
  refine T_mmin dX1_copy_20 ml_RX1_25 wd_8_9 wd_3_17 wd_8_10 ⟨Nat.le_of_ble_eq_true rfl, Nat.le_of_ble_eq_true rfl, Nat.le_of_ble_eq_true rfl, Nat.le_of_ble_eq_true rfl⟩ ?_
  refine T_nm h (fun i17 h => ?_)
  refine T_acopy dX1_copy_23 ml_RX1_28 wd_8_12 wd_8_13 wd_8_14 ⟨Nat.le_of_ble_eq_true rfl, Nat.le_of_ble_eq_true rfl⟩ h (fun s18 h => ?_)
  exact T_vreturn dX1_copy_26 (Nat.le_of_ble_eq_true rfl) (Nat.le_of_ble_eq_true rfl) h

def D_X1_fill (a0 : Nat) (i1 : Int32) (s0 : Hp) : Option Hp :=
  (isO s0 a0 1).bind fun _ =>
  (getR s0 a0 1 0).bind fun a11 =>
  (D_J7_fill_53178 a11 i1 s0).bind fun s12 =>
  some s12
set_option maxRecDepth 100000 in
set_option maxHeartbeats 4000000 in
theorem K_X1_fill {l : Launch} {a0 : Nat} {i1 : Int32} {s0 : Hp} : ∀ P, OK jV (D_X1_fill a0 i1 s0) P → sm_Ct l yX1_fill cX1_fill 2 none 1 0 0 [.ref a0, .int i1] s0 P := by
  intro P h
  unfold D_X1_fill at h
  obtain ⟨_, hb0, h⟩ := h.bind
  refine sm_enter (own := RX1) (lv := [(0, .ref a0), (1, .int i1)]) (by decide) rfl (Nat.le_of_ble_eq_true rfl) rfl (fun G => ?_)
  refine T_aload_n dX1_fill_0 rfl 0 rfl ?_
  refine T_getR dX1_fill_1 fl_RX1_13 h (fun a11 h => ?_)
  refine T_iload_n dX1_fill_4 rfl 1 rfl ?_
  refine T_callSV (As := [.ref a11, .int i1]) (rest := []) dX1_fill_5 mc_J7_fill_53178 mi_J7_fill_53178 ml_RX1_19 rfl rfl (Nat.le_of_ble_eq_true rfl) ⟨⟨Nat.le_of_ble_eq_true rfl, Nat.le_of_ble_eq_true rfl⟩, ⟨Nat.le_of_ble_eq_true rfl, Nat.le_of_ble_eq_true rfl⟩⟩ K_J7_fill_53178 h (fun s12 h => ?_)
  exact T_vreturn dX1_fill_8 (Nat.le_of_ble_eq_true rfl) (Nat.le_of_ble_eq_true rfl) h

def D_X1_init (a0 : Nat) (i1 : Int32) (s0 : Hp) : Option Hp :=
  (isO s0 a0 1).bind fun _ =>
  nm (if i1 < (0 : Int32) then (0 : Int32) else i1) fun i11 =>
  (newI s0 i11).bind fun s12 =>
  (putV s12 a0 1 0 (.ref s0.1)).bind fun s13 =>
  some s13
set_option maxRecDepth 100000 in
set_option maxHeartbeats 4000000 in
theorem K_X1_init {l : Launch} {a0 : Nat} {i1 : Int32} {s0 : Hp} : ∀ P, OK jV (D_X1_init a0 i1 s0) P → sm_Ct l yX1_init cX1_init 2 none 1 1 800 [.ref a0, .int i1] s0 P := by
  intro P h
  unfold D_X1_init at h
  obtain ⟨_, hb0, h⟩ := h.bind
  refine sm_enter (own := RX1) (lv := [(0, .ref a0), (1, .int i1)]) (by decide) rfl (Nat.le_of_ble_eq_true rfl) rfl (fun G => ?_)
  refine T_aload_n dX1_init_0 rfl 0 rfl ?_
  refine T_objInit dX1_init_1 ml_RX1_1 wd_1_11 wd_1_12 ⟨Nat.le_of_ble_eq_true rfl, Nat.le_of_ble_eq_true rfl⟩ ?_
  refine T_aload_n dX1_init_4 rfl 0 rfl ?_
  refine T_iload_n dX1_init_5 rfl 1 rfl ?_
  refine T_iconst (0 : Int32) dX1_init_6 (by decide) ?_
  refine T_mmax dX1_init_7 ml_RX1_7 wd_3_16 wd_3_17 wd_3_18 ⟨Nat.le_of_ble_eq_true rfl, Nat.le_of_ble_eq_true rfl, Nat.le_of_ble_eq_true rfl, Nat.le_of_ble_eq_true rfl⟩ ?_
  refine T_nm h (fun i11 h => ?_)
  refine T_newI dX1_init_10 wd_3_19 (Nat.le_of_ble_eq_true rfl) (Nat.le_of_ble_eq_true rfl) h (fun s12 h => ?_)
  refine T_putF (rt := none) rfl dX1_init_12 fl_RX1_13 ft_1_0 rfl rfl rfl h (fun s13 h => ?_)
  exact T_vreturn dX1_init_15 (Nat.le_of_ble_eq_true rfl) (Nat.le_of_ble_eq_true rfl) h

def D_X1_leaveOut (a0 : Nat) (i1 : Int32) (s0 : Hp) : Option Hp :=
  (isO s0 a0 1).bind fun _ =>
  if i1 < 0 then
  some s0
  else
  (getR s0 a0 1 0).bind fun a11 =>
  (alen s0 a11).bind fun i12 =>
  if i12 ≤ i1 then
  some s0
  else
  (getR s0 a0 1 0).bind fun a13 =>
  (getR s0 a0 1 0).bind fun a14 =>
  (getR s0 a0 1 0).bind fun a15 =>
  (alen s0 a15).bind fun i16 =>
  (cpyI s0 a13 (i1 + (1 : Int32)) a14 i1 ((i16 - (1 : Int32)) - i1)).bind fun s17 =>
  some s17
set_option maxRecDepth 100000 in
set_option maxHeartbeats 4000000 in
theorem K_X1_leaveOut {l : Launch} {a0 : Nat} {i1 : Int32} {s0 : Hp} : ∀ P, OK jV (D_X1_leaveOut a0 i1 s0) P → sm_Ct l yX1_leaveOut cX1_leaveOut 2 none 1 0 0 [.ref a0, .int i1] s0 P := by
  intro P h
  unfold D_X1_leaveOut at h
  obtain ⟨_, hb0, h⟩ := h.bind
  refine sm_enter (own := RX1) (lv := [(0, .ref a0), (1, .int i1)]) (by decide) rfl (Nat.le_of_ble_eq_true rfl) rfl (fun G => ?_)
  refine T_iload_n dX1_leaveOut_0 rfl 1 rfl ?_
  refine T_if_lt 37 dX1_leaveOut_1 (by decide) h (fun _ h => ?_) (fun _ h => ?_)
  · exact T_vreturn dX1_leaveOut_37 (Nat.le_of_ble_eq_true rfl) (Nat.le_of_ble_eq_true rfl) h
  · refine T_iload_n dX1_leaveOut_4 rfl 1 rfl ?_
    refine T_aload_n dX1_leaveOut_5 rfl 0 rfl ?_
    refine T_getR dX1_leaveOut_6 fl_RX1_13 h (fun a11 h => ?_)
    refine T_alen dX1_leaveOut_9 h (fun i12 h => ?_)
    refine T_icmp_ge 37 dX1_leaveOut_10 (by decide) h (fun _ h => ?_) (fun _ h => ?_)
    · exact T_vreturn dX1_leaveOut_37 (Nat.le_of_ble_eq_true rfl) (Nat.le_of_ble_eq_true rfl) h
    · refine T_aload_n dX1_leaveOut_13 rfl 0 rfl ?_
      refine T_getR dX1_leaveOut_14 fl_RX1_13 h (fun a13 h => ?_)
      refine T_iload_n dX1_leaveOut_17 rfl 1 rfl ?_
      refine T_iconst (1 : Int32) dX1_leaveOut_18 (by decide) ?_
      refine T_iadd dX1_leaveOut_19 ?_
      refine T_aload_n dX1_leaveOut_20 rfl 0 rfl ?_
      refine T_getR dX1_leaveOut_21 fl_RX1_13 h (fun a14 h => ?_)
      refine T_iload_n dX1_leaveOut_24 rfl 1 rfl ?_
      refine T_aload_n dX1_leaveOut_25 rfl 0 rfl ?_
      refine T_getR dX1_leaveOut_26 fl_RX1_13 h (fun a15 h => ?_)
      refine T_alen dX1_leaveOut_29 h (fun i16 h => ?_)
      refine T_iconst (1 : Int32) dX1_leaveOut_30 (by decide) ?_
      refine T_isub dX1_leaveOut_31 ?_
      refine T_iload_n dX1_leaveOut_32 rfl 1 rfl ?_
      refine T_isub dX1_leaveOut_33 ?_
      refine T_acopy dX1_leaveOut_34 ml_RX1_28 wd_8_12 wd_8_13 wd_8_14 ⟨Nat.le_of_ble_eq_true rfl, Nat.le_of_ble_eq_true rfl⟩ h (fun s17 h => ?_)
      exact T_vreturn dX1_leaveOut_37 (Nat.le_of_ble_eq_true rfl) (Nat.le_of_ble_eq_true rfl) h

def D_X2_add (a0 : Nat) (i1 : Int32) (i2 : Int32) (i3 : Int32) (s0 : Hp) : Option (Int32 × Hp) :=
  (isO s0 a0 2).bind fun _ =>
  (getI s0 a0 2 6).bind fun i11 =>
  (getR s0 a0 2 1).bind fun a12 =>
  (D_X1_write a12 i11 i1 s0).bind fun s13 =>
  (getR s13 a0 2 2).bind fun a14 =>
  (D_X1_write a14 i11 i2 s13).bind fun s15 =>
  (getR s15 a0 2 3).bind fun a16 =>
  (D_X1_write a16 i11 i3 s15).bind fun s17 =>
  (getR s17 a0 2 4).bind fun a18 =>
  (D_X1_write a18 i11 (0 : Int32) s17).bind fun s19 =>
  (getR s19 a0 2 5).bind fun a20 =>
  (D_X1_write a20 i11 (0 : Int32) s19).bind fun s21 =>
  (getI s21 a0 2 6).bind fun i22 =>
  (putI s21 a0 2 6 (i22 + (1 : Int32))).bind fun s23 =>
  some (i11, s23)
set_option maxRecDepth 100000 in
set_option maxHeartbeats 4000000 in
theorem K_X2_add {l : Launch} {a0 : Nat} {i1 : Int32} {i2 : Int32} {i3 : Int32} {s0 : Hp} : ∀ P, OK jI (D_X2_add a0 i1 i2 i3 s0) P → sm_Ct l yX2_add cX2_add 5 (some .int) 1 0 0 [.ref a0, .int i1, .int i2, .int i3] s0 P := by
  intro P h
  unfold D_X2_add at h
  obtain ⟨_, hb0, h⟩ := h.bind
  refine sm_enter (own := RX2) (lv := [(0, .ref a0), (1, .int i1), (2, .int i2), (3, .int i3)]) (by decide) rfl (Nat.le_of_ble_eq_true rfl) rfl (fun G => ?_)
  refine T_aload_n dX2_add_0 rfl 0 rfl ?_
  refine T_getI dX2_add_1 fl_RX2_35 h (fun i11 h => ?_)
  refine T_istore (lv' := [(4, .int i11), (0, .ref a0), (1, .int i1), (2, .int i2), (3, .int i3)]) dX2_add_4 (by decide) rfl ?_
  refine T_aload_n dX2_add_6 rfl 1 rfl ?_
  refine T_getR dX2_add_7 fl_RX2_20 h (fun a12 h => ?_)
  refine T_iload dX2_add_10 0 rfl ?_
  refine T_iload_n dX2_add_12 rfl 2 rfl ?_
  refine T_callVV (As := [.int i11, .int i1]) (rest := []) (b := a12) (ci := 1) dX2_add_13 mc_X1_write mi_X1_write ml_RX2_48 rfl (fun _ hr => chk_of hr) rfl rfl (Nat.le_of_ble_eq_true rfl) ⟨⟨Nat.le_of_ble_eq_true rfl, Nat.le_of_ble_eq_true rfl⟩, ⟨Nat.le_of_ble_eq_true rfl, Nat.le_of_ble_eq_true rfl⟩⟩ K_X1_write h (fun s13 h => ?_)
  refine T_aload_n dX2_add_16 rfl 1 rfl ?_
  refine T_getR dX2_add_17 fl_RX2_23 h (fun a14 h => ?_)
  refine T_iload dX2_add_20 0 rfl ?_
  refine T_iload_n dX2_add_22 rfl 3 rfl ?_
  refine T_callVV (As := [.int i11, .int i2]) (rest := []) (b := a14) (ci := 1) dX2_add_23 mc_X1_write mi_X1_write ml_RX2_48 rfl (fun _ hr => chk_of hr) rfl rfl (Nat.le_of_ble_eq_true rfl) ⟨⟨Nat.le_of_ble_eq_true rfl, Nat.le_of_ble_eq_true rfl⟩, ⟨Nat.le_of_ble_eq_true rfl, Nat.le_of_ble_eq_true rfl⟩⟩ K_X1_write h (fun s15 h => ?_)
  refine T_aload_n dX2_add_26 rfl 1 rfl ?_
  refine T_getR dX2_add_27 fl_RX2_26 h (fun a16 h => ?_)
  refine T_iload dX2_add_30 0 rfl ?_
  refine T_iload_n dX2_add_32 rfl 4 rfl ?_
  refine T_callVV (As := [.int i11, .int i3]) (rest := []) (b := a16) (ci := 1) dX2_add_33 mc_X1_write mi_X1_write ml_RX2_48 rfl (fun _ hr => chk_of hr) rfl rfl (Nat.le_of_ble_eq_true rfl) ⟨⟨Nat.le_of_ble_eq_true rfl, Nat.le_of_ble_eq_true rfl⟩, ⟨Nat.le_of_ble_eq_true rfl, Nat.le_of_ble_eq_true rfl⟩⟩ K_X1_write h (fun s17 h => ?_)
  refine T_aload_n dX2_add_36 rfl 1 rfl ?_
  refine T_getR dX2_add_37 fl_RX2_29 h (fun a18 h => ?_)
  refine T_iload dX2_add_40 0 rfl ?_
  refine T_iconst (0 : Int32) dX2_add_42 (by decide) ?_
  refine T_callVV (As := [.int i11, .int (0 : Int32)]) (rest := []) (b := a18) (ci := 1) dX2_add_43 mc_X1_write mi_X1_write ml_RX2_48 rfl (fun _ hr => chk_of hr) rfl rfl (Nat.le_of_ble_eq_true rfl) ⟨⟨Nat.le_of_ble_eq_true rfl, Nat.le_of_ble_eq_true rfl⟩, ⟨Nat.le_of_ble_eq_true rfl, Nat.le_of_ble_eq_true rfl⟩⟩ K_X1_write h (fun s19 h => ?_)
  refine T_aload_n dX2_add_46 rfl 1 rfl ?_
  refine T_getR dX2_add_47 fl_RX2_32 h (fun a20 h => ?_)
  refine T_iload dX2_add_50 0 rfl ?_
  refine T_iconst (0 : Int32) dX2_add_52 (by decide) ?_
  refine T_callVV (As := [.int i11, .int (0 : Int32)]) (rest := []) (b := a20) (ci := 1) dX2_add_53 mc_X1_write mi_X1_write ml_RX2_48 rfl (fun _ hr => chk_of hr) rfl rfl (Nat.le_of_ble_eq_true rfl) ⟨⟨Nat.le_of_ble_eq_true rfl, Nat.le_of_ble_eq_true rfl⟩, ⟨Nat.le_of_ble_eq_true rfl, Nat.le_of_ble_eq_true rfl⟩⟩ K_X1_write h (fun s21 h => ?_)
  refine T_aload_n dX2_add_56 rfl 1 rfl ?_
  refine T_dup dX2_add_57 rfl ?_
  refine T_getI dX2_add_58 fl_RX2_35 h (fun i22 h => ?_)
  refine T_iconst (1 : Int32) dX2_add_61 (by decide) ?_
  refine T_iadd dX2_add_62 ?_
  refine T_putI dX2_add_63 fl_RX2_35 ft_2_6 h (fun s23 h => ?_)
  refine T_iload dX2_add_66 0 rfl ?_
  exact T_ireturn dX2_add_68 (Nat.le_of_ble_eq_true rfl) (Nat.le_of_ble_eq_true rfl) h

def D_X2_allDust_w4 (a11 : Nat) (k29 : Int32 → Hp → Option (Int32 × Hp)) : Nat → Int32 → Int32 → Hp → Option (Int32 × Hp)
  | 0, _, _, _ => none
  | n15 + 1, i12, i13, s14 =>
  (getI s14 a11 2 6).bind fun i16 =>
  if i16 ≤ i13 then
  k29 i12 s14
  else
  (getR s14 a11 2 4).bind fun a17 =>
  bd (D_X1_read a17 i13 s14) fun i18 s19 =>
  nm (i12 + i18) fun i20 =>
  D_X2_allDust_w4 a11 k29 n15 i20 (i13 + 1) s19
def D_X2_allDust (a0 : Nat) (s0 : Hp) : Option (Int32 × Hp) :=
  (isO s0 a0 2).bind fun _ =>
  D_X2_allDust_w4 a0 (fun i24 s23 =>
  some (i24, s23)
  ) FU (0 : Int32) (0 : Int32) s0
set_option maxRecDepth 100000 in
set_option maxHeartbeats 4000000 in
theorem K_X2_allDust_w4 {l : Launch} {G : smG} {P : Option Value → Hp → Prop} {a11 : Nat} {k29 : Int32 → Hp → Option (Int32 × Hp)} (hk29 : ∀ (i21 : Int32) (s22 : Hp), OK jI (k29 i21 s22) P → T l G RX2 cX2_allDust 3 (sm_rm 1 0 0) (sm_E (some .int) yX2_allDust.name) (sm_Qs G P 0 0) 0 0 29 [(1, .int i21)] [] s22) : ∀ (n : Nat) (i12 : Int32) (i13 : Int32) (s14 : Hp), OK jI (D_X2_allDust_w4 a11 k29 n i12 i13 s14) P → T l G RX2 cX2_allDust 3 (sm_rm 1 0 0) (sm_E (some .int) yX2_allDust.name) (sm_Qs G P 0 0) 0 0 4 [(0, .ref a11), (1, .int i12), (2, .int i13)] [] s14 := by
  intro n
  induction n with
  | zero => intro i12 i13 s14 h; obtain ⟨_, h0, _⟩ := h; exact absurd h0 (by simp [D_X2_allDust_w4])
  | succ n15 ih =>
    intro i12 i13 s14 h
    unfold D_X2_allDust_w4 at h
    refine T_iload_n dX2_allDust_4 rfl 2 rfl ?_
    refine T_aload_n dX2_allDust_5 rfl 0 rfl ?_
    refine T_getI dX2_allDust_6 fl_RX2_35 h (fun i16 h => ?_)
    refine T_icmp_ge 29 dX2_allDust_9 (by decide) h (fun _ h => ?_) (fun _ h => ?_)
    · refine T_lv (lv' := [(1, .int i12)]) [1] rfl ?_
      exact hk29 i12 s14 h
    · refine T_iload_n dX2_allDust_12 rfl 1 rfl ?_
      refine T_aload_n dX2_allDust_13 rfl 0 rfl ?_
      refine T_getR dX2_allDust_14 fl_RX2_29 h (fun a17 h => ?_)
      refine T_iload_n dX2_allDust_17 rfl 2 rfl ?_
      refine T_callVI (As := [.int i13]) (rest := [.int i12]) (b := a17) (ci := 1) dX2_allDust_18 mc_X1_read mi_X1_read ml_RX2_60 rfl (fun _ hr => chk_of hr) rfl rfl (Nat.le_of_ble_eq_true rfl) ⟨⟨Nat.le_of_ble_eq_true rfl, Nat.le_of_ble_eq_true rfl⟩, ⟨Nat.le_of_ble_eq_true rfl, Nat.le_of_ble_eq_true rfl⟩⟩ K_X1_read h (fun i18 s19 h => ?_)
      refine T_iadd dX2_allDust_21 ?_
      refine T_nm h (fun i20 h => ?_)
      refine T_istore_n (lv' := [(1, .int i20), (0, .ref a11), (2, .int i13)]) dX2_allDust_22 rfl (by decide) rfl ?_
      refine T_iinc (i13 + 1) (lv' := [(2, .int (i13 + 1)), (1, .int i20), (0, .ref a11)]) dX2_allDust_23 (j := 2) rfl rfl (by decide) rfl ?_
      refine T_goto 4 dX2_allDust_26 (by decide) ?_
      refine T_lv (lv' := [(0, .ref a11), (1, .int i20), (2, .int (i13 + 1))]) [2, 1, 0] rfl ?_
      exact ih i20 (i13 + 1) s19 h
set_option maxRecDepth 100000 in
set_option maxHeartbeats 4000000 in
theorem K_X2_allDust {l : Launch} {a0 : Nat} {s0 : Hp} : ∀ P, OK jI (D_X2_allDust a0 s0) P → sm_Ct l yX2_allDust cX2_allDust 3 (some .int) 1 0 0 [.ref a0] s0 P := by
  intro P h
  unfold D_X2_allDust at h
  obtain ⟨_, hb0, h⟩ := h.bind
  refine sm_enter (own := RX2) (lv := [(0, .ref a0)]) (by decide) rfl (Nat.le_of_ble_eq_true rfl) rfl (fun G => ?_)
  refine T_iconst (0 : Int32) dX2_allDust_0 (by decide) ?_
  refine T_istore_n (lv' := [(1, .int (0 : Int32)), (0, .ref a0)]) dX2_allDust_1 rfl (by decide) rfl ?_
  refine T_iconst (0 : Int32) dX2_allDust_2 (by decide) ?_
  refine T_istore_n (lv' := [(2, .int (0 : Int32)), (1, .int (0 : Int32)), (0, .ref a0)]) dX2_allDust_3 rfl (by decide) rfl ?_
  refine T_lv (lv' := [(0, .ref a0), (1, .int (0 : Int32)), (2, .int (0 : Int32))]) [2, 1, 0] rfl ?_
  refine K_X2_allDust_w4 ?_ FU (0 : Int32) (0 : Int32) s0 h
  intro i24 s23 h
  refine T_iload_n dX2_allDust_29 rfl 0 rfl ?_
  exact T_ireturn dX2_allDust_30 (Nat.le_of_ble_eq_true rfl) (Nat.le_of_ble_eq_true rfl) h
