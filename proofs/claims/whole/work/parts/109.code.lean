def D_X10_leastLimit_b64 (k36 : Int32 → Int32 → Hp → Option (Int32 × Hp)) (a32 : Nat) (i33 : Int32) (i34 : Int32) (i35 : Int32) (i37 : Int32) (s36 : Hp) : Option (Int32 × Hp) :=
  k36 i37 (i35 + 1) s36
def D_X10_leastLimit_w36 (a23 : Nat) (i24 : Int32) (i25 : Int32) (k71 : Int32 → Hp → Option (Int32 × Hp)) : Nat → Int32 → Int32 → Hp → Option (Int32 × Hp)
  | 0, _, _, _ => none
  | n29 + 1, i26, i27, s28 =>
  if (4 : Int32) ≤ i27 then
  k71 i26 s28
  else
  (getR s28 a23 9 9).bind fun a30 =>
  (ldI s28 a30 i27).bind fun i31 =>
  if i31 ≤ i26 then
  D_X10_leastLimit_b64 (D_X10_leastLimit_w36 a23 i24 i25 k71 n29) a23 i24 i25 i27 i26 s28
  else
  (getR s28 a23 9 9).bind fun a41 =>
  (ldI s28 a41 i27).bind fun i42 =>
  D_X10_leastLimit_b64 (D_X10_leastLimit_w36 a23 i24 i25 k71 n29) a23 i24 i25 i27 i42 s28
def D_X10_leastLimit_w20 (a15 : Nat) (i16 : Int32) (k77 : Int32 → Hp → Option (Int32 × Hp)) : Nat → Int32 → Int32 → Hp → Option (Int32 × Hp)
  | 0, _, _, _ => none
  | n20 + 1, i17, i18, s19 =>
  if (11 : Int32) ≤ i18 then
  k77 i17 s19
  else
  bd (D_X10_looks a15 i18 s19) fun i21 s22 =>
  D_X10_leastLimit_w36 a15 i16 i18 (fun i46 s45 =>
  D_X10_leastLimit_w20 a15 i16 k77 n20 i46 (i18 + 1) s45
  ) FU i17 (0 : Int32) s22
def D_X10_leastLimit (a0 : Nat) (s0 : Hp) : Option (Int32 × Hp) :=
  (isO s0 a0 9).bind fun _ =>
  (getR s0 a0 9 0).bind fun a11 =>
  (ldI s0 a11 (0 : Int32)).bind fun i12 =>
  (getR s0 a0 9 0).bind fun a13 =>
  (stI s0 a13 (0 : Int32) (9999 : Int32)).bind fun s14 =>
  D_X10_leastLimit_w20 a0 i12 (fun i50 s49 =>
  (getR s49 a0 9 0).bind fun a51 =>
  (stI s49 a51 (0 : Int32) i12).bind fun s52 =>
  some (i50, s52)
  ) FU (1 : Int32) (0 : Int32) s14
set_option maxRecDepth 100000 in
set_option maxHeartbeats 4000000 in
theorem K_X10_leastLimit_b64 {l : Launch} {G : smG} {P : Option Value → Hp → Prop} {k36 : Int32 → Int32 → Hp → Option (Int32 × Hp)} {a32 : Nat} {i33 : Int32} {i34 : Int32} {i35 : Int32} {i37 : Int32} {s36 : Hp} (hk36 : ∀ (i38 : Int32) (i39 : Int32) (s40 : Hp), OK jI (k36 i38 i39 s40) P → T l G RX10 cX10_leastLimit 6 (sm_rm 5 0 0) (sm_E (some .int) yX10_leastLimit.name) (sm_Qs G P 0 0) 0 0 36 [(0, .ref a32), (1, .int i33), (2, .int i38), (3, .int i34), (5, .int i39)] [] s40) (h : OK jI (D_X10_leastLimit_b64 k36 a32 i33 i34 i35 i37 s36) P) : T l G RX10 cX10_leastLimit 6 (sm_rm 5 0 0) (sm_E (some .int) yX10_leastLimit.name) (sm_Qs G P 0 0) 0 0 64 [(0, .ref a32), (1, .int i33), (3, .int i34), (5, .int i35)] [.int i37] s36 := by
  unfold D_X10_leastLimit_b64 at h
  refine T_istore_n (lv' := [(2, .int i37), (0, .ref a32), (1, .int i33), (3, .int i34), (5, .int i35)]) dX10_leastLimit_64 rfl (by decide) rfl ?_
  refine T_iinc (i35 + 1) (lv' := [(5, .int (i35 + 1)), (2, .int i37), (0, .ref a32), (1, .int i33), (3, .int i34)]) dX10_leastLimit_65 (j := 4) rfl rfl (by decide) rfl ?_
  refine T_goto 36 dX10_leastLimit_68 (by decide) ?_
  refine T_lv (lv' := [(0, .ref a32), (1, .int i33), (2, .int i37), (3, .int i34), (5, .int (i35 + 1))]) [2, 3, 1, 4, 0] rfl ?_
  exact hk36 i37 (i35 + 1) s36 h
set_option maxRecDepth 100000 in
set_option maxHeartbeats 4000000 in
theorem K_X10_leastLimit_w36 {l : Launch} {G : smG} {P : Option Value → Hp → Prop} {a23 : Nat} {i24 : Int32} {i25 : Int32} {k71 : Int32 → Hp → Option (Int32 × Hp)} (hk71 : ∀ (i43 : Int32) (s44 : Hp), OK jI (k71 i43 s44) P → T l G RX10 cX10_leastLimit 6 (sm_rm 5 0 0) (sm_E (some .int) yX10_leastLimit.name) (sm_Qs G P 0 0) 0 0 71 [(0, .ref a23), (1, .int i24), (2, .int i43), (3, .int i25)] [] s44) : ∀ (n : Nat) (i26 : Int32) (i27 : Int32) (s28 : Hp), OK jI (D_X10_leastLimit_w36 a23 i24 i25 k71 n i26 i27 s28) P → T l G RX10 cX10_leastLimit 6 (sm_rm 5 0 0) (sm_E (some .int) yX10_leastLimit.name) (sm_Qs G P 0 0) 0 0 36 [(0, .ref a23), (1, .int i24), (2, .int i26), (3, .int i25), (5, .int i27)] [] s28 := by
  intro n
  induction n with
  | zero => intro i26 i27 s28 h; obtain ⟨_, h0, _⟩ := h; exact absurd h0 (by simp [D_X10_leastLimit_w36])
  | succ n29 ih =>
    intro i26 i27 s28 h
    unfold D_X10_leastLimit_w36 at h
    refine T_iload dX10_leastLimit_36 4 rfl ?_
    refine T_iconst (4 : Int32) dX10_leastLimit_38 (by decide) ?_
    refine T_icmp_ge 71 dX10_leastLimit_39 (by decide) h (fun _ h => ?_) (fun _ h => ?_)
    · refine T_lv (lv' := [(0, .ref a23), (1, .int i24), (2, .int i26), (3, .int i25)]) [0, 1, 2, 3] rfl ?_
      exact hk71 i26 s28 h
    · refine T_aload_n dX10_leastLimit_42 rfl 0 rfl ?_
      refine T_getR dX10_leastLimit_43 fl_RX10_34 h (fun a30 h => ?_)
      refine T_iload dX10_leastLimit_46 4 rfl ?_
      refine T_iaload dX10_leastLimit_48 h (fun i31 h => ?_)
      refine T_iload_n dX10_leastLimit_49 rfl 2 rfl ?_
      refine T_icmp_le 63 dX10_leastLimit_50 (by decide) h (fun _ h => ?_) (fun _ h => ?_)
      · refine T_iload_n dX10_leastLimit_63 rfl 2 rfl ?_
        refine T_lv (lv' := [(0, .ref a23), (1, .int i24), (3, .int i25), (5, .int i27)]) [0, 1, 3, 4] rfl ?_
        exact K_X10_leastLimit_b64 ih h
      · refine T_aload_n dX10_leastLimit_53 rfl 0 rfl ?_
        refine T_getR dX10_leastLimit_54 fl_RX10_34 h (fun a41 h => ?_)
        refine T_iload dX10_leastLimit_57 4 rfl ?_
        refine T_iaload dX10_leastLimit_59 h (fun i42 h => ?_)
        refine T_goto 64 dX10_leastLimit_60 (by decide) ?_
        refine T_lv (lv' := [(0, .ref a23), (1, .int i24), (3, .int i25), (5, .int i27)]) [0, 1, 3, 4] rfl ?_
        exact K_X10_leastLimit_b64 ih h
set_option maxRecDepth 100000 in
set_option maxHeartbeats 4000000 in
theorem K_X10_leastLimit_w20 {l : Launch} {G : smG} {P : Option Value → Hp → Prop} {a15 : Nat} {i16 : Int32} {k77 : Int32 → Hp → Option (Int32 × Hp)} (hk77 : ∀ (i47 : Int32) (s48 : Hp), OK jI (k77 i47 s48) P → T l G RX10 cX10_leastLimit 6 (sm_rm 5 0 0) (sm_E (some .int) yX10_leastLimit.name) (sm_Qs G P 0 0) 0 0 77 [(0, .ref a15), (1, .int i16), (2, .int i47)] [] s48) : ∀ (n : Nat) (i17 : Int32) (i18 : Int32) (s19 : Hp), OK jI (D_X10_leastLimit_w20 a15 i16 k77 n i17 i18 s19) P → T l G RX10 cX10_leastLimit 6 (sm_rm 5 0 0) (sm_E (some .int) yX10_leastLimit.name) (sm_Qs G P 0 0) 0 0 20 [(0, .ref a15), (1, .int i16), (2, .int i17), (3, .int i18)] [] s19 := by
  intro n
  induction n with
  | zero => intro i17 i18 s19 h; obtain ⟨_, h0, _⟩ := h; exact absurd h0 (by simp [D_X10_leastLimit_w20])
  | succ n20 ih =>
    intro i17 i18 s19 h
    unfold D_X10_leastLimit_w20 at h
    refine T_iload_n dX10_leastLimit_20 rfl 3 rfl ?_
    refine T_bipush (11 : Int32) dX10_leastLimit_21 (by decide) ?_
    refine T_icmp_ge 77 dX10_leastLimit_23 (by decide) h (fun _ h => ?_) (fun _ h => ?_)
    · refine T_lv (lv' := [(0, .ref a15), (1, .int i16), (2, .int i17)]) [0, 1, 2] rfl ?_
      exact hk77 i17 s19 h
    · refine T_aload_n dX10_leastLimit_26 rfl 0 rfl ?_
      refine T_iload_n dX10_leastLimit_27 rfl 3 rfl ?_
      refine T_callVI (As := [.int i18]) (rest := []) (b := a15) (ci := 9) dX10_leastLimit_28 mc_X10_looks mi_X10_looks ml_RX10_86 rfl (fun _ hr => chk_of hr) rfl rfl (Nat.le_of_ble_eq_true rfl) ⟨⟨Nat.le_of_ble_eq_true rfl, Nat.le_of_ble_eq_true rfl⟩, ⟨Nat.le_of_ble_eq_true rfl, Nat.le_of_ble_eq_true rfl⟩⟩ K_X10_looks h (fun i21 s22 h => ?_)
      refine T_istore (lv' := [(4, .int i21), (0, .ref a15), (1, .int i16), (2, .int i17), (3, .int i18)]) dX10_leastLimit_31 (by decide) rfl ?_
      refine T_iconst (0 : Int32) dX10_leastLimit_33 (by decide) ?_
      refine T_istore (lv' := [(5, .int (0 : Int32)), (4, .int i21), (0, .ref a15), (1, .int i16), (2, .int i17), (3, .int i18)]) dX10_leastLimit_34 (by decide) rfl ?_
      refine T_lv (lv' := [(0, .ref a15), (1, .int i16), (2, .int i17), (3, .int i18), (5, .int (0 : Int32))]) [2, 3, 4, 5, 0] rfl ?_
      refine K_X10_leastLimit_w36 ?_ FU i17 (0 : Int32) s22 h
      intro i46 s45 h
      refine T_iinc (i18 + 1) (lv' := [(3, .int (i18 + 1)), (0, .ref a15), (1, .int i16), (2, .int i46)]) dX10_leastLimit_71 (j := 3) rfl rfl (by decide) rfl ?_
      refine T_goto 20 dX10_leastLimit_74 (by decide) ?_
      refine T_lv (lv' := [(0, .ref a15), (1, .int i16), (2, .int i46), (3, .int (i18 + 1))]) [1, 2, 3, 0] rfl ?_
      exact ih i46 (i18 + 1) s45 h
set_option maxRecDepth 100000 in
set_option maxHeartbeats 4000000 in
theorem K_X10_leastLimit {l : Launch} {a0 : Nat} {s0 : Hp} : ∀ P, OK jI (D_X10_leastLimit a0 s0) P → sm_Ct l yX10_leastLimit cX10_leastLimit 6 (some .int) 5 0 0 [.ref a0] s0 P := by
  intro P h
  unfold D_X10_leastLimit at h
  obtain ⟨_, hb0, h⟩ := h.bind
  refine sm_enter (own := RX10) (lv := [(0, .ref a0)]) (by decide) rfl (Nat.le_of_ble_eq_true rfl) rfl (fun G => ?_)
  refine T_aload_n dX10_leastLimit_0 rfl 0 rfl ?_
  refine T_getR dX10_leastLimit_1 fl_RX10_7 h (fun a11 h => ?_)
  refine T_iconst (0 : Int32) dX10_leastLimit_4 (by decide) ?_
  refine T_iaload dX10_leastLimit_5 h (fun i12 h => ?_)
  refine T_istore_n (lv' := [(1, .int i12), (0, .ref a0)]) dX10_leastLimit_6 rfl (by decide) rfl ?_
  refine T_iconst (1 : Int32) dX10_leastLimit_7 (by decide) ?_
  refine T_istore_n (lv' := [(2, .int (1 : Int32)), (1, .int i12), (0, .ref a0)]) dX10_leastLimit_8 rfl (by decide) rfl ?_
  refine T_aload_n dX10_leastLimit_9 rfl 2 rfl ?_
  refine T_getR dX10_leastLimit_10 fl_RX10_7 h (fun a13 h => ?_)
  refine T_iconst (0 : Int32) dX10_leastLimit_13 (by decide) ?_
  refine T_sipush (9999 : Int32) dX10_leastLimit_14 (by decide) ?_
  refine T_iastore dX10_leastLimit_17 h (fun s14 h => ?_)
  refine T_iconst (0 : Int32) dX10_leastLimit_18 (by decide) ?_
  refine T_istore_n (lv' := [(3, .int (0 : Int32)), (2, .int (1 : Int32)), (1, .int i12), (0, .ref a0)]) dX10_leastLimit_19 rfl (by decide) rfl ?_
  refine T_lv (lv' := [(0, .ref a0), (1, .int i12), (2, .int (1 : Int32)), (3, .int (0 : Int32))]) [3, 2, 1, 0] rfl ?_
  refine K_X10_leastLimit_w20 ?_ FU (1 : Int32) (0 : Int32) s14 h
  intro i50 s49 h
  refine T_aload_n dX10_leastLimit_77 rfl 0 rfl ?_
  refine T_getR dX10_leastLimit_78 fl_RX10_7 h (fun a51 h => ?_)
  refine T_iconst (0 : Int32) dX10_leastLimit_81 (by decide) ?_
  refine T_iload_n dX10_leastLimit_82 rfl 1 rfl ?_
  refine T_iastore dX10_leastLimit_83 h (fun s52 h => ?_)
  refine T_iload_n dX10_leastLimit_84 rfl 2 rfl ?_
  exact T_ireturn dX10_leastLimit_85 (Nat.le_of_ble_eq_true rfl) (Nat.le_of_ble_eq_true rfl) h

def D_X10_point_b63  (i22 : Int32) (i23 : Int32) (a24 : Nat) (s21 : Hp) : Option (Int32 × Hp) :=
  bd (D_X10_mirrorsOf a24 i23 i22 s21) fun i25 s26 =>
  some (i25, s26)
def D_X10_point_b51  (a17 : Nat) (i18 : Int32) (i19 : Int32) (s20 : Hp) : Option (Int32 × Hp) :=
  if i19 = (2 : Int32) then
  D_X10_point_b63 (1 : Int32) i18 a17 s20
  else
  D_X10_point_b63 (0 : Int32) i18 a17 s20
def D_X10_point (a0 : Nat) (i1 : Int32) (i2 : Int32) (i3 : Int32) (s0 : Hp) : Option (Int32 × Hp) :=
  (isO s0 a0 9).bind fun _ =>
  bd (D_X10_isIn (i1).toInt64 (0 : Int64) (3 : Int64) s0) fun i11 s12 =>
  if i11 = 0 then
  some ((-1 : Int32), s12)
  else
  bd (D_X10_isHour i2 s12) fun i13 s14 =>
  if i13 = 0 then
  some ((-1 : Int32), s14)
  else
  bd (D_X10_looks a0 i2 s14) fun i15 s16 =>
  if i3 = 0 then
  (getR s16 a0 9 9).bind fun a27 =>
  (ldI s16 a27 i1).bind fun i28 =>
  some (i28, s16)
  else
  if i3 = (1 : Int32) then
  D_X10_point_b51 a0 i1 i3 s16
  else
  if i3 = (2 : Int32) then
  D_X10_point_b51 a0 i1 i3 s16
  else
  some ((-2 : Int32), s16)
set_option maxRecDepth 100000 in
set_option maxHeartbeats 4000000 in
theorem K_X10_point_b63 {l : Launch} {G : smG} {P : Option Value → Hp → Prop}  {i22 : Int32} {i23 : Int32} {a24 : Nat} {s21 : Hp}  (h : OK jI (D_X10_point_b63 i22 i23 a24 s21) P) : T l G RX10 cX10_point 5 (sm_rm 5 0 0) (sm_E (some .int) yX10_point.name) (sm_Qs G P 0 0) 0 0 63 [] [.int i22, .int i23, .ref a24] s21 := by
  unfold D_X10_point_b63 at h
  refine T_callVI (As := [.int i23, .int i22]) (rest := []) (b := a24) (ci := 9) dX10_point_63 mc_X10_mirrorsOf mi_X10_mirrorsOf ml_RX10_155 rfl (fun _ hr => chk_of hr) rfl rfl (Nat.le_of_ble_eq_true rfl) ⟨⟨Nat.le_of_ble_eq_true rfl, Nat.le_of_ble_eq_true rfl⟩, ⟨Nat.le_of_ble_eq_true rfl, Nat.le_of_ble_eq_true rfl⟩⟩ K_X10_mirrorsOf h (fun i25 s26 h => ?_)
  refine T_goto 71 dX10_point_66 (by decide) ?_
  exact T_ireturn dX10_point_71 (Nat.le_of_ble_eq_true rfl) (Nat.le_of_ble_eq_true rfl) h
set_option maxRecDepth 100000 in
set_option maxHeartbeats 4000000 in
theorem K_X10_point_b51 {l : Launch} {G : smG} {P : Option Value → Hp → Prop}  {a17 : Nat} {i18 : Int32} {i19 : Int32} {s20 : Hp}  (h : OK jI (D_X10_point_b51 a17 i18 i19 s20) P) : T l G RX10 cX10_point 5 (sm_rm 5 0 0) (sm_E (some .int) yX10_point.name) (sm_Qs G P 0 0) 0 0 51 [(0, .ref a17), (1, .int i18), (3, .int i19)] [] s20 := by
  unfold D_X10_point_b51 at h
  refine T_aload_n dX10_point_51 rfl 0 rfl ?_
  refine T_iload_n dX10_point_52 rfl 1 rfl ?_
  refine T_iload_n dX10_point_53 rfl 2 rfl ?_
  refine T_iconst (2 : Int32) dX10_point_54 (by decide) ?_
  refine T_icmp_ne 62 dX10_point_55 (by decide) h (fun _ h => ?_) (fun _ h => ?_)
  · refine T_iconst (0 : Int32) dX10_point_62 (by decide) ?_
    refine T_lv (lv' := []) [] rfl ?_
    exact K_X10_point_b63 h
  · refine T_iconst (1 : Int32) dX10_point_58 (by decide) ?_
    refine T_goto 63 dX10_point_59 (by decide) ?_
    refine T_lv (lv' := []) [] rfl ?_
    exact K_X10_point_b63 h
set_option maxRecDepth 100000 in
set_option maxHeartbeats 4000000 in
theorem K_X10_point {l : Launch} {a0 : Nat} {i1 : Int32} {i2 : Int32} {i3 : Int32} {s0 : Hp} : ∀ P, OK jI (D_X10_point a0 i1 i2 i3 s0) P → sm_Ct l yX10_point cX10_point 5 (some .int) 5 0 0 [.ref a0, .int i1, .int i2, .int i3] s0 P := by
  intro P h
  unfold D_X10_point at h
  obtain ⟨_, hb0, h⟩ := h.bind
  refine sm_enter (own := RX10) (lv := [(0, .ref a0), (1, .int i1), (2, .int i2), (3, .int i3)]) (by decide) rfl (Nat.le_of_ble_eq_true rfl) rfl (fun G => ?_)
  refine T_iload_n dX10_point_0 rfl 1 rfl ?_
  refine T_i2l dX10_point_1 ?_
  refine T_lconst (0 : Int64) dX10_point_2 (by decide) ?_
  refine T_ldc2 (3 : Int64) dX10_point_3 wd_11_12 ?_
  refine T_callSI (As := [.long (i1).toInt64, .long (0 : Int64), .long (3 : Int64)]) (rest := []) dX10_point_6 mc_X10_isIn mi_X10_isIn ml_RX10_51 rfl rfl (Nat.le_of_ble_eq_true rfl) ⟨⟨Nat.le_of_ble_eq_true rfl, Nat.le_of_ble_eq_true rfl⟩, ⟨Nat.le_of_ble_eq_true rfl, Nat.le_of_ble_eq_true rfl⟩⟩ K_X10_isIn h (fun i11 s12 h => ?_)
  refine T_if_eq 19 dX10_point_9 (by decide) h (fun _ h => ?_) (fun _ h => ?_)
  · refine T_iconst (-1 : Int32) dX10_point_19 (by decide) ?_
    exact T_ireturn dX10_point_20 (Nat.le_of_ble_eq_true rfl) (Nat.le_of_ble_eq_true rfl) h
  · refine T_iload_n dX10_point_12 rfl 2 rfl ?_
    refine T_callSI (As := [.int i2]) (rest := []) dX10_point_13 mc_X10_isHour mi_X10_isHour ml_RX10_152 rfl rfl (Nat.le_of_ble_eq_true rfl) ⟨⟨Nat.le_of_ble_eq_true rfl, Nat.le_of_ble_eq_true rfl⟩, ⟨Nat.le_of_ble_eq_true rfl, Nat.le_of_ble_eq_true rfl⟩⟩ K_X10_isHour h (fun i13 s14 h => ?_)
    refine T_if_ne 21 dX10_point_16 (by decide) h (fun _ h => ?_) (fun _ h => ?_)
    · refine T_aload_n dX10_point_21 rfl 0 rfl ?_
      refine T_iload_n dX10_point_22 rfl 2 rfl ?_
      refine T_callVI (As := [.int i2]) (rest := []) (b := a0) (ci := 9) dX10_point_23 mc_X10_looks mi_X10_looks ml_RX10_86 rfl (fun _ hr => chk_of hr) rfl rfl (Nat.le_of_ble_eq_true rfl) ⟨⟨Nat.le_of_ble_eq_true rfl, Nat.le_of_ble_eq_true rfl⟩, ⟨Nat.le_of_ble_eq_true rfl, Nat.le_of_ble_eq_true rfl⟩⟩ K_X10_looks h (fun i15 s16 h => ?_)
      refine T_istore (lv' := [(4, .int i15), (0, .ref a0), (1, .int i1), (2, .int i2), (3, .int i3)]) dX10_point_26 (by decide) rfl ?_
      refine T_iload_n dX10_point_28 rfl 4 rfl ?_
      refine T_if_ne 41 dX10_point_29 (by decide) h (fun _ h => ?_) (fun _ h => ?_)
      · refine T_iload_n dX10_point_41 rfl 4 rfl ?_
        refine T_iconst (1 : Int32) dX10_point_42 (by decide) ?_
        refine T_icmp_eq 51 dX10_point_43 (by decide) h (fun _ h => ?_) (fun _ h => ?_)
        · refine T_lv (lv' := [(0, .ref a0), (1, .int i1), (3, .int i3)]) [1, 2, 4] rfl ?_
          exact K_X10_point_b51 h
        · refine T_iload_n dX10_point_46 rfl 4 rfl ?_
          refine T_iconst (2 : Int32) dX10_point_47 (by decide) ?_
          refine T_icmp_ne 69 dX10_point_48 (by decide) h (fun _ h => ?_) (fun _ h => ?_)
          · refine T_bipush (-2 : Int32) dX10_point_69 (by decide) ?_
            exact T_ireturn dX10_point_71 (Nat.le_of_ble_eq_true rfl) (Nat.le_of_ble_eq_true rfl) h
          · refine T_lv (lv' := [(0, .ref a0), (1, .int i1), (3, .int i3)]) [1, 2, 4] rfl ?_
            exact K_X10_point_b51 h
      · refine T_aload_n dX10_point_32 rfl 1 rfl ?_
        refine T_getR dX10_point_33 fl_RX10_34 h (fun a27 h => ?_)
        refine T_iload_n dX10_point_36 rfl 2 rfl ?_
        refine T_iaload dX10_point_37 h (fun i28 h => ?_)
        refine T_goto 71 dX10_point_38 (by decide) ?_
        exact T_ireturn dX10_point_71 (Nat.le_of_ble_eq_true rfl) (Nat.le_of_ble_eq_true rfl) h
    · refine T_iconst (-1 : Int32) dX10_point_19 (by decide) ?_
      exact T_ireturn dX10_point_20 (Nat.le_of_ble_eq_true rfl) (Nat.le_of_ble_eq_true rfl) h

def D_X6_read_w20 (a15 : Nat) (k77 : Hp → Option (Int32 × Hp)) : Nat → Hp → Option (Int32 × Hp)
  | 0, _ => none
  | n17 + 1, s16 =>
  (getI s16 a15 6 7).bind fun i18 =>
  if i18 = 0 then
  (getI s16 a15 6 6).bind fun i19 =>
  (getR s16 a15 6 0).bind fun a20 =>
  bd (D_X5_length a20 s16) fun i21 s22 =>
  if i21 ≤ i19 then
  k77 s22
  else
  (getI s22 a15 6 5).bind fun i23 =>
  if (80 : Int32) ≤ i23 then
  k77 s22
  else
  (D_X6_expect a15 (59 : Int32) s22).bind fun s24 =>
  (getI s24 a15 6 5).bind fun i25 =>
  (D_X6_readOrder a15 i25 s24).bind fun s26 =>
  (getI s26 a15 6 5).bind fun i27 =>
  (putI s26 a15 6 5 (i27 + (1 : Int32))).bind fun s28 =>
  D_X6_read_w20 a15 k77 n17 s28
  else
  k77 s16
def D_X6_read_b77  (a31 : Nat) (s32 : Hp) : Option (Int32 × Hp) :=
  (getI s32 a31 6 7).bind fun i33 =>
  if i33 = 0 then
  some ((-6 : Int32), s32)
  else
  (getI s32 a31 6 6).bind fun i34 =>
  some (i34, s32)
def D_X6_read (a0 : Nat) (s0 : Hp) : Option (Int32 × Hp) :=
  (isO s0 a0 6).bind fun _ =>
  (putI s0 a0 6 6 (0 : Int32)).bind fun s11 =>
  (putZ s11 a0 6 7 (0 : Int32)).bind fun s12 =>
  (D_X6_readOrder a0 (0 : Int32) s12).bind fun s13 =>
  (putI s13 a0 6 5 (1 : Int32)).bind fun s14 =>
  D_X6_read_w20 a0 (fun s30 =>
  D_X6_read_b77 a0 s30
  ) FU s14
set_option maxRecDepth 100000 in
set_option maxHeartbeats 4000000 in
theorem K_X6_read_w20 {l : Launch} {G : smG} {P : Option Value → Hp → Prop} {a15 : Nat} {k77 : Hp → Option (Int32 × Hp)} (hk77 : ∀  (s29 : Hp), OK jI (k77 s29) P → T l G RX6 cX6_read 1 (sm_rm 5 0 0) (sm_E (some .int) yX6_read.name) (sm_Qs G P 0 0) 0 0 77 [(0, .ref a15)] [] s29) : ∀ (n : Nat)  (s16 : Hp), OK jI (D_X6_read_w20 a15 k77 n s16) P → T l G RX6 cX6_read 1 (sm_rm 5 0 0) (sm_E (some .int) yX6_read.name) (sm_Qs G P 0 0) 0 0 20 [(0, .ref a15)] [] s16 := by
  intro n
  induction n with
  | zero => intro  s16 h; obtain ⟨_, h0, _⟩ := h; exact absurd h0 (by simp [D_X6_read_w20])
  | succ n17 ih =>
    intro  s16 h
    unfold D_X6_read_w20 at h
    refine T_aload_n dX6_read_20 rfl 0 rfl ?_
    refine T_getI dX6_read_21 fl_RX6_36 h (fun i18 h => ?_)
    refine T_if_ne 77 dX6_read_24 (by decide) h (fun _ h => ?_) (fun _ h => ?_)
    · exact hk77 s16 h
    · refine T_aload_n dX6_read_27 rfl 0 rfl ?_
      refine T_getI dX6_read_28 fl_RX6_33 h (fun i19 h => ?_)
      refine T_aload_n dX6_read_31 rfl 0 rfl ?_
      refine T_getR dX6_read_32 fl_RX6_40 h (fun a20 h => ?_)
      refine T_callVI (As := []) (rest := [.int i19]) (b := a20) (ci := 5) dX6_read_35 mc_X5_length mi_X5_length ml_RX6_47 rfl (fun _ hr => chk_of hr) rfl rfl (Nat.le_of_ble_eq_true rfl) ⟨⟨Nat.le_of_ble_eq_true rfl, Nat.le_of_ble_eq_true rfl⟩, ⟨Nat.le_of_ble_eq_true rfl, Nat.le_of_ble_eq_true rfl⟩⟩ K_X5_length h (fun i21 s22 h => ?_)
      refine T_icmp_ge 77 dX6_read_38 (by decide) h (fun _ h => ?_) (fun _ h => ?_)
      · exact hk77 s22 h
      · refine T_aload_n dX6_read_41 rfl 0 rfl ?_
        refine T_getI dX6_read_42 fl_RX6_29 h (fun i23 h => ?_)
        refine T_bipush (80 : Int32) dX6_read_45 (by decide) ?_
        refine T_icmp_ge 77 dX6_read_47 (by decide) h (fun _ h => ?_) (fun _ h => ?_)
        · exact hk77 s22 h
        · refine T_aload_n dX6_read_50 rfl 0 rfl ?_
          refine T_bipush (59 : Int32) dX6_read_51 (by decide) ?_
          refine T_callVV (As := [.int (59 : Int32)]) (rest := []) (b := a15) (ci := 6) dX6_read_53 mc_X6_expect mi_X6_expect ml_RX6_53 rfl (fun _ hr => chk_of hr) rfl rfl (Nat.le_of_ble_eq_true rfl) ⟨⟨Nat.le_of_ble_eq_true rfl, Nat.le_of_ble_eq_true rfl⟩, ⟨Nat.le_of_ble_eq_true rfl, Nat.le_of_ble_eq_true rfl⟩⟩ K_X6_expect h (fun s24 h => ?_)
          refine T_aload_n dX6_read_56 rfl 0 rfl ?_
          refine T_aload_n dX6_read_57 rfl 0 rfl ?_
          refine T_getI dX6_read_58 fl_RX6_29 h (fun i25 h => ?_)
          refine T_callVV (As := [.int i25]) (rest := []) (b := a15) (ci := 6) dX6_read_61 mc_X6_readOrder mi_X6_readOrder ml_RX6_44 rfl (fun _ hr => chk_of hr) rfl rfl (Nat.le_of_ble_eq_true rfl) ⟨⟨Nat.le_of_ble_eq_true rfl, Nat.le_of_ble_eq_true rfl⟩, ⟨Nat.le_of_ble_eq_true rfl, Nat.le_of_ble_eq_true rfl⟩⟩ K_X6_readOrder h (fun s26 h => ?_)
          refine T_aload_n dX6_read_64 rfl 0 rfl ?_
          refine T_dup dX6_read_65 rfl ?_
          refine T_getI dX6_read_66 fl_RX6_29 h (fun i27 h => ?_)
          refine T_iconst (1 : Int32) dX6_read_69 (by decide) ?_
          refine T_iadd dX6_read_70 ?_
          refine T_putI dX6_read_71 fl_RX6_29 ft_6_5 h (fun s28 h => ?_)
          refine T_goto 20 dX6_read_74 (by decide) ?_
          exact ih s28 h
set_option maxRecDepth 100000 in
set_option maxHeartbeats 4000000 in
theorem K_X6_read_b77 {l : Launch} {G : smG} {P : Option Value → Hp → Prop}  {a31 : Nat} {s32 : Hp}  (h : OK jI (D_X6_read_b77 a31 s32) P) : T l G RX6 cX6_read 1 (sm_rm 5 0 0) (sm_E (some .int) yX6_read.name) (sm_Qs G P 0 0) 0 0 77 [(0, .ref a31)] [] s32 := by
  unfold D_X6_read_b77 at h
  refine T_aload_n dX6_read_77 rfl 0 rfl ?_
  refine T_getI dX6_read_78 fl_RX6_36 h (fun i33 h => ?_)
  refine T_if_eq 91 dX6_read_81 (by decide) h (fun _ h => ?_) (fun _ h => ?_)
  · refine T_bipush (-6 : Int32) dX6_read_91 (by decide) ?_
    exact T_ireturn dX6_read_93 (Nat.le_of_ble_eq_true rfl) (Nat.le_of_ble_eq_true rfl) h
  · refine T_aload_n dX6_read_84 rfl 0 rfl ?_
    refine T_getI dX6_read_85 fl_RX6_33 h (fun i34 h => ?_)
    refine T_goto 93 dX6_read_88 (by decide) ?_
    exact T_ireturn dX6_read_93 (Nat.le_of_ble_eq_true rfl) (Nat.le_of_ble_eq_true rfl) h
set_option maxRecDepth 100000 in
set_option maxHeartbeats 4000000 in
theorem K_X6_read {l : Launch} {a0 : Nat} {s0 : Hp} : ∀ P, OK jI (D_X6_read a0 s0) P → sm_Ct l yX6_read cX6_read 1 (some .int) 5 0 0 [.ref a0] s0 P := by
  intro P h
  unfold D_X6_read at h
  obtain ⟨_, hb0, h⟩ := h.bind
  refine sm_enter (own := RX6) (lv := [(0, .ref a0)]) (by decide) rfl (Nat.le_of_ble_eq_true rfl) rfl (fun G => ?_)
  refine T_aload_n dX6_read_0 rfl 0 rfl ?_
  refine T_iconst (0 : Int32) dX6_read_1 (by decide) ?_
  refine T_putI dX6_read_2 fl_RX6_33 ft_6_6 h (fun s11 h => ?_)
  refine T_aload_n dX6_read_5 rfl 0 rfl ?_
  refine T_iconst (0 : Int32) dX6_read_6 (by decide) ?_
  refine T_putZ dX6_read_7 fl_RX6_36 ft_6_7 h (fun s12 h => ?_)
  refine T_aload_n dX6_read_10 rfl 0 rfl ?_
  refine T_iconst (0 : Int32) dX6_read_11 (by decide) ?_
  refine T_callVV (As := [.int (0 : Int32)]) (rest := []) (b := a0) (ci := 6) dX6_read_12 mc_X6_readOrder mi_X6_readOrder ml_RX6_44 rfl (fun _ hr => chk_of hr) rfl rfl (Nat.le_of_ble_eq_true rfl) ⟨⟨Nat.le_of_ble_eq_true rfl, Nat.le_of_ble_eq_true rfl⟩, ⟨Nat.le_of_ble_eq_true rfl, Nat.le_of_ble_eq_true rfl⟩⟩ K_X6_readOrder h (fun s13 h => ?_)
  refine T_aload_n dX6_read_15 rfl 0 rfl ?_
  refine T_iconst (1 : Int32) dX6_read_16 (by decide) ?_
  refine T_putI dX6_read_17 fl_RX6_29 ft_6_5 h (fun s14 h => ?_)
  refine K_X6_read_w20 ?_ FU s14 h
  intro s30 h
  exact K_X6_read_b77 h

def D_X9_aim (a0 : Nat) (i1 : Int32) (i2 : Int32) (s0 : Hp) : Option (Int32 × Hp) :=
  (isO s0 a0 8).bind fun _ =>
  (getR s0 a0 8 5).bind fun a11 =>
  (getR s0 a0 8 0).bind fun a12 =>
  (D_X3_note a11 a12 s0).bind fun s13 =>
  (getR s13 a0 8 0).bind fun a14 =>
  bd (D_X2_turn a14 i1 i2 s13) fun i15 s16 =>
  bd (D_X9_recorded a0 i15 s16) fun i17 s18 =>
  some (i17, s18)
set_option maxRecDepth 100000 in
set_option maxHeartbeats 4000000 in
theorem K_X9_aim {l : Launch} {a0 : Nat} {i1 : Int32} {i2 : Int32} {s0 : Hp} : ∀ P, OK jI (D_X9_aim a0 i1 i2 s0) P → sm_Ct l yX9_aim cX9_aim 3 (some .int) 5 0 0 [.ref a0, .int i1, .int i2] s0 P := by
  intro P h
  unfold D_X9_aim at h
  obtain ⟨_, hb0, h⟩ := h.bind
  refine sm_enter (own := RX9) (lv := [(0, .ref a0), (1, .int i1), (2, .int i2)]) (by decide) rfl (Nat.le_of_ble_eq_true rfl) rfl (fun G => ?_)
  refine T_aload_n dX9_aim_0 rfl 0 rfl ?_
  refine T_getR dX9_aim_1 fl_RX9_51 h (fun a11 h => ?_)
  refine T_aload_n dX9_aim_4 rfl 0 rfl ?_
  refine T_getR dX9_aim_5 fl_RX9_12 h (fun a12 h => ?_)
  refine T_callVV (As := [.ref a12]) (rest := []) (b := a11) (ci := 3) dX9_aim_8 mc_X3_note mi_X3_note ml_RX9_68 rfl (fun _ hr => chk_of hr) rfl rfl (Nat.le_of_ble_eq_true rfl) ⟨⟨Nat.le_of_ble_eq_true rfl, Nat.le_of_ble_eq_true rfl⟩, ⟨Nat.le_of_ble_eq_true rfl, Nat.le_of_ble_eq_true rfl⟩⟩ K_X3_note h (fun s13 h => ?_)
  refine T_aload_n dX9_aim_11 rfl 0 rfl ?_
  refine T_aload_n dX9_aim_12 rfl 0 rfl ?_
  refine T_getR dX9_aim_13 fl_RX9_12 h (fun a14 h => ?_)
  refine T_iload_n dX9_aim_16 rfl 1 rfl ?_
  refine T_iload_n dX9_aim_17 rfl 2 rfl ?_
  refine T_callVI (As := [.int i1, .int i2]) (rest := [.ref a0]) (b := a14) (ci := 2) dX9_aim_18 mc_X2_turn mi_X2_turn ml_RX9_86 rfl (fun _ hr => chk_of hr) rfl rfl (Nat.le_of_ble_eq_true rfl) ⟨⟨Nat.le_of_ble_eq_true rfl, Nat.le_of_ble_eq_true rfl⟩, ⟨Nat.le_of_ble_eq_true rfl, Nat.le_of_ble_eq_true rfl⟩⟩ K_X2_turn h (fun i15 s16 h => ?_)
  refine T_callVI (As := [.int i15]) (rest := []) (b := a0) (ci := 8) dX9_aim_21 mc_X9_recorded mi_X9_recorded ml_RX9_75 rfl (fun _ hr => chk_of hr) rfl rfl (Nat.le_of_ble_eq_true rfl) ⟨⟨Nat.le_of_ble_eq_true rfl, Nat.le_of_ble_eq_true rfl⟩, ⟨Nat.le_of_ble_eq_true rfl, Nat.le_of_ble_eq_true rfl⟩⟩ K_X9_recorded h (fun i17 s18 h => ?_)
  exact T_ireturn dX9_aim_24 (Nat.le_of_ble_eq_true rfl) (Nat.le_of_ble_eq_true rfl) h

def D_X9_carry (a0 : Nat) (i1 : Int32) (s0 : Hp) : Option (Int32 × Hp) :=
  (isO s0 a0 8).bind fun _ =>
  (getR s0 a0 8 4).bind fun a11 =>
  bd (D_X6_first a11 i1 s0) fun i12 s13 =>
  (getR s13 a0 8 4).bind fun a14 =>
  bd (D_X6_second a14 i1 s13) fun i15 s16 =>
  (getR s16 a0 8 4).bind fun a17 =>
  bd (D_X6_kind a17 i1 s16) fun i18 s19 =>
  if i18 = (43 : Int32) then
  (getR s19 a0 8 0).bind fun a20 =>
  (getR s19 a0 8 4).bind fun a21 =>
  bd (D_X6_third a21 i1 s19) fun i22 s23 =>
  bd (D_X2_place a20 i12 i15 i22 s23) fun i24 s25 =>
  some (i24, s25)
  else
  if i18 = (97 : Int32) then
  (getR s19 a0 8 0).bind fun a26 =>
  bd (D_X2_turn a26 i12 i15 s19) fun i27 s28 =>
  some (i27, s28)
  else
  if i18 = (116 : Int32) then
  (getR s19 a0 8 1).bind fun a29 =>
  bd (D_X4_spend a29 i12 s19) fun i30 s31 =>
  some (i30, s31)
  else
  if i18 = (118 : Int32) then
  (getR s19 a0 8 0).bind fun a32 =>
  bd (D_X2_blow a32 i12 s19) fun i33 s34 =>
  some (i33, s34)
  else
  if i18 = (119 : Int32) then
  (getR s19 a0 8 0).bind fun a35 =>
  bd (D_X2_clean a35 i12 s19) fun i36 s37 =>
  some (i36, s37)
  else
  if i18 = (120 : Int32) then
  (getR s19 a0 8 0).bind fun a38 =>
  bd (D_X2_remove a38 i12 s19) fun i39 s40 =>
  some (i39, s40)
  else
  some ((-3 : Int32), s19)
set_option maxRecDepth 100000 in
set_option maxHeartbeats 4000000 in
theorem K_X9_carry {l : Launch} {a0 : Nat} {i1 : Int32} {s0 : Hp} : ∀ P, OK jI (D_X9_carry a0 i1 s0) P → sm_Ct l yX9_carry cX9_carry 4 (some .int) 5 0 0 [.ref a0, .int i1] s0 P := by
  intro P h
  unfold D_X9_carry at h
  obtain ⟨_, hb0, h⟩ := h.bind
  refine sm_enter (own := RX9) (lv := [(0, .ref a0), (1, .int i1)]) (by decide) rfl (Nat.le_of_ble_eq_true rfl) rfl (fun G => ?_)
  refine T_aload_n dX9_carry_0 rfl 0 rfl ?_
  refine T_getR dX9_carry_1 fl_RX9_44 h (fun a11 h => ?_)
  refine T_iload_n dX9_carry_4 rfl 1 rfl ?_
  refine T_callVI (As := [.int i1]) (rest := []) (b := a11) (ci := 6) dX9_carry_5 mc_X6_first mi_X6_first ml_RX9_247 rfl (fun _ hr => chk_of hr) rfl rfl (Nat.le_of_ble_eq_true rfl) ⟨⟨Nat.le_of_ble_eq_true rfl, Nat.le_of_ble_eq_true rfl⟩, ⟨Nat.le_of_ble_eq_true rfl, Nat.le_of_ble_eq_true rfl⟩⟩ K_X6_first h (fun i12 s13 h => ?_)
  refine T_istore_n (lv' := [(2, .int i12), (0, .ref a0), (1, .int i1)]) dX9_carry_8 rfl (by decide) rfl ?_
  refine T_aload_n dX9_carry_9 rfl 1 rfl ?_
  refine T_getR dX9_carry_10 fl_RX9_44 h (fun a14 h => ?_)
  refine T_iload_n dX9_carry_13 rfl 2 rfl ?_
  refine T_callVI (As := [.int i1]) (rest := []) (b := a14) (ci := 6) dX9_carry_14 mc_X6_second mi_X6_second ml_RX9_250 rfl (fun _ hr => chk_of hr) rfl rfl (Nat.le_of_ble_eq_true rfl) ⟨⟨Nat.le_of_ble_eq_true rfl, Nat.le_of_ble_eq_true rfl⟩, ⟨Nat.le_of_ble_eq_true rfl, Nat.le_of_ble_eq_true rfl⟩⟩ K_X6_second h (fun i15 s16 h => ?_)
  refine T_istore_n (lv' := [(3, .int i15), (2, .int i12), (0, .ref a0), (1, .int i1)]) dX9_carry_17 rfl (by decide) rfl ?_
  refine T_aload_n dX9_carry_18 rfl 2 rfl ?_
  refine T_getR dX9_carry_19 fl_RX9_44 h (fun a17 h => ?_)
  refine T_iload_n dX9_carry_22 rfl 3 rfl ?_
  refine T_callVI (As := [.int i1]) (rest := []) (b := a17) (ci := 6) dX9_carry_23 mc_X6_kind mi_X6_kind ml_RX9_253 rfl (fun _ hr => chk_of hr) rfl rfl (Nat.le_of_ble_eq_true rfl) ⟨⟨Nat.le_of_ble_eq_true rfl, Nat.le_of_ble_eq_true rfl⟩, ⟨Nat.le_of_ble_eq_true rfl, Nat.le_of_ble_eq_true rfl⟩⟩ K_X6_kind h (fun i18 s19 h => ?_)
  refine T_ite h (fun c0 h => ?_) (fun c0 h => ?_)
  · refine T_lookup 84 dX9_carry_26 (by decide) (by rw [c0]) (by decide) ?_
    refine T_aload_n dX9_carry_84 rfl 2 rfl ?_
    refine T_getR dX9_carry_85 fl_RX9_12 h (fun a20 h => ?_)
    refine T_iload_n dX9_carry_88 rfl 1 rfl ?_
    refine T_iload_n dX9_carry_89 rfl 0 rfl ?_
    refine T_aload_n dX9_carry_90 rfl 2 rfl ?_
    refine T_getR dX9_carry_91 fl_RX9_44 h (fun a21 h => ?_)
    refine T_iload_n dX9_carry_94 rfl 3 rfl ?_
    refine T_callVI (As := [.int i1]) (rest := [.int i15, .int i12, .ref a20]) (b := a21) (ci := 6) dX9_carry_95 mc_X6_third mi_X6_third ml_RX9_256 rfl (fun _ hr => chk_of hr) rfl rfl (Nat.le_of_ble_eq_true rfl) ⟨⟨Nat.le_of_ble_eq_true rfl, Nat.le_of_ble_eq_true rfl⟩, ⟨Nat.le_of_ble_eq_true rfl, Nat.le_of_ble_eq_true rfl⟩⟩ K_X6_third h (fun i22 s23 h => ?_)
    refine T_callVI (As := [.int i12, .int i15, .int i22]) (rest := []) (b := a20) (ci := 2) dX9_carry_98 mc_X2_place mi_X2_place ml_RX9_79 rfl (fun _ hr => chk_of hr) rfl rfl (Nat.le_of_ble_eq_true rfl) ⟨⟨Nat.le_of_ble_eq_true rfl, Nat.le_of_ble_eq_true rfl⟩, ⟨Nat.le_of_ble_eq_true rfl, Nat.le_of_ble_eq_true rfl⟩⟩ K_X2_place h (fun i24 s25 h => ?_)
    exact T_ireturn dX9_carry_101 (Nat.le_of_ble_eq_true rfl) (Nat.le_of_ble_eq_true rfl) h
  refine T_ite h (fun c1 h => ?_) (fun c1 h => ?_)
  · refine T_lookup 111 dX9_carry_26 (by decide) (by rw [c1]) (by decide) ?_
    refine T_aload_n dX9_carry_111 rfl 2 rfl ?_
    refine T_getR dX9_carry_112 fl_RX9_12 h (fun a26 h => ?_)
    refine T_iload_n dX9_carry_115 rfl 1 rfl ?_
    refine T_iload_n dX9_carry_116 rfl 0 rfl ?_
    refine T_callVI (As := [.int i12, .int i15]) (rest := []) (b := a26) (ci := 2) dX9_carry_117 mc_X2_turn mi_X2_turn ml_RX9_86 rfl (fun _ hr => chk_of hr) rfl rfl (Nat.le_of_ble_eq_true rfl) ⟨⟨Nat.le_of_ble_eq_true rfl, Nat.le_of_ble_eq_true rfl⟩, ⟨Nat.le_of_ble_eq_true rfl, Nat.le_of_ble_eq_true rfl⟩⟩ K_X2_turn h (fun i27 s28 h => ?_)
    exact T_ireturn dX9_carry_120 (Nat.le_of_ble_eq_true rfl) (Nat.le_of_ble_eq_true rfl) h
  refine T_ite h (fun c2 h => ?_) (fun c2 h => ?_)
  · refine T_lookup 139 dX9_carry_26 (by decide) (by rw [c2]) (by decide) ?_
    refine T_aload_n dX9_carry_139 rfl 2 rfl ?_
    refine T_getR dX9_carry_140 fl_RX9_21 h (fun a29 h => ?_)
    refine T_iload_n dX9_carry_143 rfl 1 rfl ?_
    refine T_callVI (As := [.int i12]) (rest := []) (b := a29) (ci := 4) dX9_carry_144 mc_X4_spend mi_X4_spend ml_RX9_95 rfl (fun _ hr => chk_of hr) rfl rfl (Nat.le_of_ble_eq_true rfl) ⟨⟨Nat.le_of_ble_eq_true rfl, Nat.le_of_ble_eq_true rfl⟩, ⟨Nat.le_of_ble_eq_true rfl, Nat.le_of_ble_eq_true rfl⟩⟩ K_X4_spend h (fun i30 s31 h => ?_)
    exact T_ireturn dX9_carry_147 (Nat.le_of_ble_eq_true rfl) (Nat.le_of_ble_eq_true rfl) h
  refine T_ite h (fun c3 h => ?_) (fun c3 h => ?_)
  · refine T_lookup 130 dX9_carry_26 (by decide) (by rw [c3]) (by decide) ?_
    refine T_aload_n dX9_carry_130 rfl 2 rfl ?_
    refine T_getR dX9_carry_131 fl_RX9_12 h (fun a32 h => ?_)
    refine T_iload_n dX9_carry_134 rfl 1 rfl ?_
    refine T_callVI (As := [.int i12]) (rest := []) (b := a32) (ci := 2) dX9_carry_135 mc_X2_blow mi_X2_blow ml_RX9_92 rfl (fun _ hr => chk_of hr) rfl rfl (Nat.le_of_ble_eq_true rfl) ⟨⟨Nat.le_of_ble_eq_true rfl, Nat.le_of_ble_eq_true rfl⟩, ⟨Nat.le_of_ble_eq_true rfl, Nat.le_of_ble_eq_true rfl⟩⟩ K_X2_blow h (fun i33 s34 h => ?_)
    exact T_ireturn dX9_carry_138 (Nat.le_of_ble_eq_true rfl) (Nat.le_of_ble_eq_true rfl) h
  refine T_ite h (fun c4 h => ?_) (fun c4 h => ?_)
  · refine T_lookup 121 dX9_carry_26 (by decide) (by rw [c4]) (by decide) ?_
    refine T_aload_n dX9_carry_121 rfl 2 rfl ?_
    refine T_getR dX9_carry_122 fl_RX9_12 h (fun a35 h => ?_)
    refine T_iload_n dX9_carry_125 rfl 1 rfl ?_
    refine T_callVI (As := [.int i12]) (rest := []) (b := a35) (ci := 2) dX9_carry_126 mc_X2_clean mi_X2_clean ml_RX9_89 rfl (fun _ hr => chk_of hr) rfl rfl (Nat.le_of_ble_eq_true rfl) ⟨⟨Nat.le_of_ble_eq_true rfl, Nat.le_of_ble_eq_true rfl⟩, ⟨Nat.le_of_ble_eq_true rfl, Nat.le_of_ble_eq_true rfl⟩⟩ K_X2_clean h (fun i36 s37 h => ?_)
    exact T_ireturn dX9_carry_129 (Nat.le_of_ble_eq_true rfl) (Nat.le_of_ble_eq_true rfl) h
  refine T_ite h (fun c5 h => ?_) (fun c5 h => ?_)
  · refine T_lookup 102 dX9_carry_26 (by decide) (by rw [c5]) (by decide) ?_
    refine T_aload_n dX9_carry_102 rfl 2 rfl ?_
    refine T_getR dX9_carry_103 fl_RX9_12 h (fun a38 h => ?_)
    refine T_iload_n dX9_carry_106 rfl 1 rfl ?_
    refine T_callVI (As := [.int i12]) (rest := []) (b := a38) (ci := 2) dX9_carry_107 mc_X2_remove mi_X2_remove ml_RX9_83 rfl (fun _ hr => chk_of hr) rfl rfl (Nat.le_of_ble_eq_true rfl) ⟨⟨Nat.le_of_ble_eq_true rfl, Nat.le_of_ble_eq_true rfl⟩, ⟨Nat.le_of_ble_eq_true rfl, Nat.le_of_ble_eq_true rfl⟩⟩ K_X2_remove h (fun i39 s40 h => ?_)
    exact T_ireturn dX9_carry_110 (Nat.le_of_ble_eq_true rfl) (Nat.le_of_ble_eq_true rfl) h
  refine T_lookup (off := 122) 148 dX9_carry_26 (by decide) (by show Op.lookupswitch.offset [(43, 58), (97, 85), (116, 113), (118, 104), (119, 95), (120, 76)] 122 _ = _; rw [lv_osw (a := 43) c0 rfl, lv_osw (a := 97) c1 rfl, lv_osw (a := 116) c2 rfl, lv_osw (a := 118) c3 rfl, lv_osw (a := 119) c4 rfl, lv_osw (a := 120) c5 rfl]; rfl) (by decide) ?_
  refine T_bipush (-3 : Int32) dX9_carry_148 (by decide) ?_
  exact T_ireturn dX9_carry_150 (Nat.le_of_ble_eq_true rfl) (Nat.le_of_ble_eq_true rfl) h

def D_X9_count (a0 : Nat) (i1 : Int32) (s0 : Hp) : Option (Int32 × Hp) :=
  (isO s0 a0 8).bind fun _ =>
  if i1 = (0 : Int32) then
  (getR s0 a0 8 0).bind fun a11 =>
  (getI s0 a11 2 8).bind fun i12 =>
  some (i12, s0)
  else
  if i1 = (1 : Int32) then
  (getR s0 a0 8 0).bind fun a13 =>
  (getI s0 a13 2 6).bind fun i14 =>
  some (i14, s0)
  else
  if i1 = (2 : Int32) then
  (getR s0 a0 8 0).bind fun a15 =>
  (getI s0 a15 2 7).bind fun i16 =>
  some (i16, s0)
  else
  if i1 = (3 : Int32) then
  (getR s0 a0 8 0).bind fun a17 =>
  bd (D_X2_liesFlat a17 s0) fun i18 s19 =>
  if i18 = 0 then
  some ((0 : Int32), s19)
  else
  some ((1 : Int32), s19)
  else
  if i1 = (4 : Int32) then
  (getR s0 a0 8 0).bind fun a20 =>
  (getI s0 a20 2 9).bind fun i21 =>
  some (i21, s0)
  else
  if i1 = (5 : Int32) then
  (getR s0 a0 8 1).bind fun a22 =>
  (D_X4_look a22 s0).bind fun s23 =>
  (getR s23 a0 8 1).bind fun a24 =>
  bd (D_X4_day a24 s23) fun i25 s26 =>
  some (i25, s26)
  else
  if i1 = (6 : Int32) then
  (getR s0 a0 8 1).bind fun a27 =>
  (D_X4_look a27 s0).bind fun s28 =>
  (getR s28 a0 8 1).bind fun a29 =>
  bd (D_X4_blocked a29 s28) fun i30 s31 =>
  some (i30, s31)
  else
  if i1 = (7 : Int32) then
  (getR s0 a0 8 0).bind fun a32 =>
  bd (D_X2_allDust a32 s0) fun i33 s34 =>
  some (i33, s34)
  else
  if i1 = (8 : Int32) then
  (getR s0 a0 8 0).bind fun a35 =>
  (getR s0 a35 2 0).bind fun a36 =>
  bd (D_X1_read a36 (0 : Int32) s0) fun i37 s38 =>
  some (i37, s38)
  else
  if i1 = (9 : Int32) then
  (getR s0 a0 8 0).bind fun a39 =>
  (getR s0 a39 2 0).bind fun a40 =>
  bd (D_X1_read a40 (1 : Int32) s0) fun i41 s42 =>
  some (i41, s42)
  else
  if i1 = (10 : Int32) then
  (getR s0 a0 8 0).bind fun a43 =>
  (getR s0 a43 2 0).bind fun a44 =>
  bd (D_X1_read a44 (2 : Int32) s0) fun i45 s46 =>
  some (i45, s46)
  else
  if i1 = (11 : Int32) then
  (getR s0 a0 8 3).bind fun a47 =>
  bd (D_X5_length a47 s0) fun i48 s49 =>
  some (i48, s49)
  else
  if i1 = (12 : Int32) then
  (getR s0 a0 8 5).bind fun a50 =>
  bd (D_X3_size a50 s0) fun i51 s52 =>
  some (i51, s52)
  else
  some ((-2 : Int32), s0)
set_option maxRecDepth 100000 in
set_option maxHeartbeats 4000000 in
theorem K_X9_count {l : Launch} {a0 : Nat} {i1 : Int32} {s0 : Hp} : ∀ P, OK jI (D_X9_count a0 i1 s0) P → sm_Ct l yX9_count cX9_count 2 (some .int) 5 0 0 [.ref a0, .int i1] s0 P := by
  intro P h
  unfold D_X9_count at h
  obtain ⟨_, hb0, h⟩ := h.bind
  refine sm_enter (own := RX9) (lv := [(0, .ref a0), (1, .int i1)]) (by decide) rfl (Nat.le_of_ble_eq_true rfl) rfl (fun G => ?_)
  refine T_iload_n dX9_count_0 rfl 1 rfl ?_
  refine T_ite h (fun c0 h => ?_) (fun c0 h => ?_)
  · refine T_tableIn 68 dX9_count_1 (by rw [c0]; decide) (by rw [c0]; decide) (by rw [c0]; rfl) (by decide) ?_
    refine T_aload_n dX9_count_68 rfl 0 rfl ?_
    refine T_getR dX9_count_69 fl_RX9_12 h (fun a11 h => ?_)
    refine T_getI dX9_count_72 fl_RX9_159 h (fun i12 h => ?_)
    exact T_ireturn dX9_count_75 (Nat.le_of_ble_eq_true rfl) (Nat.le_of_ble_eq_true rfl) h
  refine T_ite h (fun c1 h => ?_) (fun c1 h => ?_)
  · refine T_tableIn 76 dX9_count_1 (by rw [c1]; decide) (by rw [c1]; decide) (by rw [c1]; rfl) (by decide) ?_
    refine T_aload_n dX9_count_76 rfl 0 rfl ?_
    refine T_getR dX9_count_77 fl_RX9_12 h (fun a13 h => ?_)
    refine T_getI dX9_count_80 fl_RX9_162 h (fun i14 h => ?_)
    exact T_ireturn dX9_count_83 (Nat.le_of_ble_eq_true rfl) (Nat.le_of_ble_eq_true rfl) h
  refine T_ite h (fun c2 h => ?_) (fun c2 h => ?_)
  · refine T_tableIn 84 dX9_count_1 (by rw [c2]; decide) (by rw [c2]; decide) (by rw [c2]; rfl) (by decide) ?_
    refine T_aload_n dX9_count_84 rfl 0 rfl ?_
    refine T_getR dX9_count_85 fl_RX9_12 h (fun a15 h => ?_)
    refine T_getI dX9_count_88 fl_RX9_165 h (fun i16 h => ?_)
    exact T_ireturn dX9_count_91 (Nat.le_of_ble_eq_true rfl) (Nat.le_of_ble_eq_true rfl) h
  refine T_ite h (fun c3 h => ?_) (fun c3 h => ?_)
  · refine T_tableIn 92 dX9_count_1 (by rw [c3]; decide) (by rw [c3]; decide) (by rw [c3]; rfl) (by decide) ?_
    refine T_aload_n dX9_count_92 rfl 0 rfl ?_
    refine T_getR dX9_count_93 fl_RX9_12 h (fun a17 h => ?_)
    refine T_callVI (As := []) (rest := []) (b := a17) (ci := 2) dX9_count_96 mc_X2_liesFlat mi_X2_liesFlat ml_RX9_168 rfl (fun _ hr => chk_of hr) rfl rfl (Nat.le_of_ble_eq_true rfl) ⟨⟨Nat.le_of_ble_eq_true rfl, Nat.le_of_ble_eq_true rfl⟩, ⟨Nat.le_of_ble_eq_true rfl, Nat.le_of_ble_eq_true rfl⟩⟩ K_X2_liesFlat h (fun i18 s19 h => ?_)
    refine T_if_eq 106 dX9_count_99 (by decide) h (fun _ h => ?_) (fun _ h => ?_)
    · refine T_iconst (0 : Int32) dX9_count_106 (by decide) ?_
      exact T_ireturn dX9_count_107 (Nat.le_of_ble_eq_true rfl) (Nat.le_of_ble_eq_true rfl) h
    · refine T_iconst (1 : Int32) dX9_count_102 (by decide) ?_
      refine T_goto 107 dX9_count_103 (by decide) ?_
      exact T_ireturn dX9_count_107 (Nat.le_of_ble_eq_true rfl) (Nat.le_of_ble_eq_true rfl) h
  refine T_ite h (fun c4 h => ?_) (fun c4 h => ?_)
  · refine T_tableIn 108 dX9_count_1 (by rw [c4]; decide) (by rw [c4]; decide) (by rw [c4]; rfl) (by decide) ?_
    refine T_aload_n dX9_count_108 rfl 0 rfl ?_
    refine T_getR dX9_count_109 fl_RX9_12 h (fun a20 h => ?_)
    refine T_getI dX9_count_112 fl_RX9_172 h (fun i21 h => ?_)
    exact T_ireturn dX9_count_115 (Nat.le_of_ble_eq_true rfl) (Nat.le_of_ble_eq_true rfl) h
  refine T_ite h (fun c5 h => ?_) (fun c5 h => ?_)
  · refine T_tableIn 116 dX9_count_1 (by rw [c5]; decide) (by rw [c5]; decide) (by rw [c5]; rfl) (by decide) ?_
    refine T_aload_n dX9_count_116 rfl 0 rfl ?_
    refine T_getR dX9_count_117 fl_RX9_21 h (fun a22 h => ?_)
    refine T_callVV (As := []) (rest := []) (b := a22) (ci := 4) dX9_count_120 mc_X4_look mi_X4_look ml_RX9_120 rfl (fun _ hr => chk_of hr) rfl rfl (Nat.le_of_ble_eq_true rfl) ⟨⟨Nat.le_of_ble_eq_true rfl, Nat.le_of_ble_eq_true rfl⟩, ⟨Nat.le_of_ble_eq_true rfl, Nat.le_of_ble_eq_true rfl⟩⟩ K_X4_look h (fun s23 h => ?_)
    refine T_aload_n dX9_count_123 rfl 0 rfl ?_
    refine T_getR dX9_count_124 fl_RX9_21 h (fun a24 h => ?_)
    refine T_callVI (As := []) (rest := []) (b := a24) (ci := 4) dX9_count_127 mc_X4_day mi_X4_day ml_RX9_175 rfl (fun _ hr => chk_of hr) rfl rfl (Nat.le_of_ble_eq_true rfl) ⟨⟨Nat.le_of_ble_eq_true rfl, Nat.le_of_ble_eq_true rfl⟩, ⟨Nat.le_of_ble_eq_true rfl, Nat.le_of_ble_eq_true rfl⟩⟩ K_X4_day h (fun i25 s26 h => ?_)
    exact T_ireturn dX9_count_130 (Nat.le_of_ble_eq_true rfl) (Nat.le_of_ble_eq_true rfl) h
  refine T_ite h (fun c6 h => ?_) (fun c6 h => ?_)
  · refine T_tableIn 131 dX9_count_1 (by rw [c6]; decide) (by rw [c6]; decide) (by rw [c6]; rfl) (by decide) ?_
    refine T_aload_n dX9_count_131 rfl 0 rfl ?_
    refine T_getR dX9_count_132 fl_RX9_21 h (fun a27 h => ?_)
    refine T_callVV (As := []) (rest := []) (b := a27) (ci := 4) dX9_count_135 mc_X4_look mi_X4_look ml_RX9_120 rfl (fun _ hr => chk_of hr) rfl rfl (Nat.le_of_ble_eq_true rfl) ⟨⟨Nat.le_of_ble_eq_true rfl, Nat.le_of_ble_eq_true rfl⟩, ⟨Nat.le_of_ble_eq_true rfl, Nat.le_of_ble_eq_true rfl⟩⟩ K_X4_look h (fun s28 h => ?_)
    refine T_aload_n dX9_count_138 rfl 0 rfl ?_
    refine T_getR dX9_count_139 fl_RX9_21 h (fun a29 h => ?_)
    refine T_callVI (As := []) (rest := []) (b := a29) (ci := 4) dX9_count_142 mc_X4_blocked mi_X4_blocked ml_RX9_178 rfl (fun _ hr => chk_of hr) rfl rfl (Nat.le_of_ble_eq_true rfl) ⟨⟨Nat.le_of_ble_eq_true rfl, Nat.le_of_ble_eq_true rfl⟩, ⟨Nat.le_of_ble_eq_true rfl, Nat.le_of_ble_eq_true rfl⟩⟩ K_X4_blocked h (fun i30 s31 h => ?_)
    exact T_ireturn dX9_count_145 (Nat.le_of_ble_eq_true rfl) (Nat.le_of_ble_eq_true rfl) h
  refine T_ite h (fun c7 h => ?_) (fun c7 h => ?_)
  · refine T_tableIn 146 dX9_count_1 (by rw [c7]; decide) (by rw [c7]; decide) (by rw [c7]; rfl) (by decide) ?_
    refine T_aload_n dX9_count_146 rfl 0 rfl ?_
    refine T_getR dX9_count_147 fl_RX9_12 h (fun a32 h => ?_)
    refine T_callVI (As := []) (rest := []) (b := a32) (ci := 2) dX9_count_150 mc_X2_allDust mi_X2_allDust ml_RX9_181 rfl (fun _ hr => chk_of hr) rfl rfl (Nat.le_of_ble_eq_true rfl) ⟨⟨Nat.le_of_ble_eq_true rfl, Nat.le_of_ble_eq_true rfl⟩, ⟨Nat.le_of_ble_eq_true rfl, Nat.le_of_ble_eq_true rfl⟩⟩ K_X2_allDust h (fun i33 s34 h => ?_)
    exact T_ireturn dX9_count_153 (Nat.le_of_ble_eq_true rfl) (Nat.le_of_ble_eq_true rfl) h
  refine T_ite h (fun c8 h => ?_) (fun c8 h => ?_)
  · refine T_tableIn 154 dX9_count_1 (by rw [c8]; decide) (by rw [c8]; decide) (by rw [c8]; rfl) (by decide) ?_
    refine T_aload_n dX9_count_154 rfl 0 rfl ?_
    refine T_getR dX9_count_155 fl_RX9_12 h (fun a35 h => ?_)
    refine T_getR dX9_count_158 fl_RX9_184 h (fun a36 h => ?_)
    refine T_iconst (0 : Int32) dX9_count_161 (by decide) ?_
    refine T_callVI (As := [.int (0 : Int32)]) (rest := []) (b := a36) (ci := 1) dX9_count_162 mc_X1_read mi_X1_read ml_RX9_106 rfl (fun _ hr => chk_of hr) rfl rfl (Nat.le_of_ble_eq_true rfl) ⟨⟨Nat.le_of_ble_eq_true rfl, Nat.le_of_ble_eq_true rfl⟩, ⟨Nat.le_of_ble_eq_true rfl, Nat.le_of_ble_eq_true rfl⟩⟩ K_X1_read h (fun i37 s38 h => ?_)
    exact T_ireturn dX9_count_165 (Nat.le_of_ble_eq_true rfl) (Nat.le_of_ble_eq_true rfl) h
  refine T_ite h (fun c9 h => ?_) (fun c9 h => ?_)
  · refine T_tableIn 166 dX9_count_1 (by rw [c9]; decide) (by rw [c9]; decide) (by rw [c9]; rfl) (by decide) ?_
    refine T_aload_n dX9_count_166 rfl 0 rfl ?_
    refine T_getR dX9_count_167 fl_RX9_12 h (fun a39 h => ?_)
    refine T_getR dX9_count_170 fl_RX9_184 h (fun a40 h => ?_)
    refine T_iconst (1 : Int32) dX9_count_173 (by decide) ?_
    refine T_callVI (As := [.int (1 : Int32)]) (rest := []) (b := a40) (ci := 1) dX9_count_174 mc_X1_read mi_X1_read ml_RX9_106 rfl (fun _ hr => chk_of hr) rfl rfl (Nat.le_of_ble_eq_true rfl) ⟨⟨Nat.le_of_ble_eq_true rfl, Nat.le_of_ble_eq_true rfl⟩, ⟨Nat.le_of_ble_eq_true rfl, Nat.le_of_ble_eq_true rfl⟩⟩ K_X1_read h (fun i41 s42 h => ?_)
    exact T_ireturn dX9_count_177 (Nat.le_of_ble_eq_true rfl) (Nat.le_of_ble_eq_true rfl) h
  refine T_ite h (fun c10 h => ?_) (fun c10 h => ?_)
  · refine T_tableIn 178 dX9_count_1 (by rw [c10]; decide) (by rw [c10]; decide) (by rw [c10]; rfl) (by decide) ?_
    refine T_aload_n dX9_count_178 rfl 0 rfl ?_
    refine T_getR dX9_count_179 fl_RX9_12 h (fun a43 h => ?_)
    refine T_getR dX9_count_182 fl_RX9_184 h (fun a44 h => ?_)
    refine T_iconst (2 : Int32) dX9_count_185 (by decide) ?_
    refine T_callVI (As := [.int (2 : Int32)]) (rest := []) (b := a44) (ci := 1) dX9_count_186 mc_X1_read mi_X1_read ml_RX9_106 rfl (fun _ hr => chk_of hr) rfl rfl (Nat.le_of_ble_eq_true rfl) ⟨⟨Nat.le_of_ble_eq_true rfl, Nat.le_of_ble_eq_true rfl⟩, ⟨Nat.le_of_ble_eq_true rfl, Nat.le_of_ble_eq_true rfl⟩⟩ K_X1_read h (fun i45 s46 h => ?_)
    exact T_ireturn dX9_count_189 (Nat.le_of_ble_eq_true rfl) (Nat.le_of_ble_eq_true rfl) h
  refine T_ite h (fun c11 h => ?_) (fun c11 h => ?_)
  · refine T_tableIn 190 dX9_count_1 (by rw [c11]; decide) (by rw [c11]; decide) (by rw [c11]; rfl) (by decide) ?_
    refine T_aload_n dX9_count_190 rfl 0 rfl ?_
    refine T_getR dX9_count_191 fl_RX9_35 h (fun a47 h => ?_)
    refine T_callVI (As := []) (rest := []) (b := a47) (ci := 5) dX9_count_194 mc_X5_length mi_X5_length ml_RX9_187 rfl (fun _ hr => chk_of hr) rfl rfl (Nat.le_of_ble_eq_true rfl) ⟨⟨Nat.le_of_ble_eq_true rfl, Nat.le_of_ble_eq_true rfl⟩, ⟨Nat.le_of_ble_eq_true rfl, Nat.le_of_ble_eq_true rfl⟩⟩ K_X5_length h (fun i48 s49 h => ?_)
    exact T_ireturn dX9_count_197 (Nat.le_of_ble_eq_true rfl) (Nat.le_of_ble_eq_true rfl) h
  refine T_ite h (fun c12 h => ?_) (fun c12 h => ?_)
  · refine T_tableIn 198 dX9_count_1 (by rw [c12]; decide) (by rw [c12]; decide) (by rw [c12]; rfl) (by decide) ?_
    refine T_aload_n dX9_count_198 rfl 0 rfl ?_
    refine T_getR dX9_count_199 fl_RX9_51 h (fun a50 h => ?_)
    refine T_callVI (As := []) (rest := []) (b := a50) (ci := 3) dX9_count_202 mc_X3_size mi_X3_size ml_RX9_190 rfl (fun _ hr => chk_of hr) rfl rfl (Nat.le_of_ble_eq_true rfl) ⟨⟨Nat.le_of_ble_eq_true rfl, Nat.le_of_ble_eq_true rfl⟩, ⟨Nat.le_of_ble_eq_true rfl, Nat.le_of_ble_eq_true rfl⟩⟩ K_X3_size h (fun i51 s52 h => ?_)
    exact T_ireturn dX9_count_205 (Nat.le_of_ble_eq_true rfl) (Nat.le_of_ble_eq_true rfl) h
  refine T_tableOut 206 dX9_count_1 (by have e0 := lv_neT (a := 0) c0 rfl; have e1 := lv_neT (a := 1) c1 rfl; have e2 := lv_neT (a := 2) c2 rfl; have e3 := lv_neT (a := 3) c3 rfl; have e4 := lv_neT (a := 4) c4 rfl; have e5 := lv_neT (a := 5) c5 rfl; have e6 := lv_neT (a := 6) c6 rfl; have e7 := lv_neT (a := 7) c7 rfl; have e8 := lv_neT (a := 8) c8 rfl; have e9 := lv_neT (a := 9) c9 rfl; have e10 := lv_neT (a := 10) c10 rfl; have e11 := lv_neT (a := 11) c11 rfl; have e12 := lv_neT (a := 12) c12 rfl; omega) (by decide) ?_
  refine T_bipush (-2 : Int32) dX9_count_206 (by decide) ?_
  exact T_ireturn dX9_count_208 (Nat.le_of_ble_eq_true rfl) (Nat.le_of_ble_eq_true rfl) h

def D_X9_init (a0 : Nat) (s0 : Hp) : Option Hp :=
  (isO s0 a0 8).bind fun _ =>
  nm (newO s0 2 [.null, .null, .null, .null, .null, .null, .int 0, .int 0, .int 0, .int 0]) fun s11 =>
  (D_X2_init s0.1 s11).bind fun s12 =>
  (putV s12 a0 8 0 (.ref s0.1)).bind fun s13 =>
  nm (newO s13 4 [.null, .null, .null, .null, .null, .null, .int 0, .int 0]) fun s14 =>
  (getR s14 a0 8 0).bind fun a15 =>
  (D_X4_init s13.1 a15 s14).bind fun s16 =>
  (putV s16 a0 8 1 (.ref s13.1)).bind fun s17 =>
  nm (newO s17 0 [.null, .null, .null, .int 0, .int 0]) fun s18 =>
  (getR s18 a0 8 0).bind fun a19 =>
  (D_X0_init s17.1 a19 s18).bind fun s20 =>
  (putV s20 a0 8 2 (.ref s17.1)).bind fun s21 =>
  nm (newO s21 5 [.null, .int 0]) fun s22 =>
  (D_X5_init s21.1 s22).bind fun s23 =>
  (putV s23 a0 8 3 (.ref s21.1)).bind fun s24 =>
  nm (newO s24 6 [.null, .null, .null, .null, .null, .int 0, .int 0, .int 0]) fun s25 =>
  (getR s25 a0 8 3).bind fun a26 =>
  (D_X6_init s24.1 a26 s25).bind fun s27 =>
  (putV s27 a0 8 4 (.ref s24.1)).bind fun s28 =>
  nm (newO s28 3 [.null, .int 0, .int 0]) fun s29 =>
  (D_X3_init s28.1 s29).bind fun s30 =>
  (putV s30 a0 8 5 (.ref s28.1)).bind fun s31 =>
  nm (newO s31 7 [.null]) fun s32 =>
  (D_X7_init s31.1 (2 : Int32) s32).bind fun s33 =>
  (putV s33 a0 8 6 (.ref s31.1)).bind fun s34 =>
  (putI s34 a0 8 7 (0 : Int32)).bind fun s35 =>
  some s35
set_option maxRecDepth 100000 in
set_option maxHeartbeats 4000000 in
theorem K_X9_init {l : Launch} {a0 : Nat} {s0 : Hp} : ∀ P, OK jV (D_X9_init a0 s0) P → sm_Ct l yX9_init cX9_init 1 none 5 274 100339 [.ref a0] s0 P := by
  intro P h
  unfold D_X9_init at h
  obtain ⟨_, hb0, h⟩ := h.bind
  refine sm_enter (own := RX9) (lv := [(0, .ref a0)]) (by decide) rfl (Nat.le_of_ble_eq_true rfl) rfl (fun G => ?_)
  refine T_aload_n dX9_init_0 rfl 0 rfl ?_
  refine T_objInit dX9_init_1 ml_RX9_3 wd_1_11 wd_1_12 ⟨Nat.le_of_ble_eq_true rfl, Nat.le_of_ble_eq_true rfl⟩ ?_
  refine T_aload_n dX9_init_4 rfl 0 rfl ?_
  refine T_newO (C := RX2) (ci := 2) (fs := [.null, .null, .null, .null, .null, .null, .int 0, .int 0, .int 0, .int 0]) dX9_init_5 wd_1_13 wd_1_14 wd_1_15 ⟨TX2, tyX2, rfl, inlX2, tyX2_ok, by decide +kernel⟩ (Nat.le_of_ble_eq_true rfl) (Nat.le_of_ble_eq_true rfl) ?_
  refine T_nh h (fun s11 h => ?_)
  refine T_dup dX9_init_8 rfl ?_
  refine T_callIV (As := []) (rest := [.ref s0.1, .ref a0]) (b := s0.1) dX9_init_9 mc_X2_init mi_X2_init ml_RX9_11 rfl rfl (Nat.le_of_ble_eq_true rfl) ⟨⟨Nat.le_of_ble_eq_true rfl, Nat.le_of_ble_eq_true rfl⟩, ⟨Nat.le_of_ble_eq_true rfl, Nat.le_of_ble_eq_true rfl⟩⟩ K_X2_init h (fun s12 h => ?_)
  refine T_putF (rt := none) rfl dX9_init_12 fl_RX9_12 ft_8_0 rfl rfl rfl h (fun s13 h => ?_)
  refine T_aload_n dX9_init_15 rfl 0 rfl ?_
  refine T_newO (C := RX4) (ci := 4) (fs := [.null, .null, .null, .null, .null, .null, .int 0, .int 0]) dX9_init_16 wd_1_17 wd_1_18 wd_1_19 ⟨TX4, tyX4, rfl, inlX4, tyX4_ok, by decide +kernel⟩ (Nat.le_of_ble_eq_true rfl) (Nat.le_of_ble_eq_true rfl) ?_
  refine T_nh h (fun s14 h => ?_)
  refine T_dup dX9_init_19 rfl ?_
  refine T_aload_n dX9_init_20 rfl 0 rfl ?_
  refine T_getR dX9_init_21 fl_RX9_12 h (fun a15 h => ?_)
  refine T_callIV (As := [.ref a15]) (rest := [.ref s13.1, .ref a0]) (b := s13.1) dX9_init_24 mc_X4_init mi_X4_init ml_RX9_18 rfl rfl (Nat.le_of_ble_eq_true rfl) ⟨⟨Nat.le_of_ble_eq_true rfl, Nat.le_of_ble_eq_true rfl⟩, ⟨Nat.le_of_ble_eq_true rfl, Nat.le_of_ble_eq_true rfl⟩⟩ K_X4_init h (fun s16 h => ?_)
  refine T_putF (rt := none) rfl dX9_init_27 fl_RX9_21 ft_8_1 rfl rfl rfl h (fun s17 h => ?_)
  refine T_aload_n dX9_init_30 rfl 0 rfl ?_
  refine T_newO (C := RX0) (ci := 0) (fs := [.null, .null, .null, .int 0, .int 0]) dX9_init_31 wd_1_21 wd_1_22 wd_1_23 ⟨TX0, tyX0, rfl, inlX0, tyX0_ok, by decide +kernel⟩ (Nat.le_of_ble_eq_true rfl) (Nat.le_of_ble_eq_true rfl) ?_
  refine T_nh h (fun s18 h => ?_)
  refine T_dup dX9_init_34 rfl ?_
  refine T_aload_n dX9_init_35 rfl 0 rfl ?_
  refine T_getR dX9_init_36 fl_RX9_12 h (fun a19 h => ?_)
  refine T_callIV (As := [.ref a19]) (rest := [.ref s17.1, .ref a0]) (b := s17.1) dX9_init_39 mc_X0_init mi_X0_init ml_RX9_27 rfl rfl (Nat.le_of_ble_eq_true rfl) ⟨⟨Nat.le_of_ble_eq_true rfl, Nat.le_of_ble_eq_true rfl⟩, ⟨Nat.le_of_ble_eq_true rfl, Nat.le_of_ble_eq_true rfl⟩⟩ K_X0_init h (fun s20 h => ?_)
  refine T_putF (rt := none) rfl dX9_init_42 fl_RX9_28 ft_8_2 rfl rfl rfl h (fun s21 h => ?_)
  refine T_aload_n dX9_init_45 rfl 0 rfl ?_
  refine T_newO (C := RX5) (ci := 5) (fs := [.null, .int 0]) dX9_init_46 wd_2_1 wd_2_2 wd_2_3 ⟨TX5, tyX5, rfl, inlX5, tyX5_ok, by decide +kernel⟩ (Nat.le_of_ble_eq_true rfl) (Nat.le_of_ble_eq_true rfl) ?_
  refine T_nh h (fun s22 h => ?_)
  refine T_dup dX9_init_49 rfl ?_
  refine T_callINV (As := []) (rest := [.ref s21.1, .ref a0]) (b := s21.1) dX9_init_50 mc_X5_init mi_X5_init ml_RX9_34 rfl rfl (Nat.le_of_ble_eq_true rfl) ⟨⟨Nat.le_of_ble_eq_true rfl, Nat.le_of_ble_eq_true rfl⟩, ⟨Nat.le_of_ble_eq_true rfl, Nat.le_of_ble_eq_true rfl⟩⟩ K_X5_init h (fun s23 h => ?_)
  refine T_putF (rt := none) rfl dX9_init_53 fl_RX9_35 ft_8_3 rfl rfl rfl h (fun s24 h => ?_)
  refine T_aload_n dX9_init_56 rfl 0 rfl ?_
  refine T_newO (C := RX6) (ci := 6) (fs := [.null, .null, .null, .null, .null, .int 0, .int 0, .int 0]) dX9_init_57 wd_2_5 wd_2_6 wd_2_7 ⟨TX6, tyX6, rfl, inlX6, tyX6_ok, by decide +kernel⟩ (Nat.le_of_ble_eq_true rfl) (Nat.le_of_ble_eq_true rfl) ?_
  refine T_nh h (fun s25 h => ?_)
  refine T_dup dX9_init_60 rfl ?_
  refine T_aload_n dX9_init_61 rfl 0 rfl ?_
  refine T_getR dX9_init_62 fl_RX9_35 h (fun a26 h => ?_)
  refine T_callIV (As := [.ref a26]) (rest := [.ref s24.1, .ref a0]) (b := s24.1) dX9_init_65 mc_X6_init mi_X6_init ml_RX9_41 rfl rfl (Nat.le_of_ble_eq_true rfl) ⟨⟨Nat.le_of_ble_eq_true rfl, Nat.le_of_ble_eq_true rfl⟩, ⟨Nat.le_of_ble_eq_true rfl, Nat.le_of_ble_eq_true rfl⟩⟩ K_X6_init h (fun s27 h => ?_)
  refine T_putF (rt := none) rfl dX9_init_68 fl_RX9_44 ft_8_4 rfl rfl rfl h (fun s28 h => ?_)
  refine T_aload_n dX9_init_71 rfl 0 rfl ?_
  refine T_newO (C := RX3) (ci := 3) (fs := [.null, .int 0, .int 0]) dX9_init_72 wd_2_9 wd_2_10 wd_2_11 ⟨TX3, tyX3, rfl, inlX3, tyX3_ok, by decide +kernel⟩ (Nat.le_of_ble_eq_true rfl) (Nat.le_of_ble_eq_true rfl) ?_
  refine T_nh h (fun s29 h => ?_)
  refine T_dup dX9_init_75 rfl ?_
  refine T_callINV (As := []) (rest := [.ref s28.1, .ref a0]) (b := s28.1) dX9_init_76 mc_X3_init mi_X3_init ml_RX9_50 rfl rfl (Nat.le_of_ble_eq_true rfl) ⟨⟨Nat.le_of_ble_eq_true rfl, Nat.le_of_ble_eq_true rfl⟩, ⟨Nat.le_of_ble_eq_true rfl, Nat.le_of_ble_eq_true rfl⟩⟩ K_X3_init h (fun s30 h => ?_)
  refine T_putF (rt := none) rfl dX9_init_79 fl_RX9_51 ft_8_5 rfl rfl rfl h (fun s31 h => ?_)
  refine T_aload_n dX9_init_82 rfl 0 rfl ?_
  refine T_newO (C := RX7) (ci := 7) (fs := [.null]) dX9_init_83 wd_2_13 wd_2_14 wd_2_15 ⟨TX7, tyX7, rfl, inlX7, tyX7_ok, by decide +kernel⟩ (Nat.le_of_ble_eq_true rfl) (Nat.le_of_ble_eq_true rfl) ?_
  refine T_nh h (fun s32 h => ?_)
  refine T_dup dX9_init_86 rfl ?_
  refine T_iconst (2 : Int32) dX9_init_87 (by decide) ?_
  refine T_callIV (As := [.int (2 : Int32)]) (rest := [.ref s31.1, .ref a0]) (b := s31.1) dX9_init_88 mc_X7_init mi_X7_init ml_RX9_57 rfl rfl (Nat.le_of_ble_eq_true rfl) ⟨⟨Nat.le_of_ble_eq_true rfl, Nat.le_of_ble_eq_true rfl⟩, ⟨Nat.le_of_ble_eq_true rfl, Nat.le_of_ble_eq_true rfl⟩⟩ K_X7_init h (fun s33 h => ?_)
  refine T_putF (rt := none) rfl dX9_init_91 fl_RX9_60 ft_8_6 rfl rfl rfl h (fun s34 h => ?_)
  refine T_aload_n dX9_init_94 rfl 0 rfl ?_
  refine T_iconst (0 : Int32) dX9_init_95 (by decide) ?_
  refine T_putI dX9_init_96 fl_RX9_64 ft_8_7 h (fun s35 h => ?_)
  exact T_vreturn dX9_init_99 (Nat.le_of_ble_eq_true rfl) (Nat.le_of_ble_eq_true rfl) h

def D_X9_leastLimit (a0 : Nat) (s0 : Hp) : Option (Int32 × Hp) :=
  (isO s0 a0 8).bind fun _ =>
  (getR s0 a0 8 2).bind fun a11 =>
  bd (D_X0_limitForAll a11 s0) fun i12 s13 =>
  some (i12, s13)
set_option maxRecDepth 100000 in
set_option maxHeartbeats 4000000 in
theorem K_X9_leastLimit {l : Launch} {a0 : Nat} {s0 : Hp} : ∀ P, OK jI (D_X9_leastLimit a0 s0) P → sm_Ct l yX9_leastLimit cX9_leastLimit 1 (some .int) 5 0 0 [.ref a0] s0 P := by
  intro P h
  unfold D_X9_leastLimit at h
  obtain ⟨_, hb0, h⟩ := h.bind
  refine sm_enter (own := RX9) (lv := [(0, .ref a0)]) (by decide) rfl (Nat.le_of_ble_eq_true rfl) rfl (fun G => ?_)
  refine T_aload_n dX9_leastLimit_0 rfl 0 rfl ?_
  refine T_getR dX9_leastLimit_1 fl_RX9_28 h (fun a11 h => ?_)
  refine T_callVI (As := []) (rest := []) (b := a11) (ci := 0) dX9_leastLimit_4 mc_X0_limitForAll mi_X0_limitForAll ml_RX9_212 rfl (fun _ hr => chk_of hr) rfl rfl (Nat.le_of_ble_eq_true rfl) ⟨⟨Nat.le_of_ble_eq_true rfl, Nat.le_of_ble_eq_true rfl⟩, ⟨Nat.le_of_ble_eq_true rfl, Nat.le_of_ble_eq_true rfl⟩⟩ K_X0_limitForAll h (fun i12 s13 h => ?_)
  exact T_ireturn dX9_leastLimit_7 (Nat.le_of_ble_eq_true rfl) (Nat.le_of_ble_eq_true rfl) h

def D_X9_mirror (a0 : Nat) (i1 : Int32) (i2 : Int32) (i3 : Int32) (s0 : Hp) : Option (Int32 × Hp) :=
  (isO s0 a0 8).bind fun _ =>
  (getR s0 a0 8 5).bind fun a11 =>
  (getR s0 a0 8 0).bind fun a12 =>
  (D_X3_note a11 a12 s0).bind fun s13 =>
  (getR s13 a0 8 0).bind fun a14 =>
  bd (D_X2_place a14 i1 i2 i3 s13) fun i15 s16 =>
  bd (D_X9_recorded a0 i15 s16) fun i17 s18 =>
  some (i17, s18)
set_option maxRecDepth 100000 in
set_option maxHeartbeats 4000000 in
theorem K_X9_mirror {l : Launch} {a0 : Nat} {i1 : Int32} {i2 : Int32} {i3 : Int32} {s0 : Hp} : ∀ P, OK jI (D_X9_mirror a0 i1 i2 i3 s0) P → sm_Ct l yX9_mirror cX9_mirror 4 (some .int) 5 0 0 [.ref a0, .int i1, .int i2, .int i3] s0 P := by
  intro P h
  unfold D_X9_mirror at h
  obtain ⟨_, hb0, h⟩ := h.bind
  refine sm_enter (own := RX9) (lv := [(0, .ref a0), (1, .int i1), (2, .int i2), (3, .int i3)]) (by decide) rfl (Nat.le_of_ble_eq_true rfl) rfl (fun G => ?_)
  refine T_aload_n dX9_mirror_0 rfl 0 rfl ?_
  refine T_getR dX9_mirror_1 fl_RX9_51 h (fun a11 h => ?_)
  refine T_aload_n dX9_mirror_4 rfl 0 rfl ?_
  refine T_getR dX9_mirror_5 fl_RX9_12 h (fun a12 h => ?_)
  refine T_callVV (As := [.ref a12]) (rest := []) (b := a11) (ci := 3) dX9_mirror_8 mc_X3_note mi_X3_note ml_RX9_68 rfl (fun _ hr => chk_of hr) rfl rfl (Nat.le_of_ble_eq_true rfl) ⟨⟨Nat.le_of_ble_eq_true rfl, Nat.le_of_ble_eq_true rfl⟩, ⟨Nat.le_of_ble_eq_true rfl, Nat.le_of_ble_eq_true rfl⟩⟩ K_X3_note h (fun s13 h => ?_)
  refine T_aload_n dX9_mirror_11 rfl 0 rfl ?_
  refine T_aload_n dX9_mirror_12 rfl 0 rfl ?_
  refine T_getR dX9_mirror_13 fl_RX9_12 h (fun a14 h => ?_)
  refine T_iload_n dX9_mirror_16 rfl 1 rfl ?_
  refine T_iload_n dX9_mirror_17 rfl 2 rfl ?_
  refine T_iload_n dX9_mirror_18 rfl 3 rfl ?_
  refine T_callVI (As := [.int i1, .int i2, .int i3]) (rest := [.ref a0]) (b := a14) (ci := 2) dX9_mirror_19 mc_X2_place mi_X2_place ml_RX9_79 rfl (fun _ hr => chk_of hr) rfl rfl (Nat.le_of_ble_eq_true rfl) ⟨⟨Nat.le_of_ble_eq_true rfl, Nat.le_of_ble_eq_true rfl⟩, ⟨Nat.le_of_ble_eq_true rfl, Nat.le_of_ble_eq_true rfl⟩⟩ K_X2_place h (fun i15 s16 h => ?_)
  refine T_callVI (As := [.int i15]) (rest := []) (b := a0) (ci := 8) dX9_mirror_22 mc_X9_recorded mi_X9_recorded ml_RX9_75 rfl (fun _ hr => chk_of hr) rfl rfl (Nat.le_of_ble_eq_true rfl) ⟨⟨Nat.le_of_ble_eq_true rfl, Nat.le_of_ble_eq_true rfl⟩, ⟨Nat.le_of_ble_eq_true rfl, Nat.le_of_ble_eq_true rfl⟩⟩ K_X9_recorded h (fun i17 s18 h => ?_)
  exact T_ireturn dX9_mirror_25 (Nat.le_of_ble_eq_true rfl) (Nat.le_of_ble_eq_true rfl) h

def D_X9_pass (a0 : Nat) (i1 : Int32) (s0 : Hp) : Option (Int32 × Hp) :=
  (isO s0 a0 8).bind fun _ =>
  (getR s0 a0 8 5).bind fun a11 =>
  (getR s0 a0 8 0).bind fun a12 =>
  (D_X3_note a11 a12 s0).bind fun s13 =>
  (getR s13 a0 8 1).bind fun a14 =>
  bd (D_X4_spend a14 i1 s13) fun i15 s16 =>
  bd (D_X9_recorded a0 i15 s16) fun i17 s18 =>
  some (i17, s18)
set_option maxRecDepth 100000 in
set_option maxHeartbeats 4000000 in
theorem K_X9_pass {l : Launch} {a0 : Nat} {i1 : Int32} {s0 : Hp} : ∀ P, OK jI (D_X9_pass a0 i1 s0) P → sm_Ct l yX9_pass cX9_pass 2 (some .int) 5 0 0 [.ref a0, .int i1] s0 P := by
  intro P h
  unfold D_X9_pass at h
  obtain ⟨_, hb0, h⟩ := h.bind
  refine sm_enter (own := RX9) (lv := [(0, .ref a0), (1, .int i1)]) (by decide) rfl (Nat.le_of_ble_eq_true rfl) rfl (fun G => ?_)
  refine T_aload_n dX9_pass_0 rfl 0 rfl ?_
  refine T_getR dX9_pass_1 fl_RX9_51 h (fun a11 h => ?_)
  refine T_aload_n dX9_pass_4 rfl 0 rfl ?_
  refine T_getR dX9_pass_5 fl_RX9_12 h (fun a12 h => ?_)
  refine T_callVV (As := [.ref a12]) (rest := []) (b := a11) (ci := 3) dX9_pass_8 mc_X3_note mi_X3_note ml_RX9_68 rfl (fun _ hr => chk_of hr) rfl rfl (Nat.le_of_ble_eq_true rfl) ⟨⟨Nat.le_of_ble_eq_true rfl, Nat.le_of_ble_eq_true rfl⟩, ⟨Nat.le_of_ble_eq_true rfl, Nat.le_of_ble_eq_true rfl⟩⟩ K_X3_note h (fun s13 h => ?_)
  refine T_aload_n dX9_pass_11 rfl 0 rfl ?_
  refine T_aload_n dX9_pass_12 rfl 0 rfl ?_
  refine T_getR dX9_pass_13 fl_RX9_21 h (fun a14 h => ?_)
  refine T_iload_n dX9_pass_16 rfl 1 rfl ?_
  refine T_callVI (As := [.int i1]) (rest := [.ref a0]) (b := a14) (ci := 4) dX9_pass_17 mc_X4_spend mi_X4_spend ml_RX9_95 rfl (fun _ hr => chk_of hr) rfl rfl (Nat.le_of_ble_eq_true rfl) ⟨⟨Nat.le_of_ble_eq_true rfl, Nat.le_of_ble_eq_true rfl⟩, ⟨Nat.le_of_ble_eq_true rfl, Nat.le_of_ble_eq_true rfl⟩⟩ K_X4_spend h (fun i15 s16 h => ?_)
  refine T_callVI (As := [.int i15]) (rest := []) (b := a0) (ci := 8) dX9_pass_20 mc_X9_recorded mi_X9_recorded ml_RX9_75 rfl (fun _ hr => chk_of hr) rfl rfl (Nat.le_of_ble_eq_true rfl) ⟨⟨Nat.le_of_ble_eq_true rfl, Nat.le_of_ble_eq_true rfl⟩, ⟨Nat.le_of_ble_eq_true rfl, Nat.le_of_ble_eq_true rfl⟩⟩ K_X9_recorded h (fun i17 s18 h => ?_)
  exact T_ireturn dX9_pass_23 (Nat.le_of_ble_eq_true rfl) (Nat.le_of_ble_eq_true rfl) h
