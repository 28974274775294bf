def D_J7_fill_53178_w5 (a12 : Nat) (i13 : Int32) (i14 : Int32) (k20 : Hp → Option Hp) : Nat → Int32 → Hp → Option Hp
  | 0, _, _ => none
  | n17 + 1, i15, s16 =>
  if i14 ≤ i15 then
  k20 s16
  else
  (stI s16 a12 i15 i13).bind fun s18 =>
  D_J7_fill_53178_w5 a12 i13 i14 k20 n17 (i15 + 1) s18
def D_J7_fill_53178 (a0 : Nat) (i1 : Int32) (s0 : Hp) : Option Hp :=
  (alen s0 a0).bind fun i11 =>
  D_J7_fill_53178_w5 a0 i1 i11 (fun s20 =>
  some s20
  ) FU (0 : Int32) s0
set_option maxRecDepth 100000 in
set_option maxHeartbeats 4000000 in
theorem K_J7_fill_53178_w5 {l : Launch} {G : smG} {P : Option Value → Hp → Prop} {a12 : Nat} {i13 : Int32} {i14 : Int32} {k20 : Hp → Option Hp} (hk20 : ∀  (s19 : Hp), OK jV (k20 s19) P → T l G RJ7 cJ7_fill_53178 4 (sm_rm 0 0 0) (sm_E none yJ7_fill_53178.name) (sm_Qs G P 0 0) 0 0 20 [] [] s19) : ∀ (n : Nat) (i15 : Int32) (s16 : Hp), OK jV (D_J7_fill_53178_w5 a12 i13 i14 k20 n i15 s16) P → T l G RJ7 cJ7_fill_53178 4 (sm_rm 0 0 0) (sm_E none yJ7_fill_53178.name) (sm_Qs G P 0 0) 0 0 5 [(0, .ref a12), (1, .int i13), (2, .int i15), (3, .int i14)] [] s16 := by
  intro n
  induction n with
  | zero => intro i15 s16 h; obtain ⟨_, h0, _⟩ := h; exact absurd h0 (by simp [D_J7_fill_53178_w5])
  | succ n17 ih =>
    intro i15 s16 h
    unfold D_J7_fill_53178_w5 at h
    refine T_iload_n dJ7_fill_53178_5 rfl 2 rfl ?_
    refine T_iload_n dJ7_fill_53178_6 rfl 3 rfl ?_
    refine T_icmp_ge 20 dJ7_fill_53178_7 (by decide) h (fun _ h => ?_) (fun _ h => ?_)
    · refine T_lv (lv' := []) [] rfl ?_
      exact hk20 s16 h
    · refine T_aload_n dJ7_fill_53178_10 rfl 0 rfl ?_
      refine T_iload_n dJ7_fill_53178_11 rfl 2 rfl ?_
      refine T_iload_n dJ7_fill_53178_12 rfl 1 rfl ?_
      refine T_iastore dJ7_fill_53178_13 h (fun s18 h => ?_)
      refine T_iinc (i15 + 1) (lv' := [(2, .int (i15 + 1)), (0, .ref a12), (1, .int i13), (3, .int i14)]) dJ7_fill_53178_14 (j := 2) rfl rfl (by decide) rfl ?_
      refine T_goto 5 dJ7_fill_53178_17 (by decide) ?_
      refine T_lv (lv' := [(0, .ref a12), (1, .int i13), (2, .int (i15 + 1)), (3, .int i14)]) [1, 2, 0, 3] rfl ?_
      exact ih (i15 + 1) s18 h
set_option maxRecDepth 100000 in
set_option maxHeartbeats 4000000 in
theorem K_J7_fill_53178 {l : Launch} {a0 : Nat} {i1 : Int32} {s0 : Hp} : ∀ P, OK jV (D_J7_fill_53178 a0 i1 s0) P → sm_Ct l yJ7_fill_53178 cJ7_fill_53178 4 none 0 0 0 [.ref a0, .int i1] s0 P := by
  intro P h
  unfold D_J7_fill_53178 at h
  refine sm_enter (own := RJ7) (lv := [(0, .ref a0), (1, .int i1)]) (by decide) rfl (Nat.le_of_ble_eq_true rfl) rfl (fun G => ?_)
  refine T_iconst (0 : Int32) dJ7_fill_53178_0 (by decide) ?_
  refine T_istore_n (lv' := [(2, .int (0 : Int32)), (0, .ref a0), (1, .int i1)]) dJ7_fill_53178_1 rfl (by decide) rfl ?_
  refine T_aload_n dJ7_fill_53178_2 rfl 1 rfl ?_
  refine T_alen dJ7_fill_53178_3 h (fun i11 h => ?_)
  refine T_istore_n (lv' := [(3, .int i11), (2, .int (0 : Int32)), (0, .ref a0), (1, .int i1)]) dJ7_fill_53178_4 rfl (by decide) rfl ?_
  refine T_lv (lv' := [(0, .ref a0), (1, .int i1), (2, .int (0 : Int32)), (3, .int i11)]) [2, 3, 1, 0] rfl ?_
  refine K_J7_fill_53178_w5 ?_ FU (0 : Int32) s0 h
  intro s20 h
  exact T_vreturn dJ7_fill_53178_20 (Nat.le_of_ble_eq_true rfl) (Nat.le_of_ble_eq_true rfl) h

def D_X0_answer (a0 : Nat) (i1 : Int32) (s0 : Hp) : Option (Int32 × Hp) :=
  (isO s0 a0 0).bind fun _ =>
  if i1 = 0 then
  (getI s0 a0 0 3).bind fun i12 =>
  some (i12, s0)
  else
  (getI s0 a0 0 4).bind fun i11 =>
  some (i11, s0)
set_option maxRecDepth 100000 in
set_option maxHeartbeats 4000000 in
theorem K_X0_answer {l : Launch} {a0 : Nat} {i1 : Int32} {s0 : Hp} : ∀ P, OK jI (D_X0_answer a0 i1 s0) P → sm_Ct l yX0_answer cX0_answer 2 (some .int) 0 0 0 [.ref a0, .int i1] s0 P := by
  intro P h
  unfold D_X0_answer at h
  obtain ⟨_, hb0, h⟩ := h.bind
  refine sm_enter (own := RX0) (lv := [(0, .ref a0), (1, .int i1)]) (by decide) rfl (Nat.le_of_ble_eq_true rfl) rfl (fun G => ?_)
  refine T_iload_n dX0_answer_0 rfl 1 rfl ?_
  refine T_if_ne 11 dX0_answer_1 (by decide) h (fun _ h => ?_) (fun _ h => ?_)
  · refine T_aload_n dX0_answer_11 rfl 0 rfl ?_
    refine T_getI dX0_answer_12 fl_RX0_31 h (fun i11 h => ?_)
    exact T_ireturn dX0_answer_15 (Nat.le_of_ble_eq_true rfl) (Nat.le_of_ble_eq_true rfl) h
  · refine T_aload_n dX0_answer_4 rfl 0 rfl ?_
    refine T_getI dX0_answer_5 fl_RX0_27 h (fun i12 h => ?_)
    refine T_goto 15 dX0_answer_8 (by decide) ?_
    exact T_ireturn dX0_answer_15 (Nat.le_of_ble_eq_true rfl) (Nat.le_of_ble_eq_true rfl) h

def D_X0_forgetBest (a0 : Nat) (s0 : Hp) : Option Hp :=
  (isO s0 a0 0).bind fun _ =>
  (putI s0 a0 0 3 (-6 : Int32)).bind fun s11 =>
  (putI s11 a0 0 4 (-6 : Int32)).bind fun s12 =>
  some s12
set_option maxRecDepth 100000 in
set_option maxHeartbeats 4000000 in
theorem K_X0_forgetBest {l : Launch} {a0 : Nat} {s0 : Hp} : ∀ P, OK jV (D_X0_forgetBest a0 s0) P → sm_Ct l yX0_forgetBest cX0_forgetBest 1 none 0 0 0 [.ref a0] s0 P := by
  intro P h
  unfold D_X0_forgetBest at h
  obtain ⟨_, hb0, h⟩ := h.bind
  refine sm_enter (own := RX0) (lv := [(0, .ref a0)]) (by decide) rfl (Nat.le_of_ble_eq_true rfl) rfl (fun G => ?_)
  refine T_aload_n dX0_forgetBest_0 rfl 0 rfl ?_
  refine T_bipush (-6 : Int32) dX0_forgetBest_1 (by decide) ?_
  refine T_putI dX0_forgetBest_3 fl_RX0_27 ft_0_3 h (fun s11 h => ?_)
  refine T_aload_n dX0_forgetBest_6 rfl 0 rfl ?_
  refine T_bipush (-6 : Int32) dX0_forgetBest_7 (by decide) ?_
  refine T_putI dX0_forgetBest_9 fl_RX0_31 ft_0_4 h (fun s12 h => ?_)
  exact T_vreturn dX0_forgetBest_12 (Nat.le_of_ble_eq_true rfl) (Nat.le_of_ble_eq_true rfl) h

def D_X10_areFlat (a0 : Nat) (s0 : Hp) : Option (Int32 × Hp) :=
  (isO s0 a0 9).bind fun _ =>
  (getR s0 a0 9 0).bind fun a11 =>
  (ldI s0 a11 (4 : Int32)).bind fun i12 =>
  (getR s0 a0 9 0).bind fun a13 =>
  (ldI s0 a13 (1 : Int32)).bind fun i14 =>
  if i12 ≤ i14 then
  retZ (0 : Int32) ((0 : Int32), s0)
  else
  retZ (1 : Int32) ((1 : Int32), s0)
set_option maxRecDepth 100000 in
set_option maxHeartbeats 4000000 in
theorem K_X10_areFlat {l : Launch} {a0 : Nat} {s0 : Hp} : ∀ P, OK jI (D_X10_areFlat a0 s0) P → sm_Ct l yX10_areFlat cX10_areFlat 1 (some .boolean) 0 0 0 [.ref a0] s0 P := by
  intro P h
  unfold D_X10_areFlat at h
  obtain ⟨_, hb0, h⟩ := h.bind
  refine sm_enter (own := RX10) (lv := [(0, .ref a0)]) (by decide) rfl (Nat.le_of_ble_eq_true rfl) rfl (fun G => ?_)
  refine T_aload_n dX10_areFlat_0 rfl 0 rfl ?_
  refine T_getR dX10_areFlat_1 fl_RX10_7 h (fun a11 h => ?_)
  refine T_iconst (4 : Int32) dX10_areFlat_4 (by decide) ?_
  refine T_iaload dX10_areFlat_5 h (fun i12 h => ?_)
  refine T_aload_n dX10_areFlat_6 rfl 0 rfl ?_
  refine T_getR dX10_areFlat_7 fl_RX10_7 h (fun a13 h => ?_)
  refine T_iconst (1 : Int32) dX10_areFlat_10 (by decide) ?_
  refine T_iaload dX10_areFlat_11 h (fun i14 h => ?_)
  refine T_icmp_le 19 dX10_areFlat_12 (by decide) h (fun _ h => ?_) (fun _ h => ?_)
  · refine T_iconst (0 : Int32) dX10_areFlat_19 (by decide) ?_
    exact T_zreturn dX10_areFlat_20 (Nat.le_of_ble_eq_true rfl) (Nat.le_of_ble_eq_true rfl) h
  · refine T_iconst (1 : Int32) dX10_areFlat_15 (by decide) ?_
    refine T_goto 20 dX10_areFlat_16 (by decide) ?_
    exact T_zreturn dX10_areFlat_20 (Nat.le_of_ble_eq_true rfl) (Nat.le_of_ble_eq_true rfl) h

def D_X10_changed_w52 (a15 : Nat) (i16 : Int32) (k86 : Hp → Option (Int32 × Hp)) : Nat → Int32 → Hp → Option (Int32 × Hp)
  | 0, _, _ => none
  | n19 + 1, i17, s18 =>
  if (132 : Int32) ≤ i17 then
  k86 s18
  else
  (getR s18 a15 9 3).bind fun a20 =>
  (getI s18 a15 9 4).bind fun i21 =>
  (getR s18 a15 9 1).bind fun a22 =>
  (ldI s18 a22 i17).bind fun i23 =>
  (stI s18 a20 (((132 : Int32) * i21) + i17) i23).bind fun s24 =>
  D_X10_changed_w52 a15 i16 k86 n19 (i17 + 1) s24
def D_X10_changed_b50  (a12 : Nat) (i13 : Int32) (s14 : Hp) : Option (Int32 × Hp) :=
  D_X10_changed_w52 a12 i13 (fun s26 =>
  (getI s26 a12 9 4).bind fun i27 =>
  (putI s26 a12 9 4 (i27 + (1 : Int32))).bind fun s28 =>
  some (i13, s28)
  ) FU (0 : Int32) s14
def D_X10_changed_w11 (a29 : Nat) (i30 : Int32) (k40 : Hp → Option (Int32 × Hp)) : Nat → Int32 → Hp → Option (Int32 × Hp)
  | 0, _, _ => none
  | n33 + 1, i31, s32 =>
  if (660 : Int32) ≤ i31 then
  k40 s32
  else
  (getR s32 a29 9 3).bind fun a34 =>
  (getR s32 a29 9 3).bind fun a35 =>
  (ldI s32 a35 (i31 + (132 : Int32))).bind fun i36 =>
  (stI s32 a34 i31 i36).bind fun s37 =>
  D_X10_changed_w11 a29 i30 k40 n33 (i31 + 1) s37
def D_X10_changed (a0 : Nat) (i1 : Int32) (s0 : Hp) : Option (Int32 × Hp) :=
  (isO s0 a0 9).bind fun _ =>
  (getI s0 a0 9 4).bind fun i11 =>
  if i11 = (6 : Int32) then
  D_X10_changed_w11 a0 i1 (fun s39 =>
  (getI s39 a0 9 4).bind fun i40 =>
  (putI s39 a0 9 4 (i40 - (1 : Int32))).bind fun s41 =>
  D_X10_changed_b50 a0 i1 s41
  ) FU (0 : Int32) s0
  else
  D_X10_changed_b50 a0 i1 s0
set_option maxRecDepth 100000 in
set_option maxHeartbeats 4000000 in
theorem K_X10_changed_w52 {l : Launch} {G : smG} {P : Option Value → Hp → Prop} {a15 : Nat} {i16 : Int32} {k86 : Hp → Option (Int32 × Hp)} (hk86 : ∀  (s25 : Hp), OK jI (k86 s25) P → T l G RX10 cX10_changed 3 (sm_rm 0 0 0) (sm_E (some .int) yX10_changed.name) (sm_Qs G P 0 0) 0 0 86 [(0, .ref a15), (1, .int i16)] [] s25) : ∀ (n : Nat) (i17 : Int32) (s18 : Hp), OK jI (D_X10_changed_w52 a15 i16 k86 n i17 s18) P → T l G RX10 cX10_changed 3 (sm_rm 0 0 0) (sm_E (some .int) yX10_changed.name) (sm_Qs G P 0 0) 0 0 52 [(0, .ref a15), (1, .int i16), (2, .int i17)] [] s18 := by
  intro n
  induction n with
  | zero => intro i17 s18 h; obtain ⟨_, h0, _⟩ := h; exact absurd h0 (by simp [D_X10_changed_w52])
  | succ n19 ih =>
    intro i17 s18 h
    unfold D_X10_changed_w52 at h
    refine T_iload_n dX10_changed_52 rfl 2 rfl ?_
    refine T_sipush (132 : Int32) dX10_changed_53 (by decide) ?_
    refine T_icmp_ge 86 dX10_changed_56 (by decide) h (fun _ h => ?_) (fun _ h => ?_)
    · refine T_lv (lv' := [(0, .ref a15), (1, .int i16)]) [0, 1] rfl ?_
      exact hk86 s18 h
    · refine T_aload_n dX10_changed_59 rfl 0 rfl ?_
      refine T_getR dX10_changed_60 fl_RX10_19 h (fun a20 h => ?_)
      refine T_sipush (132 : Int32) dX10_changed_63 (by decide) ?_
      refine T_aload_n dX10_changed_66 rfl 0 rfl ?_
      refine T_getI dX10_changed_67 fl_RX10_43 h (fun i21 h => ?_)
      refine T_imul dX10_changed_70 ?_
      refine T_iload_n dX10_changed_71 rfl 2 rfl ?_
      refine T_iadd dX10_changed_72 ?_
      refine T_aload_n dX10_changed_73 rfl 0 rfl ?_
      refine T_getR dX10_changed_74 fl_RX10_13 h (fun a22 h => ?_)
      refine T_iload_n dX10_changed_77 rfl 2 rfl ?_
      refine T_iaload dX10_changed_78 h (fun i23 h => ?_)
      refine T_iastore dX10_changed_79 h (fun s24 h => ?_)
      refine T_iinc (i17 + 1) (lv' := [(2, .int (i17 + 1)), (0, .ref a15), (1, .int i16)]) dX10_changed_80 (j := 2) rfl rfl (by decide) rfl ?_
      refine T_goto 52 dX10_changed_83 (by decide) ?_
      refine T_lv (lv' := [(0, .ref a15), (1, .int i16), (2, .int (i17 + 1))]) [1, 2, 0] rfl ?_
      exact ih (i17 + 1) s24 h
set_option maxRecDepth 100000 in
set_option maxHeartbeats 4000000 in
theorem K_X10_changed_b50 {l : Launch} {G : smG} {P : Option Value → Hp → Prop}  {a12 : Nat} {i13 : Int32} {s14 : Hp}  (h : OK jI (D_X10_changed_b50 a12 i13 s14) P) : T l G RX10 cX10_changed 3 (sm_rm 0 0 0) (sm_E (some .int) yX10_changed.name) (sm_Qs G P 0 0) 0 0 50 [(0, .ref a12), (1, .int i13)] [] s14 := by
  unfold D_X10_changed_b50 at h
  refine T_iconst (0 : Int32) dX10_changed_50 (by decide) ?_
  refine T_istore_n (lv' := [(2, .int (0 : Int32)), (0, .ref a12), (1, .int i13)]) dX10_changed_51 rfl (by decide) rfl ?_
  refine T_lv (lv' := [(0, .ref a12), (1, .int i13), (2, .int (0 : Int32))]) [1, 2, 0] rfl ?_
  refine K_X10_changed_w52 ?_ FU (0 : Int32) s14 h
  intro s26 h
  refine T_aload_n dX10_changed_86 rfl 0 rfl ?_
  refine T_dup dX10_changed_87 rfl ?_
  refine T_getI dX10_changed_88 fl_RX10_43 h (fun i27 h => ?_)
  refine T_iconst (1 : Int32) dX10_changed_91 (by decide) ?_
  refine T_iadd dX10_changed_92 ?_
  refine T_putI dX10_changed_93 fl_RX10_43 ft_9_4 h (fun s28 h => ?_)
  refine T_iload_n dX10_changed_96 rfl 1 rfl ?_
  exact T_ireturn dX10_changed_97 (Nat.le_of_ble_eq_true rfl) (Nat.le_of_ble_eq_true rfl) h
set_option maxRecDepth 100000 in
set_option maxHeartbeats 4000000 in
theorem K_X10_changed_w11 {l : Launch} {G : smG} {P : Option Value → Hp → Prop} {a29 : Nat} {i30 : Int32} {k40 : Hp → Option (Int32 × Hp)} (hk40 : ∀  (s38 : Hp), OK jI (k40 s38) P → T l G RX10 cX10_changed 3 (sm_rm 0 0 0) (sm_E (some .int) yX10_changed.name) (sm_Qs G P 0 0) 0 0 40 [(0, .ref a29), (1, .int i30)] [] s38) : ∀ (n : Nat) (i31 : Int32) (s32 : Hp), OK jI (D_X10_changed_w11 a29 i30 k40 n i31 s32) P → T l G RX10 cX10_changed 3 (sm_rm 0 0 0) (sm_E (some .int) yX10_changed.name) (sm_Qs G P 0 0) 0 0 11 [(0, .ref a29), (1, .int i30), (2, .int i31)] [] s32 := by
  intro n
  induction n with
  | zero => intro i31 s32 h; obtain ⟨_, h0, _⟩ := h; exact absurd h0 (by simp [D_X10_changed_w11])
  | succ n33 ih =>
    intro i31 s32 h
    unfold D_X10_changed_w11 at h
    refine T_iload_n dX10_changed_11 rfl 2 rfl ?_
    refine T_sipush (660 : Int32) dX10_changed_12 (by decide) ?_
    refine T_icmp_ge 40 dX10_changed_15 (by decide) h (fun _ h => ?_) (fun _ h => ?_)
    · refine T_lv (lv' := [(0, .ref a29), (1, .int i30)]) [0, 1] rfl ?_
      exact hk40 s32 h
    · refine T_aload_n dX10_changed_18 rfl 0 rfl ?_
      refine T_getR dX10_changed_19 fl_RX10_19 h (fun a34 h => ?_)
      refine T_iload_n dX10_changed_22 rfl 2 rfl ?_
      refine T_aload_n dX10_changed_23 rfl 0 rfl ?_
      refine T_getR dX10_changed_24 fl_RX10_19 h (fun a35 h => ?_)
      refine T_iload_n dX10_changed_27 rfl 2 rfl ?_
      refine T_sipush (132 : Int32) dX10_changed_28 (by decide) ?_
      refine T_iadd dX10_changed_31 ?_
      refine T_iaload dX10_changed_32 h (fun i36 h => ?_)
      refine T_iastore dX10_changed_33 h (fun s37 h => ?_)
      refine T_iinc (i31 + 1) (lv' := [(2, .int (i31 + 1)), (0, .ref a29), (1, .int i30)]) dX10_changed_34 (j := 2) rfl rfl (by decide) rfl ?_
      refine T_goto 11 dX10_changed_37 (by decide) ?_
      refine T_lv (lv' := [(0, .ref a29), (1, .int i30), (2, .int (i31 + 1))]) [1, 2, 0] rfl ?_
      exact ih (i31 + 1) s37 h
set_option maxRecDepth 100000 in
set_option maxHeartbeats 4000000 in
theorem K_X10_changed {l : Launch} {a0 : Nat} {i1 : Int32} {s0 : Hp} : ∀ P, OK jI (D_X10_changed a0 i1 s0) P → sm_Ct l yX10_changed cX10_changed 3 (some .int) 0 0 0 [.ref a0, .int i1] s0 P := by
  intro P h
  unfold D_X10_changed at h
  obtain ⟨_, hb0, h⟩ := h.bind
  refine sm_enter (own := RX10) (lv := [(0, .ref a0), (1, .int i1)]) (by decide) rfl (Nat.le_of_ble_eq_true rfl) rfl (fun G => ?_)
  refine T_aload_n dX10_changed_0 rfl 0 rfl ?_
  refine T_getI dX10_changed_1 fl_RX10_43 h (fun i11 h => ?_)
  refine T_bipush (6 : Int32) dX10_changed_4 (by decide) ?_
  refine T_icmp_ne 50 dX10_changed_6 (by decide) h (fun _ h => ?_) (fun _ h => ?_)
  · exact K_X10_changed_b50 h
  · refine T_iconst (0 : Int32) dX10_changed_9 (by decide) ?_
    refine T_istore_n (lv' := [(2, .int (0 : Int32)), (0, .ref a0), (1, .int i1)]) dX10_changed_10 rfl (by decide) rfl ?_
    refine T_lv (lv' := [(0, .ref a0), (1, .int i1), (2, .int (0 : Int32))]) [1, 2, 0] rfl ?_
    refine K_X10_changed_w11 ?_ FU (0 : Int32) s0 h
    intro s39 h
    refine T_aload_n dX10_changed_40 rfl 0 rfl ?_
    refine T_dup dX10_changed_41 rfl ?_
    refine T_getI dX10_changed_42 fl_RX10_43 h (fun i40 h => ?_)
    refine T_iconst (1 : Int32) dX10_changed_45 (by decide) ?_
    refine T_isub dX10_changed_46 ?_
    refine T_putI dX10_changed_47 fl_RX10_43 ft_9_4 h (fun s41 h => ?_)
    exact K_X10_changed_b50 h

def D_X10_copy_w2 (a11 : Nat) (a12 : Nat) (k21 : Hp → Option Hp) : Nat → Int32 → Hp → Option Hp
  | 0, _, _ => none
  | n15 + 1, i13, s14 =>
  if (132 : Int32) ≤ i13 then
  k21 s14
  else
  (ldI s14 a11 i13).bind fun i16 =>
  (stI s14 a12 i13 i16).bind fun s17 =>
  D_X10_copy_w2 a11 a12 k21 n15 (i13 + 1) s17
def D_X10_copy (a0 : Nat) (a1 : Nat) (s0 : Hp) : Option Hp :=
  D_X10_copy_w2 a0 a1 (fun s19 =>
  some s19
  ) FU (0 : Int32) s0
set_option maxRecDepth 100000 in
set_option maxHeartbeats 4000000 in
theorem K_X10_copy_w2 {l : Launch} {G : smG} {P : Option Value → Hp → Prop} {a11 : Nat} {a12 : Nat} {k21 : Hp → Option Hp} (hk21 : ∀  (s18 : Hp), OK jV (k21 s18) P → T l G RX10 cX10_copy 3 (sm_rm 0 0 0) (sm_E none yX10_copy.name) (sm_Qs G P 0 0) 0 0 21 [] [] s18) : ∀ (n : Nat) (i13 : Int32) (s14 : Hp), OK jV (D_X10_copy_w2 a11 a12 k21 n i13 s14) P → T l G RX10 cX10_copy 3 (sm_rm 0 0 0) (sm_E none yX10_copy.name) (sm_Qs G P 0 0) 0 0 2 [(0, .ref a11), (1, .ref a12), (2, .int i13)] [] s14 := by
  intro n
  induction n with
  | zero => intro i13 s14 h; obtain ⟨_, h0, _⟩ := h; exact absurd h0 (by simp [D_X10_copy_w2])
  | succ n15 ih =>
    intro i13 s14 h
    unfold D_X10_copy_w2 at h
    refine T_iload_n dX10_copy_2 rfl 2 rfl ?_
    refine T_sipush (132 : Int32) dX10_copy_3 (by decide) ?_
    refine T_icmp_ge 21 dX10_copy_6 (by decide) h (fun _ h => ?_) (fun _ h => ?_)
    · refine T_lv (lv' := []) [] rfl ?_
      exact hk21 s14 h
    · refine T_aload_n dX10_copy_9 rfl 1 rfl ?_
      refine T_iload_n dX10_copy_10 rfl 2 rfl ?_
      refine T_aload_n dX10_copy_11 rfl 0 rfl ?_
      refine T_iload_n dX10_copy_12 rfl 2 rfl ?_
      refine T_iaload dX10_copy_13 h (fun i16 h => ?_)
      refine T_iastore dX10_copy_14 h (fun s17 h => ?_)
      refine T_iinc (i13 + 1) (lv' := [(2, .int (i13 + 1)), (0, .ref a11), (1, .ref a12)]) dX10_copy_15 (j := 2) rfl rfl (by decide) rfl ?_
      refine T_goto 2 dX10_copy_18 (by decide) ?_
      refine T_lv (lv' := [(0, .ref a11), (1, .ref a12), (2, .int (i13 + 1))]) [1, 2, 0] rfl ?_
      exact ih (i13 + 1) s17 h
set_option maxRecDepth 100000 in
set_option maxHeartbeats 4000000 in
theorem K_X10_copy {l : Launch} {a0 : Nat} {a1 : Nat} {s0 : Hp} : ∀ P, OK jV (D_X10_copy a0 a1 s0) P → sm_Ct l yX10_copy cX10_copy 3 none 0 0 0 [.ref a0, .ref a1] s0 P := by
  intro P h
  unfold D_X10_copy at h
  refine sm_enter (own := RX10) (lv := [(0, .ref a0), (1, .ref a1)]) (by decide) rfl (Nat.le_of_ble_eq_true rfl) rfl (fun G => ?_)
  refine T_iconst (0 : Int32) dX10_copy_0 (by decide) ?_
  refine T_istore_n (lv' := [(2, .int (0 : Int32)), (0, .ref a0), (1, .ref a1)]) dX10_copy_1 rfl (by decide) rfl ?_
  refine T_lv (lv' := [(0, .ref a0), (1, .ref a1), (2, .int (0 : Int32))]) [1, 2, 0] rfl ?_
  refine K_X10_copy_w2 ?_ FU (0 : Int32) s0 h
  intro s19 h
  exact T_vreturn dX10_copy_21 (Nat.le_of_ble_eq_true rfl) (Nat.le_of_ble_eq_true rfl) h

def D_X10_does_b10  (i12 : Int32) (a13 : Nat) (s11 : Hp) : Option Hp :=
  (putI s11 a13 9 16 i12).bind fun s14 =>
  some s14
def D_X10_does (a0 : Nat) (i1 : Int32) (s0 : Hp) : Option Hp :=
  (isO s0 a0 9).bind fun _ =>
  if 0 ≤ i1 then
  D_X10_does_b10 (0 : Int32) a0 s0
  else
  D_X10_does_b10 i1 a0 s0
set_option maxRecDepth 100000 in
set_option maxHeartbeats 4000000 in
theorem K_X10_does_b10 {l : Launch} {G : smG} {P : Option Value → Hp → Prop}  {i12 : Int32} {a13 : Nat} {s11 : Hp}  (h : OK jV (D_X10_does_b10 i12 a13 s11) P) : T l G RX10 cX10_does 2 (sm_rm 0 0 0) (sm_E none yX10_does.name) (sm_Qs G P 0 0) 0 0 10 [] [.int i12, .ref a13] s11 := by
  unfold D_X10_does_b10 at h
  refine T_putI dX10_does_10 fl_RX10_187 ft_9_16 h (fun s14 h => ?_)
  exact T_vreturn dX10_does_13 (Nat.le_of_ble_eq_true rfl) (Nat.le_of_ble_eq_true rfl) h
set_option maxRecDepth 100000 in
set_option maxHeartbeats 4000000 in
theorem K_X10_does {l : Launch} {a0 : Nat} {i1 : Int32} {s0 : Hp} : ∀ P, OK jV (D_X10_does a0 i1 s0) P → sm_Ct l yX10_does cX10_does 2 none 0 0 0 [.ref a0, .int i1] s0 P := by
  intro P h
  unfold D_X10_does at h
  obtain ⟨_, hb0, h⟩ := h.bind
  refine sm_enter (own := RX10) (lv := [(0, .ref a0), (1, .int i1)]) (by decide) rfl (Nat.le_of_ble_eq_true rfl) rfl (fun G => ?_)
  refine T_aload_n dX10_does_0 rfl 0 rfl ?_
  refine T_iload_n dX10_does_1 rfl 1 rfl ?_
  refine T_if_ge 9 dX10_does_2 (by decide) h (fun _ h => ?_) (fun _ h => ?_)
  · refine T_iconst (0 : Int32) dX10_does_9 (by decide) ?_
    refine T_lv (lv' := []) [] rfl ?_
    exact K_X10_does_b10 h
  · refine T_iload_n dX10_does_5 rfl 1 rfl ?_
    refine T_goto 10 dX10_does_6 (by decide) ?_
    refine T_lv (lv' := []) [] rfl ?_
    exact K_X10_does_b10 h

def D_X10_isIn (l0 : Int64) (l2 : Int64) (l4 : Int64) (s0 : Hp) : Option (Int32 × Hp) :=
  if (lg_cmp l0 l2) < 0 then
  retZ (0 : Int32) ((0 : Int32), s0)
  else
  if 0 < (lg_cmp l0 l4) then
  retZ (0 : Int32) ((0 : Int32), s0)
  else
  retZ (1 : Int32) ((1 : Int32), s0)
set_option maxRecDepth 100000 in
set_option maxHeartbeats 4000000 in
theorem K_X10_isIn {l : Launch} {l0 : Int64} {l2 : Int64} {l4 : Int64} {s0 : Hp} : ∀ P, OK jI (D_X10_isIn l0 l2 l4 s0) P → sm_Ct l yX10_isIn cX10_isIn 6 (some .boolean) 0 0 0 [.long l0, .long l2, .long l4] s0 P := by
  intro P h
  unfold D_X10_isIn at h
  refine sm_enter (own := RX10) (lv := [(0, .long l0), (2, .long l2), (4, .long l4)]) (by decide) rfl (Nat.le_of_ble_eq_true rfl) rfl (fun G => ?_)
  refine T_lload_n dX10_isIn_0 rfl 0 rfl ?_
  refine T_lload_n dX10_isIn_1 rfl 1 rfl ?_
  refine T_lcmp dX10_isIn_2 ?_
  refine T_if_lt 17 dX10_isIn_3 (by decide) h (fun _ h => ?_) (fun _ h => ?_)
  · refine T_iconst (0 : Int32) dX10_isIn_17 (by decide) ?_
    exact T_zreturn dX10_isIn_18 (Nat.le_of_ble_eq_true rfl) (Nat.le_of_ble_eq_true rfl) h
  · refine T_lload_n dX10_isIn_6 rfl 0 rfl ?_
    refine T_lload dX10_isIn_7 2 rfl ?_
    refine T_lcmp dX10_isIn_9 ?_
    refine T_if_gt 17 dX10_isIn_10 (by decide) h (fun _ h => ?_) (fun _ h => ?_)
    · refine T_iconst (0 : Int32) dX10_isIn_17 (by decide) ?_
      exact T_zreturn dX10_isIn_18 (Nat.le_of_ble_eq_true rfl) (Nat.le_of_ble_eq_true rfl) h
    · refine T_iconst (1 : Int32) dX10_isIn_13 (by decide) ?_
      refine T_goto 18 dX10_isIn_14 (by decide) ?_
      exact T_zreturn dX10_isIn_18 (Nat.le_of_ble_eq_true rfl) (Nat.le_of_ble_eq_true rfl) h

def D_X10_its (a0 : Nat) (i1 : Int32) (i2 : Int32) (s0 : Hp) : Option (Int32 × Hp) :=
  (isO s0 a0 9).bind fun _ =>
  (getR s0 a0 9 0).bind fun a11 =>
  (ldI s0 a11 (((7 : Int32) + ((5 : Int32) * i1)) + i2)).bind fun i12 =>
  some (i12, s0)
set_option maxRecDepth 100000 in
set_option maxHeartbeats 4000000 in
theorem K_X10_its {l : Launch} {a0 : Nat} {i1 : Int32} {i2 : Int32} {s0 : Hp} : ∀ P, OK jI (D_X10_its a0 i1 i2 s0) P → sm_Ct l yX10_its cX10_its 3 (some .int) 0 0 0 [.ref a0, .int i1, .int i2] s0 P := by
  intro P h
  unfold D_X10_its at h
  obtain ⟨_, hb0, h⟩ := h.bind
  refine sm_enter (own := RX10) (lv := [(0, .ref a0), (1, .int i1), (2, .int i2)]) (by decide) rfl (Nat.le_of_ble_eq_true rfl) rfl (fun G => ?_)
  refine T_aload_n dX10_its_0 rfl 0 rfl ?_
  refine T_getR dX10_its_1 fl_RX10_7 h (fun a11 h => ?_)
  refine T_bipush (7 : Int32) dX10_its_4 (by decide) ?_
  refine T_iconst (5 : Int32) dX10_its_6 (by decide) ?_
  refine T_iload_n dX10_its_7 rfl 1 rfl ?_
  refine T_imul dX10_its_8 ?_
  refine T_iadd dX10_its_9 ?_
  refine T_iload_n dX10_its_10 rfl 2 rfl ?_
  refine T_iadd dX10_its_11 ?_
  refine T_iaload dX10_its_12 h (fun i12 h => ?_)
  exact T_ireturn dX10_its_13 (Nat.le_of_ble_eq_true rfl) (Nat.le_of_ble_eq_true rfl) h

def D_X10_sets (a0 : Nat) (i1 : Int32) (i2 : Int32) (i3 : Int32) (s0 : Hp) : Option Hp :=
  (isO s0 a0 9).bind fun _ =>
  (getR s0 a0 9 0).bind fun a11 =>
  (stI s0 a11 (((7 : Int32) + ((5 : Int32) * i1)) + i2) i3).bind fun s12 =>
  some s12
set_option maxRecDepth 100000 in
set_option maxHeartbeats 4000000 in
theorem K_X10_sets {l : Launch} {a0 : Nat} {i1 : Int32} {i2 : Int32} {i3 : Int32} {s0 : Hp} : ∀ P, OK jV (D_X10_sets a0 i1 i2 i3 s0) P → sm_Ct l yX10_sets cX10_sets 4 none 0 0 0 [.ref a0, .int i1, .int i2, .int i3] s0 P := by
  intro P h
  unfold D_X10_sets at h
  obtain ⟨_, hb0, h⟩ := h.bind
  refine sm_enter (own := RX10) (lv := [(0, .ref a0), (1, .int i1), (2, .int i2), (3, .int i3)]) (by decide) rfl (Nat.le_of_ble_eq_true rfl) rfl (fun G => ?_)
  refine T_aload_n dX10_sets_0 rfl 0 rfl ?_
  refine T_getR dX10_sets_1 fl_RX10_7 h (fun a11 h => ?_)
  refine T_bipush (7 : Int32) dX10_sets_4 (by decide) ?_
  refine T_iconst (5 : Int32) dX10_sets_6 (by decide) ?_
  refine T_iload_n dX10_sets_7 rfl 1 rfl ?_
  refine T_imul dX10_sets_8 ?_
  refine T_iadd dX10_sets_9 ?_
  refine T_iload_n dX10_sets_10 rfl 2 rfl ?_
  refine T_iadd dX10_sets_11 ?_
  refine T_iload_n dX10_sets_12 rfl 3 rfl ?_
  refine T_iastore dX10_sets_13 h (fun s12 h => ?_)
  exact T_vreturn dX10_sets_14 (Nat.le_of_ble_eq_true rfl) (Nat.le_of_ble_eq_true rfl) h

def D_X10_size (i0 : Int32) (s0 : Hp) : Option (Int32 × Hp) :=
  if 0 ≤ i0 then
  some (i0, s0)
  else
  some ((-i0), s0)
set_option maxRecDepth 100000 in
set_option maxHeartbeats 4000000 in
theorem K_X10_size {l : Launch} {i0 : Int32} {s0 : Hp} : ∀ P, OK jI (D_X10_size i0 s0) P → sm_Ct l yX10_size cX10_size 1 (some .int) 0 0 0 [.int i0] s0 P := by
  intro P h
  unfold D_X10_size at h
  refine sm_enter (own := RX10) (lv := [(0, .int i0)]) (by decide) rfl (Nat.le_of_ble_eq_true rfl) rfl (fun G => ?_)
  refine T_iload_n dX10_size_0 rfl 0 rfl ?_
  refine T_if_ge 9 dX10_size_1 (by decide) h (fun _ h => ?_) (fun _ h => ?_)
  · refine T_iload_n dX10_size_9 rfl 0 rfl ?_
    exact T_ireturn dX10_size_10 (Nat.le_of_ble_eq_true rfl) (Nat.le_of_ble_eq_true rfl) h
  · refine T_iload_n dX10_size_4 rfl 0 rfl ?_
    refine T_ineg dX10_size_5 ?_
    refine T_goto 10 dX10_size_6 (by decide) ?_
    exact T_ireturn dX10_size_10 (Nat.le_of_ble_eq_true rfl) (Nat.le_of_ble_eq_true rfl) h

def D_X10_sorts_w15 (a17 : Nat) (i18 : Int32) (k61 : Int32 → Hp → Option Hp) : Nat → Int32 → Hp → Option Hp
  | 0, _, _ => none
  | n21 + 1, i19, s20 =>
  if i19 ≤ 0 then
  k61 i19 s20
  else
  (getR s20 a17 9 7).bind fun a22 =>
  (getR s20 a17 9 10).bind fun a23 =>
  (ldI s20 a23 (i19 - (1 : Int32))).bind fun i24 =>
  (ldI s20 a22 i24).bind fun i25 =>
  (getR s20 a17 9 7).bind fun a26 =>
  (ldI s20 a26 i18).bind fun i27 =>
  if i27 ≤ i25 then
  k61 i19 s20
  else
  (getR s20 a17 9 10).bind fun a28 =>
  (getR s20 a17 9 10).bind fun a29 =>
  (ldI s20 a29 (i19 - (1 : Int32))).bind fun i30 =>
  (stI s20 a28 i19 i30).bind fun s31 =>
  D_X10_sorts_w15 a17 i18 k61 n21 (i19 + (-1)) s31
def D_X10_sorts_b61 (k2 : Int32 → Hp → Option Hp) (a36 : Nat) (i37 : Int32) (i38 : Int32) (s39 : Hp) : Option Hp :=
  (getR s39 a36 9 10).bind fun a40 =>
  (stI s39 a40 i38 i37).bind fun s41 =>
  k2 (i37 + 1) s41
def D_X10_sorts_w2 (a11 : Nat) (k74 : Hp → Option Hp) : Nat → Int32 → Hp → Option Hp
  | 0, _, _ => none
  | n14 + 1, i12, s13 =>
  (getR s13 a11 9 0).bind fun a15 =>
  (ldI s13 a15 (6 : Int32)).bind fun i16 =>
  if i16 ≤ i12 then
  k74 s13
  else
  D_X10_sorts_w15 a11 i12 (fun i35 s34 =>
  D_X10_sorts_b61 (D_X10_sorts_w2 a11 k74 n14) a11 i12 i35 s34
  ) FU i12 s13
def D_X10_sorts (a0 : Nat) (s0 : Hp) : Option Hp :=
  (isO s0 a0 9).bind fun _ =>
  D_X10_sorts_w2 a0 (fun s45 =>
  some s45
  ) FU (0 : Int32) s0
set_option maxRecDepth 100000 in
set_option maxHeartbeats 4000000 in
theorem K_X10_sorts_w15 {l : Launch} {G : smG} {P : Option Value → Hp → Prop} {a17 : Nat} {i18 : Int32} {k61 : Int32 → Hp → Option Hp} (hk61 : ∀ (i32 : Int32) (s33 : Hp), OK jV (k61 i32 s33) P → T l G RX10 cX10_sorts 3 (sm_rm 0 0 0) (sm_E none yX10_sorts.name) (sm_Qs G P 0 0) 0 0 61 [(0, .ref a17), (1, .int i18), (2, .int i32)] [] s33) : ∀ (n : Nat) (i19 : Int32) (s20 : Hp), OK jV (D_X10_sorts_w15 a17 i18 k61 n i19 s20) P → T l G RX10 cX10_sorts 3 (sm_rm 0 0 0) (sm_E none yX10_sorts.name) (sm_Qs G P 0 0) 0 0 15 [(0, .ref a17), (1, .int i18), (2, .int i19)] [] s20 := by
  intro n
  induction n with
  | zero => intro i19 s20 h; obtain ⟨_, h0, _⟩ := h; exact absurd h0 (by simp [D_X10_sorts_w15])
  | succ n21 ih =>
    intro i19 s20 h
    unfold D_X10_sorts_w15 at h
    refine T_iload_n dX10_sorts_15 rfl 2 rfl ?_
    refine T_if_le 61 dX10_sorts_16 (by decide) h (fun _ h => ?_) (fun _ h => ?_)
    · exact hk61 i19 s20 h
    · refine T_aload_n dX10_sorts_19 rfl 0 rfl ?_
      refine T_getR dX10_sorts_20 fl_RX10_28 h (fun a22 h => ?_)
      refine T_aload_n dX10_sorts_23 rfl 0 rfl ?_
      refine T_getR dX10_sorts_24 fl_RX10_37 h (fun a23 h => ?_)
      refine T_iload_n dX10_sorts_27 rfl 2 rfl ?_
      refine T_iconst (1 : Int32) dX10_sorts_28 (by decide) ?_
      refine T_isub dX10_sorts_29 ?_
      refine T_iaload dX10_sorts_30 h (fun i24 h => ?_)
      refine T_iaload dX10_sorts_31 h (fun i25 h => ?_)
      refine T_aload_n dX10_sorts_32 rfl 0 rfl ?_
      refine T_getR dX10_sorts_33 fl_RX10_28 h (fun a26 h => ?_)
      refine T_iload_n dX10_sorts_36 rfl 1 rfl ?_
      refine T_iaload dX10_sorts_37 h (fun i27 h => ?_)
      refine T_icmp_ge 61 dX10_sorts_38 (by decide) h (fun _ h => ?_) (fun _ h => ?_)
      · exact hk61 i19 s20 h
      · refine T_aload_n dX10_sorts_41 rfl 0 rfl ?_
        refine T_getR dX10_sorts_42 fl_RX10_37 h (fun a28 h => ?_)
        refine T_iload_n dX10_sorts_45 rfl 2 rfl ?_
        refine T_aload_n dX10_sorts_46 rfl 0 rfl ?_
        refine T_getR dX10_sorts_47 fl_RX10_37 h (fun a29 h => ?_)
        refine T_iload_n dX10_sorts_50 rfl 2 rfl ?_
        refine T_iconst (1 : Int32) dX10_sorts_51 (by decide) ?_
        refine T_isub dX10_sorts_52 ?_
        refine T_iaload dX10_sorts_53 h (fun i30 h => ?_)
        refine T_iastore dX10_sorts_54 h (fun s31 h => ?_)
        refine T_iinc (i19 + (-1)) (lv' := [(2, .int (i19 + (-1))), (0, .ref a17), (1, .int i18)]) dX10_sorts_55 (j := 2) rfl rfl (by decide) rfl ?_
        refine T_goto 15 dX10_sorts_58 (by decide) ?_
        refine T_lv (lv' := [(0, .ref a17), (1, .int i18), (2, .int (i19 + (-1)))]) [1, 2, 0] rfl ?_
        exact ih (i19 + (-1)) s31 h
set_option maxRecDepth 100000 in
set_option maxHeartbeats 4000000 in
theorem K_X10_sorts_b61 {l : Launch} {G : smG} {P : Option Value → Hp → Prop} {k2 : Int32 → Hp → Option Hp} {a36 : Nat} {i37 : Int32} {i38 : Int32} {s39 : Hp} (hk2 : ∀ (i42 : Int32) (s43 : Hp), OK jV (k2 i42 s43) P → T l G RX10 cX10_sorts 3 (sm_rm 0 0 0) (sm_E none yX10_sorts.name) (sm_Qs G P 0 0) 0 0 2 [(0, .ref a36), (1, .int i42)] [] s43) (h : OK jV (D_X10_sorts_b61 k2 a36 i37 i38 s39) P) : T l G RX10 cX10_sorts 3 (sm_rm 0 0 0) (sm_E none yX10_sorts.name) (sm_Qs G P 0 0) 0 0 61 [(0, .ref a36), (1, .int i37), (2, .int i38)] [] s39 := by
  unfold D_X10_sorts_b61 at h
  refine T_aload_n dX10_sorts_61 rfl 0 rfl ?_
  refine T_getR dX10_sorts_62 fl_RX10_37 h (fun a40 h => ?_)
  refine T_iload_n dX10_sorts_65 rfl 2 rfl ?_
  refine T_iload_n dX10_sorts_66 rfl 1 rfl ?_
  refine T_iastore dX10_sorts_67 h (fun s41 h => ?_)
  refine T_iinc (i37 + 1) (lv' := [(1, .int (i37 + 1)), (0, .ref a36), (2, .int i38)]) dX10_sorts_68 (j := 1) rfl rfl (by decide) rfl ?_
  refine T_goto 2 dX10_sorts_71 (by decide) ?_
  refine T_lv (lv' := [(0, .ref a36), (1, .int (i37 + 1))]) [1, 0] rfl ?_
  exact hk2 (i37 + 1) s41 h
set_option maxRecDepth 100000 in
set_option maxHeartbeats 4000000 in
theorem K_X10_sorts_w2 {l : Launch} {G : smG} {P : Option Value → Hp → Prop} {a11 : Nat} {k74 : Hp → Option Hp} (hk74 : ∀  (s44 : Hp), OK jV (k74 s44) P → T l G RX10 cX10_sorts 3 (sm_rm 0 0 0) (sm_E none yX10_sorts.name) (sm_Qs G P 0 0) 0 0 74 [] [] s44) : ∀ (n : Nat) (i12 : Int32) (s13 : Hp), OK jV (D_X10_sorts_w2 a11 k74 n i12 s13) P → T l G RX10 cX10_sorts 3 (sm_rm 0 0 0) (sm_E none yX10_sorts.name) (sm_Qs G P 0 0) 0 0 2 [(0, .ref a11), (1, .int i12)] [] s13 := by
  intro n
  induction n with
  | zero => intro i12 s13 h; obtain ⟨_, h0, _⟩ := h; exact absurd h0 (by simp [D_X10_sorts_w2])
  | succ n14 ih =>
    intro i12 s13 h
    unfold D_X10_sorts_w2 at h
    refine T_iload_n dX10_sorts_2 rfl 1 rfl ?_
    refine T_aload_n dX10_sorts_3 rfl 0 rfl ?_
    refine T_getR dX10_sorts_4 fl_RX10_7 h (fun a15 h => ?_)
    refine T_bipush (6 : Int32) dX10_sorts_7 (by decide) ?_
    refine T_iaload dX10_sorts_9 h (fun i16 h => ?_)
    refine T_icmp_ge 74 dX10_sorts_10 (by decide) h (fun _ h => ?_) (fun _ h => ?_)
    · refine T_lv (lv' := []) [] rfl ?_
      exact hk74 s13 h
    · refine T_iload_n dX10_sorts_13 rfl 1 rfl ?_
      refine T_istore_n (lv' := [(2, .int i12), (0, .ref a11), (1, .int i12)]) dX10_sorts_14 rfl (by decide) rfl ?_
      refine T_lv (lv' := [(0, .ref a11), (1, .int i12), (2, .int i12)]) [1, 2, 0] rfl ?_
      refine K_X10_sorts_w15 ?_ FU i12 s13 h
      intro i35 s34 h
      exact K_X10_sorts_b61 ih h
set_option maxRecDepth 100000 in
set_option maxHeartbeats 4000000 in
theorem K_X10_sorts {l : Launch} {a0 : Nat} {s0 : Hp} : ∀ P, OK jV (D_X10_sorts a0 s0) P → sm_Ct l yX10_sorts cX10_sorts 3 none 0 0 0 [.ref a0] s0 P := by
  intro P h
  unfold D_X10_sorts at h
  obtain ⟨_, hb0, h⟩ := h.bind
  refine sm_enter (own := RX10) (lv := [(0, .ref a0)]) (by decide) rfl (Nat.le_of_ble_eq_true rfl) rfl (fun G => ?_)
  refine T_iconst (0 : Int32) dX10_sorts_0 (by decide) ?_
  refine T_istore_n (lv' := [(1, .int (0 : Int32)), (0, .ref a0)]) dX10_sorts_1 rfl (by decide) rfl ?_
  refine T_lv (lv' := [(0, .ref a0), (1, .int (0 : Int32))]) [1, 0] rfl ?_
  refine K_X10_sorts_w2 ?_ FU (0 : Int32) s0 h
  intro s45 h
  exact T_vreturn dX10_sorts_74 (Nat.le_of_ble_eq_true rfl) (Nat.le_of_ble_eq_true rfl) h

def D_X10_takesOut_w18 (a15 : Nat) (k54 : Hp → Option Hp) : Nat → Int32 → Hp → Option Hp
  | 0, _, _ => none
  | n18 + 1, i16, s17 =>
  (getR s17 a15 9 0).bind fun a19 =>
  (ldI s17 a19 (6 : Int32)).bind fun i20 =>
  if ((7 : Int32) + ((5 : Int32) * i20)) ≤ i16 then
  k54 s17
  else
  (getR s17 a15 9 0).bind fun a21 =>
  (getR s17 a15 9 0).bind fun a22 =>
  (ldI s17 a22 (i16 + (5 : Int32))).bind fun i23 =>
  (stI s17 a21 i16 i23).bind fun s24 =>
  D_X10_takesOut_w18 a15 k54 n18 (i16 + 1) s24
def D_X10_takesOut (a0 : Nat) (i1 : Int32) (s0 : Hp) : Option Hp :=
  (isO s0 a0 9).bind fun _ =>
  (getR s0 a0 9 0).bind fun a11 =>
  (ldI s0 a11 (6 : Int32)).bind fun i12 =>
  (stI s0 a11 (6 : Int32) (i12 - (1 : Int32))).bind fun s13 =>
  nm ((7 : Int32) + ((5 : Int32) * i1)) fun i14 =>
  D_X10_takesOut_w18 a0 (fun s26 =>
  some s26
  ) FU i14 s13
set_option maxRecDepth 100000 in
set_option maxHeartbeats 4000000 in
theorem K_X10_takesOut_w18 {l : Launch} {G : smG} {P : Option Value → Hp → Prop} {a15 : Nat} {k54 : Hp → Option Hp} (hk54 : ∀  (s25 : Hp), OK jV (k54 s25) P → T l G RX10 cX10_takesOut 3 (sm_rm 0 0 0) (sm_E none yX10_takesOut.name) (sm_Qs G P 0 0) 0 0 54 [] [] s25) : ∀ (n : Nat) (i16 : Int32) (s17 : Hp), OK jV (D_X10_takesOut_w18 a15 k54 n i16 s17) P → T l G RX10 cX10_takesOut 3 (sm_rm 0 0 0) (sm_E none yX10_takesOut.name) (sm_Qs G P 0 0) 0 0 18 [(0, .ref a15), (2, .int i16)] [] s17 := by
  intro n
  induction n with
  | zero => intro i16 s17 h; obtain ⟨_, h0, _⟩ := h; exact absurd h0 (by simp [D_X10_takesOut_w18])
  | succ n18 ih =>
    intro i16 s17 h
    unfold D_X10_takesOut_w18 at h
    refine T_iload_n dX10_takesOut_18 rfl 1 rfl ?_
    refine T_bipush (7 : Int32) dX10_takesOut_19 (by decide) ?_
    refine T_iconst (5 : Int32) dX10_takesOut_21 (by decide) ?_
    refine T_aload_n dX10_takesOut_22 rfl 0 rfl ?_
    refine T_getR dX10_takesOut_23 fl_RX10_7 h (fun a19 h => ?_)
    refine T_bipush (6 : Int32) dX10_takesOut_26 (by decide) ?_
    refine T_iaload dX10_takesOut_28 h (fun i20 h => ?_)
    refine T_imul dX10_takesOut_29 ?_
    refine T_iadd dX10_takesOut_30 ?_
    refine T_icmp_ge 54 dX10_takesOut_31 (by decide) h (fun _ h => ?_) (fun _ h => ?_)
    · refine T_lv (lv' := []) [] rfl ?_
      exact hk54 s17 h
    · refine T_aload_n dX10_takesOut_34 rfl 0 rfl ?_
      refine T_getR dX10_takesOut_35 fl_RX10_7 h (fun a21 h => ?_)
      refine T_iload_n dX10_takesOut_38 rfl 1 rfl ?_
      refine T_aload_n dX10_takesOut_39 rfl 0 rfl ?_
      refine T_getR dX10_takesOut_40 fl_RX10_7 h (fun a22 h => ?_)
      refine T_iload_n dX10_takesOut_43 rfl 1 rfl ?_
      refine T_iconst (5 : Int32) dX10_takesOut_44 (by decide) ?_
      refine T_iadd dX10_takesOut_45 ?_
      refine T_iaload dX10_takesOut_46 h (fun i23 h => ?_)
      refine T_iastore dX10_takesOut_47 h (fun s24 h => ?_)
      refine T_iinc (i16 + 1) (lv' := [(2, .int (i16 + 1)), (0, .ref a15)]) dX10_takesOut_48 (j := 1) rfl rfl (by decide) rfl ?_
      refine T_goto 18 dX10_takesOut_51 (by decide) ?_
      refine T_lv (lv' := [(0, .ref a15), (2, .int (i16 + 1))]) [1, 0] rfl ?_
      exact ih (i16 + 1) s24 h
set_option maxRecDepth 100000 in
set_option maxHeartbeats 4000000 in
theorem K_X10_takesOut {l : Launch} {a0 : Nat} {i1 : Int32} {s0 : Hp} : ∀ P, OK jV (D_X10_takesOut a0 i1 s0) P → sm_Ct l yX10_takesOut cX10_takesOut 3 none 0 0 0 [.ref a0, .int i1] s0 P := by
  intro P h
  unfold D_X10_takesOut at h
  obtain ⟨_, hb0, h⟩ := h.bind
  refine sm_enter (own := RX10) (lv := [(0, .ref a0), (1, .int i1)]) (by decide) rfl (Nat.le_of_ble_eq_true rfl) rfl (fun G => ?_)
  refine T_aload_n dX10_takesOut_0 rfl 0 rfl ?_
  refine T_getR dX10_takesOut_1 fl_RX10_7 h (fun a11 h => ?_)
  refine T_bipush (6 : Int32) dX10_takesOut_4 (by decide) ?_
  refine T_dup2 dX10_takesOut_6 rfl rfl ?_
  refine T_iaload dX10_takesOut_7 h (fun i12 h => ?_)
  refine T_iconst (1 : Int32) dX10_takesOut_8 (by decide) ?_
  refine T_isub dX10_takesOut_9 ?_
  refine T_iastore dX10_takesOut_10 h (fun s13 h => ?_)
  refine T_bipush (7 : Int32) dX10_takesOut_11 (by decide) ?_
  refine T_iconst (5 : Int32) dX10_takesOut_13 (by decide) ?_
  refine T_iload_n dX10_takesOut_14 rfl 1 rfl ?_
  refine T_imul dX10_takesOut_15 ?_
  refine T_iadd dX10_takesOut_16 ?_
  refine T_nm h (fun i14 h => ?_)
  refine T_istore_n (lv' := [(2, .int i14), (0, .ref a0), (1, .int i1)]) dX10_takesOut_17 rfl (by decide) rfl ?_
  refine T_lv (lv' := [(0, .ref a0), (2, .int i14)]) [1, 0] rfl ?_
  refine K_X10_takesOut_w18 ?_ FU i14 s13 h
  intro s26 h
  exact T_vreturn dX10_takesOut_54 (Nat.le_of_ble_eq_true rfl) (Nat.le_of_ble_eq_true rfl) h

def D_X10_undo_w22 (a14 : Nat) (k56 : Hp → Option (Int32 × Hp)) : Nat → Int32 → Hp → Option (Int32 × Hp)
  | 0, _, _ => none
  | n17 + 1, i15, s16 =>
  if (132 : Int32) ≤ i15 then
  k56 s16
  else
  (getR s16 a14 9 0).bind fun a18 =>
  (getR s16 a14 9 3).bind fun a19 =>
  (getI s16 a14 9 4).bind fun i20 =>
  (ldI s16 a19 (((132 : Int32) * i20) + i15)).bind fun i21 =>
  (stI s16 a18 i15 i21).bind fun s22 =>
  D_X10_undo_w22 a14 k56 n17 (i15 + 1) s22
def D_X10_undo (a0 : Nat) (s0 : Hp) : Option (Int32 × Hp) :=
  (isO s0 a0 9).bind fun _ =>
  (getI s0 a0 9 4).bind fun i11 =>
  if i11 = 0 then
  some ((-5 : Int32), s0)
  else
  (getI s0 a0 9 4).bind fun i12 =>
  (putI s0 a0 9 4 (i12 - (1 : Int32))).bind fun s13 =>
  D_X10_undo_w22 a0 (fun s24 =>
  (getI s24 a0 9 4).bind fun i25 =>
  some (i25, s24)
  ) FU (0 : Int32) s13
set_option maxRecDepth 100000 in
set_option maxHeartbeats 4000000 in
theorem K_X10_undo_w22 {l : Launch} {G : smG} {P : Option Value → Hp → Prop} {a14 : Nat} {k56 : Hp → Option (Int32 × Hp)} (hk56 : ∀  (s23 : Hp), OK jI (k56 s23) P → T l G RX10 cX10_undo 2 (sm_rm 0 0 0) (sm_E (some .int) yX10_undo.name) (sm_Qs G P 0 0) 0 0 56 [(0, .ref a14)] [] s23) : ∀ (n : Nat) (i15 : Int32) (s16 : Hp), OK jI (D_X10_undo_w22 a14 k56 n i15 s16) P → T l G RX10 cX10_undo 2 (sm_rm 0 0 0) (sm_E (some .int) yX10_undo.name) (sm_Qs G P 0 0) 0 0 22 [(0, .ref a14), (1, .int i15)] [] s16 := by
  intro n
  induction n with
  | zero => intro i15 s16 h; obtain ⟨_, h0, _⟩ := h; exact absurd h0 (by simp [D_X10_undo_w22])
  | succ n17 ih =>
    intro i15 s16 h
    unfold D_X10_undo_w22 at h
    refine T_iload_n dX10_undo_22 rfl 1 rfl ?_
    refine T_sipush (132 : Int32) dX10_undo_23 (by decide) ?_
    refine T_icmp_ge 56 dX10_undo_26 (by decide) h (fun _ h => ?_) (fun _ h => ?_)
    · refine T_lv (lv' := [(0, .ref a14)]) [0] rfl ?_
      exact hk56 s16 h
    · refine T_aload_n dX10_undo_29 rfl 0 rfl ?_
      refine T_getR dX10_undo_30 fl_RX10_7 h (fun a18 h => ?_)
      refine T_iload_n dX10_undo_33 rfl 1 rfl ?_
      refine T_aload_n dX10_undo_34 rfl 0 rfl ?_
      refine T_getR dX10_undo_35 fl_RX10_19 h (fun a19 h => ?_)
      refine T_sipush (132 : Int32) dX10_undo_38 (by decide) ?_
      refine T_aload_n dX10_undo_41 rfl 0 rfl ?_
      refine T_getI dX10_undo_42 fl_RX10_43 h (fun i20 h => ?_)
      refine T_imul dX10_undo_45 ?_
      refine T_iload_n dX10_undo_46 rfl 1 rfl ?_
      refine T_iadd dX10_undo_47 ?_
      refine T_iaload dX10_undo_48 h (fun i21 h => ?_)
      refine T_iastore dX10_undo_49 h (fun s22 h => ?_)
      refine T_iinc (i15 + 1) (lv' := [(1, .int (i15 + 1)), (0, .ref a14)]) dX10_undo_50 (j := 1) rfl rfl (by decide) rfl ?_
      refine T_goto 22 dX10_undo_53 (by decide) ?_
      refine T_lv (lv' := [(0, .ref a14), (1, .int (i15 + 1))]) [1, 0] rfl ?_
      exact ih (i15 + 1) s22 h
set_option maxRecDepth 100000 in
set_option maxHeartbeats 4000000 in
theorem K_X10_undo {l : Launch} {a0 : Nat} {s0 : Hp} : ∀ P, OK jI (D_X10_undo a0 s0) P → sm_Ct l yX10_undo cX10_undo 2 (some .int) 0 0 0 [.ref a0] s0 P := by
  intro P h
  unfold D_X10_undo at h
  obtain ⟨_, hb0, h⟩ := h.bind
  refine sm_enter (own := RX10) (lv := [(0, .ref a0)]) (by decide) rfl (Nat.le_of_ble_eq_true rfl) rfl (fun G => ?_)
  refine T_aload_n dX10_undo_0 rfl 0 rfl ?_
  refine T_getI dX10_undo_1 fl_RX10_43 h (fun i11 h => ?_)
  refine T_if_ne 10 dX10_undo_4 (by decide) h (fun _ h => ?_) (fun _ h => ?_)
  · refine T_aload_n dX10_undo_10 rfl 0 rfl ?_
    refine T_dup dX10_undo_11 rfl ?_
    refine T_getI dX10_undo_12 fl_RX10_43 h (fun i12 h => ?_)
    refine T_iconst (1 : Int32) dX10_undo_15 (by decide) ?_
    refine T_isub dX10_undo_16 ?_
    refine T_putI dX10_undo_17 fl_RX10_43 ft_9_4 h (fun s13 h => ?_)
    refine T_iconst (0 : Int32) dX10_undo_20 (by decide) ?_
    refine T_istore_n (lv' := [(1, .int (0 : Int32)), (0, .ref a0)]) dX10_undo_21 rfl (by decide) rfl ?_
    refine T_lv (lv' := [(0, .ref a0), (1, .int (0 : Int32))]) [1, 0] rfl ?_
    refine K_X10_undo_w22 ?_ FU (0 : Int32) s13 h
    intro s24 h
    refine T_aload_n dX10_undo_56 rfl 0 rfl ?_
    refine T_getI dX10_undo_57 fl_RX10_43 h (fun i25 h => ?_)
    exact T_ireturn dX10_undo_60 (Nat.le_of_ble_eq_true rfl) (Nat.le_of_ble_eq_true rfl) h
  · refine T_bipush (-5 : Int32) dX10_undo_7 (by decide) ?_
    exact T_ireturn dX10_undo_9 (Nat.le_of_ble_eq_true rfl) (Nat.le_of_ble_eq_true rfl) h

def D_X10_wipe (a0 : Nat) (s0 : Hp) : Option (Int32 × Hp) :=
  (isO s0 a0 9).bind fun _ =>
  (getI s0 a0 9 12).bind fun i11 =>
  (putI s0 a0 9 12 (0 : Int32)).bind fun s12 =>
  some (i11, s12)
set_option maxRecDepth 100000 in
set_option maxHeartbeats 4000000 in
theorem K_X10_wipe {l : Launch} {a0 : Nat} {s0 : Hp} : ∀ P, OK jI (D_X10_wipe a0 s0) P → sm_Ct l yX10_wipe cX10_wipe 2 (some .int) 0 0 0 [.ref a0] s0 P := by
  intro P h
  unfold D_X10_wipe at h
  obtain ⟨_, hb0, h⟩ := h.bind
  refine sm_enter (own := RX10) (lv := [(0, .ref a0)]) (by decide) rfl (Nat.le_of_ble_eq_true rfl) rfl (fun G => ?_)
  refine T_aload_n dX10_wipe_0 rfl 0 rfl ?_
  refine T_getI dX10_wipe_1 fl_RX10_169 h (fun i11 h => ?_)
  refine T_istore_n (lv' := [(1, .int i11), (0, .ref a0)]) dX10_wipe_4 rfl (by decide) rfl ?_
  refine T_aload_n dX10_wipe_5 rfl 1 rfl ?_
  refine T_iconst (0 : Int32) dX10_wipe_6 (by decide) ?_
  refine T_putI dX10_wipe_7 fl_RX10_169 ft_9_12 h (fun s12 h => ?_)
  refine T_iload_n dX10_wipe_10 rfl 0 rfl ?_
  exact T_ireturn dX10_wipe_11 (Nat.le_of_ble_eq_true rfl) (Nat.le_of_ble_eq_true rfl) h

def D_X1_read (a0 : Nat) (i1 : Int32) (s0 : Hp) : Option (Int32 × Hp) :=
  (isO s0 a0 1).bind fun _ =>
  if i1 < 0 then
  some ((0 : Int32), s0)
  else
  (getR s0 a0 1 0).bind fun a11 =>
  (alen s0 a11).bind fun i12 =>
  if i12 ≤ i1 then
  some ((0 : Int32), s0)
  else
  (getR s0 a0 1 0).bind fun a13 =>
  (ldI s0 a13 i1).bind fun i14 =>
  some (i14, s0)
set_option maxRecDepth 100000 in
set_option maxHeartbeats 4000000 in
theorem K_X1_read {l : Launch} {a0 : Nat} {i1 : Int32} {s0 : Hp} : ∀ P, OK jI (D_X1_read a0 i1 s0) P → sm_Ct l yX1_read cX1_read 2 (some .int) 0 0 0 [.ref a0, .int i1] s0 P := by
  intro P h
  unfold D_X1_read at h
  obtain ⟨_, hb0, h⟩ := h.bind
  refine sm_enter (own := RX1) (lv := [(0, .ref a0), (1, .int i1)]) (by decide) rfl (Nat.le_of_ble_eq_true rfl) rfl (fun G => ?_)
  refine T_iload_n dX1_read_0 rfl 1 rfl ?_
  refine T_if_lt 22 dX1_read_1 (by decide) h (fun _ h => ?_) (fun _ h => ?_)
  · refine T_iconst (0 : Int32) dX1_read_22 (by decide) ?_
    exact T_ireturn dX1_read_23 (Nat.le_of_ble_eq_true rfl) (Nat.le_of_ble_eq_true rfl) h
  · refine T_iload_n dX1_read_4 rfl 1 rfl ?_
    refine T_aload_n dX1_read_5 rfl 0 rfl ?_
    refine T_getR dX1_read_6 fl_RX1_13 h (fun a11 h => ?_)
    refine T_alen dX1_read_9 h (fun i12 h => ?_)
    refine T_icmp_ge 22 dX1_read_10 (by decide) h (fun _ h => ?_) (fun _ h => ?_)
    · refine T_iconst (0 : Int32) dX1_read_22 (by decide) ?_
      exact T_ireturn dX1_read_23 (Nat.le_of_ble_eq_true rfl) (Nat.le_of_ble_eq_true rfl) h
    · refine T_aload_n dX1_read_13 rfl 0 rfl ?_
      refine T_getR dX1_read_14 fl_RX1_13 h (fun a13 h => ?_)
      refine T_iload_n dX1_read_17 rfl 1 rfl ?_
      refine T_iaload dX1_read_18 h (fun i14 h => ?_)
      refine T_goto 23 dX1_read_19 (by decide) ?_
      exact T_ireturn dX1_read_23 (Nat.le_of_ble_eq_true rfl) (Nat.le_of_ble_eq_true rfl) h

def D_X1_write (a0 : Nat) (i1 : Int32) (i2 : Int32) (s0 : Hp) : Option Hp :=
  (isO s0 a0 1).bind fun _ =>
  if i1 < 0 then
  some s0
  else
  (getR s0 a0 1 0).bind fun a11 =>
  (alen s0 a11).bind fun i12 =>
  if i12 ≤ i1 then
  some s0
  else
  (getR s0 a0 1 0).bind fun a13 =>
  (stI s0 a13 i1 i2).bind fun s14 =>
  some s14
set_option maxRecDepth 100000 in
set_option maxHeartbeats 4000000 in
theorem K_X1_write {l : Launch} {a0 : Nat} {i1 : Int32} {i2 : Int32} {s0 : Hp} : ∀ P, OK jV (D_X1_write a0 i1 i2 s0) P → sm_Ct l yX1_write cX1_write 3 none 0 0 0 [.ref a0, .int i1, .int i2] s0 P := by
  intro P h
  unfold D_X1_write at h
  obtain ⟨_, hb0, h⟩ := h.bind
  refine sm_enter (own := RX1) (lv := [(0, .ref a0), (1, .int i1), (2, .int i2)]) (by decide) rfl (Nat.le_of_ble_eq_true rfl) rfl (fun G => ?_)
  refine T_iload_n dX1_write_0 rfl 1 rfl ?_
  refine T_if_lt 20 dX1_write_1 (by decide) h (fun _ h => ?_) (fun _ h => ?_)
  · exact T_vreturn dX1_write_20 (Nat.le_of_ble_eq_true rfl) (Nat.le_of_ble_eq_true rfl) h
  · refine T_iload_n dX1_write_4 rfl 1 rfl ?_
    refine T_aload_n dX1_write_5 rfl 0 rfl ?_
    refine T_getR dX1_write_6 fl_RX1_13 h (fun a11 h => ?_)
    refine T_alen dX1_write_9 h (fun i12 h => ?_)
    refine T_icmp_ge 20 dX1_write_10 (by decide) h (fun _ h => ?_) (fun _ h => ?_)
    · exact T_vreturn dX1_write_20 (Nat.le_of_ble_eq_true rfl) (Nat.le_of_ble_eq_true rfl) h
    · refine T_aload_n dX1_write_13 rfl 0 rfl ?_
      refine T_getR dX1_write_14 fl_RX1_13 h (fun a13 h => ?_)
      refine T_iload_n dX1_write_17 rfl 1 rfl ?_
      refine T_iload_n dX1_write_18 rfl 2 rfl ?_
      refine T_iastore dX1_write_19 h (fun s14 h => ?_)
      exact T_vreturn dX1_write_20 (Nat.le_of_ble_eq_true rfl) (Nat.le_of_ble_eq_true rfl) h

def D_X2_isMirror (a0 : Nat) (i1 : Int32) (s0 : Hp) : Option (Int32 × Hp) :=
  (isO s0 a0 2).bind fun _ =>
  if i1 < 0 then
  retZ (0 : Int32) ((0 : Int32), s0)
  else
  (getI s0 a0 2 6).bind fun i11 =>
  if i11 ≤ i1 then
  retZ (0 : Int32) ((0 : Int32), s0)
  else
  retZ (1 : Int32) ((1 : Int32), s0)
set_option maxRecDepth 100000 in
set_option maxHeartbeats 4000000 in
theorem K_X2_isMirror {l : Launch} {a0 : Nat} {i1 : Int32} {s0 : Hp} : ∀ P, OK jI (D_X2_isMirror a0 i1 s0) P → sm_Ct l yX2_isMirror cX2_isMirror 2 (some .boolean) 0 0 0 [.ref a0, .int i1] s0 P := by
  intro P h
  unfold D_X2_isMirror at h
  obtain ⟨_, hb0, h⟩ := h.bind
  refine sm_enter (own := RX2) (lv := [(0, .ref a0), (1, .int i1)]) (by decide) rfl (Nat.le_of_ble_eq_true rfl) rfl (fun G => ?_)
  refine T_iload_n dX2_isMirror_0 rfl 1 rfl ?_
  refine T_if_lt 16 dX2_isMirror_1 (by decide) h (fun _ h => ?_) (fun _ h => ?_)
  · refine T_iconst (0 : Int32) dX2_isMirror_16 (by decide) ?_
    exact T_zreturn dX2_isMirror_17 (Nat.le_of_ble_eq_true rfl) (Nat.le_of_ble_eq_true rfl) h
  · refine T_iload_n dX2_isMirror_4 rfl 1 rfl ?_
    refine T_aload_n dX2_isMirror_5 rfl 0 rfl ?_
    refine T_getI dX2_isMirror_6 fl_RX2_35 h (fun i11 h => ?_)
    refine T_icmp_ge 16 dX2_isMirror_9 (by decide) h (fun _ h => ?_) (fun _ h => ?_)
    · refine T_iconst (0 : Int32) dX2_isMirror_16 (by decide) ?_
      exact T_zreturn dX2_isMirror_17 (Nat.le_of_ble_eq_true rfl) (Nat.le_of_ble_eq_true rfl) h
    · refine T_iconst (1 : Int32) dX2_isMirror_12 (by decide) ?_
      refine T_goto 17 dX2_isMirror_13 (by decide) ?_
      exact T_zreturn dX2_isMirror_17 (Nat.le_of_ble_eq_true rfl) (Nat.le_of_ble_eq_true rfl) h

def D_X2_isSettingValue (i0 : Int32) (i1 : Int32) (s0 : Hp) : Option (Int32 × Hp) :=
  if i0 = (0 : Int32) then
  if i1 < (1 : Int32) then
  retZ (0 : Int32) ((0 : Int32), s0)
  else
  if (9999 : Int32) < i1 then
  retZ (0 : Int32) ((0 : Int32), s0)
  else
  retZ (1 : Int32) ((1 : Int32), s0)
  else
  if i0 = (1 : Int32) then
  if i1 < (1 : Int32) then
  retZ (0 : Int32) ((0 : Int32), s0)
  else
  if (99 : Int32) < i1 then
  retZ (0 : Int32) ((0 : Int32), s0)
  else
  retZ (1 : Int32) ((1 : Int32), s0)
  else
  if i0 = (2 : Int32) then
  if i1 < 0 then
  retZ (0 : Int32) ((0 : Int32), s0)
  else
  if (20 : Int32) < i1 then
  retZ (0 : Int32) ((0 : Int32), s0)
  else
  retZ (1 : Int32) ((1 : Int32), s0)
  else
  retZ (0 : Int32) ((0 : Int32), s0)
set_option maxRecDepth 100000 in
set_option maxHeartbeats 4000000 in
theorem K_X2_isSettingValue {l : Launch} {i0 : Int32} {i1 : Int32} {s0 : Hp} : ∀ P, OK jI (D_X2_isSettingValue i0 i1 s0) P → sm_Ct l yX2_isSettingValue cX2_isSettingValue 2 (some .boolean) 0 0 0 [.int i0, .int i1] s0 P := by
  intro P h
  unfold D_X2_isSettingValue at h
  refine sm_enter (own := RX2) (lv := [(0, .int i0), (1, .int i1)]) (by decide) rfl (Nat.le_of_ble_eq_true rfl) rfl (fun G => ?_)
  refine T_iload_n dX2_isSettingValue_0 rfl 0 rfl ?_
  refine T_ite h (fun c0 h => ?_) (fun c0 h => ?_)
  · refine T_tableIn 28 dX2_isSettingValue_1 (by rw [c0]; decide) (by rw [c0]; decide) (by rw [c0]; rfl) (by decide) ?_
    refine T_iload_n dX2_isSettingValue_28 rfl 1 rfl ?_
    refine T_iconst (1 : Int32) dX2_isSettingValue_29 (by decide) ?_
    refine T_icmp_lt 44 dX2_isSettingValue_30 (by decide) h (fun _ h => ?_) (fun _ h => ?_)
    · refine T_iconst (0 : Int32) dX2_isSettingValue_44 (by decide) ?_
      exact T_zreturn dX2_isSettingValue_45 (Nat.le_of_ble_eq_true rfl) (Nat.le_of_ble_eq_true rfl) h
    · refine T_iload_n dX2_isSettingValue_33 rfl 1 rfl ?_
      refine T_sipush (9999 : Int32) dX2_isSettingValue_34 (by decide) ?_
      refine T_icmp_gt 44 dX2_isSettingValue_37 (by decide) h (fun _ h => ?_) (fun _ h => ?_)
      · refine T_iconst (0 : Int32) dX2_isSettingValue_44 (by decide) ?_
        exact T_zreturn dX2_isSettingValue_45 (Nat.le_of_ble_eq_true rfl) (Nat.le_of_ble_eq_true rfl) h
      · refine T_iconst (1 : Int32) dX2_isSettingValue_40 (by decide) ?_
        refine T_goto 45 dX2_isSettingValue_41 (by decide) ?_
        exact T_zreturn dX2_isSettingValue_45 (Nat.le_of_ble_eq_true rfl) (Nat.le_of_ble_eq_true rfl) h
  refine T_ite h (fun c1 h => ?_) (fun c1 h => ?_)
  · refine T_tableIn 46 dX2_isSettingValue_1 (by rw [c1]; decide) (by rw [c1]; decide) (by rw [c1]; rfl) (by decide) ?_
    refine T_iload_n dX2_isSettingValue_46 rfl 1 rfl ?_
    refine T_iconst (1 : Int32) dX2_isSettingValue_47 (by decide) ?_
    refine T_icmp_lt 61 dX2_isSettingValue_48 (by decide) h (fun _ h => ?_) (fun _ h => ?_)
    · refine T_iconst (0 : Int32) dX2_isSettingValue_61 (by decide) ?_
      exact T_zreturn dX2_isSettingValue_62 (Nat.le_of_ble_eq_true rfl) (Nat.le_of_ble_eq_true rfl) h
    · refine T_iload_n dX2_isSettingValue_51 rfl 1 rfl ?_
      refine T_bipush (99 : Int32) dX2_isSettingValue_52 (by decide) ?_
      refine T_icmp_gt 61 dX2_isSettingValue_54 (by decide) h (fun _ h => ?_) (fun _ h => ?_)
      · refine T_iconst (0 : Int32) dX2_isSettingValue_61 (by decide) ?_
        exact T_zreturn dX2_isSettingValue_62 (Nat.le_of_ble_eq_true rfl) (Nat.le_of_ble_eq_true rfl) h
      · refine T_iconst (1 : Int32) dX2_isSettingValue_57 (by decide) ?_
        refine T_goto 62 dX2_isSettingValue_58 (by decide) ?_
        exact T_zreturn dX2_isSettingValue_62 (Nat.le_of_ble_eq_true rfl) (Nat.le_of_ble_eq_true rfl) h
  refine T_ite h (fun c2 h => ?_) (fun c2 h => ?_)
  · refine T_tableIn 63 dX2_isSettingValue_1 (by rw [c2]; decide) (by rw [c2]; decide) (by rw [c2]; rfl) (by decide) ?_
    refine T_iload_n dX2_isSettingValue_63 rfl 1 rfl ?_
    refine T_if_lt 77 dX2_isSettingValue_64 (by decide) h (fun _ h => ?_) (fun _ h => ?_)
    · refine T_iconst (0 : Int32) dX2_isSettingValue_77 (by decide) ?_
      exact T_zreturn dX2_isSettingValue_78 (Nat.le_of_ble_eq_true rfl) (Nat.le_of_ble_eq_true rfl) h
    · refine T_iload_n dX2_isSettingValue_67 rfl 1 rfl ?_
      refine T_bipush (20 : Int32) dX2_isSettingValue_68 (by decide) ?_
      refine T_icmp_gt 77 dX2_isSettingValue_70 (by decide) h (fun _ h => ?_) (fun _ h => ?_)
      · refine T_iconst (0 : Int32) dX2_isSettingValue_77 (by decide) ?_
        exact T_zreturn dX2_isSettingValue_78 (Nat.le_of_ble_eq_true rfl) (Nat.le_of_ble_eq_true rfl) h
      · refine T_iconst (1 : Int32) dX2_isSettingValue_73 (by decide) ?_
        refine T_goto 78 dX2_isSettingValue_74 (by decide) ?_
        exact T_zreturn dX2_isSettingValue_78 (Nat.le_of_ble_eq_true rfl) (Nat.le_of_ble_eq_true rfl) h
  refine T_tableOut 79 dX2_isSettingValue_1 (by have e0 := lv_neT (a := 0) c0 rfl; have e1 := lv_neT (a := 1) c1 rfl; have e2 := lv_neT (a := 2) c2 rfl; omega) (by decide) ?_
  refine T_iconst (0 : Int32) dX2_isSettingValue_79 (by decide) ?_
  exact T_zreturn dX2_isSettingValue_80 (Nat.le_of_ble_eq_true rfl) (Nat.le_of_ble_eq_true rfl) h

def D_X3_size (a0 : Nat) (s0 : Hp) : Option (Int32 × Hp) :=
  (isO s0 a0 3).bind fun _ =>
  (getI s0 a0 3 2).bind fun i11 =>
  some (i11, s0)
set_option maxRecDepth 100000 in
set_option maxHeartbeats 4000000 in
theorem K_X3_size {l : Launch} {a0 : Nat} {s0 : Hp} : ∀ P, OK jI (D_X3_size a0 s0) P → sm_Ct l yX3_size cX3_size 1 (some .int) 0 0 0 [.ref a0] s0 P := by
  intro P h
  unfold D_X3_size at h
  obtain ⟨_, hb0, h⟩ := h.bind
  refine sm_enter (own := RX3) (lv := [(0, .ref a0)]) (by decide) rfl (Nat.le_of_ble_eq_true rfl) rfl (fun G => ?_)
  refine T_aload_n dX3_size_0 rfl 0 rfl ?_
  refine T_getI dX3_size_1 fl_RX3_24 h (fun i11 h => ?_)
  exact T_ireturn dX3_size_4 (Nat.le_of_ble_eq_true rfl) (Nat.le_of_ble_eq_true rfl) h

def D_X4_blocked (a0 : Nat) (s0 : Hp) : Option (Int32 × Hp) :=
  (isO s0 a0 4).bind fun _ =>
  (getI s0 a0 4 6).bind fun i11 =>
  some (i11, s0)
set_option maxRecDepth 100000 in
set_option maxHeartbeats 4000000 in
theorem K_X4_blocked {l : Launch} {a0 : Nat} {s0 : Hp} : ∀ P, OK jI (D_X4_blocked a0 s0) P → sm_Ct l yX4_blocked cX4_blocked 1 (some .int) 0 0 0 [.ref a0] s0 P := by
  intro P h
  unfold D_X4_blocked at h
  obtain ⟨_, hb0, h⟩ := h.bind
  refine sm_enter (own := RX4) (lv := [(0, .ref a0)]) (by decide) rfl (Nat.le_of_ble_eq_true rfl) rfl (fun G => ?_)
  refine T_aload_n dX4_blocked_0 rfl 0 rfl ?_
  refine T_getI dX4_blocked_1 fl_RX4_32 h (fun i11 h => ?_)
  exact T_ireturn dX4_blocked_4 (Nat.le_of_ble_eq_true rfl) (Nat.le_of_ble_eq_true rfl) h

def D_X4_isBlocked (a0 : Nat) (i1 : Int32) (s0 : Hp) : Option (Int32 × Hp) :=
  (isO s0 a0 4).bind fun _ =>
  (getI s0 a0 4 6).bind fun i11 =>
  if ((i11 >>> (i1 &&& 31)) &&& (1 : Int32)) = 0 then
  retZ (0 : Int32) ((0 : Int32), s0)
  else
  retZ (1 : Int32) ((1 : Int32), s0)
set_option maxRecDepth 100000 in
set_option maxHeartbeats 4000000 in
theorem K_X4_isBlocked {l : Launch} {a0 : Nat} {i1 : Int32} {s0 : Hp} : ∀ P, OK jI (D_X4_isBlocked a0 i1 s0) P → sm_Ct l yX4_isBlocked cX4_isBlocked 2 (some .boolean) 0 0 0 [.ref a0, .int i1] s0 P := by
  intro P h
  unfold D_X4_isBlocked at h
  obtain ⟨_, hb0, h⟩ := h.bind
  refine sm_enter (own := RX4) (lv := [(0, .ref a0), (1, .int i1)]) (by decide) rfl (Nat.le_of_ble_eq_true rfl) rfl (fun G => ?_)
  refine T_aload_n dX4_isBlocked_0 rfl 0 rfl ?_
  refine T_getI dX4_isBlocked_1 fl_RX4_32 h (fun i11 h => ?_)
  refine T_iload_n dX4_isBlocked_4 rfl 1 rfl ?_
  refine T_ishr dX4_isBlocked_5 ?_
  refine T_iconst (1 : Int32) dX4_isBlocked_6 (by decide) ?_
  refine T_iand dX4_isBlocked_7 ?_
  refine T_if_eq 15 dX4_isBlocked_8 (by decide) h (fun _ h => ?_) (fun _ h => ?_)
  · refine T_iconst (0 : Int32) dX4_isBlocked_15 (by decide) ?_
    exact T_zreturn dX4_isBlocked_16 (Nat.le_of_ble_eq_true rfl) (Nat.le_of_ble_eq_true rfl) h
  · refine T_iconst (1 : Int32) dX4_isBlocked_11 (by decide) ?_
    refine T_goto 16 dX4_isBlocked_12 (by decide) ?_
    exact T_zreturn dX4_isBlocked_16 (Nat.le_of_ble_eq_true rfl) (Nat.le_of_ble_eq_true rfl) h

def D_X4_isUsed (a0 : Nat) (i1 : Int32) (s0 : Hp) : Option (Int32 × Hp) :=
  (isO s0 a0 4).bind fun _ =>
  (getI s0 a0 4 7).bind fun i11 =>
  if ((i11 >>> (i1 &&& 31)) &&& (1 : Int32)) = 0 then
  retZ (0 : Int32) ((0 : Int32), s0)
  else
  retZ (1 : Int32) ((1 : Int32), s0)
set_option maxRecDepth 100000 in
set_option maxHeartbeats 4000000 in
theorem K_X4_isUsed {l : Launch} {a0 : Nat} {i1 : Int32} {s0 : Hp} : ∀ P, OK jI (D_X4_isUsed a0 i1 s0) P → sm_Ct l yX4_isUsed cX4_isUsed 2 (some .boolean) 0 0 0 [.ref a0, .int i1] s0 P := by
  intro P h
  unfold D_X4_isUsed at h
  obtain ⟨_, hb0, h⟩ := h.bind
  refine sm_enter (own := RX4) (lv := [(0, .ref a0), (1, .int i1)]) (by decide) rfl (Nat.le_of_ble_eq_true rfl) rfl (fun G => ?_)
  refine T_aload_n dX4_isUsed_0 rfl 0 rfl ?_
  refine T_getI dX4_isUsed_1 fl_RX4_36 h (fun i11 h => ?_)
  refine T_iload_n dX4_isUsed_4 rfl 1 rfl ?_
  refine T_ishr dX4_isUsed_5 ?_
  refine T_iconst (1 : Int32) dX4_isUsed_6 (by decide) ?_
  refine T_iand dX4_isUsed_7 ?_
  refine T_if_eq 15 dX4_isUsed_8 (by decide) h (fun _ h => ?_) (fun _ h => ?_)
  · refine T_iconst (0 : Int32) dX4_isUsed_15 (by decide) ?_
    exact T_zreturn dX4_isUsed_16 (Nat.le_of_ble_eq_true rfl) (Nat.le_of_ble_eq_true rfl) h
  · refine T_iconst (1 : Int32) dX4_isUsed_11 (by decide) ?_
    refine T_goto 16 dX4_isUsed_12 (by decide) ?_
    exact T_zreturn dX4_isUsed_16 (Nat.le_of_ble_eq_true rfl) (Nat.le_of_ble_eq_true rfl) h

def D_X4_used (a0 : Nat) (s0 : Hp) : Option (Int32 × Hp) :=
  (isO s0 a0 4).bind fun _ =>
  (getI s0 a0 4 7).bind fun i11 =>
  some (i11, s0)
set_option maxRecDepth 100000 in
set_option maxHeartbeats 4000000 in
theorem K_X4_used {l : Launch} {a0 : Nat} {s0 : Hp} : ∀ P, OK jI (D_X4_used a0 s0) P → sm_Ct l yX4_used cX4_used 1 (some .int) 0 0 0 [.ref a0] s0 P := by
  intro P h
  unfold D_X4_used at h
  obtain ⟨_, hb0, h⟩ := h.bind
  refine sm_enter (own := RX4) (lv := [(0, .ref a0)]) (by decide) rfl (Nat.le_of_ble_eq_true rfl) rfl (fun G => ?_)
  refine T_aload_n dX4_used_0 rfl 0 rfl ?_
  refine T_getI dX4_used_1 fl_RX4_36 h (fun i11 h => ?_)
  exact T_ireturn dX4_used_4 (Nat.le_of_ble_eq_true rfl) (Nat.le_of_ble_eq_true rfl) h

def D_X5_empty (a0 : Nat) (s0 : Hp) : Option (Int32 × Hp) :=
  (isO s0 a0 5).bind fun _ =>
  (getI s0 a0 5 1).bind fun i11 =>
  (putI s0 a0 5 1 (0 : Int32)).bind fun s12 =>
  some (i11, s12)
set_option maxRecDepth 100000 in
set_option maxHeartbeats 4000000 in
theorem K_X5_empty {l : Launch} {a0 : Nat} {s0 : Hp} : ∀ P, OK jI (D_X5_empty a0 s0) P → sm_Ct l yX5_empty cX5_empty 2 (some .int) 0 0 0 [.ref a0] s0 P := by
  intro P h
  unfold D_X5_empty at h
  obtain ⟨_, hb0, h⟩ := h.bind
  refine sm_enter (own := RX5) (lv := [(0, .ref a0)]) (by decide) rfl (Nat.le_of_ble_eq_true rfl) rfl (fun G => ?_)
  refine T_aload_n dX5_empty_0 rfl 0 rfl ?_
  refine T_getI dX5_empty_1 fl_RX5_20 h (fun i11 h => ?_)
  refine T_istore_n (lv' := [(1, .int i11), (0, .ref a0)]) dX5_empty_4 rfl (by decide) rfl ?_
  refine T_aload_n dX5_empty_5 rfl 1 rfl ?_
  refine T_iconst (0 : Int32) dX5_empty_6 (by decide) ?_
  refine T_putI dX5_empty_7 fl_RX5_20 ft_5_1 h (fun s12 h => ?_)
  refine T_iload_n dX5_empty_10 rfl 0 rfl ?_
  exact T_ireturn dX5_empty_11 (Nat.le_of_ble_eq_true rfl) (Nat.le_of_ble_eq_true rfl) h
