def D_J7_fill_53178_w5 (a12 : Nat) (i13 : Int32) (i14 : Int32) (k20 : Hp → Option Hp) : Nat → Int32 → Hp → Option Hp
  | 0, _, _ => none
  | n17 + 1, i15, s16 =>
  if i14 ≤ i15 then
  k20 s16
  else
  (stI s16 a12 i15 i13).bind fun s18 =>
  D_J7_fill_53178_w5 a12 i13 i14 k20 n17 (i15 + 1) s18
def D_J7_fill_53178 (a0 : Nat) (i1 : Int32) (s0 : Hp) : Option Hp :=
  (alen s0 a0).bind fun i11 =>
  D_J7_fill_53178_w5 a0 i1 i11 (fun s20 =>
  some s20
  ) FU (0 : Int32) s0
set_option maxRecDepth 100000 in
set_option maxHeartbeats 4000000 in
theorem K_J7_fill_53178_w5 {l : Launch} {G : smG} {P : Option Value → Hp → Prop} {a12 : Nat} {i13 : Int32} {i14 : Int32} {k20 : Hp → Option Hp} (hk20 : ∀  (s19 : Hp), OK jV (k20 s19) P → T l G RJ7 cJ7_fill_53178 4 (sm_rm 0 0 0) (sm_E none yJ7_fill_53178.name) (sm_Qs G P 0 0) 0 0 20 [] [] s19) : ∀ (n : Nat) (i15 : Int32) (s16 : Hp), OK jV (D_J7_fill_53178_w5 a12 i13 i14 k20 n i15 s16) P → T l G RJ7 cJ7_fill_53178 4 (sm_rm 0 0 0) (sm_E none yJ7_fill_53178.name) (sm_Qs G P 0 0) 0 0 5 [(0, .ref a12), (1, .int i13), (2, .int i15), (3, .int i14)] [] s16 := by
  intro n
  induction n with
  | zero => intro i15 s16 h; obtain ⟨_, h0, _⟩ := h; exact absurd h0 (by simp [D_J7_fill_53178_w5])
  | succ n17 ih =>
    intro i15 s16 h
    unfold D_J7_fill_53178_w5 at h
    refine T_iload_n dJ7_fill_53178_5 rfl 2 rfl ?_
    refine T_iload_n dJ7_fill_53178_6 rfl 3 rfl ?_
    refine T_icmp_ge 20 dJ7_fill_53178_7 (by decide) h (fun _ h => ?_) (fun _ h => ?_)
    · refine T_lv (lv' := []) [] rfl ?_
      exact hk20 s16 h
    · refine T_aload_n dJ7_fill_53178_10 rfl 0 rfl ?_
      refine T_iload_n dJ7_fill_53178_11 rfl 2 rfl ?_
      refine T_iload_n dJ7_fill_53178_12 rfl 1 rfl ?_
      refine T_iastore dJ7_fill_53178_13 h (fun s18 h => ?_)
      refine T_iinc (i15 + 1) (lv' := [(2, .int (i15 + 1)), (0, .ref a12), (1, .int i13), (3, .int i14)]) dJ7_fill_53178_14 (j := 2) rfl rfl (by decide) rfl ?_
      refine T_goto 5 dJ7_fill_53178_17 (by decide) ?_
      refine T_lv (lv' := [(0, .ref a12), (1, .int i13), (2, .int (i15 + 1)), (3, .int i14)]) [1, 2, 0, 3] rfl ?_
      exact ih (i15 + 1) s18 h
set_option maxRecDepth 100000 in
set_option maxHeartbeats 4000000 in
theorem K_J7_fill_53178 {l : Launch} {a0 : Nat} {i1 : Int32} {s0 : Hp} : ∀ P, OK jV (D_J7_fill_53178 a0 i1 s0) P → sm_Ct l yJ7_fill_53178 cJ7_fill_53178 4 none 0 0 0 [.ref a0, .int i1] s0 P := by
  intro P h
  unfold D_J7_fill_53178 at h
  refine sm_enter (own := RJ7) (lv := [(0, .ref a0), (1, .int i1)]) (by decide) rfl (Nat.le_of_ble_eq_true rfl) rfl (fun G => ?_)
  refine T_iconst (0 : Int32) dJ7_fill_53178_0 (by decide) ?_
  refine T_istore_n (lv' := [(2, .int (0 : Int32)), (0, .ref a0), (1, .int i1)]) dJ7_fill_53178_1 rfl (by decide) rfl ?_
  refine T_aload_n dJ7_fill_53178_2 rfl 1 rfl ?_
  refine T_alen dJ7_fill_53178_3 h (fun i11 h => ?_)
  refine T_istore_n (lv' := [(3, .int i11), (2, .int (0 : Int32)), (0, .ref a0), (1, .int i1)]) dJ7_fill_53178_4 rfl (by decide) rfl ?_
  refine T_lv (lv' := [(0, .ref a0), (1, .int i1), (2, .int (0 : Int32)), (3, .int i11)]) [2, 3, 1, 0] rfl ?_
  refine K_J7_fill_53178_w5 ?_ FU (0 : Int32) s0 h
  intro s20 h
  exact T_vreturn dJ7_fill_53178_20 (Nat.le_of_ble_eq_true rfl) (Nat.le_of_ble_eq_true rfl) h

def D_L_cell (L : Nat) (xs : Nat → Int32) (i1 : Int32) (s0 : Hp) : Option (Int32 × Hp) :=
  if (Int32.ofNat L) ≤ i1 then
  some (((2132589013 : Int32) * (i1 + (1129 : Int32))), s0)
  else
  (ldS L xs i1).bind fun i11 =>
  some (i11, s0)
set_option maxRecDepth 100000 in
set_option maxHeartbeats 4000000 in
theorem K_L_cell {l : Launch} {b L : Nat} {xs : Nat → Int32} {i1 : Int32} {s0 : Hp} : ∀ P, OK jI (D_L_cell L xs i1 s0) P → sm_CtC l yL_cell cL_cell 2 (some .int) 0 0 0 [.ref b, .int i1] s0 b L xs P := by
  intro P h
  unfold D_L_cell at h
  refine sm_enterC (own := RL) (lv := [(0, .ref b), (1, .int i1)]) (by decide) rfl (Nat.le_of_ble_eq_true rfl) rfl (fun G => ?_)
  refine T_iload_n dL_cell_0 rfl 1 rfl ?_
  refine T_aload_n dL_cell_1 rfl 0 rfl ?_
  refine T_slen dL_cell_2 ?_
  refine T_icmp_ge 12 dL_cell_3 (by decide) h (fun _ h => ?_) (fun _ h => ?_)
  · refine T_ldc (2132589013 : Int32) dL_cell_12 wd_6_17 ?_
    refine T_iload_n dL_cell_14 rfl 1 rfl ?_
    refine T_sipush (1129 : Int32) dL_cell_15 (by decide) ?_
    refine T_iadd dL_cell_18 ?_
    refine T_imul dL_cell_19 ?_
    exact T_ireturnC dL_cell_20 (Nat.le_of_ble_eq_true rfl) (Nat.le_of_ble_eq_true rfl) h
  · refine T_aload_n dL_cell_6 rfl 0 rfl ?_
    refine T_iload_n dL_cell_7 rfl 1 rfl ?_
    refine T_sld dL_cell_8 h (fun i11 h => ?_)
    refine T_goto 20 dL_cell_9 (by decide) ?_
    exact T_ireturnC dL_cell_20 (Nat.le_of_ble_eq_true rfl) (Nat.le_of_ble_eq_true rfl) h

def D_L_up (i0 : Int32) (i1 : Int32) (s0 : Hp) : Option (Int32 × Hp) :=
  (remI (i0 &&& (2147483647 : Int32)) i1).bind fun i11 =>
  some (i11, s0)
set_option maxRecDepth 100000 in
set_option maxHeartbeats 4000000 in
theorem K_L_up {l : Launch} {i0 : Int32} {i1 : Int32} {s0 : Hp} : ∀ P, OK jI (D_L_up i0 i1 s0) P → sm_Ct l yL_up cL_up 2 (some .int) 0 0 0 [.int i0, .int i1] s0 P := by
  intro P h
  unfold D_L_up at h
  refine sm_enter (own := RL) (lv := [(0, .int i0), (1, .int i1)]) (by decide) rfl (Nat.le_of_ble_eq_true rfl) rfl (fun G => ?_)
  refine T_iload_n dL_up_0 rfl 0 rfl ?_
  refine T_ldc (2147483647 : Int32) dL_up_1 wd_11_11 ?_
  refine T_iand dL_up_3 ?_
  refine T_iload_n dL_up_4 rfl 1 rfl ?_
  refine T_irem dL_up_5 h (fun i11 h => ?_)
  exact T_ireturn dL_up_6 (Nat.le_of_ble_eq_true rfl) (Nat.le_of_ble_eq_true rfl) h

def D_X0_answer (a0 : Nat) (i1 : Int32) (s0 : Hp) : Option (Int32 × Hp) :=
  (isO s0 a0 0).bind fun _ =>
  if i1 = 0 then
  (getI s0 a0 0 3).bind fun i12 =>
  some (i12, s0)
  else
  (getI s0 a0 0 4).bind fun i11 =>
  some (i11, s0)
set_option maxRecDepth 100000 in
set_option maxHeartbeats 4000000 in
theorem K_X0_answer {l : Launch} {a0 : Nat} {i1 : Int32} {s0 : Hp} : ∀ P, OK jI (D_X0_answer a0 i1 s0) P → sm_Ct l yX0_answer cX0_answer 2 (some .int) 0 0 0 [.ref a0, .int i1] s0 P := by
  intro P h
  unfold D_X0_answer at h
  obtain ⟨_, hb0, h⟩ := h.bind
  refine sm_enter (own := RX0) (lv := [(0, .ref a0), (1, .int i1)]) (by decide) rfl (Nat.le_of_ble_eq_true rfl) rfl (fun G => ?_)
  refine T_iload_n dX0_answer_0 rfl 1 rfl ?_
  refine T_if_ne 11 dX0_answer_1 (by decide) h (fun _ h => ?_) (fun _ h => ?_)
  · refine T_aload_n dX0_answer_11 rfl 0 rfl ?_
    refine T_getI dX0_answer_12 fl_RX0_31 h (fun i11 h => ?_)
    exact T_ireturn dX0_answer_15 (Nat.le_of_ble_eq_true rfl) (Nat.le_of_ble_eq_true rfl) h
  · refine T_aload_n dX0_answer_4 rfl 0 rfl ?_
    refine T_getI dX0_answer_5 fl_RX0_27 h (fun i12 h => ?_)
    refine T_goto 15 dX0_answer_8 (by decide) ?_
    exact T_ireturn dX0_answer_15 (Nat.le_of_ble_eq_true rfl) (Nat.le_of_ble_eq_true rfl) h

def D_X0_forgetBest (a0 : Nat) (s0 : Hp) : Option Hp :=
  (isO s0 a0 0).bind fun _ =>
  (putI s0 a0 0 3 (-6 : Int32)).bind fun s11 =>
  (putI s11 a0 0 4 (-6 : Int32)).bind fun s12 =>
  some s12
set_option maxRecDepth 100000 in
set_option maxHeartbeats 4000000 in
theorem K_X0_forgetBest {l : Launch} {a0 : Nat} {s0 : Hp} : ∀ P, OK jV (D_X0_forgetBest a0 s0) P → sm_Ct l yX0_forgetBest cX0_forgetBest 1 none 0 0 0 [.ref a0] s0 P := by
  intro P h
  unfold D_X0_forgetBest at h
  obtain ⟨_, hb0, h⟩ := h.bind
  refine sm_enter (own := RX0) (lv := [(0, .ref a0)]) (by decide) rfl (Nat.le_of_ble_eq_true rfl) rfl (fun G => ?_)
  refine T_aload_n dX0_forgetBest_0 rfl 0 rfl ?_
  refine T_bipush (-6 : Int32) dX0_forgetBest_1 (by decide) ?_
  refine T_putI dX0_forgetBest_3 fl_RX0_27 ft_0_3 h (fun s11 h => ?_)
  refine T_aload_n dX0_forgetBest_6 rfl 0 rfl ?_
  refine T_bipush (-6 : Int32) dX0_forgetBest_7 (by decide) ?_
  refine T_putI dX0_forgetBest_9 fl_RX0_31 ft_0_4 h (fun s12 h => ?_)
  exact T_vreturn dX0_forgetBest_12 (Nat.le_of_ble_eq_true rfl) (Nat.le_of_ble_eq_true rfl) h

def D_X1_read (a0 : Nat) (i1 : Int32) (s0 : Hp) : Option (Int32 × Hp) :=
  (isO s0 a0 1).bind fun _ =>
  if i1 < 0 then
  some ((0 : Int32), s0)
  else
  (getR s0 a0 1 0).bind fun a11 =>
  (alen s0 a11).bind fun i12 =>
  if i12 ≤ i1 then
  some ((0 : Int32), s0)
  else
  (getR s0 a0 1 0).bind fun a13 =>
  (ldI s0 a13 i1).bind fun i14 =>
  some (i14, s0)
set_option maxRecDepth 100000 in
set_option maxHeartbeats 4000000 in
theorem K_X1_read {l : Launch} {a0 : Nat} {i1 : Int32} {s0 : Hp} : ∀ P, OK jI (D_X1_read a0 i1 s0) P → sm_Ct l yX1_read cX1_read 2 (some .int) 0 0 0 [.ref a0, .int i1] s0 P := by
  intro P h
  unfold D_X1_read at h
  obtain ⟨_, hb0, h⟩ := h.bind
  refine sm_enter (own := RX1) (lv := [(0, .ref a0), (1, .int i1)]) (by decide) rfl (Nat.le_of_ble_eq_true rfl) rfl (fun G => ?_)
  refine T_iload_n dX1_read_0 rfl 1 rfl ?_
  refine T_if_lt 22 dX1_read_1 (by decide) h (fun _ h => ?_) (fun _ h => ?_)
  · refine T_iconst (0 : Int32) dX1_read_22 (by decide) ?_
    exact T_ireturn dX1_read_23 (Nat.le_of_ble_eq_true rfl) (Nat.le_of_ble_eq_true rfl) h
  · refine T_iload_n dX1_read_4 rfl 1 rfl ?_
    refine T_aload_n dX1_read_5 rfl 0 rfl ?_
    refine T_getR dX1_read_6 fl_RX1_13 h (fun a11 h => ?_)
    refine T_alen dX1_read_9 h (fun i12 h => ?_)
    refine T_icmp_ge 22 dX1_read_10 (by decide) h (fun _ h => ?_) (fun _ h => ?_)
    · refine T_iconst (0 : Int32) dX1_read_22 (by decide) ?_
      exact T_ireturn dX1_read_23 (Nat.le_of_ble_eq_true rfl) (Nat.le_of_ble_eq_true rfl) h
    · refine T_aload_n dX1_read_13 rfl 0 rfl ?_
      refine T_getR dX1_read_14 fl_RX1_13 h (fun a13 h => ?_)
      refine T_iload_n dX1_read_17 rfl 1 rfl ?_
      refine T_iaload dX1_read_18 h (fun i14 h => ?_)
      refine T_goto 23 dX1_read_19 (by decide) ?_
      exact T_ireturn dX1_read_23 (Nat.le_of_ble_eq_true rfl) (Nat.le_of_ble_eq_true rfl) h

def D_X1_write (a0 : Nat) (i1 : Int32) (i2 : Int32) (s0 : Hp) : Option Hp :=
  (isO s0 a0 1).bind fun _ =>
  if i1 < 0 then
  some s0
  else
  (getR s0 a0 1 0).bind fun a11 =>
  (alen s0 a11).bind fun i12 =>
  if i12 ≤ i1 then
  some s0
  else
  (getR s0 a0 1 0).bind fun a13 =>
  (stI s0 a13 i1 i2).bind fun s14 =>
  some s14
set_option maxRecDepth 100000 in
set_option maxHeartbeats 4000000 in
theorem K_X1_write {l : Launch} {a0 : Nat} {i1 : Int32} {i2 : Int32} {s0 : Hp} : ∀ P, OK jV (D_X1_write a0 i1 i2 s0) P → sm_Ct l yX1_write cX1_write 3 none 0 0 0 [.ref a0, .int i1, .int i2] s0 P := by
  intro P h
  unfold D_X1_write at h
  obtain ⟨_, hb0, h⟩ := h.bind
  refine sm_enter (own := RX1) (lv := [(0, .ref a0), (1, .int i1), (2, .int i2)]) (by decide) rfl (Nat.le_of_ble_eq_true rfl) rfl (fun G => ?_)
  refine T_iload_n dX1_write_0 rfl 1 rfl ?_
  refine T_if_lt 20 dX1_write_1 (by decide) h (fun _ h => ?_) (fun _ h => ?_)
  · exact T_vreturn dX1_write_20 (Nat.le_of_ble_eq_true rfl) (Nat.le_of_ble_eq_true rfl) h
  · refine T_iload_n dX1_write_4 rfl 1 rfl ?_
    refine T_aload_n dX1_write_5 rfl 0 rfl ?_
    refine T_getR dX1_write_6 fl_RX1_13 h (fun a11 h => ?_)
    refine T_alen dX1_write_9 h (fun i12 h => ?_)
    refine T_icmp_ge 20 dX1_write_10 (by decide) h (fun _ h => ?_) (fun _ h => ?_)
    · exact T_vreturn dX1_write_20 (Nat.le_of_ble_eq_true rfl) (Nat.le_of_ble_eq_true rfl) h
    · refine T_aload_n dX1_write_13 rfl 0 rfl ?_
      refine T_getR dX1_write_14 fl_RX1_13 h (fun a13 h => ?_)
      refine T_iload_n dX1_write_17 rfl 1 rfl ?_
      refine T_iload_n dX1_write_18 rfl 2 rfl ?_
      refine T_iastore dX1_write_19 h (fun s14 h => ?_)
      exact T_vreturn dX1_write_20 (Nat.le_of_ble_eq_true rfl) (Nat.le_of_ble_eq_true rfl) h

def D_X2_isMirror (a0 : Nat) (i1 : Int32) (s0 : Hp) : Option (Int32 × Hp) :=
  (isO s0 a0 2).bind fun _ =>
  if i1 < 0 then
  retZ (0 : Int32) ((0 : Int32), s0)
  else
  (getI s0 a0 2 6).bind fun i11 =>
  if i11 ≤ i1 then
  retZ (0 : Int32) ((0 : Int32), s0)
  else
  retZ (1 : Int32) ((1 : Int32), s0)
set_option maxRecDepth 100000 in
set_option maxHeartbeats 4000000 in
theorem K_X2_isMirror {l : Launch} {a0 : Nat} {i1 : Int32} {s0 : Hp} : ∀ P, OK jI (D_X2_isMirror a0 i1 s0) P → sm_Ct l yX2_isMirror cX2_isMirror 2 (some .boolean) 0 0 0 [.ref a0, .int i1] s0 P := by
  intro P h
  unfold D_X2_isMirror at h
  obtain ⟨_, hb0, h⟩ := h.bind
  refine sm_enter (own := RX2) (lv := [(0, .ref a0), (1, .int i1)]) (by decide) rfl (Nat.le_of_ble_eq_true rfl) rfl (fun G => ?_)
  refine T_iload_n dX2_isMirror_0 rfl 1 rfl ?_
  refine T_if_lt 16 dX2_isMirror_1 (by decide) h (fun _ h => ?_) (fun _ h => ?_)
  · refine T_iconst (0 : Int32) dX2_isMirror_16 (by decide) ?_
    exact T_zreturn dX2_isMirror_17 (Nat.le_of_ble_eq_true rfl) (Nat.le_of_ble_eq_true rfl) h
  · refine T_iload_n dX2_isMirror_4 rfl 1 rfl ?_
    refine T_aload_n dX2_isMirror_5 rfl 0 rfl ?_
    refine T_getI dX2_isMirror_6 fl_RX2_35 h (fun i11 h => ?_)
    refine T_icmp_ge 16 dX2_isMirror_9 (by decide) h (fun _ h => ?_) (fun _ h => ?_)
    · refine T_iconst (0 : Int32) dX2_isMirror_16 (by decide) ?_
      exact T_zreturn dX2_isMirror_17 (Nat.le_of_ble_eq_true rfl) (Nat.le_of_ble_eq_true rfl) h
    · refine T_iconst (1 : Int32) dX2_isMirror_12 (by decide) ?_
      refine T_goto 17 dX2_isMirror_13 (by decide) ?_
      exact T_zreturn dX2_isMirror_17 (Nat.le_of_ble_eq_true rfl) (Nat.le_of_ble_eq_true rfl) h

def D_X2_isSettingValue (i0 : Int32) (i1 : Int32) (s0 : Hp) : Option (Int32 × Hp) :=
  if i0 = (0 : Int32) then
  if i1 < (1 : Int32) then
  retZ (0 : Int32) ((0 : Int32), s0)
  else
  if (9999 : Int32) < i1 then
  retZ (0 : Int32) ((0 : Int32), s0)
  else
  retZ (1 : Int32) ((1 : Int32), s0)
  else
  if i0 = (1 : Int32) then
  if i1 < (1 : Int32) then
  retZ (0 : Int32) ((0 : Int32), s0)
  else
  if (99 : Int32) < i1 then
  retZ (0 : Int32) ((0 : Int32), s0)
  else
  retZ (1 : Int32) ((1 : Int32), s0)
  else
  if i0 = (2 : Int32) then
  if i1 < 0 then
  retZ (0 : Int32) ((0 : Int32), s0)
  else
  if (20 : Int32) < i1 then
  retZ (0 : Int32) ((0 : Int32), s0)
  else
  retZ (1 : Int32) ((1 : Int32), s0)
  else
  retZ (0 : Int32) ((0 : Int32), s0)
set_option maxRecDepth 100000 in
set_option maxHeartbeats 4000000 in
theorem K_X2_isSettingValue {l : Launch} {i0 : Int32} {i1 : Int32} {s0 : Hp} : ∀ P, OK jI (D_X2_isSettingValue i0 i1 s0) P → sm_Ct l yX2_isSettingValue cX2_isSettingValue 2 (some .boolean) 0 0 0 [.int i0, .int i1] s0 P := by
  intro P h
  unfold D_X2_isSettingValue at h
  refine sm_enter (own := RX2) (lv := [(0, .int i0), (1, .int i1)]) (by decide) rfl (Nat.le_of_ble_eq_true rfl) rfl (fun G => ?_)
  refine T_iload_n dX2_isSettingValue_0 rfl 0 rfl ?_
  refine T_ite h (fun c0 h => ?_) (fun c0 h => ?_)
  · refine T_tableIn 28 dX2_isSettingValue_1 (by rw [c0]; decide) (by rw [c0]; decide) (by rw [c0]; rfl) (by decide) ?_
    refine T_iload_n dX2_isSettingValue_28 rfl 1 rfl ?_
    refine T_iconst (1 : Int32) dX2_isSettingValue_29 (by decide) ?_
    refine T_icmp_lt 44 dX2_isSettingValue_30 (by decide) h (fun _ h => ?_) (fun _ h => ?_)
    · refine T_iconst (0 : Int32) dX2_isSettingValue_44 (by decide) ?_
      exact T_zreturn dX2_isSettingValue_45 (Nat.le_of_ble_eq_true rfl) (Nat.le_of_ble_eq_true rfl) h
    · refine T_iload_n dX2_isSettingValue_33 rfl 1 rfl ?_
      refine T_sipush (9999 : Int32) dX2_isSettingValue_34 (by decide) ?_
      refine T_icmp_gt 44 dX2_isSettingValue_37 (by decide) h (fun _ h => ?_) (fun _ h => ?_)
      · refine T_iconst (0 : Int32) dX2_isSettingValue_44 (by decide) ?_
        exact T_zreturn dX2_isSettingValue_45 (Nat.le_of_ble_eq_true rfl) (Nat.le_of_ble_eq_true rfl) h
      · refine T_iconst (1 : Int32) dX2_isSettingValue_40 (by decide) ?_
        refine T_goto 45 dX2_isSettingValue_41 (by decide) ?_
        exact T_zreturn dX2_isSettingValue_45 (Nat.le_of_ble_eq_true rfl) (Nat.le_of_ble_eq_true rfl) h
  refine T_ite h (fun c1 h => ?_) (fun c1 h => ?_)
  · refine T_tableIn 46 dX2_isSettingValue_1 (by rw [c1]; decide) (by rw [c1]; decide) (by rw [c1]; rfl) (by decide) ?_
    refine T_iload_n dX2_isSettingValue_46 rfl 1 rfl ?_
    refine T_iconst (1 : Int32) dX2_isSettingValue_47 (by decide) ?_
    refine T_icmp_lt 61 dX2_isSettingValue_48 (by decide) h (fun _ h => ?_) (fun _ h => ?_)
    · refine T_iconst (0 : Int32) dX2_isSettingValue_61 (by decide) ?_
      exact T_zreturn dX2_isSettingValue_62 (Nat.le_of_ble_eq_true rfl) (Nat.le_of_ble_eq_true rfl) h
    · refine T_iload_n dX2_isSettingValue_51 rfl 1 rfl ?_
      refine T_bipush (99 : Int32) dX2_isSettingValue_52 (by decide) ?_
      refine T_icmp_gt 61 dX2_isSettingValue_54 (by decide) h (fun _ h => ?_) (fun _ h => ?_)
      · refine T_iconst (0 : Int32) dX2_isSettingValue_61 (by decide) ?_
        exact T_zreturn dX2_isSettingValue_62 (Nat.le_of_ble_eq_true rfl) (Nat.le_of_ble_eq_true rfl) h
      · refine T_iconst (1 : Int32) dX2_isSettingValue_57 (by decide) ?_
        refine T_goto 62 dX2_isSettingValue_58 (by decide) ?_
        exact T_zreturn dX2_isSettingValue_62 (Nat.le_of_ble_eq_true rfl) (Nat.le_of_ble_eq_true rfl) h
  refine T_ite h (fun c2 h => ?_) (fun c2 h => ?_)
  · refine T_tableIn 63 dX2_isSettingValue_1 (by rw [c2]; decide) (by rw [c2]; decide) (by rw [c2]; rfl) (by decide) ?_
    refine T_iload_n dX2_isSettingValue_63 rfl 1 rfl ?_
    refine T_if_lt 77 dX2_isSettingValue_64 (by decide) h (fun _ h => ?_) (fun _ h => ?_)
    · refine T_iconst (0 : Int32) dX2_isSettingValue_77 (by decide) ?_
      exact T_zreturn dX2_isSettingValue_78 (Nat.le_of_ble_eq_true rfl) (Nat.le_of_ble_eq_true rfl) h
    · refine T_iload_n dX2_isSettingValue_67 rfl 1 rfl ?_
      refine T_bipush (20 : Int32) dX2_isSettingValue_68 (by decide) ?_
      refine T_icmp_gt 77 dX2_isSettingValue_70 (by decide) h (fun _ h => ?_) (fun _ h => ?_)
      · refine T_iconst (0 : Int32) dX2_isSettingValue_77 (by decide) ?_
        exact T_zreturn dX2_isSettingValue_78 (Nat.le_of_ble_eq_true rfl) (Nat.le_of_ble_eq_true rfl) h
      · refine T_iconst (1 : Int32) dX2_isSettingValue_73 (by decide) ?_
        refine T_goto 78 dX2_isSettingValue_74 (by decide) ?_
        exact T_zreturn dX2_isSettingValue_78 (Nat.le_of_ble_eq_true rfl) (Nat.le_of_ble_eq_true rfl) h
  refine T_tableOut 79 dX2_isSettingValue_1 (by have e0 := lv_neT (a := 0) c0 rfl; have e1 := lv_neT (a := 1) c1 rfl; have e2 := lv_neT (a := 2) c2 rfl; omega) (by decide) ?_
  refine T_iconst (0 : Int32) dX2_isSettingValue_79 (by decide) ?_
  exact T_zreturn dX2_isSettingValue_80 (Nat.le_of_ble_eq_true rfl) (Nat.le_of_ble_eq_true rfl) h

def D_X3_size (a0 : Nat) (s0 : Hp) : Option (Int32 × Hp) :=
  (isO s0 a0 3).bind fun _ =>
  (getI s0 a0 3 2).bind fun i11 =>
  some (i11, s0)
set_option maxRecDepth 100000 in
set_option maxHeartbeats 4000000 in
theorem K_X3_size {l : Launch} {a0 : Nat} {s0 : Hp} : ∀ P, OK jI (D_X3_size a0 s0) P → sm_Ct l yX3_size cX3_size 1 (some .int) 0 0 0 [.ref a0] s0 P := by
  intro P h
  unfold D_X3_size at h
  obtain ⟨_, hb0, h⟩ := h.bind
  refine sm_enter (own := RX3) (lv := [(0, .ref a0)]) (by decide) rfl (Nat.le_of_ble_eq_true rfl) rfl (fun G => ?_)
  refine T_aload_n dX3_size_0 rfl 0 rfl ?_
  refine T_getI dX3_size_1 fl_RX3_24 h (fun i11 h => ?_)
  exact T_ireturn dX3_size_4 (Nat.le_of_ble_eq_true rfl) (Nat.le_of_ble_eq_true rfl) h

def D_X4_blocked (a0 : Nat) (s0 : Hp) : Option (Int32 × Hp) :=
  (isO s0 a0 4).bind fun _ =>
  (getI s0 a0 4 6).bind fun i11 =>
  some (i11, s0)
set_option maxRecDepth 100000 in
set_option maxHeartbeats 4000000 in
theorem K_X4_blocked {l : Launch} {a0 : Nat} {s0 : Hp} : ∀ P, OK jI (D_X4_blocked a0 s0) P → sm_Ct l yX4_blocked cX4_blocked 1 (some .int) 0 0 0 [.ref a0] s0 P := by
  intro P h
  unfold D_X4_blocked at h
  obtain ⟨_, hb0, h⟩ := h.bind
  refine sm_enter (own := RX4) (lv := [(0, .ref a0)]) (by decide) rfl (Nat.le_of_ble_eq_true rfl) rfl (fun G => ?_)
  refine T_aload_n dX4_blocked_0 rfl 0 rfl ?_
  refine T_getI dX4_blocked_1 fl_RX4_32 h (fun i11 h => ?_)
  exact T_ireturn dX4_blocked_4 (Nat.le_of_ble_eq_true rfl) (Nat.le_of_ble_eq_true rfl) h

def D_X4_isBlocked (a0 : Nat) (i1 : Int32) (s0 : Hp) : Option (Int32 × Hp) :=
  (isO s0 a0 4).bind fun _ =>
  (getI s0 a0 4 6).bind fun i11 =>
  if ((i11 >>> (i1 &&& 31)) &&& (1 : Int32)) = 0 then
  retZ (0 : Int32) ((0 : Int32), s0)
  else
  retZ (1 : Int32) ((1 : Int32), s0)
set_option maxRecDepth 100000 in
set_option maxHeartbeats 4000000 in
theorem K_X4_isBlocked {l : Launch} {a0 : Nat} {i1 : Int32} {s0 : Hp} : ∀ P, OK jI (D_X4_isBlocked a0 i1 s0) P → sm_Ct l yX4_isBlocked cX4_isBlocked 2 (some .boolean) 0 0 0 [.ref a0, .int i1] s0 P := by
  intro P h
  unfold D_X4_isBlocked at h
  obtain ⟨_, hb0, h⟩ := h.bind
  refine sm_enter (own := RX4) (lv := [(0, .ref a0), (1, .int i1)]) (by decide) rfl (Nat.le_of_ble_eq_true rfl) rfl (fun G => ?_)
  refine T_aload_n dX4_isBlocked_0 rfl 0 rfl ?_
  refine T_getI dX4_isBlocked_1 fl_RX4_32 h (fun i11 h => ?_)
  refine T_iload_n dX4_isBlocked_4 rfl 1 rfl ?_
  refine T_ishr dX4_isBlocked_5 ?_
  refine T_iconst (1 : Int32) dX4_isBlocked_6 (by decide) ?_
  refine T_iand dX4_isBlocked_7 ?_
  refine T_if_eq 15 dX4_isBlocked_8 (by decide) h (fun _ h => ?_) (fun _ h => ?_)
  · refine T_iconst (0 : Int32) dX4_isBlocked_15 (by decide) ?_
    exact T_zreturn dX4_isBlocked_16 (Nat.le_of_ble_eq_true rfl) (Nat.le_of_ble_eq_true rfl) h
  · refine T_iconst (1 : Int32) dX4_isBlocked_11 (by decide) ?_
    refine T_goto 16 dX4_isBlocked_12 (by decide) ?_
    exact T_zreturn dX4_isBlocked_16 (Nat.le_of_ble_eq_true rfl) (Nat.le_of_ble_eq_true rfl) h

def D_X4_isUsed (a0 : Nat) (i1 : Int32) (s0 : Hp) : Option (Int32 × Hp) :=
  (isO s0 a0 4).bind fun _ =>
  (getI s0 a0 4 7).bind fun i11 =>
  if ((i11 >>> (i1 &&& 31)) &&& (1 : Int32)) = 0 then
  retZ (0 : Int32) ((0 : Int32), s0)
  else
  retZ (1 : Int32) ((1 : Int32), s0)
set_option maxRecDepth 100000 in
set_option maxHeartbeats 4000000 in
theorem K_X4_isUsed {l : Launch} {a0 : Nat} {i1 : Int32} {s0 : Hp} : ∀ P, OK jI (D_X4_isUsed a0 i1 s0) P → sm_Ct l yX4_isUsed cX4_isUsed 2 (some .boolean) 0 0 0 [.ref a0, .int i1] s0 P := by
  intro P h
  unfold D_X4_isUsed at h
  obtain ⟨_, hb0, h⟩ := h.bind
  refine sm_enter (own := RX4) (lv := [(0, .ref a0), (1, .int i1)]) (by decide) rfl (Nat.le_of_ble_eq_true rfl) rfl (fun G => ?_)
  refine T_aload_n dX4_isUsed_0 rfl 0 rfl ?_
  refine T_getI dX4_isUsed_1 fl_RX4_36 h (fun i11 h => ?_)
  refine T_iload_n dX4_isUsed_4 rfl 1 rfl ?_
  refine T_ishr dX4_isUsed_5 ?_
  refine T_iconst (1 : Int32) dX4_isUsed_6 (by decide) ?_
  refine T_iand dX4_isUsed_7 ?_
  refine T_if_eq 15 dX4_isUsed_8 (by decide) h (fun _ h => ?_) (fun _ h => ?_)
  · refine T_iconst (0 : Int32) dX4_isUsed_15 (by decide) ?_
    exact T_zreturn dX4_isUsed_16 (Nat.le_of_ble_eq_true rfl) (Nat.le_of_ble_eq_true rfl) h
  · refine T_iconst (1 : Int32) dX4_isUsed_11 (by decide) ?_
    refine T_goto 16 dX4_isUsed_12 (by decide) ?_
    exact T_zreturn dX4_isUsed_16 (Nat.le_of_ble_eq_true rfl) (Nat.le_of_ble_eq_true rfl) h

def D_X4_used (a0 : Nat) (s0 : Hp) : Option (Int32 × Hp) :=
  (isO s0 a0 4).bind fun _ =>
  (getI s0 a0 4 7).bind fun i11 =>
  some (i11, s0)
set_option maxRecDepth 100000 in
set_option maxHeartbeats 4000000 in
theorem K_X4_used {l : Launch} {a0 : Nat} {s0 : Hp} : ∀ P, OK jI (D_X4_used a0 s0) P → sm_Ct l yX4_used cX4_used 1 (some .int) 0 0 0 [.ref a0] s0 P := by
  intro P h
  unfold D_X4_used at h
  obtain ⟨_, hb0, h⟩ := h.bind
  refine sm_enter (own := RX4) (lv := [(0, .ref a0)]) (by decide) rfl (Nat.le_of_ble_eq_true rfl) rfl (fun G => ?_)
  refine T_aload_n dX4_used_0 rfl 0 rfl ?_
  refine T_getI dX4_used_1 fl_RX4_36 h (fun i11 h => ?_)
  exact T_ireturn dX4_used_4 (Nat.le_of_ble_eq_true rfl) (Nat.le_of_ble_eq_true rfl) h

def D_X5_length (a0 : Nat) (s0 : Hp) : Option (Int32 × Hp) :=
  (isO s0 a0 5).bind fun _ =>
  (getI s0 a0 5 1).bind fun i11 =>
  some (i11, s0)
set_option maxRecDepth 100000 in
set_option maxHeartbeats 4000000 in
theorem K_X5_length {l : Launch} {a0 : Nat} {s0 : Hp} : ∀ P, OK jI (D_X5_length a0 s0) P → sm_Ct l yX5_length cX5_length 1 (some .int) 0 0 0 [.ref a0] s0 P := by
  intro P h
  unfold D_X5_length at h
  obtain ⟨_, hb0, h⟩ := h.bind
  refine sm_enter (own := RX5) (lv := [(0, .ref a0)]) (by decide) rfl (Nat.le_of_ble_eq_true rfl) rfl (fun G => ?_)
  refine T_aload_n dX5_length_0 rfl 0 rfl ?_
  refine T_getI dX5_length_1 fl_RX5_20 h (fun i11 h => ?_)
  exact T_ireturn dX5_length_4 (Nat.le_of_ble_eq_true rfl) (Nat.le_of_ble_eq_true rfl) h

def D_X7_state_b22   (s11 : Hp) : Option (Option Nat × Hp) :=
  some (none, s11)
def D_X7_state (a0 : Nat) (i1 : Int32) (s0 : Hp) : Option (Option Nat × Hp) :=
  (isO s0 a0 7).bind fun _ =>
  if i1 < 0 then
  D_X7_state_b22 s0
  else
  (getR s0 a0 7 0).bind fun a12 =>
  (alen s0 a12).bind fun i13 =>
  if i13 ≤ i1 then
  D_X7_state_b22 s0
  else
  (getR s0 a0 7 0).bind fun a14 =>
  (ldR s0 a14 i1).bind fun o15 =>
  mtO o15 (
  some (none, s0)
  ) fun a17 =>
  some ((some a17), s0)
set_option maxRecDepth 100000 in
set_option maxHeartbeats 4000000 in
theorem K_X7_state_b22 {l : Launch} {G : smG} {P : Option Value → Hp → Prop}   {s11 : Hp}  (h : OK jR (D_X7_state_b22 s11) P) : T l G RX7 cX7_state 2 (sm_rm 0 0 0) (sm_E (some (.object "SunMirrors$Field")) yX7_state.name) (sm_Qs G P 0 0) 0 0 22 [] [] s11 := by
  unfold D_X7_state_b22 at h
  refine T_null dX7_state_22 ?_
  exact T_areturn (v := none) dX7_state_23 (Nat.le_of_ble_eq_true rfl) (Nat.le_of_ble_eq_true rfl) h
set_option maxRecDepth 100000 in
set_option maxHeartbeats 4000000 in
theorem K_X7_state {l : Launch} {a0 : Nat} {i1 : Int32} {s0 : Hp} : ∀ P, OK jR (D_X7_state a0 i1 s0) P → sm_Ct l yX7_state cX7_state 2 (some (.object "SunMirrors$Field")) 0 0 0 [.ref a0, .int i1] s0 P := by
  intro P h
  unfold D_X7_state at h
  obtain ⟨_, hb0, h⟩ := h.bind
  refine sm_enter (own := RX7) (lv := [(0, .ref a0), (1, .int i1)]) (by decide) rfl (Nat.le_of_ble_eq_true rfl) rfl (fun G => ?_)
  refine T_iload_n dX7_state_0 rfl 1 rfl ?_
  refine T_if_lt 22 dX7_state_1 (by decide) h (fun _ h => ?_) (fun _ h => ?_)
  · refine T_lv (lv' := []) [] rfl ?_
    exact K_X7_state_b22 h
  · refine T_iload_n dX7_state_4 rfl 1 rfl ?_
    refine T_aload_n dX7_state_5 rfl 0 rfl ?_
    refine T_getR dX7_state_6 fl_RX7_15 h (fun a12 h => ?_)
    refine T_alen dX7_state_9 h (fun i13 h => ?_)
    refine T_icmp_ge 22 dX7_state_10 (by decide) h (fun _ h => ?_) (fun _ h => ?_)
    · refine T_lv (lv' := []) [] rfl ?_
      exact K_X7_state_b22 h
    · refine T_aload_n dX7_state_13 rfl 0 rfl ?_
      refine T_getR dX7_state_14 fl_RX7_15 h (fun a14 h => ?_)
      refine T_iload_n dX7_state_17 rfl 1 rfl ?_
      refine T_aaload dX7_state_18 h (fun o15 h => ?_)
      refine T_mtO h (fun h => ?_) (fun a17 h => ?_)
      · refine T_goto 23 dX7_state_19 (by decide) ?_
        exact T_areturn (v := none) dX7_state_23 (Nat.le_of_ble_eq_true rfl) (Nat.le_of_ble_eq_true rfl) h
      · refine T_goto 23 dX7_state_19 (by decide) ?_
        exact T_areturn (v := (some a17)) dX7_state_23 (Nat.le_of_ble_eq_true rfl) (Nat.le_of_ble_eq_true rfl) h

def D_X8_columns (i0 : Int32) (s0 : Hp) : Option (Int32 × Hp) :=
  some (((5 : Int32) - i0), s0)
set_option maxRecDepth 100000 in
set_option maxHeartbeats 4000000 in
theorem K_X8_columns {l : Launch} {i0 : Int32} {s0 : Hp} : ∀ P, OK jI (D_X8_columns i0 s0) P → sm_Ct l yX8_columns cX8_columns 1 (some .int) 0 0 0 [.int i0] s0 P := by
  intro P h
  unfold D_X8_columns at h
  refine sm_enter (own := RX8) (lv := [(0, .int i0)]) (by decide) rfl (Nat.le_of_ble_eq_true rfl) rfl (fun G => ?_)
  refine T_iconst (5 : Int32) dX8_columns_0 (by decide) ?_
  refine T_iload_n dX8_columns_1 rfl 0 rfl ?_
  refine T_isub dX8_columns_2 ?_
  exact T_ireturn dX8_columns_3 (Nat.le_of_ble_eq_true rfl) (Nat.le_of_ble_eq_true rfl) h

def D_X8_isHour (i0 : Int32) (s0 : Hp) : Option (Int32 × Hp) :=
  if i0 < 0 then
  retZ (0 : Int32) ((0 : Int32), s0)
  else
  if (11 : Int32) ≤ i0 then
  retZ (0 : Int32) ((0 : Int32), s0)
  else
  retZ (1 : Int32) ((1 : Int32), s0)
set_option maxRecDepth 100000 in
set_option maxHeartbeats 4000000 in
theorem K_X8_isHour {l : Launch} {i0 : Int32} {s0 : Hp} : ∀ P, OK jI (D_X8_isHour i0 s0) P → sm_Ct l yX8_isHour cX8_isHour 1 (some .boolean) 0 0 0 [.int i0] s0 P := by
  intro P h
  unfold D_X8_isHour at h
  refine sm_enter (own := RX8) (lv := [(0, .int i0)]) (by decide) rfl (Nat.le_of_ble_eq_true rfl) rfl (fun G => ?_)
  refine T_iload_n dX8_isHour_0 rfl 0 rfl ?_
  refine T_if_lt 14 dX8_isHour_1 (by decide) h (fun _ h => ?_) (fun _ h => ?_)
  · refine T_iconst (0 : Int32) dX8_isHour_14 (by decide) ?_
    exact T_zreturn dX8_isHour_15 (Nat.le_of_ble_eq_true rfl) (Nat.le_of_ble_eq_true rfl) h
  · refine T_iload_n dX8_isHour_4 rfl 0 rfl ?_
    refine T_bipush (11 : Int32) dX8_isHour_5 (by decide) ?_
    refine T_icmp_ge 14 dX8_isHour_7 (by decide) h (fun _ h => ?_) (fun _ h => ?_)
    · refine T_iconst (0 : Int32) dX8_isHour_14 (by decide) ?_
      exact T_zreturn dX8_isHour_15 (Nat.le_of_ble_eq_true rfl) (Nat.le_of_ble_eq_true rfl) h
    · refine T_iconst (1 : Int32) dX8_isHour_10 (by decide) ?_
      refine T_goto 15 dX8_isHour_11 (by decide) ?_
      exact T_zreturn dX8_isHour_15 (Nat.le_of_ble_eq_true rfl) (Nat.le_of_ble_eq_true rfl) h

def D_X9_isAimPoint (i0 : Int32) (s0 : Hp) : Option (Int32 × Hp) :=
  if i0 < 0 then
  retZ (0 : Int32) ((0 : Int32), s0)
  else
  if (4 : Int32) ≤ i0 then
  retZ (0 : Int32) ((0 : Int32), s0)
  else
  retZ (1 : Int32) ((1 : Int32), s0)
set_option maxRecDepth 100000 in
set_option maxHeartbeats 4000000 in
theorem K_X9_isAimPoint {l : Launch} {i0 : Int32} {s0 : Hp} : ∀ P, OK jI (D_X9_isAimPoint i0 s0) P → sm_Ct l yX9_isAimPoint cX9_isAimPoint 1 (some .boolean) 0 0 0 [.int i0] s0 P := by
  intro P h
  unfold D_X9_isAimPoint at h
  refine sm_enter (own := RX9) (lv := [(0, .int i0)]) (by decide) rfl (Nat.le_of_ble_eq_true rfl) rfl (fun G => ?_)
  refine T_iload_n dX9_isAimPoint_0 rfl 0 rfl ?_
  refine T_if_lt 13 dX9_isAimPoint_1 (by decide) h (fun _ h => ?_) (fun _ h => ?_)
  · refine T_iconst (0 : Int32) dX9_isAimPoint_13 (by decide) ?_
    exact T_zreturn dX9_isAimPoint_14 (Nat.le_of_ble_eq_true rfl) (Nat.le_of_ble_eq_true rfl) h
  · refine T_iload_n dX9_isAimPoint_4 rfl 0 rfl ?_
    refine T_iconst (4 : Int32) dX9_isAimPoint_5 (by decide) ?_
    refine T_icmp_ge 13 dX9_isAimPoint_6 (by decide) h (fun _ h => ?_) (fun _ h => ?_)
    · refine T_iconst (0 : Int32) dX9_isAimPoint_13 (by decide) ?_
      exact T_zreturn dX9_isAimPoint_14 (Nat.le_of_ble_eq_true rfl) (Nat.le_of_ble_eq_true rfl) h
    · refine T_iconst (1 : Int32) dX9_isAimPoint_9 (by decide) ?_
      refine T_goto 14 dX9_isAimPoint_10 (by decide) ?_
      exact T_zreturn dX9_isAimPoint_14 (Nat.le_of_ble_eq_true rfl) (Nat.le_of_ble_eq_true rfl) h

def D_X9_isChoice (i0 : Int32) (s0 : Hp) : Option (Int32 × Hp) :=
  if i0 = 0 then
  retZ (1 : Int32) ((1 : Int32), s0)
  else
  if i0 = (1 : Int32) then
  retZ (1 : Int32) ((1 : Int32), s0)
  else
  retZ (0 : Int32) ((0 : Int32), s0)
set_option maxRecDepth 100000 in
set_option maxHeartbeats 4000000 in
theorem K_X9_isChoice {l : Launch} {i0 : Int32} {s0 : Hp} : ∀ P, OK jI (D_X9_isChoice i0 s0) P → sm_Ct l yX9_isChoice cX9_isChoice 1 (some .boolean) 0 0 0 [.int i0] s0 P := by
  intro P h
  unfold D_X9_isChoice at h
  refine sm_enter (own := RX9) (lv := [(0, .int i0)]) (by decide) rfl (Nat.le_of_ble_eq_true rfl) rfl (fun G => ?_)
  refine T_iload_n dX9_isChoice_0 rfl 0 rfl ?_
  refine T_if_eq 9 dX9_isChoice_1 (by decide) h (fun _ h => ?_) (fun _ h => ?_)
  · refine T_iconst (1 : Int32) dX9_isChoice_9 (by decide) ?_
    refine T_goto 14 dX9_isChoice_10 (by decide) ?_
    exact T_zreturn dX9_isChoice_14 (Nat.le_of_ble_eq_true rfl) (Nat.le_of_ble_eq_true rfl) h
  · refine T_iload_n dX9_isChoice_4 rfl 0 rfl ?_
    refine T_iconst (1 : Int32) dX9_isChoice_5 (by decide) ?_
    refine T_icmp_ne 13 dX9_isChoice_6 (by decide) h (fun _ h => ?_) (fun _ h => ?_)
    · refine T_iconst (0 : Int32) dX9_isChoice_13 (by decide) ?_
      exact T_zreturn dX9_isChoice_14 (Nat.le_of_ble_eq_true rfl) (Nat.le_of_ble_eq_true rfl) h
    · refine T_iconst (1 : Int32) dX9_isChoice_9 (by decide) ?_
      refine T_goto 14 dX9_isChoice_10 (by decide) ?_
      exact T_zreturn dX9_isChoice_14 (Nat.le_of_ble_eq_true rfl) (Nat.le_of_ble_eq_true rfl) h

def D_X9_isPlace (i0 : Int32) (i1 : Int32) (s0 : Hp) : Option (Int32 × Hp) :=
  if i0 < 0 then
  retZ (0 : Int32) ((0 : Int32), s0)
  else
  if (20 : Int32) ≤ i0 then
  retZ (0 : Int32) ((0 : Int32), s0)
  else
  if i1 < 0 then
  retZ (0 : Int32) ((0 : Int32), s0)
  else
  if (20 : Int32) ≤ i1 then
  retZ (0 : Int32) ((0 : Int32), s0)
  else
  retZ (1 : Int32) ((1 : Int32), s0)
set_option maxRecDepth 100000 in
set_option maxHeartbeats 4000000 in
theorem K_X9_isPlace {l : Launch} {i0 : Int32} {i1 : Int32} {s0 : Hp} : ∀ P, OK jI (D_X9_isPlace i0 i1 s0) P → sm_Ct l yX9_isPlace cX9_isPlace 2 (some .boolean) 0 0 0 [.int i0, .int i1] s0 P := by
  intro P h
  unfold D_X9_isPlace at h
  refine sm_enter (own := RX9) (lv := [(0, .int i0), (1, .int i1)]) (by decide) rfl (Nat.le_of_ble_eq_true rfl) rfl (fun G => ?_)
  refine T_iload_n dX9_isPlace_0 rfl 0 rfl ?_
  refine T_if_lt 24 dX9_isPlace_1 (by decide) h (fun _ h => ?_) (fun _ h => ?_)
  · refine T_iconst (0 : Int32) dX9_isPlace_24 (by decide) ?_
    exact T_zreturn dX9_isPlace_25 (Nat.le_of_ble_eq_true rfl) (Nat.le_of_ble_eq_true rfl) h
  · refine T_iload_n dX9_isPlace_4 rfl 0 rfl ?_
    refine T_bipush (20 : Int32) dX9_isPlace_5 (by decide) ?_
    refine T_icmp_ge 24 dX9_isPlace_7 (by decide) h (fun _ h => ?_) (fun _ h => ?_)
    · refine T_iconst (0 : Int32) dX9_isPlace_24 (by decide) ?_
      exact T_zreturn dX9_isPlace_25 (Nat.le_of_ble_eq_true rfl) (Nat.le_of_ble_eq_true rfl) h
    · refine T_iload_n dX9_isPlace_10 rfl 1 rfl ?_
      refine T_if_lt 24 dX9_isPlace_11 (by decide) h (fun _ h => ?_) (fun _ h => ?_)
      · refine T_iconst (0 : Int32) dX9_isPlace_24 (by decide) ?_
        exact T_zreturn dX9_isPlace_25 (Nat.le_of_ble_eq_true rfl) (Nat.le_of_ble_eq_true rfl) h
      · refine T_iload_n dX9_isPlace_14 rfl 1 rfl ?_
        refine T_bipush (20 : Int32) dX9_isPlace_15 (by decide) ?_
        refine T_icmp_ge 24 dX9_isPlace_17 (by decide) h (fun _ h => ?_) (fun _ h => ?_)
        · refine T_iconst (0 : Int32) dX9_isPlace_24 (by decide) ?_
          exact T_zreturn dX9_isPlace_25 (Nat.le_of_ble_eq_true rfl) (Nat.le_of_ble_eq_true rfl) h
        · refine T_iconst (1 : Int32) dX9_isPlace_20 (by decide) ?_
          refine T_goto 25 dX9_isPlace_21 (by decide) ?_
          exact T_zreturn dX9_isPlace_25 (Nat.le_of_ble_eq_true rfl) (Nat.le_of_ble_eq_true rfl) h

def D_X1_copy (a0 : Nat) (a1 : Nat) (s0 : Hp) : Option Hp :=
  (isO s0 a0 1).bind fun _ =>
  (getR s0 a1 1 0).bind fun a11 =>
  (getR s0 a0 1 0).bind fun a12 =>
  (getR s0 a1 1 0).bind fun a13 =>
  (alen s0 a13).bind fun i14 =>
  (getR s0 a0 1 0).bind fun a15 =>
  (alen s0 a15).bind fun i16 =>
  nm (if i16 < i14 then i16 else i14) fun i17 =>
  (cpyI s0 a11 (0 : Int32) a12 (0 : Int32) i17).bind fun s18 =>
  some s18
set_option maxRecDepth 100000 in
set_option maxHeartbeats 4000000 in
theorem K_X1_copy {l : Launch} {a0 : Nat} {a1 : Nat} {s0 : Hp} : ∀ P, OK jV (D_X1_copy a0 a1 s0) P → sm_Ct l yX1_copy cX1_copy 2 none 1 0 0 [.ref a0, .ref a1] s0 P := by
  intro P h
  unfold D_X1_copy at h
  obtain ⟨_, hb0, h⟩ := h.bind
  refine sm_enter (own := RX1) (lv := [(0, .ref a0), (1, .ref a1)]) (by decide) rfl (Nat.le_of_ble_eq_true rfl) rfl (fun G => ?_)
  refine T_aload_n dX1_copy_0 rfl 1 rfl ?_
  refine T_getR dX1_copy_1 fl_RX1_13 h (fun a11 h => ?_)
  refine T_iconst (0 : Int32) dX1_copy_4 (by decide) ?_
  refine T_aload_n dX1_copy_5 rfl 0 rfl ?_
  refine T_getR dX1_copy_6 fl_RX1_13 h (fun a12 h => ?_)
  refine T_iconst (0 : Int32) dX1_copy_9 (by decide) ?_
  refine T_aload_n dX1_copy_10 rfl 1 rfl ?_
  refine T_getR dX1_copy_11 fl_RX1_13 h (fun a13 h => ?_)
  refine T_alen dX1_copy_14 h (fun i14 h => ?_)
  refine T_aload_n dX1_copy_15 rfl 0 rfl ?_
  refine T_getR dX1_copy_16 fl_RX1_13 h (fun a15 h => ?_)
  refine T_alen dX1_copy_19 h (fun i16 h => ?_)
  refine T_mmin dX1_copy_20 ml_RX1_25 wd_12_22 wd_3_13 wd_12_23 ⟨Nat.le_of_ble_eq_true rfl, Nat.le_of_ble_eq_true rfl, Nat.le_of_ble_eq_true rfl, Nat.le_of_ble_eq_true rfl⟩ ?_
  refine T_nm h (fun i17 h => ?_)
  refine T_acopy dX1_copy_23 ml_RX1_28 wd_13_1 wd_13_2 wd_13_3 ⟨Nat.le_of_ble_eq_true rfl, Nat.le_of_ble_eq_true rfl⟩ h (fun s18 h => ?_)
  exact T_vreturn dX1_copy_26 (Nat.le_of_ble_eq_true rfl) (Nat.le_of_ble_eq_true rfl) h

def D_X1_fill (a0 : Nat) (i1 : Int32) (s0 : Hp) : Option Hp :=
  (isO s0 a0 1).bind fun _ =>
  (getR s0 a0 1 0).bind fun a11 =>
  (D_J7_fill_53178 a11 i1 s0).bind fun s12 =>
  some s12
set_option maxRecDepth 100000 in
set_option maxHeartbeats 4000000 in
theorem K_X1_fill {l : Launch} {a0 : Nat} {i1 : Int32} {s0 : Hp} : ∀ P, OK jV (D_X1_fill a0 i1 s0) P → sm_Ct l yX1_fill cX1_fill 2 none 1 0 0 [.ref a0, .int i1] s0 P := by
  intro P h
  unfold D_X1_fill at h
  obtain ⟨_, hb0, h⟩ := h.bind
  refine sm_enter (own := RX1) (lv := [(0, .ref a0), (1, .int i1)]) (by decide) rfl (Nat.le_of_ble_eq_true rfl) rfl (fun G => ?_)
  refine T_aload_n dX1_fill_0 rfl 0 rfl ?_
  refine T_getR dX1_fill_1 fl_RX1_13 h (fun a11 h => ?_)
  refine T_iload_n dX1_fill_4 rfl 1 rfl ?_
  refine T_callSV (As := [.ref a11, .int i1]) (rest := []) dX1_fill_5 mc_J7_fill_53178 mi_J7_fill_53178 ml_RX1_19 rfl rfl (Nat.le_of_ble_eq_true rfl) ⟨⟨Nat.le_of_ble_eq_true rfl, Nat.le_of_ble_eq_true rfl⟩, ⟨Nat.le_of_ble_eq_true rfl, Nat.le_of_ble_eq_true rfl⟩⟩ K_J7_fill_53178 h (fun s12 h => ?_)
  exact T_vreturn dX1_fill_8 (Nat.le_of_ble_eq_true rfl) (Nat.le_of_ble_eq_true rfl) h

def D_X1_init (a0 : Nat) (i1 : Int32) (s0 : Hp) : Option Hp :=
  (isO s0 a0 1).bind fun _ =>
  nm (if i1 < (0 : Int32) then (0 : Int32) else i1) fun i11 =>
  (newI s0 i11).bind fun s12 =>
  (putV s12 a0 1 0 (.ref s0.1)).bind fun s13 =>
  some s13
set_option maxRecDepth 100000 in
set_option maxHeartbeats 4000000 in
theorem K_X1_init {l : Launch} {a0 : Nat} {i1 : Int32} {s0 : Hp} : ∀ P, OK jV (D_X1_init a0 i1 s0) P → sm_Ct l yX1_init cX1_init 2 none 1 1 800 [.ref a0, .int i1] s0 P := by
  intro P h
  unfold D_X1_init at h
  obtain ⟨_, hb0, h⟩ := h.bind
  refine sm_enter (own := RX1) (lv := [(0, .ref a0), (1, .int i1)]) (by decide) rfl (Nat.le_of_ble_eq_true rfl) rfl (fun G => ?_)
  refine T_aload_n dX1_init_0 rfl 0 rfl ?_
  refine T_objInit dX1_init_1 ml_RX1_1 wd_1_7 wd_1_8 ⟨Nat.le_of_ble_eq_true rfl, Nat.le_of_ble_eq_true rfl⟩ ?_
  refine T_aload_n dX1_init_4 rfl 0 rfl ?_
  refine T_iload_n dX1_init_5 rfl 1 rfl ?_
  refine T_iconst (0 : Int32) dX1_init_6 (by decide) ?_
  refine T_mmax dX1_init_7 ml_RX1_7 wd_3_12 wd_3_13 wd_3_14 ⟨Nat.le_of_ble_eq_true rfl, Nat.le_of_ble_eq_true rfl, Nat.le_of_ble_eq_true rfl, Nat.le_of_ble_eq_true rfl⟩ ?_
  refine T_nm h (fun i11 h => ?_)
  refine T_newI dX1_init_10 wd_3_15 (Nat.le_of_ble_eq_true rfl) (Nat.le_of_ble_eq_true rfl) h (fun s12 h => ?_)
  refine T_putF (rt := none) rfl dX1_init_12 fl_RX1_13 ft_1_0 rfl rfl rfl h (fun s13 h => ?_)
  exact T_vreturn dX1_init_15 (Nat.le_of_ble_eq_true rfl) (Nat.le_of_ble_eq_true rfl) h

def D_X1_leaveOut (a0 : Nat) (i1 : Int32) (s0 : Hp) : Option Hp :=
  (isO s0 a0 1).bind fun _ =>
  if i1 < 0 then
  some s0
  else
  (getR s0 a0 1 0).bind fun a11 =>
  (alen s0 a11).bind fun i12 =>
  if i12 ≤ i1 then
  some s0
  else
  (getR s0 a0 1 0).bind fun a13 =>
  (getR s0 a0 1 0).bind fun a14 =>
  (getR s0 a0 1 0).bind fun a15 =>
  (alen s0 a15).bind fun i16 =>
  (cpyI s0 a13 (i1 + (1 : Int32)) a14 i1 ((i16 - (1 : Int32)) - i1)).bind fun s17 =>
  some s17
set_option maxRecDepth 100000 in
set_option maxHeartbeats 4000000 in
theorem K_X1_leaveOut {l : Launch} {a0 : Nat} {i1 : Int32} {s0 : Hp} : ∀ P, OK jV (D_X1_leaveOut a0 i1 s0) P → sm_Ct l yX1_leaveOut cX1_leaveOut 2 none 1 0 0 [.ref a0, .int i1] s0 P := by
  intro P h
  unfold D_X1_leaveOut at h
  obtain ⟨_, hb0, h⟩ := h.bind
  refine sm_enter (own := RX1) (lv := [(0, .ref a0), (1, .int i1)]) (by decide) rfl (Nat.le_of_ble_eq_true rfl) rfl (fun G => ?_)
  refine T_iload_n dX1_leaveOut_0 rfl 1 rfl ?_
  refine T_if_lt 37 dX1_leaveOut_1 (by decide) h (fun _ h => ?_) (fun _ h => ?_)
  · exact T_vreturn dX1_leaveOut_37 (Nat.le_of_ble_eq_true rfl) (Nat.le_of_ble_eq_true rfl) h
  · refine T_iload_n dX1_leaveOut_4 rfl 1 rfl ?_
    refine T_aload_n dX1_leaveOut_5 rfl 0 rfl ?_
    refine T_getR dX1_leaveOut_6 fl_RX1_13 h (fun a11 h => ?_)
    refine T_alen dX1_leaveOut_9 h (fun i12 h => ?_)
    refine T_icmp_ge 37 dX1_leaveOut_10 (by decide) h (fun _ h => ?_) (fun _ h => ?_)
    · exact T_vreturn dX1_leaveOut_37 (Nat.le_of_ble_eq_true rfl) (Nat.le_of_ble_eq_true rfl) h
    · refine T_aload_n dX1_leaveOut_13 rfl 0 rfl ?_
      refine T_getR dX1_leaveOut_14 fl_RX1_13 h (fun a13 h => ?_)
      refine T_iload_n dX1_leaveOut_17 rfl 1 rfl ?_
      refine T_iconst (1 : Int32) dX1_leaveOut_18 (by decide) ?_
      refine T_iadd dX1_leaveOut_19 ?_
      refine T_aload_n dX1_leaveOut_20 rfl 0 rfl ?_
      refine T_getR dX1_leaveOut_21 fl_RX1_13 h (fun a14 h => ?_)
      refine T_iload_n dX1_leaveOut_24 rfl 1 rfl ?_
      refine T_aload_n dX1_leaveOut_25 rfl 0 rfl ?_
      refine T_getR dX1_leaveOut_26 fl_RX1_13 h (fun a15 h => ?_)
      refine T_alen dX1_leaveOut_29 h (fun i16 h => ?_)
      refine T_iconst (1 : Int32) dX1_leaveOut_30 (by decide) ?_
      refine T_isub dX1_leaveOut_31 ?_
      refine T_iload_n dX1_leaveOut_32 rfl 1 rfl ?_
      refine T_isub dX1_leaveOut_33 ?_
      refine T_acopy dX1_leaveOut_34 ml_RX1_28 wd_13_1 wd_13_2 wd_13_3 ⟨Nat.le_of_ble_eq_true rfl, Nat.le_of_ble_eq_true rfl⟩ h (fun s17 h => ?_)
      exact T_vreturn dX1_leaveOut_37 (Nat.le_of_ble_eq_true rfl) (Nat.le_of_ble_eq_true rfl) h
