def D_X5_length (a0 : Nat) (s0 : Hp) : Option (Int32 × Hp) :=
  (isO s0 a0 5).bind fun _ =>
  (getI s0 a0 5 1).bind fun i11 =>
  some (i11, s0)
set_option maxRecDepth 100000 in
set_option maxHeartbeats 4000000 in
theorem K_X5_length {l : Launch} {a0 : Nat} {s0 : Hp} : ∀ P, OK jI (D_X5_length a0 s0) P → sm_Ct l yX5_length cX5_length 1 (some .int) 0 0 0 [.ref a0] s0 P := by
  intro P h
  unfold D_X5_length at h
  obtain ⟨_, hb0, h⟩ := h.bind
  refine sm_enter (own := RX5) (lv := [(0, .ref a0)]) (by decide) rfl (Nat.le_of_ble_eq_true rfl) rfl (fun G => ?_)
  refine T_aload_n dX5_length_0 rfl 0 rfl ?_
  refine T_getI dX5_length_1 fl_RX5_20 h (fun i11 h => ?_)
  exact T_ireturn dX5_length_4 (Nat.le_of_ble_eq_true rfl) (Nat.le_of_ble_eq_true rfl) h

def D_X5_signFromEnd (l0 : Int64) (i2 : Int32) (s0 : Hp) : Option (Int32 × Hp) :=
  some (((((l0).toUInt64 >>> (((i2 * (8 : Int32))).toInt64.toUInt64 &&& Int64.toUInt64 63)).toInt64).toInt32 &&& (255 : Int32)), s0)
set_option maxRecDepth 100000 in
set_option maxHeartbeats 4000000 in
theorem K_X5_signFromEnd {l : Launch} {l0 : Int64} {i2 : Int32} {s0 : Hp} : ∀ P, OK jI (D_X5_signFromEnd l0 i2 s0) P → sm_Ct l yX5_signFromEnd cX5_signFromEnd 3 (some .int) 0 0 0 [.long l0, .int i2] s0 P := by
  intro P h
  unfold D_X5_signFromEnd at h
  refine sm_enter (own := RX5) (lv := [(0, .long l0), (2, .int i2)]) (by decide) rfl (Nat.le_of_ble_eq_true rfl) rfl (fun G => ?_)
  refine T_lload_n dX5_signFromEnd_0 rfl 0 rfl ?_
  refine T_iload_n dX5_signFromEnd_1 rfl 1 rfl ?_
  refine T_bipush (8 : Int32) dX5_signFromEnd_2 (by decide) ?_
  refine T_imul dX5_signFromEnd_4 ?_
  refine T_lushr dX5_signFromEnd_5 ?_
  refine T_l2i dX5_signFromEnd_6 ?_
  refine T_sipush (255 : Int32) dX5_signFromEnd_7 (by decide) ?_
  refine T_iand dX5_signFromEnd_10 ?_
  exact T_ireturn dX5_signFromEnd_11 (Nat.le_of_ble_eq_true rfl) (Nat.le_of_ble_eq_true rfl) h

def D_X6_isKind (i0 : Int32) (s0 : Hp) : Option (Int32 × Hp) :=
  if i0 = (43 : Int32) then
  retZ (1 : Int32) ((1 : Int32), s0)
  else
  if i0 = (120 : Int32) then
  retZ (1 : Int32) ((1 : Int32), s0)
  else
  if i0 = (97 : Int32) then
  retZ (1 : Int32) ((1 : Int32), s0)
  else
  if i0 = (119 : Int32) then
  retZ (1 : Int32) ((1 : Int32), s0)
  else
  if i0 = (118 : Int32) then
  retZ (1 : Int32) ((1 : Int32), s0)
  else
  if i0 = (116 : Int32) then
  retZ (1 : Int32) ((1 : Int32), s0)
  else
  retZ (0 : Int32) ((0 : Int32), s0)
set_option maxRecDepth 100000 in
set_option maxHeartbeats 4000000 in
theorem K_X6_isKind {l : Launch} {i0 : Int32} {s0 : Hp} : ∀ P, OK jI (D_X6_isKind i0 s0) P → sm_Ct l yX6_isKind cX6_isKind 1 (some .boolean) 0 0 0 [.int i0] s0 P := by
  intro P h
  unfold D_X6_isKind at h
  refine sm_enter (own := RX6) (lv := [(0, .int i0)]) (by decide) rfl (Nat.le_of_ble_eq_true rfl) rfl (fun G => ?_)
  refine T_iload_n dX6_isKind_0 rfl 0 rfl ?_
  refine T_bipush (43 : Int32) dX6_isKind_1 (by decide) ?_
  refine T_icmp_eq 36 dX6_isKind_3 (by decide) h (fun _ h => ?_) (fun _ h => ?_)
  · refine T_iconst (1 : Int32) dX6_isKind_36 (by decide) ?_
    refine T_goto 41 dX6_isKind_37 (by decide) ?_
    exact T_zreturn dX6_isKind_41 (Nat.le_of_ble_eq_true rfl) (Nat.le_of_ble_eq_true rfl) h
  · refine T_iload_n dX6_isKind_6 rfl 0 rfl ?_
    refine T_bipush (120 : Int32) dX6_isKind_7 (by decide) ?_
    refine T_icmp_eq 36 dX6_isKind_9 (by decide) h (fun _ h => ?_) (fun _ h => ?_)
    · refine T_iconst (1 : Int32) dX6_isKind_36 (by decide) ?_
      refine T_goto 41 dX6_isKind_37 (by decide) ?_
      exact T_zreturn dX6_isKind_41 (Nat.le_of_ble_eq_true rfl) (Nat.le_of_ble_eq_true rfl) h
    · refine T_iload_n dX6_isKind_12 rfl 0 rfl ?_
      refine T_bipush (97 : Int32) dX6_isKind_13 (by decide) ?_
      refine T_icmp_eq 36 dX6_isKind_15 (by decide) h (fun _ h => ?_) (fun _ h => ?_)
      · refine T_iconst (1 : Int32) dX6_isKind_36 (by decide) ?_
        refine T_goto 41 dX6_isKind_37 (by decide) ?_
        exact T_zreturn dX6_isKind_41 (Nat.le_of_ble_eq_true rfl) (Nat.le_of_ble_eq_true rfl) h
      · refine T_iload_n dX6_isKind_18 rfl 0 rfl ?_
        refine T_bipush (119 : Int32) dX6_isKind_19 (by decide) ?_
        refine T_icmp_eq 36 dX6_isKind_21 (by decide) h (fun _ h => ?_) (fun _ h => ?_)
        · refine T_iconst (1 : Int32) dX6_isKind_36 (by decide) ?_
          refine T_goto 41 dX6_isKind_37 (by decide) ?_
          exact T_zreturn dX6_isKind_41 (Nat.le_of_ble_eq_true rfl) (Nat.le_of_ble_eq_true rfl) h
        · refine T_iload_n dX6_isKind_24 rfl 0 rfl ?_
          refine T_bipush (118 : Int32) dX6_isKind_25 (by decide) ?_
          refine T_icmp_eq 36 dX6_isKind_27 (by decide) h (fun _ h => ?_) (fun _ h => ?_)
          · refine T_iconst (1 : Int32) dX6_isKind_36 (by decide) ?_
            refine T_goto 41 dX6_isKind_37 (by decide) ?_
            exact T_zreturn dX6_isKind_41 (Nat.le_of_ble_eq_true rfl) (Nat.le_of_ble_eq_true rfl) h
          · refine T_iload_n dX6_isKind_30 rfl 0 rfl ?_
            refine T_bipush (116 : Int32) dX6_isKind_31 (by decide) ?_
            refine T_icmp_ne 40 dX6_isKind_33 (by decide) h (fun _ h => ?_) (fun _ h => ?_)
            · refine T_iconst (0 : Int32) dX6_isKind_40 (by decide) ?_
              exact T_zreturn dX6_isKind_41 (Nat.le_of_ble_eq_true rfl) (Nat.le_of_ble_eq_true rfl) h
            · refine T_iconst (1 : Int32) dX6_isKind_36 (by decide) ?_
              refine T_goto 41 dX6_isKind_37 (by decide) ?_
              exact T_zreturn dX6_isKind_41 (Nat.le_of_ble_eq_true rfl) (Nat.le_of_ble_eq_true rfl) h

def D_X6_orders (a0 : Nat) (s0 : Hp) : Option (Int32 × Hp) :=
  (isO s0 a0 6).bind fun _ =>
  (getI s0 a0 6 5).bind fun i11 =>
  some (i11, s0)
set_option maxRecDepth 100000 in
set_option maxHeartbeats 4000000 in
theorem K_X6_orders {l : Launch} {a0 : Nat} {s0 : Hp} : ∀ P, OK jI (D_X6_orders a0 s0) P → sm_Ct l yX6_orders cX6_orders 1 (some .int) 0 0 0 [.ref a0] s0 P := by
  intro P h
  unfold D_X6_orders at h
  obtain ⟨_, hb0, h⟩ := h.bind
  refine sm_enter (own := RX6) (lv := [(0, .ref a0)]) (by decide) rfl (Nat.le_of_ble_eq_true rfl) rfl (fun G => ?_)
  refine T_aload_n dX6_orders_0 rfl 0 rfl ?_
  refine T_getI dX6_orders_1 fl_RX6_29 h (fun i11 h => ?_)
  exact T_ireturn dX6_orders_4 (Nat.le_of_ble_eq_true rfl) (Nat.le_of_ble_eq_true rfl) h

def D_X7_state_b22   (s11 : Hp) : Option (Option Nat × Hp) :=
  some (none, s11)
def D_X7_state (a0 : Nat) (i1 : Int32) (s0 : Hp) : Option (Option Nat × Hp) :=
  (isO s0 a0 7).bind fun _ =>
  if i1 < 0 then
  D_X7_state_b22 s0
  else
  (getR s0 a0 7 0).bind fun a12 =>
  (alen s0 a12).bind fun i13 =>
  if i13 ≤ i1 then
  D_X7_state_b22 s0
  else
  (getR s0 a0 7 0).bind fun a14 =>
  (ldR s0 a14 i1).bind fun o15 =>
  mtO o15 (
  some (none, s0)
  ) fun a17 =>
  some ((some a17), s0)
set_option maxRecDepth 100000 in
set_option maxHeartbeats 4000000 in
theorem K_X7_state_b22 {l : Launch} {G : smG} {P : Option Value → Hp → Prop}   {s11 : Hp}  (h : OK jR (D_X7_state_b22 s11) P) : T l G RX7 cX7_state 2 (sm_rm 0 0 0) (sm_E (some (.object "SunMirrors$Field")) yX7_state.name) (sm_Qs G P 0 0) 0 0 22 [] [] s11 := by
  unfold D_X7_state_b22 at h
  refine T_null dX7_state_22 ?_
  exact T_areturn (v := none) dX7_state_23 (Nat.le_of_ble_eq_true rfl) (Nat.le_of_ble_eq_true rfl) h
set_option maxRecDepth 100000 in
set_option maxHeartbeats 4000000 in
theorem K_X7_state {l : Launch} {a0 : Nat} {i1 : Int32} {s0 : Hp} : ∀ P, OK jR (D_X7_state a0 i1 s0) P → sm_Ct l yX7_state cX7_state 2 (some (.object "SunMirrors$Field")) 0 0 0 [.ref a0, .int i1] s0 P := by
  intro P h
  unfold D_X7_state at h
  obtain ⟨_, hb0, h⟩ := h.bind
  refine sm_enter (own := RX7) (lv := [(0, .ref a0), (1, .int i1)]) (by decide) rfl (Nat.le_of_ble_eq_true rfl) rfl (fun G => ?_)
  refine T_iload_n dX7_state_0 rfl 1 rfl ?_
  refine T_if_lt 22 dX7_state_1 (by decide) h (fun _ h => ?_) (fun _ h => ?_)
  · refine T_lv (lv' := []) [] rfl ?_
    exact K_X7_state_b22 h
  · refine T_iload_n dX7_state_4 rfl 1 rfl ?_
    refine T_aload_n dX7_state_5 rfl 0 rfl ?_
    refine T_getR dX7_state_6 fl_RX7_15 h (fun a12 h => ?_)
    refine T_alen dX7_state_9 h (fun i13 h => ?_)
    refine T_icmp_ge 22 dX7_state_10 (by decide) h (fun _ h => ?_) (fun _ h => ?_)
    · refine T_lv (lv' := []) [] rfl ?_
      exact K_X7_state_b22 h
    · refine T_aload_n dX7_state_13 rfl 0 rfl ?_
      refine T_getR dX7_state_14 fl_RX7_15 h (fun a14 h => ?_)
      refine T_iload_n dX7_state_17 rfl 1 rfl ?_
      refine T_aaload dX7_state_18 h (fun o15 h => ?_)
      refine T_mtO h (fun h => ?_) (fun a17 h => ?_)
      · refine T_goto 23 dX7_state_19 (by decide) ?_
        exact T_areturn (v := none) dX7_state_23 (Nat.le_of_ble_eq_true rfl) (Nat.le_of_ble_eq_true rfl) h
      · refine T_goto 23 dX7_state_19 (by decide) ?_
        exact T_areturn (v := (some a17)) dX7_state_23 (Nat.le_of_ble_eq_true rfl) (Nat.le_of_ble_eq_true rfl) h

def D_X8_columns (i0 : Int32) (s0 : Hp) : Option (Int32 × Hp) :=
  some (((5 : Int32) - i0), s0)
set_option maxRecDepth 100000 in
set_option maxHeartbeats 4000000 in
theorem K_X8_columns {l : Launch} {i0 : Int32} {s0 : Hp} : ∀ P, OK jI (D_X8_columns i0 s0) P → sm_Ct l yX8_columns cX8_columns 1 (some .int) 0 0 0 [.int i0] s0 P := by
  intro P h
  unfold D_X8_columns at h
  refine sm_enter (own := RX8) (lv := [(0, .int i0)]) (by decide) rfl (Nat.le_of_ble_eq_true rfl) rfl (fun G => ?_)
  refine T_iconst (5 : Int32) dX8_columns_0 (by decide) ?_
  refine T_iload_n dX8_columns_1 rfl 0 rfl ?_
  refine T_isub dX8_columns_2 ?_
  exact T_ireturn dX8_columns_3 (Nat.le_of_ble_eq_true rfl) (Nat.le_of_ble_eq_true rfl) h

def D_X8_isHour (i0 : Int32) (s0 : Hp) : Option (Int32 × Hp) :=
  if i0 < 0 then
  retZ (0 : Int32) ((0 : Int32), s0)
  else
  if (11 : Int32) ≤ i0 then
  retZ (0 : Int32) ((0 : Int32), s0)
  else
  retZ (1 : Int32) ((1 : Int32), s0)
set_option maxRecDepth 100000 in
set_option maxHeartbeats 4000000 in
theorem K_X8_isHour {l : Launch} {i0 : Int32} {s0 : Hp} : ∀ P, OK jI (D_X8_isHour i0 s0) P → sm_Ct l yX8_isHour cX8_isHour 1 (some .boolean) 0 0 0 [.int i0] s0 P := by
  intro P h
  unfold D_X8_isHour at h
  refine sm_enter (own := RX8) (lv := [(0, .int i0)]) (by decide) rfl (Nat.le_of_ble_eq_true rfl) rfl (fun G => ?_)
  refine T_iload_n dX8_isHour_0 rfl 0 rfl ?_
  refine T_if_lt 14 dX8_isHour_1 (by decide) h (fun _ h => ?_) (fun _ h => ?_)
  · refine T_iconst (0 : Int32) dX8_isHour_14 (by decide) ?_
    exact T_zreturn dX8_isHour_15 (Nat.le_of_ble_eq_true rfl) (Nat.le_of_ble_eq_true rfl) h
  · refine T_iload_n dX8_isHour_4 rfl 0 rfl ?_
    refine T_bipush (11 : Int32) dX8_isHour_5 (by decide) ?_
    refine T_icmp_ge 14 dX8_isHour_7 (by decide) h (fun _ h => ?_) (fun _ h => ?_)
    · refine T_iconst (0 : Int32) dX8_isHour_14 (by decide) ?_
      exact T_zreturn dX8_isHour_15 (Nat.le_of_ble_eq_true rfl) (Nat.le_of_ble_eq_true rfl) h
    · refine T_iconst (1 : Int32) dX8_isHour_10 (by decide) ?_
      refine T_goto 15 dX8_isHour_11 (by decide) ?_
      exact T_zreturn dX8_isHour_15 (Nat.le_of_ble_eq_true rfl) (Nat.le_of_ble_eq_true rfl) h

def D_X9_isAimPoint (i0 : Int32) (s0 : Hp) : Option (Int32 × Hp) :=
  if i0 < 0 then
  retZ (0 : Int32) ((0 : Int32), s0)
  else
  if (4 : Int32) ≤ i0 then
  retZ (0 : Int32) ((0 : Int32), s0)
  else
  retZ (1 : Int32) ((1 : Int32), s0)
set_option maxRecDepth 100000 in
set_option maxHeartbeats 4000000 in
theorem K_X9_isAimPoint {l : Launch} {i0 : Int32} {s0 : Hp} : ∀ P, OK jI (D_X9_isAimPoint i0 s0) P → sm_Ct l yX9_isAimPoint cX9_isAimPoint 1 (some .boolean) 0 0 0 [.int i0] s0 P := by
  intro P h
  unfold D_X9_isAimPoint at h
  refine sm_enter (own := RX9) (lv := [(0, .int i0)]) (by decide) rfl (Nat.le_of_ble_eq_true rfl) rfl (fun G => ?_)
  refine T_iload_n dX9_isAimPoint_0 rfl 0 rfl ?_
  refine T_if_lt 13 dX9_isAimPoint_1 (by decide) h (fun _ h => ?_) (fun _ h => ?_)
  · refine T_iconst (0 : Int32) dX9_isAimPoint_13 (by decide) ?_
    exact T_zreturn dX9_isAimPoint_14 (Nat.le_of_ble_eq_true rfl) (Nat.le_of_ble_eq_true rfl) h
  · refine T_iload_n dX9_isAimPoint_4 rfl 0 rfl ?_
    refine T_iconst (4 : Int32) dX9_isAimPoint_5 (by decide) ?_
    refine T_icmp_ge 13 dX9_isAimPoint_6 (by decide) h (fun _ h => ?_) (fun _ h => ?_)
    · refine T_iconst (0 : Int32) dX9_isAimPoint_13 (by decide) ?_
      exact T_zreturn dX9_isAimPoint_14 (Nat.le_of_ble_eq_true rfl) (Nat.le_of_ble_eq_true rfl) h
    · refine T_iconst (1 : Int32) dX9_isAimPoint_9 (by decide) ?_
      refine T_goto 14 dX9_isAimPoint_10 (by decide) ?_
      exact T_zreturn dX9_isAimPoint_14 (Nat.le_of_ble_eq_true rfl) (Nat.le_of_ble_eq_true rfl) h

def D_X9_isChoice (i0 : Int32) (s0 : Hp) : Option (Int32 × Hp) :=
  if i0 = 0 then
  retZ (1 : Int32) ((1 : Int32), s0)
  else
  if i0 = (1 : Int32) then
  retZ (1 : Int32) ((1 : Int32), s0)
  else
  retZ (0 : Int32) ((0 : Int32), s0)
set_option maxRecDepth 100000 in
set_option maxHeartbeats 4000000 in
theorem K_X9_isChoice {l : Launch} {i0 : Int32} {s0 : Hp} : ∀ P, OK jI (D_X9_isChoice i0 s0) P → sm_Ct l yX9_isChoice cX9_isChoice 1 (some .boolean) 0 0 0 [.int i0] s0 P := by
  intro P h
  unfold D_X9_isChoice at h
  refine sm_enter (own := RX9) (lv := [(0, .int i0)]) (by decide) rfl (Nat.le_of_ble_eq_true rfl) rfl (fun G => ?_)
  refine T_iload_n dX9_isChoice_0 rfl 0 rfl ?_
  refine T_if_eq 9 dX9_isChoice_1 (by decide) h (fun _ h => ?_) (fun _ h => ?_)
  · refine T_iconst (1 : Int32) dX9_isChoice_9 (by decide) ?_
    refine T_goto 14 dX9_isChoice_10 (by decide) ?_
    exact T_zreturn dX9_isChoice_14 (Nat.le_of_ble_eq_true rfl) (Nat.le_of_ble_eq_true rfl) h
  · refine T_iload_n dX9_isChoice_4 rfl 0 rfl ?_
    refine T_iconst (1 : Int32) dX9_isChoice_5 (by decide) ?_
    refine T_icmp_ne 13 dX9_isChoice_6 (by decide) h (fun _ h => ?_) (fun _ h => ?_)
    · refine T_iconst (0 : Int32) dX9_isChoice_13 (by decide) ?_
      exact T_zreturn dX9_isChoice_14 (Nat.le_of_ble_eq_true rfl) (Nat.le_of_ble_eq_true rfl) h
    · refine T_iconst (1 : Int32) dX9_isChoice_9 (by decide) ?_
      refine T_goto 14 dX9_isChoice_10 (by decide) ?_
      exact T_zreturn dX9_isChoice_14 (Nat.le_of_ble_eq_true rfl) (Nat.le_of_ble_eq_true rfl) h

def D_X9_isPlace (i0 : Int32) (i1 : Int32) (s0 : Hp) : Option (Int32 × Hp) :=
  if i0 < 0 then
  retZ (0 : Int32) ((0 : Int32), s0)
  else
  if (20 : Int32) ≤ i0 then
  retZ (0 : Int32) ((0 : Int32), s0)
  else
  if i1 < 0 then
  retZ (0 : Int32) ((0 : Int32), s0)
  else
  if (20 : Int32) ≤ i1 then
  retZ (0 : Int32) ((0 : Int32), s0)
  else
  retZ (1 : Int32) ((1 : Int32), s0)
set_option maxRecDepth 100000 in
set_option maxHeartbeats 4000000 in
theorem K_X9_isPlace {l : Launch} {i0 : Int32} {i1 : Int32} {s0 : Hp} : ∀ P, OK jI (D_X9_isPlace i0 i1 s0) P → sm_Ct l yX9_isPlace cX9_isPlace 2 (some .boolean) 0 0 0 [.int i0, .int i1] s0 P := by
  intro P h
  unfold D_X9_isPlace at h
  refine sm_enter (own := RX9) (lv := [(0, .int i0), (1, .int i1)]) (by decide) rfl (Nat.le_of_ble_eq_true rfl) rfl (fun G => ?_)
  refine T_iload_n dX9_isPlace_0 rfl 0 rfl ?_
  refine T_if_lt 24 dX9_isPlace_1 (by decide) h (fun _ h => ?_) (fun _ h => ?_)
  · refine T_iconst (0 : Int32) dX9_isPlace_24 (by decide) ?_
    exact T_zreturn dX9_isPlace_25 (Nat.le_of_ble_eq_true rfl) (Nat.le_of_ble_eq_true rfl) h
  · refine T_iload_n dX9_isPlace_4 rfl 0 rfl ?_
    refine T_bipush (20 : Int32) dX9_isPlace_5 (by decide) ?_
    refine T_icmp_ge 24 dX9_isPlace_7 (by decide) h (fun _ h => ?_) (fun _ h => ?_)
    · refine T_iconst (0 : Int32) dX9_isPlace_24 (by decide) ?_
      exact T_zreturn dX9_isPlace_25 (Nat.le_of_ble_eq_true rfl) (Nat.le_of_ble_eq_true rfl) h
    · refine T_iload_n dX9_isPlace_10 rfl 1 rfl ?_
      refine T_if_lt 24 dX9_isPlace_11 (by decide) h (fun _ h => ?_) (fun _ h => ?_)
      · refine T_iconst (0 : Int32) dX9_isPlace_24 (by decide) ?_
        exact T_zreturn dX9_isPlace_25 (Nat.le_of_ble_eq_true rfl) (Nat.le_of_ble_eq_true rfl) h
      · refine T_iload_n dX9_isPlace_14 rfl 1 rfl ?_
        refine T_bipush (20 : Int32) dX9_isPlace_15 (by decide) ?_
        refine T_icmp_ge 24 dX9_isPlace_17 (by decide) h (fun _ h => ?_) (fun _ h => ?_)
        · refine T_iconst (0 : Int32) dX9_isPlace_24 (by decide) ?_
          exact T_zreturn dX9_isPlace_25 (Nat.le_of_ble_eq_true rfl) (Nat.le_of_ble_eq_true rfl) h
        · refine T_iconst (1 : Int32) dX9_isPlace_20 (by decide) ?_
          refine T_goto 25 dX9_isPlace_21 (by decide) ?_
          exact T_zreturn dX9_isPlace_25 (Nat.le_of_ble_eq_true rfl) (Nat.le_of_ble_eq_true rfl) h

def D_X9_isSlot (i0 : Int32) (s0 : Hp) : Option (Int32 × Hp) :=
  if i0 < 0 then
  retZ (0 : Int32) ((0 : Int32), s0)
  else
  if (2 : Int32) ≤ i0 then
  retZ (0 : Int32) ((0 : Int32), s0)
  else
  retZ (1 : Int32) ((1 : Int32), s0)
set_option maxRecDepth 100000 in
set_option maxHeartbeats 4000000 in
theorem K_X9_isSlot {l : Launch} {i0 : Int32} {s0 : Hp} : ∀ P, OK jI (D_X9_isSlot i0 s0) P → sm_Ct l yX9_isSlot cX9_isSlot 1 (some .boolean) 0 0 0 [.int i0] s0 P := by
  intro P h
  unfold D_X9_isSlot at h
  refine sm_enter (own := RX9) (lv := [(0, .int i0)]) (by decide) rfl (Nat.le_of_ble_eq_true rfl) rfl (fun G => ?_)
  refine T_iload_n dX9_isSlot_0 rfl 0 rfl ?_
  refine T_if_lt 13 dX9_isSlot_1 (by decide) h (fun _ h => ?_) (fun _ h => ?_)
  · refine T_iconst (0 : Int32) dX9_isSlot_13 (by decide) ?_
    exact T_zreturn dX9_isSlot_14 (Nat.le_of_ble_eq_true rfl) (Nat.le_of_ble_eq_true rfl) h
  · refine T_iload_n dX9_isSlot_4 rfl 0 rfl ?_
    refine T_iconst (2 : Int32) dX9_isSlot_5 (by decide) ?_
    refine T_icmp_ge 13 dX9_isSlot_6 (by decide) h (fun _ h => ?_) (fun _ h => ?_)
    · refine T_iconst (0 : Int32) dX9_isSlot_13 (by decide) ?_
      exact T_zreturn dX9_isSlot_14 (Nat.le_of_ble_eq_true rfl) (Nat.le_of_ble_eq_true rfl) h
    · refine T_iconst (1 : Int32) dX9_isSlot_9 (by decide) ?_
      refine T_goto 14 dX9_isSlot_10 (by decide) ?_
      exact T_zreturn dX9_isSlot_14 (Nat.le_of_ble_eq_true rfl) (Nat.le_of_ble_eq_true rfl) h

def D_X10_allDirt_w4 (a11 : Nat) (k30 : Int32 → Hp → Option (Int32 × Hp)) : Nat → Int32 → Int32 → Hp → Option (Int32 × Hp)
  | 0, _, _, _ => none
  | n15 + 1, i12, i13, s14 =>
  (getR s14 a11 9 0).bind fun a16 =>
  (ldI s14 a16 (6 : Int32)).bind fun i17 =>
  if i17 ≤ i13 then
  k30 i12 s14
  else
  bd (D_X10_its a11 i13 (3 : Int32) s14) fun i18 s19 =>
  nm (i12 + i18) fun i20 =>
  D_X10_allDirt_w4 a11 k30 n15 i20 (i13 + 1) s19
def D_X10_allDirt (a0 : Nat) (s0 : Hp) : Option (Int32 × Hp) :=
  (isO s0 a0 9).bind fun _ =>
  D_X10_allDirt_w4 a0 (fun i24 s23 =>
  some (i24, s23)
  ) FU (0 : Int32) (0 : Int32) s0
set_option maxRecDepth 100000 in
set_option maxHeartbeats 4000000 in
theorem K_X10_allDirt_w4 {l : Launch} {G : smG} {P : Option Value → Hp → Prop} {a11 : Nat} {k30 : Int32 → Hp → Option (Int32 × Hp)} (hk30 : ∀ (i21 : Int32) (s22 : Hp), OK jI (k30 i21 s22) P → T l G RX10 cX10_allDirt 3 (sm_rm 1 0 0) (sm_E (some .int) yX10_allDirt.name) (sm_Qs G P 0 0) 0 0 30 [(1, .int i21)] [] s22) : ∀ (n : Nat) (i12 : Int32) (i13 : Int32) (s14 : Hp), OK jI (D_X10_allDirt_w4 a11 k30 n i12 i13 s14) P → T l G RX10 cX10_allDirt 3 (sm_rm 1 0 0) (sm_E (some .int) yX10_allDirt.name) (sm_Qs G P 0 0) 0 0 4 [(0, .ref a11), (1, .int i12), (2, .int i13)] [] s14 := by
  intro n
  induction n with
  | zero => intro i12 i13 s14 h; obtain ⟨_, h0, _⟩ := h; exact absurd h0 (by simp [D_X10_allDirt_w4])
  | succ n15 ih =>
    intro i12 i13 s14 h
    unfold D_X10_allDirt_w4 at h
    refine T_iload_n dX10_allDirt_4 rfl 2 rfl ?_
    refine T_aload_n dX10_allDirt_5 rfl 0 rfl ?_
    refine T_getR dX10_allDirt_6 fl_RX10_7 h (fun a16 h => ?_)
    refine T_bipush (6 : Int32) dX10_allDirt_9 (by decide) ?_
    refine T_iaload dX10_allDirt_11 h (fun i17 h => ?_)
    refine T_icmp_ge 30 dX10_allDirt_12 (by decide) h (fun _ h => ?_) (fun _ h => ?_)
    · refine T_lv (lv' := [(1, .int i12)]) [1] rfl ?_
      exact hk30 i12 s14 h
    · refine T_iload_n dX10_allDirt_15 rfl 1 rfl ?_
      refine T_aload_n dX10_allDirt_16 rfl 0 rfl ?_
      refine T_iload_n dX10_allDirt_17 rfl 2 rfl ?_
      refine T_iconst (3 : Int32) dX10_allDirt_18 (by decide) ?_
      refine T_callVI (As := [.int i13, .int (3 : Int32)]) (rest := [.int i12]) (b := a11) (ci := 9) dX10_allDirt_19 mc_X10_its mi_X10_its ml_RX10_57 rfl (fun _ hr => chk_of hr) rfl rfl (Nat.le_of_ble_eq_true rfl) ⟨⟨Nat.le_of_ble_eq_true rfl, Nat.le_of_ble_eq_true rfl⟩, ⟨Nat.le_of_ble_eq_true rfl, Nat.le_of_ble_eq_true rfl⟩⟩ K_X10_its h (fun i18 s19 h => ?_)
      refine T_iadd dX10_allDirt_22 ?_
      refine T_nm h (fun i20 h => ?_)
      refine T_istore_n (lv' := [(1, .int i20), (0, .ref a11), (2, .int i13)]) dX10_allDirt_23 rfl (by decide) rfl ?_
      refine T_iinc (i13 + 1) (lv' := [(2, .int (i13 + 1)), (1, .int i20), (0, .ref a11)]) dX10_allDirt_24 (j := 2) rfl rfl (by decide) rfl ?_
      refine T_goto 4 dX10_allDirt_27 (by decide) ?_
      refine T_lv (lv' := [(0, .ref a11), (1, .int i20), (2, .int (i13 + 1))]) [2, 1, 0] rfl ?_
      exact ih i20 (i13 + 1) s19 h
set_option maxRecDepth 100000 in
set_option maxHeartbeats 4000000 in
theorem K_X10_allDirt {l : Launch} {a0 : Nat} {s0 : Hp} : ∀ P, OK jI (D_X10_allDirt a0 s0) P → sm_Ct l yX10_allDirt cX10_allDirt 3 (some .int) 1 0 0 [.ref a0] s0 P := by
  intro P h
  unfold D_X10_allDirt at h
  obtain ⟨_, hb0, h⟩ := h.bind
  refine sm_enter (own := RX10) (lv := [(0, .ref a0)]) (by decide) rfl (Nat.le_of_ble_eq_true rfl) rfl (fun G => ?_)
  refine T_iconst (0 : Int32) dX10_allDirt_0 (by decide) ?_
  refine T_istore_n (lv' := [(1, .int (0 : Int32)), (0, .ref a0)]) dX10_allDirt_1 rfl (by decide) rfl ?_
  refine T_iconst (0 : Int32) dX10_allDirt_2 (by decide) ?_
  refine T_istore_n (lv' := [(2, .int (0 : Int32)), (1, .int (0 : Int32)), (0, .ref a0)]) dX10_allDirt_3 rfl (by decide) rfl ?_
  refine T_lv (lv' := [(0, .ref a0), (1, .int (0 : Int32)), (2, .int (0 : Int32))]) [2, 1, 0] rfl ?_
  refine K_X10_allDirt_w4 ?_ FU (0 : Int32) (0 : Int32) s0 h
  intro i24 s23 h
  refine T_iload_n dX10_allDirt_30 rfl 0 rfl ?_
  exact T_ireturn dX10_allDirt_31 (Nat.le_of_ble_eq_true rfl) (Nat.le_of_ble_eq_true rfl) h

def D_X10_doWind (a0 : Nat) (i1 : Int32) (s0 : Hp) : Option (Int32 × Hp) :=
  (isO s0 a0 9).bind fun _ =>
  bd (D_X10_isIn (i1).toInt64 (0 : Int64) (99 : Int64) s0) fun i11 s12 =>
  if i11 = 0 then
  some ((-2 : Int32), s12)
  else
  (getR s12 a0 9 0).bind fun a13 =>
  (stI s12 a13 (4 : Int32) i1).bind fun s14 =>
  bd (D_X10_areFlat a0 s14) fun i15 s16 =>
  if i15 = 0 then
  some ((0 : Int32), s16)
  else
  some ((1 : Int32), s16)
set_option maxRecDepth 100000 in
set_option maxHeartbeats 4000000 in
theorem K_X10_doWind {l : Launch} {a0 : Nat} {i1 : Int32} {s0 : Hp} : ∀ P, OK jI (D_X10_doWind a0 i1 s0) P → sm_Ct l yX10_doWind cX10_doWind 2 (some .int) 1 0 0 [.ref a0, .int i1] s0 P := by
  intro P h
  unfold D_X10_doWind at h
  obtain ⟨_, hb0, h⟩ := h.bind
  refine sm_enter (own := RX10) (lv := [(0, .ref a0), (1, .int i1)]) (by decide) rfl (Nat.le_of_ble_eq_true rfl) rfl (fun G => ?_)
  refine T_iload_n dX10_doWind_0 rfl 1 rfl ?_
  refine T_i2l dX10_doWind_1 ?_
  refine T_lconst (0 : Int64) dX10_doWind_2 (by decide) ?_
  refine T_ldc2 (99 : Int64) dX10_doWind_3 wd_9_19 ?_
  refine T_callSI (As := [.long (i1).toInt64, .long (0 : Int64), .long (99 : Int64)]) (rest := []) dX10_doWind_6 mc_X10_isIn mi_X10_isIn ml_RX10_51 rfl rfl (Nat.le_of_ble_eq_true rfl) ⟨⟨Nat.le_of_ble_eq_true rfl, Nat.le_of_ble_eq_true rfl⟩, ⟨Nat.le_of_ble_eq_true rfl, Nat.le_of_ble_eq_true rfl⟩⟩ K_X10_isIn h (fun i11 s12 h => ?_)
  refine T_if_ne 15 dX10_doWind_9 (by decide) h (fun _ h => ?_) (fun _ h => ?_)
  · refine T_aload_n dX10_doWind_15 rfl 0 rfl ?_
    refine T_getR dX10_doWind_16 fl_RX10_7 h (fun a13 h => ?_)
    refine T_iconst (4 : Int32) dX10_doWind_19 (by decide) ?_
    refine T_iload_n dX10_doWind_20 rfl 1 rfl ?_
    refine T_iastore dX10_doWind_21 h (fun s14 h => ?_)
    refine T_aload_n dX10_doWind_22 rfl 0 rfl ?_
    refine T_callVI (As := []) (rest := []) (b := a0) (ci := 9) dX10_doWind_23 mc_X10_areFlat mi_X10_areFlat ml_RX10_69 rfl (fun _ hr => chk_of hr) rfl rfl (Nat.le_of_ble_eq_true rfl) ⟨⟨Nat.le_of_ble_eq_true rfl, Nat.le_of_ble_eq_true rfl⟩, ⟨Nat.le_of_ble_eq_true rfl, Nat.le_of_ble_eq_true rfl⟩⟩ K_X10_areFlat h (fun i15 s16 h => ?_)
    refine T_if_eq 33 dX10_doWind_26 (by decide) h (fun _ h => ?_) (fun _ h => ?_)
    · refine T_iconst (0 : Int32) dX10_doWind_33 (by decide) ?_
      exact T_ireturn dX10_doWind_34 (Nat.le_of_ble_eq_true rfl) (Nat.le_of_ble_eq_true rfl) h
    · refine T_iconst (1 : Int32) dX10_doWind_29 (by decide) ?_
      refine T_goto 34 dX10_doWind_30 (by decide) ?_
      exact T_ireturn dX10_doWind_34 (Nat.le_of_ble_eq_true rfl) (Nat.le_of_ble_eq_true rfl) h
  · refine T_bipush (-2 : Int32) dX10_doWind_12 (by decide) ?_
    exact T_ireturn dX10_doWind_14 (Nat.le_of_ble_eq_true rfl) (Nat.le_of_ble_eq_true rfl) h

def D_X10_ends (a0 : Nat) (i1 : Int32) (s0 : Hp) : Option (Int32 × Hp) :=
  (isO s0 a0 9).bind fun _ =>
  if 0 ≤ i1 then
  bd (D_X10_changed a0 i1 s0) fun i11 s12 =>
  some (i11, s12)
  else
  some (i1, s0)
set_option maxRecDepth 100000 in
set_option maxHeartbeats 4000000 in
theorem K_X10_ends {l : Launch} {a0 : Nat} {i1 : Int32} {s0 : Hp} : ∀ P, OK jI (D_X10_ends a0 i1 s0) P → sm_Ct l yX10_ends cX10_ends 2 (some .int) 1 0 0 [.ref a0, .int i1] s0 P := by
  intro P h
  unfold D_X10_ends at h
  obtain ⟨_, hb0, h⟩ := h.bind
  refine sm_enter (own := RX10) (lv := [(0, .ref a0), (1, .int i1)]) (by decide) rfl (Nat.le_of_ble_eq_true rfl) rfl (fun G => ?_)
  refine T_iload_n dX10_ends_0 rfl 1 rfl ?_
  refine T_if_ge 8 dX10_ends_1 (by decide) h (fun _ h => ?_) (fun _ h => ?_)
  · refine T_aload_n dX10_ends_8 rfl 0 rfl ?_
    refine T_iload_n dX10_ends_9 rfl 1 rfl ?_
    refine T_callVI (As := [.int i1]) (rest := []) (b := a0) (ci := 9) dX10_ends_10 mc_X10_changed mi_X10_changed ml_RX10_118 rfl (fun _ hr => chk_of hr) rfl rfl (Nat.le_of_ble_eq_true rfl) ⟨⟨Nat.le_of_ble_eq_true rfl, Nat.le_of_ble_eq_true rfl⟩, ⟨Nat.le_of_ble_eq_true rfl, Nat.le_of_ble_eq_true rfl⟩⟩ K_X10_changed h (fun i11 s12 h => ?_)
    exact T_ireturn dX10_ends_13 (Nat.le_of_ble_eq_true rfl) (Nat.le_of_ble_eq_true rfl) h
  · refine T_iload_n dX10_ends_4 rfl 1 rfl ?_
    refine T_goto 13 dX10_ends_5 (by decide) ?_
    exact T_ireturn dX10_ends_13 (Nat.le_of_ble_eq_true rfl) (Nat.le_of_ble_eq_true rfl) h

def D_X10_high (i0 : Int32) (s0 : Hp) : Option (Int32 × Hp) :=
  bd (D_X10_size (i0 - (5 : Int32)) s0) fun i11 s12 =>
  some (((6 : Int32) - i11), s12)
set_option maxRecDepth 100000 in
set_option maxHeartbeats 4000000 in
theorem K_X10_high {l : Launch} {i0 : Int32} {s0 : Hp} : ∀ P, OK jI (D_X10_high i0 s0) P → sm_Ct l yX10_high cX10_high 1 (some .int) 1 0 0 [.int i0] s0 P := by
  intro P h
  unfold D_X10_high at h
  refine sm_enter (own := RX10) (lv := [(0, .int i0)]) (by decide) rfl (Nat.le_of_ble_eq_true rfl) rfl (fun G => ?_)
  refine T_bipush (6 : Int32) dX10_high_0 (by decide) ?_
  refine T_iload_n dX10_high_2 rfl 0 rfl ?_
  refine T_iconst (5 : Int32) dX10_high_3 (by decide) ?_
  refine T_isub dX10_high_4 ?_
  refine T_callSI (As := [.int (i0 - (5 : Int32))]) (rest := [.int (6 : Int32)]) dX10_high_5 mc_X10_size mi_X10_size ml_RX10_47 rfl rfl (Nat.le_of_ble_eq_true rfl) ⟨⟨Nat.le_of_ble_eq_true rfl, Nat.le_of_ble_eq_true rfl⟩, ⟨Nat.le_of_ble_eq_true rfl, Nat.le_of_ble_eq_true rfl⟩⟩ K_X10_size h (fun i11 s12 h => ?_)
  refine T_isub dX10_high_8 ?_
  exact T_ireturn dX10_high_9 (Nat.le_of_ble_eq_true rfl) (Nat.le_of_ble_eq_true rfl) h

def D_X10_init (a0 : Nat) (s0 : Hp) : Option Hp :=
  (isO s0 a0 9).bind fun _ =>
  (newI s0 (132 : Int32)).bind fun s11 =>
  (putV s11 a0 9 0 (.ref s0.1)).bind fun s12 =>
  (newI s12 (132 : Int32)).bind fun s13 =>
  (putV s13 a0 9 1 (.ref s12.1)).bind fun s14 =>
  (newI s14 (132 : Int32)).bind fun s15 =>
  (putV s15 a0 9 2 (.ref s14.1)).bind fun s16 =>
  (newI s16 (792 : Int32)).bind fun s17 =>
  (putV s17 a0 9 3 (.ref s16.1)).bind fun s18 =>
  (newI s18 (264 : Int32)).bind fun s19 =>
  (putV s19 a0 9 5 (.ref s18.1)).bind fun s20 =>
  (newI s20 (2 : Int32)).bind fun s21 =>
  (putV s21 a0 9 6 (.ref s20.1)).bind fun s22 =>
  (newI s22 (25 : Int32)).bind fun s23 =>
  (putV s23 a0 9 7 (.ref s22.1)).bind fun s24 =>
  (newI s24 (25 : Int32)).bind fun s25 =>
  (putV s25 a0 9 8 (.ref s24.1)).bind fun s26 =>
  (newI s26 (4 : Int32)).bind fun s27 =>
  (putV s27 a0 9 9 (.ref s26.1)).bind fun s28 =>
  (newI s28 (25 : Int32)).bind fun s29 =>
  (putV s29 a0 9 10 (.ref s28.1)).bind fun s30 =>
  (newI s30 (80 : Int32)).bind fun s31 =>
  (putV s31 a0 9 11 (.ref s30.1)).bind fun s32 =>
  (getR s32 a0 9 0).bind fun a33 =>
  (stI s32 a33 (0 : Int32) (400 : Int32)).bind fun s34 =>
  (getR s34 a0 9 0).bind fun a35 =>
  (stI s34 a35 (1 : Int32) (50 : Int32)).bind fun s36 =>
  (getR s36 a0 9 0).bind fun a37 =>
  (stI s36 a37 (2 : Int32) (2 : Int32)).bind fun s38 =>
  some s38
set_option maxRecDepth 100000 in
set_option maxHeartbeats 4000000 in
theorem K_X10_init {l : Launch} {a0 : Nat} {s0 : Hp} : ∀ P, OK jV (D_X10_init a0 s0) P → sm_Ct l yX10_init cX10_init 1 none 1 11 8800 [.ref a0] s0 P := by
  intro P h
  unfold D_X10_init at h
  obtain ⟨_, hb0, h⟩ := h.bind
  refine sm_enter (own := RX10) (lv := [(0, .ref a0)]) (by decide) rfl (Nat.le_of_ble_eq_true rfl) rfl (fun G => ?_)
  refine T_aload_n dX10_init_0 rfl 0 rfl ?_
  refine T_objInit dX10_init_1 ml_RX10_1 wd_1_11 wd_1_12 ⟨Nat.le_of_ble_eq_true rfl, Nat.le_of_ble_eq_true rfl⟩ ?_
  refine T_aload_n dX10_init_4 rfl 0 rfl ?_
  refine T_sipush (132 : Int32) dX10_init_5 (by decide) ?_
  refine T_newI dX10_init_8 wd_3_19 (Nat.le_of_ble_eq_true rfl) (Nat.le_of_ble_eq_true rfl) h (fun s11 h => ?_)
  refine T_putF (rt := none) rfl dX10_init_10 fl_RX10_7 ft_9_0 rfl rfl rfl h (fun s12 h => ?_)
  refine T_aload_n dX10_init_13 rfl 0 rfl ?_
  refine T_sipush (132 : Int32) dX10_init_14 (by decide) ?_
  refine T_newI dX10_init_17 wd_3_19 (Nat.le_of_ble_eq_true rfl) (Nat.le_of_ble_eq_true rfl) h (fun s13 h => ?_)
  refine T_putF (rt := none) rfl dX10_init_19 fl_RX10_13 ft_9_1 rfl rfl rfl h (fun s14 h => ?_)
  refine T_aload_n dX10_init_22 rfl 0 rfl ?_
  refine T_sipush (132 : Int32) dX10_init_23 (by decide) ?_
  refine T_newI dX10_init_26 wd_3_19 (Nat.le_of_ble_eq_true rfl) (Nat.le_of_ble_eq_true rfl) h (fun s15 h => ?_)
  refine T_putF (rt := none) rfl dX10_init_28 fl_RX10_16 ft_9_2 rfl rfl rfl h (fun s16 h => ?_)
  refine T_aload_n dX10_init_31 rfl 0 rfl ?_
  refine T_sipush (792 : Int32) dX10_init_32 (by decide) ?_
  refine T_newI dX10_init_35 wd_3_19 (Nat.le_of_ble_eq_true rfl) (Nat.le_of_ble_eq_true rfl) h (fun s17 h => ?_)
  refine T_putF (rt := none) rfl dX10_init_37 fl_RX10_19 ft_9_3 rfl rfl rfl h (fun s18 h => ?_)
  refine T_aload_n dX10_init_40 rfl 0 rfl ?_
  refine T_sipush (264 : Int32) dX10_init_41 (by decide) ?_
  refine T_newI dX10_init_44 wd_3_19 (Nat.le_of_ble_eq_true rfl) (Nat.le_of_ble_eq_true rfl) h (fun s19 h => ?_)
  refine T_putF (rt := none) rfl dX10_init_46 fl_RX10_22 ft_9_5 rfl rfl rfl h (fun s20 h => ?_)
  refine T_aload_n dX10_init_49 rfl 0 rfl ?_
  refine T_iconst (2 : Int32) dX10_init_50 (by decide) ?_
  refine T_newI dX10_init_51 wd_3_19 (Nat.le_of_ble_eq_true rfl) (Nat.le_of_ble_eq_true rfl) h (fun s21 h => ?_)
  refine T_putF (rt := none) rfl dX10_init_53 fl_RX10_25 ft_9_6 rfl rfl rfl h (fun s22 h => ?_)
  refine T_aload_n dX10_init_56 rfl 0 rfl ?_
  refine T_bipush (25 : Int32) dX10_init_57 (by decide) ?_
  refine T_newI dX10_init_59 wd_3_19 (Nat.le_of_ble_eq_true rfl) (Nat.le_of_ble_eq_true rfl) h (fun s23 h => ?_)
  refine T_putF (rt := none) rfl dX10_init_61 fl_RX10_28 ft_9_7 rfl rfl rfl h (fun s24 h => ?_)
  refine T_aload_n dX10_init_64 rfl 0 rfl ?_
  refine T_bipush (25 : Int32) dX10_init_65 (by decide) ?_
  refine T_newI dX10_init_67 wd_3_19 (Nat.le_of_ble_eq_true rfl) (Nat.le_of_ble_eq_true rfl) h (fun s25 h => ?_)
  refine T_putF (rt := none) rfl dX10_init_69 fl_RX10_31 ft_9_8 rfl rfl rfl h (fun s26 h => ?_)
  refine T_aload_n dX10_init_72 rfl 0 rfl ?_
  refine T_iconst (4 : Int32) dX10_init_73 (by decide) ?_
  refine T_newI dX10_init_74 wd_3_19 (Nat.le_of_ble_eq_true rfl) (Nat.le_of_ble_eq_true rfl) h (fun s27 h => ?_)
  refine T_putF (rt := none) rfl dX10_init_76 fl_RX10_34 ft_9_9 rfl rfl rfl h (fun s28 h => ?_)
  refine T_aload_n dX10_init_79 rfl 0 rfl ?_
  refine T_bipush (25 : Int32) dX10_init_80 (by decide) ?_
  refine T_newI dX10_init_82 wd_3_19 (Nat.le_of_ble_eq_true rfl) (Nat.le_of_ble_eq_true rfl) h (fun s29 h => ?_)
  refine T_putF (rt := none) rfl dX10_init_84 fl_RX10_37 ft_9_10 rfl rfl rfl h (fun s30 h => ?_)
  refine T_aload_n dX10_init_87 rfl 0 rfl ?_
  refine T_bipush (80 : Int32) dX10_init_88 (by decide) ?_
  refine T_newI dX10_init_90 wd_3_19 (Nat.le_of_ble_eq_true rfl) (Nat.le_of_ble_eq_true rfl) h (fun s31 h => ?_)
  refine T_putF (rt := none) rfl dX10_init_92 fl_RX10_40 ft_9_11 rfl rfl rfl h (fun s32 h => ?_)
  refine T_aload_n dX10_init_95 rfl 0 rfl ?_
  refine T_getR dX10_init_96 fl_RX10_7 h (fun a33 h => ?_)
  refine T_iconst (0 : Int32) dX10_init_99 (by decide) ?_
  refine T_sipush (400 : Int32) dX10_init_100 (by decide) ?_
  refine T_iastore dX10_init_103 h (fun s34 h => ?_)
  refine T_aload_n dX10_init_104 rfl 0 rfl ?_
  refine T_getR dX10_init_105 fl_RX10_7 h (fun a35 h => ?_)
  refine T_iconst (1 : Int32) dX10_init_108 (by decide) ?_
  refine T_bipush (50 : Int32) dX10_init_109 (by decide) ?_
  refine T_iastore dX10_init_111 h (fun s36 h => ?_)
  refine T_aload_n dX10_init_112 rfl 0 rfl ?_
  refine T_getR dX10_init_113 fl_RX10_7 h (fun a37 h => ?_)
  refine T_iconst (2 : Int32) dX10_init_116 (by decide) ?_
  refine T_iconst (2 : Int32) dX10_init_117 (by decide) ?_
  refine T_iastore dX10_init_118 h (fun s38 h => ?_)
  exact T_vreturn dX10_init_119 (Nat.le_of_ble_eq_true rfl) (Nat.le_of_ble_eq_true rfl) h

def D_X10_isBlocked_b104 (k26 : Int32 → Int32 → Hp → Option (Int32 × Hp)) (a38 : Nat) (i39 : Int32) (i40 : Int32) (i41 : Int32) (i42 : Int32) (i44 : Int32) (s43 : Hp) : Option (Int32 × Hp) :=
  k26 i44 (i42 + 1) s43
def D_X10_isBlocked_b99 (k26 : Int32 → Int32 → Hp → Option (Int32 × Hp)) (a32 : Nat) (i33 : Int32) (i34 : Int32) (i35 : Int32) (i36 : Int32) (s37 : Hp) : Option (Int32 × Hp) :=
  D_X10_isBlocked_b104 k26 a32 i33 i34 i35 i36 (1 : Int32) s37
def D_X10_isBlocked_b103 (k26 : Int32 → Int32 → Hp → Option (Int32 × Hp)) (a53 : Nat) (i54 : Int32) (i55 : Int32) (i56 : Int32) (i57 : Int32) (s58 : Hp) : Option (Int32 × Hp) :=
  D_X10_isBlocked_b104 k26 a53 i54 i55 i56 i57 (0 : Int32) s58
def D_X10_isBlocked_w26 (a17 : Nat) (i18 : Int32) (i19 : Int32) (i20 : Int32) (k112 : Int32 → Hp → Option (Int32 × Hp)) : Nat → Int32 → Int32 → Hp → Option (Int32 × Hp)
  | 0, _, _, _ => none
  | n24 + 1, i21, i22, s23 =>
  (getR s23 a17 9 0).bind fun a25 =>
  (ldI s23 a25 (6 : Int32)).bind fun i26 =>
  if i26 ≤ i22 then
  k112 i21 s23
  else
  bd (D_X10_its a17 i18 (0 : Int32) s23) fun i27 s28 =>
  bd (D_X10_its a17 i22 (0 : Int32) s28) fun i29 s30 =>
  nm (i27 - i29) fun i31 =>
  if i21 = 0 then
  bd (D_X10_isIn (i31).toInt64 (1 : Int64) (4 : Int64) s30) fun i51 s52 =>
  if i51 = 0 then
  D_X10_isBlocked_b103 (D_X10_isBlocked_w26 a17 i18 i19 i20 k112 n24) a17 i18 i19 i20 i22 s52
  else
  bd (D_X10_its a17 i22 (1 : Int32) s52) fun i62 s63 =>
  bd (D_X10_its a17 i22 (0 : Int32) s63) fun i64 s65 =>
  if ((i62 - (10 : Int32)) * i19) = (i20 * (i64 - (-2 : Int32))) then
  D_X10_isBlocked_b99 (D_X10_isBlocked_w26 a17 i18 i19 i20 k112 n24) a17 i18 i19 i20 i22 s65
  else
  D_X10_isBlocked_b103 (D_X10_isBlocked_w26 a17 i18 i19 i20 k112 n24) a17 i18 i19 i20 i22 s65
  else
  D_X10_isBlocked_b99 (D_X10_isBlocked_w26 a17 i18 i19 i20 k112 n24) a17 i18 i19 i20 i22 s30
def D_X10_isBlocked (a0 : Nat) (i1 : Int32) (s0 : Hp) : Option (Int32 × Hp) :=
  (isO s0 a0 9).bind fun _ =>
  bd (D_X10_its a0 i1 (0 : Int32) s0) fun i11 s12 =>
  nm (i11 - (-2 : Int32)) fun i13 =>
  bd (D_X10_its a0 i1 (1 : Int32) s12) fun i14 s15 =>
  nm (i14 - (10 : Int32)) fun i16 =>
  D_X10_isBlocked_w26 a0 i1 i13 i16 (fun i69 s68 =>
  retZ i69 (i69, s68)
  ) FU (0 : Int32) (0 : Int32) s15
set_option maxRecDepth 100000 in
set_option maxHeartbeats 4000000 in
theorem K_X10_isBlocked_b104 {l : Launch} {G : smG} {P : Option Value → Hp → Prop} {k26 : Int32 → Int32 → Hp → Option (Int32 × Hp)} {a38 : Nat} {i39 : Int32} {i40 : Int32} {i41 : Int32} {i42 : Int32} {i44 : Int32} {s43 : Hp} (hk26 : ∀ (i45 : Int32) (i46 : Int32) (s47 : Hp), OK jI (k26 i45 i46 s47) P → T l G RX10 cX10_isBlocked 7 (sm_rm 1 0 0) (sm_E (some .boolean) yX10_isBlocked.name) (sm_Qs G P 0 0) 0 0 26 [(0, .ref a38), (1, .int i39), (2, .int i40), (3, .int i41), (4, .int i45), (5, .int i46)] [] s47) (h : OK jI (D_X10_isBlocked_b104 k26 a38 i39 i40 i41 i42 i44 s43) P) : T l G RX10 cX10_isBlocked 7 (sm_rm 1 0 0) (sm_E (some .boolean) yX10_isBlocked.name) (sm_Qs G P 0 0) 0 0 104 [(0, .ref a38), (1, .int i39), (2, .int i40), (3, .int i41), (5, .int i42)] [.int i44] s43 := by
  unfold D_X10_isBlocked_b104 at h
  refine T_istore (lv' := [(4, .int i44), (0, .ref a38), (1, .int i39), (2, .int i40), (3, .int i41), (5, .int i42)]) dX10_isBlocked_104 (by decide) rfl ?_
  refine T_iinc (i42 + 1) (lv' := [(5, .int (i42 + 1)), (4, .int i44), (0, .ref a38), (1, .int i39), (2, .int i40), (3, .int i41)]) dX10_isBlocked_106 (j := 5) rfl rfl (by decide) rfl ?_
  refine T_goto 26 dX10_isBlocked_109 (by decide) ?_
  refine T_lv (lv' := [(0, .ref a38), (1, .int i39), (2, .int i40), (3, .int i41), (4, .int i44), (5, .int (i42 + 1))]) [2, 3, 4, 5, 1, 0] rfl ?_
  exact hk26 i44 (i42 + 1) s43 h
set_option maxRecDepth 100000 in
set_option maxHeartbeats 4000000 in
theorem K_X10_isBlocked_b99 {l : Launch} {G : smG} {P : Option Value → Hp → Prop} {k26 : Int32 → Int32 → Hp → Option (Int32 × Hp)} {a32 : Nat} {i33 : Int32} {i34 : Int32} {i35 : Int32} {i36 : Int32} {s37 : Hp} (hk26 : ∀ (i48 : Int32) (i49 : Int32) (s50 : Hp), OK jI (k26 i48 i49 s50) P → T l G RX10 cX10_isBlocked 7 (sm_rm 1 0 0) (sm_E (some .boolean) yX10_isBlocked.name) (sm_Qs G P 0 0) 0 0 26 [(0, .ref a32), (1, .int i33), (2, .int i34), (3, .int i35), (4, .int i48), (5, .int i49)] [] s50) (h : OK jI (D_X10_isBlocked_b99 k26 a32 i33 i34 i35 i36 s37) P) : T l G RX10 cX10_isBlocked 7 (sm_rm 1 0 0) (sm_E (some .boolean) yX10_isBlocked.name) (sm_Qs G P 0 0) 0 0 99 [(0, .ref a32), (1, .int i33), (2, .int i34), (3, .int i35), (5, .int i36)] [] s37 := by
  unfold D_X10_isBlocked_b99 at h
  refine T_iconst (1 : Int32) dX10_isBlocked_99 (by decide) ?_
  refine T_goto 104 dX10_isBlocked_100 (by decide) ?_
  exact K_X10_isBlocked_b104 hk26 h
set_option maxRecDepth 100000 in
set_option maxHeartbeats 4000000 in
theorem K_X10_isBlocked_b103 {l : Launch} {G : smG} {P : Option Value → Hp → Prop} {k26 : Int32 → Int32 → Hp → Option (Int32 × Hp)} {a53 : Nat} {i54 : Int32} {i55 : Int32} {i56 : Int32} {i57 : Int32} {s58 : Hp} (hk26 : ∀ (i59 : Int32) (i60 : Int32) (s61 : Hp), OK jI (k26 i59 i60 s61) P → T l G RX10 cX10_isBlocked 7 (sm_rm 1 0 0) (sm_E (some .boolean) yX10_isBlocked.name) (sm_Qs G P 0 0) 0 0 26 [(0, .ref a53), (1, .int i54), (2, .int i55), (3, .int i56), (4, .int i59), (5, .int i60)] [] s61) (h : OK jI (D_X10_isBlocked_b103 k26 a53 i54 i55 i56 i57 s58) P) : T l G RX10 cX10_isBlocked 7 (sm_rm 1 0 0) (sm_E (some .boolean) yX10_isBlocked.name) (sm_Qs G P 0 0) 0 0 103 [(0, .ref a53), (1, .int i54), (2, .int i55), (3, .int i56), (5, .int i57)] [] s58 := by
  unfold D_X10_isBlocked_b103 at h
  refine T_iconst (0 : Int32) dX10_isBlocked_103 (by decide) ?_
  exact K_X10_isBlocked_b104 hk26 h
set_option maxRecDepth 100000 in
set_option maxHeartbeats 4000000 in
theorem K_X10_isBlocked_w26 {l : Launch} {G : smG} {P : Option Value → Hp → Prop} {a17 : Nat} {i18 : Int32} {i19 : Int32} {i20 : Int32} {k112 : Int32 → Hp → Option (Int32 × Hp)} (hk112 : ∀ (i66 : Int32) (s67 : Hp), OK jI (k112 i66 s67) P → T l G RX10 cX10_isBlocked 7 (sm_rm 1 0 0) (sm_E (some .boolean) yX10_isBlocked.name) (sm_Qs G P 0 0) 0 0 112 [(4, .int i66)] [] s67) : ∀ (n : Nat) (i21 : Int32) (i22 : Int32) (s23 : Hp), OK jI (D_X10_isBlocked_w26 a17 i18 i19 i20 k112 n i21 i22 s23) P → T l G RX10 cX10_isBlocked 7 (sm_rm 1 0 0) (sm_E (some .boolean) yX10_isBlocked.name) (sm_Qs G P 0 0) 0 0 26 [(0, .ref a17), (1, .int i18), (2, .int i19), (3, .int i20), (4, .int i21), (5, .int i22)] [] s23 := by
  intro n
  induction n with
  | zero => intro i21 i22 s23 h; obtain ⟨_, h0, _⟩ := h; exact absurd h0 (by simp [D_X10_isBlocked_w26])
  | succ n24 ih =>
    intro i21 i22 s23 h
    unfold D_X10_isBlocked_w26 at h
    refine T_iload dX10_isBlocked_26 5 rfl ?_
    refine T_aload_n dX10_isBlocked_28 rfl 0 rfl ?_
    refine T_getR dX10_isBlocked_29 fl_RX10_7 h (fun a25 h => ?_)
    refine T_bipush (6 : Int32) dX10_isBlocked_32 (by decide) ?_
    refine T_iaload dX10_isBlocked_34 h (fun i26 h => ?_)
    refine T_icmp_ge 112 dX10_isBlocked_35 (by decide) h (fun _ h => ?_) (fun _ h => ?_)
    · refine T_lv (lv' := [(4, .int i21)]) [4] rfl ?_
      exact hk112 i21 s23 h
    · refine T_aload_n dX10_isBlocked_38 rfl 0 rfl ?_
      refine T_iload_n dX10_isBlocked_39 rfl 1 rfl ?_
      refine T_iconst (0 : Int32) dX10_isBlocked_40 (by decide) ?_
      refine T_callVI (As := [.int i18, .int (0 : Int32)]) (rest := []) (b := a17) (ci := 9) dX10_isBlocked_41 mc_X10_its mi_X10_its ml_RX10_57 rfl (fun _ hr => chk_of hr) rfl rfl (Nat.le_of_ble_eq_true rfl) ⟨⟨Nat.le_of_ble_eq_true rfl, Nat.le_of_ble_eq_true rfl⟩, ⟨Nat.le_of_ble_eq_true rfl, Nat.le_of_ble_eq_true rfl⟩⟩ K_X10_its h (fun i27 s28 h => ?_)
      refine T_aload_n dX10_isBlocked_44 rfl 0 rfl ?_
      refine T_iload dX10_isBlocked_45 5 rfl ?_
      refine T_iconst (0 : Int32) dX10_isBlocked_47 (by decide) ?_
      refine T_callVI (As := [.int i22, .int (0 : Int32)]) (rest := [.int i27]) (b := a17) (ci := 9) dX10_isBlocked_48 mc_X10_its mi_X10_its ml_RX10_57 rfl (fun _ hr => chk_of hr) rfl rfl (Nat.le_of_ble_eq_true rfl) ⟨⟨Nat.le_of_ble_eq_true rfl, Nat.le_of_ble_eq_true rfl⟩, ⟨Nat.le_of_ble_eq_true rfl, Nat.le_of_ble_eq_true rfl⟩⟩ K_X10_its h (fun i29 s30 h => ?_)
      refine T_isub dX10_isBlocked_51 ?_
      refine T_nm h (fun i31 h => ?_)
      refine T_istore (lv' := [(6, .int i31), (0, .ref a17), (1, .int i18), (2, .int i19), (3, .int i20), (4, .int i21), (5, .int i22)]) dX10_isBlocked_52 (by decide) rfl ?_
      refine T_iload dX10_isBlocked_54 5 rfl ?_
      refine T_if_ne 99 dX10_isBlocked_56 (by decide) h (fun _ h => ?_) (fun _ h => ?_)
      · refine T_lv (lv' := [(0, .ref a17), (1, .int i18), (2, .int i19), (3, .int i20), (5, .int i22)]) [1, 2, 3, 4, 6] rfl ?_
        exact K_X10_isBlocked_b99 ih h
      · refine T_iload dX10_isBlocked_59 0 rfl ?_
        refine T_i2l dX10_isBlocked_61 ?_
        refine T_lconst (1 : Int64) dX10_isBlocked_62 (by decide) ?_
        refine T_ldc2 (4 : Int64) dX10_isBlocked_63 wd_21_12 ?_
        refine T_callSI (As := [.long (i31).toInt64, .long (1 : Int64), .long (4 : Int64)]) (rest := []) dX10_isBlocked_66 mc_X10_isIn mi_X10_isIn ml_RX10_51 rfl rfl (Nat.le_of_ble_eq_true rfl) ⟨⟨Nat.le_of_ble_eq_true rfl, Nat.le_of_ble_eq_true rfl⟩, ⟨Nat.le_of_ble_eq_true rfl, Nat.le_of_ble_eq_true rfl⟩⟩ K_X10_isIn h (fun i51 s52 h => ?_)
        refine T_if_eq 103 dX10_isBlocked_69 (by decide) h (fun _ h => ?_) (fun _ h => ?_)
        · refine T_lv (lv' := [(0, .ref a17), (1, .int i18), (2, .int i19), (3, .int i20), (5, .int i22)]) [1, 2, 3, 4, 6] rfl ?_
          exact K_X10_isBlocked_b103 ih h
        · refine T_aload_n dX10_isBlocked_72 rfl 1 rfl ?_
          refine T_iload dX10_isBlocked_73 6 rfl ?_
          refine T_iconst (1 : Int32) dX10_isBlocked_75 (by decide) ?_
          refine T_callVI (As := [.int i22, .int (1 : Int32)]) (rest := []) (b := a17) (ci := 9) dX10_isBlocked_76 mc_X10_its mi_X10_its ml_RX10_57 rfl (fun _ hr => chk_of hr) rfl rfl (Nat.le_of_ble_eq_true rfl) ⟨⟨Nat.le_of_ble_eq_true rfl, Nat.le_of_ble_eq_true rfl⟩, ⟨Nat.le_of_ble_eq_true rfl, Nat.le_of_ble_eq_true rfl⟩⟩ K_X10_its h (fun i62 s63 h => ?_)
          refine T_bipush (10 : Int32) dX10_isBlocked_79 (by decide) ?_
          refine T_isub dX10_isBlocked_81 ?_
          refine T_iload_n dX10_isBlocked_82 rfl 3 rfl ?_
          refine T_imul dX10_isBlocked_83 ?_
          refine T_iload_n dX10_isBlocked_84 rfl 4 rfl ?_
          refine T_aload_n dX10_isBlocked_85 rfl 1 rfl ?_
          refine T_iload dX10_isBlocked_86 6 rfl ?_
          refine T_iconst (0 : Int32) dX10_isBlocked_88 (by decide) ?_
          refine T_callVI (As := [.int i22, .int (0 : Int32)]) (rest := [.int i20, .int ((i62 - (10 : Int32)) * i19)]) (b := a17) (ci := 9) dX10_isBlocked_89 mc_X10_its mi_X10_its ml_RX10_57 rfl (fun _ hr => chk_of hr) rfl rfl (Nat.le_of_ble_eq_true rfl) ⟨⟨Nat.le_of_ble_eq_true rfl, Nat.le_of_ble_eq_true rfl⟩, ⟨Nat.le_of_ble_eq_true rfl, Nat.le_of_ble_eq_true rfl⟩⟩ K_X10_its h (fun i64 s65 h => ?_)
          refine T_bipush (-2 : Int32) dX10_isBlocked_92 (by decide) ?_
          refine T_isub dX10_isBlocked_94 ?_
          refine T_imul dX10_isBlocked_95 ?_
          refine T_icmp_ne 103 dX10_isBlocked_96 (by decide) h (fun _ h => ?_) (fun _ h => ?_)
          · refine T_lv (lv' := [(0, .ref a17), (1, .int i18), (2, .int i19), (3, .int i20), (5, .int i22)]) [1, 2, 3, 4, 6] rfl ?_
            exact K_X10_isBlocked_b103 ih h
          · refine T_lv (lv' := [(0, .ref a17), (1, .int i18), (2, .int i19), (3, .int i20), (5, .int i22)]) [1, 2, 3, 4, 6] rfl ?_
            exact K_X10_isBlocked_b99 ih h
set_option maxRecDepth 100000 in
set_option maxHeartbeats 4000000 in
theorem K_X10_isBlocked {l : Launch} {a0 : Nat} {i1 : Int32} {s0 : Hp} : ∀ P, OK jI (D_X10_isBlocked a0 i1 s0) P → sm_Ct l yX10_isBlocked cX10_isBlocked 7 (some .boolean) 1 0 0 [.ref a0, .int i1] s0 P := by
  intro P h
  unfold D_X10_isBlocked at h
  obtain ⟨_, hb0, h⟩ := h.bind
  refine sm_enter (own := RX10) (lv := [(0, .ref a0), (1, .int i1)]) (by decide) rfl (Nat.le_of_ble_eq_true rfl) rfl (fun G => ?_)
  refine T_aload_n dX10_isBlocked_0 rfl 0 rfl ?_
  refine T_iload_n dX10_isBlocked_1 rfl 1 rfl ?_
  refine T_iconst (0 : Int32) dX10_isBlocked_2 (by decide) ?_
  refine T_callVI (As := [.int i1, .int (0 : Int32)]) (rest := []) (b := a0) (ci := 9) dX10_isBlocked_3 mc_X10_its mi_X10_its ml_RX10_57 rfl (fun _ hr => chk_of hr) rfl rfl (Nat.le_of_ble_eq_true rfl) ⟨⟨Nat.le_of_ble_eq_true rfl, Nat.le_of_ble_eq_true rfl⟩, ⟨Nat.le_of_ble_eq_true rfl, Nat.le_of_ble_eq_true rfl⟩⟩ K_X10_its h (fun i11 s12 h => ?_)
  refine T_bipush (-2 : Int32) dX10_isBlocked_6 (by decide) ?_
  refine T_isub dX10_isBlocked_8 ?_
  refine T_nm h (fun i13 h => ?_)
  refine T_istore_n (lv' := [(2, .int i13), (0, .ref a0), (1, .int i1)]) dX10_isBlocked_9 rfl (by decide) rfl ?_
  refine T_aload_n dX10_isBlocked_10 rfl 1 rfl ?_
  refine T_iload_n dX10_isBlocked_11 rfl 2 rfl ?_
  refine T_iconst (1 : Int32) dX10_isBlocked_12 (by decide) ?_
  refine T_callVI (As := [.int i1, .int (1 : Int32)]) (rest := []) (b := a0) (ci := 9) dX10_isBlocked_13 mc_X10_its mi_X10_its ml_RX10_57 rfl (fun _ hr => chk_of hr) rfl rfl (Nat.le_of_ble_eq_true rfl) ⟨⟨Nat.le_of_ble_eq_true rfl, Nat.le_of_ble_eq_true rfl⟩, ⟨Nat.le_of_ble_eq_true rfl, Nat.le_of_ble_eq_true rfl⟩⟩ K_X10_its h (fun i14 s15 h => ?_)
  refine T_bipush (10 : Int32) dX10_isBlocked_16 (by decide) ?_
  refine T_isub dX10_isBlocked_18 ?_
  refine T_nm h (fun i16 h => ?_)
  refine T_istore_n (lv' := [(3, .int i16), (2, .int i13), (0, .ref a0), (1, .int i1)]) dX10_isBlocked_19 rfl (by decide) rfl ?_
  refine T_iconst (0 : Int32) dX10_isBlocked_20 (by decide) ?_
  refine T_istore (lv' := [(4, .int (0 : Int32)), (3, .int i16), (2, .int i13), (0, .ref a0), (1, .int i1)]) dX10_isBlocked_21 (by decide) rfl ?_
  refine T_iconst (0 : Int32) dX10_isBlocked_23 (by decide) ?_
  refine T_istore (lv' := [(5, .int (0 : Int32)), (4, .int (0 : Int32)), (3, .int i16), (2, .int i13), (0, .ref a0), (1, .int i1)]) dX10_isBlocked_24 (by decide) rfl ?_
  refine T_lv (lv' := [(0, .ref a0), (1, .int i1), (2, .int i13), (3, .int i16), (4, .int (0 : Int32)), (5, .int (0 : Int32))]) [4, 5, 3, 2, 1, 0] rfl ?_
  refine K_X10_isBlocked_w26 ?_ FU (0 : Int32) (0 : Int32) s15 h
  intro i69 s68 h
  refine T_iload dX10_isBlocked_112 0 rfl ?_
  exact T_zreturn dX10_isBlocked_114 (Nat.le_of_ble_eq_true rfl) (Nat.le_of_ble_eq_true rfl) h

def D_X10_isHere (a0 : Nat) (i1 : Int32) (i2 : Int32) (s0 : Hp) : Option (Int32 × Hp) :=
  (isO s0 a0 9).bind fun _ =>
  (getI s0 a0 9 13).bind fun i11 =>
  (getI s0 a0 9 12).bind fun i12 =>
  if i12 ≤ i11 then
  retZ (0 : Int32) ((0 : Int32), s0)
  else
  (getR s0 a0 9 11).bind fun a13 =>
  (getI s0 a0 9 13).bind fun i14 =>
  (ldI s0 a13 i14).bind fun i15 =>
  bd (D_X10_isIn (i15).toInt64 (i1).toInt64 (i2).toInt64 s0) fun i16 s17 =>
  if i16 = 0 then
  retZ (0 : Int32) ((0 : Int32), s17)
  else
  retZ (1 : Int32) ((1 : Int32), s17)
set_option maxRecDepth 100000 in
set_option maxHeartbeats 4000000 in
theorem K_X10_isHere {l : Launch} {a0 : Nat} {i1 : Int32} {i2 : Int32} {s0 : Hp} : ∀ P, OK jI (D_X10_isHere a0 i1 i2 s0) P → sm_Ct l yX10_isHere cX10_isHere 3 (some .boolean) 1 0 0 [.ref a0, .int i1, .int i2] s0 P := by
  intro P h
  unfold D_X10_isHere at h
  obtain ⟨_, hb0, h⟩ := h.bind
  refine sm_enter (own := RX10) (lv := [(0, .ref a0), (1, .int i1), (2, .int i2)]) (by decide) rfl (Nat.le_of_ble_eq_true rfl) rfl (fun G => ?_)
  refine T_aload_n dX10_isHere_0 rfl 0 rfl ?_
  refine T_getI dX10_isHere_1 fl_RX10_178 h (fun i11 h => ?_)
  refine T_aload_n dX10_isHere_4 rfl 0 rfl ?_
  refine T_getI dX10_isHere_5 fl_RX10_169 h (fun i12 h => ?_)
  refine T_icmp_ge 35 dX10_isHere_8 (by decide) h (fun _ h => ?_) (fun _ h => ?_)
  · refine T_iconst (0 : Int32) dX10_isHere_35 (by decide) ?_
    exact T_zreturn dX10_isHere_36 (Nat.le_of_ble_eq_true rfl) (Nat.le_of_ble_eq_true rfl) h
  · refine T_aload_n dX10_isHere_11 rfl 0 rfl ?_
    refine T_getR dX10_isHere_12 fl_RX10_40 h (fun a13 h => ?_)
    refine T_aload_n dX10_isHere_15 rfl 0 rfl ?_
    refine T_getI dX10_isHere_16 fl_RX10_178 h (fun i14 h => ?_)
    refine T_iaload dX10_isHere_19 h (fun i15 h => ?_)
    refine T_i2l dX10_isHere_20 ?_
    refine T_iload_n dX10_isHere_21 rfl 1 rfl ?_
    refine T_i2l dX10_isHere_22 ?_
    refine T_iload_n dX10_isHere_23 rfl 2 rfl ?_
    refine T_i2l dX10_isHere_24 ?_
    refine T_callSI (As := [.long (i15).toInt64, .long (i1).toInt64, .long (i2).toInt64]) (rest := []) dX10_isHere_25 mc_X10_isIn mi_X10_isIn ml_RX10_51 rfl rfl (Nat.le_of_ble_eq_true rfl) ⟨⟨Nat.le_of_ble_eq_true rfl, Nat.le_of_ble_eq_true rfl⟩, ⟨Nat.le_of_ble_eq_true rfl, Nat.le_of_ble_eq_true rfl⟩⟩ K_X10_isIn h (fun i16 s17 h => ?_)
    refine T_if_eq 35 dX10_isHere_28 (by decide) h (fun _ h => ?_) (fun _ h => ?_)
    · refine T_iconst (0 : Int32) dX10_isHere_35 (by decide) ?_
      exact T_zreturn dX10_isHere_36 (Nat.le_of_ble_eq_true rfl) (Nat.le_of_ble_eq_true rfl) h
    · refine T_iconst (1 : Int32) dX10_isHere_31 (by decide) ?_
      refine T_goto 36 dX10_isHere_32 (by decide) ?_
      exact T_zreturn dX10_isHere_36 (Nat.le_of_ble_eq_true rfl) (Nat.le_of_ble_eq_true rfl) h

def D_X10_isHour (i0 : Int32) (s0 : Hp) : Option (Int32 × Hp) :=
  bd (D_X10_isIn (i0).toInt64 (0 : Int64) (10 : Int64) s0) fun i11 s12 =>
  retZ i11 (i11, s12)
set_option maxRecDepth 100000 in
set_option maxHeartbeats 4000000 in
theorem K_X10_isHour {l : Launch} {i0 : Int32} {s0 : Hp} : ∀ P, OK jI (D_X10_isHour i0 s0) P → sm_Ct l yX10_isHour cX10_isHour 1 (some .boolean) 1 0 0 [.int i0] s0 P := by
  intro P h
  unfold D_X10_isHour at h
  refine sm_enter (own := RX10) (lv := [(0, .int i0)]) (by decide) rfl (Nat.le_of_ble_eq_true rfl) rfl (fun G => ?_)
  refine T_iload_n dX10_isHour_0 rfl 0 rfl ?_
  refine T_i2l dX10_isHour_1 ?_
  refine T_lconst (0 : Int64) dX10_isHour_2 (by decide) ?_
  refine T_ldc2 (10 : Int64) dX10_isHour_3 wd_23_7 ?_
  refine T_callSI (As := [.long (i0).toInt64, .long (0 : Int64), .long (10 : Int64)]) (rest := []) dX10_isHour_6 mc_X10_isIn mi_X10_isIn ml_RX10_51 rfl rfl (Nat.le_of_ble_eq_true rfl) ⟨⟨Nat.le_of_ble_eq_true rfl, Nat.le_of_ble_eq_true rfl⟩, ⟨Nat.le_of_ble_eq_true rfl, Nat.le_of_ble_eq_true rfl⟩⟩ K_X10_isIn h (fun i11 s12 h => ?_)
  exact T_zreturn dX10_isHour_9 (Nat.le_of_ble_eq_true rfl) (Nat.le_of_ble_eq_true rfl) h

def D_X10_isMirror (a0 : Nat) (i1 : Int32) (s0 : Hp) : Option (Int32 × Hp) :=
  (isO s0 a0 9).bind fun _ =>
  (getR s0 a0 9 0).bind fun a11 =>
  (ldI s0 a11 (6 : Int32)).bind fun i12 =>
  bd (D_X10_isIn (i1).toInt64 (0 : Int64) ((i12).toInt64 - (1 : Int64)) s0) fun i13 s14 =>
  retZ i13 (i13, s14)
set_option maxRecDepth 100000 in
set_option maxHeartbeats 4000000 in
theorem K_X10_isMirror {l : Launch} {a0 : Nat} {i1 : Int32} {s0 : Hp} : ∀ P, OK jI (D_X10_isMirror a0 i1 s0) P → sm_Ct l yX10_isMirror cX10_isMirror 2 (some .boolean) 1 0 0 [.ref a0, .int i1] s0 P := by
  intro P h
  unfold D_X10_isMirror at h
  obtain ⟨_, hb0, h⟩ := h.bind
  refine sm_enter (own := RX10) (lv := [(0, .ref a0), (1, .int i1)]) (by decide) rfl (Nat.le_of_ble_eq_true rfl) rfl (fun G => ?_)
  refine T_iload_n dX10_isMirror_0 rfl 1 rfl ?_
  refine T_i2l dX10_isMirror_1 ?_
  refine T_lconst (0 : Int64) dX10_isMirror_2 (by decide) ?_
  refine T_aload_n dX10_isMirror_3 rfl 0 rfl ?_
  refine T_getR dX10_isMirror_4 fl_RX10_7 h (fun a11 h => ?_)
  refine T_bipush (6 : Int32) dX10_isMirror_7 (by decide) ?_
  refine T_iaload dX10_isMirror_9 h (fun i12 h => ?_)
  refine T_i2l dX10_isMirror_10 ?_
  refine T_lconst (1 : Int64) dX10_isMirror_11 (by decide) ?_
  refine T_lsub dX10_isMirror_12 ?_
  refine T_callSI (As := [.long (i1).toInt64, .long (0 : Int64), .long ((i12).toInt64 - (1 : Int64))]) (rest := []) dX10_isMirror_13 mc_X10_isIn mi_X10_isIn ml_RX10_51 rfl rfl (Nat.le_of_ble_eq_true rfl) ⟨⟨Nat.le_of_ble_eq_true rfl, Nat.le_of_ble_eq_true rfl⟩, ⟨Nat.le_of_ble_eq_true rfl, Nat.le_of_ble_eq_true rfl⟩⟩ K_X10_isIn h (fun i13 s14 h => ?_)
  exact T_zreturn dX10_isMirror_16 (Nat.le_of_ble_eq_true rfl) (Nat.le_of_ble_eq_true rfl) h

def D_X10_isPlace (i0 : Int32) (i1 : Int32) (s0 : Hp) : Option (Int32 × Hp) :=
  bd (D_X10_isIn (i0).toInt64 (0 : Int64) (19 : Int64) s0) fun i11 s12 =>
  if i11 = 0 then
  retZ (0 : Int32) ((0 : Int32), s12)
  else
  bd (D_X10_isIn (i1).toInt64 (0 : Int64) (19 : Int64) s12) fun i13 s14 =>
  if i13 = 0 then
  retZ (0 : Int32) ((0 : Int32), s14)
  else
  retZ (1 : Int32) ((1 : Int32), s14)
set_option maxRecDepth 100000 in
set_option maxHeartbeats 4000000 in
theorem K_X10_isPlace {l : Launch} {i0 : Int32} {i1 : Int32} {s0 : Hp} : ∀ P, OK jI (D_X10_isPlace i0 i1 s0) P → sm_Ct l yX10_isPlace cX10_isPlace 2 (some .boolean) 1 0 0 [.int i0, .int i1] s0 P := by
  intro P h
  unfold D_X10_isPlace at h
  refine sm_enter (own := RX10) (lv := [(0, .int i0), (1, .int i1)]) (by decide) rfl (Nat.le_of_ble_eq_true rfl) rfl (fun G => ?_)
  refine T_iload_n dX10_isPlace_0 rfl 0 rfl ?_
  refine T_i2l dX10_isPlace_1 ?_
  refine T_lconst (0 : Int64) dX10_isPlace_2 (by decide) ?_
  refine T_ldc2 (19 : Int64) dX10_isPlace_3 wd_11_16 ?_
  refine T_callSI (As := [.long (i0).toInt64, .long (0 : Int64), .long (19 : Int64)]) (rest := []) dX10_isPlace_6 mc_X10_isIn mi_X10_isIn ml_RX10_51 rfl rfl (Nat.le_of_ble_eq_true rfl) ⟨⟨Nat.le_of_ble_eq_true rfl, Nat.le_of_ble_eq_true rfl⟩, ⟨Nat.le_of_ble_eq_true rfl, Nat.le_of_ble_eq_true rfl⟩⟩ K_X10_isIn h (fun i11 s12 h => ?_)
  refine T_if_eq 28 dX10_isPlace_9 (by decide) h (fun _ h => ?_) (fun _ h => ?_)
  · refine T_iconst (0 : Int32) dX10_isPlace_28 (by decide) ?_
    exact T_zreturn dX10_isPlace_29 (Nat.le_of_ble_eq_true rfl) (Nat.le_of_ble_eq_true rfl) h
  · refine T_iload_n dX10_isPlace_12 rfl 1 rfl ?_
    refine T_i2l dX10_isPlace_13 ?_
    refine T_lconst (0 : Int64) dX10_isPlace_14 (by decide) ?_
    refine T_ldc2 (19 : Int64) dX10_isPlace_15 wd_11_16 ?_
    refine T_callSI (As := [.long (i1).toInt64, .long (0 : Int64), .long (19 : Int64)]) (rest := []) dX10_isPlace_18 mc_X10_isIn mi_X10_isIn ml_RX10_51 rfl rfl (Nat.le_of_ble_eq_true rfl) ⟨⟨Nat.le_of_ble_eq_true rfl, Nat.le_of_ble_eq_true rfl⟩, ⟨Nat.le_of_ble_eq_true rfl, Nat.le_of_ble_eq_true rfl⟩⟩ K_X10_isIn h (fun i13 s14 h => ?_)
    refine T_if_eq 28 dX10_isPlace_21 (by decide) h (fun _ h => ?_) (fun _ h => ?_)
    · refine T_iconst (0 : Int32) dX10_isPlace_28 (by decide) ?_
      exact T_zreturn dX10_isPlace_29 (Nat.le_of_ble_eq_true rfl) (Nat.le_of_ble_eq_true rfl) h
    · refine T_iconst (1 : Int32) dX10_isPlace_24 (by decide) ?_
      refine T_goto 29 dX10_isPlace_25 (by decide) ?_
      exact T_zreturn dX10_isPlace_29 (Nat.le_of_ble_eq_true rfl) (Nat.le_of_ble_eq_true rfl) h

def D_X10_isSetting (i0 : Int32) (i1 : Int32) (s0 : Hp) : Option (Int32 × Hp) :=
  if i0 = 0 then
  bd (D_X10_isIn (i1).toInt64 (1 : Int64) (9999 : Int64) s0) fun i15 s16 =>
  retZ i15 (i15, s16)
  else
  if i0 = (1 : Int32) then
  bd (D_X10_isIn (i1).toInt64 (1 : Int64) (99 : Int64) s0) fun i13 s14 =>
  retZ i13 (i13, s14)
  else
  if i0 = (2 : Int32) then
  bd (D_X10_isIn (i1).toInt64 (0 : Int64) (20 : Int64) s0) fun i11 s12 =>
  if i11 = 0 then
  retZ (0 : Int32) ((0 : Int32), s12)
  else
  retZ (1 : Int32) ((1 : Int32), s12)
  else
  retZ (0 : Int32) ((0 : Int32), s0)
set_option maxRecDepth 100000 in
set_option maxHeartbeats 4000000 in
theorem K_X10_isSetting {l : Launch} {i0 : Int32} {i1 : Int32} {s0 : Hp} : ∀ P, OK jI (D_X10_isSetting i0 i1 s0) P → sm_Ct l yX10_isSetting cX10_isSetting 2 (some .boolean) 1 0 0 [.int i0, .int i1] s0 P := by
  intro P h
  unfold D_X10_isSetting at h
  refine sm_enter (own := RX10) (lv := [(0, .int i0), (1, .int i1)]) (by decide) rfl (Nat.le_of_ble_eq_true rfl) rfl (fun G => ?_)
  refine T_iload_n dX10_isSetting_0 rfl 0 rfl ?_
  refine T_if_ne 16 dX10_isSetting_1 (by decide) h (fun _ h => ?_) (fun _ h => ?_)
  · refine T_iload_n dX10_isSetting_16 rfl 0 rfl ?_
    refine T_iconst (1 : Int32) dX10_isSetting_17 (by decide) ?_
    refine T_icmp_ne 33 dX10_isSetting_18 (by decide) h (fun _ h => ?_) (fun _ h => ?_)
    · refine T_iload_n dX10_isSetting_33 rfl 0 rfl ?_
      refine T_iconst (2 : Int32) dX10_isSetting_34 (by decide) ?_
      refine T_icmp_ne 54 dX10_isSetting_35 (by decide) h (fun _ h => ?_) (fun _ h => ?_)
      · refine T_iconst (0 : Int32) dX10_isSetting_54 (by decide) ?_
        exact T_zreturn dX10_isSetting_55 (Nat.le_of_ble_eq_true rfl) (Nat.le_of_ble_eq_true rfl) h
      · refine T_iload_n dX10_isSetting_38 rfl 1 rfl ?_
        refine T_i2l dX10_isSetting_39 ?_
        refine T_lconst (0 : Int64) dX10_isSetting_40 (by decide) ?_
        refine T_ldc2 (20 : Int64) dX10_isSetting_41 wd_9_20 ?_
        refine T_callSI (As := [.long (i1).toInt64, .long (0 : Int64), .long (20 : Int64)]) (rest := []) dX10_isSetting_44 mc_X10_isIn mi_X10_isIn ml_RX10_51 rfl rfl (Nat.le_of_ble_eq_true rfl) ⟨⟨Nat.le_of_ble_eq_true rfl, Nat.le_of_ble_eq_true rfl⟩, ⟨Nat.le_of_ble_eq_true rfl, Nat.le_of_ble_eq_true rfl⟩⟩ K_X10_isIn h (fun i11 s12 h => ?_)
        refine T_if_eq 54 dX10_isSetting_47 (by decide) h (fun _ h => ?_) (fun _ h => ?_)
        · refine T_iconst (0 : Int32) dX10_isSetting_54 (by decide) ?_
          exact T_zreturn dX10_isSetting_55 (Nat.le_of_ble_eq_true rfl) (Nat.le_of_ble_eq_true rfl) h
        · refine T_iconst (1 : Int32) dX10_isSetting_50 (by decide) ?_
          refine T_goto 55 dX10_isSetting_51 (by decide) ?_
          exact T_zreturn dX10_isSetting_55 (Nat.le_of_ble_eq_true rfl) (Nat.le_of_ble_eq_true rfl) h
    · refine T_iload_n dX10_isSetting_21 rfl 1 rfl ?_
      refine T_i2l dX10_isSetting_22 ?_
      refine T_lconst (1 : Int64) dX10_isSetting_23 (by decide) ?_
      refine T_ldc2 (99 : Int64) dX10_isSetting_24 wd_9_19 ?_
      refine T_callSI (As := [.long (i1).toInt64, .long (1 : Int64), .long (99 : Int64)]) (rest := []) dX10_isSetting_27 mc_X10_isIn mi_X10_isIn ml_RX10_51 rfl rfl (Nat.le_of_ble_eq_true rfl) ⟨⟨Nat.le_of_ble_eq_true rfl, Nat.le_of_ble_eq_true rfl⟩, ⟨Nat.le_of_ble_eq_true rfl, Nat.le_of_ble_eq_true rfl⟩⟩ K_X10_isIn h (fun i13 s14 h => ?_)
      refine T_goto 55 dX10_isSetting_30 (by decide) ?_
      exact T_zreturn dX10_isSetting_55 (Nat.le_of_ble_eq_true rfl) (Nat.le_of_ble_eq_true rfl) h
  · refine T_iload_n dX10_isSetting_4 rfl 1 rfl ?_
    refine T_i2l dX10_isSetting_5 ?_
    refine T_lconst (1 : Int64) dX10_isSetting_6 (by decide) ?_
    refine T_ldc2 (9999 : Int64) dX10_isSetting_7 wd_9_18 ?_
    refine T_callSI (As := [.long (i1).toInt64, .long (1 : Int64), .long (9999 : Int64)]) (rest := []) dX10_isSetting_10 mc_X10_isIn mi_X10_isIn ml_RX10_51 rfl rfl (Nat.le_of_ble_eq_true rfl) ⟨⟨Nat.le_of_ble_eq_true rfl, Nat.le_of_ble_eq_true rfl⟩, ⟨Nat.le_of_ble_eq_true rfl, Nat.le_of_ble_eq_true rfl⟩⟩ K_X10_isIn h (fun i15 s16 h => ?_)
    refine T_goto 55 dX10_isSetting_13 (by decide) ?_
    exact T_zreturn dX10_isSetting_55 (Nat.le_of_ble_eq_true rfl) (Nat.le_of_ble_eq_true rfl) h
