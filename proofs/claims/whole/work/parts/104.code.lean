def D_X6_third (a0 : Nat) (i1 : Int32) (s0 : Hp) : Option (Int32 × Hp) :=
  (isO s0 a0 6).bind fun _ =>
  (getR s0 a0 6 4).bind fun a11 =>
  bd (D_X1_read a11 i1 s0) fun i12 s13 =>
  some (i12, s13)
set_option maxRecDepth 100000 in
set_option maxHeartbeats 4000000 in
theorem K_X6_third {l : Launch} {a0 : Nat} {i1 : Int32} {s0 : Hp} : ∀ P, OK jI (D_X6_third a0 i1 s0) P → sm_Ct l yX6_third cX6_third 2 (some .int) 1 0 0 [.ref a0, .int i1] s0 P := by
  intro P h
  unfold D_X6_third at h
  obtain ⟨_, hb0, h⟩ := h.bind
  refine sm_enter (own := RX6) (lv := [(0, .ref a0), (1, .int i1)]) (by decide) rfl (Nat.le_of_ble_eq_true rfl) rfl (fun G => ?_)
  refine T_aload_n dX6_third_0 rfl 0 rfl ?_
  refine T_getR dX6_third_1 fl_RX6_26 h (fun a11 h => ?_)
  refine T_iload_n dX6_third_4 rfl 1 rfl ?_
  refine T_callVI (As := [.int i1]) (rest := []) (b := a11) (ci := 1) dX6_third_5 mc_X1_read mi_X1_read ml_RX6_79 rfl (fun _ hr => chk_of hr) rfl rfl (Nat.le_of_ble_eq_true rfl) ⟨⟨Nat.le_of_ble_eq_true rfl, Nat.le_of_ble_eq_true rfl⟩, ⟨Nat.le_of_ble_eq_true rfl, Nat.le_of_ble_eq_true rfl⟩⟩ K_X1_read h (fun i12 s13 h => ?_)
  exact T_ireturn dX6_third_8 (Nat.le_of_ble_eq_true rfl) (Nat.le_of_ble_eq_true rfl) h

def D_X8_height (i0 : Int32) (s0 : Hp) : Option (Int32 × Hp) :=
  nm (if 0 ≤ (i0 - (5 : Int32)) then (i0 - (5 : Int32)) else 0 - (i0 - (5 : Int32))) fun i11 =>
  some (((6 : Int32) - i11), s0)
set_option maxRecDepth 100000 in
set_option maxHeartbeats 4000000 in
theorem K_X8_height {l : Launch} {i0 : Int32} {s0 : Hp} : ∀ P, OK jI (D_X8_height i0 s0) P → sm_Ct l yX8_height cX8_height 1 (some .int) 1 0 0 [.int i0] s0 P := by
  intro P h
  unfold D_X8_height at h
  refine sm_enter (own := RX8) (lv := [(0, .int i0)]) (by decide) rfl (Nat.le_of_ble_eq_true rfl) rfl (fun G => ?_)
  refine T_bipush (6 : Int32) dX8_height_0 (by decide) ?_
  refine T_iload_n dX8_height_2 rfl 0 rfl ?_
  refine T_iconst (5 : Int32) dX8_height_3 (by decide) ?_
  refine T_isub dX8_height_4 ?_
  refine T_mabs dX8_height_5 ml_RX8_9 wd_18_0 wd_3_17 wd_18_1 ⟨Nat.le_of_ble_eq_true rfl, Nat.le_of_ble_eq_true rfl, Nat.le_of_ble_eq_true rfl, Nat.le_of_ble_eq_true rfl⟩ ?_
  refine T_nm h (fun i11 h => ?_)
  refine T_isub dX8_height_8 ?_
  exact T_ireturn dX8_height_9 (Nat.le_of_ble_eq_true rfl) (Nat.le_of_ble_eq_true rfl) h

def D_X9_wipe (a0 : Nat) (s0 : Hp) : Option (Int32 × Hp) :=
  (isO s0 a0 8).bind fun _ =>
  (getR s0 a0 8 3).bind fun a11 =>
  bd (D_X5_empty a11 s0) fun i12 s13 =>
  some (i12, s13)
set_option maxRecDepth 100000 in
set_option maxHeartbeats 4000000 in
theorem K_X9_wipe {l : Launch} {a0 : Nat} {s0 : Hp} : ∀ P, OK jI (D_X9_wipe a0 s0) P → sm_Ct l yX9_wipe cX9_wipe 1 (some .int) 1 0 0 [.ref a0] s0 P := by
  intro P h
  unfold D_X9_wipe at h
  obtain ⟨_, hb0, h⟩ := h.bind
  refine sm_enter (own := RX9) (lv := [(0, .ref a0)]) (by decide) rfl (Nat.le_of_ble_eq_true rfl) rfl (fun G => ?_)
  refine T_aload_n dX9_wipe_0 rfl 0 rfl ?_
  refine T_getR dX9_wipe_1 fl_RX9_35 h (fun a11 h => ?_)
  refine T_callVI (As := []) (rest := []) (b := a11) (ci := 5) dX9_wipe_4 mc_X5_empty mi_X5_empty ml_RX9_219 rfl (fun _ hr => chk_of hr) rfl rfl (Nat.le_of_ble_eq_true rfl) ⟨⟨Nat.le_of_ble_eq_true rfl, Nat.le_of_ble_eq_true rfl⟩, ⟨Nat.le_of_ble_eq_true rfl, Nat.le_of_ble_eq_true rfl⟩⟩ K_X5_empty h (fun i12 s13 h => ?_)
  exact T_ireturn dX9_wipe_7 (Nat.le_of_ble_eq_true rfl) (Nat.le_of_ble_eq_true rfl) h

def D_X10_blockedOnes_b31 (k4 : Int32 → Int32 → Hp → Option (Int32 × Hp)) (a20 : Nat) (i21 : Int32) (i23 : Int32) (i24 : Int32) (s22 : Hp) : Option (Int32 × Hp) :=
  nm (i24 ||| i23) fun i25 =>
  k4 i25 (i21 + 1) s22
def D_X10_blockedOnes_w4 (a11 : Nat) (k39 : Int32 → Hp → Option (Int32 × Hp)) : Nat → Int32 → Int32 → Hp → Option (Int32 × Hp)
  | 0, _, _, _ => none
  | n15 + 1, i12, i13, s14 =>
  (getR s14 a11 9 0).bind fun a16 =>
  (ldI s14 a16 (6 : Int32)).bind fun i17 =>
  if i17 ≤ i13 then
  k39 i12 s14
  else
  bd (D_X10_isBlocked a11 i13 s14) fun i18 s19 =>
  if i18 = 0 then
  D_X10_blockedOnes_b31 (D_X10_blockedOnes_w4 a11 k39 n15) a11 i13 (0 : Int32) i12 s19
  else
  D_X10_blockedOnes_b31 (D_X10_blockedOnes_w4 a11 k39 n15) a11 i13 ((1 : Int32) <<< (i13 &&& 31)) i12 s19
def D_X10_blockedOnes (a0 : Nat) (s0 : Hp) : Option (Int32 × Hp) :=
  (isO s0 a0 9).bind fun _ =>
  D_X10_blockedOnes_w4 a0 (fun i32 s31 =>
  some (i32, s31)
  ) FU (0 : Int32) (0 : Int32) s0
set_option maxRecDepth 100000 in
set_option maxHeartbeats 4000000 in
theorem K_X10_blockedOnes_b31 {l : Launch} {G : smG} {P : Option Value → Hp → Prop} {k4 : Int32 → Int32 → Hp → Option (Int32 × Hp)} {a20 : Nat} {i21 : Int32} {i23 : Int32} {i24 : Int32} {s22 : Hp} (hk4 : ∀ (i26 : Int32) (i27 : Int32) (s28 : Hp), OK jI (k4 i26 i27 s28) P → T l G RX10 cX10_blockedOnes 3 (sm_rm 2 0 0) (sm_E (some .int) yX10_blockedOnes.name) (sm_Qs G P 0 0) 0 0 4 [(0, .ref a20), (1, .int i26), (2, .int i27)] [] s28) (h : OK jI (D_X10_blockedOnes_b31 k4 a20 i21 i23 i24 s22) P) : T l G RX10 cX10_blockedOnes 3 (sm_rm 2 0 0) (sm_E (some .int) yX10_blockedOnes.name) (sm_Qs G P 0 0) 0 0 31 [(0, .ref a20), (2, .int i21)] [.int i23, .int i24] s22 := by
  unfold D_X10_blockedOnes_b31 at h
  refine T_ior dX10_blockedOnes_31 ?_
  refine T_nm h (fun i25 h => ?_)
  refine T_istore_n (lv' := [(1, .int i25), (0, .ref a20), (2, .int i21)]) dX10_blockedOnes_32 rfl (by decide) rfl ?_
  refine T_iinc (i21 + 1) (lv' := [(2, .int (i21 + 1)), (1, .int i25), (0, .ref a20)]) dX10_blockedOnes_33 (j := 2) rfl rfl (by decide) rfl ?_
  refine T_goto 4 dX10_blockedOnes_36 (by decide) ?_
  refine T_lv (lv' := [(0, .ref a20), (1, .int i25), (2, .int (i21 + 1))]) [2, 1, 0] rfl ?_
  exact hk4 i25 (i21 + 1) s22 h
set_option maxRecDepth 100000 in
set_option maxHeartbeats 4000000 in
theorem K_X10_blockedOnes_w4 {l : Launch} {G : smG} {P : Option Value → Hp → Prop} {a11 : Nat} {k39 : Int32 → Hp → Option (Int32 × Hp)} (hk39 : ∀ (i29 : Int32) (s30 : Hp), OK jI (k39 i29 s30) P → T l G RX10 cX10_blockedOnes 3 (sm_rm 2 0 0) (sm_E (some .int) yX10_blockedOnes.name) (sm_Qs G P 0 0) 0 0 39 [(1, .int i29)] [] s30) : ∀ (n : Nat) (i12 : Int32) (i13 : Int32) (s14 : Hp), OK jI (D_X10_blockedOnes_w4 a11 k39 n i12 i13 s14) P → T l G RX10 cX10_blockedOnes 3 (sm_rm 2 0 0) (sm_E (some .int) yX10_blockedOnes.name) (sm_Qs G P 0 0) 0 0 4 [(0, .ref a11), (1, .int i12), (2, .int i13)] [] s14 := by
  intro n
  induction n with
  | zero => intro i12 i13 s14 h; obtain ⟨_, h0, _⟩ := h; exact absurd h0 (by simp [D_X10_blockedOnes_w4])
  | succ n15 ih =>
    intro i12 i13 s14 h
    unfold D_X10_blockedOnes_w4 at h
    refine T_iload_n dX10_blockedOnes_4 rfl 2 rfl ?_
    refine T_aload_n dX10_blockedOnes_5 rfl 0 rfl ?_
    refine T_getR dX10_blockedOnes_6 fl_RX10_7 h (fun a16 h => ?_)
    refine T_bipush (6 : Int32) dX10_blockedOnes_9 (by decide) ?_
    refine T_iaload dX10_blockedOnes_11 h (fun i17 h => ?_)
    refine T_icmp_ge 39 dX10_blockedOnes_12 (by decide) h (fun _ h => ?_) (fun _ h => ?_)
    · refine T_lv (lv' := [(1, .int i12)]) [1] rfl ?_
      exact hk39 i12 s14 h
    · refine T_iload_n dX10_blockedOnes_15 rfl 1 rfl ?_
      refine T_aload_n dX10_blockedOnes_16 rfl 0 rfl ?_
      refine T_iload_n dX10_blockedOnes_17 rfl 2 rfl ?_
      refine T_callVI (As := [.int i13]) (rest := [.int i12]) (b := a11) (ci := 9) dX10_blockedOnes_18 mc_X10_isBlocked mi_X10_isBlocked ml_RX10_76 rfl (fun _ hr => chk_of hr) rfl rfl (Nat.le_of_ble_eq_true rfl) ⟨⟨Nat.le_of_ble_eq_true rfl, Nat.le_of_ble_eq_true rfl⟩, ⟨Nat.le_of_ble_eq_true rfl, Nat.le_of_ble_eq_true rfl⟩⟩ K_X10_isBlocked h (fun i18 s19 h => ?_)
      refine T_if_eq 30 dX10_blockedOnes_21 (by decide) h (fun _ h => ?_) (fun _ h => ?_)
      · refine T_iconst (0 : Int32) dX10_blockedOnes_30 (by decide) ?_
        refine T_lv (lv' := [(0, .ref a11), (2, .int i13)]) [0, 2] rfl ?_
        exact K_X10_blockedOnes_b31 ih h
      · refine T_iconst (1 : Int32) dX10_blockedOnes_24 (by decide) ?_
        refine T_iload_n dX10_blockedOnes_25 rfl 2 rfl ?_
        refine T_ishl dX10_blockedOnes_26 ?_
        refine T_goto 31 dX10_blockedOnes_27 (by decide) ?_
        refine T_lv (lv' := [(0, .ref a11), (2, .int i13)]) [0, 2] rfl ?_
        exact K_X10_blockedOnes_b31 ih h
set_option maxRecDepth 100000 in
set_option maxHeartbeats 4000000 in
theorem K_X10_blockedOnes {l : Launch} {a0 : Nat} {s0 : Hp} : ∀ P, OK jI (D_X10_blockedOnes a0 s0) P → sm_Ct l yX10_blockedOnes cX10_blockedOnes 3 (some .int) 2 0 0 [.ref a0] s0 P := by
  intro P h
  unfold D_X10_blockedOnes at h
  obtain ⟨_, hb0, h⟩ := h.bind
  refine sm_enter (own := RX10) (lv := [(0, .ref a0)]) (by decide) rfl (Nat.le_of_ble_eq_true rfl) rfl (fun G => ?_)
  refine T_iconst (0 : Int32) dX10_blockedOnes_0 (by decide) ?_
  refine T_istore_n (lv' := [(1, .int (0 : Int32)), (0, .ref a0)]) dX10_blockedOnes_1 rfl (by decide) rfl ?_
  refine T_iconst (0 : Int32) dX10_blockedOnes_2 (by decide) ?_
  refine T_istore_n (lv' := [(2, .int (0 : Int32)), (1, .int (0 : Int32)), (0, .ref a0)]) dX10_blockedOnes_3 rfl (by decide) rfl ?_
  refine T_lv (lv' := [(0, .ref a0), (1, .int (0 : Int32)), (2, .int (0 : Int32))]) [2, 1, 0] rfl ?_
  refine K_X10_blockedOnes_w4 ?_ FU (0 : Int32) (0 : Int32) s0 h
  intro i32 s31 h
  refine T_iload_n dX10_blockedOnes_39 rfl 0 rfl ?_
  exact T_ireturn dX10_blockedOnes_40 (Nat.le_of_ble_eq_true rfl) (Nat.le_of_ble_eq_true rfl) h

def D_X10_doAim (a0 : Nat) (i1 : Int32) (i2 : Int32) (s0 : Hp) : Option (Int32 × Hp) :=
  (isO s0 a0 9).bind fun _ =>
  bd (D_X10_isMirror a0 i1 s0) fun i11 s12 =>
  if i11 = 0 then
  some ((-1 : Int32), s12)
  else
  bd (D_X10_isIn (i2).toInt64 (0 : Int64) (3 : Int64) s12) fun i13 s14 =>
  if i13 = 0 then
  some ((-2 : Int32), s14)
  else
  bd (D_X10_its a0 i1 (2 : Int32) s14) fun i15 s16 =>
  (D_X10_sets a0 i1 (2 : Int32) i2 s16).bind fun s17 =>
  some (i15, s17)
set_option maxRecDepth 100000 in
set_option maxHeartbeats 4000000 in
theorem K_X10_doAim {l : Launch} {a0 : Nat} {i1 : Int32} {i2 : Int32} {s0 : Hp} : ∀ P, OK jI (D_X10_doAim a0 i1 i2 s0) P → sm_Ct l yX10_doAim cX10_doAim 4 (some .int) 2 0 0 [.ref a0, .int i1, .int i2] s0 P := by
  intro P h
  unfold D_X10_doAim at h
  obtain ⟨_, hb0, h⟩ := h.bind
  refine sm_enter (own := RX10) (lv := [(0, .ref a0), (1, .int i1), (2, .int i2)]) (by decide) rfl (Nat.le_of_ble_eq_true rfl) rfl (fun G => ?_)
  refine T_aload_n dX10_doAim_0 rfl 0 rfl ?_
  refine T_iload_n dX10_doAim_1 rfl 1 rfl ?_
  refine T_callVI (As := [.int i1]) (rest := []) (b := a0) (ci := 9) dX10_doAim_2 mc_X10_isMirror mi_X10_isMirror ml_RX10_108 rfl (fun _ hr => chk_of hr) rfl rfl (Nat.le_of_ble_eq_true rfl) ⟨⟨Nat.le_of_ble_eq_true rfl, Nat.le_of_ble_eq_true rfl⟩, ⟨Nat.le_of_ble_eq_true rfl, Nat.le_of_ble_eq_true rfl⟩⟩ K_X10_isMirror h (fun i11 s12 h => ?_)
  refine T_if_ne 10 dX10_doAim_5 (by decide) h (fun _ h => ?_) (fun _ h => ?_)
  · refine T_iload_n dX10_doAim_10 rfl 2 rfl ?_
    refine T_i2l dX10_doAim_11 ?_
    refine T_lconst (0 : Int64) dX10_doAim_12 (by decide) ?_
    refine T_ldc2 (3 : Int64) dX10_doAim_13 wd_11_12 ?_
    refine T_callSI (As := [.long (i2).toInt64, .long (0 : Int64), .long (3 : Int64)]) (rest := []) dX10_doAim_16 mc_X10_isIn mi_X10_isIn ml_RX10_51 rfl rfl (Nat.le_of_ble_eq_true rfl) ⟨⟨Nat.le_of_ble_eq_true rfl, Nat.le_of_ble_eq_true rfl⟩, ⟨Nat.le_of_ble_eq_true rfl, Nat.le_of_ble_eq_true rfl⟩⟩ K_X10_isIn h (fun i13 s14 h => ?_)
    refine T_if_ne 25 dX10_doAim_19 (by decide) h (fun _ h => ?_) (fun _ h => ?_)
    · refine T_aload_n dX10_doAim_25 rfl 0 rfl ?_
      refine T_iload_n dX10_doAim_26 rfl 1 rfl ?_
      refine T_iconst (2 : Int32) dX10_doAim_27 (by decide) ?_
      refine T_callVI (As := [.int i1, .int (2 : Int32)]) (rest := []) (b := a0) (ci := 9) dX10_doAim_28 mc_X10_its mi_X10_its ml_RX10_57 rfl (fun _ hr => chk_of hr) rfl rfl (Nat.le_of_ble_eq_true rfl) ⟨⟨Nat.le_of_ble_eq_true rfl, Nat.le_of_ble_eq_true rfl⟩, ⟨Nat.le_of_ble_eq_true rfl, Nat.le_of_ble_eq_true rfl⟩⟩ K_X10_its h (fun i15 s16 h => ?_)
      refine T_istore_n (lv' := [(3, .int i15), (0, .ref a0), (1, .int i1), (2, .int i2)]) dX10_doAim_31 rfl (by decide) rfl ?_
      refine T_aload_n dX10_doAim_32 rfl 1 rfl ?_
      refine T_iload_n dX10_doAim_33 rfl 2 rfl ?_
      refine T_iconst (2 : Int32) dX10_doAim_34 (by decide) ?_
      refine T_iload_n dX10_doAim_35 rfl 3 rfl ?_
      refine T_callVV (As := [.int i1, .int (2 : Int32), .int i2]) (rest := []) (b := a0) (ci := 9) dX10_doAim_36 mc_X10_sets mi_X10_sets ml_RX10_89 rfl (fun _ hr => chk_of hr) rfl rfl (Nat.le_of_ble_eq_true rfl) ⟨⟨Nat.le_of_ble_eq_true rfl, Nat.le_of_ble_eq_true rfl⟩, ⟨Nat.le_of_ble_eq_true rfl, Nat.le_of_ble_eq_true rfl⟩⟩ K_X10_sets h (fun s17 h => ?_)
      refine T_iload_n dX10_doAim_39 rfl 0 rfl ?_
      exact T_ireturn dX10_doAim_40 (Nat.le_of_ble_eq_true rfl) (Nat.le_of_ble_eq_true rfl) h
    · refine T_bipush (-2 : Int32) dX10_doAim_22 (by decide) ?_
      exact T_ireturn dX10_doAim_24 (Nat.le_of_ble_eq_true rfl) (Nat.le_of_ble_eq_true rfl) h
  · refine T_iconst (-1 : Int32) dX10_doAim_8 (by decide) ?_
    exact T_ireturn dX10_doAim_9 (Nat.le_of_ble_eq_true rfl) (Nat.le_of_ble_eq_true rfl) h

def D_X10_doMirror (a0 : Nat) (i1 : Int32) (i2 : Int32) (i3 : Int32) (s0 : Hp) : Option (Int32 × Hp) :=
  (isO s0 a0 9).bind fun _ =>
  bd (D_X10_isPlace i1 i2 s0) fun i11 s12 =>
  if i11 = 0 then
  some ((-2 : Int32), s12)
  else
  bd (D_X10_isIn (i3).toInt64 (0 : Int64) (3 : Int64) s12) fun i13 s14 =>
  if i13 = 0 then
  some ((-2 : Int32), s14)
  else
  bd (D_X10_mirrorAt a0 i1 i2 s14) fun i15 s16 =>
  if i15 = (-6 : Int32) then
  (getR s16 a0 9 0).bind fun a17 =>
  (ldI s16 a17 (6 : Int32)).bind fun i18 =>
  if i18 = (24 : Int32) then
  some ((-4 : Int32), s16)
  else
  (D_X10_puts a0 i1 i2 i3 s16).bind fun s19 =>
  (getR s19 a0 9 0).bind fun a20 =>
  (ldI s19 a20 (6 : Int32)).bind fun i21 =>
  some ((i21 - (1 : Int32)), s19)
  else
  some ((-5 : Int32), s16)
set_option maxRecDepth 100000 in
set_option maxHeartbeats 4000000 in
theorem K_X10_doMirror {l : Launch} {a0 : Nat} {i1 : Int32} {i2 : Int32} {i3 : Int32} {s0 : Hp} : ∀ P, OK jI (D_X10_doMirror a0 i1 i2 i3 s0) P → sm_Ct l yX10_doMirror cX10_doMirror 4 (some .int) 2 0 0 [.ref a0, .int i1, .int i2, .int i3] s0 P := by
  intro P h
  unfold D_X10_doMirror at h
  obtain ⟨_, hb0, h⟩ := h.bind
  refine sm_enter (own := RX10) (lv := [(0, .ref a0), (1, .int i1), (2, .int i2), (3, .int i3)]) (by decide) rfl (Nat.le_of_ble_eq_true rfl) rfl (fun G => ?_)
  refine T_iload_n dX10_doMirror_0 rfl 1 rfl ?_
  refine T_iload_n dX10_doMirror_1 rfl 2 rfl ?_
  refine T_callSI (As := [.int i1, .int i2]) (rest := []) dX10_doMirror_2 mc_X10_isPlace mi_X10_isPlace ml_RX10_99 rfl rfl (Nat.le_of_ble_eq_true rfl) ⟨⟨Nat.le_of_ble_eq_true rfl, Nat.le_of_ble_eq_true rfl⟩, ⟨Nat.le_of_ble_eq_true rfl, Nat.le_of_ble_eq_true rfl⟩⟩ K_X10_isPlace h (fun i11 s12 h => ?_)
  refine T_if_eq 20 dX10_doMirror_5 (by decide) h (fun _ h => ?_) (fun _ h => ?_)
  · refine T_bipush (-2 : Int32) dX10_doMirror_20 (by decide) ?_
    exact T_ireturn dX10_doMirror_22 (Nat.le_of_ble_eq_true rfl) (Nat.le_of_ble_eq_true rfl) h
  · refine T_iload_n dX10_doMirror_8 rfl 3 rfl ?_
    refine T_i2l dX10_doMirror_9 ?_
    refine T_lconst (0 : Int64) dX10_doMirror_10 (by decide) ?_
    refine T_ldc2 (3 : Int64) dX10_doMirror_11 wd_11_12 ?_
    refine T_callSI (As := [.long (i3).toInt64, .long (0 : Int64), .long (3 : Int64)]) (rest := []) dX10_doMirror_14 mc_X10_isIn mi_X10_isIn ml_RX10_51 rfl rfl (Nat.le_of_ble_eq_true rfl) ⟨⟨Nat.le_of_ble_eq_true rfl, Nat.le_of_ble_eq_true rfl⟩, ⟨Nat.le_of_ble_eq_true rfl, Nat.le_of_ble_eq_true rfl⟩⟩ K_X10_isIn h (fun i13 s14 h => ?_)
    refine T_if_ne 23 dX10_doMirror_17 (by decide) h (fun _ h => ?_) (fun _ h => ?_)
    · refine T_aload_n dX10_doMirror_23 rfl 0 rfl ?_
      refine T_iload_n dX10_doMirror_24 rfl 1 rfl ?_
      refine T_iload_n dX10_doMirror_25 rfl 2 rfl ?_
      refine T_callVI (As := [.int i1, .int i2]) (rest := []) (b := a0) (ci := 9) dX10_doMirror_26 mc_X10_mirrorAt mi_X10_mirrorAt ml_RX10_64 rfl (fun _ hr => chk_of hr) rfl rfl (Nat.le_of_ble_eq_true rfl) ⟨⟨Nat.le_of_ble_eq_true rfl, Nat.le_of_ble_eq_true rfl⟩, ⟨Nat.le_of_ble_eq_true rfl, Nat.le_of_ble_eq_true rfl⟩⟩ K_X10_mirrorAt h (fun i15 s16 h => ?_)
      refine T_bipush (-6 : Int32) dX10_doMirror_29 (by decide) ?_
      refine T_icmp_eq 37 dX10_doMirror_31 (by decide) h (fun _ h => ?_) (fun _ h => ?_)
      · refine T_aload_n dX10_doMirror_37 rfl 0 rfl ?_
        refine T_getR dX10_doMirror_38 fl_RX10_7 h (fun a17 h => ?_)
        refine T_bipush (6 : Int32) dX10_doMirror_41 (by decide) ?_
        refine T_iaload dX10_doMirror_43 h (fun i18 h => ?_)
        refine T_bipush (24 : Int32) dX10_doMirror_44 (by decide) ?_
        refine T_icmp_ne 52 dX10_doMirror_46 (by decide) h (fun _ h => ?_) (fun _ h => ?_)
        · refine T_aload_n dX10_doMirror_52 rfl 0 rfl ?_
          refine T_iload_n dX10_doMirror_53 rfl 1 rfl ?_
          refine T_iload_n dX10_doMirror_54 rfl 2 rfl ?_
          refine T_iload_n dX10_doMirror_55 rfl 3 rfl ?_
          refine T_callVV (As := [.int i1, .int i2, .int i3]) (rest := []) (b := a0) (ci := 9) dX10_doMirror_56 mc_X10_puts mi_X10_puts ml_RX10_105 rfl (fun _ hr => chk_of hr) rfl rfl (Nat.le_of_ble_eq_true rfl) ⟨⟨Nat.le_of_ble_eq_true rfl, Nat.le_of_ble_eq_true rfl⟩, ⟨Nat.le_of_ble_eq_true rfl, Nat.le_of_ble_eq_true rfl⟩⟩ K_X10_puts h (fun s19 h => ?_)
          refine T_aload_n dX10_doMirror_59 rfl 0 rfl ?_
          refine T_getR dX10_doMirror_60 fl_RX10_7 h (fun a20 h => ?_)
          refine T_bipush (6 : Int32) dX10_doMirror_63 (by decide) ?_
          refine T_iaload dX10_doMirror_65 h (fun i21 h => ?_)
          refine T_iconst (1 : Int32) dX10_doMirror_66 (by decide) ?_
          refine T_isub dX10_doMirror_67 ?_
          exact T_ireturn dX10_doMirror_68 (Nat.le_of_ble_eq_true rfl) (Nat.le_of_ble_eq_true rfl) h
        · refine T_bipush (-4 : Int32) dX10_doMirror_49 (by decide) ?_
          exact T_ireturn dX10_doMirror_51 (Nat.le_of_ble_eq_true rfl) (Nat.le_of_ble_eq_true rfl) h
      · refine T_bipush (-5 : Int32) dX10_doMirror_34 (by decide) ?_
        exact T_ireturn dX10_doMirror_36 (Nat.le_of_ble_eq_true rfl) (Nat.le_of_ble_eq_true rfl) h
    · refine T_bipush (-2 : Int32) dX10_doMirror_20 (by decide) ?_
      exact T_ireturn dX10_doMirror_22 (Nat.le_of_ble_eq_true rfl) (Nat.le_of_ble_eq_true rfl) h

def D_X10_doTake (a0 : Nat) (i1 : Int32) (s0 : Hp) : Option (Int32 × Hp) :=
  (isO s0 a0 9).bind fun _ =>
  bd (D_X10_isMirror a0 i1 s0) fun i11 s12 =>
  if i11 = 0 then
  some ((-1 : Int32), s12)
  else
  (D_X10_takesOut a0 i1 s12).bind fun s13 =>
  (getR s13 a0 9 0).bind fun a14 =>
  (ldI s13 a14 (6 : Int32)).bind fun i15 =>
  some (i15, s13)
set_option maxRecDepth 100000 in
set_option maxHeartbeats 4000000 in
theorem K_X10_doTake {l : Launch} {a0 : Nat} {i1 : Int32} {s0 : Hp} : ∀ P, OK jI (D_X10_doTake a0 i1 s0) P → sm_Ct l yX10_doTake cX10_doTake 2 (some .int) 2 0 0 [.ref a0, .int i1] s0 P := by
  intro P h
  unfold D_X10_doTake at h
  obtain ⟨_, hb0, h⟩ := h.bind
  refine sm_enter (own := RX10) (lv := [(0, .ref a0), (1, .int i1)]) (by decide) rfl (Nat.le_of_ble_eq_true rfl) rfl (fun G => ?_)
  refine T_aload_n dX10_doTake_0 rfl 0 rfl ?_
  refine T_iload_n dX10_doTake_1 rfl 1 rfl ?_
  refine T_callVI (As := [.int i1]) (rest := []) (b := a0) (ci := 9) dX10_doTake_2 mc_X10_isMirror mi_X10_isMirror ml_RX10_108 rfl (fun _ hr => chk_of hr) rfl rfl (Nat.le_of_ble_eq_true rfl) ⟨⟨Nat.le_of_ble_eq_true rfl, Nat.le_of_ble_eq_true rfl⟩, ⟨Nat.le_of_ble_eq_true rfl, Nat.le_of_ble_eq_true rfl⟩⟩ K_X10_isMirror h (fun i11 s12 h => ?_)
  refine T_if_ne 10 dX10_doTake_5 (by decide) h (fun _ h => ?_) (fun _ h => ?_)
  · refine T_aload_n dX10_doTake_10 rfl 0 rfl ?_
    refine T_iload_n dX10_doTake_11 rfl 1 rfl ?_
    refine T_callVV (As := [.int i1]) (rest := []) (b := a0) (ci := 9) dX10_doTake_12 mc_X10_takesOut mi_X10_takesOut ml_RX10_111 rfl (fun _ hr => chk_of hr) rfl rfl (Nat.le_of_ble_eq_true rfl) ⟨⟨Nat.le_of_ble_eq_true rfl, Nat.le_of_ble_eq_true rfl⟩, ⟨Nat.le_of_ble_eq_true rfl, Nat.le_of_ble_eq_true rfl⟩⟩ K_X10_takesOut h (fun s13 h => ?_)
    refine T_aload_n dX10_doTake_15 rfl 0 rfl ?_
    refine T_getR dX10_doTake_16 fl_RX10_7 h (fun a14 h => ?_)
    refine T_bipush (6 : Int32) dX10_doTake_19 (by decide) ?_
    refine T_iaload dX10_doTake_21 h (fun i15 h => ?_)
    exact T_ireturn dX10_doTake_22 (Nat.le_of_ble_eq_true rfl) (Nat.le_of_ble_eq_true rfl) h
  · refine T_iconst (-1 : Int32) dX10_doTake_8 (by decide) ?_
    exact T_ireturn dX10_doTake_9 (Nat.le_of_ble_eq_true rfl) (Nat.le_of_ble_eq_true rfl) h

def D_X10_doWash (a0 : Nat) (i1 : Int32) (s0 : Hp) : Option (Int32 × Hp) :=
  (isO s0 a0 9).bind fun _ =>
  bd (D_X10_isMirror a0 i1 s0) fun i11 s12 =>
  if i11 = 0 then
  some ((-1 : Int32), s12)
  else
  bd (D_X10_its a0 i1 (3 : Int32) s12) fun i13 s14 =>
  (D_X10_sets a0 i1 (3 : Int32) (0 : Int32) s14).bind fun s15 =>
  some (i13, s15)
set_option maxRecDepth 100000 in
set_option maxHeartbeats 4000000 in
theorem K_X10_doWash {l : Launch} {a0 : Nat} {i1 : Int32} {s0 : Hp} : ∀ P, OK jI (D_X10_doWash a0 i1 s0) P → sm_Ct l yX10_doWash cX10_doWash 3 (some .int) 2 0 0 [.ref a0, .int i1] s0 P := by
  intro P h
  unfold D_X10_doWash at h
  obtain ⟨_, hb0, h⟩ := h.bind
  refine sm_enter (own := RX10) (lv := [(0, .ref a0), (1, .int i1)]) (by decide) rfl (Nat.le_of_ble_eq_true rfl) rfl (fun G => ?_)
  refine T_aload_n dX10_doWash_0 rfl 0 rfl ?_
  refine T_iload_n dX10_doWash_1 rfl 1 rfl ?_
  refine T_callVI (As := [.int i1]) (rest := []) (b := a0) (ci := 9) dX10_doWash_2 mc_X10_isMirror mi_X10_isMirror ml_RX10_108 rfl (fun _ hr => chk_of hr) rfl rfl (Nat.le_of_ble_eq_true rfl) ⟨⟨Nat.le_of_ble_eq_true rfl, Nat.le_of_ble_eq_true rfl⟩, ⟨Nat.le_of_ble_eq_true rfl, Nat.le_of_ble_eq_true rfl⟩⟩ K_X10_isMirror h (fun i11 s12 h => ?_)
  refine T_if_ne 10 dX10_doWash_5 (by decide) h (fun _ h => ?_) (fun _ h => ?_)
  · refine T_aload_n dX10_doWash_10 rfl 0 rfl ?_
    refine T_iload_n dX10_doWash_11 rfl 1 rfl ?_
    refine T_iconst (3 : Int32) dX10_doWash_12 (by decide) ?_
    refine T_callVI (As := [.int i1, .int (3 : Int32)]) (rest := []) (b := a0) (ci := 9) dX10_doWash_13 mc_X10_its mi_X10_its ml_RX10_57 rfl (fun _ hr => chk_of hr) rfl rfl (Nat.le_of_ble_eq_true rfl) ⟨⟨Nat.le_of_ble_eq_true rfl, Nat.le_of_ble_eq_true rfl⟩, ⟨Nat.le_of_ble_eq_true rfl, Nat.le_of_ble_eq_true rfl⟩⟩ K_X10_its h (fun i13 s14 h => ?_)
    refine T_istore_n (lv' := [(2, .int i13), (0, .ref a0), (1, .int i1)]) dX10_doWash_16 rfl (by decide) rfl ?_
    refine T_aload_n dX10_doWash_17 rfl 1 rfl ?_
    refine T_iload_n dX10_doWash_18 rfl 2 rfl ?_
    refine T_iconst (3 : Int32) dX10_doWash_19 (by decide) ?_
    refine T_iconst (0 : Int32) dX10_doWash_20 (by decide) ?_
    refine T_callVV (As := [.int i1, .int (3 : Int32), .int (0 : Int32)]) (rest := []) (b := a0) (ci := 9) dX10_doWash_21 mc_X10_sets mi_X10_sets ml_RX10_89 rfl (fun _ hr => chk_of hr) rfl rfl (Nat.le_of_ble_eq_true rfl) ⟨⟨Nat.le_of_ble_eq_true rfl, Nat.le_of_ble_eq_true rfl⟩, ⟨Nat.le_of_ble_eq_true rfl, Nat.le_of_ble_eq_true rfl⟩⟩ K_X10_sets h (fun s15 h => ?_)
    refine T_iload_n dX10_doWash_24 rfl 0 rfl ?_
    exact T_ireturn dX10_doWash_25 (Nat.le_of_ble_eq_true rfl) (Nat.le_of_ble_eq_true rfl) h
  · refine T_iconst (-1 : Int32) dX10_doWash_8 (by decide) ?_
    exact T_ireturn dX10_doWash_9 (Nat.le_of_ble_eq_true rfl) (Nat.le_of_ble_eq_true rfl) h

def D_X10_in (a0 : Nat) (i1 : Int32) (i2 : Int32) (s0 : Hp) : Option (Int32 × Hp) :=
  (isO s0 a0 9).bind fun _ =>
  bd (D_X10_isPlace i1 i2 s0) fun i11 s12 =>
  if i11 = 0 then
  some ((-1 : Int32), s12)
  else
  bd (D_X10_mirrorAt a0 i1 i2 s12) fun i13 s14 =>
  some (i13, s14)
set_option maxRecDepth 100000 in
set_option maxHeartbeats 4000000 in
theorem K_X10_in {l : Launch} {a0 : Nat} {i1 : Int32} {i2 : Int32} {s0 : Hp} : ∀ P, OK jI (D_X10_in a0 i1 i2 s0) P → sm_Ct l yX10_in cX10_in 3 (some .int) 2 0 0 [.ref a0, .int i1, .int i2] s0 P := by
  intro P h
  unfold D_X10_in at h
  obtain ⟨_, hb0, h⟩ := h.bind
  refine sm_enter (own := RX10) (lv := [(0, .ref a0), (1, .int i1), (2, .int i2)]) (by decide) rfl (Nat.le_of_ble_eq_true rfl) rfl (fun G => ?_)
  refine T_iload_n dX10_in_0 rfl 1 rfl ?_
  refine T_iload_n dX10_in_1 rfl 2 rfl ?_
  refine T_callSI (As := [.int i1, .int i2]) (rest := []) dX10_in_2 mc_X10_isPlace mi_X10_isPlace ml_RX10_99 rfl rfl (Nat.le_of_ble_eq_true rfl) ⟨⟨Nat.le_of_ble_eq_true rfl, Nat.le_of_ble_eq_true rfl⟩, ⟨Nat.le_of_ble_eq_true rfl, Nat.le_of_ble_eq_true rfl⟩⟩ K_X10_isPlace h (fun i11 s12 h => ?_)
  refine T_if_eq 17 dX10_in_5 (by decide) h (fun _ h => ?_) (fun _ h => ?_)
  · refine T_iconst (-1 : Int32) dX10_in_17 (by decide) ?_
    exact T_ireturn dX10_in_18 (Nat.le_of_ble_eq_true rfl) (Nat.le_of_ble_eq_true rfl) h
  · refine T_aload_n dX10_in_8 rfl 0 rfl ?_
    refine T_iload_n dX10_in_9 rfl 1 rfl ?_
    refine T_iload_n dX10_in_10 rfl 2 rfl ?_
    refine T_callVI (As := [.int i1, .int i2]) (rest := []) (b := a0) (ci := 9) dX10_in_11 mc_X10_mirrorAt mi_X10_mirrorAt ml_RX10_64 rfl (fun _ hr => chk_of hr) rfl rfl (Nat.le_of_ble_eq_true rfl) ⟨⟨Nat.le_of_ble_eq_true rfl, Nat.le_of_ble_eq_true rfl⟩, ⟨Nat.le_of_ble_eq_true rfl, Nat.le_of_ble_eq_true rfl⟩⟩ K_X10_mirrorAt h (fun i13 s14 h => ?_)
    refine T_goto 18 dX10_in_14 (by decide) ?_
    exact T_ireturn dX10_in_18 (Nat.le_of_ble_eq_true rfl) (Nat.le_of_ble_eq_true rfl) h

def D_X10_of (a0 : Nat) (i1 : Int32) (i2 : Int32) (s0 : Hp) : Option (Int32 × Hp) :=
  (isO s0 a0 9).bind fun _ =>
  bd (D_X10_isMirror a0 i1 s0) fun i11 s12 =>
  if i11 = 0 then
  some ((-1 : Int32), s12)
  else
  bd (D_X10_isIn (i2).toInt64 (0 : Int64) (3 : Int64) s12) fun i13 s14 =>
  if i13 = 0 then
  if i2 = (4 : Int32) then
  bd (D_X10_isBlocked a0 i1 s14) fun i17 s18 =>
  if i17 = 0 then
  some ((0 : Int32), s18)
  else
  some ((1 : Int32), s18)
  else
  if i2 = (5 : Int32) then
  bd (D_X10_its a0 i1 (4 : Int32) s14) fun i15 s16 =>
  some (i15, s16)
  else
  some ((-2 : Int32), s14)
  else
  bd (D_X10_its a0 i1 i2 s14) fun i19 s20 =>
  some (i19, s20)
set_option maxRecDepth 100000 in
set_option maxHeartbeats 4000000 in
theorem K_X10_of {l : Launch} {a0 : Nat} {i1 : Int32} {i2 : Int32} {s0 : Hp} : ∀ P, OK jI (D_X10_of a0 i1 i2 s0) P → sm_Ct l yX10_of cX10_of 3 (some .int) 2 0 0 [.ref a0, .int i1, .int i2] s0 P := by
  intro P h
  unfold D_X10_of at h
  obtain ⟨_, hb0, h⟩ := h.bind
  refine sm_enter (own := RX10) (lv := [(0, .ref a0), (1, .int i1), (2, .int i2)]) (by decide) rfl (Nat.le_of_ble_eq_true rfl) rfl (fun G => ?_)
  refine T_aload_n dX10_of_0 rfl 0 rfl ?_
  refine T_iload_n dX10_of_1 rfl 1 rfl ?_
  refine T_callVI (As := [.int i1]) (rest := []) (b := a0) (ci := 9) dX10_of_2 mc_X10_isMirror mi_X10_isMirror ml_RX10_108 rfl (fun _ hr => chk_of hr) rfl rfl (Nat.le_of_ble_eq_true rfl) ⟨⟨Nat.le_of_ble_eq_true rfl, Nat.le_of_ble_eq_true rfl⟩, ⟨Nat.le_of_ble_eq_true rfl, Nat.le_of_ble_eq_true rfl⟩⟩ K_X10_isMirror h (fun i11 s12 h => ?_)
  refine T_if_ne 10 dX10_of_5 (by decide) h (fun _ h => ?_) (fun _ h => ?_)
  · refine T_iload_n dX10_of_10 rfl 2 rfl ?_
    refine T_i2l dX10_of_11 ?_
    refine T_lconst (0 : Int64) dX10_of_12 (by decide) ?_
    refine T_ldc2 (3 : Int64) dX10_of_13 wd_11_12 ?_
    refine T_callSI (As := [.long (i2).toInt64, .long (0 : Int64), .long (3 : Int64)]) (rest := []) dX10_of_16 mc_X10_isIn mi_X10_isIn ml_RX10_51 rfl rfl (Nat.le_of_ble_eq_true rfl) ⟨⟨Nat.le_of_ble_eq_true rfl, Nat.le_of_ble_eq_true rfl⟩, ⟨Nat.le_of_ble_eq_true rfl, Nat.le_of_ble_eq_true rfl⟩⟩ K_X10_isIn h (fun i13 s14 h => ?_)
    refine T_if_eq 31 dX10_of_19 (by decide) h (fun _ h => ?_) (fun _ h => ?_)
    · refine T_iload_n dX10_of_31 rfl 2 rfl ?_
      refine T_iconst (4 : Int32) dX10_of_32 (by decide) ?_
      refine T_icmp_ne 52 dX10_of_33 (by decide) h (fun _ h => ?_) (fun _ h => ?_)
      · refine T_iload_n dX10_of_52 rfl 2 rfl ?_
        refine T_iconst (5 : Int32) dX10_of_53 (by decide) ?_
        refine T_icmp_ne 66 dX10_of_54 (by decide) h (fun _ h => ?_) (fun _ h => ?_)
        · refine T_bipush (-2 : Int32) dX10_of_66 (by decide) ?_
          exact T_ireturn dX10_of_68 (Nat.le_of_ble_eq_true rfl) (Nat.le_of_ble_eq_true rfl) h
        · refine T_aload_n dX10_of_57 rfl 0 rfl ?_
          refine T_iload_n dX10_of_58 rfl 1 rfl ?_
          refine T_iconst (4 : Int32) dX10_of_59 (by decide) ?_
          refine T_callVI (As := [.int i1, .int (4 : Int32)]) (rest := []) (b := a0) (ci := 9) dX10_of_60 mc_X10_its mi_X10_its ml_RX10_57 rfl (fun _ hr => chk_of hr) rfl rfl (Nat.le_of_ble_eq_true rfl) ⟨⟨Nat.le_of_ble_eq_true rfl, Nat.le_of_ble_eq_true rfl⟩, ⟨Nat.le_of_ble_eq_true rfl, Nat.le_of_ble_eq_true rfl⟩⟩ K_X10_its h (fun i15 s16 h => ?_)
          refine T_goto 68 dX10_of_63 (by decide) ?_
          exact T_ireturn dX10_of_68 (Nat.le_of_ble_eq_true rfl) (Nat.le_of_ble_eq_true rfl) h
      · refine T_aload_n dX10_of_36 rfl 0 rfl ?_
        refine T_iload_n dX10_of_37 rfl 1 rfl ?_
        refine T_callVI (As := [.int i1]) (rest := []) (b := a0) (ci := 9) dX10_of_38 mc_X10_isBlocked mi_X10_isBlocked ml_RX10_76 rfl (fun _ hr => chk_of hr) rfl rfl (Nat.le_of_ble_eq_true rfl) ⟨⟨Nat.le_of_ble_eq_true rfl, Nat.le_of_ble_eq_true rfl⟩, ⟨Nat.le_of_ble_eq_true rfl, Nat.le_of_ble_eq_true rfl⟩⟩ K_X10_isBlocked h (fun i17 s18 h => ?_)
        refine T_if_eq 48 dX10_of_41 (by decide) h (fun _ h => ?_) (fun _ h => ?_)
        · refine T_iconst (0 : Int32) dX10_of_48 (by decide) ?_
          refine T_goto 68 dX10_of_49 (by decide) ?_
          exact T_ireturn dX10_of_68 (Nat.le_of_ble_eq_true rfl) (Nat.le_of_ble_eq_true rfl) h
        · refine T_iconst (1 : Int32) dX10_of_44 (by decide) ?_
          refine T_goto 68 dX10_of_45 (by decide) ?_
          exact T_ireturn dX10_of_68 (Nat.le_of_ble_eq_true rfl) (Nat.le_of_ble_eq_true rfl) h
    · refine T_aload_n dX10_of_22 rfl 0 rfl ?_
      refine T_iload_n dX10_of_23 rfl 1 rfl ?_
      refine T_iload_n dX10_of_24 rfl 2 rfl ?_
      refine T_callVI (As := [.int i1, .int i2]) (rest := []) (b := a0) (ci := 9) dX10_of_25 mc_X10_its mi_X10_its ml_RX10_57 rfl (fun _ hr => chk_of hr) rfl rfl (Nat.le_of_ble_eq_true rfl) ⟨⟨Nat.le_of_ble_eq_true rfl, Nat.le_of_ble_eq_true rfl⟩, ⟨Nat.le_of_ble_eq_true rfl, Nat.le_of_ble_eq_true rfl⟩⟩ K_X10_its h (fun i19 s20 h => ?_)
      refine T_goto 68 dX10_of_28 (by decide) ?_
      exact T_ireturn dX10_of_68 (Nat.le_of_ble_eq_true rfl) (Nat.le_of_ble_eq_true rfl) h
  · refine T_iconst (-1 : Int32) dX10_of_8 (by decide) ?_
    exact T_ireturn dX10_of_9 (Nat.le_of_ble_eq_true rfl) (Nat.le_of_ble_eq_true rfl) h

def D_X10_readsNumber_w55 (a22 : Nat) (i23 : Int32) (k134 : Hp → Option (Int32 × Hp)) : Nat → Hp → Option (Int32 × Hp)
  | 0, _ => none
  | n25 + 1, s24 =>
  (getI s24 a22 9 14).bind fun i26 =>
  if i26 ≤ 0 then
  k134 s24
  else
  bd (D_X10_isHere a22 (48 : Int32) (57 : Int32) s24) fun i27 s28 =>
  if i27 = 0 then
  k134 s28
  else
  (getI s28 a22 9 14).bind fun i29 =>
  (getR s28 a22 9 11).bind fun a30 =>
  (getI s28 a22 9 13).bind fun i31 =>
  (ldI s28 a30 i31).bind fun i32 =>
  if i23 < ((((10 : Int32) * i29) + i32) - (48 : Int32)) then
  k134 s28
  else
  (getI s28 a22 9 14).bind fun i33 =>
  (getR s28 a22 9 11).bind fun a34 =>
  (getI s28 a22 9 13).bind fun i35 =>
  (ldI s28 a34 i35).bind fun i36 =>
  (putI s28 a22 9 14 ((((10 : Int32) * i33) + i36) - (48 : Int32))).bind fun s37 =>
  (getI s37 a22 9 13).bind fun i38 =>
  (putI s37 a22 9 13 (i38 + (1 : Int32))).bind fun s39 =>
  D_X10_readsNumber_w55 a22 i23 k134 n25 s39
def D_X10_readsNumber (a0 : Nat) (i1 : Int32) (s0 : Hp) : Option (Int32 × Hp) :=
  (isO s0 a0 9).bind fun _ =>
  bd (D_X10_isHere a0 (48 : Int32) (57 : Int32) s0) fun i11 s12 =>
  if i11 = 0 then
  retZ (0 : Int32) ((0 : Int32), s12)
  else
  (getR s12 a0 9 11).bind fun a13 =>
  (getI s12 a0 9 13).bind fun i14 =>
  (ldI s12 a13 i14).bind fun i15 =>
  if (i15 - (48 : Int32)) ≤ i1 then
  (getR s12 a0 9 11).bind fun a16 =>
  (getI s12 a0 9 13).bind fun i17 =>
  (ldI s12 a16 i17).bind fun i18 =>
  (putI s12 a0 9 14 (i18 - (48 : Int32))).bind fun s19 =>
  (getI s19 a0 9 13).bind fun i20 =>
  (putI s19 a0 9 13 (i20 + (1 : Int32))).bind fun s21 =>
  D_X10_readsNumber_w55 a0 i1 (fun s41 =>
  retZ (1 : Int32) ((1 : Int32), s41)
  ) FU s21
  else
  retZ (0 : Int32) ((0 : Int32), s12)
set_option maxRecDepth 100000 in
set_option maxHeartbeats 4000000 in
theorem K_X10_readsNumber_w55 {l : Launch} {G : smG} {P : Option Value → Hp → Prop} {a22 : Nat} {i23 : Int32} {k134 : Hp → Option (Int32 × Hp)} (hk134 : ∀  (s40 : Hp), OK jI (k134 s40) P → T l G RX10 cX10_readsNumber 2 (sm_rm 2 0 0) (sm_E (some .boolean) yX10_readsNumber.name) (sm_Qs G P 0 0) 0 0 134 [] [] s40) : ∀ (n : Nat)  (s24 : Hp), OK jI (D_X10_readsNumber_w55 a22 i23 k134 n s24) P → T l G RX10 cX10_readsNumber 2 (sm_rm 2 0 0) (sm_E (some .boolean) yX10_readsNumber.name) (sm_Qs G P 0 0) 0 0 55 [(0, .ref a22), (1, .int i23)] [] s24 := by
  intro n
  induction n with
  | zero => intro  s24 h; obtain ⟨_, h0, _⟩ := h; exact absurd h0 (by simp [D_X10_readsNumber_w55])
  | succ n25 ih =>
    intro  s24 h
    unfold D_X10_readsNumber_w55 at h
    refine T_aload_n dX10_readsNumber_55 rfl 0 rfl ?_
    refine T_getI dX10_readsNumber_56 fl_RX10_184 h (fun i26 h => ?_)
    refine T_if_le 134 dX10_readsNumber_59 (by decide) h (fun _ h => ?_) (fun _ h => ?_)
    · refine T_lv (lv' := []) [] rfl ?_
      exact hk134 s24 h
    · refine T_aload_n dX10_readsNumber_62 rfl 0 rfl ?_
      refine T_bipush (48 : Int32) dX10_readsNumber_63 (by decide) ?_
      refine T_bipush (57 : Int32) dX10_readsNumber_65 (by decide) ?_
      refine T_callVI (As := [.int (48 : Int32), .int (57 : Int32)]) (rest := []) (b := a22) (ci := 9) dX10_readsNumber_67 mc_X10_isHere mi_X10_isHere ml_RX10_181 rfl (fun _ hr => chk_of hr) rfl rfl (Nat.le_of_ble_eq_true rfl) ⟨⟨Nat.le_of_ble_eq_true rfl, Nat.le_of_ble_eq_true rfl⟩, ⟨Nat.le_of_ble_eq_true rfl, Nat.le_of_ble_eq_true rfl⟩⟩ K_X10_isHere h (fun i27 s28 h => ?_)
      refine T_if_eq 134 dX10_readsNumber_70 (by decide) h (fun _ h => ?_) (fun _ h => ?_)
      · refine T_lv (lv' := []) [] rfl ?_
        exact hk134 s28 h
      · refine T_bipush (10 : Int32) dX10_readsNumber_73 (by decide) ?_
        refine T_aload_n dX10_readsNumber_75 rfl 0 rfl ?_
        refine T_getI dX10_readsNumber_76 fl_RX10_184 h (fun i29 h => ?_)
        refine T_imul dX10_readsNumber_79 ?_
        refine T_aload_n dX10_readsNumber_80 rfl 0 rfl ?_
        refine T_getR dX10_readsNumber_81 fl_RX10_40 h (fun a30 h => ?_)
        refine T_aload_n dX10_readsNumber_84 rfl 0 rfl ?_
        refine T_getI dX10_readsNumber_85 fl_RX10_178 h (fun i31 h => ?_)
        refine T_iaload dX10_readsNumber_88 h (fun i32 h => ?_)
        refine T_iadd dX10_readsNumber_89 ?_
        refine T_bipush (48 : Int32) dX10_readsNumber_90 (by decide) ?_
        refine T_isub dX10_readsNumber_92 ?_
        refine T_iload_n dX10_readsNumber_93 rfl 1 rfl ?_
        refine T_icmp_gt 134 dX10_readsNumber_94 (by decide) h (fun _ h => ?_) (fun _ h => ?_)
        · refine T_lv (lv' := []) [] rfl ?_
          exact hk134 s28 h
        · refine T_aload_n dX10_readsNumber_97 rfl 0 rfl ?_
          refine T_bipush (10 : Int32) dX10_readsNumber_98 (by decide) ?_
          refine T_aload_n dX10_readsNumber_100 rfl 0 rfl ?_
          refine T_getI dX10_readsNumber_101 fl_RX10_184 h (fun i33 h => ?_)
          refine T_imul dX10_readsNumber_104 ?_
          refine T_aload_n dX10_readsNumber_105 rfl 0 rfl ?_
          refine T_getR dX10_readsNumber_106 fl_RX10_40 h (fun a34 h => ?_)
          refine T_aload_n dX10_readsNumber_109 rfl 0 rfl ?_
          refine T_getI dX10_readsNumber_110 fl_RX10_178 h (fun i35 h => ?_)
          refine T_iaload dX10_readsNumber_113 h (fun i36 h => ?_)
          refine T_iadd dX10_readsNumber_114 ?_
          refine T_bipush (48 : Int32) dX10_readsNumber_115 (by decide) ?_
          refine T_isub dX10_readsNumber_117 ?_
          refine T_putI dX10_readsNumber_118 fl_RX10_184 ft_9_14 h (fun s37 h => ?_)
          refine T_aload_n dX10_readsNumber_121 rfl 0 rfl ?_
          refine T_dup dX10_readsNumber_122 rfl ?_
          refine T_getI dX10_readsNumber_123 fl_RX10_178 h (fun i38 h => ?_)
          refine T_iconst (1 : Int32) dX10_readsNumber_126 (by decide) ?_
          refine T_iadd dX10_readsNumber_127 ?_
          refine T_putI dX10_readsNumber_128 fl_RX10_178 ft_9_13 h (fun s39 h => ?_)
          refine T_goto 55 dX10_readsNumber_131 (by decide) ?_
          exact ih s39 h
set_option maxRecDepth 100000 in
set_option maxHeartbeats 4000000 in
theorem K_X10_readsNumber {l : Launch} {a0 : Nat} {i1 : Int32} {s0 : Hp} : ∀ P, OK jI (D_X10_readsNumber a0 i1 s0) P → sm_Ct l yX10_readsNumber cX10_readsNumber 2 (some .boolean) 2 0 0 [.ref a0, .int i1] s0 P := by
  intro P h
  unfold D_X10_readsNumber at h
  obtain ⟨_, hb0, h⟩ := h.bind
  refine sm_enter (own := RX10) (lv := [(0, .ref a0), (1, .int i1)]) (by decide) rfl (Nat.le_of_ble_eq_true rfl) rfl (fun G => ?_)
  refine T_aload_n dX10_readsNumber_0 rfl 0 rfl ?_
  refine T_bipush (48 : Int32) dX10_readsNumber_1 (by decide) ?_
  refine T_bipush (57 : Int32) dX10_readsNumber_3 (by decide) ?_
  refine T_callVI (As := [.int (48 : Int32), .int (57 : Int32)]) (rest := []) (b := a0) (ci := 9) dX10_readsNumber_5 mc_X10_isHere mi_X10_isHere ml_RX10_181 rfl (fun _ hr => chk_of hr) rfl rfl (Nat.le_of_ble_eq_true rfl) ⟨⟨Nat.le_of_ble_eq_true rfl, Nat.le_of_ble_eq_true rfl⟩, ⟨Nat.le_of_ble_eq_true rfl, Nat.le_of_ble_eq_true rfl⟩⟩ K_X10_isHere h (fun i11 s12 h => ?_)
  refine T_if_eq 27 dX10_readsNumber_8 (by decide) h (fun _ h => ?_) (fun _ h => ?_)
  · refine T_iconst (0 : Int32) dX10_readsNumber_27 (by decide) ?_
    exact T_zreturn dX10_readsNumber_28 (Nat.le_of_ble_eq_true rfl) (Nat.le_of_ble_eq_true rfl) h
  · refine T_aload_n dX10_readsNumber_11 rfl 0 rfl ?_
    refine T_getR dX10_readsNumber_12 fl_RX10_40 h (fun a13 h => ?_)
    refine T_aload_n dX10_readsNumber_15 rfl 0 rfl ?_
    refine T_getI dX10_readsNumber_16 fl_RX10_178 h (fun i14 h => ?_)
    refine T_iaload dX10_readsNumber_19 h (fun i15 h => ?_)
    refine T_bipush (48 : Int32) dX10_readsNumber_20 (by decide) ?_
    refine T_isub dX10_readsNumber_22 ?_
    refine T_iload_n dX10_readsNumber_23 rfl 1 rfl ?_
    refine T_icmp_le 29 dX10_readsNumber_24 (by decide) h (fun _ h => ?_) (fun _ h => ?_)
    · refine T_aload_n dX10_readsNumber_29 rfl 0 rfl ?_
      refine T_aload_n dX10_readsNumber_30 rfl 0 rfl ?_
      refine T_getR dX10_readsNumber_31 fl_RX10_40 h (fun a16 h => ?_)
      refine T_aload_n dX10_readsNumber_34 rfl 0 rfl ?_
      refine T_getI dX10_readsNumber_35 fl_RX10_178 h (fun i17 h => ?_)
      refine T_iaload dX10_readsNumber_38 h (fun i18 h => ?_)
      refine T_bipush (48 : Int32) dX10_readsNumber_39 (by decide) ?_
      refine T_isub dX10_readsNumber_41 ?_
      refine T_putI dX10_readsNumber_42 fl_RX10_184 ft_9_14 h (fun s19 h => ?_)
      refine T_aload_n dX10_readsNumber_45 rfl 0 rfl ?_
      refine T_dup dX10_readsNumber_46 rfl ?_
      refine T_getI dX10_readsNumber_47 fl_RX10_178 h (fun i20 h => ?_)
      refine T_iconst (1 : Int32) dX10_readsNumber_50 (by decide) ?_
      refine T_iadd dX10_readsNumber_51 ?_
      refine T_putI dX10_readsNumber_52 fl_RX10_178 ft_9_13 h (fun s21 h => ?_)
      refine K_X10_readsNumber_w55 ?_ FU s21 h
      intro s41 h
      refine T_iconst (1 : Int32) dX10_readsNumber_134 (by decide) ?_
      exact T_zreturn dX10_readsNumber_135 (Nat.le_of_ble_eq_true rfl) (Nat.le_of_ble_eq_true rfl) h
    · refine T_iconst (0 : Int32) dX10_readsNumber_27 (by decide) ?_
      exact T_zreturn dX10_readsNumber_28 (Nat.le_of_ble_eq_true rfl) (Nat.le_of_ble_eq_true rfl) h

def D_X10_set (a0 : Nat) (i1 : Int32) (i2 : Int32) (s0 : Hp) : Option (Int32 × Hp) :=
  (isO s0 a0 9).bind fun _ =>
  bd (D_X10_isSetting i1 i2 s0) fun i11 s12 =>
  if i11 = 0 then
  some ((-2 : Int32), s12)
  else
  (getR s12 a0 9 0).bind fun a13 =>
  (getR s12 a0 9 1).bind fun a14 =>
  (D_X10_copy a13 a14 s12).bind fun s15 =>
  (getR s15 a0 9 0).bind fun a16 =>
  (stI s15 a16 i1 i2).bind fun s17 =>
  (getR s17 a0 9 1).bind fun a18 =>
  (ldI s17 a18 i1).bind fun i19 =>
  bd (D_X10_changed a0 i19 s17) fun i20 s21 =>
  some (i20, s21)
set_option maxRecDepth 100000 in
set_option maxHeartbeats 4000000 in
theorem K_X10_set {l : Launch} {a0 : Nat} {i1 : Int32} {i2 : Int32} {s0 : Hp} : ∀ P, OK jI (D_X10_set a0 i1 i2 s0) P → sm_Ct l yX10_set cX10_set 3 (some .int) 2 0 0 [.ref a0, .int i1, .int i2] s0 P := by
  intro P h
  unfold D_X10_set at h
  obtain ⟨_, hb0, h⟩ := h.bind
  refine sm_enter (own := RX10) (lv := [(0, .ref a0), (1, .int i1), (2, .int i2)]) (by decide) rfl (Nat.le_of_ble_eq_true rfl) rfl (fun G => ?_)
  refine T_iload_n dX10_set_0 rfl 1 rfl ?_
  refine T_iload_n dX10_set_1 rfl 2 rfl ?_
  refine T_callSI (As := [.int i1, .int i2]) (rest := []) dX10_set_2 mc_X10_isSetting mi_X10_isSetting ml_RX10_121 rfl rfl (Nat.le_of_ble_eq_true rfl) ⟨⟨Nat.le_of_ble_eq_true rfl, Nat.le_of_ble_eq_true rfl⟩, ⟨Nat.le_of_ble_eq_true rfl, Nat.le_of_ble_eq_true rfl⟩⟩ K_X10_isSetting h (fun i11 s12 h => ?_)
  refine T_if_ne 11 dX10_set_5 (by decide) h (fun _ h => ?_) (fun _ h => ?_)
  · refine T_aload_n dX10_set_11 rfl 0 rfl ?_
    refine T_getR dX10_set_12 fl_RX10_7 h (fun a13 h => ?_)
    refine T_aload_n dX10_set_15 rfl 0 rfl ?_
    refine T_getR dX10_set_16 fl_RX10_13 h (fun a14 h => ?_)
    refine T_callSV (As := [.ref a13, .ref a14]) (rest := []) dX10_set_19 mc_X10_copy mi_X10_copy ml_RX10_124 rfl rfl (Nat.le_of_ble_eq_true rfl) ⟨⟨Nat.le_of_ble_eq_true rfl, Nat.le_of_ble_eq_true rfl⟩, ⟨Nat.le_of_ble_eq_true rfl, Nat.le_of_ble_eq_true rfl⟩⟩ K_X10_copy h (fun s15 h => ?_)
    refine T_aload_n dX10_set_22 rfl 0 rfl ?_
    refine T_getR dX10_set_23 fl_RX10_7 h (fun a16 h => ?_)
    refine T_iload_n dX10_set_26 rfl 1 rfl ?_
    refine T_iload_n dX10_set_27 rfl 2 rfl ?_
    refine T_iastore dX10_set_28 h (fun s17 h => ?_)
    refine T_aload_n dX10_set_29 rfl 0 rfl ?_
    refine T_aload_n dX10_set_30 rfl 0 rfl ?_
    refine T_getR dX10_set_31 fl_RX10_13 h (fun a18 h => ?_)
    refine T_iload_n dX10_set_34 rfl 1 rfl ?_
    refine T_iaload dX10_set_35 h (fun i19 h => ?_)
    refine T_callVI (As := [.int i19]) (rest := []) (b := a0) (ci := 9) dX10_set_36 mc_X10_changed mi_X10_changed ml_RX10_118 rfl (fun _ hr => chk_of hr) rfl rfl (Nat.le_of_ble_eq_true rfl) ⟨⟨Nat.le_of_ble_eq_true rfl, Nat.le_of_ble_eq_true rfl⟩, ⟨Nat.le_of_ble_eq_true rfl, Nat.le_of_ble_eq_true rfl⟩⟩ K_X10_changed h (fun i20 s21 h => ?_)
    exact T_ireturn dX10_set_39 (Nat.le_of_ble_eq_true rfl) (Nat.le_of_ble_eq_true rfl) h
  · refine T_bipush (-2 : Int32) dX10_set_8 (by decide) ?_
    exact T_ireturn dX10_set_10 (Nat.le_of_ble_eq_true rfl) (Nat.le_of_ble_eq_true rfl) h

def D_X10_shadeOf_w2 (a11 : Nat) (i12 : Int32) (i13 : Int32) (k55 : Hp → Option (Int32 × Hp)) : Nat → Int32 → Hp → Option (Int32 × Hp)
  | 0, _, _ => none
  | n16 + 1, i14, s15 =>
  bd (D_X10_high i13 s15) fun i17 s18 =>
  (divI (6 : Int32) i17).bind fun i19 =>
  if i19 < i14 then
  k55 s18
  else
  bd (D_X10_its a11 i12 (0 : Int32) s18) fun i20 s21 =>
  bd (D_X10_its a11 i12 (1 : Int32) s21) fun i22 s23 =>
  bd (D_X10_mirrorAt a11 (i20 - i14) (i22 + (i14 * ((5 : Int32) - i13))) s23) fun i24 s25 =>
  if i24 = (-6 : Int32) then
  D_X10_shadeOf_w2 a11 i12 i13 k55 n16 (i14 + 1) s25
  else
  some (i24, s25)
def D_X10_shadeOf (a0 : Nat) (i1 : Int32) (i2 : Int32) (s0 : Hp) : Option (Int32 × Hp) :=
  (isO s0 a0 9).bind fun _ =>
  D_X10_shadeOf_w2 a0 i1 i2 (fun s27 =>
  some ((-6 : Int32), s27)
  ) FU (1 : Int32) s0
set_option maxRecDepth 100000 in
set_option maxHeartbeats 4000000 in
theorem K_X10_shadeOf_w2 {l : Launch} {G : smG} {P : Option Value → Hp → Prop} {a11 : Nat} {i12 : Int32} {i13 : Int32} {k55 : Hp → Option (Int32 × Hp)} (hk55 : ∀  (s26 : Hp), OK jI (k55 s26) P → T l G RX10 cX10_shadeOf 5 (sm_rm 2 0 0) (sm_E (some .int) yX10_shadeOf.name) (sm_Qs G P 0 0) 0 0 55 [] [] s26) : ∀ (n : Nat) (i14 : Int32) (s15 : Hp), OK jI (D_X10_shadeOf_w2 a11 i12 i13 k55 n i14 s15) P → T l G RX10 cX10_shadeOf 5 (sm_rm 2 0 0) (sm_E (some .int) yX10_shadeOf.name) (sm_Qs G P 0 0) 0 0 2 [(0, .ref a11), (1, .int i12), (2, .int i13), (3, .int i14)] [] s15 := by
  intro n
  induction n with
  | zero => intro i14 s15 h; obtain ⟨_, h0, _⟩ := h; exact absurd h0 (by simp [D_X10_shadeOf_w2])
  | succ n16 ih =>
    intro i14 s15 h
    unfold D_X10_shadeOf_w2 at h
    refine T_iload_n dX10_shadeOf_2 rfl 3 rfl ?_
    refine T_bipush (6 : Int32) dX10_shadeOf_3 (by decide) ?_
    refine T_iload_n dX10_shadeOf_5 rfl 2 rfl ?_
    refine T_callSI (As := [.int i13]) (rest := [.int (6 : Int32), .int i14]) dX10_shadeOf_6 mc_X10_high mi_X10_high ml_RX10_61 rfl rfl (Nat.le_of_ble_eq_true rfl) ⟨⟨Nat.le_of_ble_eq_true rfl, Nat.le_of_ble_eq_true rfl⟩, ⟨Nat.le_of_ble_eq_true rfl, Nat.le_of_ble_eq_true rfl⟩⟩ K_X10_high h (fun i17 s18 h => ?_)
    refine T_idiv dX10_shadeOf_9 h (fun i19 h => ?_)
    refine T_icmp_gt 55 dX10_shadeOf_10 (by decide) h (fun _ h => ?_) (fun _ h => ?_)
    · refine T_lv (lv' := []) [] rfl ?_
      exact hk55 s18 h
    · refine T_aload_n dX10_shadeOf_13 rfl 0 rfl ?_
      refine T_aload_n dX10_shadeOf_14 rfl 0 rfl ?_
      refine T_iload_n dX10_shadeOf_15 rfl 1 rfl ?_
      refine T_iconst (0 : Int32) dX10_shadeOf_16 (by decide) ?_
      refine T_callVI (As := [.int i12, .int (0 : Int32)]) (rest := [.ref a11]) (b := a11) (ci := 9) dX10_shadeOf_17 mc_X10_its mi_X10_its ml_RX10_57 rfl (fun _ hr => chk_of hr) rfl rfl (Nat.le_of_ble_eq_true rfl) ⟨⟨Nat.le_of_ble_eq_true rfl, Nat.le_of_ble_eq_true rfl⟩, ⟨Nat.le_of_ble_eq_true rfl, Nat.le_of_ble_eq_true rfl⟩⟩ K_X10_its h (fun i20 s21 h => ?_)
      refine T_iload_n dX10_shadeOf_20 rfl 3 rfl ?_
      refine T_isub dX10_shadeOf_21 ?_
      refine T_aload_n dX10_shadeOf_22 rfl 0 rfl ?_
      refine T_iload_n dX10_shadeOf_23 rfl 1 rfl ?_
      refine T_iconst (1 : Int32) dX10_shadeOf_24 (by decide) ?_
      refine T_callVI (As := [.int i12, .int (1 : Int32)]) (rest := [.int (i20 - i14), .ref a11]) (b := a11) (ci := 9) dX10_shadeOf_25 mc_X10_its mi_X10_its ml_RX10_57 rfl (fun _ hr => chk_of hr) rfl rfl (Nat.le_of_ble_eq_true rfl) ⟨⟨Nat.le_of_ble_eq_true rfl, Nat.le_of_ble_eq_true rfl⟩, ⟨Nat.le_of_ble_eq_true rfl, Nat.le_of_ble_eq_true rfl⟩⟩ K_X10_its h (fun i22 s23 h => ?_)
      refine T_iload_n dX10_shadeOf_28 rfl 3 rfl ?_
      refine T_iconst (5 : Int32) dX10_shadeOf_29 (by decide) ?_
      refine T_iload_n dX10_shadeOf_30 rfl 2 rfl ?_
      refine T_isub dX10_shadeOf_31 ?_
      refine T_imul dX10_shadeOf_32 ?_
      refine T_iadd dX10_shadeOf_33 ?_
      refine T_callVI (As := [.int (i20 - i14), .int (i22 + (i14 * ((5 : Int32) - i13)))]) (rest := []) (b := a11) (ci := 9) dX10_shadeOf_34 mc_X10_mirrorAt mi_X10_mirrorAt ml_RX10_64 rfl (fun _ hr => chk_of hr) rfl rfl (Nat.le_of_ble_eq_true rfl) ⟨⟨Nat.le_of_ble_eq_true rfl, Nat.le_of_ble_eq_true rfl⟩, ⟨Nat.le_of_ble_eq_true rfl, Nat.le_of_ble_eq_true rfl⟩⟩ K_X10_mirrorAt h (fun i24 s25 h => ?_)
      refine T_istore (lv' := [(4, .int i24), (0, .ref a11), (1, .int i12), (2, .int i13), (3, .int i14)]) dX10_shadeOf_37 (by decide) rfl ?_
      refine T_iload dX10_shadeOf_39 0 rfl ?_
      refine T_bipush (-6 : Int32) dX10_shadeOf_41 (by decide) ?_
      refine T_icmp_eq 49 dX10_shadeOf_43 (by decide) h (fun _ h => ?_) (fun _ h => ?_)
      · refine T_iinc (i14 + 1) (lv' := [(3, .int (i14 + 1)), (4, .int i24), (0, .ref a11), (1, .int i12), (2, .int i13)]) dX10_shadeOf_49 (j := 4) rfl rfl (by decide) rfl ?_
        refine T_goto 2 dX10_shadeOf_52 (by decide) ?_
        refine T_lv (lv' := [(0, .ref a11), (1, .int i12), (2, .int i13), (3, .int (i14 + 1))]) [2, 3, 4, 0] rfl ?_
        exact ih (i14 + 1) s25 h
      · refine T_iload dX10_shadeOf_46 0 rfl ?_
        exact T_ireturn dX10_shadeOf_48 (Nat.le_of_ble_eq_true rfl) (Nat.le_of_ble_eq_true rfl) h
set_option maxRecDepth 100000 in
set_option maxHeartbeats 4000000 in
theorem K_X10_shadeOf {l : Launch} {a0 : Nat} {i1 : Int32} {i2 : Int32} {s0 : Hp} : ∀ P, OK jI (D_X10_shadeOf a0 i1 i2 s0) P → sm_Ct l yX10_shadeOf cX10_shadeOf 5 (some .int) 2 0 0 [.ref a0, .int i1, .int i2] s0 P := by
  intro P h
  unfold D_X10_shadeOf at h
  obtain ⟨_, hb0, h⟩ := h.bind
  refine sm_enter (own := RX10) (lv := [(0, .ref a0), (1, .int i1), (2, .int i2)]) (by decide) rfl (Nat.le_of_ble_eq_true rfl) rfl (fun G => ?_)
  refine T_iconst (1 : Int32) dX10_shadeOf_0 (by decide) ?_
  refine T_istore_n (lv' := [(3, .int (1 : Int32)), (0, .ref a0), (1, .int i1), (2, .int i2)]) dX10_shadeOf_1 rfl (by decide) rfl ?_
  refine T_lv (lv' := [(0, .ref a0), (1, .int i1), (2, .int i2), (3, .int (1 : Int32))]) [1, 2, 3, 0] rfl ?_
  refine K_X10_shadeOf_w2 ?_ FU (1 : Int32) s0 h
  intro s27 h
  refine T_bipush (-6 : Int32) dX10_shadeOf_55 (by decide) ?_
  exact T_ireturn dX10_shadeOf_57 (Nat.le_of_ble_eq_true rfl) (Nat.le_of_ble_eq_true rfl) h

def D_X10_takes_b21  (i14 : Int32) (i16 : Int32) (i17 : Int32) (a18 : Nat) (s15 : Hp) : Option (Int32 × Hp) :=
  (putI s15 a18 9 13 (i17 + i16)).bind fun s19 =>
  retZ i14 (i14, s19)
def D_X10_takes (a0 : Nat) (i1 : Int32) (s0 : Hp) : Option (Int32 × Hp) :=
  (isO s0 a0 9).bind fun _ =>
  bd (D_X10_isHere a0 i1 i1 s0) fun i11 s12 =>
  (getI s12 a0 9 13).bind fun i13 =>
  if i11 = 0 then
  D_X10_takes_b21 i11 (0 : Int32) i13 a0 s12
  else
  D_X10_takes_b21 i11 (1 : Int32) i13 a0 s12
set_option maxRecDepth 100000 in
set_option maxHeartbeats 4000000 in
theorem K_X10_takes_b21 {l : Launch} {G : smG} {P : Option Value → Hp → Prop}  {i14 : Int32} {i16 : Int32} {i17 : Int32} {a18 : Nat} {s15 : Hp}  (h : OK jI (D_X10_takes_b21 i14 i16 i17 a18 s15) P) : T l G RX10 cX10_takes 3 (sm_rm 2 0 0) (sm_E (some .boolean) yX10_takes.name) (sm_Qs G P 0 0) 0 0 21 [(2, .int i14)] [.int i16, .int i17, .ref a18] s15 := by
  unfold D_X10_takes_b21 at h
  refine T_iadd dX10_takes_21 ?_
  refine T_putI dX10_takes_22 fl_RX10_178 ft_9_13 h (fun s19 h => ?_)
  refine T_iload_n dX10_takes_25 rfl 0 rfl ?_
  exact T_zreturn dX10_takes_26 (Nat.le_of_ble_eq_true rfl) (Nat.le_of_ble_eq_true rfl) h
set_option maxRecDepth 100000 in
set_option maxHeartbeats 4000000 in
theorem K_X10_takes {l : Launch} {a0 : Nat} {i1 : Int32} {s0 : Hp} : ∀ P, OK jI (D_X10_takes a0 i1 s0) P → sm_Ct l yX10_takes cX10_takes 3 (some .boolean) 2 0 0 [.ref a0, .int i1] s0 P := by
  intro P h
  unfold D_X10_takes at h
  obtain ⟨_, hb0, h⟩ := h.bind
  refine sm_enter (own := RX10) (lv := [(0, .ref a0), (1, .int i1)]) (by decide) rfl (Nat.le_of_ble_eq_true rfl) rfl (fun G => ?_)
  refine T_aload_n dX10_takes_0 rfl 0 rfl ?_
  refine T_iload_n dX10_takes_1 rfl 1 rfl ?_
  refine T_iload_n dX10_takes_2 rfl 1 rfl ?_
  refine T_callVI (As := [.int i1, .int i1]) (rest := []) (b := a0) (ci := 9) dX10_takes_3 mc_X10_isHere mi_X10_isHere ml_RX10_181 rfl (fun _ hr => chk_of hr) rfl rfl (Nat.le_of_ble_eq_true rfl) ⟨⟨Nat.le_of_ble_eq_true rfl, Nat.le_of_ble_eq_true rfl⟩, ⟨Nat.le_of_ble_eq_true rfl, Nat.le_of_ble_eq_true rfl⟩⟩ K_X10_isHere h (fun i11 s12 h => ?_)
  refine T_istore_n (lv' := [(2, .int i11), (0, .ref a0), (1, .int i1)]) dX10_takes_6 rfl (by decide) rfl ?_
  refine T_aload_n dX10_takes_7 rfl 1 rfl ?_
  refine T_dup dX10_takes_8 rfl ?_
  refine T_getI dX10_takes_9 fl_RX10_178 h (fun i13 h => ?_)
  refine T_iload_n dX10_takes_12 rfl 0 rfl ?_
  refine T_if_eq 20 dX10_takes_13 (by decide) h (fun _ h => ?_) (fun _ h => ?_)
  · refine T_iconst (0 : Int32) dX10_takes_20 (by decide) ?_
    refine T_lv (lv' := [(2, .int i11)]) [0] rfl ?_
    exact K_X10_takes_b21 h
  · refine T_iconst (1 : Int32) dX10_takes_16 (by decide) ?_
    refine T_goto 21 dX10_takes_17 (by decide) ?_
    refine T_lv (lv' := [(2, .int i11)]) [0] rfl ?_
    exact K_X10_takes_b21 h

def D_X10_wind (a0 : Nat) (i1 : Int32) (s0 : Hp) : Option (Int32 × Hp) :=
  (isO s0 a0 9).bind fun _ =>
  (getR s0 a0 9 0).bind fun a11 =>
  (getR s0 a0 9 1).bind fun a12 =>
  (D_X10_copy a11 a12 s0).bind fun s13 =>
  bd (D_X10_doWind a0 i1 s13) fun i14 s15 =>
  bd (D_X10_ends a0 i14 s15) fun i16 s17 =>
  some (i16, s17)
set_option maxRecDepth 100000 in
set_option maxHeartbeats 4000000 in
theorem K_X10_wind {l : Launch} {a0 : Nat} {i1 : Int32} {s0 : Hp} : ∀ P, OK jI (D_X10_wind a0 i1 s0) P → sm_Ct l yX10_wind cX10_wind 2 (some .int) 2 0 0 [.ref a0, .int i1] s0 P := by
  intro P h
  unfold D_X10_wind at h
  obtain ⟨_, hb0, h⟩ := h.bind
  refine sm_enter (own := RX10) (lv := [(0, .ref a0), (1, .int i1)]) (by decide) rfl (Nat.le_of_ble_eq_true rfl) rfl (fun G => ?_)
  refine T_aload_n dX10_wind_0 rfl 0 rfl ?_
  refine T_getR dX10_wind_1 fl_RX10_7 h (fun a11 h => ?_)
  refine T_aload_n dX10_wind_4 rfl 0 rfl ?_
  refine T_getR dX10_wind_5 fl_RX10_13 h (fun a12 h => ?_)
  refine T_callSV (As := [.ref a11, .ref a12]) (rest := []) dX10_wind_8 mc_X10_copy mi_X10_copy ml_RX10_124 rfl rfl (Nat.le_of_ble_eq_true rfl) ⟨⟨Nat.le_of_ble_eq_true rfl, Nat.le_of_ble_eq_true rfl⟩, ⟨Nat.le_of_ble_eq_true rfl, Nat.le_of_ble_eq_true rfl⟩⟩ K_X10_copy h (fun s13 h => ?_)
  refine T_aload_n dX10_wind_11 rfl 0 rfl ?_
  refine T_aload_n dX10_wind_12 rfl 0 rfl ?_
  refine T_iload_n dX10_wind_13 rfl 1 rfl ?_
  refine T_callVI (As := [.int i1]) (rest := [.ref a0]) (b := a0) (ci := 9) dX10_wind_14 mc_X10_doWind mi_X10_doWind ml_RX10_144 rfl (fun _ hr => chk_of hr) rfl rfl (Nat.le_of_ble_eq_true rfl) ⟨⟨Nat.le_of_ble_eq_true rfl, Nat.le_of_ble_eq_true rfl⟩, ⟨Nat.le_of_ble_eq_true rfl, Nat.le_of_ble_eq_true rfl⟩⟩ K_X10_doWind h (fun i14 s15 h => ?_)
  refine T_callVI (As := [.int i14]) (rest := []) (b := a0) (ci := 9) dX10_wind_17 mc_X10_ends mi_X10_ends ml_RX10_132 rfl (fun _ hr => chk_of hr) rfl rfl (Nat.le_of_ble_eq_true rfl) ⟨⟨Nat.le_of_ble_eq_true rfl, Nat.le_of_ble_eq_true rfl⟩, ⟨Nat.le_of_ble_eq_true rfl, Nat.le_of_ble_eq_true rfl⟩⟩ K_X10_ends h (fun i16 s17 h => ?_)
  exact T_ireturn dX10_wind_20 (Nat.le_of_ble_eq_true rfl) (Nat.le_of_ble_eq_true rfl) h

def D_X2_blow (a0 : Nat) (i1 : Int32) (s0 : Hp) : Option (Int32 × Hp) :=
  (isO s0 a0 2).bind fun _ =>
  if i1 < 0 then
  some ((-2 : Int32), s0)
  else
  if i1 ≤ (99 : Int32) then
  (putI s0 a0 2 7 i1).bind fun s11 =>
  bd (D_X2_liesFlat a0 s11) fun i12 s13 =>
  if i12 = 0 then
  some ((0 : Int32), s13)
  else
  some ((1 : Int32), s13)
  else
  some ((-2 : Int32), s0)
set_option maxRecDepth 100000 in
set_option maxHeartbeats 4000000 in
theorem K_X2_blow {l : Launch} {a0 : Nat} {i1 : Int32} {s0 : Hp} : ∀ P, OK jI (D_X2_blow a0 i1 s0) P → sm_Ct l yX2_blow cX2_blow 2 (some .int) 2 0 0 [.ref a0, .int i1] s0 P := by
  intro P h
  unfold D_X2_blow at h
  obtain ⟨_, hb0, h⟩ := h.bind
  refine sm_enter (own := RX2) (lv := [(0, .ref a0), (1, .int i1)]) (by decide) rfl (Nat.le_of_ble_eq_true rfl) rfl (fun G => ?_)
  refine T_iload_n dX2_blow_0 rfl 1 rfl ?_
  refine T_if_lt 10 dX2_blow_1 (by decide) h (fun _ h => ?_) (fun _ h => ?_)
  · refine T_bipush (-2 : Int32) dX2_blow_10 (by decide) ?_
    exact T_ireturn dX2_blow_12 (Nat.le_of_ble_eq_true rfl) (Nat.le_of_ble_eq_true rfl) h
  · refine T_iload_n dX2_blow_4 rfl 1 rfl ?_
    refine T_bipush (99 : Int32) dX2_blow_5 (by decide) ?_
    refine T_icmp_le 13 dX2_blow_7 (by decide) h (fun _ h => ?_) (fun _ h => ?_)
    · refine T_aload_n dX2_blow_13 rfl 0 rfl ?_
      refine T_iload_n dX2_blow_14 rfl 1 rfl ?_
      refine T_putI dX2_blow_15 fl_RX2_39 ft_2_7 h (fun s11 h => ?_)
      refine T_aload_n dX2_blow_18 rfl 0 rfl ?_
      refine T_callVI (As := []) (rest := []) (b := a0) (ci := 2) dX2_blow_19 mc_X2_liesFlat mi_X2_liesFlat ml_RX2_85 rfl (fun _ hr => chk_of hr) rfl rfl (Nat.le_of_ble_eq_true rfl) ⟨⟨Nat.le_of_ble_eq_true rfl, Nat.le_of_ble_eq_true rfl⟩, ⟨Nat.le_of_ble_eq_true rfl, Nat.le_of_ble_eq_true rfl⟩⟩ K_X2_liesFlat h (fun i12 s13 h => ?_)
      refine T_if_eq 29 dX2_blow_22 (by decide) h (fun _ h => ?_) (fun _ h => ?_)
      · refine T_iconst (0 : Int32) dX2_blow_29 (by decide) ?_
        exact T_ireturn dX2_blow_30 (Nat.le_of_ble_eq_true rfl) (Nat.le_of_ble_eq_true rfl) h
      · refine T_iconst (1 : Int32) dX2_blow_25 (by decide) ?_
        refine T_goto 30 dX2_blow_26 (by decide) ?_
        exact T_ireturn dX2_blow_30 (Nat.le_of_ble_eq_true rfl) (Nat.le_of_ble_eq_true rfl) h
    · refine T_bipush (-2 : Int32) dX2_blow_10 (by decide) ?_
      exact T_ireturn dX2_blow_12 (Nat.le_of_ble_eq_true rfl) (Nat.le_of_ble_eq_true rfl) h

def D_X2_copy (a0 : Nat) (a1 : Nat) (s0 : Hp) : Option Hp :=
  (isO s0 a0 2).bind fun _ =>
  (getR s0 a0 2 0).bind fun a11 =>
  (getR s0 a1 2 0).bind fun a12 =>
  (D_X1_copy a11 a12 s0).bind fun s13 =>
  (getR s13 a0 2 1).bind fun a14 =>
  (getR s13 a1 2 1).bind fun a15 =>
  (D_X1_copy a14 a15 s13).bind fun s16 =>
  (getR s16 a0 2 2).bind fun a17 =>
  (getR s16 a1 2 2).bind fun a18 =>
  (D_X1_copy a17 a18 s16).bind fun s19 =>
  (getR s19 a0 2 3).bind fun a20 =>
  (getR s19 a1 2 3).bind fun a21 =>
  (D_X1_copy a20 a21 s19).bind fun s22 =>
  (getR s22 a0 2 4).bind fun a23 =>
  (getR s22 a1 2 4).bind fun a24 =>
  (D_X1_copy a23 a24 s22).bind fun s25 =>
  (getR s25 a0 2 5).bind fun a26 =>
  (getR s25 a1 2 5).bind fun a27 =>
  (D_X1_copy a26 a27 s25).bind fun s28 =>
  (getI s28 a1 2 6).bind fun i29 =>
  (putI s28 a0 2 6 i29).bind fun s30 =>
  (getI s30 a1 2 7).bind fun i31 =>
  (putI s30 a0 2 7 i31).bind fun s32 =>
  (getI s32 a1 2 8).bind fun i33 =>
  (putI s32 a0 2 8 i33).bind fun s34 =>
  (getI s34 a1 2 9).bind fun i35 =>
  (putI s34 a0 2 9 i35).bind fun s36 =>
  some s36
set_option maxRecDepth 100000 in
set_option maxHeartbeats 4000000 in
theorem K_X2_copy {l : Launch} {a0 : Nat} {a1 : Nat} {s0 : Hp} : ∀ P, OK jV (D_X2_copy a0 a1 s0) P → sm_Ct l yX2_copy cX2_copy 2 none 2 0 0 [.ref a0, .ref a1] s0 P := by
  intro P h
  unfold D_X2_copy at h
  obtain ⟨_, hb0, h⟩ := h.bind
  refine sm_enter (own := RX2) (lv := [(0, .ref a0), (1, .ref a1)]) (by decide) rfl (Nat.le_of_ble_eq_true rfl) rfl (fun G => ?_)
  refine T_aload_n dX2_copy_0 rfl 0 rfl ?_
  refine T_getR dX2_copy_1 fl_RX2_14 h (fun a11 h => ?_)
  refine T_aload_n dX2_copy_4 rfl 1 rfl ?_
  refine T_getR dX2_copy_5 fl_RX2_14 h (fun a12 h => ?_)
  refine T_callVV (As := [.ref a12]) (rest := []) (b := a11) (ci := 1) dX2_copy_8 mc_X1_copy mi_X1_copy ml_RX2_52 rfl (fun _ hr => chk_of hr) rfl rfl (Nat.le_of_ble_eq_true rfl) ⟨⟨Nat.le_of_ble_eq_true rfl, Nat.le_of_ble_eq_true rfl⟩, ⟨Nat.le_of_ble_eq_true rfl, Nat.le_of_ble_eq_true rfl⟩⟩ K_X1_copy h (fun s13 h => ?_)
  refine T_aload_n dX2_copy_11 rfl 0 rfl ?_
  refine T_getR dX2_copy_12 fl_RX2_20 h (fun a14 h => ?_)
  refine T_aload_n dX2_copy_15 rfl 1 rfl ?_
  refine T_getR dX2_copy_16 fl_RX2_20 h (fun a15 h => ?_)
  refine T_callVV (As := [.ref a15]) (rest := []) (b := a14) (ci := 1) dX2_copy_19 mc_X1_copy mi_X1_copy ml_RX2_52 rfl (fun _ hr => chk_of hr) rfl rfl (Nat.le_of_ble_eq_true rfl) ⟨⟨Nat.le_of_ble_eq_true rfl, Nat.le_of_ble_eq_true rfl⟩, ⟨Nat.le_of_ble_eq_true rfl, Nat.le_of_ble_eq_true rfl⟩⟩ K_X1_copy h (fun s16 h => ?_)
  refine T_aload_n dX2_copy_22 rfl 0 rfl ?_
  refine T_getR dX2_copy_23 fl_RX2_23 h (fun a17 h => ?_)
  refine T_aload_n dX2_copy_26 rfl 1 rfl ?_
  refine T_getR dX2_copy_27 fl_RX2_23 h (fun a18 h => ?_)
  refine T_callVV (As := [.ref a18]) (rest := []) (b := a17) (ci := 1) dX2_copy_30 mc_X1_copy mi_X1_copy ml_RX2_52 rfl (fun _ hr => chk_of hr) rfl rfl (Nat.le_of_ble_eq_true rfl) ⟨⟨Nat.le_of_ble_eq_true rfl, Nat.le_of_ble_eq_true rfl⟩, ⟨Nat.le_of_ble_eq_true rfl, Nat.le_of_ble_eq_true rfl⟩⟩ K_X1_copy h (fun s19 h => ?_)
  refine T_aload_n dX2_copy_33 rfl 0 rfl ?_
  refine T_getR dX2_copy_34 fl_RX2_26 h (fun a20 h => ?_)
  refine T_aload_n dX2_copy_37 rfl 1 rfl ?_
  refine T_getR dX2_copy_38 fl_RX2_26 h (fun a21 h => ?_)
  refine T_callVV (As := [.ref a21]) (rest := []) (b := a20) (ci := 1) dX2_copy_41 mc_X1_copy mi_X1_copy ml_RX2_52 rfl (fun _ hr => chk_of hr) rfl rfl (Nat.le_of_ble_eq_true rfl) ⟨⟨Nat.le_of_ble_eq_true rfl, Nat.le_of_ble_eq_true rfl⟩, ⟨Nat.le_of_ble_eq_true rfl, Nat.le_of_ble_eq_true rfl⟩⟩ K_X1_copy h (fun s22 h => ?_)
  refine T_aload_n dX2_copy_44 rfl 0 rfl ?_
  refine T_getR dX2_copy_45 fl_RX2_29 h (fun a23 h => ?_)
  refine T_aload_n dX2_copy_48 rfl 1 rfl ?_
  refine T_getR dX2_copy_49 fl_RX2_29 h (fun a24 h => ?_)
  refine T_callVV (As := [.ref a24]) (rest := []) (b := a23) (ci := 1) dX2_copy_52 mc_X1_copy mi_X1_copy ml_RX2_52 rfl (fun _ hr => chk_of hr) rfl rfl (Nat.le_of_ble_eq_true rfl) ⟨⟨Nat.le_of_ble_eq_true rfl, Nat.le_of_ble_eq_true rfl⟩, ⟨Nat.le_of_ble_eq_true rfl, Nat.le_of_ble_eq_true rfl⟩⟩ K_X1_copy h (fun s25 h => ?_)
  refine T_aload_n dX2_copy_55 rfl 0 rfl ?_
  refine T_getR dX2_copy_56 fl_RX2_32 h (fun a26 h => ?_)
  refine T_aload_n dX2_copy_59 rfl 1 rfl ?_
  refine T_getR dX2_copy_60 fl_RX2_32 h (fun a27 h => ?_)
  refine T_callVV (As := [.ref a27]) (rest := []) (b := a26) (ci := 1) dX2_copy_63 mc_X1_copy mi_X1_copy ml_RX2_52 rfl (fun _ hr => chk_of hr) rfl rfl (Nat.le_of_ble_eq_true rfl) ⟨⟨Nat.le_of_ble_eq_true rfl, Nat.le_of_ble_eq_true rfl⟩, ⟨Nat.le_of_ble_eq_true rfl, Nat.le_of_ble_eq_true rfl⟩⟩ K_X1_copy h (fun s28 h => ?_)
  refine T_aload_n dX2_copy_66 rfl 0 rfl ?_
  refine T_aload_n dX2_copy_67 rfl 1 rfl ?_
  refine T_getI dX2_copy_68 fl_RX2_35 h (fun i29 h => ?_)
  refine T_putI dX2_copy_71 fl_RX2_35 ft_2_6 h (fun s30 h => ?_)
  refine T_aload_n dX2_copy_74 rfl 0 rfl ?_
  refine T_aload_n dX2_copy_75 rfl 1 rfl ?_
  refine T_getI dX2_copy_76 fl_RX2_39 h (fun i31 h => ?_)
  refine T_putI dX2_copy_79 fl_RX2_39 ft_2_7 h (fun s32 h => ?_)
  refine T_aload_n dX2_copy_82 rfl 0 rfl ?_
  refine T_aload_n dX2_copy_83 rfl 1 rfl ?_
  refine T_getI dX2_copy_84 fl_RX2_42 h (fun i33 h => ?_)
  refine T_putI dX2_copy_87 fl_RX2_42 ft_2_8 h (fun s34 h => ?_)
  refine T_aload_n dX2_copy_90 rfl 0 rfl ?_
  refine T_aload_n dX2_copy_91 rfl 1 rfl ?_
  refine T_getI dX2_copy_92 fl_RX2_45 h (fun i35 h => ?_)
  refine T_putI dX2_copy_95 fl_RX2_45 ft_2_9 h (fun s36 h => ?_)
  exact T_vreturn dX2_copy_98 (Nat.le_of_ble_eq_true rfl) (Nat.le_of_ble_eq_true rfl) h
