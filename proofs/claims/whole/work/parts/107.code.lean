def D_X6_expect (a0 : Nat) (i1 : Int32) (s0 : Hp) : Option Hp :=
  (isO s0 a0 6).bind fun _ =>
  bd (D_X6_accept a0 i1 s0) fun i11 s12 =>
  if i11 = 0 then
  (putZ s12 a0 6 7 (1 : Int32)).bind fun s13 =>
  some s13
  else
  some s12
set_option maxRecDepth 100000 in
set_option maxHeartbeats 4000000 in
theorem K_X6_expect {l : Launch} {a0 : Nat} {i1 : Int32} {s0 : Hp} : ∀ P, OK jV (D_X6_expect a0 i1 s0) P → sm_Ct l yX6_expect cX6_expect 2 none 3 0 0 [.ref a0, .int i1] s0 P := by
  intro P h
  unfold D_X6_expect at h
  obtain ⟨_, hb0, h⟩ := h.bind
  refine sm_enter (own := RX6) (lv := [(0, .ref a0), (1, .int i1)]) (by decide) rfl (Nat.le_of_ble_eq_true rfl) rfl (fun G => ?_)
  refine T_aload_n dX6_expect_0 rfl 0 rfl ?_
  refine T_iload_n dX6_expect_1 rfl 1 rfl ?_
  refine T_callVI (As := [.int i1]) (rest := []) (b := a0) (ci := 6) dX6_expect_2 mc_X6_accept mi_X6_accept ml_RX6_68 rfl (fun _ hr => chk_of hr) rfl rfl (Nat.le_of_ble_eq_true rfl) ⟨⟨Nat.le_of_ble_eq_true rfl, Nat.le_of_ble_eq_true rfl⟩, ⟨Nat.le_of_ble_eq_true rfl, Nat.le_of_ble_eq_true rfl⟩⟩ K_X6_accept h (fun i11 s12 h => ?_)
  refine T_if_ne 13 dX6_expect_5 (by decide) h (fun _ h => ?_) (fun _ h => ?_)
  · exact T_vreturn dX6_expect_13 (Nat.le_of_ble_eq_true rfl) (Nat.le_of_ble_eq_true rfl) h
  · refine T_aload_n dX6_expect_8 rfl 0 rfl ?_
    refine T_iconst (1 : Int32) dX6_expect_9 (by decide) ?_
    refine T_putZ dX6_expect_10 fl_RX6_36 ft_6_7 h (fun s13 h => ?_)
    exact T_vreturn dX6_expect_13 (Nat.le_of_ble_eq_true rfl) (Nat.le_of_ble_eq_true rfl) h

def D_X6_readNumber_b40  (a20 : Nat) (i21 : Int32) (i23 : Int32) (s22 : Hp) : Option (Int32 × Hp) :=
  if i23 = 0 then
  some (i21, s22)
  else
  bd (D_X6_readDigit a20 (9 : Int32) s22) fun i24 s25 =>
  some (((i21 * (10 : Int32)) + i24), s25)
def D_X6_readNumber_b39  (a17 : Nat) (i18 : Int32) (s19 : Hp) : Option (Int32 × Hp) :=
  D_X6_readNumber_b40 a17 i18 (0 : Int32) s19
def D_X6_readNumber (a0 : Nat) (s0 : Hp) : Option (Int32 × Hp) :=
  (isO s0 a0 6).bind fun _ =>
  bd (D_X6_readDigit a0 (9 : Int32) s0) fun i11 s12 =>
  (getR s12 a0 6 0).bind fun a13 =>
  (getI s12 a0 6 6).bind fun i14 =>
  bd (D_X5_sign a13 i14 s12) fun i15 s16 =>
  if i11 = 0 then
  D_X6_readNumber_b39 a0 i11 s16
  else
  if i15 < (48 : Int32) then
  D_X6_readNumber_b39 a0 i11 s16
  else
  if (57 : Int32) < i15 then
  D_X6_readNumber_b39 a0 i11 s16
  else
  D_X6_readNumber_b40 a0 i11 (1 : Int32) s16
set_option maxRecDepth 100000 in
set_option maxHeartbeats 4000000 in
theorem K_X6_readNumber_b40 {l : Launch} {G : smG} {P : Option Value → Hp → Prop}  {a20 : Nat} {i21 : Int32} {i23 : Int32} {s22 : Hp}  (h : OK jI (D_X6_readNumber_b40 a20 i21 i23 s22) P) : T l G RX6 cX6_readNumber 4 (sm_rm 3 0 0) (sm_E (some .int) yX6_readNumber.name) (sm_Qs G P 0 0) 0 0 40 [(0, .ref a20), (1, .int i21)] [.int i23] s22 := by
  unfold D_X6_readNumber_b40 at h
  refine T_istore_n (lv' := [(3, .int i23), (0, .ref a20), (1, .int i21)]) dX6_readNumber_40 rfl (by decide) rfl ?_
  refine T_iload_n dX6_readNumber_41 rfl 0 rfl ?_
  refine T_if_eq 59 dX6_readNumber_42 (by decide) h (fun _ h => ?_) (fun _ h => ?_)
  · refine T_iload_n dX6_readNumber_59 rfl 2 rfl ?_
    exact T_ireturn dX6_readNumber_60 (Nat.le_of_ble_eq_true rfl) (Nat.le_of_ble_eq_true rfl) h
  · refine T_iload_n dX6_readNumber_45 rfl 2 rfl ?_
    refine T_bipush (10 : Int32) dX6_readNumber_46 (by decide) ?_
    refine T_imul dX6_readNumber_48 ?_
    refine T_aload_n dX6_readNumber_49 rfl 1 rfl ?_
    refine T_bipush (9 : Int32) dX6_readNumber_50 (by decide) ?_
    refine T_callVI (As := [.int (9 : Int32)]) (rest := [.int (i21 * (10 : Int32))]) (b := a20) (ci := 6) dX6_readNumber_52 mc_X6_readDigit mi_X6_readDigit ml_RX6_72 rfl (fun _ hr => chk_of hr) rfl rfl (Nat.le_of_ble_eq_true rfl) ⟨⟨Nat.le_of_ble_eq_true rfl, Nat.le_of_ble_eq_true rfl⟩, ⟨Nat.le_of_ble_eq_true rfl, Nat.le_of_ble_eq_true rfl⟩⟩ K_X6_readDigit h (fun i24 s25 h => ?_)
    refine T_iadd dX6_readNumber_55 ?_
    refine T_goto 60 dX6_readNumber_56 (by decide) ?_
    exact T_ireturn dX6_readNumber_60 (Nat.le_of_ble_eq_true rfl) (Nat.le_of_ble_eq_true rfl) h
set_option maxRecDepth 100000 in
set_option maxHeartbeats 4000000 in
theorem K_X6_readNumber_b39 {l : Launch} {G : smG} {P : Option Value → Hp → Prop}  {a17 : Nat} {i18 : Int32} {s19 : Hp}  (h : OK jI (D_X6_readNumber_b39 a17 i18 s19) P) : T l G RX6 cX6_readNumber 4 (sm_rm 3 0 0) (sm_E (some .int) yX6_readNumber.name) (sm_Qs G P 0 0) 0 0 39 [(0, .ref a17), (1, .int i18)] [] s19 := by
  unfold D_X6_readNumber_b39 at h
  refine T_iconst (0 : Int32) dX6_readNumber_39 (by decide) ?_
  exact K_X6_readNumber_b40 h
set_option maxRecDepth 100000 in
set_option maxHeartbeats 4000000 in
theorem K_X6_readNumber {l : Launch} {a0 : Nat} {s0 : Hp} : ∀ P, OK jI (D_X6_readNumber a0 s0) P → sm_Ct l yX6_readNumber cX6_readNumber 4 (some .int) 3 0 0 [.ref a0] s0 P := by
  intro P h
  unfold D_X6_readNumber at h
  obtain ⟨_, hb0, h⟩ := h.bind
  refine sm_enter (own := RX6) (lv := [(0, .ref a0)]) (by decide) rfl (Nat.le_of_ble_eq_true rfl) rfl (fun G => ?_)
  refine T_aload_n dX6_readNumber_0 rfl 0 rfl ?_
  refine T_bipush (9 : Int32) dX6_readNumber_1 (by decide) ?_
  refine T_callVI (As := [.int (9 : Int32)]) (rest := []) (b := a0) (ci := 6) dX6_readNumber_3 mc_X6_readDigit mi_X6_readDigit ml_RX6_72 rfl (fun _ hr => chk_of hr) rfl rfl (Nat.le_of_ble_eq_true rfl) ⟨⟨Nat.le_of_ble_eq_true rfl, Nat.le_of_ble_eq_true rfl⟩, ⟨Nat.le_of_ble_eq_true rfl, Nat.le_of_ble_eq_true rfl⟩⟩ K_X6_readDigit h (fun i11 s12 h => ?_)
  refine T_istore_n (lv' := [(1, .int i11), (0, .ref a0)]) dX6_readNumber_6 rfl (by decide) rfl ?_
  refine T_aload_n dX6_readNumber_7 rfl 1 rfl ?_
  refine T_getR dX6_readNumber_8 fl_RX6_40 h (fun a13 h => ?_)
  refine T_aload_n dX6_readNumber_11 rfl 1 rfl ?_
  refine T_getI dX6_readNumber_12 fl_RX6_33 h (fun i14 h => ?_)
  refine T_callVI (As := [.int i14]) (rest := []) (b := a13) (ci := 5) dX6_readNumber_15 mc_X5_sign mi_X5_sign ml_RX6_57 rfl (fun _ hr => chk_of hr) rfl rfl (Nat.le_of_ble_eq_true rfl) ⟨⟨Nat.le_of_ble_eq_true rfl, Nat.le_of_ble_eq_true rfl⟩, ⟨Nat.le_of_ble_eq_true rfl, Nat.le_of_ble_eq_true rfl⟩⟩ K_X5_sign h (fun i15 s16 h => ?_)
  refine T_istore_n (lv' := [(2, .int i15), (1, .int i11), (0, .ref a0)]) dX6_readNumber_18 rfl (by decide) rfl ?_
  refine T_iload_n dX6_readNumber_19 rfl 1 rfl ?_
  refine T_if_eq 39 dX6_readNumber_20 (by decide) h (fun _ h => ?_) (fun _ h => ?_)
  · refine T_lv (lv' := [(0, .ref a0), (1, .int i11)]) [2, 1] rfl ?_
    exact K_X6_readNumber_b39 h
  · refine T_iload_n dX6_readNumber_23 rfl 0 rfl ?_
    refine T_bipush (48 : Int32) dX6_readNumber_24 (by decide) ?_
    refine T_icmp_lt 39 dX6_readNumber_26 (by decide) h (fun _ h => ?_) (fun _ h => ?_)
    · refine T_lv (lv' := [(0, .ref a0), (1, .int i11)]) [2, 1] rfl ?_
      exact K_X6_readNumber_b39 h
    · refine T_iload_n dX6_readNumber_29 rfl 0 rfl ?_
      refine T_bipush (57 : Int32) dX6_readNumber_30 (by decide) ?_
      refine T_icmp_gt 39 dX6_readNumber_32 (by decide) h (fun _ h => ?_) (fun _ h => ?_)
      · refine T_lv (lv' := [(0, .ref a0), (1, .int i11)]) [2, 1] rfl ?_
        exact K_X6_readNumber_b39 h
      · refine T_iconst (1 : Int32) dX6_readNumber_35 (by decide) ?_
        refine T_goto 40 dX6_readNumber_36 (by decide) ?_
        refine T_lv (lv' := [(0, .ref a0), (1, .int i11)]) [2, 1] rfl ?_
        exact K_X6_readNumber_b40 h

def D_X7_bringBack (a0 : Nat) (i1 : Int32) (a2 : Nat) (s0 : Hp) : Option Hp :=
  (isO s0 a0 7).bind fun _ =>
  bd (D_X7_state a0 i1 s0) fun o11 s12 =>
  mtO o11 (
  some s12
  ) fun a13 =>
  (D_X2_copy a2 a13 s12).bind fun s14 =>
  some s14
set_option maxRecDepth 100000 in
set_option maxHeartbeats 4000000 in
theorem K_X7_bringBack {l : Launch} {a0 : Nat} {i1 : Int32} {a2 : Nat} {s0 : Hp} : ∀ P, OK jV (D_X7_bringBack a0 i1 a2 s0) P → sm_Ct l yX7_bringBack cX7_bringBack 4 none 3 0 0 [.ref a0, .int i1, .ref a2] s0 P := by
  intro P h
  unfold D_X7_bringBack at h
  obtain ⟨_, hb0, h⟩ := h.bind
  refine sm_enter (own := RX7) (lv := [(0, .ref a0), (1, .int i1), (2, .ref a2)]) (by decide) rfl (Nat.le_of_ble_eq_true rfl) rfl (fun G => ?_)
  refine T_aload_n dX7_bringBack_0 rfl 0 rfl ?_
  refine T_iload_n dX7_bringBack_1 rfl 1 rfl ?_
  refine T_callVR (As := [.int i1]) (rest := []) (b := a0) (ci := 7) dX7_bringBack_2 mc_X7_state mi_X7_state ml_RX7_22 rfl (fun _ hr => chk_of hr) rfl rfl (Nat.le_of_ble_eq_true rfl) ⟨⟨Nat.le_of_ble_eq_true rfl, Nat.le_of_ble_eq_true rfl⟩, ⟨Nat.le_of_ble_eq_true rfl, Nat.le_of_ble_eq_true rfl⟩⟩ K_X7_state h (fun o11 s12 h => ?_)
  refine T_mtO h (fun h => ?_) (fun a13 h => ?_)
  · refine T_astore_nN (lv' := [(3, .null), (0, .ref a0), (1, .int i1), (2, .ref a2)]) dX7_bringBack_5 rfl (by decide) rfl ?_
    refine T_aload_nN dX7_bringBack_6 rfl 0 rfl ?_
    refine T_ifnullN 15 dX7_bringBack_7 (by decide) ?_
    exact T_vreturn dX7_bringBack_15 (Nat.le_of_ble_eq_true rfl) (Nat.le_of_ble_eq_true rfl) h
  · refine T_astore_n (lv' := [(3, .ref a13), (0, .ref a0), (1, .int i1), (2, .ref a2)]) dX7_bringBack_5 rfl (by decide) rfl ?_
    refine T_aload_n dX7_bringBack_6 rfl 0 rfl ?_
    refine T_ifnull dX7_bringBack_7 ?_
    refine T_aload_n dX7_bringBack_10 rfl 3 rfl ?_
    refine T_aload_n dX7_bringBack_11 rfl 0 rfl ?_
    refine T_callVV (As := [.ref a13]) (rest := []) (b := a2) (ci := 2) dX7_bringBack_12 mc_X2_copy mi_X2_copy ml_RX7_26 rfl (fun _ hr => chk_of hr) rfl rfl (Nat.le_of_ble_eq_true rfl) ⟨⟨Nat.le_of_ble_eq_true rfl, Nat.le_of_ble_eq_true rfl⟩, ⟨Nat.le_of_ble_eq_true rfl, Nat.le_of_ble_eq_true rfl⟩⟩ K_X2_copy h (fun s14 h => ?_)
    exact T_vreturn dX7_bringBack_15 (Nat.le_of_ble_eq_true rfl) (Nat.le_of_ble_eq_true rfl) h

def D_X7_init_w18 (a14 : Nat) (k46 : Hp → Option Hp) : Nat → Int32 → Hp → Option Hp
  | 0, _, _ => none
  | n17 + 1, i15, s16 =>
  (getR s16 a14 7 0).bind fun a18 =>
  (alen s16 a18).bind fun i19 =>
  if i19 ≤ i15 then
  k46 s16
  else
  (getR s16 a14 7 0).bind fun a20 =>
  nm (newO s16 2 [.null, .null, .null, .null, .null, .null, .int 0, .int 0, .int 0, .int 0]) fun s21 =>
  (D_X2_init s16.1 s21).bind fun s22 =>
  (stR s22 a20 i15 s16.1).bind fun s23 =>
  D_X7_init_w18 a14 k46 n17 (i15 + 1) s23
def D_X7_init (a0 : Nat) (i1 : Int32) (s0 : Hp) : Option Hp :=
  (isO s0 a0 7).bind fun _ =>
  nm (if i1 < (0 : Int32) then (0 : Int32) else i1) fun i11 =>
  (newR s0 i11).bind fun s12 =>
  (putV s12 a0 7 0 (.ref s0.1)).bind fun s13 =>
  D_X7_init_w18 a0 (fun s25 =>
  some s25
  ) 8 (0 : Int32) s13
set_option maxRecDepth 100000 in
set_option maxHeartbeats 4000000 in
theorem K_X7_init_w18 {l : Launch} {G : smG} {P : Option Value → Hp → Prop} {a14 : Nat} {k46 : Hp → Option Hp} (hk46 : ∀ (cs sl : Nat), cs ≤ 105 → sl ≤ 39328 → ∀  (s24 : Hp), OK jV (k46 s24) P → T l G RX7 cX7_init 3 (sm_rm 3 105 39328) (sm_E none yX7_init.name) (sm_Qs G P 105 39328) cs sl 46 [] [] s24) : ∀ (n cs sl : Nat), cs + 13 * n ≤ 105 → sl + 4816 * n ≤ 39328 → ∀ (i15 : Int32) (s16 : Hp), OK jV (D_X7_init_w18 a14 k46 n i15 s16) P → T l G RX7 cX7_init 3 (sm_rm 3 105 39328) (sm_E none yX7_init.name) (sm_Qs G P 105 39328) cs sl 18 [(0, .ref a14), (2, .int i15)] [] s16 := by
  intro n
  induction n with
  | zero => intro cs sl hc hs i15 s16 h; obtain ⟨_, h0, _⟩ := h; exact absurd h0 (by simp [D_X7_init_w18])
  | succ n17 ih =>
    intro cs sl hc hs i15 s16 h
    unfold D_X7_init_w18 at h
    refine T_iload_n dX7_init_18 rfl 1 rfl ?_
    refine T_aload_n dX7_init_19 rfl 0 rfl ?_
    refine T_getR dX7_init_20 fl_RX7_15 h (fun a18 h => ?_)
    refine T_alen dX7_init_23 h (fun i19 h => ?_)
    refine T_icmp_ge 46 dX7_init_24 (by decide) h (fun _ h => ?_) (fun _ h => ?_)
    · refine T_lv (lv' := []) [] rfl ?_
      exact hk46 cs sl (by omega) (by omega) s16 h
    · refine T_aload_n dX7_init_27 rfl 0 rfl ?_
      refine T_getR dX7_init_28 fl_RX7_15 h (fun a20 h => ?_)
      refine T_iload_n dX7_init_31 rfl 1 rfl ?_
      refine T_newO (C := RX2) (ci := 2) (fs := [.null, .null, .null, .null, .null, .null, .int 0, .int 0, .int 0, .int 0]) dX7_init_32 wd_6_13 wd_1_14 wd_1_15 ⟨TX2, tyX2, rfl, inlX2, tyX2_ok, by decide +kernel⟩ (by show _ ≤ 105; omega) (by show _ ≤ 39328; omega) ?_
      refine T_nh h (fun s21 h => ?_)
      refine T_dup dX7_init_35 rfl ?_
      refine T_callIV (As := []) (rest := [.ref s16.1, .int i15, .ref a20]) (b := s16.1) dX7_init_36 mc_X2_init mi_X2_init ml_RX7_21 rfl rfl (Nat.le_of_ble_eq_true rfl) ⟨⟨Nat.le_of_ble_eq_true rfl, Nat.le_of_ble_eq_true rfl⟩, ⟨(by show _ ≤ 105; omega), (by show _ ≤ 39328; omega)⟩⟩ K_X2_init h (fun s22 h => ?_)
      refine T_aastore dX7_init_39 h (fun s23 h => ?_)
      refine T_iinc (i15 + 1) (lv' := [(2, .int (i15 + 1)), (0, .ref a14)]) dX7_init_40 (j := 1) rfl rfl (by decide) rfl ?_
      refine T_goto 18 dX7_init_43 (by decide) ?_
      refine T_lv (lv' := [(0, .ref a14), (2, .int (i15 + 1))]) [1, 0] rfl ?_
      exact ih ((cs + 1) + 12) ((sl + 10) + 4806) (by omega) (by omega) (i15 + 1) s23 h
set_option maxRecDepth 100000 in
set_option maxHeartbeats 4000000 in
theorem K_X7_init {l : Launch} {a0 : Nat} {i1 : Int32} {s0 : Hp} : ∀ P, OK jV (D_X7_init a0 i1 s0) P → sm_Ct l yX7_init cX7_init 3 none 3 105 39328 [.ref a0, .int i1] s0 P := by
  intro P h
  unfold D_X7_init at h
  obtain ⟨_, hb0, h⟩ := h.bind
  refine sm_enter (own := RX7) (lv := [(0, .ref a0), (1, .int i1)]) (by decide) rfl (Nat.le_of_ble_eq_true rfl) rfl (fun G => ?_)
  refine T_aload_n dX7_init_0 rfl 0 rfl ?_
  refine T_objInit dX7_init_1 ml_RX7_1 wd_1_11 wd_1_12 ⟨Nat.le_of_ble_eq_true rfl, Nat.le_of_ble_eq_true rfl⟩ ?_
  refine T_aload_n dX7_init_4 rfl 0 rfl ?_
  refine T_iload_n dX7_init_5 rfl 1 rfl ?_
  refine T_iconst (0 : Int32) dX7_init_6 (by decide) ?_
  refine T_mmax dX7_init_7 ml_RX7_7 wd_3_16 wd_3_17 wd_3_18 ⟨Nat.le_of_ble_eq_true rfl, Nat.le_of_ble_eq_true rfl, Nat.le_of_ble_eq_true rfl, Nat.le_of_ble_eq_true rfl⟩ ?_
  refine T_nm h (fun i11 h => ?_)
  refine T_newR dX7_init_10 wd_6_13 (Nat.le_of_ble_eq_true rfl) (Nat.le_of_ble_eq_true rfl) h (fun s12 h => ?_)
  refine T_putF (rt := none) rfl dX7_init_13 fl_RX7_15 ft_7_0 rfl rfl rfl h (fun s13 h => ?_)
  refine T_iconst (0 : Int32) dX7_init_16 (by decide) ?_
  refine T_istore_n (lv' := [(2, .int (0 : Int32)), (0, .ref a0), (1, .int i1)]) dX7_init_17 rfl (by decide) rfl ?_
  refine T_lv (lv' := [(0, .ref a0), (2, .int (0 : Int32))]) [1, 0] rfl ?_
  refine K_X7_init_w18 ?_  8 _ _ (Nat.le_of_ble_eq_true rfl) (Nat.le_of_ble_eq_true rfl) (0 : Int32) s13 h
  intro cs sl hc hs s25 h
  exact T_vreturn dX7_init_46 (by show _ ≤ _; omega) (by show _ ≤ _; omega) h

def D_X7_keep (a0 : Nat) (i1 : Int32) (a2 : Nat) (s0 : Hp) : Option Hp :=
  (isO s0 a0 7).bind fun _ =>
  bd (D_X7_state a0 i1 s0) fun o11 s12 =>
  mtO o11 (
  some s12
  ) fun a13 =>
  (D_X2_copy a13 a2 s12).bind fun s14 =>
  some s14
set_option maxRecDepth 100000 in
set_option maxHeartbeats 4000000 in
theorem K_X7_keep {l : Launch} {a0 : Nat} {i1 : Int32} {a2 : Nat} {s0 : Hp} : ∀ P, OK jV (D_X7_keep a0 i1 a2 s0) P → sm_Ct l yX7_keep cX7_keep 4 none 3 0 0 [.ref a0, .int i1, .ref a2] s0 P := by
  intro P h
  unfold D_X7_keep at h
  obtain ⟨_, hb0, h⟩ := h.bind
  refine sm_enter (own := RX7) (lv := [(0, .ref a0), (1, .int i1), (2, .ref a2)]) (by decide) rfl (Nat.le_of_ble_eq_true rfl) rfl (fun G => ?_)
  refine T_aload_n dX7_keep_0 rfl 0 rfl ?_
  refine T_iload_n dX7_keep_1 rfl 1 rfl ?_
  refine T_callVR (As := [.int i1]) (rest := []) (b := a0) (ci := 7) dX7_keep_2 mc_X7_state mi_X7_state ml_RX7_22 rfl (fun _ hr => chk_of hr) rfl rfl (Nat.le_of_ble_eq_true rfl) ⟨⟨Nat.le_of_ble_eq_true rfl, Nat.le_of_ble_eq_true rfl⟩, ⟨Nat.le_of_ble_eq_true rfl, Nat.le_of_ble_eq_true rfl⟩⟩ K_X7_state h (fun o11 s12 h => ?_)
  refine T_mtO h (fun h => ?_) (fun a13 h => ?_)
  · refine T_astore_nN (lv' := [(3, .null), (0, .ref a0), (1, .int i1), (2, .ref a2)]) dX7_keep_5 rfl (by decide) rfl ?_
    refine T_aload_nN dX7_keep_6 rfl 0 rfl ?_
    refine T_ifnullN 15 dX7_keep_7 (by decide) ?_
    exact T_vreturn dX7_keep_15 (Nat.le_of_ble_eq_true rfl) (Nat.le_of_ble_eq_true rfl) h
  · refine T_astore_n (lv' := [(3, .ref a13), (0, .ref a0), (1, .int i1), (2, .ref a2)]) dX7_keep_5 rfl (by decide) rfl ?_
    refine T_aload_n dX7_keep_6 rfl 0 rfl ?_
    refine T_ifnull dX7_keep_7 ?_
    refine T_aload_n dX7_keep_10 rfl 0 rfl ?_
    refine T_aload_n dX7_keep_11 rfl 3 rfl ?_
    refine T_callVV (As := [.ref a2]) (rest := []) (b := a13) (ci := 2) dX7_keep_12 mc_X2_copy mi_X2_copy ml_RX7_26 rfl (fun _ hr => chk_of hr) rfl rfl (Nat.le_of_ble_eq_true rfl) ⟨⟨Nat.le_of_ble_eq_true rfl, Nat.le_of_ble_eq_true rfl⟩, ⟨Nat.le_of_ble_eq_true rfl, Nat.le_of_ble_eq_true rfl⟩⟩ K_X2_copy h (fun s14 h => ?_)
    exact T_vreturn dX7_keep_15 (Nat.le_of_ble_eq_true rfl) (Nat.le_of_ble_eq_true rfl) h

def D_X9_put (a0 : Nat) (l1 : Int64) (s0 : Hp) : Option (Int32 × Hp) :=
  (isO s0 a0 8).bind fun _ =>
  (getR s0 a0 8 3).bind fun a11 =>
  bd (D_X5_append a11 l1 s0) fun i12 s13 =>
  some (i12, s13)
set_option maxRecDepth 100000 in
set_option maxHeartbeats 4000000 in
theorem K_X9_put {l : Launch} {a0 : Nat} {l1 : Int64} {s0 : Hp} : ∀ P, OK jI (D_X9_put a0 l1 s0) P → sm_Ct l yX9_put cX9_put 3 (some .int) 3 0 0 [.ref a0, .long l1] s0 P := by
  intro P h
  unfold D_X9_put at h
  obtain ⟨_, hb0, h⟩ := h.bind
  refine sm_enter (own := RX9) (lv := [(0, .ref a0), (1, .long l1)]) (by decide) rfl (Nat.le_of_ble_eq_true rfl) rfl (fun G => ?_)
  refine T_aload_n dX9_put_0 rfl 0 rfl ?_
  refine T_getR dX9_put_1 fl_RX9_35 h (fun a11 h => ?_)
  refine T_lload_n dX9_put_4 rfl 1 rfl ?_
  refine T_callVI (As := [.long l1]) (rest := []) (b := a11) (ci := 5) dX9_put_5 mc_X5_append mi_X5_append ml_RX9_215 rfl (fun _ hr => chk_of hr) rfl rfl (Nat.le_of_ble_eq_true rfl) ⟨⟨Nat.le_of_ble_eq_true rfl, Nat.le_of_ble_eq_true rfl⟩, ⟨Nat.le_of_ble_eq_true rfl, Nat.le_of_ble_eq_true rfl⟩⟩ K_X5_append h (fun i12 s13 h => ?_)
  exact T_ireturn dX9_put_8 (Nat.le_of_ble_eq_true rfl) (Nat.le_of_ble_eq_true rfl) h

def D_X0_limitForAll_w78 (a34 : Nat) (i35 : Int32) (i36 : Int32) (k104 : Int32 → Hp → Option (Int32 × Hp)) : Nat → Int32 → Int32 → Hp → Option (Int32 × Hp)
  | 0, _, _, _ => none
  | n40 + 1, i37, i38, s39 =>
  if (4 : Int32) ≤ i38 then
  k104 i37 s39
  else
  (getR s39 a34 0 2).bind fun a41 =>
  bd (D_X4_held a41 i38 s39) fun i42 s43 =>
  nm (if i37 < i42 then i42 else i37) fun i44 =>
  D_X0_limitForAll_w78 a34 i35 i36 k104 n40 i44 (i38 + 1) s43
def D_X0_limitForAll_w46 (a22 : Nat) (i23 : Int32) (k110 : Int32 → Hp → Option (Int32 × Hp)) : Nat → Int32 → Int32 → Hp → Option (Int32 × Hp)
  | 0, _, _, _ => none
  | n27 + 1, i24, i25, s26 =>
  if (11 : Int32) ≤ i25 then
  k110 i24 s26
  else
  (getR s26 a22 0 2).bind fun a28 =>
  bd (D_X4_work a28 i25 s26) fun i29 s30 =>
  (getR s30 a22 0 2).bind fun a31 =>
  bd (D_X4_used a31 s30) fun i32 s33 =>
  if i32 = i23 then
  D_X0_limitForAll_w78 a22 i23 i25 (fun i48 s47 =>
  D_X0_limitForAll_w46 a22 i23 k110 n27 i48 (i25 + 1) s47
  ) FU i24 (0 : Int32) s33
  else
  some ((-6 : Int32), s33)
def D_X0_limitForAll (a0 : Nat) (s0 : Hp) : Option (Int32 × Hp) :=
  (isO s0 a0 0).bind fun _ =>
  (getR s0 a0 0 1).bind fun a11 =>
  (getR s0 a0 0 0).bind fun a12 =>
  (D_X2_copy a11 a12 s0).bind fun s13 =>
  (getR s13 a0 0 1).bind fun a14 =>
  bd (D_X2_changeSetting a14 (0 : Int32) (9999 : Int32) s13) fun i15 s16 =>
  (getR s16 a0 0 2).bind fun a17 =>
  (D_X4_look a17 s16).bind fun s18 =>
  (getR s18 a0 0 1).bind fun a19 =>
  (getI s18 a19 2 6).bind fun i20 =>
  nm (((1 : Int32) <<< (i20 &&& 31)) - (1 : Int32)) fun i21 =>
  D_X0_limitForAll_w46 a0 i21 (fun i52 s51 =>
  some (i52, s51)
  ) FU (1 : Int32) (0 : Int32) s18
set_option maxRecDepth 100000 in
set_option maxHeartbeats 4000000 in
theorem K_X0_limitForAll_w78 {l : Launch} {G : smG} {P : Option Value → Hp → Prop} {a34 : Nat} {i35 : Int32} {i36 : Int32} {k104 : Int32 → Hp → Option (Int32 × Hp)} (hk104 : ∀ (i45 : Int32) (s46 : Hp), OK jI (k104 i45 s46) P → T l G RX0 cX0_limitForAll 5 (sm_rm 4 0 0) (sm_E (some .int) yX0_limitForAll.name) (sm_Qs G P 0 0) 0 0 104 [(0, .ref a34), (1, .int i35), (2, .int i45), (3, .int i36)] [] s46) : ∀ (n : Nat) (i37 : Int32) (i38 : Int32) (s39 : Hp), OK jI (D_X0_limitForAll_w78 a34 i35 i36 k104 n i37 i38 s39) P → T l G RX0 cX0_limitForAll 5 (sm_rm 4 0 0) (sm_E (some .int) yX0_limitForAll.name) (sm_Qs G P 0 0) 0 0 78 [(0, .ref a34), (1, .int i35), (2, .int i37), (3, .int i36), (4, .int i38)] [] s39 := by
  intro n
  induction n with
  | zero => intro i37 i38 s39 h; obtain ⟨_, h0, _⟩ := h; exact absurd h0 (by simp [D_X0_limitForAll_w78])
  | succ n40 ih =>
    intro i37 i38 s39 h
    unfold D_X0_limitForAll_w78 at h
    refine T_iload dX0_limitForAll_78 4 rfl ?_
    refine T_iconst (4 : Int32) dX0_limitForAll_80 (by decide) ?_
    refine T_icmp_ge 104 dX0_limitForAll_81 (by decide) h (fun _ h => ?_) (fun _ h => ?_)
    · refine T_lv (lv' := [(0, .ref a34), (1, .int i35), (2, .int i37), (3, .int i36)]) [0, 1, 2, 3] rfl ?_
      exact hk104 i37 s39 h
    · refine T_iload_n dX0_limitForAll_84 rfl 2 rfl ?_
      refine T_aload_n dX0_limitForAll_85 rfl 0 rfl ?_
      refine T_getR dX0_limitForAll_86 fl_RX0_23 h (fun a41 h => ?_)
      refine T_iload dX0_limitForAll_89 4 rfl ?_
      refine T_callVI (As := [.int i38]) (rest := [.int i37]) (b := a41) (ci := 4) dX0_limitForAll_91 mc_X4_held mi_X4_held ml_RX0_81 rfl (fun _ hr => chk_of hr) rfl rfl (Nat.le_of_ble_eq_true rfl) ⟨⟨Nat.le_of_ble_eq_true rfl, Nat.le_of_ble_eq_true rfl⟩, ⟨Nat.le_of_ble_eq_true rfl, Nat.le_of_ble_eq_true rfl⟩⟩ K_X4_held h (fun i42 s43 h => ?_)
      refine T_mmax dX0_limitForAll_94 ml_RX0_84 wd_3_16 wd_3_17 wd_3_18 ⟨Nat.le_of_ble_eq_true rfl, Nat.le_of_ble_eq_true rfl, Nat.le_of_ble_eq_true rfl, Nat.le_of_ble_eq_true rfl⟩ ?_
      refine T_nm h (fun i44 h => ?_)
      refine T_istore_n (lv' := [(2, .int i44), (0, .ref a34), (1, .int i35), (3, .int i36), (4, .int i38)]) dX0_limitForAll_97 rfl (by decide) rfl ?_
      refine T_iinc (i38 + 1) (lv' := [(4, .int (i38 + 1)), (2, .int i44), (0, .ref a34), (1, .int i35), (3, .int i36)]) dX0_limitForAll_98 (j := 4) rfl rfl (by decide) rfl ?_
      refine T_goto 78 dX0_limitForAll_101 (by decide) ?_
      refine T_lv (lv' := [(0, .ref a34), (1, .int i35), (2, .int i44), (3, .int i36), (4, .int (i38 + 1))]) [2, 3, 1, 4, 0] rfl ?_
      exact ih i44 (i38 + 1) s43 h
set_option maxRecDepth 100000 in
set_option maxHeartbeats 4000000 in
theorem K_X0_limitForAll_w46 {l : Launch} {G : smG} {P : Option Value → Hp → Prop} {a22 : Nat} {i23 : Int32} {k110 : Int32 → Hp → Option (Int32 × Hp)} (hk110 : ∀ (i49 : Int32) (s50 : Hp), OK jI (k110 i49 s50) P → T l G RX0 cX0_limitForAll 5 (sm_rm 4 0 0) (sm_E (some .int) yX0_limitForAll.name) (sm_Qs G P 0 0) 0 0 110 [(2, .int i49)] [] s50) : ∀ (n : Nat) (i24 : Int32) (i25 : Int32) (s26 : Hp), OK jI (D_X0_limitForAll_w46 a22 i23 k110 n i24 i25 s26) P → T l G RX0 cX0_limitForAll 5 (sm_rm 4 0 0) (sm_E (some .int) yX0_limitForAll.name) (sm_Qs G P 0 0) 0 0 46 [(0, .ref a22), (1, .int i23), (2, .int i24), (3, .int i25)] [] s26 := by
  intro n
  induction n with
  | zero => intro i24 i25 s26 h; obtain ⟨_, h0, _⟩ := h; exact absurd h0 (by simp [D_X0_limitForAll_w46])
  | succ n27 ih =>
    intro i24 i25 s26 h
    unfold D_X0_limitForAll_w46 at h
    refine T_iload_n dX0_limitForAll_46 rfl 3 rfl ?_
    refine T_bipush (11 : Int32) dX0_limitForAll_47 (by decide) ?_
    refine T_icmp_ge 110 dX0_limitForAll_49 (by decide) h (fun _ h => ?_) (fun _ h => ?_)
    · refine T_lv (lv' := [(2, .int i24)]) [2] rfl ?_
      exact hk110 i24 s26 h
    · refine T_aload_n dX0_limitForAll_52 rfl 0 rfl ?_
      refine T_getR dX0_limitForAll_53 fl_RX0_23 h (fun a28 h => ?_)
      refine T_iload_n dX0_limitForAll_56 rfl 3 rfl ?_
      refine T_callVI (As := [.int i25]) (rest := []) (b := a28) (ci := 4) dX0_limitForAll_57 mc_X4_work mi_X4_work ml_RX0_74 rfl (fun _ hr => chk_of hr) rfl rfl (Nat.le_of_ble_eq_true rfl) ⟨⟨Nat.le_of_ble_eq_true rfl, Nat.le_of_ble_eq_true rfl⟩, ⟨Nat.le_of_ble_eq_true rfl, Nat.le_of_ble_eq_true rfl⟩⟩ K_X4_work h (fun i29 s30 h => ?_)
      refine T_pop dX0_limitForAll_60 rfl ?_
      refine T_aload_n dX0_limitForAll_61 rfl 0 rfl ?_
      refine T_getR dX0_limitForAll_62 fl_RX0_23 h (fun a31 h => ?_)
      refine T_callVI (As := []) (rest := []) (b := a31) (ci := 4) dX0_limitForAll_65 mc_X4_used mi_X4_used ml_RX0_77 rfl (fun _ hr => chk_of hr) rfl rfl (Nat.le_of_ble_eq_true rfl) ⟨⟨Nat.le_of_ble_eq_true rfl, Nat.le_of_ble_eq_true rfl⟩, ⟨Nat.le_of_ble_eq_true rfl, Nat.le_of_ble_eq_true rfl⟩⟩ K_X4_used h (fun i32 s33 h => ?_)
      refine T_iload_n dX0_limitForAll_68 rfl 1 rfl ?_
      refine T_icmp_eq 75 dX0_limitForAll_69 (by decide) h (fun _ h => ?_) (fun _ h => ?_)
      · refine T_iconst (0 : Int32) dX0_limitForAll_75 (by decide) ?_
        refine T_istore (lv' := [(4, .int (0 : Int32)), (0, .ref a22), (1, .int i23), (2, .int i24), (3, .int i25)]) dX0_limitForAll_76 (by decide) rfl ?_
        refine T_lv (lv' := [(0, .ref a22), (1, .int i23), (2, .int i24), (3, .int i25), (4, .int (0 : Int32))]) [1, 2, 3, 4, 0] rfl ?_
        refine K_X0_limitForAll_w78 ?_ FU i24 (0 : Int32) s33 h
        intro i48 s47 h
        refine T_iinc (i25 + 1) (lv' := [(3, .int (i25 + 1)), (0, .ref a22), (1, .int i23), (2, .int i48)]) dX0_limitForAll_104 (j := 3) rfl rfl (by decide) rfl ?_
        refine T_goto 46 dX0_limitForAll_107 (by decide) ?_
        refine T_lv (lv' := [(0, .ref a22), (1, .int i23), (2, .int i48), (3, .int (i25 + 1))]) [1, 2, 3, 0] rfl ?_
        exact ih i48 (i25 + 1) s47 h
      · refine T_bipush (-6 : Int32) dX0_limitForAll_72 (by decide) ?_
        exact T_ireturn dX0_limitForAll_74 (Nat.le_of_ble_eq_true rfl) (Nat.le_of_ble_eq_true rfl) h
set_option maxRecDepth 100000 in
set_option maxHeartbeats 4000000 in
theorem K_X0_limitForAll {l : Launch} {a0 : Nat} {s0 : Hp} : ∀ P, OK jI (D_X0_limitForAll a0 s0) P → sm_Ct l yX0_limitForAll cX0_limitForAll 5 (some .int) 4 0 0 [.ref a0] s0 P := by
  intro P h
  unfold D_X0_limitForAll at h
  obtain ⟨_, hb0, h⟩ := h.bind
  refine sm_enter (own := RX0) (lv := [(0, .ref a0)]) (by decide) rfl (Nat.le_of_ble_eq_true rfl) rfl (fun G => ?_)
  refine T_aload_n dX0_limitForAll_0 rfl 0 rfl ?_
  refine T_getR dX0_limitForAll_1 fl_RX0_12 h (fun a11 h => ?_)
  refine T_aload_n dX0_limitForAll_4 rfl 0 rfl ?_
  refine T_getR dX0_limitForAll_5 fl_RX0_34 h (fun a12 h => ?_)
  refine T_callVV (As := [.ref a12]) (rest := []) (b := a11) (ci := 2) dX0_limitForAll_8 mc_X2_copy mi_X2_copy ml_RX0_43 rfl (fun _ hr => chk_of hr) rfl rfl (Nat.le_of_ble_eq_true rfl) ⟨⟨Nat.le_of_ble_eq_true rfl, Nat.le_of_ble_eq_true rfl⟩, ⟨Nat.le_of_ble_eq_true rfl, Nat.le_of_ble_eq_true rfl⟩⟩ K_X2_copy h (fun s13 h => ?_)
  refine T_aload_n dX0_limitForAll_11 rfl 0 rfl ?_
  refine T_getR dX0_limitForAll_12 fl_RX0_12 h (fun a14 h => ?_)
  refine T_iconst (0 : Int32) dX0_limitForAll_15 (by decide) ?_
  refine T_sipush (9999 : Int32) dX0_limitForAll_16 (by decide) ?_
  refine T_callVI (As := [.int (0 : Int32), .int (9999 : Int32)]) (rest := []) (b := a14) (ci := 2) dX0_limitForAll_19 mc_X2_changeSetting mi_X2_changeSetting ml_RX0_68 rfl (fun _ hr => chk_of hr) rfl rfl (Nat.le_of_ble_eq_true rfl) ⟨⟨Nat.le_of_ble_eq_true rfl, Nat.le_of_ble_eq_true rfl⟩, ⟨Nat.le_of_ble_eq_true rfl, Nat.le_of_ble_eq_true rfl⟩⟩ K_X2_changeSetting h (fun i15 s16 h => ?_)
  refine T_pop dX0_limitForAll_22 rfl ?_
  refine T_aload_n dX0_limitForAll_23 rfl 0 rfl ?_
  refine T_getR dX0_limitForAll_24 fl_RX0_23 h (fun a17 h => ?_)
  refine T_callVV (As := []) (rest := []) (b := a17) (ci := 4) dX0_limitForAll_27 mc_X4_look mi_X4_look ml_RX0_71 rfl (fun _ hr => chk_of hr) rfl rfl (Nat.le_of_ble_eq_true rfl) ⟨⟨Nat.le_of_ble_eq_true rfl, Nat.le_of_ble_eq_true rfl⟩, ⟨Nat.le_of_ble_eq_true rfl, Nat.le_of_ble_eq_true rfl⟩⟩ K_X4_look h (fun s18 h => ?_)
  refine T_iconst (1 : Int32) dX0_limitForAll_30 (by decide) ?_
  refine T_aload_n dX0_limitForAll_31 rfl 0 rfl ?_
  refine T_getR dX0_limitForAll_32 fl_RX0_12 h (fun a19 h => ?_)
  refine T_getI dX0_limitForAll_35 fl_RX0_40 h (fun i20 h => ?_)
  refine T_ishl dX0_limitForAll_38 ?_
  refine T_iconst (1 : Int32) dX0_limitForAll_39 (by decide) ?_
  refine T_isub dX0_limitForAll_40 ?_
  refine T_nm h (fun i21 h => ?_)
  refine T_istore_n (lv' := [(1, .int i21), (0, .ref a0)]) dX0_limitForAll_41 rfl (by decide) rfl ?_
  refine T_iconst (1 : Int32) dX0_limitForAll_42 (by decide) ?_
  refine T_istore_n (lv' := [(2, .int (1 : Int32)), (1, .int i21), (0, .ref a0)]) dX0_limitForAll_43 rfl (by decide) rfl ?_
  refine T_iconst (0 : Int32) dX0_limitForAll_44 (by decide) ?_
  refine T_istore_n (lv' := [(3, .int (0 : Int32)), (2, .int (1 : Int32)), (1, .int i21), (0, .ref a0)]) dX0_limitForAll_45 rfl (by decide) rfl ?_
  refine T_lv (lv' := [(0, .ref a0), (1, .int i21), (2, .int (1 : Int32)), (3, .int (0 : Int32))]) [3, 2, 1, 0] rfl ?_
  refine K_X0_limitForAll_w46 ?_ FU (1 : Int32) (0 : Int32) s18 h
  intro i52 s51 h
  refine T_iload_n dX0_limitForAll_110 rfl 0 rfl ?_
  exact T_ireturn dX0_limitForAll_111 (Nat.le_of_ble_eq_true rfl) (Nat.le_of_ble_eq_true rfl) h

def D_X10_looks_w4 (a11 : Nat) (i12 : Int32) (i13 : Int32) (k22 : Hp → Option (Int32 × Hp)) : Nat → Int32 → Hp → Option (Int32 × Hp)
  | 0, _, _ => none
  | n16 + 1, i14, s15 =>
  if (4 : Int32) ≤ i14 then
  k22 s15
  else
  (getR s15 a11 9 9).bind fun a17 =>
  (stI s15 a17 i14 (0 : Int32)).bind fun s18 =>
  D_X10_looks_w4 a11 i12 i13 k22 n16 (i14 + 1) s18
def D_X10_looks_w24 (a21 : Nat) (i22 : Int32) (i23 : Int32) (k53 : Hp → Option (Int32 × Hp)) : Nat → Int32 → Hp → Option (Int32 × Hp)
  | 0, _, _ => none
  | n26 + 1, i24, s25 =>
  (getR s25 a21 9 0).bind fun a27 =>
  (ldI s25 a27 (6 : Int32)).bind fun i28 =>
  if i28 ≤ i24 then
  k53 s25
  else
  (getR s25 a21 9 7).bind fun a29 =>
  bd (D_X10_gives a21 i24 i22 s25) fun i30 s31 =>
  (stI s31 a29 i24 i30).bind fun s32 =>
  D_X10_looks_w24 a21 i22 i23 k53 n26 (i24 + 1) s32
def D_X10_looks_b122 (k59 : Int32 → Int32 → Hp → Option (Int32 × Hp)) (a54 : Nat) (i55 : Int32) (i56 : Int32) (i57 : Int32) (i58 : Int32) (i60 : Int32) (i61 : Int32) (a62 : Nat) (s59 : Hp) : Option (Int32 × Hp) :=
  (stI s59 a62 i61 i60).bind fun s63 =>
  (getR s63 a54 9 9).bind fun a64 =>
  (ldI s63 a64 i58).bind fun i65 =>
  (getR s63 a54 9 8).bind fun a66 =>
  (ldI s63 a66 i57).bind fun i67 =>
  (getR s63 a54 9 7).bind fun a68 =>
  (ldI s63 a68 i57).bind fun i69 =>
  (stI s63 a64 i58 (i65 + (i67 * i69))).bind fun s70 =>
  (getR s70 a54 9 8).bind fun a71 =>
  (ldI s70 a71 i57).bind fun i72 =>
  (getR s70 a54 9 7).bind fun a73 =>
  (ldI s70 a73 i57).bind fun i74 =>
  nm (i55 + (i72 * i74)) fun i75 =>
  k59 i75 (i56 + 1) s70
def D_X10_looks_w59 (a36 : Nat) (k172 : Int32 → Hp → Option (Int32 × Hp)) : Nat → Int32 → Int32 → Hp → Option (Int32 × Hp)
  | 0, _, _, _ => none
  | n40 + 1, i37, i38, s39 =>
  (getR s39 a36 9 0).bind fun a41 =>
  (ldI s39 a41 (6 : Int32)).bind fun i42 =>
  if i42 ≤ i38 then
  k172 i37 s39
  else
  (getR s39 a36 9 10).bind fun a43 =>
  (ldI s39 a43 i38).bind fun i44 =>
  bd (D_X10_its a36 i44 (2 : Int32) s39) fun i45 s46 =>
  (getR s46 a36 9 8).bind fun a47 =>
  (getR s46 a36 9 9).bind fun a48 =>
  (ldI s46 a48 i45).bind fun i49 =>
  (getR s46 a36 9 7).bind fun a50 =>
  (ldI s46 a50 i44).bind fun i51 =>
  (getR s46 a36 9 0).bind fun a52 =>
  (ldI s46 a52 (0 : Int32)).bind fun i53 =>
  if i53 < (i49 + i51) then
  D_X10_looks_b122 (D_X10_looks_w59 a36 k172 n40) a36 i37 i38 i44 i45 (0 : Int32) i44 a47 s46
  else
  D_X10_looks_b122 (D_X10_looks_w59 a36 k172 n40) a36 i37 i38 i44 i45 (1 : Int32) i44 a47 s46
def D_X10_looks (a0 : Nat) (i1 : Int32) (s0 : Hp) : Option (Int32 × Hp) :=
  (isO s0 a0 9).bind fun _ =>
  D_X10_looks_w4 a0 i1 (0 : Int32) (fun s20 =>
  D_X10_looks_w24 a0 i1 (0 : Int32) (fun s34 =>
  (D_X10_sorts a0 s34).bind fun s35 =>
  D_X10_looks_w59 a0 (fun i82 s81 =>
  some (i82, s81)
  ) FU (0 : Int32) (0 : Int32) s35
  ) FU (0 : Int32) s20
  ) FU (0 : Int32) s0
set_option maxRecDepth 100000 in
set_option maxHeartbeats 4000000 in
theorem K_X10_looks_w4 {l : Launch} {G : smG} {P : Option Value → Hp → Prop} {a11 : Nat} {i12 : Int32} {i13 : Int32} {k22 : Hp → Option (Int32 × Hp)} (hk22 : ∀  (s19 : Hp), OK jI (k22 s19) P → T l G RX10 cX10_looks 6 (sm_rm 4 0 0) (sm_E (some .int) yX10_looks.name) (sm_Qs G P 0 0) 0 0 22 [(0, .ref a11), (1, .int i12), (2, .int i13)] [] s19) : ∀ (n : Nat) (i14 : Int32) (s15 : Hp), OK jI (D_X10_looks_w4 a11 i12 i13 k22 n i14 s15) P → T l G RX10 cX10_looks 6 (sm_rm 4 0 0) (sm_E (some .int) yX10_looks.name) (sm_Qs G P 0 0) 0 0 4 [(0, .ref a11), (1, .int i12), (2, .int i13), (3, .int i14)] [] s15 := by
  intro n
  induction n with
  | zero => intro i14 s15 h; obtain ⟨_, h0, _⟩ := h; exact absurd h0 (by simp [D_X10_looks_w4])
  | succ n16 ih =>
    intro i14 s15 h
    unfold D_X10_looks_w4 at h
    refine T_iload_n dX10_looks_4 rfl 3 rfl ?_
    refine T_iconst (4 : Int32) dX10_looks_5 (by decide) ?_
    refine T_icmp_ge 22 dX10_looks_6 (by decide) h (fun _ h => ?_) (fun _ h => ?_)
    · refine T_lv (lv' := [(0, .ref a11), (1, .int i12), (2, .int i13)]) [0, 1, 2] rfl ?_
      exact hk22 s15 h
    · refine T_aload_n dX10_looks_9 rfl 0 rfl ?_
      refine T_getR dX10_looks_10 fl_RX10_34 h (fun a17 h => ?_)
      refine T_iload_n dX10_looks_13 rfl 3 rfl ?_
      refine T_iconst (0 : Int32) dX10_looks_14 (by decide) ?_
      refine T_iastore dX10_looks_15 h (fun s18 h => ?_)
      refine T_iinc (i14 + 1) (lv' := [(3, .int (i14 + 1)), (0, .ref a11), (1, .int i12), (2, .int i13)]) dX10_looks_16 (j := 3) rfl rfl (by decide) rfl ?_
      refine T_goto 4 dX10_looks_19 (by decide) ?_
      refine T_lv (lv' := [(0, .ref a11), (1, .int i12), (2, .int i13), (3, .int (i14 + 1))]) [1, 2, 3, 0] rfl ?_
      exact ih (i14 + 1) s18 h
set_option maxRecDepth 100000 in
set_option maxHeartbeats 4000000 in
theorem K_X10_looks_w24 {l : Launch} {G : smG} {P : Option Value → Hp → Prop} {a21 : Nat} {i22 : Int32} {i23 : Int32} {k53 : Hp → Option (Int32 × Hp)} (hk53 : ∀  (s33 : Hp), OK jI (k53 s33) P → T l G RX10 cX10_looks 6 (sm_rm 4 0 0) (sm_E (some .int) yX10_looks.name) (sm_Qs G P 0 0) 0 0 53 [(0, .ref a21), (2, .int i23)] [] s33) : ∀ (n : Nat) (i24 : Int32) (s25 : Hp), OK jI (D_X10_looks_w24 a21 i22 i23 k53 n i24 s25) P → T l G RX10 cX10_looks 6 (sm_rm 4 0 0) (sm_E (some .int) yX10_looks.name) (sm_Qs G P 0 0) 0 0 24 [(0, .ref a21), (1, .int i22), (2, .int i23), (3, .int i24)] [] s25 := by
  intro n
  induction n with
  | zero => intro i24 s25 h; obtain ⟨_, h0, _⟩ := h; exact absurd h0 (by simp [D_X10_looks_w24])
  | succ n26 ih =>
    intro i24 s25 h
    unfold D_X10_looks_w24 at h
    refine T_iload_n dX10_looks_24 rfl 3 rfl ?_
    refine T_aload_n dX10_looks_25 rfl 0 rfl ?_
    refine T_getR dX10_looks_26 fl_RX10_7 h (fun a27 h => ?_)
    refine T_bipush (6 : Int32) dX10_looks_29 (by decide) ?_
    refine T_iaload dX10_looks_31 h (fun i28 h => ?_)
    refine T_icmp_ge 53 dX10_looks_32 (by decide) h (fun _ h => ?_) (fun _ h => ?_)
    · refine T_lv (lv' := [(0, .ref a21), (2, .int i23)]) [0, 2] rfl ?_
      exact hk53 s25 h
    · refine T_aload_n dX10_looks_35 rfl 0 rfl ?_
      refine T_getR dX10_looks_36 fl_RX10_28 h (fun a29 h => ?_)
      refine T_iload_n dX10_looks_39 rfl 3 rfl ?_
      refine T_aload_n dX10_looks_40 rfl 0 rfl ?_
      refine T_iload_n dX10_looks_41 rfl 3 rfl ?_
      refine T_iload_n dX10_looks_42 rfl 1 rfl ?_
      refine T_callVI (As := [.int i24, .int i22]) (rest := [.int i24, .ref a29]) (b := a21) (ci := 9) dX10_looks_43 mc_X10_gives mi_X10_gives ml_RX10_80 rfl (fun _ hr => chk_of hr) rfl rfl (Nat.le_of_ble_eq_true rfl) ⟨⟨Nat.le_of_ble_eq_true rfl, Nat.le_of_ble_eq_true rfl⟩, ⟨Nat.le_of_ble_eq_true rfl, Nat.le_of_ble_eq_true rfl⟩⟩ K_X10_gives h (fun i30 s31 h => ?_)
      refine T_iastore dX10_looks_46 h (fun s32 h => ?_)
      refine T_iinc (i24 + 1) (lv' := [(3, .int (i24 + 1)), (0, .ref a21), (1, .int i22), (2, .int i23)]) dX10_looks_47 (j := 3) rfl rfl (by decide) rfl ?_
      refine T_goto 24 dX10_looks_50 (by decide) ?_
      refine T_lv (lv' := [(0, .ref a21), (1, .int i22), (2, .int i23), (3, .int (i24 + 1))]) [1, 2, 3, 0] rfl ?_
      exact ih (i24 + 1) s32 h
set_option maxRecDepth 100000 in
set_option maxHeartbeats 4000000 in
theorem K_X10_looks_b122 {l : Launch} {G : smG} {P : Option Value → Hp → Prop} {k59 : Int32 → Int32 → Hp → Option (Int32 × Hp)} {a54 : Nat} {i55 : Int32} {i56 : Int32} {i57 : Int32} {i58 : Int32} {i60 : Int32} {i61 : Int32} {a62 : Nat} {s59 : Hp} (hk59 : ∀ (i76 : Int32) (i77 : Int32) (s78 : Hp), OK jI (k59 i76 i77 s78) P → T l G RX10 cX10_looks 6 (sm_rm 4 0 0) (sm_E (some .int) yX10_looks.name) (sm_Qs G P 0 0) 0 0 59 [(0, .ref a54), (2, .int i76), (3, .int i77)] [] s78) (h : OK jI (D_X10_looks_b122 k59 a54 i55 i56 i57 i58 i60 i61 a62 s59) P) : T l G RX10 cX10_looks 6 (sm_rm 4 0 0) (sm_E (some .int) yX10_looks.name) (sm_Qs G P 0 0) 0 0 122 [(0, .ref a54), (2, .int i55), (3, .int i56), (4, .int i57), (5, .int i58)] [.int i60, .int i61, .ref a62] s59 := by
  unfold D_X10_looks_b122 at h
  refine T_iastore dX10_looks_122 h (fun s63 h => ?_)
  refine T_aload_n dX10_looks_123 rfl 0 rfl ?_
  refine T_getR dX10_looks_124 fl_RX10_34 h (fun a64 h => ?_)
  refine T_iload dX10_looks_127 4 rfl ?_
  refine T_dup2 dX10_looks_129 rfl rfl ?_
  refine T_iaload dX10_looks_130 h (fun i65 h => ?_)
  refine T_aload_n dX10_looks_131 rfl 0 rfl ?_
  refine T_getR dX10_looks_132 fl_RX10_31 h (fun a66 h => ?_)
  refine T_iload dX10_looks_135 3 rfl ?_
  refine T_iaload dX10_looks_137 h (fun i67 h => ?_)
  refine T_aload_n dX10_looks_138 rfl 0 rfl ?_
  refine T_getR dX10_looks_139 fl_RX10_28 h (fun a68 h => ?_)
  refine T_iload dX10_looks_142 3 rfl ?_
  refine T_iaload dX10_looks_144 h (fun i69 h => ?_)
  refine T_imul dX10_looks_145 ?_
  refine T_iadd dX10_looks_146 ?_
  refine T_iastore dX10_looks_147 h (fun s70 h => ?_)
  refine T_iload_n dX10_looks_148 rfl 1 rfl ?_
  refine T_aload_n dX10_looks_149 rfl 0 rfl ?_
  refine T_getR dX10_looks_150 fl_RX10_31 h (fun a71 h => ?_)
  refine T_iload dX10_looks_153 3 rfl ?_
  refine T_iaload dX10_looks_155 h (fun i72 h => ?_)
  refine T_aload_n dX10_looks_156 rfl 0 rfl ?_
  refine T_getR dX10_looks_157 fl_RX10_28 h (fun a73 h => ?_)
  refine T_iload dX10_looks_160 3 rfl ?_
  refine T_iaload dX10_looks_162 h (fun i74 h => ?_)
  refine T_imul dX10_looks_163 ?_
  refine T_iadd dX10_looks_164 ?_
  refine T_nm h (fun i75 h => ?_)
  refine T_istore_n (lv' := [(2, .int i75), (0, .ref a54), (3, .int i56), (4, .int i57), (5, .int i58)]) dX10_looks_165 rfl (by decide) rfl ?_
  refine T_iinc (i56 + 1) (lv' := [(3, .int (i56 + 1)), (2, .int i75), (0, .ref a54), (4, .int i57), (5, .int i58)]) dX10_looks_166 (j := 2) rfl rfl (by decide) rfl ?_
  refine T_goto 59 dX10_looks_169 (by decide) ?_
  refine T_lv (lv' := [(0, .ref a54), (2, .int i75), (3, .int (i56 + 1))]) [2, 1, 0] rfl ?_
  exact hk59 i75 (i56 + 1) s70 h
set_option maxRecDepth 100000 in
set_option maxHeartbeats 4000000 in
theorem K_X10_looks_w59 {l : Launch} {G : smG} {P : Option Value → Hp → Prop} {a36 : Nat} {k172 : Int32 → Hp → Option (Int32 × Hp)} (hk172 : ∀ (i79 : Int32) (s80 : Hp), OK jI (k172 i79 s80) P → T l G RX10 cX10_looks 6 (sm_rm 4 0 0) (sm_E (some .int) yX10_looks.name) (sm_Qs G P 0 0) 0 0 172 [(2, .int i79)] [] s80) : ∀ (n : Nat) (i37 : Int32) (i38 : Int32) (s39 : Hp), OK jI (D_X10_looks_w59 a36 k172 n i37 i38 s39) P → T l G RX10 cX10_looks 6 (sm_rm 4 0 0) (sm_E (some .int) yX10_looks.name) (sm_Qs G P 0 0) 0 0 59 [(0, .ref a36), (2, .int i37), (3, .int i38)] [] s39 := by
  intro n
  induction n with
  | zero => intro i37 i38 s39 h; obtain ⟨_, h0, _⟩ := h; exact absurd h0 (by simp [D_X10_looks_w59])
  | succ n40 ih =>
    intro i37 i38 s39 h
    unfold D_X10_looks_w59 at h
    refine T_iload_n dX10_looks_59 rfl 2 rfl ?_
    refine T_aload_n dX10_looks_60 rfl 0 rfl ?_
    refine T_getR dX10_looks_61 fl_RX10_7 h (fun a41 h => ?_)
    refine T_bipush (6 : Int32) dX10_looks_64 (by decide) ?_
    refine T_iaload dX10_looks_66 h (fun i42 h => ?_)
    refine T_icmp_ge 172 dX10_looks_67 (by decide) h (fun _ h => ?_) (fun _ h => ?_)
    · refine T_lv (lv' := [(2, .int i37)]) [1] rfl ?_
      exact hk172 i37 s39 h
    · refine T_aload_n dX10_looks_70 rfl 0 rfl ?_
      refine T_getR dX10_looks_71 fl_RX10_37 h (fun a43 h => ?_)
      refine T_iload_n dX10_looks_74 rfl 2 rfl ?_
      refine T_iaload dX10_looks_75 h (fun i44 h => ?_)
      refine T_istore (lv' := [(4, .int i44), (0, .ref a36), (2, .int i37), (3, .int i38)]) dX10_looks_76 (by decide) rfl ?_
      refine T_aload_n dX10_looks_78 rfl 1 rfl ?_
      refine T_iload dX10_looks_79 0 rfl ?_
      refine T_iconst (2 : Int32) dX10_looks_81 (by decide) ?_
      refine T_callVI (As := [.int i44, .int (2 : Int32)]) (rest := []) (b := a36) (ci := 9) dX10_looks_82 mc_X10_its mi_X10_its ml_RX10_57 rfl (fun _ hr => chk_of hr) rfl rfl (Nat.le_of_ble_eq_true rfl) ⟨⟨Nat.le_of_ble_eq_true rfl, Nat.le_of_ble_eq_true rfl⟩, ⟨Nat.le_of_ble_eq_true rfl, Nat.le_of_ble_eq_true rfl⟩⟩ K_X10_its h (fun i45 s46 h => ?_)
      refine T_istore (lv' := [(5, .int i45), (4, .int i44), (0, .ref a36), (2, .int i37), (3, .int i38)]) dX10_looks_85 (by decide) rfl ?_
      refine T_aload_n dX10_looks_87 rfl 2 rfl ?_
      refine T_getR dX10_looks_88 fl_RX10_31 h (fun a47 h => ?_)
      refine T_iload dX10_looks_91 1 rfl ?_
      refine T_aload_n dX10_looks_93 rfl 2 rfl ?_
      refine T_getR dX10_looks_94 fl_RX10_34 h (fun a48 h => ?_)
      refine T_iload dX10_looks_97 0 rfl ?_
      refine T_iaload dX10_looks_99 h (fun i49 h => ?_)
      refine T_aload_n dX10_looks_100 rfl 2 rfl ?_
      refine T_getR dX10_looks_101 fl_RX10_28 h (fun a50 h => ?_)
      refine T_iload dX10_looks_104 1 rfl ?_
      refine T_iaload dX10_looks_106 h (fun i51 h => ?_)
      refine T_iadd dX10_looks_107 ?_
      refine T_aload_n dX10_looks_108 rfl 2 rfl ?_
      refine T_getR dX10_looks_109 fl_RX10_7 h (fun a52 h => ?_)
      refine T_iconst (0 : Int32) dX10_looks_112 (by decide) ?_
      refine T_iaload dX10_looks_113 h (fun i53 h => ?_)
      refine T_icmp_gt 121 dX10_looks_114 (by decide) h (fun _ h => ?_) (fun _ h => ?_)
      · refine T_iconst (0 : Int32) dX10_looks_121 (by decide) ?_
        refine T_lv (lv' := [(0, .ref a36), (2, .int i37), (3, .int i38), (4, .int i44), (5, .int i45)]) [2, 3, 4, 1, 0] rfl ?_
        exact K_X10_looks_b122 ih h
      · refine T_iconst (1 : Int32) dX10_looks_117 (by decide) ?_
        refine T_goto 122 dX10_looks_118 (by decide) ?_
        refine T_lv (lv' := [(0, .ref a36), (2, .int i37), (3, .int i38), (4, .int i44), (5, .int i45)]) [2, 3, 4, 1, 0] rfl ?_
        exact K_X10_looks_b122 ih h
set_option maxRecDepth 100000 in
set_option maxHeartbeats 4000000 in
theorem K_X10_looks {l : Launch} {a0 : Nat} {i1 : Int32} {s0 : Hp} : ∀ P, OK jI (D_X10_looks a0 i1 s0) P → sm_Ct l yX10_looks cX10_looks 6 (some .int) 4 0 0 [.ref a0, .int i1] s0 P := by
  intro P h
  unfold D_X10_looks at h
  obtain ⟨_, hb0, h⟩ := h.bind
  refine sm_enter (own := RX10) (lv := [(0, .ref a0), (1, .int i1)]) (by decide) rfl (Nat.le_of_ble_eq_true rfl) rfl (fun G => ?_)
  refine T_iconst (0 : Int32) dX10_looks_0 (by decide) ?_
  refine T_istore_n (lv' := [(2, .int (0 : Int32)), (0, .ref a0), (1, .int i1)]) dX10_looks_1 rfl (by decide) rfl ?_
  refine T_iconst (0 : Int32) dX10_looks_2 (by decide) ?_
  refine T_istore_n (lv' := [(3, .int (0 : Int32)), (2, .int (0 : Int32)), (0, .ref a0), (1, .int i1)]) dX10_looks_3 rfl (by decide) rfl ?_
  refine T_lv (lv' := [(0, .ref a0), (1, .int i1), (2, .int (0 : Int32)), (3, .int (0 : Int32))]) [2, 3, 1, 0] rfl ?_
  refine K_X10_looks_w4 ?_ FU (0 : Int32) s0 h
  intro s20 h
  refine T_iconst (0 : Int32) dX10_looks_22 (by decide) ?_
  refine T_istore_n (lv' := [(3, .int (0 : Int32)), (0, .ref a0), (1, .int i1), (2, .int (0 : Int32))]) dX10_looks_23 rfl (by decide) rfl ?_
  refine T_lv (lv' := [(0, .ref a0), (1, .int i1), (2, .int (0 : Int32)), (3, .int (0 : Int32))]) [1, 2, 3, 0] rfl ?_
  refine K_X10_looks_w24 ?_ FU (0 : Int32) s20 h
  intro s34 h
  refine T_aload_n dX10_looks_53 rfl 0 rfl ?_
  refine T_callVV (As := []) (rest := []) (b := a0) (ci := 9) dX10_looks_54 mc_X10_sorts mi_X10_sorts ml_RX10_83 rfl (fun _ hr => chk_of hr) rfl rfl (Nat.le_of_ble_eq_true rfl) ⟨⟨Nat.le_of_ble_eq_true rfl, Nat.le_of_ble_eq_true rfl⟩, ⟨Nat.le_of_ble_eq_true rfl, Nat.le_of_ble_eq_true rfl⟩⟩ K_X10_sorts h (fun s35 h => ?_)
  refine T_iconst (0 : Int32) dX10_looks_57 (by decide) ?_
  refine T_istore_n (lv' := [(3, .int (0 : Int32)), (0, .ref a0), (2, .int (0 : Int32))]) dX10_looks_58 rfl (by decide) rfl ?_
  refine T_lv (lv' := [(0, .ref a0), (2, .int (0 : Int32)), (3, .int (0 : Int32))]) [1, 2, 0] rfl ?_
  refine K_X10_looks_w59 ?_ FU (0 : Int32) (0 : Int32) s35 h
  intro i82 s81 h
  refine T_iload_n dX10_looks_172 rfl 0 rfl ?_
  exact T_ireturn dX10_looks_173 (Nat.le_of_ble_eq_true rfl) (Nat.le_of_ble_eq_true rfl) h

def D_X3_init (a0 : Nat) (s0 : Hp) : Option Hp :=
  (isO s0 a0 3).bind fun _ =>
  nm (newO s0 7 [.null]) fun s11 =>
  (D_X7_init s0.1 (7 : Int32) s11).bind fun s12 =>
  (putV s12 a0 3 0 (.ref s0.1)).bind fun s13 =>
  (putI s13 a0 3 1 (0 : Int32)).bind fun s14 =>
  (putI s14 a0 3 2 (0 : Int32)).bind fun s15 =>
  some s15
set_option maxRecDepth 100000 in
set_option maxHeartbeats 4000000 in
theorem K_X3_init {l : Launch} {a0 : Nat} {s0 : Hp} : ∀ P, OK jV (D_X3_init a0 s0) P → sm_Ct l yX3_init cX3_init 1 none 4 106 39329 [.ref a0] s0 P := by
  intro P h
  unfold D_X3_init at h
  obtain ⟨_, hb0, h⟩ := h.bind
  refine sm_enter (own := RX3) (lv := [(0, .ref a0)]) (by decide) rfl (Nat.le_of_ble_eq_true rfl) rfl (fun G => ?_)
  refine T_aload_n dX3_init_0 rfl 0 rfl ?_
  refine T_objInit dX3_init_1 ml_RX3_3 wd_1_11 wd_1_12 ⟨Nat.le_of_ble_eq_true rfl, Nat.le_of_ble_eq_true rfl⟩ ?_
  refine T_aload_n dX3_init_4 rfl 0 rfl ?_
  refine T_newO (C := RX7) (ci := 7) (fs := [.null]) dX3_init_5 wd_6_4 wd_2_14 wd_2_15 ⟨TX7, tyX7, rfl, inlX7, tyX7_ok, by decide +kernel⟩ (Nat.le_of_ble_eq_true rfl) (Nat.le_of_ble_eq_true rfl) ?_
  refine T_nh h (fun s11 h => ?_)
  refine T_dup dX3_init_8 rfl ?_
  refine T_bipush (7 : Int32) dX3_init_9 (by decide) ?_
  refine T_callIV (As := [.int (7 : Int32)]) (rest := [.ref s0.1, .ref a0]) (b := s0.1) dX3_init_11 mc_X7_init mi_X7_init ml_RX3_13 rfl rfl (Nat.le_of_ble_eq_true rfl) ⟨⟨Nat.le_of_ble_eq_true rfl, Nat.le_of_ble_eq_true rfl⟩, ⟨Nat.le_of_ble_eq_true rfl, Nat.le_of_ble_eq_true rfl⟩⟩ K_X7_init h (fun s12 h => ?_)
  refine T_putF (rt := none) rfl dX3_init_14 fl_RX3_16 ft_3_0 rfl rfl rfl h (fun s13 h => ?_)
  refine T_aload_n dX3_init_17 rfl 0 rfl ?_
  refine T_iconst (0 : Int32) dX3_init_18 (by decide) ?_
  refine T_putI dX3_init_19 fl_RX3_20 ft_3_1 h (fun s14 h => ?_)
  refine T_aload_n dX3_init_22 rfl 0 rfl ?_
  refine T_iconst (0 : Int32) dX3_init_23 (by decide) ?_
  refine T_putI dX3_init_24 fl_RX3_24 ft_3_2 h (fun s15 h => ?_)
  exact T_vreturn dX3_init_27 (Nat.le_of_ble_eq_true rfl) (Nat.le_of_ble_eq_true rfl) h

def D_X3_note (a0 : Nat) (a1 : Nat) (s0 : Hp) : Option Hp :=
  (isO s0 a0 3).bind fun _ =>
  (getR s0 a0 3 0).bind fun a11 =>
  (getI s0 a0 3 1).bind fun i12 =>
  (D_X7_keep a11 i12 a1 s0).bind fun s13 =>
  some s13
set_option maxRecDepth 100000 in
set_option maxHeartbeats 4000000 in
theorem K_X3_note {l : Launch} {a0 : Nat} {a1 : Nat} {s0 : Hp} : ∀ P, OK jV (D_X3_note a0 a1 s0) P → sm_Ct l yX3_note cX3_note 2 none 4 0 0 [.ref a0, .ref a1] s0 P := by
  intro P h
  unfold D_X3_note at h
  obtain ⟨_, hb0, h⟩ := h.bind
  refine sm_enter (own := RX3) (lv := [(0, .ref a0), (1, .ref a1)]) (by decide) rfl (Nat.le_of_ble_eq_true rfl) rfl (fun G => ?_)
  refine T_aload_n dX3_note_0 rfl 0 rfl ?_
  refine T_getR dX3_note_1 fl_RX3_16 h (fun a11 h => ?_)
  refine T_aload_n dX3_note_4 rfl 0 rfl ?_
  refine T_getI dX3_note_5 fl_RX3_20 h (fun i12 h => ?_)
  refine T_aload_n dX3_note_8 rfl 1 rfl ?_
  refine T_callVV (As := [.int i12, .ref a1]) (rest := []) (b := a11) (ci := 7) dX3_note_9 mc_X7_keep mi_X7_keep ml_RX3_27 rfl (fun _ hr => chk_of hr) rfl rfl (Nat.le_of_ble_eq_true rfl) ⟨⟨Nat.le_of_ble_eq_true rfl, Nat.le_of_ble_eq_true rfl⟩, ⟨Nat.le_of_ble_eq_true rfl, Nat.le_of_ble_eq_true rfl⟩⟩ K_X7_keep h (fun s13 h => ?_)
  exact T_vreturn dX3_note_12 (Nat.le_of_ble_eq_true rfl) (Nat.le_of_ble_eq_true rfl) h

def D_X3_stepBack (a0 : Nat) (a1 : Nat) (s0 : Hp) : Option (Int32 × Hp) :=
  (isO s0 a0 3).bind fun _ =>
  (getI s0 a0 3 2).bind fun i11 =>
  if i11 = 0 then
  retZ (0 : Int32) ((0 : Int32), s0)
  else
  (getI s0 a0 3 1).bind fun i12 =>
  (remI ((i12 + (7 : Int32)) - (1 : Int32)) (7 : Int32)).bind fun i13 =>
  (putI s0 a0 3 1 i13).bind fun s14 =>
  (getI s14 a0 3 2).bind fun i15 =>
  (putI s14 a0 3 2 (i15 - (1 : Int32))).bind fun s16 =>
  (getR s16 a0 3 0).bind fun a17 =>
  (getI s16 a0 3 1).bind fun i18 =>
  (D_X7_bringBack a17 i18 a1 s16).bind fun s19 =>
  retZ (1 : Int32) ((1 : Int32), s19)
set_option maxRecDepth 100000 in
set_option maxHeartbeats 4000000 in
theorem K_X3_stepBack {l : Launch} {a0 : Nat} {a1 : Nat} {s0 : Hp} : ∀ P, OK jI (D_X3_stepBack a0 a1 s0) P → sm_Ct l yX3_stepBack cX3_stepBack 2 (some .boolean) 4 0 0 [.ref a0, .ref a1] s0 P := by
  intro P h
  unfold D_X3_stepBack at h
  obtain ⟨_, hb0, h⟩ := h.bind
  refine sm_enter (own := RX3) (lv := [(0, .ref a0), (1, .ref a1)]) (by decide) rfl (Nat.le_of_ble_eq_true rfl) rfl (fun G => ?_)
  refine T_aload_n dX3_stepBack_0 rfl 0 rfl ?_
  refine T_getI dX3_stepBack_1 fl_RX3_24 h (fun i11 h => ?_)
  refine T_if_ne 9 dX3_stepBack_4 (by decide) h (fun _ h => ?_) (fun _ h => ?_)
  · refine T_aload_n dX3_stepBack_9 rfl 0 rfl ?_
    refine T_aload_n dX3_stepBack_10 rfl 0 rfl ?_
    refine T_getI dX3_stepBack_11 fl_RX3_20 h (fun i12 h => ?_)
    refine T_bipush (7 : Int32) dX3_stepBack_14 (by decide) ?_
    refine T_iadd dX3_stepBack_16 ?_
    refine T_iconst (1 : Int32) dX3_stepBack_17 (by decide) ?_
    refine T_isub dX3_stepBack_18 ?_
    refine T_bipush (7 : Int32) dX3_stepBack_19 (by decide) ?_
    refine T_irem dX3_stepBack_21 h (fun i13 h => ?_)
    refine T_putI dX3_stepBack_22 fl_RX3_20 ft_3_1 h (fun s14 h => ?_)
    refine T_aload_n dX3_stepBack_25 rfl 0 rfl ?_
    refine T_dup dX3_stepBack_26 rfl ?_
    refine T_getI dX3_stepBack_27 fl_RX3_24 h (fun i15 h => ?_)
    refine T_iconst (1 : Int32) dX3_stepBack_30 (by decide) ?_
    refine T_isub dX3_stepBack_31 ?_
    refine T_putI dX3_stepBack_32 fl_RX3_24 ft_3_2 h (fun s16 h => ?_)
    refine T_aload_n dX3_stepBack_35 rfl 0 rfl ?_
    refine T_getR dX3_stepBack_36 fl_RX3_16 h (fun a17 h => ?_)
    refine T_aload_n dX3_stepBack_39 rfl 0 rfl ?_
    refine T_getI dX3_stepBack_40 fl_RX3_20 h (fun i18 h => ?_)
    refine T_aload_n dX3_stepBack_43 rfl 1 rfl ?_
    refine T_callVV (As := [.int i18, .ref a1]) (rest := []) (b := a17) (ci := 7) dX3_stepBack_44 mc_X7_bringBack mi_X7_bringBack ml_RX3_37 rfl (fun _ hr => chk_of hr) rfl rfl (Nat.le_of_ble_eq_true rfl) ⟨⟨Nat.le_of_ble_eq_true rfl, Nat.le_of_ble_eq_true rfl⟩, ⟨Nat.le_of_ble_eq_true rfl, Nat.le_of_ble_eq_true rfl⟩⟩ K_X7_bringBack h (fun s19 h => ?_)
    refine T_iconst (1 : Int32) dX3_stepBack_47 (by decide) ?_
    exact T_zreturn dX3_stepBack_48 (Nat.le_of_ble_eq_true rfl) (Nat.le_of_ble_eq_true rfl) h
  · refine T_iconst (0 : Int32) dX3_stepBack_7 (by decide) ?_
    exact T_zreturn dX3_stepBack_8 (Nat.le_of_ble_eq_true rfl) (Nat.le_of_ble_eq_true rfl) h

def D_X4_day_w4 (a11 : Nat) (k24 : Int32 → Hp → Option (Int32 × Hp)) : Nat → Int32 → Int32 → Hp → Option (Int32 × Hp)
  | 0, _, _, _ => none
  | n15 + 1, i12, i13, s14 =>
  if (11 : Int32) ≤ i13 then
  k24 i12 s14
  else
  bd (D_X4_work a11 i13 s14) fun i16 s17 =>
  nm (i12 + i16) fun i18 =>
  D_X4_day_w4 a11 k24 n15 i18 (i13 + 1) s17
def D_X4_day (a0 : Nat) (s0 : Hp) : Option (Int32 × Hp) :=
  (isO s0 a0 4).bind fun _ =>
  D_X4_day_w4 a0 (fun i22 s21 =>
  some (i22, s21)
  ) FU (0 : Int32) (0 : Int32) s0
set_option maxRecDepth 100000 in
set_option maxHeartbeats 4000000 in
theorem K_X4_day_w4 {l : Launch} {G : smG} {P : Option Value → Hp → Prop} {a11 : Nat} {k24 : Int32 → Hp → Option (Int32 × Hp)} (hk24 : ∀ (i19 : Int32) (s20 : Hp), OK jI (k24 i19 s20) P → T l G RX4 cX4_day 3 (sm_rm 4 0 0) (sm_E (some .int) yX4_day.name) (sm_Qs G P 0 0) 0 0 24 [(1, .int i19)] [] s20) : ∀ (n : Nat) (i12 : Int32) (i13 : Int32) (s14 : Hp), OK jI (D_X4_day_w4 a11 k24 n i12 i13 s14) P → T l G RX4 cX4_day 3 (sm_rm 4 0 0) (sm_E (some .int) yX4_day.name) (sm_Qs G P 0 0) 0 0 4 [(0, .ref a11), (1, .int i12), (2, .int i13)] [] s14 := by
  intro n
  induction n with
  | zero => intro i12 i13 s14 h; obtain ⟨_, h0, _⟩ := h; exact absurd h0 (by simp [D_X4_day_w4])
  | succ n15 ih =>
    intro i12 i13 s14 h
    unfold D_X4_day_w4 at h
    refine T_iload_n dX4_day_4 rfl 2 rfl ?_
    refine T_bipush (11 : Int32) dX4_day_5 (by decide) ?_
    refine T_icmp_ge 24 dX4_day_7 (by decide) h (fun _ h => ?_) (fun _ h => ?_)
    · refine T_lv (lv' := [(1, .int i12)]) [1] rfl ?_
      exact hk24 i12 s14 h
    · refine T_iload_n dX4_day_10 rfl 1 rfl ?_
      refine T_aload_n dX4_day_11 rfl 0 rfl ?_
      refine T_iload_n dX4_day_12 rfl 2 rfl ?_
      refine T_callVI (As := [.int i13]) (rest := [.int i12]) (b := a11) (ci := 4) dX4_day_13 mc_X4_work mi_X4_work ml_RX4_115 rfl (fun _ hr => chk_of hr) rfl rfl (Nat.le_of_ble_eq_true rfl) ⟨⟨Nat.le_of_ble_eq_true rfl, Nat.le_of_ble_eq_true rfl⟩, ⟨Nat.le_of_ble_eq_true rfl, Nat.le_of_ble_eq_true rfl⟩⟩ K_X4_work h (fun i16 s17 h => ?_)
      refine T_iadd dX4_day_16 ?_
      refine T_nm h (fun i18 h => ?_)
      refine T_istore_n (lv' := [(1, .int i18), (0, .ref a11), (2, .int i13)]) dX4_day_17 rfl (by decide) rfl ?_
      refine T_iinc (i13 + 1) (lv' := [(2, .int (i13 + 1)), (1, .int i18), (0, .ref a11)]) dX4_day_18 (j := 2) rfl rfl (by decide) rfl ?_
      refine T_goto 4 dX4_day_21 (by decide) ?_
      refine T_lv (lv' := [(0, .ref a11), (1, .int i18), (2, .int (i13 + 1))]) [2, 1, 0] rfl ?_
      exact ih i18 (i13 + 1) s17 h
set_option maxRecDepth 100000 in
set_option maxHeartbeats 4000000 in
theorem K_X4_day {l : Launch} {a0 : Nat} {s0 : Hp} : ∀ P, OK jI (D_X4_day a0 s0) P → sm_Ct l yX4_day cX4_day 3 (some .int) 4 0 0 [.ref a0] s0 P := by
  intro P h
  unfold D_X4_day at h
  obtain ⟨_, hb0, h⟩ := h.bind
  refine sm_enter (own := RX4) (lv := [(0, .ref a0)]) (by decide) rfl (Nat.le_of_ble_eq_true rfl) rfl (fun G => ?_)
  refine T_iconst (0 : Int32) dX4_day_0 (by decide) ?_
  refine T_istore_n (lv' := [(1, .int (0 : Int32)), (0, .ref a0)]) dX4_day_1 rfl (by decide) rfl ?_
  refine T_iconst (0 : Int32) dX4_day_2 (by decide) ?_
  refine T_istore_n (lv' := [(2, .int (0 : Int32)), (1, .int (0 : Int32)), (0, .ref a0)]) dX4_day_3 rfl (by decide) rfl ?_
  refine T_lv (lv' := [(0, .ref a0), (1, .int (0 : Int32)), (2, .int (0 : Int32))]) [2, 1, 0] rfl ?_
  refine K_X4_day_w4 ?_ FU (0 : Int32) (0 : Int32) s0 h
  intro i22 s21 h
  refine T_iload_n dX4_day_24 rfl 0 rfl ?_
  exact T_ireturn dX4_day_25 (Nat.le_of_ble_eq_true rfl) (Nat.le_of_ble_eq_true rfl) h

def D_X4_spend_w51 (a20 : Nat) (i21 : Int32) (i22 : Int32) (i23 : Int32) (k79 : Int32 → Hp → Option (Int32 × Hp)) : Nat → Int32 → Int32 → Hp → Option (Int32 × Hp)
  | 0, _, _, _ => none
  | n27 + 1, i24, i25, s26 =>
  if (11 : Int32) ≤ i25 then
  k79 i24 s26
  else
  bd (D_X4_work a20 i25 s26) fun i28 s29 =>
  nm (i24 + i28) fun i30 =>
  (D_X4_creditUsed a20 s29).bind fun s31 =>
  D_X4_spend_w51 a20 i21 i22 i23 k79 n27 i30 (i25 + 1) s31
def D_X4_spend_w40 (a14 : Nat) (i15 : Int32) (k99 : Int32 → Hp → Option (Int32 × Hp)) : Nat → Int32 → Int32 → Hp → Option (Int32 × Hp)
  | 0, _, _, _ => none
  | n19 + 1, i16, i17, s18 =>
  if i15 ≤ i17 then
  k99 i16 s18
  else
  D_X4_spend_w51 a14 i15 i16 i17 (fun i35 s34 =>
  (getR s34 a14 4 0).bind fun a36 =>
  (D_X2_endDay a36 i35 s34).bind fun s37 =>
  nm (i16 + i35) fun i38 =>
  D_X4_spend_w40 a14 i15 k99 n19 i38 (i17 + 1) s37
  ) FU (0 : Int32) (0 : Int32) s18
def D_X4_spend (a0 : Nat) (i1 : Int32) (s0 : Hp) : Option (Int32 × Hp) :=
  (isO s0 a0 4).bind fun _ =>
  if i1 < (1 : Int32) then
  some ((-2 : Int32), s0)
  else
  if i1 ≤ (99 : Int32) then
  (getR s0 a0 4 0).bind fun a11 =>
  (getI s0 a11 2 8).bind fun i12 =>
  if (i12 + i1) ≤ (999 : Int32) then
  (D_X4_look a0 s0).bind fun s13 =>
  D_X4_spend_w40 a0 i1 (fun i42 s41 =>
  some (i42, s41)
  ) FU (0 : Int32) (0 : Int32) s13
  else
  some ((-5 : Int32), s0)
  else
  some ((-2 : Int32), s0)
set_option maxRecDepth 100000 in
set_option maxHeartbeats 4000000 in
theorem K_X4_spend_w51 {l : Launch} {G : smG} {P : Option Value → Hp → Prop} {a20 : Nat} {i21 : Int32} {i22 : Int32} {i23 : Int32} {k79 : Int32 → Hp → Option (Int32 × Hp)} (hk79 : ∀ (i32 : Int32) (s33 : Hp), OK jI (k79 i32 s33) P → T l G RX4 cX4_spend 6 (sm_rm 4 0 0) (sm_E (some .int) yX4_spend.name) (sm_Qs G P 0 0) 0 0 79 [(0, .ref a20), (1, .int i21), (2, .int i22), (3, .int i23), (4, .int i32)] [] s33) : ∀ (n : Nat) (i24 : Int32) (i25 : Int32) (s26 : Hp), OK jI (D_X4_spend_w51 a20 i21 i22 i23 k79 n i24 i25 s26) P → T l G RX4 cX4_spend 6 (sm_rm 4 0 0) (sm_E (some .int) yX4_spend.name) (sm_Qs G P 0 0) 0 0 51 [(0, .ref a20), (1, .int i21), (2, .int i22), (3, .int i23), (4, .int i24), (5, .int i25)] [] s26 := by
  intro n
  induction n with
  | zero => intro i24 i25 s26 h; obtain ⟨_, h0, _⟩ := h; exact absurd h0 (by simp [D_X4_spend_w51])
  | succ n27 ih =>
    intro i24 i25 s26 h
    unfold D_X4_spend_w51 at h
    refine T_iload dX4_spend_51 5 rfl ?_
    refine T_bipush (11 : Int32) dX4_spend_53 (by decide) ?_
    refine T_icmp_ge 79 dX4_spend_55 (by decide) h (fun _ h => ?_) (fun _ h => ?_)
    · refine T_lv (lv' := [(0, .ref a20), (1, .int i21), (2, .int i22), (3, .int i23), (4, .int i24)]) [0, 1, 2, 3, 4] rfl ?_
      exact hk79 i24 s26 h
    · refine T_iload dX4_spend_58 4 rfl ?_
      refine T_aload_n dX4_spend_60 rfl 0 rfl ?_
      refine T_iload dX4_spend_61 5 rfl ?_
      refine T_callVI (As := [.int i25]) (rest := [.int i24]) (b := a20) (ci := 4) dX4_spend_63 mc_X4_work mi_X4_work ml_RX4_115 rfl (fun _ hr => chk_of hr) rfl rfl (Nat.le_of_ble_eq_true rfl) ⟨⟨Nat.le_of_ble_eq_true rfl, Nat.le_of_ble_eq_true rfl⟩, ⟨Nat.le_of_ble_eq_true rfl, Nat.le_of_ble_eq_true rfl⟩⟩ K_X4_work h (fun i28 s29 h => ?_)
      refine T_iadd dX4_spend_66 ?_
      refine T_nm h (fun i30 h => ?_)
      refine T_istore (lv' := [(4, .int i30), (0, .ref a20), (1, .int i21), (2, .int i22), (3, .int i23), (5, .int i25)]) dX4_spend_67 (by decide) rfl ?_
      refine T_aload_n dX4_spend_69 rfl 1 rfl ?_
      refine T_callVV (As := []) (rest := []) (b := a20) (ci := 4) dX4_spend_70 mc_X4_creditUsed mi_X4_creditUsed ml_RX4_124 rfl (fun _ hr => chk_of hr) rfl rfl (Nat.le_of_ble_eq_true rfl) ⟨⟨Nat.le_of_ble_eq_true rfl, Nat.le_of_ble_eq_true rfl⟩, ⟨Nat.le_of_ble_eq_true rfl, Nat.le_of_ble_eq_true rfl⟩⟩ K_X4_creditUsed h (fun s31 h => ?_)
      refine T_iinc (i25 + 1) (lv' := [(5, .int (i25 + 1)), (4, .int i30), (0, .ref a20), (1, .int i21), (2, .int i22), (3, .int i23)]) dX4_spend_73 (j := 5) rfl rfl (by decide) rfl ?_
      refine T_goto 51 dX4_spend_76 (by decide) ?_
      refine T_lv (lv' := [(0, .ref a20), (1, .int i21), (2, .int i22), (3, .int i23), (4, .int i30), (5, .int (i25 + 1))]) [2, 3, 4, 5, 1, 0] rfl ?_
      exact ih i30 (i25 + 1) s31 h
set_option maxRecDepth 100000 in
set_option maxHeartbeats 4000000 in
theorem K_X4_spend_w40 {l : Launch} {G : smG} {P : Option Value → Hp → Prop} {a14 : Nat} {i15 : Int32} {k99 : Int32 → Hp → Option (Int32 × Hp)} (hk99 : ∀ (i39 : Int32) (s40 : Hp), OK jI (k99 i39 s40) P → T l G RX4 cX4_spend 6 (sm_rm 4 0 0) (sm_E (some .int) yX4_spend.name) (sm_Qs G P 0 0) 0 0 99 [(2, .int i39)] [] s40) : ∀ (n : Nat) (i16 : Int32) (i17 : Int32) (s18 : Hp), OK jI (D_X4_spend_w40 a14 i15 k99 n i16 i17 s18) P → T l G RX4 cX4_spend 6 (sm_rm 4 0 0) (sm_E (some .int) yX4_spend.name) (sm_Qs G P 0 0) 0 0 40 [(0, .ref a14), (1, .int i15), (2, .int i16), (3, .int i17)] [] s18 := by
  intro n
  induction n with
  | zero => intro i16 i17 s18 h; obtain ⟨_, h0, _⟩ := h; exact absurd h0 (by simp [D_X4_spend_w40])
  | succ n19 ih =>
    intro i16 i17 s18 h
    unfold D_X4_spend_w40 at h
    refine T_iload_n dX4_spend_40 rfl 3 rfl ?_
    refine T_iload_n dX4_spend_41 rfl 1 rfl ?_
    refine T_icmp_ge 99 dX4_spend_42 (by decide) h (fun _ h => ?_) (fun _ h => ?_)
    · refine T_lv (lv' := [(2, .int i16)]) [2] rfl ?_
      exact hk99 i16 s18 h
    · refine T_iconst (0 : Int32) dX4_spend_45 (by decide) ?_
      refine T_istore (lv' := [(4, .int (0 : Int32)), (0, .ref a14), (1, .int i15), (2, .int i16), (3, .int i17)]) dX4_spend_46 (by decide) rfl ?_
      refine T_iconst (0 : Int32) dX4_spend_48 (by decide) ?_
      refine T_istore (lv' := [(5, .int (0 : Int32)), (4, .int (0 : Int32)), (0, .ref a14), (1, .int i15), (2, .int i16), (3, .int i17)]) dX4_spend_49 (by decide) rfl ?_
      refine T_lv (lv' := [(0, .ref a14), (1, .int i15), (2, .int i16), (3, .int i17), (4, .int (0 : Int32)), (5, .int (0 : Int32))]) [2, 3, 4, 5, 1, 0] rfl ?_
      refine K_X4_spend_w51 ?_ FU (0 : Int32) (0 : Int32) s18 h
      intro i35 s34 h
      refine T_aload_n dX4_spend_79 rfl 0 rfl ?_
      refine T_getR dX4_spend_80 fl_RX4_39 h (fun a36 h => ?_)
      refine T_iload dX4_spend_83 4 rfl ?_
      refine T_callVV (As := [.int i35]) (rest := []) (b := a36) (ci := 2) dX4_spend_85 mc_X2_endDay mi_X2_endDay ml_RX4_127 rfl (fun _ hr => chk_of hr) rfl rfl (Nat.le_of_ble_eq_true rfl) ⟨⟨Nat.le_of_ble_eq_true rfl, Nat.le_of_ble_eq_true rfl⟩, ⟨Nat.le_of_ble_eq_true rfl, Nat.le_of_ble_eq_true rfl⟩⟩ K_X2_endDay h (fun s37 h => ?_)
      refine T_iload_n dX4_spend_88 rfl 2 rfl ?_
      refine T_iload dX4_spend_89 4 rfl ?_
      refine T_iadd dX4_spend_91 ?_
      refine T_nm h (fun i38 h => ?_)
      refine T_istore_n (lv' := [(2, .int i38), (0, .ref a14), (1, .int i15), (3, .int i17), (4, .int i35)]) dX4_spend_92 rfl (by decide) rfl ?_
      refine T_iinc (i17 + 1) (lv' := [(3, .int (i17 + 1)), (2, .int i38), (0, .ref a14), (1, .int i15), (4, .int i35)]) dX4_spend_93 (j := 3) rfl rfl (by decide) rfl ?_
      refine T_goto 40 dX4_spend_96 (by decide) ?_
      refine T_lv (lv' := [(0, .ref a14), (1, .int i15), (2, .int i38), (3, .int (i17 + 1))]) [2, 3, 1, 0] rfl ?_
      exact ih i38 (i17 + 1) s37 h
set_option maxRecDepth 100000 in
set_option maxHeartbeats 4000000 in
theorem K_X4_spend {l : Launch} {a0 : Nat} {i1 : Int32} {s0 : Hp} : ∀ P, OK jI (D_X4_spend a0 i1 s0) P → sm_Ct l yX4_spend cX4_spend 6 (some .int) 4 0 0 [.ref a0, .int i1] s0 P := by
  intro P h
  unfold D_X4_spend at h
  obtain ⟨_, hb0, h⟩ := h.bind
  refine sm_enter (own := RX4) (lv := [(0, .ref a0), (1, .int i1)]) (by decide) rfl (Nat.le_of_ble_eq_true rfl) rfl (fun G => ?_)
  refine T_iload_n dX4_spend_0 rfl 1 rfl ?_
  refine T_iconst (1 : Int32) dX4_spend_1 (by decide) ?_
  refine T_icmp_lt 11 dX4_spend_2 (by decide) h (fun _ h => ?_) (fun _ h => ?_)
  · refine T_bipush (-2 : Int32) dX4_spend_11 (by decide) ?_
    exact T_ireturn dX4_spend_13 (Nat.le_of_ble_eq_true rfl) (Nat.le_of_ble_eq_true rfl) h
  · refine T_iload_n dX4_spend_5 rfl 1 rfl ?_
    refine T_bipush (99 : Int32) dX4_spend_6 (by decide) ?_
    refine T_icmp_le 14 dX4_spend_8 (by decide) h (fun _ h => ?_) (fun _ h => ?_)
    · refine T_aload_n dX4_spend_14 rfl 0 rfl ?_
      refine T_getR dX4_spend_15 fl_RX4_39 h (fun a11 h => ?_)
      refine T_getI dX4_spend_18 fl_RX4_118 h (fun i12 h => ?_)
      refine T_iload_n dX4_spend_21 rfl 1 rfl ?_
      refine T_iadd dX4_spend_22 ?_
      refine T_sipush (999 : Int32) dX4_spend_23 (by decide) ?_
      refine T_icmp_le 32 dX4_spend_26 (by decide) h (fun _ h => ?_) (fun _ h => ?_)
      · refine T_aload_n dX4_spend_32 rfl 0 rfl ?_
        refine T_callVV (As := []) (rest := []) (b := a0) (ci := 4) dX4_spend_33 mc_X4_look mi_X4_look ml_RX4_121 rfl (fun _ hr => chk_of hr) rfl rfl (Nat.le_of_ble_eq_true rfl) ⟨⟨Nat.le_of_ble_eq_true rfl, Nat.le_of_ble_eq_true rfl⟩, ⟨Nat.le_of_ble_eq_true rfl, Nat.le_of_ble_eq_true rfl⟩⟩ K_X4_look h (fun s13 h => ?_)
        refine T_iconst (0 : Int32) dX4_spend_36 (by decide) ?_
        refine T_istore_n (lv' := [(2, .int (0 : Int32)), (0, .ref a0), (1, .int i1)]) dX4_spend_37 rfl (by decide) rfl ?_
        refine T_iconst (0 : Int32) dX4_spend_38 (by decide) ?_
        refine T_istore_n (lv' := [(3, .int (0 : Int32)), (2, .int (0 : Int32)), (0, .ref a0), (1, .int i1)]) dX4_spend_39 rfl (by decide) rfl ?_
        refine T_lv (lv' := [(0, .ref a0), (1, .int i1), (2, .int (0 : Int32)), (3, .int (0 : Int32))]) [2, 3, 1, 0] rfl ?_
        refine K_X4_spend_w40 ?_ FU (0 : Int32) (0 : Int32) s13 h
        intro i42 s41 h
        refine T_iload_n dX4_spend_99 rfl 0 rfl ?_
        exact T_ireturn dX4_spend_100 (Nat.le_of_ble_eq_true rfl) (Nat.le_of_ble_eq_true rfl) h
      · refine T_bipush (-5 : Int32) dX4_spend_29 (by decide) ?_
        exact T_ireturn dX4_spend_31 (Nat.le_of_ble_eq_true rfl) (Nat.le_of_ble_eq_true rfl) h
    · refine T_bipush (-2 : Int32) dX4_spend_11 (by decide) ?_
      exact T_ireturn dX4_spend_13 (Nat.le_of_ble_eq_true rfl) (Nat.le_of_ble_eq_true rfl) h
