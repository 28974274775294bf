def D_X6_readOrder_b131  (a42 : Nat) (i43 : Int32) (i44 : Int32) (i45 : Int32) (i46 : Int32) (i47 : Int32) (s48 : Hp) : Option Hp :=
  (getR s48 a42 6 1).bind fun a49 =>
  (D_X1_write a49 i43 i44 s48).bind fun s50 =>
  (getR s50 a42 6 2).bind fun a51 =>
  (D_X1_write a51 i43 i45 s50).bind fun s52 =>
  (getR s52 a42 6 3).bind fun a53 =>
  (D_X1_write a53 i43 i46 s52).bind fun s54 =>
  (getR s54 a42 6 4).bind fun a55 =>
  (D_X1_write a55 i43 i47 s54).bind fun s56 =>
  some s56
def D_X6_readOrder_b107  (a65 : Nat) (i66 : Int32) (i67 : Int32) (i68 : Int32) (i69 : Int32) (i71 : Int32) (s70 : Hp) : Option Hp :=
  D_X6_readOrder_b131 a65 i66 i67 i68 i69 i71 s70
def D_X6_readOrder_b57  (a33 : Nat) (i34 : Int32) (i35 : Int32) (i37 : Int32) (a38 : Nat) (s36 : Hp) : Option Hp :=
  (putZ s36 a38 6 7 i37).bind fun s39 =>
  bd (D_X6_readNumber a33 s39) fun i40 s41 =>
  if i35 = (43 : Int32) then
  (D_X6_expect a33 (46 : Int32) s41).bind fun s60 =>
  bd (D_X6_readNumber a33 s60) fun i61 s62 =>
  bd (D_X6_accept a33 (97 : Int32) s62) fun i63 s64 =>
  if i63 = 0 then
  D_X6_readOrder_b107 a33 i34 i35 i40 i61 (0 : Int32) s64
  else
  bd (D_X6_readDigit a33 (3 : Int32) s64) fun i72 s73 =>
  D_X6_readOrder_b107 a33 i34 i35 i40 i61 i72 s73
  else
  if i35 = (97 : Int32) then
  (D_X6_expect a33 (62 : Int32) s41).bind fun s57 =>
  bd (D_X6_readDigit a33 (3 : Int32) s57) fun i58 s59 =>
  D_X6_readOrder_b131 a33 i34 i35 i40 i58 (0 : Int32) s59
  else
  D_X6_readOrder_b131 a33 i34 i35 i40 (0 : Int32) (0 : Int32) s41
def D_X6_readOrder_b40  (a23 : Nat) (i24 : Int32) (i25 : Int32) (i27 : Int32) (i28 : Int32) (a29 : Nat) (s26 : Hp) : Option Hp :=
  (putI s26 a29 6 6 (i28 + i27)).bind fun s30 =>
  bd (D_X6_isKind i25 s30) fun i31 s32 =>
  if i31 = 0 then
  D_X6_readOrder_b57 a23 i24 i25 (1 : Int32) a23 s32
  else
  D_X6_readOrder_b57 a23 i24 i25 (0 : Int32) a23 s32
def D_X6_readOrder_b22  (a16 : Nat) (i17 : Int32) (i19 : Int32) (s18 : Hp) : Option Hp :=
  (getI s18 a16 6 6).bind fun i20 =>
  bd (D_X6_isKind i19 s18) fun i21 s22 =>
  if i21 = 0 then
  D_X6_readOrder_b40 a16 i17 i19 (0 : Int32) i20 a16 s22
  else
  D_X6_readOrder_b40 a16 i17 i19 (1 : Int32) i20 a16 s22
def D_X6_readOrder (a0 : Nat) (i1 : Int32) (s0 : Hp) : Option Hp :=
  (isO s0 a0 6).bind fun _ =>
  (getI s0 a0 6 7).bind fun i11 =>
  if i11 = 0 then
  (getR s0 a0 6 0).bind fun a12 =>
  (getI s0 a0 6 6).bind fun i13 =>
  bd (D_X5_sign a12 i13 s0) fun i14 s15 =>
  D_X6_readOrder_b22 a0 i1 i14 s15
  else
  D_X6_readOrder_b22 a0 i1 (0 : Int32) s0
set_option maxRecDepth 100000 in
set_option maxHeartbeats 4000000 in
theorem K_X6_readOrder_b131 {l : Launch} {G : smG} {P : Option Value → Hp → Prop}  {a42 : Nat} {i43 : Int32} {i44 : Int32} {i45 : Int32} {i46 : Int32} {i47 : Int32} {s48 : Hp}  (h : OK jV (D_X6_readOrder_b131 a42 i43 i44 i45 i46 i47 s48) P) : T l G RX6 cX6_readOrder 6 (sm_rm 4 0 0) (sm_E none yX6_readOrder.name) (sm_Qs G P 0 0) 0 0 131 [(0, .ref a42), (1, .int i43), (2, .int i44), (3, .int i45), (4, .int i46), (5, .int i47)] [] s48 := by
  unfold D_X6_readOrder_b131 at h
  refine T_aload_n dX6_readOrder_131 rfl 0 rfl ?_
  refine T_getR dX6_readOrder_132 fl_RX6_14 h (fun a49 h => ?_)
  refine T_iload_n dX6_readOrder_135 rfl 1 rfl ?_
  refine T_iload_n dX6_readOrder_136 rfl 2 rfl ?_
  refine T_callVV (As := [.int i43, .int i44]) (rest := []) (b := a49) (ci := 1) dX6_readOrder_137 mc_X1_write mi_X1_write ml_RX6_75 rfl (fun _ hr => chk_of hr) rfl rfl (Nat.le_of_ble_eq_true rfl) ⟨⟨Nat.le_of_ble_eq_true rfl, Nat.le_of_ble_eq_true rfl⟩, ⟨Nat.le_of_ble_eq_true rfl, Nat.le_of_ble_eq_true rfl⟩⟩ K_X1_write h (fun s50 h => ?_)
  refine T_aload_n dX6_readOrder_140 rfl 0 rfl ?_
  refine T_getR dX6_readOrder_141 fl_RX6_20 h (fun a51 h => ?_)
  refine T_iload_n dX6_readOrder_144 rfl 1 rfl ?_
  refine T_iload_n dX6_readOrder_145 rfl 3 rfl ?_
  refine T_callVV (As := [.int i43, .int i45]) (rest := []) (b := a51) (ci := 1) dX6_readOrder_146 mc_X1_write mi_X1_write ml_RX6_75 rfl (fun _ hr => chk_of hr) rfl rfl (Nat.le_of_ble_eq_true rfl) ⟨⟨Nat.le_of_ble_eq_true rfl, Nat.le_of_ble_eq_true rfl⟩, ⟨Nat.le_of_ble_eq_true rfl, Nat.le_of_ble_eq_true rfl⟩⟩ K_X1_write h (fun s52 h => ?_)
  refine T_aload_n dX6_readOrder_149 rfl 0 rfl ?_
  refine T_getR dX6_readOrder_150 fl_RX6_23 h (fun a53 h => ?_)
  refine T_iload_n dX6_readOrder_153 rfl 1 rfl ?_
  refine T_iload dX6_readOrder_154 4 rfl ?_
  refine T_callVV (As := [.int i43, .int i46]) (rest := []) (b := a53) (ci := 1) dX6_readOrder_156 mc_X1_write mi_X1_write ml_RX6_75 rfl (fun _ hr => chk_of hr) rfl rfl (Nat.le_of_ble_eq_true rfl) ⟨⟨Nat.le_of_ble_eq_true rfl, Nat.le_of_ble_eq_true rfl⟩, ⟨Nat.le_of_ble_eq_true rfl, Nat.le_of_ble_eq_true rfl⟩⟩ K_X1_write h (fun s54 h => ?_)
  refine T_aload_n dX6_readOrder_159 rfl 0 rfl ?_
  refine T_getR dX6_readOrder_160 fl_RX6_26 h (fun a55 h => ?_)
  refine T_iload_n dX6_readOrder_163 rfl 1 rfl ?_
  refine T_iload dX6_readOrder_164 5 rfl ?_
  refine T_callVV (As := [.int i43, .int i47]) (rest := []) (b := a55) (ci := 1) dX6_readOrder_166 mc_X1_write mi_X1_write ml_RX6_75 rfl (fun _ hr => chk_of hr) rfl rfl (Nat.le_of_ble_eq_true rfl) ⟨⟨Nat.le_of_ble_eq_true rfl, Nat.le_of_ble_eq_true rfl⟩, ⟨Nat.le_of_ble_eq_true rfl, Nat.le_of_ble_eq_true rfl⟩⟩ K_X1_write h (fun s56 h => ?_)
  exact T_vreturn dX6_readOrder_169 (Nat.le_of_ble_eq_true rfl) (Nat.le_of_ble_eq_true rfl) h
set_option maxRecDepth 100000 in
set_option maxHeartbeats 4000000 in
theorem K_X6_readOrder_b107 {l : Launch} {G : smG} {P : Option Value → Hp → Prop}  {a65 : Nat} {i66 : Int32} {i67 : Int32} {i68 : Int32} {i69 : Int32} {i71 : Int32} {s70 : Hp}  (h : OK jV (D_X6_readOrder_b107 a65 i66 i67 i68 i69 i71 s70) P) : T l G RX6 cX6_readOrder 6 (sm_rm 4 0 0) (sm_E none yX6_readOrder.name) (sm_Qs G P 0 0) 0 0 107 [(0, .ref a65), (1, .int i66), (2, .int i67), (3, .int i68), (4, .int i69)] [.int i71] s70 := by
  unfold D_X6_readOrder_b107 at h
  refine T_istore (lv' := [(5, .int i71), (0, .ref a65), (1, .int i66), (2, .int i67), (3, .int i68), (4, .int i69)]) dX6_readOrder_107 (by decide) rfl ?_
  refine T_goto 131 dX6_readOrder_109 (by decide) ?_
  refine T_lv (lv' := [(0, .ref a65), (1, .int i66), (2, .int i67), (3, .int i68), (4, .int i69), (5, .int i71)]) [1, 2, 3, 4, 5, 0] rfl ?_
  exact K_X6_readOrder_b131 h
set_option maxRecDepth 100000 in
set_option maxHeartbeats 4000000 in
theorem K_X6_readOrder_b57 {l : Launch} {G : smG} {P : Option Value → Hp → Prop}  {a33 : Nat} {i34 : Int32} {i35 : Int32} {i37 : Int32} {a38 : Nat} {s36 : Hp}  (h : OK jV (D_X6_readOrder_b57 a33 i34 i35 i37 a38 s36) P) : T l G RX6 cX6_readOrder 6 (sm_rm 4 0 0) (sm_E none yX6_readOrder.name) (sm_Qs G P 0 0) 0 0 57 [(0, .ref a33), (1, .int i34), (2, .int i35)] [.int i37, .ref a38] s36 := by
  unfold D_X6_readOrder_b57 at h
  refine T_putZ dX6_readOrder_57 fl_RX6_36 ft_6_7 h (fun s39 h => ?_)
  refine T_aload_n dX6_readOrder_60 rfl 0 rfl ?_
  refine T_callVI (As := []) (rest := []) (b := a33) (ci := 6) dX6_readOrder_61 mc_X6_readNumber mi_X6_readNumber ml_RX6_65 rfl (fun _ hr => chk_of hr) rfl rfl (Nat.le_of_ble_eq_true rfl) ⟨⟨Nat.le_of_ble_eq_true rfl, Nat.le_of_ble_eq_true rfl⟩, ⟨Nat.le_of_ble_eq_true rfl, Nat.le_of_ble_eq_true rfl⟩⟩ K_X6_readNumber h (fun i40 s41 h => ?_)
  refine T_istore_n (lv' := [(3, .int i40), (0, .ref a33), (1, .int i34), (2, .int i35)]) dX6_readOrder_64 rfl (by decide) rfl ?_
  refine T_iconst (0 : Int32) dX6_readOrder_65 (by decide) ?_
  refine T_istore (lv' := [(4, .int (0 : Int32)), (3, .int i40), (0, .ref a33), (1, .int i34), (2, .int i35)]) dX6_readOrder_66 (by decide) rfl ?_
  refine T_iconst (0 : Int32) dX6_readOrder_68 (by decide) ?_
  refine T_istore (lv' := [(5, .int (0 : Int32)), (4, .int (0 : Int32)), (3, .int i40), (0, .ref a33), (1, .int i34), (2, .int i35)]) dX6_readOrder_69 (by decide) rfl ?_
  refine T_iload_n dX6_readOrder_71 rfl 5 rfl ?_
  refine T_bipush (43 : Int32) dX6_readOrder_72 (by decide) ?_
  refine T_icmp_ne 112 dX6_readOrder_74 (by decide) h (fun _ h => ?_) (fun _ h => ?_)
  · refine T_iload_n dX6_readOrder_112 rfl 5 rfl ?_
    refine T_bipush (97 : Int32) dX6_readOrder_113 (by decide) ?_
    refine T_icmp_ne 131 dX6_readOrder_115 (by decide) h (fun _ h => ?_) (fun _ h => ?_)
    · refine T_lv (lv' := [(0, .ref a33), (1, .int i34), (2, .int i35), (3, .int i40), (4, .int (0 : Int32)), (5, .int (0 : Int32))]) [3, 4, 5, 2, 1, 0] rfl ?_
      exact K_X6_readOrder_b131 h
    · refine T_aload_n dX6_readOrder_118 rfl 3 rfl ?_
      refine T_bipush (62 : Int32) dX6_readOrder_119 (by decide) ?_
      refine T_callVV (As := [.int (62 : Int32)]) (rest := []) (b := a33) (ci := 6) dX6_readOrder_121 mc_X6_expect mi_X6_expect ml_RX6_53 rfl (fun _ hr => chk_of hr) rfl rfl (Nat.le_of_ble_eq_true rfl) ⟨⟨Nat.le_of_ble_eq_true rfl, Nat.le_of_ble_eq_true rfl⟩, ⟨Nat.le_of_ble_eq_true rfl, Nat.le_of_ble_eq_true rfl⟩⟩ K_X6_expect h (fun s57 h => ?_)
      refine T_aload_n dX6_readOrder_124 rfl 3 rfl ?_
      refine T_iconst (3 : Int32) dX6_readOrder_125 (by decide) ?_
      refine T_callVI (As := [.int (3 : Int32)]) (rest := []) (b := a33) (ci := 6) dX6_readOrder_126 mc_X6_readDigit mi_X6_readDigit ml_RX6_72 rfl (fun _ hr => chk_of hr) rfl rfl (Nat.le_of_ble_eq_true rfl) ⟨⟨Nat.le_of_ble_eq_true rfl, Nat.le_of_ble_eq_true rfl⟩, ⟨Nat.le_of_ble_eq_true rfl, Nat.le_of_ble_eq_true rfl⟩⟩ K_X6_readDigit h (fun i58 s59 h => ?_)
      refine T_istore (lv' := [(4, .int i58), (5, .int (0 : Int32)), (3, .int i40), (0, .ref a33), (1, .int i34), (2, .int i35)]) dX6_readOrder_129 (by decide) rfl ?_
      refine T_lv (lv' := [(0, .ref a33), (1, .int i34), (2, .int i35), (3, .int i40), (4, .int i58), (5, .int (0 : Int32))]) [3, 4, 5, 2, 0, 1] rfl ?_
      exact K_X6_readOrder_b131 h
  · refine T_aload_n dX6_readOrder_77 rfl 3 rfl ?_
    refine T_bipush (46 : Int32) dX6_readOrder_78 (by decide) ?_
    refine T_callVV (As := [.int (46 : Int32)]) (rest := []) (b := a33) (ci := 6) dX6_readOrder_80 mc_X6_expect mi_X6_expect ml_RX6_53 rfl (fun _ hr => chk_of hr) rfl rfl (Nat.le_of_ble_eq_true rfl) ⟨⟨Nat.le_of_ble_eq_true rfl, Nat.le_of_ble_eq_true rfl⟩, ⟨Nat.le_of_ble_eq_true rfl, Nat.le_of_ble_eq_true rfl⟩⟩ K_X6_expect h (fun s60 h => ?_)
    refine T_aload_n dX6_readOrder_83 rfl 3 rfl ?_
    refine T_callVI (As := []) (rest := []) (b := a33) (ci := 6) dX6_readOrder_84 mc_X6_readNumber mi_X6_readNumber ml_RX6_65 rfl (fun _ hr => chk_of hr) rfl rfl (Nat.le_of_ble_eq_true rfl) ⟨⟨Nat.le_of_ble_eq_true rfl, Nat.le_of_ble_eq_true rfl⟩, ⟨Nat.le_of_ble_eq_true rfl, Nat.le_of_ble_eq_true rfl⟩⟩ K_X6_readNumber h (fun i61 s62 h => ?_)
    refine T_istore (lv' := [(4, .int i61), (5, .int (0 : Int32)), (3, .int i40), (0, .ref a33), (1, .int i34), (2, .int i35)]) dX6_readOrder_87 (by decide) rfl ?_
    refine T_aload_n dX6_readOrder_89 rfl 3 rfl ?_
    refine T_bipush (97 : Int32) dX6_readOrder_90 (by decide) ?_
    refine T_callVI (As := [.int (97 : Int32)]) (rest := []) (b := a33) (ci := 6) dX6_readOrder_92 mc_X6_accept mi_X6_accept ml_RX6_68 rfl (fun _ hr => chk_of hr) rfl rfl (Nat.le_of_ble_eq_true rfl) ⟨⟨Nat.le_of_ble_eq_true rfl, Nat.le_of_ble_eq_true rfl⟩, ⟨Nat.le_of_ble_eq_true rfl, Nat.le_of_ble_eq_true rfl⟩⟩ K_X6_accept h (fun i63 s64 h => ?_)
    refine T_if_eq 106 dX6_readOrder_95 (by decide) h (fun _ h => ?_) (fun _ h => ?_)
    · refine T_iconst (0 : Int32) dX6_readOrder_106 (by decide) ?_
      refine T_lv (lv' := [(0, .ref a33), (1, .int i34), (2, .int i35), (3, .int i40), (4, .int i61)]) [3, 4, 5, 2, 0] rfl ?_
      exact K_X6_readOrder_b107 h
    · refine T_aload_n dX6_readOrder_98 rfl 3 rfl ?_
      refine T_iconst (3 : Int32) dX6_readOrder_99 (by decide) ?_
      refine T_callVI (As := [.int (3 : Int32)]) (rest := []) (b := a33) (ci := 6) dX6_readOrder_100 mc_X6_readDigit mi_X6_readDigit ml_RX6_72 rfl (fun _ hr => chk_of hr) rfl rfl (Nat.le_of_ble_eq_true rfl) ⟨⟨Nat.le_of_ble_eq_true rfl, Nat.le_of_ble_eq_true rfl⟩, ⟨Nat.le_of_ble_eq_true rfl, Nat.le_of_ble_eq_true rfl⟩⟩ K_X6_readDigit h (fun i72 s73 h => ?_)
      refine T_goto 107 dX6_readOrder_103 (by decide) ?_
      refine T_lv (lv' := [(0, .ref a33), (1, .int i34), (2, .int i35), (3, .int i40), (4, .int i61)]) [3, 4, 5, 2, 0] rfl ?_
      exact K_X6_readOrder_b107 h
set_option maxRecDepth 100000 in
set_option maxHeartbeats 4000000 in
theorem K_X6_readOrder_b40 {l : Launch} {G : smG} {P : Option Value → Hp → Prop}  {a23 : Nat} {i24 : Int32} {i25 : Int32} {i27 : Int32} {i28 : Int32} {a29 : Nat} {s26 : Hp}  (h : OK jV (D_X6_readOrder_b40 a23 i24 i25 i27 i28 a29 s26) P) : T l G RX6 cX6_readOrder 6 (sm_rm 4 0 0) (sm_E none yX6_readOrder.name) (sm_Qs G P 0 0) 0 0 40 [(0, .ref a23), (1, .int i24), (2, .int i25)] [.int i27, .int i28, .ref a29] s26 := by
  unfold D_X6_readOrder_b40 at h
  refine T_iadd dX6_readOrder_40 ?_
  refine T_putI dX6_readOrder_41 fl_RX6_33 ft_6_6 h (fun s30 h => ?_)
  refine T_aload_n dX6_readOrder_44 rfl 0 rfl ?_
  refine T_iload_n dX6_readOrder_45 rfl 2 rfl ?_
  refine T_callSI (As := [.int i25]) (rest := [.ref a23]) dX6_readOrder_46 mc_X6_isKind mi_X6_isKind ml_RX6_61 rfl rfl (Nat.le_of_ble_eq_true rfl) ⟨⟨Nat.le_of_ble_eq_true rfl, Nat.le_of_ble_eq_true rfl⟩, ⟨Nat.le_of_ble_eq_true rfl, Nat.le_of_ble_eq_true rfl⟩⟩ K_X6_isKind h (fun i31 s32 h => ?_)
  refine T_if_ne 56 dX6_readOrder_49 (by decide) h (fun _ h => ?_) (fun _ h => ?_)
  · refine T_iconst (0 : Int32) dX6_readOrder_56 (by decide) ?_
    exact K_X6_readOrder_b57 h
  · refine T_iconst (1 : Int32) dX6_readOrder_52 (by decide) ?_
    refine T_goto 57 dX6_readOrder_53 (by decide) ?_
    exact K_X6_readOrder_b57 h
set_option maxRecDepth 100000 in
set_option maxHeartbeats 4000000 in
theorem K_X6_readOrder_b22 {l : Launch} {G : smG} {P : Option Value → Hp → Prop}  {a16 : Nat} {i17 : Int32} {i19 : Int32} {s18 : Hp}  (h : OK jV (D_X6_readOrder_b22 a16 i17 i19 s18) P) : T l G RX6 cX6_readOrder 6 (sm_rm 4 0 0) (sm_E none yX6_readOrder.name) (sm_Qs G P 0 0) 0 0 22 [(0, .ref a16), (1, .int i17)] [.int i19] s18 := by
  unfold D_X6_readOrder_b22 at h
  refine T_istore_n (lv' := [(2, .int i19), (0, .ref a16), (1, .int i17)]) dX6_readOrder_22 rfl (by decide) rfl ?_
  refine T_aload_n dX6_readOrder_23 rfl 1 rfl ?_
  refine T_dup dX6_readOrder_24 rfl ?_
  refine T_getI dX6_readOrder_25 fl_RX6_33 h (fun i20 h => ?_)
  refine T_iload_n dX6_readOrder_28 rfl 0 rfl ?_
  refine T_callSI (As := [.int i19]) (rest := [.int i20, .ref a16]) dX6_readOrder_29 mc_X6_isKind mi_X6_isKind ml_RX6_61 rfl rfl (Nat.le_of_ble_eq_true rfl) ⟨⟨Nat.le_of_ble_eq_true rfl, Nat.le_of_ble_eq_true rfl⟩, ⟨Nat.le_of_ble_eq_true rfl, Nat.le_of_ble_eq_true rfl⟩⟩ K_X6_isKind h (fun i21 s22 h => ?_)
  refine T_if_eq 39 dX6_readOrder_32 (by decide) h (fun _ h => ?_) (fun _ h => ?_)
  · refine T_iconst (0 : Int32) dX6_readOrder_39 (by decide) ?_
    refine T_lv (lv' := [(0, .ref a16), (1, .int i17), (2, .int i19)]) [1, 2, 0] rfl ?_
    exact K_X6_readOrder_b40 h
  · refine T_iconst (1 : Int32) dX6_readOrder_35 (by decide) ?_
    refine T_goto 40 dX6_readOrder_36 (by decide) ?_
    refine T_lv (lv' := [(0, .ref a16), (1, .int i17), (2, .int i19)]) [1, 2, 0] rfl ?_
    exact K_X6_readOrder_b40 h
set_option maxRecDepth 100000 in
set_option maxHeartbeats 4000000 in
theorem K_X6_readOrder {l : Launch} {a0 : Nat} {i1 : Int32} {s0 : Hp} : ∀ P, OK jV (D_X6_readOrder a0 i1 s0) P → sm_Ct l yX6_readOrder cX6_readOrder 6 none 4 0 0 [.ref a0, .int i1] s0 P := by
  intro P h
  unfold D_X6_readOrder at h
  obtain ⟨_, hb0, h⟩ := h.bind
  refine sm_enter (own := RX6) (lv := [(0, .ref a0), (1, .int i1)]) (by decide) rfl (Nat.le_of_ble_eq_true rfl) rfl (fun G => ?_)
  refine T_aload_n dX6_readOrder_0 rfl 0 rfl ?_
  refine T_getI dX6_readOrder_1 fl_RX6_36 h (fun i11 h => ?_)
  refine T_if_eq 11 dX6_readOrder_4 (by decide) h (fun _ h => ?_) (fun _ h => ?_)
  · refine T_aload_n dX6_readOrder_11 rfl 0 rfl ?_
    refine T_getR dX6_readOrder_12 fl_RX6_40 h (fun a12 h => ?_)
    refine T_aload_n dX6_readOrder_15 rfl 0 rfl ?_
    refine T_getI dX6_readOrder_16 fl_RX6_33 h (fun i13 h => ?_)
    refine T_callVI (As := [.int i13]) (rest := []) (b := a12) (ci := 5) dX6_readOrder_19 mc_X5_sign mi_X5_sign ml_RX6_57 rfl (fun _ hr => chk_of hr) rfl rfl (Nat.le_of_ble_eq_true rfl) ⟨⟨Nat.le_of_ble_eq_true rfl, Nat.le_of_ble_eq_true rfl⟩, ⟨Nat.le_of_ble_eq_true rfl, Nat.le_of_ble_eq_true rfl⟩⟩ K_X5_sign h (fun i14 s15 h => ?_)
    exact K_X6_readOrder_b22 h
  · refine T_iconst (0 : Int32) dX6_readOrder_7 (by decide) ?_
    refine T_goto 22 dX6_readOrder_8 (by decide) ?_
    exact K_X6_readOrder_b22 h

def D_X9_at (a0 : Nat) (i1 : Int32) (i2 : Int32) (i3 : Int32) (s0 : Hp) : Option (Int32 × Hp) :=
  (isO s0 a0 8).bind fun _ =>
  (getR s0 a0 8 0).bind fun a11 =>
  bd (D_X2_isMirror a11 i1 s0) fun i12 s13 =>
  if i12 = 0 then
  some ((-1 : Int32), s13)
  else
  bd (D_X8_isHour i2 s13) fun i14 s15 =>
  if i14 = 0 then
  some ((-1 : Int32), s15)
  else
  (getR s15 a0 8 1).bind fun a16 =>
  (D_X4_look a16 s15).bind fun s17 =>
  (getR s17 a0 8 1).bind fun a18 =>
  bd (D_X4_work a18 i2 s17) fun i19 s20 =>
  if i3 = (0 : Int32) then
  (getR s20 a0 8 1).bind fun a21 =>
  bd (D_X4_shader a21 i1 i2 s20) fun i22 s23 =>
  if i22 = (-6 : Int32) then
  some ((0 : Int32), s23)
  else
  some ((1 : Int32), s23)
  else
  if i3 = (1 : Int32) then
  (getR s20 a0 8 1).bind fun a24 =>
  bd (D_X4_given a24 i1 s20) fun i25 s26 =>
  some (i25, s26)
  else
  if i3 = (2 : Int32) then
  (getR s20 a0 8 1).bind fun a27 =>
  bd (D_X4_isUsed a27 i1 s20) fun i28 s29 =>
  if i28 = 0 then
  some ((0 : Int32), s29)
  else
  some ((1 : Int32), s29)
  else
  if i3 = (3 : Int32) then
  (getR s20 a0 8 1).bind fun a30 =>
  bd (D_X4_shader a30 i1 i2 s20) fun i31 s32 =>
  some (i31, s32)
  else
  some ((-2 : Int32), s20)
set_option maxRecDepth 100000 in
set_option maxHeartbeats 4000000 in
theorem K_X9_at {l : Launch} {a0 : Nat} {i1 : Int32} {i2 : Int32} {i3 : Int32} {s0 : Hp} : ∀ P, OK jI (D_X9_at a0 i1 i2 i3 s0) P → sm_Ct l yX9_at cX9_at 4 (some .int) 4 0 0 [.ref a0, .int i1, .int i2, .int i3] s0 P := by
  intro P h
  unfold D_X9_at at h
  obtain ⟨_, hb0, h⟩ := h.bind
  refine sm_enter (own := RX9) (lv := [(0, .ref a0), (1, .int i1), (2, .int i2), (3, .int i3)]) (by decide) rfl (Nat.le_of_ble_eq_true rfl) rfl (fun G => ?_)
  refine T_aload_n dX9_at_0 rfl 0 rfl ?_
  refine T_getR dX9_at_1 fl_RX9_12 h (fun a11 h => ?_)
  refine T_iload_n dX9_at_4 rfl 1 rfl ?_
  refine T_callVI (As := [.int i1]) (rest := []) (b := a11) (ci := 2) dX9_at_5 mc_X2_isMirror mi_X2_isMirror ml_RX9_98 rfl (fun _ hr => chk_of hr) rfl rfl (Nat.le_of_ble_eq_true rfl) ⟨⟨Nat.le_of_ble_eq_true rfl, Nat.le_of_ble_eq_true rfl⟩, ⟨Nat.le_of_ble_eq_true rfl, Nat.le_of_ble_eq_true rfl⟩⟩ K_X2_isMirror h (fun i12 s13 h => ?_)
  refine T_if_eq 18 dX9_at_8 (by decide) h (fun _ h => ?_) (fun _ h => ?_)
  · refine T_iconst (-1 : Int32) dX9_at_18 (by decide) ?_
    exact T_ireturn dX9_at_19 (Nat.le_of_ble_eq_true rfl) (Nat.le_of_ble_eq_true rfl) h
  · refine T_iload_n dX9_at_11 rfl 2 rfl ?_
    refine T_callSI (As := [.int i2]) (rest := []) dX9_at_12 mc_X8_isHour mi_X8_isHour ml_RX9_129 rfl rfl (Nat.le_of_ble_eq_true rfl) ⟨⟨Nat.le_of_ble_eq_true rfl, Nat.le_of_ble_eq_true rfl⟩, ⟨Nat.le_of_ble_eq_true rfl, Nat.le_of_ble_eq_true rfl⟩⟩ K_X8_isHour h (fun i14 s15 h => ?_)
    refine T_if_ne 20 dX9_at_15 (by decide) h (fun _ h => ?_) (fun _ h => ?_)
    · refine T_aload_n dX9_at_20 rfl 0 rfl ?_
      refine T_getR dX9_at_21 fl_RX9_21 h (fun a16 h => ?_)
      refine T_callVV (As := []) (rest := []) (b := a16) (ci := 4) dX9_at_24 mc_X4_look mi_X4_look ml_RX9_120 rfl (fun _ hr => chk_of hr) rfl rfl (Nat.le_of_ble_eq_true rfl) ⟨⟨Nat.le_of_ble_eq_true rfl, Nat.le_of_ble_eq_true rfl⟩, ⟨Nat.le_of_ble_eq_true rfl, Nat.le_of_ble_eq_true rfl⟩⟩ K_X4_look h (fun s17 h => ?_)
      refine T_aload_n dX9_at_27 rfl 0 rfl ?_
      refine T_getR dX9_at_28 fl_RX9_21 h (fun a18 h => ?_)
      refine T_iload_n dX9_at_31 rfl 2 rfl ?_
      refine T_callVI (As := [.int i2]) (rest := []) (b := a18) (ci := 4) dX9_at_32 mc_X4_work mi_X4_work ml_RX9_134 rfl (fun _ hr => chk_of hr) rfl rfl (Nat.le_of_ble_eq_true rfl) ⟨⟨Nat.le_of_ble_eq_true rfl, Nat.le_of_ble_eq_true rfl⟩, ⟨Nat.le_of_ble_eq_true rfl, Nat.le_of_ble_eq_true rfl⟩⟩ K_X4_work h (fun i19 s20 h => ?_)
      refine T_pop dX9_at_35 rfl ?_
      refine T_iload_n dX9_at_36 rfl 3 rfl ?_
      refine T_ite h (fun c0 h => ?_) (fun c0 h => ?_)
      · refine T_tableIn 68 dX9_at_37 (by rw [c0]; decide) (by rw [c0]; decide) (by rw [c0]; rfl) (by decide) ?_
        refine T_aload_n dX9_at_68 rfl 0 rfl ?_
        refine T_getR dX9_at_69 fl_RX9_21 h (fun a21 h => ?_)
        refine T_iload_n dX9_at_72 rfl 1 rfl ?_
        refine T_iload_n dX9_at_73 rfl 2 rfl ?_
        refine T_callVI (As := [.int i1, .int i2]) (rest := []) (b := a21) (ci := 4) dX9_at_74 mc_X4_shader mi_X4_shader ml_RX9_137 rfl (fun _ hr => chk_of hr) rfl rfl (Nat.le_of_ble_eq_true rfl) ⟨⟨Nat.le_of_ble_eq_true rfl, Nat.le_of_ble_eq_true rfl⟩, ⟨Nat.le_of_ble_eq_true rfl, Nat.le_of_ble_eq_true rfl⟩⟩ K_X4_shader h (fun i22 s23 h => ?_)
        refine T_bipush (-6 : Int32) dX9_at_77 (by decide) ?_
        refine T_icmp_ne 86 dX9_at_79 (by decide) h (fun _ h => ?_) (fun _ h => ?_)
        · refine T_iconst (1 : Int32) dX9_at_86 (by decide) ?_
          exact T_ireturn dX9_at_87 (Nat.le_of_ble_eq_true rfl) (Nat.le_of_ble_eq_true rfl) h
        · refine T_iconst (0 : Int32) dX9_at_82 (by decide) ?_
          refine T_goto 87 dX9_at_83 (by decide) ?_
          exact T_ireturn dX9_at_87 (Nat.le_of_ble_eq_true rfl) (Nat.le_of_ble_eq_true rfl) h
      refine T_ite h (fun c1 h => ?_) (fun c1 h => ?_)
      · refine T_tableIn 88 dX9_at_37 (by rw [c1]; decide) (by rw [c1]; decide) (by rw [c1]; rfl) (by decide) ?_
        refine T_aload_n dX9_at_88 rfl 0 rfl ?_
        refine T_getR dX9_at_89 fl_RX9_21 h (fun a24 h => ?_)
        refine T_iload_n dX9_at_92 rfl 1 rfl ?_
        refine T_callVI (As := [.int i1]) (rest := []) (b := a24) (ci := 4) dX9_at_93 mc_X4_given mi_X4_given ml_RX9_140 rfl (fun _ hr => chk_of hr) rfl rfl (Nat.le_of_ble_eq_true rfl) ⟨⟨Nat.le_of_ble_eq_true rfl, Nat.le_of_ble_eq_true rfl⟩, ⟨Nat.le_of_ble_eq_true rfl, Nat.le_of_ble_eq_true rfl⟩⟩ K_X4_given h (fun i25 s26 h => ?_)
        exact T_ireturn dX9_at_96 (Nat.le_of_ble_eq_true rfl) (Nat.le_of_ble_eq_true rfl) h
      refine T_ite h (fun c2 h => ?_) (fun c2 h => ?_)
      · refine T_tableIn 97 dX9_at_37 (by rw [c2]; decide) (by rw [c2]; decide) (by rw [c2]; rfl) (by decide) ?_
        refine T_aload_n dX9_at_97 rfl 0 rfl ?_
        refine T_getR dX9_at_98 fl_RX9_21 h (fun a27 h => ?_)
        refine T_iload_n dX9_at_101 rfl 1 rfl ?_
        refine T_callVI (As := [.int i1]) (rest := []) (b := a27) (ci := 4) dX9_at_102 mc_X4_isUsed mi_X4_isUsed ml_RX9_143 rfl (fun _ hr => chk_of hr) rfl rfl (Nat.le_of_ble_eq_true rfl) ⟨⟨Nat.le_of_ble_eq_true rfl, Nat.le_of_ble_eq_true rfl⟩, ⟨Nat.le_of_ble_eq_true rfl, Nat.le_of_ble_eq_true rfl⟩⟩ K_X4_isUsed h (fun i28 s29 h => ?_)
        refine T_if_eq 112 dX9_at_105 (by decide) h (fun _ h => ?_) (fun _ h => ?_)
        · refine T_iconst (0 : Int32) dX9_at_112 (by decide) ?_
          exact T_ireturn dX9_at_113 (Nat.le_of_ble_eq_true rfl) (Nat.le_of_ble_eq_true rfl) h
        · refine T_iconst (1 : Int32) dX9_at_108 (by decide) ?_
          refine T_goto 113 dX9_at_109 (by decide) ?_
          exact T_ireturn dX9_at_113 (Nat.le_of_ble_eq_true rfl) (Nat.le_of_ble_eq_true rfl) h
      refine T_ite h (fun c3 h => ?_) (fun c3 h => ?_)
      · refine T_tableIn 114 dX9_at_37 (by rw [c3]; decide) (by rw [c3]; decide) (by rw [c3]; rfl) (by decide) ?_
        refine T_aload_n dX9_at_114 rfl 0 rfl ?_
        refine T_getR dX9_at_115 fl_RX9_21 h (fun a30 h => ?_)
        refine T_iload_n dX9_at_118 rfl 1 rfl ?_
        refine T_iload_n dX9_at_119 rfl 2 rfl ?_
        refine T_callVI (As := [.int i1, .int i2]) (rest := []) (b := a30) (ci := 4) dX9_at_120 mc_X4_shader mi_X4_shader ml_RX9_137 rfl (fun _ hr => chk_of hr) rfl rfl (Nat.le_of_ble_eq_true rfl) ⟨⟨Nat.le_of_ble_eq_true rfl, Nat.le_of_ble_eq_true rfl⟩, ⟨Nat.le_of_ble_eq_true rfl, Nat.le_of_ble_eq_true rfl⟩⟩ K_X4_shader h (fun i31 s32 h => ?_)
        exact T_ireturn dX9_at_123 (Nat.le_of_ble_eq_true rfl) (Nat.le_of_ble_eq_true rfl) h
      refine T_tableOut 124 dX9_at_37 (by have e0 := lv_neT (a := 0) c0 rfl; have e1 := lv_neT (a := 1) c1 rfl; have e2 := lv_neT (a := 2) c2 rfl; have e3 := lv_neT (a := 3) c3 rfl; omega) (by decide) ?_
      refine T_bipush (-2 : Int32) dX9_at_124 (by decide) ?_
      exact T_ireturn dX9_at_126 (Nat.le_of_ble_eq_true rfl) (Nat.le_of_ble_eq_true rfl) h
    · refine T_iconst (-1 : Int32) dX9_at_18 (by decide) ?_
      exact T_ireturn dX9_at_19 (Nat.le_of_ble_eq_true rfl) (Nat.le_of_ble_eq_true rfl) h

def D_X9_of (a0 : Nat) (i1 : Int32) (i2 : Int32) (s0 : Hp) : Option (Int32 × Hp) :=
  (isO s0 a0 8).bind fun _ =>
  (getR s0 a0 8 0).bind fun a11 =>
  bd (D_X2_isMirror a11 i1 s0) fun i12 s13 =>
  if i12 = 0 then
  some ((-1 : Int32), s13)
  else
  if i2 = (0 : Int32) then
  (getR s13 a0 8 0).bind fun a14 =>
  (getR s13 a14 2 1).bind fun a15 =>
  bd (D_X1_read a15 i1 s13) fun i16 s17 =>
  some (i16, s17)
  else
  if i2 = (1 : Int32) then
  (getR s13 a0 8 0).bind fun a18 =>
  (getR s13 a18 2 2).bind fun a19 =>
  bd (D_X1_read a19 i1 s13) fun i20 s21 =>
  some (i20, s21)
  else
  if i2 = (2 : Int32) then
  (getR s13 a0 8 0).bind fun a22 =>
  (getR s13 a22 2 3).bind fun a23 =>
  bd (D_X1_read a23 i1 s13) fun i24 s25 =>
  some (i24, s25)
  else
  if i2 = (3 : Int32) then
  (getR s13 a0 8 0).bind fun a26 =>
  (getR s13 a26 2 4).bind fun a27 =>
  bd (D_X1_read a27 i1 s13) fun i28 s29 =>
  some (i28, s29)
  else
  if i2 = (4 : Int32) then
  (getR s13 a0 8 1).bind fun a30 =>
  (D_X4_look a30 s13).bind fun s31 =>
  (getR s31 a0 8 1).bind fun a32 =>
  bd (D_X4_isBlocked a32 i1 s31) fun i33 s34 =>
  if i33 = 0 then
  some ((0 : Int32), s34)
  else
  some ((1 : Int32), s34)
  else
  if i2 = (5 : Int32) then
  (getR s13 a0 8 0).bind fun a35 =>
  (getR s13 a35 2 5).bind fun a36 =>
  bd (D_X1_read a36 i1 s13) fun i37 s38 =>
  some (i37, s38)
  else
  some ((-2 : Int32), s13)
set_option maxRecDepth 100000 in
set_option maxHeartbeats 4000000 in
theorem K_X9_of {l : Launch} {a0 : Nat} {i1 : Int32} {i2 : Int32} {s0 : Hp} : ∀ P, OK jI (D_X9_of a0 i1 i2 s0) P → sm_Ct l yX9_of cX9_of 3 (some .int) 4 0 0 [.ref a0, .int i1, .int i2] s0 P := by
  intro P h
  unfold D_X9_of at h
  obtain ⟨_, hb0, h⟩ := h.bind
  refine sm_enter (own := RX9) (lv := [(0, .ref a0), (1, .int i1), (2, .int i2)]) (by decide) rfl (Nat.le_of_ble_eq_true rfl) rfl (fun G => ?_)
  refine T_aload_n dX9_of_0 rfl 0 rfl ?_
  refine T_getR dX9_of_1 fl_RX9_12 h (fun a11 h => ?_)
  refine T_iload_n dX9_of_4 rfl 1 rfl ?_
  refine T_callVI (As := [.int i1]) (rest := []) (b := a11) (ci := 2) dX9_of_5 mc_X2_isMirror mi_X2_isMirror ml_RX9_98 rfl (fun _ hr => chk_of hr) rfl rfl (Nat.le_of_ble_eq_true rfl) ⟨⟨Nat.le_of_ble_eq_true rfl, Nat.le_of_ble_eq_true rfl⟩, ⟨Nat.le_of_ble_eq_true rfl, Nat.le_of_ble_eq_true rfl⟩⟩ K_X2_isMirror h (fun i12 s13 h => ?_)
  refine T_if_ne 13 dX9_of_8 (by decide) h (fun _ h => ?_) (fun _ h => ?_)
  · refine T_iload_n dX9_of_13 rfl 2 rfl ?_
    refine T_ite h (fun c0 h => ?_) (fun c0 h => ?_)
    · refine T_tableIn 52 dX9_of_14 (by rw [c0]; decide) (by rw [c0]; decide) (by rw [c0]; rfl) (by decide) ?_
      refine T_aload_n dX9_of_52 rfl 0 rfl ?_
      refine T_getR dX9_of_53 fl_RX9_12 h (fun a14 h => ?_)
      refine T_getR dX9_of_56 fl_RX9_102 h (fun a15 h => ?_)
      refine T_iload_n dX9_of_59 rfl 1 rfl ?_
      refine T_callVI (As := [.int i1]) (rest := []) (b := a15) (ci := 1) dX9_of_60 mc_X1_read mi_X1_read ml_RX9_106 rfl (fun _ hr => chk_of hr) rfl rfl (Nat.le_of_ble_eq_true rfl) ⟨⟨Nat.le_of_ble_eq_true rfl, Nat.le_of_ble_eq_true rfl⟩, ⟨Nat.le_of_ble_eq_true rfl, Nat.le_of_ble_eq_true rfl⟩⟩ K_X1_read h (fun i16 s17 h => ?_)
      exact T_ireturn dX9_of_63 (Nat.le_of_ble_eq_true rfl) (Nat.le_of_ble_eq_true rfl) h
    refine T_ite h (fun c1 h => ?_) (fun c1 h => ?_)
    · refine T_tableIn 64 dX9_of_14 (by rw [c1]; decide) (by rw [c1]; decide) (by rw [c1]; rfl) (by decide) ?_
      refine T_aload_n dX9_of_64 rfl 0 rfl ?_
      refine T_getR dX9_of_65 fl_RX9_12 h (fun a18 h => ?_)
      refine T_getR dX9_of_68 fl_RX9_111 h (fun a19 h => ?_)
      refine T_iload_n dX9_of_71 rfl 1 rfl ?_
      refine T_callVI (As := [.int i1]) (rest := []) (b := a19) (ci := 1) dX9_of_72 mc_X1_read mi_X1_read ml_RX9_106 rfl (fun _ hr => chk_of hr) rfl rfl (Nat.le_of_ble_eq_true rfl) ⟨⟨Nat.le_of_ble_eq_true rfl, Nat.le_of_ble_eq_true rfl⟩, ⟨Nat.le_of_ble_eq_true rfl, Nat.le_of_ble_eq_true rfl⟩⟩ K_X1_read h (fun i20 s21 h => ?_)
      exact T_ireturn dX9_of_75 (Nat.le_of_ble_eq_true rfl) (Nat.le_of_ble_eq_true rfl) h
    refine T_ite h (fun c2 h => ?_) (fun c2 h => ?_)
    · refine T_tableIn 76 dX9_of_14 (by rw [c2]; decide) (by rw [c2]; decide) (by rw [c2]; rfl) (by decide) ?_
      refine T_aload_n dX9_of_76 rfl 0 rfl ?_
      refine T_getR dX9_of_77 fl_RX9_12 h (fun a22 h => ?_)
      refine T_getR dX9_of_80 fl_RX9_114 h (fun a23 h => ?_)
      refine T_iload_n dX9_of_83 rfl 1 rfl ?_
      refine T_callVI (As := [.int i1]) (rest := []) (b := a23) (ci := 1) dX9_of_84 mc_X1_read mi_X1_read ml_RX9_106 rfl (fun _ hr => chk_of hr) rfl rfl (Nat.le_of_ble_eq_true rfl) ⟨⟨Nat.le_of_ble_eq_true rfl, Nat.le_of_ble_eq_true rfl⟩, ⟨Nat.le_of_ble_eq_true rfl, Nat.le_of_ble_eq_true rfl⟩⟩ K_X1_read h (fun i24 s25 h => ?_)
      exact T_ireturn dX9_of_87 (Nat.le_of_ble_eq_true rfl) (Nat.le_of_ble_eq_true rfl) h
    refine T_ite h (fun c3 h => ?_) (fun c3 h => ?_)
    · refine T_tableIn 88 dX9_of_14 (by rw [c3]; decide) (by rw [c3]; decide) (by rw [c3]; rfl) (by decide) ?_
      refine T_aload_n dX9_of_88 rfl 0 rfl ?_
      refine T_getR dX9_of_89 fl_RX9_12 h (fun a26 h => ?_)
      refine T_getR dX9_of_92 fl_RX9_117 h (fun a27 h => ?_)
      refine T_iload_n dX9_of_95 rfl 1 rfl ?_
      refine T_callVI (As := [.int i1]) (rest := []) (b := a27) (ci := 1) dX9_of_96 mc_X1_read mi_X1_read ml_RX9_106 rfl (fun _ hr => chk_of hr) rfl rfl (Nat.le_of_ble_eq_true rfl) ⟨⟨Nat.le_of_ble_eq_true rfl, Nat.le_of_ble_eq_true rfl⟩, ⟨Nat.le_of_ble_eq_true rfl, Nat.le_of_ble_eq_true rfl⟩⟩ K_X1_read h (fun i28 s29 h => ?_)
      exact T_ireturn dX9_of_99 (Nat.le_of_ble_eq_true rfl) (Nat.le_of_ble_eq_true rfl) h
    refine T_ite h (fun c4 h => ?_) (fun c4 h => ?_)
    · refine T_tableIn 100 dX9_of_14 (by rw [c4]; decide) (by rw [c4]; decide) (by rw [c4]; rfl) (by decide) ?_
      refine T_aload_n dX9_of_100 rfl 0 rfl ?_
      refine T_getR dX9_of_101 fl_RX9_21 h (fun a30 h => ?_)
      refine T_callVV (As := []) (rest := []) (b := a30) (ci := 4) dX9_of_104 mc_X4_look mi_X4_look ml_RX9_120 rfl (fun _ hr => chk_of hr) rfl rfl (Nat.le_of_ble_eq_true rfl) ⟨⟨Nat.le_of_ble_eq_true rfl, Nat.le_of_ble_eq_true rfl⟩, ⟨Nat.le_of_ble_eq_true rfl, Nat.le_of_ble_eq_true rfl⟩⟩ K_X4_look h (fun s31 h => ?_)
      refine T_aload_n dX9_of_107 rfl 0 rfl ?_
      refine T_getR dX9_of_108 fl_RX9_21 h (fun a32 h => ?_)
      refine T_iload_n dX9_of_111 rfl 1 rfl ?_
      refine T_callVI (As := [.int i1]) (rest := []) (b := a32) (ci := 4) dX9_of_112 mc_X4_isBlocked mi_X4_isBlocked ml_RX9_123 rfl (fun _ hr => chk_of hr) rfl rfl (Nat.le_of_ble_eq_true rfl) ⟨⟨Nat.le_of_ble_eq_true rfl, Nat.le_of_ble_eq_true rfl⟩, ⟨Nat.le_of_ble_eq_true rfl, Nat.le_of_ble_eq_true rfl⟩⟩ K_X4_isBlocked h (fun i33 s34 h => ?_)
      refine T_if_eq 122 dX9_of_115 (by decide) h (fun _ h => ?_) (fun _ h => ?_)
      · refine T_iconst (0 : Int32) dX9_of_122 (by decide) ?_
        exact T_ireturn dX9_of_123 (Nat.le_of_ble_eq_true rfl) (Nat.le_of_ble_eq_true rfl) h
      · refine T_iconst (1 : Int32) dX9_of_118 (by decide) ?_
        refine T_goto 123 dX9_of_119 (by decide) ?_
        exact T_ireturn dX9_of_123 (Nat.le_of_ble_eq_true rfl) (Nat.le_of_ble_eq_true rfl) h
    refine T_ite h (fun c5 h => ?_) (fun c5 h => ?_)
    · refine T_tableIn 124 dX9_of_14 (by rw [c5]; decide) (by rw [c5]; decide) (by rw [c5]; rfl) (by decide) ?_
      refine T_aload_n dX9_of_124 rfl 0 rfl ?_
      refine T_getR dX9_of_125 fl_RX9_12 h (fun a35 h => ?_)
      refine T_getR dX9_of_128 fl_RX9_126 h (fun a36 h => ?_)
      refine T_iload_n dX9_of_131 rfl 1 rfl ?_
      refine T_callVI (As := [.int i1]) (rest := []) (b := a36) (ci := 1) dX9_of_132 mc_X1_read mi_X1_read ml_RX9_106 rfl (fun _ hr => chk_of hr) rfl rfl (Nat.le_of_ble_eq_true rfl) ⟨⟨Nat.le_of_ble_eq_true rfl, Nat.le_of_ble_eq_true rfl⟩, ⟨Nat.le_of_ble_eq_true rfl, Nat.le_of_ble_eq_true rfl⟩⟩ K_X1_read h (fun i37 s38 h => ?_)
      exact T_ireturn dX9_of_135 (Nat.le_of_ble_eq_true rfl) (Nat.le_of_ble_eq_true rfl) h
    refine T_tableOut 136 dX9_of_14 (by have e0 := lv_neT (a := 0) c0 rfl; have e1 := lv_neT (a := 1) c1 rfl; have e2 := lv_neT (a := 2) c2 rfl; have e3 := lv_neT (a := 3) c3 rfl; have e4 := lv_neT (a := 4) c4 rfl; have e5 := lv_neT (a := 5) c5 rfl; omega) (by decide) ?_
    refine T_bipush (-2 : Int32) dX9_of_136 (by decide) ?_
    exact T_ireturn dX9_of_138 (Nat.le_of_ble_eq_true rfl) (Nat.le_of_ble_eq_true rfl) h
  · refine T_iconst (-1 : Int32) dX9_of_11 (by decide) ?_
    exact T_ireturn dX9_of_12 (Nat.le_of_ble_eq_true rfl) (Nat.le_of_ble_eq_true rfl) h

def D_X9_point (a0 : Nat) (i1 : Int32) (i2 : Int32) (i3 : Int32) (s0 : Hp) : Option (Int32 × Hp) :=
  (isO s0 a0 8).bind fun _ =>
  bd (D_X9_isAimPoint i1 s0) fun i11 s12 =>
  if i11 = 0 then
  some ((-1 : Int32), s12)
  else
  bd (D_X8_isHour i2 s12) fun i13 s14 =>
  if i13 = 0 then
  some ((-1 : Int32), s14)
  else
  (getR s14 a0 8 1).bind fun a15 =>
  (D_X4_look a15 s14).bind fun s16 =>
  (getR s16 a0 8 1).bind fun a17 =>
  bd (D_X4_work a17 i2 s16) fun i18 s19 =>
  if i3 = (0 : Int32) then
  (getR s19 a0 8 1).bind fun a20 =>
  bd (D_X4_held a20 i1 s19) fun i21 s22 =>
  some (i21, s22)
  else
  if i3 = (1 : Int32) then
  (getR s19 a0 8 0).bind fun a23 =>
  bd (D_X2_mirrorsOf a23 i1 s19) fun i24 s25 =>
  some (i24, s25)
  else
  if i3 = (2 : Int32) then
  (getR s19 a0 8 0).bind fun a26 =>
  bd (D_X2_mirrorsOf a26 i1 s19) fun i27 s28 =>
  (getR s28 a0 8 1).bind fun a29 =>
  bd (D_X4_used a29 s28) fun i30 s31 =>
  some ((i27 &&& i30), s31)
  else
  some ((-2 : Int32), s19)
set_option maxRecDepth 100000 in
set_option maxHeartbeats 4000000 in
theorem K_X9_point {l : Launch} {a0 : Nat} {i1 : Int32} {i2 : Int32} {i3 : Int32} {s0 : Hp} : ∀ P, OK jI (D_X9_point a0 i1 i2 i3 s0) P → sm_Ct l yX9_point cX9_point 4 (some .int) 4 0 0 [.ref a0, .int i1, .int i2, .int i3] s0 P := by
  intro P h
  unfold D_X9_point at h
  obtain ⟨_, hb0, h⟩ := h.bind
  refine sm_enter (own := RX9) (lv := [(0, .ref a0), (1, .int i1), (2, .int i2), (3, .int i3)]) (by decide) rfl (Nat.le_of_ble_eq_true rfl) rfl (fun G => ?_)
  refine T_iload_n dX9_point_0 rfl 1 rfl ?_
  refine T_callSI (As := [.int i1]) (rest := []) dX9_point_1 mc_X9_isAimPoint mi_X9_isAimPoint ml_RX9_146 rfl rfl (Nat.le_of_ble_eq_true rfl) ⟨⟨Nat.le_of_ble_eq_true rfl, Nat.le_of_ble_eq_true rfl⟩, ⟨Nat.le_of_ble_eq_true rfl, Nat.le_of_ble_eq_true rfl⟩⟩ K_X9_isAimPoint h (fun i11 s12 h => ?_)
  refine T_if_eq 14 dX9_point_4 (by decide) h (fun _ h => ?_) (fun _ h => ?_)
  · refine T_iconst (-1 : Int32) dX9_point_14 (by decide) ?_
    exact T_ireturn dX9_point_15 (Nat.le_of_ble_eq_true rfl) (Nat.le_of_ble_eq_true rfl) h
  · refine T_iload_n dX9_point_7 rfl 2 rfl ?_
    refine T_callSI (As := [.int i2]) (rest := []) dX9_point_8 mc_X8_isHour mi_X8_isHour ml_RX9_129 rfl rfl (Nat.le_of_ble_eq_true rfl) ⟨⟨Nat.le_of_ble_eq_true rfl, Nat.le_of_ble_eq_true rfl⟩, ⟨Nat.le_of_ble_eq_true rfl, Nat.le_of_ble_eq_true rfl⟩⟩ K_X8_isHour h (fun i13 s14 h => ?_)
    refine T_if_ne 16 dX9_point_11 (by decide) h (fun _ h => ?_) (fun _ h => ?_)
    · refine T_aload_n dX9_point_16 rfl 0 rfl ?_
      refine T_getR dX9_point_17 fl_RX9_21 h (fun a15 h => ?_)
      refine T_callVV (As := []) (rest := []) (b := a15) (ci := 4) dX9_point_20 mc_X4_look mi_X4_look ml_RX9_120 rfl (fun _ hr => chk_of hr) rfl rfl (Nat.le_of_ble_eq_true rfl) ⟨⟨Nat.le_of_ble_eq_true rfl, Nat.le_of_ble_eq_true rfl⟩, ⟨Nat.le_of_ble_eq_true rfl, Nat.le_of_ble_eq_true rfl⟩⟩ K_X4_look h (fun s16 h => ?_)
      refine T_aload_n dX9_point_23 rfl 0 rfl ?_
      refine T_getR dX9_point_24 fl_RX9_21 h (fun a17 h => ?_)
      refine T_iload_n dX9_point_27 rfl 2 rfl ?_
      refine T_callVI (As := [.int i2]) (rest := []) (b := a17) (ci := 4) dX9_point_28 mc_X4_work mi_X4_work ml_RX9_134 rfl (fun _ hr => chk_of hr) rfl rfl (Nat.le_of_ble_eq_true rfl) ⟨⟨Nat.le_of_ble_eq_true rfl, Nat.le_of_ble_eq_true rfl⟩, ⟨Nat.le_of_ble_eq_true rfl, Nat.le_of_ble_eq_true rfl⟩⟩ K_X4_work h (fun i18 s19 h => ?_)
      refine T_pop dX9_point_31 rfl ?_
      refine T_iload_n dX9_point_32 rfl 3 rfl ?_
      refine T_ite h (fun c0 h => ?_) (fun c0 h => ?_)
      · refine T_tableIn 60 dX9_point_33 (by rw [c0]; decide) (by rw [c0]; decide) (by rw [c0]; rfl) (by decide) ?_
        refine T_aload_n dX9_point_60 rfl 0 rfl ?_
        refine T_getR dX9_point_61 fl_RX9_21 h (fun a20 h => ?_)
        refine T_iload_n dX9_point_64 rfl 1 rfl ?_
        refine T_callVI (As := [.int i1]) (rest := []) (b := a20) (ci := 4) dX9_point_65 mc_X4_held mi_X4_held ml_RX9_149 rfl (fun _ hr => chk_of hr) rfl rfl (Nat.le_of_ble_eq_true rfl) ⟨⟨Nat.le_of_ble_eq_true rfl, Nat.le_of_ble_eq_true rfl⟩, ⟨Nat.le_of_ble_eq_true rfl, Nat.le_of_ble_eq_true rfl⟩⟩ K_X4_held h (fun i21 s22 h => ?_)
        exact T_ireturn dX9_point_68 (Nat.le_of_ble_eq_true rfl) (Nat.le_of_ble_eq_true rfl) h
      refine T_ite h (fun c1 h => ?_) (fun c1 h => ?_)
      · refine T_tableIn 69 dX9_point_33 (by rw [c1]; decide) (by rw [c1]; decide) (by rw [c1]; rfl) (by decide) ?_
        refine T_aload_n dX9_point_69 rfl 0 rfl ?_
        refine T_getR dX9_point_70 fl_RX9_12 h (fun a23 h => ?_)
        refine T_iload_n dX9_point_73 rfl 1 rfl ?_
        refine T_callVI (As := [.int i1]) (rest := []) (b := a23) (ci := 2) dX9_point_74 mc_X2_mirrorsOf mi_X2_mirrorsOf ml_RX9_152 rfl (fun _ hr => chk_of hr) rfl rfl (Nat.le_of_ble_eq_true rfl) ⟨⟨Nat.le_of_ble_eq_true rfl, Nat.le_of_ble_eq_true rfl⟩, ⟨Nat.le_of_ble_eq_true rfl, Nat.le_of_ble_eq_true rfl⟩⟩ K_X2_mirrorsOf h (fun i24 s25 h => ?_)
        exact T_ireturn dX9_point_77 (Nat.le_of_ble_eq_true rfl) (Nat.le_of_ble_eq_true rfl) h
      refine T_ite h (fun c2 h => ?_) (fun c2 h => ?_)
      · refine T_tableIn 78 dX9_point_33 (by rw [c2]; decide) (by rw [c2]; decide) (by rw [c2]; rfl) (by decide) ?_
        refine T_aload_n dX9_point_78 rfl 0 rfl ?_
        refine T_getR dX9_point_79 fl_RX9_12 h (fun a26 h => ?_)
        refine T_iload_n dX9_point_82 rfl 1 rfl ?_
        refine T_callVI (As := [.int i1]) (rest := []) (b := a26) (ci := 2) dX9_point_83 mc_X2_mirrorsOf mi_X2_mirrorsOf ml_RX9_152 rfl (fun _ hr => chk_of hr) rfl rfl (Nat.le_of_ble_eq_true rfl) ⟨⟨Nat.le_of_ble_eq_true rfl, Nat.le_of_ble_eq_true rfl⟩, ⟨Nat.le_of_ble_eq_true rfl, Nat.le_of_ble_eq_true rfl⟩⟩ K_X2_mirrorsOf h (fun i27 s28 h => ?_)
        refine T_aload_n dX9_point_86 rfl 0 rfl ?_
        refine T_getR dX9_point_87 fl_RX9_21 h (fun a29 h => ?_)
        refine T_callVI (As := []) (rest := [.int i27]) (b := a29) (ci := 4) dX9_point_90 mc_X4_used mi_X4_used ml_RX9_155 rfl (fun _ hr => chk_of hr) rfl rfl (Nat.le_of_ble_eq_true rfl) ⟨⟨Nat.le_of_ble_eq_true rfl, Nat.le_of_ble_eq_true rfl⟩, ⟨Nat.le_of_ble_eq_true rfl, Nat.le_of_ble_eq_true rfl⟩⟩ K_X4_used h (fun i30 s31 h => ?_)
        refine T_iand dX9_point_93 ?_
        exact T_ireturn dX9_point_94 (Nat.le_of_ble_eq_true rfl) (Nat.le_of_ble_eq_true rfl) h
      refine T_tableOut 95 dX9_point_33 (by have e0 := lv_neT (a := 0) c0 rfl; have e1 := lv_neT (a := 1) c1 rfl; have e2 := lv_neT (a := 2) c2 rfl; omega) (by decide) ?_
      refine T_bipush (-2 : Int32) dX9_point_95 (by decide) ?_
      exact T_ireturn dX9_point_97 (Nat.le_of_ble_eq_true rfl) (Nat.le_of_ble_eq_true rfl) h
    · refine T_iconst (-1 : Int32) dX9_point_14 (by decide) ?_
      exact T_ireturn dX9_point_15 (Nat.le_of_ble_eq_true rfl) (Nat.le_of_ble_eq_true rfl) h

def D_X9_save (a0 : Nat) (i1 : Int32) (s0 : Hp) : Option (Int32 × Hp) :=
  (isO s0 a0 8).bind fun _ =>
  bd (D_X9_isSlot i1 s0) fun i11 s12 =>
  if i11 = 0 then
  some ((-2 : Int32), s12)
  else
  (getR s12 a0 8 6).bind fun a13 =>
  (getR s12 a0 8 0).bind fun a14 =>
  (D_X7_keep a13 i1 a14 s12).bind fun s15 =>
  (getI s15 a0 8 7).bind fun i16 =>
  (putI s15 a0 8 7 (i16 ||| ((1 : Int32) <<< (i1 &&& 31)))).bind fun s17 =>
  (getR s17 a0 8 0).bind fun a18 =>
  (getI s17 a18 2 6).bind fun i19 =>
  some (i19, s17)
set_option maxRecDepth 100000 in
set_option maxHeartbeats 4000000 in
theorem K_X9_save {l : Launch} {a0 : Nat} {i1 : Int32} {s0 : Hp} : ∀ P, OK jI (D_X9_save a0 i1 s0) P → sm_Ct l yX9_save cX9_save 2 (some .int) 4 0 0 [.ref a0, .int i1] s0 P := by
  intro P h
  unfold D_X9_save at h
  obtain ⟨_, hb0, h⟩ := h.bind
  refine sm_enter (own := RX9) (lv := [(0, .ref a0), (1, .int i1)]) (by decide) rfl (Nat.le_of_ble_eq_true rfl) rfl (fun G => ?_)
  refine T_iload_n dX9_save_0 rfl 1 rfl ?_
  refine T_callSI (As := [.int i1]) (rest := []) dX9_save_1 mc_X9_isSlot mi_X9_isSlot ml_RX9_234 rfl rfl (Nat.le_of_ble_eq_true rfl) ⟨⟨Nat.le_of_ble_eq_true rfl, Nat.le_of_ble_eq_true rfl⟩, ⟨Nat.le_of_ble_eq_true rfl, Nat.le_of_ble_eq_true rfl⟩⟩ K_X9_isSlot h (fun i11 s12 h => ?_)
  refine T_if_ne 10 dX9_save_4 (by decide) h (fun _ h => ?_) (fun _ h => ?_)
  · refine T_aload_n dX9_save_10 rfl 0 rfl ?_
    refine T_getR dX9_save_11 fl_RX9_60 h (fun a13 h => ?_)
    refine T_iload_n dX9_save_14 rfl 1 rfl ?_
    refine T_aload_n dX9_save_15 rfl 0 rfl ?_
    refine T_getR dX9_save_16 fl_RX9_12 h (fun a14 h => ?_)
    refine T_callVV (As := [.int i1, .ref a14]) (rest := []) (b := a13) (ci := 7) dX9_save_19 mc_X7_keep mi_X7_keep ml_RX9_237 rfl (fun _ hr => chk_of hr) rfl rfl (Nat.le_of_ble_eq_true rfl) ⟨⟨Nat.le_of_ble_eq_true rfl, Nat.le_of_ble_eq_true rfl⟩, ⟨Nat.le_of_ble_eq_true rfl, Nat.le_of_ble_eq_true rfl⟩⟩ K_X7_keep h (fun s15 h => ?_)
    refine T_aload_n dX9_save_22 rfl 0 rfl ?_
    refine T_dup dX9_save_23 rfl ?_
    refine T_getI dX9_save_24 fl_RX9_64 h (fun i16 h => ?_)
    refine T_iconst (1 : Int32) dX9_save_27 (by decide) ?_
    refine T_iload_n dX9_save_28 rfl 1 rfl ?_
    refine T_ishl dX9_save_29 ?_
    refine T_ior dX9_save_30 ?_
    refine T_putI dX9_save_31 fl_RX9_64 ft_8_7 h (fun s17 h => ?_)
    refine T_aload_n dX9_save_34 rfl 0 rfl ?_
    refine T_getR dX9_save_35 fl_RX9_12 h (fun a18 h => ?_)
    refine T_getI dX9_save_38 fl_RX9_162 h (fun i19 h => ?_)
    exact T_ireturn dX9_save_41 (Nat.le_of_ble_eq_true rfl) (Nat.le_of_ble_eq_true rfl) h
  · refine T_bipush (-2 : Int32) dX9_save_7 (by decide) ?_
    exact T_ireturn dX9_save_9 (Nat.le_of_ble_eq_true rfl) (Nat.le_of_ble_eq_true rfl) h

def D_X0_weigh_b32  (a17 : Nat) (i18 : Int32) (i19 : Int32) (s20 : Hp) : Option Hp :=
  (putI s20 a17 0 3 i18).bind fun s21 =>
  (putI s21 a17 0 4 i19).bind fun s22 =>
  some s22
def D_X0_weigh (a0 : Nat) (i1 : Int32) (s0 : Hp) : Option Hp :=
  (isO s0 a0 0).bind fun _ =>
  (getR s0 a0 0 2).bind fun a11 =>
  (D_X4_look a11 s0).bind fun s12 =>
  (getR s12 a0 0 2).bind fun a13 =>
  bd (D_X4_day a13 s12) fun i14 s15 =>
  (getI s15 a0 0 3).bind fun i16 =>
  if i16 = (-6 : Int32) then
  D_X0_weigh_b32 a0 i1 i14 s15
  else
  (getI s15 a0 0 4).bind fun i23 =>
  if i14 ≤ i23 then
  some s15
  else
  D_X0_weigh_b32 a0 i1 i14 s15
set_option maxRecDepth 100000 in
set_option maxHeartbeats 4000000 in
theorem K_X0_weigh_b32 {l : Launch} {G : smG} {P : Option Value → Hp → Prop}  {a17 : Nat} {i18 : Int32} {i19 : Int32} {s20 : Hp}  (h : OK jV (D_X0_weigh_b32 a17 i18 i19 s20) P) : T l G RX0 cX0_weigh 3 (sm_rm 5 0 0) (sm_E none yX0_weigh.name) (sm_Qs G P 0 0) 0 0 32 [(0, .ref a17), (1, .int i18), (2, .int i19)] [] s20 := by
  unfold D_X0_weigh_b32 at h
  refine T_aload_n dX0_weigh_32 rfl 0 rfl ?_
  refine T_iload_n dX0_weigh_33 rfl 1 rfl ?_
  refine T_putI dX0_weigh_34 fl_RX0_27 ft_0_3 h (fun s21 h => ?_)
  refine T_aload_n dX0_weigh_37 rfl 0 rfl ?_
  refine T_iload_n dX0_weigh_38 rfl 2 rfl ?_
  refine T_putI dX0_weigh_39 fl_RX0_31 ft_0_4 h (fun s22 h => ?_)
  exact T_vreturn dX0_weigh_42 (Nat.le_of_ble_eq_true rfl) (Nat.le_of_ble_eq_true rfl) h
set_option maxRecDepth 100000 in
set_option maxHeartbeats 4000000 in
theorem K_X0_weigh {l : Launch} {a0 : Nat} {i1 : Int32} {s0 : Hp} : ∀ P, OK jV (D_X0_weigh a0 i1 s0) P → sm_Ct l yX0_weigh cX0_weigh 3 none 5 0 0 [.ref a0, .int i1] s0 P := by
  intro P h
  unfold D_X0_weigh at h
  obtain ⟨_, hb0, h⟩ := h.bind
  refine sm_enter (own := RX0) (lv := [(0, .ref a0), (1, .int i1)]) (by decide) rfl (Nat.le_of_ble_eq_true rfl) rfl (fun G => ?_)
  refine T_aload_n dX0_weigh_0 rfl 0 rfl ?_
  refine T_getR dX0_weigh_1 fl_RX0_23 h (fun a11 h => ?_)
  refine T_callVV (As := []) (rest := []) (b := a11) (ci := 4) dX0_weigh_4 mc_X4_look mi_X4_look ml_RX0_71 rfl (fun _ hr => chk_of hr) rfl rfl (Nat.le_of_ble_eq_true rfl) ⟨⟨Nat.le_of_ble_eq_true rfl, Nat.le_of_ble_eq_true rfl⟩, ⟨Nat.le_of_ble_eq_true rfl, Nat.le_of_ble_eq_true rfl⟩⟩ K_X4_look h (fun s12 h => ?_)
  refine T_aload_n dX0_weigh_7 rfl 0 rfl ?_
  refine T_getR dX0_weigh_8 fl_RX0_23 h (fun a13 h => ?_)
  refine T_callVI (As := []) (rest := []) (b := a13) (ci := 4) dX0_weigh_11 mc_X4_day mi_X4_day ml_RX0_89 rfl (fun _ hr => chk_of hr) rfl rfl (Nat.le_of_ble_eq_true rfl) ⟨⟨Nat.le_of_ble_eq_true rfl, Nat.le_of_ble_eq_true rfl⟩, ⟨Nat.le_of_ble_eq_true rfl, Nat.le_of_ble_eq_true rfl⟩⟩ K_X4_day h (fun i14 s15 h => ?_)
  refine T_istore_n (lv' := [(2, .int i14), (0, .ref a0), (1, .int i1)]) dX0_weigh_14 rfl (by decide) rfl ?_
  refine T_aload_n dX0_weigh_15 rfl 1 rfl ?_
  refine T_getI dX0_weigh_16 fl_RX0_27 h (fun i16 h => ?_)
  refine T_bipush (-6 : Int32) dX0_weigh_19 (by decide) ?_
  refine T_icmp_eq 32 dX0_weigh_21 (by decide) h (fun _ h => ?_) (fun _ h => ?_)
  · refine T_lv (lv' := [(0, .ref a0), (1, .int i1), (2, .int i14)]) [1, 2, 0] rfl ?_
    exact K_X0_weigh_b32 h
  · refine T_iload_n dX0_weigh_24 rfl 0 rfl ?_
    refine T_aload_n dX0_weigh_25 rfl 1 rfl ?_
    refine T_getI dX0_weigh_26 fl_RX0_31 h (fun i23 h => ?_)
    refine T_icmp_le 42 dX0_weigh_29 (by decide) h (fun _ h => ?_) (fun _ h => ?_)
    · exact T_vreturn dX0_weigh_42 (Nat.le_of_ble_eq_true rfl) (Nat.le_of_ble_eq_true rfl) h
    · refine T_lv (lv' := [(0, .ref a0), (1, .int i1), (2, .int i14)]) [1, 2, 0] rfl ?_
      exact K_X0_weigh_b32 h

def D_X10_at (a0 : Nat) (i1 : Int32) (i2 : Int32) (i3 : Int32) (s0 : Hp) : Option (Int32 × Hp) :=
  (isO s0 a0 9).bind fun _ =>
  bd (D_X10_isMirror a0 i1 s0) fun i11 s12 =>
  if i11 = 0 then
  some ((-1 : Int32), s12)
  else
  bd (D_X10_isHour i2 s12) fun i13 s14 =>
  if i13 = 0 then
  some ((-1 : Int32), s14)
  else
  bd (D_X10_shadeOf a0 i1 i2 s14) fun i15 s16 =>
  bd (D_X10_looks a0 i2 s16) fun i17 s18 =>
  if i3 = 0 then
  if i15 = (-6 : Int32) then
  some ((0 : Int32), s18)
  else
  some ((1 : Int32), s18)
  else
  if i3 = (1 : Int32) then
  (getR s18 a0 9 7).bind fun a21 =>
  (ldI s18 a21 i1).bind fun i22 =>
  some (i22, s18)
  else
  if i3 = (2 : Int32) then
  (getR s18 a0 9 8).bind fun a19 =>
  (ldI s18 a19 i1).bind fun i20 =>
  some (i20, s18)
  else
  if i3 = (3 : Int32) then
  some (i15, s18)
  else
  some ((-2 : Int32), s18)
set_option maxRecDepth 100000 in
set_option maxHeartbeats 4000000 in
theorem K_X10_at {l : Launch} {a0 : Nat} {i1 : Int32} {i2 : Int32} {i3 : Int32} {s0 : Hp} : ∀ P, OK jI (D_X10_at a0 i1 i2 i3 s0) P → sm_Ct l yX10_at cX10_at 6 (some .int) 5 0 0 [.ref a0, .int i1, .int i2, .int i3] s0 P := by
  intro P h
  unfold D_X10_at at h
  obtain ⟨_, hb0, h⟩ := h.bind
  refine sm_enter (own := RX10) (lv := [(0, .ref a0), (1, .int i1), (2, .int i2), (3, .int i3)]) (by decide) rfl (Nat.le_of_ble_eq_true rfl) rfl (fun G => ?_)
  refine T_aload_n dX10_at_0 rfl 0 rfl ?_
  refine T_iload_n dX10_at_1 rfl 1 rfl ?_
  refine T_callVI (As := [.int i1]) (rest := []) (b := a0) (ci := 9) dX10_at_2 mc_X10_isMirror mi_X10_isMirror ml_RX10_108 rfl (fun _ hr => chk_of hr) rfl rfl (Nat.le_of_ble_eq_true rfl) ⟨⟨Nat.le_of_ble_eq_true rfl, Nat.le_of_ble_eq_true rfl⟩, ⟨Nat.le_of_ble_eq_true rfl, Nat.le_of_ble_eq_true rfl⟩⟩ K_X10_isMirror h (fun i11 s12 h => ?_)
  refine T_if_eq 15 dX10_at_5 (by decide) h (fun _ h => ?_) (fun _ h => ?_)
  · refine T_iconst (-1 : Int32) dX10_at_15 (by decide) ?_
    exact T_ireturn dX10_at_16 (Nat.le_of_ble_eq_true rfl) (Nat.le_of_ble_eq_true rfl) h
  · refine T_iload_n dX10_at_8 rfl 2 rfl ?_
    refine T_callSI (As := [.int i2]) (rest := []) dX10_at_9 mc_X10_isHour mi_X10_isHour ml_RX10_152 rfl rfl (Nat.le_of_ble_eq_true rfl) ⟨⟨Nat.le_of_ble_eq_true rfl, Nat.le_of_ble_eq_true rfl⟩, ⟨Nat.le_of_ble_eq_true rfl, Nat.le_of_ble_eq_true rfl⟩⟩ K_X10_isHour h (fun i13 s14 h => ?_)
    refine T_if_ne 17 dX10_at_12 (by decide) h (fun _ h => ?_) (fun _ h => ?_)
    · refine T_aload_n dX10_at_17 rfl 0 rfl ?_
      refine T_iload_n dX10_at_18 rfl 1 rfl ?_
      refine T_iload_n dX10_at_19 rfl 2 rfl ?_
      refine T_callVI (As := [.int i1, .int i2]) (rest := []) (b := a0) (ci := 9) dX10_at_20 mc_X10_shadeOf mi_X10_shadeOf ml_RX10_73 rfl (fun _ hr => chk_of hr) rfl rfl (Nat.le_of_ble_eq_true rfl) ⟨⟨Nat.le_of_ble_eq_true rfl, Nat.le_of_ble_eq_true rfl⟩, ⟨Nat.le_of_ble_eq_true rfl, Nat.le_of_ble_eq_true rfl⟩⟩ K_X10_shadeOf h (fun i15 s16 h => ?_)
      refine T_istore (lv' := [(4, .int i15), (0, .ref a0), (1, .int i1), (2, .int i2), (3, .int i3)]) dX10_at_23 (by decide) rfl ?_
      refine T_aload_n dX10_at_25 rfl 1 rfl ?_
      refine T_iload_n dX10_at_26 rfl 3 rfl ?_
      refine T_callVI (As := [.int i2]) (rest := []) (b := a0) (ci := 9) dX10_at_27 mc_X10_looks mi_X10_looks ml_RX10_86 rfl (fun _ hr => chk_of hr) rfl rfl (Nat.le_of_ble_eq_true rfl) ⟨⟨Nat.le_of_ble_eq_true rfl, Nat.le_of_ble_eq_true rfl⟩, ⟨Nat.le_of_ble_eq_true rfl, Nat.le_of_ble_eq_true rfl⟩⟩ K_X10_looks h (fun i17 s18 h => ?_)
      refine T_istore (lv' := [(5, .int i17), (4, .int i15), (0, .ref a0), (1, .int i1), (2, .int i2), (3, .int i3)]) dX10_at_30 (by decide) rfl ?_
      refine T_iload_n dX10_at_32 rfl 5 rfl ?_
      refine T_if_ne 51 dX10_at_33 (by decide) h (fun _ h => ?_) (fun _ h => ?_)
      · refine T_iload_n dX10_at_51 rfl 5 rfl ?_
        refine T_iconst (1 : Int32) dX10_at_52 (by decide) ?_
        refine T_icmp_ne 65 dX10_at_53 (by decide) h (fun _ h => ?_) (fun _ h => ?_)
        · refine T_iload_n dX10_at_65 rfl 5 rfl ?_
          refine T_iconst (2 : Int32) dX10_at_66 (by decide) ?_
          refine T_icmp_ne 79 dX10_at_67 (by decide) h (fun _ h => ?_) (fun _ h => ?_)
          · refine T_iload_n dX10_at_79 rfl 5 rfl ?_
            refine T_iconst (3 : Int32) dX10_at_80 (by decide) ?_
            refine T_icmp_ne 89 dX10_at_81 (by decide) h (fun _ h => ?_) (fun _ h => ?_)
            · refine T_bipush (-2 : Int32) dX10_at_89 (by decide) ?_
              exact T_ireturn dX10_at_91 (Nat.le_of_ble_eq_true rfl) (Nat.le_of_ble_eq_true rfl) h
            · refine T_iload dX10_at_84 1 rfl ?_
              refine T_goto 91 dX10_at_86 (by decide) ?_
              exact T_ireturn dX10_at_91 (Nat.le_of_ble_eq_true rfl) (Nat.le_of_ble_eq_true rfl) h
          · refine T_aload_n dX10_at_70 rfl 2 rfl ?_
            refine T_getR dX10_at_71 fl_RX10_31 h (fun a19 h => ?_)
            refine T_iload_n dX10_at_74 rfl 3 rfl ?_
            refine T_iaload dX10_at_75 h (fun i20 h => ?_)
            refine T_goto 91 dX10_at_76 (by decide) ?_
            exact T_ireturn dX10_at_91 (Nat.le_of_ble_eq_true rfl) (Nat.le_of_ble_eq_true rfl) h
        · refine T_aload_n dX10_at_56 rfl 2 rfl ?_
          refine T_getR dX10_at_57 fl_RX10_28 h (fun a21 h => ?_)
          refine T_iload_n dX10_at_60 rfl 3 rfl ?_
          refine T_iaload dX10_at_61 h (fun i22 h => ?_)
          refine T_goto 91 dX10_at_62 (by decide) ?_
          exact T_ireturn dX10_at_91 (Nat.le_of_ble_eq_true rfl) (Nat.le_of_ble_eq_true rfl) h
      · refine T_iload dX10_at_36 1 rfl ?_
        refine T_bipush (-6 : Int32) dX10_at_38 (by decide) ?_
        refine T_icmp_ne 47 dX10_at_40 (by decide) h (fun _ h => ?_) (fun _ h => ?_)
        · refine T_iconst (1 : Int32) dX10_at_47 (by decide) ?_
          refine T_goto 91 dX10_at_48 (by decide) ?_
          exact T_ireturn dX10_at_91 (Nat.le_of_ble_eq_true rfl) (Nat.le_of_ble_eq_true rfl) h
        · refine T_iconst (0 : Int32) dX10_at_43 (by decide) ?_
          refine T_goto 91 dX10_at_44 (by decide) ?_
          exact T_ireturn dX10_at_91 (Nat.le_of_ble_eq_true rfl) (Nat.le_of_ble_eq_true rfl) h
    · refine T_iconst (-1 : Int32) dX10_at_15 (by decide) ?_
      exact T_ireturn dX10_at_16 (Nat.le_of_ble_eq_true rfl) (Nat.le_of_ble_eq_true rfl) h

def D_X10_brings_w4 (a11 : Nat) (k24 : Int32 → Hp → Option (Int32 × Hp)) : Nat → Int32 → Int32 → Hp → Option (Int32 × Hp)
  | 0, _, _, _ => none
  | n15 + 1, i12, i13, s14 =>
  if (11 : Int32) ≤ i13 then
  k24 i12 s14
  else
  bd (D_X10_looks a11 i13 s14) fun i16 s17 =>
  nm (i12 + i16) fun i18 =>
  D_X10_brings_w4 a11 k24 n15 i18 (i13 + 1) s17
def D_X10_brings (a0 : Nat) (s0 : Hp) : Option (Int32 × Hp) :=
  (isO s0 a0 9).bind fun _ =>
  D_X10_brings_w4 a0 (fun i22 s21 =>
  some (i22, s21)
  ) FU (0 : Int32) (0 : Int32) s0
set_option maxRecDepth 100000 in
set_option maxHeartbeats 4000000 in
theorem K_X10_brings_w4 {l : Launch} {G : smG} {P : Option Value → Hp → Prop} {a11 : Nat} {k24 : Int32 → Hp → Option (Int32 × Hp)} (hk24 : ∀ (i19 : Int32) (s20 : Hp), OK jI (k24 i19 s20) P → T l G RX10 cX10_brings 3 (sm_rm 5 0 0) (sm_E (some .int) yX10_brings.name) (sm_Qs G P 0 0) 0 0 24 [(1, .int i19)] [] s20) : ∀ (n : Nat) (i12 : Int32) (i13 : Int32) (s14 : Hp), OK jI (D_X10_brings_w4 a11 k24 n i12 i13 s14) P → T l G RX10 cX10_brings 3 (sm_rm 5 0 0) (sm_E (some .int) yX10_brings.name) (sm_Qs G P 0 0) 0 0 4 [(0, .ref a11), (1, .int i12), (2, .int i13)] [] s14 := by
  intro n
  induction n with
  | zero => intro i12 i13 s14 h; obtain ⟨_, h0, _⟩ := h; exact absurd h0 (by simp [D_X10_brings_w4])
  | succ n15 ih =>
    intro i12 i13 s14 h
    unfold D_X10_brings_w4 at h
    refine T_iload_n dX10_brings_4 rfl 2 rfl ?_
    refine T_bipush (11 : Int32) dX10_brings_5 (by decide) ?_
    refine T_icmp_ge 24 dX10_brings_7 (by decide) h (fun _ h => ?_) (fun _ h => ?_)
    · refine T_lv (lv' := [(1, .int i12)]) [1] rfl ?_
      exact hk24 i12 s14 h
    · refine T_iload_n dX10_brings_10 rfl 1 rfl ?_
      refine T_aload_n dX10_brings_11 rfl 0 rfl ?_
      refine T_iload_n dX10_brings_12 rfl 2 rfl ?_
      refine T_callVI (As := [.int i13]) (rest := [.int i12]) (b := a11) (ci := 9) dX10_brings_13 mc_X10_looks mi_X10_looks ml_RX10_86 rfl (fun _ hr => chk_of hr) rfl rfl (Nat.le_of_ble_eq_true rfl) ⟨⟨Nat.le_of_ble_eq_true rfl, Nat.le_of_ble_eq_true rfl⟩, ⟨Nat.le_of_ble_eq_true rfl, Nat.le_of_ble_eq_true rfl⟩⟩ K_X10_looks h (fun i16 s17 h => ?_)
      refine T_iadd dX10_brings_16 ?_
      refine T_nm h (fun i18 h => ?_)
      refine T_istore_n (lv' := [(1, .int i18), (0, .ref a11), (2, .int i13)]) dX10_brings_17 rfl (by decide) rfl ?_
      refine T_iinc (i13 + 1) (lv' := [(2, .int (i13 + 1)), (1, .int i18), (0, .ref a11)]) dX10_brings_18 (j := 2) rfl rfl (by decide) rfl ?_
      refine T_goto 4 dX10_brings_21 (by decide) ?_
      refine T_lv (lv' := [(0, .ref a11), (1, .int i18), (2, .int (i13 + 1))]) [2, 1, 0] rfl ?_
      exact ih i18 (i13 + 1) s17 h
set_option maxRecDepth 100000 in
set_option maxHeartbeats 4000000 in
theorem K_X10_brings {l : Launch} {a0 : Nat} {s0 : Hp} : ∀ P, OK jI (D_X10_brings a0 s0) P → sm_Ct l yX10_brings cX10_brings 3 (some .int) 5 0 0 [.ref a0] s0 P := by
  intro P h
  unfold D_X10_brings at h
  obtain ⟨_, hb0, h⟩ := h.bind
  refine sm_enter (own := RX10) (lv := [(0, .ref a0)]) (by decide) rfl (Nat.le_of_ble_eq_true rfl) rfl (fun G => ?_)
  refine T_iconst (0 : Int32) dX10_brings_0 (by decide) ?_
  refine T_istore_n (lv' := [(1, .int (0 : Int32)), (0, .ref a0)]) dX10_brings_1 rfl (by decide) rfl ?_
  refine T_iconst (0 : Int32) dX10_brings_2 (by decide) ?_
  refine T_istore_n (lv' := [(2, .int (0 : Int32)), (1, .int (0 : Int32)), (0, .ref a0)]) dX10_brings_3 rfl (by decide) rfl ?_
  refine T_lv (lv' := [(0, .ref a0), (1, .int (0 : Int32)), (2, .int (0 : Int32))]) [2, 1, 0] rfl ?_
  refine K_X10_brings_w4 ?_ FU (0 : Int32) (0 : Int32) s0 h
  intro i22 s21 h
  refine T_iload_n dX10_brings_24 rfl 0 rfl ?_
  exact T_ireturn dX10_brings_25 (Nat.le_of_ble_eq_true rfl) (Nat.le_of_ble_eq_true rfl) h

def D_X10_day_w24 (a20 : Nat) (i21 : Int32) (k67 : Hp → Option Hp) : Nat → Int32 → Hp → Option Hp
  | 0, _, _ => none
  | n24 + 1, i22, s23 =>
  (getR s23 a20 9 0).bind fun a25 =>
  (ldI s23 a25 (6 : Int32)).bind fun i26 =>
  if i26 ≤ i22 then
  k67 s23
  else
  bd (D_X10_its a20 i22 (4 : Int32) s23) fun i27 s28 =>
  (getR s28 a20 9 8).bind fun a29 =>
  (ldI s28 a29 i22).bind fun i30 =>
  (getR s28 a20 9 7).bind fun a31 =>
  (ldI s28 a31 i22).bind fun i32 =>
  (D_X10_sets a20 i22 (4 : Int32) (i27 + (i30 * i32)) s28).bind fun s33 =>
  D_X10_day_w24 a20 i21 k67 n24 (i22 + 1) s33
def D_X10_day_w2 (a11 : Nat) (k73 : Hp → Option Hp) : Nat → Int32 → Hp → Option Hp
  | 0, _, _ => none
  | n14 + 1, i12, s13 =>
  if (11 : Int32) ≤ i12 then
  k73 s13
  else
  (getR s13 a11 9 0).bind fun a15 =>
  (ldI s13 a15 (5 : Int32)).bind fun i16 =>
  bd (D_X10_looks a11 i12 s13) fun i17 s18 =>
  (stI s18 a15 (5 : Int32) (i16 + i17)).bind fun s19 =>
  D_X10_day_w24 a11 i12 (fun s35 =>
  D_X10_day_w2 a11 k73 n14 (i12 + 1) s35
  ) FU (0 : Int32) s19
def D_X10_day_b115 (k75 : Int32 → Hp → Option Hp) (a49 : Nat) (i50 : Int32) (i52 : Int32) (i53 : Int32) (i54 : Int32) (a55 : Nat) (s51 : Hp) : Option Hp :=
  (D_X10_sets a55 i54 i53 i52 s51).bind fun s56 =>
  k75 (i50 + 1) s56
def D_X10_day_w75 (a38 : Nat) (k124 : Hp → Option Hp) : Nat → Int32 → Hp → Option Hp
  | 0, _, _ => none
  | n41 + 1, i39, s40 =>
  (getR s40 a38 9 0).bind fun a42 =>
  (ldI s40 a42 (6 : Int32)).bind fun i43 =>
  if i43 ≤ i39 then
  k124 s40
  else
  bd (D_X10_its a38 i39 (3 : Int32) s40) fun i44 s45 =>
  (getR s45 a38 9 0).bind fun a46 =>
  (ldI s45 a46 (2 : Int32)).bind fun i47 =>
  nm (i44 + i47) fun i48 =>
  if (100 : Int32) ≤ i48 then
  D_X10_day_b115 (D_X10_day_w75 a38 k124 n41) a38 i39 (100 : Int32) (3 : Int32) i39 a38 s45
  else
  D_X10_day_b115 (D_X10_day_w75 a38 k124 n41) a38 i39 i48 (3 : Int32) i39 a38 s45
def D_X10_day (a0 : Nat) (s0 : Hp) : Option Hp :=
  (isO s0 a0 9).bind fun _ =>
  D_X10_day_w2 a0 (fun s37 =>
  D_X10_day_w75 a0 (fun s60 =>
  (getR s60 a0 9 0).bind fun a61 =>
  (ldI s60 a61 (3 : Int32)).bind fun i62 =>
  (stI s60 a61 (3 : Int32) (i62 + (1 : Int32))).bind fun s63 =>
  some s63
  ) FU (0 : Int32) s37
  ) FU (0 : Int32) s0
set_option maxRecDepth 100000 in
set_option maxHeartbeats 4000000 in
theorem K_X10_day_w24 {l : Launch} {G : smG} {P : Option Value → Hp → Prop} {a20 : Nat} {i21 : Int32} {k67 : Hp → Option Hp} (hk67 : ∀  (s34 : Hp), OK jV (k67 s34) P → T l G RX10 cX10_day 3 (sm_rm 5 0 0) (sm_E none yX10_day.name) (sm_Qs G P 0 0) 0 0 67 [(0, .ref a20), (1, .int i21)] [] s34) : ∀ (n : Nat) (i22 : Int32) (s23 : Hp), OK jV (D_X10_day_w24 a20 i21 k67 n i22 s23) P → T l G RX10 cX10_day 3 (sm_rm 5 0 0) (sm_E none yX10_day.name) (sm_Qs G P 0 0) 0 0 24 [(0, .ref a20), (1, .int i21), (2, .int i22)] [] s23 := by
  intro n
  induction n with
  | zero => intro i22 s23 h; obtain ⟨_, h0, _⟩ := h; exact absurd h0 (by simp [D_X10_day_w24])
  | succ n24 ih =>
    intro i22 s23 h
    unfold D_X10_day_w24 at h
    refine T_iload_n dX10_day_24 rfl 2 rfl ?_
    refine T_aload_n dX10_day_25 rfl 0 rfl ?_
    refine T_getR dX10_day_26 fl_RX10_7 h (fun a25 h => ?_)
    refine T_bipush (6 : Int32) dX10_day_29 (by decide) ?_
    refine T_iaload dX10_day_31 h (fun i26 h => ?_)
    refine T_icmp_ge 67 dX10_day_32 (by decide) h (fun _ h => ?_) (fun _ h => ?_)
    · refine T_lv (lv' := [(0, .ref a20), (1, .int i21)]) [0, 1] rfl ?_
      exact hk67 s23 h
    · refine T_aload_n dX10_day_35 rfl 0 rfl ?_
      refine T_iload_n dX10_day_36 rfl 2 rfl ?_
      refine T_iconst (4 : Int32) dX10_day_37 (by decide) ?_
      refine T_aload_n dX10_day_38 rfl 0 rfl ?_
      refine T_iload_n dX10_day_39 rfl 2 rfl ?_
      refine T_iconst (4 : Int32) dX10_day_40 (by decide) ?_
      refine T_callVI (As := [.int i22, .int (4 : Int32)]) (rest := [.int (4 : Int32), .int i22, .ref a20]) (b := a20) (ci := 9) dX10_day_41 mc_X10_its mi_X10_its ml_RX10_57 rfl (fun _ hr => chk_of hr) rfl rfl (Nat.le_of_ble_eq_true rfl) ⟨⟨Nat.le_of_ble_eq_true rfl, Nat.le_of_ble_eq_true rfl⟩, ⟨Nat.le_of_ble_eq_true rfl, Nat.le_of_ble_eq_true rfl⟩⟩ K_X10_its h (fun i27 s28 h => ?_)
      refine T_aload_n dX10_day_44 rfl 0 rfl ?_
      refine T_getR dX10_day_45 fl_RX10_31 h (fun a29 h => ?_)
      refine T_iload_n dX10_day_48 rfl 2 rfl ?_
      refine T_iaload dX10_day_49 h (fun i30 h => ?_)
      refine T_aload_n dX10_day_50 rfl 0 rfl ?_
      refine T_getR dX10_day_51 fl_RX10_28 h (fun a31 h => ?_)
      refine T_iload_n dX10_day_54 rfl 2 rfl ?_
      refine T_iaload dX10_day_55 h (fun i32 h => ?_)
      refine T_imul dX10_day_56 ?_
      refine T_iadd dX10_day_57 ?_
      refine T_callVV (As := [.int i22, .int (4 : Int32), .int (i27 + (i30 * i32))]) (rest := []) (b := a20) (ci := 9) dX10_day_58 mc_X10_sets mi_X10_sets ml_RX10_89 rfl (fun _ hr => chk_of hr) rfl rfl (Nat.le_of_ble_eq_true rfl) ⟨⟨Nat.le_of_ble_eq_true rfl, Nat.le_of_ble_eq_true rfl⟩, ⟨Nat.le_of_ble_eq_true rfl, Nat.le_of_ble_eq_true rfl⟩⟩ K_X10_sets h (fun s33 h => ?_)
      refine T_iinc (i22 + 1) (lv' := [(2, .int (i22 + 1)), (0, .ref a20), (1, .int i21)]) dX10_day_61 (j := 2) rfl rfl (by decide) rfl ?_
      refine T_goto 24 dX10_day_64 (by decide) ?_
      refine T_lv (lv' := [(0, .ref a20), (1, .int i21), (2, .int (i22 + 1))]) [1, 2, 0] rfl ?_
      exact ih (i22 + 1) s33 h
set_option maxRecDepth 100000 in
set_option maxHeartbeats 4000000 in
theorem K_X10_day_w2 {l : Launch} {G : smG} {P : Option Value → Hp → Prop} {a11 : Nat} {k73 : Hp → Option Hp} (hk73 : ∀  (s36 : Hp), OK jV (k73 s36) P → T l G RX10 cX10_day 3 (sm_rm 5 0 0) (sm_E none yX10_day.name) (sm_Qs G P 0 0) 0 0 73 [(0, .ref a11)] [] s36) : ∀ (n : Nat) (i12 : Int32) (s13 : Hp), OK jV (D_X10_day_w2 a11 k73 n i12 s13) P → T l G RX10 cX10_day 3 (sm_rm 5 0 0) (sm_E none yX10_day.name) (sm_Qs G P 0 0) 0 0 2 [(0, .ref a11), (1, .int i12)] [] s13 := by
  intro n
  induction n with
  | zero => intro i12 s13 h; obtain ⟨_, h0, _⟩ := h; exact absurd h0 (by simp [D_X10_day_w2])
  | succ n14 ih =>
    intro i12 s13 h
    unfold D_X10_day_w2 at h
    refine T_iload_n dX10_day_2 rfl 1 rfl ?_
    refine T_bipush (11 : Int32) dX10_day_3 (by decide) ?_
    refine T_icmp_ge 73 dX10_day_5 (by decide) h (fun _ h => ?_) (fun _ h => ?_)
    · refine T_lv (lv' := [(0, .ref a11)]) [0] rfl ?_
      exact hk73 s13 h
    · refine T_aload_n dX10_day_8 rfl 0 rfl ?_
      refine T_getR dX10_day_9 fl_RX10_7 h (fun a15 h => ?_)
      refine T_iconst (5 : Int32) dX10_day_12 (by decide) ?_
      refine T_dup2 dX10_day_13 rfl rfl ?_
      refine T_iaload dX10_day_14 h (fun i16 h => ?_)
      refine T_aload_n dX10_day_15 rfl 0 rfl ?_
      refine T_iload_n dX10_day_16 rfl 1 rfl ?_
      refine T_callVI (As := [.int i12]) (rest := [.int i16, .int (5 : Int32), .ref a15]) (b := a11) (ci := 9) dX10_day_17 mc_X10_looks mi_X10_looks ml_RX10_86 rfl (fun _ hr => chk_of hr) rfl rfl (Nat.le_of_ble_eq_true rfl) ⟨⟨Nat.le_of_ble_eq_true rfl, Nat.le_of_ble_eq_true rfl⟩, ⟨Nat.le_of_ble_eq_true rfl, Nat.le_of_ble_eq_true rfl⟩⟩ K_X10_looks h (fun i17 s18 h => ?_)
      refine T_iadd dX10_day_20 ?_
      refine T_iastore dX10_day_21 h (fun s19 h => ?_)
      refine T_iconst (0 : Int32) dX10_day_22 (by decide) ?_
      refine T_istore_n (lv' := [(2, .int (0 : Int32)), (0, .ref a11), (1, .int i12)]) dX10_day_23 rfl (by decide) rfl ?_
      refine T_lv (lv' := [(0, .ref a11), (1, .int i12), (2, .int (0 : Int32))]) [1, 2, 0] rfl ?_
      refine K_X10_day_w24 ?_ FU (0 : Int32) s19 h
      intro s35 h
      refine T_iinc (i12 + 1) (lv' := [(1, .int (i12 + 1)), (0, .ref a11)]) dX10_day_67 (j := 1) rfl rfl (by decide) rfl ?_
      refine T_goto 2 dX10_day_70 (by decide) ?_
      refine T_lv (lv' := [(0, .ref a11), (1, .int (i12 + 1))]) [1, 0] rfl ?_
      exact ih (i12 + 1) s35 h
set_option maxRecDepth 100000 in
set_option maxHeartbeats 4000000 in
theorem K_X10_day_b115 {l : Launch} {G : smG} {P : Option Value → Hp → Prop} {k75 : Int32 → Hp → Option Hp} {a49 : Nat} {i50 : Int32} {i52 : Int32} {i53 : Int32} {i54 : Int32} {a55 : Nat} {s51 : Hp} (hk75 : ∀ (i57 : Int32) (s58 : Hp), OK jV (k75 i57 s58) P → T l G RX10 cX10_day 3 (sm_rm 5 0 0) (sm_E none yX10_day.name) (sm_Qs G P 0 0) 0 0 75 [(0, .ref a49), (1, .int i57)] [] s58) (h : OK jV (D_X10_day_b115 k75 a49 i50 i52 i53 i54 a55 s51) P) : T l G RX10 cX10_day 3 (sm_rm 5 0 0) (sm_E none yX10_day.name) (sm_Qs G P 0 0) 0 0 115 [(0, .ref a49), (1, .int i50)] [.int i52, .int i53, .int i54, .ref a55] s51 := by
  unfold D_X10_day_b115 at h
  refine T_callVV (As := [.int i54, .int i53, .int i52]) (rest := []) (b := a55) (ci := 9) dX10_day_115 mc_X10_sets mi_X10_sets ml_RX10_89 rfl (fun _ hr => chk_of hr) rfl rfl (Nat.le_of_ble_eq_true rfl) ⟨⟨Nat.le_of_ble_eq_true rfl, Nat.le_of_ble_eq_true rfl⟩, ⟨Nat.le_of_ble_eq_true rfl, Nat.le_of_ble_eq_true rfl⟩⟩ K_X10_sets h (fun s56 h => ?_)
  refine T_iinc (i50 + 1) (lv' := [(1, .int (i50 + 1)), (0, .ref a49)]) dX10_day_118 (j := 1) rfl rfl (by decide) rfl ?_
  refine T_goto 75 dX10_day_121 (by decide) ?_
  refine T_lv (lv' := [(0, .ref a49), (1, .int (i50 + 1))]) [1, 0] rfl ?_
  exact hk75 (i50 + 1) s56 h
set_option maxRecDepth 100000 in
set_option maxHeartbeats 4000000 in
theorem K_X10_day_w75 {l : Launch} {G : smG} {P : Option Value → Hp → Prop} {a38 : Nat} {k124 : Hp → Option Hp} (hk124 : ∀  (s59 : Hp), OK jV (k124 s59) P → T l G RX10 cX10_day 3 (sm_rm 5 0 0) (sm_E none yX10_day.name) (sm_Qs G P 0 0) 0 0 124 [(0, .ref a38)] [] s59) : ∀ (n : Nat) (i39 : Int32) (s40 : Hp), OK jV (D_X10_day_w75 a38 k124 n i39 s40) P → T l G RX10 cX10_day 3 (sm_rm 5 0 0) (sm_E none yX10_day.name) (sm_Qs G P 0 0) 0 0 75 [(0, .ref a38), (1, .int i39)] [] s40 := by
  intro n
  induction n with
  | zero => intro i39 s40 h; obtain ⟨_, h0, _⟩ := h; exact absurd h0 (by simp [D_X10_day_w75])
  | succ n41 ih =>
    intro i39 s40 h
    unfold D_X10_day_w75 at h
    refine T_iload_n dX10_day_75 rfl 1 rfl ?_
    refine T_aload_n dX10_day_76 rfl 0 rfl ?_
    refine T_getR dX10_day_77 fl_RX10_7 h (fun a42 h => ?_)
    refine T_bipush (6 : Int32) dX10_day_80 (by decide) ?_
    refine T_iaload dX10_day_82 h (fun i43 h => ?_)
    refine T_icmp_ge 124 dX10_day_83 (by decide) h (fun _ h => ?_) (fun _ h => ?_)
    · refine T_lv (lv' := [(0, .ref a38)]) [0] rfl ?_
      exact hk124 s40 h
    · refine T_aload_n dX10_day_86 rfl 0 rfl ?_
      refine T_iload_n dX10_day_87 rfl 1 rfl ?_
      refine T_iconst (3 : Int32) dX10_day_88 (by decide) ?_
      refine T_callVI (As := [.int i39, .int (3 : Int32)]) (rest := []) (b := a38) (ci := 9) dX10_day_89 mc_X10_its mi_X10_its ml_RX10_57 rfl (fun _ hr => chk_of hr) rfl rfl (Nat.le_of_ble_eq_true rfl) ⟨⟨Nat.le_of_ble_eq_true rfl, Nat.le_of_ble_eq_true rfl⟩, ⟨Nat.le_of_ble_eq_true rfl, Nat.le_of_ble_eq_true rfl⟩⟩ K_X10_its h (fun i44 s45 h => ?_)
      refine T_aload_n dX10_day_92 rfl 0 rfl ?_
      refine T_getR dX10_day_93 fl_RX10_7 h (fun a46 h => ?_)
      refine T_iconst (2 : Int32) dX10_day_96 (by decide) ?_
      refine T_iaload dX10_day_97 h (fun i47 h => ?_)
      refine T_iadd dX10_day_98 ?_
      refine T_nm h (fun i48 h => ?_)
      refine T_istore_n (lv' := [(2, .int i48), (0, .ref a38), (1, .int i39)]) dX10_day_99 rfl (by decide) rfl ?_
      refine T_aload_n dX10_day_100 rfl 1 rfl ?_
      refine T_iload_n dX10_day_101 rfl 2 rfl ?_
      refine T_iconst (3 : Int32) dX10_day_102 (by decide) ?_
      refine T_iload_n dX10_day_103 rfl 0 rfl ?_
      refine T_bipush (100 : Int32) dX10_day_104 (by decide) ?_
      refine T_icmp_ge 113 dX10_day_106 (by decide) h (fun _ h => ?_) (fun _ h => ?_)
      · refine T_bipush (100 : Int32) dX10_day_113 (by decide) ?_
        refine T_lv (lv' := [(0, .ref a38), (1, .int i39)]) [1, 2] rfl ?_
        exact K_X10_day_b115 ih h
      · refine T_iload_n dX10_day_109 rfl 0 rfl ?_
        refine T_goto 115 dX10_day_110 (by decide) ?_
        refine T_lv (lv' := [(0, .ref a38), (1, .int i39)]) [1, 2] rfl ?_
        exact K_X10_day_b115 ih h
set_option maxRecDepth 100000 in
set_option maxHeartbeats 4000000 in
theorem K_X10_day {l : Launch} {a0 : Nat} {s0 : Hp} : ∀ P, OK jV (D_X10_day a0 s0) P → sm_Ct l yX10_day cX10_day 3 none 5 0 0 [.ref a0] s0 P := by
  intro P h
  unfold D_X10_day at h
  obtain ⟨_, hb0, h⟩ := h.bind
  refine sm_enter (own := RX10) (lv := [(0, .ref a0)]) (by decide) rfl (Nat.le_of_ble_eq_true rfl) rfl (fun G => ?_)
  refine T_iconst (0 : Int32) dX10_day_0 (by decide) ?_
  refine T_istore_n (lv' := [(1, .int (0 : Int32)), (0, .ref a0)]) dX10_day_1 rfl (by decide) rfl ?_
  refine T_lv (lv' := [(0, .ref a0), (1, .int (0 : Int32))]) [1, 0] rfl ?_
  refine K_X10_day_w2 ?_ FU (0 : Int32) s0 h
  intro s37 h
  refine T_iconst (0 : Int32) dX10_day_73 (by decide) ?_
  refine T_istore_n (lv' := [(1, .int (0 : Int32)), (0, .ref a0)]) dX10_day_74 rfl (by decide) rfl ?_
  refine T_lv (lv' := [(0, .ref a0), (1, .int (0 : Int32))]) [1, 0] rfl ?_
  refine K_X10_day_w75 ?_ FU (0 : Int32) s37 h
  intro s60 h
  refine T_aload_n dX10_day_124 rfl 0 rfl ?_
  refine T_getR dX10_day_125 fl_RX10_7 h (fun a61 h => ?_)
  refine T_iconst (3 : Int32) dX10_day_128 (by decide) ?_
  refine T_dup2 dX10_day_129 rfl rfl ?_
  refine T_iaload dX10_day_130 h (fun i62 h => ?_)
  refine T_iconst (1 : Int32) dX10_day_131 (by decide) ?_
  refine T_iadd dX10_day_132 ?_
  refine T_iastore dX10_day_133 h (fun s63 h => ?_)
  exact T_vreturn dX10_day_134 (Nat.le_of_ble_eq_true rfl) (Nat.le_of_ble_eq_true rfl) h
