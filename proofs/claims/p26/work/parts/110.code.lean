def D_L_isStep_b236  (a57 : Nat) (i58 : Int32) (i59 : Int32) (i60 : Int32) (i61 : Int32) (i63 : Int32) (i64 : Int32) (s62 : Hp) : Option (Int32 × Hp) :=
  if i64 = i63 then
  if i61 < 0 then
  retZ (1 : Int32) ((1 : Int32), s62)
  else
  bd (D_X9_in a57 i59 i60 s62) fun i65 s66 =>
  if i65 = i58 then
  bd (D_X9_of a57 i58 (3 : Int32) s66) fun i67 s68 =>
  if i67 = 0 then
  bd (D_X9_of a57 i58 (5 : Int32) s68) fun i69 s70 =>
  if i69 = 0 then
  retZ (1 : Int32) ((1 : Int32), s70)
  else
  retZ (0 : Int32) ((0 : Int32), s70)
  else
  retZ (0 : Int32) ((0 : Int32), s68)
  else
  retZ (0 : Int32) ((0 : Int32), s66)
  else
  retZ (0 : Int32) ((0 : Int32), s62)
def D_L_isStep_b158  (a42 : Nat) (a43 : Nat) (i44 : Int32) (i45 : Int32) (i46 : Int32) (i48 : Int32) (s47 : Hp) : Option (Int32 × Hp) :=
  bd (D_L_up (i44 >>> ((9 : Int32) &&& 31)) (4 : Int32) s47) fun i49 s50 =>
  bd (D_X9_in a42 i46 i48 s50) fun i51 s52 =>
  bd (D_X9_mirror a42 i46 i48 i49 s52) fun i53 s54 =>
  bd (D_X9_mirror a43 i46 ((20 : Int32) - i48) i49 s54) fun i55 s56 =>
  if i53 = i55 then
  if i51 < 0 then
  if i45 = (24 : Int32) then
  D_L_isStep_b236 a42 i45 i46 i48 i53 (-4 : Int32) i53 s56
  else
  D_L_isStep_b236 a42 i45 i46 i48 i53 i45 i53 s56
  else
  D_L_isStep_b236 a42 i45 i46 i48 i53 (-5 : Int32) i53 s56
  else
  retZ (0 : Int32) ((0 : Int32), s56)
def D_L_isStep_b121  (a28 : Nat) (a29 : Nat) (i30 : Int32) (i31 : Int32) (i32 : Int32) (i34 : Int32) (i35 : Int32) (s33 : Hp) : Option (Int32 × Hp) :=
  bd (D_L_up i35 i34 s33) fun i36 s37 =>
  bd (D_L_up i31 (2 : Int32) s37) fun i38 s39 =>
  if i38 = 0 then
  bd (D_L_up (i30 >>> ((5 : Int32) &&& 31)) (19 : Int32) s39) fun i71 s72 =>
  D_L_isStep_b158 a28 a29 i30 i32 i36 ((1 : Int32) + i71) s72
  else
  bd (D_L_up (i30 >>> ((5 : Int32) &&& 31)) (5 : Int32) s39) fun i40 s41 =>
  D_L_isStep_b158 a28 a29 i30 i32 i36 ((8 : Int32) + i40) s41
def D_L_isStep_b104  (a20 : Nat) (a21 : Nat) (i22 : Int32) (i23 : Int32) (i24 : Int32) (s25 : Hp) : Option (Int32 × Hp) :=
  bd (D_L_up i23 (2 : Int32) s25) fun i26 s27 =>
  if i26 = 0 then
  D_L_isStep_b121 a20 a21 i22 i23 i24 (20 : Int32) i22 s27
  else
  D_L_isStep_b121 a20 a21 i22 i23 i24 (7 : Int32) i22 s27
def D_L_isStep_b329  (i80 : Int32) (i81 : Int32) (s79 : Hp) : Option (Int32 × Hp) :=
  if i81 = i80 then
  retZ (1 : Int32) ((1 : Int32), s79)
  else
  retZ (0 : Int32) ((0 : Int32), s79)
def D_L_isStep_b392  (a90 : Nat) (i91 : Int32) (i92 : Int32) (i93 : Int32) (i95 : Int32) (i96 : Int32) (s94 : Hp) : Option (Int32 × Hp) :=
  if i96 = i95 then
  if i92 = i91 then
  retZ (1 : Int32) ((1 : Int32), s94)
  else
  bd (D_X9_of a90 i92 (2 : Int32) s94) fun i97 s98 =>
  if i97 = i93 then
  retZ (1 : Int32) ((1 : Int32), s98)
  else
  retZ (0 : Int32) ((0 : Int32), s98)
  else
  retZ (0 : Int32) ((0 : Int32), s94)
def D_L_isStep_b463  (i106 : Int32) (i107 : Int32) (s105 : Hp) : Option (Int32 × Hp) :=
  if i107 = i106 then
  retZ (1 : Int32) ((1 : Int32), s105)
  else
  retZ (0 : Int32) ((0 : Int32), s105)
def D_L_isStep_b531  (a123 : Nat) (i124 : Int32) (i126 : Int32) (i127 : Int32) (s125 : Hp) : Option (Int32 × Hp) :=
  if i127 = i126 then
  if i124 = 0 then
  retZ (1 : Int32) ((1 : Int32), s125)
  else
  bd (D_X9_count a123 (5 : Int32) s125) fun i128 s129 =>
  if i128 = 0 then
  retZ (1 : Int32) ((1 : Int32), s129)
  else
  retZ (0 : Int32) ((0 : Int32), s129)
  else
  retZ (0 : Int32) ((0 : Int32), s125)
def D_L_isStep_b489  (a110 : Nat) (a111 : Nat) (i113 : Int32) (i114 : Int32) (s112 : Hp) : Option (Int32 × Hp) :=
  bd (D_L_up i114 i113 s112) fun i115 s116 =>
  bd (D_X9_wind a110 i115 s116) fun i117 s118 =>
  bd (D_X9_wind a111 i115 s118) fun i119 s120 =>
  if i117 = i119 then
  bd (D_X9_count a110 (9 : Int32) s120) fun i121 s122 =>
  if i115 ≤ i121 then
  D_L_isStep_b531 a110 i117 (0 : Int32) i117 s122
  else
  D_L_isStep_b531 a110 i117 (1 : Int32) i117 s122
  else
  retZ (0 : Int32) ((0 : Int32), s120)
def D_L_isStep_b602  (a139 : Nat) (a140 : Nat) (i141 : Int32) (i143 : Int32) (s142 : Hp) : Option (Int32 × Hp) :=
  bd (D_X9_set a139 i141 i143 s142) fun i144 s145 =>
  bd (D_X9_set a140 i141 i143 s145) fun i146 s147 =>
  if i144 = i146 then
  bd (D_X9_count a139 ((8 : Int32) + i141) s147) fun i148 s149 =>
  if i148 = i143 then
  retZ (1 : Int32) ((1 : Int32), s149)
  else
  retZ (0 : Int32) ((0 : Int32), s149)
  else
  retZ (0 : Int32) ((0 : Int32), s147)
def D_L_isStep_b553  (a130 : Nat) (a131 : Nat) (i132 : Int32) (i133 : Int32) (s134 : Hp) : Option (Int32 × Hp) :=
  bd (D_L_up i133 (3 : Int32) s134) fun i135 s136 =>
  if i135 = 0 then
  bd (D_L_up i132 (300 : Int32) s136) fun i152 s153 =>
  D_L_isStep_b602 a130 a131 i135 ((1 : Int32) + i152) s153
  else
  if i135 = (1 : Int32) then
  bd (D_L_up i132 (80 : Int32) s136) fun i150 s151 =>
  D_L_isStep_b602 a130 a131 i135 ((20 : Int32) + i150) s151
  else
  bd (D_L_up i132 (21 : Int32) s136) fun i137 s138 =>
  D_L_isStep_b602 a130 a131 i135 i137 s138
def D_L_isStep_b660  (a162 : Nat) (a163 : Nat) (i164 : Int32) (i166 : Int32) (i167 : Int32) (i168 : Int32) (s165 : Hp) : Option (Int32 × Hp) :=
  bd (D_L_up i167 i166 s165) fun i169 s170 =>
  nm (i168 + i169) fun i171 =>
  bd (D_X9_count a162 (4 : Int32) s170) fun i172 s173 =>
  bd (D_X9_pass a162 i171 s173) fun i174 s175 =>
  bd (D_X9_pass a163 i171 s175) fun i176 s177 =>
  if i174 = i176 then
  bd (D_X9_count a162 (4 : Int32) s177) fun i178 s179 =>
  if i178 = (i172 + i174) then
  if i174 < 0 then
  retZ (0 : Int32) ((0 : Int32), s179)
  else
  if (1 : Int32) < i171 then
  retZ (1 : Int32) ((1 : Int32), s179)
  else
  if i174 = i164 then
  retZ (1 : Int32) ((1 : Int32), s179)
  else
  retZ (0 : Int32) ((0 : Int32), s179)
  else
  retZ (0 : Int32) ((0 : Int32), s179)
  else
  retZ (0 : Int32) ((0 : Int32), s177)
def D_L_isStep_b643  (a154 : Nat) (a155 : Nat) (i156 : Int32) (i157 : Int32) (i158 : Int32) (s159 : Hp) : Option (Int32 × Hp) :=
  bd (D_L_up i157 (3 : Int32) s159) fun i160 s161 =>
  if i160 = 0 then
  D_L_isStep_b660 a154 a155 i158 (15 : Int32) i156 (1 : Int32) s161
  else
  D_L_isStep_b660 a154 a155 i158 (2 : Int32) i156 (1 : Int32) s161
def D_L_isStep (a0 : Nat) (a1 : Nat) (i2 : Int32) (i3 : Int32) (s0 : Hp) : Option (Int32 × Hp) :=
  nm (i2 >>> ((4 : Int32) &&& 31)) fun i11 =>
  bd (D_X9_count a0 (1 : Int32) s0) fun i12 s13 =>
  bd (D_L_up i11 (i12 + (1 : Int32)) s13) fun i14 s15 =>
  bd (D_X9_count a0 (5 : Int32) s15) fun i16 s17 =>
  bd (D_L_up i2 (14 : Int32) s17) fun i18 s19 =>
  if i18 = (0 : Int32) then
  D_L_isStep_b104 a0 a1 i3 i11 i12 s19
  else
  if i18 = (1 : Int32) then
  D_L_isStep_b104 a0 a1 i3 i11 i12 s19
  else
  if i18 = (2 : Int32) then
  D_L_isStep_b104 a0 a1 i3 i11 i12 s19
  else
  if i18 = (3 : Int32) then
  D_L_isStep_b104 a0 a1 i3 i11 i12 s19
  else
  if i18 = (4 : Int32) then
  bd (D_L_up i3 (3 : Int32) s19) fun i73 s74 =>
  if i73 ≤ 0 then
  bd (D_X9_take a0 i14 s74) fun i75 s76 =>
  bd (D_X9_take a1 i14 s76) fun i77 s78 =>
  if i75 = i77 then
  if i14 = i12 then
  D_L_isStep_b329 (-1 : Int32) i75 s78
  else
  D_L_isStep_b329 (i12 - (1 : Int32)) i75 s78
  else
  retZ (0 : Int32) ((0 : Int32), s78)
  else
  retZ (1 : Int32) ((1 : Int32), s74)
  else
  if i18 = (5 : Int32) then
  bd (D_L_up i3 (4 : Int32) s19) fun i82 s83 =>
  bd (D_X9_of a0 i14 (2 : Int32) s83) fun i84 s85 =>
  bd (D_X9_aim a0 i14 i82 s85) fun i86 s87 =>
  bd (D_X9_aim a1 i14 i82 s87) fun i88 s89 =>
  if i86 = i88 then
  if i14 = i12 then
  D_L_isStep_b392 a0 i12 i14 i82 (-1 : Int32) i86 s89
  else
  D_L_isStep_b392 a0 i12 i14 i82 i84 i86 s89
  else
  retZ (0 : Int32) ((0 : Int32), s89)
  else
  if i18 = (6 : Int32) then
  bd (D_X9_of a0 i14 (3 : Int32) s19) fun i99 s100 =>
  bd (D_X9_wash a0 i14 s100) fun i101 s102 =>
  bd (D_X9_wash a1 i14 s102) fun i103 s104 =>
  if i101 = i103 then
  if i14 = i12 then
  D_L_isStep_b463 (-1 : Int32) i101 s104
  else
  D_L_isStep_b463 i99 i101 s104
  else
  retZ (0 : Int32) ((0 : Int32), s104)
  else
  if i18 = (7 : Int32) then
  bd (D_L_up i11 (3 : Int32) s19) fun i108 s109 =>
  if i108 = 0 then
  D_L_isStep_b489 a0 a1 (100 : Int32) i3 s109
  else
  D_L_isStep_b489 a0 a1 (40 : Int32) i3 s109
  else
  if i18 = (8 : Int32) then
  D_L_isStep_b553 a0 a1 i3 i11 s19
  else
  if i18 = (9 : Int32) then
  D_L_isStep_b553 a0 a1 i3 i11 s19
  else
  if i18 = (10 : Int32) then
  D_L_isStep_b643 a0 a1 i3 i11 i16 s19
  else
  if i18 = (11 : Int32) then
  D_L_isStep_b643 a0 a1 i3 i11 i16 s19
  else
  if i18 = (12 : Int32) then
  bd (D_X9_count a0 (12 : Int32) s19) fun i180 s181 =>
  if i180 = 0 then
  retZ (1 : Int32) ((1 : Int32), s181)
  else
  bd (D_X9_undo a0 s181) fun i182 s183 =>
  bd (D_X9_undo a1 s183) fun i184 s185 =>
  if i182 = i184 then
  retZ (1 : Int32) ((1 : Int32), s185)
  else
  retZ (0 : Int32) ((0 : Int32), s185)
  else
  bd (D_L_up i3 (20 : Int32) s19) fun i186 s187 =>
  bd (D_L_up (i3 >>> ((6 : Int32) &&& 31)) (4 : Int32) s187) fun i188 s189 =>
  bd (D_L_isFound a0 a1 i186 i188 s189) fun i190 s191 =>
  retZ i190 (i190, s191)
set_option maxRecDepth 100000 in
set_option maxHeartbeats 4000000 in
theorem K_L_isStep_b236 {l : Launch} {G : smG} {P : Option Value → Hp → Prop}  {a57 : Nat} {i58 : Int32} {i59 : Int32} {i60 : Int32} {i61 : Int32} {i63 : Int32} {i64 : Int32} {s62 : Hp}  (h : OK jI (D_L_isStep_b236 a57 i58 i59 i60 i61 i63 i64 s62) P) : T l G RL cL_isStep 13 (sm_rm 9 0 0) (sm_E (some .boolean) yL_isStep.name) (sm_Qs G P 0 0) 0 0 236 [(0, .ref a57), (5, .int i58), (8, .int i59), (9, .int i60), (12, .int i61)] [.int i63, .int i64] s62 := by
  unfold D_L_isStep_b236 at h
  refine T_icmp_ne 281 dL_isStep_236 (by decide) h (fun _ h => ?_) (fun _ h => ?_)
  · refine T_iconst (0 : Int32) dL_isStep_281 (by decide) ?_
    exact T_zreturn dL_isStep_282 (Nat.le_of_ble_eq_true rfl) (Nat.le_of_ble_eq_true rfl) h
  · refine T_iload dL_isStep_239 4 rfl ?_
    refine T_if_lt 277 dL_isStep_241 (by decide) h (fun _ h => ?_) (fun _ h => ?_)
    · refine T_iconst (1 : Int32) dL_isStep_277 (by decide) ?_
      refine T_goto 282 dL_isStep_278 (by decide) ?_
      exact T_zreturn dL_isStep_282 (Nat.le_of_ble_eq_true rfl) (Nat.le_of_ble_eq_true rfl) h
    · refine T_aload_n dL_isStep_244 rfl 0 rfl ?_
      refine T_iload dL_isStep_245 2 rfl ?_
      refine T_iload dL_isStep_247 3 rfl ?_
      refine T_callVI (As := [.int i59, .int i60]) (rest := []) (b := a57) (ci := 8) dL_isStep_249 mc_X9_in mi_X9_in ml_RL_21 rfl (fun _ hr => chk_of hr) rfl rfl (Nat.le_of_ble_eq_true rfl) ⟨⟨Nat.le_of_ble_eq_true rfl, Nat.le_of_ble_eq_true rfl⟩, ⟨Nat.le_of_ble_eq_true rfl, Nat.le_of_ble_eq_true rfl⟩⟩ K_X9_in h (fun i65 s66 h => ?_)
      refine T_iload dL_isStep_252 1 rfl ?_
      refine T_icmp_ne 281 dL_isStep_254 (by decide) h (fun _ h => ?_) (fun _ h => ?_)
      · refine T_iconst (0 : Int32) dL_isStep_281 (by decide) ?_
        exact T_zreturn dL_isStep_282 (Nat.le_of_ble_eq_true rfl) (Nat.le_of_ble_eq_true rfl) h
      · refine T_aload_n dL_isStep_257 rfl 0 rfl ?_
        refine T_iload dL_isStep_258 1 rfl ?_
        refine T_iconst (3 : Int32) dL_isStep_260 (by decide) ?_
        refine T_callVI (As := [.int i58, .int (3 : Int32)]) (rest := []) (b := a57) (ci := 8) dL_isStep_261 mc_X9_of mi_X9_of ml_RL_28 rfl (fun _ hr => chk_of hr) rfl rfl (Nat.le_of_ble_eq_true rfl) ⟨⟨Nat.le_of_ble_eq_true rfl, Nat.le_of_ble_eq_true rfl⟩, ⟨Nat.le_of_ble_eq_true rfl, Nat.le_of_ble_eq_true rfl⟩⟩ K_X9_of h (fun i67 s68 h => ?_)
        refine T_if_ne 281 dL_isStep_264 (by decide) h (fun _ h => ?_) (fun _ h => ?_)
        · refine T_iconst (0 : Int32) dL_isStep_281 (by decide) ?_
          exact T_zreturn dL_isStep_282 (Nat.le_of_ble_eq_true rfl) (Nat.le_of_ble_eq_true rfl) h
        · refine T_aload_n dL_isStep_267 rfl 0 rfl ?_
          refine T_iload dL_isStep_268 1 rfl ?_
          refine T_iconst (5 : Int32) dL_isStep_270 (by decide) ?_
          refine T_callVI (As := [.int i58, .int (5 : Int32)]) (rest := []) (b := a57) (ci := 8) dL_isStep_271 mc_X9_of mi_X9_of ml_RL_28 rfl (fun _ hr => chk_of hr) rfl rfl (Nat.le_of_ble_eq_true rfl) ⟨⟨Nat.le_of_ble_eq_true rfl, Nat.le_of_ble_eq_true rfl⟩, ⟨Nat.le_of_ble_eq_true rfl, Nat.le_of_ble_eq_true rfl⟩⟩ K_X9_of h (fun i69 s70 h => ?_)
          refine T_if_ne 281 dL_isStep_274 (by decide) h (fun _ h => ?_) (fun _ h => ?_)
          · refine T_iconst (0 : Int32) dL_isStep_281 (by decide) ?_
            exact T_zreturn dL_isStep_282 (Nat.le_of_ble_eq_true rfl) (Nat.le_of_ble_eq_true rfl) h
          · refine T_iconst (1 : Int32) dL_isStep_277 (by decide) ?_
            refine T_goto 282 dL_isStep_278 (by decide) ?_
            exact T_zreturn dL_isStep_282 (Nat.le_of_ble_eq_true rfl) (Nat.le_of_ble_eq_true rfl) h
set_option maxRecDepth 100000 in
set_option maxHeartbeats 4000000 in
theorem K_L_isStep_b158 {l : Launch} {G : smG} {P : Option Value → Hp → Prop}  {a42 : Nat} {a43 : Nat} {i44 : Int32} {i45 : Int32} {i46 : Int32} {i48 : Int32} {s47 : Hp}  (h : OK jI (D_L_isStep_b158 a42 a43 i44 i45 i46 i48 s47) P) : T l G RL cL_isStep 13 (sm_rm 9 0 0) (sm_E (some .boolean) yL_isStep.name) (sm_Qs G P 0 0) 0 0 158 [(0, .ref a42), (1, .ref a43), (3, .int i44), (5, .int i45), (8, .int i46)] [.int i48] s47 := by
  unfold D_L_isStep_b158 at h
  refine T_istore (lv' := [(9, .int i48), (0, .ref a42), (1, .ref a43), (3, .int i44), (5, .int i45), (8, .int i46)]) dL_isStep_158 (by decide) rfl ?_
  refine T_iload_n dL_isStep_160 rfl 3 rfl ?_
  refine T_bipush (9 : Int32) dL_isStep_161 (by decide) ?_
  refine T_ishr dL_isStep_163 ?_
  refine T_iconst (4 : Int32) dL_isStep_164 (by decide) ?_
  refine T_callSI (As := [.int (i44 >>> ((9 : Int32) &&& 31)), .int (4 : Int32)]) (rest := []) dL_isStep_165 mc_L_up mi_L_up ml_RL_15 rfl rfl (Nat.le_of_ble_eq_true rfl) ⟨⟨Nat.le_of_ble_eq_true rfl, Nat.le_of_ble_eq_true rfl⟩, ⟨Nat.le_of_ble_eq_true rfl, Nat.le_of_ble_eq_true rfl⟩⟩ K_L_up h (fun i49 s50 h => ?_)
  refine T_istore (lv' := [(10, .int i49), (9, .int i48), (0, .ref a42), (1, .ref a43), (3, .int i44), (5, .int i45), (8, .int i46)]) dL_isStep_168 (by decide) rfl ?_
  refine T_aload_n dL_isStep_170 rfl 2 rfl ?_
  refine T_iload dL_isStep_171 6 rfl ?_
  refine T_iload dL_isStep_173 1 rfl ?_
  refine T_callVI (As := [.int i46, .int i48]) (rest := []) (b := a42) (ci := 8) dL_isStep_175 mc_X9_in mi_X9_in ml_RL_21 rfl (fun _ hr => chk_of hr) rfl rfl (Nat.le_of_ble_eq_true rfl) ⟨⟨Nat.le_of_ble_eq_true rfl, Nat.le_of_ble_eq_true rfl⟩, ⟨Nat.le_of_ble_eq_true rfl, Nat.le_of_ble_eq_true rfl⟩⟩ K_X9_in h (fun i51 s52 h => ?_)
  refine T_istore (lv' := [(11, .int i51), (10, .int i49), (9, .int i48), (0, .ref a42), (1, .ref a43), (3, .int i44), (5, .int i45), (8, .int i46)]) dL_isStep_178 (by decide) rfl ?_
  refine T_aload_n dL_isStep_180 rfl 3 rfl ?_
  refine T_iload dL_isStep_181 7 rfl ?_
  refine T_iload dL_isStep_183 2 rfl ?_
  refine T_iload dL_isStep_185 1 rfl ?_
  refine T_callVI (As := [.int i46, .int i48, .int i49]) (rest := []) (b := a42) (ci := 8) dL_isStep_187 mc_X9_mirror mi_X9_mirror ml_RL_24 rfl (fun _ hr => chk_of hr) rfl rfl (Nat.le_of_ble_eq_true rfl) ⟨⟨Nat.le_of_ble_eq_true rfl, Nat.le_of_ble_eq_true rfl⟩, ⟨Nat.le_of_ble_eq_true rfl, Nat.le_of_ble_eq_true rfl⟩⟩ K_X9_mirror h (fun i53 s54 h => ?_)
  refine T_istore (lv' := [(12, .int i53), (11, .int i51), (10, .int i49), (9, .int i48), (0, .ref a42), (1, .ref a43), (3, .int i44), (5, .int i45), (8, .int i46)]) dL_isStep_190 (by decide) rfl ?_
  refine T_iload dL_isStep_192 0 rfl ?_
  refine T_aload_n dL_isStep_194 rfl 5 rfl ?_
  refine T_iload dL_isStep_195 8 rfl ?_
  refine T_bipush (20 : Int32) dL_isStep_197 (by decide) ?_
  refine T_iload dL_isStep_199 3 rfl ?_
  refine T_isub dL_isStep_201 ?_
  refine T_iload dL_isStep_202 2 rfl ?_
  refine T_callVI (As := [.int i46, .int ((20 : Int32) - i48), .int i49]) (rest := [.int i53]) (b := a43) (ci := 8) dL_isStep_204 mc_X9_mirror mi_X9_mirror ml_RL_24 rfl (fun _ hr => chk_of hr) rfl rfl (Nat.le_of_ble_eq_true rfl) ⟨⟨Nat.le_of_ble_eq_true rfl, Nat.le_of_ble_eq_true rfl⟩, ⟨Nat.le_of_ble_eq_true rfl, Nat.le_of_ble_eq_true rfl⟩⟩ K_X9_mirror h (fun i55 s56 h => ?_)
  refine T_icmp_ne 281 dL_isStep_207 (by decide) h (fun _ h => ?_) (fun _ h => ?_)
  · refine T_iconst (0 : Int32) dL_isStep_281 (by decide) ?_
    exact T_zreturn dL_isStep_282 (Nat.le_of_ble_eq_true rfl) (Nat.le_of_ble_eq_true rfl) h
  · refine T_iload dL_isStep_210 0 rfl ?_
    refine T_iload dL_isStep_212 1 rfl ?_
    refine T_if_lt 222 dL_isStep_214 (by decide) h (fun _ h => ?_) (fun _ h => ?_)
    · refine T_iload dL_isStep_222 7 rfl ?_
      refine T_bipush (24 : Int32) dL_isStep_224 (by decide) ?_
      refine T_icmp_ne 234 dL_isStep_226 (by decide) h (fun _ h => ?_) (fun _ h => ?_)
      · refine T_iload dL_isStep_234 7 rfl ?_
        refine T_lv (lv' := [(0, .ref a42), (5, .int i45), (8, .int i46), (9, .int i48), (12, .int i53)]) [4, 7, 8, 3, 0] rfl ?_
        exact K_L_isStep_b236 h
      · refine T_bipush (-4 : Int32) dL_isStep_229 (by decide) ?_
        refine T_goto 236 dL_isStep_231 (by decide) ?_
        refine T_lv (lv' := [(0, .ref a42), (5, .int i45), (8, .int i46), (9, .int i48), (12, .int i53)]) [4, 7, 8, 3, 0] rfl ?_
        exact K_L_isStep_b236 h
    · refine T_bipush (-5 : Int32) dL_isStep_217 (by decide) ?_
      refine T_goto 236 dL_isStep_219 (by decide) ?_
      refine T_lv (lv' := [(0, .ref a42), (5, .int i45), (8, .int i46), (9, .int i48), (12, .int i53)]) [4, 7, 8, 3, 0] rfl ?_
      exact K_L_isStep_b236 h
set_option maxRecDepth 100000 in
set_option maxHeartbeats 4000000 in
theorem K_L_isStep_b121 {l : Launch} {G : smG} {P : Option Value → Hp → Prop}  {a28 : Nat} {a29 : Nat} {i30 : Int32} {i31 : Int32} {i32 : Int32} {i34 : Int32} {i35 : Int32} {s33 : Hp}  (h : OK jI (D_L_isStep_b121 a28 a29 i30 i31 i32 i34 i35 s33) P) : T l G RL cL_isStep 13 (sm_rm 9 0 0) (sm_E (some .boolean) yL_isStep.name) (sm_Qs G P 0 0) 0 0 121 [(0, .ref a28), (1, .ref a29), (3, .int i30), (4, .int i31), (5, .int i32)] [.int i34, .int i35] s33 := by
  unfold D_L_isStep_b121 at h
  refine T_callSI (As := [.int i35, .int i34]) (rest := []) dL_isStep_121 mc_L_up mi_L_up ml_RL_15 rfl rfl (Nat.le_of_ble_eq_true rfl) ⟨⟨Nat.le_of_ble_eq_true rfl, Nat.le_of_ble_eq_true rfl⟩, ⟨Nat.le_of_ble_eq_true rfl, Nat.le_of_ble_eq_true rfl⟩⟩ K_L_up h (fun i36 s37 h => ?_)
  refine T_istore (lv' := [(8, .int i36), (0, .ref a28), (1, .ref a29), (3, .int i30), (4, .int i31), (5, .int i32)]) dL_isStep_124 (by decide) rfl ?_
  refine T_iload dL_isStep_126 4 rfl ?_
  refine T_iconst (2 : Int32) dL_isStep_128 (by decide) ?_
  refine T_callSI (As := [.int i31, .int (2 : Int32)]) (rest := []) dL_isStep_129 mc_L_up mi_L_up ml_RL_15 rfl rfl (Nat.le_of_ble_eq_true rfl) ⟨⟨Nat.le_of_ble_eq_true rfl, Nat.le_of_ble_eq_true rfl⟩, ⟨Nat.le_of_ble_eq_true rfl, Nat.le_of_ble_eq_true rfl⟩⟩ K_L_up h (fun i38 s39 h => ?_)
  refine T_if_ne 148 dL_isStep_132 (by decide) h (fun _ h => ?_) (fun _ h => ?_)
  · refine T_bipush (8 : Int32) dL_isStep_148 (by decide) ?_
    refine T_iload_n dL_isStep_150 rfl 3 rfl ?_
    refine T_iconst (5 : Int32) dL_isStep_151 (by decide) ?_
    refine T_ishr dL_isStep_152 ?_
    refine T_iconst (5 : Int32) dL_isStep_153 (by decide) ?_
    refine T_callSI (As := [.int (i30 >>> ((5 : Int32) &&& 31)), .int (5 : Int32)]) (rest := [.int (8 : Int32)]) dL_isStep_154 mc_L_up mi_L_up ml_RL_15 rfl rfl (Nat.le_of_ble_eq_true rfl) ⟨⟨Nat.le_of_ble_eq_true rfl, Nat.le_of_ble_eq_true rfl⟩, ⟨Nat.le_of_ble_eq_true rfl, Nat.le_of_ble_eq_true rfl⟩⟩ K_L_up h (fun i40 s41 h => ?_)
    refine T_iadd dL_isStep_157 ?_
    refine T_lv (lv' := [(0, .ref a28), (1, .ref a29), (3, .int i30), (5, .int i32), (8, .int i36)]) [1, 2, 3, 5, 0] rfl ?_
    exact K_L_isStep_b158 h
  · refine T_iconst (1 : Int32) dL_isStep_135 (by decide) ?_
    refine T_iload_n dL_isStep_136 rfl 3 rfl ?_
    refine T_iconst (5 : Int32) dL_isStep_137 (by decide) ?_
    refine T_ishr dL_isStep_138 ?_
    refine T_bipush (19 : Int32) dL_isStep_139 (by decide) ?_
    refine T_callSI (As := [.int (i30 >>> ((5 : Int32) &&& 31)), .int (19 : Int32)]) (rest := [.int (1 : Int32)]) dL_isStep_141 mc_L_up mi_L_up ml_RL_15 rfl rfl (Nat.le_of_ble_eq_true rfl) ⟨⟨Nat.le_of_ble_eq_true rfl, Nat.le_of_ble_eq_true rfl⟩, ⟨Nat.le_of_ble_eq_true rfl, Nat.le_of_ble_eq_true rfl⟩⟩ K_L_up h (fun i71 s72 h => ?_)
    refine T_iadd dL_isStep_144 ?_
    refine T_goto 158 dL_isStep_145 (by decide) ?_
    refine T_lv (lv' := [(0, .ref a28), (1, .ref a29), (3, .int i30), (5, .int i32), (8, .int i36)]) [1, 2, 3, 5, 0] rfl ?_
    exact K_L_isStep_b158 h
set_option maxRecDepth 100000 in
set_option maxHeartbeats 4000000 in
theorem K_L_isStep_b104 {l : Launch} {G : smG} {P : Option Value → Hp → Prop}  {a20 : Nat} {a21 : Nat} {i22 : Int32} {i23 : Int32} {i24 : Int32} {s25 : Hp}  (h : OK jI (D_L_isStep_b104 a20 a21 i22 i23 i24 s25) P) : T l G RL cL_isStep 13 (sm_rm 9 0 0) (sm_E (some .boolean) yL_isStep.name) (sm_Qs G P 0 0) 0 0 104 [(0, .ref a20), (1, .ref a21), (3, .int i22), (4, .int i23), (5, .int i24)] [] s25 := by
  unfold D_L_isStep_b104 at h
  refine T_iload_n dL_isStep_104 rfl 2 rfl ?_
  refine T_iload dL_isStep_105 3 rfl ?_
  refine T_iconst (2 : Int32) dL_isStep_107 (by decide) ?_
  refine T_callSI (As := [.int i23, .int (2 : Int32)]) (rest := [.int i22]) dL_isStep_108 mc_L_up mi_L_up ml_RL_15 rfl rfl (Nat.le_of_ble_eq_true rfl) ⟨⟨Nat.le_of_ble_eq_true rfl, Nat.le_of_ble_eq_true rfl⟩, ⟨Nat.le_of_ble_eq_true rfl, Nat.le_of_ble_eq_true rfl⟩⟩ K_L_up h (fun i26 s27 h => ?_)
  refine T_if_ne 119 dL_isStep_111 (by decide) h (fun _ h => ?_) (fun _ h => ?_)
  · refine T_bipush (7 : Int32) dL_isStep_119 (by decide) ?_
    exact K_L_isStep_b121 h
  · refine T_bipush (20 : Int32) dL_isStep_114 (by decide) ?_
    refine T_goto 121 dL_isStep_116 (by decide) ?_
    exact K_L_isStep_b121 h
set_option maxRecDepth 100000 in
set_option maxHeartbeats 4000000 in
theorem K_L_isStep_b329 {l : Launch} {G : smG} {P : Option Value → Hp → Prop}  {i80 : Int32} {i81 : Int32} {s79 : Hp}  (h : OK jI (D_L_isStep_b329 i80 i81 s79) P) : T l G RL cL_isStep 13 (sm_rm 9 0 0) (sm_E (some .boolean) yL_isStep.name) (sm_Qs G P 0 0) 0 0 329 [] [.int i80, .int i81] s79 := by
  unfold D_L_isStep_b329 at h
  refine T_icmp_ne 336 dL_isStep_329 (by decide) h (fun _ h => ?_) (fun _ h => ?_)
  · refine T_iconst (0 : Int32) dL_isStep_336 (by decide) ?_
    exact T_zreturn dL_isStep_337 (Nat.le_of_ble_eq_true rfl) (Nat.le_of_ble_eq_true rfl) h
  · refine T_iconst (1 : Int32) dL_isStep_332 (by decide) ?_
    refine T_goto 337 dL_isStep_333 (by decide) ?_
    exact T_zreturn dL_isStep_337 (Nat.le_of_ble_eq_true rfl) (Nat.le_of_ble_eq_true rfl) h
set_option maxRecDepth 100000 in
set_option maxHeartbeats 4000000 in
theorem K_L_isStep_b392 {l : Launch} {G : smG} {P : Option Value → Hp → Prop}  {a90 : Nat} {i91 : Int32} {i92 : Int32} {i93 : Int32} {i95 : Int32} {i96 : Int32} {s94 : Hp}  (h : OK jI (D_L_isStep_b392 a90 i91 i92 i93 i95 i96 s94) P) : T l G RL cL_isStep 13 (sm_rm 9 0 0) (sm_E (some .boolean) yL_isStep.name) (sm_Qs G P 0 0) 0 0 392 [(0, .ref a90), (5, .int i91), (6, .int i92), (8, .int i93)] [.int i95, .int i96] s94 := by
  unfold D_L_isStep_b392 at h
  refine T_icmp_ne 418 dL_isStep_392 (by decide) h (fun _ h => ?_) (fun _ h => ?_)
  · refine T_iconst (0 : Int32) dL_isStep_418 (by decide) ?_
    exact T_zreturn dL_isStep_419 (Nat.le_of_ble_eq_true rfl) (Nat.le_of_ble_eq_true rfl) h
  · refine T_iload dL_isStep_395 2 rfl ?_
    refine T_iload dL_isStep_397 1 rfl ?_
    refine T_icmp_eq 414 dL_isStep_399 (by decide) h (fun _ h => ?_) (fun _ h => ?_)
    · refine T_iconst (1 : Int32) dL_isStep_414 (by decide) ?_
      refine T_goto 419 dL_isStep_415 (by decide) ?_
      exact T_zreturn dL_isStep_419 (Nat.le_of_ble_eq_true rfl) (Nat.le_of_ble_eq_true rfl) h
    · refine T_aload_n dL_isStep_402 rfl 0 rfl ?_
      refine T_iload dL_isStep_403 2 rfl ?_
      refine T_iconst (2 : Int32) dL_isStep_405 (by decide) ?_
      refine T_callVI (As := [.int i92, .int (2 : Int32)]) (rest := []) (b := a90) (ci := 8) dL_isStep_406 mc_X9_of mi_X9_of ml_RL_28 rfl (fun _ hr => chk_of hr) rfl rfl (Nat.le_of_ble_eq_true rfl) ⟨⟨Nat.le_of_ble_eq_true rfl, Nat.le_of_ble_eq_true rfl⟩, ⟨Nat.le_of_ble_eq_true rfl, Nat.le_of_ble_eq_true rfl⟩⟩ K_X9_of h (fun i97 s98 h => ?_)
      refine T_iload dL_isStep_409 3 rfl ?_
      refine T_icmp_ne 418 dL_isStep_411 (by decide) h (fun _ h => ?_) (fun _ h => ?_)
      · refine T_iconst (0 : Int32) dL_isStep_418 (by decide) ?_
        exact T_zreturn dL_isStep_419 (Nat.le_of_ble_eq_true rfl) (Nat.le_of_ble_eq_true rfl) h
      · refine T_iconst (1 : Int32) dL_isStep_414 (by decide) ?_
        refine T_goto 419 dL_isStep_415 (by decide) ?_
        exact T_zreturn dL_isStep_419 (Nat.le_of_ble_eq_true rfl) (Nat.le_of_ble_eq_true rfl) h
set_option maxRecDepth 100000 in
set_option maxHeartbeats 4000000 in
theorem K_L_isStep_b463 {l : Launch} {G : smG} {P : Option Value → Hp → Prop}  {i106 : Int32} {i107 : Int32} {s105 : Hp}  (h : OK jI (D_L_isStep_b463 i106 i107 s105) P) : T l G RL cL_isStep 13 (sm_rm 9 0 0) (sm_E (some .boolean) yL_isStep.name) (sm_Qs G P 0 0) 0 0 463 [] [.int i106, .int i107] s105 := by
  unfold D_L_isStep_b463 at h
  refine T_icmp_ne 470 dL_isStep_463 (by decide) h (fun _ h => ?_) (fun _ h => ?_)
  · refine T_iconst (0 : Int32) dL_isStep_470 (by decide) ?_
    exact T_zreturn dL_isStep_471 (Nat.le_of_ble_eq_true rfl) (Nat.le_of_ble_eq_true rfl) h
  · refine T_iconst (1 : Int32) dL_isStep_466 (by decide) ?_
    refine T_goto 471 dL_isStep_467 (by decide) ?_
    exact T_zreturn dL_isStep_471 (Nat.le_of_ble_eq_true rfl) (Nat.le_of_ble_eq_true rfl) h
set_option maxRecDepth 100000 in
set_option maxHeartbeats 4000000 in
theorem K_L_isStep_b531 {l : Launch} {G : smG} {P : Option Value → Hp → Prop}  {a123 : Nat} {i124 : Int32} {i126 : Int32} {i127 : Int32} {s125 : Hp}  (h : OK jI (D_L_isStep_b531 a123 i124 i126 i127 s125) P) : T l G RL cL_isStep 13 (sm_rm 9 0 0) (sm_E (some .boolean) yL_isStep.name) (sm_Qs G P 0 0) 0 0 531 [(0, .ref a123), (9, .int i124)] [.int i126, .int i127] s125 := by
  unfold D_L_isStep_b531 at h
  refine T_icmp_ne 551 dL_isStep_531 (by decide) h (fun _ h => ?_) (fun _ h => ?_)
  · refine T_iconst (0 : Int32) dL_isStep_551 (by decide) ?_
    exact T_zreturn dL_isStep_552 (Nat.le_of_ble_eq_true rfl) (Nat.le_of_ble_eq_true rfl) h
  · refine T_iload dL_isStep_534 1 rfl ?_
    refine T_if_eq 547 dL_isStep_536 (by decide) h (fun _ h => ?_) (fun _ h => ?_)
    · refine T_iconst (1 : Int32) dL_isStep_547 (by decide) ?_
      refine T_goto 552 dL_isStep_548 (by decide) ?_
      exact T_zreturn dL_isStep_552 (Nat.le_of_ble_eq_true rfl) (Nat.le_of_ble_eq_true rfl) h
    · refine T_aload_n dL_isStep_539 rfl 0 rfl ?_
      refine T_iconst (5 : Int32) dL_isStep_540 (by decide) ?_
      refine T_callVI (As := [.int (5 : Int32)]) (rest := []) (b := a123) (ci := 8) dL_isStep_541 mc_X9_count mi_X9_count ml_RL_9 rfl (fun _ hr => chk_of hr) rfl rfl (Nat.le_of_ble_eq_true rfl) ⟨⟨Nat.le_of_ble_eq_true rfl, Nat.le_of_ble_eq_true rfl⟩, ⟨Nat.le_of_ble_eq_true rfl, Nat.le_of_ble_eq_true rfl⟩⟩ K_X9_count h (fun i128 s129 h => ?_)
      refine T_if_ne 551 dL_isStep_544 (by decide) h (fun _ h => ?_) (fun _ h => ?_)
      · refine T_iconst (0 : Int32) dL_isStep_551 (by decide) ?_
        exact T_zreturn dL_isStep_552 (Nat.le_of_ble_eq_true rfl) (Nat.le_of_ble_eq_true rfl) h
      · refine T_iconst (1 : Int32) dL_isStep_547 (by decide) ?_
        refine T_goto 552 dL_isStep_548 (by decide) ?_
        exact T_zreturn dL_isStep_552 (Nat.le_of_ble_eq_true rfl) (Nat.le_of_ble_eq_true rfl) h
set_option maxRecDepth 100000 in
set_option maxHeartbeats 4000000 in
theorem K_L_isStep_b489 {l : Launch} {G : smG} {P : Option Value → Hp → Prop}  {a110 : Nat} {a111 : Nat} {i113 : Int32} {i114 : Int32} {s112 : Hp}  (h : OK jI (D_L_isStep_b489 a110 a111 i113 i114 s112) P) : T l G RL cL_isStep 13 (sm_rm 9 0 0) (sm_E (some .boolean) yL_isStep.name) (sm_Qs G P 0 0) 0 0 489 [(0, .ref a110), (1, .ref a111)] [.int i113, .int i114] s112 := by
  unfold D_L_isStep_b489 at h
  refine T_callSI (As := [.int i114, .int i113]) (rest := []) dL_isStep_489 mc_L_up mi_L_up ml_RL_15 rfl rfl (Nat.le_of_ble_eq_true rfl) ⟨⟨Nat.le_of_ble_eq_true rfl, Nat.le_of_ble_eq_true rfl⟩, ⟨Nat.le_of_ble_eq_true rfl, Nat.le_of_ble_eq_true rfl⟩⟩ K_L_up h (fun i115 s116 h => ?_)
  refine T_istore (lv' := [(8, .int i115), (0, .ref a110), (1, .ref a111)]) dL_isStep_492 (by decide) rfl ?_
  refine T_aload_n dL_isStep_494 rfl 1 rfl ?_
  refine T_iload dL_isStep_495 0 rfl ?_
  refine T_callVI (As := [.int i115]) (rest := []) (b := a110) (ci := 8) dL_isStep_497 mc_X9_wind mi_X9_wind ml_RL_40 rfl (fun _ hr => chk_of hr) rfl rfl (Nat.le_of_ble_eq_true rfl) ⟨⟨Nat.le_of_ble_eq_true rfl, Nat.le_of_ble_eq_true rfl⟩, ⟨Nat.le_of_ble_eq_true rfl, Nat.le_of_ble_eq_true rfl⟩⟩ K_X9_wind h (fun i117 s118 h => ?_)
  refine T_istore (lv' := [(9, .int i117), (8, .int i115), (0, .ref a110), (1, .ref a111)]) dL_isStep_500 (by decide) rfl ?_
  refine T_iload dL_isStep_502 0 rfl ?_
  refine T_aload_n dL_isStep_504 rfl 3 rfl ?_
  refine T_iload dL_isStep_505 1 rfl ?_
  refine T_callVI (As := [.int i115]) (rest := [.int i117]) (b := a111) (ci := 8) dL_isStep_507 mc_X9_wind mi_X9_wind ml_RL_40 rfl (fun _ hr => chk_of hr) rfl rfl (Nat.le_of_ble_eq_true rfl) ⟨⟨Nat.le_of_ble_eq_true rfl, Nat.le_of_ble_eq_true rfl⟩, ⟨Nat.le_of_ble_eq_true rfl, Nat.le_of_ble_eq_true rfl⟩⟩ K_X9_wind h (fun i119 s120 h => ?_)
  refine T_icmp_ne 551 dL_isStep_510 (by decide) h (fun _ h => ?_) (fun _ h => ?_)
  · refine T_iconst (0 : Int32) dL_isStep_551 (by decide) ?_
    exact T_zreturn dL_isStep_552 (Nat.le_of_ble_eq_true rfl) (Nat.le_of_ble_eq_true rfl) h
  · refine T_iload dL_isStep_513 0 rfl ?_
    refine T_iload dL_isStep_515 1 rfl ?_
    refine T_aload_n dL_isStep_517 rfl 2 rfl ?_
    refine T_bipush (9 : Int32) dL_isStep_518 (by decide) ?_
    refine T_callVI (As := [.int (9 : Int32)]) (rest := [.int i115, .int i117]) (b := a110) (ci := 8) dL_isStep_520 mc_X9_count mi_X9_count ml_RL_9 rfl (fun _ hr => chk_of hr) rfl rfl (Nat.le_of_ble_eq_true rfl) ⟨⟨Nat.le_of_ble_eq_true rfl, Nat.le_of_ble_eq_true rfl⟩, ⟨Nat.le_of_ble_eq_true rfl, Nat.le_of_ble_eq_true rfl⟩⟩ K_X9_count h (fun i121 s122 h => ?_)
    refine T_icmp_le 530 dL_isStep_523 (by decide) h (fun _ h => ?_) (fun _ h => ?_)
    · refine T_iconst (0 : Int32) dL_isStep_530 (by decide) ?_
      refine T_lv (lv' := [(0, .ref a110), (9, .int i117)]) [2, 0] rfl ?_
      exact K_L_isStep_b531 h
    · refine T_iconst (1 : Int32) dL_isStep_526 (by decide) ?_
      refine T_goto 531 dL_isStep_527 (by decide) ?_
      refine T_lv (lv' := [(0, .ref a110), (9, .int i117)]) [2, 0] rfl ?_
      exact K_L_isStep_b531 h
set_option maxRecDepth 100000 in
set_option maxHeartbeats 4000000 in
theorem K_L_isStep_b602 {l : Launch} {G : smG} {P : Option Value → Hp → Prop}  {a139 : Nat} {a140 : Nat} {i141 : Int32} {i143 : Int32} {s142 : Hp}  (h : OK jI (D_L_isStep_b602 a139 a140 i141 i143 s142) P) : T l G RL cL_isStep 13 (sm_rm 9 0 0) (sm_E (some .boolean) yL_isStep.name) (sm_Qs G P 0 0) 0 0 602 [(0, .ref a139), (1, .ref a140), (8, .int i141)] [.int i143] s142 := by
  unfold D_L_isStep_b602 at h
  refine T_istore (lv' := [(9, .int i143), (0, .ref a139), (1, .ref a140), (8, .int i141)]) dL_isStep_602 (by decide) rfl ?_
  refine T_aload_n dL_isStep_604 rfl 1 rfl ?_
  refine T_iload dL_isStep_605 3 rfl ?_
  refine T_iload dL_isStep_607 0 rfl ?_
  refine T_callVI (As := [.int i141, .int i143]) (rest := []) (b := a139) (ci := 8) dL_isStep_609 mc_X9_set mi_X9_set ml_RL_43 rfl (fun _ hr => chk_of hr) rfl rfl (Nat.le_of_ble_eq_true rfl) ⟨⟨Nat.le_of_ble_eq_true rfl, Nat.le_of_ble_eq_true rfl⟩, ⟨Nat.le_of_ble_eq_true rfl, Nat.le_of_ble_eq_true rfl⟩⟩ K_X9_set h (fun i144 s145 h => ?_)
  refine T_aload_n dL_isStep_612 rfl 2 rfl ?_
  refine T_iload dL_isStep_613 3 rfl ?_
  refine T_iload dL_isStep_615 0 rfl ?_
  refine T_callVI (As := [.int i141, .int i143]) (rest := [.int i144]) (b := a140) (ci := 8) dL_isStep_617 mc_X9_set mi_X9_set ml_RL_43 rfl (fun _ hr => chk_of hr) rfl rfl (Nat.le_of_ble_eq_true rfl) ⟨⟨Nat.le_of_ble_eq_true rfl, Nat.le_of_ble_eq_true rfl⟩, ⟨Nat.le_of_ble_eq_true rfl, Nat.le_of_ble_eq_true rfl⟩⟩ K_X9_set h (fun i146 s147 h => ?_)
  refine T_icmp_ne 641 dL_isStep_620 (by decide) h (fun _ h => ?_) (fun _ h => ?_)
  · refine T_iconst (0 : Int32) dL_isStep_641 (by decide) ?_
    exact T_zreturn dL_isStep_642 (Nat.le_of_ble_eq_true rfl) (Nat.le_of_ble_eq_true rfl) h
  · refine T_aload_n dL_isStep_623 rfl 1 rfl ?_
    refine T_bipush (8 : Int32) dL_isStep_624 (by decide) ?_
    refine T_iload dL_isStep_626 3 rfl ?_
    refine T_iadd dL_isStep_628 ?_
    refine T_callVI (As := [.int ((8 : Int32) + i141)]) (rest := []) (b := a139) (ci := 8) dL_isStep_629 mc_X9_count mi_X9_count ml_RL_9 rfl (fun _ hr => chk_of hr) rfl rfl (Nat.le_of_ble_eq_true rfl) ⟨⟨Nat.le_of_ble_eq_true rfl, Nat.le_of_ble_eq_true rfl⟩, ⟨Nat.le_of_ble_eq_true rfl, Nat.le_of_ble_eq_true rfl⟩⟩ K_X9_count h (fun i148 s149 h => ?_)
    refine T_iload dL_isStep_632 0 rfl ?_
    refine T_icmp_ne 641 dL_isStep_634 (by decide) h (fun _ h => ?_) (fun _ h => ?_)
    · refine T_iconst (0 : Int32) dL_isStep_641 (by decide) ?_
      exact T_zreturn dL_isStep_642 (Nat.le_of_ble_eq_true rfl) (Nat.le_of_ble_eq_true rfl) h
    · refine T_iconst (1 : Int32) dL_isStep_637 (by decide) ?_
      refine T_goto 642 dL_isStep_638 (by decide) ?_
      exact T_zreturn dL_isStep_642 (Nat.le_of_ble_eq_true rfl) (Nat.le_of_ble_eq_true rfl) h
set_option maxRecDepth 100000 in
set_option maxHeartbeats 4000000 in
theorem K_L_isStep_b553 {l : Launch} {G : smG} {P : Option Value → Hp → Prop}  {a130 : Nat} {a131 : Nat} {i132 : Int32} {i133 : Int32} {s134 : Hp}  (h : OK jI (D_L_isStep_b553 a130 a131 i132 i133 s134) P) : T l G RL cL_isStep 13 (sm_rm 9 0 0) (sm_E (some .boolean) yL_isStep.name) (sm_Qs G P 0 0) 0 0 553 [(0, .ref a130), (1, .ref a131), (3, .int i132), (4, .int i133)] [] s134 := by
  unfold D_L_isStep_b553 at h
  refine T_iload dL_isStep_553 3 rfl ?_
  refine T_iconst (3 : Int32) dL_isStep_555 (by decide) ?_
  refine T_callSI (As := [.int i133, .int (3 : Int32)]) (rest := []) dL_isStep_556 mc_L_up mi_L_up ml_RL_15 rfl rfl (Nat.le_of_ble_eq_true rfl) ⟨⟨Nat.le_of_ble_eq_true rfl, Nat.le_of_ble_eq_true rfl⟩, ⟨Nat.le_of_ble_eq_true rfl, Nat.le_of_ble_eq_true rfl⟩⟩ K_L_up h (fun i135 s136 h => ?_)
  refine T_istore (lv' := [(8, .int i135), (0, .ref a130), (1, .ref a131), (3, .int i132), (4, .int i133)]) dL_isStep_559 (by decide) rfl ?_
  refine T_iload dL_isStep_561 0 rfl ?_
  refine T_if_ne 578 dL_isStep_563 (by decide) h (fun _ h => ?_) (fun _ h => ?_)
  · refine T_iload dL_isStep_578 0 rfl ?_
    refine T_iconst (1 : Int32) dL_isStep_580 (by decide) ?_
    refine T_icmp_ne 596 dL_isStep_581 (by decide) h (fun _ h => ?_) (fun _ h => ?_)
    · refine T_iload_n dL_isStep_596 rfl 3 rfl ?_
      refine T_bipush (21 : Int32) dL_isStep_597 (by decide) ?_
      refine T_callSI (As := [.int i132, .int (21 : Int32)]) (rest := []) dL_isStep_599 mc_L_up mi_L_up ml_RL_15 rfl rfl (Nat.le_of_ble_eq_true rfl) ⟨⟨Nat.le_of_ble_eq_true rfl, Nat.le_of_ble_eq_true rfl⟩, ⟨Nat.le_of_ble_eq_true rfl, Nat.le_of_ble_eq_true rfl⟩⟩ K_L_up h (fun i137 s138 h => ?_)
      refine T_lv (lv' := [(0, .ref a130), (1, .ref a131), (8, .int i135)]) [1, 2, 0] rfl ?_
      exact K_L_isStep_b602 h
    · refine T_bipush (20 : Int32) dL_isStep_584 (by decide) ?_
      refine T_iload_n dL_isStep_586 rfl 3 rfl ?_
      refine T_bipush (80 : Int32) dL_isStep_587 (by decide) ?_
      refine T_callSI (As := [.int i132, .int (80 : Int32)]) (rest := [.int (20 : Int32)]) dL_isStep_589 mc_L_up mi_L_up ml_RL_15 rfl rfl (Nat.le_of_ble_eq_true rfl) ⟨⟨Nat.le_of_ble_eq_true rfl, Nat.le_of_ble_eq_true rfl⟩, ⟨Nat.le_of_ble_eq_true rfl, Nat.le_of_ble_eq_true rfl⟩⟩ K_L_up h (fun i150 s151 h => ?_)
      refine T_iadd dL_isStep_592 ?_
      refine T_goto 602 dL_isStep_593 (by decide) ?_
      refine T_lv (lv' := [(0, .ref a130), (1, .ref a131), (8, .int i135)]) [1, 2, 0] rfl ?_
      exact K_L_isStep_b602 h
  · refine T_iconst (1 : Int32) dL_isStep_566 (by decide) ?_
    refine T_iload_n dL_isStep_567 rfl 3 rfl ?_
    refine T_sipush (300 : Int32) dL_isStep_568 (by decide) ?_
    refine T_callSI (As := [.int i132, .int (300 : Int32)]) (rest := [.int (1 : Int32)]) dL_isStep_571 mc_L_up mi_L_up ml_RL_15 rfl rfl (Nat.le_of_ble_eq_true rfl) ⟨⟨Nat.le_of_ble_eq_true rfl, Nat.le_of_ble_eq_true rfl⟩, ⟨Nat.le_of_ble_eq_true rfl, Nat.le_of_ble_eq_true rfl⟩⟩ K_L_up h (fun i152 s153 h => ?_)
    refine T_iadd dL_isStep_574 ?_
    refine T_goto 602 dL_isStep_575 (by decide) ?_
    refine T_lv (lv' := [(0, .ref a130), (1, .ref a131), (8, .int i135)]) [1, 2, 0] rfl ?_
    exact K_L_isStep_b602 h
set_option maxRecDepth 100000 in
set_option maxHeartbeats 4000000 in
theorem K_L_isStep_b660 {l : Launch} {G : smG} {P : Option Value → Hp → Prop}  {a162 : Nat} {a163 : Nat} {i164 : Int32} {i166 : Int32} {i167 : Int32} {i168 : Int32} {s165 : Hp}  (h : OK jI (D_L_isStep_b660 a162 a163 i164 i166 i167 i168 s165) P) : T l G RL cL_isStep 13 (sm_rm 9 0 0) (sm_E (some .boolean) yL_isStep.name) (sm_Qs G P 0 0) 0 0 660 [(0, .ref a162), (1, .ref a163), (7, .int i164)] [.int i166, .int i167, .int i168] s165 := by
  unfold D_L_isStep_b660 at h
  refine T_callSI (As := [.int i167, .int i166]) (rest := [.int i168]) dL_isStep_660 mc_L_up mi_L_up ml_RL_15 rfl rfl (Nat.le_of_ble_eq_true rfl) ⟨⟨Nat.le_of_ble_eq_true rfl, Nat.le_of_ble_eq_true rfl⟩, ⟨Nat.le_of_ble_eq_true rfl, Nat.le_of_ble_eq_true rfl⟩⟩ K_L_up h (fun i169 s170 h => ?_)
  refine T_iadd dL_isStep_663 ?_
  refine T_nm h (fun i171 h => ?_)
  refine T_istore (lv' := [(8, .int i171), (0, .ref a162), (1, .ref a163), (7, .int i164)]) dL_isStep_664 (by decide) rfl ?_
  refine T_aload_n dL_isStep_666 rfl 1 rfl ?_
  refine T_iconst (4 : Int32) dL_isStep_667 (by decide) ?_
  refine T_callVI (As := [.int (4 : Int32)]) (rest := []) (b := a162) (ci := 8) dL_isStep_668 mc_X9_count mi_X9_count ml_RL_9 rfl (fun _ hr => chk_of hr) rfl rfl (Nat.le_of_ble_eq_true rfl) ⟨⟨Nat.le_of_ble_eq_true rfl, Nat.le_of_ble_eq_true rfl⟩, ⟨Nat.le_of_ble_eq_true rfl, Nat.le_of_ble_eq_true rfl⟩⟩ K_X9_count h (fun i172 s173 h => ?_)
  refine T_istore (lv' := [(9, .int i172), (8, .int i171), (0, .ref a162), (1, .ref a163), (7, .int i164)]) dL_isStep_671 (by decide) rfl ?_
  refine T_aload_n dL_isStep_673 rfl 2 rfl ?_
  refine T_iload dL_isStep_674 1 rfl ?_
  refine T_callVI (As := [.int i171]) (rest := []) (b := a162) (ci := 8) dL_isStep_676 mc_X9_pass mi_X9_pass ml_RL_46 rfl (fun _ hr => chk_of hr) rfl rfl (Nat.le_of_ble_eq_true rfl) ⟨⟨Nat.le_of_ble_eq_true rfl, Nat.le_of_ble_eq_true rfl⟩, ⟨Nat.le_of_ble_eq_true rfl, Nat.le_of_ble_eq_true rfl⟩⟩ K_X9_pass h (fun i174 s175 h => ?_)
  refine T_istore (lv' := [(10, .int i174), (9, .int i172), (8, .int i171), (0, .ref a162), (1, .ref a163), (7, .int i164)]) dL_isStep_679 (by decide) rfl ?_
  refine T_iload dL_isStep_681 0 rfl ?_
  refine T_aload_n dL_isStep_683 rfl 4 rfl ?_
  refine T_iload dL_isStep_684 2 rfl ?_
  refine T_callVI (As := [.int i171]) (rest := [.int i174]) (b := a163) (ci := 8) dL_isStep_686 mc_X9_pass mi_X9_pass ml_RL_46 rfl (fun _ hr => chk_of hr) rfl rfl (Nat.le_of_ble_eq_true rfl) ⟨⟨Nat.le_of_ble_eq_true rfl, Nat.le_of_ble_eq_true rfl⟩, ⟨Nat.le_of_ble_eq_true rfl, Nat.le_of_ble_eq_true rfl⟩⟩ K_X9_pass h (fun i176 s177 h => ?_)
  refine T_icmp_ne 727 dL_isStep_689 (by decide) h (fun _ h => ?_) (fun _ h => ?_)
  · refine T_iconst (0 : Int32) dL_isStep_727 (by decide) ?_
    exact T_zreturn dL_isStep_728 (Nat.le_of_ble_eq_true rfl) (Nat.le_of_ble_eq_true rfl) h
  · refine T_aload_n dL_isStep_692 rfl 3 rfl ?_
    refine T_iconst (4 : Int32) dL_isStep_693 (by decide) ?_
    refine T_callVI (As := [.int (4 : Int32)]) (rest := []) (b := a162) (ci := 8) dL_isStep_694 mc_X9_count mi_X9_count ml_RL_9 rfl (fun _ hr => chk_of hr) rfl rfl (Nat.le_of_ble_eq_true rfl) ⟨⟨Nat.le_of_ble_eq_true rfl, Nat.le_of_ble_eq_true rfl⟩, ⟨Nat.le_of_ble_eq_true rfl, Nat.le_of_ble_eq_true rfl⟩⟩ K_X9_count h (fun i178 s179 h => ?_)
    refine T_iload dL_isStep_697 1 rfl ?_
    refine T_iload dL_isStep_699 0 rfl ?_
    refine T_iadd dL_isStep_701 ?_
    refine T_icmp_ne 727 dL_isStep_702 (by decide) h (fun _ h => ?_) (fun _ h => ?_)
    · refine T_iconst (0 : Int32) dL_isStep_727 (by decide) ?_
      exact T_zreturn dL_isStep_728 (Nat.le_of_ble_eq_true rfl) (Nat.le_of_ble_eq_true rfl) h
    · refine T_iload dL_isStep_705 0 rfl ?_
      refine T_if_lt 727 dL_isStep_707 (by decide) h (fun _ h => ?_) (fun _ h => ?_)
      · refine T_iconst (0 : Int32) dL_isStep_727 (by decide) ?_
        exact T_zreturn dL_isStep_728 (Nat.le_of_ble_eq_true rfl) (Nat.le_of_ble_eq_true rfl) h
      · refine T_iload dL_isStep_710 2 rfl ?_
        refine T_iconst (1 : Int32) dL_isStep_712 (by decide) ?_
        refine T_icmp_gt 723 dL_isStep_713 (by decide) h (fun _ h => ?_) (fun _ h => ?_)
        · refine T_iconst (1 : Int32) dL_isStep_723 (by decide) ?_
          refine T_goto 728 dL_isStep_724 (by decide) ?_
          exact T_zreturn dL_isStep_728 (Nat.le_of_ble_eq_true rfl) (Nat.le_of_ble_eq_true rfl) h
        · refine T_iload dL_isStep_716 0 rfl ?_
          refine T_iload dL_isStep_718 5 rfl ?_
          refine T_icmp_ne 727 dL_isStep_720 (by decide) h (fun _ h => ?_) (fun _ h => ?_)
          · refine T_iconst (0 : Int32) dL_isStep_727 (by decide) ?_
            exact T_zreturn dL_isStep_728 (Nat.le_of_ble_eq_true rfl) (Nat.le_of_ble_eq_true rfl) h
          · refine T_iconst (1 : Int32) dL_isStep_723 (by decide) ?_
            refine T_goto 728 dL_isStep_724 (by decide) ?_
            exact T_zreturn dL_isStep_728 (Nat.le_of_ble_eq_true rfl) (Nat.le_of_ble_eq_true rfl) h
set_option maxRecDepth 100000 in
set_option maxHeartbeats 4000000 in
theorem K_L_isStep_b643 {l : Launch} {G : smG} {P : Option Value → Hp → Prop}  {a154 : Nat} {a155 : Nat} {i156 : Int32} {i157 : Int32} {i158 : Int32} {s159 : Hp}  (h : OK jI (D_L_isStep_b643 a154 a155 i156 i157 i158 s159) P) : T l G RL cL_isStep 13 (sm_rm 9 0 0) (sm_E (some .boolean) yL_isStep.name) (sm_Qs G P 0 0) 0 0 643 [(0, .ref a154), (1, .ref a155), (3, .int i156), (4, .int i157), (7, .int i158)] [] s159 := by
  unfold D_L_isStep_b643 at h
  refine T_iconst (1 : Int32) dL_isStep_643 (by decide) ?_
  refine T_iload_n dL_isStep_644 rfl 2 rfl ?_
  refine T_iload dL_isStep_645 3 rfl ?_
  refine T_iconst (3 : Int32) dL_isStep_647 (by decide) ?_
  refine T_callSI (As := [.int i157, .int (3 : Int32)]) (rest := [.int i156, .int (1 : Int32)]) dL_isStep_648 mc_L_up mi_L_up ml_RL_15 rfl rfl (Nat.le_of_ble_eq_true rfl) ⟨⟨Nat.le_of_ble_eq_true rfl, Nat.le_of_ble_eq_true rfl⟩, ⟨Nat.le_of_ble_eq_true rfl, Nat.le_of_ble_eq_true rfl⟩⟩ K_L_up h (fun i160 s161 h => ?_)
  refine T_if_ne 659 dL_isStep_651 (by decide) h (fun _ h => ?_) (fun _ h => ?_)
  · refine T_iconst (2 : Int32) dL_isStep_659 (by decide) ?_
    refine T_lv (lv' := [(0, .ref a154), (1, .ref a155), (7, .int i158)]) [0, 1, 4] rfl ?_
    exact K_L_isStep_b660 h
  · refine T_bipush (15 : Int32) dL_isStep_654 (by decide) ?_
    refine T_goto 660 dL_isStep_656 (by decide) ?_
    refine T_lv (lv' := [(0, .ref a154), (1, .ref a155), (7, .int i158)]) [0, 1, 4] rfl ?_
    exact K_L_isStep_b660 h
set_option maxRecDepth 100000 in
set_option maxHeartbeats 4000000 in
theorem K_L_isStep {l : Launch} {a0 : Nat} {a1 : Nat} {i2 : Int32} {i3 : Int32} {s0 : Hp} : ∀ P, OK jI (D_L_isStep a0 a1 i2 i3 s0) P → sm_Ct l yL_isStep cL_isStep 13 (some .boolean) 9 0 0 [.ref a0, .ref a1, .int i2, .int i3] s0 P := by
  intro P h
  unfold D_L_isStep at h
  refine sm_enter (own := RL) (lv := [(0, .ref a0), (1, .ref a1), (2, .int i2), (3, .int i3)]) (by decide) rfl (Nat.le_of_ble_eq_true rfl) rfl (fun G => ?_)
  refine T_iload_n dL_isStep_0 rfl 2 rfl ?_
  refine T_iconst (4 : Int32) dL_isStep_1 (by decide) ?_
  refine T_ishr dL_isStep_2 ?_
  refine T_nm h (fun i11 h => ?_)
  refine T_istore (lv' := [(4, .int i11), (0, .ref a0), (1, .ref a1), (2, .int i2), (3, .int i3)]) dL_isStep_3 (by decide) rfl ?_
  refine T_aload_n dL_isStep_5 rfl 1 rfl ?_
  refine T_iconst (1 : Int32) dL_isStep_6 (by decide) ?_
  refine T_callVI (As := [.int (1 : Int32)]) (rest := []) (b := a0) (ci := 8) dL_isStep_7 mc_X9_count mi_X9_count ml_RL_9 rfl (fun _ hr => chk_of hr) rfl rfl (Nat.le_of_ble_eq_true rfl) ⟨⟨Nat.le_of_ble_eq_true rfl, Nat.le_of_ble_eq_true rfl⟩, ⟨Nat.le_of_ble_eq_true rfl, Nat.le_of_ble_eq_true rfl⟩⟩ K_X9_count h (fun i12 s13 h => ?_)
  refine T_istore (lv' := [(5, .int i12), (4, .int i11), (0, .ref a0), (1, .ref a1), (2, .int i2), (3, .int i3)]) dL_isStep_10 (by decide) rfl ?_
  refine T_iload dL_isStep_12 1 rfl ?_
  refine T_iload dL_isStep_14 0 rfl ?_
  refine T_iconst (1 : Int32) dL_isStep_16 (by decide) ?_
  refine T_iadd dL_isStep_17 ?_
  refine T_callSI (As := [.int i11, .int (i12 + (1 : Int32))]) (rest := []) dL_isStep_18 mc_L_up mi_L_up ml_RL_15 rfl rfl (Nat.le_of_ble_eq_true rfl) ⟨⟨Nat.le_of_ble_eq_true rfl, Nat.le_of_ble_eq_true rfl⟩, ⟨Nat.le_of_ble_eq_true rfl, Nat.le_of_ble_eq_true rfl⟩⟩ K_L_up h (fun i14 s15 h => ?_)
  refine T_istore (lv' := [(6, .int i14), (5, .int i12), (4, .int i11), (0, .ref a0), (1, .ref a1), (2, .int i2), (3, .int i3)]) dL_isStep_21 (by decide) rfl ?_
  refine T_aload_n dL_isStep_23 rfl 3 rfl ?_
  refine T_iconst (5 : Int32) dL_isStep_24 (by decide) ?_
  refine T_callVI (As := [.int (5 : Int32)]) (rest := []) (b := a0) (ci := 8) dL_isStep_25 mc_X9_count mi_X9_count ml_RL_9 rfl (fun _ hr => chk_of hr) rfl rfl (Nat.le_of_ble_eq_true rfl) ⟨⟨Nat.le_of_ble_eq_true rfl, Nat.le_of_ble_eq_true rfl⟩, ⟨Nat.le_of_ble_eq_true rfl, Nat.le_of_ble_eq_true rfl⟩⟩ K_X9_count h (fun i16 s17 h => ?_)
  refine T_istore (lv' := [(7, .int i16), (6, .int i14), (5, .int i12), (4, .int i11), (0, .ref a0), (1, .ref a1), (2, .int i2), (3, .int i3)]) dL_isStep_28 (by decide) rfl ?_
  refine T_iload_n dL_isStep_30 rfl 6 rfl ?_
  refine T_bipush (14 : Int32) dL_isStep_31 (by decide) ?_
  refine T_callSI (As := [.int i2, .int (14 : Int32)]) (rest := []) dL_isStep_33 mc_L_up mi_L_up ml_RL_15 rfl rfl (Nat.le_of_ble_eq_true rfl) ⟨⟨Nat.le_of_ble_eq_true rfl, Nat.le_of_ble_eq_true rfl⟩, ⟨Nat.le_of_ble_eq_true rfl, Nat.le_of_ble_eq_true rfl⟩⟩ K_L_up h (fun i18 s19 h => ?_)
  refine T_ite h (fun c0 h => ?_) (fun c0 h => ?_)
  · refine T_tableIn 104 dL_isStep_36 (by rw [c0]; decide) (by rw [c0]; decide) (by rw [c0]; rfl) (by decide) ?_
    refine T_lv (lv' := [(0, .ref a0), (1, .ref a1), (3, .int i3), (4, .int i11), (5, .int i12)]) [4, 5, 7, 3, 2] rfl ?_
    exact K_L_isStep_b104 h
  refine T_ite h (fun c1 h => ?_) (fun c1 h => ?_)
  · refine T_tableIn 104 dL_isStep_36 (by rw [c1]; decide) (by rw [c1]; decide) (by rw [c1]; rfl) (by decide) ?_
    refine T_lv (lv' := [(0, .ref a0), (1, .ref a1), (3, .int i3), (4, .int i11), (5, .int i12)]) [4, 5, 7, 3, 2] rfl ?_
    exact K_L_isStep_b104 h
  refine T_ite h (fun c2 h => ?_) (fun c2 h => ?_)
  · refine T_tableIn 104 dL_isStep_36 (by rw [c2]; decide) (by rw [c2]; decide) (by rw [c2]; rfl) (by decide) ?_
    refine T_lv (lv' := [(0, .ref a0), (1, .ref a1), (3, .int i3), (4, .int i11), (5, .int i12)]) [4, 5, 7, 3, 2] rfl ?_
    exact K_L_isStep_b104 h
  refine T_ite h (fun c3 h => ?_) (fun c3 h => ?_)
  · refine T_tableIn 104 dL_isStep_36 (by rw [c3]; decide) (by rw [c3]; decide) (by rw [c3]; rfl) (by decide) ?_
    refine T_lv (lv' := [(0, .ref a0), (1, .ref a1), (3, .int i3), (4, .int i11), (5, .int i12)]) [4, 5, 7, 3, 2] rfl ?_
    exact K_L_isStep_b104 h
  refine T_ite h (fun c4 h => ?_) (fun c4 h => ?_)
  · refine T_tableIn 283 dL_isStep_36 (by rw [c4]; decide) (by rw [c4]; decide) (by rw [c4]; rfl) (by decide) ?_
    refine T_iload_n dL_isStep_283 rfl 7 rfl ?_
    refine T_iconst (3 : Int32) dL_isStep_284 (by decide) ?_
    refine T_callSI (As := [.int i3, .int (3 : Int32)]) (rest := []) dL_isStep_285 mc_L_up mi_L_up ml_RL_15 rfl rfl (Nat.le_of_ble_eq_true rfl) ⟨⟨Nat.le_of_ble_eq_true rfl, Nat.le_of_ble_eq_true rfl⟩, ⟨Nat.le_of_ble_eq_true rfl, Nat.le_of_ble_eq_true rfl⟩⟩ K_L_up h (fun i73 s74 h => ?_)
    refine T_if_le 293 dL_isStep_288 (by decide) h (fun _ h => ?_) (fun _ h => ?_)
    · refine T_aload_n dL_isStep_293 rfl 4 rfl ?_
      refine T_iload dL_isStep_294 1 rfl ?_
      refine T_callVI (As := [.int i14]) (rest := []) (b := a0) (ci := 8) dL_isStep_296 mc_X9_take mi_X9_take ml_RL_31 rfl (fun _ hr => chk_of hr) rfl rfl (Nat.le_of_ble_eq_true rfl) ⟨⟨Nat.le_of_ble_eq_true rfl, Nat.le_of_ble_eq_true rfl⟩, ⟨Nat.le_of_ble_eq_true rfl, Nat.le_of_ble_eq_true rfl⟩⟩ K_X9_take h (fun i75 s76 h => ?_)
      refine T_istore (lv' := [(8, .int i75), (7, .int i16), (6, .int i14), (5, .int i12), (4, .int i11), (0, .ref a0), (1, .ref a1), (2, .int i2), (3, .int i3)]) dL_isStep_299 (by decide) rfl ?_
      refine T_iload dL_isStep_301 0 rfl ?_
      refine T_aload_n dL_isStep_303 rfl 6 rfl ?_
      refine T_iload dL_isStep_304 2 rfl ?_
      refine T_callVI (As := [.int i14]) (rest := [.int i75]) (b := a1) (ci := 8) dL_isStep_306 mc_X9_take mi_X9_take ml_RL_31 rfl (fun _ hr => chk_of hr) rfl rfl (Nat.le_of_ble_eq_true rfl) ⟨⟨Nat.le_of_ble_eq_true rfl, Nat.le_of_ble_eq_true rfl⟩, ⟨Nat.le_of_ble_eq_true rfl, Nat.le_of_ble_eq_true rfl⟩⟩ K_X9_take h (fun i77 s78 h => ?_)
      refine T_icmp_ne 336 dL_isStep_309 (by decide) h (fun _ h => ?_) (fun _ h => ?_)
      · refine T_iconst (0 : Int32) dL_isStep_336 (by decide) ?_
        exact T_zreturn dL_isStep_337 (Nat.le_of_ble_eq_true rfl) (Nat.le_of_ble_eq_true rfl) h
      · refine T_iload dL_isStep_312 0 rfl ?_
        refine T_iload dL_isStep_314 2 rfl ?_
        refine T_iload dL_isStep_316 3 rfl ?_
        refine T_icmp_ne 325 dL_isStep_318 (by decide) h (fun _ h => ?_) (fun _ h => ?_)
        · refine T_iload dL_isStep_325 3 rfl ?_
          refine T_iconst (1 : Int32) dL_isStep_327 (by decide) ?_
          refine T_isub dL_isStep_328 ?_
          refine T_lv (lv' := []) [] rfl ?_
          exact K_L_isStep_b329 h
        · refine T_iconst (-1 : Int32) dL_isStep_321 (by decide) ?_
          refine T_goto 329 dL_isStep_322 (by decide) ?_
          refine T_lv (lv' := []) [] rfl ?_
          exact K_L_isStep_b329 h
    · refine T_iconst (1 : Int32) dL_isStep_291 (by decide) ?_
      exact T_zreturn dL_isStep_292 (Nat.le_of_ble_eq_true rfl) (Nat.le_of_ble_eq_true rfl) h
  refine T_ite h (fun c5 h => ?_) (fun c5 h => ?_)
  · refine T_tableIn 338 dL_isStep_36 (by rw [c5]; decide) (by rw [c5]; decide) (by rw [c5]; rfl) (by decide) ?_
    refine T_iload_n dL_isStep_338 rfl 7 rfl ?_
    refine T_iconst (4 : Int32) dL_isStep_339 (by decide) ?_
    refine T_callSI (As := [.int i3, .int (4 : Int32)]) (rest := []) dL_isStep_340 mc_L_up mi_L_up ml_RL_15 rfl rfl (Nat.le_of_ble_eq_true rfl) ⟨⟨Nat.le_of_ble_eq_true rfl, Nat.le_of_ble_eq_true rfl⟩, ⟨Nat.le_of_ble_eq_true rfl, Nat.le_of_ble_eq_true rfl⟩⟩ K_L_up h (fun i82 s83 h => ?_)
    refine T_istore (lv' := [(8, .int i82), (7, .int i16), (6, .int i14), (5, .int i12), (4, .int i11), (0, .ref a0), (1, .ref a1), (2, .int i2), (3, .int i3)]) dL_isStep_343 (by decide) rfl ?_
    refine T_aload_n dL_isStep_345 rfl 5 rfl ?_
    refine T_iload dL_isStep_346 2 rfl ?_
    refine T_iconst (2 : Int32) dL_isStep_348 (by decide) ?_
    refine T_callVI (As := [.int i14, .int (2 : Int32)]) (rest := []) (b := a0) (ci := 8) dL_isStep_349 mc_X9_of mi_X9_of ml_RL_28 rfl (fun _ hr => chk_of hr) rfl rfl (Nat.le_of_ble_eq_true rfl) ⟨⟨Nat.le_of_ble_eq_true rfl, Nat.le_of_ble_eq_true rfl⟩, ⟨Nat.le_of_ble_eq_true rfl, Nat.le_of_ble_eq_true rfl⟩⟩ K_X9_of h (fun i84 s85 h => ?_)
    refine T_istore (lv' := [(9, .int i84), (8, .int i82), (7, .int i16), (6, .int i14), (5, .int i12), (4, .int i11), (0, .ref a0), (1, .ref a1), (2, .int i2), (3, .int i3)]) dL_isStep_352 (by decide) rfl ?_
    refine T_aload_n dL_isStep_354 rfl 6 rfl ?_
    refine T_iload dL_isStep_355 3 rfl ?_
    refine T_iload dL_isStep_357 1 rfl ?_
    refine T_callVI (As := [.int i14, .int i82]) (rest := []) (b := a0) (ci := 8) dL_isStep_359 mc_X9_aim mi_X9_aim ml_RL_34 rfl (fun _ hr => chk_of hr) rfl rfl (Nat.le_of_ble_eq_true rfl) ⟨⟨Nat.le_of_ble_eq_true rfl, Nat.le_of_ble_eq_true rfl⟩, ⟨Nat.le_of_ble_eq_true rfl, Nat.le_of_ble_eq_true rfl⟩⟩ K_X9_aim h (fun i86 s87 h => ?_)
    refine T_istore (lv' := [(10, .int i86), (9, .int i84), (8, .int i82), (7, .int i16), (6, .int i14), (5, .int i12), (4, .int i11), (0, .ref a0), (1, .ref a1), (2, .int i2), (3, .int i3)]) dL_isStep_362 (by decide) rfl ?_
    refine T_iload dL_isStep_364 0 rfl ?_
    refine T_aload_n dL_isStep_366 rfl 8 rfl ?_
    refine T_iload dL_isStep_367 4 rfl ?_
    refine T_iload dL_isStep_369 2 rfl ?_
    refine T_callVI (As := [.int i14, .int i82]) (rest := [.int i86]) (b := a1) (ci := 8) dL_isStep_371 mc_X9_aim mi_X9_aim ml_RL_34 rfl (fun _ hr => chk_of hr) rfl rfl (Nat.le_of_ble_eq_true rfl) ⟨⟨Nat.le_of_ble_eq_true rfl, Nat.le_of_ble_eq_true rfl⟩, ⟨Nat.le_of_ble_eq_true rfl, Nat.le_of_ble_eq_true rfl⟩⟩ K_X9_aim h (fun i88 s89 h => ?_)
    refine T_icmp_ne 418 dL_isStep_374 (by decide) h (fun _ h => ?_) (fun _ h => ?_)
    · refine T_iconst (0 : Int32) dL_isStep_418 (by decide) ?_
      exact T_zreturn dL_isStep_419 (Nat.le_of_ble_eq_true rfl) (Nat.le_of_ble_eq_true rfl) h
    · refine T_iload dL_isStep_377 0 rfl ?_
      refine T_iload dL_isStep_379 4 rfl ?_
      refine T_iload dL_isStep_381 5 rfl ?_
      refine T_icmp_ne 390 dL_isStep_383 (by decide) h (fun _ h => ?_) (fun _ h => ?_)
      · refine T_iload dL_isStep_390 1 rfl ?_
        refine T_lv (lv' := [(0, .ref a0), (5, .int i12), (6, .int i14), (8, .int i82)]) [7, 5, 4, 2] rfl ?_
        exact K_L_isStep_b392 h
      · refine T_iconst (-1 : Int32) dL_isStep_386 (by decide) ?_
        refine T_goto 392 dL_isStep_387 (by decide) ?_
        refine T_lv (lv' := [(0, .ref a0), (5, .int i12), (6, .int i14), (8, .int i82)]) [7, 5, 4, 2] rfl ?_
        exact K_L_isStep_b392 h
  refine T_ite h (fun c6 h => ?_) (fun c6 h => ?_)
  · refine T_tableIn 420 dL_isStep_36 (by rw [c6]; decide) (by rw [c6]; decide) (by rw [c6]; rfl) (by decide) ?_
    refine T_aload_n dL_isStep_420 rfl 4 rfl ?_
    refine T_iload dL_isStep_421 1 rfl ?_
    refine T_iconst (3 : Int32) dL_isStep_423 (by decide) ?_
    refine T_callVI (As := [.int i14, .int (3 : Int32)]) (rest := []) (b := a0) (ci := 8) dL_isStep_424 mc_X9_of mi_X9_of ml_RL_28 rfl (fun _ hr => chk_of hr) rfl rfl (Nat.le_of_ble_eq_true rfl) ⟨⟨Nat.le_of_ble_eq_true rfl, Nat.le_of_ble_eq_true rfl⟩, ⟨Nat.le_of_ble_eq_true rfl, Nat.le_of_ble_eq_true rfl⟩⟩ K_X9_of h (fun i99 s100 h => ?_)
    refine T_istore (lv' := [(8, .int i99), (7, .int i16), (6, .int i14), (5, .int i12), (4, .int i11), (0, .ref a0), (1, .ref a1), (2, .int i2), (3, .int i3)]) dL_isStep_427 (by decide) rfl ?_
    refine T_aload_n dL_isStep_429 rfl 5 rfl ?_
    refine T_iload dL_isStep_430 2 rfl ?_
    refine T_callVI (As := [.int i14]) (rest := []) (b := a0) (ci := 8) dL_isStep_432 mc_X9_wash mi_X9_wash ml_RL_37 rfl (fun _ hr => chk_of hr) rfl rfl (Nat.le_of_ble_eq_true rfl) ⟨⟨Nat.le_of_ble_eq_true rfl, Nat.le_of_ble_eq_true rfl⟩, ⟨Nat.le_of_ble_eq_true rfl, Nat.le_of_ble_eq_true rfl⟩⟩ K_X9_wash h (fun i101 s102 h => ?_)
    refine T_istore (lv' := [(9, .int i101), (8, .int i99), (7, .int i16), (6, .int i14), (5, .int i12), (4, .int i11), (0, .ref a0), (1, .ref a1), (2, .int i2), (3, .int i3)]) dL_isStep_435 (by decide) rfl ?_
    refine T_iload dL_isStep_437 0 rfl ?_
    refine T_aload_n dL_isStep_439 rfl 7 rfl ?_
    refine T_iload dL_isStep_440 3 rfl ?_
    refine T_callVI (As := [.int i14]) (rest := [.int i101]) (b := a1) (ci := 8) dL_isStep_442 mc_X9_wash mi_X9_wash ml_RL_37 rfl (fun _ hr => chk_of hr) rfl rfl (Nat.le_of_ble_eq_true rfl) ⟨⟨Nat.le_of_ble_eq_true rfl, Nat.le_of_ble_eq_true rfl⟩, ⟨Nat.le_of_ble_eq_true rfl, Nat.le_of_ble_eq_true rfl⟩⟩ K_X9_wash h (fun i103 s104 h => ?_)
    refine T_icmp_ne 470 dL_isStep_445 (by decide) h (fun _ h => ?_) (fun _ h => ?_)
    · refine T_iconst (0 : Int32) dL_isStep_470 (by decide) ?_
      exact T_zreturn dL_isStep_471 (Nat.le_of_ble_eq_true rfl) (Nat.le_of_ble_eq_true rfl) h
    · refine T_iload dL_isStep_448 0 rfl ?_
      refine T_iload dL_isStep_450 3 rfl ?_
      refine T_iload dL_isStep_452 4 rfl ?_
      refine T_icmp_ne 461 dL_isStep_454 (by decide) h (fun _ h => ?_) (fun _ h => ?_)
      · refine T_iload dL_isStep_461 1 rfl ?_
        refine T_lv (lv' := []) [] rfl ?_
        exact K_L_isStep_b463 h
      · refine T_iconst (-1 : Int32) dL_isStep_457 (by decide) ?_
        refine T_goto 463 dL_isStep_458 (by decide) ?_
        refine T_lv (lv' := []) [] rfl ?_
        exact K_L_isStep_b463 h
  refine T_ite h (fun c7 h => ?_) (fun c7 h => ?_)
  · refine T_tableIn 472 dL_isStep_36 (by rw [c7]; decide) (by rw [c7]; decide) (by rw [c7]; rfl) (by decide) ?_
    refine T_iload_n dL_isStep_472 rfl 7 rfl ?_
    refine T_iload dL_isStep_473 3 rfl ?_
    refine T_iconst (3 : Int32) dL_isStep_475 (by decide) ?_
    refine T_callSI (As := [.int i11, .int (3 : Int32)]) (rest := [.int i3]) dL_isStep_476 mc_L_up mi_L_up ml_RL_15 rfl rfl (Nat.le_of_ble_eq_true rfl) ⟨⟨Nat.le_of_ble_eq_true rfl, Nat.le_of_ble_eq_true rfl⟩, ⟨Nat.le_of_ble_eq_true rfl, Nat.le_of_ble_eq_true rfl⟩⟩ K_L_up h (fun i108 s109 h => ?_)
    refine T_if_ne 487 dL_isStep_479 (by decide) h (fun _ h => ?_) (fun _ h => ?_)
    · refine T_bipush (40 : Int32) dL_isStep_487 (by decide) ?_
      refine T_lv (lv' := [(0, .ref a0), (1, .ref a1)]) [4, 5] rfl ?_
      exact K_L_isStep_b489 h
    · refine T_bipush (100 : Int32) dL_isStep_482 (by decide) ?_
      refine T_goto 489 dL_isStep_484 (by decide) ?_
      refine T_lv (lv' := [(0, .ref a0), (1, .ref a1)]) [4, 5] rfl ?_
      exact K_L_isStep_b489 h
  refine T_ite h (fun c8 h => ?_) (fun c8 h => ?_)
  · refine T_tableIn 553 dL_isStep_36 (by rw [c8]; decide) (by rw [c8]; decide) (by rw [c8]; rfl) (by decide) ?_
    refine T_lv (lv' := [(0, .ref a0), (1, .ref a1), (3, .int i3), (4, .int i11)]) [4, 5, 7, 3] rfl ?_
    exact K_L_isStep_b553 h
  refine T_ite h (fun c9 h => ?_) (fun c9 h => ?_)
  · refine T_tableIn 553 dL_isStep_36 (by rw [c9]; decide) (by rw [c9]; decide) (by rw [c9]; rfl) (by decide) ?_
    refine T_lv (lv' := [(0, .ref a0), (1, .ref a1), (3, .int i3), (4, .int i11)]) [4, 5, 7, 3] rfl ?_
    exact K_L_isStep_b553 h
  refine T_ite h (fun c10 h => ?_) (fun c10 h => ?_)
  · refine T_tableIn 643 dL_isStep_36 (by rw [c10]; decide) (by rw [c10]; decide) (by rw [c10]; rfl) (by decide) ?_
    refine T_lv (lv' := [(0, .ref a0), (1, .ref a1), (3, .int i3), (4, .int i11), (7, .int i16)]) [4, 5, 7, 3, 0] rfl ?_
    exact K_L_isStep_b643 h
  refine T_ite h (fun c11 h => ?_) (fun c11 h => ?_)
  · refine T_tableIn 643 dL_isStep_36 (by rw [c11]; decide) (by rw [c11]; decide) (by rw [c11]; rfl) (by decide) ?_
    refine T_lv (lv' := [(0, .ref a0), (1, .ref a1), (3, .int i3), (4, .int i11), (7, .int i16)]) [4, 5, 7, 3, 0] rfl ?_
    exact K_L_isStep_b643 h
  refine T_ite h (fun c12 h => ?_) (fun c12 h => ?_)
  · refine T_tableIn 729 dL_isStep_36 (by rw [c12]; decide) (by rw [c12]; decide) (by rw [c12]; rfl) (by decide) ?_
    refine T_aload_n dL_isStep_729 rfl 4 rfl ?_
    refine T_bipush (12 : Int32) dL_isStep_730 (by decide) ?_
    refine T_callVI (As := [.int (12 : Int32)]) (rest := []) (b := a0) (ci := 8) dL_isStep_732 mc_X9_count mi_X9_count ml_RL_9 rfl (fun _ hr => chk_of hr) rfl rfl (Nat.le_of_ble_eq_true rfl) ⟨⟨Nat.le_of_ble_eq_true rfl, Nat.le_of_ble_eq_true rfl⟩, ⟨Nat.le_of_ble_eq_true rfl, Nat.le_of_ble_eq_true rfl⟩⟩ K_X9_count h (fun i180 s181 h => ?_)
    refine T_if_eq 749 dL_isStep_735 (by decide) h (fun _ h => ?_) (fun _ h => ?_)
    · refine T_iconst (1 : Int32) dL_isStep_749 (by decide) ?_
      refine T_goto 754 dL_isStep_750 (by decide) ?_
      exact T_zreturn dL_isStep_754 (Nat.le_of_ble_eq_true rfl) (Nat.le_of_ble_eq_true rfl) h
    · refine T_aload_n dL_isStep_738 rfl 4 rfl ?_
      refine T_callVI (As := []) (rest := []) (b := a0) (ci := 8) dL_isStep_739 mc_X9_undo mi_X9_undo ml_RL_49 rfl (fun _ hr => chk_of hr) rfl rfl (Nat.le_of_ble_eq_true rfl) ⟨⟨Nat.le_of_ble_eq_true rfl, Nat.le_of_ble_eq_true rfl⟩, ⟨Nat.le_of_ble_eq_true rfl, Nat.le_of_ble_eq_true rfl⟩⟩ K_X9_undo h (fun i182 s183 h => ?_)
      refine T_aload_n dL_isStep_742 rfl 5 rfl ?_
      refine T_callVI (As := []) (rest := [.int i182]) (b := a1) (ci := 8) dL_isStep_743 mc_X9_undo mi_X9_undo ml_RL_49 rfl (fun _ hr => chk_of hr) rfl rfl (Nat.le_of_ble_eq_true rfl) ⟨⟨Nat.le_of_ble_eq_true rfl, Nat.le_of_ble_eq_true rfl⟩, ⟨Nat.le_of_ble_eq_true rfl, Nat.le_of_ble_eq_true rfl⟩⟩ K_X9_undo h (fun i184 s185 h => ?_)
      refine T_icmp_ne 753 dL_isStep_746 (by decide) h (fun _ h => ?_) (fun _ h => ?_)
      · refine T_iconst (0 : Int32) dL_isStep_753 (by decide) ?_
        exact T_zreturn dL_isStep_754 (Nat.le_of_ble_eq_true rfl) (Nat.le_of_ble_eq_true rfl) h
      · refine T_iconst (1 : Int32) dL_isStep_749 (by decide) ?_
        refine T_goto 754 dL_isStep_750 (by decide) ?_
        exact T_zreturn dL_isStep_754 (Nat.le_of_ble_eq_true rfl) (Nat.le_of_ble_eq_true rfl) h
  refine T_tableOut 755 dL_isStep_36 (by have e0 := lv_neT (a := 0) c0 rfl; have e1 := lv_neT (a := 1) c1 rfl; have e2 := lv_neT (a := 2) c2 rfl; have e3 := lv_neT (a := 3) c3 rfl; have e4 := lv_neT (a := 4) c4 rfl; have e5 := lv_neT (a := 5) c5 rfl; have e6 := lv_neT (a := 6) c6 rfl; have e7 := lv_neT (a := 7) c7 rfl; have e8 := lv_neT (a := 8) c8 rfl; have e9 := lv_neT (a := 9) c9 rfl; have e10 := lv_neT (a := 10) c10 rfl; have e11 := lv_neT (a := 11) c11 rfl; have e12 := lv_neT (a := 12) c12 rfl; omega) (by decide) ?_
  refine T_aload_n dL_isStep_755 rfl 4 rfl ?_
  refine T_aload_n dL_isStep_756 rfl 5 rfl ?_
  refine T_iload_n dL_isStep_757 rfl 7 rfl ?_
  refine T_bipush (20 : Int32) dL_isStep_758 (by decide) ?_
  refine T_callSI (As := [.int i3, .int (20 : Int32)]) (rest := [.ref a1, .ref a0]) dL_isStep_760 mc_L_up mi_L_up ml_RL_15 rfl rfl (Nat.le_of_ble_eq_true rfl) ⟨⟨Nat.le_of_ble_eq_true rfl, Nat.le_of_ble_eq_true rfl⟩, ⟨Nat.le_of_ble_eq_true rfl, Nat.le_of_ble_eq_true rfl⟩⟩ K_L_up h (fun i186 s187 h => ?_)
  refine T_iload_n dL_isStep_763 rfl 7 rfl ?_
  refine T_bipush (6 : Int32) dL_isStep_764 (by decide) ?_
  refine T_ishr dL_isStep_766 ?_
  refine T_iconst (4 : Int32) dL_isStep_767 (by decide) ?_
  refine T_callSI (As := [.int (i3 >>> ((6 : Int32) &&& 31)), .int (4 : Int32)]) (rest := [.int i186, .ref a1, .ref a0]) dL_isStep_768 mc_L_up mi_L_up ml_RL_15 rfl rfl (Nat.le_of_ble_eq_true rfl) ⟨⟨Nat.le_of_ble_eq_true rfl, Nat.le_of_ble_eq_true rfl⟩, ⟨Nat.le_of_ble_eq_true rfl, Nat.le_of_ble_eq_true rfl⟩⟩ K_L_up h (fun i188 s189 h => ?_)
  refine T_callSI (As := [.ref a0, .ref a1, .int i186, .int i188]) (rest := []) dL_isStep_771 mc_L_isFound mi_L_isFound ml_RL_53 rfl rfl (Nat.le_of_ble_eq_true rfl) ⟨⟨Nat.le_of_ble_eq_true rfl, Nat.le_of_ble_eq_true rfl⟩, ⟨Nat.le_of_ble_eq_true rfl, Nat.le_of_ble_eq_true rfl⟩⟩ K_L_isFound h (fun i190 s191 h => ?_)
  exact T_zreturn dL_isStep_774 (Nat.le_of_ble_eq_true rfl) (Nat.le_of_ble_eq_true rfl) h
