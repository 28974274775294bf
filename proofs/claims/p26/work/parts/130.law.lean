/-! THE CLAIM OUT OF ONE WALK OF THE LAW'S BODY. Your part is whole_start (and what it stands on); all else here is the same for every law, but numbers. -/
def R_law : String := "SunMirrorsLaw"
def lw_P (b : Addr) (xs : List Int32) (args : Array Value) (s : State) : Prop := args = #[.ref b] ∧ s.IntsAt b xs ∧ xs.length ≤ 260 ∧ (Jvm.Cond.and given_1 narrow_1).before args s = true
def lw_Q (_ : Array Value) (s : State) (o : Outcome) (t : State) : Prop := o = .returned (some (.int 1)) ∧ Framed s o t [] 600000 7302250
def lw_Z (below : List Frame) (a : Array Value) (s : State) : State → Prop := fun t => ∃ o, t.status = .running ∧ Ended t below o ∧ lw_Q a s o t
/-- the law's own end, with 1 on the stack, nothing written that was there before, its room as the claim has it -/
theorem lw_ret {p : Program} {l : Launch} {e : Env} {s : State} {m : MethodId} {below : List Frame} {meth : Method} {c : Code} {b : Nat} (hx : p.tables.exec = Jvm.exec) (hb : c.code = code) (hr : meth.sig.returnType = ret) (hlocks : meth.locks = false) {pc : Nat} {H : Heap} {ls : Array Slot} (hdg : decode code pc = .ok (.ireturn, 1)) : W p l e room_1 s m #[Value.ref b] below meth c H [] 600000 7302250 (lw_Z below #[Value.ref b] s) (F0 m pc ls [.int 1]) := by
  intro T hT X
  obtain ⟨fs, hret, hrun, hended, hW, hframe⟩ := X.leave (v := some (.int 1)) (hlocks := hlocks) (fun h => by rw [hr] at h; cases h)
  have hmeth' : T.vm.method? m = some meth := X.method'
  refine ⟨T.setFrames fs, ?_, .returned (some (.int 1)), hrun, hended, rfl, ⟨_, rfl⟩, hW, hframe⟩
  jvm_step X.here [X.here.top, hx, hb, hdg, hmeth', hr, ret, narrow_b1]
  (try refine ⟨rfl, ?_⟩); (try refine ⟨rfl, ?_⟩)
  first | (intro acts; rw [hret _ acts rfl rfl rfl]) | rw [hret _ _ rfl rfl rfl]
  exact Steps.refl _
/-- what holds at the law's entry: the machine, the code, the tables' words (any of lw_tbl by 'hts w (by decide +kernel)'), the script of L ints xs at the cell b, what the Statement gives of the start (any of its parts by flat_of_before) -/
def lw_At (p : Program) (s : State) (m : MethodId) (meth : Method) (c : Code) (b L : Nat) (xs : Nat → Int32) : Prop :=
  p.tables.exec = Jvm.exec ∧ c.code = code ∧ meth.sig.returnType = ret ∧ c.maxLocals = 5 ∧ s.vm.findClass R_law = some m.cls ∧ (∀ w ∈ lw_tbl, w.before #[Value.ref b] s = true) ∧ va_X b L xs s s.heap ∧ b < s.heap.size ∧ meth.locks = false ∧ (Jvm.Cond.and given_1 narrow_1).before #[Value.ref b] s = true

/-! the law as a decompiled function too -/
def sm_PL : Option Value → Hp → Prop := fun v _ => v = some (.int 1)
def sm_EL (b L : Nat) (xs : Nat → Int32) (o : Nat) : smE := fun s args meth => meth.sig.returnType = ret ∧ meth.locks = false ∧ args = #[Value.ref b] ∧ va_X b L xs s s.heap ∧ b < s.heap.size ∧ s.heap.size = o
section LAWROWS
variable {l : Launch} {G : smG} {own : String} {cc : ByteArray} {nL : Nat} {rm : Room} {Qs : List Frame → Array Value → State → State → Prop} {cs sl pc : Nat} {lv : List (Nat × Value)} {st : List Value} {σ : Hp} {b L : Nat} {xs : Nat → Int32}
theorem T_callC {y : MethodName} {cc' : ByteArray} {nL' d' mc' ms' n index : Nat} {rt' : Option FieldType} {As rest st0 : List Value} {α : Type} {inj : α → Option Value × Hp} {P : Option Value → Hp → Prop} {d : Option (Int32 × Hp)} {f : Int32 → Hp → Option α} (hd : decode cc pc = .ok (.invokestatic index, 3)) (hM : sm_MC y cc' nL' rt' n) (hi : Cond.static y ∈ wsL_law) (hln : Cond.methodLink own index y ∈ wsL_law) (hn : As.length = n) (hst : st0 = As.reverse ++ rest) (hW : (rest.map fun v => v.category).sum ≤ 8) (hroom : (d' + 1 ≤ rm.frames ∧ 40 * d' + 40 ≤ rm.locals) ∧ cs + mc' ≤ rm.cells ∧ sl + ms' ≤ rm.slots) (hC : ∀ P', OK jI d P' → sm_CtC l y cc' nL' rt' d' mc' ms' As σ b L xs P') (h : OK inj (bd d f) P)
    (kk : ∀ (r : Int32) (σ2 : Hp), OK inj (f r σ2) P → T l G own cc nL rm (sm_EL b L xs G.2.2.2) Qs (cs + mc') (sl + ms') (pc + 3) lv (.int r :: rest) σ2) : T l G own cc nL rm (sm_EL b L xs G.2.2.2) Qs cs sl pc lv st0 σ := by
  obtain ⟨r, hr, h⟩ := OK.bind h
  have hC := hC (fun v t => v = (some (.int r.1)) ∧ t = r.2) ⟨r, hr, rfl, rfl⟩
  intro p e s m args below meth c H locs ls C0 he hR hS hl
  obtain ⟨hx, hb, hml, hown, hts, hK⟩ := id C0
  obtain ⟨-, -, -, h4, h5, h6⟩ := id he
  have h5 : b < G.2.2.2 := by rw [← h6]; exact h5
  have hX := sm_SX (G := G) h4 h5 hS
  have hb1 := sm_callB (mc' := mc') (ms' := ms') (s := s) (args := args) hM hln hroom.1 hts
  refine sm_run (va_runS (As := As) (rest := rest) ⟨hx, hb, hml, hown, hts⟩ (hC G h5) ⟨hb1, hts _ hi⟩ ⟨sm_blindC, fun U hU hW => ⟨rfl, by rw [hU]; exact hR, hK.warm hW, by rw [hU]; exact hX.moved hW.alike⟩⟩ rfl hn hl.1 hst (lv_room (pc := pc) (ls := ls) (rest := st0) hW) hd hroom.2) C0 he hS hl ?_
  rintro _ t9 ⟨rfl, e9⟩
  rw [e9]
  exact kk r.1 r.2 h
theorem T_lawret {v : Int32} (hd : decode code pc = .ok (.ireturn, 1)) (hc : cs ≤ 600000) (hs : sl ≤ 7302250) (h : OK jI (retZ v (v, σ)) sm_PL) : T l G own code nL room_1 (sm_EL b L xs G.2.2.2) lw_Z cs sl pc lv [.int v] σ := by
  intro p e s m args below meth c H locs ls C0 he hR hS hl
  obtain ⟨hx, hb, -⟩ := id C0
  obtain ⟨h1, h2, h3, h4, h5, h6⟩ := id he
  obtain ⟨r9, hr, hp⟩ := h
  have hv : v = 1 := by
    unfold retZ at hr
    split at hr
    · cases hr
      have hp : some (Value.int v) = some (.int 1) := hp
      cases hp
      rfl
    · cases hr
  subst hv
  subst h3
  refine va_forget (fun q hq => by rw [h6]; exact hS.2 q hq) ?_
  exact W.widen hc hs (lw_ret hx hb h1 h2 hd)
end LAWROWS
def D_L_law_b76 (L : Nat) (xs : Nat → Int32) (k21 : Int32 → Int32 → Hp → Option (Int32 × Hp)) (a31 : Nat) (a32 : Nat) (i33 : Int32) (i35 : Int32) (s34 : Hp) : Option (Int32 × Hp) :=
  k21 i35 (i33 + 1) s34
def D_L_law_b75 (L : Nat) (xs : Nat → Int32) (k21 : Int32 → Int32 → Hp → Option (Int32 × Hp)) (a27 : Nat) (a28 : Nat) (i29 : Int32) (s30 : Hp) : Option (Int32 × Hp) :=
  D_L_law_b76 L xs k21 a27 a28 i29 (0 : Int32) s30
def D_L_law_b71 (L : Nat) (xs : Nat → Int32) (k21 : Int32 → Int32 → Hp → Option (Int32 × Hp)) (a43 : Nat) (a44 : Nat) (i45 : Int32) (s46 : Hp) : Option (Int32 × Hp) :=
  D_L_law_b76 L xs k21 a43 a44 i45 (1 : Int32) s46
def D_L_law_w21 (L : Nat) (xs : Nat → Int32) (a15 : Nat) (a16 : Nat) (k83 : Int32 → Hp → Option (Int32 × Hp)) : Nat → Int32 → Int32 → Hp → Option (Int32 × Hp)
  | 0, _, _, _ => none
  | n20 + 1, i17, i18, s19 =>
  if (44 : Int32) ≤ i18 then
  k83 i17 s19
  else
  if i17 = 0 then
  k83 i17 s19
  else
  bd (D_L_cell L xs i18 s19) fun i21 s22 =>
  bd (D_L_cell L xs (i18 + (1 : Int32)) s22) fun i23 s24 =>
  bd (D_L_isStep a15 a16 i21 (i23 >>> ((2 : Int32) &&& 31)) s24) fun i25 s26 =>
  if i25 = 0 then
  D_L_law_b75 L xs (D_L_law_w21 L xs a15 a16 k83 n20) a15 a16 i18 s26
  else
  (remI i18 (9 : Int32)).bind fun i42 =>
  if 0 < i42 then
  D_L_law_b71 L xs (D_L_law_w21 L xs a15 a16 k83 n20) a15 a16 i18 s26
  else
  bd (D_L_isWell a15 s26) fun i50 s51 =>
  if i50 = 0 then
  D_L_law_b75 L xs (D_L_law_w21 L xs a15 a16 k83 n20) a15 a16 i18 s51
  else
  D_L_law_b71 L xs (D_L_law_w21 L xs a15 a16 k83 n20) a15 a16 i18 s51
def D_L_law_b83 (L : Nat) (xs : Nat → Int32)  (a56 : Nat) (a57 : Nat) (i58 : Int32) (s59 : Hp) : Option (Int32 × Hp) :=
  if i58 = 0 then
  retZ (0 : Int32) ((0 : Int32), s59)
  else
  bd (D_L_isWell a56 s59) fun i60 s61 =>
  if i60 = 0 then
  retZ (0 : Int32) ((0 : Int32), s61)
  else
  bd (D_L_areAlike a56 a57 s61) fun i62 s63 =>
  if i62 = 0 then
  retZ (0 : Int32) ((0 : Int32), s63)
  else
  retZ (1 : Int32) ((1 : Int32), s63)
def D_L_law (L : Nat) (xs : Nat → Int32) (s0 : Hp) : Option (Int32 × Hp) :=
  nm (newO s0 8 [.null, .null, .null, .null, .null, .null, .null, .int 0]) fun s11 =>
  (D_X9_init s0.1 s11).bind fun s12 =>
  nm (newO s12 8 [.null, .null, .null, .null, .null, .null, .null, .int 0]) fun s13 =>
  (D_X9_init s12.1 s13).bind fun s14 =>
  D_L_law_w21 L xs s0.1 s12.1 (fun i55 s54 =>
  D_L_law_b83 L xs s0.1 s12.1 i55 s54
  ) FU (1 : Int32) (0 : Int32) s14
set_option maxRecDepth 100000 in
set_option maxHeartbeats 4000000 in
theorem K_L_law_b76 {l : Launch} {G : smG} {b L : Nat} {xs : Nat → Int32} {k21 : Int32 → Int32 → Hp → Option (Int32 × Hp)} {a31 : Nat} {a32 : Nat} {i33 : Int32} {i35 : Int32} {s34 : Hp} (hk21 : ∀ (i36 : Int32) (i37 : Int32) (s38 : Hp), OK jI (k21 i36 i37 s38) sm_PL → T l G RL cL_law 5 room_1 (sm_EL b L xs G.2.2.2) lw_Z ((((0 + 1) + 274) + 1) + 274) ((((0 + 8) + 100339) + 8) + 100339) 21 [(0, .ref b), (1, .ref a31), (2, .ref a32), (3, .int i36), (4, .int i37)] [] s38) (h : OK jI (D_L_law_b76 L xs k21 a31 a32 i33 i35 s34) sm_PL) : T l G RL cL_law 5 room_1 (sm_EL b L xs G.2.2.2) lw_Z ((((0 + 1) + 274) + 1) + 274) ((((0 + 8) + 100339) + 8) + 100339) 76 [(0, .ref b), (1, .ref a31), (2, .ref a32), (4, .int i33)] [.int i35] s34 := by
  unfold D_L_law_b76 at h
  refine T_istore_n (lv' := [(3, .int i35), (0, .ref b), (1, .ref a31), (2, .ref a32), (4, .int i33)]) dL_law_76 rfl (by decide) rfl ?_
  refine T_iinc (i33 + 1) (lv' := [(4, .int (i33 + 1)), (3, .int i35), (0, .ref b), (1, .ref a31), (2, .ref a32)]) dL_law_77 (j := 4) rfl rfl (by decide) rfl ?_
  refine T_goto 21 dL_law_80 (by decide) ?_
  refine T_lv (lv' := [(0, .ref b), (1, .ref a31), (2, .ref a32), (3, .int i35), (4, .int (i33 + 1))]) [2, 3, 4, 1, 0] rfl ?_
  exact hk21 i35 (i33 + 1) s34 h
set_option maxRecDepth 100000 in
set_option maxHeartbeats 4000000 in
theorem K_L_law_b75 {l : Launch} {G : smG} {b L : Nat} {xs : Nat → Int32} {k21 : Int32 → Int32 → Hp → Option (Int32 × Hp)} {a27 : Nat} {a28 : Nat} {i29 : Int32} {s30 : Hp} (hk21 : ∀ (i39 : Int32) (i40 : Int32) (s41 : Hp), OK jI (k21 i39 i40 s41) sm_PL → T l G RL cL_law 5 room_1 (sm_EL b L xs G.2.2.2) lw_Z ((((0 + 1) + 274) + 1) + 274) ((((0 + 8) + 100339) + 8) + 100339) 21 [(0, .ref b), (1, .ref a27), (2, .ref a28), (3, .int i39), (4, .int i40)] [] s41) (h : OK jI (D_L_law_b75 L xs k21 a27 a28 i29 s30) sm_PL) : T l G RL cL_law 5 room_1 (sm_EL b L xs G.2.2.2) lw_Z ((((0 + 1) + 274) + 1) + 274) ((((0 + 8) + 100339) + 8) + 100339) 75 [(0, .ref b), (1, .ref a27), (2, .ref a28), (4, .int i29)] [] s30 := by
  unfold D_L_law_b75 at h
  refine T_iconst (0 : Int32) dL_law_75 (by decide) ?_
  exact K_L_law_b76 hk21 h
set_option maxRecDepth 100000 in
set_option maxHeartbeats 4000000 in
theorem K_L_law_b71 {l : Launch} {G : smG} {b L : Nat} {xs : Nat → Int32} {k21 : Int32 → Int32 → Hp → Option (Int32 × Hp)} {a43 : Nat} {a44 : Nat} {i45 : Int32} {s46 : Hp} (hk21 : ∀ (i47 : Int32) (i48 : Int32) (s49 : Hp), OK jI (k21 i47 i48 s49) sm_PL → T l G RL cL_law 5 room_1 (sm_EL b L xs G.2.2.2) lw_Z ((((0 + 1) + 274) + 1) + 274) ((((0 + 8) + 100339) + 8) + 100339) 21 [(0, .ref b), (1, .ref a43), (2, .ref a44), (3, .int i47), (4, .int i48)] [] s49) (h : OK jI (D_L_law_b71 L xs k21 a43 a44 i45 s46) sm_PL) : T l G RL cL_law 5 room_1 (sm_EL b L xs G.2.2.2) lw_Z ((((0 + 1) + 274) + 1) + 274) ((((0 + 8) + 100339) + 8) + 100339) 71 [(0, .ref b), (1, .ref a43), (2, .ref a44), (4, .int i45)] [] s46 := by
  unfold D_L_law_b71 at h
  refine T_iconst (1 : Int32) dL_law_71 (by decide) ?_
  refine T_goto 76 dL_law_72 (by decide) ?_
  exact K_L_law_b76 hk21 h
set_option maxRecDepth 100000 in
set_option maxHeartbeats 4000000 in
theorem K_L_law_w21 {l : Launch} {G : smG} {b L : Nat} {xs : Nat → Int32} {a15 : Nat} {a16 : Nat} {k83 : Int32 → Hp → Option (Int32 × Hp)} (hk83 : ∀ (i52 : Int32) (s53 : Hp), OK jI (k83 i52 s53) sm_PL → T l G RL cL_law 5 room_1 (sm_EL b L xs G.2.2.2) lw_Z ((((0 + 1) + 274) + 1) + 274) ((((0 + 8) + 100339) + 8) + 100339) 83 [(1, .ref a15), (2, .ref a16), (3, .int i52)] [] s53) : ∀ (n : Nat) (i17 : Int32) (i18 : Int32) (s19 : Hp), OK jI (D_L_law_w21 L xs a15 a16 k83 n i17 i18 s19) sm_PL → T l G RL cL_law 5 room_1 (sm_EL b L xs G.2.2.2) lw_Z ((((0 + 1) + 274) + 1) + 274) ((((0 + 8) + 100339) + 8) + 100339) 21 [(0, .ref b), (1, .ref a15), (2, .ref a16), (3, .int i17), (4, .int i18)] [] s19 := by
  intro n
  induction n with
  | zero => intro i17 i18 s19 h; obtain ⟨_, h0, _⟩ := h; exact absurd h0 (by simp [D_L_law_w21])
  | succ n20 ih =>
    intro i17 i18 s19 h
    unfold D_L_law_w21 at h
    refine T_iload dL_law_21 4 rfl ?_
    refine T_bipush (44 : Int32) dL_law_23 (by decide) ?_
    refine T_icmp_ge 83 dL_law_25 (by decide) h (fun _ h => ?_) (fun _ h => ?_)
    · refine T_lv (lv' := [(1, .ref a15), (2, .ref a16), (3, .int i17)]) [1, 2, 3] rfl ?_
      exact hk83 i17 s19 h
    · refine T_iload_n dL_law_28 rfl 3 rfl ?_
      refine T_if_eq 83 dL_law_29 (by decide) h (fun _ h => ?_) (fun _ h => ?_)
      · refine T_lv (lv' := [(1, .ref a15), (2, .ref a16), (3, .int i17)]) [1, 2, 3] rfl ?_
        exact hk83 i17 s19 h
      · refine T_aload_n dL_law_32 rfl 1 rfl ?_
        refine T_aload_n dL_law_33 rfl 2 rfl ?_
        refine T_aload_n dL_law_34 rfl 0 rfl ?_
        refine T_iload dL_law_35 4 rfl ?_
        refine T_callC (As := [.ref b, .int i18]) (rest := [.ref a16, .ref a15]) dL_law_37 mc_L_cell mi_L_cell ml_RL_76 rfl rfl (Nat.le_of_ble_eq_true rfl) ⟨⟨Nat.le_of_ble_eq_true rfl, Nat.le_of_ble_eq_true rfl⟩, ⟨Nat.le_of_ble_eq_true rfl, Nat.le_of_ble_eq_true rfl⟩⟩ K_L_cell h (fun i21 s22 h => ?_)
        refine T_aload_n dL_law_40 rfl 0 rfl ?_
        refine T_iload dL_law_41 4 rfl ?_
        refine T_iconst (1 : Int32) dL_law_43 (by decide) ?_
        refine T_iadd dL_law_44 ?_
        refine T_callC (As := [.ref b, .int (i18 + (1 : Int32))]) (rest := [.int i21, .ref a16, .ref a15]) dL_law_45 mc_L_cell mi_L_cell ml_RL_76 rfl rfl (Nat.le_of_ble_eq_true rfl) ⟨⟨Nat.le_of_ble_eq_true rfl, Nat.le_of_ble_eq_true rfl⟩, ⟨Nat.le_of_ble_eq_true rfl, Nat.le_of_ble_eq_true rfl⟩⟩ K_L_cell h (fun i23 s24 h => ?_)
        refine T_iconst (2 : Int32) dL_law_48 (by decide) ?_
        refine T_ishr dL_law_49 ?_
        refine T_callSI (As := [.ref a15, .ref a16, .int i21, .int (i23 >>> ((2 : Int32) &&& 31))]) (rest := []) dL_law_50 mc_L_isStep mi_L_isStep ml_RL_80 rfl rfl (Nat.le_of_ble_eq_true rfl) ⟨⟨Nat.le_of_ble_eq_true rfl, Nat.le_of_ble_eq_true rfl⟩, ⟨Nat.le_of_ble_eq_true rfl, Nat.le_of_ble_eq_true rfl⟩⟩ K_L_isStep h (fun i25 s26 h => ?_)
        refine T_if_eq 75 dL_law_53 (by decide) h (fun _ h => ?_) (fun _ h => ?_)
        · refine T_lv (lv' := [(0, .ref b), (1, .ref a15), (2, .ref a16), (4, .int i18)]) [0, 1, 2, 4] rfl ?_
          exact K_L_law_b75 ih h
        · refine T_iload dL_law_56 4 rfl ?_
          refine T_bipush (9 : Int32) dL_law_58 (by decide) ?_
          refine T_irem dL_law_60 h (fun i42 h => ?_)
          refine T_if_gt 71 dL_law_61 (by decide) h (fun _ h => ?_) (fun _ h => ?_)
          · refine T_lv (lv' := [(0, .ref b), (1, .ref a15), (2, .ref a16), (4, .int i18)]) [0, 1, 2, 4] rfl ?_
            exact K_L_law_b71 ih h
          · refine T_aload_n dL_law_64 rfl 1 rfl ?_
            refine T_callSI (As := [.ref a15]) (rest := []) dL_law_65 mc_L_isWell mi_L_isWell ml_RL_83 rfl rfl (Nat.le_of_ble_eq_true rfl) ⟨⟨Nat.le_of_ble_eq_true rfl, Nat.le_of_ble_eq_true rfl⟩, ⟨Nat.le_of_ble_eq_true rfl, Nat.le_of_ble_eq_true rfl⟩⟩ K_L_isWell h (fun i50 s51 h => ?_)
            refine T_if_eq 75 dL_law_68 (by decide) h (fun _ h => ?_) (fun _ h => ?_)
            · refine T_lv (lv' := [(0, .ref b), (1, .ref a15), (2, .ref a16), (4, .int i18)]) [0, 1, 2, 4] rfl ?_
              exact K_L_law_b75 ih h
            · refine T_lv (lv' := [(0, .ref b), (1, .ref a15), (2, .ref a16), (4, .int i18)]) [0, 1, 2, 4] rfl ?_
              exact K_L_law_b71 ih h
set_option maxRecDepth 100000 in
set_option maxHeartbeats 4000000 in
theorem K_L_law_b83 {l : Launch} {G : smG} {b L : Nat} {xs : Nat → Int32}  {a56 : Nat} {a57 : Nat} {i58 : Int32} {s59 : Hp}  (h : OK jI (D_L_law_b83 L xs a56 a57 i58 s59) sm_PL) : T l G RL cL_law 5 room_1 (sm_EL b L xs G.2.2.2) lw_Z ((((0 + 1) + 274) + 1) + 274) ((((0 + 8) + 100339) + 8) + 100339) 83 [(1, .ref a56), (2, .ref a57), (3, .int i58)] [] s59 := by
  unfold D_L_law_b83 at h
  refine T_iload_n dL_law_83 rfl 2 rfl ?_
  refine T_if_eq 106 dL_law_84 (by decide) h (fun _ h => ?_) (fun _ h => ?_)
  · refine T_iconst (0 : Int32) dL_law_106 (by decide) ?_
    exact T_lawret dL_law_107 (Nat.le_of_ble_eq_true rfl) (Nat.le_of_ble_eq_true rfl) h
  · refine T_aload_n dL_law_87 rfl 0 rfl ?_
    refine T_callSI (As := [.ref a56]) (rest := []) dL_law_88 mc_L_isWell mi_L_isWell ml_RL_83 rfl rfl (Nat.le_of_ble_eq_true rfl) ⟨⟨Nat.le_of_ble_eq_true rfl, Nat.le_of_ble_eq_true rfl⟩, ⟨Nat.le_of_ble_eq_true rfl, Nat.le_of_ble_eq_true rfl⟩⟩ K_L_isWell h (fun i60 s61 h => ?_)
    refine T_if_eq 106 dL_law_91 (by decide) h (fun _ h => ?_) (fun _ h => ?_)
    · refine T_iconst (0 : Int32) dL_law_106 (by decide) ?_
      exact T_lawret dL_law_107 (Nat.le_of_ble_eq_true rfl) (Nat.le_of_ble_eq_true rfl) h
    · refine T_aload_n dL_law_94 rfl 0 rfl ?_
      refine T_aload_n dL_law_95 rfl 1 rfl ?_
      refine T_callSI (As := [.ref a56, .ref a57]) (rest := []) dL_law_96 mc_L_areAlike mi_L_areAlike ml_RL_87 rfl rfl (Nat.le_of_ble_eq_true rfl) ⟨⟨Nat.le_of_ble_eq_true rfl, Nat.le_of_ble_eq_true rfl⟩, ⟨Nat.le_of_ble_eq_true rfl, Nat.le_of_ble_eq_true rfl⟩⟩ K_L_areAlike h (fun i62 s63 h => ?_)
      refine T_if_eq 106 dL_law_99 (by decide) h (fun _ h => ?_) (fun _ h => ?_)
      · refine T_iconst (0 : Int32) dL_law_106 (by decide) ?_
        exact T_lawret dL_law_107 (Nat.le_of_ble_eq_true rfl) (Nat.le_of_ble_eq_true rfl) h
      · refine T_iconst (1 : Int32) dL_law_102 (by decide) ?_
        refine T_goto 107 dL_law_103 (by decide) ?_
        exact T_lawret dL_law_107 (Nat.le_of_ble_eq_true rfl) (Nat.le_of_ble_eq_true rfl) h
set_option maxRecDepth 100000 in
set_option maxHeartbeats 4000000 in
theorem K_L_law {l : Launch} {G : smG} {b L : Nat} {xs : Nat → Int32} {s0 : Hp} (h : OK jI (D_L_law L xs s0) sm_PL) : T l G RL cL_law 5 room_1 (sm_EL b L xs G.2.2.2) lw_Z 0 0 0 [(0, .ref b)] [] s0 := by
  unfold D_L_law at h
  refine T_newO (C := RX9) (ci := 8) (fs := [.null, .null, .null, .null, .null, .null, .null, .int 0]) dL_law_0 wd_1_0 wd_1_1 wd_1_2 ⟨TX9, tyX9, rfl, inlX9, tyX9_ok, by decide +kernel⟩ (Nat.le_of_ble_eq_true rfl) (Nat.le_of_ble_eq_true rfl) ?_
  refine T_nh h (fun s11 h => ?_)
  refine T_dup dL_law_3 rfl ?_
  refine T_callIV (As := []) (rest := [.ref s0.1]) (b := s0.1) dL_law_4 mc_X9_init mi_X9_init ml_RL_75 rfl rfl (Nat.le_of_ble_eq_true rfl) ⟨⟨Nat.le_of_ble_eq_true rfl, Nat.le_of_ble_eq_true rfl⟩, ⟨Nat.le_of_ble_eq_true rfl, Nat.le_of_ble_eq_true rfl⟩⟩ K_X9_init h (fun s12 h => ?_)
  refine T_astore_n (lv' := [(1, .ref s0.1), (0, .ref b)]) dL_law_7 rfl (by decide) rfl ?_
  refine T_newO (C := RX9) (ci := 8) (fs := [.null, .null, .null, .null, .null, .null, .null, .int 0]) dL_law_8 wd_1_0 wd_1_1 wd_1_2 ⟨TX9, tyX9, rfl, inlX9, tyX9_ok, by decide +kernel⟩ (Nat.le_of_ble_eq_true rfl) (Nat.le_of_ble_eq_true rfl) ?_
  refine T_nh h (fun s13 h => ?_)
  refine T_dup dL_law_11 rfl ?_
  refine T_callIV (As := []) (rest := [.ref s12.1]) (b := s12.1) dL_law_12 mc_X9_init mi_X9_init ml_RL_75 rfl rfl (Nat.le_of_ble_eq_true rfl) ⟨⟨Nat.le_of_ble_eq_true rfl, Nat.le_of_ble_eq_true rfl⟩, ⟨Nat.le_of_ble_eq_true rfl, Nat.le_of_ble_eq_true rfl⟩⟩ K_X9_init h (fun s14 h => ?_)
  refine T_astore_n (lv' := [(2, .ref s12.1), (1, .ref s0.1), (0, .ref b)]) dL_law_15 rfl (by decide) rfl ?_
  refine T_iconst (1 : Int32) dL_law_16 (by decide) ?_
  refine T_istore_n (lv' := [(3, .int (1 : Int32)), (2, .ref s12.1), (1, .ref s0.1), (0, .ref b)]) dL_law_17 rfl (by decide) rfl ?_
  refine T_iconst (0 : Int32) dL_law_18 (by decide) ?_
  refine T_istore (lv' := [(4, .int (0 : Int32)), (3, .int (1 : Int32)), (2, .ref s12.1), (1, .ref s0.1), (0, .ref b)]) dL_law_19 (by decide) rfl ?_
  refine T_lv (lv' := [(0, .ref b), (1, .ref s0.1), (2, .ref s12.1), (3, .int (1 : Int32)), (4, .int (0 : Int32))]) [4, 3, 2, 1, 0] rfl ?_
  refine K_L_law_w21 ?_ FU (1 : Int32) (0 : Int32) s14 h
  intro i55 s54 h
  exact K_L_law_b83 h
