/-! THE CLAIM OUT OF ONE WALK OF THE LAW'S BODY. Your part is whole_start (and what it stands on); all else here is the same for every law, but numbers. -/
def R_law : String := "SunMirrorsLaw"
def lw_P (b : Addr) (xs : List Int32) (args : Array Value) (s : State) : Prop := args = #[.ref b] ∧ s.IntsAt b xs ∧ xs.length ≤ 2048 ∧ (Jvm.Cond.and given_1 narrow_1).before args s = true
def lw_Q (_ : Array Value) (s : State) (o : Outcome) (t : State) : Prop := o = .returned (some (.int 1)) ∧ Framed s o t [] 600000 7302250
def lw_Z (below : List Frame) (a : Array Value) (s : State) : State → Prop := fun t => ∃ o, t.status = .running ∧ Ended t below o ∧ lw_Q a s o t
/-- the law's own end, with 1 on the stack, nothing written that was there before, its room as the claim has it -/
theorem lw_ret {p : Program} {l : Launch} {e : Env} {s : State} {m : MethodId} {below : List Frame} {meth : Method} {c : Code} {b : Nat} (hx : p.tables.exec = Jvm.exec) (hb : c.code = code) (hr : meth.sig.returnType = ret) (hlocks : meth.locks = false) {pc : Nat} {H : Heap} {ls : Array Slot} (hdg : decode code pc = .ok (.ireturn, 1)) : W p l e room_1 s m #[Value.ref b] below meth c H [] 600000 7302250 (lw_Z below #[Value.ref b] s) (F0 m pc ls [.int 1]) := by
  intro T hT X
  obtain ⟨fs, hret, hrun, hended, hW, hframe⟩ := X.leave (v := some (.int 1)) (hlocks := hlocks) (fun h => by rw [hr] at h; cases h)
  have hmeth' : T.vm.method? m = some meth := X.method'
  refine ⟨T.setFrames fs, ?_, .returned (some (.int 1)), hrun, hended, rfl, ⟨_, rfl⟩, hW, hframe⟩
  jvm_step X.here [X.here.top, hx, hb, hdg, hmeth', hr, ret, narrow_b1]
  (try refine ⟨rfl, ?_⟩); (try refine ⟨rfl, ?_⟩)
  first | (intro acts; rw [hret _ acts rfl rfl rfl]) | rw [hret _ _ rfl rfl rfl]
  exact Steps.refl _
/-- what holds at the law's entry: the machine, the code, the tables' words (any of lw_tbl by 'hts w (by decide +kernel)'), the script of L ints xs at the cell b, what the Statement gives of the start (any of its parts by flat_of_before) -/
def lw_At (p : Program) (s : State) (m : MethodId) (meth : Method) (c : Code) (b L : Nat) (xs : Nat → Int32) : Prop :=
  p.tables.exec = Jvm.exec ∧ c.code = code ∧ meth.sig.returnType = ret ∧ c.maxLocals = 4 ∧ s.vm.findClass R_law = some m.cls ∧ (∀ w ∈ lw_tbl, w.before #[Value.ref b] s = true) ∧ va_X b L xs s s.heap ∧ b < s.heap.size ∧ meth.locks = false ∧ (Jvm.Cond.and given_1 narrow_1).before #[Value.ref b] s = true

/-! the law as a decompiled function too -/
def sm_PL : Option Value → Hp → Prop := fun v _ => v = some (.int 1)
def sm_EL (b L : Nat) (xs : Nat → Int32) (o : Nat) : smE := fun s args meth => meth.sig.returnType = ret ∧ meth.locks = false ∧ args = #[Value.ref b] ∧ va_X b L xs s s.heap ∧ b < s.heap.size ∧ s.heap.size = o
def ldS (L : Nat) (xs : Nat → Int32) (i : Int32) : Option Int32 := if 0 ≤ i.toInt ∧ i.toInt < L then some (xs i.toNatClampNeg) else none
section LAWROWS
variable {l : Launch} {G : smG} {own : String} {cc : ByteArray} {nL : Nat} {rm : Room} {Qs : List Frame → Array Value → State → State → Prop} {cs sl pc : Nat} {lv : List (Nat × Value)} {st : List Value} {σ : Hp} {b L : Nat} {xs : Nat → Int32}
theorem sm_SX {s : State} {H : Heap} {locs : List Loc} {X : State} (hX : va_X b L xs s s.heap) (hb : b < s.heap.size) (ho : s.heap.size = G.2.2.2) (hS : sm_S G s.heap H locs) : va_X b L xs s H := hX.kept (hS.1 b (by omega))
theorem T_sld {α : Type} {inj : α → Option Value × Hp} {P : Option Value → Hp → Prop} {i : Int32} {f : Int32 → Option α} (hd : decode cc pc = .ok (.iaload, 1)) (h : OK inj ((ldS L xs i).bind f) P)
    (kk : ∀ x : Int32, OK inj (f x) P → T l G own cc nL rm (sm_EL b L xs G.2.2.2) Qs cs sl (pc + 1) lv (.int x :: st) σ) : T l G own cc nL rm (sm_EL b L xs G.2.2.2) Qs cs sl pc lv (.int i :: .ref b :: st) σ := by
  obtain ⟨x, hx1, h⟩ := h.bind
  unfold ldS at hx1
  split at hx1
  · rename_i hin
    cases hx1
    intro p e s m args below meth c H locs ls C0 he hR hS hl
    obtain ⟨hx, hb, hml, hown, hts, hK⟩ := id C0
    obtain ⟨h1, h2, h3, h4, h5, h6⟩ := id he
    obtain ⟨scr, g1, g2, g3, g4, g5⟩ := sm_SX (X := s) h4 h5 h6 hS
    have hv := sm_in hin
    have hlt : i.toNatClampNeg < L := Nat.not_le.mp fun q => hv (Or.inr q)
    exact W.iald (v := .int (xs i.toNatClampNeg)) hx hb g1 g2 g3 (by rw [g4]; exact hv) (g5 _ hlt) rfl rfl hd (kk _ h p e s m args below meth c H locs ls C0 he hR hS hl)
  · cases hx1
theorem T_slen (hd : decode cc pc = .ok (.arraylength, 1))
    (kk : T l G own cc nL rm (sm_EL b L xs G.2.2.2) Qs cs sl (pc + 1) lv (.int (Int32.ofNat L) :: st) σ) : T l G own cc nL rm (sm_EL b L xs G.2.2.2) Qs cs sl pc lv (.ref b :: st) σ := by
  intro p e s m args below meth c H locs ls C0 he hR hS hl
  obtain ⟨hx, hb, hml, hown, hts, hK⟩ := id C0
  obtain ⟨h1, h2, h3, h4, h5, h6⟩ := id he
  obtain ⟨scr, g1, g2, g3, g4, g5⟩ := sm_SX (X := s) h4 h5 h6 hS
  exact W.alen (n := Int32.ofNat L) hx hb g1 g2 (by rw [g4] <;> rfl) rfl rfl hd (kk p e s m args below meth c H locs ls C0 he hR hS hl)
theorem T_lawret {v : Int32} (hd : decode code pc = .ok (.ireturn, 1)) (hc : cs ≤ 600000) (hs : sl ≤ 7302250) (h : OK jI (retZ v (v, σ)) sm_PL) : T l G own code nL room_1 (sm_EL b L xs G.2.2.2) lw_Z cs sl pc lv [.int v] σ := by
  intro p e s m args below meth c H locs ls C0 he hR hS hl
  obtain ⟨hx, hb, -⟩ := id C0
  obtain ⟨h1, h2, h3, h4, h5, h6⟩ := id he
  obtain ⟨r9, hr, hp⟩ := h
  have hv : v = 1 := by
    unfold retZ at hr
    split at hr
    · cases hr
      have hp : some (Value.int v) = some (.int 1) := hp
      cases hp
      rfl
    · cases hr
  subst hv
  subst h3
  refine va_forget (fun q hq => by rw [h6]; exact hS.2 q hq) ?_
  exact W.widen hc hs (lw_ret hx hb h1 h2 hd)
end LAWROWS
def D_L_law_w18 (L : Nat) (xs : Nat → Int32) (a15 : Nat) (a16 : Nat) (k765 : Hp → Option (Int32 × Hp)) : Nat → Int32 → Hp → Option (Int32 × Hp)
  | 0, _, _ => none
  | n19 + 1, i17, s18 =>
  if ((Int32.ofNat L) - (4 : Int32)) < i17 then
  k765 s18
  else
  (ldS L xs i17).bind fun i20 =>
  nm (i20 &&& (31 : Int32)) fun i21 =>
  if i21 = (0 : Int32) then
  (ldS L xs (i17 + (1 : Int32))).bind fun i22 =>
  (ldS L xs (i17 + (2 : Int32))).bind fun i23 =>
  bd (D_X9_set a15 i22 i23 s18) fun i24 s25 =>
  (ldS L xs (i17 + (1 : Int32))).bind fun i26 =>
  (ldS L xs (i17 + (2 : Int32))).bind fun i27 =>
  bd (D_X10_set a16 i26 i27 s25) fun i28 s29 =>
  if i24 = i28 then
  D_L_law_w18 L xs a15 a16 k765 n19 (i17 + 4) s29
  else
  retZ (0 : Int32) ((0 : Int32), s29)
  else
  if i21 = (1 : Int32) then
  (ldS L xs (i17 + (1 : Int32))).bind fun i30 =>
  (ldS L xs (i17 + (2 : Int32))).bind fun i31 =>
  (ldS L xs (i17 + (3 : Int32))).bind fun i32 =>
  bd (D_X9_mirror a15 i30 i31 i32 s18) fun i33 s34 =>
  (ldS L xs (i17 + (1 : Int32))).bind fun i35 =>
  (ldS L xs (i17 + (2 : Int32))).bind fun i36 =>
  (ldS L xs (i17 + (3 : Int32))).bind fun i37 =>
  bd (D_X10_mirror a16 i35 i36 i37 s34) fun i38 s39 =>
  if i33 = i38 then
  D_L_law_w18 L xs a15 a16 k765 n19 (i17 + 4) s39
  else
  retZ (0 : Int32) ((0 : Int32), s39)
  else
  if i21 = (2 : Int32) then
  (ldS L xs (i17 + (1 : Int32))).bind fun i40 =>
  bd (D_X9_take a15 i40 s18) fun i41 s42 =>
  (ldS L xs (i17 + (1 : Int32))).bind fun i43 =>
  bd (D_X10_take a16 i43 s42) fun i44 s45 =>
  if i41 = i44 then
  D_L_law_w18 L xs a15 a16 k765 n19 (i17 + 4) s45
  else
  retZ (0 : Int32) ((0 : Int32), s45)
  else
  if i21 = (3 : Int32) then
  (ldS L xs (i17 + (1 : Int32))).bind fun i46 =>
  (ldS L xs (i17 + (2 : Int32))).bind fun i47 =>
  bd (D_X9_aim a15 i46 i47 s18) fun i48 s49 =>
  (ldS L xs (i17 + (1 : Int32))).bind fun i50 =>
  (ldS L xs (i17 + (2 : Int32))).bind fun i51 =>
  bd (D_X10_aim a16 i50 i51 s49) fun i52 s53 =>
  if i48 = i52 then
  D_L_law_w18 L xs a15 a16 k765 n19 (i17 + 4) s53
  else
  retZ (0 : Int32) ((0 : Int32), s53)
  else
  if i21 = (4 : Int32) then
  (ldS L xs (i17 + (1 : Int32))).bind fun i54 =>
  bd (D_X9_wash a15 i54 s18) fun i55 s56 =>
  (ldS L xs (i17 + (1 : Int32))).bind fun i57 =>
  bd (D_X10_wash a16 i57 s56) fun i58 s59 =>
  if i55 = i58 then
  D_L_law_w18 L xs a15 a16 k765 n19 (i17 + 4) s59
  else
  retZ (0 : Int32) ((0 : Int32), s59)
  else
  if i21 = (5 : Int32) then
  (ldS L xs (i17 + (1 : Int32))).bind fun i60 =>
  bd (D_X9_wind a15 i60 s18) fun i61 s62 =>
  (ldS L xs (i17 + (1 : Int32))).bind fun i63 =>
  bd (D_X10_wind a16 i63 s62) fun i64 s65 =>
  if i61 = i64 then
  D_L_law_w18 L xs a15 a16 k765 n19 (i17 + 4) s65
  else
  retZ (0 : Int32) ((0 : Int32), s65)
  else
  if i21 = (6 : Int32) then
  (ldS L xs (i17 + (1 : Int32))).bind fun i66 =>
  bd (D_X9_pass a15 i66 s18) fun i67 s68 =>
  (ldS L xs (i17 + (1 : Int32))).bind fun i69 =>
  bd (D_X10_pass a16 i69 s68) fun i70 s71 =>
  if i67 = i70 then
  D_L_law_w18 L xs a15 a16 k765 n19 (i17 + 4) s71
  else
  retZ (0 : Int32) ((0 : Int32), s71)
  else
  if i21 = (7 : Int32) then
  (ldS L xs (i17 + (1 : Int32))).bind fun i72 =>
  (ldS L xs (i17 + (2 : Int32))).bind fun i73 =>
  bd (D_X9_of a15 i72 i73 s18) fun i74 s75 =>
  (ldS L xs (i17 + (1 : Int32))).bind fun i76 =>
  (ldS L xs (i17 + (2 : Int32))).bind fun i77 =>
  bd (D_X10_of a16 i76 i77 s75) fun i78 s79 =>
  if i74 = i78 then
  D_L_law_w18 L xs a15 a16 k765 n19 (i17 + 4) s79
  else
  retZ (0 : Int32) ((0 : Int32), s79)
  else
  if i21 = (8 : Int32) then
  (ldS L xs (i17 + (1 : Int32))).bind fun i80 =>
  (ldS L xs (i17 + (2 : Int32))).bind fun i81 =>
  (ldS L xs (i17 + (3 : Int32))).bind fun i82 =>
  bd (D_X9_at a15 i80 i81 i82 s18) fun i83 s84 =>
  (ldS L xs (i17 + (1 : Int32))).bind fun i85 =>
  (ldS L xs (i17 + (2 : Int32))).bind fun i86 =>
  (ldS L xs (i17 + (3 : Int32))).bind fun i87 =>
  bd (D_X10_at a16 i85 i86 i87 s84) fun i88 s89 =>
  if i83 = i88 then
  D_L_law_w18 L xs a15 a16 k765 n19 (i17 + 4) s89
  else
  retZ (0 : Int32) ((0 : Int32), s89)
  else
  if i21 = (9 : Int32) then
  (ldS L xs (i17 + (1 : Int32))).bind fun i90 =>
  (ldS L xs (i17 + (2 : Int32))).bind fun i91 =>
  (ldS L xs (i17 + (3 : Int32))).bind fun i92 =>
  bd (D_X9_point a15 i90 i91 i92 s18) fun i93 s94 =>
  (ldS L xs (i17 + (1 : Int32))).bind fun i95 =>
  (ldS L xs (i17 + (2 : Int32))).bind fun i96 =>
  (ldS L xs (i17 + (3 : Int32))).bind fun i97 =>
  bd (D_X10_point a16 i95 i96 i97 s94) fun i98 s99 =>
  if i93 = i98 then
  D_L_law_w18 L xs a15 a16 k765 n19 (i17 + 4) s99
  else
  retZ (0 : Int32) ((0 : Int32), s99)
  else
  if i21 = (10 : Int32) then
  (ldS L xs (i17 + (1 : Int32))).bind fun i100 =>
  bd (D_X9_count a15 i100 s18) fun i101 s102 =>
  (ldS L xs (i17 + (1 : Int32))).bind fun i103 =>
  bd (D_X10_count a16 i103 s102) fun i104 s105 =>
  if i101 = i104 then
  D_L_law_w18 L xs a15 a16 k765 n19 (i17 + 4) s105
  else
  retZ (0 : Int32) ((0 : Int32), s105)
  else
  if i21 = (11 : Int32) then
  (ldS L xs (i17 + (1 : Int32))).bind fun i106 =>
  (ldS L xs (i17 + (2 : Int32))).bind fun i107 =>
  bd (D_X9_in a15 i106 i107 s18) fun i108 s109 =>
  (ldS L xs (i17 + (1 : Int32))).bind fun i110 =>
  (ldS L xs (i17 + (2 : Int32))).bind fun i111 =>
  bd (D_X10_in a16 i110 i111 s109) fun i112 s113 =>
  if i108 = i112 then
  D_L_law_w18 L xs a15 a16 k765 n19 (i17 + 4) s113
  else
  retZ (0 : Int32) ((0 : Int32), s113)
  else
  if i21 = (12 : Int32) then
  (ldS L xs (i17 + (1 : Int32))).bind fun i114 =>
  bd (D_X9_worthLeast a15 i114 s18) fun i115 s116 =>
  (ldS L xs (i17 + (1 : Int32))).bind fun i117 =>
  bd (D_X10_worthLeast a16 i117 s116) fun i118 s119 =>
  if i115 = i118 then
  D_L_law_w18 L xs a15 a16 k765 n19 (i17 + 4) s119
  else
  retZ (0 : Int32) ((0 : Int32), s119)
  else
  if i21 = (13 : Int32) then
  (ldS L xs (i17 + (1 : Int32))).bind fun i120 =>
  (ldS L xs (i17 + (2 : Int32))).bind fun i121 =>
  (ldS L xs (i17 + (3 : Int32))).bind fun i122 =>
  bd (D_X9_bestColumn a15 i120 i121 i122 s18) fun i123 s124 =>
  (ldS L xs (i17 + (1 : Int32))).bind fun i125 =>
  (ldS L xs (i17 + (2 : Int32))).bind fun i126 =>
  (ldS L xs (i17 + (3 : Int32))).bind fun i127 =>
  bd (D_X10_bestColumn a16 i125 i126 i127 s124) fun i128 s129 =>
  if i123 = i128 then
  D_L_law_w18 L xs a15 a16 k765 n19 (i17 + 4) s129
  else
  retZ (0 : Int32) ((0 : Int32), s129)
  else
  if i21 = (14 : Int32) then
  bd (D_X9_toWash a15 s18) fun i130 s131 =>
  bd (D_X10_toWash a16 s131) fun i132 s133 =>
  if i130 = i132 then
  D_L_law_w18 L xs a15 a16 k765 n19 (i17 + 4) s133
  else
  retZ (0 : Int32) ((0 : Int32), s133)
  else
  if i21 = (15 : Int32) then
  bd (D_X9_leastLimit a15 s18) fun i134 s135 =>
  bd (D_X10_leastLimit a16 s135) fun i136 s137 =>
  if i134 = i136 then
  D_L_law_w18 L xs a15 a16 k765 n19 (i17 + 4) s137
  else
  retZ (0 : Int32) ((0 : Int32), s137)
  else
  if i21 = (16 : Int32) then
  (ldS L xs (i17 + (1 : Int32))).bind fun i138 =>
  (ldS L xs (i17 + (2 : Int32))).bind fun i139 =>
  bd (D_X9_put a15 (((i138).toInt64 <<< (((32 : Int32)).toInt64 &&& 63)) ||| ((i139).toInt64 &&& (4294967295 : Int64))) s18) fun i140 s141 =>
  (ldS L xs (i17 + (1 : Int32))).bind fun i142 =>
  (ldS L xs (i17 + (2 : Int32))).bind fun i143 =>
  bd (D_X10_put a16 (((i142).toInt64 <<< (((32 : Int32)).toInt64 &&& 63)) ||| ((i143).toInt64 &&& (4294967295 : Int64))) s141) fun i144 s145 =>
  if i140 = i144 then
  D_L_law_w18 L xs a15 a16 k765 n19 (i17 + 4) s145
  else
  retZ (0 : Int32) ((0 : Int32), s145)
  else
  if i21 = (17 : Int32) then
  bd (D_X9_wipe a15 s18) fun i146 s147 =>
  bd (D_X10_wipe a16 s147) fun i148 s149 =>
  if i146 = i148 then
  D_L_law_w18 L xs a15 a16 k765 n19 (i17 + 4) s149
  else
  retZ (0 : Int32) ((0 : Int32), s149)
  else
  if i21 = (18 : Int32) then
  bd (D_X9_fault a15 s18) fun i150 s151 =>
  bd (D_X10_fault a16 s151) fun i152 s153 =>
  if i150 = i152 then
  D_L_law_w18 L xs a15 a16 k765 n19 (i17 + 4) s153
  else
  retZ (0 : Int32) ((0 : Int32), s153)
  else
  if i21 = (19 : Int32) then
  bd (D_X9_carryOut a15 s18) fun i154 s155 =>
  bd (D_X10_carryOut a16 s155) fun i156 s157 =>
  if i154 = i156 then
  D_L_law_w18 L xs a15 a16 k765 n19 (i17 + 4) s157
  else
  retZ (0 : Int32) ((0 : Int32), s157)
  else
  if i21 = (20 : Int32) then
  bd (D_X9_undo a15 s18) fun i158 s159 =>
  bd (D_X10_undo a16 s159) fun i160 s161 =>
  if i158 = i160 then
  D_L_law_w18 L xs a15 a16 k765 n19 (i17 + 4) s161
  else
  retZ (0 : Int32) ((0 : Int32), s161)
  else
  if i21 = (21 : Int32) then
  (ldS L xs (i17 + (1 : Int32))).bind fun i162 =>
  bd (D_X9_save a15 i162 s18) fun i163 s164 =>
  (ldS L xs (i17 + (1 : Int32))).bind fun i165 =>
  bd (D_X10_save a16 i165 s164) fun i166 s167 =>
  if i163 = i166 then
  D_L_law_w18 L xs a15 a16 k765 n19 (i17 + 4) s167
  else
  retZ (0 : Int32) ((0 : Int32), s167)
  else
  if i21 = (22 : Int32) then
  (ldS L xs (i17 + (1 : Int32))).bind fun i168 =>
  bd (D_X9_restore a15 i168 s18) fun i169 s170 =>
  (ldS L xs (i17 + (1 : Int32))).bind fun i171 =>
  bd (D_X10_restore a16 i171 s170) fun i172 s173 =>
  if i169 = i172 then
  D_L_law_w18 L xs a15 a16 k765 n19 (i17 + 4) s173
  else
  retZ (0 : Int32) ((0 : Int32), s173)
  else
  D_L_law_w18 L xs a15 a16 k765 n19 (i17 + 4) s18
def D_L_law (L : Nat) (xs : Nat → Int32) (s0 : Hp) : Option (Int32 × Hp) :=
  nm (newO s0 8 [.null, .null, .null, .null, .null, .null, .null, .int 0]) fun s11 =>
  (D_X9_init s0.1 s11).bind fun s12 =>
  nm (newO s12 9 [.null, .null, .null, .null, .int 0, .null, .null, .null, .null, .null, .null, .null, .int 0, .int 0, .int 0, .int 0, .int 0]) fun s13 =>
  (D_X10_init s12.1 s13).bind fun s14 =>
  D_L_law_w18 L xs s0.1 s12.1 (fun s175 =>
  retZ (1 : Int32) ((1 : Int32), s175)
  ) FU (0 : Int32) s14
set_option maxRecDepth 100000 in
set_option maxHeartbeats 4000000 in
theorem K_L_law_w18 {l : Launch} {G : smG} {b L : Nat} {xs : Nat → Int32} {a15 : Nat} {a16 : Nat} {k765 : Hp → Option (Int32 × Hp)} (hk765 : ∀  (s174 : Hp), OK jI (k765 s174) sm_PL → T l G RL cL_law 4 room_1 (sm_EL b L xs G.2.2.2) lw_Z ((((0 + 1) + 274) + 1) + 11) ((((0 + 8) + 100339) + 17) + 8800) 765 [] [] s174) : ∀ (n : Nat) (i17 : Int32) (s18 : Hp), OK jI (D_L_law_w18 L xs a15 a16 k765 n i17 s18) sm_PL → T l G RL cL_law 4 room_1 (sm_EL b L xs G.2.2.2) lw_Z ((((0 + 1) + 274) + 1) + 11) ((((0 + 8) + 100339) + 17) + 8800) 18 [(0, .ref b), (1, .ref a15), (2, .ref a16), (3, .int i17)] [] s18 := by
  intro n
  induction n with
  | zero => intro i17 s18 h; obtain ⟨_, h0, _⟩ := h; exact absurd h0 (by simp [D_L_law_w18])
  | succ n19 ih =>
    intro i17 s18 h
    unfold D_L_law_w18 at h
    refine T_iload_n dL_law_18 rfl 3 rfl ?_
    refine T_aload_n dL_law_19 rfl 0 rfl ?_
    refine T_slen dL_law_20 ?_
    refine T_iconst (4 : Int32) dL_law_21 (by decide) ?_
    refine T_isub dL_law_22 ?_
    refine T_icmp_gt 765 dL_law_23 (by decide) h (fun _ h => ?_) (fun _ h => ?_)
    · refine T_lv (lv' := []) [] rfl ?_
      exact hk765 s18 h
    · refine T_aload_n dL_law_26 rfl 0 rfl ?_
      refine T_iload_n dL_law_27 rfl 3 rfl ?_
      refine T_sld dL_law_28 h (fun i20 h => ?_)
      refine T_bipush (31 : Int32) dL_law_29 (by decide) ?_
      refine T_iand dL_law_31 ?_
      refine T_nm h (fun i21 h => ?_)
      refine T_ite h (fun c0 h => ?_) (fun c0 h => ?_)
      · refine T_tableIn 140 dL_law_32 (by rw [c0]; decide) (by rw [c0]; decide) (by rw [c0]; rfl) (by decide) ?_
        refine T_aload_n dL_law_140 rfl 1 rfl ?_
        refine T_aload_n dL_law_141 rfl 0 rfl ?_
        refine T_iload_n dL_law_142 rfl 3 rfl ?_
        refine T_iconst (1 : Int32) dL_law_143 (by decide) ?_
        refine T_iadd dL_law_144 ?_
        refine T_sld dL_law_145 h (fun i22 h => ?_)
        refine T_aload_n dL_law_146 rfl 0 rfl ?_
        refine T_iload_n dL_law_147 rfl 3 rfl ?_
        refine T_iconst (2 : Int32) dL_law_148 (by decide) ?_
        refine T_iadd dL_law_149 ?_
        refine T_sld dL_law_150 h (fun i23 h => ?_)
        refine T_callVI (As := [.int i22, .int i23]) (rest := []) (b := a15) (ci := 8) dL_law_151 mc_X9_set mi_X9_set ml_RL_13 rfl (fun _ hr => chk_of hr) rfl rfl (Nat.le_of_ble_eq_true rfl) ⟨⟨Nat.le_of_ble_eq_true rfl, Nat.le_of_ble_eq_true rfl⟩, ⟨Nat.le_of_ble_eq_true rfl, Nat.le_of_ble_eq_true rfl⟩⟩ K_X9_set h (fun i24 s25 h => ?_)
        refine T_aload_n dL_law_154 rfl 2 rfl ?_
        refine T_aload_n dL_law_155 rfl 0 rfl ?_
        refine T_iload_n dL_law_156 rfl 3 rfl ?_
        refine T_iconst (1 : Int32) dL_law_157 (by decide) ?_
        refine T_iadd dL_law_158 ?_
        refine T_sld dL_law_159 h (fun i26 h => ?_)
        refine T_aload_n dL_law_160 rfl 0 rfl ?_
        refine T_iload_n dL_law_161 rfl 3 rfl ?_
        refine T_iconst (2 : Int32) dL_law_162 (by decide) ?_
        refine T_iadd dL_law_163 ?_
        refine T_sld dL_law_164 h (fun i27 h => ?_)
        refine T_callVI (As := [.int i26, .int i27]) (rest := [.int i24]) (b := a16) (ci := 9) dL_law_165 mc_X10_set mi_X10_set ml_RL_17 rfl (fun _ hr => chk_of hr) rfl rfl (Nat.le_of_ble_eq_true rfl) ⟨⟨Nat.le_of_ble_eq_true rfl, Nat.le_of_ble_eq_true rfl⟩, ⟨Nat.le_of_ble_eq_true rfl, Nat.le_of_ble_eq_true rfl⟩⟩ K_X10_set h (fun i28 s29 h => ?_)
        refine T_icmp_eq 759 dL_law_168 (by decide) h (fun _ h => ?_) (fun _ h => ?_)
        · refine T_iinc (i17 + 4) (lv' := [(3, .int (i17 + 4)), (0, .ref b), (1, .ref a15), (2, .ref a16)]) dL_law_759 (j := 3) rfl rfl (by decide) rfl ?_
          refine T_goto 18 dL_law_762 (by decide) ?_
          refine T_lv (lv' := [(0, .ref b), (1, .ref a15), (2, .ref a16), (3, .int (i17 + 4))]) [1, 2, 3, 0] rfl ?_
          exact ih (i17 + 4) s29 h
        · refine T_iconst (0 : Int32) dL_law_171 (by decide) ?_
          exact T_lawret dL_law_172 (Nat.le_of_ble_eq_true rfl) (Nat.le_of_ble_eq_true rfl) h
      refine T_ite h (fun c1 h => ?_) (fun c1 h => ?_)
      · refine T_tableIn 173 dL_law_32 (by rw [c1]; decide) (by rw [c1]; decide) (by rw [c1]; rfl) (by decide) ?_
        refine T_aload_n dL_law_173 rfl 1 rfl ?_
        refine T_aload_n dL_law_174 rfl 0 rfl ?_
        refine T_iload_n dL_law_175 rfl 3 rfl ?_
        refine T_iconst (1 : Int32) dL_law_176 (by decide) ?_
        refine T_iadd dL_law_177 ?_
        refine T_sld dL_law_178 h (fun i30 h => ?_)
        refine T_aload_n dL_law_179 rfl 0 rfl ?_
        refine T_iload_n dL_law_180 rfl 3 rfl ?_
        refine T_iconst (2 : Int32) dL_law_181 (by decide) ?_
        refine T_iadd dL_law_182 ?_
        refine T_sld dL_law_183 h (fun i31 h => ?_)
        refine T_aload_n dL_law_184 rfl 0 rfl ?_
        refine T_iload_n dL_law_185 rfl 3 rfl ?_
        refine T_iconst (3 : Int32) dL_law_186 (by decide) ?_
        refine T_iadd dL_law_187 ?_
        refine T_sld dL_law_188 h (fun i32 h => ?_)
        refine T_callVI (As := [.int i30, .int i31, .int i32]) (rest := []) (b := a15) (ci := 8) dL_law_189 mc_X9_mirror mi_X9_mirror ml_RL_18 rfl (fun _ hr => chk_of hr) rfl rfl (Nat.le_of_ble_eq_true rfl) ⟨⟨Nat.le_of_ble_eq_true rfl, Nat.le_of_ble_eq_true rfl⟩, ⟨Nat.le_of_ble_eq_true rfl, Nat.le_of_ble_eq_true rfl⟩⟩ K_X9_mirror h (fun i33 s34 h => ?_)
        refine T_aload_n dL_law_192 rfl 2 rfl ?_
        refine T_aload_n dL_law_193 rfl 0 rfl ?_
        refine T_iload_n dL_law_194 rfl 3 rfl ?_
        refine T_iconst (1 : Int32) dL_law_195 (by decide) ?_
        refine T_iadd dL_law_196 ?_
        refine T_sld dL_law_197 h (fun i35 h => ?_)
        refine T_aload_n dL_law_198 rfl 0 rfl ?_
        refine T_iload_n dL_law_199 rfl 3 rfl ?_
        refine T_iconst (2 : Int32) dL_law_200 (by decide) ?_
        refine T_iadd dL_law_201 ?_
        refine T_sld dL_law_202 h (fun i36 h => ?_)
        refine T_aload_n dL_law_203 rfl 0 rfl ?_
        refine T_iload_n dL_law_204 rfl 3 rfl ?_
        refine T_iconst (3 : Int32) dL_law_205 (by decide) ?_
        refine T_iadd dL_law_206 ?_
        refine T_sld dL_law_207 h (fun i37 h => ?_)
        refine T_callVI (As := [.int i35, .int i36, .int i37]) (rest := [.int i33]) (b := a16) (ci := 9) dL_law_208 mc_X10_mirror mi_X10_mirror ml_RL_22 rfl (fun _ hr => chk_of hr) rfl rfl (Nat.le_of_ble_eq_true rfl) ⟨⟨Nat.le_of_ble_eq_true rfl, Nat.le_of_ble_eq_true rfl⟩, ⟨Nat.le_of_ble_eq_true rfl, Nat.le_of_ble_eq_true rfl⟩⟩ K_X10_mirror h (fun i38 s39 h => ?_)
        refine T_icmp_eq 759 dL_law_211 (by decide) h (fun _ h => ?_) (fun _ h => ?_)
        · refine T_iinc (i17 + 4) (lv' := [(3, .int (i17 + 4)), (0, .ref b), (1, .ref a15), (2, .ref a16)]) dL_law_759 (j := 3) rfl rfl (by decide) rfl ?_
          refine T_goto 18 dL_law_762 (by decide) ?_
          refine T_lv (lv' := [(0, .ref b), (1, .ref a15), (2, .ref a16), (3, .int (i17 + 4))]) [1, 2, 3, 0] rfl ?_
          exact ih (i17 + 4) s39 h
        · refine T_iconst (0 : Int32) dL_law_214 (by decide) ?_
          exact T_lawret dL_law_215 (Nat.le_of_ble_eq_true rfl) (Nat.le_of_ble_eq_true rfl) h
      refine T_ite h (fun c2 h => ?_) (fun c2 h => ?_)
      · refine T_tableIn 216 dL_law_32 (by rw [c2]; decide) (by rw [c2]; decide) (by rw [c2]; rfl) (by decide) ?_
        refine T_aload_n dL_law_216 rfl 1 rfl ?_
        refine T_aload_n dL_law_217 rfl 0 rfl ?_
        refine T_iload_n dL_law_218 rfl 3 rfl ?_
        refine T_iconst (1 : Int32) dL_law_219 (by decide) ?_
        refine T_iadd dL_law_220 ?_
        refine T_sld dL_law_221 h (fun i40 h => ?_)
        refine T_callVI (As := [.int i40]) (rest := []) (b := a15) (ci := 8) dL_law_222 mc_X9_take mi_X9_take ml_RL_23 rfl (fun _ hr => chk_of hr) rfl rfl (Nat.le_of_ble_eq_true rfl) ⟨⟨Nat.le_of_ble_eq_true rfl, Nat.le_of_ble_eq_true rfl⟩, ⟨Nat.le_of_ble_eq_true rfl, Nat.le_of_ble_eq_true rfl⟩⟩ K_X9_take h (fun i41 s42 h => ?_)
        refine T_aload_n dL_law_225 rfl 2 rfl ?_
        refine T_aload_n dL_law_226 rfl 0 rfl ?_
        refine T_iload_n dL_law_227 rfl 3 rfl ?_
        refine T_iconst (1 : Int32) dL_law_228 (by decide) ?_
        refine T_iadd dL_law_229 ?_
        refine T_sld dL_law_230 h (fun i43 h => ?_)
        refine T_callVI (As := [.int i43]) (rest := [.int i41]) (b := a16) (ci := 9) dL_law_231 mc_X10_take mi_X10_take ml_RL_27 rfl (fun _ hr => chk_of hr) rfl rfl (Nat.le_of_ble_eq_true rfl) ⟨⟨Nat.le_of_ble_eq_true rfl, Nat.le_of_ble_eq_true rfl⟩, ⟨Nat.le_of_ble_eq_true rfl, Nat.le_of_ble_eq_true rfl⟩⟩ K_X10_take h (fun i44 s45 h => ?_)
        refine T_icmp_eq 759 dL_law_234 (by decide) h (fun _ h => ?_) (fun _ h => ?_)
        · refine T_iinc (i17 + 4) (lv' := [(3, .int (i17 + 4)), (0, .ref b), (1, .ref a15), (2, .ref a16)]) dL_law_759 (j := 3) rfl rfl (by decide) rfl ?_
          refine T_goto 18 dL_law_762 (by decide) ?_
          refine T_lv (lv' := [(0, .ref b), (1, .ref a15), (2, .ref a16), (3, .int (i17 + 4))]) [1, 2, 3, 0] rfl ?_
          exact ih (i17 + 4) s45 h
        · refine T_iconst (0 : Int32) dL_law_237 (by decide) ?_
          exact T_lawret dL_law_238 (Nat.le_of_ble_eq_true rfl) (Nat.le_of_ble_eq_true rfl) h
      refine T_ite h (fun c3 h => ?_) (fun c3 h => ?_)
      · refine T_tableIn 239 dL_law_32 (by rw [c3]; decide) (by rw [c3]; decide) (by rw [c3]; rfl) (by decide) ?_
        refine T_aload_n dL_law_239 rfl 1 rfl ?_
        refine T_aload_n dL_law_240 rfl 0 rfl ?_
        refine T_iload_n dL_law_241 rfl 3 rfl ?_
        refine T_iconst (1 : Int32) dL_law_242 (by decide) ?_
        refine T_iadd dL_law_243 ?_
        refine T_sld dL_law_244 h (fun i46 h => ?_)
        refine T_aload_n dL_law_245 rfl 0 rfl ?_
        refine T_iload_n dL_law_246 rfl 3 rfl ?_
        refine T_iconst (2 : Int32) dL_law_247 (by decide) ?_
        refine T_iadd dL_law_248 ?_
        refine T_sld dL_law_249 h (fun i47 h => ?_)
        refine T_callVI (As := [.int i46, .int i47]) (rest := []) (b := a15) (ci := 8) dL_law_250 mc_X9_aim mi_X9_aim ml_RL_28 rfl (fun _ hr => chk_of hr) rfl rfl (Nat.le_of_ble_eq_true rfl) ⟨⟨Nat.le_of_ble_eq_true rfl, Nat.le_of_ble_eq_true rfl⟩, ⟨Nat.le_of_ble_eq_true rfl, Nat.le_of_ble_eq_true rfl⟩⟩ K_X9_aim h (fun i48 s49 h => ?_)
        refine T_aload_n dL_law_253 rfl 2 rfl ?_
        refine T_aload_n dL_law_254 rfl 0 rfl ?_
        refine T_iload_n dL_law_255 rfl 3 rfl ?_
        refine T_iconst (1 : Int32) dL_law_256 (by decide) ?_
        refine T_iadd dL_law_257 ?_
        refine T_sld dL_law_258 h (fun i50 h => ?_)
        refine T_aload_n dL_law_259 rfl 0 rfl ?_
        refine T_iload_n dL_law_260 rfl 3 rfl ?_
        refine T_iconst (2 : Int32) dL_law_261 (by decide) ?_
        refine T_iadd dL_law_262 ?_
        refine T_sld dL_law_263 h (fun i51 h => ?_)
        refine T_callVI (As := [.int i50, .int i51]) (rest := [.int i48]) (b := a16) (ci := 9) dL_law_264 mc_X10_aim mi_X10_aim ml_RL_31 rfl (fun _ hr => chk_of hr) rfl rfl (Nat.le_of_ble_eq_true rfl) ⟨⟨Nat.le_of_ble_eq_true rfl, Nat.le_of_ble_eq_true rfl⟩, ⟨Nat.le_of_ble_eq_true rfl, Nat.le_of_ble_eq_true rfl⟩⟩ K_X10_aim h (fun i52 s53 h => ?_)
        refine T_icmp_eq 759 dL_law_267 (by decide) h (fun _ h => ?_) (fun _ h => ?_)
        · refine T_iinc (i17 + 4) (lv' := [(3, .int (i17 + 4)), (0, .ref b), (1, .ref a15), (2, .ref a16)]) dL_law_759 (j := 3) rfl rfl (by decide) rfl ?_
          refine T_goto 18 dL_law_762 (by decide) ?_
          refine T_lv (lv' := [(0, .ref b), (1, .ref a15), (2, .ref a16), (3, .int (i17 + 4))]) [1, 2, 3, 0] rfl ?_
          exact ih (i17 + 4) s53 h
        · refine T_iconst (0 : Int32) dL_law_270 (by decide) ?_
          exact T_lawret dL_law_271 (Nat.le_of_ble_eq_true rfl) (Nat.le_of_ble_eq_true rfl) h
      refine T_ite h (fun c4 h => ?_) (fun c4 h => ?_)
      · refine T_tableIn 272 dL_law_32 (by rw [c4]; decide) (by rw [c4]; decide) (by rw [c4]; rfl) (by decide) ?_
        refine T_aload_n dL_law_272 rfl 1 rfl ?_
        refine T_aload_n dL_law_273 rfl 0 rfl ?_
        refine T_iload_n dL_law_274 rfl 3 rfl ?_
        refine T_iconst (1 : Int32) dL_law_275 (by decide) ?_
        refine T_iadd dL_law_276 ?_
        refine T_sld dL_law_277 h (fun i54 h => ?_)
        refine T_callVI (As := [.int i54]) (rest := []) (b := a15) (ci := 8) dL_law_278 mc_X9_wash mi_X9_wash ml_RL_32 rfl (fun _ hr => chk_of hr) rfl rfl (Nat.le_of_ble_eq_true rfl) ⟨⟨Nat.le_of_ble_eq_true rfl, Nat.le_of_ble_eq_true rfl⟩, ⟨Nat.le_of_ble_eq_true rfl, Nat.le_of_ble_eq_true rfl⟩⟩ K_X9_wash h (fun i55 s56 h => ?_)
        refine T_aload_n dL_law_281 rfl 2 rfl ?_
        refine T_aload_n dL_law_282 rfl 0 rfl ?_
        refine T_iload_n dL_law_283 rfl 3 rfl ?_
        refine T_iconst (1 : Int32) dL_law_284 (by decide) ?_
        refine T_iadd dL_law_285 ?_
        refine T_sld dL_law_286 h (fun i57 h => ?_)
        refine T_callVI (As := [.int i57]) (rest := [.int i55]) (b := a16) (ci := 9) dL_law_287 mc_X10_wash mi_X10_wash ml_RL_35 rfl (fun _ hr => chk_of hr) rfl rfl (Nat.le_of_ble_eq_true rfl) ⟨⟨Nat.le_of_ble_eq_true rfl, Nat.le_of_ble_eq_true rfl⟩, ⟨Nat.le_of_ble_eq_true rfl, Nat.le_of_ble_eq_true rfl⟩⟩ K_X10_wash h (fun i58 s59 h => ?_)
        refine T_icmp_eq 759 dL_law_290 (by decide) h (fun _ h => ?_) (fun _ h => ?_)
        · refine T_iinc (i17 + 4) (lv' := [(3, .int (i17 + 4)), (0, .ref b), (1, .ref a15), (2, .ref a16)]) dL_law_759 (j := 3) rfl rfl (by decide) rfl ?_
          refine T_goto 18 dL_law_762 (by decide) ?_
          refine T_lv (lv' := [(0, .ref b), (1, .ref a15), (2, .ref a16), (3, .int (i17 + 4))]) [1, 2, 3, 0] rfl ?_
          exact ih (i17 + 4) s59 h
        · refine T_iconst (0 : Int32) dL_law_293 (by decide) ?_
          exact T_lawret dL_law_294 (Nat.le_of_ble_eq_true rfl) (Nat.le_of_ble_eq_true rfl) h
      refine T_ite h (fun c5 h => ?_) (fun c5 h => ?_)
      · refine T_tableIn 295 dL_law_32 (by rw [c5]; decide) (by rw [c5]; decide) (by rw [c5]; rfl) (by decide) ?_
        refine T_aload_n dL_law_295 rfl 1 rfl ?_
        refine T_aload_n dL_law_296 rfl 0 rfl ?_
        refine T_iload_n dL_law_297 rfl 3 rfl ?_
        refine T_iconst (1 : Int32) dL_law_298 (by decide) ?_
        refine T_iadd dL_law_299 ?_
        refine T_sld dL_law_300 h (fun i60 h => ?_)
        refine T_callVI (As := [.int i60]) (rest := []) (b := a15) (ci := 8) dL_law_301 mc_X9_wind mi_X9_wind ml_RL_36 rfl (fun _ hr => chk_of hr) rfl rfl (Nat.le_of_ble_eq_true rfl) ⟨⟨Nat.le_of_ble_eq_true rfl, Nat.le_of_ble_eq_true rfl⟩, ⟨Nat.le_of_ble_eq_true rfl, Nat.le_of_ble_eq_true rfl⟩⟩ K_X9_wind h (fun i61 s62 h => ?_)
        refine T_aload_n dL_law_304 rfl 2 rfl ?_
        refine T_aload_n dL_law_305 rfl 0 rfl ?_
        refine T_iload_n dL_law_306 rfl 3 rfl ?_
        refine T_iconst (1 : Int32) dL_law_307 (by decide) ?_
        refine T_iadd dL_law_308 ?_
        refine T_sld dL_law_309 h (fun i63 h => ?_)
        refine T_callVI (As := [.int i63]) (rest := [.int i61]) (b := a16) (ci := 9) dL_law_310 mc_X10_wind mi_X10_wind ml_RL_39 rfl (fun _ hr => chk_of hr) rfl rfl (Nat.le_of_ble_eq_true rfl) ⟨⟨Nat.le_of_ble_eq_true rfl, Nat.le_of_ble_eq_true rfl⟩, ⟨Nat.le_of_ble_eq_true rfl, Nat.le_of_ble_eq_true rfl⟩⟩ K_X10_wind h (fun i64 s65 h => ?_)
        refine T_icmp_eq 759 dL_law_313 (by decide) h (fun _ h => ?_) (fun _ h => ?_)
        · refine T_iinc (i17 + 4) (lv' := [(3, .int (i17 + 4)), (0, .ref b), (1, .ref a15), (2, .ref a16)]) dL_law_759 (j := 3) rfl rfl (by decide) rfl ?_
          refine T_goto 18 dL_law_762 (by decide) ?_
          refine T_lv (lv' := [(0, .ref b), (1, .ref a15), (2, .ref a16), (3, .int (i17 + 4))]) [1, 2, 3, 0] rfl ?_
          exact ih (i17 + 4) s65 h
        · refine T_iconst (0 : Int32) dL_law_316 (by decide) ?_
          exact T_lawret dL_law_317 (Nat.le_of_ble_eq_true rfl) (Nat.le_of_ble_eq_true rfl) h
      refine T_ite h (fun c6 h => ?_) (fun c6 h => ?_)
      · refine T_tableIn 318 dL_law_32 (by rw [c6]; decide) (by rw [c6]; decide) (by rw [c6]; rfl) (by decide) ?_
        refine T_aload_n dL_law_318 rfl 1 rfl ?_
        refine T_aload_n dL_law_319 rfl 0 rfl ?_
        refine T_iload_n dL_law_320 rfl 3 rfl ?_
        refine T_iconst (1 : Int32) dL_law_321 (by decide) ?_
        refine T_iadd dL_law_322 ?_
        refine T_sld dL_law_323 h (fun i66 h => ?_)
        refine T_callVI (As := [.int i66]) (rest := []) (b := a15) (ci := 8) dL_law_324 mc_X9_pass mi_X9_pass ml_RL_40 rfl (fun _ hr => chk_of hr) rfl rfl (Nat.le_of_ble_eq_true rfl) ⟨⟨Nat.le_of_ble_eq_true rfl, Nat.le_of_ble_eq_true rfl⟩, ⟨Nat.le_of_ble_eq_true rfl, Nat.le_of_ble_eq_true rfl⟩⟩ K_X9_pass h (fun i67 s68 h => ?_)
        refine T_aload_n dL_law_327 rfl 2 rfl ?_
        refine T_aload_n dL_law_328 rfl 0 rfl ?_
        refine T_iload_n dL_law_329 rfl 3 rfl ?_
        refine T_iconst (1 : Int32) dL_law_330 (by decide) ?_
        refine T_iadd dL_law_331 ?_
        refine T_sld dL_law_332 h (fun i69 h => ?_)
        refine T_callVI (As := [.int i69]) (rest := [.int i67]) (b := a16) (ci := 9) dL_law_333 mc_X10_pass mi_X10_pass ml_RL_43 rfl (fun _ hr => chk_of hr) rfl rfl (Nat.le_of_ble_eq_true rfl) ⟨⟨Nat.le_of_ble_eq_true rfl, Nat.le_of_ble_eq_true rfl⟩, ⟨Nat.le_of_ble_eq_true rfl, Nat.le_of_ble_eq_true rfl⟩⟩ K_X10_pass h (fun i70 s71 h => ?_)
        refine T_icmp_eq 759 dL_law_336 (by decide) h (fun _ h => ?_) (fun _ h => ?_)
        · refine T_iinc (i17 + 4) (lv' := [(3, .int (i17 + 4)), (0, .ref b), (1, .ref a15), (2, .ref a16)]) dL_law_759 (j := 3) rfl rfl (by decide) rfl ?_
          refine T_goto 18 dL_law_762 (by decide) ?_
          refine T_lv (lv' := [(0, .ref b), (1, .ref a15), (2, .ref a16), (3, .int (i17 + 4))]) [1, 2, 3, 0] rfl ?_
          exact ih (i17 + 4) s71 h
        · refine T_iconst (0 : Int32) dL_law_339 (by decide) ?_
          exact T_lawret dL_law_340 (Nat.le_of_ble_eq_true rfl) (Nat.le_of_ble_eq_true rfl) h
      refine T_ite h (fun c7 h => ?_) (fun c7 h => ?_)
      · refine T_tableIn 341 dL_law_32 (by rw [c7]; decide) (by rw [c7]; decide) (by rw [c7]; rfl) (by decide) ?_
        refine T_aload_n dL_law_341 rfl 1 rfl ?_
        refine T_aload_n dL_law_342 rfl 0 rfl ?_
        refine T_iload_n dL_law_343 rfl 3 rfl ?_
        refine T_iconst (1 : Int32) dL_law_344 (by decide) ?_
        refine T_iadd dL_law_345 ?_
        refine T_sld dL_law_346 h (fun i72 h => ?_)
        refine T_aload_n dL_law_347 rfl 0 rfl ?_
        refine T_iload_n dL_law_348 rfl 3 rfl ?_
        refine T_iconst (2 : Int32) dL_law_349 (by decide) ?_
        refine T_iadd dL_law_350 ?_
        refine T_sld dL_law_351 h (fun i73 h => ?_)
        refine T_callVI (As := [.int i72, .int i73]) (rest := []) (b := a15) (ci := 8) dL_law_352 mc_X9_of mi_X9_of ml_RL_44 rfl (fun _ hr => chk_of hr) rfl rfl (Nat.le_of_ble_eq_true rfl) ⟨⟨Nat.le_of_ble_eq_true rfl, Nat.le_of_ble_eq_true rfl⟩, ⟨Nat.le_of_ble_eq_true rfl, Nat.le_of_ble_eq_true rfl⟩⟩ K_X9_of h (fun i74 s75 h => ?_)
        refine T_aload_n dL_law_355 rfl 2 rfl ?_
        refine T_aload_n dL_law_356 rfl 0 rfl ?_
        refine T_iload_n dL_law_357 rfl 3 rfl ?_
        refine T_iconst (1 : Int32) dL_law_358 (by decide) ?_
        refine T_iadd dL_law_359 ?_
        refine T_sld dL_law_360 h (fun i76 h => ?_)
        refine T_aload_n dL_law_361 rfl 0 rfl ?_
        refine T_iload_n dL_law_362 rfl 3 rfl ?_
        refine T_iconst (2 : Int32) dL_law_363 (by decide) ?_
        refine T_iadd dL_law_364 ?_
        refine T_sld dL_law_365 h (fun i77 h => ?_)
        refine T_callVI (As := [.int i76, .int i77]) (rest := [.int i74]) (b := a16) (ci := 9) dL_law_366 mc_X10_of mi_X10_of ml_RL_47 rfl (fun _ hr => chk_of hr) rfl rfl (Nat.le_of_ble_eq_true rfl) ⟨⟨Nat.le_of_ble_eq_true rfl, Nat.le_of_ble_eq_true rfl⟩, ⟨Nat.le_of_ble_eq_true rfl, Nat.le_of_ble_eq_true rfl⟩⟩ K_X10_of h (fun i78 s79 h => ?_)
        refine T_icmp_eq 759 dL_law_369 (by decide) h (fun _ h => ?_) (fun _ h => ?_)
        · refine T_iinc (i17 + 4) (lv' := [(3, .int (i17 + 4)), (0, .ref b), (1, .ref a15), (2, .ref a16)]) dL_law_759 (j := 3) rfl rfl (by decide) rfl ?_
          refine T_goto 18 dL_law_762 (by decide) ?_
          refine T_lv (lv' := [(0, .ref b), (1, .ref a15), (2, .ref a16), (3, .int (i17 + 4))]) [1, 2, 3, 0] rfl ?_
          exact ih (i17 + 4) s79 h
        · refine T_iconst (0 : Int32) dL_law_372 (by decide) ?_
          exact T_lawret dL_law_373 (Nat.le_of_ble_eq_true rfl) (Nat.le_of_ble_eq_true rfl) h
      refine T_ite h (fun c8 h => ?_) (fun c8 h => ?_)
      · refine T_tableIn 374 dL_law_32 (by rw [c8]; decide) (by rw [c8]; decide) (by rw [c8]; rfl) (by decide) ?_
        refine T_aload_n dL_law_374 rfl 1 rfl ?_
        refine T_aload_n dL_law_375 rfl 0 rfl ?_
        refine T_iload_n dL_law_376 rfl 3 rfl ?_
        refine T_iconst (1 : Int32) dL_law_377 (by decide) ?_
        refine T_iadd dL_law_378 ?_
        refine T_sld dL_law_379 h (fun i80 h => ?_)
        refine T_aload_n dL_law_380 rfl 0 rfl ?_
        refine T_iload_n dL_law_381 rfl 3 rfl ?_
        refine T_iconst (2 : Int32) dL_law_382 (by decide) ?_
        refine T_iadd dL_law_383 ?_
        refine T_sld dL_law_384 h (fun i81 h => ?_)
        refine T_aload_n dL_law_385 rfl 0 rfl ?_
        refine T_iload_n dL_law_386 rfl 3 rfl ?_
        refine T_iconst (3 : Int32) dL_law_387 (by decide) ?_
        refine T_iadd dL_law_388 ?_
        refine T_sld dL_law_389 h (fun i82 h => ?_)
        refine T_callVI (As := [.int i80, .int i81, .int i82]) (rest := []) (b := a15) (ci := 8) dL_law_390 mc_X9_at mi_X9_at ml_RL_48 rfl (fun _ hr => chk_of hr) rfl rfl (Nat.le_of_ble_eq_true rfl) ⟨⟨Nat.le_of_ble_eq_true rfl, Nat.le_of_ble_eq_true rfl⟩, ⟨Nat.le_of_ble_eq_true rfl, Nat.le_of_ble_eq_true rfl⟩⟩ K_X9_at h (fun i83 s84 h => ?_)
        refine T_aload_n dL_law_393 rfl 2 rfl ?_
        refine T_aload_n dL_law_394 rfl 0 rfl ?_
        refine T_iload_n dL_law_395 rfl 3 rfl ?_
        refine T_iconst (1 : Int32) dL_law_396 (by decide) ?_
        refine T_iadd dL_law_397 ?_
        refine T_sld dL_law_398 h (fun i85 h => ?_)
        refine T_aload_n dL_law_399 rfl 0 rfl ?_
        refine T_iload_n dL_law_400 rfl 3 rfl ?_
        refine T_iconst (2 : Int32) dL_law_401 (by decide) ?_
        refine T_iadd dL_law_402 ?_
        refine T_sld dL_law_403 h (fun i86 h => ?_)
        refine T_aload_n dL_law_404 rfl 0 rfl ?_
        refine T_iload_n dL_law_405 rfl 3 rfl ?_
        refine T_iconst (3 : Int32) dL_law_406 (by decide) ?_
        refine T_iadd dL_law_407 ?_
        refine T_sld dL_law_408 h (fun i87 h => ?_)
        refine T_callVI (As := [.int i85, .int i86, .int i87]) (rest := [.int i83]) (b := a16) (ci := 9) dL_law_409 mc_X10_at mi_X10_at ml_RL_51 rfl (fun _ hr => chk_of hr) rfl rfl (Nat.le_of_ble_eq_true rfl) ⟨⟨Nat.le_of_ble_eq_true rfl, Nat.le_of_ble_eq_true rfl⟩, ⟨Nat.le_of_ble_eq_true rfl, Nat.le_of_ble_eq_true rfl⟩⟩ K_X10_at h (fun i88 s89 h => ?_)
        refine T_icmp_eq 759 dL_law_412 (by decide) h (fun _ h => ?_) (fun _ h => ?_)
        · refine T_iinc (i17 + 4) (lv' := [(3, .int (i17 + 4)), (0, .ref b), (1, .ref a15), (2, .ref a16)]) dL_law_759 (j := 3) rfl rfl (by decide) rfl ?_
          refine T_goto 18 dL_law_762 (by decide) ?_
          refine T_lv (lv' := [(0, .ref b), (1, .ref a15), (2, .ref a16), (3, .int (i17 + 4))]) [1, 2, 3, 0] rfl ?_
          exact ih (i17 + 4) s89 h
        · refine T_iconst (0 : Int32) dL_law_415 (by decide) ?_
          exact T_lawret dL_law_416 (Nat.le_of_ble_eq_true rfl) (Nat.le_of_ble_eq_true rfl) h
      refine T_ite h (fun c9 h => ?_) (fun c9 h => ?_)
      · refine T_tableIn 417 dL_law_32 (by rw [c9]; decide) (by rw [c9]; decide) (by rw [c9]; rfl) (by decide) ?_
        refine T_aload_n dL_law_417 rfl 1 rfl ?_
        refine T_aload_n dL_law_418 rfl 0 rfl ?_
        refine T_iload_n dL_law_419 rfl 3 rfl ?_
        refine T_iconst (1 : Int32) dL_law_420 (by decide) ?_
        refine T_iadd dL_law_421 ?_
        refine T_sld dL_law_422 h (fun i90 h => ?_)
        refine T_aload_n dL_law_423 rfl 0 rfl ?_
        refine T_iload_n dL_law_424 rfl 3 rfl ?_
        refine T_iconst (2 : Int32) dL_law_425 (by decide) ?_
        refine T_iadd dL_law_426 ?_
        refine T_sld dL_law_427 h (fun i91 h => ?_)
        refine T_aload_n dL_law_428 rfl 0 rfl ?_
        refine T_iload_n dL_law_429 rfl 3 rfl ?_
        refine T_iconst (3 : Int32) dL_law_430 (by decide) ?_
        refine T_iadd dL_law_431 ?_
        refine T_sld dL_law_432 h (fun i92 h => ?_)
        refine T_callVI (As := [.int i90, .int i91, .int i92]) (rest := []) (b := a15) (ci := 8) dL_law_433 mc_X9_point mi_X9_point ml_RL_52 rfl (fun _ hr => chk_of hr) rfl rfl (Nat.le_of_ble_eq_true rfl) ⟨⟨Nat.le_of_ble_eq_true rfl, Nat.le_of_ble_eq_true rfl⟩, ⟨Nat.le_of_ble_eq_true rfl, Nat.le_of_ble_eq_true rfl⟩⟩ K_X9_point h (fun i93 s94 h => ?_)
        refine T_aload_n dL_law_436 rfl 2 rfl ?_
        refine T_aload_n dL_law_437 rfl 0 rfl ?_
        refine T_iload_n dL_law_438 rfl 3 rfl ?_
        refine T_iconst (1 : Int32) dL_law_439 (by decide) ?_
        refine T_iadd dL_law_440 ?_
        refine T_sld dL_law_441 h (fun i95 h => ?_)
        refine T_aload_n dL_law_442 rfl 0 rfl ?_
        refine T_iload_n dL_law_443 rfl 3 rfl ?_
        refine T_iconst (2 : Int32) dL_law_444 (by decide) ?_
        refine T_iadd dL_law_445 ?_
        refine T_sld dL_law_446 h (fun i96 h => ?_)
        refine T_aload_n dL_law_447 rfl 0 rfl ?_
        refine T_iload_n dL_law_448 rfl 3 rfl ?_
        refine T_iconst (3 : Int32) dL_law_449 (by decide) ?_
        refine T_iadd dL_law_450 ?_
        refine T_sld dL_law_451 h (fun i97 h => ?_)
        refine T_callVI (As := [.int i95, .int i96, .int i97]) (rest := [.int i93]) (b := a16) (ci := 9) dL_law_452 mc_X10_point mi_X10_point ml_RL_55 rfl (fun _ hr => chk_of hr) rfl rfl (Nat.le_of_ble_eq_true rfl) ⟨⟨Nat.le_of_ble_eq_true rfl, Nat.le_of_ble_eq_true rfl⟩, ⟨Nat.le_of_ble_eq_true rfl, Nat.le_of_ble_eq_true rfl⟩⟩ K_X10_point h (fun i98 s99 h => ?_)
        refine T_icmp_eq 759 dL_law_455 (by decide) h (fun _ h => ?_) (fun _ h => ?_)
        · refine T_iinc (i17 + 4) (lv' := [(3, .int (i17 + 4)), (0, .ref b), (1, .ref a15), (2, .ref a16)]) dL_law_759 (j := 3) rfl rfl (by decide) rfl ?_
          refine T_goto 18 dL_law_762 (by decide) ?_
          refine T_lv (lv' := [(0, .ref b), (1, .ref a15), (2, .ref a16), (3, .int (i17 + 4))]) [1, 2, 3, 0] rfl ?_
          exact ih (i17 + 4) s99 h
        · refine T_iconst (0 : Int32) dL_law_458 (by decide) ?_
          exact T_lawret dL_law_459 (Nat.le_of_ble_eq_true rfl) (Nat.le_of_ble_eq_true rfl) h
      refine T_ite h (fun c10 h => ?_) (fun c10 h => ?_)
      · refine T_tableIn 460 dL_law_32 (by rw [c10]; decide) (by rw [c10]; decide) (by rw [c10]; rfl) (by decide) ?_
        refine T_aload_n dL_law_460 rfl 1 rfl ?_
        refine T_aload_n dL_law_461 rfl 0 rfl ?_
        refine T_iload_n dL_law_462 rfl 3 rfl ?_
        refine T_iconst (1 : Int32) dL_law_463 (by decide) ?_
        refine T_iadd dL_law_464 ?_
        refine T_sld dL_law_465 h (fun i100 h => ?_)
        refine T_callVI (As := [.int i100]) (rest := []) (b := a15) (ci := 8) dL_law_466 mc_X9_count mi_X9_count ml_RL_56 rfl (fun _ hr => chk_of hr) rfl rfl (Nat.le_of_ble_eq_true rfl) ⟨⟨Nat.le_of_ble_eq_true rfl, Nat.le_of_ble_eq_true rfl⟩, ⟨Nat.le_of_ble_eq_true rfl, Nat.le_of_ble_eq_true rfl⟩⟩ K_X9_count h (fun i101 s102 h => ?_)
        refine T_aload_n dL_law_469 rfl 2 rfl ?_
        refine T_aload_n dL_law_470 rfl 0 rfl ?_
        refine T_iload_n dL_law_471 rfl 3 rfl ?_
        refine T_iconst (1 : Int32) dL_law_472 (by decide) ?_
        refine T_iadd dL_law_473 ?_
        refine T_sld dL_law_474 h (fun i103 h => ?_)
        refine T_callVI (As := [.int i103]) (rest := [.int i101]) (b := a16) (ci := 9) dL_law_475 mc_X10_count mi_X10_count ml_RL_59 rfl (fun _ hr => chk_of hr) rfl rfl (Nat.le_of_ble_eq_true rfl) ⟨⟨Nat.le_of_ble_eq_true rfl, Nat.le_of_ble_eq_true rfl⟩, ⟨Nat.le_of_ble_eq_true rfl, Nat.le_of_ble_eq_true rfl⟩⟩ K_X10_count h (fun i104 s105 h => ?_)
        refine T_icmp_eq 759 dL_law_478 (by decide) h (fun _ h => ?_) (fun _ h => ?_)
        · refine T_iinc (i17 + 4) (lv' := [(3, .int (i17 + 4)), (0, .ref b), (1, .ref a15), (2, .ref a16)]) dL_law_759 (j := 3) rfl rfl (by decide) rfl ?_
          refine T_goto 18 dL_law_762 (by decide) ?_
          refine T_lv (lv' := [(0, .ref b), (1, .ref a15), (2, .ref a16), (3, .int (i17 + 4))]) [1, 2, 3, 0] rfl ?_
          exact ih (i17 + 4) s105 h
        · refine T_iconst (0 : Int32) dL_law_481 (by decide) ?_
          exact T_lawret dL_law_482 (Nat.le_of_ble_eq_true rfl) (Nat.le_of_ble_eq_true rfl) h
      refine T_ite h (fun c11 h => ?_) (fun c11 h => ?_)
      · refine T_tableIn 483 dL_law_32 (by rw [c11]; decide) (by rw [c11]; decide) (by rw [c11]; rfl) (by decide) ?_
        refine T_aload_n dL_law_483 rfl 1 rfl ?_
        refine T_aload_n dL_law_484 rfl 0 rfl ?_
        refine T_iload_n dL_law_485 rfl 3 rfl ?_
        refine T_iconst (1 : Int32) dL_law_486 (by decide) ?_
        refine T_iadd dL_law_487 ?_
        refine T_sld dL_law_488 h (fun i106 h => ?_)
        refine T_aload_n dL_law_489 rfl 0 rfl ?_
        refine T_iload_n dL_law_490 rfl 3 rfl ?_
        refine T_iconst (2 : Int32) dL_law_491 (by decide) ?_
        refine T_iadd dL_law_492 ?_
        refine T_sld dL_law_493 h (fun i107 h => ?_)
        refine T_callVI (As := [.int i106, .int i107]) (rest := []) (b := a15) (ci := 8) dL_law_494 mc_X9_in mi_X9_in ml_RL_60 rfl (fun _ hr => chk_of hr) rfl rfl (Nat.le_of_ble_eq_true rfl) ⟨⟨Nat.le_of_ble_eq_true rfl, Nat.le_of_ble_eq_true rfl⟩, ⟨Nat.le_of_ble_eq_true rfl, Nat.le_of_ble_eq_true rfl⟩⟩ K_X9_in h (fun i108 s109 h => ?_)
        refine T_aload_n dL_law_497 rfl 2 rfl ?_
        refine T_aload_n dL_law_498 rfl 0 rfl ?_
        refine T_iload_n dL_law_499 rfl 3 rfl ?_
        refine T_iconst (1 : Int32) dL_law_500 (by decide) ?_
        refine T_iadd dL_law_501 ?_
        refine T_sld dL_law_502 h (fun i110 h => ?_)
        refine T_aload_n dL_law_503 rfl 0 rfl ?_
        refine T_iload_n dL_law_504 rfl 3 rfl ?_
        refine T_iconst (2 : Int32) dL_law_505 (by decide) ?_
        refine T_iadd dL_law_506 ?_
        refine T_sld dL_law_507 h (fun i111 h => ?_)
        refine T_callVI (As := [.int i110, .int i111]) (rest := [.int i108]) (b := a16) (ci := 9) dL_law_508 mc_X10_in mi_X10_in ml_RL_63 rfl (fun _ hr => chk_of hr) rfl rfl (Nat.le_of_ble_eq_true rfl) ⟨⟨Nat.le_of_ble_eq_true rfl, Nat.le_of_ble_eq_true rfl⟩, ⟨Nat.le_of_ble_eq_true rfl, Nat.le_of_ble_eq_true rfl⟩⟩ K_X10_in h (fun i112 s113 h => ?_)
        refine T_icmp_eq 759 dL_law_511 (by decide) h (fun _ h => ?_) (fun _ h => ?_)
        · refine T_iinc (i17 + 4) (lv' := [(3, .int (i17 + 4)), (0, .ref b), (1, .ref a15), (2, .ref a16)]) dL_law_759 (j := 3) rfl rfl (by decide) rfl ?_
          refine T_goto 18 dL_law_762 (by decide) ?_
          refine T_lv (lv' := [(0, .ref b), (1, .ref a15), (2, .ref a16), (3, .int (i17 + 4))]) [1, 2, 3, 0] rfl ?_
          exact ih (i17 + 4) s113 h
        · refine T_iconst (0 : Int32) dL_law_514 (by decide) ?_
          exact T_lawret dL_law_515 (Nat.le_of_ble_eq_true rfl) (Nat.le_of_ble_eq_true rfl) h
      refine T_ite h (fun c12 h => ?_) (fun c12 h => ?_)
      · refine T_tableIn 516 dL_law_32 (by rw [c12]; decide) (by rw [c12]; decide) (by rw [c12]; rfl) (by decide) ?_
        refine T_aload_n dL_law_516 rfl 1 rfl ?_
        refine T_aload_n dL_law_517 rfl 0 rfl ?_
        refine T_iload_n dL_law_518 rfl 3 rfl ?_
        refine T_iconst (1 : Int32) dL_law_519 (by decide) ?_
        refine T_iadd dL_law_520 ?_
        refine T_sld dL_law_521 h (fun i114 h => ?_)
        refine T_callVI (As := [.int i114]) (rest := []) (b := a15) (ci := 8) dL_law_522 mc_X9_worthLeast mi_X9_worthLeast ml_RL_64 rfl (fun _ hr => chk_of hr) rfl rfl (Nat.le_of_ble_eq_true rfl) ⟨⟨Nat.le_of_ble_eq_true rfl, Nat.le_of_ble_eq_true rfl⟩, ⟨Nat.le_of_ble_eq_true rfl, Nat.le_of_ble_eq_true rfl⟩⟩ K_X9_worthLeast h (fun i115 s116 h => ?_)
        refine T_aload_n dL_law_525 rfl 2 rfl ?_
        refine T_aload_n dL_law_526 rfl 0 rfl ?_
        refine T_iload_n dL_law_527 rfl 3 rfl ?_
        refine T_iconst (1 : Int32) dL_law_528 (by decide) ?_
        refine T_iadd dL_law_529 ?_
        refine T_sld dL_law_530 h (fun i117 h => ?_)
        refine T_callVI (As := [.int i117]) (rest := [.int i115]) (b := a16) (ci := 9) dL_law_531 mc_X10_worthLeast mi_X10_worthLeast ml_RL_67 rfl (fun _ hr => chk_of hr) rfl rfl (Nat.le_of_ble_eq_true rfl) ⟨⟨Nat.le_of_ble_eq_true rfl, Nat.le_of_ble_eq_true rfl⟩, ⟨Nat.le_of_ble_eq_true rfl, Nat.le_of_ble_eq_true rfl⟩⟩ K_X10_worthLeast h (fun i118 s119 h => ?_)
        refine T_icmp_eq 759 dL_law_534 (by decide) h (fun _ h => ?_) (fun _ h => ?_)
        · refine T_iinc (i17 + 4) (lv' := [(3, .int (i17 + 4)), (0, .ref b), (1, .ref a15), (2, .ref a16)]) dL_law_759 (j := 3) rfl rfl (by decide) rfl ?_
          refine T_goto 18 dL_law_762 (by decide) ?_
          refine T_lv (lv' := [(0, .ref b), (1, .ref a15), (2, .ref a16), (3, .int (i17 + 4))]) [1, 2, 3, 0] rfl ?_
          exact ih (i17 + 4) s119 h
        · refine T_iconst (0 : Int32) dL_law_537 (by decide) ?_
          exact T_lawret dL_law_538 (Nat.le_of_ble_eq_true rfl) (Nat.le_of_ble_eq_true rfl) h
      refine T_ite h (fun c13 h => ?_) (fun c13 h => ?_)
      · refine T_tableIn 539 dL_law_32 (by rw [c13]; decide) (by rw [c13]; decide) (by rw [c13]; rfl) (by decide) ?_
        refine T_aload_n dL_law_539 rfl 1 rfl ?_
        refine T_aload_n dL_law_540 rfl 0 rfl ?_
        refine T_iload_n dL_law_541 rfl 3 rfl ?_
        refine T_iconst (1 : Int32) dL_law_542 (by decide) ?_
        refine T_iadd dL_law_543 ?_
        refine T_sld dL_law_544 h (fun i120 h => ?_)
        refine T_aload_n dL_law_545 rfl 0 rfl ?_
        refine T_iload_n dL_law_546 rfl 3 rfl ?_
        refine T_iconst (2 : Int32) dL_law_547 (by decide) ?_
        refine T_iadd dL_law_548 ?_
        refine T_sld dL_law_549 h (fun i121 h => ?_)
        refine T_aload_n dL_law_550 rfl 0 rfl ?_
        refine T_iload_n dL_law_551 rfl 3 rfl ?_
        refine T_iconst (3 : Int32) dL_law_552 (by decide) ?_
        refine T_iadd dL_law_553 ?_
        refine T_sld dL_law_554 h (fun i122 h => ?_)
        refine T_callVI (As := [.int i120, .int i121, .int i122]) (rest := []) (b := a15) (ci := 8) dL_law_555 mc_X9_bestColumn mi_X9_bestColumn ml_RL_68 rfl (fun _ hr => chk_of hr) rfl rfl (Nat.le_of_ble_eq_true rfl) ⟨⟨Nat.le_of_ble_eq_true rfl, Nat.le_of_ble_eq_true rfl⟩, ⟨Nat.le_of_ble_eq_true rfl, Nat.le_of_ble_eq_true rfl⟩⟩ K_X9_bestColumn h (fun i123 s124 h => ?_)
        refine T_aload_n dL_law_558 rfl 2 rfl ?_
        refine T_aload_n dL_law_559 rfl 0 rfl ?_
        refine T_iload_n dL_law_560 rfl 3 rfl ?_
        refine T_iconst (1 : Int32) dL_law_561 (by decide) ?_
        refine T_iadd dL_law_562 ?_
        refine T_sld dL_law_563 h (fun i125 h => ?_)
        refine T_aload_n dL_law_564 rfl 0 rfl ?_
        refine T_iload_n dL_law_565 rfl 3 rfl ?_
        refine T_iconst (2 : Int32) dL_law_566 (by decide) ?_
        refine T_iadd dL_law_567 ?_
        refine T_sld dL_law_568 h (fun i126 h => ?_)
        refine T_aload_n dL_law_569 rfl 0 rfl ?_
        refine T_iload_n dL_law_570 rfl 3 rfl ?_
        refine T_iconst (3 : Int32) dL_law_571 (by decide) ?_
        refine T_iadd dL_law_572 ?_
        refine T_sld dL_law_573 h (fun i127 h => ?_)
        refine T_callVI (As := [.int i125, .int i126, .int i127]) (rest := [.int i123]) (b := a16) (ci := 9) dL_law_574 mc_X10_bestColumn mi_X10_bestColumn ml_RL_71 rfl (fun _ hr => chk_of hr) rfl rfl (Nat.le_of_ble_eq_true rfl) ⟨⟨Nat.le_of_ble_eq_true rfl, Nat.le_of_ble_eq_true rfl⟩, ⟨Nat.le_of_ble_eq_true rfl, Nat.le_of_ble_eq_true rfl⟩⟩ K_X10_bestColumn h (fun i128 s129 h => ?_)
        refine T_icmp_eq 759 dL_law_577 (by decide) h (fun _ h => ?_) (fun _ h => ?_)
        · refine T_iinc (i17 + 4) (lv' := [(3, .int (i17 + 4)), (0, .ref b), (1, .ref a15), (2, .ref a16)]) dL_law_759 (j := 3) rfl rfl (by decide) rfl ?_
          refine T_goto 18 dL_law_762 (by decide) ?_
          refine T_lv (lv' := [(0, .ref b), (1, .ref a15), (2, .ref a16), (3, .int (i17 + 4))]) [1, 2, 3, 0] rfl ?_
          exact ih (i17 + 4) s129 h
        · refine T_iconst (0 : Int32) dL_law_580 (by decide) ?_
          exact T_lawret dL_law_581 (Nat.le_of_ble_eq_true rfl) (Nat.le_of_ble_eq_true rfl) h
      refine T_ite h (fun c14 h => ?_) (fun c14 h => ?_)
      · refine T_tableIn 582 dL_law_32 (by rw [c14]; decide) (by rw [c14]; decide) (by rw [c14]; rfl) (by decide) ?_
        refine T_aload_n dL_law_582 rfl 1 rfl ?_
        refine T_callVI (As := []) (rest := []) (b := a15) (ci := 8) dL_law_583 mc_X9_toWash mi_X9_toWash ml_RL_72 rfl (fun _ hr => chk_of hr) rfl rfl (Nat.le_of_ble_eq_true rfl) ⟨⟨Nat.le_of_ble_eq_true rfl, Nat.le_of_ble_eq_true rfl⟩, ⟨Nat.le_of_ble_eq_true rfl, Nat.le_of_ble_eq_true rfl⟩⟩ K_X9_toWash h (fun i130 s131 h => ?_)
        refine T_aload_n dL_law_586 rfl 2 rfl ?_
        refine T_callVI (As := []) (rest := [.int i130]) (b := a16) (ci := 9) dL_law_587 mc_X10_toWash mi_X10_toWash ml_RL_76 rfl (fun _ hr => chk_of hr) rfl rfl (Nat.le_of_ble_eq_true rfl) ⟨⟨Nat.le_of_ble_eq_true rfl, Nat.le_of_ble_eq_true rfl⟩, ⟨Nat.le_of_ble_eq_true rfl, Nat.le_of_ble_eq_true rfl⟩⟩ K_X10_toWash h (fun i132 s133 h => ?_)
        refine T_icmp_eq 759 dL_law_590 (by decide) h (fun _ h => ?_) (fun _ h => ?_)
        · refine T_iinc (i17 + 4) (lv' := [(3, .int (i17 + 4)), (0, .ref b), (1, .ref a15), (2, .ref a16)]) dL_law_759 (j := 3) rfl rfl (by decide) rfl ?_
          refine T_goto 18 dL_law_762 (by decide) ?_
          refine T_lv (lv' := [(0, .ref b), (1, .ref a15), (2, .ref a16), (3, .int (i17 + 4))]) [1, 2, 3, 0] rfl ?_
          exact ih (i17 + 4) s133 h
        · refine T_iconst (0 : Int32) dL_law_593 (by decide) ?_
          exact T_lawret dL_law_594 (Nat.le_of_ble_eq_true rfl) (Nat.le_of_ble_eq_true rfl) h
      refine T_ite h (fun c15 h => ?_) (fun c15 h => ?_)
      · refine T_tableIn 595 dL_law_32 (by rw [c15]; decide) (by rw [c15]; decide) (by rw [c15]; rfl) (by decide) ?_
        refine T_aload_n dL_law_595 rfl 1 rfl ?_
        refine T_callVI (As := []) (rest := []) (b := a15) (ci := 8) dL_law_596 mc_X9_leastLimit mi_X9_leastLimit ml_RL_77 rfl (fun _ hr => chk_of hr) rfl rfl (Nat.le_of_ble_eq_true rfl) ⟨⟨Nat.le_of_ble_eq_true rfl, Nat.le_of_ble_eq_true rfl⟩, ⟨Nat.le_of_ble_eq_true rfl, Nat.le_of_ble_eq_true rfl⟩⟩ K_X9_leastLimit h (fun i134 s135 h => ?_)
        refine T_aload_n dL_law_599 rfl 2 rfl ?_
        refine T_callVI (As := []) (rest := [.int i134]) (b := a16) (ci := 9) dL_law_600 mc_X10_leastLimit mi_X10_leastLimit ml_RL_80 rfl (fun _ hr => chk_of hr) rfl rfl (Nat.le_of_ble_eq_true rfl) ⟨⟨Nat.le_of_ble_eq_true rfl, Nat.le_of_ble_eq_true rfl⟩, ⟨Nat.le_of_ble_eq_true rfl, Nat.le_of_ble_eq_true rfl⟩⟩ K_X10_leastLimit h (fun i136 s137 h => ?_)
        refine T_icmp_eq 759 dL_law_603 (by decide) h (fun _ h => ?_) (fun _ h => ?_)
        · refine T_iinc (i17 + 4) (lv' := [(3, .int (i17 + 4)), (0, .ref b), (1, .ref a15), (2, .ref a16)]) dL_law_759 (j := 3) rfl rfl (by decide) rfl ?_
          refine T_goto 18 dL_law_762 (by decide) ?_
          refine T_lv (lv' := [(0, .ref b), (1, .ref a15), (2, .ref a16), (3, .int (i17 + 4))]) [1, 2, 3, 0] rfl ?_
          exact ih (i17 + 4) s137 h
        · refine T_iconst (0 : Int32) dL_law_606 (by decide) ?_
          exact T_lawret dL_law_607 (Nat.le_of_ble_eq_true rfl) (Nat.le_of_ble_eq_true rfl) h
      refine T_ite h (fun c16 h => ?_) (fun c16 h => ?_)
      · refine T_tableIn 608 dL_law_32 (by rw [c16]; decide) (by rw [c16]; decide) (by rw [c16]; rfl) (by decide) ?_
        refine T_aload_n dL_law_608 rfl 1 rfl ?_
        refine T_aload_n dL_law_609 rfl 0 rfl ?_
        refine T_iload_n dL_law_610 rfl 3 rfl ?_
        refine T_iconst (1 : Int32) dL_law_611 (by decide) ?_
        refine T_iadd dL_law_612 ?_
        refine T_sld dL_law_613 h (fun i138 h => ?_)
        refine T_i2l dL_law_614 ?_
        refine T_bipush (32 : Int32) dL_law_615 (by decide) ?_
        refine T_lshl dL_law_617 ?_
        refine T_aload_n dL_law_618 rfl 0 rfl ?_
        refine T_iload_n dL_law_619 rfl 3 rfl ?_
        refine T_iconst (2 : Int32) dL_law_620 (by decide) ?_
        refine T_iadd dL_law_621 ?_
        refine T_sld dL_law_622 h (fun i139 h => ?_)
        refine T_i2l dL_law_623 ?_
        refine T_ldc2 (4294967295 : Int64) dL_law_624 wd_1_6 ?_
        refine T_land dL_law_627 ?_
        refine T_lor dL_law_628 ?_
        refine T_callVI (As := [.long (((i138).toInt64 <<< (((32 : Int32)).toInt64 &&& 63)) ||| ((i139).toInt64 &&& (4294967295 : Int64)))]) (rest := []) (b := a15) (ci := 8) dL_law_629 mc_X9_put mi_X9_put ml_RL_83 rfl (fun _ hr => chk_of hr) rfl rfl (Nat.le_of_ble_eq_true rfl) ⟨⟨Nat.le_of_ble_eq_true rfl, Nat.le_of_ble_eq_true rfl⟩, ⟨Nat.le_of_ble_eq_true rfl, Nat.le_of_ble_eq_true rfl⟩⟩ K_X9_put h (fun i140 s141 h => ?_)
        refine T_aload_n dL_law_632 rfl 2 rfl ?_
        refine T_aload_n dL_law_633 rfl 0 rfl ?_
        refine T_iload_n dL_law_634 rfl 3 rfl ?_
        refine T_iconst (1 : Int32) dL_law_635 (by decide) ?_
        refine T_iadd dL_law_636 ?_
        refine T_sld dL_law_637 h (fun i142 h => ?_)
        refine T_i2l dL_law_638 ?_
        refine T_bipush (32 : Int32) dL_law_639 (by decide) ?_
        refine T_lshl dL_law_641 ?_
        refine T_aload_n dL_law_642 rfl 0 rfl ?_
        refine T_iload_n dL_law_643 rfl 3 rfl ?_
        refine T_iconst (2 : Int32) dL_law_644 (by decide) ?_
        refine T_iadd dL_law_645 ?_
        refine T_sld dL_law_646 h (fun i143 h => ?_)
        refine T_i2l dL_law_647 ?_
        refine T_ldc2 (4294967295 : Int64) dL_law_648 wd_1_6 ?_
        refine T_land dL_law_651 ?_
        refine T_lor dL_law_652 ?_
        refine T_callVI (As := [.long (((i142).toInt64 <<< (((32 : Int32)).toInt64 &&& 63)) ||| ((i143).toInt64 &&& (4294967295 : Int64)))]) (rest := [.int i140]) (b := a16) (ci := 9) dL_law_653 mc_X10_put mi_X10_put ml_RL_87 rfl (fun _ hr => chk_of hr) rfl rfl (Nat.le_of_ble_eq_true rfl) ⟨⟨Nat.le_of_ble_eq_true rfl, Nat.le_of_ble_eq_true rfl⟩, ⟨Nat.le_of_ble_eq_true rfl, Nat.le_of_ble_eq_true rfl⟩⟩ K_X10_put h (fun i144 s145 h => ?_)
        refine T_icmp_eq 759 dL_law_656 (by decide) h (fun _ h => ?_) (fun _ h => ?_)
        · refine T_iinc (i17 + 4) (lv' := [(3, .int (i17 + 4)), (0, .ref b), (1, .ref a15), (2, .ref a16)]) dL_law_759 (j := 3) rfl rfl (by decide) rfl ?_
          refine T_goto 18 dL_law_762 (by decide) ?_
          refine T_lv (lv' := [(0, .ref b), (1, .ref a15), (2, .ref a16), (3, .int (i17 + 4))]) [1, 2, 3, 0] rfl ?_
          exact ih (i17 + 4) s145 h
        · refine T_iconst (0 : Int32) dL_law_659 (by decide) ?_
          exact T_lawret dL_law_660 (Nat.le_of_ble_eq_true rfl) (Nat.le_of_ble_eq_true rfl) h
      refine T_ite h (fun c17 h => ?_) (fun c17 h => ?_)
      · refine T_tableIn 661 dL_law_32 (by rw [c17]; decide) (by rw [c17]; decide) (by rw [c17]; rfl) (by decide) ?_
        refine T_aload_n dL_law_661 rfl 1 rfl ?_
        refine T_callVI (As := []) (rest := []) (b := a15) (ci := 8) dL_law_662 mc_X9_wipe mi_X9_wipe ml_RL_88 rfl (fun _ hr => chk_of hr) rfl rfl (Nat.le_of_ble_eq_true rfl) ⟨⟨Nat.le_of_ble_eq_true rfl, Nat.le_of_ble_eq_true rfl⟩, ⟨Nat.le_of_ble_eq_true rfl, Nat.le_of_ble_eq_true rfl⟩⟩ K_X9_wipe h (fun i146 s147 h => ?_)
        refine T_aload_n dL_law_665 rfl 2 rfl ?_
        refine T_callVI (As := []) (rest := [.int i146]) (b := a16) (ci := 9) dL_law_666 mc_X10_wipe mi_X10_wipe ml_RL_91 rfl (fun _ hr => chk_of hr) rfl rfl (Nat.le_of_ble_eq_true rfl) ⟨⟨Nat.le_of_ble_eq_true rfl, Nat.le_of_ble_eq_true rfl⟩, ⟨Nat.le_of_ble_eq_true rfl, Nat.le_of_ble_eq_true rfl⟩⟩ K_X10_wipe h (fun i148 s149 h => ?_)
        refine T_icmp_eq 759 dL_law_669 (by decide) h (fun _ h => ?_) (fun _ h => ?_)
        · refine T_iinc (i17 + 4) (lv' := [(3, .int (i17 + 4)), (0, .ref b), (1, .ref a15), (2, .ref a16)]) dL_law_759 (j := 3) rfl rfl (by decide) rfl ?_
          refine T_goto 18 dL_law_762 (by decide) ?_
          refine T_lv (lv' := [(0, .ref b), (1, .ref a15), (2, .ref a16), (3, .int (i17 + 4))]) [1, 2, 3, 0] rfl ?_
          exact ih (i17 + 4) s149 h
        · refine T_iconst (0 : Int32) dL_law_672 (by decide) ?_
          exact T_lawret dL_law_673 (Nat.le_of_ble_eq_true rfl) (Nat.le_of_ble_eq_true rfl) h
      refine T_ite h (fun c18 h => ?_) (fun c18 h => ?_)
      · refine T_tableIn 674 dL_law_32 (by rw [c18]; decide) (by rw [c18]; decide) (by rw [c18]; rfl) (by decide) ?_
        refine T_aload_n dL_law_674 rfl 1 rfl ?_
        refine T_callVI (As := []) (rest := []) (b := a15) (ci := 8) dL_law_675 mc_X9_fault mi_X9_fault ml_RL_92 rfl (fun _ hr => chk_of hr) rfl rfl (Nat.le_of_ble_eq_true rfl) ⟨⟨Nat.le_of_ble_eq_true rfl, Nat.le_of_ble_eq_true rfl⟩, ⟨Nat.le_of_ble_eq_true rfl, Nat.le_of_ble_eq_true rfl⟩⟩ K_X9_fault h (fun i150 s151 h => ?_)
        refine T_aload_n dL_law_678 rfl 2 rfl ?_
        refine T_callVI (As := []) (rest := [.int i150]) (b := a16) (ci := 9) dL_law_679 mc_X10_fault mi_X10_fault ml_RL_95 rfl (fun _ hr => chk_of hr) rfl rfl (Nat.le_of_ble_eq_true rfl) ⟨⟨Nat.le_of_ble_eq_true rfl, Nat.le_of_ble_eq_true rfl⟩, ⟨Nat.le_of_ble_eq_true rfl, Nat.le_of_ble_eq_true rfl⟩⟩ K_X10_fault h (fun i152 s153 h => ?_)
        refine T_icmp_eq 759 dL_law_682 (by decide) h (fun _ h => ?_) (fun _ h => ?_)
        · refine T_iinc (i17 + 4) (lv' := [(3, .int (i17 + 4)), (0, .ref b), (1, .ref a15), (2, .ref a16)]) dL_law_759 (j := 3) rfl rfl (by decide) rfl ?_
          refine T_goto 18 dL_law_762 (by decide) ?_
          refine T_lv (lv' := [(0, .ref b), (1, .ref a15), (2, .ref a16), (3, .int (i17 + 4))]) [1, 2, 3, 0] rfl ?_
          exact ih (i17 + 4) s153 h
        · refine T_iconst (0 : Int32) dL_law_685 (by decide) ?_
          exact T_lawret dL_law_686 (Nat.le_of_ble_eq_true rfl) (Nat.le_of_ble_eq_true rfl) h
      refine T_ite h (fun c19 h => ?_) (fun c19 h => ?_)
      · refine T_tableIn 687 dL_law_32 (by rw [c19]; decide) (by rw [c19]; decide) (by rw [c19]; rfl) (by decide) ?_
        refine T_aload_n dL_law_687 rfl 1 rfl ?_
        refine T_callVI (As := []) (rest := []) (b := a15) (ci := 8) dL_law_688 mc_X9_carryOut mi_X9_carryOut ml_RL_96 rfl (fun _ hr => chk_of hr) rfl rfl (Nat.le_of_ble_eq_true rfl) ⟨⟨Nat.le_of_ble_eq_true rfl, Nat.le_of_ble_eq_true rfl⟩, ⟨Nat.le_of_ble_eq_true rfl, Nat.le_of_ble_eq_true rfl⟩⟩ K_X9_carryOut h (fun i154 s155 h => ?_)
        refine T_aload_n dL_law_691 rfl 2 rfl ?_
        refine T_callVI (As := []) (rest := [.int i154]) (b := a16) (ci := 9) dL_law_692 mc_X10_carryOut mi_X10_carryOut ml_RL_99 rfl (fun _ hr => chk_of hr) rfl rfl (Nat.le_of_ble_eq_true rfl) ⟨⟨Nat.le_of_ble_eq_true rfl, Nat.le_of_ble_eq_true rfl⟩, ⟨Nat.le_of_ble_eq_true rfl, Nat.le_of_ble_eq_true rfl⟩⟩ K_X10_carryOut h (fun i156 s157 h => ?_)
        refine T_icmp_eq 759 dL_law_695 (by decide) h (fun _ h => ?_) (fun _ h => ?_)
        · refine T_iinc (i17 + 4) (lv' := [(3, .int (i17 + 4)), (0, .ref b), (1, .ref a15), (2, .ref a16)]) dL_law_759 (j := 3) rfl rfl (by decide) rfl ?_
          refine T_goto 18 dL_law_762 (by decide) ?_
          refine T_lv (lv' := [(0, .ref b), (1, .ref a15), (2, .ref a16), (3, .int (i17 + 4))]) [1, 2, 3, 0] rfl ?_
          exact ih (i17 + 4) s157 h
        · refine T_iconst (0 : Int32) dL_law_698 (by decide) ?_
          exact T_lawret dL_law_699 (Nat.le_of_ble_eq_true rfl) (Nat.le_of_ble_eq_true rfl) h
      refine T_ite h (fun c20 h => ?_) (fun c20 h => ?_)
      · refine T_tableIn 700 dL_law_32 (by rw [c20]; decide) (by rw [c20]; decide) (by rw [c20]; rfl) (by decide) ?_
        refine T_aload_n dL_law_700 rfl 1 rfl ?_
        refine T_callVI (As := []) (rest := []) (b := a15) (ci := 8) dL_law_701 mc_X9_undo mi_X9_undo ml_RL_100 rfl (fun _ hr => chk_of hr) rfl rfl (Nat.le_of_ble_eq_true rfl) ⟨⟨Nat.le_of_ble_eq_true rfl, Nat.le_of_ble_eq_true rfl⟩, ⟨Nat.le_of_ble_eq_true rfl, Nat.le_of_ble_eq_true rfl⟩⟩ K_X9_undo h (fun i158 s159 h => ?_)
        refine T_aload_n dL_law_704 rfl 2 rfl ?_
        refine T_callVI (As := []) (rest := [.int i158]) (b := a16) (ci := 9) dL_law_705 mc_X10_undo mi_X10_undo ml_RL_103 rfl (fun _ hr => chk_of hr) rfl rfl (Nat.le_of_ble_eq_true rfl) ⟨⟨Nat.le_of_ble_eq_true rfl, Nat.le_of_ble_eq_true rfl⟩, ⟨Nat.le_of_ble_eq_true rfl, Nat.le_of_ble_eq_true rfl⟩⟩ K_X10_undo h (fun i160 s161 h => ?_)
        refine T_icmp_eq 759 dL_law_708 (by decide) h (fun _ h => ?_) (fun _ h => ?_)
        · refine T_iinc (i17 + 4) (lv' := [(3, .int (i17 + 4)), (0, .ref b), (1, .ref a15), (2, .ref a16)]) dL_law_759 (j := 3) rfl rfl (by decide) rfl ?_
          refine T_goto 18 dL_law_762 (by decide) ?_
          refine T_lv (lv' := [(0, .ref b), (1, .ref a15), (2, .ref a16), (3, .int (i17 + 4))]) [1, 2, 3, 0] rfl ?_
          exact ih (i17 + 4) s161 h
        · refine T_iconst (0 : Int32) dL_law_711 (by decide) ?_
          exact T_lawret dL_law_712 (Nat.le_of_ble_eq_true rfl) (Nat.le_of_ble_eq_true rfl) h
      refine T_ite h (fun c21 h => ?_) (fun c21 h => ?_)
      · refine T_tableIn 713 dL_law_32 (by rw [c21]; decide) (by rw [c21]; decide) (by rw [c21]; rfl) (by decide) ?_
        refine T_aload_n dL_law_713 rfl 1 rfl ?_
        refine T_aload_n dL_law_714 rfl 0 rfl ?_
        refine T_iload_n dL_law_715 rfl 3 rfl ?_
        refine T_iconst (1 : Int32) dL_law_716 (by decide) ?_
        refine T_iadd dL_law_717 ?_
        refine T_sld dL_law_718 h (fun i162 h => ?_)
        refine T_callVI (As := [.int i162]) (rest := []) (b := a15) (ci := 8) dL_law_719 mc_X9_save mi_X9_save ml_RL_104 rfl (fun _ hr => chk_of hr) rfl rfl (Nat.le_of_ble_eq_true rfl) ⟨⟨Nat.le_of_ble_eq_true rfl, Nat.le_of_ble_eq_true rfl⟩, ⟨Nat.le_of_ble_eq_true rfl, Nat.le_of_ble_eq_true rfl⟩⟩ K_X9_save h (fun i163 s164 h => ?_)
        refine T_aload_n dL_law_722 rfl 2 rfl ?_
        refine T_aload_n dL_law_723 rfl 0 rfl ?_
        refine T_iload_n dL_law_724 rfl 3 rfl ?_
        refine T_iconst (1 : Int32) dL_law_725 (by decide) ?_
        refine T_iadd dL_law_726 ?_
        refine T_sld dL_law_727 h (fun i165 h => ?_)
        refine T_callVI (As := [.int i165]) (rest := [.int i163]) (b := a16) (ci := 9) dL_law_728 mc_X10_save mi_X10_save ml_RL_107 rfl (fun _ hr => chk_of hr) rfl rfl (Nat.le_of_ble_eq_true rfl) ⟨⟨Nat.le_of_ble_eq_true rfl, Nat.le_of_ble_eq_true rfl⟩, ⟨Nat.le_of_ble_eq_true rfl, Nat.le_of_ble_eq_true rfl⟩⟩ K_X10_save h (fun i166 s167 h => ?_)
        refine T_icmp_eq 759 dL_law_731 (by decide) h (fun _ h => ?_) (fun _ h => ?_)
        · refine T_iinc (i17 + 4) (lv' := [(3, .int (i17 + 4)), (0, .ref b), (1, .ref a15), (2, .ref a16)]) dL_law_759 (j := 3) rfl rfl (by decide) rfl ?_
          refine T_goto 18 dL_law_762 (by decide) ?_
          refine T_lv (lv' := [(0, .ref b), (1, .ref a15), (2, .ref a16), (3, .int (i17 + 4))]) [1, 2, 3, 0] rfl ?_
          exact ih (i17 + 4) s167 h
        · refine T_iconst (0 : Int32) dL_law_734 (by decide) ?_
          exact T_lawret dL_law_735 (Nat.le_of_ble_eq_true rfl) (Nat.le_of_ble_eq_true rfl) h
      refine T_ite h (fun c22 h => ?_) (fun c22 h => ?_)
      · refine T_tableIn 736 dL_law_32 (by rw [c22]; decide) (by rw [c22]; decide) (by rw [c22]; rfl) (by decide) ?_
        refine T_aload_n dL_law_736 rfl 1 rfl ?_
        refine T_aload_n dL_law_737 rfl 0 rfl ?_
        refine T_iload_n dL_law_738 rfl 3 rfl ?_
        refine T_iconst (1 : Int32) dL_law_739 (by decide) ?_
        refine T_iadd dL_law_740 ?_
        refine T_sld dL_law_741 h (fun i168 h => ?_)
        refine T_callVI (As := [.int i168]) (rest := []) (b := a15) (ci := 8) dL_law_742 mc_X9_restore mi_X9_restore ml_RL_108 rfl (fun _ hr => chk_of hr) rfl rfl (Nat.le_of_ble_eq_true rfl) ⟨⟨Nat.le_of_ble_eq_true rfl, Nat.le_of_ble_eq_true rfl⟩, ⟨Nat.le_of_ble_eq_true rfl, Nat.le_of_ble_eq_true rfl⟩⟩ K_X9_restore h (fun i169 s170 h => ?_)
        refine T_aload_n dL_law_745 rfl 2 rfl ?_
        refine T_aload_n dL_law_746 rfl 0 rfl ?_
        refine T_iload_n dL_law_747 rfl 3 rfl ?_
        refine T_iconst (1 : Int32) dL_law_748 (by decide) ?_
        refine T_iadd dL_law_749 ?_
        refine T_sld dL_law_750 h (fun i171 h => ?_)
        refine T_callVI (As := [.int i171]) (rest := [.int i169]) (b := a16) (ci := 9) dL_law_751 mc_X10_restore mi_X10_restore ml_RL_111 rfl (fun _ hr => chk_of hr) rfl rfl (Nat.le_of_ble_eq_true rfl) ⟨⟨Nat.le_of_ble_eq_true rfl, Nat.le_of_ble_eq_true rfl⟩, ⟨Nat.le_of_ble_eq_true rfl, Nat.le_of_ble_eq_true rfl⟩⟩ K_X10_restore h (fun i172 s173 h => ?_)
        refine T_icmp_eq 759 dL_law_754 (by decide) h (fun _ h => ?_) (fun _ h => ?_)
        · refine T_iinc (i17 + 4) (lv' := [(3, .int (i17 + 4)), (0, .ref b), (1, .ref a15), (2, .ref a16)]) dL_law_759 (j := 3) rfl rfl (by decide) rfl ?_
          refine T_goto 18 dL_law_762 (by decide) ?_
          refine T_lv (lv' := [(0, .ref b), (1, .ref a15), (2, .ref a16), (3, .int (i17 + 4))]) [1, 2, 3, 0] rfl ?_
          exact ih (i17 + 4) s173 h
        · refine T_iconst (0 : Int32) dL_law_757 (by decide) ?_
          exact T_lawret dL_law_758 (Nat.le_of_ble_eq_true rfl) (Nat.le_of_ble_eq_true rfl) h
      refine T_tableOut 759 dL_law_32 (by have e0 := lv_neT (a := 0) c0 rfl; have e1 := lv_neT (a := 1) c1 rfl; have e2 := lv_neT (a := 2) c2 rfl; have e3 := lv_neT (a := 3) c3 rfl; have e4 := lv_neT (a := 4) c4 rfl; have e5 := lv_neT (a := 5) c5 rfl; have e6 := lv_neT (a := 6) c6 rfl; have e7 := lv_neT (a := 7) c7 rfl; have e8 := lv_neT (a := 8) c8 rfl; have e9 := lv_neT (a := 9) c9 rfl; have e10 := lv_neT (a := 10) c10 rfl; have e11 := lv_neT (a := 11) c11 rfl; have e12 := lv_neT (a := 12) c12 rfl; have e13 := lv_neT (a := 13) c13 rfl; have e14 := lv_neT (a := 14) c14 rfl; have e15 := lv_neT (a := 15) c15 rfl; have e16 := lv_neT (a := 16) c16 rfl; have e17 := lv_neT (a := 17) c17 rfl; have e18 := lv_neT (a := 18) c18 rfl; have e19 := lv_neT (a := 19) c19 rfl; have e20 := lv_neT (a := 20) c20 rfl; have e21 := lv_neT (a := 21) c21 rfl; have e22 := lv_neT (a := 22) c22 rfl; omega) (by decide) ?_
      refine T_iinc (i17 + 4) (lv' := [(3, .int (i17 + 4)), (0, .ref b), (1, .ref a15), (2, .ref a16)]) dL_law_759 (j := 3) rfl rfl (by decide) rfl ?_
      refine T_goto 18 dL_law_762 (by decide) ?_
      refine T_lv (lv' := [(0, .ref b), (1, .ref a15), (2, .ref a16), (3, .int (i17 + 4))]) [1, 2, 3, 0] rfl ?_
      exact ih (i17 + 4) s18 h
set_option maxRecDepth 100000 in
set_option maxHeartbeats 4000000 in
theorem K_L_law {l : Launch} {G : smG} {b L : Nat} {xs : Nat → Int32} {s0 : Hp} (h : OK jI (D_L_law L xs s0) sm_PL) : T l G RL cL_law 4 room_1 (sm_EL b L xs G.2.2.2) lw_Z 0 0 0 [(0, .ref b)] [] s0 := by
  unfold D_L_law at h
  refine T_newO (C := RX9) (ci := 8) (fs := [.null, .null, .null, .null, .null, .null, .null, .int 0]) dL_law_0 wd_1_0 wd_1_1 wd_1_2 ⟨TX9, tyX9, rfl, inlX9, tyX9_ok, by decide +kernel⟩ (Nat.le_of_ble_eq_true rfl) (Nat.le_of_ble_eq_true rfl) ?_
  refine T_nh h (fun s11 h => ?_)
  refine T_dup dL_law_3 rfl ?_
  refine T_callIV (As := []) (rest := [.ref s0.1]) (b := s0.1) dL_law_4 mc_X9_init mi_X9_init ml_RL_9 rfl rfl (Nat.le_of_ble_eq_true rfl) ⟨⟨Nat.le_of_ble_eq_true rfl, Nat.le_of_ble_eq_true rfl⟩, ⟨Nat.le_of_ble_eq_true rfl, Nat.le_of_ble_eq_true rfl⟩⟩ K_X9_init h (fun s12 h => ?_)
  refine T_astore_n (lv' := [(1, .ref s0.1), (0, .ref b)]) dL_law_7 rfl (by decide) rfl ?_
  refine T_newO (C := RX10) (ci := 9) (fs := [.null, .null, .null, .null, .int 0, .null, .null, .null, .null, .null, .null, .null, .int 0, .int 0, .int 0, .int 0, .int 0]) dL_law_8 wd_1_3 wd_1_4 wd_1_5 ⟨TX10, tyX10, rfl, inlX10, tyX10_ok, by decide +kernel⟩ (Nat.le_of_ble_eq_true rfl) (Nat.le_of_ble_eq_true rfl) ?_
  refine T_nh h (fun s13 h => ?_)
  refine T_dup dL_law_11 rfl ?_
  refine T_callIV (As := []) (rest := [.ref s12.1]) (b := s12.1) dL_law_12 mc_X10_init mi_X10_init ml_RL_12 rfl rfl (Nat.le_of_ble_eq_true rfl) ⟨⟨Nat.le_of_ble_eq_true rfl, Nat.le_of_ble_eq_true rfl⟩, ⟨Nat.le_of_ble_eq_true rfl, Nat.le_of_ble_eq_true rfl⟩⟩ K_X10_init h (fun s14 h => ?_)
  refine T_astore_n (lv' := [(2, .ref s12.1), (1, .ref s0.1), (0, .ref b)]) dL_law_15 rfl (by decide) rfl ?_
  refine T_iconst (0 : Int32) dL_law_16 (by decide) ?_
  refine T_istore_n (lv' := [(3, .int (0 : Int32)), (2, .ref s12.1), (1, .ref s0.1), (0, .ref b)]) dL_law_17 rfl (by decide) rfl ?_
  refine T_lv (lv' := [(0, .ref b), (1, .ref s0.1), (2, .ref s12.1), (3, .int (0 : Int32))]) [3, 2, 1, 0] rfl ?_
  refine K_L_law_w18 ?_ FU (0 : Int32) s14 h
  intro s175 h
  refine T_iconst (1 : Int32) dL_law_765 (by decide) ?_
  exact T_lawret dL_law_766 (Nat.le_of_ble_eq_true rfl) (Nat.le_of_ble_eq_true rfl) h
