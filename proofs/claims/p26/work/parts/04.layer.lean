/-! THE LAYER: an abstract heap (a function from addresses to cells), its tie to the machine's heap, the judgement T: a frame at pc with locals lv, stack st and abstract heap σ comes to an end with P. One row an instruction. Rows that may fail take h : OK inj (the decompiled rest) P along. -/
/-- a cell: a row of ints, a row of references, an object (its class by its place in vwCl, its fields) -/
abbrev HC : Type := (Nat × (Nat → Int32)) ⊕ ((Nat × (Nat → Option Nat)) ⊕ (Nat × List Value))
/-- the abstract heap: the next free address, the cells -/
abbrev Hp : Type := Nat × (Nat → Option HC)
abbrev smG : Type := va_G × ClassId × ClassId × Nat
def sm_tr (G : smG) : HC → va_E
  | .inl a => .inl (G.2.1, (a.1, .inl a.2))
  | .inr (.inl a) => .inl (G.2.2.1, (a.1, .inr (.inr (.inr (.inr a.2)))))
  | .inr (.inr o) => .inr o
def sm_Rel (G : smG) (σ : Hp) (H : Heap) : Prop := H.size = σ.1 ∧ G.2.2.2 ≤ σ.1 ∧ ∀ q x, σ.2 q = some x → G.2.2.2 ≤ q ∧ va_at G.1 vwCl (q, sm_tr G x) H
def sm_nest : List Cond := [.methodLinkNest RX9 34 yX5_init "SunMirrors", .methodLinkNest RX9 50 yX3_init "SunMirrors", .methodLinkNest RX4 83 yX9_isPlace "SunMirrors", .methodLinkNest RX2 64 yX9_isPlace "SunMirrors", .methodLinkNest RX2 67 yX9_isAimPoint "SunMirrors"]
def sm_K (G : smG) (U : State) : Prop := va_K G.1 vwCl [(G.2.1, .int), (G.2.2.1, .object "SunMirrors$Field")] U ∧ va_AO "SunMirrors$Field" U ∧ ∀ w ∈ sm_nest, va_Nw w U
set_option maxHeartbeats 1000000 in
theorem sm_K.warm {G : smG} {s U : State} (hW : s.WarmedH U.vm) (h : sm_K G s) : sm_K G U := by
  refine ⟨va_K.moved hW.alike h.1, va_AO.moved hW.alike h.2.1, fun w hw => ?_⟩
  have h3 := h.2.2
  simp only [sm_nest, List.mem_cons, List.not_mem_nil, or_false] at hw h3
  rcases hw with rfl | rfl | rfl | rfl | rfl
  all_goals exact va_Nw.warmM hW (h3 _ (by simp))
set_option maxHeartbeats 1000000 in
theorem sm_K.blind {G : smG} {U V : State} (e : U.vm = V.vm) (h : sm_K G U) : sm_K G V := by
  have ha : U.vm.Alike V.vm := by rw [e]; exact Vm.Alike.refl _
  refine ⟨va_K.moved ha h.1, va_AO.moved ha h.2.1, fun w hw => ?_⟩
  have h3 := h.2.2
  simp only [sm_nest, List.mem_cons, List.not_mem_nil, or_false] at hw h3
  rcases hw with rfl | rfl | rfl | rfl | rfl
  all_goals exact va_Nw.same rfl e (h3 _ (by simp))
def sm_S (G : smG) (H0 H : Heap) (locs : List Loc) : Prop := (∀ q : Nat, q < G.2.2.2 → H[q]? = H0[q]?) ∧ ∀ x ∈ locs, G.2.2.2 ≤ x.base
set_option maxHeartbeats 1000000 in
theorem sm_S.put {G : smG} {H0 H H1 : Heap} {locs : List Loc} {a k : Nat} (h : sm_S G H0 H locs) (ha : G.2.2.2 ≤ a) (oq : ∀ q : Nat, q ≠ a → H1[q]? = H[q]?) : sm_S G H0 H1 (locs ++ [⟨a, k⟩]) := by
  refine ⟨fun q hq => ?_, fun x hx => ?_⟩
  · rw [oq q (by omega)]; exact h.1 q hq
  · rcases List.mem_append.mp hx with h1 | h1
    · exact h.2 x h1
    · rw [List.mem_singleton.mp h1]; exact ha
/-- a cell of the abstract heap is set -/
def setC (σ : Hp) (a : Nat) (x : HC) : Hp := (σ.1, fun q => if q = a then some x else σ.2 q)
set_option maxHeartbeats 1000000 in
theorem sm_Rel.set {G : smG} {σ : Hp} {H H1 : Heap} {a : Nat} {x y : HC} (h : sm_Rel G σ H) (ha : σ.2 a = some y) (z : H1.size = H.size) (oq : ∀ q : Nat, q ≠ a → H1[q]? = H[q]?) (hx : va_at G.1 vwCl (a, sm_tr G x) H1) : sm_Rel G (setC σ a x) H1 := by
  refine ⟨z.trans h.1, h.2.1, fun q v hv => ?_⟩
  by_cases e : q = a
  · subst e
    have hv : some x = some v := by simpa [setC] using hv
    cases hv
    exact ⟨(h.2.2 q y ha).1, hx⟩
  · have hv : σ.2 q = some v := by simpa [setC, e] using hv
    obtain ⟨h1, h2⟩ := h.2.2 q v hv
    exact ⟨h1, h2.kept (oq q e)⟩
/-- a new cell -/
def addC (σ : Hp) (x : HC) : Hp := (σ.1 + 1, fun q => if q = σ.1 then some x else σ.2 q)
set_option maxHeartbeats 1000000 in
theorem sm_Rel.add {G : smG} {σ : Hp} {H H1 : Heap} {x : HC} (h : sm_Rel G σ H) (z : H1.size = H.size + 1) (oq : ∀ q : Nat, q < H.size → H1[q]? = H[q]?) (hx : va_at G.1 vwCl (H.size, sm_tr G x) H1) : sm_Rel G (addC σ x) H1 := by
  refine ⟨by rw [z, h.1]; rfl, Nat.le_succ_of_le h.2.1, fun q v hv => ?_⟩
  by_cases e : q = σ.1
  · subst e
    have hv : some x = some v := by simpa [addC] using hv
    cases hv
    exact ⟨h.2.1, by rw [← h.1]; exact hx⟩
  · have hv : σ.2 q = some v := by simpa [addC, e] using hv
    obtain ⟨h1, h2⟩ := h.2.2 q v hv
    exact ⟨h1, h2.kept (oq q h2.lt)⟩
/-! what the decompiled functions may do with the abstract heap -/
def getV (σ : Hp) (a c k : Nat) : Option Value := match σ.2 a with
  | some (.inr (.inr o)) => if o.1 = c then o.2[k]? else none
  | _ => none
def getI (σ : Hp) (a c k : Nat) : Option Int32 := match getV σ a c k with
  | some (.int x) => some x
  | _ => none
def getR (σ : Hp) (a c k : Nat) : Option Nat := match getV σ a c k with
  | some (.ref x) => some x
  | _ => none
def putV (σ : Hp) (a c k : Nat) (v : Value) : Option Hp := match σ.2 a with
  | some (.inr (.inr o)) => if o.1 = c ∧ k < o.2.length then some (setC σ a (.inr (.inr (c, o.2.set k v)))) else none
  | _ => none
def putI (σ : Hp) (a c k : Nat) (x : Int32) : Option Hp := putV σ a c k (.int x)
def putZ (σ : Hp) (a c k : Nat) (x : Int32) : Option Hp := if x = 0 ∨ x = 1 then putV σ a c k (.int x) else none
def putR (σ : Hp) (a c k : Nat) (x : Nat) : Option Hp := putV σ a c k (.ref x)
def isO (σ : Hp) (a c : Nat) : Option Unit := match σ.2 a with
  | some (.inr (.inr o)) => if o.1 = c then some () else none
  | _ => none
def ldI (σ : Hp) (a : Nat) (i : Int32) : Option Int32 := match σ.2 a with
  | some (.inl x) => if 0 ≤ i.toInt ∧ i.toInt < x.1 then some (x.2 i.toNatClampNeg) else none
  | _ => none
def stI (σ : Hp) (a : Nat) (i x : Int32) : Option Hp := match σ.2 a with
  | some (.inl y) => if 0 ≤ i.toInt ∧ i.toInt < y.1 then some (setC σ a (.inl (y.1, upd y.2 i.toNatClampNeg x))) else none
  | _ => none
def ldR (σ : Hp) (a : Nat) (i : Int32) : Option (Option Nat) := match σ.2 a with
  | some (.inr (.inl x)) => if 0 ≤ i.toInt ∧ i.toInt < x.1 then some (x.2 i.toNatClampNeg) else none
  | _ => none
/-- a reference to a Field is stored in a row of references -/
def stR (σ : Hp) (a : Nat) (i : Int32) (v : Nat) : Option Hp := match σ.2 a, isO σ v 2 with
  | some (.inr (.inl y)), some _ => if 0 ≤ i.toInt ∧ i.toInt < y.1 then some (setC σ a (.inr (.inl (y.1, va_up y.2 i.toNatClampNeg (some v))))) else none
  | _, _ => none
def alen (σ : Hp) (a : Nat) : Option Int32 := match σ.2 a with
  | some (.inl x) => some (Int32.ofNat x.1)
  | some (.inr (.inl x)) => some (Int32.ofNat x.1)
  | _ => none
def newI (σ : Hp) (n : Int32) : Option Hp := if 0 ≤ n.toInt ∧ n.toInt ≤ 800 then some (addC σ (.inl (n.toNatClampNeg, fun _ => 0))) else none
def newR (σ : Hp) (n : Int32) : Option Hp := if 0 ≤ n.toInt ∧ n.toInt ≤ 800 then some (addC σ (.inr (.inl (n.toNatClampNeg, fun _ => none)))) else none
def newO (σ : Hp) (c : Nat) (fs : List Value) : Hp := addC σ (.inr (.inr (c, fs)))
def cpyI (σ : Hp) (a0 : Nat) (sp : Int32) (a : Nat) (dp n : Int32) : Option Hp := match σ.2 a0, σ.2 a with
  | some (.inl x), some (.inl y) => if (¬ sp < 0 ∧ ¬ dp < 0 ∧ ¬ n < 0) ∧ sp.toNatClampNeg + n.toNatClampNeg ≤ x.1 ∧ dp.toNatClampNeg + n.toNatClampNeg ≤ y.1 then some (setC σ a (.inl (y.1, va_cpy x.2 y.2 sp.toNatClampNeg dp.toNatClampNeg n.toNatClampNeg))) else none
  | _, _ => none
def divI (x y : Int32) : Option Int32 := if y = 0 then none else some (x / y)
def remI (x y : Int32) : Option Int32 := if y = 0 then none else some (x - x / y * y)
def retZ {α : Type} (x : Int32) (r : α) : Option α := if x = 0 ∨ x = 1 then some r else none
/-- a call that gives a number or a reference, and a heap -/
def bd {α β : Type} (d : Option (α × Hp)) (f : α → Hp → Option β) : Option β := d.bind fun q => f q.1 q.2
/-- a value is named -/
def nm {α β : Type} (x : α) (f : α → β) : β := f x
/-- the end of a decompiled piece: it gives something, and P holds of it -/
def OK {α : Type} (inj : α → Option Value × Hp) (d : Option α) (P : Option Value → Hp → Prop) : Prop := ∃ a, d = some a ∧ P (inj a).1 (inj a).2
def jI : Int32 × Hp → Option Value × Hp := fun q => (some (.int q.1), q.2)
def jV : Hp → Option Value × Hp := fun σ => (none, σ)
def jR : Option Nat × Hp → Option Value × Hp := fun q => (some (va_rf q.1), q.2)
set_option maxHeartbeats 1000000 in
theorem OK.bind {α β : Type} {inj : α → Option Value × Hp} {d : Option β} {f : β → Option α} {P : Option Value → Hp → Prop} (h : OK inj (d.bind f) P) : ∃ x, d = some x ∧ OK inj (f x) P := by
  obtain ⟨a, h1, h2⟩ := h
  cases d with
  | none => cases h1
  | some x => exact ⟨x, rfl, a, h1, h2⟩
/-- the frame's context -/
def sm_Cx (p : Program) (s : State) (m : MethodId) (args : Array Value) (c : Code) (own : String) (cc : ByteArray) (nL : Nat) (G : smG) : Prop :=
  p.tables.exec = Jvm.exec ∧ c.code = cc ∧ c.maxLocals = nL ∧ s.vm.findClass own = some m.cls ∧ (∀ w ∈ wsL_law, w.before args s = true) ∧ sm_K G s
abbrev smE : Type := State → Array Value → Method → Prop
def T (l : Launch) (G : smG) (own : String) (cc : ByteArray) (nL : Nat) (rm : Room) (E : smE) (Qs : List Frame → Array Value → State → State → Prop) (cs sl pc : Nat) (lv : List (Nat × Value)) (st : List Value) (σ : Hp) : Prop :=
  ∀ (p : Program) (e : Env) (s : State) (m : MethodId) (args : Array Value) (below : List Frame) (meth : Method) (c : Code) (H : Heap) (locs : List Loc) (ls : Array Slot), sm_Cx p s m args c own cc nL G → E s args meth → sm_Rel G σ H → sm_S G s.heap H locs → lv_has ls nL lv → W p l e rm s m args below meth c H locs cs sl (Qs below args s) (F0 m pc ls st)
def sm_E (rt : Option FieldType) (nme : String) : smE := fun _ _ meth => meth.sig.returnType = rt ∧ meth.locks = false ∧ meth.name = nme
def sm_Qm (G : smG) (P : Option Value → Hp → Prop) : Array Value → State → Outcome → State → Prop := fun _ st oc t => (∃ v σ', oc = .returned v ∧ P v σ' ∧ sm_Rel G σ' t.heap) ∧ ∀ q : Nat, q < G.2.2.2 → t.heap[q]? = st.heap[q]?
def sm_Qs (G : smG) (P : Option Value → Hp → Prop) (mc ms : Nat) : List Frame → Array Value → State → State → Prop := fun below args s => MQ below (sm_Qm G P) args s mc ms (fun q => G.2.2.2 ≤ q)
def sm_rm (d mc ms : Nat) : Room := { frames := d, cells := mc, slots := ms, locals := 40 * d }
/-- a method's contract at given arguments and a given abstract heap -/
def sm_Ct (l : Launch) (y : MethodName) (cc : ByteArray) (nL : Nat) (rt : Option FieldType) (d mc ms : Nat) (args : List Value) (σ : Hp) (P : Option Value → Hp → Prop) : Prop :=
  ∀ G : smG, Met l y (.code y cc nL rt :: wsL_law) (sm_rm d mc ms) (va_Pc args (fun U => sm_Rel G σ U.heap ∧ sm_K G U)) (sm_Qm G P) mc ms (fun q => G.2.2.2 ≤ q)
set_option maxHeartbeats 1000000 in
theorem sm_enter {l : Launch} {y : MethodName} {own : String} {cc : ByteArray} {nL : Nat} {rt : Option FieldType} {d mc ms : Nat} {args : List Value} {σ : Hp} {P : Option Value → Hp → Prop} {lv : List (Nat × Value)} (hy : plainName y.cls = true) (hown : y.cls = own) (hsl : (lg_sl args).length ≤ nL) (hlv : lv_args 0 args = lv)
    (k : ∀ G, T l G own cc nL (sm_rm d mc ms) (sm_E rt y.name) (sm_Qs G P mc ms) 0 0 0 lv [] σ) : sm_Ct l y cc nL rt d mc ms args σ P := by
  intro G
  refine Met.ofW (cc := cc) (maxL := nL) (ret := rt) hy rfl ?_
  intro p e s m av below meth c s₁ B hml hv
  obtain ⟨rfl, hR, hK⟩ := hv
  have hx := B.exec
  have hb := B.bytes
  have hr := B.returns
  have hts := atoms_spec (ws := Cond.code y cc nL rt :: wsL_law) B.pre
  have hw : s.vm.findClass own = some m.cls := by rw [← hown]; exact findClass_of_methodNamed B.named
  have hlocks := B.notSynchronized
  have hin : meth.name = y.name := (name_of_methodNamed B.named B.method).1
  have hl := lv_entry args (n := nL) hsl
  rw [lg_entry_eq]
  rw [hlv] at hl
  exact k G p e s m args.toArray below meth c s.heap [] _ ⟨hx, hb, hml, hw, fun w h => hts w (List.mem_cons_of_mem _ h), hK⟩ ⟨hr, hlocks, hin⟩ hR ⟨fun _ _ => rfl, fun _ h => by cases h⟩ hl
section ROWS
variable {l : Launch} {G : smG} {own : String} {cc : ByteArray} {nL : Nat} {rm : Room} {E : smE} {Qs : List Frame → Array Value → State → State → Prop} {cs sl pc : Nat} {lv : List (Nat × Value)} {st : List Value} {σ : Hp}
set_option maxHeartbeats 1000000 in
theorem T_lv {lv' : List (Nat × Value)} (ks : List Nat) (h : lv_pick lv ks = lv') (k : T l G own cc nL rm E Qs cs sl pc lv' st σ) : T l G own cc nL rm E Qs cs sl pc lv st σ :=
  fun p e s m args below meth c H locs ls C0 he hR hS hl => k p e s m args below meth c H locs ls C0 he hR hS (lv_sub hl ks h)
set_option maxHeartbeats 1000000 in
theorem T_cs {cs' sl' : Nat} (h1 : cs ≤ cs') (h2 : sl ≤ sl') (k : T l G own cc nL rm E Qs cs' sl' pc lv st σ) : T l G own cc nL rm E Qs cs sl pc lv st σ :=
  fun p e s m args below meth c H locs ls C0 he hR hS hl => W.widen h1 h2 (k p e s m args below meth c H locs ls C0 he hR hS hl)
set_option maxHeartbeats 1000000 in
theorem T_nm {α : Type} {inj : α → Option Value × Hp} {P : Option Value → Hp → Prop} {x : Int32} {f : Int32 → Option α} (h : OK inj (nm x f) P) (k : ∀ y : Int32, OK inj (f y) P → T l G own cc nL rm E Qs cs sl pc lv (.int y :: st) σ) : T l G own cc nL rm E Qs cs sl pc lv (.int x :: st) σ := k x h
set_option maxHeartbeats 1000000 in
theorem T_nmL {α : Type} {inj : α → Option Value × Hp} {P : Option Value → Hp → Prop} {x : Int64} {f : Int64 → Option α} (h : OK inj (nm x f) P) (k : ∀ y : Int64, OK inj (f y) P → T l G own cc nL rm E Qs cs sl pc lv (.long y :: st) σ) : T l G own cc nL rm E Qs cs sl pc lv (.long x :: st) σ := k x h
set_option maxHeartbeats 1000000 in
theorem T_ite {α : Type} {inj : α → Option Value × Hp} {P : Option Value → Hp → Prop} {c : Prop} [Decidable c] {A B : Option α} {X : Prop} (h : OK inj (if c then A else B) P) (kt : c → OK inj A P → X) (kf : ¬ c → OK inj B P → X) : X := by
  by_cases hc : c
  · rw [if_pos hc] at h; exact kt hc h
  · rw [if_neg hc] at h; exact kf hc h

set_option maxHeartbeats 1000000 in
theorem T_iconst {n : Int} (v : Int32) (hd : decode cc pc = .ok (.iconst n, 1)) (hv : Int32.ofInt n = v)
    (k : T l G own cc nL rm E Qs cs sl (pc + 1) lv (.int v :: st) σ) : T l G own cc nL rm E Qs cs sl pc lv st σ := by
  intro p e s m args below meth c H locs ls C0 he hR hS hl
  obtain ⟨hx, hb, -⟩ := id C0
  exact lv_iconst hx hb hd hv (k p e s m args below meth c H locs ls C0 he hR hS hl)

set_option maxHeartbeats 1000000 in
theorem T_bipush {n : Int} (v : Int32) (hd : decode cc pc = .ok (.bipush n, 2)) (hv : (Int8.ofInt n).toInt32 = v)
    (k : T l G own cc nL rm E Qs cs sl (pc + 2) lv (.int v :: st) σ) : T l G own cc nL rm E Qs cs sl pc lv st σ := by
  intro p e s m args below meth c H locs ls C0 he hR hS hl
  obtain ⟨hx, hb, -⟩ := id C0
  exact lv_bipush hx hb hd hv (k p e s m args below meth c H locs ls C0 he hR hS hl)

set_option maxHeartbeats 1000000 in
theorem T_sipush {n : Int} (v : Int32) (hd : decode cc pc = .ok (.sipush n, 3)) (hv : (Int16.ofInt n).toInt32 = v)
    (k : T l G own cc nL rm E Qs cs sl (pc + 3) lv (.int v :: st) σ) : T l G own cc nL rm E Qs cs sl pc lv st σ := by
  intro p e s m args below meth c H locs ls C0 he hR hS hl
  obtain ⟨hx, hb, -⟩ := id C0
  exact lv_sipush hx hb hd hv (k p e s m args below meth c H locs ls C0 he hR hS hl)

set_option maxHeartbeats 1000000 in
theorem T_lconst {n : Fin 2} (v : Int64) (hd : decode cc pc = .ok (.lconst n, 1)) (hv : Int64.ofNat (n : Nat) = v)
    (k : T l G own cc nL rm E Qs cs sl (pc + 1) lv (.long v :: st) σ) : T l G own cc nL rm E Qs cs sl pc lv st σ := by
  intro p e s m args below meth c H locs ls C0 he hR hS hl
  obtain ⟨hx, hb, -⟩ := id C0
  exact lv_lconst hx hb hd hv (k p e s m args below meth c H locs ls C0 he hR hS hl)

set_option maxHeartbeats 1000000 in
theorem T_ldc2 {index : Nat} (v : Int64) (hd : decode cc pc = .ok (.ldc2_w index, 3)) (hw : Cond.constantLong own index v ∈ wsL_law)
    (k : T l G own cc nL rm E Qs cs sl (pc + 3) lv (.long v :: st) σ) : T l G own cc nL rm E Qs cs sl pc lv st σ := by
  intro p e s m args below meth c H locs ls C0 he hR hS hl
  obtain ⟨hx, hb, -⟩ := id C0
  exact lv_ldc2 hx hb C0.2.2.2.1 (C0.2.2.2.2.1 _ hw) hd (k p e s m args below meth c H locs ls C0 he hR hS hl)

set_option maxHeartbeats 1000000 in
theorem T_ldc {index : Nat} (v : Int32) (hd : decode cc pc = .ok (.ldc index, 2)) (hw : Cond.constant own index v ∈ wsL_law)
    (k : T l G own cc nL rm E Qs cs sl (pc + 2) lv (.int v :: st) σ) : T l G own cc nL rm E Qs cs sl pc lv st σ := by
  intro p e s m args below meth c H locs ls C0 he hR hS hl
  obtain ⟨hx, hb, -⟩ := id C0
  exact lv_ldc hx hb C0.2.2.2.1 (C0.2.2.2.2.1 _ hw) hd (k p e s m args below meth c H locs ls C0 he hR hS hl)

set_option maxHeartbeats 1000000 in
theorem T_null (hd : decode cc pc = .ok (.aconst_null, 1))
    (k : T l G own cc nL rm E Qs cs sl (pc + 1) lv (.null :: st) σ) : T l G own cc nL rm E Qs cs sl pc lv st σ := by
  intro p e s m args below meth c H locs ls C0 he hR hS hl
  obtain ⟨hx, hb, -⟩ := id C0
  exact lv_null hx hb hd (k p e s m args below meth c H locs ls C0 he hR hS hl)

set_option maxHeartbeats 1000000 in
theorem T_iload_n {kf : Fin 4} {i : Nat} {x : Int32} (hd : decode cc pc = .ok (.iload_n kf, 1)) (hi : (kf : Nat) = i) (j : Nat) (hj : lv[j]? = some (i, .int x))
    (k : T l G own cc nL rm E Qs cs sl (pc + 1) lv (.int x :: st) σ) : T l G own cc nL rm E Qs cs sl pc lv st σ := by
  intro p e s m args below meth c H locs ls C0 he hR hS hl
  obtain ⟨hx, hb, -⟩ := id C0
  exact lv_iload_n hx hb hd hi (lv_at hl j hj) (k p e s m args below meth c H locs ls C0 he hR hS hl)

set_option maxHeartbeats 1000000 in
theorem T_iload {i : Nat} {x : Int32} (hd : decode cc pc = .ok (.iload i, 2)) (j : Nat) (hj : lv[j]? = some (i, .int x))
    (k : T l G own cc nL rm E Qs cs sl (pc + 2) lv (.int x :: st) σ) : T l G own cc nL rm E Qs cs sl pc lv st σ := by
  intro p e s m args below meth c H locs ls C0 he hR hS hl
  obtain ⟨hx, hb, -⟩ := id C0
  exact lv_iload hx hb hd (lv_at hl j hj) (k p e s m args below meth c H locs ls C0 he hR hS hl)

set_option maxHeartbeats 1000000 in
theorem T_istore_n {kf : Fin 4} {i : Nat} {x : Int32} {lv' : List (Nat × Value)} (hd : decode cc pc = .ok (.istore_n kf, 1)) (hi : (kf : Nat) = i) (hn : i < nL) (hl' : (i, Value.int x) :: lv.filter (fun q => !(q.1 == i) && !(q.1 + 1 == i && q.2.category == 2)) = lv')
    (k : T l G own cc nL rm E Qs cs sl (pc + 1) lv' st σ) : T l G own cc nL rm E Qs cs sl pc lv (.int x :: st) σ := by
  intro p e s m args below meth c H locs ls C0 he hR hS hl
  obtain ⟨hx, hb, -⟩ := id C0
  exact lv_istore_n hx hb hd hi hl hn hl' (fun ls hl => (k p e s m args below meth c H locs ls C0 he hR hS hl))

set_option maxHeartbeats 1000000 in
theorem T_istore {i : Nat} {x : Int32} {lv' : List (Nat × Value)} (hd : decode cc pc = .ok (.istore i, 2)) (hn : i < nL) (hl' : (i, Value.int x) :: lv.filter (fun q => !(q.1 == i) && !(q.1 + 1 == i && q.2.category == 2)) = lv')
    (k : T l G own cc nL rm E Qs cs sl (pc + 2) lv' st σ) : T l G own cc nL rm E Qs cs sl pc lv (.int x :: st) σ := by
  intro p e s m args below meth c H locs ls C0 he hR hS hl
  obtain ⟨hx, hb, -⟩ := id C0
  exact lv_istore hx hb hd hl hn hl' (fun ls hl => (k p e s m args below meth c H locs ls C0 he hR hS hl))

set_option maxHeartbeats 1000000 in
theorem T_lload_n {kf : Fin 4} {i : Nat} {x : Int64} (hd : decode cc pc = .ok (.lload_n kf, 1)) (hi : (kf : Nat) = i) (j : Nat) (hj : lv[j]? = some (i, .long x))
    (k : T l G own cc nL rm E Qs cs sl (pc + 1) lv (.long x :: st) σ) : T l G own cc nL rm E Qs cs sl pc lv st σ := by
  intro p e s m args below meth c H locs ls C0 he hR hS hl
  obtain ⟨hx, hb, -⟩ := id C0
  exact lv_lload_n hx hb hd hi (lv_at hl j hj) (k p e s m args below meth c H locs ls C0 he hR hS hl)

set_option maxHeartbeats 1000000 in
theorem T_lload {i : Nat} {x : Int64} (hd : decode cc pc = .ok (.lload i, 2)) (j : Nat) (hj : lv[j]? = some (i, .long x))
    (k : T l G own cc nL rm E Qs cs sl (pc + 2) lv (.long x :: st) σ) : T l G own cc nL rm E Qs cs sl pc lv st σ := by
  intro p e s m args below meth c H locs ls C0 he hR hS hl
  obtain ⟨hx, hb, -⟩ := id C0
  exact lv_lload hx hb hd (lv_at hl j hj) (k p e s m args below meth c H locs ls C0 he hR hS hl)

set_option maxHeartbeats 1000000 in
theorem T_lstore_n {kf : Fin 4} {i : Nat} {x : Int64} {lv' : List (Nat × Value)} (hd : decode cc pc = .ok (.lstore_n kf, 1)) (hi : (kf : Nat) = i) (hn : i + 1 < nL) (hl' : (i, Value.long x) :: lv.filter (fun q => !(q.1 == i) && (!(q.1 == i + 1) && !(q.1 + 1 == i && q.2.category == 2))) = lv')
    (k : T l G own cc nL rm E Qs cs sl (pc + 1) lv' st σ) : T l G own cc nL rm E Qs cs sl pc lv (.long x :: st) σ := by
  intro p e s m args below meth c H locs ls C0 he hR hS hl
  obtain ⟨hx, hb, -⟩ := id C0
  exact lv_lstore_n hx hb hd hi hl hn hl' (fun ls hl => (k p e s m args below meth c H locs ls C0 he hR hS hl))

set_option maxHeartbeats 1000000 in
theorem T_lstore {i : Nat} {x : Int64} {lv' : List (Nat × Value)} (hd : decode cc pc = .ok (.lstore i, 2)) (hn : i + 1 < nL) (hl' : (i, Value.long x) :: lv.filter (fun q => !(q.1 == i) && (!(q.1 == i + 1) && !(q.1 + 1 == i && q.2.category == 2))) = lv')
    (k : T l G own cc nL rm E Qs cs sl (pc + 2) lv' st σ) : T l G own cc nL rm E Qs cs sl pc lv (.long x :: st) σ := by
  intro p e s m args below meth c H locs ls C0 he hR hS hl
  obtain ⟨hx, hb, -⟩ := id C0
  exact lv_lstore hx hb hd hl hn hl' (fun ls hl => (k p e s m args below meth c H locs ls C0 he hR hS hl))

set_option maxHeartbeats 1000000 in
theorem T_aload_n {kf : Fin 4} {i : Nat} {x : Nat} (hd : decode cc pc = .ok (.aload_n kf, 1)) (hi : (kf : Nat) = i) (j : Nat) (hj : lv[j]? = some (i, .ref x))
    (k : T l G own cc nL rm E Qs cs sl (pc + 1) lv (.ref x :: st) σ) : T l G own cc nL rm E Qs cs sl pc lv st σ := by
  intro p e s m args below meth c H locs ls C0 he hR hS hl
  obtain ⟨hx, hb, -⟩ := id C0
  exact lv_aload_n hx hb hd hi (lv_at hl j hj) (k p e s m args below meth c H locs ls C0 he hR hS hl)

set_option maxHeartbeats 1000000 in
theorem T_aload {i : Nat} {x : Nat} (hd : decode cc pc = .ok (.aload i, 2)) (j : Nat) (hj : lv[j]? = some (i, .ref x))
    (k : T l G own cc nL rm E Qs cs sl (pc + 2) lv (.ref x :: st) σ) : T l G own cc nL rm E Qs cs sl pc lv st σ := by
  intro p e s m args below meth c H locs ls C0 he hR hS hl
  obtain ⟨hx, hb, -⟩ := id C0
  exact lv_aload hx hb hd (lv_at hl j hj) (k p e s m args below meth c H locs ls C0 he hR hS hl)

set_option maxHeartbeats 1000000 in
theorem T_astore_n {kf : Fin 4} {i : Nat} {x : Nat} {lv' : List (Nat × Value)} (hd : decode cc pc = .ok (.astore_n kf, 1)) (hi : (kf : Nat) = i) (hn : i < nL) (hl' : (i, Value.ref x) :: lv.filter (fun q => !(q.1 == i) && !(q.1 + 1 == i && q.2.category == 2)) = lv')
    (k : T l G own cc nL rm E Qs cs sl (pc + 1) lv' st σ) : T l G own cc nL rm E Qs cs sl pc lv (.ref x :: st) σ := by
  intro p e s m args below meth c H locs ls C0 he hR hS hl
  obtain ⟨hx, hb, -⟩ := id C0
  exact lv_astore_n hx hb hd hi hl hn hl' (fun ls hl => (k p e s m args below meth c H locs ls C0 he hR hS hl))

set_option maxHeartbeats 1000000 in
theorem T_astore {i : Nat} {x : Nat} {lv' : List (Nat × Value)} (hd : decode cc pc = .ok (.astore i, 2)) (hn : i < nL) (hl' : (i, Value.ref x) :: lv.filter (fun q => !(q.1 == i) && !(q.1 + 1 == i && q.2.category == 2)) = lv')
    (k : T l G own cc nL rm E Qs cs sl (pc + 2) lv' st σ) : T l G own cc nL rm E Qs cs sl pc lv (.ref x :: st) σ := by
  intro p e s m args below meth c H locs ls C0 he hR hS hl
  obtain ⟨hx, hb, -⟩ := id C0
  exact lv_astore hx hb hd hl hn hl' (fun ls hl => (k p e s m args below meth c H locs ls C0 he hR hS hl))

set_option maxHeartbeats 1000000 in
theorem T_iinc {i j : Nat} {n : Int} {x : Int32} (v : Int32) {lv' : List (Nat × Value)} (hd : decode cc pc = .ok (.iinc i n, 3)) (hj : lv[j]? = some (i, .int x)) (hv : x + Int32.ofInt n = v) (hn : i < nL) (hl' : (i, Value.int v) :: lv.filter (fun q => !(q.1 == i) && !(q.1 + 1 == i && q.2.category == 2)) = lv')
    (k : T l G own cc nL rm E Qs cs sl (pc + 3) lv' st σ) : T l G own cc nL rm E Qs cs sl pc lv st σ := by
  intro p e s m args below meth c H locs ls C0 he hR hS hl
  obtain ⟨hx, hb, -⟩ := id C0
  exact lv_iinc hx hb hd hl hj hv hn hl' (fun ls hl => (k p e s m args below meth c H locs ls C0 he hR hS hl))

set_option maxHeartbeats 1000000 in
theorem T_astore_nN {kf : Fin 4} {i : Nat} {lv' : List (Nat × Value)} (hd : decode cc pc = .ok (.astore_n kf, 1)) (hi : (kf : Nat) = i) (hn : i < nL) (hl' : (i, Value.null) :: lv.filter (fun q => !(q.1 == i) && !(q.1 + 1 == i && q.2.category == 2)) = lv')
    (k : T l G own cc nL rm E Qs cs sl (pc + 1) lv' st σ) : T l G own cc nL rm E Qs cs sl pc lv (.null :: st) σ := by
  intro p e s m args below meth c H locs ls C0 he hR hS hl
  obtain ⟨hx, hb, -⟩ := id C0
  exact lv_astore_nN hx hb hd hi hl hn hl' (fun ls hl => (k p e s m args below meth c H locs ls C0 he hR hS hl))

set_option maxHeartbeats 1000000 in
theorem T_aload_nN {kf : Fin 4} {i : Nat} (hd : decode cc pc = .ok (.aload_n kf, 1)) (hi : (kf : Nat) = i) (j : Nat) (hj : lv[j]? = some (i, .null))
    (k : T l G own cc nL rm E Qs cs sl (pc + 1) lv (.null :: st) σ) : T l G own cc nL rm E Qs cs sl pc lv st σ := by
  intro p e s m args below meth c H locs ls C0 he hR hS hl
  obtain ⟨hx, hb, -⟩ := id C0
  exact lv_aload_nN hx hb hd hi (lv_at hl j hj) (k p e s m args below meth c H locs ls C0 he hR hS hl)

set_option maxHeartbeats 1000000 in
theorem T_iadd {x y : Int32} (hd : decode cc pc = .ok (.iadd, 1))
    (k : T l G own cc nL rm E Qs cs sl (pc + 1) lv (.int (x + y) :: st) σ) : T l G own cc nL rm E Qs cs sl pc lv (.int y :: .int x :: st) σ := by
  intro p e s m args below meth c H locs ls C0 he hR hS hl
  obtain ⟨hx, hb, -⟩ := id C0
  exact lv_iadd hx hb hd (k p e s m args below meth c H locs ls C0 he hR hS hl)

set_option maxHeartbeats 1000000 in
theorem T_isub {x y : Int32} (hd : decode cc pc = .ok (.isub, 1))
    (k : T l G own cc nL rm E Qs cs sl (pc + 1) lv (.int (x - y) :: st) σ) : T l G own cc nL rm E Qs cs sl pc lv (.int y :: .int x :: st) σ := by
  intro p e s m args below meth c H locs ls C0 he hR hS hl
  obtain ⟨hx, hb, -⟩ := id C0
  exact lv_isub hx hb hd (k p e s m args below meth c H locs ls C0 he hR hS hl)

set_option maxHeartbeats 1000000 in
theorem T_imul {x y : Int32} (hd : decode cc pc = .ok (.imul, 1))
    (k : T l G own cc nL rm E Qs cs sl (pc + 1) lv (.int (x * y) :: st) σ) : T l G own cc nL rm E Qs cs sl pc lv (.int y :: .int x :: st) σ := by
  intro p e s m args below meth c H locs ls C0 he hR hS hl
  obtain ⟨hx, hb, -⟩ := id C0
  exact lv_imul hx hb hd (k p e s m args below meth c H locs ls C0 he hR hS hl)

set_option maxHeartbeats 1000000 in
theorem T_iand {x y : Int32} (hd : decode cc pc = .ok (.iand, 1))
    (k : T l G own cc nL rm E Qs cs sl (pc + 1) lv (.int (x &&& y) :: st) σ) : T l G own cc nL rm E Qs cs sl pc lv (.int y :: .int x :: st) σ := by
  intro p e s m args below meth c H locs ls C0 he hR hS hl
  obtain ⟨hx, hb, -⟩ := id C0
  exact lv_iand hx hb hd (k p e s m args below meth c H locs ls C0 he hR hS hl)

set_option maxHeartbeats 1000000 in
theorem T_ior {x y : Int32} (hd : decode cc pc = .ok (.ior, 1))
    (k : T l G own cc nL rm E Qs cs sl (pc + 1) lv (.int (x ||| y) :: st) σ) : T l G own cc nL rm E Qs cs sl pc lv (.int y :: .int x :: st) σ := by
  intro p e s m args below meth c H locs ls C0 he hR hS hl
  obtain ⟨hx, hb, -⟩ := id C0
  exact lv_ior hx hb hd (k p e s m args below meth c H locs ls C0 he hR hS hl)

set_option maxHeartbeats 1000000 in
theorem T_ixor {x y : Int32} (hd : decode cc pc = .ok (.ixor, 1))
    (k : T l G own cc nL rm E Qs cs sl (pc + 1) lv (.int (x ^^^ y) :: st) σ) : T l G own cc nL rm E Qs cs sl pc lv (.int y :: .int x :: st) σ := by
  intro p e s m args below meth c H locs ls C0 he hR hS hl
  obtain ⟨hx, hb, -⟩ := id C0
  exact lv_ixor hx hb hd (k p e s m args below meth c H locs ls C0 he hR hS hl)

set_option maxHeartbeats 1000000 in
theorem T_ishl {x y : Int32} (hd : decode cc pc = .ok (.ishl, 1))
    (k : T l G own cc nL rm E Qs cs sl (pc + 1) lv (.int (x <<< (y &&& 31)) :: st) σ) : T l G own cc nL rm E Qs cs sl pc lv (.int y :: .int x :: st) σ := by
  intro p e s m args below meth c H locs ls C0 he hR hS hl
  obtain ⟨hx, hb, -⟩ := id C0
  exact lv_ishl hx hb hd (k p e s m args below meth c H locs ls C0 he hR hS hl)

set_option maxHeartbeats 1000000 in
theorem T_ishr {x y : Int32} (hd : decode cc pc = .ok (.ishr, 1))
    (k : T l G own cc nL rm E Qs cs sl (pc + 1) lv (.int (x >>> (y &&& 31)) :: st) σ) : T l G own cc nL rm E Qs cs sl pc lv (.int y :: .int x :: st) σ := by
  intro p e s m args below meth c H locs ls C0 he hR hS hl
  obtain ⟨hx, hb, -⟩ := id C0
  exact lv_ishr hx hb hd (k p e s m args below meth c H locs ls C0 he hR hS hl)

set_option maxHeartbeats 1000000 in
theorem T_ladd {x y : Int64} (hd : decode cc pc = .ok (.ladd, 1))
    (k : T l G own cc nL rm E Qs cs sl (pc + 1) lv (.long (x + y) :: st) σ) : T l G own cc nL rm E Qs cs sl pc lv (.long y :: .long x :: st) σ := by
  intro p e s m args below meth c H locs ls C0 he hR hS hl
  obtain ⟨hx, hb, -⟩ := id C0
  exact lv_ladd hx hb hd (k p e s m args below meth c H locs ls C0 he hR hS hl)

set_option maxHeartbeats 1000000 in
theorem T_lsub {x y : Int64} (hd : decode cc pc = .ok (.lsub, 1))
    (k : T l G own cc nL rm E Qs cs sl (pc + 1) lv (.long (x - y) :: st) σ) : T l G own cc nL rm E Qs cs sl pc lv (.long y :: .long x :: st) σ := by
  intro p e s m args below meth c H locs ls C0 he hR hS hl
  obtain ⟨hx, hb, -⟩ := id C0
  exact lv_lsub hx hb hd (k p e s m args below meth c H locs ls C0 he hR hS hl)

set_option maxHeartbeats 1000000 in
theorem T_land {x y : Int64} (hd : decode cc pc = .ok (.land, 1))
    (k : T l G own cc nL rm E Qs cs sl (pc + 1) lv (.long (x &&& y) :: st) σ) : T l G own cc nL rm E Qs cs sl pc lv (.long y :: .long x :: st) σ := by
  intro p e s m args below meth c H locs ls C0 he hR hS hl
  obtain ⟨hx, hb, -⟩ := id C0
  exact lv_land hx hb hd (k p e s m args below meth c H locs ls C0 he hR hS hl)

set_option maxHeartbeats 1000000 in
theorem T_lor {x y : Int64} (hd : decode cc pc = .ok (.lor, 1))
    (k : T l G own cc nL rm E Qs cs sl (pc + 1) lv (.long (x ||| y) :: st) σ) : T l G own cc nL rm E Qs cs sl pc lv (.long y :: .long x :: st) σ := by
  intro p e s m args below meth c H locs ls C0 he hR hS hl
  obtain ⟨hx, hb, -⟩ := id C0
  exact lv_lor hx hb hd (k p e s m args below meth c H locs ls C0 he hR hS hl)

set_option maxHeartbeats 1000000 in
theorem T_ineg {x : Int32} (hd : decode cc pc = .ok (.ineg, 1))
    (k : T l G own cc nL rm E Qs cs sl (pc + 1) lv (.int (-x) :: st) σ) : T l G own cc nL rm E Qs cs sl pc lv (.int x :: st) σ := by
  intro p e s m args below meth c H locs ls C0 he hR hS hl
  obtain ⟨hx, hb, -⟩ := id C0
  exact lv_ineg hx hb hd (k p e s m args below meth c H locs ls C0 he hR hS hl)

set_option maxHeartbeats 1000000 in
theorem T_i2l {x : Int32} (hd : decode cc pc = .ok (.i2l, 1))
    (k : T l G own cc nL rm E Qs cs sl (pc + 1) lv (.long x.toInt64 :: st) σ) : T l G own cc nL rm E Qs cs sl pc lv (.int x :: st) σ := by
  intro p e s m args below meth c H locs ls C0 he hR hS hl
  obtain ⟨hx, hb, -⟩ := id C0
  exact lv_i2l hx hb hd rfl (k p e s m args below meth c H locs ls C0 he hR hS hl)

set_option maxHeartbeats 1000000 in
theorem T_l2i {x : Int64} (hd : decode cc pc = .ok (.l2i, 1))
    (k : T l G own cc nL rm E Qs cs sl (pc + 1) lv (.int x.toInt32 :: st) σ) : T l G own cc nL rm E Qs cs sl pc lv (.long x :: st) σ := by
  intro p e s m args below meth c H locs ls C0 he hR hS hl
  obtain ⟨hx, hb, -⟩ := id C0
  exact lv_l2i hx hb hd rfl (k p e s m args below meth c H locs ls C0 he hR hS hl)

set_option maxHeartbeats 1000000 in
theorem T_lushr {x : Int64} {y : Int32} (hd : decode cc pc = .ok (.lushr, 1))
    (k : T l G own cc nL rm E Qs cs sl (pc + 1) lv (.long (x.toUInt64 >>> (y.toInt64.toUInt64 &&& Int64.toUInt64 63)).toInt64 :: st) σ) : T l G own cc nL rm E Qs cs sl pc lv (.int y :: .long x :: st) σ := by
  intro p e s m args below meth c H locs ls C0 he hR hS hl
  obtain ⟨hx, hb, -⟩ := id C0
  exact lv_lushr hx hb hd rfl (k p e s m args below meth c H locs ls C0 he hR hS hl)

set_option maxHeartbeats 1000000 in
theorem T_lshl {x : Int64} {y : Int32} (hd : decode cc pc = .ok (.lshl, 1))
    (k : T l G own cc nL rm E Qs cs sl (pc + 1) lv (.long (x <<< (y.toInt64 &&& 63)) :: st) σ) : T l G own cc nL rm E Qs cs sl pc lv (.int y :: .long x :: st) σ := by
  intro p e s m args below meth c H locs ls C0 he hR hS hl
  obtain ⟨hx, hb, -⟩ := id C0
  exact lv_lshl hx hb hd rfl (k p e s m args below meth c H locs ls C0 he hR hS hl)

set_option maxHeartbeats 1000000 in
theorem T_lcmp {x y : Int64} (hd : decode cc pc = .ok (.lcmp, 1))
    (k : T l G own cc nL rm E Qs cs sl (pc + 1) lv (.int (lg_cmp x y) :: st) σ) : T l G own cc nL rm E Qs cs sl pc lv (.long y :: .long x :: st) σ := by
  intro p e s m args below meth c H locs ls C0 he hR hS hl
  obtain ⟨hx, hb, -⟩ := id C0
  exact W.lcmp hx hb hd (k p e s m args below meth c H locs ls C0 he hR hS hl)

set_option maxHeartbeats 1000000 in
theorem T_dup {va : Value} (hd : decode cc pc = .ok (.dup, 1)) (hva : va.category = 1)
    (k : T l G own cc nL rm E Qs cs sl (pc + 1) lv (va :: va :: st) σ) : T l G own cc nL rm E Qs cs sl pc lv (va :: st) σ := by
  intro p e s m args below meth c H locs ls C0 he hR hS hl
  obtain ⟨hx, hb, -⟩ := id C0
  exact lv_dup hx hb hd hva (k p e s m args below meth c H locs ls C0 he hR hS hl)

set_option maxHeartbeats 1000000 in
theorem T_pop {va : Value} (hd : decode cc pc = .ok (.pop, 1)) (hva : va.category = 1)
    (k : T l G own cc nL rm E Qs cs sl (pc + 1) lv st σ) : T l G own cc nL rm E Qs cs sl pc lv (va :: st) σ := by
  intro p e s m args below meth c H locs ls C0 he hR hS hl
  obtain ⟨hx, hb, -⟩ := id C0
  exact lv_pop hx hb hd hva (k p e s m args below meth c H locs ls C0 he hR hS hl)

set_option maxHeartbeats 1000000 in
theorem T_dup2 {va vb : Value} (hd : decode cc pc = .ok (.dup2, 1)) (hva : va.category = 1) (hvb : vb.category = 1)
    (k : T l G own cc nL rm E Qs cs sl (pc + 1) lv (va :: vb :: va :: vb :: st) σ) : T l G own cc nL rm E Qs cs sl pc lv (va :: vb :: st) σ := by
  intro p e s m args below meth c H locs ls C0 he hR hS hl
  obtain ⟨hx, hb, -⟩ := id C0
  exact lv_dup2_11 hx hb hd hva hvb (k p e s m args below meth c H locs ls C0 he hR hS hl)

set_option maxHeartbeats 1000000 in
theorem T_idiv {α : Type} {inj : α → Option Value × Hp} {P : Option Value → Hp → Prop} {x y : Int32} {f : Int32 → Option α} (hd : decode cc pc = .ok (.idiv, 1)) (h : OK inj ((divI x y).bind f) P)
    (k : ∀ z : Int32, OK inj (f z) P → T l G own cc nL rm E Qs cs sl (pc + 1) lv (.int z :: st) σ) : T l G own cc nL rm E Qs cs sl pc lv (.int y :: .int x :: st) σ := by
  obtain ⟨z, hz, h⟩ := h.bind
  have hne : ¬ y = 0 := fun q => by simp [divI, q] at hz
  have hz : z = x / y := by simpa [divI, hne] using hz.symm
  intro p e s m args below meth c H locs ls C0 he hR hS hl
  obtain ⟨hx, hb, -⟩ := id C0
  subst hz
  exact lv_idiv hx hb hd hne ((k _ h) p e s m args below meth c H locs ls C0 he hR hS hl)

set_option maxHeartbeats 1000000 in
theorem T_irem {α : Type} {inj : α → Option Value × Hp} {P : Option Value → Hp → Prop} {x y : Int32} {f : Int32 → Option α} (hd : decode cc pc = .ok (.irem, 1)) (h : OK inj ((remI x y).bind f) P)
    (k : ∀ z : Int32, OK inj (f z) P → T l G own cc nL rm E Qs cs sl (pc + 1) lv (.int z :: st) σ) : T l G own cc nL rm E Qs cs sl pc lv (.int y :: .int x :: st) σ := by
  obtain ⟨z, hz, h⟩ := h.bind
  have hne : ¬ y = 0 := fun q => by simp [remI, q] at hz
  have hz : z = x - x / y * y := by simpa [remI, hne] using hz.symm
  intro p e s m args below meth c H locs ls C0 he hR hS hl
  obtain ⟨hx, hb, -⟩ := id C0
  subst hz
  exact lv_irem hx hb hd hne ((k _ h) p e s m args below meth c H locs ls C0 he hR hS hl)

set_option maxHeartbeats 1000000 in
theorem T_if_eq {α : Type} {inj : α → Option Value × Hp} {P : Option Value → Hp → Prop} {x : Int32} {A B : Option α} {off : Int} (tgt : Nat) (hd : decode cc pc = .ok (.ifCond .eq off, 3)) (ht : (pc : Int) + off = (tgt : Int)) (h : OK inj (if x = 0 then A else B) P)
    (kt : x = 0 → OK inj A P → T l G own cc nL rm E Qs cs sl tgt lv st σ) (kf : ¬ (x = 0) → OK inj B P → T l G own cc nL rm E Qs cs sl (pc + 3) lv st σ) : T l G own cc nL rm E Qs cs sl pc lv (.int x :: st) σ := by
  intro p e s m args below meth c H locs ls C0 he hR hS hl
  obtain ⟨hx, hb, -⟩ := id C0
  exact lv_if_eq hx hb hd ht (fun z => kt z (by rwa [if_pos z] at h) p e s m args below meth c H locs ls C0 he hR hS hl) (fun z => kf z (by rwa [if_neg z] at h) p e s m args below meth c H locs ls C0 he hR hS hl)

set_option maxHeartbeats 1000000 in
theorem T_icmp_eq {α : Type} {inj : α → Option Value × Hp} {P : Option Value → Hp → Prop} {x y : Int32} {A B : Option α} {off : Int} (tgt : Nat) (hd : decode cc pc = .ok (.if_icmp .eq off, 3)) (ht : (pc : Int) + off = (tgt : Int)) (h : OK inj (if x = y then A else B) P)
    (kt : x = y → OK inj A P → T l G own cc nL rm E Qs cs sl tgt lv st σ) (kf : ¬ (x = y) → OK inj B P → T l G own cc nL rm E Qs cs sl (pc + 3) lv st σ) : T l G own cc nL rm E Qs cs sl pc lv (.int y :: .int x :: st) σ := by
  intro p e s m args below meth c H locs ls C0 he hR hS hl
  obtain ⟨hx, hb, -⟩ := id C0
  exact lv_icmp_eq hx hb hd ht (fun z => kt z (by rwa [if_pos z] at h) p e s m args below meth c H locs ls C0 he hR hS hl) (fun z => kf z (by rwa [if_neg z] at h) p e s m args below meth c H locs ls C0 he hR hS hl)

set_option maxHeartbeats 1000000 in
theorem T_if_ne {α : Type} {inj : α → Option Value × Hp} {P : Option Value → Hp → Prop} {x : Int32} {A B : Option α} {off : Int} (tgt : Nat) (hd : decode cc pc = .ok (.ifCond .ne off, 3)) (ht : (pc : Int) + off = (tgt : Int)) (h : OK inj (if x = 0 then B else A) P)
    (kt : ¬ (x = 0) → OK inj A P → T l G own cc nL rm E Qs cs sl tgt lv st σ) (kf : x = 0 → OK inj B P → T l G own cc nL rm E Qs cs sl (pc + 3) lv st σ) : T l G own cc nL rm E Qs cs sl pc lv (.int x :: st) σ := by
  intro p e s m args below meth c H locs ls C0 he hR hS hl
  obtain ⟨hx, hb, -⟩ := id C0
  exact lv_if_ne hx hb hd ht (fun z => kt z (by rwa [if_neg z] at h) p e s m args below meth c H locs ls C0 he hR hS hl) (fun z => kf z (by rwa [if_pos z] at h) p e s m args below meth c H locs ls C0 he hR hS hl)

set_option maxHeartbeats 1000000 in
theorem T_icmp_ne {α : Type} {inj : α → Option Value × Hp} {P : Option Value → Hp → Prop} {x y : Int32} {A B : Option α} {off : Int} (tgt : Nat) (hd : decode cc pc = .ok (.if_icmp .ne off, 3)) (ht : (pc : Int) + off = (tgt : Int)) (h : OK inj (if x = y then B else A) P)
    (kt : ¬ (x = y) → OK inj A P → T l G own cc nL rm E Qs cs sl tgt lv st σ) (kf : x = y → OK inj B P → T l G own cc nL rm E Qs cs sl (pc + 3) lv st σ) : T l G own cc nL rm E Qs cs sl pc lv (.int y :: .int x :: st) σ := by
  intro p e s m args below meth c H locs ls C0 he hR hS hl
  obtain ⟨hx, hb, -⟩ := id C0
  exact lv_icmp_ne hx hb hd ht (fun z => kt z (by rwa [if_neg z] at h) p e s m args below meth c H locs ls C0 he hR hS hl) (fun z => kf z (by rwa [if_pos z] at h) p e s m args below meth c H locs ls C0 he hR hS hl)

set_option maxHeartbeats 1000000 in
theorem T_if_lt {α : Type} {inj : α → Option Value × Hp} {P : Option Value → Hp → Prop} {x : Int32} {A B : Option α} {off : Int} (tgt : Nat) (hd : decode cc pc = .ok (.ifCond .lt off, 3)) (ht : (pc : Int) + off = (tgt : Int)) (h : OK inj (if x < 0 then A else B) P)
    (kt : x < 0 → OK inj A P → T l G own cc nL rm E Qs cs sl tgt lv st σ) (kf : ¬ (x < 0) → OK inj B P → T l G own cc nL rm E Qs cs sl (pc + 3) lv st σ) : T l G own cc nL rm E Qs cs sl pc lv (.int x :: st) σ := by
  intro p e s m args below meth c H locs ls C0 he hR hS hl
  obtain ⟨hx, hb, -⟩ := id C0
  exact lv_if_lt hx hb hd ht (fun z => kt z (by rwa [if_pos z] at h) p e s m args below meth c H locs ls C0 he hR hS hl) (fun z => kf z (by rwa [if_neg z] at h) p e s m args below meth c H locs ls C0 he hR hS hl)

set_option maxHeartbeats 1000000 in
theorem T_icmp_lt {α : Type} {inj : α → Option Value × Hp} {P : Option Value → Hp → Prop} {x y : Int32} {A B : Option α} {off : Int} (tgt : Nat) (hd : decode cc pc = .ok (.if_icmp .lt off, 3)) (ht : (pc : Int) + off = (tgt : Int)) (h : OK inj (if x < y then A else B) P)
    (kt : x < y → OK inj A P → T l G own cc nL rm E Qs cs sl tgt lv st σ) (kf : ¬ (x < y) → OK inj B P → T l G own cc nL rm E Qs cs sl (pc + 3) lv st σ) : T l G own cc nL rm E Qs cs sl pc lv (.int y :: .int x :: st) σ := by
  intro p e s m args below meth c H locs ls C0 he hR hS hl
  obtain ⟨hx, hb, -⟩ := id C0
  exact lv_icmp_lt hx hb hd ht (fun z => kt z (by rwa [if_pos z] at h) p e s m args below meth c H locs ls C0 he hR hS hl) (fun z => kf z (by rwa [if_neg z] at h) p e s m args below meth c H locs ls C0 he hR hS hl)

set_option maxHeartbeats 1000000 in
theorem T_if_ge {α : Type} {inj : α → Option Value × Hp} {P : Option Value → Hp → Prop} {x : Int32} {A B : Option α} {off : Int} (tgt : Nat) (hd : decode cc pc = .ok (.ifCond .ge off, 3)) (ht : (pc : Int) + off = (tgt : Int)) (h : OK inj (if 0 ≤ x then A else B) P)
    (kt : 0 ≤ x → OK inj A P → T l G own cc nL rm E Qs cs sl tgt lv st σ) (kf : ¬ (0 ≤ x) → OK inj B P → T l G own cc nL rm E Qs cs sl (pc + 3) lv st σ) : T l G own cc nL rm E Qs cs sl pc lv (.int x :: st) σ := by
  intro p e s m args below meth c H locs ls C0 he hR hS hl
  obtain ⟨hx, hb, -⟩ := id C0
  exact lv_if_ge hx hb hd ht (fun z => kt z (by rwa [if_pos z] at h) p e s m args below meth c H locs ls C0 he hR hS hl) (fun z => kf z (by rwa [if_neg z] at h) p e s m args below meth c H locs ls C0 he hR hS hl)

set_option maxHeartbeats 1000000 in
theorem T_icmp_ge {α : Type} {inj : α → Option Value × Hp} {P : Option Value → Hp → Prop} {x y : Int32} {A B : Option α} {off : Int} (tgt : Nat) (hd : decode cc pc = .ok (.if_icmp .ge off, 3)) (ht : (pc : Int) + off = (tgt : Int)) (h : OK inj (if y ≤ x then A else B) P)
    (kt : y ≤ x → OK inj A P → T l G own cc nL rm E Qs cs sl tgt lv st σ) (kf : ¬ (y ≤ x) → OK inj B P → T l G own cc nL rm E Qs cs sl (pc + 3) lv st σ) : T l G own cc nL rm E Qs cs sl pc lv (.int y :: .int x :: st) σ := by
  intro p e s m args below meth c H locs ls C0 he hR hS hl
  obtain ⟨hx, hb, -⟩ := id C0
  exact lv_icmp_ge hx hb hd ht (fun z => kt z (by rwa [if_pos z] at h) p e s m args below meth c H locs ls C0 he hR hS hl) (fun z => kf z (by rwa [if_neg z] at h) p e s m args below meth c H locs ls C0 he hR hS hl)

set_option maxHeartbeats 1000000 in
theorem T_if_gt {α : Type} {inj : α → Option Value × Hp} {P : Option Value → Hp → Prop} {x : Int32} {A B : Option α} {off : Int} (tgt : Nat) (hd : decode cc pc = .ok (.ifCond .gt off, 3)) (ht : (pc : Int) + off = (tgt : Int)) (h : OK inj (if 0 < x then A else B) P)
    (kt : 0 < x → OK inj A P → T l G own cc nL rm E Qs cs sl tgt lv st σ) (kf : ¬ (0 < x) → OK inj B P → T l G own cc nL rm E Qs cs sl (pc + 3) lv st σ) : T l G own cc nL rm E Qs cs sl pc lv (.int x :: st) σ := by
  intro p e s m args below meth c H locs ls C0 he hR hS hl
  obtain ⟨hx, hb, -⟩ := id C0
  exact lv_if_gt hx hb hd ht (fun z => kt z (by rwa [if_pos z] at h) p e s m args below meth c H locs ls C0 he hR hS hl) (fun z => kf z (by rwa [if_neg z] at h) p e s m args below meth c H locs ls C0 he hR hS hl)

set_option maxHeartbeats 1000000 in
theorem T_icmp_gt {α : Type} {inj : α → Option Value × Hp} {P : Option Value → Hp → Prop} {x y : Int32} {A B : Option α} {off : Int} (tgt : Nat) (hd : decode cc pc = .ok (.if_icmp .gt off, 3)) (ht : (pc : Int) + off = (tgt : Int)) (h : OK inj (if y < x then A else B) P)
    (kt : y < x → OK inj A P → T l G own cc nL rm E Qs cs sl tgt lv st σ) (kf : ¬ (y < x) → OK inj B P → T l G own cc nL rm E Qs cs sl (pc + 3) lv st σ) : T l G own cc nL rm E Qs cs sl pc lv (.int y :: .int x :: st) σ := by
  intro p e s m args below meth c H locs ls C0 he hR hS hl
  obtain ⟨hx, hb, -⟩ := id C0
  exact lv_icmp_gt hx hb hd ht (fun z => kt z (by rwa [if_pos z] at h) p e s m args below meth c H locs ls C0 he hR hS hl) (fun z => kf z (by rwa [if_neg z] at h) p e s m args below meth c H locs ls C0 he hR hS hl)

set_option maxHeartbeats 1000000 in
theorem T_if_le {α : Type} {inj : α → Option Value × Hp} {P : Option Value → Hp → Prop} {x : Int32} {A B : Option α} {off : Int} (tgt : Nat) (hd : decode cc pc = .ok (.ifCond .le off, 3)) (ht : (pc : Int) + off = (tgt : Int)) (h : OK inj (if x ≤ 0 then A else B) P)
    (kt : x ≤ 0 → OK inj A P → T l G own cc nL rm E Qs cs sl tgt lv st σ) (kf : ¬ (x ≤ 0) → OK inj B P → T l G own cc nL rm E Qs cs sl (pc + 3) lv st σ) : T l G own cc nL rm E Qs cs sl pc lv (.int x :: st) σ := by
  intro p e s m args below meth c H locs ls C0 he hR hS hl
  obtain ⟨hx, hb, -⟩ := id C0
  exact lv_if_le hx hb hd ht (fun z => kt z (by rwa [if_pos z] at h) p e s m args below meth c H locs ls C0 he hR hS hl) (fun z => kf z (by rwa [if_neg z] at h) p e s m args below meth c H locs ls C0 he hR hS hl)

set_option maxHeartbeats 1000000 in
theorem T_icmp_le {α : Type} {inj : α → Option Value × Hp} {P : Option Value → Hp → Prop} {x y : Int32} {A B : Option α} {off : Int} (tgt : Nat) (hd : decode cc pc = .ok (.if_icmp .le off, 3)) (ht : (pc : Int) + off = (tgt : Int)) (h : OK inj (if x ≤ y then A else B) P)
    (kt : x ≤ y → OK inj A P → T l G own cc nL rm E Qs cs sl tgt lv st σ) (kf : ¬ (x ≤ y) → OK inj B P → T l G own cc nL rm E Qs cs sl (pc + 3) lv st σ) : T l G own cc nL rm E Qs cs sl pc lv (.int y :: .int x :: st) σ := by
  intro p e s m args below meth c H locs ls C0 he hR hS hl
  obtain ⟨hx, hb, -⟩ := id C0
  exact lv_icmp_le hx hb hd ht (fun z => kt z (by rwa [if_pos z] at h) p e s m args below meth c H locs ls C0 he hR hS hl) (fun z => kf z (by rwa [if_neg z] at h) p e s m args below meth c H locs ls C0 he hR hS hl)

set_option maxHeartbeats 1000000 in
theorem T_goto {off : Int} (tgt : Nat) (hd : decode cc pc = .ok (.goto off, 3)) (ht : (pc : Int) + off = (tgt : Int))
    (k : T l G own cc nL rm E Qs cs sl tgt lv st σ) : T l G own cc nL rm E Qs cs sl pc lv st σ := by
  intro p e s m args below meth c H locs ls C0 he hR hS hl
  obtain ⟨hx, hb, -⟩ := id C0
  exact lv_goto hx hb hd ht (k p e s m args below meth c H locs ls C0 he hR hS hl)

set_option maxHeartbeats 1000000 in
theorem T_ifnull {x : Nat} {off : Int} (hd : decode cc pc = .ok (.ifnull off, 3))
    (k : T l G own cc nL rm E Qs cs sl (pc + 3) lv st σ) : T l G own cc nL rm E Qs cs sl pc lv (.ref x :: st) σ := by
  intro p e s m args below meth c H locs ls C0 he hR hS hl
  obtain ⟨hx, hb, -⟩ := id C0
  exact lv_ifnull hx hb hd (k p e s m args below meth c H locs ls C0 he hR hS hl)

set_option maxHeartbeats 1000000 in
theorem T_ifnullN {off : Int} (tgt : Nat) (hd : decode cc pc = .ok (.ifnull off, 3)) (ht : (pc : Int) + off = (tgt : Int))
    (k : T l G own cc nL rm E Qs cs sl tgt lv st σ) : T l G own cc nL rm E Qs cs sl pc lv (.null :: st) σ := by
  intro p e s m args below meth c H locs ls C0 he hR hS hl
  obtain ⟨hx, hb, -⟩ := id C0
  exact lv_ifnullN hx hb hd ht (k p e s m args below meth c H locs ls C0 he hR hS hl)

set_option maxHeartbeats 1000000 in
theorem T_tableIn {x : Int32} {dflt lo hi off : Int} {offs : Array Int} {len : Nat} (tgt : Nat) (hd : decode cc pc = .ok (.tableswitch dflt lo hi offs, len)) (h1 : ¬ x.toInt < lo) (h2 : ¬ hi < x.toInt) (ho : offs[(x.toInt - lo).toNat]? = some off) (ht : (pc : Int) + off = (tgt : Int))
    (k : T l G own cc nL rm E Qs cs sl tgt lv st σ) : T l G own cc nL rm E Qs cs sl pc lv (.int x :: st) σ := by
  intro p e s m args below meth c H locs ls C0 he hR hS hl
  obtain ⟨hx, hb, -⟩ := id C0
  exact lv_tableIn hx hb hd h1 h2 ho ht (k p e s m args below meth c H locs ls C0 he hR hS hl)

set_option maxHeartbeats 1000000 in
theorem T_tableOut {x : Int32} {dflt lo hi : Int} {offs : Array Int} {len : Nat} (tgt : Nat) (hd : decode cc pc = .ok (.tableswitch dflt lo hi offs, len)) (h : x.toInt < lo ∨ hi < x.toInt) (ht : (pc : Int) + dflt = (tgt : Int))
    (k : T l G own cc nL rm E Qs cs sl tgt lv st σ) : T l G own cc nL rm E Qs cs sl pc lv (.int x :: st) σ := by
  intro p e s m args below meth c H locs ls C0 he hR hS hl
  obtain ⟨hx, hb, -⟩ := id C0
  exact lv_tableOut hx hb hd h ht (k p e s m args below meth c H locs ls C0 he hR hS hl)

set_option maxHeartbeats 1000000 in
theorem T_lookup {x : Int32} {dflt off : Int} {ps : Array (Int × Int)} {len : Nat} (tgt : Nat) (hd : decode cc pc = .ok (.lookupswitch dflt ps, len)) (hp : (ps.toList.zip (ps.toList.drop 1)).all (fun (a, next) => a.1 < next.1) = true) (ho : Op.lookupswitch.offset ps.toList dflt x.toInt = off) (ht : (pc : Int) + off = (tgt : Int))
    (k : T l G own cc nL rm E Qs cs sl tgt lv st σ) : T l G own cc nL rm E Qs cs sl pc lv (.int x :: st) σ := by
  intro p e s m args below meth c H locs ls C0 he hR hS hl
  obtain ⟨hx, hb, -⟩ := id C0
  exact lv_lookup hx hb hd hp ho ht (k p e s m args below meth c H locs ls C0 he hR hS hl)

/-! fields -/
def sm_FL (own : String) (index ci k : Nat) : Prop := ∃ q : vw_C, vwCl[ci]? = some q ∧ k < q.2.2 ∧ (∀ w ∈ u_ws q.1 q.2.1 q.2.2, w ∈ wsL_law) ∧ Cond.fieldLink own index (q.2.1 k).1 (q.2.1 k).2.1 (q.2.1 k).2.2.1 ∈ wsL_law
def sm_FT (ci k : Nat) (ty : FieldType) (fin : Bool) : Prop := ∃ (q : vw_C) (tyf : Nat → FieldType), vwCl[ci]? = some q ∧ (∀ k, k < q.2.2 → parseFieldDescriptor (q.2.1 k).2.2.1 = some (tyf k)) ∧ (∀ a, a < q.2.2 → ∀ b, b < q.2.2 → a ≠ b → (q.2.1 a).2.1 ≠ (q.2.1 b).2.1) ∧ tyf k = ty ∧ (q.2.1 k).2.2.2 = fin
set_option maxHeartbeats 1000000 in
theorem getV_spec {a c k : Nat} {v : Value} (h : getV σ a c k = some v) : ∃ fs, σ.2 a = some (.inr (.inr (c, fs))) ∧ fs[k]? = some v := by
  unfold getV at h
  split at h
  · rename_i o ho
    split at h
    · rename_i hc
      subst hc
      exact ⟨o.2, ho, h⟩
    · cases h
  · cases h
set_option maxHeartbeats 1000000 in
theorem getI_spec {a c k : Nat} {x : Int32} (h : getI σ a c k = some x) : getV σ a c k = some (.int x) := by
  unfold getI at h
  split at h
  · rename_i y hy
    cases h
    exact hy
  · cases h
set_option maxHeartbeats 1000000 in
theorem getR_spec {a c k : Nat} {x : Nat} (h : getR σ a c k = some x) : getV σ a c k = some (.ref x) := by
  unfold getR at h
  split at h
  · rename_i y hy
    cases h
    exact hy
  · cases h
set_option maxHeartbeats 1000000 in
theorem putV_spec {a c k : Nat} {v : Value} {σ' : Hp} (h : putV σ a c k v = some σ') : ∃ fs, σ.2 a = some (.inr (.inr (c, fs))) ∧ k < fs.length ∧ σ' = setC σ a (.inr (.inr (c, fs.set k v))) := by
  unfold putV at h
  split at h
  · rename_i o ho
    split at h
    · rename_i hc
      obtain ⟨hc, hk⟩ := hc
      subst hc
      exact ⟨o.2, ho, hk, (Option.some.inj h).symm⟩
    · cases h
  · cases h
set_option maxHeartbeats 1000000 in
theorem isO_spec {a c : Nat} {u : Unit} (h : isO σ a c = some u) : ∃ fs, σ.2 a = some (.inr (.inr (c, fs))) := by
  unfold isO at h
  split at h
  · rename_i o ho
    split at h
    · rename_i hc
      subst hc
      exact ⟨o.2, ho⟩
    · cases h
  · cases h
set_option maxHeartbeats 1000000 in
theorem T_getV {a ci k index : Nat} {v : Value} (hd : decode cc pc = .ok (.getfield index, 3)) (hF : sm_FL own index ci k) (hv : getV σ a ci k = some v)
    (kk : T l G own cc nL rm E Qs cs sl (pc + 3) lv (v :: st) σ) : T l G own cc nL rm E Qs cs sl pc lv (.ref a :: st) σ := by
  intro p e s m args below meth c H locs ls C0 he hR hS hl
  obtain ⟨hx, hb, hml, hown, hts, hK⟩ := id C0
  obtain ⟨q, hq, hk, hin, hlk⟩ := hF
  obtain ⟨fs, hfs, hv⟩ := getV_spec hv
  have hP : va_P G.1 vwCl [(a, .inr (ci, fs))] H := fun j z hz => by
    have hj : j < 1 := (List.getElem?_eq_some_iff.mp hz).1
    rw [show j = 0 by omega] at hz
    cases hz
    exact (hR.2.2 a _ hfs).2
  exact va_get (ci := ci) hx hb hts hin hown hK.1 hP 0 rfl hq k hk (hts _ hlk) (fun _ h9 => h9) hv hd (kk p e s m args below meth c H locs ls C0 he hR hS hl)
set_option maxHeartbeats 1000000 in
theorem T_getI {α : Type} {inj : α → Option Value × Hp} {P : Option Value → Hp → Prop} {a ci k index : Nat} {f : Int32 → Option α} (hd : decode cc pc = .ok (.getfield index, 3)) (hF : sm_FL own index ci k) (h : OK inj ((getI σ a ci k).bind f) P)
    (kk : ∀ x : Int32, OK inj (f x) P → T l G own cc nL rm E Qs cs sl (pc + 3) lv (.int x :: st) σ) : T l G own cc nL rm E Qs cs sl pc lv (.ref a :: st) σ := by
  obtain ⟨x, hx, h⟩ := h.bind
  exact T_getV hd hF (getI_spec hx) (kk x h)
set_option maxHeartbeats 1000000 in
theorem T_getR {α : Type} {inj : α → Option Value × Hp} {P : Option Value → Hp → Prop} {a ci k index : Nat} {f : Nat → Option α} (hd : decode cc pc = .ok (.getfield index, 3)) (hF : sm_FL own index ci k) (h : OK inj ((getR σ a ci k).bind f) P)
    (kk : ∀ x : Nat, OK inj (f x) P → T l G own cc nL rm E Qs cs sl (pc + 3) lv (.ref x :: st) σ) : T l G own cc nL rm E Qs cs sl pc lv (.ref a :: st) σ := by
  obtain ⟨x, hx, h⟩ := h.bind
  exact T_getV hd hF (getR_spec hx) (kk x h)
set_option maxHeartbeats 1000000 in
theorem sm_apart {s : State} {args : Array Value} {q : vw_C} {ci : Nat} {tyf : Nat → FieldType} (hts : ∀ w ∈ wsL_law, w.before args s = true) (hK : sm_K G s) (hq : vwCl[ci]? = some q) (hin : ∀ w ∈ u_ws q.1 q.2.1 q.2.2, w ∈ wsL_law) (hty : ∀ k, k < q.2.2 → parseFieldDescriptor (q.2.1 k).2.2.1 = some (tyf k)) (hnm : ∀ a, a < q.2.2 → ∀ b, b < q.2.2 → a ≠ b → (q.2.1 a).2.1 ≠ (q.2.1 b).2.1) : ∀ x y, x < q.2.2 → y < q.2.2 → x ≠ y → (G.1.2 ci) x ≠ (G.1.2 ci) y :=
  va_apart (own := "") hts hin tyf hty hnm hK.1 hq
set_option maxHeartbeats 1000000 in
theorem T_putV {a ci k index : Nat} {v : Value} {ty : FieldType} {σ' : Hp} (hd : decode cc pc = .ok (.putfield index, 3)) (hF : sm_FL own index ci k) (hT : sm_FT ci k ty false) (hn : narrow ty v = v) (hfit : fits ty v = true) (hv : putV σ a ci k v = some σ')
    (kk : T l G own cc nL rm E Qs cs sl (pc + 3) lv st σ') : T l G own cc nL rm E Qs cs sl pc lv (v :: .ref a :: st) σ := by
  intro p e s m args below meth c H locs ls C0 he hR hS hl
  obtain ⟨hx, hb, hml, hown, hts, hK⟩ := id C0
  obtain ⟨q, hq, hk, hin, hlk⟩ := hF
  obtain ⟨q', tyf, hq', hty, hnm, hte, hfin⟩ := hT
  cases hq.symm.trans hq'
  obtain ⟨fs, hfs, hlen, rfl⟩ := putV_spec hv
  have hap := sm_apart hts hK hq hin hty hnm
  have hat := hR.2.2 a _ hfs
  obtain ⟨hoa, r, h1, cell, q1, q2, q3, q4⟩ := hat
  cases h1.symm.trans hq
  obtain ⟨hSl, hfc, kC, hkC, hkind⟩ := hK.1.1 ci _ hq
  obtain ⟨cf, kf, fi, fd, hi, hsl⟩ := hSl k hk
  have hlay := hts _ (hin _ (u_in_lay hk))
  unfold u_lay at hlay
  rw [if_neg (by rw [hfin]; decide)] at hlay
  have hst := (u_facts hfc hkC (u_lays hts hin hk) hi).1
  have h6 := u_store hfc hkC hkind hlay hi (by rw [← hte]; exact hty k hk) hn hfit
  refine W.putK hx hb (f := fd) ⟨hown, hts _ hlk, ⟨_, _, _, hi⟩, hst⟩ (by rw [q2]; exact h6) q1 q3 (by rw [hsl]; exact k2_hasslot (q4 k hk)) rfl rfl hd fun H' e1 e2 e3 => ?_
  rw [hsl] at e1 ⊢
  exact kk p e s m args below meth c H' _ ls C0 he (hR.set hfs e2 e3 ⟨_, hq, t_OB.to (V := updV (vp_V fs) k v) ⟨_, e1, q2, q3, t_set q4 hap hk v⟩ (fun j _ => vp_updV_set hlen v j)⟩) (hS.put hoa e3) hl
set_option maxHeartbeats 1000000 in
theorem T_putI {α : Type} {inj : α → Option Value × Hp} {P : Option Value → Hp → Prop} {a ci k index : Nat} {x : Int32} {f : Hp → Option α} (hd : decode cc pc = .ok (.putfield index, 3)) (hF : sm_FL own index ci k) (hT : sm_FT ci k .int false) (h : OK inj ((putI σ a ci k x).bind f) P)
    (kk : ∀ σ' : Hp, OK inj (f σ') P → T l G own cc nL rm E Qs cs sl (pc + 3) lv st σ') : T l G own cc nL rm E Qs cs sl pc lv (.int x :: .ref a :: st) σ := by
  obtain ⟨σ', hx, h⟩ := h.bind
  exact T_putV hd hF hT rfl rfl hx (kk σ' h)
set_option maxHeartbeats 1000000 in
theorem T_putZ {α : Type} {inj : α → Option Value × Hp} {P : Option Value → Hp → Prop} {a ci k index : Nat} {x : Int32} {f : Hp → Option α} (hd : decode cc pc = .ok (.putfield index, 3)) (hF : sm_FL own index ci k) (hT : sm_FT ci k .boolean false) (h : OK inj ((putZ σ a ci k x).bind f) P)
    (kk : ∀ σ' : Hp, OK inj (f σ') P → T l G own cc nL rm E Qs cs sl (pc + 3) lv st σ') : T l G own cc nL rm E Qs cs sl pc lv (.int x :: .ref a :: st) σ := by
  obtain ⟨σ', hx, hok⟩ := h.bind
  clear h
  unfold putZ at hx
  split at hx
  · rename_i hz
    have hn : narrow .boolean (.int x) = .int x := by rcases hz with rfl | rfl <;> decide
    have hf : fits .boolean (.int x) = true := by rcases hz with rfl | rfl <;> decide
    exact T_putV hd hF hT hn hf hx (kk σ' hok)
  · cases hx

set_option maxHeartbeats 1000000 in
theorem T_putF {a ci k index : Nat} {v : Value} {ty : FieldType} {rt : Option FieldType} {α : Type} {inj : α → Option Value × Hp} {P : Option Value → Hp → Prop} {f : Hp → Option α} (hE : E = sm_E rt "<init>") (hd : decode cc pc = .ok (.putfield index, 3)) (hF : sm_FL own index ci k) (hT : sm_FT ci k ty true) (hown1 : ((vwCl[ci]?).map fun q => (q.2.1 k).1) = some own) (hn : narrow ty v = v) (hfit : fits ty v = true) (h : OK inj ((putV σ a ci k v).bind f) P)
    (kk : ∀ σ' : Hp, OK inj (f σ') P → T l G own cc nL rm E Qs cs sl (pc + 3) lv st σ') : T l G own cc nL rm E Qs cs sl pc lv (v :: .ref a :: st) σ := by
  obtain ⟨σ', hv, h⟩ := h.bind
  intro p e s m args below meth c H locs ls C0 he hR hS hl
  obtain ⟨hx, hb, hml, hown, hts, hK⟩ := id C0
  have hin2 : meth.name = "<init>" := by
    have he2 := he
    rw [hE] at he2
    exact he2.2.2
  obtain ⟨q, hq, hk, hin, hlk⟩ := hF
  obtain ⟨q', tyf, hq', hty, hnm, hte, hfin⟩ := hT
  cases hq.symm.trans hq'
  obtain ⟨fs, hfs, hlen, rfl⟩ := putV_spec hv
  have hdecl : (q.2.1 k).1 = own := by
    rw [hq] at hown1
    exact Option.some.inj hown1
  have hap := sm_apart hts hK hq hin hty hnm
  have hat := hR.2.2 a _ hfs
  obtain ⟨hoa, r, h1, cell, q1, q2, q3, q4⟩ := hat
  cases h1.symm.trans hq
  obtain ⟨hSl, hfc, kC, hkC, hkind⟩ := hK.1.1 ci _ hq
  obtain ⟨cf, kf, fi, fd, hi, hsl⟩ := hSl k hk
  have hlay := hts _ (hin _ (u_in_lay hk))
  unfold u_lay at hlay
  rw [if_pos hfin] at hlay
  have hst := (u_facts hfc hkC (u_lays hts hin hk) hi).1
  have hcf : m.cls = cf := by
    obtain ⟨_, _, c', _, _, _, -, -, hf', -, -, -, hown2, -⟩ := Cond.laysFinal_spec hlay
    have e1 : c' = cf := by have := hi.symm.trans hf'; simp at this; exact this.1.symm
    rw [hdecl] at hown2
    rw [← e1]; exact Option.some.inj (hown.symm.trans hown2)
  have h6 := u_fits hfc hkC hkind (Or.inr hlay) hi (by rw [← hte]; exact hty k hk) hn hfit
  refine W.putFinK hx hb hown (hts _ hlk) hi hst hcf hin2 (by rw [q2]; exact h6) q1 q3 (by rw [hsl]; exact k2_hasslot (q4 k hk)) rfl rfl hd fun H' e1 e2 e3 => ?_
  rw [hsl] at e1 ⊢
  exact kk _ h p e s m args below meth c H' _ ls C0 he (hR.set hfs e2 e3 ⟨_, hq, t_OB.to (V := updV (vp_V fs) k v) ⟨_, e1, q2, q3, t_set q4 hap hk v⟩ (fun j _ => vp_updV_set hlen v j)⟩) (hS.put hoa e3) hl
/-! arrays -/
set_option maxHeartbeats 1000000 in
theorem sm_in {i : Int32} {n : Nat} (h : 0 ≤ i.toInt ∧ i.toInt < n) : vp_in i n := vp_in_iff.mpr h
set_option maxHeartbeats 1000000 in
theorem ldI_spec {a : Nat} {i x : Int32} (h : ldI σ a i = some x) : ∃ n f, σ.2 a = some (.inl (n, f)) ∧ vp_in i n ∧ x = f i.toNatClampNeg := by
  unfold ldI at h
  split at h
  · rename_i y hy
    split at h
    · rename_i hc
      exact ⟨y.1, y.2, hy, sm_in hc, (Option.some.inj h).symm⟩
    · cases h
  · cases h
set_option maxHeartbeats 1000000 in
theorem T_iaload {α : Type} {inj : α → Option Value × Hp} {P : Option Value → Hp → Prop} {a : Nat} {i : Int32} {f : Int32 → Option α} (hd : decode cc pc = .ok (.iaload, 1)) (h : OK inj ((ldI σ a i).bind f) P)
    (kk : ∀ x : Int32, OK inj (f x) P → T l G own cc nL rm E Qs cs sl (pc + 1) lv (.int x :: st) σ) : T l G own cc nL rm E Qs cs sl pc lv (.int i :: .ref a :: st) σ := by
  obtain ⟨x, hx1, h⟩ := h.bind
  obtain ⟨n, g, hg, hin, rfl⟩ := ldI_spec hx1
  intro p e s m args below meth c H locs ls C0 he hR hS hl
  obtain ⟨hx, hb, hml, hown, hts, hK⟩ := id C0
  have hP : va_P G.1 vwCl [(a, .inl (G.2.1, n, .inl g))] H := fun j z hz => by
    have hj : j < 1 := (List.getElem?_eq_some_iff.mp hz).1
    rw [show j = 0 by omega] at hz
    cases hz
    exact (hR.2.2 a _ hg).2
  exact va_iald hx hb hK.1 hP 0 0 rfl rfl hin hd (kk _ h p e s m args below meth c H locs ls C0 he hR hS hl)
set_option maxHeartbeats 1000000 in
theorem ldR_spec {a : Nat} {i : Int32} {x : Option Nat} (h : ldR σ a i = some x) : ∃ n f, σ.2 a = some (.inr (.inl (n, f))) ∧ vp_in i n ∧ x = f i.toNatClampNeg := by
  unfold ldR at h
  split at h
  · rename_i y hy
    split at h
    · rename_i hc
      exact ⟨y.1, y.2, hy, sm_in hc, (Option.some.inj h).symm⟩
    · cases h
  · cases h
set_option maxHeartbeats 1000000 in
theorem T_aaload {α : Type} {inj : α → Option Value × Hp} {P : Option Value → Hp → Prop} {a : Nat} {i : Int32} {f : Option Nat → Option α} (hd : decode cc pc = .ok (.aaload, 1)) (h : OK inj ((ldR σ a i).bind f) P)
    (kk : ∀ x : Option Nat, OK inj (f x) P → T l G own cc nL rm E Qs cs sl (pc + 1) lv (va_rf x :: st) σ) : T l G own cc nL rm E Qs cs sl pc lv (.int i :: .ref a :: st) σ := by
  obtain ⟨x, hx1, h⟩ := h.bind
  obtain ⟨n, g, hg, hin, rfl⟩ := ldR_spec hx1
  intro p e s m args below meth c H locs ls C0 he hR hS hl
  obtain ⟨hx, hb, hml, hown, hts, hK⟩ := id C0
  have hP : va_P G.1 vwCl [(a, .inl (G.2.2.1, n, .inr (.inr (.inr (.inr g)))))] H := fun j z hz => by
    have hj : j < 1 := (List.getElem?_eq_some_iff.mp hz).1
    rw [show j = 0 by omega] at hz
    cases hz
    exact (hR.2.2 a _ hg).2
  exact va_aldq hx hb hK.1 hP 0 1 rfl rfl hin hd (kk _ h p e s m args below meth c H locs ls C0 he hR hS hl)
set_option maxHeartbeats 1000000 in
theorem stI_spec {a : Nat} {i x : Int32} {σ' : Hp} (h : stI σ a i x = some σ') : ∃ n f, σ.2 a = some (.inl (n, f)) ∧ vp_in i n ∧ σ' = setC σ a (.inl (n, upd f i.toNatClampNeg x)) := by
  unfold stI at h
  split at h
  · rename_i y hy
    split at h
    · rename_i hc
      exact ⟨y.1, y.2, hy, sm_in hc, (Option.some.inj h).symm⟩
    · cases h
  · cases h
set_option maxHeartbeats 1000000 in
theorem T_iastore {α : Type} {inj : α → Option Value × Hp} {P : Option Value → Hp → Prop} {a : Nat} {i x : Int32} {f : Hp → Option α} (hd : decode cc pc = .ok (.iastore, 1)) (h : OK inj ((stI σ a i x).bind f) P)
    (kk : ∀ σ' : Hp, OK inj (f σ') P → T l G own cc nL rm E Qs cs sl (pc + 1) lv st σ') : T l G own cc nL rm E Qs cs sl pc lv (.int x :: .int i :: .ref a :: st) σ := by
  obtain ⟨σ', hx1, h⟩ := h.bind
  obtain ⟨n, g, hg, hin, rfl⟩ := stI_spec hx1
  intro p e s m args below meth c H locs ls C0 he hR hS hl
  obtain ⟨hx, hb, hml, hown, hts, hK⟩ := id C0
  obtain ⟨hoa, hat⟩ := hR.2.2 a _ hg
  have hat : H[a]? = some (vp_cell G.2.1 (n, .inl g)) := hat
  refine W.iast hx hb hat ((hK.1.2 0 _ rfl).1 n (fun j => .int (g j))) (fun q => by cases q) (by show ¬ (i < 0 ∨ (arrV _ _ _).slots.size ≤ _); rw [arrV_size]; exact hin) rfl rfl hd fun H1 e1 z oq => ?_
  refine kk _ h p e s m args below meth c H1 _ ls C0 he (hR.set hg z oq ?_) (hS.put hoa oq) hl
  show H1[a]? = some (vp_cell _ _)
  rw [e1]
  show some ((vp_cell G.2.1 (n, .inl g)).setSlot _ _) = _
  rw [vp_cell_i, vp_cell_i, arrV_store]
  congr 2
  funext q
  by_cases hq : q = i.toNatClampNeg
  · subst hq
    simp [updV, upd]
  · simp [updV, upd, hq]
set_option maxHeartbeats 1000000 in
theorem stR_spec {a v : Nat} {i : Int32} {σ' : Hp} (h : stR σ a i v = some σ') : ∃ n f fs, σ.2 a = some (.inr (.inl (n, f))) ∧ σ.2 v = some (.inr (.inr (2, fs))) ∧ vp_in i n ∧ σ' = setC σ a (.inr (.inl (n, va_up f i.toNatClampNeg (some v)))) := by
  unfold stR at h
  split at h
  · rename_i y u hy hu
    obtain ⟨fs, hfs⟩ := isO_spec hu
    split at h
    · rename_i hc
      exact ⟨y.1, y.2, fs, hy, hfs, sm_in hc, (Option.some.inj h).symm⟩
    · cases h
  · cases h
set_option maxHeartbeats 1000000 in
theorem T_aastore {α : Type} {inj : α → Option Value × Hp} {P : Option Value → Hp → Prop} {a v : Nat} {i : Int32} {f : Hp → Option α} (hd : decode cc pc = .ok (.aastore, 1)) (h : OK inj ((stR σ a i v).bind f) P)
    (kk : ∀ σ' : Hp, OK inj (f σ') P → T l G own cc nL rm E Qs cs sl (pc + 1) lv st σ') : T l G own cc nL rm E Qs cs sl pc lv (.ref v :: .int i :: .ref a :: st) σ := by
  obtain ⟨σ', hx1, h⟩ := h.bind
  obtain ⟨n, g, fs, hg, hv, hin, rfl⟩ := stR_spec hx1
  intro p e s m args below meth c H locs ls C0 he hR hS hl
  obtain ⟨hx, hb, hml, hown, hts, hK⟩ := id C0
  obtain ⟨hoa, hat⟩ := hR.2.2 a _ hg
  have hat : H[a]? = some (vp_cell G.2.2.1 (n, .inr (.inr (.inr (.inr g))))) := hat
  have hlt : i.toNatClampNeg < n := Nat.not_le.mp fun q => hin (Or.inr q)
  have h0 : ¬ i < 0 := fun q => hin (Or.inl q)
  obtain ⟨-, r', hr', cellV, g1, g2, g3, -⟩ := hR.2.2 v _ hv
  have hr2 : vwCl[2]? = some (RX2, TX2, 10) := rfl
  cases hr'.symm.trans hr2
  have hcls := (hK.1.1 2 _ hr2).2
  obtain ⟨kA, comp, k1, k2, k3, -⟩ := (hK.1.2 1 _ rfl).2
  have hcomp : comp = G.1.1 2 := Option.some.inj (k3.symm.trans hcls.1)
  subst hcomp
  obtain ⟨kC, hkC, -⟩ := hcls.2
  refine W.aast hx hb hat (fun q h => by cases h) (fun h => by cases h) k1 k2 rfl hkC ⟨h0, by show _ < (arrV _ _ _).slots.size; rw [arrV_size]; exact hlt⟩ g1 (fun q h => by rw [g3] at h; cases h) (by rw [g2]; exact hkC) (by rw [g2]; exact va_assign hcls) rfl rfl hd fun H1 e1 z oq => ?_
  refine kk _ h p e s m args below meth c H1 _ ls C0 he (hR.set hg z oq ?_) (hS.put hoa oq) hl
  show H1[a]? = some (vp_cell _ _)
  rw [e1]
  show some ((vp_cell G.2.2.1 (n, .inr (.inr (.inr (.inr g))))).setSlot _ _) = _
  rw [vp_cell_q, vp_cell_q, arrV_store]
  congr 2
  funext q
  by_cases hq : q = i.toNatClampNeg
  · subst hq
    simp [updV, va_up, va_rf]
  · simp [updV, va_up, hq]
set_option maxHeartbeats 1000000 in
theorem T_alen {α : Type} {inj : α → Option Value × Hp} {P : Option Value → Hp → Prop} {a : Nat} {f : Int32 → Option α} (hd : decode cc pc = .ok (.arraylength, 1)) (h : OK inj ((alen σ a).bind f) P)
    (kk : ∀ x : Int32, OK inj (f x) P → T l G own cc nL rm E Qs cs sl (pc + 1) lv (.int x :: st) σ) : T l G own cc nL rm E Qs cs sl pc lv (.ref a :: st) σ := by
  obtain ⟨x, hx1, h⟩ := h.bind
  intro p e s m args below meth c H locs ls C0 he hR hS hl
  obtain ⟨hx, hb, hml, hown, hts, hK⟩ := id C0
  unfold alen at hx1
  split at hx1
  · rename_i y hy
    have hP : va_P G.1 vwCl [(a, .inl (G.2.1, y.1, .inl y.2))] H := fun j z hz => by
      have hj : j < 1 := (List.getElem?_eq_some_iff.mp hz).1
      rw [show j = 0 by omega] at hz
      cases hz
      exact (hR.2.2 a _ hy).2
    exact va_alen hx hb hK.1 hP 0 0 rfl rfl (Option.some.inj hx1) hd (kk _ h p e s m args below meth c H locs ls C0 he hR hS hl)
  · rename_i y hy
    have hP : va_P G.1 vwCl [(a, .inl (G.2.2.1, y.1, .inr (.inr (.inr (.inr y.2)))))] H := fun j z hz => by
      have hj : j < 1 := (List.getElem?_eq_some_iff.mp hz).1
      rw [show j = 0 by omega] at hz
      cases hz
      exact (hR.2.2 a _ hy).2
    exact va_alen hx hb hK.1 hP 0 1 rfl rfl (Option.some.inj hx1) hd (kk _ h p e s m args below meth c H locs ls C0 he hR hS hl)
  · cases hx1
set_option maxHeartbeats 1000000 in
theorem sm_nn {z : Int32} (h : 0 ≤ z.toInt) : ¬ z < 0 := by
  intro q
  have := Int32.lt_iff_toInt_lt.mp q
  simp at this
  omega
set_option maxHeartbeats 1000000 in
theorem T_newI {α : Type} {inj : α → Option Value × Hp} {P : Option Value → Hp → Prop} {n : Int32} {f : Hp → Option α} (hd : decode cc pc = .ok (.newarray .int, 2)) (hw : Cond.arrayClass .int ∈ wsL_law) (hc : cs + 1 ≤ rm.cells) (hs : sl + 800 ≤ rm.slots) (h : OK inj ((newI σ n).bind f) P)
    (kk : ∀ σ' : Hp, OK inj (f σ') P → T l G own cc nL rm E Qs (cs + 1) (sl + 800) (pc + 2) lv (.ref σ.1 :: st) σ') : T l G own cc nL rm E Qs cs sl pc lv (.int n :: st) σ := by
  obtain ⟨σ', hx1, h⟩ := h.bind
  unfold newI at hx1
  split at hx1
  · rename_i hn
    cases hx1
    intro p e s m args below meth c H locs ls C0 he hR hS hl
    obtain ⟨hx, hb, hml, hown, hts, hK⟩ := id C0
    have hle : n.toNatClampNeg ≤ 800 := by
      have : n.toNatClampNeg = n.toInt.toNat := rfl
      omega
    refine va_newaK (atype := .int) hx hb (hts _ hw) rfl hd rfl (sm_nn hn.1) rfl (by show n.toNatClampNeg * 4 ≤ _; omega) hc (by omega) hR.1 fun H1 cA e1 z1 o1 hAr hNm => ?_
    have hca : cA = G.2.1 := Option.some.inj (hNm.symm.trans (hK.1.2 0 _ rfl).2)
    subst hca
    refine W.widen (k := cs + 1) (n := sl + 800) (Nat.le_refl _) (by omega) ?_
    refine kk _ h p e s m args below meth c H1 locs ls C0 he (hR.add (by rw [z1, hR.1]) (fun q hq => o1 q (by rw [← hR.1]; exact hq)) ?_) ⟨fun q hq => ?_, hS.2⟩ hl
    · show H1[H.size]? = some (vp_cell _ _)
      rw [hR.1, e1]
      rfl
    · rw [o1 q (Nat.lt_of_lt_of_le hq hR.2.1)]
      exact hS.1 q hq
  · cases hx1
set_option maxHeartbeats 1000000 in
theorem T_newR {α : Type} {inj : α → Option Value × Hp} {P : Option Value → Hp → Prop} {n : Int32} {index : Nat} {f : Hp → Option α} (hd : decode cc pc = .ok (.anewarray index, 3)) (hw : Cond.classLink own index "SunMirrors$Field" ∈ wsL_law) (hc : cs + 1 ≤ rm.cells) (hs : sl + 800 ≤ rm.slots) (h : OK inj ((newR σ n).bind f) P)
    (kk : ∀ σ' : Hp, OK inj (f σ') P → T l G own cc nL rm E Qs (cs + 1) (sl + 800) (pc + 3) lv (.ref σ.1 :: st) σ') : T l G own cc nL rm E Qs cs sl pc lv (.int n :: st) σ := by
  obtain ⟨σ', hx1, h⟩ := h.bind
  unfold newR at hx1
  split at hx1
  · rename_i hn
    cases hx1
    intro p e s m args below meth c H locs ls C0 he hR hS hl
    obtain ⟨hx, hb, hml, hown, hts, hK⟩ := id C0
    have hle : n.toNatClampNeg ≤ 800 := by
      have : n.toNatClampNeg = n.toInt.toNat := rfl
      omega
    refine W.anew (C := "SunMirrors$Field") hx hb hown (hts _ hw) (va_AO.use hK.2.1) rfl hd rfl (sm_nn hn.1) (by omega) hc (by omega) fun cA kA comp f1 f2 f3 f4 => ?_
    obtain ⟨kA', comp', k1, k2, k3, k4⟩ := (hK.1.2 1 _ rfl).2
    have hca : cA = G.2.2.1 := Option.some.inj (f1.symm.trans k4)
    subst hca
    refine W.widen (k := cs + 1) (n := sl + 800) (Nat.le_refl _) (by omega) ?_
    have e1 : (H.push { cls := G.2.2.1, slots := Array.replicate n.toNatClampNeg .null, vm := .none })[H.size]? = some (vp_cell G.2.2.1 (n.toNatClampNeg, .inr (.inr (.inr (.inr (fun _ => none)))))) := by
      rw [vp_cell_q, ← arrV_new]; simp [va_rf]
    have o1 : ∀ q, q < H.size → (H.push { cls := G.2.2.1, slots := Array.replicate n.toNatClampNeg .null, vm := .none })[q]? = H[q]? := fun q hq => by
      rw [Array.getElem?_push, if_neg (Nat.ne_of_lt hq)]
    have z1 : (H.push { cls := G.2.2.1, slots := Array.replicate n.toNatClampNeg .null, vm := .none }).size = H.size + 1 := by simp
    have g1 := kk _ h p e s m args below meth c _ locs ls C0 he (hR.add z1 o1 e1) ⟨fun q hq => by
      rw [o1 q (Nat.lt_of_lt_of_le hq (by rw [hR.1]; exact hR.2.1))]
      exact hS.1 q hq, hS.2⟩ hl
    rw [← hR.1] at g1
    exact g1
  · cases hx1
set_option maxHeartbeats 1000000 in
theorem T_newO {ci index N : Nat} {C : String} {fs : List Value} (hd : decode cc pc = .ok (.new index, 3)) (hw : Cond.classLink own index C ∈ wsL_law) (hw2 : Cond.instantiable C N ∈ wsL_law) (hw3 : Cond.initialized C ∈ wsL_law) (hq : ∃ (Tf : u_T) (tyf : Nat → FieldType), vwCl[ci]? = some (C, Tf, N) ∧ (∀ w ∈ u_ws C Tf N, w ∈ wsL_law) ∧ (∀ k, k < N → parseFieldDescriptor (Tf k).2.2.1 = some (tyf k)) ∧ (List.range N).all (fun j => decide (defaultValue (tyf j) = vp_V fs j)) = true) (hc : cs + 1 ≤ rm.cells) (hs : sl + N ≤ rm.slots)
    (kk : T l G own cc nL rm E Qs (cs + 1) (sl + N) (pc + 3) lv (.ref σ.1 :: st) (newO σ ci fs)) : T l G own cc nL rm E Qs cs sl pc lv st σ := by
  intro p e s m args below meth c H locs ls C0 he hR hS hl
  obtain ⟨hx, hb, hml, hown, hts, hK⟩ := id C0
  obtain ⟨Tf, tyf, hq, hin, hty, hfs⟩ := hq
  have hKn := hK.1.1 ci _ hq
  refine W.newcK hx hb hown (hts _ hw) (hts _ hw2) (hts _ hw3) rfl hd hc hs hKn.2.1 hR.1 fun H1 kC hkC e1 z1 o1 => ?_
  refine kk p e s m args below meth c H1 locs ls C0 he (hR.add (by rw [z1, hR.1]) (fun q hq => o1 q (by rw [← hR.1]; exact hq)) ?_) ⟨fun q hq => ?_, hS.2⟩ hl
  · rw [hR.1]
    exact ⟨_, hq, (u_born tyf hts hin hKn hkC e1 hty).to fun j hj => by
      have := List.all_eq_true.mp hfs j (List.mem_range.mpr hj)
      exact of_decide_eq_true this⟩
  · rw [o1 q (Nat.lt_of_lt_of_le hq hR.2.1)]
    exact hS.1 q hq
set_option maxHeartbeats 1000000 in
theorem T_nh {α : Type} {inj : α → Option Value × Hp} {P : Option Value → Hp → Prop} {σ' : Hp} {f : Hp → Option α} (h : OK inj (nm σ' f) P) (k : ∀ y : Hp, OK inj (f y) P → T l G own cc nL rm E Qs cs sl pc lv st y) : T l G own cc nL rm E Qs cs sl pc lv st σ' := k σ' h
set_option maxHeartbeats 1000000 in
theorem cpyI_spec {a0 a : Nat} {sp dp n : Int32} {σ' : Hp} (h : cpyI σ a0 sp a dp n = some σ') : ∃ n0 f n1 g, σ.2 a0 = some (.inl (n0, f)) ∧ σ.2 a = some (.inl (n1, g)) ∧ ¬ sp < 0 ∧ ¬ dp < 0 ∧ ¬ n < 0 ∧ sp.toNatClampNeg + n.toNatClampNeg ≤ n0 ∧ dp.toNatClampNeg + n.toNatClampNeg ≤ n1 ∧ σ' = setC σ a (.inl (n1, va_cpy f g sp.toNatClampNeg dp.toNatClampNeg n.toNatClampNeg)) := by
  unfold cpyI at h
  split at h
  · rename_i x y hx hy
    split at h
    · rename_i hc
      exact ⟨x.1, x.2, y.1, y.2, hx, hy, hc.1.1, hc.1.2.1, hc.1.2.2, hc.2.1, hc.2.2, (Option.some.inj h).symm⟩
    · cases h
  · cases h

set_option maxHeartbeats 1000000 in
theorem T_acopy {α : Type} {inj : α → Option Value × Hp} {P : Option Value → Hp → Prop} {a0 a index : Nat} {sp dp n : Int32} {f : Hp → Option α} (hd : decode cc pc = .ok (.invokestatic index, 3)) (hl1 : Cond.methodLink own index arraycopyName ∈ wsL_law) (hl2 : Cond.native arraycopyName ∈ wsL_law) (hl3 : Cond.static arraycopyName ∈ wsL_law) (hl4 : Cond.initialized "java/lang/System" ∈ wsL_law) (hroom : 1 ≤ rm.frames ∧ (st.map fun v => v.category).sum + (nativeFrameWords "java/lang/System" "arraycopy" 5 + 11) ≤ rm.locals) (h : OK inj ((cpyI σ a0 sp a dp n).bind f) P)
    (kk : ∀ σ' : Hp, OK inj (f σ') P → T l G own cc nL rm E Qs cs sl (pc + 3) lv st σ') : T l G own cc nL rm E Qs cs sl pc lv (.int n :: .int dp :: .ref a :: .int sp :: .ref a0 :: st) σ := by
  obtain ⟨σ', hx1, h⟩ := h.bind
  obtain ⟨n0, f0, n1, g, hs0, hd0, h1, h2, h3, h4, h5, rfl⟩ := cpyI_spec hx1
  intro p e s m args below meth c H locs ls C0 he hR hS hl
  obtain ⟨hx, hb, hml, hown, hts, hK⟩ := id C0
  have nn : ∀ z : Int32, ¬ z < 0 → z.toInt = (z.toNatClampNeg : Int) := by
    intro z hz
    have hz0 : (0 : Int) ≤ z.toInt := by
      have := Int32.not_lt.mp hz
      simpa using Int32.le_iff_toInt_le.mp this
    show z.toInt = ((z.toInt.toNat : Nat) : Int)
    omega
  intro T0 hT X
  have hc0 : H[a0]? = some (vp_cell G.2.1 (n0, .inl f0)) := (hR.2.2 a0 _ hs0).2
  have hc1 : H[a]? = some (vp_cell G.2.1 (n1, .inl g)) := (hR.2.2 a _ hd0).2
  have hoa := (hR.2.2 a _ hd0).1
  obtain ⟨-, k0, hk0, cm0, hkk0⟩ := (hK.1.2 0 _ rfl).1 n0 (fun j => .int (f0 j))
  obtain ⟨-, k1, hk1, cm1, hkk1⟩ := (hK.1.2 0 _ rfl).1 n1 (fun j => .int (g j))
  obtain ⟨vm', X', step⟩ := X.arraycopy hx hown (hts _ hl1) (hts _ hl2) (hts _ hl3) (hts _ hl4) (src := a0) (dst := a) (cs := vp_cell G.2.1 (n0, .inl f0)) (cd := vp_cell G.2.1 (n1, .inl g)) (srcPos := sp) (destPos := dp) (n := n) (by rw [hT]; exact hc0) (by rw [hT]; exact hc1)
    (fun _ h => by cases h) (fun _ h => by cases h) (fun h => by cases h) (fun h => by cases h) hk0 hk1 hkk0 hkk1 (by simp [show refKind FieldType.int = false from rfl]) h1 h2 h3
    (by rw [nn sp h1, nn n h3]; show ¬ _ > ((arrV G.2.1 n0 (fun j => .int (f0 j))).slots.size : Int); rw [arrV_size]; omega)
    (by rw [nn dp h2, nn n h3]; show ¬ _ > ((arrV G.2.1 n1 (fun j => .int (g j))).slots.size : Int); rw [arrV_size]; omega)
    (fun vm₁ _ i hi => by
      have e : (vp_cell G.2.1 (n0, .inl f0)).slots.getD (sp.toNatClampNeg + i) .null = .int (f0 (sp.toNatClampNeg + i)) := by
        show (arrV G.2.1 n0 (fun j => .int (f0 j))).slots.getD _ _ = _
        rw [Array.getD_eq_getD_getElem?, arrV_read _ _ (by omega)]
        rfl
      refine ⟨?_, ?_⟩
      · rw [e]
        rfl
      · rw [e]
        exact trivial)
    (g := F0 m pc ls (.int n :: .int dp :: .ref a :: .int sp :: .ref a0 :: st)) rfl (by rw [hml]; exact hl.1) (rest := st) rfl (by rw [hb]; exact hd) hroom.1 (by show 2 * 0 + _ + _ ≤ _; have := hroom.2; omega)
  have e1 : copied (vp_cell G.2.1 (n0, .inl f0)) (vp_cell G.2.1 (n1, .inl g)) sp dp n = vp_cell G.2.1 (n1, .inl (va_cpy f0 g sp.toNatClampNeg dp.toNatClampNeg n.toNatClampNeg)) := va_copied (fun z => .int z) G.2.1 G.2.1 f0 g h4
  rw [e1] at X' step
  have hlt : a < H.size := (Array.getElem?_eq_some_iff.mp hc1).1
  have hheap : ((T0.setVm vm').setCell a (vp_cell G.2.1 (n1, .inl (va_cpy f0 g sp.toNatClampNeg dp.toNatClampNeg n.toNatClampNeg)))).heap = H.setIfInBounds a (vp_cell G.2.1 (n1, .inl (va_cpy f0 g sp.toNatClampNeg dp.toNatClampNeg n.toNatClampNeg))) := by rw [← hT]; rfl
  have oq : ∀ q : Nat, q ≠ a → (H.setIfInBounds a (vp_cell G.2.1 (n1, .inl (va_cpy f0 g sp.toNatClampNeg dp.toNatClampNeg n.toNatClampNeg))))[q]? = H[q]? := fun q hq => by simp [Array.getElem?_setIfInBounds, Ne.symm hq]
  obtain ⟨t, a1, b1⟩ := kk _ h p e s m args below meth c _ _ ls C0 he (hR.set hd0 (by simp) oq (show (H.setIfInBounds a _)[a]? = some _ by simp [Array.getElem?_setIfInBounds, hlt])) ⟨fun q g1 => by
      rw [oq q (by omega)]
      exact hS.1 q g1, fun q hq => by
      rcases List.mem_append.mp hq with h | h
      · exact hS.2 q h
      · obtain ⟨z, -, hz⟩ := List.mem_map.mp h
        rw [← hz]
        exact hoa⟩ hl _ hheap X'
  exact ⟨t, step t a1, b1⟩
/-! Math -/
set_option maxHeartbeats 1000000 in
theorem T_mmax {x y : Int32} {index : Nat} (hd : decode cc pc = .ok (.invokestatic index, 3)) (hl1 : Cond.methodLink own index Lib.Math.max.name ∈ wsL_law) (hl2 : Cond.static Lib.Math.max.name ∈ wsL_law) (hl3 : Cond.initialized "java/lang/Math" ∈ wsL_law) (hl4 : Cond.code Lib.Math.max.name Lib.Math.max.code 2 (some .int) ∈ wsL_law) (hroom : 1 ≤ rm.frames ∧ (st.map fun v => v.category).sum + 13 ≤ rm.locals ∧ cs ≤ rm.cells ∧ sl ≤ rm.slots)
    (k : T l G own cc nL rm E Qs cs sl (pc + 3) lv (.int (if x < y then y else x) :: st) σ) : T l G own cc nL rm E Qs cs sl pc lv (.int y :: .int x :: st) σ := by
  intro p e s m args below meth c H locs ls C0 he hR hS hl
  obtain ⟨hx, hb, hml, hown, hts, hK⟩ := id C0
  exact va_mmax hx hb (by rw [hml]; exact hl.1.symm) hown (hts _ hl1) (hts _ hl2) (hts _ hl3) (hts _ hl4) hroom.1 hroom.2.1 hroom.2.2.1 hroom.2.2.2 hd (k p e s m args below meth c H locs ls C0 he hR hS hl)
set_option maxHeartbeats 1000000 in
theorem T_mmin {x y : Int32} {index : Nat} (hd : decode cc pc = .ok (.invokestatic index, 3)) (hl1 : Cond.methodLink own index Lib.Math.min.name ∈ wsL_law) (hl2 : Cond.static Lib.Math.min.name ∈ wsL_law) (hl3 : Cond.initialized "java/lang/Math" ∈ wsL_law) (hl4 : Cond.code Lib.Math.min.name Lib.Math.min.code 2 (some .int) ∈ wsL_law) (hroom : 1 ≤ rm.frames ∧ (st.map fun v => v.category).sum + 13 ≤ rm.locals ∧ cs ≤ rm.cells ∧ sl ≤ rm.slots)
    (k : T l G own cc nL rm E Qs cs sl (pc + 3) lv (.int (if y < x then y else x) :: st) σ) : T l G own cc nL rm E Qs cs sl pc lv (.int y :: .int x :: st) σ := by
  intro p e s m args below meth c H locs ls C0 he hR hS hl
  obtain ⟨hx, hb, hml, hown, hts, hK⟩ := id C0
  exact va_mmin hx hb (by rw [hml]; exact hl.1.symm) hown (hts _ hl1) (hts _ hl2) (hts _ hl3) (hts _ hl4) hroom.1 hroom.2.1 hroom.2.2.1 hroom.2.2.2 hd (k p e s m args below meth c H locs ls C0 he hR hS hl)
set_option maxHeartbeats 1000000 in
theorem T_mabs {x : Int32} {index : Nat} (hd : decode cc pc = .ok (.invokestatic index, 3)) (hl1 : Cond.methodLink own index Lib.Math.abs.name ∈ wsL_law) (hl2 : Cond.static Lib.Math.abs.name ∈ wsL_law) (hl3 : Cond.initialized "java/lang/Math" ∈ wsL_law) (hl4 : Cond.code Lib.Math.abs.name Lib.Math.abs.code 1 (some .int) ∈ wsL_law) (hroom : 1 ≤ rm.frames ∧ (st.map fun v => v.category).sum + 13 ≤ rm.locals ∧ cs ≤ rm.cells ∧ sl ≤ rm.slots)
    (k : T l G own cc nL rm E Qs cs sl (pc + 3) lv (.int (if 0 ≤ x then x else 0 - x) :: st) σ) : T l G own cc nL rm E Qs cs sl pc lv (.int x :: st) σ := by
  intro p e s m args below meth c H locs ls C0 he hR hS hl
  obtain ⟨hx, hb, hml, hown, hts, hK⟩ := id C0
  exact va_mabs hx hb (by rw [hml]; exact hl.1.symm) hown (hts _ hl1) (hts _ hl2) (hts _ hl3) (hts _ hl4) hroom.1 hroom.2.1 hroom.2.2.1 hroom.2.2.2 hd (k p e s m args below meth c H locs ls C0 he hR hS hl)
set_option maxHeartbeats 1000000 in
theorem T_objInit {a index : Nat} (hd : decode cc pc = .ok (.invokespecial index, 3)) (hl1 : Cond.methodLink own index objectInit ∈ wsL_law) (hl2 : Cond.instanceMethod objectInit ∈ wsL_law) (hl3 : Cond.code objectInit ⟨#[0xb1]⟩ 1 none ∈ wsL_law) (hroom : 1 ≤ rm.frames ∧ (st.map fun v => v.category).sum + 12 ≤ rm.locals)
    (k : T l G own cc nL rm E Qs cs sl (pc + 3) lv st σ) : T l G own cc nL rm E Qs cs sl pc lv (.ref a :: st) σ := by
  intro p e s m args below meth c H locs ls C0 he hR hS hl
  obtain ⟨hx, hb, hml, hown, hts, hK⟩ := id C0
  refine W.objInit hx hb hown (hts _ hl1) (hts _ hl2) (hts _ hl3) rfl (by rw [hml]; exact hl.1) rfl hd hroom.1 (by show 2 * 0 + _ + 12 ≤ _; have := hroom.2; omega) ?_
  exact k p e s m args below meth c H locs ls C0 he hR hS hl
/-! calls -/
def sm_MC (y : MethodName) (cc : ByteArray) (nL : Nat) (rt : Option FieldType) (n : Nat) : Prop := Cond.code y cc nL rt ∈ wsL_law ∧ Cond.initialized y.cls ∈ wsL_law ∧ (y.cls ≠ "java/lang/invoke/MethodHandle" ∧ y.cls ≠ "java/lang/invoke/VarHandle" ∧ (parseMethodDescriptor y.desc).map (fun d => d.parameters.length) = some n) ∧ nL ≤ 21
set_option maxHeartbeats 1000000 in
theorem sm_goodAll {y : MethodName} {cc : ByteArray} {nL : Nat} {rt : Option FieldType} (h : Cond.code y cc nL rt ∈ wsL_law) : GoodIn wsL_law (.code y cc nL rt :: wsL_law) := by
  intro w hw
  rcases List.mem_cons.mp hw with rfl | hw
  · exact ⟨h, good_of_word (wsL_law_good _ h)⟩
  · exact ⟨hw, good_of_word (wsL_law_good w hw)⟩
set_option maxHeartbeats 1000000 in
theorem sm_callB {R : Room} {s : State} {args : Array Value} {index n d' mc' ms' nL' : Nat} {y : MethodName} {cc' : ByteArray} {rt' : Option FieldType} (hM : sm_MC y cc' nL' rt' n) (hl : Cond.methodLink own index y ∈ wsL_law) (hd : d' + 1 ≤ R.frames ∧ 40 * d' + 40 ≤ R.locals) (hts : ∀ w ∈ wsL_law, w.before args s = true) : CallB R s args own index y cc' nL' rt' (.code y cc' nL' rt' :: wsL_law) (sm_rm d' mc' ms') mc' ms' n :=
  callB_of n hts (sm_goodAll hM.1) rfl rfl rfl (hts _ hM.2.1) (hts _ hl) hM.2.2.1 ⟨hd.1, by show 8 + (nL' + 11) + 40 * d' ≤ _; have := hM.2.2.2; have := hd.2; omega⟩
set_option maxHeartbeats 1000000 in
theorem sm_callN {R : Room} {s : State} {args : Array Value} {index n d' mc' ms' nL' : Nat} {y : MethodName} {host : String} {cc' : ByteArray} {rt' : Option FieldType} (hM : sm_MC y cc' nL' rt' n) (hl : Cond.methodLinkNest own index y host ∈ sm_nest) (hK : sm_K G s) (hd : d' + 1 ≤ R.frames ∧ 40 * d' + 40 ≤ R.locals) (hts : ∀ w ∈ wsL_law, w.before args s = true) : va_CN R s args own index y host cc' nL' rt' (.code y cc' nL' rt' :: wsL_law) (sm_rm d' mc' ms') mc' ms' n :=
  va_cnB n hts (sm_goodAll hM.1) rfl rfl rfl (hK.2.2 _ hl) (hts _ hM.2.1) hM.2.2.1 ⟨hd.1, by show 8 + (nL' + 11) + 40 * d' ≤ _; have := hM.2.2.2; have := hd.2; omega⟩
abbrev sm_Pc (G : smG) (args : List Value) (σ : Hp) : Array Value → State → Prop := va_Pc args (fun U => sm_Rel G σ U.heap ∧ sm_K G U)
set_option maxHeartbeats 1000000 in
theorem sm_blind {args : List Value} : FrameBlind (sm_Pc G args σ) := fun _ U g mk q => ⟨q.1, q.2.1, q.2.2.blind (U := U) (V := U.calling g mk _) rfl⟩
set_option maxHeartbeats 1000000 in
theorem sm_run {p : Program} {e : Env} {s : State} {m : MethodId} {args : Array Value} {below : List Frame} {meth : Method} {c : Code} {H : Heap} {locs : List Loc} {ls : Array Slot} {mc' ms' : Nat} {st0 rest : List Value} {a : Array Value} {P' : Option Value → Hp → Prop}
    (hr : va_Run p l e rm s m args below meth c H locs cs sl mc' ms' (F0 m pc ls st0) rest (sm_Qm G P' a) (fun q => G.2.2.2 ≤ q)) (C0 : sm_Cx p s m args c own cc nL G) (he : E s args meth) (hS : sm_S G s.heap H locs) (hl : lv_has ls nL lv)
    (kk : ∀ v σ', P' v σ' → T l G own cc nL rm E Qs (cs + mc') (sl + ms') (pc + 3) lv (v.toList ++ rest) σ') : W p l e rm s m args below meth c H locs cs sl (Qs below args s) (F0 m pc ls st0) := by
  intro T0 hT X
  obtain ⟨v, st₀, t, T', L, h0, X', hL, e1, e2, ⟨⟨v', σ', hv, hp, hRel⟩, hk⟩, stp⟩ := hr T0 hT X
  cases hv
  obtain ⟨t2, a1, b1⟩ := kk v σ' hp p e s m args below meth c T'.heap (locs ++ L) ls C0 he (by rw [e1]; exact hRel) ⟨fun q hq => by rw [e1, hk q hq, h0]; exact hS.1 q hq, fun x hx => by
    rcases List.mem_append.mp hx with h | h
    · exact hS.2 x h
    · exact hL x h⟩ hl T' rfl X'
  exact ⟨t2, stp t2 a1, b1⟩
section CALLS
variable {y : MethodName} {cc' : ByteArray} {nL' d' mc' ms' n index ci b : Nat} {rt' : Option FieldType} {As rest st0 : List Value} {P' : Option Value → Hp → Prop} {host : String}
set_option maxHeartbeats 1000000 in
theorem T_callV (hd : decode cc pc = .ok (.invokevirtual index, 3)) (hM : sm_MC y cc' nL' rt' n) (hi : Cond.instanceMethod y ∈ wsL_law ∧ Cond.selects y.cls y y ∈ wsL_law) (hln : Cond.methodLink own index y ∈ wsL_law) (hcl : (vwCl[ci]?).map (fun q => q.1) = some y.cls) (hbo : isO σ b ci = some ()) (hn : As.length = n) (hst : st0 = As.reverse ++ .ref b :: rest) (hW : (rest.map fun v => v.category).sum ≤ 8) (hroom : (d' + 1 ≤ rm.frames ∧ 40 * d' + 40 ≤ rm.locals) ∧ cs + mc' ≤ rm.cells ∧ sl + ms' ≤ rm.slots) (hC : sm_Ct l y cc' nL' rt' d' mc' ms' (.ref b :: As) σ P')
    (kk : ∀ v σ', P' v σ' → T l G own cc nL rm E Qs (cs + mc') (sl + ms') (pc + 3) lv (v.toList ++ rest) σ') : T l G own cc nL rm E Qs cs sl pc lv st0 σ := by
  intro p e s m args below meth c H locs ls C0 he hR hS hl
  obtain ⟨hx, hb, hml, hown, hts, hK⟩ := id C0
  obtain ⟨fs, hfs⟩ := isO_spec hbo
  obtain ⟨hoa, r, h1, cell, g1, g2, g3, -⟩ := hR.2.2 b _ hfs
  have hrc : s.vm.findClass y.cls = some cell.cls := by
    have h1 : vwCl[ci]? = some r := h1
    rw [h1] at hcl
    rw [← Option.some.inj hcl, g2]
    exact (hK.1.1 ci r h1).2.1
  have hb1 := sm_callB (mc' := mc') (ms' := ms') (s := s) (args := args) hM hln hroom.1 hts
  exact sm_run (va_runV (As := As) (rest := rest) ⟨hx, hb, hml, hown, hts⟩ (hC G) ⟨hb1, hts _ hi.1, hts _ hi.2⟩ ⟨sm_blind, ⟨cell, g1, by rw [g3]; rfl, hrc⟩, fun U hU hW => ⟨rfl, by rw [hU]; exact hR, hK.warm hW⟩⟩ rfl hn hl.1 hst (lv_room (pc := pc) (ls := ls) (rest := st0) hW) hd hroom.2) C0 he hS hl kk
set_option maxHeartbeats 1000000 in
theorem T_callS (hd : decode cc pc = .ok (.invokestatic index, 3)) (hM : sm_MC y cc' nL' rt' n) (hi : Cond.static y ∈ wsL_law) (hln : Cond.methodLink own index y ∈ wsL_law) (hn : As.length = n) (hst : st0 = As.reverse ++ rest) (hW : (rest.map fun v => v.category).sum ≤ 8) (hroom : (d' + 1 ≤ rm.frames ∧ 40 * d' + 40 ≤ rm.locals) ∧ cs + mc' ≤ rm.cells ∧ sl + ms' ≤ rm.slots) (hC : sm_Ct l y cc' nL' rt' d' mc' ms' As σ P')
    (kk : ∀ v σ', P' v σ' → T l G own cc nL rm E Qs (cs + mc') (sl + ms') (pc + 3) lv (v.toList ++ rest) σ') : T l G own cc nL rm E Qs cs sl pc lv st0 σ := by
  intro p e s m args below meth c H locs ls C0 he hR hS hl
  obtain ⟨hx, hb, hml, hown, hts, hK⟩ := id C0
  have hb1 := sm_callB (mc' := mc') (ms' := ms') (s := s) (args := args) hM hln hroom.1 hts
  exact sm_run (va_runS (As := As) (rest := rest) ⟨hx, hb, hml, hown, hts⟩ (hC G) ⟨hb1, hts _ hi⟩ ⟨sm_blind, fun U hU hW => ⟨rfl, by rw [hU]; exact hR, hK.warm hW⟩⟩ rfl hn hl.1 hst (lv_room (pc := pc) (ls := ls) (rest := st0) hW) hd hroom.2) C0 he hS hl kk
set_option maxHeartbeats 1000000 in
theorem T_callSN (hd : decode cc pc = .ok (.invokestatic index, 3)) (hM : sm_MC y cc' nL' rt' n) (hi : Cond.static y ∈ wsL_law) (hln : Cond.methodLinkNest own index y host ∈ sm_nest) (hn : As.length = n) (hst : st0 = As.reverse ++ rest) (hW : (rest.map fun v => v.category).sum ≤ 8) (hroom : (d' + 1 ≤ rm.frames ∧ 40 * d' + 40 ≤ rm.locals) ∧ cs + mc' ≤ rm.cells ∧ sl + ms' ≤ rm.slots) (hC : sm_Ct l y cc' nL' rt' d' mc' ms' As σ P')
    (kk : ∀ v σ', P' v σ' → T l G own cc nL rm E Qs (cs + mc') (sl + ms') (pc + 3) lv (v.toList ++ rest) σ') : T l G own cc nL rm E Qs cs sl pc lv st0 σ := by
  intro p e s m args below meth c H locs ls C0 he hR hS hl
  obtain ⟨hx, hb, hml, hown, hts, hK⟩ := id C0
  have hb1 := sm_callN (mc' := mc') (ms' := ms') (s := s) (args := args) hM hln hK hroom.1 hts
  exact sm_run (va_runSN (As := As) (rest := rest) ⟨hx, hb, hml, hown, hts⟩ (hC G) ⟨hb1, hts _ hi, trivial⟩ ⟨sm_blind, fun U hU hW => ⟨rfl, by rw [hU]; exact hR, hK.warm hW⟩⟩ rfl hn hl.1 hst (lv_room (pc := pc) (ls := ls) (rest := st0) hW) hd hroom.2) C0 he hS hl kk
set_option maxHeartbeats 1000000 in
theorem T_callI (hd : decode cc pc = .ok (.invokespecial index, 3)) (hM : sm_MC y cc' nL' none n) (hi : Cond.instanceMethod y ∈ wsL_law ∧ y.name = "<init>") (hln : Cond.methodLink own index y ∈ wsL_law) (hn : As.length = n) (hst : st0 = As.reverse ++ .ref b :: rest) (hW : (rest.map fun v => v.category).sum ≤ 8) (hroom : (d' + 1 ≤ rm.frames ∧ 40 * d' + 40 ≤ rm.locals) ∧ cs + mc' ≤ rm.cells ∧ sl + ms' ≤ rm.slots) (hC : sm_Ct l y cc' nL' none d' mc' ms' (.ref b :: As) σ P')
    (kk : ∀ v σ', P' v σ' → T l G own cc nL rm E Qs (cs + mc') (sl + ms') (pc + 3) lv (v.toList ++ rest) σ') : T l G own cc nL rm E Qs cs sl pc lv st0 σ := by
  intro p e s m args below meth c H locs ls C0 he hR hS hl
  obtain ⟨hx, hb, hml, hown, hts, hK⟩ := id C0
  have hb1 := sm_callB (mc' := mc') (ms' := ms') (s := s) (args := args) hM hln hroom.1 hts
  exact sm_run (va_runI (As := As) (rest := rest) ⟨hx, hb, hml, hown, hts⟩ (hC G) ⟨hb1, hi.2, hts _ hi.1⟩ ⟨sm_blind, fun U hU hW => ⟨rfl, by rw [hU]; exact hR, hK.warm hW⟩⟩ rfl hn hl.1 hst (lv_room (pc := pc) (ls := ls) (rest := st0) hW) hd hroom.2) C0 he hS hl kk
set_option maxHeartbeats 1000000 in
theorem T_callIN (hd : decode cc pc = .ok (.invokespecial index, 3)) (hM : sm_MC y cc' nL' none n) (hi : Cond.instanceMethod y ∈ wsL_law ∧ y.name = "<init>") (hln : Cond.methodLinkNest own index y host ∈ sm_nest) (hn : As.length = n) (hst : st0 = As.reverse ++ .ref b :: rest) (hW : (rest.map fun v => v.category).sum ≤ 8) (hroom : (d' + 1 ≤ rm.frames ∧ 40 * d' + 40 ≤ rm.locals) ∧ cs + mc' ≤ rm.cells ∧ sl + ms' ≤ rm.slots) (hC : sm_Ct l y cc' nL' none d' mc' ms' (.ref b :: As) σ P')
    (kk : ∀ v σ', P' v σ' → T l G own cc nL rm E Qs (cs + mc') (sl + ms') (pc + 3) lv (v.toList ++ rest) σ') : T l G own cc nL rm E Qs cs sl pc lv st0 σ := by
  intro p e s m args below meth c H locs ls C0 he hR hS hl
  obtain ⟨hx, hb, hml, hown, hts, hK⟩ := id C0
  have hb1 := sm_callN (mc' := mc') (ms' := ms') (s := s) (args := args) hM hln hK hroom.1 hts
  exact sm_run (va_runIN (As := As) (rest := rest) ⟨hx, hb, hml, hown, hts⟩ (hC G) ⟨hb1, hi.2, hts _ hi.1⟩ ⟨sm_blind, fun U hU hW => ⟨rfl, by rw [hU]; exact hR, hK.warm hW⟩⟩ rfl hn hl.1 hst (lv_room (pc := pc) (ls := ls) (rest := st0) hW) hd hroom.2) C0 he hS hl kk
set_option maxHeartbeats 1000000 in
theorem T_callVI {α : Type} {inj : α → Option Value × Hp} {P : Option Value → Hp → Prop} {d : Option (Int32 × Hp)} {f : Int32 → Hp → Option α} (hd : decode cc pc = .ok (.invokevirtual index, 3)) (hM : sm_MC y cc' nL' rt' n) (hi : Cond.instanceMethod y ∈ wsL_law ∧ Cond.selects y.cls y y ∈ wsL_law) (hln : Cond.methodLink own index y ∈ wsL_law) (hcl : (vwCl[ci]?).map (fun q => q.1) = some y.cls) (hbo : ∀ r, d = some r → isO σ b ci = some ()) (hn : As.length = n) (hst : st0 = As.reverse ++ .ref b :: rest) (hW : (rest.map fun v => v.category).sum ≤ 8) (hroom : (d' + 1 ≤ rm.frames ∧ 40 * d' + 40 ≤ rm.locals) ∧ cs + mc' ≤ rm.cells ∧ sl + ms' ≤ rm.slots) (hC : ∀ P', OK jI d P' → sm_Ct l y cc' nL' rt' d' mc' ms' (.ref b :: As) σ P') (h : OK inj (bd d f) P)
    (kk : ∀ (r : Int32) (σ2 : Hp), OK inj (f r σ2) P → T l G own cc nL rm E Qs (cs + mc') (sl + ms') (pc + 3) lv (.int r :: rest) σ2) : T l G own cc nL rm E Qs cs sl pc lv st0 σ := by
  obtain ⟨r, hr, h⟩ := OK.bind h
  refine T_callV hd hM hi hln hcl (hbo r hr) hn hst hW hroom (hC (fun v t => v = (some (.int r.1)) ∧ t = r.2) ⟨r, hr, rfl, rfl⟩) ?_
  rintro _ t9 ⟨rfl, e9⟩
  rw [e9]
  exact kk r.1 r.2 h
set_option maxHeartbeats 1000000 in
theorem T_callVR {α : Type} {inj : α → Option Value × Hp} {P : Option Value → Hp → Prop} {d : Option (Option Nat × Hp)} {f : Option Nat → Hp → Option α} (hd : decode cc pc = .ok (.invokevirtual index, 3)) (hM : sm_MC y cc' nL' rt' n) (hi : Cond.instanceMethod y ∈ wsL_law ∧ Cond.selects y.cls y y ∈ wsL_law) (hln : Cond.methodLink own index y ∈ wsL_law) (hcl : (vwCl[ci]?).map (fun q => q.1) = some y.cls) (hbo : ∀ r, d = some r → isO σ b ci = some ()) (hn : As.length = n) (hst : st0 = As.reverse ++ .ref b :: rest) (hW : (rest.map fun v => v.category).sum ≤ 8) (hroom : (d' + 1 ≤ rm.frames ∧ 40 * d' + 40 ≤ rm.locals) ∧ cs + mc' ≤ rm.cells ∧ sl + ms' ≤ rm.slots) (hC : ∀ P', OK jR d P' → sm_Ct l y cc' nL' rt' d' mc' ms' (.ref b :: As) σ P') (h : OK inj (bd d f) P)
    (kk : ∀ (r : Option Nat) (σ2 : Hp), OK inj (f r σ2) P → T l G own cc nL rm E Qs (cs + mc') (sl + ms') (pc + 3) lv (va_rf r :: rest) σ2) : T l G own cc nL rm E Qs cs sl pc lv st0 σ := by
  obtain ⟨r, hr, h⟩ := OK.bind h
  refine T_callV hd hM hi hln hcl (hbo r hr) hn hst hW hroom (hC (fun v t => v = (some (va_rf r.1)) ∧ t = r.2) ⟨r, hr, rfl, rfl⟩) ?_
  rintro _ t9 ⟨rfl, e9⟩
  rw [e9]
  exact kk r.1 r.2 h
set_option maxHeartbeats 1000000 in
theorem T_callVV {α : Type} {inj : α → Option Value × Hp} {P : Option Value → Hp → Prop} {d : Option (Hp)} {f : Hp → Option α} (hd : decode cc pc = .ok (.invokevirtual index, 3)) (hM : sm_MC y cc' nL' rt' n) (hi : Cond.instanceMethod y ∈ wsL_law ∧ Cond.selects y.cls y y ∈ wsL_law) (hln : Cond.methodLink own index y ∈ wsL_law) (hcl : (vwCl[ci]?).map (fun q => q.1) = some y.cls) (hbo : ∀ r, d = some r → isO σ b ci = some ()) (hn : As.length = n) (hst : st0 = As.reverse ++ .ref b :: rest) (hW : (rest.map fun v => v.category).sum ≤ 8) (hroom : (d' + 1 ≤ rm.frames ∧ 40 * d' + 40 ≤ rm.locals) ∧ cs + mc' ≤ rm.cells ∧ sl + ms' ≤ rm.slots) (hC : ∀ P', OK jV d P' → sm_Ct l y cc' nL' rt' d' mc' ms' (.ref b :: As) σ P') (h : OK inj (d.bind f) P)
    (kk : ∀ (σ2 : Hp), OK inj (f σ2) P → T l G own cc nL rm E Qs (cs + mc') (sl + ms') (pc + 3) lv rest σ2) : T l G own cc nL rm E Qs cs sl pc lv st0 σ := by
  obtain ⟨r, hr, h⟩ := OK.bind h
  refine T_callV hd hM hi hln hcl (hbo r hr) hn hst hW hroom (hC (fun v t => v = none ∧ t = r) ⟨r, hr, rfl, rfl⟩) ?_
  rintro _ t9 ⟨rfl, e9⟩
  rw [e9]
  exact kk r h
set_option maxHeartbeats 1000000 in
theorem T_callSI {α : Type} {inj : α → Option Value × Hp} {P : Option Value → Hp → Prop} {d : Option (Int32 × Hp)} {f : Int32 → Hp → Option α} (hd : decode cc pc = .ok (.invokestatic index, 3)) (hM : sm_MC y cc' nL' rt' n) (hi : Cond.static y ∈ wsL_law) (hln : Cond.methodLink own index y ∈ wsL_law) (hn : As.length = n) (hst : st0 = As.reverse ++ rest) (hW : (rest.map fun v => v.category).sum ≤ 8) (hroom : (d' + 1 ≤ rm.frames ∧ 40 * d' + 40 ≤ rm.locals) ∧ cs + mc' ≤ rm.cells ∧ sl + ms' ≤ rm.slots) (hC : ∀ P', OK jI d P' → sm_Ct l y cc' nL' rt' d' mc' ms' (As) σ P') (h : OK inj (bd d f) P)
    (kk : ∀ (r : Int32) (σ2 : Hp), OK inj (f r σ2) P → T l G own cc nL rm E Qs (cs + mc') (sl + ms') (pc + 3) lv (.int r :: rest) σ2) : T l G own cc nL rm E Qs cs sl pc lv st0 σ := by
  obtain ⟨r, hr, h⟩ := OK.bind h
  refine T_callS hd hM hi hln hn hst hW hroom (hC (fun v t => v = (some (.int r.1)) ∧ t = r.2) ⟨r, hr, rfl, rfl⟩) ?_
  rintro _ t9 ⟨rfl, e9⟩
  rw [e9]
  exact kk r.1 r.2 h
set_option maxHeartbeats 1000000 in
theorem T_callSR {α : Type} {inj : α → Option Value × Hp} {P : Option Value → Hp → Prop} {d : Option (Option Nat × Hp)} {f : Option Nat → Hp → Option α} (hd : decode cc pc = .ok (.invokestatic index, 3)) (hM : sm_MC y cc' nL' rt' n) (hi : Cond.static y ∈ wsL_law) (hln : Cond.methodLink own index y ∈ wsL_law) (hn : As.length = n) (hst : st0 = As.reverse ++ rest) (hW : (rest.map fun v => v.category).sum ≤ 8) (hroom : (d' + 1 ≤ rm.frames ∧ 40 * d' + 40 ≤ rm.locals) ∧ cs + mc' ≤ rm.cells ∧ sl + ms' ≤ rm.slots) (hC : ∀ P', OK jR d P' → sm_Ct l y cc' nL' rt' d' mc' ms' (As) σ P') (h : OK inj (bd d f) P)
    (kk : ∀ (r : Option Nat) (σ2 : Hp), OK inj (f r σ2) P → T l G own cc nL rm E Qs (cs + mc') (sl + ms') (pc + 3) lv (va_rf r :: rest) σ2) : T l G own cc nL rm E Qs cs sl pc lv st0 σ := by
  obtain ⟨r, hr, h⟩ := OK.bind h
  refine T_callS hd hM hi hln hn hst hW hroom (hC (fun v t => v = (some (va_rf r.1)) ∧ t = r.2) ⟨r, hr, rfl, rfl⟩) ?_
  rintro _ t9 ⟨rfl, e9⟩
  rw [e9]
  exact kk r.1 r.2 h
set_option maxHeartbeats 1000000 in
theorem T_callSV {α : Type} {inj : α → Option Value × Hp} {P : Option Value → Hp → Prop} {d : Option (Hp)} {f : Hp → Option α} (hd : decode cc pc = .ok (.invokestatic index, 3)) (hM : sm_MC y cc' nL' rt' n) (hi : Cond.static y ∈ wsL_law) (hln : Cond.methodLink own index y ∈ wsL_law) (hn : As.length = n) (hst : st0 = As.reverse ++ rest) (hW : (rest.map fun v => v.category).sum ≤ 8) (hroom : (d' + 1 ≤ rm.frames ∧ 40 * d' + 40 ≤ rm.locals) ∧ cs + mc' ≤ rm.cells ∧ sl + ms' ≤ rm.slots) (hC : ∀ P', OK jV d P' → sm_Ct l y cc' nL' rt' d' mc' ms' (As) σ P') (h : OK inj (d.bind f) P)
    (kk : ∀ (σ2 : Hp), OK inj (f σ2) P → T l G own cc nL rm E Qs (cs + mc') (sl + ms') (pc + 3) lv rest σ2) : T l G own cc nL rm E Qs cs sl pc lv st0 σ := by
  obtain ⟨r, hr, h⟩ := OK.bind h
  refine T_callS hd hM hi hln hn hst hW hroom (hC (fun v t => v = none ∧ t = r) ⟨r, hr, rfl, rfl⟩) ?_
  rintro _ t9 ⟨rfl, e9⟩
  rw [e9]
  exact kk r h
set_option maxHeartbeats 1000000 in
theorem T_callSNI {α : Type} {inj : α → Option Value × Hp} {P : Option Value → Hp → Prop} {d : Option (Int32 × Hp)} {f : Int32 → Hp → Option α} (hd : decode cc pc = .ok (.invokestatic index, 3)) (hM : sm_MC y cc' nL' rt' n) (hi : Cond.static y ∈ wsL_law) (hln : Cond.methodLinkNest own index y host ∈ sm_nest) (hn : As.length = n) (hst : st0 = As.reverse ++ rest) (hW : (rest.map fun v => v.category).sum ≤ 8) (hroom : (d' + 1 ≤ rm.frames ∧ 40 * d' + 40 ≤ rm.locals) ∧ cs + mc' ≤ rm.cells ∧ sl + ms' ≤ rm.slots) (hC : ∀ P', OK jI d P' → sm_Ct l y cc' nL' rt' d' mc' ms' (As) σ P') (h : OK inj (bd d f) P)
    (kk : ∀ (r : Int32) (σ2 : Hp), OK inj (f r σ2) P → T l G own cc nL rm E Qs (cs + mc') (sl + ms') (pc + 3) lv (.int r :: rest) σ2) : T l G own cc nL rm E Qs cs sl pc lv st0 σ := by
  obtain ⟨r, hr, h⟩ := OK.bind h
  refine T_callSN hd hM hi hln hn hst hW hroom (hC (fun v t => v = (some (.int r.1)) ∧ t = r.2) ⟨r, hr, rfl, rfl⟩) ?_
  rintro _ t9 ⟨rfl, e9⟩
  rw [e9]
  exact kk r.1 r.2 h
set_option maxHeartbeats 1000000 in
theorem T_callSNR {α : Type} {inj : α → Option Value × Hp} {P : Option Value → Hp → Prop} {d : Option (Option Nat × Hp)} {f : Option Nat → Hp → Option α} (hd : decode cc pc = .ok (.invokestatic index, 3)) (hM : sm_MC y cc' nL' rt' n) (hi : Cond.static y ∈ wsL_law) (hln : Cond.methodLinkNest own index y host ∈ sm_nest) (hn : As.length = n) (hst : st0 = As.reverse ++ rest) (hW : (rest.map fun v => v.category).sum ≤ 8) (hroom : (d' + 1 ≤ rm.frames ∧ 40 * d' + 40 ≤ rm.locals) ∧ cs + mc' ≤ rm.cells ∧ sl + ms' ≤ rm.slots) (hC : ∀ P', OK jR d P' → sm_Ct l y cc' nL' rt' d' mc' ms' (As) σ P') (h : OK inj (bd d f) P)
    (kk : ∀ (r : Option Nat) (σ2 : Hp), OK inj (f r σ2) P → T l G own cc nL rm E Qs (cs + mc') (sl + ms') (pc + 3) lv (va_rf r :: rest) σ2) : T l G own cc nL rm E Qs cs sl pc lv st0 σ := by
  obtain ⟨r, hr, h⟩ := OK.bind h
  refine T_callSN hd hM hi hln hn hst hW hroom (hC (fun v t => v = (some (va_rf r.1)) ∧ t = r.2) ⟨r, hr, rfl, rfl⟩) ?_
  rintro _ t9 ⟨rfl, e9⟩
  rw [e9]
  exact kk r.1 r.2 h
set_option maxHeartbeats 1000000 in
theorem T_callSNV {α : Type} {inj : α → Option Value × Hp} {P : Option Value → Hp → Prop} {d : Option (Hp)} {f : Hp → Option α} (hd : decode cc pc = .ok (.invokestatic index, 3)) (hM : sm_MC y cc' nL' rt' n) (hi : Cond.static y ∈ wsL_law) (hln : Cond.methodLinkNest own index y host ∈ sm_nest) (hn : As.length = n) (hst : st0 = As.reverse ++ rest) (hW : (rest.map fun v => v.category).sum ≤ 8) (hroom : (d' + 1 ≤ rm.frames ∧ 40 * d' + 40 ≤ rm.locals) ∧ cs + mc' ≤ rm.cells ∧ sl + ms' ≤ rm.slots) (hC : ∀ P', OK jV d P' → sm_Ct l y cc' nL' rt' d' mc' ms' (As) σ P') (h : OK inj (d.bind f) P)
    (kk : ∀ (σ2 : Hp), OK inj (f σ2) P → T l G own cc nL rm E Qs (cs + mc') (sl + ms') (pc + 3) lv rest σ2) : T l G own cc nL rm E Qs cs sl pc lv st0 σ := by
  obtain ⟨r, hr, h⟩ := OK.bind h
  refine T_callSN hd hM hi hln hn hst hW hroom (hC (fun v t => v = none ∧ t = r) ⟨r, hr, rfl, rfl⟩) ?_
  rintro _ t9 ⟨rfl, e9⟩
  rw [e9]
  exact kk r h
set_option maxHeartbeats 1000000 in
theorem T_callIV {α : Type} {inj : α → Option Value × Hp} {P : Option Value → Hp → Prop} {d : Option (Hp)} {f : Hp → Option α} (hd : decode cc pc = .ok (.invokespecial index, 3)) (hM : sm_MC y cc' nL' none n) (hi : Cond.instanceMethod y ∈ wsL_law ∧ y.name = "<init>") (hln : Cond.methodLink own index y ∈ wsL_law) (hn : As.length = n) (hst : st0 = As.reverse ++ .ref b :: rest) (hW : (rest.map fun v => v.category).sum ≤ 8) (hroom : (d' + 1 ≤ rm.frames ∧ 40 * d' + 40 ≤ rm.locals) ∧ cs + mc' ≤ rm.cells ∧ sl + ms' ≤ rm.slots) (hC : ∀ P', OK jV d P' → sm_Ct l y cc' nL' none d' mc' ms' (.ref b :: As) σ P') (h : OK inj (d.bind f) P)
    (kk : ∀ (σ2 : Hp), OK inj (f σ2) P → T l G own cc nL rm E Qs (cs + mc') (sl + ms') (pc + 3) lv rest σ2) : T l G own cc nL rm E Qs cs sl pc lv st0 σ := by
  obtain ⟨r, hr, h⟩ := OK.bind h
  refine T_callI hd hM hi hln hn hst hW hroom (hC (fun v t => v = none ∧ t = r) ⟨r, hr, rfl, rfl⟩) ?_
  rintro _ t9 ⟨rfl, e9⟩
  rw [e9]
  exact kk r h
set_option maxHeartbeats 1000000 in
theorem T_callINV {α : Type} {inj : α → Option Value × Hp} {P : Option Value → Hp → Prop} {d : Option (Hp)} {f : Hp → Option α} (hd : decode cc pc = .ok (.invokespecial index, 3)) (hM : sm_MC y cc' nL' none n) (hi : Cond.instanceMethod y ∈ wsL_law ∧ y.name = "<init>") (hln : Cond.methodLinkNest own index y host ∈ sm_nest) (hn : As.length = n) (hst : st0 = As.reverse ++ .ref b :: rest) (hW : (rest.map fun v => v.category).sum ≤ 8) (hroom : (d' + 1 ≤ rm.frames ∧ 40 * d' + 40 ≤ rm.locals) ∧ cs + mc' ≤ rm.cells ∧ sl + ms' ≤ rm.slots) (hC : ∀ P', OK jV d P' → sm_Ct l y cc' nL' none d' mc' ms' (.ref b :: As) σ P') (h : OK inj (d.bind f) P)
    (kk : ∀ (σ2 : Hp), OK inj (f σ2) P → T l G own cc nL rm E Qs (cs + mc') (sl + ms') (pc + 3) lv rest σ2) : T l G own cc nL rm E Qs cs sl pc lv st0 σ := by
  obtain ⟨r, hr, h⟩ := OK.bind h
  refine T_callIN hd hM hi hln hn hst hW hroom (hC (fun v t => v = none ∧ t = r) ⟨r, hr, rfl, rfl⟩) ?_
  rintro _ t9 ⟨rfl, e9⟩
  rw [e9]
  exact kk r h
end CALLS
/-! ends -/
section ENDS
variable {P : Option Value → Hp → Prop} {mc ms : Nat} {nme : String}
set_option maxHeartbeats 1000000 in
theorem T_ireturn {v : Int32} (hd : decode cc pc = .ok (.ireturn, 1)) (hc : cs ≤ mc) (hs : sl ≤ ms) (h : OK jI (some (v, σ)) P) : T l G own cc nL rm (sm_E (some .int) nme) (sm_Qs G P mc ms) cs sl pc lv [.int v] σ := by
  intro p e s m args below meth c H locs ls C0 he hR hS hl
  obtain ⟨hx, hb, -⟩ := id C0
  obtain ⟨r, hr, hp⟩ := h
  cases hr
  exact W.widen hc hs (W.iret (Qc := sm_Qm G P) hx hb he.1 (fun t ht hW => ⟨⟨_, σ, rfl, hp, by rw [ht]; exact hR⟩, fun q hq => by rw [ht]; exact hS.1 q hq⟩) hS.2 hd he.2.1)
set_option maxHeartbeats 1000000 in
theorem T_zreturn {v : Int32} (hd : decode cc pc = .ok (.ireturn, 1)) (hc : cs ≤ mc) (hs : sl ≤ ms) (h : OK jI (retZ v (v, σ)) P) : T l G own cc nL rm (sm_E (some .boolean) nme) (sm_Qs G P mc ms) cs sl pc lv [.int v] σ := by
  intro p e s m args below meth c H locs ls C0 he hR hS hl
  obtain ⟨hx, hb, -⟩ := id C0
  obtain ⟨r, hr, hp⟩ := h
  unfold retZ at hr
  split at hr
  · rename_i hz
    cases hr
    have hn : narrow .boolean (.int v) = .int v := by rcases hz with rfl | rfl <;> decide
    exact W.widen hc hs (W.zret (Qc := sm_Qm G P) hx hb he.1 hn (fun t ht hW => ⟨⟨_, σ, rfl, hp, by rw [ht]; exact hR⟩, fun q hq => by rw [ht]; exact hS.1 q hq⟩) hS.2 hd he.2.1)
  · cases hr
set_option maxHeartbeats 1000000 in
theorem T_vreturn (hd : decode cc pc = .ok (.return_, 1)) (hc : cs ≤ mc) (hs : sl ≤ ms) (h : OK jV (some σ) P) : T l G own cc nL rm (sm_E none nme) (sm_Qs G P mc ms) cs sl pc lv [] σ := by
  intro p e s m args below meth c H locs ls C0 he hR hS hl
  obtain ⟨hx, hb, -⟩ := id C0
  obtain ⟨r, hr, hp⟩ := h
  cases hr
  exact W.widen hc hs (W.vret (Qc := sm_Qm G P) hx hb he.1 (fun t ht hW => ⟨⟨_, σ, rfl, hp, by rw [ht]; exact hR⟩, fun q hq => by rw [ht]; exact hS.1 q hq⟩) hS.2 hd he.2.1)
set_option maxHeartbeats 1000000 in
theorem T_areturn {v : Option Nat} {C : String} (hd : decode cc pc = .ok (.areturn, 1)) (hc : cs ≤ mc) (hs : sl ≤ ms) (h : OK jR (some (v, σ)) P) : T l G own cc nL rm (sm_E (some (.object C)) nme) (sm_Qs G P mc ms) cs sl pc lv [va_rf v] σ := by
  intro p e s m args below meth c H locs ls C0 he hR hS hl
  obtain ⟨hx, hb, -⟩ := id C0
  obtain ⟨r, hr, hp⟩ := h
  cases hr
  exact W.widen hc hs (W.aret (Qc := sm_Qm G P) hx hb he.1 (Or.inl ⟨C, rfl⟩) (by cases v with | none => exact Or.inl rfl | some a => exact Or.inr ⟨a, rfl⟩) (fun t ht hW => ⟨⟨_, σ, rfl, hp, by rw [ht]; exact hR⟩, fun q hq => by rw [ht]; exact hS.1 q hq⟩) hS.2 hd he.2.1)
end ENDS
end ROWS
