/-! the class's reader: orders -/
def ow (ci : Nat → Nat → Int32) (q : Nat) (o : Ord4) : Nat → Nat → Int32 := va_up (va_up (va_up (va_up ci (54 + 1) (upd (ci (54 + 1)) q o.1)) (56 + 1) (upd (ci (56 + 1)) q o.2.1)) (58 + 1) (upd (ci (58 + 1)) q o.2.2.1)) (60 + 1) (upd (ci (60 + 1)) q o.2.2.2)
theorem kd54 : (kd 54 = 1 ∧ kd (54 + 1) = 100 + 80) ∧ (kd 56 = 1 ∧ kd (56 + 1) = 100 + 80) ∧ (kd 58 = 1 ∧ kd (58 + 1) = 100 + 80) ∧ (kd 60 = 1 ∧ kd (60 + 1) = 100 + 80) := by decide
theorem ow_ne {ci : Nat → Nat → Int32} {q : Nat} {o : Ord4} {j : Nat} (h : j < 55 ∨ 61 < j) : ow ci q o j = ci j := by
  unfold ow
  rw [up_ne (by omega), up_ne (by omega), up_ne (by omega), up_ne (by omega)]
/-- what the rows of the reader say of order t -/
def rowO (ci : Nat → Nat → Int32) (t : Nat) : Ord4 := (ci (54 + 1) t, ci (56 + 1) t, ci (58 + 1) t, ci (60 + 1) t)
theorem row_ow {ci : Nat → Nat → Int32} {q : Nat} {o : Ord4} : rowO (ow ci q o) q = o := by
  unfold rowO ow
  rw [up_ne (show (54 : Nat) + 1 ≠ 60 + 1 by omega), up_ne (show (54 : Nat) + 1 ≠ 58 + 1 by omega), up_ne (show (54 : Nat) + 1 ≠ 56 + 1 by omega), up_eq, upd_eq, up_ne (show (56 : Nat) + 1 ≠ 60 + 1 by omega), up_ne (show (56 : Nat) + 1 ≠ 58 + 1 by omega), up_eq, upd_eq, up_ne (show (58 : Nat) + 1 ≠ 60 + 1 by omega), up_eq, upd_eq, up_eq, upd_eq]
theorem row_ne {ci : Nat → Nat → Int32} {q t : Nat} {o : Ord4} (h : t ≠ q) : rowO (ow ci q o) t = rowO ci t := by
  unfold rowO ow
  rw [up_ne (show (54 : Nat) + 1 ≠ 60 + 1 by omega), up_ne (show (54 : Nat) + 1 ≠ 58 + 1 by omega), up_ne (show (54 : Nat) + 1 ≠ 56 + 1 by omega), up_eq, upd_ne h, up_ne (show (56 : Nat) + 1 ≠ 60 + 1 by omega), up_ne (show (56 : Nat) + 1 ≠ 58 + 1 by omega), up_eq, upd_ne h, up_ne (show (58 : Nat) + 1 ≠ 60 + 1 by omega), up_eq, upd_ne h, up_eq, upd_ne h]
theorem PadR.ow {ci cz : Nat → Nat → Int32} {p : Nat → Int32} {pl q : Nat} {o : Ord4} (h : PadR ci cz p pl) : PadR (ow ci q o) cz p pl := ⟨h.1, fun i hi => by rw [ow_ne (by omega)]; exact h.2 i hi⟩
theorem n99_le {p : Nat → Int32} {pl i : Nat} {v : Int32} {j : Nat} (hn : n99 (sgn p pl) i = some (v, j)) : j ≤ pl := by
  unfold n99 at hn
  by_cases hd : dg (sgn p pl i)
  · rw [if_pos hd] at hn
    have := dg_lt hd
    split at hn
    · rename_i hc
      have := dg_lt hc.2
      have := congrArg Prod.snd (Option.some.inj hn)
      dsimp only at this
      omega
    · have := congrArg Prod.snd (Option.some.inj hn)
      dsimp only at this
      omega
  · rw [if_neg hd] at hn
    cases hn
section RO
variable {σ : Hp} {x : Nat} {ci cz : Nat → Nat → Int32} {p : Nat → Int32} {pl i q : Nat}
theorem c_b131 (hq : q < 80) (k a b c : Int32) : D_X6_readOrder_b131 (x + 53) (nI q) k a b c (xh σ x ci cz) = some (xh σ x (ow ci q (k, a, b, c)) cz) := by
  unfold D_X6_readOrder_b131 ow
  rw [xr_1, Option.bind_some, x_wr kd54.1.1 kd54.1.2 hq, Option.bind_some, xr_2, Option.bind_some, x_wr kd54.2.1.1 kd54.2.1.2 hq, Option.bind_some, xr_3, Option.bind_some, x_wr kd54.2.2.1.1 kd54.2.2.1.2 hq, Option.bind_some, xr_4, Option.bind_some, x_wr kd54.2.2.2.1 kd54.2.2.2.2 hq, Option.bind_some]
  rw [up_ne (show (56 : Nat) + 1 ≠ 54 + 1 by omega), up_ne (show (58 : Nat) + 1 ≠ 56 + 1 by omega), up_ne (show (58 : Nat) + 1 ≠ 54 + 1 by omega), up_ne (show (60 : Nat) + 1 ≠ 58 + 1 by omega), up_ne (show (60 : Nat) + 1 ≠ 56 + 1 by omega), up_ne (show (60 : Nat) + 1 ≠ 54 + 1 by omega)]
/-- how an order is read once its kind is known -/
def pKind (g : Nat → Int32) (k : Int32) (i : Nat) : Option Ord4 × Nat := if k = 43 then pMir g i else if k = 97 then pAim g i else match n99 g i with
  | none => (none, i)
  | some (a, j) => (some (k, a, 0, 0), j)
def ROut (σ : Hp) (x : Nat) (ci cz : Nat → Nat → Int32) (q : Nat) (D : Option Hp) (r : Option Ord4 × Nat) : Prop := ∃ cz' o, D = some (xh σ x (ow ci q o) cz') ∧ RS cz' r.2 (r.1 == none) ∧ z53 cz cz' ∧ ∀ o', r.1 = some o' → o = o'
theorem c_b57_n (h : PadR ci cz p pl) {br : Bool} (hr : RS cz i br) (hi : i ≤ 80) (hq : q < 80) {k : Int32} (hk : k ≠ 43 ∧ k ≠ 97) : ∃ cz' o, D_X6_readOrder_b57 (x + 53) (nI q) k 1 (x + 53) (xh σ x ci cz) = some (xh σ x (ow ci q o) cz') ∧ RS cz' i true ∧ z53 cz cz' := by
  have zz := (z53.rfl (cz := cz)).up (show 7 ≠ 5 by omega) (bI true)
  obtain ⟨z1, w1, w2, w3⟩ := c_num_n (σ := σ) (x := x) (h.z zz) (hr.p7 true) hi (Or.inl rfl)
  refine ⟨z1, (k, 0, 0, 0), ?_, w2, zz.tr w3⟩
  unfold D_X6_readOrder_b57
  rw [xr_z7_1, Option.bind_some]
  rw [show bI true = (1 : Int32) from rfl] at w1
  rw [w1, bd_some, if_neg hk.1, if_neg hk.2, c_b131 hq]
theorem c_b57_y (h : PadR ci cz p pl) {br : Bool} (hr : RS cz i br) (hi : i ≤ pl) (hq : q < 80) (k : Int32) : ROut σ x ci cz q (D_X6_readOrder_b57 (x + 53) (nI q) k 0 (x + 53) (xh σ x ci cz)) (pKind (sgn p pl) k i) := by
  have hpl := h.1.2
  have zz := (z53.rfl (cz := cz)).up (show 7 ≠ 5 by omega) (bI false)
  have r0 := hr.p7 false
  have h0 := h.z zz
  have z3 : (3 : Int32).toInt = 3 := rfl
  have bf : bI false = (0 : Int32) := rfl
  unfold pKind
  -- the first number
  rcases hn : n99 (sgn p pl) i with _ | ⟨a, j⟩
  · obtain ⟨z1, w1, w2, w3⟩ := c_num_n (σ := σ) (x := x) h0 r0 (by omega) (Or.inr hn)
    have h1 := h0.z w3
    rw [bf] at w1
    by_cases c1 : k = 43
    · rw [if_pos c1]
      unfold pMir
      rw [hn]
      dsimp only
      obtain ⟨z2, q1, q2, q3⟩ := c_exp_n (σ := σ) (x := x) (c := 46) h1 w2 (by omega) (Or.inl rfl)
      obtain ⟨z4, p1, p2, p3⟩ := c_num_n (σ := σ) (x := x) (h1.z q3) q2 (by omega) (Or.inl rfl)
      refine ⟨z4, (k, 0, 0, 0), ?_, p2, ((zz.tr w3).tr q3).tr p3, fun o' ho => by cases ho⟩
      unfold D_X6_readOrder_b57
      rw [xr_z7_0, Option.bind_some, w1, bd_some, if_pos c1, q1, Option.bind_some, p1, bd_some, c_acc_n ((h1.z q3).z p3) p2 (by omega) (Or.inl rfl), bd_some, if_pos rfl]
      unfold D_X6_readOrder_b107
      rw [c_b131 hq]
    · rw [if_neg c1]
      by_cases c2 : k = 97
      · rw [if_pos c2]
        unfold pAim
        rw [hn]
        dsimp only
        obtain ⟨z2, q1, q2, q3⟩ := c_exp_n (σ := σ) (x := x) (c := 62) h1 w2 (by omega) (Or.inl rfl)
        obtain ⟨z4, p1, p2, p3⟩ := c_dig_n (σ := σ) (x := x) (h1.z q3) q2 (by omega) (mx := 3) (by decide) (Or.inl rfl)
        refine ⟨z4, (k, 0, 0, 0), ?_, p2, ((zz.tr w3).tr q3).tr p3, fun o' ho => by cases ho⟩
        unfold D_X6_readOrder_b57
        rw [xr_z7_0, Option.bind_some, w1, bd_some, if_neg c1, if_pos c2, q1, Option.bind_some, p1, bd_some, c_b131 hq]
      · rw [if_neg c2]
        refine ⟨z1, (k, 0, 0, 0), ?_, w2, zz.tr w3, fun o' ho => by cases ho⟩
        unfold D_X6_readOrder_b57
        rw [xr_z7_0, Option.bind_some, w1, bd_some, if_neg c1, if_neg c2, c_b131 hq]
  · obtain ⟨z1, w1, w2, w3⟩ := c_num_y (σ := σ) (x := x) h0 r0 (by omega) hn
    have h1 := h0.z w3
    rw [bf] at w1
    have hj : j ≤ pl := n99_le hn
    by_cases c1 : k = 43
    · rw [if_pos c1]
      unfold pMir
      rw [hn]
      dsimp only
      by_cases c46 : sgn p pl j = 46
      · rw [if_pos c46]
        have hj1 := sg_lt (by decide) c46
        obtain ⟨z2, q1, q2, q3⟩ := c_exp_y (σ := σ) (x := x) h1 w2 (by omega) c46
        have h2 := h1.z q3
        rcases hn2 : n99 (sgn p pl) (j + 1) with _ | ⟨b, l⟩
        · dsimp only
          obtain ⟨z4, p1, p2, p3⟩ := c_num_n (σ := σ) (x := x) h2 q2 (by omega) (Or.inr hn2)
          refine ⟨z4, (k, a, 0, 0), ?_, p2, ((zz.tr w3).tr q3).tr p3, fun o' ho => by cases ho⟩
          unfold D_X6_readOrder_b57
          rw [xr_z7_0, Option.bind_some, w1, bd_some, if_pos c1, q1, Option.bind_some, p1, bd_some, c_acc_n (h2.z p3) p2 (by omega) (Or.inl rfl), bd_some, if_pos rfl]
          unfold D_X6_readOrder_b107
          rw [c_b131 hq]
        · dsimp only
          obtain ⟨z4, p1, p2, p3⟩ := c_num_y (σ := σ) (x := x) h2 q2 (by omega) hn2
          have h3 := h2.z p3
          have hl := n99_ge hn2
          by_cases c97 : sgn p pl l = 97
          · rw [if_pos c97]
            have hl1 := sg_lt (by decide) c97
            obtain ⟨z5, s1, s2, s3⟩ := c_acc_y (σ := σ) (x := x) h3 p2 (by omega) c97
            have h4 := h3.z s3
            unfold n3
            by_cases c3 : rng (sgn p pl (l + 1)) 48 51
            · rw [if_pos c3]
              dsimp only
              obtain ⟨z6, t1, t2, t3⟩ := c_dig_y (σ := σ) (x := x) h4 s2 (by omega) (mx := 3) (by decide) (by rw [z3]; exact c3)
              refine ⟨z6, (43, a, b, sgn p pl (l + 1) - 48), ?_, t2, ((((zz.tr w3).tr q3).tr p3).tr s3).tr t3, fun o' ho => by cases ho; rfl⟩
              unfold D_X6_readOrder_b57
              rw [xr_z7_0, Option.bind_some, w1, bd_some, if_pos c1, q1, Option.bind_some, p1, bd_some, s1, bd_some, if_neg (by decide), t1, bd_some]
              unfold D_X6_readOrder_b107
              rw [c_b131 hq, c1]
            · rw [if_neg c3]
              dsimp only
              obtain ⟨z6, t1, t2, t3⟩ := c_dig_n (σ := σ) (x := x) h4 s2 (by omega) (mx := 3) (by decide) (Or.inr (by rw [z3]; exact c3))
              refine ⟨z6, (k, a, b, 0), ?_, t2, ((((zz.tr w3).tr q3).tr p3).tr s3).tr t3, fun o' ho => by cases ho⟩
              unfold D_X6_readOrder_b57
              rw [xr_z7_0, Option.bind_some, w1, bd_some, if_pos c1, q1, Option.bind_some, p1, bd_some, s1, bd_some, if_neg (by decide), t1, bd_some]
              unfold D_X6_readOrder_b107
              rw [c_b131 hq]
          · rw [if_neg c97]
            refine ⟨z4, (43, a, b, 0), ?_, p2, ((zz.tr w3).tr q3).tr p3, fun o' ho => by cases ho; rfl⟩
            unfold D_X6_readOrder_b57
            have hl80 : l ≤ pl := n99_le hn2
            rw [xr_z7_0, Option.bind_some, w1, bd_some, if_pos c1, q1, Option.bind_some, p1, bd_some, c_acc_n h3 p2 (by omega) (Or.inr c97), bd_some, if_pos rfl]
            unfold D_X6_readOrder_b107
            rw [c_b131 hq, c1]
      · rw [if_neg c46]
        obtain ⟨z2, q1, q2, q3⟩ := c_exp_n (σ := σ) (x := x) (c := 46) h1 w2 (by omega) (Or.inr c46)
        obtain ⟨z4, p1, p2, p3⟩ := c_num_n (σ := σ) (x := x) (h1.z q3) q2 (by omega) (Or.inl rfl)
        refine ⟨z4, (k, a, 0, 0), ?_, p2, ((zz.tr w3).tr q3).tr p3, fun o' ho => by cases ho⟩
        unfold D_X6_readOrder_b57
        rw [xr_z7_0, Option.bind_some, w1, bd_some, if_pos c1, q1, Option.bind_some, p1, bd_some, c_acc_n ((h1.z q3).z p3) p2 (by omega) (Or.inl rfl), bd_some, if_pos rfl]
        unfold D_X6_readOrder_b107
        rw [c_b131 hq]
    · rw [if_neg c1]
      by_cases c2 : k = 97
      · rw [if_pos c2]
        unfold pAim
        rw [hn]
        dsimp only
        by_cases c62 : sgn p pl j = 62
        · rw [if_pos c62]
          have hj1 := sg_lt (by decide) c62
          obtain ⟨z2, q1, q2, q3⟩ := c_exp_y (σ := σ) (x := x) h1 w2 (by omega) c62
          have h2 := h1.z q3
          unfold n3
          by_cases c3 : rng (sgn p pl (j + 1)) 48 51
          · rw [if_pos c3]
            dsimp only
            obtain ⟨z6, t1, t2, t3⟩ := c_dig_y (σ := σ) (x := x) h2 q2 (by omega) (mx := 3) (by decide) (by rw [z3]; exact c3)
            refine ⟨z6, (97, a, sgn p pl (j + 1) - 48, 0), ?_, t2, ((zz.tr w3).tr q3).tr t3, fun o' ho => by cases ho; rfl⟩
            unfold D_X6_readOrder_b57
            rw [xr_z7_0, Option.bind_some, w1, bd_some, if_neg c1, if_pos c2, q1, Option.bind_some, t1, bd_some, c_b131 hq, c2]
          · rw [if_neg c3]
            dsimp only
            obtain ⟨z6, t1, t2, t3⟩ := c_dig_n (σ := σ) (x := x) h2 q2 (by omega) (mx := 3) (by decide) (Or.inr (by rw [z3]; exact c3))
            refine ⟨z6, (k, a, 0, 0), ?_, t2, ((zz.tr w3).tr q3).tr t3, fun o' ho => by cases ho⟩
            unfold D_X6_readOrder_b57
            rw [xr_z7_0, Option.bind_some, w1, bd_some, if_neg c1, if_pos c2, q1, Option.bind_some, t1, bd_some, c_b131 hq]
        · rw [if_neg c62]
          obtain ⟨z2, q1, q2, q3⟩ := c_exp_n (σ := σ) (x := x) (c := 62) h1 w2 (by omega) (Or.inr c62)
          obtain ⟨z4, p1, p2, p3⟩ := c_dig_n (σ := σ) (x := x) (h1.z q3) q2 (by omega) (mx := 3) (by decide) (Or.inl rfl)
          refine ⟨z4, (k, a, 0, 0), ?_, p2, ((zz.tr w3).tr q3).tr p3, fun o' ho => by cases ho⟩
          unfold D_X6_readOrder_b57
          rw [xr_z7_0, Option.bind_some, w1, bd_some, if_neg c1, if_pos c2, q1, Option.bind_some, p1, bd_some, c_b131 hq]
      · rw [if_neg c2]
        refine ⟨z1, (k, a, 0, 0), ?_, w2, zz.tr w3, fun o' ho => by cases ho; rfl⟩
        unfold D_X6_readOrder_b57
        rw [xr_z7_0, Option.bind_some, w1, bd_some, if_neg c1, if_neg c2, c_b131 hq]
end RO
