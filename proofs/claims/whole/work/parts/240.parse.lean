/-! small arithmetic on ints, and how the orders on the pad are read -/
theorem i_add {a b : Int32} (h1 : -2147483648 ≤ a.toInt + b.toInt) (h2 : a.toInt + b.toInt < 2147483648) : (a + b).toInt = a.toInt + b.toInt := by
  rw [Int32.toInt_add, Int.bmod_eq_of_le (by omega) (by omega)]
theorem i_sub {a b : Int32} (h1 : -2147483648 ≤ a.toInt - b.toInt) (h2 : a.toInt - b.toInt < 2147483648) : (a - b).toInt = a.toInt - b.toInt := by
  rw [Int32.toInt_sub, Int.bmod_eq_of_le (by omega) (by omega)]
theorem i_mul {a b : Int32} (h1 : -2147483648 ≤ a.toInt * b.toInt) (h2 : a.toInt * b.toInt < 2147483648) : (a * b).toInt = a.toInt * b.toInt := by
  rw [Int32.toInt_mul, Int.bmod_eq_of_le (by omega) (by omega)]
theorem i_nI {a : Int32} {n : Nat} (h : a.toInt = (n : Int)) (hn : n < 2147483648) : a = nI n := by
  rw [pu_eq, nI_toInt (by omega)]; exact h
theorem i_mul10 {b : Int32} (h1 : -2147483648 ≤ 10 * b.toInt) (h2 : 10 * b.toInt < 2147483648) : (10 * b).toInt = 10 * b.toInt := i_mul (a := 10) h1 h2
abbrev Ord4 : Type := Int32 × Int32 × Int32 × Int32
def sgn (p : Nat → Int32) (pl i : Nat) : Int32 := if i < pl then p i else 0
abbrev dg (x : Int32) : Prop := rng x 48 57
def n99 (g : Nat → Int32) (i : Nat) : Option (Int32 × Nat) := if dg (g i) then (if g i ≠ 48 ∧ dg (g (i + 1)) then some (10 * (g i - 48) + g (i + 1) - 48, i + 2) else some (g i - 48, i + 1)) else none
def n3 (g : Nat → Int32) (i : Nat) : Option (Int32 × Nat) := if rng (g i) 48 51 then some (g i - 48, i + 1) else none
def pMir (g : Nat → Int32) (i : Nat) : Option Ord4 × Nat := match n99 g i with
  | none => (none, i)
  | some (a, j) => if g j = 46 then (match n99 g (j + 1) with
    | none => (none, j + 1)
    | some (b, k) => if g k = 97 then (match n3 g (k + 1) with
      | none => (none, k + 1)
      | some (c, l) => (some (43, a, b, c), l)) else (some (43, a, b, 0), k)) else (none, j)
def pAim (g : Nat → Int32) (i : Nat) : Option Ord4 × Nat := match n99 g i with
  | none => (none, i)
  | some (a, j) => if g j = 62 then (match n3 g (j + 1) with
    | none => (none, j + 1)
    | some (b, k) => (some (97, a, b, 0), k)) else (none, j)
def pOne (g : Nat → Int32) (i : Nat) : Option Ord4 × Nat := match n99 g (i + 1) with
  | none => (none, i + 1)
  | some (a, j) => (some (g i, a, 0, 0), j)
def pOrd (g : Nat → Int32) (i : Nat) : Option Ord4 × Nat := if g i = 43 then pMir g (i + 1) else if g i = 97 then pAim g (i + 1) else if g i = 120 ∨ g i = 119 ∨ g i = 118 ∨ g i = 116 then pOne g i else (none, i)
def pAll (g : Nat → Int32) : Nat → Nat → Option (List Ord4) × Nat
  | 0, i => (none, i)
  | n + 1, i => match pOrd g i with
    | (none, j) => (none, j)
    | (some o, j) => if g j = 59 then (match pAll g n (j + 1) with
      | (none, k) => (none, k)
      | (some l, k) => (some (o :: l), k)) else (some [o], j)
/-- reading never goes past the end -/
theorem sgn_ge {p : Nat → Int32} {pl i : Nat} (h : pl ≤ i) : sgn p pl i = 0 := by unfold sgn; rw [if_neg (by omega)]
theorem sgn_lt {p : Nat → Int32} {pl i : Nat} (h : i < pl) : sgn p pl i = p i := by unfold sgn; rw [if_pos h]
theorem sgn_in {p : Nat → Int32} {pl i : Nat} (h : sgn p pl i ≠ 0) : i < pl := by
  rcases Nat.lt_or_ge i pl with q | q
  · exact q
  · exact absurd (sgn_ge q) h
theorem sgn_rng {p : Nat → Int32} {pl i : Nat} {lo hi : Int} (h : rng (sgn p pl i) lo hi) (hl : 0 < lo) : i < pl := sgn_in (fun q => by rw [q] at h; have := h.1; have e : (0 : Int32).toInt = 0 := rfl; omega)
section P1
variable {σ : Hp} {m : Nat} {it : Nat → Int32} {ar : Nat → Nat → Int32} {p : Nat → Int32} {pl i : Nat}
/-- the reference reads the pad p (pl signs) at place i -/
def Rd (it : Nat → Int32) (ar : Nat → Nat → Int32) (p : Nat → Int32) (pl i : Nat) : Prop := (it 12 = nI pl ∧ pl ≤ 80) ∧ (∀ k, k < pl → ar 11 k = p k) ∧ it 13 = nI i ∧ i ≤ pl
def sm13 (it it' : Nat → Int32) : Prop := ∀ k, k ≠ 13 → k ≠ 14 → it' k = it k
theorem Rd.to {it' : Nat → Int32} {j : Nat} (h : Rd it ar p pl i) (hs : sm13 it it') (h13 : it' 13 = nI j) (hj : j ≤ pl) : Rd it' ar p pl j := ⟨⟨by rw [hs 12 (by omega) (by omega)]; exact h.1.1, h.1.2⟩, h.2.1, h13, hj⟩
theorem sm13.rfl : sm13 it it := fun _ _ _ => Eq.refl _
theorem sm13.trans {it' it2 : Nat → Int32} (h : sm13 it it') (h2 : sm13 it' it2) : sm13 it it2 := fun k a b => (h2 k a b).trans (h k a b)
theorem sm13.p13 {it' : Nat → Int32} {v : Int32} (h : sm13 it it') : sm13 it (upd it' 13 v) := fun k a b => (upd_ne a).trans (h k a b)
theorem sm13.p14 {it' : Nat → Int32} {v : Int32} (h : sm13 it it') : sm13 it (upd it' 14 v) := fun k a b => (upd_ne b).trans (h k a b)
theorem m_here (h : Rd it ar p pl i) (lo hi : Int32) (hl : 0 < lo.toInt) : D_X10_isHere m lo hi (mh σ m it ar) = some (if rng (sgn p pl i) lo.toInt hi.toInt then 1 else 0, mh σ m it ar) := by
  obtain ⟨⟨h1, h2⟩, h3, h4, h5⟩ := h
  unfold D_X10_isHere
  rw [mh_isO, Option.bind_some, mh_i13, Option.bind_some, mh_i12, Option.bind_some, h1, h4]
  rcases Nat.lt_or_ge i pl with q | q
  · rw [if_neg (nI_ge (a := i) (b := pl) (by omega) (by omega)), mh_r11, Option.bind_some, Option.bind_some, mh_ld 11 i (nI_toInt (by omega)) (by omega) (by omega) (by simp [msz]; omega), Option.bind_some, isIn_eq, bd_some, h3 i q, sgn_lt q]
    rw [Int32.toInt_toInt64, Int32.toInt_toInt64, Int32.toInt_toInt64]
    by_cases c : rng (p i) lo.toInt hi.toInt
    · rw [if_pos c, if_neg (by decide), retZ_1]
    · rw [if_neg c, if_pos rfl, retZ_0]
  · have e : i = pl := by omega
    subst e
    rw [if_pos (Int32.le_refl _), retZ_0, sgn_ge (Nat.le_refl _), if_neg (fun c => by have := c.1; have e : (0 : Int32).toInt = 0 := Eq.refl _; omega)]
theorem m_takes_y (h : Rd it ar p pl i) {c : Int32} (hl : 0 < c.toInt) (hc : sgn p pl i = c) : D_X10_takes m c (mh σ m it ar) = some (1, mh σ m (upd it 13 (nI (i + 1))) ar) := by
  unfold D_X10_takes D_X10_takes_b21
  rw [mh_isO, Option.bind_some, m_here h c c hl, bd_some, mh_i13, Option.bind_some, if_pos (show rng (sgn p pl i) c.toInt c.toInt by rw [hc]; exact ⟨Int.le_refl _, Int.le_refl _⟩), if_neg (by decide), mh_p13, Option.bind_some, retZ_1, h.2.2.1, nI_1]
theorem m_takes_n (h : Rd it ar p pl i) {c : Int32} (hl : 0 < c.toInt) (hc : sgn p pl i ≠ c) : D_X10_takes m c (mh σ m it ar) = some (0, mh σ m it ar) := by
  unfold D_X10_takes D_X10_takes_b21
  rw [mh_isO, Option.bind_some, m_here h c c hl, bd_some, mh_i13, Option.bind_some, if_neg (show ¬ rng (sgn p pl i) c.toInt c.toInt from fun q => hc (by rw [pu_eq]; have := q.1; have := q.2; omega)), if_pos rfl, mh_p13, Option.bind_some, retZ_0, h.2.2.1, Int32.add_zero, ← h.2.2.1, upd_same]
theorem m_num_n (h : Rd it ar p pl i) {mx : Int32} (hc : ¬ dg (sgn p pl i)) : D_X10_readsNumber m mx (mh σ m it ar) = some (0, mh σ m it ar) := by
  unfold D_X10_readsNumber
  rw [mh_isO, Option.bind_some, m_here h 48 57 (by decide), bd_some, if_neg (show ¬ rng (sgn p pl i) (48 : Int32).toInt (57 : Int32).toInt from hc), if_pos rfl, retZ_0]
theorem dg_lt {p : Nat → Int32} {pl i : Nat} (h : dg (sgn p pl i)) : i < pl := sgn_rng h (by omega)
theorem dg_val {x : Int32} (h : dg x) : (x - 48).toInt = x.toInt - 48 := i_sub (by have := h.1; have e : (48 : Int32).toInt = 48 := Eq.refl _; omega) (by have := h.2; have e : (48 : Int32).toInt = 48 := Eq.refl _; omega)
theorem ld11 (h : Rd it ar p pl i) (hi : i < pl) : ldI (mh σ m it ar) (m + 11) (it 13) = some (sgn p pl i) := by
  rw [h.2.2.1, mh_ld 11 i (nI_toInt (by have := h.1.2; omega)) (by omega) (by omega) (by have := h.1.2; simp [msz]; omega), h.2.1 i hi, sgn_lt hi]
theorem m_w55_stop (h : Rd it ar p pl i) {mx : Int32} (kx : Hp → Option (Int32 × Hp)) (f : Nat) (hs : it 14 = 0 ∨ ¬ dg (sgn p pl i) ∨ mx < 10 * it 14 + sgn p pl i - 48) : D_X10_readsNumber_w55 m mx kx (f + 1) (mh σ m it ar) = kx (mh σ m it ar) := by
  unfold D_X10_readsNumber_w55
  rw [mh_i14, Option.bind_some]
  by_cases c0 : it 14 ≤ 0
  · rw [if_pos c0]
  · have c1 : it 14 ≠ 0 := fun e => c0 (by rw [e]; decide)
    rw [if_neg c0, m_here h 48 57 (by decide), bd_some]
    by_cases c2 : dg (sgn p pl i)
    · rw [if_pos (show rng (sgn p pl i) (48 : Int32).toInt (57 : Int32).toInt from c2), if_neg (by decide), mh_i14, Option.bind_some, mh_r11, Option.bind_some, mh_i13, Option.bind_some, ld11 h (dg_lt c2), Option.bind_some]
      rcases hs with q | q | q
      · exact absurd q c1
      · exact absurd c2 q
      · rw [if_pos q]
    · rw [if_neg (show ¬ rng (sgn p pl i) (48 : Int32).toInt (57 : Int32).toInt from c2), if_pos rfl]
theorem m_w55_step (h : Rd it ar p pl i) {mx : Int32} (kx : Hp → Option (Int32 × Hp)) (f : Nat) (h0 : ¬ it 14 ≤ 0) (hd : dg (sgn p pl i)) (hm : ¬ mx < 10 * it 14 + sgn p pl i - 48) : D_X10_readsNumber_w55 m mx kx (f + 1) (mh σ m it ar) = D_X10_readsNumber_w55 m mx kx f (mh σ m (upd (upd it 14 (10 * it 14 + sgn p pl i - 48)) 13 (nI (i + 1))) ar) := by
  conv => lhs; unfold D_X10_readsNumber_w55
  rw [mh_i14, Option.bind_some, if_neg h0, m_here h 48 57 (by decide), bd_some, if_pos (show rng (sgn p pl i) (48 : Int32).toInt (57 : Int32).toInt from hd), if_neg (by decide), mh_i14, Option.bind_some, mh_r11, Option.bind_some, mh_i13, Option.bind_some, ld11 h (dg_lt hd), Option.bind_some, if_neg hm, Option.bind_some, Option.bind_some, Option.bind_some, ld11 h (dg_lt hd), Option.bind_some, mh_p14, Option.bind_some, mh_i13, Option.bind_some, upd_ne (by omega), mh_p13, Option.bind_some, h.2.2.1, nI_1]
theorem m_num99 (h : Rd it ar p pl i) {v : Int32} {j : Nat} (hn : n99 (sgn p pl) i = some (v, j)) : ∃ it', D_X10_readsNumber m 99 (mh σ m it ar) = some (1, mh σ m it' ar) ∧ Rd it' ar p pl j ∧ sm13 it it' ∧ it' 14 = v := by
  unfold n99 at hn
  by_cases hd : dg (sgn p pl i)
  · rw [if_pos hd] at hn
    have hi := dg_lt hd
    have ev := dg_val hd
    have b1 := hd.1
    have b2 := hd.2
    have e99 : (99 : Int32).toInt = 99 := Eq.refl _
    have e10 : (10 : Int32).toInt = 10 := Eq.refl _
    have e48 : (48 : Int32).toInt = 48 := Eq.refl _
    obtain ⟨f, hf⟩ : ∃ f, FU = f + 1 + 1 + 1 := ⟨4997, FU_eq⟩
    generalize h1 : upd (upd it 14 (sgn p pl i - 48)) 13 (nI (i + 1)) = it1
    have s1 : sm13 it it1 := h1 ▸ (sm13.rfl.p14).p13
    have r1 : Rd it1 ar p pl (i + 1) := h.to s1 (h1 ▸ upd_eq) (by omega)
    have v1 : it1 14 = sgn p pl i - 48 := by rw [← h1, upd_ne (by omega), upd_eq]
    have st : D_X10_readsNumber m 99 (mh σ m it ar) = D_X10_readsNumber_w55 m 99 (fun s41 =>
      retZ (1 : Int32) ((1 : Int32), s41)
      ) (f + 1 + 1 + 1) (mh σ m it1 ar) := by
      unfold D_X10_readsNumber
      rw [mh_isO, Option.bind_some, m_here h 48 57 (by decide), bd_some, if_pos (show rng (sgn p pl i) (48 : Int32).toInt (57 : Int32).toInt from hd), if_neg (by decide), mh_r11, Option.bind_some, mh_i13, Option.bind_some, ld11 h hi, Option.bind_some, if_pos (by rw [pu_le, ev]; omega), Option.bind_some, Option.bind_some, ld11 h hi, Option.bind_some, mh_p14, Option.bind_some, mh_i13, Option.bind_some, upd_ne (by omega), mh_p13, Option.bind_some, h.2.2.1, nI_1, h1, hf]
    by_cases h2 : sgn p pl i ≠ 48 ∧ dg (sgn p pl (i + 1))
    · rw [if_pos h2] at hn
      have hv := congrArg Prod.fst (Option.some.inj hn)
      have hj := congrArg Prod.snd (Option.some.inj hn)
      dsimp only at hv hj
      have ev2 : (10 * (sgn p pl i - 48) + sgn p pl (i + 1) - 48 : Int32).toInt = 10 * ((sgn p pl i).toInt - 48) + (sgn p pl (i + 1)).toInt - 48 := by
        have c1 := h2.2.1
        have c2 := h2.2.2
        have m1 : (10 * (sgn p pl i - 48) : Int32).toInt = 10 * ((sgn p pl i).toInt - 48) := by rw [i_mul10 (by omega) (by omega), ev]
        rw [i_sub (by rw [i_add (by omega) (by omega)]; omega) (by rw [i_add (by omega) (by omega)]; omega), i_add (by omega) (by omega), m1, e48]
      have hp : 0 < (sgn p pl i).toInt - 48 := by
        have : (sgn p pl i).toInt ≠ 48 := fun q => h2.1 (by rw [pu_eq, e48]; exact q)
        omega
      have hi2 := dg_lt h2.2
      have c1 := h2.2.1
      have c2 := h2.2.2
      rw [m_w55_step r1 _ _ (by rw [v1, pu_le, ev]; have e : (0 : Int32).toInt = 0 := Eq.refl _; omega) h2.2 (by rw [v1, pu_lt, ev2]; omega)] at st
      generalize h3 : upd (upd it1 14 (10 * it1 14 + sgn p pl (i + 1) - 48)) 13 (nI (i + 1 + 1)) = it2 at st
      have s2 : sm13 it it2 := s1.trans (h3 ▸ (sm13.rfl.p14).p13)
      have r2 : Rd it2 ar p pl (i + 2) := h.to s2 (h3 ▸ upd_eq) (by omega)
      have v2 : it2 14 = 10 * (sgn p pl i - 48) + sgn p pl (i + 1) - 48 := by rw [← h3, upd_ne (by omega), upd_eq, v1]
      refine ⟨it2, ?_, hj ▸ r2, s2, v2.trans hv⟩
      rw [st, m_w55_stop r2 _ _ ?_, retZ_1]
      by_cases h4 : dg (sgn p pl (i + 2))
      · right; right
        have d1 := h4.1
        have d2 := h4.2
        have m2 : (10 * it2 14 : Int32).toInt = 10 * (10 * ((sgn p pl i).toInt - 48) + (sgn p pl (i + 1)).toInt - 48) := by rw [i_mul10 (by rw [v2]; omega) (by rw [v2]; omega), v2, ev2]
        rw [pu_lt, i_sub (by rw [i_add (by omega) (by omega)]; omega) (by rw [i_add (by omega) (by omega)]; omega), i_add (by omega) (by omega), m2]
        omega
      · exact Or.inr (Or.inl h4)
    · rw [if_neg h2] at hn
      have hv := congrArg Prod.fst (Option.some.inj hn)
      have hj := congrArg Prod.snd (Option.some.inj hn)
      dsimp only at hv hj
      refine ⟨it1, ?_, hj ▸ r1, s1, v1.trans hv⟩
      rw [st, m_w55_stop r1 _ _ ?_, retZ_1]
      by_cases h4 : dg (sgn p pl (i + 1))
      · left
        rw [v1]
        by_cases h5 : sgn p pl i = 48
        · rw [h5]; rfl
        · exact absurd ⟨h5, h4⟩ h2
      · exact Or.inr (Or.inl h4)
  · rw [if_neg hd] at hn
    exact absurd hn (by simp)
theorem n99_none {g : Nat → Int32} {i : Nat} (h : n99 g i = none) : ¬ dg (g i) := by
  intro q
  unfold n99 at h
  rw [if_pos q] at h
  split at h <;> simp at h
theorem m_num3_n (h : Rd it ar p pl i) (hc : n3 (sgn p pl) i = none) : D_X10_readsNumber m 3 (mh σ m it ar) = some (0, mh σ m it ar) := by
  unfold n3 at hc
  have hc : ¬ rng (sgn p pl i) 48 51 := by
    intro q
    rw [if_pos q] at hc
    simp at hc
  by_cases hd : dg (sgn p pl i)
  · unfold D_X10_readsNumber
    rw [mh_isO, Option.bind_some, m_here h 48 57 (by decide), bd_some, if_pos (show rng (sgn p pl i) (48 : Int32).toInt (57 : Int32).toInt from hd), if_neg (by decide), mh_r11, Option.bind_some, mh_i13, Option.bind_some, ld11 h (dg_lt hd), Option.bind_some, if_neg (fun q => hc ⟨hd.1, by
      rw [pu_le, dg_val hd] at q
      have e : (3 : Int32).toInt = 3 := Eq.refl _
      omega⟩), retZ_0]
  · exact m_num_n h hd
theorem m_num3 (h : Rd it ar p pl i) {v : Int32} {j : Nat} (hn : n3 (sgn p pl) i = some (v, j)) : ∃ it', D_X10_readsNumber m 3 (mh σ m it ar) = some (1, mh σ m it' ar) ∧ Rd it' ar p pl j ∧ sm13 it it' ∧ it' 14 = v := by
  unfold n3 at hn
  by_cases hd3 : rng (sgn p pl i) 48 51
  · rw [if_pos hd3] at hn
    have hv := congrArg Prod.fst (Option.some.inj hn)
    have hj := congrArg Prod.snd (Option.some.inj hn)
    dsimp only at hv hj
    have hd : dg (sgn p pl i) := ⟨hd3.1, by have := hd3.2; omega⟩
    have hi := dg_lt hd
    have ev := dg_val hd
    have b1 := hd3.1
    have b2 := hd3.2
    have e3 : (3 : Int32).toInt = 3 := Eq.refl _
    have e10 : (10 : Int32).toInt = 10 := Eq.refl _
    have e48 : (48 : Int32).toInt = 48 := Eq.refl _
    obtain ⟨f, hf⟩ : ∃ f, FU = f + 1 := ⟨4999, FU_eq⟩
    generalize h1 : upd (upd it 14 (sgn p pl i - 48)) 13 (nI (i + 1)) = it1
    have s1 : sm13 it it1 := h1 ▸ (sm13.rfl.p14).p13
    have r1 : Rd it1 ar p pl (i + 1) := h.to s1 (h1 ▸ upd_eq) (by omega)
    have v1 : it1 14 = sgn p pl i - 48 := by rw [← h1, upd_ne (by omega), upd_eq]
    refine ⟨it1, ?_, hj ▸ r1, s1, v1.trans hv⟩
    unfold D_X10_readsNumber
    rw [mh_isO, Option.bind_some, m_here h 48 57 (by decide), bd_some, if_pos (show rng (sgn p pl i) (48 : Int32).toInt (57 : Int32).toInt from hd), if_neg (by decide), mh_r11, Option.bind_some, mh_i13, Option.bind_some, ld11 h hi, Option.bind_some, if_pos (by rw [pu_le, ev]; omega), Option.bind_some, Option.bind_some, ld11 h hi, Option.bind_some, mh_p14, Option.bind_some, mh_i13, Option.bind_some, upd_ne (by omega), mh_p13, Option.bind_some, h.2.2.1, nI_1, h1, hf, m_w55_stop r1 _ _ ?_, retZ_1]
    by_cases h4 : dg (sgn p pl (i + 1))
    · by_cases h5 : sgn p pl i = 48
      · left
        rw [v1, h5]; rfl
      · right; right
        have d1 := h4.1
        have d2 := h4.2
        have : (sgn p pl i).toInt ≠ 48 := fun q => h5 (by rw [pu_eq, e48]; exact q)
        have m2 : (10 * it1 14 : Int32).toInt = 10 * ((sgn p pl i).toInt - 48) := by rw [i_mul10 (by rw [v1]; omega) (by rw [v1]; omega), v1, ev]
        rw [pu_lt, i_sub (by rw [i_add (by omega) (by omega)]; omega) (by rw [i_add (by omega) (by omega)]; omega), i_add (by omega) (by omega), m2]
        omega
    · exact Or.inr (Or.inl h4)
  · rw [if_neg hd3] at hn
    exact absurd hn (by simp)
end P1
