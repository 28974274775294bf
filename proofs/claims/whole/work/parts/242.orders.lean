/-! the reference reads an order, and does it where it is told to -/
section P2
variable {σ : Hp} {m : Nat} {it : Nat → Int32} {ar : Nat → Nat → Int32} {p : Nat → Int32} {pl i : Nat}
theorem Rd.z14 (h : Rd it ar p pl i) {v : Int32} : Rd (upd it 14 v) ar p pl i := h.to (sm13.rfl.p14) ((upd_ne (by omega)).trans h.2.2.1) h.2.2.2
theorem Rd.p13 (h : Rd it ar p pl i) {v : Nat} (hv : v ≤ pl) : Rd (upd it 13 (nI v)) ar p pl v := h.to (sm13.rfl.p13) upd_eq hv
theorem sg_lt {p : Nat → Int32} {pl i : Nat} {c : Int32} (hl : 0 < c.toInt) (h : sgn p pl i = c) : i < pl := sgn_in (fun q => by rw [h] at q; rw [q] at hl; exact absurd hl (by decide))
theorem m_rMir (h : Rd it ar p pl i) : match pMir (sgn p pl) i with
    | (none, j) => ∃ it', D_X10_readsMirror m (mh σ m it ar) = some (0, mh σ m it' ar) ∧ Rd it' ar p pl j ∧ sm13 it it'
    | (some o, j) => ∃ it', D_X10_readsMirror m (mh σ m it ar) = D_X10_readsMirror_b65 m o.2.1 o.2.2.1 (mh σ m it' ar) ∧ Rd it' ar p pl j ∧ sm13 it it' ∧ it' 14 = o.2.2.2 ∧ o.1 = 43 := by
  unfold pMir
  rcases hn : n99 (sgn p pl) i with _ | ⟨a, j⟩
  · refine ⟨it, ?_, h, sm13.rfl⟩
    unfold D_X10_readsMirror
    rw [mh_isO, Option.bind_some, m_num_n h (n99_none hn), bd_some, if_pos rfl, retZ_0]
  · obtain ⟨it1, g1, r1, s1, v1⟩ := m_num99 (σ := σ) (m := m) h hn
    dsimp only
    by_cases c1 : sgn p pl j = 46
    · rw [if_pos c1]
      have r2 := r1.p13 (v := j + 1) (sg_lt (by decide) c1)
      rcases hn2 : n99 (sgn p pl) (j + 1) with _ | ⟨b, k⟩
      · refine ⟨upd it1 13 (nI (j + 1)), ?_, r2, s1.p13⟩
        unfold D_X10_readsMirror
        rw [mh_isO, Option.bind_some, g1, bd_some, if_neg (by decide), mh_i14, Option.bind_some, m_takes_y r1 (by decide) c1, bd_some, if_neg (by decide), m_num_n r2 (n99_none hn2), bd_some, if_pos rfl, retZ_0]
      · obtain ⟨it2, g2, r3, s2, v2⟩ := m_num99 (σ := σ) (m := m) r2 hn2
        have s3 := (s1.p13 (v := nI (j + 1))).trans s2
        dsimp only
        by_cases c2 : sgn p pl k = 97
        · rw [if_pos c2]
          have r4 := (r3.z14 (v := 0)).p13 (v := k + 1) (sg_lt (by decide) c2)
          rcases hn3 : n3 (sgn p pl) (k + 1) with _ | ⟨c, l⟩
          · refine ⟨_, ?_, r4, s3.p14.p13⟩
            unfold D_X10_readsMirror
            rw [mh_isO, Option.bind_some, g1, bd_some, if_neg (by decide), mh_i14, Option.bind_some, m_takes_y r1 (by decide) c1, bd_some, if_neg (by decide), g2, bd_some, if_neg (by decide), mh_i14, Option.bind_some, mh_p14, Option.bind_some, m_takes_y r3.z14 (by decide) c2, bd_some, if_neg (by decide), m_num3_n r4 hn3, bd_some, if_pos rfl, retZ_0]
          · obtain ⟨it3, g3, r5, s5, v3⟩ := m_num3 (σ := σ) (m := m) r4 hn3
            refine ⟨it3, ?_, r5, (s3.p14.p13).trans s5, v3, rfl⟩
            unfold D_X10_readsMirror
            rw [mh_isO, Option.bind_some, g1, bd_some, if_neg (by decide), mh_i14, Option.bind_some, m_takes_y r1 (by decide) c1, bd_some, if_neg (by decide), g2, bd_some, if_neg (by decide), mh_i14, Option.bind_some, mh_p14, Option.bind_some, m_takes_y r3.z14 (by decide) c2, bd_some, if_neg (by decide), g3, bd_some, if_neg (by decide), v1, v2]
        · rw [if_neg c2]
          refine ⟨upd it2 14 0, ?_, r3.z14, s3.p14, upd_eq, rfl⟩
          unfold D_X10_readsMirror
          rw [mh_isO, Option.bind_some, g1, bd_some, if_neg (by decide), mh_i14, Option.bind_some, m_takes_y r1 (by decide) c1, bd_some, if_neg (by decide), g2, bd_some, if_neg (by decide), mh_i14, Option.bind_some, mh_p14, Option.bind_some, m_takes_n r3.z14 (by decide) c2, bd_some, if_pos rfl, v1, v2]
    · rw [if_neg c1]
      refine ⟨it1, ?_, r1, s1⟩
      unfold D_X10_readsMirror
      rw [mh_isO, Option.bind_some, g1, bd_some, if_neg (by decide), mh_i14, Option.bind_some, m_takes_n r1 (by decide) c1, bd_some, if_pos rfl, retZ_0]
theorem m_rAim (h : Rd it ar p pl i) : match pAim (sgn p pl) i with
    | (none, j) => ∃ it', D_X10_readsAim m (mh σ m it ar) = some (0, mh σ m it' ar) ∧ Rd it' ar p pl j ∧ sm13 it it'
    | (some o, j) => ∃ it', D_X10_readsAim m (mh σ m it ar) = (if it' 15 = 0 then some (1, mh σ m it' ar) else bd (D_X10_doAim m o.2.1 o.2.2.1 (mh σ m it' ar)) fun i20 s21 =>
      (D_X10_does m i20 s21).bind fun s22 => some ((1 : Int32), s22)) ∧ Rd it' ar p pl j ∧ sm13 it it' ∧ o.1 = 97 := by
  unfold pAim
  rcases hn : n99 (sgn p pl) i with _ | ⟨a, j⟩
  · refine ⟨it, ?_, h, sm13.rfl⟩
    unfold D_X10_readsAim
    rw [mh_isO, Option.bind_some, m_num_n h (n99_none hn), bd_some, if_pos rfl, retZ_0]
  · obtain ⟨it1, g1, r1, s1, v1⟩ := m_num99 (σ := σ) (m := m) h hn
    dsimp only
    by_cases c1 : sgn p pl j = 62
    · rw [if_pos c1]
      have r2 := r1.p13 (v := j + 1) (sg_lt (by decide) c1)
      rcases hn2 : n3 (sgn p pl) (j + 1) with _ | ⟨b, k⟩
      · refine ⟨upd it1 13 (nI (j + 1)), ?_, r2, s1.p13⟩
        unfold D_X10_readsAim
        rw [mh_isO, Option.bind_some, g1, bd_some, if_neg (by decide), mh_i14, Option.bind_some, m_takes_y r1 (by decide) c1, bd_some, if_neg (by decide), m_num3_n r2 hn2, bd_some, if_pos rfl, retZ_0]
      · obtain ⟨it2, g2, r3, s2, v2⟩ := m_num3 (σ := σ) (m := m) r2 hn2
        refine ⟨it2, ?_, r3, s1.p13.trans s2, rfl⟩
        unfold D_X10_readsAim
        rw [mh_isO, Option.bind_some, g1, bd_some, if_neg (by decide), mh_i14, Option.bind_some, m_takes_y r1 (by decide) c1, bd_some, if_neg (by decide), g2, bd_some, if_neg (by decide), mh_i15, Option.bind_some, mh_i14, Option.bind_some, v1, v2, retZ_1]
        rfl
    · rw [if_neg c1]
      refine ⟨it1, ?_, r1, s1⟩
      unfold D_X10_readsAim
      rw [mh_isO, Option.bind_some, g1, bd_some, if_neg (by decide), mh_i14, Option.bind_some, m_takes_n r1 (by decide) c1, bd_some, if_pos rfl, retZ_0]
/-- what an order does to the row -/
def nO (A : Nat → Int32) : Nat := (A 6).toInt.toNat
def exO (A : Nat → Int32) (o : Ord4) : OpR := if o.1 = 43 then mirO A (nO A) o.2.1 o.2.2.1 o.2.2.2 else if o.1 = 97 then aimO A (nO A) o.2.1 o.2.2.1 else if o.1 = 120 then takO A (nO A) o.2.1 else if o.1 = 119 then wasO A (nO A) o.2.1 else if o.1 = 118 then winO A o.2.1 else pasO A (nO A) o.2.1
theorem exO_m {A : Nat → Int32} {a b c : Int32} : exO A (43, a, b, c) = mirO A (nO A) a b c := by
  unfold exO
  dsimp only
  rw [if_pos rfl]
theorem exO_a {A : Nat → Int32} {a b c : Int32} : exO A (97, a, b, c) = aimO A (nO A) a b := by
  unfold exO
  dsimp only
  rw [if_neg (by decide), if_pos rfl]
theorem exO_x {A : Nat → Int32} {a b c : Int32} : exO A (120, a, b, c) = takO A (nO A) a := by
  unfold exO
  dsimp only
  rw [if_neg (by decide), if_neg (by decide), if_pos rfl]
theorem exO_w {A : Nat → Int32} {a b c : Int32} : exO A (119, a, b, c) = wasO A (nO A) a := by
  unfold exO
  dsimp only
  rw [if_neg (by decide), if_neg (by decide), if_neg (by decide), if_pos rfl]
theorem exO_v {A : Nat → Int32} {a b c : Int32} : exO A (118, a, b, c) = winO A a := by
  unfold exO
  dsimp only
  rw [if_neg (by decide), if_neg (by decide), if_neg (by decide), if_neg (by decide), if_pos rfl]
theorem exO_t {A : Nat → Int32} {a b c : Int32} : exO A (116, a, b, c) = pasO A (nO A) a := by
  unfold exO
  dsimp only
  rw [if_neg (by decide), if_neg (by decide), if_neg (by decide), if_neg (by decide), if_neg (by decide)]
theorem nO_eq {A : Nat → Int32} {n : Nat} (h : WS A n) : nO A = n := by
  unfold nO
  rw [h.1.1.2, nI_toInt (by have := h.2; omega)]
  omega
theorem m_does {x : Int32} : D_X10_does m x (mh σ m it ar) = some (mh σ m (upd it 16 (if 0 ≤ x then 0 else x)) ar) := by
  unfold D_X10_does D_X10_does_b10
  rw [mh_isO, Option.bind_some]
  by_cases c : 0 ≤ x
  · rw [if_pos c, if_pos c, mh_p16, Option.bind_some]
  · rw [if_neg c, if_neg c, mh_p16, Option.bind_some]
/-- an order is read, and done -/
def ReadsTo (m : Nat) (σ : Hp) (it : Nat → Int32) (ar : Nat → Nat → Int32) (p : Nat → Int32) (pl : Nat) (D : Option (Int32 × Hp)) (r : Option Ord4 × Nat) : Prop := match r with
    | (none, j) => ∃ it', D = some (0, mh σ m it' ar) ∧ Rd it' ar p pl j ∧ sm13 it it'
    | (some o, j) => ∃ it', Rd it' ar p pl j ∧ sm13 it it' ∧ (it 15 = 0 → D = some (1, mh σ m it' ar)) ∧ (it 15 = 1 → ∀ n, WS (ar 1) n → ∃ ar', D = some (1, mh σ m (upd it' 16 (if 0 ≤ (exO (ar 1) o).1 then 0 else (exO (ar 1) o).1)) ar') ∧ ar' 1 = (exO (ar 1) o).2 ∧ oth ar ar')
theorem m_rOne (h : Rd it ar p pl i) (k : Int32) (hk : k = 120 ∨ k = 119 ∨ k = 118 ∨ k = 116) (hi : i + 1 ≤ pl) (hg : sgn p pl i = k) : ReadsTo m σ it ar p pl (D_X10_readsOrder_b103 m k 1 (nI i) m (mh σ m it ar)) (pOne (sgn p pl) i) := by
  unfold ReadsTo pOne
  have r1 := h.p13 hi
  have s1 : sm13 it (upd it 13 (nI (i + 1))) := sm13.rfl.p13
  have k6 : k ≠ -6 := by rcases hk with q | q | q | q <;> rw [q] <;> decide
  rcases hn : n99 (sgn p pl) (i + 1) with _ | ⟨a, j⟩
  · refine ⟨upd it 13 (nI (i + 1)), ?_, r1, s1⟩
    unfold D_X10_readsOrder_b103
    rw [mh_p13, Option.bind_some, if_neg k6, nI_1, m_num_n r1 (n99_none hn), bd_some, if_pos rfl, retZ_0]
  · obtain ⟨it1, g1, r2, s2, v1⟩ := m_num99 (σ := σ) (m := m) r1 hn
    have s3 := s1.trans s2
    have e15 : it1 15 = it 15 := s3 15 (by omega) (by omega)
    dsimp only
    refine ⟨it1, r2, s3, fun q => ?_, fun q n hW => ?_⟩
    · unfold D_X10_readsOrder_b103
      rw [mh_p13, Option.bind_some, if_neg k6, nI_1, g1, bd_some, if_neg (by decide), mh_i15, Option.bind_some, e15, q, if_pos rfl, retZ_1]
    · have hn' := nO_eq hW
      have h6 := hW.1.1.2
      unfold D_X10_readsOrder_b103
      rw [mh_p13, Option.bind_some, if_neg k6, nI_1, g1, bd_some, if_neg (by decide), mh_i15, Option.bind_some, e15, q, if_neg (by decide), mh_i14, Option.bind_some, Option.bind_some, Option.bind_some, Option.bind_some, v1, hg]
      rcases hk with e | e | e | e
      · subst e
        rw [exO_x, hn', if_pos rfl, m_doTake a hW.2 h6, bd_some]
        unfold D_X10_readsOrder_b191
        rw [m_does, Option.bind_some, retZ_1]
        exact ⟨_, rfl, up_eq, oth_up⟩
      · subst e
        rw [exO_w, hn', if_neg (by decide), if_pos rfl, m_doWash a hW.2 h6, bd_some]
        unfold D_X10_readsOrder_b191
        rw [m_does, Option.bind_some, retZ_1]
        exact ⟨_, rfl, up_eq, oth_up⟩
      · subst e
        rw [exO_v, if_neg (by decide), if_neg (by decide), if_pos rfl, m_doWind a, bd_some]
        unfold D_X10_readsOrder_b191
        rw [m_does, Option.bind_some, retZ_1]
        exact ⟨_, rfl, up_eq, oth_up⟩
      · subst e
        obtain ⟨a2, q1, q2, q3⟩ := m_doPass (σ := σ) (m := m) (it := it1) (ar := ar) (n := n) a hW
        rw [exO_t, hn', if_neg (by decide), if_neg (by decide), if_neg (by decide), q1, bd_some]
        unfold D_X10_readsOrder_b191
        rw [m_does, Option.bind_some, retZ_1]
        exact ⟨_, rfl, q2, q3⟩
theorem m_rOrd (h : Rd it ar p pl i) : ReadsTo m σ it ar p pl (D_X10_readsOrder m (mh σ m it ar)) (pOrd (sgn p pl) i) := by
  unfold pOrd
  by_cases c1 : sgn p pl i = 43
  · have hi := sg_lt (by decide) c1
    have r1 := h.p13 (v := i + 1) (by omega)
    have s1 : sm13 it (upd it 13 (nI (i + 1))) := sm13.rfl.p13
    rw [if_pos c1]
    have e1 := m_rMir (σ := σ) (m := m) r1
    unfold ReadsTo
    unfold D_X10_readsOrder
    rw [mh_isO, Option.bind_some, m_takes_y h (by decide) c1, bd_some, if_neg (by decide)]
    generalize hr : pMir (sgn p pl) (i + 1) = r at e1
    rcases r with ⟨_ | ⟨k, a, b, c⟩, j⟩
    · obtain ⟨it', g1, g2, g3⟩ := e1
      exact ⟨it', by rw [g1, bd_some, retZ_0], g2, s1.trans g3⟩
    · obtain ⟨it', g1, g2, g3, g4, g5⟩ := e1
      dsimp only at g1 g4 g5
      have s3 := s1.trans g3
      have e15 : it' 15 = it 15 := s3 15 (by omega) (by omega)
      refine ⟨it', g2, s3, fun q => ?_, fun q n hW => ⟨va_up ar 1 (mirO (ar 1) n a b c).2, ?_, ?_, oth_up⟩⟩
      · unfold D_X10_readsMirror_b65 at g1
        rw [g1, mh_i15, Option.bind_some, e15, q, if_pos rfl, retZ_1, bd_some, retZ_1]
      · unfold D_X10_readsMirror_b65 at g1
        rw [g1, mh_i15, Option.bind_some, e15, q, if_neg (by decide), mh_i14, Option.bind_some, g4, m_doMirror a b c hW.2 hW.1.1.2, bd_some, m_does, Option.bind_some, retZ_1, bd_some, retZ_1, g5, exO_m, nO_eq hW]
      · rw [up_eq, g5, exO_m, nO_eq hW]
  · rw [if_neg c1]
    by_cases c2 : sgn p pl i = 97
    · have hi := sg_lt (by decide) c2
      have r1 := h.p13 (v := i + 1) (by omega)
      have s1 : sm13 it (upd it 13 (nI (i + 1))) := sm13.rfl.p13
      rw [if_pos c2]
      have e1 := m_rAim (σ := σ) (m := m) r1
      unfold ReadsTo
      unfold D_X10_readsOrder
      rw [mh_isO, Option.bind_some, m_takes_n h (by decide) c1, bd_some, if_pos rfl, m_takes_y h (by decide) c2, bd_some, if_neg (by decide)]
      generalize hr : pAim (sgn p pl) (i + 1) = r at e1
      rcases r with ⟨_ | ⟨k, a, b, c⟩, j⟩
      · obtain ⟨it', g1, g2, g3⟩ := e1
        exact ⟨it', by rw [g1, bd_some, retZ_0], g2, s1.trans g3⟩
      · obtain ⟨it', g1, g2, g3, g5⟩ := e1
        dsimp only at g1 g5
        have s3 := s1.trans g3
        have e15 : it' 15 = it 15 := s3 15 (by omega) (by omega)
        refine ⟨it', g2, s3, fun q => ?_, fun q n hW => ⟨va_up ar 1 (aimO (ar 1) n a b).2, ?_, ?_, oth_up⟩⟩
        · rw [g1, e15, q, if_pos rfl, bd_some, retZ_1]
        · rw [g1, e15, q, if_neg (by decide), m_doAim a b hW.2 hW.1.1.2, bd_some, m_does, Option.bind_some, bd_some, retZ_1, g5, exO_a, nO_eq hW]
        · rw [up_eq, g5, exO_a, nO_eq hW]
    · rw [if_neg c2]
      have hh : ∀ c : Int32, 0 < c.toInt → D_X10_isHere m c c (mh σ m it ar) = some (if sgn p pl i = c then 1 else 0, mh σ m it ar) := by
        intro c hc
        rw [m_here h c c hc]
        by_cases q : sgn p pl i = c
        · rw [if_pos q, if_pos (show rng (sgn p pl i) c.toInt c.toInt by rw [q]; exact ⟨Int.le_refl _, Int.le_refl _⟩)]
        · rw [if_neg q, if_neg (show ¬ rng (sgn p pl i) c.toInt c.toInt from fun w => q (by rw [pu_eq]; have := w.1; have := w.2; omega))]
      have h72 : i < pl → D_X10_readsOrder_b72 m (mh σ m it ar) = D_X10_readsOrder_b86 m (sgn p pl i) (mh σ m it ar) := by
        intro hi
        unfold D_X10_readsOrder_b72
        rw [mh_r11, Option.bind_some, mh_i13, Option.bind_some, ld11 h hi, Option.bind_some]
      by_cases c3 : sgn p pl i = 120 ∨ sgn p pl i = 119 ∨ sgn p pl i = 118 ∨ sgn p pl i = 116
      · rw [if_pos c3]
        have hi : i < pl := by rcases c3 with q | q | q | q <;> exact sg_lt (by decide) q
        have e0 : D_X10_readsOrder m (mh σ m it ar) = D_X10_readsOrder_b103 m (sgn p pl i) 1 (nI i) m (mh σ m it ar) := by
          have k6 : sgn p pl i ≠ -6 := by rcases c3 with q | q | q | q <;> rw [q] <;> decide
          unfold D_X10_readsOrder
          rw [mh_isO, Option.bind_some, m_takes_n h (by decide) c1, bd_some, if_pos rfl, m_takes_n h (by decide) c2, bd_some, if_pos rfl, hh 120 (by decide), bd_some, hh 119 (by decide), bd_some, hh 118 (by decide), bd_some, hh 116 (by decide), bd_some, h72 hi]
          have e86 : D_X10_readsOrder_b86 m (sgn p pl i) (mh σ m it ar) = D_X10_readsOrder_b103 m (sgn p pl i) 1 (nI i) m (mh σ m it ar) := by
            unfold D_X10_readsOrder_b86
            rw [mh_i13, Option.bind_some, if_neg k6, h.2.2.1]
          rw [e86]
          rcases c3 with q | q | q | q
          · rw [q, if_neg (by decide)]
          · rw [q, if_pos (by decide), if_neg (by decide)]
          · rw [q, if_pos (by decide), if_pos (by decide), if_neg (by decide)]
          · rw [q, if_pos (by decide), if_pos (by decide), if_pos (by decide), if_neg (by decide)]
        rw [e0]
        exact m_rOne h _ c3 (by omega) rfl
      · rw [if_neg c3]
        unfold ReadsTo
        refine ⟨it, ?_, h, sm13.rfl⟩
        unfold D_X10_readsOrder
        rw [mh_isO, Option.bind_some, m_takes_n h (by decide) c1, bd_some, if_pos rfl, m_takes_n h (by decide) c2, bd_some, if_pos rfl, hh 120 (by decide), bd_some, if_neg (fun q => c3 (Or.inl q)), if_pos rfl, hh 119 (by decide), bd_some, if_neg (fun q => c3 (Or.inr (Or.inl q))), if_pos rfl, hh 118 (by decide), bd_some, if_neg (fun q => c3 (Or.inr (Or.inr (Or.inl q)))), if_pos rfl, hh 116 (by decide), bd_some, if_neg (fun q => c3 (Or.inr (Or.inr (Or.inr q)))), if_pos rfl]
        unfold D_X10_readsOrder_b86 D_X10_readsOrder_b103
        rw [mh_i13, Option.bind_some, if_pos rfl, mh_p13, Option.bind_some, if_pos rfl, retZ_0, Int32.add_zero, upd_same]
end P2
