/-! the reference: what if; undo, slots -/
section M9
variable {σ : Hp} {m : Nat} {it : Nat → Int32} {ar : Nat → Nat → Int32} {n : Nat} {A : Nat → Int32} {H : List (Nat → Int32)} {S : SLT} {p : Nat → Int32} {pl : Nat}
/-- the rows that the what-ifs use beside the state: the scratch of an hour, and what is tried -/
def scr3 (ar ar' : Nat → Nat → Int32) : Prop := ∀ j, j ≠ 3 → j ≠ 7 → j ≠ 8 → j ≠ 9 → j ≠ 10 → ar' j = ar j
theorem MI.scr3 (h : MI it ar A H S p pl) {ar' : Nat → Nat → Int32} (hs : scr3 ar ar') : MI it ar' A H S p pl := h.of_eq ((hs 1 (by omega) (by omega) (by omega) (by omega) (by omega)).trans h.1) (hs 4 (by omega) (by omega) (by omega) (by omega) (by omega)) (hs 5 (by omega) (by omega) (by omega) (by omega) (by omega)) (hs 6 (by omega) (by omega) (by omega) (by omega) (by omega)) (hs 11 (by omega) (by omega) (by omega) (by omega) (by omega)) rfl rfl
theorem back_tried {B T : Nat → Int32} (hT : agr T A) (hB : ∀ k, 132 ≤ k → B k = A k) : fillN T 132 B = A := by
  funext k
  by_cases h : k < 132
  · rw [fillN_lt h, hT k h]
  · unfold fillN
    rw [if_neg h, hB k (by omega)]
theorem bst_t {f : Nat → Int32} {k : Nat} (h : (bst (fun _ => true) f k).2 < f k) : bst (fun _ => true) f (k + 1) = (nI k, f k) := by rw [bst, if_pos ⟨rfl, h⟩]
theorem bst_f {ok : Nat → Bool} {f : Nat → Int32} {k : Nat} (h : f k ≤ (bst ok f k).2) : bst ok f (k + 1) = bst ok f k := by
  rw [bst, if_neg (fun q => by have q := q.2; rw [pu_lt] at q; rw [pu_le] at h; omega)]
theorem m_worth_w33 (w : Int32) (kx : Int32 → Int32 → Hp → Option (Int32 × Hp)) (hW : WS A n) : ∀ (k i f : Nat) (ar' : Nat → Nat → Int32), i + k = n → k < f → ar' 1 = A → agr (ar' 3) A → scr3 ar ar' → ∃ ar2, D_X10_worthLeast_w33 m w kx f (bst (fun _ => true) (fun k => brings (takeA A n k) (n - 1)) i).1 (bst (fun _ => true) (fun k => brings (takeA A n k) (n - 1)) i).2 (nI i) (mh σ m it ar') = kx (bst (fun _ => true) (fun k => brings (takeA A n k) (n - 1)) n).1 (bst (fun _ => true) (fun k => brings (takeA A n k) (n - 1)) n).2 (mh σ m it ar2) ∧ ar2 1 = A ∧ scr3 ar ar2 := by
  generalize hF : (fun k => brings (takeA A n k) (n - 1)) = F
  have h6 := hW.1.1.2
  have h25 := hW.1.1.1
  intro k
  induction k with
  | zero =>
    intro i f ar' hi hf h1 h3 hs
    obtain ⟨f, rfl⟩ : ∃ g, f = g + 1 := ⟨f - 1, by omega⟩
    have : i = n := by omega
    subst this
    refine ⟨ar', ?_, h1, hs⟩
    unfold D_X10_worthLeast_w33
    rw [mh_r2, Option.bind_some, mh_ld 3 6 rfl (by omega) (by omega) (by simp [msz]), h3 6 (by omega), h6, Option.bind_some, if_pos (nI_le (by omega) (by omega))]
  | succ k ih =>
    intro i f ar' hi hf h1 h3 hs
    obtain ⟨f, rfl⟩ : ∃ g, f = g + 1 := ⟨f - 1, by omega⟩
    have hWt := takeA_WF hW.1 (show i < n by omega)
    obtain ⟨a2, g1, g2⟩ := m_brings (σ := σ) (m := m) (it := it) (ar := va_up ar' 1 (takeA A n i)) (n := n - 1) (by rw [up_eq]; exact hWt)
    rw [up_eq] at g1
    have e1 : a2 1 = takeA A n i := by rw [g2 1 (by omega) (by omega) (by omega) (by omega), up_eq]
    have e3 : a2 3 = ar' 3 := by rw [g2 3 (by omega) (by omega) (by omega) (by omega), up_ne (by omega)]
    have eb : fillN (a2 3) 132 (a2 1) = A := by
      rw [e1]
      refine back_tried (by rw [e3]; exact h3) (fun q hq => ?_)
      unfold takeA
      rw [if_neg (by omega), upd_ne (by omega)]
    obtain ⟨a3, q1, q2, q3⟩ := ih (i + 1) f (va_up a2 1 A) (by omega) (by omega) up_eq (by rw [up_ne (by omega), e3]; exact h3) (fun j j3 j7 j8 j9 j10 => by
      by_cases c : j = 1
      · subst c
        rw [up_eq, ← hs 1 (by omega) (by omega) (by omega) (by omega) (by omega)]
        exact h1.symm
      · rw [up_ne c, g2 j j7 j8 j9 j10, up_ne c, hs j j3 j7 j8 j9 j10])
    refine ⟨a3, ?_, q2, q3⟩
    rw [← q1]
    conv => lhs; unfold D_X10_worthLeast_w33
    have hFi : F i = brings (takeA A n i) (n - 1) := by rw [← hF]
    rw [mh_r2, Option.bind_some, mh_ld 3 6 rfl (by omega) (by omega) (by simp [msz]), h3 6 (by omega), h6, Option.bind_some, if_neg (nI_ge (by omega) (by omega)), m_takesOut h25 (by omega) (by rw [h1]; exact h6), h1, Option.bind_some, g1, bd_some, mh_r2, Option.bind_some, mh_r0, Option.bind_some, m_copy 3 1 (by omega) (by omega) (by omega), eb, Option.bind_some, ← hFi]
    unfold D_X10_worthLeast_b80 D_X10_worthLeast_b93
    rw [nI_1]
    by_cases c : F i ≤ (bst (fun _ => true) F i).2
    · rw [if_pos c, if_pos c, bst_f c]
    · rw [if_neg c, if_neg c, bst_t (by rw [pu_le] at c; rw [pu_lt]; omega)]
theorem M_worth (w : Int32) (h : MI it ar A H S p pl) (hW : WS A n) : ∃ ar', D_X10_worthLeast m w (mh σ m it ar) = some (worO A n w, mh σ m it ar') ∧ scr3 ar ar' := by
  unfold D_X10_worthLeast worO
  rw [mh_isO, Option.bind_some, isInI, bd_some]
  by_cases c : rng w 0 1
  · rw [if_pos (show (0 : Int64).toInt ≤ w.toInt ∧ w.toInt ≤ (1 : Int64).toInt from c), if_neg (by decide), if_neg (fun q => q c), mh_r0, Option.bind_some, mh_r2, Option.bind_some, m_copy 1 3 (by omega) (by omega) (by omega), Option.bind_some]
    obtain ⟨a2, g1, g2, g3⟩ := m_worth_w33 (σ := σ) (m := m) (it := it) (ar := ar) (n := n) (A := A) w (fun i56 i57 s55 =>
  if w = 0 then
  some (i56, s55)
  else
  some (i57, s55)) hW n 0 FU (va_up ar 3 (fillN (ar 1) 132 (ar 3))) (by omega) (by rw [FU_eq]; have := hW.2; omega) (by rw [up_ne (by omega)]; exact h.1) (by rw [up_eq]; intro k hk; rw [fillN_lt hk, h.1]) (fun j j3 _ _ _ _ => up_ne j3)
    rw [show nI 0 = (0 : Int32) from rfl] at g1
    refine ⟨a2, ?_, g3⟩
    unfold selO
    refine Eq.trans g1 ?_
    by_cases w0 : w = 0
    · rw [if_pos w0, if_pos w0]
    · rw [if_neg w0, if_neg w0]
  · rw [if_neg (show ¬ ((0 : Int64).toInt ≤ w.toInt ∧ w.toInt ≤ (1 : Int64).toInt) from c), if_pos rfl, if_pos c]
    exact ⟨ar, rfl, fun _ _ _ _ _ _ => rfl⟩
theorem m_best_w55 (r a w : Int32) (kx : Int32 → Int32 → Hp → Option (Int32 × Hp)) (hW : WS A n) (hr : rng r 0 19) (ha : rng a 0 3) : ∀ (k i f : Nat) (ar' : Nat → Nat → Int32), i + k = 20 → k < f → ar' 1 = A → agr (ar' 3) A → scr3 ar ar' → ∃ ar2, D_X10_bestColumn_w55 m r a w kx f (bst (fun k => decide (mAt A n r (nI k) = none)) (fun k => brings (putA A n r (nI k) a) (n + 1)) i).1 (bst (fun k => decide (mAt A n r (nI k) = none)) (fun k => brings (putA A n r (nI k) a) (n + 1)) i).2 (nI i) (mh σ m it ar') = kx (bst (fun k => decide (mAt A n r (nI k) = none)) (fun k => brings (putA A n r (nI k) a) (n + 1)) 20).1 (bst (fun k => decide (mAt A n r (nI k) = none)) (fun k => brings (putA A n r (nI k) a) (n + 1)) 20).2 (mh σ m it ar2) ∧ ar2 1 = A ∧ scr3 ar ar2 := by
  generalize hF : (fun k => brings (putA A n r (nI k) a) (n + 1)) = F
  generalize hO : (fun k => decide (mAt A n r (nI k) = none)) = ok
  have h6 := hW.1.1.2
  have h25 := hW.1.1.1
  intro k
  induction k with
  | zero =>
    intro i f ar' hi hf h1 h3 hs
    obtain ⟨f, rfl⟩ : ∃ g, f = g + 1 := ⟨f - 1, by omega⟩
    have : i = 20 := by omega
    subst this
    refine ⟨ar', ?_, h1, hs⟩
    unfold D_X10_bestColumn_w55
    rw [if_pos (by decide)]
  | succ k ih =>
    intro i f ar' hi hf h1 h3 hs
    obtain ⟨f, rfl⟩ : ∃ g, f = g + 1 := ⟨f - 1, by omega⟩
    have hoki : ok i = decide (mAt A n r (nI i) = none) := by rw [← hO]
    have hhead : ¬ (20 : Int32) ≤ nI i := nI_ge (a := i) (b := 20) (by omega) (by omega)
    by_cases cm : mAt A n r (nI i) = none
    · have hci : rng (nI i) 0 19 := by unfold rng; rw [nI_toInt (by omega)]; omega
      have hWt := putA_WF hW.1 (by have := hW.2; omega) hr hci ha cm
      obtain ⟨a2, g1, g2⟩ := m_brings (σ := σ) (m := m) (it := it) (ar := va_up ar' 1 (putA A n r (nI i) a)) (n := n + 1) (by rw [up_eq]; exact hWt)
      rw [up_eq] at g1
      have e1 : a2 1 = putA A n r (nI i) a := by rw [g2 1 (by omega) (by omega) (by omega) (by omega), up_eq]
      have e3 : a2 3 = ar' 3 := by rw [g2 3 (by omega) (by omega) (by omega) (by omega), up_ne (by omega)]
      have eb : fillN (a2 3) 132 (a2 1) = A := by
        rw [e1]
        refine back_tried (by rw [e3]; exact h3) (fun q hq => ?_)
        have := hW.2
        unfold putA
        rw [upd_ne (by omega), upd_ne (by omega), upd_ne (by omega), upd_ne (by omega), upd_ne (by omega), upd_ne (by omega)]
      obtain ⟨a3, q1, q2, q3⟩ := ih (i + 1) f (va_up a2 1 A) (by omega) (by omega) up_eq (by rw [up_ne (by omega), e3]; exact h3) (fun j j3 j7 j8 j9 j10 => by
        by_cases c : j = 1
        · subst c
          rw [up_eq, ← hs 1 (by omega) (by omega) (by omega) (by omega) (by omega)]
          exact h1.symm
        · rw [up_ne c, g2 j j7 j8 j9 j10, up_ne c, hs j j3 j7 j8 j9 j10])
      refine ⟨a3, ?_, q2, q3⟩
      rw [← q1]
      conv => lhs; unfold D_X10_bestColumn_w55
      have hFi : F i = brings (putA A n r (nI i) a) (n + 1) := by rw [← hF]
      rw [if_neg hhead, m_mirrorAt r (nI i) h25 (by rw [h1]; exact h6), h1, cm, bd_some, if_pos (show oI none = -6 from rfl), m_puts (n := n) r (nI i) a (by have := hW.2; omega) (by rw [h1]; exact h6), h1, Option.bind_some, g1, bd_some, mh_r2, Option.bind_some, mh_r0, Option.bind_some, m_copy 3 1 (by omega) (by omega) (by omega), eb, Option.bind_some, ← hFi]
      unfold D_X10_bestColumn_b113 D_X10_bestColumn_b129
      rw [nI_1]
      by_cases c : F i ≤ (bst ok F i).2
      · rw [if_pos c, if_pos c, bst_f c]
      · have : bst ok F (i + 1) = (nI i, F i) := by
          rw [bst, if_pos ⟨by rw [hoki]; exact decide_eq_true cm, by rw [pu_le] at c; rw [pu_lt]; omega⟩]
        rw [if_neg c, if_neg c, this]
    · obtain ⟨a3, q1, q2, q3⟩ := ih (i + 1) f ar' (by omega) (by omega) h1 h3 hs
      refine ⟨a3, ?_, q2, q3⟩
      rw [← q1]
      conv => lhs; unfold D_X10_bestColumn_w55
      have : bst ok F (i + 1) = bst ok F i := by
        rw [bst, if_neg (fun q => by rw [hoki] at q; exact cm (of_decide_eq_true q.1))]
      rw [if_neg hhead, m_mirrorAt r (nI i) h25 (by rw [h1]; exact h6), h1, bd_some, if_neg (fun q => cm ((oI_eq (fun j hj => by have := (mAt_lt hj).1; omega)).mp q)), nI_1, this]
theorem M_best (r a w : Int32) (h : MI it ar A H S p pl) (hW : WS A n) : ∃ ar', D_X10_bestColumn m r a w (mh σ m it ar) = some (besO A n r a w, mh σ m it ar') ∧ scr3 ar ar' := by
  unfold D_X10_bestColumn besO
  rw [mh_isO, Option.bind_some, m_isPlace, bd_some]
  by_cases h1 : rng r 0 19
  · rw [if_pos (show (0 ≤ r.toInt ∧ r.toInt < 20) ∧ (0 ≤ (0 : Int32).toInt ∧ (0 : Int32).toInt < 20) from ⟨⟨h1.1, by have := h1.2; omega⟩, by decide⟩), if_neg (by decide), isInI, bd_some]
    by_cases h2 : rng a 0 3
    · rw [if_pos (show (0 : Int64).toInt ≤ a.toInt ∧ a.toInt ≤ (3 : Int64).toInt from h2), if_neg (by decide), isInI, bd_some]
      by_cases c : rng w 0 1
      · rw [if_pos (show (0 : Int64).toInt ≤ w.toInt ∧ w.toInt ≤ (1 : Int64).toInt from c), if_neg (by decide), if_neg (show ¬ ¬ ((rng r 0 19 ∧ rng a 0 3) ∧ rng w 0 1) from fun q => q ⟨⟨h1, h2⟩, c⟩), mh_r0, Option.bind_some, mh_r2, Option.bind_some, m_copy 1 3 (by omega) (by omega) (by omega), Option.bind_some]
        obtain ⟨a2, g1, g2, g3⟩ := m_best_w55 (σ := σ) (m := m) (it := it) (ar := ar) (n := n) (A := A) r a w (fun i66 i67 s65 =>
  if w = 0 then
  some (i66, s65)
  else
  some (i67, s65)) hW h1 h2 20 0 FU (va_up ar 3 (fillN (ar 1) 132 (ar 3))) (by omega) (by rw [FU_eq]; omega) (by rw [up_ne (by omega)]; exact h.1) (by rw [up_eq]; intro k hk; rw [fillN_lt hk, h.1]) (fun j j3 _ _ _ _ => up_ne j3)
        rw [show nI 0 = (0 : Int32) from rfl] at g1
        refine ⟨a2, ?_, g3⟩
        unfold selO
        refine Eq.trans g1 ?_
        by_cases w0 : w = 0
        · rw [if_pos w0, if_pos w0]
        · rw [if_neg w0, if_neg w0]
      · rw [if_neg (show ¬ ((0 : Int64).toInt ≤ w.toInt ∧ w.toInt ≤ (1 : Int64).toInt) from c), if_pos rfl, if_pos (show ¬ ((rng r 0 19 ∧ rng a 0 3) ∧ rng w 0 1) from fun q => c q.2)]
        exact ⟨ar, rfl, fun _ _ _ _ _ _ => rfl⟩
    · rw [if_neg (show ¬ ((0 : Int64).toInt ≤ a.toInt ∧ a.toInt ≤ (3 : Int64).toInt) from h2), if_pos rfl, if_pos (show ¬ ((rng r 0 19 ∧ rng a 0 3) ∧ rng w 0 1) from fun q => h2 q.1.2)]
      exact ⟨ar, rfl, fun _ _ _ _ _ _ => rfl⟩
  · rw [if_neg (show ¬ ((0 ≤ r.toInt ∧ r.toInt < 20) ∧ (0 ≤ (0 : Int32).toInt ∧ (0 : Int32).toInt < 20)) from fun q => h1 ⟨q.1.1, by have := q.1.2; omega⟩), if_pos rfl, if_pos (show ¬ ((rng r 0 19 ∧ rng a 0 3) ∧ rng w 0 1) from fun q => h1 q.1.1)]
    exact ⟨ar, rfl, fun _ _ _ _ _ _ => rfl⟩
theorem m_wash_w8 (kx : Int32 → Hp → Option (Int32 × Hp)) (hW : WS A n) : ∀ (k i f : Nat) (ar' : Nat → Nat → Int32), i + k = n → k < f → ar' 1 = A → scr ar ar' → ∃ ar2, D_X10_toWash_w8 m kx f (bst (fun _ => true) (fun k => brings (upd A (7 + 5 * k + 3) 0) n) i).1 (bst (fun _ => true) (fun k => brings (upd A (7 + 5 * k + 3) 0) n) i).2 (nI i) (mh σ m it ar') = kx (bst (fun _ => true) (fun k => brings (upd A (7 + 5 * k + 3) 0) n) n).1 (mh σ m it ar2) ∧ scr ar ar2 := by
  generalize hF : (fun k => brings (upd A (7 + 5 * k + 3) 0) n) = F
  have h6 := hW.1.1.2
  have h25 := hW.1.1.1
  intro k
  induction k with
  | zero =>
    intro i f ar' hi hf h1 hs
    obtain ⟨f, rfl⟩ : ∃ g, f = g + 1 := ⟨f - 1, by omega⟩
    have : i = n := by omega
    subst this
    refine ⟨ar', ?_, hs⟩
    unfold D_X10_toWash_w8
    rw [mh_r0, Option.bind_some, mh_A6, h1, h6, Option.bind_some, if_pos (nI_le (by omega) (by omega))]
  | succ k ih =>
    intro i f ar' hi hf h1 hs
    obtain ⟨f, rfl⟩ : ∃ g, f = g + 1 := ⟨f - 1, by omega⟩
    have hWt := upd_WF hW.1 (i := i) (w := 3) (v := 0) (Or.inr ⟨rfl, by decide⟩)
    obtain ⟨a2, g1, g2⟩ := m_brings (σ := σ) (m := m) (it := it) (ar := va_up ar' 1 (upd A (7 + 5 * i + 3) 0)) (n := n) (by rw [up_eq]; exact hWt)
    rw [up_eq] at g1
    have e1 : a2 1 = upd A (7 + 5 * i + 3) 0 := by rw [g2 1 (by omega) (by omega) (by omega) (by omega), up_eq]
    have eb : upd (a2 1) (7 + 5 * i + 3) (gA A i 3) = A := by
      rw [e1]
      funext q
      by_cases c : q = 7 + 5 * i + 3
      · subst c; rw [upd_eq]; rfl
      · rw [upd_ne c, upd_ne c]
    obtain ⟨a3, q1, q3⟩ := ih (i + 1) f (va_up a2 1 A) (by omega) (by omega) up_eq (fun j j7 j8 j9 j10 => by
      by_cases c : j = 1
      · subst c
        rw [up_eq, ← hs 1 (by omega) (by omega) (by omega) (by omega)]
        exact h1.symm
      · rw [up_ne c, g2 j j7 j8 j9 j10, up_ne c, hs j j7 j8 j9 j10])
    refine ⟨a3, ?_, q3⟩
    rw [← q1]
    conv => lhs; unfold D_X10_toWash_w8
    have hFi : F i = brings (upd A (7 + 5 * i + 3) 0) n := by rw [← hF]
    rw [mh_r0, Option.bind_some, mh_A6, h1, h6, Option.bind_some, if_neg (nI_ge (by omega) (by omega)), its3 (show i < 25 by omega), h1, bd_some, sets3 _ (show i < 25 by omega), h1, Option.bind_some, g1, bd_some, sets3 _ (show i < 25 by omega), eb, Option.bind_some, ← hFi]
    unfold D_X10_toWash_b59 D_X10_toWash_b72
    rw [nI_1]
    by_cases c : F i ≤ (bst (fun _ => true) F i).2
    · rw [if_pos c, if_pos c, bst_f c]
    · rw [if_neg c, if_neg c, bst_t (by rw [pu_le] at c; rw [pu_lt]; omega)]
theorem M_toWash (h : MI it ar A H S p pl) (hW : WS A n) : ∃ ar', D_X10_toWash m (mh σ m it ar) = some (tWaO A n, mh σ m it ar') ∧ scr ar ar' := by
  obtain ⟨a2, g1, g2⟩ := m_wash_w8 (σ := σ) (m := m) (it := it) (ar := ar) (n := n) (A := A) (fun i47 s46 => some (i47, s46)) hW n 0 FU ar (by omega) (by rw [FU_eq]; have := hW.2; omega) h.1 scr.rf
  rw [show nI 0 = (0 : Int32) from rfl] at g1
  refine ⟨a2, ?_, g2⟩
  unfold D_X10_toWash
  rw [mh_isO, Option.bind_some]
  exact g1
theorem m_least_w36 (x y : Int32) (kx : Int32 → Hp → Option (Int32 × Hp)) {u : Nat → Int32} (hu : ∀ a, a < 4 → ar 9 a = u a) (b : Int32) : ∀ (k c f : Nat), c + k = 4 → k < f → D_X10_leastLimit_w36 m x y kx f (mx4 u c b) (nI c) (mh σ m it ar) = kx (mx4 u 4 b) (mh σ m it ar) := by
  intro k
  induction k with
  | zero =>
    intro c f hc hf
    obtain ⟨f, rfl⟩ : ∃ g, f = g + 1 := ⟨f - 1, by omega⟩
    have : c = 4 := by omega
    subst this
    unfold D_X10_leastLimit_w36
    rw [if_pos (by decide)]
  | succ k ih =>
    intro c f hc hf
    obtain ⟨f, rfl⟩ : ∃ g, f = g + 1 := ⟨f - 1, by omega⟩
    rw [← ih (c + 1) f (by omega) (by omega)]
    conv => lhs; unfold D_X10_leastLimit_w36
    rw [if_neg (show ¬ (4 : Int32) ≤ nI c from nI_ge (a := c) (b := 4) (by omega) (by omega)), mh_r9, Option.bind_some, mh_ld 9 c (nI_toInt (by omega)) (by omega) (by omega) (by simp [msz]; omega), hu c (by omega), Option.bind_some, Option.bind_some]
    unfold D_X10_leastLimit_b64
    rw [nI_1]
    conv => rhs; rw [mx4]
    by_cases q : u c ≤ mx4 u c b
    · rw [if_pos q, if_pos q]
    · rw [if_neg q, if_neg q, mh_ld 9 c (nI_toInt (by omega)) (by omega) (by omega) (by simp [msz]; omega), hu c (by omega), Option.bind_some]
theorem m_least_w20 (x : Int32) (kx : Int32 → Hp → Option (Int32 × Hp)) (hW : WF (ar 1) n) : ∀ (k h f : Nat) (ar' : Nat → Nat → Int32), h + k = 11 → k < f → scr ar ar' → ∃ ar2, D_X10_leastLimit_w20 m x kx f (llF (ar 1) n h) (nI h) (mh σ m it ar') = kx (llF (ar 1) n 11) (mh σ m it ar2) ∧ scr ar ar2 := by
  intro k
  induction k with
  | zero =>
    intro h f ar' hh hf hs
    obtain ⟨f, rfl⟩ : ∃ g, f = g + 1 := ⟨f - 1, by omega⟩
    have : h = 11 := by omega
    subst this
    refine ⟨ar', ?_, hs⟩
    unfold D_X10_leastLimit_w20
    rw [if_pos (by decide)]
  | succ k ih =>
    intro h f ar' hh hf hs
    obtain ⟨f, rfl⟩ : ∃ g, f = g + 1 := ⟨f - 1, by omega⟩
    have e1 : ar' 1 = ar 1 := hs 1 (by omega) (by omega) (by omega) (by omega)
    obtain ⟨a2, h1, h2, h3⟩ := m_looks (σ := σ) (m := m) (it := it) (ar := ar') (n := n) (h := h) (by rw [e1]; exact hW) (by omega)
    rw [e1] at h1 h3
    obtain ⟨a3, g1, g2⟩ := ih (h + 1) f a2 (by omega) (by omega) (hs.trans h2)
    refine ⟨a3, ?_, g2⟩
    rw [← g1]
    have w := m_least_w36 (σ := σ) (m := m) (it := it) (ar := a2) x (nI h) (fun i46 s45 => D_X10_leastLimit_w20 m x kx f i46 (nI h + 1) s45) h3.2.1 (llF (ar 1) n h) 4 0 FU (by omega) (by rw [FU_eq]; omega)
    rw [show nI 0 = (0 : Int32) from rfl, show mx4 (looks (ar 1) n h).1 0 (llF (ar 1) n h) = llF (ar 1) n h from rfl] at w
    conv => lhs; unfold D_X10_leastLimit_w20
    rw [if_neg (show ¬ (11 : Int32) ≤ nI h from nI_ge (a := h) (b := 11) (by omega) (by omega)), h1, bd_some, w, nI_1]
    rfl
theorem M_least (h : MI it ar A H S p pl) (hW : WS A n) : ∃ ar', D_X10_leastLimit m (mh σ m it ar) = some (leaO A n, mh σ m it ar') ∧ scr ar ar' := by
  have hW2 : WF (upd A 0 9999) n := by
    have q := setO_WS (s := 0) (v := 9999) hW
    unfold setO at q
    rw [if_pos (Or.inl ⟨rfl, by decide⟩)] at q
    exact q.1
  obtain ⟨a2, g1, g2⟩ := m_least_w20 (σ := σ) (m := m) (it := it) (ar := va_up ar 1 (upd A 0 9999)) (n := n) (A 0) (fun i50 s49 =>
  (getR s49 m 9 0).bind fun a51 =>
  (stI s49 a51 (0 : Int32) (A 0)).bind fun s52 =>
  some (i50, s52)) (by rw [up_eq]; exact hW2) 11 0 FU (va_up ar 1 (upd A 0 9999)) (by omega) (by rw [FU_eq]; omega) scr.rf
  rw [show nI 0 = (0 : Int32) from rfl, up_eq, show llF (upd A 0 9999) n 0 = 1 from rfl] at g1
  have e1 : a2 1 = upd A 0 9999 := by rw [g2 1 (by omega) (by omega) (by omega) (by omega), up_eq]
  have eb : upd (a2 1) 0 (A 0) = A := by
    rw [e1]
    funext q
    by_cases c : q = 0
    · subst c; rw [upd_eq]
    · rw [upd_ne c, upd_ne c]
  refine ⟨va_up a2 1 A, ?_, fun j j7 j8 j9 j10 => ?_⟩
  · unfold D_X10_leastLimit
    rw [mh_isO, Option.bind_some, mh_r0, Option.bind_some, mh_A0, h.1, Option.bind_some, Option.bind_some, mh_S (k := 0) _ rfl (by omega), h.1, Option.bind_some, g1, mh_r0, Option.bind_some, mh_S (k := 0) _ rfl (by omega), eb, Option.bind_some]
    rfl
  · by_cases c : j = 1
    · subst c; rw [up_eq, h.1]
    · rw [up_ne c, g2 j j7 j8 j9 j10, up_ne c]
end M9
