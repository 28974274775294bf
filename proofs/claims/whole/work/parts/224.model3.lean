/-! the reference: the order, and who is used -/
section M3
variable {σ : Hp} {m : Nat} {it : Nat → Int32} {ar : Nat → Nat → Int32} {n : Nat}
theorem m_sorts_w15 {i : Nat} (kx : Int32 → Hp → Option Hp) (hn : n ≤ 25) (hi : i < n) : ∀ (rest pre : List Nat) (ord : Nat → Int32) (f : Nat), rest.length < f → pre.length + rest.length = i → (∀ x, x ∈ rest → x < n) → (∀ j x, pre[j]? = some x → ord (i - j) = nI x) → lay ord rest →
    ∃ (t : Nat) (ord' : Nat → Int32), t ≤ i ∧ D_X10_sorts_w15 m (nI i) kx f (nI rest.length) (mh σ m it (va_up ar 10 ord)) = kx (nI t) (mh σ m it (va_up ar 10 ord')) ∧ lay (upd ord' t (nI i)) (pre ++ insL (ar 7) i rest) := by
  intro rest
  induction rest with
  | nil =>
    intro pre ord f hf hk hm hp hr
    obtain ⟨f, rfl⟩ : ∃ g, f = g + 1 := ⟨f - 1, by omega⟩
    refine ⟨0, ord, Nat.zero_le _, ?_, lay_stop hk hp hr⟩
    unfold D_X10_sorts_w15
    rw [if_pos (by rw [show ([] : List Nat).length = 0 from rfl]; decide)]
    rfl
  | cons a rest ih =>
    intro pre ord f hf hk hm hp hr
    have hlen : (a :: rest).length = rest.length + 1 := rfl
    have ha := lay_head hr
    have han : a < n := hm a List.mem_cons_self
    obtain ⟨f, rfl⟩ : ∃ g, f = g + 1 := ⟨f - 1, by omega⟩
    rw [hlen] at hk hf ⊢
    have e0 : (nI (rest.length + 1) - 1 : Int32) = nI rest.length := nI_pred _
    have e1 : (nI (rest.length + 1) + -1 : Int32) = nI rest.length := pk_m1 _
    have l1 : ldI (mh σ m it (va_up ar 10 ord)) (m + 10) (nI rest.length) = some (nI a) := by
      rw [mh_ld 10 rest.length (nI_toInt (by omega)) (by omega) (by omega) (by simp [msz]; omega), up_eq, ha]
    have l2 : ldI (mh σ m it (va_up ar 10 ord)) (m + 7) (nI a) = some (ar 7 a) := by
      rw [mh_ld 7 a (nI_toInt (by omega)) (by omega) (by omega) (by simp [msz]; omega), up_ne (by omega)]
    have l3 : ldI (mh σ m it (va_up ar 10 ord)) (m + 7) (nI i) = some (ar 7 i) := by
      rw [mh_ld 7 i (nI_toInt (by omega)) (by omega) (by omega) (by simp [msz]; omega), up_ne (by omega)]
    have s1 : stI (mh σ m it (va_up ar 10 ord)) (m + 10) (nI (rest.length + 1)) (nI a) = some (mh σ m it (va_up ar 10 (upd ord (rest.length + 1) (ord rest.length)))) := by
      rw [mh_st 10 (rest.length + 1) (nI a) (nI_toInt (by omega)) (by omega) (by omega) (by simp [msz]; omega), up_eq, up_up, ha]
    by_cases hc : ar 7 a < ar 7 i
    · obtain ⟨hp', hr'⟩ := lay_go hk hp hr
      obtain ⟨t, ord', ht, h1, h2⟩ := ih (pre ++ [a]) (upd ord (rest.length + 1) (ord rest.length)) f (by omega) (by simp; omega) (fun x hx => hm x (List.mem_cons_of_mem _ hx)) hp' hr'
      refine ⟨t, ord', ht, ?_, ?_⟩
      · rw [← h1]
        conv => lhs; unfold D_X10_sorts_w15
        rw [if_neg (nI_nle (by omega) (by omega))]
        simp only [mh_r7, mh_r10, Option.bind_some, e0, l1, l2, l3, s1, e1]
        rw [if_neg (by rw [pu_lt] at hc; rw [pu_le]; omega)]
      · unfold insL
        rw [if_pos hc]
        simpa using h2
    · refine ⟨rest.length + 1, ord, by omega, ?_, ?_⟩
      · unfold D_X10_sorts_w15
        rw [if_neg (nI_nle (by omega) (by omega)), mh_r7, Option.bind_some, mh_r10, Option.bind_some, e0, l1, Option.bind_some, l2, Option.bind_some, Option.bind_some, l3, Option.bind_some, if_pos (by rw [pu_lt] at hc; rw [pu_le]; omega)]
      · unfold insL
        rw [if_neg hc]
        exact lay_stop hk hp hr
theorem m_sorts_w2 (kx : Hp → Option Hp) (hn : n ≤ 25) (h6 : ar 1 6 = nI n) : ∀ (k i f : Nat) (ord : Nat → Int32), i + k = n → k < f → lay ord (srt (ar 7) i) → ∃ ord', D_X10_sorts_w2 m kx f (nI i) (mh σ m it (va_up ar 10 ord)) = kx (mh σ m it (va_up ar 10 ord')) ∧ lay ord' (srt (ar 7) n) := by
  intro k
  induction k with
  | zero =>
    intro i f ord hi hf hl
    obtain ⟨f, rfl⟩ : ∃ g, f = g + 1 := ⟨f - 1, by omega⟩
    have : i = n := by omega
    subst this
    refine ⟨ord, ?_, hl⟩
    unfold D_X10_sorts_w2
    rw [mh_r0, Option.bind_some, mh_A6, up_ne (by omega), h6, Option.bind_some, if_pos (nI_le (by omega) (by omega))]
  | succ k ih =>
    intro i f ord hi hf hl
    obtain ⟨f, rfl⟩ : ∃ g, f = g + 1 := ⟨f - 1, by omega⟩
    have hlen := srt_len (ar 7) i
    obtain ⟨t, ord1, ht, h1, h2⟩ := m_sorts_w15 (σ := σ) (m := m) (it := it) (ar := ar) (fun i35 s34 => D_X10_sorts_b61 (D_X10_sorts_w2 m kx f) m (nI i) i35 s34) hn (show i < n by omega) (srt (ar 7) i) [] ord FU (by rw [hlen, FU_eq]; omega) (by rw [hlen]; simp) (fun x hx => by have := (srt_mem (ar 7) x i).mp hx; omega) (fun j x hx => by simp at hx) hl
    rw [hlen] at h1
    obtain ⟨ord', h3, h4⟩ := ih (i + 1) f (upd ord1 t (nI i)) (by omega) (by omega) (by simpa [srt] using h2)
    refine ⟨ord', ?_, h4⟩
    conv => lhs; unfold D_X10_sorts_w2
    rw [mh_r0, Option.bind_some, mh_A6, up_ne (by omega), h6, Option.bind_some, if_neg (nI_ge (by omega) (by omega)), h1]
    unfold D_X10_sorts_b61
    rw [mh_r10, Option.bind_some, mh_st 10 t (nI i) (nI_toInt (by omega)) (by omega) (by omega) (by simp [msz]; omega), up_eq, up_up, Option.bind_some, nI_1, h3]
theorem m_sorts (hn : n ≤ 25) (h6 : ar 1 6 = nI n) : ∃ ord', D_X10_sorts m (mh σ m it ar) = some (mh σ m it (va_up ar 10 ord')) ∧ lay ord' (srt (ar 7) n) := by
  obtain ⟨ord', h1, h2⟩ := m_sorts_w2 (σ := σ) (m := m) (it := it) (ar := ar) (fun s45 => some s45) hn h6 n 0 FU (ar 10) (by omega) (by rw [FU_eq]; omega) (fun j x hx => by simp [srt] at hx)
  rw [up_self] at h1
  refine ⟨ord', ?_, h2⟩
  unfold D_X10_sorts
  rw [mh_isO, Option.bind_some]
  exact h1
/-- what the loop over the order leaves -/
def usR (ar : Nat → Nat → Int32) (u : US) (l : List Nat) : Prop := (∀ a, a < 4 → ar 9 a = u.1 a) ∧ ∀ i, i ∈ l → ar 8 i = bI (u.2.1 i)
theorem m_looks_w59 (kx : Int32 → Hp → Option (Int32 × Hp)) (hW : WF (ar 1) n) {L : List Nat} (hL : ∀ x, x ∈ L → x < n) (hlen : L.length = n) (hord : ∀ k x, L[k]? = some x → ar 10 k = nI x) : ∀ (q p : List Nat) (f : Nat) (ar' : Nat → Nat → Int32) (u : US), p ++ q = L → q.length < f → (∀ j, j ≠ 8 → j ≠ 9 → ar' j = ar j) → usR ar' u p →
    ∃ ar2, D_X10_looks_w59 m kx f u.2.2 (nI p.length) (mh σ m it ar') = kx (q.foldl (us1 (ar 1) (ar 7)) u).2.2 (mh σ m it ar2) ∧ (∀ j, j ≠ 8 → j ≠ 9 → ar2 j = ar j) ∧ usR ar2 (q.foldl (us1 (ar 1) (ar 7)) u) L := by
  obtain ⟨⟨hn, h6⟩, hM, -⟩ := id hW
  intro q
  induction q with
  | nil =>
    intro p f ar' u hpq hf hj hu
    obtain ⟨f, rfl⟩ : ∃ g, f = g + 1 := ⟨f - 1, by omega⟩
    rw [List.append_nil] at hpq
    subst hpq
    refine ⟨ar', ?_, hj, hu⟩
    unfold D_X10_looks_w59
    rw [mh_r0, Option.bind_some, mh_A6, hj 1 (by omega) (by omega), h6, Option.bind_some, if_pos (nI_le (by omega) (by omega))]
    rfl
  | cons x q ih =>
    intro p f ar' u hpq hf hj hu
    obtain ⟨f, rfl⟩ : ∃ g, f = g + 1 := ⟨f - 1, by omega⟩
    have hpl : p.length < n := by rw [← hlen, ← hpq]; simp
    have hxL : L[p.length]? = some x := by rw [← hpq, List.getElem?_append_right (Nat.le_refl _)]; simp
    have hxn : x < n := hL x (List.mem_of_getElem? hxL)
    have hMx := hM x hxn
    obtain ⟨ka, hka, hka2⟩ : ∃ k : Nat, k < 4 ∧ (gA (ar 1) x 2).toInt = (k : Int) := ⟨(gA (ar 1) x 2).toInt.toNat, by have := hMx.2.2.1; omega, by have := hMx.2.2.1; omega⟩
    have hkn : (gA (ar 1) x 2).toInt.toNat = ka := by omega
    have f1 : ar' 1 = ar 1 := hj 1 (by omega) (by omega)
    have f7 : ar' 7 = ar 7 := hj 7 (by omega) (by omega)
    have f10 : ar' 10 = ar 10 := hj 10 (by omega) (by omega)
    have ho : ldI (mh σ m it ar') (m + 10) (nI p.length) = some (nI x) := by
      rw [mh_ld 10 p.length (nI_toInt (by omega)) (by omega) (by omega) (by simp [msz]; omega), f10, hord _ _ hxL]
    have hx32 : (nI x).toInt = (x : Int) := nI_toInt (by omega)
    have step : ∀ (v : Int32) (u' : US), (v = 0 ∨ v = 1) → u' = ((upd u.1 ka (u.1 ka + v * ar 7 x)), (fun q => if q = x then decide (v = 1) else u.2.1 q), u.2.2 + v * ar 7 x) →
        ∃ ar2, D_X10_looks_b122 (D_X10_looks_w59 m kx f) m u.2.2 (nI p.length) (nI x) (gA (ar 1) x 2) v (nI x) (m + 8) (mh σ m it ar') = kx (q.foldl (us1 (ar 1) (ar 7)) u').2.2 (mh σ m it ar2) ∧ (∀ j, j ≠ 8 → j ≠ 9 → ar2 j = ar j) ∧ usR ar2 (q.foldl (us1 (ar 1) (ar 7)) u') L := by
      intro v u' hv hu'
      have hstep : D_X10_looks_b122 (D_X10_looks_w59 m kx f) m u.2.2 (nI p.length) (nI x) (gA (ar 1) x 2) v (nI x) (m + 8) (mh σ m it ar') = D_X10_looks_w59 m kx f (u.2.2 + v * ar 7 x) (nI (p.length + 1)) (mh σ m it (va_up (va_up ar' 8 (upd (ar' 8) x v)) 9 (upd (ar' 9) ka (ar' 9 ka + v * ar 7 x)))) := by
        unfold D_X10_looks_b122
        rw [mh_st 8 x v hx32 (by omega) (by omega) (by simp [msz]; omega), Option.bind_some, mh_r9, Option.bind_some,
          mh_ld 9 ka hka2 (by omega) (by omega) (by simp [msz]; omega), Option.bind_some, mh_r8, Option.bind_some, mh_ld 8 x hx32 (by omega) (by omega) (by simp [msz]; omega), Option.bind_some, mh_r7, Option.bind_some,
          mh_ld 7 x hx32 (by omega) (by omega) (by simp [msz]; omega), Option.bind_some, mh_st 9 ka _ hka2 (by omega) (by omega) (by simp [msz]; omega), Option.bind_some, mh_r8, Option.bind_some,
          mh_ld 8 x hx32 (by omega) (by omega) (by simp [msz]; omega), Option.bind_some, mh_r7, Option.bind_some, mh_ld 7 x hx32 (by omega) (by omega) (by simp [msz]; omega), Option.bind_some, nm_eq, nI_1]
        simp only [up_eq, up_ne (show (9 : Nat) ≠ 8 by omega), up_ne (show (7 : Nat) ≠ 8 by omega), up_ne (show (7 : Nat) ≠ 9 by omega), up_ne (show (8 : Nat) ≠ 9 by omega), upd_eq, f7]
      rw [hstep]
      have hu2 : usR (va_up (va_up ar' 8 (upd (ar' 8) x v)) 9 (upd (ar' 9) ka (ar' 9 ka + v * ar 7 x))) u' (p ++ [x]) := by
        subst hu'
        constructor
        · intro a ha
          rw [up_eq]
          by_cases e : a = ka
          · subst e; rw [upd_eq, hu.1 a ha]; simp [upd]
          · rw [upd_ne e, hu.1 a ha]; simp [upd, e]
        · intro i hi
          rw [up_ne (by omega), up_eq]
          by_cases e : i = x
          · subst e
            rw [upd_eq]
            rcases hv with rfl | rfl <;> simp [bI]
          · rw [upd_ne e, hu.2 i (by rcases List.mem_append.mp hi with h | h; exact h; exact absurd (List.mem_singleton.mp h) e)]
            simp [e]
      have := ih (p ++ [x]) f (va_up (va_up ar' 8 (upd (ar' 8) x v)) 9 (upd (ar' 9) ka (ar' 9 ka + v * ar 7 x))) u' (by simpa using hpq) (by simp at hf; omega) (fun j h8 h9 => by rw [up_ne h9, up_ne h8]; exact hj j h8 h9) hu2
      have e1 : u'.2.2 = u.2.2 + v * ar 7 x := by rw [hu']
      have e2 : (p ++ [x]).length = p.length + 1 := by simp
      rw [e1, e2] at this
      exact this
    have hhas : ldI (mh σ m it ar') (m + 9) (gA (ar 1) x 2) = some (u.1 ka) := by
      rw [mh_ld 9 ka hka2 (by omega) (by omega) (by simp [msz]; omega), hu.1 ka hka]
    have hg : ldI (mh σ m it ar') (m + 7) (nI x) = some (ar 7 x) := by
      rw [mh_ld 7 x hx32 (by omega) (by omega) (by simp [msz]; omega), f7]
    have hfold : (x :: q).foldl (us1 (ar 1) (ar 7)) u = q.foldl (us1 (ar 1) (ar 7)) (us1 (ar 1) (ar 7) u x) := rfl
    rw [hfold]
    have hhead : D_X10_looks_w59 m kx (f + 1) u.2.2 (nI p.length) (mh σ m it ar') = if ar 1 0 < u.1 ka + ar 7 x then D_X10_looks_b122 (D_X10_looks_w59 m kx f) m u.2.2 (nI p.length) (nI x) (gA (ar 1) x 2) 0 (nI x) (m + 8) (mh σ m it ar') else D_X10_looks_b122 (D_X10_looks_w59 m kx f) m u.2.2 (nI p.length) (nI x) (gA (ar 1) x 2) 1 (nI x) (m + 8) (mh σ m it ar') := by
      conv => lhs; unfold D_X10_looks_w59
      rw [mh_r0, Option.bind_some, mh_A6, f1, h6, Option.bind_some, if_neg (nI_ge (by omega) (by omega)), mh_r10, Option.bind_some, ho, Option.bind_some, its2 (show x < 25 by omega), f1, bd_some, mh_r8, Option.bind_some, mh_r9, Option.bind_some, hhas, Option.bind_some, mh_r7, Option.bind_some, hg, Option.bind_some, mh_r0, Option.bind_some, mh_A0, f1, Option.bind_some]
    rw [hhead]
    unfold us1
    rw [hkn]
    by_cases hc : ar 1 0 < u.1 ka + ar 7 x
    · rw [if_pos hc, if_pos hc]
      refine step 0 _ (Or.inl rfl) ?_
      rw [Int32.zero_mul, Int32.add_zero, Int32.add_zero, upd_same]
      rfl
    · rw [if_neg hc, if_neg hc]
      refine step 1 _ (Or.inr rfl) ?_
      rw [Int32.one_mul]
      rfl
end M3
