/-! the reference's asking calls -/
section M8
variable {σ : Hp} {m : Nat} {it : Nat → Int32} {ar : Nat → Nat → Int32} {n : Nat} {A : Nat → Int32} {H : List (Nat → Int32)} {S : SLT} {p : Nat → Int32} {pl : Nat}
theorem M_in (r c : Int32) (h : MI it ar A H S p pl) (hW : WS A n) : D_X10_in m r c (mh σ m it ar) = some (inO A n r c, mh σ m it ar) := by
  unfold D_X10_in inO
  rw [mh_isO, Option.bind_some, m_isPlace, bd_some]
  by_cases h1 : rng r 0 19 ∧ rng c 0 19
  · rw [if_pos (show (0 ≤ r.toInt ∧ r.toInt < 20) ∧ (0 ≤ c.toInt ∧ c.toInt < 20) from ⟨⟨h1.1.1, by have := h1.1.2; omega⟩, h1.2.1, by have := h1.2.2; omega⟩), if_neg (by decide), m_mirrorAt r c hW.1.1.1 (by rw [h.1]; exact hW.1.1.2), bd_some, if_pos h1, h.1]
  · rw [if_neg (show ¬ ((0 ≤ r.toInt ∧ r.toInt < 20) ∧ (0 ≤ c.toInt ∧ c.toInt < 20)) from fun q => h1 ⟨⟨q.1.1, by have := q.1.2; omega⟩, q.2.1, by have := q.2.2; omega⟩), if_pos rfl, if_neg h1]
theorem m_isHour (x : Int32) : D_X10_isHour x σ = some (if rng x 0 10 then 1 else 0, σ) := by
  unfold D_X10_isHour
  rw [isInI, bd_some]
  by_cases c : rng x 0 10
  · rw [if_pos (show (0 : Int64).toInt ≤ x.toInt ∧ x.toInt ≤ (10 : Int64).toInt from c), if_pos c, retZ_1]
  · rw [if_neg (show ¬ ((0 : Int64).toInt ≤ x.toInt ∧ x.toInt ≤ (10 : Int64).toInt) from c), if_neg c, retZ_0]
theorem rng_hour {x : Int32} (h : rng x 0 10) : ∃ k : Nat, k < 11 ∧ x = nI k ∧ x.toInt.toNat = k := rng_nat (n := 11) h (by omega)
theorem M_of (i w : Int32) (h : MI it ar A H S p pl) (hW : WS A n) : D_X10_of m i w (mh σ m it ar) = some (ofO A n i w, mh σ m it ar) := by
  have h6 : ar 1 6 = nI n := by rw [h.1]; exact hW.1.1.2
  have h25 := hW.1.1.1
  unfold D_X10_of ofO
  rw [mh_isO, Option.bind_some, m_isMirror h25 h6, bd_some]
  by_cases h1 : rng i 0 ((n : Int) - 1)
  · obtain ⟨k, hk, e, e2⟩ := rng_nat h1 (by omega)
    rw [if_pos (show 0 ≤ i.toInt ∧ i.toInt < n from ⟨h1.1, by have := h1.2; omega⟩), if_neg (by decide), if_neg (fun q => q h1), e2, e, isInI, bd_some]
    by_cases h2 : rng w 0 3
    · obtain ⟨v, hv, ev, ev2⟩ := rng_nat (n := 4) h2 (by omega)
      rw [if_pos (show (0 : Int64).toInt ≤ w.toInt ∧ w.toInt ≤ (3 : Int64).toInt from h2), if_neg (by decide), if_pos h2, ev2, ev, its_eq (show k < 25 by omega) (show v < 5 by omega), bd_some, h.1]
    · rw [if_neg (show ¬ ((0 : Int64).toInt ≤ w.toInt ∧ w.toInt ≤ (3 : Int64).toInt) from h2), if_pos rfl, if_neg h2]
      by_cases h4 : w = 4
      · rw [if_pos h4, if_pos h4, m_isBlocked h25 h6 hk, bd_some, h.1]
        cases blk A n k <;> rfl
      · rw [if_neg h4, if_neg h4]
        by_cases h5 : w = 5
        · rw [if_pos h5, if_pos h5, its4 (show k < 25 by omega), bd_some, h.1]
        · rw [if_neg h5, if_neg h5]
  · rw [if_neg (show ¬ (0 ≤ i.toInt ∧ i.toInt < n) from fun q => h1 ⟨q.1, by have := q.2; omega⟩), if_pos rfl, if_pos h1]
theorem M_at (i hh w : Int32) (h : MI it ar A H S p pl) (hW : WS A n) : ∃ ar', D_X10_at m i hh w (mh σ m it ar) = some (atO A n i hh w, mh σ m it ar') ∧ scr ar ar' := by
  have h6 : ar 1 6 = nI n := by rw [h.1]; exact hW.1.1.2
  have h25 := hW.1.1.1
  unfold D_X10_at atO
  rw [mh_isO, Option.bind_some, m_isMirror h25 h6, bd_some]
  by_cases h1 : rng i 0 ((n : Int) - 1)
  · obtain ⟨k, hk, e, e2⟩ := rng_nat h1 (by omega)
    rw [if_pos (show 0 ≤ i.toInt ∧ i.toInt < n from ⟨h1.1, by have := h1.2; omega⟩), if_neg (by decide), m_isHour, bd_some]
    by_cases h2 : rng hh 0 10
    · obtain ⟨v, hv, ev, ev2⟩ := rng_hour h2
      obtain ⟨a2, g1, g2, g3⟩ := m_looks (σ := σ) (m := m) (it := it) (ar := ar) (n := n) (h := v) (by rw [h.1]; exact hW.1) hv
      rw [h.1] at g1 g3
      rw [if_pos h2, if_neg (by decide), if_neg (show ¬ ¬ (rng i 0 ((n : Int) - 1) ∧ rng hh 0 10) from fun q => q ⟨h1, h2⟩), e2, ev2, e, ev, m_shadeOf h25 h6 hk hv, bd_some, g1, bd_some, h.1]
      refine ⟨a2, ?_, g2⟩
      by_cases w0 : w = 0
      · rw [if_pos w0, if_pos w0]
        by_cases c : shade A n k v = none
        · rw [c, if_pos (show oI none = -6 from rfl), if_pos rfl]
        · rw [if_neg (show ¬ oI (shade A n k v) = -6 from fun q => c ((oI_eq (fun j hj => by have := shade_lt hj; omega)).mp q)), if_neg c]
      · rw [if_neg w0, if_neg w0]
        by_cases w1 : w = 1
        · rw [if_pos w1, if_pos w1, mh_r7, Option.bind_some, mh_ld 7 k (nI_toInt (by omega)) (by omega) (by omega) (by simp [msz]; omega), g3.1 k hk, Option.bind_some]
        · rw [if_neg w1, if_neg w1]
          by_cases w2 : w = 2
          · rw [if_pos w2, if_pos w2, mh_r8, Option.bind_some, mh_ld 8 k (nI_toInt (by omega)) (by omega) (by omega) (by simp [msz]; omega), g3.2.2 k hk, Option.bind_some]
          · rw [if_neg w2, if_neg w2]
            by_cases w3 : w = 3
            · rw [if_pos w3, if_pos w3]
            · rw [if_neg w3, if_neg w3]
    · rw [if_neg h2, if_pos rfl, if_pos (show ¬ (rng i 0 ((n : Int) - 1) ∧ rng hh 0 10) from fun q => h2 q.2)]
      exact ⟨ar, rfl, scr.rf⟩
  · rw [if_neg (show ¬ (0 ≤ i.toInt ∧ i.toInt < n) from fun q => h1 ⟨q.1, by have := q.2; omega⟩), if_pos rfl, if_pos (show ¬ (rng i 0 ((n : Int) - 1) ∧ rng hh 0 10) from fun q => h1 q.1)]
    exact ⟨ar, rfl, scr.rf⟩
theorem m_mirrorsOf_w5 (a b : Int32) (kx : Int32 → Hp → Option (Int32 × Hp)) {f : Nat → Bool} (hn : n ≤ 25) (h6 : ar 1 6 = nI n) (hb : (b = 0 ∧ ∀ i, i < n → f i = aimM (ar 1) a i) ∨ (b = 1 ∧ ∃ u : Nat → Bool, (∀ i, i < n → ar 8 i = bI (u i)) ∧ ∀ i, i < n → f i = (aimM (ar 1) a i && u i))) : ∀ (k i g : Nat), i + k = n → k < g → D_X10_mirrorsOf_w5 m a b kx g (maskF f i) (nI i) (mh σ m it ar) = kx (maskF f n) (mh σ m it ar) := by
  intro k
  induction k with
  | zero =>
    intro i g hi hg
    obtain ⟨g, rfl⟩ : ∃ q, g = q + 1 := ⟨g - 1, by omega⟩
    have : i = n := by omega
    subst this
    unfold D_X10_mirrorsOf_w5
    rw [mh_r0, Option.bind_some, mh_A6, h6, Option.bind_some, if_pos (nI_le (by omega) (by omega))]
  | succ k ih =>
    intro i g hi hg
    obtain ⟨g, rfl⟩ : ∃ q, g = q + 1 := ⟨g - 1, by omega⟩
    rw [← ih (i + 1) g (by omega) (by omega)]
    conv => lhs; unfold D_X10_mirrorsOf_w5
    rw [mh_r0, Option.bind_some, mh_A6, h6, Option.bind_some, if_neg (nI_ge (by omega) (by omega)), its2 (show i < 25 by omega), bd_some]
    unfold D_X10_mirrorsOf_b44 D_X10_mirrorsOf_b51 D_X10_mirrorsOf_b52
    simp only [nm_eq, nI_1]
    have ht : f i = true → maskF f (i + 1) = maskF f i ||| ((1 : Int32) <<< (nI i &&& 31)) := fun q => by rw [maskF, if_pos q]
    have hf : f i = false → maskF f (i + 1) = maskF f i ||| 0 := fun q => by rw [maskF, if_neg (by rw [q]; decide)]
    rcases hb with ⟨hb0, hff⟩ | ⟨hb1, u, hu, hff⟩
    · have hfi := hff i (by omega)
      by_cases c : gA (ar 1) i 2 = a
      · rw [if_pos c, if_pos hb0, ht (by rw [hfi]; exact decide_eq_true c)]
      · rw [if_neg c, hf (by rw [hfi]; exact decide_eq_false c)]
    · have hfi := hff i (by omega)
      by_cases c : gA (ar 1) i 2 = a
      · have hc : aimM (ar 1) a i = true := decide_eq_true c
        rw [if_pos c, if_neg (by rw [hb1]; decide), mh_r8, Option.bind_some, mh_ld 8 i (nI_toInt (by omega)) (by omega) (by omega) (by simp [msz]; omega), hu i (by omega), Option.bind_some]
        cases hui : u i with
        | true => rw [if_pos (show bI true = 1 from rfl), ht (by rw [hfi, hc, hui]; rfl)]
        | false => rw [if_neg (show ¬ bI false = 1 by decide), hf (by rw [hfi, hc, hui]; rfl)]
      · rw [if_neg c, hf (by rw [hfi, show aimM (ar 1) a i = false from decide_eq_false c]; rfl)]
theorem m_mirrorsOf (a b : Int32) {f : Nat → Bool} (hn : n ≤ 25) (h6 : ar 1 6 = nI n) (hb : (b = 0 ∧ ∀ i, i < n → f i = aimM (ar 1) a i) ∨ (b = 1 ∧ ∃ u : Nat → Bool, (∀ i, i < n → ar 8 i = bI (u i)) ∧ ∀ i, i < n → f i = (aimM (ar 1) a i && u i))) : D_X10_mirrorsOf m a b (mh σ m it ar) = some (maskF f n, mh σ m it ar) := by
  have h := m_mirrorsOf_w5 (σ := σ) (m := m) (it := it) (ar := ar) a b (fun i56 s55 => some (i56, s55)) hn h6 hb n 0 FU (by omega) (by rw [FU_eq]; omega)
  unfold D_X10_mirrorsOf
  rw [mh_isO, Option.bind_some]
  exact h
theorem maskF_congr {f g : Nat → Bool} : ∀ k, (∀ i, i < k → f i = g i) → maskF f k = maskF g k
  | 0, _ => rfl
  | k + 1, h => by rw [maskF, maskF, maskF_congr k (fun i hi => h i (by omega)), h k (by omega)]
theorem M_point (a hh w : Int32) (h : MI it ar A H S p pl) (hW : WS A n) : ∃ ar', D_X10_point m a hh w (mh σ m it ar) = some (poiO A n a hh w, mh σ m it ar') ∧ scr ar ar' := by
  have h25 := hW.1.1.1
  unfold D_X10_point poiO
  rw [mh_isO, Option.bind_some, isInI, bd_some]
  by_cases h1 : rng a 0 3
  · obtain ⟨k, hk, e, e2⟩ := rng_nat (n := 4) h1 (by omega)
    rw [if_pos (show (0 : Int64).toInt ≤ a.toInt ∧ a.toInt ≤ (3 : Int64).toInt from h1), if_neg (by decide), m_isHour, bd_some]
    by_cases h2 : rng hh 0 10
    · obtain ⟨v, hv, ev, ev2⟩ := rng_hour h2
      obtain ⟨a2, g1, g2, g3⟩ := m_looks (σ := σ) (m := m) (it := it) (ar := ar) (n := n) (h := v) (by rw [h.1]; exact hW.1) hv
      rw [h.1] at g1 g3
      have e21 : a2 1 = A := by rw [g2 1 (by omega) (by omega) (by omega) (by omega), h.1]
      have h62 : a2 1 6 = nI n := by rw [e21]; exact hW.1.1.2
      rw [if_pos h2, if_neg (by decide), if_neg (show ¬ ¬ (rng a 0 3 ∧ rng hh 0 10) from fun q => q ⟨h1, h2⟩), ev2, ev, g1, bd_some]
      refine ⟨a2, ?_, g2⟩
      by_cases w0 : w = 0
      · have hae : a.toInt = (k : Int) := by have := h1.1; omega
        rw [if_pos w0, if_pos w0, mh_r9, Option.bind_some, mh_ld 9 k hae (by omega) (by omega) (by simp [msz]; omega), g3.2.1 k hk, Option.bind_some, e2]
      · rw [if_neg w0, if_neg w0]
        unfold D_X10_point_b51 D_X10_point_b63
        by_cases w1 : w = 1
        · rw [if_pos w1, if_pos w1, if_neg (by rw [w1]; decide), m_mirrorsOf (f := aimM A a) a 0 h25 h62 (Or.inl ⟨rfl, fun i _ => by rw [e21]⟩), bd_some]
        · rw [if_neg w1, if_neg w1]
          by_cases w2 : w = 2
          · rw [if_pos w2, if_pos w2, if_pos w2, m_mirrorsOf (f := fun i => aimM A a i && (looks A n v).2.1 i) a 1 h25 h62 (Or.inr ⟨rfl, (looks A n v).2.1, g3.2.2, fun i _ => by rw [e21]⟩), bd_some]
          · rw [if_neg w2, if_neg w2]
    · rw [if_neg h2, if_pos rfl, if_pos (show ¬ (rng a 0 3 ∧ rng hh 0 10) from fun q => h2 q.2)]
      exact ⟨ar, rfl, scr.rf⟩
  · rw [if_neg (show ¬ ((0 : Int64).toInt ≤ a.toInt ∧ a.toInt ≤ (3 : Int64).toInt) from h1), if_pos rfl, if_pos (show ¬ (rng a 0 3 ∧ rng hh 0 10) from fun q => h1 q.1)]
    exact ⟨ar, rfl, scr.rf⟩
theorem m_blockedOnes_w4 (kx : Int32 → Hp → Option (Int32 × Hp)) (hn : n ≤ 25) (h6 : ar 1 6 = nI n) : ∀ (k i f : Nat), i + k = n → k < f → D_X10_blockedOnes_w4 m kx f (maskF (blk (ar 1) n) i) (nI i) (mh σ m it ar) = kx (maskF (blk (ar 1) n) n) (mh σ m it ar) := by
  intro k
  induction k with
  | zero =>
    intro i f hi hf
    obtain ⟨f, rfl⟩ : ∃ g, f = g + 1 := ⟨f - 1, by omega⟩
    have : i = n := by omega
    subst this
    unfold D_X10_blockedOnes_w4
    rw [mh_r0, Option.bind_some, mh_A6, h6, Option.bind_some, if_pos (nI_le (by omega) (by omega))]
  | succ k ih =>
    intro i f hi hf
    obtain ⟨f, rfl⟩ : ∃ g, f = g + 1 := ⟨f - 1, by omega⟩
    rw [← ih (i + 1) f (by omega) (by omega)]
    conv => lhs; unfold D_X10_blockedOnes_w4
    rw [mh_r0, Option.bind_some, mh_A6, h6, Option.bind_some, if_neg (nI_ge (by omega) (by omega)), m_isBlocked hn h6 (by omega), bd_some]
    unfold D_X10_blockedOnes_b31
    rw [nm_eq, nm_eq, nI_1]
    conv => rhs; rw [maskF]
    cases blk (ar 1) n i with
    | true => rw [if_neg (by decide), if_pos rfl]
    | false => rw [if_pos (show bI false = 0 from rfl), if_neg (by decide)]
theorem m_allDirt_w4 (kx : Int32 → Hp → Option (Int32 × Hp)) (hn : n ≤ 25) (h6 : ar 1 6 = nI n) : ∀ (k i f : Nat), i + k = n → k < f → D_X10_allDirt_w4 m kx f (sumF (fun i => gA (ar 1) i 3) i) (nI i) (mh σ m it ar) = kx (sumF (fun i => gA (ar 1) i 3) n) (mh σ m it ar) := by
  intro k
  induction k with
  | zero =>
    intro i f hi hf
    obtain ⟨f, rfl⟩ : ∃ g, f = g + 1 := ⟨f - 1, by omega⟩
    have : i = n := by omega
    subst this
    unfold D_X10_allDirt_w4
    rw [mh_r0, Option.bind_some, mh_A6, h6, Option.bind_some, if_pos (nI_le (by omega) (by omega))]
  | succ k ih =>
    intro i f hi hf
    obtain ⟨f, rfl⟩ : ∃ g, f = g + 1 := ⟨f - 1, by omega⟩
    rw [← ih (i + 1) f (by omega) (by omega)]
    conv => lhs; unfold D_X10_allDirt_w4
    rw [mh_r0, Option.bind_some, mh_A6, h6, Option.bind_some, if_neg (nI_ge (by omega) (by omega)), its3 (show i < 25 by omega), bd_some, nm_eq, nI_1]
    rfl
theorem M_count (w : Int32) (h : MI it ar A H S p pl) (hW : WS A n) : ∃ ar', D_X10_count m w (mh σ m it ar) = some (couO A n H.length pl w, mh σ m it ar') ∧ scr ar ar' := by
  have h6 : ar 1 6 = nI n := by rw [h.1]; exact hW.1.1.2
  have h25 := hW.1.1.1
  unfold D_X10_count couO
  rw [mh_isO, Option.bind_some]
  by_cases w0 : w = 0
  · rw [if_pos w0, if_pos w0, mh_r0, Option.bind_some, mh_A3, Option.bind_some, h.1]; exact ⟨ar, rfl, scr.rf⟩
  rw [if_neg w0, if_neg w0]
  by_cases w1 : w = 1
  · rw [if_pos w1, if_pos w1, mh_r0, Option.bind_some, mh_A6, Option.bind_some, h.1]; exact ⟨ar, rfl, scr.rf⟩
  rw [if_neg w1, if_neg w1]
  by_cases w2 : w = 2
  · rw [if_pos w2, if_pos w2, mh_r0, Option.bind_some, mh_A4, Option.bind_some, h.1]; exact ⟨ar, rfl, scr.rf⟩
  rw [if_neg w2, if_neg w2]
  by_cases w3 : w = 3
  · rw [if_pos w3, if_pos w3, m_areFlat, bd_some, h.1]
    refine ⟨ar, ?_, scr.rf⟩
    cases flat A <;> rfl
  rw [if_neg w3, if_neg w3]
  by_cases w4 : w = 4
  · rw [if_pos w4, if_pos w4, mh_r0, Option.bind_some, mh_A5, Option.bind_some, h.1]; exact ⟨ar, rfl, scr.rf⟩
  rw [if_neg w4, if_neg w4]
  by_cases w5 : w = 5
  · obtain ⟨a2, g1, g2⟩ := m_brings (σ := σ) (m := m) (it := it) (ar := ar) (n := n) (by rw [h.1]; exact hW.1)
    rw [if_pos w5, if_pos w5, g1, bd_some, h.1]
    exact ⟨a2, rfl, g2⟩
  rw [if_neg w5, if_neg w5]
  by_cases w6 : w = 6
  · have g := m_blockedOnes_w4 (σ := σ) (m := m) (it := it) (ar := ar) (fun i32 s31 => some (i32, s31)) h25 h6 n 0 FU (by omega) (by rw [FU_eq]; omega)
    rw [show nI 0 = (0 : Int32) from rfl, show maskF (blk (ar 1) n) 0 = 0 from rfl] at g
    unfold D_X10_blockedOnes
    rw [if_pos w6, if_pos w6, mh_isO, Option.bind_some, g, bd_some, h.1]
    exact ⟨ar, rfl, scr.rf⟩
  rw [if_neg w6, if_neg w6]
  by_cases w7 : w = 7
  · have g := m_allDirt_w4 (σ := σ) (m := m) (it := it) (ar := ar) (fun i24 s23 => some (i24, s23)) h25 h6 n 0 FU (by omega) (by rw [FU_eq]; omega)
    rw [show nI 0 = (0 : Int32) from rfl, show sumF (fun i => gA (ar 1) i 3) 0 = 0 from rfl] at g
    unfold D_X10_allDirt
    rw [if_pos w7, if_pos w7, mh_isO, Option.bind_some, g, bd_some, h.1]
    exact ⟨ar, rfl, scr.rf⟩
  rw [if_neg w7, if_neg w7]
  unfold D_X10_count_b125
  by_cases w8 : w = 8
  · rw [if_pos w8, if_pos w8, mh_r0, Option.bind_some, mh_A (k := 0) (by rw [w8]; rfl) (by omega), Option.bind_some, h.1]; exact ⟨ar, rfl, scr.rf⟩
  rw [if_neg w8, if_neg w8]
  by_cases w9 : w = 9
  · rw [if_pos w9, if_pos w9, mh_r0, Option.bind_some, mh_A (k := 1) (by rw [w9]; rfl) (by omega), Option.bind_some, h.1]; exact ⟨ar, rfl, scr.rf⟩
  rw [if_neg w9, if_neg w9]
  by_cases w10 : w = 10
  · rw [if_pos w10, if_pos w10, mh_r0, Option.bind_some, mh_A (k := 2) (by rw [w10]; rfl) (by omega), Option.bind_some, h.1]; exact ⟨ar, rfl, scr.rf⟩
  rw [if_neg w10, if_neg w10]
  by_cases w11 : w = 11
  · rw [if_pos w11, if_pos w11, mh_i12, Option.bind_some, h.2.2.2.1.1]; exact ⟨ar, rfl, scr.rf⟩
  rw [if_neg w11, if_neg w11]
  by_cases w12 : w = 12
  · rw [if_pos w12, if_pos w12, mh_i4, Option.bind_some, h.2.1.2.1]; exact ⟨ar, rfl, scr.rf⟩
  rw [if_neg w12, if_neg w12]
  exact ⟨ar, rfl, scr.rf⟩
end M8
