/-! a field and its picture: column 20 less, hours from 10 down -/
def Mr (A B : Nat → Int32) (n : Nat) : Prop := (∀ k, k < 7 → B k = A k) ∧ ∀ i, i < n → gA B i 0 = gA A i 0 ∧ gA B i 1 = 20 - gA A i 1 ∧ gA B i 2 = gA A i 2 ∧ gA B i 3 = gA A i 3 ∧ gA B i 4 = gA A i 4
theorem r20 (a c : Int32) : 20 - a = c ↔ a = 20 - c := by
  constructor
  · intro h; grind
  · intro h; grind
theorem r10 {g : Nat} (hg : g < 11) : nI (10 - g) = 10 - nI g := by
  have : ∀ k : Fin 11, nI (10 - k.1) = 10 - nI k.1 := by decide
  exact this ⟨g, hg⟩
theorem rhi {g : Nat} (hg : g < 11) : hiN (10 - g) = hiN g := by
  have : ∀ k : Fin 11, hiN (10 - k.1) = hiN k.1 := by decide
  exact this ⟨g, hg⟩
theorem rsh (a k x : Int32) : 20 - (20 - a + k * (5 - (10 - x))) = a + k * (5 - x) := by grind
theorem rbl (a b r s : Int32) : ((20 - b - 10) * (r - -2) = (20 - a - 10) * (s - -2)) ↔ ((b - 10) * (r - -2) = (a - 10) * (s - -2)) := by
  constructor
  · intro q; grind
  · intro q; grind
theorem rev11 (f g : Nat → Int32) (h : ∀ k, k < 11 → g k = f (10 - k)) : sumF g 11 = sumF f 11 := by
  have h0 : g 0 = f 10 := h 0 (by omega)
  have h1 : g 1 = f 9 := h 1 (by omega)
  have h2 : g 2 = f 8 := h 2 (by omega)
  have h3 : g 3 = f 7 := h 3 (by omega)
  have h4 : g 4 = f 6 := h 4 (by omega)
  have h5 : g 5 = f 5 := h 5 (by omega)
  have h6 : g 6 = f 4 := h 6 (by omega)
  have h7 : g 7 = f 3 := h 7 (by omega)
  have h8 : g 8 = f 2 := h 8 (by omega)
  have h9 : g 9 = f 1 := h 9 (by omega)
  have h10 : g 10 = f 0 := h 10 (by omega)
  simp only [sumF]
  rw [h0, h1, h2, h3, h4, h5, h6, h7, h8, h9, h10]
  ac_rfl
section MR
variable {A B : Nat → Int32} {n : Nat}
theorem m_mAtF (h : Mr A B n) (r c : Int32) : ∀ k i, i + k ≤ n → mAtF B r c k i = mAtF A r (20 - c) k i := by
  intro k
  induction k with
  | zero => intro i _; rfl
  | succ k ih =>
    intro i hi
    obtain ⟨h0, h1, -⟩ := h.2 i (by omega)
    unfold mAtF
    rw [h0, h1, ih (i + 1) (by omega)]
    by_cases q : gA A i 0 = r ∧ gA A i 1 = 20 - c
    · rw [if_pos q, if_pos ⟨q.1, (r20 _ _).2 q.2⟩]
    · rw [if_neg q, if_neg (fun w => q ⟨w.1, (r20 _ _).1 w.2⟩)]
theorem m_mAt (h : Mr A B n) (r c : Int32) : mAt B n r c = mAt A n r (20 - c) := m_mAtF h r c n 0 (by omega)
theorem m_shF (h : Mr A B n) {i g : Nat} (hi : i < n) (hg : g < 11) : ∀ c k, shF B n i (10 - g) c k = shF A n i g c k := by
  intro c
  induction c with
  | zero => intro k; rfl
  | succ c ih =>
    intro k
    obtain ⟨h0, h1, -⟩ := h.2 i hi
    unfold shF
    rw [m_mAt h, h0, h1, r10 hg, rsh, ih (k + 1)]
theorem m_shade (h : Mr A B n) {i g : Nat} (hi : i < n) (hg : g < 11) : shade B n i (10 - g) = shade A n i g := by
  unfold shade
  rw [rhi hg, m_shF h hi hg]
theorem m_blk1 (h : Mr A B n) {i j : Nat} (hi : i < n) (hj : j < n) : blk1 B i j = blk1 A i j := by
  obtain ⟨a0, a1, -⟩ := h.2 i hi
  obtain ⟨b0, b1, -⟩ := h.2 j hj
  unfold blk1
  rw [a0, a1, b0, b1]
  exact decide_eq_decide.2 (and_congr Iff.rfl (rbl _ _ _ _))
theorem m_blkF (h : Mr A B n) {i : Nat} (hi : i < n) : ∀ k j, j + k ≤ n → blkF B i k j = blkF A i k j := by
  intro k
  induction k with
  | zero => intro j _; rfl
  | succ k ih =>
    intro j hj
    unfold blkF
    rw [m_blk1 h hi (by omega), ih (j + 1) (by omega)]
theorem m_blk (h : Mr A B n) {i : Nat} (hi : i < n) : blk B n i = blk A n i := m_blkF h hi n 0 (by omega)
theorem m_flat (h : Mr A B n) : flat B = flat A := by
  unfold flat
  rw [h.1 1 (by omega), h.1 4 (by omega)]
theorem m_gv (h : Mr A B n) {i g : Nat} (hi : i < n) (hg : g < 11) : gv B n (10 - g) i = gv A n g i := by
  unfold gv
  rw [m_flat h, m_shade h hi hg, m_blk h hi, (h.2 i hi).2.2.2.1, (h.2 i hi).1, rhi hg]
theorem fold_cg {g g' : Nat → Int32} (h0 : A 0 = B 0) (h2 : ∀ i, i < n → gA A i 2 = gA B i 2) : ∀ (l : List Nat) (u : US), (∀ i, i ∈ l → i < n ∧ g i = g' i) → l.foldl (us1 A g) u = l.foldl (us1 B g') u := by
  intro l
  induction l with
  | nil => intro u _; rw [List.foldl_nil, List.foldl_nil]
  | cons a l ih =>
    intro u hl
    have e : us1 A g u a = us1 B g' u a := by
      unfold us1
      rw [h0, h2 a (hl a List.mem_cons_self).1, (hl a List.mem_cons_self).2]
    have e2 := ih (us1 B g' u a) (fun i hi => hl i (List.mem_cons_of_mem _ hi))
    rw [← e] at e2
    exact e2.trans (congrArg (fun z => l.foldl (us1 B g') z) e)
theorem looksF_cg {g g' : Nat → Int32} (h0 : A 0 = B 0) (h2 : ∀ i, i < n → gA A i 2 = gA B i 2) (hg : ∀ i, i < n → g i = g' i) : looksF A n g = looksF B n g' := by
  unfold looksF
  rw [srt_congr n hg]
  exact fold_cg h0 h2 _ _ (fun i hi => by
    have hi2 := (srt_mem g' i n).mp (List.mem_reverse.mp hi)
    exact ⟨hi2, hg i hi2⟩)
theorem m_looks (h : Mr A B n) {g : Nat} (hg : g < 11) : looks B n (10 - g) = looks A n g := looksF_cg (h.1 0 (by omega)) (fun i hi => (h.2 i hi).2.2.1) (fun i hi => m_gv h hi hg)
theorem m_looks' (h : Mr A B n) {g : Nat} (hg : g < 11) : looks B n g = looks A n (10 - g) := by
  have := m_looks h (g := 10 - g) (by omega)
  rw [show 10 - (10 - g) = g by omega] at this
  exact this
theorem m_gv' (h : Mr A B n) {i g : Nat} (hi : i < n) (hg : g < 11) : gv B n g i = gv A n (10 - g) i := by
  have := m_gv h hi (g := 10 - g) (by omega)
  rw [show 10 - (10 - g) = g by omega] at this
  exact this
theorem bringsF_sum : ∀ k, bringsF A n k = sumF (fun h => (looks A n h).2.2) k
  | 0 => rfl
  | k + 1 => by rw [bringsF, sumF, bringsF_sum k]
theorem m_brings (h : Mr A B n) : brings B n = brings A n := by
  unfold brings
  rw [bringsF_sum, bringsF_sum]
  exact rev11 _ _ (fun k hk => by rw [m_looks' h hk])
/-! a day -/
def bro1 (A : Nat → Int32) (n i h : Nat) : Int32 := bI ((looks A n h).2.1 i) * gv A n h i
theorem dayH_4 {i : Nat} (hi : i < n) : ∀ h, gA (dayH A n h) i 4 = gA A i 4 + sumF (bro1 A n i) h
  | 0 => by simp [dayH, sumF]
  | h + 1 => by
    rw [dayH, sumF]
    unfold hourA
    rw [crF_4, if_pos hi, gA_upd_ne (by omega), dayH_4 hi h, looks_congr (dayH_Lk h), gv_congr (dayH_Lk h) hi, Int32.add_assoc]
    rfl
theorem m_bro (h : Mr A B n) {i : Nat} (hi : i < n) : sumF (bro1 B n i) 11 = sumF (bro1 A n i) 11 := rev11 _ _ (fun k hk => by
  unfold bro1
  rw [m_looks' h hk, m_gv' h hi hk])
theorem dayA_lo {k : Nat} (hk : k < 7) (h3 : k ≠ 3) (h5 : k ≠ 5) : dayA A n k = A k := by
  unfold dayA
  rw [upd_ne h3, duF_lo hk, dayH_lo hk h5]
theorem dayA_3 : dayA A n 3 = A 3 + 1 := by
  unfold dayA
  rw [upd_eq, duF_lo (by omega), dayH_lo (by omega) (by omega)]
theorem dayA_5 : dayA A n 5 = A 5 + brings A n := by
  unfold dayA
  rw [upd_ne (by omega), duF_lo (by omega), dayH_5]
  rfl
theorem dayA_w {i w : Nat} (hi : i < n) (hw : w < 3) : gA (dayA A n) i w = gA A i w := by
  unfold dayA
  rw [gA_upd_ne (by omega), duF_w (by omega) (by omega)]
  exact (dayH_Lk (A := A) (n := n) 11).2.2.2 i w hi (by omega)
theorem dayA_w3 {i : Nat} (hi : i < n) : gA (dayA A n) i 3 = dst (gA A i 3) (A 2) := by
  unfold dayA
  rw [gA_upd_ne (by omega), duF_3, if_pos hi, dayH_lo (by omega) (by omega), (dayH_Lk (A := A) (n := n) 11).2.2.2 i 3 hi (by omega)]
theorem dayA_w4 {i : Nat} (hi : i < n) : gA (dayA A n) i 4 = gA A i 4 + sumF (bro1 A n i) 11 := by
  unfold dayA
  rw [gA_upd_ne (by omega), duF_w (by omega) (by omega), dayH_4 hi]
theorem m_day (h : Mr A B n) : Mr (dayA A n) (dayA B n) n := by
  refine ⟨fun k hk => ?_, fun i hi => ?_⟩
  · by_cases c3 : k = 3
    · subst c3; rw [dayA_3, dayA_3, h.1 3 hk]
    · by_cases c5 : k = 5
      · subst c5; rw [dayA_5, dayA_5, h.1 5 hk, m_brings h]
      · rw [dayA_lo hk c3 c5, dayA_lo hk c3 c5, h.1 k hk]
  · obtain ⟨h0, h1, h2, h3, h4⟩ := h.2 i hi
    rw [dayA_w hi (by omega), dayA_w hi (by omega), dayA_w hi (by omega), dayA_w hi (by omega), dayA_w hi (by omega), dayA_w hi (by omega), dayA_w3 hi, dayA_w3 hi, dayA_w4 hi, dayA_w4 hi, h0, h1, h2, h3, h4, h.1 2 (by omega), m_bro h hi]
    exact ⟨rfl, rfl, rfl, rfl, rfl⟩
theorem m_days (h : Mr A B n) : ∀ k, Mr (daysA A n k) (daysA B n k) n
  | 0 => h
  | k + 1 => m_day (m_days h k)
end MR
