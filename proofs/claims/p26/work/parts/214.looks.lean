def LkEq (A B : Nat → Int32) (n : Nat) : Prop := A 0 = B 0 ∧ A 1 = B 1 ∧ A 4 = B 4 ∧ ∀ i w, i < n → w < 4 → gA A i w = gA B i w
theorem LkEq.symm {A B : Nat → Int32} {n : Nat} (h : LkEq A B n) : LkEq B A n := ⟨h.1.symm, h.2.1.symm, h.2.2.1.symm, fun i w hi hw => (h.2.2.2 i w hi hw).symm⟩
theorem LkEq.trans {A B C : Nat → Int32} {n : Nat} (h : LkEq A B n) (g : LkEq B C n) : LkEq A C n := ⟨h.1.trans g.1, h.2.1.trans g.2.1, h.2.2.1.trans g.2.2.1, fun i w hi hw => (h.2.2.2 i w hi hw).trans (g.2.2.2 i w hi hw)⟩
theorem LkEq.rf {A : Nat → Int32} {n : Nat} : LkEq A A n := ⟨rfl, rfl, rfl, fun _ _ _ _ => rfl⟩
section LK
variable {A B : Nat → Int32} {n : Nat}
theorem mAtF_congr (h : ∀ i w, i < n → w < 4 → gA A i w = gA B i w) (r c : Int32) : ∀ k i, i + k ≤ n → mAtF A r c k i = mAtF B r c k i := by
  intro k
  induction k with
  | zero => intro i _; rfl
  | succ k ih =>
    intro i hi
    unfold mAtF
    rw [h i 0 (by omega) (by omega), h i 1 (by omega) (by omega), ih (i + 1) (by omega)]
theorem mAt_congr (h : ∀ i w, i < n → w < 4 → gA A i w = gA B i w) (r c : Int32) : mAt A n r c = mAt B n r c := mAtF_congr h r c n 0 (by omega)
theorem shF_congr (h : ∀ i w, i < n → w < 4 → gA A i w = gA B i w) {i : Nat} (hi : i < n) (hr : Nat) : ∀ c k, shF A n i hr c k = shF B n i hr c k := by
  intro c
  induction c with
  | zero => intro k; rfl
  | succ c ih =>
    intro k
    unfold shF
    rw [mAt_congr h, h i 0 hi (by omega), h i 1 hi (by omega), ih (k + 1)]
theorem shade_congr (h : ∀ i w, i < n → w < 4 → gA A i w = gA B i w) {i : Nat} (hi : i < n) (hr : Nat) : shade A n i hr = shade B n i hr := shF_congr h hi hr _ _
theorem blkF_congr (h : ∀ i w, i < n → w < 4 → gA A i w = gA B i w) {i : Nat} (hi : i < n) : ∀ k j, j + k ≤ n → blkF A i k j = blkF B i k j := by
  intro k
  induction k with
  | zero => intro j _; rfl
  | succ k ih =>
    intro j hj
    unfold blkF blk1
    rw [h i 0 hi (by omega), h i 1 hi (by omega), h j 0 (by omega) (by omega), h j 1 (by omega) (by omega), ih (j + 1) (by omega)]
theorem blk_congr (h : ∀ i w, i < n → w < 4 → gA A i w = gA B i w) {i : Nat} (hi : i < n) : blk A n i = blk B n i := blkF_congr h hi n 0 (by omega)
theorem gv_congr (h : LkEq A B n) {i : Nat} (hi : i < n) (hr : Nat) : gv A n hr i = gv B n hr i := by
  obtain ⟨h0, h1, h4, hw⟩ := h
  unfold gv flat
  rw [h1, h4, shade_congr hw hi, blk_congr hw hi, hw i 3 hi (by omega), hw i 0 hi (by omega)]
theorem us1_congr (h : LkEq A B n) {g g' : Nat → Int32} {u : US} {i : Nat} (hi : i < n) (hg : g i = g' i) : us1 A g u i = us1 B g' u i := by
  obtain ⟨h0, h1, h4, hw⟩ := h
  unfold us1
  rw [h0, hw i 2 hi (by omega), hg]
theorem fold_congr (h : LkEq A B n) {g g' : Nat → Int32} : ∀ (l : List Nat) (u : US), (∀ i, i ∈ l → i < n ∧ g i = g' i) → l.foldl (us1 A g) u = l.foldl (us1 B g') u := by
  intro l
  induction l with
  | nil => intro u _; rw [List.foldl_nil, List.foldl_nil]
  | cons a l ih =>
    intro u hl
    have e := us1_congr (u := u) h (hl a List.mem_cons_self).1 (hl a List.mem_cons_self).2
    have e2 := ih (us1 B g' u a) (fun i hi => hl i (List.mem_cons_of_mem _ hi))
    rw [← e] at e2
    exact e2.trans (congrArg (fun z => l.foldl (us1 B g') z) e)
theorem looksF_congr (h : LkEq A B n) {g g' : Nat → Int32} (hg : ∀ i, i < n → g i = g' i) : looksF A n g = looksF B n g' := by
  unfold looksF
  rw [srt_congr n hg]
  exact fold_congr h _ _ (fun i hi => by
    have hi2 := (srt_mem g' i n).mp (List.mem_reverse.mp hi)
    exact ⟨hi2, hg i hi2⟩)
theorem looks_congr (h : LkEq A B n) (hr : Nat) : looks A n hr = looks B n hr := looksF_congr h (fun i hi => gv_congr h hi hr)
theorem bringsF_congr (h : LkEq A B n) : ∀ k, bringsF A n k = bringsF B n k
  | 0 => rfl
  | k + 1 => by rw [bringsF, bringsF, bringsF_congr h k, looks_congr h]
theorem brings_congr (h : LkEq A B n) : brings A n = brings B n := bringsF_congr h 11
end LK
def crF (A : Nat → Int32) (u : Nat → Bool) (g : Nat → Int32) : Nat → (Nat → Int32)
  | 0 => A
  | k + 1 => upd (crF A u g k) (7 + 5 * k + 4) (gA (crF A u g k) k 4 + bI (u k) * g k)
def hourA (A : Nat → Int32) (n h : Nat) : Nat → Int32 := crF (upd A 5 (A 5 + (looks A n h).2.2)) (looks A n h).2.1 (gv A n h) n
def dayH (A : Nat → Int32) (n : Nat) : Nat → (Nat → Int32)
  | 0 => A
  | h + 1 => hourA (dayH A n h) n h
def dst (d s : Int32) : Int32 := if 100 ≤ d + s then 100 else d + s
def duF (A : Nat → Int32) : Nat → (Nat → Int32)
  | 0 => A
  | k + 1 => upd (duF A k) (7 + 5 * k + 3) (dst (gA (duF A k) k 3) (duF A k 2))
def dayA (A : Nat → Int32) (n : Nat) : Nat → Int32 := upd (duF (dayH A n 11) n) 3 (duF (dayH A n 11) n 3 + 1)
def daysA (A : Nat → Int32) (n : Nat) : Nat → (Nat → Int32)
  | 0 => A
  | k + 1 => dayA (daysA A n k) n
theorem gA_upd_ne {A : Nat → Int32} {i w k : Nat} {v : Int32} (h : 7 + 5 * i + w ≠ k) : gA (upd A k v) i w = gA A i w := by unfold gA; exact upd_ne h
theorem gA_upd_eq {A : Nat → Int32} {i w : Nat} {v : Int32} : gA (upd A (7 + 5 * i + w) v) i w = v := by unfold gA; exact upd_eq
theorem crF_lo {A : Nat → Int32} {u : Nat → Bool} {g : Nat → Int32} {j : Nat} (hj : j < 7) : ∀ k, crF A u g k j = A j
  | 0 => rfl
  | k + 1 => by rw [crF, upd_ne (by omega), crF_lo hj k]
theorem crF_w {A : Nat → Int32} {u : Nat → Bool} {g : Nat → Int32} {i w : Nat} (hw : w < 4) : ∀ k, gA (crF A u g k) i w = gA A i w
  | 0 => rfl
  | k + 1 => by rw [crF, gA_upd_ne (by omega), crF_w hw k]
theorem crF_4 {A : Nat → Int32} {u : Nat → Bool} {g : Nat → Int32} {i : Nat} : ∀ k, gA (crF A u g k) i 4 = if i < k then gA A i 4 + bI (u i) * g i else gA A i 4
  | 0 => by simp [crF]
  | k + 1 => by
    rw [crF]
    by_cases h : i = k
    · subst h
      rw [gA_upd_eq, crF_4 i, if_neg (by omega), if_pos (by omega)]
    · rw [gA_upd_ne (by omega), crF_4 k]
      by_cases h2 : i < k
      · rw [if_pos h2, if_pos (by omega)]
      · rw [if_neg h2, if_neg (by omega)]
theorem hour_Lk {A : Nat → Int32} {n h : Nat} : LkEq (hourA A n h) A n := by
  unfold hourA
  refine ⟨?_, ?_, ?_, fun i w hi hw => ?_⟩
  · rw [crF_lo (by omega), upd_ne (by omega)]
  · rw [crF_lo (by omega), upd_ne (by omega)]
  · rw [crF_lo (by omega), upd_ne (by omega)]
  · rw [crF_w hw, gA_upd_ne (by omega)]
theorem WF.of_eq {A B : Nat → Int32} {n : Nat} (h : WF A n) (hL : LkEq B A n) (h6 : B 6 = A 6) (h2 : B 2 = A 2) (h3 : B 3 = A 3) : WF B n := by
  obtain ⟨⟨hn, h6'⟩, hM, hd, q0, q1, q2, q3, q4⟩ := h
  obtain ⟨e0, e1, e4, ew⟩ := hL
  refine ⟨⟨hn, h6.trans h6'⟩, fun i hi => ?_, fun i j hi hj a b => ?_, by rw [e0]; exact q0, by rw [e1]; exact q1, by rw [h2]; exact q2, by rw [h3]; exact q3, by rw [e4]; exact q4⟩
  · obtain ⟨a, b, c, d⟩ := hM i hi
    unfold WM
    rw [ew i 0 hi (by omega), ew i 1 hi (by omega), ew i 2 hi (by omega), ew i 3 hi (by omega)]
    exact ⟨a, b, c, d⟩
  · rw [ew i 0 hi (by omega), ew j 0 hj (by omega)] at a
    rw [ew i 1 hi (by omega), ew j 1 hj (by omega)] at b
    exact hd i j hi hj a b
theorem hour_WF {A : Nat → Int32} {n h : Nat} (hW : WF A n) : WF (hourA A n h) n := by
  refine hW.of_eq hour_Lk ?_ ?_ ?_
  · unfold hourA; rw [crF_lo (by omega), upd_ne (by omega)]
  · unfold hourA; rw [crF_lo (by omega), upd_ne (by omega)]
  · unfold hourA; rw [crF_lo (by omega), upd_ne (by omega)]
theorem dayH_WF {A : Nat → Int32} {n : Nat} (hW : WF A n) : ∀ h, WF (dayH A n h) n
  | 0 => hW
  | h + 1 => hour_WF (dayH_WF hW h)
theorem dayH_Lk {A : Nat → Int32} {n : Nat} : ∀ h, LkEq (dayH A n h) A n
  | 0 => LkEq.rf
  | h + 1 => hour_Lk.trans (dayH_Lk h)
theorem dayH_lo {A : Nat → Int32} {n j : Nat} (hj : j < 7) (h5 : j ≠ 5) : ∀ h, dayH A n h j = A j
  | 0 => rfl
  | h + 1 => by
    rw [dayH]
    unfold hourA
    rw [crF_lo hj, upd_ne h5, dayH_lo hj h5 h]
theorem dayH_5 {A : Nat → Int32} {n : Nat} : ∀ h, dayH A n h 5 = A 5 + bringsF A n h
  | 0 => by simp [dayH, bringsF]
  | h + 1 => by
    rw [dayH, bringsF]
    unfold hourA
    rw [crF_lo (by omega), upd_eq, dayH_5 h, looks_congr (dayH_Lk h), Int32.add_assoc]
theorem duF_lo {A : Nat → Int32} {j : Nat} (hj : j < 7) : ∀ k, duF A k j = A j
  | 0 => rfl
  | k + 1 => by rw [duF, upd_ne (by omega), duF_lo hj k]
theorem duF_w {A : Nat → Int32} {i w : Nat} (hw : w < 5) (h3 : w ≠ 3) : ∀ k, gA (duF A k) i w = gA A i w
  | 0 => rfl
  | k + 1 => by rw [duF, gA_upd_ne (by omega), duF_w hw h3 k]
theorem duF_3 {A : Nat → Int32} {i : Nat} : ∀ k, gA (duF A k) i 3 = if i < k then dst (gA A i 3) (A 2) else gA A i 3
  | 0 => by simp [duF]
  | k + 1 => by
    rw [duF]
    by_cases h : i = k
    · subst h
      rw [gA_upd_eq, duF_3 i, if_neg (by omega), if_pos (by omega), duF_lo (by omega)]
    · rw [gA_upd_ne (by omega), duF_3 k]
      by_cases h2 : i < k
      · rw [if_pos h2, if_pos (by omega)]
      · rw [if_neg h2, if_neg (by omega)]
theorem dust_in {d s : Int32} (hd : 0 ≤ d.toInt ∧ d.toInt ≤ 100) (hs : 0 ≤ s.toInt ∧ s.toInt ≤ 20) : (d + s).toInt = d.toInt + s.toInt ∧ 0 ≤ (dst d s).toInt ∧ (dst d s).toInt ≤ 100 := by
  have e : (d + s).toInt = d.toInt + s.toInt := by
    rw [Int32.toInt_add, Int.bmod_eq_of_le (by omega) (by omega)]
  refine ⟨e, ?_⟩
  unfold dst
  by_cases c : (100 : Int32) ≤ d + s
  · rw [if_pos c]; decide
  · rw [if_neg c]
    rw [pu_le, e] at c
    have c : ¬ (100 : Int) ≤ d.toInt + s.toInt := c
    omega
theorem day_WF {A : Nat → Int32} {n : Nat} (hW : WF A n) (h3 : (A 3).toInt < 999) : WF (dayA A n) n := by
  obtain ⟨⟨hn, h6⟩, hM, hd, q0, q1, q2, q3, q4⟩ := dayH_WF hW 11
  have lo : ∀ j, j < 7 → j ≠ 3 → dayA A n j = dayH A n 11 j := fun j hj hj3 => by unfold dayA; rw [upd_ne hj3, duF_lo hj]
  have ew : ∀ i w, w < 5 → w ≠ 3 → gA (dayA A n) i w = gA (dayH A n 11) i w := fun i w hw hw3 => by unfold dayA; rw [gA_upd_ne (by omega), duF_w hw hw3]
  have e3 : ∀ i, i < n → gA (dayA A n) i 3 = dst (gA (dayH A n 11) i 3) (dayH A n 11 2) := fun i hi => by unfold dayA; rw [gA_upd_ne (by omega), duF_3, if_pos hi]
  have ed : dayA A n 3 = dayH A n 11 3 + 1 := by unfold dayA; rw [upd_eq, duF_lo (by omega)]
  refine ⟨⟨hn, by rw [lo 6 (by omega) (by omega)]; exact h6⟩, fun i hi => ?_, fun i j hi hj a b => ?_, by rw [lo 0 (by omega) (by omega)]; exact q0, by rw [lo 1 (by omega) (by omega)]; exact q1, by rw [lo 2 (by omega) (by omega)]; exact q2, ?_, by rw [lo 4 (by omega) (by omega)]; exact q4⟩
  · obtain ⟨a, b, c, d⟩ := hM i hi
    unfold WM
    rw [ew i 0 (by omega) (by omega), ew i 1 (by omega) (by omega), ew i 2 (by omega) (by omega), e3 i hi]
    exact ⟨a, b, c, (dust_in d q2).2⟩
  · rw [ew i 0 (by omega) (by omega), ew j 0 (by omega) (by omega)] at a
    rw [ew i 1 (by omega) (by omega), ew j 1 (by omega) (by omega)] at b
    exact hd i j hi hj a b
  · rw [ed]
    have e : (dayH A n 11 3 + 1).toInt = (dayH A n 11 3).toInt + 1 := by
      rw [Int32.toInt_add]
      show ((dayH A n 11 3).toInt + 1).bmod (2 ^ 32) = _
      rw [Int.bmod_eq_of_le (by omega) (by omega)]
    rw [e, dayH_lo (by omega) (by omega)]
    have := hW.2.2.2.2.2.2.1
    omega

