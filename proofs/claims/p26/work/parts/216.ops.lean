abbrev OpR : Type := Int32 × (Nat → Int32)
abbrev rng (x : Int32) (lo hi : Int) : Prop := lo ≤ x.toInt ∧ x.toInt ≤ hi
def putA (A : Nat → Int32) (n : Nat) (r c a : Int32) : Nat → Int32 := upd (upd (upd (upd (upd (upd A 6 (nI (n + 1))) (7 + 5 * n + 0) r) (7 + 5 * n + 1) c) (7 + 5 * n + 2) a) (7 + 5 * n + 3) 0) (7 + 5 * n + 4) 0
def takeA (A : Nat → Int32) (n i : Nat) : Nat → Int32 := fun k => if 7 + 5 * i ≤ k ∧ k < 7 + 5 * (n - 1) then A (k + 5) else upd A 6 (nI (n - 1)) k
def setO (A : Nat → Int32) (s v : Int32) : OpR := if (s = 0 ∧ rng v 1 9999) ∨ (s = 1 ∧ rng v 1 99) ∨ (s = 2 ∧ rng v 0 20) then (A s.toInt.toNat, upd A s.toInt.toNat v) else (-2, A)
def mirO (A : Nat → Int32) (n : Nat) (r c a : Int32) : OpR := if ¬ ((rng r 0 19 ∧ rng c 0 19) ∧ rng a 0 3) then (-2, A) else if mAt A n r c ≠ none then (-5, A) else if n = 24 then (-4, A) else (nI n, putA A n r c a)
def takO (A : Nat → Int32) (n : Nat) (i : Int32) : OpR := if ¬ rng i 0 (n - 1) then (-1, A) else (nI (n - 1), takeA A n i.toInt.toNat)
def aimO (A : Nat → Int32) (n : Nat) (i a : Int32) : OpR := if ¬ rng i 0 (n - 1) then (-1, A) else if ¬ rng a 0 3 then (-2, A) else (gA A i.toInt.toNat 2, upd A (7 + 5 * i.toInt.toNat + 2) a)
def wasO (A : Nat → Int32) (n : Nat) (i : Int32) : OpR := if ¬ rng i 0 (n - 1) then (-1, A) else (gA A i.toInt.toNat 3, upd A (7 + 5 * i.toInt.toNat + 3) 0)
def winO (A : Nat → Int32) (w : Int32) : OpR := if ¬ rng w 0 99 then (-2, A) else (bI (flat (upd A 4 w)), upd A 4 w)
def pasO (A : Nat → Int32) (n : Nat) (d : Int32) : OpR := if ¬ rng d 1 99 then (-2, A) else if 999 < (A 3).toInt + d.toInt then (-5, A) else (daysA A n d.toInt.toNat 5 - A 5, daysA A n d.toInt.toNat)
/-- well formed, with at most 24 mirrors -/
def WS (A : Nat → Int32) (n : Nat) : Prop := WF A n ∧ n ≤ 24
theorem rng_nat {x : Int32} {n : Nat} (h : rng x 0 ((n : Int) - 1)) (hn : n < 2 ^ 31) : ∃ i : Nat, i < n ∧ x = nI i ∧ x.toInt.toNat = i := by
  refine ⟨x.toInt.toNat, by have := h.1; have := h.2; omega, ?_, rfl⟩
  rw [pu_eq, nI_toInt (by have := h.1; have := h.2; omega)]
  have := h.1
  omega
theorem upd_WF {A : Nat → Int32} {n : Nat} (hW : WF A n) {i w : Nat} {v : Int32} (hw : (w = 2 ∧ rng v 0 3) ∨ (w = 3 ∧ rng v 0 100)) : WF (upd A (7 + 5 * i + w) v) n := by
  obtain ⟨⟨hn, h6⟩, hM, hd, q0, q1, q2, q3, q4⟩ := hW
  have lo : ∀ j, j < 7 → upd A (7 + 5 * i + w) v j = A j := fun j hj => upd_ne (by omega)
  have e0 : ∀ j, gA (upd A (7 + 5 * i + w) v) j 0 = gA A j 0 := fun j => gA_upd_ne (by omega)
  have e1 : ∀ j, gA (upd A (7 + 5 * i + w) v) j 1 = gA A j 1 := fun j => gA_upd_ne (by omega)
  refine ⟨⟨hn, by rw [lo 6 (by omega)]; exact h6⟩, fun j hj => ?_, fun j k hj hk a b => ?_, by rw [lo 0 (by omega)]; exact q0, by rw [lo 1 (by omega)]; exact q1, by rw [lo 2 (by omega)]; exact q2, by rw [lo 3 (by omega)]; exact q3, by rw [lo 4 (by omega)]; exact q4⟩
  · obtain ⟨a, b, c, d⟩ := hM j hj
    unfold WM
    rw [e0, e1]
    refine ⟨a, b, ?_, ?_⟩
    · by_cases e : 7 + 5 * j + 2 = 7 + 5 * i + w
      · have : gA (upd A (7 + 5 * i + w) v) j 2 = v := by unfold gA; rw [e, upd_eq]
        rw [this]
        rcases hw with ⟨-, h⟩ | ⟨h, -⟩
        · exact ⟨h.1, by have := h.2; omega⟩
        · omega
      · rw [gA_upd_ne e]; exact c
    · by_cases e : 7 + 5 * j + 3 = 7 + 5 * i + w
      · have : gA (upd A (7 + 5 * i + w) v) j 3 = v := by unfold gA; rw [e, upd_eq]
        rw [this]
        rcases hw with ⟨h, -⟩ | ⟨-, h⟩
        · omega
        · exact h
      · rw [gA_upd_ne e]; exact d
  · rw [e0, e0] at a
    rw [e1, e1] at b
    exact hd j k hj hk a b
theorem putA_lo {A : Nat → Int32} {n j : Nat} {r c a : Int32} (hj : j < 6) : putA A n r c a j = A j := by
  unfold putA
  rw [upd_ne (by omega), upd_ne (by omega), upd_ne (by omega), upd_ne (by omega), upd_ne (by omega), upd_ne (by omega)]
theorem putA_6 {A : Nat → Int32} {n : Nat} {r c a : Int32} : putA A n r c a 6 = nI (n + 1) := by
  unfold putA
  rw [upd_ne (by omega), upd_ne (by omega), upd_ne (by omega), upd_ne (by omega), upd_ne (by omega), upd_eq]
theorem putA_old {A : Nat → Int32} {n i w : Nat} {r c a : Int32} (hi : i < n) (hw : w < 5) : gA (putA A n r c a) i w = gA A i w := by
  unfold putA
  rw [gA_upd_ne (by omega), gA_upd_ne (by omega), gA_upd_ne (by omega), gA_upd_ne (by omega), gA_upd_ne (by omega), gA_upd_ne (by omega)]
theorem putA_0 {A : Nat → Int32} {n : Nat} {r c a : Int32} : gA (putA A n r c a) n 0 = r := by
  unfold putA
  rw [gA_upd_ne (by omega), gA_upd_ne (by omega), gA_upd_ne (by omega), gA_upd_ne (by omega), gA_upd_eq]
theorem putA_1 {A : Nat → Int32} {n : Nat} {r c a : Int32} : gA (putA A n r c a) n 1 = c := by
  unfold putA
  rw [gA_upd_ne (by omega), gA_upd_ne (by omega), gA_upd_ne (by omega), gA_upd_eq]
theorem putA_2 {A : Nat → Int32} {n : Nat} {r c a : Int32} : gA (putA A n r c a) n 2 = a := by
  unfold putA
  rw [gA_upd_ne (by omega), gA_upd_ne (by omega), gA_upd_eq]
theorem putA_3 {A : Nat → Int32} {n : Nat} {r c a : Int32} : gA (putA A n r c a) n 3 = 0 := by
  unfold putA
  rw [gA_upd_ne (by omega), gA_upd_eq]
theorem putA_4 {A : Nat → Int32} {n : Nat} {r c a : Int32} : gA (putA A n r c a) n 4 = 0 := by
  unfold putA
  rw [gA_upd_eq]
theorem putA_WF {A : Nat → Int32} {n : Nat} {r c a : Int32} (hW : WF A n) (hn : n < 25) (hr : rng r 0 19) (hc : rng c 0 19) (ha : rng a 0 3) (hno : mAt A n r c = none) : WF (putA A n r c a) (n + 1) := by
  obtain ⟨⟨-, h6⟩, hM, hd, q0, q1, q2, q3, q4⟩ := hW
  refine ⟨⟨by omega, putA_6⟩, fun j hj => ?_, fun j k hj hk x y => ?_, by rw [putA_lo (by omega)]; exact q0, by rw [putA_lo (by omega)]; exact q1, by rw [putA_lo (by omega)]; exact q2, by rw [putA_lo (by omega)]; exact q3, by rw [putA_lo (by omega)]; exact q4⟩
  · by_cases e : j = n
    · subst e
      unfold WM
      rw [putA_0, putA_1, putA_2, putA_3]
      exact ⟨⟨hr.1, by have := hr.2; omega⟩, ⟨hc.1, by have := hc.2; omega⟩, ⟨ha.1, by have := ha.2; omega⟩, by decide, by decide⟩
    · unfold WM
      rw [putA_old (by omega) (by omega), putA_old (by omega) (by omega), putA_old (by omega) (by omega), putA_old (by omega) (by omega)]
      exact hM j (by omega)
  · have hx := mAt_none hno
    by_cases e : j = n
    · by_cases e2 : k = n
      · omega
      · subst e
        rw [putA_0, putA_old (by omega) (by omega)] at x
        rw [putA_1, putA_old (by omega) (by omega)] at y
        exact absurd ⟨x.symm, y.symm⟩ (hx k (by omega))
    · by_cases e2 : k = n
      · subst e2
        rw [putA_0, putA_old (by omega) (by omega)] at x
        rw [putA_1, putA_old (by omega) (by omega)] at y
        exact absurd ⟨x, y⟩ (hx j (by omega))
      · rw [putA_old (by omega) (by omega), putA_old (by omega) (by omega)] at x
        rw [putA_old (by omega) (by omega), putA_old (by omega) (by omega)] at y
        exact hd j k (by omega) (by omega) x y
def skp (i j : Nat) : Nat := if j < i then j else j + 1
theorem takeA_lo {A : Nat → Int32} {n i j : Nat} (hj : j < 6) : takeA A n i j = A j := by
  unfold takeA
  rw [if_neg (by omega), upd_ne (by omega)]
theorem takeA_6 {A : Nat → Int32} {n i : Nat} : takeA A n i 6 = nI (n - 1) := by
  unfold takeA
  rw [if_neg (by omega), upd_eq]
theorem takeA_g {A : Nat → Int32} {n i j w : Nat} (hj : j < n - 1) (hw : w < 5) : gA (takeA A n i) j w = gA A (skp i j) w := by
  unfold gA takeA skp
  by_cases h : j < i
  · rw [if_neg (by omega), if_pos h, upd_ne (by omega)]
  · rw [if_pos (by omega), if_neg h]
    congr 1
    omega
theorem takeA_WF {A : Nat → Int32} {n i : Nat} (hW : WF A n) (hi : i < n) : WF (takeA A n i) (n - 1) := by
  obtain ⟨⟨hn, h6⟩, hM, hd, q0, q1, q2, q3, q4⟩ := hW
  have hs : ∀ j, j < n - 1 → skp i j < n := fun j hj => by unfold skp; split <;> omega
  refine ⟨⟨by omega, takeA_6⟩, fun j hj => ?_, fun j k hj hk x y => ?_, by rw [takeA_lo (by omega)]; exact q0, by rw [takeA_lo (by omega)]; exact q1, by rw [takeA_lo (by omega)]; exact q2, by rw [takeA_lo (by omega)]; exact q3, by rw [takeA_lo (by omega)]; exact q4⟩
  · unfold WM
    rw [takeA_g hj (by omega), takeA_g hj (by omega), takeA_g hj (by omega), takeA_g hj (by omega)]
    exact hM _ (hs j hj)
  · rw [takeA_g hj (by omega), takeA_g hk (by omega)] at x
    rw [takeA_g hj (by omega), takeA_g hk (by omega)] at y
    have := hd _ _ (hs j hj) (hs k hk) x y
    unfold skp at this
    split at this <;> split at this <;> omega
theorem daysA_WF {A : Nat → Int32} {n : Nat} (hW : WF A n) : ∀ k : Nat, (A 3).toInt + k ≤ 999 → WF (daysA A n k) n ∧ (daysA A n k 3).toInt = (A 3).toInt + k
  | 0, _ => ⟨hW, by simp [daysA]⟩
  | k + 1, hk => by
    obtain ⟨h1, h2⟩ := daysA_WF hW k (by omega)
    refine ⟨day_WF h1 (by omega), ?_⟩
    rw [daysA]
    unfold dayA
    rw [upd_eq, duF_lo (by omega), dayH_lo (by omega) (by omega), Int32.toInt_add, h2]
    show ((A 3).toInt + (k : Int) + 1).bmod (2 ^ 32) = _
    have := hW.2.2.2.2.2.2.1
    rw [Int.bmod_eq_of_le (by omega) (by omega)]
    omega
theorem setO_WS {A : Nat → Int32} {n : Nat} {s v : Int32} (hW : WS A n) : WS (setO A s v).2 n := by
  obtain ⟨hW, h24⟩ := hW
  refine ⟨?_, h24⟩
  unfold setO
  split
  · rename_i h
    obtain ⟨⟨hn, h6⟩, hM, hd, q0, q1, q2, q3, q4⟩ := hW
    have key : ∀ j, j < 3 → WF (upd A j v) n ∨ ¬ ((j = 0 ∧ rng v 1 9999) ∨ (j = 1 ∧ rng v 1 99) ∨ (j = 2 ∧ rng v 0 20)) := by
      intro j hj
      by_cases c : (j = 0 ∧ rng v 1 9999) ∨ (j = 1 ∧ rng v 1 99) ∨ (j = 2 ∧ rng v 0 20)
      · left
        have eg : ∀ i w, gA (upd A j v) i w = gA A i w := fun i w => gA_upd_ne (by omega)
        refine ⟨⟨hn, by rw [upd_ne (by omega)]; exact h6⟩, fun i hi => ?_, fun i k hi hk x y => ?_, ?_, ?_, ?_, by rw [upd_ne (by omega)]; exact q3, by rw [upd_ne (by omega)]; exact q4⟩
        · unfold WM; rw [eg, eg, eg, eg]; exact hM i hi
        · rw [eg, eg] at x y; exact hd i k hi hk x y
        · rcases c with ⟨rfl, r⟩ | ⟨rfl, r⟩ | ⟨rfl, r⟩
          · rw [upd_eq]; exact r
          · rw [upd_ne (by omega)]; exact q0
          · rw [upd_ne (by omega)]; exact q0
        · rcases c with ⟨rfl, r⟩ | ⟨rfl, r⟩ | ⟨rfl, r⟩
          · rw [upd_ne (by omega)]; exact q1
          · rw [upd_eq]; exact r
          · rw [upd_ne (by omega)]; exact q1
        · rcases c with ⟨rfl, r⟩ | ⟨rfl, r⟩ | ⟨rfl, r⟩
          · rw [upd_ne (by omega)]; exact q2
          · rw [upd_ne (by omega)]; exact q2
          · rw [upd_eq]; exact r
      · right; exact c
    rcases h with ⟨rfl, r⟩ | ⟨rfl, r⟩ | ⟨rfl, r⟩
    · exact (key 0 (by omega)).resolve_right (fun q => q (Or.inl ⟨rfl, r⟩))
    · exact (key 1 (by omega)).resolve_right (fun q => q (Or.inr (Or.inl ⟨rfl, r⟩)))
    · exact (key 2 (by omega)).resolve_right (fun q => q (Or.inr (Or.inr ⟨rfl, r⟩)))
  · exact hW
theorem mirO_WS {A : Nat → Int32} {n : Nat} {r c a : Int32} (hW : WS A n) : ∃ n', WS (mirO A n r c a).2 n' := by
  unfold mirO
  split
  · exact ⟨n, hW⟩
  · rename_i h1
    split
    · exact ⟨n, hW⟩
    · rename_i h2
      split
      · exact ⟨n, hW⟩
      · rename_i h3
        have h1 := Decidable.not_not.mp h1
        have h2 : mAt A n r c = none := Decidable.not_not.mp h2
        exact ⟨n + 1, putA_WF hW.1 (by have := hW.2; omega) h1.1.1 h1.1.2 h1.2 h2, by have := hW.2; omega⟩
theorem takO_WS {A : Nat → Int32} {n : Nat} {i : Int32} (hW : WS A n) : ∃ n', WS (takO A n i).2 n' := by
  unfold takO
  split
  · exact ⟨n, hW⟩
  · rename_i h
    obtain ⟨k, hk, -, e⟩ := rng_nat (Decidable.not_not.mp h) (by have := hW.2; omega)
    rw [e]
    exact ⟨n - 1, takeA_WF hW.1 hk, by have := hW.2; omega⟩
theorem aimO_WS {A : Nat → Int32} {n : Nat} {i a : Int32} (hW : WS A n) : WS (aimO A n i a).2 n := by
  unfold aimO
  split
  · exact hW
  · split
    · exact hW
    · rename_i h
      exact ⟨upd_WF hW.1 (Or.inl ⟨rfl, Decidable.not_not.mp h⟩), hW.2⟩
theorem wasO_WS {A : Nat → Int32} {n : Nat} {i : Int32} (hW : WS A n) : WS (wasO A n i).2 n := by
  unfold wasO
  split
  · exact hW
  · exact ⟨upd_WF hW.1 (Or.inr ⟨rfl, by decide⟩), hW.2⟩
theorem winO_WS {A : Nat → Int32} {n : Nat} {w : Int32} (hW : WS A n) : WS (winO A w).2 n := by
  obtain ⟨⟨⟨hn, h6⟩, hM, hd, q0, q1, q2, q3, q4⟩, h24⟩ := id hW
  unfold winO
  split
  · exact hW
  · rename_i h
    have h := Decidable.not_not.mp h
    have eg : ∀ i v, gA (upd A 4 w) i v = gA A i v := fun i v => gA_upd_ne (by omega)
    show WS (upd A 4 w) n
    refine ⟨⟨⟨hn, by rw [upd_ne (by omega)]; exact h6⟩, fun i hi => ?_, fun i k hi hk x y => ?_, by rw [upd_ne (by omega)]; exact q0, by rw [upd_ne (by omega)]; exact q1, by rw [upd_ne (by omega)]; exact q2, by rw [upd_ne (by omega)]; exact q3, by rw [upd_eq]; exact h⟩, h24⟩
    · unfold WM; rw [eg, eg, eg, eg]; exact hM i hi
    · rw [eg, eg] at x y; exact hd i k hi hk x y
theorem pasO_WS {A : Nat → Int32} {n : Nat} {d : Int32} (hW : WS A n) : WS (pasO A n d).2 n := by
  unfold pasO
  split
  · exact hW
  · rename_i h
    have h := Decidable.not_not.mp h
    split
    · exact hW
    · rename_i h2
      exact ⟨(daysA_WF hW.1 _ (by have := h.1; omega)).1, hW.2⟩

