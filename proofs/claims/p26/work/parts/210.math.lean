def gA (A : Nat → Int32) (i w : Nat) : Int32 := A (7 + 5 * i + w)
def bI (b : Bool) : Int32 := match b with
  | true => 1
  | false => 0
theorem bI_t : bI true = 1 := rfl
theorem bI_f : bI false = 0 := rfl
def oI : Option Nat → Int32
  | none => -6
  | some j => nI j
/-- the first mirror from i on, of k, in a place -/
def mAtF (A : Nat → Int32) (r c : Int32) : Nat → Nat → Option Nat
  | 0, _ => none
  | k + 1, i => if gA A i 0 = r ∧ gA A i 1 = c then some i else mAtF A r c k (i + 1)
def mAt (A : Nat → Int32) (n : Nat) (r c : Int32) : Option Nat := mAtF A r c n 0
/-- how high the sun stands -/
def hiN (h : Nat) : Nat := 6 - (if h ≤ 5 then 5 - h else h - 5)
/-- the nearest shader from step k on, of c steps -/
def shF (A : Nat → Int32) (n i h : Nat) : Nat → Nat → Option Nat
  | 0, _ => none
  | c + 1, k => match mAt A n (gA A i 0 - nI k) (gA A i 1 + nI k * (5 - nI h)) with
    | some j => some j
    | none => shF A n i h c (k + 1)
def shade (A : Nat → Int32) (n i h : Nat) : Option Nat := shF A n i h (6 / hiN h) 1
/-- mirror j stands between mirror i and the tower -/
def blk1 (A : Nat → Int32) (i j : Nat) : Bool := decide ((1 ≤ (gA A i 0 - gA A j 0).toInt ∧ (gA A i 0 - gA A j 0).toInt ≤ 4) ∧ (gA A j 1 - 10) * (gA A i 0 - -2) = (gA A i 1 - 10) * (gA A j 0 - -2))
def blkF (A : Nat → Int32) (i : Nat) : Nat → Nat → Bool
  | 0, _ => false
  | k + 1, j => blk1 A i j || blkF A i k (j + 1)
def blk (A : Nat → Int32) (n i : Nat) : Bool := blkF A i n 0
def flat (A : Nat → Int32) : Bool := decide (A 1 < A 4)
def gv (A : Nat → Int32) (n h i : Nat) : Int32 := if flat A = true ∨ shade A n i h ≠ none ∨ blk A n i = true then 0 else (100 - gA A i 3) * nI (hiN h) * 20 / (20 + gA A i 0) / 10
/-- the order of looking, the last first -/
def insL (g : Nat → Int32) (i : Nat) : List Nat → List Nat
  | [] => [i]
  | a :: l => if g a < g i then a :: insL g i l else i :: a :: l
def srt (g : Nat → Int32) : Nat → List Nat
  | 0 => []
  | k + 1 => insL g k (srt g k)
/-- aim points have, who is used, the sum -/
abbrev US : Type := (Nat → Int32) × (Nat → Bool) × Int32
def us1 (A : Nat → Int32) (g : Nat → Int32) (u : US) (i : Nat) : US :=
  if A 0 < u.1 (gA A i 2).toInt.toNat + g i then (u.1, (fun q => if q = i then false else u.2.1 q), u.2.2)
  else (upd u.1 (gA A i 2).toInt.toNat (u.1 (gA A i 2).toInt.toNat + g i), (fun q => if q = i then true else u.2.1 q), u.2.2 + g i)
def us0 : US := (fun _ => 0, fun _ => false, 0)
def looksF (A : Nat → Int32) (n : Nat) (g : Nat → Int32) : US := (srt g n).reverse.foldl (us1 A g) us0
def looks (A : Nat → Int32) (n h : Nat) : US := looksF A n (gv A n h)
def bringsF (A : Nat → Int32) (n : Nat) : Nat → Int32
  | 0 => 0
  | h + 1 => bringsF A n h + (looks A n h).2.2
def brings (A : Nat → Int32) (n : Nat) : Int32 := bringsF A n 11
/-- what a well formed row is -/
def WM (A : Nat → Int32) (i : Nat) : Prop := (0 ≤ (gA A i 0).toInt ∧ (gA A i 0).toInt < 20) ∧ (0 ≤ (gA A i 1).toInt ∧ (gA A i 1).toInt < 20) ∧ (0 ≤ (gA A i 2).toInt ∧ (gA A i 2).toInt < 4) ∧ (0 ≤ (gA A i 3).toInt ∧ (gA A i 3).toInt ≤ 100)
def WF (A : Nat → Int32) (n : Nat) : Prop := (n ≤ 25 ∧ A 6 = nI n) ∧ (∀ i, i < n → WM A i) ∧ (∀ i j, i < n → j < n → gA A i 0 = gA A j 0 → gA A i 1 = gA A j 1 → i = j) ∧ (1 ≤ (A 0).toInt ∧ (A 0).toInt ≤ 9999) ∧ (1 ≤ (A 1).toInt ∧ (A 1).toInt ≤ 99) ∧ (0 ≤ (A 2).toInt ∧ (A 2).toInt ≤ 20) ∧ (0 ≤ (A 3).toInt ∧ (A 3).toInt ≤ 999) ∧ (0 ≤ (A 4).toInt ∧ (A 4).toInt ≤ 99)
theorem FU_eq : FU = 5000 := rfl
theorem oI_ne {j : Nat} (h : j < 100) : ¬ nI j = (-6 : Int32) := by
  rw [pu_eq, nI_toInt (by omega)]
  show ¬ (j : Int) = -6
  omega
theorem oI_eq {o : Option Nat} (h : ∀ j, o = some j → j < 100) : oI o = -6 ↔ o = none := by
  cases o with
  | none => simp [oI]
  | some j => simp [oI, oI_ne (h j rfl)]
theorem mAtF_lt {A : Nat → Int32} {r c : Int32} : ∀ (k i j : Nat), mAtF A r c k i = some j → i ≤ j ∧ j < i + k ∧ gA A j 0 = r ∧ gA A j 1 = c := by
  intro k
  induction k with
  | zero => intro i j h; cases h
  | succ k ih =>
    intro i j h
    unfold mAtF at h
    split at h
    · rename_i hc
      cases h
      exact ⟨Nat.le_refl _, by omega, hc.1, hc.2⟩
    · obtain ⟨h1, h2, h3⟩ := ih _ _ h
      exact ⟨by omega, by omega, h3⟩
theorem mAtF_none {A : Nat → Int32} {r c : Int32} : ∀ (k i : Nat), mAtF A r c k i = none → ∀ j, i ≤ j → j < i + k → ¬ (gA A j 0 = r ∧ gA A j 1 = c) := by
  intro k
  induction k with
  | zero => intro i h j h1 h2; omega
  | succ k ih =>
    intro i h j h1 h2
    unfold mAtF at h
    split at h
    · cases h
    · rename_i hc
      by_cases e : j = i
      · subst e; exact hc
      · exact ih _ h j (by omega) (by omega)
theorem mAt_lt {A : Nat → Int32} {n j : Nat} {r c : Int32} (h : mAt A n r c = some j) : j < n ∧ gA A j 0 = r ∧ gA A j 1 = c := by
  obtain ⟨-, h2, h3⟩ := mAtF_lt _ _ _ h
  exact ⟨by omega, h3⟩
theorem mAt_none {A : Nat → Int32} {n : Nat} {r c : Int32} (h : mAt A n r c = none) : ∀ j, j < n → ¬ (gA A j 0 = r ∧ gA A j 1 = c) := fun j hj => mAtF_none _ _ h j (Nat.zero_le _) (by omega)
theorem shF_lt {A : Nat → Int32} {n i h : Nat} : ∀ (c k j : Nat), shF A n i h c k = some j → j < n := by
  intro c
  induction c with
  | zero => intro k j h; cases h
  | succ c ih =>
    intro k j h
    unfold shF at h
    split at h
    · rename_i x hx
      cases h
      exact (mAt_lt hx).1
    · exact ih _ _ h
theorem shade_lt {A : Nat → Int32} {n i h j : Nat} (hs : shade A n i h = some j) : j < n := shF_lt _ _ _ hs

