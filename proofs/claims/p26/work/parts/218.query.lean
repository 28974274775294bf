def maskF (f : Nat → Bool) : Nat → Int32
  | 0 => 0
  | k + 1 => maskF f k ||| (if f k = true then (1 : Int32) <<< (nI k &&& 31) else 0)
def sumF (f : Nat → Int32) : Nat → Int32
  | 0 => 0
  | k + 1 => sumF f k + f k
def ofO (A : Nat → Int32) (n : Nat) (i w : Int32) : Int32 := if ¬ rng i 0 (n - 1) then -1 else if rng w 0 3 then gA A i.toInt.toNat w.toInt.toNat else if w = 4 then bI (blk A n i.toInt.toNat) else if w = 5 then gA A i.toInt.toNat 4 else -2
def atO (A : Nat → Int32) (n : Nat) (i h w : Int32) : Int32 := if ¬ (rng i 0 (n - 1) ∧ rng h 0 10) then -1 else if w = 0 then (if shade A n i.toInt.toNat h.toInt.toNat = none then 0 else 1) else if w = 1 then gv A n h.toInt.toNat i.toInt.toNat else if w = 2 then bI ((looks A n h.toInt.toNat).2.1 i.toInt.toNat) else if w = 3 then oI (shade A n i.toInt.toNat h.toInt.toNat) else -2
def aimM (A : Nat → Int32) (a : Int32) (i : Nat) : Bool := decide (gA A i 2 = a)
def poiO (A : Nat → Int32) (n : Nat) (a h w : Int32) : Int32 := if ¬ (rng a 0 3 ∧ rng h 0 10) then -1 else if w = 0 then (looks A n h.toInt.toNat).1 a.toInt.toNat else if w = 1 then maskF (aimM A a) n else if w = 2 then maskF (fun i => aimM A a i && (looks A n h.toInt.toNat).2.1 i) n else -2
def couO (A : Nat → Int32) (n hl pl : Nat) (w : Int32) : Int32 := if w = 0 then A 3 else if w = 1 then A 6 else if w = 2 then A 4 else if w = 3 then bI (flat A) else if w = 4 then A 5 else if w = 5 then brings A n else if w = 6 then maskF (blk A n) n else if w = 7 then sumF (fun i => gA A i 3) n else if w = 8 then A 0 else if w = 9 then A 1 else if w = 10 then A 2 else if w = 11 then nI pl else if w = 12 then nI hl else -2
def inO (A : Nat → Int32) (n : Nat) (r c : Int32) : Int32 := if rng r 0 19 ∧ rng c 0 19 then oI (mAt A n r c) else -1
/-- the best of several, the lowest of like ones; which there are, what each brings -/
def bst (ok : Nat → Bool) (f : Nat → Int32) : Nat → Int32 × Int32
  | 0 => (-6, -6)
  | k + 1 => if ok k = true ∧ (bst ok f k).2 < f k then (nI k, f k) else bst ok f k
def selO (b : Int32 × Int32) (w : Int32) : Int32 := if w = 0 then b.1 else b.2
def worO (A : Nat → Int32) (n : Nat) (w : Int32) : Int32 := if ¬ rng w 0 1 then -2 else selO (bst (fun _ => true) (fun k => brings (takeA A n k) (n - 1)) n) w
def besO (A : Nat → Int32) (n : Nat) (r a w : Int32) : Int32 := if ¬ ((rng r 0 19 ∧ rng a 0 3) ∧ rng w 0 1) then -2 else selO (bst (fun k => decide (mAt A n r (nI k) = none)) (fun k => brings (putA A n r (nI k) a) (n + 1)) 20) w
def tWaO (A : Nat → Int32) (n : Nat) : Int32 := (bst (fun _ => true) (fun k => brings (upd A (7 + 5 * k + 3) 0) n) n).1
def mx4 (u : Nat → Int32) : Nat → Int32 → Int32
  | 0, b => b
  | k + 1, b => if u k ≤ mx4 u k b then mx4 u k b else u k
def llF (A : Nat → Int32) (n : Nat) : Nat → Int32
  | 0 => 1
  | h + 1 => mx4 (looks A n h).1 4 (llF A n h)
def leaO (A : Nat → Int32) (n : Nat) : Int32 := llF (upd A 0 9999) n 11

