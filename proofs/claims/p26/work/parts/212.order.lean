theorem up_ne {α : Type} {f : Nat → α} {k j : Nat} {v : α} (h : j ≠ k) : va_up f k v j = f j := by simp [va_up, h]
theorem up_eq {α : Type} {f : Nat → α} {k : Nat} {v : α} : va_up f k v k = v := by simp [va_up]
theorem up_up {α : Type} {f : Nat → α} {k : Nat} {v w : α} : va_up (va_up f k v) k w = va_up f k w := by
  funext j
  by_cases h : j = k <;> simp [va_up, h]
theorem up_self {α : Type} {f : Nat → α} {k : Nat} : va_up f k (f k) = f := by
  funext j
  by_cases h : j = k <;> simp [va_up, h]
theorem upd_ne {f : Nat → Int32} {k j : Nat} {v : Int32} (h : j ≠ k) : upd f k v j = f j := by simp [upd, h]
theorem upd_eq {f : Nat → Int32} {k : Nat} {v : Int32} : upd f k v k = v := by simp [upd]
theorem upd_same {f : Nat → Int32} {k : Nat} : upd f k (f k) = f := by
  funext j
  by_cases h : j = k <;> simp [upd, h]
def fillN (f : Nat → Int32) (k : Nat) (old : Nat → Int32) : Nat → Int32 := fun i => if i < k then f i else old i
theorem fillN_0 {f old : Nat → Int32} : fillN f 0 old = old := by funext i; simp [fillN]
theorem fillN_s {f old : Nat → Int32} {k : Nat} : upd (fillN f k old) k (f k) = fillN f (k + 1) old := by
  funext i
  by_cases h : i = k
  · subst h; simp [upd, fillN]
  · by_cases h2 : i < k
    · simp [upd, fillN, h, h2, Nat.lt_succ_of_lt h2]
    · simp [upd, fillN, h, h2, show ¬ i < k + 1 by omega]
theorem fillN_lt {f old : Nat → Int32} {k i : Nat} (h : i < k) : fillN f k old i = f i := by simp [fillN, h]
def lay (ord : Nat → Int32) (l : List Nat) : Prop := ∀ j x, l[j]? = some x → ord (l.length - 1 - j) = nI x
theorem insL_len (g : Nat → Int32) (i : Nat) : ∀ l : List Nat, (insL g i l).length = l.length + 1
  | [] => rfl
  | a :: l => by
    unfold insL
    split
    · simp [insL_len g i l]
    · rfl
theorem insL_mem (g : Nat → Int32) (i x : Nat) : ∀ l : List Nat, x ∈ insL g i l ↔ x = i ∨ x ∈ l
  | [] => by simp [insL]
  | a :: l => by
    unfold insL
    split
    · rw [List.mem_cons, insL_mem g i x l, List.mem_cons]
      constructor
      · rintro (h | h | h)
        · exact Or.inr (Or.inl h)
        · exact Or.inl h
        · exact Or.inr (Or.inr h)
      · rintro (h | h | h)
        · exact Or.inr (Or.inl h)
        · exact Or.inl h
        · exact Or.inr (Or.inr h)
    · simp
theorem srt_len (g : Nat → Int32) : ∀ k, (srt g k).length = k
  | 0 => rfl
  | k + 1 => by rw [srt, insL_len, srt_len g k]
theorem srt_mem (g : Nat → Int32) (x : Nat) : ∀ k, x ∈ srt g k ↔ x < k
  | 0 => by simp [srt]
  | k + 1 => by rw [srt, insL_mem, srt_mem g x k]; omega
theorem insL_congr {g g' : Nat → Int32} {i : Nat} : ∀ l : List Nat, (∀ x, x ∈ l → g x = g' x) → g i = g' i → insL g i l = insL g' i l
  | [], _, _ => rfl
  | a :: l, h, hi => by
    unfold insL
    rw [h a List.mem_cons_self, hi, insL_congr l (fun x hx => h x (List.mem_cons_of_mem _ hx)) hi]
theorem srt_congr {g g' : Nat → Int32} : ∀ k, (∀ i, i < k → g i = g' i) → srt g k = srt g' k
  | 0, _ => rfl
  | k + 1, h => by
    rw [srt, srt, srt_congr k (fun i hi => h i (by omega))]
    exact insL_congr _ (fun x hx => h x (by have := (srt_mem g' x k).mp hx; omega)) (h k (by omega))
/-- where the one that is put in comes, the rows behind it moved up -/
theorem lay_stop {ord : Nat → Int32} {pre rest : List Nat} {i k : Nat} (hk : pre.length + rest.length = k) (hp : ∀ j x, pre[j]? = some x → ord (k - j) = nI x) (hr : lay ord rest) : lay (upd ord rest.length (nI i)) (pre ++ i :: rest) := by
  intro j x hx
  have hlen : (pre ++ i :: rest).length - 1 - j = k - j := by simp; omega
  rw [hlen]
  by_cases h1 : j < pre.length
  · rw [List.getElem?_append_left h1] at hx
    rw [upd_ne (by omega)]
    exact hp j x hx
  · rw [List.getElem?_append_right (by omega)] at hx
    by_cases h2 : j = pre.length
    · rw [h2, Nat.sub_self, List.getElem?_cons_zero] at hx
      cases hx
      rw [h2, show k - pre.length = rest.length by omega, upd_eq]
    · obtain ⟨d, hd⟩ : ∃ d, j - pre.length = d + 1 := ⟨j - pre.length - 1, by omega⟩
      rw [hd, List.getElem?_cons_succ] at hx
      have hlt : d < rest.length := (List.getElem?_eq_some_iff.mp hx).1
      have := hr d x hx
      rw [upd_ne (by omega), show k - j = rest.length - 1 - d by omega]
      exact this
theorem lay_go {ord : Nat → Int32} {pre rest : List Nat} {a k : Nat} (hk : pre.length + (a :: rest).length = k) (hp : ∀ j x, pre[j]? = some x → ord (k - j) = nI x) (hr : lay ord (a :: rest)) : (∀ j x, (pre ++ [a])[j]? = some x → upd ord (rest.length + 1) (ord rest.length) (k - j) = nI x) ∧ lay (upd ord (rest.length + 1) (ord rest.length)) rest := by
  have hk : pre.length + (rest.length + 1) = k := by simpa using hk
  have ha : ord rest.length = nI a := by
    have := hr 0 a rfl
    simpa using this
  constructor
  · intro j x hx
    by_cases h1 : j < pre.length
    · rw [List.getElem?_append_left h1] at hx
      rw [upd_ne (by omega)]
      exact hp j x hx
    · rw [List.getElem?_append_right (by omega)] at hx
      have h2 : j - pre.length < 1 := (List.getElem?_eq_some_iff.mp hx).1
      have h3 : j = pre.length := by omega
      rw [h3, Nat.sub_self, List.getElem?_cons_zero] at hx
      cases hx
      rw [h3, show k - pre.length = rest.length + 1 by omega, upd_eq, ha]
  · intro j x hx
    have hlt : j < rest.length := (List.getElem?_eq_some_iff.mp hx).1
    rw [upd_ne (by omega)]
    have := hr (j + 1) x (by rw [List.getElem?_cons_succ]; exact hx)
    rw [← this]
    congr 1
    simp
    omega
theorem lay_head {ord : Nat → Int32} {a : Nat} {rest : List Nat} (h : lay ord (a :: rest)) : ord rest.length = nI a := by
  have := h 0 a rfl
  simpa using this
/-- the order read from its first: place k of the row -/
theorem lay_rev {ord : Nat → Int32} {l : List Nat} (h : lay ord l) {k x : Nat} (hx : l.reverse[k]? = some x) : ord k = nI x := by
  have hlt : k < l.length := by simpa using (List.getElem?_eq_some_iff.mp hx).1
  rw [List.getElem?_reverse hlt] at hx
  have := h _ _ hx
  rw [← this]
  congr 1
  omega

