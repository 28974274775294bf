/-! the reference: an hour, a day -/
def scr (ar ar' : Nat → Nat → Int32) : Prop := ∀ j, j ≠ 7 → j ≠ 8 → j ≠ 9 → j ≠ 10 → ar' j = ar j
theorem scr.rf {ar : Nat → Nat → Int32} : scr ar ar := fun _ _ _ _ _ => rfl
theorem scr.trans {a b c : Nat → Nat → Int32} (h : scr a b) (g : scr b c) : scr a c := fun j h7 h8 h9 h10 => (g j h7 h8 h9 h10).trans (h j h7 h8 h9 h10)
/-- what an hour leaves in the rows beside the state -/
def lkR (ar' : Nat → Nat → Int32) (A : Nat → Int32) (n h : Nat) : Prop := (∀ i, i < n → ar' 7 i = gv A n h i) ∧ (∀ a, a < 4 → ar' 9 a = (looks A n h).1 a) ∧ ∀ i, i < n → ar' 8 i = bI ((looks A n h).2.1 i)
section M4
variable {σ : Hp} {m : Nat} {it : Nat → Int32} {ar : Nat → Nat → Int32} {n : Nat}
theorem m_looks_w4 (x y : Int32) (kx : Hp → Option (Int32 × Hp)) : ∀ (k c f : Nat), c + k = 4 → k < f → D_X10_looks_w4 m x y kx f (nI c) (mh σ m it (va_up ar 9 (fillN (fun _ => 0) c (ar 9)))) = kx (mh σ m it (va_up ar 9 (fillN (fun _ => 0) 4 (ar 9)))) := by
  intro k
  induction k with
  | zero =>
    intro c f hc hf
    obtain ⟨f, rfl⟩ : ∃ g, f = g + 1 := ⟨f - 1, by omega⟩
    have : c = 4 := by omega
    subst this
    unfold D_X10_looks_w4
    rw [if_pos (by decide)]
  | succ k ih =>
    intro c f hc hf
    obtain ⟨f, rfl⟩ : ∃ g, f = g + 1 := ⟨f - 1, by omega⟩
    rw [← ih (c + 1) f (by omega) (by omega)]
    conv => lhs; unfold D_X10_looks_w4
    rw [if_neg (show ¬ (4 : Int32) ≤ nI c from nI_ge (a := c) (b := 4) (by omega) (by omega)), mh_r9, Option.bind_some, mh_st 9 c 0 (nI_toInt (by omega)) (by omega) (by omega) (by simp [msz]; omega), up_eq, up_up, Option.bind_some, nI_1]
    have e := fillN_s (f := fun _ => (0 : Int32)) (old := ar 9) (k := c)
    rw [e]
theorem m_looks_w24 {h : Nat} (y : Int32) (kx : Hp → Option (Int32 × Hp)) (hW : WF (ar 1) n) (hh : h < 11) : ∀ (k i f : Nat), i + k = n → k < f → D_X10_looks_w24 m (nI h) y kx f (nI i) (mh σ m it (va_up ar 7 (fillN (gv (ar 1) n h) i (ar 7)))) = kx (mh σ m it (va_up ar 7 (fillN (gv (ar 1) n h) n (ar 7)))) := by
  obtain ⟨⟨hn, h6⟩, -⟩ := id hW
  intro k
  induction k with
  | zero =>
    intro i f hi hf
    obtain ⟨f, rfl⟩ : ∃ g, f = g + 1 := ⟨f - 1, by omega⟩
    have : i = n := by omega
    subst this
    unfold D_X10_looks_w24
    rw [mh_r0, Option.bind_some, mh_A6, up_ne (by omega), h6, Option.bind_some, if_pos (nI_le (by omega) (by omega))]
  | succ k ih =>
    intro i f hi hf
    obtain ⟨f, rfl⟩ : ∃ g, f = g + 1 := ⟨f - 1, by omega⟩
    rw [← ih (i + 1) f (by omega) (by omega)]
    conv => lhs; unfold D_X10_looks_w24
    have hW' : WF ((va_up ar 7 (fillN (gv (ar 1) n h) i (ar 7))) 1) n := by rw [up_ne (by omega)]; exact hW
    rw [mh_r0, Option.bind_some, mh_A6, up_ne (by omega), h6, Option.bind_some, if_neg (nI_ge (by omega) (by omega)), mh_r7, Option.bind_some, m_gives hW' (by omega) hh, bd_some, mh_st 7 i _ (nI_toInt (by omega)) (by omega) (by omega) (by simp [msz]; omega), up_eq, up_up, Option.bind_some, nI_1, up_ne (show (1 : Nat) ≠ 7 by omega), fillN_s]
theorem m_looks {h : Nat} (hW : WF (ar 1) n) (hh : h < 11) : ∃ ar', D_X10_looks m (nI h) (mh σ m it ar) = some ((looks (ar 1) n h).2.2, mh σ m it ar') ∧ scr ar ar' ∧ lkR ar' (ar 1) n h := by
  obtain ⟨⟨hn, h6⟩, hM, -⟩ := id hW
  generalize ha1 : va_up ar 9 (fillN (fun _ => 0) 4 (ar 9)) = a1
  have e11 : a1 1 = ar 1 := by rw [← ha1, up_ne (by omega)]
  have e17 : a1 7 = ar 7 := by rw [← ha1, up_ne (by omega)]
  generalize ha2 : va_up a1 7 (fillN (gv (a1 1) n h) n (a1 7)) = a2
  have e21 : a2 1 = ar 1 := by rw [← ha2, up_ne (by omega), e11]
  have e27 : ∀ i, i < n → a2 7 i = gv (ar 1) n h i := fun i hi => by rw [← ha2, up_eq, fillN_lt hi, e11]
  have e29 : a2 9 = a1 9 := by rw [← ha2, up_ne (by omega)]
  have h62 : a2 1 6 = nI n := by rw [e21, h6]
  obtain ⟨ord', hs1, hs2⟩ := m_sorts (σ := σ) (m := m) (it := it) (ar := a2) hn h62
  generalize ha3 : va_up a2 10 ord' = a3 at hs1
  have e31 : a3 1 = ar 1 := by rw [← ha3, up_ne (by omega), e21]
  have e37 : a3 7 = a2 7 := by rw [← ha3, up_ne (by omega)]
  have e39 : a3 9 = a1 9 := by rw [← ha3, up_ne (by omega), e29]
  have e310 : a3 10 = ord' := by rw [← ha3, up_eq]
  have hW3 : WF (a3 1) n := by rw [e31]; exact hW
  have hlen := srt_len (a2 7) n
  obtain ⟨ar2, hu1, hu2, hu3⟩ := m_looks_w59 (σ := σ) (m := m) (it := it) (ar := a3) (n := n) (fun i82 s81 => some (i82, s81)) hW3 (L := (srt (a2 7) n).reverse) (fun x hx => (srt_mem _ x n).mp (List.mem_reverse.mp hx)) (by rw [List.length_reverse, hlen]) (fun k x hx => by rw [e310]; exact lay_rev hs2 hx) (srt (a2 7) n).reverse [] FU a3 us0 rfl (by rw [List.length_reverse, hlen, FU_eq]; omega) (fun j _ _ => rfl) ⟨fun a ha => by
      rw [e39, ← ha1, up_eq, fillN_lt ha]; rfl, fun i hi => absurd hi List.not_mem_nil⟩
  have hlooks : (srt (a2 7) n).reverse.foldl (us1 (a3 1) (a3 7)) us0 = looks (ar 1) n h := by
    show _ = looksF (ar 1) n (gv (ar 1) n h)
    rw [e31, e37]
    exact looksF_congr LkEq.rf e27
  rw [hlooks] at hu1 hu3
  refine ⟨ar2, ?_, fun j h7 h8 h9 h10 => ?_, fun i hi => ?_, hu3.1, fun i hi => ?_⟩
  · unfold D_X10_looks
    have w4 := m_looks_w4 (σ := σ) (m := m) (it := it) (ar := ar) (nI h) 0 (fun s20 =>
  D_X10_looks_w24 m (nI h) (0 : Int32) (fun s34 =>
  (D_X10_sorts m s34).bind fun s35 =>
  D_X10_looks_w59 m (fun i82 s81 =>
  some (i82, s81)
  ) FU (0 : Int32) (0 : Int32) s35
  ) FU (0 : Int32) s20) 4 0 FU (by omega) (by rw [FU_eq]; omega)
    rw [fillN_0, up_self, ha1, show nI 0 = (0 : Int32) from rfl] at w4
    rw [mh_isO, Option.bind_some, w4]
    have w24 := m_looks_w24 (σ := σ) (m := m) (it := it) (ar := a1) (n := n) (h := h) 0 (fun s34 =>
  (D_X10_sorts m s34).bind fun s35 =>
  D_X10_looks_w59 m (fun i82 s81 =>
  some (i82, s81)
  ) FU (0 : Int32) (0 : Int32) s35) (by rw [e11]; exact hW) hh n 0 FU (by omega) (by rw [FU_eq]; omega)
    rw [fillN_0, up_self, ha2, show nI 0 = (0 : Int32) from rfl] at w24
    rw [w24, hs1, Option.bind_some]
    exact hu1
  · rw [hu2 j h8 h9, ← ha3, up_ne h10, ← ha2, up_ne h7, ← ha1, up_ne h9]
  · rw [hu2 7 (by omega) (by omega), e37, e27 i hi]
  · exact hu3.2 i (List.mem_reverse.mpr ((srt_mem _ i n).mpr hi))
theorem m_brings_w4 (kx : Int32 → Hp → Option (Int32 × Hp)) (hW : WF (ar 1) n) : ∀ (k h f : Nat) (ar' : Nat → Nat → Int32), h + k = 11 → k < f → scr ar ar' → ∃ ar2, D_X10_brings_w4 m kx f (bringsF (ar 1) n h) (nI h) (mh σ m it ar') = kx (brings (ar 1) n) (mh σ m it ar2) ∧ scr ar ar2 := by
  intro k
  induction k with
  | zero =>
    intro h f ar' hh hf hs
    obtain ⟨f, rfl⟩ : ∃ g, f = g + 1 := ⟨f - 1, by omega⟩
    have : h = 11 := by omega
    subst this
    refine ⟨ar', ?_, hs⟩
    unfold D_X10_brings_w4
    rw [if_pos (by decide)]
    rfl
  | succ k ih =>
    intro h f ar' hh hf hs
    obtain ⟨f, rfl⟩ : ∃ g, f = g + 1 := ⟨f - 1, by omega⟩
    have e1 : ar' 1 = ar 1 := hs 1 (by omega) (by omega) (by omega) (by omega)
    obtain ⟨a2, h1, h2, -⟩ := m_looks (σ := σ) (m := m) (it := it) (ar := ar') (n := n) (h := h) (by rw [e1]; exact hW) (by omega)
    obtain ⟨a3, h3, h4⟩ := ih (h + 1) f a2 (by omega) (by omega) (hs.trans h2)
    refine ⟨a3, ?_, h4⟩
    rw [← h3]
    conv => lhs; unfold D_X10_brings_w4
    rw [if_neg (show ¬ (11 : Int32) ≤ nI h from nI_ge (a := h) (b := 11) (by omega) (by omega)), h1, bd_some, nm_eq, nI_1, e1]
    rfl
theorem m_brings (hW : WF (ar 1) n) : ∃ ar', D_X10_brings m (mh σ m it ar) = some (brings (ar 1) n, mh σ m it ar') ∧ scr ar ar' := by
  obtain ⟨ar', h1, h2⟩ := m_brings_w4 (σ := σ) (m := m) (it := it) (fun i22 s21 => some (i22, s21)) hW 11 0 FU ar (by omega) (by rw [FU_eq]; omega) scr.rf
  refine ⟨ar', ?_, h2⟩
  unfold D_X10_brings
  rw [mh_isO, Option.bind_some]
  exact h1
end M4
