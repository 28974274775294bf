/-! the changes on a field and on its picture -/
theorem nO_nI {A : Nat → Int32} {k : Nat} (h : A 6 = nI k) (hk : k < 1000) : nO A = k := by
  unfold nO
  rw [h, nI_toInt (by omega)]
  omega
section MO
variable {A B : Nat → Int32} {n : Nat}
theorem m_set (h : Mr A B n) {j : Nat} (hj : j < 7) (v : Int32) : Mr (upd A j v) (upd B j v) n := by
  have eg : ∀ (C : Nat → Int32) i w, gA (upd C j v) i w = gA C i w := fun C i w => gA_upd_ne (by omega)
  refine ⟨fun k hk => ?_, fun i hi => ?_⟩
  · by_cases e : k = j
    · rw [e, upd_eq, upd_eq]
    · rw [upd_ne e, upd_ne e, h.1 k hk]
  · simp only [eg]
    exact h.2 i hi
theorem gA_up {C : Nat → Int32} {i w j w' : Nat} {v : Int32} (hw : w < 5) (hw' : w' < 5) : gA (upd C (7 + 5 * i + w) v) j w' = if j = i ∧ w' = w then v else gA C j w' := by
  by_cases c : j = i ∧ w' = w
  · rw [if_pos c, c.1, c.2, gA_upd_eq]
  · rw [if_neg c, gA_upd_ne (by omega)]
theorem m_fld (h : Mr A B n) {i w : Nat} (hw : w = 2 ∨ w = 3) (v : Int32) : Mr (upd A (7 + 5 * i + w) v) (upd B (7 + 5 * i + w) v) n := by
  refine ⟨fun k hk => ?_, fun j hj => ?_⟩
  · rw [upd_ne (by omega), upd_ne (by omega), h.1 k hk]
  · obtain ⟨h0, h1, h2, h3, h4⟩ := h.2 j hj
    have hw5 : w < 5 := by omega
    rw [gA_up hw5 (by omega), gA_up hw5 (by omega), gA_up hw5 (by omega), gA_up hw5 (by omega), gA_up hw5 (by omega), gA_up hw5 (by omega), gA_up hw5 (by omega), gA_up hw5 (by omega), gA_up hw5 (by omega), gA_up hw5 (by omega), h0, h1, h2, h3, h4]
    rw [if_neg (show ¬ (j = i ∧ 1 = w) by omega), if_neg (show ¬ (j = i ∧ 1 = w) by omega)]
    exact ⟨rfl, rfl, rfl, rfl, rfl⟩
theorem m_putA (h : Mr A B n) (r c a : Int32) : Mr (putA A n r c a) (putA B n r (20 - c) a) (n + 1) := by
  refine ⟨fun k hk => ?_, fun j hj => ?_⟩
  · by_cases e : k = 6
    · rw [e, putA_6, putA_6]
    · rw [putA_lo (by omega), putA_lo (by omega), h.1 k hk]
  · by_cases e : j = n
    · rw [e, putA_0, putA_0, putA_1, putA_1, putA_2, putA_2, putA_3, putA_3, putA_4, putA_4]
      exact ⟨rfl, rfl, rfl, rfl, rfl⟩
    · have hj' : j < n := by omega
      rw [putA_old hj' (by omega), putA_old hj' (by omega), putA_old hj' (by omega), putA_old hj' (by omega), putA_old hj' (by omega), putA_old hj' (by omega), putA_old hj' (by omega), putA_old hj' (by omega), putA_old hj' (by omega), putA_old hj' (by omega)]
      exact h.2 j hj'
theorem m_takeA (h : Mr A B n) {i : Nat} (hi : i < n) : Mr (takeA A n i) (takeA B n i) (n - 1) := by
  refine ⟨fun k hk => ?_, fun j hj => ?_⟩
  · by_cases e : k = 6
    · rw [e, takeA_6, takeA_6]
    · rw [takeA_lo (by omega), takeA_lo (by omega), h.1 k hk]
  · have hs : skp i j < n := by unfold skp; split <;> omega
    rw [takeA_g hj (by omega), takeA_g hj (by omega), takeA_g hj (by omega), takeA_g hj (by omega), takeA_g hj (by omega), takeA_g hj (by omega), takeA_g hj (by omega), takeA_g hj (by omega), takeA_g hj (by omega), takeA_g hj (by omega)]
    exact h.2 _ hs
/-! what-ifs -/
theorem bst_cg {ok ok' : Nat → Bool} {f f' : Nat → Int32} : ∀ k, (∀ j, j < k → ok j = ok' j ∧ f j = f' j) → bst ok f k = bst ok' f' k
  | 0, _ => rfl
  | k + 1, h => by
    rw [bst, bst, bst_cg k (fun j hj => h j (by omega)), (h k (by omega)).1, (h k (by omega)).2]
theorem bst_spec {ok : Nat → Bool} {f : Nat → Int32} : ∀ k, bst ok f k = (-6, -6) ∨ ∃ j, j < k ∧ ok j = true ∧ bst ok f k = (nI j, f j)
  | 0 => Or.inl rfl
  | k + 1 => by
    rw [bst]
    split
    · rename_i c
      exact Or.inr ⟨k, by omega, c.1, rfl⟩
    · rcases bst_spec (ok := ok) (f := f) k with q | ⟨j, h1, h2, h3⟩
      · exact Or.inl q
      · exact Or.inr ⟨j, by omega, h2, h3⟩
theorem m_worO (h : Mr A B n) (w : Int32) : worO B n w = worO A n w := by
  unfold worO
  rw [bst_cg (f := fun k => brings (takeA B n k) (n - 1)) (f' := fun k => brings (takeA A n k) (n - 1)) n (fun j hj => ⟨rfl, m_brings (m_takeA h hj)⟩)]
theorem m_tWaO (h : Mr A B n) : tWaO B n = tWaO A n := by
  unfold tWaO
  rw [bst_cg (f := fun k => brings (upd B (7 + 5 * k + 3) 0) n) (f' := fun k => brings (upd A (7 + 5 * k + 3) 0) n) n (fun j hj => ⟨rfl, m_brings (m_fld h (Or.inr rfl) 0)⟩)]
theorem mx4_spec (u : Nat → Int32) (b : Int32) : ∀ k, b.toInt ≤ (mx4 u k b).toInt ∧ (∀ a, a < k → (u a).toInt ≤ (mx4 u k b).toInt) ∧ (mx4 u k b = b ∨ ∃ a, a < k ∧ mx4 u k b = u a)
  | 0 => ⟨Int.le_refl _, fun a ha => by omega, Or.inl rfl⟩
  | k + 1 => by
    obtain ⟨h1, h2, h3⟩ := mx4_spec u b k
    rw [mx4]
    by_cases c : u k ≤ mx4 u k b
    · rw [if_pos c]
      rw [pu_le] at c
      refine ⟨h1, fun a ha => ?_, ?_⟩
      · by_cases e : a = k
        · rw [e]; exact c
        · exact h2 a (by omega)
      · rcases h3 with q | ⟨a, q1, q2⟩
        · exact Or.inl q
        · exact Or.inr ⟨a, by omega, q2⟩
    · rw [if_neg c]
      rw [pu_le] at c
      refine ⟨by omega, fun a ha => ?_, Or.inr ⟨k, by omega, rfl⟩⟩
      by_cases e : a = k
      · rw [e]; exact Int.le_refl _
      · have := h2 a (by omega); omega
theorem llF_spec (A : Nat → Int32) (n : Nat) : ∀ k, 1 ≤ (llF A n k).toInt ∧ (∀ h a, h < k → a < 4 → ((looks A n h).1 a).toInt ≤ (llF A n k).toInt) ∧ (llF A n k = 1 ∨ ∃ h a, h < k ∧ a < 4 ∧ llF A n k = (looks A n h).1 a)
  | 0 => ⟨by show 1 ≤ (1 : Int32).toInt; decide, fun h a hh => by omega, Or.inl rfl⟩
  | k + 1 => by
    obtain ⟨h1, h2, h3⟩ := llF_spec A n k
    obtain ⟨g1, g2, g3⟩ := mx4_spec (looks A n k).1 (llF A n k) 4
    rw [llF]
    refine ⟨by omega, fun h a hh ha => ?_, ?_⟩
    · by_cases e : h = k
      · rw [e]; exact g2 a ha
      · have := h2 h a (by omega) ha; omega
    · rcases g3 with q | ⟨a, q1, q2⟩
      · rw [q]
        rcases h3 with w | ⟨h, a, w1, w2, w3⟩
        · exact Or.inl w
        · exact Or.inr ⟨h, a, by omega, w2, w3⟩
      · exact Or.inr ⟨k, a, by omega, q1, q2⟩
theorem m_llF_le (h : Mr A B n) : (llF B n 11).toInt ≤ (llF A n 11).toInt := by
  obtain ⟨a1, a2, -⟩ := llF_spec A n 11
  obtain ⟨-, -, b3⟩ := llF_spec B n 11
  rcases b3 with q | ⟨g, a, q1, q2, q3⟩
  · rw [q]; exact a1
  · rw [q3, m_looks' h q1]
    exact a2 (10 - g) a (by omega) q2
theorem Mr.symm (h : Mr A B n) : Mr B A n := ⟨fun k hk => (h.1 k hk).symm, fun i hi => by
  obtain ⟨h0, h1, h2, h3, h4⟩ := h.2 i hi
  exact ⟨h0.symm, ((r20 _ _).1 h1.symm), h2.symm, h3.symm, h4.symm⟩⟩
theorem m_leaO (h : Mr A B n) : leaO B n = leaO A n := by
  have h' := m_set h (j := 0) (by omega) 9999
  unfold leaO
  rw [pu_eq]
  have := m_llF_le h'
  have := m_llF_le h'.symm
  omega
end MO
/-! histories -/
def MH : List (Nat → Int32) → List (Nat → Int32) → Prop
  | [], [] => True
  | C :: H, D :: G => Mr C D (nO C) ∧ MH H G
  | _, _ => False
theorem MH.len : ∀ {H G : List (Nat → Int32)}, MH H G → G.length = H.length
  | [], [], _ => rfl
  | C :: H, D :: G, h => by rw [List.length_cons, List.length_cons, MH.len h.2]
  | [], D :: G, h => h.elim
  | C :: H, [], h => h.elim
theorem MH.app : ∀ {H G : List (Nat → Int32)} {C D : Nat → Int32}, MH H G → Mr C D (nO C) → MH (H ++ [C]) (G ++ [D])
  | [], [], C, D, _, h => ⟨h, trivial⟩
  | E :: H, F :: G, C, D, h, h2 => ⟨h.1, MH.app h.2 h2⟩
  | [], F :: G, C, D, h, _ => h.elim
  | E :: H, [], C, D, h, _ => h.elim
theorem MH.drop1 : ∀ {H G : List (Nat → Int32)}, MH H G → MH (H.drop 1) (G.drop 1)
  | [], [], h => h
  | E :: H, F :: G, h => h.2
  | [], F :: G, h => h.elim
  | E :: H, [], h => h.elim
theorem MH.last : ∀ {H : List (Nat → Int32)} {C : Nat → Int32} {G : List (Nat → Int32)}, MH (H ++ [C]) G → ∃ G0 D, G = G0 ++ [D] ∧ MH H G0 ∧ Mr C D (nO C)
  | [], C, [], h => h.elim
  | [], C, [D], h => ⟨[], D, rfl, trivial, h.1⟩
  | [], C, D :: F :: G, h => h.2.elim
  | E :: H, C, [], h => h.elim
  | E :: H, C, F :: G, h => by
    obtain ⟨G0, D, h1, h2, h3⟩ := MH.last (H := H) (C := C) (G := G) h.2
    exact ⟨F :: G0, D, by rw [h1]; rfl, ⟨h.1, h2⟩, h3⟩
theorem MH.push {H G : List (Nat → Int32)} {C D : Nat → Int32} (h : MH H G) (h2 : Mr C D (nO C)) : MH (pushH H C) (pushH G D) := by
  unfold pushH
  rw [h.len]
  split
  · exact h.drop1.app h2
  · exact h.app h2
theorem MH.ends {H G : List (Nat → Int32)} {C D : Nat → Int32} (h : MH H G) (h2 : Mr C D (nO C)) (v : Int32) : MH (endH v H C) (endH v G D) := by
  unfold endH
  split
  · exact h.push h2
  · exact h
