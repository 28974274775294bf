theorem gv_in {A : Nat → Int32} {n i h : Nat} (hW : WF A n) (hi : i < n) (hh : h < 11) : 0 ≤ (gv A n h i).toInt ∧ (gv A n h i).toInt ≤ 60 := by
  obtain ⟨a0, a1, a2, a3⟩ := hW.2.1 i hi
  have hN := hiN_in hh
  have z20 : (20 : Int32).toInt = 20 := rfl
  have z10 : (10 : Int32).toInt = 10 := rfl
  have z100 : (100 : Int32).toInt = 100 := rfl
  unfold gv
  split
  · decide
  · have m1 : (100 - gA A i 3 : Int32).toInt = 100 - (gA A i 3).toInt := by rw [i_sub (by omega) (by omega), z100]
    have hb : 0 ≤ (100 - (gA A i 3).toInt) * ((hiN h : Nat) : Int) ∧ (100 - (gA A i 3).toInt) * ((hiN h : Nat) : Int) ≤ 600 := by
      constructor
      · exact Int.mul_nonneg (by omega) (by omega)
      · have : (100 - (gA A i 3).toInt) * ((hiN h : Nat) : Int) ≤ 100 * ((hiN h : Nat) : Int) := Int.mul_le_mul_of_nonneg_right (by omega) (by omega)
        omega
    have m2 : ((100 - gA A i 3) * nI (hiN h) : Int32).toInt = (100 - (gA A i 3).toInt) * ((hiN h : Nat) : Int) := by
      rw [i_mul (by rw [m1, nI_toInt (by omega)]; omega) (by rw [m1, nI_toInt (by omega)]; omega), m1, nI_toInt (by omega)]
    have m3 : ((100 - gA A i 3) * nI (hiN h) * 20 : Int32).toInt = (100 - (gA A i 3).toInt) * ((hiN h : Nat) : Int) * 20 := by
      rw [i_mul (by rw [m2, z20]; omega) (by rw [m2, z20]; omega), m2, z20]
    have m4 : (20 + gA A i 0 : Int32).toInt = 20 + (gA A i 0).toInt := by rw [i_add (by omega) (by omega), z20]
    generalize (100 - (gA A i 3).toInt) * ((hiN h : Nat) : Int) = X at hb m2 m3
    have t1 : (X * 20).tdiv (20 + (gA A i 0).toInt) = X * 20 / (20 + (gA A i 0).toInt) := Int.tdiv_eq_ediv_of_nonneg (by omega)
    have t2 : 0 ≤ X * 20 / (20 + (gA A i 0).toInt) := Int.ediv_nonneg (by omega) (by omega)
    have t3 : X * 20 / (20 + (gA A i 0).toInt) ≤ 600 := Int.ediv_le_of_le_mul (by omega) (by omega)
    have m5 : ((100 - gA A i 3) * nI (hiN h) * 20 / (20 + gA A i 0) : Int32).toInt = X * 20 / (20 + (gA A i 0).toInt) := by
      rw [i_div (by rw [m3, m4, t1]; omega) (by rw [m3, m4, t1]; omega), m3, m4, t1]
    generalize X * 20 / (20 + (gA A i 0).toInt) = Y at t2 t3 m5
    have t4 : Y.tdiv 10 = Y / 10 := Int.tdiv_eq_ediv_of_nonneg t2
    rw [i_div (by rw [m5, z10, t4]; omega) (by rw [m5, z10, t4]; omega), m5, z10, t4]
    omega
theorem fold_bd {A : Nat → Int32} {g : Nat → Int32} : ∀ (l : List Nat) (u : US) (K : Nat), (∀ i, i ∈ l → 0 ≤ (g i).toInt ∧ (g i).toInt ≤ 60) → (0 ≤ u.2.2.toInt ∧ u.2.2.toInt ≤ K) → (∀ a, 0 ≤ (u.1 a).toInt ∧ (u.1 a).toInt ≤ K) → K + 60 * l.length ≤ 100000 → (0 ≤ (l.foldl (us1 A g) u).2.2.toInt ∧ (l.foldl (us1 A g) u).2.2.toInt ≤ K + 60 * l.length) ∧ (∀ a, 0 ≤ ((l.foldl (us1 A g) u).1 a).toInt ∧ ((l.foldl (us1 A g) u).1 a).toInt ≤ K + 60 * l.length) ∧ ((K + 60 * l.length : Int) ≤ (A 0).toInt → ∀ i, (i ∈ l ∨ u.2.1 i = true) → (l.foldl (us1 A g) u).2.1 i = true)
  | [], u, K, _, h1, h2, _ => ⟨⟨h1.1, by simpa using h1.2⟩, fun a => ⟨(h2 a).1, by simpa using (h2 a).2⟩, fun _ i hi => by
    rcases hi with q | q
    · cases q
    · exact q⟩
  | i :: l, u, K, hg, h1, h2, hK => by
    obtain ⟨g1, g2⟩ := hg i List.mem_cons_self
    have hlen : (i :: l).length = l.length + 1 := rfl
    rw [hlen] at hK ⊢
    have s1 : (u.2.2 + g i).toInt = u.2.2.toInt + (g i).toInt := i_add (by omega) (by omega)
    have s2 : ∀ a, (u.1 a + g i).toInt = (u.1 a).toInt + (g i).toInt := fun a => i_add (by have := h2 a; omega) (by have := h2 a; omega)
    have w1 : 0 ≤ (us1 A g u i).2.2.toInt ∧ (us1 A g u i).2.2.toInt ≤ (K + 60 : Nat) := by
      unfold us1
      split
      · dsimp only; omega
      · dsimp only; rw [s1]; omega
    have w2 : ∀ a, 0 ≤ ((us1 A g u i).1 a).toInt ∧ ((us1 A g u i).1 a).toInt ≤ (K + 60 : Nat) := by
      intro a
      have ha := h2 a
      unfold us1
      split
      · dsimp only; omega
      · dsimp only
        by_cases e : a = (gA A i 2).toInt.toNat
        · rw [e, upd_eq, s2]
          have := h2 (gA A i 2).toInt.toNat
          omega
        · rw [upd_ne e]; omega
    obtain ⟨r1, r2, r3⟩ := fold_bd l (us1 A g u i) (K + 60) (fun j hj => hg j (List.mem_cons_of_mem _ hj)) w1 w2 (by omega)
    rw [show (i :: l).foldl (us1 A g) u = l.foldl (us1 A g) (us1 A g u i) from rfl]
    refine ⟨⟨r1.1, by have := r1.2; omega⟩, fun a => ⟨(r2 a).1, by have := (r2 a).2; omega⟩, fun hA j hj => ?_⟩
    refine r3 (by omega) j ?_
    have hsplit : us1 A g u i = (upd u.1 (gA A i 2).toInt.toNat (u.1 (gA A i 2).toInt.toNat + g i), (fun q => if q = i then true else u.2.1 q), u.2.2 + g i) := by
      unfold us1
      rw [if_neg]
      rw [pu_lt, s2]
      have := h2 (gA A i 2).toInt.toNat
      omega
    rw [hsplit]
    dsimp only
    by_cases e : j = i
    · rw [if_pos e]; exact Or.inr rfl
    · rw [if_neg e]
      rcases hj with q | q
      · rcases List.mem_cons.1 q with q | q
        · exact absurd q e
        · exact Or.inl q
      · exact Or.inr q
theorem looks_bd {A : Nat → Int32} {n h : Nat} (hW : WF A n) (hh : h < 11) : (0 ≤ (looks A n h).2.2.toInt ∧ (looks A n h).2.2.toInt ≤ 1500) ∧ (∀ a, 0 ≤ ((looks A n h).1 a).toInt ∧ ((looks A n h).1 a).toInt ≤ 1500) ∧ (1500 ≤ (A 0).toInt → ∀ i, i < n → (looks A n h).2.1 i = true) := by
  have hn := hW.1.1
  have hlen : (srt (gv A n h) n).reverse.length = n := by rw [List.length_reverse, srt_len]
  obtain ⟨r1, r2, r3⟩ := fold_bd (A := A) (g := gv A n h) (srt (gv A n h) n).reverse us0 0 (fun i hi => gv_in hW ((srt_mem _ i n).mp (List.mem_reverse.mp hi)) hh) ⟨by decide, by decide⟩ (fun a => ⟨by show 0 ≤ (0 : Int32).toInt; decide, by show (0 : Int32).toInt ≤ _; decide⟩) (by rw [hlen]; omega)
  rw [hlen] at r1 r2 r3
  rw [show (srt (gv A n h) n).reverse.foldl (us1 A (gv A n h)) us0 = looks A n h from rfl] at r1 r2 r3
  exact ⟨⟨r1.1, by have := r1.2; omega⟩, fun a => ⟨(r2 a).1, by have := (r2 a).2; omega⟩, fun hA i hi => r3 (by omega) i (Or.inl (List.mem_reverse.mpr ((srt_mem _ i n).mpr hi)))⟩
theorem brings_bd {A : Nat → Int32} {n : Nat} (hW : WF A n) : ∀ k, k ≤ 11 → 0 ≤ (bringsF A n k).toInt ∧ (bringsF A n k).toInt ≤ 1500 * k
  | 0, _ => ⟨by show 0 ≤ (0 : Int32).toInt; decide, by show (0 : Int32).toInt ≤ _; decide⟩
  | k + 1, hk => by
    obtain ⟨h1, h2⟩ := brings_bd hW k (by omega)
    obtain ⟨h3, -, -⟩ := looks_bd hW (show k < 11 by omega)
    rw [bringsF, i_add (by omega) (by omega)]
    omega
theorem brings_nn {A : Nat → Int32} {n : Nat} (hW : WF A n) : 0 ≤ (brings A n).toInt := (brings_bd hW 11 (Nat.le_refl _)).1
theorem mask_all {n : Nat} (hn : n < 25) : ((1 : Int32) <<< (nI n &&& 31)) - 1 = maskF (fun _ => true) n := by
  have : ∀ k : Fin 25, ((1 : Int32) <<< (nI k.1 &&& 31)) - 1 = maskF (fun _ => true) k.1 := by decide
  exact this ⟨n, hn⟩

