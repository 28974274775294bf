theorem nw_0 : Cond.methodLinkNest RX9 34 yX5_init "SunMirrors" ∈ lw_tbl := tb1_in _ (List.mem_of_getElem? (i := 156) (by decide +kernel))
theorem nw_1 : Cond.methodLinkNest RX9 50 yX3_init "SunMirrors" ∈ lw_tbl := tb1_in _ (List.mem_of_getElem? (i := 204) (by decide +kernel))
theorem nw_2 : Cond.methodLinkNest RX4 83 yX9_isPlace "SunMirrors" ∈ lw_tbl := tb2_in _ (List.mem_of_getElem? (i := 59) (by decide +kernel))
theorem nw_3 : Cond.methodLinkNest RX2 64 yX9_isPlace "SunMirrors" ∈ lw_tbl := tb2_in _ (List.mem_of_getElem? (i := 168) (by decide +kernel))
theorem nw_4 : Cond.methodLinkNest RX2 67 yX9_isAimPoint "SunMirrors" ∈ lw_tbl := tb2_in _ (List.mem_of_getElem? (i := 169) (by decide +kernel))
theorem nw_ac : Cond.arrayClass .int ∈ lw_tbl := tb1_in _ (List.mem_of_getElem? (i := 41) (by decide +kernel))
theorem nw_ao : Cond.arrayOver (.object "SunMirrors$Field") ∈ lw_tbl := tb1_in _ (List.mem_of_getElem? (i := 216) (by decide +kernel))
set_option maxHeartbeats 4000000 in
set_option maxRecDepth 100000 in
theorem sm_start {s : State} {args : Array Value} (hts : ∀ w ∈ lw_tbl, w.before args s = true) : ∃ G : smG, sm_K G s ∧ G.2.2.2 = s.heap.size := by
  obtain ⟨c0, iS0, hKn0⟩ := u_known (C := RX0) (T := TX0) (N := 5) (n := 5) hts wl_X0 (hts _ (wsL_law_in _ (m_r1 18 rfl)))
  obtain ⟨c1, iS1, hKn1⟩ := u_known (C := RX1) (T := TX1) (N := 1) (n := 1) hts wl_X1 (hts _ (wsL_law_in _ (m_r2 19 rfl)))
  obtain ⟨c2, iS2, hKn2⟩ := u_known (C := RX2) (T := TX2) (N := 10) (n := 10) hts wl_X2 (hts _ (wsL_law_in _ (m_r1 10 rfl)))
  obtain ⟨c3, iS3, hKn3⟩ := u_known (C := RX3) (T := TX3) (N := 3) (n := 3) hts wl_X3 (hts _ (wsL_law_in _ (m_r2 6 rfl)))
  obtain ⟨c4, iS4, hKn4⟩ := u_known (C := RX4) (T := TX4) (N := 8) (n := 8) hts wl_X4 (hts _ (wsL_law_in _ (m_r1 14 rfl)))
  obtain ⟨c5, iS5, hKn5⟩ := u_known (C := RX5) (T := TX5) (N := 2) (n := 2) hts wl_X5 (hts _ (wsL_law_in _ (m_r1 22 rfl)))
  obtain ⟨c6, iS6, hKn6⟩ := u_known (C := RX6) (T := TX6) (N := 8) (n := 8) hts wl_X6 (hts _ (wsL_law_in _ (m_r2 2 rfl)))
  obtain ⟨c7, iS7, hKn7⟩ := u_known (C := RX7) (T := TX7) (N := 1) (n := 1) hts wl_X7 (hts _ (wsL_law_in _ (m_r2 10 rfl)))
  obtain ⟨c8, iS8, hKn8⟩ := u_known (C := RX9) (T := TX9) (N := 8) (n := 8) hts wl_X9 (hts _ (wsL_law_in _ (m_r1 1 rfl)))
  obtain ⟨dC, dI, hKc⟩ : ∃ (dC : Nat → ClassId) (dI : Nat → Nat → Nat), ∀ (k : Nat) (q : vw_C), vwCl[k]? = some q → u_Kn s q.1 q.2.1 q.2.2 (dC k) (dI k) := by
    refine ⟨fun k => match k with | 0 => c0 | 1 => c1 | 2 => c2 | 3 => c3 | 4 => c4 | 5 => c5 | 6 => c6 | 7 => c7 | _ => c8, fun k => match k with | 0 => iS0 | 1 => iS1 | 2 => iS2 | 3 => iS3 | 4 => iS4 | 5 => iS5 | 6 => iS6 | 7 => iS7 | _ => iS8, ?_⟩
    intro k q hq
    match k, hq with
    | 0, hq => cases hq; exact hKn0
    | 1, hq => cases hq; exact hKn1
    | 2, hq => cases hq; exact hKn2
    | 3, hq => cases hq; exact hKn3
    | 4, hq => cases hq; exact hKn4
    | 5, hq => cases hq; exact hKn5
    | 6, hq => cases hq; exact hKn6
    | 7, hq => cases hq; exact hKn7
    | 8, hq => cases hq; exact hKn8
    | k + 9, hq => simp [vwCl] at hq
  have hac := hts _ nw_ac
  have hao := hts _ nw_ao
  obtain ⟨cI, kI, compI, i1, i2, i3⟩ := Cond.arrayClass_spec hac
  obtain ⟨compR, cR, kR, r1, r2, r3, r4, r5⟩ := Cond.arrayOver_spec hao
  refine ⟨((dC, dI), cI, cR, s.heap.size), ⟨⟨hKc, ?_⟩, va_AO.of hao, ?_⟩, rfl⟩
  · intro k q hq
    match k, hq with
    | 0, hq => cases hq; exact ⟨fun n z => ⟨fun k h => (by cases h), kI, i2, compI, i3⟩, i1⟩
    | 1, hq => cases hq; exact ⟨fun n z => ⟨fun k h => (by cases h), kR, r3, compR, r4⟩, kR, compR, r3, r4, r1, r5⟩
    | k + 2, hq => simp at hq
  · intro w hw
    simp only [sm_nest, List.mem_cons, List.not_mem_nil, or_false] at hw
    rcases hw with rfl | rfl | rfl | rfl | rfl
    · exact va_Nw.of rfl (hts _ nw_0)
    · exact va_Nw.of rfl (hts _ nw_1)
    · exact va_Nw.of rfl (hts _ nw_2)
    · exact va_Nw.of rfl (hts _ nw_3)
    · exact va_Nw.of rfl (hts _ nw_4)
set_option maxHeartbeats 4000000 in
set_option maxRecDepth 100000 in
theorem whole_of (hpure : ∀ (o L : Nat) (xs : Nat → Int32), L ≤ 260 → OK jI (D_L_law L xs (o, fun _ => none)) sm_PL) {p : Program} {e : Env} {s : State} {m : MethodId} {below : List Frame} {meth : Method} {c : Code} (l : Launch) {b L : Nat} {xs : Nat → Int32} (hL : L ≤ 260) (C0 : lw_At p s m meth c b L xs) : W p l e room_1 s m #[Value.ref b] below meth c s.heap [] 0 0 (lw_Z below #[Value.ref b] s) (entryFrame m ([Value.ref b] : List Value).toArray 5) := by
  obtain ⟨hx, hb, hr, hml, hown, hts, hX, hbl, hlocks, hgv⟩ := id C0
  obtain ⟨G, hK, hG⟩ := sm_start hts
  have hl := lv_entry ([.ref b]) (n := 5) (Nat.le_of_ble_eq_true rfl)
  rw [lg_entry_eq]
  have hl : lv_has _ 5 [(0, .ref b)] := hl
  have hR : sm_Rel G (s.heap.size, fun _ => none) s.heap := ⟨rfl, by rw [hG]; exact Nat.le_refl _, fun q x h => by cases h⟩
  exact K_L_law (G := G) (l := l) (hpure s.heap.size L xs hL) p e s m #[Value.ref b] below meth c s.heap [] _ ⟨hx, hb, hml, hown, fun w h => hts w (wsL_law_in w h), hK⟩ ⟨hr, hlocks, rfl, hX, hbl, hG.symm⟩ hR ⟨fun _ _ => rfl, fun _ h => by cases h⟩ hl
