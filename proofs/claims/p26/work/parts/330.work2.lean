/-- what the Light holds once it has worked at hour h -/
def WK (ci cz : Nat → Nat → Int32) (F : Nat) (A : Nat → Int32) (n h : Nat) : Prop := (∀ i, i < n → ci (F + 13 + 5 + 1) i = gv A n h i) ∧ (∀ a, a < 4 → ci (F + 13 + 9 + 1) a = (looks A n h).1 a) ∧ ∀ i, bit (cz (F + 13) 7) i = (decide (i < n) && (looks A n h).2.1 i)
/-- only the rows of work changed -/
def onW (F : Nat) (ci ci' : Nat → Nat → Int32) : Prop := ∀ j, j ≠ F + 13 + 5 + 1 → j ≠ F + 13 + 7 + 1 → j ≠ F + 13 + 9 + 1 → ci' j = ci j
theorem LK.onW {ci cz ci' cz' : Nat → Nat → Int32} {F n : Nat} {A : Nat → Int32} (h : LK ci cz F A n) (ho : onW F ci ci') (hz : cz' (F + 13) 6 = cz (F + 13) 6) : LK ci' cz' F A n := ⟨fun i hi hr hh => by rw [ho _ (by omega) (by omega) (by omega)]; exact h.1 i hi hr hh, hz.trans h.2⟩
section L4
variable {σ : Hp} {x : Nat} {ci cz : Nat → Nat → Int32} {F n : Nat} {A : Nat → Int32}
theorem FA.onW {ci' : Nat → Nat → Int32} (h : FA ci cz F A n) (ho : onW F ci ci') : FA ci' cz F A n := h.fr (a := F + 13) (b := F + 24) (fun j hj => ⟨ho j (by omega) (by omega) (by omega), rfl⟩) (Or.inl (Nat.le_refl _))
theorem onW.tr {ci' ci2 : Nat → Nat → Int32} (h : onW F ci ci') (h2 : onW F ci' ci2) : onW F ci ci2 := fun j a b c => (h2 j a b c).trans (h j a b c)
theorem c_w19 (hF : FD F) (hL : LD F) (hW : WF A n) {hr : Nat} (hh : hr < 11) (kx : Hp → Option (Int32 × Hp)) : ∀ (k i f : Nat) (ci : Nat → Nat → Int32), i + k = n → k < f → FA ci cz F A n → LK ci cz F A n → (∀ j, j < i → ci (F + 13 + 5 + 1) j = gv A n hr j) → lay (ci (F + 13 + 7 + 1)) (srt (ci (F + 13 + 5 + 1)) i) → ∃ ci', D_X4_work_w19 (x + (F + 13)) (nI hr) (nI n) (bI (flat A)) kx f (nI i) (xh σ x ci cz) = kx (xh σ x ci' cz) ∧ (∀ j, j < n → ci' (F + 13 + 5 + 1) j = gv A n hr j) ∧ lay (ci' (F + 13 + 7 + 1)) (srt (gv A n hr) n) ∧ onW F ci ci' := by
  intro k
  have hn := hW.1.1
  induction k with
  | zero =>
    intro i f ci hi hf h hk hg hl
    obtain ⟨f, rfl⟩ : ∃ g, f = g + 1 := ⟨f - 1, by omega⟩
    have : i = n := by omega
    subst this
    refine ⟨ci, ?_, hg, by rw [← srt_congr i hg]; exact hl, fun _ _ _ _ => rfl⟩
    unfold D_X4_work_w19
    rw [if_pos (Int32.le_refl _)]
  | succ k ih =>
    intro i f ci hi hf h hk hg hl
    obtain ⟨f, rfl⟩ : ∃ g, f = g + 1 := ⟨f - 1, by omega⟩
    have hin : i < n := by omega
    generalize hc1 : va_up ci (F + 13 + 5 + 1) (upd (ci (F + 13 + 5 + 1)) i (gv A n hr i)) = c1
    have r5 : c1 (F + 13 + 5 + 1) = upd (ci (F + 13 + 5 + 1)) i (gv A n hr i) := by rw [← hc1, up_eq]
    have r7 : c1 (F + 13 + 7 + 1) = ci (F + 13 + 7 + 1) := by rw [← hc1, up_ne (by omega)]
    have o1 : onW F ci c1 := fun j a b c => by rw [← hc1, up_ne a]
    have hl1 : lay (c1 (F + 13 + 7 + 1)) (srt (c1 (F + 13 + 5 + 1)) i) := by
      rw [r7, r5, srt_congr i (g' := ci (F + 13 + 5 + 1)) (fun j hj => upd_ne (by omega))]
      exact hl
    obtain ⟨ord', w1, w2⟩ := c_pio (σ := σ) (x := x) (ci := c1) (cz := cz) hL (show i < 25 by omega) hl1
    generalize hc2 : va_up c1 (F + 13 + 7 + 1) ord' = c2 at w1
    have s5 : c2 (F + 13 + 5 + 1) = c1 (F + 13 + 5 + 1) := by rw [← hc2, up_ne (by omega)]
    have s7 : c2 (F + 13 + 7 + 1) = ord' := by rw [← hc2, up_eq]
    have o2 : onW F c1 c2 := fun j a b c => by rw [← hc2, up_ne b]
    have g2 : ∀ j, j < i + 1 → c2 (F + 13 + 5 + 1) j = gv A n hr j := by
      intro j hj
      rw [s5, r5]
      by_cases e : j = i
      · rw [e, upd_eq]
      · rw [upd_ne e]; exact hg j (by omega)
    obtain ⟨ci', q1, q2, q3, q4⟩ := ih (i + 1) f c2 (by omega) (by omega) (h.onW (o1.tr o2)) (hk.onW (o1.tr o2) rfl) g2 (by rw [s7, s5]; exact w2)
    refine ⟨ci', ?_, q2, q3, (o1.tr o2).tr q4⟩
    have st : ∀ v, v = gv A n hr i → D_X4_work_b46 (D_X4_work_w19 (x + (F + 13)) (nI hr) (nI n) (bI (flat A)) kx f) (x + (F + 13)) (nI hr) (nI n) (bI (flat A)) (nI i) v (nI i) (x + (F + 13 + 5)) (xh σ x ci cz) = kx (xh σ x ci' cz) := by
      intro v hv
      subst hv
      unfold D_X4_work_b46
      rw [x_wr hL.2.2.2.1.1 hL.2.2.2.1.2 (by omega), Option.bind_some, hc1, w1, Option.bind_some, nI_1, q1]
    unfold D_X4_work_w19
    rw [if_neg (nI_ge (a := i) (b := n) (by omega) (by omega)), xl_3 hL.1, Option.bind_some]
    cases hfl : flat A with
    | false =>
      rw [if_pos (show bI false = 0 from rfl), c_gift hF hL h hW hk hfl hin hh, bd_some, ← hfl]
      exact st _ rfl
    | true =>
      rw [if_neg (show ¬ bI true = 0 by decide), ← hfl]
      exact st _ (by unfold gv; rw [if_pos (Or.inl hfl)])
/-- the state while the order is gone through -/
def usX (ci cz : Nat → Nat → Int32) (F n : Nat) (u : US) : Prop := (∀ a, a < 4 → ci (F + 13 + 9 + 1) a = u.1 a) ∧ ∀ i, bit (cz (F + 13) 7) i = (decide (i < n) && u.2.1 i)
theorem c_use (hF : FD F) (hL : LD F) (h : FA ci cz F A n) (hW : WF A n) {G : Nat → Int32} (hg : ∀ j, j < n → ci (F + 13 + 5 + 1) j = G j) {u : US} (hu : usX ci cz F n u) {i : Nat} (hi : i < n) (h0 : u.2.1 i = false) : ∃ (v : Int32) (ci' cz' : Nat → Nat → Int32), D_X4_useIfBearable (x + (F + 13)) (nI i) (xh σ x ci cz) = some (v, xh σ x ci' cz') ∧ u.2.2 + v = (us1 A G u i).2.2 ∧ usX ci' cz' F n (us1 A G u i) ∧ (∀ j, j ≠ F + 13 + 9 + 1 → ci' j = ci j) ∧ (∀ j, j ≠ F + 13 → cz' j = cz j) ∧ cz' (F + 13) 6 = cz (F + 13) 6 := by
  have hn := hW.1.1
  obtain ⟨-, -, a2, -⟩ := hW.2.1 i hi
  obtain ⟨ka, hka, hka2⟩ : ∃ k : Nat, k < 4 ∧ (gA A i 2).toInt = (k : Int) := ⟨(gA A i 2).toInt.toNat, by omega, by omega⟩
  have ea : gA A i 2 = nI ka := i_nI hka2 (by omega)
  have en : (gA A i 2).toInt.toNat = ka := by omega
  unfold D_X4_useIfBearable us1
  rw [xl_o hL.1, Option.bind_some, xl_0 hL.1, Option.bind_some, xf_3 hF.1, Option.bind_some, c_g2 hF h hn hi, bd_some, xl_5 hL.1, Option.bind_some, ea, x_rd hL.2.2.2.2.2.1 hL.2.2.2.2.2.2 hka, bd_some, xl_3 hL.1, Option.bind_some, x_rd hL.2.2.2.1.1 hL.2.2.2.1.2 (by omega), bd_some, nm_eq, xl_0 hL.1, Option.bind_some, xf_0 hF.1, Option.bind_some, show (0 : Int32) = nI 0 from rfl, c_s hF h (by omega), bd_some, hu.1 ka hka, hg i hi, ← ea, en]
  by_cases c : A 0 < u.1 ka + G i
  · rw [if_neg (by rw [pu_le]; rw [pu_lt] at c; omega), if_pos c]
    refine ⟨_, ci, cz, rfl, Int32.add_zero _, ⟨hu.1, fun j => ?_⟩, fun _ _ => rfl, fun _ _ => rfl, rfl⟩
    dsimp only
    by_cases e : j = i
    · rw [if_pos e, hu.2 j, e, h0]
    · rw [if_neg e, hu.2 j]
  · rw [if_pos (by rw [pu_le]; rw [pu_lt] at c; omega), if_neg c, xl_5 hL.1, Option.bind_some, ea, x_wr hL.2.2.2.2.2.1 hL.2.2.2.2.2.2 hka, Option.bind_some, xl_7 hL.1, Option.bind_some, xl_p7 hL.1, Option.bind_some, xl_3 hL.1, Option.bind_some, x_rd hL.2.2.2.1.1 hL.2.2.2.1.2 (by omega), bd_some, up_ne (by omega), hg i hi]
    refine ⟨_, _, _, rfl, rfl, ⟨fun a ha => ?_, fun j => ?_⟩, fun j hj => up_ne hj, fun j hj => up_ne hj, by rw [up_eq, upd_ne (by omega)]⟩
    · rw [up_eq]
      dsimp only
      by_cases e : a = ka
      · rw [e, upd_eq, upd_eq]
      · rw [upd_ne e, upd_ne e]; exact hu.1 a ha
    · rw [up_eq, upd_eq, bit_or, bit_one (by omega), hu.2 j]
      dsimp only
      by_cases e : j = i
      · rw [if_pos e, e]; simp [hi]
      · rw [if_neg e]; simp [e]
theorem c_w80 (hF : FD F) (hL : LD F) (hW : WF A n) {G : Nat → Int32} {L : List Nat} (hLn : L.length = n) (hLm : ∀ y, y ∈ L → y < n) (kx : Int32 → Hp → Option (Int32 × Hp)) : ∀ (q p : List Nat) (f : Nat) (ci cz : Nat → Nat → Int32) (u : US), p ++ q = L → q.length < f → q.Nodup → (∀ y, y ∈ q → u.2.1 y = false) → FA ci cz F A n → (∀ j, j < n → ci (F + 13 + 5 + 1) j = G j) → (∀ k y, L[k]? = some y → ci (F + 13 + 7 + 1) k = nI y) → usX ci cz F n u → ∃ ci' cz', D_X4_work_w80 (x + (F + 13)) (nI n) kx f u.2.2 (nI p.length) (xh σ x ci cz) = kx (q.foldl (us1 A G) u).2.2 (xh σ x ci' cz') ∧ usX ci' cz' F n (q.foldl (us1 A G) u) ∧ (∀ j, j ≠ F + 13 + 9 + 1 → ci' j = ci j) ∧ (∀ j, j ≠ F + 13 → cz' j = cz j) ∧ cz' (F + 13) 6 = cz (F + 13) 6 := by
  intro q
  have hn := hW.1.1
  induction q with
  | nil =>
    intro p f ci cz u hp hf _ _ h hg ho hu
    obtain ⟨f, rfl⟩ : ∃ g, f = g + 1 := ⟨f - 1, by omega⟩
    rw [List.append_nil] at hp
    refine ⟨ci, cz, ?_, hu, fun _ _ => rfl, fun _ _ => rfl, rfl⟩
    unfold D_X4_work_w80
    rw [hp, hLn, if_pos (Int32.le_refl _)]
    rfl
  | cons y q ih =>
    intro p f ci cz u hp hf hnd h0 h hg ho hu
    obtain ⟨f, rfl⟩ : ∃ g, f = g + 1 := ⟨f - 1, by omega⟩
    have hpl : p.length < n := by rw [← hLn, ← hp]; simp
    have hyL : L[p.length]? = some y := by rw [← hp, List.getElem?_append_right (Nat.le_refl _)]; simp
    have hyn : y < n := hLm y (List.mem_of_getElem? hyL)
    have hnd' := List.nodup_cons.1 hnd
    obtain ⟨v, c1, z1, g1, g2, g3, g4, g5, g6⟩ := c_use (σ := σ) (x := x) hF hL h hW hg hu hyn (h0 y List.mem_cons_self)
    have h1 : FA c1 z1 F A n := h.fr (a := F + 13) (b := F + 24) (fun j hj => ⟨g4 j (by omega), g5 j (by omega)⟩) (Or.inl (Nat.le_refl _))
    have hu0 : ∀ w, w ∈ q → (us1 A G u y).2.1 w = false := by
      intro w hw
      have hne : w ≠ y := fun e => hnd'.1 (e ▸ hw)
      unfold us1
      split
      · dsimp only
        rw [if_neg hne]; exact h0 w (List.mem_cons_of_mem _ hw)
      · dsimp only
        rw [if_neg hne]; exact h0 w (List.mem_cons_of_mem _ hw)
    have e2 : (p ++ [y]).length = p.length + 1 := by simp
    obtain ⟨c2, z2, w1, w2, w3, w4, w5⟩ := ih (p ++ [y]) f c1 z1 (us1 A G u y) (by simpa using hp) (by simp at hf; omega) hnd'.2 hu0 h1 (fun j hj => by rw [g4 _ (by omega)]; exact hg j hj) (fun k w hw => by rw [g4 _ (by omega)]; exact ho k w hw) g3
    refine ⟨c2, z2, ?_, w2, fun j hj => (w3 j hj).trans (g4 j hj), fun j hj => (w4 j hj).trans (g5 j hj), w5.trans g6⟩
    rw [show (y :: q).foldl (us1 A G) u = q.foldl (us1 A G) (us1 A G u y) from rfl, ← w1]
    conv => lhs; unfold D_X4_work_w80
    rw [if_neg (nI_ge (a := p.length) (b := n) (by omega) (by omega)), xl_4 hL.1, Option.bind_some, x_rd hL.2.2.2.2.1.1 hL.2.2.2.2.1.2 (by omega), bd_some, ho _ _ hyL, g1, bd_some, nm_eq, g2, nI_1, e2]
theorem c_work (hF : FD F) (hL : LD F) (h : FA ci cz F A n) (hW : WF A n) (hk : LK ci cz F A n) {hr : Nat} (hh : hr < 11) : ∃ ci' cz', D_X4_work (x + (F + 13)) (nI hr) (xh σ x ci cz) = some ((looks A n hr).2.2, xh σ x ci' cz') ∧ WK ci' cz' F A n hr ∧ LK ci' cz' F A n ∧ fr (F + 13) (F + 24) ci cz ci' cz' := by
  have hn := hW.1.1
  obtain ⟨c1, w1, w2, w3, w4⟩ := c_w19 (σ := σ) (x := x) (cz := cz) hF hL hW hh (fun s40 =>
  (getR s40 (x + (F + 13)) 4 5).bind fun a41 =>
  (D_X1_fill a41 (0 : Int32) s40).bind fun s42 =>
  (putI s42 (x + (F + 13)) 4 7 (0 : Int32)).bind fun s43 =>
  D_X4_work_w80 (x + (F + 13)) (nI n) (fun i59 s58 =>
  some (i59, s58)
  ) FU (0 : Int32) (0 : Int32) s43
  ) n 0 FU ci (by omega) (by rw [FU_eq]; omega) h hk (fun j hj => by omega) (fun j y hy => by simp [srt] at hy)
  generalize hc2 : va_up c1 (F + 13 + 9 + 1) (fillN (fun _ => 0) 4 (c1 (F + 13 + 9 + 1))) = c2
  generalize hz2 : va_up cz (F + 13) (upd (cz (F + 13)) 7 0) = z2
  have e2 : ∀ j, j ≠ F + 13 + 9 + 1 → c2 j = c1 j := fun j hj => by rw [← hc2, up_ne hj]
  have f2 : ∀ j, j ≠ F + 13 → z2 j = cz j := fun j hj => by rw [← hz2, up_ne hj]
  have h2 : FA c2 z2 F A n := h.fr (a := F + 13) (b := F + 24) (fun j hj => ⟨(e2 j (by omega)).trans (w4 j (by omega) (by omega) (by omega)), f2 j (by omega)⟩) (Or.inl (Nat.le_refl _))
  have hu : usX c2 z2 F n us0 := ⟨fun a ha => by rw [← hc2, up_eq, fillN_lt ha]; rfl, fun i => by rw [← hz2, up_eq, upd_eq, bit_0]; simp [us0]⟩
  obtain ⟨c3, z3, q1, q2, q3, q4, q5⟩ := c_w80 (σ := σ) (x := x) hF hL hW (G := gv A n hr) (L := (srt (gv A n hr) n).reverse) (by rw [List.length_reverse, srt_len]) (fun y hy => (srt_mem _ y n).mp (List.mem_reverse.mp hy)) (fun i59 s58 =>
  some (i59, s58)
  ) (srt (gv A n hr) n).reverse [] FU c2 z2 us0 rfl (by rw [List.length_reverse, srt_len, FU_eq]; omega) (List.pairwise_reverse.2 ((srt_nodup _ n).imp (fun q => Ne.symm q))) (fun _ _ => rfl) h2 (fun j hj => by rw [e2 _ (by omega)]; exact w2 j hj) (fun k y hy => by rw [e2 _ (by omega)]; exact lay_rev w3 hy) hu
  rw [show (srt (gv A n hr) n).reverse.foldl (us1 A (gv A n hr)) us0 = looks A n hr from rfl] at q1 q2
  refine ⟨c3, z3, ?_, ⟨fun i hi => ?_, q2.1, q2.2⟩, ⟨fun i hi h' hh' => ?_, ?_⟩, fun j hj => ⟨?_, ?_⟩⟩
  · unfold D_X4_work
    rw [xl_o hL.1, Option.bind_some, xl_0 hL.1, Option.bind_some, xf_6 hF.1, Option.bind_some, h.1.1, hW.1.2, Option.bind_some, c_flat hF h, bd_some]
    rw [show nI 0 = (0 : Int32) from rfl] at w1
    rw [w1, xl_5 hL.1, Option.bind_some, x_fill hL.2.2.2.2.2.1 hL.2.2.2.2.2.2, Option.bind_some, xl_p7 hL.1, Option.bind_some, hc2, hz2]
    exact q1
  · rw [q3 _ (by omega), e2 _ (by omega)]; exact w2 i hi
  · rw [q3 _ (by omega), e2 _ (by omega), w4 _ (by omega) (by omega) (by omega)]; exact hk.1 i hi h' hh'
  · rw [q5, ← hz2, up_eq, upd_ne (by omega)]; exact hk.2
  · rw [q3 j (by omega), e2 j (by omega), w4 j (by omega) (by omega) (by omega)]
  · rw [q4 j (by omega), f2 j (by omega)]
theorem c_day_w4 (hF : FD F) (hL : LD F) (hW : WF A n) (kx : Int32 → Hp → Option (Int32 × Hp)) : ∀ (k h f : Nat) (ci cz : Nat → Nat → Int32), h + k = 11 → k < f → FA ci cz F A n → LK ci cz F A n → ∃ ci' cz', D_X4_day_w4 (x + (F + 13)) kx f (bringsF A n h) (nI h) (xh σ x ci cz) = kx (brings A n) (xh σ x ci' cz') ∧ LK ci' cz' F A n ∧ fr (F + 13) (F + 24) ci cz ci' cz' := by
  intro k
  induction k with
  | zero =>
    intro h f ci cz hh hf _ hk
    obtain ⟨f, rfl⟩ : ∃ g, f = g + 1 := ⟨f - 1, by omega⟩
    have : h = 11 := by omega
    subst this
    refine ⟨ci, cz, ?_, hk, fr.rfl⟩
    unfold D_X4_day_w4
    rw [if_pos (by decide)]
    rfl
  | succ k ih =>
    intro h f ci cz hh hf hA hk
    obtain ⟨f, rfl⟩ : ∃ g, f = g + 1 := ⟨f - 1, by omega⟩
    obtain ⟨c1, z1, w1, w2, w3, w4⟩ := c_work (σ := σ) (x := x) hF hL hA hW hk (show h < 11 by omega)
    obtain ⟨c2, z2, q1, q2, q3⟩ := ih (h + 1) f c1 z1 (by omega) (by omega) (hA.fr w4 (Or.inl (Nat.le_refl _))) w3
    refine ⟨c2, z2, ?_, q2, w4.tr q3⟩
    rw [← q1]
    conv => lhs; unfold D_X4_day_w4
    rw [if_neg (show ¬ (11 : Int32) ≤ nI h from nI_ge (a := h) (b := 11) (by omega) (by omega)), w1, bd_some, nm_eq, nI_1]
    rfl
theorem c_day (hF : FD F) (hL : LD F) (h : FA ci cz F A n) (hW : WF A n) (hk : LK ci cz F A n) : ∃ ci' cz', D_X4_day (x + (F + 13)) (xh σ x ci cz) = some (brings A n, xh σ x ci' cz') ∧ LK ci' cz' F A n ∧ fr (F + 13) (F + 24) ci cz ci' cz' := by
  obtain ⟨c2, z2, q1, q2, q3⟩ := c_day_w4 (σ := σ) (x := x) hF hL hW (fun i22 s21 =>
  some (i22, s21)
  ) 11 0 FU ci cz (by omega) (by rw [FU_eq]; omega) h hk
  refine ⟨c2, z2, ?_, q2, q3⟩
  unfold D_X4_day
  rw [xl_o hL.1, Option.bind_some]
  exact q1
end L4
