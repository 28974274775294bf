/-! what the asking calls answer at known arguments -/
section VA
variable {A B : Nat → Int32} {n k g a : Nat}
theorem rg_n (hk : k < n) (hn : n < 1000) : rng (nI k) 0 ((n : Int) - 1) := by
  unfold rng
  rw [nI_toInt (by omega)]
  omega
theorem tn_n (hk : k < 1000) : (nI k).toInt.toNat = k := by
  rw [nI_toInt (by omega)]
  omega
theorem rg_c {m : Nat} (hk : k ≤ m) (hm : m < 1000) : rng (nI k) 0 (m : Int) := by
  unfold rng
  rw [nI_toInt (by omega)]
  omega
theorem of_0 (hk : k < n) (hn : n ≤ 25) : ofO A n (nI k) 0 = gA A k 0 := by
  unfold ofO
  rw [if_neg (fun q => q (rg_n hk (by omega))), if_pos (show rng 0 0 3 by decide), tn_n (by omega)]
  rfl
theorem of_1 (hk : k < n) (hn : n ≤ 25) : ofO A n (nI k) 1 = gA A k 1 := by
  unfold ofO
  rw [if_neg (fun q => q (rg_n hk (by omega))), if_pos (show rng 1 0 3 by decide), tn_n (by omega)]
  rfl
theorem of_2 (hk : k < n) (hn : n ≤ 25) : ofO A n (nI k) 2 = gA A k 2 := by
  unfold ofO
  rw [if_neg (fun q => q (rg_n hk (by omega))), if_pos (show rng 2 0 3 by decide), tn_n (by omega)]
  rfl
theorem of_3 (hk : k < n) (hn : n ≤ 25) : ofO A n (nI k) 3 = gA A k 3 := by
  unfold ofO
  rw [if_neg (fun q => q (rg_n hk (by omega))), if_pos (show rng 3 0 3 by decide), tn_n (by omega)]
  rfl
theorem of_4 (hk : k < n) (hn : n ≤ 25) : ofO A n (nI k) 4 = bI (blk A n k) := by
  unfold ofO
  rw [if_neg (fun q => q (rg_n hk (by omega))), if_neg (show ¬ rng 4 0 3 by decide), if_pos rfl, tn_n (by omega)]
theorem of_5 (hk : k < n) (hn : n ≤ 25) : ofO A n (nI k) 5 = gA A k 4 := by
  unfold ofO
  rw [if_neg (fun q => q (rg_n hk (by omega))), if_neg (show ¬ rng 5 0 3 by decide), if_neg (by decide), if_pos rfl, tn_n (by omega)]
theorem at_0 (hk : k < n) (hn : n ≤ 25) (hg : g < 11) : atO A n (nI k) (nI g) 0 = if shade A n k g = none then 0 else 1 := by
  unfold atO
  rw [if_neg (fun q => q ⟨rg_n hk (by omega), rg_c (m := 10) (by omega) (by omega)⟩), tn_n (by omega), tn_n (by omega), if_pos rfl]
theorem at_1 (hk : k < n) (hn : n ≤ 25) (hg : g < 11) : atO A n (nI k) (nI g) 1 = gv A n g k := by
  unfold atO
  rw [if_neg (fun q => q ⟨rg_n hk (by omega), rg_c (m := 10) (by omega) (by omega)⟩), tn_n (by omega), tn_n (by omega), if_neg (by decide), if_pos rfl]
theorem at_2 (hk : k < n) (hn : n ≤ 25) (hg : g < 11) : atO A n (nI k) (nI g) 2 = bI ((looks A n g).2.1 k) := by
  unfold atO
  rw [if_neg (fun q => q ⟨rg_n hk (by omega), rg_c (m := 10) (by omega) (by omega)⟩), tn_n (by omega), tn_n (by omega), if_neg (by decide), if_neg (by decide), if_pos rfl]
theorem at_3 (hk : k < n) (hn : n ≤ 25) (hg : g < 11) : atO A n (nI k) (nI g) 3 = oI (shade A n k g) := by
  unfold atO
  rw [if_neg (fun q => q ⟨rg_n hk (by omega), rg_c (m := 10) (by omega) (by omega)⟩), tn_n (by omega), tn_n (by omega), if_neg (by decide), if_neg (by decide), if_neg (by decide), if_pos rfl]
theorem poi_0 (ha : a < 4) (hg : g < 11) : poiO A n (nI a) (nI g) 0 = (looks A n g).1 a := by
  unfold poiO
  rw [if_neg (fun q => q ⟨rg_c (m := 3) (by omega) (by omega), rg_c (m := 10) (by omega) (by omega)⟩), tn_n (show a < 1000 by omega), tn_n (show g < 1000 by omega), if_pos rfl]
theorem poi_1 (ha : a < 4) (hg : g < 11) : poiO A n (nI a) (nI g) 1 = maskF (aimM A (nI a)) n := by
  unfold poiO
  rw [if_neg (fun q => q ⟨rg_c (m := 3) (by omega) (by omega), rg_c (m := 10) (by omega) (by omega)⟩), if_neg (by decide), if_pos rfl]
theorem poi_2 (ha : a < 4) (hg : g < 11) : poiO A n (nI a) (nI g) 2 = maskF (fun i => aimM A (nI a) i && (looks A n g).2.1 i) n := by
  unfold poiO
  rw [if_neg (fun q => q ⟨rg_c (m := 3) (by omega) (by omega), rg_c (m := 10) (by omega) (by omega)⟩), tn_n (by omega), if_neg (by decide), if_neg (by decide), if_pos rfl]
theorem m_nO (h : Mr A B (nO A)) : nO B = nO A := by
  unfold nO
  rw [h.1 6 (by omega)]
theorem m_of (h : Mr A B n) (hk : k < n) (hn : n ≤ 25) {w : Nat} (hw : w < 6) : ofO B n (nI k) (nI w) = if nI w = 1 then 20 - ofO A n (nI k) 1 else ofO A n (nI k) (nI w) := by
  obtain ⟨h0, h1, h2, h3, h4⟩ := h.2 k hk
  match w, hw with
  | 0, _ => rw [if_neg (by decide)]; exact (of_0 hk hn).trans (h0.trans (of_0 hk hn).symm)
  | 1, _ => rw [if_pos (show nI 1 = 1 from rfl), of_1 hk hn]; exact (of_1 hk hn).trans h1
  | 2, _ => rw [if_neg (by decide)]; exact (of_2 hk hn).trans (h2.trans (of_2 hk hn).symm)
  | 3, _ => rw [if_neg (by decide)]; exact (of_3 hk hn).trans (h3.trans (of_3 hk hn).symm)
  | 4, _ => rw [if_neg (by decide)]; exact (of_4 hk hn).trans ((congrArg bI (m_blk h hk)).trans (of_4 hk hn).symm)
  | 5, _ => rw [if_neg (by decide)]; exact (of_5 hk hn).trans (h4.trans (of_5 hk hn).symm)
theorem m_at (h : Mr A B n) (hk : k < n) (hn : n ≤ 25) (hg : g < 11) {w : Nat} (hw : w < 4) : atO A n (nI k) (nI g) (nI w) = atO B n (nI k) (10 - nI g) (nI w) := by
  rw [← r10 hg]
  match w, hw with
  | 0, _ => refine (at_0 hk hn hg).trans (Eq.trans ?_ (at_0 hk hn (show 10 - g < 11 by omega)).symm); rw [m_shade h hk hg]
  | 1, _ => exact (at_1 hk hn hg).trans ((m_gv h hk hg).symm.trans (at_1 hk hn (show 10 - g < 11 by omega)).symm)
  | 2, _ => refine (at_2 hk hn hg).trans (Eq.trans ?_ (at_2 hk hn (show 10 - g < 11 by omega)).symm); rw [m_looks h hg]
  | 3, _ => refine (at_3 hk hn hg).trans (Eq.trans ?_ (at_3 hk hn (show 10 - g < 11 by omega)).symm); rw [m_shade h hk hg]
theorem m_aim (h : Mr A B n) (v : Int32) (hk : k < n) : aimM B v k = aimM A v k := by
  unfold aimM
  rw [(h.2 k hk).2.2.1]
theorem m_poi (h : Mr A B n) (ha : a < 4) (hg : g < 11) {w : Nat} (hw : w < 3) : poiO A n (nI a) (nI g) (nI w) = poiO B n (nI a) (10 - nI g) (nI w) := by
  rw [← r10 hg]
  match w, hw with
  | 0, _ => refine (poi_0 ha hg).trans (Eq.trans ?_ (poi_0 ha (show 10 - g < 11 by omega)).symm); rw [m_looks h hg]
  | 1, _ => exact (poi_1 ha hg).trans ((maskF_congr n (fun i hi => (m_aim h _ hi).symm)).trans (poi_1 ha (show 10 - g < 11 by omega)).symm)
  | 2, _ => exact (poi_2 ha hg).trans ((maskF_congr n (fun i hi => by rw [m_aim h _ hi, m_looks h hg])).trans (poi_2 ha (show 10 - g < 11 by omega)).symm)
end VA
/-! areAlike -/
section AL
variable {x y : Nat} {A B : Nat → Int32} {H G : List (Nat → Int32)}
theorem al_c (hxy : x + 184 ≤ y ∨ y + 184 ≤ x) (hM : Mr A B (nO A)) {s : Hp} (h : St x y A H B G s) {k : Nat} (hk : k < 11) : ∃ v s1 s2, D_X9_count x (nI k) s = some (v, s1) ∧ D_X9_count y (nI k) s1 = some (v, s2) ∧ St x y A H B G s2 := by
  match k, hk with
  | 0, _ =>
    obtain ⟨s1, e1, h1⟩ := q_count0 h
    obtain ⟨s2, e2, h2⟩ := r_count0 hxy h1
    exact ⟨_, s1, s2, e1, e2.trans (congrArg (fun z => some (z, s2)) (hM.1 3 (by omega))), h2⟩
  | 1, _ =>
    obtain ⟨s1, e1, h1⟩ := q_count1 h
    obtain ⟨s2, e2, h2⟩ := r_count1 hxy h1
    exact ⟨_, s1, s2, e1, e2.trans (congrArg (fun z => some (z, s2)) (hM.1 6 (by omega))), h2⟩
  | 2, _ =>
    obtain ⟨s1, e1, h1⟩ := q_count2 h
    obtain ⟨s2, e2, h2⟩ := r_count2 hxy h1
    exact ⟨_, s1, s2, e1, e2.trans (congrArg (fun z => some (z, s2)) (hM.1 4 (by omega))), h2⟩
  | 3, _ =>
    obtain ⟨s1, e1, h1⟩ := q_count3 h
    obtain ⟨s2, e2, h2⟩ := r_count3 hxy h1
    exact ⟨_, s1, s2, e1, e2.trans (congrArg (fun z => some (z, s2)) (congrArg bI (m_flat hM))), h2⟩
  | 4, _ =>
    obtain ⟨s1, e1, h1⟩ := q_count4 h
    obtain ⟨s2, e2, h2⟩ := r_count4 hxy h1
    exact ⟨_, s1, s2, e1, e2.trans (congrArg (fun z => some (z, s2)) (hM.1 5 (by omega))), h2⟩
  | 5, _ =>
    obtain ⟨s1, e1, h1⟩ := q_count5 h
    obtain ⟨s2, e2, h2⟩ := r_count5 hxy h1
    exact ⟨_, s1, s2, e1, e2.trans (congrArg (fun z => some (z, s2)) ((by rw [m_nO hM]; exact m_brings hM))), h2⟩
  | 6, _ =>
    obtain ⟨s1, e1, h1⟩ := q_count6 h
    obtain ⟨s2, e2, h2⟩ := r_count6 hxy h1
    exact ⟨_, s1, s2, e1, e2.trans (congrArg (fun z => some (z, s2)) ((by rw [m_nO hM]; exact maskF_congr _ (fun i hi => m_blk hM hi)))), h2⟩
  | 7, _ =>
    obtain ⟨s1, e1, h1⟩ := q_count7 h
    obtain ⟨s2, e2, h2⟩ := r_count7 hxy h1
    exact ⟨_, s1, s2, e1, e2.trans (congrArg (fun z => some (z, s2)) ((by rw [m_nO hM]; exact sumF_cg _ (fun i hi => (hM.2 i hi).2.2.2.1)))), h2⟩
  | 8, _ =>
    obtain ⟨s1, e1, h1⟩ := q_count8 h
    obtain ⟨s2, e2, h2⟩ := r_count8 hxy h1
    exact ⟨_, s1, s2, e1, e2.trans (congrArg (fun z => some (z, s2)) (hM.1 0 (by omega))), h2⟩
  | 9, _ =>
    obtain ⟨s1, e1, h1⟩ := q_count9 h
    obtain ⟨s2, e2, h2⟩ := r_count9 hxy h1
    exact ⟨_, s1, s2, e1, e2.trans (congrArg (fun z => some (z, s2)) (hM.1 1 (by omega))), h2⟩
  | 10, _ =>
    obtain ⟨s1, e1, h1⟩ := q_count10 h
    obtain ⟨s2, e2, h2⟩ := r_count10 hxy h1
    exact ⟨_, s1, s2, e1, e2.trans (congrArg (fun z => some (z, s2)) (hM.1 2 (by omega))), h2⟩
theorem al_w4 (hxy : x + 184 ≤ y ∨ y + 184 ≤ x) (hM : Mr A B (nO A)) (kx : Int32 → Hp → Option (Int32 × Hp)) : ∀ (c k f : Nat) (s : Hp), k + c = 11 → c < f → St x y A H B G s → ∃ s', D_L_areAlike_w4 x y kx f 1 (nI k) s = kx 1 s' ∧ St x y A H B G s' := by
  intro c
  induction c with
  | zero =>
    intro k f s hk hf h
    obtain ⟨f, rfl⟩ : ∃ g, f = g + 1 := ⟨f - 1, by omega⟩
    have : k = 11 := by omega
    subst this
    refine ⟨s, ?_, h⟩
    unfold D_L_areAlike_w4
    rw [if_pos (by decide)]
  | succ c ih =>
    intro k f s hk hf h
    obtain ⟨f, rfl⟩ : ∃ g, f = g + 1 := ⟨f - 1, by omega⟩
    obtain ⟨v, s1, s2, e1, e2, h2⟩ := al_c hxy hM h (show k < 11 by omega)
    obtain ⟨s', e3, h3⟩ := ih (k + 1) f s2 (by omega) (by omega) h2
    refine ⟨s', ?_, h3⟩
    unfold D_L_areAlike_w4
    rw [if_neg (show ¬ (11 : Int32) ≤ nI k from nI_ge (a := k) (b := 11) (by omega) (by omega)), if_neg (by decide), e1, bd_some, e2, bd_some, if_pos rfl]
    unfold D_L_areAlike_b32
    rw [nI_1]
    exact e3
theorem al_w57 (hxy : x + 184 ≤ y ∨ y + 184 ≤ x) (hM : Mr A B (nO A)) {k : Nat} (hk : k < nO A) (hn : nO A ≤ 24) (kx : Int32 → Hp → Option (Int32 × Hp)) : ∀ (c w f : Nat) (s : Hp), w + c = 6 → c < f → St x y A H B G s → ∃ s', D_L_areAlike_w57 x y (nI k) kx f 1 (nI w) s = kx 1 s' ∧ St x y A H B G s' := by
  intro c
  induction c with
  | zero =>
    intro w f s hw hf h
    obtain ⟨f, rfl⟩ : ∃ g, f = g + 1 := ⟨f - 1, by omega⟩
    have : w = 6 := by omega
    subst this
    refine ⟨s, ?_, h⟩
    unfold D_L_areAlike_w57
    rw [if_pos (by decide)]
  | succ c ih =>
    intro w f s hw hf h
    obtain ⟨f, rfl⟩ : ∃ g, f = g + 1 := ⟨f - 1, by omega⟩
    obtain ⟨s1, e1, h1⟩ := r_of hxy h (nI k) (nI w)
    rw [m_nO hM, m_of hM hk (by omega) (show w < 6 by omega)] at e1
    by_cases cw : nI w = 1
    · obtain ⟨s2, e2, h2⟩ := q_of h1 (nI k) 1
      obtain ⟨s', e3, h3⟩ := ih (w + 1) f s2 (by omega) (by omega) h2
      refine ⟨s', ?_, h3⟩
      unfold D_L_areAlike_w57
      rw [if_neg (show ¬ (6 : Int32) ≤ nI w from nI_ge (a := w) (b := 6) (by omega) (by omega)), if_neg (by decide), e1, bd_some, if_pos cw, if_pos cw, e2, bd_some]
      unfold D_L_areAlike_b100 D_L_areAlike_b108
      rw [if_pos rfl, nI_1]
      exact e3
    · obtain ⟨s2, e2, h2⟩ := q_of h1 (nI k) (nI w)
      obtain ⟨s', e3, h3⟩ := ih (w + 1) f s2 (by omega) (by omega) h2
      refine ⟨s', ?_, h3⟩
      unfold D_L_areAlike_w57
      rw [if_neg (show ¬ (6 : Int32) ≤ nI w from nI_ge (a := w) (b := 6) (by omega) (by omega)), if_neg (by decide), e1, bd_some, if_neg cw, if_neg cw, e2, bd_some]
      unfold D_L_areAlike_b100 D_L_areAlike_b108
      rw [if_pos rfl, nI_1]
      exact e3
theorem al_w118 (hxy : x + 184 ≤ y ∨ y + 184 ≤ x) (hM : Mr A B (nO A)) {k : Nat} (hk : k < nO A) (hn : nO A ≤ 24) (kx : Int32 → Hp → Option (Int32 × Hp)) : ∀ (c w f : Nat) (s : Hp), w + c = 44 → c < f → St x y A H B G s → ∃ s', D_L_areAlike_w118 x y (nI k) kx f 1 (nI w) s = kx 1 s' ∧ St x y A H B G s' := by
  intro c
  induction c with
  | zero =>
    intro w f s hw hf h
    obtain ⟨f, rfl⟩ : ∃ g, f = g + 1 := ⟨f - 1, by omega⟩
    have : w = 44 := by omega
    subst this
    refine ⟨s, ?_, h⟩
    unfold D_L_areAlike_w118
    rw [if_pos (by decide)]
  | succ c ih =>
    intro w f s hw hf h
    obtain ⟨f, rfl⟩ : ∃ g, f = g + 1 := ⟨f - 1, by omega⟩
    obtain ⟨d1, d2⟩ := dm4 (show w < 44 by omega)
    obtain ⟨s1, e1, h1⟩ := q_at h (nI k) (nI (w / 4)) (nI (w % 4))
    obtain ⟨s2, e2, h2⟩ := r_at hxy h1 (nI k) (10 - nI (w / 4)) (nI (w % 4))
    rw [m_nO hM, ← m_at hM hk (by omega) (show w / 4 < 11 by omega) (show w % 4 < 4 by omega)] at e2
    obtain ⟨s', e3, h3⟩ := ih (w + 1) f s2 (by omega) (by omega) h2
    refine ⟨s', ?_, h3⟩
    unfold D_L_areAlike_w118
    rw [if_neg (show ¬ (44 : Int32) ≤ nI w from nI_ge (a := w) (b := 44) (by omega) (by omega)), if_neg (by decide), d1, Option.bind_some, d2, Option.bind_some, e1, bd_some, Option.bind_some, Option.bind_some, e2, bd_some, if_pos rfl]
    unfold D_L_areAlike_b166
    rw [nI_1]
    exact e3
theorem al_w41 (hxy : x + 184 ≤ y ∨ y + 184 ≤ x) (hM : Mr A B (nO A)) (hW : WS A (nO A)) (kx : Int32 → Hp → Option (Int32 × Hp)) : ∀ (c k f : Nat) (s : Hp), k + c = nO A → c < f → St x y A H B G s → ∃ s', D_L_areAlike_w41 x y kx f 1 (nI k) s = kx 1 s' ∧ St x y A H B G s' := by
  intro c
  have hn := hW.2
  induction c with
  | zero =>
    intro k f s hk hf h
    obtain ⟨f, rfl⟩ : ∃ g, f = g + 1 := ⟨f - 1, by omega⟩
    obtain ⟨s1, e1, h1⟩ := q_count1 h
    have : k = nO A := by omega
    refine ⟨s1, ?_, h1⟩
    unfold D_L_areAlike_w41
    rw [e1, bd_some, hW.1.1.2, if_pos (by rw [this]; exact Int32.le_refl _)]
  | succ c ih =>
    intro k f s hk hf h
    obtain ⟨f, rfl⟩ : ∃ g, f = g + 1 := ⟨f - 1, by omega⟩
    obtain ⟨s1, e1, h1⟩ := q_count1 h
    have hkn : k < nO A := by omega
    obtain ⟨s2, e2, h2⟩ := al_w57 hxy hM hkn hn (fun i91 s90 =>
  D_L_areAlike_w118 x y (nI k) (fun i127 s126 =>
  D_L_areAlike_w41 x y kx f i127 (nI k + 1) s126
  ) FU i91 (0 : Int32) s90
    ) 6 0 FU s1 (by omega) (by rw [FU_eq]; omega) h1
    obtain ⟨s3, e3, h3⟩ := al_w118 hxy hM hkn hn (fun i127 s126 =>
  D_L_areAlike_w41 x y kx f i127 (nI k + 1) s126
    ) 44 0 FU s2 (by omega) (by rw [FU_eq]; omega) h2
    obtain ⟨s', e4, h4⟩ := ih (k + 1) f s3 (by omega) (by omega) h3
    refine ⟨s', ?_, h4⟩
    unfold D_L_areAlike_w41
    rw [e1, bd_some, hW.1.1.2, if_neg (nI_ge (a := k) (b := nO A) hkn (by omega)), if_neg (by decide)]
    rw [show nI 0 = (0 : Int32) from rfl] at e2 e3
    rw [e2, e3]
    rw [nI_1]
    exact e4
theorem al_w194 (hxy : x + 184 ≤ y ∨ y + 184 ≤ x) (hM : Mr A B (nO A)) {k : Nat} (hk : k < 44) (kx : Int32 → Hp → Option (Int32 × Hp)) : ∀ (c w f : Nat) (s : Hp), w + c = 3 → c < f → St x y A H B G s → ∃ s', D_L_areAlike_w194 x y (nI k) kx f 1 (nI w) s = kx 1 s' ∧ St x y A H B G s' := by
  intro c
  induction c with
  | zero =>
    intro w f s hw hf h
    obtain ⟨f, rfl⟩ : ∃ g, f = g + 1 := ⟨f - 1, by omega⟩
    have : w = 3 := by omega
    subst this
    refine ⟨s, ?_, h⟩
    unfold D_L_areAlike_w194
    rw [if_pos (by decide)]
  | succ c ih =>
    intro w f s hw hf h
    obtain ⟨f, rfl⟩ : ∃ g, f = g + 1 := ⟨f - 1, by omega⟩
    obtain ⟨d1, d2⟩ := dm4 hk
    obtain ⟨s1, e1, h1⟩ := q_point h (nI (k % 4)) (nI (k / 4)) (nI w)
    obtain ⟨s2, e2, h2⟩ := r_point hxy h1 (nI (k % 4)) (10 - nI (k / 4)) (nI w)
    rw [m_nO hM, ← m_poi hM (show k % 4 < 4 by omega) (show k / 4 < 11 by omega) (show w < 3 by omega)] at e2
    obtain ⟨s', e3, h3⟩ := ih (w + 1) f s2 (by omega) (by omega) h2
    refine ⟨s', ?_, h3⟩
    unfold D_L_areAlike_w194
    rw [if_neg (show ¬ (3 : Int32) ≤ nI w from nI_ge (a := w) (b := 3) (by omega) (by omega)), if_neg (by decide), d2, Option.bind_some, d1, Option.bind_some, e1, bd_some, Option.bind_some, Option.bind_some, e2, bd_some, if_pos rfl]
    unfold D_L_areAlike_b239
    rw [nI_1]
    exact e3
theorem al_w181 (hxy : x + 184 ≤ y ∨ y + 184 ≤ x) (hM : Mr A B (nO A)) (kx : Int32 → Hp → Option (Int32 × Hp)) : ∀ (c k f : Nat) (s : Hp), k + c = 44 → c < f → St x y A H B G s → ∃ s', D_L_areAlike_w181 x y kx f 1 (nI k) s = kx 1 s' ∧ St x y A H B G s' := by
  intro c
  induction c with
  | zero =>
    intro k f s hk hf h
    obtain ⟨f, rfl⟩ : ∃ g, f = g + 1 := ⟨f - 1, by omega⟩
    have : k = 44 := by omega
    subst this
    refine ⟨s, ?_, h⟩
    unfold D_L_areAlike_w181
    rw [if_pos (by decide)]
  | succ c ih =>
    intro k f s hk hf h
    obtain ⟨f, rfl⟩ : ∃ g, f = g + 1 := ⟨f - 1, by omega⟩
    obtain ⟨s1, e1, h1⟩ := al_w194 hxy hM (show k < 44 by omega) (fun i177 s176 =>
  D_L_areAlike_w181 x y kx f i177 (nI k + 1) s176
    ) 3 0 FU s (by omega) (by rw [FU_eq]; omega) h
    obtain ⟨s', e3, h3⟩ := ih (k + 1) f s1 (by omega) (by omega) h1
    refine ⟨s', ?_, h3⟩
    unfold D_L_areAlike_w181
    rw [if_neg (show ¬ (44 : Int32) ≤ nI k from nI_ge (a := k) (b := 44) (by omega) (by omega)), if_neg (by decide)]
    rw [show nI 0 = (0 : Int32) from rfl] at e1
    rw [e1]
    rw [nI_1]
    exact e3
theorem al_all (hxy : x + 184 ≤ y ∨ y + 184 ≤ x) (hM : Mr A B (nO A)) {s : Hp} (h : St x y A H B G s) : ∃ s', D_L_areAlike x y s = some (1, s') ∧ St x y A H B G s' := by
  have hW := h.ws
  have hn := hW.2
  obtain ⟨s1, e1, h1⟩ := al_w4 hxy hM (fun i39 s38 =>
  D_L_areAlike_w41 x y (fun i131 s130 =>
  D_L_areAlike_b179 x y i131 s130
  ) FU i39 (0 : Int32) s38
  ) 11 0 FU s (by omega) (by rw [FU_eq]; omega) h
  obtain ⟨s2, e2, h2⟩ := al_w41 hxy hM hW (fun i131 s130 =>
  D_L_areAlike_b179 x y i131 s130
  ) (nO A) 0 FU s1 (by omega) (by rw [FU_eq]; omega) h1
  obtain ⟨s3, e3, h3⟩ := al_w181 hxy hM (fun i181 s180 =>
  retZ i181 (i181, s180)
  ) 44 0 FU s2 (by omega) (by rw [FU_eq]; omega) h2
  refine ⟨s3, ?_, h3⟩
  rw [show nI 0 = (0 : Int32) from rfl] at e1 e2 e3
  unfold D_L_areAlike
  rw [e1, e2]
  unfold D_L_areAlike_b179
  rw [e3, retZ_1]
end AL
