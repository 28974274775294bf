section LK2
variable {A B : Nat → Int32} {n : Nat}
theorem mAtF_congr2 (h : ∀ i w, i < n → w < 2 → gA A i w = gA B i w) (r c : Int32) : ∀ k i, i + k ≤ n → mAtF A r c k i = mAtF B r c k i := by
  intro k
  induction k with
  | zero => intro i _; rfl
  | succ k ih =>
    intro i hi
    unfold mAtF
    rw [h i 0 (by omega) (by omega), h i 1 (by omega) (by omega), ih (i + 1) (by omega)]
theorem mAt_congr2 (h : ∀ i w, i < n → w < 2 → gA A i w = gA B i w) (r c : Int32) : mAt A n r c = mAt B n r c := mAtF_congr2 h r c n 0 (by omega)
theorem shF_congr2 (h : ∀ i w, i < n → w < 2 → gA A i w = gA B i w) {i : Nat} (hi : i < n) (hr : Nat) : ∀ c k, shF A n i hr c k = shF B n i hr c k := by
  intro c
  induction c with
  | zero => intro k; rfl
  | succ c ih =>
    intro k
    unfold shF
    rw [mAt_congr2 h, h i 0 hi (by omega), h i 1 hi (by omega), ih (k + 1)]
theorem shade_congr2 (h : ∀ i w, i < n → w < 2 → gA A i w = gA B i w) {i : Nat} (hi : i < n) (hr : Nat) : shade A n i hr = shade B n i hr := shF_congr2 h hi hr _ _
theorem blkF_congr2 (h : ∀ i w, i < n → w < 2 → gA A i w = gA B i w) {i : Nat} (hi : i < n) : ∀ k j, j + k ≤ n → blkF A i k j = blkF B i k j := by
  intro k
  induction k with
  | zero => intro j _; rfl
  | succ k ih =>
    intro j hj
    unfold blkF blk1
    rw [h i 0 hi (by omega), h i 1 hi (by omega), h j 0 (by omega) (by omega), h j 1 (by omega) (by omega), ih (j + 1) (by omega)]
theorem blk_congr2 (h : ∀ i w, i < n → w < 2 → gA A i w = gA B i w) {i : Nat} (hi : i < n) : blk A n i = blk B n i := blkF_congr2 h hi n 0 (by omega)
end LK2
section S2
variable {σ : Hp} {x : Nat} {ci cz : Nat → Nat → Int32} {F n : Nat} {A : Nat → Int32}
theorem LK.congr2 (hk : LK ci cz F A n) {B : Nat → Int32} (h : ∀ i w, i < n → w < 2 → gA A i w = gA B i w) : LK ci cz F B n := by
  refine ⟨fun i hi hr hh => by rw [← shade_congr2 h hi hr]; exact hk.1 i hi hr hh, ?_⟩
  rw [hk.2]
  exact maskF_congr n (fun i hi => blk_congr2 h hi)
/-- the row in the midst of a day: what all brought is not yet counted -/
def midA (B : Nat → Int32) (n h : Nat) : Nat → Int32 := upd (dayH B n h) 5 (B 5)
theorem mid_Lk {B : Nat → Int32} (h : Nat) : LkEq (midA B n h) B n := by
  have d := dayH_Lk (A := B) (n := n) h
  unfold midA
  exact ⟨by rw [upd_ne (by omega)]; exact d.1, by rw [upd_ne (by omega)]; exact d.2.1, by rw [upd_ne (by omega)]; exact d.2.2.1, fun i w hi hw => by rw [gA_upd_ne (by omega)]; exact d.2.2.2 i w hi hw⟩
theorem mid_lo {B : Nat → Int32} {j h : Nat} (hj : j < 7) : midA B n h j = B j := by
  unfold midA
  by_cases e : j = 5
  · rw [e, upd_eq]
  · rw [upd_ne e]; exact dayH_lo hj e h
theorem mid_WF {B : Nat → Int32} (hW : WF B n) (h : Nat) : WF (midA B n h) n := hW.of_eq (mid_Lk h) (mid_lo (by omega)) (mid_lo (by omega)) (mid_lo (by omega))
theorem mid_s {B : Nat → Int32} {h : Nat} (hc : FA ci cz F (crF (midA B n h) (looks (midA B n h) n h).2.1 (gv (midA B n h) n h) n) n) : FA ci cz F (midA B n (h + 1)) n := by
  have d := dayH_Lk (A := B) (n := n) h
  have m := mid_Lk (n := n) (B := B) h
  have e : LkEq (midA B n h) (dayH B n h) n := m.trans d.symm
  refine hc.congr (fun j hj => ?_) (fun i w hi hw => ?_)
  · rw [crF_lo hj, mid_lo hj, mid_lo hj]
  · by_cases c : w < 4
    · rw [crF_w c, (mid_Lk (n := n) (B := B) (h + 1)).2.2.2 i w hi c, m.2.2.2 i w hi c]
    · have : w = 4 := by omega
      subst this
      have e1 : gA (midA B n (h + 1)) i 4 = gA (dayH B n (h + 1)) i 4 := by unfold midA; exact gA_upd_ne (by omega)
      have e2 : gA (midA B n h) i 4 = gA (dayH B n h) i 4 := by unfold midA; exact gA_upd_ne (by omega)
      have e3 : gA (upd (dayH B n h) 5 (dayH B n h 5 + (looks (dayH B n h) n h).2.2)) i 4 = gA (dayH B n h) i 4 := gA_upd_ne (by omega)
      rw [e1, dayH, hourA, crF_4, crF_4, if_pos hi, if_pos hi, looks_congr e, gv_congr e hi, e2, e3]
theorem end_FA {B : Nat → Int32} (hc : FA ci cz F (duF (upd (upd (midA B n 11) 3 (midA B n 11 3 + 1)) 5 (midA B n 11 5 + bringsF B n 11)) n) n) : FA ci cz F (dayA B n) n := by
  refine hc.congr (fun j hj => ?_) (fun i w hi hw => ?_)
  · rw [duF_lo hj]
    unfold dayA
    by_cases e3 : j = 3
    · rw [e3, upd_eq, upd_ne (by omega), upd_eq, duF_lo (by omega), mid_lo (by omega), dayH_lo (by omega) (by omega)]
    · rw [upd_ne e3, duF_lo hj]
      by_cases e5 : j = 5
      · rw [e5, upd_eq, mid_lo (by omega), dayH_5]
      · rw [upd_ne e5, upd_ne e3, mid_lo hj, dayH_lo hj e5]
  · unfold dayA
    rw [gA_upd_ne (by omega)]
    have e1 : ∀ w, w < 5 → gA (upd (upd (midA B n 11) 3 (midA B n 11 3 + 1)) 5 (midA B n 11 5 + bringsF B n 11)) i w = gA (dayH B n 11) i w := by
      intro w _
      rw [gA_upd_ne (by omega), gA_upd_ne (by omega)]
      unfold midA
      rw [gA_upd_ne (by omega)]
    by_cases c : w = 3
    · subst c
      rw [duF_3, duF_3, if_pos hi, if_pos hi, e1 3 (by omega), upd_ne (by omega), upd_ne (by omega), mid_lo (by omega), dayH_lo (by omega) (by omega)]
    · rw [duF_w hw c, duF_w hw c, e1 w hw]
theorem c_spend51 (hF : FD F) (hL : LD F) {B : Nat → Int32} (hW : WF B n) (a b c : Int32) (kx : Int32 → Hp → Option (Int32 × Hp)) : ∀ (k h f : Nat) (ci cz : Nat → Nat → Int32), h + k = 11 → k < f → FA ci cz F (midA B n h) n → LK ci cz F B n → ∃ ci' cz', D_X4_spend_w51 (x + (F + 13)) a b c kx f (bringsF B n h) (nI h) (xh σ x ci cz) = kx (bringsF B n 11) (xh σ x ci' cz') ∧ FA ci' cz' F (midA B n 11) n ∧ LK ci' cz' F B n ∧ fr F (F + 24) ci cz ci' cz' := by
  intro k
  induction k with
  | zero =>
    intro h f ci cz hh hf hA hk
    obtain ⟨f, rfl⟩ : ∃ g, f = g + 1 := ⟨f - 1, by omega⟩
    have : h = 11 := by omega
    subst this
    refine ⟨ci, cz, ?_, hA, hk, fr.rfl⟩
    unfold D_X4_spend_w51
    rw [if_pos (by decide)]
  | succ k ih =>
    intro h f ci cz hh hf hA hk
    obtain ⟨f, rfl⟩ : ∃ g, f = g + 1 := ⟨f - 1, by omega⟩
    have m := mid_Lk (n := n) (B := B) h
    have mW := mid_WF hW h
    have hk1 : LK ci cz F (midA B n h) n := hk.congr2 (fun i w hi hw => (m.2.2.2 i w hi (by omega)).symm)
    obtain ⟨c1, z1, w1, w2, w3, w4⟩ := c_work (σ := σ) (x := x) hF hL hA mW hk1 (show h < 11 by omega)
    obtain ⟨c2, q1, q2, q3⟩ := c_credU (σ := σ) (x := x) hF hL (hA.fr w4 (Or.inl (Nat.le_refl _))) mW w2
    have hk2 : LK c2 z1 F B n := by
      have w3' := w3.congr2 (fun i w hi hw => m.2.2.2 i w hi (by omega))
      exact ⟨fun i hi hr hh => by rw [q3 _ (by omega)]; exact w3'.1 i hi hr hh, w3'.2⟩
    obtain ⟨c3, z3, p1, p2, p3, p4⟩ := ih (h + 1) f c2 z1 (by omega) (by omega) (mid_s q2) hk2
    refine ⟨c3, z3, ?_, p2, p3, ((w4.mono (by omega) (by omega)).tr (fun j hj => ⟨q3 j (by omega), rfl⟩)).tr p4⟩
    rw [← p1]
    conv => lhs; unfold D_X4_spend_w51
    rw [if_neg (show ¬ (11 : Int32) ≤ nI h from nI_ge (a := h) (b := 11) (by omega) (by omega)), w1, bd_some, nm_eq, q1, Option.bind_some, nI_1, looks_congr m]
    rfl
theorem days_g {i w : Nat} (hi : i < n) (hw : w < 3) : ∀ k, gA (daysA A n k) i w = gA A i w
  | 0 => rfl
  | k + 1 => by
    rw [daysA]
    unfold dayA
    rw [gA_upd_ne (by omega), duF_w (by omega) (by omega), (dayH_Lk (A := daysA A n k) (n := n) 11).2.2.2 i w hi (by omega), days_g hi hw k]
theorem days_5 (k : Nat) : daysA A n (k + 1) 5 = daysA A n k 5 + bringsF (daysA A n k) n 11 := by
  rw [daysA]
  unfold dayA
  rw [upd_ne (by omega), duF_lo (by omega), dayH_5]
theorem days_T (k : Nat) : daysA A n k 5 - A 5 + bringsF (daysA A n k) n 11 = daysA A n (k + 1) 5 - A 5 := by
  rw [days_5, Int32.sub_eq_add_neg, Int32.sub_eq_add_neg, Int32.add_assoc, Int32.add_comm (-A 5), Int32.add_assoc]
theorem c_spend40 (hF : FD F) (hL : LD F) (hW : WF A n) {d : Nat} (hd : d ≤ 99) (h3 : (A 3).toInt + d ≤ 999) (kx : Int32 → Hp → Option (Int32 × Hp)) : ∀ (k j f : Nat) (ci cz : Nat → Nat → Int32), j + k = d → k < f → FA ci cz F (daysA A n j) n → LK ci cz F A n → ∃ ci' cz', D_X4_spend_w40 (x + (F + 13)) (nI d) kx f (daysA A n j 5 - A 5) (nI j) (xh σ x ci cz) = kx (daysA A n d 5 - A 5) (xh σ x ci' cz') ∧ FA ci' cz' F (daysA A n d) n ∧ fr F (F + 24) ci cz ci' cz' := by
  intro k
  induction k with
  | zero =>
    intro j f ci cz hj hf hA hk
    obtain ⟨f, rfl⟩ : ∃ g, f = g + 1 := ⟨f - 1, by omega⟩
    have : j = d := by omega
    subst this
    refine ⟨ci, cz, ?_, hA, fr.rfl⟩
    unfold D_X4_spend_w40
    rw [if_pos (Int32.le_refl _)]
  | succ k ih =>
    intro j f ci cz hj hf hA hk
    obtain ⟨f, rfl⟩ : ∃ g, f = g + 1 := ⟨f - 1, by omega⟩
    have dW := (daysA_WF hW j (by omega)).1
    have hm : FA ci cz F (midA (daysA A n j) n 0) n := hA.congr (fun q hq => mid_lo hq) (fun i w hi hw => by unfold midA; rw [gA_upd_ne (by omega)]; rfl)
    obtain ⟨c1, z1, w1, w2, w3, w4⟩ := c_spend51 (σ := σ) (x := x) hF hL dW (nI d) (daysA A n j 5 - A 5) (nI j) (fun i35 s34 =>
      (getR s34 (x + (F + 13)) 4 0).bind fun a36 =>
      (D_X2_endDay a36 i35 s34).bind fun s37 =>
      nm (daysA A n j 5 - A 5 + i35) fun i38 =>
      D_X4_spend_w40 (x + (F + 13)) (nI d) kx f i38 (nI j + 1) s37
      ) 11 0 FU ci cz (by omega) (by rw [FU_eq]; omega) hm (hk.congr2 (fun i w hi hw => (days_g hi (by omega) j).symm))
    obtain ⟨c2, z2, q1, q2, q3⟩ := c_endDay (σ := σ) (x := x) hF w2 hW.1.1 ((mid_lo (by omega)).trans dW.1.2) (bringsF (daysA A n j) n 11)
    have hA2 : FA c2 z2 F (daysA A n (j + 1)) n := end_FA q2
    have hk2 : LK c2 z2 F A n := by
      have w3' := w3.congr2 (fun i w hi hw => days_g hi (by omega) j)
      exact ⟨fun i hi hr hh => by rw [(q3 _ (by omega)).1]; exact w3'.1 i hi hr hh, by rw [(q3 _ (by omega)).2]; exact w3'.2⟩
    obtain ⟨c3, z3, p1, p2, p3⟩ := ih (j + 1) f c2 z2 (by omega) (by omega) hA2 hk2
    refine ⟨c3, z3, ?_, p2, (w4.tr (q3.mono (by omega) (by omega))).tr p3⟩
    rw [← p1]
    conv => lhs; unfold D_X4_spend_w40
    rw [show nI 0 = (0 : Int32) from rfl, show bringsF (daysA A n j) n 0 = 0 from rfl] at w1
    rw [if_neg (nI_ge (a := j) (b := d) (by omega) (by omega)), w1, xl_0 hL.1, Option.bind_some, q1, Option.bind_some, nm_eq, days_T, nI_1]
/-- spending days -/
theorem C_spend (hF : FD F) (hL : LD F) (h : FA ci cz F A n) (hW : WS A n) (d : Int32) : ∃ ci' cz', D_X4_spend (x + (F + 13)) d (xh σ x ci cz) = some ((pasO A n d).1, xh σ x ci' cz') ∧ FA ci' cz' F (pasO A n d).2 (nO (pasO A n d).2) ∧ fr F (F + 24) ci cz ci' cz' := by
  have hn := nO_eq (pasO_WS (d := d) hW)
  rw [hn]
  unfold D_X4_spend pasO
  have z1 : (1 : Int32).toInt = 1 := rfl
  have z99 : (99 : Int32).toInt = 99 := rfl
  have z999 : (999 : Int32).toInt = 999 := rfl
  rw [xl_o hL.1, Option.bind_some]
  have q3 := hW.1.2.2.2.2.2.2.1
  by_cases c : rng d 1 99
  · have hd := c.1
    have hd2 := c.2
    have es : (A 3 + d).toInt = (A 3).toInt + d.toInt := i_add (by omega) (by omega)
    rw [if_neg (show ¬ d < 1 by rw [pu_lt, z1]; omega), if_pos (show d ≤ 99 by rw [pu_le, z99]; exact c.2), xl_0 hL.1, Option.bind_some, xf_8 hF.1, Option.bind_some, h.1.2.2.1, if_neg (show ¬ ¬ rng d 1 99 from fun q => q c)]
    by_cases c2 : 999 < (A 3).toInt + d.toInt
    · rw [if_neg (by rw [pu_le, es, z999]; omega), if_pos c2]
      exact ⟨_, _, rfl, h, fr.rfl⟩
    · rw [if_pos (by rw [pu_le, es, z999]; omega), if_neg c2]
      obtain ⟨c1, z1', w1, w2, w3⟩ := c_look (σ := σ) (x := x) hF hL h hW.1
      obtain ⟨dn, hdn⟩ : ∃ dn : Nat, d.toInt = (dn : Int) := ⟨d.toInt.toNat, by omega⟩
      have ed : d = nI dn := i_nI hdn (by omega)
      have en : d.toInt.toNat = dn := by omega
      obtain ⟨c2, z2, p1, p2, p3⟩ := c_spend40 (σ := σ) (x := x) (d := dn) hF hL hW.1 (by omega) (by omega) (fun i42 s41 =>
        some (i42, s41)
        ) dn 0 FU c1 z1' (by omega) (by rw [FU_eq]; omega) (h.fr w3 (Or.inl (Nat.le_refl _))) w2
      refine ⟨c2, z2, ?_, by rw [en]; exact p2, (w3.mono (by omega) (by omega)).tr p3⟩
      rw [show daysA A n 0 5 - A 5 = 0 from Int32.sub_self _, show nI 0 = (0 : Int32) from rfl, ← ed] at p1
      rw [w1, Option.bind_some, p1, en]
  · rw [if_pos c]
    refine ⟨_, _, ?_, h, fr.rfl⟩
    by_cases c1 : d < 1
    · rw [if_pos c1]
    · rw [if_neg c1, if_neg (fun q => c ⟨by rw [pu_lt, z1] at c1; omega, by rw [pu_le, z99] at q; exact q⟩)]
end S2
