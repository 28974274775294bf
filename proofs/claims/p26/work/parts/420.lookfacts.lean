/-! what looks gives: sums, limits, who looks away -/
theorem sumF_cg {F F' : Nat → Int32} : ∀ n, (∀ k, k < n → F' k = F k) → sumF F' n = sumF F n
  | 0, _ => rfl
  | n + 1, h => by rw [sumF, sumF, sumF_cg n (fun k hk => h k (by omega)), h n (by omega)]
theorem sumF_0 {F : Nat → Int32} : ∀ n, (∀ k, k < n → F k = 0) → sumF F n = 0
  | 0, _ => rfl
  | n + 1, h => by rw [sumF, sumF_0 n (fun k hk => h k (by omega)), h n (by omega)]; rfl
theorem sumF_up {F F' : Nat → Int32} {i : Nat} {d : Int32} (hF : ∀ k, k ≠ i → F' k = F k) (hi : F' i = F i + d) : ∀ n, i < n → sumF F' n = sumF F n + d
  | 0, h => by omega
  | n + 1, h => by
    rw [sumF, sumF]
    by_cases e : i = n
    · rw [← e, sumF_cg i (fun k hk => hF k (by omega)), hi, Int32.add_assoc]
    · rw [sumF_up hF hi n (by omega), hF n (by omega)]
      ac_rfl
def aS (A : Nat → Int32) (g : Nat → Int32) (u : Nat → Bool) (a : Nat) (k : Nat) : Int32 := if (aimM A (nI a) k && u k) = true then g k else 0
theorem aS_cg {A g : Nat → Int32} {u v : Nat → Bool} {a k : Nat} (h : u k = v k) : aS A g u a k = aS A g v a k := by
  unfold aS
  rw [h]
theorem aS_f {A g : Nat → Int32} {u : Nat → Bool} {a k : Nat} (h : u k = false) : aS A g u a k = 0 := by
  unfold aS
  rw [h, Bool.and_false]
  rfl
theorem aS_n {A g : Nat → Int32} {u : Nat → Bool} {a k : Nat} (h : aimM A (nI a) k = false) : aS A g u a k = 0 := by
  unfold aS
  rw [h, Bool.false_and]
  rfl
theorem aS_t {A g : Nat → Int32} {u : Nat → Bool} {a k : Nat} (h : aimM A (nI a) k = true) (h2 : u k = true) : aS A g u a k = g k := by
  unfold aS
  rw [h, h2, Bool.true_and]
  rfl
def UI (A : Nat → Int32) (g : Nat → Int32) (n : Nat) (P : List Nat) (u : US) : Prop :=
  (∀ a, a < 4 → u.1 a = sumF (aS A g u.2.1 a) n) ∧ u.2.2 = u.1 0 + u.1 1 + u.1 2 + u.1 3 ∧ (∀ a, a < 4 → 0 ≤ (u.1 a).toInt ∧ (u.1 a).toInt ≤ (A 0).toInt) ∧ (∀ k, k ∈ P → u.2.1 k = false → (A 0).toInt < (u.1 (gA A k 2).toInt.toNat).toInt + (g k).toInt) ∧ ∀ k, k ∉ P → u.2.1 k = false
section UI
variable {A : Nat → Int32} {g : Nat → Int32} {n : Nat}
theorem ui_step {P : List Nat} {u : US} {i : Nat} (hW : WF A n) (hP : ∀ k, k ∈ P → k < n) (hi : i < n) (hg : 0 ≤ (g i).toInt ∧ (g i).toInt ≤ 60) (hn : i ∉ P) (h : UI A g n P u) : UI A g n (P ++ [i]) (us1 A g u i) := by
  obtain ⟨h1, h2, h3, h4, h5⟩ := h
  obtain ⟨-, -, a2, -⟩ := hW.2.1 i hi
  have hA0 := hW.2.2.2.1
  obtain ⟨ka, hka, hka2⟩ : ∃ k : Nat, k < 4 ∧ (gA A i 2).toInt = (k : Int) := ⟨(gA A i 2).toInt.toNat, by omega, by omega⟩
  have ea : gA A i 2 = nI ka := i_nI hka2 (by omega)
  have en : (gA A i 2).toInt.toNat = ka := by omega
  have hu := h5 i hn
  have hk3 := h3 ka hka
  have hs : (u.1 ka + g i).toInt = (u.1 ka).toInt + (g i).toInt := i_add (by omega) (by omega)
  unfold us1
  rw [en]
  by_cases c : A 0 < u.1 ka + g i
  · rw [if_pos c]
    rw [pu_lt, hs] at c
    have e : (fun q => if q = i then false else u.2.1 q) = u.2.1 := by
      funext q
      by_cases e : q = i
      · rw [if_pos e, e, hu]
      · rw [if_neg e]
    rw [e]
    refine ⟨h1, h2, h3, fun k hk hk2 => ?_, fun k hk => h5 k (fun q => hk (List.mem_append_left _ q))⟩
    rcases List.mem_append.mp hk with q | q
    · exact h4 k q hk2
    · rw [List.mem_singleton.mp q]
      show _ < (u.1 _).toInt + _
      rw [en]
      exact c
  · rw [if_neg c]
    rw [pu_lt, hs] at c
    have hup : ∀ a, (upd u.1 ka (u.1 ka + g i) a).toInt = (u.1 a).toInt + (if a = ka then (g i).toInt else 0) := by
      intro a
      by_cases e : a = ka
      · rw [e, upd_eq, hs, if_pos rfl]
      · rw [upd_ne e, if_neg e]; omega
    refine ⟨fun a ha => ?_, ?_, fun a ha => ?_, fun k hk hk2 => ?_, fun k hk => ?_⟩
    · dsimp only
      by_cases e : a = ka
      · rw [e, upd_eq, h1 ka hka]
        refine (sumF_up (i := i) (fun k hk => ?_) ?_ n hi).symm
        · exact aS_cg (if_neg hk)
        · have : aimM A (nI ka) i = true := by unfold aimM; rw [ea]; exact decide_eq_true rfl
          rw [aS_f hu, aS_t this (if_pos rfl), Int32.zero_add]
      · rw [upd_ne e, h1 a ha]
        refine sumF_cg n (fun k hk => ?_)
        by_cases e2 : k = i
        · have : aimM A (nI a) i = false := by
            unfold aimM
            rw [ea]
            refine decide_eq_false (fun q => e ?_)
            rw [pu_eq, nI_toInt (by omega), nI_toInt (by omega)] at q
            omega
          rw [e2, aS_n this, aS_n this]
        · exact aS_cg (if_neg e2).symm
    · dsimp only
      rw [h2]
      match ka, hka with
      | 0, _ => rw [upd_eq, upd_ne (by omega), upd_ne (by omega), upd_ne (by omega)]; ac_rfl
      | 1, _ => rw [upd_ne (by omega), upd_eq, upd_ne (by omega), upd_ne (by omega)]; ac_rfl
      | 2, _ => rw [upd_ne (by omega), upd_ne (by omega), upd_eq, upd_ne (by omega)]; ac_rfl
      | 3, _ => rw [upd_ne (by omega), upd_ne (by omega), upd_ne (by omega), upd_eq]; ac_rfl
    · dsimp only
      rw [hup a]
      have := h3 a ha
      by_cases e : a = ka
      · rw [if_pos e, e]; omega
      · rw [if_neg e]; omega
    · dsimp only at hk2 ⊢
      by_cases e : k = i
      · rw [if_pos e] at hk2; cases hk2
      · rw [if_neg e] at hk2
        rcases List.mem_append.mp hk with q | q
        · have := h4 k q hk2
          rw [hup]
          split <;> omega
        · exact absurd (List.mem_singleton.mp q) e
    · dsimp only
      rw [if_neg (fun e => hk (List.mem_append_right _ (List.mem_singleton.mpr e)))]
      exact h5 k (fun q => hk (List.mem_append_left _ q))
theorem ui_fold (hW : WF A n) : ∀ (l P : List Nat) (u : US), (∀ k, k ∈ P → k < n) → (∀ i, i ∈ l → i < n ∧ i ∉ P ∧ 0 ≤ (g i).toInt ∧ (g i).toInt ≤ 60) → l.Nodup → UI A g n P u → UI A g n (P ++ l) (l.foldl (us1 A g) u)
  | [], P, u, _, _, _, h => by rw [List.append_nil]; exact h
  | i :: l, P, u, hP, hl, hnd, h => by
    obtain ⟨q1, q2, q3, q4⟩ := hl i List.mem_cons_self
    have hnd' := List.nodup_cons.1 hnd
    have := ui_fold hW l (P ++ [i]) (us1 A g u i) (fun k hk => by
      rcases List.mem_append.mp hk with q | q
      · exact hP k q
      · rw [List.mem_singleton.mp q]; exact q1) (fun j hj => by
      obtain ⟨w1, w2, w3, w4⟩ := hl j (List.mem_cons_of_mem _ hj)
      refine ⟨w1, fun q => ?_, w3, w4⟩
      rcases List.mem_append.mp q with q | q
      · exact w2 q
      · exact hnd'.1 (by rw [← List.mem_singleton.mp q]; exact hj)) hnd'.2 (ui_step hW hP q1 ⟨q3, q4⟩ q2 h)
    rw [List.append_assoc] at this
    exact this
theorem ui_0 (hW : WF A n) : UI A g n [] us0 := by
  have hA0 := hW.2.2.2.1
  refine ⟨fun a ha => ?_, rfl, fun a ha => ⟨by show 0 ≤ (0 : Int32).toInt; decide, by show (0 : Int32).toInt ≤ _; rw [show (0 : Int32).toInt = 0 from rfl]; omega⟩, fun k hk => (by cases hk), fun k _ => rfl⟩
  exact (sumF_0 n (fun k hk => aS_f rfl)).symm
end UI
section LF
variable {A : Nat → Int32} {n h : Nat}
theorem looks_UI (hW : WF A n) (hh : h < 11) : ∃ P : List Nat, (∀ k, k < n → k ∈ P) ∧ UI A (gv A n h) n P (looks A n h) := by
  refine ⟨[] ++ (srt (gv A n h) n).reverse, fun k hk => ?_, ui_fold hW _ [] us0 (fun k hk => (by cases hk)) (fun i hi => ?_) (List.pairwise_reverse.2 ((srt_nodup _ n).imp (fun q => Ne.symm q))) (ui_0 hW)⟩
  · rw [List.nil_append]
    exact List.mem_reverse.mpr ((srt_mem _ k n).mpr hk)
  · have hi2 := (srt_mem _ i n).mp (List.mem_reverse.mp hi)
    have := gv_in hW hi2 hh
    exact ⟨hi2, by simp, this.1, this.2⟩
theorem lk_sum (hW : WF A n) (hh : h < 11) {a : Nat} (ha : a < 4) : (looks A n h).1 a = sumF (aS A (gv A n h) (looks A n h).2.1 a) n := by
  obtain ⟨P, -, q⟩ := looks_UI hW hh
  exact q.1 a ha
theorem lk_all (hW : WF A n) (hh : h < 11) : (looks A n h).2.2 = (looks A n h).1 0 + (looks A n h).1 1 + (looks A n h).1 2 + (looks A n h).1 3 := by
  obtain ⟨P, -, q⟩ := looks_UI hW hh
  exact q.2.1
theorem lk_lim (hW : WF A n) (hh : h < 11) {a : Nat} (ha : a < 4) : 0 ≤ ((looks A n h).1 a).toInt ∧ ((looks A n h).1 a).toInt ≤ (A 0).toInt := by
  obtain ⟨P, -, q⟩ := looks_UI hW hh
  exact q.2.2.1 a ha
theorem lk_away (hW : WF A n) (hh : h < 11) {k : Nat} (hk : k < n) (hu : (looks A n h).2.1 k = false) : (A 0).toInt < ((looks A n h).1 (gA A k 2).toInt.toNat).toInt + (gv A n h k).toInt := by
  obtain ⟨P, p, q⟩ := looks_UI hW hh
  exact q.2.2.2.1 k (p k hk) hu
/-! the least of those that look away -/
def awF (its used : Nat → Bool) (g : Nat → Int32) : Nat → Int32
  | 0 => 1000
  | k + 1 => if (its k = true ∧ used k = false) ∧ g k < awF its used g k then g k else awF its used g k
theorem awF_spec {its used : Nat → Bool} {g : Nat → Int32} : ∀ k, (∀ j, j < k → (g j).toInt ≤ 60) → (awF its used g k = 1000 ∧ ∀ j, j < k → its j = true → used j = true) ∨ ∃ j, j < k ∧ its j = true ∧ used j = false ∧ awF its used g k = g j
  | 0, _ => Or.inl ⟨rfl, fun j hj => by omega⟩
  | k + 1, hg => by
    rw [awF]
    by_cases c : (its k = true ∧ used k = false) ∧ g k < awF its used g k
    · rw [if_pos c]
      exact Or.inr ⟨k, by omega, c.1.1, c.1.2, rfl⟩
    · rw [if_neg c]
      rcases awF_spec (its := its) (used := used) (g := g) k (fun j hj => hg j (by omega)) with ⟨q1, q2⟩ | ⟨j, q1, q2, q3, q4⟩
      · left
        refine ⟨q1, fun j hj hi => ?_⟩
        by_cases e : j = k
        · subst e
          cases hu : used j with
          | true => rfl
          | false =>
            exfalso
            apply c
            refine ⟨⟨hi, hu⟩, ?_⟩
            rw [q1, pu_lt, show (1000 : Int32).toInt = 1000 from rfl]
            have := hg j (by omega)
            omega
        · exact q2 j (by omega) hi
      · exact Or.inr ⟨j, by omega, q2, q3, q4⟩
/-! shade, gifts -/
theorem shF_row {i : Nat} (hW : WF A n) (hi : i < n) : ∀ (c k j : Nat), 1 ≤ k → k + c ≤ 8 → shF A n i h c k = some j → (gA A j 0).toInt < (gA A i 0).toInt := by
  obtain ⟨a0, -⟩ := hW.2.1 i hi
  intro c
  induction c with
  | zero => intro k j _ _ q; cases q
  | succ c ih =>
    intro k j hk hk2 q
    unfold shF at q
    split at q
    · rename_i x hx
      cases q
      obtain ⟨-, g1, -⟩ := mAt_lt hx
      rw [g1, i_sub (by rw [nI_toInt (by omega)]; omega) (by rw [nI_toInt (by omega)]; omega), nI_toInt (by omega)]
      omega
    · exact ih (k + 1) j (by omega) (by omega) q
theorem shade_row {i j : Nat} (hW : WF A n) (hi : i < n) (hh : h < 11) (q : shade A n i h = some j) : (gA A j 0).toInt < (gA A i 0).toInt := by
  refine shF_row hW hi _ _ j (Nat.le_refl _) ?_ q
  have : 6 / hiN h ≤ 6 := Nat.div_le_self _ _
  omega
theorem gv_dark {i : Nat} (hd : flat A = true ∨ shade A n i h ≠ none ∨ blk A n i = true) : gv A n h i = 0 := by
  unfold gv
  rw [if_pos hd]
theorem gv_pos {i : Nat} (hW : WF A n) (hi : i < n) (hh : h < 11) (hd : ¬ (flat A = true ∨ shade A n i h ≠ none ∨ blk A n i = true)) (h50 : (gA A i 3).toInt ≤ 50) : 0 < (gv A n h i).toInt := by
  obtain ⟨a0, a1, a2, a3⟩ := hW.2.1 i hi
  have hN := hiN_in hh
  have z20 : (20 : Int32).toInt = 20 := rfl
  have z10 : (10 : Int32).toInt = 10 := rfl
  have z100 : (100 : Int32).toInt = 100 := rfl
  unfold gv
  rw [if_neg hd]
  have m1 : (100 - gA A i 3 : Int32).toInt = 100 - (gA A i 3).toInt := by rw [i_sub (by omega) (by omega), z100]
  have hb : 50 ≤ (100 - (gA A i 3).toInt) * ((hiN h : Nat) : Int) ∧ (100 - (gA A i 3).toInt) * ((hiN h : Nat) : Int) ≤ 600 := by
    constructor
    · have : (100 - (gA A i 3).toInt) * 1 ≤ (100 - (gA A i 3).toInt) * ((hiN h : Nat) : Int) := Int.mul_le_mul_of_nonneg_left (by omega) (by omega)
      omega
    · have : (100 - (gA A i 3).toInt) * ((hiN h : Nat) : Int) ≤ 100 * ((hiN h : Nat) : Int) := Int.mul_le_mul_of_nonneg_right (by omega) (by omega)
      omega
  have m2 : ((100 - gA A i 3) * nI (hiN h) : Int32).toInt = (100 - (gA A i 3).toInt) * ((hiN h : Nat) : Int) := by
    rw [i_mul (by rw [m1, nI_toInt (by omega)]; omega) (by rw [m1, nI_toInt (by omega)]; omega), m1, nI_toInt (by omega)]
  have m3 : ((100 - gA A i 3) * nI (hiN h) * 20 : Int32).toInt = (100 - (gA A i 3).toInt) * ((hiN h : Nat) : Int) * 20 := by
    rw [i_mul (by rw [m2, z20]; omega) (by rw [m2, z20]; omega), m2, z20]
  have m4 : (20 + gA A i 0 : Int32).toInt = 20 + (gA A i 0).toInt := by rw [i_add (by omega) (by omega), z20]
  generalize (100 - (gA A i 3).toInt) * ((hiN h : Nat) : Int) = X at hb m2 m3
  have t1 : (X * 20).tdiv (20 + (gA A i 0).toInt) = X * 20 / (20 + (gA A i 0).toInt) := Int.tdiv_eq_ediv_of_nonneg (by omega)
  have t2 : 25 ≤ X * 20 / (20 + (gA A i 0).toInt) := Int.le_ediv_of_mul_le (by omega) (by omega)
  have t3 : X * 20 / (20 + (gA A i 0).toInt) ≤ 600 := Int.ediv_le_of_le_mul (by omega) (by omega)
  have m5 : ((100 - gA A i 3) * nI (hiN h) * 20 / (20 + gA A i 0) : Int32).toInt = X * 20 / (20 + (gA A i 0).toInt) := by
    rw [i_div (by rw [m3, m4, t1]; omega) (by rw [m3, m4, t1]; omega), m3, m4, t1]
  generalize X * 20 / (20 + (gA A i 0).toInt) = Y at t2 t3 m5
  have t4 : Y.tdiv 10 = Y / 10 := Int.tdiv_eq_ediv_of_nonneg (by omega)
  rw [i_div (by rw [m5, z10, t4]; omega) (by rw [m5, z10, t4]; omega), m5, z10, t4]
  omega
/-! the least limit -/
theorem gv_cg {B : Nat → Int32} (h1 : A 1 = B 1) (h4 : A 4 = B 4) (hw : ∀ i w, i < n → w < 4 → gA A i w = gA B i w) {i : Nat} (hi : i < n) : gv A n h i = gv B n h i := by
  unfold gv flat
  rw [h1, h4, shade_congr hw hi, blk_congr hw hi, hw i 3 hi (by omega), hw i 0 hi (by omega)]
def wS (A : Nat → Int32) (g : Nat → Int32) (a : Nat) (k : Nat) : Int32 := if aimM A (nI a) k = true then g k else 0
theorem lea_looks (hW : WS A n) (hh : h < 11) {a : Nat} (ha : a < 4) : (looks (upd A 0 9999) n h).1 a = sumF (wS A (gv A n h) a) n := by
  have hr : (0 : Int32) = 0 ∧ rng 9999 1 9999 := ⟨rfl, by decide⟩
  have hW' : WF (upd A 0 9999) n := by
    have := setO_WS (s := 0) (v := 9999) hW
    unfold setO at this
    rw [if_pos (Or.inl hr)] at this
    exact this.1
  have eg : ∀ i w, gA (upd A 0 9999) i w = gA A i w := fun i w => gA_upd_ne (by omega)
  have hu := (looks_bd hW' hh).2.2 (by rw [upd_eq]; decide)
  rw [lk_sum hW' hh ha]
  refine sumF_cg n (fun k hk => ?_)
  unfold aS wS aimM
  rw [hu k hk, eg, Bool.and_true, gv_cg (B := A) (upd_ne (by omega)) (upd_ne (by omega)) (fun i w _ _ => eg i w) hk]
end LF
