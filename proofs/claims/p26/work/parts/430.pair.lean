/-! two objects of the class side by side -/
theorem comm2 {σ : Hp} {x y : Nat} {ci cz ci' cz' : Nat → Nat → Int32} (h : x + 184 ≤ y ∨ y + 184 ≤ x) : xh (xh σ y ci' cz') x ci cz = xh (xh σ x ci cz) y ci' cz' := by
  unfold xh
  congr 1
  funext q
  dsimp only
  by_cases c1 : x ≤ q ∧ q < x + 184
  · rw [if_pos c1, if_neg (by omega), if_pos c1]
  · rw [if_neg c1, if_neg c1]
def St (x y : Nat) (A : Nat → Int32) (H : List (Nat → Int32)) (B : Nat → Int32) (G : List (Nat → Int32)) (s : Hp) : Prop := ∃ σ ci cz ci' cz' n m S p pl S' p' pl', s = xh (xh σ y ci' cz') x ci cz ∧ XI ci cz A n H S p pl ∧ XI ci' cz' B m G S' p' pl'
section ST
variable {x y : Nat} {A A' B B' : Nat → Int32} {H H' G G' : List (Nat → Int32)} {s : Hp} {D : Hp → Option (Int32 × Hp)} {v : Int32}
theorem St.symm (hxy : x + 184 ≤ y ∨ y + 184 ≤ x) (h : St x y A H B G s) : St y x B G A H s := by
  obtain ⟨σ, ci, cz, ci', cz', n, m, S, p, pl, S', p', pl', e, h1, h2⟩ := h
  exact ⟨σ, ci', cz', ci, cz, m, n, S', p', pl', S, p, pl, e.trans (comm2 hxy), h2, h1⟩
theorem St.ws (h : St x y A H B G s) : WS A (nO A) := by
  obtain ⟨σ, ci, cz, ci', cz', n, m, S, p, pl, S', p', pl', e, h1, h2⟩ := h
  have := h1.1.2
  rw [nO_eq this]
  exact this
theorem q_ask (h : St x y A H B G s) (hD : ∀ (σ : Hp) (ci cz : Nat → Nat → Int32) (S : SLT) (p : Nat → Int32) (pl : Nat), XI ci cz A (nO A) H S p pl → Ask σ x A (nO A) H S p pl (D (xh σ x ci cz)) v) : ∃ s', D s = some (v, s') ∧ St x y A H B G s' := by
  obtain ⟨σ, ci, cz, ci', cz', n, m, S, p, pl, S', p', pl', rfl, h1, h2⟩ := h
  have e := nO_eq h1.1.2
  subst e
  obtain ⟨c1, z1, w1, w2⟩ := hD (xh σ y ci' cz') ci cz S p pl h1
  exact ⟨_, w1, σ, c1, z1, ci', cz', _, m, S, p, pl, S', p', pl', rfl, w2, h2⟩
theorem q_did (h : St x y A H B G s) (hD : ∀ (σ : Hp) (ci cz : Nat → Nat → Int32) (S : SLT) (p : Nat → Int32) (pl : Nat), XI ci cz A (nO A) H S p pl → Did σ x (D (xh σ x ci cz)) v A' H' S p pl) : ∃ s', D s = some (v, s') ∧ St x y A' H' B G s' := by
  obtain ⟨σ, ci, cz, ci', cz', n, m, S, p, pl, S', p', pl', rfl, h1, h2⟩ := h
  have e := nO_eq h1.1.2
  subst e
  obtain ⟨c1, z1, n1, w1, w2⟩ := hD (xh σ y ci' cz') ci cz S p pl h1
  exact ⟨_, w1, σ, c1, z1, ci', cz', n1, m, S, p, pl, S', p', pl', rfl, w2, h2⟩
theorem sw (hxy : x + 184 ≤ y ∨ y + 184 ≤ x) (h : ∃ s', D s = some (v, s') ∧ St y x B G A H s') : ∃ s', D s = some (v, s') ∧ St x y A H B G s' := by
  obtain ⟨s', w1, w2⟩ := h
  have hxy' : y + 184 ≤ x ∨ x + 184 ≤ y := by omega
  exact ⟨s', w1, w2.symm hxy'⟩
theorem q_of (h : St x y A H B G s) (i w : Int32) : ∃ s', D_X9_of x i w s = some (ofO A (nO A) i w, s') ∧ St x y A H B G s' := q_ask (D := D_X9_of x i w) h (fun _ _ _ _ _ _ hX => X_of hX i w)
theorem r_of (hxy : x + 184 ≤ y ∨ y + 184 ≤ x) (h : St x y A H B G s) (i w : Int32) : ∃ s', D_X9_of y i w s = some (ofO B (nO B) i w, s') ∧ St x y A H B G s' := sw (D := D_X9_of y i w) hxy (q_of (h.symm hxy) i w)
theorem q_at (h : St x y A H B G s) (i hh w : Int32) : ∃ s', D_X9_at x i hh w s = some (atO A (nO A) i hh w, s') ∧ St x y A H B G s' := q_ask (D := D_X9_at x i hh w) h (fun _ _ _ _ _ _ hX => X_at hX i hh w)
theorem r_at (hxy : x + 184 ≤ y ∨ y + 184 ≤ x) (h : St x y A H B G s) (i hh w : Int32) : ∃ s', D_X9_at y i hh w s = some (atO B (nO B) i hh w, s') ∧ St x y A H B G s' := sw (D := D_X9_at y i hh w) hxy (q_at (h.symm hxy) i hh w)
theorem q_point (h : St x y A H B G s) (a hh w : Int32) : ∃ s', D_X9_point x a hh w s = some (poiO A (nO A) a hh w, s') ∧ St x y A H B G s' := q_ask (D := D_X9_point x a hh w) h (fun _ _ _ _ _ _ hX => X_point hX a hh w)
theorem r_point (hxy : x + 184 ≤ y ∨ y + 184 ≤ x) (h : St x y A H B G s) (a hh w : Int32) : ∃ s', D_X9_point y a hh w s = some (poiO B (nO B) a hh w, s') ∧ St x y A H B G s' := sw (D := D_X9_point y a hh w) hxy (q_point (h.symm hxy) a hh w)
theorem q_in (h : St x y A H B G s) (r c : Int32) : ∃ s', D_X9_in x r c s = some (inO A (nO A) r c, s') ∧ St x y A H B G s' := q_ask (D := D_X9_in x r c) h (fun _ _ _ _ _ _ hX => X_in hX r c)
theorem r_in (hxy : x + 184 ≤ y ∨ y + 184 ≤ x) (h : St x y A H B G s) (r c : Int32) : ∃ s', D_X9_in y r c s = some (inO B (nO B) r c, s') ∧ St x y A H B G s' := sw (D := D_X9_in y r c) hxy (q_in (h.symm hxy) r c)
theorem q_worth (h : St x y A H B G s) (w : Int32) : ∃ s', D_X9_worthLeast x w s = some (worO A (nO A) w, s') ∧ St x y A H B G s' := q_ask (D := D_X9_worthLeast x w) h (fun _ _ _ _ _ _ hX => X_worth hX w)
theorem r_worth (hxy : x + 184 ≤ y ∨ y + 184 ≤ x) (h : St x y A H B G s) (w : Int32) : ∃ s', D_X9_worthLeast y w s = some (worO B (nO B) w, s') ∧ St x y A H B G s' := sw (D := D_X9_worthLeast y w) hxy (q_worth (h.symm hxy) w)
theorem q_best (h : St x y A H B G s) (r a w : Int32) : ∃ s', D_X9_bestColumn x r a w s = some (besO A (nO A) r a w, s') ∧ St x y A H B G s' := q_ask (D := D_X9_bestColumn x r a w) h (fun _ _ _ _ _ _ hX => X_best hX r a w)
theorem r_best (hxy : x + 184 ≤ y ∨ y + 184 ≤ x) (h : St x y A H B G s) (r a w : Int32) : ∃ s', D_X9_bestColumn y r a w s = some (besO B (nO B) r a w, s') ∧ St x y A H B G s' := sw (D := D_X9_bestColumn y r a w) hxy (q_best (h.symm hxy) r a w)
theorem q_toWash (h : St x y A H B G s)  : ∃ s', D_X9_toWash x  s = some (tWaO A (nO A), s') ∧ St x y A H B G s' := q_ask (D := D_X9_toWash x ) h (fun _ _ _ _ _ _ hX => X_toWash hX )
theorem r_toWash (hxy : x + 184 ≤ y ∨ y + 184 ≤ x) (h : St x y A H B G s)  : ∃ s', D_X9_toWash y  s = some (tWaO B (nO B), s') ∧ St x y A H B G s' := sw (D := D_X9_toWash y ) hxy (q_toWash (h.symm hxy) )
theorem q_least (h : St x y A H B G s)  : ∃ s', D_X9_leastLimit x  s = some (leaO A (nO A), s') ∧ St x y A H B G s' := q_ask (D := D_X9_leastLimit x ) h (fun _ _ _ _ _ _ hX => X_least hX )
theorem r_least (hxy : x + 184 ≤ y ∨ y + 184 ≤ x) (h : St x y A H B G s)  : ∃ s', D_X9_leastLimit y  s = some (leaO B (nO B), s') ∧ St x y A H B G s' := sw (D := D_X9_leastLimit y ) hxy (q_least (h.symm hxy) )
theorem q_count' (h : St x y A H B G s) (w : Int32) : ∃ pl s', D_X9_count x w s = some (couO A (nO A) H.length pl w, s') ∧ St x y A H B G s' := by
  obtain ⟨σ, ci, cz, ci', cz', n, m, S, p, pl, S', p', pl', rfl, h1, h2⟩ := h
  have e := nO_eq h1.1.2
  subst e
  obtain ⟨c1, z1, w1, w2⟩ := X_count (σ := xh σ y ci' cz') (x := x) h1 w
  exact ⟨pl, _, w1, σ, c1, z1, ci', cz', _, m, S, p, pl, S', p', pl', rfl, w2, h2⟩
theorem cou_0 {n hl pl : Nat} : couO A n hl pl 0 = A 3 := by
  unfold couO
  rw [if_pos rfl]
theorem q_count0 (h : St x y A H B G s) : ∃ s', D_X9_count x 0 s = some (A 3, s') ∧ St x y A H B G s' := by
  obtain ⟨pl, s', w1, w2⟩ := q_count' h 0
  rw [cou_0] at w1
  exact ⟨s', w1, w2⟩
theorem r_count0 (hxy : x + 184 ≤ y ∨ y + 184 ≤ x) (h : St x y A H B G s) : ∃ s', D_X9_count y 0 s = some (B 3, s') ∧ St x y A H B G s' := sw (D := D_X9_count y 0) hxy (q_count0 (h.symm hxy))
theorem cou_1 {n hl pl : Nat} : couO A n hl pl 1 = A 6 := by
  unfold couO
  rw [if_neg (by decide), if_pos rfl]
theorem q_count1 (h : St x y A H B G s) : ∃ s', D_X9_count x 1 s = some (A 6, s') ∧ St x y A H B G s' := by
  obtain ⟨pl, s', w1, w2⟩ := q_count' h 1
  rw [cou_1] at w1
  exact ⟨s', w1, w2⟩
theorem r_count1 (hxy : x + 184 ≤ y ∨ y + 184 ≤ x) (h : St x y A H B G s) : ∃ s', D_X9_count y 1 s = some (B 6, s') ∧ St x y A H B G s' := sw (D := D_X9_count y 1) hxy (q_count1 (h.symm hxy))
theorem cou_2 {n hl pl : Nat} : couO A n hl pl 2 = A 4 := by
  unfold couO
  rw [if_neg (by decide), if_neg (by decide), if_pos rfl]
theorem q_count2 (h : St x y A H B G s) : ∃ s', D_X9_count x 2 s = some (A 4, s') ∧ St x y A H B G s' := by
  obtain ⟨pl, s', w1, w2⟩ := q_count' h 2
  rw [cou_2] at w1
  exact ⟨s', w1, w2⟩
theorem r_count2 (hxy : x + 184 ≤ y ∨ y + 184 ≤ x) (h : St x y A H B G s) : ∃ s', D_X9_count y 2 s = some (B 4, s') ∧ St x y A H B G s' := sw (D := D_X9_count y 2) hxy (q_count2 (h.symm hxy))
theorem cou_3 {n hl pl : Nat} : couO A n hl pl 3 = bI (flat A) := by
  unfold couO
  rw [if_neg (by decide), if_neg (by decide), if_neg (by decide), if_pos rfl]
theorem q_count3 (h : St x y A H B G s) : ∃ s', D_X9_count x 3 s = some (bI (flat A), s') ∧ St x y A H B G s' := by
  obtain ⟨pl, s', w1, w2⟩ := q_count' h 3
  rw [cou_3] at w1
  exact ⟨s', w1, w2⟩
theorem r_count3 (hxy : x + 184 ≤ y ∨ y + 184 ≤ x) (h : St x y A H B G s) : ∃ s', D_X9_count y 3 s = some (bI (flat B), s') ∧ St x y A H B G s' := sw (D := D_X9_count y 3) hxy (q_count3 (h.symm hxy))
theorem cou_4 {n hl pl : Nat} : couO A n hl pl 4 = A 5 := by
  unfold couO
  rw [if_neg (by decide), if_neg (by decide), if_neg (by decide), if_neg (by decide), if_pos rfl]
theorem q_count4 (h : St x y A H B G s) : ∃ s', D_X9_count x 4 s = some (A 5, s') ∧ St x y A H B G s' := by
  obtain ⟨pl, s', w1, w2⟩ := q_count' h 4
  rw [cou_4] at w1
  exact ⟨s', w1, w2⟩
theorem r_count4 (hxy : x + 184 ≤ y ∨ y + 184 ≤ x) (h : St x y A H B G s) : ∃ s', D_X9_count y 4 s = some (B 5, s') ∧ St x y A H B G s' := sw (D := D_X9_count y 4) hxy (q_count4 (h.symm hxy))
theorem cou_5 {n hl pl : Nat} : couO A n hl pl 5 = brings A (n) := by
  unfold couO
  rw [if_neg (by decide), if_neg (by decide), if_neg (by decide), if_neg (by decide), if_neg (by decide), if_pos rfl]
theorem q_count5 (h : St x y A H B G s) : ∃ s', D_X9_count x 5 s = some (brings A (nO A), s') ∧ St x y A H B G s' := by
  obtain ⟨pl, s', w1, w2⟩ := q_count' h 5
  rw [cou_5] at w1
  exact ⟨s', w1, w2⟩
theorem r_count5 (hxy : x + 184 ≤ y ∨ y + 184 ≤ x) (h : St x y A H B G s) : ∃ s', D_X9_count y 5 s = some (brings B (nO B), s') ∧ St x y A H B G s' := sw (D := D_X9_count y 5) hxy (q_count5 (h.symm hxy))
theorem cou_6 {n hl pl : Nat} : couO A n hl pl 6 = maskF (blk A (n)) (n) := by
  unfold couO
  rw [if_neg (by decide), if_neg (by decide), if_neg (by decide), if_neg (by decide), if_neg (by decide), if_neg (by decide), if_pos rfl]
theorem q_count6 (h : St x y A H B G s) : ∃ s', D_X9_count x 6 s = some (maskF (blk A (nO A)) (nO A), s') ∧ St x y A H B G s' := by
  obtain ⟨pl, s', w1, w2⟩ := q_count' h 6
  rw [cou_6] at w1
  exact ⟨s', w1, w2⟩
theorem r_count6 (hxy : x + 184 ≤ y ∨ y + 184 ≤ x) (h : St x y A H B G s) : ∃ s', D_X9_count y 6 s = some (maskF (blk B (nO B)) (nO B), s') ∧ St x y A H B G s' := sw (D := D_X9_count y 6) hxy (q_count6 (h.symm hxy))
theorem cou_7 {n hl pl : Nat} : couO A n hl pl 7 = sumF (fun i => gA A i 3) (n) := by
  unfold couO
  rw [if_neg (by decide), if_neg (by decide), if_neg (by decide), if_neg (by decide), if_neg (by decide), if_neg (by decide), if_neg (by decide), if_pos rfl]
theorem q_count7 (h : St x y A H B G s) : ∃ s', D_X9_count x 7 s = some (sumF (fun i => gA A i 3) (nO A), s') ∧ St x y A H B G s' := by
  obtain ⟨pl, s', w1, w2⟩ := q_count' h 7
  rw [cou_7] at w1
  exact ⟨s', w1, w2⟩
theorem r_count7 (hxy : x + 184 ≤ y ∨ y + 184 ≤ x) (h : St x y A H B G s) : ∃ s', D_X9_count y 7 s = some (sumF (fun i => gA B i 3) (nO B), s') ∧ St x y A H B G s' := sw (D := D_X9_count y 7) hxy (q_count7 (h.symm hxy))
theorem cou_8 {n hl pl : Nat} : couO A n hl pl 8 = A 0 := by
  unfold couO
  rw [if_neg (by decide), if_neg (by decide), if_neg (by decide), if_neg (by decide), if_neg (by decide), if_neg (by decide), if_neg (by decide), if_neg (by decide), if_pos rfl]
theorem q_count8 (h : St x y A H B G s) : ∃ s', D_X9_count x 8 s = some (A 0, s') ∧ St x y A H B G s' := by
  obtain ⟨pl, s', w1, w2⟩ := q_count' h 8
  rw [cou_8] at w1
  exact ⟨s', w1, w2⟩
theorem r_count8 (hxy : x + 184 ≤ y ∨ y + 184 ≤ x) (h : St x y A H B G s) : ∃ s', D_X9_count y 8 s = some (B 0, s') ∧ St x y A H B G s' := sw (D := D_X9_count y 8) hxy (q_count8 (h.symm hxy))
theorem cou_9 {n hl pl : Nat} : couO A n hl pl 9 = A 1 := by
  unfold couO
  rw [if_neg (by decide), if_neg (by decide), if_neg (by decide), if_neg (by decide), if_neg (by decide), if_neg (by decide), if_neg (by decide), if_neg (by decide), if_neg (by decide), if_pos rfl]
theorem q_count9 (h : St x y A H B G s) : ∃ s', D_X9_count x 9 s = some (A 1, s') ∧ St x y A H B G s' := by
  obtain ⟨pl, s', w1, w2⟩ := q_count' h 9
  rw [cou_9] at w1
  exact ⟨s', w1, w2⟩
theorem r_count9 (hxy : x + 184 ≤ y ∨ y + 184 ≤ x) (h : St x y A H B G s) : ∃ s', D_X9_count y 9 s = some (B 1, s') ∧ St x y A H B G s' := sw (D := D_X9_count y 9) hxy (q_count9 (h.symm hxy))
theorem cou_10 {n hl pl : Nat} : couO A n hl pl 10 = A 2 := by
  unfold couO
  rw [if_neg (by decide), if_neg (by decide), if_neg (by decide), if_neg (by decide), if_neg (by decide), if_neg (by decide), if_neg (by decide), if_neg (by decide), if_neg (by decide), if_neg (by decide), if_pos rfl]
theorem q_count10 (h : St x y A H B G s) : ∃ s', D_X9_count x 10 s = some (A 2, s') ∧ St x y A H B G s' := by
  obtain ⟨pl, s', w1, w2⟩ := q_count' h 10
  rw [cou_10] at w1
  exact ⟨s', w1, w2⟩
theorem r_count10 (hxy : x + 184 ≤ y ∨ y + 184 ≤ x) (h : St x y A H B G s) : ∃ s', D_X9_count y 10 s = some (B 2, s') ∧ St x y A H B G s' := sw (D := D_X9_count y 10) hxy (q_count10 (h.symm hxy))
theorem cou_12 {n hl pl : Nat} : couO A n hl pl 12 = nI hl := by
  unfold couO
  rw [if_neg (by decide), if_neg (by decide), if_neg (by decide), if_neg (by decide), if_neg (by decide), if_neg (by decide), if_neg (by decide), if_neg (by decide), if_neg (by decide), if_neg (by decide), if_neg (by decide), if_neg (by decide), if_pos rfl]
theorem q_count12 (h : St x y A H B G s) : ∃ s', D_X9_count x 12 s = some (nI H.length, s') ∧ St x y A H B G s' := by
  obtain ⟨pl, s', w1, w2⟩ := q_count' h 12
  rw [cou_12] at w1
  exact ⟨s', w1, w2⟩
theorem q_set (h : St x y A H B G s) (i v : Int32) : ∃ s', D_X9_set x i v s = some ((setO A i v).1, s') ∧ St x y (setO A i v).2 (endH (setO A i v).1 H A) B G s' := q_did (D := D_X9_set x i v) h (fun _ _ _ _ _ _ hX => X_set hX i v)
theorem r_set (hxy : x + 184 ≤ y ∨ y + 184 ≤ x) (h : St x y A H B G s) (i v : Int32) : ∃ s', D_X9_set y i v s = some ((setO B i v).1, s') ∧ St x y A H (setO B i v).2 (endH (setO B i v).1 G B) s' := sw (D := D_X9_set y i v) hxy (q_set (h.symm hxy) i v)
theorem q_mirror (h : St x y A H B G s) (r c a : Int32) : ∃ s', D_X9_mirror x r c a s = some ((mirO A (nO A) r c a).1, s') ∧ St x y (mirO A (nO A) r c a).2 (endH (mirO A (nO A) r c a).1 H A) B G s' := q_did (D := D_X9_mirror x r c a) h (fun _ _ _ _ _ _ hX => X_mirror hX r c a)
theorem r_mirror (hxy : x + 184 ≤ y ∨ y + 184 ≤ x) (h : St x y A H B G s) (r c a : Int32) : ∃ s', D_X9_mirror y r c a s = some ((mirO B (nO B) r c a).1, s') ∧ St x y A H (mirO B (nO B) r c a).2 (endH (mirO B (nO B) r c a).1 G B) s' := sw (D := D_X9_mirror y r c a) hxy (q_mirror (h.symm hxy) r c a)
theorem q_take (h : St x y A H B G s) (i : Int32) : ∃ s', D_X9_take x i s = some ((takO A (nO A) i).1, s') ∧ St x y (takO A (nO A) i).2 (endH (takO A (nO A) i).1 H A) B G s' := q_did (D := D_X9_take x i) h (fun _ _ _ _ _ _ hX => X_take hX i)
theorem r_take (hxy : x + 184 ≤ y ∨ y + 184 ≤ x) (h : St x y A H B G s) (i : Int32) : ∃ s', D_X9_take y i s = some ((takO B (nO B) i).1, s') ∧ St x y A H (takO B (nO B) i).2 (endH (takO B (nO B) i).1 G B) s' := sw (D := D_X9_take y i) hxy (q_take (h.symm hxy) i)
theorem q_aim (h : St x y A H B G s) (i a : Int32) : ∃ s', D_X9_aim x i a s = some ((aimO A (nO A) i a).1, s') ∧ St x y (aimO A (nO A) i a).2 (endH (aimO A (nO A) i a).1 H A) B G s' := q_did (D := D_X9_aim x i a) h (fun _ _ _ _ _ _ hX => X_aim hX i a)
theorem r_aim (hxy : x + 184 ≤ y ∨ y + 184 ≤ x) (h : St x y A H B G s) (i a : Int32) : ∃ s', D_X9_aim y i a s = some ((aimO B (nO B) i a).1, s') ∧ St x y A H (aimO B (nO B) i a).2 (endH (aimO B (nO B) i a).1 G B) s' := sw (D := D_X9_aim y i a) hxy (q_aim (h.symm hxy) i a)
theorem q_wash (h : St x y A H B G s) (i : Int32) : ∃ s', D_X9_wash x i s = some ((wasO A (nO A) i).1, s') ∧ St x y (wasO A (nO A) i).2 (endH (wasO A (nO A) i).1 H A) B G s' := q_did (D := D_X9_wash x i) h (fun _ _ _ _ _ _ hX => X_wash hX i)
theorem r_wash (hxy : x + 184 ≤ y ∨ y + 184 ≤ x) (h : St x y A H B G s) (i : Int32) : ∃ s', D_X9_wash y i s = some ((wasO B (nO B) i).1, s') ∧ St x y A H (wasO B (nO B) i).2 (endH (wasO B (nO B) i).1 G B) s' := sw (D := D_X9_wash y i) hxy (q_wash (h.symm hxy) i)
theorem q_wind (h : St x y A H B G s) (w : Int32) : ∃ s', D_X9_wind x w s = some ((winO A w).1, s') ∧ St x y (winO A w).2 (endH (winO A w).1 H A) B G s' := q_did (D := D_X9_wind x w) h (fun _ _ _ _ _ _ hX => X_wind hX w)
theorem r_wind (hxy : x + 184 ≤ y ∨ y + 184 ≤ x) (h : St x y A H B G s) (w : Int32) : ∃ s', D_X9_wind y w s = some ((winO B w).1, s') ∧ St x y A H (winO B w).2 (endH (winO B w).1 G B) s' := sw (D := D_X9_wind y w) hxy (q_wind (h.symm hxy) w)
theorem q_pass (h : St x y A H B G s) (d : Int32) : ∃ s', D_X9_pass x d s = some ((pasO A (nO A) d).1, s') ∧ St x y (pasO A (nO A) d).2 (endH (pasO A (nO A) d).1 H A) B G s' := q_did (D := D_X9_pass x d) h (fun _ _ _ _ _ _ hX => X_pass hX d)
theorem r_pass (hxy : x + 184 ≤ y ∨ y + 184 ≤ x) (h : St x y A H B G s) (d : Int32) : ∃ s', D_X9_pass y d s = some ((pasO B (nO B) d).1, s') ∧ St x y A H (pasO B (nO B) d).2 (endH (pasO B (nO B) d).1 G B) s' := sw (D := D_X9_pass y d) hxy (q_pass (h.symm hxy) d)
theorem q_undo {H0 : List (Nat → Int32)} {C : Nat → Int32} (h : St x y A (H0 ++ [C]) B G s) : ∃ s', D_X9_undo x s = some (nI H0.length, s') ∧ St x y C H0 B G s' := q_did (D := D_X9_undo x) h (fun _ _ _ _ _ _ hX => X_undo hX)
theorem r_undo (hxy : x + 184 ≤ y ∨ y + 184 ≤ x) {G0 : List (Nat → Int32)} {C : Nat → Int32} (h : St x y A H B (G0 ++ [C]) s) : ∃ s', D_X9_undo y s = some (nI G0.length, s') ∧ St x y A H C G0 s' := sw (D := D_X9_undo y) hxy (q_undo (h.symm hxy))
end ST
