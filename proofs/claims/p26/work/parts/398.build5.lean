section BS
variable {s : Hp} {a : Nat} {cs : List HC}
def flds (a : Nat) : Nat → List HC
  | 0 => []
  | t + 1 => flds a t ++ fC (a + (2 + 13 * t))
def shR (a t : Nat) : Nat → Option Nat := fun i => if i < t then some (a + (2 + 13 * i)) else none
def shC (a n t : Nat) : List HC := .inr (.inr (7, [.ref (a + 1)])) :: .inr (.inl (n, shR a t)) :: flds a t
theorem flds_len (a : Nat) : ∀ t, (flds a t).length = 13 * t
  | 0 => rfl
  | t + 1 => by
    rw [flds, List.length_append, flds_len a t]
    show 13 * t + 13 = _
    omega
theorem shC_len {n t : Nat} : (shC a n t).length = 2 + 13 * t := by
  unfold shC
  rw [List.length_cons, List.length_cons, flds_len]
  omega
theorem b_shelf_w18 {n : Nat} (hn : n ≤ 7) (kx : Hp → Option Hp) : ∀ (c t f : Nat), t + c = n → c < f → D_X7_init_w18 a kx f (nI t) (bk s a (shC a n t)) = kx (bk s a (shC a n n)) := by
  have hg : ∀ t, getR (bk s a (shC a n t)) a 7 0 = some (a + 1) := fun t => b_get0 rfl
  have ha : ∀ t, alen (bk s a (shC a n t)) (a + 1) = some (nI n) := by
    intro t
    unfold alen
    rw [bk_at (by rw [shC_len]; omega)]
    rfl
  intro c
  induction c with
  | zero =>
    intro t f ht hf
    obtain ⟨f, rfl⟩ : ∃ g, f = g + 1 := ⟨f - 1, by omega⟩
    have : t = n := by omega
    subst this
    unfold D_X7_init_w18
    rw [hg, Option.bind_some, ha, Option.bind_some, if_pos (Int32.le_refl _)]
  | succ c ih =>
    intro t f ht hf
    obtain ⟨f, rfl⟩ : ∃ g, f = g + 1 := ⟨f - 1, by omega⟩
    rw [← ih (t + 1) f (by omega) (by omega)]
    conv => lhs; unfold D_X7_init_w18
    rw [hg, Option.bind_some, ha, Option.bind_some, if_neg (nI_ge (a := t) (b := n) (by omega) (by omega)), Option.bind_some, nm_eq, bk_n (n := 2 + 13 * t) shC_len, b_field (s := bk s a (shC a n t)) (a := a + (2 + 13 * t)) (bk_n shC_len), Option.bind_some, bk_bn shC_len, nI_1]
    have hl : (shC a n t ++ fC (a + (2 + 13 * t))).length = 2 + 13 * t + 13 := by rw [List.length_append, shC_len]; rfl
    have e1 : (bk s a (shC a n t ++ fC (a + (2 + 13 * t)))).2 (a + 1) = some (.inr (.inl (n, shR a t))) := by
      rw [bk_at (by rw [hl]; omega)]
      rfl
    have e2 : isO (bk s a (shC a n t ++ fC (a + (2 + 13 * t)))) (a + (2 + 13 * t)) 2 = some () := by
      have q : (shC a n t ++ fC (a + (2 + 13 * t)))[2 + 13 * t]? = (fC (a + (2 + 13 * t)))[0]? := by
        rw [List.getElem?_append_right (by rw [shC_len]; omega), shC_len, Nat.sub_self]
      exact b_isO (q.trans rfl)
    have e3 : stR (bk s a (shC a n t ++ fC (a + (2 + 13 * t)))) (a + 1) (nI t) (a + (2 + 13 * t)) = some (bk s a (shC a n (t + 1))) := by
      unfold stR
      rw [e1, e2]
      dsimp only
      rw [nI_toInt (by omega), if_pos (by omega), nI_tn (by omega), bk_set (by rw [hl]; omega)]
      have : va_up (shR a t) t (some (a + (2 + 13 * t))) = shR a (t + 1) := by
        funext q
        unfold shR va_up
        by_cases c : q = t
        · rw [if_pos c, if_pos (by omega), c]
        · rw [if_neg c]
          dsimp only
          by_cases c2 : q < t
          · rw [if_pos c2, if_pos (by omega)]
          · rw [if_neg c2, if_neg (by omega)]
      rw [this]
      rfl
    rw [e3, Option.bind_some]
theorem b_shelf {n : Nat} (hn : n ≤ 7) (h : s.1 = a) : D_X7_init a (nI n) (newO s 7 [.null]) = some (bk s a (shC a n n)) := by
  rw [b_new h]
  unfold D_X7_init
  have e : (if nI n < (0 : Int32) then (0 : Int32) else nI n) = nI n := if_neg (nI_pos (by omega))
  have w := b_shelf_w18 (s := s) (a := a) hn (fun s25 => some s25) n 0 8 (by omega) (by omega)
  rw [b_isO0, Option.bind_some, nm_eq, e]
  unfold newR
  rw [nI_toInt (by omega), if_pos (by omega), Option.bind_some, nI_tn (by omega), bk_add, bk_n (n := 1) rfl]
  rw [List.singleton_append, b_put0 (by simp), Option.bind_some]
  exact w
end BS
