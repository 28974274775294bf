section BF
variable {s : Hp} {a : Nat} {cs : List HC}
theorem b_isO0 {c : Nat} {fs : List Value} : isO (bk s a (.inr (.inr (c, fs)) :: cs)) a c = some () := b_isO (a := a) (j := 0) (fs := fs) rfl
theorem b_put0 {c k : Nat} {fs : List Value} (hk : k < fs.length) (v : Value) : putV (bk s a (.inr (.inr (c, fs)) :: cs)) a c k v = some (bk s a (.inr (.inr (c, fs.set k v)) :: cs)) := b_putV (a := a) (j := 0) (cs := .inr (.inr (c, fs)) :: cs) rfl hk v
theorem b_get0 {c k : Nat} {fs : List Value} {r : Nat} (hk : fs[k]? = some (.ref r)) : getR (bk s a (.inr (.inr (c, fs)) :: cs)) a c k = some r := b_getR (a := a) (j := 0) (cs := .inr (.inr (c, fs)) :: cs) rfl hk
theorem bk_n {n : Nat} (hn : cs.length = n) : (bk s a cs).1 = a + n := by rw [← hn]; rfl
theorem b_cells0 {o : HC} {k : Nat} (n : Nat) (hn : (o :: cs).length = n) (hk : k ≤ 800) : D_X1_init (a + n) (nI k) (newO (bk s a (o :: cs)) 1 [.null]) = some (bk s a (o :: (cs ++ [.inr (.inr (1, [.ref (a + n + 1)])), .inl (k, fun _ => 0)]))) := by
  rw [← hn]
  exact b_cells hk
theorem b_write {j k i : Nat} {f : Nat → Int32} (h1 : cs[j]? = some (.inr (.inr (1, [.ref (a + j + 1)])))) (h2 : cs[j + 1]? = some (.inl (k, f))) (hi : i < k) (hk : k ≤ 800) (v : Int32) : D_X1_write (a + j) (nI i) v (bk s a cs) = some (bk s a (cs.set (j + 1) (.inl (k, upd f i v)))) := by
  have hl : j + 1 < cs.length := by
    rcases Nat.lt_or_ge (j + 1) cs.length with q | q
    · exact q
    · rw [List.getElem?_eq_none q] at h2; cases h2
  have hr : (bk s a cs).2 (a + j + 1) = some (.inl (k, f)) := by
    rw [show a + j + 1 = a + (j + 1) by omega, bk_at hl, h2]
  have hg : getR (bk s a cs) (a + j) 1 0 = some (a + j + 1) := b_getR h1 rfl
  have ha : alen (bk s a cs) (a + j + 1) = some (nI k) := by unfold alen; rw [hr]; rfl
  have hs : stI (bk s a cs) (a + j + 1) (nI i) v = some (bk s a (cs.set (j + 1) (.inl (k, upd f i v)))) := by
    unfold stI
    rw [hr]
    dsimp only
    rw [nI_toInt (by omega), if_pos (by omega), nI_tn (by omega), show a + j + 1 = a + (j + 1) by omega, bk_set hl]
  unfold D_X1_write
  rw [b_isO h1, Option.bind_some, if_neg (nI_nn (by omega)), hg, Option.bind_some, ha, Option.bind_some, if_neg (nI_ge (a := i) (b := k) hi (by omega)), Option.bind_some, hs, Option.bind_some]
def fCs (a : Nat) (f : Nat → Int32) : List HC := [.inr (.inr (2, [.ref (a + 1), .ref (a + 3), .ref (a + 5), .ref (a + 7), .ref (a + 9), .ref (a + 11), .int 0, .int 0, .int 0, .int 0])), .inr (.inr (1, [.ref (a + 2)])), .inl (3, f), .inr (.inr (1, [.ref (a + 4)])), .inl (25, fun _ => 0), .inr (.inr (1, [.ref (a + 6)])), .inl (25, fun _ => 0), .inr (.inr (1, [.ref (a + 8)])), .inl (25, fun _ => 0), .inr (.inr (1, [.ref (a + 10)])), .inl (25, fun _ => 0), .inr (.inr (1, [.ref (a + 12)])), .inl (25, fun _ => 0)]
def fC (a : Nat) : List HC := fCs a (upd (upd (upd (fun _ => 0) 0 400) 1 50) 2 2)
theorem b_field (h : s.1 = a) : D_X2_init a (newO s 2 [.null, .null, .null, .null, .null, .null, .int 0, .int 0, .int 0, .int 0]) = some (bk s a (fC a)) := by
  have e0 : newO s 2 [.null, .null, .null, .null, .null, .null, .int 0, .int 0, .int 0, .int 0] = bk s a [.inr (.inr (2, [.null, .null, .null, .null, .null, .null, .int 0, .int 0, .int 0, .int 0]))] := by
    unfold newO
    have := bk_add (s := s) (a := a) (cs := []) (.inr (.inr (2, [.null, .null, .null, .null, .null, .null, .int 0, .int 0, .int 0, .int 0])))
    rw [bk_nil h] at this
    exact this
  rw [e0]
  unfold D_X2_init putI
  rw [b_isO0, Option.bind_some, nm_eq, bk_n (n := 1) rfl, show (3 : Int32) = nI 3 from rfl, b_cells0 1 rfl (by omega), Option.bind_some, b_put0 (by simp), Option.bind_some,
    nm_eq, bk_n (n := 3) rfl, show (25 : Int32) = nI 25 from rfl, b_cells0 3 rfl (by omega), Option.bind_some, b_put0 (by simp), Option.bind_some,
    nm_eq, bk_n (n := 5) rfl, b_cells0 5 rfl (by omega), Option.bind_some, b_put0 (by simp), Option.bind_some,
    nm_eq, bk_n (n := 7) rfl, b_cells0 7 rfl (by omega), Option.bind_some, b_put0 (by simp), Option.bind_some,
    nm_eq, bk_n (n := 9) rfl, b_cells0 9 rfl (by omega), Option.bind_some, b_put0 (by simp), Option.bind_some,
    nm_eq, bk_n (n := 11) rfl, b_cells0 11 rfl (by omega), Option.bind_some, b_put0 (by simp), Option.bind_some,
    b_put0 (by simp), Option.bind_some, b_put0 (by simp), Option.bind_some, b_put0 (by simp), Option.bind_some, b_put0 (by simp), Option.bind_some]
  have g : ∀ f, getR (bk s a (fCs a f)) a 2 0 = some (a + 1) := fun f => b_getR (a := a) (j := 0) rfl rfl
  have w : ∀ f (i : Nat) (v : Int32), i < 3 → D_X1_write (a + 1) (nI i) v (bk s a (fCs a f)) = some (bk s a (fCs a (upd f i v))) := fun f i v hi => b_write (j := 1) (k := 3) (f := f) rfl rfl hi (by omega) v
  show ((getR (bk s a (fCs a (fun _ => 0))) a 2 0).bind fun a33 =>
  (D_X1_write a33 (0 : Int32) (400 : Int32) (bk s a (fCs a (fun _ => 0)))).bind fun s34 =>
  (getR s34 a 2 0).bind fun a35 =>
  (D_X1_write a35 (1 : Int32) (50 : Int32) s34).bind fun s36 =>
  (getR s36 a 2 0).bind fun a37 =>
  (D_X1_write a37 (2 : Int32) (2 : Int32) s36).bind fun s38 =>
  some s38) = _
  rw [g, Option.bind_some, show (0 : Int32) = nI 0 from rfl, w _ 0 _ (by omega), Option.bind_some, g, Option.bind_some, show (1 : Int32) = nI 1 from rfl, w _ 1 _ (by omega), Option.bind_some, g, Option.bind_some, show D_X1_write (a + 1) 2 2 = D_X1_write (a + 1) (nI 2) 2 from rfl, w _ 2 _ (by omega), Option.bind_some]
  rfl
end BF
