/-! both objects stand -/
section BZ
variable {s : Hp} {a x m : Nat} {cs : List HC}
theorem b_xh : bk s x (mC x) = xh (x + 184, s.2) x ci0 cz0 := by
  rw [mC_eq]
  unfold bk xh
  rw [List.length_map, List.length_range]
  congr 1
  funext q
  dsimp only
  by_cases c : x ≤ q ∧ q < x + 184
  · rw [if_pos c, if_pos c, List.getElem?_map, List.getElem?_range (by omega)]
    rfl
  · rw [if_neg c, if_neg c]
theorem b_newI {o : HC} {k : Nat} (hk : k ≤ 800) : newI (bk s a (o :: cs)) (nI k) = some (bk s a (o :: (cs ++ [.inl (k, fun _ => 0)]))) := by
  unfold newI
  rw [nI_toInt (by omega), if_pos (by omega), bk_add, nI_tn (by omega), List.cons_append]
def ar0 (j : Nat) : Nat → Int32 := if j = 1 then upd (upd (upd (fun _ => 0) 0 400) 1 50) 2 2 else fun _ => 0
def mfs (m : Nat) : List Value := [.ref (m + 1), .ref (m + 2), .ref (m + 3), .ref (m + 4), .int 0, .ref (m + 5), .ref (m + 6), .ref (m + 7), .ref (m + 8), .ref (m + 9), .ref (m + 10), .ref (m + 11), .int 0, .int 0, .int 0, .int 0, .int 0]
def mCs (m : Nat) (f : Nat → Int32) : List HC := [.inr (.inr (9, mfs m)), .inl (132, f), .inl (132, fun _ => 0), .inl (132, fun _ => 0), .inl (792, fun _ => 0), .inl (264, fun _ => 0), .inl (2, fun _ => 0), .inl (25, fun _ => 0), .inl (25, fun _ => 0), .inl (4, fun _ => 0), .inl (25, fun _ => 0), .inl (80, fun _ => 0)]
theorem b_st {f : Nat → Int32} {i : Nat} (hi : i < 132) (v : Int32) : stI (bk s m (mCs m f)) (m + 1) (nI i) v = some (bk s m (mCs m (upd f i v))) := by
  have hl : 1 < (mCs m f).length := show 1 < 12 by omega
  unfold stI
  rw [bk_at hl, show (mCs m f)[1]? = some (.inl (132, f)) from rfl]
  dsimp only
  rw [nI_toInt (by omega), if_pos (by omega), nI_tn (by omega), bk_set hl]
  rfl
theorem b_model (h : s.1 = m) : D_X10_init m (newO s 9 [.null, .null, .null, .null, .int 0, .null, .null, .null, .null, .null, .null, .null, .int 0, .int 0, .int 0, .int 0, .int 0]) = some (bk s m (mCs m (upd (upd (upd (fun _ => 0) 0 400) 1 50) 2 2))) := by
  rw [b_new h]
  have g : ∀ f, getR (bk s m (mCs m f)) m 9 0 = some (m + 1) := fun f => b_get0 rfl
  unfold D_X10_init
  rw [b_isO0, Option.bind_some, show (132 : Int32) = nI 132 from rfl, b_newI (by omega), Option.bind_some, bk_n (n := 1) rfl, b_put0 (by simp), Option.bind_some,
    b_newI (by omega), Option.bind_some, bk_n (n := 2) rfl, b_put0 (by simp), Option.bind_some,
    b_newI (by omega), Option.bind_some, bk_n (n := 3) rfl, b_put0 (by simp), Option.bind_some,
    show (792 : Int32) = nI 792 from rfl, b_newI (by omega), Option.bind_some, bk_n (n := 4) rfl, b_put0 (by simp), Option.bind_some,
    show (264 : Int32) = nI 264 from rfl, b_newI (by omega), Option.bind_some, bk_n (n := 5) rfl, b_put0 (by simp), Option.bind_some,
    show (2 : Int32) = nI 2 from rfl, b_newI (by omega), Option.bind_some, bk_n (n := 6) rfl, b_put0 (by simp), Option.bind_some,
    show (25 : Int32) = nI 25 from rfl, b_newI (by omega), Option.bind_some, bk_n (n := 7) rfl, b_put0 (by simp), Option.bind_some,
    b_newI (by omega), Option.bind_some, bk_n (n := 8) rfl, b_put0 (by simp), Option.bind_some,
    show (4 : Int32) = nI 4 from rfl, b_newI (by omega), Option.bind_some, bk_n (n := 9) rfl, b_put0 (by simp), Option.bind_some,
    b_newI (by omega), Option.bind_some, bk_n (n := 10) rfl, b_put0 (by simp), Option.bind_some,
    show (80 : Int32) = nI 80 from rfl, b_newI (by omega), Option.bind_some, bk_n (n := 11) rfl, b_put0 (by simp), Option.bind_some]
  show ((getR (bk s m (mCs m (fun _ => 0))) m 9 0).bind fun a33 =>
  (stI (bk s m (mCs m (fun _ => 0))) a33 (nI 0) (400 : Int32)).bind fun s34 =>
  (getR s34 m 9 0).bind fun a35 =>
  (stI s34 a35 (nI 1) (50 : Int32)).bind fun s36 =>
  (getR s36 m 9 0).bind fun a37 =>
  (stI s36 a37 (nI 2) (nI 2)).bind fun s38 =>
  some s38) = _
  rw [g, Option.bind_some, b_st (by omega), Option.bind_some, g, Option.bind_some, b_st (by omega), Option.bind_some, g, Option.bind_some, b_st (by omega), Option.bind_some]
end BZ
