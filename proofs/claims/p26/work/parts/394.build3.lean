section BL
variable {s : Hp} {a : Nat} {cs : List HC}
theorem b_new (h : s.1 = a) (c : Nat) (fs : List Value) : newO s c fs = bk s a [.inr (.inr (c, fs))] := by
  unfold newO
  have := bk_add (s := s) (a := a) (cs := []) (.inr (.inr (c, fs)))
  rw [bk_nil h] at this
  exact this
def lC (a r : Nat) : List HC := [.inr (.inr (4, [.ref r, .ref (a + 1), .ref (a + 3), .ref (a + 5), .ref (a + 7), .ref (a + 9), .int 0, .int 0])), .inr (.inr (1, [.ref (a + 2)])), .inl (400, fun _ => 0), .inr (.inr (1, [.ref (a + 4)])), .inl (275, fun _ => 0), .inr (.inr (1, [.ref (a + 6)])), .inl (25, fun _ => 0), .inr (.inr (1, [.ref (a + 8)])), .inl (25, fun _ => 0), .inr (.inr (1, [.ref (a + 10)])), .inl (4, fun _ => 0)]
theorem b_light (h : s.1 = a) (r : Nat) : D_X4_init a r (newO s 4 [.null, .null, .null, .null, .null, .null, .int 0, .int 0]) = some (bk s a (lC a r)) := by
  rw [b_new h]
  unfold D_X4_init putI
  rw [b_isO0, Option.bind_some, nm_eq, bk_n (n := 1) rfl, show (400 : Int32) = nI 400 from rfl, b_cells0 1 rfl (by omega), Option.bind_some, b_put0 (by simp), Option.bind_some,
    nm_eq, bk_n (n := 3) rfl, show (275 : Int32) = nI 275 from rfl, b_cells0 3 rfl (by omega), Option.bind_some, b_put0 (by simp), Option.bind_some,
    nm_eq, bk_n (n := 5) rfl, show (25 : Int32) = nI 25 from rfl, b_cells0 5 rfl (by omega), Option.bind_some, b_put0 (by simp), Option.bind_some,
    nm_eq, bk_n (n := 7) rfl, b_cells0 7 rfl (by omega), Option.bind_some, b_put0 (by simp), Option.bind_some,
    nm_eq, bk_n (n := 9) rfl, show (4 : Int32) = nI 4 from rfl, b_cells0 9 rfl (by omega), Option.bind_some, b_put0 (by simp), Option.bind_some,
    b_put0 (by simp), Option.bind_some, b_put0 (by simp), Option.bind_some, b_put0 (by simp), Option.bind_some]
  rfl
def pC (a : Nat) : List HC := [.inr (.inr (5, [.ref (a + 1), .int 0])), .inr (.inr (1, [.ref (a + 2)])), .inl (80, fun _ => 0)]
theorem b_pad (h : s.1 = a) : D_X5_init a (newO s 5 [.null, .int 0]) = some (bk s a (pC a)) := by
  rw [b_new h]
  unfold D_X5_init putI
  rw [b_isO0, Option.bind_some, nm_eq, bk_n (n := 1) rfl, show (80 : Int32) = nI 80 from rfl, b_cells0 1 rfl (by omega), Option.bind_some, b_put0 (by simp), Option.bind_some, b_put0 (by simp), Option.bind_some]
  rfl
def rC (a r : Nat) : List HC := [.inr (.inr (6, [.ref r, .ref (a + 1), .ref (a + 3), .ref (a + 5), .ref (a + 7), .int 0, .int 0, .int 0])), .inr (.inr (1, [.ref (a + 2)])), .inl (80, fun _ => 0), .inr (.inr (1, [.ref (a + 4)])), .inl (80, fun _ => 0), .inr (.inr (1, [.ref (a + 6)])), .inl (80, fun _ => 0), .inr (.inr (1, [.ref (a + 8)])), .inl (80, fun _ => 0)]
theorem b_reader (h : s.1 = a) (r : Nat) : D_X6_init a r (newO s 6 [.null, .null, .null, .null, .null, .int 0, .int 0, .int 0]) = some (bk s a (rC a r)) := by
  rw [b_new h]
  unfold D_X6_init putI putZ
  rw [b_isO0, Option.bind_some, nm_eq, bk_n (n := 1) rfl, show (80 : Int32) = nI 80 from rfl, b_cells0 1 rfl (by omega), Option.bind_some, b_put0 (by simp), Option.bind_some,
    nm_eq, bk_n (n := 3) rfl, b_cells0 3 rfl (by omega), Option.bind_some, b_put0 (by simp), Option.bind_some,
    nm_eq, bk_n (n := 5) rfl, b_cells0 5 rfl (by omega), Option.bind_some, b_put0 (by simp), Option.bind_some,
    nm_eq, bk_n (n := 7) rfl, b_cells0 7 rfl (by omega), Option.bind_some, b_put0 (by simp), Option.bind_some,
    b_put0 (by simp), Option.bind_some, b_put0 (by simp), Option.bind_some, if_pos (by decide), b_put0 (by simp), Option.bind_some, b_put0 (by simp), Option.bind_some]
  rfl
end BL
