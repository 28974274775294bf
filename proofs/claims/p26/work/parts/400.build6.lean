section BM
variable {s : Hp} {a x : Nat} {cs : List HC}
def hC (a : Nat) : List HC := .inr (.inr (3, [.ref (a + 1), .int 0, .int 0])) :: shC (a + 1) 7 7
theorem b_hist (h : s.1 = a) : D_X3_init a (newO s 3 [.null, .int 0, .int 0]) = some (bk s a (hC a)) := by
  rw [b_new h]
  unfold D_X3_init putI
  rw [b_isO0, Option.bind_some, nm_eq, bk_n (n := 1) rfl, show (7 : Int32) = nI 7 from rfl, b_shelf (s := bk s a _) (a := a + 1) (by omega) rfl, Option.bind_some, bk_bn (n := 1) rfl]
  rw [List.singleton_append, b_put0 (by simp), Option.bind_some, b_put0 (by simp), Option.bind_some, b_put0 (by simp), Option.bind_some]
  rfl
def mC (x : Nat) : List HC := .inr (.inr (8, [.ref (x + 1), .ref (x + 14), .ref (x + 25), .ref (x + 50), .ref (x + 53), .ref (x + 62), .ref (x + 156), .int 0])) :: (fC (x + 1) ++ lC (x + 14) (x + 1) ++ aC (x + 25) (x + 1) ++ pC (x + 50) ++ rC (x + 53) (x + 50) ++ hC (x + 62) ++ shC (x + 156) 2 2)
theorem b_main (h : s.1 = x) : D_X9_init x (newO s 8 [.null, .null, .null, .null, .null, .null, .null, .int 0]) = some (bk s x (mC x)) := by
  rw [b_new h]
  unfold D_X9_init putI
  rw [b_isO0, Option.bind_some, nm_eq, bk_n (n := 1) rfl, b_field (s := bk s x _) (a := x + 1) rfl, Option.bind_some, bk_bn (n := 1) rfl, List.singleton_append, b_put0 (by simp), Option.bind_some,
    nm_eq, b_getN (r := x + 1) rfl, Option.bind_some, bk_n (n := 14) rfl, b_light (s := bk s x _) (a := x + 14) rfl, Option.bind_some, bk_bn (n := 14) rfl, List.cons_append, b_put0 (by simp), Option.bind_some,
    nm_eq, b_getN (r := x + 1) rfl, Option.bind_some, bk_n (n := 25) rfl, b_advice (s := bk s x _) (a := x + 25) rfl, Option.bind_some, bk_bn (n := 25) rfl, List.cons_append, b_put0 (by simp), Option.bind_some,
    nm_eq, bk_n (n := 50) rfl, b_pad (s := bk s x _) (a := x + 50) rfl, Option.bind_some, bk_bn (n := 50) rfl, List.cons_append, b_put0 (by simp), Option.bind_some,
    nm_eq, b_getN (r := x + 50) rfl, Option.bind_some, bk_n (n := 53) rfl, b_reader (s := bk s x _) (a := x + 53) rfl, Option.bind_some, bk_bn (n := 53) rfl, List.cons_append, b_put0 (by simp), Option.bind_some,
    nm_eq, bk_n (n := 62) rfl, b_hist (s := bk s x _) (a := x + 62) rfl, Option.bind_some, bk_bn (n := 62) rfl, List.cons_append, b_put0 (by simp), Option.bind_some,
    nm_eq, bk_n (n := 156) rfl, show (2 : Int32) = nI 2 from rfl, b_shelf (s := bk s x _) (a := x + 156) (by omega) rfl, Option.bind_some, bk_bn (n := 156) rfl, List.cons_append, b_put0 (by simp), Option.bind_some, b_put0 (by simp), Option.bind_some]
  rfl
end BM
