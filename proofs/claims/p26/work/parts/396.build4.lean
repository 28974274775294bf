section BA
variable {s : Hp} {a : Nat} {cs : List HC}
theorem bk_bn {ds : List HC} {n : Nat} (hn : cs.length = n) : bk (bk s a cs) (a + n) ds = bk s a (cs ++ ds) := by
  rw [← hn]; exact bk_blk
theorem b_getN {c k c' : Nat} {fs fs' : List Value} {r : Nat} (hk : fs[k]? = some (.ref r)) : getR (newO (bk s a (.inr (.inr (c, fs)) :: cs)) c' fs') a c k = some r := by
  unfold newO
  rw [bk_add]
  exact b_get0 (cs := cs ++ [_]) hk
def aC (a r : Nat) : List HC := .inr (.inr (0, [.ref r, .ref (a + 1), .ref (a + 14), .int (-6), .int (-6)])) :: (fC (a + 1) ++ lC (a + 14) (a + 1))
theorem b_advice (h : s.1 = a) (r : Nat) : D_X0_init a r (newO s 0 [.null, .null, .null, .int 0, .int 0]) = some (bk s a (aC a r)) := by
  rw [b_new h]
  unfold D_X0_init putI
  rw [b_isO0, Option.bind_some, nm_eq, bk_n (n := 1) rfl, b_field (s := bk s a _) (a := a + 1) rfl, Option.bind_some, bk_bn (n := 1) rfl]
  rw [show ([.inr (.inr (0, [Value.null, .null, .null, .int 0, .int 0]))] ++ fC (a + 1) : List HC) = .inr (.inr (0, [Value.null, .null, .null, .int 0, .int 0])) :: fC (a + 1) from rfl]
  rw [b_put0 (by simp), Option.bind_some, nm_eq, b_getN (r := a + 1) rfl, Option.bind_some, bk_n (n := 14) rfl, b_light (s := bk s a _) (a := a + 14) rfl, Option.bind_some, bk_bn (n := 14) rfl]
  rw [List.cons_append, b_put0 (by simp), Option.bind_some, b_put0 (by simp), Option.bind_some, b_put0 (by simp), Option.bind_some, b_put0 (by simp), Option.bind_some]
  rfl
end BA
