theorem sm_pure (o L : Nat) (xs : Nat → Int32) (hL : L ≤ 2048) : OK jI (D_L_law L xs (o, fun _ => none)) sm_PL := sorry
