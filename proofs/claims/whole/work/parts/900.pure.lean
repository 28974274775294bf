/-! the law's function ends with 1, whatever the script says -/
theorem sm_pure (o L : Nat) (xs : Nat → Int32) (hL : L ≤ 2048) : OK jI (D_L_law L xs (o, fun _ => none)) sm_PL := by
  have h1 := b_main (s := (o, fun _ => none)) (x := o) rfl
  have h2 := b_model (s := xh (o + 184, fun _ => none) o ci0 cz0) (m := o + 184) rfl
  rw [b_xh] at h1
  have e0 : upd (upd (upd (fun _ => 0) 0 400) 1 50) 2 2 = ar0 1 := rfl
  rw [e0, b_mh] at h2
  have hI : Inv o (o + 184) (mh (o + 184 + 12, (xh (o + 184, fun _ => none) o ci0 cz0).2) (o + 184) (fun _ => 0) ar0) := ⟨(o + 184 + 12, fun _ => none), ci0, cz0, fun _ => 0, ar0, ar0 1, 0, [], fun _ => none, fun _ => 0, 0, (comm (σ := (o + 184 + 12, fun _ => none)) (Nat.le_refl _)).symm, XI0, MI0⟩
  obtain ⟨s', w⟩ := law_loop (xs := xs) hL (Nat.le_refl _) 512 0 FU _ (by omega) (by rw [FU_eq]; omega) (by omega) hI
  refine ⟨(1, s'), ?_, rfl⟩
  rw [show nI 0 = (0 : Int32) from rfl] at w
  unfold D_L_law
  rw [nm_eq, h1, Option.bind_some, nm_eq, show (xh (o + 184, fun _ => none) o ci0 cz0).1 = o + 184 from rfl, h2, Option.bind_some]
  exact w
