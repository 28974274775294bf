/-! signs packed into a long -/
def ub (l : Int64) : Nat := l.toUInt64.toNat
def byt (u k : Nat) : Nat := u / 256 ^ k % 256
theorem ub_lt (l : Int64) : ub l < 2 ^ 64 := l.toUInt64.toNat_lt
theorem and255 (x : Int64) : (x &&& 255).toInt = ((ub x % 256 : Nat) : Int) := by
  have e : (x &&& 255).toBitVec.toNat = ub x % 256 := by
    rw [Int64.toBitVec_and, BitVec.toNat_and]
    exact Nat.and_two_pow_sub_one_eq_mod (x.toBitVec.toNat) 8
  show (x &&& 255).toBitVec.toInt = _
  rw [BitVec.toInt_eq_toNat_of_lt (by rw [e]; have := Nat.mod_lt (ub x) (show 256 > 0 by omega); omega), e]
theorem and255_32 (x : Int64) : (x &&& 255).toInt32 = nI (ub x % 256) := by
  rw [pu_eq, nI_toInt (by have := Nat.mod_lt (ub x) (show 256 > 0 by omega); omega), Int64.toInt_toInt32, and255, Int.bmod_eq_of_le (by omega) (by omega)]
theorem to32_and (x : Int64) : x.toInt32 &&& 255 = nI (ub x % 256) := by
  have e : (x.toInt32 &&& 255).toBitVec.toNat = ub x % 256 := by
    rw [Int32.toBitVec_and, BitVec.toNat_and]
    have h : x.toInt32.toBitVec.toNat = ub x % 2 ^ 32 := by
      rw [Int64.toBitVec_toInt32, BitVec.signExtend_eq_setWidth_of_le _ (by omega), BitVec.toNat_setWidth]
      rfl
    rw [h]
    have := Nat.and_two_pow_sub_one_eq_mod (ub x % 2 ^ 32) 8
    rw [show ((255 : Int32).toBitVec.toNat) = 2 ^ 8 - 1 from rfl, this]
    omega
  rw [pu_eq, nI_toInt (by have := Nat.mod_lt (ub x) (show 256 > 0 by omega); omega)]
  show (x.toInt32 &&& 255).toBitVec.toInt = _
  rw [BitVec.toInt_eq_toNat_of_lt (by rw [e]; have := Nat.mod_lt (ub x) (show 256 > 0 by omega); omega), e]
theorem shr_ub (l : Int64) (s : UInt64) {k : Nat} (hk : k < 8) (hs : s.toNat = 8 * k) : ub (l.toUInt64 >>> s).toInt64 = ub l / 256 ^ k := by
  show (l.toUInt64 >>> s).toNat = _
  rw [UInt64.toNat_shiftRight, hs, Nat.mod_eq_of_lt (by omega), Nat.shiftRight_eq_div_pow, show (2 : Nat) ^ (8 * k) = 256 ^ k by rw [Nat.pow_mul]]
  rfl
theorem sh_k {k : Nat} (hk : k < 8) : ((nI k * (8 : Int32)).toInt64.toUInt64 &&& Int64.toUInt64 63).toNat = 8 * k := by
  match k, hk with
  | 0, _ => rfl
  | 1, _ => rfl
  | 2, _ => rfl
  | 3, _ => rfl
  | 4, _ => rfl
  | 5, _ => rfl
  | 6, _ => rfl
  | 7, _ => rfl
theorem sh_k' {k : Nat} (hk : k < 8) : (((8 : Int32) * nI k).toInt64.toUInt64 &&& Int64.toUInt64 63).toNat = 8 * k := by rw [Int32.mul_comm]; exact sh_k hk
theorem ub_0 (x : Int64) : x = 0 ↔ ub x = 0 := by
  constructor
  · intro h; rw [h]; rfl
  · intro h
    rw [pu_eq64]
    show x.toBitVec.toInt = _
    rw [BitVec.toInt_eq_toNat_of_lt (by show 2 * ub x < _; omega)]
    show ((ub x : Nat) : Int) = _
    rw [h]
    rfl
/-- k signs are packed in u -/
def good (u k : Nat) : Prop := 1 ≤ k ∧ k ≤ 8 ∧ (∀ i, i < k → 33 ≤ byt u i ∧ byt u i ≤ 126) ∧ u / 256 ^ k = 0
theorem byt_0 {u k : Nat} (h : u / 256 ^ k = 0) : byt u k = 0 := by unfold byt; rw [h]
theorem div_s {u k : Nat} : u / 256 ^ k / 256 = u / 256 ^ (k + 1) := by rw [Nat.div_div_eq_div_mul, Nat.pow_succ]
section PU
variable {σ : Hp} {m : Nat} {it : Nat → Int32} {ar : Nat → Nat → Int32}
theorem cmp255 {x : Int64} : (lg_cmp (x &&& 255) 0) = 0 ↔ ub x % 256 = 0 := by
  rw [lg_eq0, pu_eq64, and255]
  have e : (0 : Int64).toInt = 0 := rfl
  rw [e]
  omega
theorem shr8 {x : Int64} {u k : Nat} (h : ub x = u / 256 ^ k) : ub ((x).toUInt64 >>> (((8 : Int32)).toInt64.toUInt64 &&& Int64.toUInt64 63)).toInt64 = u / 256 ^ (k + 1) := by
  rw [shr_ub x _ (k := 1) (by omega) rfl, h, Nat.pow_one, div_s]
theorem m_w8 (l : Int64) (kx : Int32 → Int32 → Int64 → Hp → Option (Int32 × Hp)) : ∀ (c k f : Nat) (fl : Bool) (x : Int64), k + c = 8 → c < f → ub x = ub l / 256 ^ k → (∀ i, i < k → byt (ub l) i ≠ 0) → (fl = true ↔ ∀ i, i < k → 33 ≤ byt (ub l) i ∧ byt (ub l) i ≤ 126) → ∃ (k2 : Nat) (fl2 : Bool) (x2 : Int64), D_X10_put_w8 m l kx f (nI k) (bI fl) x (mh σ m it ar) = kx (nI k2) (bI fl2) x2 (mh σ m it ar) ∧ k2 ≤ 8 ∧ ub x2 = ub l / 256 ^ k2 ∧ (∀ i, i < k2 → byt (ub l) i ≠ 0) ∧ (fl2 = true ↔ ∀ i, i < k2 → 33 ≤ byt (ub l) i ∧ byt (ub l) i ≤ 126) ∧ (k2 = 8 ∨ byt (ub l) k2 = 0) := by
  intro c
  induction c with
  | zero =>
    intro k f fl x hk hf hx h0 hfl
    obtain ⟨f, rfl⟩ : ∃ g, f = g + 1 := ⟨f - 1, by omega⟩
    have : k = 8 := by omega
    subst this
    refine ⟨8, fl, x, ?_, by omega, hx, h0, hfl, Or.inl rfl⟩
    unfold D_X10_put_w8
    rw [if_pos (by decide)]
  | succ c ih =>
    intro k f fl x hk hf hx h0 hfl
    obtain ⟨f, rfl⟩ : ∃ g, f = g + 1 := ⟨f - 1, by omega⟩
    have hb : ub x % 256 = byt (ub l) k := by rw [hx]; rfl
    by_cases c0 : byt (ub l) k = 0
    · refine ⟨k, fl, x, ?_, by omega, hx, h0, hfl, Or.inr c0⟩
      unfold D_X10_put_w8
      rw [if_neg (show ¬ (8 : Int32) ≤ nI k from nI_ge (a := k) (b := 8) (by omega) (by omega)), if_pos (cmp255.2 (hb.trans c0))]
    · have h0' : ∀ i, i < k + 1 → byt (ub l) i ≠ 0 := fun i hi => by
        by_cases q : i = k
        · rw [q]; exact c0
        · exact h0 i (by omega)
      have hn : ¬ (lg_cmp (x &&& 255) 0) = 0 := fun q => c0 (hb ▸ cmp255.1 q)
      have step : ∀ fl' : Bool, D_X10_put_w8 m l kx (f + 1) (nI k) (bI fl) x (mh σ m it ar) = D_X10_put_w8 m l kx f (nI (k + 1)) (bI fl') ((x).toUInt64 >>> (((8 : Int32)).toInt64.toUInt64 &&& Int64.toUInt64 63)).toInt64 (mh σ m it ar) → (fl' = true ↔ ∀ i, i < k + 1 → 33 ≤ byt (ub l) i ∧ byt (ub l) i ≤ 126) → ∃ (k2 : Nat) (fl2 : Bool) (x2 : Int64), D_X10_put_w8 m l kx (f + 1) (nI k) (bI fl) x (mh σ m it ar) = kx (nI k2) (bI fl2) x2 (mh σ m it ar) ∧ k2 ≤ 8 ∧ ub x2 = ub l / 256 ^ k2 ∧ (∀ i, i < k2 → byt (ub l) i ≠ 0) ∧ (fl2 = true ↔ ∀ i, i < k2 → 33 ≤ byt (ub l) i ∧ byt (ub l) i ≤ 126) ∧ (k2 = 8 ∨ byt (ub l) k2 = 0) := by
        intro fl' e hfl'
        rw [e]
        exact ih (k + 1) f fl' _ (by omega) (by omega) (shr8 hx) h0' hfl'
      have a33 : (33 : Int64).toInt = 33 := rfl
      have a126 : (126 : Int64).toInt = 126 := rfl
      cases fl with
      | false =>
        refine step false ?_ ⟨fun q => absurd q (by simp), fun q => absurd (hfl.2 (fun i hi => q i (by omega))) (by simp)⟩
        conv => lhs; unfold D_X10_put_w8
        rw [if_neg (show ¬ (8 : Int32) ≤ nI k from nI_ge (a := k) (b := 8) (by omega) (by omega)), if_neg hn, if_pos (show bI false = 0 from rfl)]
        unfold D_X10_put_b52 D_X10_put_b53
        rw [nm_eq, nI_1]
        rfl
      | true =>
        by_cases cr : 33 ≤ byt (ub l) k ∧ byt (ub l) k ≤ 126
        · refine step true ?_ ⟨fun _ i hi => ?_, fun _ => rfl⟩
          · conv => lhs; unfold D_X10_put_w8
            rw [if_neg (show ¬ (8 : Int32) ≤ nI k from nI_ge (a := k) (b := 8) (by omega) (by omega)), if_neg hn, if_neg (by decide), isIn_eq, bd_some, and255, hb, if_pos (show (33 : Int64).toInt ≤ ((byt (ub l) k : Nat) : Int) ∧ ((byt (ub l) k : Nat) : Int) ≤ (126 : Int64).toInt by rw [a33, a126]; omega), if_neg (by decide)]
            unfold D_X10_put_b53
            rw [nm_eq, nI_1]
            rfl
          · by_cases q : i = k
            · rw [q]; exact cr
            · exact hfl.1 rfl i (by omega)
        · refine step false ?_ ⟨fun q => absurd q (by simp), fun q => absurd (q k (by omega)) cr⟩
          conv => lhs; unfold D_X10_put_w8
          rw [if_neg (show ¬ (8 : Int32) ≤ nI k from nI_ge (a := k) (b := 8) (by omega) (by omega)), if_neg hn, if_neg (by decide), isIn_eq, bd_some, and255, hb, if_neg (show ¬ ((33 : Int64).toInt ≤ ((byt (ub l) k : Nat) : Int) ∧ ((byt (ub l) k : Nat) : Int) ≤ (126 : Int64).toInt) by rw [a33, a126]; omega), if_pos rfl]
          unfold D_X10_put_b52 D_X10_put_b53
          rw [nm_eq, nI_1]
          rfl
def putF (u k pl : Nat) (p : Nat → Int32) : Nat → Int32 := fun i => if pl ≤ i ∧ i < pl + k then nI (byt u (k - 1 - (i - pl))) else p i
theorem m_w106 (l : Int64) (kx : Hp → Option (Int32 × Hp)) {k pl : Nat} (hk : k ≤ 8) (hp : pl + k ≤ 80) : ∀ (c f : Nat) (it : Nat → Int32) (ar : Nat → Nat → Int32), c ≤ k → c < f → it 12 = nI (pl + (k - c)) → ∃ it' ar', D_X10_put_w106 m l kx f (nI c - 1) (mh σ m it ar) = kx (mh σ m it' ar') ∧ it' 12 = nI (pl + k) ∧ (∀ j, j ≠ 12 → it' j = it j) ∧ (∀ j, j ≠ 11 → ar' j = ar j) ∧ (∀ i, i < pl + (k - c) → ar' 11 i = ar 11 i) ∧ ∀ i, pl + (k - c) ≤ i → i < pl + k → ar' 11 i = nI (byt (ub l) (k - 1 - (i - pl))) := by
  intro c
  induction c with
  | zero =>
    intro f it ar hc hf h12
    obtain ⟨f, rfl⟩ : ∃ g, f = g + 1 := ⟨f - 1, by omega⟩
    refine ⟨it, ar, ?_, h12, fun _ _ => rfl, fun _ _ => rfl, fun _ _ => rfl, fun i h1 h2 => by omega⟩
    unfold D_X10_put_w106
    rw [if_pos (show nI 0 - 1 < 0 by decide)]
  | succ c ih =>
    intro f it ar hc hf h12
    obtain ⟨f, rfl⟩ : ∃ g, f = g + 1 := ⟨f - 1, by omega⟩
    have e1 : nI (c + 1) - 1 = nI c := by
      apply i_nI
      · have e : (1 : Int32).toInt = 1 := rfl
        rw [i_sub (by rw [nI_toInt (by omega)]; omega) (by rw [nI_toInt (by omega)]; omega), nI_toInt (by omega)]
        omega
      · omega
    have e2 : nI c + (-1) = nI c - 1 := by rw [Int32.sub_eq_add_neg]
    have ev : (((l).toUInt64 >>> ((((8 : Int32) * nI c)).toInt64.toUInt64 &&& Int64.toUInt64 63)).toInt64 &&& (255 : Int64)).toInt32 = nI (byt (ub l) c) := by
      rw [and255_32, shr_ub l _ (k := c) (by omega) (sh_k' (by omega))]
      rfl
    have e3 : pl + (k - (c + 1)) + 1 = pl + (k - c) := by omega
    generalize ha : va_up ar 11 (upd (ar 11) (pl + (k - (c + 1))) (nI (byt (ub l) c))) = a1
    obtain ⟨it', ar', g1, g2, g3, g4, g5, g6⟩ := ih f (upd it 12 (nI (pl + (k - c)))) a1 (by omega) (by omega) upd_eq
    have ea : a1 11 = upd (ar 11) (pl + (k - (c + 1))) (nI (byt (ub l) c)) := by rw [← ha, up_eq]
    refine ⟨it', ar', ?_, g2, fun j hj => (g3 j hj).trans (upd_ne hj), fun j hj => (g4 j hj).trans (by rw [← ha, up_ne hj]), fun i hi => ?_, fun i h1 h2 => ?_⟩
    · conv => lhs; unfold D_X10_put_w106
      rw [e1, if_neg (show ¬ nI c < 0 from nI_pos (by omega)), mh_r11, Option.bind_some, mh_i12, Option.bind_some, h12, ev, mh_st 11 (pl + (k - (c + 1))) _ (nI_toInt (by omega)) (by omega) (by omega) (by simp [msz]; omega), Option.bind_some, mh_i12, Option.bind_some, h12, mh_p12, Option.bind_some, nI_1, e3, ha, e2, g1]
    · rw [g5 i (by omega), ea, upd_ne (by omega)]
    · by_cases q : i = pl + (k - (c + 1))
      · rw [g5 i (by omega), ea, q, upd_eq]
        congr 2
        omega
      · exact g6 i (by omega) h2
theorem good_of {u k2 : Nat} (h8 : k2 ≤ 8) (h0 : ∀ i, i < k2 → byt u i ≠ 0) {k : Nat} (hg : good u k) (he : k2 = 8 ∨ byt u k2 = 0) : k2 = k := by
  rcases Nat.lt_trichotomy k2 k with q | q | q
  · rcases he with w | w
    · have := hg.2.1; omega
    · have := (hg.2.2.1 k2 q).1; omega
  · exact q
  · exact absurd (byt_0 hg.2.2.2) (h0 k q)
variable {A : Nat → Int32} {H : List (Nat → Int32)} {S : SLT} {p : Nat → Int32} {pl : Nat}
/-- put, as the reference does it -/
theorem m_put (l : Int64) : ∃ (k2 : Nat) (fl2 : Bool) (x2 : Int64), D_X10_put m l (mh σ m it ar) = D_X10_put_b68 m l (nI k2) (bI fl2) x2 (mh σ m it ar) ∧ k2 ≤ 8 ∧ ub x2 = ub l / 256 ^ k2 ∧ (∀ i, i < k2 → byt (ub l) i ≠ 0) ∧ (fl2 = true ↔ ∀ i, i < k2 → 33 ≤ byt (ub l) i ∧ byt (ub l) i ≤ 126) ∧ (k2 = 8 ∨ byt (ub l) k2 = 0) := by
  obtain ⟨k2, fl2, x2, g1, g2⟩ := m_w8 (σ := σ) (m := m) (it := it) (ar := ar) l (fun i45 i46 l47 s44 =>
  D_X10_put_b68 m l i45 i46 l47 s44
  ) 8 0 FU true l (by omega) (by rw [FU_eq]; omega) (by rw [Nat.pow_zero, Nat.div_one]) (fun i hi => by omega) ⟨fun _ i hi => by omega, fun _ => rfl⟩
  refine ⟨k2, fl2, x2, ?_, g2⟩
  unfold D_X10_put
  rw [mh_isO, Option.bind_some]
  exact g1
theorem M_putN (l : Int64) (hn : ∀ k, ¬ good (ub l) k) : D_X10_put m l (mh σ m it ar) = some (-2, mh σ m it ar) := by
  obtain ⟨k, fl, x, g1, g2, g3, g4, g5, g6⟩ := m_put (σ := σ) (m := m) (it := it) (ar := ar) l
  rw [g1]
  unfold D_X10_put_b68
  by_cases c0 : nI k = 0
  · rw [if_pos c0]
  · rw [if_neg c0]
    by_cases c1 : lg_cmp x 0 = 0
    · rw [if_pos c1]
      cases fl with
      | false => rw [if_pos (show bI false = 0 from rfl)]
      | true =>
        refine absurd ?_ (hn k)
        rw [lg_eq0, ub_0, g3] at c1
        refine ⟨?_, g2, g5.1 rfl, c1⟩
        rcases Nat.eq_zero_or_pos k with q | q
        · rw [q] at c0; exact absurd rfl c0
        · exact q
    · rw [if_neg c1]
theorem M_put (l : Int64) {k : Nat} (hg : good (ub l) k) (h : MI it ar A H S p pl) : ∃ it' ar', D_X10_put m l (mh σ m it ar) = some (if pl + k ≤ 80 then nI (pl + k) else -4, mh σ m it' ar') ∧ if pl + k ≤ 80 then MI it' ar' A H S (putF (ub l) k pl p) (pl + k) else MI it' ar' A H S p pl := by
  obtain ⟨k2, fl, x, g1, g2, g3, g4, g5, g6⟩ := m_put (σ := σ) (m := m) (it := it) (ar := ar) l
  have ek := good_of g2 g4 hg g6
  subst ek
  have hf : fl = true := g5.2 hg.2.2.1
  subst hf
  obtain ⟨h1, h8, hr, hz⟩ := hg
  have hpl := h.2.2.2.1.2
  rw [g1]
  unfold D_X10_put_b68
  rw [if_neg (fun q => by rw [pu_eq, nI_toInt (by omega)] at q; have e : (0 : Int32).toInt = 0 := rfl; omega), if_pos (by rw [lg_eq0, ub_0, g3]; exact hz), if_neg (by decide), mh_i12, Option.bind_some, h.2.2.2.1.1, nI_add]
  by_cases c : pl + k2 ≤ 80
  · rw [if_pos c, if_pos (show nI (pl + k2) ≤ 80 by rw [pu_le, nI_toInt (by omega)]; have e : (80 : Int32).toInt = 80 := rfl; omega), nm_eq]
    obtain ⟨it', ar', w1, w2, w3, w4, w5, w6⟩ := m_w106 (σ := σ) (m := m) l (fun s67 =>
      (getI s67 m 9 12).bind fun i68 =>
      some (i68, s67)
      ) (k := k2) (pl := pl) h8 c k2 FU it ar (Nat.le_refl _) (by rw [FU_eq]; omega) (by rw [Nat.sub_self]; exact h.2.2.2.1.1)
    refine ⟨it', ar', ?_, ?_⟩
    · rw [w1, mh_i12, Option.bind_some, w2]
    · rw [if_pos c]
      rw [Nat.sub_self, Nat.add_zero] at w5 w6
      refine ⟨(w4 1 (by omega)).trans h.1, h.2.1.of_eq (w3 4 (by omega)) (w4 4 (by omega)), h.2.2.1.of_eq (w4 5 (by omega)) (w4 6 (by omega)), ⟨w2, c⟩, fun i hi => ?_⟩
      unfold putF
      by_cases q : pl ≤ i ∧ i < pl + k2
      · rw [if_pos q]; exact w6 i q.1 q.2
      · rw [if_neg q, w5 i (by omega)]
        exact h.2.2.2.2 i (by omega)
  · rw [if_neg c, if_neg (show ¬ nI (pl + k2) ≤ 80 by rw [pu_le, nI_toInt (by omega)]; have e : (80 : Int32).toInt = 80 := rfl; omega)]
    exact ⟨it, ar, rfl, by rw [if_neg c]; exact h⟩
end PU
