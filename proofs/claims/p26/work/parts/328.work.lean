theorem srt_nodup (g : Nat → Int32) : ∀ k, (srt g k).Nodup
  | 0 => List.nodup_nil
  | k + 1 => by
    have ins : ∀ (l : List Nat) (i : Nat), l.Nodup → i ∉ l → (insL g i l).Nodup := by
      intro l
      induction l with
      | nil => intro i _ _; exact List.nodup_cons.2 ⟨by simp, List.nodup_nil⟩
      | cons a l ih =>
        intro i hl hi
        unfold insL
        have hl' := List.nodup_cons.1 hl
        split
        · refine List.nodup_cons.2 ⟨fun q => ?_, ih i hl'.2 (fun q => hi (List.mem_cons_of_mem _ q))⟩
          rcases (insL_mem g i a l).1 q with e | e
          · exact hi (e ▸ List.mem_cons_self)
          · exact hl'.1 e
        · exact List.nodup_cons.2 ⟨hi, hl⟩
    unfold srt
    exact ins _ k (srt_nodup g k) (fun q => by have := (srt_mem g k k).1 q; omega)
section L3
variable {σ : Hp} {x : Nat} {ci cz : Nat → Nat → Int32} {F n : Nat} {A : Nat → Int32}
theorem c_pio_w2 (hL : LD F) {i : Nat} (hi : i < 25) (kx : Int32 → Hp → Option Hp) : ∀ (rest pre : List Nat) (ord : Nat → Int32) (f : Nat), rest.length < f → pre.length + rest.length = i → (∀ y, y ∈ rest → y < 25) → (∀ j y, pre[j]? = some y → ord (i - j) = nI y) → lay ord rest →
    ∃ (t : Nat) (ord' : Nat → Int32), t ≤ i ∧ D_X4_putInOrder_w2 (x + (F + 13)) (nI i) kx f (nI rest.length) (xh σ x (va_up ci (F + 13 + 7 + 1) ord) cz) = kx (nI t) (xh σ x (va_up ci (F + 13 + 7 + 1) ord') cz) ∧ lay (upd ord' t (nI i)) (pre ++ insL (ci (F + 13 + 5 + 1)) i rest) := by
  intro rest
  induction rest with
  | nil =>
    intro pre ord f hf hk hm hp hr
    obtain ⟨f, rfl⟩ : ∃ g, f = g + 1 := ⟨f - 1, by omega⟩
    refine ⟨0, ord, Nat.zero_le _, ?_, lay_stop hk hp hr⟩
    unfold D_X4_putInOrder_w2
    rw [if_pos (by rw [show ([] : List Nat).length = 0 from rfl]; decide)]
    rfl
  | cons a rest ih =>
    intro pre ord f hf hk hm hp hr
    have hlen : (a :: rest).length = rest.length + 1 := rfl
    have ha := lay_head hr
    have han : a < 25 := hm a List.mem_cons_self
    obtain ⟨f, rfl⟩ : ∃ g, f = g + 1 := ⟨f - 1, by omega⟩
    rw [hlen] at hk hf ⊢
    have e0 : (nI (rest.length + 1) - 1 : Int32) = nI rest.length := nI_pred _
    have e1 : (nI (rest.length + 1) + -1 : Int32) = nI rest.length := pk_m1 _
    have l1 : D_X1_read (x + (F + 13 + 7)) (nI rest.length) (xh σ x (va_up ci (F + 13 + 7 + 1) ord) cz) = some (nI a, xh σ x (va_up ci (F + 13 + 7 + 1) ord) cz) := by
      rw [x_rd hL.2.2.2.2.1.1 hL.2.2.2.2.1.2 (by omega), up_eq, ha]
    have l2 : ∀ q, q < 25 → D_X1_read (x + (F + 13 + 5)) (nI q) (xh σ x (va_up ci (F + 13 + 7 + 1) ord) cz) = some (ci (F + 13 + 5 + 1) q, xh σ x (va_up ci (F + 13 + 7 + 1) ord) cz) := by
      intro q hq
      rw [x_rd hL.2.2.2.1.1 hL.2.2.2.1.2 hq, up_ne (by omega)]
    by_cases hc : ci (F + 13 + 5 + 1) a < ci (F + 13 + 5 + 1) i
    · obtain ⟨hp', hr'⟩ := lay_go hk hp hr
      obtain ⟨t, ord', ht, h1, h2⟩ := ih (pre ++ [a]) (upd ord (rest.length + 1) (ord rest.length)) f (by omega) (by simp; omega) (fun y hy => hm y (List.mem_cons_of_mem _ hy)) hp' hr'
      refine ⟨t, ord', ht, ?_, ?_⟩
      · rw [← h1]
        conv => lhs; unfold D_X4_putInOrder_w2
        rw [if_neg (nI_nle (by omega) (by omega)), xl_3 hL.1, Option.bind_some, xl_4 hL.1, Option.bind_some, e0, l1, bd_some, l2 a han, bd_some, xl_3 hL.1, Option.bind_some, l2 i hi, bd_some, if_neg (by rw [pu_lt] at hc; rw [pu_le]; omega), xl_4 hL.1, Option.bind_some, Option.bind_some, l1, bd_some, x_wr hL.2.2.2.2.1.1 hL.2.2.2.2.1.2 (by omega), Option.bind_some, up_eq, up_up, e1, ha]
      · unfold insL
        rw [if_pos hc]
        simpa using h2
    · refine ⟨rest.length + 1, ord, by omega, ?_, ?_⟩
      · unfold D_X4_putInOrder_w2
        rw [if_neg (nI_nle (by omega) (by omega)), xl_3 hL.1, Option.bind_some, xl_4 hL.1, Option.bind_some, e0, l1, bd_some, l2 a han, bd_some, xl_3 hL.1, Option.bind_some, l2 i hi, bd_some, if_pos (by rw [pu_lt] at hc; rw [pu_le]; omega)]
      · unfold insL
        rw [if_neg hc]
        exact lay_stop hk hp hr
theorem c_pio (hL : LD F) {i : Nat} (hi : i < 25) (hl : lay (ci (F + 13 + 7 + 1)) (srt (ci (F + 13 + 5 + 1)) i)) : ∃ ord', D_X4_putInOrder (x + (F + 13)) (nI i) (xh σ x ci cz) = some (xh σ x (va_up ci (F + 13 + 7 + 1) ord') cz) ∧ lay ord' (srt (ci (F + 13 + 5 + 1)) (i + 1)) := by
  have hlen := srt_len (ci (F + 13 + 5 + 1)) i
  obtain ⟨t, ord1, ht, h1, h2⟩ := c_pio_w2 (σ := σ) (x := x) (ci := ci) (cz := cz) hL hi (fun i33 s32 =>
  D_X4_putInOrder_b58 (x + (F + 13)) (nI i) i33 s32
  ) (srt (ci (F + 13 + 5 + 1)) i) [] (ci (F + 13 + 7 + 1)) FU (by rw [hlen, FU_eq]; omega) (by rw [hlen]; simp) (fun y hy => by have := (srt_mem _ y i).mp hy; omega) (fun j y hy => by simp at hy) hl
  rw [hlen, up_self] at h1
  refine ⟨upd ord1 t (nI i), ?_, by simpa [srt] using h2⟩
  unfold D_X4_putInOrder
  rw [xl_o hL.1, Option.bind_some, h1]
  unfold D_X4_putInOrder_b58
  rw [xl_4 hL.1, Option.bind_some, x_wr hL.2.2.2.2.1.1 hL.2.2.2.2.1.2 (by omega), Option.bind_some, up_eq, up_up]
theorem c_shader (hL : LD F) (hk : LK ci cz F A n) (hn : n ≤ 25) {i h : Nat} (hi : i < n) (hh : h < 11) : D_X4_shader (x + (F + 13)) (nI i) (nI h) (xh σ x ci cz) = some (oI (shade A n i h), xh σ x ci cz) := by
  unfold D_X4_shader
  rw [xl_o hL.1, Option.bind_some, xl_2 hL.1, Option.bind_some, sh_i, x_rd hL.2.2.1.1 hL.2.2.1.2 (by omega), bd_some, hk.1 i hi h hh]
theorem c_isBl (hL : LD F) (hk : LK ci cz F A n) (hn : n ≤ 25) {i : Nat} (hi : i < n) : D_X4_isBlocked (x + (F + 13)) (nI i) (xh σ x ci cz) = some (bI (blk A n i), xh σ x ci cz) := by
  unfold D_X4_isBlocked
  rw [xl_o hL.1, Option.bind_some, xl_6 hL.1, Option.bind_some, hk.2]
  have hb : bit (maskF (blk A n) n) i = blk A n i := by
    rw [bit_mask _ n hn i]
    simp [hi]
  cases hbb : blk A n i with
  | true => rw [if_neg (fun q => by rw [bit_get _ (by omega), hb, hbb] at q; cases q)]; exact retZ_1 _
  | false => rw [if_pos ((bit_get _ (by omega)).2 (hb.trans hbb)), retZ_0]; rfl
theorem c_gift (hF : FD F) (hL : LD F) (h : FA ci cz F A n) (hW : WF A n) (hk : LK ci cz F A n) (hfl : flat A = false) {i hr : Nat} (hi : i < n) (hh : hr < 11) : D_X4_gift (x + (F + 13)) (nI i) (nI hr) (xh σ x ci cz) = some (gv A n hr i, xh σ x ci cz) := by
  obtain ⟨a0, a1, -⟩ := hW.2.1 i hi
  have z20 : (20 : Int32).toInt = 20 := rfl
  have z0 : (0 : Int32).toInt = 0 := rfl
  have h20 : (20 + gA A i 0).toInt = 20 + (gA A i 0).toInt := by rw [i_add (by omega) (by omega), z20]
  unfold D_X4_gift gv
  rw [xl_o hL.1, Option.bind_some, xl_0 hL.1, Option.bind_some, xf_1 hF.1, Option.bind_some, c_g0 hF h hW.1.1 hi, bd_some, nm_eq, c_isBl hL hk hW.1.1 hi, bd_some]
  by_cases c1 : blk A n i = true
  · rw [c1, if_neg (by decide), if_pos (Or.inr (Or.inr rfl))]
  · have c1' : blk A n i = false := by cases hb : blk A n i with
      | true => exact absurd hb c1
      | false => rfl
    rw [c1', if_pos (show bI false = 0 from rfl), c_shader hL hk hW.1.1 hi hh, bd_some]
    have ho : oI (shade A n i hr) = -6 ↔ shade A n i hr = none := oI_eq (fun j hj => by have := shade_lt hj; have := hW.1.1; omega)
    by_cases c2 : shade A n i hr = none
    · rw [if_pos (ho.2 c2), if_pos (by rw [pu_lt, h20, z0]; omega), xl_0 hL.1, Option.bind_some, xf_4 hF.1, Option.bind_some, c_g3 hF h hW.1.1 hi, bd_some, c_height hh, bd_some]
      unfold divI
      rw [if_neg (by rw [pu_eq, h20, z0]; omega), Option.bind_some, if_neg (by decide), Option.bind_some, if_neg]
      rintro (q | q | q)
      · rw [hfl] at q; cases q
      · exact q c2
      · cases q
    · rw [if_neg (fun q => c2 (ho.1 q)), if_pos (Or.inr (Or.inl c2))]
end L3
