theorem Cnt_ext {P : Nat → Bool} {n : Nat} (h : ∀ k, n ≤ k → P k = false) : ∀ m, n ≤ m → Cnt P m = Cnt P n := by
  intro m hm
  induction m with
  | zero => rw [show n = 0 by omega]
  | succ m ih =>
    by_cases e : n = m + 1
    · rw [e]
    · rw [Cnt_f (h m (by omega))]; exact ih (by omega)
theorem stR_lt {n : Nat} {st : Nat → Option Nat} (h : ∀ k j, st k = some j → k < n ∧ j < n) {a b : Nat} (ha : a < n) (hb : b < n) : ∀ k j, stR st a b k = some j → k < n ∧ j < n := by
  have h1 : ∀ k j, s1R st a b k = some j → k < n ∧ j < n := fun k j e => by
    unfold s1R at e
    by_cases z : st k = some a
    · rw [if_pos z] at e; cases e; exact ⟨(h k a z).1, hb⟩
    · rw [if_neg z] at e; exact h k j e
  intro k j e
  unfold stR at e
  split at e
  · exact h1 k j e
  · split at e
    · cases e
    · split at e
      · rename_i z; exact ⟨by omega, (h a j e).2⟩
      · exact h1 k j e
section Up5
variable {Mc Mm M0 M1 M2 N0 : PM} {n : Nat} {len : Nat → Nat} {ch : Nat → Nat → Nat} {sp bs : Nat → Option Nat} {us : Nat → Nat} {st : Nat → Option Nat} {rc : Nat} {rw_ : Nat → Nat} {nc : Nat} {rf rt : Nat → Nat} {tl : Nat} {tc : Nat → Nat} {pl : Nat} {pc9 : Nat → Nat} {T : Nat}
theorem fin_rn (hT : T < 512) (hC : RelC Mc n len ch sp bs us st rc rw_ nc rf rt tl tc pl pc9) (hM : RelM Mm n len ch sp us st rc rw_ nc rf rt tl tc pl pc9) (hI9 : RelI n len ch sp bs us st nc T) (hK9 : Clh Mc Mm) {a b : Nat} (ha : a < n) (hb : b < n) (hab : a ≠ b) (hno : st a = none ∨ st b = none) (hL1 : ¬ Lds st (some a) b) (hL2 : ¬ Lds st (some b) a) (h20 : nc < 20) (h1 : RNd Mc M1 a b rc nc rw_ us st) (h2 : RNMd Mm M2 n a b rc nc rw_ us st) : Inv M1 M2 (T + 1) ∧ M2 0 0 = nI 0 := by
  obtain ⟨g1, g2, g3, g4, g5, g6, g7, g8, g9, g10⟩ := hC
  obtain ⟨m1, m2, m3, m4, m5, m6, m7⟩ := hM
  obtain ⟨i1, i2, i3, i4, i5, rk, i6⟩ := hI9
  obtain ⟨x1, x2, x3, x4, x5, x6, x7, hz⟩ := h1
  obtain ⟨y1, y2, y3, y4, y5, y6, y7, y8, hw⟩ := h2
  have hn60 := g1.1
  have hus : ∀ k, usR us a b k ≤ (T + 1) * 2 ^ (nc + 1) := fun k => by
    have q1 := i4 a
    have q2 := i4 b
    have q3 := i4 k
    have e : (T + 1) * 2 ^ (nc + 1) = T * 2 ^ nc + T * 2 ^ nc + 2 ^ (nc + 1) := by rw [Nat.succ_mul, Nat.pow_succ, ← Nat.mul_assoc, Nat.mul_two]
    rw [e]
    generalize 2 ^ (nc + 1) = Y
    generalize T * 2 ^ nc = X at q1 q2 q3 ⊢
    unfold usR
    split
    · omega
    · split <;> omega
  have hrw : ∀ j, j < 3 * rc → rwR rw_ a b j < n := fun j hj => by
    unfold rwR
    split
    · exact hb
    · exact (g5.2.2 j hj).1
  have hrn : ∀ i, i < nc + 1 → va_up rf nc a i < n ∧ va_up rt nc b i < n := lt_S (fun i hi => by rw [va_up_ne _ _ (by omega), va_up_ne _ _ (by omega)]; exact ⟨(g6.2.2 i hi).1, (g6.2.2 i hi).2.1⟩) (by rw [va_up_self, va_up_self]; exact ⟨ha, hb⟩)
  have hst := stR_lt g4.2 ha hb
  refine ⟨⟨hT, n, len, ch, sp, bs, usR us a b, stR st a b, rc, rwR rw_ a b, nc + 1, va_up rf nc a, va_up rt nc b, tl, tc, pl, pc9,
    ⟨g1.cong (fun p q _ _ => hz p q (by omega) (by omega) (by omega) (by omega) (by omega) (by omega)), g2.cong (fun q => ⟨hz _ _ (by decide) (by decide) (by decide) (by decide) (by decide) (by decide), hz _ _ (by decide) (by decide) (by decide) (by decide) (by decide) (by decide)⟩), fun k hk => ⟨pw_b (hus k) hT (by omega), x6 k hk⟩, ⟨x5, hst⟩, ⟨g5.1, by rw [hz _ _ (by decide) (by decide) (by decide) (by decide) (by decide) (by decide)]; exact g5.2.1, fun j hj => ⟨hrw j hj, x4 j hj⟩⟩, ⟨h20, x3, fun i hi => ⟨(hrn i hi).1, (hrn i hi).2, ?_⟩⟩, g7.cong2 (hz _ _ (by decide) (by decide) (by decide) (by decide) (by decide) (by decide)) (fun q => hz _ _ (by decide) (by decide) (by decide) (by decide) (by decide) (by decide)), g8.cong2 (hz _ _ (by decide) (by decide) (by decide) (by decide) (by decide) (by decide)) (fun q => hz _ _ (by decide) (by decide) (by decide) (by decide) (by decide) (by decide)), by rw [hz _ _ (by decide) (by decide) (by decide) (by decide) (by decide) (by decide)]; exact g9, by rw [hz _ _ (by decide) (by decide) (by decide) (by decide) (by decide) (by decide)]; exact g10⟩,
    ⟨⟨m1.1, by rw [hw _ _ (by decide) (by decide) (by decide) (by decide) (by decide)]; exact m1.2.1, fun k hk => by rw [hw _ _ (by decide) (by decide) (by decide) (by decide) (by omega)]; exact m1.2.2.1 k hk, fun k hk => by rw [hw _ _ (by decide) (by decide) (by decide) (by decide) (by omega)]; exact m1.2.2.2.1 k hk, m1.2.2.2.2.1, fun k i hk hi => by rw [hw _ _ (by decide) (by decide) (by decide) (by decide) (by omega)]; exact m1.2.2.2.2.2 k i hk hi⟩, fun k hk => ⟨pw_b (hus k) hT (by omega), y3 k hk⟩, ⟨y2, fun k j _ e => (hst k j e).2⟩, ⟨m4.1, by rw [hw _ _ (by decide) (by decide) (by decide) (by decide) (by decide)]; exact m4.2.1, fun j hj => ⟨hrw j hj, y1 j hj⟩⟩, ⟨h20, y7, fun i hi => ⟨(hrn i hi).1, (hrn i hi).2, ?_⟩⟩, ⟨m6.1, by rw [hw _ _ (by decide) (by decide) (by decide) (by decide) (by decide)]; exact m6.2.1, fun i hi => by rw [hw _ _ (by decide) (by decide) (by decide) (by decide) (by omega)]; exact m6.2.2 i hi⟩, ⟨m7.1, by rw [hw _ _ (by decide) (by decide) (by decide) (by decide) (by decide)]; exact m7.2.1, fun i hi => by rw [hw _ _ (by decide) (by decide) (by decide) (by decide) (by omega)]; exact m7.2.2 i hi⟩⟩,
    ⟨i1, i2, i3, hus, fun k hk => by unfold usR; rw [if_neg (by omega), if_neg (by omega)]; exact i5 k hk, rk_rename i6 g4.2 hab hno hL1 hL2⟩, hK9.of (fun q _ => hz _ _ (by decide) (by decide) (by decide) (by decide) (by decide) (by decide)) (fun q => hw _ _ (by decide) (by decide) (by decide) (by decide) (by omega))⟩, y8⟩
  · by_cases e : i = nc
    · rw [e, va_up_self, va_up_self]; exact ⟨x1, x2⟩
    · rw [va_up_ne _ _ e, va_up_ne _ _ e, (x7 i e).1, (x7 i e).2]; exact (g6.2.2 i (by omega)).2.2
  · by_cases e : i = nc
    · rw [e, va_up_self, va_up_self]; exact ⟨y4, y5⟩
    · rw [va_up_ne _ _ e, va_up_ne _ _ e, y6 _ (by omega), y6 _ (by omega)]; exact (m5.2.2 i (by omega)).2.2
end Up5
theorem op_rename (l : Launch) (D : va_G) (cI cC cZ cT cB : ClassId) (aC aM : Nat → Nat) (hIC : GI 144 aC) (hIM : GI 13 aM) (hlT : l.stackTraces = false) (Mc Mm : PM) (T : Nat) (h : Inv Mc Mm T) (hT : T < 512) (x y : Int32) : OpR l D cI cC cZ cT cB aC aM y_C_rename b_C_rename 3 (some .int) y_M_rename b_M_rename 5 (some .int) [.int x, .int y] [("java/lang/IndexOutOfBoundsException", 1), ("java/lang/IllegalArgumentException", 2), ("java/lang/UnsupportedOperationException", 3)] T Mc Mm := by
  obtain ⟨hT0, n, len, ch, sp, bs, us, st, rc, rw_, nc, rf, rt, tl, tc, pl, pc9, hC, hM, hI9, hK9⟩ := id h
  obtain ⟨c1, c2, c3, c4, c5, c6, c7, c8, c9, c10⟩ := id hC
  obtain ⟨m1, m2, m3, m4, m5, m6, m7⟩ := id hM
  obtain ⟨i1, i2, i3, i4, i5, rk0, i6⟩ := id hI9
  have hn60 := c1.1
  have hbsp := bs_sp (sp := sp) (bs := bs) i2
  by_cases hx : ∃ j, j < n ∧ x = nI j
  · obtain ⟨a, ha, rfl⟩ := hx
    by_cases hy : ∃ j, j < n ∧ y = nI j
    · obtain ⟨b9, hb9, rfl⟩ := hy
      by_cases hab : a = b9
      · exact Or.inr ⟨_, _, _, _, _, 2, _, _, by simp, by decide, by decide, by decide, by decide, x_C_rename_2 l D cI cC cZ cT aC hIC hlT Mc n len ch c1 a b9 ha hab, c_M_rename_2 l D cI cB aM hIM Mm n len ch sp m1 a b9 ha hab, fin0 h hT 2⟩
      obtain ⟨rk, hRk, hr60⟩ := rk_bound i6 c4.2 hn60
      have k1 : Lds st (some a) b9 ↔ Lds st (st a) b9 := Lds_step hab
      have k2 : Lds st (some b9) a ↔ Lds st (st b9) a := Lds_step (fun e => hab e.symm)
      obtain ⟨ox, hox⟩ := Fst.ex (fun k => rw_ (3 * k) = a) rc
      obtain ⟨oy, hoy⟩ := Fst.ex (fun k => rw_ (3 * k) = b9) rc
      by_cases hno : ox = none ∨ oy = none
      · by_cases hno5 : st a = none ∨ st b9 = none
        · by_cases hL : Lds st (some a) b9 ∨ Lds st (some b9) a
          · exact Or.inl ⟨_, _, _, _, _, _, _, by decide, by decide, by decide, by decide, c_C_rename_c3 l D cI cC cZ cT aC hIC Mc n len ch c1 rc rw_ c5 st c4 rk hRk hr60 a b9 ha hb9 hab ox oy hox hoy hno hno5 (by rw [← k1, ← k2]; exact hL), c_M_rename_c3 l D cI cB aM hIM Mm n len ch sp m1 rc rw_ m4 st m3 rk hRk a b9 ha hb9 hab ox oy hox hoy hno hno5 hL, fin_cl h hT _ _ _⟩
          · have hLc : ¬ (Lds st (st a) b9 ∨ Lds st (st b9) a) := by rw [← k1, ← k2]; exact hL
            by_cases h20 : nc = 20
            · exact Or.inr ⟨_, _, _, _, _, 3, _, _, by simp, by decide, by decide, by decide, by decide, x_C_rename_3 l D cI cC cZ cT aC hIC hlT Mc n len ch c1 rc rw_ c5 st c4 rk hRk hr60 a b9 ha hb9 hab nc rf rt c6 ox oy hox hoy hno hno5 hLc h20, c_M_rename_3 l D cI cB aM hIM Mm n len ch sp m1 rc rw_ m4 st m3 rk hRk a b9 ha hb9 nc rf rt m5 hab ox oy hox hoy hno hno5 hL h20, fun M1 M2 e1 e2 => fin1 h hT (by rw [← e1]; exact FCx.rf _) (by rw [e2]; exact (SX.thr _ _).tr (SX.thr _ _)) (by rw [e2, pu_s])⟩
            · have h19 : nc < 20 := by have := c6.1; omega
              have hcn : Cnt (soB st a) 60 = Cnt (soB st a) n := Cnt_ext (fun k hk => decide_eq_false (fun e => by have := (c4.2 k a e).1; omega)) 60 hn60
              have hpl : Cnt (eqB rw_ a) (3 * rc) + (Cnt (soB st a) 60 + if st a = none then 0 else 1) + (if us a = 0 then 0 else 1) = plR rc n rw_ us st a := by
                unfold plR
                rw [hcn]
                omega
              have hm9 := c_M_rename_0 l D cI cB aM hIM Mm n len ch sp m1 rc rw_ m4 st m3 rk hRk a b9 ha hb9 nc rf rt m5 us m2 hab ox oy hox hoy hno hno5 hL h19
              rw [← hpl] at hm9
              by_cases hu : us a = 0
              · exact Or.inl ⟨_, _, _, _, _, _, _, by decide, by decide, by decide, by decide, c_C_rename_00 l D cI cC cZ cT aC hIC Mc n len ch c1 rc rw_ c5 st c4 rk hRk hr60 a b9 ha hb9 hab nc rf rt c6 us c3 ox oy hox hoy hno hno5 hLc h19 hu, hm9, fun M1 M2 e1 e2 => fin_rn hT hC hM hI9 hK9 ha hb9 hab hno5 (fun e => hL (Or.inl e)) (fun e => hL (Or.inr e)) h19 e1 e2⟩
              · exact Or.inl ⟨_, _, _, _, _, _, _, by decide, by decide, by decide, by decide, c_C_rename_01 l D cI cC cZ cT aC hIC Mc n len ch c1 rc rw_ c5 st c4 rk hRk hr60 a b9 ha hb9 hab nc rf rt c6 us c3 ox oy hox hoy hno hno5 hLc h19 hu, hm9, fun M1 M2 e1 e2 => fin_rn hT hC hM hI9 hK9 ha hb9 hab hno5 (fun e => hL (Or.inl e)) (fun e => hL (Or.inr e)) h19 e1 e2⟩
        · cases hu9 : st a with
          | none => exact absurd (Or.inl hu9) hno5
          | some u9 =>
            cases hv9 : st b9 with
            | none => exact absurd (Or.inr hv9) hno5
            | some v9 => exact Or.inl ⟨_, _, _, _, _, _, _, by decide, by decide, by decide, by decide, c_C_rename_c5 l D cI cC cZ cT aC hIC Mc n len ch c1 rc rw_ c5 st c4 rk hRk hr60 a b9 ha hb9 hab ox oy hox hoy hno u9 v9 hu9 hv9, c_M_rename_c5 l D cI cB aM hIM Mm n len ch sp m1 rc rw_ m4 st m3 rk hRk a b9 ha hb9 hab ox oy hox hoy hno u9 v9 hu9 hv9, fin_cl h hT _ _ _⟩
      · cases ox with
        | none => exact absurd (Or.inl rfl) hno
        | some x9 =>
          cases oy with
          | none => exact absurd (Or.inr rfl) hno
          | some y9 => exact Or.inl ⟨_, _, _, _, _, _, _, by decide, by decide, by decide, by decide, c_C_rename_c4 l D cI cC cZ cT aC hIC Mc n len ch c1 rc rw_ c5 st c4 rk hRk hr60 a b9 ha hb9 hab x9 y9 hox hoy, c_M_rename_c4 l D cI cB aM hIM Mm n len ch sp m1 rc rw_ m4 st m3 rk hRk a b9 ha hb9 hab x9 y9 hox hoy, fin_cl h hT _ _ _⟩
    · exact Or.inr ⟨_, _, _, _, _, 1, _, _, by simp, by decide, by decide, by decide, by decide, x_C_rename_1b l D cI cC cZ cT aC hIC hlT Mc n len ch c1 a ha y hy, c_M_rename_1b l D cI cB aM hIM Mm n len ch sp m1 a ha y hy, fin0 h hT 1⟩
  · exact Or.inr ⟨_, _, _, _, _, 1, _, _, by simp, by decide, by decide, by decide, by decide, x_C_rename_1a l D cI cC cZ cT aC hIC hlT Mc n len ch c1 x y hx, c_M_rename_1a l D cI cB aM hIM Mm n len ch sp m1 x y hx, fin0 h hT 1⟩
