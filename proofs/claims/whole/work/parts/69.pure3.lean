theorem Clh.of {M M' N N' : PM} (h : Clh M N) (e1 : ∀ q, q = 12 ∨ q = 13 ∨ q = 14 → M' 0 q = M 0 q) (e2 : ∀ q, N' 10 q = N 10 q) : Clh M' N' := ⟨by rw [e1 12 (by decide), e2]; exact h.1, by rw [e1 13 (by decide), e2]; exact h.2.1, by rw [e1 14 (by decide), e2]; exact h.2.2⟩
section Up3
variable {M M' N N' : PM} {n : Nat} {len : Nat → Nat} {ch : Nat → Nat → Nat} {sp bs : Nat → Option Nat} {us : Nat → Nat} {st : Nat → Option Nat} {rc : Nat} {rw_ : Nat → Nat} {nc : Nat} {rf rt : Nat → Nat} {tl : Nat} {tc : Nat → Nat} {pl : Nat} {pc9 : Nat → Nat} {T : Nat}
theorem RelC.emp (h : RelC M n len ch sp bs us st rc rw_ nc rf rt tl tc pl pc9) : RelC (pu M 1 1 (nI 0)) n len ch sp bs us st rc rw_ nc rf rt 0 tc pl pc9 := h.tape (fun p q h1 h2 => by rw [pu_eq, if_neg h1]) (TT.emp _ _ _)
theorem RelM.emp (h : RelM M n len ch sp us st rc rw_ nc rf rt tl tc pl pc9) : RelM (pu M 0 2 (nI 0)) n len ch sp us st rc rw_ nc rf rt 0 tc pl pc9 := h.tape (fun q hq => pu_j _ _ _ _ _ (by omega)) (fun p q h1 h2 => pu_k _ _ _ _ _ (by omega)) ⟨by decide, pu_s _ _ _ _, fun i hi => absurd hi (Nat.not_lt_zero i)⟩
theorem RelM.thr (h : RelM M n len ch sp us st rc rw_ nc rf rt tl tc pl pc9) (x : Int32) : RelM (pu M 0 0 x) n len ch sp us st rc rw_ nc rf rt tl tc pl pc9 := h.sx (SX.thr _ _)
/-- a clash is kept -/
theorem fin_cl {Mc Mm : PM} {T : Nat} (h : Inv Mc Mm T) (hT : T < 512) (k a b : Int32) : ∀ M1 M2 : PM, M1 = pu (pu (pu Mc 0 12 k) 0 13 a) 0 14 b → M2 = pu (pu (pu (pu Mm 0 0 (nI 0)) 10 0 k) 10 1 a) 10 2 b → Inv M1 M2 (T + 1) ∧ M2 0 0 = nI 0 := fun M1 M2 e1 e2 => by
  obtain ⟨hT0, n, len, ch, sp, bs, us, st, rc, rw_, nc, rf, rt, tl, tc, pl, pc9, hC, hM, hI9, hK9⟩ := h
  refine ⟨⟨hT, n, len, ch, sp, bs, us, st, rc, rw_, nc, rf, rt, tl, tc, pl, pc9, hC.clash (fun p q hp => by rw [e1, pu_k _ _ _ _ _ hp, pu_k _ _ _ _ _ hp, pu_k _ _ _ _ _ hp]), (hM.thr (nI 0)).cong (fun q _ => by rw [e2, pu_k _ _ _ _ _ (by decide), pu_k _ _ _ _ _ (by decide), pu_k _ _ _ _ _ (by decide)]) (fun p q h1 h2 => by rw [e2, pu_k _ _ _ _ _ (by omega), pu_k _ _ _ _ _ (by omega), pu_k _ _ _ _ _ (by omega)]), hI9.up, ?_⟩, ?_⟩
  · rw [e1, e2]
    refine ⟨?_, ?_, ?_⟩
    · rw [pu_j _ _ _ _ _ (by decide), pu_j _ _ _ _ _ (by decide), pu_s, pu_j _ _ _ _ _ (by decide), pu_j _ _ _ _ _ (by decide), pu_s]
    · rw [pu_j _ _ _ _ _ (by decide), pu_s, pu_j _ _ _ _ _ (by decide), pu_s]
    · rw [pu_s, pu_s]
  · rw [e2, pu_k _ _ _ _ _ (by decide), pu_k _ _ _ _ _ (by decide), pu_k _ _ _ _ _ (by decide), pu_s]
theorem RP.of {k : Nat} {sc : Nat → Nat} (h : SH M k sc) (hk : k ≤ 80) (hc : ∀ i, i < k → 33 ≤ sc i ∧ sc i ≤ 126) : RP M k sc := ⟨hk, h.1, fun i hi => ⟨(hc i hi).1, (hc i hi).2, h.2 i hi⟩⟩
theorem fin_sh {Mc Mm : PM} {T : Nat} (h : Inv Mc Mm T) (hT : T < 512) {M1 M2 : PM} {k : Nat} {sc : Nat → Nat} (h1 : TT M1 3 k sc) (h2 : F35 Mc M1) (h3 : SH M2 k sc) (h4 : F9 Mm M2) (h5 : M2 0 0 = nI 0) (hc : ∀ i, i < k → 33 ≤ sc i ∧ sc i ≤ 126) : Inv M1 M2 (T + 1) ∧ M2 0 0 = nI 0 := by
  obtain ⟨hT0, n, len, ch, sp, bs, us, st, rc, rw_, nc, rf, rt, tl, tc, pl, pc9, hC, hM, hI9, hK9⟩ := h
  refine ⟨⟨hT, n, len, ch, sp, bs, us, st, rc, rw_, nc, rf, rt, tl, tc, k, sc, hC.shown h2 h1, hM.shown h4 (RP.of h3 (by have := h1.1; rw [cap3] at this; omega) hc), hI9.up, hK9.of (fun q hq => h2 0 q (by omega) (by decide) (by omega) (by decide)) (fun q => h4 10 q (by decide) (by decide) (by decide) (by omega))⟩, h5⟩
theorem pw_b {x T nc : Nat} (h : x ≤ T * 2 ^ nc) (hT : T ≤ 512) (hn : nc ≤ 20) : x < 2 ^ 30 := by
  have h1 : 2 ^ nc ≤ 2 ^ 20 := Nat.pow_le_pow_right (by decide) hn
  have h2 : T * 2 ^ nc ≤ 512 * 2 ^ 20 := Nat.mul_le_mul hT h1
  have h3 : 512 * 2 ^ 20 < 2 ^ 30 := by decide
  omega
theorem fin_tp {Mc Mm : PM} {T : Nat} (h : Inv Mc Mm T) (hT : T < 512) {M1 M2 M0 : PM} (h1 : FCx Mc M0) (e1 : M1 = pu M0 1 1 (nI 0)) (h2 : TX Mm M2) : Inv M1 M2 (T + 1) ∧ M2 0 0 = nI 0 := by
  obtain ⟨hT0, n, len, ch, sp, bs, us, st, rc, rw_, nc, rf, rt, tl, tc, pl, pc9, hC, hM, hI9, hK9⟩ := h
  obtain ⟨N0, hs, h00, e2⟩ := h2
  refine ⟨⟨hT, n, len, ch, sp, bs, us, st, rc, rw_, nc, rf, rt, 0, tc, pl, pc9, by rw [e1]; exact (hC.fx h1).emp, by rw [e2]; exact (hM.sx hs).emp, hI9.up, (hK9.fx h1 hs).of (fun q _ => by rw [e1, pu_k _ _ _ _ _ (by decide)]) (fun q => by rw [e2, pu_k _ _ _ _ _ (by decide)])⟩, by rw [e2, pu_j _ _ _ _ _ (by decide)]; exact h00⟩
/-- a name more, both sides -/
theorem fin_nm {Mc Mm : PM} {T : Nat} (hT : T < 512) (hC : RelC Mc n len ch sp bs us st rc rw_ nc rf rt tl tc pl pc9) (hM : RelM Mm n len ch sp us st rc rw_ nc rf rt tl tc pl pc9) (hI9 : RelI n len ch sp bs us st nc T) (hK9 : Clh Mc Mm) (hn : n < 60) {sl : Nat} {sc : Nat → Nat} (h1 : 1 ≤ sl) (h24 : sl ≤ 24) (hc : ∀ i, i < sl → 33 ≤ sc i ∧ sc i ≤ 126) (ho : Fst (sameT len ch sl sc) n none) {M1 M2 : PM} (hA : NAd Mc M1 n sl sc) (hB : CMd Mm M2 n sl sc) : RelC M1 (n + 1) (va_up len n sl) (va_up ch n sc) sp bs us st rc rw_ nc rf rt tl tc pl pc9 ∧ RelM M2 (n + 1) (va_up len n sl) (va_up ch n sc) sp us st rc rw_ nc rf rt tl tc pl pc9 ∧ RelI (n + 1) (va_up len n sl) (va_up ch n sc) sp bs us st nc T ∧ Clh M1 M2 ∧ M2 0 0 = Mm 0 0 := by
  have c2 := hC.2.1
  have c4 := hC.2.2.2.1
  refine ⟨hC.name hn h1 h24 hc hA, hM.name hn c2.2.2.1 c4.2 (hI9.2.2.2.2.1 n (Nat.le_refl _)) h1 h24 hc hB, hI9.name c2.2.2.1 c2.2.2.2 c4.2 ho, hK9.of (fun q _ => hA.2.2 0 q (by omega) (by omega) (by omega)) (fun q => hB.2.2.2.2.2.2 10 q (by omega) (by omega) (by omega)), hB.2.2.2.2.2.2 0 0 (by omega) (by omega) (by omega)⟩
theorem P0_ch {a : Nat} (hc : ∀ i, i < len a → 33 ≤ ch a i ∧ ch a i ≤ 126) : ∀ i, i < len a + 2 → 33 ≤ scP0 len ch a i ∧ scP0 len ch a i ≤ 126 := fun i hi => by
  unfold scP0
  split
  · decide
  · split
    · exact hc _ (by omega)
    · decide
theorem P1_ch {a s9 b9 : Nat} (hs : len s9 ≤ len a) (hc : ∀ i, i < len a → 33 ≤ ch a i ∧ ch a i ≤ 126) (hb : ∀ i, i < len b9 → 33 ≤ ch b9 i ∧ ch b9 i ≤ 126) : ∀ i, i < len b9 + 1 + (len a - len s9) → 33 ≤ scP1 len ch a s9 b9 i ∧ scP1 len ch a s9 b9 i ≤ 126 := fun i hi => by
  unfold scP1
  split
  · exact hb _ (by omega)
  · split
    · decide
    · exact hc _ (by omega)
theorem smC_r {c : Nat} (h : isL c = true) : 33 ≤ smC c ∧ smC c ≤ 126 := by
  have := (isL_iff c).mp h
  unfold smC
  split <;> omega
theorem bcP_r {a f e : Nat} (h : RunL len ch a f e) (i : Nat) (hi : i < blP f e) : 33 ≤ bcP ch a f e i ∧ bcP ch a f e i ≤ 126 := by
  unfold bcP
  unfold blP at hi
  by_cases z : f = e
  · rw [if_pos z]; decide
  · rw [if_neg z]
    rw [if_neg z] at hi
    exact smC_r (h.2.2.2.2.1 _ (by omega) (by omega))
theorem ccP_r {bc : Nat → Nat} {bl m j : Nat} (hb : ∀ i, i < bl → 33 ≤ bc i ∧ bc i ≤ 126) (hm : m = min bl 4) (h1 : 1 ≤ bl) (hj : j < m + 99) (i : Nat) (hi : i < clP m j) : 33 ≤ ccP bc m j i ∧ ccP bc m j i ≤ 126 := by
  unfold clP at hi
  unfold ccP
  by_cases z : j < m
  · rw [if_pos z] at hi ⊢
    exact hb i (by omega)
  · rw [if_neg z] at hi ⊢
    by_cases z1 : i = 0
    · rw [if_pos z1]; exact hb 0 (by omega)
    · rw [if_neg z1]
      split
      · omega
      · split <;> omega
theorem scBr_ch (hb : brk tl tc) (hc : ∀ i, i < tl → 33 ≤ tc i ∧ tc i ≤ 126) : ∀ i, i < tl - 2 → 33 ≤ scBr tc i ∧ scBr tc i ≤ 126 := fun i hi => by
  unfold scBr
  exact hc _ (by omega)
theorem scCo_ch {s9 c9 : Nat} (hc : ∀ i, i < tl → 33 ≤ tc i ∧ tc i ≤ 126) (hs : ∀ i, i < len s9 → 33 ≤ ch s9 i ∧ ch s9 i ≤ 126) : ∀ i, i < len s9 + (tl - (c9 + 1)) → 33 ≤ scCo len ch tc s9 c9 i ∧ scCo len ch tc s9 c9 i ≤ 126 := fun i hi => by
  unfold scCo
  split
  · exact hs _ (by omega)
  · exact hc _ (by omega)
theorem scJ0_ch {a b9 p1 : Nat} (hp : p1 ≤ len a) (hc : ∀ i, i < len a → 33 ≤ ch a i ∧ ch a i ≤ 126) (hb : ∀ i, i < len b9 → 33 ≤ ch b9 i ∧ ch b9 i ≤ 126) : ∀ i, i < p1 + len b9 → 33 ≤ scJ0 ch a b9 p1 i ∧ scJ0 ch a b9 p1 i ≤ 126 := fun i hi => by
  unfold scJ0
  split
  · exact hc _ (by omega)
  · exact hb _ (by omega)
theorem scJ1_ch {a b9 c9 : Nat} (hp : c9 ≤ len a) (hc : ∀ i, i < len a → 33 ≤ ch a i ∧ ch a i ≤ 126) (hb : ∀ i, i < len b9 → 33 ≤ ch b9 i ∧ ch b9 i ≤ 126) : ∀ i, i < c9 + 1 + len b9 → 33 ≤ scJ1 ch a b9 c9 i ∧ scJ1 ch a b9 c9 i ≤ 126 := fun i hi => by
  unfold scJ1
  split
  · exact hc _ (by omega)
  · split
    · decide
    · exact hb _ (by omega)
theorem same_none {sl : Nat} {sc : Nat → Nat} (hl : ∀ k, k < n → len k ≤ 24) (h : 24 < sl) : Fst (sameT len ch sl sc) n none := fun k hk z => by have := hl k hk; have := z.1; omega
end Up3
