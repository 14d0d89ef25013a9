section Up
variable {M M' N N' : PM} {n : Nat} {len : Nat → Nat} {ch : Nat → Nat → Nat} {sp bs : Nat → Option Nat} {us : Nat → Nat} {st : Nat → Option Nat} {rc : Nat} {rw_ : Nat → Nat} {nc : Nat} {rf rt : Nat → Nat} {tl : Nat} {tc : Nat → Nat} {pl : Nat} {pc9 : Nat → Nat} {T : Nat}
/-- the tape alone has changed in the class -/
theorem RelC.tape (h : RelC M n len ch sp bs us st rc rw_ nc rf rt tl tc pl pc9) {tl' : Nat} {tc' : Nat → Nat} (hf : ∀ p q, ¬ (p = 1 ∧ q = 1) → p ≠ 2 → M' p q = M p q) (ht : TT M' 1 tl' tc') : RelC M' n len ch sp bs us st rc rw_ nc rf rt tl' tc' pl pc9 := by
  obtain ⟨h1, h2, h3, h4, h5, h6, h7, h8, h9, h10⟩ := h
  have hz : ∀ p q, p ≠ 1 → p ≠ 2 → M' p q = M p q := fun p q g1 g2 => hf p q (fun z => g1 z.1) g2
  exact ⟨h1.cong (fun p q g1 g2 => hz p q (by omega) (by omega)), h2.cong (fun q => ⟨hz _ _ (by decide) (by decide), hz _ _ (by decide) (by decide)⟩), h3.cong (fun q => hz _ _ (by decide) (by decide)), h4.cong (fun q => hz _ _ (by decide) (by decide)), h5.cong (fun p q g => hz p q (by omega) (by omega)), h6.cong (fun p q g => hz p q (by omega) (by omega)), ht, h8.cong2 (hz _ _ (by decide) (by decide)) (fun q => hz _ _ (by decide) (by decide)), by rw [hz _ _ (by decide) (by decide)]; exact h9, by rw [hz _ _ (by decide) (by decide)]; exact h10⟩
/-- what is printed (and built) alone has changed -/
theorem RelC.shown (h : RelC M n len ch sp bs us st rc rw_ nc rf rt tl tc pl pc9) {pl' : Nat} {pc' : Nat → Nat} (hf : F35 M M') (ht : TT M' 3 pl' pc') : RelC M' n len ch sp bs us st rc rw_ nc rf rt tl tc pl' pc' := by
  obtain ⟨h1, h2, h3, h4, h5, h6, h7, h8, h9, h10⟩ := h
  have hz : ∀ p q, p ≠ 3 → p ≠ 4 → p ≠ 5 → p ≠ 6 → M' p q = M p q := fun p q g1 g2 g3 g4 => hf p q (fun z => g1 z.1) g2 (fun z => g3 z.1) g4
  exact ⟨h1.f35 hf, h2.f35 hf, h3.cong (fun q => hz _ _ (by decide) (by decide) (by decide) (by decide)), h4.cong (fun q => hz _ _ (by decide) (by decide) (by decide) (by decide)), h5.cong (fun p q g => hz p q (by omega) (by omega) (by omega) (by omega)), h6.cong (fun p q g => hz p q (by omega) (by omega) (by omega) (by omega)), h7.cong2 (hz _ _ (by decide) (by decide) (by decide) (by decide)) (fun q => hz _ _ (by decide) (by decide) (by decide) (by decide)), ht, by rw [hz _ _ (by decide) (by decide) (by decide) (by decide)]; exact h9, by rw [hz _ _ (by decide) (by decide) (by decide) (by decide)]; exact h10⟩
/-- the kept clash alone has changed -/
theorem RelC.clash (h : RelC M n len ch sp bs us st rc rw_ nc rf rt tl tc pl pc9) (hf : ∀ p q, p ≠ 0 → M' p q = M p q) : RelC M' n len ch sp bs us st rc rw_ nc rf rt tl tc pl pc9 := by
  obtain ⟨h1, h2, h3, h4, h5, h6, h7, h8, h9, h10⟩ := h
  exact ⟨h1.cong (fun p q g1 g2 => hf p q (by omega)), h2.cong (fun q => ⟨hf _ _ (by decide), hf _ _ (by decide)⟩), h3.cong (fun q => hf _ _ (by decide)), h4.cong (fun q => hf _ _ (by decide)), h5.cong (fun p q g => hf p q (by omega)), h6.cong (fun p q g => hf p q (by omega)), h7.cong2 (hf _ _ (by decide)) (fun q => hf _ _ (by decide)), h8.cong2 (hf _ _ (by decide)) (fun q => hf _ _ (by decide)), by rw [hf _ _ (by decide)]; exact h9, by rw [hf _ _ (by decide)]; exact h10⟩
/-- the reference's cells that matter, but some -/
theorem RelM.cong (h : RelM M n len ch sp us st rc rw_ nc rf rt tl tc pl pc9) (h0 : ∀ q, q = 2 ∨ q = 5 ∨ q = 10 ∨ q = 12 ∨ q = 14 → M' 0 q = M 0 q) (h1 : ∀ p q, 1 ≤ p → p ≤ 9 → M' p q = M p q) : RelM M' n len ch sp us st rc rw_ nc rf rt tl tc pl pc9 := by
  obtain ⟨g1, g2, g3, g4, g5, g6, g7⟩ := h
  refine ⟨⟨g1.1, by rw [h0 5 (by decide)]; exact g1.2.1, fun k hk => by rw [h1 3 k (by decide) (by decide)]; exact g1.2.2.1 k hk, fun k hk => by rw [h1 4 k (by decide) (by decide)]; exact g1.2.2.2.1 k hk, g1.2.2.2.2.1, fun k i hk hi => by rw [h1 2 _ (by decide) (by decide)]; exact g1.2.2.2.2.2 k i hk hi⟩, fun k hk => by rw [h1 5 k (by decide) (by decide)]; exact g2 k hk, ⟨fun k hk => by rw [h1 6 k (by decide) (by decide)]; exact g3.1 k hk, g3.2⟩, ⟨g4.1, by rw [h0 10 (by decide)]; exact g4.2.1, fun j hj => by rw [h1 7 j (by decide) (by decide)]; exact g4.2.2 j hj⟩, ⟨g5.1, by rw [h0 12 (by decide)]; exact g5.2.1, fun i hi => by rw [h1 8 _ (by decide) (by decide), h1 8 _ (by decide) (by decide)]; exact g5.2.2 i hi⟩, ⟨g6.1, by rw [h0 2 (by decide)]; exact g6.2.1, fun i hi => by rw [h1 1 i (by decide) (by decide)]; exact g6.2.2 i hi⟩, ⟨g7.1, by rw [h0 14 (by decide)]; exact g7.2.1, fun i hi => by rw [h1 9 i (by decide) (by decide)]; exact g7.2.2 i hi⟩⟩
theorem RelM.tape (h : RelM M n len ch sp us st rc rw_ nc rf rt tl tc pl pc9) {tl' : Nat} {tc' : Nat → Nat} (h0 : ∀ q, q = 5 ∨ q = 10 ∨ q = 12 ∨ q = 14 → M' 0 q = M 0 q) (h1 : ∀ p q, 2 ≤ p → p ≤ 9 → M' p q = M p q) (ht : RT M' tl' tc') : RelM M' n len ch sp us st rc rw_ nc rf rt tl' tc' pl pc9 := by
  obtain ⟨g1, g2, g3, g4, g5, g6, g7⟩ := h
  refine ⟨⟨g1.1, by rw [h0 5 (by decide)]; exact g1.2.1, fun k hk => by rw [h1 3 k (by decide) (by decide)]; exact g1.2.2.1 k hk, fun k hk => by rw [h1 4 k (by decide) (by decide)]; exact g1.2.2.2.1 k hk, g1.2.2.2.2.1, fun k i hk hi => by rw [h1 2 _ (by decide) (by decide)]; exact g1.2.2.2.2.2 k i hk hi⟩, fun k hk => by rw [h1 5 k (by decide) (by decide)]; exact g2 k hk, ⟨fun k hk => by rw [h1 6 k (by decide) (by decide)]; exact g3.1 k hk, g3.2⟩, ⟨g4.1, by rw [h0 10 (by decide)]; exact g4.2.1, fun j hj => by rw [h1 7 j (by decide) (by decide)]; exact g4.2.2 j hj⟩, ⟨g5.1, by rw [h0 12 (by decide)]; exact g5.2.1, fun i hi => by rw [h1 8 _ (by decide) (by decide), h1 8 _ (by decide) (by decide)]; exact g5.2.2 i hi⟩, ht, ⟨g7.1, by rw [h0 14 (by decide)]; exact g7.2.1, fun i hi => by rw [h1 9 i (by decide) (by decide)]; exact g7.2.2 i hi⟩⟩
theorem RelM.shown (h : RelM M n len ch sp us st rc rw_ nc rf rt tl tc pl pc9) {pl' : Nat} {pc' : Nat → Nat} (hf : F9 M M') (ht : RP M' pl' pc') : RelM M' n len ch sp us st rc rw_ nc rf rt tl tc pl' pc' := by
  obtain ⟨g1, g2, g3, g4, g5, g6, g7⟩ := h
  have h0 : ∀ q, q = 2 ∨ q = 5 ∨ q = 10 ∨ q = 12 → M' 0 q = M 0 q := fun q hq => hf 0 q (by decide) (by decide) (by decide) (by omega)
  have h1 : ∀ p q, 1 ≤ p → p ≤ 8 → M' p q = M p q := fun p q a b => hf p q (by omega) (by omega) (by omega) (by omega)
  refine ⟨⟨g1.1, by rw [h0 5 (by decide)]; exact g1.2.1, fun k hk => by rw [h1 3 k (by decide) (by decide)]; exact g1.2.2.1 k hk, fun k hk => by rw [h1 4 k (by decide) (by decide)]; exact g1.2.2.2.1 k hk, g1.2.2.2.2.1, fun k i hk hi => by rw [h1 2 _ (by decide) (by decide)]; exact g1.2.2.2.2.2 k i hk hi⟩, fun k hk => by rw [h1 5 k (by decide) (by decide)]; exact g2 k hk, ⟨fun k hk => by rw [h1 6 k (by decide) (by decide)]; exact g3.1 k hk, g3.2⟩, ⟨g4.1, by rw [h0 10 (by decide)]; exact g4.2.1, fun j hj => by rw [h1 7 j (by decide) (by decide)]; exact g4.2.2 j hj⟩, ⟨g5.1, by rw [h0 12 (by decide)]; exact g5.2.1, fun i hi => by rw [h1 8 _ (by decide) (by decide), h1 8 _ (by decide) (by decide)]; exact g5.2.2 i hi⟩, ⟨g6.1, by rw [h0 2 (by decide)]; exact g6.2.1, fun i hi => by rw [h1 1 i (by decide) (by decide)]; exact g6.2.2 i hi⟩, ht⟩
/-- a name more -/
theorem CN.add (h : CN M n len ch) (hn : n < 60) {sl : Nat} {sc : Nat → Nat} (h1 : 1 ≤ sl) (h24 : sl ≤ 24) (hc : ∀ i, i < sl → 33 ≤ sc i ∧ sc i ≤ 126) (ha : NAd M M' n sl sc) : CN M' (n + 1) (va_up len n sl) (va_up ch n sc) := by
  obtain ⟨g1, g2, g3, g4⟩ := h
  obtain ⟨a1, a2, a3⟩ := ha
  have hz : ∀ p q, p ≠ 7 → p ≠ 9 + 2 * n → p ≠ 9 + 2 * n + 1 → M' p q = M p q := fun p q b1 b2 b3 => a3 p q (fun z => b1 z.1) (fun z => b2 z.1) b3
  refine ⟨hn, a2, lt_S (fun k hk => ?_) ?_, fun k hk h60 => by rw [hz _ _ (by omega) (by omega) (by omega)]; exact g4 k (by omega) h60⟩
  · rw [va_up_ne _ _ (by omega), va_up_ne _ _ (by omega)]
    obtain ⟨b1, b2, b3, b4⟩ := g3 k hk
    exact ⟨b1, b2, b3, b4.cong2 (hz _ _ (by omega) (by omega) (by omega)) (fun q => hz _ _ (by omega) (by omega) (by omega))⟩
  · rw [va_up_self, va_up_self]
    exact ⟨h1, h24, hc, a1⟩
theorem DN.add (h : DN n len ch) {sl : Nat} {sc : Nat → Nat} (ho : Fst (sameT len ch sl sc) n none) : DN (n + 1) (va_up len n sl) (va_up ch n sc) := by
  intro j k hj hk hl he
  rcases Nat.lt_succ_iff_lt_or_eq.mp hj with a | a <;> rcases Nat.lt_succ_iff_lt_or_eq.mp hk with b | b
  · rw [va_up_ne _ _ (by omega), va_up_ne _ _ (by omega)] at hl
    rw [va_up_ne _ _ (by omega), va_up_ne _ _ (by omega), va_up_ne _ _ (by omega)] at he
    exact h j k a b hl he
  · subst b
    rw [va_up_ne _ _ (by omega), va_up_self] at hl
    rw [va_up_ne _ _ (by omega), va_up_self, va_up_ne _ _ (by omega)] at he
    exact absurd ⟨hl, fun i hi => he i (by omega)⟩ (ho j a)
  · subst a
    rw [va_up_self, va_up_ne _ _ (by omega)] at hl
    rw [va_up_self, va_up_self, va_up_ne _ _ (by omega)] at he
    exact absurd ⟨hl.symm, fun i hi => (he i hi).symm⟩ (ho k b)
  · omega
theorem bt_up {sl : Nat} {sc : Nat → Nat} {a b : Nat} (ha : a ≠ n) (hb : b ≠ n) : btS (va_up len n sl) (va_up ch n sc) a b ↔ btS len ch a b := by
  unfold btS ltT
  rw [va_up_ne _ _ ha, va_up_ne _ _ hb, va_up_ne _ _ ha, va_up_ne _ _ hb]
theorem cbs_up {sl : Nat} {sc : Nat → Nat} {a : Nat} (ha : a ≠ n) (h : cbs len ch a) : cbs (va_up len n sl) (va_up ch n sc) a := by
  unfold cbs
  rw [va_up_ne _ _ ha, va_up_ne _ _ ha]
  exact h
theorem Cnt_mo {P : Nat → Bool} (h : P n = false) : Cnt P (n + 1) = Cnt P n := Cnt_f h
theorem RelC.name (h : RelC M n len ch sp bs us st rc rw_ nc rf rt tl tc pl pc9) (hn : n < 60) {sl : Nat} {sc : Nat → Nat} (h1 : 1 ≤ sl) (h24 : sl ≤ 24) (hc : ∀ i, i < sl → 33 ≤ sc i ∧ sc i ≤ 126) (ha : NAd M M' n sl sc) : RelC M' (n + 1) (va_up len n sl) (va_up ch n sc) sp bs us st rc rw_ nc rf rt tl tc pl pc9 := by
  obtain ⟨g1, g2, g3, g4, g5, g6, g7, g8, g9, g10⟩ := h
  have hz : ∀ p q, p ≠ 7 → p ≠ 9 + 2 * n → p ≠ 9 + 2 * n + 1 → M' p q = M p q := fun p q b1 b2 b3 => ha.2.2 p q (fun z => b1 z.1) (fun z => b2 z.1) b3
  have hsn : sp n = none := by
    cases e : sp n with
    | none => rfl
    | some j => have := (g2.2.2.1 n j e).1; omega
  have hbn : bs n = none := by
    cases e : bs n with
    | none => rfl
    | some j => have := (g2.2.2.2 n j e).1; omega
  have k2 := g2.cong (M' := M') (fun q => ⟨hz _ _ (by omega) (by omega) (by omega), hz _ _ (by omega) (by omega) (by omega)⟩)
  have k4 := g4.cong (M' := M') (fun q => hz _ _ (by omega) (by omega) (by omega))
  have k5 := g5.cong (M' := M') (fun p q g => hz p q (by omega) (by omega) (by omega))
  have k6 := g6.cong (M' := M') (fun p q g => hz p q (by omega) (by omega) (by omega))
  refine ⟨g1.add hn h1 h24 hc ha, ⟨k2.1, k2.2.1, fun k j e => by have := k2.2.2.1 k j e; omega, fun k j e => by have := k2.2.2.2 k j e; omega⟩, g3.cong (fun q => hz _ _ (by omega) (by omega) (by omega)), ⟨k4.1, fun k j e => by have := k4.2 k j e; omega⟩, ⟨k5.1, k5.2.1, fun j hj => by have := k5.2.2 j hj; exact ⟨by omega, this.2⟩⟩, ⟨k6.1, k6.2.1, fun i hi => by have := k6.2.2 i hi; exact ⟨by omega, by omega, this.2.2⟩⟩,
    g7.cong2 (hz _ _ (by omega) (by omega) (by omega)) (fun q => hz _ _ (by omega) (by omega) (by omega)), g8.cong2 (hz _ _ (by omega) (by omega) (by omega)) (fun q => hz _ _ (by omega) (by omega) (by omega)), ?_, ?_⟩
  · rw [hz _ _ (by omega) (by omega) (by omega), g9, Cnt_mo (show spB sp n = false by unfold spB; rw [hsn]; simp)]
  · rw [hz _ _ (by omega) (by omega) (by omega), g10, Cnt_mo (show spB bs n = false by unfold spB; rw [hbn]; simp)]
theorem RelI.name (h : RelI n len ch sp bs us st nc T) (hsp : ∀ k j, sp k = some j → k < n ∧ j < n) (hbs : ∀ k j, bs k = some j → k < n ∧ j < n) (hst : ∀ k j, st k = some j → k < n ∧ j < n) {sl : Nat} {sc : Nat → Nat} (ho : Fst (sameT len ch sl sc) n none) : RelI (n + 1) (va_up len n sl) (va_up ch n sc) sp bs us st nc T := by
  obtain ⟨h1, h2, h3, h4, h5, rk, h6⟩ := h
  refine ⟨h1.add ho, fun k hk => ?_, fun k hk => ?_, h4, fun k hk => h5 k (by omega), rk, fun k j hk e => h6 k j (hst k j e).1 e⟩
  · rcases Nat.lt_succ_iff_lt_or_eq.mp hk with a | a
    · have h9 := h2 k a
      cases hb : bs k with
      | none =>
        rw [hb] at h9
        exact lt_S h9 (fun e => by have := (hsp n k e).1; omega)
      | some b =>
        rw [hb] at h9
        refine ⟨by have := h9.1; omega, h9.2.1, lt_S (fun j hj e => ?_) (fun e => by have := (hsp n k e).1; omega)⟩
        rw [bt_up (by omega) (by have := h9.1; omega)]
        exact h9.2.2 j hj e
    · subst a
      have hb : bs k = none := by
        cases e : bs k with
        | none => rfl
        | some j => have := (hbs k j e).1; omega
      rw [hb]
      exact fun j hj e => by have := (hsp j k e).2; omega
  · cases e : sp k with
    | none => exact absurd e hk
    | some j => exact cbs_up (by have := (hsp k j e).1; omega) (h3 k hk)
theorem RelM.name (h : RelM M n len ch sp us st rc rw_ nc rf rt tl tc pl pc9) (hn : n < 60) (hsp : ∀ k j, sp k = some j → k < n ∧ j < n) (hst : ∀ k j, st k = some j → k < n ∧ j < n) (hus : us n = 0) {sl : Nat} {sc : Nat → Nat} (h1 : 1 ≤ sl) (h24 : sl ≤ 24) (hc : ∀ i, i < sl → 33 ≤ sc i ∧ sc i ≤ 126) (ha : CMd M M' n sl sc) : RelM M' (n + 1) (va_up len n sl) (va_up ch n sc) sp us st rc rw_ nc rf rt tl tc pl pc9 := by
  obtain ⟨g1, g2, g3, g4, g5, g6, g7⟩ := h
  obtain ⟨a1, a2, a3, a4, a5, a6, a7⟩ := ha
  have hsn : sp n = none := by
    cases e : sp n with
    | none => rfl
    | some j => have := (hsp n j e).1; omega
  have htn : st n = none := by
    cases e : st n with
    | none => rfl
    | some j => have := (hst n j e).1; omega
  have h0 : ∀ q, q ≠ 5 → M' 0 q = M 0 q := fun q hq => a7 0 q (by omega) (by omega) (by omega)
  have hk3 : ∀ p q, (p = 3 ∨ p = 4 ∨ p = 5 ∨ p = 6) → q < n → M' p q = M p q := fun p q hp hq => a7 p q (by omega) (by omega) (by omega)
  have hot : ∀ p q, p = 1 ∨ p = 7 ∨ p = 8 ∨ p = 9 → M' p q = M p q := fun p q hp => a7 p q (by omega) (by omega) (by omega)
  obtain ⟨b1, b2, b3, b4, b5, b6⟩ := g1
  refine ⟨⟨hn, a6, lt_S (fun k hk => ?_) ?_, lt_S (fun k hk => ?_) ?_, fun k j hk e => by have := hsp k j e; omega, fun k i hk hi => ?_⟩, lt_S (fun k hk => ?_) ?_, ⟨lt_S (fun k hk => ?_) ?_, fun k j _ e => by have := hst k j e; omega⟩, ⟨g4.1, by rw [h0 10 (by decide)]; exact g4.2.1, fun j hj => by rw [hot 7 j (by decide)]; have := g4.2.2 j hj; exact ⟨by omega, this.2⟩⟩, ⟨g5.1, by rw [h0 12 (by decide)]; exact g5.2.1, fun i hi => by rw [hot 8 _ (by decide), hot 8 _ (by decide)]; have := g5.2.2 i hi; exact ⟨by omega, by omega, this.2.2⟩⟩, ⟨g6.1, by rw [h0 2 (by decide)]; exact g6.2.1, fun i hi => by rw [hot 1 i (by decide)]; exact g6.2.2 i hi⟩, ⟨g7.1, by rw [h0 14 (by decide)]; exact g7.2.1, fun i hi => by rw [hot 9 i (by decide)]; exact g7.2.2 i hi⟩⟩
  · rw [va_up_ne _ _ (by omega), hk3 3 k (by decide) hk]; exact b3 k hk
  · rw [va_up_self]; exact ⟨h1, h24, a2⟩
  · rw [hk3 4 k (by decide) hk]; exact b4 k hk
  · rw [a3, hsn]; rfl
  · rcases Nat.lt_succ_iff_lt_or_eq.mp hk with z | z
    · rw [va_up_ne _ _ (by omega)] at hi ⊢
      have hlk := b3 k z
      rw [a7 2 (24 * k + i) (by omega) (by omega) (by omega)]
      exact b6 k i z hi
    · subst z
      rw [va_up_self] at hi ⊢
      exact ⟨(hc i hi).1, (hc i hi).2, a1 i hi⟩
  · rw [hk3 5 k (by decide) hk]; exact g2 k hk
  · rw [a4, hus]; exact ⟨by decide, rfl⟩
  · rw [hk3 6 k (by decide) hk]; exact g3.1 k hk
  · rw [a5, htn]; rfl
end Up
