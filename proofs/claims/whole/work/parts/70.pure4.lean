section Up4
variable {Mc Mm M0 M1 M2 N0 : PM} {n : Nat} {len : Nat → Nat} {ch : Nat → Nat → Nat} {sp bs : Nat → Option Nat} {us : Nat → Nat} {st : Nat → Option Nat} {rc : Nat} {rw_ : Nat → Nat} {nc : Nat} {rf rt : Nat → Nat} {tl : Nat} {tc : Nat → Nat} {pl : Nat} {pc9 : Nat → Nat} {T : Nat}
/-- a name more, the tape emptied -/
theorem fin_nt (hT : T < 512) (hC : RelC Mc n len ch sp bs us st rc rw_ nc rf rt tl tc pl pc9) (hM : RelM Mm n len ch sp us st rc rw_ nc rf rt tl tc pl pc9) (hI9 : RelI n len ch sp bs us st nc T) (hK9 : Clh Mc Mm) (hn : n < 60) {sl : Nat} {sc : Nat → Nat} (h1 : 1 ≤ sl) (h24 : sl ≤ 24) (hc : ∀ i, i < sl → 33 ≤ sc i ∧ sc i ≤ 126) (ho : Fst (sameT len ch sl sc) n none) {Mx : PM} (hf : FCx Mc Mx) (hA : NAd Mx M0 n sl sc) (e1 : M1 = pu M0 1 1 (nI 0)) (hX : TX Mm N0) (hB : CMd N0 M2 n sl sc) : Inv M1 M2 (T + 1) ∧ M2 0 0 = nI 0 := by
  obtain ⟨N1, hs, h00, e2⟩ := hX
  have c2 := hC.2.1
  have c4 := hC.2.2.2.1
  have hM1 : RelM N0 n len ch sp us st rc rw_ nc rf rt 0 tc pl pc9 := by rw [e2]; exact (hM.sx hs).emp
  refine ⟨⟨hT, n + 1, va_up len n sl, va_up ch n sc, sp, bs, us, st, rc, rw_, nc, rf, rt, 0, tc, pl, pc9, by rw [e1]; exact ((hC.fx hf).name hn h1 h24 hc hA).emp, hM1.name hn c2.2.2.1 c4.2 (hI9.2.2.2.2.1 n (Nat.le_refl _)) h1 h24 hc hB, (hI9.name c2.2.2.1 c2.2.2.2 c4.2 ho).up, (hK9.fx hf hs).of (fun q _ => by rw [e1, pu_k _ _ _ _ _ (by decide)]; exact hA.2.2 0 q (by omega) (by omega) (by omega)) (fun q => by rw [hB.2.2.2.2.2.2 10 q (by omega) (by omega) (by omega), e2, pu_k _ _ _ _ _ (by decide)])⟩, ?_⟩
  rw [hB.2.2.2.2.2.2 0 0 (by omega) (by omega) (by omega), e2, pu_j _ _ _ _ _ (by decide)]
  exact h00
theorem fin_nj (hT : T < 512) (hC : RelC Mc n len ch sp bs us st rc rw_ nc rf rt tl tc pl pc9) (hM : RelM Mm n len ch sp us st rc rw_ nc rf rt tl tc pl pc9) (hI9 : RelI n len ch sp bs us st nc T) (hK9 : Clh Mc Mm) (hn : n < 60) {sl : Nat} {sc : Nat → Nat} (h1 : 1 ≤ sl) (h24 : sl ≤ 24) (hc : ∀ i, i < sl → 33 ≤ sc i ∧ sc i ≤ 126) (ho : Fst (sameT len ch sl sc) n none) (hf : FCx Mc M0) (hA : NAd M0 M1 n sl sc) (hs : SX Mm N0) (h00 : N0 0 0 = nI 0) (hB : CMd N0 M2 n sl sc) : Inv M1 M2 (T + 1) ∧ M2 0 0 = nI 0 := by
  have c2 := hC.2.1
  have c4 := hC.2.2.2.1
  refine ⟨⟨hT, n + 1, va_up len n sl, va_up ch n sc, sp, bs, us, st, rc, rw_, nc, rf, rt, tl, tc, pl, pc9, (hC.fx hf).name hn h1 h24 hc hA, (hM.sx hs).name hn c2.2.2.1 c4.2 (hI9.2.2.2.2.1 n (Nat.le_refl _)) h1 h24 hc hB, (hI9.name c2.2.2.1 c2.2.2.2 c4.2 ho).up, (hK9.fx hf hs).of (fun q _ => hA.2.2 0 q (by omega) (by omega) (by omega)) (fun q => hB.2.2.2.2.2.2 10 q (by omega) (by omega) (by omega))⟩, ?_⟩
  rw [hB.2.2.2.2.2.2 0 0 (by omega) (by omega) (by omega)]
  exact h00
/-- a name is used -/
theorem fin_us (hT : T < 512) (hC : RelC Mc n len ch sp bs us st rc rw_ nc rf rt tl tc pl pc9) (hM : RelM Mm n len ch sp us st rc rw_ nc rf rt tl tc pl pc9) (hI9 : RelI n len ch sp bs us st nc T) (hK9 : Clh Mc Mm) {a : Nat} (ha : a < n) (e1 : M1 = pu Mc 141 a (nI (us a + 1))) (e2 : M2 = pu (pu Mm 0 0 (nI 0)) 5 a (nI (us a + 1))) : Inv M1 M2 (T + 1) ∧ M2 0 0 = nI 0 := by
  obtain ⟨g1, g2, g3, g4, g5, g6, g7, g8, g9, g10⟩ := hC
  obtain ⟨m1, m2, m3, m4, m5, m6, m7⟩ := hM.thr (nI 0)
  obtain ⟨i1, i2, i3, i4, i5, i6⟩ := hI9
  have hnc := g6.1
  have hp : 1 ≤ 2 ^ nc := Nat.one_le_two_pow
  have hb : ∀ k, va_up us a (us a + 1) k ≤ (T + 1) * 2 ^ nc := fun k => by
    rw [Nat.succ_mul]
    by_cases z : k = a
    · rw [z, va_up_self]; have := i4 a; omega
    · rw [va_up_ne _ _ z]; have := i4 k; omega
  have hz : ∀ p q, p ≠ 141 → M1 p q = Mc p q := fun p q g => by rw [e1, pu_k _ _ _ _ _ g]
  have hw : ∀ p q, p ≠ 5 → M2 p q = pu Mm 0 0 (nI 0) p q := fun p q g => by rw [e2, pu_k _ _ _ _ _ g]
  refine ⟨⟨hT, n, len, ch, sp, bs, va_up us a (us a + 1), st, rc, rw_, nc, rf, rt, tl, tc, pl, pc9, ⟨g1.cong (fun p q _ _ => hz p q (by omega)), g2.cong (fun q => ⟨hz _ _ (by decide), hz _ _ (by decide)⟩), fun k hk => ⟨pw_b (hb k) hT hnc, ?_⟩, g4.cong (fun q => hz _ _ (by decide)), g5.cong (fun p q _ => hz p q (by omega)), g6.cong (fun p q _ => hz p q (by omega)), g7.cong2 (hz _ _ (by decide)) (fun q => hz _ _ (by decide)), g8.cong2 (hz _ _ (by decide)) (fun q => hz _ _ (by decide)), by rw [hz _ _ (by decide)]; exact g9, by rw [hz _ _ (by decide)]; exact g10⟩,
    ⟨⟨m1.1, by rw [hw _ _ (by decide)]; exact m1.2.1, fun k hk => by rw [hw _ _ (by decide)]; exact m1.2.2.1 k hk, fun k hk => by rw [hw _ _ (by decide)]; exact m1.2.2.2.1 k hk, m1.2.2.2.2.1, fun k i hk hi => by rw [hw _ _ (by decide)]; exact m1.2.2.2.2.2 k i hk hi⟩, fun k hk => ⟨pw_b (hb k) hT hnc, ?_⟩, ⟨fun k hk => by rw [hw _ _ (by decide)]; exact m3.1 k hk, m3.2⟩, ⟨m4.1, by rw [hw _ _ (by decide)]; exact m4.2.1, fun j hj => by rw [hw _ _ (by decide)]; exact m4.2.2 j hj⟩, ⟨m5.1, by rw [hw _ _ (by decide)]; exact m5.2.1, fun i hi => by rw [hw _ _ (by decide), hw _ _ (by decide)]; exact m5.2.2 i hi⟩, ⟨m6.1, by rw [hw _ _ (by decide)]; exact m6.2.1, fun i hi => by rw [hw _ _ (by decide)]; exact m6.2.2 i hi⟩, ⟨m7.1, by rw [hw _ _ (by decide)]; exact m7.2.1, fun i hi => by rw [hw _ _ (by decide)]; exact m7.2.2 i hi⟩⟩,
    ⟨i1, i2, i3, hb, fun k hk => by rw [va_up_ne _ _ (by omega)]; exact i5 k hk, i6⟩, hK9.of (fun q _ => hz _ _ (by decide)) (fun q => by rw [hw _ _ (by decide), pu_k _ _ _ _ _ (by decide)])⟩, by rw [hw _ _ (by decide), pu_s]⟩
  · by_cases z : k = a
    · rw [z, va_up_self, e1, pu_s]
    · rw [va_up_ne _ _ z, e1, pu_j _ _ _ _ _ z]; exact (g3 k hk).2
  · by_cases z : k = a
    · rw [z, va_up_self, e2, pu_s]
    · rw [va_up_ne _ _ z, e2, pu_j _ _ _ _ _ z]; exact (m2 k hk).2
/-- a row more -/
def rwA (rw_ : Nat → Nat) (rc a b d : Nat) (q : Nat) : Nat := if q = 3 * rc then a else if q = 3 * rc + 1 then b else if q = 3 * rc + 2 then d else rw_ q
theorem rwA_ok {F : Nat → Int32} {a b d : Nat} (ha : a < n) (hb : b < n) (hd : d < n) (h : ∀ j, j < 3 * rc → rw_ j < n ∧ F j = nI (rw_ j)) {G : Nat → Int32} (g0 : G (3 * rc) = nI a) (g1 : G (3 * rc + 1) = nI b) (g2 : G (3 * rc + 2) = nI d) (g3 : ∀ j, j < 3 * rc → G j = F j) : ∀ j, j < 3 * (rc + 1) → rwA rw_ rc a b d j < n ∧ G j = nI (rwA rw_ rc a b d j) := fun j hj => by
  unfold rwA
  by_cases z0 : j = 3 * rc
  · rw [if_pos z0]; exact ⟨ha, by rw [z0]; exact g0⟩
  rw [if_neg z0]
  by_cases z1 : j = 3 * rc + 1
  · rw [if_pos z1]; exact ⟨hb, by rw [z1]; exact g1⟩
  rw [if_neg z1]
  by_cases z2 : j = 3 * rc + 2
  · rw [if_pos z2]; exact ⟨hd, by rw [z2]; exact g2⟩
  rw [if_neg z2, g3 j (by omega)]
  exact h j (by omega)
theorem fin_rw (hT : T < 512) (hC : RelC Mc n len ch sp bs us st rc rw_ nc rf rt tl tc pl pc9) (hM : RelM Mm n len ch sp us st rc rw_ nc rf rt tl tc pl pc9) (hI9 : RelI n len ch sp bs us st nc T) (hK9 : Clh Mc Mm) {a b d : Nat} (ha : a < n) (hb : b < n) (hd : d < n) (h40 : rc < 40) (e1 : M1 = pu (pu (pu (pu Mc 133 (3 * rc) (nI a)) 133 (3 * rc + 1) (nI b)) 133 (3 * rc + 2) (nI d)) 132 1 (nI (rc + 1))) (e2 : M2 = pu (pu (pu (pu (pu (pu Mm 0 0 (nI 0)) 0 0 (nI 0)) 7 (3 * rc) (nI a)) 7 (3 * rc + 1) (nI b)) 7 (3 * rc + 2) (nI d)) 0 10 (nI (rc + 1))) : Inv M1 M2 (T + 1) ∧ M2 0 0 = nI 0 := by
  obtain ⟨g1, g2, g3, g4, g5, g6, g7, g8, g9, g10⟩ := hC
  obtain ⟨m1, m2, m3, m4, m5, m6, m7⟩ := (hM.thr (nI 0)).thr (nI 0)
  have hz : ∀ p q, p ≠ 132 → p ≠ 133 → M1 p q = Mc p q := fun p q a1 a2 => by rw [e1, pu_k _ _ _ _ _ a1, pu_k _ _ _ _ _ a2, pu_k _ _ _ _ _ a2, pu_k _ _ _ _ _ a2]
  have hw : ∀ p q, p ≠ 7 → ¬ (p = 0 ∧ q = 10) → M2 p q = pu (pu Mm 0 0 (nI 0)) 0 0 (nI 0) p q := fun p q a1 a2 => by rw [e2, pu_eq, if_neg a2, pu_k _ _ _ _ _ a1, pu_k _ _ _ _ _ a1, pu_k _ _ _ _ _ a1]
  refine ⟨⟨hT, n, len, ch, sp, bs, us, st, rc + 1, rwA rw_ rc a b d, nc, rf, rt, tl, tc, pl, pc9, ⟨g1.cong (fun p q _ _ => hz p q (by omega) (by omega)), g2.cong (fun q => ⟨hz _ _ (by decide) (by decide), hz _ _ (by decide) (by decide)⟩), g3.cong (fun q => hz _ _ (by decide) (by decide)), g4.cong (fun q => hz _ _ (by decide) (by decide)), ⟨h40, by rw [e1, pu_s], rwA_ok ha hb hd g5.2.2 ?_ ?_ ?_ ?_⟩, g6.cong (fun p q _ => hz p q (by omega) (by omega)), g7.cong2 (hz _ _ (by decide) (by decide)) (fun q => hz _ _ (by decide) (by decide)), g8.cong2 (hz _ _ (by decide) (by decide)) (fun q => hz _ _ (by decide) (by decide)), by rw [hz _ _ (by decide) (by decide)]; exact g9, by rw [hz _ _ (by decide) (by decide)]; exact g10⟩,
    ⟨⟨m1.1, by rw [hw _ _ (by decide) (by decide)]; exact m1.2.1, fun k hk => by rw [hw _ _ (by decide) (by omega)]; exact m1.2.2.1 k hk, fun k hk => by rw [hw _ _ (by decide) (by omega)]; exact m1.2.2.2.1 k hk, m1.2.2.2.2.1, fun k i hk hi => by rw [hw _ _ (by decide) (by omega)]; exact m1.2.2.2.2.2 k i hk hi⟩, fun k hk => by rw [hw _ _ (by decide) (by omega)]; exact m2 k hk, ⟨fun k hk => by rw [hw _ _ (by decide) (by omega)]; exact m3.1 k hk, m3.2⟩, ⟨h40, by rw [e2, pu_s], rwA_ok ha hb hd m4.2.2 ?_ ?_ ?_ ?_⟩, ⟨m5.1, by rw [hw _ _ (by decide) (by decide)]; exact m5.2.1, fun i hi => by rw [hw _ _ (by decide) (by omega), hw _ _ (by decide) (by omega)]; exact m5.2.2 i hi⟩, ⟨m6.1, by rw [hw _ _ (by decide) (by decide)]; exact m6.2.1, fun i hi => by rw [hw _ _ (by decide) (by omega)]; exact m6.2.2 i hi⟩, ⟨m7.1, by rw [hw _ _ (by decide) (by decide)]; exact m7.2.1, fun i hi => by rw [hw _ _ (by decide) (by omega)]; exact m7.2.2 i hi⟩⟩,
    hI9.up, hK9.of (fun q _ => hz _ _ (by decide) (by decide)) (fun q => by rw [hw _ _ (by decide) (by omega), pu_k _ _ _ _ _ (by decide), pu_k _ _ _ _ _ (by decide)])⟩, by rw [hw _ _ (by decide) (by decide), pu_s]⟩
  · rw [e1, pu_k _ _ _ _ _ (by decide), pu_j _ _ _ _ _ (by omega), pu_j _ _ _ _ _ (by omega), pu_s]
  · rw [e1, pu_k _ _ _ _ _ (by decide), pu_j _ _ _ _ _ (by omega), pu_s]
  · rw [e1, pu_k _ _ _ _ _ (by decide), pu_s]
  · intro j hj
    rw [e1, pu_k _ _ _ _ _ (by decide), pu_j _ _ _ _ _ (by omega), pu_j _ _ _ _ _ (by omega), pu_j _ _ _ _ _ (by omega)]
  · rw [e2, pu_k _ _ _ _ _ (by decide), pu_j _ _ _ _ _ (by omega), pu_j _ _ _ _ _ (by omega), pu_s]
  · rw [e2, pu_k _ _ _ _ _ (by decide), pu_j _ _ _ _ _ (by omega), pu_s]
  · rw [e2, pu_k _ _ _ _ _ (by decide), pu_s]
  · intro j hj
    rw [e2, pu_k _ _ _ _ _ (by decide), pu_j _ _ _ _ _ (by omega), pu_j _ _ _ _ _ (by omega), pu_j _ _ _ _ _ (by omega)]
/-- a name stands for another -/
theorem fin_al (hT : T < 512) (hC : RelC Mc n len ch sp bs us st rc rw_ nc rf rt tl tc pl pc9) (hM : RelM Mm n len ch sp us st rc rw_ nc rf rt tl tc pl pc9) (hI9 : RelI n len ch sp bs us st nc T) (hK9 : Clh Mc Mm) {a b : Nat} (ha : a < n) (hb : b < n) (hL : ¬ Lds st (some b) a) (e1 : M1 = pu Mc 135 a (nI b)) (e2 : M2 = pu (pu Mm 0 0 (nI 0)) 6 a (nI b)) : Inv M1 M2 (T + 1) ∧ M2 0 0 = nI 0 := by
  obtain ⟨g1, g2, g3, g4, g5, g6, g7, g8, g9, g10⟩ := hC
  obtain ⟨m1, m2, m3, m4, m5, m6, m7⟩ := hM.thr (nI 0)
  obtain ⟨i1, i2, i3, i4, i5, rk, i6⟩ := hI9.up
  have hz : ∀ p q, p ≠ 135 → M1 p q = Mc p q := fun p q g => by rw [e1, pu_k _ _ _ _ _ g]
  have hw : ∀ p q, p ≠ 6 → M2 p q = pu Mm 0 0 (nI 0) p q := fun p q g => by rw [e2, pu_k _ _ _ _ _ g]
  have hup : ∀ k j, va_up st a (some b) k = some j → k < n ∧ j < n := fun k j e => by
    by_cases z : k = a
    · rw [z, va_up_self] at e; cases e; exact ⟨by omega, hb⟩
    · rw [va_up_ne _ _ z] at e; exact g4.2 k j e
  refine ⟨⟨hT, n, len, ch, sp, bs, us, va_up st a (some b), rc, rw_, nc, rf, rt, tl, tc, pl, pc9, ⟨g1.cong (fun p q _ _ => hz p q (by omega)), g2.cong (fun q => ⟨hz _ _ (by decide), hz _ _ (by decide)⟩), g3.cong (fun q => hz _ _ (by decide)), ⟨fun k hk => ?_, hup⟩, g5.cong (fun p q _ => hz p q (by omega)), g6.cong (fun p q _ => hz p q (by omega)), g7.cong2 (hz _ _ (by decide)) (fun q => hz _ _ (by decide)), g8.cong2 (hz _ _ (by decide)) (fun q => hz _ _ (by decide)), by rw [hz _ _ (by decide)]; exact g9, by rw [hz _ _ (by decide)]; exact g10⟩,
    ⟨⟨m1.1, by rw [hw _ _ (by decide)]; exact m1.2.1, fun k hk => by rw [hw _ _ (by decide)]; exact m1.2.2.1 k hk, fun k hk => by rw [hw _ _ (by decide)]; exact m1.2.2.2.1 k hk, m1.2.2.2.2.1, fun k i hk hi => by rw [hw _ _ (by decide)]; exact m1.2.2.2.2.2 k i hk hi⟩, fun k hk => by rw [hw _ _ (by decide)]; exact m2 k hk, ⟨fun k hk => ?_, fun k j _ e => (hup k j e).2⟩, ⟨m4.1, by rw [hw _ _ (by decide)]; exact m4.2.1, fun j hj => by rw [hw _ _ (by decide)]; exact m4.2.2 j hj⟩, ⟨m5.1, by rw [hw _ _ (by decide)]; exact m5.2.1, fun i hi => by rw [hw _ _ (by decide), hw _ _ (by decide)]; exact m5.2.2 i hi⟩, ⟨m6.1, by rw [hw _ _ (by decide)]; exact m6.2.1, fun i hi => by rw [hw _ _ (by decide)]; exact m6.2.2 i hi⟩, ⟨m7.1, by rw [hw _ _ (by decide)]; exact m7.2.1, fun i hi => by rw [hw _ _ (by decide)]; exact m7.2.2 i hi⟩⟩,
    ⟨i1, i2, i3, i4, i5, rk_alias i6 hL⟩, hK9.of (fun q _ => hz _ _ (by decide)) (fun q => by rw [hw _ _ (by decide), pu_k _ _ _ _ _ (by decide)])⟩, by rw [hw _ _ (by decide), pu_s]⟩
  · by_cases z : k = a
    · rw [z, va_up_self, e1, pu_s]; rfl
    · rw [va_up_ne _ _ z, e1, pu_j _ _ _ _ _ z]; exact g4.1 k hk
  · by_cases z : k = a
    · rw [z, va_up_self, e2, pu_s]; rfl
    · rw [va_up_ne _ _ z, e2, pu_j _ _ _ _ _ z]; exact m3.1 k hk
/-- a short more: bs' is the best of each space then -/
theorem fin_px (hT : T < 512) (hC : RelC Mc n len ch sp bs us st rc rw_ nc rf rt tl tc pl pc9) (hM : RelM Mm n len ch sp us st rc rw_ nc rf rt tl tc pl pc9) (hI9 : RelI n len ch sp bs us st nc T) (hK9 : Clh Mc Mm) {s f : Nat} (hs : s < n) (hf : f < n) (hcb : cbs len ch f) (hs0 : sp f = none) {bs' : Nat → Option Nat} (hbs : ∀ k, k < n → Top (fun j => va_up sp f (some s) j = some k) (btS len ch) n (bs' k)) (hbn : ∀ k j, bs' k = some j → k < n ∧ j < n)
    (hz : ∀ p q, p ≠ 129 → p ≠ 130 → p ≠ 131 → M1 p q = Mc p q) (h130 : M1 130 f = nI s ∧ ∀ q, q ≠ f → M1 130 q = Mc 130 q) (h131 : ∀ q, q < 60 → M1 131 q = oI (bs' q)) (h3 : M1 129 3 = nI (Cnt (spB (va_up sp f (some s))) n)) (h4 : M1 129 4 = nI (Cnt (spB bs') n)) (e2 : M2 = pu (pu Mm 0 0 (nI 0)) 4 f (nI s)) : Inv M1 M2 (T + 1) ∧ M2 0 0 = nI 0 := by
  obtain ⟨g1, g2, g3, g4, g5, g6, g7, g8, g9, g10⟩ := hC
  obtain ⟨m1, m2, m3, m4, m5, m6, m7⟩ := hM.thr (nI 0)
  obtain ⟨i1, i2, i3, i4, i5, i6⟩ := hI9.up
  have hw : ∀ p q, p ≠ 4 → M2 p q = pu Mm 0 0 (nI 0) p q := fun p q g => by rw [e2, pu_k _ _ _ _ _ g]
  have hup : ∀ k j, va_up sp f (some s) k = some j → k < n ∧ j < n := fun k j e => by
    by_cases z : k = f
    · rw [z, va_up_self] at e; cases e; exact ⟨by omega, hs⟩
    · rw [va_up_ne _ _ z] at e; exact g2.2.2.1 k j e
  refine ⟨⟨hT, n, len, ch, va_up sp f (some s), bs', us, st, rc, rw_, nc, rf, rt, tl, tc, pl, pc9, ⟨g1.cong (fun p q _ _ => hz p q (by omega) (by omega) (by omega)), ⟨fun k hk => ?_, h131, hup, hbn⟩, g3.cong (fun q => hz _ _ (by decide) (by decide) (by decide)), g4.cong (fun q => hz _ _ (by decide) (by decide) (by decide)), g5.cong (fun p q _ => hz p q (by omega) (by omega) (by omega)), g6.cong (fun p q _ => hz p q (by omega) (by omega) (by omega)), g7.cong2 (hz _ _ (by decide) (by decide) (by decide)) (fun q => hz _ _ (by decide) (by decide) (by decide)), g8.cong2 (hz _ _ (by decide) (by decide) (by decide)) (fun q => hz _ _ (by decide) (by decide) (by decide)), h3, h4⟩,
    ⟨⟨m1.1, by rw [hw _ _ (by decide)]; exact m1.2.1, fun k hk => by rw [hw _ _ (by decide)]; exact m1.2.2.1 k hk, fun k hk => ?_, fun k j _ e => (hup k j e).2, fun k i hk hi => by rw [hw _ _ (by decide)]; exact m1.2.2.2.2.2 k i hk hi⟩, fun k hk => by rw [hw _ _ (by decide)]; exact m2 k hk, ⟨fun k hk => by rw [hw _ _ (by decide)]; exact m3.1 k hk, m3.2⟩, ⟨m4.1, by rw [hw _ _ (by decide)]; exact m4.2.1, fun j hj => by rw [hw _ _ (by decide)]; exact m4.2.2 j hj⟩, ⟨m5.1, by rw [hw _ _ (by decide)]; exact m5.2.1, fun i hi => by rw [hw _ _ (by decide), hw _ _ (by decide)]; exact m5.2.2 i hi⟩, ⟨m6.1, by rw [hw _ _ (by decide)]; exact m6.2.1, fun i hi => by rw [hw _ _ (by decide)]; exact m6.2.2 i hi⟩, ⟨m7.1, by rw [hw _ _ (by decide)]; exact m7.2.1, fun i hi => by rw [hw _ _ (by decide)]; exact m7.2.2 i hi⟩⟩,
    ⟨i1, hbs, fun k hk => ?_, i4, i5, i6⟩, hK9.of (fun q _ => hz _ _ (by decide) (by decide) (by decide)) (fun q => by rw [hw _ _ (by decide), pu_k _ _ _ _ _ (by decide)])⟩, by rw [hw _ _ (by decide), pu_s]⟩
  · by_cases z : k = f
    · rw [z, va_up_self, h130.1]; rfl
    · rw [va_up_ne _ _ z, h130.2 k z]; exact g2.1 k hk
  · by_cases z : k = f
    · rw [z, va_up_self, e2, pu_s]; rfl
    · rw [va_up_ne _ _ z, e2, pu_j _ _ _ _ _ z]; exact m1.2.2.2.1 k hk
  · by_cases z : k = f
    · rw [z]; exact hcb
    · rw [va_up_ne _ _ z] at hk; exact i3 k hk
end Up4
