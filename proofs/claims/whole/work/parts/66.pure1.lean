/-! ===== the two pictures of one state ===== -/
def spB (f : Nat → Option Nat) : Nat → Bool := fun k => decide (f k ≠ none)
def RelC (M : PM) (n : Nat) (len : Nat → Nat) (ch : Nat → Nat → Nat) (sp bs : Nat → Option Nat) (us : Nat → Nat) (st : Nat → Option Nat) (rc : Nat) (rw_ : Nat → Nat) (nc : Nat) (rf rt : Nat → Nat) (tl : Nat) (tc : Nat → Nat) (pl : Nat) (pc9 : Nat → Nat) : Prop :=
  CN M n len ch ∧ CSp M n sp bs ∧ CU M us ∧ CSt M n st ∧ CW M n rc rw_ ∧ CR M n nc rf rt ∧ TT M 1 tl tc ∧ TT M 3 pl pc9 ∧ M 129 3 = nI (Cnt (spB sp) n) ∧ M 129 4 = nI (Cnt (spB bs) n)
def RelM (M : PM) (n : Nat) (len : Nat → Nat) (ch : Nat → Nat → Nat) (sp : Nat → Option Nat) (us : Nat → Nat) (st : Nat → Option Nat) (rc : Nat) (rw_ : Nat → Nat) (nc : Nat) (rf rt : Nat → Nat) (tl : Nat) (tc : Nat → Nat) (pl : Nat) (pc9 : Nat → Nat) : Prop :=
  RN M n len ch sp ∧ RU M n us ∧ RS M n st ∧ RW M n rc rw_ ∧ RR M n nc rf rt ∧ RT M tl tc ∧ RP M pl pc9
def RelI (n : Nat) (len : Nat → Nat) (ch : Nat → Nat → Nat) (sp bs : Nat → Option Nat) (us : Nat → Nat) (st : Nat → Option Nat) (nc T : Nat) : Prop :=
  DN n len ch ∧ (∀ k, k < n → Top (fun j => sp j = some k) (btS len ch) n (bs k)) ∧ (∀ k, sp k ≠ none → cbs len ch k) ∧ (∀ k, us k ≤ T * 2 ^ nc) ∧ (∀ k, n ≤ k → us k = 0) ∧ ∃ rk, Rk n st rk
def Clh (M M' : PM) : Prop := M 0 12 = M' 10 0 ∧ M 0 13 = M' 10 1 ∧ M 0 14 = M' 10 2
def Inv (Mc Mm : PM) (T : Nat) : Prop := T ≤ 512 ∧ ∃ (n : Nat) (len : Nat → Nat) (ch : Nat → Nat → Nat) (sp bs : Nat → Option Nat) (us : Nat → Nat) (st : Nat → Option Nat) (rc : Nat) (rw_ : Nat → Nat) (nc : Nat) (rf rt : Nat → Nat) (tl : Nat) (tc : Nat → Nat) (pl : Nat) (pc9 : Nat → Nat),
  RelC Mc n len ch sp bs us st rc rw_ nc rf rt tl tc pl pc9 ∧ RelM Mm n len ch sp us st rc rw_ nc rf rt tl tc pl pc9 ∧ RelI n len ch sp bs us st nc T ∧ Clh Mc Mm
theorem RelI.up {n : Nat} {len : Nat → Nat} {ch : Nat → Nat → Nat} {sp bs : Nat → Option Nat} {us : Nat → Nat} {st : Nat → Option Nat} {nc T : Nat} (h : RelI n len ch sp bs us st nc T) : RelI n len ch sp bs us st nc (T + 1) :=
  ⟨h.1, h.2.1, h.2.2.1, fun k => Nat.le_trans (h.2.2.2.1 k) (Nat.mul_le_mul_right _ (Nat.le_succ T)), h.2.2.2.2⟩
/-- the class's scratch may differ -/
def FCx (M M' : PM) : Prop := ∀ p q, ¬ (p = 5 ∧ q = 1) → p ≠ 6 → p ≠ 140 → p ≠ 142 → p ≠ 143 → M' p q = M p q
theorem FCx.rf (M : PM) : FCx M M := fun _ _ _ _ _ _ _ => rfl
theorem FCx.t5 {M M' : PM} (h : FT 5 M M') : FCx M M' := fun p q h1 h2 _ _ _ => h p q h1 h2
theorem FCx.e {M M' : PM} (h : F140 M M') : FCx M M' := fun p q _ _ h3 _ _ => h p q h3
theorem FCx.x {M M' : PM} (h : FX 142 M M') : FCx M M' := fun p q _ _ _ h4 _ => h p q h4
theorem FCx.m {M M' : PM} (h : FM M M') : FCx M M' := fun p q _ _ h3 _ h5 => h p q h3 h5
section Fr
variable {M M' : PM} {n : Nat} {len : Nat → Nat} {ch : Nat → Nat → Nat} {sp bs : Nat → Option Nat} {us : Nat → Nat} {st : Nat → Option Nat} {rc : Nat} {rw_ : Nat → Nat} {nc : Nat} {rf rt : Nat → Nat} {tl : Nat} {tc : Nat → Nat} {pl : Nat} {pc9 : Nat → Nat}
theorem CSp.cong (h : CSp M n sp bs) (e : ∀ q, M' 130 q = M 130 q ∧ M' 131 q = M 131 q) : CSp M' n sp bs := ⟨fun k hk => by rw [(e k).1]; exact h.1 k hk, fun k hk => by rw [(e k).2]; exact h.2.1 k hk, h.2.2⟩
theorem CR.cong (h : CR M n nc rf rt) (e : ∀ p q, p = 136 ∨ p = 137 ∨ p = 138 → M' p q = M p q) : CR M' n nc rf rt := ⟨h.1, by rw [e 136 _ (by decide)]; exact h.2.1, fun i hi => by rw [e 137 _ (by decide), e 138 _ (by decide)]; exact h.2.2 i hi⟩
theorem RelC.fx (h : RelC M n len ch sp bs us st rc rw_ nc rf rt tl tc pl pc9) (hf : FCx M M') : RelC M' n len ch sp bs us st rc rw_ nc rf rt tl tc pl pc9 := by
  obtain ⟨h1, h2, h3, h4, h5, h6, h7, h8, h9, h10⟩ := h
  have hz : ∀ p q, p ≠ 5 → p ≠ 6 → p ≠ 140 → p ≠ 142 → p ≠ 143 → M' p q = M p q := fun p q g1 g2 g3 g4 g5 => hf p q (fun z => g1 z.1) g2 g3 g4 g5
  refine ⟨h1.cong (fun p q g1 g2 => hz p q (by omega) (by omega) (by omega) (by omega) (by omega)), h2.cong (fun q => ⟨hz _ _ (by decide) (by decide) (by decide) (by decide) (by decide), hz _ _ (by decide) (by decide) (by decide) (by decide) (by decide)⟩), h3.cong (fun q => hz _ _ (by decide) (by decide) (by decide) (by decide) (by decide)), h4.cong (fun q => hz _ _ (by decide) (by decide) (by decide) (by decide) (by decide)),
    h5.cong (fun p q g => hz p q (by omega) (by omega) (by omega) (by omega) (by omega)), h6.cong (fun p q g => hz p q (by omega) (by omega) (by omega) (by omega) (by omega)), h7.cong2 (hz _ _ (by decide) (by decide) (by decide) (by decide) (by decide)) (fun q => hz _ _ (by decide) (by decide) (by decide) (by decide) (by decide)), h8.cong2 (hz _ _ (by decide) (by decide) (by decide) (by decide) (by decide)) (fun q => hz _ _ (by decide) (by decide) (by decide) (by decide) (by decide)), ?_, ?_⟩
  · rw [hz _ _ (by decide) (by decide) (by decide) (by decide) (by decide)]; exact h9
  · rw [hz _ _ (by decide) (by decide) (by decide) (by decide) (by decide)]; exact h10
theorem RelM.sx (h : RelM M n len ch sp us st rc rw_ nc rf rt tl tc pl pc9) (hs : SX M M') : RelM M' n len ch sp us st rc rw_ nc rf rt tl tc pl pc9 :=
  ⟨h.1.sx hs, h.2.1.sx hs, h.2.2.1.sx hs, h.2.2.2.1.sx hs, h.2.2.2.2.1.sx hs, h.2.2.2.2.2.1.sx hs, h.2.2.2.2.2.2.sx hs⟩
end Fr
theorem Clh.fx {M M' N N' : PM} (h : Clh M N) (hf : FCx M M') (hs : SX N N') : Clh M' N' := by
  refine ⟨?_, ?_, ?_⟩
  · rw [hf 0 12 (by decide) (by decide) (by decide) (by decide) (by decide), hs 10 0 (by decide) (by decide) (by decide)]; exact h.1
  · rw [hf 0 13 (by decide) (by decide) (by decide) (by decide) (by decide), hs 10 1 (by decide) (by decide) (by decide)]; exact h.2.1
  · rw [hf 0 14 (by decide) (by decide) (by decide) (by decide) (by decide), hs 10 2 (by decide) (by decide) (by decide)]; exact h.2.2
/-- nothing but scratch and the sign of a refusal has changed -/
theorem Inv.same {Mc Mm Mc' Mm' : PM} {T : Nat} (h : Inv Mc Mm T) (hT : T < 512) (hf : FCx Mc Mc') (hs : SX Mm Mm') : Inv Mc' Mm' (T + 1) := by
  obtain ⟨h0, n, len, ch, sp, bs, us, st, rc, rw_, nc, rf, rt, tl, tc, pl, pc9, h1, h2, h3, h4⟩ := h
  exact ⟨hT, n, len, ch, sp, bs, us, st, rc, rw_, nc, rf, rt, tl, tc, pl, pc9, h1.fx hf, h2.sx hs, h3.up, h4.fx hf hs⟩
/-! what is there -/
theorem spo_ex (n : Nat) (len : Nat → Nat) (ch : Nat → Nat → Nat) (sp : Nat → Option Nat) : ∃ spo : Nat → Option Nat, ∀ k, k < n → Best (spC n len ch sp k) len n (spo k) :=
  ⟨fun k => Classical.choose (Best.ex (spC n len ch sp k) len n), fun k _ => Classical.choose_spec (Best.ex (spC n len ch sp k) len n)⟩
theorem bfun_ex (P : Nat → Prop) : ∃ b : Nat → Bool, ∀ k, b k = true ↔ P k := ⟨fun k => @decide _ (Classical.propDecidable (P k)), fun k => @decide_eq_true_iff _ (Classical.propDecidable _)⟩
theorem bfun2_ex (P : Nat → Nat → Prop) : ∃ b : Nat → Nat → Bool, ∀ k j, b k j = true ↔ P k j := ⟨fun k j => @decide _ (Classical.propDecidable (P k j)), fun k j => @decide_eq_true_iff _ (Classical.propDecidable _)⟩
theorem Cut1.ex (len : Nat → Nat) (ch : Nat → Nat → Nat) (a : Nat) : ∃ c, Cut1 len ch a c := by
  obtain ⟨o, ho⟩ := Fst.ex (fun i => ch a i = 35) (len a)
  cases o with
  | none => exact ⟨len a, Nat.le_refl _, fun q hq => ho q hq, Or.inl rfl⟩
  | some c => exact ⟨c, Nat.le_of_lt ho.1, fun q hq => ho.2.2 q hq, Or.inr ho.2.1⟩
/-! ranks -/
theorem itS_add (st : Nat → Option Nat) (a b : Nat) (o : Option Nat) : itS st (a + b) o = itS st b (itS st a o) := by
  induction a generalizing o with
  | zero => rw [Nat.zero_add]; rfl
  | succ a ih =>
    rw [Nat.succ_add]
    show itS st (a + b) (o.bind st) = _
    rw [ih]
    rfl
theorem Lds_tr {st : Nat → Option Nat} {o : Option Nat} {b d : Nat} (h : Lds st o b) (h' : Lds st (some b) d) : Lds st o d := by
  obtain ⟨x, hx⟩ := h
  obtain ⟨y, hy⟩ := h'
  exact ⟨x + y, by rw [itS_add, hx]; exact hy⟩
theorem Lds_next {st : Nat → Option Nat} {k j b : Nat} (hj : st k = some j) (h : Lds st (some j) b) : Lds st (some k) b := by
  obtain ⟨x, hx⟩ := h
  exact ⟨x + 1, by show itS st x ((some k).bind st) = _; rw [Option.bind_some, hj]; exact hx⟩
/-- along what names stand for the rank falls -/
theorem Lds_rk {n : Nat} {st : Nat → Option Nat} {rk : Nat → Nat} (hR : Rk n st rk) (hn : ∀ k j, st k = some j → k < n ∧ j < n) : ∀ (x k b : Nat), itS st x (some k) = some b → k = b ∨ rk b < rk k := by
  intro x
  induction x with
  | zero => intro k b h; exact Or.inl (Option.some.inj h)
  | succ x ih =>
    intro k b h
    have h : itS st x (st k) = some b := h
    cases hs : st k with
    | none => rw [hs, itS_none] at h; cases h
    | some j =>
      rw [hs] at h
      have h1 := hR k j (hn k j hs).1 hs
      rcases ih j b h with e | e
      · right; rw [← e]; exact h1
      · right; omega
theorem Lds_lt {n : Nat} {st : Nat → Option Nat} {rk : Nat → Nat} (hR : Rk n st rk) (hn : ∀ k j, st k = some j → k < n ∧ j < n) {k b : Nat} (h : Lds st (st k) b) : rk b < rk k := by
  cases hs : st k with
  | none => rw [hs] at h; exact absurd h Lds_none
  | some j =>
    rw [hs] at h
    obtain ⟨x, hx⟩ := h
    have h1 := hR k j (hn k j hs).1 hs
    rcases Lds_rk hR hn x j b hx with e | e
    · rw [← e]; exact h1
    · omega
theorem rk_bound {n : Nat} {st : Nat → Option Nat} {rk : Nat → Nat} (hR : Rk n st rk) (hn : ∀ k j, st k = some j → k < n ∧ j < n) (h60 : n ≤ 60) : ∃ rk', Rk n st rk' ∧ ∀ k, k < n → rk' k < 60 := by
  obtain ⟨lb, hlb⟩ := bfun2_ex (fun k j => Lds st (st k) j)
  refine ⟨fun k => Cnt (lb k) n, fun k j hk hj => ?_, fun k hk => ?_⟩
  · refine Cnt_lt (k := j) (hn k j hj).2 ?_ ((hlb k j).mpr (by rw [hj]; exact Lds_self st j)) (fun q _ hq => ?_)
    · exact b_f (hlb j j) (fun h => Nat.lt_irrefl _ (Lds_lt hR hn h))
    · refine (hlb k q).mpr ?_
      rw [hj]
      have h := (hlb j q).mp hq
      cases hs : st j with
      | none => rw [hs] at h; exact absurd h Lds_none
      | some i => rw [hs] at h; exact Lds_next hs h
  · have h1 : Cnt (lb k) n < Cnt (fun _ => true) n := Cnt_lt (k := k) hk (b_f (hlb k k) (fun h => Nat.lt_irrefl _ (Lds_lt hR hn h))) rfl (fun _ _ _ => rfl)
    have h2 := Cnt_le (fun _ => true) n
    show Cnt (lb k) n < 60
    omega
theorem EndS.ex {n : Nat} {st : Nat → Option Nat} {rk : Nat → Nat} (hR : Rk n st rk) (hn : ∀ k j, st k = some j → k < n ∧ j < n) : ∀ (x k : Nat), rk k ≤ x → ∃ e, EndS st k e := by
  intro x
  induction x with
  | zero =>
    intro k h
    cases hs : st k with
    | none => exact ⟨k, Lds_self st k, hs⟩
    | some j => have := hR k j (hn k j hs).1 hs; omega
  | succ x ih =>
    intro k h
    cases hs : st k with
    | none => exact ⟨k, Lds_self st k, hs⟩
    | some j =>
      have := hR k j (hn k j hs).1 hs
      obtain ⟨e, h1, h2⟩ := ih j (by omega)
      exact ⟨e, Lds_next hs h1, h2⟩
/-- a name stands for another now -/
theorem rk_alias {n : Nat} {st : Nat → Option Nat} {rk : Nat → Nat} (hR : Rk n st rk) {a b : Nat} (hL : ¬ Lds st (some b) a) : ∃ rk', Rk n (va_up st a (some b)) rk' := by
  obtain ⟨lb, hlb⟩ := bfun_ex (fun k => Lds st (some k) a)
  refine ⟨fun k => if lb k then rk k + rk b + 1 else rk k, fun k j hk hj => ?_⟩
  by_cases hka : k = a
  · subst hka
    rw [va_up_self] at hj
    cases hj
    have h1 : lb b = false := b_f (hlb b) hL
    have h2 : lb k = true := (hlb k).mpr (Lds_self st k)
    simp only [h1, h2]
    simp
    omega
  · rw [va_up_ne _ _ hka] at hj
    have h1 := hR k j hk hj
    have h2 : lb k = lb j := by
      cases h3 : lb j with
      | true => exact (hlb k).mpr (Lds_next hj ((hlb j).mp h3))
      | false => exact b_f (hlb k) (fun h => by
          have := (Lds_step hka).mp h
          rw [hj] at this
          rw [(hlb j).mpr this] at h3
          cases h3)
    simp only [h2]
    cases lb j <;> simp <;> omega
theorem rk_rename {n : Nat} {st : Nat → Option Nat} {rk : Nat → Nat} (hR : Rk n st rk) (hn : ∀ k j, st k = some j → k < n ∧ j < n) {a b : Nat} (hab : a ≠ b) (hno : st a = none ∨ st b = none) (hL1 : ¬ Lds st (some a) b) (hL2 : ¬ Lds st (some b) a) : ∃ rk', Rk n (stR st a b) rk' := by
  obtain ⟨la, hla⟩ := bfun_ex (fun k => Lds st (some k) a)
  obtain ⟨lb, hlb⟩ := bfun_ex (fun k => Lds st (some k) b)
  have stp : ∀ {f : Nat → Bool} {c : Nat}, (∀ k, f k = true ↔ Lds st (some k) c) → ∀ {k j : Nat}, k ≠ c → st k = some j → f k = f j := fun {f c} hf {k j} hk hj => by
    cases h3 : f j with
    | true => exact (hf k).mpr (Lds_next hj ((hf j).mp h3))
    | false => exact b_f (hf k) (fun h => by
        have := (Lds_step hk).mp h
        rw [hj] at this
        rw [(hf j).mpr this] at h3
        cases h3)
  have hba : la b = false := b_f (hla b) hL2
  have hbb : lb b = true := (hlb b).mpr (Lds_self st b)
  have haa : la a = true := (hla a).mpr (Lds_self st a)
  have hab2 : lb a = false := b_f (hlb a) hL1
  cases hsa : st a with
  | none =>
    refine ⟨fun k => if la k then rk k + rk b + 1 else rk k, fun k j hk hj => ?_⟩
    unfold stR at hj
    rw [if_pos hsa] at hj
    unfold s1R at hj
    by_cases h1 : st k = some a
    · rw [if_pos h1] at hj
      cases hj
      have h2 : la k = true := (hla k).mpr (Lds_next h1 (Lds_self st a))
      simp only [h2, hba]
      simp
      omega
    · rw [if_neg h1] at hj
      have hka : k ≠ a := fun e => by rw [e, hsa] at hj; cases hj
      have h2 := stp hla hka hj
      have h3 := hR k j hk hj
      simp only [h2]
      cases la j <;> simp <;> omega
  | some c =>
    have hsb : st b = none := hno.resolve_left (by rw [hsa]; simp)
    have hra := hR a c (hn a c hsa).1 hsa
    refine ⟨fun k => if lb k then rk k + rk a + 1 else if la k ∧ k ≠ a then rk k + rk b + rk a + 1 else rk k, fun k j hk hj => ?_⟩
    unfold stR at hj
    rw [if_neg (by rw [hsa]; simp)] at hj
    by_cases hka : k = a
    · rw [if_pos hka] at hj; cases hj
    rw [if_neg hka] at hj
    by_cases hkb : k = b
    · rw [if_pos hkb, hsa] at hj
      cases hj
      subst hkb
      have h1 : lb c = false := b_f (hlb c) (fun h => hL1 (Lds_next hsa h))
      have h2 : la c = false := b_f (hla c) (fun h => by
        have := Lds_lt hR hn (k := a) (b := a) (by rw [hsa]; exact h)
        omega)
      simp only [h1, h2, hbb]
      simp
      omega
    rw [if_neg hkb] at hj
    unfold s1R at hj
    by_cases h1 : st k = some a
    · rw [if_pos h1] at hj
      cases hj
      have h2 : la k = true := (hla k).mpr (Lds_next h1 (Lds_self st a))
      have h3 : lb k = false := by rw [stp hlb hkb h1]; exact hab2
      have h4 := hR k a hk h1
      simp only [h2, h3, hbb]
      simp [hka]
      omega
    · rw [if_neg h1] at hj
      have h2 := stp hla hka hj
      have h3 := stp hlb hkb hj
      have h4 := hR k j hk hj
      have hja : j ≠ a := fun e => h1 (by rw [hj, e])
      simp only [h2, h3]
      cases lb j <;> cases la j <;> simp [hka, hja] <;> omega
