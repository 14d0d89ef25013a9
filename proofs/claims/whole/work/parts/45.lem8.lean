/-! ===== the short that is proposed ===== -/
def isL (c : Nat) : Bool := decide ((97 ≤ c ∧ c ≤ 122) ∨ (65 ≤ c ∧ c ≤ 90))
def smC (c : Nat) : Nat := if 65 ≤ c ∧ c ≤ 90 then c + 32 else c
theorem isL_iff (c : Nat) : isL c = true ↔ ((97 ≤ c ∧ c ≤ 122) ∨ (65 ≤ c ∧ c ≤ 90)) := decide_eq_true_iff
theorem smC_lt {c : Nat} (h : c < 128) : smC c < 128 := by unfold smC; split <;> omega
theorem orL : ∀ c, c < 128 → isL c = true → nI c ||| nI 32 = nI (smC c) := by decide +kernel
/-- the last letters of a name: from f on, below e -/
def RunL (len : Nat → Nat) (ch : Nat → Nat → Nat) (a f e : Nat) : Prop := f ≤ e ∧ e ≤ len a ∧ (∀ q, e ≤ q → q < len a → isL (ch a q) = false) ∧ (e = 0 ∨ isL (ch a (e - 1)) = true) ∧ (∀ q, f ≤ q → q < e → isL (ch a q) = true) ∧ (f = 0 ∨ isL (ch a (f - 1)) = false)
theorem RunL.end_ {len : Nat → Nat} {ch : Nat → Nat → Nat} {a f e e' : Nat} (h : RunL len ch a f e) (h1 : e' ≤ len a) (h2 : ∀ q, e' ≤ q → q < len a → isL (ch a q) = false) (h3 : e' = 0 ∨ isL (ch a (e' - 1)) = true) : e' = e := by
  obtain ⟨g1, g2, g3, g4, g5, g6⟩ := h
  rcases Nat.lt_trichotomy e' e with q | q | q
  · rcases g4 with z | z
    · omega
    · rw [h2 (e - 1) (by omega) (by omega)] at z; cases z
  · exact q
  · rcases h3 with z | z
    · omega
    · rw [g3 (e' - 1) (by omega) (by omega)] at z; cases z
theorem RunL.from_ {len : Nat → Nat} {ch : Nat → Nat → Nat} {a f e f' : Nat} (h : RunL len ch a f e) (h1 : f' ≤ e) (h2 : ∀ q, f' ≤ q → q < e → isL (ch a q) = true) (h3 : f' = 0 ∨ isL (ch a (f' - 1)) = false) : f' = f := by
  obtain ⟨g1, g2, g3, g4, g5, g6⟩ := h
  rcases Nat.lt_trichotomy f' f with q | q | q
  · rcases g6 with z | z
    · omega
    · rw [h2 (f - 1) (by omega) (by omega)] at z; cases z
  · exact q
  · rcases h3 with z | z
    · omega
    · rw [g5 (f' - 1) (by omega) (by omega)] at z; cases z
theorem dn_ex (P : Nat → Bool) : ∀ n, ∃ e, e ≤ n ∧ (∀ q, e ≤ q → q < n → P q = false) ∧ (e = 0 ∨ P (e - 1) = true) := by
  intro n
  induction n with
  | zero => exact ⟨0, Nat.le_refl _, fun q _ h => absurd h (Nat.not_lt_zero q), Or.inl rfl⟩
  | succ n ih =>
    cases hp : P n with
    | true => exact ⟨n + 1, Nat.le_refl _, fun q h1 h2 => absurd h1 (by omega), Or.inr hp⟩
    | false =>
      obtain ⟨e, h1, h2, h3⟩ := ih
      refine ⟨e, by omega, fun q g1 g2 => ?_, h3⟩
      rcases Nat.lt_succ_iff_lt_or_eq.mp g2 with z | z
      · exact h2 q g1 z
      · rw [z]; exact hp
theorem RunL.ex (len : Nat → Nat) (ch : Nat → Nat → Nat) (a : Nat) : ∃ f e, RunL len ch a f e := by
  obtain ⟨e, h1, h2, h3⟩ := dn_ex (fun q => isL (ch a q)) (len a)
  obtain ⟨f, g1, g2, g3⟩ := dn_ex (fun q => !isL (ch a q)) e
  refine ⟨f, e, g1, h1, h2, h3, fun q k1 k2 => ?_, ?_⟩
  · have := g2 q k1 k2
    simpa using this
  · rcases g3 with z | z
    · exact Or.inl z
    · exact Or.inr (by simpa using z)
def blP (f e : Nat) : Nat := if f = e then 1 else e - f
def bcP (ch : Nat → Nat → Nat) (a f e : Nat) : Nat → Nat := fun i => if f = e then 110 else smC (ch a (f + i))
/-- the j-th that is tried: its size, its characters -/
def clP (m j : Nat) : Nat := if j < m then j + 1 else if j - m + 1 < 10 then 2 else 3
def ccP (bc : Nat → Nat) (m j : Nat) : Nat → Nat := fun i => if j < m then bc i else if i = 0 then bc 0 else if j - m + 1 < 10 then 48 + (j - m + 1) else if i = 1 then 48 + (j - m + 1) / 10 else 48 + (j - m + 1) % 10
def tkP (n : Nat) (len : Nat → Nat) (ch : Nat → Nat → Nat) (sp : Nat → Option Nat) (sl : Nat) (sc : Nat → Nat) : Prop := ∃ k, Fst (sameT len ch sl sc) n (some k) ∧ sp k ≠ none
theorem tk_iff {n : Nat} {len : Nat → Nat} {ch : Nat → Nat → Nat} {sp : Nat → Option Nat} {sl : Nat} {sc : Nat → Nat} {o : Option Nat} (h : Fst (sameT len ch sl sc) n o) : tkP n len ch sp sl sc ↔ ∃ k, o = some k ∧ sp k ≠ none :=
  ⟨fun ⟨k, h1, h2⟩ => ⟨k, h.uniq h1, h2⟩, fun ⟨k, h1, h2⟩ => ⟨k, by rw [← h1]; exact h, h2⟩⟩
/-- the one that is chosen -/
def ChP (T : Nat → Prop) (m r : Nat) : Prop := r < m + 99 ∧ (∀ j, j < r → T j) ∧ (¬ T r ∨ r = m + 98)
theorem ChP.uniq {T : Nat → Prop} {m r r' : Nat} (h : ChP T m r) (h' : ChP T m r') : r = r' := by
  obtain ⟨h1, h2, h3⟩ := h
  obtain ⟨g1, g2, g3⟩ := h'
  rcases Nat.lt_trichotomy r r' with q | q | q
  · rcases h3 with z | z
    · exact absurd (g2 r q) z
    · omega
  · exact q
  · rcases g3 with z | z
    · exact absurd (h2 r' q) z
    · omega
theorem ChP.ex (T : Nat → Prop) (m : Nat) : ∃ r, ChP T m r := by
  obtain ⟨o, ho⟩ := Fst.ex (fun j => ¬ T j) (m + 98)
  cases o with
  | none => exact ⟨m + 98, by omega, fun j hj => Classical.not_not.mp (ho j hj), Or.inr rfl⟩
  | some k => exact ⟨k, by have := ho.1; omega, fun j hj => Classical.not_not.mp (ho.2.2 j hj), Or.inl ho.2.1⟩
theorem blP_b {f e n : Nat} (h1 : f ≤ e) (h2 : e ≤ n) (h3 : 1 ≤ n) : 1 ≤ blP f e ∧ blP f e ≤ n := by unfold blP; split <;> omega
theorem clP_b (m j : Nat) (hm : m ≤ 4) : 1 ≤ clP m j ∧ clP m j ≤ 4 := by unfold clP; split <;> (try split) <;> omega
theorem bcP_lt {len : Nat → Nat} {ch : Nat → Nat → Nat} {a f e : Nat} (h : RunL len ch a f e) (hc : ∀ i, i < len a → ch a i < 128) (i : Nat) (hi : i < blP f e) : bcP ch a f e i < 128 := by
  unfold bcP
  unfold blP at hi
  have h1 := h.1
  have h2 := h.2.1
  by_cases z : f = e
  · rw [if_pos z]; decide
  · rw [if_neg z]
    rw [if_neg z] at hi
    exact smC_lt (hc _ (by omega))
theorem ccP_lt {bc : Nat → Nat} {bl m j : Nat} (hb : ∀ i, i < bl → bc i < 128) (hm : m = min bl 4) (h1 : 1 ≤ bl) (hj : j < m + 99) (i : Nat) (hi : i < clP m j) : ccP bc m j i < 128 := by
  unfold clP at hi
  unfold ccP
  by_cases z : j < m
  · rw [if_pos z] at hi ⊢
    exact hb i (by omega)
  · rw [if_neg z] at hi ⊢
    by_cases z1 : i = 0
    · rw [if_pos z1]; exact hb 0 (by omega)
    · rw [if_neg z1]
      split
      · omega
      · split <;> omega
