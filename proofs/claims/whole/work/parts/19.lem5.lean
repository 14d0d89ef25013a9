theorem RN.tp {M : PM} {n : Nat} {len : Nat → Nat} {ch : Nat → Nat → Nat} {sp : Nat → Option Nat} (h : RN M n len ch sp) (x : Int32) : RN (pu M 0 2 x) n len ch sp := by
  obtain ⟨h1, h2, h3, h4, h5, h6⟩ := h
  refine ⟨h1, ?_, fun k hk => ?_, fun k hk => ?_, h5, fun k i hk hi => ?_⟩
  · rw [pu_j _ _ _ _ _ (by decide)]; exact h2
  · rw [pu_k _ _ _ _ _ (by decide)]; exact h3 k hk
  · rw [pu_k _ _ _ _ _ (by decide)]; exact h4 k hk
  · rw [pu_k _ _ _ _ _ (by decide)]; exact h6 k i hk hi
theorem MK.tp {M : PM} {sl : Nat} {sc : Nat → Nat} (h : MK M sl sc) (x : Int32) : MK (pu M 0 2 x) sl sc := ⟨h.1, by rw [pu_j _ _ _ _ _ (by decide)]; exact h.2.1, fun i hi => by rw [pu_k _ _ _ _ _ (by decide)]; exact h.2.2 i hi⟩
/-- the tape is empty then -/
def TX (M M' : PM) : Prop := ∃ M0, SX M M0 ∧ M0 0 0 = nI 0 ∧ M' = pu M0 0 2 (nI 0)
def smB (c : Nat) : Prop := 97 ≤ c ∧ c ≤ 122
def dgB (c : Nat) : Prop := 48 ≤ c ∧ c ≤ 57
/-- it can be a short -/
def cbs (len : Nat → Nat) (ch : Nat → Nat → Nat) (a : Nat) : Prop := len a ≤ 4 ∧ smB (ch a 0) ∧ ∀ i, 1 ≤ i → i < len a → smB (ch a i) ∨ dgB (ch a i)
theorem MK.cong {M : PM} {sl : Nat} {sc sc' : Nat → Nat} (h : MK M sl sc) (e : ∀ i, i < sl → sc i = sc' i) : MK M sl sc' := ⟨h.1, h.2.1, fun i hi => by rw [← e i hi]; exact h.2.2 i hi⟩
