/-! ===== the reference: what its pictures say ===== -/
theorem MK.begin (M : PM) (sc : Nat → Nat) : MK (pu M 0 17 0) 0 sc := ⟨by omega, by rw [pu_s]; rfl, fun i hi => absurd hi (Nat.not_lt_zero i)⟩
theorem SX.begin (M : PM) : SX M (pu M 0 17 0) := fun a b h1 h2 h3 => by
  rw [pu_eq, if_neg (by rintro ⟨q1, q2⟩; exact h3 ⟨q1, Or.inl q2⟩)]
theorem MK.add {M : PM} {sl : Nat} {sc : Nat → Nat} (h : MK M sl sc) (hs : sl < 64) (hc : sc sl < 128) : MK (pu (pu M 0 17 (nI (sl + 1))) 11 sl (nI (sc sl))) (sl + 1) sc := by
  refine ⟨by omega, ?_, fun i hi => ?_⟩
  · rw [pu_k _ _ _ _ _ (by decide), pu_s]
  · rcases Nat.lt_succ_iff_lt_or_eq.mp hi with q | q
    · rw [pu_j _ _ _ _ _ (by omega), pu_k _ _ _ _ _ (by decide)]
      exact h.2.2 i q
    · subst q
      exact ⟨hc, pu_s _ _ _ _⟩
theorem SX.add (M : PM) (sl : Nat) (x y : Int32) : SX M (pu (pu M 0 17 x) 11 sl y) := fun a b h1 h2 h3 => by
  rw [pu_k _ _ _ _ _ h1, pu_eq, if_neg (by rintro ⟨q1, q2⟩; exact h3 ⟨q1, Or.inl q2⟩)]
theorem SX.thr (M : PM) (x : Int32) : SX M (pu M 0 0 x) := fun a b h1 h2 h3 => by
  rw [pu_eq, if_neg (by rintro ⟨q1, q2⟩; exact h3 ⟨q1, Or.inr q2⟩)]
theorem MK.thr {M : PM} {sl : Nat} {sc : Nat → Nat} (h : MK M sl sc) (x : Int32) : MK (pu M 0 0 x) sl sc := ⟨h.1, by rw [pu_j _ _ _ _ _ (by decide)]; exact h.2.1, fun i hi => by rw [pu_k _ _ _ _ _ (by decide)]; exact h.2.2 i hi⟩
/-- the tape -/
def RT (M : PM) (tl : Nat) (tc : Nat → Nat) : Prop := tl ≤ 24 ∧ M 0 2 = nI tl ∧ ∀ i, i < tl → 33 ≤ tc i ∧ tc i ≤ 126 ∧ M 1 i = nI (tc i)
theorem RT.sx {M M' : PM} {tl : Nat} {tc : Nat → Nat} (h : RT M tl tc) (hs : SX M M') : RT M' tl tc :=
  ⟨h.1, by rw [hs 0 2 (by decide) (by decide) (by decide)]; exact h.2.1, fun i hi => by rw [hs 1 i (by decide) (by decide) (by omega)]; exact h.2.2 i hi⟩
/-- a name more: its characters, its size, no space, no uses, standing for none -/
def CMd (M M' : PM) (n sl : Nat) (sc : Nat → Nat) : Prop := (∀ i, i < sl → M' 2 (24 * n + i) = nI (sc i)) ∧ M' 3 n = nI sl ∧ M' 4 n = -1 ∧ M' 5 n = 0 ∧ M' 6 n = -1 ∧ M' 0 5 = nI (n + 1) ∧
  ∀ a b, ¬ (a = 2 ∧ 24 * n ≤ b ∧ b < 24 * n + sl) → ¬ ((a = 3 ∨ a = 4 ∨ a = 5 ∨ a = 6) ∧ b = n) → ¬ (a = 0 ∧ b = 5) → M' a b = M a b
