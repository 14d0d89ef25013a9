def s1R (st : Nat → Option Nat) (a b k : Nat) : Option Nat := if st k = some a then some b else st k
def stR (st : Nat → Option Nat) (a b k : Nat) : Option Nat := if st a = none then s1R st a b k else if k = a then none else if k = b then st a else s1R st a b k
def usR (us : Nat → Nat) (a b k : Nat) : Nat := if k = a then 0 else if k = b then us b + us a else us k
def rwR (rw_ : Nat → Nat) (a b q : Nat) : Nat := if rw_ q = a then b else rw_ q
def eqB (f : Nat → Nat) (a : Nat) : Nat → Bool := fun q => decide (f q = a)
def soB (st : Nat → Option Nat) (a : Nat) : Nat → Bool := fun q => decide (st q = some a)
/-- how many places a rename changes -/
def plR (rc n : Nat) (rw_ us : Nat → Nat) (st : Nat → Option Nat) (a : Nat) : Nat := Cnt (eqB rw_ a) (3 * rc) + Cnt (soB st a) n + (if st a = none then 0 else 1) + (if us a = 0 then 0 else 1)
/-- the reference's picture behind a rename -/
def RNMd (M M' : PM) (n a b rc nc : Nat) (rw_ us : Nat → Nat) (st : Nat → Option Nat) : Prop :=
  (∀ q, q < 3 * rc → M' 7 q = nI (rwR rw_ a b q)) ∧ (∀ k, k < n → M' 6 k = oI (stR st a b k)) ∧ (∀ k, k < n → M' 5 k = nI (usR us a b k)) ∧ M' 8 (2 * nc) = nI a ∧ M' 8 (2 * nc + 1) = nI b ∧ (∀ q, q < 2 * nc → M' 8 q = M 8 q) ∧ M' 0 12 = nI (nc + 1) ∧ M' 0 0 = nI 0 ∧
  ∀ p q, p ≠ 5 → p ≠ 6 → p ≠ 7 → p ≠ 8 → ¬ (p = 0 ∧ (q = 12 ∨ q = 0)) → M' p q = M p q
theorem nI_le0 {a : Nat} (h : a < 2 ^ 31) : nI a ≤ 0 ↔ a = 0 := by
  have := nI_leI (a := a) (b := 0) h (by decide)
  rw [nI_0] at this
  rw [this]; omega
theorem nI_gt0 {a : Nat} (h : a < 2 ^ 31) : 0 < nI a ↔ 0 < a := by
  have := nI_ltI (a := 0) (b := a) (by decide) h
  rw [nI_0] at this
  exact this
