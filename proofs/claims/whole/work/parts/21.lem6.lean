/-- up to the last '/', with that -/
def cutF (ch : Nat → Nat → Nat) (a : Nat) : Nat → Nat
  | 0 => 0
  | i + 1 => if ch a i = 47 then i + 1 else cutF ch a i
theorem cutF_le (ch : Nat → Nat → Nat) (a i : Nat) : cutF ch a i ≤ i := by
  induction i with
  | zero => exact Nat.le_refl 0
  | succ i ih => simp only [cutF]; split <;> omega
/-- up to the first '#' -/
def Cut1 (len : Nat → Nat) (ch : Nat → Nat → Nat) (a c : Nat) : Prop := c ≤ len a ∧ (∀ q, q < c → ch a q ≠ 35) ∧ (c = len a ∨ ch a c = 35)
theorem Cut1.uniq {len : Nat → Nat} {ch : Nat → Nat → Nat} {a c c' : Nat} (h : Cut1 len ch a c) (h' : Cut1 len ch a c') : c = c' := by
  obtain ⟨h1, h2, h3⟩ := h
  obtain ⟨g1, g2, g3⟩ := h'
  rcases Nat.lt_trichotomy c c' with q | q | q
  · rcases h3 with e | e
    · omega
    · exact absurd e (g2 c q)
  · exact q
  · rcases g3 with e | e
    · omega
    · exact absurd e (h2 c' q)
def scBr (tc : Nat → Nat) : Nat → Nat := fun i => tc (i + 1)
def scCo (len : Nat → Nat) (ch : Nat → Nat → Nat) (tc : Nat → Nat) (s c : Nat) : Nat → Nat := fun i => if i < len s then ch s i else tc (c + 1 + (i - len s))
def scJ0 (ch : Nat → Nat → Nat) (a b cut : Nat) : Nat → Nat := fun i => if i < cut then ch a i else ch b (i - cut)
def scJ1 (ch : Nat → Nat → Nat) (a b cut : Nat) : Nat → Nat := fun i => if i < cut then ch a i else if i = cut then 35 else ch b (i - cut - 1)
def brk (tl : Nat) (tc : Nat → Nat) : Prop := 2 < tl ∧ tc 0 = 60 ∧ tc (tl - 1) = 62
def matK (len : Nat → Nat) (ch : Nat → Nat → Nat) (sp : Nat → Option Nat) (tc : Nat → Nat) (c k : Nat) : Prop := sp k ≠ none ∧ len k = c ∧ ∀ i, i < c → ch k i = tc i
