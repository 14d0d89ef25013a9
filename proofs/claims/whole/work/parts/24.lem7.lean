/-- what the reference shows: k characters -/
def SH (M : PM) (k : Nat) (sc : Nat → Nat) : Prop := M 0 14 = nI k ∧ ∀ q, q < k → M 9 q = nI (sc q)
theorem SH.add {M : PM} {k : Nat} {sc : Nat → Nat} (h : SH M k sc) (c : Nat) (e : sc k = c) : SH (pu (pu M 0 14 (nI (k + 1))) 9 k (nI c)) (k + 1) sc := by
  refine ⟨by rw [pu_k _ _ _ _ _ (by decide), pu_s], lt_S (fun q hq => ?_) ?_⟩
  · rw [pu_j _ _ _ _ _ (by omega), pu_k _ _ _ _ _ (by decide)]; exact h.2 q hq
  · rw [pu_s, e]
/-- what is shown may differ -/
def F9 (M M' : PM) : Prop := ∀ p q, p ≠ 9 → p ≠ 11 → p ≠ 12 → ¬ (p = 0 ∧ (q = 14 ∨ q = 17 ∨ q = 0)) → M' p q = M p q
theorem F9.tr {M M' M'' : PM} (h : F9 M M') (h' : F9 M' M'') : F9 M M'' := fun p q h1 h2 h3 h4 => (h' p q h1 h2 h3 h4).trans (h p q h1 h2 h3 h4)
theorem F9.sx {M M' : PM} (h : SX M M') : F9 M M' := fun p q _ h2 h3 h4 => h p q h2 h3 (fun z => h4 ⟨z.1, by rcases z.2 with e | e; exact Or.inr (Or.inl e); exact Or.inr (Or.inr e)⟩)
theorem F9.s1 (M : PM) (x : Int32) : F9 M (pu M 0 14 x) := fun p q _ _ _ h => by rw [pu_eq, if_neg (fun z => h ⟨z.1, Or.inl z.2⟩)]
theorem F9.s2 (M : PM) (k : Nat) (x : Int32) : F9 M (pu M 9 k x) := fun p q h _ _ _ => by rw [pu_k _ _ _ _ _ h]
theorem RN.f9 {M M' : PM} {n : Nat} {len : Nat → Nat} {ch : Nat → Nat → Nat} {sp : Nat → Option Nat} (h : RN M n len ch sp) (hs : F9 M M') : RN M' n len ch sp := by
  obtain ⟨h1, h2, h3, h4, h5, h6⟩ := h
  refine ⟨h1, ?_, fun k hk => ?_, fun k hk => ?_, h5, fun k i hk hi => ?_⟩
  · rw [hs 0 5 (by decide) (by decide) (by decide) (by decide)]; exact h2
  · rw [hs 3 k (by decide) (by decide) (by decide) (by omega)]; exact h3 k hk
  · rw [hs 4 k (by decide) (by decide) (by decide) (by omega)]; exact h4 k hk
  · rw [hs 2 _ (by decide) (by decide) (by decide) (by omega)]; exact h6 k i hk hi
def scP0 (len : Nat → Nat) (ch : Nat → Nat → Nat) (a : Nat) : Nat → Nat := fun i => if i = 0 then 60 else if i ≤ len a then ch a (i - 1) else 62
def scP1 (len : Nat → Nat) (ch : Nat → Nat → Nat) (a s b : Nat) : Nat → Nat := fun i => if i < len b then ch b i else if i = len b then 58 else ch a (len s + (i - len b - 1))
