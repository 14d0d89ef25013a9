/-- a name is added -/
def NAd (M M' : PM) (n ul : Nat) (uc : Nat → Nat) : Prop := TT M' (9 + 2 * n) ul uc ∧ M' 7 1 = nI (n + 1) ∧ ∀ p q, ¬ (p = 7 ∧ q = 1) → ¬ (p = 9 + 2 * n ∧ q = 1) → p ≠ 9 + 2 * n + 1 → M' p q = M p q
/-- only what is printed and what is built has changed -/
def F35 (M M' : PM) : Prop := ∀ p q, ¬ (p = 3 ∧ q = 1) → p ≠ 4 → ¬ (p = 5 ∧ q = 1) → p ≠ 6 → M' p q = M p q
theorem F35.rf (M : PM) : F35 M M := fun _ _ _ _ _ _ => rfl
theorem F35.tr {M M' M'' : PM} (h : F35 M M') (h' : F35 M' M'') : F35 M M'' := fun p q h1 h2 h3 h4 => (h' p q h1 h2 h3 h4).trans (h p q h1 h2 h3 h4)
theorem F35.f3 {M M' : PM} (h : FT 3 M M') : F35 M M' := fun p q h1 h2 _ _ => h p q h1 h2
theorem F35.f5 {M M' : PM} (h : FT 5 M M') : F35 M M' := fun p q _ _ h3 h4 => h p q h3 h4
theorem CN.f35 {M M' : PM} {n : Nat} {len : Nat → Nat} {ch : Nat → Nat → Nat} (h : CN M n len ch) (hf : F35 M M') : CN M' n len ch := h.cong (fun p q h1 _ => hf p q (by omega) (by omega) (by omega) (by omega))
theorem CSp.f35 {M M' : PM} {n : Nat} {sp bs : Nat → Option Nat} (h : CSp M n sp bs) (hf : F35 M M') : CSp M' n sp bs := ⟨fun k hk => by rw [hf _ _ (by omega) (by omega) (by omega) (by omega)]; exact h.1 k hk, fun k hk => by rw [hf _ _ (by omega) (by omega) (by omega) (by omega)]; exact h.2.1 k hk, h.2.2⟩
theorem sw_out {x : Int32} (b : Nat) (hb : b + 1 < 2 ^ 31) (h : ¬ ∃ c, c ≤ b ∧ x = nI c) : x.toInt < 0 ∨ (b : Int) < x.toInt := by
  rcases pk_ix x (n := b + 1) hb with q | q | ⟨j, q, e⟩
  · exact Or.inl (Int32.lt_iff_toInt_lt.mp q)
  · right
    have := Int32.le_iff_toInt_le.mp q
    rw [nI_toInt hb] at this
    omega
  · exact absurd ⟨j, by omega, e⟩ h
def apC (tc : Nat → Nat) (tl c : Nat) (i : Nat) : Nat := if i = tl then c else tc i
theorem apC_s (tc : Nat → Nat) (tl c : Nat) : apC tc tl c tl = c := if_pos rfl
theorem apC_n (tc : Nat → Nat) (tl c : Nat) {i : Nat} (h : i ≠ tl) : apC tc tl c i = tc i := if_neg h
theorem TT.ap {M : PM} {tl c9 : Nat} {tc : Nat → Nat} (h : TT M 1 tl tc) (h3 : tl < 24) (hc : c9 < 128) : TT (pu (pu M (1 + 1) tl (nI c9)) 1 1 (nI (tl + 1))) 1 (tl + 1) (apC tc tl c9) :=
  ⟨by rw [cap1]; omega, pu_s _ _ _ _, lt_S (fun i hi => ⟨by rw [apC_n _ _ _ (by omega)]; exact (h.2.2 i hi).1, by rw [pu_k _ _ _ _ _ (by decide), pu_j _ _ _ _ _ (by omega), apC_n _ _ _ (by omega)]; exact (h.2.2 i hi).2⟩) ⟨by rw [apC_s]; exact hc, by rw [pu_k _ _ _ _ _ (by decide), pu_s, apC_s]⟩⟩
