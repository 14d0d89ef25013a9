theorem CW.cong {M M' : PM} {n rc : Nat} {rw_ : Nat → Nat} (h : CW M n rc rw_) (e : ∀ p q, p = 132 ∨ p = 133 → M' p q = M p q) : CW M' n rc rw_ := ⟨h.1, by rw [e _ _ (Or.inl rfl)]; exact h.2.1, fun j hj => by rw [e _ _ (Or.inr rfl)]; exact h.2.2 j hj⟩
theorem CSt.cong {M M' : PM} {n : Nat} {st : Nat → Option Nat} (h : CSt M n st) (e : ∀ q, M' 135 q = M 135 q) : CSt M' n st := ⟨fun k hk => by rw [e]; exact h.1 k hk, h.2⟩
theorem CU.cong {M M' : PM} {us : Nat → Nat} (h : CU M us) (e : ∀ q, M' 141 q = M 141 q) : CU M' us := fun k hk => by rw [e]; exact h k hk
theorem c_T_putNumber (l : Launch) (D : va_G) (cI cC cZ cT : ClassId) (ad : Nat → Nat) (hI : GI 144 ad) (M : PM) (t : Nat) (ht : tx t) (sl : Nat) (sc : Nat → Nat) (hT : TT M t sl sc) (k : Nat) (hk : k ≤ 99) (hroom : sl + 2 ≤ capT t) (e0 : k < 10 → sc sl = 48 + k) (e1 : ¬ k < 10 → sc sl = 48 + k / 10 ∧ sc (sl + 1) = 48 + k % 10) : MD l D cI cC cZ cT ad y_T_putNumber b_T_putNumber 2 none 1 21 [.ref (ad (t)), .int (nI (k))] M (fun v M' => v = none ∧ TT M' t (sl + (if k < 10 then 1 else 2)) sc ∧ FT t M M') := by
  by_cases h : k < 10
  · simp only [if_pos h]
    exact c_T_putNumber_1 l D cI cC cZ cT ad hI M t ht sl sc hT k hk h (by omega) (e0 h)
  · simp only [if_neg h]
    exact c_T_putNumber_2 l D cI cC cZ cT ad hI M t ht sl sc hT k hk (by omega) hroom (e1 h).1 (e1 h).2
theorem c_C_bw (l : Launch) (D : va_G) (cI cC cZ cT : ClassId) (ad : Nat → Nat) (hI : GI 144 ad) (M : PM) (n : Nat) (len : Nat → Nat) (ch : Nat → Nat → Nat) (hN7 : CN M n len ch) (a d9 : Nat) (ha : a < n) (hd9 : d9 < n) (c9 : Nat) (hcut : Cut1 len ch a c9) : MD l D cI cC cZ cT ad y_C_buildWithin b_C_buildWithin 4 none 3 66 [.ref (ad (0)), .ref (ad (9 + 2 * (a))), .ref (ad (9 + 2 * (d9)))] M (fun v M' => v = none ∧ TT M' 5 (c9 + 1 + len d9) (scJ1 ch a d9 c9) ∧ FT 5 M M') := by
  obtain ⟨h1, h2, h3⟩ := hcut
  by_cases h : c9 = len a
  · exact c_C_buildWithin_n l D cI cC cZ cT ad hI M n len ch hN7 a d9 ha hd9 c9 h (fun i hi => h2 i (by omega))
  · exact c_C_buildWithin_s l D cI cC cZ cT ad hI M n len ch hN7 a d9 ha hd9 c9 ⟨by omega, h3.resolve_left h, h2⟩
theorem cutF_hp (len : Nat → Nat) (ch : Nat → Nat → Nat) (a : Nat) : cutF ch a (len a) ≤ len a ∧ (∀ q, cutF ch a (len a) ≤ q → q < len a → ¬ ch a q = 47) ∧ (cutF ch a (len a) = 0 ∨ ch a (cutF ch a (len a) - 1) = 47) := by
  generalize len a = m
  induction m with
  | zero => exact ⟨Nat.le_refl _, fun q _ h => absurd h (Nat.not_lt_zero q), Or.inl rfl⟩
  | succ m ih =>
    obtain ⟨h1, h2, h3⟩ := ih
    simp only [cutF]
    by_cases h : ch a m = 47
    · rw [if_pos h]
      exact ⟨Nat.le_refl _, fun q g1 g2 => absurd g1 (by omega), Or.inr h⟩
    · rw [if_neg h]
      refine ⟨by omega, fun q g1 g2 => ?_, h3⟩
      rcases Nat.lt_succ_iff_lt_or_eq.mp g2 with z | z
      · exact h2 q g1 z
      · rw [z]; exact h
/-- a rename is done in the class -/
def RNd (M M' : PM) (a b rc nc : Nat) (rw_ us : Nat → Nat) (st : Nat → Option Nat) : Prop :=
  M' 137 nc = nI a ∧ M' 138 nc = nI b ∧ M' 136 2 = nI (nc + 1) ∧ (∀ q, q < 3 * rc → M' 133 q = nI (rwR rw_ a b q)) ∧ (∀ q, q < 60 → M' 135 q = oI (stR st a b q)) ∧ (∀ q, q < 60 → M' 141 q = nI (usR us a b q)) ∧ (∀ i, i ≠ nc → M' 137 i = M 137 i ∧ M' 138 i = M 138 i) ∧ ∀ p q, p ≠ 133 → p ≠ 135 → p ≠ 136 → p ≠ 137 → p ≠ 138 → p ≠ 141 → M' p q = M p q
