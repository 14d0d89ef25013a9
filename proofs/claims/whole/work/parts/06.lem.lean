/-! ===== the reference: what its pictures say ===== -/
theorem MK.begin (M : PM) (sc : Nat → Nat) : MK (pu M 0 17 0) 0 sc := ⟨by omega, by rw [pu_s]; rfl, fun i hi => absurd hi (Nat.not_lt_zero i)⟩
theorem SX.begin (M : PM) : SX M (pu M 0 17 0) := fun a b h1 h2 h3 => by
  rw [pu_eq, if_neg (by rintro ⟨q1, q2⟩; exact h3 ⟨q1, Or.inl q2⟩)]
theorem MK.add {M : PM} {sl : Nat} {sc : Nat → Nat} (h : MK M sl sc) (hs : sl < 64) (hc : sc sl < 128) : MK (pu (pu M 0 17 (nI (sl + 1))) 11 sl (nI (sc sl))) (sl + 1) sc := by
  refine ⟨by omega, ?_, fun i hi => ?_⟩
  · rw [pu_k _ _ _ _ _ (by decide), pu_s]
  · rcases Nat.lt_succ_iff_lt_or_eq.mp hi with q | q
    · rw [pu_j _ _ _ _ _ (by omega), pu_k _ _ _ _ _ (by decide)]
      exact h.2.2 i q
    · subst q
      exact ⟨hc, pu_s _ _ _ _⟩
theorem SX.add (M : PM) (sl : Nat) (x y : Int32) : SX M (pu (pu M 0 17 x) 11 sl y) := fun a b h1 h2 h3 => by
  rw [pu_k _ _ _ _ _ h1, pu_eq, if_neg (by rintro ⟨q1, q2⟩; exact h3 ⟨q1, Or.inl q2⟩)]
theorem SX.thr (M : PM) (x : Int32) : SX M (pu M 0 0 x) := fun a b h1 h2 h3 => by
  rw [pu_eq, if_neg (by rintro ⟨q1, q2⟩; exact h3 ⟨q1, Or.inr q2⟩)]
theorem MK.thr {M : PM} {sl : Nat} {sc : Nat → Nat} (h : MK M sl sc) (x : Int32) : MK (pu M 0 0 x) sl sc := ⟨h.1, by rw [pu_j _ _ _ _ _ (by decide)]; exact h.2.1, fun i hi => by rw [pu_k _ _ _ _ _ (by decide)]; exact h.2.2 i hi⟩
/-- the tape -/
def RT (M : PM) (tl : Nat) (tc : Nat → Nat) : Prop := tl ≤ 24 ∧ M 0 2 = nI tl ∧ ∀ i, i < tl → 33 ≤ tc i ∧ tc i ≤ 126 ∧ M 1 i = nI (tc i)
theorem RT.sx {M M' : PM} {tl : Nat} {tc : Nat → Nat} (h : RT M tl tc) (hs : SX M M') : RT M' tl tc :=
  ⟨h.1, by rw [hs 0 2 (by decide) (by decide) (by decide)]; exact h.2.1, fun i hi => by rw [hs 1 i (by decide) (by decide) (by omega)]; exact h.2.2 i hi⟩
/-- a name more: its characters, its size, no space, no uses, standing for none -/
def CMd (M M' : PM) (n sl : Nat) (sc : Nat → Nat) : Prop := (∀ i, i < sl → M' 2 (24 * n + i) = nI (sc i)) ∧ M' 3 n = nI sl ∧ M' 4 n = -1 ∧ M' 5 n = 0 ∧ M' 6 n = -1 ∧ M' 0 5 = nI (n + 1) ∧
  ∀ a b, ¬ (a = 2 ∧ 24 * n ≤ b ∧ b < 24 * n + sl) → ¬ ((a = 3 ∨ a = 4 ∨ a = 5 ∨ a = 6) ∧ b = n) → ¬ (a = 0 ∧ b = 5) → M' a b = M a b
theorem rng {x : Int32} {a b : Nat} (hb : b < 2 ^ 31) (h1 : ¬ x < nI a) (h2 : x ≤ nI b) (ha : a ≤ b) : ∃ c, a ≤ c ∧ c ≤ b ∧ x = nI c := by
  have e1 := nI_toInt (n := a) (by omega)
  have e2 := nI_toInt hb
  have h0 : ¬ x < 0 := fun h => h1 (by
    rw [Int32.lt_iff_toInt_lt] at h ⊢
    rw [e1]
    have : (0 : Int32).toInt = 0 := rfl
    omega)
  obtain ⟨j, hj, rfl⟩ := nI_of h0
  refine ⟨j, ?_, (nI_leI hj hb).mp h2, rfl⟩
  exact Nat.le_of_not_lt fun q => h1 ((nI_ltI hj (by omega)).mpr q)
theorem no_f {n a : Nat} (h : a < n) : (false = true) ↔ ¬ ∃ j, j < n ∧ nI a = nI j := ⟨fun h => (by cases h), fun q => absurd ⟨a, h, rfl⟩ q⟩
theorem no_t {n : Nat} {x : Int32} (h : ¬ ∃ j, j < n ∧ x = nI j) : (true = true) ↔ ¬ ∃ j, j < n ∧ x = nI j := ⟨fun _ => h, fun _ => rfl⟩
theorem decI (x : Int32) : x + Int32.ofInt (-1) = x - 1 := by rw [Int32.sub_eq_add_neg]; rfl
theorem nI_p0 {i : Nat} (hi : i < 2 ^ 31) : nI i - 1 < 0 ↔ i = 0 := by
  cases i with
  | zero => exact ⟨fun _ => rfl, fun _ => by decide⟩
  | succ j =>
    rw [nI_pred]
    exact ⟨fun h => absurd h (nI_pos (by omega)), fun h => by omega⟩
theorem RT.thr {M : PM} {tl : Nat} {tc : Nat → Nat} (h : RT M tl tc) (x : Int32) : RT (pu M 0 0 x) tl tc := h.sx (SX.thr M x)
theorem RN.thr {M : PM} {n : Nat} {len : Nat → Nat} {ch : Nat → Nat → Nat} {sp : Nat → Option Nat} (h : RN M n len ch sp) (x : Int32) : RN (pu M 0 0 x) n len ch sp := h.sx (SX.thr M x)
def RU (M : PM) (n : Nat) (us : Nat → Nat) : Prop := ∀ k, k < n → us k < 2 ^ 30 ∧ M 5 k = nI (us k)
def RS (M : PM) (n : Nat) (st : Nat → Option Nat) : Prop := (∀ k, k < n → M 6 k = oI (st k)) ∧ ∀ k j, k < n → st k = some j → j < n
def RW (M : PM) (n rc : Nat) (rw_ : Nat → Nat) : Prop := rc ≤ 40 ∧ M 0 10 = nI rc ∧ ∀ j, j < 3 * rc → rw_ j < n ∧ M 7 j = nI (rw_ j)
def RR (M : PM) (n nc : Nat) (rf rt : Nat → Nat) : Prop := nc ≤ 20 ∧ M 0 12 = nI nc ∧ ∀ i, i < nc → rf i < n ∧ rt i < n ∧ M 8 (2 * i) = nI (rf i) ∧ M 8 (2 * i + 1) = nI (rt i)
def RP (M : PM) (pl : Nat) (pc9 : Nat → Nat) : Prop := pl ≤ 80 ∧ M 0 14 = nI pl ∧ ∀ i, i < pl → 33 ≤ pc9 i ∧ pc9 i ≤ 126 ∧ M 9 i = nI (pc9 i)
/-- what a name has become, and was -/
def nowF (rf rt : Nat → Nat) (x : Nat) : Nat → Nat
  | 0 => x
  | k + 1 => if rf k = nowF rf rt x k then rt k else nowF rf rt x k
def wasF (rf rt : Nat → Nat) : Nat → Nat → Nat
  | 0, x => x
  | i + 1, x => wasF rf rt i (if rt i = x then rf i else x)
