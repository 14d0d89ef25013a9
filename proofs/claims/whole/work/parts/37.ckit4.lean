theorem CN.cong {M M' : PM} {n : Nat} {len : Nat → Nat} {ch : Nat → Nat → Nat} (h : CN M n len ch) (e : ∀ p q, 7 ≤ p → p < 129 → M' p q = M p q) : CN M' n len ch := by
  obtain ⟨h1, h2, h3, h4⟩ := h
  refine ⟨h1, by rw [e 7 1 (by omega) (by omega)]; exact h2, fun k hk => ?_, fun k hk h60 => by rw [e _ _ (by omega) (by omega)]; exact h4 k hk h60⟩
  obtain ⟨g1, g2, g3, g4, g5, g6⟩ := h3 k hk
  exact ⟨g1, g2, g3, g4, by rw [e _ _ (by omega) (by omega)]; exact g5, fun i hi => by rw [e _ _ (by omega) (by omega)]; exact g6 i hi⟩
theorem TT.cong2 {M M' : PM} {t sl : Nat} {sc : Nat → Nat} (h : TT M t sl sc) (e1 : M' t 1 = M t 1) (e2 : ∀ q, M' (t + 1) q = M (t + 1) q) : TT M' t sl sc := ⟨h.1, by rw [e1]; exact h.2.1, fun i hi => by rw [e2]; exact h.2.2 i hi⟩
def lnO (len : Nat → Nat) : Option Nat → Nat
  | none => 0
  | some b => len b
def eqC2 (sc uc : Nat → Nat) : Nat → Nat → Bool := fun i j => decide (sc i = uc j)
def F140 (M M' : PM) : Prop := ∀ a b, a ≠ 140 → M' a b = M a b
theorem F140.st {M M' : PM} (h : F140 M M') (j : Nat) (v : Int32) : F140 M (pu M' 140 j v) := fun a b h2 => by rw [pu_k _ _ _ _ _ h2]; exact h a b h2
theorem TT.f140 {M M' : PM} {t sl : Nat} {sc : Nat → Nat} (h : TT M t sl sc) (hf : F140 M M') (ht : tx t) : TT M' t sl sc := by
  have h1 := tx_lt ht
  unfold tx at ht
  exact h.cong2 (hf _ _ (by omega)) (fun q => hf _ _ (by omega))
