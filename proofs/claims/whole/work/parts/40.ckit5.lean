theorem nz0 : vp_nar .boolean (nI 0) = bI false := by decide
theorem nz1 : vp_nar .boolean (nI 1) = bI true := by decide
/-- the spaces of terms are marked -/
def TS (M : PM) (tsb : Nat → Bool) : Prop := ∀ q, q < 60 → M 142 q = bI (tsb q)
def tsP (spo : Nat → Option Nat) (rw_ : Nat → Nat) (rc q : Nat) : Prop := ∃ k, k < rc ∧ spo (rw_ (3 * k)) = some q
def FX (a : Nat) (M M' : PM) : Prop := ∀ p q, p ≠ a → M' p q = M p q
theorem CN.fx {a : Nat} {M M' : PM} {n : Nat} {len : Nat → Nat} {ch : Nat → Nat → Nat} (h : CN M n len ch) (hf : FX a M M') (ha : 129 ≤ a) : CN M' n len ch := h.cong (fun p q _ h2 => hf p q (by omega))
theorem CSp.fx {a : Nat} {M M' : PM} {n : Nat} {sp bs : Nat → Option Nat} (h : CSp M n sp bs) (hf : FX a M M') (ha : a ≠ 130 ∧ a ≠ 131) : CSp M' n sp bs := ⟨fun k hk => by rw [hf _ _ (fun e => ha.1 e.symm)]; exact h.1 k hk, fun k hk => by rw [hf _ _ (fun e => ha.2 e.symm)]; exact h.2.1 k hk, h.2.2⟩
theorem CW.fx {a : Nat} {M M' : PM} {n rc : Nat} {rw_ : Nat → Nat} (h : CW M n rc rw_) (hf : FX a M M') (ha : a ≠ 132 ∧ a ≠ 133) : CW M' n rc rw_ := ⟨h.1, by rw [hf _ _ (fun e => ha.1 e.symm)]; exact h.2.1, fun j hj => by rw [hf _ _ (fun e => ha.2 e.symm)]; exact h.2.2 j hj⟩
theorem CU.fx {a : Nat} {M M' : PM} {us : Nat → Nat} (h : CU M us) (hf : FX a M M') (ha : a ≠ 141) : CU M' us := fun k hk => by rw [hf _ _ (fun e => ha e.symm)]; exact h k hk
theorem FX.st {a : Nat} {M M' : PM} (h : FX a M M') (j : Nat) (v : Int32) : FX a M (pu M' a j v) := fun p q h2 => by rw [pu_k _ _ _ _ _ h2]; exact h p q h2
theorem FX.rf (a : Nat) (M : PM) : FX a M M := fun _ _ _ => rfl
/-- the distances of terms are measured -/
def DM (M : PM) (rc : Nat) (d : Nat → Nat) : Prop := ∀ q, q < rc → d q ≤ 24 ∧ M 143 q = nI (d q)
def FM (M M' : PM) : Prop := ∀ p q, p ≠ 140 → p ≠ 143 → M' p q = M p q
theorem CN.fm {M M' : PM} {n : Nat} {len : Nat → Nat} {ch : Nat → Nat → Nat} (h : CN M n len ch) (hf : FM M M') : CN M' n len ch := h.cong (fun p q _ h2 => hf p q (by omega) (by omega))
theorem CW.fm {M M' : PM} {n rc : Nat} {rw_ : Nat → Nat} (h : CW M n rc rw_) (hf : FM M M') : CW M' n rc rw_ := ⟨h.1, by rw [hf _ _ (by decide) (by decide)]; exact h.2.1, fun j hj => by rw [hf _ _ (by decide) (by decide)]; exact h.2.2 j hj⟩
