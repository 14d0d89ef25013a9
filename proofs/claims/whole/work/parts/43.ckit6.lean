theorem CN.ft {t : Nat} {M M' : PM} {n : Nat} {len : Nat → Nat} {ch : Nat → Nat → Nat} (h : CN M n len ch) (hf : FT t M M') (ht : t = 1 ∨ t = 3 ∨ t = 5) : CN M' n len ch := h.cong (fun p q h1 _ => hf p q (by omega) (by omega))
theorem CSp.ft {t : Nat} {M M' : PM} {n : Nat} {sp bs : Nat → Option Nat} (h : CSp M n sp bs) (hf : FT t M M') (ht : t = 1 ∨ t = 3 ∨ t = 5) : CSp M' n sp bs := ⟨fun k hk => by rw [hf _ _ (by omega) (by omega)]; exact h.1 k hk, fun k hk => by rw [hf _ _ (by omega) (by omega)]; exact h.2.1 k hk, h.2.2⟩
theorem predI (p : Nat) : nI p - 1 + nI 1 = nI p := by
  rw [nI1]
  first | exact Int32.sub_add_cancel _ _ | simp
theorem cap5 : capT 5 = 49 := rfl
theorem cap3 : capT 3 = 28 := rfl
theorem cap1 : capT 1 = 24 := rfl
theorem tn5 (j : Nat) : 9 + 2 * j ≠ 5 := by omega
theorem tn3 (j : Nat) : 9 + 2 * j ≠ 3 := by omega
