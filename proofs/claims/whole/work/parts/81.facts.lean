/-! ===== what the tables and the start give ===== -/
theorem st_AO {b : Nat} {s : State} (hts : ∀ w ∈ lw_tbl, w.before #[Value.ref b] s = true) : va_AO "NameRules$Text" s := va_AO.of (hts (.arrayOver (.object "NameRules$Text")) (by decide +kernel))
theorem st_N {b : Nat} {s : State} (hts : ∀ w ∈ lw_tbl, w.before #[Value.ref b] s = true) : NXc s := ⟨va_Nw.of rfl (hts (.methodLinkNest "NameRules$Text" 37 y_C_isSmallLetter "NameRules") (by decide +kernel)), va_Nw.of rfl (hts (.methodLinkNest "NameRules$Text" 41 y_C_isDigit "NameRules") (by decide +kernel))⟩
theorem XW_tbl : ∀ w ∈ XW, w ∈ lw_tbl := by decide +kernel
theorem st_NC {b : Nat} {s : State} (hgv : (Jvm.Cond.and given_1 narrow_1).before #[Value.ref b] s = true) : HNC s := by
  have hs := flat_of_before _ hgv
  intro a ha b9 hb9 hne
  simp only [XE4, List.mem_cons, List.not_mem_nil, or_false] at ha hb9
  rcases ha with rfl | rfl | rfl | rfl <;> rcases hb9 with rfl | rfl | rfl | rfl <;> first | exact absurd rfl hne | exact va_Nc.of (hs _ (by decide +kernel))
