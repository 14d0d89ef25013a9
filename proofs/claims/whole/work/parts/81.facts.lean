/-! ===== what the tables and the start give ===== -/
theorem st_AO {b : Nat} {s : State} (hts : ∀ w ∈ lw_tbl, w.before #[Value.ref b] s = true) : va_AO "NameRules$Text" s := va_AO.of (hts (.arrayOver (.object "NameRules$Text")) (by decide +kernel))
theorem st_N {b : Nat} {s : State} (hts : ∀ w ∈ lw_tbl, w.before #[Value.ref b] s = true) : NXc s := ⟨va_Nw.of rfl (hts (.methodLinkNest "NameRules$Text" 37 y_C_isSmallLetter "NameRules") (by decide +kernel)), va_Nw.of rfl (hts (.methodLinkNest "NameRules$Text" 41 y_C_isDigit "NameRules") (by decide +kernel))⟩
theorem XW_tbl : ∀ w ∈ XW, w ∈ lw_tbl := by decide +kernel
theorem st_NC {b : Nat} {s : State} (hgv : (Jvm.Cond.and given_1 narrow_1).before #[Value.ref b] s = true) : HNC s := by
  have hs := flat_of_before _ hgv
  intro a ha b9 hb9 hne
  simp only [XE4, List.mem_cons, List.not_mem_nil, or_false] at ha hb9
  rcases ha with rfl | rfl | rfl | rfl <;> rcases hb9 with rfl | rfl | rfl | rfl <;> first | exact absurd rfl hne | exact va_Nc.of (hs _ (by decide +kernel))
theorem st_S {b : Nat} {s : State} (hts : ∀ w ∈ lw_tbl, w.before #[Value.ref b] s = true) (hgv : (Jvm.Cond.and given_1 narrow_1).before #[Value.ref b] s = true) : ∀ q ∈ XSL, ∃ a, vk_R "NameRules" q.1 q.2 a s := by
  have hs := flat_of_before _ hgv
  have e1 : ∀ q ∈ XSL, Cond.stringRef "NameRules" q.1 q.2 ∈ lw_tbl := by decide +kernel
  have e2 : ∀ q ∈ XSL, Cond.exactly (.string "NameRules" q.1) "java/lang/String" ∈ flatC (Jvm.Cond.and given_1 narrow_1) := by decide +kernel
  intro q hq
  obtain ⟨a, c, cell, k, q1, -⟩ := Cond.exactly_spec (hs _ (e2 q hq))
  exact ⟨a, vk_R.of (hts _ (e1 q hq)) q1⟩
theorem st_XB {b : Nat} {s : State} (hts : ∀ w ∈ lw_tbl, w.before #[Value.ref b] s = true) (hgv : (Jvm.Cond.and given_1 narrow_1).before #[Value.ref b] s = true) : HXB s := by
  have hs := flat_of_before _ hgv
  exact ⟨fun w hw => va_Nw.of (XW_ot w hw) (hts w (XW_tbl w hw)), st_S hts hgv, vx_Zqof (hts (.laysStatic Bundle.tN "UNASSIGNED_STACK" Bundle.steD) (by decide +kernel)) (hts (.initialized Bundle.tN) (by decide +kernel)) (hs (.isRef (.static Bundle.tN "UNASSIGNED_STACK" Bundle.steD)) (by decide +kernel)) (fun a ha h => absurd h (Nat.not_le.mpr ha)), vx_Zqof (hts (.laysStatic Bundle.tN "SUPPRESSED_SENTINEL" Bundle.listD) (by decide +kernel)) (hts (.initialized Bundle.tN) (by decide +kernel)) (hs (.isRef (.static Bundle.tN "SUPPRESSED_SENTINEL" Bundle.listD)) (by decide +kernel)) (fun a ha h => absurd h (Nat.not_le.mpr ha))⟩
