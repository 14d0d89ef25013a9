theorem Lds_or (st : Nat → Option Nat) (a b : Nat) : Lds st (some b) a ↔ a = b ∨ Lds st (st b) a := by
  by_cases e : b = a
  · subst e
    exact ⟨fun _ => Or.inl rfl, fun _ => Lds_self st b⟩
  · rw [Lds_step e]
    exact ⟨Or.inr, fun h => h.resolve_left (fun z => e z.symm)⟩
theorem up_lt {n : Nat} {bs : Nat → Option Nat} (h : ∀ k j, bs k = some j → k < n ∧ j < n) {a b : Nat} (ha : a < n) (hb : b < n) : ∀ k j, va_up bs a (some b) k = some j → k < n ∧ j < n := fun k j e => by
  by_cases z : k = a
  · rw [z, va_up_self] at e; cases e; exact ⟨by omega, hb⟩
  · rw [va_up_ne _ _ z] at e; exact h k j e
theorem Top_no {n : Nat} {len : Nat → Nat} {ch : Nat → Nat → Nat} {sp : Nat → Option Nat} {o : Option Nat} {f s k : Nat} (h : Top (fun j => sp j = some k) (btS len ch) n o) (hs0 : sp f = none) (hk : k ≠ s) : Top (fun j => va_up sp f (some s) j = some k) (btS len ch) n o := by
  have key : ∀ j, va_up sp f (some s) j = some k ↔ sp j = some k := fun j => by
    by_cases z : j = f
    · rw [z, va_up_self, hs0]; simp; exact fun e => hk e.symm
    · rw [va_up_ne _ _ z]
  cases o with
  | none => exact fun j hj e => h j hj ((key j).mp e)
  | some b => exact ⟨h.1, (key b).mpr h.2.1, fun j hj e => h.2.2 j hj ((key j).mp e)⟩
theorem Top_px {n : Nat} {len : Nat → Nat} {ch : Nat → Nat → Nat} {sp bs : Nat → Option Nat} (h : ∀ k, k < n → Top (fun j => sp j = some k) (btS len ch) n (bs k)) {f s : Nat} (hf : f < n) (hs0 : sp f = none) (hs : s < n) (hb : ∀ j, j < n → sp j = some s → ¬ btS len ch j f) : ∀ k, k < n → Top (fun j => va_up sp f (some s) j = some k) (btS len ch) n (va_up bs s (some f) k) := fun k hk => by
  by_cases z : k = s
  · subst z
    rw [va_up_self]
    refine ⟨hf, va_up_self _ _ _, fun j hj e => ?_⟩
    by_cases y : j = f
    · rw [y]; exact btS_irr _
    · have e : va_up sp f (some k) j = some k := e
      rw [va_up_ne _ _ y] at e; exact hb j hj e
  · rw [va_up_ne _ _ z]
    exact Top_no (h k hk) hs0 z
theorem Top_pk {n : Nat} {len : Nat → Nat} {ch : Nat → Nat → Nat} {sp bs : Nat → Option Nat} (h : ∀ k, k < n → Top (fun j => sp j = some k) (btS len ch) n (bs k)) {f s b8 : Nat} (hf : f < n) (hs0 : sp f = none) (hs : s < n) (hb8 : bs s = some b8) (hbt : ¬ btS len ch f b8) : ∀ k, k < n → Top (fun j => va_up sp f (some s) j = some k) (btS len ch) n (bs k) := fun k hk => by
  by_cases z : k = s
  · subst z
    have h9 := h k hk
    rw [hb8] at h9 ⊢
    have hne : b8 ≠ f := fun e => by have q := h9.2.1; rw [e, hs0] at q; cases q
    refine ⟨h9.1, by show va_up sp f (some k) b8 = some k; rw [va_up_ne _ _ hne]; exact h9.2.1, fun j hj e => ?_⟩
    by_cases y : j = f
    · rw [y]; exact hbt
    · have e : va_up sp f (some k) j = some k := e
      rw [va_up_ne _ _ y] at e
      exact h9.2.2 j hj e
  · exact Top_no (h k hk) hs0 z
theorem sp_again {M : PM} {n : Nat} {len : Nat → Nat} {ch : Nat → Nat → Nat} {sp : Nat → Option Nat} {us : Nat → Nat} {st : Nat → Option Nat} {rc : Nat} {rw_ : Nat → Nat} {nc : Nat} {rf rt : Nat → Nat} {tl : Nat} {tc : Nat → Nat} {pl : Nat} {pc9 : Nat → Nat} (h : RelM M n len ch sp us st rc rw_ nc rf rt tl tc pl pc9) {a b : Nat} (hb : b < n) (e : sp b = some a) : RelM (pu M 4 b (nI a)) n len ch sp us st rc rw_ nc rf rt tl tc pl pc9 := by
  have hx : pu M 4 b (nI a) = M := by
    funext p q
    rw [pu_eq]
    by_cases z : p = 4 ∧ q = b
    · rw [if_pos z, z.1, z.2, h.1.2.2.2.1 b hb, e]; rfl
    · rw [if_neg z]
  rw [hx]; exact h
theorem op_type (l : Launch) (D : va_G) (cI cC cZ cT cB : ClassId) (aC aM : Nat → Nat) (hIC : GI 144 aC) (hIM : GI 13 aM) (hlT : l.stackTraces = false) (Mc Mm : PM) (T : Nat) (h : Inv Mc Mm T) (hT : T < 512) (x : Int32) : OpR l D cI cC cZ cT cB aC aM y_C_type b_C_type 2 (some .int) y_M_type b_M_type 2 (some .int) [.int x] [("java/lang/IllegalArgumentException", 1), ("java/lang/UnsupportedOperationException", 2)] T Mc Mm := by
  obtain ⟨hT0, n, len, ch, sp, bs, us, st, rc, rw_, nc, rf, rt, tl, tc, pl, pc9, hC, hM, hI9, hK9⟩ := id h
  obtain ⟨c1, c2, c3, c4, c5, c6, c7, c8, c9, c10⟩ := id hC
  obtain ⟨m1, m2, m3, m4, m5, m6, m7⟩ := id hM
  obtain ⟨i1, i2, i3, i4, i5, rk0, i6⟩ := id hI9
  have hn60 := c1.1
  have hbsp := bs_sp (sp := sp) (bs := bs) i2
  by_cases hx : ∃ c, 33 ≤ c ∧ c ≤ 126 ∧ x = nI c
  · obtain ⟨c9, h1, h2, rfl⟩ := hx
    by_cases h24 : tl = 24
    · exact Or.inr ⟨_, _, _, _, _, 2, _, _, by simp, by decide, by decide, by decide, by decide, x_C_type_2 l D cI cC cZ cT aC hIC hlT Mc tl tc c7 c9 h1 h2 h24, c_M_type_2 l D cI cB aM hIM Mm tl tc m6 c9 h1 h2 h24, fin0 h hT 2⟩
    · have h3 : tl < 24 := by have := m6.1; omega
      exact Or.inl ⟨_, _, _, _, _, _, _, by decide, by decide, by decide, by decide, c_C_type l D cI cC cZ cT aC hIC Mc tl tc c7 c9 h1 h2 h3, c_M_type l D cI cB aM hIM Mm tl tc m6 c9 h1 h2 h3, fun M1 M2 e1 e2 => ⟨⟨hT, n, len, ch, sp, bs, us, st, rc, rw_, nc, rf, rt, tl + 1, apC tc tl c9, pl, pc9, hC.tape (fun p q g1 g2 => by rw [e1, pu_eq, if_neg g1, pu_k _ _ _ _ _ g2]) (by rw [e1]; exact c7.ap h3 (by omega)), hM.tape (fun q hq => by rw [e2, pu_k _ _ _ _ _ (by decide), pu_j _ _ _ _ _ (by omega), pu_j _ _ _ _ _ (by omega)]) (fun p q g1 g2 => by rw [e2, pu_k _ _ _ _ _ (by omega), pu_k _ _ _ _ _ (by omega), pu_k _ _ _ _ _ (by omega)]) ⟨by omega, by rw [e2, pu_k _ _ _ _ _ (by decide), pu_s], lt_S (fun i hi => by rw [apC_n _ _ _ (by omega), e2, pu_j _ _ _ _ _ (by omega), pu_k _ _ _ _ _ (by decide), pu_k _ _ _ _ _ (by decide)]; exact m6.2.2 i hi) (by rw [apC_s, e2, pu_s]; exact ⟨h1, h2, rfl⟩)⟩, hI9.up, hK9.of (fun q _ => by rw [e1, pu_k _ _ _ _ _ (by decide), pu_k _ _ _ _ _ (by decide)]) (fun q => by rw [e2, pu_k _ _ _ _ _ (by decide), pu_k _ _ _ _ _ (by decide), pu_k _ _ _ _ _ (by decide)])⟩, by rw [e2, pu_k _ _ _ _ _ (by decide), pu_j _ _ _ _ _ (by decide), pu_s]⟩⟩
  · exact Or.inr ⟨_, _, _, _, _, 1, _, _, by simp, by decide, by decide, by decide, by decide, x_C_type_1 l D cI cC cZ cT aC hIC hlT Mc x hx, c_M_type_1 l D cI cB aM hIM Mm tl tc m6 x hx, fin0 h hT 1⟩

theorem op_clear (l : Launch) (D : va_G) (cI cC cZ cT cB : ClassId) (aC aM : Nat → Nat) (hIC : GI 144 aC) (hIM : GI 13 aM) (hlT : l.stackTraces = false) (Mc Mm : PM) (T : Nat) (h : Inv Mc Mm T) (hT : T < 512) : OpR l D cI cC cZ cT cB aC aM y_C_clear b_C_clear 2 (some .int) y_M_clear b_M_clear 2 (some .int) [] [] T Mc Mm := by
  obtain ⟨hT0, n, len, ch, sp, bs, us, st, rc, rw_, nc, rf, rt, tl, tc, pl, pc9, hC, hM, hI9, hK9⟩ := id h
  obtain ⟨c1, c2, c3, c4, c5, c6, c7, c8, c9, c10⟩ := id hC
  obtain ⟨m1, m2, m3, m4, m5, m6, m7⟩ := id hM
  obtain ⟨i1, i2, i3, i4, i5, rk0, i6⟩ := id hI9
  have hn60 := c1.1
  have hbsp := bs_sp (sp := sp) (bs := bs) i2
  exact Or.inl ⟨_, _, _, _, _, _, _, by decide, by decide, by decide, by decide, c_C_clear l D cI cC cZ cT aC hIC Mc tl tc c7, c_M_clear l D cI cB aM hIM Mm tl tc m6, fun M1 M2 e1 e2 => fin_tp h hT (FCx.rf _) e1 ⟨_, SX.thr _ _, pu_s _ _ _ _, e2⟩⟩

theorem op_name (l : Launch) (D : va_G) (cI cC cZ cT cB : ClassId) (aC aM : Nat → Nat) (hIC : GI 144 aC) (hIM : GI 13 aM) (hlT : l.stackTraces = false) (Mc Mm : PM) (T : Nat) (h : Inv Mc Mm T) (hT : T < 512) : OpR l D cI cC cZ cT cB aC aM y_C_name b_C_name 2 (some .int) y_M_name b_M_name 2 (some .int) [] [("java/lang/IllegalStateException", 1), ("java/lang/UnsupportedOperationException", 2)] T Mc Mm := by
  obtain ⟨hT0, n, len, ch, sp, bs, us, st, rc, rw_, nc, rf, rt, tl, tc, pl, pc9, hC, hM, hI9, hK9⟩ := id h
  obtain ⟨c1, c2, c3, c4, c5, c6, c7, c8, c9, c10⟩ := id hC
  obtain ⟨m1, m2, m3, m4, m5, m6, m7⟩ := id hM
  obtain ⟨i1, i2, i3, i4, i5, rk0, i6⟩ := id hI9
  have hn60 := c1.1
  have hbsp := bs_sp (sp := sp) (bs := bs) i2
  by_cases h0 : tl = 0
  · exact Or.inr ⟨_, _, _, _, _, 1, _, _, by simp, by decide, by decide, by decide, by decide, x_C_name_1 l D cI cC cZ cT aC hIC hlT Mc tl tc c7 h0, c_M_name_1 l D cI cB aM hIM Mm n len ch sp m1 tl tc m6 h0, fun M1 M2 e1 e2 => fin1 h hT (by rw [← e1]; exact FCx.rf _) e2.1 e2.2⟩
  have hp : 0 < tl := by omega
  have htl := m6.1
  obtain ⟨o, ho⟩ := Fst.ex (sameT len ch tl tc) n
  cases o with
  | some k9 => exact Or.inl ⟨_, _, _, _, _, _, _, by decide, by decide, by decide, by decide, c_C_name_o l D cI cC cZ cT aC hIC Mc n len ch c1 tl tc c7 hp k9 ho, c_M_name_o l D cI cB aM hIM Mm n len ch sp m1 tl tc m6 hp k9 ho, fun M1 M2 e1 e2 => fin_tp h hT (FCx.rf _) e1 e2⟩
  | none =>
    by_cases hn : n = 60
    · exact Or.inr ⟨_, _, _, _, _, 2, _, _, by simp, by decide, by decide, by decide, by decide, x_C_name_2 l D cI cC cZ cT aC hIC hlT Mc n len ch c1 tl tc c7 hp ho hn, c_M_name_2 l D cI cB aM hIM Mm n len ch sp m1 tl tc m6 hp ho hn, fun M1 M2 e1 e2 => fin1 h hT (by rw [← e1]; exact FCx.rf _) e2.1 e2.2⟩
    · have hn9 : n < 60 := by omega
      refine Or.inl ⟨_, _, _, _, _, _, _, by decide, by decide, by decide, by decide, c_C_name_n l D cI cC cZ cT aC hIC Mc n len ch c1 tl tc c7 hp ho hn9, c_M_name_n l D cI cB aM hIM Mm n len ch sp m1 tl tc m6 hp ho hn9, fun M1 M2 e1 e2 => ?_⟩
      obtain ⟨M0, hA, e1⟩ := e1
      obtain ⟨N0, hX, hB⟩ := e2
      exact fin_nt hT hC hM hI9 hK9 hn9 hp htl (fun i hi => ⟨(m6.2.2 i hi).1, (m6.2.2 i hi).2.1⟩) ho (FCx.rf _) hA e1 hX hB

theorem op_expand (l : Launch) (D : va_G) (cI cC cZ cT cB : ClassId) (aC aM : Nat → Nat) (hIC : GI 144 aC) (hIM : GI 13 aM) (hlT : l.stackTraces = false) (Mc Mm : PM) (T : Nat) (h : Inv Mc Mm T) (hT : T < 512) : OpR l D cI cC cZ cT cB aC aM y_C_expand b_C_expand 2 (some .int) y_M_expand b_M_expand 1 (some .int) [] [("java/lang/IllegalStateException", 1), ("java/lang/IllegalArgumentException", 2), ("java/lang/UnsupportedOperationException", 3)] T Mc Mm := by
  obtain ⟨hT0, n, len, ch, sp, bs, us, st, rc, rw_, nc, rf, rt, tl, tc, pl, pc9, hC, hM, hI9, hK9⟩ := id h
  obtain ⟨c1, c2, c3, c4, c5, c6, c7, c8, c9, c10⟩ := id hC
  obtain ⟨m1, m2, m3, m4, m5, m6, m7⟩ := id hM
  obtain ⟨i1, i2, i3, i4, i5, rk0, i6⟩ := id hI9
  have hn60 := c1.1
  have hbsp := bs_sp (sp := sp) (bs := bs) i2
  by_cases h0 : tl = 0
  · exact Or.inr ⟨_, _, _, _, _, 1, _, _, by simp, by decide, by decide, by decide, by decide, x_C_expand_1 l D cI cC cZ cT aC hIC hlT Mc tl tc c7 h0, c_M_expand_1 l D cI cB aM hIM Mm tl tc m6 h0, fin0 h hT 1⟩
  have hp : 0 < tl := by omega
  have htl := m6.1
  have htc : ∀ i, i < tl → 33 ≤ tc i ∧ tc i ≤ 126 := fun i hi => ⟨(m6.2.2 i hi).1, (m6.2.2 i hi).2.1⟩
  by_cases hbr : brk tl tc
  · have hb1 := hbr.1
    by_cases h24 : 24 < tl - 2
    · have ho : Fst (sameT len ch (tl - 2) (scBr tc)) n none := same_none (fun k hk => (m1.2.2.1 k hk).2.1) h24
      exact Or.inr ⟨_, _, _, _, _, 3, _, _, by simp, by decide, by decide, by decide, by decide, x_C_expand_3a l D cI cC cZ cT aC hIC hlT Mc n len ch c1 sp bs c2 tl tc c7 hp htc hbr ho (Or.inl h24), c_M_expand_3a l D cI cB aM hIM Mm n len ch sp m1 tl tc m6 hbr none ho (Or.inl h24), fun M1 M2 e1 e2 => fin1 h hT (FCx.t5 e1) e2.1 e2.2⟩
    have h24 : tl - 2 ≤ 24 := by omega
    obtain ⟨o, ho⟩ := Fst.ex (sameT len ch (tl - 2) (scBr tc)) n
    cases o with
    | some k8 =>
      refine Or.inl ⟨_, _, _, _, _, _, _, by decide, by decide, by decide, by decide, c_C_expand_oa l D cI cC cZ cT aC hIC Mc n len ch c1 sp bs c2 tl tc c7 hp htc hbr k8 ho, c_M_expand_oa l D cI cB aM hIM Mm n len ch sp m1 tl tc m6 hbr k8 ho h24, fun M1 M2 e1 e2 => ?_⟩
      obtain ⟨M0, hF, e1⟩ := e1
      exact fin_tp h hT (FCx.t5 hF) e1 e2
    | none =>
      by_cases hn : n = 60
      · exact Or.inr ⟨_, _, _, _, _, 3, _, _, by simp, by decide, by decide, by decide, by decide, x_C_expand_3a l D cI cC cZ cT aC hIC hlT Mc n len ch c1 sp bs c2 tl tc c7 hp htc hbr ho (Or.inr hn), c_M_expand_3a l D cI cB aM hIM Mm n len ch sp m1 tl tc m6 hbr none ho (Or.inr ⟨rfl, hn⟩), fun M1 M2 e1 e2 => fin1 h hT (FCx.t5 e1) e2.1 e2.2⟩
      have hn9 : n < 60 := by omega
      refine Or.inl ⟨_, _, _, _, _, _, _, by decide, by decide, by decide, by decide, c_C_expand_na l D cI cC cZ cT aC hIC Mc n len ch c1 sp bs c2 tl tc c7 hp htc hbr ho h24 hn9, c_M_expand_na l D cI cB aM hIM Mm n len ch sp m1 tl tc m6 hbr ho (by omega) h24 hn9, fun M1 M2 e1 e2 => ?_⟩
      obtain ⟨M0, Mx, hF, hA, e1⟩ := e1
      obtain ⟨N0, hX, hB⟩ := e2
      exact fin_nt hT hC hM hI9 hK9 hn9 (by omega) h24 (scBr_ch hbr htc) ho (FCx.t5 hF) hA e1 hX hB
  obtain ⟨oc, hoc⟩ := Fst.ex (fun i => tc i = 58) tl
  cases oc with
  | none => exact Or.inr ⟨_, _, _, _, _, 2, _, _, by simp, by decide, by decide, by decide, by decide, x_C_expand_2f1 l D cI cC cZ cT aC hIC hlT Mc n len ch c1 sp bs c2 tl tc c7 hp htc hbr hoc, c_M_expand_2f1 l D cI cB aM hIM Mm n len ch sp m1 tl tc m6 hbr hp none hoc (fun q e => by cases e), fun M1 M2 e1 e2 => fin1 h hT (FCx.t5 e1) e2.1 e2.2⟩
  | some c9 =>
    have hc9 := hoc.1
    obtain ⟨ks, hks⟩ := Fst.ex (sameT len ch c9 tc) n
    by_cases hend : tl ≤ c9 + 1
    · cases ks with
      | none => exact Or.inr ⟨_, _, _, _, _, 2, _, _, by simp, by decide, by decide, by decide, by decide, x_C_expand_2f2 l D cI cC cZ cT aC hIC hlT Mc n len ch c1 sp bs c2 tl tc c7 hp htc hbr c9 hoc hks, c_M_expand_2f1 l D cI cB aM hIM Mm n len ch sp m1 tl tc m6 hbr hp (some c9) hoc (fun q e => by cases e; exact hend), fun M1 M2 e1 e2 => fin1 h hT (FCx.t5 e1) e2.1 e2.2⟩
      | some k9 => exact Or.inr ⟨_, _, _, _, _, 2, _, _, by simp, by decide, by decide, by decide, by decide, x_C_expand_2f3 l D cI cC cZ cT aC hIC hlT Mc n len ch c1 sp bs c2 tl tc c7 hp htc hbr c9 hoc k9 hks (Or.inr hend), c_M_expand_2f1 l D cI cB aM hIM Mm n len ch sp m1 tl tc m6 hbr hp (some c9) hoc (fun q e => by cases e; exact hend), fun M1 M2 e1 e2 => fin1 h hT (FCx.t5 e1) e2.1 e2.2⟩
    have hc8 : c9 + 1 < tl := by omega
    cases ks with
    | none => exact Or.inr ⟨_, _, _, _, _, 2, _, _, by simp, by decide, by decide, by decide, by decide, x_C_expand_2f2 l D cI cC cZ cT aC hIC hlT Mc n len ch c1 sp bs c2 tl tc c7 hp htc hbr c9 hoc hks, c_M_expand_2f2 l D cI cB aM hIM Mm n len ch sp m1 tl tc m6 hbr hp c9 hoc hc8 (fun k hk z => hks k hk ⟨z.2.1, z.2.2⟩), fun M1 M2 e1 e2 => fin1 h hT (FCx.t5 e1) e2.1 e2.2⟩
    | some k9 =>
      cases hs9 : sp k9 with
      | none => exact Or.inr ⟨_, _, _, _, _, 2, _, _, by simp, by decide, by decide, by decide, by decide, x_C_expand_2f3 l D cI cC cZ cT aC hIC hlT Mc n len ch c1 sp bs c2 tl tc c7 hp htc hbr c9 hoc k9 hks (Or.inl hs9), c_M_expand_2f2 l D cI cB aM hIM Mm n len ch sp m1 tl tc m6 hbr hp c9 hoc hc8 (fun k hk z => z.1 (by rw [i1 k k9 hk hks.1 (by rw [z.2.1, hks.2.1.1]) (fun i hi => by rw [z.2.2 i (by rw [← z.2.1]; exact hi), hks.2.1.2 i (by rw [← z.2.1]; exact hi)])]; exact hs9)), fun M1 M2 e1 e2 => fin1 h hT (FCx.t5 e1) e2.1 e2.2⟩
      | some s9 =>
        have hok : Fst (matK len ch sp tc c9) n (some k9) := ⟨hks.1, ⟨by rw [hs9]; simp, hks.2.1.1, hks.2.1.2⟩, fun j hj z => hks.2.2 j hj ⟨z.2.1, z.2.2⟩⟩
        have hs9n := (c2.2.2.1 k9 s9 hs9).2
        have hls := m1.2.2.1 s9 hs9n
        by_cases h24 : 24 < len s9 + (tl - (c9 + 1))
        · have ho : Fst (sameT len ch (len s9 + (tl - (c9 + 1))) (scCo len ch tc s9 c9)) n none := same_none (fun k hk => (m1.2.2.1 k hk).2.1) h24
          exact Or.inr ⟨_, _, _, _, _, 3, _, _, by simp, by decide, by decide, by decide, by decide, x_C_expand_3b l D cI cC cZ cT aC hIC hlT Mc n len ch c1 sp bs c2 tl tc c7 hp htc hbr c9 hoc hc8 k9 hks s9 hs9 ho (Or.inl h24), c_M_expand_3b l D cI cB aM hIM Mm n len ch sp m1 tl tc m6 hbr hp c9 hoc hc8 k9 s9 hok hs9 none ho (Or.inl h24), fun M1 M2 e1 e2 => fin1 h hT (FCx.t5 e1) e2.1 e2.2⟩
        have h24 : len s9 + (tl - (c9 + 1)) ≤ 24 := by omega
        obtain ⟨o, ho⟩ := Fst.ex (sameT len ch (len s9 + (tl - (c9 + 1))) (scCo len ch tc s9 c9)) n
        cases o with
        | some k8 =>
          refine Or.inl ⟨_, _, _, _, _, _, _, by decide, by decide, by decide, by decide, c_C_expand_ob l D cI cC cZ cT aC hIC Mc n len ch c1 sp bs c2 tl tc c7 hp htc hbr c9 hoc hc8 k9 hks s9 hs9 k8 ho, c_M_expand_ob l D cI cB aM hIM Mm n len ch sp m1 tl tc m6 hbr hp c9 hoc hc8 k9 s9 hok hs9 k8 ho h24, fun M1 M2 e1 e2 => ?_⟩
          obtain ⟨M0, hF, e1⟩ := e1
          exact fin_tp h hT (FCx.t5 hF) e1 e2
        | none =>
          by_cases hn : n = 60
          · exact Or.inr ⟨_, _, _, _, _, 3, _, _, by simp, by decide, by decide, by decide, by decide, x_C_expand_3b l D cI cC cZ cT aC hIC hlT Mc n len ch c1 sp bs c2 tl tc c7 hp htc hbr c9 hoc hc8 k9 hks s9 hs9 ho (Or.inr hn), c_M_expand_3b l D cI cB aM hIM Mm n len ch sp m1 tl tc m6 hbr hp c9 hoc hc8 k9 s9 hok hs9 none ho (Or.inr ⟨rfl, hn⟩), fun M1 M2 e1 e2 => fin1 h hT (FCx.t5 e1) e2.1 e2.2⟩
          have hn9 : n < 60 := by omega
          refine Or.inl ⟨_, _, _, _, _, _, _, by decide, by decide, by decide, by decide, c_C_expand_nb l D cI cC cZ cT aC hIC Mc n len ch c1 sp bs c2 tl tc c7 hp htc hbr c9 hoc hc8 k9 hks s9 hs9 ho h24 hn9, c_M_expand_nb l D cI cB aM hIM Mm n len ch sp m1 tl tc m6 hbr hp c9 hoc hc8 k9 s9 hok hs9 ho (by omega) h24 hn9, fun M1 M2 e1 e2 => ?_⟩
          obtain ⟨M0, Mx, hF, hA, e1⟩ := e1
          obtain ⟨N0, hX, hB⟩ := e2
          exact fin_nt hT hC hM hI9 hK9 hn9 (by omega) h24 (scCo_ch htc (fun i hi => ⟨(m1.2.2.2.2.2 s9 i hs9n hi).1, (m1.2.2.2.2.2 s9 i hs9n hi).2.1⟩)) ho (FCx.t5 hF) hA e1 hX hB


theorem op_print (l : Launch) (D : va_G) (cI cC cZ cT cB : ClassId) (aC aM : Nat → Nat) (hIC : GI 144 aC) (hIM : GI 13 aM) (hlT : l.stackTraces = false) (Mc Mm : PM) (T : Nat) (h : Inv Mc Mm T) (hT : T < 512) (x : Int32) : OpR l D cI cC cZ cT cB aC aM y_C_print b_C_print 4 (some .int) y_M_print b_M_print 5 (some .int) [.int x] [("java/lang/IndexOutOfBoundsException", 1)] T Mc Mm := by
  obtain ⟨hT0, n, len, ch, sp, bs, us, st, rc, rw_, nc, rf, rt, tl, tc, pl, pc9, hC, hM, hI9, hK9⟩ := id h
  obtain ⟨c1, c2, c3, c4, c5, c6, c7, c8, c9, c10⟩ := id hC
  obtain ⟨m1, m2, m3, m4, m5, m6, m7⟩ := id hM
  obtain ⟨i1, i2, i3, i4, i5, rk0, i6⟩ := id hI9
  have hn60 := c1.1
  have hbsp := bs_sp (sp := sp) (bs := bs) i2
  by_cases hx : ∃ j, j < n ∧ x = nI j
  · obtain ⟨a, ha, rfl⟩ := hx
    obtain ⟨o, ho⟩ := Best.ex (spC n len ch sp a) len n
    cases o with
    | none => exact Or.inl ⟨_, _, _, _, _, _, _, by decide, by decide, by decide, by decide, c_C_print_n l D cI cC cZ cT aC hIC Mc n len ch c1 sp bs c2 hbsp a ha ho, c_M_print_n l D cI cB aM hIM Mm n len ch sp m1 i1 a ha ho, fun M1 M2 e1 e2 => fin_sh h hT e1.1 (F35.f3 e1.2) e2.1 e2.2.1 e2.2.2 (P0_ch (fun i hi => ⟨(m1.2.2.2.2.2 a i ha hi).1, (m1.2.2.2.2.2 a i ha hi).2.1⟩))⟩
    | some s9 =>
      have ht9 := i2 s9 ho.1
      cases hb8 : bs s9 with
      | none => exact absurd hb8 ((hbsp s9 ho.1).mpr ho.2.1.2)
      | some b9 =>
        rw [hb8] at ht9
        have h4 := (i3 b9 (by rw [ht9.2.1]; simp)).1
        exact Or.inl ⟨_, _, _, _, _, _, _, by decide, by decide, by decide, by decide, c_C_print_s l D cI cC cZ cT aC hIC Mc n len ch c1 sp bs c2 hbsp a ha s9 b9 ho hb8 h4, c_M_print_s l D cI cB aM hIM Mm n len ch sp m1 i1 a ha s9 b9 ho (Top.wk ht9), fun M1 M2 e1 e2 => fin_sh h hT e1.1 (F35.f3 e1.2) e2.1 e2.2.1 e2.2.2 (P1_ch (Nat.le_of_lt ho.2.1.1.1) (fun i hi => ⟨(m1.2.2.2.2.2 a i ha hi).1, (m1.2.2.2.2.2 a i ha hi).2.1⟩) (fun i hi => ⟨(m1.2.2.2.2.2 b9 i ht9.1 hi).1, (m1.2.2.2.2.2 b9 i ht9.1 hi).2.1⟩))⟩
  · exact Or.inr ⟨_, _, _, _, _, 1, _, _, by simp, by decide, by decide, by decide, by decide, x_C_print_1 l D cI cC cZ cT aC hIC hlT Mc n len ch c1 x hx, c_M_print_1 l D cI cB aM hIM Mm n len ch sp m1 x hx, fin0 h hT 1⟩

theorem op_propose (l : Launch) (D : va_G) (cI cC cZ cT cB : ClassId) (aC aM : Nat → Nat) (hIC : GI 144 aC) (hIM : GI 13 aM) (hlT : l.stackTraces = false) (Mc Mm : PM) (T : Nat) (h : Inv Mc Mm T) (hT : T < 512) (x : Int32) : OpR l D cI cC cZ cT cB aC aM y_C_propose b_C_propose 4 (some .int) y_M_propose b_M_propose 8 (some .int) [.int x] [("java/lang/IndexOutOfBoundsException", 1)] T Mc Mm := by
  obtain ⟨hT0, n, len, ch, sp, bs, us, st, rc, rw_, nc, rf, rt, tl, tc, pl, pc9, hC, hM, hI9, hK9⟩ := id h
  obtain ⟨c1, c2, c3, c4, c5, c6, c7, c8, c9, c10⟩ := id hC
  obtain ⟨m1, m2, m3, m4, m5, m6, m7⟩ := id hM
  obtain ⟨i1, i2, i3, i4, i5, rk0, i6⟩ := id hI9
  have hn60 := c1.1
  have hbsp := bs_sp (sp := sp) (bs := bs) i2
  by_cases hx : ∃ j, j < n ∧ x = nI j
  · obtain ⟨a, ha, rfl⟩ := hx
    obtain ⟨f9, e9, hrun⟩ := RunL.ex len ch a
    have la := m1.2.2.1 a ha
    have hbb := blP_b hrun.1 hrun.2.1 la.1
    obtain ⟨r9, hr9⟩ := ChP.ex (fun j => tkP n len ch sp (clP (min (blP f9 e9) 4) j) (ccP (bcP ch a f9 e9) (min (blP f9 e9) 4) j)) (min (blP f9 e9) 4)
    exact Or.inl ⟨_, _, _, _, _, _, _, by decide, by decide, by decide, by decide, c_C_propose_0 l D cI cC cZ cT aC hIC Mc n len ch c1 sp bs c2 a ha f9 e9 hrun _ rfl _ rfl _ rfl r9 hr9, c_M_propose_0 l D cI cB aM hIM Mm n len ch sp m1 a ha f9 e9 hrun _ rfl _ rfl _ rfl r9 hr9, fun M1 M2 e1 e2 => fin_sh h hT e1.1 e1.2 e2.1 e2.2.1 e2.2.2 (ccP_r (bcP_r hrun) rfl hbb.1 hr9.1)⟩
  · exact Or.inr ⟨_, _, _, _, _, 1, _, _, by simp, by decide, by decide, by decide, by decide, x_C_propose_1 l D cI cC cZ cT aC hIC hlT Mc n len ch c1 x hx, c_M_propose_1 l D cI cB aM hIM Mm n len ch sp m1 x hx, fin0 h hT 1⟩

theorem op_use (l : Launch) (D : va_G) (cI cC cZ cT cB : ClassId) (aC aM : Nat → Nat) (hIC : GI 144 aC) (hIM : GI 13 aM) (hlT : l.stackTraces = false) (Mc Mm : PM) (T : Nat) (h : Inv Mc Mm T) (hT : T < 512) (x : Int32) : OpR l D cI cC cZ cT cB aC aM y_C_use b_C_use 2 (some .int) y_M_use b_M_use 2 (some .int) [.int x] [("java/lang/IndexOutOfBoundsException", 1)] T Mc Mm := by
  obtain ⟨hT0, n, len, ch, sp, bs, us, st, rc, rw_, nc, rf, rt, tl, tc, pl, pc9, hC, hM, hI9, hK9⟩ := id h
  obtain ⟨c1, c2, c3, c4, c5, c6, c7, c8, c9, c10⟩ := id hC
  obtain ⟨m1, m2, m3, m4, m5, m6, m7⟩ := id hM
  obtain ⟨i1, i2, i3, i4, i5, rk0, i6⟩ := id hI9
  have hn60 := c1.1
  have hbsp := bs_sp (sp := sp) (bs := bs) i2
  by_cases hx : ∃ j, j < n ∧ x = nI j
  · obtain ⟨a, ha, rfl⟩ := hx
    exact Or.inl ⟨_, _, _, _, _, _, _, by decide, by decide, by decide, by decide, c_C_use l D cI cC cZ cT aC hIC Mc n len ch c1 us c3 a ha, c_M_use l D cI cB aM hIM Mm n len ch sp m1 us m2 a ha, fun M1 M2 e1 e2 => fin_us hT hC hM hI9 hK9 ha e1 e2⟩
  · exact Or.inr ⟨_, _, _, _, _, 1, _, _, by simp, by decide, by decide, by decide, by decide, x_C_use_1 l D cI cC cZ cT aC hIC hlT Mc n len ch c1 x hx, c_M_use_1 l D cI cB aM hIM Mm n len ch sp m1 x hx, fin0 h hT 1⟩

theorem op_row (l : Launch) (D : va_G) (cI cC cZ cT cB : ClassId) (aC aM : Nat → Nat) (hIC : GI 144 aC) (hIM : GI 13 aM) (hlT : l.stackTraces = false) (Mc Mm : PM) (T : Nat) (h : Inv Mc Mm T) (hT : T < 512) (x y z : Int32) : OpR l D cI cC cZ cT cB aC aM y_C_row b_C_row 5 (some .int) y_M_row b_M_row 5 (some .int) [.int x, .int y, .int z] [("java/lang/IndexOutOfBoundsException", 1), ("java/lang/IllegalStateException", 2), ("java/lang/UnsupportedOperationException", 3)] T Mc Mm := by
  obtain ⟨hT0, n, len, ch, sp, bs, us, st, rc, rw_, nc, rf, rt, tl, tc, pl, pc9, hC, hM, hI9, hK9⟩ := id h
  obtain ⟨c1, c2, c3, c4, c5, c6, c7, c8, c9, c10⟩ := id hC
  obtain ⟨m1, m2, m3, m4, m5, m6, m7⟩ := id hM
  obtain ⟨i1, i2, i3, i4, i5, rk0, i6⟩ := id hI9
  have hn60 := c1.1
  have hbsp := bs_sp (sp := sp) (bs := bs) i2
  by_cases hx : ∃ j, j < n ∧ x = nI j
  · obtain ⟨a, ha, rfl⟩ := hx
    by_cases hy : ∃ j, j < n ∧ y = nI j
    · obtain ⟨b9, hb9, rfl⟩ := hy
      by_cases hz : ∃ j, j < n ∧ z = nI j
      · obtain ⟨d9, hd9, rfl⟩ := hz
        obtain ⟨spo, hSp⟩ := spo_ex n len ch sp
        have hO := hSp a ha
        cases hsa : spo a with
        | none =>
          rw [hsa] at hO
          exact Or.inr ⟨_, _, _, _, _, 2, _, _, by simp, by decide, by decide, by decide, by decide, x_C_row_2 l D cI cC cZ cT aC hIC hlT Mc n len ch c1 sp bs c2 hbsp rc rw_ c5 a b9 d9 ha hb9 hd9 hO, c_M_row_2 l D cI cB aM hIM Mm n len ch sp m1 spo hSp rc rw_ m4 a b9 d9 ha hb9 hd9 hsa, fin0 h hT 2⟩
        | some s9 =>
          rw [hsa] at hO
          have hns : spo a ≠ none := by rw [hsa]; simp
          obtain ⟨o, ho⟩ := Fst.ex (fun k => rw_ (3 * k) = a) rc
          cases o with
          | some r9 => exact Or.inl ⟨_, _, _, _, _, _, _, by decide, by decide, by decide, by decide, c_C_row_c l D cI cC cZ cT aC hIC Mc n len ch c1 sp bs c2 hbsp rc rw_ c5 a b9 d9 ha hb9 hd9 s9 hO r9 ho, c_M_row_c l D cI cB aM hIM Mm n len ch sp m1 spo hSp rc rw_ m4 a b9 d9 ha hb9 hd9 hns r9 ho, fin_cl h hT _ _ _⟩
          | none =>
            by_cases h40 : rc = 40
            · exact Or.inr ⟨_, _, _, _, _, 3, _, _, by simp, by decide, by decide, by decide, by decide, x_C_row_3 l D cI cC cZ cT aC hIC hlT Mc n len ch c1 sp bs c2 hbsp rc rw_ c5 a b9 d9 ha hb9 hd9 s9 hO ho h40, c_M_row_3 l D cI cB aM hIM Mm n len ch sp m1 spo hSp rc rw_ m4 a b9 d9 ha hb9 hd9 hns ho h40, fun M1 M2 e1 e2 => fin1 h hT (by rw [← e1]; exact FCx.rf _) (by rw [e2]; exact (SX.thr _ _).tr (SX.thr _ _)) (by rw [e2, pu_s])⟩
            · have h39 : rc < 40 := by have := c5.1; omega
              exact Or.inl ⟨_, _, _, _, _, _, _, by decide, by decide, by decide, by decide, c_C_row_0 l D cI cC cZ cT aC hIC Mc n len ch c1 sp bs c2 hbsp rc rw_ c5 a b9 d9 ha hb9 hd9 s9 hO ho h39, c_M_row l D cI cB aM hIM Mm n len ch sp m1 spo hSp rc rw_ m4 a b9 d9 ha hb9 hd9 hns ho h39, fun M1 M2 e1 e2 => fin_rw hT hC hM hI9 hK9 ha hb9 hd9 h39 e1 e2⟩
      · exact Or.inr ⟨_, _, _, _, _, 1, _, _, by simp, by decide, by decide, by decide, by decide, x_C_row_1c l D cI cC cZ cT aC hIC hlT Mc n len ch c1 a b9 ha hb9 z hz, c_M_row_1c l D cI cB aM hIM Mm n len ch sp m1 a b9 ha hb9 z hz, fin0 h hT 1⟩
    · exact Or.inr ⟨_, _, _, _, _, 1, _, _, by simp, by decide, by decide, by decide, by decide, x_C_row_1b l D cI cC cZ cT aC hIC hlT Mc n len ch c1 a ha y hy z, c_M_row_1b l D cI cB aM hIM Mm n len ch sp m1 a ha y hy z, fin0 h hT 1⟩
  · exact Or.inr ⟨_, _, _, _, _, 1, _, _, by simp, by decide, by decide, by decide, by decide, x_C_row_1a l D cI cC cZ cT aC hIC hlT Mc n len ch c1 x y hx z, c_M_row_1a l D cI cB aM hIM Mm n len ch sp m1 x y hx z, fin0 h hT 1⟩

theorem op_alias (l : Launch) (D : va_G) (cI cC cZ cT cB : ClassId) (aC aM : Nat → Nat) (hIC : GI 144 aC) (hIM : GI 13 aM) (hlT : l.stackTraces = false) (Mc Mm : PM) (T : Nat) (h : Inv Mc Mm T) (hT : T < 512) (x y : Int32) : OpR l D cI cC cZ cT cB aC aM y_C_alias b_C_alias 3 (some .boolean) y_M_alias b_M_alias 3 (some .boolean) [.int x, .int y] [("java/lang/IndexOutOfBoundsException", 1)] T Mc Mm := by
  obtain ⟨hT0, n, len, ch, sp, bs, us, st, rc, rw_, nc, rf, rt, tl, tc, pl, pc9, hC, hM, hI9, hK9⟩ := id h
  obtain ⟨c1, c2, c3, c4, c5, c6, c7, c8, c9, c10⟩ := id hC
  obtain ⟨m1, m2, m3, m4, m5, m6, m7⟩ := id hM
  obtain ⟨i1, i2, i3, i4, i5, rk0, i6⟩ := id hI9
  have hn60 := c1.1
  have hbsp := bs_sp (sp := sp) (bs := bs) i2
  by_cases hx : ∃ j, j < n ∧ x = nI j
  · obtain ⟨a, ha, rfl⟩ := hx
    by_cases hy : ∃ j, j < n ∧ y = nI j
    · obtain ⟨b9, hb9, rfl⟩ := hy
      obtain ⟨rk, hRk, hr60⟩ := rk_bound i6 c4.2 hn60
      by_cases hL : Lds st (some b9) a
      · exact Or.inl ⟨_, _, _, _, _, _, _, by decide, by decide, by decide, by decide, c_C_alias_c l D cI cC cZ cT aC hIC Mc n len ch c1 st c4 rk hRk hr60 a b9 ha hb9 ((Lds_or st a b9).mp hL), c_M_alias_c l D cI cB aM hIM Mm n len ch sp m1 st m3 rk hRk a b9 ha hb9 hL, fin_cl h hT _ _ _⟩
      · exact Or.inl ⟨_, _, _, _, _, _, _, by decide, by decide, by decide, by decide, c_C_alias_0 l D cI cC cZ cT aC hIC Mc n len ch c1 st c4 rk hRk hr60 a b9 ha hb9 (fun e => hL ((Lds_or st a b9).mpr (Or.inl e))) (fun e => hL ((Lds_or st a b9).mpr (Or.inr e))), c_M_alias l D cI cB aM hIM Mm n len ch sp m1 st m3 rk hRk a b9 ha hb9 hL, fun M1 M2 e1 e2 => fin_al hT hC hM hI9 hK9 ha hb9 hL e1 e2⟩
    · exact Or.inr ⟨_, _, _, _, _, 1, _, _, by simp, by decide, by decide, by decide, by decide, x_C_alias_1b l D cI cC cZ cT aC hIC hlT Mc n len ch c1 a ha y hy, c_M_alias_1b l D cI cB aM hIM Mm n len ch sp m1 a ha y hy, fin0 h hT 1⟩
  · exact Or.inr ⟨_, _, _, _, _, 1, _, _, by simp, by decide, by decide, by decide, by decide, x_C_alias_1a l D cI cC cZ cT aC hIC hlT Mc n len ch c1 x y hx, c_M_alias_1a l D cI cB aM hIM Mm n len ch sp m1 x y hx, fin0 h hT 1⟩

theorem op_prefix (l : Launch) (D : va_G) (cI cC cZ cT cB : ClassId) (aC aM : Nat → Nat) (hIC : GI 144 aC) (hIM : GI 13 aM) (hlT : l.stackTraces = false) (Mc Mm : PM) (T : Nat) (h : Inv Mc Mm T) (hT : T < 512) (x y : Int32) : OpR l D cI cC cZ cT cB aC aM y_C_prefix b_C_prefix 4 (some .boolean) y_M_prefix b_M_prefix 3 (some .boolean) [.int x, .int y] [("java/lang/IndexOutOfBoundsException", 1), ("java/lang/IllegalArgumentException", 2)] T Mc Mm := by
  obtain ⟨hT0, n, len, ch, sp, bs, us, st, rc, rw_, nc, rf, rt, tl, tc, pl, pc9, hC, hM, hI9, hK9⟩ := id h
  obtain ⟨c1, c2, c3, c4, c5, c6, c7, c8, c9, c10⟩ := id hC
  obtain ⟨m1, m2, m3, m4, m5, m6, m7⟩ := id hM
  obtain ⟨i1, i2, i3, i4, i5, rk0, i6⟩ := id hI9
  have hn60 := c1.1
  have hbsp := bs_sp (sp := sp) (bs := bs) i2
  by_cases hx : ∃ j, j < n ∧ x = nI j
  · obtain ⟨a, ha, rfl⟩ := hx
    by_cases hy : ∃ j, j < n ∧ y = nI j
    · obtain ⟨b9, hb9, rfl⟩ := hy
      by_cases h2 : a = b9 ∨ ¬ cbs len ch b9
      · exact Or.inr ⟨_, _, _, _, _, 2, _, _, by simp, by decide, by decide, by decide, by decide, x_C_prefix_2 l D cI cC cZ cT aC hIC hlT Mc n len ch c1 a b9 ha hb9 h2, c_M_prefix_2 l D cI cB aM hIM Mm n len ch sp m1 a b9 ha hb9 h2, fin0 h hT 2⟩
      have hab : a ≠ b9 := fun e => h2 (Or.inl e)
      have hc9 : cbs len ch b9 := Classical.not_not.mp (fun e => h2 (Or.inr e))
      cases hs0 : sp b9 with
      | some w9 =>
        by_cases hne : w9 = a
        · rw [hne] at hs0
          exact Or.inl ⟨_, _, _, _, _, _, _, by decide, by decide, by decide, by decide, c_C_prefix_k l D cI cC cZ cT aC hIC Mc n len ch c1 sp bs c2 a b9 ha hb9 hab hc9 hs0, c_M_prefix_0 l D cI cB aM hIM Mm n len ch sp m1 a b9 ha hb9 hab hc9 (Or.inr hs0), fun M1 M2 e1 e2 => ⟨⟨hT, n, len, ch, sp, bs, us, st, rc, rw_, nc, rf, rt, tl, tc, pl, pc9, by rw [← e1]; exact hC, by rw [e2]; exact sp_again (hM.thr _) hb9 hs0, hI9.up, hK9.of (fun q _ => by rw [e1]) (fun q => by rw [e2, pu_k _ _ _ _ _ (by decide), pu_k _ _ _ _ _ (by decide)])⟩, by rw [e2, pu_k _ _ _ _ _ (by decide), pu_s]⟩⟩
        · exact Or.inl ⟨_, _, _, _, _, _, _, by decide, by decide, by decide, by decide, c_C_prefix_c l D cI cC cZ cT aC hIC Mc n len ch c1 sp bs c2 a b9 ha hb9 hab hc9 w9 hs0 hne, c_M_prefix_c l D cI cB aM hIM Mm n len ch sp m1 a b9 ha hb9 hab hc9 w9 hs0 hne, fin_cl h hT _ _ _⟩
      | none =>
        have hsz : Cnt (spB (va_up sp b9 (some a))) n = Cnt (spB sp) n + 1 := Cnt_upd hb9 (by unfold spB; rw [hs0]; simp) (by unfold spB; rw [va_up_self]; simp) (fun j _ hj => by unfold spB; rw [va_up_ne _ _ hj])
        cases hb8 : bs a with
        | none =>
          have hbz : Cnt (spB (va_up bs a (some b9))) n = Cnt (spB bs) n + 1 := Cnt_upd ha (by unfold spB; rw [hb8]; simp) (by unfold spB; rw [va_up_self]; simp) (fun j _ hj => by unfold spB; rw [va_up_ne _ _ hj])
          exact Or.inl ⟨_, _, _, _, _, _, _, by decide, by decide, by decide, by decide, c_C_prefix_n0 l D cI cC cZ cT aC hIC Mc n len ch c1 sp bs c2 a b9 ha hb9 hab hc9 hs0 _ _ c9 c10 (by have := Cnt_le (spB sp) n; omega) (by have := Cnt_le (spB bs) n; omega) hb8, c_M_prefix_0 l D cI cB aM hIM Mm n len ch sp m1 a b9 ha hb9 hab hc9 (Or.inl hs0), fun M1 M2 e1 e2 => fin_px hT hC hM hI9 hK9 ha hb9 hc9 hs0 (bs' := va_up bs a (some b9)) (Top_px i2 hb9 hs0 ha (fun j hj e => absurd e (by have q := i2 a ha; rw [hb8] at q; exact q j hj))) (up_lt c2.2.2.2 ha hb9) (fun p q g1 g2 g3 => by rw [e1, pu_k _ _ _ _ _ g3, pu_k _ _ _ _ _ g1, pu_k _ _ _ _ _ g1, pu_k _ _ _ _ _ g2]) ⟨by rw [e1, pu_k _ _ _ _ _ (by decide), pu_k _ _ _ _ _ (by decide), pu_k _ _ _ _ _ (by decide), pu_s], fun q hq => by rw [e1, pu_k _ _ _ _ _ (by decide), pu_k _ _ _ _ _ (by decide), pu_k _ _ _ _ _ (by decide), pu_j _ _ _ _ _ hq]⟩ (fun q hq => by by_cases z : q = a; rw [z, va_up_self, e1, pu_s]; rfl; rw [va_up_ne _ _ z, e1, pu_j _ _ _ _ _ z, pu_k _ _ _ _ _ (by decide), pu_k _ _ _ _ _ (by decide), pu_k _ _ _ _ _ (by decide)]; exact c2.2.1 q hq) (by rw [e1, hsz, pu_k _ _ _ _ _ (by decide), pu_j _ _ _ _ _ (by decide), pu_s]) (by rw [e1, hbz, pu_k _ _ _ _ _ (by decide), pu_s]) e2⟩
        | some b8 =>
          have ht8 := i2 a ha
          rw [hb8] at ht8
          by_cases hbt : btS len ch b9 b8
          · have hbz : Cnt (spB (va_up bs a (some b9))) n = Cnt (spB bs) n := Cnt_congr (fun j _ => by unfold spB; by_cases z : j = a; rw [z, va_up_self, hb8]; simp; rw [va_up_ne _ _ z])
            exact Or.inl ⟨_, _, _, _, _, _, _, by decide, by decide, by decide, by decide, c_C_prefix_b0 l D cI cC cZ cT aC hIC Mc n len ch c1 sp bs c2 a b9 ha hb9 hab hc9 hs0 _ _ c9 c10 (by have := Cnt_le (spB sp) n; omega) (by have := Cnt_le (spB bs) n; omega) b8 hb8 hbt, c_M_prefix_0 l D cI cB aM hIM Mm n len ch sp m1 a b9 ha hb9 hab hc9 (Or.inl hs0), fun M1 M2 e1 e2 => fin_px hT hC hM hI9 hK9 ha hb9 hc9 hs0 (bs' := va_up bs a (some b9)) (Top_px i2 hb9 hs0 ha (fun j hj e z => ht8.2.2 j hj e (btS_tr z hbt))) (up_lt c2.2.2.2 ha hb9) (fun p q g1 g2 g3 => by rw [e1, pu_k _ _ _ _ _ g3, pu_k _ _ _ _ _ g1, pu_k _ _ _ _ _ g2]) ⟨by rw [e1, pu_k _ _ _ _ _ (by decide), pu_k _ _ _ _ _ (by decide), pu_s], fun q hq => by rw [e1, pu_k _ _ _ _ _ (by decide), pu_k _ _ _ _ _ (by decide), pu_j _ _ _ _ _ hq]⟩ (fun q hq => by by_cases z : q = a; rw [z, va_up_self, e1, pu_s]; rfl; rw [va_up_ne _ _ z, e1, pu_j _ _ _ _ _ z, pu_k _ _ _ _ _ (by decide), pu_k _ _ _ _ _ (by decide)]; exact c2.2.1 q hq) (by rw [e1, hsz, pu_k _ _ _ _ _ (by decide), pu_s]) (by rw [e1, hbz, pu_k _ _ _ _ _ (by decide), pu_j _ _ _ _ _ (by decide), pu_k _ _ _ _ _ (by decide)]; exact c10) e2⟩
          · exact Or.inl ⟨_, _, _, _, _, _, _, by decide, by decide, by decide, by decide, c_C_prefix_k0 l D cI cC cZ cT aC hIC Mc n len ch c1 sp bs c2 a b9 ha hb9 hab hc9 hs0 _ _ c9 c10 (by have := Cnt_le (spB sp) n; omega) (by have := Cnt_le (spB bs) n; omega) b8 hb8 hbt, c_M_prefix_0 l D cI cB aM hIM Mm n len ch sp m1 a b9 ha hb9 hab hc9 (Or.inl hs0), fun M1 M2 e1 e2 => fin_px hT hC hM hI9 hK9 ha hb9 hc9 hs0 (bs' := bs) (Top_pk i2 hb9 hs0 ha hb8 hbt) c2.2.2.2 (fun p q g1 g2 g3 => by rw [e1, pu_k _ _ _ _ _ g1, pu_k _ _ _ _ _ g2]) ⟨by rw [e1, pu_k _ _ _ _ _ (by decide), pu_s], fun q hq => by rw [e1, pu_k _ _ _ _ _ (by decide), pu_j _ _ _ _ _ hq]⟩ (fun q hq => by rw [e1, pu_k _ _ _ _ _ (by decide), pu_k _ _ _ _ _ (by decide)]; exact c2.2.1 q hq) (by rw [e1, hsz, pu_s]) (by rw [e1, pu_j _ _ _ _ _ (by decide), pu_k _ _ _ _ _ (by decide)]; exact c10) e2⟩
    · exact Or.inr ⟨_, _, _, _, _, 1, _, _, by simp, by decide, by decide, by decide, by decide, x_C_prefix_1b l D cI cC cZ cT aC hIC hlT Mc n len ch c1 a ha y hy, c_M_prefix_1b l D cI cB aM hIM Mm n len ch sp m1 a ha y hy, fin0 h hT 1⟩
  · exact Or.inr ⟨_, _, _, _, _, 1, _, _, by simp, by decide, by decide, by decide, by decide, x_C_prefix_1a l D cI cC cZ cT aC hIC hlT Mc n len ch c1 x y hx, c_M_prefix_1a l D cI cB aM hIM Mm n len ch sp m1 x y hx, fin0 h hT 1⟩

theorem op_join (l : Launch) (D : va_G) (cI cC cZ cT cB : ClassId) (aC aM : Nat → Nat) (hIC : GI 144 aC) (hIM : GI 13 aM) (hlT : l.stackTraces = false) (Mc Mm : PM) (T : Nat) (h : Inv Mc Mm T) (hT : T < 512) (x y z : Int32) : OpR l D cI cC cZ cT cB aC aM y_C_join b_C_join 4 (some .int) y_M_join b_M_join 6 (some .int) [.int x, .int y, .int z] [("java/lang/IndexOutOfBoundsException", 1), ("java/lang/IllegalArgumentException", 2), ("java/lang/UnsupportedOperationException", 3)] T Mc Mm := by
  obtain ⟨hT0, n, len, ch, sp, bs, us, st, rc, rw_, nc, rf, rt, tl, tc, pl, pc9, hC, hM, hI9, hK9⟩ := id h
  obtain ⟨c1, c2, c3, c4, c5, c6, c7, c8, c9, c10⟩ := id hC
  obtain ⟨m1, m2, m3, m4, m5, m6, m7⟩ := id hM
  obtain ⟨i1, i2, i3, i4, i5, rk0, i6⟩ := id hI9
  have hn60 := c1.1
  have hbsp := bs_sp (sp := sp) (bs := bs) i2
  by_cases hx : ∃ j, j < n ∧ x = nI j
  · obtain ⟨a, ha, rfl⟩ := hx
    by_cases hy : ∃ j, j < n ∧ y = nI j
    · obtain ⟨b9, hb9, rfl⟩ := hy
      have lb := m1.2.2.1 b9 hb9
      by_cases hz : ∃ c, c ≤ 1 ∧ z = nI c
      · obtain ⟨c, hc, rfl⟩ := hz
        rcases (show c = 0 ∨ c = 1 by omega) with rfl | rfl
        · have hcp := cutF_hp len ch a
          by_cases h24 : 24 < cutF ch a (len a) + len b9
          · have ho : Fst (sameT len ch (cutF ch a (len a) + len b9) (scJ0 ch a b9 (cutF ch a (len a)))) n none := same_none (fun k hk => (m1.2.2.1 k hk).2.1) h24
            exact Or.inr ⟨_, _, _, _, _, 3, _, _, by simp, by decide, by decide, by decide, by decide, x_C_join_30 l D cI cC cZ cT aC hIC hlT Mc n len ch c1 a b9 ha hb9 (cutF ch a (len a)) hcp ho (Or.inl h24), c_M_join_30 l D cI cB aM hIM Mm n len ch sp m1 a b9 ha hb9  none ho (Or.inl h24), fun M1 M2 e1 e2 => fin1 h hT (FCx.t5 e1) e2.1 e2.2⟩
          have h24 : cutF ch a (len a) + len b9 ≤ 24 := by omega
          obtain ⟨o, ho⟩ := Fst.ex (sameT len ch (cutF ch a (len a) + len b9) (scJ0 ch a b9 (cutF ch a (len a)))) n
          cases o with
          | some k8 => exact Or.inl ⟨_, _, _, _, _, _, _, by decide, by decide, by decide, by decide, c_C_join_o0 l D cI cC cZ cT aC hIC Mc n len ch c1 a b9 ha hb9 (cutF ch a (len a)) hcp k8 ho, c_M_join_o0 l D cI cB aM hIM Mm n len ch sp m1 a b9 ha hb9  k8 ho h24, fun M1 M2 e1 e2 => fin1 h hT (FCx.t5 e1) e2.1 e2.2⟩
          | none =>
            by_cases hn : n = 60
            · exact Or.inr ⟨_, _, _, _, _, 3, _, _, by simp, by decide, by decide, by decide, by decide, x_C_join_30 l D cI cC cZ cT aC hIC hlT Mc n len ch c1 a b9 ha hb9 (cutF ch a (len a)) hcp ho (Or.inr hn), c_M_join_30 l D cI cB aM hIM Mm n len ch sp m1 a b9 ha hb9  none ho (Or.inr ⟨rfl, hn⟩), fun M1 M2 e1 e2 => fin1 h hT (FCx.t5 e1) e2.1 e2.2⟩
            have hn9 : n < 60 := by omega
            refine Or.inl ⟨_, _, _, _, _, _, _, by decide, by decide, by decide, by decide, c_C_join_n0 l D cI cC cZ cT aC hIC Mc n len ch c1 a b9 ha hb9 (cutF ch a (len a)) hcp ho h24 hn9, c_M_join_n0 l D cI cB aM hIM Mm n len ch sp m1 a b9 ha hb9  ho h24 hn9, fun M1 M2 e1 e2 => ?_⟩
            obtain ⟨M0, hF, hA⟩ := e1
            obtain ⟨N0, hs, h00, hB⟩ := e2
            exact fin_nj hT hC hM hI9 hK9 hn9 (by omega) h24 (scJ0_ch hcp.1 (fun i hi => ⟨(m1.2.2.2.2.2 a i ha hi).1, (m1.2.2.2.2.2 a i ha hi).2.1⟩) (fun i hi => ⟨(m1.2.2.2.2.2 b9 i hb9 hi).1, (m1.2.2.2.2.2 b9 i hb9 hi).2.1⟩)) ho (FCx.t5 hF) hA hs h00 hB
        · obtain ⟨c9', hcut⟩ := Cut1.ex len ch a
          by_cases h24 : 24 < c9' + 1 + len b9
          · have ho : Fst (sameT len ch (c9' + 1 + len b9) (scJ1 ch a b9 c9')) n none := same_none (fun k hk => (m1.2.2.1 k hk).2.1) h24
            exact Or.inr ⟨_, _, _, _, _, 3, _, _, by simp, by decide, by decide, by decide, by decide, x_C_join_31 l D cI cC cZ cT aC hIC hlT Mc n len ch c1 a b9 ha hb9 c9' hcut ho (Or.inl h24), c_M_join_31 l D cI cB aM hIM Mm n len ch sp m1 a b9 ha hb9 c9' hcut none ho (Or.inl h24), fun M1 M2 e1 e2 => fin1 h hT (FCx.t5 e1) e2.1 e2.2⟩
          have h24 : c9' + 1 + len b9 ≤ 24 := by omega
          obtain ⟨o, ho⟩ := Fst.ex (sameT len ch (c9' + 1 + len b9) (scJ1 ch a b9 c9')) n
          cases o with
          | some k8 => exact Or.inl ⟨_, _, _, _, _, _, _, by decide, by decide, by decide, by decide, c_C_join_o1 l D cI cC cZ cT aC hIC Mc n len ch c1 a b9 ha hb9 c9' hcut k8 ho, c_M_join_o1 l D cI cB aM hIM Mm n len ch sp m1 a b9 ha hb9 c9' hcut k8 ho h24, fun M1 M2 e1 e2 => fin1 h hT (FCx.t5 e1) e2.1 e2.2⟩
          | none =>
            by_cases hn : n = 60
            · exact Or.inr ⟨_, _, _, _, _, 3, _, _, by simp, by decide, by decide, by decide, by decide, x_C_join_31 l D cI cC cZ cT aC hIC hlT Mc n len ch c1 a b9 ha hb9 c9' hcut ho (Or.inr hn), c_M_join_31 l D cI cB aM hIM Mm n len ch sp m1 a b9 ha hb9 c9' hcut none ho (Or.inr ⟨rfl, hn⟩), fun M1 M2 e1 e2 => fin1 h hT (FCx.t5 e1) e2.1 e2.2⟩
            have hn9 : n < 60 := by omega
            refine Or.inl ⟨_, _, _, _, _, _, _, by decide, by decide, by decide, by decide, c_C_join_n1 l D cI cC cZ cT aC hIC Mc n len ch c1 a b9 ha hb9 c9' hcut ho h24 hn9, c_M_join_n1 l D cI cB aM hIM Mm n len ch sp m1 a b9 ha hb9 c9' hcut ho h24 hn9, fun M1 M2 e1 e2 => ?_⟩
            obtain ⟨M0, hF, hA⟩ := e1
            obtain ⟨N0, hs, h00, hB⟩ := e2
            exact fin_nj hT hC hM hI9 hK9 hn9 (by omega) h24 (scJ1_ch hcut.1 (fun i hi => ⟨(m1.2.2.2.2.2 a i ha hi).1, (m1.2.2.2.2.2 a i ha hi).2.1⟩) (fun i hi => ⟨(m1.2.2.2.2.2 b9 i hb9 hi).1, (m1.2.2.2.2.2 b9 i hb9 hi).2.1⟩)) ho (FCx.t5 hF) hA hs h00 hB
      · exact Or.inr ⟨_, _, _, _, _, 2, _, _, by simp, by decide, by decide, by decide, by decide, x_C_join_2 l D cI cC cZ cT aC hIC hlT Mc n len ch c1 a b9 ha hb9 z hz, c_M_join_2 l D cI cB aM hIM Mm n len ch sp m1 a b9 ha hb9 z hz, fin0 h hT 2⟩
    · exact Or.inr ⟨_, _, _, _, _, 1, _, _, by simp, by decide, by decide, by decide, by decide, x_C_join_1b l D cI cC cZ cT aC hIC hlT Mc n len ch c1 a ha y hy z, c_M_join_1b l D cI cB aM hIM Mm n len ch sp m1 a ha y hy z, fin0 h hT 1⟩
  · exact Or.inr ⟨_, _, _, _, _, 1, _, _, by simp, by decide, by decide, by decide, by decide, x_C_join_1a l D cI cC cZ cT aC hIC hlT Mc n len ch c1 x y hx z, c_M_join_1a l D cI cB aM hIM Mm n len ch sp m1 x y hx z, fin0 h hT 1⟩
