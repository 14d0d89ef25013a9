def OpR (l : Launch) (D : va_G) (cI cC cZ cT cB : ClassId) (aC aM : Nat → Nat) (yC : MethodName) (bC : ByteArray) (mC : Nat) (rC : Option FieldType) (yM : MethodName) (bM : ByteArray) (mM : Nat) (rM : Option FieldType) (as : List Value) (cd : List (String × Nat)) (T : Nat) (Mc Mm : PM) : Prop :=
  (∃ (fr lo fr' lo' : Nat) (v : Int32) (P P' : PM → Prop), fr ≤ 8 ∧ lo ≤ 200 ∧ fr' ≤ 8 ∧ lo' ≤ 200 ∧ MD l D cI cC cZ cT aC yC bC mC rC fr lo (.ref (aC 0) :: as) Mc (fun r M' => r = some (.int v) ∧ P M') ∧ MM l D cI cB aM yM bM mM rM fr' lo' (.ref (aM 0) :: as) Mm (fun r M' => r = some (.int v) ∧ P' M') ∧ ∀ M1 M2, P M1 → P' M2 → Inv M1 M2 (T + 1) ∧ M2 0 0 = nI 0) ∨
  (∃ (fr lo fr' lo' : Nat) (E : String) (w : Nat) (P P' : PM → Prop), (E, w) ∈ cd ∧ fr ≤ 8 ∧ lo ≤ 200 ∧ fr' ≤ 8 ∧ lo' ≤ 200 ∧ MX l D cI cC cZ cT aC yC bC mC rC fr lo (.ref (aC 0) :: as) Mc E P ∧ MM l D cI cB aM yM bM mM rM fr' lo' (.ref (aM 0) :: as) Mm (fun r M' => r = some (.int (nI 0)) ∧ P' M') ∧ ∀ M1 M2, P M1 → P' M2 → Inv M1 M2 (T + 1) ∧ M2 0 0 = nI w)
theorem fin0 {Mc Mm : PM} {T : Nat} (h : Inv Mc Mm T) (hT : T < 512) (w : Nat) : ∀ M1 M2 : PM, Mc = M1 → M2 = pu Mm 0 0 (nI w) → Inv M1 M2 (T + 1) ∧ M2 0 0 = nI w := fun M1 M2 e1 e2 => by
  rw [← e1, e2]
  exact ⟨h.same hT (FCx.rf _) (SX.thr _ _), pu_s _ _ _ _⟩
theorem fin1 {Mc Mm : PM} {T : Nat} (h : Inv Mc Mm T) (hT : T < 512) {w : Nat} {M1 M2 : PM} (h1 : FCx Mc M1) (h2 : SX Mm M2) (h3 : M2 0 0 = nI w) : Inv M1 M2 (T + 1) ∧ M2 0 0 = nI w := ⟨h.same hT h1 h2, h3⟩
theorem bs_sp {n : Nat} {len : Nat → Nat} {ch : Nat → Nat → Nat} {sp bs : Nat → Option Nat} (h : ∀ k, k < n → Top (fun j => sp j = some k) (btS len ch) n (bs k)) : ∀ k, k < n → (bs k ≠ none ↔ isSp n sp k) := fun k hk => by
  have h1 := h k hk
  cases hb : bs k with
  | none =>
    rw [hb] at h1
    exact ⟨fun z => absurd rfl z, fun ⟨j, hj, e⟩ => absurd e (h1 j hj)⟩
  | some b =>
    rw [hb] at h1
    exact ⟨fun _ => ⟨b, h1.1, h1.2.1⟩, fun _ => by simp⟩
theorem neg_or (x : Int32) : x < 0 ∨ ∃ i, i < 2 ^ 31 ∧ x = nI i := by
  by_cases h : x < 0
  · exact Or.inl h
  · refine Or.inr ⟨x.toInt.toNat, ?_, ?_⟩
    · have := Int32.toInt_lt x
      have h0 : 0 ≤ x.toInt := by
        have := Int32.le_iff_toInt_le.mp (Int32.not_lt.mp h)
        exact this
      omega
    · have h0 : 0 ≤ x.toInt := Int32.le_iff_toInt_le.mp (Int32.not_lt.mp h)
      have hb : x.toInt.toNat < 2 ^ 31 := by have := Int32.toInt_lt x; omega
      apply Int32.toInt_inj.mp
      rw [nI_toInt hb]
      omega
theorem Top.wk {n : Nat} {len : Nat → Nat} {ch : Nat → Nat → Nat} {sp : Nat → Option Nat} {s9 : Nat} {o : Option Nat} (h : Top (fun j => sp j = some s9) (btS len ch) n o) : Top (fun k => (some s9 : Option Nat) ≠ none ∧ sp k = some s9) (btS len ch) n o := by
  cases o with
  | none => exact fun k hk z => h k hk z.2
  | some b => exact ⟨h.1, ⟨by simp, h.2.1⟩, fun j hj z => h.2.2 j hj z.2⟩
theorem op_space (l : Launch) (D : va_G) (cI cC cZ cT cB : ClassId) (aC aM : Nat → Nat) (hIC : GI 144 aC) (hIM : GI 13 aM) (hlT : l.stackTraces = false) (Mc Mm : PM) (T : Nat) (h : Inv Mc Mm T) (hT : T < 512) (x : Int32) : OpR l D cI cC cZ cT cB aC aM y_C_space b_C_space 2 (some .int) y_M_space b_M_space 2 (some .int) [.int x] [("java/lang/IndexOutOfBoundsException", 1)] T Mc Mm := by
  obtain ⟨hT0, n, len, ch, sp, bs, us, st, rc, rw_, nc, rf, rt, tl, tc, pl, pc9, hC, hM, hI9, hK9⟩ := id h
  obtain ⟨c1, c2, c3, c4, c5, c6, c7, c8, c9, c10⟩ := id hC
  obtain ⟨m1, m2, m3, m4, m5, m6, m7⟩ := id hM
  obtain ⟨i1, i2, i3, i4, i5, rk0, i6⟩ := id hI9
  have hn60 := c1.1
  have hbsp := bs_sp (sp := sp) (bs := bs) i2
  by_cases hx : ∃ j, j < n ∧ x = nI j
  · obtain ⟨a, ha, rfl⟩ := hx
    obtain ⟨o, ho⟩ := Best.ex (spC n len ch sp a) len n
    exact Or.inl ⟨_, _, _, _, _, _, _, by decide, by decide, by decide, by decide, c_C_space l D cI cC cZ cT aC hIC Mc n len ch c1 sp bs c2 hbsp a ha o ho, c_M_space l D cI cB aM hIM Mm n len ch sp m1 a ha o ho, fin0 h hT 0⟩
  · exact Or.inr ⟨_, _, _, _, _, 1, _, _, by simp, by decide, by decide, by decide, by decide, x_C_space_1 l D cI cC cZ cT aC hIC hlT Mc n len ch c1 x hx, c_M_space_1 l D cI cB aM hIM Mm n len ch sp m1 x hx, fin0 h hT 1⟩

theorem op_best (l : Launch) (D : va_G) (cI cC cZ cT cB : ClassId) (aC aM : Nat → Nat) (hIC : GI 144 aC) (hIM : GI 13 aM) (hlT : l.stackTraces = false) (Mc Mm : PM) (T : Nat) (h : Inv Mc Mm T) (hT : T < 512) (x : Int32) : OpR l D cI cC cZ cT cB aC aM y_C_best b_C_best 2 (some .int) y_M_best b_M_best 2 (some .int) [.int x] [("java/lang/IndexOutOfBoundsException", 1)] T Mc Mm := by
  obtain ⟨hT0, n, len, ch, sp, bs, us, st, rc, rw_, nc, rf, rt, tl, tc, pl, pc9, hC, hM, hI9, hK9⟩ := id h
  obtain ⟨c1, c2, c3, c4, c5, c6, c7, c8, c9, c10⟩ := id hC
  obtain ⟨m1, m2, m3, m4, m5, m6, m7⟩ := id hM
  obtain ⟨i1, i2, i3, i4, i5, rk0, i6⟩ := id hI9
  have hn60 := c1.1
  have hbsp := bs_sp (sp := sp) (bs := bs) i2
  by_cases hx : ∃ j, j < n ∧ x = nI j
  · obtain ⟨a, ha, rfl⟩ := hx
    obtain ⟨o, ho⟩ := Best.ex (spC n len ch sp a) len n
    cases o with
    | none => exact Or.inl ⟨_, _, _, _, _, _, _, by decide, by decide, by decide, by decide, c_C_best_n l D cI cC cZ cT aC hIC Mc n len ch c1 sp bs c2 hbsp a ha ho, c_M_best l D cI cB aM hIM Mm n len ch sp m1 i1 a ha none ho none (fun k hk z => z.1 rfl), fin0 h hT 0⟩
    | some s9 => exact Or.inl ⟨_, _, _, _, _, _, _, by decide, by decide, by decide, by decide, c_C_best_s l D cI cC cZ cT aC hIC Mc n len ch c1 sp bs c2 hbsp a ha s9 ho, c_M_best l D cI cB aM hIM Mm n len ch sp m1 i1 a ha (some s9) ho (bs s9) (Top.wk (i2 s9 ho.1)), fin0 h hT 0⟩
  · exact Or.inr ⟨_, _, _, _, _, 1, _, _, by simp, by decide, by decide, by decide, by decide, x_C_best_1 l D cI cC cZ cT aC hIC hlT Mc n len ch c1 x hx, c_M_best_1 l D cI cB aM hIM Mm n len ch sp m1 x hx, fin0 h hT 1⟩

theorem op_used (l : Launch) (D : va_G) (cI cC cZ cT cB : ClassId) (aC aM : Nat → Nat) (hIC : GI 144 aC) (hIM : GI 13 aM) (hlT : l.stackTraces = false) (Mc Mm : PM) (T : Nat) (h : Inv Mc Mm T) (hT : T < 512) (x : Int32) : OpR l D cI cC cZ cT cB aC aM y_C_used b_C_used 2 (some .int) y_M_used b_M_used 2 (some .int) [.int x] [("java/lang/IndexOutOfBoundsException", 1)] T Mc Mm := by
  obtain ⟨hT0, n, len, ch, sp, bs, us, st, rc, rw_, nc, rf, rt, tl, tc, pl, pc9, hC, hM, hI9, hK9⟩ := id h
  obtain ⟨c1, c2, c3, c4, c5, c6, c7, c8, c9, c10⟩ := id hC
  obtain ⟨m1, m2, m3, m4, m5, m6, m7⟩ := id hM
  obtain ⟨i1, i2, i3, i4, i5, rk0, i6⟩ := id hI9
  have hn60 := c1.1
  have hbsp := bs_sp (sp := sp) (bs := bs) i2
  by_cases hx : ∃ j, j < n ∧ x = nI j
  · obtain ⟨a, ha, rfl⟩ := hx
    exact Or.inl ⟨_, _, _, _, _, _, _, by decide, by decide, by decide, by decide, c_C_used l D cI cC cZ cT aC hIC Mc n len ch c1 us c3 a ha, c_M_used l D cI cB aM hIM Mm n len ch sp m1 us m2 a ha, fin0 h hT 0⟩
  · exact Or.inr ⟨_, _, _, _, _, 1, _, _, by simp, by decide, by decide, by decide, by decide, x_C_used_1 l D cI cC cZ cT aC hIC hlT Mc n len ch c1 x hx, c_M_used_1 l D cI cB aM hIM Mm n len ch sp m1 x hx, fin0 h hT 1⟩

theorem op_letter (l : Launch) (D : va_G) (cI cC cZ cT cB : ClassId) (aC aM : Nat → Nat) (hIC : GI 144 aC) (hIM : GI 13 aM) (hlT : l.stackTraces = false) (Mc Mm : PM) (T : Nat) (h : Inv Mc Mm T) (hT : T < 512) (x : Int32) : OpR l D cI cC cZ cT cB aC aM y_C_letter b_C_letter 2 (some .char) y_M_letter b_M_letter 2 (some .char) [.int x] [] T Mc Mm := by
  obtain ⟨hT0, n, len, ch, sp, bs, us, st, rc, rw_, nc, rf, rt, tl, tc, pl, pc9, hC, hM, hI9, hK9⟩ := id h
  obtain ⟨c1, c2, c3, c4, c5, c6, c7, c8, c9, c10⟩ := id hC
  obtain ⟨m1, m2, m3, m4, m5, m6, m7⟩ := id hM
  obtain ⟨i1, i2, i3, i4, i5, rk0, i6⟩ := id hI9
  have hn60 := c1.1
  have hbsp := bs_sp (sp := sp) (bs := bs) i2
  by_cases hx : ∃ i, i < pl ∧ x = nI i
  · obtain ⟨i, hi, rfl⟩ := hx
    exact Or.inl ⟨_, _, _, _, _, _, _, by decide, by decide, by decide, by decide, c_C_letter l D cI cC cZ cT aC hIC Mc pl pc9 c8 i hi, c_M_letter l D cI cB aM hIM Mm pl pc9 m7 i hi, fin0 h hT 0⟩
  · exact Or.inl ⟨_, _, _, _, _, _, _, by decide, by decide, by decide, by decide, c_C_letter_0 l D cI cC cZ cT aC hIC Mc pl pc9 c8 x hx, c_M_letter_0 l D cI cB aM hIM Mm pl pc9 m7 x hx, fin0 h hT 0⟩

theorem op_told (l : Launch) (D : va_G) (cI cC cZ cT cB : ClassId) (aC aM : Nat → Nat) (hIC : GI 144 aC) (hIM : GI 13 aM) (hlT : l.stackTraces = false) (Mc Mm : PM) (T : Nat) (h : Inv Mc Mm T) (hT : T < 512) (x y : Int32) : OpR l D cI cC cZ cT cB aC aM y_C_told b_C_told 3 (some .int) y_M_told2 b_M_told2 3 (some .int) [.int x, .int y] [("java/lang/IndexOutOfBoundsException", 1), ("java/lang/IllegalArgumentException", 2)] T Mc Mm := by
  obtain ⟨hT0, n, len, ch, sp, bs, us, st, rc, rw_, nc, rf, rt, tl, tc, pl, pc9, hC, hM, hI9, hK9⟩ := id h
  obtain ⟨c1, c2, c3, c4, c5, c6, c7, c8, c9, c10⟩ := id hC
  obtain ⟨m1, m2, m3, m4, m5, m6, m7⟩ := id hM
  obtain ⟨i1, i2, i3, i4, i5, rk0, i6⟩ := id hI9
  have hn60 := c1.1
  have hbsp := bs_sp (sp := sp) (bs := bs) i2
  by_cases hx : ∃ j, j < rc ∧ x = nI j
  · obtain ⟨k, hk, rfl⟩ := hx
    by_cases hy : ∃ c, c ≤ 2 ∧ y = nI c
    · obtain ⟨w, hw, rfl⟩ := hy
      exact Or.inl ⟨_, _, _, _, _, _, _, by decide, by decide, by decide, by decide, c_C_told l D cI cC cZ cT aC hIC Mc n hn60 rc rw_ c5 k hk w hw, c_M_told2 l D cI cB aM hIM Mm n hn60 rc rw_ m4 k hk w hw, fin0 h hT 0⟩
    · exact Or.inr ⟨_, _, _, _, _, 2, _, _, by simp, by decide, by decide, by decide, by decide, x_C_told_2 l D cI cC cZ cT aC hIC hlT Mc n hn60 rc rw_ c5 k hk y hy, c_M_told2_2 l D cI cB aM hIM Mm n hn60 rc rw_ m4 k hk y hy, fin0 h hT 2⟩
  · exact Or.inr ⟨_, _, _, _, _, 1, _, _, by simp, by decide, by decide, by decide, by decide, x_C_told_1 l D cI cC cZ cT aC hIC hlT Mc n hn60 rc rw_ c5 x y hx, c_M_told2_1 l D cI cB aM hIM Mm n hn60 rc rw_ m4 x y hx, fin0 h hT 1⟩

theorem op_document (l : Launch) (D : va_G) (cI cC cZ cT cB : ClassId) (aC aM : Nat → Nat) (hIC : GI 144 aC) (hIM : GI 13 aM) (hlT : l.stackTraces = false) (Mc Mm : PM) (T : Nat) (h : Inv Mc Mm T) (hT : T < 512) (x y : Int32) : OpR l D cI cC cZ cT cB aC aM y_C_document b_C_document 4 (some .int) y_M_document b_M_document 6 (some .int) [.int x, .int y] [("java/lang/IndexOutOfBoundsException", 1)] T Mc Mm := by
  obtain ⟨hT0, n, len, ch, sp, bs, us, st, rc, rw_, nc, rf, rt, tl, tc, pl, pc9, hC, hM, hI9, hK9⟩ := id h
  obtain ⟨c1, c2, c3, c4, c5, c6, c7, c8, c9, c10⟩ := id hC
  obtain ⟨m1, m2, m3, m4, m5, m6, m7⟩ := id hM
  obtain ⟨i1, i2, i3, i4, i5, rk0, i6⟩ := id hI9
  have hn60 := c1.1
  have hbsp := bs_sp (sp := sp) (bs := bs) i2
  by_cases hx : ∃ j, j < n ∧ x = nI j
  · obtain ⟨a, ha, rfl⟩ := hx
    rcases neg_or y with hy | ⟨iN, hiN, rfl⟩
    · exact Or.inr ⟨_, _, _, _, _, 1, _, _, by simp, by decide, by decide, by decide, by decide, x_C_document_1b l D cI cC cZ cT aC hIC hlT Mc n len ch c1 a ha y hy, c_M_document_1b l D cI cB aM hIM Mm n len ch sp m1 a ha y hy, fin0 h hT 1⟩
    · obtain ⟨spo, hSp⟩ := spo_ex n len ch sp
      obtain ⟨lb, hlb⟩ := bfun2_ex (ltT len ch)
      obtain ⟨o, ho⟩ := Fst.ex (fun k => spo (rw_ (3 * k)) = some a ∧ Cnt (fun q => decide (spo (rw_ (3 * q)) = some a) && lb (rw_ (3 * q)) (rw_ (3 * k))) rc = iN) rc
      exact Or.inl ⟨_, _, _, _, _, _, _, by decide, by decide, by decide, by decide, c_C_document l D cI cC cZ cT aC hIC Mc n len ch c1 sp bs c2 hbsp spo hSp rc rw_ c5 lb (fun x y _ _ => hlb x y) a ha iN hiN o ho, c_M_document l D cI cB aM hIM Mm n len ch sp m1 spo hSp rc rw_ m4 lb (fun x y _ _ => hlb x y) a ha iN hiN o ho, fin0 h hT 0⟩
  · exact Or.inr ⟨_, _, _, _, _, 1, _, _, by simp, by decide, by decide, by decide, by decide, x_C_document_1a l D cI cC cZ cT aC hIC hlT Mc n len ch c1 x y hx, c_M_document_1a l D cI cB aM hIM Mm n len ch sp m1 x y hx, fin0 h hT 1⟩

theorem op_unknown (l : Launch) (D : va_G) (cI cC cZ cT cB : ClassId) (aC aM : Nat → Nat) (hIC : GI 144 aC) (hIM : GI 13 aM) (hlT : l.stackTraces = false) (Mc Mm : PM) (T : Nat) (h : Inv Mc Mm T) (hT : T < 512) (x : Int32) : OpR l D cI cC cZ cT cB aC aM y_C_unknown b_C_unknown 4 (some .int) y_M_unknown b_M_unknown 4 (some .int) [.int x] [("java/lang/IndexOutOfBoundsException", 1)] T Mc Mm := by
  obtain ⟨hT0, n, len, ch, sp, bs, us, st, rc, rw_, nc, rf, rt, tl, tc, pl, pc9, hC, hM, hI9, hK9⟩ := id h
  obtain ⟨c1, c2, c3, c4, c5, c6, c7, c8, c9, c10⟩ := id hC
  obtain ⟨m1, m2, m3, m4, m5, m6, m7⟩ := id hM
  obtain ⟨i1, i2, i3, i4, i5, rk0, i6⟩ := id hI9
  have hn60 := c1.1
  have hbsp := bs_sp (sp := sp) (bs := bs) i2
  rcases neg_or x with hx | ⟨iN, hiN, rfl⟩
  · exact Or.inr ⟨_, _, _, _, _, 1, _, _, by simp, by decide, by decide, by decide, by decide, x_C_unknown_1 l D cI cC cZ cT aC hIC hlT Mc x hx, c_M_unknown_1 l D cI cB aM hIM Mm x hx, fin0 h hT 1⟩
  · obtain ⟨spo, hSp⟩ := spo_ex n len ch sp
    obtain ⟨ub, hub⟩ := bfun_ex (unkP us spo rc rw_)
    obtain ⟨o, ho⟩ := Fst.ex (fun k => ub k = true ∧ Cnt ub k = iN) n
    exact Or.inl ⟨_, _, _, _, _, _, _, by decide, by decide, by decide, by decide, c_C_unknown l D cI cC cZ cT aC hIC Mc n len ch c1 sp bs c2 hbsp spo hSp rc rw_ c5 us c3 ub (fun k _ => hub k) iN hiN o ho, c_M_unknown l D cI cB aM hIM Mm n len ch sp m1 spo hSp us m2 rc rw_ m4 ub (fun k _ => hub k) iN hiN o ho, fun M1 M2 e1 e2 => fin1 h hT (FCx.x e1) (by rw [e2]; exact SX.thr _ _) (by rw [e2, pu_s])⟩

theorem op_apart (l : Launch) (D : va_G) (cI cC cZ cT cB : ClassId) (aC aM : Nat → Nat) (hIC : GI 144 aC) (hIM : GI 13 aM) (hlT : l.stackTraces = false) (Mc Mm : PM) (T : Nat) (h : Inv Mc Mm T) (hT : T < 512) (x y : Int32) : OpR l D cI cC cZ cT cB aC aM y_C_apart b_C_apart 3 (some .int) y_M_apart b_M_apart 3 (some .int) [.int x, .int y] [("java/lang/IndexOutOfBoundsException", 1)] T Mc Mm := by
  obtain ⟨hT0, n, len, ch, sp, bs, us, st, rc, rw_, nc, rf, rt, tl, tc, pl, pc9, hC, hM, hI9, hK9⟩ := id h
  obtain ⟨c1, c2, c3, c4, c5, c6, c7, c8, c9, c10⟩ := id hC
  obtain ⟨m1, m2, m3, m4, m5, m6, m7⟩ := id hM
  obtain ⟨i1, i2, i3, i4, i5, rk0, i6⟩ := id hI9
  have hn60 := c1.1
  have hbsp := bs_sp (sp := sp) (bs := bs) i2
  by_cases hx : ∃ j, j < n ∧ x = nI j
  · obtain ⟨a, ha, rfl⟩ := hx
    by_cases hy : ∃ j, j < n ∧ y = nI j
    · obtain ⟨b9, hb9, rfl⟩ := hy
      exact Or.inl ⟨_, _, _, _, _, _, _, by decide, by decide, by decide, by decide, c_C_apart l D cI cC cZ cT aC hIC Mc n len ch c1 a b9 ha hb9, c_M_apart l D cI cB aM hIM Mm n len ch sp m1 a b9 ha hb9, fun M1 M2 e1 e2 => fin1 h hT (FCx.e e1) e2.1 e2.2⟩
    · exact Or.inr ⟨_, _, _, _, _, 1, _, _, by simp, by decide, by decide, by decide, by decide, x_C_apart_1b l D cI cC cZ cT aC hIC hlT Mc n len ch c1 a ha y hy, c_M_apart_1b l D cI cB aM hIM Mm n len ch sp m1 a ha y hy, fin0 h hT 1⟩
  · exact Or.inr ⟨_, _, _, _, _, 1, _, _, by simp, by decide, by decide, by decide, by decide, x_C_apart_1a l D cI cC cZ cT aC hIC hlT Mc n len ch c1 x y hx, c_M_apart_1a l D cI cB aM hIM Mm n len ch sp m1 x y hx, fin0 h hT 1⟩

theorem op_near (l : Launch) (D : va_G) (cI cC cZ cT cB : ClassId) (aC aM : Nat → Nat) (hIC : GI 144 aC) (hIM : GI 13 aM) (hlT : l.stackTraces = false) (Mc Mm : PM) (T : Nat) (h : Inv Mc Mm T) (hT : T < 512) (x y : Int32) : OpR l D cI cC cZ cT cB aC aM y_C_near b_C_near 4 (some .int) y_M_near b_M_near 6 (some .int) [.int x, .int y] [("java/lang/IndexOutOfBoundsException", 1)] T Mc Mm := by
  obtain ⟨hT0, n, len, ch, sp, bs, us, st, rc, rw_, nc, rf, rt, tl, tc, pl, pc9, hC, hM, hI9, hK9⟩ := id h
  obtain ⟨c1, c2, c3, c4, c5, c6, c7, c8, c9, c10⟩ := id hC
  obtain ⟨m1, m2, m3, m4, m5, m6, m7⟩ := id hM
  obtain ⟨i1, i2, i3, i4, i5, rk0, i6⟩ := id hI9
  have hn60 := c1.1
  have hbsp := bs_sp (sp := sp) (bs := bs) i2
  by_cases hx : ∃ j, j < n ∧ x = nI j
  · obtain ⟨a, ha, rfl⟩ := hx
    rcases neg_or y with hy | ⟨iN, hiN, rfl⟩
    · exact Or.inr ⟨_, _, _, _, _, 1, _, _, by simp, by decide, by decide, by decide, by decide, x_C_near_1b l D cI cC cZ cT aC hIC hlT Mc n len ch c1 a ha y hy, c_M_near_1b l D cI cB aM hIM Mm n len ch sp m1 a ha y hy, fin0 h hT 1⟩
    · obtain ⟨o, ho⟩ := Fst.ex (fun k => NB (fun q => Ed (eqC2 (ch a) (ch (rw_ (3 * q)))) (len a) (len (rw_ (3 * q)))) rc k = iN) rc
      exact Or.inl ⟨_, _, _, _, _, _, _, by decide, by decide, by decide, by decide, c_C_near l D cI cC cZ cT aC hIC Mc n len ch c1 rc rw_ c5 a ha iN hiN o ho, c_M_near l D cI cB aM hIM Mm n len ch sp m1 rc rw_ m4 a ha iN hiN o ho, fun M1 M2 e1 e2 => fin1 h hT (FCx.m e1) e2.1 e2.2⟩
  · exact Or.inr ⟨_, _, _, _, _, 1, _, _, by simp, by decide, by decide, by decide, by decide, x_C_near_1a l D cI cC cZ cT aC hIC hlT Mc n len ch c1 x y hx, c_M_near_1a l D cI cB aM hIM Mm n len ch sp m1 x y hx, fin0 h hT 1⟩

theorem op_meaning (l : Launch) (D : va_G) (cI cC cZ cT cB : ClassId) (aC aM : Nat → Nat) (hIC : GI 144 aC) (hIM : GI 13 aM) (hlT : l.stackTraces = false) (Mc Mm : PM) (T : Nat) (h : Inv Mc Mm T) (hT : T < 512) (x : Int32) : OpR l D cI cC cZ cT cB aC aM y_C_meaning b_C_meaning 2 (some .int) y_M_meaning b_M_meaning 3 (some .int) [.int x] [("java/lang/IndexOutOfBoundsException", 1)] T Mc Mm := by
  obtain ⟨hT0, n, len, ch, sp, bs, us, st, rc, rw_, nc, rf, rt, tl, tc, pl, pc9, hC, hM, hI9, hK9⟩ := id h
  obtain ⟨c1, c2, c3, c4, c5, c6, c7, c8, c9, c10⟩ := id hC
  obtain ⟨m1, m2, m3, m4, m5, m6, m7⟩ := id hM
  obtain ⟨i1, i2, i3, i4, i5, rk0, i6⟩ := id hI9
  have hn60 := c1.1
  have hbsp := bs_sp (sp := sp) (bs := bs) i2
  by_cases hx : ∃ j, j < n ∧ x = nI j
  · obtain ⟨a, ha, rfl⟩ := hx
    obtain ⟨rk, hRk, hr60⟩ := rk_bound i6 c4.2 hn60
    obtain ⟨e9, hE⟩ := EndS.ex hRk c4.2 (rk a) a (Nat.le_refl _)
    exact Or.inl ⟨_, _, _, _, _, _, _, by decide, by decide, by decide, by decide, c_C_meaning l D cI cC cZ cT aC hIC Mc n len ch c1 st c4 rk hRk hr60 a ha e9 hE, c_M_meaning l D cI cB aM hIM Mm n len ch sp m1 st m3 rk hRk a ha e9 hE, fin0 h hT 0⟩
  · exact Or.inr ⟨_, _, _, _, _, 1, _, _, by simp, by decide, by decide, by decide, by decide, x_C_meaning_1 l D cI cC cZ cT aC hIC hlT Mc n len ch c1 x hx, c_M_meaning_1 l D cI cB aM hIM Mm n len ch sp m1 x hx, fin0 h hT 1⟩

theorem op_now (l : Launch) (D : va_G) (cI cC cZ cT cB : ClassId) (aC aM : Nat → Nat) (hIC : GI 144 aC) (hIM : GI 13 aM) (hlT : l.stackTraces = false) (Mc Mm : PM) (T : Nat) (h : Inv Mc Mm T) (hT : T < 512) (x : Int32) : OpR l D cI cC cZ cT cB aC aM y_C_now b_C_now 2 (some .int) y_M_now b_M_now 4 (some .int) [.int x] [("java/lang/IndexOutOfBoundsException", 1)] T Mc Mm := by
  obtain ⟨hT0, n, len, ch, sp, bs, us, st, rc, rw_, nc, rf, rt, tl, tc, pl, pc9, hC, hM, hI9, hK9⟩ := id h
  obtain ⟨c1, c2, c3, c4, c5, c6, c7, c8, c9, c10⟩ := id hC
  obtain ⟨m1, m2, m3, m4, m5, m6, m7⟩ := id hM
  obtain ⟨i1, i2, i3, i4, i5, rk0, i6⟩ := id hI9
  have hn60 := c1.1
  have hbsp := bs_sp (sp := sp) (bs := bs) i2
  by_cases hx : ∃ j, j < n ∧ x = nI j
  · obtain ⟨a, ha, rfl⟩ := hx
    exact Or.inl ⟨_, _, _, _, _, _, _, by decide, by decide, by decide, by decide, c_C_now l D cI cC cZ cT aC hIC Mc n len ch c1 nc rf rt c6 a ha, c_M_now l D cI cB aM hIM Mm n len ch sp m1 nc rf rt m5 a ha, fin0 h hT 0⟩
  · exact Or.inr ⟨_, _, _, _, _, 1, _, _, by simp, by decide, by decide, by decide, by decide, x_C_now_1 l D cI cC cZ cT aC hIC hlT Mc n len ch c1 x hx, c_M_now_1 l D cI cB aM hIM Mm n len ch sp m1 x hx, fin0 h hT 1⟩

theorem op_was (l : Launch) (D : va_G) (cI cC cZ cT cB : ClassId) (aC aM : Nat → Nat) (hIC : GI 144 aC) (hIM : GI 13 aM) (hlT : l.stackTraces = false) (Mc Mm : PM) (T : Nat) (h : Inv Mc Mm T) (hT : T < 512) (x : Int32) : OpR l D cI cC cZ cT cB aC aM y_C_was b_C_was 2 (some .int) y_M_was b_M_was 4 (some .int) [.int x] [("java/lang/IndexOutOfBoundsException", 1)] T Mc Mm := by
  obtain ⟨hT0, n, len, ch, sp, bs, us, st, rc, rw_, nc, rf, rt, tl, tc, pl, pc9, hC, hM, hI9, hK9⟩ := id h
  obtain ⟨c1, c2, c3, c4, c5, c6, c7, c8, c9, c10⟩ := id hC
  obtain ⟨m1, m2, m3, m4, m5, m6, m7⟩ := id hM
  obtain ⟨i1, i2, i3, i4, i5, rk0, i6⟩ := id hI9
  have hn60 := c1.1
  have hbsp := bs_sp (sp := sp) (bs := bs) i2
  by_cases hx : ∃ j, j < n ∧ x = nI j
  · obtain ⟨a, ha, rfl⟩ := hx
    exact Or.inl ⟨_, _, _, _, _, _, _, by decide, by decide, by decide, by decide, c_C_was l D cI cC cZ cT aC hIC Mc n len ch c1 nc rf rt c6 a ha, c_M_was l D cI cB aM hIM Mm n len ch sp m1 nc rf rt m5 a ha, fin0 h hT 0⟩
  · exact Or.inr ⟨_, _, _, _, _, 1, _, _, by simp, by decide, by decide, by decide, by decide, x_C_was_1 l D cI cC cZ cT aC hIC hlT Mc n len ch c1 x hx, c_M_was_1 l D cI cB aM hIM Mm n len ch sp m1 x hx, fin0 h hT 1⟩

theorem op_clash (l : Launch) (D : va_G) (cI cC cZ cT cB : ClassId) (aC aM : Nat → Nat) (hIC : GI 144 aC) (hIM : GI 13 aM) (hlT : l.stackTraces = false) (Mc Mm : PM) (T : Nat) (h : Inv Mc Mm T) (hT : T < 512) (x : Int32) : OpR l D cI cC cZ cT cB aC aM y_C_clash b_C_clash 2 (some .int) y_M_clash b_M_clash 2 (some .int) [.int x] [("java/lang/IllegalArgumentException", 1)] T Mc Mm := by
  obtain ⟨hT0, n, len, ch, sp, bs, us, st, rc, rw_, nc, rf, rt, tl, tc, pl, pc9, hC, hM, hI9, hK9⟩ := id h
  obtain ⟨c1, c2, c3, c4, c5, c6, c7, c8, c9, c10⟩ := id hC
  obtain ⟨m1, m2, m3, m4, m5, m6, m7⟩ := id hM
  obtain ⟨i1, i2, i3, i4, i5, rk0, i6⟩ := id hI9
  have hn60 := c1.1
  have hbsp := bs_sp (sp := sp) (bs := bs) i2
  by_cases hx : ∃ c, c ≤ 2 ∧ x = nI c
  · obtain ⟨c, hc, rfl⟩ := hx
    rcases (show c = 0 ∨ c = 1 ∨ c = 2 by omega) with rfl | rfl | rfl
    · have q := c_M_clash l D cI cB aM hIM Mm 0 (by decide)
      rw [← hK9.1] at q
      exact Or.inl ⟨_, _, _, _, _, _, _, by decide, by decide, by decide, by decide, c_C_clash_0 l D cI cC cZ cT aC hIC Mc, q, fin0 h hT 0⟩
    · have q := c_M_clash l D cI cB aM hIM Mm 1 (by decide)
      rw [← hK9.2.1] at q
      exact Or.inl ⟨_, _, _, _, _, _, _, by decide, by decide, by decide, by decide, c_C_clash_1 l D cI cC cZ cT aC hIC Mc, q, fin0 h hT 0⟩
    · have q := c_M_clash l D cI cB aM hIM Mm 2 (by decide)
      rw [← hK9.2.2] at q
      exact Or.inl ⟨_, _, _, _, _, _, _, by decide, by decide, by decide, by decide, c_C_clash_2 l D cI cC cZ cT aC hIC Mc, q, fin0 h hT 0⟩
  · exact Or.inr ⟨_, _, _, _, _, 1, _, _, by simp, by decide, by decide, by decide, by decide, x_C_clash_1 l D cI cC cZ cT aC hIC hlT Mc x hx, c_M_clash_1 l D cI cB aM hIM Mm x hx, fin0 h hT 1⟩

theorem op_count (l : Launch) (D : va_G) (cI cC cZ cT cB : ClassId) (aC aM : Nat → Nat) (hIC : GI 144 aC) (hIM : GI 13 aM) (hlT : l.stackTraces = false) (Mc Mm : PM) (T : Nat) (h : Inv Mc Mm T) (hT : T < 512) (x : Int32) : OpR l D cI cC cZ cT cB aC aM y_C_count b_C_count 2 (some .int) y_M_count b_M_count 4 (some .int) [.int x] [("java/lang/IllegalArgumentException", 1)] T Mc Mm := by
  obtain ⟨hT0, n, len, ch, sp, bs, us, st, rc, rw_, nc, rf, rt, tl, tc, pl, pc9, hC, hM, hI9, hK9⟩ := id h
  obtain ⟨c1, c2, c3, c4, c5, c6, c7, c8, c9, c10⟩ := id hC
  obtain ⟨m1, m2, m3, m4, m5, m6, m7⟩ := id hM
  obtain ⟨i1, i2, i3, i4, i5, rk0, i6⟩ := id hI9
  have hn60 := c1.1
  have hbsp := bs_sp (sp := sp) (bs := bs) i2
  by_cases hx : ∃ c, c ≤ 6 ∧ x = nI c
  · obtain ⟨c, hc, rfl⟩ := hx
    rcases (show c = 0 ∨ c = 1 ∨ c = 2 ∨ c = 3 ∨ c = 4 ∨ c = 5 ∨ c = 6 by omega) with rfl | rfl | rfl | rfl | rfl | rfl | rfl
    · exact Or.inl ⟨_, _, _, _, _, _, _, by decide, by decide, by decide, by decide, c_C_count_v0 l D cI cC cZ cT aC hIC Mc n len ch c1, c_M_count_v0 l D cI cB aM hIM Mm n len ch sp m1, fin0 h hT 0⟩
    · exact Or.inl ⟨_, _, _, _, _, _, _, by decide, by decide, by decide, by decide, c_C_count_v1 l D cI cC cZ cT aC hIC Mc _ c10, c_M_count_v1 l D cI cB aM hIM Mm n len ch sp m1 (spB bs) (fun k hk => by rw [← hbsp k hk]; exact decide_eq_true_iff), fin0 h hT 0⟩
    · exact Or.inl ⟨_, _, _, _, _, _, _, by decide, by decide, by decide, by decide, c_C_count_v2 l D cI cC cZ cT aC hIC Mc _ c9, c_M_count_v2 l D cI cB aM hIM Mm n len ch sp m1, fin0 h hT 0⟩
    · exact Or.inl ⟨_, _, _, _, _, _, _, by decide, by decide, by decide, by decide, c_C_count_v3 l D cI cC cZ cT aC hIC Mc n hn60 rc rw_ c5, c_M_count_v3 l D cI cB aM hIM Mm n len ch sp m1 rc rw_ m4, fin0 h hT 0⟩
    · exact Or.inl ⟨_, _, _, _, _, _, _, by decide, by decide, by decide, by decide, c_C_count_v4 l D cI cC cZ cT aC hIC Mc n hn60 nc rf rt c6, c_M_count_v4 l D cI cB aM hIM Mm n len ch sp m1 nc rf rt m5, fin0 h hT 0⟩
    · exact Or.inl ⟨_, _, _, _, _, _, _, by decide, by decide, by decide, by decide, c_C_count_v5 l D cI cC cZ cT aC hIC Mc tl tc c7, c_M_count_v5 l D cI cB aM hIM Mm n len ch sp m1 tl tc m6, fin0 h hT 0⟩
    · obtain ⟨spo, hSp⟩ := spo_ex n len ch sp
      obtain ⟨ub, hub⟩ := bfun_ex (unkP us spo rc rw_)
      exact Or.inl ⟨_, _, _, _, _, _, _, by decide, by decide, by decide, by decide, c_C_count_v6 l D cI cC cZ cT aC hIC Mc n len ch c1 sp bs c2 hbsp spo hSp rc rw_ c5 us c3 ub (fun k _ => hub k), c_M_count_v6 l D cI cB aM hIM Mm n len ch sp m1 spo hSp us m2 rc rw_ m4 ub (fun k _ => hub k), fun M1 M2 e1 e2 => fin1 h hT (FCx.x e1) (by rw [e2]; exact SX.thr _ _) (by rw [e2, pu_s])⟩
  · exact Or.inr ⟨_, _, _, _, _, 1, _, _, by simp, by decide, by decide, by decide, by decide, x_C_count_1 l D cI cC cZ cT aC hIC hlT Mc x hx, c_M_count_1 l D cI cB aM hIM Mm x hx, fin0 h hT 1⟩
