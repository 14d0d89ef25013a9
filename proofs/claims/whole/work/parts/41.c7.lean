set_option maxHeartbeats 4000000 in
set_option maxRecDepth 100000 in
theorem c_C_keepClash (l : Launch) (D : va_G) (cI cC cZ cT : ClassId) (ad : Nat → Nat) (hI : GI 144 ad) (M : PM) (x y w : Int32) : MD l D cI cC cZ cT ad y_C_keepClash b_C_keepClash 4 none 0 0 [.ref (ad (0)), .int (x), .int (y), .int (w)] M (fun v M' => v = none ∧ M' = pu (pu (pu M 0 12 x) 0 13 y) 0 14 w) := by
  refine MC.of (by decide) (Nat.le_of_ble_eq_true rfl) ?_
  intro p e s m below meth c ls hx hb hr hml hown hg hlocks hK hN hP hS hl
  have hown : s.vm.findClass R_C = some m.cls := hown
  have hl : lv_has ls 4 [(0, .ref (ad (0))), (1, .int (x)), (2, .int (y)), (3, .int (w))] := hl
  refine lv_aload_n hx hb d_C_keepClash_0 rfl (lv_at hl 0 rfl) ?_
  refine lv_iload_n hx hb d_C_keepClash_1 rfl (lv_at hl 1 rfl) ?_
  refine g_put (C := R_C) (T := T_C) (N := 15) (ci := 7) (v := (x)) hx hb hg i_C ty_C t_C_ok n_C hown hK hI (fun _ h => h) hP hS 0 (by decide) rfl rfl 12 (by decide) (hg _ k_140) rfl (by decide +kernel) (Nat.le_of_ble_eq_true rfl) rfl d_C_keepClash_2 (fun H locs hP hS => ?_)
  obtain ⟨M_1, eM_1⟩ : ∃ z : PM, z = (pu M 0 12 ((x))) := ⟨_, rfl⟩
  rw [← eM_1] at hP
  refine lv_aload_n hx hb d_C_keepClash_5 rfl (lv_at hl 0 rfl) ?_
  refine lv_iload_n hx hb d_C_keepClash_6 rfl (lv_at hl 2 rfl) ?_
  refine g_put (C := R_C) (T := T_C) (N := 15) (ci := 7) (v := (y)) hx hb hg i_C ty_C t_C_ok n_C hown hK hI (fun _ h => h) hP hS 0 (by decide) rfl rfl 13 (by decide) (hg _ k_141) rfl (by decide +kernel) (Nat.le_of_ble_eq_true rfl) rfl d_C_keepClash_7 (fun H locs hP hS => ?_)
  obtain ⟨M_2, eM_2⟩ : ∃ z : PM, z = (pu M_1 0 13 ((y))) := ⟨_, rfl⟩
  rw [← eM_2] at hP
  refine lv_aload_n hx hb d_C_keepClash_10 rfl (lv_at hl 0 rfl) ?_
  refine lv_iload_n hx hb d_C_keepClash_11 rfl (lv_at hl 3 rfl) ?_
  refine g_put (C := R_C) (T := T_C) (N := 15) (ci := 7) (v := (w)) hx hb hg i_C ty_C t_C_ok n_C hown hK hI (fun _ h => h) hP hS 0 (by decide) rfl rfl 14 (by decide) (hg _ k_142) rfl (by decide +kernel) (Nat.le_of_ble_eq_true rfl) rfl d_C_keepClash_12 (fun H locs hP hS => ?_)
  obtain ⟨M_3, eM_3⟩ : ∃ z : PM, z = (pu M_2 0 14 ((w))) := ⟨_, rfl⟩
  rw [← eM_3] at hP
  exact r_v hx hb hr hlocks hP hS (⟨rfl, by rw [eM_3, eM_2, eM_1]⟩) d_C_keepClash_15

set_option maxHeartbeats 4000000 in
set_option maxRecDepth 100000 in
theorem c_C_termText (l : Launch) (D : va_G) (cI cC cZ cT : ClassId) (ad : Nat → Nat) (hI : GI 144 ad) (M : PM) (n : Nat) (hn60 : n ≤ 60) (rc : Nat) (rw_ : Nat → Nat) (hW7 : CW M n rc rw_) (k : Nat) (hk : k < rc) : MD l D cI cC cZ cT ad y_C_termText b_C_termText 2 (some (.object "NameRules$Text")) 1 22 [.ref (ad (0)), .int (nI (k))] M (fun v M' => v = some (.ref (ad (9 + 2 * rw_ (3 * k)))) ∧ M = M') := by
  refine MC.of (by decide) (Nat.le_of_ble_eq_true rfl) ?_
  intro p e s m below meth c ls hx hb hr hml hown hg hlocks hK hN hP hS hl
  have hown : s.vm.findClass R_C = some m.cls := hown
  have hl : lv_has ls 2 [(0, .ref (ad (0))), (1, .int (nI (k)))] := hl
  have hrc := hW7.1
  have hrw := (hW7.2.2 (3 * k) (by omega)).1
  refine lv_aload_n hx hb d_C_termText_0 rfl (lv_at hl 0 rfl) ?_
  refine g_get (C := R_C) (T := T_C) (N := 15) (ci := 7) (v := .ref (ad (7))) hx hb hg i_C hown hK hP 0 (by decide) rfl rfl 3 (by decide) (hg _ k_131) rfl d_C_termText_1 ?_
  refine lv_aload_n hx hb d_C_termText_4 rfl (lv_at hl 0 rfl) ?_
  refine g_get (C := R_C) (T := T_C) (N := 15) (ci := 7) (v := .ref (ad (132))) hx hb hg i_C hown hK hP 0 (by decide) rfl rfl 5 (by decide) (hg _ k_133) rfl d_C_termText_5 ?_
  refine lv_iload_n hx hb d_C_termText_8 rfl (lv_at hl 1 rfl) ?_
  refine n_const (k := 0) hx hb d_C_termText_9 (by decide) ?_
  refine c_V (own := R_C) (index := 214) (As := [.int (nI (k)), .int (nI (0))]) (rest := [.ref (ad (7))]) hx hb hml hown hg hK NXc.same hN.warm (fun _ h => h) hP hS 132 (c_W_cell l D cI cC cZ cT ad hI M n rc hn60 rw_ hW7 (k) (0) (by omega) (by omega)) (by decide) (ci := 2) rfl rfl k_557 k_532 k_533 k_5 k_534 2 rfl (by decide +kernel) (by decide) rfl hl.1 (Nat.le_of_ble_eq_true rfl) d_C_termText_10 (fun v M' H locs hq hP _ _ hS => ?_)
  obtain ⟨rfl, rfl⟩ := hq
  refine W.eq (g2 := F0 m 13 ls [.int (nI (rw_ (3 * (k)))), .ref (ad (7))]) rfl ?_
  refine c_V (own := R_C) (index := 134) (As := [.int (nI (rw_ (3 * (k))))]) (rest := []) hx hb hml hown hg hK NXc.same hN.warm (fun _ h => h) hP hS 7 (c_N_text l D cI cC cZ cT ad hI M (rw_ (3 * (k))) (by omega)) (by decide) (ci := 0) rfl rfl k_387 k_388 k_389 k_3 k_390 1 rfl (by decide +kernel) (by decide) rfl hl.1 (Nat.le_of_ble_eq_true rfl) d_C_termText_13 (fun v M' H locs hq hP _ _ hS => ?_)
  obtain ⟨rfl, rfl⟩ := hq
  refine W.eq (g2 := F0 m 16 ls [.ref (ad (9 + 2 * (rw_ (3 * (k)))))]) rfl ?_
  exact r_a hx hb hr hlocks hP hS (⟨rfl, rfl⟩) d_C_termText_16

set_option maxHeartbeats 4000000 in
set_option maxRecDepth 100000 in
theorem c_C_spaceOfTerm (l : Launch) (D : va_G) (cI cC cZ cT : ClassId) (ad : Nat → Nat) (hI : GI 144 ad) (M : PM) (n : Nat) (len : Nat → Nat) (ch : Nat → Nat → Nat) (hN7 : CN M n len ch) (sp bs : Nat → Option Nat) (hH : CSp M n sp bs) (hbsp : ∀ k, k < n → (bs k ≠ none ↔ isSp n sp k)) (spo : Nat → Option Nat) (hSp : ∀ k, k < n → Best (spC n len ch sp k) len n (spo k)) (rc : Nat) (rw_ : Nat → Nat) (hW7 : CW M n rc rw_) (k : Nat) (hk : k < rc) : MD l D cI cC cZ cT ad y_C_spaceOfTerm b_C_spaceOfTerm 2 (some .int) 2 48 [.ref (ad (0)), .int (nI (k))] M (fun v M' => v = some (.int (oI (spo (rw_ (3 * k))))) ∧ M = M') := by
  refine MC.of (by decide) (Nat.le_of_ble_eq_true rfl) ?_
  intro p e s m below meth c ls hx hb hr hml hown hg hlocks hK hN hP hS hl
  have hown : s.vm.findClass R_C = some m.cls := hown
  have hl : lv_has ls 2 [(0, .ref (ad (0))), (1, .int (nI (k)))] := hl
  have hn60 := hN7.1
  have hnm := hN7.2.2.1
  have hspn := hH.2.2.1
  have hbsn := hH.2.2.2
  have hrc := hW7.1
  have hrw := hW7.2.2
  have hsl : ∀ k, k < n → ∀ q, spo k = some q → q < n := fun k hk => (hSp k hk).lt
  refine lv_aload_n hx hb d_C_spaceOfTerm_0 rfl (lv_at hl 0 rfl) ?_
  refine g_get (C := R_C) (T := T_C) (N := 15) (ci := 7) (v := .ref (ad (129))) hx hb hg i_C hown hK hP 0 (by decide) rfl rfl 4 (by decide) (hg _ k_132) rfl d_C_spaceOfTerm_1 ?_
  refine lv_aload_n hx hb d_C_spaceOfTerm_4 rfl (lv_at hl 0 rfl) ?_
  refine g_get (C := R_C) (T := T_C) (N := 15) (ci := 7) (v := .ref (ad (132))) hx hb hg i_C hown hK hP 0 (by decide) rfl rfl 5 (by decide) (hg _ k_133) rfl d_C_spaceOfTerm_5 ?_
  refine lv_iload_n hx hb d_C_spaceOfTerm_8 rfl (lv_at hl 1 rfl) ?_
  refine n_const (k := 0) hx hb d_C_spaceOfTerm_9 (by decide) ?_
  refine c_V (own := R_C) (index := 214) (As := [.int (nI (k)), .int (nI (0))]) (rest := [.ref (ad (129))]) hx hb hml hown hg hK NXc.same hN.warm (fun _ h => h) hP hS 132 (c_W_cell l D cI cC cZ cT ad hI M n rc hn60 rw_ hW7 (k) (0) (by omega) (by omega)) (by decide) (ci := 2) rfl rfl k_557 k_532 k_533 k_5 k_534 2 rfl (by decide +kernel) (by decide) rfl hl.1 (Nat.le_of_ble_eq_true rfl) d_C_spaceOfTerm_10 (fun v M' H locs hq hP _ _ hS => ?_)
  obtain ⟨rfl, rfl⟩ := hq
  refine W.eq (g2 := F0 m 13 ls [.int (nI (rw_ (3 * (k)))), .ref (ad (129))]) rfl ?_
  refine c_V (own := R_C) (index := 155) (As := [.int (nI (rw_ (3 * (k))))]) (rest := []) hx hb hml hown hg hK NXc.same hN.warm (fun _ h => h) hP hS 129 (c_H_spaceOfName l D cI cC cZ cT ad hI M n len ch hN7 sp bs hH hbsp (rw_ (3 * (k))) ((hrw (3 * k) (by omega)).1) (spo (rw_ (3 * (k)))) (hSp _ ((hrw (3 * k) (by omega)).1))) (by decide) (ci := 3) rfl rfl k_457 k_458 k_459 k_4 k_460 1 rfl (by decide +kernel) (by decide) rfl hl.1 (Nat.le_of_ble_eq_true rfl) d_C_spaceOfTerm_13 (fun v M' H locs hq hP _ _ hS => ?_)
  obtain ⟨rfl, rfl⟩ := hq
  refine W.eq (g2 := F0 m 16 ls [.int (oI (spo (rw_ (3 * (k)))))]) rfl ?_
  exact r_i hx hb hr hlocks hP hS (⟨rfl, rfl⟩) d_C_spaceOfTerm_16

set_option maxHeartbeats 4000000 in
set_option maxRecDepth 100000 in
theorem c_C_isInSpace (l : Launch) (D : va_G) (cI cC cZ cT : ClassId) (ad : Nat → Nat) (hI : GI 144 ad) (M : PM) (n : Nat) (len : Nat → Nat) (ch : Nat → Nat → Nat) (hN7 : CN M n len ch) (sp bs : Nat → Option Nat) (hH : CSp M n sp bs) (hbsp : ∀ k, k < n → (bs k ≠ none ↔ isSp n sp k)) (spo : Nat → Option Nat) (hSp : ∀ k, k < n → Best (spC n len ch sp k) len n (spo k)) (rc : Nat) (rw_ : Nat → Nat) (hW7 : CW M n rc rw_) (k : Nat) (hk : k < rc) (s9 : Nat) (hs9 : s9 < n) (b9 : Bool) (hb9 : b9 = true ↔ spo (rw_ (3 * k)) = some s9) : MD l D cI cC cZ cT ad y_C_isInSpace b_C_isInSpace 3 (some .boolean) 3 69 [.ref (ad (0)), .int (nI (k)), .int (nI (s9))] M (fun v M' => v = some (.int (bI (b9))) ∧ M = M') := by
  refine MC.of (by decide) (Nat.le_of_ble_eq_true rfl) ?_
  intro p e s m below meth c ls hx hb hr hml hown hg hlocks hK hN hP hS hl
  have hown : s.vm.findClass R_C = some m.cls := hown
  have hl : lv_has ls 3 [(0, .ref (ad (0))), (1, .int (nI (k))), (2, .int (nI (s9)))] := hl
  have hn60 := hN7.1
  have hnm := hN7.2.2.1
  have hspn := hH.2.2.1
  have hbsn := hH.2.2.2
  have hrc := hW7.1
  have hrw := hW7.2.2
  have hsl : ∀ k, k < n → ∀ q, spo k = some q → q < n := fun k hk => (hSp k hk).lt
  refine lv_aload_n hx hb d_C_isInSpace_0 rfl (lv_at hl 0 rfl) ?_
  refine lv_iload_n hx hb d_C_isInSpace_1 rfl (lv_at hl 1 rfl) ?_
  refine c_V (own := R_C) (index := 338) (As := [.int (nI (k))]) (rest := []) hx hb hml hown hg hK NXc.same hN.warm (fun _ h => h) hP hS 0 (c_C_spaceOfTerm l D cI cC cZ cT ad hI M n len ch hN7 sp bs hH hbsp spo hSp rc rw_ hW7 (k) (by omega)) (by decide) (ci := 7) rfl rfl k_578 k_580 k_p10 k_1 k_581 1 rfl (by decide +kernel) (by decide) rfl hl.1 (Nat.le_of_ble_eq_true rfl) d_C_isInSpace_2 (fun v M' H locs hq hP _ _ hS => ?_)
  obtain ⟨rfl, rfl⟩ := hq
  refine W.eq (g2 := F0 m 5 ls [.int (oI (spo (rw_ (3 * (k)))))]) rfl ?_
  refine lv_iload_n hx hb d_C_isInSpace_5 rfl (lv_at hl 2 rfl) ?_
  refine oo_ne (a := spo (rw_ (3 * (k)))) (b := some (s9)) (tgt := 13) hx hb d_C_isInSpace_6 (by decide) (fun z e => by have := hsl _ (hrw (3 * k) (by omega)).1 z e; omega) (ob_some (by omega)) (fun c_6 => ?_) (fun c_6 => ?_)
  · have h9 : b9 = false := b_f hb9 c_6
    refine n_const (k := 0) hx hb d_C_isInSpace_13 (by decide) ?_
    exact r_z hx hb hr hlocks (rfl) hP hS (⟨bz0 (h9), rfl⟩) d_C_isInSpace_14
  · have h9 : b9 = true := hb9.mpr c_6
    refine n_const (k := 1) hx hb d_C_isInSpace_9 (by decide) ?_
    refine lv_goto (tgt := 14) hx hb d_C_isInSpace_10 (by decide) ?_
    exact r_z hx hb hr hlocks (rfl) hP hS (⟨bz1 (h9), rfl⟩) d_C_isInSpace_14

set_option maxHeartbeats 4000000 in
set_option maxRecDepth 100000 in
theorem c_C_rowsBefore (l : Launch) (D : va_G) (cI cC cZ cT : ClassId) (ad : Nat → Nat) (hI : GI 144 ad) (M : PM) (n : Nat) (len : Nat → Nat) (ch : Nat → Nat → Nat) (hN7 : CN M n len ch) (sp bs : Nat → Option Nat) (hH : CSp M n sp bs) (hbsp : ∀ k, k < n → (bs k ≠ none ↔ isSp n sp k)) (spo : Nat → Option Nat) (hSp : ∀ k, k < n → Best (spC n len ch sp k) len n (spo k)) (rc : Nat) (rw_ : Nat → Nat) (hW7 : CW M n rc rw_) (lb : Nat → Nat → Bool) (hlb : ∀ x y, x < n → y < n → (lb x y = true ↔ ltT len ch x y)) (k : Nat) (hk : k < rc) (s9 : Nat) (hs9 : s9 < n) : MD l D cI cC cZ cT ad y_C_rowsBefore b_C_rowsBefore 6 (some .int) 4 91 [.ref (ad (0)), .int (nI (k)), .int (nI (s9))] M (fun v M' => v = some (.int (nI (Cnt (fun q => decide (spo (rw_ (3 * q)) = some s9) && lb (rw_ (3 * q)) (rw_ (3 * k))) rc))) ∧ M = M') := by
  refine MC.of (by decide) (Nat.le_of_ble_eq_true rfl) ?_
  intro p e s m below meth c ls hx hb hr hml hown hg hlocks hK hN hP hS hl
  have hown : s.vm.findClass R_C = some m.cls := hown
  have hl : lv_has ls 6 [(0, .ref (ad (0))), (1, .int (nI (k))), (2, .int (nI (s9)))] := hl
  have hn60 := hN7.1
  have hnm := hN7.2.2.1
  have hspn := hH.2.2.1
  have hbsn := hH.2.2.2
  have hrc := hW7.1
  have hrw := hW7.2.2
  have hsl : ∀ k, k < n → ∀ q, spo k = some q → q < n := fun k hk => (hSp k hk).lt
  have J12 : ∀ (fu12 : Nat) (q : Nat) (H : Heap) (locs : List Loc) (ls : Array Slot), rc - q < fu12 → (q ≤ rc) → va_P D clsA (gw 144 ad (cfC cI cC cZ cT ad) M) H → va_S (GA 144 ad) s.heap H locs → lv_has ls 6 [(0, .ref (ad (0))), (2, .int (nI (s9))), (3, .ref (ad (9 + 2 * rw_ (3 * (k))))), (4, .int (nI (Cnt (fun q => decide (spo (rw_ (3 * q)) = some s9) && lb (rw_ (3 * q)) (rw_ (3 * k))) q))), (5, .int (nI (q)))] → W p l e (rm_ 4 91) s m ([.ref (ad (0)), .int (nI (k)), .int (nI (s9))] : List Value).toArray below meth c H locs 0 0 (MQ below (GQ D 144 ad (cfC cI cC cZ cT ad) (fun v M' => v = some (.int (nI (Cnt (fun q => decide (spo (rw_ (3 * q)) = some s9) && lb (rw_ (3 * q)) (rw_ (3 * k))) rc))) ∧ M = M')) ([.ref (ad (0)), .int (nI (k)), .int (nI (s9))] : List Value).toArray s 0 0 (GA 144 ad)) (F0 m 12 ls []) := by
    intro fu12
    induction fu12 with
    | zero => intro q H locs ls hfu; exact absurd hfu (Nat.not_lt_zero _)
    | succ fu12 ih12 =>
      intro q H locs ls hfu12 hq1 hP hS hl
      refine lv_iload hx hb d_C_rowsBefore_12 (lv_at hl 4 rfl) ?_
      refine lv_aload_n hx hb d_C_rowsBefore_14 rfl (lv_at hl 0 rfl) ?_
      refine g_get (C := R_C) (T := T_C) (N := 15) (ci := 7) (v := .ref (ad (132))) hx hb hg i_C hown hK hP 0 (by decide) rfl rfl 5 (by decide) (hg _ k_133) rfl d_C_rowsBefore_15 ?_
      refine c_V (own := R_C) (index := 220) (As := []) (rest := [.int (nI (q))]) hx hb hml hown hg hK NXc.same hN.warm (fun _ h => h) hP hS 132 (c_W_size l D cI cC cZ cT ad hI M n rc hn60 rw_ hW7) (by decide) (ci := 2) rfl rfl k_570 k_571 k_572 k_5 k_573 0 rfl (by decide +kernel) (by decide) rfl hl.1 (Nat.le_of_ble_eq_true rfl) d_C_rowsBefore_18 (fun v M' H locs hq hP _ _ hS => ?_)
      obtain ⟨rfl, rfl⟩ := hq
      refine W.eq (g2 := F0 m 21 ls [.int (nI (rc)), .int (nI (q))]) rfl ?_
      refine n_ge (a := q) (b := rc) (tgt := 56) hx hb d_C_rowsBefore_21 (by decide) (by omega) (by omega) (fun c_21 => ?_) (fun c_21 => ?_)
      · refine lv_iload hx hb d_C_rowsBefore_56 (lv_at hl 3 rfl) ?_
        exact r_i hx hb hr hlocks hP hS (⟨by rw [show q = rc by omega], rfl⟩) d_C_rowsBefore_58
      · refine lv_aload_n hx hb d_C_rowsBefore_24 rfl (lv_at hl 0 rfl) ?_
        refine lv_iload hx hb d_C_rowsBefore_25 (lv_at hl 4 rfl) ?_
        refine c_V (own := R_C) (index := 341) (As := [.int (nI (q))]) (rest := []) hx hb hml hown hg hK NXc.same hN.warm (fun _ h => h) hP hS 0 (c_C_termText l D cI cC cZ cT ad hI M n hn60 rc rw_ hW7 (q) (by omega)) (by decide) (ci := 7) rfl rfl k_586 k_588 k_p12 k_1 k_589 1 rfl (by decide +kernel) (by decide) rfl hl.1 (Nat.le_of_ble_eq_true rfl) d_C_rowsBefore_27 (fun v M' H locs hq hP _ _ hS => ?_)
        obtain ⟨rfl, rfl⟩ := hq
        refine W.eq (g2 := F0 m 30 ls [.ref (ad (9 + 2 * rw_ (3 * (q))))]) rfl ?_
        refine lv_aload_n hx hb d_C_rowsBefore_30 rfl (lv_at hl 2 rfl) ?_
        refine c_V (own := R_C) (index := 344) (As := [.ref (ad (9 + 2 * rw_ (3 * (k))))]) (rest := []) hx hb hml hown hg hK NXc.same hN.warm (fun _ h => h) hP hS (9 + 2 * rw_ (3 * (q))) (c_T_compareWith l D cI cC cZ cT ad hI M (9 + 2 * rw_ (3 * q)) (txn (by have := (hrw (3 * q) (by omega)).1; omega)) (len (rw_ (3 * q))) (ch (rw_ (3 * q))) (hnm _ (hrw (3 * q) (by omega)).1).2.2.2 (9 + 2 * rw_ (3 * k)) (txn (by have := (hrw (3 * k) (by omega)).1; omega)) (len (rw_ (3 * k))) (ch (rw_ (3 * k))) (hnm _ (hrw (3 * k) (by omega)).1).2.2.2) (tx_lt (txn (by have := (hrw (3 * (q)) (by omega)).1; omega))) (ci := 6) (cfC_T (txn (by have := (hrw (3 * (q)) (by omega)).1; omega)) _) rfl k_590 k_338 k_339 k_2 k_340 1 rfl (by decide +kernel) (by decide) rfl hl.1 (Nat.le_of_ble_eq_true rfl) d_C_rowsBefore_31 (fun v M' H locs hq hP _ _ hS => ?_)
        obtain ⟨⟨r9, rfl, hr1, hr2⟩, rfl⟩ := hq
        refine W.eq (g2 := F0 m 34 ls [.int (r9)]) rfl ?_
        refine lv_if_ge (tgt := 50) hx hb d_C_rowsBefore_34 (by decide) (fun c_34 => ?_) (fun c_34 => ?_)
        · have hcq : Cnt (fun q => decide (spo (rw_ (3 * q)) = some s9) && lb (rw_ (3 * q)) (rw_ (3 * k))) (q + 1) = Cnt (fun q => decide (spo (rw_ (3 * q)) = some s9) && lb (rw_ (3 * q)) (rw_ (3 * k))) q := Cnt_f (by
            have : lb (rw_ (3 * q)) (rw_ (3 * k)) = false := b_f (hlb _ _ (hrw (3 * q) (by omega)).1 (hrw (3 * k) (by omega)).1) (fun h => absurd (hr2.mpr h) (Int32.not_lt.mpr c_34))
            rw [this, Bool.and_false])
          rw [← hcq] at hl
          have hl : lv_has ls 6 [(0, .ref (ad (0))), (2, .int (nI (s9))), (3, .ref (ad (9 + 2 * rw_ (3 * (k))))), (4, .int (nI (Cnt (fun q => decide (spo (rw_ (3 * q)) = some s9) && lb (rw_ (3 * q)) (rw_ (3 * k))) (q + 1)))), (5, .int (nI (q)))] := hl
          refine n_inc (lv' := [(5, .int (nI (q + 1))), (0, .ref (ad (0))), (2, .int (nI (s9))), (3, .ref (ad (9 + 2 * rw_ (3 * (k))))), (4, .int (nI (Cnt (fun q => decide (spo (rw_ (3 * q)) = some s9) && lb (rw_ (3 * q)) (rw_ (3 * k))) (q + 1))))]) hx hb d_C_rowsBefore_50 hl (k := 4) rfl (by decide) rfl (fun ls hl => ?_)
          refine lv_goto (tgt := 12) hx hb d_C_rowsBefore_53 (by decide) ?_
          exact ih12 (q + 1) _ _ ls (by omega) (by omega) hP hS (lv_sub hl [1, 2, 3, 4, 0] rfl)
        · have hlt : lb (rw_ (3 * q)) (rw_ (3 * k)) = true := (hlb _ _ (hrw (3 * q) (by omega)).1 (hrw (3 * k) (by omega)).1).mpr (hr2.mp (Int32.not_le.mp c_34))
          refine lv_aload_n hx hb d_C_rowsBefore_37 rfl (lv_at hl 0 rfl) ?_
          refine lv_iload hx hb d_C_rowsBefore_38 (lv_at hl 4 rfl) ?_
          refine lv_iload_n hx hb d_C_rowsBefore_40 rfl (lv_at hl 1 rfl) ?_
          refine c_V (own := R_C) (index := 223) (As := [.int (nI (q)), .int (nI (s9))]) (rest := []) hx hb hml hown hg hK NXc.same hN.warm (fun _ h => h) hP hS 0 (c_C_isInSpace l D cI cC cZ cT ad hI M n len ch hN7 sp bs hH hbsp spo hSp rc rw_ hW7 (q) (by omega) (s9) (by omega) (decide (spo (rw_ (3 * (q))) = some (s9))) decide_eq_true_iff) (by decide) (ci := 7) rfl rfl k_574 k_576 k_p9 k_1 k_577 2 rfl (by decide +kernel) (by decide) rfl hl.1 (Nat.le_of_ble_eq_true rfl) d_C_rowsBefore_41 (fun v M' H locs hq hP _ _ hS => ?_)
          obtain ⟨rfl, rfl⟩ := hq
          refine W.eq (g2 := F0 m 44 ls [.int (bI (decide (spo (rw_ (3 * (q))) = some (s9))))]) rfl ?_
          refine z_eq (t := decide (spo (rw_ (3 * (q))) = some (s9))) (tgt := 50) hx hb d_C_rowsBefore_44 (by decide) (fun c_44 => ?_) (fun c_44 => ?_)
          · have hcq : Cnt (fun q => decide (spo (rw_ (3 * q)) = some s9) && lb (rw_ (3 * q)) (rw_ (3 * k))) (q + 1) = Cnt (fun q => decide (spo (rw_ (3 * q)) = some s9) && lb (rw_ (3 * q)) (rw_ (3 * k))) q := Cnt_f (by rw [c_44]; rfl)
            rw [← hcq] at hl
            have hl : lv_has ls 6 [(0, .ref (ad (0))), (2, .int (nI (s9))), (3, .ref (ad (9 + 2 * rw_ (3 * (k))))), (4, .int (nI (Cnt (fun q => decide (spo (rw_ (3 * q)) = some s9) && lb (rw_ (3 * q)) (rw_ (3 * k))) (q + 1)))), (5, .int (nI (q)))] := hl
            refine n_inc (lv' := [(5, .int (nI (q + 1))), (0, .ref (ad (0))), (2, .int (nI (s9))), (3, .ref (ad (9 + 2 * rw_ (3 * (k))))), (4, .int (nI (Cnt (fun q => decide (spo (rw_ (3 * q)) = some s9) && lb (rw_ (3 * q)) (rw_ (3 * k))) (q + 1))))]) hx hb d_C_rowsBefore_50 hl (k := 4) rfl (by decide) rfl (fun ls hl => ?_)
            refine lv_goto (tgt := 12) hx hb d_C_rowsBefore_53 (by decide) ?_
            exact ih12 (q + 1) _ _ ls (by omega) (by omega) hP hS (lv_sub hl [1, 2, 3, 4, 0] rfl)
          · have hcq : Cnt (fun q => decide (spo (rw_ (3 * q)) = some s9) && lb (rw_ (3 * q)) (rw_ (3 * k))) (q + 1) = Cnt (fun q => decide (spo (rw_ (3 * q)) = some s9) && lb (rw_ (3 * q)) (rw_ (3 * k))) q + 1 := Cnt_t (by rw [c_44, hlt]; rfl)
            refine n_inc (lv' := [(4, .int (nI (Cnt (fun q => decide (spo (rw_ (3 * q)) = some s9) && lb (rw_ (3 * q)) (rw_ (3 * k))) q + 1))), (0, .ref (ad (0))), (2, .int (nI (s9))), (3, .ref (ad (9 + 2 * rw_ (3 * (k))))), (5, .int (nI (q)))]) hx hb d_C_rowsBefore_47 hl (k := 3) rfl (by decide) rfl (fun ls hl => ?_)
            rw [← hcq] at hl
            have hl : lv_has ls 6 [(4, .int (nI (Cnt (fun q => decide (spo (rw_ (3 * q)) = some s9) && lb (rw_ (3 * q)) (rw_ (3 * k))) (q + 1)))), (0, .ref (ad (0))), (2, .int (nI (s9))), (3, .ref (ad (9 + 2 * rw_ (3 * (k))))), (5, .int (nI (q)))] := hl
            refine n_inc (lv' := [(5, .int (nI (q + 1))), (4, .int (nI (Cnt (fun q => decide (spo (rw_ (3 * q)) = some s9) && lb (rw_ (3 * q)) (rw_ (3 * k))) (q + 1)))), (0, .ref (ad (0))), (2, .int (nI (s9))), (3, .ref (ad (9 + 2 * rw_ (3 * (k)))))]) hx hb d_C_rowsBefore_50 hl (k := 4) rfl (by decide) rfl (fun ls hl => ?_)
            refine lv_goto (tgt := 12) hx hb d_C_rowsBefore_53 (by decide) ?_
            exact ih12 (q + 1) _ _ ls (by omega) (by omega) hP hS (lv_sub hl [2, 3, 4, 1, 0] rfl)
  refine lv_aload_n hx hb d_C_rowsBefore_0 rfl (lv_at hl 0 rfl) ?_
  refine lv_iload_n hx hb d_C_rowsBefore_1 rfl (lv_at hl 1 rfl) ?_
  refine c_V (own := R_C) (index := 341) (As := [.int (nI (k))]) (rest := []) hx hb hml hown hg hK NXc.same hN.warm (fun _ h => h) hP hS 0 (c_C_termText l D cI cC cZ cT ad hI M n hn60 rc rw_ hW7 (k) (by omega)) (by decide) (ci := 7) rfl rfl k_586 k_588 k_p12 k_1 k_589 1 rfl (by decide +kernel) (by decide) rfl hl.1 (Nat.le_of_ble_eq_true rfl) d_C_rowsBefore_2 (fun v M' H locs hq hP _ _ hS => ?_)
  obtain ⟨rfl, rfl⟩ := hq
  refine W.eq (g2 := F0 m 5 ls [.ref (ad (9 + 2 * rw_ (3 * (k))))]) rfl ?_
  refine lv_astore_n (lv' := [(3, .ref (ad (9 + 2 * rw_ (3 * (k))))), (0, .ref (ad (0))), (1, .int (nI (k))), (2, .int (nI (s9)))]) hx hb d_C_rowsBefore_5 rfl hl (by decide) rfl (fun ls hl => ?_)
  refine n_const (k := 0) hx hb d_C_rowsBefore_6 (by decide) ?_
  refine lv_istore (lv' := [(4, .int (nI (0))), (3, .ref (ad (9 + 2 * rw_ (3 * (k))))), (0, .ref (ad (0))), (1, .int (nI (k))), (2, .int (nI (s9)))]) hx hb d_C_rowsBefore_7 hl (by decide) rfl (fun ls hl => ?_)
  refine n_const (k := 0) hx hb d_C_rowsBefore_9 (by decide) ?_
  refine lv_istore (lv' := [(5, .int (nI (0))), (4, .int (nI (0))), (3, .ref (ad (9 + 2 * rw_ (3 * (k))))), (0, .ref (ad (0))), (1, .int (nI (k))), (2, .int (nI (s9)))]) hx hb d_C_rowsBefore_10 hl (by decide) rfl (fun ls hl => ?_)
  exact J12 (_ + 1) (0) _ _ ls (Nat.lt_succ_self _) (by omega) hP hS (lv_sub hl [3, 5, 2, 1, 0] rfl)

set_option maxHeartbeats 4000000 in
set_option maxRecDepth 100000 in
theorem c_C_markTermSpaces (l : Launch) (D : va_G) (cI cC cZ cT : ClassId) (ad : Nat → Nat) (hI : GI 144 ad) (M : PM) (n : Nat) (len : Nat → Nat) (ch : Nat → Nat → Nat) (hN7 : CN M n len ch) (sp bs : Nat → Option Nat) (hH : CSp M n sp bs) (hbsp : ∀ k, k < n → (bs k ≠ none ↔ isSp n sp k)) (spo : Nat → Option Nat) (hSp : ∀ k, k < n → Best (spC n len ch sp k) len n (spo k)) (rc : Nat) (rw_ : Nat → Nat) (hW7 : CW M n rc rw_) (tsb : Nat → Bool) (htsb : ∀ q, q < 60 → (tsb q = true ↔ tsP spo rw_ rc q)) : MD l D cI cC cZ cT ad y_C_markTermSpaces b_C_markTermSpaces 3 none 3 69 [.ref (ad (0))] M (fun v M' => v = none ∧ TS M' tsb ∧ FX 142 M M') := by
  refine MC.of (by decide) (Nat.le_of_ble_eq_true rfl) ?_
  intro p e s m below meth c ls hx hb hr hml hown hg hlocks hK hN hP hS hl
  have hown : s.vm.findClass R_C = some m.cls := hown
  have hl : lv_has ls 3 [(0, .ref (ad (0)))] := hl
  have hn60 := hN7.1
  have hnm := hN7.2.2.1
  have hspn := hH.2.2.1
  have hbsn := hH.2.2.2
  have hrc := hW7.1
  have hrw := hW7.2.2
  have hsl : ∀ k, k < n → ∀ q, spo k = some q → q < n := fun k hk => (hSp k hk).lt
  have J26 : ∀ (fu26 : Nat) (k : Nat) (M1 : PM) (H : Heap) (locs : List Loc) (ls : Array Slot), rc - k < fu26 → (k ≤ rc) → (FX 142 M M1) → (∀ q, q < 60 → ∃ b : Bool, M1 142 q = bI b ∧ (b = true ↔ tsP spo rw_ k q)) → va_P D clsA (gw 144 ad (cfC cI cC cZ cT ad) M1) H → va_S (GA 144 ad) s.heap H locs → lv_has ls 3 [(0, .ref (ad (0))), (1, .int (nI (k)))] → W p l e (rm_ 3 69) s m ([.ref (ad (0))] : List Value).toArray below meth c H locs 0 0 (MQ below (GQ D 144 ad (cfC cI cC cZ cT ad) (fun v M' => v = none ∧ TS M' tsb ∧ FX 142 M M')) ([.ref (ad (0))] : List Value).toArray s 0 0 (GA 144 ad)) (F0 m 26 ls []) := by
    intro fu26
    induction fu26 with
    | zero => intro k M1 H locs ls hfu; exact absurd hfu (Nat.not_lt_zero _)
    | succ fu26 ih26 =>
      intro k M1 H locs ls hfu26 hk hF hz hP hS hl
      have hN71 := hN7.fx hF (by decide)
      have hH1 := hH.fx hF (by decide)
      have hW71 := hW7.fx hF (by decide)
      refine lv_iload_n hx hb d_C_markTermSpaces_26 rfl (lv_at hl 1 rfl) ?_
      refine lv_aload_n hx hb d_C_markTermSpaces_27 rfl (lv_at hl 0 rfl) ?_
      refine g_get (C := R_C) (T := T_C) (N := 15) (ci := 7) (v := .ref (ad (132))) hx hb hg i_C hown hK hP 0 (by decide) rfl rfl 5 (by decide) (hg _ k_133) rfl d_C_markTermSpaces_28 ?_
      refine c_V (own := R_C) (index := 220) (As := []) (rest := [.int (nI (k))]) hx hb hml hown hg hK NXc.same hN.warm (fun _ h => h) hP hS 132 (c_W_size l D cI cC cZ cT ad hI M1 n rc hn60 rw_ hW71) (by decide) (ci := 2) rfl rfl k_570 k_571 k_572 k_5 k_573 0 rfl (by decide +kernel) (by decide) rfl hl.1 (Nat.le_of_ble_eq_true rfl) d_C_markTermSpaces_31 (fun v M' H locs hq hP _ _ hS => ?_)
      obtain ⟨rfl, rfl⟩ := hq
      refine W.eq (g2 := F0 m 34 ls [.int (nI (rc)), .int (nI (k))]) rfl ?_
      refine n_ge (a := k) (b := rc) (tgt := 61) hx hb d_C_markTermSpaces_34 (by decide) (by omega) (by omega) (fun c_34 => ?_) (fun c_34 => ?_)
      · have hfin : TS M1 tsb := fun q hq => by
          obtain ⟨b, h1, h2⟩ := hz q hq
          have e9 : k = rc := by omega
          rw [e9] at h2
          have : b = tsb q := by
            cases hb9 : tsb q with
            | true => exact h2.mpr ((htsb q hq).mp hb9)
            | false => exact b_f h2 (fun z => by have := (htsb q hq).mpr z; rw [hb9] at this; cases this)
          rw [h1, this]
        exact r_v hx hb hr hlocks hP hS (⟨rfl, hfin, hF⟩) d_C_markTermSpaces_61
      · refine lv_aload_n hx hb d_C_markTermSpaces_37 rfl (lv_at hl 0 rfl) ?_
        refine lv_iload_n hx hb d_C_markTermSpaces_38 rfl (lv_at hl 1 rfl) ?_
        refine c_V (own := R_C) (index := 338) (As := [.int (nI (k))]) (rest := []) hx hb hml hown hg hK NXc.same hN.warm (fun _ h => h) hP hS 0 (c_C_spaceOfTerm l D cI cC cZ cT ad hI M1 n len ch hN71 sp bs hH1 hbsp spo hSp rc rw_ hW71 (k) (by omega)) (by decide) (ci := 7) rfl rfl k_578 k_580 k_p10 k_1 k_581 1 rfl (by decide +kernel) (by decide) rfl hl.1 (Nat.le_of_ble_eq_true rfl) d_C_markTermSpaces_39 (fun v M' H locs hq hP _ _ hS => ?_)
        obtain ⟨rfl, rfl⟩ := hq
        refine W.eq (g2 := F0 m 42 ls [.int (oI (spo (rw_ (3 * (k)))))]) rfl ?_
        refine lv_istore_n (lv' := [(2, .int (oI (spo (rw_ (3 * (k)))))), (0, .ref (ad (0))), (1, .int (nI (k)))]) hx hb d_C_markTermSpaces_42 rfl hl (by decide) rfl (fun ls hl => ?_)
        refine lv_iload_n hx hb d_C_markTermSpaces_43 rfl (lv_at hl 0 rfl) ?_
        refine lv_iconst (v := -1) hx hb d_C_markTermSpaces_44 (by decide) ?_
        refine oo_eq (a := spo (rw_ (3 * (k)))) (b := none) (tgt := 55) hx hb d_C_markTermSpaces_45 (by decide) (fun z e => by have := hsl _ (hrw (3 * k) (by omega)).1 z e; omega) (ob_none) (fun c_45 => ?_) (fun c_45 => ?_)
        · have hF9 := hF
          have hz9 : ∀ q, q < 60 → ∃ b : Bool, M1 142 q = bI b ∧ (b = true ↔ tsP spo rw_ (k + 1) q) := fun q hq => by
            obtain ⟨b, h1, h2⟩ := hz q hq
            refine ⟨b, h1, h2.trans ⟨fun ⟨j, g1, g2⟩ => ⟨j, by omega, g2⟩, fun ⟨j, g1, g2⟩ => ⟨j, ?_, g2⟩⟩⟩
            rcases Nat.lt_succ_iff_lt_or_eq.mp g1 with r | r
            · exact r
            · subst r; rw [c_45] at g2; cases g2
          refine n_inc (lv' := [(1, .int (nI (k + 1))), (2, .int (oI (spo (rw_ (3 * (k)))))), (0, .ref (ad (0)))]) hx hb d_C_markTermSpaces_55 hl (k := 2) rfl (by decide) rfl (fun ls hl => ?_)
          refine lv_goto (tgt := 26) hx hb d_C_markTermSpaces_58 (by decide) ?_
          exact ih26 (k + 1) M1 _ _ ls (by omega) (by omega) (hF9) (hz9) hP hS (lv_sub hl [2, 0] rfl)
        · obtain ⟨v9, hv9⟩ : ∃ v, spo (rw_ (3 * k)) = some v := by
            cases e : spo (rw_ (3 * k)) with
            | none => exact absurd e c_45
            | some v => exact ⟨v, rfl⟩
          rw [hv9] at hl
          have hv9n := hsl _ (hrw (3 * k) (by omega)).1 v9 hv9
          have hl : lv_has ls 3 [(2, .int (nI (v9))), (0, .ref (ad (0))), (1, .int (nI (k)))] := hl
          refine lv_aload_n hx hb d_C_markTermSpaces_48 rfl (lv_at hl 1 rfl) ?_
          refine g_get (C := R_C) (T := T_C) (N := 15) (ci := 7) (v := .ref (ad (142))) hx hb hg i_C hown hK hP 0 (by decide) rfl rfl 10 (by decide) (hg _ k_138) rfl d_C_markTermSpaces_49 ?_
          refine lv_iload_n hx hb d_C_markTermSpaces_52 rfl (lv_at hl 0 rfl) ?_
          refine n_const (k := 1) hx hb d_C_markTermSpaces_53 (by decide) ?_
          refine g_zast hx hb hK hI (fun _ h => h) hP hS 142 2 (by decide) (fun _ => rfl) rfl (by decide) (j := v9) (by omega) (v := (nI (1))) d_C_markTermSpaces_54 (fun H locs hP hS => ?_)
          obtain ⟨M_1, eM_1⟩ : ∃ z : PM, z = (pu M1 142 (v9) (vp_nar .boolean (nI (1)))) := ⟨_, rfl⟩
          rw [← eM_1] at hP
          have hF9 : FX 142 M M_1 := by rw [eM_1]; exact hF.st _ _
          have hz9 : ∀ q, q < 60 → ∃ b : Bool, M_1 142 q = bI b ∧ (b = true ↔ tsP spo rw_ (k + 1) q) := fun q hq => by
            by_cases e : q = v9
            · subst e
              exact ⟨true, by rw [eM_1, pu_s, nz1], fun _ => ⟨k, by omega, hv9⟩, fun _ => rfl⟩
            · obtain ⟨b, h1, h2⟩ := hz q hq
              refine ⟨b, by rw [eM_1, pu_j _ _ _ _ _ e]; exact h1, h2.trans ⟨fun ⟨j, g1, g2⟩ => ⟨j, by omega, g2⟩, fun ⟨j, g1, g2⟩ => ⟨j, ?_, g2⟩⟩⟩
              rcases Nat.lt_succ_iff_lt_or_eq.mp g1 with r | r
              · exact r
              · subst r; rw [hv9] at g2; exact absurd (Option.some.inj g2).symm e
          refine n_inc (lv' := [(1, .int (nI (k + 1))), (2, .int (nI (v9))), (0, .ref (ad (0)))]) hx hb d_C_markTermSpaces_55 hl (k := 2) rfl (by decide) rfl (fun ls hl => ?_)
          refine lv_goto (tgt := 26) hx hb d_C_markTermSpaces_58 (by decide) ?_
          exact ih26 (k + 1) M_1 _ _ ls (by omega) (by omega) (hF9) (hz9) hP hS (lv_sub hl [2, 0] rfl)
  have J2 : ∀ (fu2 : Nat) (i : Nat) (M1 : PM) (H : Heap) (locs : List Loc) (ls : Array Slot), 60 - i < fu2 → (i ≤ 60) → (FX 142 M M1) → (∀ q, q < i → M1 142 q = bI false) → va_P D clsA (gw 144 ad (cfC cI cC cZ cT ad) M1) H → va_S (GA 144 ad) s.heap H locs → lv_has ls 3 [(0, .ref (ad (0))), (1, .int (nI (i)))] → W p l e (rm_ 3 69) s m ([.ref (ad (0))] : List Value).toArray below meth c H locs 0 0 (MQ below (GQ D 144 ad (cfC cI cC cZ cT ad) (fun v M' => v = none ∧ TS M' tsb ∧ FX 142 M M')) ([.ref (ad (0))] : List Value).toArray s 0 0 (GA 144 ad)) (F0 m 2 ls []) := by
    intro fu2
    induction fu2 with
    | zero => intro i M1 H locs ls hfu; exact absurd hfu (Nat.not_lt_zero _)
    | succ fu2 ih2 =>
      intro i M1 H locs ls hfu2 hi hF hz hP hS hl
      refine lv_iload_n hx hb d_C_markTermSpaces_2 rfl (lv_at hl 1 rfl) ?_
      refine lv_aload_n hx hb d_C_markTermSpaces_3 rfl (lv_at hl 0 rfl) ?_
      refine g_get (C := R_C) (T := T_C) (N := 15) (ci := 7) (v := .ref (ad (142))) hx hb hg i_C hown hK hP 0 (by decide) rfl rfl 10 (by decide) (hg _ k_138) rfl d_C_markTermSpaces_4 ?_
      refine g_alen hx hb hK hP 142 2 (by decide) rfl rfl d_C_markTermSpaces_7 ?_
      refine n_top (y := nI (60)) rfl ?_
      refine n_ge (a := i) (b := 60) (tgt := 24) hx hb d_C_markTermSpaces_8 (by decide) (by omega) (by omega) (fun c_8 => ?_) (fun c_8 => ?_)
      · refine n_const (k := 0) hx hb d_C_markTermSpaces_24 (by decide) ?_
        refine lv_istore_n (lv' := [(1, .int (nI (0))), (0, .ref (ad (0)))]) hx hb d_C_markTermSpaces_25 rfl hl (by decide) rfl (fun ls hl => ?_)
        exact J26 (_ + 1) (0) M1 _ _ ls (Nat.lt_succ_self _) (by omega) (hF) (fun q hq => ⟨false, hz q (by omega), fun h => (by cases h), fun ⟨j, hj, _⟩ => absurd hj (Nat.not_lt_zero j)⟩) hP hS (lv_sub hl [1, 0] rfl)
      · refine lv_aload_n hx hb d_C_markTermSpaces_11 rfl (lv_at hl 0 rfl) ?_
        refine g_get (C := R_C) (T := T_C) (N := 15) (ci := 7) (v := .ref (ad (142))) hx hb hg i_C hown hK hP 0 (by decide) rfl rfl 10 (by decide) (hg _ k_138) rfl d_C_markTermSpaces_12 ?_
        refine lv_iload_n hx hb d_C_markTermSpaces_15 rfl (lv_at hl 1 rfl) ?_
        refine n_const (k := 0) hx hb d_C_markTermSpaces_16 (by decide) ?_
        refine g_zast hx hb hK hI (fun _ h => h) hP hS 142 2 (by decide) (fun _ => rfl) rfl (by decide) (j := i) (by omega) (v := (nI (0))) d_C_markTermSpaces_17 (fun H locs hP hS => ?_)
        obtain ⟨M_2, eM_2⟩ : ∃ z : PM, z = (pu M1 142 (i) (vp_nar .boolean (nI (0)))) := ⟨_, rfl⟩
        rw [← eM_2] at hP
        refine n_inc (lv' := [(1, .int (nI (i + 1))), (0, .ref (ad (0)))]) hx hb d_C_markTermSpaces_18 hl (k := 1) rfl (by decide) rfl (fun ls hl => ?_)
        refine lv_goto (tgt := 2) hx hb d_C_markTermSpaces_21 (by decide) ?_
        exact ih2 (i + 1) M_2 _ _ ls (by omega) (by omega) (by rw [eM_2]; exact hF.st _ _) (by
  refine lt_S (fun q hq => ?_) ?_
  · rw [eM_2, pu_j _ _ _ _ _ (by omega)]; exact hz q hq
  · rw [eM_2, pu_s, nz0]) hP hS (lv_sub hl [1, 0] rfl)
  refine n_const (k := 0) hx hb d_C_markTermSpaces_0 (by decide) ?_
  refine lv_istore_n (lv' := [(1, .int (nI (0))), (0, .ref (ad (0)))]) hx hb d_C_markTermSpaces_1 rfl hl (by decide) rfl (fun ls hl => ?_)
  exact J2 (_ + 1) (0) M _ _ ls (Nat.lt_succ_self _) (by omega) (FX.rf _ _) (fun q hq => absurd hq (Nat.not_lt_zero q)) hP hS (lv_sub hl [1, 0] rfl)
