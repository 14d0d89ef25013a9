set_option maxHeartbeats 4000000 in
set_option maxRecDepth 100000 in
theorem c_C_isUnknown (l : Launch) (D : va_G) (cI cC cZ cT : ClassId) (ad : Nat → Nat) (hI : GI 144 ad) (M : PM) (n : Nat) (len : Nat → Nat) (ch : Nat → Nat → Nat) (hN7 : CN M n len ch) (sp bs : Nat → Option Nat) (hH : CSp M n sp bs) (hbsp : ∀ k, k < n → (bs k ≠ none ↔ isSp n sp k)) (spo : Nat → Option Nat) (hSp : ∀ k, k < n → Best (spC n len ch sp k) len n (spo k)) (rc : Nat) (rw_ : Nat → Nat) (hW7 : CW M n rc rw_) (tsb : Nat → Bool) (htsb : ∀ q, q < 60 → (tsb q = true ↔ tsP spo rw_ rc q)) (hTS : TS M tsb) (us : Nat → Nat) (hU1 : CU M us) (a : Nat) (ha : a < n) (b9 : Bool) (hb9 : b9 = true ↔ unkP us spo rc rw_ a) : MD l D cI cC cZ cT ad y_C_isUnknown b_C_isUnknown 3 (some .boolean) 2 48 [.ref (ad (0)), .int (nI (a))] M (fun v M' => v = some (.int (bI (b9))) ∧ M = M') := by
  refine MC.of (by decide) (Nat.le_of_ble_eq_true rfl) ?_
  intro p e s m below meth c ls hx hb hr hml hown hg hlocks hK hN hP hS hl
  have hown : s.vm.findClass R_C = some m.cls := hown
  have hl : lv_has ls 3 [(0, .ref (ad (0))), (1, .int (nI (a)))] := hl
  have hn60 := hN7.1
  have hnm := hN7.2.2.1
  have hspn := hH.2.2.1
  have hbsn := hH.2.2.2
  have hrc := hW7.1
  have hrw := hW7.2.2
  have hsl : ∀ k, k < n → ∀ q, spo k = some q → q < n := fun k hk => (hSp k hk).lt
  obtain ⟨ro, hro⟩ := Fst.ex (fun k => rw_ (3 * k) = a) rc
  have hrol := hro.lt
  have hua := (hU1 a (by omega)).1
  refine lv_aload_n hx hb d_C_isUnknown_0 rfl (lv_at hl 0 rfl) ?_
  refine g_get (C := R_C) (T := T_C) (N := 15) (ci := 7) (v := .ref (ad (141))) hx hb hg i_C hown hK hP 0 (by decide) rfl rfl 9 (by decide) (hg _ k_137) rfl d_C_isUnknown_1 ?_
  refine lv_iload_n hx hb d_C_isUnknown_4 rfl (lv_at hl 1 rfl) ?_
  refine g_iald hx hb hK hP 141 0 (by decide) rfl rfl (by decide) (j := a) (by omega) d_C_isUnknown_5 ?_
  refine n_top (y := (nI (us (a)))) ((hU1 (a) (by omega)).2) ?_
  refine lv_if_le (tgt := 21) hx hb d_C_isUnknown_6 (by decide) (fun c_6 => ?_) (fun c_6 => ?_)
  · replace c_6 : us (a) = 0 := (nI_le0 (by omega)).mp c_6
    have h9 : b9 = false := b_f hb9 (fun h => h.1 c_6)
    refine n_const (k := 0) hx hb d_C_isUnknown_21 (by decide) ?_
    exact r_z hx hb hr hlocks (rfl) hP hS (⟨bz0 (h9), rfl⟩) d_C_isUnknown_22
  · replace c_6 : ¬ us (a) = 0 := fun q => c_6 ((nI_le0 (by omega)).mpr q)
    refine lv_aload_n hx hb d_C_isUnknown_9 rfl (lv_at hl 0 rfl) ?_
    refine g_get (C := R_C) (T := T_C) (N := 15) (ci := 7) (v := .ref (ad (132))) hx hb hg i_C hown hK hP 0 (by decide) rfl rfl 5 (by decide) (hg _ k_133) rfl d_C_isUnknown_10 ?_
    refine lv_iload_n hx hb d_C_isUnknown_13 rfl (lv_at hl 1 rfl) ?_
    refine c_V (own := R_C) (index := 194) (As := [.int (nI (a))]) (rest := []) hx hb hml hown hg hK NXc.same hN.warm (fun _ h => h) hP hS 132 (c_W_rowOfTerm l D cI cC cZ cT ad hI M n rc hn60 rw_ hW7 a ha ro hro) (by decide) (ci := 2) rfl rfl k_527 k_528 k_529 k_5 k_530 1 rfl (by decide +kernel) (by decide) rfl hl.1 (Nat.le_of_ble_eq_true rfl) d_C_isUnknown_14 (fun v M' H locs hq hP _ _ hS => ?_)
    obtain ⟨rfl, rfl⟩ := hq
    refine W.eq (g2 := F0 m 17 ls [.int (oI (ro))]) rfl ?_
    refine lv_iconst (v := -1) hx hb d_C_isUnknown_17 (by decide) ?_
    refine oo_eq (a := ro) (b := none) (tgt := 23) hx hb d_C_isUnknown_18 (by decide) (fun q e => by have := hrol q e; omega) (ob_none) (fun c_18 => ?_) (fun c_18 => ?_)
    · have hnr : ∀ k, k < rc → ¬ rw_ (3 * k) = a := by rw [c_18] at hro; exact hro
      refine lv_aload_n hx hb d_C_isUnknown_23 rfl (lv_at hl 0 rfl) ?_
      refine g_get (C := R_C) (T := T_C) (N := 15) (ci := 7) (v := .ref (ad (129))) hx hb hg i_C hown hK hP 0 (by decide) rfl rfl 4 (by decide) (hg _ k_132) rfl d_C_isUnknown_24 ?_
      refine lv_iload_n hx hb d_C_isUnknown_27 rfl (lv_at hl 1 rfl) ?_
      refine c_V (own := R_C) (index := 155) (As := [.int (nI (a))]) (rest := []) hx hb hml hown hg hK NXc.same hN.warm (fun _ h => h) hP hS 129 (c_H_spaceOfName l D cI cC cZ cT ad hI M n len ch hN7 sp bs hH hbsp (a) (by omega) (spo (a)) (hSp _ (by omega))) (by decide) (ci := 3) rfl rfl k_457 k_458 k_459 k_4 k_460 1 rfl (by decide +kernel) (by decide) rfl hl.1 (Nat.le_of_ble_eq_true rfl) d_C_isUnknown_28 (fun v M' H locs hq hP _ _ hS => ?_)
      obtain ⟨rfl, rfl⟩ := hq
      refine W.eq (g2 := F0 m 31 ls [.int (oI (spo (a)))]) rfl ?_
      refine lv_istore_n (lv' := [(2, .int (oI (spo (a)))), (0, .ref (ad (0))), (1, .int (nI (a)))]) hx hb d_C_isUnknown_31 rfl hl (by decide) rfl (fun ls hl => ?_)
      refine lv_iload_n hx hb d_C_isUnknown_32 rfl (lv_at hl 0 rfl) ?_
      refine lv_iconst (v := -1) hx hb d_C_isUnknown_33 (by decide) ?_
      refine oo_eq (a := spo (a)) (b := none) (tgt := 50) hx hb d_C_isUnknown_34 (by decide) (fun q e => by have := hsl _ ha q e; omega) (ob_none) (fun c_34 => ?_) (fun c_34 => ?_)
      · have h9 : b9 = false := b_f hb9 (fun h => h.2.1 c_34)
        refine n_const (k := 0) hx hb d_C_isUnknown_50 (by decide) ?_
        exact r_z hx hb hr hlocks (rfl) hP hS (⟨bz0 (h9), rfl⟩) d_C_isUnknown_51
      · obtain ⟨v9, hv9⟩ : ∃ v, spo a = some v := by
          cases e : spo a with
          | none => exact absurd e c_34
          | some v => exact ⟨v, rfl⟩
        rw [hv9] at hl
        have hv9n := hsl _ ha v9 hv9
        have hl : lv_has ls 3 [(2, .int (nI (v9))), (0, .ref (ad (0))), (1, .int (nI (a)))] := hl
        refine lv_aload_n hx hb d_C_isUnknown_37 rfl (lv_at hl 1 rfl) ?_
        refine g_get (C := R_C) (T := T_C) (N := 15) (ci := 7) (v := .ref (ad (142))) hx hb hg i_C hown hK hP 0 (by decide) rfl rfl 10 (by decide) (hg _ k_138) rfl d_C_isUnknown_38 ?_
        refine lv_iload_n hx hb d_C_isUnknown_41 rfl (lv_at hl 0 rfl) ?_
        refine g_zald hx hb hK hP 142 2 (by decide) rfl rfl (by decide) (j := v9) (by omega) d_C_isUnknown_42 ?_
        refine n_top (y := (bI (tsb (v9)))) (hTS (v9) (by omega)) ?_
        refine z_eq (t := tsb (v9)) (tgt := 50) hx hb d_C_isUnknown_43 (by decide) (fun c_43 => ?_) (fun c_43 => ?_)
        · have h9 : b9 = false := b_f hb9 (fun h => by
            obtain ⟨k, g1, g2⟩ := h.2.2.2
            have := (htsb v9 (by omega)).mpr ⟨k, g1, by rw [g2, hv9]⟩
            rw [c_43] at this; cases this)
          refine n_const (k := 0) hx hb d_C_isUnknown_50 (by decide) ?_
          exact r_z hx hb hr hlocks (rfl) hP hS (⟨bz0 (h9), rfl⟩) d_C_isUnknown_51
        · have h9 : b9 = true := hb9.mpr ⟨c_6, c_34, hnr, by
            obtain ⟨k, g1, g2⟩ := (htsb v9 (by omega)).mp c_43
            exact ⟨k, g1, by rw [g2, hv9]⟩⟩
          refine n_const (k := 1) hx hb d_C_isUnknown_46 (by decide) ?_
          refine lv_goto (tgt := 51) hx hb d_C_isUnknown_47 (by decide) ?_
          exact r_z hx hb hr hlocks (rfl) hP hS (⟨bz1 (h9), rfl⟩) d_C_isUnknown_51
    · have h9 : b9 = false := b_f hb9 (fun h => by
        cases e : ro with
        | none => exact c_18 e
        | some r => rw [e] at hro; exact h.2.2.1 r hro.1 hro.2.1)
      refine n_const (k := 0) hx hb d_C_isUnknown_21 (by decide) ?_
      exact r_z hx hb hr hlocks (rfl) hP hS (⟨bz0 (h9), rfl⟩) d_C_isUnknown_22

set_option maxHeartbeats 4000000 in
set_option maxRecDepth 100000 in
theorem c_C_unknownNames (l : Launch) (D : va_G) (cI cC cZ cT : ClassId) (ad : Nat → Nat) (hI : GI 144 ad) (M : PM) (n : Nat) (len : Nat → Nat) (ch : Nat → Nat → Nat) (hN7 : CN M n len ch) (sp bs : Nat → Option Nat) (hH : CSp M n sp bs) (hbsp : ∀ k, k < n → (bs k ≠ none ↔ isSp n sp k)) (spo : Nat → Option Nat) (hSp : ∀ k, k < n → Best (spC n len ch sp k) len n (spo k)) (rc : Nat) (rw_ : Nat → Nat) (hW7 : CW M n rc rw_) (us : Nat → Nat) (hU1 : CU M us) (ub : Nat → Bool) (hub : ∀ k, k < n → (ub k = true ↔ unkP us spo rc rw_ k)) : MD l D cI cC cZ cT ad y_C_unknownNames b_C_unknownNames 3 (some .int) 4 91 [.ref (ad (0))] M (fun v M' => v = some (.int (nI (Cnt ub n))) ∧ FX 142 M M') := by
  refine MC.of (by decide) (Nat.le_of_ble_eq_true rfl) ?_
  intro p e s m below meth c ls hx hb hr hml hown hg hlocks hK hN hP hS hl
  have hown : s.vm.findClass R_C = some m.cls := hown
  have hl : lv_has ls 3 [(0, .ref (ad (0)))] := hl
  have hn60 := hN7.1
  have hnm := hN7.2.2.1
  have hspn := hH.2.2.1
  have hbsn := hH.2.2.2
  have hrc := hW7.1
  have hrw := hW7.2.2
  have hsl : ∀ k, k < n → ∀ q, spo k = some q → q < n := fun k hk => (hSp k hk).lt
  obtain ⟨tsb, htsb⟩ : ∃ tsb : Nat → Bool, ∀ q, q < 60 → (tsb q = true ↔ tsP spo rw_ rc q) := ⟨fun q => @decide _ (Classical.propDecidable (tsP spo rw_ rc q)), fun q _ => @decide_eq_true_iff _ (Classical.propDecidable _)⟩
  have J8 : ∀ (fu8 : Nat) (k : Nat) (M1 : PM) (H : Heap) (locs : List Loc) (ls : Array Slot), n - k < fu8 → (k ≤ n) → (FX 142 M M1) → (TS M1 tsb) → va_P D clsA (gw 144 ad (cfC cI cC cZ cT ad) M1) H → va_S (GA 144 ad) s.heap H locs → lv_has ls 3 [(0, .ref (ad (0))), (1, .int (nI (Cnt ub k))), (2, .int (nI (k)))] → W p l e (rm_ 4 91) s m ([.ref (ad (0))] : List Value).toArray below meth c H locs 0 0 (MQ below (GQ D 144 ad (cfC cI cC cZ cT ad) (fun v M' => v = some (.int (nI (Cnt ub n))) ∧ FX 142 M M')) ([.ref (ad (0))] : List Value).toArray s 0 0 (GA 144 ad)) (F0 m 8 ls []) := by
    intro fu8
    induction fu8 with
    | zero => intro k M1 H locs ls hfu; exact absurd hfu (Nat.not_lt_zero _)
    | succ fu8 ih8 =>
      intro k M1 H locs ls hfu8 hk hF hTS hP hS hl
      have hN71 := hN7.fx hF (by decide)
      have hH1 := hH.fx hF (by decide)
      have hW71 := hW7.fx hF (by decide)
      have hU11 := hU1.fx hF (by decide)
      refine lv_iload_n hx hb d_C_unknownNames_8 rfl (lv_at hl 2 rfl) ?_
      refine lv_aload_n hx hb d_C_unknownNames_9 rfl (lv_at hl 0 rfl) ?_
      refine g_get (C := R_C) (T := T_C) (N := 15) (ci := 7) (v := .ref (ad (7))) hx hb hg i_C hown hK hP 0 (by decide) rfl rfl 3 (by decide) (hg _ k_131) rfl d_C_unknownNames_10 ?_
      refine c_V (own := R_C) (index := 233) (As := []) (rest := [.int (nI (k))]) hx hb hml hown hg hK NXc.same hN.warm (fun _ h => h) hP hS 7 (c_N_size l D cI cC cZ cT ad hI M1 n len ch hN71) (by decide) (ci := 0) rfl rfl k_616 k_462 k_463 k_3 k_464 0 rfl (by decide +kernel) (by decide) rfl hl.1 (Nat.le_of_ble_eq_true rfl) d_C_unknownNames_13 (fun v M' H locs hq hP _ _ hS => ?_)
      obtain ⟨rfl, rfl⟩ := hq
      refine W.eq (g2 := F0 m 16 ls [.int (nI (n)), .int (nI (k))]) rfl ?_
      refine n_ge (a := k) (b := n) (tgt := 36) hx hb d_C_unknownNames_16 (by decide) (by omega) (by omega) (fun c_16 => ?_) (fun c_16 => ?_)
      · refine lv_iload_n hx hb d_C_unknownNames_36 rfl (lv_at hl 1 rfl) ?_
        exact r_i hx hb hr hlocks hP hS (⟨by rw [show n = k by omega], hF⟩) d_C_unknownNames_37
      · refine lv_aload_n hx hb d_C_unknownNames_19 rfl (lv_at hl 0 rfl) ?_
        refine lv_iload_n hx hb d_C_unknownNames_20 rfl (lv_at hl 2 rfl) ?_
        refine c_V (own := R_C) (index := 234) (As := [.int (nI (k))]) (rest := []) hx hb hml hown hg hK NXc.same hN.warm (fun _ h => h) hP hS 0 (c_C_isUnknown l D cI cC cZ cT ad hI M1 n len ch hN71 sp bs hH1 hbsp spo hSp rc rw_ hW71 tsb htsb hTS us hU11 (k) (by omega) (ub (k)) (hub _ (by omega))) (by decide) (ci := 7) rfl rfl k_617 k_619 k_p14 k_1 k_620 1 rfl (by decide +kernel) (by decide) rfl hl.1 (Nat.le_of_ble_eq_true rfl) d_C_unknownNames_21 (fun v M' H locs hq hP _ _ hS => ?_)
        obtain ⟨rfl, rfl⟩ := hq
        refine W.eq (g2 := F0 m 24 ls [.int (bI (ub (k)))]) rfl ?_
        refine z_eq (t := ub (k)) (tgt := 30) hx hb d_C_unknownNames_24 (by decide) (fun c_24 => ?_) (fun c_24 => ?_)
        · have hcq : Cnt ub (k + 1) = Cnt ub k := Cnt_f c_24
          rw [← hcq] at hl
          have hl : lv_has ls 3 [(0, .ref (ad (0))), (1, .int (nI (Cnt ub (k + 1)))), (2, .int (nI (k)))] := hl
          refine n_inc (lv' := [(2, .int (nI (k + 1))), (0, .ref (ad (0))), (1, .int (nI (Cnt ub (k + 1))))]) hx hb d_C_unknownNames_30 hl (k := 2) rfl (by decide) rfl (fun ls hl => ?_)
          refine lv_goto (tgt := 8) hx hb d_C_unknownNames_33 (by decide) ?_
          exact ih8 (k + 1) M1 _ _ ls (by omega) (by omega) (hF) (hTS) hP hS (lv_sub hl [1, 2, 0] rfl)
        · have hcq : Cnt ub (k + 1) = Cnt ub k + 1 := Cnt_t c_24
          refine n_inc (lv' := [(1, .int (nI (Cnt ub k + 1))), (0, .ref (ad (0))), (2, .int (nI (k)))]) hx hb d_C_unknownNames_27 hl (k := 1) rfl (by decide) rfl (fun ls hl => ?_)
          rw [← hcq] at hl
          have hl : lv_has ls 3 [(1, .int (nI (Cnt ub (k + 1)))), (0, .ref (ad (0))), (2, .int (nI (k)))] := hl
          refine n_inc (lv' := [(2, .int (nI (k + 1))), (1, .int (nI (Cnt ub (k + 1)))), (0, .ref (ad (0)))]) hx hb d_C_unknownNames_30 hl (k := 2) rfl (by decide) rfl (fun ls hl => ?_)
          refine lv_goto (tgt := 8) hx hb d_C_unknownNames_33 (by decide) ?_
          exact ih8 (k + 1) M1 _ _ ls (by omega) (by omega) (hF) (hTS) hP hS (lv_sub hl [2, 1, 0] rfl)
  refine lv_aload_n hx hb d_C_unknownNames_0 rfl (lv_at hl 0 rfl) ?_
  refine c_V (own := R_C) (index := 230) (As := []) (rest := []) hx hb hml hown hg hK NXc.same hN.warm (fun _ h => h) hP hS 0 (c_C_markTermSpaces l D cI cC cZ cT ad hI M n len ch hN7 sp bs hH hbsp spo hSp rc rw_ hW7 tsb htsb) (by decide) (ci := 7) rfl rfl k_612 k_614 k_p13 k_1 k_615 0 rfl (by decide +kernel) (by decide) rfl hl.1 (Nat.le_of_ble_eq_true rfl) d_C_unknownNames_1 (fun v M_1 H locs hq hP _ _ hS => ?_)
  obtain ⟨rfl, hTS, hFM_1⟩ := hq
  refine W.eq (g2 := F0 m 4 ls []) rfl ?_
  refine n_const (k := 0) hx hb d_C_unknownNames_4 (by decide) ?_
  refine lv_istore_n (lv' := [(1, .int (nI (0))), (0, .ref (ad (0)))]) hx hb d_C_unknownNames_5 rfl hl (by decide) rfl (fun ls hl => ?_)
  refine n_const (k := 0) hx hb d_C_unknownNames_6 (by decide) ?_
  refine lv_istore_n (lv' := [(2, .int (nI (0))), (1, .int (nI (0))), (0, .ref (ad (0)))]) hx hb d_C_unknownNames_7 rfl hl (by decide) rfl (fun ls hl => ?_)
  exact J8 (_ + 1) (0) M_1 _ _ ls (Nat.lt_succ_self _) (by omega) (hFM_1) (hTS) hP hS (lv_sub hl [2, 1, 0] rfl)

set_option maxHeartbeats 4000000 in
set_option maxRecDepth 100000 in
theorem c_C_measureTerms (l : Launch) (D : va_G) (cI cC cZ cT : ClassId) (ad : Nat → Nat) (hI : GI 144 ad) (M : PM) (n : Nat) (len : Nat → Nat) (ch : Nat → Nat → Nat) (hN7 : CN M n len ch) (rc : Nat) (rw_ : Nat → Nat) (hW7 : CW M n rc rw_) (a : Nat) (ha : a < n) : MD l D cI cC cZ cT ad y_C_measureTerms b_C_measureTerms 4 none 2 48 [.ref (ad (0)), .int (nI (a))] M (fun v M' => v = none ∧ FM M M' ∧ DM M' rc (fun q => Ed (eqC2 (ch a) (ch (rw_ (3 * q)))) (len a) (len (rw_ (3 * q))))) := by
  refine MC.of (by decide) (Nat.le_of_ble_eq_true rfl) ?_
  intro p e s m below meth c ls hx hb hr hml hown hg hlocks hK hN hP hS hl
  have hown : s.vm.findClass R_C = some m.cls := hown
  have hl : lv_has ls 4 [(0, .ref (ad (0))), (1, .int (nI (a)))] := hl
  have hn60 := hN7.1
  have hnm := hN7.2.2.1
  have hrc := hW7.1
  have hrw := hW7.2.2
  have la := hnm a ha
  have J11 : ∀ (fu11 : Nat) (k : Nat) (M1 : PM) (H : Heap) (locs : List Loc) (ls : Array Slot), rc - k < fu11 → (k ≤ rc) → (FM M M1) → (∀ q, q < k → M1 143 q = nI ((fun q => Ed (eqC2 (ch a) (ch (rw_ (3 * q)))) (len a) (len (rw_ (3 * q)))) q)) → va_P D clsA (gw 144 ad (cfC cI cC cZ cT ad) M1) H → va_S (GA 144 ad) s.heap H locs → lv_has ls 4 [(0, .ref (ad (0))), (2, .ref (ad (9 + 2 * (a)))), (3, .int (nI (k)))] → W p l e (rm_ 2 48) s m ([.ref (ad (0)), .int (nI (a))] : List Value).toArray below meth c H locs 0 0 (MQ below (GQ D 144 ad (cfC cI cC cZ cT ad) (fun v M' => v = none ∧ FM M M' ∧ DM M' rc (fun q => Ed (eqC2 (ch a) (ch (rw_ (3 * q)))) (len a) (len (rw_ (3 * q)))))) ([.ref (ad (0)), .int (nI (a))] : List Value).toArray s 0 0 (GA 144 ad)) (F0 m 11 ls []) := by
    intro fu11
    induction fu11 with
    | zero => intro k M1 H locs ls hfu; exact absurd hfu (Nat.not_lt_zero _)
    | succ fu11 ih11 =>
      intro k M1 H locs ls hfu11 hk hF hD hP hS hl
      have hN71 := hN7.fm hF
      have hW71 := hW7.fm hF
      refine lv_iload_n hx hb d_C_measureTerms_11 rfl (lv_at hl 2 rfl) ?_
      refine lv_aload_n hx hb d_C_measureTerms_12 rfl (lv_at hl 0 rfl) ?_
      refine g_get (C := R_C) (T := T_C) (N := 15) (ci := 7) (v := .ref (ad (132))) hx hb hg i_C hown hK hP 0 (by decide) rfl rfl 5 (by decide) (hg _ k_133) rfl d_C_measureTerms_13 ?_
      refine c_V (own := R_C) (index := 220) (As := []) (rest := [.int (nI (k))]) hx hb hml hown hg hK NXc.same hN.warm (fun _ h => h) hP hS 132 (c_W_size l D cI cC cZ cT ad hI M1 n rc hn60 rw_ hW71) (by decide) (ci := 2) rfl rfl k_570 k_571 k_572 k_5 k_573 0 rfl (by decide +kernel) (by decide) rfl hl.1 (Nat.le_of_ble_eq_true rfl) d_C_measureTerms_16 (fun v M' H locs hq hP _ _ hS => ?_)
      obtain ⟨rfl, rfl⟩ := hq
      refine W.eq (g2 := F0 m 19 ls [.int (nI (rc)), .int (nI (k))]) rfl ?_
      refine n_ge (a := k) (b := rc) (tgt := 47) hx hb d_C_measureTerms_19 (by decide) (by omega) (by omega) (fun c_19 => ?_) (fun c_19 => ?_)
      · exact r_v hx hb hr hlocks hP hS (⟨rfl, hF, fun q hq => ⟨Ed_max _ _ _ 24 la.2.1 (hnm _ (hrw (3 * q) (by omega)).1).2.1, hD q (by omega)⟩⟩) d_C_measureTerms_47
      · refine lv_aload_n hx hb d_C_measureTerms_22 rfl (lv_at hl 0 rfl) ?_
        refine g_get (C := R_C) (T := T_C) (N := 15) (ci := 7) (v := .ref (ad (143))) hx hb hg i_C hown hK hP 0 (by decide) rfl rfl 11 (by decide) (hg _ k_139) rfl d_C_measureTerms_23 ?_
        refine lv_iload_n hx hb d_C_measureTerms_26 rfl (lv_at hl 2 rfl) ?_
        refine lv_aload_n hx hb d_C_measureTerms_27 rfl (lv_at hl 0 rfl) ?_
        refine g_get (C := R_C) (T := T_C) (N := 15) (ci := 7) (v := .ref (ad (139))) hx hb hg i_C hown hK hP 0 (by decide) rfl rfl 8 (by decide) (hg _ k_136) rfl d_C_measureTerms_28 ?_
        refine lv_aload_n hx hb d_C_measureTerms_31 rfl (lv_at hl 1 rfl) ?_
        refine lv_aload_n hx hb d_C_measureTerms_32 rfl (lv_at hl 0 rfl) ?_
        refine lv_iload_n hx hb d_C_measureTerms_33 rfl (lv_at hl 2 rfl) ?_
        refine c_V (own := R_C) (index := 341) (As := [.int (nI (k))]) (rest := [.ref (ad (9 + 2 * (a))), .ref (ad (139)), .int (nI (k)), .ref (ad (143))]) hx hb hml hown hg hK NXc.same hN.warm (fun _ h => h) hP hS 0 (c_C_termText l D cI cC cZ cT ad hI M1 n hn60 rc rw_ hW71 (k) (by omega)) (by decide) (ci := 7) rfl rfl k_586 k_588 k_p12 k_1 k_589 1 rfl (by decide +kernel) (by decide) rfl hl.1 (Nat.le_of_ble_eq_true rfl) d_C_measureTerms_34 (fun v M' H locs hq hP _ _ hS => ?_)
        obtain ⟨rfl, rfl⟩ := hq
        refine W.eq (g2 := F0 m 37 ls [.ref (ad (9 + 2 * rw_ (3 * (k)))), .ref (ad (9 + 2 * (a))), .ref (ad (139)), .int (nI (k)), .ref (ad (143))]) rfl ?_
        refine c_V (own := R_C) (index := 237) (As := [.ref (ad (9 + 2 * (a))), .ref (ad (9 + 2 * rw_ (3 * (k))))]) (rest := [.int (nI (k)), .ref (ad (143))]) hx hb hml hown hg hK NXc.same hN.warm (fun _ h => h) hP hS 139 (c_E_between l D cI cC cZ cT ad hI M1 (9 + 2 * rw_ (3 * k)) (txn (by have := (hrw (3 * k) (by omega)).1; omega)) (len (rw_ (3 * k))) (ch (rw_ (3 * k))) (hN71.2.2.1 _ (hrw (3 * k) (by omega)).1).2.2.2 (9 + 2 * a) (txn (by omega)) (len a) (ch a) (hN71.2.2.1 a ha).2.2.2 (hnm _ (hrw (3 * k) (by omega)).1).2.1 la.2.1) (by decide) (ci := 5) rfl rfl k_628 k_629 k_630 k_8 k_631 2 rfl (by decide +kernel) (by decide) rfl hl.1 (Nat.le_of_ble_eq_true rfl) d_C_measureTerms_37 (fun v M_1 H locs hq hP _ _ hS => ?_)
        obtain ⟨rfl, h140⟩ := hq
        refine W.eq (g2 := F0 m 40 ls [.int (nI ((fun q => Ed (eqC2 (ch a) (ch (rw_ (3 * q)))) (len a) (len (rw_ (3 * q)))) k)), .int (nI (k)), .ref (ad (143))]) rfl ?_
        refine g_iast hx hb hK hI (fun _ h => h) hP hS 143 0 (by decide) (fun _ => rfl) rfl (by decide) (j := k) (by omega) (v := (nI ((fun q => Ed (eqC2 (ch a) (ch (rw_ (3 * q)))) (len a) (len (rw_ (3 * q)))) k))) d_C_measureTerms_40 (fun H locs hP hS => ?_)
        obtain ⟨M_2, eM_2⟩ : ∃ z : PM, z = (pu M_1 143 (k) ((nI ((fun q => Ed (eqC2 (ch a) (ch (rw_ (3 * q)))) (len a) (len (rw_ (3 * q)))) k)))) := ⟨_, rfl⟩
        rw [← eM_2] at hP
        have hF9 : FM M M_2 := fun p q h1 h2 => by rw [eM_2, pu_k _ _ _ _ _ h2, h140 p q h1]; exact hF p q h1 h2
        have hD9 : ∀ q, q < k + 1 → M_2 143 q = nI ((fun q => Ed (eqC2 (ch a) (ch (rw_ (3 * q)))) (len a) (len (rw_ (3 * q)))) q) := lt_S (fun q hq => by rw [eM_2, pu_j _ _ _ _ _ (by omega), h140 143 q (by decide)]; exact hD q hq) (by rw [eM_2, pu_s])
        refine n_inc (lv' := [(3, .int (nI (k + 1))), (0, .ref (ad (0))), (2, .ref (ad (9 + 2 * (a))))]) hx hb d_C_measureTerms_41 hl (k := 2) rfl (by decide) rfl (fun ls hl => ?_)
        refine lv_goto (tgt := 11) hx hb d_C_measureTerms_44 (by decide) ?_
        exact ih11 (k + 1) M_2 _ _ ls (by omega) (by omega) (hF9) (hD9) hP hS (lv_sub hl [1, 2, 0] rfl)
  refine lv_aload_n hx hb d_C_measureTerms_0 rfl (lv_at hl 0 rfl) ?_
  refine g_get (C := R_C) (T := T_C) (N := 15) (ci := 7) (v := .ref (ad (7))) hx hb hg i_C hown hK hP 0 (by decide) rfl rfl 3 (by decide) (hg _ k_131) rfl d_C_measureTerms_1 ?_
  refine lv_iload_n hx hb d_C_measureTerms_4 rfl (lv_at hl 1 rfl) ?_
  refine c_V (own := R_C) (index := 134) (As := [.int (nI (a))]) (rest := []) hx hb hml hown hg hK NXc.same hN.warm (fun _ h => h) hP hS 7 (c_N_text l D cI cC cZ cT ad hI M (a) (by omega)) (by decide) (ci := 0) rfl rfl k_387 k_388 k_389 k_3 k_390 1 rfl (by decide +kernel) (by decide) rfl hl.1 (Nat.le_of_ble_eq_true rfl) d_C_measureTerms_5 (fun v M' H locs hq hP _ _ hS => ?_)
  obtain ⟨rfl, rfl⟩ := hq
  refine W.eq (g2 := F0 m 8 ls [.ref (ad (9 + 2 * (a)))]) rfl ?_
  refine lv_astore_n (lv' := [(2, .ref (ad (9 + 2 * (a)))), (0, .ref (ad (0))), (1, .int (nI (a)))]) hx hb d_C_measureTerms_8 rfl hl (by decide) rfl (fun ls hl => ?_)
  refine n_const (k := 0) hx hb d_C_measureTerms_9 (by decide) ?_
  refine lv_istore_n (lv' := [(3, .int (nI (0))), (2, .ref (ad (9 + 2 * (a)))), (0, .ref (ad (0))), (1, .int (nI (a)))]) hx hb d_C_measureTerms_10 rfl hl (by decide) rfl (fun ls hl => ?_)
  exact J11 (_ + 1) (0) M _ _ ls (Nat.lt_succ_self _) (by omega) (fun _ _ _ _ => rfl) (fun q hq => absurd hq (Nat.not_lt_zero q)) hP hS (lv_sub hl [2, 1, 0] rfl)

set_option maxHeartbeats 4000000 in
set_option maxRecDepth 100000 in
theorem c_C_rowsNearer (l : Launch) (D : va_G) (cI cC cZ cT : ClassId) (ad : Nat → Nat) (hI : GI 144 ad) (M : PM) (n : Nat) (hn60 : n ≤ 60) (rc : Nat) (rw_ : Nat → Nat) (hW7 : CW M n rc rw_) (d : Nat → Nat) (hDM : DM M rc d) (k : Nat) (hk : k < rc) : MD l D cI cC cZ cT ad y_C_rowsNearer b_C_rowsNearer 5 (some .int) 1 20 [.ref (ad (0)), .int (nI (k))] M (fun v M' => v = some (.int (nI (NB d rc k))) ∧ M = M') := by
  refine MC.of (by decide) (Nat.le_of_ble_eq_true rfl) ?_
  intro p e s m below meth c ls hx hb hr hml hown hg hlocks hK hN hP hS hl
  have hown : s.vm.findClass R_C = some m.cls := hown
  have hl : lv_has ls 5 [(0, .ref (ad (0))), (1, .int (nI (k)))] := hl
  have hrc := hW7.1
  have hdk := (hDM k hk).1
  have J4 : ∀ (fu4 : Nat) (q : Nat) (H : Heap) (locs : List Loc) (ls : Array Slot), rc - q < fu4 → (q ≤ rc) → va_P D clsA (gw 144 ad (cfC cI cC cZ cT ad) M) H → va_S (GA 144 ad) s.heap H locs → lv_has ls 5 [(0, .ref (ad (0))), (1, .int (nI (k))), (2, .int (nI (Cnt (bfN d (d k) k) q))), (3, .int (nI (q)))] → W p l e (rm_ 1 20) s m ([.ref (ad (0)), .int (nI (k))] : List Value).toArray below meth c H locs 0 0 (MQ below (GQ D 144 ad (cfC cI cC cZ cT ad) (fun v M' => v = some (.int (nI (NB d rc k))) ∧ M = M')) ([.ref (ad (0)), .int (nI (k))] : List Value).toArray s 0 0 (GA 144 ad)) (F0 m 4 ls []) := by
    intro fu4
    induction fu4 with
    | zero => intro q H locs ls hfu; exact absurd hfu (Nat.not_lt_zero _)
    | succ fu4 ih4 =>
      intro q H locs ls hfu4 hq1 hP hS hl
      refine lv_iload_n hx hb d_C_rowsNearer_4 rfl (lv_at hl 3 rfl) ?_
      refine lv_aload_n hx hb d_C_rowsNearer_5 rfl (lv_at hl 0 rfl) ?_
      refine g_get (C := R_C) (T := T_C) (N := 15) (ci := 7) (v := .ref (ad (132))) hx hb hg i_C hown hK hP 0 (by decide) rfl rfl 5 (by decide) (hg _ k_133) rfl d_C_rowsNearer_6 ?_
      refine c_V (own := R_C) (index := 220) (As := []) (rest := [.int (nI (q))]) hx hb hml hown hg hK NXc.same hN.warm (fun _ h => h) hP hS 132 (c_W_size l D cI cC cZ cT ad hI M n rc hn60 rw_ hW7) (by decide) (ci := 2) rfl rfl k_570 k_571 k_572 k_5 k_573 0 rfl (by decide +kernel) (by decide) rfl hl.1 (Nat.le_of_ble_eq_true rfl) d_C_rowsNearer_9 (fun v M' H locs hq hP _ _ hS => ?_)
      obtain ⟨rfl, rfl⟩ := hq
      refine W.eq (g2 := F0 m 12 ls [.int (nI (rc)), .int (nI (q))]) rfl ?_
      refine n_ge (a := q) (b := rc) (tgt := 71) hx hb d_C_rowsNearer_12 (by decide) (by omega) (by omega) (fun c_12 => ?_) (fun c_12 => ?_)
      · refine lv_iload_n hx hb d_C_rowsNearer_71 rfl (lv_at hl 2 rfl) ?_
        exact r_i hx hb hr hlocks hP hS (⟨by rw [show q = rc by omega]; rfl, rfl⟩) d_C_rowsNearer_72
      · have hdq := (hDM q (by omega)).1
        refine lv_aload_n hx hb d_C_rowsNearer_15 rfl (lv_at hl 0 rfl) ?_
        refine g_get (C := R_C) (T := T_C) (N := 15) (ci := 7) (v := .ref (ad (143))) hx hb hg i_C hown hK hP 0 (by decide) rfl rfl 11 (by decide) (hg _ k_139) rfl d_C_rowsNearer_16 ?_
        refine lv_iload_n hx hb d_C_rowsNearer_19 rfl (lv_at hl 3 rfl) ?_
        refine g_iald hx hb hK hP 143 0 (by decide) rfl rfl (by decide) (j := q) (by omega) d_C_rowsNearer_20 ?_
        refine n_top (y := (nI (d (q)))) ((hDM (q) (by omega)).2) ?_
        refine lv_aload_n hx hb d_C_rowsNearer_21 rfl (lv_at hl 0 rfl) ?_
        refine g_get (C := R_C) (T := T_C) (N := 15) (ci := 7) (v := .ref (ad (143))) hx hb hg i_C hown hK hP 0 (by decide) rfl rfl 11 (by decide) (hg _ k_139) rfl d_C_rowsNearer_22 ?_
        refine lv_iload_n hx hb d_C_rowsNearer_25 rfl (lv_at hl 1 rfl) ?_
        refine g_iald hx hb hK hP 143 0 (by decide) rfl rfl (by decide) (j := k) (by omega) d_C_rowsNearer_26 ?_
        refine n_top (y := (nI (d (k)))) ((hDM (k) (by omega)).2) ?_
        refine n_ne (a := d (q)) (b := d (k)) (tgt := 39) hx hb d_C_rowsNearer_27 (by decide) (by omega) (by omega) (fun c_27 => ?_) (fun c_27 => ?_)
        · refine n_const (k := 0) hx hb d_C_rowsNearer_39 (by decide) ?_
          refine lv_istore (lv' := [(4, .int (nI (0))), (0, .ref (ad (0))), (1, .int (nI (k))), (2, .int (nI (Cnt (bfN d (d k) k) q))), (3, .int (nI (q)))]) hx hb d_C_rowsNearer_40 hl (by decide) rfl (fun ls hl => ?_)
          refine lv_aload_n hx hb d_C_rowsNearer_42 rfl (lv_at hl 1 rfl) ?_
          refine g_get (C := R_C) (T := T_C) (N := 15) (ci := 7) (v := .ref (ad (143))) hx hb hg i_C hown hK hP 0 (by decide) rfl rfl 11 (by decide) (hg _ k_139) rfl d_C_rowsNearer_43 ?_
          refine lv_iload_n hx hb d_C_rowsNearer_46 rfl (lv_at hl 4 rfl) ?_
          refine g_iald hx hb hK hP 143 0 (by decide) rfl rfl (by decide) (j := q) (by omega) d_C_rowsNearer_47 ?_
          refine n_top (y := (nI (d (q)))) ((hDM (q) (by omega)).2) ?_
          refine lv_aload_n hx hb d_C_rowsNearer_48 rfl (lv_at hl 1 rfl) ?_
          refine g_get (C := R_C) (T := T_C) (N := 15) (ci := 7) (v := .ref (ad (143))) hx hb hg i_C hown hK hP 0 (by decide) rfl rfl 11 (by decide) (hg _ k_139) rfl d_C_rowsNearer_49 ?_
          refine lv_iload_n hx hb d_C_rowsNearer_52 rfl (lv_at hl 2 rfl) ?_
          refine g_iald hx hb hK hP 143 0 (by decide) rfl rfl (by decide) (j := k) (by omega) d_C_rowsNearer_53 ?_
          refine n_top (y := (nI (d (k)))) ((hDM (k) (by omega)).2) ?_
          refine n_lt (a := d (q)) (b := d (k)) (tgt := 62) hx hb d_C_rowsNearer_54 (by decide) (by omega) (by omega) (fun c_54 => ?_) (fun c_54 => ?_)
          · have hcq : Cnt (bfN d (d k) k) (q + 1) = Cnt (bfN d (d k) k) q + 1 := Cnt_t (by simp only [bfN]; exact decide_eq_true (by omega))
            refine n_inc (lv' := [(2, .int (nI (Cnt (bfN d (d k) k) q + 1))), (4, .int (nI (0))), (0, .ref (ad (0))), (1, .int (nI (k))), (3, .int (nI (q)))]) hx hb d_C_rowsNearer_62 hl (k := 3) rfl (by decide) rfl (fun ls hl => ?_)
            first | rw [← hcq] at hl | rw [← (show Cnt (bfN d (d k) k) (q + 1) = Cnt (bfN d (d k) k) q from Cnt_f (by simp only [bfN]; exact decide_eq_false (by omega)))] at hl
            have hl : lv_has ls 5 [(2, .int (nI (Cnt (bfN d (d k) k) (q + 1)))), (4, .int (nI (0))), (0, .ref (ad (0))), (1, .int (nI (k))), (3, .int (nI (q)))] := hl
            refine n_inc (lv' := [(3, .int (nI (q + 1))), (2, .int (nI (Cnt (bfN d (d k) k) (q + 1)))), (4, .int (nI (0))), (0, .ref (ad (0))), (1, .int (nI (k)))]) hx hb d_C_rowsNearer_65 hl (k := 4) rfl (by decide) rfl (fun ls hl => ?_)
            refine lv_goto (tgt := 4) hx hb d_C_rowsNearer_68 (by decide) ?_
            exact ih4 (q + 1) _ _ ls (by omega) (by omega) hP hS (lv_sub hl [3, 4, 1, 0] rfl)
          · refine lv_iload hx hb d_C_rowsNearer_57 (lv_at hl 0 rfl) ?_
            refine lv_if_eq (tgt := 65) hx hb d_C_rowsNearer_59 (by decide) (fun _ => ?_) (fun h9 => by first | exact absurd h9 (by decide) | exact absurd (by decide) h9)
            first | rw [← hcq] at hl | rw [← (show Cnt (bfN d (d k) k) (q + 1) = Cnt (bfN d (d k) k) q from Cnt_f (by simp only [bfN]; exact decide_eq_false (by omega)))] at hl
            have hl : lv_has ls 5 [(4, .int (nI (0))), (0, .ref (ad (0))), (1, .int (nI (k))), (2, .int (nI (Cnt (bfN d (d k) k) (q + 1)))), (3, .int (nI (q)))] := hl
            refine n_inc (lv' := [(3, .int (nI (q + 1))), (4, .int (nI (0))), (0, .ref (ad (0))), (1, .int (nI (k))), (2, .int (nI (Cnt (bfN d (d k) k) (q + 1))))]) hx hb d_C_rowsNearer_65 hl (k := 4) rfl (by decide) rfl (fun ls hl => ?_)
            refine lv_goto (tgt := 4) hx hb d_C_rowsNearer_68 (by decide) ?_
            exact ih4 (q + 1) _ _ ls (by omega) (by omega) hP hS (lv_sub hl [2, 3, 4, 0] rfl)
        · refine lv_iload_n hx hb d_C_rowsNearer_30 rfl (lv_at hl 3 rfl) ?_
          refine lv_iload_n hx hb d_C_rowsNearer_31 rfl (lv_at hl 1 rfl) ?_
          refine n_ge (a := q) (b := k) (tgt := 39) hx hb d_C_rowsNearer_32 (by decide) (by omega) (by omega) (fun c_32 => ?_) (fun c_32 => ?_)
          · refine n_const (k := 0) hx hb d_C_rowsNearer_39 (by decide) ?_
            refine lv_istore (lv' := [(4, .int (nI (0))), (0, .ref (ad (0))), (1, .int (nI (k))), (2, .int (nI (Cnt (bfN d (d k) k) q))), (3, .int (nI (q)))]) hx hb d_C_rowsNearer_40 hl (by decide) rfl (fun ls hl => ?_)
            refine lv_aload_n hx hb d_C_rowsNearer_42 rfl (lv_at hl 1 rfl) ?_
            refine g_get (C := R_C) (T := T_C) (N := 15) (ci := 7) (v := .ref (ad (143))) hx hb hg i_C hown hK hP 0 (by decide) rfl rfl 11 (by decide) (hg _ k_139) rfl d_C_rowsNearer_43 ?_
            refine lv_iload_n hx hb d_C_rowsNearer_46 rfl (lv_at hl 4 rfl) ?_
            refine g_iald hx hb hK hP 143 0 (by decide) rfl rfl (by decide) (j := q) (by omega) d_C_rowsNearer_47 ?_
            refine n_top (y := (nI (d (q)))) ((hDM (q) (by omega)).2) ?_
            refine lv_aload_n hx hb d_C_rowsNearer_48 rfl (lv_at hl 1 rfl) ?_
            refine g_get (C := R_C) (T := T_C) (N := 15) (ci := 7) (v := .ref (ad (143))) hx hb hg i_C hown hK hP 0 (by decide) rfl rfl 11 (by decide) (hg _ k_139) rfl d_C_rowsNearer_49 ?_
            refine lv_iload_n hx hb d_C_rowsNearer_52 rfl (lv_at hl 2 rfl) ?_
            refine g_iald hx hb hK hP 143 0 (by decide) rfl rfl (by decide) (j := k) (by omega) d_C_rowsNearer_53 ?_
            refine n_top (y := (nI (d (k)))) ((hDM (k) (by omega)).2) ?_
            refine n_lt (a := d (q)) (b := d (k)) (tgt := 62) hx hb d_C_rowsNearer_54 (by decide) (by omega) (by omega) (fun c_54 => ?_) (fun c_54 => ?_)
            · have hcq : Cnt (bfN d (d k) k) (q + 1) = Cnt (bfN d (d k) k) q + 1 := Cnt_t (by simp only [bfN]; exact decide_eq_true (by omega))
              refine n_inc (lv' := [(2, .int (nI (Cnt (bfN d (d k) k) q + 1))), (4, .int (nI (0))), (0, .ref (ad (0))), (1, .int (nI (k))), (3, .int (nI (q)))]) hx hb d_C_rowsNearer_62 hl (k := 3) rfl (by decide) rfl (fun ls hl => ?_)
              first | rw [← hcq] at hl | rw [← (show Cnt (bfN d (d k) k) (q + 1) = Cnt (bfN d (d k) k) q from Cnt_f (by simp only [bfN]; exact decide_eq_false (by omega)))] at hl
              have hl : lv_has ls 5 [(2, .int (nI (Cnt (bfN d (d k) k) (q + 1)))), (4, .int (nI (0))), (0, .ref (ad (0))), (1, .int (nI (k))), (3, .int (nI (q)))] := hl
              refine n_inc (lv' := [(3, .int (nI (q + 1))), (2, .int (nI (Cnt (bfN d (d k) k) (q + 1)))), (4, .int (nI (0))), (0, .ref (ad (0))), (1, .int (nI (k)))]) hx hb d_C_rowsNearer_65 hl (k := 4) rfl (by decide) rfl (fun ls hl => ?_)
              refine lv_goto (tgt := 4) hx hb d_C_rowsNearer_68 (by decide) ?_
              exact ih4 (q + 1) _ _ ls (by omega) (by omega) hP hS (lv_sub hl [3, 4, 1, 0] rfl)
            · refine lv_iload hx hb d_C_rowsNearer_57 (lv_at hl 0 rfl) ?_
              refine lv_if_eq (tgt := 65) hx hb d_C_rowsNearer_59 (by decide) (fun _ => ?_) (fun h9 => by first | exact absurd h9 (by decide) | exact absurd (by decide) h9)
              first | rw [← hcq] at hl | rw [← (show Cnt (bfN d (d k) k) (q + 1) = Cnt (bfN d (d k) k) q from Cnt_f (by simp only [bfN]; exact decide_eq_false (by omega)))] at hl
              have hl : lv_has ls 5 [(4, .int (nI (0))), (0, .ref (ad (0))), (1, .int (nI (k))), (2, .int (nI (Cnt (bfN d (d k) k) (q + 1)))), (3, .int (nI (q)))] := hl
              refine n_inc (lv' := [(3, .int (nI (q + 1))), (4, .int (nI (0))), (0, .ref (ad (0))), (1, .int (nI (k))), (2, .int (nI (Cnt (bfN d (d k) k) (q + 1))))]) hx hb d_C_rowsNearer_65 hl (k := 4) rfl (by decide) rfl (fun ls hl => ?_)
              refine lv_goto (tgt := 4) hx hb d_C_rowsNearer_68 (by decide) ?_
              exact ih4 (q + 1) _ _ ls (by omega) (by omega) hP hS (lv_sub hl [2, 3, 4, 0] rfl)
          · refine n_const (k := 1) hx hb d_C_rowsNearer_35 (by decide) ?_
            refine lv_goto (tgt := 40) hx hb d_C_rowsNearer_36 (by decide) ?_
            refine lv_istore (lv' := [(4, .int (nI (1))), (0, .ref (ad (0))), (1, .int (nI (k))), (2, .int (nI (Cnt (bfN d (d k) k) q))), (3, .int (nI (q)))]) hx hb d_C_rowsNearer_40 hl (by decide) rfl (fun ls hl => ?_)
            refine lv_aload_n hx hb d_C_rowsNearer_42 rfl (lv_at hl 1 rfl) ?_
            refine g_get (C := R_C) (T := T_C) (N := 15) (ci := 7) (v := .ref (ad (143))) hx hb hg i_C hown hK hP 0 (by decide) rfl rfl 11 (by decide) (hg _ k_139) rfl d_C_rowsNearer_43 ?_
            refine lv_iload_n hx hb d_C_rowsNearer_46 rfl (lv_at hl 4 rfl) ?_
            refine g_iald hx hb hK hP 143 0 (by decide) rfl rfl (by decide) (j := q) (by omega) d_C_rowsNearer_47 ?_
            refine n_top (y := (nI (d (q)))) ((hDM (q) (by omega)).2) ?_
            refine lv_aload_n hx hb d_C_rowsNearer_48 rfl (lv_at hl 1 rfl) ?_
            refine g_get (C := R_C) (T := T_C) (N := 15) (ci := 7) (v := .ref (ad (143))) hx hb hg i_C hown hK hP 0 (by decide) rfl rfl 11 (by decide) (hg _ k_139) rfl d_C_rowsNearer_49 ?_
            refine lv_iload_n hx hb d_C_rowsNearer_52 rfl (lv_at hl 2 rfl) ?_
            refine g_iald hx hb hK hP 143 0 (by decide) rfl rfl (by decide) (j := k) (by omega) d_C_rowsNearer_53 ?_
            refine n_top (y := (nI (d (k)))) ((hDM (k) (by omega)).2) ?_
            refine n_lt (a := d (q)) (b := d (k)) (tgt := 62) hx hb d_C_rowsNearer_54 (by decide) (by omega) (by omega) (fun c_54 => ?_) (fun c_54 => ?_)
            · have hcq : Cnt (bfN d (d k) k) (q + 1) = Cnt (bfN d (d k) k) q + 1 := Cnt_t (by simp only [bfN]; exact decide_eq_true (by omega))
              refine n_inc (lv' := [(2, .int (nI (Cnt (bfN d (d k) k) q + 1))), (4, .int (nI (1))), (0, .ref (ad (0))), (1, .int (nI (k))), (3, .int (nI (q)))]) hx hb d_C_rowsNearer_62 hl (k := 3) rfl (by decide) rfl (fun ls hl => ?_)
              first | rw [← hcq] at hl | rw [← (show Cnt (bfN d (d k) k) (q + 1) = Cnt (bfN d (d k) k) q from Cnt_f (by simp only [bfN]; exact decide_eq_false (by omega)))] at hl
              have hl : lv_has ls 5 [(2, .int (nI (Cnt (bfN d (d k) k) (q + 1)))), (4, .int (nI (1))), (0, .ref (ad (0))), (1, .int (nI (k))), (3, .int (nI (q)))] := hl
              refine n_inc (lv' := [(3, .int (nI (q + 1))), (2, .int (nI (Cnt (bfN d (d k) k) (q + 1)))), (4, .int (nI (1))), (0, .ref (ad (0))), (1, .int (nI (k)))]) hx hb d_C_rowsNearer_65 hl (k := 4) rfl (by decide) rfl (fun ls hl => ?_)
              refine lv_goto (tgt := 4) hx hb d_C_rowsNearer_68 (by decide) ?_
              exact ih4 (q + 1) _ _ ls (by omega) (by omega) hP hS (lv_sub hl [3, 4, 1, 0] rfl)
            · refine lv_iload hx hb d_C_rowsNearer_57 (lv_at hl 0 rfl) ?_
              refine lv_if_eq (tgt := 65) hx hb d_C_rowsNearer_59 (by decide) (fun h9 => by first | exact absurd h9 (by decide) | exact absurd (by decide) h9) (fun _ => ?_)
              have hcq : Cnt (bfN d (d k) k) (q + 1) = Cnt (bfN d (d k) k) q + 1 := Cnt_t (by simp only [bfN]; exact decide_eq_true (by omega))
              refine n_inc (lv' := [(2, .int (nI (Cnt (bfN d (d k) k) q + 1))), (4, .int (nI (1))), (0, .ref (ad (0))), (1, .int (nI (k))), (3, .int (nI (q)))]) hx hb d_C_rowsNearer_62 hl (k := 3) rfl (by decide) rfl (fun ls hl => ?_)
              first | rw [← hcq] at hl | rw [← (show Cnt (bfN d (d k) k) (q + 1) = Cnt (bfN d (d k) k) q from Cnt_f (by simp only [bfN]; exact decide_eq_false (by omega)))] at hl
              have hl : lv_has ls 5 [(2, .int (nI (Cnt (bfN d (d k) k) (q + 1)))), (4, .int (nI (1))), (0, .ref (ad (0))), (1, .int (nI (k))), (3, .int (nI (q)))] := hl
              refine n_inc (lv' := [(3, .int (nI (q + 1))), (2, .int (nI (Cnt (bfN d (d k) k) (q + 1)))), (4, .int (nI (1))), (0, .ref (ad (0))), (1, .int (nI (k)))]) hx hb d_C_rowsNearer_65 hl (k := 4) rfl (by decide) rfl (fun ls hl => ?_)
              refine lv_goto (tgt := 4) hx hb d_C_rowsNearer_68 (by decide) ?_
              exact ih4 (q + 1) _ _ ls (by omega) (by omega) hP hS (lv_sub hl [3, 4, 1, 0] rfl)
  refine n_const (k := 0) hx hb d_C_rowsNearer_0 (by decide) ?_
  refine lv_istore_n (lv' := [(2, .int (nI (0))), (0, .ref (ad (0))), (1, .int (nI (k)))]) hx hb d_C_rowsNearer_1 rfl hl (by decide) rfl (fun ls hl => ?_)
  refine n_const (k := 0) hx hb d_C_rowsNearer_2 (by decide) ?_
  refine lv_istore_n (lv' := [(3, .int (nI (0))), (2, .int (nI (0))), (0, .ref (ad (0))), (1, .int (nI (k)))]) hx hb d_C_rowsNearer_3 rfl hl (by decide) rfl (fun ls hl => ?_)
  exact J4 (_ + 1) (0) _ _ ls (Nat.lt_succ_self _) (by omega) hP hS (lv_sub hl [2, 3, 1, 0] rfl)

set_option maxHeartbeats 4000000 in
set_option maxRecDepth 100000 in
theorem c_C_moveUses_0 (l : Launch) (D : va_G) (cI cC cZ cT : ClassId) (ad : Nat → Nat) (hI : GI 144 ad) (M : PM) (us : Nat → Nat) (hU1 : CU M us) (a d9 : Nat) (ha : a < 60) (hd9 : d9 < 60) (h0 : us a = 0) : MD l D cI cC cZ cT ad y_C_moveUses b_C_moveUses 3 (some .int) 0 0 [.ref (ad (0)), .int (nI (a)), .int (nI (d9))] M (fun v M' => v = some (.int (nI (0))) ∧ M = M') := by
  refine MC.of (by decide) (Nat.le_of_ble_eq_true rfl) ?_
  intro p e s m below meth c ls hx hb hr hml hown hg hlocks hK hN hP hS hl
  have hown : s.vm.findClass R_C = some m.cls := hown
  have hl : lv_has ls 3 [(0, .ref (ad (0))), (1, .int (nI (a))), (2, .int (nI (d9)))] := hl
  have hua := (hU1 a ha).1
  refine lv_aload_n hx hb d_C_moveUses_0 rfl (lv_at hl 0 rfl) ?_
  refine g_get (C := R_C) (T := T_C) (N := 15) (ci := 7) (v := .ref (ad (141))) hx hb hg i_C hown hK hP 0 (by decide) rfl rfl 9 (by decide) (hg _ k_137) rfl d_C_moveUses_1 ?_
  refine lv_iload_n hx hb d_C_moveUses_4 rfl (lv_at hl 1 rfl) ?_
  refine g_iald hx hb hK hP 141 0 (by decide) rfl rfl (by decide) (j := a) (by omega) d_C_moveUses_5 ?_
  refine n_top (y := (nI (us (a)))) ((hU1 (a) (by omega)).2) ?_
  refine n_ifn0 (a := us (a)) (tgt := 11) hx hb d_C_moveUses_6 (by decide) (by omega) (fun c_6 => ?_) (fun c_6 => ?_)
  · exact absurd c_6 (by omega)
  · refine n_const (k := 0) hx hb d_C_moveUses_9 (by decide) ?_
    exact r_i hx hb hr hlocks hP hS (⟨rfl, rfl⟩) d_C_moveUses_10

set_option maxHeartbeats 4000000 in
set_option maxRecDepth 100000 in
theorem c_C_moveUses_1 (l : Launch) (D : va_G) (cI cC cZ cT : ClassId) (ad : Nat → Nat) (hI : GI 144 ad) (M : PM) (us : Nat → Nat) (hU1 : CU M us) (a d9 : Nat) (ha : a < 60) (hd9 : d9 < 60) (h0 : us a ≠ 0) : MD l D cI cC cZ cT ad y_C_moveUses b_C_moveUses 3 (some .int) 0 0 [.ref (ad (0)), .int (nI (a)), .int (nI (d9))] M (fun v M' => v = some (.int (nI 1)) ∧ M' = pu (pu M 141 d9 (nI (us d9 + us a))) 141 a (nI 0)) := by
  refine MC.of (by decide) (Nat.le_of_ble_eq_true rfl) ?_
  intro p e s m below meth c ls hx hb hr hml hown hg hlocks hK hN hP hS hl
  have hown : s.vm.findClass R_C = some m.cls := hown
  have hl : lv_has ls 3 [(0, .ref (ad (0))), (1, .int (nI (a))), (2, .int (nI (d9)))] := hl
  have hua := (hU1 a ha).1
  refine lv_aload_n hx hb d_C_moveUses_0 rfl (lv_at hl 0 rfl) ?_
  refine g_get (C := R_C) (T := T_C) (N := 15) (ci := 7) (v := .ref (ad (141))) hx hb hg i_C hown hK hP 0 (by decide) rfl rfl 9 (by decide) (hg _ k_137) rfl d_C_moveUses_1 ?_
  refine lv_iload_n hx hb d_C_moveUses_4 rfl (lv_at hl 1 rfl) ?_
  refine g_iald hx hb hK hP 141 0 (by decide) rfl rfl (by decide) (j := a) (by omega) d_C_moveUses_5 ?_
  refine n_top (y := (nI (us (a)))) ((hU1 (a) (by omega)).2) ?_
  refine n_ifn0 (a := us (a)) (tgt := 11) hx hb d_C_moveUses_6 (by decide) (by omega) (fun c_6 => ?_) (fun c_6 => ?_)
  · refine lv_aload_n hx hb d_C_moveUses_11 rfl (lv_at hl 0 rfl) ?_
    refine g_get (C := R_C) (T := T_C) (N := 15) (ci := 7) (v := .ref (ad (141))) hx hb hg i_C hown hK hP 0 (by decide) rfl rfl 9 (by decide) (hg _ k_137) rfl d_C_moveUses_12 ?_
    refine lv_iload_n hx hb d_C_moveUses_15 rfl (lv_at hl 2 rfl) ?_
    refine lv_dup2_11 hx hb d_C_moveUses_16 rfl rfl ?_
    refine g_iald hx hb hK hP 141 0 (by decide) rfl rfl (by decide) (j := d9) (by omega) d_C_moveUses_17 ?_
    refine n_top (y := (nI (us (d9)))) ((hU1 (d9) (by omega)).2) ?_
    refine lv_aload_n hx hb d_C_moveUses_18 rfl (lv_at hl 0 rfl) ?_
    refine g_get (C := R_C) (T := T_C) (N := 15) (ci := 7) (v := .ref (ad (141))) hx hb hg i_C hown hK hP 0 (by decide) rfl rfl 9 (by decide) (hg _ k_137) rfl d_C_moveUses_19 ?_
    refine lv_iload_n hx hb d_C_moveUses_22 rfl (lv_at hl 1 rfl) ?_
    refine g_iald hx hb hK hP 141 0 (by decide) rfl rfl (by decide) (j := a) (by omega) d_C_moveUses_23 ?_
    refine n_top (y := (nI (us (a)))) ((hU1 (a) (by omega)).2) ?_
    refine n_iadd (a := us (d9)) (b := us (a)) hx hb d_C_moveUses_24 ?_
    refine g_iast hx hb hK hI (fun _ h => h) hP hS 141 0 (by decide) (fun _ => rfl) rfl (by decide) (j := d9) (by omega) (v := (nI ((us (d9)) + (us (a))))) d_C_moveUses_25 (fun H locs hP hS => ?_)
    obtain ⟨M_1, eM_1⟩ : ∃ z : PM, z = (pu M 141 (d9) ((nI ((us (d9)) + (us (a)))))) := ⟨_, rfl⟩
    rw [← eM_1] at hP
    refine lv_aload_n hx hb d_C_moveUses_26 rfl (lv_at hl 0 rfl) ?_
    refine g_get (C := R_C) (T := T_C) (N := 15) (ci := 7) (v := .ref (ad (141))) hx hb hg i_C hown hK hP 0 (by decide) rfl rfl 9 (by decide) (hg _ k_137) rfl d_C_moveUses_27 ?_
    refine lv_iload_n hx hb d_C_moveUses_30 rfl (lv_at hl 1 rfl) ?_
    refine n_const (k := 0) hx hb d_C_moveUses_31 (by decide) ?_
    refine g_iast hx hb hK hI (fun _ h => h) hP hS 141 0 (by decide) (fun _ => rfl) rfl (by decide) (j := a) (by omega) (v := (nI (0))) d_C_moveUses_32 (fun H locs hP hS => ?_)
    obtain ⟨M_2, eM_2⟩ : ∃ z : PM, z = (pu M_1 141 (a) ((nI (0)))) := ⟨_, rfl⟩
    rw [← eM_2] at hP
    refine n_const (k := 1) hx hb d_C_moveUses_33 (by decide) ?_
    exact r_i hx hb hr hlocks hP hS (⟨rfl, by rw [eM_2, eM_1]⟩) d_C_moveUses_34
  · exact absurd c_6 (by omega)

set_option maxHeartbeats 4000000 in
set_option maxRecDepth 100000 in
theorem c_C_rnc_4 (l : Launch) (D : va_G) (cI cC cZ cT : ClassId) (ad : Nat → Nat) (hI : GI 144 ad) (M : PM) (n : Nat) (hn60 : n ≤ 60) (rc : Nat) (rw_ : Nat → Nat) (hW7 : CW M n rc rw_) (st : Nat → Option Nat) (hS6 : CSt M n st) (rk : Nat → Nat) (hRk : Rk n st rk) (hr60 : ∀ k, k < n → rk k < 60) (a d9 : Nat) (ha : a < n) (hd9 : d9 < n) (x9 y9 : Nat) (hox : Fst (fun k => rw_ (3 * k) = a) rc (some x9)) (hoy : Fst (fun k => rw_ (3 * k) = d9) rc (some y9)) : MD l D cI cC cZ cT ad y_C_renameClashes b_C_renameClashes 5 (some .boolean) 2 44 [.ref (ad (0)), .int (nI (a)), .int (nI (d9))] M (fun v M' => v = some (.int (bI true)) ∧ M' = pu (pu (pu M 0 12 (nI 4)) 0 13 (nI x9)) 0 14 (nI y9)) := by
  refine MC.of (by decide) (Nat.le_of_ble_eq_true rfl) ?_
  intro p e s m below meth c ls hx hb hr hml hown hg hlocks hK hN hP hS hl
  have hown : s.vm.findClass R_C = some m.cls := hown
  have hl : lv_has ls 5 [(0, .ref (ad (0))), (1, .int (nI (a))), (2, .int (nI (d9)))] := hl
  have hrc := hW7.1
  have hsn := hS6.2
  have hx9 := hox.1
  have hy9 := hoy.1
  refine lv_aload_n hx hb d_C_renameClashes_0 rfl (lv_at hl 0 rfl) ?_
  refine g_get (C := R_C) (T := T_C) (N := 15) (ci := 7) (v := .ref (ad (132))) hx hb hg i_C hown hK hP 0 (by decide) rfl rfl 5 (by decide) (hg _ k_133) rfl d_C_renameClashes_1 ?_
  refine lv_iload_n hx hb d_C_renameClashes_4 rfl (lv_at hl 1 rfl) ?_
  refine c_V (own := R_C) (index := 194) (As := [.int (nI (a))]) (rest := []) hx hb hml hown hg hK NXc.same hN.warm (fun _ h => h) hP hS 132 (c_W_rowOfTerm l D cI cC cZ cT ad hI M n rc hn60 rw_ hW7 (a) (by omega) (some x9) hox) (by decide) (ci := 2) rfl rfl k_527 k_528 k_529 k_5 k_530 1 rfl (by decide +kernel) (by decide) rfl hl.1 (Nat.le_of_ble_eq_true rfl) d_C_renameClashes_5 (fun v M' H locs hq hP _ _ hS => ?_)
  obtain ⟨rfl, rfl⟩ := hq
  refine W.eq (g2 := F0 m 8 ls [.int (nI (x9))]) rfl ?_
  refine lv_istore_n (lv' := [(3, .int (nI (x9))), (0, .ref (ad (0))), (1, .int (nI (a))), (2, .int (nI (d9)))]) hx hb d_C_renameClashes_8 rfl hl (by decide) rfl (fun ls hl => ?_)
  refine lv_aload_n hx hb d_C_renameClashes_9 rfl (lv_at hl 1 rfl) ?_
  refine g_get (C := R_C) (T := T_C) (N := 15) (ci := 7) (v := .ref (ad (132))) hx hb hg i_C hown hK hP 0 (by decide) rfl rfl 5 (by decide) (hg _ k_133) rfl d_C_renameClashes_10 ?_
  refine lv_iload_n hx hb d_C_renameClashes_13 rfl (lv_at hl 3 rfl) ?_
  refine c_V (own := R_C) (index := 194) (As := [.int (nI (d9))]) (rest := []) hx hb hml hown hg hK NXc.same hN.warm (fun _ h => h) hP hS 132 (c_W_rowOfTerm l D cI cC cZ cT ad hI M n rc hn60 rw_ hW7 (d9) (by omega) (some y9) hoy) (by decide) (ci := 2) rfl rfl k_527 k_528 k_529 k_5 k_530 1 rfl (by decide +kernel) (by decide) rfl hl.1 (Nat.le_of_ble_eq_true rfl) d_C_renameClashes_14 (fun v M' H locs hq hP _ _ hS => ?_)
  obtain ⟨rfl, rfl⟩ := hq
  refine W.eq (g2 := F0 m 17 ls [.int (nI (y9))]) rfl ?_
  refine lv_istore (lv' := [(4, .int (nI (y9))), (3, .int (nI (x9))), (0, .ref (ad (0))), (1, .int (nI (a))), (2, .int (nI (d9)))]) hx hb d_C_renameClashes_17 hl (by decide) rfl (fun ls hl => ?_)
  refine lv_iload_n hx hb d_C_renameClashes_19 rfl (lv_at hl 1 rfl) ?_
  refine lv_iconst (v := -1) hx hb d_C_renameClashes_20 (by decide) ?_
  refine lv_icmp_eq (tgt := 40) hx hb d_C_renameClashes_21 (by decide) (fun c_21 => ?_) (fun c_21 => ?_)
  · exact absurd c_21 (nI_m1 (by omega))
  · refine lv_iload hx hb d_C_renameClashes_24 (lv_at hl 0 rfl) ?_
    refine lv_iconst (v := -1) hx hb d_C_renameClashes_26 (by decide) ?_
    refine lv_icmp_eq (tgt := 40) hx hb d_C_renameClashes_27 (by decide) (fun c_27 => ?_) (fun c_27 => ?_)
    · exact absurd c_27 (nI_m1 (by omega))
    · refine lv_aload_n hx hb d_C_renameClashes_30 rfl (lv_at hl 2 rfl) ?_
      refine n_const (k := 4) hx hb d_C_renameClashes_31 (by decide) ?_
      refine lv_iload_n hx hb d_C_renameClashes_32 rfl (lv_at hl 1 rfl) ?_
      refine lv_iload hx hb d_C_renameClashes_33 (lv_at hl 0 rfl) ?_
      refine c_V (own := R_C) (index := 147) (As := [.int (nI (4)), .int (nI (x9)), .int (nI (y9))]) (rest := []) hx hb hml hown hg hK NXc.same hN.warm (fun _ h => h) hP hS 0 (c_C_keepClash l D cI cC cZ cT ad hI M ((nI (4))) ((nI (x9))) ((nI (y9)))) (by decide) (ci := 7) rfl rfl k_436 k_438 k_p6 k_1 k_439 3 rfl (by decide +kernel) (by decide) rfl hl.1 (Nat.le_of_ble_eq_true rfl) d_C_renameClashes_35 (fun v M_1 H locs hq hP _ _ hS => ?_)
      obtain ⟨rfl, eM_1⟩ := hq
      refine W.eq (g2 := F0 m 38 ls []) rfl ?_
      refine n_const (k := 1) hx hb d_C_renameClashes_38 (by decide) ?_
      exact r_z hx hb hr hlocks (rfl) hP hS (⟨rfl, eM_1⟩) d_C_renameClashes_39

set_option maxHeartbeats 4000000 in
set_option maxRecDepth 100000 in
theorem c_C_rnc_5 (l : Launch) (D : va_G) (cI cC cZ cT : ClassId) (ad : Nat → Nat) (hI : GI 144 ad) (M : PM) (n : Nat) (hn60 : n ≤ 60) (rc : Nat) (rw_ : Nat → Nat) (hW7 : CW M n rc rw_) (st : Nat → Option Nat) (hS6 : CSt M n st) (rk : Nat → Nat) (hRk : Rk n st rk) (hr60 : ∀ k, k < n → rk k < 60) (a d9 : Nat) (ha : a < n) (hd9 : d9 < n) (ox oy : Option Nat) (hox : Fst (fun k => rw_ (3 * k) = a) rc ox) (hoy : Fst (fun k => rw_ (3 * k) = d9) rc oy) (hno : ox = none ∨ oy = none) (u9 v9 : Nat) (hu9 : st a = some u9) (hv9 : st d9 = some v9) : MD l D cI cC cZ cT ad y_C_renameClashes b_C_renameClashes 5 (some .boolean) 2 44 [.ref (ad (0)), .int (nI (a)), .int (nI (d9))] M (fun v M' => v = some (.int (bI true)) ∧ M' = pu (pu (pu M 0 12 (nI 5)) 0 13 (nI u9)) 0 14 (nI v9)) := by
  refine MC.of (by decide) (Nat.le_of_ble_eq_true rfl) ?_
  intro p e s m below meth c ls hx hb hr hml hown hg hlocks hK hN hP hS hl
  have hown : s.vm.findClass R_C = some m.cls := hown
  have hl : lv_has ls 5 [(0, .ref (ad (0))), (1, .int (nI (a))), (2, .int (nI (d9)))] := hl
  have hrc := hW7.1
  have hsn := hS6.2
  refine lv_aload_n hx hb d_C_renameClashes_0 rfl (lv_at hl 0 rfl) ?_
  refine g_get (C := R_C) (T := T_C) (N := 15) (ci := 7) (v := .ref (ad (132))) hx hb hg i_C hown hK hP 0 (by decide) rfl rfl 5 (by decide) (hg _ k_133) rfl d_C_renameClashes_1 ?_
  refine lv_iload_n hx hb d_C_renameClashes_4 rfl (lv_at hl 1 rfl) ?_
  refine c_V (own := R_C) (index := 194) (As := [.int (nI (a))]) (rest := []) hx hb hml hown hg hK NXc.same hN.warm (fun _ h => h) hP hS 132 (c_W_rowOfTerm l D cI cC cZ cT ad hI M n rc hn60 rw_ hW7 (a) (by omega) (ox) hox) (by decide) (ci := 2) rfl rfl k_527 k_528 k_529 k_5 k_530 1 rfl (by decide +kernel) (by decide) rfl hl.1 (Nat.le_of_ble_eq_true rfl) d_C_renameClashes_5 (fun v M' H locs hq hP _ _ hS => ?_)
  obtain ⟨rfl, rfl⟩ := hq
  refine W.eq (g2 := F0 m 8 ls [.int (oI (ox))]) rfl ?_
  refine lv_istore_n (lv' := [(3, .int (oI (ox))), (0, .ref (ad (0))), (1, .int (nI (a))), (2, .int (nI (d9)))]) hx hb d_C_renameClashes_8 rfl hl (by decide) rfl (fun ls hl => ?_)
  refine lv_aload_n hx hb d_C_renameClashes_9 rfl (lv_at hl 1 rfl) ?_
  refine g_get (C := R_C) (T := T_C) (N := 15) (ci := 7) (v := .ref (ad (132))) hx hb hg i_C hown hK hP 0 (by decide) rfl rfl 5 (by decide) (hg _ k_133) rfl d_C_renameClashes_10 ?_
  refine lv_iload_n hx hb d_C_renameClashes_13 rfl (lv_at hl 3 rfl) ?_
  refine c_V (own := R_C) (index := 194) (As := [.int (nI (d9))]) (rest := []) hx hb hml hown hg hK NXc.same hN.warm (fun _ h => h) hP hS 132 (c_W_rowOfTerm l D cI cC cZ cT ad hI M n rc hn60 rw_ hW7 (d9) (by omega) (oy) hoy) (by decide) (ci := 2) rfl rfl k_527 k_528 k_529 k_5 k_530 1 rfl (by decide +kernel) (by decide) rfl hl.1 (Nat.le_of_ble_eq_true rfl) d_C_renameClashes_14 (fun v M' H locs hq hP _ _ hS => ?_)
  obtain ⟨rfl, rfl⟩ := hq
  refine W.eq (g2 := F0 m 17 ls [.int (oI (oy))]) rfl ?_
  refine lv_istore (lv' := [(4, .int (oI (oy))), (3, .int (oI (ox))), (0, .ref (ad (0))), (1, .int (nI (a))), (2, .int (nI (d9)))]) hx hb d_C_renameClashes_17 hl (by decide) rfl (fun ls hl => ?_)
  refine lv_iload_n hx hb d_C_renameClashes_19 rfl (lv_at hl 1 rfl) ?_
  refine lv_iconst (v := -1) hx hb d_C_renameClashes_20 (by decide) ?_
  refine oo_eq (a := ox) (b := none) (tgt := 40) hx hb d_C_renameClashes_21 (by decide) (fun q e => by have := hox.lt q e; omega) (ob_none) (fun c_21 => ?_) (fun c_21 => ?_)
  · refine lv_aload_n hx hb d_C_renameClashes_40 rfl (lv_at hl 2 rfl) ?_
    refine g_get (C := R_C) (T := T_C) (N := 15) (ci := 7) (v := .ref (ad (134))) hx hb hg i_C hown hK hP 0 (by decide) rfl rfl 6 (by decide) (hg _ k_134) rfl d_C_renameClashes_41 ?_
    refine lv_iload_n hx hb d_C_renameClashes_44 rfl (lv_at hl 3 rfl) ?_
    refine c_V (own := R_C) (index := 347) (As := [.int (nI (a))]) (rest := []) hx hb hml hown hg hK NXc.same hN.warm (fun _ h => h) hP hS 134 (c_G_next l D cI cC cZ cT ad hI M n hn60 st hS6 (a) (by omega)) (by decide) (ci := 4) rfl rfl k_708 k_709 k_710 k_6 k_711 1 rfl (by decide +kernel) (by decide) rfl hl.1 (Nat.le_of_ble_eq_true rfl) d_C_renameClashes_45 (fun v M' H locs hq hP _ _ hS => ?_)
    obtain ⟨rfl, rfl⟩ := hq
    refine W.eq (g2 := F0 m 48 ls [.int (oI (st (a)))]) rfl ?_
    refine lv_iconst (v := -1) hx hb d_C_renameClashes_48 (by decide) ?_
    refine oo_eq (a := st (a)) (b := none) (tgt := 87) hx hb d_C_renameClashes_49 (by decide) (fun q e => by have := hsn _ q e; omega) (ob_none) (fun c_49 => ?_) (fun c_49 => ?_)
    · exact absurd c_49 (by rw [hu9]; simp)
    · refine lv_aload_n hx hb d_C_renameClashes_52 rfl (lv_at hl 2 rfl) ?_
      refine g_get (C := R_C) (T := T_C) (N := 15) (ci := 7) (v := .ref (ad (134))) hx hb hg i_C hown hK hP 0 (by decide) rfl rfl 6 (by decide) (hg _ k_134) rfl d_C_renameClashes_53 ?_
      refine lv_iload_n hx hb d_C_renameClashes_56 rfl (lv_at hl 4 rfl) ?_
      refine c_V (own := R_C) (index := 347) (As := [.int (nI (d9))]) (rest := []) hx hb hml hown hg hK NXc.same hN.warm (fun _ h => h) hP hS 134 (c_G_next l D cI cC cZ cT ad hI M n hn60 st hS6 (d9) (by omega)) (by decide) (ci := 4) rfl rfl k_708 k_709 k_710 k_6 k_711 1 rfl (by decide +kernel) (by decide) rfl hl.1 (Nat.le_of_ble_eq_true rfl) d_C_renameClashes_57 (fun v M' H locs hq hP _ _ hS => ?_)
      obtain ⟨rfl, rfl⟩ := hq
      refine W.eq (g2 := F0 m 60 ls [.int (oI (st (d9)))]) rfl ?_
      refine lv_iconst (v := -1) hx hb d_C_renameClashes_60 (by decide) ?_
      refine oo_eq (a := st (d9)) (b := none) (tgt := 87) hx hb d_C_renameClashes_61 (by decide) (fun q e => by have := hsn _ q e; omega) (ob_none) (fun c_61 => ?_) (fun c_61 => ?_)
      · exact absurd c_61 (by rw [hv9]; simp)
      · refine lv_aload_n hx hb d_C_renameClashes_64 rfl (lv_at hl 2 rfl) ?_
        refine n_const (k := 5) hx hb d_C_renameClashes_65 (by decide) ?_
        refine lv_aload_n hx hb d_C_renameClashes_66 rfl (lv_at hl 2 rfl) ?_
        refine g_get (C := R_C) (T := T_C) (N := 15) (ci := 7) (v := .ref (ad (134))) hx hb hg i_C hown hK hP 0 (by decide) rfl rfl 6 (by decide) (hg _ k_134) rfl d_C_renameClashes_67 ?_
        refine lv_iload_n hx hb d_C_renameClashes_70 rfl (lv_at hl 3 rfl) ?_
        refine c_V (own := R_C) (index := 347) (As := [.int (nI (a))]) (rest := [.int (nI (5)), .ref (ad (0))]) hx hb hml hown hg hK NXc.same hN.warm (fun _ h => h) hP hS 134 (c_G_next l D cI cC cZ cT ad hI M n hn60 st hS6 (a) (by omega)) (by decide) (ci := 4) rfl rfl k_708 k_709 k_710 k_6 k_711 1 rfl (by decide +kernel) (by decide) rfl hl.1 (Nat.le_of_ble_eq_true rfl) d_C_renameClashes_71 (fun v M' H locs hq hP _ _ hS => ?_)
        obtain ⟨rfl, rfl⟩ := hq
        refine W.eq (g2 := F0 m 74 ls [.int (oI (st (a))), .int (nI (5)), .ref (ad (0))]) rfl ?_
        refine lv_aload_n hx hb d_C_renameClashes_74 rfl (lv_at hl 2 rfl) ?_
        refine g_get (C := R_C) (T := T_C) (N := 15) (ci := 7) (v := .ref (ad (134))) hx hb hg i_C hown hK hP 0 (by decide) rfl rfl 6 (by decide) (hg _ k_134) rfl d_C_renameClashes_75 ?_
        refine lv_iload_n hx hb d_C_renameClashes_78 rfl (lv_at hl 4 rfl) ?_
        refine c_V (own := R_C) (index := 347) (As := [.int (nI (d9))]) (rest := [.int (oI (st (a))), .int (nI (5)), .ref (ad (0))]) hx hb hml hown hg hK NXc.same hN.warm (fun _ h => h) hP hS 134 (c_G_next l D cI cC cZ cT ad hI M n hn60 st hS6 (d9) (by omega)) (by decide) (ci := 4) rfl rfl k_708 k_709 k_710 k_6 k_711 1 rfl (by decide +kernel) (by decide) rfl hl.1 (Nat.le_of_ble_eq_true rfl) d_C_renameClashes_79 (fun v M' H locs hq hP _ _ hS => ?_)
        obtain ⟨rfl, rfl⟩ := hq
        refine W.eq (g2 := F0 m 82 ls [.int (oI (st (d9))), .int (oI (st (a))), .int (nI (5)), .ref (ad (0))]) rfl ?_
        refine c_V (own := R_C) (index := 147) (As := [.int (nI (5)), .int (oI (st (a))), .int (oI (st (d9)))]) (rest := []) hx hb hml hown hg hK NXc.same hN.warm (fun _ h => h) hP hS 0 (c_C_keepClash l D cI cC cZ cT ad hI M ((nI (5))) ((oI (st (a)))) ((oI (st (d9))))) (by decide) (ci := 7) rfl rfl k_436 k_438 k_p6 k_1 k_439 3 rfl (by decide +kernel) (by decide) rfl hl.1 (Nat.le_of_ble_eq_true rfl) d_C_renameClashes_82 (fun v M_1 H locs hq hP _ _ hS => ?_)
        obtain ⟨rfl, eM_1⟩ := hq
        refine W.eq (g2 := F0 m 85 ls []) rfl ?_
        refine n_const (k := 1) hx hb d_C_renameClashes_85 (by decide) ?_
        exact r_z hx hb hr hlocks (rfl) hP hS (⟨rfl, by rw [eM_1, hu9, hv9]; rfl⟩) d_C_renameClashes_86
  · refine lv_iload hx hb d_C_renameClashes_24 (lv_at hl 0 rfl) ?_
    refine lv_iconst (v := -1) hx hb d_C_renameClashes_26 (by decide) ?_
    refine oo_eq (a := oy) (b := none) (tgt := 40) hx hb d_C_renameClashes_27 (by decide) (fun q e => by have := hoy.lt q e; omega) (ob_none) (fun c_27 => ?_) (fun c_27 => ?_)
    · refine lv_aload_n hx hb d_C_renameClashes_40 rfl (lv_at hl 2 rfl) ?_
      refine g_get (C := R_C) (T := T_C) (N := 15) (ci := 7) (v := .ref (ad (134))) hx hb hg i_C hown hK hP 0 (by decide) rfl rfl 6 (by decide) (hg _ k_134) rfl d_C_renameClashes_41 ?_
      refine lv_iload_n hx hb d_C_renameClashes_44 rfl (lv_at hl 3 rfl) ?_
      refine c_V (own := R_C) (index := 347) (As := [.int (nI (a))]) (rest := []) hx hb hml hown hg hK NXc.same hN.warm (fun _ h => h) hP hS 134 (c_G_next l D cI cC cZ cT ad hI M n hn60 st hS6 (a) (by omega)) (by decide) (ci := 4) rfl rfl k_708 k_709 k_710 k_6 k_711 1 rfl (by decide +kernel) (by decide) rfl hl.1 (Nat.le_of_ble_eq_true rfl) d_C_renameClashes_45 (fun v M' H locs hq hP _ _ hS => ?_)
      obtain ⟨rfl, rfl⟩ := hq
      refine W.eq (g2 := F0 m 48 ls [.int (oI (st (a)))]) rfl ?_
      refine lv_iconst (v := -1) hx hb d_C_renameClashes_48 (by decide) ?_
      refine oo_eq (a := st (a)) (b := none) (tgt := 87) hx hb d_C_renameClashes_49 (by decide) (fun q e => by have := hsn _ q e; omega) (ob_none) (fun c_49 => ?_) (fun c_49 => ?_)
      · exact absurd c_49 (by rw [hu9]; simp)
      · refine lv_aload_n hx hb d_C_renameClashes_52 rfl (lv_at hl 2 rfl) ?_
        refine g_get (C := R_C) (T := T_C) (N := 15) (ci := 7) (v := .ref (ad (134))) hx hb hg i_C hown hK hP 0 (by decide) rfl rfl 6 (by decide) (hg _ k_134) rfl d_C_renameClashes_53 ?_
        refine lv_iload_n hx hb d_C_renameClashes_56 rfl (lv_at hl 4 rfl) ?_
        refine c_V (own := R_C) (index := 347) (As := [.int (nI (d9))]) (rest := []) hx hb hml hown hg hK NXc.same hN.warm (fun _ h => h) hP hS 134 (c_G_next l D cI cC cZ cT ad hI M n hn60 st hS6 (d9) (by omega)) (by decide) (ci := 4) rfl rfl k_708 k_709 k_710 k_6 k_711 1 rfl (by decide +kernel) (by decide) rfl hl.1 (Nat.le_of_ble_eq_true rfl) d_C_renameClashes_57 (fun v M' H locs hq hP _ _ hS => ?_)
        obtain ⟨rfl, rfl⟩ := hq
        refine W.eq (g2 := F0 m 60 ls [.int (oI (st (d9)))]) rfl ?_
        refine lv_iconst (v := -1) hx hb d_C_renameClashes_60 (by decide) ?_
        refine oo_eq (a := st (d9)) (b := none) (tgt := 87) hx hb d_C_renameClashes_61 (by decide) (fun q e => by have := hsn _ q e; omega) (ob_none) (fun c_61 => ?_) (fun c_61 => ?_)
        · exact absurd c_61 (by rw [hv9]; simp)
        · refine lv_aload_n hx hb d_C_renameClashes_64 rfl (lv_at hl 2 rfl) ?_
          refine n_const (k := 5) hx hb d_C_renameClashes_65 (by decide) ?_
          refine lv_aload_n hx hb d_C_renameClashes_66 rfl (lv_at hl 2 rfl) ?_
          refine g_get (C := R_C) (T := T_C) (N := 15) (ci := 7) (v := .ref (ad (134))) hx hb hg i_C hown hK hP 0 (by decide) rfl rfl 6 (by decide) (hg _ k_134) rfl d_C_renameClashes_67 ?_
          refine lv_iload_n hx hb d_C_renameClashes_70 rfl (lv_at hl 3 rfl) ?_
          refine c_V (own := R_C) (index := 347) (As := [.int (nI (a))]) (rest := [.int (nI (5)), .ref (ad (0))]) hx hb hml hown hg hK NXc.same hN.warm (fun _ h => h) hP hS 134 (c_G_next l D cI cC cZ cT ad hI M n hn60 st hS6 (a) (by omega)) (by decide) (ci := 4) rfl rfl k_708 k_709 k_710 k_6 k_711 1 rfl (by decide +kernel) (by decide) rfl hl.1 (Nat.le_of_ble_eq_true rfl) d_C_renameClashes_71 (fun v M' H locs hq hP _ _ hS => ?_)
          obtain ⟨rfl, rfl⟩ := hq
          refine W.eq (g2 := F0 m 74 ls [.int (oI (st (a))), .int (nI (5)), .ref (ad (0))]) rfl ?_
          refine lv_aload_n hx hb d_C_renameClashes_74 rfl (lv_at hl 2 rfl) ?_
          refine g_get (C := R_C) (T := T_C) (N := 15) (ci := 7) (v := .ref (ad (134))) hx hb hg i_C hown hK hP 0 (by decide) rfl rfl 6 (by decide) (hg _ k_134) rfl d_C_renameClashes_75 ?_
          refine lv_iload_n hx hb d_C_renameClashes_78 rfl (lv_at hl 4 rfl) ?_
          refine c_V (own := R_C) (index := 347) (As := [.int (nI (d9))]) (rest := [.int (oI (st (a))), .int (nI (5)), .ref (ad (0))]) hx hb hml hown hg hK NXc.same hN.warm (fun _ h => h) hP hS 134 (c_G_next l D cI cC cZ cT ad hI M n hn60 st hS6 (d9) (by omega)) (by decide) (ci := 4) rfl rfl k_708 k_709 k_710 k_6 k_711 1 rfl (by decide +kernel) (by decide) rfl hl.1 (Nat.le_of_ble_eq_true rfl) d_C_renameClashes_79 (fun v M' H locs hq hP _ _ hS => ?_)
          obtain ⟨rfl, rfl⟩ := hq
          refine W.eq (g2 := F0 m 82 ls [.int (oI (st (d9))), .int (oI (st (a))), .int (nI (5)), .ref (ad (0))]) rfl ?_
          refine c_V (own := R_C) (index := 147) (As := [.int (nI (5)), .int (oI (st (a))), .int (oI (st (d9)))]) (rest := []) hx hb hml hown hg hK NXc.same hN.warm (fun _ h => h) hP hS 0 (c_C_keepClash l D cI cC cZ cT ad hI M ((nI (5))) ((oI (st (a)))) ((oI (st (d9))))) (by decide) (ci := 7) rfl rfl k_436 k_438 k_p6 k_1 k_439 3 rfl (by decide +kernel) (by decide) rfl hl.1 (Nat.le_of_ble_eq_true rfl) d_C_renameClashes_82 (fun v M_2 H locs hq hP _ _ hS => ?_)
          obtain ⟨rfl, eM_2⟩ := hq
          refine W.eq (g2 := F0 m 85 ls []) rfl ?_
          refine n_const (k := 1) hx hb d_C_renameClashes_85 (by decide) ?_
          exact r_z hx hb hr hlocks (rfl) hP hS (⟨rfl, by rw [eM_2, hu9, hv9]; rfl⟩) d_C_renameClashes_86
    · exact absurd hno (fun h => by rcases h with h | h; exact c_21 h; exact c_27 h)

set_option maxHeartbeats 4000000 in
set_option maxRecDepth 100000 in
theorem c_C_rnc_3 (l : Launch) (D : va_G) (cI cC cZ cT : ClassId) (ad : Nat → Nat) (hI : GI 144 ad) (M : PM) (n : Nat) (hn60 : n ≤ 60) (rc : Nat) (rw_ : Nat → Nat) (hW7 : CW M n rc rw_) (st : Nat → Option Nat) (hS6 : CSt M n st) (rk : Nat → Nat) (hRk : Rk n st rk) (hr60 : ∀ k, k < n → rk k < 60) (a d9 : Nat) (ha : a < n) (hd9 : d9 < n) (ox oy : Option Nat) (hox : Fst (fun k => rw_ (3 * k) = a) rc ox) (hoy : Fst (fun k => rw_ (3 * k) = d9) rc oy) (hno : ox = none ∨ oy = none) (hno5 : st a = none ∨ st d9 = none) (hL : Lds st (st a) d9 ∨ Lds st (st d9) a) : MD l D cI cC cZ cT ad y_C_renameClashes b_C_renameClashes 5 (some .boolean) 2 44 [.ref (ad (0)), .int (nI (a)), .int (nI (d9))] M (fun v M' => v = some (.int (bI true)) ∧ M' = pu (pu (pu M 0 12 (nI 3)) 0 13 (nI a)) 0 14 (nI d9)) := by
  refine MC.of (by decide) (Nat.le_of_ble_eq_true rfl) ?_
  intro p e s m below meth c ls hx hb hr hml hown hg hlocks hK hN hP hS hl
  have hown : s.vm.findClass R_C = some m.cls := hown
  have hl : lv_has ls 5 [(0, .ref (ad (0))), (1, .int (nI (a))), (2, .int (nI (d9)))] := hl
  have hrc := hW7.1
  have hsn := hS6.2
  obtain ⟨t1, ht1⟩ := bex (Lds st (st a) d9)
  obtain ⟨t2, ht2⟩ := bex (Lds st (st d9) a)
  refine lv_aload_n hx hb d_C_renameClashes_0 rfl (lv_at hl 0 rfl) ?_
  refine g_get (C := R_C) (T := T_C) (N := 15) (ci := 7) (v := .ref (ad (132))) hx hb hg i_C hown hK hP 0 (by decide) rfl rfl 5 (by decide) (hg _ k_133) rfl d_C_renameClashes_1 ?_
  refine lv_iload_n hx hb d_C_renameClashes_4 rfl (lv_at hl 1 rfl) ?_
  refine c_V (own := R_C) (index := 194) (As := [.int (nI (a))]) (rest := []) hx hb hml hown hg hK NXc.same hN.warm (fun _ h => h) hP hS 132 (c_W_rowOfTerm l D cI cC cZ cT ad hI M n rc hn60 rw_ hW7 (a) (by omega) (ox) hox) (by decide) (ci := 2) rfl rfl k_527 k_528 k_529 k_5 k_530 1 rfl (by decide +kernel) (by decide) rfl hl.1 (Nat.le_of_ble_eq_true rfl) d_C_renameClashes_5 (fun v M' H locs hq hP _ _ hS => ?_)
  obtain ⟨rfl, rfl⟩ := hq
  refine W.eq (g2 := F0 m 8 ls [.int (oI (ox))]) rfl ?_
  refine lv_istore_n (lv' := [(3, .int (oI (ox))), (0, .ref (ad (0))), (1, .int (nI (a))), (2, .int (nI (d9)))]) hx hb d_C_renameClashes_8 rfl hl (by decide) rfl (fun ls hl => ?_)
  refine lv_aload_n hx hb d_C_renameClashes_9 rfl (lv_at hl 1 rfl) ?_
  refine g_get (C := R_C) (T := T_C) (N := 15) (ci := 7) (v := .ref (ad (132))) hx hb hg i_C hown hK hP 0 (by decide) rfl rfl 5 (by decide) (hg _ k_133) rfl d_C_renameClashes_10 ?_
  refine lv_iload_n hx hb d_C_renameClashes_13 rfl (lv_at hl 3 rfl) ?_
  refine c_V (own := R_C) (index := 194) (As := [.int (nI (d9))]) (rest := []) hx hb hml hown hg hK NXc.same hN.warm (fun _ h => h) hP hS 132 (c_W_rowOfTerm l D cI cC cZ cT ad hI M n rc hn60 rw_ hW7 (d9) (by omega) (oy) hoy) (by decide) (ci := 2) rfl rfl k_527 k_528 k_529 k_5 k_530 1 rfl (by decide +kernel) (by decide) rfl hl.1 (Nat.le_of_ble_eq_true rfl) d_C_renameClashes_14 (fun v M' H locs hq hP _ _ hS => ?_)
  obtain ⟨rfl, rfl⟩ := hq
  refine W.eq (g2 := F0 m 17 ls [.int (oI (oy))]) rfl ?_
  refine lv_istore (lv' := [(4, .int (oI (oy))), (3, .int (oI (ox))), (0, .ref (ad (0))), (1, .int (nI (a))), (2, .int (nI (d9)))]) hx hb d_C_renameClashes_17 hl (by decide) rfl (fun ls hl => ?_)
  refine lv_iload_n hx hb d_C_renameClashes_19 rfl (lv_at hl 1 rfl) ?_
  refine lv_iconst (v := -1) hx hb d_C_renameClashes_20 (by decide) ?_
  refine oo_eq (a := ox) (b := none) (tgt := 40) hx hb d_C_renameClashes_21 (by decide) (fun q e => by have := hox.lt q e; omega) (ob_none) (fun c_21 => ?_) (fun c_21 => ?_)
  · refine lv_aload_n hx hb d_C_renameClashes_40 rfl (lv_at hl 2 rfl) ?_
    refine g_get (C := R_C) (T := T_C) (N := 15) (ci := 7) (v := .ref (ad (134))) hx hb hg i_C hown hK hP 0 (by decide) rfl rfl 6 (by decide) (hg _ k_134) rfl d_C_renameClashes_41 ?_
    refine lv_iload_n hx hb d_C_renameClashes_44 rfl (lv_at hl 3 rfl) ?_
    refine c_V (own := R_C) (index := 347) (As := [.int (nI (a))]) (rest := []) hx hb hml hown hg hK NXc.same hN.warm (fun _ h => h) hP hS 134 (c_G_next l D cI cC cZ cT ad hI M n hn60 st hS6 (a) (by omega)) (by decide) (ci := 4) rfl rfl k_708 k_709 k_710 k_6 k_711 1 rfl (by decide +kernel) (by decide) rfl hl.1 (Nat.le_of_ble_eq_true rfl) d_C_renameClashes_45 (fun v M' H locs hq hP _ _ hS => ?_)
    obtain ⟨rfl, rfl⟩ := hq
    refine W.eq (g2 := F0 m 48 ls [.int (oI (st (a)))]) rfl ?_
    refine lv_iconst (v := -1) hx hb d_C_renameClashes_48 (by decide) ?_
    refine oo_eq (a := st (a)) (b := none) (tgt := 87) hx hb d_C_renameClashes_49 (by decide) (fun q e => by have := hsn _ q e; omega) (ob_none) (fun c_49 => ?_) (fun c_49 => ?_)
    · refine lv_aload_n hx hb d_C_renameClashes_87 rfl (lv_at hl 2 rfl) ?_
      refine g_get (C := R_C) (T := T_C) (N := 15) (ci := 7) (v := .ref (ad (134))) hx hb hg i_C hown hK hP 0 (by decide) rfl rfl 6 (by decide) (hg _ k_134) rfl d_C_renameClashes_88 ?_
      refine lv_iload_n hx hb d_C_renameClashes_91 rfl (lv_at hl 3 rfl) ?_
      refine lv_iload_n hx hb d_C_renameClashes_92 rfl (lv_at hl 4 rfl) ?_
      refine c_V (own := R_C) (index := 247) (As := [.int (nI (a)), .int (nI (d9))]) (rest := []) hx hb hml hown hg hK NXc.same hN.warm (fun _ h => h) hP hS 134 (c_G_leads l D cI cC cZ cT ad hI M n hn60 st hS6 rk hRk hr60 (a) (d9) (by omega) (by omega) t1 ht1) (by decide) (ci := 4) rfl rfl k_657 k_658 k_659 k_6 k_660 2 rfl (by decide +kernel) (by decide) rfl hl.1 (Nat.le_of_ble_eq_true rfl) d_C_renameClashes_93 (fun v M' H locs hq hP _ _ hS => ?_)
      obtain ⟨rfl, rfl⟩ := hq
      refine W.eq (g2 := F0 m 96 ls [.int (bI (t1))]) rfl ?_
      refine z_ne (t := t1) (tgt := 111) hx hb d_C_renameClashes_96 (by decide) (fun c_96 => ?_) (fun c_96 => ?_)
      · refine lv_aload_n hx hb d_C_renameClashes_111 rfl (lv_at hl 2 rfl) ?_
        refine n_const (k := 3) hx hb d_C_renameClashes_112 (by decide) ?_
        refine lv_iload_n hx hb d_C_renameClashes_113 rfl (lv_at hl 3 rfl) ?_
        refine lv_iload_n hx hb d_C_renameClashes_114 rfl (lv_at hl 4 rfl) ?_
        refine c_V (own := R_C) (index := 147) (As := [.int (nI (3)), .int (nI (a)), .int (nI (d9))]) (rest := []) hx hb hml hown hg hK NXc.same hN.warm (fun _ h => h) hP hS 0 (c_C_keepClash l D cI cC cZ cT ad hI M ((nI (3))) ((nI (a))) ((nI (d9)))) (by decide) (ci := 7) rfl rfl k_436 k_438 k_p6 k_1 k_439 3 rfl (by decide +kernel) (by decide) rfl hl.1 (Nat.le_of_ble_eq_true rfl) d_C_renameClashes_115 (fun v M_1 H locs hq hP _ _ hS => ?_)
        obtain ⟨rfl, eM_1⟩ := hq
        refine W.eq (g2 := F0 m 118 ls []) rfl ?_
        refine n_const (k := 1) hx hb d_C_renameClashes_118 (by decide) ?_
        exact r_z hx hb hr hlocks (rfl) hP hS (⟨rfl, eM_1⟩) d_C_renameClashes_119
      · refine lv_aload_n hx hb d_C_renameClashes_99 rfl (lv_at hl 2 rfl) ?_
        refine g_get (C := R_C) (T := T_C) (N := 15) (ci := 7) (v := .ref (ad (134))) hx hb hg i_C hown hK hP 0 (by decide) rfl rfl 6 (by decide) (hg _ k_134) rfl d_C_renameClashes_100 ?_
        refine lv_iload_n hx hb d_C_renameClashes_103 rfl (lv_at hl 4 rfl) ?_
        refine lv_iload_n hx hb d_C_renameClashes_104 rfl (lv_at hl 3 rfl) ?_
        refine c_V (own := R_C) (index := 247) (As := [.int (nI (d9)), .int (nI (a))]) (rest := []) hx hb hml hown hg hK NXc.same hN.warm (fun _ h => h) hP hS 134 (c_G_leads l D cI cC cZ cT ad hI M n hn60 st hS6 rk hRk hr60 (d9) (a) (by omega) (by omega) t2 ht2) (by decide) (ci := 4) rfl rfl k_657 k_658 k_659 k_6 k_660 2 rfl (by decide +kernel) (by decide) rfl hl.1 (Nat.le_of_ble_eq_true rfl) d_C_renameClashes_105 (fun v M' H locs hq hP _ _ hS => ?_)
        obtain ⟨rfl, rfl⟩ := hq
        refine W.eq (g2 := F0 m 108 ls [.int (bI (t2))]) rfl ?_
        refine z_eq (t := t2) (tgt := 120) hx hb d_C_renameClashes_108 (by decide) (fun c_108 => ?_) (fun c_108 => ?_)
        · exact absurd hL (fun h => by rcases h with h | h; have := ht1.mpr h; rw [c_96] at this; cases this; have := ht2.mpr h; rw [c_108] at this; cases this)
        · refine lv_aload_n hx hb d_C_renameClashes_111 rfl (lv_at hl 2 rfl) ?_
          refine n_const (k := 3) hx hb d_C_renameClashes_112 (by decide) ?_
          refine lv_iload_n hx hb d_C_renameClashes_113 rfl (lv_at hl 3 rfl) ?_
          refine lv_iload_n hx hb d_C_renameClashes_114 rfl (lv_at hl 4 rfl) ?_
          refine c_V (own := R_C) (index := 147) (As := [.int (nI (3)), .int (nI (a)), .int (nI (d9))]) (rest := []) hx hb hml hown hg hK NXc.same hN.warm (fun _ h => h) hP hS 0 (c_C_keepClash l D cI cC cZ cT ad hI M ((nI (3))) ((nI (a))) ((nI (d9)))) (by decide) (ci := 7) rfl rfl k_436 k_438 k_p6 k_1 k_439 3 rfl (by decide +kernel) (by decide) rfl hl.1 (Nat.le_of_ble_eq_true rfl) d_C_renameClashes_115 (fun v M_2 H locs hq hP _ _ hS => ?_)
          obtain ⟨rfl, eM_2⟩ := hq
          refine W.eq (g2 := F0 m 118 ls []) rfl ?_
          refine n_const (k := 1) hx hb d_C_renameClashes_118 (by decide) ?_
          exact r_z hx hb hr hlocks (rfl) hP hS (⟨rfl, eM_2⟩) d_C_renameClashes_119
    · refine lv_aload_n hx hb d_C_renameClashes_52 rfl (lv_at hl 2 rfl) ?_
      refine g_get (C := R_C) (T := T_C) (N := 15) (ci := 7) (v := .ref (ad (134))) hx hb hg i_C hown hK hP 0 (by decide) rfl rfl 6 (by decide) (hg _ k_134) rfl d_C_renameClashes_53 ?_
      refine lv_iload_n hx hb d_C_renameClashes_56 rfl (lv_at hl 4 rfl) ?_
      refine c_V (own := R_C) (index := 347) (As := [.int (nI (d9))]) (rest := []) hx hb hml hown hg hK NXc.same hN.warm (fun _ h => h) hP hS 134 (c_G_next l D cI cC cZ cT ad hI M n hn60 st hS6 (d9) (by omega)) (by decide) (ci := 4) rfl rfl k_708 k_709 k_710 k_6 k_711 1 rfl (by decide +kernel) (by decide) rfl hl.1 (Nat.le_of_ble_eq_true rfl) d_C_renameClashes_57 (fun v M' H locs hq hP _ _ hS => ?_)
      obtain ⟨rfl, rfl⟩ := hq
      refine W.eq (g2 := F0 m 60 ls [.int (oI (st (d9)))]) rfl ?_
      refine lv_iconst (v := -1) hx hb d_C_renameClashes_60 (by decide) ?_
      refine oo_eq (a := st (d9)) (b := none) (tgt := 87) hx hb d_C_renameClashes_61 (by decide) (fun q e => by have := hsn _ q e; omega) (ob_none) (fun c_61 => ?_) (fun c_61 => ?_)
      · refine lv_aload_n hx hb d_C_renameClashes_87 rfl (lv_at hl 2 rfl) ?_
        refine g_get (C := R_C) (T := T_C) (N := 15) (ci := 7) (v := .ref (ad (134))) hx hb hg i_C hown hK hP 0 (by decide) rfl rfl 6 (by decide) (hg _ k_134) rfl d_C_renameClashes_88 ?_
        refine lv_iload_n hx hb d_C_renameClashes_91 rfl (lv_at hl 3 rfl) ?_
        refine lv_iload_n hx hb d_C_renameClashes_92 rfl (lv_at hl 4 rfl) ?_
        refine c_V (own := R_C) (index := 247) (As := [.int (nI (a)), .int (nI (d9))]) (rest := []) hx hb hml hown hg hK NXc.same hN.warm (fun _ h => h) hP hS 134 (c_G_leads l D cI cC cZ cT ad hI M n hn60 st hS6 rk hRk hr60 (a) (d9) (by omega) (by omega) t1 ht1) (by decide) (ci := 4) rfl rfl k_657 k_658 k_659 k_6 k_660 2 rfl (by decide +kernel) (by decide) rfl hl.1 (Nat.le_of_ble_eq_true rfl) d_C_renameClashes_93 (fun v M' H locs hq hP _ _ hS => ?_)
        obtain ⟨rfl, rfl⟩ := hq
        refine W.eq (g2 := F0 m 96 ls [.int (bI (t1))]) rfl ?_
        refine z_ne (t := t1) (tgt := 111) hx hb d_C_renameClashes_96 (by decide) (fun c_96 => ?_) (fun c_96 => ?_)
        · refine lv_aload_n hx hb d_C_renameClashes_111 rfl (lv_at hl 2 rfl) ?_
          refine n_const (k := 3) hx hb d_C_renameClashes_112 (by decide) ?_
          refine lv_iload_n hx hb d_C_renameClashes_113 rfl (lv_at hl 3 rfl) ?_
          refine lv_iload_n hx hb d_C_renameClashes_114 rfl (lv_at hl 4 rfl) ?_
          refine c_V (own := R_C) (index := 147) (As := [.int (nI (3)), .int (nI (a)), .int (nI (d9))]) (rest := []) hx hb hml hown hg hK NXc.same hN.warm (fun _ h => h) hP hS 0 (c_C_keepClash l D cI cC cZ cT ad hI M ((nI (3))) ((nI (a))) ((nI (d9)))) (by decide) (ci := 7) rfl rfl k_436 k_438 k_p6 k_1 k_439 3 rfl (by decide +kernel) (by decide) rfl hl.1 (Nat.le_of_ble_eq_true rfl) d_C_renameClashes_115 (fun v M_3 H locs hq hP _ _ hS => ?_)
          obtain ⟨rfl, eM_3⟩ := hq
          refine W.eq (g2 := F0 m 118 ls []) rfl ?_
          refine n_const (k := 1) hx hb d_C_renameClashes_118 (by decide) ?_
          exact r_z hx hb hr hlocks (rfl) hP hS (⟨rfl, eM_3⟩) d_C_renameClashes_119
        · refine lv_aload_n hx hb d_C_renameClashes_99 rfl (lv_at hl 2 rfl) ?_
          refine g_get (C := R_C) (T := T_C) (N := 15) (ci := 7) (v := .ref (ad (134))) hx hb hg i_C hown hK hP 0 (by decide) rfl rfl 6 (by decide) (hg _ k_134) rfl d_C_renameClashes_100 ?_
          refine lv_iload_n hx hb d_C_renameClashes_103 rfl (lv_at hl 4 rfl) ?_
          refine lv_iload_n hx hb d_C_renameClashes_104 rfl (lv_at hl 3 rfl) ?_
          refine c_V (own := R_C) (index := 247) (As := [.int (nI (d9)), .int (nI (a))]) (rest := []) hx hb hml hown hg hK NXc.same hN.warm (fun _ h => h) hP hS 134 (c_G_leads l D cI cC cZ cT ad hI M n hn60 st hS6 rk hRk hr60 (d9) (a) (by omega) (by omega) t2 ht2) (by decide) (ci := 4) rfl rfl k_657 k_658 k_659 k_6 k_660 2 rfl (by decide +kernel) (by decide) rfl hl.1 (Nat.le_of_ble_eq_true rfl) d_C_renameClashes_105 (fun v M' H locs hq hP _ _ hS => ?_)
          obtain ⟨rfl, rfl⟩ := hq
          refine W.eq (g2 := F0 m 108 ls [.int (bI (t2))]) rfl ?_
          refine z_eq (t := t2) (tgt := 120) hx hb d_C_renameClashes_108 (by decide) (fun c_108 => ?_) (fun c_108 => ?_)
          · exact absurd hL (fun h => by rcases h with h | h; have := ht1.mpr h; rw [c_96] at this; cases this; have := ht2.mpr h; rw [c_108] at this; cases this)
          · refine lv_aload_n hx hb d_C_renameClashes_111 rfl (lv_at hl 2 rfl) ?_
            refine n_const (k := 3) hx hb d_C_renameClashes_112 (by decide) ?_
            refine lv_iload_n hx hb d_C_renameClashes_113 rfl (lv_at hl 3 rfl) ?_
            refine lv_iload_n hx hb d_C_renameClashes_114 rfl (lv_at hl 4 rfl) ?_
            refine c_V (own := R_C) (index := 147) (As := [.int (nI (3)), .int (nI (a)), .int (nI (d9))]) (rest := []) hx hb hml hown hg hK NXc.same hN.warm (fun _ h => h) hP hS 0 (c_C_keepClash l D cI cC cZ cT ad hI M ((nI (3))) ((nI (a))) ((nI (d9)))) (by decide) (ci := 7) rfl rfl k_436 k_438 k_p6 k_1 k_439 3 rfl (by decide +kernel) (by decide) rfl hl.1 (Nat.le_of_ble_eq_true rfl) d_C_renameClashes_115 (fun v M_4 H locs hq hP _ _ hS => ?_)
            obtain ⟨rfl, eM_4⟩ := hq
            refine W.eq (g2 := F0 m 118 ls []) rfl ?_
            refine n_const (k := 1) hx hb d_C_renameClashes_118 (by decide) ?_
            exact r_z hx hb hr hlocks (rfl) hP hS (⟨rfl, eM_4⟩) d_C_renameClashes_119
      · exact absurd hno5 (fun h => by rcases h with h | h; exact c_49 h; exact c_61 h)
  · refine lv_iload hx hb d_C_renameClashes_24 (lv_at hl 0 rfl) ?_
    refine lv_iconst (v := -1) hx hb d_C_renameClashes_26 (by decide) ?_
    refine oo_eq (a := oy) (b := none) (tgt := 40) hx hb d_C_renameClashes_27 (by decide) (fun q e => by have := hoy.lt q e; omega) (ob_none) (fun c_27 => ?_) (fun c_27 => ?_)
    · refine lv_aload_n hx hb d_C_renameClashes_40 rfl (lv_at hl 2 rfl) ?_
      refine g_get (C := R_C) (T := T_C) (N := 15) (ci := 7) (v := .ref (ad (134))) hx hb hg i_C hown hK hP 0 (by decide) rfl rfl 6 (by decide) (hg _ k_134) rfl d_C_renameClashes_41 ?_
      refine lv_iload_n hx hb d_C_renameClashes_44 rfl (lv_at hl 3 rfl) ?_
      refine c_V (own := R_C) (index := 347) (As := [.int (nI (a))]) (rest := []) hx hb hml hown hg hK NXc.same hN.warm (fun _ h => h) hP hS 134 (c_G_next l D cI cC cZ cT ad hI M n hn60 st hS6 (a) (by omega)) (by decide) (ci := 4) rfl rfl k_708 k_709 k_710 k_6 k_711 1 rfl (by decide +kernel) (by decide) rfl hl.1 (Nat.le_of_ble_eq_true rfl) d_C_renameClashes_45 (fun v M' H locs hq hP _ _ hS => ?_)
      obtain ⟨rfl, rfl⟩ := hq
      refine W.eq (g2 := F0 m 48 ls [.int (oI (st (a)))]) rfl ?_
      refine lv_iconst (v := -1) hx hb d_C_renameClashes_48 (by decide) ?_
      refine oo_eq (a := st (a)) (b := none) (tgt := 87) hx hb d_C_renameClashes_49 (by decide) (fun q e => by have := hsn _ q e; omega) (ob_none) (fun c_49 => ?_) (fun c_49 => ?_)
      · refine lv_aload_n hx hb d_C_renameClashes_87 rfl (lv_at hl 2 rfl) ?_
        refine g_get (C := R_C) (T := T_C) (N := 15) (ci := 7) (v := .ref (ad (134))) hx hb hg i_C hown hK hP 0 (by decide) rfl rfl 6 (by decide) (hg _ k_134) rfl d_C_renameClashes_88 ?_
        refine lv_iload_n hx hb d_C_renameClashes_91 rfl (lv_at hl 3 rfl) ?_
        refine lv_iload_n hx hb d_C_renameClashes_92 rfl (lv_at hl 4 rfl) ?_
        refine c_V (own := R_C) (index := 247) (As := [.int (nI (a)), .int (nI (d9))]) (rest := []) hx hb hml hown hg hK NXc.same hN.warm (fun _ h => h) hP hS 134 (c_G_leads l D cI cC cZ cT ad hI M n hn60 st hS6 rk hRk hr60 (a) (d9) (by omega) (by omega) t1 ht1) (by decide) (ci := 4) rfl rfl k_657 k_658 k_659 k_6 k_660 2 rfl (by decide +kernel) (by decide) rfl hl.1 (Nat.le_of_ble_eq_true rfl) d_C_renameClashes_93 (fun v M' H locs hq hP _ _ hS => ?_)
        obtain ⟨rfl, rfl⟩ := hq
        refine W.eq (g2 := F0 m 96 ls [.int (bI (t1))]) rfl ?_
        refine z_ne (t := t1) (tgt := 111) hx hb d_C_renameClashes_96 (by decide) (fun c_96 => ?_) (fun c_96 => ?_)
        · refine lv_aload_n hx hb d_C_renameClashes_111 rfl (lv_at hl 2 rfl) ?_
          refine n_const (k := 3) hx hb d_C_renameClashes_112 (by decide) ?_
          refine lv_iload_n hx hb d_C_renameClashes_113 rfl (lv_at hl 3 rfl) ?_
          refine lv_iload_n hx hb d_C_renameClashes_114 rfl (lv_at hl 4 rfl) ?_
          refine c_V (own := R_C) (index := 147) (As := [.int (nI (3)), .int (nI (a)), .int (nI (d9))]) (rest := []) hx hb hml hown hg hK NXc.same hN.warm (fun _ h => h) hP hS 0 (c_C_keepClash l D cI cC cZ cT ad hI M ((nI (3))) ((nI (a))) ((nI (d9)))) (by decide) (ci := 7) rfl rfl k_436 k_438 k_p6 k_1 k_439 3 rfl (by decide +kernel) (by decide) rfl hl.1 (Nat.le_of_ble_eq_true rfl) d_C_renameClashes_115 (fun v M_5 H locs hq hP _ _ hS => ?_)
          obtain ⟨rfl, eM_5⟩ := hq
          refine W.eq (g2 := F0 m 118 ls []) rfl ?_
          refine n_const (k := 1) hx hb d_C_renameClashes_118 (by decide) ?_
          exact r_z hx hb hr hlocks (rfl) hP hS (⟨rfl, eM_5⟩) d_C_renameClashes_119
        · refine lv_aload_n hx hb d_C_renameClashes_99 rfl (lv_at hl 2 rfl) ?_
          refine g_get (C := R_C) (T := T_C) (N := 15) (ci := 7) (v := .ref (ad (134))) hx hb hg i_C hown hK hP 0 (by decide) rfl rfl 6 (by decide) (hg _ k_134) rfl d_C_renameClashes_100 ?_
          refine lv_iload_n hx hb d_C_renameClashes_103 rfl (lv_at hl 4 rfl) ?_
          refine lv_iload_n hx hb d_C_renameClashes_104 rfl (lv_at hl 3 rfl) ?_
          refine c_V (own := R_C) (index := 247) (As := [.int (nI (d9)), .int (nI (a))]) (rest := []) hx hb hml hown hg hK NXc.same hN.warm (fun _ h => h) hP hS 134 (c_G_leads l D cI cC cZ cT ad hI M n hn60 st hS6 rk hRk hr60 (d9) (a) (by omega) (by omega) t2 ht2) (by decide) (ci := 4) rfl rfl k_657 k_658 k_659 k_6 k_660 2 rfl (by decide +kernel) (by decide) rfl hl.1 (Nat.le_of_ble_eq_true rfl) d_C_renameClashes_105 (fun v M' H locs hq hP _ _ hS => ?_)
          obtain ⟨rfl, rfl⟩ := hq
          refine W.eq (g2 := F0 m 108 ls [.int (bI (t2))]) rfl ?_
          refine z_eq (t := t2) (tgt := 120) hx hb d_C_renameClashes_108 (by decide) (fun c_108 => ?_) (fun c_108 => ?_)
          · exact absurd hL (fun h => by rcases h with h | h; have := ht1.mpr h; rw [c_96] at this; cases this; have := ht2.mpr h; rw [c_108] at this; cases this)
          · refine lv_aload_n hx hb d_C_renameClashes_111 rfl (lv_at hl 2 rfl) ?_
            refine n_const (k := 3) hx hb d_C_renameClashes_112 (by decide) ?_
            refine lv_iload_n hx hb d_C_renameClashes_113 rfl (lv_at hl 3 rfl) ?_
            refine lv_iload_n hx hb d_C_renameClashes_114 rfl (lv_at hl 4 rfl) ?_
            refine c_V (own := R_C) (index := 147) (As := [.int (nI (3)), .int (nI (a)), .int (nI (d9))]) (rest := []) hx hb hml hown hg hK NXc.same hN.warm (fun _ h => h) hP hS 0 (c_C_keepClash l D cI cC cZ cT ad hI M ((nI (3))) ((nI (a))) ((nI (d9)))) (by decide) (ci := 7) rfl rfl k_436 k_438 k_p6 k_1 k_439 3 rfl (by decide +kernel) (by decide) rfl hl.1 (Nat.le_of_ble_eq_true rfl) d_C_renameClashes_115 (fun v M_6 H locs hq hP _ _ hS => ?_)
            obtain ⟨rfl, eM_6⟩ := hq
            refine W.eq (g2 := F0 m 118 ls []) rfl ?_
            refine n_const (k := 1) hx hb d_C_renameClashes_118 (by decide) ?_
            exact r_z hx hb hr hlocks (rfl) hP hS (⟨rfl, eM_6⟩) d_C_renameClashes_119
      · refine lv_aload_n hx hb d_C_renameClashes_52 rfl (lv_at hl 2 rfl) ?_
        refine g_get (C := R_C) (T := T_C) (N := 15) (ci := 7) (v := .ref (ad (134))) hx hb hg i_C hown hK hP 0 (by decide) rfl rfl 6 (by decide) (hg _ k_134) rfl d_C_renameClashes_53 ?_
        refine lv_iload_n hx hb d_C_renameClashes_56 rfl (lv_at hl 4 rfl) ?_
        refine c_V (own := R_C) (index := 347) (As := [.int (nI (d9))]) (rest := []) hx hb hml hown hg hK NXc.same hN.warm (fun _ h => h) hP hS 134 (c_G_next l D cI cC cZ cT ad hI M n hn60 st hS6 (d9) (by omega)) (by decide) (ci := 4) rfl rfl k_708 k_709 k_710 k_6 k_711 1 rfl (by decide +kernel) (by decide) rfl hl.1 (Nat.le_of_ble_eq_true rfl) d_C_renameClashes_57 (fun v M' H locs hq hP _ _ hS => ?_)
        obtain ⟨rfl, rfl⟩ := hq
        refine W.eq (g2 := F0 m 60 ls [.int (oI (st (d9)))]) rfl ?_
        refine lv_iconst (v := -1) hx hb d_C_renameClashes_60 (by decide) ?_
        refine oo_eq (a := st (d9)) (b := none) (tgt := 87) hx hb d_C_renameClashes_61 (by decide) (fun q e => by have := hsn _ q e; omega) (ob_none) (fun c_61 => ?_) (fun c_61 => ?_)
        · refine lv_aload_n hx hb d_C_renameClashes_87 rfl (lv_at hl 2 rfl) ?_
          refine g_get (C := R_C) (T := T_C) (N := 15) (ci := 7) (v := .ref (ad (134))) hx hb hg i_C hown hK hP 0 (by decide) rfl rfl 6 (by decide) (hg _ k_134) rfl d_C_renameClashes_88 ?_
          refine lv_iload_n hx hb d_C_renameClashes_91 rfl (lv_at hl 3 rfl) ?_
          refine lv_iload_n hx hb d_C_renameClashes_92 rfl (lv_at hl 4 rfl) ?_
          refine c_V (own := R_C) (index := 247) (As := [.int (nI (a)), .int (nI (d9))]) (rest := []) hx hb hml hown hg hK NXc.same hN.warm (fun _ h => h) hP hS 134 (c_G_leads l D cI cC cZ cT ad hI M n hn60 st hS6 rk hRk hr60 (a) (d9) (by omega) (by omega) t1 ht1) (by decide) (ci := 4) rfl rfl k_657 k_658 k_659 k_6 k_660 2 rfl (by decide +kernel) (by decide) rfl hl.1 (Nat.le_of_ble_eq_true rfl) d_C_renameClashes_93 (fun v M' H locs hq hP _ _ hS => ?_)
          obtain ⟨rfl, rfl⟩ := hq
          refine W.eq (g2 := F0 m 96 ls [.int (bI (t1))]) rfl ?_
          refine z_ne (t := t1) (tgt := 111) hx hb d_C_renameClashes_96 (by decide) (fun c_96 => ?_) (fun c_96 => ?_)
          · refine lv_aload_n hx hb d_C_renameClashes_111 rfl (lv_at hl 2 rfl) ?_
            refine n_const (k := 3) hx hb d_C_renameClashes_112 (by decide) ?_
            refine lv_iload_n hx hb d_C_renameClashes_113 rfl (lv_at hl 3 rfl) ?_
            refine lv_iload_n hx hb d_C_renameClashes_114 rfl (lv_at hl 4 rfl) ?_
            refine c_V (own := R_C) (index := 147) (As := [.int (nI (3)), .int (nI (a)), .int (nI (d9))]) (rest := []) hx hb hml hown hg hK NXc.same hN.warm (fun _ h => h) hP hS 0 (c_C_keepClash l D cI cC cZ cT ad hI M ((nI (3))) ((nI (a))) ((nI (d9)))) (by decide) (ci := 7) rfl rfl k_436 k_438 k_p6 k_1 k_439 3 rfl (by decide +kernel) (by decide) rfl hl.1 (Nat.le_of_ble_eq_true rfl) d_C_renameClashes_115 (fun v M_7 H locs hq hP _ _ hS => ?_)
            obtain ⟨rfl, eM_7⟩ := hq
            refine W.eq (g2 := F0 m 118 ls []) rfl ?_
            refine n_const (k := 1) hx hb d_C_renameClashes_118 (by decide) ?_
            exact r_z hx hb hr hlocks (rfl) hP hS (⟨rfl, eM_7⟩) d_C_renameClashes_119
          · refine lv_aload_n hx hb d_C_renameClashes_99 rfl (lv_at hl 2 rfl) ?_
            refine g_get (C := R_C) (T := T_C) (N := 15) (ci := 7) (v := .ref (ad (134))) hx hb hg i_C hown hK hP 0 (by decide) rfl rfl 6 (by decide) (hg _ k_134) rfl d_C_renameClashes_100 ?_
            refine lv_iload_n hx hb d_C_renameClashes_103 rfl (lv_at hl 4 rfl) ?_
            refine lv_iload_n hx hb d_C_renameClashes_104 rfl (lv_at hl 3 rfl) ?_
            refine c_V (own := R_C) (index := 247) (As := [.int (nI (d9)), .int (nI (a))]) (rest := []) hx hb hml hown hg hK NXc.same hN.warm (fun _ h => h) hP hS 134 (c_G_leads l D cI cC cZ cT ad hI M n hn60 st hS6 rk hRk hr60 (d9) (a) (by omega) (by omega) t2 ht2) (by decide) (ci := 4) rfl rfl k_657 k_658 k_659 k_6 k_660 2 rfl (by decide +kernel) (by decide) rfl hl.1 (Nat.le_of_ble_eq_true rfl) d_C_renameClashes_105 (fun v M' H locs hq hP _ _ hS => ?_)
            obtain ⟨rfl, rfl⟩ := hq
            refine W.eq (g2 := F0 m 108 ls [.int (bI (t2))]) rfl ?_
            refine z_eq (t := t2) (tgt := 120) hx hb d_C_renameClashes_108 (by decide) (fun c_108 => ?_) (fun c_108 => ?_)
            · exact absurd hL (fun h => by rcases h with h | h; have := ht1.mpr h; rw [c_96] at this; cases this; have := ht2.mpr h; rw [c_108] at this; cases this)
            · refine lv_aload_n hx hb d_C_renameClashes_111 rfl (lv_at hl 2 rfl) ?_
              refine n_const (k := 3) hx hb d_C_renameClashes_112 (by decide) ?_
              refine lv_iload_n hx hb d_C_renameClashes_113 rfl (lv_at hl 3 rfl) ?_
              refine lv_iload_n hx hb d_C_renameClashes_114 rfl (lv_at hl 4 rfl) ?_
              refine c_V (own := R_C) (index := 147) (As := [.int (nI (3)), .int (nI (a)), .int (nI (d9))]) (rest := []) hx hb hml hown hg hK NXc.same hN.warm (fun _ h => h) hP hS 0 (c_C_keepClash l D cI cC cZ cT ad hI M ((nI (3))) ((nI (a))) ((nI (d9)))) (by decide) (ci := 7) rfl rfl k_436 k_438 k_p6 k_1 k_439 3 rfl (by decide +kernel) (by decide) rfl hl.1 (Nat.le_of_ble_eq_true rfl) d_C_renameClashes_115 (fun v M_8 H locs hq hP _ _ hS => ?_)
              obtain ⟨rfl, eM_8⟩ := hq
              refine W.eq (g2 := F0 m 118 ls []) rfl ?_
              refine n_const (k := 1) hx hb d_C_renameClashes_118 (by decide) ?_
              exact r_z hx hb hr hlocks (rfl) hP hS (⟨rfl, eM_8⟩) d_C_renameClashes_119
        · exact absurd hno5 (fun h => by rcases h with h | h; exact c_49 h; exact c_61 h)
    · exact absurd hno (fun h => by rcases h with h | h; exact c_21 h; exact c_27 h)

set_option maxHeartbeats 4000000 in
set_option maxRecDepth 100000 in
theorem c_C_rnc_0 (l : Launch) (D : va_G) (cI cC cZ cT : ClassId) (ad : Nat → Nat) (hI : GI 144 ad) (M : PM) (n : Nat) (hn60 : n ≤ 60) (rc : Nat) (rw_ : Nat → Nat) (hW7 : CW M n rc rw_) (st : Nat → Option Nat) (hS6 : CSt M n st) (rk : Nat → Nat) (hRk : Rk n st rk) (hr60 : ∀ k, k < n → rk k < 60) (a d9 : Nat) (ha : a < n) (hd9 : d9 < n) (ox oy : Option Nat) (hox : Fst (fun k => rw_ (3 * k) = a) rc ox) (hoy : Fst (fun k => rw_ (3 * k) = d9) rc oy) (hno : ox = none ∨ oy = none) (hno5 : st a = none ∨ st d9 = none) (hL : ¬ (Lds st (st a) d9 ∨ Lds st (st d9) a)) : MD l D cI cC cZ cT ad y_C_renameClashes b_C_renameClashes 5 (some .boolean) 2 44 [.ref (ad (0)), .int (nI (a)), .int (nI (d9))] M (fun v M' => v = some (.int (bI false)) ∧ M = M') := by
  refine MC.of (by decide) (Nat.le_of_ble_eq_true rfl) ?_
  intro p e s m below meth c ls hx hb hr hml hown hg hlocks hK hN hP hS hl
  have hown : s.vm.findClass R_C = some m.cls := hown
  have hl : lv_has ls 5 [(0, .ref (ad (0))), (1, .int (nI (a))), (2, .int (nI (d9)))] := hl
  have hrc := hW7.1
  have hsn := hS6.2
  obtain ⟨t1, ht1⟩ := bex (Lds st (st a) d9)
  obtain ⟨t2, ht2⟩ := bex (Lds st (st d9) a)
  refine lv_aload_n hx hb d_C_renameClashes_0 rfl (lv_at hl 0 rfl) ?_
  refine g_get (C := R_C) (T := T_C) (N := 15) (ci := 7) (v := .ref (ad (132))) hx hb hg i_C hown hK hP 0 (by decide) rfl rfl 5 (by decide) (hg _ k_133) rfl d_C_renameClashes_1 ?_
  refine lv_iload_n hx hb d_C_renameClashes_4 rfl (lv_at hl 1 rfl) ?_
  refine c_V (own := R_C) (index := 194) (As := [.int (nI (a))]) (rest := []) hx hb hml hown hg hK NXc.same hN.warm (fun _ h => h) hP hS 132 (c_W_rowOfTerm l D cI cC cZ cT ad hI M n rc hn60 rw_ hW7 (a) (by omega) (ox) hox) (by decide) (ci := 2) rfl rfl k_527 k_528 k_529 k_5 k_530 1 rfl (by decide +kernel) (by decide) rfl hl.1 (Nat.le_of_ble_eq_true rfl) d_C_renameClashes_5 (fun v M' H locs hq hP _ _ hS => ?_)
  obtain ⟨rfl, rfl⟩ := hq
  refine W.eq (g2 := F0 m 8 ls [.int (oI (ox))]) rfl ?_
  refine lv_istore_n (lv' := [(3, .int (oI (ox))), (0, .ref (ad (0))), (1, .int (nI (a))), (2, .int (nI (d9)))]) hx hb d_C_renameClashes_8 rfl hl (by decide) rfl (fun ls hl => ?_)
  refine lv_aload_n hx hb d_C_renameClashes_9 rfl (lv_at hl 1 rfl) ?_
  refine g_get (C := R_C) (T := T_C) (N := 15) (ci := 7) (v := .ref (ad (132))) hx hb hg i_C hown hK hP 0 (by decide) rfl rfl 5 (by decide) (hg _ k_133) rfl d_C_renameClashes_10 ?_
  refine lv_iload_n hx hb d_C_renameClashes_13 rfl (lv_at hl 3 rfl) ?_
  refine c_V (own := R_C) (index := 194) (As := [.int (nI (d9))]) (rest := []) hx hb hml hown hg hK NXc.same hN.warm (fun _ h => h) hP hS 132 (c_W_rowOfTerm l D cI cC cZ cT ad hI M n rc hn60 rw_ hW7 (d9) (by omega) (oy) hoy) (by decide) (ci := 2) rfl rfl k_527 k_528 k_529 k_5 k_530 1 rfl (by decide +kernel) (by decide) rfl hl.1 (Nat.le_of_ble_eq_true rfl) d_C_renameClashes_14 (fun v M' H locs hq hP _ _ hS => ?_)
  obtain ⟨rfl, rfl⟩ := hq
  refine W.eq (g2 := F0 m 17 ls [.int (oI (oy))]) rfl ?_
  refine lv_istore (lv' := [(4, .int (oI (oy))), (3, .int (oI (ox))), (0, .ref (ad (0))), (1, .int (nI (a))), (2, .int (nI (d9)))]) hx hb d_C_renameClashes_17 hl (by decide) rfl (fun ls hl => ?_)
  refine lv_iload_n hx hb d_C_renameClashes_19 rfl (lv_at hl 1 rfl) ?_
  refine lv_iconst (v := -1) hx hb d_C_renameClashes_20 (by decide) ?_
  refine oo_eq (a := ox) (b := none) (tgt := 40) hx hb d_C_renameClashes_21 (by decide) (fun q e => by have := hox.lt q e; omega) (ob_none) (fun c_21 => ?_) (fun c_21 => ?_)
  · refine lv_aload_n hx hb d_C_renameClashes_40 rfl (lv_at hl 2 rfl) ?_
    refine g_get (C := R_C) (T := T_C) (N := 15) (ci := 7) (v := .ref (ad (134))) hx hb hg i_C hown hK hP 0 (by decide) rfl rfl 6 (by decide) (hg _ k_134) rfl d_C_renameClashes_41 ?_
    refine lv_iload_n hx hb d_C_renameClashes_44 rfl (lv_at hl 3 rfl) ?_
    refine c_V (own := R_C) (index := 347) (As := [.int (nI (a))]) (rest := []) hx hb hml hown hg hK NXc.same hN.warm (fun _ h => h) hP hS 134 (c_G_next l D cI cC cZ cT ad hI M n hn60 st hS6 (a) (by omega)) (by decide) (ci := 4) rfl rfl k_708 k_709 k_710 k_6 k_711 1 rfl (by decide +kernel) (by decide) rfl hl.1 (Nat.le_of_ble_eq_true rfl) d_C_renameClashes_45 (fun v M' H locs hq hP _ _ hS => ?_)
    obtain ⟨rfl, rfl⟩ := hq
    refine W.eq (g2 := F0 m 48 ls [.int (oI (st (a)))]) rfl ?_
    refine lv_iconst (v := -1) hx hb d_C_renameClashes_48 (by decide) ?_
    refine oo_eq (a := st (a)) (b := none) (tgt := 87) hx hb d_C_renameClashes_49 (by decide) (fun q e => by have := hsn _ q e; omega) (ob_none) (fun c_49 => ?_) (fun c_49 => ?_)
    · refine lv_aload_n hx hb d_C_renameClashes_87 rfl (lv_at hl 2 rfl) ?_
      refine g_get (C := R_C) (T := T_C) (N := 15) (ci := 7) (v := .ref (ad (134))) hx hb hg i_C hown hK hP 0 (by decide) rfl rfl 6 (by decide) (hg _ k_134) rfl d_C_renameClashes_88 ?_
      refine lv_iload_n hx hb d_C_renameClashes_91 rfl (lv_at hl 3 rfl) ?_
      refine lv_iload_n hx hb d_C_renameClashes_92 rfl (lv_at hl 4 rfl) ?_
      refine c_V (own := R_C) (index := 247) (As := [.int (nI (a)), .int (nI (d9))]) (rest := []) hx hb hml hown hg hK NXc.same hN.warm (fun _ h => h) hP hS 134 (c_G_leads l D cI cC cZ cT ad hI M n hn60 st hS6 rk hRk hr60 (a) (d9) (by omega) (by omega) t1 ht1) (by decide) (ci := 4) rfl rfl k_657 k_658 k_659 k_6 k_660 2 rfl (by decide +kernel) (by decide) rfl hl.1 (Nat.le_of_ble_eq_true rfl) d_C_renameClashes_93 (fun v M' H locs hq hP _ _ hS => ?_)
      obtain ⟨rfl, rfl⟩ := hq
      refine W.eq (g2 := F0 m 96 ls [.int (bI (t1))]) rfl ?_
      refine z_ne (t := t1) (tgt := 111) hx hb d_C_renameClashes_96 (by decide) (fun c_96 => ?_) (fun c_96 => ?_)
      · exact absurd (Or.inl (ht1.mp c_96)) hL
      · refine lv_aload_n hx hb d_C_renameClashes_99 rfl (lv_at hl 2 rfl) ?_
        refine g_get (C := R_C) (T := T_C) (N := 15) (ci := 7) (v := .ref (ad (134))) hx hb hg i_C hown hK hP 0 (by decide) rfl rfl 6 (by decide) (hg _ k_134) rfl d_C_renameClashes_100 ?_
        refine lv_iload_n hx hb d_C_renameClashes_103 rfl (lv_at hl 4 rfl) ?_
        refine lv_iload_n hx hb d_C_renameClashes_104 rfl (lv_at hl 3 rfl) ?_
        refine c_V (own := R_C) (index := 247) (As := [.int (nI (d9)), .int (nI (a))]) (rest := []) hx hb hml hown hg hK NXc.same hN.warm (fun _ h => h) hP hS 134 (c_G_leads l D cI cC cZ cT ad hI M n hn60 st hS6 rk hRk hr60 (d9) (a) (by omega) (by omega) t2 ht2) (by decide) (ci := 4) rfl rfl k_657 k_658 k_659 k_6 k_660 2 rfl (by decide +kernel) (by decide) rfl hl.1 (Nat.le_of_ble_eq_true rfl) d_C_renameClashes_105 (fun v M' H locs hq hP _ _ hS => ?_)
        obtain ⟨rfl, rfl⟩ := hq
        refine W.eq (g2 := F0 m 108 ls [.int (bI (t2))]) rfl ?_
        refine z_eq (t := t2) (tgt := 120) hx hb d_C_renameClashes_108 (by decide) (fun c_108 => ?_) (fun c_108 => ?_)
        · refine n_const (k := 0) hx hb d_C_renameClashes_120 (by decide) ?_
          exact r_z hx hb hr hlocks (rfl) hP hS (⟨rfl, rfl⟩) d_C_renameClashes_121
        · exact absurd (Or.inr (ht2.mp c_108)) hL
    · refine lv_aload_n hx hb d_C_renameClashes_52 rfl (lv_at hl 2 rfl) ?_
      refine g_get (C := R_C) (T := T_C) (N := 15) (ci := 7) (v := .ref (ad (134))) hx hb hg i_C hown hK hP 0 (by decide) rfl rfl 6 (by decide) (hg _ k_134) rfl d_C_renameClashes_53 ?_
      refine lv_iload_n hx hb d_C_renameClashes_56 rfl (lv_at hl 4 rfl) ?_
      refine c_V (own := R_C) (index := 347) (As := [.int (nI (d9))]) (rest := []) hx hb hml hown hg hK NXc.same hN.warm (fun _ h => h) hP hS 134 (c_G_next l D cI cC cZ cT ad hI M n hn60 st hS6 (d9) (by omega)) (by decide) (ci := 4) rfl rfl k_708 k_709 k_710 k_6 k_711 1 rfl (by decide +kernel) (by decide) rfl hl.1 (Nat.le_of_ble_eq_true rfl) d_C_renameClashes_57 (fun v M' H locs hq hP _ _ hS => ?_)
      obtain ⟨rfl, rfl⟩ := hq
      refine W.eq (g2 := F0 m 60 ls [.int (oI (st (d9)))]) rfl ?_
      refine lv_iconst (v := -1) hx hb d_C_renameClashes_60 (by decide) ?_
      refine oo_eq (a := st (d9)) (b := none) (tgt := 87) hx hb d_C_renameClashes_61 (by decide) (fun q e => by have := hsn _ q e; omega) (ob_none) (fun c_61 => ?_) (fun c_61 => ?_)
      · refine lv_aload_n hx hb d_C_renameClashes_87 rfl (lv_at hl 2 rfl) ?_
        refine g_get (C := R_C) (T := T_C) (N := 15) (ci := 7) (v := .ref (ad (134))) hx hb hg i_C hown hK hP 0 (by decide) rfl rfl 6 (by decide) (hg _ k_134) rfl d_C_renameClashes_88 ?_
        refine lv_iload_n hx hb d_C_renameClashes_91 rfl (lv_at hl 3 rfl) ?_
        refine lv_iload_n hx hb d_C_renameClashes_92 rfl (lv_at hl 4 rfl) ?_
        refine c_V (own := R_C) (index := 247) (As := [.int (nI (a)), .int (nI (d9))]) (rest := []) hx hb hml hown hg hK NXc.same hN.warm (fun _ h => h) hP hS 134 (c_G_leads l D cI cC cZ cT ad hI M n hn60 st hS6 rk hRk hr60 (a) (d9) (by omega) (by omega) t1 ht1) (by decide) (ci := 4) rfl rfl k_657 k_658 k_659 k_6 k_660 2 rfl (by decide +kernel) (by decide) rfl hl.1 (Nat.le_of_ble_eq_true rfl) d_C_renameClashes_93 (fun v M' H locs hq hP _ _ hS => ?_)
        obtain ⟨rfl, rfl⟩ := hq
        refine W.eq (g2 := F0 m 96 ls [.int (bI (t1))]) rfl ?_
        refine z_ne (t := t1) (tgt := 111) hx hb d_C_renameClashes_96 (by decide) (fun c_96 => ?_) (fun c_96 => ?_)
        · exact absurd (Or.inl (ht1.mp c_96)) hL
        · refine lv_aload_n hx hb d_C_renameClashes_99 rfl (lv_at hl 2 rfl) ?_
          refine g_get (C := R_C) (T := T_C) (N := 15) (ci := 7) (v := .ref (ad (134))) hx hb hg i_C hown hK hP 0 (by decide) rfl rfl 6 (by decide) (hg _ k_134) rfl d_C_renameClashes_100 ?_
          refine lv_iload_n hx hb d_C_renameClashes_103 rfl (lv_at hl 4 rfl) ?_
          refine lv_iload_n hx hb d_C_renameClashes_104 rfl (lv_at hl 3 rfl) ?_
          refine c_V (own := R_C) (index := 247) (As := [.int (nI (d9)), .int (nI (a))]) (rest := []) hx hb hml hown hg hK NXc.same hN.warm (fun _ h => h) hP hS 134 (c_G_leads l D cI cC cZ cT ad hI M n hn60 st hS6 rk hRk hr60 (d9) (a) (by omega) (by omega) t2 ht2) (by decide) (ci := 4) rfl rfl k_657 k_658 k_659 k_6 k_660 2 rfl (by decide +kernel) (by decide) rfl hl.1 (Nat.le_of_ble_eq_true rfl) d_C_renameClashes_105 (fun v M' H locs hq hP _ _ hS => ?_)
          obtain ⟨rfl, rfl⟩ := hq
          refine W.eq (g2 := F0 m 108 ls [.int (bI (t2))]) rfl ?_
          refine z_eq (t := t2) (tgt := 120) hx hb d_C_renameClashes_108 (by decide) (fun c_108 => ?_) (fun c_108 => ?_)
          · refine n_const (k := 0) hx hb d_C_renameClashes_120 (by decide) ?_
            exact r_z hx hb hr hlocks (rfl) hP hS (⟨rfl, rfl⟩) d_C_renameClashes_121
          · exact absurd (Or.inr (ht2.mp c_108)) hL
      · exact absurd hno5 (fun h => by rcases h with h | h; exact c_49 h; exact c_61 h)
  · refine lv_iload hx hb d_C_renameClashes_24 (lv_at hl 0 rfl) ?_
    refine lv_iconst (v := -1) hx hb d_C_renameClashes_26 (by decide) ?_
    refine oo_eq (a := oy) (b := none) (tgt := 40) hx hb d_C_renameClashes_27 (by decide) (fun q e => by have := hoy.lt q e; omega) (ob_none) (fun c_27 => ?_) (fun c_27 => ?_)
    · refine lv_aload_n hx hb d_C_renameClashes_40 rfl (lv_at hl 2 rfl) ?_
      refine g_get (C := R_C) (T := T_C) (N := 15) (ci := 7) (v := .ref (ad (134))) hx hb hg i_C hown hK hP 0 (by decide) rfl rfl 6 (by decide) (hg _ k_134) rfl d_C_renameClashes_41 ?_
      refine lv_iload_n hx hb d_C_renameClashes_44 rfl (lv_at hl 3 rfl) ?_
      refine c_V (own := R_C) (index := 347) (As := [.int (nI (a))]) (rest := []) hx hb hml hown hg hK NXc.same hN.warm (fun _ h => h) hP hS 134 (c_G_next l D cI cC cZ cT ad hI M n hn60 st hS6 (a) (by omega)) (by decide) (ci := 4) rfl rfl k_708 k_709 k_710 k_6 k_711 1 rfl (by decide +kernel) (by decide) rfl hl.1 (Nat.le_of_ble_eq_true rfl) d_C_renameClashes_45 (fun v M' H locs hq hP _ _ hS => ?_)
      obtain ⟨rfl, rfl⟩ := hq
      refine W.eq (g2 := F0 m 48 ls [.int (oI (st (a)))]) rfl ?_
      refine lv_iconst (v := -1) hx hb d_C_renameClashes_48 (by decide) ?_
      refine oo_eq (a := st (a)) (b := none) (tgt := 87) hx hb d_C_renameClashes_49 (by decide) (fun q e => by have := hsn _ q e; omega) (ob_none) (fun c_49 => ?_) (fun c_49 => ?_)
      · refine lv_aload_n hx hb d_C_renameClashes_87 rfl (lv_at hl 2 rfl) ?_
        refine g_get (C := R_C) (T := T_C) (N := 15) (ci := 7) (v := .ref (ad (134))) hx hb hg i_C hown hK hP 0 (by decide) rfl rfl 6 (by decide) (hg _ k_134) rfl d_C_renameClashes_88 ?_
        refine lv_iload_n hx hb d_C_renameClashes_91 rfl (lv_at hl 3 rfl) ?_
        refine lv_iload_n hx hb d_C_renameClashes_92 rfl (lv_at hl 4 rfl) ?_
        refine c_V (own := R_C) (index := 247) (As := [.int (nI (a)), .int (nI (d9))]) (rest := []) hx hb hml hown hg hK NXc.same hN.warm (fun _ h => h) hP hS 134 (c_G_leads l D cI cC cZ cT ad hI M n hn60 st hS6 rk hRk hr60 (a) (d9) (by omega) (by omega) t1 ht1) (by decide) (ci := 4) rfl rfl k_657 k_658 k_659 k_6 k_660 2 rfl (by decide +kernel) (by decide) rfl hl.1 (Nat.le_of_ble_eq_true rfl) d_C_renameClashes_93 (fun v M' H locs hq hP _ _ hS => ?_)
        obtain ⟨rfl, rfl⟩ := hq
        refine W.eq (g2 := F0 m 96 ls [.int (bI (t1))]) rfl ?_
        refine z_ne (t := t1) (tgt := 111) hx hb d_C_renameClashes_96 (by decide) (fun c_96 => ?_) (fun c_96 => ?_)
        · exact absurd (Or.inl (ht1.mp c_96)) hL
        · refine lv_aload_n hx hb d_C_renameClashes_99 rfl (lv_at hl 2 rfl) ?_
          refine g_get (C := R_C) (T := T_C) (N := 15) (ci := 7) (v := .ref (ad (134))) hx hb hg i_C hown hK hP 0 (by decide) rfl rfl 6 (by decide) (hg _ k_134) rfl d_C_renameClashes_100 ?_
          refine lv_iload_n hx hb d_C_renameClashes_103 rfl (lv_at hl 4 rfl) ?_
          refine lv_iload_n hx hb d_C_renameClashes_104 rfl (lv_at hl 3 rfl) ?_
          refine c_V (own := R_C) (index := 247) (As := [.int (nI (d9)), .int (nI (a))]) (rest := []) hx hb hml hown hg hK NXc.same hN.warm (fun _ h => h) hP hS 134 (c_G_leads l D cI cC cZ cT ad hI M n hn60 st hS6 rk hRk hr60 (d9) (a) (by omega) (by omega) t2 ht2) (by decide) (ci := 4) rfl rfl k_657 k_658 k_659 k_6 k_660 2 rfl (by decide +kernel) (by decide) rfl hl.1 (Nat.le_of_ble_eq_true rfl) d_C_renameClashes_105 (fun v M' H locs hq hP _ _ hS => ?_)
          obtain ⟨rfl, rfl⟩ := hq
          refine W.eq (g2 := F0 m 108 ls [.int (bI (t2))]) rfl ?_
          refine z_eq (t := t2) (tgt := 120) hx hb d_C_renameClashes_108 (by decide) (fun c_108 => ?_) (fun c_108 => ?_)
          · refine n_const (k := 0) hx hb d_C_renameClashes_120 (by decide) ?_
            exact r_z hx hb hr hlocks (rfl) hP hS (⟨rfl, rfl⟩) d_C_renameClashes_121
          · exact absurd (Or.inr (ht2.mp c_108)) hL
      · refine lv_aload_n hx hb d_C_renameClashes_52 rfl (lv_at hl 2 rfl) ?_
        refine g_get (C := R_C) (T := T_C) (N := 15) (ci := 7) (v := .ref (ad (134))) hx hb hg i_C hown hK hP 0 (by decide) rfl rfl 6 (by decide) (hg _ k_134) rfl d_C_renameClashes_53 ?_
        refine lv_iload_n hx hb d_C_renameClashes_56 rfl (lv_at hl 4 rfl) ?_
        refine c_V (own := R_C) (index := 347) (As := [.int (nI (d9))]) (rest := []) hx hb hml hown hg hK NXc.same hN.warm (fun _ h => h) hP hS 134 (c_G_next l D cI cC cZ cT ad hI M n hn60 st hS6 (d9) (by omega)) (by decide) (ci := 4) rfl rfl k_708 k_709 k_710 k_6 k_711 1 rfl (by decide +kernel) (by decide) rfl hl.1 (Nat.le_of_ble_eq_true rfl) d_C_renameClashes_57 (fun v M' H locs hq hP _ _ hS => ?_)
        obtain ⟨rfl, rfl⟩ := hq
        refine W.eq (g2 := F0 m 60 ls [.int (oI (st (d9)))]) rfl ?_
        refine lv_iconst (v := -1) hx hb d_C_renameClashes_60 (by decide) ?_
        refine oo_eq (a := st (d9)) (b := none) (tgt := 87) hx hb d_C_renameClashes_61 (by decide) (fun q e => by have := hsn _ q e; omega) (ob_none) (fun c_61 => ?_) (fun c_61 => ?_)
        · refine lv_aload_n hx hb d_C_renameClashes_87 rfl (lv_at hl 2 rfl) ?_
          refine g_get (C := R_C) (T := T_C) (N := 15) (ci := 7) (v := .ref (ad (134))) hx hb hg i_C hown hK hP 0 (by decide) rfl rfl 6 (by decide) (hg _ k_134) rfl d_C_renameClashes_88 ?_
          refine lv_iload_n hx hb d_C_renameClashes_91 rfl (lv_at hl 3 rfl) ?_
          refine lv_iload_n hx hb d_C_renameClashes_92 rfl (lv_at hl 4 rfl) ?_
          refine c_V (own := R_C) (index := 247) (As := [.int (nI (a)), .int (nI (d9))]) (rest := []) hx hb hml hown hg hK NXc.same hN.warm (fun _ h => h) hP hS 134 (c_G_leads l D cI cC cZ cT ad hI M n hn60 st hS6 rk hRk hr60 (a) (d9) (by omega) (by omega) t1 ht1) (by decide) (ci := 4) rfl rfl k_657 k_658 k_659 k_6 k_660 2 rfl (by decide +kernel) (by decide) rfl hl.1 (Nat.le_of_ble_eq_true rfl) d_C_renameClashes_93 (fun v M' H locs hq hP _ _ hS => ?_)
          obtain ⟨rfl, rfl⟩ := hq
          refine W.eq (g2 := F0 m 96 ls [.int (bI (t1))]) rfl ?_
          refine z_ne (t := t1) (tgt := 111) hx hb d_C_renameClashes_96 (by decide) (fun c_96 => ?_) (fun c_96 => ?_)
          · exact absurd (Or.inl (ht1.mp c_96)) hL
          · refine lv_aload_n hx hb d_C_renameClashes_99 rfl (lv_at hl 2 rfl) ?_
            refine g_get (C := R_C) (T := T_C) (N := 15) (ci := 7) (v := .ref (ad (134))) hx hb hg i_C hown hK hP 0 (by decide) rfl rfl 6 (by decide) (hg _ k_134) rfl d_C_renameClashes_100 ?_
            refine lv_iload_n hx hb d_C_renameClashes_103 rfl (lv_at hl 4 rfl) ?_
            refine lv_iload_n hx hb d_C_renameClashes_104 rfl (lv_at hl 3 rfl) ?_
            refine c_V (own := R_C) (index := 247) (As := [.int (nI (d9)), .int (nI (a))]) (rest := []) hx hb hml hown hg hK NXc.same hN.warm (fun _ h => h) hP hS 134 (c_G_leads l D cI cC cZ cT ad hI M n hn60 st hS6 rk hRk hr60 (d9) (a) (by omega) (by omega) t2 ht2) (by decide) (ci := 4) rfl rfl k_657 k_658 k_659 k_6 k_660 2 rfl (by decide +kernel) (by decide) rfl hl.1 (Nat.le_of_ble_eq_true rfl) d_C_renameClashes_105 (fun v M' H locs hq hP _ _ hS => ?_)
            obtain ⟨rfl, rfl⟩ := hq
            refine W.eq (g2 := F0 m 108 ls [.int (bI (t2))]) rfl ?_
            refine z_eq (t := t2) (tgt := 120) hx hb d_C_renameClashes_108 (by decide) (fun c_108 => ?_) (fun c_108 => ?_)
            · refine n_const (k := 0) hx hb d_C_renameClashes_120 (by decide) ?_
              exact r_z hx hb hr hlocks (rfl) hP hS (⟨rfl, rfl⟩) d_C_renameClashes_121
            · exact absurd (Or.inr (ht2.mp c_108)) hL
        · exact absurd hno5 (fun h => by rcases h with h | h; exact c_49 h; exact c_61 h)
    · exact absurd hno (fun h => by rcases h with h | h; exact c_21 h; exact c_27 h)
