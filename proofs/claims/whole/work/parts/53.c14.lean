theorem lt3 {x : Int32} (h : x < nI 3) : x ≤ nI 2 := by
  rw [Int32.lt_iff_toInt_lt, nI_toInt (by decide)] at h
  rw [Int32.le_iff_toInt_le, nI_toInt (by decide)]
  omega
set_option maxHeartbeats 4000000 in
set_option maxRecDepth 100000 in
theorem c_C_print_n (l : Launch) (D : va_G) (cI cC cZ cT : ClassId) (ad : Nat → Nat) (hI : GI 144 ad) (M : PM) (n : Nat) (len : Nat → Nat) (ch : Nat → Nat → Nat) (hN7 : CN M n len ch) (sp bs : Nat → Option Nat) (hH : CSp M n sp bs) (hbsp : ∀ k, k < n → (bs k ≠ none ↔ isSp n sp k)) (a : Nat) (ha : a < n) (hO : Best (spC n len ch sp a) len n none) : MD l D cI cC cZ cT ad y_C_print b_C_print 4 (some .int) 3 66 [.ref (ad (0)), .int (nI (a))] M (fun v M' => v = some (.int (nI (len a + 2))) ∧ TT M' 3 (len a + 2) (scP0 len ch a) ∧ FT 3 M M') := by
  refine MC.of (by decide) (Nat.le_of_ble_eq_true rfl) ?_
  intro p e s m below meth c ls hx hb hr hml hown hg hlocks hK hN hP hS hl
  have hown : s.vm.findClass R_C = some m.cls := hown
  have hl : lv_has ls 4 [(0, .ref (ad (0))), (1, .int (nI (a)))] := hl
  have hn60 := hN7.1
  have hnm := hN7.2.2.1
  have la := hnm a ha
  have hF := FT.rf 3 M
  refine lv_aload_n hx hb d_C_print_0 rfl (lv_at hl 0 rfl) ?_
  refine lv_iload_n hx hb d_C_print_1 rfl (lv_at hl 1 rfl) ?_
  refine c_V (own := R_C) (index := 131) (As := [.int (nI (a))]) (rest := []) hx hb hml hown hg hK NXc.same hN.warm (fun _ h => h) hP hS 0 (c_C_rqn l D cI cC cZ cT ad hI M n len ch hN7 (a) (by omega)) (by decide) (ci := 7) rfl rfl k_401 k_403 k_p5 k_1 k_404 1 rfl (by decide +kernel) (by decide) rfl hl.1 (Nat.le_of_ble_eq_true rfl) d_C_print_2 (fun v M' H locs hq hP _ _ hS => ?_)
  obtain ⟨rfl, rfl⟩ := hq
  refine W.eq (g2 := F0 m 5 ls []) rfl ?_
  refine lv_aload_n hx hb d_C_print_5 rfl (lv_at hl 0 rfl) ?_
  refine g_get (C := R_C) (T := T_C) (N := 15) (ci := 7) (v := .ref (ad (7))) hx hb hg i_C hown hK hP 0 (by decide) rfl rfl 3 (by decide) (hg _ k_131) rfl d_C_print_6 ?_
  refine lv_iload_n hx hb d_C_print_9 rfl (lv_at hl 1 rfl) ?_
  refine c_V (own := R_C) (index := 134) (As := [.int (nI (a))]) (rest := []) hx hb hml hown hg hK NXc.same hN.warm (fun _ h => h) hP hS 7 (c_N_text l D cI cC cZ cT ad hI M (a) (by omega)) (by decide) (ci := 0) rfl rfl k_387 k_388 k_389 k_3 k_390 1 rfl (by decide +kernel) (by decide) rfl hl.1 (Nat.le_of_ble_eq_true rfl) d_C_print_10 (fun v M' H locs hq hP _ _ hS => ?_)
  obtain ⟨rfl, rfl⟩ := hq
  refine W.eq (g2 := F0 m 13 ls [.ref (ad (9 + 2 * (a)))]) rfl ?_
  refine lv_astore_n (lv' := [(2, .ref (ad (9 + 2 * (a)))), (0, .ref (ad (0))), (1, .int (nI (a)))]) hx hb d_C_print_13 rfl hl (by decide) rfl (fun ls hl => ?_)
  refine lv_aload_n hx hb d_C_print_14 rfl (lv_at hl 1 rfl) ?_
  refine g_get (C := R_C) (T := T_C) (N := 15) (ci := 7) (v := .ref (ad (129))) hx hb hg i_C hown hK hP 0 (by decide) rfl rfl 4 (by decide) (hg _ k_132) rfl d_C_print_15 ?_
  refine lv_iload_n hx hb d_C_print_18 rfl (lv_at hl 2 rfl) ?_
  refine c_V (own := R_C) (index := 155) (As := [.int (nI (a))]) (rest := []) hx hb hml hown hg hK NXc.same hN.warm (fun _ h => h) hP hS 129 (c_H_spaceOfName l D cI cC cZ cT ad hI M n len ch hN7 sp bs hH hbsp a ha (none) hO) (by decide) (ci := 3) rfl rfl k_457 k_458 k_459 k_4 k_460 1 rfl (by decide +kernel) (by decide) rfl hl.1 (Nat.le_of_ble_eq_true rfl) d_C_print_19 (fun v M' H locs hq hP _ _ hS => ?_)
  obtain ⟨rfl, rfl⟩ := hq
  refine W.eq (g2 := F0 m 22 ls [.int (-1)]) rfl ?_
  refine lv_istore_n (lv' := [(3, .int (-1)), (2, .ref (ad (9 + 2 * (a)))), (0, .ref (ad (0))), (1, .int (nI (a)))]) hx hb d_C_print_22 rfl hl (by decide) rfl (fun ls hl => ?_)
  refine lv_aload_n hx hb d_C_print_23 rfl (lv_at hl 2 rfl) ?_
  refine g_get (C := R_C) (T := T_C) (N := 15) (ci := 7) (v := .ref (ad (3))) hx hb hg i_C hown hK hP 0 (by decide) rfl rfl 1 (by decide) (hg _ k_129) rfl d_C_print_24 ?_
  refine c_V (own := R_C) (index := 113) (As := []) (rest := []) hx hb hml hown hg hK NXc.same hN.warm (fun _ h => h) hP hS 3 (c_T_empty l D cI cC cZ cT ad hI M 3 tx3) (tx_lt tx3) (ci := 6) (cfC_T tx3 _) rfl k_183 k_184 k_185 k_2 k_186 0 rfl (by decide +kernel) (by decide) rfl hl.1 (Nat.le_of_ble_eq_true rfl) d_C_print_27 (fun v M_1 H locs hq hP _ _ hS => ?_)
  obtain ⟨rfl, eM_1⟩ := hq
  have hB : TT M_1 3 0 (scP0 len ch a) := by rw [eM_1]; exact TT.emp _ _ _
  have hF : FT 3 M M_1 := hF.tr (by rw [eM_1]; exact FT.emp _ _ _)
  refine W.eq (g2 := F0 m 30 ls []) rfl ?_
  refine lv_iload_n hx hb d_C_print_30 rfl (lv_at hl 0 rfl) ?_
  refine lv_iconst (v := -1) hx hb d_C_print_31 (by decide) ?_
  refine lv_icmp_ne (tgt := 64) hx hb d_C_print_32 (by decide) (fun c_32 => ?_) (fun c_32 => ?_)
  · exact absurd rfl c_32
  · refine lv_aload_n hx hb d_C_print_35 rfl (lv_at hl 2 rfl) ?_
    refine g_get (C := R_C) (T := T_C) (N := 15) (ci := 7) (v := .ref (ad (3))) hx hb hg i_C hown hK hP 0 (by decide) rfl rfl 1 (by decide) (hg _ k_129) rfl d_C_print_36 ?_
    refine n_bipush (k := 60) hx hb d_C_print_39 (by decide) ?_
    refine c_V (own := R_C) (index := 105) (As := [.int (nI (60))]) (rest := []) hx hb hml hown hg hK NXc.same hN.warm (fun _ h => h) hP hS 3 (c_T_put l D cI cC cZ cT ad hI M_1 3 tx3 (0) (scP0 len ch a) hB (60) (by decide) (by rw [cap3]; omega)) (tx_lt tx3) (ci := 6) (cfC_T tx3 _) rfl k_293 k_294 k_295 k_2 k_296 1 rfl (by decide +kernel) (by decide) rfl hl.1 (Nat.le_of_ble_eq_true rfl) d_C_print_41 (fun v M_2 H locs hq hP _ _ hS => ?_)
    obtain ⟨rfl, eM_2⟩ := hq
    rw [show 60 = (scP0 len ch a) (0) from rfl] at eM_2
    have hB : TT M_2 3 (0 + 1) (scP0 len ch a) := by rw [eM_2]; exact hB.add (by rw [cap3]; omega) (by unfold scP0; rw [if_pos rfl]; decide)
    have hF : FT 3 M M_2 := hF.tr (by rw [eM_2]; exact FT.add _ _ _ _ _)
    refine W.eq (g2 := F0 m 44 ls []) rfl ?_
    refine lv_aload_n hx hb d_C_print_44 rfl (lv_at hl 2 rfl) ?_
    refine g_get (C := R_C) (T := T_C) (N := 15) (ci := 7) (v := .ref (ad (3))) hx hb hg i_C hown hK hP 0 (by decide) rfl rfl 1 (by decide) (hg _ k_129) rfl d_C_print_45 ?_
    refine lv_aload_n hx hb d_C_print_48 rfl (lv_at hl 1 rfl) ?_
    refine c_V (own := R_C) (index := 186) (As := [.ref (ad (9 + 2 * (a)))]) (rest := []) hx hb hml hown hg hK NXc.same hN.warm (fun _ h => h) hP hS 3 (c_T_putAll l D cI cC cZ cT ad hI M_2 3 tx3 (0 + 1) (scP0 len ch a) hB (9 + 2 * a) (txn (by omega)) (len a) (ch a) ((hN7.ft hF (by decide)).2.2.1 a ha).2.2.2 (tn3 _) (by rw [cap3]; omega) (fun i h => by unfold scP0; rw [if_neg (by omega), if_pos (by omega)]; congr 1; omega)) (tx_lt tx3) (ci := 6) (cfC_T tx3 _) rfl k_391 k_354 k_355 k_2 k_356 1 rfl (by decide +kernel) (by decide) rfl hl.1 (Nat.le_of_ble_eq_true rfl) d_C_print_49 (fun v M_3 H locs hq hP _ _ hS => ?_)
    obtain ⟨rfl, hB, hFx⟩ := hq
    have hF : FT 3 M M_3 := hF.tr hFx
    refine W.eq (g2 := F0 m 52 ls []) rfl ?_
    refine lv_aload_n hx hb d_C_print_52 rfl (lv_at hl 2 rfl) ?_
    refine g_get (C := R_C) (T := T_C) (N := 15) (ci := 7) (v := .ref (ad (3))) hx hb hg i_C hown hK hP 0 (by decide) rfl rfl 1 (by decide) (hg _ k_129) rfl d_C_print_53 ?_
    refine n_bipush (k := 62) hx hb d_C_print_56 (by decide) ?_
    refine c_V (own := R_C) (index := 105) (As := [.int (nI (62))]) (rest := []) hx hb hml hown hg hK NXc.same hN.warm (fun _ h => h) hP hS 3 (c_T_put l D cI cC cZ cT ad hI M_3 3 tx3 (0 + 1 + len a) (scP0 len ch a) hB (62) (by decide) (by rw [cap3]; omega)) (tx_lt tx3) (ci := 6) (cfC_T tx3 _) rfl k_293 k_294 k_295 k_2 k_296 1 rfl (by decide +kernel) (by decide) rfl hl.1 (Nat.le_of_ble_eq_true rfl) d_C_print_58 (fun v M_4 H locs hq hP _ _ hS => ?_)
    obtain ⟨rfl, eM_4⟩ := hq
    rw [show 62 = (scP0 len ch a) (0 + 1 + len a) from (by unfold scP0; rw [if_neg (by omega), if_neg (by omega)])] at eM_4
    have hB : TT M_4 3 (0 + 1 + len a + 1) (scP0 len ch a) := by rw [eM_4]; exact hB.add (by rw [cap3]; omega) (by unfold scP0; rw [if_neg (by omega), if_neg (by omega)]; decide)
    have hF : FT 3 M M_4 := hF.tr (by rw [eM_4]; exact FT.add _ _ _ _ _)
    refine W.eq (g2 := F0 m 61 ls []) rfl ?_
    refine lv_goto (tgt := 118) hx hb d_C_print_61 (by decide) ?_
    refine lv_aload_n hx hb d_C_print_118 rfl (lv_at hl 2 rfl) ?_
    refine g_get (C := R_C) (T := T_C) (N := 15) (ci := 7) (v := .ref (ad (3))) hx hb hg i_C hown hK hP 0 (by decide) rfl rfl 1 (by decide) (hg _ k_129) rfl d_C_print_119 ?_
    refine c_V (own := R_C) (index := 109) (As := []) (rest := []) hx hb hml hown hg hK NXc.same hN.warm (fun _ h => h) hP hS 3 (c_T_length l D cI cC cZ cT ad hI M_4 3 tx3 (0 + 1 + len a + 1) (scP0 len ch a) hB) (tx_lt tx3) (ci := 6) (cfC_T tx3 _) rfl k_179 k_180 k_181 k_2 k_182 0 rfl (by decide +kernel) (by decide) rfl hl.1 (Nat.le_of_ble_eq_true rfl) d_C_print_122 (fun v M' H locs hq hP _ _ hS => ?_)
    obtain ⟨rfl, rfl⟩ := hq
    refine W.eq (g2 := F0 m 125 ls [.int (nI (0 + 1 + len a + 1))]) rfl ?_
    exact r_i hx hb hr hlocks hP hS (⟨by rw [show len a + 2 = 0 + 1 + len a + 1 by omega], by rw [show len a + 2 = 0 + 1 + len a + 1 by omega]; exact hB, hF⟩) d_C_print_125

set_option maxHeartbeats 4000000 in
set_option maxRecDepth 100000 in
theorem c_C_print_s (l : Launch) (D : va_G) (cI cC cZ cT : ClassId) (ad : Nat → Nat) (hI : GI 144 ad) (M : PM) (n : Nat) (len : Nat → Nat) (ch : Nat → Nat → Nat) (hN7 : CN M n len ch) (sp bs : Nat → Option Nat) (hH : CSp M n sp bs) (hbsp : ∀ k, k < n → (bs k ≠ none ↔ isSp n sp k)) (a : Nat) (ha : a < n) (s9 b9 : Nat) (hO : Best (spC n len ch sp a) len n (some s9)) (hb8 : bs s9 = some b9) (h4 : len b9 ≤ 4) : MD l D cI cC cZ cT ad y_C_print b_C_print 4 (some .int) 3 66 [.ref (ad (0)), .int (nI (a))] M (fun v M' => v = some (.int (nI (len b9 + 1 + (len a - len s9)))) ∧ TT M' 3 (len b9 + 1 + (len a - len s9)) (scP1 len ch a s9 b9) ∧ FT 3 M M') := by
  refine MC.of (by decide) (Nat.le_of_ble_eq_true rfl) ?_
  intro p e s m below meth c ls hx hb hr hml hown hg hlocks hK hN hP hS hl
  have hown : s.vm.findClass R_C = some m.cls := hown
  have hl : lv_has ls 4 [(0, .ref (ad (0))), (1, .int (nI (a)))] := hl
  have hn60 := hN7.1
  have hnm := hN7.2.2.1
  have la := hnm a ha
  have hs9n := hO.1
  have hb9n := (hH.2.2.2 s9 b9 hb8).2
  have lb := hnm b9 hb9n
  have ls9 := hnm s9 hs9n
  have hgo := hO.2.1.1
  have hgo1 := hgo.1
  have hF := FT.rf 3 M
  refine lv_aload_n hx hb d_C_print_0 rfl (lv_at hl 0 rfl) ?_
  refine lv_iload_n hx hb d_C_print_1 rfl (lv_at hl 1 rfl) ?_
  refine c_V (own := R_C) (index := 131) (As := [.int (nI (a))]) (rest := []) hx hb hml hown hg hK NXc.same hN.warm (fun _ h => h) hP hS 0 (c_C_rqn l D cI cC cZ cT ad hI M n len ch hN7 (a) (by omega)) (by decide) (ci := 7) rfl rfl k_401 k_403 k_p5 k_1 k_404 1 rfl (by decide +kernel) (by decide) rfl hl.1 (Nat.le_of_ble_eq_true rfl) d_C_print_2 (fun v M' H locs hq hP _ _ hS => ?_)
  obtain ⟨rfl, rfl⟩ := hq
  refine W.eq (g2 := F0 m 5 ls []) rfl ?_
  refine lv_aload_n hx hb d_C_print_5 rfl (lv_at hl 0 rfl) ?_
  refine g_get (C := R_C) (T := T_C) (N := 15) (ci := 7) (v := .ref (ad (7))) hx hb hg i_C hown hK hP 0 (by decide) rfl rfl 3 (by decide) (hg _ k_131) rfl d_C_print_6 ?_
  refine lv_iload_n hx hb d_C_print_9 rfl (lv_at hl 1 rfl) ?_
  refine c_V (own := R_C) (index := 134) (As := [.int (nI (a))]) (rest := []) hx hb hml hown hg hK NXc.same hN.warm (fun _ h => h) hP hS 7 (c_N_text l D cI cC cZ cT ad hI M (a) (by omega)) (by decide) (ci := 0) rfl rfl k_387 k_388 k_389 k_3 k_390 1 rfl (by decide +kernel) (by decide) rfl hl.1 (Nat.le_of_ble_eq_true rfl) d_C_print_10 (fun v M' H locs hq hP _ _ hS => ?_)
  obtain ⟨rfl, rfl⟩ := hq
  refine W.eq (g2 := F0 m 13 ls [.ref (ad (9 + 2 * (a)))]) rfl ?_
  refine lv_astore_n (lv' := [(2, .ref (ad (9 + 2 * (a)))), (0, .ref (ad (0))), (1, .int (nI (a)))]) hx hb d_C_print_13 rfl hl (by decide) rfl (fun ls hl => ?_)
  refine lv_aload_n hx hb d_C_print_14 rfl (lv_at hl 1 rfl) ?_
  refine g_get (C := R_C) (T := T_C) (N := 15) (ci := 7) (v := .ref (ad (129))) hx hb hg i_C hown hK hP 0 (by decide) rfl rfl 4 (by decide) (hg _ k_132) rfl d_C_print_15 ?_
  refine lv_iload_n hx hb d_C_print_18 rfl (lv_at hl 2 rfl) ?_
  refine c_V (own := R_C) (index := 155) (As := [.int (nI (a))]) (rest := []) hx hb hml hown hg hK NXc.same hN.warm (fun _ h => h) hP hS 129 (c_H_spaceOfName l D cI cC cZ cT ad hI M n len ch hN7 sp bs hH hbsp a ha (some s9) hO) (by decide) (ci := 3) rfl rfl k_457 k_458 k_459 k_4 k_460 1 rfl (by decide +kernel) (by decide) rfl hl.1 (Nat.le_of_ble_eq_true rfl) d_C_print_19 (fun v M' H locs hq hP _ _ hS => ?_)
  obtain ⟨rfl, rfl⟩ := hq
  refine W.eq (g2 := F0 m 22 ls [.int (nI (s9))]) rfl ?_
  refine lv_istore_n (lv' := [(3, .int (nI (s9))), (2, .ref (ad (9 + 2 * (a)))), (0, .ref (ad (0))), (1, .int (nI (a)))]) hx hb d_C_print_22 rfl hl (by decide) rfl (fun ls hl => ?_)
  refine lv_aload_n hx hb d_C_print_23 rfl (lv_at hl 2 rfl) ?_
  refine g_get (C := R_C) (T := T_C) (N := 15) (ci := 7) (v := .ref (ad (3))) hx hb hg i_C hown hK hP 0 (by decide) rfl rfl 1 (by decide) (hg _ k_129) rfl d_C_print_24 ?_
  refine c_V (own := R_C) (index := 113) (As := []) (rest := []) hx hb hml hown hg hK NXc.same hN.warm (fun _ h => h) hP hS 3 (c_T_empty l D cI cC cZ cT ad hI M 3 tx3) (tx_lt tx3) (ci := 6) (cfC_T tx3 _) rfl k_183 k_184 k_185 k_2 k_186 0 rfl (by decide +kernel) (by decide) rfl hl.1 (Nat.le_of_ble_eq_true rfl) d_C_print_27 (fun v M_1 H locs hq hP _ _ hS => ?_)
  obtain ⟨rfl, eM_1⟩ := hq
  have hB : TT M_1 3 0 (scP1 len ch a s9 b9) := by rw [eM_1]; exact TT.emp _ _ _
  have hF : FT 3 M M_1 := hF.tr (by rw [eM_1]; exact FT.emp _ _ _)
  refine W.eq (g2 := F0 m 30 ls []) rfl ?_
  refine lv_iload_n hx hb d_C_print_30 rfl (lv_at hl 0 rfl) ?_
  refine lv_iconst (v := -1) hx hb d_C_print_31 (by decide) ?_
  refine lv_icmp_ne (tgt := 64) hx hb d_C_print_32 (by decide) (fun c_32 => ?_) (fun c_32 => ?_)
  · refine lv_aload_n hx hb d_C_print_64 rfl (lv_at hl 2 rfl) ?_
    refine g_get (C := R_C) (T := T_C) (N := 15) (ci := 7) (v := .ref (ad (3))) hx hb hg i_C hown hK hP 0 (by decide) rfl rfl 1 (by decide) (hg _ k_129) rfl d_C_print_65 ?_
    refine lv_aload_n hx hb d_C_print_68 rfl (lv_at hl 2 rfl) ?_
    refine g_get (C := R_C) (T := T_C) (N := 15) (ci := 7) (v := .ref (ad (7))) hx hb hg i_C hown hK hP 0 (by decide) rfl rfl 3 (by decide) (hg _ k_131) rfl d_C_print_69 ?_
    refine lv_aload_n hx hb d_C_print_72 rfl (lv_at hl 2 rfl) ?_
    refine g_get (C := R_C) (T := T_C) (N := 15) (ci := 7) (v := .ref (ad (129))) hx hb hg i_C hown hK hP 0 (by decide) rfl rfl 4 (by decide) (hg _ k_132) rfl d_C_print_73 ?_
    refine lv_iload_n hx hb d_C_print_76 rfl (lv_at hl 0 rfl) ?_
    refine c_V (own := R_C) (index := 158) (As := [.int (nI (s9))]) (rest := [.ref (ad (7)), .ref (ad (3))]) hx hb hml hown hg hK NXc.same hN.warm (fun _ h => h) hP hS 129 (c_H_bestOfSpace_s l D cI cC cZ cT ad hI M_1 n sp bs (hH.ft hF (by decide)) s9 (by omega)) (by decide) (ci := 3) rfl rfl k_477 k_478 k_479 k_4 k_480 1 rfl (by decide +kernel) (by decide) rfl hl.1 (Nat.le_of_ble_eq_true rfl) d_C_print_77 (fun v M' H locs hq hP _ _ hS => ?_)
    obtain ⟨rfl, rfl⟩ := hq
    rw [hb8]
    refine W.eq (g2 := F0 m 80 ls [.int (nI (b9)), .ref (ad (7)), .ref (ad (3))]) rfl ?_
    refine c_V (own := R_C) (index := 134) (As := [.int (nI (b9))]) (rest := [.ref (ad (3))]) hx hb hml hown hg hK NXc.same hN.warm (fun _ h => h) hP hS 7 (c_N_text l D cI cC cZ cT ad hI M_1 (b9) (by omega)) (by decide) (ci := 0) rfl rfl k_387 k_388 k_389 k_3 k_390 1 rfl (by decide +kernel) (by decide) rfl hl.1 (Nat.le_of_ble_eq_true rfl) d_C_print_80 (fun v M' H locs hq hP _ _ hS => ?_)
    obtain ⟨rfl, rfl⟩ := hq
    refine W.eq (g2 := F0 m 83 ls [.ref (ad (9 + 2 * (b9))), .ref (ad (3))]) rfl ?_
    refine c_V (own := R_C) (index := 186) (As := [.ref (ad (9 + 2 * (b9)))]) (rest := []) hx hb hml hown hg hK NXc.same hN.warm (fun _ h => h) hP hS 3 (c_T_putAll l D cI cC cZ cT ad hI M_1 3 tx3 (0) (scP1 len ch a s9 b9) hB (9 + 2 * b9) (txn (by omega)) (len b9) (ch b9) ((hN7.ft hF (by decide)).2.2.1 b9 hb9n).2.2.2 (tn3 _) (by rw [cap3]; omega) (fun i h => by unfold scP1; rw [if_pos (by omega)]; congr 1; omega)) (tx_lt tx3) (ci := 6) (cfC_T tx3 _) rfl k_391 k_354 k_355 k_2 k_356 1 rfl (by decide +kernel) (by decide) rfl hl.1 (Nat.le_of_ble_eq_true rfl) d_C_print_83 (fun v M_2 H locs hq hP _ _ hS => ?_)
    obtain ⟨rfl, hB, hFx⟩ := hq
    have hF : FT 3 M M_2 := hF.tr hFx
    refine W.eq (g2 := F0 m 86 ls []) rfl ?_
    refine lv_aload_n hx hb d_C_print_86 rfl (lv_at hl 2 rfl) ?_
    refine g_get (C := R_C) (T := T_C) (N := 15) (ci := 7) (v := .ref (ad (3))) hx hb hg i_C hown hK hP 0 (by decide) rfl rfl 1 (by decide) (hg _ k_129) rfl d_C_print_87 ?_
    refine n_bipush (k := 58) hx hb d_C_print_90 (by decide) ?_
    refine c_V (own := R_C) (index := 105) (As := [.int (nI (58))]) (rest := []) hx hb hml hown hg hK NXc.same hN.warm (fun _ h => h) hP hS 3 (c_T_put l D cI cC cZ cT ad hI M_2 3 tx3 (0 + len b9) (scP1 len ch a s9 b9) hB (58) (by decide) (by rw [cap3]; omega)) (tx_lt tx3) (ci := 6) (cfC_T tx3 _) rfl k_293 k_294 k_295 k_2 k_296 1 rfl (by decide +kernel) (by decide) rfl hl.1 (Nat.le_of_ble_eq_true rfl) d_C_print_92 (fun v M_3 H locs hq hP _ _ hS => ?_)
    obtain ⟨rfl, eM_3⟩ := hq
    rw [show 58 = (scP1 len ch a s9 b9) (0 + len b9) from (by unfold scP1; rw [if_neg (by omega), if_pos (by omega)])] at eM_3
    have hB : TT M_3 3 (0 + len b9 + 1) (scP1 len ch a s9 b9) := by rw [eM_3]; exact hB.add (by rw [cap3]; omega) (by unfold scP1; rw [if_neg (by omega), if_pos (by omega)]; decide)
    have hF : FT 3 M M_3 := hF.tr (by rw [eM_3]; exact FT.add _ _ _ _ _)
    refine W.eq (g2 := F0 m 95 ls []) rfl ?_
    refine lv_aload_n hx hb d_C_print_95 rfl (lv_at hl 2 rfl) ?_
    refine g_get (C := R_C) (T := T_C) (N := 15) (ci := 7) (v := .ref (ad (3))) hx hb hg i_C hown hK hP 0 (by decide) rfl rfl 1 (by decide) (hg _ k_129) rfl d_C_print_96 ?_
    refine lv_aload_n hx hb d_C_print_99 rfl (lv_at hl 1 rfl) ?_
    refine lv_aload_n hx hb d_C_print_100 rfl (lv_at hl 2 rfl) ?_
    refine g_get (C := R_C) (T := T_C) (N := 15) (ci := 7) (v := .ref (ad (7))) hx hb hg i_C hown hK hP 0 (by decide) rfl rfl 3 (by decide) (hg _ k_131) rfl d_C_print_101 ?_
    refine lv_iload_n hx hb d_C_print_104 rfl (lv_at hl 0 rfl) ?_
    refine c_V (own := R_C) (index := 134) (As := [.int (nI (s9))]) (rest := [.ref (ad (9 + 2 * (a))), .ref (ad (3))]) hx hb hml hown hg hK NXc.same hN.warm (fun _ h => h) hP hS 7 (c_N_text l D cI cC cZ cT ad hI M_3 (s9) (by omega)) (by decide) (ci := 0) rfl rfl k_387 k_388 k_389 k_3 k_390 1 rfl (by decide +kernel) (by decide) rfl hl.1 (Nat.le_of_ble_eq_true rfl) d_C_print_105 (fun v M' H locs hq hP _ _ hS => ?_)
    obtain ⟨rfl, rfl⟩ := hq
    refine W.eq (g2 := F0 m 108 ls [.ref (ad (9 + 2 * (s9))), .ref (ad (9 + 2 * (a))), .ref (ad (3))]) rfl ?_
    refine c_V (own := R_C) (index := 109) (As := []) (rest := [.ref (ad (9 + 2 * (a))), .ref (ad (3))]) hx hb hml hown hg hK NXc.same hN.warm (fun _ h => h) hP hS (9 + 2 * (s9)) (c_T_length l D cI cC cZ cT ad hI M_3 (9 + 2 * s9) (txn (by omega)) (len s9) (ch s9) ((hN7.ft hF (by decide)).2.2.1 s9 hs9n).2.2.2) (tx_lt (txn (by omega))) (ci := 6) (cfC_T (txn (by omega)) _) rfl k_179 k_180 k_181 k_2 k_182 0 rfl (by decide +kernel) (by decide) rfl hl.1 (Nat.le_of_ble_eq_true rfl) d_C_print_108 (fun v M' H locs hq hP _ _ hS => ?_)
    obtain ⟨rfl, rfl⟩ := hq
    refine W.eq (g2 := F0 m 111 ls [.int (nI (len s9)), .ref (ad (9 + 2 * (a))), .ref (ad (3))]) rfl ?_
    refine lv_aload_n hx hb d_C_print_111 rfl (lv_at hl 1 rfl) ?_
    refine c_V (own := R_C) (index := 109) (As := []) (rest := [.int (nI (len s9)), .ref (ad (9 + 2 * (a))), .ref (ad (3))]) hx hb hml hown hg hK NXc.same hN.warm (fun _ h => h) hP hS (9 + 2 * (a)) (c_T_length l D cI cC cZ cT ad hI M_3 (9 + 2 * a) (txn (by omega)) (len a) (ch a) ((hN7.ft hF (by decide)).2.2.1 a ha).2.2.2) (tx_lt (txn (by omega))) (ci := 6) (cfC_T (txn (by omega)) _) rfl k_179 k_180 k_181 k_2 k_182 0 rfl (by decide +kernel) (by decide) rfl hl.1 (Nat.le_of_ble_eq_true rfl) d_C_print_112 (fun v M' H locs hq hP _ _ hS => ?_)
    obtain ⟨rfl, rfl⟩ := hq
    refine W.eq (g2 := F0 m 115 ls [.int (nI (len a)), .int (nI (len s9)), .ref (ad (9 + 2 * (a))), .ref (ad (3))]) rfl ?_
    refine c_V (own := R_C) (index := 171) (As := [.ref (ad (9 + 2 * (a))), .int (nI (len s9)), .int (nI (len a))]) (rest := []) hx hb hml hown hg hK NXc.same hN.warm (fun _ h => h) hP hS 3 (c_T_putPart l D cI cC cZ cT ad hI M_3 3 tx3 (0 + len b9 + 1) (scP1 len ch a s9 b9) hB (9 + 2 * a) (txn (by omega)) (len a) (ch a) ((hN7.ft hF (by decide)).2.2.1 a ha).2.2.2 (len s9) (len a) (by omega) (by omega) (tn3 _) (by rw [cap3]; omega) (fun i h1 h2 => by unfold scP1; rw [if_neg (by omega), if_neg (by omega)]; congr 1; omega)) (tx_lt tx3) (ci := 6) (cfC_T tx3 _) rfl k_374 k_358 k_359 k_2 k_360 3 rfl (by decide +kernel) (by decide) rfl hl.1 (Nat.le_of_ble_eq_true rfl) d_C_print_115 (fun v M_4 H locs hq hP _ _ hS => ?_)
    obtain ⟨rfl, hB, hFx⟩ := hq
    have hF : FT 3 M M_4 := hF.tr hFx
    refine W.eq (g2 := F0 m 118 ls []) rfl ?_
    refine lv_aload_n hx hb d_C_print_118 rfl (lv_at hl 2 rfl) ?_
    refine g_get (C := R_C) (T := T_C) (N := 15) (ci := 7) (v := .ref (ad (3))) hx hb hg i_C hown hK hP 0 (by decide) rfl rfl 1 (by decide) (hg _ k_129) rfl d_C_print_119 ?_
    refine c_V (own := R_C) (index := 109) (As := []) (rest := []) hx hb hml hown hg hK NXc.same hN.warm (fun _ h => h) hP hS 3 (c_T_length l D cI cC cZ cT ad hI M_4 3 tx3 (0 + len b9 + 1 + (len a - len s9)) (scP1 len ch a s9 b9) hB) (tx_lt tx3) (ci := 6) (cfC_T tx3 _) rfl k_179 k_180 k_181 k_2 k_182 0 rfl (by decide +kernel) (by decide) rfl hl.1 (Nat.le_of_ble_eq_true rfl) d_C_print_122 (fun v M' H locs hq hP _ _ hS => ?_)
    obtain ⟨rfl, rfl⟩ := hq
    refine W.eq (g2 := F0 m 125 ls [.int (nI (0 + len b9 + 1 + (len a - len s9)))]) rfl ?_
    exact r_i hx hb hr hlocks hP hS (⟨by rw [Nat.zero_add], by rw [Nat.zero_add] at hB; exact hB, hF⟩) d_C_print_125
  · exact absurd c_32 (nI_m1 (by omega))

set_option maxHeartbeats 4000000 in
set_option maxRecDepth 100000 in
theorem x_C_row_1a (l : Launch) (D : va_G) (cI cC cZ cT : ClassId) (ad : Nat → Nat) (hI : GI 144 ad) (hlT : l.stackTraces = false) (M : PM) (n : Nat) (len : Nat → Nat) (ch : Nat → Nat → Nat) (hN7 : CN M n len ch) (x y : Int32) (hbad : ¬ ∃ j, j < n ∧ x = nI j) (z : Int32) : MX l D cI cC cZ cT ad y_C_row b_C_row 5 (some .int) 7 111 [.ref (ad (0)), .int (x), .int (y), .int (z)] M "java/lang/IndexOutOfBoundsException" (fun M' => M = M') := by
  refine MX.of (by decide) (Nat.le_of_ble_eq_true rfl) ?_
  intro p e s m below meth c ls hx hb hr hml hown hg hlocks hK hN hX hTb hP hS hl
  have hown : s.vm.findClass R_C = some m.cls := hown
  have hl : lv_has ls 5 [(0, .ref (ad (0))), (1, .int (x)), (2, .int (y)), (3, .int (z))] := hl
  refine lv_aload_n hx hb d_C_row_0 rfl (lv_at hl 0 rfl) ?_
  refine lv_iload_n hx hb d_C_row_1 rfl (lv_at hl 1 rfl) ?_
  exact x_V (own := R_C) (index := 131) (As := [.int (x)]) (rest := []) hx hb hml hown hg hK hN hX hTb hlocks hP hS 0 (x_C_rqn l D cI cC cZ cT ad hI hlT M n len ch hN7 (x) hbad) (by decide) (ci := 7) rfl rfl k_401 k_403 k_p5 k_1 k_404 1 rfl (by decide +kernel) (by decide) rfl hl.1 (Nat.le_of_ble_eq_true rfl) d_C_row_2 (fun _ h => h)

set_option maxHeartbeats 4000000 in
set_option maxRecDepth 100000 in
theorem x_C_row_1b (l : Launch) (D : va_G) (cI cC cZ cT : ClassId) (ad : Nat → Nat) (hI : GI 144 ad) (hlT : l.stackTraces = false) (M : PM) (n : Nat) (len : Nat → Nat) (ch : Nat → Nat → Nat) (hN7 : CN M n len ch) (a : Nat) (ha : a < n) (x : Int32) (hbad : ¬ ∃ j, j < n ∧ x = nI j) (z : Int32) : MX l D cI cC cZ cT ad y_C_row b_C_row 5 (some .int) 7 111 [.ref (ad (0)), .int (nI (a)), .int (x), .int (z)] M "java/lang/IndexOutOfBoundsException" (fun M' => M = M') := by
  refine MX.of (by decide) (Nat.le_of_ble_eq_true rfl) ?_
  intro p e s m below meth c ls hx hb hr hml hown hg hlocks hK hN hX hTb hP hS hl
  have hown : s.vm.findClass R_C = some m.cls := hown
  have hl : lv_has ls 5 [(0, .ref (ad (0))), (1, .int (nI (a))), (2, .int (x)), (3, .int (z))] := hl
  have hn60 := hN7.1
  have hnm := hN7.2.2.1
  refine lv_aload_n hx hb d_C_row_0 rfl (lv_at hl 0 rfl) ?_
  refine lv_iload_n hx hb d_C_row_1 rfl (lv_at hl 1 rfl) ?_
  refine c_V (own := R_C) (index := 131) (As := [.int (nI (a))]) (rest := []) hx hb hml hown hg hK NXc.same hN.warm (fun _ h => h) hP hS 0 (c_C_rqn l D cI cC cZ cT ad hI M n len ch hN7 (a) (by omega)) (by decide) (ci := 7) rfl rfl k_401 k_403 k_p5 k_1 k_404 1 rfl (by decide +kernel) (by decide) rfl hl.1 (Nat.le_of_ble_eq_true rfl) d_C_row_2 (fun v M' H locs hq hP _ _ hS => ?_)
  obtain ⟨rfl, rfl⟩ := hq
  refine W.eq (g2 := F0 m 5 ls []) rfl ?_
  refine lv_aload_n hx hb d_C_row_5 rfl (lv_at hl 0 rfl) ?_
  refine lv_iload_n hx hb d_C_row_6 rfl (lv_at hl 2 rfl) ?_
  exact x_V (own := R_C) (index := 131) (As := [.int (x)]) (rest := []) hx hb hml hown hg hK hN hX hTb hlocks hP hS 0 (x_C_rqn l D cI cC cZ cT ad hI hlT M n len ch hN7 (x) hbad) (by decide) (ci := 7) rfl rfl k_401 k_403 k_p5 k_1 k_404 1 rfl (by decide +kernel) (by decide) rfl hl.1 (Nat.le_of_ble_eq_true rfl) d_C_row_7 (fun _ h => h)

set_option maxHeartbeats 4000000 in
set_option maxRecDepth 100000 in
theorem x_C_row_1c (l : Launch) (D : va_G) (cI cC cZ cT : ClassId) (ad : Nat → Nat) (hI : GI 144 ad) (hlT : l.stackTraces = false) (M : PM) (n : Nat) (len : Nat → Nat) (ch : Nat → Nat → Nat) (hN7 : CN M n len ch) (a b9 : Nat) (ha : a < n) (hb9 : b9 < n) (x : Int32) (hbad : ¬ ∃ j, j < n ∧ x = nI j) : MX l D cI cC cZ cT ad y_C_row b_C_row 5 (some .int) 7 111 [.ref (ad (0)), .int (nI (a)), .int (nI (b9)), .int (x)] M "java/lang/IndexOutOfBoundsException" (fun M' => M = M') := by
  refine MX.of (by decide) (Nat.le_of_ble_eq_true rfl) ?_
  intro p e s m below meth c ls hx hb hr hml hown hg hlocks hK hN hX hTb hP hS hl
  have hown : s.vm.findClass R_C = some m.cls := hown
  have hl : lv_has ls 5 [(0, .ref (ad (0))), (1, .int (nI (a))), (2, .int (nI (b9))), (3, .int (x))] := hl
  have hn60 := hN7.1
  have hnm := hN7.2.2.1
  refine lv_aload_n hx hb d_C_row_0 rfl (lv_at hl 0 rfl) ?_
  refine lv_iload_n hx hb d_C_row_1 rfl (lv_at hl 1 rfl) ?_
  refine c_V (own := R_C) (index := 131) (As := [.int (nI (a))]) (rest := []) hx hb hml hown hg hK NXc.same hN.warm (fun _ h => h) hP hS 0 (c_C_rqn l D cI cC cZ cT ad hI M n len ch hN7 (a) (by omega)) (by decide) (ci := 7) rfl rfl k_401 k_403 k_p5 k_1 k_404 1 rfl (by decide +kernel) (by decide) rfl hl.1 (Nat.le_of_ble_eq_true rfl) d_C_row_2 (fun v M' H locs hq hP _ _ hS => ?_)
  obtain ⟨rfl, rfl⟩ := hq
  refine W.eq (g2 := F0 m 5 ls []) rfl ?_
  refine lv_aload_n hx hb d_C_row_5 rfl (lv_at hl 0 rfl) ?_
  refine lv_iload_n hx hb d_C_row_6 rfl (lv_at hl 2 rfl) ?_
  refine c_V (own := R_C) (index := 131) (As := [.int (nI (b9))]) (rest := []) hx hb hml hown hg hK NXc.same hN.warm (fun _ h => h) hP hS 0 (c_C_rqn l D cI cC cZ cT ad hI M n len ch hN7 (b9) (by omega)) (by decide) (ci := 7) rfl rfl k_401 k_403 k_p5 k_1 k_404 1 rfl (by decide +kernel) (by decide) rfl hl.1 (Nat.le_of_ble_eq_true rfl) d_C_row_7 (fun v M' H locs hq hP _ _ hS => ?_)
  obtain ⟨rfl, rfl⟩ := hq
  refine W.eq (g2 := F0 m 10 ls []) rfl ?_
  refine lv_aload_n hx hb d_C_row_10 rfl (lv_at hl 0 rfl) ?_
  refine lv_iload_n hx hb d_C_row_11 rfl (lv_at hl 3 rfl) ?_
  exact x_V (own := R_C) (index := 131) (As := [.int (x)]) (rest := []) hx hb hml hown hg hK hN hX hTb hlocks hP hS 0 (x_C_rqn l D cI cC cZ cT ad hI hlT M n len ch hN7 (x) hbad) (by decide) (ci := 7) rfl rfl k_401 k_403 k_p5 k_1 k_404 1 rfl (by decide +kernel) (by decide) rfl hl.1 (Nat.le_of_ble_eq_true rfl) d_C_row_12 (fun _ h => h)

set_option maxHeartbeats 4000000 in
set_option maxRecDepth 100000 in
theorem x_C_row_2 (l : Launch) (D : va_G) (cI cC cZ cT : ClassId) (ad : Nat → Nat) (hI : GI 144 ad) (hlT : l.stackTraces = false) (M : PM) (n : Nat) (len : Nat → Nat) (ch : Nat → Nat → Nat) (hN7 : CN M n len ch) (sp bs : Nat → Option Nat) (hH : CSp M n sp bs) (hbsp : ∀ k, k < n → (bs k ≠ none ↔ isSp n sp k)) (rc : Nat) (rw_ : Nat → Nat) (hW7 : CW M n rc rw_) (a b9 d9 : Nat) (ha : a < n) (hb9 : b9 < n) (hd9 : d9 < n) (hO : Best (spC n len ch sp a) len n none) : MX l D cI cC cZ cT ad y_C_row b_C_row 5 (some .int) 6 90 [.ref (ad (0)), .int (nI (a)), .int (nI (b9)), .int (nI (d9))] M "java/lang/IllegalStateException" (fun M' => M = M') := by
  refine MX.of (by decide) (Nat.le_of_ble_eq_true rfl) ?_
  intro p e s m below meth c ls hx hb hr hml hown hg hlocks hK hN hX hTb hP hS hl
  have hown : s.vm.findClass R_C = some m.cls := hown
  have hl : lv_has ls 5 [(0, .ref (ad (0))), (1, .int (nI (a))), (2, .int (nI (b9))), (3, .int (nI (d9)))] := hl
  have hn60 := hN7.1
  have hnm := hN7.2.2.1
  have hrc := hW7.1
  refine lv_aload_n hx hb d_C_row_0 rfl (lv_at hl 0 rfl) ?_
  refine lv_iload_n hx hb d_C_row_1 rfl (lv_at hl 1 rfl) ?_
  refine c_V (own := R_C) (index := 131) (As := [.int (nI (a))]) (rest := []) hx hb hml hown hg hK NXc.same hN.warm (fun _ h => h) hP hS 0 (c_C_rqn l D cI cC cZ cT ad hI M n len ch hN7 (a) (by omega)) (by decide) (ci := 7) rfl rfl k_401 k_403 k_p5 k_1 k_404 1 rfl (by decide +kernel) (by decide) rfl hl.1 (Nat.le_of_ble_eq_true rfl) d_C_row_2 (fun v M' H locs hq hP _ _ hS => ?_)
  obtain ⟨rfl, rfl⟩ := hq
  refine W.eq (g2 := F0 m 5 ls []) rfl ?_
  refine lv_aload_n hx hb d_C_row_5 rfl (lv_at hl 0 rfl) ?_
  refine lv_iload_n hx hb d_C_row_6 rfl (lv_at hl 2 rfl) ?_
  refine c_V (own := R_C) (index := 131) (As := [.int (nI (b9))]) (rest := []) hx hb hml hown hg hK NXc.same hN.warm (fun _ h => h) hP hS 0 (c_C_rqn l D cI cC cZ cT ad hI M n len ch hN7 (b9) (by omega)) (by decide) (ci := 7) rfl rfl k_401 k_403 k_p5 k_1 k_404 1 rfl (by decide +kernel) (by decide) rfl hl.1 (Nat.le_of_ble_eq_true rfl) d_C_row_7 (fun v M' H locs hq hP _ _ hS => ?_)
  obtain ⟨rfl, rfl⟩ := hq
  refine W.eq (g2 := F0 m 10 ls []) rfl ?_
  refine lv_aload_n hx hb d_C_row_10 rfl (lv_at hl 0 rfl) ?_
  refine lv_iload_n hx hb d_C_row_11 rfl (lv_at hl 3 rfl) ?_
  refine c_V (own := R_C) (index := 131) (As := [.int (nI (d9))]) (rest := []) hx hb hml hown hg hK NXc.same hN.warm (fun _ h => h) hP hS 0 (c_C_rqn l D cI cC cZ cT ad hI M n len ch hN7 (d9) (by omega)) (by decide) (ci := 7) rfl rfl k_401 k_403 k_p5 k_1 k_404 1 rfl (by decide +kernel) (by decide) rfl hl.1 (Nat.le_of_ble_eq_true rfl) d_C_row_12 (fun v M' H locs hq hP _ _ hS => ?_)
  obtain ⟨rfl, rfl⟩ := hq
  refine W.eq (g2 := F0 m 15 ls []) rfl ?_
  refine lv_aload_n hx hb d_C_row_15 rfl (lv_at hl 0 rfl) ?_
  refine g_get (C := R_C) (T := T_C) (N := 15) (ci := 7) (v := .ref (ad (129))) hx hb hg i_C hown hK hP 0 (by decide) rfl rfl 4 (by decide) (hg _ k_132) rfl d_C_row_16 ?_
  refine lv_iload_n hx hb d_C_row_19 rfl (lv_at hl 1 rfl) ?_
  refine c_V (own := R_C) (index := 155) (As := [.int (nI (a))]) (rest := []) hx hb hml hown hg hK NXc.same hN.warm (fun _ h => h) hP hS 129 (c_H_spaceOfName l D cI cC cZ cT ad hI M n len ch hN7 sp bs hH hbsp a ha (none) hO) (by decide) (ci := 3) rfl rfl k_457 k_458 k_459 k_4 k_460 1 rfl (by decide +kernel) (by decide) rfl hl.1 (Nat.le_of_ble_eq_true rfl) d_C_row_20 (fun v M' H locs hq hP _ _ hS => ?_)
  obtain ⟨rfl, rfl⟩ := hq
  refine W.eq (g2 := F0 m 23 ls [.int (-1)]) rfl ?_
  refine lv_iconst (v := -1) hx hb d_C_row_23 (by decide) ?_
  refine lv_icmp_ne (tgt := 37) hx hb d_C_row_24 (by decide) (fun c_24 => ?_) (fun c_24 => ?_)
  · exact absurd rfl c_24
  · exact t_S hx hb hlT xat_ISE sx_191 hown hg hX hTb hlocks (hl.1.trans hml.symm) hP hS (rfl) (by decide) (Nat.le_of_ble_eq_true rfl) d_C_row_27 d_C_row_30 d_C_row_31 d_C_row_33 d_C_row_36

set_option maxHeartbeats 4000000 in
set_option maxRecDepth 100000 in
theorem c_C_row_c (l : Launch) (D : va_G) (cI cC cZ cT : ClassId) (ad : Nat → Nat) (hI : GI 144 ad) (M : PM) (n : Nat) (len : Nat → Nat) (ch : Nat → Nat → Nat) (hN7 : CN M n len ch) (sp bs : Nat → Option Nat) (hH : CSp M n sp bs) (hbsp : ∀ k, k < n → (bs k ≠ none ↔ isSp n sp k)) (rc : Nat) (rw_ : Nat → Nat) (hW7 : CW M n rc rw_) (a b9 d9 : Nat) (ha : a < n) (hb9 : b9 < n) (hd9 : d9 < n) (s9 : Nat) (hO : Best (spC n len ch sp a) len n (some s9)) (r9 : Nat) (ho : Fst (fun k => rw_ (3 * k) = a) rc (some r9)) : MD l D cI cC cZ cT ad y_C_row b_C_row 5 (some .int) 2 48 [.ref (ad (0)), .int (nI (a)), .int (nI (b9)), .int (nI (d9))] M (fun v M' => v = some (.int ((-1) - nI r9)) ∧ M' = pu (pu (pu M 0 12 (nI 2)) 0 13 (nI r9)) 0 14 (nI a)) := by
  refine MC.of (by decide) (Nat.le_of_ble_eq_true rfl) ?_
  intro p e s m below meth c ls hx hb hr hml hown hg hlocks hK hN hP hS hl
  have hown : s.vm.findClass R_C = some m.cls := hown
  have hl : lv_has ls 5 [(0, .ref (ad (0))), (1, .int (nI (a))), (2, .int (nI (b9))), (3, .int (nI (d9)))] := hl
  have hn60 := hN7.1
  have hnm := hN7.2.2.1
  have hrc := hW7.1
  have hs9n := hO.1
  have hr9 := ho.1
  refine lv_aload_n hx hb d_C_row_0 rfl (lv_at hl 0 rfl) ?_
  refine lv_iload_n hx hb d_C_row_1 rfl (lv_at hl 1 rfl) ?_
  refine c_V (own := R_C) (index := 131) (As := [.int (nI (a))]) (rest := []) hx hb hml hown hg hK NXc.same hN.warm (fun _ h => h) hP hS 0 (c_C_rqn l D cI cC cZ cT ad hI M n len ch hN7 (a) (by omega)) (by decide) (ci := 7) rfl rfl k_401 k_403 k_p5 k_1 k_404 1 rfl (by decide +kernel) (by decide) rfl hl.1 (Nat.le_of_ble_eq_true rfl) d_C_row_2 (fun v M' H locs hq hP _ _ hS => ?_)
  obtain ⟨rfl, rfl⟩ := hq
  refine W.eq (g2 := F0 m 5 ls []) rfl ?_
  refine lv_aload_n hx hb d_C_row_5 rfl (lv_at hl 0 rfl) ?_
  refine lv_iload_n hx hb d_C_row_6 rfl (lv_at hl 2 rfl) ?_
  refine c_V (own := R_C) (index := 131) (As := [.int (nI (b9))]) (rest := []) hx hb hml hown hg hK NXc.same hN.warm (fun _ h => h) hP hS 0 (c_C_rqn l D cI cC cZ cT ad hI M n len ch hN7 (b9) (by omega)) (by decide) (ci := 7) rfl rfl k_401 k_403 k_p5 k_1 k_404 1 rfl (by decide +kernel) (by decide) rfl hl.1 (Nat.le_of_ble_eq_true rfl) d_C_row_7 (fun v M' H locs hq hP _ _ hS => ?_)
  obtain ⟨rfl, rfl⟩ := hq
  refine W.eq (g2 := F0 m 10 ls []) rfl ?_
  refine lv_aload_n hx hb d_C_row_10 rfl (lv_at hl 0 rfl) ?_
  refine lv_iload_n hx hb d_C_row_11 rfl (lv_at hl 3 rfl) ?_
  refine c_V (own := R_C) (index := 131) (As := [.int (nI (d9))]) (rest := []) hx hb hml hown hg hK NXc.same hN.warm (fun _ h => h) hP hS 0 (c_C_rqn l D cI cC cZ cT ad hI M n len ch hN7 (d9) (by omega)) (by decide) (ci := 7) rfl rfl k_401 k_403 k_p5 k_1 k_404 1 rfl (by decide +kernel) (by decide) rfl hl.1 (Nat.le_of_ble_eq_true rfl) d_C_row_12 (fun v M' H locs hq hP _ _ hS => ?_)
  obtain ⟨rfl, rfl⟩ := hq
  refine W.eq (g2 := F0 m 15 ls []) rfl ?_
  refine lv_aload_n hx hb d_C_row_15 rfl (lv_at hl 0 rfl) ?_
  refine g_get (C := R_C) (T := T_C) (N := 15) (ci := 7) (v := .ref (ad (129))) hx hb hg i_C hown hK hP 0 (by decide) rfl rfl 4 (by decide) (hg _ k_132) rfl d_C_row_16 ?_
  refine lv_iload_n hx hb d_C_row_19 rfl (lv_at hl 1 rfl) ?_
  refine c_V (own := R_C) (index := 155) (As := [.int (nI (a))]) (rest := []) hx hb hml hown hg hK NXc.same hN.warm (fun _ h => h) hP hS 129 (c_H_spaceOfName l D cI cC cZ cT ad hI M n len ch hN7 sp bs hH hbsp a ha (some s9) hO) (by decide) (ci := 3) rfl rfl k_457 k_458 k_459 k_4 k_460 1 rfl (by decide +kernel) (by decide) rfl hl.1 (Nat.le_of_ble_eq_true rfl) d_C_row_20 (fun v M' H locs hq hP _ _ hS => ?_)
  obtain ⟨rfl, rfl⟩ := hq
  refine W.eq (g2 := F0 m 23 ls [.int (nI (s9))]) rfl ?_
  refine lv_iconst (v := -1) hx hb d_C_row_23 (by decide) ?_
  refine lv_icmp_ne (tgt := 37) hx hb d_C_row_24 (by decide) (fun c_24 => ?_) (fun c_24 => ?_)
  · refine lv_aload_n hx hb d_C_row_37 rfl (lv_at hl 0 rfl) ?_
    refine g_get (C := R_C) (T := T_C) (N := 15) (ci := 7) (v := .ref (ad (132))) hx hb hg i_C hown hK hP 0 (by decide) rfl rfl 5 (by decide) (hg _ k_133) rfl d_C_row_38 ?_
    refine lv_iload_n hx hb d_C_row_41 rfl (lv_at hl 1 rfl) ?_
    refine c_V (own := R_C) (index := 194) (As := [.int (nI (a))]) (rest := []) hx hb hml hown hg hK NXc.same hN.warm (fun _ h => h) hP hS 132 (c_W_rowOfTerm l D cI cC cZ cT ad hI M n rc hn60 rw_ hW7 a ha (some r9) ho) (by decide) (ci := 2) rfl rfl k_527 k_528 k_529 k_5 k_530 1 rfl (by decide +kernel) (by decide) rfl hl.1 (Nat.le_of_ble_eq_true rfl) d_C_row_42 (fun v M' H locs hq hP _ _ hS => ?_)
    obtain ⟨rfl, rfl⟩ := hq
    refine W.eq (g2 := F0 m 45 ls [.int (nI (r9))]) rfl ?_
    refine lv_istore (lv' := [(4, .int (nI (r9))), (0, .ref (ad (0))), (1, .int (nI (a))), (2, .int (nI (b9))), (3, .int (nI (d9)))]) hx hb d_C_row_45 hl (by decide) rfl (fun ls hl => ?_)
    refine lv_iload hx hb d_C_row_47 (lv_at hl 0 rfl) ?_
    refine lv_iconst (v := -1) hx hb d_C_row_49 (by decide) ?_
    refine lv_icmp_eq (tgt := 66) hx hb d_C_row_50 (by decide) (fun c_50 => ?_) (fun c_50 => ?_)
    · exact absurd c_50 (nI_m1 (by omega))
    · refine lv_aload_n hx hb d_C_row_53 rfl (lv_at hl 1 rfl) ?_
      refine n_const (k := 2) hx hb d_C_row_54 (by decide) ?_
      refine lv_iload hx hb d_C_row_55 (lv_at hl 0 rfl) ?_
      refine lv_iload_n hx hb d_C_row_57 rfl (lv_at hl 2 rfl) ?_
      refine c_V (own := R_C) (index := 147) (As := [.int (nI (2)), .int (nI (r9)), .int (nI (a))]) (rest := []) hx hb hml hown hg hK NXc.same hN.warm (fun _ h => h) hP hS 0 (c_C_keepClash l D cI cC cZ cT ad hI M ((nI (2))) ((nI (r9))) ((nI (a)))) (by decide) (ci := 7) rfl rfl k_436 k_438 k_p6 k_1 k_439 3 rfl (by decide +kernel) (by decide) rfl hl.1 (Nat.le_of_ble_eq_true rfl) d_C_row_58 (fun v M_1 H locs hq hP _ _ hS => ?_)
      obtain ⟨rfl, eM_1⟩ := hq
      refine W.eq (g2 := F0 m 61 ls []) rfl ?_
      refine lv_iconst (v := -1) hx hb d_C_row_61 (by decide) ?_
      refine lv_iload hx hb d_C_row_62 (lv_at hl 0 rfl) ?_
      refine lv_isub hx hb d_C_row_64 ?_
      exact r_i hx hb hr hlocks hP hS (⟨rfl, eM_1⟩) d_C_row_65
  · exact absurd c_24 (nI_m1 (by omega))

set_option maxHeartbeats 4000000 in
set_option maxRecDepth 100000 in
theorem x_C_row_3 (l : Launch) (D : va_G) (cI cC cZ cT : ClassId) (ad : Nat → Nat) (hI : GI 144 ad) (hlT : l.stackTraces = false) (M : PM) (n : Nat) (len : Nat → Nat) (ch : Nat → Nat → Nat) (hN7 : CN M n len ch) (sp bs : Nat → Option Nat) (hH : CSp M n sp bs) (hbsp : ∀ k, k < n → (bs k ≠ none ↔ isSp n sp k)) (rc : Nat) (rw_ : Nat → Nat) (hW7 : CW M n rc rw_) (a b9 d9 : Nat) (ha : a < n) (hb9 : b9 < n) (hd9 : d9 < n) (s9 : Nat) (hO : Best (spC n len ch sp a) len n (some s9)) (ho : Fst (fun k => rw_ (3 * k) = a) rc none) (h40 : rc = 40) : MX l D cI cC cZ cT ad y_C_row b_C_row 5 (some .int) 6 90 [.ref (ad (0)), .int (nI (a)), .int (nI (b9)), .int (nI (d9))] M "java/lang/UnsupportedOperationException" (fun M' => M = M') := by
  refine MX.of (by decide) (Nat.le_of_ble_eq_true rfl) ?_
  intro p e s m below meth c ls hx hb hr hml hown hg hlocks hK hN hX hTb hP hS hl
  have hown : s.vm.findClass R_C = some m.cls := hown
  have hl : lv_has ls 5 [(0, .ref (ad (0))), (1, .int (nI (a))), (2, .int (nI (b9))), (3, .int (nI (d9)))] := hl
  have hn60 := hN7.1
  have hnm := hN7.2.2.1
  have hrc := hW7.1
  have hs9n := hO.1
  refine lv_aload_n hx hb d_C_row_0 rfl (lv_at hl 0 rfl) ?_
  refine lv_iload_n hx hb d_C_row_1 rfl (lv_at hl 1 rfl) ?_
  refine c_V (own := R_C) (index := 131) (As := [.int (nI (a))]) (rest := []) hx hb hml hown hg hK NXc.same hN.warm (fun _ h => h) hP hS 0 (c_C_rqn l D cI cC cZ cT ad hI M n len ch hN7 (a) (by omega)) (by decide) (ci := 7) rfl rfl k_401 k_403 k_p5 k_1 k_404 1 rfl (by decide +kernel) (by decide) rfl hl.1 (Nat.le_of_ble_eq_true rfl) d_C_row_2 (fun v M' H locs hq hP _ _ hS => ?_)
  obtain ⟨rfl, rfl⟩ := hq
  refine W.eq (g2 := F0 m 5 ls []) rfl ?_
  refine lv_aload_n hx hb d_C_row_5 rfl (lv_at hl 0 rfl) ?_
  refine lv_iload_n hx hb d_C_row_6 rfl (lv_at hl 2 rfl) ?_
  refine c_V (own := R_C) (index := 131) (As := [.int (nI (b9))]) (rest := []) hx hb hml hown hg hK NXc.same hN.warm (fun _ h => h) hP hS 0 (c_C_rqn l D cI cC cZ cT ad hI M n len ch hN7 (b9) (by omega)) (by decide) (ci := 7) rfl rfl k_401 k_403 k_p5 k_1 k_404 1 rfl (by decide +kernel) (by decide) rfl hl.1 (Nat.le_of_ble_eq_true rfl) d_C_row_7 (fun v M' H locs hq hP _ _ hS => ?_)
  obtain ⟨rfl, rfl⟩ := hq
  refine W.eq (g2 := F0 m 10 ls []) rfl ?_
  refine lv_aload_n hx hb d_C_row_10 rfl (lv_at hl 0 rfl) ?_
  refine lv_iload_n hx hb d_C_row_11 rfl (lv_at hl 3 rfl) ?_
  refine c_V (own := R_C) (index := 131) (As := [.int (nI (d9))]) (rest := []) hx hb hml hown hg hK NXc.same hN.warm (fun _ h => h) hP hS 0 (c_C_rqn l D cI cC cZ cT ad hI M n len ch hN7 (d9) (by omega)) (by decide) (ci := 7) rfl rfl k_401 k_403 k_p5 k_1 k_404 1 rfl (by decide +kernel) (by decide) rfl hl.1 (Nat.le_of_ble_eq_true rfl) d_C_row_12 (fun v M' H locs hq hP _ _ hS => ?_)
  obtain ⟨rfl, rfl⟩ := hq
  refine W.eq (g2 := F0 m 15 ls []) rfl ?_
  refine lv_aload_n hx hb d_C_row_15 rfl (lv_at hl 0 rfl) ?_
  refine g_get (C := R_C) (T := T_C) (N := 15) (ci := 7) (v := .ref (ad (129))) hx hb hg i_C hown hK hP 0 (by decide) rfl rfl 4 (by decide) (hg _ k_132) rfl d_C_row_16 ?_
  refine lv_iload_n hx hb d_C_row_19 rfl (lv_at hl 1 rfl) ?_
  refine c_V (own := R_C) (index := 155) (As := [.int (nI (a))]) (rest := []) hx hb hml hown hg hK NXc.same hN.warm (fun _ h => h) hP hS 129 (c_H_spaceOfName l D cI cC cZ cT ad hI M n len ch hN7 sp bs hH hbsp a ha (some s9) hO) (by decide) (ci := 3) rfl rfl k_457 k_458 k_459 k_4 k_460 1 rfl (by decide +kernel) (by decide) rfl hl.1 (Nat.le_of_ble_eq_true rfl) d_C_row_20 (fun v M' H locs hq hP _ _ hS => ?_)
  obtain ⟨rfl, rfl⟩ := hq
  refine W.eq (g2 := F0 m 23 ls [.int (nI (s9))]) rfl ?_
  refine lv_iconst (v := -1) hx hb d_C_row_23 (by decide) ?_
  refine lv_icmp_ne (tgt := 37) hx hb d_C_row_24 (by decide) (fun c_24 => ?_) (fun c_24 => ?_)
  · refine lv_aload_n hx hb d_C_row_37 rfl (lv_at hl 0 rfl) ?_
    refine g_get (C := R_C) (T := T_C) (N := 15) (ci := 7) (v := .ref (ad (132))) hx hb hg i_C hown hK hP 0 (by decide) rfl rfl 5 (by decide) (hg _ k_133) rfl d_C_row_38 ?_
    refine lv_iload_n hx hb d_C_row_41 rfl (lv_at hl 1 rfl) ?_
    refine c_V (own := R_C) (index := 194) (As := [.int (nI (a))]) (rest := []) hx hb hml hown hg hK NXc.same hN.warm (fun _ h => h) hP hS 132 (c_W_rowOfTerm l D cI cC cZ cT ad hI M n rc hn60 rw_ hW7 a ha (none) ho) (by decide) (ci := 2) rfl rfl k_527 k_528 k_529 k_5 k_530 1 rfl (by decide +kernel) (by decide) rfl hl.1 (Nat.le_of_ble_eq_true rfl) d_C_row_42 (fun v M' H locs hq hP _ _ hS => ?_)
    obtain ⟨rfl, rfl⟩ := hq
    refine W.eq (g2 := F0 m 45 ls [.int (-1)]) rfl ?_
    refine lv_istore (lv' := [(4, .int (-1)), (0, .ref (ad (0))), (1, .int (nI (a))), (2, .int (nI (b9))), (3, .int (nI (d9)))]) hx hb d_C_row_45 hl (by decide) rfl (fun ls hl => ?_)
    refine lv_iload hx hb d_C_row_47 (lv_at hl 0 rfl) ?_
    refine lv_iconst (v := -1) hx hb d_C_row_49 (by decide) ?_
    refine lv_icmp_eq (tgt := 66) hx hb d_C_row_50 (by decide) (fun c_50 => ?_) (fun c_50 => ?_)
    · refine lv_aload_n hx hb d_C_row_66 rfl (lv_at hl 1 rfl) ?_
      refine g_get (C := R_C) (T := T_C) (N := 15) (ci := 7) (v := .ref (ad (132))) hx hb hg i_C hown hK hP 0 (by decide) rfl rfl 5 (by decide) (hg _ k_133) rfl d_C_row_67 ?_
      refine c_V (own := R_C) (index := 197) (As := []) (rest := []) hx hb hml hown hg hK NXc.same hN.warm (fun _ h => h) hP hS 132 (c_W_isFull l D cI cC cZ cT ad hI M n rc hn60 rw_ hW7 true ⟨fun _ => by omega, fun _ => rfl⟩) (by decide) (ci := 2) rfl rfl k_535 k_536 k_537 k_5 k_538 0 rfl (by decide +kernel) (by decide) rfl hl.1 (Nat.le_of_ble_eq_true rfl) d_C_row_70 (fun v M' H locs hq hP _ _ hS => ?_)
      obtain ⟨rfl, rfl⟩ := hq
      refine W.eq (g2 := F0 m 73 ls [.int (bI (true))]) rfl ?_
      refine z_eq (t := true) (tgt := 86) hx hb d_C_row_73 (by decide) (fun h9 => absurd h9 (by decide)) (fun _ => ?_)
      exact t_S hx hb hlT xat_UOE sx_198 hown hg hX hTb hlocks (hl.1.trans hml.symm) hP hS (rfl) (by decide) (Nat.le_of_ble_eq_true rfl) d_C_row_76 d_C_row_79 d_C_row_80 d_C_row_82 d_C_row_85
    · exact absurd rfl c_50
  · exact absurd c_24 (nI_m1 (by omega))

set_option maxHeartbeats 4000000 in
set_option maxRecDepth 100000 in
theorem c_C_row_0 (l : Launch) (D : va_G) (cI cC cZ cT : ClassId) (ad : Nat → Nat) (hI : GI 144 ad) (M : PM) (n : Nat) (len : Nat → Nat) (ch : Nat → Nat → Nat) (hN7 : CN M n len ch) (sp bs : Nat → Option Nat) (hH : CSp M n sp bs) (hbsp : ∀ k, k < n → (bs k ≠ none ↔ isSp n sp k)) (rc : Nat) (rw_ : Nat → Nat) (hW7 : CW M n rc rw_) (a b9 d9 : Nat) (ha : a < n) (hb9 : b9 < n) (hd9 : d9 < n) (s9 : Nat) (hO : Best (spC n len ch sp a) len n (some s9)) (ho : Fst (fun k => rw_ (3 * k) = a) rc none) (h40 : rc < 40) : MD l D cI cC cZ cT ad y_C_row b_C_row 5 (some .int) 2 48 [.ref (ad (0)), .int (nI (a)), .int (nI (b9)), .int (nI (d9))] M (fun v M' => v = some (.int (nI rc)) ∧ M' = pu (pu (pu (pu M 133 (3 * rc) (nI a)) 133 (3 * rc + 1) (nI b9)) 133 (3 * rc + 2) (nI d9)) 132 1 (nI (rc + 1))) := by
  refine MC.of (by decide) (Nat.le_of_ble_eq_true rfl) ?_
  intro p e s m below meth c ls hx hb hr hml hown hg hlocks hK hN hP hS hl
  have hown : s.vm.findClass R_C = some m.cls := hown
  have hl : lv_has ls 5 [(0, .ref (ad (0))), (1, .int (nI (a))), (2, .int (nI (b9))), (3, .int (nI (d9)))] := hl
  have hn60 := hN7.1
  have hnm := hN7.2.2.1
  have hrc := hW7.1
  have hs9n := hO.1
  refine lv_aload_n hx hb d_C_row_0 rfl (lv_at hl 0 rfl) ?_
  refine lv_iload_n hx hb d_C_row_1 rfl (lv_at hl 1 rfl) ?_
  refine c_V (own := R_C) (index := 131) (As := [.int (nI (a))]) (rest := []) hx hb hml hown hg hK NXc.same hN.warm (fun _ h => h) hP hS 0 (c_C_rqn l D cI cC cZ cT ad hI M n len ch hN7 (a) (by omega)) (by decide) (ci := 7) rfl rfl k_401 k_403 k_p5 k_1 k_404 1 rfl (by decide +kernel) (by decide) rfl hl.1 (Nat.le_of_ble_eq_true rfl) d_C_row_2 (fun v M' H locs hq hP _ _ hS => ?_)
  obtain ⟨rfl, rfl⟩ := hq
  refine W.eq (g2 := F0 m 5 ls []) rfl ?_
  refine lv_aload_n hx hb d_C_row_5 rfl (lv_at hl 0 rfl) ?_
  refine lv_iload_n hx hb d_C_row_6 rfl (lv_at hl 2 rfl) ?_
  refine c_V (own := R_C) (index := 131) (As := [.int (nI (b9))]) (rest := []) hx hb hml hown hg hK NXc.same hN.warm (fun _ h => h) hP hS 0 (c_C_rqn l D cI cC cZ cT ad hI M n len ch hN7 (b9) (by omega)) (by decide) (ci := 7) rfl rfl k_401 k_403 k_p5 k_1 k_404 1 rfl (by decide +kernel) (by decide) rfl hl.1 (Nat.le_of_ble_eq_true rfl) d_C_row_7 (fun v M' H locs hq hP _ _ hS => ?_)
  obtain ⟨rfl, rfl⟩ := hq
  refine W.eq (g2 := F0 m 10 ls []) rfl ?_
  refine lv_aload_n hx hb d_C_row_10 rfl (lv_at hl 0 rfl) ?_
  refine lv_iload_n hx hb d_C_row_11 rfl (lv_at hl 3 rfl) ?_
  refine c_V (own := R_C) (index := 131) (As := [.int (nI (d9))]) (rest := []) hx hb hml hown hg hK NXc.same hN.warm (fun _ h => h) hP hS 0 (c_C_rqn l D cI cC cZ cT ad hI M n len ch hN7 (d9) (by omega)) (by decide) (ci := 7) rfl rfl k_401 k_403 k_p5 k_1 k_404 1 rfl (by decide +kernel) (by decide) rfl hl.1 (Nat.le_of_ble_eq_true rfl) d_C_row_12 (fun v M' H locs hq hP _ _ hS => ?_)
  obtain ⟨rfl, rfl⟩ := hq
  refine W.eq (g2 := F0 m 15 ls []) rfl ?_
  refine lv_aload_n hx hb d_C_row_15 rfl (lv_at hl 0 rfl) ?_
  refine g_get (C := R_C) (T := T_C) (N := 15) (ci := 7) (v := .ref (ad (129))) hx hb hg i_C hown hK hP 0 (by decide) rfl rfl 4 (by decide) (hg _ k_132) rfl d_C_row_16 ?_
  refine lv_iload_n hx hb d_C_row_19 rfl (lv_at hl 1 rfl) ?_
  refine c_V (own := R_C) (index := 155) (As := [.int (nI (a))]) (rest := []) hx hb hml hown hg hK NXc.same hN.warm (fun _ h => h) hP hS 129 (c_H_spaceOfName l D cI cC cZ cT ad hI M n len ch hN7 sp bs hH hbsp a ha (some s9) hO) (by decide) (ci := 3) rfl rfl k_457 k_458 k_459 k_4 k_460 1 rfl (by decide +kernel) (by decide) rfl hl.1 (Nat.le_of_ble_eq_true rfl) d_C_row_20 (fun v M' H locs hq hP _ _ hS => ?_)
  obtain ⟨rfl, rfl⟩ := hq
  refine W.eq (g2 := F0 m 23 ls [.int (nI (s9))]) rfl ?_
  refine lv_iconst (v := -1) hx hb d_C_row_23 (by decide) ?_
  refine lv_icmp_ne (tgt := 37) hx hb d_C_row_24 (by decide) (fun c_24 => ?_) (fun c_24 => ?_)
  · refine lv_aload_n hx hb d_C_row_37 rfl (lv_at hl 0 rfl) ?_
    refine g_get (C := R_C) (T := T_C) (N := 15) (ci := 7) (v := .ref (ad (132))) hx hb hg i_C hown hK hP 0 (by decide) rfl rfl 5 (by decide) (hg _ k_133) rfl d_C_row_38 ?_
    refine lv_iload_n hx hb d_C_row_41 rfl (lv_at hl 1 rfl) ?_
    refine c_V (own := R_C) (index := 194) (As := [.int (nI (a))]) (rest := []) hx hb hml hown hg hK NXc.same hN.warm (fun _ h => h) hP hS 132 (c_W_rowOfTerm l D cI cC cZ cT ad hI M n rc hn60 rw_ hW7 a ha (none) ho) (by decide) (ci := 2) rfl rfl k_527 k_528 k_529 k_5 k_530 1 rfl (by decide +kernel) (by decide) rfl hl.1 (Nat.le_of_ble_eq_true rfl) d_C_row_42 (fun v M' H locs hq hP _ _ hS => ?_)
    obtain ⟨rfl, rfl⟩ := hq
    refine W.eq (g2 := F0 m 45 ls [.int (-1)]) rfl ?_
    refine lv_istore (lv' := [(4, .int (-1)), (0, .ref (ad (0))), (1, .int (nI (a))), (2, .int (nI (b9))), (3, .int (nI (d9)))]) hx hb d_C_row_45 hl (by decide) rfl (fun ls hl => ?_)
    refine lv_iload hx hb d_C_row_47 (lv_at hl 0 rfl) ?_
    refine lv_iconst (v := -1) hx hb d_C_row_49 (by decide) ?_
    refine lv_icmp_eq (tgt := 66) hx hb d_C_row_50 (by decide) (fun c_50 => ?_) (fun c_50 => ?_)
    · refine lv_aload_n hx hb d_C_row_66 rfl (lv_at hl 1 rfl) ?_
      refine g_get (C := R_C) (T := T_C) (N := 15) (ci := 7) (v := .ref (ad (132))) hx hb hg i_C hown hK hP 0 (by decide) rfl rfl 5 (by decide) (hg _ k_133) rfl d_C_row_67 ?_
      refine c_V (own := R_C) (index := 197) (As := []) (rest := []) hx hb hml hown hg hK NXc.same hN.warm (fun _ h => h) hP hS 132 (c_W_isFull l D cI cC cZ cT ad hI M n rc hn60 rw_ hW7 false ⟨fun h => (by cases h), fun h => by omega⟩) (by decide) (ci := 2) rfl rfl k_535 k_536 k_537 k_5 k_538 0 rfl (by decide +kernel) (by decide) rfl hl.1 (Nat.le_of_ble_eq_true rfl) d_C_row_70 (fun v M' H locs hq hP _ _ hS => ?_)
      obtain ⟨rfl, rfl⟩ := hq
      refine W.eq (g2 := F0 m 73 ls [.int (bI (false))]) rfl ?_
      refine z_eq (t := false) (tgt := 86) hx hb d_C_row_73 (by decide) (fun _ => ?_) (fun h9 => absurd h9 (by decide))
      refine lv_aload_n hx hb d_C_row_86 rfl (lv_at hl 1 rfl) ?_
      refine g_get (C := R_C) (T := T_C) (N := 15) (ci := 7) (v := .ref (ad (132))) hx hb hg i_C hown hK hP 0 (by decide) rfl rfl 5 (by decide) (hg _ k_133) rfl d_C_row_87 ?_
      refine lv_iload_n hx hb d_C_row_90 rfl (lv_at hl 2 rfl) ?_
      refine lv_iload_n hx hb d_C_row_91 rfl (lv_at hl 3 rfl) ?_
      refine lv_iload_n hx hb d_C_row_92 rfl (lv_at hl 4 rfl) ?_
      refine c_V (own := R_C) (index := 200) (As := [.int (nI (a)), .int (nI (b9)), .int (nI (d9))]) (rest := []) hx hb hml hown hg hK NXc.same hN.warm (fun _ h => h) hP hS 132 (c_W_add l D cI cC cZ cT ad hI M n rc hn60 rw_ hW7 a b9 d9 h40) (by decide) (ci := 2) rfl rfl k_540 k_541 k_542 k_5 k_543 3 rfl (by decide +kernel) (by decide) rfl hl.1 (Nat.le_of_ble_eq_true rfl) d_C_row_93 (fun v M_1 H locs hq hP _ _ hS => ?_)
      obtain ⟨rfl, eM_1⟩ := hq
      refine W.eq (g2 := F0 m 96 ls [.int (nI (rc))]) rfl ?_
      exact r_i hx hb hr hlocks hP hS (⟨rfl, eM_1⟩) d_C_row_96
    · exact absurd rfl c_50
  · exact absurd c_24 (nI_m1 (by omega))

set_option maxHeartbeats 4000000 in
set_option maxRecDepth 100000 in
theorem x_C_told_1 (l : Launch) (D : va_G) (cI cC cZ cT : ClassId) (ad : Nat → Nat) (hI : GI 144 ad) (hlT : l.stackTraces = false) (M : PM) (n : Nat) (hn60 : n ≤ 60) (rc : Nat) (rw_ : Nat → Nat) (hW7 : CW M n rc rw_) (x y : Int32) (hbad : ¬ ∃ j, j < rc ∧ x = nI j) : MX l D cI cC cZ cT ad y_C_told b_C_told 3 (some .int) 6 90 [.ref (ad (0)), .int (x), .int (y)] M "java/lang/IndexOutOfBoundsException" (fun M' => M = M') := by
  refine MX.of (by decide) (Nat.le_of_ble_eq_true rfl) ?_
  intro p e s m below meth c ls hx hb hr hml hown hg hlocks hK hN hX hTb hP hS hl
  have hown : s.vm.findClass R_C = some m.cls := hown
  have hl : lv_has ls 3 [(0, .ref (ad (0))), (1, .int (x)), (2, .int (y))] := hl
  refine lv_aload_n hx hb d_C_told_0 rfl (lv_at hl 0 rfl) ?_
  refine g_get (C := R_C) (T := T_C) (N := 15) (ci := 7) (v := .ref (ad (132))) hx hb hg i_C hown hK hP 0 (by decide) rfl rfl 5 (by decide) (hg _ k_133) rfl d_C_told_1 ?_
  refine lv_iload_n hx hb d_C_told_4 rfl (lv_at hl 1 rfl) ?_
  refine c_V (own := R_C) (index := 203) (As := [.int (x)]) (rest := []) hx hb hml hown hg hK NXc.same hN.warm (fun _ h => h) hP hS 132 (c_W_has l D cI cC cZ cT ad hI M n rc hn60 rw_ hW7 ((x)) false ⟨fun h => (by cases h), fun h => absurd h hbad⟩) (by decide) (ci := 2) rfl rfl k_551 k_552 k_553 k_5 k_554 1 rfl (by decide +kernel) (by decide) rfl hl.1 (Nat.le_of_ble_eq_true rfl) d_C_told_5 (fun v M' H locs hq hP _ _ hS => ?_)
  obtain ⟨rfl, rfl⟩ := hq
  refine W.eq (g2 := F0 m 8 ls [.int (bI (false))]) rfl ?_
  refine z_ne (t := false) (tgt := 21) hx hb d_C_told_8 (by decide) (fun h9 => absurd h9 (by decide)) (fun _ => ?_)
  exact t_S hx hb hlT xat_IOE sx_209 hown hg hX hTb hlocks (hl.1.trans hml.symm) hP hS (rfl) (by decide) (Nat.le_of_ble_eq_true rfl) d_C_told_11 d_C_told_14 d_C_told_15 d_C_told_17 d_C_told_20

set_option maxHeartbeats 4000000 in
set_option maxRecDepth 100000 in
theorem x_C_told_2 (l : Launch) (D : va_G) (cI cC cZ cT : ClassId) (ad : Nat → Nat) (hI : GI 144 ad) (hlT : l.stackTraces = false) (M : PM) (n : Nat) (hn60 : n ≤ 60) (rc : Nat) (rw_ : Nat → Nat) (hW7 : CW M n rc rw_) (k : Nat) (hk : k < rc) (x : Int32) (hbad : ¬ ∃ c, c ≤ 2 ∧ x = nI c) : MX l D cI cC cZ cT ad y_C_told b_C_told 3 (some .int) 6 90 [.ref (ad (0)), .int (nI (k)), .int (x)] M "java/lang/IllegalArgumentException" (fun M' => M = M') := by
  refine MX.of (by decide) (Nat.le_of_ble_eq_true rfl) ?_
  intro p e s m below meth c ls hx hb hr hml hown hg hlocks hK hN hX hTb hP hS hl
  have hown : s.vm.findClass R_C = some m.cls := hown
  have hl : lv_has ls 3 [(0, .ref (ad (0))), (1, .int (nI (k))), (2, .int (x))] := hl
  have hrc := hW7.1
  refine lv_aload_n hx hb d_C_told_0 rfl (lv_at hl 0 rfl) ?_
  refine g_get (C := R_C) (T := T_C) (N := 15) (ci := 7) (v := .ref (ad (132))) hx hb hg i_C hown hK hP 0 (by decide) rfl rfl 5 (by decide) (hg _ k_133) rfl d_C_told_1 ?_
  refine lv_iload_n hx hb d_C_told_4 rfl (lv_at hl 1 rfl) ?_
  refine c_V (own := R_C) (index := 203) (As := [.int (nI (k))]) (rest := []) hx hb hml hown hg hK NXc.same hN.warm (fun _ h => h) hP hS 132 (c_W_has l D cI cC cZ cT ad hI M n rc hn60 rw_ hW7 ((nI (k))) true ⟨fun _ => ⟨k, hk, rfl⟩, fun _ => rfl⟩) (by decide) (ci := 2) rfl rfl k_551 k_552 k_553 k_5 k_554 1 rfl (by decide +kernel) (by decide) rfl hl.1 (Nat.le_of_ble_eq_true rfl) d_C_told_5 (fun v M' H locs hq hP _ _ hS => ?_)
  obtain ⟨rfl, rfl⟩ := hq
  refine W.eq (g2 := F0 m 8 ls [.int (bI (true))]) rfl ?_
  refine z_ne (t := true) (tgt := 21) hx hb d_C_told_8 (by decide) (fun _ => ?_) (fun h9 => absurd h9 (by decide))
  refine lv_iload_n hx hb d_C_told_21 rfl (lv_at hl 2 rfl) ?_
  refine lv_if_lt (tgt := 30) hx hb d_C_told_22 (by decide) (fun c_22 => ?_) (fun c_22 => ?_)
  · exact t_S hx hb hlT xat_IAE sx_212 hown hg hX hTb hlocks (hl.1.trans hml.symm) hP hS (rfl) (by decide) (Nat.le_of_ble_eq_true rfl) d_C_told_30 d_C_told_33 d_C_told_34 d_C_told_36 d_C_told_39
  · refine lv_iload_n hx hb d_C_told_25 rfl (lv_at hl 2 rfl) ?_
    refine n_const (k := 3) hx hb d_C_told_26 (by decide) ?_
    refine lv_icmp_lt (tgt := 40) hx hb d_C_told_27 (by decide) (fun c_27 => ?_) (fun c_27 => ?_)
    · exact absurd (rng (a := 0) (b := 2) (by decide) c_22 (lt3 c_27) (by decide)) (fun ⟨c, _, h2, h3⟩ => hbad ⟨c, h2, h3⟩)
    · exact t_S hx hb hlT xat_IAE sx_212 hown hg hX hTb hlocks (hl.1.trans hml.symm) hP hS (rfl) (by decide) (Nat.le_of_ble_eq_true rfl) d_C_told_30 d_C_told_33 d_C_told_34 d_C_told_36 d_C_told_39

set_option maxHeartbeats 4000000 in
set_option maxRecDepth 100000 in
theorem c_C_told (l : Launch) (D : va_G) (cI cC cZ cT : ClassId) (ad : Nat → Nat) (hI : GI 144 ad) (M : PM) (n : Nat) (hn60 : n ≤ 60) (rc : Nat) (rw_ : Nat → Nat) (hW7 : CW M n rc rw_) (k : Nat) (hk : k < rc) (w : Nat) (hw : w ≤ 2) : MD l D cI cC cZ cT ad y_C_told b_C_told 3 (some .int) 1 22 [.ref (ad (0)), .int (nI (k)), .int (nI (w))] M (fun v M' => v = some (.int (nI (rw_ (3 * k + w)))) ∧ M = M') := by
  refine MC.of (by decide) (Nat.le_of_ble_eq_true rfl) ?_
  intro p e s m below meth c ls hx hb hr hml hown hg hlocks hK hN hP hS hl
  have hown : s.vm.findClass R_C = some m.cls := hown
  have hl : lv_has ls 3 [(0, .ref (ad (0))), (1, .int (nI (k))), (2, .int (nI (w)))] := hl
  have hrc := hW7.1
  refine lv_aload_n hx hb d_C_told_0 rfl (lv_at hl 0 rfl) ?_
  refine g_get (C := R_C) (T := T_C) (N := 15) (ci := 7) (v := .ref (ad (132))) hx hb hg i_C hown hK hP 0 (by decide) rfl rfl 5 (by decide) (hg _ k_133) rfl d_C_told_1 ?_
  refine lv_iload_n hx hb d_C_told_4 rfl (lv_at hl 1 rfl) ?_
  refine c_V (own := R_C) (index := 203) (As := [.int (nI (k))]) (rest := []) hx hb hml hown hg hK NXc.same hN.warm (fun _ h => h) hP hS 132 (c_W_has l D cI cC cZ cT ad hI M n rc hn60 rw_ hW7 ((nI (k))) true ⟨fun _ => ⟨k, hk, rfl⟩, fun _ => rfl⟩) (by decide) (ci := 2) rfl rfl k_551 k_552 k_553 k_5 k_554 1 rfl (by decide +kernel) (by decide) rfl hl.1 (Nat.le_of_ble_eq_true rfl) d_C_told_5 (fun v M' H locs hq hP _ _ hS => ?_)
  obtain ⟨rfl, rfl⟩ := hq
  refine W.eq (g2 := F0 m 8 ls [.int (bI (true))]) rfl ?_
  refine z_ne (t := true) (tgt := 21) hx hb d_C_told_8 (by decide) (fun _ => ?_) (fun h9 => absurd h9 (by decide))
  refine lv_iload_n hx hb d_C_told_21 rfl (lv_at hl 2 rfl) ?_
  refine lv_if_lt (tgt := 30) hx hb d_C_told_22 (by decide) (fun c_22 => ?_) (fun c_22 => ?_)
  · exact absurd c_22 (nI_pos (by omega))
  · refine lv_iload_n hx hb d_C_told_25 rfl (lv_at hl 2 rfl) ?_
    refine n_const (k := 3) hx hb d_C_told_26 (by decide) ?_
    refine n_lt (a := w) (b := 3) (tgt := 40) hx hb d_C_told_27 (by decide) (by omega) (by omega) (fun c_27 => ?_) (fun c_27 => ?_)
    · refine lv_aload_n hx hb d_C_told_40 rfl (lv_at hl 0 rfl) ?_
      refine g_get (C := R_C) (T := T_C) (N := 15) (ci := 7) (v := .ref (ad (132))) hx hb hg i_C hown hK hP 0 (by decide) rfl rfl 5 (by decide) (hg _ k_133) rfl d_C_told_41 ?_
      refine lv_iload_n hx hb d_C_told_44 rfl (lv_at hl 1 rfl) ?_
      refine lv_iload_n hx hb d_C_told_45 rfl (lv_at hl 2 rfl) ?_
      refine c_V (own := R_C) (index := 214) (As := [.int (nI (k)), .int (nI (w))]) (rest := []) hx hb hml hown hg hK NXc.same hN.warm (fun _ h => h) hP hS 132 (c_W_cell l D cI cC cZ cT ad hI M n rc hn60 rw_ hW7 k w hk (by omega)) (by decide) (ci := 2) rfl rfl k_557 k_532 k_533 k_5 k_534 2 rfl (by decide +kernel) (by decide) rfl hl.1 (Nat.le_of_ble_eq_true rfl) d_C_told_46 (fun v M' H locs hq hP _ _ hS => ?_)
      obtain ⟨rfl, rfl⟩ := hq
      refine W.eq (g2 := F0 m 49 ls [.int (nI (rw_ (3 * k + w)))]) rfl ?_
      exact r_i hx hb hr hlocks hP hS (⟨rfl, rfl⟩) d_C_told_49
    · exact absurd c_27 (by omega)
