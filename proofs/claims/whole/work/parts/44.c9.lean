set_option maxHeartbeats 4000000 in
set_option maxRecDepth 100000 in
theorem c_C_sotb_n (l : Launch) (D : va_G) (cI cC cZ cT : ClassId) (ad : Nat → Nat) (hI : GI 144 ad) (M : PM) (n : Nat) (len : Nat → Nat) (ch : Nat → Nat → Nat) (hN7 : CN M n len ch) (sp bs : Nat → Option Nat) (hH : CSp M n sp bs) (tl : Nat) (tc : Nat → Nat) (hT1 : TT M 1 tl tc) (c9 : Nat) (hc9 : c9 ≤ tl) (ho : Fst (sameT len ch c9 tc) n none) : MD l D cI cC cZ cT ad y_C_spaceOnTapeBefore b_C_spaceOnTapeBefore 3 (some .int) 3 66 [.ref (ad (0)), .int (nI (c9))] M (fun v M' => v = some (.int (oI none)) ∧ FT 5 M M') := by
  refine MC.of (by decide) (Nat.le_of_ble_eq_true rfl) ?_
  intro p e s m below meth c ls hx hb hr hml hown hg hlocks hK hN hP hS hl
  have hown : s.vm.findClass R_C = some m.cls := hown
  have hl : lv_has ls 3 [(0, .ref (ad (0))), (1, .int (nI (c9)))] := hl
  have hn60 := hN7.1
  have hnm := hN7.2.2.1
  have hspn := hH.2.2.1
  have hbsn := hH.2.2.2
  have htl := hT1.1
  rw [cap1] at htl
  have hF := FT.rf 5 M
  refine lv_aload_n hx hb d_C_spaceOnTapeBefore_0 rfl (lv_at hl 0 rfl) ?_
  refine g_get (C := R_C) (T := T_C) (N := 15) (ci := 7) (v := .ref (ad (5))) hx hb hg i_C hown hK hP 0 (by decide) rfl rfl 2 (by decide) (hg _ k_130) rfl d_C_spaceOnTapeBefore_1 ?_
  refine c_V (own := R_C) (index := 113) (As := []) (rest := []) hx hb hml hown hg hK NXc.same hN.warm (fun _ h => h) hP hS 5 (c_T_empty l D cI cC cZ cT ad hI M 5 tx5) (tx_lt tx5) (ci := 6) (cfC_T tx5 _) rfl k_183 k_184 k_185 k_2 k_186 0 rfl (by decide +kernel) (by decide) rfl hl.1 (Nat.le_of_ble_eq_true rfl) d_C_spaceOnTapeBefore_4 (fun v M_1 H locs hq hP _ _ hS => ?_)
  obtain ⟨rfl, eM_1⟩ := hq
  have hB : TT M_1 5 0 tc := by rw [eM_1]; exact TT.emp _ _ _
  have hF : FT 5 M M_1 := hF.tr (by rw [eM_1]; exact FT.emp _ _ _)
  refine W.eq (g2 := F0 m 7 ls []) rfl ?_
  refine lv_aload_n hx hb d_C_spaceOnTapeBefore_7 rfl (lv_at hl 0 rfl) ?_
  refine g_get (C := R_C) (T := T_C) (N := 15) (ci := 7) (v := .ref (ad (5))) hx hb hg i_C hown hK hP 0 (by decide) rfl rfl 2 (by decide) (hg _ k_130) rfl d_C_spaceOnTapeBefore_8 ?_
  refine lv_aload_n hx hb d_C_spaceOnTapeBefore_11 rfl (lv_at hl 0 rfl) ?_
  refine g_get (C := R_C) (T := T_C) (N := 15) (ci := 7) (v := .ref (ad (1))) hx hb hg i_C hown hK hP 0 (by decide) rfl rfl 0 (by decide) (hg _ k_128) rfl d_C_spaceOnTapeBefore_12 ?_
  refine n_const (k := 0) hx hb d_C_spaceOnTapeBefore_15 (by decide) ?_
  refine lv_iload_n hx hb d_C_spaceOnTapeBefore_16 rfl (lv_at hl 1 rfl) ?_
  refine c_V (own := R_C) (index := 171) (As := [.ref (ad (1)), .int (nI (0)), .int (nI (c9))]) (rest := []) hx hb hml hown hg hK NXc.same hN.warm (fun _ h => h) hP hS 5 (c_T_putPart l D cI cC cZ cT ad hI M_1 5 tx5 (0) tc hB (1) tx1 (tl) tc (hT1.ft hF tx5 tx1 (by decide)) (0) (c9) (by omega) (by omega) (by decide) (by rw [cap5]; omega) (fun i _ _ => by rw [Nat.zero_add, Nat.sub_zero])) (tx_lt tx5) (ci := 6) (cfC_T tx5 _) rfl k_374 k_358 k_359 k_2 k_360 3 rfl (by decide +kernel) (by decide) rfl hl.1 (Nat.le_of_ble_eq_true rfl) d_C_spaceOnTapeBefore_17 (fun v M_2 H locs hq hP _ _ hS => ?_)
  obtain ⟨rfl, hB, hFx⟩ := hq
  rw [Nat.zero_add, Nat.sub_zero] at hB
  have hF : FT 5 M M_2 := hF.tr hFx
  refine W.eq (g2 := F0 m 20 ls []) rfl ?_
  refine lv_aload_n hx hb d_C_spaceOnTapeBefore_20 rfl (lv_at hl 0 rfl) ?_
  refine g_get (C := R_C) (T := T_C) (N := 15) (ci := 7) (v := .ref (ad (7))) hx hb hg i_C hown hK hP 0 (by decide) rfl rfl 3 (by decide) (hg _ k_131) rfl d_C_spaceOnTapeBefore_21 ?_
  refine lv_aload_n hx hb d_C_spaceOnTapeBefore_24 rfl (lv_at hl 0 rfl) ?_
  refine g_get (C := R_C) (T := T_C) (N := 15) (ci := 7) (v := .ref (ad (5))) hx hb hg i_C hown hK hP 0 (by decide) rfl rfl 2 (by decide) (hg _ k_130) rfl d_C_spaceOnTapeBefore_25 ?_
  refine c_V (own := R_C) (index := 306) (As := [.ref (ad (5))]) (rest := []) hx hb hml hown hg hK NXc.same hN.warm (fun _ h => h) hP hS 7 (c_N_find l D cI cC cZ cT ad hI M_2 n len ch (hN7.ft hF (by decide)) 5 tx5 c9 tc hB (none) ho) (by decide) (ci := 0) rfl rfl k_333 k_334 k_335 k_3 k_336 1 rfl (by decide +kernel) (by decide) rfl hl.1 (Nat.le_of_ble_eq_true rfl) d_C_spaceOnTapeBefore_28 (fun v M' H locs hq hP _ _ hS => ?_)
  obtain ⟨rfl, rfl⟩ := hq
  refine W.eq (g2 := F0 m 31 ls [.int (-1)]) rfl ?_
  refine lv_istore_n (lv' := [(2, .int (-1)), (0, .ref (ad (0))), (1, .int (nI (c9)))]) hx hb d_C_spaceOnTapeBefore_31 rfl hl (by decide) rfl (fun ls hl => ?_)
  refine lv_iload_n hx hb d_C_spaceOnTapeBefore_32 rfl (lv_at hl 0 rfl) ?_
  refine lv_iconst (v := -1) hx hb d_C_spaceOnTapeBefore_33 (by decide) ?_
  refine lv_icmp_ne (tgt := 41) hx hb d_C_spaceOnTapeBefore_34 (by decide) (fun c_34 => ?_) (fun c_34 => ?_)
  · exact absurd rfl c_34
  · refine lv_iconst (v := -1) hx hb d_C_spaceOnTapeBefore_37 (by decide) ?_
    refine lv_goto (tgt := 49) hx hb d_C_spaceOnTapeBefore_38 (by decide) ?_
    exact r_i hx hb hr hlocks hP hS (⟨rfl, hF⟩) d_C_spaceOnTapeBefore_49

set_option maxHeartbeats 4000000 in
set_option maxRecDepth 100000 in
theorem c_C_sotb_s (l : Launch) (D : va_G) (cI cC cZ cT : ClassId) (ad : Nat → Nat) (hI : GI 144 ad) (M : PM) (n : Nat) (len : Nat → Nat) (ch : Nat → Nat → Nat) (hN7 : CN M n len ch) (sp bs : Nat → Option Nat) (hH : CSp M n sp bs) (tl : Nat) (tc : Nat → Nat) (hT1 : TT M 1 tl tc) (c9 : Nat) (hc9 : c9 ≤ tl) (k9 : Nat) (ho : Fst (sameT len ch c9 tc) n (some k9)) : MD l D cI cC cZ cT ad y_C_spaceOnTapeBefore b_C_spaceOnTapeBefore 3 (some .int) 3 66 [.ref (ad (0)), .int (nI (c9))] M (fun v M' => v = some (.int (oI (sp k9))) ∧ FT 5 M M') := by
  refine MC.of (by decide) (Nat.le_of_ble_eq_true rfl) ?_
  intro p e s m below meth c ls hx hb hr hml hown hg hlocks hK hN hP hS hl
  have hown : s.vm.findClass R_C = some m.cls := hown
  have hl : lv_has ls 3 [(0, .ref (ad (0))), (1, .int (nI (c9)))] := hl
  have hn60 := hN7.1
  have hnm := hN7.2.2.1
  have hspn := hH.2.2.1
  have hbsn := hH.2.2.2
  have htl := hT1.1
  rw [cap1] at htl
  have hF := FT.rf 5 M
  have hk9 := ho.1
  refine lv_aload_n hx hb d_C_spaceOnTapeBefore_0 rfl (lv_at hl 0 rfl) ?_
  refine g_get (C := R_C) (T := T_C) (N := 15) (ci := 7) (v := .ref (ad (5))) hx hb hg i_C hown hK hP 0 (by decide) rfl rfl 2 (by decide) (hg _ k_130) rfl d_C_spaceOnTapeBefore_1 ?_
  refine c_V (own := R_C) (index := 113) (As := []) (rest := []) hx hb hml hown hg hK NXc.same hN.warm (fun _ h => h) hP hS 5 (c_T_empty l D cI cC cZ cT ad hI M 5 tx5) (tx_lt tx5) (ci := 6) (cfC_T tx5 _) rfl k_183 k_184 k_185 k_2 k_186 0 rfl (by decide +kernel) (by decide) rfl hl.1 (Nat.le_of_ble_eq_true rfl) d_C_spaceOnTapeBefore_4 (fun v M_1 H locs hq hP _ _ hS => ?_)
  obtain ⟨rfl, eM_1⟩ := hq
  have hB : TT M_1 5 0 tc := by rw [eM_1]; exact TT.emp _ _ _
  have hF : FT 5 M M_1 := hF.tr (by rw [eM_1]; exact FT.emp _ _ _)
  refine W.eq (g2 := F0 m 7 ls []) rfl ?_
  refine lv_aload_n hx hb d_C_spaceOnTapeBefore_7 rfl (lv_at hl 0 rfl) ?_
  refine g_get (C := R_C) (T := T_C) (N := 15) (ci := 7) (v := .ref (ad (5))) hx hb hg i_C hown hK hP 0 (by decide) rfl rfl 2 (by decide) (hg _ k_130) rfl d_C_spaceOnTapeBefore_8 ?_
  refine lv_aload_n hx hb d_C_spaceOnTapeBefore_11 rfl (lv_at hl 0 rfl) ?_
  refine g_get (C := R_C) (T := T_C) (N := 15) (ci := 7) (v := .ref (ad (1))) hx hb hg i_C hown hK hP 0 (by decide) rfl rfl 0 (by decide) (hg _ k_128) rfl d_C_spaceOnTapeBefore_12 ?_
  refine n_const (k := 0) hx hb d_C_spaceOnTapeBefore_15 (by decide) ?_
  refine lv_iload_n hx hb d_C_spaceOnTapeBefore_16 rfl (lv_at hl 1 rfl) ?_
  refine c_V (own := R_C) (index := 171) (As := [.ref (ad (1)), .int (nI (0)), .int (nI (c9))]) (rest := []) hx hb hml hown hg hK NXc.same hN.warm (fun _ h => h) hP hS 5 (c_T_putPart l D cI cC cZ cT ad hI M_1 5 tx5 (0) tc hB (1) tx1 (tl) tc (hT1.ft hF tx5 tx1 (by decide)) (0) (c9) (by omega) (by omega) (by decide) (by rw [cap5]; omega) (fun i _ _ => by rw [Nat.zero_add, Nat.sub_zero])) (tx_lt tx5) (ci := 6) (cfC_T tx5 _) rfl k_374 k_358 k_359 k_2 k_360 3 rfl (by decide +kernel) (by decide) rfl hl.1 (Nat.le_of_ble_eq_true rfl) d_C_spaceOnTapeBefore_17 (fun v M_2 H locs hq hP _ _ hS => ?_)
  obtain ⟨rfl, hB, hFx⟩ := hq
  rw [Nat.zero_add, Nat.sub_zero] at hB
  have hF : FT 5 M M_2 := hF.tr hFx
  refine W.eq (g2 := F0 m 20 ls []) rfl ?_
  refine lv_aload_n hx hb d_C_spaceOnTapeBefore_20 rfl (lv_at hl 0 rfl) ?_
  refine g_get (C := R_C) (T := T_C) (N := 15) (ci := 7) (v := .ref (ad (7))) hx hb hg i_C hown hK hP 0 (by decide) rfl rfl 3 (by decide) (hg _ k_131) rfl d_C_spaceOnTapeBefore_21 ?_
  refine lv_aload_n hx hb d_C_spaceOnTapeBefore_24 rfl (lv_at hl 0 rfl) ?_
  refine g_get (C := R_C) (T := T_C) (N := 15) (ci := 7) (v := .ref (ad (5))) hx hb hg i_C hown hK hP 0 (by decide) rfl rfl 2 (by decide) (hg _ k_130) rfl d_C_spaceOnTapeBefore_25 ?_
  refine c_V (own := R_C) (index := 306) (As := [.ref (ad (5))]) (rest := []) hx hb hml hown hg hK NXc.same hN.warm (fun _ h => h) hP hS 7 (c_N_find l D cI cC cZ cT ad hI M_2 n len ch (hN7.ft hF (by decide)) 5 tx5 c9 tc hB (some k9) ho) (by decide) (ci := 0) rfl rfl k_333 k_334 k_335 k_3 k_336 1 rfl (by decide +kernel) (by decide) rfl hl.1 (Nat.le_of_ble_eq_true rfl) d_C_spaceOnTapeBefore_28 (fun v M' H locs hq hP _ _ hS => ?_)
  obtain ⟨rfl, rfl⟩ := hq
  refine W.eq (g2 := F0 m 31 ls [.int (nI (k9))]) rfl ?_
  refine lv_istore_n (lv' := [(2, .int (nI (k9))), (0, .ref (ad (0))), (1, .int (nI (c9)))]) hx hb d_C_spaceOnTapeBefore_31 rfl hl (by decide) rfl (fun ls hl => ?_)
  refine lv_iload_n hx hb d_C_spaceOnTapeBefore_32 rfl (lv_at hl 0 rfl) ?_
  refine lv_iconst (v := -1) hx hb d_C_spaceOnTapeBefore_33 (by decide) ?_
  refine lv_icmp_ne (tgt := 41) hx hb d_C_spaceOnTapeBefore_34 (by decide) (fun c_34 => ?_) (fun c_34 => ?_)
  · refine lv_aload_n hx hb d_C_spaceOnTapeBefore_41 rfl (lv_at hl 1 rfl) ?_
    refine g_get (C := R_C) (T := T_C) (N := 15) (ci := 7) (v := .ref (ad (129))) hx hb hg i_C hown hK hP 0 (by decide) rfl rfl 4 (by decide) (hg _ k_132) rfl d_C_spaceOnTapeBefore_42 ?_
    refine lv_iload_n hx hb d_C_spaceOnTapeBefore_45 rfl (lv_at hl 0 rfl) ?_
    refine c_V (own := R_C) (index := 143) (As := [.int (nI (k9))]) (rest := []) hx hb hml hown hg hK NXc.same hN.warm (fun _ h => h) hP hS 129 (c_H_spaceOfShort l D cI cC cZ cT ad hI M_2 n sp bs (hH.ft hF (by decide)) (k9) (by omega)) (by decide) (ci := 3) rfl rfl k_383 k_384 k_385 k_4 k_386 1 rfl (by decide +kernel) (by decide) rfl hl.1 (Nat.le_of_ble_eq_true rfl) d_C_spaceOnTapeBefore_46 (fun v M' H locs hq hP _ _ hS => ?_)
    obtain ⟨rfl, rfl⟩ := hq
    refine W.eq (g2 := F0 m 49 ls [.int (oI (sp (k9)))]) rfl ?_
    exact r_i hx hb hr hlocks hP hS (⟨rfl, hF⟩) d_C_spaceOnTapeBefore_49
  · exact absurd c_34 (nI_m1 (by omega))

set_option maxHeartbeats 4000000 in
set_option maxRecDepth 100000 in
theorem c_C_bft_a (l : Launch) (D : va_G) (cI cC cZ cT : ClassId) (ad : Nat → Nat) (hI : GI 144 ad) (M : PM) (n : Nat) (len : Nat → Nat) (ch : Nat → Nat → Nat) (hN7 : CN M n len ch) (sp bs : Nat → Option Nat) (hH : CSp M n sp bs) (tl : Nat) (tc : Nat → Nat) (hT1 : TT M 1 tl tc) (h0 : 0 < tl) (htc : ∀ i, i < tl → 33 ≤ tc i ∧ tc i ≤ 126) (hbr : brk tl tc) : MD l D cI cC cZ cT ad y_C_buildFromTape b_C_buildFromTape 4 none 2 45 [.ref (ad (0))] M (fun v M' => v = none ∧ TT M' 5 (tl - 2) (scBr tc) ∧ FT 5 M M') := by
  refine MC.of (by decide) (Nat.le_of_ble_eq_true rfl) ?_
  intro p e s m below meth c ls hx hb hr hml hown hg hlocks hK hN hP hS hl
  have hown : s.vm.findClass R_C = some m.cls := hown
  have hl : lv_has ls 4 [(0, .ref (ad (0)))] := hl
  have hn60 := hN7.1
  have hnm := hN7.2.2.1
  have hspn := hH.2.2.1
  have hbsn := hH.2.2.2
  have htl := hT1.1
  rw [cap1] at htl
  have hF := FT.rf 5 M
  have hc1 := htc 0 h0
  have hc2 := htc (tl - 1) (by omega)
  obtain ⟨b1, b2, b3⟩ := hbr
  refine lv_aload_n hx hb d_C_buildFromTape_0 rfl (lv_at hl 0 rfl) ?_
  refine g_get (C := R_C) (T := T_C) (N := 15) (ci := 7) (v := .ref (ad (1))) hx hb hg i_C hown hK hP 0 (by decide) rfl rfl 0 (by decide) (hg _ k_128) rfl d_C_buildFromTape_1 ?_
  refine c_V (own := R_C) (index := 109) (As := []) (rest := []) hx hb hml hown hg hK NXc.same hN.warm (fun _ h => h) hP hS 1 (c_T_length l D cI cC cZ cT ad hI M 1 tx1 tl tc (hT1)) (tx_lt tx1) (ci := 6) (cfC_T tx1 _) rfl k_179 k_180 k_181 k_2 k_182 0 rfl (by decide +kernel) (by decide) rfl hl.1 (Nat.le_of_ble_eq_true rfl) d_C_buildFromTape_4 (fun v M' H locs hq hP _ _ hS => ?_)
  obtain ⟨rfl, rfl⟩ := hq
  refine W.eq (g2 := F0 m 7 ls [.int (nI (tl))]) rfl ?_
  refine n_const (k := 1) hx hb d_C_buildFromTape_7 (by decide) ?_
  refine n_isub (a := tl) (b := 1) hx hb d_C_buildFromTape_8 (by omega) ?_
  refine lv_istore_n (lv' := [(1, .int (nI ((tl) - (1)))), (0, .ref (ad (0)))]) hx hb d_C_buildFromTape_9 rfl hl (by decide) rfl (fun ls hl => ?_)
  refine lv_aload_n hx hb d_C_buildFromTape_10 rfl (lv_at hl 1 rfl) ?_
  refine g_get (C := R_C) (T := T_C) (N := 15) (ci := 7) (v := .ref (ad (1))) hx hb hg i_C hown hK hP 0 (by decide) rfl rfl 0 (by decide) (hg _ k_128) rfl d_C_buildFromTape_11 ?_
  refine c_V (own := R_C) (index := 109) (As := []) (rest := []) hx hb hml hown hg hK NXc.same hN.warm (fun _ h => h) hP hS 1 (c_T_length l D cI cC cZ cT ad hI M 1 tx1 tl tc (hT1)) (tx_lt tx1) (ci := 6) (cfC_T tx1 _) rfl k_179 k_180 k_181 k_2 k_182 0 rfl (by decide +kernel) (by decide) rfl hl.1 (Nat.le_of_ble_eq_true rfl) d_C_buildFromTape_14 (fun v M' H locs hq hP _ _ hS => ?_)
  obtain ⟨rfl, rfl⟩ := hq
  refine W.eq (g2 := F0 m 17 ls [.int (nI (tl))]) rfl ?_
  refine n_const (k := 2) hx hb d_C_buildFromTape_17 (by decide) ?_
  refine n_le (a := tl) (b := 2) (tgt := 68) hx hb d_C_buildFromTape_18 (by decide) (by omega) (by omega) (fun c_18 => ?_) (fun c_18 => ?_)
  · exact absurd c_18 (by omega)
  · refine lv_aload_n hx hb d_C_buildFromTape_21 rfl (lv_at hl 1 rfl) ?_
    refine g_get (C := R_C) (T := T_C) (N := 15) (ci := 7) (v := .ref (ad (1))) hx hb hg i_C hown hK hP 0 (by decide) rfl rfl 0 (by decide) (hg _ k_128) rfl d_C_buildFromTape_22 ?_
    refine n_const (k := 0) hx hb d_C_buildFromTape_25 (by decide) ?_
    refine c_V (own := R_C) (index := 179) (As := [.int (nI (0))]) (rest := []) hx hb hml hown hg hK NXc.same hN.warm (fun _ h => h) hP hS 1 (c_T_at l D cI cC cZ cT ad hI M 1 tx1 tl tc (hT1) (0) (by omega)) (tx_lt tx1) (ci := 6) (cfC_T tx1 _) rfl k_191 k_192 k_193 k_2 k_194 1 rfl (by decide +kernel) (by decide) rfl hl.1 (Nat.le_of_ble_eq_true rfl) d_C_buildFromTape_26 (fun v M' H locs hq hP _ _ hS => ?_)
    obtain ⟨rfl, rfl⟩ := hq
    refine W.eq (g2 := F0 m 29 ls [.int (nI (tc (0)))]) rfl ?_
    refine n_bipush (k := 60) hx hb d_C_buildFromTape_29 (by decide) ?_
    refine n_ne (a := tc (0)) (b := 60) (tgt := 68) hx hb d_C_buildFromTape_31 (by decide) (by omega) (by omega) (fun c_31 => ?_) (fun c_31 => ?_)
    · exact absurd b2 c_31
    · refine lv_aload_n hx hb d_C_buildFromTape_34 rfl (lv_at hl 1 rfl) ?_
      refine g_get (C := R_C) (T := T_C) (N := 15) (ci := 7) (v := .ref (ad (1))) hx hb hg i_C hown hK hP 0 (by decide) rfl rfl 0 (by decide) (hg _ k_128) rfl d_C_buildFromTape_35 ?_
      refine lv_iload_n hx hb d_C_buildFromTape_38 rfl (lv_at hl 0 rfl) ?_
      refine c_V (own := R_C) (index := 179) (As := [.int (nI ((tl) - (1)))]) (rest := []) hx hb hml hown hg hK NXc.same hN.warm (fun _ h => h) hP hS 1 (c_T_at l D cI cC cZ cT ad hI M 1 tx1 tl tc (hT1) ((tl) - (1)) (by omega)) (tx_lt tx1) (ci := 6) (cfC_T tx1 _) rfl k_191 k_192 k_193 k_2 k_194 1 rfl (by decide +kernel) (by decide) rfl hl.1 (Nat.le_of_ble_eq_true rfl) d_C_buildFromTape_39 (fun v M' H locs hq hP _ _ hS => ?_)
      obtain ⟨rfl, rfl⟩ := hq
      refine W.eq (g2 := F0 m 42 ls [.int (nI (tc ((tl) - (1))))]) rfl ?_
      refine n_bipush (k := 62) hx hb d_C_buildFromTape_42 (by decide) ?_
      refine n_ne (a := tc ((tl) - (1))) (b := 62) (tgt := 68) hx hb d_C_buildFromTape_44 (by decide) (by omega) (by omega) (fun c_44 => ?_) (fun c_44 => ?_)
      · exact absurd b3 c_44
      · refine lv_aload_n hx hb d_C_buildFromTape_47 rfl (lv_at hl 1 rfl) ?_
        refine g_get (C := R_C) (T := T_C) (N := 15) (ci := 7) (v := .ref (ad (5))) hx hb hg i_C hown hK hP 0 (by decide) rfl rfl 2 (by decide) (hg _ k_130) rfl d_C_buildFromTape_48 ?_
        refine c_V (own := R_C) (index := 113) (As := []) (rest := []) hx hb hml hown hg hK NXc.same hN.warm (fun _ h => h) hP hS 5 (c_T_empty l D cI cC cZ cT ad hI M 5 tx5) (tx_lt tx5) (ci := 6) (cfC_T tx5 _) rfl k_183 k_184 k_185 k_2 k_186 0 rfl (by decide +kernel) (by decide) rfl hl.1 (Nat.le_of_ble_eq_true rfl) d_C_buildFromTape_51 (fun v M_1 H locs hq hP _ _ hS => ?_)
        obtain ⟨rfl, eM_1⟩ := hq
        have hB : TT M_1 5 0 (scBr tc) := by rw [eM_1]; exact TT.emp _ _ _
        have hF : FT 5 M M_1 := hF.tr (by rw [eM_1]; exact FT.emp _ _ _)
        refine W.eq (g2 := F0 m 54 ls []) rfl ?_
        refine lv_aload_n hx hb d_C_buildFromTape_54 rfl (lv_at hl 1 rfl) ?_
        refine g_get (C := R_C) (T := T_C) (N := 15) (ci := 7) (v := .ref (ad (5))) hx hb hg i_C hown hK hP 0 (by decide) rfl rfl 2 (by decide) (hg _ k_130) rfl d_C_buildFromTape_55 ?_
        refine lv_aload_n hx hb d_C_buildFromTape_58 rfl (lv_at hl 1 rfl) ?_
        refine g_get (C := R_C) (T := T_C) (N := 15) (ci := 7) (v := .ref (ad (1))) hx hb hg i_C hown hK hP 0 (by decide) rfl rfl 0 (by decide) (hg _ k_128) rfl d_C_buildFromTape_59 ?_
        refine n_const (k := 1) hx hb d_C_buildFromTape_62 (by decide) ?_
        refine lv_iload_n hx hb d_C_buildFromTape_63 rfl (lv_at hl 0 rfl) ?_
        refine c_V (own := R_C) (index := 171) (As := [.ref (ad (1)), .int (nI (1)), .int (nI ((tl) - (1)))]) (rest := []) hx hb hml hown hg hK NXc.same hN.warm (fun _ h => h) hP hS 5 (c_T_putPart l D cI cC cZ cT ad hI M_1 5 tx5 (0) (scBr tc) hB (1) tx1 (tl) tc (hT1.ft hF tx5 tx1 (by decide)) (1) (tl - 1) (by omega) (by omega) (by decide) (by rw [cap5]; omega) (fun i h1 h2 => by unfold scBr; congr 1; omega)) (tx_lt tx5) (ci := 6) (cfC_T tx5 _) rfl k_374 k_358 k_359 k_2 k_360 3 rfl (by decide +kernel) (by decide) rfl hl.1 (Nat.le_of_ble_eq_true rfl) d_C_buildFromTape_64 (fun v M_2 H locs hq hP _ _ hS => ?_)
        obtain ⟨rfl, hB, hFx⟩ := hq
        have hF : FT 5 M M_2 := hF.tr hFx
        refine W.eq (g2 := F0 m 67 ls []) rfl ?_
        exact r_v hx hb hr hlocks hP hS (⟨rfl, by have e9 : tl - 2 = 0 + (tl - 1 - 1) := (by omega); rw [e9]; exact hB, hF⟩) d_C_buildFromTape_67

set_option maxHeartbeats 4000000 in
set_option maxRecDepth 100000 in
theorem c_C_bft_f1 (l : Launch) (D : va_G) (cI cC cZ cT : ClassId) (ad : Nat → Nat) (hI : GI 144 ad) (M : PM) (n : Nat) (len : Nat → Nat) (ch : Nat → Nat → Nat) (hN7 : CN M n len ch) (sp bs : Nat → Option Nat) (hH : CSp M n sp bs) (tl : Nat) (tc : Nat → Nat) (hT1 : TT M 1 tl tc) (h0 : 0 < tl) (htc : ∀ i, i < tl → 33 ≤ tc i ∧ tc i ≤ 126) (hnb : ¬ brk tl tc) (hoc : Fst (fun i => tc i = 58) tl none) : MD l D cI cC cZ cT ad y_C_buildFromTape b_C_buildFromTape 4 none 1 22 [.ref (ad (0))] M (fun v M' => v = none ∧ TT M' 5 0 tc ∧ FT 5 M M') := by
  refine MC.of (by decide) (Nat.le_of_ble_eq_true rfl) ?_
  intro p e s m below meth c ls hx hb hr hml hown hg hlocks hK hN hP hS hl
  have hown : s.vm.findClass R_C = some m.cls := hown
  have hl : lv_has ls 4 [(0, .ref (ad (0)))] := hl
  have hn60 := hN7.1
  have hnm := hN7.2.2.1
  have hspn := hH.2.2.1
  have hbsn := hH.2.2.2
  have htl := hT1.1
  rw [cap1] at htl
  have hF := FT.rf 5 M
  have hc1 := htc 0 h0
  have hc2 := htc (tl - 1) (by omega)
  refine lv_aload_n hx hb d_C_buildFromTape_0 rfl (lv_at hl 0 rfl) ?_
  refine g_get (C := R_C) (T := T_C) (N := 15) (ci := 7) (v := .ref (ad (1))) hx hb hg i_C hown hK hP 0 (by decide) rfl rfl 0 (by decide) (hg _ k_128) rfl d_C_buildFromTape_1 ?_
  refine c_V (own := R_C) (index := 109) (As := []) (rest := []) hx hb hml hown hg hK NXc.same hN.warm (fun _ h => h) hP hS 1 (c_T_length l D cI cC cZ cT ad hI M 1 tx1 tl tc (hT1)) (tx_lt tx1) (ci := 6) (cfC_T tx1 _) rfl k_179 k_180 k_181 k_2 k_182 0 rfl (by decide +kernel) (by decide) rfl hl.1 (Nat.le_of_ble_eq_true rfl) d_C_buildFromTape_4 (fun v M' H locs hq hP _ _ hS => ?_)
  obtain ⟨rfl, rfl⟩ := hq
  refine W.eq (g2 := F0 m 7 ls [.int (nI (tl))]) rfl ?_
  refine n_const (k := 1) hx hb d_C_buildFromTape_7 (by decide) ?_
  refine n_isub (a := tl) (b := 1) hx hb d_C_buildFromTape_8 (by omega) ?_
  refine lv_istore_n (lv' := [(1, .int (nI ((tl) - (1)))), (0, .ref (ad (0)))]) hx hb d_C_buildFromTape_9 rfl hl (by decide) rfl (fun ls hl => ?_)
  refine lv_aload_n hx hb d_C_buildFromTape_10 rfl (lv_at hl 1 rfl) ?_
  refine g_get (C := R_C) (T := T_C) (N := 15) (ci := 7) (v := .ref (ad (1))) hx hb hg i_C hown hK hP 0 (by decide) rfl rfl 0 (by decide) (hg _ k_128) rfl d_C_buildFromTape_11 ?_
  refine c_V (own := R_C) (index := 109) (As := []) (rest := []) hx hb hml hown hg hK NXc.same hN.warm (fun _ h => h) hP hS 1 (c_T_length l D cI cC cZ cT ad hI M 1 tx1 tl tc (hT1)) (tx_lt tx1) (ci := 6) (cfC_T tx1 _) rfl k_179 k_180 k_181 k_2 k_182 0 rfl (by decide +kernel) (by decide) rfl hl.1 (Nat.le_of_ble_eq_true rfl) d_C_buildFromTape_14 (fun v M' H locs hq hP _ _ hS => ?_)
  obtain ⟨rfl, rfl⟩ := hq
  refine W.eq (g2 := F0 m 17 ls [.int (nI (tl))]) rfl ?_
  refine n_const (k := 2) hx hb d_C_buildFromTape_17 (by decide) ?_
  refine n_le (a := tl) (b := 2) (tgt := 68) hx hb d_C_buildFromTape_18 (by decide) (by omega) (by omega) (fun c_18 => ?_) (fun c_18 => ?_)
  · refine lv_aload_n hx hb d_C_buildFromTape_68 rfl (lv_at hl 1 rfl) ?_
    refine g_get (C := R_C) (T := T_C) (N := 15) (ci := 7) (v := .ref (ad (1))) hx hb hg i_C hown hK hP 0 (by decide) rfl rfl 0 (by decide) (hg _ k_128) rfl d_C_buildFromTape_69 ?_
    refine n_bipush (k := 58) hx hb d_C_buildFromTape_72 (by decide) ?_
    refine c_V (own := R_C) (index := 314) (As := [.int (nI (58))]) (rest := []) hx hb hml hown hg hK NXc.same hN.warm (fun _ h => h) hP hS 1 (c_T_firstPlaceOf l D cI cC cZ cT ad hI M 1 tx1 tl tc hT1 58 (by decide) (none) hoc) (tx_lt tx1) (ci := 6) (cfC_T tx1 _) rfl k_375 k_376 k_377 k_2 k_378 1 rfl (by decide +kernel) (by decide) rfl hl.1 (Nat.le_of_ble_eq_true rfl) d_C_buildFromTape_74 (fun v M' H locs hq hP _ _ hS => ?_)
    obtain ⟨rfl, rfl⟩ := hq
    refine W.eq (g2 := F0 m 77 ls [.int (-1)]) rfl ?_
    refine lv_istore_n (lv' := [(2, .int (-1)), (1, .int (nI ((tl) - (1)))), (0, .ref (ad (0)))]) hx hb d_C_buildFromTape_77 rfl hl (by decide) rfl (fun ls hl => ?_)
    refine lv_iload_n hx hb d_C_buildFromTape_78 rfl (lv_at hl 0 rfl) ?_
    refine lv_iconst (v := -1) hx hb d_C_buildFromTape_79 (by decide) ?_
    refine lv_icmp_ne (tgt := 87) hx hb d_C_buildFromTape_80 (by decide) (fun c_80 => ?_) (fun c_80 => ?_)
    · exact absurd rfl c_80
    · refine lv_iconst (v := -1) hx hb d_C_buildFromTape_83 (by decide) ?_
      refine lv_goto (tgt := 92) hx hb d_C_buildFromTape_84 (by decide) ?_
      refine lv_istore_n (lv' := [(3, .int (-1)), (2, .int (-1)), (1, .int (nI ((tl) - (1)))), (0, .ref (ad (0)))]) hx hb d_C_buildFromTape_92 rfl hl (by decide) rfl (fun ls hl => ?_)
      refine lv_aload_n hx hb d_C_buildFromTape_93 rfl (lv_at hl 3 rfl) ?_
      refine g_get (C := R_C) (T := T_C) (N := 15) (ci := 7) (v := .ref (ad (5))) hx hb hg i_C hown hK hP 0 (by decide) rfl rfl 2 (by decide) (hg _ k_130) rfl d_C_buildFromTape_94 ?_
      refine c_V (own := R_C) (index := 113) (As := []) (rest := []) hx hb hml hown hg hK NXc.same hN.warm (fun _ h => h) hP hS 5 (c_T_empty l D cI cC cZ cT ad hI M 5 tx5) (tx_lt tx5) (ci := 6) (cfC_T tx5 _) rfl k_183 k_184 k_185 k_2 k_186 0 rfl (by decide +kernel) (by decide) rfl hl.1 (Nat.le_of_ble_eq_true rfl) d_C_buildFromTape_97 (fun v M_1 H locs hq hP _ _ hS => ?_)
      obtain ⟨rfl, eM_1⟩ := hq
      have hB : TT M_1 5 0 tc := by rw [eM_1]; exact TT.emp _ _ _
      have hF : FT 5 M M_1 := hF.tr (by rw [eM_1]; exact FT.emp _ _ _)
      refine W.eq (g2 := F0 m 100 ls []) rfl ?_
      refine lv_iload_n hx hb d_C_buildFromTape_100 rfl (lv_at hl 0 rfl) ?_
      refine lv_iconst (v := -1) hx hb d_C_buildFromTape_101 (by decide) ?_
      refine lv_icmp_eq (tgt := 146) hx hb d_C_buildFromTape_102 (by decide) (fun c_102 => ?_) (fun c_102 => ?_)
      · exact r_v hx hb hr hlocks hP hS (⟨rfl, hB, hF⟩) d_C_buildFromTape_146
      · exact absurd rfl c_102
  · refine lv_aload_n hx hb d_C_buildFromTape_21 rfl (lv_at hl 1 rfl) ?_
    refine g_get (C := R_C) (T := T_C) (N := 15) (ci := 7) (v := .ref (ad (1))) hx hb hg i_C hown hK hP 0 (by decide) rfl rfl 0 (by decide) (hg _ k_128) rfl d_C_buildFromTape_22 ?_
    refine n_const (k := 0) hx hb d_C_buildFromTape_25 (by decide) ?_
    refine c_V (own := R_C) (index := 179) (As := [.int (nI (0))]) (rest := []) hx hb hml hown hg hK NXc.same hN.warm (fun _ h => h) hP hS 1 (c_T_at l D cI cC cZ cT ad hI M 1 tx1 tl tc (hT1) (0) (by omega)) (tx_lt tx1) (ci := 6) (cfC_T tx1 _) rfl k_191 k_192 k_193 k_2 k_194 1 rfl (by decide +kernel) (by decide) rfl hl.1 (Nat.le_of_ble_eq_true rfl) d_C_buildFromTape_26 (fun v M' H locs hq hP _ _ hS => ?_)
    obtain ⟨rfl, rfl⟩ := hq
    refine W.eq (g2 := F0 m 29 ls [.int (nI (tc (0)))]) rfl ?_
    refine n_bipush (k := 60) hx hb d_C_buildFromTape_29 (by decide) ?_
    refine n_ne (a := tc (0)) (b := 60) (tgt := 68) hx hb d_C_buildFromTape_31 (by decide) (by omega) (by omega) (fun c_31 => ?_) (fun c_31 => ?_)
    · refine lv_aload_n hx hb d_C_buildFromTape_68 rfl (lv_at hl 1 rfl) ?_
      refine g_get (C := R_C) (T := T_C) (N := 15) (ci := 7) (v := .ref (ad (1))) hx hb hg i_C hown hK hP 0 (by decide) rfl rfl 0 (by decide) (hg _ k_128) rfl d_C_buildFromTape_69 ?_
      refine n_bipush (k := 58) hx hb d_C_buildFromTape_72 (by decide) ?_
      refine c_V (own := R_C) (index := 314) (As := [.int (nI (58))]) (rest := []) hx hb hml hown hg hK NXc.same hN.warm (fun _ h => h) hP hS 1 (c_T_firstPlaceOf l D cI cC cZ cT ad hI M 1 tx1 tl tc hT1 58 (by decide) (none) hoc) (tx_lt tx1) (ci := 6) (cfC_T tx1 _) rfl k_375 k_376 k_377 k_2 k_378 1 rfl (by decide +kernel) (by decide) rfl hl.1 (Nat.le_of_ble_eq_true rfl) d_C_buildFromTape_74 (fun v M' H locs hq hP _ _ hS => ?_)
      obtain ⟨rfl, rfl⟩ := hq
      refine W.eq (g2 := F0 m 77 ls [.int (-1)]) rfl ?_
      refine lv_istore_n (lv' := [(2, .int (-1)), (1, .int (nI ((tl) - (1)))), (0, .ref (ad (0)))]) hx hb d_C_buildFromTape_77 rfl hl (by decide) rfl (fun ls hl => ?_)
      refine lv_iload_n hx hb d_C_buildFromTape_78 rfl (lv_at hl 0 rfl) ?_
      refine lv_iconst (v := -1) hx hb d_C_buildFromTape_79 (by decide) ?_
      refine lv_icmp_ne (tgt := 87) hx hb d_C_buildFromTape_80 (by decide) (fun c_80 => ?_) (fun c_80 => ?_)
      · exact absurd rfl c_80
      · refine lv_iconst (v := -1) hx hb d_C_buildFromTape_83 (by decide) ?_
        refine lv_goto (tgt := 92) hx hb d_C_buildFromTape_84 (by decide) ?_
        refine lv_istore_n (lv' := [(3, .int (-1)), (2, .int (-1)), (1, .int (nI ((tl) - (1)))), (0, .ref (ad (0)))]) hx hb d_C_buildFromTape_92 rfl hl (by decide) rfl (fun ls hl => ?_)
        refine lv_aload_n hx hb d_C_buildFromTape_93 rfl (lv_at hl 3 rfl) ?_
        refine g_get (C := R_C) (T := T_C) (N := 15) (ci := 7) (v := .ref (ad (5))) hx hb hg i_C hown hK hP 0 (by decide) rfl rfl 2 (by decide) (hg _ k_130) rfl d_C_buildFromTape_94 ?_
        refine c_V (own := R_C) (index := 113) (As := []) (rest := []) hx hb hml hown hg hK NXc.same hN.warm (fun _ h => h) hP hS 5 (c_T_empty l D cI cC cZ cT ad hI M 5 tx5) (tx_lt tx5) (ci := 6) (cfC_T tx5 _) rfl k_183 k_184 k_185 k_2 k_186 0 rfl (by decide +kernel) (by decide) rfl hl.1 (Nat.le_of_ble_eq_true rfl) d_C_buildFromTape_97 (fun v M_2 H locs hq hP _ _ hS => ?_)
        obtain ⟨rfl, eM_2⟩ := hq
        have hB : TT M_2 5 0 tc := by rw [eM_2]; exact TT.emp _ _ _
        have hF : FT 5 M M_2 := hF.tr (by rw [eM_2]; exact FT.emp _ _ _)
        refine W.eq (g2 := F0 m 100 ls []) rfl ?_
        refine lv_iload_n hx hb d_C_buildFromTape_100 rfl (lv_at hl 0 rfl) ?_
        refine lv_iconst (v := -1) hx hb d_C_buildFromTape_101 (by decide) ?_
        refine lv_icmp_eq (tgt := 146) hx hb d_C_buildFromTape_102 (by decide) (fun c_102 => ?_) (fun c_102 => ?_)
        · exact r_v hx hb hr hlocks hP hS (⟨rfl, hB, hF⟩) d_C_buildFromTape_146
        · exact absurd rfl c_102
    · refine lv_aload_n hx hb d_C_buildFromTape_34 rfl (lv_at hl 1 rfl) ?_
      refine g_get (C := R_C) (T := T_C) (N := 15) (ci := 7) (v := .ref (ad (1))) hx hb hg i_C hown hK hP 0 (by decide) rfl rfl 0 (by decide) (hg _ k_128) rfl d_C_buildFromTape_35 ?_
      refine lv_iload_n hx hb d_C_buildFromTape_38 rfl (lv_at hl 0 rfl) ?_
      refine c_V (own := R_C) (index := 179) (As := [.int (nI ((tl) - (1)))]) (rest := []) hx hb hml hown hg hK NXc.same hN.warm (fun _ h => h) hP hS 1 (c_T_at l D cI cC cZ cT ad hI M 1 tx1 tl tc (hT1) ((tl) - (1)) (by omega)) (tx_lt tx1) (ci := 6) (cfC_T tx1 _) rfl k_191 k_192 k_193 k_2 k_194 1 rfl (by decide +kernel) (by decide) rfl hl.1 (Nat.le_of_ble_eq_true rfl) d_C_buildFromTape_39 (fun v M' H locs hq hP _ _ hS => ?_)
      obtain ⟨rfl, rfl⟩ := hq
      refine W.eq (g2 := F0 m 42 ls [.int (nI (tc ((tl) - (1))))]) rfl ?_
      refine n_bipush (k := 62) hx hb d_C_buildFromTape_42 (by decide) ?_
      refine n_ne (a := tc ((tl) - (1))) (b := 62) (tgt := 68) hx hb d_C_buildFromTape_44 (by decide) (by omega) (by omega) (fun c_44 => ?_) (fun c_44 => ?_)
      · refine lv_aload_n hx hb d_C_buildFromTape_68 rfl (lv_at hl 1 rfl) ?_
        refine g_get (C := R_C) (T := T_C) (N := 15) (ci := 7) (v := .ref (ad (1))) hx hb hg i_C hown hK hP 0 (by decide) rfl rfl 0 (by decide) (hg _ k_128) rfl d_C_buildFromTape_69 ?_
        refine n_bipush (k := 58) hx hb d_C_buildFromTape_72 (by decide) ?_
        refine c_V (own := R_C) (index := 314) (As := [.int (nI (58))]) (rest := []) hx hb hml hown hg hK NXc.same hN.warm (fun _ h => h) hP hS 1 (c_T_firstPlaceOf l D cI cC cZ cT ad hI M 1 tx1 tl tc hT1 58 (by decide) (none) hoc) (tx_lt tx1) (ci := 6) (cfC_T tx1 _) rfl k_375 k_376 k_377 k_2 k_378 1 rfl (by decide +kernel) (by decide) rfl hl.1 (Nat.le_of_ble_eq_true rfl) d_C_buildFromTape_74 (fun v M' H locs hq hP _ _ hS => ?_)
        obtain ⟨rfl, rfl⟩ := hq
        refine W.eq (g2 := F0 m 77 ls [.int (-1)]) rfl ?_
        refine lv_istore_n (lv' := [(2, .int (-1)), (1, .int (nI ((tl) - (1)))), (0, .ref (ad (0)))]) hx hb d_C_buildFromTape_77 rfl hl (by decide) rfl (fun ls hl => ?_)
        refine lv_iload_n hx hb d_C_buildFromTape_78 rfl (lv_at hl 0 rfl) ?_
        refine lv_iconst (v := -1) hx hb d_C_buildFromTape_79 (by decide) ?_
        refine lv_icmp_ne (tgt := 87) hx hb d_C_buildFromTape_80 (by decide) (fun c_80 => ?_) (fun c_80 => ?_)
        · exact absurd rfl c_80
        · refine lv_iconst (v := -1) hx hb d_C_buildFromTape_83 (by decide) ?_
          refine lv_goto (tgt := 92) hx hb d_C_buildFromTape_84 (by decide) ?_
          refine lv_istore_n (lv' := [(3, .int (-1)), (2, .int (-1)), (1, .int (nI ((tl) - (1)))), (0, .ref (ad (0)))]) hx hb d_C_buildFromTape_92 rfl hl (by decide) rfl (fun ls hl => ?_)
          refine lv_aload_n hx hb d_C_buildFromTape_93 rfl (lv_at hl 3 rfl) ?_
          refine g_get (C := R_C) (T := T_C) (N := 15) (ci := 7) (v := .ref (ad (5))) hx hb hg i_C hown hK hP 0 (by decide) rfl rfl 2 (by decide) (hg _ k_130) rfl d_C_buildFromTape_94 ?_
          refine c_V (own := R_C) (index := 113) (As := []) (rest := []) hx hb hml hown hg hK NXc.same hN.warm (fun _ h => h) hP hS 5 (c_T_empty l D cI cC cZ cT ad hI M 5 tx5) (tx_lt tx5) (ci := 6) (cfC_T tx5 _) rfl k_183 k_184 k_185 k_2 k_186 0 rfl (by decide +kernel) (by decide) rfl hl.1 (Nat.le_of_ble_eq_true rfl) d_C_buildFromTape_97 (fun v M_3 H locs hq hP _ _ hS => ?_)
          obtain ⟨rfl, eM_3⟩ := hq
          have hB : TT M_3 5 0 tc := by rw [eM_3]; exact TT.emp _ _ _
          have hF : FT 5 M M_3 := hF.tr (by rw [eM_3]; exact FT.emp _ _ _)
          refine W.eq (g2 := F0 m 100 ls []) rfl ?_
          refine lv_iload_n hx hb d_C_buildFromTape_100 rfl (lv_at hl 0 rfl) ?_
          refine lv_iconst (v := -1) hx hb d_C_buildFromTape_101 (by decide) ?_
          refine lv_icmp_eq (tgt := 146) hx hb d_C_buildFromTape_102 (by decide) (fun c_102 => ?_) (fun c_102 => ?_)
          · exact r_v hx hb hr hlocks hP hS (⟨rfl, hB, hF⟩) d_C_buildFromTape_146
          · exact absurd rfl c_102
      · exact absurd ⟨c_18, c_31, c_44⟩ hnb

set_option maxHeartbeats 4000000 in
set_option maxRecDepth 100000 in
theorem c_C_bft_f2 (l : Launch) (D : va_G) (cI cC cZ cT : ClassId) (ad : Nat → Nat) (hI : GI 144 ad) (M : PM) (n : Nat) (len : Nat → Nat) (ch : Nat → Nat → Nat) (hN7 : CN M n len ch) (sp bs : Nat → Option Nat) (hH : CSp M n sp bs) (tl : Nat) (tc : Nat → Nat) (hT1 : TT M 1 tl tc) (h0 : 0 < tl) (htc : ∀ i, i < tl → 33 ≤ tc i ∧ tc i ≤ 126) (hnb : ¬ brk tl tc) (c9 : Nat) (hoc : Fst (fun i => tc i = 58) tl (some c9)) (ho : Fst (sameT len ch c9 tc) n none) : MD l D cI cC cZ cT ad y_C_buildFromTape b_C_buildFromTape 4 none 4 88 [.ref (ad (0))] M (fun v M' => v = none ∧ TT M' 5 0 tc ∧ FT 5 M M') := by
  refine MC.of (by decide) (Nat.le_of_ble_eq_true rfl) ?_
  intro p e s m below meth c ls hx hb hr hml hown hg hlocks hK hN hP hS hl
  have hown : s.vm.findClass R_C = some m.cls := hown
  have hl : lv_has ls 4 [(0, .ref (ad (0)))] := hl
  have hn60 := hN7.1
  have hnm := hN7.2.2.1
  have hspn := hH.2.2.1
  have hbsn := hH.2.2.2
  have htl := hT1.1
  rw [cap1] at htl
  have hF := FT.rf 5 M
  have hc1 := htc 0 h0
  have hc2 := htc (tl - 1) (by omega)
  have hc9 := hoc.1
  refine lv_aload_n hx hb d_C_buildFromTape_0 rfl (lv_at hl 0 rfl) ?_
  refine g_get (C := R_C) (T := T_C) (N := 15) (ci := 7) (v := .ref (ad (1))) hx hb hg i_C hown hK hP 0 (by decide) rfl rfl 0 (by decide) (hg _ k_128) rfl d_C_buildFromTape_1 ?_
  refine c_V (own := R_C) (index := 109) (As := []) (rest := []) hx hb hml hown hg hK NXc.same hN.warm (fun _ h => h) hP hS 1 (c_T_length l D cI cC cZ cT ad hI M 1 tx1 tl tc (hT1)) (tx_lt tx1) (ci := 6) (cfC_T tx1 _) rfl k_179 k_180 k_181 k_2 k_182 0 rfl (by decide +kernel) (by decide) rfl hl.1 (Nat.le_of_ble_eq_true rfl) d_C_buildFromTape_4 (fun v M' H locs hq hP _ _ hS => ?_)
  obtain ⟨rfl, rfl⟩ := hq
  refine W.eq (g2 := F0 m 7 ls [.int (nI (tl))]) rfl ?_
  refine n_const (k := 1) hx hb d_C_buildFromTape_7 (by decide) ?_
  refine n_isub (a := tl) (b := 1) hx hb d_C_buildFromTape_8 (by omega) ?_
  refine lv_istore_n (lv' := [(1, .int (nI ((tl) - (1)))), (0, .ref (ad (0)))]) hx hb d_C_buildFromTape_9 rfl hl (by decide) rfl (fun ls hl => ?_)
  refine lv_aload_n hx hb d_C_buildFromTape_10 rfl (lv_at hl 1 rfl) ?_
  refine g_get (C := R_C) (T := T_C) (N := 15) (ci := 7) (v := .ref (ad (1))) hx hb hg i_C hown hK hP 0 (by decide) rfl rfl 0 (by decide) (hg _ k_128) rfl d_C_buildFromTape_11 ?_
  refine c_V (own := R_C) (index := 109) (As := []) (rest := []) hx hb hml hown hg hK NXc.same hN.warm (fun _ h => h) hP hS 1 (c_T_length l D cI cC cZ cT ad hI M 1 tx1 tl tc (hT1)) (tx_lt tx1) (ci := 6) (cfC_T tx1 _) rfl k_179 k_180 k_181 k_2 k_182 0 rfl (by decide +kernel) (by decide) rfl hl.1 (Nat.le_of_ble_eq_true rfl) d_C_buildFromTape_14 (fun v M' H locs hq hP _ _ hS => ?_)
  obtain ⟨rfl, rfl⟩ := hq
  refine W.eq (g2 := F0 m 17 ls [.int (nI (tl))]) rfl ?_
  refine n_const (k := 2) hx hb d_C_buildFromTape_17 (by decide) ?_
  refine n_le (a := tl) (b := 2) (tgt := 68) hx hb d_C_buildFromTape_18 (by decide) (by omega) (by omega) (fun c_18 => ?_) (fun c_18 => ?_)
  · refine lv_aload_n hx hb d_C_buildFromTape_68 rfl (lv_at hl 1 rfl) ?_
    refine g_get (C := R_C) (T := T_C) (N := 15) (ci := 7) (v := .ref (ad (1))) hx hb hg i_C hown hK hP 0 (by decide) rfl rfl 0 (by decide) (hg _ k_128) rfl d_C_buildFromTape_69 ?_
    refine n_bipush (k := 58) hx hb d_C_buildFromTape_72 (by decide) ?_
    refine c_V (own := R_C) (index := 314) (As := [.int (nI (58))]) (rest := []) hx hb hml hown hg hK NXc.same hN.warm (fun _ h => h) hP hS 1 (c_T_firstPlaceOf l D cI cC cZ cT ad hI M 1 tx1 tl tc hT1 58 (by decide) (some c9) hoc) (tx_lt tx1) (ci := 6) (cfC_T tx1 _) rfl k_375 k_376 k_377 k_2 k_378 1 rfl (by decide +kernel) (by decide) rfl hl.1 (Nat.le_of_ble_eq_true rfl) d_C_buildFromTape_74 (fun v M' H locs hq hP _ _ hS => ?_)
    obtain ⟨rfl, rfl⟩ := hq
    refine W.eq (g2 := F0 m 77 ls [.int (nI (c9))]) rfl ?_
    refine lv_istore_n (lv' := [(2, .int (nI (c9))), (1, .int (nI ((tl) - (1)))), (0, .ref (ad (0)))]) hx hb d_C_buildFromTape_77 rfl hl (by decide) rfl (fun ls hl => ?_)
    refine lv_iload_n hx hb d_C_buildFromTape_78 rfl (lv_at hl 0 rfl) ?_
    refine lv_iconst (v := -1) hx hb d_C_buildFromTape_79 (by decide) ?_
    refine lv_icmp_ne (tgt := 87) hx hb d_C_buildFromTape_80 (by decide) (fun c_80 => ?_) (fun c_80 => ?_)
    · refine lv_aload_n hx hb d_C_buildFromTape_87 rfl (lv_at hl 2 rfl) ?_
      refine lv_iload_n hx hb d_C_buildFromTape_88 rfl (lv_at hl 0 rfl) ?_
      refine c_V (own := R_C) (index := 318) (As := [.int (nI (c9))]) (rest := []) hx hb hml hown hg hK NXc.same hN.warm (fun _ h => h) hP hS 0 (c_C_sotb_n l D cI cC cZ cT ad hI M n len ch hN7 sp bs hH tl tc hT1 c9 (by omega) ho) (by decide) (ci := 7) rfl rfl k_379 k_381 k_p4 k_1 k_382 1 rfl (by decide +kernel) (by decide) rfl hl.1 (Nat.le_of_ble_eq_true rfl) d_C_buildFromTape_89 (fun v M_1 H locs hq hP _ _ hS => ?_)
      obtain ⟨rfl, hFx⟩ := hq
      have hF : FT 5 M M_1 := hF.tr hFx
      refine W.eq (g2 := F0 m 92 ls [.int (-1)]) rfl ?_
      refine lv_istore_n (lv' := [(3, .int (-1)), (2, .int (nI (c9))), (1, .int (nI ((tl) - (1)))), (0, .ref (ad (0)))]) hx hb d_C_buildFromTape_92 rfl hl (by decide) rfl (fun ls hl => ?_)
      refine lv_aload_n hx hb d_C_buildFromTape_93 rfl (lv_at hl 3 rfl) ?_
      refine g_get (C := R_C) (T := T_C) (N := 15) (ci := 7) (v := .ref (ad (5))) hx hb hg i_C hown hK hP 0 (by decide) rfl rfl 2 (by decide) (hg _ k_130) rfl d_C_buildFromTape_94 ?_
      refine c_V (own := R_C) (index := 113) (As := []) (rest := []) hx hb hml hown hg hK NXc.same hN.warm (fun _ h => h) hP hS 5 (c_T_empty l D cI cC cZ cT ad hI M_1 5 tx5) (tx_lt tx5) (ci := 6) (cfC_T tx5 _) rfl k_183 k_184 k_185 k_2 k_186 0 rfl (by decide +kernel) (by decide) rfl hl.1 (Nat.le_of_ble_eq_true rfl) d_C_buildFromTape_97 (fun v M_2 H locs hq hP _ _ hS => ?_)
      obtain ⟨rfl, eM_2⟩ := hq
      have hB : TT M_2 5 0 tc := by rw [eM_2]; exact TT.emp _ _ _
      have hF : FT 5 M M_2 := hF.tr (by rw [eM_2]; exact FT.emp _ _ _)
      refine W.eq (g2 := F0 m 100 ls []) rfl ?_
      refine lv_iload_n hx hb d_C_buildFromTape_100 rfl (lv_at hl 0 rfl) ?_
      refine lv_iconst (v := -1) hx hb d_C_buildFromTape_101 (by decide) ?_
      refine lv_icmp_eq (tgt := 146) hx hb d_C_buildFromTape_102 (by decide) (fun c_102 => ?_) (fun c_102 => ?_)
      · exact r_v hx hb hr hlocks hP hS (⟨rfl, hB, hF⟩) d_C_buildFromTape_146
      · exact absurd rfl c_102
    · exact absurd c_80 (nI_m1 (by omega))
  · refine lv_aload_n hx hb d_C_buildFromTape_21 rfl (lv_at hl 1 rfl) ?_
    refine g_get (C := R_C) (T := T_C) (N := 15) (ci := 7) (v := .ref (ad (1))) hx hb hg i_C hown hK hP 0 (by decide) rfl rfl 0 (by decide) (hg _ k_128) rfl d_C_buildFromTape_22 ?_
    refine n_const (k := 0) hx hb d_C_buildFromTape_25 (by decide) ?_
    refine c_V (own := R_C) (index := 179) (As := [.int (nI (0))]) (rest := []) hx hb hml hown hg hK NXc.same hN.warm (fun _ h => h) hP hS 1 (c_T_at l D cI cC cZ cT ad hI M 1 tx1 tl tc (hT1) (0) (by omega)) (tx_lt tx1) (ci := 6) (cfC_T tx1 _) rfl k_191 k_192 k_193 k_2 k_194 1 rfl (by decide +kernel) (by decide) rfl hl.1 (Nat.le_of_ble_eq_true rfl) d_C_buildFromTape_26 (fun v M' H locs hq hP _ _ hS => ?_)
    obtain ⟨rfl, rfl⟩ := hq
    refine W.eq (g2 := F0 m 29 ls [.int (nI (tc (0)))]) rfl ?_
    refine n_bipush (k := 60) hx hb d_C_buildFromTape_29 (by decide) ?_
    refine n_ne (a := tc (0)) (b := 60) (tgt := 68) hx hb d_C_buildFromTape_31 (by decide) (by omega) (by omega) (fun c_31 => ?_) (fun c_31 => ?_)
    · refine lv_aload_n hx hb d_C_buildFromTape_68 rfl (lv_at hl 1 rfl) ?_
      refine g_get (C := R_C) (T := T_C) (N := 15) (ci := 7) (v := .ref (ad (1))) hx hb hg i_C hown hK hP 0 (by decide) rfl rfl 0 (by decide) (hg _ k_128) rfl d_C_buildFromTape_69 ?_
      refine n_bipush (k := 58) hx hb d_C_buildFromTape_72 (by decide) ?_
      refine c_V (own := R_C) (index := 314) (As := [.int (nI (58))]) (rest := []) hx hb hml hown hg hK NXc.same hN.warm (fun _ h => h) hP hS 1 (c_T_firstPlaceOf l D cI cC cZ cT ad hI M 1 tx1 tl tc hT1 58 (by decide) (some c9) hoc) (tx_lt tx1) (ci := 6) (cfC_T tx1 _) rfl k_375 k_376 k_377 k_2 k_378 1 rfl (by decide +kernel) (by decide) rfl hl.1 (Nat.le_of_ble_eq_true rfl) d_C_buildFromTape_74 (fun v M' H locs hq hP _ _ hS => ?_)
      obtain ⟨rfl, rfl⟩ := hq
      refine W.eq (g2 := F0 m 77 ls [.int (nI (c9))]) rfl ?_
      refine lv_istore_n (lv' := [(2, .int (nI (c9))), (1, .int (nI ((tl) - (1)))), (0, .ref (ad (0)))]) hx hb d_C_buildFromTape_77 rfl hl (by decide) rfl (fun ls hl => ?_)
      refine lv_iload_n hx hb d_C_buildFromTape_78 rfl (lv_at hl 0 rfl) ?_
      refine lv_iconst (v := -1) hx hb d_C_buildFromTape_79 (by decide) ?_
      refine lv_icmp_ne (tgt := 87) hx hb d_C_buildFromTape_80 (by decide) (fun c_80 => ?_) (fun c_80 => ?_)
      · refine lv_aload_n hx hb d_C_buildFromTape_87 rfl (lv_at hl 2 rfl) ?_
        refine lv_iload_n hx hb d_C_buildFromTape_88 rfl (lv_at hl 0 rfl) ?_
        refine c_V (own := R_C) (index := 318) (As := [.int (nI (c9))]) (rest := []) hx hb hml hown hg hK NXc.same hN.warm (fun _ h => h) hP hS 0 (c_C_sotb_n l D cI cC cZ cT ad hI M n len ch hN7 sp bs hH tl tc hT1 c9 (by omega) ho) (by decide) (ci := 7) rfl rfl k_379 k_381 k_p4 k_1 k_382 1 rfl (by decide +kernel) (by decide) rfl hl.1 (Nat.le_of_ble_eq_true rfl) d_C_buildFromTape_89 (fun v M_3 H locs hq hP _ _ hS => ?_)
        obtain ⟨rfl, hFx⟩ := hq
        have hF : FT 5 M M_3 := hF.tr hFx
        refine W.eq (g2 := F0 m 92 ls [.int (-1)]) rfl ?_
        refine lv_istore_n (lv' := [(3, .int (-1)), (2, .int (nI (c9))), (1, .int (nI ((tl) - (1)))), (0, .ref (ad (0)))]) hx hb d_C_buildFromTape_92 rfl hl (by decide) rfl (fun ls hl => ?_)
        refine lv_aload_n hx hb d_C_buildFromTape_93 rfl (lv_at hl 3 rfl) ?_
        refine g_get (C := R_C) (T := T_C) (N := 15) (ci := 7) (v := .ref (ad (5))) hx hb hg i_C hown hK hP 0 (by decide) rfl rfl 2 (by decide) (hg _ k_130) rfl d_C_buildFromTape_94 ?_
        refine c_V (own := R_C) (index := 113) (As := []) (rest := []) hx hb hml hown hg hK NXc.same hN.warm (fun _ h => h) hP hS 5 (c_T_empty l D cI cC cZ cT ad hI M_3 5 tx5) (tx_lt tx5) (ci := 6) (cfC_T tx5 _) rfl k_183 k_184 k_185 k_2 k_186 0 rfl (by decide +kernel) (by decide) rfl hl.1 (Nat.le_of_ble_eq_true rfl) d_C_buildFromTape_97 (fun v M_4 H locs hq hP _ _ hS => ?_)
        obtain ⟨rfl, eM_4⟩ := hq
        have hB : TT M_4 5 0 tc := by rw [eM_4]; exact TT.emp _ _ _
        have hF : FT 5 M M_4 := hF.tr (by rw [eM_4]; exact FT.emp _ _ _)
        refine W.eq (g2 := F0 m 100 ls []) rfl ?_
        refine lv_iload_n hx hb d_C_buildFromTape_100 rfl (lv_at hl 0 rfl) ?_
        refine lv_iconst (v := -1) hx hb d_C_buildFromTape_101 (by decide) ?_
        refine lv_icmp_eq (tgt := 146) hx hb d_C_buildFromTape_102 (by decide) (fun c_102 => ?_) (fun c_102 => ?_)
        · exact r_v hx hb hr hlocks hP hS (⟨rfl, hB, hF⟩) d_C_buildFromTape_146
        · exact absurd rfl c_102
      · exact absurd c_80 (nI_m1 (by omega))
    · refine lv_aload_n hx hb d_C_buildFromTape_34 rfl (lv_at hl 1 rfl) ?_
      refine g_get (C := R_C) (T := T_C) (N := 15) (ci := 7) (v := .ref (ad (1))) hx hb hg i_C hown hK hP 0 (by decide) rfl rfl 0 (by decide) (hg _ k_128) rfl d_C_buildFromTape_35 ?_
      refine lv_iload_n hx hb d_C_buildFromTape_38 rfl (lv_at hl 0 rfl) ?_
      refine c_V (own := R_C) (index := 179) (As := [.int (nI ((tl) - (1)))]) (rest := []) hx hb hml hown hg hK NXc.same hN.warm (fun _ h => h) hP hS 1 (c_T_at l D cI cC cZ cT ad hI M 1 tx1 tl tc (hT1) ((tl) - (1)) (by omega)) (tx_lt tx1) (ci := 6) (cfC_T tx1 _) rfl k_191 k_192 k_193 k_2 k_194 1 rfl (by decide +kernel) (by decide) rfl hl.1 (Nat.le_of_ble_eq_true rfl) d_C_buildFromTape_39 (fun v M' H locs hq hP _ _ hS => ?_)
      obtain ⟨rfl, rfl⟩ := hq
      refine W.eq (g2 := F0 m 42 ls [.int (nI (tc ((tl) - (1))))]) rfl ?_
      refine n_bipush (k := 62) hx hb d_C_buildFromTape_42 (by decide) ?_
      refine n_ne (a := tc ((tl) - (1))) (b := 62) (tgt := 68) hx hb d_C_buildFromTape_44 (by decide) (by omega) (by omega) (fun c_44 => ?_) (fun c_44 => ?_)
      · refine lv_aload_n hx hb d_C_buildFromTape_68 rfl (lv_at hl 1 rfl) ?_
        refine g_get (C := R_C) (T := T_C) (N := 15) (ci := 7) (v := .ref (ad (1))) hx hb hg i_C hown hK hP 0 (by decide) rfl rfl 0 (by decide) (hg _ k_128) rfl d_C_buildFromTape_69 ?_
        refine n_bipush (k := 58) hx hb d_C_buildFromTape_72 (by decide) ?_
        refine c_V (own := R_C) (index := 314) (As := [.int (nI (58))]) (rest := []) hx hb hml hown hg hK NXc.same hN.warm (fun _ h => h) hP hS 1 (c_T_firstPlaceOf l D cI cC cZ cT ad hI M 1 tx1 tl tc hT1 58 (by decide) (some c9) hoc) (tx_lt tx1) (ci := 6) (cfC_T tx1 _) rfl k_375 k_376 k_377 k_2 k_378 1 rfl (by decide +kernel) (by decide) rfl hl.1 (Nat.le_of_ble_eq_true rfl) d_C_buildFromTape_74 (fun v M' H locs hq hP _ _ hS => ?_)
        obtain ⟨rfl, rfl⟩ := hq
        refine W.eq (g2 := F0 m 77 ls [.int (nI (c9))]) rfl ?_
        refine lv_istore_n (lv' := [(2, .int (nI (c9))), (1, .int (nI ((tl) - (1)))), (0, .ref (ad (0)))]) hx hb d_C_buildFromTape_77 rfl hl (by decide) rfl (fun ls hl => ?_)
        refine lv_iload_n hx hb d_C_buildFromTape_78 rfl (lv_at hl 0 rfl) ?_
        refine lv_iconst (v := -1) hx hb d_C_buildFromTape_79 (by decide) ?_
        refine lv_icmp_ne (tgt := 87) hx hb d_C_buildFromTape_80 (by decide) (fun c_80 => ?_) (fun c_80 => ?_)
        · refine lv_aload_n hx hb d_C_buildFromTape_87 rfl (lv_at hl 2 rfl) ?_
          refine lv_iload_n hx hb d_C_buildFromTape_88 rfl (lv_at hl 0 rfl) ?_
          refine c_V (own := R_C) (index := 318) (As := [.int (nI (c9))]) (rest := []) hx hb hml hown hg hK NXc.same hN.warm (fun _ h => h) hP hS 0 (c_C_sotb_n l D cI cC cZ cT ad hI M n len ch hN7 sp bs hH tl tc hT1 c9 (by omega) ho) (by decide) (ci := 7) rfl rfl k_379 k_381 k_p4 k_1 k_382 1 rfl (by decide +kernel) (by decide) rfl hl.1 (Nat.le_of_ble_eq_true rfl) d_C_buildFromTape_89 (fun v M_5 H locs hq hP _ _ hS => ?_)
          obtain ⟨rfl, hFx⟩ := hq
          have hF : FT 5 M M_5 := hF.tr hFx
          refine W.eq (g2 := F0 m 92 ls [.int (-1)]) rfl ?_
          refine lv_istore_n (lv' := [(3, .int (-1)), (2, .int (nI (c9))), (1, .int (nI ((tl) - (1)))), (0, .ref (ad (0)))]) hx hb d_C_buildFromTape_92 rfl hl (by decide) rfl (fun ls hl => ?_)
          refine lv_aload_n hx hb d_C_buildFromTape_93 rfl (lv_at hl 3 rfl) ?_
          refine g_get (C := R_C) (T := T_C) (N := 15) (ci := 7) (v := .ref (ad (5))) hx hb hg i_C hown hK hP 0 (by decide) rfl rfl 2 (by decide) (hg _ k_130) rfl d_C_buildFromTape_94 ?_
          refine c_V (own := R_C) (index := 113) (As := []) (rest := []) hx hb hml hown hg hK NXc.same hN.warm (fun _ h => h) hP hS 5 (c_T_empty l D cI cC cZ cT ad hI M_5 5 tx5) (tx_lt tx5) (ci := 6) (cfC_T tx5 _) rfl k_183 k_184 k_185 k_2 k_186 0 rfl (by decide +kernel) (by decide) rfl hl.1 (Nat.le_of_ble_eq_true rfl) d_C_buildFromTape_97 (fun v M_6 H locs hq hP _ _ hS => ?_)
          obtain ⟨rfl, eM_6⟩ := hq
          have hB : TT M_6 5 0 tc := by rw [eM_6]; exact TT.emp _ _ _
          have hF : FT 5 M M_6 := hF.tr (by rw [eM_6]; exact FT.emp _ _ _)
          refine W.eq (g2 := F0 m 100 ls []) rfl ?_
          refine lv_iload_n hx hb d_C_buildFromTape_100 rfl (lv_at hl 0 rfl) ?_
          refine lv_iconst (v := -1) hx hb d_C_buildFromTape_101 (by decide) ?_
          refine lv_icmp_eq (tgt := 146) hx hb d_C_buildFromTape_102 (by decide) (fun c_102 => ?_) (fun c_102 => ?_)
          · exact r_v hx hb hr hlocks hP hS (⟨rfl, hB, hF⟩) d_C_buildFromTape_146
          · exact absurd rfl c_102
        · exact absurd c_80 (nI_m1 (by omega))
      · exact absurd ⟨c_18, c_31, c_44⟩ hnb

set_option maxHeartbeats 4000000 in
set_option maxRecDepth 100000 in
theorem c_C_bft_f3 (l : Launch) (D : va_G) (cI cC cZ cT : ClassId) (ad : Nat → Nat) (hI : GI 144 ad) (M : PM) (n : Nat) (len : Nat → Nat) (ch : Nat → Nat → Nat) (hN7 : CN M n len ch) (sp bs : Nat → Option Nat) (hH : CSp M n sp bs) (tl : Nat) (tc : Nat → Nat) (hT1 : TT M 1 tl tc) (h0 : 0 < tl) (htc : ∀ i, i < tl → 33 ≤ tc i ∧ tc i ≤ 126) (hnb : ¬ brk tl tc) (c9 : Nat) (hoc : Fst (fun i => tc i = 58) tl (some c9)) (k9 : Nat) (ho : Fst (sameT len ch c9 tc) n (some k9)) (hf : sp k9 = none ∨ tl ≤ c9 + 1) : MD l D cI cC cZ cT ad y_C_buildFromTape b_C_buildFromTape 4 none 4 88 [.ref (ad (0))] M (fun v M' => v = none ∧ TT M' 5 0 tc ∧ FT 5 M M') := by
  refine MC.of (by decide) (Nat.le_of_ble_eq_true rfl) ?_
  intro p e s m below meth c ls hx hb hr hml hown hg hlocks hK hN hP hS hl
  have hown : s.vm.findClass R_C = some m.cls := hown
  have hl : lv_has ls 4 [(0, .ref (ad (0)))] := hl
  have hn60 := hN7.1
  have hnm := hN7.2.2.1
  have hspn := hH.2.2.1
  have hbsn := hH.2.2.2
  have htl := hT1.1
  rw [cap1] at htl
  have hF := FT.rf 5 M
  have hc1 := htc 0 h0
  have hc2 := htc (tl - 1) (by omega)
  have hc9 := hoc.1
  refine lv_aload_n hx hb d_C_buildFromTape_0 rfl (lv_at hl 0 rfl) ?_
  refine g_get (C := R_C) (T := T_C) (N := 15) (ci := 7) (v := .ref (ad (1))) hx hb hg i_C hown hK hP 0 (by decide) rfl rfl 0 (by decide) (hg _ k_128) rfl d_C_buildFromTape_1 ?_
  refine c_V (own := R_C) (index := 109) (As := []) (rest := []) hx hb hml hown hg hK NXc.same hN.warm (fun _ h => h) hP hS 1 (c_T_length l D cI cC cZ cT ad hI M 1 tx1 tl tc (hT1)) (tx_lt tx1) (ci := 6) (cfC_T tx1 _) rfl k_179 k_180 k_181 k_2 k_182 0 rfl (by decide +kernel) (by decide) rfl hl.1 (Nat.le_of_ble_eq_true rfl) d_C_buildFromTape_4 (fun v M' H locs hq hP _ _ hS => ?_)
  obtain ⟨rfl, rfl⟩ := hq
  refine W.eq (g2 := F0 m 7 ls [.int (nI (tl))]) rfl ?_
  refine n_const (k := 1) hx hb d_C_buildFromTape_7 (by decide) ?_
  refine n_isub (a := tl) (b := 1) hx hb d_C_buildFromTape_8 (by omega) ?_
  refine lv_istore_n (lv' := [(1, .int (nI ((tl) - (1)))), (0, .ref (ad (0)))]) hx hb d_C_buildFromTape_9 rfl hl (by decide) rfl (fun ls hl => ?_)
  refine lv_aload_n hx hb d_C_buildFromTape_10 rfl (lv_at hl 1 rfl) ?_
  refine g_get (C := R_C) (T := T_C) (N := 15) (ci := 7) (v := .ref (ad (1))) hx hb hg i_C hown hK hP 0 (by decide) rfl rfl 0 (by decide) (hg _ k_128) rfl d_C_buildFromTape_11 ?_
  refine c_V (own := R_C) (index := 109) (As := []) (rest := []) hx hb hml hown hg hK NXc.same hN.warm (fun _ h => h) hP hS 1 (c_T_length l D cI cC cZ cT ad hI M 1 tx1 tl tc (hT1)) (tx_lt tx1) (ci := 6) (cfC_T tx1 _) rfl k_179 k_180 k_181 k_2 k_182 0 rfl (by decide +kernel) (by decide) rfl hl.1 (Nat.le_of_ble_eq_true rfl) d_C_buildFromTape_14 (fun v M' H locs hq hP _ _ hS => ?_)
  obtain ⟨rfl, rfl⟩ := hq
  refine W.eq (g2 := F0 m 17 ls [.int (nI (tl))]) rfl ?_
  refine n_const (k := 2) hx hb d_C_buildFromTape_17 (by decide) ?_
  refine n_le (a := tl) (b := 2) (tgt := 68) hx hb d_C_buildFromTape_18 (by decide) (by omega) (by omega) (fun c_18 => ?_) (fun c_18 => ?_)
  · refine lv_aload_n hx hb d_C_buildFromTape_68 rfl (lv_at hl 1 rfl) ?_
    refine g_get (C := R_C) (T := T_C) (N := 15) (ci := 7) (v := .ref (ad (1))) hx hb hg i_C hown hK hP 0 (by decide) rfl rfl 0 (by decide) (hg _ k_128) rfl d_C_buildFromTape_69 ?_
    refine n_bipush (k := 58) hx hb d_C_buildFromTape_72 (by decide) ?_
    refine c_V (own := R_C) (index := 314) (As := [.int (nI (58))]) (rest := []) hx hb hml hown hg hK NXc.same hN.warm (fun _ h => h) hP hS 1 (c_T_firstPlaceOf l D cI cC cZ cT ad hI M 1 tx1 tl tc hT1 58 (by decide) (some c9) hoc) (tx_lt tx1) (ci := 6) (cfC_T tx1 _) rfl k_375 k_376 k_377 k_2 k_378 1 rfl (by decide +kernel) (by decide) rfl hl.1 (Nat.le_of_ble_eq_true rfl) d_C_buildFromTape_74 (fun v M' H locs hq hP _ _ hS => ?_)
    obtain ⟨rfl, rfl⟩ := hq
    refine W.eq (g2 := F0 m 77 ls [.int (nI (c9))]) rfl ?_
    refine lv_istore_n (lv' := [(2, .int (nI (c9))), (1, .int (nI ((tl) - (1)))), (0, .ref (ad (0)))]) hx hb d_C_buildFromTape_77 rfl hl (by decide) rfl (fun ls hl => ?_)
    refine lv_iload_n hx hb d_C_buildFromTape_78 rfl (lv_at hl 0 rfl) ?_
    refine lv_iconst (v := -1) hx hb d_C_buildFromTape_79 (by decide) ?_
    refine lv_icmp_ne (tgt := 87) hx hb d_C_buildFromTape_80 (by decide) (fun c_80 => ?_) (fun c_80 => ?_)
    · refine lv_aload_n hx hb d_C_buildFromTape_87 rfl (lv_at hl 2 rfl) ?_
      refine lv_iload_n hx hb d_C_buildFromTape_88 rfl (lv_at hl 0 rfl) ?_
      refine c_V (own := R_C) (index := 318) (As := [.int (nI (c9))]) (rest := []) hx hb hml hown hg hK NXc.same hN.warm (fun _ h => h) hP hS 0 (c_C_sotb_s l D cI cC cZ cT ad hI M n len ch hN7 sp bs hH tl tc hT1 c9 (by omega) k9 ho) (by decide) (ci := 7) rfl rfl k_379 k_381 k_p4 k_1 k_382 1 rfl (by decide +kernel) (by decide) rfl hl.1 (Nat.le_of_ble_eq_true rfl) d_C_buildFromTape_89 (fun v M_1 H locs hq hP _ _ hS => ?_)
      obtain ⟨rfl, hFx⟩ := hq
      have hF : FT 5 M M_1 := hF.tr hFx
      refine W.eq (g2 := F0 m 92 ls [.int (oI (sp k9))]) rfl ?_
      refine lv_istore_n (lv' := [(3, .int (oI (sp k9))), (2, .int (nI (c9))), (1, .int (nI ((tl) - (1)))), (0, .ref (ad (0)))]) hx hb d_C_buildFromTape_92 rfl hl (by decide) rfl (fun ls hl => ?_)
      refine lv_aload_n hx hb d_C_buildFromTape_93 rfl (lv_at hl 3 rfl) ?_
      refine g_get (C := R_C) (T := T_C) (N := 15) (ci := 7) (v := .ref (ad (5))) hx hb hg i_C hown hK hP 0 (by decide) rfl rfl 2 (by decide) (hg _ k_130) rfl d_C_buildFromTape_94 ?_
      refine c_V (own := R_C) (index := 113) (As := []) (rest := []) hx hb hml hown hg hK NXc.same hN.warm (fun _ h => h) hP hS 5 (c_T_empty l D cI cC cZ cT ad hI M_1 5 tx5) (tx_lt tx5) (ci := 6) (cfC_T tx5 _) rfl k_183 k_184 k_185 k_2 k_186 0 rfl (by decide +kernel) (by decide) rfl hl.1 (Nat.le_of_ble_eq_true rfl) d_C_buildFromTape_97 (fun v M_2 H locs hq hP _ _ hS => ?_)
      obtain ⟨rfl, eM_2⟩ := hq
      have hB : TT M_2 5 0 tc := by rw [eM_2]; exact TT.emp _ _ _
      have hF : FT 5 M M_2 := hF.tr (by rw [eM_2]; exact FT.emp _ _ _)
      refine W.eq (g2 := F0 m 100 ls []) rfl ?_
      refine lv_iload_n hx hb d_C_buildFromTape_100 rfl (lv_at hl 0 rfl) ?_
      refine lv_iconst (v := -1) hx hb d_C_buildFromTape_101 (by decide) ?_
      refine oo_eq (a := sp k9) (b := none) (tgt := 146) hx hb d_C_buildFromTape_102 (by decide) (fun q e => by have := hspn _ q e; omega) (ob_none) (fun c_102 => ?_) (fun c_102 => ?_)
      · exact r_v hx hb hr hlocks hP hS (⟨rfl, hB, hF⟩) d_C_buildFromTape_146
      · refine lv_iload_n hx hb d_C_buildFromTape_105 rfl (lv_at hl 1 rfl) ?_
        refine lv_iload_n hx hb d_C_buildFromTape_106 rfl (lv_at hl 2 rfl) ?_
        refine n_ge (a := c9) (b := (tl) - (1)) (tgt := 146) hx hb d_C_buildFromTape_107 (by decide) (by omega) (by omega) (fun c_107 => ?_) (fun c_107 => ?_)
        · exact r_v hx hb hr hlocks hP hS (⟨rfl, hB, hF⟩) d_C_buildFromTape_146
        · exact absurd hf (fun h => by rcases h with h | h; exact c_102 h; omega)
    · exact absurd c_80 (nI_m1 (by omega))
  · refine lv_aload_n hx hb d_C_buildFromTape_21 rfl (lv_at hl 1 rfl) ?_
    refine g_get (C := R_C) (T := T_C) (N := 15) (ci := 7) (v := .ref (ad (1))) hx hb hg i_C hown hK hP 0 (by decide) rfl rfl 0 (by decide) (hg _ k_128) rfl d_C_buildFromTape_22 ?_
    refine n_const (k := 0) hx hb d_C_buildFromTape_25 (by decide) ?_
    refine c_V (own := R_C) (index := 179) (As := [.int (nI (0))]) (rest := []) hx hb hml hown hg hK NXc.same hN.warm (fun _ h => h) hP hS 1 (c_T_at l D cI cC cZ cT ad hI M 1 tx1 tl tc (hT1) (0) (by omega)) (tx_lt tx1) (ci := 6) (cfC_T tx1 _) rfl k_191 k_192 k_193 k_2 k_194 1 rfl (by decide +kernel) (by decide) rfl hl.1 (Nat.le_of_ble_eq_true rfl) d_C_buildFromTape_26 (fun v M' H locs hq hP _ _ hS => ?_)
    obtain ⟨rfl, rfl⟩ := hq
    refine W.eq (g2 := F0 m 29 ls [.int (nI (tc (0)))]) rfl ?_
    refine n_bipush (k := 60) hx hb d_C_buildFromTape_29 (by decide) ?_
    refine n_ne (a := tc (0)) (b := 60) (tgt := 68) hx hb d_C_buildFromTape_31 (by decide) (by omega) (by omega) (fun c_31 => ?_) (fun c_31 => ?_)
    · refine lv_aload_n hx hb d_C_buildFromTape_68 rfl (lv_at hl 1 rfl) ?_
      refine g_get (C := R_C) (T := T_C) (N := 15) (ci := 7) (v := .ref (ad (1))) hx hb hg i_C hown hK hP 0 (by decide) rfl rfl 0 (by decide) (hg _ k_128) rfl d_C_buildFromTape_69 ?_
      refine n_bipush (k := 58) hx hb d_C_buildFromTape_72 (by decide) ?_
      refine c_V (own := R_C) (index := 314) (As := [.int (nI (58))]) (rest := []) hx hb hml hown hg hK NXc.same hN.warm (fun _ h => h) hP hS 1 (c_T_firstPlaceOf l D cI cC cZ cT ad hI M 1 tx1 tl tc hT1 58 (by decide) (some c9) hoc) (tx_lt tx1) (ci := 6) (cfC_T tx1 _) rfl k_375 k_376 k_377 k_2 k_378 1 rfl (by decide +kernel) (by decide) rfl hl.1 (Nat.le_of_ble_eq_true rfl) d_C_buildFromTape_74 (fun v M' H locs hq hP _ _ hS => ?_)
      obtain ⟨rfl, rfl⟩ := hq
      refine W.eq (g2 := F0 m 77 ls [.int (nI (c9))]) rfl ?_
      refine lv_istore_n (lv' := [(2, .int (nI (c9))), (1, .int (nI ((tl) - (1)))), (0, .ref (ad (0)))]) hx hb d_C_buildFromTape_77 rfl hl (by decide) rfl (fun ls hl => ?_)
      refine lv_iload_n hx hb d_C_buildFromTape_78 rfl (lv_at hl 0 rfl) ?_
      refine lv_iconst (v := -1) hx hb d_C_buildFromTape_79 (by decide) ?_
      refine lv_icmp_ne (tgt := 87) hx hb d_C_buildFromTape_80 (by decide) (fun c_80 => ?_) (fun c_80 => ?_)
      · refine lv_aload_n hx hb d_C_buildFromTape_87 rfl (lv_at hl 2 rfl) ?_
        refine lv_iload_n hx hb d_C_buildFromTape_88 rfl (lv_at hl 0 rfl) ?_
        refine c_V (own := R_C) (index := 318) (As := [.int (nI (c9))]) (rest := []) hx hb hml hown hg hK NXc.same hN.warm (fun _ h => h) hP hS 0 (c_C_sotb_s l D cI cC cZ cT ad hI M n len ch hN7 sp bs hH tl tc hT1 c9 (by omega) k9 ho) (by decide) (ci := 7) rfl rfl k_379 k_381 k_p4 k_1 k_382 1 rfl (by decide +kernel) (by decide) rfl hl.1 (Nat.le_of_ble_eq_true rfl) d_C_buildFromTape_89 (fun v M_3 H locs hq hP _ _ hS => ?_)
        obtain ⟨rfl, hFx⟩ := hq
        have hF : FT 5 M M_3 := hF.tr hFx
        refine W.eq (g2 := F0 m 92 ls [.int (oI (sp k9))]) rfl ?_
        refine lv_istore_n (lv' := [(3, .int (oI (sp k9))), (2, .int (nI (c9))), (1, .int (nI ((tl) - (1)))), (0, .ref (ad (0)))]) hx hb d_C_buildFromTape_92 rfl hl (by decide) rfl (fun ls hl => ?_)
        refine lv_aload_n hx hb d_C_buildFromTape_93 rfl (lv_at hl 3 rfl) ?_
        refine g_get (C := R_C) (T := T_C) (N := 15) (ci := 7) (v := .ref (ad (5))) hx hb hg i_C hown hK hP 0 (by decide) rfl rfl 2 (by decide) (hg _ k_130) rfl d_C_buildFromTape_94 ?_
        refine c_V (own := R_C) (index := 113) (As := []) (rest := []) hx hb hml hown hg hK NXc.same hN.warm (fun _ h => h) hP hS 5 (c_T_empty l D cI cC cZ cT ad hI M_3 5 tx5) (tx_lt tx5) (ci := 6) (cfC_T tx5 _) rfl k_183 k_184 k_185 k_2 k_186 0 rfl (by decide +kernel) (by decide) rfl hl.1 (Nat.le_of_ble_eq_true rfl) d_C_buildFromTape_97 (fun v M_4 H locs hq hP _ _ hS => ?_)
        obtain ⟨rfl, eM_4⟩ := hq
        have hB : TT M_4 5 0 tc := by rw [eM_4]; exact TT.emp _ _ _
        have hF : FT 5 M M_4 := hF.tr (by rw [eM_4]; exact FT.emp _ _ _)
        refine W.eq (g2 := F0 m 100 ls []) rfl ?_
        refine lv_iload_n hx hb d_C_buildFromTape_100 rfl (lv_at hl 0 rfl) ?_
        refine lv_iconst (v := -1) hx hb d_C_buildFromTape_101 (by decide) ?_
        refine oo_eq (a := sp k9) (b := none) (tgt := 146) hx hb d_C_buildFromTape_102 (by decide) (fun q e => by have := hspn _ q e; omega) (ob_none) (fun c_102 => ?_) (fun c_102 => ?_)
        · exact r_v hx hb hr hlocks hP hS (⟨rfl, hB, hF⟩) d_C_buildFromTape_146
        · refine lv_iload_n hx hb d_C_buildFromTape_105 rfl (lv_at hl 1 rfl) ?_
          refine lv_iload_n hx hb d_C_buildFromTape_106 rfl (lv_at hl 2 rfl) ?_
          refine n_ge (a := c9) (b := (tl) - (1)) (tgt := 146) hx hb d_C_buildFromTape_107 (by decide) (by omega) (by omega) (fun c_107 => ?_) (fun c_107 => ?_)
          · exact r_v hx hb hr hlocks hP hS (⟨rfl, hB, hF⟩) d_C_buildFromTape_146
          · exact absurd hf (fun h => by rcases h with h | h; exact c_102 h; omega)
      · exact absurd c_80 (nI_m1 (by omega))
    · refine lv_aload_n hx hb d_C_buildFromTape_34 rfl (lv_at hl 1 rfl) ?_
      refine g_get (C := R_C) (T := T_C) (N := 15) (ci := 7) (v := .ref (ad (1))) hx hb hg i_C hown hK hP 0 (by decide) rfl rfl 0 (by decide) (hg _ k_128) rfl d_C_buildFromTape_35 ?_
      refine lv_iload_n hx hb d_C_buildFromTape_38 rfl (lv_at hl 0 rfl) ?_
      refine c_V (own := R_C) (index := 179) (As := [.int (nI ((tl) - (1)))]) (rest := []) hx hb hml hown hg hK NXc.same hN.warm (fun _ h => h) hP hS 1 (c_T_at l D cI cC cZ cT ad hI M 1 tx1 tl tc (hT1) ((tl) - (1)) (by omega)) (tx_lt tx1) (ci := 6) (cfC_T tx1 _) rfl k_191 k_192 k_193 k_2 k_194 1 rfl (by decide +kernel) (by decide) rfl hl.1 (Nat.le_of_ble_eq_true rfl) d_C_buildFromTape_39 (fun v M' H locs hq hP _ _ hS => ?_)
      obtain ⟨rfl, rfl⟩ := hq
      refine W.eq (g2 := F0 m 42 ls [.int (nI (tc ((tl) - (1))))]) rfl ?_
      refine n_bipush (k := 62) hx hb d_C_buildFromTape_42 (by decide) ?_
      refine n_ne (a := tc ((tl) - (1))) (b := 62) (tgt := 68) hx hb d_C_buildFromTape_44 (by decide) (by omega) (by omega) (fun c_44 => ?_) (fun c_44 => ?_)
      · refine lv_aload_n hx hb d_C_buildFromTape_68 rfl (lv_at hl 1 rfl) ?_
        refine g_get (C := R_C) (T := T_C) (N := 15) (ci := 7) (v := .ref (ad (1))) hx hb hg i_C hown hK hP 0 (by decide) rfl rfl 0 (by decide) (hg _ k_128) rfl d_C_buildFromTape_69 ?_
        refine n_bipush (k := 58) hx hb d_C_buildFromTape_72 (by decide) ?_
        refine c_V (own := R_C) (index := 314) (As := [.int (nI (58))]) (rest := []) hx hb hml hown hg hK NXc.same hN.warm (fun _ h => h) hP hS 1 (c_T_firstPlaceOf l D cI cC cZ cT ad hI M 1 tx1 tl tc hT1 58 (by decide) (some c9) hoc) (tx_lt tx1) (ci := 6) (cfC_T tx1 _) rfl k_375 k_376 k_377 k_2 k_378 1 rfl (by decide +kernel) (by decide) rfl hl.1 (Nat.le_of_ble_eq_true rfl) d_C_buildFromTape_74 (fun v M' H locs hq hP _ _ hS => ?_)
        obtain ⟨rfl, rfl⟩ := hq
        refine W.eq (g2 := F0 m 77 ls [.int (nI (c9))]) rfl ?_
        refine lv_istore_n (lv' := [(2, .int (nI (c9))), (1, .int (nI ((tl) - (1)))), (0, .ref (ad (0)))]) hx hb d_C_buildFromTape_77 rfl hl (by decide) rfl (fun ls hl => ?_)
        refine lv_iload_n hx hb d_C_buildFromTape_78 rfl (lv_at hl 0 rfl) ?_
        refine lv_iconst (v := -1) hx hb d_C_buildFromTape_79 (by decide) ?_
        refine lv_icmp_ne (tgt := 87) hx hb d_C_buildFromTape_80 (by decide) (fun c_80 => ?_) (fun c_80 => ?_)
        · refine lv_aload_n hx hb d_C_buildFromTape_87 rfl (lv_at hl 2 rfl) ?_
          refine lv_iload_n hx hb d_C_buildFromTape_88 rfl (lv_at hl 0 rfl) ?_
          refine c_V (own := R_C) (index := 318) (As := [.int (nI (c9))]) (rest := []) hx hb hml hown hg hK NXc.same hN.warm (fun _ h => h) hP hS 0 (c_C_sotb_s l D cI cC cZ cT ad hI M n len ch hN7 sp bs hH tl tc hT1 c9 (by omega) k9 ho) (by decide) (ci := 7) rfl rfl k_379 k_381 k_p4 k_1 k_382 1 rfl (by decide +kernel) (by decide) rfl hl.1 (Nat.le_of_ble_eq_true rfl) d_C_buildFromTape_89 (fun v M_5 H locs hq hP _ _ hS => ?_)
          obtain ⟨rfl, hFx⟩ := hq
          have hF : FT 5 M M_5 := hF.tr hFx
          refine W.eq (g2 := F0 m 92 ls [.int (oI (sp k9))]) rfl ?_
          refine lv_istore_n (lv' := [(3, .int (oI (sp k9))), (2, .int (nI (c9))), (1, .int (nI ((tl) - (1)))), (0, .ref (ad (0)))]) hx hb d_C_buildFromTape_92 rfl hl (by decide) rfl (fun ls hl => ?_)
          refine lv_aload_n hx hb d_C_buildFromTape_93 rfl (lv_at hl 3 rfl) ?_
          refine g_get (C := R_C) (T := T_C) (N := 15) (ci := 7) (v := .ref (ad (5))) hx hb hg i_C hown hK hP 0 (by decide) rfl rfl 2 (by decide) (hg _ k_130) rfl d_C_buildFromTape_94 ?_
          refine c_V (own := R_C) (index := 113) (As := []) (rest := []) hx hb hml hown hg hK NXc.same hN.warm (fun _ h => h) hP hS 5 (c_T_empty l D cI cC cZ cT ad hI M_5 5 tx5) (tx_lt tx5) (ci := 6) (cfC_T tx5 _) rfl k_183 k_184 k_185 k_2 k_186 0 rfl (by decide +kernel) (by decide) rfl hl.1 (Nat.le_of_ble_eq_true rfl) d_C_buildFromTape_97 (fun v M_6 H locs hq hP _ _ hS => ?_)
          obtain ⟨rfl, eM_6⟩ := hq
          have hB : TT M_6 5 0 tc := by rw [eM_6]; exact TT.emp _ _ _
          have hF : FT 5 M M_6 := hF.tr (by rw [eM_6]; exact FT.emp _ _ _)
          refine W.eq (g2 := F0 m 100 ls []) rfl ?_
          refine lv_iload_n hx hb d_C_buildFromTape_100 rfl (lv_at hl 0 rfl) ?_
          refine lv_iconst (v := -1) hx hb d_C_buildFromTape_101 (by decide) ?_
          refine oo_eq (a := sp k9) (b := none) (tgt := 146) hx hb d_C_buildFromTape_102 (by decide) (fun q e => by have := hspn _ q e; omega) (ob_none) (fun c_102 => ?_) (fun c_102 => ?_)
          · exact r_v hx hb hr hlocks hP hS (⟨rfl, hB, hF⟩) d_C_buildFromTape_146
          · refine lv_iload_n hx hb d_C_buildFromTape_105 rfl (lv_at hl 1 rfl) ?_
            refine lv_iload_n hx hb d_C_buildFromTape_106 rfl (lv_at hl 2 rfl) ?_
            refine n_ge (a := c9) (b := (tl) - (1)) (tgt := 146) hx hb d_C_buildFromTape_107 (by decide) (by omega) (by omega) (fun c_107 => ?_) (fun c_107 => ?_)
            · exact r_v hx hb hr hlocks hP hS (⟨rfl, hB, hF⟩) d_C_buildFromTape_146
            · exact absurd hf (fun h => by rcases h with h | h; exact c_102 h; omega)
        · exact absurd c_80 (nI_m1 (by omega))
      · exact absurd ⟨c_18, c_31, c_44⟩ hnb

set_option maxHeartbeats 4000000 in
set_option maxRecDepth 100000 in
theorem c_C_bft_b (l : Launch) (D : va_G) (cI cC cZ cT : ClassId) (ad : Nat → Nat) (hI : GI 144 ad) (M : PM) (n : Nat) (len : Nat → Nat) (ch : Nat → Nat → Nat) (hN7 : CN M n len ch) (sp bs : Nat → Option Nat) (hH : CSp M n sp bs) (tl : Nat) (tc : Nat → Nat) (hT1 : TT M 1 tl tc) (h0 : 0 < tl) (htc : ∀ i, i < tl → 33 ≤ tc i ∧ tc i ≤ 126) (hnb : ¬ brk tl tc) (c9 : Nat) (hoc : Fst (fun i => tc i = 58) tl (some c9)) (hc8 : c9 + 1 < tl) (k9 : Nat) (ho : Fst (sameT len ch c9 tc) n (some k9)) (s9 : Nat) (hs9 : sp k9 = some s9) : MD l D cI cC cZ cT ad y_C_buildFromTape b_C_buildFromTape 4 none 4 88 [.ref (ad (0))] M (fun v M' => v = none ∧ TT M' 5 (len s9 + (tl - (c9 + 1))) (scCo len ch tc s9 c9) ∧ FT 5 M M') := by
  refine MC.of (by decide) (Nat.le_of_ble_eq_true rfl) ?_
  intro p e s m below meth c ls hx hb hr hml hown hg hlocks hK hN hP hS hl
  have hown : s.vm.findClass R_C = some m.cls := hown
  have hl : lv_has ls 4 [(0, .ref (ad (0)))] := hl
  have hn60 := hN7.1
  have hnm := hN7.2.2.1
  have hspn := hH.2.2.1
  have hbsn := hH.2.2.2
  have htl := hT1.1
  rw [cap1] at htl
  have hF := FT.rf 5 M
  have hc1 := htc 0 h0
  have hc2 := htc (tl - 1) (by omega)
  have hc9 := hoc.1
  have hs9n : s9 < n := (hspn k9 s9 hs9).2
  have ls9 := hnm s9 hs9n
  refine lv_aload_n hx hb d_C_buildFromTape_0 rfl (lv_at hl 0 rfl) ?_
  refine g_get (C := R_C) (T := T_C) (N := 15) (ci := 7) (v := .ref (ad (1))) hx hb hg i_C hown hK hP 0 (by decide) rfl rfl 0 (by decide) (hg _ k_128) rfl d_C_buildFromTape_1 ?_
  refine c_V (own := R_C) (index := 109) (As := []) (rest := []) hx hb hml hown hg hK NXc.same hN.warm (fun _ h => h) hP hS 1 (c_T_length l D cI cC cZ cT ad hI M 1 tx1 tl tc (hT1)) (tx_lt tx1) (ci := 6) (cfC_T tx1 _) rfl k_179 k_180 k_181 k_2 k_182 0 rfl (by decide +kernel) (by decide) rfl hl.1 (Nat.le_of_ble_eq_true rfl) d_C_buildFromTape_4 (fun v M' H locs hq hP _ _ hS => ?_)
  obtain ⟨rfl, rfl⟩ := hq
  refine W.eq (g2 := F0 m 7 ls [.int (nI (tl))]) rfl ?_
  refine n_const (k := 1) hx hb d_C_buildFromTape_7 (by decide) ?_
  refine n_isub (a := tl) (b := 1) hx hb d_C_buildFromTape_8 (by omega) ?_
  refine lv_istore_n (lv' := [(1, .int (nI ((tl) - (1)))), (0, .ref (ad (0)))]) hx hb d_C_buildFromTape_9 rfl hl (by decide) rfl (fun ls hl => ?_)
  refine lv_aload_n hx hb d_C_buildFromTape_10 rfl (lv_at hl 1 rfl) ?_
  refine g_get (C := R_C) (T := T_C) (N := 15) (ci := 7) (v := .ref (ad (1))) hx hb hg i_C hown hK hP 0 (by decide) rfl rfl 0 (by decide) (hg _ k_128) rfl d_C_buildFromTape_11 ?_
  refine c_V (own := R_C) (index := 109) (As := []) (rest := []) hx hb hml hown hg hK NXc.same hN.warm (fun _ h => h) hP hS 1 (c_T_length l D cI cC cZ cT ad hI M 1 tx1 tl tc (hT1)) (tx_lt tx1) (ci := 6) (cfC_T tx1 _) rfl k_179 k_180 k_181 k_2 k_182 0 rfl (by decide +kernel) (by decide) rfl hl.1 (Nat.le_of_ble_eq_true rfl) d_C_buildFromTape_14 (fun v M' H locs hq hP _ _ hS => ?_)
  obtain ⟨rfl, rfl⟩ := hq
  refine W.eq (g2 := F0 m 17 ls [.int (nI (tl))]) rfl ?_
  refine n_const (k := 2) hx hb d_C_buildFromTape_17 (by decide) ?_
  refine n_le (a := tl) (b := 2) (tgt := 68) hx hb d_C_buildFromTape_18 (by decide) (by omega) (by omega) (fun c_18 => ?_) (fun c_18 => ?_)
  · refine lv_aload_n hx hb d_C_buildFromTape_68 rfl (lv_at hl 1 rfl) ?_
    refine g_get (C := R_C) (T := T_C) (N := 15) (ci := 7) (v := .ref (ad (1))) hx hb hg i_C hown hK hP 0 (by decide) rfl rfl 0 (by decide) (hg _ k_128) rfl d_C_buildFromTape_69 ?_
    refine n_bipush (k := 58) hx hb d_C_buildFromTape_72 (by decide) ?_
    refine c_V (own := R_C) (index := 314) (As := [.int (nI (58))]) (rest := []) hx hb hml hown hg hK NXc.same hN.warm (fun _ h => h) hP hS 1 (c_T_firstPlaceOf l D cI cC cZ cT ad hI M 1 tx1 tl tc hT1 58 (by decide) (some c9) hoc) (tx_lt tx1) (ci := 6) (cfC_T tx1 _) rfl k_375 k_376 k_377 k_2 k_378 1 rfl (by decide +kernel) (by decide) rfl hl.1 (Nat.le_of_ble_eq_true rfl) d_C_buildFromTape_74 (fun v M' H locs hq hP _ _ hS => ?_)
    obtain ⟨rfl, rfl⟩ := hq
    refine W.eq (g2 := F0 m 77 ls [.int (nI (c9))]) rfl ?_
    refine lv_istore_n (lv' := [(2, .int (nI (c9))), (1, .int (nI ((tl) - (1)))), (0, .ref (ad (0)))]) hx hb d_C_buildFromTape_77 rfl hl (by decide) rfl (fun ls hl => ?_)
    refine lv_iload_n hx hb d_C_buildFromTape_78 rfl (lv_at hl 0 rfl) ?_
    refine lv_iconst (v := -1) hx hb d_C_buildFromTape_79 (by decide) ?_
    refine lv_icmp_ne (tgt := 87) hx hb d_C_buildFromTape_80 (by decide) (fun c_80 => ?_) (fun c_80 => ?_)
    · refine lv_aload_n hx hb d_C_buildFromTape_87 rfl (lv_at hl 2 rfl) ?_
      refine lv_iload_n hx hb d_C_buildFromTape_88 rfl (lv_at hl 0 rfl) ?_
      refine c_V (own := R_C) (index := 318) (As := [.int (nI (c9))]) (rest := []) hx hb hml hown hg hK NXc.same hN.warm (fun _ h => h) hP hS 0 (c_C_sotb_s l D cI cC cZ cT ad hI M n len ch hN7 sp bs hH tl tc hT1 c9 (by omega) k9 ho) (by decide) (ci := 7) rfl rfl k_379 k_381 k_p4 k_1 k_382 1 rfl (by decide +kernel) (by decide) rfl hl.1 (Nat.le_of_ble_eq_true rfl) d_C_buildFromTape_89 (fun v M_1 H locs hq hP _ _ hS => ?_)
      obtain ⟨rfl, hFx⟩ := hq
      rw [hs9]
      have hF : FT 5 M M_1 := hF.tr hFx
      refine W.eq (g2 := F0 m 92 ls [.int (nI (s9))]) rfl ?_
      refine lv_istore_n (lv' := [(3, .int (nI (s9))), (2, .int (nI (c9))), (1, .int (nI ((tl) - (1)))), (0, .ref (ad (0)))]) hx hb d_C_buildFromTape_92 rfl hl (by decide) rfl (fun ls hl => ?_)
      refine lv_aload_n hx hb d_C_buildFromTape_93 rfl (lv_at hl 3 rfl) ?_
      refine g_get (C := R_C) (T := T_C) (N := 15) (ci := 7) (v := .ref (ad (5))) hx hb hg i_C hown hK hP 0 (by decide) rfl rfl 2 (by decide) (hg _ k_130) rfl d_C_buildFromTape_94 ?_
      refine c_V (own := R_C) (index := 113) (As := []) (rest := []) hx hb hml hown hg hK NXc.same hN.warm (fun _ h => h) hP hS 5 (c_T_empty l D cI cC cZ cT ad hI M_1 5 tx5) (tx_lt tx5) (ci := 6) (cfC_T tx5 _) rfl k_183 k_184 k_185 k_2 k_186 0 rfl (by decide +kernel) (by decide) rfl hl.1 (Nat.le_of_ble_eq_true rfl) d_C_buildFromTape_97 (fun v M_2 H locs hq hP _ _ hS => ?_)
      obtain ⟨rfl, eM_2⟩ := hq
      have hB : TT M_2 5 0 (scCo len ch tc s9 c9) := by rw [eM_2]; exact TT.emp _ _ _
      have hF : FT 5 M M_2 := hF.tr (by rw [eM_2]; exact FT.emp _ _ _)
      refine W.eq (g2 := F0 m 100 ls []) rfl ?_
      refine lv_iload_n hx hb d_C_buildFromTape_100 rfl (lv_at hl 0 rfl) ?_
      refine lv_iconst (v := -1) hx hb d_C_buildFromTape_101 (by decide) ?_
      refine lv_icmp_eq (tgt := 146) hx hb d_C_buildFromTape_102 (by decide) (fun c_102 => ?_) (fun c_102 => ?_)
      · exact absurd c_102 (nI_m1 (by omega))
      · refine lv_iload_n hx hb d_C_buildFromTape_105 rfl (lv_at hl 1 rfl) ?_
        refine lv_iload_n hx hb d_C_buildFromTape_106 rfl (lv_at hl 2 rfl) ?_
        refine n_ge (a := c9) (b := (tl) - (1)) (tgt := 146) hx hb d_C_buildFromTape_107 (by decide) (by omega) (by omega) (fun c_107 => ?_) (fun c_107 => ?_)
        · exact absurd c_107 (by omega)
        · refine lv_aload_n hx hb d_C_buildFromTape_110 rfl (lv_at hl 3 rfl) ?_
          refine g_get (C := R_C) (T := T_C) (N := 15) (ci := 7) (v := .ref (ad (5))) hx hb hg i_C hown hK hP 0 (by decide) rfl rfl 2 (by decide) (hg _ k_130) rfl d_C_buildFromTape_111 ?_
          refine lv_aload_n hx hb d_C_buildFromTape_114 rfl (lv_at hl 3 rfl) ?_
          refine g_get (C := R_C) (T := T_C) (N := 15) (ci := 7) (v := .ref (ad (7))) hx hb hg i_C hown hK hP 0 (by decide) rfl rfl 3 (by decide) (hg _ k_131) rfl d_C_buildFromTape_115 ?_
          refine lv_iload_n hx hb d_C_buildFromTape_118 rfl (lv_at hl 0 rfl) ?_
          refine c_V (own := R_C) (index := 134) (As := [.int (nI (s9))]) (rest := [.ref (ad (5))]) hx hb hml hown hg hK NXc.same hN.warm (fun _ h => h) hP hS 7 (c_N_text l D cI cC cZ cT ad hI M_2 (s9) (by omega)) (by decide) (ci := 0) rfl rfl k_387 k_388 k_389 k_3 k_390 1 rfl (by decide +kernel) (by decide) rfl hl.1 (Nat.le_of_ble_eq_true rfl) d_C_buildFromTape_119 (fun v M' H locs hq hP _ _ hS => ?_)
          obtain ⟨rfl, rfl⟩ := hq
          refine W.eq (g2 := F0 m 122 ls [.ref (ad (9 + 2 * (s9))), .ref (ad (5))]) rfl ?_
          refine c_V (own := R_C) (index := 186) (As := [.ref (ad (9 + 2 * (s9)))]) (rest := []) hx hb hml hown hg hK NXc.same hN.warm (fun _ h => h) hP hS 5 (c_T_putAll l D cI cC cZ cT ad hI M_2 5 tx5 (0) (scCo len ch tc s9 c9) hB (9 + 2 * s9) (txn (by omega)) (len s9) (ch s9) (((hN7.ft hF (by decide)).2.2.1 s9 hs9n).2.2.2) (tn5 _) (by rw [cap5]; omega) (fun i h => by rw [Nat.zero_add]; unfold scCo; rw [if_pos h])) (tx_lt tx5) (ci := 6) (cfC_T tx5 _) rfl k_391 k_354 k_355 k_2 k_356 1 rfl (by decide +kernel) (by decide) rfl hl.1 (Nat.le_of_ble_eq_true rfl) d_C_buildFromTape_122 (fun v M_3 H locs hq hP _ _ hS => ?_)
          obtain ⟨rfl, hB, hFx⟩ := hq
          have hF : FT 5 M M_3 := hF.tr hFx
          refine W.eq (g2 := F0 m 125 ls []) rfl ?_
          refine lv_aload_n hx hb d_C_buildFromTape_125 rfl (lv_at hl 3 rfl) ?_
          refine g_get (C := R_C) (T := T_C) (N := 15) (ci := 7) (v := .ref (ad (5))) hx hb hg i_C hown hK hP 0 (by decide) rfl rfl 2 (by decide) (hg _ k_130) rfl d_C_buildFromTape_126 ?_
          refine lv_aload_n hx hb d_C_buildFromTape_129 rfl (lv_at hl 3 rfl) ?_
          refine g_get (C := R_C) (T := T_C) (N := 15) (ci := 7) (v := .ref (ad (1))) hx hb hg i_C hown hK hP 0 (by decide) rfl rfl 0 (by decide) (hg _ k_128) rfl d_C_buildFromTape_130 ?_
          refine lv_iload_n hx hb d_C_buildFromTape_133 rfl (lv_at hl 1 rfl) ?_
          refine n_const (k := 1) hx hb d_C_buildFromTape_134 (by decide) ?_
          refine n_iadd (a := c9) (b := 1) hx hb d_C_buildFromTape_135 ?_
          refine lv_aload_n hx hb d_C_buildFromTape_136 rfl (lv_at hl 3 rfl) ?_
          refine g_get (C := R_C) (T := T_C) (N := 15) (ci := 7) (v := .ref (ad (1))) hx hb hg i_C hown hK hP 0 (by decide) rfl rfl 0 (by decide) (hg _ k_128) rfl d_C_buildFromTape_137 ?_
          refine c_V (own := R_C) (index := 109) (As := []) (rest := [.int (nI ((c9) + (1))), .ref (ad (1)), .ref (ad (5))]) hx hb hml hown hg hK NXc.same hN.warm (fun _ h => h) hP hS 1 (c_T_length l D cI cC cZ cT ad hI M_3 1 tx1 tl tc (hT1.ft hF tx5 tx1 (by decide))) (tx_lt tx1) (ci := 6) (cfC_T tx1 _) rfl k_179 k_180 k_181 k_2 k_182 0 rfl (by decide +kernel) (by decide) rfl hl.1 (Nat.le_of_ble_eq_true rfl) d_C_buildFromTape_140 (fun v M' H locs hq hP _ _ hS => ?_)
          obtain ⟨rfl, rfl⟩ := hq
          refine W.eq (g2 := F0 m 143 ls [.int (nI (tl)), .int (nI ((c9) + (1))), .ref (ad (1)), .ref (ad (5))]) rfl ?_
          refine c_V (own := R_C) (index := 171) (As := [.ref (ad (1)), .int (nI ((c9) + (1))), .int (nI (tl))]) (rest := []) hx hb hml hown hg hK NXc.same hN.warm (fun _ h => h) hP hS 5 (c_T_putPart l D cI cC cZ cT ad hI M_3 5 tx5 (0 + len s9) (scCo len ch tc s9 c9) hB (1) tx1 (tl) tc (hT1.ft hF tx5 tx1 (by decide)) (c9 + 1) (tl) (by omega) (by omega) (by decide) (by rw [cap5]; omega) (fun i h1 h2 => by unfold scCo; rw [if_neg (by omega)]; congr 1; omega)) (tx_lt tx5) (ci := 6) (cfC_T tx5 _) rfl k_374 k_358 k_359 k_2 k_360 3 rfl (by decide +kernel) (by decide) rfl hl.1 (Nat.le_of_ble_eq_true rfl) d_C_buildFromTape_143 (fun v M_4 H locs hq hP _ _ hS => ?_)
          obtain ⟨rfl, hB, hFx⟩ := hq
          have hF : FT 5 M M_4 := hF.tr hFx
          refine W.eq (g2 := F0 m 146 ls []) rfl ?_
          exact r_v hx hb hr hlocks hP hS (⟨rfl, by rw [Nat.zero_add] at hB; exact hB, hF⟩) d_C_buildFromTape_146
    · exact absurd c_80 (nI_m1 (by omega))
  · refine lv_aload_n hx hb d_C_buildFromTape_21 rfl (lv_at hl 1 rfl) ?_
    refine g_get (C := R_C) (T := T_C) (N := 15) (ci := 7) (v := .ref (ad (1))) hx hb hg i_C hown hK hP 0 (by decide) rfl rfl 0 (by decide) (hg _ k_128) rfl d_C_buildFromTape_22 ?_
    refine n_const (k := 0) hx hb d_C_buildFromTape_25 (by decide) ?_
    refine c_V (own := R_C) (index := 179) (As := [.int (nI (0))]) (rest := []) hx hb hml hown hg hK NXc.same hN.warm (fun _ h => h) hP hS 1 (c_T_at l D cI cC cZ cT ad hI M 1 tx1 tl tc (hT1) (0) (by omega)) (tx_lt tx1) (ci := 6) (cfC_T tx1 _) rfl k_191 k_192 k_193 k_2 k_194 1 rfl (by decide +kernel) (by decide) rfl hl.1 (Nat.le_of_ble_eq_true rfl) d_C_buildFromTape_26 (fun v M' H locs hq hP _ _ hS => ?_)
    obtain ⟨rfl, rfl⟩ := hq
    refine W.eq (g2 := F0 m 29 ls [.int (nI (tc (0)))]) rfl ?_
    refine n_bipush (k := 60) hx hb d_C_buildFromTape_29 (by decide) ?_
    refine n_ne (a := tc (0)) (b := 60) (tgt := 68) hx hb d_C_buildFromTape_31 (by decide) (by omega) (by omega) (fun c_31 => ?_) (fun c_31 => ?_)
    · refine lv_aload_n hx hb d_C_buildFromTape_68 rfl (lv_at hl 1 rfl) ?_
      refine g_get (C := R_C) (T := T_C) (N := 15) (ci := 7) (v := .ref (ad (1))) hx hb hg i_C hown hK hP 0 (by decide) rfl rfl 0 (by decide) (hg _ k_128) rfl d_C_buildFromTape_69 ?_
      refine n_bipush (k := 58) hx hb d_C_buildFromTape_72 (by decide) ?_
      refine c_V (own := R_C) (index := 314) (As := [.int (nI (58))]) (rest := []) hx hb hml hown hg hK NXc.same hN.warm (fun _ h => h) hP hS 1 (c_T_firstPlaceOf l D cI cC cZ cT ad hI M 1 tx1 tl tc hT1 58 (by decide) (some c9) hoc) (tx_lt tx1) (ci := 6) (cfC_T tx1 _) rfl k_375 k_376 k_377 k_2 k_378 1 rfl (by decide +kernel) (by decide) rfl hl.1 (Nat.le_of_ble_eq_true rfl) d_C_buildFromTape_74 (fun v M' H locs hq hP _ _ hS => ?_)
      obtain ⟨rfl, rfl⟩ := hq
      refine W.eq (g2 := F0 m 77 ls [.int (nI (c9))]) rfl ?_
      refine lv_istore_n (lv' := [(2, .int (nI (c9))), (1, .int (nI ((tl) - (1)))), (0, .ref (ad (0)))]) hx hb d_C_buildFromTape_77 rfl hl (by decide) rfl (fun ls hl => ?_)
      refine lv_iload_n hx hb d_C_buildFromTape_78 rfl (lv_at hl 0 rfl) ?_
      refine lv_iconst (v := -1) hx hb d_C_buildFromTape_79 (by decide) ?_
      refine lv_icmp_ne (tgt := 87) hx hb d_C_buildFromTape_80 (by decide) (fun c_80 => ?_) (fun c_80 => ?_)
      · refine lv_aload_n hx hb d_C_buildFromTape_87 rfl (lv_at hl 2 rfl) ?_
        refine lv_iload_n hx hb d_C_buildFromTape_88 rfl (lv_at hl 0 rfl) ?_
        refine c_V (own := R_C) (index := 318) (As := [.int (nI (c9))]) (rest := []) hx hb hml hown hg hK NXc.same hN.warm (fun _ h => h) hP hS 0 (c_C_sotb_s l D cI cC cZ cT ad hI M n len ch hN7 sp bs hH tl tc hT1 c9 (by omega) k9 ho) (by decide) (ci := 7) rfl rfl k_379 k_381 k_p4 k_1 k_382 1 rfl (by decide +kernel) (by decide) rfl hl.1 (Nat.le_of_ble_eq_true rfl) d_C_buildFromTape_89 (fun v M_5 H locs hq hP _ _ hS => ?_)
        obtain ⟨rfl, hFx⟩ := hq
        rw [hs9]
        have hF : FT 5 M M_5 := hF.tr hFx
        refine W.eq (g2 := F0 m 92 ls [.int (nI (s9))]) rfl ?_
        refine lv_istore_n (lv' := [(3, .int (nI (s9))), (2, .int (nI (c9))), (1, .int (nI ((tl) - (1)))), (0, .ref (ad (0)))]) hx hb d_C_buildFromTape_92 rfl hl (by decide) rfl (fun ls hl => ?_)
        refine lv_aload_n hx hb d_C_buildFromTape_93 rfl (lv_at hl 3 rfl) ?_
        refine g_get (C := R_C) (T := T_C) (N := 15) (ci := 7) (v := .ref (ad (5))) hx hb hg i_C hown hK hP 0 (by decide) rfl rfl 2 (by decide) (hg _ k_130) rfl d_C_buildFromTape_94 ?_
        refine c_V (own := R_C) (index := 113) (As := []) (rest := []) hx hb hml hown hg hK NXc.same hN.warm (fun _ h => h) hP hS 5 (c_T_empty l D cI cC cZ cT ad hI M_5 5 tx5) (tx_lt tx5) (ci := 6) (cfC_T tx5 _) rfl k_183 k_184 k_185 k_2 k_186 0 rfl (by decide +kernel) (by decide) rfl hl.1 (Nat.le_of_ble_eq_true rfl) d_C_buildFromTape_97 (fun v M_6 H locs hq hP _ _ hS => ?_)
        obtain ⟨rfl, eM_6⟩ := hq
        have hB : TT M_6 5 0 (scCo len ch tc s9 c9) := by rw [eM_6]; exact TT.emp _ _ _
        have hF : FT 5 M M_6 := hF.tr (by rw [eM_6]; exact FT.emp _ _ _)
        refine W.eq (g2 := F0 m 100 ls []) rfl ?_
        refine lv_iload_n hx hb d_C_buildFromTape_100 rfl (lv_at hl 0 rfl) ?_
        refine lv_iconst (v := -1) hx hb d_C_buildFromTape_101 (by decide) ?_
        refine lv_icmp_eq (tgt := 146) hx hb d_C_buildFromTape_102 (by decide) (fun c_102 => ?_) (fun c_102 => ?_)
        · exact absurd c_102 (nI_m1 (by omega))
        · refine lv_iload_n hx hb d_C_buildFromTape_105 rfl (lv_at hl 1 rfl) ?_
          refine lv_iload_n hx hb d_C_buildFromTape_106 rfl (lv_at hl 2 rfl) ?_
          refine n_ge (a := c9) (b := (tl) - (1)) (tgt := 146) hx hb d_C_buildFromTape_107 (by decide) (by omega) (by omega) (fun c_107 => ?_) (fun c_107 => ?_)
          · exact absurd c_107 (by omega)
          · refine lv_aload_n hx hb d_C_buildFromTape_110 rfl (lv_at hl 3 rfl) ?_
            refine g_get (C := R_C) (T := T_C) (N := 15) (ci := 7) (v := .ref (ad (5))) hx hb hg i_C hown hK hP 0 (by decide) rfl rfl 2 (by decide) (hg _ k_130) rfl d_C_buildFromTape_111 ?_
            refine lv_aload_n hx hb d_C_buildFromTape_114 rfl (lv_at hl 3 rfl) ?_
            refine g_get (C := R_C) (T := T_C) (N := 15) (ci := 7) (v := .ref (ad (7))) hx hb hg i_C hown hK hP 0 (by decide) rfl rfl 3 (by decide) (hg _ k_131) rfl d_C_buildFromTape_115 ?_
            refine lv_iload_n hx hb d_C_buildFromTape_118 rfl (lv_at hl 0 rfl) ?_
            refine c_V (own := R_C) (index := 134) (As := [.int (nI (s9))]) (rest := [.ref (ad (5))]) hx hb hml hown hg hK NXc.same hN.warm (fun _ h => h) hP hS 7 (c_N_text l D cI cC cZ cT ad hI M_6 (s9) (by omega)) (by decide) (ci := 0) rfl rfl k_387 k_388 k_389 k_3 k_390 1 rfl (by decide +kernel) (by decide) rfl hl.1 (Nat.le_of_ble_eq_true rfl) d_C_buildFromTape_119 (fun v M' H locs hq hP _ _ hS => ?_)
            obtain ⟨rfl, rfl⟩ := hq
            refine W.eq (g2 := F0 m 122 ls [.ref (ad (9 + 2 * (s9))), .ref (ad (5))]) rfl ?_
            refine c_V (own := R_C) (index := 186) (As := [.ref (ad (9 + 2 * (s9)))]) (rest := []) hx hb hml hown hg hK NXc.same hN.warm (fun _ h => h) hP hS 5 (c_T_putAll l D cI cC cZ cT ad hI M_6 5 tx5 (0) (scCo len ch tc s9 c9) hB (9 + 2 * s9) (txn (by omega)) (len s9) (ch s9) (((hN7.ft hF (by decide)).2.2.1 s9 hs9n).2.2.2) (tn5 _) (by rw [cap5]; omega) (fun i h => by rw [Nat.zero_add]; unfold scCo; rw [if_pos h])) (tx_lt tx5) (ci := 6) (cfC_T tx5 _) rfl k_391 k_354 k_355 k_2 k_356 1 rfl (by decide +kernel) (by decide) rfl hl.1 (Nat.le_of_ble_eq_true rfl) d_C_buildFromTape_122 (fun v M_7 H locs hq hP _ _ hS => ?_)
            obtain ⟨rfl, hB, hFx⟩ := hq
            have hF : FT 5 M M_7 := hF.tr hFx
            refine W.eq (g2 := F0 m 125 ls []) rfl ?_
            refine lv_aload_n hx hb d_C_buildFromTape_125 rfl (lv_at hl 3 rfl) ?_
            refine g_get (C := R_C) (T := T_C) (N := 15) (ci := 7) (v := .ref (ad (5))) hx hb hg i_C hown hK hP 0 (by decide) rfl rfl 2 (by decide) (hg _ k_130) rfl d_C_buildFromTape_126 ?_
            refine lv_aload_n hx hb d_C_buildFromTape_129 rfl (lv_at hl 3 rfl) ?_
            refine g_get (C := R_C) (T := T_C) (N := 15) (ci := 7) (v := .ref (ad (1))) hx hb hg i_C hown hK hP 0 (by decide) rfl rfl 0 (by decide) (hg _ k_128) rfl d_C_buildFromTape_130 ?_
            refine lv_iload_n hx hb d_C_buildFromTape_133 rfl (lv_at hl 1 rfl) ?_
            refine n_const (k := 1) hx hb d_C_buildFromTape_134 (by decide) ?_
            refine n_iadd (a := c9) (b := 1) hx hb d_C_buildFromTape_135 ?_
            refine lv_aload_n hx hb d_C_buildFromTape_136 rfl (lv_at hl 3 rfl) ?_
            refine g_get (C := R_C) (T := T_C) (N := 15) (ci := 7) (v := .ref (ad (1))) hx hb hg i_C hown hK hP 0 (by decide) rfl rfl 0 (by decide) (hg _ k_128) rfl d_C_buildFromTape_137 ?_
            refine c_V (own := R_C) (index := 109) (As := []) (rest := [.int (nI ((c9) + (1))), .ref (ad (1)), .ref (ad (5))]) hx hb hml hown hg hK NXc.same hN.warm (fun _ h => h) hP hS 1 (c_T_length l D cI cC cZ cT ad hI M_7 1 tx1 tl tc (hT1.ft hF tx5 tx1 (by decide))) (tx_lt tx1) (ci := 6) (cfC_T tx1 _) rfl k_179 k_180 k_181 k_2 k_182 0 rfl (by decide +kernel) (by decide) rfl hl.1 (Nat.le_of_ble_eq_true rfl) d_C_buildFromTape_140 (fun v M' H locs hq hP _ _ hS => ?_)
            obtain ⟨rfl, rfl⟩ := hq
            refine W.eq (g2 := F0 m 143 ls [.int (nI (tl)), .int (nI ((c9) + (1))), .ref (ad (1)), .ref (ad (5))]) rfl ?_
            refine c_V (own := R_C) (index := 171) (As := [.ref (ad (1)), .int (nI ((c9) + (1))), .int (nI (tl))]) (rest := []) hx hb hml hown hg hK NXc.same hN.warm (fun _ h => h) hP hS 5 (c_T_putPart l D cI cC cZ cT ad hI M_7 5 tx5 (0 + len s9) (scCo len ch tc s9 c9) hB (1) tx1 (tl) tc (hT1.ft hF tx5 tx1 (by decide)) (c9 + 1) (tl) (by omega) (by omega) (by decide) (by rw [cap5]; omega) (fun i h1 h2 => by unfold scCo; rw [if_neg (by omega)]; congr 1; omega)) (tx_lt tx5) (ci := 6) (cfC_T tx5 _) rfl k_374 k_358 k_359 k_2 k_360 3 rfl (by decide +kernel) (by decide) rfl hl.1 (Nat.le_of_ble_eq_true rfl) d_C_buildFromTape_143 (fun v M_8 H locs hq hP _ _ hS => ?_)
            obtain ⟨rfl, hB, hFx⟩ := hq
            have hF : FT 5 M M_8 := hF.tr hFx
            refine W.eq (g2 := F0 m 146 ls []) rfl ?_
            exact r_v hx hb hr hlocks hP hS (⟨rfl, by rw [Nat.zero_add] at hB; exact hB, hF⟩) d_C_buildFromTape_146
      · exact absurd c_80 (nI_m1 (by omega))
    · refine lv_aload_n hx hb d_C_buildFromTape_34 rfl (lv_at hl 1 rfl) ?_
      refine g_get (C := R_C) (T := T_C) (N := 15) (ci := 7) (v := .ref (ad (1))) hx hb hg i_C hown hK hP 0 (by decide) rfl rfl 0 (by decide) (hg _ k_128) rfl d_C_buildFromTape_35 ?_
      refine lv_iload_n hx hb d_C_buildFromTape_38 rfl (lv_at hl 0 rfl) ?_
      refine c_V (own := R_C) (index := 179) (As := [.int (nI ((tl) - (1)))]) (rest := []) hx hb hml hown hg hK NXc.same hN.warm (fun _ h => h) hP hS 1 (c_T_at l D cI cC cZ cT ad hI M 1 tx1 tl tc (hT1) ((tl) - (1)) (by omega)) (tx_lt tx1) (ci := 6) (cfC_T tx1 _) rfl k_191 k_192 k_193 k_2 k_194 1 rfl (by decide +kernel) (by decide) rfl hl.1 (Nat.le_of_ble_eq_true rfl) d_C_buildFromTape_39 (fun v M' H locs hq hP _ _ hS => ?_)
      obtain ⟨rfl, rfl⟩ := hq
      refine W.eq (g2 := F0 m 42 ls [.int (nI (tc ((tl) - (1))))]) rfl ?_
      refine n_bipush (k := 62) hx hb d_C_buildFromTape_42 (by decide) ?_
      refine n_ne (a := tc ((tl) - (1))) (b := 62) (tgt := 68) hx hb d_C_buildFromTape_44 (by decide) (by omega) (by omega) (fun c_44 => ?_) (fun c_44 => ?_)
      · refine lv_aload_n hx hb d_C_buildFromTape_68 rfl (lv_at hl 1 rfl) ?_
        refine g_get (C := R_C) (T := T_C) (N := 15) (ci := 7) (v := .ref (ad (1))) hx hb hg i_C hown hK hP 0 (by decide) rfl rfl 0 (by decide) (hg _ k_128) rfl d_C_buildFromTape_69 ?_
        refine n_bipush (k := 58) hx hb d_C_buildFromTape_72 (by decide) ?_
        refine c_V (own := R_C) (index := 314) (As := [.int (nI (58))]) (rest := []) hx hb hml hown hg hK NXc.same hN.warm (fun _ h => h) hP hS 1 (c_T_firstPlaceOf l D cI cC cZ cT ad hI M 1 tx1 tl tc hT1 58 (by decide) (some c9) hoc) (tx_lt tx1) (ci := 6) (cfC_T tx1 _) rfl k_375 k_376 k_377 k_2 k_378 1 rfl (by decide +kernel) (by decide) rfl hl.1 (Nat.le_of_ble_eq_true rfl) d_C_buildFromTape_74 (fun v M' H locs hq hP _ _ hS => ?_)
        obtain ⟨rfl, rfl⟩ := hq
        refine W.eq (g2 := F0 m 77 ls [.int (nI (c9))]) rfl ?_
        refine lv_istore_n (lv' := [(2, .int (nI (c9))), (1, .int (nI ((tl) - (1)))), (0, .ref (ad (0)))]) hx hb d_C_buildFromTape_77 rfl hl (by decide) rfl (fun ls hl => ?_)
        refine lv_iload_n hx hb d_C_buildFromTape_78 rfl (lv_at hl 0 rfl) ?_
        refine lv_iconst (v := -1) hx hb d_C_buildFromTape_79 (by decide) ?_
        refine lv_icmp_ne (tgt := 87) hx hb d_C_buildFromTape_80 (by decide) (fun c_80 => ?_) (fun c_80 => ?_)
        · refine lv_aload_n hx hb d_C_buildFromTape_87 rfl (lv_at hl 2 rfl) ?_
          refine lv_iload_n hx hb d_C_buildFromTape_88 rfl (lv_at hl 0 rfl) ?_
          refine c_V (own := R_C) (index := 318) (As := [.int (nI (c9))]) (rest := []) hx hb hml hown hg hK NXc.same hN.warm (fun _ h => h) hP hS 0 (c_C_sotb_s l D cI cC cZ cT ad hI M n len ch hN7 sp bs hH tl tc hT1 c9 (by omega) k9 ho) (by decide) (ci := 7) rfl rfl k_379 k_381 k_p4 k_1 k_382 1 rfl (by decide +kernel) (by decide) rfl hl.1 (Nat.le_of_ble_eq_true rfl) d_C_buildFromTape_89 (fun v M_9 H locs hq hP _ _ hS => ?_)
          obtain ⟨rfl, hFx⟩ := hq
          rw [hs9]
          have hF : FT 5 M M_9 := hF.tr hFx
          refine W.eq (g2 := F0 m 92 ls [.int (nI (s9))]) rfl ?_
          refine lv_istore_n (lv' := [(3, .int (nI (s9))), (2, .int (nI (c9))), (1, .int (nI ((tl) - (1)))), (0, .ref (ad (0)))]) hx hb d_C_buildFromTape_92 rfl hl (by decide) rfl (fun ls hl => ?_)
          refine lv_aload_n hx hb d_C_buildFromTape_93 rfl (lv_at hl 3 rfl) ?_
          refine g_get (C := R_C) (T := T_C) (N := 15) (ci := 7) (v := .ref (ad (5))) hx hb hg i_C hown hK hP 0 (by decide) rfl rfl 2 (by decide) (hg _ k_130) rfl d_C_buildFromTape_94 ?_
          refine c_V (own := R_C) (index := 113) (As := []) (rest := []) hx hb hml hown hg hK NXc.same hN.warm (fun _ h => h) hP hS 5 (c_T_empty l D cI cC cZ cT ad hI M_9 5 tx5) (tx_lt tx5) (ci := 6) (cfC_T tx5 _) rfl k_183 k_184 k_185 k_2 k_186 0 rfl (by decide +kernel) (by decide) rfl hl.1 (Nat.le_of_ble_eq_true rfl) d_C_buildFromTape_97 (fun v M_10 H locs hq hP _ _ hS => ?_)
          obtain ⟨rfl, eM_10⟩ := hq
          have hB : TT M_10 5 0 (scCo len ch tc s9 c9) := by rw [eM_10]; exact TT.emp _ _ _
          have hF : FT 5 M M_10 := hF.tr (by rw [eM_10]; exact FT.emp _ _ _)
          refine W.eq (g2 := F0 m 100 ls []) rfl ?_
          refine lv_iload_n hx hb d_C_buildFromTape_100 rfl (lv_at hl 0 rfl) ?_
          refine lv_iconst (v := -1) hx hb d_C_buildFromTape_101 (by decide) ?_
          refine lv_icmp_eq (tgt := 146) hx hb d_C_buildFromTape_102 (by decide) (fun c_102 => ?_) (fun c_102 => ?_)
          · exact absurd c_102 (nI_m1 (by omega))
          · refine lv_iload_n hx hb d_C_buildFromTape_105 rfl (lv_at hl 1 rfl) ?_
            refine lv_iload_n hx hb d_C_buildFromTape_106 rfl (lv_at hl 2 rfl) ?_
            refine n_ge (a := c9) (b := (tl) - (1)) (tgt := 146) hx hb d_C_buildFromTape_107 (by decide) (by omega) (by omega) (fun c_107 => ?_) (fun c_107 => ?_)
            · exact absurd c_107 (by omega)
            · refine lv_aload_n hx hb d_C_buildFromTape_110 rfl (lv_at hl 3 rfl) ?_
              refine g_get (C := R_C) (T := T_C) (N := 15) (ci := 7) (v := .ref (ad (5))) hx hb hg i_C hown hK hP 0 (by decide) rfl rfl 2 (by decide) (hg _ k_130) rfl d_C_buildFromTape_111 ?_
              refine lv_aload_n hx hb d_C_buildFromTape_114 rfl (lv_at hl 3 rfl) ?_
              refine g_get (C := R_C) (T := T_C) (N := 15) (ci := 7) (v := .ref (ad (7))) hx hb hg i_C hown hK hP 0 (by decide) rfl rfl 3 (by decide) (hg _ k_131) rfl d_C_buildFromTape_115 ?_
              refine lv_iload_n hx hb d_C_buildFromTape_118 rfl (lv_at hl 0 rfl) ?_
              refine c_V (own := R_C) (index := 134) (As := [.int (nI (s9))]) (rest := [.ref (ad (5))]) hx hb hml hown hg hK NXc.same hN.warm (fun _ h => h) hP hS 7 (c_N_text l D cI cC cZ cT ad hI M_10 (s9) (by omega)) (by decide) (ci := 0) rfl rfl k_387 k_388 k_389 k_3 k_390 1 rfl (by decide +kernel) (by decide) rfl hl.1 (Nat.le_of_ble_eq_true rfl) d_C_buildFromTape_119 (fun v M' H locs hq hP _ _ hS => ?_)
              obtain ⟨rfl, rfl⟩ := hq
              refine W.eq (g2 := F0 m 122 ls [.ref (ad (9 + 2 * (s9))), .ref (ad (5))]) rfl ?_
              refine c_V (own := R_C) (index := 186) (As := [.ref (ad (9 + 2 * (s9)))]) (rest := []) hx hb hml hown hg hK NXc.same hN.warm (fun _ h => h) hP hS 5 (c_T_putAll l D cI cC cZ cT ad hI M_10 5 tx5 (0) (scCo len ch tc s9 c9) hB (9 + 2 * s9) (txn (by omega)) (len s9) (ch s9) (((hN7.ft hF (by decide)).2.2.1 s9 hs9n).2.2.2) (tn5 _) (by rw [cap5]; omega) (fun i h => by rw [Nat.zero_add]; unfold scCo; rw [if_pos h])) (tx_lt tx5) (ci := 6) (cfC_T tx5 _) rfl k_391 k_354 k_355 k_2 k_356 1 rfl (by decide +kernel) (by decide) rfl hl.1 (Nat.le_of_ble_eq_true rfl) d_C_buildFromTape_122 (fun v M_11 H locs hq hP _ _ hS => ?_)
              obtain ⟨rfl, hB, hFx⟩ := hq
              have hF : FT 5 M M_11 := hF.tr hFx
              refine W.eq (g2 := F0 m 125 ls []) rfl ?_
              refine lv_aload_n hx hb d_C_buildFromTape_125 rfl (lv_at hl 3 rfl) ?_
              refine g_get (C := R_C) (T := T_C) (N := 15) (ci := 7) (v := .ref (ad (5))) hx hb hg i_C hown hK hP 0 (by decide) rfl rfl 2 (by decide) (hg _ k_130) rfl d_C_buildFromTape_126 ?_
              refine lv_aload_n hx hb d_C_buildFromTape_129 rfl (lv_at hl 3 rfl) ?_
              refine g_get (C := R_C) (T := T_C) (N := 15) (ci := 7) (v := .ref (ad (1))) hx hb hg i_C hown hK hP 0 (by decide) rfl rfl 0 (by decide) (hg _ k_128) rfl d_C_buildFromTape_130 ?_
              refine lv_iload_n hx hb d_C_buildFromTape_133 rfl (lv_at hl 1 rfl) ?_
              refine n_const (k := 1) hx hb d_C_buildFromTape_134 (by decide) ?_
              refine n_iadd (a := c9) (b := 1) hx hb d_C_buildFromTape_135 ?_
              refine lv_aload_n hx hb d_C_buildFromTape_136 rfl (lv_at hl 3 rfl) ?_
              refine g_get (C := R_C) (T := T_C) (N := 15) (ci := 7) (v := .ref (ad (1))) hx hb hg i_C hown hK hP 0 (by decide) rfl rfl 0 (by decide) (hg _ k_128) rfl d_C_buildFromTape_137 ?_
              refine c_V (own := R_C) (index := 109) (As := []) (rest := [.int (nI ((c9) + (1))), .ref (ad (1)), .ref (ad (5))]) hx hb hml hown hg hK NXc.same hN.warm (fun _ h => h) hP hS 1 (c_T_length l D cI cC cZ cT ad hI M_11 1 tx1 tl tc (hT1.ft hF tx5 tx1 (by decide))) (tx_lt tx1) (ci := 6) (cfC_T tx1 _) rfl k_179 k_180 k_181 k_2 k_182 0 rfl (by decide +kernel) (by decide) rfl hl.1 (Nat.le_of_ble_eq_true rfl) d_C_buildFromTape_140 (fun v M' H locs hq hP _ _ hS => ?_)
              obtain ⟨rfl, rfl⟩ := hq
              refine W.eq (g2 := F0 m 143 ls [.int (nI (tl)), .int (nI ((c9) + (1))), .ref (ad (1)), .ref (ad (5))]) rfl ?_
              refine c_V (own := R_C) (index := 171) (As := [.ref (ad (1)), .int (nI ((c9) + (1))), .int (nI (tl))]) (rest := []) hx hb hml hown hg hK NXc.same hN.warm (fun _ h => h) hP hS 5 (c_T_putPart l D cI cC cZ cT ad hI M_11 5 tx5 (0 + len s9) (scCo len ch tc s9 c9) hB (1) tx1 (tl) tc (hT1.ft hF tx5 tx1 (by decide)) (c9 + 1) (tl) (by omega) (by omega) (by decide) (by rw [cap5]; omega) (fun i h1 h2 => by unfold scCo; rw [if_neg (by omega)]; congr 1; omega)) (tx_lt tx5) (ci := 6) (cfC_T tx5 _) rfl k_374 k_358 k_359 k_2 k_360 3 rfl (by decide +kernel) (by decide) rfl hl.1 (Nat.le_of_ble_eq_true rfl) d_C_buildFromTape_143 (fun v M_12 H locs hq hP _ _ hS => ?_)
              obtain ⟨rfl, hB, hFx⟩ := hq
              have hF : FT 5 M M_12 := hF.tr hFx
              refine W.eq (g2 := F0 m 146 ls []) rfl ?_
              exact r_v hx hb hr hlocks hP hS (⟨rfl, by rw [Nat.zero_add] at hB; exact hB, hF⟩) d_C_buildFromTape_146
        · exact absurd c_80 (nI_m1 (by omega))
      · exact absurd ⟨c_18, c_31, c_44⟩ hnb

set_option maxHeartbeats 4000000 in
set_option maxRecDepth 100000 in
theorem c_C_buildBesides (l : Launch) (D : va_G) (cI cC cZ cT : ClassId) (ad : Nat → Nat) (hI : GI 144 ad) (M : PM) (n : Nat) (len : Nat → Nat) (ch : Nat → Nat → Nat) (hN7 : CN M n len ch) (a d9 : Nat) (ha : a < n) (hd9 : d9 < n) (p1 : Nat) (hp : p1 ≤ len a ∧ (∀ q, p1 ≤ q → q < len a → ¬ ch a q = 47) ∧ (p1 = 0 ∨ ch a (p1 - 1) = 47)) : MD l D cI cC cZ cT ad y_C_buildBesides b_C_buildBesides 3 none 3 66 [.ref (ad (0)), .ref (ad (9 + 2 * (a))), .ref (ad (9 + 2 * (d9)))] M (fun v M' => v = none ∧ TT M' 5 (p1 + len d9) (scJ0 ch a d9 p1) ∧ FT 5 M M') := by
  refine MC.of (by decide) (Nat.le_of_ble_eq_true rfl) ?_
  intro p e s m below meth c ls hx hb hr hml hown hg hlocks hK hN hP hS hl
  have hown : s.vm.findClass R_C = some m.cls := hown
  have hl : lv_has ls 3 [(0, .ref (ad (0))), (1, .ref (ad (9 + 2 * (a)))), (2, .ref (ad (9 + 2 * (d9))))] := hl
  have hn60 := hN7.1
  have hnm := hN7.2.2.1
  have la := hnm a ha
  have ld := hnm d9 hd9
  have hF := FT.rf 5 M
  have hp1 := hp.1
  refine lv_aload_n hx hb d_C_buildBesides_0 rfl (lv_at hl 0 rfl) ?_
  refine g_get (C := R_C) (T := T_C) (N := 15) (ci := 7) (v := .ref (ad (5))) hx hb hg i_C hown hK hP 0 (by decide) rfl rfl 2 (by decide) (hg _ k_130) rfl d_C_buildBesides_1 ?_
  refine c_V (own := R_C) (index := 113) (As := []) (rest := []) hx hb hml hown hg hK NXc.same hN.warm (fun _ h => h) hP hS 5 (c_T_empty l D cI cC cZ cT ad hI M 5 tx5) (tx_lt tx5) (ci := 6) (cfC_T tx5 _) rfl k_183 k_184 k_185 k_2 k_186 0 rfl (by decide +kernel) (by decide) rfl hl.1 (Nat.le_of_ble_eq_true rfl) d_C_buildBesides_4 (fun v M_1 H locs hq hP _ _ hS => ?_)
  obtain ⟨rfl, eM_1⟩ := hq
  have hB : TT M_1 5 0 (scJ0 ch a d9 p1) := by rw [eM_1]; exact TT.emp _ _ _
  have hF : FT 5 M M_1 := hF.tr (by rw [eM_1]; exact FT.emp _ _ _)
  refine W.eq (g2 := F0 m 7 ls []) rfl ?_
  refine lv_aload_n hx hb d_C_buildBesides_7 rfl (lv_at hl 0 rfl) ?_
  refine g_get (C := R_C) (T := T_C) (N := 15) (ci := 7) (v := .ref (ad (5))) hx hb hg i_C hown hK hP 0 (by decide) rfl rfl 2 (by decide) (hg _ k_130) rfl d_C_buildBesides_8 ?_
  refine lv_aload_n hx hb d_C_buildBesides_11 rfl (lv_at hl 1 rfl) ?_
  refine n_const (k := 0) hx hb d_C_buildBesides_12 (by decide) ?_
  refine lv_aload_n hx hb d_C_buildBesides_13 rfl (lv_at hl 1 rfl) ?_
  refine n_bipush (k := 47) hx hb d_C_buildBesides_14 (by decide) ?_
  refine c_V (own := R_C) (index := 335) (As := [.int (nI (47))]) (rest := [.int (nI (0)), .ref (ad (9 + 2 * (a))), .ref (ad (5))]) hx hb hml hown hg hK NXc.same hN.warm (fun _ h => h) hP hS (9 + 2 * (a)) (c_T_lastPlaceOf l D cI cC cZ cT ad hI M_1 (9 + 2 * a) (txn (by omega)) (len a) (ch a) ((hN7.ft hF (by decide)).2.2.1 a ha).2.2.2 47 (by decide) p1 hp) (tx_lt (txn (by omega))) (ci := 6) (cfC_T (txn (by omega)) _) rfl k_688 k_689 k_690 k_2 k_691 1 rfl (by decide +kernel) (by decide) rfl hl.1 (Nat.le_of_ble_eq_true rfl) d_C_buildBesides_16 (fun v M' H locs hq hP _ _ hS => ?_)
  obtain ⟨rfl, rfl⟩ := hq
  refine W.eq (g2 := F0 m 19 ls [.int (nI p1 - 1), .int (nI (0)), .ref (ad (9 + 2 * (a))), .ref (ad (5))]) rfl ?_
  refine n_const (k := 1) hx hb d_C_buildBesides_19 (by decide) ?_
  refine lv_iadd hx hb d_C_buildBesides_20 ?_
  refine n_top (y := (nI (p1))) (predI p1) ?_
  refine c_V (own := R_C) (index := 171) (As := [.ref (ad (9 + 2 * (a))), .int (nI (0)), .int (nI (p1))]) (rest := []) hx hb hml hown hg hK NXc.same hN.warm (fun _ h => h) hP hS 5 (c_T_putPart l D cI cC cZ cT ad hI M_1 5 tx5 (0) (scJ0 ch a d9 p1) hB (9 + 2 * a) (txn (by omega)) (len a) (ch a) (((hN7.ft hF (by decide)).2.2.1 a ha).2.2.2) (0) (p1) (by omega) (by omega) (tn5 _) (by rw [cap5]; omega) (fun i _ h => by rw [Nat.zero_add, Nat.sub_zero]; unfold scJ0; rw [if_pos h])) (tx_lt tx5) (ci := 6) (cfC_T tx5 _) rfl k_374 k_358 k_359 k_2 k_360 3 rfl (by decide +kernel) (by decide) rfl hl.1 (Nat.le_of_ble_eq_true rfl) d_C_buildBesides_21 (fun v M_2 H locs hq hP _ _ hS => ?_)
  obtain ⟨rfl, hB, hFx⟩ := hq
  have hF : FT 5 M M_2 := hF.tr hFx
  refine W.eq (g2 := F0 m 24 ls []) rfl ?_
  refine lv_aload_n hx hb d_C_buildBesides_24 rfl (lv_at hl 0 rfl) ?_
  refine g_get (C := R_C) (T := T_C) (N := 15) (ci := 7) (v := .ref (ad (5))) hx hb hg i_C hown hK hP 0 (by decide) rfl rfl 2 (by decide) (hg _ k_130) rfl d_C_buildBesides_25 ?_
  refine lv_aload_n hx hb d_C_buildBesides_28 rfl (lv_at hl 2 rfl) ?_
  refine c_V (own := R_C) (index := 186) (As := [.ref (ad (9 + 2 * (d9)))]) (rest := []) hx hb hml hown hg hK NXc.same hN.warm (fun _ h => h) hP hS 5 (c_T_putAll l D cI cC cZ cT ad hI M_2 5 tx5 (0 + (p1 - 0)) (scJ0 ch a d9 p1) hB (9 + 2 * d9) (txn (by omega)) (len d9) (ch d9) (((hN7.ft hF (by decide)).2.2.1 d9 hd9).2.2.2) (tn5 _) (by rw [cap5]; omega) (fun i h => by unfold scJ0; rw [if_neg (by omega)]; congr 1; omega)) (tx_lt tx5) (ci := 6) (cfC_T tx5 _) rfl k_391 k_354 k_355 k_2 k_356 1 rfl (by decide +kernel) (by decide) rfl hl.1 (Nat.le_of_ble_eq_true rfl) d_C_buildBesides_29 (fun v M_3 H locs hq hP _ _ hS => ?_)
  obtain ⟨rfl, hB, hFx⟩ := hq
  have hF : FT 5 M M_3 := hF.tr hFx
  refine W.eq (g2 := F0 m 32 ls []) rfl ?_
  exact r_v hx hb hr hlocks hP hS (⟨rfl, by rw [Nat.zero_add, Nat.sub_zero] at hB; exact hB, hF⟩) d_C_buildBesides_32

set_option maxHeartbeats 4000000 in
set_option maxRecDepth 100000 in
theorem c_C_buildWithin_s (l : Launch) (D : va_G) (cI cC cZ cT : ClassId) (ad : Nat → Nat) (hI : GI 144 ad) (M : PM) (n : Nat) (len : Nat → Nat) (ch : Nat → Nat → Nat) (hN7 : CN M n len ch) (a d9 : Nat) (ha : a < n) (hd9 : d9 < n) (c9 : Nat) (ho : Fst (fun i => ch a i = 35) (len a) (some c9)) : MD l D cI cC cZ cT ad y_C_buildWithin b_C_buildWithin 4 none 3 66 [.ref (ad (0)), .ref (ad (9 + 2 * (a))), .ref (ad (9 + 2 * (d9)))] M (fun v M' => v = none ∧ TT M' 5 (c9 + 1 + len d9) (scJ1 ch a d9 c9) ∧ FT 5 M M') := by
  refine MC.of (by decide) (Nat.le_of_ble_eq_true rfl) ?_
  intro p e s m below meth c ls hx hb hr hml hown hg hlocks hK hN hP hS hl
  have hown : s.vm.findClass R_C = some m.cls := hown
  have hl : lv_has ls 4 [(0, .ref (ad (0))), (1, .ref (ad (9 + 2 * (a)))), (2, .ref (ad (9 + 2 * (d9))))] := hl
  have hn60 := hN7.1
  have hnm := hN7.2.2.1
  have la := hnm a ha
  have ld := hnm d9 hd9
  have hF := FT.rf 5 M
  have hc9 : c9 ≤ len a := by first | exact Nat.le_of_lt ho.1 | omega
  refine lv_aload_n hx hb d_C_buildWithin_0 rfl (lv_at hl 1 rfl) ?_
  refine n_bipush (k := 35) hx hb d_C_buildWithin_1 (by decide) ?_
  refine c_V (own := R_C) (index := 314) (As := [.int (nI (35))]) (rest := []) hx hb hml hown hg hK NXc.same hN.warm (fun _ h => h) hP hS (9 + 2 * (a)) (c_T_firstPlaceOf l D cI cC cZ cT ad hI M (9 + 2 * a) (txn (by omega)) (len a) (ch a) (hnm a ha).2.2.2 35 (by decide) (some c9) ho) (tx_lt (txn (by omega))) (ci := 6) (cfC_T (txn (by omega)) _) rfl k_375 k_376 k_377 k_2 k_378 1 rfl (by decide +kernel) (by decide) rfl hl.1 (Nat.le_of_ble_eq_true rfl) d_C_buildWithin_3 (fun v M' H locs hq hP _ _ hS => ?_)
  obtain ⟨rfl, rfl⟩ := hq
  refine W.eq (g2 := F0 m 6 ls [.int (nI (c9))]) rfl ?_
  refine lv_istore_n (lv' := [(3, .int (nI (c9))), (0, .ref (ad (0))), (1, .ref (ad (9 + 2 * (a)))), (2, .ref (ad (9 + 2 * (d9))))]) hx hb d_C_buildWithin_6 rfl hl (by decide) rfl (fun ls hl => ?_)
  refine lv_aload_n hx hb d_C_buildWithin_7 rfl (lv_at hl 1 rfl) ?_
  refine g_get (C := R_C) (T := T_C) (N := 15) (ci := 7) (v := .ref (ad (5))) hx hb hg i_C hown hK hP 0 (by decide) rfl rfl 2 (by decide) (hg _ k_130) rfl d_C_buildWithin_8 ?_
  refine c_V (own := R_C) (index := 113) (As := []) (rest := []) hx hb hml hown hg hK NXc.same hN.warm (fun _ h => h) hP hS 5 (c_T_empty l D cI cC cZ cT ad hI M 5 tx5) (tx_lt tx5) (ci := 6) (cfC_T tx5 _) rfl k_183 k_184 k_185 k_2 k_186 0 rfl (by decide +kernel) (by decide) rfl hl.1 (Nat.le_of_ble_eq_true rfl) d_C_buildWithin_11 (fun v M_1 H locs hq hP _ _ hS => ?_)
  obtain ⟨rfl, eM_1⟩ := hq
  have hB : TT M_1 5 0 (scJ1 ch a d9 c9) := by rw [eM_1]; exact TT.emp _ _ _
  have hF : FT 5 M M_1 := hF.tr (by rw [eM_1]; exact FT.emp _ _ _)
  refine W.eq (g2 := F0 m 14 ls []) rfl ?_
  refine lv_aload_n hx hb d_C_buildWithin_14 rfl (lv_at hl 1 rfl) ?_
  refine g_get (C := R_C) (T := T_C) (N := 15) (ci := 7) (v := .ref (ad (5))) hx hb hg i_C hown hK hP 0 (by decide) rfl rfl 2 (by decide) (hg _ k_130) rfl d_C_buildWithin_15 ?_
  refine lv_aload_n hx hb d_C_buildWithin_18 rfl (lv_at hl 2 rfl) ?_
  refine n_const (k := 0) hx hb d_C_buildWithin_19 (by decide) ?_
  refine lv_iload_n hx hb d_C_buildWithin_20 rfl (lv_at hl 0 rfl) ?_
  refine lv_iconst (v := -1) hx hb d_C_buildWithin_21 (by decide) ?_
  refine lv_icmp_ne (tgt := 32) hx hb d_C_buildWithin_22 (by decide) (fun c_22 => ?_) (fun c_22 => ?_)
  · refine lv_iload_n hx hb d_C_buildWithin_32 rfl (lv_at hl 0 rfl) ?_
    refine c_V (own := R_C) (index := 171) (As := [.ref (ad (9 + 2 * (a))), .int (nI (0)), .int (nI (c9))]) (rest := []) hx hb hml hown hg hK NXc.same hN.warm (fun _ h => h) hP hS 5 (c_T_putPart l D cI cC cZ cT ad hI M_1 5 tx5 (0) (scJ1 ch a d9 c9) hB (9 + 2 * a) (txn (by omega)) (len a) (ch a) (((hN7.ft hF (by decide)).2.2.1 a ha).2.2.2) (0) (c9) (by omega) (by omega) (tn5 _) (by rw [cap5]; omega) (fun i _ h => by rw [Nat.zero_add, Nat.sub_zero]; unfold scJ1; rw [if_pos (by omega)])) (tx_lt tx5) (ci := 6) (cfC_T tx5 _) rfl k_374 k_358 k_359 k_2 k_360 3 rfl (by decide +kernel) (by decide) rfl hl.1 (Nat.le_of_ble_eq_true rfl) d_C_buildWithin_33 (fun v M_2 H locs hq hP _ _ hS => ?_)
    obtain ⟨rfl, hB, hFx⟩ := hq
    have hF : FT 5 M M_2 := hF.tr hFx
    refine W.eq (g2 := F0 m 36 ls []) rfl ?_
    have hB : TT M_2 5 c9 (scJ1 ch a d9 c9) := by first | (rw [Nat.zero_add, Nat.sub_zero] at hB; exact hB) | (rw [Nat.zero_add, Nat.sub_zero, ← hcl] at hB; exact hB)
    refine lv_aload_n hx hb d_C_buildWithin_36 rfl (lv_at hl 1 rfl) ?_
    refine g_get (C := R_C) (T := T_C) (N := 15) (ci := 7) (v := .ref (ad (5))) hx hb hg i_C hown hK hP 0 (by decide) rfl rfl 2 (by decide) (hg _ k_130) rfl d_C_buildWithin_37 ?_
    refine n_bipush (k := 35) hx hb d_C_buildWithin_40 (by decide) ?_
    refine c_V (own := R_C) (index := 105) (As := [.int (nI (35))]) (rest := []) hx hb hml hown hg hK NXc.same hN.warm (fun _ h => h) hP hS 5 (c_T_put l D cI cC cZ cT ad hI M_2 5 tx5 c9 (scJ1 ch a d9 c9) hB 35 (by decide) (by rw [cap5]; omega)) (tx_lt tx5) (ci := 6) (cfC_T tx5 _) rfl k_293 k_294 k_295 k_2 k_296 1 rfl (by decide +kernel) (by decide) rfl hl.1 (Nat.le_of_ble_eq_true rfl) d_C_buildWithin_42 (fun v M_3 H locs hq hP _ _ hS => ?_)
    obtain ⟨rfl, eM_3⟩ := hq
    rw [show (35 : Nat) = (scJ1 ch a d9 c9) c9 from (by unfold scJ1; rw [if_neg (by omega), if_pos rfl])] at eM_3
    have hB : TT M_3 5 (c9 + 1) (scJ1 ch a d9 c9) := by rw [eM_3]; exact hB.add (by rw [cap5]; omega) (by unfold scJ1; rw [if_neg (by omega), if_pos rfl]; decide)
    have hF : FT 5 M M_3 := hF.tr (by rw [eM_3]; exact FT.add _ _ _ _ _)
    refine W.eq (g2 := F0 m 45 ls []) rfl ?_
    refine lv_aload_n hx hb d_C_buildWithin_45 rfl (lv_at hl 1 rfl) ?_
    refine g_get (C := R_C) (T := T_C) (N := 15) (ci := 7) (v := .ref (ad (5))) hx hb hg i_C hown hK hP 0 (by decide) rfl rfl 2 (by decide) (hg _ k_130) rfl d_C_buildWithin_46 ?_
    refine lv_aload_n hx hb d_C_buildWithin_49 rfl (lv_at hl 3 rfl) ?_
    refine c_V (own := R_C) (index := 186) (As := [.ref (ad (9 + 2 * (d9)))]) (rest := []) hx hb hml hown hg hK NXc.same hN.warm (fun _ h => h) hP hS 5 (c_T_putAll l D cI cC cZ cT ad hI M_3 5 tx5 (c9 + 1) (scJ1 ch a d9 c9) hB (9 + 2 * d9) (txn (by omega)) (len d9) (ch d9) (((hN7.ft hF (by decide)).2.2.1 d9 hd9).2.2.2) (tn5 _) (by rw [cap5]; omega) (fun i h => by unfold scJ1; rw [if_neg (by omega), if_neg (by omega)]; congr 1; omega)) (tx_lt tx5) (ci := 6) (cfC_T tx5 _) rfl k_391 k_354 k_355 k_2 k_356 1 rfl (by decide +kernel) (by decide) rfl hl.1 (Nat.le_of_ble_eq_true rfl) d_C_buildWithin_50 (fun v M_4 H locs hq hP _ _ hS => ?_)
    obtain ⟨rfl, hB, hFx⟩ := hq
    have hF : FT 5 M M_4 := hF.tr hFx
    refine W.eq (g2 := F0 m 53 ls []) rfl ?_
    exact r_v hx hb hr hlocks hP hS (⟨rfl, hB, hF⟩) d_C_buildWithin_53
  · exact absurd c_22 (nI_m1 (by omega))

set_option maxHeartbeats 4000000 in
set_option maxRecDepth 100000 in
theorem c_C_buildWithin_n (l : Launch) (D : va_G) (cI cC cZ cT : ClassId) (ad : Nat → Nat) (hI : GI 144 ad) (M : PM) (n : Nat) (len : Nat → Nat) (ch : Nat → Nat → Nat) (hN7 : CN M n len ch) (a d9 : Nat) (ha : a < n) (hd9 : d9 < n) (c9 : Nat) (hcl : c9 = len a) (ho : Fst (fun i => ch a i = 35) (len a) none) : MD l D cI cC cZ cT ad y_C_buildWithin b_C_buildWithin 4 none 3 66 [.ref (ad (0)), .ref (ad (9 + 2 * (a))), .ref (ad (9 + 2 * (d9)))] M (fun v M' => v = none ∧ TT M' 5 (c9 + 1 + len d9) (scJ1 ch a d9 c9) ∧ FT 5 M M') := by
  refine MC.of (by decide) (Nat.le_of_ble_eq_true rfl) ?_
  intro p e s m below meth c ls hx hb hr hml hown hg hlocks hK hN hP hS hl
  have hown : s.vm.findClass R_C = some m.cls := hown
  have hl : lv_has ls 4 [(0, .ref (ad (0))), (1, .ref (ad (9 + 2 * (a)))), (2, .ref (ad (9 + 2 * (d9))))] := hl
  have hn60 := hN7.1
  have hnm := hN7.2.2.1
  have la := hnm a ha
  have ld := hnm d9 hd9
  have hF := FT.rf 5 M
  have hc9 : c9 ≤ len a := by first | exact Nat.le_of_lt ho.1 | omega
  refine lv_aload_n hx hb d_C_buildWithin_0 rfl (lv_at hl 1 rfl) ?_
  refine n_bipush (k := 35) hx hb d_C_buildWithin_1 (by decide) ?_
  refine c_V (own := R_C) (index := 314) (As := [.int (nI (35))]) (rest := []) hx hb hml hown hg hK NXc.same hN.warm (fun _ h => h) hP hS (9 + 2 * (a)) (c_T_firstPlaceOf l D cI cC cZ cT ad hI M (9 + 2 * a) (txn (by omega)) (len a) (ch a) (hnm a ha).2.2.2 35 (by decide) (none) ho) (tx_lt (txn (by omega))) (ci := 6) (cfC_T (txn (by omega)) _) rfl k_375 k_376 k_377 k_2 k_378 1 rfl (by decide +kernel) (by decide) rfl hl.1 (Nat.le_of_ble_eq_true rfl) d_C_buildWithin_3 (fun v M' H locs hq hP _ _ hS => ?_)
  obtain ⟨rfl, rfl⟩ := hq
  refine W.eq (g2 := F0 m 6 ls [.int (-1)]) rfl ?_
  refine lv_istore_n (lv' := [(3, .int (-1)), (0, .ref (ad (0))), (1, .ref (ad (9 + 2 * (a)))), (2, .ref (ad (9 + 2 * (d9))))]) hx hb d_C_buildWithin_6 rfl hl (by decide) rfl (fun ls hl => ?_)
  refine lv_aload_n hx hb d_C_buildWithin_7 rfl (lv_at hl 1 rfl) ?_
  refine g_get (C := R_C) (T := T_C) (N := 15) (ci := 7) (v := .ref (ad (5))) hx hb hg i_C hown hK hP 0 (by decide) rfl rfl 2 (by decide) (hg _ k_130) rfl d_C_buildWithin_8 ?_
  refine c_V (own := R_C) (index := 113) (As := []) (rest := []) hx hb hml hown hg hK NXc.same hN.warm (fun _ h => h) hP hS 5 (c_T_empty l D cI cC cZ cT ad hI M 5 tx5) (tx_lt tx5) (ci := 6) (cfC_T tx5 _) rfl k_183 k_184 k_185 k_2 k_186 0 rfl (by decide +kernel) (by decide) rfl hl.1 (Nat.le_of_ble_eq_true rfl) d_C_buildWithin_11 (fun v M_1 H locs hq hP _ _ hS => ?_)
  obtain ⟨rfl, eM_1⟩ := hq
  have hB : TT M_1 5 0 (scJ1 ch a d9 c9) := by rw [eM_1]; exact TT.emp _ _ _
  have hF : FT 5 M M_1 := hF.tr (by rw [eM_1]; exact FT.emp _ _ _)
  refine W.eq (g2 := F0 m 14 ls []) rfl ?_
  refine lv_aload_n hx hb d_C_buildWithin_14 rfl (lv_at hl 1 rfl) ?_
  refine g_get (C := R_C) (T := T_C) (N := 15) (ci := 7) (v := .ref (ad (5))) hx hb hg i_C hown hK hP 0 (by decide) rfl rfl 2 (by decide) (hg _ k_130) rfl d_C_buildWithin_15 ?_
  refine lv_aload_n hx hb d_C_buildWithin_18 rfl (lv_at hl 2 rfl) ?_
  refine n_const (k := 0) hx hb d_C_buildWithin_19 (by decide) ?_
  refine lv_iload_n hx hb d_C_buildWithin_20 rfl (lv_at hl 0 rfl) ?_
  refine lv_iconst (v := -1) hx hb d_C_buildWithin_21 (by decide) ?_
  refine lv_icmp_ne (tgt := 32) hx hb d_C_buildWithin_22 (by decide) (fun c_22 => ?_) (fun c_22 => ?_)
  · exact absurd rfl c_22
  · refine lv_aload_n hx hb d_C_buildWithin_25 rfl (lv_at hl 2 rfl) ?_
    refine c_V (own := R_C) (index := 109) (As := []) (rest := [.int (nI (0)), .ref (ad (9 + 2 * (a))), .ref (ad (5))]) hx hb hml hown hg hK NXc.same hN.warm (fun _ h => h) hP hS (9 + 2 * (a)) (c_T_length l D cI cC cZ cT ad hI M_1 (9 + 2 * a) (txn (by omega)) (len a) (ch a) ((hN7.ft hF (by decide)).2.2.1 a ha).2.2.2) (tx_lt (txn (by omega))) (ci := 6) (cfC_T (txn (by omega)) _) rfl k_179 k_180 k_181 k_2 k_182 0 rfl (by decide +kernel) (by decide) rfl hl.1 (Nat.le_of_ble_eq_true rfl) d_C_buildWithin_26 (fun v M' H locs hq hP _ _ hS => ?_)
    obtain ⟨rfl, rfl⟩ := hq
    refine W.eq (g2 := F0 m 29 ls [.int (nI (len a)), .int (nI (0)), .ref (ad (9 + 2 * (a))), .ref (ad (5))]) rfl ?_
    refine lv_goto (tgt := 33) hx hb d_C_buildWithin_29 (by decide) ?_
    refine c_V (own := R_C) (index := 171) (As := [.ref (ad (9 + 2 * (a))), .int (nI (0)), .int (nI (len a))]) (rest := []) hx hb hml hown hg hK NXc.same hN.warm (fun _ h => h) hP hS 5 (c_T_putPart l D cI cC cZ cT ad hI M_1 5 tx5 (0) (scJ1 ch a d9 c9) hB (9 + 2 * a) (txn (by omega)) (len a) (ch a) (((hN7.ft hF (by decide)).2.2.1 a ha).2.2.2) (0) (len a) (by omega) (by omega) (tn5 _) (by rw [cap5]; omega) (fun i _ h => by rw [Nat.zero_add, Nat.sub_zero]; unfold scJ1; rw [if_pos (by omega)])) (tx_lt tx5) (ci := 6) (cfC_T tx5 _) rfl k_374 k_358 k_359 k_2 k_360 3 rfl (by decide +kernel) (by decide) rfl hl.1 (Nat.le_of_ble_eq_true rfl) d_C_buildWithin_33 (fun v M_2 H locs hq hP _ _ hS => ?_)
    obtain ⟨rfl, hB, hFx⟩ := hq
    have hF : FT 5 M M_2 := hF.tr hFx
    refine W.eq (g2 := F0 m 36 ls []) rfl ?_
    have hB : TT M_2 5 c9 (scJ1 ch a d9 c9) := by first | (rw [Nat.zero_add, Nat.sub_zero] at hB; exact hB) | (rw [Nat.zero_add, Nat.sub_zero, ← hcl] at hB; exact hB)
    refine lv_aload_n hx hb d_C_buildWithin_36 rfl (lv_at hl 1 rfl) ?_
    refine g_get (C := R_C) (T := T_C) (N := 15) (ci := 7) (v := .ref (ad (5))) hx hb hg i_C hown hK hP 0 (by decide) rfl rfl 2 (by decide) (hg _ k_130) rfl d_C_buildWithin_37 ?_
    refine n_bipush (k := 35) hx hb d_C_buildWithin_40 (by decide) ?_
    refine c_V (own := R_C) (index := 105) (As := [.int (nI (35))]) (rest := []) hx hb hml hown hg hK NXc.same hN.warm (fun _ h => h) hP hS 5 (c_T_put l D cI cC cZ cT ad hI M_2 5 tx5 c9 (scJ1 ch a d9 c9) hB 35 (by decide) (by rw [cap5]; omega)) (tx_lt tx5) (ci := 6) (cfC_T tx5 _) rfl k_293 k_294 k_295 k_2 k_296 1 rfl (by decide +kernel) (by decide) rfl hl.1 (Nat.le_of_ble_eq_true rfl) d_C_buildWithin_42 (fun v M_3 H locs hq hP _ _ hS => ?_)
    obtain ⟨rfl, eM_3⟩ := hq
    rw [show (35 : Nat) = (scJ1 ch a d9 c9) c9 from (by unfold scJ1; rw [if_neg (by omega), if_pos rfl])] at eM_3
    have hB : TT M_3 5 (c9 + 1) (scJ1 ch a d9 c9) := by rw [eM_3]; exact hB.add (by rw [cap5]; omega) (by unfold scJ1; rw [if_neg (by omega), if_pos rfl]; decide)
    have hF : FT 5 M M_3 := hF.tr (by rw [eM_3]; exact FT.add _ _ _ _ _)
    refine W.eq (g2 := F0 m 45 ls []) rfl ?_
    refine lv_aload_n hx hb d_C_buildWithin_45 rfl (lv_at hl 1 rfl) ?_
    refine g_get (C := R_C) (T := T_C) (N := 15) (ci := 7) (v := .ref (ad (5))) hx hb hg i_C hown hK hP 0 (by decide) rfl rfl 2 (by decide) (hg _ k_130) rfl d_C_buildWithin_46 ?_
    refine lv_aload_n hx hb d_C_buildWithin_49 rfl (lv_at hl 3 rfl) ?_
    refine c_V (own := R_C) (index := 186) (As := [.ref (ad (9 + 2 * (d9)))]) (rest := []) hx hb hml hown hg hK NXc.same hN.warm (fun _ h => h) hP hS 5 (c_T_putAll l D cI cC cZ cT ad hI M_3 5 tx5 (c9 + 1) (scJ1 ch a d9 c9) hB (9 + 2 * d9) (txn (by omega)) (len d9) (ch d9) (((hN7.ft hF (by decide)).2.2.1 d9 hd9).2.2.2) (tn5 _) (by rw [cap5]; omega) (fun i h => by unfold scJ1; rw [if_neg (by omega), if_neg (by omega)]; congr 1; omega)) (tx_lt tx5) (ci := 6) (cfC_T tx5 _) rfl k_391 k_354 k_355 k_2 k_356 1 rfl (by decide +kernel) (by decide) rfl hl.1 (Nat.le_of_ble_eq_true rfl) d_C_buildWithin_50 (fun v M_4 H locs hq hP _ _ hS => ?_)
    obtain ⟨rfl, hB, hFx⟩ := hq
    have hF : FT 5 M M_4 := hF.tr hFx
    refine W.eq (g2 := F0 m 53 ls []) rfl ?_
    exact r_v hx hb hr hlocks hP hS (⟨rfl, hB, hF⟩) d_C_buildWithin_53
