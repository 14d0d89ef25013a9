set_option maxHeartbeats 4000000 in
set_option maxRecDepth 100000 in
theorem x_C_type_1 (l : Launch) (D : va_G) (cI cC cZ cT : ClassId) (ad : Nat → Nat) (hI : GI 144 ad) (hlT : l.stackTraces = false) (M : PM) (x : Int32) (hbad : ¬ ∃ c, 33 ≤ c ∧ c ≤ 126 ∧ x = nI c) : MX l D cI cC cZ cT ad y_C_type b_C_type 2 (some .int) 6 90 [.ref (ad (0)), .int (x)] M "java/lang/IllegalArgumentException" (fun M' => M = M') := by
  refine MX.of (by decide) (Nat.le_of_ble_eq_true rfl) ?_
  intro p e s m below meth c ls hx hb hr hml hown hg hlocks hK hN hX hTb hP hS hl
  have hown : s.vm.findClass R_C = some m.cls := hown
  have hl : lv_has ls 2 [(0, .ref (ad (0))), (1, .int (x))] := hl
  refine lv_iload_n hx hb d_C_type_0 rfl (lv_at hl 1 rfl) ?_
  refine n_bipush (k := 33) hx hb d_C_type_1 (by decide) ?_
  refine lv_icmp_lt (tgt := 12) hx hb d_C_type_3 (by decide) (fun c_3 => ?_) (fun c_3 => ?_)
  · exact t_S hx hb hlT xat_IAE sx_91 hown hg hX hTb hlocks (hl.1.trans hml.symm) hP hS (rfl) (by decide) (Nat.le_of_ble_eq_true rfl) d_C_type_12 d_C_type_15 d_C_type_16 d_C_type_18 d_C_type_21
  · refine lv_iload_n hx hb d_C_type_6 rfl (lv_at hl 1 rfl) ?_
    refine n_bipush (k := 126) hx hb d_C_type_7 (by decide) ?_
    refine lv_icmp_le (tgt := 22) hx hb d_C_type_9 (by decide) (fun c_9 => ?_) (fun c_9 => ?_)
    · exact absurd (rng (a := 33) (by decide) c_3 c_9 (by decide)) hbad
    · exact t_S hx hb hlT xat_IAE sx_91 hown hg hX hTb hlocks (hl.1.trans hml.symm) hP hS (rfl) (by decide) (Nat.le_of_ble_eq_true rfl) d_C_type_12 d_C_type_15 d_C_type_16 d_C_type_18 d_C_type_21

set_option maxHeartbeats 4000000 in
set_option maxRecDepth 100000 in
theorem x_C_type_2 (l : Launch) (D : va_G) (cI cC cZ cT : ClassId) (ad : Nat → Nat) (hI : GI 144 ad) (hlT : l.stackTraces = false) (M : PM) (tl : Nat) (tc : Nat → Nat) (hT1 : TT M 1 tl tc) (c9 : Nat) (h1 : 33 ≤ c9) (h2 : c9 ≤ 126) (h3 : tl = 24) : MX l D cI cC cZ cT ad y_C_type b_C_type 2 (some .int) 6 90 [.ref (ad (0)), .int (nI (c9))] M "java/lang/UnsupportedOperationException" (fun M' => M = M') := by
  refine MX.of (by decide) (Nat.le_of_ble_eq_true rfl) ?_
  intro p e s m below meth c ls hx hb hr hml hown hg hlocks hK hN hX hTb hP hS hl
  have hown : s.vm.findClass R_C = some m.cls := hown
  have hl : lv_has ls 2 [(0, .ref (ad (0))), (1, .int (nI (c9)))] := hl
  refine lv_iload_n hx hb d_C_type_0 rfl (lv_at hl 1 rfl) ?_
  refine n_bipush (k := 33) hx hb d_C_type_1 (by decide) ?_
  refine n_lt (a := c9) (b := 33) (tgt := 12) hx hb d_C_type_3 (by decide) (by omega) (by omega) (fun c_3 => ?_) (fun c_3 => ?_)
  · exact absurd c_3 (by omega)
  · refine lv_iload_n hx hb d_C_type_6 rfl (lv_at hl 1 rfl) ?_
    refine n_bipush (k := 126) hx hb d_C_type_7 (by decide) ?_
    refine n_le (a := c9) (b := 126) (tgt := 22) hx hb d_C_type_9 (by decide) (by omega) (by omega) (fun c_9 => ?_) (fun c_9 => ?_)
    · refine lv_aload_n hx hb d_C_type_22 rfl (lv_at hl 0 rfl) ?_
      refine g_get (C := R_C) (T := T_C) (N := 15) (ci := 7) (v := .ref (ad (1))) hx hb hg i_C hown hK hP 0 (by decide) rfl rfl 0 (by decide) (hg _ k_128) rfl d_C_type_23 ?_
      refine c_V (own := R_C) (index := 96) (As := []) (rest := []) hx hb hml hown hg hK NXc.same hN.warm (fun _ h => h) hP hS 1 (c_T_isFull l D cI cC cZ cT ad hI M 1 tx1 tl tc hT1 true ⟨fun _ => by rw [h3]; decide, fun _ => rfl⟩) (tx_lt tx1) (ci := 6) (cfC_T tx1 _) rfl k_273 k_274 k_275 k_2 k_276 0 rfl (by decide +kernel) (by decide) rfl hl.1 (Nat.le_of_ble_eq_true rfl) d_C_type_26 (fun v M' H locs hq hP _ _ hS => ?_)
      obtain ⟨rfl, rfl⟩ := hq
      refine W.eq (g2 := F0 m 29 ls [.int (bI (true))]) rfl ?_
      refine z_eq (t := true) (tgt := 42) hx hb d_C_type_29 (by decide) (fun h9 => absurd h9 (by decide)) (fun _ => ?_)
      exact t_S hx hb hlT xat_UOE sx_102 hown hg hX hTb hlocks (hl.1.trans hml.symm) hP hS (rfl) (by decide) (Nat.le_of_ble_eq_true rfl) d_C_type_32 d_C_type_35 d_C_type_36 d_C_type_38 d_C_type_41
    · exact absurd c_9 (by omega)

set_option maxHeartbeats 4000000 in
set_option maxRecDepth 100000 in
theorem c_C_type (l : Launch) (D : va_G) (cI cC cZ cT : ClassId) (ad : Nat → Nat) (hI : GI 144 ad) (M : PM) (tl : Nat) (tc : Nat → Nat) (hT1 : TT M 1 tl tc) (c9 : Nat) (h1 : 33 ≤ c9) (h2 : c9 ≤ 126) (h3 : tl < 24) : MD l D cI cC cZ cT ad y_C_type b_C_type 2 (some .int) 1 21 [.ref (ad (0)), .int (nI (c9))] M (fun v M' => v = some (.int (nI (tl + 1))) ∧ M' = pu (pu M 2 tl (nI c9)) 1 1 (nI (tl + 1))) := by
  refine MC.of (by decide) (Nat.le_of_ble_eq_true rfl) ?_
  intro p e s m below meth c ls hx hb hr hml hown hg hlocks hK hN hP hS hl
  have hown : s.vm.findClass R_C = some m.cls := hown
  have hl : lv_has ls 2 [(0, .ref (ad (0))), (1, .int (nI (c9)))] := hl
  refine lv_iload_n hx hb d_C_type_0 rfl (lv_at hl 1 rfl) ?_
  refine n_bipush (k := 33) hx hb d_C_type_1 (by decide) ?_
  refine n_lt (a := c9) (b := 33) (tgt := 12) hx hb d_C_type_3 (by decide) (by omega) (by omega) (fun c_3 => ?_) (fun c_3 => ?_)
  · exact absurd c_3 (by omega)
  · refine lv_iload_n hx hb d_C_type_6 rfl (lv_at hl 1 rfl) ?_
    refine n_bipush (k := 126) hx hb d_C_type_7 (by decide) ?_
    refine n_le (a := c9) (b := 126) (tgt := 22) hx hb d_C_type_9 (by decide) (by omega) (by omega) (fun c_9 => ?_) (fun c_9 => ?_)
    · refine lv_aload_n hx hb d_C_type_22 rfl (lv_at hl 0 rfl) ?_
      refine g_get (C := R_C) (T := T_C) (N := 15) (ci := 7) (v := .ref (ad (1))) hx hb hg i_C hown hK hP 0 (by decide) rfl rfl 0 (by decide) (hg _ k_128) rfl d_C_type_23 ?_
      refine c_V (own := R_C) (index := 96) (As := []) (rest := []) hx hb hml hown hg hK NXc.same hN.warm (fun _ h => h) hP hS 1 (c_T_isFull l D cI cC cZ cT ad hI M 1 tx1 tl tc hT1 false ⟨fun h => (by cases h), fun h => by rw [cap1] at h; omega⟩) (tx_lt tx1) (ci := 6) (cfC_T tx1 _) rfl k_273 k_274 k_275 k_2 k_276 0 rfl (by decide +kernel) (by decide) rfl hl.1 (Nat.le_of_ble_eq_true rfl) d_C_type_26 (fun v M' H locs hq hP _ _ hS => ?_)
      obtain ⟨rfl, rfl⟩ := hq
      refine W.eq (g2 := F0 m 29 ls [.int (bI (false))]) rfl ?_
      refine z_eq (t := false) (tgt := 42) hx hb d_C_type_29 (by decide) (fun _ => ?_) (fun h9 => absurd h9 (by decide))
      refine lv_aload_n hx hb d_C_type_42 rfl (lv_at hl 0 rfl) ?_
      refine g_get (C := R_C) (T := T_C) (N := 15) (ci := 7) (v := .ref (ad (1))) hx hb hg i_C hown hK hP 0 (by decide) rfl rfl 0 (by decide) (hg _ k_128) rfl d_C_type_43 ?_
      refine lv_iload_n hx hb d_C_type_46 rfl (lv_at hl 1 rfl) ?_
      refine lv_i2c (v := nI (c9)) hx hb d_C_type_47 (nb16 _ (by omega)) ?_
      refine c_V (own := R_C) (index := 105) (As := [.int (nI (c9))]) (rest := []) hx hb hml hown hg hK NXc.same hN.warm (fun _ h => h) hP hS 1 (c_T_put l D cI cC cZ cT ad hI M 1 tx1 tl tc hT1 c9 (by omega) (by rw [cap1]; omega)) (tx_lt tx1) (ci := 6) (cfC_T tx1 _) rfl k_293 k_294 k_295 k_2 k_296 1 rfl (by decide +kernel) (by decide) rfl hl.1 (Nat.le_of_ble_eq_true rfl) d_C_type_48 (fun v M_1 H locs hq hP _ _ hS => ?_)
      obtain ⟨rfl, eM_1⟩ := hq
      refine W.eq (g2 := F0 m 51 ls []) rfl ?_
      refine lv_aload_n hx hb d_C_type_51 rfl (lv_at hl 0 rfl) ?_
      refine g_get (C := R_C) (T := T_C) (N := 15) (ci := 7) (v := .ref (ad (1))) hx hb hg i_C hown hK hP 0 (by decide) rfl rfl 0 (by decide) (hg _ k_128) rfl d_C_type_52 ?_
      refine c_V (own := R_C) (index := 109) (As := []) (rest := []) hx hb hml hown hg hK NXc.same hN.warm (fun _ h => h) hP hS 1 (c_T_length l D cI cC cZ cT ad hI M_1 1 tx1 (tl + 1) (apC tc tl c9) (by rw [eM_1]; exact hT1.ap h3 (by omega))) (tx_lt tx1) (ci := 6) (cfC_T tx1 _) rfl k_179 k_180 k_181 k_2 k_182 0 rfl (by decide +kernel) (by decide) rfl hl.1 (Nat.le_of_ble_eq_true rfl) d_C_type_55 (fun v M' H locs hq hP _ _ hS => ?_)
      obtain ⟨rfl, rfl⟩ := hq
      refine W.eq (g2 := F0 m 58 ls [.int (nI (tl + 1))]) rfl ?_
      exact r_i hx hb hr hlocks hP hS (⟨rfl, eM_1⟩) d_C_type_58
    · exact absurd c_9 (by omega)

set_option maxHeartbeats 4000000 in
set_option maxRecDepth 100000 in
theorem c_C_clear (l : Launch) (D : va_G) (cI cC cZ cT : ClassId) (ad : Nat → Nat) (hI : GI 144 ad) (M : PM) (tl : Nat) (tc : Nat → Nat) (hT1 : TT M 1 tl tc) : MD l D cI cC cZ cT ad y_C_clear b_C_clear 2 (some .int) 1 20 [.ref (ad (0))] M (fun v M' => v = some (.int (nI tl)) ∧ M' = pu M 1 1 (nI 0)) := by
  refine MC.of (by decide) (Nat.le_of_ble_eq_true rfl) ?_
  intro p e s m below meth c ls hx hb hr hml hown hg hlocks hK hN hP hS hl
  have hown : s.vm.findClass R_C = some m.cls := hown
  have hl : lv_has ls 2 [(0, .ref (ad (0)))] := hl
  refine lv_aload_n hx hb d_C_clear_0 rfl (lv_at hl 0 rfl) ?_
  refine g_get (C := R_C) (T := T_C) (N := 15) (ci := 7) (v := .ref (ad (1))) hx hb hg i_C hown hK hP 0 (by decide) rfl rfl 0 (by decide) (hg _ k_128) rfl d_C_clear_1 ?_
  refine c_V (own := R_C) (index := 109) (As := []) (rest := []) hx hb hml hown hg hK NXc.same hN.warm (fun _ h => h) hP hS 1 (c_T_length l D cI cC cZ cT ad hI M 1 tx1 tl tc hT1) (tx_lt tx1) (ci := 6) (cfC_T tx1 _) rfl k_179 k_180 k_181 k_2 k_182 0 rfl (by decide +kernel) (by decide) rfl hl.1 (Nat.le_of_ble_eq_true rfl) d_C_clear_4 (fun v M' H locs hq hP _ _ hS => ?_)
  obtain ⟨rfl, rfl⟩ := hq
  refine W.eq (g2 := F0 m 7 ls [.int (nI (tl))]) rfl ?_
  refine lv_istore_n (lv' := [(1, .int (nI (tl))), (0, .ref (ad (0)))]) hx hb d_C_clear_7 rfl hl (by decide) rfl (fun ls hl => ?_)
  refine lv_aload_n hx hb d_C_clear_8 rfl (lv_at hl 1 rfl) ?_
  refine g_get (C := R_C) (T := T_C) (N := 15) (ci := 7) (v := .ref (ad (1))) hx hb hg i_C hown hK hP 0 (by decide) rfl rfl 0 (by decide) (hg _ k_128) rfl d_C_clear_9 ?_
  refine c_V (own := R_C) (index := 113) (As := []) (rest := []) hx hb hml hown hg hK NXc.same hN.warm (fun _ h => h) hP hS 1 (c_T_empty l D cI cC cZ cT ad hI M 1 tx1) (tx_lt tx1) (ci := 6) (cfC_T tx1 _) rfl k_183 k_184 k_185 k_2 k_186 0 rfl (by decide +kernel) (by decide) rfl hl.1 (Nat.le_of_ble_eq_true rfl) d_C_clear_12 (fun v M_1 H locs hq hP _ _ hS => ?_)
  obtain ⟨rfl, eM_1⟩ := hq
  refine W.eq (g2 := F0 m 15 ls []) rfl ?_
  refine lv_iload_n hx hb d_C_clear_15 rfl (lv_at hl 0 rfl) ?_
  exact r_i hx hb hr hlocks hP hS (⟨rfl, eM_1⟩) d_C_clear_16

set_option maxHeartbeats 4000000 in
set_option maxRecDepth 100000 in
theorem x_C_name_1 (l : Launch) (D : va_G) (cI cC cZ cT : ClassId) (ad : Nat → Nat) (hI : GI 144 ad) (hlT : l.stackTraces = false) (M : PM) (tl : Nat) (tc : Nat → Nat) (hT1 : TT M 1 tl tc) (h0 : tl = 0) : MX l D cI cC cZ cT ad y_C_name b_C_name 2 (some .int) 7 110 [.ref (ad (0))] M "java/lang/IllegalStateException" (fun M' => M = M') := by
  refine MX.of (by decide) (Nat.le_of_ble_eq_true rfl) ?_
  intro p e s m below meth c ls hx hb hr hml hown hg hlocks hK hN hX hTb hP hS hl
  have hown : s.vm.findClass R_C = some m.cls := hown
  have hl : lv_has ls 2 [(0, .ref (ad (0)))] := hl
  refine lv_aload_n hx hb d_C_name_0 rfl (lv_at hl 0 rfl) ?_
  exact x_V (own := R_C) (index := 116) (As := []) (rest := []) hx hb hml hown hg hK hN hX hTb hlocks hP hS 0 (x_C_rqt l D cI cC cZ cT ad hI hlT M tl tc hT1 h0) (by decide) (ci := 7) rfl rfl k_305 k_307 k_p1 k_1 k_308 0 rfl (by decide +kernel) (by decide) rfl hl.1 (Nat.le_of_ble_eq_true rfl) d_C_name_1 (fun _ h => h)

set_option maxHeartbeats 4000000 in
set_option maxRecDepth 100000 in
theorem x_C_name_2 (l : Launch) (D : va_G) (cI cC cZ cT : ClassId) (ad : Nat → Nat) (hI : GI 144 ad) (hlT : l.stackTraces = false) (M : PM) (n : Nat) (len : Nat → Nat) (ch : Nat → Nat → Nat) (hN7 : CN M n len ch) (tl : Nat) (tc : Nat → Nat) (hT1 : TT M 1 tl tc) (h0 : 0 < tl) (ho : Fst (sameT len ch tl tc) n none) (hn9 : n = 60) : MX l D cI cC cZ cT ad y_C_name b_C_name 2 (some .int) 7 112 [.ref (ad (0))] M "java/lang/UnsupportedOperationException" (fun M' => M = M') := by
  refine MX.of (by decide) (Nat.le_of_ble_eq_true rfl) ?_
  intro p e s m below meth c ls hx hb hr hml hown hg hlocks hK hN hX hTb hP hS hl
  have hown : s.vm.findClass R_C = some m.cls := hown
  have hl : lv_has ls 2 [(0, .ref (ad (0)))] := hl
  have htl := hT1.1
  rw [cap1] at htl
  refine lv_aload_n hx hb d_C_name_0 rfl (lv_at hl 0 rfl) ?_
  refine c_V (own := R_C) (index := 116) (As := []) (rest := []) hx hb hml hown hg hK NXc.same hN.warm (fun _ h => h) hP hS 0 (c_C_rqt l D cI cC cZ cT ad hI M tl tc hT1 h0) (by decide) (ci := 7) rfl rfl k_305 k_307 k_p1 k_1 k_308 0 rfl (by decide +kernel) (by decide) rfl hl.1 (Nat.le_of_ble_eq_true rfl) d_C_name_1 (fun v M' H locs hq hP _ _ hS => ?_)
  obtain ⟨rfl, rfl⟩ := hq
  refine W.eq (g2 := F0 m 4 ls []) rfl ?_
  refine lv_aload_n hx hb d_C_name_4 rfl (lv_at hl 0 rfl) ?_
  refine lv_aload_n hx hb d_C_name_5 rfl (lv_at hl 0 rfl) ?_
  refine g_get (C := R_C) (T := T_C) (N := 15) (ci := 7) (v := .ref (ad (1))) hx hb hg i_C hown hK hP 0 (by decide) rfl rfl 0 (by decide) (hg _ k_128) rfl d_C_name_6 ?_
  exact x_V (own := R_C) (index := 119) (As := [.ref (ad (1))]) (rest := []) hx hb hml hown hg hK hN hX hTb hlocks hP hS 0 (x_C_nof l D cI cC cZ cT ad hI hlT M n len ch hN7 1 tx1 (by decide) (tl) tc hT1 ho (by omega)) (by decide) (ci := 7) rfl rfl k_329 k_331 k_p2 k_1 k_332 1 rfl (by decide +kernel) (by decide) rfl hl.1 (Nat.le_of_ble_eq_true rfl) d_C_name_9 (fun _ h => h)

set_option maxHeartbeats 4000000 in
set_option maxRecDepth 100000 in
theorem c_C_name_o (l : Launch) (D : va_G) (cI cC cZ cT : ClassId) (ad : Nat → Nat) (hI : GI 144 ad) (M : PM) (n : Nat) (len : Nat → Nat) (ch : Nat → Nat → Nat) (hN7 : CN M n len ch) (tl : Nat) (tc : Nat → Nat) (hT1 : TT M 1 tl tc) (h0 : 0 < tl) (k9 : Nat) (ho : Fst (sameT len ch tl tc) n (some k9)) : MD l D cI cC cZ cT ad y_C_name b_C_name 2 (some .int) 4 88 [.ref (ad (0))] M (fun v M' => v = some (.int (nI k9)) ∧ M' = pu M 1 1 (nI 0)) := by
  refine MC.of (by decide) (Nat.le_of_ble_eq_true rfl) ?_
  intro p e s m below meth c ls hx hb hr hml hown hg hlocks hK hN hP hS hl
  have hown : s.vm.findClass R_C = some m.cls := hown
  have hl : lv_has ls 2 [(0, .ref (ad (0)))] := hl
  have htl := hT1.1
  rw [cap1] at htl
  refine lv_aload_n hx hb d_C_name_0 rfl (lv_at hl 0 rfl) ?_
  refine c_V (own := R_C) (index := 116) (As := []) (rest := []) hx hb hml hown hg hK NXc.same hN.warm (fun _ h => h) hP hS 0 (c_C_rqt l D cI cC cZ cT ad hI M tl tc hT1 h0) (by decide) (ci := 7) rfl rfl k_305 k_307 k_p1 k_1 k_308 0 rfl (by decide +kernel) (by decide) rfl hl.1 (Nat.le_of_ble_eq_true rfl) d_C_name_1 (fun v M' H locs hq hP _ _ hS => ?_)
  obtain ⟨rfl, rfl⟩ := hq
  refine W.eq (g2 := F0 m 4 ls []) rfl ?_
  refine lv_aload_n hx hb d_C_name_4 rfl (lv_at hl 0 rfl) ?_
  refine lv_aload_n hx hb d_C_name_5 rfl (lv_at hl 0 rfl) ?_
  refine g_get (C := R_C) (T := T_C) (N := 15) (ci := 7) (v := .ref (ad (1))) hx hb hg i_C hown hK hP 0 (by decide) rfl rfl 0 (by decide) (hg _ k_128) rfl d_C_name_6 ?_
  refine c_V (own := R_C) (index := 119) (As := [.ref (ad (1))]) (rest := []) hx hb hml hown hg hK NXc.same hN.warm (fun _ h => h) hP hS 0 (c_C_nof_o l D cI cC cZ cT ad hI M n len ch hN7 1 tx1 (by decide) (tl) tc hT1 k9 ho) (by decide) (ci := 7) rfl rfl k_329 k_331 k_p2 k_1 k_332 1 rfl (by decide +kernel) (by decide) rfl hl.1 (Nat.le_of_ble_eq_true rfl) d_C_name_9 (fun v M' H locs hq hP _ _ hS => ?_)
  obtain ⟨rfl, rfl⟩ := hq
  refine W.eq (g2 := F0 m 12 ls [.int (nI (k9))]) rfl ?_
  refine lv_istore_n (lv' := [(1, .int (nI (k9))), (0, .ref (ad (0)))]) hx hb d_C_name_12 rfl hl (by decide) rfl (fun ls hl => ?_)
  refine lv_aload_n hx hb d_C_name_13 rfl (lv_at hl 1 rfl) ?_
  refine g_get (C := R_C) (T := T_C) (N := 15) (ci := 7) (v := .ref (ad (1))) hx hb hg i_C hown hK hP 0 (by decide) rfl rfl 0 (by decide) (hg _ k_128) rfl d_C_name_14 ?_
  refine c_V (own := R_C) (index := 113) (As := []) (rest := []) hx hb hml hown hg hK NXc.same hN.warm (fun _ h => h) hP hS 1 (c_T_empty l D cI cC cZ cT ad hI M 1 tx1) (tx_lt tx1) (ci := 6) (cfC_T tx1 _) rfl k_183 k_184 k_185 k_2 k_186 0 rfl (by decide +kernel) (by decide) rfl hl.1 (Nat.le_of_ble_eq_true rfl) d_C_name_17 (fun v M_1 H locs hq hP _ _ hS => ?_)
  obtain ⟨rfl, eM_1⟩ := hq
  refine W.eq (g2 := F0 m 20 ls []) rfl ?_
  refine lv_iload_n hx hb d_C_name_20 rfl (lv_at hl 0 rfl) ?_
  exact r_i hx hb hr hlocks hP hS (⟨rfl, eM_1⟩) d_C_name_21

set_option maxHeartbeats 4000000 in
set_option maxRecDepth 100000 in
theorem c_C_name_n (l : Launch) (D : va_G) (cI cC cZ cT : ClassId) (ad : Nat → Nat) (hI : GI 144 ad) (M : PM) (n : Nat) (len : Nat → Nat) (ch : Nat → Nat → Nat) (hN7 : CN M n len ch) (tl : Nat) (tc : Nat → Nat) (hT1 : TT M 1 tl tc) (h0 : 0 < tl) (ho : Fst (sameT len ch tl tc) n none) (hn9 : n < 60) : MD l D cI cC cZ cT ad y_C_name b_C_name 2 (some .int) 5 110 [.ref (ad (0))] M (fun v M' => v = some (.int (nI n)) ∧ ∃ M0, NAd M M0 n tl tc ∧ M' = pu M0 1 1 (nI 0)) := by
  refine MC.of (by decide) (Nat.le_of_ble_eq_true rfl) ?_
  intro p e s m below meth c ls hx hb hr hml hown hg hlocks hK hN hP hS hl
  have hown : s.vm.findClass R_C = some m.cls := hown
  have hl : lv_has ls 2 [(0, .ref (ad (0)))] := hl
  have htl := hT1.1
  rw [cap1] at htl
  refine lv_aload_n hx hb d_C_name_0 rfl (lv_at hl 0 rfl) ?_
  refine c_V (own := R_C) (index := 116) (As := []) (rest := []) hx hb hml hown hg hK NXc.same hN.warm (fun _ h => h) hP hS 0 (c_C_rqt l D cI cC cZ cT ad hI M tl tc hT1 h0) (by decide) (ci := 7) rfl rfl k_305 k_307 k_p1 k_1 k_308 0 rfl (by decide +kernel) (by decide) rfl hl.1 (Nat.le_of_ble_eq_true rfl) d_C_name_1 (fun v M' H locs hq hP _ _ hS => ?_)
  obtain ⟨rfl, rfl⟩ := hq
  refine W.eq (g2 := F0 m 4 ls []) rfl ?_
  refine lv_aload_n hx hb d_C_name_4 rfl (lv_at hl 0 rfl) ?_
  refine lv_aload_n hx hb d_C_name_5 rfl (lv_at hl 0 rfl) ?_
  refine g_get (C := R_C) (T := T_C) (N := 15) (ci := 7) (v := .ref (ad (1))) hx hb hg i_C hown hK hP 0 (by decide) rfl rfl 0 (by decide) (hg _ k_128) rfl d_C_name_6 ?_
  refine c_V (own := R_C) (index := 119) (As := [.ref (ad (1))]) (rest := []) hx hb hml hown hg hK NXc.same hN.warm (fun _ h => h) hP hS 0 (c_C_nof_n l D cI cC cZ cT ad hI M n len ch hN7 1 tx1 (by decide) (tl) tc hT1 ho (by omega) hn9) (by decide) (ci := 7) rfl rfl k_329 k_331 k_p2 k_1 k_332 1 rfl (by decide +kernel) (by decide) rfl hl.1 (Nat.le_of_ble_eq_true rfl) d_C_name_9 (fun v M_1 H locs hq hP _ _ hS => ?_)
  obtain ⟨rfl, hAd⟩ := hq
  refine W.eq (g2 := F0 m 12 ls [.int (nI (n))]) rfl ?_
  refine lv_istore_n (lv' := [(1, .int (nI (n))), (0, .ref (ad (0)))]) hx hb d_C_name_12 rfl hl (by decide) rfl (fun ls hl => ?_)
  refine lv_aload_n hx hb d_C_name_13 rfl (lv_at hl 1 rfl) ?_
  refine g_get (C := R_C) (T := T_C) (N := 15) (ci := 7) (v := .ref (ad (1))) hx hb hg i_C hown hK hP 0 (by decide) rfl rfl 0 (by decide) (hg _ k_128) rfl d_C_name_14 ?_
  refine c_V (own := R_C) (index := 113) (As := []) (rest := []) hx hb hml hown hg hK NXc.same hN.warm (fun _ h => h) hP hS 1 (c_T_empty l D cI cC cZ cT ad hI M_1 1 tx1) (tx_lt tx1) (ci := 6) (cfC_T tx1 _) rfl k_183 k_184 k_185 k_2 k_186 0 rfl (by decide +kernel) (by decide) rfl hl.1 (Nat.le_of_ble_eq_true rfl) d_C_name_17 (fun v M_2 H locs hq hP _ _ hS => ?_)
  obtain ⟨rfl, eM_2⟩ := hq
  refine W.eq (g2 := F0 m 20 ls []) rfl ?_
  refine lv_iload_n hx hb d_C_name_20 rfl (lv_at hl 0 rfl) ?_
  exact r_i hx hb hr hlocks hP hS (⟨rfl, _, hAd, eM_2⟩) d_C_name_21

set_option maxHeartbeats 4000000 in
set_option maxRecDepth 100000 in
theorem x_C_expand_1 (l : Launch) (D : va_G) (cI cC cZ cT : ClassId) (ad : Nat → Nat) (hI : GI 144 ad) (hlT : l.stackTraces = false) (M : PM) (tl : Nat) (tc : Nat → Nat) (hT1 : TT M 1 tl tc) (h0 : tl = 0) : MX l D cI cC cZ cT ad y_C_expand b_C_expand 2 (some .int) 7 110 [.ref (ad (0))] M "java/lang/IllegalStateException" (fun M' => M = M') := by
  refine MX.of (by decide) (Nat.le_of_ble_eq_true rfl) ?_
  intro p e s m below meth c ls hx hb hr hml hown hg hlocks hK hN hX hTb hP hS hl
  have hown : s.vm.findClass R_C = some m.cls := hown
  have hl : lv_has ls 2 [(0, .ref (ad (0)))] := hl
  refine lv_aload_n hx hb d_C_expand_0 rfl (lv_at hl 0 rfl) ?_
  exact x_V (own := R_C) (index := 116) (As := []) (rest := []) hx hb hml hown hg hK hN hX hTb hlocks hP hS 0 (x_C_rqt l D cI cC cZ cT ad hI hlT M tl tc hT1 h0) (by decide) (ci := 7) rfl rfl k_305 k_307 k_p1 k_1 k_308 0 rfl (by decide +kernel) (by decide) rfl hl.1 (Nat.le_of_ble_eq_true rfl) d_C_expand_1 (fun _ h => h)

set_option maxHeartbeats 4000000 in
set_option maxRecDepth 100000 in
theorem x_C_expand_2f1 (l : Launch) (D : va_G) (cI cC cZ cT : ClassId) (ad : Nat → Nat) (hI : GI 144 ad) (hlT : l.stackTraces = false) (M : PM) (n : Nat) (len : Nat → Nat) (ch : Nat → Nat → Nat) (hN7 : CN M n len ch) (sp bs : Nat → Option Nat) (hH : CSp M n sp bs) (tl : Nat) (tc : Nat → Nat) (hT1 : TT M 1 tl tc) (h0 : 0 < tl) (htc : ∀ i, i < tl → 33 ≤ tc i ∧ tc i ≤ 126) (hnb : ¬ brk tl tc) (hoc : Fst (fun i => tc i = 58) tl none) : MX l D cI cC cZ cT ad y_C_expand b_C_expand 2 (some .int) 6 90 [.ref (ad (0))] M "java/lang/IllegalArgumentException" (fun M' => FT 5 M M') := by
  refine MX.of (by decide) (Nat.le_of_ble_eq_true rfl) ?_
  intro p e s m below meth c ls hx hb hr hml hown hg hlocks hK hN hX hTb hP hS hl
  have hown : s.vm.findClass R_C = some m.cls := hown
  have hl : lv_has ls 2 [(0, .ref (ad (0)))] := hl
  refine lv_aload_n hx hb d_C_expand_0 rfl (lv_at hl 0 rfl) ?_
  refine c_V (own := R_C) (index := 116) (As := []) (rest := []) hx hb hml hown hg hK NXc.same hN.warm (fun _ h => h) hP hS 0 (c_C_rqt l D cI cC cZ cT ad hI M tl tc hT1 h0) (by decide) (ci := 7) rfl rfl k_305 k_307 k_p1 k_1 k_308 0 rfl (by decide +kernel) (by decide) rfl hl.1 (Nat.le_of_ble_eq_true rfl) d_C_expand_1 (fun v M' H locs hq hP _ _ hS => ?_)
  obtain ⟨rfl, rfl⟩ := hq
  refine W.eq (g2 := F0 m 4 ls []) rfl ?_
  refine lv_aload_n hx hb d_C_expand_4 rfl (lv_at hl 0 rfl) ?_
  refine c_V (own := R_C) (index := 123) (As := []) (rest := []) hx hb hml hown hg hK NXc.same hN.warm (fun _ h => h) hP hS 0 (c_C_bft_f1 l D cI cC cZ cT ad hI M n len ch hN7 sp bs hH tl tc hT1 h0 htc hnb hoc) (by decide) (ci := 7) rfl rfl k_370 k_372 k_p3 k_1 k_373 0 rfl (by decide +kernel) (by decide) rfl hl.1 (Nat.le_of_ble_eq_true rfl) d_C_expand_5 (fun v M_1 H locs hq hP _ _ hS => ?_)
  obtain ⟨rfl, hB, hF⟩ := hq
  have hN71 := hN7.ft hF (by decide)
  refine W.eq (g2 := F0 m 8 ls []) rfl ?_
  refine lv_aload_n hx hb d_C_expand_8 rfl (lv_at hl 0 rfl) ?_
  refine g_get (C := R_C) (T := T_C) (N := 15) (ci := 7) (v := .ref (ad (5))) hx hb hg i_C hown hK hP 0 (by decide) rfl rfl 2 (by decide) (hg _ k_130) rfl d_C_expand_9 ?_
  refine c_V (own := R_C) (index := 126) (As := []) (rest := []) hx hb hml hown hg hK NXc.same hN.warm (fun _ h => h) hP hS 5 (c_T_isEmpty l D cI cC cZ cT ad hI M_1 5 tx5 (0) tc hB true ⟨fun _ => rfl, fun _ => rfl⟩) (tx_lt tx5) (ci := 6) (cfC_T tx5 _) rfl k_309 k_310 k_311 k_2 k_312 0 rfl (by decide +kernel) (by decide) rfl hl.1 (Nat.le_of_ble_eq_true rfl) d_C_expand_12 (fun v M' H locs hq hP _ _ hS => ?_)
  obtain ⟨rfl, rfl⟩ := hq
  refine W.eq (g2 := F0 m 15 ls [.int (bI (true))]) rfl ?_
  refine z_eq (t := true) (tgt := 28) hx hb d_C_expand_15 (by decide) (fun h9 => absurd h9 (by decide)) (fun _ => ?_)
  exact t_S hx hb hlT xat_IAE sx_129 hown hg hX hTb hlocks (hl.1.trans hml.symm) hP hS (hF) (by decide) (Nat.le_of_ble_eq_true rfl) d_C_expand_18 d_C_expand_21 d_C_expand_22 d_C_expand_24 d_C_expand_27

set_option maxHeartbeats 4000000 in
set_option maxRecDepth 100000 in
theorem x_C_expand_2f2 (l : Launch) (D : va_G) (cI cC cZ cT : ClassId) (ad : Nat → Nat) (hI : GI 144 ad) (hlT : l.stackTraces = false) (M : PM) (n : Nat) (len : Nat → Nat) (ch : Nat → Nat → Nat) (hN7 : CN M n len ch) (sp bs : Nat → Option Nat) (hH : CSp M n sp bs) (tl : Nat) (tc : Nat → Nat) (hT1 : TT M 1 tl tc) (h0 : 0 < tl) (htc : ∀ i, i < tl → 33 ≤ tc i ∧ tc i ≤ 126) (hnb : ¬ brk tl tc) (c9 : Nat) (hoc : Fst (fun i => tc i = 58) tl (some c9)) (ho : Fst (sameT len ch c9 tc) n none) : MX l D cI cC cZ cT ad y_C_expand b_C_expand 2 (some .int) 6 111 [.ref (ad (0))] M "java/lang/IllegalArgumentException" (fun M' => FT 5 M M') := by
  refine MX.of (by decide) (Nat.le_of_ble_eq_true rfl) ?_
  intro p e s m below meth c ls hx hb hr hml hown hg hlocks hK hN hX hTb hP hS hl
  have hown : s.vm.findClass R_C = some m.cls := hown
  have hl : lv_has ls 2 [(0, .ref (ad (0)))] := hl
  refine lv_aload_n hx hb d_C_expand_0 rfl (lv_at hl 0 rfl) ?_
  refine c_V (own := R_C) (index := 116) (As := []) (rest := []) hx hb hml hown hg hK NXc.same hN.warm (fun _ h => h) hP hS 0 (c_C_rqt l D cI cC cZ cT ad hI M tl tc hT1 h0) (by decide) (ci := 7) rfl rfl k_305 k_307 k_p1 k_1 k_308 0 rfl (by decide +kernel) (by decide) rfl hl.1 (Nat.le_of_ble_eq_true rfl) d_C_expand_1 (fun v M' H locs hq hP _ _ hS => ?_)
  obtain ⟨rfl, rfl⟩ := hq
  refine W.eq (g2 := F0 m 4 ls []) rfl ?_
  refine lv_aload_n hx hb d_C_expand_4 rfl (lv_at hl 0 rfl) ?_
  refine c_V (own := R_C) (index := 123) (As := []) (rest := []) hx hb hml hown hg hK NXc.same hN.warm (fun _ h => h) hP hS 0 (c_C_bft_f2 l D cI cC cZ cT ad hI M n len ch hN7 sp bs hH tl tc hT1 h0 htc hnb c9 hoc ho) (by decide) (ci := 7) rfl rfl k_370 k_372 k_p3 k_1 k_373 0 rfl (by decide +kernel) (by decide) rfl hl.1 (Nat.le_of_ble_eq_true rfl) d_C_expand_5 (fun v M_1 H locs hq hP _ _ hS => ?_)
  obtain ⟨rfl, hB, hF⟩ := hq
  have hN71 := hN7.ft hF (by decide)
  refine W.eq (g2 := F0 m 8 ls []) rfl ?_
  refine lv_aload_n hx hb d_C_expand_8 rfl (lv_at hl 0 rfl) ?_
  refine g_get (C := R_C) (T := T_C) (N := 15) (ci := 7) (v := .ref (ad (5))) hx hb hg i_C hown hK hP 0 (by decide) rfl rfl 2 (by decide) (hg _ k_130) rfl d_C_expand_9 ?_
  refine c_V (own := R_C) (index := 126) (As := []) (rest := []) hx hb hml hown hg hK NXc.same hN.warm (fun _ h => h) hP hS 5 (c_T_isEmpty l D cI cC cZ cT ad hI M_1 5 tx5 (0) tc hB true ⟨fun _ => rfl, fun _ => rfl⟩) (tx_lt tx5) (ci := 6) (cfC_T tx5 _) rfl k_309 k_310 k_311 k_2 k_312 0 rfl (by decide +kernel) (by decide) rfl hl.1 (Nat.le_of_ble_eq_true rfl) d_C_expand_12 (fun v M' H locs hq hP _ _ hS => ?_)
  obtain ⟨rfl, rfl⟩ := hq
  refine W.eq (g2 := F0 m 15 ls [.int (bI (true))]) rfl ?_
  refine z_eq (t := true) (tgt := 28) hx hb d_C_expand_15 (by decide) (fun h9 => absurd h9 (by decide)) (fun _ => ?_)
  exact t_S hx hb hlT xat_IAE sx_129 hown hg hX hTb hlocks (hl.1.trans hml.symm) hP hS (hF) (by decide) (Nat.le_of_ble_eq_true rfl) d_C_expand_18 d_C_expand_21 d_C_expand_22 d_C_expand_24 d_C_expand_27

set_option maxHeartbeats 4000000 in
set_option maxRecDepth 100000 in
theorem x_C_expand_2f3 (l : Launch) (D : va_G) (cI cC cZ cT : ClassId) (ad : Nat → Nat) (hI : GI 144 ad) (hlT : l.stackTraces = false) (M : PM) (n : Nat) (len : Nat → Nat) (ch : Nat → Nat → Nat) (hN7 : CN M n len ch) (sp bs : Nat → Option Nat) (hH : CSp M n sp bs) (tl : Nat) (tc : Nat → Nat) (hT1 : TT M 1 tl tc) (h0 : 0 < tl) (htc : ∀ i, i < tl → 33 ≤ tc i ∧ tc i ≤ 126) (hnb : ¬ brk tl tc) (c9 : Nat) (hoc : Fst (fun i => tc i = 58) tl (some c9)) (k9 : Nat) (ho : Fst (sameT len ch c9 tc) n (some k9)) (hf : sp k9 = none ∨ tl ≤ c9 + 1) : MX l D cI cC cZ cT ad y_C_expand b_C_expand 2 (some .int) 6 111 [.ref (ad (0))] M "java/lang/IllegalArgumentException" (fun M' => FT 5 M M') := by
  refine MX.of (by decide) (Nat.le_of_ble_eq_true rfl) ?_
  intro p e s m below meth c ls hx hb hr hml hown hg hlocks hK hN hX hTb hP hS hl
  have hown : s.vm.findClass R_C = some m.cls := hown
  have hl : lv_has ls 2 [(0, .ref (ad (0)))] := hl
  refine lv_aload_n hx hb d_C_expand_0 rfl (lv_at hl 0 rfl) ?_
  refine c_V (own := R_C) (index := 116) (As := []) (rest := []) hx hb hml hown hg hK NXc.same hN.warm (fun _ h => h) hP hS 0 (c_C_rqt l D cI cC cZ cT ad hI M tl tc hT1 h0) (by decide) (ci := 7) rfl rfl k_305 k_307 k_p1 k_1 k_308 0 rfl (by decide +kernel) (by decide) rfl hl.1 (Nat.le_of_ble_eq_true rfl) d_C_expand_1 (fun v M' H locs hq hP _ _ hS => ?_)
  obtain ⟨rfl, rfl⟩ := hq
  refine W.eq (g2 := F0 m 4 ls []) rfl ?_
  refine lv_aload_n hx hb d_C_expand_4 rfl (lv_at hl 0 rfl) ?_
  refine c_V (own := R_C) (index := 123) (As := []) (rest := []) hx hb hml hown hg hK NXc.same hN.warm (fun _ h => h) hP hS 0 (c_C_bft_f3 l D cI cC cZ cT ad hI M n len ch hN7 sp bs hH tl tc hT1 h0 htc hnb c9 hoc k9 ho hf) (by decide) (ci := 7) rfl rfl k_370 k_372 k_p3 k_1 k_373 0 rfl (by decide +kernel) (by decide) rfl hl.1 (Nat.le_of_ble_eq_true rfl) d_C_expand_5 (fun v M_1 H locs hq hP _ _ hS => ?_)
  obtain ⟨rfl, hB, hF⟩ := hq
  have hN71 := hN7.ft hF (by decide)
  refine W.eq (g2 := F0 m 8 ls []) rfl ?_
  refine lv_aload_n hx hb d_C_expand_8 rfl (lv_at hl 0 rfl) ?_
  refine g_get (C := R_C) (T := T_C) (N := 15) (ci := 7) (v := .ref (ad (5))) hx hb hg i_C hown hK hP 0 (by decide) rfl rfl 2 (by decide) (hg _ k_130) rfl d_C_expand_9 ?_
  refine c_V (own := R_C) (index := 126) (As := []) (rest := []) hx hb hml hown hg hK NXc.same hN.warm (fun _ h => h) hP hS 5 (c_T_isEmpty l D cI cC cZ cT ad hI M_1 5 tx5 (0) tc hB true ⟨fun _ => rfl, fun _ => rfl⟩) (tx_lt tx5) (ci := 6) (cfC_T tx5 _) rfl k_309 k_310 k_311 k_2 k_312 0 rfl (by decide +kernel) (by decide) rfl hl.1 (Nat.le_of_ble_eq_true rfl) d_C_expand_12 (fun v M' H locs hq hP _ _ hS => ?_)
  obtain ⟨rfl, rfl⟩ := hq
  refine W.eq (g2 := F0 m 15 ls [.int (bI (true))]) rfl ?_
  refine z_eq (t := true) (tgt := 28) hx hb d_C_expand_15 (by decide) (fun h9 => absurd h9 (by decide)) (fun _ => ?_)
  exact t_S hx hb hlT xat_IAE sx_129 hown hg hX hTb hlocks (hl.1.trans hml.symm) hP hS (hF) (by decide) (Nat.le_of_ble_eq_true rfl) d_C_expand_18 d_C_expand_21 d_C_expand_22 d_C_expand_24 d_C_expand_27

set_option maxHeartbeats 4000000 in
set_option maxRecDepth 100000 in
theorem x_C_expand_3a (l : Launch) (D : va_G) (cI cC cZ cT : ClassId) (ad : Nat → Nat) (hI : GI 144 ad) (hlT : l.stackTraces = false) (M : PM) (n : Nat) (len : Nat → Nat) (ch : Nat → Nat → Nat) (hN7 : CN M n len ch) (sp bs : Nat → Option Nat) (hH : CSp M n sp bs) (tl : Nat) (tc : Nat → Nat) (hT1 : TT M 1 tl tc) (h0 : 0 < tl) (htc : ∀ i, i < tl → 33 ≤ tc i ∧ tc i ≤ 126) (hbr : brk tl tc) (ho : Fst (sameT len ch (tl - 2) (scBr tc)) n none) (htm : 24 < tl - 2 ∨ n = 60) : MX l D cI cC cZ cT ad y_C_expand b_C_expand 2 (some .int) 7 112 [.ref (ad (0))] M "java/lang/UnsupportedOperationException" (fun M' => FT 5 M M') := by
  refine MX.of (by decide) (Nat.le_of_ble_eq_true rfl) ?_
  intro p e s m below meth c ls hx hb hr hml hown hg hlocks hK hN hX hTb hP hS hl
  have hown : s.vm.findClass R_C = some m.cls := hown
  have hl : lv_has ls 2 [(0, .ref (ad (0)))] := hl
  have hb1 := hbr.1
  refine lv_aload_n hx hb d_C_expand_0 rfl (lv_at hl 0 rfl) ?_
  refine c_V (own := R_C) (index := 116) (As := []) (rest := []) hx hb hml hown hg hK NXc.same hN.warm (fun _ h => h) hP hS 0 (c_C_rqt l D cI cC cZ cT ad hI M tl tc hT1 h0) (by decide) (ci := 7) rfl rfl k_305 k_307 k_p1 k_1 k_308 0 rfl (by decide +kernel) (by decide) rfl hl.1 (Nat.le_of_ble_eq_true rfl) d_C_expand_1 (fun v M' H locs hq hP _ _ hS => ?_)
  obtain ⟨rfl, rfl⟩ := hq
  refine W.eq (g2 := F0 m 4 ls []) rfl ?_
  refine lv_aload_n hx hb d_C_expand_4 rfl (lv_at hl 0 rfl) ?_
  refine c_V (own := R_C) (index := 123) (As := []) (rest := []) hx hb hml hown hg hK NXc.same hN.warm (fun _ h => h) hP hS 0 (c_C_bft_a l D cI cC cZ cT ad hI M n len ch hN7 sp bs hH tl tc hT1 h0 htc hbr) (by decide) (ci := 7) rfl rfl k_370 k_372 k_p3 k_1 k_373 0 rfl (by decide +kernel) (by decide) rfl hl.1 (Nat.le_of_ble_eq_true rfl) d_C_expand_5 (fun v M_1 H locs hq hP _ _ hS => ?_)
  obtain ⟨rfl, hB, hF⟩ := hq
  have hN71 := hN7.ft hF (by decide)
  refine W.eq (g2 := F0 m 8 ls []) rfl ?_
  refine lv_aload_n hx hb d_C_expand_8 rfl (lv_at hl 0 rfl) ?_
  refine g_get (C := R_C) (T := T_C) (N := 15) (ci := 7) (v := .ref (ad (5))) hx hb hg i_C hown hK hP 0 (by decide) rfl rfl 2 (by decide) (hg _ k_130) rfl d_C_expand_9 ?_
  refine c_V (own := R_C) (index := 126) (As := []) (rest := []) hx hb hml hown hg hK NXc.same hN.warm (fun _ h => h) hP hS 5 (c_T_isEmpty l D cI cC cZ cT ad hI M_1 5 tx5 (tl - 2) (scBr tc) hB false ⟨fun h => (by cases h), fun h => by omega⟩) (tx_lt tx5) (ci := 6) (cfC_T tx5 _) rfl k_309 k_310 k_311 k_2 k_312 0 rfl (by decide +kernel) (by decide) rfl hl.1 (Nat.le_of_ble_eq_true rfl) d_C_expand_12 (fun v M' H locs hq hP _ _ hS => ?_)
  obtain ⟨rfl, rfl⟩ := hq
  refine W.eq (g2 := F0 m 15 ls [.int (bI (false))]) rfl ?_
  refine z_eq (t := false) (tgt := 28) hx hb d_C_expand_15 (by decide) (fun _ => ?_) (fun h9 => absurd h9 (by decide))
  refine lv_aload_n hx hb d_C_expand_28 rfl (lv_at hl 0 rfl) ?_
  refine lv_aload_n hx hb d_C_expand_29 rfl (lv_at hl 0 rfl) ?_
  refine g_get (C := R_C) (T := T_C) (N := 15) (ci := 7) (v := .ref (ad (5))) hx hb hg i_C hown hK hP 0 (by decide) rfl rfl 2 (by decide) (hg _ k_130) rfl d_C_expand_30 ?_
  exact x_V (own := R_C) (index := 119) (As := [.ref (ad (5))]) (rest := []) hx hb hml hown hg hK hN hX hTb hlocks hP hS 0 (x_C_nof l D cI cC cZ cT ad hI hlT M_1 n len ch hN71 5 tx5 (by decide) (tl - 2) (scBr tc) hB ho htm) (by decide) (ci := 7) rfl rfl k_329 k_331 k_p2 k_1 k_332 1 rfl (by decide +kernel) (by decide) rfl hl.1 (Nat.le_of_ble_eq_true rfl) d_C_expand_33 (fun _ h => by rw [← h]; exact hF)

set_option maxHeartbeats 4000000 in
set_option maxRecDepth 100000 in
theorem c_C_expand_oa (l : Launch) (D : va_G) (cI cC cZ cT : ClassId) (ad : Nat → Nat) (hI : GI 144 ad) (M : PM) (n : Nat) (len : Nat → Nat) (ch : Nat → Nat → Nat) (hN7 : CN M n len ch) (sp bs : Nat → Option Nat) (hH : CSp M n sp bs) (tl : Nat) (tc : Nat → Nat) (hT1 : TT M 1 tl tc) (h0 : 0 < tl) (htc : ∀ i, i < tl → 33 ≤ tc i ∧ tc i ≤ 126) (hbr : brk tl tc) (k8 : Nat) (ho : Fst (sameT len ch (tl - 2) (scBr tc)) n (some k8)) : MD l D cI cC cZ cT ad y_C_expand b_C_expand 2 (some .int) 4 88 [.ref (ad (0))] M (fun v M' => v = some (.int (nI k8)) ∧ ∃ M0, FT 5 M M0 ∧ M' = pu M0 1 1 (nI 0)) := by
  refine MC.of (by decide) (Nat.le_of_ble_eq_true rfl) ?_
  intro p e s m below meth c ls hx hb hr hml hown hg hlocks hK hN hP hS hl
  have hown : s.vm.findClass R_C = some m.cls := hown
  have hl : lv_has ls 2 [(0, .ref (ad (0)))] := hl
  have hb1 := hbr.1
  refine lv_aload_n hx hb d_C_expand_0 rfl (lv_at hl 0 rfl) ?_
  refine c_V (own := R_C) (index := 116) (As := []) (rest := []) hx hb hml hown hg hK NXc.same hN.warm (fun _ h => h) hP hS 0 (c_C_rqt l D cI cC cZ cT ad hI M tl tc hT1 h0) (by decide) (ci := 7) rfl rfl k_305 k_307 k_p1 k_1 k_308 0 rfl (by decide +kernel) (by decide) rfl hl.1 (Nat.le_of_ble_eq_true rfl) d_C_expand_1 (fun v M' H locs hq hP _ _ hS => ?_)
  obtain ⟨rfl, rfl⟩ := hq
  refine W.eq (g2 := F0 m 4 ls []) rfl ?_
  refine lv_aload_n hx hb d_C_expand_4 rfl (lv_at hl 0 rfl) ?_
  refine c_V (own := R_C) (index := 123) (As := []) (rest := []) hx hb hml hown hg hK NXc.same hN.warm (fun _ h => h) hP hS 0 (c_C_bft_a l D cI cC cZ cT ad hI M n len ch hN7 sp bs hH tl tc hT1 h0 htc hbr) (by decide) (ci := 7) rfl rfl k_370 k_372 k_p3 k_1 k_373 0 rfl (by decide +kernel) (by decide) rfl hl.1 (Nat.le_of_ble_eq_true rfl) d_C_expand_5 (fun v M_1 H locs hq hP _ _ hS => ?_)
  obtain ⟨rfl, hB, hF⟩ := hq
  have hN71 := hN7.ft hF (by decide)
  refine W.eq (g2 := F0 m 8 ls []) rfl ?_
  refine lv_aload_n hx hb d_C_expand_8 rfl (lv_at hl 0 rfl) ?_
  refine g_get (C := R_C) (T := T_C) (N := 15) (ci := 7) (v := .ref (ad (5))) hx hb hg i_C hown hK hP 0 (by decide) rfl rfl 2 (by decide) (hg _ k_130) rfl d_C_expand_9 ?_
  refine c_V (own := R_C) (index := 126) (As := []) (rest := []) hx hb hml hown hg hK NXc.same hN.warm (fun _ h => h) hP hS 5 (c_T_isEmpty l D cI cC cZ cT ad hI M_1 5 tx5 (tl - 2) (scBr tc) hB false ⟨fun h => (by cases h), fun h => by omega⟩) (tx_lt tx5) (ci := 6) (cfC_T tx5 _) rfl k_309 k_310 k_311 k_2 k_312 0 rfl (by decide +kernel) (by decide) rfl hl.1 (Nat.le_of_ble_eq_true rfl) d_C_expand_12 (fun v M' H locs hq hP _ _ hS => ?_)
  obtain ⟨rfl, rfl⟩ := hq
  refine W.eq (g2 := F0 m 15 ls [.int (bI (false))]) rfl ?_
  refine z_eq (t := false) (tgt := 28) hx hb d_C_expand_15 (by decide) (fun _ => ?_) (fun h9 => absurd h9 (by decide))
  refine lv_aload_n hx hb d_C_expand_28 rfl (lv_at hl 0 rfl) ?_
  refine lv_aload_n hx hb d_C_expand_29 rfl (lv_at hl 0 rfl) ?_
  refine g_get (C := R_C) (T := T_C) (N := 15) (ci := 7) (v := .ref (ad (5))) hx hb hg i_C hown hK hP 0 (by decide) rfl rfl 2 (by decide) (hg _ k_130) rfl d_C_expand_30 ?_
  refine c_V (own := R_C) (index := 119) (As := [.ref (ad (5))]) (rest := []) hx hb hml hown hg hK NXc.same hN.warm (fun _ h => h) hP hS 0 (c_C_nof_o l D cI cC cZ cT ad hI M_1 n len ch hN71 5 tx5 (by decide) (tl - 2) (scBr tc) hB k8 ho) (by decide) (ci := 7) rfl rfl k_329 k_331 k_p2 k_1 k_332 1 rfl (by decide +kernel) (by decide) rfl hl.1 (Nat.le_of_ble_eq_true rfl) d_C_expand_33 (fun v M' H locs hq hP _ _ hS => ?_)
  obtain ⟨rfl, rfl⟩ := hq
  refine W.eq (g2 := F0 m 36 ls [.int (nI (k8))]) rfl ?_
  refine lv_istore_n (lv' := [(1, .int (nI (k8))), (0, .ref (ad (0)))]) hx hb d_C_expand_36 rfl hl (by decide) rfl (fun ls hl => ?_)
  refine lv_aload_n hx hb d_C_expand_37 rfl (lv_at hl 1 rfl) ?_
  refine g_get (C := R_C) (T := T_C) (N := 15) (ci := 7) (v := .ref (ad (1))) hx hb hg i_C hown hK hP 0 (by decide) rfl rfl 0 (by decide) (hg _ k_128) rfl d_C_expand_38 ?_
  refine c_V (own := R_C) (index := 113) (As := []) (rest := []) hx hb hml hown hg hK NXc.same hN.warm (fun _ h => h) hP hS 1 (c_T_empty l D cI cC cZ cT ad hI M_1 1 tx1) (tx_lt tx1) (ci := 6) (cfC_T tx1 _) rfl k_183 k_184 k_185 k_2 k_186 0 rfl (by decide +kernel) (by decide) rfl hl.1 (Nat.le_of_ble_eq_true rfl) d_C_expand_41 (fun v M_2 H locs hq hP _ _ hS => ?_)
  obtain ⟨rfl, eM_2⟩ := hq
  refine W.eq (g2 := F0 m 44 ls []) rfl ?_
  refine lv_iload_n hx hb d_C_expand_44 rfl (lv_at hl 0 rfl) ?_
  exact r_i hx hb hr hlocks hP hS (⟨rfl, _, hF, eM_2⟩) d_C_expand_45

set_option maxHeartbeats 4000000 in
set_option maxRecDepth 100000 in
theorem c_C_expand_na (l : Launch) (D : va_G) (cI cC cZ cT : ClassId) (ad : Nat → Nat) (hI : GI 144 ad) (M : PM) (n : Nat) (len : Nat → Nat) (ch : Nat → Nat → Nat) (hN7 : CN M n len ch) (sp bs : Nat → Option Nat) (hH : CSp M n sp bs) (tl : Nat) (tc : Nat → Nat) (hT1 : TT M 1 tl tc) (h0 : 0 < tl) (htc : ∀ i, i < tl → 33 ≤ tc i ∧ tc i ≤ 126) (hbr : brk tl tc) (ho : Fst (sameT len ch (tl - 2) (scBr tc)) n none) (h24 : tl - 2 ≤ 24) (hn9 : n < 60) : MD l D cI cC cZ cT ad y_C_expand b_C_expand 2 (some .int) 5 110 [.ref (ad (0))] M (fun v M' => v = some (.int (nI n)) ∧ ∃ M0 M1, FT 5 M M0 ∧ NAd M0 M1 n (tl - 2) (scBr tc) ∧ M' = pu M1 1 1 (nI 0)) := by
  refine MC.of (by decide) (Nat.le_of_ble_eq_true rfl) ?_
  intro p e s m below meth c ls hx hb hr hml hown hg hlocks hK hN hP hS hl
  have hown : s.vm.findClass R_C = some m.cls := hown
  have hl : lv_has ls 2 [(0, .ref (ad (0)))] := hl
  have hb1 := hbr.1
  refine lv_aload_n hx hb d_C_expand_0 rfl (lv_at hl 0 rfl) ?_
  refine c_V (own := R_C) (index := 116) (As := []) (rest := []) hx hb hml hown hg hK NXc.same hN.warm (fun _ h => h) hP hS 0 (c_C_rqt l D cI cC cZ cT ad hI M tl tc hT1 h0) (by decide) (ci := 7) rfl rfl k_305 k_307 k_p1 k_1 k_308 0 rfl (by decide +kernel) (by decide) rfl hl.1 (Nat.le_of_ble_eq_true rfl) d_C_expand_1 (fun v M' H locs hq hP _ _ hS => ?_)
  obtain ⟨rfl, rfl⟩ := hq
  refine W.eq (g2 := F0 m 4 ls []) rfl ?_
  refine lv_aload_n hx hb d_C_expand_4 rfl (lv_at hl 0 rfl) ?_
  refine c_V (own := R_C) (index := 123) (As := []) (rest := []) hx hb hml hown hg hK NXc.same hN.warm (fun _ h => h) hP hS 0 (c_C_bft_a l D cI cC cZ cT ad hI M n len ch hN7 sp bs hH tl tc hT1 h0 htc hbr) (by decide) (ci := 7) rfl rfl k_370 k_372 k_p3 k_1 k_373 0 rfl (by decide +kernel) (by decide) rfl hl.1 (Nat.le_of_ble_eq_true rfl) d_C_expand_5 (fun v M_1 H locs hq hP _ _ hS => ?_)
  obtain ⟨rfl, hB, hF⟩ := hq
  have hN71 := hN7.ft hF (by decide)
  refine W.eq (g2 := F0 m 8 ls []) rfl ?_
  refine lv_aload_n hx hb d_C_expand_8 rfl (lv_at hl 0 rfl) ?_
  refine g_get (C := R_C) (T := T_C) (N := 15) (ci := 7) (v := .ref (ad (5))) hx hb hg i_C hown hK hP 0 (by decide) rfl rfl 2 (by decide) (hg _ k_130) rfl d_C_expand_9 ?_
  refine c_V (own := R_C) (index := 126) (As := []) (rest := []) hx hb hml hown hg hK NXc.same hN.warm (fun _ h => h) hP hS 5 (c_T_isEmpty l D cI cC cZ cT ad hI M_1 5 tx5 (tl - 2) (scBr tc) hB false ⟨fun h => (by cases h), fun h => by omega⟩) (tx_lt tx5) (ci := 6) (cfC_T tx5 _) rfl k_309 k_310 k_311 k_2 k_312 0 rfl (by decide +kernel) (by decide) rfl hl.1 (Nat.le_of_ble_eq_true rfl) d_C_expand_12 (fun v M' H locs hq hP _ _ hS => ?_)
  obtain ⟨rfl, rfl⟩ := hq
  refine W.eq (g2 := F0 m 15 ls [.int (bI (false))]) rfl ?_
  refine z_eq (t := false) (tgt := 28) hx hb d_C_expand_15 (by decide) (fun _ => ?_) (fun h9 => absurd h9 (by decide))
  refine lv_aload_n hx hb d_C_expand_28 rfl (lv_at hl 0 rfl) ?_
  refine lv_aload_n hx hb d_C_expand_29 rfl (lv_at hl 0 rfl) ?_
  refine g_get (C := R_C) (T := T_C) (N := 15) (ci := 7) (v := .ref (ad (5))) hx hb hg i_C hown hK hP 0 (by decide) rfl rfl 2 (by decide) (hg _ k_130) rfl d_C_expand_30 ?_
  refine c_V (own := R_C) (index := 119) (As := [.ref (ad (5))]) (rest := []) hx hb hml hown hg hK NXc.same hN.warm (fun _ h => h) hP hS 0 (c_C_nof_n l D cI cC cZ cT ad hI M_1 n len ch hN71 5 tx5 (by decide) (tl - 2) (scBr tc) hB ho (by omega) hn9) (by decide) (ci := 7) rfl rfl k_329 k_331 k_p2 k_1 k_332 1 rfl (by decide +kernel) (by decide) rfl hl.1 (Nat.le_of_ble_eq_true rfl) d_C_expand_33 (fun v M_2 H locs hq hP _ _ hS => ?_)
  obtain ⟨rfl, hAd⟩ := hq
  refine W.eq (g2 := F0 m 36 ls [.int (nI (n))]) rfl ?_
  refine lv_istore_n (lv' := [(1, .int (nI (n))), (0, .ref (ad (0)))]) hx hb d_C_expand_36 rfl hl (by decide) rfl (fun ls hl => ?_)
  refine lv_aload_n hx hb d_C_expand_37 rfl (lv_at hl 1 rfl) ?_
  refine g_get (C := R_C) (T := T_C) (N := 15) (ci := 7) (v := .ref (ad (1))) hx hb hg i_C hown hK hP 0 (by decide) rfl rfl 0 (by decide) (hg _ k_128) rfl d_C_expand_38 ?_
  refine c_V (own := R_C) (index := 113) (As := []) (rest := []) hx hb hml hown hg hK NXc.same hN.warm (fun _ h => h) hP hS 1 (c_T_empty l D cI cC cZ cT ad hI M_2 1 tx1) (tx_lt tx1) (ci := 6) (cfC_T tx1 _) rfl k_183 k_184 k_185 k_2 k_186 0 rfl (by decide +kernel) (by decide) rfl hl.1 (Nat.le_of_ble_eq_true rfl) d_C_expand_41 (fun v M_3 H locs hq hP _ _ hS => ?_)
  obtain ⟨rfl, eM_3⟩ := hq
  refine W.eq (g2 := F0 m 44 ls []) rfl ?_
  refine lv_iload_n hx hb d_C_expand_44 rfl (lv_at hl 0 rfl) ?_
  exact r_i hx hb hr hlocks hP hS (⟨rfl, _, _, hF, hAd, eM_3⟩) d_C_expand_45

set_option maxHeartbeats 4000000 in
set_option maxRecDepth 100000 in
theorem x_C_expand_3b (l : Launch) (D : va_G) (cI cC cZ cT : ClassId) (ad : Nat → Nat) (hI : GI 144 ad) (hlT : l.stackTraces = false) (M : PM) (n : Nat) (len : Nat → Nat) (ch : Nat → Nat → Nat) (hN7 : CN M n len ch) (sp bs : Nat → Option Nat) (hH : CSp M n sp bs) (tl : Nat) (tc : Nat → Nat) (hT1 : TT M 1 tl tc) (h0 : 0 < tl) (htc : ∀ i, i < tl → 33 ≤ tc i ∧ tc i ≤ 126) (hnb : ¬ brk tl tc) (c9 : Nat) (hoc : Fst (fun i => tc i = 58) tl (some c9)) (hc8 : c9 + 1 < tl) (k9 : Nat) (hok : Fst (sameT len ch c9 tc) n (some k9)) (s9 : Nat) (hs9 : sp k9 = some s9) (ho : Fst (sameT len ch (len s9 + (tl - (c9 + 1))) (scCo len ch tc s9 c9)) n none) (htm : 24 < len s9 + (tl - (c9 + 1)) ∨ n = 60) : MX l D cI cC cZ cT ad y_C_expand b_C_expand 2 (some .int) 7 112 [.ref (ad (0))] M "java/lang/UnsupportedOperationException" (fun M' => FT 5 M M') := by
  refine MX.of (by decide) (Nat.le_of_ble_eq_true rfl) ?_
  intro p e s m below meth c ls hx hb hr hml hown hg hlocks hK hN hX hTb hP hS hl
  have hown : s.vm.findClass R_C = some m.cls := hown
  have hl : lv_has ls 2 [(0, .ref (ad (0)))] := hl
  refine lv_aload_n hx hb d_C_expand_0 rfl (lv_at hl 0 rfl) ?_
  refine c_V (own := R_C) (index := 116) (As := []) (rest := []) hx hb hml hown hg hK NXc.same hN.warm (fun _ h => h) hP hS 0 (c_C_rqt l D cI cC cZ cT ad hI M tl tc hT1 h0) (by decide) (ci := 7) rfl rfl k_305 k_307 k_p1 k_1 k_308 0 rfl (by decide +kernel) (by decide) rfl hl.1 (Nat.le_of_ble_eq_true rfl) d_C_expand_1 (fun v M' H locs hq hP _ _ hS => ?_)
  obtain ⟨rfl, rfl⟩ := hq
  refine W.eq (g2 := F0 m 4 ls []) rfl ?_
  refine lv_aload_n hx hb d_C_expand_4 rfl (lv_at hl 0 rfl) ?_
  refine c_V (own := R_C) (index := 123) (As := []) (rest := []) hx hb hml hown hg hK NXc.same hN.warm (fun _ h => h) hP hS 0 (c_C_bft_b l D cI cC cZ cT ad hI M n len ch hN7 sp bs hH tl tc hT1 h0 htc hnb c9 hoc hc8 k9 hok s9 hs9) (by decide) (ci := 7) rfl rfl k_370 k_372 k_p3 k_1 k_373 0 rfl (by decide +kernel) (by decide) rfl hl.1 (Nat.le_of_ble_eq_true rfl) d_C_expand_5 (fun v M_1 H locs hq hP _ _ hS => ?_)
  obtain ⟨rfl, hB, hF⟩ := hq
  have hN71 := hN7.ft hF (by decide)
  refine W.eq (g2 := F0 m 8 ls []) rfl ?_
  refine lv_aload_n hx hb d_C_expand_8 rfl (lv_at hl 0 rfl) ?_
  refine g_get (C := R_C) (T := T_C) (N := 15) (ci := 7) (v := .ref (ad (5))) hx hb hg i_C hown hK hP 0 (by decide) rfl rfl 2 (by decide) (hg _ k_130) rfl d_C_expand_9 ?_
  refine c_V (own := R_C) (index := 126) (As := []) (rest := []) hx hb hml hown hg hK NXc.same hN.warm (fun _ h => h) hP hS 5 (c_T_isEmpty l D cI cC cZ cT ad hI M_1 5 tx5 (len s9 + (tl - (c9 + 1))) (scCo len ch tc s9 c9) hB false ⟨fun h => (by cases h), fun h => by omega⟩) (tx_lt tx5) (ci := 6) (cfC_T tx5 _) rfl k_309 k_310 k_311 k_2 k_312 0 rfl (by decide +kernel) (by decide) rfl hl.1 (Nat.le_of_ble_eq_true rfl) d_C_expand_12 (fun v M' H locs hq hP _ _ hS => ?_)
  obtain ⟨rfl, rfl⟩ := hq
  refine W.eq (g2 := F0 m 15 ls [.int (bI (false))]) rfl ?_
  refine z_eq (t := false) (tgt := 28) hx hb d_C_expand_15 (by decide) (fun _ => ?_) (fun h9 => absurd h9 (by decide))
  refine lv_aload_n hx hb d_C_expand_28 rfl (lv_at hl 0 rfl) ?_
  refine lv_aload_n hx hb d_C_expand_29 rfl (lv_at hl 0 rfl) ?_
  refine g_get (C := R_C) (T := T_C) (N := 15) (ci := 7) (v := .ref (ad (5))) hx hb hg i_C hown hK hP 0 (by decide) rfl rfl 2 (by decide) (hg _ k_130) rfl d_C_expand_30 ?_
  exact x_V (own := R_C) (index := 119) (As := [.ref (ad (5))]) (rest := []) hx hb hml hown hg hK hN hX hTb hlocks hP hS 0 (x_C_nof l D cI cC cZ cT ad hI hlT M_1 n len ch hN71 5 tx5 (by decide) (len s9 + (tl - (c9 + 1))) (scCo len ch tc s9 c9) hB ho htm) (by decide) (ci := 7) rfl rfl k_329 k_331 k_p2 k_1 k_332 1 rfl (by decide +kernel) (by decide) rfl hl.1 (Nat.le_of_ble_eq_true rfl) d_C_expand_33 (fun _ h => by rw [← h]; exact hF)

set_option maxHeartbeats 4000000 in
set_option maxRecDepth 100000 in
theorem c_C_expand_ob (l : Launch) (D : va_G) (cI cC cZ cT : ClassId) (ad : Nat → Nat) (hI : GI 144 ad) (M : PM) (n : Nat) (len : Nat → Nat) (ch : Nat → Nat → Nat) (hN7 : CN M n len ch) (sp bs : Nat → Option Nat) (hH : CSp M n sp bs) (tl : Nat) (tc : Nat → Nat) (hT1 : TT M 1 tl tc) (h0 : 0 < tl) (htc : ∀ i, i < tl → 33 ≤ tc i ∧ tc i ≤ 126) (hnb : ¬ brk tl tc) (c9 : Nat) (hoc : Fst (fun i => tc i = 58) tl (some c9)) (hc8 : c9 + 1 < tl) (k9 : Nat) (hok : Fst (sameT len ch c9 tc) n (some k9)) (s9 : Nat) (hs9 : sp k9 = some s9) (k8 : Nat) (ho : Fst (sameT len ch (len s9 + (tl - (c9 + 1))) (scCo len ch tc s9 c9)) n (some k8)) : MD l D cI cC cZ cT ad y_C_expand b_C_expand 2 (some .int) 5 111 [.ref (ad (0))] M (fun v M' => v = some (.int (nI k8)) ∧ ∃ M0, FT 5 M M0 ∧ M' = pu M0 1 1 (nI 0)) := by
  refine MC.of (by decide) (Nat.le_of_ble_eq_true rfl) ?_
  intro p e s m below meth c ls hx hb hr hml hown hg hlocks hK hN hP hS hl
  have hown : s.vm.findClass R_C = some m.cls := hown
  have hl : lv_has ls 2 [(0, .ref (ad (0)))] := hl
  refine lv_aload_n hx hb d_C_expand_0 rfl (lv_at hl 0 rfl) ?_
  refine c_V (own := R_C) (index := 116) (As := []) (rest := []) hx hb hml hown hg hK NXc.same hN.warm (fun _ h => h) hP hS 0 (c_C_rqt l D cI cC cZ cT ad hI M tl tc hT1 h0) (by decide) (ci := 7) rfl rfl k_305 k_307 k_p1 k_1 k_308 0 rfl (by decide +kernel) (by decide) rfl hl.1 (Nat.le_of_ble_eq_true rfl) d_C_expand_1 (fun v M' H locs hq hP _ _ hS => ?_)
  obtain ⟨rfl, rfl⟩ := hq
  refine W.eq (g2 := F0 m 4 ls []) rfl ?_
  refine lv_aload_n hx hb d_C_expand_4 rfl (lv_at hl 0 rfl) ?_
  refine c_V (own := R_C) (index := 123) (As := []) (rest := []) hx hb hml hown hg hK NXc.same hN.warm (fun _ h => h) hP hS 0 (c_C_bft_b l D cI cC cZ cT ad hI M n len ch hN7 sp bs hH tl tc hT1 h0 htc hnb c9 hoc hc8 k9 hok s9 hs9) (by decide) (ci := 7) rfl rfl k_370 k_372 k_p3 k_1 k_373 0 rfl (by decide +kernel) (by decide) rfl hl.1 (Nat.le_of_ble_eq_true rfl) d_C_expand_5 (fun v M_1 H locs hq hP _ _ hS => ?_)
  obtain ⟨rfl, hB, hF⟩ := hq
  have hN71 := hN7.ft hF (by decide)
  refine W.eq (g2 := F0 m 8 ls []) rfl ?_
  refine lv_aload_n hx hb d_C_expand_8 rfl (lv_at hl 0 rfl) ?_
  refine g_get (C := R_C) (T := T_C) (N := 15) (ci := 7) (v := .ref (ad (5))) hx hb hg i_C hown hK hP 0 (by decide) rfl rfl 2 (by decide) (hg _ k_130) rfl d_C_expand_9 ?_
  refine c_V (own := R_C) (index := 126) (As := []) (rest := []) hx hb hml hown hg hK NXc.same hN.warm (fun _ h => h) hP hS 5 (c_T_isEmpty l D cI cC cZ cT ad hI M_1 5 tx5 (len s9 + (tl - (c9 + 1))) (scCo len ch tc s9 c9) hB false ⟨fun h => (by cases h), fun h => by omega⟩) (tx_lt tx5) (ci := 6) (cfC_T tx5 _) rfl k_309 k_310 k_311 k_2 k_312 0 rfl (by decide +kernel) (by decide) rfl hl.1 (Nat.le_of_ble_eq_true rfl) d_C_expand_12 (fun v M' H locs hq hP _ _ hS => ?_)
  obtain ⟨rfl, rfl⟩ := hq
  refine W.eq (g2 := F0 m 15 ls [.int (bI (false))]) rfl ?_
  refine z_eq (t := false) (tgt := 28) hx hb d_C_expand_15 (by decide) (fun _ => ?_) (fun h9 => absurd h9 (by decide))
  refine lv_aload_n hx hb d_C_expand_28 rfl (lv_at hl 0 rfl) ?_
  refine lv_aload_n hx hb d_C_expand_29 rfl (lv_at hl 0 rfl) ?_
  refine g_get (C := R_C) (T := T_C) (N := 15) (ci := 7) (v := .ref (ad (5))) hx hb hg i_C hown hK hP 0 (by decide) rfl rfl 2 (by decide) (hg _ k_130) rfl d_C_expand_30 ?_
  refine c_V (own := R_C) (index := 119) (As := [.ref (ad (5))]) (rest := []) hx hb hml hown hg hK NXc.same hN.warm (fun _ h => h) hP hS 0 (c_C_nof_o l D cI cC cZ cT ad hI M_1 n len ch hN71 5 tx5 (by decide) (len s9 + (tl - (c9 + 1))) (scCo len ch tc s9 c9) hB k8 ho) (by decide) (ci := 7) rfl rfl k_329 k_331 k_p2 k_1 k_332 1 rfl (by decide +kernel) (by decide) rfl hl.1 (Nat.le_of_ble_eq_true rfl) d_C_expand_33 (fun v M' H locs hq hP _ _ hS => ?_)
  obtain ⟨rfl, rfl⟩ := hq
  refine W.eq (g2 := F0 m 36 ls [.int (nI (k8))]) rfl ?_
  refine lv_istore_n (lv' := [(1, .int (nI (k8))), (0, .ref (ad (0)))]) hx hb d_C_expand_36 rfl hl (by decide) rfl (fun ls hl => ?_)
  refine lv_aload_n hx hb d_C_expand_37 rfl (lv_at hl 1 rfl) ?_
  refine g_get (C := R_C) (T := T_C) (N := 15) (ci := 7) (v := .ref (ad (1))) hx hb hg i_C hown hK hP 0 (by decide) rfl rfl 0 (by decide) (hg _ k_128) rfl d_C_expand_38 ?_
  refine c_V (own := R_C) (index := 113) (As := []) (rest := []) hx hb hml hown hg hK NXc.same hN.warm (fun _ h => h) hP hS 1 (c_T_empty l D cI cC cZ cT ad hI M_1 1 tx1) (tx_lt tx1) (ci := 6) (cfC_T tx1 _) rfl k_183 k_184 k_185 k_2 k_186 0 rfl (by decide +kernel) (by decide) rfl hl.1 (Nat.le_of_ble_eq_true rfl) d_C_expand_41 (fun v M_2 H locs hq hP _ _ hS => ?_)
  obtain ⟨rfl, eM_2⟩ := hq
  refine W.eq (g2 := F0 m 44 ls []) rfl ?_
  refine lv_iload_n hx hb d_C_expand_44 rfl (lv_at hl 0 rfl) ?_
  exact r_i hx hb hr hlocks hP hS (⟨rfl, _, hF, eM_2⟩) d_C_expand_45

set_option maxHeartbeats 4000000 in
set_option maxRecDepth 100000 in
theorem c_C_expand_nb (l : Launch) (D : va_G) (cI cC cZ cT : ClassId) (ad : Nat → Nat) (hI : GI 144 ad) (M : PM) (n : Nat) (len : Nat → Nat) (ch : Nat → Nat → Nat) (hN7 : CN M n len ch) (sp bs : Nat → Option Nat) (hH : CSp M n sp bs) (tl : Nat) (tc : Nat → Nat) (hT1 : TT M 1 tl tc) (h0 : 0 < tl) (htc : ∀ i, i < tl → 33 ≤ tc i ∧ tc i ≤ 126) (hnb : ¬ brk tl tc) (c9 : Nat) (hoc : Fst (fun i => tc i = 58) tl (some c9)) (hc8 : c9 + 1 < tl) (k9 : Nat) (hok : Fst (sameT len ch c9 tc) n (some k9)) (s9 : Nat) (hs9 : sp k9 = some s9) (ho : Fst (sameT len ch (len s9 + (tl - (c9 + 1))) (scCo len ch tc s9 c9)) n none) (h24 : len s9 + (tl - (c9 + 1)) ≤ 24) (hn9 : n < 60) : MD l D cI cC cZ cT ad y_C_expand b_C_expand 2 (some .int) 5 111 [.ref (ad (0))] M (fun v M' => v = some (.int (nI n)) ∧ ∃ M0 M1, FT 5 M M0 ∧ NAd M0 M1 n (len s9 + (tl - (c9 + 1))) (scCo len ch tc s9 c9) ∧ M' = pu M1 1 1 (nI 0)) := by
  refine MC.of (by decide) (Nat.le_of_ble_eq_true rfl) ?_
  intro p e s m below meth c ls hx hb hr hml hown hg hlocks hK hN hP hS hl
  have hown : s.vm.findClass R_C = some m.cls := hown
  have hl : lv_has ls 2 [(0, .ref (ad (0)))] := hl
  refine lv_aload_n hx hb d_C_expand_0 rfl (lv_at hl 0 rfl) ?_
  refine c_V (own := R_C) (index := 116) (As := []) (rest := []) hx hb hml hown hg hK NXc.same hN.warm (fun _ h => h) hP hS 0 (c_C_rqt l D cI cC cZ cT ad hI M tl tc hT1 h0) (by decide) (ci := 7) rfl rfl k_305 k_307 k_p1 k_1 k_308 0 rfl (by decide +kernel) (by decide) rfl hl.1 (Nat.le_of_ble_eq_true rfl) d_C_expand_1 (fun v M' H locs hq hP _ _ hS => ?_)
  obtain ⟨rfl, rfl⟩ := hq
  refine W.eq (g2 := F0 m 4 ls []) rfl ?_
  refine lv_aload_n hx hb d_C_expand_4 rfl (lv_at hl 0 rfl) ?_
  refine c_V (own := R_C) (index := 123) (As := []) (rest := []) hx hb hml hown hg hK NXc.same hN.warm (fun _ h => h) hP hS 0 (c_C_bft_b l D cI cC cZ cT ad hI M n len ch hN7 sp bs hH tl tc hT1 h0 htc hnb c9 hoc hc8 k9 hok s9 hs9) (by decide) (ci := 7) rfl rfl k_370 k_372 k_p3 k_1 k_373 0 rfl (by decide +kernel) (by decide) rfl hl.1 (Nat.le_of_ble_eq_true rfl) d_C_expand_5 (fun v M_1 H locs hq hP _ _ hS => ?_)
  obtain ⟨rfl, hB, hF⟩ := hq
  have hN71 := hN7.ft hF (by decide)
  refine W.eq (g2 := F0 m 8 ls []) rfl ?_
  refine lv_aload_n hx hb d_C_expand_8 rfl (lv_at hl 0 rfl) ?_
  refine g_get (C := R_C) (T := T_C) (N := 15) (ci := 7) (v := .ref (ad (5))) hx hb hg i_C hown hK hP 0 (by decide) rfl rfl 2 (by decide) (hg _ k_130) rfl d_C_expand_9 ?_
  refine c_V (own := R_C) (index := 126) (As := []) (rest := []) hx hb hml hown hg hK NXc.same hN.warm (fun _ h => h) hP hS 5 (c_T_isEmpty l D cI cC cZ cT ad hI M_1 5 tx5 (len s9 + (tl - (c9 + 1))) (scCo len ch tc s9 c9) hB false ⟨fun h => (by cases h), fun h => by omega⟩) (tx_lt tx5) (ci := 6) (cfC_T tx5 _) rfl k_309 k_310 k_311 k_2 k_312 0 rfl (by decide +kernel) (by decide) rfl hl.1 (Nat.le_of_ble_eq_true rfl) d_C_expand_12 (fun v M' H locs hq hP _ _ hS => ?_)
  obtain ⟨rfl, rfl⟩ := hq
  refine W.eq (g2 := F0 m 15 ls [.int (bI (false))]) rfl ?_
  refine z_eq (t := false) (tgt := 28) hx hb d_C_expand_15 (by decide) (fun _ => ?_) (fun h9 => absurd h9 (by decide))
  refine lv_aload_n hx hb d_C_expand_28 rfl (lv_at hl 0 rfl) ?_
  refine lv_aload_n hx hb d_C_expand_29 rfl (lv_at hl 0 rfl) ?_
  refine g_get (C := R_C) (T := T_C) (N := 15) (ci := 7) (v := .ref (ad (5))) hx hb hg i_C hown hK hP 0 (by decide) rfl rfl 2 (by decide) (hg _ k_130) rfl d_C_expand_30 ?_
  refine c_V (own := R_C) (index := 119) (As := [.ref (ad (5))]) (rest := []) hx hb hml hown hg hK NXc.same hN.warm (fun _ h => h) hP hS 0 (c_C_nof_n l D cI cC cZ cT ad hI M_1 n len ch hN71 5 tx5 (by decide) (len s9 + (tl - (c9 + 1))) (scCo len ch tc s9 c9) hB ho (by omega) hn9) (by decide) (ci := 7) rfl rfl k_329 k_331 k_p2 k_1 k_332 1 rfl (by decide +kernel) (by decide) rfl hl.1 (Nat.le_of_ble_eq_true rfl) d_C_expand_33 (fun v M_2 H locs hq hP _ _ hS => ?_)
  obtain ⟨rfl, hAd⟩ := hq
  refine W.eq (g2 := F0 m 36 ls [.int (nI (n))]) rfl ?_
  refine lv_istore_n (lv' := [(1, .int (nI (n))), (0, .ref (ad (0)))]) hx hb d_C_expand_36 rfl hl (by decide) rfl (fun ls hl => ?_)
  refine lv_aload_n hx hb d_C_expand_37 rfl (lv_at hl 1 rfl) ?_
  refine g_get (C := R_C) (T := T_C) (N := 15) (ci := 7) (v := .ref (ad (1))) hx hb hg i_C hown hK hP 0 (by decide) rfl rfl 0 (by decide) (hg _ k_128) rfl d_C_expand_38 ?_
  refine c_V (own := R_C) (index := 113) (As := []) (rest := []) hx hb hml hown hg hK NXc.same hN.warm (fun _ h => h) hP hS 1 (c_T_empty l D cI cC cZ cT ad hI M_2 1 tx1) (tx_lt tx1) (ci := 6) (cfC_T tx1 _) rfl k_183 k_184 k_185 k_2 k_186 0 rfl (by decide +kernel) (by decide) rfl hl.1 (Nat.le_of_ble_eq_true rfl) d_C_expand_41 (fun v M_3 H locs hq hP _ _ hS => ?_)
  obtain ⟨rfl, eM_3⟩ := hq
  refine W.eq (g2 := F0 m 44 ls []) rfl ?_
  refine lv_iload_n hx hb d_C_expand_44 rfl (lv_at hl 0 rfl) ?_
  exact r_i hx hb hr hlocks hP hS (⟨rfl, _, _, hF, hAd, eM_3⟩) d_C_expand_45
