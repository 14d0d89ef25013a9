set_option maxHeartbeats 4000000 in
set_option maxRecDepth 100000 in
theorem c_C_rqn (l : Launch) (D : va_G) (cI cC cZ cT : ClassId) (ad : Nat → Nat) (hI : GI 144 ad) (M : PM) (n : Nat) (len : Nat → Nat) (ch : Nat → Nat → Nat) (hN7 : CN M n len ch) (a : Nat) (ha : a < n) : MD l D cI cC cZ cT ad y_C_requireName b_C_requireName 2 none 1 21 [.ref (ad (0)), .int (nI (a))] M (fun v M' => v = none ∧ M = M') := by
  refine MC.of (by decide) (Nat.le_of_ble_eq_true rfl) ?_
  intro p e s m below meth c ls hx hb hr hml hown hg hlocks hK hN hP hS hl
  have hown : s.vm.findClass R_C = some m.cls := hown
  have hl : lv_has ls 2 [(0, .ref (ad (0))), (1, .int (nI (a)))] := hl
  refine lv_aload_n hx hb d_C_requireName_0 rfl (lv_at hl 0 rfl) ?_
  refine g_get (C := R_C) (T := T_C) (N := 15) (ci := 7) (v := .ref (ad (7))) hx hb hg i_C hown hK hP 0 (by decide) rfl rfl 3 (by decide) (hg _ k_131) rfl d_C_requireName_1 ?_
  refine lv_iload_n hx hb d_C_requireName_4 rfl (lv_at hl 1 rfl) ?_
  refine c_V (own := R_C) (index := 299) (As := [.int (nI (a))]) (rest := []) hx hb hml hown hg hK NXc.same hN.warm (fun _ h => h) hP hS 7 (c_N_has l D cI cC cZ cT ad hI M n len ch hN7 ((nI (a))) true ⟨fun _ => ⟨a, ha, rfl⟩, fun _ => rfl⟩) (by decide) (ci := 0) rfl rfl k_405 k_406 k_407 k_3 k_408 1 rfl (by decide +kernel) (by decide) rfl hl.1 (Nat.le_of_ble_eq_true rfl) d_C_requireName_5 (fun v M' H locs hq hP _ _ hS => ?_)
  obtain ⟨rfl, rfl⟩ := hq
  refine W.eq (g2 := F0 m 8 ls [.int (bI (true))]) rfl ?_
  refine z_ne (t := true) (tgt := 22) hx hb d_C_requireName_8 (by decide) (fun _ => ?_) (fun h9 => absurd h9 (by decide))
  exact r_v hx hb hr hlocks hP hS (⟨rfl, rfl⟩) d_C_requireName_22

set_option maxHeartbeats 4000000 in
set_option maxRecDepth 100000 in
theorem x_C_rqn (l : Launch) (D : va_G) (cI cC cZ cT : ClassId) (ad : Nat → Nat) (hI : GI 144 ad) (hlT : l.stackTraces = false) (M : PM) (n : Nat) (len : Nat → Nat) (ch : Nat → Nat → Nat) (hN7 : CN M n len ch) (x : Int32) (hbad : ¬ ∃ j, j < n ∧ x = nI j) : MX l D cI cC cZ cT ad y_C_requireName b_C_requireName 2 none 6 90 [.ref (ad (0)), .int (x)] M "java/lang/IndexOutOfBoundsException" (fun M' => M = M') := by
  refine MX.of (by decide) (Nat.le_of_ble_eq_true rfl) ?_
  intro p e s m below meth c ls hx hb hr hml hown hg hlocks hK hN hX hTb hP hS hl
  have hown : s.vm.findClass R_C = some m.cls := hown
  have hl : lv_has ls 2 [(0, .ref (ad (0))), (1, .int (x))] := hl
  refine lv_aload_n hx hb d_C_requireName_0 rfl (lv_at hl 0 rfl) ?_
  refine g_get (C := R_C) (T := T_C) (N := 15) (ci := 7) (v := .ref (ad (7))) hx hb hg i_C hown hK hP 0 (by decide) rfl rfl 3 (by decide) (hg _ k_131) rfl d_C_requireName_1 ?_
  refine lv_iload_n hx hb d_C_requireName_4 rfl (lv_at hl 1 rfl) ?_
  refine c_V (own := R_C) (index := 299) (As := [.int (x)]) (rest := []) hx hb hml hown hg hK NXc.same hN.warm (fun _ h => h) hP hS 7 (c_N_has l D cI cC cZ cT ad hI M n len ch hN7 ((x)) false ⟨fun h => (by cases h), fun h => absurd h hbad⟩) (by decide) (ci := 0) rfl rfl k_405 k_406 k_407 k_3 k_408 1 rfl (by decide +kernel) (by decide) rfl hl.1 (Nat.le_of_ble_eq_true rfl) d_C_requireName_5 (fun v M' H locs hq hP _ _ hS => ?_)
  obtain ⟨rfl, rfl⟩ := hq
  refine W.eq (g2 := F0 m 8 ls [.int (bI (false))]) rfl ?_
  refine z_ne (t := false) (tgt := 22) hx hb d_C_requireName_8 (by decide) (fun h9 => absurd h9 (by decide)) (fun _ => ?_)
  exact t_SW hx hb hlT xat_IOE sx_300 hown hg hX hTb hlocks (hl.1.trans hml.symm) hP hS (rfl) (by decide) (Nat.le_of_ble_eq_true rfl) d_C_requireName_11 d_C_requireName_14 d_C_requireName_15 d_C_requireName_18 d_C_requireName_21

set_option maxHeartbeats 4000000 in
set_option maxRecDepth 100000 in
theorem c_C_rqp (l : Launch) (D : va_G) (cI cC cZ cT : ClassId) (ad : Nat → Nat) (hI : GI 144 ad) (M : PM) (x : Int32) (h0 : ¬ x < 0) : MD l D cI cC cZ cT ad y_C_requirePlace b_C_requirePlace 2 none 0 0 [.ref (ad (0)), .int (x)] M (fun v M' => v = none ∧ M = M') := by
  refine MC.of (by decide) (Nat.le_of_ble_eq_true rfl) ?_
  intro p e s m below meth c ls hx hb hr hml hown hg hlocks hK hN hP hS hl
  have hown : s.vm.findClass R_C = some m.cls := hown
  have hl : lv_has ls 2 [(0, .ref (ad (0))), (1, .int (x))] := hl
  refine lv_iload_n hx hb d_C_requirePlace_0 rfl (lv_at hl 1 rfl) ?_
  refine lv_if_ge (tgt := 15) hx hb d_C_requirePlace_1 (by decide) (fun c_1 => ?_) (fun c_1 => ?_)
  · exact r_v hx hb hr hlocks hP hS (⟨rfl, rfl⟩) d_C_requirePlace_15
  · exact absurd (Int32.not_le.mp c_1) h0

set_option maxHeartbeats 4000000 in
set_option maxRecDepth 100000 in
theorem x_C_rqp (l : Launch) (D : va_G) (cI cC cZ cT : ClassId) (ad : Nat → Nat) (hI : GI 144 ad) (hlT : l.stackTraces = false) (M : PM) (x : Int32) (h0 : x < 0) : MX l D cI cC cZ cT ad y_C_requirePlace b_C_requirePlace 2 none 6 90 [.ref (ad (0)), .int (x)] M "java/lang/IndexOutOfBoundsException" (fun M' => M = M') := by
  refine MX.of (by decide) (Nat.le_of_ble_eq_true rfl) ?_
  intro p e s m below meth c ls hx hb hr hml hown hg hlocks hK hN hX hTb hP hS hl
  have hown : s.vm.findClass R_C = some m.cls := hown
  have hl : lv_has ls 2 [(0, .ref (ad (0))), (1, .int (x))] := hl
  refine lv_iload_n hx hb d_C_requirePlace_0 rfl (lv_at hl 1 rfl) ?_
  refine lv_if_ge (tgt := 15) hx hb d_C_requirePlace_1 (by decide) (fun c_1 => ?_) (fun c_1 => ?_)
  · exact absurd h0 (Int32.not_lt.mpr c_1)
  · exact t_SW hx hb hlT xat_IOE sx_302 hown hg hX hTb hlocks (hl.1.trans hml.symm) hP hS (rfl) (by decide) (Nat.le_of_ble_eq_true rfl) d_C_requirePlace_4 d_C_requirePlace_7 d_C_requirePlace_8 d_C_requirePlace_11 d_C_requirePlace_14

set_option maxHeartbeats 4000000 in
set_option maxRecDepth 100000 in
theorem c_C_rqt (l : Launch) (D : va_G) (cI cC cZ cT : ClassId) (ad : Nat → Nat) (hI : GI 144 ad) (M : PM) (tl : Nat) (tc : Nat → Nat) (hT1 : TT M 1 tl tc) (h0 : 0 < tl) : MD l D cI cC cZ cT ad y_C_requireTape b_C_requireTape 1 none 1 20 [.ref (ad (0))] M (fun v M' => v = none ∧ M = M') := by
  refine MC.of (by decide) (Nat.le_of_ble_eq_true rfl) ?_
  intro p e s m below meth c ls hx hb hr hml hown hg hlocks hK hN hP hS hl
  have hown : s.vm.findClass R_C = some m.cls := hown
  have hl : lv_has ls 1 [(0, .ref (ad (0)))] := hl
  refine lv_aload_n hx hb d_C_requireTape_0 rfl (lv_at hl 0 rfl) ?_
  refine g_get (C := R_C) (T := T_C) (N := 15) (ci := 7) (v := .ref (ad (1))) hx hb hg i_C hown hK hP 0 (by decide) rfl rfl 0 (by decide) (hg _ k_128) rfl d_C_requireTape_1 ?_
  refine c_V (own := R_C) (index := 126) (As := []) (rest := []) hx hb hml hown hg hK NXc.same hN.warm (fun _ h => h) hP hS 1 (c_T_isEmpty l D cI cC cZ cT ad hI M 1 tx1 (tl) tc hT1 false ⟨fun h => (by cases h), fun h => by omega⟩) (tx_lt tx1) (ci := 6) (cfC_T tx1 _) rfl k_309 k_310 k_311 k_2 k_312 0 rfl (by decide +kernel) (by decide) rfl hl.1 (Nat.le_of_ble_eq_true rfl) d_C_requireTape_4 (fun v M' H locs hq hP _ _ hS => ?_)
  obtain ⟨rfl, rfl⟩ := hq
  refine W.eq (g2 := F0 m 7 ls [.int (bI (false))]) rfl ?_
  refine z_eq (t := false) (tgt := 21) hx hb d_C_requireTape_7 (by decide) (fun _ => ?_) (fun h9 => absurd h9 (by decide))
  exact r_v hx hb hr hlocks hP hS (⟨rfl, rfl⟩) d_C_requireTape_21

set_option maxHeartbeats 4000000 in
set_option maxRecDepth 100000 in
theorem x_C_rqt (l : Launch) (D : va_G) (cI cC cZ cT : ClassId) (ad : Nat → Nat) (hI : GI 144 ad) (hlT : l.stackTraces = false) (M : PM) (tl : Nat) (tc : Nat → Nat) (hT1 : TT M 1 tl tc) (h0 : tl = 0) : MX l D cI cC cZ cT ad y_C_requireTape b_C_requireTape 1 none 6 90 [.ref (ad (0))] M "java/lang/IllegalStateException" (fun M' => M = M') := by
  refine MX.of (by decide) (Nat.le_of_ble_eq_true rfl) ?_
  intro p e s m below meth c ls hx hb hr hml hown hg hlocks hK hN hX hTb hP hS hl
  have hown : s.vm.findClass R_C = some m.cls := hown
  have hl : lv_has ls 1 [(0, .ref (ad (0)))] := hl
  refine lv_aload_n hx hb d_C_requireTape_0 rfl (lv_at hl 0 rfl) ?_
  refine g_get (C := R_C) (T := T_C) (N := 15) (ci := 7) (v := .ref (ad (1))) hx hb hg i_C hown hK hP 0 (by decide) rfl rfl 0 (by decide) (hg _ k_128) rfl d_C_requireTape_1 ?_
  refine c_V (own := R_C) (index := 126) (As := []) (rest := []) hx hb hml hown hg hK NXc.same hN.warm (fun _ h => h) hP hS 1 (c_T_isEmpty l D cI cC cZ cT ad hI M 1 tx1 (tl) tc hT1 true ⟨fun _ => h0, fun _ => rfl⟩) (tx_lt tx1) (ci := 6) (cfC_T tx1 _) rfl k_309 k_310 k_311 k_2 k_312 0 rfl (by decide +kernel) (by decide) rfl hl.1 (Nat.le_of_ble_eq_true rfl) d_C_requireTape_4 (fun v M' H locs hq hP _ _ hS => ?_)
  obtain ⟨rfl, rfl⟩ := hq
  refine W.eq (g2 := F0 m 7 ls [.int (bI (true))]) rfl ?_
  refine z_eq (t := true) (tgt := 21) hx hb d_C_requireTape_7 (by decide) (fun h9 => absurd h9 (by decide)) (fun _ => ?_)
  exact t_SW hx hb hlT xat_ISE sx_304 hown hg hX hTb hlocks (hl.1.trans hml.symm) hP hS (rfl) (by decide) (Nat.le_of_ble_eq_true rfl) d_C_requireTape_10 d_C_requireTape_13 d_C_requireTape_14 d_C_requireTape_17 d_C_requireTape_20

set_option maxHeartbeats 4000000 in
set_option maxRecDepth 100000 in
theorem c_C_nof_o (l : Launch) (D : va_G) (cI cC cZ cT : ClassId) (ad : Nat → Nat) (hI : GI 144 ad) (M : PM) (n : Nat) (len : Nat → Nat) (ch : Nat → Nat → Nat) (hN7 : CN M n len ch) (u : Nat) (hu : tx u) (hu9 : u = 1 ∨ u = 5) (ul : Nat) (uc : Nat → Nat) (hU : TT M u ul uc) (k9 : Nat) (ho : Fst (sameT len ch ul uc) n (some k9)) : MD l D cI cC cZ cT ad y_C_numberOf b_C_numberOf 3 (some .int) 3 66 [.ref (ad (0)), .ref (ad (u))] M (fun v M' => v = some (.int (nI k9)) ∧ M = M') := by
  refine MC.of (by decide) (Nat.le_of_ble_eq_true rfl) ?_
  intro p e s m below meth c ls hx hb hr hml hown hg hlocks hK hN hP hS hl
  have hown : s.vm.findClass R_C = some m.cls := hown
  have hl : lv_has ls 3 [(0, .ref (ad (0))), (1, .ref (ad (u)))] := hl
  have hn60 := hN7.1
  have hnm := hN7.2.2.1
  have hcu := hU.1
  have hc49 := capT_24 u
  have hk9 := ho.1
  refine lv_aload_n hx hb d_C_numberOf_0 rfl (lv_at hl 0 rfl) ?_
  refine g_get (C := R_C) (T := T_C) (N := 15) (ci := 7) (v := .ref (ad (7))) hx hb hg i_C hown hK hP 0 (by decide) rfl rfl 3 (by decide) (hg _ k_131) rfl d_C_numberOf_1 ?_
  refine lv_aload_n hx hb d_C_numberOf_4 rfl (lv_at hl 1 rfl) ?_
  refine c_V (own := R_C) (index := 306) (As := [.ref (ad (u))]) (rest := []) hx hb hml hown hg hK NXc.same hN.warm (fun _ h => h) hP hS 7 (c_N_find l D cI cC cZ cT ad hI M n len ch hN7 u hu ul uc hU (some k9) ho) (by decide) (ci := 0) rfl rfl k_333 k_334 k_335 k_3 k_336 1 rfl (by decide +kernel) (by decide) rfl hl.1 (Nat.le_of_ble_eq_true rfl) d_C_numberOf_5 (fun v M' H locs hq hP _ _ hS => ?_)
  obtain ⟨rfl, rfl⟩ := hq
  refine W.eq (g2 := F0 m 8 ls [.int (nI (k9))]) rfl ?_
  refine lv_istore_n (lv' := [(2, .int (nI (k9))), (0, .ref (ad (0))), (1, .ref (ad (u)))]) hx hb d_C_numberOf_8 rfl hl (by decide) rfl (fun ls hl => ?_)
  refine lv_iload_n hx hb d_C_numberOf_9 rfl (lv_at hl 0 rfl) ?_
  refine lv_iconst (v := -1) hx hb d_C_numberOf_10 (by decide) ?_
  refine lv_icmp_eq (tgt := 16) hx hb d_C_numberOf_11 (by decide) (fun c_11 => ?_) (fun c_11 => ?_)
  · exact absurd c_11 (nI_m1 (by omega))
  · refine lv_iload_n hx hb d_C_numberOf_14 rfl (lv_at hl 0 rfl) ?_
    exact r_i hx hb hr hlocks hP hS (⟨rfl, rfl⟩) d_C_numberOf_15

set_option maxHeartbeats 4000000 in
set_option maxRecDepth 100000 in
theorem c_C_nof_n (l : Launch) (D : va_G) (cI cC cZ cT : ClassId) (ad : Nat → Nat) (hI : GI 144 ad) (M : PM) (n : Nat) (len : Nat → Nat) (ch : Nat → Nat → Nat) (hN7 : CN M n len ch) (u : Nat) (hu : tx u) (hu9 : u = 1 ∨ u = 5) (ul : Nat) (uc : Nat → Nat) (hU : TT M u ul uc) (ho : Fst (sameT len ch ul uc) n none) (h24 : ul ≤ 24) (hn9 : n < 60) : MD l D cI cC cZ cT ad y_C_numberOf b_C_numberOf 3 (some .int) 4 88 [.ref (ad (0)), .ref (ad (u))] M (fun v M' => v = some (.int (nI n)) ∧ TT M' (9 + 2 * n) ul uc ∧ M' 7 1 = nI (n + 1) ∧ ∀ p q, ¬ (p = 7 ∧ q = 1) → ¬ (p = 9 + 2 * n ∧ q = 1) → p ≠ 9 + 2 * n + 1 → M' p q = M p q) := by
  refine MC.of (by decide) (Nat.le_of_ble_eq_true rfl) ?_
  intro p e s m below meth c ls hx hb hr hml hown hg hlocks hK hN hP hS hl
  have hown : s.vm.findClass R_C = some m.cls := hown
  have hl : lv_has ls 3 [(0, .ref (ad (0))), (1, .ref (ad (u)))] := hl
  have hn60 := hN7.1
  have hnm := hN7.2.2.1
  have hcu := hU.1
  have hc49 := capT_24 u
  refine lv_aload_n hx hb d_C_numberOf_0 rfl (lv_at hl 0 rfl) ?_
  refine g_get (C := R_C) (T := T_C) (N := 15) (ci := 7) (v := .ref (ad (7))) hx hb hg i_C hown hK hP 0 (by decide) rfl rfl 3 (by decide) (hg _ k_131) rfl d_C_numberOf_1 ?_
  refine lv_aload_n hx hb d_C_numberOf_4 rfl (lv_at hl 1 rfl) ?_
  refine c_V (own := R_C) (index := 306) (As := [.ref (ad (u))]) (rest := []) hx hb hml hown hg hK NXc.same hN.warm (fun _ h => h) hP hS 7 (c_N_find l D cI cC cZ cT ad hI M n len ch hN7 u hu ul uc hU (none) ho) (by decide) (ci := 0) rfl rfl k_333 k_334 k_335 k_3 k_336 1 rfl (by decide +kernel) (by decide) rfl hl.1 (Nat.le_of_ble_eq_true rfl) d_C_numberOf_5 (fun v M' H locs hq hP _ _ hS => ?_)
  obtain ⟨rfl, rfl⟩ := hq
  refine W.eq (g2 := F0 m 8 ls [.int (-1)]) rfl ?_
  refine lv_istore_n (lv' := [(2, .int (-1)), (0, .ref (ad (0))), (1, .ref (ad (u)))]) hx hb d_C_numberOf_8 rfl hl (by decide) rfl (fun ls hl => ?_)
  refine lv_iload_n hx hb d_C_numberOf_9 rfl (lv_at hl 0 rfl) ?_
  refine lv_iconst (v := -1) hx hb d_C_numberOf_10 (by decide) ?_
  refine lv_icmp_eq (tgt := 16) hx hb d_C_numberOf_11 (by decide) (fun c_11 => ?_) (fun c_11 => ?_)
  · refine lv_aload_n hx hb d_C_numberOf_16 rfl (lv_at hl 2 rfl) ?_
    refine c_V (own := R_C) (index := 109) (As := []) (rest := []) hx hb hml hown hg hK NXc.same hN.warm (fun _ h => h) hP hS u (c_T_length l D cI cC cZ cT ad hI M u hu ul uc hU) (tx_lt hu) (ci := 6) (cfC_T hu _) rfl k_179 k_180 k_181 k_2 k_182 0 rfl (by decide +kernel) (by decide) rfl hl.1 (Nat.le_of_ble_eq_true rfl) d_C_numberOf_17 (fun v M' H locs hq hP _ _ hS => ?_)
    obtain ⟨rfl, rfl⟩ := hq
    refine W.eq (g2 := F0 m 20 ls [.int (nI (ul))]) rfl ?_
    refine n_bipush (k := 24) hx hb d_C_numberOf_20 (by decide) ?_
    refine n_gt (a := ul) (b := 24) (tgt := 35) hx hb d_C_numberOf_22 (by decide) (by omega) (by omega) (fun c_22 => ?_) (fun c_22 => ?_)
    · exact absurd c_22 (by omega)
    · refine lv_aload_n hx hb d_C_numberOf_25 rfl (lv_at hl 1 rfl) ?_
      refine g_get (C := R_C) (T := T_C) (N := 15) (ci := 7) (v := .ref (ad (7))) hx hb hg i_C hown hK hP 0 (by decide) rfl rfl 3 (by decide) (hg _ k_131) rfl d_C_numberOf_26 ?_
      refine c_V (own := R_C) (index := 309) (As := []) (rest := []) hx hb hml hown hg hK NXc.same hN.warm (fun _ h => h) hP hS 7 (c_N_isFull l D cI cC cZ cT ad hI M n len ch hN7 false ⟨fun h => (by cases h), fun h => by omega⟩) (by decide) (ci := 0) rfl rfl k_344 k_345 k_346 k_3 k_347 0 rfl (by decide +kernel) (by decide) rfl hl.1 (Nat.le_of_ble_eq_true rfl) d_C_numberOf_29 (fun v M' H locs hq hP _ _ hS => ?_)
      obtain ⟨rfl, rfl⟩ := hq
      refine W.eq (g2 := F0 m 32 ls [.int (bI (false))]) rfl ?_
      refine z_eq (t := false) (tgt := 46) hx hb d_C_numberOf_32 (by decide) (fun _ => ?_) (fun h9 => absurd h9 (by decide))
      refine lv_aload_n hx hb d_C_numberOf_46 rfl (lv_at hl 1 rfl) ?_
      refine g_get (C := R_C) (T := T_C) (N := 15) (ci := 7) (v := .ref (ad (7))) hx hb hg i_C hown hK hP 0 (by decide) rfl rfl 3 (by decide) (hg _ k_131) rfl d_C_numberOf_47 ?_
      refine lv_aload_n hx hb d_C_numberOf_50 rfl (lv_at hl 2 rfl) ?_
      refine c_V (own := R_C) (index := 312) (As := [.ref (ad (u))]) (rest := []) hx hb hml hown hg hK NXc.same hN.warm (fun _ h => h) hP hS 7 (c_N_add l D cI cC cZ cT ad hI M n len ch hN7 u hu ul uc hU hn9 (by omega) h24) (by decide) (ci := 0) rfl rfl k_349 k_350 k_351 k_3 k_352 1 rfl (by decide +kernel) (by decide) rfl hl.1 (Nat.le_of_ble_eq_true rfl) d_C_numberOf_51 (fun v M_1 H locs hq hP _ _ hS => ?_)
      obtain ⟨rfl, hq9⟩ := hq
      refine W.eq (g2 := F0 m 54 ls [.int (nI (n))]) rfl ?_
      exact r_i hx hb hr hlocks hP hS (⟨rfl, hq9⟩) d_C_numberOf_54
  · exact absurd rfl c_11

set_option maxHeartbeats 4000000 in
set_option maxRecDepth 100000 in
theorem x_C_nof (l : Launch) (D : va_G) (cI cC cZ cT : ClassId) (ad : Nat → Nat) (hI : GI 144 ad) (hlT : l.stackTraces = false) (M : PM) (n : Nat) (len : Nat → Nat) (ch : Nat → Nat → Nat) (hN7 : CN M n len ch) (u : Nat) (hu : tx u) (hu9 : u = 1 ∨ u = 5) (ul : Nat) (uc : Nat → Nat) (hU : TT M u ul uc) (ho : Fst (sameT len ch ul uc) n none) (htm : 24 < ul ∨ n = 60) : MX l D cI cC cZ cT ad y_C_numberOf b_C_numberOf 3 (some .int) 6 90 [.ref (ad (0)), .ref (ad (u))] M "java/lang/UnsupportedOperationException" (fun M' => M = M') := by
  refine MX.of (by decide) (Nat.le_of_ble_eq_true rfl) ?_
  intro p e s m below meth c ls hx hb hr hml hown hg hlocks hK hN hX hTb hP hS hl
  have hown : s.vm.findClass R_C = some m.cls := hown
  have hl : lv_has ls 3 [(0, .ref (ad (0))), (1, .ref (ad (u)))] := hl
  have hn60 := hN7.1
  have hnm := hN7.2.2.1
  have hcu := hU.1
  have hc49 := capT_24 u
  obtain ⟨b9, hb9⟩ := bex (60 ≤ n)
  refine lv_aload_n hx hb d_C_numberOf_0 rfl (lv_at hl 0 rfl) ?_
  refine g_get (C := R_C) (T := T_C) (N := 15) (ci := 7) (v := .ref (ad (7))) hx hb hg i_C hown hK hP 0 (by decide) rfl rfl 3 (by decide) (hg _ k_131) rfl d_C_numberOf_1 ?_
  refine lv_aload_n hx hb d_C_numberOf_4 rfl (lv_at hl 1 rfl) ?_
  refine c_V (own := R_C) (index := 306) (As := [.ref (ad (u))]) (rest := []) hx hb hml hown hg hK NXc.same hN.warm (fun _ h => h) hP hS 7 (c_N_find l D cI cC cZ cT ad hI M n len ch hN7 u hu ul uc hU (none) ho) (by decide) (ci := 0) rfl rfl k_333 k_334 k_335 k_3 k_336 1 rfl (by decide +kernel) (by decide) rfl hl.1 (Nat.le_of_ble_eq_true rfl) d_C_numberOf_5 (fun v M' H locs hq hP _ _ hS => ?_)
  obtain ⟨rfl, rfl⟩ := hq
  refine W.eq (g2 := F0 m 8 ls [.int (-1)]) rfl ?_
  refine lv_istore_n (lv' := [(2, .int (-1)), (0, .ref (ad (0))), (1, .ref (ad (u)))]) hx hb d_C_numberOf_8 rfl hl (by decide) rfl (fun ls hl => ?_)
  refine lv_iload_n hx hb d_C_numberOf_9 rfl (lv_at hl 0 rfl) ?_
  refine lv_iconst (v := -1) hx hb d_C_numberOf_10 (by decide) ?_
  refine lv_icmp_eq (tgt := 16) hx hb d_C_numberOf_11 (by decide) (fun c_11 => ?_) (fun c_11 => ?_)
  · refine lv_aload_n hx hb d_C_numberOf_16 rfl (lv_at hl 2 rfl) ?_
    refine c_V (own := R_C) (index := 109) (As := []) (rest := []) hx hb hml hown hg hK NXc.same hN.warm (fun _ h => h) hP hS u (c_T_length l D cI cC cZ cT ad hI M u hu ul uc hU) (tx_lt hu) (ci := 6) (cfC_T hu _) rfl k_179 k_180 k_181 k_2 k_182 0 rfl (by decide +kernel) (by decide) rfl hl.1 (Nat.le_of_ble_eq_true rfl) d_C_numberOf_17 (fun v M' H locs hq hP _ _ hS => ?_)
    obtain ⟨rfl, rfl⟩ := hq
    refine W.eq (g2 := F0 m 20 ls [.int (nI (ul))]) rfl ?_
    refine n_bipush (k := 24) hx hb d_C_numberOf_20 (by decide) ?_
    refine n_gt (a := ul) (b := 24) (tgt := 35) hx hb d_C_numberOf_22 (by decide) (by omega) (by omega) (fun c_22 => ?_) (fun c_22 => ?_)
    · exact t_SW hx hb hlT xat_UOE sx_310 hown hg hX hTb hlocks (hl.1.trans hml.symm) hP hS (rfl) (by decide) (Nat.le_of_ble_eq_true rfl) d_C_numberOf_35 d_C_numberOf_38 d_C_numberOf_39 d_C_numberOf_42 d_C_numberOf_45
    · refine lv_aload_n hx hb d_C_numberOf_25 rfl (lv_at hl 1 rfl) ?_
      refine g_get (C := R_C) (T := T_C) (N := 15) (ci := 7) (v := .ref (ad (7))) hx hb hg i_C hown hK hP 0 (by decide) rfl rfl 3 (by decide) (hg _ k_131) rfl d_C_numberOf_26 ?_
      refine c_V (own := R_C) (index := 309) (As := []) (rest := []) hx hb hml hown hg hK NXc.same hN.warm (fun _ h => h) hP hS 7 (c_N_isFull l D cI cC cZ cT ad hI M n len ch hN7 b9 hb9) (by decide) (ci := 0) rfl rfl k_344 k_345 k_346 k_3 k_347 0 rfl (by decide +kernel) (by decide) rfl hl.1 (Nat.le_of_ble_eq_true rfl) d_C_numberOf_29 (fun v M' H locs hq hP _ _ hS => ?_)
      obtain ⟨rfl, rfl⟩ := hq
      refine W.eq (g2 := F0 m 32 ls [.int (bI (b9))]) rfl ?_
      refine z_eq (t := b9) (tgt := 46) hx hb d_C_numberOf_32 (by decide) (fun c_32 => ?_) (fun c_32 => ?_)
      · exact absurd (hb9.mpr (by omega)) (by rw [c_32]; decide)
      · exact t_SW hx hb hlT xat_UOE sx_310 hown hg hX hTb hlocks (hl.1.trans hml.symm) hP hS (rfl) (by decide) (Nat.le_of_ble_eq_true rfl) d_C_numberOf_35 d_C_numberOf_38 d_C_numberOf_39 d_C_numberOf_42 d_C_numberOf_45
  · exact absurd rfl c_11
