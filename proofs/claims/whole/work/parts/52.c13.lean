set_option maxHeartbeats 4000000 in
set_option maxRecDepth 100000 in
theorem x_C_prefix_1a (l : Launch) (D : va_G) (cI cC cZ cT : ClassId) (ad : Nat → Nat) (hI : GI 144 ad) (hlT : l.stackTraces = false) (M : PM) (n : Nat) (len : Nat → Nat) (ch : Nat → Nat → Nat) (hN7 : CN M n len ch) (x y : Int32) (hbad : ¬ ∃ j, j < n ∧ x = nI j) : MX l D cI cC cZ cT ad y_C_prefix b_C_prefix 4 (some .boolean) 7 111 [.ref (ad (0)), .int (x), .int (y)] M "java/lang/IndexOutOfBoundsException" (fun M' => M = M') := by
  refine MX.of (by decide) (Nat.le_of_ble_eq_true rfl) ?_
  intro p e s m below meth c ls hx hb hr hml hown hg hlocks hK hN hX hTb hP hS hl
  have hown : s.vm.findClass R_C = some m.cls := hown
  have hl : lv_has ls 4 [(0, .ref (ad (0))), (1, .int (x)), (2, .int (y))] := hl
  refine lv_aload_n hx hb d_C_prefix_0 rfl (lv_at hl 0 rfl) ?_
  refine lv_iload_n hx hb d_C_prefix_1 rfl (lv_at hl 1 rfl) ?_
  exact x_V (own := R_C) (index := 131) (As := [.int (x)]) (rest := []) hx hb hml hown hg hK hN hX hTb hlocks hP hS 0 (x_C_rqn l D cI cC cZ cT ad hI hlT M n len ch hN7 (x) hbad) (by decide) (ci := 7) rfl rfl k_401 k_403 k_p5 k_1 k_404 1 rfl (by decide +kernel) (by decide) rfl hl.1 (Nat.le_of_ble_eq_true rfl) d_C_prefix_2 (fun _ h => h)

set_option maxHeartbeats 4000000 in
set_option maxRecDepth 100000 in
theorem x_C_prefix_1b (l : Launch) (D : va_G) (cI cC cZ cT : ClassId) (ad : Nat → Nat) (hI : GI 144 ad) (hlT : l.stackTraces = false) (M : PM) (n : Nat) (len : Nat → Nat) (ch : Nat → Nat → Nat) (hN7 : CN M n len ch) (a : Nat) (ha : a < n) (x : Int32) (hbad : ¬ ∃ j, j < n ∧ x = nI j) : MX l D cI cC cZ cT ad y_C_prefix b_C_prefix 4 (some .boolean) 7 111 [.ref (ad (0)), .int (nI (a)), .int (x)] M "java/lang/IndexOutOfBoundsException" (fun M' => M = M') := by
  refine MX.of (by decide) (Nat.le_of_ble_eq_true rfl) ?_
  intro p e s m below meth c ls hx hb hr hml hown hg hlocks hK hN hX hTb hP hS hl
  have hown : s.vm.findClass R_C = some m.cls := hown
  have hl : lv_has ls 4 [(0, .ref (ad (0))), (1, .int (nI (a))), (2, .int (x))] := hl
  have hn60 := hN7.1
  have hnm := hN7.2.2.1
  refine lv_aload_n hx hb d_C_prefix_0 rfl (lv_at hl 0 rfl) ?_
  refine lv_iload_n hx hb d_C_prefix_1 rfl (lv_at hl 1 rfl) ?_
  refine c_V (own := R_C) (index := 131) (As := [.int (nI (a))]) (rest := []) hx hb hml hown hg hK NXc.same hN.warm (fun _ h => h) hP hS 0 (c_C_rqn l D cI cC cZ cT ad hI M n len ch hN7 (a) (by omega)) (by decide) (ci := 7) rfl rfl k_401 k_403 k_p5 k_1 k_404 1 rfl (by decide +kernel) (by decide) rfl hl.1 (Nat.le_of_ble_eq_true rfl) d_C_prefix_2 (fun v M' H locs hq hP _ _ hS => ?_)
  obtain ⟨rfl, rfl⟩ := hq
  refine W.eq (g2 := F0 m 5 ls []) rfl ?_
  refine lv_aload_n hx hb d_C_prefix_5 rfl (lv_at hl 0 rfl) ?_
  refine lv_iload_n hx hb d_C_prefix_6 rfl (lv_at hl 2 rfl) ?_
  exact x_V (own := R_C) (index := 131) (As := [.int (x)]) (rest := []) hx hb hml hown hg hK hN hX hTb hlocks hP hS 0 (x_C_rqn l D cI cC cZ cT ad hI hlT M n len ch hN7 (x) hbad) (by decide) (ci := 7) rfl rfl k_401 k_403 k_p5 k_1 k_404 1 rfl (by decide +kernel) (by decide) rfl hl.1 (Nat.le_of_ble_eq_true rfl) d_C_prefix_7 (fun _ h => h)

set_option maxHeartbeats 4000000 in
set_option maxRecDepth 100000 in
theorem x_C_prefix_2 (l : Launch) (D : va_G) (cI cC cZ cT : ClassId) (ad : Nat → Nat) (hI : GI 144 ad) (hlT : l.stackTraces = false) (M : PM) (n : Nat) (len : Nat → Nat) (ch : Nat → Nat → Nat) (hN7 : CN M n len ch) (a b9 : Nat) (ha : a < n) (hb9 : b9 < n) (h2 : a = b9 ∨ ¬ cbs len ch b9) : MX l D cI cC cZ cT ad y_C_prefix b_C_prefix 4 (some .boolean) 6 90 [.ref (ad (0)), .int (nI (a)), .int (nI (b9))] M "java/lang/IllegalArgumentException" (fun M' => M = M') := by
  refine MX.of (by decide) (Nat.le_of_ble_eq_true rfl) ?_
  intro p e s m below meth c ls hx hb hr hml hown hg hlocks hK hN hX hTb hP hS hl
  have hown : s.vm.findClass R_C = some m.cls := hown
  have hl : lv_has ls 4 [(0, .ref (ad (0))), (1, .int (nI (a))), (2, .int (nI (b9)))] := hl
  have hn60 := hN7.1
  have hnm := hN7.2.2.1
  obtain ⟨t1, ht1⟩ := bex (cbs len ch b9)
  refine lv_aload_n hx hb d_C_prefix_0 rfl (lv_at hl 0 rfl) ?_
  refine lv_iload_n hx hb d_C_prefix_1 rfl (lv_at hl 1 rfl) ?_
  refine c_V (own := R_C) (index := 131) (As := [.int (nI (a))]) (rest := []) hx hb hml hown hg hK NXc.same hN.warm (fun _ h => h) hP hS 0 (c_C_rqn l D cI cC cZ cT ad hI M n len ch hN7 (a) (by omega)) (by decide) (ci := 7) rfl rfl k_401 k_403 k_p5 k_1 k_404 1 rfl (by decide +kernel) (by decide) rfl hl.1 (Nat.le_of_ble_eq_true rfl) d_C_prefix_2 (fun v M' H locs hq hP _ _ hS => ?_)
  obtain ⟨rfl, rfl⟩ := hq
  refine W.eq (g2 := F0 m 5 ls []) rfl ?_
  refine lv_aload_n hx hb d_C_prefix_5 rfl (lv_at hl 0 rfl) ?_
  refine lv_iload_n hx hb d_C_prefix_6 rfl (lv_at hl 2 rfl) ?_
  refine c_V (own := R_C) (index := 131) (As := [.int (nI (b9))]) (rest := []) hx hb hml hown hg hK NXc.same hN.warm (fun _ h => h) hP hS 0 (c_C_rqn l D cI cC cZ cT ad hI M n len ch hN7 (b9) (by omega)) (by decide) (ci := 7) rfl rfl k_401 k_403 k_p5 k_1 k_404 1 rfl (by decide +kernel) (by decide) rfl hl.1 (Nat.le_of_ble_eq_true rfl) d_C_prefix_7 (fun v M' H locs hq hP _ _ hS => ?_)
  obtain ⟨rfl, rfl⟩ := hq
  refine W.eq (g2 := F0 m 10 ls []) rfl ?_
  refine lv_iload_n hx hb d_C_prefix_10 rfl (lv_at hl 1 rfl) ?_
  refine lv_iload_n hx hb d_C_prefix_11 rfl (lv_at hl 2 rfl) ?_
  refine n_eq (a := a) (b := b9) (tgt := 29) hx hb d_C_prefix_12 (by decide) (by omega) (by omega) (fun c_12 => ?_) (fun c_12 => ?_)
  · exact t_S hx hb hlT xat_IAE sx_141 hown hg hX hTb hlocks (hl.1.trans hml.symm) hP hS (rfl) (by decide) (Nat.le_of_ble_eq_true rfl) d_C_prefix_29 d_C_prefix_32 d_C_prefix_33 d_C_prefix_35 d_C_prefix_38
  · refine lv_aload_n hx hb d_C_prefix_15 rfl (lv_at hl 0 rfl) ?_
    refine g_get (C := R_C) (T := T_C) (N := 15) (ci := 7) (v := .ref (ad (7))) hx hb hg i_C hown hK hP 0 (by decide) rfl rfl 3 (by decide) (hg _ k_131) rfl d_C_prefix_16 ?_
    refine lv_iload_n hx hb d_C_prefix_19 rfl (lv_at hl 2 rfl) ?_
    refine c_V (own := R_C) (index := 134) (As := [.int (nI (b9))]) (rest := []) hx hb hml hown hg hK NXc.same hN.warm (fun _ h => h) hP hS 7 (c_N_text l D cI cC cZ cT ad hI M (b9) (by omega)) (by decide) (ci := 0) rfl rfl k_387 k_388 k_389 k_3 k_390 1 rfl (by decide +kernel) (by decide) rfl hl.1 (Nat.le_of_ble_eq_true rfl) d_C_prefix_20 (fun v M' H locs hq hP _ _ hS => ?_)
    obtain ⟨rfl, rfl⟩ := hq
    refine W.eq (g2 := F0 m 23 ls [.ref (ad (9 + 2 * (b9)))]) rfl ?_
    refine c_V (own := R_C) (index := 138) (As := []) (rest := []) hx hb hml hown hg hK NXc.same hN.warm (fun _ h => h) hP hS (9 + 2 * (b9)) (c_T_canBeShort l D cI cC cZ cT ad hI M (9 + 2 * b9) (txn (by omega)) (len b9) (ch b9) (hnm b9 hb9).2.2.2 (hnm b9 hb9).1 t1 ht1) (tx_lt (txn (by omega))) (ci := 6) (cfC_T (txn (by omega)) _) rfl k_425 k_426 k_427 k_2 k_428 0 rfl (by decide +kernel) (by decide) rfl hl.1 (Nat.le_of_ble_eq_true rfl) d_C_prefix_23 (fun v M' H locs hq hP _ _ hS => ?_)
    obtain ⟨rfl, rfl⟩ := hq
    refine W.eq (g2 := F0 m 26 ls [.int (bI (t1))]) rfl ?_
    refine z_ne (t := t1) (tgt := 39) hx hb d_C_prefix_26 (by decide) (fun c_26 => ?_) (fun c_26 => ?_)
    · exact absurd h2 (fun h => by rcases h with h | h; exact c_12 h; exact h (ht1.mp c_26))
    · exact t_S hx hb hlT xat_IAE sx_141 hown hg hX hTb hlocks (hl.1.trans hml.symm) hP hS (rfl) (by decide) (Nat.le_of_ble_eq_true rfl) d_C_prefix_29 d_C_prefix_32 d_C_prefix_33 d_C_prefix_35 d_C_prefix_38

set_option maxHeartbeats 4000000 in
set_option maxRecDepth 100000 in
theorem c_C_prefix_c (l : Launch) (D : va_G) (cI cC cZ cT : ClassId) (ad : Nat → Nat) (hI : GI 144 ad) (M : PM) (n : Nat) (len : Nat → Nat) (ch : Nat → Nat → Nat) (hN7 : CN M n len ch) (sp bs : Nat → Option Nat) (hH : CSp M n sp bs) (a b9 : Nat) (ha : a < n) (hb9 : b9 < n) (hab : a ≠ b9) (hc9 : cbs len ch b9) (w9 : Nat) (hw9 : sp b9 = some w9) (hne : w9 ≠ a) : MD l D cI cC cZ cT ad y_C_prefix b_C_prefix 4 (some .boolean) 2 42 [.ref (ad (0)), .int (nI (a)), .int (nI (b9))] M (fun v M' => v = some (.int (bI false)) ∧ M' = pu (pu (pu M 0 12 (nI 1)) 0 13 (nI w9)) 0 14 (nI a)) := by
  refine MC.of (by decide) (Nat.le_of_ble_eq_true rfl) ?_
  intro p e s m below meth c ls hx hb hr hml hown hg hlocks hK hN hP hS hl
  have hown : s.vm.findClass R_C = some m.cls := hown
  have hl : lv_has ls 4 [(0, .ref (ad (0))), (1, .int (nI (a))), (2, .int (nI (b9)))] := hl
  have hn60 := hN7.1
  have hnm := hN7.2.2.1
  have hspn := hH.2.2.1
  have hbsn := hH.2.2.2
  have hw9n := (hspn b9 w9 hw9).2
  refine lv_aload_n hx hb d_C_prefix_0 rfl (lv_at hl 0 rfl) ?_
  refine lv_iload_n hx hb d_C_prefix_1 rfl (lv_at hl 1 rfl) ?_
  refine c_V (own := R_C) (index := 131) (As := [.int (nI (a))]) (rest := []) hx hb hml hown hg hK NXc.same hN.warm (fun _ h => h) hP hS 0 (c_C_rqn l D cI cC cZ cT ad hI M n len ch hN7 (a) (by omega)) (by decide) (ci := 7) rfl rfl k_401 k_403 k_p5 k_1 k_404 1 rfl (by decide +kernel) (by decide) rfl hl.1 (Nat.le_of_ble_eq_true rfl) d_C_prefix_2 (fun v M' H locs hq hP _ _ hS => ?_)
  obtain ⟨rfl, rfl⟩ := hq
  refine W.eq (g2 := F0 m 5 ls []) rfl ?_
  refine lv_aload_n hx hb d_C_prefix_5 rfl (lv_at hl 0 rfl) ?_
  refine lv_iload_n hx hb d_C_prefix_6 rfl (lv_at hl 2 rfl) ?_
  refine c_V (own := R_C) (index := 131) (As := [.int (nI (b9))]) (rest := []) hx hb hml hown hg hK NXc.same hN.warm (fun _ h => h) hP hS 0 (c_C_rqn l D cI cC cZ cT ad hI M n len ch hN7 (b9) (by omega)) (by decide) (ci := 7) rfl rfl k_401 k_403 k_p5 k_1 k_404 1 rfl (by decide +kernel) (by decide) rfl hl.1 (Nat.le_of_ble_eq_true rfl) d_C_prefix_7 (fun v M' H locs hq hP _ _ hS => ?_)
  obtain ⟨rfl, rfl⟩ := hq
  refine W.eq (g2 := F0 m 10 ls []) rfl ?_
  refine lv_iload_n hx hb d_C_prefix_10 rfl (lv_at hl 1 rfl) ?_
  refine lv_iload_n hx hb d_C_prefix_11 rfl (lv_at hl 2 rfl) ?_
  refine n_eq (a := a) (b := b9) (tgt := 29) hx hb d_C_prefix_12 (by decide) (by omega) (by omega) (fun c_12 => ?_) (fun c_12 => ?_)
  · exact absurd c_12 (by omega)
  · refine lv_aload_n hx hb d_C_prefix_15 rfl (lv_at hl 0 rfl) ?_
    refine g_get (C := R_C) (T := T_C) (N := 15) (ci := 7) (v := .ref (ad (7))) hx hb hg i_C hown hK hP 0 (by decide) rfl rfl 3 (by decide) (hg _ k_131) rfl d_C_prefix_16 ?_
    refine lv_iload_n hx hb d_C_prefix_19 rfl (lv_at hl 2 rfl) ?_
    refine c_V (own := R_C) (index := 134) (As := [.int (nI (b9))]) (rest := []) hx hb hml hown hg hK NXc.same hN.warm (fun _ h => h) hP hS 7 (c_N_text l D cI cC cZ cT ad hI M (b9) (by omega)) (by decide) (ci := 0) rfl rfl k_387 k_388 k_389 k_3 k_390 1 rfl (by decide +kernel) (by decide) rfl hl.1 (Nat.le_of_ble_eq_true rfl) d_C_prefix_20 (fun v M' H locs hq hP _ _ hS => ?_)
    obtain ⟨rfl, rfl⟩ := hq
    refine W.eq (g2 := F0 m 23 ls [.ref (ad (9 + 2 * (b9)))]) rfl ?_
    refine c_V (own := R_C) (index := 138) (As := []) (rest := []) hx hb hml hown hg hK NXc.same hN.warm (fun _ h => h) hP hS (9 + 2 * (b9)) (c_T_canBeShort l D cI cC cZ cT ad hI M (9 + 2 * b9) (txn (by omega)) (len b9) (ch b9) (hnm b9 hb9).2.2.2 (hnm b9 hb9).1 true ⟨fun _ => hc9, fun _ => rfl⟩) (tx_lt (txn (by omega))) (ci := 6) (cfC_T (txn (by omega)) _) rfl k_425 k_426 k_427 k_2 k_428 0 rfl (by decide +kernel) (by decide) rfl hl.1 (Nat.le_of_ble_eq_true rfl) d_C_prefix_23 (fun v M' H locs hq hP _ _ hS => ?_)
    obtain ⟨rfl, rfl⟩ := hq
    refine W.eq (g2 := F0 m 26 ls [.int (bI (true))]) rfl ?_
    refine z_ne (t := true) (tgt := 39) hx hb d_C_prefix_26 (by decide) (fun _ => ?_) (fun h9 => absurd h9 (by decide))
    refine lv_aload_n hx hb d_C_prefix_39 rfl (lv_at hl 0 rfl) ?_
    refine g_get (C := R_C) (T := T_C) (N := 15) (ci := 7) (v := .ref (ad (129))) hx hb hg i_C hown hK hP 0 (by decide) rfl rfl 4 (by decide) (hg _ k_132) rfl d_C_prefix_40 ?_
    refine lv_iload_n hx hb d_C_prefix_43 rfl (lv_at hl 2 rfl) ?_
    refine c_V (own := R_C) (index := 143) (As := [.int (nI (b9))]) (rest := []) hx hb hml hown hg hK NXc.same hN.warm (fun _ h => h) hP hS 129 (c_H_spaceOfShort l D cI cC cZ cT ad hI M n sp bs hH (b9) (by omega)) (by decide) (ci := 3) rfl rfl k_383 k_384 k_385 k_4 k_386 1 rfl (by decide +kernel) (by decide) rfl hl.1 (Nat.le_of_ble_eq_true rfl) d_C_prefix_44 (fun v M' H locs hq hP _ _ hS => ?_)
    obtain ⟨rfl, rfl⟩ := hq
    rw [hw9]
    refine W.eq (g2 := F0 m 47 ls [.int (nI (w9))]) rfl ?_
    refine lv_istore_n (lv' := [(3, .int (nI (w9))), (0, .ref (ad (0))), (1, .int (nI (a))), (2, .int (nI (b9)))]) hx hb d_C_prefix_47 rfl hl (by decide) rfl (fun ls hl => ?_)
    refine lv_iload_n hx hb d_C_prefix_48 rfl (lv_at hl 0 rfl) ?_
    refine lv_iconst (v := -1) hx hb d_C_prefix_49 (by decide) ?_
    refine lv_icmp_eq (tgt := 67) hx hb d_C_prefix_50 (by decide) (fun c_50 => ?_) (fun c_50 => ?_)
    · exact absurd c_50 (nI_m1 (by omega))
    · refine lv_iload_n hx hb d_C_prefix_53 rfl (lv_at hl 0 rfl) ?_
      refine lv_iload_n hx hb d_C_prefix_54 rfl (lv_at hl 2 rfl) ?_
      refine n_eq (a := w9) (b := a) (tgt := 67) hx hb d_C_prefix_55 (by decide) (by omega) (by omega) (fun c_55 => ?_) (fun c_55 => ?_)
      · exact absurd c_55 hne
      · refine lv_aload_n hx hb d_C_prefix_58 rfl (lv_at hl 1 rfl) ?_
        refine n_const (k := 1) hx hb d_C_prefix_59 (by decide) ?_
        refine lv_iload_n hx hb d_C_prefix_60 rfl (lv_at hl 0 rfl) ?_
        refine lv_iload_n hx hb d_C_prefix_61 rfl (lv_at hl 2 rfl) ?_
        refine c_V (own := R_C) (index := 147) (As := [.int (nI (1)), .int (nI (w9)), .int (nI (a))]) (rest := []) hx hb hml hown hg hK NXc.same hN.warm (fun _ h => h) hP hS 0 (c_C_keepClash l D cI cC cZ cT ad hI M ((nI (1))) ((nI (w9))) ((nI (a)))) (by decide) (ci := 7) rfl rfl k_436 k_438 k_p6 k_1 k_439 3 rfl (by decide +kernel) (by decide) rfl hl.1 (Nat.le_of_ble_eq_true rfl) d_C_prefix_62 (fun v M_1 H locs hq hP _ _ hS => ?_)
        obtain ⟨rfl, eM_1⟩ := hq
        refine W.eq (g2 := F0 m 65 ls []) rfl ?_
        refine n_const (k := 0) hx hb d_C_prefix_65 (by decide) ?_
        exact r_z hx hb hr hlocks (rfl) hP hS (⟨rfl, eM_1⟩) d_C_prefix_66

set_option maxHeartbeats 4000000 in
set_option maxRecDepth 100000 in
theorem c_C_prefix_k (l : Launch) (D : va_G) (cI cC cZ cT : ClassId) (ad : Nat → Nat) (hI : GI 144 ad) (M : PM) (n : Nat) (len : Nat → Nat) (ch : Nat → Nat → Nat) (hN7 : CN M n len ch) (sp bs : Nat → Option Nat) (hH : CSp M n sp bs) (a b9 : Nat) (ha : a < n) (hb9 : b9 < n) (hab : a ≠ b9) (hc9 : cbs len ch b9) (hw9 : sp b9 = some a) : MD l D cI cC cZ cT ad y_C_prefix b_C_prefix 4 (some .boolean) 2 42 [.ref (ad (0)), .int (nI (a)), .int (nI (b9))] M (fun v M' => v = some (.int (bI true)) ∧ M = M') := by
  refine MC.of (by decide) (Nat.le_of_ble_eq_true rfl) ?_
  intro p e s m below meth c ls hx hb hr hml hown hg hlocks hK hN hP hS hl
  have hown : s.vm.findClass R_C = some m.cls := hown
  have hl : lv_has ls 4 [(0, .ref (ad (0))), (1, .int (nI (a))), (2, .int (nI (b9)))] := hl
  have hn60 := hN7.1
  have hnm := hN7.2.2.1
  have hspn := hH.2.2.1
  have hbsn := hH.2.2.2
  refine lv_aload_n hx hb d_C_prefix_0 rfl (lv_at hl 0 rfl) ?_
  refine lv_iload_n hx hb d_C_prefix_1 rfl (lv_at hl 1 rfl) ?_
  refine c_V (own := R_C) (index := 131) (As := [.int (nI (a))]) (rest := []) hx hb hml hown hg hK NXc.same hN.warm (fun _ h => h) hP hS 0 (c_C_rqn l D cI cC cZ cT ad hI M n len ch hN7 (a) (by omega)) (by decide) (ci := 7) rfl rfl k_401 k_403 k_p5 k_1 k_404 1 rfl (by decide +kernel) (by decide) rfl hl.1 (Nat.le_of_ble_eq_true rfl) d_C_prefix_2 (fun v M' H locs hq hP _ _ hS => ?_)
  obtain ⟨rfl, rfl⟩ := hq
  refine W.eq (g2 := F0 m 5 ls []) rfl ?_
  refine lv_aload_n hx hb d_C_prefix_5 rfl (lv_at hl 0 rfl) ?_
  refine lv_iload_n hx hb d_C_prefix_6 rfl (lv_at hl 2 rfl) ?_
  refine c_V (own := R_C) (index := 131) (As := [.int (nI (b9))]) (rest := []) hx hb hml hown hg hK NXc.same hN.warm (fun _ h => h) hP hS 0 (c_C_rqn l D cI cC cZ cT ad hI M n len ch hN7 (b9) (by omega)) (by decide) (ci := 7) rfl rfl k_401 k_403 k_p5 k_1 k_404 1 rfl (by decide +kernel) (by decide) rfl hl.1 (Nat.le_of_ble_eq_true rfl) d_C_prefix_7 (fun v M' H locs hq hP _ _ hS => ?_)
  obtain ⟨rfl, rfl⟩ := hq
  refine W.eq (g2 := F0 m 10 ls []) rfl ?_
  refine lv_iload_n hx hb d_C_prefix_10 rfl (lv_at hl 1 rfl) ?_
  refine lv_iload_n hx hb d_C_prefix_11 rfl (lv_at hl 2 rfl) ?_
  refine n_eq (a := a) (b := b9) (tgt := 29) hx hb d_C_prefix_12 (by decide) (by omega) (by omega) (fun c_12 => ?_) (fun c_12 => ?_)
  · exact absurd c_12 (by omega)
  · refine lv_aload_n hx hb d_C_prefix_15 rfl (lv_at hl 0 rfl) ?_
    refine g_get (C := R_C) (T := T_C) (N := 15) (ci := 7) (v := .ref (ad (7))) hx hb hg i_C hown hK hP 0 (by decide) rfl rfl 3 (by decide) (hg _ k_131) rfl d_C_prefix_16 ?_
    refine lv_iload_n hx hb d_C_prefix_19 rfl (lv_at hl 2 rfl) ?_
    refine c_V (own := R_C) (index := 134) (As := [.int (nI (b9))]) (rest := []) hx hb hml hown hg hK NXc.same hN.warm (fun _ h => h) hP hS 7 (c_N_text l D cI cC cZ cT ad hI M (b9) (by omega)) (by decide) (ci := 0) rfl rfl k_387 k_388 k_389 k_3 k_390 1 rfl (by decide +kernel) (by decide) rfl hl.1 (Nat.le_of_ble_eq_true rfl) d_C_prefix_20 (fun v M' H locs hq hP _ _ hS => ?_)
    obtain ⟨rfl, rfl⟩ := hq
    refine W.eq (g2 := F0 m 23 ls [.ref (ad (9 + 2 * (b9)))]) rfl ?_
    refine c_V (own := R_C) (index := 138) (As := []) (rest := []) hx hb hml hown hg hK NXc.same hN.warm (fun _ h => h) hP hS (9 + 2 * (b9)) (c_T_canBeShort l D cI cC cZ cT ad hI M (9 + 2 * b9) (txn (by omega)) (len b9) (ch b9) (hnm b9 hb9).2.2.2 (hnm b9 hb9).1 true ⟨fun _ => hc9, fun _ => rfl⟩) (tx_lt (txn (by omega))) (ci := 6) (cfC_T (txn (by omega)) _) rfl k_425 k_426 k_427 k_2 k_428 0 rfl (by decide +kernel) (by decide) rfl hl.1 (Nat.le_of_ble_eq_true rfl) d_C_prefix_23 (fun v M' H locs hq hP _ _ hS => ?_)
    obtain ⟨rfl, rfl⟩ := hq
    refine W.eq (g2 := F0 m 26 ls [.int (bI (true))]) rfl ?_
    refine z_ne (t := true) (tgt := 39) hx hb d_C_prefix_26 (by decide) (fun _ => ?_) (fun h9 => absurd h9 (by decide))
    refine lv_aload_n hx hb d_C_prefix_39 rfl (lv_at hl 0 rfl) ?_
    refine g_get (C := R_C) (T := T_C) (N := 15) (ci := 7) (v := .ref (ad (129))) hx hb hg i_C hown hK hP 0 (by decide) rfl rfl 4 (by decide) (hg _ k_132) rfl d_C_prefix_40 ?_
    refine lv_iload_n hx hb d_C_prefix_43 rfl (lv_at hl 2 rfl) ?_
    refine c_V (own := R_C) (index := 143) (As := [.int (nI (b9))]) (rest := []) hx hb hml hown hg hK NXc.same hN.warm (fun _ h => h) hP hS 129 (c_H_spaceOfShort l D cI cC cZ cT ad hI M n sp bs hH (b9) (by omega)) (by decide) (ci := 3) rfl rfl k_383 k_384 k_385 k_4 k_386 1 rfl (by decide +kernel) (by decide) rfl hl.1 (Nat.le_of_ble_eq_true rfl) d_C_prefix_44 (fun v M' H locs hq hP _ _ hS => ?_)
    obtain ⟨rfl, rfl⟩ := hq
    rw [hw9]
    refine W.eq (g2 := F0 m 47 ls [.int (nI (a))]) rfl ?_
    refine lv_istore_n (lv' := [(3, .int (nI (a))), (0, .ref (ad (0))), (1, .int (nI (a))), (2, .int (nI (b9)))]) hx hb d_C_prefix_47 rfl hl (by decide) rfl (fun ls hl => ?_)
    refine lv_iload_n hx hb d_C_prefix_48 rfl (lv_at hl 0 rfl) ?_
    refine lv_iconst (v := -1) hx hb d_C_prefix_49 (by decide) ?_
    refine lv_icmp_eq (tgt := 67) hx hb d_C_prefix_50 (by decide) (fun c_50 => ?_) (fun c_50 => ?_)
    · exact absurd c_50 (nI_m1 (by omega))
    · refine lv_iload_n hx hb d_C_prefix_53 rfl (lv_at hl 0 rfl) ?_
      refine lv_iload_n hx hb d_C_prefix_54 rfl (lv_at hl 2 rfl) ?_
      refine n_eq (a := a) (b := a) (tgt := 67) hx hb d_C_prefix_55 (by decide) (by omega) (by omega) (fun c_55 => ?_) (fun c_55 => ?_)
      · refine lv_iload_n hx hb d_C_prefix_67 rfl (lv_at hl 0 rfl) ?_
        refine lv_iconst (v := -1) hx hb d_C_prefix_68 (by decide) ?_
        refine lv_icmp_ne (tgt := 81) hx hb d_C_prefix_69 (by decide) (fun c_69 => ?_) (fun c_69 => ?_)
        · refine n_const (k := 1) hx hb d_C_prefix_81 (by decide) ?_
          exact r_z hx hb hr hlocks (rfl) hP hS (⟨bz1 (rfl), rfl⟩) d_C_prefix_82
        · exact absurd c_69 (nI_m1 (by omega))
      · exact absurd rfl c_55

set_option maxHeartbeats 4000000 in
set_option maxRecDepth 100000 in
theorem c_C_prefix_n0 (l : Launch) (D : va_G) (cI cC cZ cT : ClassId) (ad : Nat → Nat) (hI : GI 144 ad) (M : PM) (n : Nat) (len : Nat → Nat) (ch : Nat → Nat → Nat) (hN7 : CN M n len ch) (sp bs : Nat → Option Nat) (hH : CSp M n sp bs) (a b9 : Nat) (ha : a < n) (hb9 : b9 < n) (hab : a ≠ b9) (hc9 : cbs len ch b9) (hs0 : sp b9 = none) (z9 w9 : Nat) (hz : M 129 3 = nI z9) (hw : M 129 4 = nI w9) (hz9 : z9 < 100) (hw9 : w9 < 100) (hb0 : bs a = none) : MD l D cI cC cZ cT ad y_C_prefix b_C_prefix 4 (some .boolean) 2 42 [.ref (ad (0)), .int (nI (a)), .int (nI (b9))] M (fun v M' => v = some (.int (bI true)) ∧ M' = pu (pu (pu (pu M 130 b9 (nI a)) 129 3 (nI (z9 + 1))) 129 4 (nI (w9 + 1))) 131 a (nI b9)) := by
  refine MC.of (by decide) (Nat.le_of_ble_eq_true rfl) ?_
  intro p e s m below meth c ls hx hb hr hml hown hg hlocks hK hN hP hS hl
  have hown : s.vm.findClass R_C = some m.cls := hown
  have hl : lv_has ls 4 [(0, .ref (ad (0))), (1, .int (nI (a))), (2, .int (nI (b9)))] := hl
  have hn60 := hN7.1
  have hnm := hN7.2.2.1
  have hspn := hH.2.2.1
  have hbsn := hH.2.2.2
  refine lv_aload_n hx hb d_C_prefix_0 rfl (lv_at hl 0 rfl) ?_
  refine lv_iload_n hx hb d_C_prefix_1 rfl (lv_at hl 1 rfl) ?_
  refine c_V (own := R_C) (index := 131) (As := [.int (nI (a))]) (rest := []) hx hb hml hown hg hK NXc.same hN.warm (fun _ h => h) hP hS 0 (c_C_rqn l D cI cC cZ cT ad hI M n len ch hN7 (a) (by omega)) (by decide) (ci := 7) rfl rfl k_401 k_403 k_p5 k_1 k_404 1 rfl (by decide +kernel) (by decide) rfl hl.1 (Nat.le_of_ble_eq_true rfl) d_C_prefix_2 (fun v M' H locs hq hP _ _ hS => ?_)
  obtain ⟨rfl, rfl⟩ := hq
  refine W.eq (g2 := F0 m 5 ls []) rfl ?_
  refine lv_aload_n hx hb d_C_prefix_5 rfl (lv_at hl 0 rfl) ?_
  refine lv_iload_n hx hb d_C_prefix_6 rfl (lv_at hl 2 rfl) ?_
  refine c_V (own := R_C) (index := 131) (As := [.int (nI (b9))]) (rest := []) hx hb hml hown hg hK NXc.same hN.warm (fun _ h => h) hP hS 0 (c_C_rqn l D cI cC cZ cT ad hI M n len ch hN7 (b9) (by omega)) (by decide) (ci := 7) rfl rfl k_401 k_403 k_p5 k_1 k_404 1 rfl (by decide +kernel) (by decide) rfl hl.1 (Nat.le_of_ble_eq_true rfl) d_C_prefix_7 (fun v M' H locs hq hP _ _ hS => ?_)
  obtain ⟨rfl, rfl⟩ := hq
  refine W.eq (g2 := F0 m 10 ls []) rfl ?_
  refine lv_iload_n hx hb d_C_prefix_10 rfl (lv_at hl 1 rfl) ?_
  refine lv_iload_n hx hb d_C_prefix_11 rfl (lv_at hl 2 rfl) ?_
  refine n_eq (a := a) (b := b9) (tgt := 29) hx hb d_C_prefix_12 (by decide) (by omega) (by omega) (fun c_12 => ?_) (fun c_12 => ?_)
  · exact absurd c_12 (by omega)
  · refine lv_aload_n hx hb d_C_prefix_15 rfl (lv_at hl 0 rfl) ?_
    refine g_get (C := R_C) (T := T_C) (N := 15) (ci := 7) (v := .ref (ad (7))) hx hb hg i_C hown hK hP 0 (by decide) rfl rfl 3 (by decide) (hg _ k_131) rfl d_C_prefix_16 ?_
    refine lv_iload_n hx hb d_C_prefix_19 rfl (lv_at hl 2 rfl) ?_
    refine c_V (own := R_C) (index := 134) (As := [.int (nI (b9))]) (rest := []) hx hb hml hown hg hK NXc.same hN.warm (fun _ h => h) hP hS 7 (c_N_text l D cI cC cZ cT ad hI M (b9) (by omega)) (by decide) (ci := 0) rfl rfl k_387 k_388 k_389 k_3 k_390 1 rfl (by decide +kernel) (by decide) rfl hl.1 (Nat.le_of_ble_eq_true rfl) d_C_prefix_20 (fun v M' H locs hq hP _ _ hS => ?_)
    obtain ⟨rfl, rfl⟩ := hq
    refine W.eq (g2 := F0 m 23 ls [.ref (ad (9 + 2 * (b9)))]) rfl ?_
    refine c_V (own := R_C) (index := 138) (As := []) (rest := []) hx hb hml hown hg hK NXc.same hN.warm (fun _ h => h) hP hS (9 + 2 * (b9)) (c_T_canBeShort l D cI cC cZ cT ad hI M (9 + 2 * b9) (txn (by omega)) (len b9) (ch b9) (hnm b9 hb9).2.2.2 (hnm b9 hb9).1 true ⟨fun _ => hc9, fun _ => rfl⟩) (tx_lt (txn (by omega))) (ci := 6) (cfC_T (txn (by omega)) _) rfl k_425 k_426 k_427 k_2 k_428 0 rfl (by decide +kernel) (by decide) rfl hl.1 (Nat.le_of_ble_eq_true rfl) d_C_prefix_23 (fun v M' H locs hq hP _ _ hS => ?_)
    obtain ⟨rfl, rfl⟩ := hq
    refine W.eq (g2 := F0 m 26 ls [.int (bI (true))]) rfl ?_
    refine z_ne (t := true) (tgt := 39) hx hb d_C_prefix_26 (by decide) (fun _ => ?_) (fun h9 => absurd h9 (by decide))
    refine lv_aload_n hx hb d_C_prefix_39 rfl (lv_at hl 0 rfl) ?_
    refine g_get (C := R_C) (T := T_C) (N := 15) (ci := 7) (v := .ref (ad (129))) hx hb hg i_C hown hK hP 0 (by decide) rfl rfl 4 (by decide) (hg _ k_132) rfl d_C_prefix_40 ?_
    refine lv_iload_n hx hb d_C_prefix_43 rfl (lv_at hl 2 rfl) ?_
    refine c_V (own := R_C) (index := 143) (As := [.int (nI (b9))]) (rest := []) hx hb hml hown hg hK NXc.same hN.warm (fun _ h => h) hP hS 129 (c_H_spaceOfShort l D cI cC cZ cT ad hI M n sp bs hH (b9) (by omega)) (by decide) (ci := 3) rfl rfl k_383 k_384 k_385 k_4 k_386 1 rfl (by decide +kernel) (by decide) rfl hl.1 (Nat.le_of_ble_eq_true rfl) d_C_prefix_44 (fun v M' H locs hq hP _ _ hS => ?_)
    obtain ⟨rfl, rfl⟩ := hq
    rw [hs0]
    refine W.eq (g2 := F0 m 47 ls [.int (-1)]) rfl ?_
    refine lv_istore_n (lv' := [(3, .int (-1)), (0, .ref (ad (0))), (1, .int (nI (a))), (2, .int (nI (b9)))]) hx hb d_C_prefix_47 rfl hl (by decide) rfl (fun ls hl => ?_)
    refine lv_iload_n hx hb d_C_prefix_48 rfl (lv_at hl 0 rfl) ?_
    refine lv_iconst (v := -1) hx hb d_C_prefix_49 (by decide) ?_
    refine lv_icmp_eq (tgt := 67) hx hb d_C_prefix_50 (by decide) (fun c_50 => ?_) (fun c_50 => ?_)
    · refine lv_iload_n hx hb d_C_prefix_67 rfl (lv_at hl 0 rfl) ?_
      refine lv_iconst (v := -1) hx hb d_C_prefix_68 (by decide) ?_
      refine lv_icmp_ne (tgt := 81) hx hb d_C_prefix_69 (by decide) (fun c_69 => ?_) (fun c_69 => ?_)
      · exact absurd rfl c_69
      · refine lv_aload_n hx hb d_C_prefix_72 rfl (lv_at hl 1 rfl) ?_
        refine g_get (C := R_C) (T := T_C) (N := 15) (ci := 7) (v := .ref (ad (129))) hx hb hg i_C hown hK hP 0 (by decide) rfl rfl 4 (by decide) (hg _ k_132) rfl d_C_prefix_73 ?_
        refine lv_iload_n hx hb d_C_prefix_76 rfl (lv_at hl 2 rfl) ?_
        refine lv_iload_n hx hb d_C_prefix_77 rfl (lv_at hl 3 rfl) ?_
        refine c_V (own := R_C) (index := 151) (As := [.int (nI (a)), .int (nI (b9))]) (rest := []) hx hb hml hown hg hK NXc.same hN.warm (fun _ h => h) hP hS 129 (c_H_add_n l D cI cC cZ cT ad hI M n len ch hN7 sp bs hH z9 w9 hz hw hz9 hw9 a b9 ha hb9 hb0) (by decide) (ci := 3) rfl rfl k_440 k_441 k_442 k_4 k_443 2 rfl (by decide +kernel) (by decide) rfl hl.1 (Nat.le_of_ble_eq_true rfl) d_C_prefix_78 (fun v M_1 H locs hq hP _ _ hS => ?_)
        obtain ⟨rfl, eM_1⟩ := hq
        refine W.eq (g2 := F0 m 81 ls []) rfl ?_
        refine n_const (k := 1) hx hb d_C_prefix_81 (by decide) ?_
        exact r_z hx hb hr hlocks (rfl) hP hS (⟨bz1 (rfl), eM_1⟩) d_C_prefix_82
    · exact absurd rfl c_50

set_option maxHeartbeats 4000000 in
set_option maxRecDepth 100000 in
theorem c_C_prefix_b0 (l : Launch) (D : va_G) (cI cC cZ cT : ClassId) (ad : Nat → Nat) (hI : GI 144 ad) (M : PM) (n : Nat) (len : Nat → Nat) (ch : Nat → Nat → Nat) (hN7 : CN M n len ch) (sp bs : Nat → Option Nat) (hH : CSp M n sp bs) (a b9 : Nat) (ha : a < n) (hb9 : b9 < n) (hab : a ≠ b9) (hc9 : cbs len ch b9) (hs0 : sp b9 = none) (z9 w9 : Nat) (hz : M 129 3 = nI z9) (hw : M 129 4 = nI w9) (hz9 : z9 < 100) (hw9 : w9 < 100) (b8 : Nat) (hb8 : bs a = some b8) (hbt : btS len ch b9 b8) : MD l D cI cC cZ cT ad y_C_prefix b_C_prefix 4 (some .boolean) 4 88 [.ref (ad (0)), .int (nI (a)), .int (nI (b9))] M (fun v M' => v = some (.int (bI true)) ∧ M' = pu (pu (pu M 130 b9 (nI a)) 129 3 (nI (z9 + 1))) 131 a (nI b9)) := by
  refine MC.of (by decide) (Nat.le_of_ble_eq_true rfl) ?_
  intro p e s m below meth c ls hx hb hr hml hown hg hlocks hK hN hP hS hl
  have hown : s.vm.findClass R_C = some m.cls := hown
  have hl : lv_has ls 4 [(0, .ref (ad (0))), (1, .int (nI (a))), (2, .int (nI (b9)))] := hl
  have hn60 := hN7.1
  have hnm := hN7.2.2.1
  have hspn := hH.2.2.1
  have hbsn := hH.2.2.2
  refine lv_aload_n hx hb d_C_prefix_0 rfl (lv_at hl 0 rfl) ?_
  refine lv_iload_n hx hb d_C_prefix_1 rfl (lv_at hl 1 rfl) ?_
  refine c_V (own := R_C) (index := 131) (As := [.int (nI (a))]) (rest := []) hx hb hml hown hg hK NXc.same hN.warm (fun _ h => h) hP hS 0 (c_C_rqn l D cI cC cZ cT ad hI M n len ch hN7 (a) (by omega)) (by decide) (ci := 7) rfl rfl k_401 k_403 k_p5 k_1 k_404 1 rfl (by decide +kernel) (by decide) rfl hl.1 (Nat.le_of_ble_eq_true rfl) d_C_prefix_2 (fun v M' H locs hq hP _ _ hS => ?_)
  obtain ⟨rfl, rfl⟩ := hq
  refine W.eq (g2 := F0 m 5 ls []) rfl ?_
  refine lv_aload_n hx hb d_C_prefix_5 rfl (lv_at hl 0 rfl) ?_
  refine lv_iload_n hx hb d_C_prefix_6 rfl (lv_at hl 2 rfl) ?_
  refine c_V (own := R_C) (index := 131) (As := [.int (nI (b9))]) (rest := []) hx hb hml hown hg hK NXc.same hN.warm (fun _ h => h) hP hS 0 (c_C_rqn l D cI cC cZ cT ad hI M n len ch hN7 (b9) (by omega)) (by decide) (ci := 7) rfl rfl k_401 k_403 k_p5 k_1 k_404 1 rfl (by decide +kernel) (by decide) rfl hl.1 (Nat.le_of_ble_eq_true rfl) d_C_prefix_7 (fun v M' H locs hq hP _ _ hS => ?_)
  obtain ⟨rfl, rfl⟩ := hq
  refine W.eq (g2 := F0 m 10 ls []) rfl ?_
  refine lv_iload_n hx hb d_C_prefix_10 rfl (lv_at hl 1 rfl) ?_
  refine lv_iload_n hx hb d_C_prefix_11 rfl (lv_at hl 2 rfl) ?_
  refine n_eq (a := a) (b := b9) (tgt := 29) hx hb d_C_prefix_12 (by decide) (by omega) (by omega) (fun c_12 => ?_) (fun c_12 => ?_)
  · exact absurd c_12 (by omega)
  · refine lv_aload_n hx hb d_C_prefix_15 rfl (lv_at hl 0 rfl) ?_
    refine g_get (C := R_C) (T := T_C) (N := 15) (ci := 7) (v := .ref (ad (7))) hx hb hg i_C hown hK hP 0 (by decide) rfl rfl 3 (by decide) (hg _ k_131) rfl d_C_prefix_16 ?_
    refine lv_iload_n hx hb d_C_prefix_19 rfl (lv_at hl 2 rfl) ?_
    refine c_V (own := R_C) (index := 134) (As := [.int (nI (b9))]) (rest := []) hx hb hml hown hg hK NXc.same hN.warm (fun _ h => h) hP hS 7 (c_N_text l D cI cC cZ cT ad hI M (b9) (by omega)) (by decide) (ci := 0) rfl rfl k_387 k_388 k_389 k_3 k_390 1 rfl (by decide +kernel) (by decide) rfl hl.1 (Nat.le_of_ble_eq_true rfl) d_C_prefix_20 (fun v M' H locs hq hP _ _ hS => ?_)
    obtain ⟨rfl, rfl⟩ := hq
    refine W.eq (g2 := F0 m 23 ls [.ref (ad (9 + 2 * (b9)))]) rfl ?_
    refine c_V (own := R_C) (index := 138) (As := []) (rest := []) hx hb hml hown hg hK NXc.same hN.warm (fun _ h => h) hP hS (9 + 2 * (b9)) (c_T_canBeShort l D cI cC cZ cT ad hI M (9 + 2 * b9) (txn (by omega)) (len b9) (ch b9) (hnm b9 hb9).2.2.2 (hnm b9 hb9).1 true ⟨fun _ => hc9, fun _ => rfl⟩) (tx_lt (txn (by omega))) (ci := 6) (cfC_T (txn (by omega)) _) rfl k_425 k_426 k_427 k_2 k_428 0 rfl (by decide +kernel) (by decide) rfl hl.1 (Nat.le_of_ble_eq_true rfl) d_C_prefix_23 (fun v M' H locs hq hP _ _ hS => ?_)
    obtain ⟨rfl, rfl⟩ := hq
    refine W.eq (g2 := F0 m 26 ls [.int (bI (true))]) rfl ?_
    refine z_ne (t := true) (tgt := 39) hx hb d_C_prefix_26 (by decide) (fun _ => ?_) (fun h9 => absurd h9 (by decide))
    refine lv_aload_n hx hb d_C_prefix_39 rfl (lv_at hl 0 rfl) ?_
    refine g_get (C := R_C) (T := T_C) (N := 15) (ci := 7) (v := .ref (ad (129))) hx hb hg i_C hown hK hP 0 (by decide) rfl rfl 4 (by decide) (hg _ k_132) rfl d_C_prefix_40 ?_
    refine lv_iload_n hx hb d_C_prefix_43 rfl (lv_at hl 2 rfl) ?_
    refine c_V (own := R_C) (index := 143) (As := [.int (nI (b9))]) (rest := []) hx hb hml hown hg hK NXc.same hN.warm (fun _ h => h) hP hS 129 (c_H_spaceOfShort l D cI cC cZ cT ad hI M n sp bs hH (b9) (by omega)) (by decide) (ci := 3) rfl rfl k_383 k_384 k_385 k_4 k_386 1 rfl (by decide +kernel) (by decide) rfl hl.1 (Nat.le_of_ble_eq_true rfl) d_C_prefix_44 (fun v M' H locs hq hP _ _ hS => ?_)
    obtain ⟨rfl, rfl⟩ := hq
    rw [hs0]
    refine W.eq (g2 := F0 m 47 ls [.int (-1)]) rfl ?_
    refine lv_istore_n (lv' := [(3, .int (-1)), (0, .ref (ad (0))), (1, .int (nI (a))), (2, .int (nI (b9)))]) hx hb d_C_prefix_47 rfl hl (by decide) rfl (fun ls hl => ?_)
    refine lv_iload_n hx hb d_C_prefix_48 rfl (lv_at hl 0 rfl) ?_
    refine lv_iconst (v := -1) hx hb d_C_prefix_49 (by decide) ?_
    refine lv_icmp_eq (tgt := 67) hx hb d_C_prefix_50 (by decide) (fun c_50 => ?_) (fun c_50 => ?_)
    · refine lv_iload_n hx hb d_C_prefix_67 rfl (lv_at hl 0 rfl) ?_
      refine lv_iconst (v := -1) hx hb d_C_prefix_68 (by decide) ?_
      refine lv_icmp_ne (tgt := 81) hx hb d_C_prefix_69 (by decide) (fun c_69 => ?_) (fun c_69 => ?_)
      · exact absurd rfl c_69
      · refine lv_aload_n hx hb d_C_prefix_72 rfl (lv_at hl 1 rfl) ?_
        refine g_get (C := R_C) (T := T_C) (N := 15) (ci := 7) (v := .ref (ad (129))) hx hb hg i_C hown hK hP 0 (by decide) rfl rfl 4 (by decide) (hg _ k_132) rfl d_C_prefix_73 ?_
        refine lv_iload_n hx hb d_C_prefix_76 rfl (lv_at hl 2 rfl) ?_
        refine lv_iload_n hx hb d_C_prefix_77 rfl (lv_at hl 3 rfl) ?_
        refine c_V (own := R_C) (index := 151) (As := [.int (nI (a)), .int (nI (b9))]) (rest := []) hx hb hml hown hg hK NXc.same hN.warm (fun _ h => h) hP hS 129 (c_H_add_b l D cI cC cZ cT ad hI M n len ch hN7 sp bs hH z9 w9 hz hw hz9 hw9 a b9 ha hb9 b8 hb8 hbt) (by decide) (ci := 3) rfl rfl k_440 k_441 k_442 k_4 k_443 2 rfl (by decide +kernel) (by decide) rfl hl.1 (Nat.le_of_ble_eq_true rfl) d_C_prefix_78 (fun v M_1 H locs hq hP _ _ hS => ?_)
        obtain ⟨rfl, eM_1⟩ := hq
        refine W.eq (g2 := F0 m 81 ls []) rfl ?_
        refine n_const (k := 1) hx hb d_C_prefix_81 (by decide) ?_
        exact r_z hx hb hr hlocks (rfl) hP hS (⟨bz1 (rfl), eM_1⟩) d_C_prefix_82
    · exact absurd rfl c_50

set_option maxHeartbeats 4000000 in
set_option maxRecDepth 100000 in
theorem c_C_prefix_k0 (l : Launch) (D : va_G) (cI cC cZ cT : ClassId) (ad : Nat → Nat) (hI : GI 144 ad) (M : PM) (n : Nat) (len : Nat → Nat) (ch : Nat → Nat → Nat) (hN7 : CN M n len ch) (sp bs : Nat → Option Nat) (hH : CSp M n sp bs) (a b9 : Nat) (ha : a < n) (hb9 : b9 < n) (hab : a ≠ b9) (hc9 : cbs len ch b9) (hs0 : sp b9 = none) (z9 w9 : Nat) (hz : M 129 3 = nI z9) (hw : M 129 4 = nI w9) (hz9 : z9 < 100) (hw9 : w9 < 100) (b8 : Nat) (hb8 : bs a = some b8) (hbt : ¬ btS len ch b9 b8) : MD l D cI cC cZ cT ad y_C_prefix b_C_prefix 4 (some .boolean) 4 88 [.ref (ad (0)), .int (nI (a)), .int (nI (b9))] M (fun v M' => v = some (.int (bI true)) ∧ M' = pu (pu M 130 b9 (nI a)) 129 3 (nI (z9 + 1))) := by
  refine MC.of (by decide) (Nat.le_of_ble_eq_true rfl) ?_
  intro p e s m below meth c ls hx hb hr hml hown hg hlocks hK hN hP hS hl
  have hown : s.vm.findClass R_C = some m.cls := hown
  have hl : lv_has ls 4 [(0, .ref (ad (0))), (1, .int (nI (a))), (2, .int (nI (b9)))] := hl
  have hn60 := hN7.1
  have hnm := hN7.2.2.1
  have hspn := hH.2.2.1
  have hbsn := hH.2.2.2
  refine lv_aload_n hx hb d_C_prefix_0 rfl (lv_at hl 0 rfl) ?_
  refine lv_iload_n hx hb d_C_prefix_1 rfl (lv_at hl 1 rfl) ?_
  refine c_V (own := R_C) (index := 131) (As := [.int (nI (a))]) (rest := []) hx hb hml hown hg hK NXc.same hN.warm (fun _ h => h) hP hS 0 (c_C_rqn l D cI cC cZ cT ad hI M n len ch hN7 (a) (by omega)) (by decide) (ci := 7) rfl rfl k_401 k_403 k_p5 k_1 k_404 1 rfl (by decide +kernel) (by decide) rfl hl.1 (Nat.le_of_ble_eq_true rfl) d_C_prefix_2 (fun v M' H locs hq hP _ _ hS => ?_)
  obtain ⟨rfl, rfl⟩ := hq
  refine W.eq (g2 := F0 m 5 ls []) rfl ?_
  refine lv_aload_n hx hb d_C_prefix_5 rfl (lv_at hl 0 rfl) ?_
  refine lv_iload_n hx hb d_C_prefix_6 rfl (lv_at hl 2 rfl) ?_
  refine c_V (own := R_C) (index := 131) (As := [.int (nI (b9))]) (rest := []) hx hb hml hown hg hK NXc.same hN.warm (fun _ h => h) hP hS 0 (c_C_rqn l D cI cC cZ cT ad hI M n len ch hN7 (b9) (by omega)) (by decide) (ci := 7) rfl rfl k_401 k_403 k_p5 k_1 k_404 1 rfl (by decide +kernel) (by decide) rfl hl.1 (Nat.le_of_ble_eq_true rfl) d_C_prefix_7 (fun v M' H locs hq hP _ _ hS => ?_)
  obtain ⟨rfl, rfl⟩ := hq
  refine W.eq (g2 := F0 m 10 ls []) rfl ?_
  refine lv_iload_n hx hb d_C_prefix_10 rfl (lv_at hl 1 rfl) ?_
  refine lv_iload_n hx hb d_C_prefix_11 rfl (lv_at hl 2 rfl) ?_
  refine n_eq (a := a) (b := b9) (tgt := 29) hx hb d_C_prefix_12 (by decide) (by omega) (by omega) (fun c_12 => ?_) (fun c_12 => ?_)
  · exact absurd c_12 (by omega)
  · refine lv_aload_n hx hb d_C_prefix_15 rfl (lv_at hl 0 rfl) ?_
    refine g_get (C := R_C) (T := T_C) (N := 15) (ci := 7) (v := .ref (ad (7))) hx hb hg i_C hown hK hP 0 (by decide) rfl rfl 3 (by decide) (hg _ k_131) rfl d_C_prefix_16 ?_
    refine lv_iload_n hx hb d_C_prefix_19 rfl (lv_at hl 2 rfl) ?_
    refine c_V (own := R_C) (index := 134) (As := [.int (nI (b9))]) (rest := []) hx hb hml hown hg hK NXc.same hN.warm (fun _ h => h) hP hS 7 (c_N_text l D cI cC cZ cT ad hI M (b9) (by omega)) (by decide) (ci := 0) rfl rfl k_387 k_388 k_389 k_3 k_390 1 rfl (by decide +kernel) (by decide) rfl hl.1 (Nat.le_of_ble_eq_true rfl) d_C_prefix_20 (fun v M' H locs hq hP _ _ hS => ?_)
    obtain ⟨rfl, rfl⟩ := hq
    refine W.eq (g2 := F0 m 23 ls [.ref (ad (9 + 2 * (b9)))]) rfl ?_
    refine c_V (own := R_C) (index := 138) (As := []) (rest := []) hx hb hml hown hg hK NXc.same hN.warm (fun _ h => h) hP hS (9 + 2 * (b9)) (c_T_canBeShort l D cI cC cZ cT ad hI M (9 + 2 * b9) (txn (by omega)) (len b9) (ch b9) (hnm b9 hb9).2.2.2 (hnm b9 hb9).1 true ⟨fun _ => hc9, fun _ => rfl⟩) (tx_lt (txn (by omega))) (ci := 6) (cfC_T (txn (by omega)) _) rfl k_425 k_426 k_427 k_2 k_428 0 rfl (by decide +kernel) (by decide) rfl hl.1 (Nat.le_of_ble_eq_true rfl) d_C_prefix_23 (fun v M' H locs hq hP _ _ hS => ?_)
    obtain ⟨rfl, rfl⟩ := hq
    refine W.eq (g2 := F0 m 26 ls [.int (bI (true))]) rfl ?_
    refine z_ne (t := true) (tgt := 39) hx hb d_C_prefix_26 (by decide) (fun _ => ?_) (fun h9 => absurd h9 (by decide))
    refine lv_aload_n hx hb d_C_prefix_39 rfl (lv_at hl 0 rfl) ?_
    refine g_get (C := R_C) (T := T_C) (N := 15) (ci := 7) (v := .ref (ad (129))) hx hb hg i_C hown hK hP 0 (by decide) rfl rfl 4 (by decide) (hg _ k_132) rfl d_C_prefix_40 ?_
    refine lv_iload_n hx hb d_C_prefix_43 rfl (lv_at hl 2 rfl) ?_
    refine c_V (own := R_C) (index := 143) (As := [.int (nI (b9))]) (rest := []) hx hb hml hown hg hK NXc.same hN.warm (fun _ h => h) hP hS 129 (c_H_spaceOfShort l D cI cC cZ cT ad hI M n sp bs hH (b9) (by omega)) (by decide) (ci := 3) rfl rfl k_383 k_384 k_385 k_4 k_386 1 rfl (by decide +kernel) (by decide) rfl hl.1 (Nat.le_of_ble_eq_true rfl) d_C_prefix_44 (fun v M' H locs hq hP _ _ hS => ?_)
    obtain ⟨rfl, rfl⟩ := hq
    rw [hs0]
    refine W.eq (g2 := F0 m 47 ls [.int (-1)]) rfl ?_
    refine lv_istore_n (lv' := [(3, .int (-1)), (0, .ref (ad (0))), (1, .int (nI (a))), (2, .int (nI (b9)))]) hx hb d_C_prefix_47 rfl hl (by decide) rfl (fun ls hl => ?_)
    refine lv_iload_n hx hb d_C_prefix_48 rfl (lv_at hl 0 rfl) ?_
    refine lv_iconst (v := -1) hx hb d_C_prefix_49 (by decide) ?_
    refine lv_icmp_eq (tgt := 67) hx hb d_C_prefix_50 (by decide) (fun c_50 => ?_) (fun c_50 => ?_)
    · refine lv_iload_n hx hb d_C_prefix_67 rfl (lv_at hl 0 rfl) ?_
      refine lv_iconst (v := -1) hx hb d_C_prefix_68 (by decide) ?_
      refine lv_icmp_ne (tgt := 81) hx hb d_C_prefix_69 (by decide) (fun c_69 => ?_) (fun c_69 => ?_)
      · exact absurd rfl c_69
      · refine lv_aload_n hx hb d_C_prefix_72 rfl (lv_at hl 1 rfl) ?_
        refine g_get (C := R_C) (T := T_C) (N := 15) (ci := 7) (v := .ref (ad (129))) hx hb hg i_C hown hK hP 0 (by decide) rfl rfl 4 (by decide) (hg _ k_132) rfl d_C_prefix_73 ?_
        refine lv_iload_n hx hb d_C_prefix_76 rfl (lv_at hl 2 rfl) ?_
        refine lv_iload_n hx hb d_C_prefix_77 rfl (lv_at hl 3 rfl) ?_
        refine c_V (own := R_C) (index := 151) (As := [.int (nI (a)), .int (nI (b9))]) (rest := []) hx hb hml hown hg hK NXc.same hN.warm (fun _ h => h) hP hS 129 (c_H_add_k l D cI cC cZ cT ad hI M n len ch hN7 sp bs hH z9 w9 hz hw hz9 hw9 a b9 ha hb9 b8 hb8 hbt) (by decide) (ci := 3) rfl rfl k_440 k_441 k_442 k_4 k_443 2 rfl (by decide +kernel) (by decide) rfl hl.1 (Nat.le_of_ble_eq_true rfl) d_C_prefix_78 (fun v M_1 H locs hq hP _ _ hS => ?_)
        obtain ⟨rfl, eM_1⟩ := hq
        refine W.eq (g2 := F0 m 81 ls []) rfl ?_
        refine n_const (k := 1) hx hb d_C_prefix_81 (by decide) ?_
        exact r_z hx hb hr hlocks (rfl) hP hS (⟨bz1 (rfl), eM_1⟩) d_C_prefix_82
    · exact absurd rfl c_50

set_option maxHeartbeats 4000000 in
set_option maxRecDepth 100000 in
theorem x_C_space_1 (l : Launch) (D : va_G) (cI cC cZ cT : ClassId) (ad : Nat → Nat) (hI : GI 144 ad) (hlT : l.stackTraces = false) (M : PM) (n : Nat) (len : Nat → Nat) (ch : Nat → Nat → Nat) (hN7 : CN M n len ch) (x : Int32) (hbad : ¬ ∃ j, j < n ∧ x = nI j) : MX l D cI cC cZ cT ad y_C_space b_C_space 2 (some .int) 7 111 [.ref (ad (0)), .int (x)] M "java/lang/IndexOutOfBoundsException" (fun M' => M = M') := by
  refine MX.of (by decide) (Nat.le_of_ble_eq_true rfl) ?_
  intro p e s m below meth c ls hx hb hr hml hown hg hlocks hK hN hX hTb hP hS hl
  have hown : s.vm.findClass R_C = some m.cls := hown
  have hl : lv_has ls 2 [(0, .ref (ad (0))), (1, .int (x))] := hl
  refine lv_aload_n hx hb d_C_space_0 rfl (lv_at hl 0 rfl) ?_
  refine lv_iload_n hx hb d_C_space_1 rfl (lv_at hl 1 rfl) ?_
  exact x_V (own := R_C) (index := 131) (As := [.int (x)]) (rest := []) hx hb hml hown hg hK hN hX hTb hlocks hP hS 0 (x_C_rqn l D cI cC cZ cT ad hI hlT M n len ch hN7 (x) hbad) (by decide) (ci := 7) rfl rfl k_401 k_403 k_p5 k_1 k_404 1 rfl (by decide +kernel) (by decide) rfl hl.1 (Nat.le_of_ble_eq_true rfl) d_C_space_2 (fun _ h => h)

set_option maxHeartbeats 4000000 in
set_option maxRecDepth 100000 in
theorem x_C_best_1 (l : Launch) (D : va_G) (cI cC cZ cT : ClassId) (ad : Nat → Nat) (hI : GI 144 ad) (hlT : l.stackTraces = false) (M : PM) (n : Nat) (len : Nat → Nat) (ch : Nat → Nat → Nat) (hN7 : CN M n len ch) (x : Int32) (hbad : ¬ ∃ j, j < n ∧ x = nI j) : MX l D cI cC cZ cT ad y_C_best b_C_best 2 (some .int) 7 111 [.ref (ad (0)), .int (x)] M "java/lang/IndexOutOfBoundsException" (fun M' => M = M') := by
  refine MX.of (by decide) (Nat.le_of_ble_eq_true rfl) ?_
  intro p e s m below meth c ls hx hb hr hml hown hg hlocks hK hN hX hTb hP hS hl
  have hown : s.vm.findClass R_C = some m.cls := hown
  have hl : lv_has ls 2 [(0, .ref (ad (0))), (1, .int (x))] := hl
  refine lv_aload_n hx hb d_C_best_0 rfl (lv_at hl 0 rfl) ?_
  refine lv_iload_n hx hb d_C_best_1 rfl (lv_at hl 1 rfl) ?_
  exact x_V (own := R_C) (index := 131) (As := [.int (x)]) (rest := []) hx hb hml hown hg hK hN hX hTb hlocks hP hS 0 (x_C_rqn l D cI cC cZ cT ad hI hlT M n len ch hN7 (x) hbad) (by decide) (ci := 7) rfl rfl k_401 k_403 k_p5 k_1 k_404 1 rfl (by decide +kernel) (by decide) rfl hl.1 (Nat.le_of_ble_eq_true rfl) d_C_best_2 (fun _ h => h)

set_option maxHeartbeats 4000000 in
set_option maxRecDepth 100000 in
theorem x_C_propose_1 (l : Launch) (D : va_G) (cI cC cZ cT : ClassId) (ad : Nat → Nat) (hI : GI 144 ad) (hlT : l.stackTraces = false) (M : PM) (n : Nat) (len : Nat → Nat) (ch : Nat → Nat → Nat) (hN7 : CN M n len ch) (x : Int32) (hbad : ¬ ∃ j, j < n ∧ x = nI j) : MX l D cI cC cZ cT ad y_C_propose b_C_propose 4 (some .int) 7 111 [.ref (ad (0)), .int (x)] M "java/lang/IndexOutOfBoundsException" (fun M' => M = M') := by
  refine MX.of (by decide) (Nat.le_of_ble_eq_true rfl) ?_
  intro p e s m below meth c ls hx hb hr hml hown hg hlocks hK hN hX hTb hP hS hl
  have hown : s.vm.findClass R_C = some m.cls := hown
  have hl : lv_has ls 4 [(0, .ref (ad (0))), (1, .int (x))] := hl
  refine lv_aload_n hx hb d_C_propose_0 rfl (lv_at hl 0 rfl) ?_
  refine lv_iload_n hx hb d_C_propose_1 rfl (lv_at hl 1 rfl) ?_
  exact x_V (own := R_C) (index := 131) (As := [.int (x)]) (rest := []) hx hb hml hown hg hK hN hX hTb hlocks hP hS 0 (x_C_rqn l D cI cC cZ cT ad hI hlT M n len ch hN7 (x) hbad) (by decide) (ci := 7) rfl rfl k_401 k_403 k_p5 k_1 k_404 1 rfl (by decide +kernel) (by decide) rfl hl.1 (Nat.le_of_ble_eq_true rfl) d_C_propose_2 (fun _ h => h)

set_option maxHeartbeats 4000000 in
set_option maxRecDepth 100000 in
theorem x_C_print_1 (l : Launch) (D : va_G) (cI cC cZ cT : ClassId) (ad : Nat → Nat) (hI : GI 144 ad) (hlT : l.stackTraces = false) (M : PM) (n : Nat) (len : Nat → Nat) (ch : Nat → Nat → Nat) (hN7 : CN M n len ch) (x : Int32) (hbad : ¬ ∃ j, j < n ∧ x = nI j) : MX l D cI cC cZ cT ad y_C_print b_C_print 4 (some .int) 7 111 [.ref (ad (0)), .int (x)] M "java/lang/IndexOutOfBoundsException" (fun M' => M = M') := by
  refine MX.of (by decide) (Nat.le_of_ble_eq_true rfl) ?_
  intro p e s m below meth c ls hx hb hr hml hown hg hlocks hK hN hX hTb hP hS hl
  have hown : s.vm.findClass R_C = some m.cls := hown
  have hl : lv_has ls 4 [(0, .ref (ad (0))), (1, .int (x))] := hl
  refine lv_aload_n hx hb d_C_print_0 rfl (lv_at hl 0 rfl) ?_
  refine lv_iload_n hx hb d_C_print_1 rfl (lv_at hl 1 rfl) ?_
  exact x_V (own := R_C) (index := 131) (As := [.int (x)]) (rest := []) hx hb hml hown hg hK hN hX hTb hlocks hP hS 0 (x_C_rqn l D cI cC cZ cT ad hI hlT M n len ch hN7 (x) hbad) (by decide) (ci := 7) rfl rfl k_401 k_403 k_p5 k_1 k_404 1 rfl (by decide +kernel) (by decide) rfl hl.1 (Nat.le_of_ble_eq_true rfl) d_C_print_2 (fun _ h => h)

set_option maxHeartbeats 4000000 in
set_option maxRecDepth 100000 in
theorem x_C_use_1 (l : Launch) (D : va_G) (cI cC cZ cT : ClassId) (ad : Nat → Nat) (hI : GI 144 ad) (hlT : l.stackTraces = false) (M : PM) (n : Nat) (len : Nat → Nat) (ch : Nat → Nat → Nat) (hN7 : CN M n len ch) (x : Int32) (hbad : ¬ ∃ j, j < n ∧ x = nI j) : MX l D cI cC cZ cT ad y_C_use b_C_use 2 (some .int) 7 111 [.ref (ad (0)), .int (x)] M "java/lang/IndexOutOfBoundsException" (fun M' => M = M') := by
  refine MX.of (by decide) (Nat.le_of_ble_eq_true rfl) ?_
  intro p e s m below meth c ls hx hb hr hml hown hg hlocks hK hN hX hTb hP hS hl
  have hown : s.vm.findClass R_C = some m.cls := hown
  have hl : lv_has ls 2 [(0, .ref (ad (0))), (1, .int (x))] := hl
  refine lv_aload_n hx hb d_C_use_0 rfl (lv_at hl 0 rfl) ?_
  refine lv_iload_n hx hb d_C_use_1 rfl (lv_at hl 1 rfl) ?_
  exact x_V (own := R_C) (index := 131) (As := [.int (x)]) (rest := []) hx hb hml hown hg hK hN hX hTb hlocks hP hS 0 (x_C_rqn l D cI cC cZ cT ad hI hlT M n len ch hN7 (x) hbad) (by decide) (ci := 7) rfl rfl k_401 k_403 k_p5 k_1 k_404 1 rfl (by decide +kernel) (by decide) rfl hl.1 (Nat.le_of_ble_eq_true rfl) d_C_use_2 (fun _ h => h)

set_option maxHeartbeats 4000000 in
set_option maxRecDepth 100000 in
theorem x_C_used_1 (l : Launch) (D : va_G) (cI cC cZ cT : ClassId) (ad : Nat → Nat) (hI : GI 144 ad) (hlT : l.stackTraces = false) (M : PM) (n : Nat) (len : Nat → Nat) (ch : Nat → Nat → Nat) (hN7 : CN M n len ch) (x : Int32) (hbad : ¬ ∃ j, j < n ∧ x = nI j) : MX l D cI cC cZ cT ad y_C_used b_C_used 2 (some .int) 7 111 [.ref (ad (0)), .int (x)] M "java/lang/IndexOutOfBoundsException" (fun M' => M = M') := by
  refine MX.of (by decide) (Nat.le_of_ble_eq_true rfl) ?_
  intro p e s m below meth c ls hx hb hr hml hown hg hlocks hK hN hX hTb hP hS hl
  have hown : s.vm.findClass R_C = some m.cls := hown
  have hl : lv_has ls 2 [(0, .ref (ad (0))), (1, .int (x))] := hl
  refine lv_aload_n hx hb d_C_used_0 rfl (lv_at hl 0 rfl) ?_
  refine lv_iload_n hx hb d_C_used_1 rfl (lv_at hl 1 rfl) ?_
  exact x_V (own := R_C) (index := 131) (As := [.int (x)]) (rest := []) hx hb hml hown hg hK hN hX hTb hlocks hP hS 0 (x_C_rqn l D cI cC cZ cT ad hI hlT M n len ch hN7 (x) hbad) (by decide) (ci := 7) rfl rfl k_401 k_403 k_p5 k_1 k_404 1 rfl (by decide +kernel) (by decide) rfl hl.1 (Nat.le_of_ble_eq_true rfl) d_C_used_2 (fun _ h => h)

set_option maxHeartbeats 4000000 in
set_option maxRecDepth 100000 in
theorem x_C_meaning_1 (l : Launch) (D : va_G) (cI cC cZ cT : ClassId) (ad : Nat → Nat) (hI : GI 144 ad) (hlT : l.stackTraces = false) (M : PM) (n : Nat) (len : Nat → Nat) (ch : Nat → Nat → Nat) (hN7 : CN M n len ch) (x : Int32) (hbad : ¬ ∃ j, j < n ∧ x = nI j) : MX l D cI cC cZ cT ad y_C_meaning b_C_meaning 2 (some .int) 7 111 [.ref (ad (0)), .int (x)] M "java/lang/IndexOutOfBoundsException" (fun M' => M = M') := by
  refine MX.of (by decide) (Nat.le_of_ble_eq_true rfl) ?_
  intro p e s m below meth c ls hx hb hr hml hown hg hlocks hK hN hX hTb hP hS hl
  have hown : s.vm.findClass R_C = some m.cls := hown
  have hl : lv_has ls 2 [(0, .ref (ad (0))), (1, .int (x))] := hl
  refine lv_aload_n hx hb d_C_meaning_0 rfl (lv_at hl 0 rfl) ?_
  refine lv_iload_n hx hb d_C_meaning_1 rfl (lv_at hl 1 rfl) ?_
  exact x_V (own := R_C) (index := 131) (As := [.int (x)]) (rest := []) hx hb hml hown hg hK hN hX hTb hlocks hP hS 0 (x_C_rqn l D cI cC cZ cT ad hI hlT M n len ch hN7 (x) hbad) (by decide) (ci := 7) rfl rfl k_401 k_403 k_p5 k_1 k_404 1 rfl (by decide +kernel) (by decide) rfl hl.1 (Nat.le_of_ble_eq_true rfl) d_C_meaning_2 (fun _ h => h)

set_option maxHeartbeats 4000000 in
set_option maxRecDepth 100000 in
theorem x_C_now_1 (l : Launch) (D : va_G) (cI cC cZ cT : ClassId) (ad : Nat → Nat) (hI : GI 144 ad) (hlT : l.stackTraces = false) (M : PM) (n : Nat) (len : Nat → Nat) (ch : Nat → Nat → Nat) (hN7 : CN M n len ch) (x : Int32) (hbad : ¬ ∃ j, j < n ∧ x = nI j) : MX l D cI cC cZ cT ad y_C_now b_C_now 2 (some .int) 7 111 [.ref (ad (0)), .int (x)] M "java/lang/IndexOutOfBoundsException" (fun M' => M = M') := by
  refine MX.of (by decide) (Nat.le_of_ble_eq_true rfl) ?_
  intro p e s m below meth c ls hx hb hr hml hown hg hlocks hK hN hX hTb hP hS hl
  have hown : s.vm.findClass R_C = some m.cls := hown
  have hl : lv_has ls 2 [(0, .ref (ad (0))), (1, .int (x))] := hl
  refine lv_aload_n hx hb d_C_now_0 rfl (lv_at hl 0 rfl) ?_
  refine lv_iload_n hx hb d_C_now_1 rfl (lv_at hl 1 rfl) ?_
  exact x_V (own := R_C) (index := 131) (As := [.int (x)]) (rest := []) hx hb hml hown hg hK hN hX hTb hlocks hP hS 0 (x_C_rqn l D cI cC cZ cT ad hI hlT M n len ch hN7 (x) hbad) (by decide) (ci := 7) rfl rfl k_401 k_403 k_p5 k_1 k_404 1 rfl (by decide +kernel) (by decide) rfl hl.1 (Nat.le_of_ble_eq_true rfl) d_C_now_2 (fun _ h => h)

set_option maxHeartbeats 4000000 in
set_option maxRecDepth 100000 in
theorem x_C_was_1 (l : Launch) (D : va_G) (cI cC cZ cT : ClassId) (ad : Nat → Nat) (hI : GI 144 ad) (hlT : l.stackTraces = false) (M : PM) (n : Nat) (len : Nat → Nat) (ch : Nat → Nat → Nat) (hN7 : CN M n len ch) (x : Int32) (hbad : ¬ ∃ j, j < n ∧ x = nI j) : MX l D cI cC cZ cT ad y_C_was b_C_was 2 (some .int) 7 111 [.ref (ad (0)), .int (x)] M "java/lang/IndexOutOfBoundsException" (fun M' => M = M') := by
  refine MX.of (by decide) (Nat.le_of_ble_eq_true rfl) ?_
  intro p e s m below meth c ls hx hb hr hml hown hg hlocks hK hN hX hTb hP hS hl
  have hown : s.vm.findClass R_C = some m.cls := hown
  have hl : lv_has ls 2 [(0, .ref (ad (0))), (1, .int (x))] := hl
  refine lv_aload_n hx hb d_C_was_0 rfl (lv_at hl 0 rfl) ?_
  refine lv_iload_n hx hb d_C_was_1 rfl (lv_at hl 1 rfl) ?_
  exact x_V (own := R_C) (index := 131) (As := [.int (x)]) (rest := []) hx hb hml hown hg hK hN hX hTb hlocks hP hS 0 (x_C_rqn l D cI cC cZ cT ad hI hlT M n len ch hN7 (x) hbad) (by decide) (ci := 7) rfl rfl k_401 k_403 k_p5 k_1 k_404 1 rfl (by decide +kernel) (by decide) rfl hl.1 (Nat.le_of_ble_eq_true rfl) d_C_was_2 (fun _ h => h)

set_option maxHeartbeats 4000000 in
set_option maxRecDepth 100000 in
theorem c_C_space (l : Launch) (D : va_G) (cI cC cZ cT : ClassId) (ad : Nat → Nat) (hI : GI 144 ad) (M : PM) (n : Nat) (len : Nat → Nat) (ch : Nat → Nat → Nat) (hN7 : CN M n len ch) (sp bs : Nat → Option Nat) (hH : CSp M n sp bs) (hbsp : ∀ k, k < n → (bs k ≠ none ↔ isSp n sp k)) (a : Nat) (ha : a < n) (o : Option Nat) (hO : Best (spC n len ch sp a) len n o) : MD l D cI cC cZ cT ad y_C_space b_C_space 2 (some .int) 2 48 [.ref (ad (0)), .int (nI (a))] M (fun v M' => v = some (.int (oI (o))) ∧ M = M') := by
  refine MC.of (by decide) (Nat.le_of_ble_eq_true rfl) ?_
  intro p e s m below meth c ls hx hb hr hml hown hg hlocks hK hN hP hS hl
  have hown : s.vm.findClass R_C = some m.cls := hown
  have hl : lv_has ls 2 [(0, .ref (ad (0))), (1, .int (nI (a)))] := hl
  have hn60 := hN7.1
  have hnm := hN7.2.2.1
  refine lv_aload_n hx hb d_C_space_0 rfl (lv_at hl 0 rfl) ?_
  refine lv_iload_n hx hb d_C_space_1 rfl (lv_at hl 1 rfl) ?_
  refine c_V (own := R_C) (index := 131) (As := [.int (nI (a))]) (rest := []) hx hb hml hown hg hK NXc.same hN.warm (fun _ h => h) hP hS 0 (c_C_rqn l D cI cC cZ cT ad hI M n len ch hN7 (a) (by omega)) (by decide) (ci := 7) rfl rfl k_401 k_403 k_p5 k_1 k_404 1 rfl (by decide +kernel) (by decide) rfl hl.1 (Nat.le_of_ble_eq_true rfl) d_C_space_2 (fun v M' H locs hq hP _ _ hS => ?_)
  obtain ⟨rfl, rfl⟩ := hq
  refine W.eq (g2 := F0 m 5 ls []) rfl ?_
  refine lv_aload_n hx hb d_C_space_5 rfl (lv_at hl 0 rfl) ?_
  refine g_get (C := R_C) (T := T_C) (N := 15) (ci := 7) (v := .ref (ad (129))) hx hb hg i_C hown hK hP 0 (by decide) rfl rfl 4 (by decide) (hg _ k_132) rfl d_C_space_6 ?_
  refine lv_iload_n hx hb d_C_space_9 rfl (lv_at hl 1 rfl) ?_
  refine c_V (own := R_C) (index := 155) (As := [.int (nI (a))]) (rest := []) hx hb hml hown hg hK NXc.same hN.warm (fun _ h => h) hP hS 129 (c_H_spaceOfName l D cI cC cZ cT ad hI M n len ch hN7 sp bs hH hbsp a ha (o) hO) (by decide) (ci := 3) rfl rfl k_457 k_458 k_459 k_4 k_460 1 rfl (by decide +kernel) (by decide) rfl hl.1 (Nat.le_of_ble_eq_true rfl) d_C_space_10 (fun v M' H locs hq hP _ _ hS => ?_)
  obtain ⟨rfl, rfl⟩ := hq
  refine W.eq (g2 := F0 m 13 ls [.int (oI (o))]) rfl ?_
  exact r_i hx hb hr hlocks hP hS (⟨rfl, rfl⟩) d_C_space_13

set_option maxHeartbeats 4000000 in
set_option maxRecDepth 100000 in
theorem c_C_best_n (l : Launch) (D : va_G) (cI cC cZ cT : ClassId) (ad : Nat → Nat) (hI : GI 144 ad) (M : PM) (n : Nat) (len : Nat → Nat) (ch : Nat → Nat → Nat) (hN7 : CN M n len ch) (sp bs : Nat → Option Nat) (hH : CSp M n sp bs) (hbsp : ∀ k, k < n → (bs k ≠ none ↔ isSp n sp k)) (a : Nat) (ha : a < n) (hO : Best (spC n len ch sp a) len n none) : MD l D cI cC cZ cT ad y_C_best b_C_best 2 (some .int) 2 48 [.ref (ad (0)), .int (nI (a))] M (fun v M' => v = some (.int (oI (none))) ∧ M = M') := by
  refine MC.of (by decide) (Nat.le_of_ble_eq_true rfl) ?_
  intro p e s m below meth c ls hx hb hr hml hown hg hlocks hK hN hP hS hl
  have hown : s.vm.findClass R_C = some m.cls := hown
  have hl : lv_has ls 2 [(0, .ref (ad (0))), (1, .int (nI (a)))] := hl
  have hn60 := hN7.1
  have hnm := hN7.2.2.1
  refine lv_aload_n hx hb d_C_best_0 rfl (lv_at hl 0 rfl) ?_
  refine lv_iload_n hx hb d_C_best_1 rfl (lv_at hl 1 rfl) ?_
  refine c_V (own := R_C) (index := 131) (As := [.int (nI (a))]) (rest := []) hx hb hml hown hg hK NXc.same hN.warm (fun _ h => h) hP hS 0 (c_C_rqn l D cI cC cZ cT ad hI M n len ch hN7 (a) (by omega)) (by decide) (ci := 7) rfl rfl k_401 k_403 k_p5 k_1 k_404 1 rfl (by decide +kernel) (by decide) rfl hl.1 (Nat.le_of_ble_eq_true rfl) d_C_best_2 (fun v M' H locs hq hP _ _ hS => ?_)
  obtain ⟨rfl, rfl⟩ := hq
  refine W.eq (g2 := F0 m 5 ls []) rfl ?_
  refine lv_aload_n hx hb d_C_best_5 rfl (lv_at hl 0 rfl) ?_
  refine g_get (C := R_C) (T := T_C) (N := 15) (ci := 7) (v := .ref (ad (129))) hx hb hg i_C hown hK hP 0 (by decide) rfl rfl 4 (by decide) (hg _ k_132) rfl d_C_best_6 ?_
  refine lv_aload_n hx hb d_C_best_9 rfl (lv_at hl 0 rfl) ?_
  refine g_get (C := R_C) (T := T_C) (N := 15) (ci := 7) (v := .ref (ad (129))) hx hb hg i_C hown hK hP 0 (by decide) rfl rfl 4 (by decide) (hg _ k_132) rfl d_C_best_10 ?_
  refine lv_iload_n hx hb d_C_best_13 rfl (lv_at hl 1 rfl) ?_
  refine c_V (own := R_C) (index := 155) (As := [.int (nI (a))]) (rest := [.ref (ad (129))]) hx hb hml hown hg hK NXc.same hN.warm (fun _ h => h) hP hS 129 (c_H_spaceOfName l D cI cC cZ cT ad hI M n len ch hN7 sp bs hH hbsp a ha (none) hO) (by decide) (ci := 3) rfl rfl k_457 k_458 k_459 k_4 k_460 1 rfl (by decide +kernel) (by decide) rfl hl.1 (Nat.le_of_ble_eq_true rfl) d_C_best_14 (fun v M' H locs hq hP _ _ hS => ?_)
  obtain ⟨rfl, rfl⟩ := hq
  refine W.eq (g2 := F0 m 17 ls [.int (-1), .ref (ad (129))]) rfl ?_
  refine c_V (own := R_C) (index := 158) (As := [.int (-1)]) (rest := []) hx hb hml hown hg hK NXc.same hN.warm (fun _ h => h) hP hS 129 (c_H_bestOfSpace_n l D cI cC cZ cT ad hI M) (by decide) (ci := 3) rfl rfl k_477 k_478 k_479 k_4 k_480 1 rfl (by decide +kernel) (by decide) rfl hl.1 (Nat.le_of_ble_eq_true rfl) d_C_best_17 (fun v M' H locs hq hP _ _ hS => ?_)
  obtain ⟨rfl, rfl⟩ := hq
  refine W.eq (g2 := F0 m 20 ls [.int (oI (none))]) rfl ?_
  exact r_i hx hb hr hlocks hP hS (⟨rfl, rfl⟩) d_C_best_20

set_option maxHeartbeats 4000000 in
set_option maxRecDepth 100000 in
theorem c_C_best_s (l : Launch) (D : va_G) (cI cC cZ cT : ClassId) (ad : Nat → Nat) (hI : GI 144 ad) (M : PM) (n : Nat) (len : Nat → Nat) (ch : Nat → Nat → Nat) (hN7 : CN M n len ch) (sp bs : Nat → Option Nat) (hH : CSp M n sp bs) (hbsp : ∀ k, k < n → (bs k ≠ none ↔ isSp n sp k)) (a : Nat) (ha : a < n) (s9 : Nat) (hO : Best (spC n len ch sp a) len n (some s9)) : MD l D cI cC cZ cT ad y_C_best b_C_best 2 (some .int) 2 48 [.ref (ad (0)), .int (nI (a))] M (fun v M' => v = some (.int (oI (bs s9))) ∧ M = M') := by
  refine MC.of (by decide) (Nat.le_of_ble_eq_true rfl) ?_
  intro p e s m below meth c ls hx hb hr hml hown hg hlocks hK hN hP hS hl
  have hown : s.vm.findClass R_C = some m.cls := hown
  have hl : lv_has ls 2 [(0, .ref (ad (0))), (1, .int (nI (a)))] := hl
  have hn60 := hN7.1
  have hnm := hN7.2.2.1
  have hs9n := hO.1
  refine lv_aload_n hx hb d_C_best_0 rfl (lv_at hl 0 rfl) ?_
  refine lv_iload_n hx hb d_C_best_1 rfl (lv_at hl 1 rfl) ?_
  refine c_V (own := R_C) (index := 131) (As := [.int (nI (a))]) (rest := []) hx hb hml hown hg hK NXc.same hN.warm (fun _ h => h) hP hS 0 (c_C_rqn l D cI cC cZ cT ad hI M n len ch hN7 (a) (by omega)) (by decide) (ci := 7) rfl rfl k_401 k_403 k_p5 k_1 k_404 1 rfl (by decide +kernel) (by decide) rfl hl.1 (Nat.le_of_ble_eq_true rfl) d_C_best_2 (fun v M' H locs hq hP _ _ hS => ?_)
  obtain ⟨rfl, rfl⟩ := hq
  refine W.eq (g2 := F0 m 5 ls []) rfl ?_
  refine lv_aload_n hx hb d_C_best_5 rfl (lv_at hl 0 rfl) ?_
  refine g_get (C := R_C) (T := T_C) (N := 15) (ci := 7) (v := .ref (ad (129))) hx hb hg i_C hown hK hP 0 (by decide) rfl rfl 4 (by decide) (hg _ k_132) rfl d_C_best_6 ?_
  refine lv_aload_n hx hb d_C_best_9 rfl (lv_at hl 0 rfl) ?_
  refine g_get (C := R_C) (T := T_C) (N := 15) (ci := 7) (v := .ref (ad (129))) hx hb hg i_C hown hK hP 0 (by decide) rfl rfl 4 (by decide) (hg _ k_132) rfl d_C_best_10 ?_
  refine lv_iload_n hx hb d_C_best_13 rfl (lv_at hl 1 rfl) ?_
  refine c_V (own := R_C) (index := 155) (As := [.int (nI (a))]) (rest := [.ref (ad (129))]) hx hb hml hown hg hK NXc.same hN.warm (fun _ h => h) hP hS 129 (c_H_spaceOfName l D cI cC cZ cT ad hI M n len ch hN7 sp bs hH hbsp a ha (some s9) hO) (by decide) (ci := 3) rfl rfl k_457 k_458 k_459 k_4 k_460 1 rfl (by decide +kernel) (by decide) rfl hl.1 (Nat.le_of_ble_eq_true rfl) d_C_best_14 (fun v M' H locs hq hP _ _ hS => ?_)
  obtain ⟨rfl, rfl⟩ := hq
  refine W.eq (g2 := F0 m 17 ls [.int (nI (s9)), .ref (ad (129))]) rfl ?_
  refine c_V (own := R_C) (index := 158) (As := [.int (nI (s9))]) (rest := []) hx hb hml hown hg hK NXc.same hN.warm (fun _ h => h) hP hS 129 (c_H_bestOfSpace_s l D cI cC cZ cT ad hI M n sp bs hH s9 (by omega)) (by decide) (ci := 3) rfl rfl k_477 k_478 k_479 k_4 k_480 1 rfl (by decide +kernel) (by decide) rfl hl.1 (Nat.le_of_ble_eq_true rfl) d_C_best_17 (fun v M' H locs hq hP _ _ hS => ?_)
  obtain ⟨rfl, rfl⟩ := hq
  refine W.eq (g2 := F0 m 20 ls [.int (oI (bs s9))]) rfl ?_
  exact r_i hx hb hr hlocks hP hS (⟨rfl, rfl⟩) d_C_best_20

set_option maxHeartbeats 4000000 in
set_option maxRecDepth 100000 in
theorem c_C_letter_0 (l : Launch) (D : va_G) (cI cC cZ cT : ClassId) (ad : Nat → Nat) (hI : GI 144 ad) (M : PM) (pl : Nat) (pc9 : Nat → Nat) (hT3 : TT M 3 pl pc9) (x : Int32) (hbad : ¬ ∃ i, i < pl ∧ x = nI i) : MD l D cI cC cZ cT ad y_C_letter b_C_letter 2 (some .char) 1 21 [.ref (ad (0)), .int (x)] M (fun v M' => v = some (.int (nI (0))) ∧ M = M') := by
  refine MC.of (by decide) (Nat.le_of_ble_eq_true rfl) ?_
  intro p e s m below meth c ls hx hb hr hml hown hg hlocks hK hN hP hS hl
  have hown : s.vm.findClass R_C = some m.cls := hown
  have hl : lv_has ls 2 [(0, .ref (ad (0))), (1, .int (x))] := hl
  refine lv_aload_n hx hb d_C_letter_0 rfl (lv_at hl 0 rfl) ?_
  refine g_get (C := R_C) (T := T_C) (N := 15) (ci := 7) (v := .ref (ad (3))) hx hb hg i_C hown hK hP 0 (by decide) rfl rfl 1 (by decide) (hg _ k_129) rfl d_C_letter_1 ?_
  refine lv_iload_n hx hb d_C_letter_4 rfl (lv_at hl 1 rfl) ?_
  refine c_V (own := R_C) (index := 179) (As := [.int (x)]) (rest := []) hx hb hml hown hg hK NXc.same hN.warm (fun _ h => h) hP hS 3 (c_T_at_0 l D cI cC cZ cT ad hI M 3 tx3 pl pc9 hT3 x hbad) (tx_lt tx3) (ci := 6) (cfC_T tx3 _) rfl k_191 k_192 k_193 k_2 k_194 1 rfl (by decide +kernel) (by decide) rfl hl.1 (Nat.le_of_ble_eq_true rfl) d_C_letter_5 (fun v M' H locs hq hP _ _ hS => ?_)
  obtain ⟨rfl, rfl⟩ := hq
  refine W.eq (g2 := F0 m 8 ls [.int (nI (0))]) rfl ?_
  exact r_z hx hb hr hlocks (rfl) hP hS (⟨rfl, rfl⟩) d_C_letter_8

set_option maxHeartbeats 4000000 in
set_option maxRecDepth 100000 in
theorem c_C_letter (l : Launch) (D : va_G) (cI cC cZ cT : ClassId) (ad : Nat → Nat) (hI : GI 144 ad) (M : PM) (pl : Nat) (pc9 : Nat → Nat) (hT3 : TT M 3 pl pc9) (i : Nat) (hi : i < pl) : MD l D cI cC cZ cT ad y_C_letter b_C_letter 2 (some .char) 1 21 [.ref (ad (0)), .int (nI (i))] M (fun v M' => v = some (.int (nI (pc9 i))) ∧ M = M') := by
  refine MC.of (by decide) (Nat.le_of_ble_eq_true rfl) ?_
  intro p e s m below meth c ls hx hb hr hml hown hg hlocks hK hN hP hS hl
  have hown : s.vm.findClass R_C = some m.cls := hown
  have hl : lv_has ls 2 [(0, .ref (ad (0))), (1, .int (nI (i)))] := hl
  have hsi := (hT3.2.2 i hi).1
  refine lv_aload_n hx hb d_C_letter_0 rfl (lv_at hl 0 rfl) ?_
  refine g_get (C := R_C) (T := T_C) (N := 15) (ci := 7) (v := .ref (ad (3))) hx hb hg i_C hown hK hP 0 (by decide) rfl rfl 1 (by decide) (hg _ k_129) rfl d_C_letter_1 ?_
  refine lv_iload_n hx hb d_C_letter_4 rfl (lv_at hl 1 rfl) ?_
  refine c_V (own := R_C) (index := 179) (As := [.int (nI (i))]) (rest := []) hx hb hml hown hg hK NXc.same hN.warm (fun _ h => h) hP hS 3 (c_T_at l D cI cC cZ cT ad hI M 3 tx3 pl pc9 hT3 i hi) (tx_lt tx3) (ci := 6) (cfC_T tx3 _) rfl k_191 k_192 k_193 k_2 k_194 1 rfl (by decide +kernel) (by decide) rfl hl.1 (Nat.le_of_ble_eq_true rfl) d_C_letter_5 (fun v M' H locs hq hP _ _ hS => ?_)
  obtain ⟨rfl, rfl⟩ := hq
  refine W.eq (g2 := F0 m 8 ls [.int (nI (pc9 i))]) rfl ?_
  exact r_z hx hb hr hlocks ((pk_charN (by omega)).1) hP hS (⟨rfl, rfl⟩) d_C_letter_8

set_option maxHeartbeats 4000000 in
set_option maxRecDepth 100000 in
theorem c_C_use (l : Launch) (D : va_G) (cI cC cZ cT : ClassId) (ad : Nat → Nat) (hI : GI 144 ad) (M : PM) (n : Nat) (len : Nat → Nat) (ch : Nat → Nat → Nat) (hN7 : CN M n len ch) (us : Nat → Nat) (hU1 : CU M us) (a : Nat) (ha : a < n) : MD l D cI cC cZ cT ad y_C_use b_C_use 2 (some .int) 2 42 [.ref (ad (0)), .int (nI (a))] M (fun v M' => v = some (.int (nI (us a + 1))) ∧ M' = pu M 141 a (nI (us a + 1))) := by
  refine MC.of (by decide) (Nat.le_of_ble_eq_true rfl) ?_
  intro p e s m below meth c ls hx hb hr hml hown hg hlocks hK hN hP hS hl
  have hown : s.vm.findClass R_C = some m.cls := hown
  have hl : lv_has ls 2 [(0, .ref (ad (0))), (1, .int (nI (a)))] := hl
  have hn60 := hN7.1
  have hnm := hN7.2.2.1
  refine lv_aload_n hx hb d_C_use_0 rfl (lv_at hl 0 rfl) ?_
  refine lv_iload_n hx hb d_C_use_1 rfl (lv_at hl 1 rfl) ?_
  refine c_V (own := R_C) (index := 131) (As := [.int (nI (a))]) (rest := []) hx hb hml hown hg hK NXc.same hN.warm (fun _ h => h) hP hS 0 (c_C_rqn l D cI cC cZ cT ad hI M n len ch hN7 (a) (by omega)) (by decide) (ci := 7) rfl rfl k_401 k_403 k_p5 k_1 k_404 1 rfl (by decide +kernel) (by decide) rfl hl.1 (Nat.le_of_ble_eq_true rfl) d_C_use_2 (fun v M' H locs hq hP _ _ hS => ?_)
  obtain ⟨rfl, rfl⟩ := hq
  refine W.eq (g2 := F0 m 5 ls []) rfl ?_
  refine lv_aload_n hx hb d_C_use_5 rfl (lv_at hl 0 rfl) ?_
  refine g_get (C := R_C) (T := T_C) (N := 15) (ci := 7) (v := .ref (ad (141))) hx hb hg i_C hown hK hP 0 (by decide) rfl rfl 9 (by decide) (hg _ k_137) rfl d_C_use_6 ?_
  refine lv_iload_n hx hb d_C_use_9 rfl (lv_at hl 1 rfl) ?_
  refine lv_dup2_11 hx hb d_C_use_10 rfl rfl ?_
  refine g_iald hx hb hK hP 141 0 (by decide) rfl rfl (by decide) (j := a) (by omega) d_C_use_11 ?_
  refine n_top (y := (nI (us (a)))) ((hU1 (a) (by omega)).2) ?_
  refine n_const (k := 1) hx hb d_C_use_12 (by decide) ?_
  refine n_iadd (a := us (a)) (b := 1) hx hb d_C_use_13 ?_
  refine g_iast hx hb hK hI (fun _ h => h) hP hS 141 0 (by decide) (fun _ => rfl) rfl (by decide) (j := a) (by omega) (v := (nI ((us (a)) + (1)))) d_C_use_14 (fun H locs hP hS => ?_)
  obtain ⟨M_1, eM_1⟩ : ∃ z : PM, z = (pu M 141 (a) ((nI ((us (a)) + (1))))) := ⟨_, rfl⟩
  rw [← eM_1] at hP
  refine lv_aload_n hx hb d_C_use_15 rfl (lv_at hl 0 rfl) ?_
  refine g_get (C := R_C) (T := T_C) (N := 15) (ci := 7) (v := .ref (ad (141))) hx hb hg i_C hown hK hP 0 (by decide) rfl rfl 9 (by decide) (hg _ k_137) rfl d_C_use_16 ?_
  refine lv_iload_n hx hb d_C_use_19 rfl (lv_at hl 1 rfl) ?_
  refine g_iald hx hb hK hP 141 0 (by decide) rfl rfl (by decide) (j := a) (by omega) d_C_use_20 ?_
  refine n_top (y := (nI ((us (a)) + (1)))) (by rw [eM_1, pu_s]) ?_
  exact r_i hx hb hr hlocks hP hS (⟨rfl, eM_1⟩) d_C_use_21

set_option maxHeartbeats 4000000 in
set_option maxRecDepth 100000 in
theorem c_C_used (l : Launch) (D : va_G) (cI cC cZ cT : ClassId) (ad : Nat → Nat) (hI : GI 144 ad) (M : PM) (n : Nat) (len : Nat → Nat) (ch : Nat → Nat → Nat) (hN7 : CN M n len ch) (us : Nat → Nat) (hU1 : CU M us) (a : Nat) (ha : a < n) : MD l D cI cC cZ cT ad y_C_used b_C_used 2 (some .int) 2 42 [.ref (ad (0)), .int (nI (a))] M (fun v M' => v = some (.int (nI (us a))) ∧ M = M') := by
  refine MC.of (by decide) (Nat.le_of_ble_eq_true rfl) ?_
  intro p e s m below meth c ls hx hb hr hml hown hg hlocks hK hN hP hS hl
  have hown : s.vm.findClass R_C = some m.cls := hown
  have hl : lv_has ls 2 [(0, .ref (ad (0))), (1, .int (nI (a)))] := hl
  have hn60 := hN7.1
  have hnm := hN7.2.2.1
  refine lv_aload_n hx hb d_C_used_0 rfl (lv_at hl 0 rfl) ?_
  refine lv_iload_n hx hb d_C_used_1 rfl (lv_at hl 1 rfl) ?_
  refine c_V (own := R_C) (index := 131) (As := [.int (nI (a))]) (rest := []) hx hb hml hown hg hK NXc.same hN.warm (fun _ h => h) hP hS 0 (c_C_rqn l D cI cC cZ cT ad hI M n len ch hN7 (a) (by omega)) (by decide) (ci := 7) rfl rfl k_401 k_403 k_p5 k_1 k_404 1 rfl (by decide +kernel) (by decide) rfl hl.1 (Nat.le_of_ble_eq_true rfl) d_C_used_2 (fun v M' H locs hq hP _ _ hS => ?_)
  obtain ⟨rfl, rfl⟩ := hq
  refine W.eq (g2 := F0 m 5 ls []) rfl ?_
  refine lv_aload_n hx hb d_C_used_5 rfl (lv_at hl 0 rfl) ?_
  refine g_get (C := R_C) (T := T_C) (N := 15) (ci := 7) (v := .ref (ad (141))) hx hb hg i_C hown hK hP 0 (by decide) rfl rfl 9 (by decide) (hg _ k_137) rfl d_C_used_6 ?_
  refine lv_iload_n hx hb d_C_used_9 rfl (lv_at hl 1 rfl) ?_
  refine g_iald hx hb hK hP 141 0 (by decide) rfl rfl (by decide) (j := a) (by omega) d_C_used_10 ?_
  refine n_top (y := (nI (us (a)))) ((hU1 (a) (by omega)).2) ?_
  exact r_i hx hb hr hlocks hP hS (⟨rfl, rfl⟩) d_C_used_11
