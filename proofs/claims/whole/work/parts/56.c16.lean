set_option maxHeartbeats 4000000 in
set_option maxRecDepth 100000 in
theorem x_C_join_1a (l : Launch) (D : va_G) (cI cC cZ cT : ClassId) (ad : Nat → Nat) (hI : GI 144 ad) (hlT : l.stackTraces = false) (M : PM) (n : Nat) (len : Nat → Nat) (ch : Nat → Nat → Nat) (hN7 : CN M n len ch) (x y : Int32) (hbad : ¬ ∃ j, j < n ∧ x = nI j) (z : Int32) : MX l D cI cC cZ cT ad y_C_join b_C_join 4 (some .int) 7 111 [.ref (ad (0)), .int (x), .int (y), .int (z)] M "java/lang/IndexOutOfBoundsException" (fun M' => M = M') := by
  refine MX.of (by decide) (Nat.le_of_ble_eq_true rfl) ?_
  intro p e s m below meth c ls hx hb hr hml hown hg hlocks hK hN hX hTb hP hS hl
  have hown : s.vm.findClass R_C = some m.cls := hown
  have hl : lv_has ls 4 [(0, .ref (ad (0))), (1, .int (x)), (2, .int (y)), (3, .int (z))] := hl
  refine lv_aload_n hx hb d_C_join_0 rfl (lv_at hl 0 rfl) ?_
  refine lv_iload_n hx hb d_C_join_1 rfl (lv_at hl 1 rfl) ?_
  exact x_V (own := R_C) (index := 131) (As := [.int (x)]) (rest := []) hx hb hml hown hg hK hN hX hTb hlocks hP hS 0 (x_C_rqn l D cI cC cZ cT ad hI hlT M n len ch hN7 (x) hbad) (by decide) (ci := 7) rfl rfl k_401 k_403 k_p5 k_1 k_404 1 rfl (by decide +kernel) (by decide) rfl hl.1 (Nat.le_of_ble_eq_true rfl) d_C_join_2 (fun _ h => h)

set_option maxHeartbeats 4000000 in
set_option maxRecDepth 100000 in
theorem x_C_join_1b (l : Launch) (D : va_G) (cI cC cZ cT : ClassId) (ad : Nat → Nat) (hI : GI 144 ad) (hlT : l.stackTraces = false) (M : PM) (n : Nat) (len : Nat → Nat) (ch : Nat → Nat → Nat) (hN7 : CN M n len ch) (a : Nat) (ha : a < n) (x : Int32) (hbad : ¬ ∃ j, j < n ∧ x = nI j) (z : Int32) : MX l D cI cC cZ cT ad y_C_join b_C_join 4 (some .int) 7 111 [.ref (ad (0)), .int (nI (a)), .int (x), .int (z)] M "java/lang/IndexOutOfBoundsException" (fun M' => M = M') := by
  refine MX.of (by decide) (Nat.le_of_ble_eq_true rfl) ?_
  intro p e s m below meth c ls hx hb hr hml hown hg hlocks hK hN hX hTb hP hS hl
  have hown : s.vm.findClass R_C = some m.cls := hown
  have hl : lv_has ls 4 [(0, .ref (ad (0))), (1, .int (nI (a))), (2, .int (x)), (3, .int (z))] := hl
  have hn60 := hN7.1
  have hnm := hN7.2.2.1
  refine lv_aload_n hx hb d_C_join_0 rfl (lv_at hl 0 rfl) ?_
  refine lv_iload_n hx hb d_C_join_1 rfl (lv_at hl 1 rfl) ?_
  refine c_V (own := R_C) (index := 131) (As := [.int (nI (a))]) (rest := []) hx hb hml hown hg hK NXc.same hN.warm (fun _ h => h) hP hS 0 (c_C_rqn l D cI cC cZ cT ad hI M n len ch hN7 (a) (by omega)) (by decide) (ci := 7) rfl rfl k_401 k_403 k_p5 k_1 k_404 1 rfl (by decide +kernel) (by decide) rfl hl.1 (Nat.le_of_ble_eq_true rfl) d_C_join_2 (fun v M' H locs hq hP _ _ hS => ?_)
  obtain ⟨rfl, rfl⟩ := hq
  refine W.eq (g2 := F0 m 5 ls []) rfl ?_
  refine lv_aload_n hx hb d_C_join_5 rfl (lv_at hl 0 rfl) ?_
  refine lv_iload_n hx hb d_C_join_6 rfl (lv_at hl 2 rfl) ?_
  exact x_V (own := R_C) (index := 131) (As := [.int (x)]) (rest := []) hx hb hml hown hg hK hN hX hTb hlocks hP hS 0 (x_C_rqn l D cI cC cZ cT ad hI hlT M n len ch hN7 (x) hbad) (by decide) (ci := 7) rfl rfl k_401 k_403 k_p5 k_1 k_404 1 rfl (by decide +kernel) (by decide) rfl hl.1 (Nat.le_of_ble_eq_true rfl) d_C_join_7 (fun _ h => h)

set_option maxHeartbeats 4000000 in
set_option maxRecDepth 100000 in
theorem x_C_join_2 (l : Launch) (D : va_G) (cI cC cZ cT : ClassId) (ad : Nat → Nat) (hI : GI 144 ad) (hlT : l.stackTraces = false) (M : PM) (n : Nat) (len : Nat → Nat) (ch : Nat → Nat → Nat) (hN7 : CN M n len ch) (a b9 : Nat) (ha : a < n) (hb9 : b9 < n) (x : Int32) (hbad : ¬ ∃ c, c ≤ 1 ∧ x = nI c) : MX l D cI cC cZ cT ad y_C_join b_C_join 4 (some .int) 6 90 [.ref (ad (0)), .int (nI (a)), .int (nI (b9)), .int (x)] M "java/lang/IllegalArgumentException" (fun M' => M = M') := by
  refine MX.of (by decide) (Nat.le_of_ble_eq_true rfl) ?_
  intro p e s m below meth c ls hx hb hr hml hown hg hlocks hK hN hX hTb hP hS hl
  have hown : s.vm.findClass R_C = some m.cls := hown
  have hl : lv_has ls 4 [(0, .ref (ad (0))), (1, .int (nI (a))), (2, .int (nI (b9))), (3, .int (x))] := hl
  have hn60 := hN7.1
  have hnm := hN7.2.2.1
  refine lv_aload_n hx hb d_C_join_0 rfl (lv_at hl 0 rfl) ?_
  refine lv_iload_n hx hb d_C_join_1 rfl (lv_at hl 1 rfl) ?_
  refine c_V (own := R_C) (index := 131) (As := [.int (nI (a))]) (rest := []) hx hb hml hown hg hK NXc.same hN.warm (fun _ h => h) hP hS 0 (c_C_rqn l D cI cC cZ cT ad hI M n len ch hN7 (a) (by omega)) (by decide) (ci := 7) rfl rfl k_401 k_403 k_p5 k_1 k_404 1 rfl (by decide +kernel) (by decide) rfl hl.1 (Nat.le_of_ble_eq_true rfl) d_C_join_2 (fun v M' H locs hq hP _ _ hS => ?_)
  obtain ⟨rfl, rfl⟩ := hq
  refine W.eq (g2 := F0 m 5 ls []) rfl ?_
  refine lv_aload_n hx hb d_C_join_5 rfl (lv_at hl 0 rfl) ?_
  refine lv_iload_n hx hb d_C_join_6 rfl (lv_at hl 2 rfl) ?_
  refine c_V (own := R_C) (index := 131) (As := [.int (nI (b9))]) (rest := []) hx hb hml hown hg hK NXc.same hN.warm (fun _ h => h) hP hS 0 (c_C_rqn l D cI cC cZ cT ad hI M n len ch hN7 (b9) (by omega)) (by decide) (ci := 7) rfl rfl k_401 k_403 k_p5 k_1 k_404 1 rfl (by decide +kernel) (by decide) rfl hl.1 (Nat.le_of_ble_eq_true rfl) d_C_join_7 (fun v M' H locs hq hP _ _ hS => ?_)
  obtain ⟨rfl, rfl⟩ := hq
  refine W.eq (g2 := F0 m 10 ls []) rfl ?_
  refine lv_iload_n hx hb d_C_join_10 rfl (lv_at hl 3 rfl) ?_
  refine lv_if_eq (tgt := 30) hx hb d_C_join_11 (by decide) (fun c_11 => ?_) (fun c_11 => ?_)
  · exact absurd ⟨0, by decide, c_11⟩ hbad
  · refine lv_iload_n hx hb d_C_join_14 rfl (lv_at hl 3 rfl) ?_
    refine n_const (k := 1) hx hb d_C_join_15 (by decide) ?_
    refine lv_icmp_eq (tgt := 30) hx hb d_C_join_16 (by decide) (fun c_16 => ?_) (fun c_16 => ?_)
    · exact absurd ⟨1, by decide, c_16⟩ hbad
    · exact t_SW hx hb hlT xat_IAE sx_256 hown hg hX hTb hlocks (hl.1.trans hml.symm) hP hS (rfl) (by decide) (Nat.le_of_ble_eq_true rfl) d_C_join_19 d_C_join_22 d_C_join_23 d_C_join_26 d_C_join_29

set_option maxHeartbeats 4000000 in
set_option maxRecDepth 100000 in
theorem x_C_join_30 (l : Launch) (D : va_G) (cI cC cZ cT : ClassId) (ad : Nat → Nat) (hI : GI 144 ad) (hlT : l.stackTraces = false) (M : PM) (n : Nat) (len : Nat → Nat) (ch : Nat → Nat → Nat) (hN7 : CN M n len ch) (a b9 : Nat) (ha : a < n) (hb9 : b9 < n) (p1 : Nat) (hp : p1 ≤ len a ∧ (∀ q, p1 ≤ q → q < len a → ¬ ch a q = 47) ∧ (p1 = 0 ∨ ch a (p1 - 1) = 47)) (ho : Fst (sameT len ch (p1 + len b9) (scJ0 ch a b9 p1)) n none) (htm : 24 < p1 + len b9 ∨ n = 60) : MX l D cI cC cZ cT ad y_C_join b_C_join 4 (some .int) 7 112 [.ref (ad (0)), .int (nI (a)), .int (nI (b9)), .int (nI (0))] M "java/lang/UnsupportedOperationException" (fun M' => FT 5 M M') := by
  refine MX.of (by decide) (Nat.le_of_ble_eq_true rfl) ?_
  intro p e s m below meth c ls hx hb hr hml hown hg hlocks hK hN hX hTb hP hS hl
  have hown : s.vm.findClass R_C = some m.cls := hown
  have hl : lv_has ls 4 [(0, .ref (ad (0))), (1, .int (nI (a))), (2, .int (nI (b9))), (3, .int (nI (0)))] := hl
  have hn60 := hN7.1
  have hnm := hN7.2.2.1
  refine lv_aload_n hx hb d_C_join_0 rfl (lv_at hl 0 rfl) ?_
  refine lv_iload_n hx hb d_C_join_1 rfl (lv_at hl 1 rfl) ?_
  refine c_V (own := R_C) (index := 131) (As := [.int (nI (a))]) (rest := []) hx hb hml hown hg hK NXc.same hN.warm (fun _ h => h) hP hS 0 (c_C_rqn l D cI cC cZ cT ad hI M n len ch hN7 (a) (by omega)) (by decide) (ci := 7) rfl rfl k_401 k_403 k_p5 k_1 k_404 1 rfl (by decide +kernel) (by decide) rfl hl.1 (Nat.le_of_ble_eq_true rfl) d_C_join_2 (fun v M' H locs hq hP _ _ hS => ?_)
  obtain ⟨rfl, rfl⟩ := hq
  refine W.eq (g2 := F0 m 5 ls []) rfl ?_
  refine lv_aload_n hx hb d_C_join_5 rfl (lv_at hl 0 rfl) ?_
  refine lv_iload_n hx hb d_C_join_6 rfl (lv_at hl 2 rfl) ?_
  refine c_V (own := R_C) (index := 131) (As := [.int (nI (b9))]) (rest := []) hx hb hml hown hg hK NXc.same hN.warm (fun _ h => h) hP hS 0 (c_C_rqn l D cI cC cZ cT ad hI M n len ch hN7 (b9) (by omega)) (by decide) (ci := 7) rfl rfl k_401 k_403 k_p5 k_1 k_404 1 rfl (by decide +kernel) (by decide) rfl hl.1 (Nat.le_of_ble_eq_true rfl) d_C_join_7 (fun v M' H locs hq hP _ _ hS => ?_)
  obtain ⟨rfl, rfl⟩ := hq
  refine W.eq (g2 := F0 m 10 ls []) rfl ?_
  refine lv_iload_n hx hb d_C_join_10 rfl (lv_at hl 3 rfl) ?_
  refine lv_if_eq (tgt := 30) hx hb d_C_join_11 (by decide) (fun _ => ?_) (fun h9 => by first | exact absurd h9 (by decide) | exact absurd (by decide) h9)
  refine lv_iload_n hx hb d_C_join_30 rfl (lv_at hl 3 rfl) ?_
  refine lv_if_ne (tgt := 57) hx hb d_C_join_31 (by decide) (fun h9 => by first | exact absurd h9 (by decide) | exact absurd (by decide) h9) (fun _ => ?_)
  refine lv_aload_n hx hb d_C_join_34 rfl (lv_at hl 0 rfl) ?_
  refine lv_aload_n hx hb d_C_join_35 rfl (lv_at hl 0 rfl) ?_
  refine g_get (C := R_C) (T := T_C) (N := 15) (ci := 7) (v := .ref (ad (7))) hx hb hg i_C hown hK hP 0 (by decide) rfl rfl 3 (by decide) (hg _ k_131) rfl d_C_join_36 ?_
  refine lv_iload_n hx hb d_C_join_39 rfl (lv_at hl 1 rfl) ?_
  refine c_V (own := R_C) (index := 134) (As := [.int (nI (a))]) (rest := [.ref (ad (0))]) hx hb hml hown hg hK NXc.same hN.warm (fun _ h => h) hP hS 7 (c_N_text l D cI cC cZ cT ad hI M (a) (by omega)) (by decide) (ci := 0) rfl rfl k_387 k_388 k_389 k_3 k_390 1 rfl (by decide +kernel) (by decide) rfl hl.1 (Nat.le_of_ble_eq_true rfl) d_C_join_40 (fun v M' H locs hq hP _ _ hS => ?_)
  obtain ⟨rfl, rfl⟩ := hq
  refine W.eq (g2 := F0 m 43 ls [.ref (ad (9 + 2 * (a))), .ref (ad (0))]) rfl ?_
  refine lv_aload_n hx hb d_C_join_43 rfl (lv_at hl 0 rfl) ?_
  refine g_get (C := R_C) (T := T_C) (N := 15) (ci := 7) (v := .ref (ad (7))) hx hb hg i_C hown hK hP 0 (by decide) rfl rfl 3 (by decide) (hg _ k_131) rfl d_C_join_44 ?_
  refine lv_iload_n hx hb d_C_join_47 rfl (lv_at hl 2 rfl) ?_
  refine c_V (own := R_C) (index := 134) (As := [.int (nI (b9))]) (rest := [.ref (ad (9 + 2 * (a))), .ref (ad (0))]) hx hb hml hown hg hK NXc.same hN.warm (fun _ h => h) hP hS 7 (c_N_text l D cI cC cZ cT ad hI M (b9) (by omega)) (by decide) (ci := 0) rfl rfl k_387 k_388 k_389 k_3 k_390 1 rfl (by decide +kernel) (by decide) rfl hl.1 (Nat.le_of_ble_eq_true rfl) d_C_join_48 (fun v M' H locs hq hP _ _ hS => ?_)
  obtain ⟨rfl, rfl⟩ := hq
  refine W.eq (g2 := F0 m 51 ls [.ref (ad (9 + 2 * (b9))), .ref (ad (9 + 2 * (a))), .ref (ad (0))]) rfl ?_
  refine c_V (own := R_C) (index := 258) (As := [.ref (ad (9 + 2 * (a))), .ref (ad (9 + 2 * (b9)))]) (rest := []) hx hb hml hown hg hK NXc.same hN.warm (fun _ h => h) hP hS 0 (c_C_buildBesides l D cI cC cZ cT ad hI M n len ch hN7 a b9 ha hb9 p1 hp) (by decide) (ci := 7) rfl rfl k_684 k_686 k_p17 k_1 k_687 2 rfl (by decide +kernel) (by decide) rfl hl.1 (Nat.le_of_ble_eq_true rfl) d_C_join_51 (fun v M_1 H locs hq hP _ _ hS => ?_)
  obtain ⟨rfl, hB, hF⟩ := hq
  have hN71 := hN7.ft hF (by decide)
  refine W.eq (g2 := F0 m 54 ls []) rfl ?_
  refine lv_goto (tgt := 77) hx hb d_C_join_54 (by decide) ?_
  refine lv_aload_n hx hb d_C_join_77 rfl (lv_at hl 0 rfl) ?_
  refine lv_aload_n hx hb d_C_join_78 rfl (lv_at hl 0 rfl) ?_
  refine g_get (C := R_C) (T := T_C) (N := 15) (ci := 7) (v := .ref (ad (5))) hx hb hg i_C hown hK hP 0 (by decide) rfl rfl 2 (by decide) (hg _ k_130) rfl d_C_join_79 ?_
  exact x_V (own := R_C) (index := 119) (As := [.ref (ad (5))]) (rest := []) hx hb hml hown hg hK hN hX hTb hlocks hP hS 0 (x_C_nof l D cI cC cZ cT ad hI hlT M_1 n len ch hN71 5 tx5 (by decide) (p1 + len b9) (scJ0 ch a b9 p1) hB ho htm) (by decide) (ci := 7) rfl rfl k_329 k_331 k_p2 k_1 k_332 1 rfl (by decide +kernel) (by decide) rfl hl.1 (Nat.le_of_ble_eq_true rfl) d_C_join_82 (fun _ h => by rw [← h]; exact hF)

set_option maxHeartbeats 4000000 in
set_option maxRecDepth 100000 in
theorem c_C_join_o0 (l : Launch) (D : va_G) (cI cC cZ cT : ClassId) (ad : Nat → Nat) (hI : GI 144 ad) (M : PM) (n : Nat) (len : Nat → Nat) (ch : Nat → Nat → Nat) (hN7 : CN M n len ch) (a b9 : Nat) (ha : a < n) (hb9 : b9 < n) (p1 : Nat) (hp : p1 ≤ len a ∧ (∀ q, p1 ≤ q → q < len a → ¬ ch a q = 47) ∧ (p1 = 0 ∨ ch a (p1 - 1) = 47)) (k8 : Nat) (ho : Fst (sameT len ch (p1 + len b9) (scJ0 ch a b9 p1)) n (some k8)) : MD l D cI cC cZ cT ad y_C_join b_C_join 4 (some .int) 4 88 [.ref (ad (0)), .int (nI (a)), .int (nI (b9)), .int (nI (0))] M (fun v M' => v = some (.int (nI k8)) ∧ FT 5 M M') := by
  refine MC.of (by decide) (Nat.le_of_ble_eq_true rfl) ?_
  intro p e s m below meth c ls hx hb hr hml hown hg hlocks hK hN hP hS hl
  have hown : s.vm.findClass R_C = some m.cls := hown
  have hl : lv_has ls 4 [(0, .ref (ad (0))), (1, .int (nI (a))), (2, .int (nI (b9))), (3, .int (nI (0)))] := hl
  have hn60 := hN7.1
  have hnm := hN7.2.2.1
  refine lv_aload_n hx hb d_C_join_0 rfl (lv_at hl 0 rfl) ?_
  refine lv_iload_n hx hb d_C_join_1 rfl (lv_at hl 1 rfl) ?_
  refine c_V (own := R_C) (index := 131) (As := [.int (nI (a))]) (rest := []) hx hb hml hown hg hK NXc.same hN.warm (fun _ h => h) hP hS 0 (c_C_rqn l D cI cC cZ cT ad hI M n len ch hN7 (a) (by omega)) (by decide) (ci := 7) rfl rfl k_401 k_403 k_p5 k_1 k_404 1 rfl (by decide +kernel) (by decide) rfl hl.1 (Nat.le_of_ble_eq_true rfl) d_C_join_2 (fun v M' H locs hq hP _ _ hS => ?_)
  obtain ⟨rfl, rfl⟩ := hq
  refine W.eq (g2 := F0 m 5 ls []) rfl ?_
  refine lv_aload_n hx hb d_C_join_5 rfl (lv_at hl 0 rfl) ?_
  refine lv_iload_n hx hb d_C_join_6 rfl (lv_at hl 2 rfl) ?_
  refine c_V (own := R_C) (index := 131) (As := [.int (nI (b9))]) (rest := []) hx hb hml hown hg hK NXc.same hN.warm (fun _ h => h) hP hS 0 (c_C_rqn l D cI cC cZ cT ad hI M n len ch hN7 (b9) (by omega)) (by decide) (ci := 7) rfl rfl k_401 k_403 k_p5 k_1 k_404 1 rfl (by decide +kernel) (by decide) rfl hl.1 (Nat.le_of_ble_eq_true rfl) d_C_join_7 (fun v M' H locs hq hP _ _ hS => ?_)
  obtain ⟨rfl, rfl⟩ := hq
  refine W.eq (g2 := F0 m 10 ls []) rfl ?_
  refine lv_iload_n hx hb d_C_join_10 rfl (lv_at hl 3 rfl) ?_
  refine lv_if_eq (tgt := 30) hx hb d_C_join_11 (by decide) (fun _ => ?_) (fun h9 => by first | exact absurd h9 (by decide) | exact absurd (by decide) h9)
  refine lv_iload_n hx hb d_C_join_30 rfl (lv_at hl 3 rfl) ?_
  refine lv_if_ne (tgt := 57) hx hb d_C_join_31 (by decide) (fun h9 => by first | exact absurd h9 (by decide) | exact absurd (by decide) h9) (fun _ => ?_)
  refine lv_aload_n hx hb d_C_join_34 rfl (lv_at hl 0 rfl) ?_
  refine lv_aload_n hx hb d_C_join_35 rfl (lv_at hl 0 rfl) ?_
  refine g_get (C := R_C) (T := T_C) (N := 15) (ci := 7) (v := .ref (ad (7))) hx hb hg i_C hown hK hP 0 (by decide) rfl rfl 3 (by decide) (hg _ k_131) rfl d_C_join_36 ?_
  refine lv_iload_n hx hb d_C_join_39 rfl (lv_at hl 1 rfl) ?_
  refine c_V (own := R_C) (index := 134) (As := [.int (nI (a))]) (rest := [.ref (ad (0))]) hx hb hml hown hg hK NXc.same hN.warm (fun _ h => h) hP hS 7 (c_N_text l D cI cC cZ cT ad hI M (a) (by omega)) (by decide) (ci := 0) rfl rfl k_387 k_388 k_389 k_3 k_390 1 rfl (by decide +kernel) (by decide) rfl hl.1 (Nat.le_of_ble_eq_true rfl) d_C_join_40 (fun v M' H locs hq hP _ _ hS => ?_)
  obtain ⟨rfl, rfl⟩ := hq
  refine W.eq (g2 := F0 m 43 ls [.ref (ad (9 + 2 * (a))), .ref (ad (0))]) rfl ?_
  refine lv_aload_n hx hb d_C_join_43 rfl (lv_at hl 0 rfl) ?_
  refine g_get (C := R_C) (T := T_C) (N := 15) (ci := 7) (v := .ref (ad (7))) hx hb hg i_C hown hK hP 0 (by decide) rfl rfl 3 (by decide) (hg _ k_131) rfl d_C_join_44 ?_
  refine lv_iload_n hx hb d_C_join_47 rfl (lv_at hl 2 rfl) ?_
  refine c_V (own := R_C) (index := 134) (As := [.int (nI (b9))]) (rest := [.ref (ad (9 + 2 * (a))), .ref (ad (0))]) hx hb hml hown hg hK NXc.same hN.warm (fun _ h => h) hP hS 7 (c_N_text l D cI cC cZ cT ad hI M (b9) (by omega)) (by decide) (ci := 0) rfl rfl k_387 k_388 k_389 k_3 k_390 1 rfl (by decide +kernel) (by decide) rfl hl.1 (Nat.le_of_ble_eq_true rfl) d_C_join_48 (fun v M' H locs hq hP _ _ hS => ?_)
  obtain ⟨rfl, rfl⟩ := hq
  refine W.eq (g2 := F0 m 51 ls [.ref (ad (9 + 2 * (b9))), .ref (ad (9 + 2 * (a))), .ref (ad (0))]) rfl ?_
  refine c_V (own := R_C) (index := 258) (As := [.ref (ad (9 + 2 * (a))), .ref (ad (9 + 2 * (b9)))]) (rest := []) hx hb hml hown hg hK NXc.same hN.warm (fun _ h => h) hP hS 0 (c_C_buildBesides l D cI cC cZ cT ad hI M n len ch hN7 a b9 ha hb9 p1 hp) (by decide) (ci := 7) rfl rfl k_684 k_686 k_p17 k_1 k_687 2 rfl (by decide +kernel) (by decide) rfl hl.1 (Nat.le_of_ble_eq_true rfl) d_C_join_51 (fun v M_1 H locs hq hP _ _ hS => ?_)
  obtain ⟨rfl, hB, hF⟩ := hq
  have hN71 := hN7.ft hF (by decide)
  refine W.eq (g2 := F0 m 54 ls []) rfl ?_
  refine lv_goto (tgt := 77) hx hb d_C_join_54 (by decide) ?_
  refine lv_aload_n hx hb d_C_join_77 rfl (lv_at hl 0 rfl) ?_
  refine lv_aload_n hx hb d_C_join_78 rfl (lv_at hl 0 rfl) ?_
  refine g_get (C := R_C) (T := T_C) (N := 15) (ci := 7) (v := .ref (ad (5))) hx hb hg i_C hown hK hP 0 (by decide) rfl rfl 2 (by decide) (hg _ k_130) rfl d_C_join_79 ?_
  refine c_V (own := R_C) (index := 119) (As := [.ref (ad (5))]) (rest := []) hx hb hml hown hg hK NXc.same hN.warm (fun _ h => h) hP hS 0 (c_C_nof_o l D cI cC cZ cT ad hI M_1 n len ch hN71 5 tx5 (by decide) (p1 + len b9) (scJ0 ch a b9 p1) hB k8 ho) (by decide) (ci := 7) rfl rfl k_329 k_331 k_p2 k_1 k_332 1 rfl (by decide +kernel) (by decide) rfl hl.1 (Nat.le_of_ble_eq_true rfl) d_C_join_82 (fun v M' H locs hq hP _ _ hS => ?_)
  obtain ⟨rfl, rfl⟩ := hq
  refine W.eq (g2 := F0 m 85 ls [.int (nI (k8))]) rfl ?_
  exact r_i hx hb hr hlocks hP hS (⟨rfl, hF⟩) d_C_join_85

set_option maxHeartbeats 4000000 in
set_option maxRecDepth 100000 in
theorem c_C_join_n0 (l : Launch) (D : va_G) (cI cC cZ cT : ClassId) (ad : Nat → Nat) (hI : GI 144 ad) (M : PM) (n : Nat) (len : Nat → Nat) (ch : Nat → Nat → Nat) (hN7 : CN M n len ch) (a b9 : Nat) (ha : a < n) (hb9 : b9 < n) (p1 : Nat) (hp : p1 ≤ len a ∧ (∀ q, p1 ≤ q → q < len a → ¬ ch a q = 47) ∧ (p1 = 0 ∨ ch a (p1 - 1) = 47)) (ho : Fst (sameT len ch (p1 + len b9) (scJ0 ch a b9 p1)) n none) (h24 : p1 + len b9 ≤ 24) (hn9 : n < 60) : MD l D cI cC cZ cT ad y_C_join b_C_join 4 (some .int) 5 110 [.ref (ad (0)), .int (nI (a)), .int (nI (b9)), .int (nI (0))] M (fun v M' => v = some (.int (nI n)) ∧ ∃ M0, FT 5 M M0 ∧ NAd M0 M' n (p1 + len b9) (scJ0 ch a b9 p1)) := by
  refine MC.of (by decide) (Nat.le_of_ble_eq_true rfl) ?_
  intro p e s m below meth c ls hx hb hr hml hown hg hlocks hK hN hP hS hl
  have hown : s.vm.findClass R_C = some m.cls := hown
  have hl : lv_has ls 4 [(0, .ref (ad (0))), (1, .int (nI (a))), (2, .int (nI (b9))), (3, .int (nI (0)))] := hl
  have hn60 := hN7.1
  have hnm := hN7.2.2.1
  refine lv_aload_n hx hb d_C_join_0 rfl (lv_at hl 0 rfl) ?_
  refine lv_iload_n hx hb d_C_join_1 rfl (lv_at hl 1 rfl) ?_
  refine c_V (own := R_C) (index := 131) (As := [.int (nI (a))]) (rest := []) hx hb hml hown hg hK NXc.same hN.warm (fun _ h => h) hP hS 0 (c_C_rqn l D cI cC cZ cT ad hI M n len ch hN7 (a) (by omega)) (by decide) (ci := 7) rfl rfl k_401 k_403 k_p5 k_1 k_404 1 rfl (by decide +kernel) (by decide) rfl hl.1 (Nat.le_of_ble_eq_true rfl) d_C_join_2 (fun v M' H locs hq hP _ _ hS => ?_)
  obtain ⟨rfl, rfl⟩ := hq
  refine W.eq (g2 := F0 m 5 ls []) rfl ?_
  refine lv_aload_n hx hb d_C_join_5 rfl (lv_at hl 0 rfl) ?_
  refine lv_iload_n hx hb d_C_join_6 rfl (lv_at hl 2 rfl) ?_
  refine c_V (own := R_C) (index := 131) (As := [.int (nI (b9))]) (rest := []) hx hb hml hown hg hK NXc.same hN.warm (fun _ h => h) hP hS 0 (c_C_rqn l D cI cC cZ cT ad hI M n len ch hN7 (b9) (by omega)) (by decide) (ci := 7) rfl rfl k_401 k_403 k_p5 k_1 k_404 1 rfl (by decide +kernel) (by decide) rfl hl.1 (Nat.le_of_ble_eq_true rfl) d_C_join_7 (fun v M' H locs hq hP _ _ hS => ?_)
  obtain ⟨rfl, rfl⟩ := hq
  refine W.eq (g2 := F0 m 10 ls []) rfl ?_
  refine lv_iload_n hx hb d_C_join_10 rfl (lv_at hl 3 rfl) ?_
  refine lv_if_eq (tgt := 30) hx hb d_C_join_11 (by decide) (fun _ => ?_) (fun h9 => by first | exact absurd h9 (by decide) | exact absurd (by decide) h9)
  refine lv_iload_n hx hb d_C_join_30 rfl (lv_at hl 3 rfl) ?_
  refine lv_if_ne (tgt := 57) hx hb d_C_join_31 (by decide) (fun h9 => by first | exact absurd h9 (by decide) | exact absurd (by decide) h9) (fun _ => ?_)
  refine lv_aload_n hx hb d_C_join_34 rfl (lv_at hl 0 rfl) ?_
  refine lv_aload_n hx hb d_C_join_35 rfl (lv_at hl 0 rfl) ?_
  refine g_get (C := R_C) (T := T_C) (N := 15) (ci := 7) (v := .ref (ad (7))) hx hb hg i_C hown hK hP 0 (by decide) rfl rfl 3 (by decide) (hg _ k_131) rfl d_C_join_36 ?_
  refine lv_iload_n hx hb d_C_join_39 rfl (lv_at hl 1 rfl) ?_
  refine c_V (own := R_C) (index := 134) (As := [.int (nI (a))]) (rest := [.ref (ad (0))]) hx hb hml hown hg hK NXc.same hN.warm (fun _ h => h) hP hS 7 (c_N_text l D cI cC cZ cT ad hI M (a) (by omega)) (by decide) (ci := 0) rfl rfl k_387 k_388 k_389 k_3 k_390 1 rfl (by decide +kernel) (by decide) rfl hl.1 (Nat.le_of_ble_eq_true rfl) d_C_join_40 (fun v M' H locs hq hP _ _ hS => ?_)
  obtain ⟨rfl, rfl⟩ := hq
  refine W.eq (g2 := F0 m 43 ls [.ref (ad (9 + 2 * (a))), .ref (ad (0))]) rfl ?_
  refine lv_aload_n hx hb d_C_join_43 rfl (lv_at hl 0 rfl) ?_
  refine g_get (C := R_C) (T := T_C) (N := 15) (ci := 7) (v := .ref (ad (7))) hx hb hg i_C hown hK hP 0 (by decide) rfl rfl 3 (by decide) (hg _ k_131) rfl d_C_join_44 ?_
  refine lv_iload_n hx hb d_C_join_47 rfl (lv_at hl 2 rfl) ?_
  refine c_V (own := R_C) (index := 134) (As := [.int (nI (b9))]) (rest := [.ref (ad (9 + 2 * (a))), .ref (ad (0))]) hx hb hml hown hg hK NXc.same hN.warm (fun _ h => h) hP hS 7 (c_N_text l D cI cC cZ cT ad hI M (b9) (by omega)) (by decide) (ci := 0) rfl rfl k_387 k_388 k_389 k_3 k_390 1 rfl (by decide +kernel) (by decide) rfl hl.1 (Nat.le_of_ble_eq_true rfl) d_C_join_48 (fun v M' H locs hq hP _ _ hS => ?_)
  obtain ⟨rfl, rfl⟩ := hq
  refine W.eq (g2 := F0 m 51 ls [.ref (ad (9 + 2 * (b9))), .ref (ad (9 + 2 * (a))), .ref (ad (0))]) rfl ?_
  refine c_V (own := R_C) (index := 258) (As := [.ref (ad (9 + 2 * (a))), .ref (ad (9 + 2 * (b9)))]) (rest := []) hx hb hml hown hg hK NXc.same hN.warm (fun _ h => h) hP hS 0 (c_C_buildBesides l D cI cC cZ cT ad hI M n len ch hN7 a b9 ha hb9 p1 hp) (by decide) (ci := 7) rfl rfl k_684 k_686 k_p17 k_1 k_687 2 rfl (by decide +kernel) (by decide) rfl hl.1 (Nat.le_of_ble_eq_true rfl) d_C_join_51 (fun v M_1 H locs hq hP _ _ hS => ?_)
  obtain ⟨rfl, hB, hF⟩ := hq
  have hN71 := hN7.ft hF (by decide)
  refine W.eq (g2 := F0 m 54 ls []) rfl ?_
  refine lv_goto (tgt := 77) hx hb d_C_join_54 (by decide) ?_
  refine lv_aload_n hx hb d_C_join_77 rfl (lv_at hl 0 rfl) ?_
  refine lv_aload_n hx hb d_C_join_78 rfl (lv_at hl 0 rfl) ?_
  refine g_get (C := R_C) (T := T_C) (N := 15) (ci := 7) (v := .ref (ad (5))) hx hb hg i_C hown hK hP 0 (by decide) rfl rfl 2 (by decide) (hg _ k_130) rfl d_C_join_79 ?_
  refine c_V (own := R_C) (index := 119) (As := [.ref (ad (5))]) (rest := []) hx hb hml hown hg hK NXc.same hN.warm (fun _ h => h) hP hS 0 (c_C_nof_n l D cI cC cZ cT ad hI M_1 n len ch hN71 5 tx5 (by decide) (p1 + len b9) (scJ0 ch a b9 p1) hB ho (by omega) hn9) (by decide) (ci := 7) rfl rfl k_329 k_331 k_p2 k_1 k_332 1 rfl (by decide +kernel) (by decide) rfl hl.1 (Nat.le_of_ble_eq_true rfl) d_C_join_82 (fun v M_2 H locs hq hP _ _ hS => ?_)
  obtain ⟨rfl, hAd⟩ := hq
  refine W.eq (g2 := F0 m 85 ls [.int (nI (n))]) rfl ?_
  exact r_i hx hb hr hlocks hP hS (⟨rfl, _, hF, hAd⟩) d_C_join_85

set_option maxHeartbeats 4000000 in
set_option maxRecDepth 100000 in
theorem x_C_join_31 (l : Launch) (D : va_G) (cI cC cZ cT : ClassId) (ad : Nat → Nat) (hI : GI 144 ad) (hlT : l.stackTraces = false) (M : PM) (n : Nat) (len : Nat → Nat) (ch : Nat → Nat → Nat) (hN7 : CN M n len ch) (a b9 : Nat) (ha : a < n) (hb9 : b9 < n) (c9 : Nat) (hcut : Cut1 len ch a c9) (ho : Fst (sameT len ch (c9 + 1 + len b9) (scJ1 ch a b9 c9)) n none) (htm : 24 < c9 + 1 + len b9 ∨ n = 60) : MX l D cI cC cZ cT ad y_C_join b_C_join 4 (some .int) 7 112 [.ref (ad (0)), .int (nI (a)), .int (nI (b9)), .int (nI (1))] M "java/lang/UnsupportedOperationException" (fun M' => FT 5 M M') := by
  refine MX.of (by decide) (Nat.le_of_ble_eq_true rfl) ?_
  intro p e s m below meth c ls hx hb hr hml hown hg hlocks hK hN hX hTb hP hS hl
  have hown : s.vm.findClass R_C = some m.cls := hown
  have hl : lv_has ls 4 [(0, .ref (ad (0))), (1, .int (nI (a))), (2, .int (nI (b9))), (3, .int (nI (1)))] := hl
  have hn60 := hN7.1
  have hnm := hN7.2.2.1
  refine lv_aload_n hx hb d_C_join_0 rfl (lv_at hl 0 rfl) ?_
  refine lv_iload_n hx hb d_C_join_1 rfl (lv_at hl 1 rfl) ?_
  refine c_V (own := R_C) (index := 131) (As := [.int (nI (a))]) (rest := []) hx hb hml hown hg hK NXc.same hN.warm (fun _ h => h) hP hS 0 (c_C_rqn l D cI cC cZ cT ad hI M n len ch hN7 (a) (by omega)) (by decide) (ci := 7) rfl rfl k_401 k_403 k_p5 k_1 k_404 1 rfl (by decide +kernel) (by decide) rfl hl.1 (Nat.le_of_ble_eq_true rfl) d_C_join_2 (fun v M' H locs hq hP _ _ hS => ?_)
  obtain ⟨rfl, rfl⟩ := hq
  refine W.eq (g2 := F0 m 5 ls []) rfl ?_
  refine lv_aload_n hx hb d_C_join_5 rfl (lv_at hl 0 rfl) ?_
  refine lv_iload_n hx hb d_C_join_6 rfl (lv_at hl 2 rfl) ?_
  refine c_V (own := R_C) (index := 131) (As := [.int (nI (b9))]) (rest := []) hx hb hml hown hg hK NXc.same hN.warm (fun _ h => h) hP hS 0 (c_C_rqn l D cI cC cZ cT ad hI M n len ch hN7 (b9) (by omega)) (by decide) (ci := 7) rfl rfl k_401 k_403 k_p5 k_1 k_404 1 rfl (by decide +kernel) (by decide) rfl hl.1 (Nat.le_of_ble_eq_true rfl) d_C_join_7 (fun v M' H locs hq hP _ _ hS => ?_)
  obtain ⟨rfl, rfl⟩ := hq
  refine W.eq (g2 := F0 m 10 ls []) rfl ?_
  refine lv_iload_n hx hb d_C_join_10 rfl (lv_at hl 3 rfl) ?_
  refine lv_if_eq (tgt := 30) hx hb d_C_join_11 (by decide) (fun h9 => by first | exact absurd h9 (by decide) | exact absurd (by decide) h9) (fun _ => ?_)
  refine lv_iload_n hx hb d_C_join_14 rfl (lv_at hl 3 rfl) ?_
  refine n_const (k := 1) hx hb d_C_join_15 (by decide) ?_
  refine n_eq (a := 1) (b := 1) (tgt := 30) hx hb d_C_join_16 (by decide) (by decide) (by decide) (fun _ => ?_) (fun h9 => absurd h9 (by decide))
  refine lv_iload_n hx hb d_C_join_30 rfl (lv_at hl 3 rfl) ?_
  refine lv_if_ne (tgt := 57) hx hb d_C_join_31 (by decide) (fun _ => ?_) (fun h9 => by first | exact absurd h9 (by decide) | exact absurd (by decide) h9)
  refine lv_aload_n hx hb d_C_join_57 rfl (lv_at hl 0 rfl) ?_
  refine lv_aload_n hx hb d_C_join_58 rfl (lv_at hl 0 rfl) ?_
  refine g_get (C := R_C) (T := T_C) (N := 15) (ci := 7) (v := .ref (ad (7))) hx hb hg i_C hown hK hP 0 (by decide) rfl rfl 3 (by decide) (hg _ k_131) rfl d_C_join_59 ?_
  refine lv_iload_n hx hb d_C_join_62 rfl (lv_at hl 1 rfl) ?_
  refine c_V (own := R_C) (index := 134) (As := [.int (nI (a))]) (rest := [.ref (ad (0))]) hx hb hml hown hg hK NXc.same hN.warm (fun _ h => h) hP hS 7 (c_N_text l D cI cC cZ cT ad hI M (a) (by omega)) (by decide) (ci := 0) rfl rfl k_387 k_388 k_389 k_3 k_390 1 rfl (by decide +kernel) (by decide) rfl hl.1 (Nat.le_of_ble_eq_true rfl) d_C_join_63 (fun v M' H locs hq hP _ _ hS => ?_)
  obtain ⟨rfl, rfl⟩ := hq
  refine W.eq (g2 := F0 m 66 ls [.ref (ad (9 + 2 * (a))), .ref (ad (0))]) rfl ?_
  refine lv_aload_n hx hb d_C_join_66 rfl (lv_at hl 0 rfl) ?_
  refine g_get (C := R_C) (T := T_C) (N := 15) (ci := 7) (v := .ref (ad (7))) hx hb hg i_C hown hK hP 0 (by decide) rfl rfl 3 (by decide) (hg _ k_131) rfl d_C_join_67 ?_
  refine lv_iload_n hx hb d_C_join_70 rfl (lv_at hl 2 rfl) ?_
  refine c_V (own := R_C) (index := 134) (As := [.int (nI (b9))]) (rest := [.ref (ad (9 + 2 * (a))), .ref (ad (0))]) hx hb hml hown hg hK NXc.same hN.warm (fun _ h => h) hP hS 7 (c_N_text l D cI cC cZ cT ad hI M (b9) (by omega)) (by decide) (ci := 0) rfl rfl k_387 k_388 k_389 k_3 k_390 1 rfl (by decide +kernel) (by decide) rfl hl.1 (Nat.le_of_ble_eq_true rfl) d_C_join_71 (fun v M' H locs hq hP _ _ hS => ?_)
  obtain ⟨rfl, rfl⟩ := hq
  refine W.eq (g2 := F0 m 74 ls [.ref (ad (9 + 2 * (b9))), .ref (ad (9 + 2 * (a))), .ref (ad (0))]) rfl ?_
  refine c_V (own := R_C) (index := 262) (As := [.ref (ad (9 + 2 * (a))), .ref (ad (9 + 2 * (b9)))]) (rest := []) hx hb hml hown hg hK NXc.same hN.warm (fun _ h => h) hP hS 0 (c_C_bw l D cI cC cZ cT ad hI M n len ch hN7 a b9 ha hb9 c9 hcut) (by decide) (ci := 7) rfl rfl k_692 k_694 k_p18 k_1 k_695 2 rfl (by decide +kernel) (by decide) rfl hl.1 (Nat.le_of_ble_eq_true rfl) d_C_join_74 (fun v M_1 H locs hq hP _ _ hS => ?_)
  obtain ⟨rfl, hB, hF⟩ := hq
  have hN71 := hN7.ft hF (by decide)
  refine W.eq (g2 := F0 m 77 ls []) rfl ?_
  refine lv_aload_n hx hb d_C_join_77 rfl (lv_at hl 0 rfl) ?_
  refine lv_aload_n hx hb d_C_join_78 rfl (lv_at hl 0 rfl) ?_
  refine g_get (C := R_C) (T := T_C) (N := 15) (ci := 7) (v := .ref (ad (5))) hx hb hg i_C hown hK hP 0 (by decide) rfl rfl 2 (by decide) (hg _ k_130) rfl d_C_join_79 ?_
  exact x_V (own := R_C) (index := 119) (As := [.ref (ad (5))]) (rest := []) hx hb hml hown hg hK hN hX hTb hlocks hP hS 0 (x_C_nof l D cI cC cZ cT ad hI hlT M_1 n len ch hN71 5 tx5 (by decide) (c9 + 1 + len b9) (scJ1 ch a b9 c9) hB ho htm) (by decide) (ci := 7) rfl rfl k_329 k_331 k_p2 k_1 k_332 1 rfl (by decide +kernel) (by decide) rfl hl.1 (Nat.le_of_ble_eq_true rfl) d_C_join_82 (fun _ h => by rw [← h]; exact hF)

set_option maxHeartbeats 4000000 in
set_option maxRecDepth 100000 in
theorem c_C_join_o1 (l : Launch) (D : va_G) (cI cC cZ cT : ClassId) (ad : Nat → Nat) (hI : GI 144 ad) (M : PM) (n : Nat) (len : Nat → Nat) (ch : Nat → Nat → Nat) (hN7 : CN M n len ch) (a b9 : Nat) (ha : a < n) (hb9 : b9 < n) (c9 : Nat) (hcut : Cut1 len ch a c9) (k8 : Nat) (ho : Fst (sameT len ch (c9 + 1 + len b9) (scJ1 ch a b9 c9)) n (some k8)) : MD l D cI cC cZ cT ad y_C_join b_C_join 4 (some .int) 4 89 [.ref (ad (0)), .int (nI (a)), .int (nI (b9)), .int (nI (1))] M (fun v M' => v = some (.int (nI k8)) ∧ FT 5 M M') := by
  refine MC.of (by decide) (Nat.le_of_ble_eq_true rfl) ?_
  intro p e s m below meth c ls hx hb hr hml hown hg hlocks hK hN hP hS hl
  have hown : s.vm.findClass R_C = some m.cls := hown
  have hl : lv_has ls 4 [(0, .ref (ad (0))), (1, .int (nI (a))), (2, .int (nI (b9))), (3, .int (nI (1)))] := hl
  have hn60 := hN7.1
  have hnm := hN7.2.2.1
  refine lv_aload_n hx hb d_C_join_0 rfl (lv_at hl 0 rfl) ?_
  refine lv_iload_n hx hb d_C_join_1 rfl (lv_at hl 1 rfl) ?_
  refine c_V (own := R_C) (index := 131) (As := [.int (nI (a))]) (rest := []) hx hb hml hown hg hK NXc.same hN.warm (fun _ h => h) hP hS 0 (c_C_rqn l D cI cC cZ cT ad hI M n len ch hN7 (a) (by omega)) (by decide) (ci := 7) rfl rfl k_401 k_403 k_p5 k_1 k_404 1 rfl (by decide +kernel) (by decide) rfl hl.1 (Nat.le_of_ble_eq_true rfl) d_C_join_2 (fun v M' H locs hq hP _ _ hS => ?_)
  obtain ⟨rfl, rfl⟩ := hq
  refine W.eq (g2 := F0 m 5 ls []) rfl ?_
  refine lv_aload_n hx hb d_C_join_5 rfl (lv_at hl 0 rfl) ?_
  refine lv_iload_n hx hb d_C_join_6 rfl (lv_at hl 2 rfl) ?_
  refine c_V (own := R_C) (index := 131) (As := [.int (nI (b9))]) (rest := []) hx hb hml hown hg hK NXc.same hN.warm (fun _ h => h) hP hS 0 (c_C_rqn l D cI cC cZ cT ad hI M n len ch hN7 (b9) (by omega)) (by decide) (ci := 7) rfl rfl k_401 k_403 k_p5 k_1 k_404 1 rfl (by decide +kernel) (by decide) rfl hl.1 (Nat.le_of_ble_eq_true rfl) d_C_join_7 (fun v M' H locs hq hP _ _ hS => ?_)
  obtain ⟨rfl, rfl⟩ := hq
  refine W.eq (g2 := F0 m 10 ls []) rfl ?_
  refine lv_iload_n hx hb d_C_join_10 rfl (lv_at hl 3 rfl) ?_
  refine lv_if_eq (tgt := 30) hx hb d_C_join_11 (by decide) (fun h9 => by first | exact absurd h9 (by decide) | exact absurd (by decide) h9) (fun _ => ?_)
  refine lv_iload_n hx hb d_C_join_14 rfl (lv_at hl 3 rfl) ?_
  refine n_const (k := 1) hx hb d_C_join_15 (by decide) ?_
  refine n_eq (a := 1) (b := 1) (tgt := 30) hx hb d_C_join_16 (by decide) (by decide) (by decide) (fun _ => ?_) (fun h9 => absurd h9 (by decide))
  refine lv_iload_n hx hb d_C_join_30 rfl (lv_at hl 3 rfl) ?_
  refine lv_if_ne (tgt := 57) hx hb d_C_join_31 (by decide) (fun _ => ?_) (fun h9 => by first | exact absurd h9 (by decide) | exact absurd (by decide) h9)
  refine lv_aload_n hx hb d_C_join_57 rfl (lv_at hl 0 rfl) ?_
  refine lv_aload_n hx hb d_C_join_58 rfl (lv_at hl 0 rfl) ?_
  refine g_get (C := R_C) (T := T_C) (N := 15) (ci := 7) (v := .ref (ad (7))) hx hb hg i_C hown hK hP 0 (by decide) rfl rfl 3 (by decide) (hg _ k_131) rfl d_C_join_59 ?_
  refine lv_iload_n hx hb d_C_join_62 rfl (lv_at hl 1 rfl) ?_
  refine c_V (own := R_C) (index := 134) (As := [.int (nI (a))]) (rest := [.ref (ad (0))]) hx hb hml hown hg hK NXc.same hN.warm (fun _ h => h) hP hS 7 (c_N_text l D cI cC cZ cT ad hI M (a) (by omega)) (by decide) (ci := 0) rfl rfl k_387 k_388 k_389 k_3 k_390 1 rfl (by decide +kernel) (by decide) rfl hl.1 (Nat.le_of_ble_eq_true rfl) d_C_join_63 (fun v M' H locs hq hP _ _ hS => ?_)
  obtain ⟨rfl, rfl⟩ := hq
  refine W.eq (g2 := F0 m 66 ls [.ref (ad (9 + 2 * (a))), .ref (ad (0))]) rfl ?_
  refine lv_aload_n hx hb d_C_join_66 rfl (lv_at hl 0 rfl) ?_
  refine g_get (C := R_C) (T := T_C) (N := 15) (ci := 7) (v := .ref (ad (7))) hx hb hg i_C hown hK hP 0 (by decide) rfl rfl 3 (by decide) (hg _ k_131) rfl d_C_join_67 ?_
  refine lv_iload_n hx hb d_C_join_70 rfl (lv_at hl 2 rfl) ?_
  refine c_V (own := R_C) (index := 134) (As := [.int (nI (b9))]) (rest := [.ref (ad (9 + 2 * (a))), .ref (ad (0))]) hx hb hml hown hg hK NXc.same hN.warm (fun _ h => h) hP hS 7 (c_N_text l D cI cC cZ cT ad hI M (b9) (by omega)) (by decide) (ci := 0) rfl rfl k_387 k_388 k_389 k_3 k_390 1 rfl (by decide +kernel) (by decide) rfl hl.1 (Nat.le_of_ble_eq_true rfl) d_C_join_71 (fun v M' H locs hq hP _ _ hS => ?_)
  obtain ⟨rfl, rfl⟩ := hq
  refine W.eq (g2 := F0 m 74 ls [.ref (ad (9 + 2 * (b9))), .ref (ad (9 + 2 * (a))), .ref (ad (0))]) rfl ?_
  refine c_V (own := R_C) (index := 262) (As := [.ref (ad (9 + 2 * (a))), .ref (ad (9 + 2 * (b9)))]) (rest := []) hx hb hml hown hg hK NXc.same hN.warm (fun _ h => h) hP hS 0 (c_C_bw l D cI cC cZ cT ad hI M n len ch hN7 a b9 ha hb9 c9 hcut) (by decide) (ci := 7) rfl rfl k_692 k_694 k_p18 k_1 k_695 2 rfl (by decide +kernel) (by decide) rfl hl.1 (Nat.le_of_ble_eq_true rfl) d_C_join_74 (fun v M_1 H locs hq hP _ _ hS => ?_)
  obtain ⟨rfl, hB, hF⟩ := hq
  have hN71 := hN7.ft hF (by decide)
  refine W.eq (g2 := F0 m 77 ls []) rfl ?_
  refine lv_aload_n hx hb d_C_join_77 rfl (lv_at hl 0 rfl) ?_
  refine lv_aload_n hx hb d_C_join_78 rfl (lv_at hl 0 rfl) ?_
  refine g_get (C := R_C) (T := T_C) (N := 15) (ci := 7) (v := .ref (ad (5))) hx hb hg i_C hown hK hP 0 (by decide) rfl rfl 2 (by decide) (hg _ k_130) rfl d_C_join_79 ?_
  refine c_V (own := R_C) (index := 119) (As := [.ref (ad (5))]) (rest := []) hx hb hml hown hg hK NXc.same hN.warm (fun _ h => h) hP hS 0 (c_C_nof_o l D cI cC cZ cT ad hI M_1 n len ch hN71 5 tx5 (by decide) (c9 + 1 + len b9) (scJ1 ch a b9 c9) hB k8 ho) (by decide) (ci := 7) rfl rfl k_329 k_331 k_p2 k_1 k_332 1 rfl (by decide +kernel) (by decide) rfl hl.1 (Nat.le_of_ble_eq_true rfl) d_C_join_82 (fun v M' H locs hq hP _ _ hS => ?_)
  obtain ⟨rfl, rfl⟩ := hq
  refine W.eq (g2 := F0 m 85 ls [.int (nI (k8))]) rfl ?_
  exact r_i hx hb hr hlocks hP hS (⟨rfl, hF⟩) d_C_join_85

set_option maxHeartbeats 4000000 in
set_option maxRecDepth 100000 in
theorem c_C_join_n1 (l : Launch) (D : va_G) (cI cC cZ cT : ClassId) (ad : Nat → Nat) (hI : GI 144 ad) (M : PM) (n : Nat) (len : Nat → Nat) (ch : Nat → Nat → Nat) (hN7 : CN M n len ch) (a b9 : Nat) (ha : a < n) (hb9 : b9 < n) (c9 : Nat) (hcut : Cut1 len ch a c9) (ho : Fst (sameT len ch (c9 + 1 + len b9) (scJ1 ch a b9 c9)) n none) (h24 : c9 + 1 + len b9 ≤ 24) (hn9 : n < 60) : MD l D cI cC cZ cT ad y_C_join b_C_join 4 (some .int) 5 110 [.ref (ad (0)), .int (nI (a)), .int (nI (b9)), .int (nI (1))] M (fun v M' => v = some (.int (nI n)) ∧ ∃ M0, FT 5 M M0 ∧ NAd M0 M' n (c9 + 1 + len b9) (scJ1 ch a b9 c9)) := by
  refine MC.of (by decide) (Nat.le_of_ble_eq_true rfl) ?_
  intro p e s m below meth c ls hx hb hr hml hown hg hlocks hK hN hP hS hl
  have hown : s.vm.findClass R_C = some m.cls := hown
  have hl : lv_has ls 4 [(0, .ref (ad (0))), (1, .int (nI (a))), (2, .int (nI (b9))), (3, .int (nI (1)))] := hl
  have hn60 := hN7.1
  have hnm := hN7.2.2.1
  refine lv_aload_n hx hb d_C_join_0 rfl (lv_at hl 0 rfl) ?_
  refine lv_iload_n hx hb d_C_join_1 rfl (lv_at hl 1 rfl) ?_
  refine c_V (own := R_C) (index := 131) (As := [.int (nI (a))]) (rest := []) hx hb hml hown hg hK NXc.same hN.warm (fun _ h => h) hP hS 0 (c_C_rqn l D cI cC cZ cT ad hI M n len ch hN7 (a) (by omega)) (by decide) (ci := 7) rfl rfl k_401 k_403 k_p5 k_1 k_404 1 rfl (by decide +kernel) (by decide) rfl hl.1 (Nat.le_of_ble_eq_true rfl) d_C_join_2 (fun v M' H locs hq hP _ _ hS => ?_)
  obtain ⟨rfl, rfl⟩ := hq
  refine W.eq (g2 := F0 m 5 ls []) rfl ?_
  refine lv_aload_n hx hb d_C_join_5 rfl (lv_at hl 0 rfl) ?_
  refine lv_iload_n hx hb d_C_join_6 rfl (lv_at hl 2 rfl) ?_
  refine c_V (own := R_C) (index := 131) (As := [.int (nI (b9))]) (rest := []) hx hb hml hown hg hK NXc.same hN.warm (fun _ h => h) hP hS 0 (c_C_rqn l D cI cC cZ cT ad hI M n len ch hN7 (b9) (by omega)) (by decide) (ci := 7) rfl rfl k_401 k_403 k_p5 k_1 k_404 1 rfl (by decide +kernel) (by decide) rfl hl.1 (Nat.le_of_ble_eq_true rfl) d_C_join_7 (fun v M' H locs hq hP _ _ hS => ?_)
  obtain ⟨rfl, rfl⟩ := hq
  refine W.eq (g2 := F0 m 10 ls []) rfl ?_
  refine lv_iload_n hx hb d_C_join_10 rfl (lv_at hl 3 rfl) ?_
  refine lv_if_eq (tgt := 30) hx hb d_C_join_11 (by decide) (fun h9 => by first | exact absurd h9 (by decide) | exact absurd (by decide) h9) (fun _ => ?_)
  refine lv_iload_n hx hb d_C_join_14 rfl (lv_at hl 3 rfl) ?_
  refine n_const (k := 1) hx hb d_C_join_15 (by decide) ?_
  refine n_eq (a := 1) (b := 1) (tgt := 30) hx hb d_C_join_16 (by decide) (by decide) (by decide) (fun _ => ?_) (fun h9 => absurd h9 (by decide))
  refine lv_iload_n hx hb d_C_join_30 rfl (lv_at hl 3 rfl) ?_
  refine lv_if_ne (tgt := 57) hx hb d_C_join_31 (by decide) (fun _ => ?_) (fun h9 => by first | exact absurd h9 (by decide) | exact absurd (by decide) h9)
  refine lv_aload_n hx hb d_C_join_57 rfl (lv_at hl 0 rfl) ?_
  refine lv_aload_n hx hb d_C_join_58 rfl (lv_at hl 0 rfl) ?_
  refine g_get (C := R_C) (T := T_C) (N := 15) (ci := 7) (v := .ref (ad (7))) hx hb hg i_C hown hK hP 0 (by decide) rfl rfl 3 (by decide) (hg _ k_131) rfl d_C_join_59 ?_
  refine lv_iload_n hx hb d_C_join_62 rfl (lv_at hl 1 rfl) ?_
  refine c_V (own := R_C) (index := 134) (As := [.int (nI (a))]) (rest := [.ref (ad (0))]) hx hb hml hown hg hK NXc.same hN.warm (fun _ h => h) hP hS 7 (c_N_text l D cI cC cZ cT ad hI M (a) (by omega)) (by decide) (ci := 0) rfl rfl k_387 k_388 k_389 k_3 k_390 1 rfl (by decide +kernel) (by decide) rfl hl.1 (Nat.le_of_ble_eq_true rfl) d_C_join_63 (fun v M' H locs hq hP _ _ hS => ?_)
  obtain ⟨rfl, rfl⟩ := hq
  refine W.eq (g2 := F0 m 66 ls [.ref (ad (9 + 2 * (a))), .ref (ad (0))]) rfl ?_
  refine lv_aload_n hx hb d_C_join_66 rfl (lv_at hl 0 rfl) ?_
  refine g_get (C := R_C) (T := T_C) (N := 15) (ci := 7) (v := .ref (ad (7))) hx hb hg i_C hown hK hP 0 (by decide) rfl rfl 3 (by decide) (hg _ k_131) rfl d_C_join_67 ?_
  refine lv_iload_n hx hb d_C_join_70 rfl (lv_at hl 2 rfl) ?_
  refine c_V (own := R_C) (index := 134) (As := [.int (nI (b9))]) (rest := [.ref (ad (9 + 2 * (a))), .ref (ad (0))]) hx hb hml hown hg hK NXc.same hN.warm (fun _ h => h) hP hS 7 (c_N_text l D cI cC cZ cT ad hI M (b9) (by omega)) (by decide) (ci := 0) rfl rfl k_387 k_388 k_389 k_3 k_390 1 rfl (by decide +kernel) (by decide) rfl hl.1 (Nat.le_of_ble_eq_true rfl) d_C_join_71 (fun v M' H locs hq hP _ _ hS => ?_)
  obtain ⟨rfl, rfl⟩ := hq
  refine W.eq (g2 := F0 m 74 ls [.ref (ad (9 + 2 * (b9))), .ref (ad (9 + 2 * (a))), .ref (ad (0))]) rfl ?_
  refine c_V (own := R_C) (index := 262) (As := [.ref (ad (9 + 2 * (a))), .ref (ad (9 + 2 * (b9)))]) (rest := []) hx hb hml hown hg hK NXc.same hN.warm (fun _ h => h) hP hS 0 (c_C_bw l D cI cC cZ cT ad hI M n len ch hN7 a b9 ha hb9 c9 hcut) (by decide) (ci := 7) rfl rfl k_692 k_694 k_p18 k_1 k_695 2 rfl (by decide +kernel) (by decide) rfl hl.1 (Nat.le_of_ble_eq_true rfl) d_C_join_74 (fun v M_1 H locs hq hP _ _ hS => ?_)
  obtain ⟨rfl, hB, hF⟩ := hq
  have hN71 := hN7.ft hF (by decide)
  refine W.eq (g2 := F0 m 77 ls []) rfl ?_
  refine lv_aload_n hx hb d_C_join_77 rfl (lv_at hl 0 rfl) ?_
  refine lv_aload_n hx hb d_C_join_78 rfl (lv_at hl 0 rfl) ?_
  refine g_get (C := R_C) (T := T_C) (N := 15) (ci := 7) (v := .ref (ad (5))) hx hb hg i_C hown hK hP 0 (by decide) rfl rfl 2 (by decide) (hg _ k_130) rfl d_C_join_79 ?_
  refine c_V (own := R_C) (index := 119) (As := [.ref (ad (5))]) (rest := []) hx hb hml hown hg hK NXc.same hN.warm (fun _ h => h) hP hS 0 (c_C_nof_n l D cI cC cZ cT ad hI M_1 n len ch hN71 5 tx5 (by decide) (c9 + 1 + len b9) (scJ1 ch a b9 c9) hB ho (by omega) hn9) (by decide) (ci := 7) rfl rfl k_329 k_331 k_p2 k_1 k_332 1 rfl (by decide +kernel) (by decide) rfl hl.1 (Nat.le_of_ble_eq_true rfl) d_C_join_82 (fun v M_2 H locs hq hP _ _ hS => ?_)
  obtain ⟨rfl, hAd⟩ := hq
  refine W.eq (g2 := F0 m 85 ls [.int (nI (n))]) rfl ?_
  exact r_i hx hb hr hlocks hP hS (⟨rfl, _, hF, hAd⟩) d_C_join_85

set_option maxHeartbeats 4000000 in
set_option maxRecDepth 100000 in
theorem x_C_rename_1a (l : Launch) (D : va_G) (cI cC cZ cT : ClassId) (ad : Nat → Nat) (hI : GI 144 ad) (hlT : l.stackTraces = false) (M : PM) (n : Nat) (len : Nat → Nat) (ch : Nat → Nat → Nat) (hN7 : CN M n len ch) (x y : Int32) (hbad : ¬ ∃ j, j < n ∧ x = nI j) : MX l D cI cC cZ cT ad y_C_rename b_C_rename 3 (some .int) 7 111 [.ref (ad (0)), .int (x), .int (y)] M "java/lang/IndexOutOfBoundsException" (fun M' => M = M') := by
  refine MX.of (by decide) (Nat.le_of_ble_eq_true rfl) ?_
  intro p e s m below meth c ls hx hb hr hml hown hg hlocks hK hN hX hTb hP hS hl
  have hown : s.vm.findClass R_C = some m.cls := hown
  have hl : lv_has ls 3 [(0, .ref (ad (0))), (1, .int (x)), (2, .int (y))] := hl
  refine lv_aload_n hx hb d_C_rename_0 rfl (lv_at hl 0 rfl) ?_
  refine lv_iload_n hx hb d_C_rename_1 rfl (lv_at hl 1 rfl) ?_
  exact x_V (own := R_C) (index := 131) (As := [.int (x)]) (rest := []) hx hb hml hown hg hK hN hX hTb hlocks hP hS 0 (x_C_rqn l D cI cC cZ cT ad hI hlT M n len ch hN7 (x) hbad) (by decide) (ci := 7) rfl rfl k_401 k_403 k_p5 k_1 k_404 1 rfl (by decide +kernel) (by decide) rfl hl.1 (Nat.le_of_ble_eq_true rfl) d_C_rename_2 (fun _ h => h)

set_option maxHeartbeats 4000000 in
set_option maxRecDepth 100000 in
theorem x_C_rename_1b (l : Launch) (D : va_G) (cI cC cZ cT : ClassId) (ad : Nat → Nat) (hI : GI 144 ad) (hlT : l.stackTraces = false) (M : PM) (n : Nat) (len : Nat → Nat) (ch : Nat → Nat → Nat) (hN7 : CN M n len ch) (a : Nat) (ha : a < n) (x : Int32) (hbad : ¬ ∃ j, j < n ∧ x = nI j) : MX l D cI cC cZ cT ad y_C_rename b_C_rename 3 (some .int) 7 111 [.ref (ad (0)), .int (nI (a)), .int (x)] M "java/lang/IndexOutOfBoundsException" (fun M' => M = M') := by
  refine MX.of (by decide) (Nat.le_of_ble_eq_true rfl) ?_
  intro p e s m below meth c ls hx hb hr hml hown hg hlocks hK hN hX hTb hP hS hl
  have hown : s.vm.findClass R_C = some m.cls := hown
  have hl : lv_has ls 3 [(0, .ref (ad (0))), (1, .int (nI (a))), (2, .int (x))] := hl
  have hn60 := hN7.1
  have hnm := hN7.2.2.1
  refine lv_aload_n hx hb d_C_rename_0 rfl (lv_at hl 0 rfl) ?_
  refine lv_iload_n hx hb d_C_rename_1 rfl (lv_at hl 1 rfl) ?_
  refine c_V (own := R_C) (index := 131) (As := [.int (nI (a))]) (rest := []) hx hb hml hown hg hK NXc.same hN.warm (fun _ h => h) hP hS 0 (c_C_rqn l D cI cC cZ cT ad hI M n len ch hN7 (a) (by omega)) (by decide) (ci := 7) rfl rfl k_401 k_403 k_p5 k_1 k_404 1 rfl (by decide +kernel) (by decide) rfl hl.1 (Nat.le_of_ble_eq_true rfl) d_C_rename_2 (fun v M' H locs hq hP _ _ hS => ?_)
  obtain ⟨rfl, rfl⟩ := hq
  refine W.eq (g2 := F0 m 5 ls []) rfl ?_
  refine lv_aload_n hx hb d_C_rename_5 rfl (lv_at hl 0 rfl) ?_
  refine lv_iload_n hx hb d_C_rename_6 rfl (lv_at hl 2 rfl) ?_
  exact x_V (own := R_C) (index := 131) (As := [.int (x)]) (rest := []) hx hb hml hown hg hK hN hX hTb hlocks hP hS 0 (x_C_rqn l D cI cC cZ cT ad hI hlT M n len ch hN7 (x) hbad) (by decide) (ci := 7) rfl rfl k_401 k_403 k_p5 k_1 k_404 1 rfl (by decide +kernel) (by decide) rfl hl.1 (Nat.le_of_ble_eq_true rfl) d_C_rename_7 (fun _ h => h)

set_option maxHeartbeats 4000000 in
set_option maxRecDepth 100000 in
theorem x_C_rename_2 (l : Launch) (D : va_G) (cI cC cZ cT : ClassId) (ad : Nat → Nat) (hI : GI 144 ad) (hlT : l.stackTraces = false) (M : PM) (n : Nat) (len : Nat → Nat) (ch : Nat → Nat → Nat) (hN7 : CN M n len ch) (a b9 : Nat) (ha : a < n) (hab : a = b9) : MX l D cI cC cZ cT ad y_C_rename b_C_rename 3 (some .int) 6 90 [.ref (ad (0)), .int (nI (a)), .int (nI (b9))] M "java/lang/IllegalArgumentException" (fun M' => M = M') := by
  refine MX.of (by decide) (Nat.le_of_ble_eq_true rfl) ?_
  intro p e s m below meth c ls hx hb hr hml hown hg hlocks hK hN hX hTb hP hS hl
  have hown : s.vm.findClass R_C = some m.cls := hown
  have hl : lv_has ls 3 [(0, .ref (ad (0))), (1, .int (nI (a))), (2, .int (nI (b9)))] := hl
  have hn60 := hN7.1
  have hnm := hN7.2.2.1
  refine lv_aload_n hx hb d_C_rename_0 rfl (lv_at hl 0 rfl) ?_
  refine lv_iload_n hx hb d_C_rename_1 rfl (lv_at hl 1 rfl) ?_
  refine c_V (own := R_C) (index := 131) (As := [.int (nI (a))]) (rest := []) hx hb hml hown hg hK NXc.same hN.warm (fun _ h => h) hP hS 0 (c_C_rqn l D cI cC cZ cT ad hI M n len ch hN7 (a) (by omega)) (by decide) (ci := 7) rfl rfl k_401 k_403 k_p5 k_1 k_404 1 rfl (by decide +kernel) (by decide) rfl hl.1 (Nat.le_of_ble_eq_true rfl) d_C_rename_2 (fun v M' H locs hq hP _ _ hS => ?_)
  obtain ⟨rfl, rfl⟩ := hq
  refine W.eq (g2 := F0 m 5 ls []) rfl ?_
  refine lv_aload_n hx hb d_C_rename_5 rfl (lv_at hl 0 rfl) ?_
  refine lv_iload_n hx hb d_C_rename_6 rfl (lv_at hl 2 rfl) ?_
  refine c_V (own := R_C) (index := 131) (As := [.int (nI (b9))]) (rest := []) hx hb hml hown hg hK NXc.same hN.warm (fun _ h => h) hP hS 0 (c_C_rqn l D cI cC cZ cT ad hI M n len ch hN7 (b9) (by omega)) (by decide) (ci := 7) rfl rfl k_401 k_403 k_p5 k_1 k_404 1 rfl (by decide +kernel) (by decide) rfl hl.1 (Nat.le_of_ble_eq_true rfl) d_C_rename_7 (fun v M' H locs hq hP _ _ hS => ?_)
  obtain ⟨rfl, rfl⟩ := hq
  refine W.eq (g2 := F0 m 10 ls []) rfl ?_
  refine lv_iload_n hx hb d_C_rename_10 rfl (lv_at hl 1 rfl) ?_
  refine lv_iload_n hx hb d_C_rename_11 rfl (lv_at hl 2 rfl) ?_
  refine n_ne (a := a) (b := b9) (tgt := 26) hx hb d_C_rename_12 (by decide) (by omega) (by omega) (fun c_12 => ?_) (fun c_12 => ?_)
  · exact absurd c_12 (by omega)
  · exact t_SW hx hb hlT xat_IAE sx_265 hown hg hX hTb hlocks (hl.1.trans hml.symm) hP hS (rfl) (by decide) (Nat.le_of_ble_eq_true rfl) d_C_rename_15 d_C_rename_18 d_C_rename_19 d_C_rename_22 d_C_rename_25

set_option maxHeartbeats 4000000 in
set_option maxRecDepth 100000 in
theorem c_C_rename_c4 (l : Launch) (D : va_G) (cI cC cZ cT : ClassId) (ad : Nat → Nat) (hI : GI 144 ad) (M : PM) (n : Nat) (len : Nat → Nat) (ch : Nat → Nat → Nat) (hN7 : CN M n len ch) (rc : Nat) (rw_ : Nat → Nat) (hW7 : CW M n rc rw_) (st : Nat → Option Nat) (hS6 : CSt M n st) (rk : Nat → Nat) (hRk : Rk n st rk) (hr60 : ∀ k, k < n → rk k < 60) (a b9 : Nat) (ha : a < n) (hb9 : b9 < n) (hab : a ≠ b9) (x9 y9 : Nat) (hox : Fst (fun k => rw_ (3 * k) = a) rc (some x9)) (hoy : Fst (fun k => rw_ (3 * k) = b9) rc (some y9)) : MD l D cI cC cZ cT ad y_C_rename b_C_rename 3 (some .int) 3 68 [.ref (ad (0)), .int (nI (a)), .int (nI (b9))] M (fun v M' => v = some (.int (-1)) ∧ M' = pu (pu (pu M 0 12 (nI 4)) 0 13 (nI x9)) 0 14 (nI y9)) := by
  refine MC.of (by decide) (Nat.le_of_ble_eq_true rfl) ?_
  intro p e s m below meth c ls hx hb hr hml hown hg hlocks hK hN hP hS hl
  have hown : s.vm.findClass R_C = some m.cls := hown
  have hl : lv_has ls 3 [(0, .ref (ad (0))), (1, .int (nI (a))), (2, .int (nI (b9)))] := hl
  have hn60 := hN7.1
  have hnm := hN7.2.2.1
  refine lv_aload_n hx hb d_C_rename_0 rfl (lv_at hl 0 rfl) ?_
  refine lv_iload_n hx hb d_C_rename_1 rfl (lv_at hl 1 rfl) ?_
  refine c_V (own := R_C) (index := 131) (As := [.int (nI (a))]) (rest := []) hx hb hml hown hg hK NXc.same hN.warm (fun _ h => h) hP hS 0 (c_C_rqn l D cI cC cZ cT ad hI M n len ch hN7 (a) (by omega)) (by decide) (ci := 7) rfl rfl k_401 k_403 k_p5 k_1 k_404 1 rfl (by decide +kernel) (by decide) rfl hl.1 (Nat.le_of_ble_eq_true rfl) d_C_rename_2 (fun v M' H locs hq hP _ _ hS => ?_)
  obtain ⟨rfl, rfl⟩ := hq
  refine W.eq (g2 := F0 m 5 ls []) rfl ?_
  refine lv_aload_n hx hb d_C_rename_5 rfl (lv_at hl 0 rfl) ?_
  refine lv_iload_n hx hb d_C_rename_6 rfl (lv_at hl 2 rfl) ?_
  refine c_V (own := R_C) (index := 131) (As := [.int (nI (b9))]) (rest := []) hx hb hml hown hg hK NXc.same hN.warm (fun _ h => h) hP hS 0 (c_C_rqn l D cI cC cZ cT ad hI M n len ch hN7 (b9) (by omega)) (by decide) (ci := 7) rfl rfl k_401 k_403 k_p5 k_1 k_404 1 rfl (by decide +kernel) (by decide) rfl hl.1 (Nat.le_of_ble_eq_true rfl) d_C_rename_7 (fun v M' H locs hq hP _ _ hS => ?_)
  obtain ⟨rfl, rfl⟩ := hq
  refine W.eq (g2 := F0 m 10 ls []) rfl ?_
  refine lv_iload_n hx hb d_C_rename_10 rfl (lv_at hl 1 rfl) ?_
  refine lv_iload_n hx hb d_C_rename_11 rfl (lv_at hl 2 rfl) ?_
  refine n_ne (a := a) (b := b9) (tgt := 26) hx hb d_C_rename_12 (by decide) (by omega) (by omega) (fun c_12 => ?_) (fun c_12 => ?_)
  · refine lv_aload_n hx hb d_C_rename_26 rfl (lv_at hl 0 rfl) ?_
    refine lv_iload_n hx hb d_C_rename_27 rfl (lv_at hl 1 rfl) ?_
    refine lv_iload_n hx hb d_C_rename_28 rfl (lv_at hl 2 rfl) ?_
    refine c_V (own := R_C) (index := 267) (As := [.int (nI (a)), .int (nI (b9))]) (rest := []) hx hb hml hown hg hK NXc.same hN.warm (fun _ h => h) hP hS 0 (c_C_rnc_4 l D cI cC cZ cT ad hI M n hn60 rc rw_ hW7 st hS6 rk hRk hr60 a b9 ha hb9 x9 y9 hox hoy) (by decide) (ci := 7) rfl rfl k_704 k_706 k_p19 k_1 k_707 2 rfl (by decide +kernel) (by decide) rfl hl.1 (Nat.le_of_ble_eq_true rfl) d_C_rename_29 (fun v M_1 H locs hq hP _ _ hS => ?_)
    obtain ⟨rfl, eM_1⟩ := hq
    refine W.eq (g2 := F0 m 32 ls [.int (bI (true))]) rfl ?_
    refine z_eq (t := true) (tgt := 37) hx hb d_C_rename_32 (by decide) (fun h9 => absurd h9 (by decide)) (fun _ => ?_)
    refine lv_iconst (v := -1) hx hb d_C_rename_35 (by decide) ?_
    exact r_i hx hb hr hlocks hP hS (⟨rfl, eM_1⟩) d_C_rename_36
  · exact absurd c_12 (by omega)

set_option maxHeartbeats 4000000 in
set_option maxRecDepth 100000 in
theorem c_C_rename_c5 (l : Launch) (D : va_G) (cI cC cZ cT : ClassId) (ad : Nat → Nat) (hI : GI 144 ad) (M : PM) (n : Nat) (len : Nat → Nat) (ch : Nat → Nat → Nat) (hN7 : CN M n len ch) (rc : Nat) (rw_ : Nat → Nat) (hW7 : CW M n rc rw_) (st : Nat → Option Nat) (hS6 : CSt M n st) (rk : Nat → Nat) (hRk : Rk n st rk) (hr60 : ∀ k, k < n → rk k < 60) (a b9 : Nat) (ha : a < n) (hb9 : b9 < n) (hab : a ≠ b9) (ox oy : Option Nat) (hox : Fst (fun k => rw_ (3 * k) = a) rc ox) (hoy : Fst (fun k => rw_ (3 * k) = b9) rc oy) (hno : ox = none ∨ oy = none) (u9 v9 : Nat) (hu9 : st a = some u9) (hv9 : st b9 = some v9) : MD l D cI cC cZ cT ad y_C_rename b_C_rename 3 (some .int) 3 68 [.ref (ad (0)), .int (nI (a)), .int (nI (b9))] M (fun v M' => v = some (.int (-1)) ∧ M' = pu (pu (pu M 0 12 (nI 5)) 0 13 (nI u9)) 0 14 (nI v9)) := by
  refine MC.of (by decide) (Nat.le_of_ble_eq_true rfl) ?_
  intro p e s m below meth c ls hx hb hr hml hown hg hlocks hK hN hP hS hl
  have hown : s.vm.findClass R_C = some m.cls := hown
  have hl : lv_has ls 3 [(0, .ref (ad (0))), (1, .int (nI (a))), (2, .int (nI (b9)))] := hl
  have hn60 := hN7.1
  have hnm := hN7.2.2.1
  refine lv_aload_n hx hb d_C_rename_0 rfl (lv_at hl 0 rfl) ?_
  refine lv_iload_n hx hb d_C_rename_1 rfl (lv_at hl 1 rfl) ?_
  refine c_V (own := R_C) (index := 131) (As := [.int (nI (a))]) (rest := []) hx hb hml hown hg hK NXc.same hN.warm (fun _ h => h) hP hS 0 (c_C_rqn l D cI cC cZ cT ad hI M n len ch hN7 (a) (by omega)) (by decide) (ci := 7) rfl rfl k_401 k_403 k_p5 k_1 k_404 1 rfl (by decide +kernel) (by decide) rfl hl.1 (Nat.le_of_ble_eq_true rfl) d_C_rename_2 (fun v M' H locs hq hP _ _ hS => ?_)
  obtain ⟨rfl, rfl⟩ := hq
  refine W.eq (g2 := F0 m 5 ls []) rfl ?_
  refine lv_aload_n hx hb d_C_rename_5 rfl (lv_at hl 0 rfl) ?_
  refine lv_iload_n hx hb d_C_rename_6 rfl (lv_at hl 2 rfl) ?_
  refine c_V (own := R_C) (index := 131) (As := [.int (nI (b9))]) (rest := []) hx hb hml hown hg hK NXc.same hN.warm (fun _ h => h) hP hS 0 (c_C_rqn l D cI cC cZ cT ad hI M n len ch hN7 (b9) (by omega)) (by decide) (ci := 7) rfl rfl k_401 k_403 k_p5 k_1 k_404 1 rfl (by decide +kernel) (by decide) rfl hl.1 (Nat.le_of_ble_eq_true rfl) d_C_rename_7 (fun v M' H locs hq hP _ _ hS => ?_)
  obtain ⟨rfl, rfl⟩ := hq
  refine W.eq (g2 := F0 m 10 ls []) rfl ?_
  refine lv_iload_n hx hb d_C_rename_10 rfl (lv_at hl 1 rfl) ?_
  refine lv_iload_n hx hb d_C_rename_11 rfl (lv_at hl 2 rfl) ?_
  refine n_ne (a := a) (b := b9) (tgt := 26) hx hb d_C_rename_12 (by decide) (by omega) (by omega) (fun c_12 => ?_) (fun c_12 => ?_)
  · refine lv_aload_n hx hb d_C_rename_26 rfl (lv_at hl 0 rfl) ?_
    refine lv_iload_n hx hb d_C_rename_27 rfl (lv_at hl 1 rfl) ?_
    refine lv_iload_n hx hb d_C_rename_28 rfl (lv_at hl 2 rfl) ?_
    refine c_V (own := R_C) (index := 267) (As := [.int (nI (a)), .int (nI (b9))]) (rest := []) hx hb hml hown hg hK NXc.same hN.warm (fun _ h => h) hP hS 0 (c_C_rnc_5 l D cI cC cZ cT ad hI M n hn60 rc rw_ hW7 st hS6 rk hRk hr60 a b9 ha hb9 ox oy hox hoy hno u9 v9 hu9 hv9) (by decide) (ci := 7) rfl rfl k_704 k_706 k_p19 k_1 k_707 2 rfl (by decide +kernel) (by decide) rfl hl.1 (Nat.le_of_ble_eq_true rfl) d_C_rename_29 (fun v M_1 H locs hq hP _ _ hS => ?_)
    obtain ⟨rfl, eM_1⟩ := hq
    refine W.eq (g2 := F0 m 32 ls [.int (bI (true))]) rfl ?_
    refine z_eq (t := true) (tgt := 37) hx hb d_C_rename_32 (by decide) (fun h9 => absurd h9 (by decide)) (fun _ => ?_)
    refine lv_iconst (v := -1) hx hb d_C_rename_35 (by decide) ?_
    exact r_i hx hb hr hlocks hP hS (⟨rfl, eM_1⟩) d_C_rename_36
  · exact absurd c_12 (by omega)

set_option maxHeartbeats 4000000 in
set_option maxRecDepth 100000 in
theorem c_C_rename_c3 (l : Launch) (D : va_G) (cI cC cZ cT : ClassId) (ad : Nat → Nat) (hI : GI 144 ad) (M : PM) (n : Nat) (len : Nat → Nat) (ch : Nat → Nat → Nat) (hN7 : CN M n len ch) (rc : Nat) (rw_ : Nat → Nat) (hW7 : CW M n rc rw_) (st : Nat → Option Nat) (hS6 : CSt M n st) (rk : Nat → Nat) (hRk : Rk n st rk) (hr60 : ∀ k, k < n → rk k < 60) (a b9 : Nat) (ha : a < n) (hb9 : b9 < n) (hab : a ≠ b9) (ox oy : Option Nat) (hox : Fst (fun k => rw_ (3 * k) = a) rc ox) (hoy : Fst (fun k => rw_ (3 * k) = b9) rc oy) (hno : ox = none ∨ oy = none) (hno5 : st a = none ∨ st b9 = none) (hL : Lds st (st a) b9 ∨ Lds st (st b9) a) : MD l D cI cC cZ cT ad y_C_rename b_C_rename 3 (some .int) 3 68 [.ref (ad (0)), .int (nI (a)), .int (nI (b9))] M (fun v M' => v = some (.int (-1)) ∧ M' = pu (pu (pu M 0 12 (nI 3)) 0 13 (nI a)) 0 14 (nI b9)) := by
  refine MC.of (by decide) (Nat.le_of_ble_eq_true rfl) ?_
  intro p e s m below meth c ls hx hb hr hml hown hg hlocks hK hN hP hS hl
  have hown : s.vm.findClass R_C = some m.cls := hown
  have hl : lv_has ls 3 [(0, .ref (ad (0))), (1, .int (nI (a))), (2, .int (nI (b9)))] := hl
  have hn60 := hN7.1
  have hnm := hN7.2.2.1
  refine lv_aload_n hx hb d_C_rename_0 rfl (lv_at hl 0 rfl) ?_
  refine lv_iload_n hx hb d_C_rename_1 rfl (lv_at hl 1 rfl) ?_
  refine c_V (own := R_C) (index := 131) (As := [.int (nI (a))]) (rest := []) hx hb hml hown hg hK NXc.same hN.warm (fun _ h => h) hP hS 0 (c_C_rqn l D cI cC cZ cT ad hI M n len ch hN7 (a) (by omega)) (by decide) (ci := 7) rfl rfl k_401 k_403 k_p5 k_1 k_404 1 rfl (by decide +kernel) (by decide) rfl hl.1 (Nat.le_of_ble_eq_true rfl) d_C_rename_2 (fun v M' H locs hq hP _ _ hS => ?_)
  obtain ⟨rfl, rfl⟩ := hq
  refine W.eq (g2 := F0 m 5 ls []) rfl ?_
  refine lv_aload_n hx hb d_C_rename_5 rfl (lv_at hl 0 rfl) ?_
  refine lv_iload_n hx hb d_C_rename_6 rfl (lv_at hl 2 rfl) ?_
  refine c_V (own := R_C) (index := 131) (As := [.int (nI (b9))]) (rest := []) hx hb hml hown hg hK NXc.same hN.warm (fun _ h => h) hP hS 0 (c_C_rqn l D cI cC cZ cT ad hI M n len ch hN7 (b9) (by omega)) (by decide) (ci := 7) rfl rfl k_401 k_403 k_p5 k_1 k_404 1 rfl (by decide +kernel) (by decide) rfl hl.1 (Nat.le_of_ble_eq_true rfl) d_C_rename_7 (fun v M' H locs hq hP _ _ hS => ?_)
  obtain ⟨rfl, rfl⟩ := hq
  refine W.eq (g2 := F0 m 10 ls []) rfl ?_
  refine lv_iload_n hx hb d_C_rename_10 rfl (lv_at hl 1 rfl) ?_
  refine lv_iload_n hx hb d_C_rename_11 rfl (lv_at hl 2 rfl) ?_
  refine n_ne (a := a) (b := b9) (tgt := 26) hx hb d_C_rename_12 (by decide) (by omega) (by omega) (fun c_12 => ?_) (fun c_12 => ?_)
  · refine lv_aload_n hx hb d_C_rename_26 rfl (lv_at hl 0 rfl) ?_
    refine lv_iload_n hx hb d_C_rename_27 rfl (lv_at hl 1 rfl) ?_
    refine lv_iload_n hx hb d_C_rename_28 rfl (lv_at hl 2 rfl) ?_
    refine c_V (own := R_C) (index := 267) (As := [.int (nI (a)), .int (nI (b9))]) (rest := []) hx hb hml hown hg hK NXc.same hN.warm (fun _ h => h) hP hS 0 (c_C_rnc_3 l D cI cC cZ cT ad hI M n hn60 rc rw_ hW7 st hS6 rk hRk hr60 a b9 ha hb9 ox oy hox hoy hno hno5 hL) (by decide) (ci := 7) rfl rfl k_704 k_706 k_p19 k_1 k_707 2 rfl (by decide +kernel) (by decide) rfl hl.1 (Nat.le_of_ble_eq_true rfl) d_C_rename_29 (fun v M_1 H locs hq hP _ _ hS => ?_)
    obtain ⟨rfl, eM_1⟩ := hq
    refine W.eq (g2 := F0 m 32 ls [.int (bI (true))]) rfl ?_
    refine z_eq (t := true) (tgt := 37) hx hb d_C_rename_32 (by decide) (fun h9 => absurd h9 (by decide)) (fun _ => ?_)
    refine lv_iconst (v := -1) hx hb d_C_rename_35 (by decide) ?_
    exact r_i hx hb hr hlocks hP hS (⟨rfl, eM_1⟩) d_C_rename_36
  · exact absurd c_12 (by omega)

set_option maxHeartbeats 4000000 in
set_option maxRecDepth 100000 in
theorem x_C_rename_3 (l : Launch) (D : va_G) (cI cC cZ cT : ClassId) (ad : Nat → Nat) (hI : GI 144 ad) (hlT : l.stackTraces = false) (M : PM) (n : Nat) (len : Nat → Nat) (ch : Nat → Nat → Nat) (hN7 : CN M n len ch) (rc : Nat) (rw_ : Nat → Nat) (hW7 : CW M n rc rw_) (st : Nat → Option Nat) (hS6 : CSt M n st) (rk : Nat → Nat) (hRk : Rk n st rk) (hr60 : ∀ k, k < n → rk k < 60) (a b9 : Nat) (ha : a < n) (hb9 : b9 < n) (hab : a ≠ b9) (nc : Nat) (rf rt : Nat → Nat) (hR8 : CR M n nc rf rt) (ox oy : Option Nat) (hox : Fst (fun k => rw_ (3 * k) = a) rc ox) (hoy : Fst (fun k => rw_ (3 * k) = b9) rc oy) (hno : ox = none ∨ oy = none) (hno5 : st a = none ∨ st b9 = none) (hL : ¬ (Lds st (st a) b9 ∨ Lds st (st b9) a)) (h20 : nc = 20) : MX l D cI cC cZ cT ad y_C_rename b_C_rename 3 (some .int) 6 90 [.ref (ad (0)), .int (nI (a)), .int (nI (b9))] M "java/lang/UnsupportedOperationException" (fun M' => M = M') := by
  refine MX.of (by decide) (Nat.le_of_ble_eq_true rfl) ?_
  intro p e s m below meth c ls hx hb hr hml hown hg hlocks hK hN hX hTb hP hS hl
  have hown : s.vm.findClass R_C = some m.cls := hown
  have hl : lv_has ls 3 [(0, .ref (ad (0))), (1, .int (nI (a))), (2, .int (nI (b9)))] := hl
  have hn60 := hN7.1
  have hnm := hN7.2.2.1
  refine lv_aload_n hx hb d_C_rename_0 rfl (lv_at hl 0 rfl) ?_
  refine lv_iload_n hx hb d_C_rename_1 rfl (lv_at hl 1 rfl) ?_
  refine c_V (own := R_C) (index := 131) (As := [.int (nI (a))]) (rest := []) hx hb hml hown hg hK NXc.same hN.warm (fun _ h => h) hP hS 0 (c_C_rqn l D cI cC cZ cT ad hI M n len ch hN7 (a) (by omega)) (by decide) (ci := 7) rfl rfl k_401 k_403 k_p5 k_1 k_404 1 rfl (by decide +kernel) (by decide) rfl hl.1 (Nat.le_of_ble_eq_true rfl) d_C_rename_2 (fun v M' H locs hq hP _ _ hS => ?_)
  obtain ⟨rfl, rfl⟩ := hq
  refine W.eq (g2 := F0 m 5 ls []) rfl ?_
  refine lv_aload_n hx hb d_C_rename_5 rfl (lv_at hl 0 rfl) ?_
  refine lv_iload_n hx hb d_C_rename_6 rfl (lv_at hl 2 rfl) ?_
  refine c_V (own := R_C) (index := 131) (As := [.int (nI (b9))]) (rest := []) hx hb hml hown hg hK NXc.same hN.warm (fun _ h => h) hP hS 0 (c_C_rqn l D cI cC cZ cT ad hI M n len ch hN7 (b9) (by omega)) (by decide) (ci := 7) rfl rfl k_401 k_403 k_p5 k_1 k_404 1 rfl (by decide +kernel) (by decide) rfl hl.1 (Nat.le_of_ble_eq_true rfl) d_C_rename_7 (fun v M' H locs hq hP _ _ hS => ?_)
  obtain ⟨rfl, rfl⟩ := hq
  refine W.eq (g2 := F0 m 10 ls []) rfl ?_
  refine lv_iload_n hx hb d_C_rename_10 rfl (lv_at hl 1 rfl) ?_
  refine lv_iload_n hx hb d_C_rename_11 rfl (lv_at hl 2 rfl) ?_
  refine n_ne (a := a) (b := b9) (tgt := 26) hx hb d_C_rename_12 (by decide) (by omega) (by omega) (fun c_12 => ?_) (fun c_12 => ?_)
  · refine lv_aload_n hx hb d_C_rename_26 rfl (lv_at hl 0 rfl) ?_
    refine lv_iload_n hx hb d_C_rename_27 rfl (lv_at hl 1 rfl) ?_
    refine lv_iload_n hx hb d_C_rename_28 rfl (lv_at hl 2 rfl) ?_
    refine c_V (own := R_C) (index := 267) (As := [.int (nI (a)), .int (nI (b9))]) (rest := []) hx hb hml hown hg hK NXc.same hN.warm (fun _ h => h) hP hS 0 (c_C_rnc_0 l D cI cC cZ cT ad hI M n hn60 rc rw_ hW7 st hS6 rk hRk hr60 a b9 ha hb9 ox oy hox hoy hno hno5 hL) (by decide) (ci := 7) rfl rfl k_704 k_706 k_p19 k_1 k_707 2 rfl (by decide +kernel) (by decide) rfl hl.1 (Nat.le_of_ble_eq_true rfl) d_C_rename_29 (fun v M' H locs hq hP _ _ hS => ?_)
    obtain ⟨rfl, rfl⟩ := hq
    refine W.eq (g2 := F0 m 32 ls [.int (bI (false))]) rfl ?_
    refine z_eq (t := false) (tgt := 37) hx hb d_C_rename_32 (by decide) (fun _ => ?_) (fun h9 => absurd h9 (by decide))
    refine lv_aload_n hx hb d_C_rename_37 rfl (lv_at hl 0 rfl) ?_
    refine g_get (C := R_C) (T := T_C) (N := 15) (ci := 7) (v := .ref (ad (136))) hx hb hg i_C hown hK hP 0 (by decide) rfl rfl 7 (by decide) (hg _ k_135) rfl d_C_rename_38 ?_
    refine c_V (own := R_C) (index := 270) (As := []) (rest := []) hx hb hml hown hg hK NXc.same hN.warm (fun _ h => h) hP hS 136 (c_R_isFull l D cI cC cZ cT ad hI M n nc hn60 rf rt hR8 true ⟨fun _ => by omega, fun _ => rfl⟩) (by decide) (ci := 1) rfl rfl k_712 k_713 k_714 k_7 k_715 0 rfl (by decide +kernel) (by decide) rfl hl.1 (Nat.le_of_ble_eq_true rfl) d_C_rename_41 (fun v M' H locs hq hP _ _ hS => ?_)
    obtain ⟨rfl, rfl⟩ := hq
    refine W.eq (g2 := F0 m 44 ls [.int (bI (true))]) rfl ?_
    refine z_eq (t := true) (tgt := 58) hx hb d_C_rename_44 (by decide) (fun h9 => absurd h9 (by decide)) (fun _ => ?_)
    exact t_SW hx hb hlT xat_UOE sx_271 hown hg hX hTb hlocks (hl.1.trans hml.symm) hP hS (rfl) (by decide) (Nat.le_of_ble_eq_true rfl) d_C_rename_47 d_C_rename_50 d_C_rename_51 d_C_rename_54 d_C_rename_57
  · exact absurd c_12 (by omega)

set_option maxHeartbeats 4000000 in
set_option maxRecDepth 100000 in
theorem c_C_rename_00 (l : Launch) (D : va_G) (cI cC cZ cT : ClassId) (ad : Nat → Nat) (hI : GI 144 ad) (M : PM) (n : Nat) (len : Nat → Nat) (ch : Nat → Nat → Nat) (hN7 : CN M n len ch) (rc : Nat) (rw_ : Nat → Nat) (hW7 : CW M n rc rw_) (st : Nat → Option Nat) (hS6 : CSt M n st) (rk : Nat → Nat) (hRk : Rk n st rk) (hr60 : ∀ k, k < n → rk k < 60) (a b9 : Nat) (ha : a < n) (hb9 : b9 < n) (hab : a ≠ b9) (nc : Nat) (rf rt : Nat → Nat) (hR8 : CR M n nc rf rt) (us : Nat → Nat) (hU1 : CU M us) (ox oy : Option Nat) (hox : Fst (fun k => rw_ (3 * k) = a) rc ox) (hoy : Fst (fun k => rw_ (3 * k) = b9) rc oy) (hno : ox = none ∨ oy = none) (hno5 : st a = none ∨ st b9 = none) (hL : ¬ (Lds st (st a) b9 ∨ Lds st (st b9) a)) (h20 : nc < 20) (h0 : us a = 0) : MD l D cI cC cZ cT ad y_C_rename b_C_rename 3 (some .int) 3 68 [.ref (ad (0)), .int (nI (a)), .int (nI (b9))] M (fun v M' => v = some (.int (nI (Cnt (eqB rw_ a) (3 * rc) + (Cnt (soB st a) 60 + if st a = none then 0 else 1) + (if us a = 0 then 0 else 1)))) ∧ RNd M M' a b9 rc nc rw_ us st) := by
  refine MC.of (by decide) (Nat.le_of_ble_eq_true rfl) ?_
  intro p e s m below meth c ls hx hb hr hml hown hg hlocks hK hN hP hS hl
  have hown : s.vm.findClass R_C = some m.cls := hown
  have hl : lv_has ls 3 [(0, .ref (ad (0))), (1, .int (nI (a))), (2, .int (nI (b9)))] := hl
  have hn60 := hN7.1
  have hnm := hN7.2.2.1
  refine lv_aload_n hx hb d_C_rename_0 rfl (lv_at hl 0 rfl) ?_
  refine lv_iload_n hx hb d_C_rename_1 rfl (lv_at hl 1 rfl) ?_
  refine c_V (own := R_C) (index := 131) (As := [.int (nI (a))]) (rest := []) hx hb hml hown hg hK NXc.same hN.warm (fun _ h => h) hP hS 0 (c_C_rqn l D cI cC cZ cT ad hI M n len ch hN7 (a) (by omega)) (by decide) (ci := 7) rfl rfl k_401 k_403 k_p5 k_1 k_404 1 rfl (by decide +kernel) (by decide) rfl hl.1 (Nat.le_of_ble_eq_true rfl) d_C_rename_2 (fun v M' H locs hq hP _ _ hS => ?_)
  obtain ⟨rfl, rfl⟩ := hq
  refine W.eq (g2 := F0 m 5 ls []) rfl ?_
  refine lv_aload_n hx hb d_C_rename_5 rfl (lv_at hl 0 rfl) ?_
  refine lv_iload_n hx hb d_C_rename_6 rfl (lv_at hl 2 rfl) ?_
  refine c_V (own := R_C) (index := 131) (As := [.int (nI (b9))]) (rest := []) hx hb hml hown hg hK NXc.same hN.warm (fun _ h => h) hP hS 0 (c_C_rqn l D cI cC cZ cT ad hI M n len ch hN7 (b9) (by omega)) (by decide) (ci := 7) rfl rfl k_401 k_403 k_p5 k_1 k_404 1 rfl (by decide +kernel) (by decide) rfl hl.1 (Nat.le_of_ble_eq_true rfl) d_C_rename_7 (fun v M' H locs hq hP _ _ hS => ?_)
  obtain ⟨rfl, rfl⟩ := hq
  refine W.eq (g2 := F0 m 10 ls []) rfl ?_
  refine lv_iload_n hx hb d_C_rename_10 rfl (lv_at hl 1 rfl) ?_
  refine lv_iload_n hx hb d_C_rename_11 rfl (lv_at hl 2 rfl) ?_
  refine n_ne (a := a) (b := b9) (tgt := 26) hx hb d_C_rename_12 (by decide) (by omega) (by omega) (fun c_12 => ?_) (fun c_12 => ?_)
  · refine lv_aload_n hx hb d_C_rename_26 rfl (lv_at hl 0 rfl) ?_
    refine lv_iload_n hx hb d_C_rename_27 rfl (lv_at hl 1 rfl) ?_
    refine lv_iload_n hx hb d_C_rename_28 rfl (lv_at hl 2 rfl) ?_
    refine c_V (own := R_C) (index := 267) (As := [.int (nI (a)), .int (nI (b9))]) (rest := []) hx hb hml hown hg hK NXc.same hN.warm (fun _ h => h) hP hS 0 (c_C_rnc_0 l D cI cC cZ cT ad hI M n hn60 rc rw_ hW7 st hS6 rk hRk hr60 a b9 ha hb9 ox oy hox hoy hno hno5 hL) (by decide) (ci := 7) rfl rfl k_704 k_706 k_p19 k_1 k_707 2 rfl (by decide +kernel) (by decide) rfl hl.1 (Nat.le_of_ble_eq_true rfl) d_C_rename_29 (fun v M' H locs hq hP _ _ hS => ?_)
    obtain ⟨rfl, rfl⟩ := hq
    refine W.eq (g2 := F0 m 32 ls [.int (bI (false))]) rfl ?_
    refine z_eq (t := false) (tgt := 37) hx hb d_C_rename_32 (by decide) (fun _ => ?_) (fun h9 => absurd h9 (by decide))
    refine lv_aload_n hx hb d_C_rename_37 rfl (lv_at hl 0 rfl) ?_
    refine g_get (C := R_C) (T := T_C) (N := 15) (ci := 7) (v := .ref (ad (136))) hx hb hg i_C hown hK hP 0 (by decide) rfl rfl 7 (by decide) (hg _ k_135) rfl d_C_rename_38 ?_
    refine c_V (own := R_C) (index := 270) (As := []) (rest := []) hx hb hml hown hg hK NXc.same hN.warm (fun _ h => h) hP hS 136 (c_R_isFull l D cI cC cZ cT ad hI M n nc hn60 rf rt hR8 false ⟨fun h => (by cases h), fun h => by omega⟩) (by decide) (ci := 1) rfl rfl k_712 k_713 k_714 k_7 k_715 0 rfl (by decide +kernel) (by decide) rfl hl.1 (Nat.le_of_ble_eq_true rfl) d_C_rename_41 (fun v M' H locs hq hP _ _ hS => ?_)
    obtain ⟨rfl, rfl⟩ := hq
    refine W.eq (g2 := F0 m 44 ls [.int (bI (false))]) rfl ?_
    refine z_eq (t := false) (tgt := 58) hx hb d_C_rename_44 (by decide) (fun _ => ?_) (fun h9 => absurd h9 (by decide))
    refine lv_aload_n hx hb d_C_rename_58 rfl (lv_at hl 0 rfl) ?_
    refine g_get (C := R_C) (T := T_C) (N := 15) (ci := 7) (v := .ref (ad (136))) hx hb hg i_C hown hK hP 0 (by decide) rfl rfl 7 (by decide) (hg _ k_135) rfl d_C_rename_59 ?_
    refine lv_iload_n hx hb d_C_rename_62 rfl (lv_at hl 1 rfl) ?_
    refine lv_iload_n hx hb d_C_rename_63 rfl (lv_at hl 2 rfl) ?_
    refine c_V (own := R_C) (index := 273) (As := [.int (nI (a)), .int (nI (b9))]) (rest := []) hx hb hml hown hg hK NXc.same hN.warm (fun _ h => h) hP hS 136 (c_R_add l D cI cC cZ cT ad hI M n nc hn60 rf rt hR8 a b9 h20) (by decide) (ci := 1) rfl rfl k_717 k_718 k_719 k_7 k_720 2 rfl (by decide +kernel) (by decide) rfl hl.1 (Nat.le_of_ble_eq_true rfl) d_C_rename_64 (fun v M_1 H locs hq hP _ _ hS => ?_)
    obtain ⟨rfl, eM_1⟩ := hq
    have q1 : M_1 137 nc = nI a ∧ M_1 138 nc = nI b9 ∧ M_1 136 2 = nI (nc + 1) := by rw [eM_1]; exact ⟨by rw [pu_k _ _ _ _ _ (by decide), pu_k _ _ _ _ _ (by decide), pu_s], by rw [pu_k _ _ _ _ _ (by decide), pu_s], pu_s _ _ _ _⟩
    have q2 : ∀ i, i ≠ nc → M_1 137 i = M 137 i ∧ M_1 138 i = M 138 i := fun i hi => by rw [eM_1]; exact ⟨by rw [pu_k _ _ _ _ _ (by decide), pu_k _ _ _ _ _ (by decide), pu_j _ _ _ _ _ hi], by rw [pu_k _ _ _ _ _ (by decide), pu_j _ _ _ _ _ hi, pu_k _ _ _ _ _ (by decide)]⟩
    have q3 : ∀ p q, p ≠ 136 → p ≠ 137 → p ≠ 138 → M_1 p q = M p q := fun p q g1 g2 g3 => by rw [eM_1, pu_k _ _ _ _ _ g1, pu_k _ _ _ _ _ g3, pu_k _ _ _ _ _ g2]
    have hW71 := hW7.cong (M' := M_1) (fun p q h => q3 p q (by omega) (by omega) (by omega))
    refine W.eq (g2 := F0 m 67 ls []) rfl ?_
    refine lv_aload_n hx hb d_C_rename_67 rfl (lv_at hl 0 rfl) ?_
    refine g_get (C := R_C) (T := T_C) (N := 15) (ci := 7) (v := .ref (ad (132))) hx hb hg i_C hown hK hP 0 (by decide) rfl rfl 5 (by decide) (hg _ k_133) rfl d_C_rename_68 ?_
    refine lv_iload_n hx hb d_C_rename_71 rfl (lv_at hl 1 rfl) ?_
    refine lv_iload_n hx hb d_C_rename_72 rfl (lv_at hl 2 rfl) ?_
    refine c_V (own := R_C) (index := 274) (As := [.int (nI (a)), .int (nI (b9))]) (rest := []) hx hb hml hown hg hK NXc.same hN.warm (fun _ h => h) hP hS 132 (c_W_replace l D cI cC cZ cT ad hI M_1 n rc hn60 rw_ hW71 a b9 ha hb9) (by decide) (ci := 2) rfl rfl k_721 k_722 k_723 k_5 k_724 2 rfl (by decide +kernel) (by decide) rfl hl.1 (Nat.le_of_ble_eq_true rfl) d_C_rename_73 (fun v M_2 H locs hq hP _ _ hS => ?_)
    obtain ⟨rfl, q4, q5⟩ := hq
    have hS61 := hS6.cong (M' := M_2) (fun q => by rw [q4 _ _ (by decide), q3 _ _ (by decide) (by decide) (by decide)])
    refine W.eq (g2 := F0 m 76 ls [.int (nI (Cnt (eqB rw_ a) (3 * rc)))]) rfl ?_
    refine lv_aload_n hx hb d_C_rename_76 rfl (lv_at hl 0 rfl) ?_
    refine g_get (C := R_C) (T := T_C) (N := 15) (ci := 7) (v := .ref (ad (134))) hx hb hg i_C hown hK hP 0 (by decide) rfl rfl 6 (by decide) (hg _ k_134) rfl d_C_rename_77 ?_
    refine lv_iload_n hx hb d_C_rename_80 rfl (lv_at hl 1 rfl) ?_
    refine lv_iload_n hx hb d_C_rename_81 rfl (lv_at hl 2 rfl) ?_
    refine c_V (own := R_C) (index := 277) (As := [.int (nI (a)), .int (nI (b9))]) (rest := [.int (nI (Cnt (eqB rw_ a) (3 * rc)))]) hx hb hml hown hg hK NXc.same hN.warm (fun _ h => h) hP hS 134 (c_G_replace l D cI cC cZ cT ad hI M_2 n hn60 st hS61 a b9 ha hb9 hab (fun e => Nat.lt_irrefl _ (hRk a a ha e))) (by decide) (ci := 4) rfl rfl k_725 k_726 k_727 k_6 k_728 2 rfl (by decide +kernel) (by decide) rfl hl.1 (Nat.le_of_ble_eq_true rfl) d_C_rename_82 (fun v M_3 H locs hq hP _ _ hS => ?_)
    obtain ⟨rfl, q6, q7⟩ := hq
    have hU11 := hU1.cong (M' := M_3) (fun q => by rw [q6 _ _ (by decide), q4 _ _ (by decide), q3 _ _ (by decide) (by decide) (by decide)])
    refine W.eq (g2 := F0 m 85 ls [.int (nI (Cnt (soB st a) 60 + if st a = none then 0 else 1)), .int (nI (Cnt (eqB rw_ a) (3 * rc)))]) rfl ?_
    refine n_iadd (a := Cnt (eqB rw_ a) (3 * rc)) (b := Cnt (soB st a) 60 + if st a = none then 0 else 1) hx hb d_C_rename_85 ?_
    refine lv_aload_n hx hb d_C_rename_86 rfl (lv_at hl 0 rfl) ?_
    refine lv_iload_n hx hb d_C_rename_87 rfl (lv_at hl 1 rfl) ?_
    refine lv_iload_n hx hb d_C_rename_88 rfl (lv_at hl 2 rfl) ?_
    refine c_V (own := R_C) (index := 278) (As := [.int (nI (a)), .int (nI (b9))]) (rest := [.int (nI ((Cnt (eqB rw_ a) (3 * rc)) + (Cnt (soB st a) 60 + if st a = none then 0 else 1)))]) hx hb hml hown hg hK NXc.same hN.warm (fun _ h => h) hP hS 0 (c_C_moveUses_0 l D cI cC cZ cT ad hI M_3 us hU11 a b9 (by omega) (by omega) h0) (by decide) (ci := 7) rfl rfl k_729 k_731 k_p20 k_1 k_732 2 rfl (by decide +kernel) (by decide) rfl hl.1 (Nat.le_of_ble_eq_true rfl) d_C_rename_89 (fun v M' H locs hq hP _ _ hS => ?_)
    obtain ⟨rfl, rfl⟩ := hq
    refine W.eq (g2 := F0 m 92 ls [.int (nI (0)), .int (nI ((Cnt (eqB rw_ a) (3 * rc)) + (Cnt (soB st a) 60 + if st a = none then 0 else 1)))]) rfl ?_
    refine n_iadd (a := (Cnt (eqB rw_ a) (3 * rc)) + (Cnt (soB st a) 60 + if st a = none then 0 else 1)) (b := 0) hx hb d_C_rename_92 ?_
    exact r_i hx hb hr hlocks hP hS (⟨by rw [if_pos h0], by rw [q6 _ _ (by decide), q4 _ _ (by decide)]; exact q1.1, by rw [q6 _ _ (by decide), q4 _ _ (by decide)]; exact q1.2.1, by rw [q6 _ _ (by decide), q4 _ _ (by decide)]; exact q1.2.2, fun q hq => by rw [q6 _ _ (by decide)]; exact q5 q hq, fun q hq => by exact q7 q hq, fun q hq => by rw [(hU11 q hq).2]; unfold usR; by_cases z1 : q = a; rw [if_pos z1, z1, h0]; rw [if_neg z1]; by_cases z2 : q = b9; rw [if_pos z2, z2, h0]; rfl; rw [if_neg z2], fun i hi => ⟨by rw [q6 _ _ (by decide), q4 _ _ (by decide)]; exact (q2 i hi).1, by rw [q6 _ _ (by decide), q4 _ _ (by decide)]; exact (q2 i hi).2⟩, fun p q g1 g2 g3 g4 g5 g6 => by rw [q6 p q g2, q4 p q g1, q3 p q g3 g4 g5]⟩) d_C_rename_93
  · exact absurd c_12 (by omega)

set_option maxHeartbeats 4000000 in
set_option maxRecDepth 100000 in
theorem c_C_rename_01 (l : Launch) (D : va_G) (cI cC cZ cT : ClassId) (ad : Nat → Nat) (hI : GI 144 ad) (M : PM) (n : Nat) (len : Nat → Nat) (ch : Nat → Nat → Nat) (hN7 : CN M n len ch) (rc : Nat) (rw_ : Nat → Nat) (hW7 : CW M n rc rw_) (st : Nat → Option Nat) (hS6 : CSt M n st) (rk : Nat → Nat) (hRk : Rk n st rk) (hr60 : ∀ k, k < n → rk k < 60) (a b9 : Nat) (ha : a < n) (hb9 : b9 < n) (hab : a ≠ b9) (nc : Nat) (rf rt : Nat → Nat) (hR8 : CR M n nc rf rt) (us : Nat → Nat) (hU1 : CU M us) (ox oy : Option Nat) (hox : Fst (fun k => rw_ (3 * k) = a) rc ox) (hoy : Fst (fun k => rw_ (3 * k) = b9) rc oy) (hno : ox = none ∨ oy = none) (hno5 : st a = none ∨ st b9 = none) (hL : ¬ (Lds st (st a) b9 ∨ Lds st (st b9) a)) (h20 : nc < 20) (h0 : us a ≠ 0) : MD l D cI cC cZ cT ad y_C_rename b_C_rename 3 (some .int) 3 68 [.ref (ad (0)), .int (nI (a)), .int (nI (b9))] M (fun v M' => v = some (.int (nI (Cnt (eqB rw_ a) (3 * rc) + (Cnt (soB st a) 60 + if st a = none then 0 else 1) + (if us a = 0 then 0 else 1)))) ∧ RNd M M' a b9 rc nc rw_ us st) := by
  refine MC.of (by decide) (Nat.le_of_ble_eq_true rfl) ?_
  intro p e s m below meth c ls hx hb hr hml hown hg hlocks hK hN hP hS hl
  have hown : s.vm.findClass R_C = some m.cls := hown
  have hl : lv_has ls 3 [(0, .ref (ad (0))), (1, .int (nI (a))), (2, .int (nI (b9)))] := hl
  have hn60 := hN7.1
  have hnm := hN7.2.2.1
  refine lv_aload_n hx hb d_C_rename_0 rfl (lv_at hl 0 rfl) ?_
  refine lv_iload_n hx hb d_C_rename_1 rfl (lv_at hl 1 rfl) ?_
  refine c_V (own := R_C) (index := 131) (As := [.int (nI (a))]) (rest := []) hx hb hml hown hg hK NXc.same hN.warm (fun _ h => h) hP hS 0 (c_C_rqn l D cI cC cZ cT ad hI M n len ch hN7 (a) (by omega)) (by decide) (ci := 7) rfl rfl k_401 k_403 k_p5 k_1 k_404 1 rfl (by decide +kernel) (by decide) rfl hl.1 (Nat.le_of_ble_eq_true rfl) d_C_rename_2 (fun v M' H locs hq hP _ _ hS => ?_)
  obtain ⟨rfl, rfl⟩ := hq
  refine W.eq (g2 := F0 m 5 ls []) rfl ?_
  refine lv_aload_n hx hb d_C_rename_5 rfl (lv_at hl 0 rfl) ?_
  refine lv_iload_n hx hb d_C_rename_6 rfl (lv_at hl 2 rfl) ?_
  refine c_V (own := R_C) (index := 131) (As := [.int (nI (b9))]) (rest := []) hx hb hml hown hg hK NXc.same hN.warm (fun _ h => h) hP hS 0 (c_C_rqn l D cI cC cZ cT ad hI M n len ch hN7 (b9) (by omega)) (by decide) (ci := 7) rfl rfl k_401 k_403 k_p5 k_1 k_404 1 rfl (by decide +kernel) (by decide) rfl hl.1 (Nat.le_of_ble_eq_true rfl) d_C_rename_7 (fun v M' H locs hq hP _ _ hS => ?_)
  obtain ⟨rfl, rfl⟩ := hq
  refine W.eq (g2 := F0 m 10 ls []) rfl ?_
  refine lv_iload_n hx hb d_C_rename_10 rfl (lv_at hl 1 rfl) ?_
  refine lv_iload_n hx hb d_C_rename_11 rfl (lv_at hl 2 rfl) ?_
  refine n_ne (a := a) (b := b9) (tgt := 26) hx hb d_C_rename_12 (by decide) (by omega) (by omega) (fun c_12 => ?_) (fun c_12 => ?_)
  · refine lv_aload_n hx hb d_C_rename_26 rfl (lv_at hl 0 rfl) ?_
    refine lv_iload_n hx hb d_C_rename_27 rfl (lv_at hl 1 rfl) ?_
    refine lv_iload_n hx hb d_C_rename_28 rfl (lv_at hl 2 rfl) ?_
    refine c_V (own := R_C) (index := 267) (As := [.int (nI (a)), .int (nI (b9))]) (rest := []) hx hb hml hown hg hK NXc.same hN.warm (fun _ h => h) hP hS 0 (c_C_rnc_0 l D cI cC cZ cT ad hI M n hn60 rc rw_ hW7 st hS6 rk hRk hr60 a b9 ha hb9 ox oy hox hoy hno hno5 hL) (by decide) (ci := 7) rfl rfl k_704 k_706 k_p19 k_1 k_707 2 rfl (by decide +kernel) (by decide) rfl hl.1 (Nat.le_of_ble_eq_true rfl) d_C_rename_29 (fun v M' H locs hq hP _ _ hS => ?_)
    obtain ⟨rfl, rfl⟩ := hq
    refine W.eq (g2 := F0 m 32 ls [.int (bI (false))]) rfl ?_
    refine z_eq (t := false) (tgt := 37) hx hb d_C_rename_32 (by decide) (fun _ => ?_) (fun h9 => absurd h9 (by decide))
    refine lv_aload_n hx hb d_C_rename_37 rfl (lv_at hl 0 rfl) ?_
    refine g_get (C := R_C) (T := T_C) (N := 15) (ci := 7) (v := .ref (ad (136))) hx hb hg i_C hown hK hP 0 (by decide) rfl rfl 7 (by decide) (hg _ k_135) rfl d_C_rename_38 ?_
    refine c_V (own := R_C) (index := 270) (As := []) (rest := []) hx hb hml hown hg hK NXc.same hN.warm (fun _ h => h) hP hS 136 (c_R_isFull l D cI cC cZ cT ad hI M n nc hn60 rf rt hR8 false ⟨fun h => (by cases h), fun h => by omega⟩) (by decide) (ci := 1) rfl rfl k_712 k_713 k_714 k_7 k_715 0 rfl (by decide +kernel) (by decide) rfl hl.1 (Nat.le_of_ble_eq_true rfl) d_C_rename_41 (fun v M' H locs hq hP _ _ hS => ?_)
    obtain ⟨rfl, rfl⟩ := hq
    refine W.eq (g2 := F0 m 44 ls [.int (bI (false))]) rfl ?_
    refine z_eq (t := false) (tgt := 58) hx hb d_C_rename_44 (by decide) (fun _ => ?_) (fun h9 => absurd h9 (by decide))
    refine lv_aload_n hx hb d_C_rename_58 rfl (lv_at hl 0 rfl) ?_
    refine g_get (C := R_C) (T := T_C) (N := 15) (ci := 7) (v := .ref (ad (136))) hx hb hg i_C hown hK hP 0 (by decide) rfl rfl 7 (by decide) (hg _ k_135) rfl d_C_rename_59 ?_
    refine lv_iload_n hx hb d_C_rename_62 rfl (lv_at hl 1 rfl) ?_
    refine lv_iload_n hx hb d_C_rename_63 rfl (lv_at hl 2 rfl) ?_
    refine c_V (own := R_C) (index := 273) (As := [.int (nI (a)), .int (nI (b9))]) (rest := []) hx hb hml hown hg hK NXc.same hN.warm (fun _ h => h) hP hS 136 (c_R_add l D cI cC cZ cT ad hI M n nc hn60 rf rt hR8 a b9 h20) (by decide) (ci := 1) rfl rfl k_717 k_718 k_719 k_7 k_720 2 rfl (by decide +kernel) (by decide) rfl hl.1 (Nat.le_of_ble_eq_true rfl) d_C_rename_64 (fun v M_1 H locs hq hP _ _ hS => ?_)
    obtain ⟨rfl, eM_1⟩ := hq
    have q1 : M_1 137 nc = nI a ∧ M_1 138 nc = nI b9 ∧ M_1 136 2 = nI (nc + 1) := by rw [eM_1]; exact ⟨by rw [pu_k _ _ _ _ _ (by decide), pu_k _ _ _ _ _ (by decide), pu_s], by rw [pu_k _ _ _ _ _ (by decide), pu_s], pu_s _ _ _ _⟩
    have q2 : ∀ i, i ≠ nc → M_1 137 i = M 137 i ∧ M_1 138 i = M 138 i := fun i hi => by rw [eM_1]; exact ⟨by rw [pu_k _ _ _ _ _ (by decide), pu_k _ _ _ _ _ (by decide), pu_j _ _ _ _ _ hi], by rw [pu_k _ _ _ _ _ (by decide), pu_j _ _ _ _ _ hi, pu_k _ _ _ _ _ (by decide)]⟩
    have q3 : ∀ p q, p ≠ 136 → p ≠ 137 → p ≠ 138 → M_1 p q = M p q := fun p q g1 g2 g3 => by rw [eM_1, pu_k _ _ _ _ _ g1, pu_k _ _ _ _ _ g3, pu_k _ _ _ _ _ g2]
    have hW71 := hW7.cong (M' := M_1) (fun p q h => q3 p q (by omega) (by omega) (by omega))
    refine W.eq (g2 := F0 m 67 ls []) rfl ?_
    refine lv_aload_n hx hb d_C_rename_67 rfl (lv_at hl 0 rfl) ?_
    refine g_get (C := R_C) (T := T_C) (N := 15) (ci := 7) (v := .ref (ad (132))) hx hb hg i_C hown hK hP 0 (by decide) rfl rfl 5 (by decide) (hg _ k_133) rfl d_C_rename_68 ?_
    refine lv_iload_n hx hb d_C_rename_71 rfl (lv_at hl 1 rfl) ?_
    refine lv_iload_n hx hb d_C_rename_72 rfl (lv_at hl 2 rfl) ?_
    refine c_V (own := R_C) (index := 274) (As := [.int (nI (a)), .int (nI (b9))]) (rest := []) hx hb hml hown hg hK NXc.same hN.warm (fun _ h => h) hP hS 132 (c_W_replace l D cI cC cZ cT ad hI M_1 n rc hn60 rw_ hW71 a b9 ha hb9) (by decide) (ci := 2) rfl rfl k_721 k_722 k_723 k_5 k_724 2 rfl (by decide +kernel) (by decide) rfl hl.1 (Nat.le_of_ble_eq_true rfl) d_C_rename_73 (fun v M_2 H locs hq hP _ _ hS => ?_)
    obtain ⟨rfl, q4, q5⟩ := hq
    have hS61 := hS6.cong (M' := M_2) (fun q => by rw [q4 _ _ (by decide), q3 _ _ (by decide) (by decide) (by decide)])
    refine W.eq (g2 := F0 m 76 ls [.int (nI (Cnt (eqB rw_ a) (3 * rc)))]) rfl ?_
    refine lv_aload_n hx hb d_C_rename_76 rfl (lv_at hl 0 rfl) ?_
    refine g_get (C := R_C) (T := T_C) (N := 15) (ci := 7) (v := .ref (ad (134))) hx hb hg i_C hown hK hP 0 (by decide) rfl rfl 6 (by decide) (hg _ k_134) rfl d_C_rename_77 ?_
    refine lv_iload_n hx hb d_C_rename_80 rfl (lv_at hl 1 rfl) ?_
    refine lv_iload_n hx hb d_C_rename_81 rfl (lv_at hl 2 rfl) ?_
    refine c_V (own := R_C) (index := 277) (As := [.int (nI (a)), .int (nI (b9))]) (rest := [.int (nI (Cnt (eqB rw_ a) (3 * rc)))]) hx hb hml hown hg hK NXc.same hN.warm (fun _ h => h) hP hS 134 (c_G_replace l D cI cC cZ cT ad hI M_2 n hn60 st hS61 a b9 ha hb9 hab (fun e => Nat.lt_irrefl _ (hRk a a ha e))) (by decide) (ci := 4) rfl rfl k_725 k_726 k_727 k_6 k_728 2 rfl (by decide +kernel) (by decide) rfl hl.1 (Nat.le_of_ble_eq_true rfl) d_C_rename_82 (fun v M_3 H locs hq hP _ _ hS => ?_)
    obtain ⟨rfl, q6, q7⟩ := hq
    have hU11 := hU1.cong (M' := M_3) (fun q => by rw [q6 _ _ (by decide), q4 _ _ (by decide), q3 _ _ (by decide) (by decide) (by decide)])
    refine W.eq (g2 := F0 m 85 ls [.int (nI (Cnt (soB st a) 60 + if st a = none then 0 else 1)), .int (nI (Cnt (eqB rw_ a) (3 * rc)))]) rfl ?_
    refine n_iadd (a := Cnt (eqB rw_ a) (3 * rc)) (b := Cnt (soB st a) 60 + if st a = none then 0 else 1) hx hb d_C_rename_85 ?_
    refine lv_aload_n hx hb d_C_rename_86 rfl (lv_at hl 0 rfl) ?_
    refine lv_iload_n hx hb d_C_rename_87 rfl (lv_at hl 1 rfl) ?_
    refine lv_iload_n hx hb d_C_rename_88 rfl (lv_at hl 2 rfl) ?_
    refine c_V (own := R_C) (index := 278) (As := [.int (nI (a)), .int (nI (b9))]) (rest := [.int (nI ((Cnt (eqB rw_ a) (3 * rc)) + (Cnt (soB st a) 60 + if st a = none then 0 else 1)))]) hx hb hml hown hg hK NXc.same hN.warm (fun _ h => h) hP hS 0 (c_C_moveUses_1 l D cI cC cZ cT ad hI M_3 us hU11 a b9 (by omega) (by omega) h0) (by decide) (ci := 7) rfl rfl k_729 k_731 k_p20 k_1 k_732 2 rfl (by decide +kernel) (by decide) rfl hl.1 (Nat.le_of_ble_eq_true rfl) d_C_rename_89 (fun v M_4 H locs hq hP _ _ hS => ?_)
    obtain ⟨rfl, eM_4⟩ := hq
    refine W.eq (g2 := F0 m 92 ls [.int (nI (1)), .int (nI ((Cnt (eqB rw_ a) (3 * rc)) + (Cnt (soB st a) 60 + if st a = none then 0 else 1)))]) rfl ?_
    refine n_iadd (a := (Cnt (eqB rw_ a) (3 * rc)) + (Cnt (soB st a) 60 + if st a = none then 0 else 1)) (b := 1) hx hb d_C_rename_92 ?_
    exact r_i hx hb hr hlocks hP hS (⟨by rw [if_neg h0], by rw [eM_4, pu_k _ _ _ _ _ (by decide), pu_k _ _ _ _ _ (by decide), q6 _ _ (by decide), q4 _ _ (by decide)]; exact q1.1, by rw [eM_4, pu_k _ _ _ _ _ (by decide), pu_k _ _ _ _ _ (by decide), q6 _ _ (by decide), q4 _ _ (by decide)]; exact q1.2.1, by rw [eM_4, pu_k _ _ _ _ _ (by decide), pu_k _ _ _ _ _ (by decide), q6 _ _ (by decide), q4 _ _ (by decide)]; exact q1.2.2, fun q hq => by rw [eM_4, pu_k _ _ _ _ _ (by decide), pu_k _ _ _ _ _ (by decide), q6 _ _ (by decide)]; exact q5 q hq, fun q hq => by rw [eM_4, pu_k _ _ _ _ _ (by decide), pu_k _ _ _ _ _ (by decide)]; exact q7 q hq, fun q hq => by rw [eM_4]; unfold usR; by_cases z1 : q = a; rw [if_pos z1, z1, pu_s]; rw [if_neg z1, pu_j _ _ _ _ _ z1]; by_cases z2 : q = b9; rw [if_pos z2, z2, pu_s]; rw [if_neg z2, pu_j _ _ _ _ _ z2]; exact (hU11 q hq).2, fun i hi => ⟨by rw [eM_4, pu_k _ _ _ _ _ (by decide), pu_k _ _ _ _ _ (by decide), q6 _ _ (by decide), q4 _ _ (by decide)]; exact (q2 i hi).1, by rw [eM_4, pu_k _ _ _ _ _ (by decide), pu_k _ _ _ _ _ (by decide), q6 _ _ (by decide), q4 _ _ (by decide)]; exact (q2 i hi).2⟩, fun p q g1 g2 g3 g4 g5 g6 => by rw [eM_4, pu_k _ _ _ _ _ g6, pu_k _ _ _ _ _ g6, q6 p q g2, q4 p q g1, q3 p q g3 g4 g5]⟩) d_C_rename_93
  · exact absurd c_12 (by omega)

set_option maxHeartbeats 4000000 in
set_option maxRecDepth 100000 in
theorem c_C_propose_0 (l : Launch) (D : va_G) (cI cC cZ cT : ClassId) (ad : Nat → Nat) (hI : GI 144 ad) (M : PM) (n : Nat) (len : Nat → Nat) (ch : Nat → Nat → Nat) (hN7 : CN M n len ch) (sp bs : Nat → Option Nat) (hH : CSp M n sp bs) (a : Nat) (ha : a < n) (f9 e9 : Nat) (hrun : RunL len ch a f9 e9) (bl9 : Nat) (hbl9 : bl9 = blP f9 e9) (bc9 : Nat → Nat) (hbc9 : bc9 = bcP ch a f9 e9) (m9 : Nat) (hm9 : m9 = min bl9 4) (r9 : Nat) (hr9 : ChP (fun j => tkP n len ch sp (clP m9 j) (ccP bc9 m9 j)) m9 r9) : MD l D cI cC cZ cT ad y_C_propose b_C_propose 4 (some .int) 4 88 [.ref (ad (0)), .int (nI (a))] M (fun v M' => v = some (.int (nI (clP m9 r9))) ∧ TT M' 3 (clP m9 r9) (ccP bc9 m9 r9) ∧ F35 M M') := by
  refine MC.of (by decide) (Nat.le_of_ble_eq_true rfl) ?_
  intro p e s m below meth c ls hx hb hr hml hown hg hlocks hK hN hP hS hl
  have hown : s.vm.findClass R_C = some m.cls := hown
  have hl : lv_has ls 4 [(0, .ref (ad (0))), (1, .int (nI (a)))] := hl
  have hn60 := hN7.1
  have hnm := hN7.2.2.1
  have la := hnm a ha
  obtain ⟨r1, r2, r3, r4, r5, r6⟩ := id hrun
  have hblb : 1 ≤ bl9 ∧ bl9 ≤ 24 := by have := blP_b r1 r2 la.1; omega
  have hbcl : ∀ i, i < bl9 → bc9 i < 128 := fun i hi => by rw [hbc9]; exact bcP_lt hrun (fun i hi => by have := la.2.2.1 i hi; omega) i (by omega)
  have hm1 : 1 ≤ m9 ∧ m9 ≤ 4 ∧ m9 ≤ bl9 := by omega
  have hF := F35.rf M
  have J86 : ∀ (fu86 : Nat) (k : Nat) (M1 : PM) (H : Heap) (locs : List Loc) (ls : Array Slot), 100 - k < fu86 → (1 ≤ k ∧ k ≤ 100) → (∀ q, q + 1 < m9 + k → tkP n len ch sp (clP m9 (q)) (ccP bc9 m9 (q))) → (k ≠ 1 → TT M1 3 (clP m9 (m9 + k - 2)) (ccP bc9 m9 (m9 + k - 2))) → (TT M1 5 bl9 bc9) → (F35 M M1) → va_P D clsA (gw 144 ad (cfC cI cC cZ cT ad) M1) H → va_S (GA 144 ad) s.heap H locs → lv_has ls 4 [(0, .ref (ad (0))), (3, .int (nI (k)))] → W p l e (rm_ 4 88) s m ([.ref (ad (0)), .int (nI (a))] : List Value).toArray below meth c H locs 0 0 (MQ below (GQ D 144 ad (cfC cI cC cZ cT ad) (fun v M' => v = some (.int (nI (clP m9 r9))) ∧ TT M' 3 (clP m9 r9) (ccP bc9 m9 r9) ∧ F35 M M')) ([.ref (ad (0)), .int (nI (a))] : List Value).toArray s 0 0 (GA 144 ad)) (F0 m 86 ls []) := by
    intro fu86
    induction fu86 with
    | zero => intro k M1 H locs ls hfu; exact absurd hfu (Nat.not_lt_zero _)
    | succ fu86 ih86 =>
      intro k M1 H locs ls hfu86 hk hAll hP3 hB5 hF hP hS hl
      have hN71 := hN7.f35 hF
      have hH1 := hH.f35 hF
      refine lv_iload_n hx hb d_C_propose_86 rfl (lv_at hl 1 rfl) ?_
      refine n_bipush (k := 99) hx hb d_C_propose_87 (by decide) ?_
      refine n_gt (a := k) (b := 99) (tgt := 145) hx hb d_C_propose_89 (by decide) (by omega) (by omega) (fun c_89 => ?_) (fun c_89 => ?_)
      · have hr8 : r9 = m9 + 98 := hr9.uniq ⟨by omega, fun q hq => hAll q (by omega), Or.inr rfl⟩
        have hB : TT M1 3 (clP m9 r9) (ccP bc9 m9 r9) := by rw [show r9 = m9 + k - 2 by omega]; exact hP3 (by omega)
        refine lv_aload_n hx hb d_C_propose_145 rfl (lv_at hl 0 rfl) ?_
        refine g_get (C := R_C) (T := T_C) (N := 15) (ci := 7) (v := .ref (ad (3))) hx hb hg i_C hown hK hP 0 (by decide) rfl rfl 1 (by decide) (hg _ k_129) rfl d_C_propose_146 ?_
        refine c_V (own := R_C) (index := 109) (As := []) (rest := []) hx hb hml hown hg hK NXc.same hN.warm (fun _ h => h) hP hS 3 (c_T_length l D cI cC cZ cT ad hI M1 3 tx3 (clP m9 r9) (ccP bc9 m9 r9) hB) (tx_lt tx3) (ci := 6) (cfC_T tx3 _) rfl k_179 k_180 k_181 k_2 k_182 0 rfl (by decide +kernel) (by decide) rfl hl.1 (Nat.le_of_ble_eq_true rfl) d_C_propose_149 (fun v M' H locs hq hP _ _ hS => ?_)
        obtain ⟨rfl, rfl⟩ := hq
        refine W.eq (g2 := F0 m 152 ls [.int (nI (clP m9 r9))]) rfl ?_
        exact r_i hx hb hr hlocks hP hS (⟨rfl, hB, hF⟩) d_C_propose_152
      · refine lv_aload_n hx hb d_C_propose_92 rfl (lv_at hl 0 rfl) ?_
        refine g_get (C := R_C) (T := T_C) (N := 15) (ci := 7) (v := .ref (ad (3))) hx hb hg i_C hown hK hP 0 (by decide) rfl rfl 1 (by decide) (hg _ k_129) rfl d_C_propose_93 ?_
        refine c_V (own := R_C) (index := 113) (As := []) (rest := []) hx hb hml hown hg hK NXc.same hN.warm (fun _ h => h) hP hS 3 (c_T_empty l D cI cC cZ cT ad hI M1 3 tx3) (tx_lt tx3) (ci := 6) (cfC_T tx3 _) rfl k_183 k_184 k_185 k_2 k_186 0 rfl (by decide +kernel) (by decide) rfl hl.1 (Nat.le_of_ble_eq_true rfl) d_C_propose_96 (fun v M_1 H locs hq hP _ _ hS => ?_)
        obtain ⟨rfl, eM_1⟩ := hq
        have hB : TT M_1 3 0 (ccP bc9 m9 (m9 + k - 1)) := by rw [eM_1]; exact TT.emp _ _ _
        have hFx : FT 3 M1 M_1 := by rw [eM_1]; exact FT.emp _ _ _
        have hF : F35 M M_1 := hF.tr (F35.f3 hFx)
        have hB5 := hB5.ft hFx tx3 tx5 (by decide)
        have hN71 := hN7.f35 hF
        have hH1 := hH.f35 hF
        refine W.eq (g2 := F0 m 99 ls []) rfl ?_
        refine lv_aload_n hx hb d_C_propose_99 rfl (lv_at hl 0 rfl) ?_
        refine g_get (C := R_C) (T := T_C) (N := 15) (ci := 7) (v := .ref (ad (3))) hx hb hg i_C hown hK hP 0 (by decide) rfl rfl 1 (by decide) (hg _ k_129) rfl d_C_propose_100 ?_
        refine lv_aload_n hx hb d_C_propose_103 rfl (lv_at hl 0 rfl) ?_
        refine g_get (C := R_C) (T := T_C) (N := 15) (ci := 7) (v := .ref (ad (5))) hx hb hg i_C hown hK hP 0 (by decide) rfl rfl 2 (by decide) (hg _ k_130) rfl d_C_propose_104 ?_
        refine n_const (k := 0) hx hb d_C_propose_107 (by decide) ?_
        refine c_V (own := R_C) (index := 179) (As := [.int (nI (0))]) (rest := [.ref (ad (3))]) hx hb hml hown hg hK NXc.same hN.warm (fun _ h => h) hP hS 5 (c_T_at l D cI cC cZ cT ad hI M_1 5 tx5 bl9 bc9 hB5 0 (by omega)) (tx_lt tx5) (ci := 6) (cfC_T tx5 _) rfl k_191 k_192 k_193 k_2 k_194 1 rfl (by decide +kernel) (by decide) rfl hl.1 (Nat.le_of_ble_eq_true rfl) d_C_propose_108 (fun v M' H locs hq hP _ _ hS => ?_)
        obtain ⟨rfl, rfl⟩ := hq
        refine W.eq (g2 := F0 m 111 ls [.int (nI (bc9 0)), .ref (ad (3))]) rfl ?_
        refine c_V (own := R_C) (index := 105) (As := [.int (nI (bc9 0))]) (rest := []) hx hb hml hown hg hK NXc.same hN.warm (fun _ h => h) hP hS 3 (c_T_put l D cI cC cZ cT ad hI M_1 3 tx3 0 (ccP bc9 m9 (m9 + k - 1)) hB (bc9 0) (hbcl 0 (by omega)) (by rw [cap3]; omega)) (tx_lt tx3) (ci := 6) (cfC_T tx3 _) rfl k_293 k_294 k_295 k_2 k_296 1 rfl (by decide +kernel) (by decide) rfl hl.1 (Nat.le_of_ble_eq_true rfl) d_C_propose_111 (fun v M_2 H locs hq hP _ _ hS => ?_)
        obtain ⟨rfl, eM_2⟩ := hq
        rw [show bc9 0 = (ccP bc9 m9 (m9 + k - 1)) 0 from (by unfold ccP; rw [if_neg (by omega), if_pos rfl])] at eM_2
        have hB : TT M_2 3 (0 + 1) (ccP bc9 m9 (m9 + k - 1)) := by rw [eM_2]; exact hB.add (by rw [cap3]; omega) (by unfold ccP; rw [if_neg (by omega), if_pos rfl]; exact hbcl 0 (by omega))
        have hFx : FT 3 M_1 M_2 := by rw [eM_2]; exact FT.add _ _ _ _ _
        have hF : F35 M M_2 := hF.tr (F35.f3 hFx)
        have hB5 := hB5.ft hFx tx3 tx5 (by decide)
        have hN71 := hN7.f35 hF
        have hH1 := hH.f35 hF
        refine W.eq (g2 := F0 m 114 ls []) rfl ?_
        refine lv_aload_n hx hb d_C_propose_114 rfl (lv_at hl 0 rfl) ?_
        refine g_get (C := R_C) (T := T_C) (N := 15) (ci := 7) (v := .ref (ad (3))) hx hb hg i_C hown hK hP 0 (by decide) rfl rfl 1 (by decide) (hg _ k_129) rfl d_C_propose_115 ?_
        refine lv_iload_n hx hb d_C_propose_118 rfl (lv_at hl 1 rfl) ?_
        refine c_V (own := R_C) (index := 183) (As := [.int (nI (k))]) (rest := []) hx hb hml hown hg hK NXc.same hN.warm (fun _ h => h) hP hS 3 (c_T_putNumber l D cI cC cZ cT ad hI M_2 3 tx3 (0 + 1) (ccP bc9 m9 (m9 + k - 1)) hB k (by omega) (by rw [cap3]; omega) (fun h => by unfold ccP; rw [if_neg (by omega), if_neg (by omega), if_pos (by omega)]; omega) (fun h => ⟨by unfold ccP; rw [if_neg (by omega), if_neg (by omega), if_neg (by omega), if_pos (by omega), show m9 + k - 1 - m9 + 1 = k by omega], by unfold ccP; rw [if_neg (by omega), if_neg (by omega), if_neg (by omega), if_neg (by omega), show m9 + k - 1 - m9 + 1 = k by omega]⟩)) (tx_lt tx3) (ci := 6) (cfC_T tx3 _) rfl k_508 k_509 k_510 k_2 k_511 1 rfl (by decide +kernel) (by decide) rfl hl.1 (Nat.le_of_ble_eq_true rfl) d_C_propose_119 (fun v M_3 H locs hq hP _ _ hS => ?_)
        obtain ⟨rfl, hB, hFy⟩ := hq
        have hB : TT M_3 3 (clP m9 (m9 + k - 1)) (ccP bc9 m9 (m9 + k - 1)) := by
          have e5 : clP m9 (m9 + k - 1) = 0 + 1 + (if k < 10 then 1 else 2) := by
            unfold clP
            rw [if_neg (by omega), show m9 + k - 1 - m9 + 1 = k by omega]
            by_cases z : k < 10
            · rw [if_pos z, if_pos z]
            · rw [if_neg z, if_neg z]
          rw [e5]; exact hB
        have hFx : FT 3 M_2 M_3 := hFy
        have hF : F35 M M_3 := hF.tr (F35.f3 hFx)
        have hB5 := hB5.ft hFx tx3 tx5 (by decide)
        have hN71 := hN7.f35 hF
        have hH1 := hH.f35 hF
        refine W.eq (g2 := F0 m 122 ls []) rfl ?_
        obtain ⟨o9, ho9⟩ := Fst.ex (sameT len ch (clP m9 (m9 + k - 1)) (ccP bc9 m9 (m9 + k - 1))) n
        obtain ⟨t9, ht8⟩ := bex (tkP n len ch sp (clP m9 (m9 + k - 1)) (ccP bc9 m9 (m9 + k - 1)))
        refine lv_aload_n hx hb d_C_propose_122 rfl (lv_at hl 0 rfl) ?_
        refine g_get (C := R_C) (T := T_C) (N := 15) (ci := 7) (v := .ref (ad (129))) hx hb hg i_C hown hK hP 0 (by decide) rfl rfl 4 (by decide) (hg _ k_132) rfl d_C_propose_123 ?_
        refine lv_aload_n hx hb d_C_propose_126 rfl (lv_at hl 0 rfl) ?_
        refine g_get (C := R_C) (T := T_C) (N := 15) (ci := 7) (v := .ref (ad (3))) hx hb hg i_C hown hK hP 0 (by decide) rfl rfl 1 (by decide) (hg _ k_129) rfl d_C_propose_127 ?_
        refine c_V (own := R_C) (index := 175) (As := [.ref (ad (3))]) (rest := []) hx hb hml hown hg hK NXc.same hN.warm (fun _ h => h) hP hS 129 (c_H_isShort l D cI cC cZ cT ad hI M_3 n len ch hN71 sp bs hH1 3 tx3 (clP m9 (m9 + k - 1)) (ccP bc9 m9 (m9 + k - 1)) hB o9 ho9 t9 (ht8.trans (tk_iff ho9))) (by decide) (ci := 3) rfl rfl k_503 k_504 k_505 k_4 k_506 1 rfl (by decide +kernel) (by decide) rfl hl.1 (Nat.le_of_ble_eq_true rfl) d_C_propose_130 (fun v M' H locs hq hP _ _ hS => ?_)
        obtain ⟨rfl, rfl⟩ := hq
        refine W.eq (g2 := F0 m 133 ls [.int (bI (t9))]) rfl ?_
        refine z_ne (t := t9) (tgt := 139) hx hb d_C_propose_133 (by decide) (fun c_133 => ?_) (fun c_133 => ?_)
        · refine n_inc (lv' := [(3, .int (nI (k + 1))), (0, .ref (ad (0)))]) hx hb d_C_propose_139 hl (k := 1) rfl (by decide) rfl (fun ls hl => ?_)
          refine lv_goto (tgt := 86) hx hb d_C_propose_142 (by decide) ?_
          exact ih86 (k + 1) M_3 _ _ ls (by omega) (by omega) (fun q hq => by rcases Nat.lt_or_ge (q + 1) (m9 + k) with z | z; exact hAll q z; rw [show q = m9 + k - 1 by omega]; exact ht8.mp c_133) (fun _ => by rw [show m9 + (k + 1) - 2 = m9 + k - 1 by omega]; exact hB) (hB5) (hF) hP hS (lv_sub hl [1, 0] rfl)
        · have hr8 : r9 = m9 + k - 1 := hr9.uniq ⟨by omega, fun q hq => hAll q (by omega), Or.inl (fun z => by rw [ht8.mpr z] at c_133; cases c_133)⟩
          rw [← hr8] at hB
          refine lv_goto (tgt := 145) hx hb d_C_propose_136 (by decide) ?_
          refine lv_aload_n hx hb d_C_propose_145 rfl (lv_at hl 0 rfl) ?_
          refine g_get (C := R_C) (T := T_C) (N := 15) (ci := 7) (v := .ref (ad (3))) hx hb hg i_C hown hK hP 0 (by decide) rfl rfl 1 (by decide) (hg _ k_129) rfl d_C_propose_146 ?_
          refine c_V (own := R_C) (index := 109) (As := []) (rest := []) hx hb hml hown hg hK NXc.same hN.warm (fun _ h => h) hP hS 3 (c_T_length l D cI cC cZ cT ad hI M_3 3 tx3 (clP m9 r9) (ccP bc9 m9 r9) hB) (tx_lt tx3) (ci := 6) (cfC_T tx3 _) rfl k_179 k_180 k_181 k_2 k_182 0 rfl (by decide +kernel) (by decide) rfl hl.1 (Nat.le_of_ble_eq_true rfl) d_C_propose_149 (fun v M' H locs hq hP _ _ hS => ?_)
          obtain ⟨rfl, rfl⟩ := hq
          refine W.eq (g2 := F0 m 152 ls [.int (nI (clP m9 r9))]) rfl ?_
          exact r_i hx hb hr hlocks hP hS (⟨rfl, hB, hF⟩) d_C_propose_152
  have J31 : ∀ (fu31 : Nat) (j : Nat) (M1 : PM) (H : Heap) (locs : List Loc) (ls : Array Slot), m9 - j < fu31 → (j ≤ m9) → (∀ q, q < j → tkP n len ch sp (clP m9 (q)) (ccP bc9 m9 (q))) → (TT M1 5 bl9 bc9) → (F35 M M1) → va_P D clsA (gw 144 ad (cfC cI cC cZ cT ad) M1) H → va_S (GA 144 ad) s.heap H locs → lv_has ls 4 [(0, .ref (ad (0))), (1, .int (nI (a))), (2, .int (nI (m9))), (3, .int (nI (j + 1)))] → W p l e (rm_ 4 88) s m ([.ref (ad (0)), .int (nI (a))] : List Value).toArray below meth c H locs 0 0 (MQ below (GQ D 144 ad (cfC cI cC cZ cT ad) (fun v M' => v = some (.int (nI (clP m9 r9))) ∧ TT M' 3 (clP m9 r9) (ccP bc9 m9 r9) ∧ F35 M M')) ([.ref (ad (0)), .int (nI (a))] : List Value).toArray s 0 0 (GA 144 ad)) (F0 m 31 ls []) := by
    intro fu31
    induction fu31 with
    | zero => intro j M1 H locs ls hfu; exact absurd hfu (Nat.not_lt_zero _)
    | succ fu31 ih31 =>
      intro j M1 H locs ls hfu31 hj hAll hB5 hF hP hS hl
      have hN71 := hN7.f35 hF
      have hH1 := hH.f35 hF
      refine lv_iload_n hx hb d_C_propose_31 rfl (lv_at hl 3 rfl) ?_
      refine lv_iload_n hx hb d_C_propose_32 rfl (lv_at hl 2 rfl) ?_
      refine n_gt (a := j + 1) (b := m9) (tgt := 84) hx hb d_C_propose_33 (by decide) (by omega) (by omega) (fun c_33 => ?_) (fun c_33 => ?_)
      · refine n_const (k := 1) hx hb d_C_propose_84 (by decide) ?_
        refine lv_istore_n (lv' := [(3, .int (nI (1))), (0, .ref (ad (0))), (1, .int (nI (a))), (2, .int (nI (m9)))]) hx hb d_C_propose_85 rfl hl (by decide) rfl (fun ls hl => ?_)
        exact J86 (_ + 1) (1) M1 _ _ ls (Nat.lt_succ_self _) (by omega) (fun q hq => hAll q (by omega)) (fun h => absurd rfl h) (hB5) (hF) hP hS (lv_sub hl [1, 0] rfl)
      · refine lv_aload_n hx hb d_C_propose_36 rfl (lv_at hl 0 rfl) ?_
        refine g_get (C := R_C) (T := T_C) (N := 15) (ci := 7) (v := .ref (ad (3))) hx hb hg i_C hown hK hP 0 (by decide) rfl rfl 1 (by decide) (hg _ k_129) rfl d_C_propose_37 ?_
        refine c_V (own := R_C) (index := 113) (As := []) (rest := []) hx hb hml hown hg hK NXc.same hN.warm (fun _ h => h) hP hS 3 (c_T_empty l D cI cC cZ cT ad hI M1 3 tx3) (tx_lt tx3) (ci := 6) (cfC_T tx3 _) rfl k_183 k_184 k_185 k_2 k_186 0 rfl (by decide +kernel) (by decide) rfl hl.1 (Nat.le_of_ble_eq_true rfl) d_C_propose_40 (fun v M_4 H locs hq hP _ _ hS => ?_)
        obtain ⟨rfl, eM_4⟩ := hq
        have hB : TT M_4 3 0 (ccP bc9 m9 j) := by rw [eM_4]; exact TT.emp _ _ _
        have hFx : FT 3 M1 M_4 := by rw [eM_4]; exact FT.emp _ _ _
        have hF : F35 M M_4 := hF.tr (F35.f3 hFx)
        have hB5 := hB5.ft hFx tx3 tx5 (by decide)
        have hN71 := hN7.f35 hF
        have hH1 := hH.f35 hF
        refine W.eq (g2 := F0 m 43 ls []) rfl ?_
        refine lv_aload_n hx hb d_C_propose_43 rfl (lv_at hl 0 rfl) ?_
        refine g_get (C := R_C) (T := T_C) (N := 15) (ci := 7) (v := .ref (ad (3))) hx hb hg i_C hown hK hP 0 (by decide) rfl rfl 1 (by decide) (hg _ k_129) rfl d_C_propose_44 ?_
        refine lv_aload_n hx hb d_C_propose_47 rfl (lv_at hl 0 rfl) ?_
        refine g_get (C := R_C) (T := T_C) (N := 15) (ci := 7) (v := .ref (ad (5))) hx hb hg i_C hown hK hP 0 (by decide) rfl rfl 2 (by decide) (hg _ k_130) rfl d_C_propose_48 ?_
        refine n_const (k := 0) hx hb d_C_propose_51 (by decide) ?_
        refine lv_iload_n hx hb d_C_propose_52 rfl (lv_at hl 3 rfl) ?_
        refine c_V (own := R_C) (index := 171) (As := [.ref (ad (5)), .int (nI (0)), .int (nI (j + 1))]) (rest := []) hx hb hml hown hg hK NXc.same hN.warm (fun _ h => h) hP hS 3 (c_T_putPart l D cI cC cZ cT ad hI M_4 3 tx3 0 (ccP bc9 m9 j) hB 5 tx5 bl9 bc9 hB5 0 (j + 1) (by omega) (by omega) (by decide) (by rw [cap3]; omega) (fun i _ h => by unfold ccP; rw [if_pos (by omega)]; congr 1; omega)) (tx_lt tx3) (ci := 6) (cfC_T tx3 _) rfl k_374 k_358 k_359 k_2 k_360 3 rfl (by decide +kernel) (by decide) rfl hl.1 (Nat.le_of_ble_eq_true rfl) d_C_propose_53 (fun v M_5 H locs hq hP _ _ hS => ?_)
        obtain ⟨rfl, hB, hFy⟩ := hq
        have hB : TT M_5 3 (clP m9 j) (ccP bc9 m9 j) := by rw [show clP m9 j = 0 + (j + 1 - 0) by unfold clP; rw [if_pos (by omega)]; omega]; exact hB
        have hFx : FT 3 M_4 M_5 := hFy
        have hF : F35 M M_5 := hF.tr (F35.f3 hFx)
        have hB5 := hB5.ft hFx tx3 tx5 (by decide)
        have hN71 := hN7.f35 hF
        have hH1 := hH.f35 hF
        refine W.eq (g2 := F0 m 56 ls []) rfl ?_
        obtain ⟨o9, ho9⟩ := Fst.ex (sameT len ch (clP m9 (j)) (ccP bc9 m9 (j))) n
        obtain ⟨t9, ht8⟩ := bex (tkP n len ch sp (clP m9 (j)) (ccP bc9 m9 (j)))
        refine lv_aload_n hx hb d_C_propose_56 rfl (lv_at hl 0 rfl) ?_
        refine g_get (C := R_C) (T := T_C) (N := 15) (ci := 7) (v := .ref (ad (129))) hx hb hg i_C hown hK hP 0 (by decide) rfl rfl 4 (by decide) (hg _ k_132) rfl d_C_propose_57 ?_
        refine lv_aload_n hx hb d_C_propose_60 rfl (lv_at hl 0 rfl) ?_
        refine g_get (C := R_C) (T := T_C) (N := 15) (ci := 7) (v := .ref (ad (3))) hx hb hg i_C hown hK hP 0 (by decide) rfl rfl 1 (by decide) (hg _ k_129) rfl d_C_propose_61 ?_
        refine c_V (own := R_C) (index := 175) (As := [.ref (ad (3))]) (rest := []) hx hb hml hown hg hK NXc.same hN.warm (fun _ h => h) hP hS 129 (c_H_isShort l D cI cC cZ cT ad hI M_5 n len ch hN71 sp bs hH1 3 tx3 (clP m9 j) (ccP bc9 m9 j) hB o9 ho9 t9 (ht8.trans (tk_iff ho9))) (by decide) (ci := 3) rfl rfl k_503 k_504 k_505 k_4 k_506 1 rfl (by decide +kernel) (by decide) rfl hl.1 (Nat.le_of_ble_eq_true rfl) d_C_propose_64 (fun v M' H locs hq hP _ _ hS => ?_)
        obtain ⟨rfl, rfl⟩ := hq
        refine W.eq (g2 := F0 m 67 ls [.int (bI (t9))]) rfl ?_
        refine z_ne (t := t9) (tgt := 78) hx hb d_C_propose_67 (by decide) (fun c_67 => ?_) (fun c_67 => ?_)
        · refine n_inc (lv' := [(3, .int (nI (j + 1 + 1))), (0, .ref (ad (0))), (1, .int (nI (a))), (2, .int (nI (m9)))]) hx hb d_C_propose_78 hl (k := 3) rfl (by decide) rfl (fun ls hl => ?_)
          refine lv_goto (tgt := 31) hx hb d_C_propose_81 (by decide) ?_
          exact ih31 (j + 1) M_5 _ _ ls (by omega) (by omega) (lt_S hAll (ht8.mp c_67)) (hB5) (hF) hP hS (lv_sub hl [1, 2, 3, 0] rfl)
        · have hr8 : r9 = j := hr9.uniq ⟨by omega, hAll, Or.inl (fun z => by rw [ht8.mpr z] at c_67; cases c_67)⟩
          refine lv_aload_n hx hb d_C_propose_70 rfl (lv_at hl 0 rfl) ?_
          refine g_get (C := R_C) (T := T_C) (N := 15) (ci := 7) (v := .ref (ad (3))) hx hb hg i_C hown hK hP 0 (by decide) rfl rfl 1 (by decide) (hg _ k_129) rfl d_C_propose_71 ?_
          refine c_V (own := R_C) (index := 109) (As := []) (rest := []) hx hb hml hown hg hK NXc.same hN.warm (fun _ h => h) hP hS 3 (c_T_length l D cI cC cZ cT ad hI M_5 3 tx3 (clP m9 j) (ccP bc9 m9 j) hB) (tx_lt tx3) (ci := 6) (cfC_T tx3 _) rfl k_179 k_180 k_181 k_2 k_182 0 rfl (by decide +kernel) (by decide) rfl hl.1 (Nat.le_of_ble_eq_true rfl) d_C_propose_74 (fun v M' H locs hq hP _ _ hS => ?_)
          obtain ⟨rfl, rfl⟩ := hq
          refine W.eq (g2 := F0 m 77 ls [.int (nI (clP m9 j))]) rfl ?_
          exact r_i hx hb hr hlocks hP hS (⟨by rw [hr8], by rw [hr8]; exact hB, hF⟩) d_C_propose_77
  refine lv_aload_n hx hb d_C_propose_0 rfl (lv_at hl 0 rfl) ?_
  refine lv_iload_n hx hb d_C_propose_1 rfl (lv_at hl 1 rfl) ?_
  refine c_V (own := R_C) (index := 131) (As := [.int (nI (a))]) (rest := []) hx hb hml hown hg hK NXc.same hN.warm (fun _ h => h) hP hS 0 (c_C_rqn l D cI cC cZ cT ad hI M n len ch hN7 (a) (by omega)) (by decide) (ci := 7) rfl rfl k_401 k_403 k_p5 k_1 k_404 1 rfl (by decide +kernel) (by decide) rfl hl.1 (Nat.le_of_ble_eq_true rfl) d_C_propose_2 (fun v M' H locs hq hP _ _ hS => ?_)
  obtain ⟨rfl, rfl⟩ := hq
  refine W.eq (g2 := F0 m 5 ls []) rfl ?_
  refine lv_aload_n hx hb d_C_propose_5 rfl (lv_at hl 0 rfl) ?_
  refine lv_aload_n hx hb d_C_propose_6 rfl (lv_at hl 0 rfl) ?_
  refine g_get (C := R_C) (T := T_C) (N := 15) (ci := 7) (v := .ref (ad (7))) hx hb hg i_C hown hK hP 0 (by decide) rfl rfl 3 (by decide) (hg _ k_131) rfl d_C_propose_7 ?_
  refine lv_iload_n hx hb d_C_propose_10 rfl (lv_at hl 1 rfl) ?_
  refine c_V (own := R_C) (index := 134) (As := [.int (nI (a))]) (rest := [.ref (ad (0))]) hx hb hml hown hg hK NXc.same hN.warm (fun _ h => h) hP hS 7 (c_N_text l D cI cC cZ cT ad hI M (a) (by omega)) (by decide) (ci := 0) rfl rfl k_387 k_388 k_389 k_3 k_390 1 rfl (by decide +kernel) (by decide) rfl hl.1 (Nat.le_of_ble_eq_true rfl) d_C_propose_11 (fun v M' H locs hq hP _ _ hS => ?_)
  obtain ⟨rfl, rfl⟩ := hq
  refine W.eq (g2 := F0 m 14 ls [.ref (ad (9 + 2 * (a))), .ref (ad (0))]) rfl ?_
  refine c_V (own := R_C) (index := 161) (As := [.ref (ad (9 + 2 * (a)))]) (rest := []) hx hb hml hown hg hK NXc.same hN.warm (fun _ h => h) hP hS 0 (c_C_buildLastLetters l D cI cC cZ cT ad hI M n len ch hN7 a ha f9 e9 hrun) (by decide) (ci := 7) rfl rfl k_488 k_490 k_p7 k_1 k_491 1 rfl (by decide +kernel) (by decide) rfl hl.1 (Nat.le_of_ble_eq_true rfl) d_C_propose_14 (fun v M_6 H locs hq hP _ _ hS => ?_)
  obtain ⟨rfl, hB5, hFx⟩ := hq
  rw [← hbl9, ← hbc9] at hB5
  have hF : F35 M M_6 := F35.f5 hFx
  refine W.eq (g2 := F0 m 17 ls []) rfl ?_
  refine lv_aload_n hx hb d_C_propose_17 rfl (lv_at hl 0 rfl) ?_
  refine g_get (C := R_C) (T := T_C) (N := 15) (ci := 7) (v := .ref (ad (5))) hx hb hg i_C hown hK hP 0 (by decide) rfl rfl 2 (by decide) (hg _ k_130) rfl d_C_propose_18 ?_
  refine c_V (own := R_C) (index := 109) (As := []) (rest := []) hx hb hml hown hg hK NXc.same hN.warm (fun _ h => h) hP hS 5 (c_T_length l D cI cC cZ cT ad hI M_6 5 tx5 bl9 bc9 hB5) (tx_lt tx5) (ci := 6) (cfC_T tx5 _) rfl k_179 k_180 k_181 k_2 k_182 0 rfl (by decide +kernel) (by decide) rfl hl.1 (Nat.le_of_ble_eq_true rfl) d_C_propose_21 (fun v M' H locs hq hP _ _ hS => ?_)
  obtain ⟨rfl, rfl⟩ := hq
  refine W.eq (g2 := F0 m 24 ls [.int (nI (bl9))]) rfl ?_
  refine n_const (k := 4) hx hb d_C_propose_24 (by decide) ?_
  refine n_min (own := R_C) (index := 165) (rest := []) (a := bl9) (b := 4) hx hb (hml.trans hl.1.symm) hown hg k_502 k_342 k_16 k_343 (by decide) (Nat.le_of_ble_eq_true rfl) (by decide) (by decide) (by omega) (by omega) d_C_propose_25 ?_
  refine n_top (y := (nI (m9))) (by rw [hm9]) ?_
  refine lv_istore_n (lv' := [(2, .int (nI (m9))), (0, .ref (ad (0))), (1, .int (nI (a)))]) hx hb d_C_propose_28 rfl hl (by decide) rfl (fun ls hl => ?_)
  refine n_const (k := 1) hx hb d_C_propose_29 (by decide) ?_
  refine lv_istore_n (lv' := [(3, .int (nI (1))), (2, .int (nI (m9))), (0, .ref (ad (0))), (1, .int (nI (a)))]) hx hb d_C_propose_30 rfl hl (by decide) rfl (fun ls hl => ?_)
  exact J31 (_ + 1) (0) M_6 _ _ ls (Nat.lt_succ_self _) (by omega) (fun q hq => absurd hq (Nat.not_lt_zero q)) (hB5) (hF) hP hS (lv_sub hl [2, 3, 1, 0] rfl)
