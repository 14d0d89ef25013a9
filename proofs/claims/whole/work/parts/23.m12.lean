set_option maxHeartbeats 4000000 in
set_option maxRecDepth 100000 in
theorem c_M_expand_1 (l : Launch) (D : va_G) (cI cB : ClassId) (ad : Nat → Nat) (hI : GI 13 ad) (M : PM) (tl : Nat) (tc : Nat → Nat) (hT : RT M tl tc) (h0 : tl = 0) : MM l D cI cB ad y_M_expand b_M_expand 1 (some .int) 1 21 [.ref (ad (0))] M (fun v M' => v = some (.int (nI 0)) ∧ M' = pu M 0 0 (nI 1)) := by
  refine MC.of (by decide) (Nat.le_of_ble_eq_true rfl) ?_
  intro p e s m below meth c ls hx hb hr hml hown hg hlocks hK hN hP hS hl
  have hown : s.vm.findClass R_M = some m.cls := hown
  have hl : lv_has ls 1 [(0, .ref (ad (0)))] := hl
  have htl := hT.1
  refine lv_aload_n hx hb d_M_expand_0 rfl (lv_at hl 0 rfl) ?_
  refine lv_aload_n hx hb d_M_expand_1 rfl (lv_at hl 0 rfl) ?_
  refine g_get (C := R_M) (T := T_M) (N := 19) (ci := 8) (v := .int (M 0 2)) hx hb hg i_M hown hK hP 0 (by decide) rfl rfl 2 (by decide) (hg _ k_795) rfl d_M_expand_2 ?_
  refine n_top (y := (nI (tl))) (hT.2.1) ?_
  refine n_ifn0 (a := tl) (tgt := 12) hx hb d_M_expand_5 (by decide) (by omega) (fun c_5 => ?_) (fun c_5 => ?_)
  · exact absurd c_5 (by omega)
  · refine n_const (k := 1) hx hb d_M_expand_8 (by decide) ?_
    refine lv_goto (tgt := 35) hx hb d_M_expand_9 (by decide) ?_
    refine c_V (own := R_M) (index := 57) (As := [.int (nI (1))]) (rest := []) hx hb hml hown hg hK (fun _ _ _ h => h) (fun _ _ => trivial) (fun _ h => h) hP hS 0 (c_M_refuses l D cI cB ad hI M (1) (by decide)) (by decide) (ci := 8) rfl rfl k_859 k_861 k_p22 k_9 k_862 1 rfl (by decide +kernel) (by decide) rfl hl.1 (Nat.le_of_ble_eq_true rfl) d_M_expand_35 (fun v M_1 H locs hq hP _ _ hS => ?_)
    obtain ⟨rfl, eM_1⟩ := hq
    refine W.eq (g2 := F0 m 38 ls [.int (bI (true))]) rfl ?_
    refine z_eq (t := true) (tgt := 43) hx hb d_M_expand_38 (by decide) (fun h9 => absurd h9 (by decide)) (fun _ => ?_)
    refine n_const (k := 0) hx hb d_M_expand_41 (by decide) ?_
    exact r_i hx hb hr hlocks hP hS (⟨rfl, eM_1⟩) d_M_expand_42

set_option maxHeartbeats 4000000 in
set_option maxRecDepth 100000 in
theorem c_M_expand_2f1 (l : Launch) (D : va_G) (cI cB : ClassId) (ad : Nat → Nat) (hI : GI 13 ad) (M : PM) (n : Nat) (len : Nat → Nat) (ch : Nat → Nat → Nat) (sp : Nat → Option Nat) (hR : RN M n len ch sp) (tl : Nat) (tc : Nat → Nat) (hT : RT M tl tc) (hnb : ¬ brk tl tc) (h0 : 0 < tl) (oc : Option Nat) (hoc : Fst (fun i => tc i = 58) tl oc) (hF : ∀ q, oc = some q → tl ≤ q + 1) : MM l D cI cB ad y_M_expand b_M_expand 1 (some .int) 2 45 [.ref (ad (0))] M (fun v M' => v = some (.int (nI 0)) ∧ SX M M' ∧ M' 0 0 = nI 2) := by
  refine MC.of (by decide) (Nat.le_of_ble_eq_true rfl) ?_
  intro p e s m below meth c ls hx hb hr hml hown hg hlocks hK hN hP hS hl
  have hown : s.vm.findClass R_M = some m.cls := hown
  have hl : lv_has ls 1 [(0, .ref (ad (0)))] := hl
  have hn60 : n ≤ 60 := hR.1
  have htl := hT.1
  refine lv_aload_n hx hb d_M_expand_0 rfl (lv_at hl 0 rfl) ?_
  refine lv_aload_n hx hb d_M_expand_1 rfl (lv_at hl 0 rfl) ?_
  refine g_get (C := R_M) (T := T_M) (N := 19) (ci := 8) (v := .int (M 0 2)) hx hb hg i_M hown hK hP 0 (by decide) rfl rfl 2 (by decide) (hg _ k_795) rfl d_M_expand_2 ?_
  refine n_top (y := (nI (tl))) (hT.2.1) ?_
  refine n_ifn0 (a := tl) (tgt := 12) hx hb d_M_expand_5 (by decide) (by omega) (fun c_5 => ?_) (fun c_5 => ?_)
  · refine lv_aload_n hx hb d_M_expand_12 rfl (lv_at hl 0 rfl) ?_
    refine c_V (own := R_M) (index := 86) (As := []) (rest := [.ref (ad (0))]) hx hb hml hown hg hK (fun _ _ _ h => h) (fun _ _ => trivial) (fun _ h => h) hP hS 0 (c_M_told_f1 l D cI cB ad hI M n len ch sp hR tl tc hT hnb h0 oc hoc hF) (by decide) (ci := 8) rfl rfl k_899 k_901 k_p29 k_9 k_902 0 rfl (by decide +kernel) (by decide) rfl hl.1 (Nat.le_of_ble_eq_true rfl) d_M_expand_13 (fun v M_1 H locs hq hP _ _ hS => ?_)
    obtain ⟨rfl, hSX⟩ := hq
    have hR1 := hR.sx hSX
    refine W.eq (g2 := F0 m 16 ls [.int (bI (false)), .ref (ad (0))]) rfl ?_
    refine z_ne (t := false) (tgt := 23) hx hb d_M_expand_16 (by decide) (fun h9 => absurd h9 (by decide)) (fun _ => ?_)
    refine n_const (k := 2) hx hb d_M_expand_19 (by decide) ?_
    refine lv_goto (tgt := 35) hx hb d_M_expand_20 (by decide) ?_
    refine c_V (own := R_M) (index := 57) (As := [.int (nI (2))]) (rest := []) hx hb hml hown hg hK (fun _ _ _ h => h) (fun _ _ => trivial) (fun _ h => h) hP hS 0 (c_M_refuses l D cI cB ad hI M_1 (2) (by decide)) (by decide) (ci := 8) rfl rfl k_859 k_861 k_p22 k_9 k_862 1 rfl (by decide +kernel) (by decide) rfl hl.1 (Nat.le_of_ble_eq_true rfl) d_M_expand_35 (fun v M_2 H locs hq hP _ _ hS => ?_)
    obtain ⟨rfl, eM_2⟩ := hq
    refine W.eq (g2 := F0 m 38 ls [.int (bI (true))]) rfl ?_
    refine z_eq (t := true) (tgt := 43) hx hb d_M_expand_38 (by decide) (fun h9 => absurd h9 (by decide)) (fun _ => ?_)
    refine n_const (k := 0) hx hb d_M_expand_41 (by decide) ?_
    exact r_i hx hb hr hlocks hP hS (⟨rfl, by rw [eM_2]; exact hSX.tr (SX.thr _ _), by rw [eM_2, pu_s]⟩) d_M_expand_42
  · exact absurd c_5 (by omega)

set_option maxHeartbeats 4000000 in
set_option maxRecDepth 100000 in
theorem c_M_expand_2f2 (l : Launch) (D : va_G) (cI cB : ClassId) (ad : Nat → Nat) (hI : GI 13 ad) (M : PM) (n : Nat) (len : Nat → Nat) (ch : Nat → Nat → Nat) (sp : Nat → Option Nat) (hR : RN M n len ch sp) (tl : Nat) (tc : Nat → Nat) (hT : RT M tl tc) (hnb : ¬ brk tl tc) (h0 : 0 < tl) (c9 : Nat) (hoc : Fst (fun i => tc i = 58) tl (some c9)) (hc9 : c9 + 1 < tl) (hok : Fst (matK len ch sp tc c9) n none) : MM l D cI cB ad y_M_expand b_M_expand 1 (some .int) 2 47 [.ref (ad (0))] M (fun v M' => v = some (.int (nI 0)) ∧ SX M M' ∧ M' 0 0 = nI 2) := by
  refine MC.of (by decide) (Nat.le_of_ble_eq_true rfl) ?_
  intro p e s m below meth c ls hx hb hr hml hown hg hlocks hK hN hP hS hl
  have hown : s.vm.findClass R_M = some m.cls := hown
  have hl : lv_has ls 1 [(0, .ref (ad (0)))] := hl
  have hn60 : n ≤ 60 := hR.1
  have htl := hT.1
  refine lv_aload_n hx hb d_M_expand_0 rfl (lv_at hl 0 rfl) ?_
  refine lv_aload_n hx hb d_M_expand_1 rfl (lv_at hl 0 rfl) ?_
  refine g_get (C := R_M) (T := T_M) (N := 19) (ci := 8) (v := .int (M 0 2)) hx hb hg i_M hown hK hP 0 (by decide) rfl rfl 2 (by decide) (hg _ k_795) rfl d_M_expand_2 ?_
  refine n_top (y := (nI (tl))) (hT.2.1) ?_
  refine n_ifn0 (a := tl) (tgt := 12) hx hb d_M_expand_5 (by decide) (by omega) (fun c_5 => ?_) (fun c_5 => ?_)
  · refine lv_aload_n hx hb d_M_expand_12 rfl (lv_at hl 0 rfl) ?_
    refine c_V (own := R_M) (index := 86) (As := []) (rest := [.ref (ad (0))]) hx hb hml hown hg hK (fun _ _ _ h => h) (fun _ _ => trivial) (fun _ h => h) hP hS 0 (c_M_told_f2 l D cI cB ad hI M n len ch sp hR tl tc hT hnb h0 c9 hoc hc9 hok) (by decide) (ci := 8) rfl rfl k_899 k_901 k_p29 k_9 k_902 0 rfl (by decide +kernel) (by decide) rfl hl.1 (Nat.le_of_ble_eq_true rfl) d_M_expand_13 (fun v M_1 H locs hq hP _ _ hS => ?_)
    obtain ⟨rfl, hSX⟩ := hq
    have hR1 := hR.sx hSX
    refine W.eq (g2 := F0 m 16 ls [.int (bI (false)), .ref (ad (0))]) rfl ?_
    refine z_ne (t := false) (tgt := 23) hx hb d_M_expand_16 (by decide) (fun h9 => absurd h9 (by decide)) (fun _ => ?_)
    refine n_const (k := 2) hx hb d_M_expand_19 (by decide) ?_
    refine lv_goto (tgt := 35) hx hb d_M_expand_20 (by decide) ?_
    refine c_V (own := R_M) (index := 57) (As := [.int (nI (2))]) (rest := []) hx hb hml hown hg hK (fun _ _ _ h => h) (fun _ _ => trivial) (fun _ h => h) hP hS 0 (c_M_refuses l D cI cB ad hI M_1 (2) (by decide)) (by decide) (ci := 8) rfl rfl k_859 k_861 k_p22 k_9 k_862 1 rfl (by decide +kernel) (by decide) rfl hl.1 (Nat.le_of_ble_eq_true rfl) d_M_expand_35 (fun v M_2 H locs hq hP _ _ hS => ?_)
    obtain ⟨rfl, eM_2⟩ := hq
    refine W.eq (g2 := F0 m 38 ls [.int (bI (true))]) rfl ?_
    refine z_eq (t := true) (tgt := 43) hx hb d_M_expand_38 (by decide) (fun h9 => absurd h9 (by decide)) (fun _ => ?_)
    refine n_const (k := 0) hx hb d_M_expand_41 (by decide) ?_
    exact r_i hx hb hr hlocks hP hS (⟨rfl, by rw [eM_2]; exact hSX.tr (SX.thr _ _), by rw [eM_2, pu_s]⟩) d_M_expand_42
  · exact absurd c_5 (by omega)

set_option maxHeartbeats 4000000 in
set_option maxRecDepth 100000 in
theorem c_M_expand_3a (l : Launch) (D : va_G) (cI cB : ClassId) (ad : Nat → Nat) (hI : GI 13 ad) (M : PM) (n : Nat) (len : Nat → Nat) (ch : Nat → Nat → Nat) (sp : Nat → Option Nat) (hR : RN M n len ch sp) (tl : Nat) (tc : Nat → Nat) (hT : RT M tl tc) (hbr : brk tl tc) (o : Option Nat) (ho : Fst (sameT len ch (tl - 2) (scBr tc)) n o) (htm : 24 < tl - 2 ∨ (o = none ∧ n = 60)) : MM l D cI cB ad y_M_expand b_M_expand 1 (some .int) 3 65 [.ref (ad (0))] M (fun v M' => v = some (.int (nI 0)) ∧ SX M M' ∧ M' 0 0 = nI 3) := by
  refine MC.of (by decide) (Nat.le_of_ble_eq_true rfl) ?_
  intro p e s m below meth c ls hx hb hr hml hown hg hlocks hK hN hP hS hl
  have hown : s.vm.findClass R_M = some m.cls := hown
  have hl : lv_has ls 1 [(0, .ref (ad (0)))] := hl
  have hn60 : n ≤ 60 := hR.1
  have htl := hT.1
  have h0 : 0 < tl := by have := hbr.1; omega
  refine lv_aload_n hx hb d_M_expand_0 rfl (lv_at hl 0 rfl) ?_
  refine lv_aload_n hx hb d_M_expand_1 rfl (lv_at hl 0 rfl) ?_
  refine g_get (C := R_M) (T := T_M) (N := 19) (ci := 8) (v := .int (M 0 2)) hx hb hg i_M hown hK hP 0 (by decide) rfl rfl 2 (by decide) (hg _ k_795) rfl d_M_expand_2 ?_
  refine n_top (y := (nI (tl))) (hT.2.1) ?_
  refine n_ifn0 (a := tl) (tgt := 12) hx hb d_M_expand_5 (by decide) (by omega) (fun c_5 => ?_) (fun c_5 => ?_)
  · refine lv_aload_n hx hb d_M_expand_12 rfl (lv_at hl 0 rfl) ?_
    refine c_V (own := R_M) (index := 86) (As := []) (rest := [.ref (ad (0))]) hx hb hml hown hg hK (fun _ _ _ h => h) (fun _ _ => trivial) (fun _ h => h) hP hS 0 (c_M_told_a l D cI cB ad hI M n len ch sp hR tl tc hT hbr) (by decide) (ci := 8) rfl rfl k_899 k_901 k_p29 k_9 k_902 0 rfl (by decide +kernel) (by decide) rfl hl.1 (Nat.le_of_ble_eq_true rfl) d_M_expand_13 (fun v M_1 H locs hq hP _ _ hS => ?_)
    obtain ⟨rfl, hSX, hMK⟩ := hq
    have hR1 := hR.sx hSX
    refine W.eq (g2 := F0 m 16 ls [.int (bI (true)), .ref (ad (0))]) rfl ?_
    refine z_ne (t := true) (tgt := 23) hx hb d_M_expand_16 (by decide) (fun _ => ?_) (fun h9 => absurd h9 (by decide))
    refine lv_aload_n hx hb d_M_expand_23 rfl (lv_at hl 0 rfl) ?_
    refine c_V (own := R_M) (index := 79) (As := []) (rest := [.ref (ad (0))]) hx hb hml hown hg hK (fun _ _ _ h => h) (fun _ _ => trivial) (fun _ h => h) hP hS 0 (c_M_isTooMuch l D cI cB ad hI M_1 n len ch sp hR1 (tl - 2) (scBr tc) hMK (o) ho true ⟨fun _ => htm, fun _ => rfl⟩) (by decide) (ci := 8) rfl rfl k_879 k_881 k_p25 k_9 k_882 0 rfl (by decide +kernel) (by decide) rfl hl.1 (Nat.le_of_ble_eq_true rfl) d_M_expand_24 (fun v M' H locs hq hP _ _ hS => ?_)
    obtain ⟨rfl, rfl⟩ := hq
    refine W.eq (g2 := F0 m 27 ls [.int (bI (true)), .ref (ad (0))]) rfl ?_
    refine z_eq (t := true) (tgt := 34) hx hb d_M_expand_27 (by decide) (fun h9 => absurd h9 (by decide)) (fun _ => ?_)
    refine n_const (k := 3) hx hb d_M_expand_30 (by decide) ?_
    refine lv_goto (tgt := 35) hx hb d_M_expand_31 (by decide) ?_
    refine c_V (own := R_M) (index := 57) (As := [.int (nI (3))]) (rest := []) hx hb hml hown hg hK (fun _ _ _ h => h) (fun _ _ => trivial) (fun _ h => h) hP hS 0 (c_M_refuses l D cI cB ad hI M_1 (3) (by decide)) (by decide) (ci := 8) rfl rfl k_859 k_861 k_p22 k_9 k_862 1 rfl (by decide +kernel) (by decide) rfl hl.1 (Nat.le_of_ble_eq_true rfl) d_M_expand_35 (fun v M_2 H locs hq hP _ _ hS => ?_)
    obtain ⟨rfl, eM_2⟩ := hq
    have hSX := hSX.tr (SX.thr M_1 (nI 3))
    rw [← eM_2] at hSX
    have hMK := hMK.thr (nI 3)
    rw [← eM_2] at hMK
    refine W.eq (g2 := F0 m 38 ls [.int (bI (true))]) rfl ?_
    refine z_eq (t := true) (tgt := 43) hx hb d_M_expand_38 (by decide) (fun h9 => absurd h9 (by decide)) (fun _ => ?_)
    refine n_const (k := 0) hx hb d_M_expand_41 (by decide) ?_
    exact r_i hx hb hr hlocks hP hS (⟨rfl, hSX, by rw [eM_2, pu_s]⟩) d_M_expand_42
  · exact absurd c_5 (by omega)

set_option maxHeartbeats 4000000 in
set_option maxRecDepth 100000 in
theorem c_M_expand_oa (l : Launch) (D : va_G) (cI cB : ClassId) (ad : Nat → Nat) (hI : GI 13 ad) (M : PM) (n : Nat) (len : Nat → Nat) (ch : Nat → Nat → Nat) (sp : Nat → Option Nat) (hR : RN M n len ch sp) (tl : Nat) (tc : Nat → Nat) (hT : RT M tl tc) (hbr : brk tl tc) (k8 : Nat) (ho : Fst (sameT len ch (tl - 2) (scBr tc)) n (some k8)) (h24 : tl - 2 ≤ 24) : MM l D cI cB ad y_M_expand b_M_expand 1 (some .int) 3 67 [.ref (ad (0))] M (fun v M' => v = some (.int (nI k8)) ∧ TX M M') := by
  refine MC.of (by decide) (Nat.le_of_ble_eq_true rfl) ?_
  intro p e s m below meth c ls hx hb hr hml hown hg hlocks hK hN hP hS hl
  have hown : s.vm.findClass R_M = some m.cls := hown
  have hl : lv_has ls 1 [(0, .ref (ad (0)))] := hl
  have hn60 : n ≤ 60 := hR.1
  have htl := hT.1
  have h0 : 0 < tl := by have := hbr.1; omega
  refine lv_aload_n hx hb d_M_expand_0 rfl (lv_at hl 0 rfl) ?_
  refine lv_aload_n hx hb d_M_expand_1 rfl (lv_at hl 0 rfl) ?_
  refine g_get (C := R_M) (T := T_M) (N := 19) (ci := 8) (v := .int (M 0 2)) hx hb hg i_M hown hK hP 0 (by decide) rfl rfl 2 (by decide) (hg _ k_795) rfl d_M_expand_2 ?_
  refine n_top (y := (nI (tl))) (hT.2.1) ?_
  refine n_ifn0 (a := tl) (tgt := 12) hx hb d_M_expand_5 (by decide) (by omega) (fun c_5 => ?_) (fun c_5 => ?_)
  · refine lv_aload_n hx hb d_M_expand_12 rfl (lv_at hl 0 rfl) ?_
    refine c_V (own := R_M) (index := 86) (As := []) (rest := [.ref (ad (0))]) hx hb hml hown hg hK (fun _ _ _ h => h) (fun _ _ => trivial) (fun _ h => h) hP hS 0 (c_M_told_a l D cI cB ad hI M n len ch sp hR tl tc hT hbr) (by decide) (ci := 8) rfl rfl k_899 k_901 k_p29 k_9 k_902 0 rfl (by decide +kernel) (by decide) rfl hl.1 (Nat.le_of_ble_eq_true rfl) d_M_expand_13 (fun v M_1 H locs hq hP _ _ hS => ?_)
    obtain ⟨rfl, hSX, hMK⟩ := hq
    have hR1 := hR.sx hSX
    refine W.eq (g2 := F0 m 16 ls [.int (bI (true)), .ref (ad (0))]) rfl ?_
    refine z_ne (t := true) (tgt := 23) hx hb d_M_expand_16 (by decide) (fun _ => ?_) (fun h9 => absurd h9 (by decide))
    refine lv_aload_n hx hb d_M_expand_23 rfl (lv_at hl 0 rfl) ?_
    refine c_V (own := R_M) (index := 79) (As := []) (rest := [.ref (ad (0))]) hx hb hml hown hg hK (fun _ _ _ h => h) (fun _ _ => trivial) (fun _ h => h) hP hS 0 (c_M_isTooMuch l D cI cB ad hI M_1 n len ch sp hR1 (tl - 2) (scBr tc) hMK (some k8) ho false ⟨fun h => (by cases h), fun h => by rcases h with h | h; omega; cases h.1⟩) (by decide) (ci := 8) rfl rfl k_879 k_881 k_p25 k_9 k_882 0 rfl (by decide +kernel) (by decide) rfl hl.1 (Nat.le_of_ble_eq_true rfl) d_M_expand_24 (fun v M' H locs hq hP _ _ hS => ?_)
    obtain ⟨rfl, rfl⟩ := hq
    refine W.eq (g2 := F0 m 27 ls [.int (bI (false)), .ref (ad (0))]) rfl ?_
    refine z_eq (t := false) (tgt := 34) hx hb d_M_expand_27 (by decide) (fun _ => ?_) (fun h9 => absurd h9 (by decide))
    refine n_const (k := 0) hx hb d_M_expand_34 (by decide) ?_
    refine c_V (own := R_M) (index := 57) (As := [.int (nI (0))]) (rest := []) hx hb hml hown hg hK (fun _ _ _ h => h) (fun _ _ => trivial) (fun _ h => h) hP hS 0 (c_M_refuses l D cI cB ad hI M_1 (0) (by decide)) (by decide) (ci := 8) rfl rfl k_859 k_861 k_p22 k_9 k_862 1 rfl (by decide +kernel) (by decide) rfl hl.1 (Nat.le_of_ble_eq_true rfl) d_M_expand_35 (fun v M_2 H locs hq hP _ _ hS => ?_)
    obtain ⟨rfl, eM_2⟩ := hq
    have hR1 := hR1.sx (SX.thr M_1 (nI 0))
    rw [← eM_2] at hR1
    have hSX := hSX.tr (SX.thr M_1 (nI 0))
    rw [← eM_2] at hSX
    have hMK := hMK.thr (nI 0)
    rw [← eM_2] at hMK
    refine W.eq (g2 := F0 m 38 ls [.int (bI (false))]) rfl ?_
    refine z_eq (t := false) (tgt := 43) hx hb d_M_expand_38 (by decide) (fun _ => ?_) (fun h9 => absurd h9 (by decide))
    have hTX : SX M M_2 ∧ M_2 0 0 = nI 0 := ⟨hSX, by rw [eM_2, pu_s]⟩
    refine lv_aload_n hx hb d_M_expand_43 rfl (lv_at hl 0 rfl) ?_
    refine n_const (k := 0) hx hb d_M_expand_44 (by decide) ?_
    refine g_put (C := R_M) (T := T_M) (N := 19) (ci := 8) (v := (nI (0))) hx hb hg i_M ty_M t_M_ok n_M hown hK hI (fun _ h => h) hP hS 0 (by decide) rfl rfl 2 (by decide) (hg _ k_795) rfl (by decide +kernel) (Nat.le_of_ble_eq_true rfl) rfl d_M_expand_45 (fun H locs hP hS => ?_)
    obtain ⟨M_3, eM_3⟩ : ∃ z : PM, z = (pu M_2 0 2 ((nI (0)))) := ⟨_, rfl⟩
    rw [← eM_3] at hP
    have hR1 : RN M_3 n len ch sp := by rw [eM_3]; exact hR1.tp _
    have hMK : MK M_3 (tl - 2) (scBr tc) := by rw [eM_3]; exact hMK.tp _
    have hTX9 : TX M M_3 := ⟨_, hTX.1, hTX.2, eM_3⟩
    refine lv_aload_n hx hb d_M_expand_48 rfl (lv_at hl 0 rfl) ?_
    refine c_V (own := R_M) (index := 83) (As := []) (rest := []) hx hb hml hown hg hK (fun _ _ _ h => h) (fun _ _ => trivial) (fun _ h => h) hP hS 0 (c_M_comes_old l D cI cB ad hI M_3 n len ch sp hR1 (tl - 2) (scBr tc) hMK k8 ho) (by decide) (ci := 8) rfl rfl k_891 k_893 k_p28 k_9 k_894 0 rfl (by decide +kernel) (by decide) rfl hl.1 (Nat.le_of_ble_eq_true rfl) d_M_expand_49 (fun v M' H locs hq hP _ _ hS => ?_)
    obtain ⟨rfl, rfl⟩ := hq
    refine W.eq (g2 := F0 m 52 ls [.int (nI (k8))]) rfl ?_
    exact r_i hx hb hr hlocks hP hS (⟨rfl, hTX9⟩) d_M_expand_52
  · exact absurd c_5 (by omega)

set_option maxHeartbeats 4000000 in
set_option maxRecDepth 100000 in
theorem c_M_expand_na (l : Launch) (D : va_G) (cI cB : ClassId) (ad : Nat → Nat) (hI : GI 13 ad) (M : PM) (n : Nat) (len : Nat → Nat) (ch : Nat → Nat → Nat) (sp : Nat → Option Nat) (hR : RN M n len ch sp) (tl : Nat) (tc : Nat → Nat) (hT : RT M tl tc) (hbr : brk tl tc) (ho : Fst (sameT len ch (tl - 2) (scBr tc)) n none) (h1 : 1 ≤ tl - 2) (h24 : tl - 2 ≤ 24) (hn9 : n < 60) : MM l D cI cB ad y_M_expand b_M_expand 1 (some .int) 3 67 [.ref (ad (0))] M (fun v M' => v = some (.int (nI n)) ∧ ∃ M0, TX M M0 ∧ CMd M0 M' n (tl - 2) (scBr tc)) := by
  refine MC.of (by decide) (Nat.le_of_ble_eq_true rfl) ?_
  intro p e s m below meth c ls hx hb hr hml hown hg hlocks hK hN hP hS hl
  have hown : s.vm.findClass R_M = some m.cls := hown
  have hl : lv_has ls 1 [(0, .ref (ad (0)))] := hl
  have hn60 : n ≤ 60 := hR.1
  have htl := hT.1
  have h0 : 0 < tl := by have := hbr.1; omega
  refine lv_aload_n hx hb d_M_expand_0 rfl (lv_at hl 0 rfl) ?_
  refine lv_aload_n hx hb d_M_expand_1 rfl (lv_at hl 0 rfl) ?_
  refine g_get (C := R_M) (T := T_M) (N := 19) (ci := 8) (v := .int (M 0 2)) hx hb hg i_M hown hK hP 0 (by decide) rfl rfl 2 (by decide) (hg _ k_795) rfl d_M_expand_2 ?_
  refine n_top (y := (nI (tl))) (hT.2.1) ?_
  refine n_ifn0 (a := tl) (tgt := 12) hx hb d_M_expand_5 (by decide) (by omega) (fun c_5 => ?_) (fun c_5 => ?_)
  · refine lv_aload_n hx hb d_M_expand_12 rfl (lv_at hl 0 rfl) ?_
    refine c_V (own := R_M) (index := 86) (As := []) (rest := [.ref (ad (0))]) hx hb hml hown hg hK (fun _ _ _ h => h) (fun _ _ => trivial) (fun _ h => h) hP hS 0 (c_M_told_a l D cI cB ad hI M n len ch sp hR tl tc hT hbr) (by decide) (ci := 8) rfl rfl k_899 k_901 k_p29 k_9 k_902 0 rfl (by decide +kernel) (by decide) rfl hl.1 (Nat.le_of_ble_eq_true rfl) d_M_expand_13 (fun v M_1 H locs hq hP _ _ hS => ?_)
    obtain ⟨rfl, hSX, hMK⟩ := hq
    have hR1 := hR.sx hSX
    refine W.eq (g2 := F0 m 16 ls [.int (bI (true)), .ref (ad (0))]) rfl ?_
    refine z_ne (t := true) (tgt := 23) hx hb d_M_expand_16 (by decide) (fun _ => ?_) (fun h9 => absurd h9 (by decide))
    refine lv_aload_n hx hb d_M_expand_23 rfl (lv_at hl 0 rfl) ?_
    refine c_V (own := R_M) (index := 79) (As := []) (rest := [.ref (ad (0))]) hx hb hml hown hg hK (fun _ _ _ h => h) (fun _ _ => trivial) (fun _ h => h) hP hS 0 (c_M_isTooMuch l D cI cB ad hI M_1 n len ch sp hR1 (tl - 2) (scBr tc) hMK (none) ho false ⟨fun h => (by cases h), fun h => by omega⟩) (by decide) (ci := 8) rfl rfl k_879 k_881 k_p25 k_9 k_882 0 rfl (by decide +kernel) (by decide) rfl hl.1 (Nat.le_of_ble_eq_true rfl) d_M_expand_24 (fun v M' H locs hq hP _ _ hS => ?_)
    obtain ⟨rfl, rfl⟩ := hq
    refine W.eq (g2 := F0 m 27 ls [.int (bI (false)), .ref (ad (0))]) rfl ?_
    refine z_eq (t := false) (tgt := 34) hx hb d_M_expand_27 (by decide) (fun _ => ?_) (fun h9 => absurd h9 (by decide))
    refine n_const (k := 0) hx hb d_M_expand_34 (by decide) ?_
    refine c_V (own := R_M) (index := 57) (As := [.int (nI (0))]) (rest := []) hx hb hml hown hg hK (fun _ _ _ h => h) (fun _ _ => trivial) (fun _ h => h) hP hS 0 (c_M_refuses l D cI cB ad hI M_1 (0) (by decide)) (by decide) (ci := 8) rfl rfl k_859 k_861 k_p22 k_9 k_862 1 rfl (by decide +kernel) (by decide) rfl hl.1 (Nat.le_of_ble_eq_true rfl) d_M_expand_35 (fun v M_2 H locs hq hP _ _ hS => ?_)
    obtain ⟨rfl, eM_2⟩ := hq
    have hR1 := hR1.sx (SX.thr M_1 (nI 0))
    rw [← eM_2] at hR1
    have hSX := hSX.tr (SX.thr M_1 (nI 0))
    rw [← eM_2] at hSX
    have hMK := hMK.thr (nI 0)
    rw [← eM_2] at hMK
    refine W.eq (g2 := F0 m 38 ls [.int (bI (false))]) rfl ?_
    refine z_eq (t := false) (tgt := 43) hx hb d_M_expand_38 (by decide) (fun _ => ?_) (fun h9 => absurd h9 (by decide))
    have hTX : SX M M_2 ∧ M_2 0 0 = nI 0 := ⟨hSX, by rw [eM_2, pu_s]⟩
    refine lv_aload_n hx hb d_M_expand_43 rfl (lv_at hl 0 rfl) ?_
    refine n_const (k := 0) hx hb d_M_expand_44 (by decide) ?_
    refine g_put (C := R_M) (T := T_M) (N := 19) (ci := 8) (v := (nI (0))) hx hb hg i_M ty_M t_M_ok n_M hown hK hI (fun _ h => h) hP hS 0 (by decide) rfl rfl 2 (by decide) (hg _ k_795) rfl (by decide +kernel) (Nat.le_of_ble_eq_true rfl) rfl d_M_expand_45 (fun H locs hP hS => ?_)
    obtain ⟨M_3, eM_3⟩ : ∃ z : PM, z = (pu M_2 0 2 ((nI (0)))) := ⟨_, rfl⟩
    rw [← eM_3] at hP
    have hR1 : RN M_3 n len ch sp := by rw [eM_3]; exact hR1.tp _
    have hMK : MK M_3 (tl - 2) (scBr tc) := by rw [eM_3]; exact hMK.tp _
    have hTX9 : TX M M_3 := ⟨_, hTX.1, hTX.2, eM_3⟩
    refine lv_aload_n hx hb d_M_expand_48 rfl (lv_at hl 0 rfl) ?_
    refine c_V (own := R_M) (index := 83) (As := []) (rest := []) hx hb hml hown hg hK (fun _ _ _ h => h) (fun _ _ => trivial) (fun _ h => h) hP hS 0 (c_M_comes_new l D cI cB ad hI M_3 n len ch sp hR1 (tl - 2) (scBr tc) hMK ho hn9 h1 h24) (by decide) (ci := 8) rfl rfl k_891 k_893 k_p28 k_9 k_894 0 rfl (by decide +kernel) (by decide) rfl hl.1 (Nat.le_of_ble_eq_true rfl) d_M_expand_49 (fun v M_4 H locs hq hP _ _ hS => ?_)
    obtain ⟨rfl, eM_4⟩ := hq
    refine W.eq (g2 := F0 m 52 ls [.int (nI (n))]) rfl ?_
    exact r_i hx hb hr hlocks hP hS (⟨rfl, _, hTX9, eM_4⟩) d_M_expand_52
  · exact absurd c_5 (by omega)

set_option maxHeartbeats 4000000 in
set_option maxRecDepth 100000 in
theorem c_M_expand_3b (l : Launch) (D : va_G) (cI cB : ClassId) (ad : Nat → Nat) (hI : GI 13 ad) (M : PM) (n : Nat) (len : Nat → Nat) (ch : Nat → Nat → Nat) (sp : Nat → Option Nat) (hR : RN M n len ch sp) (tl : Nat) (tc : Nat → Nat) (hT : RT M tl tc) (hnb : ¬ brk tl tc) (h0 : 0 < tl) (c9 : Nat) (hoc : Fst (fun i => tc i = 58) tl (some c9)) (hc9 : c9 + 1 < tl) (k9 s9 : Nat) (hok : Fst (matK len ch sp tc c9) n (some k9)) (hs9 : sp k9 = some s9) (o : Option Nat) (ho : Fst (sameT len ch (len s9 + (tl - (c9 + 1))) (scCo len ch tc s9 c9)) n o) (htm : 24 < len s9 + (tl - (c9 + 1)) ∨ (o = none ∧ n = 60)) : MM l D cI cB ad y_M_expand b_M_expand 1 (some .int) 3 65 [.ref (ad (0))] M (fun v M' => v = some (.int (nI 0)) ∧ SX M M' ∧ M' 0 0 = nI 3) := by
  refine MC.of (by decide) (Nat.le_of_ble_eq_true rfl) ?_
  intro p e s m below meth c ls hx hb hr hml hown hg hlocks hK hN hP hS hl
  have hown : s.vm.findClass R_M = some m.cls := hown
  have hl : lv_has ls 1 [(0, .ref (ad (0)))] := hl
  have hn60 : n ≤ 60 := hR.1
  have htl := hT.1
  have hs9n : s9 < n := hR.2.2.2.2.1 k9 s9 hok.1 hs9
  have hls := hR.2.2.1 s9 hs9n
  refine lv_aload_n hx hb d_M_expand_0 rfl (lv_at hl 0 rfl) ?_
  refine lv_aload_n hx hb d_M_expand_1 rfl (lv_at hl 0 rfl) ?_
  refine g_get (C := R_M) (T := T_M) (N := 19) (ci := 8) (v := .int (M 0 2)) hx hb hg i_M hown hK hP 0 (by decide) rfl rfl 2 (by decide) (hg _ k_795) rfl d_M_expand_2 ?_
  refine n_top (y := (nI (tl))) (hT.2.1) ?_
  refine n_ifn0 (a := tl) (tgt := 12) hx hb d_M_expand_5 (by decide) (by omega) (fun c_5 => ?_) (fun c_5 => ?_)
  · refine lv_aload_n hx hb d_M_expand_12 rfl (lv_at hl 0 rfl) ?_
    refine c_V (own := R_M) (index := 86) (As := []) (rest := [.ref (ad (0))]) hx hb hml hown hg hK (fun _ _ _ h => h) (fun _ _ => trivial) (fun _ h => h) hP hS 0 (c_M_told_b l D cI cB ad hI M n len ch sp hR tl tc hT hnb h0 c9 hoc hc9 k9 s9 hok hs9) (by decide) (ci := 8) rfl rfl k_899 k_901 k_p29 k_9 k_902 0 rfl (by decide +kernel) (by decide) rfl hl.1 (Nat.le_of_ble_eq_true rfl) d_M_expand_13 (fun v M_1 H locs hq hP _ _ hS => ?_)
    obtain ⟨rfl, hSX, hMK⟩ := hq
    have hR1 := hR.sx hSX
    refine W.eq (g2 := F0 m 16 ls [.int (bI (true)), .ref (ad (0))]) rfl ?_
    refine z_ne (t := true) (tgt := 23) hx hb d_M_expand_16 (by decide) (fun _ => ?_) (fun h9 => absurd h9 (by decide))
    refine lv_aload_n hx hb d_M_expand_23 rfl (lv_at hl 0 rfl) ?_
    refine c_V (own := R_M) (index := 79) (As := []) (rest := [.ref (ad (0))]) hx hb hml hown hg hK (fun _ _ _ h => h) (fun _ _ => trivial) (fun _ h => h) hP hS 0 (c_M_isTooMuch l D cI cB ad hI M_1 n len ch sp hR1 (len s9 + (tl - (c9 + 1))) (scCo len ch tc s9 c9) hMK (o) ho true ⟨fun _ => htm, fun _ => rfl⟩) (by decide) (ci := 8) rfl rfl k_879 k_881 k_p25 k_9 k_882 0 rfl (by decide +kernel) (by decide) rfl hl.1 (Nat.le_of_ble_eq_true rfl) d_M_expand_24 (fun v M' H locs hq hP _ _ hS => ?_)
    obtain ⟨rfl, rfl⟩ := hq
    refine W.eq (g2 := F0 m 27 ls [.int (bI (true)), .ref (ad (0))]) rfl ?_
    refine z_eq (t := true) (tgt := 34) hx hb d_M_expand_27 (by decide) (fun h9 => absurd h9 (by decide)) (fun _ => ?_)
    refine n_const (k := 3) hx hb d_M_expand_30 (by decide) ?_
    refine lv_goto (tgt := 35) hx hb d_M_expand_31 (by decide) ?_
    refine c_V (own := R_M) (index := 57) (As := [.int (nI (3))]) (rest := []) hx hb hml hown hg hK (fun _ _ _ h => h) (fun _ _ => trivial) (fun _ h => h) hP hS 0 (c_M_refuses l D cI cB ad hI M_1 (3) (by decide)) (by decide) (ci := 8) rfl rfl k_859 k_861 k_p22 k_9 k_862 1 rfl (by decide +kernel) (by decide) rfl hl.1 (Nat.le_of_ble_eq_true rfl) d_M_expand_35 (fun v M_2 H locs hq hP _ _ hS => ?_)
    obtain ⟨rfl, eM_2⟩ := hq
    have hSX := hSX.tr (SX.thr M_1 (nI 3))
    rw [← eM_2] at hSX
    have hMK := hMK.thr (nI 3)
    rw [← eM_2] at hMK
    refine W.eq (g2 := F0 m 38 ls [.int (bI (true))]) rfl ?_
    refine z_eq (t := true) (tgt := 43) hx hb d_M_expand_38 (by decide) (fun h9 => absurd h9 (by decide)) (fun _ => ?_)
    refine n_const (k := 0) hx hb d_M_expand_41 (by decide) ?_
    exact r_i hx hb hr hlocks hP hS (⟨rfl, hSX, by rw [eM_2, pu_s]⟩) d_M_expand_42
  · exact absurd c_5 (by omega)

set_option maxHeartbeats 4000000 in
set_option maxRecDepth 100000 in
theorem c_M_expand_ob (l : Launch) (D : va_G) (cI cB : ClassId) (ad : Nat → Nat) (hI : GI 13 ad) (M : PM) (n : Nat) (len : Nat → Nat) (ch : Nat → Nat → Nat) (sp : Nat → Option Nat) (hR : RN M n len ch sp) (tl : Nat) (tc : Nat → Nat) (hT : RT M tl tc) (hnb : ¬ brk tl tc) (h0 : 0 < tl) (c9 : Nat) (hoc : Fst (fun i => tc i = 58) tl (some c9)) (hc9 : c9 + 1 < tl) (k9 s9 : Nat) (hok : Fst (matK len ch sp tc c9) n (some k9)) (hs9 : sp k9 = some s9) (k8 : Nat) (ho : Fst (sameT len ch (len s9 + (tl - (c9 + 1))) (scCo len ch tc s9 c9)) n (some k8)) (h24 : len s9 + (tl - (c9 + 1)) ≤ 24) : MM l D cI cB ad y_M_expand b_M_expand 1 (some .int) 3 67 [.ref (ad (0))] M (fun v M' => v = some (.int (nI k8)) ∧ TX M M') := by
  refine MC.of (by decide) (Nat.le_of_ble_eq_true rfl) ?_
  intro p e s m below meth c ls hx hb hr hml hown hg hlocks hK hN hP hS hl
  have hown : s.vm.findClass R_M = some m.cls := hown
  have hl : lv_has ls 1 [(0, .ref (ad (0)))] := hl
  have hn60 : n ≤ 60 := hR.1
  have htl := hT.1
  have hs9n : s9 < n := hR.2.2.2.2.1 k9 s9 hok.1 hs9
  have hls := hR.2.2.1 s9 hs9n
  refine lv_aload_n hx hb d_M_expand_0 rfl (lv_at hl 0 rfl) ?_
  refine lv_aload_n hx hb d_M_expand_1 rfl (lv_at hl 0 rfl) ?_
  refine g_get (C := R_M) (T := T_M) (N := 19) (ci := 8) (v := .int (M 0 2)) hx hb hg i_M hown hK hP 0 (by decide) rfl rfl 2 (by decide) (hg _ k_795) rfl d_M_expand_2 ?_
  refine n_top (y := (nI (tl))) (hT.2.1) ?_
  refine n_ifn0 (a := tl) (tgt := 12) hx hb d_M_expand_5 (by decide) (by omega) (fun c_5 => ?_) (fun c_5 => ?_)
  · refine lv_aload_n hx hb d_M_expand_12 rfl (lv_at hl 0 rfl) ?_
    refine c_V (own := R_M) (index := 86) (As := []) (rest := [.ref (ad (0))]) hx hb hml hown hg hK (fun _ _ _ h => h) (fun _ _ => trivial) (fun _ h => h) hP hS 0 (c_M_told_b l D cI cB ad hI M n len ch sp hR tl tc hT hnb h0 c9 hoc hc9 k9 s9 hok hs9) (by decide) (ci := 8) rfl rfl k_899 k_901 k_p29 k_9 k_902 0 rfl (by decide +kernel) (by decide) rfl hl.1 (Nat.le_of_ble_eq_true rfl) d_M_expand_13 (fun v M_1 H locs hq hP _ _ hS => ?_)
    obtain ⟨rfl, hSX, hMK⟩ := hq
    have hR1 := hR.sx hSX
    refine W.eq (g2 := F0 m 16 ls [.int (bI (true)), .ref (ad (0))]) rfl ?_
    refine z_ne (t := true) (tgt := 23) hx hb d_M_expand_16 (by decide) (fun _ => ?_) (fun h9 => absurd h9 (by decide))
    refine lv_aload_n hx hb d_M_expand_23 rfl (lv_at hl 0 rfl) ?_
    refine c_V (own := R_M) (index := 79) (As := []) (rest := [.ref (ad (0))]) hx hb hml hown hg hK (fun _ _ _ h => h) (fun _ _ => trivial) (fun _ h => h) hP hS 0 (c_M_isTooMuch l D cI cB ad hI M_1 n len ch sp hR1 (len s9 + (tl - (c9 + 1))) (scCo len ch tc s9 c9) hMK (some k8) ho false ⟨fun h => (by cases h), fun h => by rcases h with h | h; omega; cases h.1⟩) (by decide) (ci := 8) rfl rfl k_879 k_881 k_p25 k_9 k_882 0 rfl (by decide +kernel) (by decide) rfl hl.1 (Nat.le_of_ble_eq_true rfl) d_M_expand_24 (fun v M' H locs hq hP _ _ hS => ?_)
    obtain ⟨rfl, rfl⟩ := hq
    refine W.eq (g2 := F0 m 27 ls [.int (bI (false)), .ref (ad (0))]) rfl ?_
    refine z_eq (t := false) (tgt := 34) hx hb d_M_expand_27 (by decide) (fun _ => ?_) (fun h9 => absurd h9 (by decide))
    refine n_const (k := 0) hx hb d_M_expand_34 (by decide) ?_
    refine c_V (own := R_M) (index := 57) (As := [.int (nI (0))]) (rest := []) hx hb hml hown hg hK (fun _ _ _ h => h) (fun _ _ => trivial) (fun _ h => h) hP hS 0 (c_M_refuses l D cI cB ad hI M_1 (0) (by decide)) (by decide) (ci := 8) rfl rfl k_859 k_861 k_p22 k_9 k_862 1 rfl (by decide +kernel) (by decide) rfl hl.1 (Nat.le_of_ble_eq_true rfl) d_M_expand_35 (fun v M_2 H locs hq hP _ _ hS => ?_)
    obtain ⟨rfl, eM_2⟩ := hq
    have hR1 := hR1.sx (SX.thr M_1 (nI 0))
    rw [← eM_2] at hR1
    have hSX := hSX.tr (SX.thr M_1 (nI 0))
    rw [← eM_2] at hSX
    have hMK := hMK.thr (nI 0)
    rw [← eM_2] at hMK
    refine W.eq (g2 := F0 m 38 ls [.int (bI (false))]) rfl ?_
    refine z_eq (t := false) (tgt := 43) hx hb d_M_expand_38 (by decide) (fun _ => ?_) (fun h9 => absurd h9 (by decide))
    have hTX : SX M M_2 ∧ M_2 0 0 = nI 0 := ⟨hSX, by rw [eM_2, pu_s]⟩
    refine lv_aload_n hx hb d_M_expand_43 rfl (lv_at hl 0 rfl) ?_
    refine n_const (k := 0) hx hb d_M_expand_44 (by decide) ?_
    refine g_put (C := R_M) (T := T_M) (N := 19) (ci := 8) (v := (nI (0))) hx hb hg i_M ty_M t_M_ok n_M hown hK hI (fun _ h => h) hP hS 0 (by decide) rfl rfl 2 (by decide) (hg _ k_795) rfl (by decide +kernel) (Nat.le_of_ble_eq_true rfl) rfl d_M_expand_45 (fun H locs hP hS => ?_)
    obtain ⟨M_3, eM_3⟩ : ∃ z : PM, z = (pu M_2 0 2 ((nI (0)))) := ⟨_, rfl⟩
    rw [← eM_3] at hP
    have hR1 : RN M_3 n len ch sp := by rw [eM_3]; exact hR1.tp _
    have hMK : MK M_3 (len s9 + (tl - (c9 + 1))) (scCo len ch tc s9 c9) := by rw [eM_3]; exact hMK.tp _
    have hTX9 : TX M M_3 := ⟨_, hTX.1, hTX.2, eM_3⟩
    refine lv_aload_n hx hb d_M_expand_48 rfl (lv_at hl 0 rfl) ?_
    refine c_V (own := R_M) (index := 83) (As := []) (rest := []) hx hb hml hown hg hK (fun _ _ _ h => h) (fun _ _ => trivial) (fun _ h => h) hP hS 0 (c_M_comes_old l D cI cB ad hI M_3 n len ch sp hR1 (len s9 + (tl - (c9 + 1))) (scCo len ch tc s9 c9) hMK k8 ho) (by decide) (ci := 8) rfl rfl k_891 k_893 k_p28 k_9 k_894 0 rfl (by decide +kernel) (by decide) rfl hl.1 (Nat.le_of_ble_eq_true rfl) d_M_expand_49 (fun v M' H locs hq hP _ _ hS => ?_)
    obtain ⟨rfl, rfl⟩ := hq
    refine W.eq (g2 := F0 m 52 ls [.int (nI (k8))]) rfl ?_
    exact r_i hx hb hr hlocks hP hS (⟨rfl, hTX9⟩) d_M_expand_52
  · exact absurd c_5 (by omega)

set_option maxHeartbeats 4000000 in
set_option maxRecDepth 100000 in
theorem c_M_expand_nb (l : Launch) (D : va_G) (cI cB : ClassId) (ad : Nat → Nat) (hI : GI 13 ad) (M : PM) (n : Nat) (len : Nat → Nat) (ch : Nat → Nat → Nat) (sp : Nat → Option Nat) (hR : RN M n len ch sp) (tl : Nat) (tc : Nat → Nat) (hT : RT M tl tc) (hnb : ¬ brk tl tc) (h0 : 0 < tl) (c9 : Nat) (hoc : Fst (fun i => tc i = 58) tl (some c9)) (hc9 : c9 + 1 < tl) (k9 s9 : Nat) (hok : Fst (matK len ch sp tc c9) n (some k9)) (hs9 : sp k9 = some s9) (ho : Fst (sameT len ch (len s9 + (tl - (c9 + 1))) (scCo len ch tc s9 c9)) n none) (h1 : 1 ≤ len s9 + (tl - (c9 + 1))) (h24 : len s9 + (tl - (c9 + 1)) ≤ 24) (hn9 : n < 60) : MM l D cI cB ad y_M_expand b_M_expand 1 (some .int) 3 67 [.ref (ad (0))] M (fun v M' => v = some (.int (nI n)) ∧ ∃ M0, TX M M0 ∧ CMd M0 M' n (len s9 + (tl - (c9 + 1))) (scCo len ch tc s9 c9)) := by
  refine MC.of (by decide) (Nat.le_of_ble_eq_true rfl) ?_
  intro p e s m below meth c ls hx hb hr hml hown hg hlocks hK hN hP hS hl
  have hown : s.vm.findClass R_M = some m.cls := hown
  have hl : lv_has ls 1 [(0, .ref (ad (0)))] := hl
  have hn60 : n ≤ 60 := hR.1
  have htl := hT.1
  have hs9n : s9 < n := hR.2.2.2.2.1 k9 s9 hok.1 hs9
  have hls := hR.2.2.1 s9 hs9n
  refine lv_aload_n hx hb d_M_expand_0 rfl (lv_at hl 0 rfl) ?_
  refine lv_aload_n hx hb d_M_expand_1 rfl (lv_at hl 0 rfl) ?_
  refine g_get (C := R_M) (T := T_M) (N := 19) (ci := 8) (v := .int (M 0 2)) hx hb hg i_M hown hK hP 0 (by decide) rfl rfl 2 (by decide) (hg _ k_795) rfl d_M_expand_2 ?_
  refine n_top (y := (nI (tl))) (hT.2.1) ?_
  refine n_ifn0 (a := tl) (tgt := 12) hx hb d_M_expand_5 (by decide) (by omega) (fun c_5 => ?_) (fun c_5 => ?_)
  · refine lv_aload_n hx hb d_M_expand_12 rfl (lv_at hl 0 rfl) ?_
    refine c_V (own := R_M) (index := 86) (As := []) (rest := [.ref (ad (0))]) hx hb hml hown hg hK (fun _ _ _ h => h) (fun _ _ => trivial) (fun _ h => h) hP hS 0 (c_M_told_b l D cI cB ad hI M n len ch sp hR tl tc hT hnb h0 c9 hoc hc9 k9 s9 hok hs9) (by decide) (ci := 8) rfl rfl k_899 k_901 k_p29 k_9 k_902 0 rfl (by decide +kernel) (by decide) rfl hl.1 (Nat.le_of_ble_eq_true rfl) d_M_expand_13 (fun v M_1 H locs hq hP _ _ hS => ?_)
    obtain ⟨rfl, hSX, hMK⟩ := hq
    have hR1 := hR.sx hSX
    refine W.eq (g2 := F0 m 16 ls [.int (bI (true)), .ref (ad (0))]) rfl ?_
    refine z_ne (t := true) (tgt := 23) hx hb d_M_expand_16 (by decide) (fun _ => ?_) (fun h9 => absurd h9 (by decide))
    refine lv_aload_n hx hb d_M_expand_23 rfl (lv_at hl 0 rfl) ?_
    refine c_V (own := R_M) (index := 79) (As := []) (rest := [.ref (ad (0))]) hx hb hml hown hg hK (fun _ _ _ h => h) (fun _ _ => trivial) (fun _ h => h) hP hS 0 (c_M_isTooMuch l D cI cB ad hI M_1 n len ch sp hR1 (len s9 + (tl - (c9 + 1))) (scCo len ch tc s9 c9) hMK (none) ho false ⟨fun h => (by cases h), fun h => by omega⟩) (by decide) (ci := 8) rfl rfl k_879 k_881 k_p25 k_9 k_882 0 rfl (by decide +kernel) (by decide) rfl hl.1 (Nat.le_of_ble_eq_true rfl) d_M_expand_24 (fun v M' H locs hq hP _ _ hS => ?_)
    obtain ⟨rfl, rfl⟩ := hq
    refine W.eq (g2 := F0 m 27 ls [.int (bI (false)), .ref (ad (0))]) rfl ?_
    refine z_eq (t := false) (tgt := 34) hx hb d_M_expand_27 (by decide) (fun _ => ?_) (fun h9 => absurd h9 (by decide))
    refine n_const (k := 0) hx hb d_M_expand_34 (by decide) ?_
    refine c_V (own := R_M) (index := 57) (As := [.int (nI (0))]) (rest := []) hx hb hml hown hg hK (fun _ _ _ h => h) (fun _ _ => trivial) (fun _ h => h) hP hS 0 (c_M_refuses l D cI cB ad hI M_1 (0) (by decide)) (by decide) (ci := 8) rfl rfl k_859 k_861 k_p22 k_9 k_862 1 rfl (by decide +kernel) (by decide) rfl hl.1 (Nat.le_of_ble_eq_true rfl) d_M_expand_35 (fun v M_2 H locs hq hP _ _ hS => ?_)
    obtain ⟨rfl, eM_2⟩ := hq
    have hR1 := hR1.sx (SX.thr M_1 (nI 0))
    rw [← eM_2] at hR1
    have hSX := hSX.tr (SX.thr M_1 (nI 0))
    rw [← eM_2] at hSX
    have hMK := hMK.thr (nI 0)
    rw [← eM_2] at hMK
    refine W.eq (g2 := F0 m 38 ls [.int (bI (false))]) rfl ?_
    refine z_eq (t := false) (tgt := 43) hx hb d_M_expand_38 (by decide) (fun _ => ?_) (fun h9 => absurd h9 (by decide))
    have hTX : SX M M_2 ∧ M_2 0 0 = nI 0 := ⟨hSX, by rw [eM_2, pu_s]⟩
    refine lv_aload_n hx hb d_M_expand_43 rfl (lv_at hl 0 rfl) ?_
    refine n_const (k := 0) hx hb d_M_expand_44 (by decide) ?_
    refine g_put (C := R_M) (T := T_M) (N := 19) (ci := 8) (v := (nI (0))) hx hb hg i_M ty_M t_M_ok n_M hown hK hI (fun _ h => h) hP hS 0 (by decide) rfl rfl 2 (by decide) (hg _ k_795) rfl (by decide +kernel) (Nat.le_of_ble_eq_true rfl) rfl d_M_expand_45 (fun H locs hP hS => ?_)
    obtain ⟨M_3, eM_3⟩ : ∃ z : PM, z = (pu M_2 0 2 ((nI (0)))) := ⟨_, rfl⟩
    rw [← eM_3] at hP
    have hR1 : RN M_3 n len ch sp := by rw [eM_3]; exact hR1.tp _
    have hMK : MK M_3 (len s9 + (tl - (c9 + 1))) (scCo len ch tc s9 c9) := by rw [eM_3]; exact hMK.tp _
    have hTX9 : TX M M_3 := ⟨_, hTX.1, hTX.2, eM_3⟩
    refine lv_aload_n hx hb d_M_expand_48 rfl (lv_at hl 0 rfl) ?_
    refine c_V (own := R_M) (index := 83) (As := []) (rest := []) hx hb hml hown hg hK (fun _ _ _ h => h) (fun _ _ => trivial) (fun _ h => h) hP hS 0 (c_M_comes_new l D cI cB ad hI M_3 n len ch sp hR1 (len s9 + (tl - (c9 + 1))) (scCo len ch tc s9 c9) hMK ho hn9 h1 h24) (by decide) (ci := 8) rfl rfl k_891 k_893 k_p28 k_9 k_894 0 rfl (by decide +kernel) (by decide) rfl hl.1 (Nat.le_of_ble_eq_true rfl) d_M_expand_49 (fun v M_4 H locs hq hP _ _ hS => ?_)
    obtain ⟨rfl, eM_4⟩ := hq
    refine W.eq (g2 := F0 m 52 ls [.int (nI (n))]) rfl ?_
    exact r_i hx hb hr hlocks hP hS (⟨rfl, _, hTX9, eM_4⟩) d_M_expand_52
  · exact absurd c_5 (by omega)

set_option maxHeartbeats 4000000 in
set_option maxRecDepth 100000 in
theorem c_M_join_2 (l : Launch) (D : va_G) (cI cB : ClassId) (ad : Nat → Nat) (hI : GI 13 ad) (M : PM) (n : Nat) (len : Nat → Nat) (ch : Nat → Nat → Nat) (sp : Nat → Option Nat) (hR : RN M n len ch sp) (a b9 : Nat) (ha : a < n) (hb9 : b9 < n) (x : Int32) (hbad : ¬ ∃ c, c ≤ 1 ∧ x = nI c) : MM l D cI cB ad y_M_join b_M_join 6 (some .int) 1 21 [.ref (ad (0)), .int (nI (a)), .int (nI (b9)), .int (x)] M (fun v M' => v = some (.int (nI 0)) ∧ M' = pu M 0 0 (nI 2)) := by
  refine MC.of (by decide) (Nat.le_of_ble_eq_true rfl) ?_
  intro p e s m below meth c ls hx hb hr hml hown hg hlocks hK hN hP hS hl
  have hown : s.vm.findClass R_M = some m.cls := hown
  have hl : lv_has ls 6 [(0, .ref (ad (0))), (1, .int (nI (a))), (2, .int (nI (b9))), (3, .int (x))] := hl
  have hn60 : n ≤ 60 := hR.1
  refine lv_aload_n hx hb d_M_join_0 rfl (lv_at hl 0 rfl) ?_
  refine lv_aload_n hx hb d_M_join_1 rfl (lv_at hl 0 rfl) ?_
  refine lv_iload_n hx hb d_M_join_2 rfl (lv_at hl 1 rfl) ?_
  refine c_V (own := R_M) (index := 89) (As := [.int (nI (a))]) (rest := [.ref (ad (0))]) hx hb hml hown hg hK (fun _ _ _ h => h) (fun _ _ => trivial) (fun _ h => h) hP hS 0 (c_M_no l D cI cB ad hI M n len ch sp hR (nI (a)) false (no_f (by omega))) (by decide) (ci := 8) rfl rfl k_907 k_909 k_p30 k_9 k_910 1 rfl (by decide +kernel) (by decide) rfl hl.1 (Nat.le_of_ble_eq_true rfl) d_M_join_3 (fun v M' H locs hq hP _ _ hS => ?_)
  obtain ⟨rfl, rfl⟩ := hq
  refine W.eq (g2 := F0 m 6 ls [.int (bI (false)), .ref (ad (0))]) rfl ?_
  refine z_ne (t := false) (tgt := 17) hx hb d_M_join_6 (by decide) (fun h9 => absurd h9 (by decide)) (fun _ => ?_)
  refine lv_aload_n hx hb d_M_join_9 rfl (lv_at hl 0 rfl) ?_
  refine lv_iload_n hx hb d_M_join_10 rfl (lv_at hl 2 rfl) ?_
  refine c_V (own := R_M) (index := 89) (As := [.int (nI (b9))]) (rest := [.ref (ad (0))]) hx hb hml hown hg hK (fun _ _ _ h => h) (fun _ _ => trivial) (fun _ h => h) hP hS 0 (c_M_no l D cI cB ad hI M n len ch sp hR (nI (b9)) false (no_f (by omega))) (by decide) (ci := 8) rfl rfl k_907 k_909 k_p30 k_9 k_910 1 rfl (by decide +kernel) (by decide) rfl hl.1 (Nat.le_of_ble_eq_true rfl) d_M_join_11 (fun v M' H locs hq hP _ _ hS => ?_)
  obtain ⟨rfl, rfl⟩ := hq
  refine W.eq (g2 := F0 m 14 ls [.int (bI (false)), .ref (ad (0))]) rfl ?_
  refine z_eq (t := false) (tgt := 21) hx hb d_M_join_14 (by decide) (fun _ => ?_) (fun h9 => absurd h9 (by decide))
  refine lv_iload_n hx hb d_M_join_21 rfl (lv_at hl 3 rfl) ?_
  refine lv_if_lt (tgt := 30) hx hb d_M_join_22 (by decide) (fun c_22 => ?_) (fun c_22 => ?_)
  · refine n_const (k := 2) hx hb d_M_join_30 (by decide) ?_
    refine lv_goto (tgt := 35) hx hb d_M_join_31 (by decide) ?_
    refine c_V (own := R_M) (index := 57) (As := [.int (nI (2))]) (rest := []) hx hb hml hown hg hK (fun _ _ _ h => h) (fun _ _ => trivial) (fun _ h => h) hP hS 0 (c_M_refuses l D cI cB ad hI M (2) (by decide)) (by decide) (ci := 8) rfl rfl k_859 k_861 k_p22 k_9 k_862 1 rfl (by decide +kernel) (by decide) rfl hl.1 (Nat.le_of_ble_eq_true rfl) d_M_join_35 (fun v M_1 H locs hq hP _ _ hS => ?_)
    obtain ⟨rfl, eM_1⟩ := hq
    refine W.eq (g2 := F0 m 38 ls [.int (bI (true))]) rfl ?_
    refine z_eq (t := true) (tgt := 43) hx hb d_M_join_38 (by decide) (fun h9 => absurd h9 (by decide)) (fun _ => ?_)
    refine n_const (k := 0) hx hb d_M_join_41 (by decide) ?_
    exact r_i hx hb hr hlocks hP hS (⟨rfl, eM_1⟩) d_M_join_42
  · refine lv_iload_n hx hb d_M_join_25 rfl (lv_at hl 3 rfl) ?_
    refine n_const (k := 1) hx hb d_M_join_26 (by decide) ?_
    refine lv_icmp_le (tgt := 34) hx hb d_M_join_27 (by decide) (fun c_27 => ?_) (fun c_27 => ?_)
    · exact absurd (rng (a := 0) (by decide) c_22 c_27 (by decide)) (fun ⟨c, _, h2, h3⟩ => hbad ⟨c, h2, h3⟩)
    · refine n_const (k := 2) hx hb d_M_join_30 (by decide) ?_
      refine lv_goto (tgt := 35) hx hb d_M_join_31 (by decide) ?_
      refine c_V (own := R_M) (index := 57) (As := [.int (nI (2))]) (rest := []) hx hb hml hown hg hK (fun _ _ _ h => h) (fun _ _ => trivial) (fun _ h => h) hP hS 0 (c_M_refuses l D cI cB ad hI M (2) (by decide)) (by decide) (ci := 8) rfl rfl k_859 k_861 k_p22 k_9 k_862 1 rfl (by decide +kernel) (by decide) rfl hl.1 (Nat.le_of_ble_eq_true rfl) d_M_join_35 (fun v M_2 H locs hq hP _ _ hS => ?_)
      obtain ⟨rfl, eM_2⟩ := hq
      refine W.eq (g2 := F0 m 38 ls [.int (bI (true))]) rfl ?_
      refine z_eq (t := true) (tgt := 43) hx hb d_M_join_38 (by decide) (fun h9 => absurd h9 (by decide)) (fun _ => ?_)
      refine n_const (k := 0) hx hb d_M_join_41 (by decide) ?_
      exact r_i hx hb hr hlocks hP hS (⟨rfl, eM_2⟩) d_M_join_42

set_option maxHeartbeats 4000000 in
set_option maxRecDepth 100000 in
theorem c_M_join_30 (l : Launch) (D : va_G) (cI cB : ClassId) (ad : Nat → Nat) (hI : GI 13 ad) (M : PM) (n : Nat) (len : Nat → Nat) (ch : Nat → Nat → Nat) (sp : Nat → Option Nat) (hR : RN M n len ch sp) (a b9 : Nat) (ha : a < n) (hb9 : b9 < n)  (o : Option Nat) (ho : Fst (sameT len ch (cutF ch a (len a) + len b9) (scJ0 ch a b9 (cutF ch a (len a)))) n o) (htm : 24 < cutF ch a (len a) + len b9 ∨ (o = none ∧ n = 60)) : MM l D cI cB ad y_M_join b_M_join 6 (some .int) 3 65 [.ref (ad (0)), .int (nI (a)), .int (nI (b9)), .int (nI (0))] M (fun v M' => v = some (.int (nI 0)) ∧ SX M M' ∧ M' 0 0 = nI 3) := by
  refine MC.of (by decide) (Nat.le_of_ble_eq_true rfl) ?_
  intro p e s m below meth c ls hx hb hr hml hown hg hlocks hK hN hP hS hl
  have hown : s.vm.findClass R_M = some m.cls := hown
  have hl : lv_has ls 6 [(0, .ref (ad (0))), (1, .int (nI (a))), (2, .int (nI (b9))), (3, .int (nI (0)))] := hl
  have hn60 : n ≤ 60 := hR.1
  have hl24 := hR.2.2.1
  have hspn := hR.2.2.2.2.1
  have hch := hR.2.2.2.2.2
  have la := hl24 a ha
  have lb := hl24 b9 hb9
  have hSX := SX.rf M
  have hcl := cutF_le ch a (len a)
  have J172 : ∀ (fu172 : Nat) (i : Nat) (M1 : PM) (H : Heap) (locs : List Loc) (ls : Array Slot), len b9 - i < fu172 → (i ≤ len b9) → (SX M M1) → (MK M1 (cutF ch a (len a) + i) (scJ0 ch a b9 (cutF ch a (len a)))) → va_P D clsA (gw 13 ad (cfM cI cB ad) M1) H → va_S (GA 13 ad) s.heap H locs → lv_has ls 6 [(0, .ref (ad (0))), (1, .int (nI (a))), (2, .int (nI (b9))), (3, .int (nI (0))), (5, .int (nI (i)))] → W p l e (rm_ 3 65) s m ([.ref (ad (0)), .int (nI (a)), .int (nI (b9)), .int (nI (0))] : List Value).toArray below meth c H locs 0 0 (MQ below (GQ D 13 ad (cfM cI cB ad) (fun v M' => v = some (.int (nI 0)) ∧ SX M M' ∧ M' 0 0 = nI 3)) ([.ref (ad (0)), .int (nI (a)), .int (nI (b9)), .int (nI (0))] : List Value).toArray s 0 0 (GA 13 ad)) (F0 m 172 ls []) := by
    intro fu172
    induction fu172 with
    | zero => intro i M1 H locs ls hfu; exact absurd hfu (Nat.not_lt_zero _)
    | succ fu172 ih172 =>
      intro i M1 H locs ls hfu172 hi hSX hMK hP hS hl
      have hR1 := hR.sx hSX
      refine lv_iload hx hb d_M_join_172 (lv_at hl 4 rfl) ?_
      refine lv_aload_n hx hb d_M_join_174 rfl (lv_at hl 0 rfl) ?_
      refine g_get (C := R_M) (T := T_M) (N := 19) (ci := 8) (v := .ref (ad (3))) hx hb hg i_M hown hK hP 0 (by decide) rfl rfl 4 (by decide) (hg _ k_797) rfl d_M_join_175 ?_
      refine lv_iload_n hx hb d_M_join_178 rfl (lv_at hl 2 rfl) ?_
      refine g_iald hx hb hK hP 3 0 (by decide) rfl rfl (by decide) (j := b9) (by omega) d_M_join_179 ?_
      refine n_top (y := (nI (len (b9)))) ((hR1.2.2.1 (b9) (by omega)).2.2) ?_
      refine n_ge (a := i) (b := len (b9)) (tgt := 200) hx hb d_M_join_180 (by decide) (by omega) (by omega) (fun c_180 => ?_) (fun c_180 => ?_)
      · have hMK : MK M1 (cutF ch a (len a) + len b9) (scJ0 ch a b9 (cutF ch a (len a))) := by rw [show cutF ch a (len a) + len b9 = cutF ch a (len a) + i by omega]; exact hMK
        refine lv_aload_n hx hb d_M_join_200 rfl (lv_at hl 0 rfl) ?_
        refine lv_aload_n hx hb d_M_join_201 rfl (lv_at hl 0 rfl) ?_
        refine c_V (own := R_M) (index := 79) (As := []) (rest := [.ref (ad (0))]) hx hb hml hown hg hK (fun _ _ _ h => h) (fun _ _ => trivial) (fun _ h => h) hP hS 0 (c_M_isTooMuch l D cI cB ad hI M1 n len ch sp hR1 (cutF ch a (len a) + len b9) (scJ0 ch a b9 (cutF ch a (len a))) hMK (o) ho true ⟨fun _ => htm, fun _ => rfl⟩) (by decide) (ci := 8) rfl rfl k_879 k_881 k_p25 k_9 k_882 0 rfl (by decide +kernel) (by decide) rfl hl.1 (Nat.le_of_ble_eq_true rfl) d_M_join_202 (fun v M' H locs hq hP _ _ hS => ?_)
        obtain ⟨rfl, rfl⟩ := hq
        refine W.eq (g2 := F0 m 205 ls [.int (bI (true)), .ref (ad (0))]) rfl ?_
        refine z_eq (t := true) (tgt := 212) hx hb d_M_join_205 (by decide) (fun h9 => absurd h9 (by decide)) (fun _ => ?_)
        refine n_const (k := 3) hx hb d_M_join_208 (by decide) ?_
        refine lv_goto (tgt := 213) hx hb d_M_join_209 (by decide) ?_
        refine c_V (own := R_M) (index := 57) (As := [.int (nI (3))]) (rest := []) hx hb hml hown hg hK (fun _ _ _ h => h) (fun _ _ => trivial) (fun _ h => h) hP hS 0 (c_M_refuses l D cI cB ad hI M1 (3) (by decide)) (by decide) (ci := 8) rfl rfl k_859 k_861 k_p22 k_9 k_862 1 rfl (by decide +kernel) (by decide) rfl hl.1 (Nat.le_of_ble_eq_true rfl) d_M_join_213 (fun v M_1 H locs hq hP _ _ hS => ?_)
        obtain ⟨rfl, eM_1⟩ := hq
        have hSX := hSX.tr (SX.thr M1 (nI 3))
        rw [← eM_1] at hSX
        have hMK := hMK.thr (nI 3)
        rw [← eM_1] at hMK
        refine W.eq (g2 := F0 m 216 ls [.int (bI (true))]) rfl ?_
        refine z_eq (t := true) (tgt := 223) hx hb d_M_join_216 (by decide) (fun h9 => absurd h9 (by decide)) (fun _ => ?_)
        refine n_const (k := 0) hx hb d_M_join_219 (by decide) ?_
        refine lv_goto (tgt := 227) hx hb d_M_join_220 (by decide) ?_
        exact r_i hx hb hr hlocks hP hS (⟨rfl, hSX, by rw [eM_1, pu_s]⟩) d_M_join_227
      · refine lv_aload_n hx hb d_M_join_183 rfl (lv_at hl 0 rfl) ?_
        refine lv_aload_n hx hb d_M_join_184 rfl (lv_at hl 0 rfl) ?_
        refine lv_iload_n hx hb d_M_join_185 rfl (lv_at hl 2 rfl) ?_
        refine lv_iload hx hb d_M_join_186 (lv_at hl 4 rfl) ?_
        refine c_V (own := R_M) (index := 64) (As := [.int (nI (b9)), .int (nI (i))]) (rest := [.ref (ad (0))]) hx hb hml hown hg hK (fun _ _ _ h => h) (fun _ _ => trivial) (fun _ h => h) hP hS 0 (c_M_at l D cI cB ad hI M1 n len ch sp hR1 (b9) (i) (by omega) (by omega)) (by decide) (ci := 8) rfl rfl k_887 k_889 k_p27 k_9 k_890 2 rfl (by decide +kernel) (by decide) rfl hl.1 (Nat.le_of_ble_eq_true rfl) d_M_join_188 (fun v M' H locs hq hP _ _ hS => ?_)
        obtain ⟨rfl, rfl⟩ := hq
        refine W.eq (g2 := F0 m 191 ls [.int (nI (ch (b9) (i))), .ref (ad (0))]) rfl ?_
        refine c_V (own := R_M) (index := 75) (As := [.int (nI (ch (b9) (i)))]) (rest := []) hx hb hml hown hg hK (fun _ _ _ h => h) (fun _ _ => trivial) (fun _ h => h) hP hS 0 (c_M_makes l D cI cB ad hI M1 (cutF ch a (len a) + i) (scJ0 ch a b9 (cutF ch a (len a))) hMK (ch (b9) (i)) (by have := hch b9 i hb9 (by omega); omega) (by omega)) (by decide) (ci := 8) rfl rfl k_875 k_877 k_p24 k_9 k_878 1 rfl (by decide +kernel) (by decide) rfl hl.1 (Nat.le_of_ble_eq_true rfl) d_M_join_191 (fun v M_2 H locs hq hP _ _ hS => ?_)
        obtain ⟨rfl, eM_2⟩ := hq
        rw [show ch (b9) (i) = (scJ0 ch a b9 (cutF ch a (len a))) (cutF ch a (len a) + i) from (by unfold scJ0; rw [if_neg (by omega)]; congr 1; omega)] at eM_2
        have hSX : SX M M_2 := hSX.tr (by rw [eM_2]; exact SX.add _ _ _ _)
        have hMK : MK M_2 (cutF ch a (len a) + i + 1) (scJ0 ch a b9 (cutF ch a (len a))) := by rw [eM_2]; exact hMK.add (by omega) (by unfold scJ0; rw [if_neg (by omega)]; have := hch b9 (cutF ch a (len a) + i - cutF ch a (len a)) hb9 (by omega); omega)
        have hR1 := hR.sx hSX
        refine W.eq (g2 := F0 m 194 ls []) rfl ?_
        refine n_inc (lv' := [(5, .int (nI (i + 1))), (0, .ref (ad (0))), (1, .int (nI (a))), (2, .int (nI (b9))), (3, .int (nI (0)))]) hx hb d_M_join_194 hl (k := 4) rfl (by decide) rfl (fun ls hl => ?_)
        refine lv_goto (tgt := 172) hx hb d_M_join_197 (by decide) ?_
        exact ih172 (i + 1) M_2 _ _ ls (by omega) (by omega) (hSX) (by rw [show cutF ch a (len a) + (i + 1) = cutF ch a (len a) + i + 1 by omega]; exact hMK) hP hS (lv_sub hl [1, 2, 3, 4, 0] rfl)
  have J134 : ∀ (fu134 : Nat) (i : Nat) (M1 : PM) (H : Heap) (locs : List Loc) (ls : Array Slot), cutF ch a (len a) - i < fu134 → (i ≤ cutF ch a (len a)) → (SX M M1) → (MK M1 (i) (scJ0 ch a b9 (cutF ch a (len a)))) → va_P D clsA (gw 13 ad (cfM cI cB ad) M1) H → va_S (GA 13 ad) s.heap H locs → lv_has ls 6 [(0, .ref (ad (0))), (1, .int (nI (a))), (2, .int (nI (b9))), (3, .int (nI (0))), (4, .int (nI (cutF ch a (len a)))), (5, .int (nI (i)))] → W p l e (rm_ 3 65) s m ([.ref (ad (0)), .int (nI (a)), .int (nI (b9)), .int (nI (0))] : List Value).toArray below meth c H locs 0 0 (MQ below (GQ D 13 ad (cfM cI cB ad) (fun v M' => v = some (.int (nI 0)) ∧ SX M M' ∧ M' 0 0 = nI 3)) ([.ref (ad (0)), .int (nI (a)), .int (nI (b9)), .int (nI (0))] : List Value).toArray s 0 0 (GA 13 ad)) (F0 m 134 ls []) := by
    intro fu134
    induction fu134 with
    | zero => intro i M1 H locs ls hfu; exact absurd hfu (Nat.not_lt_zero _)
    | succ fu134 ih134 =>
      intro i M1 H locs ls hfu134 hi hSX hMK hP hS hl
      have hR1 := hR.sx hSX
      refine lv_iload hx hb d_M_join_134 (lv_at hl 5 rfl) ?_
      refine lv_iload hx hb d_M_join_136 (lv_at hl 4 rfl) ?_
      refine n_ge (a := i) (b := cutF ch a (len a)) (tgt := 158) hx hb d_M_join_138 (by decide) (by omega) (by omega) (fun c_138 => ?_) (fun c_138 => ?_)
      · refine lv_iload_n hx hb d_M_join_158 rfl (lv_at hl 3 rfl) ?_
        refine n_const (k := 1) hx hb d_M_join_159 (by decide) ?_
        refine n_ne (a := 0) (b := 1) (tgt := 169) hx hb d_M_join_160 (by decide) (by decide) (by decide) (fun _ => ?_) (fun h9 => absurd h9 (by decide))
        refine n_const (k := 0) hx hb d_M_join_169 (by decide) ?_
        refine lv_istore (lv' := [(5, .int (nI (0))), (0, .ref (ad (0))), (1, .int (nI (a))), (2, .int (nI (b9))), (3, .int (nI (0))), (4, .int (nI (cutF ch a (len a))))]) hx hb d_M_join_170 hl (by decide) rfl (fun ls hl => ?_)
        exact J172 (_ + 1) (0) M1 _ _ ls (Nat.lt_succ_self _) (by omega) (hSX) (by rw [show cutF ch a (len a) + 0 = i by omega]; exact hMK) hP hS (lv_sub hl [1, 2, 3, 4, 0] rfl)
      · refine lv_aload_n hx hb d_M_join_141 rfl (lv_at hl 0 rfl) ?_
        refine lv_aload_n hx hb d_M_join_142 rfl (lv_at hl 0 rfl) ?_
        refine lv_iload_n hx hb d_M_join_143 rfl (lv_at hl 1 rfl) ?_
        refine lv_iload hx hb d_M_join_144 (lv_at hl 5 rfl) ?_
        refine c_V (own := R_M) (index := 64) (As := [.int (nI (a)), .int (nI (i))]) (rest := [.ref (ad (0))]) hx hb hml hown hg hK (fun _ _ _ h => h) (fun _ _ => trivial) (fun _ h => h) hP hS 0 (c_M_at l D cI cB ad hI M1 n len ch sp hR1 (a) (i) (by omega) (by omega)) (by decide) (ci := 8) rfl rfl k_887 k_889 k_p27 k_9 k_890 2 rfl (by decide +kernel) (by decide) rfl hl.1 (Nat.le_of_ble_eq_true rfl) d_M_join_146 (fun v M' H locs hq hP _ _ hS => ?_)
        obtain ⟨rfl, rfl⟩ := hq
        refine W.eq (g2 := F0 m 149 ls [.int (nI (ch (a) (i))), .ref (ad (0))]) rfl ?_
        refine c_V (own := R_M) (index := 75) (As := [.int (nI (ch (a) (i)))]) (rest := []) hx hb hml hown hg hK (fun _ _ _ h => h) (fun _ _ => trivial) (fun _ h => h) hP hS 0 (c_M_makes l D cI cB ad hI M1 (i) (scJ0 ch a b9 (cutF ch a (len a))) hMK (ch (a) (i)) (by have := hch a i ha (by omega); omega) (by omega)) (by decide) (ci := 8) rfl rfl k_875 k_877 k_p24 k_9 k_878 1 rfl (by decide +kernel) (by decide) rfl hl.1 (Nat.le_of_ble_eq_true rfl) d_M_join_149 (fun v M_3 H locs hq hP _ _ hS => ?_)
        obtain ⟨rfl, eM_3⟩ := hq
        rw [show ch (a) (i) = (scJ0 ch a b9 (cutF ch a (len a))) (i) from (if_pos (by omega)).symm] at eM_3
        have hSX : SX M M_3 := hSX.tr (by rw [eM_3]; exact SX.add _ _ _ _)
        have hMK : MK M_3 (i + 1) (scJ0 ch a b9 (cutF ch a (len a))) := by rw [eM_3]; exact hMK.add (by omega) (by unfold scJ0; rw [if_pos (by omega)]; have := hch a i ha (by omega); omega)
        have hR1 := hR.sx hSX
        refine W.eq (g2 := F0 m 152 ls []) rfl ?_
        refine n_inc (lv' := [(5, .int (nI (i + 1))), (0, .ref (ad (0))), (1, .int (nI (a))), (2, .int (nI (b9))), (3, .int (nI (0))), (4, .int (nI (cutF ch a (len a))))]) hx hb d_M_join_152 hl (k := 5) rfl (by decide) rfl (fun ls hl => ?_)
        refine lv_goto (tgt := 134) hx hb d_M_join_155 (by decide) ?_
        exact ih134 (i + 1) M_3 _ _ ls (by omega) (by omega) (hSX) (hMK) hP hS (lv_sub hl [1, 2, 3, 4, 5, 0] rfl)
  have J49 : ∀ (fu49 : Nat) (i : Nat) (M1 : PM) (H : Heap) (locs : List Loc) (ls : Array Slot), len a - i < fu49 → (i ≤ len a) → (SX M M1) → va_P D clsA (gw 13 ad (cfM cI cB ad) M1) H → va_S (GA 13 ad) s.heap H locs → lv_has ls 6 [(0, .ref (ad (0))), (1, .int (nI (a))), (2, .int (nI (b9))), (3, .int (nI (0))), (4, .int (nI (cutF ch a i))), (5, .int (nI (i)))] → W p l e (rm_ 3 65) s m ([.ref (ad (0)), .int (nI (a)), .int (nI (b9)), .int (nI (0))] : List Value).toArray below meth c H locs 0 0 (MQ below (GQ D 13 ad (cfM cI cB ad) (fun v M' => v = some (.int (nI 0)) ∧ SX M M' ∧ M' 0 0 = nI 3)) ([.ref (ad (0)), .int (nI (a)), .int (nI (b9)), .int (nI (0))] : List Value).toArray s 0 0 (GA 13 ad)) (F0 m 49 ls []) := by
    intro fu49
    induction fu49 with
    | zero => intro i M1 H locs ls hfu; exact absurd hfu (Nat.not_lt_zero _)
    | succ fu49 ih49 =>
      intro i M1 H locs ls hfu49 hi hSX hP hS hl
      have hR1 := hR.sx hSX
      refine lv_iload hx hb d_M_join_49 (lv_at hl 5 rfl) ?_
      refine lv_aload_n hx hb d_M_join_51 rfl (lv_at hl 0 rfl) ?_
      refine g_get (C := R_M) (T := T_M) (N := 19) (ci := 8) (v := .ref (ad (3))) hx hb hg i_M hown hK hP 0 (by decide) rfl rfl 4 (by decide) (hg _ k_797) rfl d_M_join_52 ?_
      refine lv_iload_n hx hb d_M_join_55 rfl (lv_at hl 1 rfl) ?_
      refine g_iald hx hb hK hP 3 0 (by decide) rfl rfl (by decide) (j := a) (by omega) d_M_join_56 ?_
      refine n_top (y := (nI (len (a)))) ((hR1.2.2.1 (a) (by omega)).2.2) ?_
      refine n_ge (a := i) (b := len (a)) (tgt := 93) hx hb d_M_join_57 (by decide) (by omega) (by omega) (fun c_57 => ?_) (fun c_57 => ?_)
      · have e9 : i = len a := by omega
        rw [e9] at hl
        have hl : lv_has ls 6 [(0, .ref (ad (0))), (1, .int (nI (a))), (2, .int (nI (b9))), (3, .int (nI (0))), (4, .int (nI (cutF ch a (len a)))), (5, .int (nI (len a)))] := hl
        refine lv_iload_n hx hb d_M_join_93 rfl (lv_at hl 3 rfl) ?_
        refine n_const (k := 1) hx hb d_M_join_94 (by decide) ?_
        refine n_ne (a := 0) (b := 1) (tgt := 127) hx hb d_M_join_95 (by decide) (by decide) (by decide) (fun _ => ?_) (fun h9 => absurd h9 (by decide))
        refine lv_aload_n hx hb d_M_join_127 rfl (lv_at hl 0 rfl) ?_
        refine c_V (own := R_M) (index := 72) (As := []) (rest := []) hx hb hml hown hg hK (fun _ _ _ h => h) (fun _ _ => trivial) (fun _ h => h) hP hS 0 (c_M_begin l D cI cB ad hI M1) (by decide) (ci := 8) rfl rfl k_871 k_873 k_p23 k_9 k_874 0 rfl (by decide +kernel) (by decide) rfl hl.1 (Nat.le_of_ble_eq_true rfl) d_M_join_128 (fun v M_4 H locs hq hP _ _ hS => ?_)
        obtain ⟨rfl, eM_4⟩ := hq
        have hSX : SX M M_4 := hSX.tr (by rw [eM_4]; exact SX.begin _)
        have hMK : MK M_4 0 (scJ0 ch a b9 (cutF ch a (len a))) := by rw [eM_4]; exact MK.begin _ _
        have hR1 := hR.sx hSX
        refine W.eq (g2 := F0 m 131 ls []) rfl ?_
        refine n_const (k := 0) hx hb d_M_join_131 (by decide) ?_
        refine lv_istore (lv' := [(5, .int (nI (0))), (0, .ref (ad (0))), (1, .int (nI (a))), (2, .int (nI (b9))), (3, .int (nI (0))), (4, .int (nI (cutF ch a (len a))))]) hx hb d_M_join_132 hl (by decide) rfl (fun ls hl => ?_)
        exact J134 (_ + 1) (0) M_4 _ _ ls (Nat.lt_succ_self _) (by omega) (hSX) (hMK) hP hS (lv_sub hl [1, 2, 3, 4, 5, 0] rfl)
      · refine lv_iload_n hx hb d_M_join_60 rfl (lv_at hl 3 rfl) ?_
        refine lv_if_ne (tgt := 93) hx hb d_M_join_61 (by decide) (fun h9 => by first | exact absurd h9 (by decide) | exact absurd (by decide) h9) (fun _ => ?_)
        refine lv_aload_n hx hb d_M_join_64 rfl (lv_at hl 0 rfl) ?_
        refine lv_iload_n hx hb d_M_join_65 rfl (lv_at hl 1 rfl) ?_
        refine lv_iload hx hb d_M_join_66 (lv_at hl 5 rfl) ?_
        refine c_V (own := R_M) (index := 64) (As := [.int (nI (a)), .int (nI (i))]) (rest := []) hx hb hml hown hg hK (fun _ _ _ h => h) (fun _ _ => trivial) (fun _ h => h) hP hS 0 (c_M_at l D cI cB ad hI M1 n len ch sp hR1 (a) (i) (by omega) (by omega)) (by decide) (ci := 8) rfl rfl k_887 k_889 k_p27 k_9 k_890 2 rfl (by decide +kernel) (by decide) rfl hl.1 (Nat.le_of_ble_eq_true rfl) d_M_join_68 (fun v M' H locs hq hP _ _ hS => ?_)
        obtain ⟨rfl, rfl⟩ := hq
        refine W.eq (g2 := F0 m 71 ls [.int (nI (ch (a) (i)))]) rfl ?_
        refine n_bipush (k := 47) hx hb d_M_join_71 (by decide) ?_
        refine n_ne (a := ch (a) (i)) (b := 47) (tgt := 83) hx hb d_M_join_73 (by decide) (by have := hch a i ha (by omega); omega) (by omega) (fun c_73 => ?_) (fun c_73 => ?_)
        · have hcq : cutF ch a (i + 1) = cutF ch a i := by simp only [cutF]; rw [if_neg c_73]
          refine lv_iload hx hb d_M_join_83 (lv_at hl 4 rfl) ?_
          refine lv_istore (lv' := [(4, .int (nI (cutF ch a i))), (0, .ref (ad (0))), (1, .int (nI (a))), (2, .int (nI (b9))), (3, .int (nI (0))), (5, .int (nI (i)))]) hx hb d_M_join_85 hl (by decide) rfl (fun ls hl => ?_)
          rw [← hcq] at hl
          have hl : lv_has ls 6 [(4, .int (nI (cutF ch a (i + 1)))), (0, .ref (ad (0))), (1, .int (nI (a))), (2, .int (nI (b9))), (3, .int (nI (0))), (5, .int (nI (i)))] := hl
          refine n_inc (lv' := [(5, .int (nI (i + 1))), (4, .int (nI (cutF ch a (i + 1)))), (0, .ref (ad (0))), (1, .int (nI (a))), (2, .int (nI (b9))), (3, .int (nI (0)))]) hx hb d_M_join_87 hl (k := 5) rfl (by decide) rfl (fun ls hl => ?_)
          refine lv_goto (tgt := 49) hx hb d_M_join_90 (by decide) ?_
          exact ih49 (i + 1) M1 _ _ ls (by omega) (by omega) (hSX) hP hS (lv_sub hl [2, 3, 4, 5, 1, 0] rfl)
        · have hcq : cutF ch a (i + 1) = i + 1 := by simp only [cutF]; rw [if_pos c_73]
          refine lv_iload hx hb d_M_join_76 (lv_at hl 5 rfl) ?_
          refine n_const (k := 1) hx hb d_M_join_78 (by decide) ?_
          refine n_iadd (a := i) (b := 1) hx hb d_M_join_79 ?_
          refine lv_goto (tgt := 85) hx hb d_M_join_80 (by decide) ?_
          refine lv_istore (lv' := [(4, .int (nI ((i) + (1)))), (0, .ref (ad (0))), (1, .int (nI (a))), (2, .int (nI (b9))), (3, .int (nI (0))), (5, .int (nI (i)))]) hx hb d_M_join_85 hl (by decide) rfl (fun ls hl => ?_)
          rw [← hcq] at hl
          have hl : lv_has ls 6 [(4, .int (nI (cutF ch a (i + 1)))), (0, .ref (ad (0))), (1, .int (nI (a))), (2, .int (nI (b9))), (3, .int (nI (0))), (5, .int (nI (i)))] := hl
          refine n_inc (lv' := [(5, .int (nI (i + 1))), (4, .int (nI (cutF ch a (i + 1)))), (0, .ref (ad (0))), (1, .int (nI (a))), (2, .int (nI (b9))), (3, .int (nI (0)))]) hx hb d_M_join_87 hl (k := 5) rfl (by decide) rfl (fun ls hl => ?_)
          refine lv_goto (tgt := 49) hx hb d_M_join_90 (by decide) ?_
          exact ih49 (i + 1) M1 _ _ ls (by omega) (by omega) (hSX) hP hS (lv_sub hl [2, 3, 4, 5, 1, 0] rfl)
  refine lv_aload_n hx hb d_M_join_0 rfl (lv_at hl 0 rfl) ?_
  refine lv_aload_n hx hb d_M_join_1 rfl (lv_at hl 0 rfl) ?_
  refine lv_iload_n hx hb d_M_join_2 rfl (lv_at hl 1 rfl) ?_
  refine c_V (own := R_M) (index := 89) (As := [.int (nI (a))]) (rest := [.ref (ad (0))]) hx hb hml hown hg hK (fun _ _ _ h => h) (fun _ _ => trivial) (fun _ h => h) hP hS 0 (c_M_no l D cI cB ad hI M n len ch sp hR (nI (a)) false (no_f (by omega))) (by decide) (ci := 8) rfl rfl k_907 k_909 k_p30 k_9 k_910 1 rfl (by decide +kernel) (by decide) rfl hl.1 (Nat.le_of_ble_eq_true rfl) d_M_join_3 (fun v M' H locs hq hP _ _ hS => ?_)
  obtain ⟨rfl, rfl⟩ := hq
  refine W.eq (g2 := F0 m 6 ls [.int (bI (false)), .ref (ad (0))]) rfl ?_
  refine z_ne (t := false) (tgt := 17) hx hb d_M_join_6 (by decide) (fun h9 => absurd h9 (by decide)) (fun _ => ?_)
  refine lv_aload_n hx hb d_M_join_9 rfl (lv_at hl 0 rfl) ?_
  refine lv_iload_n hx hb d_M_join_10 rfl (lv_at hl 2 rfl) ?_
  refine c_V (own := R_M) (index := 89) (As := [.int (nI (b9))]) (rest := [.ref (ad (0))]) hx hb hml hown hg hK (fun _ _ _ h => h) (fun _ _ => trivial) (fun _ h => h) hP hS 0 (c_M_no l D cI cB ad hI M n len ch sp hR (nI (b9)) false (no_f (by omega))) (by decide) (ci := 8) rfl rfl k_907 k_909 k_p30 k_9 k_910 1 rfl (by decide +kernel) (by decide) rfl hl.1 (Nat.le_of_ble_eq_true rfl) d_M_join_11 (fun v M' H locs hq hP _ _ hS => ?_)
  obtain ⟨rfl, rfl⟩ := hq
  refine W.eq (g2 := F0 m 14 ls [.int (bI (false)), .ref (ad (0))]) rfl ?_
  refine z_eq (t := false) (tgt := 21) hx hb d_M_join_14 (by decide) (fun _ => ?_) (fun h9 => absurd h9 (by decide))
  refine lv_iload_n hx hb d_M_join_21 rfl (lv_at hl 3 rfl) ?_
  refine lv_if_lt (tgt := 30) hx hb d_M_join_22 (by decide) (fun h9 => by first | exact absurd h9 (by decide) | exact absurd (by decide) h9) (fun _ => ?_)
  refine lv_iload_n hx hb d_M_join_25 rfl (lv_at hl 3 rfl) ?_
  refine n_const (k := 1) hx hb d_M_join_26 (by decide) ?_
  refine n_le (a := 0) (b := 1) (tgt := 34) hx hb d_M_join_27 (by decide) (by decide) (by decide) (fun _ => ?_) (fun h9 => absurd h9 (by decide))
  refine n_const (k := 0) hx hb d_M_join_34 (by decide) ?_
  refine c_V (own := R_M) (index := 57) (As := [.int (nI (0))]) (rest := []) hx hb hml hown hg hK (fun _ _ _ h => h) (fun _ _ => trivial) (fun _ h => h) hP hS 0 (c_M_refuses l D cI cB ad hI M (0) (by decide)) (by decide) (ci := 8) rfl rfl k_859 k_861 k_p22 k_9 k_862 1 rfl (by decide +kernel) (by decide) rfl hl.1 (Nat.le_of_ble_eq_true rfl) d_M_join_35 (fun v M_5 H locs hq hP _ _ hS => ?_)
  obtain ⟨rfl, eM_5⟩ := hq
  have hR1 := hR.sx (SX.thr M (nI 0))
  rw [← eM_5] at hR1
  have hSX := hSX.tr (SX.thr M (nI 0))
  rw [← eM_5] at hSX
  refine W.eq (g2 := F0 m 38 ls [.int (bI (false))]) rfl ?_
  refine z_eq (t := false) (tgt := 43) hx hb d_M_join_38 (by decide) (fun _ => ?_) (fun h9 => absurd h9 (by decide))
  refine n_const (k := 0) hx hb d_M_join_43 (by decide) ?_
  refine lv_istore (lv' := [(4, .int (nI (0))), (0, .ref (ad (0))), (1, .int (nI (a))), (2, .int (nI (b9))), (3, .int (nI (0)))]) hx hb d_M_join_44 hl (by decide) rfl (fun ls hl => ?_)
  refine n_const (k := 0) hx hb d_M_join_46 (by decide) ?_
  refine lv_istore (lv' := [(5, .int (nI (0))), (4, .int (nI (0))), (0, .ref (ad (0))), (1, .int (nI (a))), (2, .int (nI (b9))), (3, .int (nI (0)))]) hx hb d_M_join_47 hl (by decide) rfl (fun ls hl => ?_)
  exact J49 (_ + 1) (0) M_5 _ _ ls (Nat.lt_succ_self _) (by omega) (hSX) hP hS (lv_sub hl [2, 3, 4, 5, 1, 0] rfl)

set_option maxHeartbeats 4000000 in
set_option maxRecDepth 100000 in
theorem c_M_join_o0 (l : Launch) (D : va_G) (cI cB : ClassId) (ad : Nat → Nat) (hI : GI 13 ad) (M : PM) (n : Nat) (len : Nat → Nat) (ch : Nat → Nat → Nat) (sp : Nat → Option Nat) (hR : RN M n len ch sp) (a b9 : Nat) (ha : a < n) (hb9 : b9 < n)  (k8 : Nat) (ho : Fst (sameT len ch (cutF ch a (len a) + len b9) (scJ0 ch a b9 (cutF ch a (len a)))) n (some k8)) (h24 : cutF ch a (len a) + len b9 ≤ 24) : MM l D cI cB ad y_M_join b_M_join 6 (some .int) 3 67 [.ref (ad (0)), .int (nI (a)), .int (nI (b9)), .int (nI (0))] M (fun v M' => v = some (.int (nI k8)) ∧ SX M M' ∧ M' 0 0 = nI 0) := by
  refine MC.of (by decide) (Nat.le_of_ble_eq_true rfl) ?_
  intro p e s m below meth c ls hx hb hr hml hown hg hlocks hK hN hP hS hl
  have hown : s.vm.findClass R_M = some m.cls := hown
  have hl : lv_has ls 6 [(0, .ref (ad (0))), (1, .int (nI (a))), (2, .int (nI (b9))), (3, .int (nI (0)))] := hl
  have hn60 : n ≤ 60 := hR.1
  have hl24 := hR.2.2.1
  have hspn := hR.2.2.2.2.1
  have hch := hR.2.2.2.2.2
  have la := hl24 a ha
  have lb := hl24 b9 hb9
  have hSX := SX.rf M
  have hcl := cutF_le ch a (len a)
  have J172 : ∀ (fu172 : Nat) (i : Nat) (M1 : PM) (H : Heap) (locs : List Loc) (ls : Array Slot), len b9 - i < fu172 → (i ≤ len b9) → (SX M M1) → (MK M1 (cutF ch a (len a) + i) (scJ0 ch a b9 (cutF ch a (len a)))) → va_P D clsA (gw 13 ad (cfM cI cB ad) M1) H → va_S (GA 13 ad) s.heap H locs → lv_has ls 6 [(0, .ref (ad (0))), (1, .int (nI (a))), (2, .int (nI (b9))), (3, .int (nI (0))), (5, .int (nI (i)))] → W p l e (rm_ 3 67) s m ([.ref (ad (0)), .int (nI (a)), .int (nI (b9)), .int (nI (0))] : List Value).toArray below meth c H locs 0 0 (MQ below (GQ D 13 ad (cfM cI cB ad) (fun v M' => v = some (.int (nI k8)) ∧ SX M M' ∧ M' 0 0 = nI 0)) ([.ref (ad (0)), .int (nI (a)), .int (nI (b9)), .int (nI (0))] : List Value).toArray s 0 0 (GA 13 ad)) (F0 m 172 ls []) := by
    intro fu172
    induction fu172 with
    | zero => intro i M1 H locs ls hfu; exact absurd hfu (Nat.not_lt_zero _)
    | succ fu172 ih172 =>
      intro i M1 H locs ls hfu172 hi hSX hMK hP hS hl
      have hR1 := hR.sx hSX
      refine lv_iload hx hb d_M_join_172 (lv_at hl 4 rfl) ?_
      refine lv_aload_n hx hb d_M_join_174 rfl (lv_at hl 0 rfl) ?_
      refine g_get (C := R_M) (T := T_M) (N := 19) (ci := 8) (v := .ref (ad (3))) hx hb hg i_M hown hK hP 0 (by decide) rfl rfl 4 (by decide) (hg _ k_797) rfl d_M_join_175 ?_
      refine lv_iload_n hx hb d_M_join_178 rfl (lv_at hl 2 rfl) ?_
      refine g_iald hx hb hK hP 3 0 (by decide) rfl rfl (by decide) (j := b9) (by omega) d_M_join_179 ?_
      refine n_top (y := (nI (len (b9)))) ((hR1.2.2.1 (b9) (by omega)).2.2) ?_
      refine n_ge (a := i) (b := len (b9)) (tgt := 200) hx hb d_M_join_180 (by decide) (by omega) (by omega) (fun c_180 => ?_) (fun c_180 => ?_)
      · have hMK : MK M1 (cutF ch a (len a) + len b9) (scJ0 ch a b9 (cutF ch a (len a))) := by rw [show cutF ch a (len a) + len b9 = cutF ch a (len a) + i by omega]; exact hMK
        refine lv_aload_n hx hb d_M_join_200 rfl (lv_at hl 0 rfl) ?_
        refine lv_aload_n hx hb d_M_join_201 rfl (lv_at hl 0 rfl) ?_
        refine c_V (own := R_M) (index := 79) (As := []) (rest := [.ref (ad (0))]) hx hb hml hown hg hK (fun _ _ _ h => h) (fun _ _ => trivial) (fun _ h => h) hP hS 0 (c_M_isTooMuch l D cI cB ad hI M1 n len ch sp hR1 (cutF ch a (len a) + len b9) (scJ0 ch a b9 (cutF ch a (len a))) hMK (some k8) ho false ⟨fun h => (by cases h), fun h => by rcases h with h | h; omega; cases h.1⟩) (by decide) (ci := 8) rfl rfl k_879 k_881 k_p25 k_9 k_882 0 rfl (by decide +kernel) (by decide) rfl hl.1 (Nat.le_of_ble_eq_true rfl) d_M_join_202 (fun v M' H locs hq hP _ _ hS => ?_)
        obtain ⟨rfl, rfl⟩ := hq
        refine W.eq (g2 := F0 m 205 ls [.int (bI (false)), .ref (ad (0))]) rfl ?_
        refine z_eq (t := false) (tgt := 212) hx hb d_M_join_205 (by decide) (fun _ => ?_) (fun h9 => absurd h9 (by decide))
        refine n_const (k := 0) hx hb d_M_join_212 (by decide) ?_
        refine c_V (own := R_M) (index := 57) (As := [.int (nI (0))]) (rest := []) hx hb hml hown hg hK (fun _ _ _ h => h) (fun _ _ => trivial) (fun _ h => h) hP hS 0 (c_M_refuses l D cI cB ad hI M1 (0) (by decide)) (by decide) (ci := 8) rfl rfl k_859 k_861 k_p22 k_9 k_862 1 rfl (by decide +kernel) (by decide) rfl hl.1 (Nat.le_of_ble_eq_true rfl) d_M_join_213 (fun v M_1 H locs hq hP _ _ hS => ?_)
        obtain ⟨rfl, eM_1⟩ := hq
        have hR1 := hR1.sx (SX.thr M1 (nI 0))
        rw [← eM_1] at hR1
        have hSX := hSX.tr (SX.thr M1 (nI 0))
        rw [← eM_1] at hSX
        have hMK := hMK.thr (nI 0)
        rw [← eM_1] at hMK
        refine W.eq (g2 := F0 m 216 ls [.int (bI (false))]) rfl ?_
        refine z_eq (t := false) (tgt := 223) hx hb d_M_join_216 (by decide) (fun _ => ?_) (fun h9 => absurd h9 (by decide))
        refine lv_aload_n hx hb d_M_join_223 rfl (lv_at hl 0 rfl) ?_
        refine c_V (own := R_M) (index := 83) (As := []) (rest := []) hx hb hml hown hg hK (fun _ _ _ h => h) (fun _ _ => trivial) (fun _ h => h) hP hS 0 (c_M_comes_old l D cI cB ad hI M_1 n len ch sp hR1 (cutF ch a (len a) + len b9) (scJ0 ch a b9 (cutF ch a (len a))) hMK k8 ho) (by decide) (ci := 8) rfl rfl k_891 k_893 k_p28 k_9 k_894 0 rfl (by decide +kernel) (by decide) rfl hl.1 (Nat.le_of_ble_eq_true rfl) d_M_join_224 (fun v M' H locs hq hP _ _ hS => ?_)
        obtain ⟨rfl, rfl⟩ := hq
        refine W.eq (g2 := F0 m 227 ls [.int (nI (k8))]) rfl ?_
        exact r_i hx hb hr hlocks hP hS (⟨rfl, hSX, by rw [eM_1, pu_s]⟩) d_M_join_227
      · refine lv_aload_n hx hb d_M_join_183 rfl (lv_at hl 0 rfl) ?_
        refine lv_aload_n hx hb d_M_join_184 rfl (lv_at hl 0 rfl) ?_
        refine lv_iload_n hx hb d_M_join_185 rfl (lv_at hl 2 rfl) ?_
        refine lv_iload hx hb d_M_join_186 (lv_at hl 4 rfl) ?_
        refine c_V (own := R_M) (index := 64) (As := [.int (nI (b9)), .int (nI (i))]) (rest := [.ref (ad (0))]) hx hb hml hown hg hK (fun _ _ _ h => h) (fun _ _ => trivial) (fun _ h => h) hP hS 0 (c_M_at l D cI cB ad hI M1 n len ch sp hR1 (b9) (i) (by omega) (by omega)) (by decide) (ci := 8) rfl rfl k_887 k_889 k_p27 k_9 k_890 2 rfl (by decide +kernel) (by decide) rfl hl.1 (Nat.le_of_ble_eq_true rfl) d_M_join_188 (fun v M' H locs hq hP _ _ hS => ?_)
        obtain ⟨rfl, rfl⟩ := hq
        refine W.eq (g2 := F0 m 191 ls [.int (nI (ch (b9) (i))), .ref (ad (0))]) rfl ?_
        refine c_V (own := R_M) (index := 75) (As := [.int (nI (ch (b9) (i)))]) (rest := []) hx hb hml hown hg hK (fun _ _ _ h => h) (fun _ _ => trivial) (fun _ h => h) hP hS 0 (c_M_makes l D cI cB ad hI M1 (cutF ch a (len a) + i) (scJ0 ch a b9 (cutF ch a (len a))) hMK (ch (b9) (i)) (by have := hch b9 i hb9 (by omega); omega) (by omega)) (by decide) (ci := 8) rfl rfl k_875 k_877 k_p24 k_9 k_878 1 rfl (by decide +kernel) (by decide) rfl hl.1 (Nat.le_of_ble_eq_true rfl) d_M_join_191 (fun v M_2 H locs hq hP _ _ hS => ?_)
        obtain ⟨rfl, eM_2⟩ := hq
        rw [show ch (b9) (i) = (scJ0 ch a b9 (cutF ch a (len a))) (cutF ch a (len a) + i) from (by unfold scJ0; rw [if_neg (by omega)]; congr 1; omega)] at eM_2
        have hSX : SX M M_2 := hSX.tr (by rw [eM_2]; exact SX.add _ _ _ _)
        have hMK : MK M_2 (cutF ch a (len a) + i + 1) (scJ0 ch a b9 (cutF ch a (len a))) := by rw [eM_2]; exact hMK.add (by omega) (by unfold scJ0; rw [if_neg (by omega)]; have := hch b9 (cutF ch a (len a) + i - cutF ch a (len a)) hb9 (by omega); omega)
        have hR1 := hR.sx hSX
        refine W.eq (g2 := F0 m 194 ls []) rfl ?_
        refine n_inc (lv' := [(5, .int (nI (i + 1))), (0, .ref (ad (0))), (1, .int (nI (a))), (2, .int (nI (b9))), (3, .int (nI (0)))]) hx hb d_M_join_194 hl (k := 4) rfl (by decide) rfl (fun ls hl => ?_)
        refine lv_goto (tgt := 172) hx hb d_M_join_197 (by decide) ?_
        exact ih172 (i + 1) M_2 _ _ ls (by omega) (by omega) (hSX) (by rw [show cutF ch a (len a) + (i + 1) = cutF ch a (len a) + i + 1 by omega]; exact hMK) hP hS (lv_sub hl [1, 2, 3, 4, 0] rfl)
  have J134 : ∀ (fu134 : Nat) (i : Nat) (M1 : PM) (H : Heap) (locs : List Loc) (ls : Array Slot), cutF ch a (len a) - i < fu134 → (i ≤ cutF ch a (len a)) → (SX M M1) → (MK M1 (i) (scJ0 ch a b9 (cutF ch a (len a)))) → va_P D clsA (gw 13 ad (cfM cI cB ad) M1) H → va_S (GA 13 ad) s.heap H locs → lv_has ls 6 [(0, .ref (ad (0))), (1, .int (nI (a))), (2, .int (nI (b9))), (3, .int (nI (0))), (4, .int (nI (cutF ch a (len a)))), (5, .int (nI (i)))] → W p l e (rm_ 3 67) s m ([.ref (ad (0)), .int (nI (a)), .int (nI (b9)), .int (nI (0))] : List Value).toArray below meth c H locs 0 0 (MQ below (GQ D 13 ad (cfM cI cB ad) (fun v M' => v = some (.int (nI k8)) ∧ SX M M' ∧ M' 0 0 = nI 0)) ([.ref (ad (0)), .int (nI (a)), .int (nI (b9)), .int (nI (0))] : List Value).toArray s 0 0 (GA 13 ad)) (F0 m 134 ls []) := by
    intro fu134
    induction fu134 with
    | zero => intro i M1 H locs ls hfu; exact absurd hfu (Nat.not_lt_zero _)
    | succ fu134 ih134 =>
      intro i M1 H locs ls hfu134 hi hSX hMK hP hS hl
      have hR1 := hR.sx hSX
      refine lv_iload hx hb d_M_join_134 (lv_at hl 5 rfl) ?_
      refine lv_iload hx hb d_M_join_136 (lv_at hl 4 rfl) ?_
      refine n_ge (a := i) (b := cutF ch a (len a)) (tgt := 158) hx hb d_M_join_138 (by decide) (by omega) (by omega) (fun c_138 => ?_) (fun c_138 => ?_)
      · refine lv_iload_n hx hb d_M_join_158 rfl (lv_at hl 3 rfl) ?_
        refine n_const (k := 1) hx hb d_M_join_159 (by decide) ?_
        refine n_ne (a := 0) (b := 1) (tgt := 169) hx hb d_M_join_160 (by decide) (by decide) (by decide) (fun _ => ?_) (fun h9 => absurd h9 (by decide))
        refine n_const (k := 0) hx hb d_M_join_169 (by decide) ?_
        refine lv_istore (lv' := [(5, .int (nI (0))), (0, .ref (ad (0))), (1, .int (nI (a))), (2, .int (nI (b9))), (3, .int (nI (0))), (4, .int (nI (cutF ch a (len a))))]) hx hb d_M_join_170 hl (by decide) rfl (fun ls hl => ?_)
        exact J172 (_ + 1) (0) M1 _ _ ls (Nat.lt_succ_self _) (by omega) (hSX) (by rw [show cutF ch a (len a) + 0 = i by omega]; exact hMK) hP hS (lv_sub hl [1, 2, 3, 4, 0] rfl)
      · refine lv_aload_n hx hb d_M_join_141 rfl (lv_at hl 0 rfl) ?_
        refine lv_aload_n hx hb d_M_join_142 rfl (lv_at hl 0 rfl) ?_
        refine lv_iload_n hx hb d_M_join_143 rfl (lv_at hl 1 rfl) ?_
        refine lv_iload hx hb d_M_join_144 (lv_at hl 5 rfl) ?_
        refine c_V (own := R_M) (index := 64) (As := [.int (nI (a)), .int (nI (i))]) (rest := [.ref (ad (0))]) hx hb hml hown hg hK (fun _ _ _ h => h) (fun _ _ => trivial) (fun _ h => h) hP hS 0 (c_M_at l D cI cB ad hI M1 n len ch sp hR1 (a) (i) (by omega) (by omega)) (by decide) (ci := 8) rfl rfl k_887 k_889 k_p27 k_9 k_890 2 rfl (by decide +kernel) (by decide) rfl hl.1 (Nat.le_of_ble_eq_true rfl) d_M_join_146 (fun v M' H locs hq hP _ _ hS => ?_)
        obtain ⟨rfl, rfl⟩ := hq
        refine W.eq (g2 := F0 m 149 ls [.int (nI (ch (a) (i))), .ref (ad (0))]) rfl ?_
        refine c_V (own := R_M) (index := 75) (As := [.int (nI (ch (a) (i)))]) (rest := []) hx hb hml hown hg hK (fun _ _ _ h => h) (fun _ _ => trivial) (fun _ h => h) hP hS 0 (c_M_makes l D cI cB ad hI M1 (i) (scJ0 ch a b9 (cutF ch a (len a))) hMK (ch (a) (i)) (by have := hch a i ha (by omega); omega) (by omega)) (by decide) (ci := 8) rfl rfl k_875 k_877 k_p24 k_9 k_878 1 rfl (by decide +kernel) (by decide) rfl hl.1 (Nat.le_of_ble_eq_true rfl) d_M_join_149 (fun v M_3 H locs hq hP _ _ hS => ?_)
        obtain ⟨rfl, eM_3⟩ := hq
        rw [show ch (a) (i) = (scJ0 ch a b9 (cutF ch a (len a))) (i) from (if_pos (by omega)).symm] at eM_3
        have hSX : SX M M_3 := hSX.tr (by rw [eM_3]; exact SX.add _ _ _ _)
        have hMK : MK M_3 (i + 1) (scJ0 ch a b9 (cutF ch a (len a))) := by rw [eM_3]; exact hMK.add (by omega) (by unfold scJ0; rw [if_pos (by omega)]; have := hch a i ha (by omega); omega)
        have hR1 := hR.sx hSX
        refine W.eq (g2 := F0 m 152 ls []) rfl ?_
        refine n_inc (lv' := [(5, .int (nI (i + 1))), (0, .ref (ad (0))), (1, .int (nI (a))), (2, .int (nI (b9))), (3, .int (nI (0))), (4, .int (nI (cutF ch a (len a))))]) hx hb d_M_join_152 hl (k := 5) rfl (by decide) rfl (fun ls hl => ?_)
        refine lv_goto (tgt := 134) hx hb d_M_join_155 (by decide) ?_
        exact ih134 (i + 1) M_3 _ _ ls (by omega) (by omega) (hSX) (hMK) hP hS (lv_sub hl [1, 2, 3, 4, 5, 0] rfl)
  have J49 : ∀ (fu49 : Nat) (i : Nat) (M1 : PM) (H : Heap) (locs : List Loc) (ls : Array Slot), len a - i < fu49 → (i ≤ len a) → (SX M M1) → va_P D clsA (gw 13 ad (cfM cI cB ad) M1) H → va_S (GA 13 ad) s.heap H locs → lv_has ls 6 [(0, .ref (ad (0))), (1, .int (nI (a))), (2, .int (nI (b9))), (3, .int (nI (0))), (4, .int (nI (cutF ch a i))), (5, .int (nI (i)))] → W p l e (rm_ 3 67) s m ([.ref (ad (0)), .int (nI (a)), .int (nI (b9)), .int (nI (0))] : List Value).toArray below meth c H locs 0 0 (MQ below (GQ D 13 ad (cfM cI cB ad) (fun v M' => v = some (.int (nI k8)) ∧ SX M M' ∧ M' 0 0 = nI 0)) ([.ref (ad (0)), .int (nI (a)), .int (nI (b9)), .int (nI (0))] : List Value).toArray s 0 0 (GA 13 ad)) (F0 m 49 ls []) := by
    intro fu49
    induction fu49 with
    | zero => intro i M1 H locs ls hfu; exact absurd hfu (Nat.not_lt_zero _)
    | succ fu49 ih49 =>
      intro i M1 H locs ls hfu49 hi hSX hP hS hl
      have hR1 := hR.sx hSX
      refine lv_iload hx hb d_M_join_49 (lv_at hl 5 rfl) ?_
      refine lv_aload_n hx hb d_M_join_51 rfl (lv_at hl 0 rfl) ?_
      refine g_get (C := R_M) (T := T_M) (N := 19) (ci := 8) (v := .ref (ad (3))) hx hb hg i_M hown hK hP 0 (by decide) rfl rfl 4 (by decide) (hg _ k_797) rfl d_M_join_52 ?_
      refine lv_iload_n hx hb d_M_join_55 rfl (lv_at hl 1 rfl) ?_
      refine g_iald hx hb hK hP 3 0 (by decide) rfl rfl (by decide) (j := a) (by omega) d_M_join_56 ?_
      refine n_top (y := (nI (len (a)))) ((hR1.2.2.1 (a) (by omega)).2.2) ?_
      refine n_ge (a := i) (b := len (a)) (tgt := 93) hx hb d_M_join_57 (by decide) (by omega) (by omega) (fun c_57 => ?_) (fun c_57 => ?_)
      · have e9 : i = len a := by omega
        rw [e9] at hl
        have hl : lv_has ls 6 [(0, .ref (ad (0))), (1, .int (nI (a))), (2, .int (nI (b9))), (3, .int (nI (0))), (4, .int (nI (cutF ch a (len a)))), (5, .int (nI (len a)))] := hl
        refine lv_iload_n hx hb d_M_join_93 rfl (lv_at hl 3 rfl) ?_
        refine n_const (k := 1) hx hb d_M_join_94 (by decide) ?_
        refine n_ne (a := 0) (b := 1) (tgt := 127) hx hb d_M_join_95 (by decide) (by decide) (by decide) (fun _ => ?_) (fun h9 => absurd h9 (by decide))
        refine lv_aload_n hx hb d_M_join_127 rfl (lv_at hl 0 rfl) ?_
        refine c_V (own := R_M) (index := 72) (As := []) (rest := []) hx hb hml hown hg hK (fun _ _ _ h => h) (fun _ _ => trivial) (fun _ h => h) hP hS 0 (c_M_begin l D cI cB ad hI M1) (by decide) (ci := 8) rfl rfl k_871 k_873 k_p23 k_9 k_874 0 rfl (by decide +kernel) (by decide) rfl hl.1 (Nat.le_of_ble_eq_true rfl) d_M_join_128 (fun v M_4 H locs hq hP _ _ hS => ?_)
        obtain ⟨rfl, eM_4⟩ := hq
        have hSX : SX M M_4 := hSX.tr (by rw [eM_4]; exact SX.begin _)
        have hMK : MK M_4 0 (scJ0 ch a b9 (cutF ch a (len a))) := by rw [eM_4]; exact MK.begin _ _
        have hR1 := hR.sx hSX
        refine W.eq (g2 := F0 m 131 ls []) rfl ?_
        refine n_const (k := 0) hx hb d_M_join_131 (by decide) ?_
        refine lv_istore (lv' := [(5, .int (nI (0))), (0, .ref (ad (0))), (1, .int (nI (a))), (2, .int (nI (b9))), (3, .int (nI (0))), (4, .int (nI (cutF ch a (len a))))]) hx hb d_M_join_132 hl (by decide) rfl (fun ls hl => ?_)
        exact J134 (_ + 1) (0) M_4 _ _ ls (Nat.lt_succ_self _) (by omega) (hSX) (hMK) hP hS (lv_sub hl [1, 2, 3, 4, 5, 0] rfl)
      · refine lv_iload_n hx hb d_M_join_60 rfl (lv_at hl 3 rfl) ?_
        refine lv_if_ne (tgt := 93) hx hb d_M_join_61 (by decide) (fun h9 => by first | exact absurd h9 (by decide) | exact absurd (by decide) h9) (fun _ => ?_)
        refine lv_aload_n hx hb d_M_join_64 rfl (lv_at hl 0 rfl) ?_
        refine lv_iload_n hx hb d_M_join_65 rfl (lv_at hl 1 rfl) ?_
        refine lv_iload hx hb d_M_join_66 (lv_at hl 5 rfl) ?_
        refine c_V (own := R_M) (index := 64) (As := [.int (nI (a)), .int (nI (i))]) (rest := []) hx hb hml hown hg hK (fun _ _ _ h => h) (fun _ _ => trivial) (fun _ h => h) hP hS 0 (c_M_at l D cI cB ad hI M1 n len ch sp hR1 (a) (i) (by omega) (by omega)) (by decide) (ci := 8) rfl rfl k_887 k_889 k_p27 k_9 k_890 2 rfl (by decide +kernel) (by decide) rfl hl.1 (Nat.le_of_ble_eq_true rfl) d_M_join_68 (fun v M' H locs hq hP _ _ hS => ?_)
        obtain ⟨rfl, rfl⟩ := hq
        refine W.eq (g2 := F0 m 71 ls [.int (nI (ch (a) (i)))]) rfl ?_
        refine n_bipush (k := 47) hx hb d_M_join_71 (by decide) ?_
        refine n_ne (a := ch (a) (i)) (b := 47) (tgt := 83) hx hb d_M_join_73 (by decide) (by have := hch a i ha (by omega); omega) (by omega) (fun c_73 => ?_) (fun c_73 => ?_)
        · have hcq : cutF ch a (i + 1) = cutF ch a i := by simp only [cutF]; rw [if_neg c_73]
          refine lv_iload hx hb d_M_join_83 (lv_at hl 4 rfl) ?_
          refine lv_istore (lv' := [(4, .int (nI (cutF ch a i))), (0, .ref (ad (0))), (1, .int (nI (a))), (2, .int (nI (b9))), (3, .int (nI (0))), (5, .int (nI (i)))]) hx hb d_M_join_85 hl (by decide) rfl (fun ls hl => ?_)
          rw [← hcq] at hl
          have hl : lv_has ls 6 [(4, .int (nI (cutF ch a (i + 1)))), (0, .ref (ad (0))), (1, .int (nI (a))), (2, .int (nI (b9))), (3, .int (nI (0))), (5, .int (nI (i)))] := hl
          refine n_inc (lv' := [(5, .int (nI (i + 1))), (4, .int (nI (cutF ch a (i + 1)))), (0, .ref (ad (0))), (1, .int (nI (a))), (2, .int (nI (b9))), (3, .int (nI (0)))]) hx hb d_M_join_87 hl (k := 5) rfl (by decide) rfl (fun ls hl => ?_)
          refine lv_goto (tgt := 49) hx hb d_M_join_90 (by decide) ?_
          exact ih49 (i + 1) M1 _ _ ls (by omega) (by omega) (hSX) hP hS (lv_sub hl [2, 3, 4, 5, 1, 0] rfl)
        · have hcq : cutF ch a (i + 1) = i + 1 := by simp only [cutF]; rw [if_pos c_73]
          refine lv_iload hx hb d_M_join_76 (lv_at hl 5 rfl) ?_
          refine n_const (k := 1) hx hb d_M_join_78 (by decide) ?_
          refine n_iadd (a := i) (b := 1) hx hb d_M_join_79 ?_
          refine lv_goto (tgt := 85) hx hb d_M_join_80 (by decide) ?_
          refine lv_istore (lv' := [(4, .int (nI ((i) + (1)))), (0, .ref (ad (0))), (1, .int (nI (a))), (2, .int (nI (b9))), (3, .int (nI (0))), (5, .int (nI (i)))]) hx hb d_M_join_85 hl (by decide) rfl (fun ls hl => ?_)
          rw [← hcq] at hl
          have hl : lv_has ls 6 [(4, .int (nI (cutF ch a (i + 1)))), (0, .ref (ad (0))), (1, .int (nI (a))), (2, .int (nI (b9))), (3, .int (nI (0))), (5, .int (nI (i)))] := hl
          refine n_inc (lv' := [(5, .int (nI (i + 1))), (4, .int (nI (cutF ch a (i + 1)))), (0, .ref (ad (0))), (1, .int (nI (a))), (2, .int (nI (b9))), (3, .int (nI (0)))]) hx hb d_M_join_87 hl (k := 5) rfl (by decide) rfl (fun ls hl => ?_)
          refine lv_goto (tgt := 49) hx hb d_M_join_90 (by decide) ?_
          exact ih49 (i + 1) M1 _ _ ls (by omega) (by omega) (hSX) hP hS (lv_sub hl [2, 3, 4, 5, 1, 0] rfl)
  refine lv_aload_n hx hb d_M_join_0 rfl (lv_at hl 0 rfl) ?_
  refine lv_aload_n hx hb d_M_join_1 rfl (lv_at hl 0 rfl) ?_
  refine lv_iload_n hx hb d_M_join_2 rfl (lv_at hl 1 rfl) ?_
  refine c_V (own := R_M) (index := 89) (As := [.int (nI (a))]) (rest := [.ref (ad (0))]) hx hb hml hown hg hK (fun _ _ _ h => h) (fun _ _ => trivial) (fun _ h => h) hP hS 0 (c_M_no l D cI cB ad hI M n len ch sp hR (nI (a)) false (no_f (by omega))) (by decide) (ci := 8) rfl rfl k_907 k_909 k_p30 k_9 k_910 1 rfl (by decide +kernel) (by decide) rfl hl.1 (Nat.le_of_ble_eq_true rfl) d_M_join_3 (fun v M' H locs hq hP _ _ hS => ?_)
  obtain ⟨rfl, rfl⟩ := hq
  refine W.eq (g2 := F0 m 6 ls [.int (bI (false)), .ref (ad (0))]) rfl ?_
  refine z_ne (t := false) (tgt := 17) hx hb d_M_join_6 (by decide) (fun h9 => absurd h9 (by decide)) (fun _ => ?_)
  refine lv_aload_n hx hb d_M_join_9 rfl (lv_at hl 0 rfl) ?_
  refine lv_iload_n hx hb d_M_join_10 rfl (lv_at hl 2 rfl) ?_
  refine c_V (own := R_M) (index := 89) (As := [.int (nI (b9))]) (rest := [.ref (ad (0))]) hx hb hml hown hg hK (fun _ _ _ h => h) (fun _ _ => trivial) (fun _ h => h) hP hS 0 (c_M_no l D cI cB ad hI M n len ch sp hR (nI (b9)) false (no_f (by omega))) (by decide) (ci := 8) rfl rfl k_907 k_909 k_p30 k_9 k_910 1 rfl (by decide +kernel) (by decide) rfl hl.1 (Nat.le_of_ble_eq_true rfl) d_M_join_11 (fun v M' H locs hq hP _ _ hS => ?_)
  obtain ⟨rfl, rfl⟩ := hq
  refine W.eq (g2 := F0 m 14 ls [.int (bI (false)), .ref (ad (0))]) rfl ?_
  refine z_eq (t := false) (tgt := 21) hx hb d_M_join_14 (by decide) (fun _ => ?_) (fun h9 => absurd h9 (by decide))
  refine lv_iload_n hx hb d_M_join_21 rfl (lv_at hl 3 rfl) ?_
  refine lv_if_lt (tgt := 30) hx hb d_M_join_22 (by decide) (fun h9 => by first | exact absurd h9 (by decide) | exact absurd (by decide) h9) (fun _ => ?_)
  refine lv_iload_n hx hb d_M_join_25 rfl (lv_at hl 3 rfl) ?_
  refine n_const (k := 1) hx hb d_M_join_26 (by decide) ?_
  refine n_le (a := 0) (b := 1) (tgt := 34) hx hb d_M_join_27 (by decide) (by decide) (by decide) (fun _ => ?_) (fun h9 => absurd h9 (by decide))
  refine n_const (k := 0) hx hb d_M_join_34 (by decide) ?_
  refine c_V (own := R_M) (index := 57) (As := [.int (nI (0))]) (rest := []) hx hb hml hown hg hK (fun _ _ _ h => h) (fun _ _ => trivial) (fun _ h => h) hP hS 0 (c_M_refuses l D cI cB ad hI M (0) (by decide)) (by decide) (ci := 8) rfl rfl k_859 k_861 k_p22 k_9 k_862 1 rfl (by decide +kernel) (by decide) rfl hl.1 (Nat.le_of_ble_eq_true rfl) d_M_join_35 (fun v M_5 H locs hq hP _ _ hS => ?_)
  obtain ⟨rfl, eM_5⟩ := hq
  have hR1 := hR.sx (SX.thr M (nI 0))
  rw [← eM_5] at hR1
  have hSX := hSX.tr (SX.thr M (nI 0))
  rw [← eM_5] at hSX
  refine W.eq (g2 := F0 m 38 ls [.int (bI (false))]) rfl ?_
  refine z_eq (t := false) (tgt := 43) hx hb d_M_join_38 (by decide) (fun _ => ?_) (fun h9 => absurd h9 (by decide))
  refine n_const (k := 0) hx hb d_M_join_43 (by decide) ?_
  refine lv_istore (lv' := [(4, .int (nI (0))), (0, .ref (ad (0))), (1, .int (nI (a))), (2, .int (nI (b9))), (3, .int (nI (0)))]) hx hb d_M_join_44 hl (by decide) rfl (fun ls hl => ?_)
  refine n_const (k := 0) hx hb d_M_join_46 (by decide) ?_
  refine lv_istore (lv' := [(5, .int (nI (0))), (4, .int (nI (0))), (0, .ref (ad (0))), (1, .int (nI (a))), (2, .int (nI (b9))), (3, .int (nI (0)))]) hx hb d_M_join_47 hl (by decide) rfl (fun ls hl => ?_)
  exact J49 (_ + 1) (0) M_5 _ _ ls (Nat.lt_succ_self _) (by omega) (hSX) hP hS (lv_sub hl [2, 3, 4, 5, 1, 0] rfl)

set_option maxHeartbeats 4000000 in
set_option maxRecDepth 100000 in
theorem c_M_join_n0 (l : Launch) (D : va_G) (cI cB : ClassId) (ad : Nat → Nat) (hI : GI 13 ad) (M : PM) (n : Nat) (len : Nat → Nat) (ch : Nat → Nat → Nat) (sp : Nat → Option Nat) (hR : RN M n len ch sp) (a b9 : Nat) (ha : a < n) (hb9 : b9 < n)  (ho : Fst (sameT len ch (cutF ch a (len a) + len b9) (scJ0 ch a b9 (cutF ch a (len a)))) n none) (h24 : cutF ch a (len a) + len b9 ≤ 24) (hn9 : n < 60) : MM l D cI cB ad y_M_join b_M_join 6 (some .int) 3 67 [.ref (ad (0)), .int (nI (a)), .int (nI (b9)), .int (nI (0))] M (fun v M' => v = some (.int (nI n)) ∧ ∃ M0, SX M M0 ∧ M0 0 0 = nI 0 ∧ CMd M0 M' n (cutF ch a (len a) + len b9) (scJ0 ch a b9 (cutF ch a (len a)))) := by
  refine MC.of (by decide) (Nat.le_of_ble_eq_true rfl) ?_
  intro p e s m below meth c ls hx hb hr hml hown hg hlocks hK hN hP hS hl
  have hown : s.vm.findClass R_M = some m.cls := hown
  have hl : lv_has ls 6 [(0, .ref (ad (0))), (1, .int (nI (a))), (2, .int (nI (b9))), (3, .int (nI (0)))] := hl
  have hn60 : n ≤ 60 := hR.1
  have hl24 := hR.2.2.1
  have hspn := hR.2.2.2.2.1
  have hch := hR.2.2.2.2.2
  have la := hl24 a ha
  have lb := hl24 b9 hb9
  have hSX := SX.rf M
  have hcl := cutF_le ch a (len a)
  have J172 : ∀ (fu172 : Nat) (i : Nat) (M1 : PM) (H : Heap) (locs : List Loc) (ls : Array Slot), len b9 - i < fu172 → (i ≤ len b9) → (SX M M1) → (MK M1 (cutF ch a (len a) + i) (scJ0 ch a b9 (cutF ch a (len a)))) → va_P D clsA (gw 13 ad (cfM cI cB ad) M1) H → va_S (GA 13 ad) s.heap H locs → lv_has ls 6 [(0, .ref (ad (0))), (1, .int (nI (a))), (2, .int (nI (b9))), (3, .int (nI (0))), (5, .int (nI (i)))] → W p l e (rm_ 3 67) s m ([.ref (ad (0)), .int (nI (a)), .int (nI (b9)), .int (nI (0))] : List Value).toArray below meth c H locs 0 0 (MQ below (GQ D 13 ad (cfM cI cB ad) (fun v M' => v = some (.int (nI n)) ∧ ∃ M0, SX M M0 ∧ M0 0 0 = nI 0 ∧ CMd M0 M' n (cutF ch a (len a) + len b9) (scJ0 ch a b9 (cutF ch a (len a))))) ([.ref (ad (0)), .int (nI (a)), .int (nI (b9)), .int (nI (0))] : List Value).toArray s 0 0 (GA 13 ad)) (F0 m 172 ls []) := by
    intro fu172
    induction fu172 with
    | zero => intro i M1 H locs ls hfu; exact absurd hfu (Nat.not_lt_zero _)
    | succ fu172 ih172 =>
      intro i M1 H locs ls hfu172 hi hSX hMK hP hS hl
      have hR1 := hR.sx hSX
      refine lv_iload hx hb d_M_join_172 (lv_at hl 4 rfl) ?_
      refine lv_aload_n hx hb d_M_join_174 rfl (lv_at hl 0 rfl) ?_
      refine g_get (C := R_M) (T := T_M) (N := 19) (ci := 8) (v := .ref (ad (3))) hx hb hg i_M hown hK hP 0 (by decide) rfl rfl 4 (by decide) (hg _ k_797) rfl d_M_join_175 ?_
      refine lv_iload_n hx hb d_M_join_178 rfl (lv_at hl 2 rfl) ?_
      refine g_iald hx hb hK hP 3 0 (by decide) rfl rfl (by decide) (j := b9) (by omega) d_M_join_179 ?_
      refine n_top (y := (nI (len (b9)))) ((hR1.2.2.1 (b9) (by omega)).2.2) ?_
      refine n_ge (a := i) (b := len (b9)) (tgt := 200) hx hb d_M_join_180 (by decide) (by omega) (by omega) (fun c_180 => ?_) (fun c_180 => ?_)
      · have hMK : MK M1 (cutF ch a (len a) + len b9) (scJ0 ch a b9 (cutF ch a (len a))) := by rw [show cutF ch a (len a) + len b9 = cutF ch a (len a) + i by omega]; exact hMK
        refine lv_aload_n hx hb d_M_join_200 rfl (lv_at hl 0 rfl) ?_
        refine lv_aload_n hx hb d_M_join_201 rfl (lv_at hl 0 rfl) ?_
        refine c_V (own := R_M) (index := 79) (As := []) (rest := [.ref (ad (0))]) hx hb hml hown hg hK (fun _ _ _ h => h) (fun _ _ => trivial) (fun _ h => h) hP hS 0 (c_M_isTooMuch l D cI cB ad hI M1 n len ch sp hR1 (cutF ch a (len a) + len b9) (scJ0 ch a b9 (cutF ch a (len a))) hMK (none) ho false ⟨fun h => (by cases h), fun h => by omega⟩) (by decide) (ci := 8) rfl rfl k_879 k_881 k_p25 k_9 k_882 0 rfl (by decide +kernel) (by decide) rfl hl.1 (Nat.le_of_ble_eq_true rfl) d_M_join_202 (fun v M' H locs hq hP _ _ hS => ?_)
        obtain ⟨rfl, rfl⟩ := hq
        refine W.eq (g2 := F0 m 205 ls [.int (bI (false)), .ref (ad (0))]) rfl ?_
        refine z_eq (t := false) (tgt := 212) hx hb d_M_join_205 (by decide) (fun _ => ?_) (fun h9 => absurd h9 (by decide))
        refine n_const (k := 0) hx hb d_M_join_212 (by decide) ?_
        refine c_V (own := R_M) (index := 57) (As := [.int (nI (0))]) (rest := []) hx hb hml hown hg hK (fun _ _ _ h => h) (fun _ _ => trivial) (fun _ h => h) hP hS 0 (c_M_refuses l D cI cB ad hI M1 (0) (by decide)) (by decide) (ci := 8) rfl rfl k_859 k_861 k_p22 k_9 k_862 1 rfl (by decide +kernel) (by decide) rfl hl.1 (Nat.le_of_ble_eq_true rfl) d_M_join_213 (fun v M_1 H locs hq hP _ _ hS => ?_)
        obtain ⟨rfl, eM_1⟩ := hq
        have hR1 := hR1.sx (SX.thr M1 (nI 0))
        rw [← eM_1] at hR1
        have hSX := hSX.tr (SX.thr M1 (nI 0))
        rw [← eM_1] at hSX
        have hMK := hMK.thr (nI 0)
        rw [← eM_1] at hMK
        refine W.eq (g2 := F0 m 216 ls [.int (bI (false))]) rfl ?_
        refine z_eq (t := false) (tgt := 223) hx hb d_M_join_216 (by decide) (fun _ => ?_) (fun h9 => absurd h9 (by decide))
        refine lv_aload_n hx hb d_M_join_223 rfl (lv_at hl 0 rfl) ?_
        refine c_V (own := R_M) (index := 83) (As := []) (rest := []) hx hb hml hown hg hK (fun _ _ _ h => h) (fun _ _ => trivial) (fun _ h => h) hP hS 0 (c_M_comes_new l D cI cB ad hI M_1 n len ch sp hR1 (cutF ch a (len a) + len b9) (scJ0 ch a b9 (cutF ch a (len a))) hMK ho hn9 (by omega) h24) (by decide) (ci := 8) rfl rfl k_891 k_893 k_p28 k_9 k_894 0 rfl (by decide +kernel) (by decide) rfl hl.1 (Nat.le_of_ble_eq_true rfl) d_M_join_224 (fun v M_2 H locs hq hP _ _ hS => ?_)
        have h009 : M_1 0 0 = nI 0 := by rw [eM_1, pu_s]
        obtain ⟨rfl, eM_2⟩ := hq
        refine W.eq (g2 := F0 m 227 ls [.int (nI (n))]) rfl ?_
        exact r_i hx hb hr hlocks hP hS (⟨rfl, _, hSX, h009, eM_2⟩) d_M_join_227
      · refine lv_aload_n hx hb d_M_join_183 rfl (lv_at hl 0 rfl) ?_
        refine lv_aload_n hx hb d_M_join_184 rfl (lv_at hl 0 rfl) ?_
        refine lv_iload_n hx hb d_M_join_185 rfl (lv_at hl 2 rfl) ?_
        refine lv_iload hx hb d_M_join_186 (lv_at hl 4 rfl) ?_
        refine c_V (own := R_M) (index := 64) (As := [.int (nI (b9)), .int (nI (i))]) (rest := [.ref (ad (0))]) hx hb hml hown hg hK (fun _ _ _ h => h) (fun _ _ => trivial) (fun _ h => h) hP hS 0 (c_M_at l D cI cB ad hI M1 n len ch sp hR1 (b9) (i) (by omega) (by omega)) (by decide) (ci := 8) rfl rfl k_887 k_889 k_p27 k_9 k_890 2 rfl (by decide +kernel) (by decide) rfl hl.1 (Nat.le_of_ble_eq_true rfl) d_M_join_188 (fun v M' H locs hq hP _ _ hS => ?_)
        obtain ⟨rfl, rfl⟩ := hq
        refine W.eq (g2 := F0 m 191 ls [.int (nI (ch (b9) (i))), .ref (ad (0))]) rfl ?_
        refine c_V (own := R_M) (index := 75) (As := [.int (nI (ch (b9) (i)))]) (rest := []) hx hb hml hown hg hK (fun _ _ _ h => h) (fun _ _ => trivial) (fun _ h => h) hP hS 0 (c_M_makes l D cI cB ad hI M1 (cutF ch a (len a) + i) (scJ0 ch a b9 (cutF ch a (len a))) hMK (ch (b9) (i)) (by have := hch b9 i hb9 (by omega); omega) (by omega)) (by decide) (ci := 8) rfl rfl k_875 k_877 k_p24 k_9 k_878 1 rfl (by decide +kernel) (by decide) rfl hl.1 (Nat.le_of_ble_eq_true rfl) d_M_join_191 (fun v M_3 H locs hq hP _ _ hS => ?_)
        obtain ⟨rfl, eM_3⟩ := hq
        rw [show ch (b9) (i) = (scJ0 ch a b9 (cutF ch a (len a))) (cutF ch a (len a) + i) from (by unfold scJ0; rw [if_neg (by omega)]; congr 1; omega)] at eM_3
        have hSX : SX M M_3 := hSX.tr (by rw [eM_3]; exact SX.add _ _ _ _)
        have hMK : MK M_3 (cutF ch a (len a) + i + 1) (scJ0 ch a b9 (cutF ch a (len a))) := by rw [eM_3]; exact hMK.add (by omega) (by unfold scJ0; rw [if_neg (by omega)]; have := hch b9 (cutF ch a (len a) + i - cutF ch a (len a)) hb9 (by omega); omega)
        have hR1 := hR.sx hSX
        refine W.eq (g2 := F0 m 194 ls []) rfl ?_
        refine n_inc (lv' := [(5, .int (nI (i + 1))), (0, .ref (ad (0))), (1, .int (nI (a))), (2, .int (nI (b9))), (3, .int (nI (0)))]) hx hb d_M_join_194 hl (k := 4) rfl (by decide) rfl (fun ls hl => ?_)
        refine lv_goto (tgt := 172) hx hb d_M_join_197 (by decide) ?_
        exact ih172 (i + 1) M_3 _ _ ls (by omega) (by omega) (hSX) (by rw [show cutF ch a (len a) + (i + 1) = cutF ch a (len a) + i + 1 by omega]; exact hMK) hP hS (lv_sub hl [1, 2, 3, 4, 0] rfl)
  have J134 : ∀ (fu134 : Nat) (i : Nat) (M1 : PM) (H : Heap) (locs : List Loc) (ls : Array Slot), cutF ch a (len a) - i < fu134 → (i ≤ cutF ch a (len a)) → (SX M M1) → (MK M1 (i) (scJ0 ch a b9 (cutF ch a (len a)))) → va_P D clsA (gw 13 ad (cfM cI cB ad) M1) H → va_S (GA 13 ad) s.heap H locs → lv_has ls 6 [(0, .ref (ad (0))), (1, .int (nI (a))), (2, .int (nI (b9))), (3, .int (nI (0))), (4, .int (nI (cutF ch a (len a)))), (5, .int (nI (i)))] → W p l e (rm_ 3 67) s m ([.ref (ad (0)), .int (nI (a)), .int (nI (b9)), .int (nI (0))] : List Value).toArray below meth c H locs 0 0 (MQ below (GQ D 13 ad (cfM cI cB ad) (fun v M' => v = some (.int (nI n)) ∧ ∃ M0, SX M M0 ∧ M0 0 0 = nI 0 ∧ CMd M0 M' n (cutF ch a (len a) + len b9) (scJ0 ch a b9 (cutF ch a (len a))))) ([.ref (ad (0)), .int (nI (a)), .int (nI (b9)), .int (nI (0))] : List Value).toArray s 0 0 (GA 13 ad)) (F0 m 134 ls []) := by
    intro fu134
    induction fu134 with
    | zero => intro i M1 H locs ls hfu; exact absurd hfu (Nat.not_lt_zero _)
    | succ fu134 ih134 =>
      intro i M1 H locs ls hfu134 hi hSX hMK hP hS hl
      have hR1 := hR.sx hSX
      refine lv_iload hx hb d_M_join_134 (lv_at hl 5 rfl) ?_
      refine lv_iload hx hb d_M_join_136 (lv_at hl 4 rfl) ?_
      refine n_ge (a := i) (b := cutF ch a (len a)) (tgt := 158) hx hb d_M_join_138 (by decide) (by omega) (by omega) (fun c_138 => ?_) (fun c_138 => ?_)
      · refine lv_iload_n hx hb d_M_join_158 rfl (lv_at hl 3 rfl) ?_
        refine n_const (k := 1) hx hb d_M_join_159 (by decide) ?_
        refine n_ne (a := 0) (b := 1) (tgt := 169) hx hb d_M_join_160 (by decide) (by decide) (by decide) (fun _ => ?_) (fun h9 => absurd h9 (by decide))
        refine n_const (k := 0) hx hb d_M_join_169 (by decide) ?_
        refine lv_istore (lv' := [(5, .int (nI (0))), (0, .ref (ad (0))), (1, .int (nI (a))), (2, .int (nI (b9))), (3, .int (nI (0))), (4, .int (nI (cutF ch a (len a))))]) hx hb d_M_join_170 hl (by decide) rfl (fun ls hl => ?_)
        exact J172 (_ + 1) (0) M1 _ _ ls (Nat.lt_succ_self _) (by omega) (hSX) (by rw [show cutF ch a (len a) + 0 = i by omega]; exact hMK) hP hS (lv_sub hl [1, 2, 3, 4, 0] rfl)
      · refine lv_aload_n hx hb d_M_join_141 rfl (lv_at hl 0 rfl) ?_
        refine lv_aload_n hx hb d_M_join_142 rfl (lv_at hl 0 rfl) ?_
        refine lv_iload_n hx hb d_M_join_143 rfl (lv_at hl 1 rfl) ?_
        refine lv_iload hx hb d_M_join_144 (lv_at hl 5 rfl) ?_
        refine c_V (own := R_M) (index := 64) (As := [.int (nI (a)), .int (nI (i))]) (rest := [.ref (ad (0))]) hx hb hml hown hg hK (fun _ _ _ h => h) (fun _ _ => trivial) (fun _ h => h) hP hS 0 (c_M_at l D cI cB ad hI M1 n len ch sp hR1 (a) (i) (by omega) (by omega)) (by decide) (ci := 8) rfl rfl k_887 k_889 k_p27 k_9 k_890 2 rfl (by decide +kernel) (by decide) rfl hl.1 (Nat.le_of_ble_eq_true rfl) d_M_join_146 (fun v M' H locs hq hP _ _ hS => ?_)
        obtain ⟨rfl, rfl⟩ := hq
        refine W.eq (g2 := F0 m 149 ls [.int (nI (ch (a) (i))), .ref (ad (0))]) rfl ?_
        refine c_V (own := R_M) (index := 75) (As := [.int (nI (ch (a) (i)))]) (rest := []) hx hb hml hown hg hK (fun _ _ _ h => h) (fun _ _ => trivial) (fun _ h => h) hP hS 0 (c_M_makes l D cI cB ad hI M1 (i) (scJ0 ch a b9 (cutF ch a (len a))) hMK (ch (a) (i)) (by have := hch a i ha (by omega); omega) (by omega)) (by decide) (ci := 8) rfl rfl k_875 k_877 k_p24 k_9 k_878 1 rfl (by decide +kernel) (by decide) rfl hl.1 (Nat.le_of_ble_eq_true rfl) d_M_join_149 (fun v M_4 H locs hq hP _ _ hS => ?_)
        obtain ⟨rfl, eM_4⟩ := hq
        rw [show ch (a) (i) = (scJ0 ch a b9 (cutF ch a (len a))) (i) from (if_pos (by omega)).symm] at eM_4
        have hSX : SX M M_4 := hSX.tr (by rw [eM_4]; exact SX.add _ _ _ _)
        have hMK : MK M_4 (i + 1) (scJ0 ch a b9 (cutF ch a (len a))) := by rw [eM_4]; exact hMK.add (by omega) (by unfold scJ0; rw [if_pos (by omega)]; have := hch a i ha (by omega); omega)
        have hR1 := hR.sx hSX
        refine W.eq (g2 := F0 m 152 ls []) rfl ?_
        refine n_inc (lv' := [(5, .int (nI (i + 1))), (0, .ref (ad (0))), (1, .int (nI (a))), (2, .int (nI (b9))), (3, .int (nI (0))), (4, .int (nI (cutF ch a (len a))))]) hx hb d_M_join_152 hl (k := 5) rfl (by decide) rfl (fun ls hl => ?_)
        refine lv_goto (tgt := 134) hx hb d_M_join_155 (by decide) ?_
        exact ih134 (i + 1) M_4 _ _ ls (by omega) (by omega) (hSX) (hMK) hP hS (lv_sub hl [1, 2, 3, 4, 5, 0] rfl)
  have J49 : ∀ (fu49 : Nat) (i : Nat) (M1 : PM) (H : Heap) (locs : List Loc) (ls : Array Slot), len a - i < fu49 → (i ≤ len a) → (SX M M1) → va_P D clsA (gw 13 ad (cfM cI cB ad) M1) H → va_S (GA 13 ad) s.heap H locs → lv_has ls 6 [(0, .ref (ad (0))), (1, .int (nI (a))), (2, .int (nI (b9))), (3, .int (nI (0))), (4, .int (nI (cutF ch a i))), (5, .int (nI (i)))] → W p l e (rm_ 3 67) s m ([.ref (ad (0)), .int (nI (a)), .int (nI (b9)), .int (nI (0))] : List Value).toArray below meth c H locs 0 0 (MQ below (GQ D 13 ad (cfM cI cB ad) (fun v M' => v = some (.int (nI n)) ∧ ∃ M0, SX M M0 ∧ M0 0 0 = nI 0 ∧ CMd M0 M' n (cutF ch a (len a) + len b9) (scJ0 ch a b9 (cutF ch a (len a))))) ([.ref (ad (0)), .int (nI (a)), .int (nI (b9)), .int (nI (0))] : List Value).toArray s 0 0 (GA 13 ad)) (F0 m 49 ls []) := by
    intro fu49
    induction fu49 with
    | zero => intro i M1 H locs ls hfu; exact absurd hfu (Nat.not_lt_zero _)
    | succ fu49 ih49 =>
      intro i M1 H locs ls hfu49 hi hSX hP hS hl
      have hR1 := hR.sx hSX
      refine lv_iload hx hb d_M_join_49 (lv_at hl 5 rfl) ?_
      refine lv_aload_n hx hb d_M_join_51 rfl (lv_at hl 0 rfl) ?_
      refine g_get (C := R_M) (T := T_M) (N := 19) (ci := 8) (v := .ref (ad (3))) hx hb hg i_M hown hK hP 0 (by decide) rfl rfl 4 (by decide) (hg _ k_797) rfl d_M_join_52 ?_
      refine lv_iload_n hx hb d_M_join_55 rfl (lv_at hl 1 rfl) ?_
      refine g_iald hx hb hK hP 3 0 (by decide) rfl rfl (by decide) (j := a) (by omega) d_M_join_56 ?_
      refine n_top (y := (nI (len (a)))) ((hR1.2.2.1 (a) (by omega)).2.2) ?_
      refine n_ge (a := i) (b := len (a)) (tgt := 93) hx hb d_M_join_57 (by decide) (by omega) (by omega) (fun c_57 => ?_) (fun c_57 => ?_)
      · have e9 : i = len a := by omega
        rw [e9] at hl
        have hl : lv_has ls 6 [(0, .ref (ad (0))), (1, .int (nI (a))), (2, .int (nI (b9))), (3, .int (nI (0))), (4, .int (nI (cutF ch a (len a)))), (5, .int (nI (len a)))] := hl
        refine lv_iload_n hx hb d_M_join_93 rfl (lv_at hl 3 rfl) ?_
        refine n_const (k := 1) hx hb d_M_join_94 (by decide) ?_
        refine n_ne (a := 0) (b := 1) (tgt := 127) hx hb d_M_join_95 (by decide) (by decide) (by decide) (fun _ => ?_) (fun h9 => absurd h9 (by decide))
        refine lv_aload_n hx hb d_M_join_127 rfl (lv_at hl 0 rfl) ?_
        refine c_V (own := R_M) (index := 72) (As := []) (rest := []) hx hb hml hown hg hK (fun _ _ _ h => h) (fun _ _ => trivial) (fun _ h => h) hP hS 0 (c_M_begin l D cI cB ad hI M1) (by decide) (ci := 8) rfl rfl k_871 k_873 k_p23 k_9 k_874 0 rfl (by decide +kernel) (by decide) rfl hl.1 (Nat.le_of_ble_eq_true rfl) d_M_join_128 (fun v M_5 H locs hq hP _ _ hS => ?_)
        obtain ⟨rfl, eM_5⟩ := hq
        have hSX : SX M M_5 := hSX.tr (by rw [eM_5]; exact SX.begin _)
        have hMK : MK M_5 0 (scJ0 ch a b9 (cutF ch a (len a))) := by rw [eM_5]; exact MK.begin _ _
        have hR1 := hR.sx hSX
        refine W.eq (g2 := F0 m 131 ls []) rfl ?_
        refine n_const (k := 0) hx hb d_M_join_131 (by decide) ?_
        refine lv_istore (lv' := [(5, .int (nI (0))), (0, .ref (ad (0))), (1, .int (nI (a))), (2, .int (nI (b9))), (3, .int (nI (0))), (4, .int (nI (cutF ch a (len a))))]) hx hb d_M_join_132 hl (by decide) rfl (fun ls hl => ?_)
        exact J134 (_ + 1) (0) M_5 _ _ ls (Nat.lt_succ_self _) (by omega) (hSX) (hMK) hP hS (lv_sub hl [1, 2, 3, 4, 5, 0] rfl)
      · refine lv_iload_n hx hb d_M_join_60 rfl (lv_at hl 3 rfl) ?_
        refine lv_if_ne (tgt := 93) hx hb d_M_join_61 (by decide) (fun h9 => by first | exact absurd h9 (by decide) | exact absurd (by decide) h9) (fun _ => ?_)
        refine lv_aload_n hx hb d_M_join_64 rfl (lv_at hl 0 rfl) ?_
        refine lv_iload_n hx hb d_M_join_65 rfl (lv_at hl 1 rfl) ?_
        refine lv_iload hx hb d_M_join_66 (lv_at hl 5 rfl) ?_
        refine c_V (own := R_M) (index := 64) (As := [.int (nI (a)), .int (nI (i))]) (rest := []) hx hb hml hown hg hK (fun _ _ _ h => h) (fun _ _ => trivial) (fun _ h => h) hP hS 0 (c_M_at l D cI cB ad hI M1 n len ch sp hR1 (a) (i) (by omega) (by omega)) (by decide) (ci := 8) rfl rfl k_887 k_889 k_p27 k_9 k_890 2 rfl (by decide +kernel) (by decide) rfl hl.1 (Nat.le_of_ble_eq_true rfl) d_M_join_68 (fun v M' H locs hq hP _ _ hS => ?_)
        obtain ⟨rfl, rfl⟩ := hq
        refine W.eq (g2 := F0 m 71 ls [.int (nI (ch (a) (i)))]) rfl ?_
        refine n_bipush (k := 47) hx hb d_M_join_71 (by decide) ?_
        refine n_ne (a := ch (a) (i)) (b := 47) (tgt := 83) hx hb d_M_join_73 (by decide) (by have := hch a i ha (by omega); omega) (by omega) (fun c_73 => ?_) (fun c_73 => ?_)
        · have hcq : cutF ch a (i + 1) = cutF ch a i := by simp only [cutF]; rw [if_neg c_73]
          refine lv_iload hx hb d_M_join_83 (lv_at hl 4 rfl) ?_
          refine lv_istore (lv' := [(4, .int (nI (cutF ch a i))), (0, .ref (ad (0))), (1, .int (nI (a))), (2, .int (nI (b9))), (3, .int (nI (0))), (5, .int (nI (i)))]) hx hb d_M_join_85 hl (by decide) rfl (fun ls hl => ?_)
          rw [← hcq] at hl
          have hl : lv_has ls 6 [(4, .int (nI (cutF ch a (i + 1)))), (0, .ref (ad (0))), (1, .int (nI (a))), (2, .int (nI (b9))), (3, .int (nI (0))), (5, .int (nI (i)))] := hl
          refine n_inc (lv' := [(5, .int (nI (i + 1))), (4, .int (nI (cutF ch a (i + 1)))), (0, .ref (ad (0))), (1, .int (nI (a))), (2, .int (nI (b9))), (3, .int (nI (0)))]) hx hb d_M_join_87 hl (k := 5) rfl (by decide) rfl (fun ls hl => ?_)
          refine lv_goto (tgt := 49) hx hb d_M_join_90 (by decide) ?_
          exact ih49 (i + 1) M1 _ _ ls (by omega) (by omega) (hSX) hP hS (lv_sub hl [2, 3, 4, 5, 1, 0] rfl)
        · have hcq : cutF ch a (i + 1) = i + 1 := by simp only [cutF]; rw [if_pos c_73]
          refine lv_iload hx hb d_M_join_76 (lv_at hl 5 rfl) ?_
          refine n_const (k := 1) hx hb d_M_join_78 (by decide) ?_
          refine n_iadd (a := i) (b := 1) hx hb d_M_join_79 ?_
          refine lv_goto (tgt := 85) hx hb d_M_join_80 (by decide) ?_
          refine lv_istore (lv' := [(4, .int (nI ((i) + (1)))), (0, .ref (ad (0))), (1, .int (nI (a))), (2, .int (nI (b9))), (3, .int (nI (0))), (5, .int (nI (i)))]) hx hb d_M_join_85 hl (by decide) rfl (fun ls hl => ?_)
          rw [← hcq] at hl
          have hl : lv_has ls 6 [(4, .int (nI (cutF ch a (i + 1)))), (0, .ref (ad (0))), (1, .int (nI (a))), (2, .int (nI (b9))), (3, .int (nI (0))), (5, .int (nI (i)))] := hl
          refine n_inc (lv' := [(5, .int (nI (i + 1))), (4, .int (nI (cutF ch a (i + 1)))), (0, .ref (ad (0))), (1, .int (nI (a))), (2, .int (nI (b9))), (3, .int (nI (0)))]) hx hb d_M_join_87 hl (k := 5) rfl (by decide) rfl (fun ls hl => ?_)
          refine lv_goto (tgt := 49) hx hb d_M_join_90 (by decide) ?_
          exact ih49 (i + 1) M1 _ _ ls (by omega) (by omega) (hSX) hP hS (lv_sub hl [2, 3, 4, 5, 1, 0] rfl)
  refine lv_aload_n hx hb d_M_join_0 rfl (lv_at hl 0 rfl) ?_
  refine lv_aload_n hx hb d_M_join_1 rfl (lv_at hl 0 rfl) ?_
  refine lv_iload_n hx hb d_M_join_2 rfl (lv_at hl 1 rfl) ?_
  refine c_V (own := R_M) (index := 89) (As := [.int (nI (a))]) (rest := [.ref (ad (0))]) hx hb hml hown hg hK (fun _ _ _ h => h) (fun _ _ => trivial) (fun _ h => h) hP hS 0 (c_M_no l D cI cB ad hI M n len ch sp hR (nI (a)) false (no_f (by omega))) (by decide) (ci := 8) rfl rfl k_907 k_909 k_p30 k_9 k_910 1 rfl (by decide +kernel) (by decide) rfl hl.1 (Nat.le_of_ble_eq_true rfl) d_M_join_3 (fun v M' H locs hq hP _ _ hS => ?_)
  obtain ⟨rfl, rfl⟩ := hq
  refine W.eq (g2 := F0 m 6 ls [.int (bI (false)), .ref (ad (0))]) rfl ?_
  refine z_ne (t := false) (tgt := 17) hx hb d_M_join_6 (by decide) (fun h9 => absurd h9 (by decide)) (fun _ => ?_)
  refine lv_aload_n hx hb d_M_join_9 rfl (lv_at hl 0 rfl) ?_
  refine lv_iload_n hx hb d_M_join_10 rfl (lv_at hl 2 rfl) ?_
  refine c_V (own := R_M) (index := 89) (As := [.int (nI (b9))]) (rest := [.ref (ad (0))]) hx hb hml hown hg hK (fun _ _ _ h => h) (fun _ _ => trivial) (fun _ h => h) hP hS 0 (c_M_no l D cI cB ad hI M n len ch sp hR (nI (b9)) false (no_f (by omega))) (by decide) (ci := 8) rfl rfl k_907 k_909 k_p30 k_9 k_910 1 rfl (by decide +kernel) (by decide) rfl hl.1 (Nat.le_of_ble_eq_true rfl) d_M_join_11 (fun v M' H locs hq hP _ _ hS => ?_)
  obtain ⟨rfl, rfl⟩ := hq
  refine W.eq (g2 := F0 m 14 ls [.int (bI (false)), .ref (ad (0))]) rfl ?_
  refine z_eq (t := false) (tgt := 21) hx hb d_M_join_14 (by decide) (fun _ => ?_) (fun h9 => absurd h9 (by decide))
  refine lv_iload_n hx hb d_M_join_21 rfl (lv_at hl 3 rfl) ?_
  refine lv_if_lt (tgt := 30) hx hb d_M_join_22 (by decide) (fun h9 => by first | exact absurd h9 (by decide) | exact absurd (by decide) h9) (fun _ => ?_)
  refine lv_iload_n hx hb d_M_join_25 rfl (lv_at hl 3 rfl) ?_
  refine n_const (k := 1) hx hb d_M_join_26 (by decide) ?_
  refine n_le (a := 0) (b := 1) (tgt := 34) hx hb d_M_join_27 (by decide) (by decide) (by decide) (fun _ => ?_) (fun h9 => absurd h9 (by decide))
  refine n_const (k := 0) hx hb d_M_join_34 (by decide) ?_
  refine c_V (own := R_M) (index := 57) (As := [.int (nI (0))]) (rest := []) hx hb hml hown hg hK (fun _ _ _ h => h) (fun _ _ => trivial) (fun _ h => h) hP hS 0 (c_M_refuses l D cI cB ad hI M (0) (by decide)) (by decide) (ci := 8) rfl rfl k_859 k_861 k_p22 k_9 k_862 1 rfl (by decide +kernel) (by decide) rfl hl.1 (Nat.le_of_ble_eq_true rfl) d_M_join_35 (fun v M_6 H locs hq hP _ _ hS => ?_)
  obtain ⟨rfl, eM_6⟩ := hq
  have hR1 := hR.sx (SX.thr M (nI 0))
  rw [← eM_6] at hR1
  have hSX := hSX.tr (SX.thr M (nI 0))
  rw [← eM_6] at hSX
  refine W.eq (g2 := F0 m 38 ls [.int (bI (false))]) rfl ?_
  refine z_eq (t := false) (tgt := 43) hx hb d_M_join_38 (by decide) (fun _ => ?_) (fun h9 => absurd h9 (by decide))
  refine n_const (k := 0) hx hb d_M_join_43 (by decide) ?_
  refine lv_istore (lv' := [(4, .int (nI (0))), (0, .ref (ad (0))), (1, .int (nI (a))), (2, .int (nI (b9))), (3, .int (nI (0)))]) hx hb d_M_join_44 hl (by decide) rfl (fun ls hl => ?_)
  refine n_const (k := 0) hx hb d_M_join_46 (by decide) ?_
  refine lv_istore (lv' := [(5, .int (nI (0))), (4, .int (nI (0))), (0, .ref (ad (0))), (1, .int (nI (a))), (2, .int (nI (b9))), (3, .int (nI (0)))]) hx hb d_M_join_47 hl (by decide) rfl (fun ls hl => ?_)
  exact J49 (_ + 1) (0) M_6 _ _ ls (Nat.lt_succ_self _) (by omega) (hSX) hP hS (lv_sub hl [2, 3, 4, 5, 1, 0] rfl)

set_option maxHeartbeats 4000000 in
set_option maxRecDepth 100000 in
theorem c_M_join_31 (l : Launch) (D : va_G) (cI cB : ClassId) (ad : Nat → Nat) (hI : GI 13 ad) (M : PM) (n : Nat) (len : Nat → Nat) (ch : Nat → Nat → Nat) (sp : Nat → Option Nat) (hR : RN M n len ch sp) (a b9 : Nat) (ha : a < n) (hb9 : b9 < n) (c9 : Nat) (hcut : Cut1 len ch a c9) (o : Option Nat) (ho : Fst (sameT len ch (c9 + 1 + len b9) (scJ1 ch a b9 (c9))) n o) (htm : 24 < c9 + 1 + len b9 ∨ (o = none ∧ n = 60)) : MM l D cI cB ad y_M_join b_M_join 6 (some .int) 3 65 [.ref (ad (0)), .int (nI (a)), .int (nI (b9)), .int (nI (1))] M (fun v M' => v = some (.int (nI 0)) ∧ SX M M' ∧ M' 0 0 = nI 3) := by
  refine MC.of (by decide) (Nat.le_of_ble_eq_true rfl) ?_
  intro p e s m below meth c ls hx hb hr hml hown hg hlocks hK hN hP hS hl
  have hown : s.vm.findClass R_M = some m.cls := hown
  have hl : lv_has ls 6 [(0, .ref (ad (0))), (1, .int (nI (a))), (2, .int (nI (b9))), (3, .int (nI (1)))] := hl
  have hn60 : n ≤ 60 := hR.1
  have hl24 := hR.2.2.1
  have hspn := hR.2.2.2.2.1
  have hch := hR.2.2.2.2.2
  have la := hl24 a ha
  have lb := hl24 b9 hb9
  have hSX := SX.rf M
  have hcl := hcut.1
  have J172 : ∀ (fu172 : Nat) (i : Nat) (M1 : PM) (H : Heap) (locs : List Loc) (ls : Array Slot), len b9 - i < fu172 → (i ≤ len b9) → (SX M M1) → (MK M1 (c9 + 1 + i) (scJ1 ch a b9 (c9))) → va_P D clsA (gw 13 ad (cfM cI cB ad) M1) H → va_S (GA 13 ad) s.heap H locs → lv_has ls 6 [(0, .ref (ad (0))), (1, .int (nI (a))), (2, .int (nI (b9))), (3, .int (nI (1))), (5, .int (nI (i)))] → W p l e (rm_ 3 65) s m ([.ref (ad (0)), .int (nI (a)), .int (nI (b9)), .int (nI (1))] : List Value).toArray below meth c H locs 0 0 (MQ below (GQ D 13 ad (cfM cI cB ad) (fun v M' => v = some (.int (nI 0)) ∧ SX M M' ∧ M' 0 0 = nI 3)) ([.ref (ad (0)), .int (nI (a)), .int (nI (b9)), .int (nI (1))] : List Value).toArray s 0 0 (GA 13 ad)) (F0 m 172 ls []) := by
    intro fu172
    induction fu172 with
    | zero => intro i M1 H locs ls hfu; exact absurd hfu (Nat.not_lt_zero _)
    | succ fu172 ih172 =>
      intro i M1 H locs ls hfu172 hi hSX hMK hP hS hl
      have hR1 := hR.sx hSX
      refine lv_iload hx hb d_M_join_172 (lv_at hl 4 rfl) ?_
      refine lv_aload_n hx hb d_M_join_174 rfl (lv_at hl 0 rfl) ?_
      refine g_get (C := R_M) (T := T_M) (N := 19) (ci := 8) (v := .ref (ad (3))) hx hb hg i_M hown hK hP 0 (by decide) rfl rfl 4 (by decide) (hg _ k_797) rfl d_M_join_175 ?_
      refine lv_iload_n hx hb d_M_join_178 rfl (lv_at hl 2 rfl) ?_
      refine g_iald hx hb hK hP 3 0 (by decide) rfl rfl (by decide) (j := b9) (by omega) d_M_join_179 ?_
      refine n_top (y := (nI (len (b9)))) ((hR1.2.2.1 (b9) (by omega)).2.2) ?_
      refine n_ge (a := i) (b := len (b9)) (tgt := 200) hx hb d_M_join_180 (by decide) (by omega) (by omega) (fun c_180 => ?_) (fun c_180 => ?_)
      · have hMK : MK M1 (c9 + 1 + len b9) (scJ1 ch a b9 (c9)) := by rw [show c9 + 1 + len b9 = c9 + 1 + i by omega]; exact hMK
        refine lv_aload_n hx hb d_M_join_200 rfl (lv_at hl 0 rfl) ?_
        refine lv_aload_n hx hb d_M_join_201 rfl (lv_at hl 0 rfl) ?_
        refine c_V (own := R_M) (index := 79) (As := []) (rest := [.ref (ad (0))]) hx hb hml hown hg hK (fun _ _ _ h => h) (fun _ _ => trivial) (fun _ h => h) hP hS 0 (c_M_isTooMuch l D cI cB ad hI M1 n len ch sp hR1 (c9 + 1 + len b9) (scJ1 ch a b9 (c9)) hMK (o) ho true ⟨fun _ => htm, fun _ => rfl⟩) (by decide) (ci := 8) rfl rfl k_879 k_881 k_p25 k_9 k_882 0 rfl (by decide +kernel) (by decide) rfl hl.1 (Nat.le_of_ble_eq_true rfl) d_M_join_202 (fun v M' H locs hq hP _ _ hS => ?_)
        obtain ⟨rfl, rfl⟩ := hq
        refine W.eq (g2 := F0 m 205 ls [.int (bI (true)), .ref (ad (0))]) rfl ?_
        refine z_eq (t := true) (tgt := 212) hx hb d_M_join_205 (by decide) (fun h9 => absurd h9 (by decide)) (fun _ => ?_)
        refine n_const (k := 3) hx hb d_M_join_208 (by decide) ?_
        refine lv_goto (tgt := 213) hx hb d_M_join_209 (by decide) ?_
        refine c_V (own := R_M) (index := 57) (As := [.int (nI (3))]) (rest := []) hx hb hml hown hg hK (fun _ _ _ h => h) (fun _ _ => trivial) (fun _ h => h) hP hS 0 (c_M_refuses l D cI cB ad hI M1 (3) (by decide)) (by decide) (ci := 8) rfl rfl k_859 k_861 k_p22 k_9 k_862 1 rfl (by decide +kernel) (by decide) rfl hl.1 (Nat.le_of_ble_eq_true rfl) d_M_join_213 (fun v M_1 H locs hq hP _ _ hS => ?_)
        obtain ⟨rfl, eM_1⟩ := hq
        have hSX := hSX.tr (SX.thr M1 (nI 3))
        rw [← eM_1] at hSX
        have hMK := hMK.thr (nI 3)
        rw [← eM_1] at hMK
        refine W.eq (g2 := F0 m 216 ls [.int (bI (true))]) rfl ?_
        refine z_eq (t := true) (tgt := 223) hx hb d_M_join_216 (by decide) (fun h9 => absurd h9 (by decide)) (fun _ => ?_)
        refine n_const (k := 0) hx hb d_M_join_219 (by decide) ?_
        refine lv_goto (tgt := 227) hx hb d_M_join_220 (by decide) ?_
        exact r_i hx hb hr hlocks hP hS (⟨rfl, hSX, by rw [eM_1, pu_s]⟩) d_M_join_227
      · refine lv_aload_n hx hb d_M_join_183 rfl (lv_at hl 0 rfl) ?_
        refine lv_aload_n hx hb d_M_join_184 rfl (lv_at hl 0 rfl) ?_
        refine lv_iload_n hx hb d_M_join_185 rfl (lv_at hl 2 rfl) ?_
        refine lv_iload hx hb d_M_join_186 (lv_at hl 4 rfl) ?_
        refine c_V (own := R_M) (index := 64) (As := [.int (nI (b9)), .int (nI (i))]) (rest := [.ref (ad (0))]) hx hb hml hown hg hK (fun _ _ _ h => h) (fun _ _ => trivial) (fun _ h => h) hP hS 0 (c_M_at l D cI cB ad hI M1 n len ch sp hR1 (b9) (i) (by omega) (by omega)) (by decide) (ci := 8) rfl rfl k_887 k_889 k_p27 k_9 k_890 2 rfl (by decide +kernel) (by decide) rfl hl.1 (Nat.le_of_ble_eq_true rfl) d_M_join_188 (fun v M' H locs hq hP _ _ hS => ?_)
        obtain ⟨rfl, rfl⟩ := hq
        refine W.eq (g2 := F0 m 191 ls [.int (nI (ch (b9) (i))), .ref (ad (0))]) rfl ?_
        refine c_V (own := R_M) (index := 75) (As := [.int (nI (ch (b9) (i)))]) (rest := []) hx hb hml hown hg hK (fun _ _ _ h => h) (fun _ _ => trivial) (fun _ h => h) hP hS 0 (c_M_makes l D cI cB ad hI M1 (c9 + 1 + i) (scJ1 ch a b9 (c9)) hMK (ch (b9) (i)) (by have := hch b9 i hb9 (by omega); omega) (by omega)) (by decide) (ci := 8) rfl rfl k_875 k_877 k_p24 k_9 k_878 1 rfl (by decide +kernel) (by decide) rfl hl.1 (Nat.le_of_ble_eq_true rfl) d_M_join_191 (fun v M_2 H locs hq hP _ _ hS => ?_)
        obtain ⟨rfl, eM_2⟩ := hq
        rw [show ch (b9) (i) = (scJ1 ch a b9 (c9)) (c9 + 1 + i) from (by unfold scJ1; rw [if_neg (by omega), if_neg (by omega)]; congr 1; omega)] at eM_2
        have hSX : SX M M_2 := hSX.tr (by rw [eM_2]; exact SX.add _ _ _ _)
        have hMK : MK M_2 (c9 + 1 + i + 1) (scJ1 ch a b9 (c9)) := by rw [eM_2]; exact hMK.add (by omega) (by unfold scJ1; rw [if_neg (by omega), if_neg (by omega)]; have := hch b9 (c9 + 1 + i - c9 - 1) hb9 (by omega); omega)
        have hR1 := hR.sx hSX
        refine W.eq (g2 := F0 m 194 ls []) rfl ?_
        refine n_inc (lv' := [(5, .int (nI (i + 1))), (0, .ref (ad (0))), (1, .int (nI (a))), (2, .int (nI (b9))), (3, .int (nI (1)))]) hx hb d_M_join_194 hl (k := 4) rfl (by decide) rfl (fun ls hl => ?_)
        refine lv_goto (tgt := 172) hx hb d_M_join_197 (by decide) ?_
        exact ih172 (i + 1) M_2 _ _ ls (by omega) (by omega) (hSX) (by rw [show c9 + 1 + (i + 1) = c9 + 1 + i + 1 by omega]; exact hMK) hP hS (lv_sub hl [1, 2, 3, 4, 0] rfl)
  have J134 : ∀ (fu134 : Nat) (i : Nat) (M1 : PM) (H : Heap) (locs : List Loc) (ls : Array Slot), c9 - i < fu134 → (i ≤ c9) → (SX M M1) → (MK M1 (i) (scJ1 ch a b9 (c9))) → va_P D clsA (gw 13 ad (cfM cI cB ad) M1) H → va_S (GA 13 ad) s.heap H locs → lv_has ls 6 [(0, .ref (ad (0))), (1, .int (nI (a))), (2, .int (nI (b9))), (3, .int (nI (1))), (4, .int (nI (c9))), (5, .int (nI (i)))] → W p l e (rm_ 3 65) s m ([.ref (ad (0)), .int (nI (a)), .int (nI (b9)), .int (nI (1))] : List Value).toArray below meth c H locs 0 0 (MQ below (GQ D 13 ad (cfM cI cB ad) (fun v M' => v = some (.int (nI 0)) ∧ SX M M' ∧ M' 0 0 = nI 3)) ([.ref (ad (0)), .int (nI (a)), .int (nI (b9)), .int (nI (1))] : List Value).toArray s 0 0 (GA 13 ad)) (F0 m 134 ls []) := by
    intro fu134
    induction fu134 with
    | zero => intro i M1 H locs ls hfu; exact absurd hfu (Nat.not_lt_zero _)
    | succ fu134 ih134 =>
      intro i M1 H locs ls hfu134 hi hSX hMK hP hS hl
      have hR1 := hR.sx hSX
      refine lv_iload hx hb d_M_join_134 (lv_at hl 5 rfl) ?_
      refine lv_iload hx hb d_M_join_136 (lv_at hl 4 rfl) ?_
      refine n_ge (a := i) (b := c9) (tgt := 158) hx hb d_M_join_138 (by decide) (by omega) (by omega) (fun c_138 => ?_) (fun c_138 => ?_)
      · refine lv_iload_n hx hb d_M_join_158 rfl (lv_at hl 3 rfl) ?_
        refine n_const (k := 1) hx hb d_M_join_159 (by decide) ?_
        refine n_ne (a := 1) (b := 1) (tgt := 169) hx hb d_M_join_160 (by decide) (by decide) (by decide) (fun h9 => absurd h9 (by decide)) (fun _ => ?_)
        refine lv_aload_n hx hb d_M_join_163 rfl (lv_at hl 0 rfl) ?_
        refine n_bipush (k := 35) hx hb d_M_join_164 (by decide) ?_
        refine c_V (own := R_M) (index := 75) (As := [.int (nI (35))]) (rest := []) hx hb hml hown hg hK (fun _ _ _ h => h) (fun _ _ => trivial) (fun _ h => h) hP hS 0 (c_M_makes l D cI cB ad hI M1 (i) (scJ1 ch a b9 (c9)) hMK (35) (by decide) (by omega)) (by decide) (ci := 8) rfl rfl k_875 k_877 k_p24 k_9 k_878 1 rfl (by decide +kernel) (by decide) rfl hl.1 (Nat.le_of_ble_eq_true rfl) d_M_join_166 (fun v M_3 H locs hq hP _ _ hS => ?_)
        obtain ⟨rfl, eM_3⟩ := hq
        rw [show 35 = (scJ1 ch a b9 (c9)) (i) from (by unfold scJ1; rw [if_neg (by omega), if_pos (by omega)])] at eM_3
        have hSX : SX M M_3 := hSX.tr (by rw [eM_3]; exact SX.add _ _ _ _)
        have hMK : MK M_3 (i + 1) (scJ1 ch a b9 (c9)) := by rw [eM_3]; exact hMK.add (by omega) (by unfold scJ1; rw [if_neg (by omega), if_pos (by omega)]; decide)
        have hR1 := hR.sx hSX
        refine W.eq (g2 := F0 m 169 ls []) rfl ?_
        refine n_const (k := 0) hx hb d_M_join_169 (by decide) ?_
        refine lv_istore (lv' := [(5, .int (nI (0))), (0, .ref (ad (0))), (1, .int (nI (a))), (2, .int (nI (b9))), (3, .int (nI (1))), (4, .int (nI (c9)))]) hx hb d_M_join_170 hl (by decide) rfl (fun ls hl => ?_)
        exact J172 (_ + 1) (0) M_3 _ _ ls (Nat.lt_succ_self _) (by omega) (hSX) (by rw [show c9 + 1 + 0 = i + 1 by omega]; exact hMK) hP hS (lv_sub hl [1, 2, 3, 4, 0] rfl)
      · refine lv_aload_n hx hb d_M_join_141 rfl (lv_at hl 0 rfl) ?_
        refine lv_aload_n hx hb d_M_join_142 rfl (lv_at hl 0 rfl) ?_
        refine lv_iload_n hx hb d_M_join_143 rfl (lv_at hl 1 rfl) ?_
        refine lv_iload hx hb d_M_join_144 (lv_at hl 5 rfl) ?_
        refine c_V (own := R_M) (index := 64) (As := [.int (nI (a)), .int (nI (i))]) (rest := [.ref (ad (0))]) hx hb hml hown hg hK (fun _ _ _ h => h) (fun _ _ => trivial) (fun _ h => h) hP hS 0 (c_M_at l D cI cB ad hI M1 n len ch sp hR1 (a) (i) (by omega) (by omega)) (by decide) (ci := 8) rfl rfl k_887 k_889 k_p27 k_9 k_890 2 rfl (by decide +kernel) (by decide) rfl hl.1 (Nat.le_of_ble_eq_true rfl) d_M_join_146 (fun v M' H locs hq hP _ _ hS => ?_)
        obtain ⟨rfl, rfl⟩ := hq
        refine W.eq (g2 := F0 m 149 ls [.int (nI (ch (a) (i))), .ref (ad (0))]) rfl ?_
        refine c_V (own := R_M) (index := 75) (As := [.int (nI (ch (a) (i)))]) (rest := []) hx hb hml hown hg hK (fun _ _ _ h => h) (fun _ _ => trivial) (fun _ h => h) hP hS 0 (c_M_makes l D cI cB ad hI M1 (i) (scJ1 ch a b9 (c9)) hMK (ch (a) (i)) (by have := hch a i ha (by omega); omega) (by omega)) (by decide) (ci := 8) rfl rfl k_875 k_877 k_p24 k_9 k_878 1 rfl (by decide +kernel) (by decide) rfl hl.1 (Nat.le_of_ble_eq_true rfl) d_M_join_149 (fun v M_4 H locs hq hP _ _ hS => ?_)
        obtain ⟨rfl, eM_4⟩ := hq
        rw [show ch (a) (i) = (scJ1 ch a b9 (c9)) (i) from (if_pos (by omega)).symm] at eM_4
        have hSX : SX M M_4 := hSX.tr (by rw [eM_4]; exact SX.add _ _ _ _)
        have hMK : MK M_4 (i + 1) (scJ1 ch a b9 (c9)) := by rw [eM_4]; exact hMK.add (by omega) (by unfold scJ1; rw [if_pos (by omega)]; have := hch a i ha (by omega); omega)
        have hR1 := hR.sx hSX
        refine W.eq (g2 := F0 m 152 ls []) rfl ?_
        refine n_inc (lv' := [(5, .int (nI (i + 1))), (0, .ref (ad (0))), (1, .int (nI (a))), (2, .int (nI (b9))), (3, .int (nI (1))), (4, .int (nI (c9)))]) hx hb d_M_join_152 hl (k := 5) rfl (by decide) rfl (fun ls hl => ?_)
        refine lv_goto (tgt := 134) hx hb d_M_join_155 (by decide) ?_
        exact ih134 (i + 1) M_4 _ _ ls (by omega) (by omega) (hSX) (hMK) hP hS (lv_sub hl [1, 2, 3, 4, 5, 0] rfl)
  have J93 : ∀ (fu93 : Nat) (i : Nat) (M1 : PM) (H : Heap) (locs : List Loc) (ls : Array Slot), len a - i < fu93 → (i ≤ len a) → (∀ q, q < i → ch a q ≠ 35) → (SX M M1) → va_P D clsA (gw 13 ad (cfM cI cB ad) M1) H → va_S (GA 13 ad) s.heap H locs → lv_has ls 6 [(0, .ref (ad (0))), (1, .int (nI (a))), (2, .int (nI (b9))), (3, .int (nI (1))), (4, .int (nI (i)))] → W p l e (rm_ 3 65) s m ([.ref (ad (0)), .int (nI (a)), .int (nI (b9)), .int (nI (1))] : List Value).toArray below meth c H locs 0 0 (MQ below (GQ D 13 ad (cfM cI cB ad) (fun v M' => v = some (.int (nI 0)) ∧ SX M M' ∧ M' 0 0 = nI 3)) ([.ref (ad (0)), .int (nI (a)), .int (nI (b9)), .int (nI (1))] : List Value).toArray s 0 0 (GA 13 ad)) (F0 m 93 ls []) := by
    intro fu93
    induction fu93 with
    | zero => intro i M1 H locs ls hfu; exact absurd hfu (Nat.not_lt_zero _)
    | succ fu93 ih93 =>
      intro i M1 H locs ls hfu93 hi hpv hSX hP hS hl
      have hR1 := hR.sx hSX
      refine lv_iload_n hx hb d_M_join_93 rfl (lv_at hl 3 rfl) ?_
      refine n_const (k := 1) hx hb d_M_join_94 (by decide) ?_
      refine n_ne (a := 1) (b := 1) (tgt := 127) hx hb d_M_join_95 (by decide) (by decide) (by decide) (fun h9 => absurd h9 (by decide)) (fun _ => ?_)
      refine lv_iload hx hb d_M_join_98 (lv_at hl 4 rfl) ?_
      refine lv_aload_n hx hb d_M_join_100 rfl (lv_at hl 0 rfl) ?_
      refine g_get (C := R_M) (T := T_M) (N := 19) (ci := 8) (v := .ref (ad (3))) hx hb hg i_M hown hK hP 0 (by decide) rfl rfl 4 (by decide) (hg _ k_797) rfl d_M_join_101 ?_
      refine lv_iload_n hx hb d_M_join_104 rfl (lv_at hl 1 rfl) ?_
      refine g_iald hx hb hK hP 3 0 (by decide) rfl rfl (by decide) (j := a) (by omega) d_M_join_105 ?_
      refine n_top (y := (nI (len (a)))) ((hR1.2.2.1 (a) (by omega)).2.2) ?_
      refine n_ge (a := i) (b := len (a)) (tgt := 127) hx hb d_M_join_106 (by decide) (by omega) (by omega) (fun c_106 => ?_) (fun c_106 => ?_)
      · have e9 : i = c9 := Cut1.uniq ⟨hi, hpv, Or.inl (by omega)⟩ hcut
        rw [e9] at hl
        have hl : lv_has ls 6 [(0, .ref (ad (0))), (1, .int (nI (a))), (2, .int (nI (b9))), (3, .int (nI (1))), (4, .int (nI (c9)))] := hl
        refine lv_aload_n hx hb d_M_join_127 rfl (lv_at hl 0 rfl) ?_
        refine c_V (own := R_M) (index := 72) (As := []) (rest := []) hx hb hml hown hg hK (fun _ _ _ h => h) (fun _ _ => trivial) (fun _ h => h) hP hS 0 (c_M_begin l D cI cB ad hI M1) (by decide) (ci := 8) rfl rfl k_871 k_873 k_p23 k_9 k_874 0 rfl (by decide +kernel) (by decide) rfl hl.1 (Nat.le_of_ble_eq_true rfl) d_M_join_128 (fun v M_5 H locs hq hP _ _ hS => ?_)
        obtain ⟨rfl, eM_5⟩ := hq
        have hSX : SX M M_5 := hSX.tr (by rw [eM_5]; exact SX.begin _)
        have hMK : MK M_5 0 (scJ1 ch a b9 (c9)) := by rw [eM_5]; exact MK.begin _ _
        have hR1 := hR.sx hSX
        refine W.eq (g2 := F0 m 131 ls []) rfl ?_
        refine n_const (k := 0) hx hb d_M_join_131 (by decide) ?_
        refine lv_istore (lv' := [(5, .int (nI (0))), (0, .ref (ad (0))), (1, .int (nI (a))), (2, .int (nI (b9))), (3, .int (nI (1))), (4, .int (nI (c9)))]) hx hb d_M_join_132 hl (by decide) rfl (fun ls hl => ?_)
        exact J134 (_ + 1) (0) M_5 _ _ ls (Nat.lt_succ_self _) (by omega) (hSX) (hMK) hP hS (lv_sub hl [1, 2, 3, 4, 5, 0] rfl)
      · refine lv_aload_n hx hb d_M_join_109 rfl (lv_at hl 0 rfl) ?_
        refine lv_iload_n hx hb d_M_join_110 rfl (lv_at hl 1 rfl) ?_
        refine lv_iload hx hb d_M_join_111 (lv_at hl 4 rfl) ?_
        refine c_V (own := R_M) (index := 64) (As := [.int (nI (a)), .int (nI (i))]) (rest := []) hx hb hml hown hg hK (fun _ _ _ h => h) (fun _ _ => trivial) (fun _ h => h) hP hS 0 (c_M_at l D cI cB ad hI M1 n len ch sp hR1 (a) (i) (by omega) (by omega)) (by decide) (ci := 8) rfl rfl k_887 k_889 k_p27 k_9 k_890 2 rfl (by decide +kernel) (by decide) rfl hl.1 (Nat.le_of_ble_eq_true rfl) d_M_join_113 (fun v M' H locs hq hP _ _ hS => ?_)
        obtain ⟨rfl, rfl⟩ := hq
        refine W.eq (g2 := F0 m 116 ls [.int (nI (ch (a) (i)))]) rfl ?_
        refine n_bipush (k := 35) hx hb d_M_join_116 (by decide) ?_
        refine n_eq (a := ch (a) (i)) (b := 35) (tgt := 127) hx hb d_M_join_118 (by decide) (by have := hch a i ha (by omega); omega) (by omega) (fun c_118 => ?_) (fun c_118 => ?_)
        · have e9 : i = c9 := Cut1.uniq ⟨hi, hpv, Or.inr c_118⟩ hcut
          rw [e9] at hl
          have hl : lv_has ls 6 [(0, .ref (ad (0))), (1, .int (nI (a))), (2, .int (nI (b9))), (3, .int (nI (1))), (4, .int (nI (c9)))] := hl
          refine lv_aload_n hx hb d_M_join_127 rfl (lv_at hl 0 rfl) ?_
          refine c_V (own := R_M) (index := 72) (As := []) (rest := []) hx hb hml hown hg hK (fun _ _ _ h => h) (fun _ _ => trivial) (fun _ h => h) hP hS 0 (c_M_begin l D cI cB ad hI M1) (by decide) (ci := 8) rfl rfl k_871 k_873 k_p23 k_9 k_874 0 rfl (by decide +kernel) (by decide) rfl hl.1 (Nat.le_of_ble_eq_true rfl) d_M_join_128 (fun v M_6 H locs hq hP _ _ hS => ?_)
          obtain ⟨rfl, eM_6⟩ := hq
          have hSX : SX M M_6 := hSX.tr (by rw [eM_6]; exact SX.begin _)
          have hMK : MK M_6 0 (scJ1 ch a b9 (c9)) := by rw [eM_6]; exact MK.begin _ _
          have hR1 := hR.sx hSX
          refine W.eq (g2 := F0 m 131 ls []) rfl ?_
          refine n_const (k := 0) hx hb d_M_join_131 (by decide) ?_
          refine lv_istore (lv' := [(5, .int (nI (0))), (0, .ref (ad (0))), (1, .int (nI (a))), (2, .int (nI (b9))), (3, .int (nI (1))), (4, .int (nI (c9)))]) hx hb d_M_join_132 hl (by decide) rfl (fun ls hl => ?_)
          exact J134 (_ + 1) (0) M_6 _ _ ls (Nat.lt_succ_self _) (by omega) (hSX) (hMK) hP hS (lv_sub hl [1, 2, 3, 4, 5, 0] rfl)
        · refine n_inc (lv' := [(4, .int (nI (i + 1))), (0, .ref (ad (0))), (1, .int (nI (a))), (2, .int (nI (b9))), (3, .int (nI (1)))]) hx hb d_M_join_121 hl (k := 4) rfl (by decide) rfl (fun ls hl => ?_)
          refine lv_goto (tgt := 93) hx hb d_M_join_124 (by decide) ?_
          exact ih93 (i + 1) M1 _ _ ls (by omega) (by omega) (lt_S hpv c_118) (hSX) hP hS (lv_sub hl [1, 2, 3, 4, 0] rfl)
  refine lv_aload_n hx hb d_M_join_0 rfl (lv_at hl 0 rfl) ?_
  refine lv_aload_n hx hb d_M_join_1 rfl (lv_at hl 0 rfl) ?_
  refine lv_iload_n hx hb d_M_join_2 rfl (lv_at hl 1 rfl) ?_
  refine c_V (own := R_M) (index := 89) (As := [.int (nI (a))]) (rest := [.ref (ad (0))]) hx hb hml hown hg hK (fun _ _ _ h => h) (fun _ _ => trivial) (fun _ h => h) hP hS 0 (c_M_no l D cI cB ad hI M n len ch sp hR (nI (a)) false (no_f (by omega))) (by decide) (ci := 8) rfl rfl k_907 k_909 k_p30 k_9 k_910 1 rfl (by decide +kernel) (by decide) rfl hl.1 (Nat.le_of_ble_eq_true rfl) d_M_join_3 (fun v M' H locs hq hP _ _ hS => ?_)
  obtain ⟨rfl, rfl⟩ := hq
  refine W.eq (g2 := F0 m 6 ls [.int (bI (false)), .ref (ad (0))]) rfl ?_
  refine z_ne (t := false) (tgt := 17) hx hb d_M_join_6 (by decide) (fun h9 => absurd h9 (by decide)) (fun _ => ?_)
  refine lv_aload_n hx hb d_M_join_9 rfl (lv_at hl 0 rfl) ?_
  refine lv_iload_n hx hb d_M_join_10 rfl (lv_at hl 2 rfl) ?_
  refine c_V (own := R_M) (index := 89) (As := [.int (nI (b9))]) (rest := [.ref (ad (0))]) hx hb hml hown hg hK (fun _ _ _ h => h) (fun _ _ => trivial) (fun _ h => h) hP hS 0 (c_M_no l D cI cB ad hI M n len ch sp hR (nI (b9)) false (no_f (by omega))) (by decide) (ci := 8) rfl rfl k_907 k_909 k_p30 k_9 k_910 1 rfl (by decide +kernel) (by decide) rfl hl.1 (Nat.le_of_ble_eq_true rfl) d_M_join_11 (fun v M' H locs hq hP _ _ hS => ?_)
  obtain ⟨rfl, rfl⟩ := hq
  refine W.eq (g2 := F0 m 14 ls [.int (bI (false)), .ref (ad (0))]) rfl ?_
  refine z_eq (t := false) (tgt := 21) hx hb d_M_join_14 (by decide) (fun _ => ?_) (fun h9 => absurd h9 (by decide))
  refine lv_iload_n hx hb d_M_join_21 rfl (lv_at hl 3 rfl) ?_
  refine lv_if_lt (tgt := 30) hx hb d_M_join_22 (by decide) (fun h9 => by first | exact absurd h9 (by decide) | exact absurd (by decide) h9) (fun _ => ?_)
  refine lv_iload_n hx hb d_M_join_25 rfl (lv_at hl 3 rfl) ?_
  refine n_const (k := 1) hx hb d_M_join_26 (by decide) ?_
  refine n_le (a := 1) (b := 1) (tgt := 34) hx hb d_M_join_27 (by decide) (by decide) (by decide) (fun _ => ?_) (fun h9 => absurd h9 (by decide))
  refine n_const (k := 0) hx hb d_M_join_34 (by decide) ?_
  refine c_V (own := R_M) (index := 57) (As := [.int (nI (0))]) (rest := []) hx hb hml hown hg hK (fun _ _ _ h => h) (fun _ _ => trivial) (fun _ h => h) hP hS 0 (c_M_refuses l D cI cB ad hI M (0) (by decide)) (by decide) (ci := 8) rfl rfl k_859 k_861 k_p22 k_9 k_862 1 rfl (by decide +kernel) (by decide) rfl hl.1 (Nat.le_of_ble_eq_true rfl) d_M_join_35 (fun v M_7 H locs hq hP _ _ hS => ?_)
  obtain ⟨rfl, eM_7⟩ := hq
  have hR1 := hR.sx (SX.thr M (nI 0))
  rw [← eM_7] at hR1
  have hSX := hSX.tr (SX.thr M (nI 0))
  rw [← eM_7] at hSX
  refine W.eq (g2 := F0 m 38 ls [.int (bI (false))]) rfl ?_
  refine z_eq (t := false) (tgt := 43) hx hb d_M_join_38 (by decide) (fun _ => ?_) (fun h9 => absurd h9 (by decide))
  refine n_const (k := 0) hx hb d_M_join_43 (by decide) ?_
  refine lv_istore (lv' := [(4, .int (nI (0))), (0, .ref (ad (0))), (1, .int (nI (a))), (2, .int (nI (b9))), (3, .int (nI (1)))]) hx hb d_M_join_44 hl (by decide) rfl (fun ls hl => ?_)
  refine n_const (k := 0) hx hb d_M_join_46 (by decide) ?_
  refine lv_istore (lv' := [(5, .int (nI (0))), (4, .int (nI (0))), (0, .ref (ad (0))), (1, .int (nI (a))), (2, .int (nI (b9))), (3, .int (nI (1)))]) hx hb d_M_join_47 hl (by decide) rfl (fun ls hl => ?_)
  refine lv_iload hx hb d_M_join_49 (lv_at hl 0 rfl) ?_
  refine lv_aload_n hx hb d_M_join_51 rfl (lv_at hl 2 rfl) ?_
  refine g_get (C := R_M) (T := T_M) (N := 19) (ci := 8) (v := .ref (ad (3))) hx hb hg i_M hown hK hP 0 (by decide) rfl rfl 4 (by decide) (hg _ k_797) rfl d_M_join_52 ?_
  refine lv_iload_n hx hb d_M_join_55 rfl (lv_at hl 3 rfl) ?_
  refine g_iald hx hb hK hP 3 0 (by decide) rfl rfl (by decide) (j := a) (by omega) d_M_join_56 ?_
  refine n_top (y := (nI (len (a)))) (by rw [eM_7, pu_k _ _ _ _ _ (by first | decide | omega)]; exact (hR.2.2.1 (a) (by omega)).2.2) ?_
  refine n_ge (a := 0) (b := len (a)) (tgt := 93) hx hb d_M_join_57 (by decide) (by omega) (by omega) (fun c_57 => ?_) (fun c_57 => ?_)
  · exact J93 (_ + 1) (0) M_7 _ _ ls (Nat.lt_succ_self _) (by omega) (fun q hq => absurd hq (Nat.not_lt_zero q)) (hSX) hP hS (lv_sub hl [2, 3, 4, 5, 1] rfl)
  · refine lv_iload_n hx hb d_M_join_60 rfl (lv_at hl 5 rfl) ?_
    refine lv_if_ne (tgt := 93) hx hb d_M_join_61 (by decide) (fun _ => ?_) (fun h9 => by first | exact absurd h9 (by decide) | exact absurd (by decide) h9)
    exact J93 (_ + 1) (0) M_7 _ _ ls (Nat.lt_succ_self _) (by omega) (fun q hq => absurd hq (Nat.not_lt_zero q)) (hSX) hP hS (lv_sub hl [2, 3, 4, 5, 1] rfl)

set_option maxHeartbeats 4000000 in
set_option maxRecDepth 100000 in
theorem c_M_join_o1 (l : Launch) (D : va_G) (cI cB : ClassId) (ad : Nat → Nat) (hI : GI 13 ad) (M : PM) (n : Nat) (len : Nat → Nat) (ch : Nat → Nat → Nat) (sp : Nat → Option Nat) (hR : RN M n len ch sp) (a b9 : Nat) (ha : a < n) (hb9 : b9 < n) (c9 : Nat) (hcut : Cut1 len ch a c9) (k8 : Nat) (ho : Fst (sameT len ch (c9 + 1 + len b9) (scJ1 ch a b9 (c9))) n (some k8)) (h24 : c9 + 1 + len b9 ≤ 24) : MM l D cI cB ad y_M_join b_M_join 6 (some .int) 3 67 [.ref (ad (0)), .int (nI (a)), .int (nI (b9)), .int (nI (1))] M (fun v M' => v = some (.int (nI k8)) ∧ SX M M' ∧ M' 0 0 = nI 0) := by
  refine MC.of (by decide) (Nat.le_of_ble_eq_true rfl) ?_
  intro p e s m below meth c ls hx hb hr hml hown hg hlocks hK hN hP hS hl
  have hown : s.vm.findClass R_M = some m.cls := hown
  have hl : lv_has ls 6 [(0, .ref (ad (0))), (1, .int (nI (a))), (2, .int (nI (b9))), (3, .int (nI (1)))] := hl
  have hn60 : n ≤ 60 := hR.1
  have hl24 := hR.2.2.1
  have hspn := hR.2.2.2.2.1
  have hch := hR.2.2.2.2.2
  have la := hl24 a ha
  have lb := hl24 b9 hb9
  have hSX := SX.rf M
  have hcl := hcut.1
  have J172 : ∀ (fu172 : Nat) (i : Nat) (M1 : PM) (H : Heap) (locs : List Loc) (ls : Array Slot), len b9 - i < fu172 → (i ≤ len b9) → (SX M M1) → (MK M1 (c9 + 1 + i) (scJ1 ch a b9 (c9))) → va_P D clsA (gw 13 ad (cfM cI cB ad) M1) H → va_S (GA 13 ad) s.heap H locs → lv_has ls 6 [(0, .ref (ad (0))), (1, .int (nI (a))), (2, .int (nI (b9))), (3, .int (nI (1))), (5, .int (nI (i)))] → W p l e (rm_ 3 67) s m ([.ref (ad (0)), .int (nI (a)), .int (nI (b9)), .int (nI (1))] : List Value).toArray below meth c H locs 0 0 (MQ below (GQ D 13 ad (cfM cI cB ad) (fun v M' => v = some (.int (nI k8)) ∧ SX M M' ∧ M' 0 0 = nI 0)) ([.ref (ad (0)), .int (nI (a)), .int (nI (b9)), .int (nI (1))] : List Value).toArray s 0 0 (GA 13 ad)) (F0 m 172 ls []) := by
    intro fu172
    induction fu172 with
    | zero => intro i M1 H locs ls hfu; exact absurd hfu (Nat.not_lt_zero _)
    | succ fu172 ih172 =>
      intro i M1 H locs ls hfu172 hi hSX hMK hP hS hl
      have hR1 := hR.sx hSX
      refine lv_iload hx hb d_M_join_172 (lv_at hl 4 rfl) ?_
      refine lv_aload_n hx hb d_M_join_174 rfl (lv_at hl 0 rfl) ?_
      refine g_get (C := R_M) (T := T_M) (N := 19) (ci := 8) (v := .ref (ad (3))) hx hb hg i_M hown hK hP 0 (by decide) rfl rfl 4 (by decide) (hg _ k_797) rfl d_M_join_175 ?_
      refine lv_iload_n hx hb d_M_join_178 rfl (lv_at hl 2 rfl) ?_
      refine g_iald hx hb hK hP 3 0 (by decide) rfl rfl (by decide) (j := b9) (by omega) d_M_join_179 ?_
      refine n_top (y := (nI (len (b9)))) ((hR1.2.2.1 (b9) (by omega)).2.2) ?_
      refine n_ge (a := i) (b := len (b9)) (tgt := 200) hx hb d_M_join_180 (by decide) (by omega) (by omega) (fun c_180 => ?_) (fun c_180 => ?_)
      · have hMK : MK M1 (c9 + 1 + len b9) (scJ1 ch a b9 (c9)) := by rw [show c9 + 1 + len b9 = c9 + 1 + i by omega]; exact hMK
        refine lv_aload_n hx hb d_M_join_200 rfl (lv_at hl 0 rfl) ?_
        refine lv_aload_n hx hb d_M_join_201 rfl (lv_at hl 0 rfl) ?_
        refine c_V (own := R_M) (index := 79) (As := []) (rest := [.ref (ad (0))]) hx hb hml hown hg hK (fun _ _ _ h => h) (fun _ _ => trivial) (fun _ h => h) hP hS 0 (c_M_isTooMuch l D cI cB ad hI M1 n len ch sp hR1 (c9 + 1 + len b9) (scJ1 ch a b9 (c9)) hMK (some k8) ho false ⟨fun h => (by cases h), fun h => by rcases h with h | h; omega; cases h.1⟩) (by decide) (ci := 8) rfl rfl k_879 k_881 k_p25 k_9 k_882 0 rfl (by decide +kernel) (by decide) rfl hl.1 (Nat.le_of_ble_eq_true rfl) d_M_join_202 (fun v M' H locs hq hP _ _ hS => ?_)
        obtain ⟨rfl, rfl⟩ := hq
        refine W.eq (g2 := F0 m 205 ls [.int (bI (false)), .ref (ad (0))]) rfl ?_
        refine z_eq (t := false) (tgt := 212) hx hb d_M_join_205 (by decide) (fun _ => ?_) (fun h9 => absurd h9 (by decide))
        refine n_const (k := 0) hx hb d_M_join_212 (by decide) ?_
        refine c_V (own := R_M) (index := 57) (As := [.int (nI (0))]) (rest := []) hx hb hml hown hg hK (fun _ _ _ h => h) (fun _ _ => trivial) (fun _ h => h) hP hS 0 (c_M_refuses l D cI cB ad hI M1 (0) (by decide)) (by decide) (ci := 8) rfl rfl k_859 k_861 k_p22 k_9 k_862 1 rfl (by decide +kernel) (by decide) rfl hl.1 (Nat.le_of_ble_eq_true rfl) d_M_join_213 (fun v M_1 H locs hq hP _ _ hS => ?_)
        obtain ⟨rfl, eM_1⟩ := hq
        have hR1 := hR1.sx (SX.thr M1 (nI 0))
        rw [← eM_1] at hR1
        have hSX := hSX.tr (SX.thr M1 (nI 0))
        rw [← eM_1] at hSX
        have hMK := hMK.thr (nI 0)
        rw [← eM_1] at hMK
        refine W.eq (g2 := F0 m 216 ls [.int (bI (false))]) rfl ?_
        refine z_eq (t := false) (tgt := 223) hx hb d_M_join_216 (by decide) (fun _ => ?_) (fun h9 => absurd h9 (by decide))
        refine lv_aload_n hx hb d_M_join_223 rfl (lv_at hl 0 rfl) ?_
        refine c_V (own := R_M) (index := 83) (As := []) (rest := []) hx hb hml hown hg hK (fun _ _ _ h => h) (fun _ _ => trivial) (fun _ h => h) hP hS 0 (c_M_comes_old l D cI cB ad hI M_1 n len ch sp hR1 (c9 + 1 + len b9) (scJ1 ch a b9 (c9)) hMK k8 ho) (by decide) (ci := 8) rfl rfl k_891 k_893 k_p28 k_9 k_894 0 rfl (by decide +kernel) (by decide) rfl hl.1 (Nat.le_of_ble_eq_true rfl) d_M_join_224 (fun v M' H locs hq hP _ _ hS => ?_)
        obtain ⟨rfl, rfl⟩ := hq
        refine W.eq (g2 := F0 m 227 ls [.int (nI (k8))]) rfl ?_
        exact r_i hx hb hr hlocks hP hS (⟨rfl, hSX, by rw [eM_1, pu_s]⟩) d_M_join_227
      · refine lv_aload_n hx hb d_M_join_183 rfl (lv_at hl 0 rfl) ?_
        refine lv_aload_n hx hb d_M_join_184 rfl (lv_at hl 0 rfl) ?_
        refine lv_iload_n hx hb d_M_join_185 rfl (lv_at hl 2 rfl) ?_
        refine lv_iload hx hb d_M_join_186 (lv_at hl 4 rfl) ?_
        refine c_V (own := R_M) (index := 64) (As := [.int (nI (b9)), .int (nI (i))]) (rest := [.ref (ad (0))]) hx hb hml hown hg hK (fun _ _ _ h => h) (fun _ _ => trivial) (fun _ h => h) hP hS 0 (c_M_at l D cI cB ad hI M1 n len ch sp hR1 (b9) (i) (by omega) (by omega)) (by decide) (ci := 8) rfl rfl k_887 k_889 k_p27 k_9 k_890 2 rfl (by decide +kernel) (by decide) rfl hl.1 (Nat.le_of_ble_eq_true rfl) d_M_join_188 (fun v M' H locs hq hP _ _ hS => ?_)
        obtain ⟨rfl, rfl⟩ := hq
        refine W.eq (g2 := F0 m 191 ls [.int (nI (ch (b9) (i))), .ref (ad (0))]) rfl ?_
        refine c_V (own := R_M) (index := 75) (As := [.int (nI (ch (b9) (i)))]) (rest := []) hx hb hml hown hg hK (fun _ _ _ h => h) (fun _ _ => trivial) (fun _ h => h) hP hS 0 (c_M_makes l D cI cB ad hI M1 (c9 + 1 + i) (scJ1 ch a b9 (c9)) hMK (ch (b9) (i)) (by have := hch b9 i hb9 (by omega); omega) (by omega)) (by decide) (ci := 8) rfl rfl k_875 k_877 k_p24 k_9 k_878 1 rfl (by decide +kernel) (by decide) rfl hl.1 (Nat.le_of_ble_eq_true rfl) d_M_join_191 (fun v M_2 H locs hq hP _ _ hS => ?_)
        obtain ⟨rfl, eM_2⟩ := hq
        rw [show ch (b9) (i) = (scJ1 ch a b9 (c9)) (c9 + 1 + i) from (by unfold scJ1; rw [if_neg (by omega), if_neg (by omega)]; congr 1; omega)] at eM_2
        have hSX : SX M M_2 := hSX.tr (by rw [eM_2]; exact SX.add _ _ _ _)
        have hMK : MK M_2 (c9 + 1 + i + 1) (scJ1 ch a b9 (c9)) := by rw [eM_2]; exact hMK.add (by omega) (by unfold scJ1; rw [if_neg (by omega), if_neg (by omega)]; have := hch b9 (c9 + 1 + i - c9 - 1) hb9 (by omega); omega)
        have hR1 := hR.sx hSX
        refine W.eq (g2 := F0 m 194 ls []) rfl ?_
        refine n_inc (lv' := [(5, .int (nI (i + 1))), (0, .ref (ad (0))), (1, .int (nI (a))), (2, .int (nI (b9))), (3, .int (nI (1)))]) hx hb d_M_join_194 hl (k := 4) rfl (by decide) rfl (fun ls hl => ?_)
        refine lv_goto (tgt := 172) hx hb d_M_join_197 (by decide) ?_
        exact ih172 (i + 1) M_2 _ _ ls (by omega) (by omega) (hSX) (by rw [show c9 + 1 + (i + 1) = c9 + 1 + i + 1 by omega]; exact hMK) hP hS (lv_sub hl [1, 2, 3, 4, 0] rfl)
  have J134 : ∀ (fu134 : Nat) (i : Nat) (M1 : PM) (H : Heap) (locs : List Loc) (ls : Array Slot), c9 - i < fu134 → (i ≤ c9) → (SX M M1) → (MK M1 (i) (scJ1 ch a b9 (c9))) → va_P D clsA (gw 13 ad (cfM cI cB ad) M1) H → va_S (GA 13 ad) s.heap H locs → lv_has ls 6 [(0, .ref (ad (0))), (1, .int (nI (a))), (2, .int (nI (b9))), (3, .int (nI (1))), (4, .int (nI (c9))), (5, .int (nI (i)))] → W p l e (rm_ 3 67) s m ([.ref (ad (0)), .int (nI (a)), .int (nI (b9)), .int (nI (1))] : List Value).toArray below meth c H locs 0 0 (MQ below (GQ D 13 ad (cfM cI cB ad) (fun v M' => v = some (.int (nI k8)) ∧ SX M M' ∧ M' 0 0 = nI 0)) ([.ref (ad (0)), .int (nI (a)), .int (nI (b9)), .int (nI (1))] : List Value).toArray s 0 0 (GA 13 ad)) (F0 m 134 ls []) := by
    intro fu134
    induction fu134 with
    | zero => intro i M1 H locs ls hfu; exact absurd hfu (Nat.not_lt_zero _)
    | succ fu134 ih134 =>
      intro i M1 H locs ls hfu134 hi hSX hMK hP hS hl
      have hR1 := hR.sx hSX
      refine lv_iload hx hb d_M_join_134 (lv_at hl 5 rfl) ?_
      refine lv_iload hx hb d_M_join_136 (lv_at hl 4 rfl) ?_
      refine n_ge (a := i) (b := c9) (tgt := 158) hx hb d_M_join_138 (by decide) (by omega) (by omega) (fun c_138 => ?_) (fun c_138 => ?_)
      · refine lv_iload_n hx hb d_M_join_158 rfl (lv_at hl 3 rfl) ?_
        refine n_const (k := 1) hx hb d_M_join_159 (by decide) ?_
        refine n_ne (a := 1) (b := 1) (tgt := 169) hx hb d_M_join_160 (by decide) (by decide) (by decide) (fun h9 => absurd h9 (by decide)) (fun _ => ?_)
        refine lv_aload_n hx hb d_M_join_163 rfl (lv_at hl 0 rfl) ?_
        refine n_bipush (k := 35) hx hb d_M_join_164 (by decide) ?_
        refine c_V (own := R_M) (index := 75) (As := [.int (nI (35))]) (rest := []) hx hb hml hown hg hK (fun _ _ _ h => h) (fun _ _ => trivial) (fun _ h => h) hP hS 0 (c_M_makes l D cI cB ad hI M1 (i) (scJ1 ch a b9 (c9)) hMK (35) (by decide) (by omega)) (by decide) (ci := 8) rfl rfl k_875 k_877 k_p24 k_9 k_878 1 rfl (by decide +kernel) (by decide) rfl hl.1 (Nat.le_of_ble_eq_true rfl) d_M_join_166 (fun v M_3 H locs hq hP _ _ hS => ?_)
        obtain ⟨rfl, eM_3⟩ := hq
        rw [show 35 = (scJ1 ch a b9 (c9)) (i) from (by unfold scJ1; rw [if_neg (by omega), if_pos (by omega)])] at eM_3
        have hSX : SX M M_3 := hSX.tr (by rw [eM_3]; exact SX.add _ _ _ _)
        have hMK : MK M_3 (i + 1) (scJ1 ch a b9 (c9)) := by rw [eM_3]; exact hMK.add (by omega) (by unfold scJ1; rw [if_neg (by omega), if_pos (by omega)]; decide)
        have hR1 := hR.sx hSX
        refine W.eq (g2 := F0 m 169 ls []) rfl ?_
        refine n_const (k := 0) hx hb d_M_join_169 (by decide) ?_
        refine lv_istore (lv' := [(5, .int (nI (0))), (0, .ref (ad (0))), (1, .int (nI (a))), (2, .int (nI (b9))), (3, .int (nI (1))), (4, .int (nI (c9)))]) hx hb d_M_join_170 hl (by decide) rfl (fun ls hl => ?_)
        exact J172 (_ + 1) (0) M_3 _ _ ls (Nat.lt_succ_self _) (by omega) (hSX) (by rw [show c9 + 1 + 0 = i + 1 by omega]; exact hMK) hP hS (lv_sub hl [1, 2, 3, 4, 0] rfl)
      · refine lv_aload_n hx hb d_M_join_141 rfl (lv_at hl 0 rfl) ?_
        refine lv_aload_n hx hb d_M_join_142 rfl (lv_at hl 0 rfl) ?_
        refine lv_iload_n hx hb d_M_join_143 rfl (lv_at hl 1 rfl) ?_
        refine lv_iload hx hb d_M_join_144 (lv_at hl 5 rfl) ?_
        refine c_V (own := R_M) (index := 64) (As := [.int (nI (a)), .int (nI (i))]) (rest := [.ref (ad (0))]) hx hb hml hown hg hK (fun _ _ _ h => h) (fun _ _ => trivial) (fun _ h => h) hP hS 0 (c_M_at l D cI cB ad hI M1 n len ch sp hR1 (a) (i) (by omega) (by omega)) (by decide) (ci := 8) rfl rfl k_887 k_889 k_p27 k_9 k_890 2 rfl (by decide +kernel) (by decide) rfl hl.1 (Nat.le_of_ble_eq_true rfl) d_M_join_146 (fun v M' H locs hq hP _ _ hS => ?_)
        obtain ⟨rfl, rfl⟩ := hq
        refine W.eq (g2 := F0 m 149 ls [.int (nI (ch (a) (i))), .ref (ad (0))]) rfl ?_
        refine c_V (own := R_M) (index := 75) (As := [.int (nI (ch (a) (i)))]) (rest := []) hx hb hml hown hg hK (fun _ _ _ h => h) (fun _ _ => trivial) (fun _ h => h) hP hS 0 (c_M_makes l D cI cB ad hI M1 (i) (scJ1 ch a b9 (c9)) hMK (ch (a) (i)) (by have := hch a i ha (by omega); omega) (by omega)) (by decide) (ci := 8) rfl rfl k_875 k_877 k_p24 k_9 k_878 1 rfl (by decide +kernel) (by decide) rfl hl.1 (Nat.le_of_ble_eq_true rfl) d_M_join_149 (fun v M_4 H locs hq hP _ _ hS => ?_)
        obtain ⟨rfl, eM_4⟩ := hq
        rw [show ch (a) (i) = (scJ1 ch a b9 (c9)) (i) from (if_pos (by omega)).symm] at eM_4
        have hSX : SX M M_4 := hSX.tr (by rw [eM_4]; exact SX.add _ _ _ _)
        have hMK : MK M_4 (i + 1) (scJ1 ch a b9 (c9)) := by rw [eM_4]; exact hMK.add (by omega) (by unfold scJ1; rw [if_pos (by omega)]; have := hch a i ha (by omega); omega)
        have hR1 := hR.sx hSX
        refine W.eq (g2 := F0 m 152 ls []) rfl ?_
        refine n_inc (lv' := [(5, .int (nI (i + 1))), (0, .ref (ad (0))), (1, .int (nI (a))), (2, .int (nI (b9))), (3, .int (nI (1))), (4, .int (nI (c9)))]) hx hb d_M_join_152 hl (k := 5) rfl (by decide) rfl (fun ls hl => ?_)
        refine lv_goto (tgt := 134) hx hb d_M_join_155 (by decide) ?_
        exact ih134 (i + 1) M_4 _ _ ls (by omega) (by omega) (hSX) (hMK) hP hS (lv_sub hl [1, 2, 3, 4, 5, 0] rfl)
  have J93 : ∀ (fu93 : Nat) (i : Nat) (M1 : PM) (H : Heap) (locs : List Loc) (ls : Array Slot), len a - i < fu93 → (i ≤ len a) → (∀ q, q < i → ch a q ≠ 35) → (SX M M1) → va_P D clsA (gw 13 ad (cfM cI cB ad) M1) H → va_S (GA 13 ad) s.heap H locs → lv_has ls 6 [(0, .ref (ad (0))), (1, .int (nI (a))), (2, .int (nI (b9))), (3, .int (nI (1))), (4, .int (nI (i)))] → W p l e (rm_ 3 67) s m ([.ref (ad (0)), .int (nI (a)), .int (nI (b9)), .int (nI (1))] : List Value).toArray below meth c H locs 0 0 (MQ below (GQ D 13 ad (cfM cI cB ad) (fun v M' => v = some (.int (nI k8)) ∧ SX M M' ∧ M' 0 0 = nI 0)) ([.ref (ad (0)), .int (nI (a)), .int (nI (b9)), .int (nI (1))] : List Value).toArray s 0 0 (GA 13 ad)) (F0 m 93 ls []) := by
    intro fu93
    induction fu93 with
    | zero => intro i M1 H locs ls hfu; exact absurd hfu (Nat.not_lt_zero _)
    | succ fu93 ih93 =>
      intro i M1 H locs ls hfu93 hi hpv hSX hP hS hl
      have hR1 := hR.sx hSX
      refine lv_iload_n hx hb d_M_join_93 rfl (lv_at hl 3 rfl) ?_
      refine n_const (k := 1) hx hb d_M_join_94 (by decide) ?_
      refine n_ne (a := 1) (b := 1) (tgt := 127) hx hb d_M_join_95 (by decide) (by decide) (by decide) (fun h9 => absurd h9 (by decide)) (fun _ => ?_)
      refine lv_iload hx hb d_M_join_98 (lv_at hl 4 rfl) ?_
      refine lv_aload_n hx hb d_M_join_100 rfl (lv_at hl 0 rfl) ?_
      refine g_get (C := R_M) (T := T_M) (N := 19) (ci := 8) (v := .ref (ad (3))) hx hb hg i_M hown hK hP 0 (by decide) rfl rfl 4 (by decide) (hg _ k_797) rfl d_M_join_101 ?_
      refine lv_iload_n hx hb d_M_join_104 rfl (lv_at hl 1 rfl) ?_
      refine g_iald hx hb hK hP 3 0 (by decide) rfl rfl (by decide) (j := a) (by omega) d_M_join_105 ?_
      refine n_top (y := (nI (len (a)))) ((hR1.2.2.1 (a) (by omega)).2.2) ?_
      refine n_ge (a := i) (b := len (a)) (tgt := 127) hx hb d_M_join_106 (by decide) (by omega) (by omega) (fun c_106 => ?_) (fun c_106 => ?_)
      · have e9 : i = c9 := Cut1.uniq ⟨hi, hpv, Or.inl (by omega)⟩ hcut
        rw [e9] at hl
        have hl : lv_has ls 6 [(0, .ref (ad (0))), (1, .int (nI (a))), (2, .int (nI (b9))), (3, .int (nI (1))), (4, .int (nI (c9)))] := hl
        refine lv_aload_n hx hb d_M_join_127 rfl (lv_at hl 0 rfl) ?_
        refine c_V (own := R_M) (index := 72) (As := []) (rest := []) hx hb hml hown hg hK (fun _ _ _ h => h) (fun _ _ => trivial) (fun _ h => h) hP hS 0 (c_M_begin l D cI cB ad hI M1) (by decide) (ci := 8) rfl rfl k_871 k_873 k_p23 k_9 k_874 0 rfl (by decide +kernel) (by decide) rfl hl.1 (Nat.le_of_ble_eq_true rfl) d_M_join_128 (fun v M_5 H locs hq hP _ _ hS => ?_)
        obtain ⟨rfl, eM_5⟩ := hq
        have hSX : SX M M_5 := hSX.tr (by rw [eM_5]; exact SX.begin _)
        have hMK : MK M_5 0 (scJ1 ch a b9 (c9)) := by rw [eM_5]; exact MK.begin _ _
        have hR1 := hR.sx hSX
        refine W.eq (g2 := F0 m 131 ls []) rfl ?_
        refine n_const (k := 0) hx hb d_M_join_131 (by decide) ?_
        refine lv_istore (lv' := [(5, .int (nI (0))), (0, .ref (ad (0))), (1, .int (nI (a))), (2, .int (nI (b9))), (3, .int (nI (1))), (4, .int (nI (c9)))]) hx hb d_M_join_132 hl (by decide) rfl (fun ls hl => ?_)
        exact J134 (_ + 1) (0) M_5 _ _ ls (Nat.lt_succ_self _) (by omega) (hSX) (hMK) hP hS (lv_sub hl [1, 2, 3, 4, 5, 0] rfl)
      · refine lv_aload_n hx hb d_M_join_109 rfl (lv_at hl 0 rfl) ?_
        refine lv_iload_n hx hb d_M_join_110 rfl (lv_at hl 1 rfl) ?_
        refine lv_iload hx hb d_M_join_111 (lv_at hl 4 rfl) ?_
        refine c_V (own := R_M) (index := 64) (As := [.int (nI (a)), .int (nI (i))]) (rest := []) hx hb hml hown hg hK (fun _ _ _ h => h) (fun _ _ => trivial) (fun _ h => h) hP hS 0 (c_M_at l D cI cB ad hI M1 n len ch sp hR1 (a) (i) (by omega) (by omega)) (by decide) (ci := 8) rfl rfl k_887 k_889 k_p27 k_9 k_890 2 rfl (by decide +kernel) (by decide) rfl hl.1 (Nat.le_of_ble_eq_true rfl) d_M_join_113 (fun v M' H locs hq hP _ _ hS => ?_)
        obtain ⟨rfl, rfl⟩ := hq
        refine W.eq (g2 := F0 m 116 ls [.int (nI (ch (a) (i)))]) rfl ?_
        refine n_bipush (k := 35) hx hb d_M_join_116 (by decide) ?_
        refine n_eq (a := ch (a) (i)) (b := 35) (tgt := 127) hx hb d_M_join_118 (by decide) (by have := hch a i ha (by omega); omega) (by omega) (fun c_118 => ?_) (fun c_118 => ?_)
        · have e9 : i = c9 := Cut1.uniq ⟨hi, hpv, Or.inr c_118⟩ hcut
          rw [e9] at hl
          have hl : lv_has ls 6 [(0, .ref (ad (0))), (1, .int (nI (a))), (2, .int (nI (b9))), (3, .int (nI (1))), (4, .int (nI (c9)))] := hl
          refine lv_aload_n hx hb d_M_join_127 rfl (lv_at hl 0 rfl) ?_
          refine c_V (own := R_M) (index := 72) (As := []) (rest := []) hx hb hml hown hg hK (fun _ _ _ h => h) (fun _ _ => trivial) (fun _ h => h) hP hS 0 (c_M_begin l D cI cB ad hI M1) (by decide) (ci := 8) rfl rfl k_871 k_873 k_p23 k_9 k_874 0 rfl (by decide +kernel) (by decide) rfl hl.1 (Nat.le_of_ble_eq_true rfl) d_M_join_128 (fun v M_6 H locs hq hP _ _ hS => ?_)
          obtain ⟨rfl, eM_6⟩ := hq
          have hSX : SX M M_6 := hSX.tr (by rw [eM_6]; exact SX.begin _)
          have hMK : MK M_6 0 (scJ1 ch a b9 (c9)) := by rw [eM_6]; exact MK.begin _ _
          have hR1 := hR.sx hSX
          refine W.eq (g2 := F0 m 131 ls []) rfl ?_
          refine n_const (k := 0) hx hb d_M_join_131 (by decide) ?_
          refine lv_istore (lv' := [(5, .int (nI (0))), (0, .ref (ad (0))), (1, .int (nI (a))), (2, .int (nI (b9))), (3, .int (nI (1))), (4, .int (nI (c9)))]) hx hb d_M_join_132 hl (by decide) rfl (fun ls hl => ?_)
          exact J134 (_ + 1) (0) M_6 _ _ ls (Nat.lt_succ_self _) (by omega) (hSX) (hMK) hP hS (lv_sub hl [1, 2, 3, 4, 5, 0] rfl)
        · refine n_inc (lv' := [(4, .int (nI (i + 1))), (0, .ref (ad (0))), (1, .int (nI (a))), (2, .int (nI (b9))), (3, .int (nI (1)))]) hx hb d_M_join_121 hl (k := 4) rfl (by decide) rfl (fun ls hl => ?_)
          refine lv_goto (tgt := 93) hx hb d_M_join_124 (by decide) ?_
          exact ih93 (i + 1) M1 _ _ ls (by omega) (by omega) (lt_S hpv c_118) (hSX) hP hS (lv_sub hl [1, 2, 3, 4, 0] rfl)
  refine lv_aload_n hx hb d_M_join_0 rfl (lv_at hl 0 rfl) ?_
  refine lv_aload_n hx hb d_M_join_1 rfl (lv_at hl 0 rfl) ?_
  refine lv_iload_n hx hb d_M_join_2 rfl (lv_at hl 1 rfl) ?_
  refine c_V (own := R_M) (index := 89) (As := [.int (nI (a))]) (rest := [.ref (ad (0))]) hx hb hml hown hg hK (fun _ _ _ h => h) (fun _ _ => trivial) (fun _ h => h) hP hS 0 (c_M_no l D cI cB ad hI M n len ch sp hR (nI (a)) false (no_f (by omega))) (by decide) (ci := 8) rfl rfl k_907 k_909 k_p30 k_9 k_910 1 rfl (by decide +kernel) (by decide) rfl hl.1 (Nat.le_of_ble_eq_true rfl) d_M_join_3 (fun v M' H locs hq hP _ _ hS => ?_)
  obtain ⟨rfl, rfl⟩ := hq
  refine W.eq (g2 := F0 m 6 ls [.int (bI (false)), .ref (ad (0))]) rfl ?_
  refine z_ne (t := false) (tgt := 17) hx hb d_M_join_6 (by decide) (fun h9 => absurd h9 (by decide)) (fun _ => ?_)
  refine lv_aload_n hx hb d_M_join_9 rfl (lv_at hl 0 rfl) ?_
  refine lv_iload_n hx hb d_M_join_10 rfl (lv_at hl 2 rfl) ?_
  refine c_V (own := R_M) (index := 89) (As := [.int (nI (b9))]) (rest := [.ref (ad (0))]) hx hb hml hown hg hK (fun _ _ _ h => h) (fun _ _ => trivial) (fun _ h => h) hP hS 0 (c_M_no l D cI cB ad hI M n len ch sp hR (nI (b9)) false (no_f (by omega))) (by decide) (ci := 8) rfl rfl k_907 k_909 k_p30 k_9 k_910 1 rfl (by decide +kernel) (by decide) rfl hl.1 (Nat.le_of_ble_eq_true rfl) d_M_join_11 (fun v M' H locs hq hP _ _ hS => ?_)
  obtain ⟨rfl, rfl⟩ := hq
  refine W.eq (g2 := F0 m 14 ls [.int (bI (false)), .ref (ad (0))]) rfl ?_
  refine z_eq (t := false) (tgt := 21) hx hb d_M_join_14 (by decide) (fun _ => ?_) (fun h9 => absurd h9 (by decide))
  refine lv_iload_n hx hb d_M_join_21 rfl (lv_at hl 3 rfl) ?_
  refine lv_if_lt (tgt := 30) hx hb d_M_join_22 (by decide) (fun h9 => by first | exact absurd h9 (by decide) | exact absurd (by decide) h9) (fun _ => ?_)
  refine lv_iload_n hx hb d_M_join_25 rfl (lv_at hl 3 rfl) ?_
  refine n_const (k := 1) hx hb d_M_join_26 (by decide) ?_
  refine n_le (a := 1) (b := 1) (tgt := 34) hx hb d_M_join_27 (by decide) (by decide) (by decide) (fun _ => ?_) (fun h9 => absurd h9 (by decide))
  refine n_const (k := 0) hx hb d_M_join_34 (by decide) ?_
  refine c_V (own := R_M) (index := 57) (As := [.int (nI (0))]) (rest := []) hx hb hml hown hg hK (fun _ _ _ h => h) (fun _ _ => trivial) (fun _ h => h) hP hS 0 (c_M_refuses l D cI cB ad hI M (0) (by decide)) (by decide) (ci := 8) rfl rfl k_859 k_861 k_p22 k_9 k_862 1 rfl (by decide +kernel) (by decide) rfl hl.1 (Nat.le_of_ble_eq_true rfl) d_M_join_35 (fun v M_7 H locs hq hP _ _ hS => ?_)
  obtain ⟨rfl, eM_7⟩ := hq
  have hR1 := hR.sx (SX.thr M (nI 0))
  rw [← eM_7] at hR1
  have hSX := hSX.tr (SX.thr M (nI 0))
  rw [← eM_7] at hSX
  refine W.eq (g2 := F0 m 38 ls [.int (bI (false))]) rfl ?_
  refine z_eq (t := false) (tgt := 43) hx hb d_M_join_38 (by decide) (fun _ => ?_) (fun h9 => absurd h9 (by decide))
  refine n_const (k := 0) hx hb d_M_join_43 (by decide) ?_
  refine lv_istore (lv' := [(4, .int (nI (0))), (0, .ref (ad (0))), (1, .int (nI (a))), (2, .int (nI (b9))), (3, .int (nI (1)))]) hx hb d_M_join_44 hl (by decide) rfl (fun ls hl => ?_)
  refine n_const (k := 0) hx hb d_M_join_46 (by decide) ?_
  refine lv_istore (lv' := [(5, .int (nI (0))), (4, .int (nI (0))), (0, .ref (ad (0))), (1, .int (nI (a))), (2, .int (nI (b9))), (3, .int (nI (1)))]) hx hb d_M_join_47 hl (by decide) rfl (fun ls hl => ?_)
  refine lv_iload hx hb d_M_join_49 (lv_at hl 0 rfl) ?_
  refine lv_aload_n hx hb d_M_join_51 rfl (lv_at hl 2 rfl) ?_
  refine g_get (C := R_M) (T := T_M) (N := 19) (ci := 8) (v := .ref (ad (3))) hx hb hg i_M hown hK hP 0 (by decide) rfl rfl 4 (by decide) (hg _ k_797) rfl d_M_join_52 ?_
  refine lv_iload_n hx hb d_M_join_55 rfl (lv_at hl 3 rfl) ?_
  refine g_iald hx hb hK hP 3 0 (by decide) rfl rfl (by decide) (j := a) (by omega) d_M_join_56 ?_
  refine n_top (y := (nI (len (a)))) (by rw [eM_7, pu_k _ _ _ _ _ (by first | decide | omega)]; exact (hR.2.2.1 (a) (by omega)).2.2) ?_
  refine n_ge (a := 0) (b := len (a)) (tgt := 93) hx hb d_M_join_57 (by decide) (by omega) (by omega) (fun c_57 => ?_) (fun c_57 => ?_)
  · exact J93 (_ + 1) (0) M_7 _ _ ls (Nat.lt_succ_self _) (by omega) (fun q hq => absurd hq (Nat.not_lt_zero q)) (hSX) hP hS (lv_sub hl [2, 3, 4, 5, 1] rfl)
  · refine lv_iload_n hx hb d_M_join_60 rfl (lv_at hl 5 rfl) ?_
    refine lv_if_ne (tgt := 93) hx hb d_M_join_61 (by decide) (fun _ => ?_) (fun h9 => by first | exact absurd h9 (by decide) | exact absurd (by decide) h9)
    exact J93 (_ + 1) (0) M_7 _ _ ls (Nat.lt_succ_self _) (by omega) (fun q hq => absurd hq (Nat.not_lt_zero q)) (hSX) hP hS (lv_sub hl [2, 3, 4, 5, 1] rfl)

set_option maxHeartbeats 4000000 in
set_option maxRecDepth 100000 in
theorem c_M_join_n1 (l : Launch) (D : va_G) (cI cB : ClassId) (ad : Nat → Nat) (hI : GI 13 ad) (M : PM) (n : Nat) (len : Nat → Nat) (ch : Nat → Nat → Nat) (sp : Nat → Option Nat) (hR : RN M n len ch sp) (a b9 : Nat) (ha : a < n) (hb9 : b9 < n) (c9 : Nat) (hcut : Cut1 len ch a c9) (ho : Fst (sameT len ch (c9 + 1 + len b9) (scJ1 ch a b9 (c9))) n none) (h24 : c9 + 1 + len b9 ≤ 24) (hn9 : n < 60) : MM l D cI cB ad y_M_join b_M_join 6 (some .int) 3 67 [.ref (ad (0)), .int (nI (a)), .int (nI (b9)), .int (nI (1))] M (fun v M' => v = some (.int (nI n)) ∧ ∃ M0, SX M M0 ∧ M0 0 0 = nI 0 ∧ CMd M0 M' n (c9 + 1 + len b9) (scJ1 ch a b9 (c9))) := by
  refine MC.of (by decide) (Nat.le_of_ble_eq_true rfl) ?_
  intro p e s m below meth c ls hx hb hr hml hown hg hlocks hK hN hP hS hl
  have hown : s.vm.findClass R_M = some m.cls := hown
  have hl : lv_has ls 6 [(0, .ref (ad (0))), (1, .int (nI (a))), (2, .int (nI (b9))), (3, .int (nI (1)))] := hl
  have hn60 : n ≤ 60 := hR.1
  have hl24 := hR.2.2.1
  have hspn := hR.2.2.2.2.1
  have hch := hR.2.2.2.2.2
  have la := hl24 a ha
  have lb := hl24 b9 hb9
  have hSX := SX.rf M
  have hcl := hcut.1
  have J172 : ∀ (fu172 : Nat) (i : Nat) (M1 : PM) (H : Heap) (locs : List Loc) (ls : Array Slot), len b9 - i < fu172 → (i ≤ len b9) → (SX M M1) → (MK M1 (c9 + 1 + i) (scJ1 ch a b9 (c9))) → va_P D clsA (gw 13 ad (cfM cI cB ad) M1) H → va_S (GA 13 ad) s.heap H locs → lv_has ls 6 [(0, .ref (ad (0))), (1, .int (nI (a))), (2, .int (nI (b9))), (3, .int (nI (1))), (5, .int (nI (i)))] → W p l e (rm_ 3 67) s m ([.ref (ad (0)), .int (nI (a)), .int (nI (b9)), .int (nI (1))] : List Value).toArray below meth c H locs 0 0 (MQ below (GQ D 13 ad (cfM cI cB ad) (fun v M' => v = some (.int (nI n)) ∧ ∃ M0, SX M M0 ∧ M0 0 0 = nI 0 ∧ CMd M0 M' n (c9 + 1 + len b9) (scJ1 ch a b9 (c9)))) ([.ref (ad (0)), .int (nI (a)), .int (nI (b9)), .int (nI (1))] : List Value).toArray s 0 0 (GA 13 ad)) (F0 m 172 ls []) := by
    intro fu172
    induction fu172 with
    | zero => intro i M1 H locs ls hfu; exact absurd hfu (Nat.not_lt_zero _)
    | succ fu172 ih172 =>
      intro i M1 H locs ls hfu172 hi hSX hMK hP hS hl
      have hR1 := hR.sx hSX
      refine lv_iload hx hb d_M_join_172 (lv_at hl 4 rfl) ?_
      refine lv_aload_n hx hb d_M_join_174 rfl (lv_at hl 0 rfl) ?_
      refine g_get (C := R_M) (T := T_M) (N := 19) (ci := 8) (v := .ref (ad (3))) hx hb hg i_M hown hK hP 0 (by decide) rfl rfl 4 (by decide) (hg _ k_797) rfl d_M_join_175 ?_
      refine lv_iload_n hx hb d_M_join_178 rfl (lv_at hl 2 rfl) ?_
      refine g_iald hx hb hK hP 3 0 (by decide) rfl rfl (by decide) (j := b9) (by omega) d_M_join_179 ?_
      refine n_top (y := (nI (len (b9)))) ((hR1.2.2.1 (b9) (by omega)).2.2) ?_
      refine n_ge (a := i) (b := len (b9)) (tgt := 200) hx hb d_M_join_180 (by decide) (by omega) (by omega) (fun c_180 => ?_) (fun c_180 => ?_)
      · have hMK : MK M1 (c9 + 1 + len b9) (scJ1 ch a b9 (c9)) := by rw [show c9 + 1 + len b9 = c9 + 1 + i by omega]; exact hMK
        refine lv_aload_n hx hb d_M_join_200 rfl (lv_at hl 0 rfl) ?_
        refine lv_aload_n hx hb d_M_join_201 rfl (lv_at hl 0 rfl) ?_
        refine c_V (own := R_M) (index := 79) (As := []) (rest := [.ref (ad (0))]) hx hb hml hown hg hK (fun _ _ _ h => h) (fun _ _ => trivial) (fun _ h => h) hP hS 0 (c_M_isTooMuch l D cI cB ad hI M1 n len ch sp hR1 (c9 + 1 + len b9) (scJ1 ch a b9 (c9)) hMK (none) ho false ⟨fun h => (by cases h), fun h => by omega⟩) (by decide) (ci := 8) rfl rfl k_879 k_881 k_p25 k_9 k_882 0 rfl (by decide +kernel) (by decide) rfl hl.1 (Nat.le_of_ble_eq_true rfl) d_M_join_202 (fun v M' H locs hq hP _ _ hS => ?_)
        obtain ⟨rfl, rfl⟩ := hq
        refine W.eq (g2 := F0 m 205 ls [.int (bI (false)), .ref (ad (0))]) rfl ?_
        refine z_eq (t := false) (tgt := 212) hx hb d_M_join_205 (by decide) (fun _ => ?_) (fun h9 => absurd h9 (by decide))
        refine n_const (k := 0) hx hb d_M_join_212 (by decide) ?_
        refine c_V (own := R_M) (index := 57) (As := [.int (nI (0))]) (rest := []) hx hb hml hown hg hK (fun _ _ _ h => h) (fun _ _ => trivial) (fun _ h => h) hP hS 0 (c_M_refuses l D cI cB ad hI M1 (0) (by decide)) (by decide) (ci := 8) rfl rfl k_859 k_861 k_p22 k_9 k_862 1 rfl (by decide +kernel) (by decide) rfl hl.1 (Nat.le_of_ble_eq_true rfl) d_M_join_213 (fun v M_1 H locs hq hP _ _ hS => ?_)
        obtain ⟨rfl, eM_1⟩ := hq
        have hR1 := hR1.sx (SX.thr M1 (nI 0))
        rw [← eM_1] at hR1
        have hSX := hSX.tr (SX.thr M1 (nI 0))
        rw [← eM_1] at hSX
        have hMK := hMK.thr (nI 0)
        rw [← eM_1] at hMK
        refine W.eq (g2 := F0 m 216 ls [.int (bI (false))]) rfl ?_
        refine z_eq (t := false) (tgt := 223) hx hb d_M_join_216 (by decide) (fun _ => ?_) (fun h9 => absurd h9 (by decide))
        refine lv_aload_n hx hb d_M_join_223 rfl (lv_at hl 0 rfl) ?_
        refine c_V (own := R_M) (index := 83) (As := []) (rest := []) hx hb hml hown hg hK (fun _ _ _ h => h) (fun _ _ => trivial) (fun _ h => h) hP hS 0 (c_M_comes_new l D cI cB ad hI M_1 n len ch sp hR1 (c9 + 1 + len b9) (scJ1 ch a b9 (c9)) hMK ho hn9 (by omega) h24) (by decide) (ci := 8) rfl rfl k_891 k_893 k_p28 k_9 k_894 0 rfl (by decide +kernel) (by decide) rfl hl.1 (Nat.le_of_ble_eq_true rfl) d_M_join_224 (fun v M_2 H locs hq hP _ _ hS => ?_)
        have h009 : M_1 0 0 = nI 0 := by rw [eM_1, pu_s]
        obtain ⟨rfl, eM_2⟩ := hq
        refine W.eq (g2 := F0 m 227 ls [.int (nI (n))]) rfl ?_
        exact r_i hx hb hr hlocks hP hS (⟨rfl, _, hSX, h009, eM_2⟩) d_M_join_227
      · refine lv_aload_n hx hb d_M_join_183 rfl (lv_at hl 0 rfl) ?_
        refine lv_aload_n hx hb d_M_join_184 rfl (lv_at hl 0 rfl) ?_
        refine lv_iload_n hx hb d_M_join_185 rfl (lv_at hl 2 rfl) ?_
        refine lv_iload hx hb d_M_join_186 (lv_at hl 4 rfl) ?_
        refine c_V (own := R_M) (index := 64) (As := [.int (nI (b9)), .int (nI (i))]) (rest := [.ref (ad (0))]) hx hb hml hown hg hK (fun _ _ _ h => h) (fun _ _ => trivial) (fun _ h => h) hP hS 0 (c_M_at l D cI cB ad hI M1 n len ch sp hR1 (b9) (i) (by omega) (by omega)) (by decide) (ci := 8) rfl rfl k_887 k_889 k_p27 k_9 k_890 2 rfl (by decide +kernel) (by decide) rfl hl.1 (Nat.le_of_ble_eq_true rfl) d_M_join_188 (fun v M' H locs hq hP _ _ hS => ?_)
        obtain ⟨rfl, rfl⟩ := hq
        refine W.eq (g2 := F0 m 191 ls [.int (nI (ch (b9) (i))), .ref (ad (0))]) rfl ?_
        refine c_V (own := R_M) (index := 75) (As := [.int (nI (ch (b9) (i)))]) (rest := []) hx hb hml hown hg hK (fun _ _ _ h => h) (fun _ _ => trivial) (fun _ h => h) hP hS 0 (c_M_makes l D cI cB ad hI M1 (c9 + 1 + i) (scJ1 ch a b9 (c9)) hMK (ch (b9) (i)) (by have := hch b9 i hb9 (by omega); omega) (by omega)) (by decide) (ci := 8) rfl rfl k_875 k_877 k_p24 k_9 k_878 1 rfl (by decide +kernel) (by decide) rfl hl.1 (Nat.le_of_ble_eq_true rfl) d_M_join_191 (fun v M_3 H locs hq hP _ _ hS => ?_)
        obtain ⟨rfl, eM_3⟩ := hq
        rw [show ch (b9) (i) = (scJ1 ch a b9 (c9)) (c9 + 1 + i) from (by unfold scJ1; rw [if_neg (by omega), if_neg (by omega)]; congr 1; omega)] at eM_3
        have hSX : SX M M_3 := hSX.tr (by rw [eM_3]; exact SX.add _ _ _ _)
        have hMK : MK M_3 (c9 + 1 + i + 1) (scJ1 ch a b9 (c9)) := by rw [eM_3]; exact hMK.add (by omega) (by unfold scJ1; rw [if_neg (by omega), if_neg (by omega)]; have := hch b9 (c9 + 1 + i - c9 - 1) hb9 (by omega); omega)
        have hR1 := hR.sx hSX
        refine W.eq (g2 := F0 m 194 ls []) rfl ?_
        refine n_inc (lv' := [(5, .int (nI (i + 1))), (0, .ref (ad (0))), (1, .int (nI (a))), (2, .int (nI (b9))), (3, .int (nI (1)))]) hx hb d_M_join_194 hl (k := 4) rfl (by decide) rfl (fun ls hl => ?_)
        refine lv_goto (tgt := 172) hx hb d_M_join_197 (by decide) ?_
        exact ih172 (i + 1) M_3 _ _ ls (by omega) (by omega) (hSX) (by rw [show c9 + 1 + (i + 1) = c9 + 1 + i + 1 by omega]; exact hMK) hP hS (lv_sub hl [1, 2, 3, 4, 0] rfl)
  have J134 : ∀ (fu134 : Nat) (i : Nat) (M1 : PM) (H : Heap) (locs : List Loc) (ls : Array Slot), c9 - i < fu134 → (i ≤ c9) → (SX M M1) → (MK M1 (i) (scJ1 ch a b9 (c9))) → va_P D clsA (gw 13 ad (cfM cI cB ad) M1) H → va_S (GA 13 ad) s.heap H locs → lv_has ls 6 [(0, .ref (ad (0))), (1, .int (nI (a))), (2, .int (nI (b9))), (3, .int (nI (1))), (4, .int (nI (c9))), (5, .int (nI (i)))] → W p l e (rm_ 3 67) s m ([.ref (ad (0)), .int (nI (a)), .int (nI (b9)), .int (nI (1))] : List Value).toArray below meth c H locs 0 0 (MQ below (GQ D 13 ad (cfM cI cB ad) (fun v M' => v = some (.int (nI n)) ∧ ∃ M0, SX M M0 ∧ M0 0 0 = nI 0 ∧ CMd M0 M' n (c9 + 1 + len b9) (scJ1 ch a b9 (c9)))) ([.ref (ad (0)), .int (nI (a)), .int (nI (b9)), .int (nI (1))] : List Value).toArray s 0 0 (GA 13 ad)) (F0 m 134 ls []) := by
    intro fu134
    induction fu134 with
    | zero => intro i M1 H locs ls hfu; exact absurd hfu (Nat.not_lt_zero _)
    | succ fu134 ih134 =>
      intro i M1 H locs ls hfu134 hi hSX hMK hP hS hl
      have hR1 := hR.sx hSX
      refine lv_iload hx hb d_M_join_134 (lv_at hl 5 rfl) ?_
      refine lv_iload hx hb d_M_join_136 (lv_at hl 4 rfl) ?_
      refine n_ge (a := i) (b := c9) (tgt := 158) hx hb d_M_join_138 (by decide) (by omega) (by omega) (fun c_138 => ?_) (fun c_138 => ?_)
      · refine lv_iload_n hx hb d_M_join_158 rfl (lv_at hl 3 rfl) ?_
        refine n_const (k := 1) hx hb d_M_join_159 (by decide) ?_
        refine n_ne (a := 1) (b := 1) (tgt := 169) hx hb d_M_join_160 (by decide) (by decide) (by decide) (fun h9 => absurd h9 (by decide)) (fun _ => ?_)
        refine lv_aload_n hx hb d_M_join_163 rfl (lv_at hl 0 rfl) ?_
        refine n_bipush (k := 35) hx hb d_M_join_164 (by decide) ?_
        refine c_V (own := R_M) (index := 75) (As := [.int (nI (35))]) (rest := []) hx hb hml hown hg hK (fun _ _ _ h => h) (fun _ _ => trivial) (fun _ h => h) hP hS 0 (c_M_makes l D cI cB ad hI M1 (i) (scJ1 ch a b9 (c9)) hMK (35) (by decide) (by omega)) (by decide) (ci := 8) rfl rfl k_875 k_877 k_p24 k_9 k_878 1 rfl (by decide +kernel) (by decide) rfl hl.1 (Nat.le_of_ble_eq_true rfl) d_M_join_166 (fun v M_4 H locs hq hP _ _ hS => ?_)
        obtain ⟨rfl, eM_4⟩ := hq
        rw [show 35 = (scJ1 ch a b9 (c9)) (i) from (by unfold scJ1; rw [if_neg (by omega), if_pos (by omega)])] at eM_4
        have hSX : SX M M_4 := hSX.tr (by rw [eM_4]; exact SX.add _ _ _ _)
        have hMK : MK M_4 (i + 1) (scJ1 ch a b9 (c9)) := by rw [eM_4]; exact hMK.add (by omega) (by unfold scJ1; rw [if_neg (by omega), if_pos (by omega)]; decide)
        have hR1 := hR.sx hSX
        refine W.eq (g2 := F0 m 169 ls []) rfl ?_
        refine n_const (k := 0) hx hb d_M_join_169 (by decide) ?_
        refine lv_istore (lv' := [(5, .int (nI (0))), (0, .ref (ad (0))), (1, .int (nI (a))), (2, .int (nI (b9))), (3, .int (nI (1))), (4, .int (nI (c9)))]) hx hb d_M_join_170 hl (by decide) rfl (fun ls hl => ?_)
        exact J172 (_ + 1) (0) M_4 _ _ ls (Nat.lt_succ_self _) (by omega) (hSX) (by rw [show c9 + 1 + 0 = i + 1 by omega]; exact hMK) hP hS (lv_sub hl [1, 2, 3, 4, 0] rfl)
      · refine lv_aload_n hx hb d_M_join_141 rfl (lv_at hl 0 rfl) ?_
        refine lv_aload_n hx hb d_M_join_142 rfl (lv_at hl 0 rfl) ?_
        refine lv_iload_n hx hb d_M_join_143 rfl (lv_at hl 1 rfl) ?_
        refine lv_iload hx hb d_M_join_144 (lv_at hl 5 rfl) ?_
        refine c_V (own := R_M) (index := 64) (As := [.int (nI (a)), .int (nI (i))]) (rest := [.ref (ad (0))]) hx hb hml hown hg hK (fun _ _ _ h => h) (fun _ _ => trivial) (fun _ h => h) hP hS 0 (c_M_at l D cI cB ad hI M1 n len ch sp hR1 (a) (i) (by omega) (by omega)) (by decide) (ci := 8) rfl rfl k_887 k_889 k_p27 k_9 k_890 2 rfl (by decide +kernel) (by decide) rfl hl.1 (Nat.le_of_ble_eq_true rfl) d_M_join_146 (fun v M' H locs hq hP _ _ hS => ?_)
        obtain ⟨rfl, rfl⟩ := hq
        refine W.eq (g2 := F0 m 149 ls [.int (nI (ch (a) (i))), .ref (ad (0))]) rfl ?_
        refine c_V (own := R_M) (index := 75) (As := [.int (nI (ch (a) (i)))]) (rest := []) hx hb hml hown hg hK (fun _ _ _ h => h) (fun _ _ => trivial) (fun _ h => h) hP hS 0 (c_M_makes l D cI cB ad hI M1 (i) (scJ1 ch a b9 (c9)) hMK (ch (a) (i)) (by have := hch a i ha (by omega); omega) (by omega)) (by decide) (ci := 8) rfl rfl k_875 k_877 k_p24 k_9 k_878 1 rfl (by decide +kernel) (by decide) rfl hl.1 (Nat.le_of_ble_eq_true rfl) d_M_join_149 (fun v M_5 H locs hq hP _ _ hS => ?_)
        obtain ⟨rfl, eM_5⟩ := hq
        rw [show ch (a) (i) = (scJ1 ch a b9 (c9)) (i) from (if_pos (by omega)).symm] at eM_5
        have hSX : SX M M_5 := hSX.tr (by rw [eM_5]; exact SX.add _ _ _ _)
        have hMK : MK M_5 (i + 1) (scJ1 ch a b9 (c9)) := by rw [eM_5]; exact hMK.add (by omega) (by unfold scJ1; rw [if_pos (by omega)]; have := hch a i ha (by omega); omega)
        have hR1 := hR.sx hSX
        refine W.eq (g2 := F0 m 152 ls []) rfl ?_
        refine n_inc (lv' := [(5, .int (nI (i + 1))), (0, .ref (ad (0))), (1, .int (nI (a))), (2, .int (nI (b9))), (3, .int (nI (1))), (4, .int (nI (c9)))]) hx hb d_M_join_152 hl (k := 5) rfl (by decide) rfl (fun ls hl => ?_)
        refine lv_goto (tgt := 134) hx hb d_M_join_155 (by decide) ?_
        exact ih134 (i + 1) M_5 _ _ ls (by omega) (by omega) (hSX) (hMK) hP hS (lv_sub hl [1, 2, 3, 4, 5, 0] rfl)
  have J93 : ∀ (fu93 : Nat) (i : Nat) (M1 : PM) (H : Heap) (locs : List Loc) (ls : Array Slot), len a - i < fu93 → (i ≤ len a) → (∀ q, q < i → ch a q ≠ 35) → (SX M M1) → va_P D clsA (gw 13 ad (cfM cI cB ad) M1) H → va_S (GA 13 ad) s.heap H locs → lv_has ls 6 [(0, .ref (ad (0))), (1, .int (nI (a))), (2, .int (nI (b9))), (3, .int (nI (1))), (4, .int (nI (i)))] → W p l e (rm_ 3 67) s m ([.ref (ad (0)), .int (nI (a)), .int (nI (b9)), .int (nI (1))] : List Value).toArray below meth c H locs 0 0 (MQ below (GQ D 13 ad (cfM cI cB ad) (fun v M' => v = some (.int (nI n)) ∧ ∃ M0, SX M M0 ∧ M0 0 0 = nI 0 ∧ CMd M0 M' n (c9 + 1 + len b9) (scJ1 ch a b9 (c9)))) ([.ref (ad (0)), .int (nI (a)), .int (nI (b9)), .int (nI (1))] : List Value).toArray s 0 0 (GA 13 ad)) (F0 m 93 ls []) := by
    intro fu93
    induction fu93 with
    | zero => intro i M1 H locs ls hfu; exact absurd hfu (Nat.not_lt_zero _)
    | succ fu93 ih93 =>
      intro i M1 H locs ls hfu93 hi hpv hSX hP hS hl
      have hR1 := hR.sx hSX
      refine lv_iload_n hx hb d_M_join_93 rfl (lv_at hl 3 rfl) ?_
      refine n_const (k := 1) hx hb d_M_join_94 (by decide) ?_
      refine n_ne (a := 1) (b := 1) (tgt := 127) hx hb d_M_join_95 (by decide) (by decide) (by decide) (fun h9 => absurd h9 (by decide)) (fun _ => ?_)
      refine lv_iload hx hb d_M_join_98 (lv_at hl 4 rfl) ?_
      refine lv_aload_n hx hb d_M_join_100 rfl (lv_at hl 0 rfl) ?_
      refine g_get (C := R_M) (T := T_M) (N := 19) (ci := 8) (v := .ref (ad (3))) hx hb hg i_M hown hK hP 0 (by decide) rfl rfl 4 (by decide) (hg _ k_797) rfl d_M_join_101 ?_
      refine lv_iload_n hx hb d_M_join_104 rfl (lv_at hl 1 rfl) ?_
      refine g_iald hx hb hK hP 3 0 (by decide) rfl rfl (by decide) (j := a) (by omega) d_M_join_105 ?_
      refine n_top (y := (nI (len (a)))) ((hR1.2.2.1 (a) (by omega)).2.2) ?_
      refine n_ge (a := i) (b := len (a)) (tgt := 127) hx hb d_M_join_106 (by decide) (by omega) (by omega) (fun c_106 => ?_) (fun c_106 => ?_)
      · have e9 : i = c9 := Cut1.uniq ⟨hi, hpv, Or.inl (by omega)⟩ hcut
        rw [e9] at hl
        have hl : lv_has ls 6 [(0, .ref (ad (0))), (1, .int (nI (a))), (2, .int (nI (b9))), (3, .int (nI (1))), (4, .int (nI (c9)))] := hl
        refine lv_aload_n hx hb d_M_join_127 rfl (lv_at hl 0 rfl) ?_
        refine c_V (own := R_M) (index := 72) (As := []) (rest := []) hx hb hml hown hg hK (fun _ _ _ h => h) (fun _ _ => trivial) (fun _ h => h) hP hS 0 (c_M_begin l D cI cB ad hI M1) (by decide) (ci := 8) rfl rfl k_871 k_873 k_p23 k_9 k_874 0 rfl (by decide +kernel) (by decide) rfl hl.1 (Nat.le_of_ble_eq_true rfl) d_M_join_128 (fun v M_6 H locs hq hP _ _ hS => ?_)
        obtain ⟨rfl, eM_6⟩ := hq
        have hSX : SX M M_6 := hSX.tr (by rw [eM_6]; exact SX.begin _)
        have hMK : MK M_6 0 (scJ1 ch a b9 (c9)) := by rw [eM_6]; exact MK.begin _ _
        have hR1 := hR.sx hSX
        refine W.eq (g2 := F0 m 131 ls []) rfl ?_
        refine n_const (k := 0) hx hb d_M_join_131 (by decide) ?_
        refine lv_istore (lv' := [(5, .int (nI (0))), (0, .ref (ad (0))), (1, .int (nI (a))), (2, .int (nI (b9))), (3, .int (nI (1))), (4, .int (nI (c9)))]) hx hb d_M_join_132 hl (by decide) rfl (fun ls hl => ?_)
        exact J134 (_ + 1) (0) M_6 _ _ ls (Nat.lt_succ_self _) (by omega) (hSX) (hMK) hP hS (lv_sub hl [1, 2, 3, 4, 5, 0] rfl)
      · refine lv_aload_n hx hb d_M_join_109 rfl (lv_at hl 0 rfl) ?_
        refine lv_iload_n hx hb d_M_join_110 rfl (lv_at hl 1 rfl) ?_
        refine lv_iload hx hb d_M_join_111 (lv_at hl 4 rfl) ?_
        refine c_V (own := R_M) (index := 64) (As := [.int (nI (a)), .int (nI (i))]) (rest := []) hx hb hml hown hg hK (fun _ _ _ h => h) (fun _ _ => trivial) (fun _ h => h) hP hS 0 (c_M_at l D cI cB ad hI M1 n len ch sp hR1 (a) (i) (by omega) (by omega)) (by decide) (ci := 8) rfl rfl k_887 k_889 k_p27 k_9 k_890 2 rfl (by decide +kernel) (by decide) rfl hl.1 (Nat.le_of_ble_eq_true rfl) d_M_join_113 (fun v M' H locs hq hP _ _ hS => ?_)
        obtain ⟨rfl, rfl⟩ := hq
        refine W.eq (g2 := F0 m 116 ls [.int (nI (ch (a) (i)))]) rfl ?_
        refine n_bipush (k := 35) hx hb d_M_join_116 (by decide) ?_
        refine n_eq (a := ch (a) (i)) (b := 35) (tgt := 127) hx hb d_M_join_118 (by decide) (by have := hch a i ha (by omega); omega) (by omega) (fun c_118 => ?_) (fun c_118 => ?_)
        · have e9 : i = c9 := Cut1.uniq ⟨hi, hpv, Or.inr c_118⟩ hcut
          rw [e9] at hl
          have hl : lv_has ls 6 [(0, .ref (ad (0))), (1, .int (nI (a))), (2, .int (nI (b9))), (3, .int (nI (1))), (4, .int (nI (c9)))] := hl
          refine lv_aload_n hx hb d_M_join_127 rfl (lv_at hl 0 rfl) ?_
          refine c_V (own := R_M) (index := 72) (As := []) (rest := []) hx hb hml hown hg hK (fun _ _ _ h => h) (fun _ _ => trivial) (fun _ h => h) hP hS 0 (c_M_begin l D cI cB ad hI M1) (by decide) (ci := 8) rfl rfl k_871 k_873 k_p23 k_9 k_874 0 rfl (by decide +kernel) (by decide) rfl hl.1 (Nat.le_of_ble_eq_true rfl) d_M_join_128 (fun v M_7 H locs hq hP _ _ hS => ?_)
          obtain ⟨rfl, eM_7⟩ := hq
          have hSX : SX M M_7 := hSX.tr (by rw [eM_7]; exact SX.begin _)
          have hMK : MK M_7 0 (scJ1 ch a b9 (c9)) := by rw [eM_7]; exact MK.begin _ _
          have hR1 := hR.sx hSX
          refine W.eq (g2 := F0 m 131 ls []) rfl ?_
          refine n_const (k := 0) hx hb d_M_join_131 (by decide) ?_
          refine lv_istore (lv' := [(5, .int (nI (0))), (0, .ref (ad (0))), (1, .int (nI (a))), (2, .int (nI (b9))), (3, .int (nI (1))), (4, .int (nI (c9)))]) hx hb d_M_join_132 hl (by decide) rfl (fun ls hl => ?_)
          exact J134 (_ + 1) (0) M_7 _ _ ls (Nat.lt_succ_self _) (by omega) (hSX) (hMK) hP hS (lv_sub hl [1, 2, 3, 4, 5, 0] rfl)
        · refine n_inc (lv' := [(4, .int (nI (i + 1))), (0, .ref (ad (0))), (1, .int (nI (a))), (2, .int (nI (b9))), (3, .int (nI (1)))]) hx hb d_M_join_121 hl (k := 4) rfl (by decide) rfl (fun ls hl => ?_)
          refine lv_goto (tgt := 93) hx hb d_M_join_124 (by decide) ?_
          exact ih93 (i + 1) M1 _ _ ls (by omega) (by omega) (lt_S hpv c_118) (hSX) hP hS (lv_sub hl [1, 2, 3, 4, 0] rfl)
  refine lv_aload_n hx hb d_M_join_0 rfl (lv_at hl 0 rfl) ?_
  refine lv_aload_n hx hb d_M_join_1 rfl (lv_at hl 0 rfl) ?_
  refine lv_iload_n hx hb d_M_join_2 rfl (lv_at hl 1 rfl) ?_
  refine c_V (own := R_M) (index := 89) (As := [.int (nI (a))]) (rest := [.ref (ad (0))]) hx hb hml hown hg hK (fun _ _ _ h => h) (fun _ _ => trivial) (fun _ h => h) hP hS 0 (c_M_no l D cI cB ad hI M n len ch sp hR (nI (a)) false (no_f (by omega))) (by decide) (ci := 8) rfl rfl k_907 k_909 k_p30 k_9 k_910 1 rfl (by decide +kernel) (by decide) rfl hl.1 (Nat.le_of_ble_eq_true rfl) d_M_join_3 (fun v M' H locs hq hP _ _ hS => ?_)
  obtain ⟨rfl, rfl⟩ := hq
  refine W.eq (g2 := F0 m 6 ls [.int (bI (false)), .ref (ad (0))]) rfl ?_
  refine z_ne (t := false) (tgt := 17) hx hb d_M_join_6 (by decide) (fun h9 => absurd h9 (by decide)) (fun _ => ?_)
  refine lv_aload_n hx hb d_M_join_9 rfl (lv_at hl 0 rfl) ?_
  refine lv_iload_n hx hb d_M_join_10 rfl (lv_at hl 2 rfl) ?_
  refine c_V (own := R_M) (index := 89) (As := [.int (nI (b9))]) (rest := [.ref (ad (0))]) hx hb hml hown hg hK (fun _ _ _ h => h) (fun _ _ => trivial) (fun _ h => h) hP hS 0 (c_M_no l D cI cB ad hI M n len ch sp hR (nI (b9)) false (no_f (by omega))) (by decide) (ci := 8) rfl rfl k_907 k_909 k_p30 k_9 k_910 1 rfl (by decide +kernel) (by decide) rfl hl.1 (Nat.le_of_ble_eq_true rfl) d_M_join_11 (fun v M' H locs hq hP _ _ hS => ?_)
  obtain ⟨rfl, rfl⟩ := hq
  refine W.eq (g2 := F0 m 14 ls [.int (bI (false)), .ref (ad (0))]) rfl ?_
  refine z_eq (t := false) (tgt := 21) hx hb d_M_join_14 (by decide) (fun _ => ?_) (fun h9 => absurd h9 (by decide))
  refine lv_iload_n hx hb d_M_join_21 rfl (lv_at hl 3 rfl) ?_
  refine lv_if_lt (tgt := 30) hx hb d_M_join_22 (by decide) (fun h9 => by first | exact absurd h9 (by decide) | exact absurd (by decide) h9) (fun _ => ?_)
  refine lv_iload_n hx hb d_M_join_25 rfl (lv_at hl 3 rfl) ?_
  refine n_const (k := 1) hx hb d_M_join_26 (by decide) ?_
  refine n_le (a := 1) (b := 1) (tgt := 34) hx hb d_M_join_27 (by decide) (by decide) (by decide) (fun _ => ?_) (fun h9 => absurd h9 (by decide))
  refine n_const (k := 0) hx hb d_M_join_34 (by decide) ?_
  refine c_V (own := R_M) (index := 57) (As := [.int (nI (0))]) (rest := []) hx hb hml hown hg hK (fun _ _ _ h => h) (fun _ _ => trivial) (fun _ h => h) hP hS 0 (c_M_refuses l D cI cB ad hI M (0) (by decide)) (by decide) (ci := 8) rfl rfl k_859 k_861 k_p22 k_9 k_862 1 rfl (by decide +kernel) (by decide) rfl hl.1 (Nat.le_of_ble_eq_true rfl) d_M_join_35 (fun v M_8 H locs hq hP _ _ hS => ?_)
  obtain ⟨rfl, eM_8⟩ := hq
  have hR1 := hR.sx (SX.thr M (nI 0))
  rw [← eM_8] at hR1
  have hSX := hSX.tr (SX.thr M (nI 0))
  rw [← eM_8] at hSX
  refine W.eq (g2 := F0 m 38 ls [.int (bI (false))]) rfl ?_
  refine z_eq (t := false) (tgt := 43) hx hb d_M_join_38 (by decide) (fun _ => ?_) (fun h9 => absurd h9 (by decide))
  refine n_const (k := 0) hx hb d_M_join_43 (by decide) ?_
  refine lv_istore (lv' := [(4, .int (nI (0))), (0, .ref (ad (0))), (1, .int (nI (a))), (2, .int (nI (b9))), (3, .int (nI (1)))]) hx hb d_M_join_44 hl (by decide) rfl (fun ls hl => ?_)
  refine n_const (k := 0) hx hb d_M_join_46 (by decide) ?_
  refine lv_istore (lv' := [(5, .int (nI (0))), (4, .int (nI (0))), (0, .ref (ad (0))), (1, .int (nI (a))), (2, .int (nI (b9))), (3, .int (nI (1)))]) hx hb d_M_join_47 hl (by decide) rfl (fun ls hl => ?_)
  refine lv_iload hx hb d_M_join_49 (lv_at hl 0 rfl) ?_
  refine lv_aload_n hx hb d_M_join_51 rfl (lv_at hl 2 rfl) ?_
  refine g_get (C := R_M) (T := T_M) (N := 19) (ci := 8) (v := .ref (ad (3))) hx hb hg i_M hown hK hP 0 (by decide) rfl rfl 4 (by decide) (hg _ k_797) rfl d_M_join_52 ?_
  refine lv_iload_n hx hb d_M_join_55 rfl (lv_at hl 3 rfl) ?_
  refine g_iald hx hb hK hP 3 0 (by decide) rfl rfl (by decide) (j := a) (by omega) d_M_join_56 ?_
  refine n_top (y := (nI (len (a)))) (by rw [eM_8, pu_k _ _ _ _ _ (by first | decide | omega)]; exact (hR.2.2.1 (a) (by omega)).2.2) ?_
  refine n_ge (a := 0) (b := len (a)) (tgt := 93) hx hb d_M_join_57 (by decide) (by omega) (by omega) (fun c_57 => ?_) (fun c_57 => ?_)
  · exact J93 (_ + 1) (0) M_8 _ _ ls (Nat.lt_succ_self _) (by omega) (fun q hq => absurd hq (Nat.not_lt_zero q)) (hSX) hP hS (lv_sub hl [2, 3, 4, 5, 1] rfl)
  · refine lv_iload_n hx hb d_M_join_60 rfl (lv_at hl 5 rfl) ?_
    refine lv_if_ne (tgt := 93) hx hb d_M_join_61 (by decide) (fun _ => ?_) (fun h9 => by first | exact absurd h9 (by decide) | exact absurd (by decide) h9)
    exact J93 (_ + 1) (0) M_8 _ _ ls (Nat.lt_succ_self _) (by omega) (fun q hq => absurd hq (Nat.not_lt_zero q)) (hSX) hP hS (lv_sub hl [2, 3, 4, 5, 1] rfl)
