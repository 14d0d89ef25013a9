set_option maxHeartbeats 4000000 in
set_option maxRecDepth 100000 in
theorem c_M_space_1 (l : Launch) (D : va_G) (cI cB : ClassId) (ad : Nat → Nat) (hI : GI 13 ad) (M : PM) (n : Nat) (len : Nat → Nat) (ch : Nat → Nat → Nat) (sp : Nat → Option Nat) (hR : RN M n len ch sp) (x : Int32) (hbad : ¬ ∃ j, j < n ∧ x = nI j) : MM l D cI cB ad y_M_space b_M_space 2 (some .int) 1 21 [.ref (ad (0)), .int (x)] M (fun v M' => v = some (.int (nI 0)) ∧ M' = pu M 0 0 (nI 1)) := by
  refine MC.of (by decide) (Nat.le_of_ble_eq_true rfl) ?_
  intro p e s m below meth c ls hx hb hr hml hown hg hlocks hK hN hP hS hl
  have hown : s.vm.findClass R_M = some m.cls := hown
  have hl : lv_has ls 2 [(0, .ref (ad (0))), (1, .int (x))] := hl
  have hn60 : n ≤ 60 := hR.1
  refine lv_aload_n hx hb d_M_space_0 rfl (lv_at hl 0 rfl) ?_
  refine lv_aload_n hx hb d_M_space_1 rfl (lv_at hl 0 rfl) ?_
  refine lv_iload_n hx hb d_M_space_2 rfl (lv_at hl 1 rfl) ?_
  refine c_V (own := R_M) (index := 89) (As := [.int (x)]) (rest := [.ref (ad (0))]) hx hb hml hown hg hK (fun _ _ _ h => h) (fun _ _ => trivial) (fun _ h => h) hP hS 0 (c_M_no l D cI cB ad hI M n len ch sp hR (x) true (no_t hbad)) (by decide) (ci := 8) rfl rfl k_907 k_909 k_p30 k_9 k_910 1 rfl (by decide +kernel) (by decide) rfl hl.1 (Nat.le_of_ble_eq_true rfl) d_M_space_3 (fun v M' H locs hq hP _ _ hS => ?_)
  obtain ⟨rfl, rfl⟩ := hq
  refine W.eq (g2 := F0 m 6 ls [.int (bI (true)), .ref (ad (0))]) rfl ?_
  refine z_eq (t := true) (tgt := 13) hx hb d_M_space_6 (by decide) (fun h9 => absurd h9 (by decide)) (fun _ => ?_)
  refine n_const (k := 1) hx hb d_M_space_9 (by decide) ?_
  refine lv_goto (tgt := 14) hx hb d_M_space_10 (by decide) ?_
  refine c_V (own := R_M) (index := 57) (As := [.int (nI (1))]) (rest := []) hx hb hml hown hg hK (fun _ _ _ h => h) (fun _ _ => trivial) (fun _ h => h) hP hS 0 (c_M_refuses l D cI cB ad hI M (1) (by decide)) (by decide) (ci := 8) rfl rfl k_859 k_861 k_p22 k_9 k_862 1 rfl (by decide +kernel) (by decide) rfl hl.1 (Nat.le_of_ble_eq_true rfl) d_M_space_14 (fun v M_1 H locs hq hP _ _ hS => ?_)
  obtain ⟨rfl, eM_1⟩ := hq
  refine W.eq (g2 := F0 m 17 ls [.int (bI (true))]) rfl ?_
  refine z_eq (t := true) (tgt := 24) hx hb d_M_space_17 (by decide) (fun h9 => absurd h9 (by decide)) (fun _ => ?_)
  refine n_const (k := 0) hx hb d_M_space_20 (by decide) ?_
  refine lv_goto (tgt := 29) hx hb d_M_space_21 (by decide) ?_
  exact r_i hx hb hr hlocks hP hS (⟨rfl, eM_1⟩) d_M_space_29

set_option maxHeartbeats 4000000 in
set_option maxRecDepth 100000 in
theorem c_M_best_1 (l : Launch) (D : va_G) (cI cB : ClassId) (ad : Nat → Nat) (hI : GI 13 ad) (M : PM) (n : Nat) (len : Nat → Nat) (ch : Nat → Nat → Nat) (sp : Nat → Option Nat) (hR : RN M n len ch sp) (x : Int32) (hbad : ¬ ∃ j, j < n ∧ x = nI j) : MM l D cI cB ad y_M_best b_M_best 2 (some .int) 1 21 [.ref (ad (0)), .int (x)] M (fun v M' => v = some (.int (nI 0)) ∧ M' = pu M 0 0 (nI 1)) := by
  refine MC.of (by decide) (Nat.le_of_ble_eq_true rfl) ?_
  intro p e s m below meth c ls hx hb hr hml hown hg hlocks hK hN hP hS hl
  have hown : s.vm.findClass R_M = some m.cls := hown
  have hl : lv_has ls 2 [(0, .ref (ad (0))), (1, .int (x))] := hl
  have hn60 : n ≤ 60 := hR.1
  refine lv_aload_n hx hb d_M_best_0 rfl (lv_at hl 0 rfl) ?_
  refine lv_aload_n hx hb d_M_best_1 rfl (lv_at hl 0 rfl) ?_
  refine lv_iload_n hx hb d_M_best_2 rfl (lv_at hl 1 rfl) ?_
  refine c_V (own := R_M) (index := 89) (As := [.int (x)]) (rest := [.ref (ad (0))]) hx hb hml hown hg hK (fun _ _ _ h => h) (fun _ _ => trivial) (fun _ h => h) hP hS 0 (c_M_no l D cI cB ad hI M n len ch sp hR (x) true (no_t hbad)) (by decide) (ci := 8) rfl rfl k_907 k_909 k_p30 k_9 k_910 1 rfl (by decide +kernel) (by decide) rfl hl.1 (Nat.le_of_ble_eq_true rfl) d_M_best_3 (fun v M' H locs hq hP _ _ hS => ?_)
  obtain ⟨rfl, rfl⟩ := hq
  refine W.eq (g2 := F0 m 6 ls [.int (bI (true)), .ref (ad (0))]) rfl ?_
  refine z_eq (t := true) (tgt := 13) hx hb d_M_best_6 (by decide) (fun h9 => absurd h9 (by decide)) (fun _ => ?_)
  refine n_const (k := 1) hx hb d_M_best_9 (by decide) ?_
  refine lv_goto (tgt := 14) hx hb d_M_best_10 (by decide) ?_
  refine c_V (own := R_M) (index := 57) (As := [.int (nI (1))]) (rest := []) hx hb hml hown hg hK (fun _ _ _ h => h) (fun _ _ => trivial) (fun _ h => h) hP hS 0 (c_M_refuses l D cI cB ad hI M (1) (by decide)) (by decide) (ci := 8) rfl rfl k_859 k_861 k_p22 k_9 k_862 1 rfl (by decide +kernel) (by decide) rfl hl.1 (Nat.le_of_ble_eq_true rfl) d_M_best_14 (fun v M_1 H locs hq hP _ _ hS => ?_)
  obtain ⟨rfl, eM_1⟩ := hq
  refine W.eq (g2 := F0 m 17 ls [.int (bI (true))]) rfl ?_
  refine z_eq (t := true) (tgt := 24) hx hb d_M_best_17 (by decide) (fun h9 => absurd h9 (by decide)) (fun _ => ?_)
  refine n_const (k := 0) hx hb d_M_best_20 (by decide) ?_
  refine lv_goto (tgt := 33) hx hb d_M_best_21 (by decide) ?_
  exact r_i hx hb hr hlocks hP hS (⟨rfl, eM_1⟩) d_M_best_33

set_option maxHeartbeats 4000000 in
set_option maxRecDepth 100000 in
theorem c_M_propose_1 (l : Launch) (D : va_G) (cI cB : ClassId) (ad : Nat → Nat) (hI : GI 13 ad) (M : PM) (n : Nat) (len : Nat → Nat) (ch : Nat → Nat → Nat) (sp : Nat → Option Nat) (hR : RN M n len ch sp) (x : Int32) (hbad : ¬ ∃ j, j < n ∧ x = nI j) : MM l D cI cB ad y_M_propose b_M_propose 8 (some .int) 1 21 [.ref (ad (0)), .int (x)] M (fun v M' => v = some (.int (nI 0)) ∧ M' = pu M 0 0 (nI 1)) := by
  refine MC.of (by decide) (Nat.le_of_ble_eq_true rfl) ?_
  intro p e s m below meth c ls hx hb hr hml hown hg hlocks hK hN hP hS hl
  have hown : s.vm.findClass R_M = some m.cls := hown
  have hl : lv_has ls 8 [(0, .ref (ad (0))), (1, .int (x))] := hl
  have hn60 : n ≤ 60 := hR.1
  refine lv_aload_n hx hb d_M_propose_0 rfl (lv_at hl 0 rfl) ?_
  refine lv_aload_n hx hb d_M_propose_1 rfl (lv_at hl 0 rfl) ?_
  refine lv_iload_n hx hb d_M_propose_2 rfl (lv_at hl 1 rfl) ?_
  refine c_V (own := R_M) (index := 89) (As := [.int (x)]) (rest := [.ref (ad (0))]) hx hb hml hown hg hK (fun _ _ _ h => h) (fun _ _ => trivial) (fun _ h => h) hP hS 0 (c_M_no l D cI cB ad hI M n len ch sp hR (x) true (no_t hbad)) (by decide) (ci := 8) rfl rfl k_907 k_909 k_p30 k_9 k_910 1 rfl (by decide +kernel) (by decide) rfl hl.1 (Nat.le_of_ble_eq_true rfl) d_M_propose_3 (fun v M' H locs hq hP _ _ hS => ?_)
  obtain ⟨rfl, rfl⟩ := hq
  refine W.eq (g2 := F0 m 6 ls [.int (bI (true)), .ref (ad (0))]) rfl ?_
  refine z_eq (t := true) (tgt := 13) hx hb d_M_propose_6 (by decide) (fun h9 => absurd h9 (by decide)) (fun _ => ?_)
  refine n_const (k := 1) hx hb d_M_propose_9 (by decide) ?_
  refine lv_goto (tgt := 14) hx hb d_M_propose_10 (by decide) ?_
  refine c_V (own := R_M) (index := 57) (As := [.int (nI (1))]) (rest := []) hx hb hml hown hg hK (fun _ _ _ h => h) (fun _ _ => trivial) (fun _ h => h) hP hS 0 (c_M_refuses l D cI cB ad hI M (1) (by decide)) (by decide) (ci := 8) rfl rfl k_859 k_861 k_p22 k_9 k_862 1 rfl (by decide +kernel) (by decide) rfl hl.1 (Nat.le_of_ble_eq_true rfl) d_M_propose_14 (fun v M_1 H locs hq hP _ _ hS => ?_)
  obtain ⟨rfl, eM_1⟩ := hq
  refine W.eq (g2 := F0 m 17 ls [.int (bI (true))]) rfl ?_
  refine z_eq (t := true) (tgt := 22) hx hb d_M_propose_17 (by decide) (fun h9 => absurd h9 (by decide)) (fun _ => ?_)
  refine n_const (k := 0) hx hb d_M_propose_20 (by decide) ?_
  exact r_i hx hb hr hlocks hP hS (⟨rfl, eM_1⟩) d_M_propose_21

set_option maxHeartbeats 4000000 in
set_option maxRecDepth 100000 in
theorem c_M_print_1 (l : Launch) (D : va_G) (cI cB : ClassId) (ad : Nat → Nat) (hI : GI 13 ad) (M : PM) (n : Nat) (len : Nat → Nat) (ch : Nat → Nat → Nat) (sp : Nat → Option Nat) (hR : RN M n len ch sp) (x : Int32) (hbad : ¬ ∃ j, j < n ∧ x = nI j) : MM l D cI cB ad y_M_print b_M_print 5 (some .int) 1 21 [.ref (ad (0)), .int (x)] M (fun v M' => v = some (.int (nI 0)) ∧ M' = pu M 0 0 (nI 1)) := by
  refine MC.of (by decide) (Nat.le_of_ble_eq_true rfl) ?_
  intro p e s m below meth c ls hx hb hr hml hown hg hlocks hK hN hP hS hl
  have hown : s.vm.findClass R_M = some m.cls := hown
  have hl : lv_has ls 5 [(0, .ref (ad (0))), (1, .int (x))] := hl
  have hn60 : n ≤ 60 := hR.1
  refine lv_aload_n hx hb d_M_print_0 rfl (lv_at hl 0 rfl) ?_
  refine lv_aload_n hx hb d_M_print_1 rfl (lv_at hl 0 rfl) ?_
  refine lv_iload_n hx hb d_M_print_2 rfl (lv_at hl 1 rfl) ?_
  refine c_V (own := R_M) (index := 89) (As := [.int (x)]) (rest := [.ref (ad (0))]) hx hb hml hown hg hK (fun _ _ _ h => h) (fun _ _ => trivial) (fun _ h => h) hP hS 0 (c_M_no l D cI cB ad hI M n len ch sp hR (x) true (no_t hbad)) (by decide) (ci := 8) rfl rfl k_907 k_909 k_p30 k_9 k_910 1 rfl (by decide +kernel) (by decide) rfl hl.1 (Nat.le_of_ble_eq_true rfl) d_M_print_3 (fun v M' H locs hq hP _ _ hS => ?_)
  obtain ⟨rfl, rfl⟩ := hq
  refine W.eq (g2 := F0 m 6 ls [.int (bI (true)), .ref (ad (0))]) rfl ?_
  refine z_eq (t := true) (tgt := 13) hx hb d_M_print_6 (by decide) (fun h9 => absurd h9 (by decide)) (fun _ => ?_)
  refine n_const (k := 1) hx hb d_M_print_9 (by decide) ?_
  refine lv_goto (tgt := 14) hx hb d_M_print_10 (by decide) ?_
  refine c_V (own := R_M) (index := 57) (As := [.int (nI (1))]) (rest := []) hx hb hml hown hg hK (fun _ _ _ h => h) (fun _ _ => trivial) (fun _ h => h) hP hS 0 (c_M_refuses l D cI cB ad hI M (1) (by decide)) (by decide) (ci := 8) rfl rfl k_859 k_861 k_p22 k_9 k_862 1 rfl (by decide +kernel) (by decide) rfl hl.1 (Nat.le_of_ble_eq_true rfl) d_M_print_14 (fun v M_1 H locs hq hP _ _ hS => ?_)
  obtain ⟨rfl, eM_1⟩ := hq
  refine W.eq (g2 := F0 m 17 ls [.int (bI (true))]) rfl ?_
  refine z_eq (t := true) (tgt := 22) hx hb d_M_print_17 (by decide) (fun h9 => absurd h9 (by decide)) (fun _ => ?_)
  refine n_const (k := 0) hx hb d_M_print_20 (by decide) ?_
  exact r_i hx hb hr hlocks hP hS (⟨rfl, eM_1⟩) d_M_print_21

set_option maxHeartbeats 4000000 in
set_option maxRecDepth 100000 in
theorem c_M_use_1 (l : Launch) (D : va_G) (cI cB : ClassId) (ad : Nat → Nat) (hI : GI 13 ad) (M : PM) (n : Nat) (len : Nat → Nat) (ch : Nat → Nat → Nat) (sp : Nat → Option Nat) (hR : RN M n len ch sp) (x : Int32) (hbad : ¬ ∃ j, j < n ∧ x = nI j) : MM l D cI cB ad y_M_use b_M_use 2 (some .int) 1 21 [.ref (ad (0)), .int (x)] M (fun v M' => v = some (.int (nI 0)) ∧ M' = pu M 0 0 (nI 1)) := by
  refine MC.of (by decide) (Nat.le_of_ble_eq_true rfl) ?_
  intro p e s m below meth c ls hx hb hr hml hown hg hlocks hK hN hP hS hl
  have hown : s.vm.findClass R_M = some m.cls := hown
  have hl : lv_has ls 2 [(0, .ref (ad (0))), (1, .int (x))] := hl
  have hn60 : n ≤ 60 := hR.1
  refine lv_aload_n hx hb d_M_use_0 rfl (lv_at hl 0 rfl) ?_
  refine lv_aload_n hx hb d_M_use_1 rfl (lv_at hl 0 rfl) ?_
  refine lv_iload_n hx hb d_M_use_2 rfl (lv_at hl 1 rfl) ?_
  refine c_V (own := R_M) (index := 89) (As := [.int (x)]) (rest := [.ref (ad (0))]) hx hb hml hown hg hK (fun _ _ _ h => h) (fun _ _ => trivial) (fun _ h => h) hP hS 0 (c_M_no l D cI cB ad hI M n len ch sp hR (x) true (no_t hbad)) (by decide) (ci := 8) rfl rfl k_907 k_909 k_p30 k_9 k_910 1 rfl (by decide +kernel) (by decide) rfl hl.1 (Nat.le_of_ble_eq_true rfl) d_M_use_3 (fun v M' H locs hq hP _ _ hS => ?_)
  obtain ⟨rfl, rfl⟩ := hq
  refine W.eq (g2 := F0 m 6 ls [.int (bI (true)), .ref (ad (0))]) rfl ?_
  refine z_eq (t := true) (tgt := 13) hx hb d_M_use_6 (by decide) (fun h9 => absurd h9 (by decide)) (fun _ => ?_)
  refine n_const (k := 1) hx hb d_M_use_9 (by decide) ?_
  refine lv_goto (tgt := 14) hx hb d_M_use_10 (by decide) ?_
  refine c_V (own := R_M) (index := 57) (As := [.int (nI (1))]) (rest := []) hx hb hml hown hg hK (fun _ _ _ h => h) (fun _ _ => trivial) (fun _ h => h) hP hS 0 (c_M_refuses l D cI cB ad hI M (1) (by decide)) (by decide) (ci := 8) rfl rfl k_859 k_861 k_p22 k_9 k_862 1 rfl (by decide +kernel) (by decide) rfl hl.1 (Nat.le_of_ble_eq_true rfl) d_M_use_14 (fun v M_1 H locs hq hP _ _ hS => ?_)
  obtain ⟨rfl, eM_1⟩ := hq
  refine W.eq (g2 := F0 m 17 ls [.int (bI (true))]) rfl ?_
  refine z_eq (t := true) (tgt := 24) hx hb d_M_use_17 (by decide) (fun h9 => absurd h9 (by decide)) (fun _ => ?_)
  refine n_const (k := 0) hx hb d_M_use_20 (by decide) ?_
  refine lv_goto (tgt := 35) hx hb d_M_use_21 (by decide) ?_
  exact r_i hx hb hr hlocks hP hS (⟨rfl, eM_1⟩) d_M_use_35

set_option maxHeartbeats 4000000 in
set_option maxRecDepth 100000 in
theorem c_M_used_1 (l : Launch) (D : va_G) (cI cB : ClassId) (ad : Nat → Nat) (hI : GI 13 ad) (M : PM) (n : Nat) (len : Nat → Nat) (ch : Nat → Nat → Nat) (sp : Nat → Option Nat) (hR : RN M n len ch sp) (x : Int32) (hbad : ¬ ∃ j, j < n ∧ x = nI j) : MM l D cI cB ad y_M_used b_M_used 2 (some .int) 1 21 [.ref (ad (0)), .int (x)] M (fun v M' => v = some (.int (nI 0)) ∧ M' = pu M 0 0 (nI 1)) := by
  refine MC.of (by decide) (Nat.le_of_ble_eq_true rfl) ?_
  intro p e s m below meth c ls hx hb hr hml hown hg hlocks hK hN hP hS hl
  have hown : s.vm.findClass R_M = some m.cls := hown
  have hl : lv_has ls 2 [(0, .ref (ad (0))), (1, .int (x))] := hl
  have hn60 : n ≤ 60 := hR.1
  refine lv_aload_n hx hb d_M_used_0 rfl (lv_at hl 0 rfl) ?_
  refine lv_aload_n hx hb d_M_used_1 rfl (lv_at hl 0 rfl) ?_
  refine lv_iload_n hx hb d_M_used_2 rfl (lv_at hl 1 rfl) ?_
  refine c_V (own := R_M) (index := 89) (As := [.int (x)]) (rest := [.ref (ad (0))]) hx hb hml hown hg hK (fun _ _ _ h => h) (fun _ _ => trivial) (fun _ h => h) hP hS 0 (c_M_no l D cI cB ad hI M n len ch sp hR (x) true (no_t hbad)) (by decide) (ci := 8) rfl rfl k_907 k_909 k_p30 k_9 k_910 1 rfl (by decide +kernel) (by decide) rfl hl.1 (Nat.le_of_ble_eq_true rfl) d_M_used_3 (fun v M' H locs hq hP _ _ hS => ?_)
  obtain ⟨rfl, rfl⟩ := hq
  refine W.eq (g2 := F0 m 6 ls [.int (bI (true)), .ref (ad (0))]) rfl ?_
  refine z_eq (t := true) (tgt := 13) hx hb d_M_used_6 (by decide) (fun h9 => absurd h9 (by decide)) (fun _ => ?_)
  refine n_const (k := 1) hx hb d_M_used_9 (by decide) ?_
  refine lv_goto (tgt := 14) hx hb d_M_used_10 (by decide) ?_
  refine c_V (own := R_M) (index := 57) (As := [.int (nI (1))]) (rest := []) hx hb hml hown hg hK (fun _ _ _ h => h) (fun _ _ => trivial) (fun _ h => h) hP hS 0 (c_M_refuses l D cI cB ad hI M (1) (by decide)) (by decide) (ci := 8) rfl rfl k_859 k_861 k_p22 k_9 k_862 1 rfl (by decide +kernel) (by decide) rfl hl.1 (Nat.le_of_ble_eq_true rfl) d_M_used_14 (fun v M_1 H locs hq hP _ _ hS => ?_)
  obtain ⟨rfl, eM_1⟩ := hq
  refine W.eq (g2 := F0 m 17 ls [.int (bI (true))]) rfl ?_
  refine z_eq (t := true) (tgt := 24) hx hb d_M_used_17 (by decide) (fun h9 => absurd h9 (by decide)) (fun _ => ?_)
  refine n_const (k := 0) hx hb d_M_used_20 (by decide) ?_
  refine lv_goto (tgt := 30) hx hb d_M_used_21 (by decide) ?_
  exact r_i hx hb hr hlocks hP hS (⟨rfl, eM_1⟩) d_M_used_30

set_option maxHeartbeats 4000000 in
set_option maxRecDepth 100000 in
theorem c_M_meaning_1 (l : Launch) (D : va_G) (cI cB : ClassId) (ad : Nat → Nat) (hI : GI 13 ad) (M : PM) (n : Nat) (len : Nat → Nat) (ch : Nat → Nat → Nat) (sp : Nat → Option Nat) (hR : RN M n len ch sp) (x : Int32) (hbad : ¬ ∃ j, j < n ∧ x = nI j) : MM l D cI cB ad y_M_meaning b_M_meaning 3 (some .int) 1 21 [.ref (ad (0)), .int (x)] M (fun v M' => v = some (.int (nI 0)) ∧ M' = pu M 0 0 (nI 1)) := by
  refine MC.of (by decide) (Nat.le_of_ble_eq_true rfl) ?_
  intro p e s m below meth c ls hx hb hr hml hown hg hlocks hK hN hP hS hl
  have hown : s.vm.findClass R_M = some m.cls := hown
  have hl : lv_has ls 3 [(0, .ref (ad (0))), (1, .int (x))] := hl
  have hn60 : n ≤ 60 := hR.1
  refine lv_aload_n hx hb d_M_meaning_0 rfl (lv_at hl 0 rfl) ?_
  refine lv_aload_n hx hb d_M_meaning_1 rfl (lv_at hl 0 rfl) ?_
  refine lv_iload_n hx hb d_M_meaning_2 rfl (lv_at hl 1 rfl) ?_
  refine c_V (own := R_M) (index := 89) (As := [.int (x)]) (rest := [.ref (ad (0))]) hx hb hml hown hg hK (fun _ _ _ h => h) (fun _ _ => trivial) (fun _ h => h) hP hS 0 (c_M_no l D cI cB ad hI M n len ch sp hR (x) true (no_t hbad)) (by decide) (ci := 8) rfl rfl k_907 k_909 k_p30 k_9 k_910 1 rfl (by decide +kernel) (by decide) rfl hl.1 (Nat.le_of_ble_eq_true rfl) d_M_meaning_3 (fun v M' H locs hq hP _ _ hS => ?_)
  obtain ⟨rfl, rfl⟩ := hq
  refine W.eq (g2 := F0 m 6 ls [.int (bI (true)), .ref (ad (0))]) rfl ?_
  refine z_eq (t := true) (tgt := 13) hx hb d_M_meaning_6 (by decide) (fun h9 => absurd h9 (by decide)) (fun _ => ?_)
  refine n_const (k := 1) hx hb d_M_meaning_9 (by decide) ?_
  refine lv_goto (tgt := 14) hx hb d_M_meaning_10 (by decide) ?_
  refine c_V (own := R_M) (index := 57) (As := [.int (nI (1))]) (rest := []) hx hb hml hown hg hK (fun _ _ _ h => h) (fun _ _ => trivial) (fun _ h => h) hP hS 0 (c_M_refuses l D cI cB ad hI M (1) (by decide)) (by decide) (ci := 8) rfl rfl k_859 k_861 k_p22 k_9 k_862 1 rfl (by decide +kernel) (by decide) rfl hl.1 (Nat.le_of_ble_eq_true rfl) d_M_meaning_14 (fun v M_1 H locs hq hP _ _ hS => ?_)
  obtain ⟨rfl, eM_1⟩ := hq
  refine W.eq (g2 := F0 m 17 ls [.int (bI (true))]) rfl ?_
  refine z_eq (t := true) (tgt := 22) hx hb d_M_meaning_17 (by decide) (fun h9 => absurd h9 (by decide)) (fun _ => ?_)
  refine n_const (k := 0) hx hb d_M_meaning_20 (by decide) ?_
  exact r_i hx hb hr hlocks hP hS (⟨rfl, eM_1⟩) d_M_meaning_21

set_option maxHeartbeats 4000000 in
set_option maxRecDepth 100000 in
theorem c_M_now_1 (l : Launch) (D : va_G) (cI cB : ClassId) (ad : Nat → Nat) (hI : GI 13 ad) (M : PM) (n : Nat) (len : Nat → Nat) (ch : Nat → Nat → Nat) (sp : Nat → Option Nat) (hR : RN M n len ch sp) (x : Int32) (hbad : ¬ ∃ j, j < n ∧ x = nI j) : MM l D cI cB ad y_M_now b_M_now 4 (some .int) 1 21 [.ref (ad (0)), .int (x)] M (fun v M' => v = some (.int (nI 0)) ∧ M' = pu M 0 0 (nI 1)) := by
  refine MC.of (by decide) (Nat.le_of_ble_eq_true rfl) ?_
  intro p e s m below meth c ls hx hb hr hml hown hg hlocks hK hN hP hS hl
  have hown : s.vm.findClass R_M = some m.cls := hown
  have hl : lv_has ls 4 [(0, .ref (ad (0))), (1, .int (x))] := hl
  have hn60 : n ≤ 60 := hR.1
  refine lv_aload_n hx hb d_M_now_0 rfl (lv_at hl 0 rfl) ?_
  refine lv_aload_n hx hb d_M_now_1 rfl (lv_at hl 0 rfl) ?_
  refine lv_iload_n hx hb d_M_now_2 rfl (lv_at hl 1 rfl) ?_
  refine c_V (own := R_M) (index := 89) (As := [.int (x)]) (rest := [.ref (ad (0))]) hx hb hml hown hg hK (fun _ _ _ h => h) (fun _ _ => trivial) (fun _ h => h) hP hS 0 (c_M_no l D cI cB ad hI M n len ch sp hR (x) true (no_t hbad)) (by decide) (ci := 8) rfl rfl k_907 k_909 k_p30 k_9 k_910 1 rfl (by decide +kernel) (by decide) rfl hl.1 (Nat.le_of_ble_eq_true rfl) d_M_now_3 (fun v M' H locs hq hP _ _ hS => ?_)
  obtain ⟨rfl, rfl⟩ := hq
  refine W.eq (g2 := F0 m 6 ls [.int (bI (true)), .ref (ad (0))]) rfl ?_
  refine z_eq (t := true) (tgt := 13) hx hb d_M_now_6 (by decide) (fun h9 => absurd h9 (by decide)) (fun _ => ?_)
  refine n_const (k := 1) hx hb d_M_now_9 (by decide) ?_
  refine lv_goto (tgt := 14) hx hb d_M_now_10 (by decide) ?_
  refine c_V (own := R_M) (index := 57) (As := [.int (nI (1))]) (rest := []) hx hb hml hown hg hK (fun _ _ _ h => h) (fun _ _ => trivial) (fun _ h => h) hP hS 0 (c_M_refuses l D cI cB ad hI M (1) (by decide)) (by decide) (ci := 8) rfl rfl k_859 k_861 k_p22 k_9 k_862 1 rfl (by decide +kernel) (by decide) rfl hl.1 (Nat.le_of_ble_eq_true rfl) d_M_now_14 (fun v M_1 H locs hq hP _ _ hS => ?_)
  obtain ⟨rfl, eM_1⟩ := hq
  refine W.eq (g2 := F0 m 17 ls [.int (bI (true))]) rfl ?_
  refine z_eq (t := true) (tgt := 22) hx hb d_M_now_17 (by decide) (fun h9 => absurd h9 (by decide)) (fun _ => ?_)
  refine n_const (k := 0) hx hb d_M_now_20 (by decide) ?_
  exact r_i hx hb hr hlocks hP hS (⟨rfl, eM_1⟩) d_M_now_21

set_option maxHeartbeats 4000000 in
set_option maxRecDepth 100000 in
theorem c_M_was_1 (l : Launch) (D : va_G) (cI cB : ClassId) (ad : Nat → Nat) (hI : GI 13 ad) (M : PM) (n : Nat) (len : Nat → Nat) (ch : Nat → Nat → Nat) (sp : Nat → Option Nat) (hR : RN M n len ch sp) (x : Int32) (hbad : ¬ ∃ j, j < n ∧ x = nI j) : MM l D cI cB ad y_M_was b_M_was 4 (some .int) 1 21 [.ref (ad (0)), .int (x)] M (fun v M' => v = some (.int (nI 0)) ∧ M' = pu M 0 0 (nI 1)) := by
  refine MC.of (by decide) (Nat.le_of_ble_eq_true rfl) ?_
  intro p e s m below meth c ls hx hb hr hml hown hg hlocks hK hN hP hS hl
  have hown : s.vm.findClass R_M = some m.cls := hown
  have hl : lv_has ls 4 [(0, .ref (ad (0))), (1, .int (x))] := hl
  have hn60 : n ≤ 60 := hR.1
  refine lv_aload_n hx hb d_M_was_0 rfl (lv_at hl 0 rfl) ?_
  refine lv_aload_n hx hb d_M_was_1 rfl (lv_at hl 0 rfl) ?_
  refine lv_iload_n hx hb d_M_was_2 rfl (lv_at hl 1 rfl) ?_
  refine c_V (own := R_M) (index := 89) (As := [.int (x)]) (rest := [.ref (ad (0))]) hx hb hml hown hg hK (fun _ _ _ h => h) (fun _ _ => trivial) (fun _ h => h) hP hS 0 (c_M_no l D cI cB ad hI M n len ch sp hR (x) true (no_t hbad)) (by decide) (ci := 8) rfl rfl k_907 k_909 k_p30 k_9 k_910 1 rfl (by decide +kernel) (by decide) rfl hl.1 (Nat.le_of_ble_eq_true rfl) d_M_was_3 (fun v M' H locs hq hP _ _ hS => ?_)
  obtain ⟨rfl, rfl⟩ := hq
  refine W.eq (g2 := F0 m 6 ls [.int (bI (true)), .ref (ad (0))]) rfl ?_
  refine z_eq (t := true) (tgt := 13) hx hb d_M_was_6 (by decide) (fun h9 => absurd h9 (by decide)) (fun _ => ?_)
  refine n_const (k := 1) hx hb d_M_was_9 (by decide) ?_
  refine lv_goto (tgt := 14) hx hb d_M_was_10 (by decide) ?_
  refine c_V (own := R_M) (index := 57) (As := [.int (nI (1))]) (rest := []) hx hb hml hown hg hK (fun _ _ _ h => h) (fun _ _ => trivial) (fun _ h => h) hP hS 0 (c_M_refuses l D cI cB ad hI M (1) (by decide)) (by decide) (ci := 8) rfl rfl k_859 k_861 k_p22 k_9 k_862 1 rfl (by decide +kernel) (by decide) rfl hl.1 (Nat.le_of_ble_eq_true rfl) d_M_was_14 (fun v M_1 H locs hq hP _ _ hS => ?_)
  obtain ⟨rfl, eM_1⟩ := hq
  refine W.eq (g2 := F0 m 17 ls [.int (bI (true))]) rfl ?_
  refine z_eq (t := true) (tgt := 22) hx hb d_M_was_17 (by decide) (fun h9 => absurd h9 (by decide)) (fun _ => ?_)
  refine n_const (k := 0) hx hb d_M_was_20 (by decide) ?_
  exact r_i hx hb hr hlocks hP hS (⟨rfl, eM_1⟩) d_M_was_21

set_option maxHeartbeats 4000000 in
set_option maxRecDepth 100000 in
theorem c_M_used (l : Launch) (D : va_G) (cI cB : ClassId) (ad : Nat → Nat) (hI : GI 13 ad) (M : PM) (n : Nat) (len : Nat → Nat) (ch : Nat → Nat → Nat) (sp : Nat → Option Nat) (hR : RN M n len ch sp) (us : Nat → Nat) (hU : RU M n us) (a : Nat) (ha : a < n) : MM l D cI cB ad y_M_used b_M_used 2 (some .int) 1 21 [.ref (ad (0)), .int (nI (a))] M (fun v M' => v = some (.int (nI (us a))) ∧ M' = pu M 0 0 (nI 0)) := by
  refine MC.of (by decide) (Nat.le_of_ble_eq_true rfl) ?_
  intro p e s m below meth c ls hx hb hr hml hown hg hlocks hK hN hP hS hl
  have hown : s.vm.findClass R_M = some m.cls := hown
  have hl : lv_has ls 2 [(0, .ref (ad (0))), (1, .int (nI (a)))] := hl
  have hn60 : n ≤ 60 := hR.1
  refine lv_aload_n hx hb d_M_used_0 rfl (lv_at hl 0 rfl) ?_
  refine lv_aload_n hx hb d_M_used_1 rfl (lv_at hl 0 rfl) ?_
  refine lv_iload_n hx hb d_M_used_2 rfl (lv_at hl 1 rfl) ?_
  refine c_V (own := R_M) (index := 89) (As := [.int (nI (a))]) (rest := [.ref (ad (0))]) hx hb hml hown hg hK (fun _ _ _ h => h) (fun _ _ => trivial) (fun _ h => h) hP hS 0 (c_M_no l D cI cB ad hI M n len ch sp hR (nI (a)) false (no_f (by omega))) (by decide) (ci := 8) rfl rfl k_907 k_909 k_p30 k_9 k_910 1 rfl (by decide +kernel) (by decide) rfl hl.1 (Nat.le_of_ble_eq_true rfl) d_M_used_3 (fun v M' H locs hq hP _ _ hS => ?_)
  obtain ⟨rfl, rfl⟩ := hq
  refine W.eq (g2 := F0 m 6 ls [.int (bI (false)), .ref (ad (0))]) rfl ?_
  refine z_eq (t := false) (tgt := 13) hx hb d_M_used_6 (by decide) (fun _ => ?_) (fun h9 => absurd h9 (by decide))
  refine n_const (k := 0) hx hb d_M_used_13 (by decide) ?_
  refine c_V (own := R_M) (index := 57) (As := [.int (nI (0))]) (rest := []) hx hb hml hown hg hK (fun _ _ _ h => h) (fun _ _ => trivial) (fun _ h => h) hP hS 0 (c_M_refuses l D cI cB ad hI M (0) (by decide)) (by decide) (ci := 8) rfl rfl k_859 k_861 k_p22 k_9 k_862 1 rfl (by decide +kernel) (by decide) rfl hl.1 (Nat.le_of_ble_eq_true rfl) d_M_used_14 (fun v M_1 H locs hq hP _ _ hS => ?_)
  obtain ⟨rfl, eM_1⟩ := hq
  refine W.eq (g2 := F0 m 17 ls [.int (bI (false))]) rfl ?_
  refine z_eq (t := false) (tgt := 24) hx hb d_M_used_17 (by decide) (fun _ => ?_) (fun h9 => absurd h9 (by decide))
  refine lv_aload_n hx hb d_M_used_24 rfl (lv_at hl 0 rfl) ?_
  refine g_get (C := R_M) (T := T_M) (N := 19) (ci := 8) (v := .ref (ad (5))) hx hb hg i_M hown hK hP 0 (by decide) rfl rfl 7 (by decide) (hg _ k_800) rfl d_M_used_25 ?_
  refine lv_iload_n hx hb d_M_used_28 rfl (lv_at hl 1 rfl) ?_
  refine g_iald hx hb hK hP 5 0 (by decide) rfl rfl (by decide) (j := a) (by omega) d_M_used_29 ?_
  refine n_top (y := (nI (us (a)))) (by rw [eM_1, pu_k _ _ _ _ _ (by first | decide | omega)]; exact (hU (a) (by omega)).2) ?_
  exact r_i hx hb hr hlocks hP hS (⟨rfl, eM_1⟩) d_M_used_30

set_option maxHeartbeats 4000000 in
set_option maxRecDepth 100000 in
theorem c_M_use (l : Launch) (D : va_G) (cI cB : ClassId) (ad : Nat → Nat) (hI : GI 13 ad) (M : PM) (n : Nat) (len : Nat → Nat) (ch : Nat → Nat → Nat) (sp : Nat → Option Nat) (hR : RN M n len ch sp) (us : Nat → Nat) (hU : RU M n us) (a : Nat) (ha : a < n) : MM l D cI cB ad y_M_use b_M_use 2 (some .int) 1 21 [.ref (ad (0)), .int (nI (a))] M (fun v M' => v = some (.int (nI (us a + 1))) ∧ M' = pu (pu M 0 0 (nI 0)) 5 a (nI (us a + 1))) := by
  refine MC.of (by decide) (Nat.le_of_ble_eq_true rfl) ?_
  intro p e s m below meth c ls hx hb hr hml hown hg hlocks hK hN hP hS hl
  have hown : s.vm.findClass R_M = some m.cls := hown
  have hl : lv_has ls 2 [(0, .ref (ad (0))), (1, .int (nI (a)))] := hl
  have hn60 : n ≤ 60 := hR.1
  refine lv_aload_n hx hb d_M_use_0 rfl (lv_at hl 0 rfl) ?_
  refine lv_aload_n hx hb d_M_use_1 rfl (lv_at hl 0 rfl) ?_
  refine lv_iload_n hx hb d_M_use_2 rfl (lv_at hl 1 rfl) ?_
  refine c_V (own := R_M) (index := 89) (As := [.int (nI (a))]) (rest := [.ref (ad (0))]) hx hb hml hown hg hK (fun _ _ _ h => h) (fun _ _ => trivial) (fun _ h => h) hP hS 0 (c_M_no l D cI cB ad hI M n len ch sp hR (nI (a)) false (no_f (by omega))) (by decide) (ci := 8) rfl rfl k_907 k_909 k_p30 k_9 k_910 1 rfl (by decide +kernel) (by decide) rfl hl.1 (Nat.le_of_ble_eq_true rfl) d_M_use_3 (fun v M' H locs hq hP _ _ hS => ?_)
  obtain ⟨rfl, rfl⟩ := hq
  refine W.eq (g2 := F0 m 6 ls [.int (bI (false)), .ref (ad (0))]) rfl ?_
  refine z_eq (t := false) (tgt := 13) hx hb d_M_use_6 (by decide) (fun _ => ?_) (fun h9 => absurd h9 (by decide))
  refine n_const (k := 0) hx hb d_M_use_13 (by decide) ?_
  refine c_V (own := R_M) (index := 57) (As := [.int (nI (0))]) (rest := []) hx hb hml hown hg hK (fun _ _ _ h => h) (fun _ _ => trivial) (fun _ h => h) hP hS 0 (c_M_refuses l D cI cB ad hI M (0) (by decide)) (by decide) (ci := 8) rfl rfl k_859 k_861 k_p22 k_9 k_862 1 rfl (by decide +kernel) (by decide) rfl hl.1 (Nat.le_of_ble_eq_true rfl) d_M_use_14 (fun v M_1 H locs hq hP _ _ hS => ?_)
  obtain ⟨rfl, eM_1⟩ := hq
  refine W.eq (g2 := F0 m 17 ls [.int (bI (false))]) rfl ?_
  refine z_eq (t := false) (tgt := 24) hx hb d_M_use_17 (by decide) (fun _ => ?_) (fun h9 => absurd h9 (by decide))
  refine lv_aload_n hx hb d_M_use_24 rfl (lv_at hl 0 rfl) ?_
  refine g_get (C := R_M) (T := T_M) (N := 19) (ci := 8) (v := .ref (ad (5))) hx hb hg i_M hown hK hP 0 (by decide) rfl rfl 7 (by decide) (hg _ k_800) rfl d_M_use_25 ?_
  refine lv_iload_n hx hb d_M_use_28 rfl (lv_at hl 1 rfl) ?_
  refine lv_dup2_11 hx hb d_M_use_29 rfl rfl ?_
  refine g_iald hx hb hK hP 5 0 (by decide) rfl rfl (by decide) (j := a) (by omega) d_M_use_30 ?_
  refine n_top (y := (nI (us (a)))) (by rw [eM_1, pu_k _ _ _ _ _ (by first | decide | omega)]; exact (hU (a) (by omega)).2) ?_
  refine n_const (k := 1) hx hb d_M_use_31 (by decide) ?_
  refine n_iadd (a := us (a)) (b := 1) hx hb d_M_use_32 ?_
  refine lv_dup_x2 hx hb d_M_use_33 rfl rfl rfl ?_
  refine g_iast hx hb hK hI (fun _ h => h) hP hS 5 0 (by decide) (fun _ => rfl) rfl (by decide) (j := a) (by omega) (v := (nI ((us (a)) + (1)))) d_M_use_34 (fun H locs hP hS => ?_)
  obtain ⟨M_2, eM_2⟩ : ∃ z : PM, z = (pu M_1 5 (a) ((nI ((us (a)) + (1))))) := ⟨_, rfl⟩
  rw [← eM_2] at hP
  exact r_i hx hb hr hlocks hP hS (⟨rfl, by rw [eM_2, eM_1]⟩) d_M_use_35

set_option maxHeartbeats 4000000 in
set_option maxRecDepth 100000 in
theorem c_M_now (l : Launch) (D : va_G) (cI cB : ClassId) (ad : Nat → Nat) (hI : GI 13 ad) (M : PM) (n : Nat) (len : Nat → Nat) (ch : Nat → Nat → Nat) (sp : Nat → Option Nat) (hR : RN M n len ch sp) (nc : Nat) (rf rt : Nat → Nat) (hRR : RR M n nc rf rt) (a : Nat) (ha : a < n) : MM l D cI cB ad y_M_now b_M_now 4 (some .int) 1 21 [.ref (ad (0)), .int (nI (a))] M (fun v M' => v = some (.int (nI (nowF rf rt a nc))) ∧ M' = pu M 0 0 (nI 0)) := by
  refine MC.of (by decide) (Nat.le_of_ble_eq_true rfl) ?_
  intro p e s m below meth c ls hx hb hr hml hown hg hlocks hK hN hP hS hl
  have hown : s.vm.findClass R_M = some m.cls := hown
  have hl : lv_has ls 4 [(0, .ref (ad (0))), (1, .int (nI (a)))] := hl
  have hn60 : n ≤ 60 := hR.1
  have hnc : nc ≤ 20 := hRR.1
  have hrf := hRR.2.2
  have J26 : ∀ (fu26 : Nat) (i : Nat) (y : Nat) (M1 : PM) (H : Heap) (locs : List Loc) (ls : Array Slot), nc - i < fu26 → (M1 = pu M 0 0 (nI 0)) → (i ≤ nc) → (y = nowF rf rt a i) → (y < n) → va_P D clsA (gw 13 ad (cfM cI cB ad) M1) H → va_S (GA 13 ad) s.heap H locs → lv_has ls 4 [(0, .ref (ad (0))), (2, .int (nI (y))), (3, .int (nI (i)))] → W p l e (rm_ 1 21) s m ([.ref (ad (0)), .int (nI (a))] : List Value).toArray below meth c H locs 0 0 (MQ below (GQ D 13 ad (cfM cI cB ad) (fun v M' => v = some (.int (nI (nowF rf rt a nc))) ∧ M' = pu M 0 0 (nI 0))) ([.ref (ad (0)), .int (nI (a))] : List Value).toArray s 0 0 (GA 13 ad)) (F0 m 26 ls []) := by
    intro fu26
    induction fu26 with
    | zero => intro i y M1 H locs ls hfu; exact absurd hfu (Nat.not_lt_zero _)
    | succ fu26 ih26 =>
      intro i y M1 H locs ls hfu26 hM1 hi hy hyn hP hS hl
      have h12 : M1 0 12 = nI nc := by rw [hM1, pu_j _ _ _ _ _ (by decide)]; exact hRR.2.1
      have h8 : ∀ q, M1 8 q = M 8 q := fun q => by rw [hM1, pu_k _ _ _ _ _ (by decide)]
      refine lv_iload_n hx hb d_M_now_26 rfl (lv_at hl 2 rfl) ?_
      refine lv_aload_n hx hb d_M_now_27 rfl (lv_at hl 0 rfl) ?_
      refine g_get (C := R_M) (T := T_M) (N := 19) (ci := 8) (v := .int (M1 0 12)) hx hb hg i_M hown hK hP 0 (by decide) rfl rfl 12 (by decide) (hg _ k_805) rfl d_M_now_28 ?_
      refine n_top (y := (nI (nc))) (h12) ?_
      refine n_ge (a := i) (b := nc) (tgt := 67) hx hb d_M_now_31 (by decide) (by omega) (by omega) (fun c_31 => ?_) (fun c_31 => ?_)
      · refine lv_iload_n hx hb d_M_now_67 rfl (lv_at hl 1 rfl) ?_
        exact r_i hx hb hr hlocks hP hS (⟨by rw [hy, show i = nc by omega], hM1⟩) d_M_now_68
      · refine lv_aload_n hx hb d_M_now_34 rfl (lv_at hl 0 rfl) ?_
        refine g_get (C := R_M) (T := T_M) (N := 19) (ci := 8) (v := .ref (ad (8))) hx hb hg i_M hown hK hP 0 (by decide) rfl rfl 11 (by decide) (hg _ k_804) rfl d_M_now_35 ?_
        refine n_const (k := 2) hx hb d_M_now_38 (by decide) ?_
        refine lv_iload_n hx hb d_M_now_39 rfl (lv_at hl 2 rfl) ?_
        refine n_imul (a := 2) (b := i) hx hb d_M_now_40 ?_
        refine g_iald hx hb hK hP 8 0 (by decide) rfl rfl (by decide) (j := (2) * (i)) (by omega) d_M_now_41 ?_
        refine n_top (y := (nI (rf (i)))) (by rw [h8]; exact (hRR.2.2 (i) (by omega)).2.2.1) ?_
        refine lv_iload_n hx hb d_M_now_42 rfl (lv_at hl 1 rfl) ?_
        refine n_ne (a := rf (i)) (b := y) (tgt := 59) hx hb d_M_now_43 (by decide) (by have := hrf i (by omega); omega) (by omega) (fun c_43 => ?_) (fun c_43 => ?_)
        · have hy9 : y = nowF rf rt a (i + 1) := by simp only [nowF]; rw [← hy, if_neg c_43]
          have hyn9 := hyn
          refine lv_iload_n hx hb d_M_now_59 rfl (lv_at hl 1 rfl) ?_
          refine lv_istore_n (lv' := [(2, .int (nI (y))), (0, .ref (ad (0))), (3, .int (nI (i)))]) hx hb d_M_now_60 rfl hl (by decide) rfl (fun ls hl => ?_)
          refine n_inc (lv' := [(3, .int (nI (i + 1))), (2, .int (nI (y))), (0, .ref (ad (0)))]) hx hb d_M_now_61 hl (k := 2) rfl (by decide) rfl (fun ls hl => ?_)
          refine lv_goto (tgt := 26) hx hb d_M_now_64 (by decide) ?_
          exact ih26 (i + 1) (y) M1 _ _ ls (by omega) (hM1) (by omega) (hy9) (hyn9) hP hS (lv_sub hl [2, 1, 0] rfl)
        · have hy9 : rt i = nowF rf rt a (i + 1) := by simp only [nowF]; rw [← hy, if_pos c_43]
          have hyn9 := (hrf i (by omega)).2.1
          refine lv_aload_n hx hb d_M_now_46 rfl (lv_at hl 0 rfl) ?_
          refine g_get (C := R_M) (T := T_M) (N := 19) (ci := 8) (v := .ref (ad (8))) hx hb hg i_M hown hK hP 0 (by decide) rfl rfl 11 (by decide) (hg _ k_804) rfl d_M_now_47 ?_
          refine n_const (k := 2) hx hb d_M_now_50 (by decide) ?_
          refine lv_iload_n hx hb d_M_now_51 rfl (lv_at hl 2 rfl) ?_
          refine n_imul (a := 2) (b := i) hx hb d_M_now_52 ?_
          refine n_const (k := 1) hx hb d_M_now_53 (by decide) ?_
          refine n_iadd (a := (2) * (i)) (b := 1) hx hb d_M_now_54 ?_
          refine g_iald hx hb hK hP 8 0 (by decide) rfl rfl (by decide) (j := ((2) * (i)) + (1)) (by omega) d_M_now_55 ?_
          refine n_top (y := (nI (rt (i)))) (by rw [h8]; exact (hRR.2.2 (i) (by omega)).2.2.2) ?_
          refine lv_goto (tgt := 60) hx hb d_M_now_56 (by decide) ?_
          refine lv_istore_n (lv' := [(2, .int (nI (rt (i)))), (0, .ref (ad (0))), (3, .int (nI (i)))]) hx hb d_M_now_60 rfl hl (by decide) rfl (fun ls hl => ?_)
          refine n_inc (lv' := [(3, .int (nI (i + 1))), (2, .int (nI (rt (i)))), (0, .ref (ad (0)))]) hx hb d_M_now_61 hl (k := 2) rfl (by decide) rfl (fun ls hl => ?_)
          refine lv_goto (tgt := 26) hx hb d_M_now_64 (by decide) ?_
          exact ih26 (i + 1) (rt (i)) M1 _ _ ls (by omega) (hM1) (by omega) (hy9) (hyn9) hP hS (lv_sub hl [2, 1, 0] rfl)
  refine lv_aload_n hx hb d_M_now_0 rfl (lv_at hl 0 rfl) ?_
  refine lv_aload_n hx hb d_M_now_1 rfl (lv_at hl 0 rfl) ?_
  refine lv_iload_n hx hb d_M_now_2 rfl (lv_at hl 1 rfl) ?_
  refine c_V (own := R_M) (index := 89) (As := [.int (nI (a))]) (rest := [.ref (ad (0))]) hx hb hml hown hg hK (fun _ _ _ h => h) (fun _ _ => trivial) (fun _ h => h) hP hS 0 (c_M_no l D cI cB ad hI M n len ch sp hR (nI (a)) false (no_f (by omega))) (by decide) (ci := 8) rfl rfl k_907 k_909 k_p30 k_9 k_910 1 rfl (by decide +kernel) (by decide) rfl hl.1 (Nat.le_of_ble_eq_true rfl) d_M_now_3 (fun v M' H locs hq hP _ _ hS => ?_)
  obtain ⟨rfl, rfl⟩ := hq
  refine W.eq (g2 := F0 m 6 ls [.int (bI (false)), .ref (ad (0))]) rfl ?_
  refine z_eq (t := false) (tgt := 13) hx hb d_M_now_6 (by decide) (fun _ => ?_) (fun h9 => absurd h9 (by decide))
  refine n_const (k := 0) hx hb d_M_now_13 (by decide) ?_
  refine c_V (own := R_M) (index := 57) (As := [.int (nI (0))]) (rest := []) hx hb hml hown hg hK (fun _ _ _ h => h) (fun _ _ => trivial) (fun _ h => h) hP hS 0 (c_M_refuses l D cI cB ad hI M (0) (by decide)) (by decide) (ci := 8) rfl rfl k_859 k_861 k_p22 k_9 k_862 1 rfl (by decide +kernel) (by decide) rfl hl.1 (Nat.le_of_ble_eq_true rfl) d_M_now_14 (fun v M_1 H locs hq hP _ _ hS => ?_)
  obtain ⟨rfl, eM_1⟩ := hq
  refine W.eq (g2 := F0 m 17 ls [.int (bI (false))]) rfl ?_
  refine z_eq (t := false) (tgt := 22) hx hb d_M_now_17 (by decide) (fun _ => ?_) (fun h9 => absurd h9 (by decide))
  refine lv_iload_n hx hb d_M_now_22 rfl (lv_at hl 1 rfl) ?_
  refine lv_istore_n (lv' := [(2, .int (nI (a))), (0, .ref (ad (0))), (1, .int (nI (a)))]) hx hb d_M_now_23 rfl hl (by decide) rfl (fun ls hl => ?_)
  refine n_const (k := 0) hx hb d_M_now_24 (by decide) ?_
  refine lv_istore_n (lv' := [(3, .int (nI (0))), (2, .int (nI (a))), (0, .ref (ad (0))), (1, .int (nI (a)))]) hx hb d_M_now_25 rfl hl (by decide) rfl (fun ls hl => ?_)
  exact J26 (_ + 1) (0) (a) M_1 _ _ ls (Nat.lt_succ_self _) (eM_1) (by omega) (rfl) (by omega) hP hS (lv_sub hl [2, 1, 0] rfl)

set_option maxHeartbeats 4000000 in
set_option maxRecDepth 100000 in
theorem c_M_was (l : Launch) (D : va_G) (cI cB : ClassId) (ad : Nat → Nat) (hI : GI 13 ad) (M : PM) (n : Nat) (len : Nat → Nat) (ch : Nat → Nat → Nat) (sp : Nat → Option Nat) (hR : RN M n len ch sp) (nc : Nat) (rf rt : Nat → Nat) (hRR : RR M n nc rf rt) (a : Nat) (ha : a < n) : MM l D cI cB ad y_M_was b_M_was 4 (some .int) 1 21 [.ref (ad (0)), .int (nI (a))] M (fun v M' => v = some (.int (nI (wasF rf rt nc a))) ∧ M' = pu M 0 0 (nI 0)) := by
  refine MC.of (by decide) (Nat.le_of_ble_eq_true rfl) ?_
  intro p e s m below meth c ls hx hb hr hml hown hg hlocks hK hN hP hS hl
  have hown : s.vm.findClass R_M = some m.cls := hown
  have hl : lv_has ls 4 [(0, .ref (ad (0))), (1, .int (nI (a)))] := hl
  have hn60 : n ≤ 60 := hR.1
  have hnc : nc ≤ 20 := hRR.1
  have hrf := hRR.2.2
  have J31 : ∀ (fu31 : Nat) (i : Nat) (y : Nat) (M1 : PM) (H : Heap) (locs : List Loc) (ls : Array Slot), i < fu31 → (M1 = pu M 0 0 (nI 0)) → (i ≤ nc) → (wasF rf rt i y = wasF rf rt nc a) → (y < n) → va_P D clsA (gw 13 ad (cfM cI cB ad) M1) H → va_S (GA 13 ad) s.heap H locs → lv_has ls 4 [(0, .ref (ad (0))), (2, .int (nI (y))), (3, .int (nI (i) - 1))] → W p l e (rm_ 1 21) s m ([.ref (ad (0)), .int (nI (a))] : List Value).toArray below meth c H locs 0 0 (MQ below (GQ D 13 ad (cfM cI cB ad) (fun v M' => v = some (.int (nI (wasF rf rt nc a))) ∧ M' = pu M 0 0 (nI 0))) ([.ref (ad (0)), .int (nI (a))] : List Value).toArray s 0 0 (GA 13 ad)) (F0 m 31 ls []) := by
    intro fu31
    induction fu31 with
    | zero => intro i y M1 H locs ls hfu; exact absurd hfu (Nat.not_lt_zero _)
    | succ fu31 ih31 =>
      intro i y M1 H locs ls hfu31 hM1 hi hy hyn hP hS hl
      have h12 : M1 0 12 = nI nc := by rw [hM1, pu_j _ _ _ _ _ (by decide)]; exact hRR.2.1
      have h8 : ∀ q, M1 8 q = M 8 q := fun q => by rw [hM1, pu_k _ _ _ _ _ (by decide)]
      refine lv_iload_n hx hb d_M_was_31 rfl (lv_at hl 2 rfl) ?_
      refine lv_if_lt (tgt := 68) hx hb d_M_was_32 (by decide) (fun c_32 => ?_) (fun c_32 => ?_)
      · refine lv_iload_n hx hb d_M_was_68 rfl (lv_at hl 1 rfl) ?_
        exact r_i hx hb hr hlocks hP hS (⟨by rw [← hy, (nI_p0 (by omega)).mp c_32]; rfl, hM1⟩) d_M_was_69
      · obtain ⟨j, rfl⟩ : ∃ j, i = j + 1 := ⟨i - 1, by have : ¬ i = 0 := fun h => c_32 ((nI_p0 (by omega)).mpr h); omega⟩
        rw [nI_pred] at hl
        have hl : lv_has ls 4 [(0, .ref (ad (0))), (2, .int (nI (y))), (3, .int (nI (j)))] := hl
        refine lv_aload_n hx hb d_M_was_35 rfl (lv_at hl 0 rfl) ?_
        refine g_get (C := R_M) (T := T_M) (N := 19) (ci := 8) (v := .ref (ad (8))) hx hb hg i_M hown hK hP 0 (by decide) rfl rfl 11 (by decide) (hg _ k_804) rfl d_M_was_36 ?_
        refine n_const (k := 2) hx hb d_M_was_39 (by decide) ?_
        refine lv_iload_n hx hb d_M_was_40 rfl (lv_at hl 2 rfl) ?_
        refine n_imul (a := 2) (b := j) hx hb d_M_was_41 ?_
        refine n_const (k := 1) hx hb d_M_was_42 (by decide) ?_
        refine n_iadd (a := (2) * (j)) (b := 1) hx hb d_M_was_43 ?_
        refine g_iald hx hb hK hP 8 0 (by decide) rfl rfl (by decide) (j := ((2) * (j)) + (1)) (by omega) d_M_was_44 ?_
        refine n_top (y := (nI (rt (j)))) (by rw [h8]; exact (hRR.2.2 (j) (by omega)).2.2.2) ?_
        refine lv_iload_n hx hb d_M_was_45 rfl (lv_at hl 1 rfl) ?_
        refine n_ne (a := rt (j)) (b := y) (tgt := 60) hx hb d_M_was_46 (by decide) (by have := hrf j (by omega); omega) (by omega) (fun c_46 => ?_) (fun c_46 => ?_)
        · have hy9 : wasF rf rt j y = wasF rf rt nc a := by rw [← hy]; simp only [wasF]; rw [if_neg c_46]
          have hyn9 := hyn
          refine lv_iload_n hx hb d_M_was_60 rfl (lv_at hl 1 rfl) ?_
          refine lv_istore_n (lv' := [(2, .int (nI (y))), (0, .ref (ad (0))), (3, .int (nI (j)))]) hx hb d_M_was_61 rfl hl (by decide) rfl (fun ls hl => ?_)
          refine lv_iinc (v := ((nI (j)) - 1)) (lv' := [(3, .int ((nI (j)) - 1)), (2, .int (nI (y))), (0, .ref (ad (0)))]) hx hb d_M_was_62 hl (k := 2) rfl (decI _) (by decide) rfl (fun ls hl => ?_)
          refine lv_goto (tgt := 31) hx hb d_M_was_65 (by decide) ?_
          exact ih31 (j) (y) M1 _ _ ls (by omega) (hM1) (by omega) (hy9) (hyn9) hP hS (lv_sub hl [2, 1, 0] rfl)
        · have hy9 : wasF rf rt j (rf j) = wasF rf rt nc a := by rw [← hy]; simp only [wasF]; rw [if_pos c_46]
          have hyn9 := (hrf j (by omega)).1
          refine lv_aload_n hx hb d_M_was_49 rfl (lv_at hl 0 rfl) ?_
          refine g_get (C := R_M) (T := T_M) (N := 19) (ci := 8) (v := .ref (ad (8))) hx hb hg i_M hown hK hP 0 (by decide) rfl rfl 11 (by decide) (hg _ k_804) rfl d_M_was_50 ?_
          refine n_const (k := 2) hx hb d_M_was_53 (by decide) ?_
          refine lv_iload_n hx hb d_M_was_54 rfl (lv_at hl 2 rfl) ?_
          refine n_imul (a := 2) (b := j) hx hb d_M_was_55 ?_
          refine g_iald hx hb hK hP 8 0 (by decide) rfl rfl (by decide) (j := (2) * (j)) (by omega) d_M_was_56 ?_
          refine n_top (y := (nI (rf (j)))) (by rw [h8]; exact (hRR.2.2 (j) (by omega)).2.2.1) ?_
          refine lv_goto (tgt := 61) hx hb d_M_was_57 (by decide) ?_
          refine lv_istore_n (lv' := [(2, .int (nI (rf (j)))), (0, .ref (ad (0))), (3, .int (nI (j)))]) hx hb d_M_was_61 rfl hl (by decide) rfl (fun ls hl => ?_)
          refine lv_iinc (v := ((nI (j)) - 1)) (lv' := [(3, .int ((nI (j)) - 1)), (2, .int (nI (rf (j)))), (0, .ref (ad (0)))]) hx hb d_M_was_62 hl (k := 2) rfl (decI _) (by decide) rfl (fun ls hl => ?_)
          refine lv_goto (tgt := 31) hx hb d_M_was_65 (by decide) ?_
          exact ih31 (j) (rf (j)) M1 _ _ ls (by omega) (hM1) (by omega) (hy9) (hyn9) hP hS (lv_sub hl [2, 1, 0] rfl)
  refine lv_aload_n hx hb d_M_was_0 rfl (lv_at hl 0 rfl) ?_
  refine lv_aload_n hx hb d_M_was_1 rfl (lv_at hl 0 rfl) ?_
  refine lv_iload_n hx hb d_M_was_2 rfl (lv_at hl 1 rfl) ?_
  refine c_V (own := R_M) (index := 89) (As := [.int (nI (a))]) (rest := [.ref (ad (0))]) hx hb hml hown hg hK (fun _ _ _ h => h) (fun _ _ => trivial) (fun _ h => h) hP hS 0 (c_M_no l D cI cB ad hI M n len ch sp hR (nI (a)) false (no_f (by omega))) (by decide) (ci := 8) rfl rfl k_907 k_909 k_p30 k_9 k_910 1 rfl (by decide +kernel) (by decide) rfl hl.1 (Nat.le_of_ble_eq_true rfl) d_M_was_3 (fun v M' H locs hq hP _ _ hS => ?_)
  obtain ⟨rfl, rfl⟩ := hq
  refine W.eq (g2 := F0 m 6 ls [.int (bI (false)), .ref (ad (0))]) rfl ?_
  refine z_eq (t := false) (tgt := 13) hx hb d_M_was_6 (by decide) (fun _ => ?_) (fun h9 => absurd h9 (by decide))
  refine n_const (k := 0) hx hb d_M_was_13 (by decide) ?_
  refine c_V (own := R_M) (index := 57) (As := [.int (nI (0))]) (rest := []) hx hb hml hown hg hK (fun _ _ _ h => h) (fun _ _ => trivial) (fun _ h => h) hP hS 0 (c_M_refuses l D cI cB ad hI M (0) (by decide)) (by decide) (ci := 8) rfl rfl k_859 k_861 k_p22 k_9 k_862 1 rfl (by decide +kernel) (by decide) rfl hl.1 (Nat.le_of_ble_eq_true rfl) d_M_was_14 (fun v M_1 H locs hq hP _ _ hS => ?_)
  obtain ⟨rfl, eM_1⟩ := hq
  refine W.eq (g2 := F0 m 17 ls [.int (bI (false))]) rfl ?_
  refine z_eq (t := false) (tgt := 22) hx hb d_M_was_17 (by decide) (fun _ => ?_) (fun h9 => absurd h9 (by decide))
  refine lv_iload_n hx hb d_M_was_22 rfl (lv_at hl 1 rfl) ?_
  refine lv_istore_n (lv' := [(2, .int (nI (a))), (0, .ref (ad (0))), (1, .int (nI (a)))]) hx hb d_M_was_23 rfl hl (by decide) rfl (fun ls hl => ?_)
  refine lv_aload_n hx hb d_M_was_24 rfl (lv_at hl 1 rfl) ?_
  refine g_get (C := R_M) (T := T_M) (N := 19) (ci := 8) (v := .int (M_1 0 12)) hx hb hg i_M hown hK hP 0 (by decide) rfl rfl 12 (by decide) (hg _ k_805) rfl d_M_was_25 ?_
  refine n_top (y := (nI (nc))) (by rw [eM_1, pu_j _ _ _ _ _ (by first | decide | omega)]; exact hRR.2.1) ?_
  refine n_const (k := 1) hx hb d_M_was_28 (by decide) ?_
  refine lv_isub hx hb d_M_was_29 ?_
  refine n_top (y := nI (nc) - 1) rfl ?_
  refine lv_istore_n (lv' := [(3, .int (nI (nc) - 1)), (2, .int (nI (a))), (0, .ref (ad (0))), (1, .int (nI (a)))]) hx hb d_M_was_30 rfl hl (by decide) rfl (fun ls hl => ?_)
  exact J31 (_ + 1) (nc) (a) M_1 _ _ ls (Nat.lt_succ_self _) (eM_1) (by omega) (rfl) (by omega) hP hS (lv_sub hl [2, 1, 0] rfl)

set_option maxHeartbeats 4000000 in
set_option maxRecDepth 100000 in
theorem c_M_type_1 (l : Launch) (D : va_G) (cI cB : ClassId) (ad : Nat → Nat) (hI : GI 13 ad) (M : PM) (tl : Nat) (tc : Nat → Nat) (hT : RT M tl tc) (x : Int32) (hbad : ¬ ∃ c, 33 ≤ c ∧ c ≤ 126 ∧ x = nI c) : MM l D cI cB ad y_M_type b_M_type 2 (some .int) 1 21 [.ref (ad (0)), .int (x)] M (fun v M' => v = some (.int (nI 0)) ∧ M' = pu M 0 0 (nI 1)) := by
  refine MC.of (by decide) (Nat.le_of_ble_eq_true rfl) ?_
  intro p e s m below meth c ls hx hb hr hml hown hg hlocks hK hN hP hS hl
  have hown : s.vm.findClass R_M = some m.cls := hown
  have hl : lv_has ls 2 [(0, .ref (ad (0))), (1, .int (x))] := hl
  refine lv_aload_n hx hb d_M_type_0 rfl (lv_at hl 0 rfl) ?_
  refine lv_iload_n hx hb d_M_type_1 rfl (lv_at hl 1 rfl) ?_
  refine n_bipush (k := 33) hx hb d_M_type_2 (by decide) ?_
  refine lv_icmp_lt (tgt := 13) hx hb d_M_type_4 (by decide) (fun c_4 => ?_) (fun c_4 => ?_)
  · refine n_const (k := 1) hx hb d_M_type_13 (by decide) ?_
    refine lv_goto (tgt := 31) hx hb d_M_type_14 (by decide) ?_
    refine c_V (own := R_M) (index := 57) (As := [.int (nI (1))]) (rest := []) hx hb hml hown hg hK (fun _ _ _ h => h) (fun _ _ => trivial) (fun _ h => h) hP hS 0 (c_M_refuses l D cI cB ad hI M (1) (by decide)) (by decide) (ci := 8) rfl rfl k_859 k_861 k_p22 k_9 k_862 1 rfl (by decide +kernel) (by decide) rfl hl.1 (Nat.le_of_ble_eq_true rfl) d_M_type_31 (fun v M_1 H locs hq hP _ _ hS => ?_)
    obtain ⟨rfl, eM_1⟩ := hq
    refine W.eq (g2 := F0 m 34 ls [.int (bI (true))]) rfl ?_
    refine z_eq (t := true) (tgt := 39) hx hb d_M_type_34 (by decide) (fun h9 => absurd h9 (by decide)) (fun _ => ?_)
    refine n_const (k := 0) hx hb d_M_type_37 (by decide) ?_
    exact r_i hx hb hr hlocks hP hS (⟨rfl, eM_1⟩) d_M_type_38
  · refine lv_iload_n hx hb d_M_type_7 rfl (lv_at hl 1 rfl) ?_
    refine n_bipush (k := 126) hx hb d_M_type_8 (by decide) ?_
    refine lv_icmp_le (tgt := 17) hx hb d_M_type_10 (by decide) (fun c_10 => ?_) (fun c_10 => ?_)
    · exact absurd (rng (by decide) c_4 c_10 (by decide)) hbad
    · refine n_const (k := 1) hx hb d_M_type_13 (by decide) ?_
      refine lv_goto (tgt := 31) hx hb d_M_type_14 (by decide) ?_
      refine c_V (own := R_M) (index := 57) (As := [.int (nI (1))]) (rest := []) hx hb hml hown hg hK (fun _ _ _ h => h) (fun _ _ => trivial) (fun _ h => h) hP hS 0 (c_M_refuses l D cI cB ad hI M (1) (by decide)) (by decide) (ci := 8) rfl rfl k_859 k_861 k_p22 k_9 k_862 1 rfl (by decide +kernel) (by decide) rfl hl.1 (Nat.le_of_ble_eq_true rfl) d_M_type_31 (fun v M_2 H locs hq hP _ _ hS => ?_)
      obtain ⟨rfl, eM_2⟩ := hq
      refine W.eq (g2 := F0 m 34 ls [.int (bI (true))]) rfl ?_
      refine z_eq (t := true) (tgt := 39) hx hb d_M_type_34 (by decide) (fun h9 => absurd h9 (by decide)) (fun _ => ?_)
      refine n_const (k := 0) hx hb d_M_type_37 (by decide) ?_
      exact r_i hx hb hr hlocks hP hS (⟨rfl, eM_2⟩) d_M_type_38

set_option maxHeartbeats 4000000 in
set_option maxRecDepth 100000 in
theorem c_M_type_2 (l : Launch) (D : va_G) (cI cB : ClassId) (ad : Nat → Nat) (hI : GI 13 ad) (M : PM) (tl : Nat) (tc : Nat → Nat) (hT : RT M tl tc) (c9 : Nat) (h1 : 33 ≤ c9) (h2 : c9 ≤ 126) (h3 : tl = 24) : MM l D cI cB ad y_M_type b_M_type 2 (some .int) 1 21 [.ref (ad (0)), .int (nI (c9))] M (fun v M' => v = some (.int (nI 0)) ∧ M' = pu M 0 0 (nI 2)) := by
  refine MC.of (by decide) (Nat.le_of_ble_eq_true rfl) ?_
  intro p e s m below meth c ls hx hb hr hml hown hg hlocks hK hN hP hS hl
  have hown : s.vm.findClass R_M = some m.cls := hown
  have hl : lv_has ls 2 [(0, .ref (ad (0))), (1, .int (nI (c9)))] := hl
  refine lv_aload_n hx hb d_M_type_0 rfl (lv_at hl 0 rfl) ?_
  refine lv_iload_n hx hb d_M_type_1 rfl (lv_at hl 1 rfl) ?_
  refine n_bipush (k := 33) hx hb d_M_type_2 (by decide) ?_
  refine n_lt (a := c9) (b := 33) (tgt := 13) hx hb d_M_type_4 (by decide) (by omega) (by omega) (fun c_4 => ?_) (fun c_4 => ?_)
  · exact absurd c_4 (by omega)
  · refine lv_iload_n hx hb d_M_type_7 rfl (lv_at hl 1 rfl) ?_
    refine n_bipush (k := 126) hx hb d_M_type_8 (by decide) ?_
    refine n_le (a := c9) (b := 126) (tgt := 17) hx hb d_M_type_10 (by decide) (by omega) (by omega) (fun c_10 => ?_) (fun c_10 => ?_)
    · refine lv_aload_n hx hb d_M_type_17 rfl (lv_at hl 0 rfl) ?_
      refine g_get (C := R_M) (T := T_M) (N := 19) (ci := 8) (v := .int (M 0 2)) hx hb hg i_M hown hK hP 0 (by decide) rfl rfl 2 (by decide) (hg _ k_795) rfl d_M_type_18 ?_
      refine n_top (y := (nI (tl))) (hT.2.1) ?_
      refine n_bipush (k := 24) hx hb d_M_type_21 (by decide) ?_
      refine n_ne (a := tl) (b := 24) (tgt := 30) hx hb d_M_type_23 (by decide) (by omega) (by omega) (fun c_23 => ?_) (fun c_23 => ?_)
      · exact absurd c_23 (by omega)
      · refine n_const (k := 2) hx hb d_M_type_26 (by decide) ?_
        refine lv_goto (tgt := 31) hx hb d_M_type_27 (by decide) ?_
        refine c_V (own := R_M) (index := 57) (As := [.int (nI (2))]) (rest := []) hx hb hml hown hg hK (fun _ _ _ h => h) (fun _ _ => trivial) (fun _ h => h) hP hS 0 (c_M_refuses l D cI cB ad hI M (2) (by decide)) (by decide) (ci := 8) rfl rfl k_859 k_861 k_p22 k_9 k_862 1 rfl (by decide +kernel) (by decide) rfl hl.1 (Nat.le_of_ble_eq_true rfl) d_M_type_31 (fun v M_1 H locs hq hP _ _ hS => ?_)
        obtain ⟨rfl, eM_1⟩ := hq
        refine W.eq (g2 := F0 m 34 ls [.int (bI (true))]) rfl ?_
        refine z_eq (t := true) (tgt := 39) hx hb d_M_type_34 (by decide) (fun h9 => absurd h9 (by decide)) (fun _ => ?_)
        refine n_const (k := 0) hx hb d_M_type_37 (by decide) ?_
        exact r_i hx hb hr hlocks hP hS (⟨rfl, eM_1⟩) d_M_type_38
    · exact absurd c_10 (by omega)

set_option maxHeartbeats 4000000 in
set_option maxRecDepth 100000 in
theorem c_M_type (l : Launch) (D : va_G) (cI cB : ClassId) (ad : Nat → Nat) (hI : GI 13 ad) (M : PM) (tl : Nat) (tc : Nat → Nat) (hT : RT M tl tc) (c9 : Nat) (h1 : 33 ≤ c9) (h2 : c9 ≤ 126) (h3 : tl < 24) : MM l D cI cB ad y_M_type b_M_type 2 (some .int) 1 21 [.ref (ad (0)), .int (nI (c9))] M (fun v M' => v = some (.int (nI (tl + 1))) ∧ M' = pu (pu (pu M 0 0 (nI 0)) 0 2 (nI (tl + 1))) 1 tl (nI c9)) := by
  refine MC.of (by decide) (Nat.le_of_ble_eq_true rfl) ?_
  intro p e s m below meth c ls hx hb hr hml hown hg hlocks hK hN hP hS hl
  have hown : s.vm.findClass R_M = some m.cls := hown
  have hl : lv_has ls 2 [(0, .ref (ad (0))), (1, .int (nI (c9)))] := hl
  refine lv_aload_n hx hb d_M_type_0 rfl (lv_at hl 0 rfl) ?_
  refine lv_iload_n hx hb d_M_type_1 rfl (lv_at hl 1 rfl) ?_
  refine n_bipush (k := 33) hx hb d_M_type_2 (by decide) ?_
  refine n_lt (a := c9) (b := 33) (tgt := 13) hx hb d_M_type_4 (by decide) (by omega) (by omega) (fun c_4 => ?_) (fun c_4 => ?_)
  · exact absurd c_4 (by omega)
  · refine lv_iload_n hx hb d_M_type_7 rfl (lv_at hl 1 rfl) ?_
    refine n_bipush (k := 126) hx hb d_M_type_8 (by decide) ?_
    refine n_le (a := c9) (b := 126) (tgt := 17) hx hb d_M_type_10 (by decide) (by omega) (by omega) (fun c_10 => ?_) (fun c_10 => ?_)
    · refine lv_aload_n hx hb d_M_type_17 rfl (lv_at hl 0 rfl) ?_
      refine g_get (C := R_M) (T := T_M) (N := 19) (ci := 8) (v := .int (M 0 2)) hx hb hg i_M hown hK hP 0 (by decide) rfl rfl 2 (by decide) (hg _ k_795) rfl d_M_type_18 ?_
      refine n_top (y := (nI (tl))) (hT.2.1) ?_
      refine n_bipush (k := 24) hx hb d_M_type_21 (by decide) ?_
      refine n_ne (a := tl) (b := 24) (tgt := 30) hx hb d_M_type_23 (by decide) (by omega) (by omega) (fun c_23 => ?_) (fun c_23 => ?_)
      · refine n_const (k := 0) hx hb d_M_type_30 (by decide) ?_
        refine c_V (own := R_M) (index := 57) (As := [.int (nI (0))]) (rest := []) hx hb hml hown hg hK (fun _ _ _ h => h) (fun _ _ => trivial) (fun _ h => h) hP hS 0 (c_M_refuses l D cI cB ad hI M (0) (by decide)) (by decide) (ci := 8) rfl rfl k_859 k_861 k_p22 k_9 k_862 1 rfl (by decide +kernel) (by decide) rfl hl.1 (Nat.le_of_ble_eq_true rfl) d_M_type_31 (fun v M_1 H locs hq hP _ _ hS => ?_)
        obtain ⟨rfl, eM_1⟩ := hq
        refine W.eq (g2 := F0 m 34 ls [.int (bI (false))]) rfl ?_
        refine z_eq (t := false) (tgt := 39) hx hb d_M_type_34 (by decide) (fun _ => ?_) (fun h9 => absurd h9 (by decide))
        refine lv_aload_n hx hb d_M_type_39 rfl (lv_at hl 0 rfl) ?_
        refine g_get (C := R_M) (T := T_M) (N := 19) (ci := 8) (v := .ref (ad (1))) hx hb hg i_M hown hK hP 0 (by decide) rfl rfl 1 (by decide) (hg _ k_794) rfl d_M_type_40 ?_
        refine lv_aload_n hx hb d_M_type_43 rfl (lv_at hl 0 rfl) ?_
        refine lv_dup hx hb d_M_type_44 rfl ?_
        refine g_get (C := R_M) (T := T_M) (N := 19) (ci := 8) (v := .int (M_1 0 2)) hx hb hg i_M hown hK hP 0 (by decide) rfl rfl 2 (by decide) (hg _ k_795) rfl d_M_type_45 ?_
        refine n_top (y := (nI (tl))) (by rw [eM_1, pu_j _ _ _ _ _ (by first | decide | omega)]; exact hT.2.1) ?_
        refine lv_dup_x1 hx hb d_M_type_48 rfl rfl ?_
        refine n_const (k := 1) hx hb d_M_type_49 (by decide) ?_
        refine n_iadd (a := tl) (b := 1) hx hb d_M_type_50 ?_
        refine g_put (C := R_M) (T := T_M) (N := 19) (ci := 8) (v := (nI ((tl) + (1)))) hx hb hg i_M ty_M t_M_ok n_M hown hK hI (fun _ h => h) hP hS 0 (by decide) rfl rfl 2 (by decide) (hg _ k_795) rfl (by decide +kernel) (Nat.le_of_ble_eq_true rfl) rfl d_M_type_51 (fun H locs hP hS => ?_)
        obtain ⟨M_2, eM_2⟩ : ∃ z : PM, z = (pu M_1 0 2 ((nI ((tl) + (1))))) := ⟨_, rfl⟩
        rw [← eM_2] at hP
        refine lv_iload_n hx hb d_M_type_54 rfl (lv_at hl 1 rfl) ?_
        refine lv_i2b (v := nI (c9)) hx hb d_M_type_55 (nb8 c9 (by omega)) ?_
        refine g_bast hx hb hK hI (fun _ h => h) hP hS 1 1 (by decide) (fun _ => rfl) rfl (by decide) (j := tl) (by omega) (v := (nI (c9))) d_M_type_56 (fun H locs hP hS => ?_)
        obtain ⟨M_3, eM_3⟩ : ∃ z : PM, z = (pu M_2 1 (tl) (vp_nar .byte (nI (c9)))) := ⟨_, rfl⟩
        rw [← eM_3] at hP
        refine lv_aload_n hx hb d_M_type_57 rfl (lv_at hl 0 rfl) ?_
        refine g_get (C := R_M) (T := T_M) (N := 19) (ci := 8) (v := .int (M_3 0 2)) hx hb hg i_M hown hK hP 0 (by decide) rfl rfl 2 (by decide) (hg _ k_795) rfl d_M_type_58 ?_
        refine n_top (y := (nI ((tl) + (1)))) (by rw [eM_3, pu_k _ _ _ _ _ (by first | decide | omega), eM_2, pu_s]) ?_
        exact r_i hx hb hr hlocks hP hS (⟨rfl, by rw [eM_3, eM_2, eM_1, nbb c9 (by omega)]⟩) d_M_type_61
      · exact absurd c_23 (by omega)
    · exact absurd c_10 (by omega)

set_option maxHeartbeats 4000000 in
set_option maxRecDepth 100000 in
theorem c_M_clear (l : Launch) (D : va_G) (cI cB : ClassId) (ad : Nat → Nat) (hI : GI 13 ad) (M : PM) (tl : Nat) (tc : Nat → Nat) (hT : RT M tl tc) : MM l D cI cB ad y_M_clear b_M_clear 2 (some .int) 0 0 [.ref (ad (0))] M (fun v M' => v = some (.int (nI tl)) ∧ M' = pu (pu M 0 0 (nI 0)) 0 2 (nI 0)) := by
  refine MC.of (by decide) (Nat.le_of_ble_eq_true rfl) ?_
  intro p e s m below meth c ls hx hb hr hml hown hg hlocks hK hN hP hS hl
  have hown : s.vm.findClass R_M = some m.cls := hown
  have hl : lv_has ls 2 [(0, .ref (ad (0)))] := hl
  refine lv_aload_n hx hb d_M_clear_0 rfl (lv_at hl 0 rfl) ?_
  refine n_const (k := 0) hx hb d_M_clear_1 (by decide) ?_
  refine g_put (C := R_M) (T := T_M) (N := 19) (ci := 8) (v := (nI (0))) hx hb hg i_M ty_M t_M_ok n_M hown hK hI (fun _ h => h) hP hS 0 (by decide) rfl rfl 0 (by decide) (hg _ k_793) rfl (by decide +kernel) (Nat.le_of_ble_eq_true rfl) rfl d_M_clear_2 (fun H locs hP hS => ?_)
  obtain ⟨M_1, eM_1⟩ : ∃ z : PM, z = (pu M 0 0 ((nI (0)))) := ⟨_, rfl⟩
  rw [← eM_1] at hP
  refine lv_aload_n hx hb d_M_clear_5 rfl (lv_at hl 0 rfl) ?_
  refine g_get (C := R_M) (T := T_M) (N := 19) (ci := 8) (v := .int (M_1 0 2)) hx hb hg i_M hown hK hP 0 (by decide) rfl rfl 2 (by decide) (hg _ k_795) rfl d_M_clear_6 ?_
  refine n_top (y := (nI (tl))) (by rw [eM_1, pu_j _ _ _ _ _ (by first | decide | omega)]; exact hT.2.1) ?_
  refine lv_istore_n (lv' := [(1, .int (nI (tl))), (0, .ref (ad (0)))]) hx hb d_M_clear_9 rfl hl (by decide) rfl (fun ls hl => ?_)
  refine lv_aload_n hx hb d_M_clear_10 rfl (lv_at hl 1 rfl) ?_
  refine n_const (k := 0) hx hb d_M_clear_11 (by decide) ?_
  refine g_put (C := R_M) (T := T_M) (N := 19) (ci := 8) (v := (nI (0))) hx hb hg i_M ty_M t_M_ok n_M hown hK hI (fun _ h => h) hP hS 0 (by decide) rfl rfl 2 (by decide) (hg _ k_795) rfl (by decide +kernel) (Nat.le_of_ble_eq_true rfl) rfl d_M_clear_12 (fun H locs hP hS => ?_)
  obtain ⟨M_2, eM_2⟩ : ∃ z : PM, z = (pu M_1 0 2 ((nI (0)))) := ⟨_, rfl⟩
  rw [← eM_2] at hP
  refine lv_iload_n hx hb d_M_clear_15 rfl (lv_at hl 0 rfl) ?_
  exact r_i hx hb hr hlocks hP hS (⟨rfl, by rw [eM_2, eM_1]⟩) d_M_clear_16
