set_option maxHeartbeats 4000000 in
set_option maxRecDepth 100000 in
theorem c_M_prefix_1a (l : Launch) (D : va_G) (cI cB : ClassId) (ad : Nat → Nat) (hI : GI 13 ad) (M : PM) (n : Nat) (len : Nat → Nat) (ch : Nat → Nat → Nat) (sp : Nat → Option Nat) (hR : RN M n len ch sp) (x y : Int32) (hbad : ¬ ∃ j, j < n ∧ x = nI j) : MM l D cI cB ad y_M_prefix b_M_prefix 3 (some .boolean) 1 21 [.ref (ad (0)), .int (x), .int (y)] M (fun v M' => v = some (.int (nI 0)) ∧ M' = pu M 0 0 (nI 1)) := by
  refine MC.of (by decide) (Nat.le_of_ble_eq_true rfl) ?_
  intro p e s m below meth c ls hx hb hr hml hown hg hlocks hK hN hP hS hl
  have hown : s.vm.findClass R_M = some m.cls := hown
  have hl : lv_has ls 3 [(0, .ref (ad (0))), (1, .int (x)), (2, .int (y))] := hl
  have hn60 : n ≤ 60 := hR.1
  refine lv_aload_n hx hb d_M_prefix_0 rfl (lv_at hl 0 rfl) ?_
  refine lv_aload_n hx hb d_M_prefix_1 rfl (lv_at hl 0 rfl) ?_
  refine lv_iload_n hx hb d_M_prefix_2 rfl (lv_at hl 1 rfl) ?_
  refine c_V (own := R_M) (index := 89) (As := [.int (x)]) (rest := [.ref (ad (0))]) hx hb hml hown hg hK (fun _ _ _ h => h) (fun _ _ => trivial) (fun _ h => h) hP hS 0 (c_M_no l D cI cB ad hI M n len ch sp hR (x) true (no_t hbad)) (by decide) (ci := 8) rfl rfl k_907 k_909 k_p30 k_9 k_910 1 rfl (by decide +kernel) (by decide) rfl hl.1 (Nat.le_of_ble_eq_true rfl) d_M_prefix_3 (fun v M' H locs hq hP _ _ hS => ?_)
  obtain ⟨rfl, rfl⟩ := hq
  refine W.eq (g2 := F0 m 6 ls [.int (bI (true)), .ref (ad (0))]) rfl ?_
  refine z_ne (t := true) (tgt := 17) hx hb d_M_prefix_6 (by decide) (fun _ => ?_) (fun h9 => absurd h9 (by decide))
  refine n_const (k := 1) hx hb d_M_prefix_17 (by decide) ?_
  refine lv_goto (tgt := 39) hx hb d_M_prefix_18 (by decide) ?_
  refine c_V (own := R_M) (index := 57) (As := [.int (nI (1))]) (rest := []) hx hb hml hown hg hK (fun _ _ _ h => h) (fun _ _ => trivial) (fun _ h => h) hP hS 0 (c_M_refuses l D cI cB ad hI M (1) (by decide)) (by decide) (ci := 8) rfl rfl k_859 k_861 k_p22 k_9 k_862 1 rfl (by decide +kernel) (by decide) rfl hl.1 (Nat.le_of_ble_eq_true rfl) d_M_prefix_39 (fun v M_1 H locs hq hP _ _ hS => ?_)
  obtain ⟨rfl, eM_1⟩ := hq
  refine W.eq (g2 := F0 m 42 ls [.int (bI (true))]) rfl ?_
  refine z_eq (t := true) (tgt := 47) hx hb d_M_prefix_42 (by decide) (fun h9 => absurd h9 (by decide)) (fun _ => ?_)
  refine n_const (k := 0) hx hb d_M_prefix_45 (by decide) ?_
  exact r_z hx hb hr hlocks (rfl) hP hS (⟨rfl, eM_1⟩) d_M_prefix_46

set_option maxHeartbeats 4000000 in
set_option maxRecDepth 100000 in
theorem c_M_prefix_1b (l : Launch) (D : va_G) (cI cB : ClassId) (ad : Nat → Nat) (hI : GI 13 ad) (M : PM) (n : Nat) (len : Nat → Nat) (ch : Nat → Nat → Nat) (sp : Nat → Option Nat) (hR : RN M n len ch sp) (a : Nat) (ha : a < n) (x : Int32) (hbad : ¬ ∃ j, j < n ∧ x = nI j) : MM l D cI cB ad y_M_prefix b_M_prefix 3 (some .boolean) 1 21 [.ref (ad (0)), .int (nI (a)), .int (x)] M (fun v M' => v = some (.int (nI 0)) ∧ M' = pu M 0 0 (nI 1)) := by
  refine MC.of (by decide) (Nat.le_of_ble_eq_true rfl) ?_
  intro p e s m below meth c ls hx hb hr hml hown hg hlocks hK hN hP hS hl
  have hown : s.vm.findClass R_M = some m.cls := hown
  have hl : lv_has ls 3 [(0, .ref (ad (0))), (1, .int (nI (a))), (2, .int (x))] := hl
  have hn60 : n ≤ 60 := hR.1
  refine lv_aload_n hx hb d_M_prefix_0 rfl (lv_at hl 0 rfl) ?_
  refine lv_aload_n hx hb d_M_prefix_1 rfl (lv_at hl 0 rfl) ?_
  refine lv_iload_n hx hb d_M_prefix_2 rfl (lv_at hl 1 rfl) ?_
  refine c_V (own := R_M) (index := 89) (As := [.int (nI (a))]) (rest := [.ref (ad (0))]) hx hb hml hown hg hK (fun _ _ _ h => h) (fun _ _ => trivial) (fun _ h => h) hP hS 0 (c_M_no l D cI cB ad hI M n len ch sp hR (nI (a)) false (no_f (by omega))) (by decide) (ci := 8) rfl rfl k_907 k_909 k_p30 k_9 k_910 1 rfl (by decide +kernel) (by decide) rfl hl.1 (Nat.le_of_ble_eq_true rfl) d_M_prefix_3 (fun v M' H locs hq hP _ _ hS => ?_)
  obtain ⟨rfl, rfl⟩ := hq
  refine W.eq (g2 := F0 m 6 ls [.int (bI (false)), .ref (ad (0))]) rfl ?_
  refine z_ne (t := false) (tgt := 17) hx hb d_M_prefix_6 (by decide) (fun h9 => absurd h9 (by decide)) (fun _ => ?_)
  refine lv_aload_n hx hb d_M_prefix_9 rfl (lv_at hl 0 rfl) ?_
  refine lv_iload_n hx hb d_M_prefix_10 rfl (lv_at hl 2 rfl) ?_
  refine c_V (own := R_M) (index := 89) (As := [.int (x)]) (rest := [.ref (ad (0))]) hx hb hml hown hg hK (fun _ _ _ h => h) (fun _ _ => trivial) (fun _ h => h) hP hS 0 (c_M_no l D cI cB ad hI M n len ch sp hR (x) true (no_t hbad)) (by decide) (ci := 8) rfl rfl k_907 k_909 k_p30 k_9 k_910 1 rfl (by decide +kernel) (by decide) rfl hl.1 (Nat.le_of_ble_eq_true rfl) d_M_prefix_11 (fun v M' H locs hq hP _ _ hS => ?_)
  obtain ⟨rfl, rfl⟩ := hq
  refine W.eq (g2 := F0 m 14 ls [.int (bI (true)), .ref (ad (0))]) rfl ?_
  refine z_eq (t := true) (tgt := 21) hx hb d_M_prefix_14 (by decide) (fun h9 => absurd h9 (by decide)) (fun _ => ?_)
  refine n_const (k := 1) hx hb d_M_prefix_17 (by decide) ?_
  refine lv_goto (tgt := 39) hx hb d_M_prefix_18 (by decide) ?_
  refine c_V (own := R_M) (index := 57) (As := [.int (nI (1))]) (rest := []) hx hb hml hown hg hK (fun _ _ _ h => h) (fun _ _ => trivial) (fun _ h => h) hP hS 0 (c_M_refuses l D cI cB ad hI M (1) (by decide)) (by decide) (ci := 8) rfl rfl k_859 k_861 k_p22 k_9 k_862 1 rfl (by decide +kernel) (by decide) rfl hl.1 (Nat.le_of_ble_eq_true rfl) d_M_prefix_39 (fun v M_1 H locs hq hP _ _ hS => ?_)
  obtain ⟨rfl, eM_1⟩ := hq
  refine W.eq (g2 := F0 m 42 ls [.int (bI (true))]) rfl ?_
  refine z_eq (t := true) (tgt := 47) hx hb d_M_prefix_42 (by decide) (fun h9 => absurd h9 (by decide)) (fun _ => ?_)
  refine n_const (k := 0) hx hb d_M_prefix_45 (by decide) ?_
  exact r_z hx hb hr hlocks (rfl) hP hS (⟨rfl, eM_1⟩) d_M_prefix_46

set_option maxHeartbeats 4000000 in
set_option maxRecDepth 100000 in
theorem c_M_apart_1a (l : Launch) (D : va_G) (cI cB : ClassId) (ad : Nat → Nat) (hI : GI 13 ad) (M : PM) (n : Nat) (len : Nat → Nat) (ch : Nat → Nat → Nat) (sp : Nat → Option Nat) (hR : RN M n len ch sp) (x y : Int32) (hbad : ¬ ∃ j, j < n ∧ x = nI j) : MM l D cI cB ad y_M_apart b_M_apart 3 (some .int) 1 21 [.ref (ad (0)), .int (x), .int (y)] M (fun v M' => v = some (.int (nI 0)) ∧ M' = pu M 0 0 (nI 1)) := by
  refine MC.of (by decide) (Nat.le_of_ble_eq_true rfl) ?_
  intro p e s m below meth c ls hx hb hr hml hown hg hlocks hK hN hP hS hl
  have hown : s.vm.findClass R_M = some m.cls := hown
  have hl : lv_has ls 3 [(0, .ref (ad (0))), (1, .int (x)), (2, .int (y))] := hl
  have hn60 : n ≤ 60 := hR.1
  refine lv_aload_n hx hb d_M_apart_0 rfl (lv_at hl 0 rfl) ?_
  refine lv_aload_n hx hb d_M_apart_1 rfl (lv_at hl 0 rfl) ?_
  refine lv_iload_n hx hb d_M_apart_2 rfl (lv_at hl 1 rfl) ?_
  refine c_V (own := R_M) (index := 89) (As := [.int (x)]) (rest := [.ref (ad (0))]) hx hb hml hown hg hK (fun _ _ _ h => h) (fun _ _ => trivial) (fun _ h => h) hP hS 0 (c_M_no l D cI cB ad hI M n len ch sp hR (x) true (no_t hbad)) (by decide) (ci := 8) rfl rfl k_907 k_909 k_p30 k_9 k_910 1 rfl (by decide +kernel) (by decide) rfl hl.1 (Nat.le_of_ble_eq_true rfl) d_M_apart_3 (fun v M' H locs hq hP _ _ hS => ?_)
  obtain ⟨rfl, rfl⟩ := hq
  refine W.eq (g2 := F0 m 6 ls [.int (bI (true)), .ref (ad (0))]) rfl ?_
  refine z_ne (t := true) (tgt := 17) hx hb d_M_apart_6 (by decide) (fun _ => ?_) (fun h9 => absurd h9 (by decide))
  refine n_const (k := 1) hx hb d_M_apart_17 (by decide) ?_
  refine lv_goto (tgt := 22) hx hb d_M_apart_18 (by decide) ?_
  refine c_V (own := R_M) (index := 57) (As := [.int (nI (1))]) (rest := []) hx hb hml hown hg hK (fun _ _ _ h => h) (fun _ _ => trivial) (fun _ h => h) hP hS 0 (c_M_refuses l D cI cB ad hI M (1) (by decide)) (by decide) (ci := 8) rfl rfl k_859 k_861 k_p22 k_9 k_862 1 rfl (by decide +kernel) (by decide) rfl hl.1 (Nat.le_of_ble_eq_true rfl) d_M_apart_22 (fun v M_1 H locs hq hP _ _ hS => ?_)
  obtain ⟨rfl, eM_1⟩ := hq
  refine W.eq (g2 := F0 m 25 ls [.int (bI (true))]) rfl ?_
  refine z_eq (t := true) (tgt := 32) hx hb d_M_apart_25 (by decide) (fun h9 => absurd h9 (by decide)) (fun _ => ?_)
  refine n_const (k := 0) hx hb d_M_apart_28 (by decide) ?_
  refine lv_goto (tgt := 38) hx hb d_M_apart_29 (by decide) ?_
  exact r_i hx hb hr hlocks hP hS (⟨rfl, eM_1⟩) d_M_apart_38

set_option maxHeartbeats 4000000 in
set_option maxRecDepth 100000 in
theorem c_M_apart_1b (l : Launch) (D : va_G) (cI cB : ClassId) (ad : Nat → Nat) (hI : GI 13 ad) (M : PM) (n : Nat) (len : Nat → Nat) (ch : Nat → Nat → Nat) (sp : Nat → Option Nat) (hR : RN M n len ch sp) (a : Nat) (ha : a < n) (x : Int32) (hbad : ¬ ∃ j, j < n ∧ x = nI j) : MM l D cI cB ad y_M_apart b_M_apart 3 (some .int) 1 21 [.ref (ad (0)), .int (nI (a)), .int (x)] M (fun v M' => v = some (.int (nI 0)) ∧ M' = pu M 0 0 (nI 1)) := by
  refine MC.of (by decide) (Nat.le_of_ble_eq_true rfl) ?_
  intro p e s m below meth c ls hx hb hr hml hown hg hlocks hK hN hP hS hl
  have hown : s.vm.findClass R_M = some m.cls := hown
  have hl : lv_has ls 3 [(0, .ref (ad (0))), (1, .int (nI (a))), (2, .int (x))] := hl
  have hn60 : n ≤ 60 := hR.1
  refine lv_aload_n hx hb d_M_apart_0 rfl (lv_at hl 0 rfl) ?_
  refine lv_aload_n hx hb d_M_apart_1 rfl (lv_at hl 0 rfl) ?_
  refine lv_iload_n hx hb d_M_apart_2 rfl (lv_at hl 1 rfl) ?_
  refine c_V (own := R_M) (index := 89) (As := [.int (nI (a))]) (rest := [.ref (ad (0))]) hx hb hml hown hg hK (fun _ _ _ h => h) (fun _ _ => trivial) (fun _ h => h) hP hS 0 (c_M_no l D cI cB ad hI M n len ch sp hR (nI (a)) false (no_f (by omega))) (by decide) (ci := 8) rfl rfl k_907 k_909 k_p30 k_9 k_910 1 rfl (by decide +kernel) (by decide) rfl hl.1 (Nat.le_of_ble_eq_true rfl) d_M_apart_3 (fun v M' H locs hq hP _ _ hS => ?_)
  obtain ⟨rfl, rfl⟩ := hq
  refine W.eq (g2 := F0 m 6 ls [.int (bI (false)), .ref (ad (0))]) rfl ?_
  refine z_ne (t := false) (tgt := 17) hx hb d_M_apart_6 (by decide) (fun h9 => absurd h9 (by decide)) (fun _ => ?_)
  refine lv_aload_n hx hb d_M_apart_9 rfl (lv_at hl 0 rfl) ?_
  refine lv_iload_n hx hb d_M_apart_10 rfl (lv_at hl 2 rfl) ?_
  refine c_V (own := R_M) (index := 89) (As := [.int (x)]) (rest := [.ref (ad (0))]) hx hb hml hown hg hK (fun _ _ _ h => h) (fun _ _ => trivial) (fun _ h => h) hP hS 0 (c_M_no l D cI cB ad hI M n len ch sp hR (x) true (no_t hbad)) (by decide) (ci := 8) rfl rfl k_907 k_909 k_p30 k_9 k_910 1 rfl (by decide +kernel) (by decide) rfl hl.1 (Nat.le_of_ble_eq_true rfl) d_M_apart_11 (fun v M' H locs hq hP _ _ hS => ?_)
  obtain ⟨rfl, rfl⟩ := hq
  refine W.eq (g2 := F0 m 14 ls [.int (bI (true)), .ref (ad (0))]) rfl ?_
  refine z_eq (t := true) (tgt := 21) hx hb d_M_apart_14 (by decide) (fun h9 => absurd h9 (by decide)) (fun _ => ?_)
  refine n_const (k := 1) hx hb d_M_apart_17 (by decide) ?_
  refine lv_goto (tgt := 22) hx hb d_M_apart_18 (by decide) ?_
  refine c_V (own := R_M) (index := 57) (As := [.int (nI (1))]) (rest := []) hx hb hml hown hg hK (fun _ _ _ h => h) (fun _ _ => trivial) (fun _ h => h) hP hS 0 (c_M_refuses l D cI cB ad hI M (1) (by decide)) (by decide) (ci := 8) rfl rfl k_859 k_861 k_p22 k_9 k_862 1 rfl (by decide +kernel) (by decide) rfl hl.1 (Nat.le_of_ble_eq_true rfl) d_M_apart_22 (fun v M_1 H locs hq hP _ _ hS => ?_)
  obtain ⟨rfl, eM_1⟩ := hq
  refine W.eq (g2 := F0 m 25 ls [.int (bI (true))]) rfl ?_
  refine z_eq (t := true) (tgt := 32) hx hb d_M_apart_25 (by decide) (fun h9 => absurd h9 (by decide)) (fun _ => ?_)
  refine n_const (k := 0) hx hb d_M_apart_28 (by decide) ?_
  refine lv_goto (tgt := 38) hx hb d_M_apart_29 (by decide) ?_
  exact r_i hx hb hr hlocks hP hS (⟨rfl, eM_1⟩) d_M_apart_38

set_option maxHeartbeats 4000000 in
set_option maxRecDepth 100000 in
theorem c_M_alias_1a (l : Launch) (D : va_G) (cI cB : ClassId) (ad : Nat → Nat) (hI : GI 13 ad) (M : PM) (n : Nat) (len : Nat → Nat) (ch : Nat → Nat → Nat) (sp : Nat → Option Nat) (hR : RN M n len ch sp) (x y : Int32) (hbad : ¬ ∃ j, j < n ∧ x = nI j) : MM l D cI cB ad y_M_alias b_M_alias 3 (some .boolean) 1 21 [.ref (ad (0)), .int (x), .int (y)] M (fun v M' => v = some (.int (nI 0)) ∧ M' = pu M 0 0 (nI 1)) := by
  refine MC.of (by decide) (Nat.le_of_ble_eq_true rfl) ?_
  intro p e s m below meth c ls hx hb hr hml hown hg hlocks hK hN hP hS hl
  have hown : s.vm.findClass R_M = some m.cls := hown
  have hl : lv_has ls 3 [(0, .ref (ad (0))), (1, .int (x)), (2, .int (y))] := hl
  have hn60 : n ≤ 60 := hR.1
  refine lv_aload_n hx hb d_M_alias_0 rfl (lv_at hl 0 rfl) ?_
  refine lv_aload_n hx hb d_M_alias_1 rfl (lv_at hl 0 rfl) ?_
  refine lv_iload_n hx hb d_M_alias_2 rfl (lv_at hl 1 rfl) ?_
  refine c_V (own := R_M) (index := 89) (As := [.int (x)]) (rest := [.ref (ad (0))]) hx hb hml hown hg hK (fun _ _ _ h => h) (fun _ _ => trivial) (fun _ h => h) hP hS 0 (c_M_no l D cI cB ad hI M n len ch sp hR (x) true (no_t hbad)) (by decide) (ci := 8) rfl rfl k_907 k_909 k_p30 k_9 k_910 1 rfl (by decide +kernel) (by decide) rfl hl.1 (Nat.le_of_ble_eq_true rfl) d_M_alias_3 (fun v M' H locs hq hP _ _ hS => ?_)
  obtain ⟨rfl, rfl⟩ := hq
  refine W.eq (g2 := F0 m 6 ls [.int (bI (true)), .ref (ad (0))]) rfl ?_
  refine z_ne (t := true) (tgt := 17) hx hb d_M_alias_6 (by decide) (fun _ => ?_) (fun h9 => absurd h9 (by decide))
  refine n_const (k := 1) hx hb d_M_alias_17 (by decide) ?_
  refine lv_goto (tgt := 22) hx hb d_M_alias_18 (by decide) ?_
  refine c_V (own := R_M) (index := 57) (As := [.int (nI (1))]) (rest := []) hx hb hml hown hg hK (fun _ _ _ h => h) (fun _ _ => trivial) (fun _ h => h) hP hS 0 (c_M_refuses l D cI cB ad hI M (1) (by decide)) (by decide) (ci := 8) rfl rfl k_859 k_861 k_p22 k_9 k_862 1 rfl (by decide +kernel) (by decide) rfl hl.1 (Nat.le_of_ble_eq_true rfl) d_M_alias_22 (fun v M_1 H locs hq hP _ _ hS => ?_)
  obtain ⟨rfl, eM_1⟩ := hq
  refine W.eq (g2 := F0 m 25 ls [.int (bI (true))]) rfl ?_
  refine z_eq (t := true) (tgt := 30) hx hb d_M_alias_25 (by decide) (fun h9 => absurd h9 (by decide)) (fun _ => ?_)
  refine n_const (k := 0) hx hb d_M_alias_28 (by decide) ?_
  exact r_z hx hb hr hlocks (rfl) hP hS (⟨rfl, eM_1⟩) d_M_alias_29

set_option maxHeartbeats 4000000 in
set_option maxRecDepth 100000 in
theorem c_M_alias_1b (l : Launch) (D : va_G) (cI cB : ClassId) (ad : Nat → Nat) (hI : GI 13 ad) (M : PM) (n : Nat) (len : Nat → Nat) (ch : Nat → Nat → Nat) (sp : Nat → Option Nat) (hR : RN M n len ch sp) (a : Nat) (ha : a < n) (x : Int32) (hbad : ¬ ∃ j, j < n ∧ x = nI j) : MM l D cI cB ad y_M_alias b_M_alias 3 (some .boolean) 1 21 [.ref (ad (0)), .int (nI (a)), .int (x)] M (fun v M' => v = some (.int (nI 0)) ∧ M' = pu M 0 0 (nI 1)) := by
  refine MC.of (by decide) (Nat.le_of_ble_eq_true rfl) ?_
  intro p e s m below meth c ls hx hb hr hml hown hg hlocks hK hN hP hS hl
  have hown : s.vm.findClass R_M = some m.cls := hown
  have hl : lv_has ls 3 [(0, .ref (ad (0))), (1, .int (nI (a))), (2, .int (x))] := hl
  have hn60 : n ≤ 60 := hR.1
  refine lv_aload_n hx hb d_M_alias_0 rfl (lv_at hl 0 rfl) ?_
  refine lv_aload_n hx hb d_M_alias_1 rfl (lv_at hl 0 rfl) ?_
  refine lv_iload_n hx hb d_M_alias_2 rfl (lv_at hl 1 rfl) ?_
  refine c_V (own := R_M) (index := 89) (As := [.int (nI (a))]) (rest := [.ref (ad (0))]) hx hb hml hown hg hK (fun _ _ _ h => h) (fun _ _ => trivial) (fun _ h => h) hP hS 0 (c_M_no l D cI cB ad hI M n len ch sp hR (nI (a)) false (no_f (by omega))) (by decide) (ci := 8) rfl rfl k_907 k_909 k_p30 k_9 k_910 1 rfl (by decide +kernel) (by decide) rfl hl.1 (Nat.le_of_ble_eq_true rfl) d_M_alias_3 (fun v M' H locs hq hP _ _ hS => ?_)
  obtain ⟨rfl, rfl⟩ := hq
  refine W.eq (g2 := F0 m 6 ls [.int (bI (false)), .ref (ad (0))]) rfl ?_
  refine z_ne (t := false) (tgt := 17) hx hb d_M_alias_6 (by decide) (fun h9 => absurd h9 (by decide)) (fun _ => ?_)
  refine lv_aload_n hx hb d_M_alias_9 rfl (lv_at hl 0 rfl) ?_
  refine lv_iload_n hx hb d_M_alias_10 rfl (lv_at hl 2 rfl) ?_
  refine c_V (own := R_M) (index := 89) (As := [.int (x)]) (rest := [.ref (ad (0))]) hx hb hml hown hg hK (fun _ _ _ h => h) (fun _ _ => trivial) (fun _ h => h) hP hS 0 (c_M_no l D cI cB ad hI M n len ch sp hR (x) true (no_t hbad)) (by decide) (ci := 8) rfl rfl k_907 k_909 k_p30 k_9 k_910 1 rfl (by decide +kernel) (by decide) rfl hl.1 (Nat.le_of_ble_eq_true rfl) d_M_alias_11 (fun v M' H locs hq hP _ _ hS => ?_)
  obtain ⟨rfl, rfl⟩ := hq
  refine W.eq (g2 := F0 m 14 ls [.int (bI (true)), .ref (ad (0))]) rfl ?_
  refine z_eq (t := true) (tgt := 21) hx hb d_M_alias_14 (by decide) (fun h9 => absurd h9 (by decide)) (fun _ => ?_)
  refine n_const (k := 1) hx hb d_M_alias_17 (by decide) ?_
  refine lv_goto (tgt := 22) hx hb d_M_alias_18 (by decide) ?_
  refine c_V (own := R_M) (index := 57) (As := [.int (nI (1))]) (rest := []) hx hb hml hown hg hK (fun _ _ _ h => h) (fun _ _ => trivial) (fun _ h => h) hP hS 0 (c_M_refuses l D cI cB ad hI M (1) (by decide)) (by decide) (ci := 8) rfl rfl k_859 k_861 k_p22 k_9 k_862 1 rfl (by decide +kernel) (by decide) rfl hl.1 (Nat.le_of_ble_eq_true rfl) d_M_alias_22 (fun v M_1 H locs hq hP _ _ hS => ?_)
  obtain ⟨rfl, eM_1⟩ := hq
  refine W.eq (g2 := F0 m 25 ls [.int (bI (true))]) rfl ?_
  refine z_eq (t := true) (tgt := 30) hx hb d_M_alias_25 (by decide) (fun h9 => absurd h9 (by decide)) (fun _ => ?_)
  refine n_const (k := 0) hx hb d_M_alias_28 (by decide) ?_
  exact r_z hx hb hr hlocks (rfl) hP hS (⟨rfl, eM_1⟩) d_M_alias_29

set_option maxHeartbeats 4000000 in
set_option maxRecDepth 100000 in
theorem c_M_rename_1a (l : Launch) (D : va_G) (cI cB : ClassId) (ad : Nat → Nat) (hI : GI 13 ad) (M : PM) (n : Nat) (len : Nat → Nat) (ch : Nat → Nat → Nat) (sp : Nat → Option Nat) (hR : RN M n len ch sp) (x y : Int32) (hbad : ¬ ∃ j, j < n ∧ x = nI j) : MM l D cI cB ad y_M_rename b_M_rename 5 (some .int) 1 21 [.ref (ad (0)), .int (x), .int (y)] M (fun v M' => v = some (.int (nI 0)) ∧ M' = pu M 0 0 (nI 1)) := by
  refine MC.of (by decide) (Nat.le_of_ble_eq_true rfl) ?_
  intro p e s m below meth c ls hx hb hr hml hown hg hlocks hK hN hP hS hl
  have hown : s.vm.findClass R_M = some m.cls := hown
  have hl : lv_has ls 5 [(0, .ref (ad (0))), (1, .int (x)), (2, .int (y))] := hl
  have hn60 : n ≤ 60 := hR.1
  refine lv_aload_n hx hb d_M_rename_0 rfl (lv_at hl 0 rfl) ?_
  refine lv_aload_n hx hb d_M_rename_1 rfl (lv_at hl 0 rfl) ?_
  refine lv_iload_n hx hb d_M_rename_2 rfl (lv_at hl 1 rfl) ?_
  refine c_V (own := R_M) (index := 89) (As := [.int (x)]) (rest := [.ref (ad (0))]) hx hb hml hown hg hK (fun _ _ _ h => h) (fun _ _ => trivial) (fun _ h => h) hP hS 0 (c_M_no l D cI cB ad hI M n len ch sp hR (x) true (no_t hbad)) (by decide) (ci := 8) rfl rfl k_907 k_909 k_p30 k_9 k_910 1 rfl (by decide +kernel) (by decide) rfl hl.1 (Nat.le_of_ble_eq_true rfl) d_M_rename_3 (fun v M' H locs hq hP _ _ hS => ?_)
  obtain ⟨rfl, rfl⟩ := hq
  refine W.eq (g2 := F0 m 6 ls [.int (bI (true)), .ref (ad (0))]) rfl ?_
  refine z_ne (t := true) (tgt := 17) hx hb d_M_rename_6 (by decide) (fun _ => ?_) (fun h9 => absurd h9 (by decide))
  refine n_const (k := 1) hx hb d_M_rename_17 (by decide) ?_
  refine lv_goto (tgt := 31) hx hb d_M_rename_18 (by decide) ?_
  refine c_V (own := R_M) (index := 57) (As := [.int (nI (1))]) (rest := []) hx hb hml hown hg hK (fun _ _ _ h => h) (fun _ _ => trivial) (fun _ h => h) hP hS 0 (c_M_refuses l D cI cB ad hI M (1) (by decide)) (by decide) (ci := 8) rfl rfl k_859 k_861 k_p22 k_9 k_862 1 rfl (by decide +kernel) (by decide) rfl hl.1 (Nat.le_of_ble_eq_true rfl) d_M_rename_31 (fun v M_1 H locs hq hP _ _ hS => ?_)
  obtain ⟨rfl, eM_1⟩ := hq
  refine W.eq (g2 := F0 m 34 ls [.int (bI (true))]) rfl ?_
  refine z_eq (t := true) (tgt := 39) hx hb d_M_rename_34 (by decide) (fun h9 => absurd h9 (by decide)) (fun _ => ?_)
  refine n_const (k := 0) hx hb d_M_rename_37 (by decide) ?_
  exact r_i hx hb hr hlocks hP hS (⟨rfl, eM_1⟩) d_M_rename_38

set_option maxHeartbeats 4000000 in
set_option maxRecDepth 100000 in
theorem c_M_rename_1b (l : Launch) (D : va_G) (cI cB : ClassId) (ad : Nat → Nat) (hI : GI 13 ad) (M : PM) (n : Nat) (len : Nat → Nat) (ch : Nat → Nat → Nat) (sp : Nat → Option Nat) (hR : RN M n len ch sp) (a : Nat) (ha : a < n) (x : Int32) (hbad : ¬ ∃ j, j < n ∧ x = nI j) : MM l D cI cB ad y_M_rename b_M_rename 5 (some .int) 1 21 [.ref (ad (0)), .int (nI (a)), .int (x)] M (fun v M' => v = some (.int (nI 0)) ∧ M' = pu M 0 0 (nI 1)) := by
  refine MC.of (by decide) (Nat.le_of_ble_eq_true rfl) ?_
  intro p e s m below meth c ls hx hb hr hml hown hg hlocks hK hN hP hS hl
  have hown : s.vm.findClass R_M = some m.cls := hown
  have hl : lv_has ls 5 [(0, .ref (ad (0))), (1, .int (nI (a))), (2, .int (x))] := hl
  have hn60 : n ≤ 60 := hR.1
  refine lv_aload_n hx hb d_M_rename_0 rfl (lv_at hl 0 rfl) ?_
  refine lv_aload_n hx hb d_M_rename_1 rfl (lv_at hl 0 rfl) ?_
  refine lv_iload_n hx hb d_M_rename_2 rfl (lv_at hl 1 rfl) ?_
  refine c_V (own := R_M) (index := 89) (As := [.int (nI (a))]) (rest := [.ref (ad (0))]) hx hb hml hown hg hK (fun _ _ _ h => h) (fun _ _ => trivial) (fun _ h => h) hP hS 0 (c_M_no l D cI cB ad hI M n len ch sp hR (nI (a)) false (no_f (by omega))) (by decide) (ci := 8) rfl rfl k_907 k_909 k_p30 k_9 k_910 1 rfl (by decide +kernel) (by decide) rfl hl.1 (Nat.le_of_ble_eq_true rfl) d_M_rename_3 (fun v M' H locs hq hP _ _ hS => ?_)
  obtain ⟨rfl, rfl⟩ := hq
  refine W.eq (g2 := F0 m 6 ls [.int (bI (false)), .ref (ad (0))]) rfl ?_
  refine z_ne (t := false) (tgt := 17) hx hb d_M_rename_6 (by decide) (fun h9 => absurd h9 (by decide)) (fun _ => ?_)
  refine lv_aload_n hx hb d_M_rename_9 rfl (lv_at hl 0 rfl) ?_
  refine lv_iload_n hx hb d_M_rename_10 rfl (lv_at hl 2 rfl) ?_
  refine c_V (own := R_M) (index := 89) (As := [.int (x)]) (rest := [.ref (ad (0))]) hx hb hml hown hg hK (fun _ _ _ h => h) (fun _ _ => trivial) (fun _ h => h) hP hS 0 (c_M_no l D cI cB ad hI M n len ch sp hR (x) true (no_t hbad)) (by decide) (ci := 8) rfl rfl k_907 k_909 k_p30 k_9 k_910 1 rfl (by decide +kernel) (by decide) rfl hl.1 (Nat.le_of_ble_eq_true rfl) d_M_rename_11 (fun v M' H locs hq hP _ _ hS => ?_)
  obtain ⟨rfl, rfl⟩ := hq
  refine W.eq (g2 := F0 m 14 ls [.int (bI (true)), .ref (ad (0))]) rfl ?_
  refine z_eq (t := true) (tgt := 21) hx hb d_M_rename_14 (by decide) (fun h9 => absurd h9 (by decide)) (fun _ => ?_)
  refine n_const (k := 1) hx hb d_M_rename_17 (by decide) ?_
  refine lv_goto (tgt := 31) hx hb d_M_rename_18 (by decide) ?_
  refine c_V (own := R_M) (index := 57) (As := [.int (nI (1))]) (rest := []) hx hb hml hown hg hK (fun _ _ _ h => h) (fun _ _ => trivial) (fun _ h => h) hP hS 0 (c_M_refuses l D cI cB ad hI M (1) (by decide)) (by decide) (ci := 8) rfl rfl k_859 k_861 k_p22 k_9 k_862 1 rfl (by decide +kernel) (by decide) rfl hl.1 (Nat.le_of_ble_eq_true rfl) d_M_rename_31 (fun v M_1 H locs hq hP _ _ hS => ?_)
  obtain ⟨rfl, eM_1⟩ := hq
  refine W.eq (g2 := F0 m 34 ls [.int (bI (true))]) rfl ?_
  refine z_eq (t := true) (tgt := 39) hx hb d_M_rename_34 (by decide) (fun h9 => absurd h9 (by decide)) (fun _ => ?_)
  refine n_const (k := 0) hx hb d_M_rename_37 (by decide) ?_
  exact r_i hx hb hr hlocks hP hS (⟨rfl, eM_1⟩) d_M_rename_38

set_option maxHeartbeats 4000000 in
set_option maxRecDepth 100000 in
theorem c_M_document_1a (l : Launch) (D : va_G) (cI cB : ClassId) (ad : Nat → Nat) (hI : GI 13 ad) (M : PM) (n : Nat) (len : Nat → Nat) (ch : Nat → Nat → Nat) (sp : Nat → Option Nat) (hR : RN M n len ch sp) (x y : Int32) (hbad : ¬ ∃ j, j < n ∧ x = nI j) : MM l D cI cB ad y_M_document b_M_document 6 (some .int) 1 21 [.ref (ad (0)), .int (x), .int (y)] M (fun v M' => v = some (.int (nI 0)) ∧ M' = pu M 0 0 (nI 1)) := by
  refine MC.of (by decide) (Nat.le_of_ble_eq_true rfl) ?_
  intro p e s m below meth c ls hx hb hr hml hown hg hlocks hK hN hP hS hl
  have hown : s.vm.findClass R_M = some m.cls := hown
  have hl : lv_has ls 6 [(0, .ref (ad (0))), (1, .int (x)), (2, .int (y))] := hl
  have hn60 : n ≤ 60 := hR.1
  refine lv_aload_n hx hb d_M_document_0 rfl (lv_at hl 0 rfl) ?_
  refine lv_aload_n hx hb d_M_document_1 rfl (lv_at hl 0 rfl) ?_
  refine lv_iload_n hx hb d_M_document_2 rfl (lv_at hl 1 rfl) ?_
  refine c_V (own := R_M) (index := 89) (As := [.int (x)]) (rest := [.ref (ad (0))]) hx hb hml hown hg hK (fun _ _ _ h => h) (fun _ _ => trivial) (fun _ h => h) hP hS 0 (c_M_no l D cI cB ad hI M n len ch sp hR (x) true (no_t hbad)) (by decide) (ci := 8) rfl rfl k_907 k_909 k_p30 k_9 k_910 1 rfl (by decide +kernel) (by decide) rfl hl.1 (Nat.le_of_ble_eq_true rfl) d_M_document_3 (fun v M' H locs hq hP _ _ hS => ?_)
  obtain ⟨rfl, rfl⟩ := hq
  refine W.eq (g2 := F0 m 6 ls [.int (bI (true)), .ref (ad (0))]) rfl ?_
  refine z_ne (t := true) (tgt := 13) hx hb d_M_document_6 (by decide) (fun _ => ?_) (fun h9 => absurd h9 (by decide))
  refine n_const (k := 1) hx hb d_M_document_13 (by decide) ?_
  refine lv_goto (tgt := 18) hx hb d_M_document_14 (by decide) ?_
  refine c_V (own := R_M) (index := 57) (As := [.int (nI (1))]) (rest := []) hx hb hml hown hg hK (fun _ _ _ h => h) (fun _ _ => trivial) (fun _ h => h) hP hS 0 (c_M_refuses l D cI cB ad hI M (1) (by decide)) (by decide) (ci := 8) rfl rfl k_859 k_861 k_p22 k_9 k_862 1 rfl (by decide +kernel) (by decide) rfl hl.1 (Nat.le_of_ble_eq_true rfl) d_M_document_18 (fun v M_1 H locs hq hP _ _ hS => ?_)
  obtain ⟨rfl, eM_1⟩ := hq
  refine W.eq (g2 := F0 m 21 ls [.int (bI (true))]) rfl ?_
  refine z_eq (t := true) (tgt := 26) hx hb d_M_document_21 (by decide) (fun h9 => absurd h9 (by decide)) (fun _ => ?_)
  refine n_const (k := 0) hx hb d_M_document_24 (by decide) ?_
  exact r_i hx hb hr hlocks hP hS (⟨rfl, eM_1⟩) d_M_document_25

set_option maxHeartbeats 4000000 in
set_option maxRecDepth 100000 in
theorem c_M_document_1b (l : Launch) (D : va_G) (cI cB : ClassId) (ad : Nat → Nat) (hI : GI 13 ad) (M : PM) (n : Nat) (len : Nat → Nat) (ch : Nat → Nat → Nat) (sp : Nat → Option Nat) (hR : RN M n len ch sp) (a : Nat) (ha : a < n) (x : Int32) (hneg : x < 0) : MM l D cI cB ad y_M_document b_M_document 6 (some .int) 1 21 [.ref (ad (0)), .int (nI (a)), .int (x)] M (fun v M' => v = some (.int (nI 0)) ∧ M' = pu M 0 0 (nI 1)) := by
  refine MC.of (by decide) (Nat.le_of_ble_eq_true rfl) ?_
  intro p e s m below meth c ls hx hb hr hml hown hg hlocks hK hN hP hS hl
  have hown : s.vm.findClass R_M = some m.cls := hown
  have hl : lv_has ls 6 [(0, .ref (ad (0))), (1, .int (nI (a))), (2, .int (x))] := hl
  have hn60 : n ≤ 60 := hR.1
  refine lv_aload_n hx hb d_M_document_0 rfl (lv_at hl 0 rfl) ?_
  refine lv_aload_n hx hb d_M_document_1 rfl (lv_at hl 0 rfl) ?_
  refine lv_iload_n hx hb d_M_document_2 rfl (lv_at hl 1 rfl) ?_
  refine c_V (own := R_M) (index := 89) (As := [.int (nI (a))]) (rest := [.ref (ad (0))]) hx hb hml hown hg hK (fun _ _ _ h => h) (fun _ _ => trivial) (fun _ h => h) hP hS 0 (c_M_no l D cI cB ad hI M n len ch sp hR (nI (a)) false (no_f (by omega))) (by decide) (ci := 8) rfl rfl k_907 k_909 k_p30 k_9 k_910 1 rfl (by decide +kernel) (by decide) rfl hl.1 (Nat.le_of_ble_eq_true rfl) d_M_document_3 (fun v M' H locs hq hP _ _ hS => ?_)
  obtain ⟨rfl, rfl⟩ := hq
  refine W.eq (g2 := F0 m 6 ls [.int (bI (false)), .ref (ad (0))]) rfl ?_
  refine z_ne (t := false) (tgt := 13) hx hb d_M_document_6 (by decide) (fun h9 => absurd h9 (by decide)) (fun _ => ?_)
  refine lv_iload_n hx hb d_M_document_9 rfl (lv_at hl 2 rfl) ?_
  refine lv_if_ge (tgt := 17) hx hb d_M_document_10 (by decide) (fun c_10 => ?_) (fun c_10 => ?_)
  · exact absurd c_10 (Int32.not_le.mpr hneg)
  · refine n_const (k := 1) hx hb d_M_document_13 (by decide) ?_
    refine lv_goto (tgt := 18) hx hb d_M_document_14 (by decide) ?_
    refine c_V (own := R_M) (index := 57) (As := [.int (nI (1))]) (rest := []) hx hb hml hown hg hK (fun _ _ _ h => h) (fun _ _ => trivial) (fun _ h => h) hP hS 0 (c_M_refuses l D cI cB ad hI M (1) (by decide)) (by decide) (ci := 8) rfl rfl k_859 k_861 k_p22 k_9 k_862 1 rfl (by decide +kernel) (by decide) rfl hl.1 (Nat.le_of_ble_eq_true rfl) d_M_document_18 (fun v M_1 H locs hq hP _ _ hS => ?_)
    obtain ⟨rfl, eM_1⟩ := hq
    refine W.eq (g2 := F0 m 21 ls [.int (bI (true))]) rfl ?_
    refine z_eq (t := true) (tgt := 26) hx hb d_M_document_21 (by decide) (fun h9 => absurd h9 (by decide)) (fun _ => ?_)
    refine n_const (k := 0) hx hb d_M_document_24 (by decide) ?_
    exact r_i hx hb hr hlocks hP hS (⟨rfl, eM_1⟩) d_M_document_25

set_option maxHeartbeats 4000000 in
set_option maxRecDepth 100000 in
theorem c_M_near_1a (l : Launch) (D : va_G) (cI cB : ClassId) (ad : Nat → Nat) (hI : GI 13 ad) (M : PM) (n : Nat) (len : Nat → Nat) (ch : Nat → Nat → Nat) (sp : Nat → Option Nat) (hR : RN M n len ch sp) (x y : Int32) (hbad : ¬ ∃ j, j < n ∧ x = nI j) : MM l D cI cB ad y_M_near b_M_near 6 (some .int) 1 21 [.ref (ad (0)), .int (x), .int (y)] M (fun v M' => v = some (.int (nI 0)) ∧ M' = pu M 0 0 (nI 1)) := by
  refine MC.of (by decide) (Nat.le_of_ble_eq_true rfl) ?_
  intro p e s m below meth c ls hx hb hr hml hown hg hlocks hK hN hP hS hl
  have hown : s.vm.findClass R_M = some m.cls := hown
  have hl : lv_has ls 6 [(0, .ref (ad (0))), (1, .int (x)), (2, .int (y))] := hl
  have hn60 : n ≤ 60 := hR.1
  refine lv_aload_n hx hb d_M_near_0 rfl (lv_at hl 0 rfl) ?_
  refine lv_aload_n hx hb d_M_near_1 rfl (lv_at hl 0 rfl) ?_
  refine lv_iload_n hx hb d_M_near_2 rfl (lv_at hl 1 rfl) ?_
  refine c_V (own := R_M) (index := 89) (As := [.int (x)]) (rest := [.ref (ad (0))]) hx hb hml hown hg hK (fun _ _ _ h => h) (fun _ _ => trivial) (fun _ h => h) hP hS 0 (c_M_no l D cI cB ad hI M n len ch sp hR (x) true (no_t hbad)) (by decide) (ci := 8) rfl rfl k_907 k_909 k_p30 k_9 k_910 1 rfl (by decide +kernel) (by decide) rfl hl.1 (Nat.le_of_ble_eq_true rfl) d_M_near_3 (fun v M' H locs hq hP _ _ hS => ?_)
  obtain ⟨rfl, rfl⟩ := hq
  refine W.eq (g2 := F0 m 6 ls [.int (bI (true)), .ref (ad (0))]) rfl ?_
  refine z_ne (t := true) (tgt := 13) hx hb d_M_near_6 (by decide) (fun _ => ?_) (fun h9 => absurd h9 (by decide))
  refine n_const (k := 1) hx hb d_M_near_13 (by decide) ?_
  refine lv_goto (tgt := 18) hx hb d_M_near_14 (by decide) ?_
  refine c_V (own := R_M) (index := 57) (As := [.int (nI (1))]) (rest := []) hx hb hml hown hg hK (fun _ _ _ h => h) (fun _ _ => trivial) (fun _ h => h) hP hS 0 (c_M_refuses l D cI cB ad hI M (1) (by decide)) (by decide) (ci := 8) rfl rfl k_859 k_861 k_p22 k_9 k_862 1 rfl (by decide +kernel) (by decide) rfl hl.1 (Nat.le_of_ble_eq_true rfl) d_M_near_18 (fun v M_1 H locs hq hP _ _ hS => ?_)
  obtain ⟨rfl, eM_1⟩ := hq
  refine W.eq (g2 := F0 m 21 ls [.int (bI (true))]) rfl ?_
  refine z_eq (t := true) (tgt := 26) hx hb d_M_near_21 (by decide) (fun h9 => absurd h9 (by decide)) (fun _ => ?_)
  refine n_const (k := 0) hx hb d_M_near_24 (by decide) ?_
  exact r_i hx hb hr hlocks hP hS (⟨rfl, eM_1⟩) d_M_near_25

set_option maxHeartbeats 4000000 in
set_option maxRecDepth 100000 in
theorem c_M_near_1b (l : Launch) (D : va_G) (cI cB : ClassId) (ad : Nat → Nat) (hI : GI 13 ad) (M : PM) (n : Nat) (len : Nat → Nat) (ch : Nat → Nat → Nat) (sp : Nat → Option Nat) (hR : RN M n len ch sp) (a : Nat) (ha : a < n) (x : Int32) (hneg : x < 0) : MM l D cI cB ad y_M_near b_M_near 6 (some .int) 1 21 [.ref (ad (0)), .int (nI (a)), .int (x)] M (fun v M' => v = some (.int (nI 0)) ∧ M' = pu M 0 0 (nI 1)) := by
  refine MC.of (by decide) (Nat.le_of_ble_eq_true rfl) ?_
  intro p e s m below meth c ls hx hb hr hml hown hg hlocks hK hN hP hS hl
  have hown : s.vm.findClass R_M = some m.cls := hown
  have hl : lv_has ls 6 [(0, .ref (ad (0))), (1, .int (nI (a))), (2, .int (x))] := hl
  have hn60 : n ≤ 60 := hR.1
  refine lv_aload_n hx hb d_M_near_0 rfl (lv_at hl 0 rfl) ?_
  refine lv_aload_n hx hb d_M_near_1 rfl (lv_at hl 0 rfl) ?_
  refine lv_iload_n hx hb d_M_near_2 rfl (lv_at hl 1 rfl) ?_
  refine c_V (own := R_M) (index := 89) (As := [.int (nI (a))]) (rest := [.ref (ad (0))]) hx hb hml hown hg hK (fun _ _ _ h => h) (fun _ _ => trivial) (fun _ h => h) hP hS 0 (c_M_no l D cI cB ad hI M n len ch sp hR (nI (a)) false (no_f (by omega))) (by decide) (ci := 8) rfl rfl k_907 k_909 k_p30 k_9 k_910 1 rfl (by decide +kernel) (by decide) rfl hl.1 (Nat.le_of_ble_eq_true rfl) d_M_near_3 (fun v M' H locs hq hP _ _ hS => ?_)
  obtain ⟨rfl, rfl⟩ := hq
  refine W.eq (g2 := F0 m 6 ls [.int (bI (false)), .ref (ad (0))]) rfl ?_
  refine z_ne (t := false) (tgt := 13) hx hb d_M_near_6 (by decide) (fun h9 => absurd h9 (by decide)) (fun _ => ?_)
  refine lv_iload_n hx hb d_M_near_9 rfl (lv_at hl 2 rfl) ?_
  refine lv_if_ge (tgt := 17) hx hb d_M_near_10 (by decide) (fun c_10 => ?_) (fun c_10 => ?_)
  · exact absurd c_10 (Int32.not_le.mpr hneg)
  · refine n_const (k := 1) hx hb d_M_near_13 (by decide) ?_
    refine lv_goto (tgt := 18) hx hb d_M_near_14 (by decide) ?_
    refine c_V (own := R_M) (index := 57) (As := [.int (nI (1))]) (rest := []) hx hb hml hown hg hK (fun _ _ _ h => h) (fun _ _ => trivial) (fun _ h => h) hP hS 0 (c_M_refuses l D cI cB ad hI M (1) (by decide)) (by decide) (ci := 8) rfl rfl k_859 k_861 k_p22 k_9 k_862 1 rfl (by decide +kernel) (by decide) rfl hl.1 (Nat.le_of_ble_eq_true rfl) d_M_near_18 (fun v M_1 H locs hq hP _ _ hS => ?_)
    obtain ⟨rfl, eM_1⟩ := hq
    refine W.eq (g2 := F0 m 21 ls [.int (bI (true))]) rfl ?_
    refine z_eq (t := true) (tgt := 26) hx hb d_M_near_21 (by decide) (fun h9 => absurd h9 (by decide)) (fun _ => ?_)
    refine n_const (k := 0) hx hb d_M_near_24 (by decide) ?_
    exact r_i hx hb hr hlocks hP hS (⟨rfl, eM_1⟩) d_M_near_25

set_option maxHeartbeats 4000000 in
set_option maxRecDepth 100000 in
theorem c_M_join_1a (l : Launch) (D : va_G) (cI cB : ClassId) (ad : Nat → Nat) (hI : GI 13 ad) (M : PM) (n : Nat) (len : Nat → Nat) (ch : Nat → Nat → Nat) (sp : Nat → Option Nat) (hR : RN M n len ch sp) (x y : Int32) (hbad : ¬ ∃ j, j < n ∧ x = nI j) (z : Int32) : MM l D cI cB ad y_M_join b_M_join 6 (some .int) 1 21 [.ref (ad (0)), .int (x), .int (y), .int (z)] M (fun v M' => v = some (.int (nI 0)) ∧ M' = pu M 0 0 (nI 1)) := by
  refine MC.of (by decide) (Nat.le_of_ble_eq_true rfl) ?_
  intro p e s m below meth c ls hx hb hr hml hown hg hlocks hK hN hP hS hl
  have hown : s.vm.findClass R_M = some m.cls := hown
  have hl : lv_has ls 6 [(0, .ref (ad (0))), (1, .int (x)), (2, .int (y)), (3, .int (z))] := hl
  have hn60 : n ≤ 60 := hR.1
  refine lv_aload_n hx hb d_M_join_0 rfl (lv_at hl 0 rfl) ?_
  refine lv_aload_n hx hb d_M_join_1 rfl (lv_at hl 0 rfl) ?_
  refine lv_iload_n hx hb d_M_join_2 rfl (lv_at hl 1 rfl) ?_
  refine c_V (own := R_M) (index := 89) (As := [.int (x)]) (rest := [.ref (ad (0))]) hx hb hml hown hg hK (fun _ _ _ h => h) (fun _ _ => trivial) (fun _ h => h) hP hS 0 (c_M_no l D cI cB ad hI M n len ch sp hR (x) true (no_t hbad)) (by decide) (ci := 8) rfl rfl k_907 k_909 k_p30 k_9 k_910 1 rfl (by decide +kernel) (by decide) rfl hl.1 (Nat.le_of_ble_eq_true rfl) d_M_join_3 (fun v M' H locs hq hP _ _ hS => ?_)
  obtain ⟨rfl, rfl⟩ := hq
  refine W.eq (g2 := F0 m 6 ls [.int (bI (true)), .ref (ad (0))]) rfl ?_
  refine z_ne (t := true) (tgt := 17) hx hb d_M_join_6 (by decide) (fun _ => ?_) (fun h9 => absurd h9 (by decide))
  refine n_const (k := 1) hx hb d_M_join_17 (by decide) ?_
  refine lv_goto (tgt := 35) hx hb d_M_join_18 (by decide) ?_
  refine c_V (own := R_M) (index := 57) (As := [.int (nI (1))]) (rest := []) hx hb hml hown hg hK (fun _ _ _ h => h) (fun _ _ => trivial) (fun _ h => h) hP hS 0 (c_M_refuses l D cI cB ad hI M (1) (by decide)) (by decide) (ci := 8) rfl rfl k_859 k_861 k_p22 k_9 k_862 1 rfl (by decide +kernel) (by decide) rfl hl.1 (Nat.le_of_ble_eq_true rfl) d_M_join_35 (fun v M_1 H locs hq hP _ _ hS => ?_)
  obtain ⟨rfl, eM_1⟩ := hq
  refine W.eq (g2 := F0 m 38 ls [.int (bI (true))]) rfl ?_
  refine z_eq (t := true) (tgt := 43) hx hb d_M_join_38 (by decide) (fun h9 => absurd h9 (by decide)) (fun _ => ?_)
  refine n_const (k := 0) hx hb d_M_join_41 (by decide) ?_
  exact r_i hx hb hr hlocks hP hS (⟨rfl, eM_1⟩) d_M_join_42

set_option maxHeartbeats 4000000 in
set_option maxRecDepth 100000 in
theorem c_M_join_1b (l : Launch) (D : va_G) (cI cB : ClassId) (ad : Nat → Nat) (hI : GI 13 ad) (M : PM) (n : Nat) (len : Nat → Nat) (ch : Nat → Nat → Nat) (sp : Nat → Option Nat) (hR : RN M n len ch sp) (a : Nat) (ha : a < n) (x : Int32) (hbad : ¬ ∃ j, j < n ∧ x = nI j) (z : Int32) : MM l D cI cB ad y_M_join b_M_join 6 (some .int) 1 21 [.ref (ad (0)), .int (nI (a)), .int (x), .int (z)] M (fun v M' => v = some (.int (nI 0)) ∧ M' = pu M 0 0 (nI 1)) := by
  refine MC.of (by decide) (Nat.le_of_ble_eq_true rfl) ?_
  intro p e s m below meth c ls hx hb hr hml hown hg hlocks hK hN hP hS hl
  have hown : s.vm.findClass R_M = some m.cls := hown
  have hl : lv_has ls 6 [(0, .ref (ad (0))), (1, .int (nI (a))), (2, .int (x)), (3, .int (z))] := hl
  have hn60 : n ≤ 60 := hR.1
  refine lv_aload_n hx hb d_M_join_0 rfl (lv_at hl 0 rfl) ?_
  refine lv_aload_n hx hb d_M_join_1 rfl (lv_at hl 0 rfl) ?_
  refine lv_iload_n hx hb d_M_join_2 rfl (lv_at hl 1 rfl) ?_
  refine c_V (own := R_M) (index := 89) (As := [.int (nI (a))]) (rest := [.ref (ad (0))]) hx hb hml hown hg hK (fun _ _ _ h => h) (fun _ _ => trivial) (fun _ h => h) hP hS 0 (c_M_no l D cI cB ad hI M n len ch sp hR (nI (a)) false (no_f (by omega))) (by decide) (ci := 8) rfl rfl k_907 k_909 k_p30 k_9 k_910 1 rfl (by decide +kernel) (by decide) rfl hl.1 (Nat.le_of_ble_eq_true rfl) d_M_join_3 (fun v M' H locs hq hP _ _ hS => ?_)
  obtain ⟨rfl, rfl⟩ := hq
  refine W.eq (g2 := F0 m 6 ls [.int (bI (false)), .ref (ad (0))]) rfl ?_
  refine z_ne (t := false) (tgt := 17) hx hb d_M_join_6 (by decide) (fun h9 => absurd h9 (by decide)) (fun _ => ?_)
  refine lv_aload_n hx hb d_M_join_9 rfl (lv_at hl 0 rfl) ?_
  refine lv_iload_n hx hb d_M_join_10 rfl (lv_at hl 2 rfl) ?_
  refine c_V (own := R_M) (index := 89) (As := [.int (x)]) (rest := [.ref (ad (0))]) hx hb hml hown hg hK (fun _ _ _ h => h) (fun _ _ => trivial) (fun _ h => h) hP hS 0 (c_M_no l D cI cB ad hI M n len ch sp hR (x) true (no_t hbad)) (by decide) (ci := 8) rfl rfl k_907 k_909 k_p30 k_9 k_910 1 rfl (by decide +kernel) (by decide) rfl hl.1 (Nat.le_of_ble_eq_true rfl) d_M_join_11 (fun v M' H locs hq hP _ _ hS => ?_)
  obtain ⟨rfl, rfl⟩ := hq
  refine W.eq (g2 := F0 m 14 ls [.int (bI (true)), .ref (ad (0))]) rfl ?_
  refine z_eq (t := true) (tgt := 21) hx hb d_M_join_14 (by decide) (fun h9 => absurd h9 (by decide)) (fun _ => ?_)
  refine n_const (k := 1) hx hb d_M_join_17 (by decide) ?_
  refine lv_goto (tgt := 35) hx hb d_M_join_18 (by decide) ?_
  refine c_V (own := R_M) (index := 57) (As := [.int (nI (1))]) (rest := []) hx hb hml hown hg hK (fun _ _ _ h => h) (fun _ _ => trivial) (fun _ h => h) hP hS 0 (c_M_refuses l D cI cB ad hI M (1) (by decide)) (by decide) (ci := 8) rfl rfl k_859 k_861 k_p22 k_9 k_862 1 rfl (by decide +kernel) (by decide) rfl hl.1 (Nat.le_of_ble_eq_true rfl) d_M_join_35 (fun v M_1 H locs hq hP _ _ hS => ?_)
  obtain ⟨rfl, eM_1⟩ := hq
  refine W.eq (g2 := F0 m 38 ls [.int (bI (true))]) rfl ?_
  refine z_eq (t := true) (tgt := 43) hx hb d_M_join_38 (by decide) (fun h9 => absurd h9 (by decide)) (fun _ => ?_)
  refine n_const (k := 0) hx hb d_M_join_41 (by decide) ?_
  exact r_i hx hb hr hlocks hP hS (⟨rfl, eM_1⟩) d_M_join_42

set_option maxHeartbeats 4000000 in
set_option maxRecDepth 100000 in
theorem c_M_row_1a (l : Launch) (D : va_G) (cI cB : ClassId) (ad : Nat → Nat) (hI : GI 13 ad) (M : PM) (n : Nat) (len : Nat → Nat) (ch : Nat → Nat → Nat) (sp : Nat → Option Nat) (hR : RN M n len ch sp) (x y : Int32) (hbad : ¬ ∃ j, j < n ∧ x = nI j) (z : Int32) : MM l D cI cB ad y_M_row b_M_row 5 (some .int) 1 21 [.ref (ad (0)), .int (x), .int (y), .int (z)] M (fun v M' => v = some (.int (nI 0)) ∧ M' = pu M 0 0 (nI 1)) := by
  refine MC.of (by decide) (Nat.le_of_ble_eq_true rfl) ?_
  intro p e s m below meth c ls hx hb hr hml hown hg hlocks hK hN hP hS hl
  have hown : s.vm.findClass R_M = some m.cls := hown
  have hl : lv_has ls 5 [(0, .ref (ad (0))), (1, .int (x)), (2, .int (y)), (3, .int (z))] := hl
  have hn60 : n ≤ 60 := hR.1
  refine lv_aload_n hx hb d_M_row_0 rfl (lv_at hl 0 rfl) ?_
  refine lv_aload_n hx hb d_M_row_1 rfl (lv_at hl 0 rfl) ?_
  refine lv_iload_n hx hb d_M_row_2 rfl (lv_at hl 1 rfl) ?_
  refine c_V (own := R_M) (index := 89) (As := [.int (x)]) (rest := [.ref (ad (0))]) hx hb hml hown hg hK (fun _ _ _ h => h) (fun _ _ => trivial) (fun _ h => h) hP hS 0 (c_M_no l D cI cB ad hI M n len ch sp hR (x) true (no_t hbad)) (by decide) (ci := 8) rfl rfl k_907 k_909 k_p30 k_9 k_910 1 rfl (by decide +kernel) (by decide) rfl hl.1 (Nat.le_of_ble_eq_true rfl) d_M_row_3 (fun v M' H locs hq hP _ _ hS => ?_)
  obtain ⟨rfl, rfl⟩ := hq
  refine W.eq (g2 := F0 m 6 ls [.int (bI (true)), .ref (ad (0))]) rfl ?_
  refine z_ne (t := true) (tgt := 25) hx hb d_M_row_6 (by decide) (fun _ => ?_) (fun h9 => absurd h9 (by decide))
  refine n_const (k := 1) hx hb d_M_row_25 (by decide) ?_
  refine lv_goto (tgt := 42) hx hb d_M_row_26 (by decide) ?_
  refine c_V (own := R_M) (index := 57) (As := [.int (nI (1))]) (rest := []) hx hb hml hown hg hK (fun _ _ _ h => h) (fun _ _ => trivial) (fun _ h => h) hP hS 0 (c_M_refuses l D cI cB ad hI M (1) (by decide)) (by decide) (ci := 8) rfl rfl k_859 k_861 k_p22 k_9 k_862 1 rfl (by decide +kernel) (by decide) rfl hl.1 (Nat.le_of_ble_eq_true rfl) d_M_row_42 (fun v M_1 H locs hq hP _ _ hS => ?_)
  obtain ⟨rfl, eM_1⟩ := hq
  refine W.eq (g2 := F0 m 45 ls [.int (bI (true))]) rfl ?_
  refine z_eq (t := true) (tgt := 50) hx hb d_M_row_45 (by decide) (fun h9 => absurd h9 (by decide)) (fun _ => ?_)
  refine n_const (k := 0) hx hb d_M_row_48 (by decide) ?_
  exact r_i hx hb hr hlocks hP hS (⟨rfl, eM_1⟩) d_M_row_49

set_option maxHeartbeats 4000000 in
set_option maxRecDepth 100000 in
theorem c_M_row_1b (l : Launch) (D : va_G) (cI cB : ClassId) (ad : Nat → Nat) (hI : GI 13 ad) (M : PM) (n : Nat) (len : Nat → Nat) (ch : Nat → Nat → Nat) (sp : Nat → Option Nat) (hR : RN M n len ch sp) (a : Nat) (ha : a < n) (x : Int32) (hbad : ¬ ∃ j, j < n ∧ x = nI j) (z : Int32) : MM l D cI cB ad y_M_row b_M_row 5 (some .int) 1 21 [.ref (ad (0)), .int (nI (a)), .int (x), .int (z)] M (fun v M' => v = some (.int (nI 0)) ∧ M' = pu M 0 0 (nI 1)) := by
  refine MC.of (by decide) (Nat.le_of_ble_eq_true rfl) ?_
  intro p e s m below meth c ls hx hb hr hml hown hg hlocks hK hN hP hS hl
  have hown : s.vm.findClass R_M = some m.cls := hown
  have hl : lv_has ls 5 [(0, .ref (ad (0))), (1, .int (nI (a))), (2, .int (x)), (3, .int (z))] := hl
  have hn60 : n ≤ 60 := hR.1
  refine lv_aload_n hx hb d_M_row_0 rfl (lv_at hl 0 rfl) ?_
  refine lv_aload_n hx hb d_M_row_1 rfl (lv_at hl 0 rfl) ?_
  refine lv_iload_n hx hb d_M_row_2 rfl (lv_at hl 1 rfl) ?_
  refine c_V (own := R_M) (index := 89) (As := [.int (nI (a))]) (rest := [.ref (ad (0))]) hx hb hml hown hg hK (fun _ _ _ h => h) (fun _ _ => trivial) (fun _ h => h) hP hS 0 (c_M_no l D cI cB ad hI M n len ch sp hR (nI (a)) false (no_f (by omega))) (by decide) (ci := 8) rfl rfl k_907 k_909 k_p30 k_9 k_910 1 rfl (by decide +kernel) (by decide) rfl hl.1 (Nat.le_of_ble_eq_true rfl) d_M_row_3 (fun v M' H locs hq hP _ _ hS => ?_)
  obtain ⟨rfl, rfl⟩ := hq
  refine W.eq (g2 := F0 m 6 ls [.int (bI (false)), .ref (ad (0))]) rfl ?_
  refine z_ne (t := false) (tgt := 25) hx hb d_M_row_6 (by decide) (fun h9 => absurd h9 (by decide)) (fun _ => ?_)
  refine lv_aload_n hx hb d_M_row_9 rfl (lv_at hl 0 rfl) ?_
  refine lv_iload_n hx hb d_M_row_10 rfl (lv_at hl 2 rfl) ?_
  refine c_V (own := R_M) (index := 89) (As := [.int (x)]) (rest := [.ref (ad (0))]) hx hb hml hown hg hK (fun _ _ _ h => h) (fun _ _ => trivial) (fun _ h => h) hP hS 0 (c_M_no l D cI cB ad hI M n len ch sp hR (x) true (no_t hbad)) (by decide) (ci := 8) rfl rfl k_907 k_909 k_p30 k_9 k_910 1 rfl (by decide +kernel) (by decide) rfl hl.1 (Nat.le_of_ble_eq_true rfl) d_M_row_11 (fun v M' H locs hq hP _ _ hS => ?_)
  obtain ⟨rfl, rfl⟩ := hq
  refine W.eq (g2 := F0 m 14 ls [.int (bI (true)), .ref (ad (0))]) rfl ?_
  refine z_ne (t := true) (tgt := 25) hx hb d_M_row_14 (by decide) (fun _ => ?_) (fun h9 => absurd h9 (by decide))
  refine n_const (k := 1) hx hb d_M_row_25 (by decide) ?_
  refine lv_goto (tgt := 42) hx hb d_M_row_26 (by decide) ?_
  refine c_V (own := R_M) (index := 57) (As := [.int (nI (1))]) (rest := []) hx hb hml hown hg hK (fun _ _ _ h => h) (fun _ _ => trivial) (fun _ h => h) hP hS 0 (c_M_refuses l D cI cB ad hI M (1) (by decide)) (by decide) (ci := 8) rfl rfl k_859 k_861 k_p22 k_9 k_862 1 rfl (by decide +kernel) (by decide) rfl hl.1 (Nat.le_of_ble_eq_true rfl) d_M_row_42 (fun v M_1 H locs hq hP _ _ hS => ?_)
  obtain ⟨rfl, eM_1⟩ := hq
  refine W.eq (g2 := F0 m 45 ls [.int (bI (true))]) rfl ?_
  refine z_eq (t := true) (tgt := 50) hx hb d_M_row_45 (by decide) (fun h9 => absurd h9 (by decide)) (fun _ => ?_)
  refine n_const (k := 0) hx hb d_M_row_48 (by decide) ?_
  exact r_i hx hb hr hlocks hP hS (⟨rfl, eM_1⟩) d_M_row_49

set_option maxHeartbeats 4000000 in
set_option maxRecDepth 100000 in
theorem c_M_row_1c (l : Launch) (D : va_G) (cI cB : ClassId) (ad : Nat → Nat) (hI : GI 13 ad) (M : PM) (n : Nat) (len : Nat → Nat) (ch : Nat → Nat → Nat) (sp : Nat → Option Nat) (hR : RN M n len ch sp) (a b9 : Nat) (ha : a < n) (hb9 : b9 < n) (x : Int32) (hbad : ¬ ∃ j, j < n ∧ x = nI j) : MM l D cI cB ad y_M_row b_M_row 5 (some .int) 1 21 [.ref (ad (0)), .int (nI (a)), .int (nI (b9)), .int (x)] M (fun v M' => v = some (.int (nI 0)) ∧ M' = pu M 0 0 (nI 1)) := by
  refine MC.of (by decide) (Nat.le_of_ble_eq_true rfl) ?_
  intro p e s m below meth c ls hx hb hr hml hown hg hlocks hK hN hP hS hl
  have hown : s.vm.findClass R_M = some m.cls := hown
  have hl : lv_has ls 5 [(0, .ref (ad (0))), (1, .int (nI (a))), (2, .int (nI (b9))), (3, .int (x))] := hl
  have hn60 : n ≤ 60 := hR.1
  refine lv_aload_n hx hb d_M_row_0 rfl (lv_at hl 0 rfl) ?_
  refine lv_aload_n hx hb d_M_row_1 rfl (lv_at hl 0 rfl) ?_
  refine lv_iload_n hx hb d_M_row_2 rfl (lv_at hl 1 rfl) ?_
  refine c_V (own := R_M) (index := 89) (As := [.int (nI (a))]) (rest := [.ref (ad (0))]) hx hb hml hown hg hK (fun _ _ _ h => h) (fun _ _ => trivial) (fun _ h => h) hP hS 0 (c_M_no l D cI cB ad hI M n len ch sp hR (nI (a)) false (no_f (by omega))) (by decide) (ci := 8) rfl rfl k_907 k_909 k_p30 k_9 k_910 1 rfl (by decide +kernel) (by decide) rfl hl.1 (Nat.le_of_ble_eq_true rfl) d_M_row_3 (fun v M' H locs hq hP _ _ hS => ?_)
  obtain ⟨rfl, rfl⟩ := hq
  refine W.eq (g2 := F0 m 6 ls [.int (bI (false)), .ref (ad (0))]) rfl ?_
  refine z_ne (t := false) (tgt := 25) hx hb d_M_row_6 (by decide) (fun h9 => absurd h9 (by decide)) (fun _ => ?_)
  refine lv_aload_n hx hb d_M_row_9 rfl (lv_at hl 0 rfl) ?_
  refine lv_iload_n hx hb d_M_row_10 rfl (lv_at hl 2 rfl) ?_
  refine c_V (own := R_M) (index := 89) (As := [.int (nI (b9))]) (rest := [.ref (ad (0))]) hx hb hml hown hg hK (fun _ _ _ h => h) (fun _ _ => trivial) (fun _ h => h) hP hS 0 (c_M_no l D cI cB ad hI M n len ch sp hR (nI (b9)) false (no_f (by omega))) (by decide) (ci := 8) rfl rfl k_907 k_909 k_p30 k_9 k_910 1 rfl (by decide +kernel) (by decide) rfl hl.1 (Nat.le_of_ble_eq_true rfl) d_M_row_11 (fun v M' H locs hq hP _ _ hS => ?_)
  obtain ⟨rfl, rfl⟩ := hq
  refine W.eq (g2 := F0 m 14 ls [.int (bI (false)), .ref (ad (0))]) rfl ?_
  refine z_ne (t := false) (tgt := 25) hx hb d_M_row_14 (by decide) (fun h9 => absurd h9 (by decide)) (fun _ => ?_)
  refine lv_aload_n hx hb d_M_row_17 rfl (lv_at hl 0 rfl) ?_
  refine lv_iload_n hx hb d_M_row_18 rfl (lv_at hl 3 rfl) ?_
  refine c_V (own := R_M) (index := 89) (As := [.int (x)]) (rest := [.ref (ad (0))]) hx hb hml hown hg hK (fun _ _ _ h => h) (fun _ _ => trivial) (fun _ h => h) hP hS 0 (c_M_no l D cI cB ad hI M n len ch sp hR (x) true (no_t hbad)) (by decide) (ci := 8) rfl rfl k_907 k_909 k_p30 k_9 k_910 1 rfl (by decide +kernel) (by decide) rfl hl.1 (Nat.le_of_ble_eq_true rfl) d_M_row_19 (fun v M' H locs hq hP _ _ hS => ?_)
  obtain ⟨rfl, rfl⟩ := hq
  refine W.eq (g2 := F0 m 22 ls [.int (bI (true)), .ref (ad (0))]) rfl ?_
  refine z_eq (t := true) (tgt := 29) hx hb d_M_row_22 (by decide) (fun h9 => absurd h9 (by decide)) (fun _ => ?_)
  refine n_const (k := 1) hx hb d_M_row_25 (by decide) ?_
  refine lv_goto (tgt := 42) hx hb d_M_row_26 (by decide) ?_
  refine c_V (own := R_M) (index := 57) (As := [.int (nI (1))]) (rest := []) hx hb hml hown hg hK (fun _ _ _ h => h) (fun _ _ => trivial) (fun _ h => h) hP hS 0 (c_M_refuses l D cI cB ad hI M (1) (by decide)) (by decide) (ci := 8) rfl rfl k_859 k_861 k_p22 k_9 k_862 1 rfl (by decide +kernel) (by decide) rfl hl.1 (Nat.le_of_ble_eq_true rfl) d_M_row_42 (fun v M_1 H locs hq hP _ _ hS => ?_)
  obtain ⟨rfl, eM_1⟩ := hq
  refine W.eq (g2 := F0 m 45 ls [.int (bI (true))]) rfl ?_
  refine z_eq (t := true) (tgt := 50) hx hb d_M_row_45 (by decide) (fun h9 => absurd h9 (by decide)) (fun _ => ?_)
  refine n_const (k := 0) hx hb d_M_row_48 (by decide) ?_
  exact r_i hx hb hr hlocks hP hS (⟨rfl, eM_1⟩) d_M_row_49

set_option maxHeartbeats 4000000 in
set_option maxRecDepth 100000 in
theorem c_M_unknown_1 (l : Launch) (D : va_G) (cI cB : ClassId) (ad : Nat → Nat) (hI : GI 13 ad) (M : PM) (x : Int32) (hneg : x < 0) : MM l D cI cB ad y_M_unknown b_M_unknown 4 (some .int) 1 21 [.ref (ad (0)), .int (x)] M (fun v M' => v = some (.int (nI 0)) ∧ M' = pu M 0 0 (nI 1)) := by
  refine MC.of (by decide) (Nat.le_of_ble_eq_true rfl) ?_
  intro p e s m below meth c ls hx hb hr hml hown hg hlocks hK hN hP hS hl
  have hown : s.vm.findClass R_M = some m.cls := hown
  have hl : lv_has ls 4 [(0, .ref (ad (0))), (1, .int (x))] := hl
  refine lv_aload_n hx hb d_M_unknown_0 rfl (lv_at hl 0 rfl) ?_
  refine lv_iload_n hx hb d_M_unknown_1 rfl (lv_at hl 1 rfl) ?_
  refine lv_if_ge (tgt := 9) hx hb d_M_unknown_2 (by decide) (fun c_2 => ?_) (fun c_2 => ?_)
  · exact absurd c_2 (Int32.not_le.mpr hneg)
  · refine n_const (k := 1) hx hb d_M_unknown_5 (by decide) ?_
    refine lv_goto (tgt := 10) hx hb d_M_unknown_6 (by decide) ?_
    refine c_V (own := R_M) (index := 57) (As := [.int (nI (1))]) (rest := []) hx hb hml hown hg hK (fun _ _ _ h => h) (fun _ _ => trivial) (fun _ h => h) hP hS 0 (c_M_refuses l D cI cB ad hI M (1) (by decide)) (by decide) (ci := 8) rfl rfl k_859 k_861 k_p22 k_9 k_862 1 rfl (by decide +kernel) (by decide) rfl hl.1 (Nat.le_of_ble_eq_true rfl) d_M_unknown_10 (fun v M_1 H locs hq hP _ _ hS => ?_)
    obtain ⟨rfl, eM_1⟩ := hq
    refine W.eq (g2 := F0 m 13 ls [.int (bI (true))]) rfl ?_
    refine z_eq (t := true) (tgt := 18) hx hb d_M_unknown_13 (by decide) (fun h9 => absurd h9 (by decide)) (fun _ => ?_)
    refine n_const (k := 0) hx hb d_M_unknown_16 (by decide) ?_
    exact r_i hx hb hr hlocks hP hS (⟨rfl, eM_1⟩) d_M_unknown_17

set_option maxHeartbeats 4000000 in
set_option maxRecDepth 100000 in
theorem c_M_count_1 (l : Launch) (D : va_G) (cI cB : ClassId) (ad : Nat → Nat) (hI : GI 13 ad) (M : PM) (x : Int32) (hbad : ¬ ∃ c, c ≤ 6 ∧ x = nI c) : MM l D cI cB ad y_M_count b_M_count 4 (some .int) 1 21 [.ref (ad (0)), .int (x)] M (fun v M' => v = some (.int (nI 0)) ∧ M' = pu M 0 0 (nI 1)) := by
  refine MC.of (by decide) (Nat.le_of_ble_eq_true rfl) ?_
  intro p e s m below meth c ls hx hb hr hml hown hg hlocks hK hN hP hS hl
  have hown : s.vm.findClass R_M = some m.cls := hown
  have hl : lv_has ls 4 [(0, .ref (ad (0))), (1, .int (x))] := hl
  refine lv_aload_n hx hb d_M_count_0 rfl (lv_at hl 0 rfl) ?_
  refine lv_iload_n hx hb d_M_count_1 rfl (lv_at hl 1 rfl) ?_
  refine lv_if_lt (tgt := 11) hx hb d_M_count_2 (by decide) (fun c_2 => ?_) (fun c_2 => ?_)
  · refine n_const (k := 1) hx hb d_M_count_11 (by decide) ?_
    refine lv_goto (tgt := 16) hx hb d_M_count_12 (by decide) ?_
    refine c_V (own := R_M) (index := 57) (As := [.int (nI (1))]) (rest := []) hx hb hml hown hg hK (fun _ _ _ h => h) (fun _ _ => trivial) (fun _ h => h) hP hS 0 (c_M_refuses l D cI cB ad hI M (1) (by decide)) (by decide) (ci := 8) rfl rfl k_859 k_861 k_p22 k_9 k_862 1 rfl (by decide +kernel) (by decide) rfl hl.1 (Nat.le_of_ble_eq_true rfl) d_M_count_16 (fun v M_1 H locs hq hP _ _ hS => ?_)
    obtain ⟨rfl, eM_1⟩ := hq
    refine W.eq (g2 := F0 m 19 ls [.int (bI (true))]) rfl ?_
    refine z_eq (t := true) (tgt := 24) hx hb d_M_count_19 (by decide) (fun h9 => absurd h9 (by decide)) (fun _ => ?_)
    refine n_const (k := 0) hx hb d_M_count_22 (by decide) ?_
    exact r_i hx hb hr hlocks hP hS (⟨rfl, eM_1⟩) d_M_count_23
  · refine lv_iload_n hx hb d_M_count_5 rfl (lv_at hl 1 rfl) ?_
    refine n_bipush (k := 6) hx hb d_M_count_6 (by decide) ?_
    refine lv_icmp_le (tgt := 15) hx hb d_M_count_8 (by decide) (fun c_8 => ?_) (fun c_8 => ?_)
    · exact absurd (rng (a := 0) (by decide) c_2 c_8 (by decide)) (fun ⟨c, _, h2, h3⟩ => hbad ⟨c, h2, h3⟩)
    · refine n_const (k := 1) hx hb d_M_count_11 (by decide) ?_
      refine lv_goto (tgt := 16) hx hb d_M_count_12 (by decide) ?_
      refine c_V (own := R_M) (index := 57) (As := [.int (nI (1))]) (rest := []) hx hb hml hown hg hK (fun _ _ _ h => h) (fun _ _ => trivial) (fun _ h => h) hP hS 0 (c_M_refuses l D cI cB ad hI M (1) (by decide)) (by decide) (ci := 8) rfl rfl k_859 k_861 k_p22 k_9 k_862 1 rfl (by decide +kernel) (by decide) rfl hl.1 (Nat.le_of_ble_eq_true rfl) d_M_count_16 (fun v M_2 H locs hq hP _ _ hS => ?_)
      obtain ⟨rfl, eM_2⟩ := hq
      refine W.eq (g2 := F0 m 19 ls [.int (bI (true))]) rfl ?_
      refine z_eq (t := true) (tgt := 24) hx hb d_M_count_19 (by decide) (fun h9 => absurd h9 (by decide)) (fun _ => ?_)
      refine n_const (k := 0) hx hb d_M_count_22 (by decide) ?_
      exact r_i hx hb hr hlocks hP hS (⟨rfl, eM_2⟩) d_M_count_23

set_option maxHeartbeats 4000000 in
set_option maxRecDepth 100000 in
theorem c_M_apart (l : Launch) (D : va_G) (cI cB : ClassId) (ad : Nat → Nat) (hI : GI 13 ad) (M : PM) (n : Nat) (len : Nat → Nat) (ch : Nat → Nat → Nat) (sp : Nat → Option Nat) (hR : RN M n len ch sp) (a b9 : Nat) (ha : a < n) (hb9 : b9 < n) : MM l D cI cB ad y_M_apart b_M_apart 3 (some .int) 2 49 [.ref (ad (0)), .int (nI (a)), .int (nI (b9))] M (fun v M' => v = some (.int (nI (Ed (eqC ch a b9) (len a) (len b9)))) ∧ SX M M' ∧ M' 0 0 = nI 0) := by
  refine MC.of (by decide) (Nat.le_of_ble_eq_true rfl) ?_
  intro p e s m below meth c ls hx hb hr hml hown hg hlocks hK hN hP hS hl
  have hown : s.vm.findClass R_M = some m.cls := hown
  have hl : lv_has ls 3 [(0, .ref (ad (0))), (1, .int (nI (a))), (2, .int (nI (b9)))] := hl
  have hn60 : n ≤ 60 := hR.1
  refine lv_aload_n hx hb d_M_apart_0 rfl (lv_at hl 0 rfl) ?_
  refine lv_aload_n hx hb d_M_apart_1 rfl (lv_at hl 0 rfl) ?_
  refine lv_iload_n hx hb d_M_apart_2 rfl (lv_at hl 1 rfl) ?_
  refine c_V (own := R_M) (index := 89) (As := [.int (nI (a))]) (rest := [.ref (ad (0))]) hx hb hml hown hg hK (fun _ _ _ h => h) (fun _ _ => trivial) (fun _ h => h) hP hS 0 (c_M_no l D cI cB ad hI M n len ch sp hR (nI (a)) false (no_f (by omega))) (by decide) (ci := 8) rfl rfl k_907 k_909 k_p30 k_9 k_910 1 rfl (by decide +kernel) (by decide) rfl hl.1 (Nat.le_of_ble_eq_true rfl) d_M_apart_3 (fun v M' H locs hq hP _ _ hS => ?_)
  obtain ⟨rfl, rfl⟩ := hq
  refine W.eq (g2 := F0 m 6 ls [.int (bI (false)), .ref (ad (0))]) rfl ?_
  refine z_ne (t := false) (tgt := 17) hx hb d_M_apart_6 (by decide) (fun h9 => absurd h9 (by decide)) (fun _ => ?_)
  refine lv_aload_n hx hb d_M_apart_9 rfl (lv_at hl 0 rfl) ?_
  refine lv_iload_n hx hb d_M_apart_10 rfl (lv_at hl 2 rfl) ?_
  refine c_V (own := R_M) (index := 89) (As := [.int (nI (b9))]) (rest := [.ref (ad (0))]) hx hb hml hown hg hK (fun _ _ _ h => h) (fun _ _ => trivial) (fun _ h => h) hP hS 0 (c_M_no l D cI cB ad hI M n len ch sp hR (nI (b9)) false (no_f (by omega))) (by decide) (ci := 8) rfl rfl k_907 k_909 k_p30 k_9 k_910 1 rfl (by decide +kernel) (by decide) rfl hl.1 (Nat.le_of_ble_eq_true rfl) d_M_apart_11 (fun v M' H locs hq hP _ _ hS => ?_)
  obtain ⟨rfl, rfl⟩ := hq
  refine W.eq (g2 := F0 m 14 ls [.int (bI (false)), .ref (ad (0))]) rfl ?_
  refine z_eq (t := false) (tgt := 21) hx hb d_M_apart_14 (by decide) (fun _ => ?_) (fun h9 => absurd h9 (by decide))
  refine n_const (k := 0) hx hb d_M_apart_21 (by decide) ?_
  refine c_V (own := R_M) (index := 57) (As := [.int (nI (0))]) (rest := []) hx hb hml hown hg hK (fun _ _ _ h => h) (fun _ _ => trivial) (fun _ h => h) hP hS 0 (c_M_refuses l D cI cB ad hI M (0) (by decide)) (by decide) (ci := 8) rfl rfl k_859 k_861 k_p22 k_9 k_862 1 rfl (by decide +kernel) (by decide) rfl hl.1 (Nat.le_of_ble_eq_true rfl) d_M_apart_22 (fun v M_1 H locs hq hP _ _ hS => ?_)
  obtain ⟨rfl, eM_1⟩ := hq
  have hR1 := hR.sx (SX.thr M (nI 0))
  rw [← eM_1] at hR1
  refine W.eq (g2 := F0 m 25 ls [.int (bI (false))]) rfl ?_
  refine z_eq (t := false) (tgt := 32) hx hb d_M_apart_25 (by decide) (fun _ => ?_) (fun h9 => absurd h9 (by decide))
  refine lv_aload_n hx hb d_M_apart_32 rfl (lv_at hl 0 rfl) ?_
  refine lv_iload_n hx hb d_M_apart_33 rfl (lv_at hl 1 rfl) ?_
  refine lv_iload_n hx hb d_M_apart_34 rfl (lv_at hl 2 rfl) ?_
  refine c_V (own := R_M) (index := 134) (As := [.int (nI (a)), .int (nI (b9))]) (rest := []) hx hb hml hown hg hK (fun _ _ _ h => h) (fun _ _ => trivial) (fun _ h => h) hP hS 0 (c_M_distance l D cI cB ad hI M_1 n len ch sp hR1 (a) (b9) (by omega) (by omega)) (by decide) (ci := 8) rfl rfl k_1002 k_1004 k_p41 k_9 k_1005 2 rfl (by decide +kernel) (by decide) rfl hl.1 (Nat.le_of_ble_eq_true rfl) d_M_apart_35 (fun v M_2 H locs hq hP _ _ hS => ?_)
  obtain ⟨rfl, eM_2⟩ := hq
  refine W.eq (g2 := F0 m 38 ls [.int (nI (Ed (eqC ch (a) (b9)) (len (a)) (len (b9))))]) rfl ?_
  exact r_i hx hb hr hlocks hP hS (⟨rfl, by have h := SX.thr M (nI 0); rw [← eM_1] at h; exact h.tr eM_2.sx, by rw [eM_2 0 0 (by decide), eM_1, pu_s]⟩) d_M_apart_38

set_option maxHeartbeats 4000000 in
set_option maxRecDepth 100000 in
theorem c_M_isUnknown (l : Launch) (D : va_G) (cI cB : ClassId) (ad : Nat → Nat) (hI : GI 13 ad) (M : PM) (n : Nat) (len : Nat → Nat) (ch : Nat → Nat → Nat) (sp : Nat → Option Nat) (hR : RN M n len ch sp) (spo : Nat → Option Nat) (hSp : ∀ k, k < n → Best (spC n len ch sp k) len n (spo k)) (us : Nat → Nat) (hU : RU M n us) (rc : Nat) (rw_ : Nat → Nat) (hW : RW M n rc rw_) (a : Nat) (ha : a < n) (t : Bool) (ht : t = true ↔ unkP us spo rc rw_ a) : MM l D cI cB ad y_M_isUnknown b_M_isUnknown 5 (some .boolean) 3 69 [.ref (ad (0)), .int (nI (a))] M (fun v M' => v = some (.int (bI (t))) ∧ M = M') := by
  refine MC.of (by decide) (Nat.le_of_ble_eq_true rfl) ?_
  intro p e s m below meth c ls hx hb hr hml hown hg hlocks hK hN hP hS hl
  have hown : s.vm.findClass R_M = some m.cls := hown
  have hl : lv_has ls 5 [(0, .ref (ad (0))), (1, .int (nI (a)))] := hl
  have hn60 : n ≤ 60 := hR.1
  have hl24 := hR.2.2.1
  have hspn := hR.2.2.2.2.1
  have hch := hR.2.2.2.2.2
  have hrc := hW.1
  have hrw := hW.2.2
  have hsl : ∀ k, k < n → ∀ q, spo k = some q → q < n := fun k hk => (hSp k hk).lt
  have hua := hU a ha
  have J24 : ∀ (fu24 : Nat) (i : Nat) (so : Option Nat) (b : Bool) (H : Heap) (locs : List Loc) (ls : Array Slot), rc - i < fu24 → (i ≤ rc) → (so = if us a = 0 then none else spo a) → (so = none → i = 0) → (∀ q, q < i → ¬ rw_ (3 * q) = a) → (b = true ↔ ∃ k, k < i ∧ spo (rw_ (3 * k)) = so) → va_P D clsA (gw 13 ad (cfM cI cB ad) M) H → va_S (GA 13 ad) s.heap H locs → lv_has ls 5 [(0, .ref (ad (0))), (1, .int (nI (a))), (2, .int (oI (so))), (3, .int (bI (b))), (4, .int (nI (i)))] → W p l e (rm_ 3 69) s m ([.ref (ad (0)), .int (nI (a))] : List Value).toArray below meth c H locs 0 0 (MQ below (GQ D 13 ad (cfM cI cB ad) (fun v M' => v = some (.int (bI (t))) ∧ M = M')) ([.ref (ad (0)), .int (nI (a))] : List Value).toArray s 0 0 (GA 13 ad)) (F0 m 24 ls []) := by
    intro fu24
    induction fu24 with
    | zero => intro i so b H locs ls hfu; exact absurd hfu (Nat.not_lt_zero _)
    | succ fu24 ih24 =>
      intro i so b H locs ls hfu24 hi hso hz hpv hbb hP hS hl
      refine lv_iload hx hb d_M_isUnknown_24 (lv_at hl 4 rfl) ?_
      refine lv_aload_n hx hb d_M_isUnknown_26 rfl (lv_at hl 0 rfl) ?_
      refine g_get (C := R_M) (T := T_M) (N := 19) (ci := 8) (v := .int (M 0 10)) hx hb hg i_M hown hK hP 0 (by decide) rfl rfl 10 (by decide) (hg _ k_803) rfl d_M_isUnknown_27 ?_
      refine n_top (y := (nI (rc))) (hW.2.1) ?_
      refine n_ge (a := i) (b := rc) (tgt := 83) hx hb d_M_isUnknown_30 (by decide) (by omega) (by omega) (fun c_30 => ?_) (fun c_30 => ?_)
      · have hfin : (∀ k, k < rc → ¬ rw_ (3 * k) = a) ∧ (b = true ↔ ∃ k, k < rc ∧ spo (rw_ (3 * k)) = so) := by have e9 : i = rc := (by omega); subst e9; exact ⟨hpv, hbb⟩
        have h9 : b = t := by
          cases b with
          | true =>
            obtain ⟨k, hk, e⟩ := hfin.2.mp rfl
            have hn0 : so ≠ none := fun q => by have := hz q; omega
            have hu0 : us a ≠ 0 := fun q => hn0 (by rw [hso, if_pos q])
            rw [if_neg hu0] at hso
            exact (ht.mpr ⟨hu0, by rw [← hso]; exact hn0, hfin.1, k, hk, by rw [e, hso]⟩).symm
          | false => exact (b_f ht (fun h => absurd (hfin.2.mpr (by obtain ⟨k, hk, e⟩ := h.2.2.2; exact ⟨k, hk, by rw [hso, if_neg h.1]; exact e⟩)) (by decide))).symm
        refine lv_iload_n hx hb d_M_isUnknown_83 rfl (lv_at hl 3 rfl) ?_
        exact r_z hx hb hr hlocks (bI_n _) hP hS (⟨by rw [h9], rfl⟩) d_M_isUnknown_84
      · refine lv_iload_n hx hb d_M_isUnknown_33 rfl (lv_at hl 2 rfl) ?_
        refine o_lt (o := so) (tgt := 83) hx hb d_M_isUnknown_34 (by decide) (fun q e => by rw [hso] at e; split at e; cases e; have := hsl a ha q e; omega) (fun c_34 => ?_) (fun v_34 c_34 => ?_)
        · have h9 : b = t := by
            have e0 := hz c_34
            subst e0
            have hb0 : b = false := b_f hbb (fun ⟨k, hk, _⟩ => absurd hk (Nat.not_lt_zero k))
            rw [hb0]
            refine (b_f ht (fun h => ?_)).symm
            rw [if_neg h.1] at hso
            exact h.2.1 (by rw [← hso]; exact c_34)
          refine lv_iload_n hx hb d_M_isUnknown_83 rfl (lv_at hl 3 rfl) ?_
          exact r_z hx hb hr hlocks (bI_n _) hP hS (⟨by rw [h9], rfl⟩) d_M_isUnknown_84
        · have hr1 := (hrw (3 * i) (by omega)).1
          have hm9 : rc - (i + 1) < fu24 := by omega
          have hi9 : i + 1 ≤ rc := by omega
          refine lv_aload_n hx hb d_M_isUnknown_37 rfl (lv_at hl 0 rfl) ?_
          refine g_get (C := R_M) (T := T_M) (N := 19) (ci := 8) (v := .ref (ad (7))) hx hb hg i_M hown hK hP 0 (by decide) rfl rfl 9 (by decide) (hg _ k_802) rfl d_M_isUnknown_38 ?_
          refine n_const (k := 3) hx hb d_M_isUnknown_41 (by decide) ?_
          refine lv_iload hx hb d_M_isUnknown_42 (lv_at hl 4 rfl) ?_
          refine n_imul (a := 3) (b := i) hx hb d_M_isUnknown_44 ?_
          refine g_iald hx hb hK hP 7 0 (by decide) rfl rfl (by decide) (j := (3) * (i)) (by omega) d_M_isUnknown_45 ?_
          refine n_top (y := (nI (rw_ ((3) * (i))))) ((hW.2.2 ((3) * (i)) (by omega)).2) ?_
          refine lv_iload_n hx hb d_M_isUnknown_46 rfl (lv_at hl 1 rfl) ?_
          refine n_ne (a := rw_ ((3) * (i))) (b := a) (tgt := 52) hx hb d_M_isUnknown_47 (by decide) (by omega) (by omega) (fun c_47 => ?_) (fun c_47 => ?_)
          · refine lv_iload_n hx hb d_M_isUnknown_52 rfl (lv_at hl 3 rfl) ?_
            refine lv_aload_n hx hb d_M_isUnknown_53 rfl (lv_at hl 0 rfl) ?_
            refine lv_aload_n hx hb d_M_isUnknown_54 rfl (lv_at hl 0 rfl) ?_
            refine g_get (C := R_M) (T := T_M) (N := 19) (ci := 8) (v := .ref (ad (7))) hx hb hg i_M hown hK hP 0 (by decide) rfl rfl 9 (by decide) (hg _ k_802) rfl d_M_isUnknown_55 ?_
            refine n_const (k := 3) hx hb d_M_isUnknown_58 (by decide) ?_
            refine lv_iload hx hb d_M_isUnknown_59 (lv_at hl 4 rfl) ?_
            refine n_imul (a := 3) (b := i) hx hb d_M_isUnknown_61 ?_
            refine g_iald hx hb hK hP 7 0 (by decide) rfl rfl (by decide) (j := (3) * (i)) (by omega) d_M_isUnknown_62 ?_
            refine n_top (y := (nI (rw_ ((3) * (i))))) ((hW.2.2 ((3) * (i)) (by omega)).2) ?_
            refine c_V (own := R_M) (index := 106) (As := [.int (nI (rw_ ((3) * (i))))]) (rest := [.int (bI (b))]) hx hb hml hown hg hK (fun _ _ _ h => h) (fun _ _ => trivial) (fun _ h => h) hP hS 0 (c_M_spaceOf l D cI cB ad hI M n len ch sp hR (rw_ ((3) * (i))) ((hrw (3 * i) (by omega)).1) (spo (rw_ ((3) * (i)))) (hSp _ ((hrw (3 * i) (by omega)).1))) (by decide) (ci := 8) rfl rfl k_923 k_925 k_p33 k_9 k_926 1 rfl (by decide +kernel) (by decide) rfl hl.1 (Nat.le_of_ble_eq_true rfl) d_M_isUnknown_63 (fun v M' H locs hq hP _ _ hS => ?_)
            obtain ⟨rfl, rfl⟩ := hq
            refine W.eq (g2 := F0 m 66 ls [.int (oI (spo (rw_ ((3) * (i))))), .int (bI (b))]) rfl ?_
            refine lv_iload_n hx hb d_M_isUnknown_66 rfl (lv_at hl 2 rfl) ?_
            refine oo_ne (a := spo (rw_ ((3) * (i)))) (b := so) (tgt := 74) hx hb d_M_isUnknown_67 (by decide) (fun q e => by have := hsl _ hr1 q e; omega) (fun q e => by rw [hso] at e; split at e; cases e; have := hsl a ha q e; omega) (fun c_67 => ?_) (fun c_67 => ?_)
            · have hbb9 : b = true ↔ ∃ k, k < i + 1 ∧ spo (rw_ (3 * k)) = so := by
                rw [hbb]
                exact ⟨fun ⟨k, h1, h2⟩ => ⟨k, by omega, h2⟩, fun ⟨k, h1, h2⟩ => ⟨k, by rcases Nat.lt_succ_iff_lt_or_eq.mp h1 with q | q; exact q; subst q; exact absurd h2 c_67, h2⟩⟩
              refine n_const (k := 0) hx hb d_M_isUnknown_74 (by decide) ?_
              refine lv_ior hx hb d_M_isUnknown_75 ?_
              refine n_top (y := bI (b)) (bor0 _) ?_
              refine lv_istore_n (lv' := [(3, .int (bI (b))), (0, .ref (ad (0))), (1, .int (nI (a))), (2, .int (oI (so))), (4, .int (nI (i)))]) hx hb d_M_isUnknown_76 rfl hl (by decide) rfl (fun ls hl => ?_)
              refine n_inc (lv' := [(4, .int (nI (i + 1))), (3, .int (bI (b))), (0, .ref (ad (0))), (1, .int (nI (a))), (2, .int (oI (so)))]) hx hb d_M_isUnknown_77 hl (k := 4) rfl (by decide) rfl (fun ls hl => ?_)
              refine lv_goto (tgt := 24) hx hb d_M_isUnknown_80 (by decide) ?_
              exact ih24 (i + 1) (so) (b) _ _ ls (hm9) (hi9) (hso) (fun h => (by rw [c_34] at h; cases h)) (lt_S hpv c_47) (hbb9) hP hS (lv_sub hl [2, 3, 4, 1, 0] rfl)
            · have hbb9 : true = true ↔ ∃ k, k < i + 1 ∧ spo (rw_ (3 * k)) = so := ⟨fun _ => ⟨i, by omega, c_67⟩, fun _ => rfl⟩
              refine n_const (k := 1) hx hb d_M_isUnknown_70 (by decide) ?_
              refine lv_goto (tgt := 75) hx hb d_M_isUnknown_71 (by decide) ?_
              refine lv_ior hx hb d_M_isUnknown_75 ?_
              refine n_top (y := bI true) (bor1 _) ?_
              refine lv_istore_n (lv' := [(3, .int (bI (true))), (0, .ref (ad (0))), (1, .int (nI (a))), (2, .int (oI (so))), (4, .int (nI (i)))]) hx hb d_M_isUnknown_76 rfl hl (by decide) rfl (fun ls hl => ?_)
              refine n_inc (lv' := [(4, .int (nI (i + 1))), (3, .int (bI (true))), (0, .ref (ad (0))), (1, .int (nI (a))), (2, .int (oI (so)))]) hx hb d_M_isUnknown_77 hl (k := 4) rfl (by decide) rfl (fun ls hl => ?_)
              refine lv_goto (tgt := 24) hx hb d_M_isUnknown_80 (by decide) ?_
              exact ih24 (i + 1) (so) (true) _ _ ls (hm9) (hi9) (hso) (fun h => (by rw [c_34] at h; cases h)) (lt_S hpv c_47) (hbb9) hP hS (lv_sub hl [2, 3, 4, 1, 0] rfl)
          · have h9 : t = false := b_f ht (fun h => h.2.2.1 i (by omega) c_47)
            refine n_const (k := 0) hx hb d_M_isUnknown_50 (by decide) ?_
            exact r_z hx hb hr hlocks (rfl) hP hS (⟨bz0 h9, rfl⟩) d_M_isUnknown_51
  refine lv_aload_n hx hb d_M_isUnknown_0 rfl (lv_at hl 0 rfl) ?_
  refine g_get (C := R_M) (T := T_M) (N := 19) (ci := 8) (v := .ref (ad (5))) hx hb hg i_M hown hK hP 0 (by decide) rfl rfl 7 (by decide) (hg _ k_800) rfl d_M_isUnknown_1 ?_
  refine lv_iload_n hx hb d_M_isUnknown_4 rfl (lv_at hl 1 rfl) ?_
  refine g_iald hx hb hK hP 5 0 (by decide) rfl rfl (by decide) (j := a) (by omega) d_M_isUnknown_5 ?_
  refine n_top (y := (nI (us (a)))) ((hU (a) (by omega)).2) ?_
  refine n_ifn0 (a := us (a)) (tgt := 13) hx hb d_M_isUnknown_6 (by decide) (by omega) (fun c_6 => ?_) (fun c_6 => ?_)
  · refine lv_aload_n hx hb d_M_isUnknown_13 rfl (lv_at hl 0 rfl) ?_
    refine lv_iload_n hx hb d_M_isUnknown_14 rfl (lv_at hl 1 rfl) ?_
    refine c_V (own := R_M) (index := 106) (As := [.int (nI (a))]) (rest := []) hx hb hml hown hg hK (fun _ _ _ h => h) (fun _ _ => trivial) (fun _ h => h) hP hS 0 (c_M_spaceOf l D cI cB ad hI M n len ch sp hR (a) (by omega) (spo (a)) (hSp _ (by omega))) (by decide) (ci := 8) rfl rfl k_923 k_925 k_p33 k_9 k_926 1 rfl (by decide +kernel) (by decide) rfl hl.1 (Nat.le_of_ble_eq_true rfl) d_M_isUnknown_15 (fun v M' H locs hq hP _ _ hS => ?_)
    obtain ⟨rfl, rfl⟩ := hq
    refine W.eq (g2 := F0 m 18 ls [.int (oI (spo (a)))]) rfl ?_
    refine lv_istore_n (lv' := [(2, .int (oI (spo (a)))), (0, .ref (ad (0))), (1, .int (nI (a)))]) hx hb d_M_isUnknown_18 rfl hl (by decide) rfl (fun ls hl => ?_)
    refine n_const (k := 0) hx hb d_M_isUnknown_19 (by decide) ?_
    refine lv_istore_n (lv' := [(3, .int (nI (0))), (2, .int (oI (spo (a)))), (0, .ref (ad (0))), (1, .int (nI (a)))]) hx hb d_M_isUnknown_20 rfl hl (by decide) rfl (fun ls hl => ?_)
    refine n_const (k := 0) hx hb d_M_isUnknown_21 (by decide) ?_
    refine lv_istore (lv' := [(4, .int (nI (0))), (3, .int (nI (0))), (2, .int (oI (spo (a)))), (0, .ref (ad (0))), (1, .int (nI (a)))]) hx hb d_M_isUnknown_22 hl (by decide) rfl (fun ls hl => ?_)
    exact J24 (_ + 1) (0) (spo (a)) (false) _ _ ls (Nat.lt_succ_self _) (by omega) (by simp_all) (fun _ => rfl) (fun q hq => absurd hq (Nat.not_lt_zero q)) (⟨fun h => (by cases h), fun ⟨k, hk, _⟩ => absurd hk (Nat.not_lt_zero k)⟩) hP hS (lv_sub hl [3, 4, 2, 1, 0] rfl)
  · refine lv_iconst (v := -1) hx hb d_M_isUnknown_9 (by decide) ?_
    refine lv_goto (tgt := 18) hx hb d_M_isUnknown_10 (by decide) ?_
    refine lv_istore_n (lv' := [(2, .int (-1)), (0, .ref (ad (0))), (1, .int (nI (a)))]) hx hb d_M_isUnknown_18 rfl hl (by decide) rfl (fun ls hl => ?_)
    refine n_const (k := 0) hx hb d_M_isUnknown_19 (by decide) ?_
    refine lv_istore_n (lv' := [(3, .int (nI (0))), (2, .int (-1)), (0, .ref (ad (0))), (1, .int (nI (a)))]) hx hb d_M_isUnknown_20 rfl hl (by decide) rfl (fun ls hl => ?_)
    refine n_const (k := 0) hx hb d_M_isUnknown_21 (by decide) ?_
    refine lv_istore (lv' := [(4, .int (nI (0))), (3, .int (nI (0))), (2, .int (-1)), (0, .ref (ad (0))), (1, .int (nI (a)))]) hx hb d_M_isUnknown_22 hl (by decide) rfl (fun ls hl => ?_)
    exact J24 (_ + 1) (0) (none) (false) _ _ ls (Nat.lt_succ_self _) (by omega) (by simp_all) (fun _ => rfl) (fun q hq => absurd hq (Nat.not_lt_zero q)) (⟨fun h => (by cases h), fun ⟨k, hk, _⟩ => absurd hk (Nat.not_lt_zero k)⟩) hP hS (lv_sub hl [3, 4, 2, 1, 0] rfl)
