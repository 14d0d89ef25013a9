set_option maxHeartbeats 4000000 in
set_option maxRecDepth 100000 in
theorem c_M_thrown (l : Launch) (D : va_G) (cI cB : ClassId) (ad : Nat → Nat) (hI : GI 13 ad) (M : PM) : MM l D cI cB ad y_M_thrown b_M_thrown 1 (some .int) 0 0 [.ref (ad (0))] M (fun v M' => v = some (.int (M 0 0)) ∧ M = M') := by
  refine MC.of (by decide) (Nat.le_of_ble_eq_true rfl) ?_
  intro p e s m below meth c ls hx hb hr hml hown hg hlocks hK hN hP hS hl
  have hown : s.vm.findClass R_M = some m.cls := hown
  have hl : lv_has ls 1 [(0, .ref (ad (0)))] := hl
  refine lv_aload_n hx hb d_M_thrown_0 rfl (lv_at hl 0 rfl) ?_
  refine g_get (C := R_M) (T := T_M) (N := 19) (ci := 8) (v := .int (M 0 0)) hx hb hg i_M hown hK hP 0 (by decide) rfl rfl 0 (by decide) (hg _ k_793) rfl d_M_thrown_1 ?_
  exact r_i hx hb hr hlocks hP hS (⟨rfl, rfl⟩) d_M_thrown_4

set_option maxHeartbeats 4000000 in
set_option maxRecDepth 100000 in
theorem c_M_refuses (l : Launch) (D : va_G) (cI cB : ClassId) (ad : Nat → Nat) (hI : GI 13 ad) (M : PM) (w : Nat) (hw : w < 100) : MM l D cI cB ad y_M_refuses b_M_refuses 2 (some .boolean) 0 0 [.ref (ad (0)), .int (nI (w))] M (fun v M' => v = some (.int (bI (decide (w ≠ 0)))) ∧ M' = pu M 0 0 (nI w)) := by
  refine MC.of (by decide) (Nat.le_of_ble_eq_true rfl) ?_
  intro p e s m below meth c ls hx hb hr hml hown hg hlocks hK hN hP hS hl
  have hown : s.vm.findClass R_M = some m.cls := hown
  have hl : lv_has ls 2 [(0, .ref (ad (0))), (1, .int (nI (w)))] := hl
  refine lv_aload_n hx hb d_M_refuses_0 rfl (lv_at hl 0 rfl) ?_
  refine lv_iload_n hx hb d_M_refuses_1 rfl (lv_at hl 1 rfl) ?_
  refine g_put (C := R_M) (T := T_M) (N := 19) (ci := 8) (v := (nI (w))) hx hb hg i_M ty_M t_M_ok n_M hown hK hI (fun _ h => h) hP hS 0 (by decide) rfl rfl 0 (by decide) (hg _ k_793) rfl (by decide +kernel) (Nat.le_of_ble_eq_true rfl) rfl d_M_refuses_2 (fun H locs hP hS => ?_)
  obtain ⟨M_1, eM_1⟩ : ∃ z : PM, z = (pu M 0 0 ((nI (w)))) := ⟨_, rfl⟩
  rw [← eM_1] at hP
  refine lv_iload_n hx hb d_M_refuses_5 rfl (lv_at hl 1 rfl) ?_
  refine n_if0 (a := w) (tgt := 13) hx hb d_M_refuses_6 (by decide) (by omega) (fun c_6 => ?_) (fun c_6 => ?_)
  · refine n_const (k := 0) hx hb d_M_refuses_13 (by decide) ?_
    exact r_z hx hb hr hlocks (rfl) hP hS (⟨bz0 (by simp [c_6]), eM_1⟩) d_M_refuses_14
  · refine n_const (k := 1) hx hb d_M_refuses_9 (by decide) ?_
    refine lv_goto (tgt := 14) hx hb d_M_refuses_10 (by decide) ?_
    exact r_z hx hb hr hlocks (rfl) hP hS (⟨bz1 (by simp [c_6]), eM_1⟩) d_M_refuses_14

set_option maxHeartbeats 4000000 in
set_option maxRecDepth 100000 in
theorem c_M_no (l : Launch) (D : va_G) (cI cB : ClassId) (ad : Nat → Nat) (hI : GI 13 ad) (M : PM) (n : Nat) (len : Nat → Nat) (ch : Nat → Nat → Nat) (sp : Nat → Option Nat) (hR : RN M n len ch sp) (x : Int32) (t : Bool) (ht : t = true ↔ ¬ ∃ j, j < n ∧ x = nI j) : MM l D cI cB ad y_M_no b_M_no 2 (some .boolean) 0 0 [.ref (ad (0)), .int (x)] M (fun v M' => v = some (.int (bI (t))) ∧ M = M') := by
  refine MC.of (by decide) (Nat.le_of_ble_eq_true rfl) ?_
  intro p e s m below meth c ls hx hb hr hml hown hg hlocks hK hN hP hS hl
  have hown : s.vm.findClass R_M = some m.cls := hown
  have hl : lv_has ls 2 [(0, .ref (ad (0))), (1, .int (x))] := hl
  have hn60 : n ≤ 60 := hR.1
  have hcase := pk_ix x (n := n) (by omega)
  refine lv_iload_n hx hb d_M_no_0 rfl (lv_at hl 1 rfl) ?_
  refine lv_if_lt (tgt := 12) hx hb d_M_no_1 (by decide) (fun c_1 => ?_) (fun c_1 => ?_)
  · have h9 : t = true := ht.mpr (fun ⟨j, hj, e⟩ => by rw [e] at c_1; exact nI_pos (by omega) c_1)
    refine n_const (k := 1) hx hb d_M_no_12 (by decide) ?_
    refine lv_goto (tgt := 17) hx hb d_M_no_13 (by decide) ?_
    exact r_z hx hb hr hlocks (rfl) hP hS (⟨bz1 (h9), rfl⟩) d_M_no_17
  · refine lv_iload_n hx hb d_M_no_4 rfl (lv_at hl 1 rfl) ?_
    refine lv_aload_n hx hb d_M_no_5 rfl (lv_at hl 0 rfl) ?_
    refine g_get (C := R_M) (T := T_M) (N := 19) (ci := 8) (v := .int (M 0 5)) hx hb hg i_M hown hK hP 0 (by decide) rfl rfl 5 (by decide) (hg _ k_798) rfl d_M_no_6 ?_
    refine n_top (y := (nI (n))) (hR.2.1) ?_
    refine lv_icmp_lt (tgt := 16) hx hb d_M_no_9 (by decide) (fun c_9 => ?_) (fun c_9 => ?_)
    · have h9 : t = false := b_f ht (fun h => h (by
        rcases hcase with q | q | q
        · exact absurd q c_1
        · exact absurd c_9 (Int32.not_lt.mpr q)
        · exact q))
      refine n_const (k := 0) hx hb d_M_no_16 (by decide) ?_
      exact r_z hx hb hr hlocks (rfl) hP hS (⟨bz0 (h9), rfl⟩) d_M_no_17
    · have h9 : t = true := ht.mpr (fun ⟨j, hj, e⟩ => by rw [e] at c_9; exact c_9 (nI_lt hj (by omega)))
      refine n_const (k := 1) hx hb d_M_no_12 (by decide) ?_
      refine lv_goto (tgt := 17) hx hb d_M_no_13 (by decide) ?_
      exact r_z hx hb hr hlocks (rfl) hP hS (⟨bz1 (h9), rfl⟩) d_M_no_17

set_option maxHeartbeats 4000000 in
set_option maxRecDepth 100000 in
theorem c_M_clashes (l : Launch) (D : va_G) (cI cB : ClassId) (ad : Nat → Nat) (hI : GI 13 ad) (M : PM) (a b c9 : Int32) : MM l D cI cB ad y_M_clashes b_M_clashes 4 none 0 0 [.ref (ad (0)), .int (a), .int (b), .int (c9)] M (fun v M' => v = none ∧ M' = pu (pu (pu M 10 0 a) 10 1 b) 10 2 c9) := by
  refine MC.of (by decide) (Nat.le_of_ble_eq_true rfl) ?_
  intro p e s m below meth c ls hx hb hr hml hown hg hlocks hK hN hP hS hl
  have hown : s.vm.findClass R_M = some m.cls := hown
  have hl : lv_has ls 4 [(0, .ref (ad (0))), (1, .int (a)), (2, .int (b)), (3, .int (c9))] := hl
  refine lv_aload_n hx hb d_M_clashes_0 rfl (lv_at hl 0 rfl) ?_
  refine g_get (C := R_M) (T := T_M) (N := 19) (ci := 8) (v := .ref (ad (10))) hx hb hg i_M hown hK hP 0 (by decide) rfl rfl 15 (by decide) (hg _ k_808) rfl d_M_clashes_1 ?_
  refine n_const (k := 0) hx hb d_M_clashes_4 (by decide) ?_
  refine lv_iload_n hx hb d_M_clashes_5 rfl (lv_at hl 1 rfl) ?_
  refine g_iast hx hb hK hI (fun _ h => h) hP hS 10 0 (by decide) (fun _ => rfl) rfl (by decide) (j := 0) (by omega) (v := (a)) d_M_clashes_6 (fun H locs hP hS => ?_)
  obtain ⟨M_1, eM_1⟩ : ∃ z : PM, z = (pu M 10 (0) ((a))) := ⟨_, rfl⟩
  rw [← eM_1] at hP
  refine lv_aload_n hx hb d_M_clashes_7 rfl (lv_at hl 0 rfl) ?_
  refine g_get (C := R_M) (T := T_M) (N := 19) (ci := 8) (v := .ref (ad (10))) hx hb hg i_M hown hK hP 0 (by decide) rfl rfl 15 (by decide) (hg _ k_808) rfl d_M_clashes_8 ?_
  refine n_const (k := 1) hx hb d_M_clashes_11 (by decide) ?_
  refine lv_iload_n hx hb d_M_clashes_12 rfl (lv_at hl 2 rfl) ?_
  refine g_iast hx hb hK hI (fun _ h => h) hP hS 10 0 (by decide) (fun _ => rfl) rfl (by decide) (j := 1) (by omega) (v := (b)) d_M_clashes_13 (fun H locs hP hS => ?_)
  obtain ⟨M_2, eM_2⟩ : ∃ z : PM, z = (pu M_1 10 (1) ((b))) := ⟨_, rfl⟩
  rw [← eM_2] at hP
  refine lv_aload_n hx hb d_M_clashes_14 rfl (lv_at hl 0 rfl) ?_
  refine g_get (C := R_M) (T := T_M) (N := 19) (ci := 8) (v := .ref (ad (10))) hx hb hg i_M hown hK hP 0 (by decide) rfl rfl 15 (by decide) (hg _ k_808) rfl d_M_clashes_15 ?_
  refine n_const (k := 2) hx hb d_M_clashes_18 (by decide) ?_
  refine lv_iload_n hx hb d_M_clashes_19 rfl (lv_at hl 3 rfl) ?_
  refine g_iast hx hb hK hI (fun _ h => h) hP hS 10 0 (by decide) (fun _ => rfl) rfl (by decide) (j := 2) (by omega) (v := (c9)) d_M_clashes_20 (fun H locs hP hS => ?_)
  obtain ⟨M_3, eM_3⟩ : ∃ z : PM, z = (pu M_2 10 (2) ((c9))) := ⟨_, rfl⟩
  rw [← eM_3] at hP
  exact r_v hx hb hr hlocks hP hS (⟨rfl, by rw [eM_3, eM_2, eM_1]⟩) d_M_clashes_21

set_option maxHeartbeats 4000000 in
set_option maxRecDepth 100000 in
theorem c_M_at (l : Launch) (D : va_G) (cI cB : ClassId) (ad : Nat → Nat) (hI : GI 13 ad) (M : PM) (n : Nat) (len : Nat → Nat) (ch : Nat → Nat → Nat) (sp : Nat → Option Nat) (hR : RN M n len ch sp) (k i : Nat) (hk : k < n) (hi : i < len k) : MM l D cI cB ad y_M_at b_M_at 3 (some .int) 0 0 [.ref (ad (0)), .int (nI (k)), .int (nI (i))] M (fun v M' => v = some (.int (nI (ch k i))) ∧ M = M') := by
  refine MC.of (by decide) (Nat.le_of_ble_eq_true rfl) ?_
  intro p e s m below meth c ls hx hb hr hml hown hg hlocks hK hN hP hS hl
  have hown : s.vm.findClass R_M = some m.cls := hown
  have hl : lv_has ls 3 [(0, .ref (ad (0))), (1, .int (nI (k))), (2, .int (nI (i)))] := hl
  have hn60 : n ≤ 60 := hR.1
  have hl24 := hR.2.2.1 k hk
  refine lv_aload_n hx hb d_M_at_0 rfl (lv_at hl 0 rfl) ?_
  refine g_get (C := R_M) (T := T_M) (N := 19) (ci := 8) (v := .ref (ad (2))) hx hb hg i_M hown hK hP 0 (by decide) rfl rfl 3 (by decide) (hg _ k_796) rfl d_M_at_1 ?_
  refine n_bipush (k := 24) hx hb d_M_at_4 (by decide) ?_
  refine lv_iload_n hx hb d_M_at_6 rfl (lv_at hl 1 rfl) ?_
  refine n_imul (a := 24) (b := k) hx hb d_M_at_7 ?_
  refine lv_iload_n hx hb d_M_at_8 rfl (lv_at hl 2 rfl) ?_
  refine n_iadd (a := (24) * (k)) (b := i) hx hb d_M_at_9 ?_
  refine g_bald hx hb hK hP 2 1 (by decide) rfl rfl (by decide) (j := ((24) * (k)) + (i)) (by omega) d_M_at_10 ?_
  refine n_top (y := (nI (ch k i))) ((hR.2.2.2.2.2 k i hk hi).2.2) ?_
  exact r_i hx hb hr hlocks hP hS (⟨rfl, rfl⟩) d_M_at_11

set_option maxHeartbeats 4000000 in
set_option maxRecDepth 100000 in
theorem c_M_begin (l : Launch) (D : va_G) (cI cB : ClassId) (ad : Nat → Nat) (hI : GI 13 ad) (M : PM) : MM l D cI cB ad y_M_begin b_M_begin 1 none 0 0 [.ref (ad (0))] M (fun v M' => v = none ∧ M' = pu M 0 17 0) := by
  refine MC.of (by decide) (Nat.le_of_ble_eq_true rfl) ?_
  intro p e s m below meth c ls hx hb hr hml hown hg hlocks hK hN hP hS hl
  have hown : s.vm.findClass R_M = some m.cls := hown
  have hl : lv_has ls 1 [(0, .ref (ad (0)))] := hl
  refine lv_aload_n hx hb d_M_begin_0 rfl (lv_at hl 0 rfl) ?_
  refine n_const (k := 0) hx hb d_M_begin_1 (by decide) ?_
  refine g_put (C := R_M) (T := T_M) (N := 19) (ci := 8) (v := (nI (0))) hx hb hg i_M ty_M t_M_ok n_M hown hK hI (fun _ h => h) hP hS 0 (by decide) rfl rfl 17 (by decide) (hg _ k_810) rfl (by decide +kernel) (Nat.le_of_ble_eq_true rfl) rfl d_M_begin_2 (fun H locs hP hS => ?_)
  obtain ⟨M_1, eM_1⟩ : ∃ z : PM, z = (pu M 0 17 ((nI (0)))) := ⟨_, rfl⟩
  rw [← eM_1] at hP
  exact r_v hx hb hr hlocks hP hS (⟨rfl, eM_1⟩) d_M_begin_5
