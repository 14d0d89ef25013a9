set_option maxHeartbeats 4000000 in
set_option maxRecDepth 100000 in
theorem c_M_thrown (l : Launch) (D : va_G) (cI cB : ClassId) (ad : Nat → Nat) (hI : GI 13 ad) (M : PM) : MM l D cI cB ad y_M_thrown b_M_thrown 1 (some .int) 0 0 [.ref (ad (0))] M (fun v M' => v = some (.int (M 0 0)) ∧ M = M') := by
  refine MC.of (by decide) (Nat.le_of_ble_eq_true rfl) ?_
  intro p e s m below meth c ls hx hb hr hml hown hg hlocks hK hN hP hS hl
  have hown : s.vm.findClass R_M = some m.cls := hown
  have hl : lv_has ls 1 [(0, .ref (ad (0)))] := hl
  refine lv_aload_n hx hb d_M_thrown_0 rfl (lv_at hl 0 rfl) ?_
  refine g_get (C := R_M) (T := T_M) (N := 19) (ci := 8) (v := .int (M 0 0)) hx hb hg i_M hown hK hP 0 (by decide) rfl rfl 0 (by decide) (hg _ k_793) rfl d_M_thrown_1 ?_
  exact r_i hx hb hr hlocks hP hS (⟨rfl, rfl⟩) d_M_thrown_4

set_option maxHeartbeats 4000000 in
set_option maxRecDepth 100000 in
theorem c_M_refuses (l : Launch) (D : va_G) (cI cB : ClassId) (ad : Nat → Nat) (hI : GI 13 ad) (M : PM) (w : Nat) (hw : w < 100) : MM l D cI cB ad y_M_refuses b_M_refuses 2 (some .boolean) 0 0 [.ref (ad (0)), .int (nI (w))] M (fun v M' => v = some (.int (bI (decide (w ≠ 0)))) ∧ M' = pu M 0 0 (nI w)) := by
  refine MC.of (by decide) (Nat.le_of_ble_eq_true rfl) ?_
  intro p e s m below meth c ls hx hb hr hml hown hg hlocks hK hN hP hS hl
  have hown : s.vm.findClass R_M = some m.cls := hown
  have hl : lv_has ls 2 [(0, .ref (ad (0))), (1, .int (nI (w)))] := hl
  refine lv_aload_n hx hb d_M_refuses_0 rfl (lv_at hl 0 rfl) ?_
  refine lv_iload_n hx hb d_M_refuses_1 rfl (lv_at hl 1 rfl) ?_
  refine g_put (C := R_M) (T := T_M) (N := 19) (ci := 8) (v := (nI (w))) hx hb hg i_M ty_M t_M_ok n_M hown hK hI (fun _ h => h) hP hS 0 (by decide) rfl rfl 0 (by decide) (hg _ k_793) rfl (by decide +kernel) (Nat.le_of_ble_eq_true rfl) rfl d_M_refuses_2 (fun H locs hP hS => ?_)
  obtain ⟨M_1, eM_1⟩ : ∃ z : PM, z = (pu M 0 0 ((nI (w)))) := ⟨_, rfl⟩
  rw [← eM_1] at hP
  refine lv_iload_n hx hb d_M_refuses_5 rfl (lv_at hl 1 rfl) ?_
  refine n_if0 (a := w) (tgt := 13) hx hb d_M_refuses_6 (by decide) (by omega) (fun c_6 => ?_) (fun c_6 => ?_)
  · refine n_const (k := 0) hx hb d_M_refuses_13 (by decide) ?_
    exact r_z hx hb hr hlocks (rfl) hP hS (⟨bz0 (by simp [c_6]), eM_1⟩) d_M_refuses_14
  · refine n_const (k := 1) hx hb d_M_refuses_9 (by decide) ?_
    refine lv_goto (tgt := 14) hx hb d_M_refuses_10 (by decide) ?_
    exact r_z hx hb hr hlocks (rfl) hP hS (⟨bz1 (by simp [c_6]), eM_1⟩) d_M_refuses_14

set_option maxHeartbeats 4000000 in
set_option maxRecDepth 100000 in
theorem c_M_no (l : Launch) (D : va_G) (cI cB : ClassId) (ad : Nat → Nat) (hI : GI 13 ad) (M : PM) (n : Nat) (len : Nat → Nat) (ch : Nat → Nat → Nat) (sp : Nat → Option Nat) (hR : RN M n len ch sp) (x : Int32) (t : Bool) (ht : t = true ↔ ¬ ∃ j, j < n ∧ x = nI j) : MM l D cI cB ad y_M_no b_M_no 2 (some .boolean) 0 0 [.ref (ad (0)), .int (x)] M (fun v M' => v = some (.int (bI (t))) ∧ M = M') := by
  refine MC.of (by decide) (Nat.le_of_ble_eq_true rfl) ?_
  intro p e s m below meth c ls hx hb hr hml hown hg hlocks hK hN hP hS hl
  have hown : s.vm.findClass R_M = some m.cls := hown
  have hl : lv_has ls 2 [(0, .ref (ad (0))), (1, .int (x))] := hl
  have hn60 : n ≤ 60 := hR.1
  have hcase := pk_ix x (n := n) (by omega)
  refine lv_iload_n hx hb d_M_no_0 rfl (lv_at hl 1 rfl) ?_
  refine lv_if_lt (tgt := 12) hx hb d_M_no_1 (by decide) (fun c_1 => ?_) (fun c_1 => ?_)
  · have h9 : t = true := ht.mpr (fun ⟨j, hj, e⟩ => by rw [e] at c_1; exact nI_pos (by omega) c_1)
    refine n_const (k := 1) hx hb d_M_no_12 (by decide) ?_
    refine lv_goto (tgt := 17) hx hb d_M_no_13 (by decide) ?_
    exact r_z hx hb hr hlocks (rfl) hP hS (⟨bz1 (h9), rfl⟩) d_M_no_17
  · refine lv_iload_n hx hb d_M_no_4 rfl (lv_at hl 1 rfl) ?_
    refine lv_aload_n hx hb d_M_no_5 rfl (lv_at hl 0 rfl) ?_
    refine g_get (C := R_M) (T := T_M) (N := 19) (ci := 8) (v := .int (M 0 5)) hx hb hg i_M hown hK hP 0 (by decide) rfl rfl 5 (by decide) (hg _ k_798) rfl d_M_no_6 ?_
    refine n_top (y := (nI (n))) (hR.2.1) ?_
    refine lv_icmp_lt (tgt := 16) hx hb d_M_no_9 (by decide) (fun c_9 => ?_) (fun c_9 => ?_)
    · have h9 : t = false := b_f ht (fun h => h (by
        rcases hcase with q | q | q
        · exact absurd q c_1
        · exact absurd c_9 (Int32.not_lt.mpr q)
        · exact q))
      refine n_const (k := 0) hx hb d_M_no_16 (by decide) ?_
      exact r_z hx hb hr hlocks (rfl) hP hS (⟨bz0 (h9), rfl⟩) d_M_no_17
    · have h9 : t = true := ht.mpr (fun ⟨j, hj, e⟩ => by rw [e] at c_9; exact c_9 (nI_lt hj (by omega)))
      refine n_const (k := 1) hx hb d_M_no_12 (by decide) ?_
      refine lv_goto (tgt := 17) hx hb d_M_no_13 (by decide) ?_
      exact r_z hx hb hr hlocks (rfl) hP hS (⟨bz1 (h9), rfl⟩) d_M_no_17

set_option maxHeartbeats 4000000 in
set_option maxRecDepth 100000 in
theorem c_M_clashes (l : Launch) (D : va_G) (cI cB : ClassId) (ad : Nat → Nat) (hI : GI 13 ad) (M : PM) (a b c9 : Int32) : MM l D cI cB ad y_M_clashes b_M_clashes 4 none 0 0 [.ref (ad (0)), .int (a), .int (b), .int (c9)] M (fun v M' => v = none ∧ M' = pu (pu (pu M 10 0 a) 10 1 b) 10 2 c9) := by
  refine MC.of (by decide) (Nat.le_of_ble_eq_true rfl) ?_
  intro p e s m below meth c ls hx hb hr hml hown hg hlocks hK hN hP hS hl
  have hown : s.vm.findClass R_M = some m.cls := hown
  have hl : lv_has ls 4 [(0, .ref (ad (0))), (1, .int (a)), (2, .int (b)), (3, .int (c9))] := hl
  refine lv_aload_n hx hb d_M_clashes_0 rfl (lv_at hl 0 rfl) ?_
  refine g_get (C := R_M) (T := T_M) (N := 19) (ci := 8) (v := .ref (ad (10))) hx hb hg i_M hown hK hP 0 (by decide) rfl rfl 15 (by decide) (hg _ k_808) rfl d_M_clashes_1 ?_
  refine n_const (k := 0) hx hb d_M_clashes_4 (by decide) ?_
  refine lv_iload_n hx hb d_M_clashes_5 rfl (lv_at hl 1 rfl) ?_
  refine g_iast hx hb hK hI (fun _ h => h) hP hS 10 0 (by decide) (fun _ => rfl) rfl (by decide) (j := 0) (by omega) (v := (a)) d_M_clashes_6 (fun H locs hP hS => ?_)
  obtain ⟨M_1, eM_1⟩ : ∃ z : PM, z = (pu M 10 (0) ((a))) := ⟨_, rfl⟩
  rw [← eM_1] at hP
  refine lv_aload_n hx hb d_M_clashes_7 rfl (lv_at hl 0 rfl) ?_
  refine g_get (C := R_M) (T := T_M) (N := 19) (ci := 8) (v := .ref (ad (10))) hx hb hg i_M hown hK hP 0 (by decide) rfl rfl 15 (by decide) (hg _ k_808) rfl d_M_clashes_8 ?_
  refine n_const (k := 1) hx hb d_M_clashes_11 (by decide) ?_
  refine lv_iload_n hx hb d_M_clashes_12 rfl (lv_at hl 2 rfl) ?_
  refine g_iast hx hb hK hI (fun _ h => h) hP hS 10 0 (by decide) (fun _ => rfl) rfl (by decide) (j := 1) (by omega) (v := (b)) d_M_clashes_13 (fun H locs hP hS => ?_)
  obtain ⟨M_2, eM_2⟩ : ∃ z : PM, z = (pu M_1 10 (1) ((b))) := ⟨_, rfl⟩
  rw [← eM_2] at hP
  refine lv_aload_n hx hb d_M_clashes_14 rfl (lv_at hl 0 rfl) ?_
  refine g_get (C := R_M) (T := T_M) (N := 19) (ci := 8) (v := .ref (ad (10))) hx hb hg i_M hown hK hP 0 (by decide) rfl rfl 15 (by decide) (hg _ k_808) rfl d_M_clashes_15 ?_
  refine n_const (k := 2) hx hb d_M_clashes_18 (by decide) ?_
  refine lv_iload_n hx hb d_M_clashes_19 rfl (lv_at hl 3 rfl) ?_
  refine g_iast hx hb hK hI (fun _ h => h) hP hS 10 0 (by decide) (fun _ => rfl) rfl (by decide) (j := 2) (by omega) (v := (c9)) d_M_clashes_20 (fun H locs hP hS => ?_)
  obtain ⟨M_3, eM_3⟩ : ∃ z : PM, z = (pu M_2 10 (2) ((c9))) := ⟨_, rfl⟩
  rw [← eM_3] at hP
  exact r_v hx hb hr hlocks hP hS (⟨rfl, by rw [eM_3, eM_2, eM_1]⟩) d_M_clashes_21

set_option maxHeartbeats 4000000 in
set_option maxRecDepth 100000 in
theorem c_M_at (l : Launch) (D : va_G) (cI cB : ClassId) (ad : Nat → Nat) (hI : GI 13 ad) (M : PM) (n : Nat) (len : Nat → Nat) (ch : Nat → Nat → Nat) (sp : Nat → Option Nat) (hR : RN M n len ch sp) (k i : Nat) (hk : k < n) (hi : i < len k) : MM l D cI cB ad y_M_at b_M_at 3 (some .int) 0 0 [.ref (ad (0)), .int (nI (k)), .int (nI (i))] M (fun v M' => v = some (.int (nI (ch k i))) ∧ M = M') := by
  refine MC.of (by decide) (Nat.le_of_ble_eq_true rfl) ?_
  intro p e s m below meth c ls hx hb hr hml hown hg hlocks hK hN hP hS hl
  have hown : s.vm.findClass R_M = some m.cls := hown
  have hl : lv_has ls 3 [(0, .ref (ad (0))), (1, .int (nI (k))), (2, .int (nI (i)))] := hl
  have hn60 : n ≤ 60 := hR.1
  have hl24 := hR.2.2.1 k hk
  refine lv_aload_n hx hb d_M_at_0 rfl (lv_at hl 0 rfl) ?_
  refine g_get (C := R_M) (T := T_M) (N := 19) (ci := 8) (v := .ref (ad (2))) hx hb hg i_M hown hK hP 0 (by decide) rfl rfl 3 (by decide) (hg _ k_796) rfl d_M_at_1 ?_
  refine n_bipush (k := 24) hx hb d_M_at_4 (by decide) ?_
  refine lv_iload_n hx hb d_M_at_6 rfl (lv_at hl 1 rfl) ?_
  refine n_imul (a := 24) (b := k) hx hb d_M_at_7 ?_
  refine lv_iload_n hx hb d_M_at_8 rfl (lv_at hl 2 rfl) ?_
  refine n_iadd (a := (24) * (k)) (b := i) hx hb d_M_at_9 ?_
  refine g_bald hx hb hK hP 2 1 (by decide) rfl rfl (by decide) (j := ((24) * (k)) + (i)) (by omega) d_M_at_10 ?_
  refine n_top (y := (nI (ch k i))) ((hR.2.2.2.2.2 k i hk hi).2.2) ?_
  exact r_i hx hb hr hlocks hP hS (⟨rfl, rfl⟩) d_M_at_11

set_option maxHeartbeats 4000000 in
set_option maxRecDepth 100000 in
theorem c_M_begin (l : Launch) (D : va_G) (cI cB : ClassId) (ad : Nat → Nat) (hI : GI 13 ad) (M : PM) : MM l D cI cB ad y_M_begin b_M_begin 1 none 0 0 [.ref (ad (0))] M (fun v M' => v = none ∧ M' = pu M 0 17 0) := by
  refine MC.of (by decide) (Nat.le_of_ble_eq_true rfl) ?_
  intro p e s m below meth c ls hx hb hr hml hown hg hlocks hK hN hP hS hl
  have hown : s.vm.findClass R_M = some m.cls := hown
  have hl : lv_has ls 1 [(0, .ref (ad (0)))] := hl
  refine lv_aload_n hx hb d_M_begin_0 rfl (lv_at hl 0 rfl) ?_
  refine n_const (k := 0) hx hb d_M_begin_1 (by decide) ?_
  refine g_put (C := R_M) (T := T_M) (N := 19) (ci := 8) (v := (nI (0))) hx hb hg i_M ty_M t_M_ok n_M hown hK hI (fun _ h => h) hP hS 0 (by decide) rfl rfl 17 (by decide) (hg _ k_810) rfl (by decide +kernel) (Nat.le_of_ble_eq_true rfl) rfl d_M_begin_2 (fun H locs hP hS => ?_)
  obtain ⟨M_1, eM_1⟩ : ∃ z : PM, z = (pu M 0 17 ((nI (0)))) := ⟨_, rfl⟩
  rw [← eM_1] at hP
  exact r_v hx hb hr hlocks hP hS (⟨rfl, eM_1⟩) d_M_begin_5

set_option maxHeartbeats 4000000 in
set_option maxRecDepth 100000 in
theorem c_M_makes (l : Launch) (D : va_G) (cI cB : ClassId) (ad : Nat → Nat) (hI : GI 13 ad) (M : PM) (sl : Nat) (sc : Nat → Nat) (hMK : MK M sl sc) (c9 : Nat) (hc9 : c9 < 128) (hsl : sl < 64) : MM l D cI cB ad y_M_makes b_M_makes 2 none 0 0 [.ref (ad (0)), .int (nI (c9))] M (fun v M' => v = none ∧ M' = pu (pu M 0 17 (nI (sl + 1))) 11 sl (nI c9)) := by
  refine MC.of (by decide) (Nat.le_of_ble_eq_true rfl) ?_
  intro p e s m below meth c ls hx hb hr hml hown hg hlocks hK hN hP hS hl
  have hown : s.vm.findClass R_M = some m.cls := hown
  have hl : lv_has ls 2 [(0, .ref (ad (0))), (1, .int (nI (c9)))] := hl
  refine lv_aload_n hx hb d_M_makes_0 rfl (lv_at hl 0 rfl) ?_
  refine g_get (C := R_M) (T := T_M) (N := 19) (ci := 8) (v := .int (M 0 17)) hx hb hg i_M hown hK hP 0 (by decide) rfl rfl 17 (by decide) (hg _ k_810) rfl d_M_makes_1 ?_
  refine n_top (y := (nI (sl))) (hMK.2.1) ?_
  refine n_bipush (k := 64) hx hb d_M_makes_4 (by decide) ?_
  refine n_ge (a := sl) (b := 64) (tgt := 27) hx hb d_M_makes_6 (by decide) (by omega) (by omega) (fun c_6 => ?_) (fun c_6 => ?_)
  · exact absurd c_6 (by omega)
  · refine lv_aload_n hx hb d_M_makes_9 rfl (lv_at hl 0 rfl) ?_
    refine g_get (C := R_M) (T := T_M) (N := 19) (ci := 8) (v := .ref (ad (11))) hx hb hg i_M hown hK hP 0 (by decide) rfl rfl 16 (by decide) (hg _ k_809) rfl d_M_makes_10 ?_
    refine lv_aload_n hx hb d_M_makes_13 rfl (lv_at hl 0 rfl) ?_
    refine lv_dup hx hb d_M_makes_14 rfl ?_
    refine g_get (C := R_M) (T := T_M) (N := 19) (ci := 8) (v := .int (M 0 17)) hx hb hg i_M hown hK hP 0 (by decide) rfl rfl 17 (by decide) (hg _ k_810) rfl d_M_makes_15 ?_
    refine n_top (y := (nI (sl))) (hMK.2.1) ?_
    refine lv_dup_x1 hx hb d_M_makes_18 rfl rfl ?_
    refine n_const (k := 1) hx hb d_M_makes_19 (by decide) ?_
    refine n_iadd (a := sl) (b := 1) hx hb d_M_makes_20 ?_
    refine g_put (C := R_M) (T := T_M) (N := 19) (ci := 8) (v := (nI ((sl) + (1)))) hx hb hg i_M ty_M t_M_ok n_M hown hK hI (fun _ h => h) hP hS 0 (by decide) rfl rfl 17 (by decide) (hg _ k_810) rfl (by decide +kernel) (Nat.le_of_ble_eq_true rfl) rfl d_M_makes_21 (fun H locs hP hS => ?_)
    obtain ⟨M_1, eM_1⟩ : ∃ z : PM, z = (pu M 0 17 ((nI ((sl) + (1))))) := ⟨_, rfl⟩
    rw [← eM_1] at hP
    refine lv_iload_n hx hb d_M_makes_24 rfl (lv_at hl 1 rfl) ?_
    refine lv_i2b (v := nI (c9)) hx hb d_M_makes_25 (nb8 c9 hc9) ?_
    refine g_bast hx hb hK hI (fun _ h => h) hP hS 11 1 (by decide) (fun _ => rfl) rfl (by decide) (j := sl) (by omega) (v := (nI (c9))) d_M_makes_26 (fun H locs hP hS => ?_)
    obtain ⟨M_2, eM_2⟩ : ∃ z : PM, z = (pu M_1 11 (sl) (vp_nar .byte (nI (c9)))) := ⟨_, rfl⟩
    rw [← eM_2] at hP
    exact r_v hx hb hr hlocks hP hS (⟨rfl, by rw [eM_2, eM_1, nbb c9 hc9]⟩) d_M_makes_27

set_option maxHeartbeats 4000000 in
set_option maxRecDepth 100000 in
theorem c_M_found (l : Launch) (D : va_G) (cI cB : ClassId) (ad : Nat → Nat) (hI : GI 13 ad) (M : PM) (n : Nat) (len : Nat → Nat) (ch : Nat → Nat → Nat) (sp : Nat → Option Nat) (hR : RN M n len ch sp) (sl : Nat) (sc : Nat → Nat) (hMK : MK M sl sc) (o : Option Nat) (ho : Fst (sameT len ch sl sc) n o) : MM l D cI cB ad y_M_found b_M_found 4 (some .int) 1 22 [.ref (ad (0))] M (fun v M' => v = some (.int (oI (o))) ∧ M = M') := by
  refine MC.of (by decide) (Nat.le_of_ble_eq_true rfl) ?_
  intro p e s m below meth c ls hx hb hr hml hown hg hlocks hK hN hP hS hl
  have hown : s.vm.findClass R_M = some m.cls := hown
  have hl : lv_has ls 4 [(0, .ref (ad (0)))] := hl
  have hn60 : n ≤ 60 := hR.1
  have hl24 := hR.2.2.1
  have hsl64 : sl ≤ 64 := hMK.1
  have J2 : ∀ (fu2 : Nat) (k : Nat) (H : Heap) (locs : List Loc) (ls : Array Slot), n - k < fu2 → (k ≤ n) → (∀ q, q < k → ¬ sameT len ch sl sc q) → va_P D clsA (gw 13 ad (cfM cI cB ad) M) H → va_S (GA 13 ad) s.heap H locs → lv_has ls 4 [(0, .ref (ad (0))), (1, .int (nI (k)))] → W p l e (rm_ 1 22) s m ([.ref (ad (0))] : List Value).toArray below meth c H locs 0 0 (MQ below (GQ D 13 ad (cfM cI cB ad) (fun v M' => v = some (.int (oI (o))) ∧ M = M')) ([.ref (ad (0))] : List Value).toArray s 0 0 (GA 13 ad)) (F0 m 2 ls []) := by
    intro fu2
    induction fu2 with
    | zero => intro k H locs ls hfu; exact absurd hfu (Nat.not_lt_zero _)
    | succ fu2 ih2 =>
      intro k H locs ls hfu2 hk hpv hP hS hl
      have J31 : ∀ (fu31 : Nat) (i : Nat) (b : Bool) (H : Heap) (locs : List Loc) (ls : Array Slot), sl - i < fu31 → (k < n) → (i ≤ sl) → (b = true ↔ (len k = sl ∧ ∀ q, q < i → ch k q = sc q)) → va_P D clsA (gw 13 ad (cfM cI cB ad) M) H → va_S (GA 13 ad) s.heap H locs → lv_has ls 4 [(0, .ref (ad (0))), (1, .int (nI (k))), (2, .int (bI (b))), (3, .int (nI (i)))] → W p l e (rm_ 1 22) s m ([.ref (ad (0))] : List Value).toArray below meth c H locs 0 0 (MQ below (GQ D 13 ad (cfM cI cB ad) (fun v M' => v = some (.int (oI (o))) ∧ M = M')) ([.ref (ad (0))] : List Value).toArray s 0 0 (GA 13 ad)) (F0 m 31 ls []) := by
        intro fu31
        induction fu31 with
        | zero => intro i b H locs ls hfu; exact absurd hfu (Nat.not_lt_zero _)
        | succ fu31 ih31 =>
          intro i b H locs ls hfu31 hkn hi hbb hP hS hl
          refine lv_iload_n hx hb d_M_found_31 rfl (lv_at hl 3 rfl) ?_
          refine lv_aload_n hx hb d_M_found_32 rfl (lv_at hl 0 rfl) ?_
          refine g_get (C := R_M) (T := T_M) (N := 19) (ci := 8) (v := .int (M 0 17)) hx hb hg i_M hown hK hP 0 (by decide) rfl rfl 17 (by decide) (hg _ k_810) rfl d_M_found_33 ?_
          refine n_top (y := (nI (sl))) (hMK.2.1) ?_
          refine n_ge (a := i) (b := sl) (tgt := 70) hx hb d_M_found_36 (by decide) (by omega) (by omega) (fun c_36 => ?_) (fun c_36 => ?_)
          · refine lv_iload_n hx hb d_M_found_70 rfl (lv_at hl 2 rfl) ?_
            refine z_eq (t := b) (tgt := 76) hx hb d_M_found_71 (by decide) (fun c_71 => ?_) (fun c_71 => ?_)
            · have hpv9 : ∀ q, q < k + 1 → ¬ sameT len ch sl sc q := fun q hq => (by
                rcases Nat.lt_succ_iff_lt_or_eq.mp hq with h | h
                · exact hpv q h
                · subst h; intro h; have h9 : b = true := hbb.mpr ⟨h.1, fun j hj => h.2 j (by omega)⟩; rw [c_71] at h9; cases h9)
              refine n_inc (lv' := [(1, .int (nI (k + 1))), (0, .ref (ad (0))), (2, .int (bI (b))), (3, .int (nI (i)))]) hx hb d_M_found_76 hl (k := 1) rfl (by decide) rfl (fun ls hl => ?_)
              refine lv_goto (tgt := 2) hx hb d_M_found_79 (by decide) ?_
              exact ih2 (k + 1) _ _ ls (by omega) (by omega) (hpv9) hP hS (lv_sub hl [1, 0] rfl)
            · have hsm : sameT len ch sl sc k := by first | exact ⟨(hbb.mp c_71).1, fun q hq => (hbb.mp c_71).2 q (by omega)⟩ | (rw [c_40] at c_71; cases c_71)
              refine lv_iload_n hx hb d_M_found_74 rfl (lv_at hl 1 rfl) ?_
              exact r_i hx hb hr hlocks hP hS (⟨by rw [ho.is (by omega) hsm hpv]; rfl, rfl⟩) d_M_found_75
          · refine lv_iload_n hx hb d_M_found_39 rfl (lv_at hl 2 rfl) ?_
            refine z_eq (t := b) (tgt := 70) hx hb d_M_found_40 (by decide) (fun c_40 => ?_) (fun c_40 => ?_)
            · refine lv_iload_n hx hb d_M_found_70 rfl (lv_at hl 2 rfl) ?_
              refine z_eq (t := b) (tgt := 76) hx hb d_M_found_71 (by decide) (fun c_71 => ?_) (fun c_71 => ?_)
              · have hpv9 : ∀ q, q < k + 1 → ¬ sameT len ch sl sc q := fun q hq => (by
                  rcases Nat.lt_succ_iff_lt_or_eq.mp hq with h | h
                  · exact hpv q h
                  · subst h; intro h; have h9 : b = true := hbb.mpr ⟨h.1, fun j hj => h.2 j (by omega)⟩; rw [c_71] at h9; cases h9)
                refine n_inc (lv' := [(1, .int (nI (k + 1))), (0, .ref (ad (0))), (2, .int (bI (b))), (3, .int (nI (i)))]) hx hb d_M_found_76 hl (k := 1) rfl (by decide) rfl (fun ls hl => ?_)
                refine lv_goto (tgt := 2) hx hb d_M_found_79 (by decide) ?_
                exact ih2 (k + 1) _ _ ls (by omega) (by omega) (hpv9) hP hS (lv_sub hl [1, 0] rfl)
              · have hsm : sameT len ch sl sc k := by first | exact ⟨(hbb.mp c_71).1, fun q hq => (hbb.mp c_71).2 q (by omega)⟩ | (rw [c_40] at c_71; cases c_71)
                refine lv_iload_n hx hb d_M_found_74 rfl (lv_at hl 1 rfl) ?_
                exact r_i hx hb hr hlocks hP hS (⟨by rw [ho.is (by omega) hsm hpv]; rfl, rfl⟩) d_M_found_75
            · refine lv_aload_n hx hb d_M_found_43 rfl (lv_at hl 0 rfl) ?_
              refine lv_iload_n hx hb d_M_found_44 rfl (lv_at hl 1 rfl) ?_
              refine lv_iload_n hx hb d_M_found_45 rfl (lv_at hl 3 rfl) ?_
              refine c_V (own := R_M) (index := 64) (As := [.int (nI (k)), .int (nI (i))]) (rest := []) hx hb hml hown hg hK (fun _ _ _ h => h) (fun _ _ => trivial) (fun _ h => h) hP hS 0 (c_M_at l D cI cB ad hI M n len ch sp hR (k) (i) (by omega) (by have := (hbb.mp c_40).1; omega)) (by decide) (ci := 8) rfl rfl k_887 k_889 k_p27 k_9 k_890 2 rfl (by decide +kernel) (by decide) rfl hl.1 (Nat.le_of_ble_eq_true rfl) d_M_found_46 (fun v M' H locs hq hP _ _ hS => ?_)
              obtain ⟨rfl, rfl⟩ := hq
              refine W.eq (g2 := F0 m 49 ls [.int (nI (ch (k) (i)))]) rfl ?_
              refine lv_aload_n hx hb d_M_found_49 rfl (lv_at hl 0 rfl) ?_
              refine g_get (C := R_M) (T := T_M) (N := 19) (ci := 8) (v := .ref (ad (11))) hx hb hg i_M hown hK hP 0 (by decide) rfl rfl 16 (by decide) (hg _ k_809) rfl d_M_found_50 ?_
              refine lv_iload_n hx hb d_M_found_53 rfl (lv_at hl 3 rfl) ?_
              refine g_bald hx hb hK hP 11 1 (by decide) rfl rfl (by decide) (j := i) (by omega) d_M_found_54 ?_
              refine n_top (y := (nI (sc (i)))) ((hMK.2.2 (i) (by omega)).2) ?_
              refine n_ne (a := ch (k) (i)) (b := sc (i)) (tgt := 62) hx hb d_M_found_55 (by decide) (by have := hR.2.2.2.2.2 k i (by omega) (by have := (hbb.mp c_40).1; omega); omega) (by have := (hMK.2.2 i (by omega)).1; omega) (fun c_55 => ?_) (fun c_55 => ?_)
              · have hbb9 : (false = true) ↔ (len k = sl ∧ ∀ q, q < i + 1 → ch k q = sc q) := ⟨fun h => (by cases h), fun h => absurd (h.2 i (Nat.lt_succ_self i)) c_55⟩
                refine n_const (k := 0) hx hb d_M_found_62 (by decide) ?_
                refine lv_istore_n (lv' := [(2, .int (nI (0))), (0, .ref (ad (0))), (1, .int (nI (k))), (3, .int (nI (i)))]) hx hb d_M_found_63 rfl hl (by decide) rfl (fun ls hl => ?_)
                refine n_inc (lv' := [(3, .int (nI (i + 1))), (2, .int (nI (0))), (0, .ref (ad (0))), (1, .int (nI (k)))]) hx hb d_M_found_64 hl (k := 3) rfl (by decide) rfl (fun ls hl => ?_)
                refine lv_goto (tgt := 31) hx hb d_M_found_67 (by decide) ?_
                exact ih31 (i + 1) (false) _ _ ls (by omega) (by omega) (by omega) (hbb9) hP hS (lv_sub hl [2, 3, 1, 0] rfl)
              · have hbb9 : (true = true) ↔ (len k = sl ∧ ∀ q, q < i + 1 → ch k q = sc q) := ⟨fun _ => ⟨(hbb.mp c_40).1, fun q hq => (by
                  rcases Nat.lt_succ_iff_lt_or_eq.mp hq with h | h
                  · exact (hbb.mp c_40).2 q h
                  · subst h; exact c_55)⟩, fun _ => rfl⟩
                refine n_const (k := 1) hx hb d_M_found_58 (by decide) ?_
                refine lv_goto (tgt := 63) hx hb d_M_found_59 (by decide) ?_
                refine lv_istore_n (lv' := [(2, .int (nI (1))), (0, .ref (ad (0))), (1, .int (nI (k))), (3, .int (nI (i)))]) hx hb d_M_found_63 rfl hl (by decide) rfl (fun ls hl => ?_)
                refine n_inc (lv' := [(3, .int (nI (i + 1))), (2, .int (nI (1))), (0, .ref (ad (0))), (1, .int (nI (k)))]) hx hb d_M_found_64 hl (k := 3) rfl (by decide) rfl (fun ls hl => ?_)
                refine lv_goto (tgt := 31) hx hb d_M_found_67 (by decide) ?_
                exact ih31 (i + 1) (true) _ _ ls (by omega) (by omega) (by omega) (hbb9) hP hS (lv_sub hl [2, 3, 1, 0] rfl)
      refine lv_iload_n hx hb d_M_found_2 rfl (lv_at hl 1 rfl) ?_
      refine lv_aload_n hx hb d_M_found_3 rfl (lv_at hl 0 rfl) ?_
      refine g_get (C := R_M) (T := T_M) (N := 19) (ci := 8) (v := .int (M 0 5)) hx hb hg i_M hown hK hP 0 (by decide) rfl rfl 5 (by decide) (hg _ k_798) rfl d_M_found_4 ?_
      refine n_top (y := (nI (n))) (hR.2.1) ?_
      refine n_ge (a := k) (b := n) (tgt := 82) hx hb d_M_found_7 (by decide) (by omega) (by omega) (fun c_7 => ?_) (fun c_7 => ?_)
      · refine lv_iconst (v := -1) hx hb d_M_found_82 (by decide) ?_
        exact r_i hx hb hr hlocks hP hS (⟨by rw [ho.no (fun j hj => hpv j (by omega))]; rfl, rfl⟩) d_M_found_83
      · refine lv_aload_n hx hb d_M_found_10 rfl (lv_at hl 0 rfl) ?_
        refine g_get (C := R_M) (T := T_M) (N := 19) (ci := 8) (v := .ref (ad (3))) hx hb hg i_M hown hK hP 0 (by decide) rfl rfl 4 (by decide) (hg _ k_797) rfl d_M_found_11 ?_
        refine lv_iload_n hx hb d_M_found_14 rfl (lv_at hl 1 rfl) ?_
        refine g_iald hx hb hK hP 3 0 (by decide) rfl rfl (by decide) (j := k) (by omega) d_M_found_15 ?_
        refine n_top (y := (nI (len (k)))) ((hR.2.2.1 (k) (by omega)).2.2) ?_
        refine lv_aload_n hx hb d_M_found_16 rfl (lv_at hl 0 rfl) ?_
        refine g_get (C := R_M) (T := T_M) (N := 19) (ci := 8) (v := .int (M 0 17)) hx hb hg i_M hown hK hP 0 (by decide) rfl rfl 17 (by decide) (hg _ k_810) rfl d_M_found_17 ?_
        refine n_top (y := (nI (sl))) (hMK.2.1) ?_
        refine n_ne (a := len (k)) (b := sl) (tgt := 27) hx hb d_M_found_20 (by decide) (by have := hl24 k (by omega); omega) (by omega) (fun c_20 => ?_) (fun c_20 => ?_)
        · refine n_const (k := 0) hx hb d_M_found_27 (by decide) ?_
          refine lv_istore_n (lv' := [(2, .int (nI (0))), (0, .ref (ad (0))), (1, .int (nI (k)))]) hx hb d_M_found_28 rfl hl (by decide) rfl (fun ls hl => ?_)
          refine n_const (k := 0) hx hb d_M_found_29 (by decide) ?_
          refine lv_istore_n (lv' := [(3, .int (nI (0))), (2, .int (nI (0))), (0, .ref (ad (0))), (1, .int (nI (k)))]) hx hb d_M_found_30 rfl hl (by decide) rfl (fun ls hl => ?_)
          exact J31 (_ + 1) (0) (false) _ _ ls (Nat.lt_succ_self _) (by omega) (by omega) (by simp [c_20]) hP hS (lv_sub hl [2, 3, 1, 0] rfl)
        · refine n_const (k := 1) hx hb d_M_found_23 (by decide) ?_
          refine lv_goto (tgt := 28) hx hb d_M_found_24 (by decide) ?_
          refine lv_istore_n (lv' := [(2, .int (nI (1))), (0, .ref (ad (0))), (1, .int (nI (k)))]) hx hb d_M_found_28 rfl hl (by decide) rfl (fun ls hl => ?_)
          refine n_const (k := 0) hx hb d_M_found_29 (by decide) ?_
          refine lv_istore_n (lv' := [(3, .int (nI (0))), (2, .int (nI (1))), (0, .ref (ad (0))), (1, .int (nI (k)))]) hx hb d_M_found_30 rfl hl (by decide) rfl (fun ls hl => ?_)
          exact J31 (_ + 1) (0) (true) _ _ ls (Nat.lt_succ_self _) (by omega) (by omega) (by simp [c_20]) hP hS (lv_sub hl [2, 3, 1, 0] rfl)
  refine n_const (k := 0) hx hb d_M_found_0 (by decide) ?_
  refine lv_istore_n (lv' := [(1, .int (nI (0))), (0, .ref (ad (0)))]) hx hb d_M_found_1 rfl hl (by decide) rfl (fun ls hl => ?_)
  exact J2 (_ + 1) (0) _ _ ls (Nat.lt_succ_self _) (by omega) (by intro q hq; exact absurd hq (Nat.not_lt_zero q)) hP hS (lv_sub hl [1, 0] rfl)

set_option maxHeartbeats 4000000 in
set_option maxRecDepth 100000 in
theorem c_M_isTooMuch (l : Launch) (D : va_G) (cI cB : ClassId) (ad : Nat → Nat) (hI : GI 13 ad) (M : PM) (n : Nat) (len : Nat → Nat) (ch : Nat → Nat → Nat) (sp : Nat → Option Nat) (hR : RN M n len ch sp) (sl : Nat) (sc : Nat → Nat) (hMK : MK M sl sc) (o : Option Nat) (ho : Fst (sameT len ch sl sc) n o) (t : Bool) (ht : t = true ↔ (24 < sl ∨ (o = none ∧ n = 60))) : MM l D cI cB ad y_M_isTooMuch b_M_isTooMuch 1 (some .boolean) 2 45 [.ref (ad (0))] M (fun v M' => v = some (.int (bI (t))) ∧ M = M') := by
  refine MC.of (by decide) (Nat.le_of_ble_eq_true rfl) ?_
  intro p e s m below meth c ls hx hb hr hml hown hg hlocks hK hN hP hS hl
  have hown : s.vm.findClass R_M = some m.cls := hown
  have hl : lv_has ls 1 [(0, .ref (ad (0)))] := hl
  have hn60 : n ≤ 60 := hR.1
  have hsl64 : sl ≤ 64 := hMK.1
  have ho60 : ∀ k, o = some k → k < n := fun k h => by rw [h] at ho; exact ho.1
  refine lv_aload_n hx hb d_M_isTooMuch_0 rfl (lv_at hl 0 rfl) ?_
  refine g_get (C := R_M) (T := T_M) (N := 19) (ci := 8) (v := .int (M 0 17)) hx hb hg i_M hown hK hP 0 (by decide) rfl rfl 17 (by decide) (hg _ k_810) rfl d_M_isTooMuch_1 ?_
  refine n_top (y := (nI (sl))) (hMK.2.1) ?_
  refine n_bipush (k := 24) hx hb d_M_isTooMuch_4 (by decide) ?_
  refine n_gt (a := sl) (b := 24) (tgt := 25) hx hb d_M_isTooMuch_6 (by decide) (by omega) (by omega) (fun c_6 => ?_) (fun c_6 => ?_)
  · have h9 : t = true := ht.mpr (Or.inl c_6)
    refine n_const (k := 1) hx hb d_M_isTooMuch_25 (by decide) ?_
    refine lv_goto (tgt := 30) hx hb d_M_isTooMuch_26 (by decide) ?_
    exact r_z hx hb hr hlocks (rfl) hP hS (⟨bz1 (h9), rfl⟩) d_M_isTooMuch_30
  · refine lv_aload_n hx hb d_M_isTooMuch_9 rfl (lv_at hl 0 rfl) ?_
    refine c_V (own := R_M) (index := 68) (As := []) (rest := []) hx hb hml hown hg hK (fun _ _ _ h => h) (fun _ _ => trivial) (fun _ h => h) hP hS 0 (c_M_found l D cI cB ad hI M n len ch sp hR sl sc hMK o ho) (by decide) (ci := 8) rfl rfl k_883 k_885 k_p26 k_9 k_886 0 rfl (by decide +kernel) (by decide) rfl hl.1 (Nat.le_of_ble_eq_true rfl) d_M_isTooMuch_10 (fun v M' H locs hq hP _ _ hS => ?_)
    obtain ⟨rfl, rfl⟩ := hq
    refine W.eq (g2 := F0 m 13 ls [.int (oI (o))]) rfl ?_
    refine o_ge (o := o) (tgt := 29) hx hb d_M_isTooMuch_13 (by decide) (by intro q hq; have := ho60 q hq; omega) (fun v_13 c_13 => ?_) (fun c_13 => ?_)
    · have h9 : t = false := b_f ht (by rw [c_13]; simp; omega)
      refine n_const (k := 0) hx hb d_M_isTooMuch_29 (by decide) ?_
      exact r_z hx hb hr hlocks (rfl) hP hS (⟨bz0 (h9), rfl⟩) d_M_isTooMuch_30
    · refine lv_aload_n hx hb d_M_isTooMuch_16 rfl (lv_at hl 0 rfl) ?_
      refine g_get (C := R_M) (T := T_M) (N := 19) (ci := 8) (v := .int (M 0 5)) hx hb hg i_M hown hK hP 0 (by decide) rfl rfl 5 (by decide) (hg _ k_798) rfl d_M_isTooMuch_17 ?_
      refine n_top (y := (nI (n))) (hR.2.1) ?_
      refine n_bipush (k := 60) hx hb d_M_isTooMuch_20 (by decide) ?_
      refine n_ne (a := n) (b := 60) (tgt := 29) hx hb d_M_isTooMuch_22 (by decide) (by omega) (by omega) (fun c_22 => ?_) (fun c_22 => ?_)
      · have h9 : t = false := b_f ht (by rintro (h | h) <;> omega)
        refine n_const (k := 0) hx hb d_M_isTooMuch_29 (by decide) ?_
        exact r_z hx hb hr hlocks (rfl) hP hS (⟨bz0 (h9), rfl⟩) d_M_isTooMuch_30
      · have h9 : t = true := ht.mpr (Or.inr ⟨c_13, c_22⟩)
        refine n_const (k := 1) hx hb d_M_isTooMuch_25 (by decide) ?_
        refine lv_goto (tgt := 30) hx hb d_M_isTooMuch_26 (by decide) ?_
        exact r_z hx hb hr hlocks (rfl) hP hS (⟨bz1 (h9), rfl⟩) d_M_isTooMuch_30

set_option maxHeartbeats 4000000 in
set_option maxRecDepth 100000 in
theorem c_M_comes_old (l : Launch) (D : va_G) (cI cB : ClassId) (ad : Nat → Nat) (hI : GI 13 ad) (M : PM) (n : Nat) (len : Nat → Nat) (ch : Nat → Nat → Nat) (sp : Nat → Option Nat) (hR : RN M n len ch sp) (sl : Nat) (sc : Nat → Nat) (hMK : MK M sl sc) (k : Nat) (ho : Fst (sameT len ch sl sc) n (some k)) : MM l D cI cB ad y_M_comes b_M_comes 3 (some .int) 2 45 [.ref (ad (0))] M (fun v M' => v = some (.int (nI (k))) ∧ M = M') := by
  refine MC.of (by decide) (Nat.le_of_ble_eq_true rfl) ?_
  intro p e s m below meth c ls hx hb hr hml hown hg hlocks hK hN hP hS hl
  have hown : s.vm.findClass R_M = some m.cls := hown
  have hl : lv_has ls 3 [(0, .ref (ad (0)))] := hl
  have hn60 : n ≤ 60 := hR.1
  have hkn : k < n := ho.1
  refine lv_aload_n hx hb d_M_comes_0 rfl (lv_at hl 0 rfl) ?_
  refine c_V (own := R_M) (index := 68) (As := []) (rest := []) hx hb hml hown hg hK (fun _ _ _ h => h) (fun _ _ => trivial) (fun _ h => h) hP hS 0 (c_M_found l D cI cB ad hI M n len ch sp hR sl sc hMK (some k) ho) (by decide) (ci := 8) rfl rfl k_883 k_885 k_p26 k_9 k_886 0 rfl (by decide +kernel) (by decide) rfl hl.1 (Nat.le_of_ble_eq_true rfl) d_M_comes_1 (fun v M' H locs hq hP _ _ hS => ?_)
  obtain ⟨rfl, rfl⟩ := hq
  refine W.eq (g2 := F0 m 4 ls [.int (nI (k))]) rfl ?_
  refine lv_istore_n (lv' := [(1, .int (nI (k))), (0, .ref (ad (0)))]) hx hb d_M_comes_4 rfl hl (by decide) rfl (fun ls hl => ?_)
  refine lv_iload_n hx hb d_M_comes_5 rfl (lv_at hl 0 rfl) ?_
  refine lv_if_lt (tgt := 11) hx hb d_M_comes_6 (by decide) (fun c_6 => ?_) (fun c_6 => ?_)
  · exact absurd c_6 (nI_pos (by omega))
  · refine lv_iload_n hx hb d_M_comes_9 rfl (lv_at hl 0 rfl) ?_
    exact r_i hx hb hr hlocks hP hS (⟨rfl, rfl⟩) d_M_comes_10

set_option maxHeartbeats 4000000 in
set_option maxRecDepth 100000 in
theorem c_M_comes_new (l : Launch) (D : va_G) (cI cB : ClassId) (ad : Nat → Nat) (hI : GI 13 ad) (M : PM) (n : Nat) (len : Nat → Nat) (ch : Nat → Nat → Nat) (sp : Nat → Option Nat) (hR : RN M n len ch sp) (sl : Nat) (sc : Nat → Nat) (hMK : MK M sl sc) (ho : Fst (sameT len ch sl sc) n none) (hn : n < 60) (hs1 : 1 ≤ sl) (hs24 : sl ≤ 24) : MM l D cI cB ad y_M_comes b_M_comes 3 (some .int) 2 45 [.ref (ad (0))] M (fun v M' => v = some (.int (nI n)) ∧ CMd M M' n sl sc) := by
  refine MC.of (by decide) (Nat.le_of_ble_eq_true rfl) ?_
  intro p e s m below meth c ls hx hb hr hml hown hg hlocks hK hN hP hS hl
  have hown : s.vm.findClass R_M = some m.cls := hown
  have hl : lv_has ls 3 [(0, .ref (ad (0)))] := hl
  have hn60 : n ≤ 60 := hR.1
  have J13 : ∀ (fu13 : Nat) (i : Nat) (M1 : PM) (H : Heap) (locs : List Loc) (ls : Array Slot), sl - i < fu13 → (i ≤ sl) → (∀ q, q < i → M1 2 (24 * n + q) = nI (sc q)) → (∀ a b, ¬ (a = 2 ∧ 24 * n ≤ b ∧ b < 24 * n + i) → M1 a b = M a b) → va_P D clsA (gw 13 ad (cfM cI cB ad) M1) H → va_S (GA 13 ad) s.heap H locs → lv_has ls 3 [(0, .ref (ad (0))), (2, .int (nI (i)))] → W p l e (rm_ 2 45) s m ([.ref (ad (0))] : List Value).toArray below meth c H locs 0 0 (MQ below (GQ D 13 ad (cfM cI cB ad) (fun v M' => v = some (.int (nI n)) ∧ CMd M M' n sl sc)) ([.ref (ad (0))] : List Value).toArray s 0 0 (GA 13 ad)) (F0 m 13 ls []) := by
    intro fu13
    induction fu13 with
    | zero => intro i M1 H locs ls hfu; exact absurd hfu (Nat.not_lt_zero _)
    | succ fu13 ih13 =>
      intro i M1 H locs ls hfu13 hi hW hF hP hS hl
      have h17 : M1 0 17 = nI sl := by rw [hF 0 17 (by omega)]; exact hMK.2.1
      have h05 : M1 0 5 = nI n := by rw [hF 0 5 (by omega)]; exact hR.2.1
      have h11 : ∀ q, q < sl → M1 11 q = nI (sc q) := fun q hq => by rw [hF 11 q (by omega)]; exact (hMK.2.2 q hq).2
      refine lv_iload_n hx hb d_M_comes_13 rfl (lv_at hl 1 rfl) ?_
      refine lv_aload_n hx hb d_M_comes_14 rfl (lv_at hl 0 rfl) ?_
      refine g_get (C := R_M) (T := T_M) (N := 19) (ci := 8) (v := .int (M1 0 17)) hx hb hg i_M hown hK hP 0 (by decide) rfl rfl 17 (by decide) (hg _ k_810) rfl d_M_comes_15 ?_
      refine n_top (y := (nI (sl))) (h17) ?_
      refine n_ge (a := i) (b := sl) (tgt := 47) hx hb d_M_comes_18 (by decide) (by omega) (by omega) (fun c_18 => ?_) (fun c_18 => ?_)
      · refine lv_aload_n hx hb d_M_comes_47 rfl (lv_at hl 0 rfl) ?_
        refine g_get (C := R_M) (T := T_M) (N := 19) (ci := 8) (v := .ref (ad (3))) hx hb hg i_M hown hK hP 0 (by decide) rfl rfl 4 (by decide) (hg _ k_797) rfl d_M_comes_48 ?_
        refine lv_aload_n hx hb d_M_comes_51 rfl (lv_at hl 0 rfl) ?_
        refine g_get (C := R_M) (T := T_M) (N := 19) (ci := 8) (v := .int (M1 0 5)) hx hb hg i_M hown hK hP 0 (by decide) rfl rfl 5 (by decide) (hg _ k_798) rfl d_M_comes_52 ?_
        refine n_top (y := (nI (n))) (h05) ?_
        refine lv_aload_n hx hb d_M_comes_55 rfl (lv_at hl 0 rfl) ?_
        refine g_get (C := R_M) (T := T_M) (N := 19) (ci := 8) (v := .int (M1 0 17)) hx hb hg i_M hown hK hP 0 (by decide) rfl rfl 17 (by decide) (hg _ k_810) rfl d_M_comes_56 ?_
        refine n_top (y := (nI (sl))) (h17) ?_
        refine g_iast hx hb hK hI (fun _ h => h) hP hS 3 0 (by decide) (fun _ => rfl) rfl (by decide) (j := n) (by omega) (v := (nI (sl))) d_M_comes_59 (fun H locs hP hS => ?_)
        obtain ⟨M_1, eM_1⟩ : ∃ z : PM, z = (pu M1 3 (n) ((nI (sl)))) := ⟨_, rfl⟩
        rw [← eM_1] at hP
        refine lv_aload_n hx hb d_M_comes_60 rfl (lv_at hl 0 rfl) ?_
        refine g_get (C := R_M) (T := T_M) (N := 19) (ci := 8) (v := .ref (ad (4))) hx hb hg i_M hown hK hP 0 (by decide) rfl rfl 6 (by decide) (hg _ k_799) rfl d_M_comes_61 ?_
        refine lv_aload_n hx hb d_M_comes_64 rfl (lv_at hl 0 rfl) ?_
        refine g_get (C := R_M) (T := T_M) (N := 19) (ci := 8) (v := .int (M_1 0 5)) hx hb hg i_M hown hK hP 0 (by decide) rfl rfl 5 (by decide) (hg _ k_798) rfl d_M_comes_65 ?_
        refine n_top (y := (nI (n))) (by rw [eM_1, pu_k _ _ _ _ _ (by first | decide | omega)]; exact h05) ?_
        refine lv_iconst (v := -1) hx hb d_M_comes_68 (by decide) ?_
        refine g_iast hx hb hK hI (fun _ h => h) hP hS 4 0 (by decide) (fun _ => rfl) rfl (by decide) (j := n) (by omega) (v := (-1)) d_M_comes_69 (fun H locs hP hS => ?_)
        obtain ⟨M_2, eM_2⟩ : ∃ z : PM, z = (pu M_1 4 (n) ((-1))) := ⟨_, rfl⟩
        rw [← eM_2] at hP
        refine lv_aload_n hx hb d_M_comes_70 rfl (lv_at hl 0 rfl) ?_
        refine g_get (C := R_M) (T := T_M) (N := 19) (ci := 8) (v := .ref (ad (5))) hx hb hg i_M hown hK hP 0 (by decide) rfl rfl 7 (by decide) (hg _ k_800) rfl d_M_comes_71 ?_
        refine lv_aload_n hx hb d_M_comes_74 rfl (lv_at hl 0 rfl) ?_
        refine g_get (C := R_M) (T := T_M) (N := 19) (ci := 8) (v := .int (M_2 0 5)) hx hb hg i_M hown hK hP 0 (by decide) rfl rfl 5 (by decide) (hg _ k_798) rfl d_M_comes_75 ?_
        refine n_top (y := (nI (n))) (by rw [eM_2, pu_k _ _ _ _ _ (by first | decide | omega), eM_1, pu_k _ _ _ _ _ (by first | decide | omega)]; exact h05) ?_
        refine n_const (k := 0) hx hb d_M_comes_78 (by decide) ?_
        refine g_iast hx hb hK hI (fun _ h => h) hP hS 5 0 (by decide) (fun _ => rfl) rfl (by decide) (j := n) (by omega) (v := (nI (0))) d_M_comes_79 (fun H locs hP hS => ?_)
        obtain ⟨M_3, eM_3⟩ : ∃ z : PM, z = (pu M_2 5 (n) ((nI (0)))) := ⟨_, rfl⟩
        rw [← eM_3] at hP
        refine lv_aload_n hx hb d_M_comes_80 rfl (lv_at hl 0 rfl) ?_
        refine g_get (C := R_M) (T := T_M) (N := 19) (ci := 8) (v := .ref (ad (6))) hx hb hg i_M hown hK hP 0 (by decide) rfl rfl 8 (by decide) (hg _ k_801) rfl d_M_comes_81 ?_
        refine lv_aload_n hx hb d_M_comes_84 rfl (lv_at hl 0 rfl) ?_
        refine g_get (C := R_M) (T := T_M) (N := 19) (ci := 8) (v := .int (M_3 0 5)) hx hb hg i_M hown hK hP 0 (by decide) rfl rfl 5 (by decide) (hg _ k_798) rfl d_M_comes_85 ?_
        refine n_top (y := (nI (n))) (by rw [eM_3, pu_k _ _ _ _ _ (by first | decide | omega), eM_2, pu_k _ _ _ _ _ (by first | decide | omega), eM_1, pu_k _ _ _ _ _ (by first | decide | omega)]; exact h05) ?_
        refine lv_iconst (v := -1) hx hb d_M_comes_88 (by decide) ?_
        refine g_iast hx hb hK hI (fun _ h => h) hP hS 6 0 (by decide) (fun _ => rfl) rfl (by decide) (j := n) (by omega) (v := (-1)) d_M_comes_89 (fun H locs hP hS => ?_)
        obtain ⟨M_4, eM_4⟩ : ∃ z : PM, z = (pu M_3 6 (n) ((-1))) := ⟨_, rfl⟩
        rw [← eM_4] at hP
        refine lv_aload_n hx hb d_M_comes_90 rfl (lv_at hl 0 rfl) ?_
        refine lv_dup hx hb d_M_comes_91 rfl ?_
        refine g_get (C := R_M) (T := T_M) (N := 19) (ci := 8) (v := .int (M_4 0 5)) hx hb hg i_M hown hK hP 0 (by decide) rfl rfl 5 (by decide) (hg _ k_798) rfl d_M_comes_92 ?_
        refine n_top (y := (nI (n))) (by rw [eM_4, pu_k _ _ _ _ _ (by first | decide | omega), eM_3, pu_k _ _ _ _ _ (by first | decide | omega), eM_2, pu_k _ _ _ _ _ (by first | decide | omega), eM_1, pu_k _ _ _ _ _ (by first | decide | omega)]; exact h05) ?_
        refine lv_dup_x1 hx hb d_M_comes_95 rfl rfl ?_
        refine n_const (k := 1) hx hb d_M_comes_96 (by decide) ?_
        refine n_iadd (a := n) (b := 1) hx hb d_M_comes_97 ?_
        refine g_put (C := R_M) (T := T_M) (N := 19) (ci := 8) (v := (nI ((n) + (1)))) hx hb hg i_M ty_M t_M_ok n_M hown hK hI (fun _ h => h) hP hS 0 (by decide) rfl rfl 5 (by decide) (hg _ k_798) rfl (by decide +kernel) (Nat.le_of_ble_eq_true rfl) rfl d_M_comes_98 (fun H locs hP hS => ?_)
        obtain ⟨M_5, eM_5⟩ : ∃ z : PM, z = (pu M_4 0 5 ((nI ((n) + (1))))) := ⟨_, rfl⟩
        rw [← eM_5] at hP
        exact r_i hx hb hr hlocks hP hS (⟨rfl, (by
    refine ⟨fun q hq => ?_, ?_, ?_, ?_, ?_, ?_, fun a b g1 g2 g3 => ?_⟩
    · rw [eM_5, eM_4, eM_3, eM_2, eM_1]; simp only [pu_eq]; simp; exact hW q (by omega)
    · rw [eM_5, eM_4, eM_3, eM_2, eM_1]; simp [pu_eq]
    · rw [eM_5, eM_4, eM_3, eM_2, eM_1]; simp [pu_eq]
    · rw [eM_5, eM_4, eM_3, eM_2, eM_1]; simp [pu_eq]; rfl
    · rw [eM_5, eM_4, eM_3, eM_2, eM_1]; simp [pu_eq]
    · rw [eM_5, eM_4, eM_3, eM_2, eM_1]; simp [pu_eq]
    · rw [eM_5, eM_4, eM_3, eM_2, eM_1]
      rw [pu_eq, if_neg (by omega), pu_eq, if_neg (by omega), pu_eq, if_neg (by omega), pu_eq, if_neg (by omega), pu_eq, if_neg (by omega)]
      exact hF a b (by omega))⟩) d_M_comes_101
      · refine lv_aload_n hx hb d_M_comes_21 rfl (lv_at hl 0 rfl) ?_
        refine g_get (C := R_M) (T := T_M) (N := 19) (ci := 8) (v := .ref (ad (2))) hx hb hg i_M hown hK hP 0 (by decide) rfl rfl 3 (by decide) (hg _ k_796) rfl d_M_comes_22 ?_
        refine n_bipush (k := 24) hx hb d_M_comes_25 (by decide) ?_
        refine lv_aload_n hx hb d_M_comes_27 rfl (lv_at hl 0 rfl) ?_
        refine g_get (C := R_M) (T := T_M) (N := 19) (ci := 8) (v := .int (M1 0 5)) hx hb hg i_M hown hK hP 0 (by decide) rfl rfl 5 (by decide) (hg _ k_798) rfl d_M_comes_28 ?_
        refine n_top (y := (nI (n))) (h05) ?_
        refine n_imul (a := 24) (b := n) hx hb d_M_comes_31 ?_
        refine lv_iload_n hx hb d_M_comes_32 rfl (lv_at hl 1 rfl) ?_
        refine n_iadd (a := (24) * (n)) (b := i) hx hb d_M_comes_33 ?_
        refine lv_aload_n hx hb d_M_comes_34 rfl (lv_at hl 0 rfl) ?_
        refine g_get (C := R_M) (T := T_M) (N := 19) (ci := 8) (v := .ref (ad (11))) hx hb hg i_M hown hK hP 0 (by decide) rfl rfl 16 (by decide) (hg _ k_809) rfl d_M_comes_35 ?_
        refine lv_iload_n hx hb d_M_comes_38 rfl (lv_at hl 1 rfl) ?_
        refine g_bald hx hb hK hP 11 1 (by decide) rfl rfl (by decide) (j := i) (by omega) d_M_comes_39 ?_
        refine n_top (y := (nI (sc (i)))) (h11 (i) (by omega)) ?_
        refine g_bast hx hb hK hI (fun _ h => h) hP hS 2 1 (by decide) (fun _ => rfl) rfl (by decide) (j := ((24) * (n)) + (i)) (by omega) (v := (nI (sc (i)))) d_M_comes_40 (fun H locs hP hS => ?_)
        obtain ⟨M_6, eM_6⟩ : ∃ z : PM, z = (pu M1 2 (((24) * (n)) + (i)) (vp_nar .byte (nI (sc (i))))) := ⟨_, rfl⟩
        rw [← eM_6] at hP
        refine n_inc (lv' := [(2, .int (nI (i + 1))), (0, .ref (ad (0)))]) hx hb d_M_comes_41 hl (k := 1) rfl (by decide) rfl (fun ls hl => ?_)
        refine lv_goto (tgt := 13) hx hb d_M_comes_44 (by decide) ?_
        exact ih13 (i + 1) M_6 _ _ ls (by omega) (by omega) (fun q hq => (by
  rcases Nat.lt_succ_iff_lt_or_eq.mp hq with h | h
  · rw [eM_6, pu_j _ _ _ _ _ (by omega)]; exact hW q h
  · subst h; rw [eM_6, pu_s]; exact nbb _ (hMK.2.2 q (by omega)).1)) (fun a b h => (by
  rw [eM_6, pu_eq, if_neg (by omega)]; exact hF a b (by omega))) hP hS (lv_sub hl [1, 0] rfl)
  refine lv_aload_n hx hb d_M_comes_0 rfl (lv_at hl 0 rfl) ?_
  refine c_V (own := R_M) (index := 68) (As := []) (rest := []) hx hb hml hown hg hK (fun _ _ _ h => h) (fun _ _ => trivial) (fun _ h => h) hP hS 0 (c_M_found l D cI cB ad hI M n len ch sp hR sl sc hMK none ho) (by decide) (ci := 8) rfl rfl k_883 k_885 k_p26 k_9 k_886 0 rfl (by decide +kernel) (by decide) rfl hl.1 (Nat.le_of_ble_eq_true rfl) d_M_comes_1 (fun v M' H locs hq hP _ _ hS => ?_)
  obtain ⟨rfl, rfl⟩ := hq
  refine W.eq (g2 := F0 m 4 ls [.int (-1)]) rfl ?_
  refine lv_istore_n (lv' := [(1, .int (-1)), (0, .ref (ad (0)))]) hx hb d_M_comes_4 rfl hl (by decide) rfl (fun ls hl => ?_)
  refine lv_iload_n hx hb d_M_comes_5 rfl (lv_at hl 0 rfl) ?_
  refine lv_if_lt (tgt := 11) hx hb d_M_comes_6 (by decide) (fun c_6 => ?_) (fun c_6 => ?_)
  · refine n_const (k := 0) hx hb d_M_comes_11 (by decide) ?_
    refine lv_istore_n (lv' := [(2, .int (nI (0))), (1, .int (-1)), (0, .ref (ad (0)))]) hx hb d_M_comes_12 rfl hl (by decide) rfl (fun ls hl => ?_)
    exact J13 (_ + 1) (0) M _ _ ls (Nat.lt_succ_self _) (by omega) (fun q hq => absurd hq (Nat.not_lt_zero q)) (fun _ _ _ => rfl) hP hS (lv_sub hl [2, 0] rfl)
  · exact absurd (by decide) c_6
