set_option maxHeartbeats 4000000 in
set_option maxRecDepth 100000 in
theorem c_M_rowOf (l : Launch) (D : va_G) (cI cB : ClassId) (ad : Nat → Nat) (hI : GI 13 ad) (M : PM) (n : Nat) (hn60 : n ≤ 60) (rc : Nat) (rw_ : Nat → Nat) (hW : RW M n rc rw_) (a : Nat) (ha : a < n) (o : Option Nat) (ho : Fst (fun k => rw_ (3 * k) = a) rc o) : MM l D cI cB ad y_M_rowOf b_M_rowOf 3 (some .int) 0 0 [.ref (ad (0)), .int (nI (a))] M (fun v M' => v = some (.int (oI (o))) ∧ M = M') := by
  refine MC.of (by decide) (Nat.le_of_ble_eq_true rfl) ?_
  intro p e s m below meth c ls hx hb hr hml hown hg hlocks hK hN hP hS hl
  have hown : s.vm.findClass R_M = some m.cls := hown
  have hl : lv_has ls 3 [(0, .ref (ad (0))), (1, .int (nI (a)))] := hl
  have hrc := hW.1
  have hrw := hW.2.2
  have J2 : ∀ (fu2 : Nat) (i : Nat) (H : Heap) (locs : List Loc) (ls : Array Slot), rc - i < fu2 → (i ≤ rc) → (∀ q, q < i → ¬ rw_ (3 * q) = a) → va_P D clsA (gw 13 ad (cfM cI cB ad) M) H → va_S (GA 13 ad) s.heap H locs → lv_has ls 3 [(0, .ref (ad (0))), (1, .int (nI (a))), (2, .int (nI (i)))] → W p l e (rm_ 0 0) s m ([.ref (ad (0)), .int (nI (a))] : List Value).toArray below meth c H locs 0 0 (MQ below (GQ D 13 ad (cfM cI cB ad) (fun v M' => v = some (.int (oI (o))) ∧ M = M')) ([.ref (ad (0)), .int (nI (a))] : List Value).toArray s 0 0 (GA 13 ad)) (F0 m 2 ls []) := by
    intro fu2
    induction fu2 with
    | zero => intro i H locs ls hfu; exact absurd hfu (Nat.not_lt_zero _)
    | succ fu2 ih2 =>
      intro i H locs ls hfu2 hi hpv hP hS hl
      refine lv_iload_n hx hb d_M_rowOf_2 rfl (lv_at hl 2 rfl) ?_
      refine lv_aload_n hx hb d_M_rowOf_3 rfl (lv_at hl 0 rfl) ?_
      refine g_get (C := R_M) (T := T_M) (N := 19) (ci := 8) (v := .int (M 0 10)) hx hb hg i_M hown hK hP 0 (by decide) rfl rfl 10 (by decide) (hg _ k_803) rfl d_M_rowOf_4 ?_
      refine n_top (y := (nI (rc))) (hW.2.1) ?_
      refine n_ge (a := i) (b := rc) (tgt := 30) hx hb d_M_rowOf_7 (by decide) (by omega) (by omega) (fun c_7 => ?_) (fun c_7 => ?_)
      · refine lv_iconst (v := -1) hx hb d_M_rowOf_30 (by decide) ?_
        exact r_i hx hb hr hlocks hP hS (⟨by rw [ho.no (fun j hj => hpv j (by omega))]; rfl, rfl⟩) d_M_rowOf_31
      · refine lv_aload_n hx hb d_M_rowOf_10 rfl (lv_at hl 0 rfl) ?_
        refine g_get (C := R_M) (T := T_M) (N := 19) (ci := 8) (v := .ref (ad (7))) hx hb hg i_M hown hK hP 0 (by decide) rfl rfl 9 (by decide) (hg _ k_802) rfl d_M_rowOf_11 ?_
        refine n_const (k := 3) hx hb d_M_rowOf_14 (by decide) ?_
        refine lv_iload_n hx hb d_M_rowOf_15 rfl (lv_at hl 2 rfl) ?_
        refine n_imul (a := 3) (b := i) hx hb d_M_rowOf_16 ?_
        refine g_iald hx hb hK hP 7 0 (by decide) rfl rfl (by decide) (j := (3) * (i)) (by omega) d_M_rowOf_17 ?_
        refine n_top (y := (nI (rw_ ((3) * (i))))) ((hW.2.2 ((3) * (i)) (by omega)).2) ?_
        refine lv_iload_n hx hb d_M_rowOf_18 rfl (lv_at hl 1 rfl) ?_
        refine n_ne (a := rw_ ((3) * (i))) (b := a) (tgt := 24) hx hb d_M_rowOf_19 (by decide) (by have := hrw (3 * i) (by omega); omega) (by omega) (fun c_19 => ?_) (fun c_19 => ?_)
        · refine n_inc (lv' := [(2, .int (nI (i + 1))), (0, .ref (ad (0))), (1, .int (nI (a)))]) hx hb d_M_rowOf_24 hl (k := 2) rfl (by decide) rfl (fun ls hl => ?_)
          refine lv_goto (tgt := 2) hx hb d_M_rowOf_27 (by decide) ?_
          exact ih2 (i + 1) _ _ ls (by omega) (by omega) (lt_S hpv c_19) hP hS (lv_sub hl [1, 2, 0] rfl)
        · refine lv_iload_n hx hb d_M_rowOf_22 rfl (lv_at hl 2 rfl) ?_
          exact r_i hx hb hr hlocks hP hS (⟨by rw [ho.is (by omega) c_19 hpv]; rfl, rfl⟩) d_M_rowOf_23
  refine n_const (k := 0) hx hb d_M_rowOf_0 (by decide) ?_
  refine lv_istore_n (lv' := [(2, .int (nI (0))), (0, .ref (ad (0))), (1, .int (nI (a)))]) hx hb d_M_rowOf_1 rfl hl (by decide) rfl (fun ls hl => ?_)
  exact J2 (_ + 1) (0) _ _ ls (Nat.lt_succ_self _) (by omega) (by intro q hq; exact absurd hq (Nat.not_lt_zero q)) hP hS (lv_sub hl [1, 2, 0] rfl)

set_option maxHeartbeats 4000000 in
set_option maxRecDepth 100000 in
theorem c_M_clash_1 (l : Launch) (D : va_G) (cI cB : ClassId) (ad : Nat → Nat) (hI : GI 13 ad) (M : PM) (x : Int32) (hbad : ¬ ∃ c, c ≤ 2 ∧ x = nI c) : MM l D cI cB ad y_M_clash b_M_clash 2 (some .int) 1 21 [.ref (ad (0)), .int (x)] M (fun v M' => v = some (.int (nI 0)) ∧ M' = pu M 0 0 (nI 1)) := by
  refine MC.of (by decide) (Nat.le_of_ble_eq_true rfl) ?_
  intro p e s m below meth c ls hx hb hr hml hown hg hlocks hK hN hP hS hl
  have hown : s.vm.findClass R_M = some m.cls := hown
  have hl : lv_has ls 2 [(0, .ref (ad (0))), (1, .int (x))] := hl
  refine lv_aload_n hx hb d_M_clash_0 rfl (lv_at hl 0 rfl) ?_
  refine lv_iload_n hx hb d_M_clash_1 rfl (lv_at hl 1 rfl) ?_
  refine lv_if_lt (tgt := 10) hx hb d_M_clash_2 (by decide) (fun c_2 => ?_) (fun c_2 => ?_)
  · refine n_const (k := 1) hx hb d_M_clash_10 (by decide) ?_
    refine lv_goto (tgt := 15) hx hb d_M_clash_11 (by decide) ?_
    refine c_V (own := R_M) (index := 57) (As := [.int (nI (1))]) (rest := []) hx hb hml hown hg hK (fun _ _ _ h => h) (fun _ _ => trivial) (fun _ h => h) hP hS 0 (c_M_refuses l D cI cB ad hI M (1) (by decide)) (by decide) (ci := 8) rfl rfl k_859 k_861 k_p22 k_9 k_862 1 rfl (by decide +kernel) (by decide) rfl hl.1 (Nat.le_of_ble_eq_true rfl) d_M_clash_15 (fun v M_1 H locs hq hP _ _ hS => ?_)
    obtain ⟨rfl, eM_1⟩ := hq
    refine W.eq (g2 := F0 m 18 ls [.int (bI (true))]) rfl ?_
    refine z_eq (t := true) (tgt := 25) hx hb d_M_clash_18 (by decide) (fun h9 => absurd h9 (by decide)) (fun _ => ?_)
    refine n_const (k := 0) hx hb d_M_clash_21 (by decide) ?_
    refine lv_goto (tgt := 31) hx hb d_M_clash_22 (by decide) ?_
    exact r_i hx hb hr hlocks hP hS (⟨rfl, eM_1⟩) d_M_clash_31
  · refine lv_iload_n hx hb d_M_clash_5 rfl (lv_at hl 1 rfl) ?_
    refine n_const (k := 2) hx hb d_M_clash_6 (by decide) ?_
    refine lv_icmp_le (tgt := 14) hx hb d_M_clash_7 (by decide) (fun c_7 => ?_) (fun c_7 => ?_)
    · exact absurd (rng (a := 0) (by decide) c_2 c_7 (by decide)) (fun ⟨c, _, h2, h3⟩ => hbad ⟨c, h2, h3⟩)
    · refine n_const (k := 1) hx hb d_M_clash_10 (by decide) ?_
      refine lv_goto (tgt := 15) hx hb d_M_clash_11 (by decide) ?_
      refine c_V (own := R_M) (index := 57) (As := [.int (nI (1))]) (rest := []) hx hb hml hown hg hK (fun _ _ _ h => h) (fun _ _ => trivial) (fun _ h => h) hP hS 0 (c_M_refuses l D cI cB ad hI M (1) (by decide)) (by decide) (ci := 8) rfl rfl k_859 k_861 k_p22 k_9 k_862 1 rfl (by decide +kernel) (by decide) rfl hl.1 (Nat.le_of_ble_eq_true rfl) d_M_clash_15 (fun v M_2 H locs hq hP _ _ hS => ?_)
      obtain ⟨rfl, eM_2⟩ := hq
      refine W.eq (g2 := F0 m 18 ls [.int (bI (true))]) rfl ?_
      refine z_eq (t := true) (tgt := 25) hx hb d_M_clash_18 (by decide) (fun h9 => absurd h9 (by decide)) (fun _ => ?_)
      refine n_const (k := 0) hx hb d_M_clash_21 (by decide) ?_
      refine lv_goto (tgt := 31) hx hb d_M_clash_22 (by decide) ?_
      exact r_i hx hb hr hlocks hP hS (⟨rfl, eM_2⟩) d_M_clash_31

set_option maxHeartbeats 4000000 in
set_option maxRecDepth 100000 in
theorem c_M_clash (l : Launch) (D : va_G) (cI cB : ClassId) (ad : Nat → Nat) (hI : GI 13 ad) (M : PM) (c9 : Nat) (h2 : c9 ≤ 2) : MM l D cI cB ad y_M_clash b_M_clash 2 (some .int) 1 21 [.ref (ad (0)), .int (nI (c9))] M (fun v M' => v = some (.int (M 10 c9)) ∧ M' = pu M 0 0 (nI 0)) := by
  refine MC.of (by decide) (Nat.le_of_ble_eq_true rfl) ?_
  intro p e s m below meth c ls hx hb hr hml hown hg hlocks hK hN hP hS hl
  have hown : s.vm.findClass R_M = some m.cls := hown
  have hl : lv_has ls 2 [(0, .ref (ad (0))), (1, .int (nI (c9)))] := hl
  refine lv_aload_n hx hb d_M_clash_0 rfl (lv_at hl 0 rfl) ?_
  refine lv_iload_n hx hb d_M_clash_1 rfl (lv_at hl 1 rfl) ?_
  refine lv_if_lt (tgt := 10) hx hb d_M_clash_2 (by decide) (fun c_2 => ?_) (fun c_2 => ?_)
  · exact absurd c_2 (nI_pos (by omega))
  · refine lv_iload_n hx hb d_M_clash_5 rfl (lv_at hl 1 rfl) ?_
    refine n_const (k := 2) hx hb d_M_clash_6 (by decide) ?_
    refine n_le (a := c9) (b := 2) (tgt := 14) hx hb d_M_clash_7 (by decide) (by omega) (by omega) (fun c_7 => ?_) (fun c_7 => ?_)
    · refine n_const (k := 0) hx hb d_M_clash_14 (by decide) ?_
      refine c_V (own := R_M) (index := 57) (As := [.int (nI (0))]) (rest := []) hx hb hml hown hg hK (fun _ _ _ h => h) (fun _ _ => trivial) (fun _ h => h) hP hS 0 (c_M_refuses l D cI cB ad hI M (0) (by decide)) (by decide) (ci := 8) rfl rfl k_859 k_861 k_p22 k_9 k_862 1 rfl (by decide +kernel) (by decide) rfl hl.1 (Nat.le_of_ble_eq_true rfl) d_M_clash_15 (fun v M_1 H locs hq hP _ _ hS => ?_)
      obtain ⟨rfl, eM_1⟩ := hq
      refine W.eq (g2 := F0 m 18 ls [.int (bI (false))]) rfl ?_
      refine z_eq (t := false) (tgt := 25) hx hb d_M_clash_18 (by decide) (fun _ => ?_) (fun h9 => absurd h9 (by decide))
      refine lv_aload_n hx hb d_M_clash_25 rfl (lv_at hl 0 rfl) ?_
      refine g_get (C := R_M) (T := T_M) (N := 19) (ci := 8) (v := .ref (ad (10))) hx hb hg i_M hown hK hP 0 (by decide) rfl rfl 15 (by decide) (hg _ k_808) rfl d_M_clash_26 ?_
      refine lv_iload_n hx hb d_M_clash_29 rfl (lv_at hl 1 rfl) ?_
      refine g_iald hx hb hK hP 10 0 (by decide) rfl rfl (by decide) (j := c9) (by omega) d_M_clash_30 ?_
      refine n_top (y := (M 10 (c9))) (by rw [eM_1, pu_k _ _ _ _ _ (by first | decide | omega)]) ?_
      exact r_i hx hb hr hlocks hP hS (⟨rfl, eM_1⟩) d_M_clash_31
    · exact absurd c_7 (by omega)

set_option maxHeartbeats 4000000 in
set_option maxRecDepth 100000 in
theorem c_M_letter_0 (l : Launch) (D : va_G) (cI cB : ClassId) (ad : Nat → Nat) (hI : GI 13 ad) (M : PM) (pl : Nat) (pc9 : Nat → Nat) (hRP : RP M pl pc9) (x : Int32) (hbad : ¬ ∃ c, c < pl ∧ x = nI c) : MM l D cI cB ad y_M_letter b_M_letter 2 (some .char) 0 0 [.ref (ad (0)), .int (x)] M (fun v M' => v = some (.int (nI 0)) ∧ M' = pu M 0 0 (nI 0)) := by
  refine MC.of (by decide) (Nat.le_of_ble_eq_true rfl) ?_
  intro p e s m below meth c ls hx hb hr hml hown hg hlocks hK hN hP hS hl
  have hown : s.vm.findClass R_M = some m.cls := hown
  have hl : lv_has ls 2 [(0, .ref (ad (0))), (1, .int (x))] := hl
  have hpl := hRP.1
  have hcase := pk_ix x (n := pl) (by omega)
  refine lv_aload_n hx hb d_M_letter_0 rfl (lv_at hl 0 rfl) ?_
  refine n_const (k := 0) hx hb d_M_letter_1 (by decide) ?_
  refine g_put (C := R_M) (T := T_M) (N := 19) (ci := 8) (v := (nI (0))) hx hb hg i_M ty_M t_M_ok n_M hown hK hI (fun _ h => h) hP hS 0 (by decide) rfl rfl 0 (by decide) (hg _ k_793) rfl (by decide +kernel) (Nat.le_of_ble_eq_true rfl) rfl d_M_letter_2 (fun H locs hP hS => ?_)
  obtain ⟨M_1, eM_1⟩ : ∃ z : PM, z = (pu M 0 0 ((nI (0)))) := ⟨_, rfl⟩
  rw [← eM_1] at hP
  refine lv_iload_n hx hb d_M_letter_5 rfl (lv_at hl 1 rfl) ?_
  refine lv_if_lt (tgt := 17) hx hb d_M_letter_6 (by decide) (fun c_6 => ?_) (fun c_6 => ?_)
  · refine n_const (k := 0) hx hb d_M_letter_17 (by decide) ?_
    refine lv_goto (tgt := 28) hx hb d_M_letter_18 (by decide) ?_
    exact r_z hx hb hr hlocks (rfl) hP hS (⟨rfl, eM_1⟩) d_M_letter_28
  · refine lv_iload_n hx hb d_M_letter_9 rfl (lv_at hl 1 rfl) ?_
    refine lv_aload_n hx hb d_M_letter_10 rfl (lv_at hl 0 rfl) ?_
    refine g_get (C := R_M) (T := T_M) (N := 19) (ci := 8) (v := .int (M_1 0 14)) hx hb hg i_M hown hK hP 0 (by decide) rfl rfl 14 (by decide) (hg _ k_807) rfl d_M_letter_11 ?_
    refine n_top (y := (nI (pl))) (by rw [eM_1, pu_j _ _ _ _ _ (by first | decide | omega)]; exact hRP.2.1) ?_
    refine lv_icmp_lt (tgt := 21) hx hb d_M_letter_14 (by decide) (fun c_14 => ?_) (fun c_14 => ?_)
    · exact absurd (by
  rcases hcase with q | q | q
  · exact absurd q c_6
  · exact absurd c_14 (Int32.not_lt.mpr q)
  · exact q) hbad
    · refine n_const (k := 0) hx hb d_M_letter_17 (by decide) ?_
      refine lv_goto (tgt := 28) hx hb d_M_letter_18 (by decide) ?_
      exact r_z hx hb hr hlocks (rfl) hP hS (⟨rfl, eM_1⟩) d_M_letter_28

set_option maxHeartbeats 4000000 in
set_option maxRecDepth 100000 in
theorem c_M_letter (l : Launch) (D : va_G) (cI cB : ClassId) (ad : Nat → Nat) (hI : GI 13 ad) (M : PM) (pl : Nat) (pc9 : Nat → Nat) (hRP : RP M pl pc9) (c9 : Nat) (h2 : c9 < pl) : MM l D cI cB ad y_M_letter b_M_letter 2 (some .char) 0 0 [.ref (ad (0)), .int (nI (c9))] M (fun v M' => v = some (.int (nI (pc9 c9))) ∧ M' = pu M 0 0 (nI 0)) := by
  refine MC.of (by decide) (Nat.le_of_ble_eq_true rfl) ?_
  intro p e s m below meth c ls hx hb hr hml hown hg hlocks hK hN hP hS hl
  have hown : s.vm.findClass R_M = some m.cls := hown
  have hl : lv_has ls 2 [(0, .ref (ad (0))), (1, .int (nI (c9)))] := hl
  have hpl := hRP.1
  have hpc := hRP.2.2 c9 h2
  refine lv_aload_n hx hb d_M_letter_0 rfl (lv_at hl 0 rfl) ?_
  refine n_const (k := 0) hx hb d_M_letter_1 (by decide) ?_
  refine g_put (C := R_M) (T := T_M) (N := 19) (ci := 8) (v := (nI (0))) hx hb hg i_M ty_M t_M_ok n_M hown hK hI (fun _ h => h) hP hS 0 (by decide) rfl rfl 0 (by decide) (hg _ k_793) rfl (by decide +kernel) (Nat.le_of_ble_eq_true rfl) rfl d_M_letter_2 (fun H locs hP hS => ?_)
  obtain ⟨M_1, eM_1⟩ : ∃ z : PM, z = (pu M 0 0 ((nI (0)))) := ⟨_, rfl⟩
  rw [← eM_1] at hP
  refine lv_iload_n hx hb d_M_letter_5 rfl (lv_at hl 1 rfl) ?_
  refine lv_if_lt (tgt := 17) hx hb d_M_letter_6 (by decide) (fun c_6 => ?_) (fun c_6 => ?_)
  · exact absurd c_6 (nI_pos (by omega))
  · refine lv_iload_n hx hb d_M_letter_9 rfl (lv_at hl 1 rfl) ?_
    refine lv_aload_n hx hb d_M_letter_10 rfl (lv_at hl 0 rfl) ?_
    refine g_get (C := R_M) (T := T_M) (N := 19) (ci := 8) (v := .int (M_1 0 14)) hx hb hg i_M hown hK hP 0 (by decide) rfl rfl 14 (by decide) (hg _ k_807) rfl d_M_letter_11 ?_
    refine n_top (y := (nI (pl))) (by rw [eM_1, pu_j _ _ _ _ _ (by first | decide | omega)]; exact hRP.2.1) ?_
    refine n_lt (a := c9) (b := pl) (tgt := 21) hx hb d_M_letter_14 (by decide) (by omega) (by omega) (fun c_14 => ?_) (fun c_14 => ?_)
    · refine lv_aload_n hx hb d_M_letter_21 rfl (lv_at hl 0 rfl) ?_
      refine g_get (C := R_M) (T := T_M) (N := 19) (ci := 8) (v := .ref (ad (9))) hx hb hg i_M hown hK hP 0 (by decide) rfl rfl 13 (by decide) (hg _ k_806) rfl d_M_letter_22 ?_
      refine lv_iload_n hx hb d_M_letter_25 rfl (lv_at hl 1 rfl) ?_
      refine g_bald hx hb hK hP 9 1 (by decide) rfl rfl (by decide) (j := c9) (by omega) d_M_letter_26 ?_
      refine n_top (y := (nI (pc9 (c9)))) (by rw [eM_1, pu_k _ _ _ _ _ (by first | decide | omega)]; exact (hRP.2.2 (c9) (by omega)).2.2) ?_
      refine lv_i2c (v := nI (pc9 (c9))) hx hb d_M_letter_27 (nb16 _ (by omega)) ?_
      exact r_z hx hb hr hlocks ((pk_charN (by omega)).1) hP hS (⟨rfl, eM_1⟩) d_M_letter_28
    · exact absurd c_14 (by omega)

set_option maxHeartbeats 4000000 in
set_option maxRecDepth 100000 in
theorem c_M_told2_1 (l : Launch) (D : va_G) (cI cB : ClassId) (ad : Nat → Nat) (hI : GI 13 ad) (M : PM) (n : Nat) (hn60 : n ≤ 60) (rc : Nat) (rw_ : Nat → Nat) (hW : RW M n rc rw_) (x y : Int32) (hbad : ¬ ∃ j, j < rc ∧ x = nI j) : MM l D cI cB ad y_M_told2 b_M_told2 3 (some .int) 1 21 [.ref (ad (0)), .int (x), .int (y)] M (fun v M' => v = some (.int (nI 0)) ∧ M' = pu M 0 0 (nI 1)) := by
  refine MC.of (by decide) (Nat.le_of_ble_eq_true rfl) ?_
  intro p e s m below meth c ls hx hb hr hml hown hg hlocks hK hN hP hS hl
  have hown : s.vm.findClass R_M = some m.cls := hown
  have hl : lv_has ls 3 [(0, .ref (ad (0))), (1, .int (x)), (2, .int (y))] := hl
  have hrc := hW.1
  have hcase := pk_ix x (n := rc) (by omega)
  refine lv_aload_n hx hb d_M_told2_0 rfl (lv_at hl 0 rfl) ?_
  refine lv_iload_n hx hb d_M_told2_1 rfl (lv_at hl 1 rfl) ?_
  refine lv_if_lt (tgt := 13) hx hb d_M_told2_2 (by decide) (fun c_2 => ?_) (fun c_2 => ?_)
  · refine n_const (k := 1) hx hb d_M_told2_13 (by decide) ?_
    refine lv_goto (tgt := 31) hx hb d_M_told2_14 (by decide) ?_
    refine c_V (own := R_M) (index := 57) (As := [.int (nI (1))]) (rest := []) hx hb hml hown hg hK (fun _ _ _ h => h) (fun _ _ => trivial) (fun _ h => h) hP hS 0 (c_M_refuses l D cI cB ad hI M (1) (by decide)) (by decide) (ci := 8) rfl rfl k_859 k_861 k_p22 k_9 k_862 1 rfl (by decide +kernel) (by decide) rfl hl.1 (Nat.le_of_ble_eq_true rfl) d_M_told2_31 (fun v M_1 H locs hq hP _ _ hS => ?_)
    obtain ⟨rfl, eM_1⟩ := hq
    refine W.eq (g2 := F0 m 34 ls [.int (bI (true))]) rfl ?_
    refine z_eq (t := true) (tgt := 41) hx hb d_M_told2_34 (by decide) (fun h9 => absurd h9 (by decide)) (fun _ => ?_)
    refine n_const (k := 0) hx hb d_M_told2_37 (by decide) ?_
    refine lv_goto (tgt := 51) hx hb d_M_told2_38 (by decide) ?_
    exact r_i hx hb hr hlocks hP hS (⟨rfl, eM_1⟩) d_M_told2_51
  · refine lv_iload_n hx hb d_M_told2_5 rfl (lv_at hl 1 rfl) ?_
    refine lv_aload_n hx hb d_M_told2_6 rfl (lv_at hl 0 rfl) ?_
    refine g_get (C := R_M) (T := T_M) (N := 19) (ci := 8) (v := .int (M 0 10)) hx hb hg i_M hown hK hP 0 (by decide) rfl rfl 10 (by decide) (hg _ k_803) rfl d_M_told2_7 ?_
    refine n_top (y := (nI (rc))) (hW.2.1) ?_
    refine lv_icmp_lt (tgt := 17) hx hb d_M_told2_10 (by decide) (fun c_10 => ?_) (fun c_10 => ?_)
    · exact absurd (by
  rcases hcase with q | q | q
  · exact absurd q c_2
  · exact absurd c_10 (Int32.not_lt.mpr q)
  · exact q) hbad
    · refine n_const (k := 1) hx hb d_M_told2_13 (by decide) ?_
      refine lv_goto (tgt := 31) hx hb d_M_told2_14 (by decide) ?_
      refine c_V (own := R_M) (index := 57) (As := [.int (nI (1))]) (rest := []) hx hb hml hown hg hK (fun _ _ _ h => h) (fun _ _ => trivial) (fun _ h => h) hP hS 0 (c_M_refuses l D cI cB ad hI M (1) (by decide)) (by decide) (ci := 8) rfl rfl k_859 k_861 k_p22 k_9 k_862 1 rfl (by decide +kernel) (by decide) rfl hl.1 (Nat.le_of_ble_eq_true rfl) d_M_told2_31 (fun v M_2 H locs hq hP _ _ hS => ?_)
      obtain ⟨rfl, eM_2⟩ := hq
      refine W.eq (g2 := F0 m 34 ls [.int (bI (true))]) rfl ?_
      refine z_eq (t := true) (tgt := 41) hx hb d_M_told2_34 (by decide) (fun h9 => absurd h9 (by decide)) (fun _ => ?_)
      refine n_const (k := 0) hx hb d_M_told2_37 (by decide) ?_
      refine lv_goto (tgt := 51) hx hb d_M_told2_38 (by decide) ?_
      exact r_i hx hb hr hlocks hP hS (⟨rfl, eM_2⟩) d_M_told2_51

set_option maxHeartbeats 4000000 in
set_option maxRecDepth 100000 in
theorem c_M_told2_2 (l : Launch) (D : va_G) (cI cB : ClassId) (ad : Nat → Nat) (hI : GI 13 ad) (M : PM) (n : Nat) (hn60 : n ≤ 60) (rc : Nat) (rw_ : Nat → Nat) (hW : RW M n rc rw_) (a : Nat) (ha : a < rc) (y : Int32) (hbad : ¬ ∃ c, c ≤ 2 ∧ y = nI c) : MM l D cI cB ad y_M_told2 b_M_told2 3 (some .int) 1 21 [.ref (ad (0)), .int (nI (a)), .int (y)] M (fun v M' => v = some (.int (nI 0)) ∧ M' = pu M 0 0 (nI 2)) := by
  refine MC.of (by decide) (Nat.le_of_ble_eq_true rfl) ?_
  intro p e s m below meth c ls hx hb hr hml hown hg hlocks hK hN hP hS hl
  have hown : s.vm.findClass R_M = some m.cls := hown
  have hl : lv_has ls 3 [(0, .ref (ad (0))), (1, .int (nI (a))), (2, .int (y))] := hl
  have hrc := hW.1
  refine lv_aload_n hx hb d_M_told2_0 rfl (lv_at hl 0 rfl) ?_
  refine lv_iload_n hx hb d_M_told2_1 rfl (lv_at hl 1 rfl) ?_
  refine lv_if_lt (tgt := 13) hx hb d_M_told2_2 (by decide) (fun c_2 => ?_) (fun c_2 => ?_)
  · exact absurd c_2 (nI_pos (by omega))
  · refine lv_iload_n hx hb d_M_told2_5 rfl (lv_at hl 1 rfl) ?_
    refine lv_aload_n hx hb d_M_told2_6 rfl (lv_at hl 0 rfl) ?_
    refine g_get (C := R_M) (T := T_M) (N := 19) (ci := 8) (v := .int (M 0 10)) hx hb hg i_M hown hK hP 0 (by decide) rfl rfl 10 (by decide) (hg _ k_803) rfl d_M_told2_7 ?_
    refine n_top (y := (nI (rc))) (hW.2.1) ?_
    refine n_lt (a := a) (b := rc) (tgt := 17) hx hb d_M_told2_10 (by decide) (by omega) (by omega) (fun c_10 => ?_) (fun c_10 => ?_)
    · refine lv_iload_n hx hb d_M_told2_17 rfl (lv_at hl 2 rfl) ?_
      refine lv_if_lt (tgt := 26) hx hb d_M_told2_18 (by decide) (fun c_18 => ?_) (fun c_18 => ?_)
      · refine n_const (k := 2) hx hb d_M_told2_26 (by decide) ?_
        refine lv_goto (tgt := 31) hx hb d_M_told2_27 (by decide) ?_
        refine c_V (own := R_M) (index := 57) (As := [.int (nI (2))]) (rest := []) hx hb hml hown hg hK (fun _ _ _ h => h) (fun _ _ => trivial) (fun _ h => h) hP hS 0 (c_M_refuses l D cI cB ad hI M (2) (by decide)) (by decide) (ci := 8) rfl rfl k_859 k_861 k_p22 k_9 k_862 1 rfl (by decide +kernel) (by decide) rfl hl.1 (Nat.le_of_ble_eq_true rfl) d_M_told2_31 (fun v M_1 H locs hq hP _ _ hS => ?_)
        obtain ⟨rfl, eM_1⟩ := hq
        refine W.eq (g2 := F0 m 34 ls [.int (bI (true))]) rfl ?_
        refine z_eq (t := true) (tgt := 41) hx hb d_M_told2_34 (by decide) (fun h9 => absurd h9 (by decide)) (fun _ => ?_)
        refine n_const (k := 0) hx hb d_M_told2_37 (by decide) ?_
        refine lv_goto (tgt := 51) hx hb d_M_told2_38 (by decide) ?_
        exact r_i hx hb hr hlocks hP hS (⟨rfl, eM_1⟩) d_M_told2_51
      · refine lv_iload_n hx hb d_M_told2_21 rfl (lv_at hl 2 rfl) ?_
        refine n_const (k := 2) hx hb d_M_told2_22 (by decide) ?_
        refine lv_icmp_le (tgt := 30) hx hb d_M_told2_23 (by decide) (fun c_23 => ?_) (fun c_23 => ?_)
        · exact absurd (rng (a := 0) (by decide) c_18 c_23 (by decide)) (fun ⟨c, _, h2, h3⟩ => hbad ⟨c, h2, h3⟩)
        · refine n_const (k := 2) hx hb d_M_told2_26 (by decide) ?_
          refine lv_goto (tgt := 31) hx hb d_M_told2_27 (by decide) ?_
          refine c_V (own := R_M) (index := 57) (As := [.int (nI (2))]) (rest := []) hx hb hml hown hg hK (fun _ _ _ h => h) (fun _ _ => trivial) (fun _ h => h) hP hS 0 (c_M_refuses l D cI cB ad hI M (2) (by decide)) (by decide) (ci := 8) rfl rfl k_859 k_861 k_p22 k_9 k_862 1 rfl (by decide +kernel) (by decide) rfl hl.1 (Nat.le_of_ble_eq_true rfl) d_M_told2_31 (fun v M_2 H locs hq hP _ _ hS => ?_)
          obtain ⟨rfl, eM_2⟩ := hq
          refine W.eq (g2 := F0 m 34 ls [.int (bI (true))]) rfl ?_
          refine z_eq (t := true) (tgt := 41) hx hb d_M_told2_34 (by decide) (fun h9 => absurd h9 (by decide)) (fun _ => ?_)
          refine n_const (k := 0) hx hb d_M_told2_37 (by decide) ?_
          refine lv_goto (tgt := 51) hx hb d_M_told2_38 (by decide) ?_
          exact r_i hx hb hr hlocks hP hS (⟨rfl, eM_2⟩) d_M_told2_51
    · exact absurd c_10 (by omega)

set_option maxHeartbeats 4000000 in
set_option maxRecDepth 100000 in
theorem c_M_told2 (l : Launch) (D : va_G) (cI cB : ClassId) (ad : Nat → Nat) (hI : GI 13 ad) (M : PM) (n : Nat) (hn60 : n ≤ 60) (rc : Nat) (rw_ : Nat → Nat) (hW : RW M n rc rw_) (a : Nat) (ha : a < rc) (c9 : Nat) (h2 : c9 ≤ 2) : MM l D cI cB ad y_M_told2 b_M_told2 3 (some .int) 1 21 [.ref (ad (0)), .int (nI (a)), .int (nI (c9))] M (fun v M' => v = some (.int (nI (rw_ (3 * a + c9)))) ∧ M' = pu M 0 0 (nI 0)) := by
  refine MC.of (by decide) (Nat.le_of_ble_eq_true rfl) ?_
  intro p e s m below meth c ls hx hb hr hml hown hg hlocks hK hN hP hS hl
  have hown : s.vm.findClass R_M = some m.cls := hown
  have hl : lv_has ls 3 [(0, .ref (ad (0))), (1, .int (nI (a))), (2, .int (nI (c9)))] := hl
  have hrc := hW.1
  refine lv_aload_n hx hb d_M_told2_0 rfl (lv_at hl 0 rfl) ?_
  refine lv_iload_n hx hb d_M_told2_1 rfl (lv_at hl 1 rfl) ?_
  refine lv_if_lt (tgt := 13) hx hb d_M_told2_2 (by decide) (fun c_2 => ?_) (fun c_2 => ?_)
  · exact absurd c_2 (nI_pos (by omega))
  · refine lv_iload_n hx hb d_M_told2_5 rfl (lv_at hl 1 rfl) ?_
    refine lv_aload_n hx hb d_M_told2_6 rfl (lv_at hl 0 rfl) ?_
    refine g_get (C := R_M) (T := T_M) (N := 19) (ci := 8) (v := .int (M 0 10)) hx hb hg i_M hown hK hP 0 (by decide) rfl rfl 10 (by decide) (hg _ k_803) rfl d_M_told2_7 ?_
    refine n_top (y := (nI (rc))) (hW.2.1) ?_
    refine n_lt (a := a) (b := rc) (tgt := 17) hx hb d_M_told2_10 (by decide) (by omega) (by omega) (fun c_10 => ?_) (fun c_10 => ?_)
    · refine lv_iload_n hx hb d_M_told2_17 rfl (lv_at hl 2 rfl) ?_
      refine lv_if_lt (tgt := 26) hx hb d_M_told2_18 (by decide) (fun c_18 => ?_) (fun c_18 => ?_)
      · exact absurd c_18 (nI_pos (by omega))
      · refine lv_iload_n hx hb d_M_told2_21 rfl (lv_at hl 2 rfl) ?_
        refine n_const (k := 2) hx hb d_M_told2_22 (by decide) ?_
        refine n_le (a := c9) (b := 2) (tgt := 30) hx hb d_M_told2_23 (by decide) (by omega) (by omega) (fun c_23 => ?_) (fun c_23 => ?_)
        · refine n_const (k := 0) hx hb d_M_told2_30 (by decide) ?_
          refine c_V (own := R_M) (index := 57) (As := [.int (nI (0))]) (rest := []) hx hb hml hown hg hK (fun _ _ _ h => h) (fun _ _ => trivial) (fun _ h => h) hP hS 0 (c_M_refuses l D cI cB ad hI M (0) (by decide)) (by decide) (ci := 8) rfl rfl k_859 k_861 k_p22 k_9 k_862 1 rfl (by decide +kernel) (by decide) rfl hl.1 (Nat.le_of_ble_eq_true rfl) d_M_told2_31 (fun v M_1 H locs hq hP _ _ hS => ?_)
          obtain ⟨rfl, eM_1⟩ := hq
          refine W.eq (g2 := F0 m 34 ls [.int (bI (false))]) rfl ?_
          refine z_eq (t := false) (tgt := 41) hx hb d_M_told2_34 (by decide) (fun _ => ?_) (fun h9 => absurd h9 (by decide))
          refine lv_aload_n hx hb d_M_told2_41 rfl (lv_at hl 0 rfl) ?_
          refine g_get (C := R_M) (T := T_M) (N := 19) (ci := 8) (v := .ref (ad (7))) hx hb hg i_M hown hK hP 0 (by decide) rfl rfl 9 (by decide) (hg _ k_802) rfl d_M_told2_42 ?_
          refine n_const (k := 3) hx hb d_M_told2_45 (by decide) ?_
          refine lv_iload_n hx hb d_M_told2_46 rfl (lv_at hl 1 rfl) ?_
          refine n_imul (a := 3) (b := a) hx hb d_M_told2_47 ?_
          refine lv_iload_n hx hb d_M_told2_48 rfl (lv_at hl 2 rfl) ?_
          refine n_iadd (a := (3) * (a)) (b := c9) hx hb d_M_told2_49 ?_
          refine g_iald hx hb hK hP 7 0 (by decide) rfl rfl (by decide) (j := ((3) * (a)) + (c9)) (by omega) d_M_told2_50 ?_
          refine n_top (y := (nI (rw_ (((3) * (a)) + (c9))))) (by rw [eM_1, pu_k _ _ _ _ _ (by first | decide | omega)]; exact (hW.2.2 (((3) * (a)) + (c9)) (by omega)).2) ?_
          exact r_i hx hb hr hlocks hP hS (⟨rfl, eM_1⟩) d_M_told2_51
        · exact absurd c_23 (by omega)
    · exact absurd c_10 (by omega)

set_option maxHeartbeats 4000000 in
set_option maxRecDepth 100000 in
theorem c_M_comesTo (l : Launch) (D : va_G) (cI cB : ClassId) (ad : Nat → Nat) (hI : GI 13 ad) (M : PM) (n : Nat) (hn60 : n ≤ 60) (st : Nat → Option Nat) (hS6 : RS M n st) (rk : Nat → Nat) (hRk : Rk n st rk) (a b9 : Nat) (ha : a < n) (hb9 : b9 < n) (t : Bool) (ht : t = true ↔ Lds st (some a) b9) : MM l D cI cB ad y_M_comesTo b_M_comesTo 4 (some .boolean) 0 0 [.ref (ad (0)), .int (nI (a)), .int (nI (b9))] M (fun v M' => v = some (.int (bI (t))) ∧ M = M') := by
  refine MC.of (by decide) (Nat.le_of_ble_eq_true rfl) ?_
  intro p e s m below meth c ls hx hb hr hml hown hg hlocks hK hN hP hS hl
  have hown : s.vm.findClass R_M = some m.cls := hown
  have hl : lv_has ls 4 [(0, .ref (ad (0))), (1, .int (nI (a))), (2, .int (nI (b9)))] := hl
  have J2 : ∀ (fu2 : Nat) (k1 : Option Nat) (H : Heap) (locs : List Loc) (ls : Array Slot), mR rk k1 < fu2 → (∀ q, k1 = some q → q < n) → (Lds st k1 b9 ↔ Lds st (some a) b9) → va_P D clsA (gw 13 ad (cfM cI cB ad) M) H → va_S (GA 13 ad) s.heap H locs → lv_has ls 4 [(0, .ref (ad (0))), (1, .int (nI (a))), (2, .int (nI (b9))), (3, .int (oI (k1)))] → W p l e (rm_ 0 0) s m ([.ref (ad (0)), .int (nI (a)), .int (nI (b9))] : List Value).toArray below meth c H locs 0 0 (MQ below (GQ D 13 ad (cfM cI cB ad) (fun v M' => v = some (.int (bI (t))) ∧ M = M')) ([.ref (ad (0)), .int (nI (a)), .int (nI (b9))] : List Value).toArray s 0 0 (GA 13 ad)) (F0 m 2 ls []) := by
    intro fu2
    induction fu2 with
    | zero => intro k1 H locs ls hfu; exact absurd hfu (Nat.not_lt_zero _)
    | succ fu2 ih2 =>
      intro k1 H locs ls hfu2 hk1 hE hP hS hl
      refine lv_iload_n hx hb d_M_comesTo_2 rfl (lv_at hl 3 rfl) ?_
      refine o_lt (o := k1) (tgt := 21) hx hb d_M_comesTo_3 (by decide) (fun q e => by have := hk1 q e; omega) (fun c_3 => ?_) (fun v_3 c_3 => ?_)
      · have h9 : t = false := b_f ht (by rw [← hE, c_3]; exact Lds_none)
        refine lv_iload_n hx hb d_M_comesTo_21 rfl (lv_at hl 3 rfl) ?_
        refine o_lt (o := k1) (tgt := 29) hx hb d_M_comesTo_22 (by decide) (fun q e => by have := hk1 q e; omega) (fun c_22 => ?_) (fun v_22 c_22 => ?_)
        · have h8 : t = false := by first | exact h9 | (rw [c_8] at c_22; cases c_22)
          refine n_const (k := 0) hx hb d_M_comesTo_29 (by decide) ?_
          exact r_z hx hb hr hlocks (rfl) hP hS (⟨bz0 (h8), rfl⟩) d_M_comesTo_30
        · have h8 : t = true := by first | exact h9 | (rw [c_3] at c_22; cases c_22)
          refine n_const (k := 1) hx hb d_M_comesTo_25 (by decide) ?_
          refine lv_goto (tgt := 30) hx hb d_M_comesTo_26 (by decide) ?_
          exact r_z hx hb hr hlocks (rfl) hP hS (⟨bz1 (h8), rfl⟩) d_M_comesTo_30
      · refine lv_iload_n hx hb d_M_comesTo_6 rfl (lv_at hl 3 rfl) ?_
        refine lv_iload_n hx hb d_M_comesTo_7 rfl (lv_at hl 2 rfl) ?_
        refine oo_eq (a := k1) (b := some (b9)) (tgt := 21) hx hb d_M_comesTo_8 (by decide) (fun q e => by have := hk1 q e; omega) (ob_some (by omega)) (fun c_8 => ?_) (fun c_8 => ?_)
        · have h9 : t = true := ht.mpr (by rw [← hE, c_8]; exact Lds_self st b9)
          refine lv_iload_n hx hb d_M_comesTo_21 rfl (lv_at hl 3 rfl) ?_
          refine o_lt (o := k1) (tgt := 29) hx hb d_M_comesTo_22 (by decide) (fun q e => by have := hk1 q e; omega) (fun c_22 => ?_) (fun v_22 c_22 => ?_)
          · have h8 : t = false := by first | exact h9 | (rw [c_8] at c_22; cases c_22)
            refine n_const (k := 0) hx hb d_M_comesTo_29 (by decide) ?_
            exact r_z hx hb hr hlocks (rfl) hP hS (⟨bz0 (h8), rfl⟩) d_M_comesTo_30
          · have h8 : t = true := by first | exact h9 | (rw [c_3] at c_22; cases c_22)
            refine n_const (k := 1) hx hb d_M_comesTo_25 (by decide) ?_
            refine lv_goto (tgt := 30) hx hb d_M_comesTo_26 (by decide) ?_
            exact r_z hx hb hr hlocks (rfl) hP hS (⟨bz1 (h8), rfl⟩) d_M_comesTo_30
        · rw [c_3] at hl
          have hv3 := hk1 _ c_3
          have hl : lv_has ls 4 [(0, .ref (ad (0))), (1, .int (nI (a))), (2, .int (nI (b9))), (3, .int (nI (v_3)))] := hl
          refine lv_aload_n hx hb d_M_comesTo_11 rfl (lv_at hl 0 rfl) ?_
          refine g_get (C := R_M) (T := T_M) (N := 19) (ci := 8) (v := .ref (ad (6))) hx hb hg i_M hown hK hP 0 (by decide) rfl rfl 8 (by decide) (hg _ k_801) rfl d_M_comesTo_12 ?_
          refine lv_iload_n hx hb d_M_comesTo_15 rfl (lv_at hl 3 rfl) ?_
          refine g_iald hx hb hK hP 6 0 (by decide) rfl rfl (by decide) (j := v_3) (by omega) d_M_comesTo_16 ?_
          refine n_top (y := (oI (st (v_3)))) (hS6.1 (v_3) (hk1 _ c_3)) ?_
          have hk9 : ∀ q, st v_3 = some q → q < n := fun q e => hS6.2 v_3 q hv3 e
          have hE9 : Lds st (st v_3) b9 ↔ Lds st (some a) b9 := by rw [← hE, c_3]; exact (Lds_step (fun q => c_8 (by rw [c_3, q]))).symm
          refine lv_istore_n (lv' := [(3, .int (oI (st (v_3)))), (0, .ref (ad (0))), (1, .int (nI (a))), (2, .int (nI (b9)))]) hx hb d_M_comesTo_17 rfl hl (by decide) rfl (fun ls hl => ?_)
          refine lv_goto (tgt := 2) hx hb d_M_comesTo_18 (by decide) ?_
          exact ih2 (st (v_3)) _ _ ls (by have := mR_lt hRk (hk1 _ c_3); rw [c_3] at hfu2; omega) (hk9) (hE9) hP hS (lv_sub hl [1, 2, 3, 0] rfl)
  refine lv_iload_n hx hb d_M_comesTo_0 rfl (lv_at hl 1 rfl) ?_
  refine lv_istore_n (lv' := [(3, .int (nI (a))), (0, .ref (ad (0))), (1, .int (nI (a))), (2, .int (nI (b9)))]) hx hb d_M_comesTo_1 rfl hl (by decide) rfl (fun ls hl => ?_)
  exact J2 (_ + 1) (some (a)) _ _ ls (Nat.lt_succ_self _) (fun q e => by cases e; exact ha) (Iff.rfl) hP hS (lv_sub hl [1, 2, 3, 0] rfl)

set_option maxHeartbeats 4000000 in
set_option maxRecDepth 100000 in
theorem c_M_meaning (l : Launch) (D : va_G) (cI cB : ClassId) (ad : Nat → Nat) (hI : GI 13 ad) (M : PM) (n : Nat) (len : Nat → Nat) (ch : Nat → Nat → Nat) (sp : Nat → Option Nat) (hR : RN M n len ch sp) (st : Nat → Option Nat) (hS6 : RS M n st) (rk : Nat → Nat) (hRk : Rk n st rk) (a : Nat) (ha : a < n) (e9 : Nat) (hE : EndS st a e9) : MM l D cI cB ad y_M_meaning b_M_meaning 3 (some .int) 1 21 [.ref (ad (0)), .int (nI (a))] M (fun v M' => v = some (.int (nI e9)) ∧ M' = pu M 0 0 (nI 0)) := by
  refine MC.of (by decide) (Nat.le_of_ble_eq_true rfl) ?_
  intro p e s m below meth c ls hx hb hr hml hown hg hlocks hK hN hP hS hl
  have hown : s.vm.findClass R_M = some m.cls := hown
  have hl : lv_has ls 3 [(0, .ref (ad (0))), (1, .int (nI (a)))] := hl
  have hn60 : n ≤ 60 := hR.1
  have hl24 := hR.2.2.1
  have hspn := hR.2.2.2.2.1
  have hch := hR.2.2.2.2.2
  have J24 : ∀ (fu24 : Nat) (y : Nat) (M1 : PM) (H : Heap) (locs : List Loc) (ls : Array Slot), rk y < fu24 → (M1 = pu M 0 0 (nI 0)) → (y < n) → (EndS st y e9) → va_P D clsA (gw 13 ad (cfM cI cB ad) M1) H → va_S (GA 13 ad) s.heap H locs → lv_has ls 3 [(0, .ref (ad (0))), (2, .int (nI (y)))] → W p l e (rm_ 1 21) s m ([.ref (ad (0)), .int (nI (a))] : List Value).toArray below meth c H locs 0 0 (MQ below (GQ D 13 ad (cfM cI cB ad) (fun v M' => v = some (.int (nI e9)) ∧ M' = pu M 0 0 (nI 0))) ([.ref (ad (0)), .int (nI (a))] : List Value).toArray s 0 0 (GA 13 ad)) (F0 m 24 ls []) := by
    intro fu24
    induction fu24 with
    | zero => intro y M1 H locs ls hfu; exact absurd hfu (Nat.not_lt_zero _)
    | succ fu24 ih24 =>
      intro y M1 H locs ls hfu24 hM1 hy hE hP hS hl
      have hS61 := hS6.sx (SX.thr M (nI 0))
      rw [← hM1] at hS61
      refine lv_aload_n hx hb d_M_meaning_24 rfl (lv_at hl 0 rfl) ?_
      refine g_get (C := R_M) (T := T_M) (N := 19) (ci := 8) (v := .ref (ad (6))) hx hb hg i_M hown hK hP 0 (by decide) rfl rfl 8 (by decide) (hg _ k_801) rfl d_M_meaning_25 ?_
      refine lv_iload_n hx hb d_M_meaning_28 rfl (lv_at hl 1 rfl) ?_
      refine g_iald hx hb hK hP 6 0 (by decide) rfl rfl (by decide) (j := y) (by omega) d_M_meaning_29 ?_
      refine n_top (y := (oI (st (y)))) (hS61.1 (y) (by omega)) ?_
      refine o_lt (o := st (y)) (tgt := 43) hx hb d_M_meaning_30 (by decide) (fun q e => by have := hS6.2 _ q hy e; omega) (fun c_30 => ?_) (fun v_30 c_30 => ?_)
      · refine lv_iload_n hx hb d_M_meaning_43 rfl (lv_at hl 1 rfl) ?_
        exact r_i hx hb hr hlocks hP hS (⟨by rw [EndS_end c_30 hE], hM1⟩) d_M_meaning_44
      · refine lv_aload_n hx hb d_M_meaning_33 rfl (lv_at hl 0 rfl) ?_
        refine g_get (C := R_M) (T := T_M) (N := 19) (ci := 8) (v := .ref (ad (6))) hx hb hg i_M hown hK hP 0 (by decide) rfl rfl 8 (by decide) (hg _ k_801) rfl d_M_meaning_34 ?_
        refine lv_iload_n hx hb d_M_meaning_37 rfl (lv_at hl 1 rfl) ?_
        refine g_iald hx hb hK hP 6 0 (by decide) rfl rfl (by decide) (j := y) (by omega) d_M_meaning_38 ?_
        refine n_top (y := (oI (st (y)))) (hS61.1 (y) (by omega)) ?_
        refine lv_istore_n (lv' := [(2, .int (oI (st (y)))), (0, .ref (ad (0)))]) hx hb d_M_meaning_39 rfl hl (by decide) rfl (fun ls hl => ?_)
        rw [c_30] at hl
        have hl : lv_has ls 3 [(2, .int (nI (v_30))), (0, .ref (ad (0)))] := hl
        refine lv_goto (tgt := 24) hx hb d_M_meaning_40 (by decide) ?_
        exact ih24 (v_30) M1 _ _ ls (by have := hRk _ _ hy c_30; omega) (hM1) (hS6.2 _ _ hy c_30) (EndS_step c_30 hE) hP hS (lv_sub hl [1, 0] rfl)
  refine lv_aload_n hx hb d_M_meaning_0 rfl (lv_at hl 0 rfl) ?_
  refine lv_aload_n hx hb d_M_meaning_1 rfl (lv_at hl 0 rfl) ?_
  refine lv_iload_n hx hb d_M_meaning_2 rfl (lv_at hl 1 rfl) ?_
  refine c_V (own := R_M) (index := 89) (As := [.int (nI (a))]) (rest := [.ref (ad (0))]) hx hb hml hown hg hK (fun _ _ _ h => h) (fun _ _ => trivial) (fun _ h => h) hP hS 0 (c_M_no l D cI cB ad hI M n len ch sp hR (nI (a)) false (no_f (by omega))) (by decide) (ci := 8) rfl rfl k_907 k_909 k_p30 k_9 k_910 1 rfl (by decide +kernel) (by decide) rfl hl.1 (Nat.le_of_ble_eq_true rfl) d_M_meaning_3 (fun v M' H locs hq hP _ _ hS => ?_)
  obtain ⟨rfl, rfl⟩ := hq
  refine W.eq (g2 := F0 m 6 ls [.int (bI (false)), .ref (ad (0))]) rfl ?_
  refine z_eq (t := false) (tgt := 13) hx hb d_M_meaning_6 (by decide) (fun _ => ?_) (fun h9 => absurd h9 (by decide))
  refine n_const (k := 0) hx hb d_M_meaning_13 (by decide) ?_
  refine c_V (own := R_M) (index := 57) (As := [.int (nI (0))]) (rest := []) hx hb hml hown hg hK (fun _ _ _ h => h) (fun _ _ => trivial) (fun _ h => h) hP hS 0 (c_M_refuses l D cI cB ad hI M (0) (by decide)) (by decide) (ci := 8) rfl rfl k_859 k_861 k_p22 k_9 k_862 1 rfl (by decide +kernel) (by decide) rfl hl.1 (Nat.le_of_ble_eq_true rfl) d_M_meaning_14 (fun v M_1 H locs hq hP _ _ hS => ?_)
  obtain ⟨rfl, eM_1⟩ := hq
  have hS61 := hS6.sx (SX.thr M (nI 0))
  rw [← eM_1] at hS61
  refine W.eq (g2 := F0 m 17 ls [.int (bI (false))]) rfl ?_
  refine z_eq (t := false) (tgt := 22) hx hb d_M_meaning_17 (by decide) (fun _ => ?_) (fun h9 => absurd h9 (by decide))
  refine lv_iload_n hx hb d_M_meaning_22 rfl (lv_at hl 1 rfl) ?_
  refine lv_istore_n (lv' := [(2, .int (nI (a))), (0, .ref (ad (0))), (1, .int (nI (a)))]) hx hb d_M_meaning_23 rfl hl (by decide) rfl (fun ls hl => ?_)
  exact J24 (_ + 1) (a) M_1 _ _ ls (Nat.lt_succ_self _) (eM_1) (by omega) (hE) hP hS (lv_sub hl [1, 0] rfl)

set_option maxHeartbeats 4000000 in
set_option maxRecDepth 100000 in
theorem c_M_alias_c (l : Launch) (D : va_G) (cI cB : ClassId) (ad : Nat → Nat) (hI : GI 13 ad) (M : PM) (n : Nat) (len : Nat → Nat) (ch : Nat → Nat → Nat) (sp : Nat → Option Nat) (hR : RN M n len ch sp) (st : Nat → Option Nat) (hS6 : RS M n st) (rk : Nat → Nat) (hRk : Rk n st rk) (a b9 : Nat) (ha : a < n) (hb9 : b9 < n) (hL : Lds st (some b9) a) : MM l D cI cB ad y_M_alias b_M_alias 3 (some .boolean) 1 23 [.ref (ad (0)), .int (nI (a)), .int (nI (b9))] M (fun v M' => v = some (.int (bI false)) ∧ M' = pu (pu (pu (pu M 0 0 (nI 0)) 10 0 (nI 3)) 10 1 (nI a)) 10 2 (nI b9)) := by
  refine MC.of (by decide) (Nat.le_of_ble_eq_true rfl) ?_
  intro p e s m below meth c ls hx hb hr hml hown hg hlocks hK hN hP hS hl
  have hown : s.vm.findClass R_M = some m.cls := hown
  have hl : lv_has ls 3 [(0, .ref (ad (0))), (1, .int (nI (a))), (2, .int (nI (b9)))] := hl
  have hn60 : n ≤ 60 := hR.1
  have hl24 := hR.2.2.1
  have hspn := hR.2.2.2.2.1
  have hch := hR.2.2.2.2.2
  refine lv_aload_n hx hb d_M_alias_0 rfl (lv_at hl 0 rfl) ?_
  refine lv_aload_n hx hb d_M_alias_1 rfl (lv_at hl 0 rfl) ?_
  refine lv_iload_n hx hb d_M_alias_2 rfl (lv_at hl 1 rfl) ?_
  refine c_V (own := R_M) (index := 89) (As := [.int (nI (a))]) (rest := [.ref (ad (0))]) hx hb hml hown hg hK (fun _ _ _ h => h) (fun _ _ => trivial) (fun _ h => h) hP hS 0 (c_M_no l D cI cB ad hI M n len ch sp hR (nI (a)) false (no_f (by omega))) (by decide) (ci := 8) rfl rfl k_907 k_909 k_p30 k_9 k_910 1 rfl (by decide +kernel) (by decide) rfl hl.1 (Nat.le_of_ble_eq_true rfl) d_M_alias_3 (fun v M' H locs hq hP _ _ hS => ?_)
  obtain ⟨rfl, rfl⟩ := hq
  refine W.eq (g2 := F0 m 6 ls [.int (bI (false)), .ref (ad (0))]) rfl ?_
  refine z_ne (t := false) (tgt := 17) hx hb d_M_alias_6 (by decide) (fun h9 => absurd h9 (by decide)) (fun _ => ?_)
  refine lv_aload_n hx hb d_M_alias_9 rfl (lv_at hl 0 rfl) ?_
  refine lv_iload_n hx hb d_M_alias_10 rfl (lv_at hl 2 rfl) ?_
  refine c_V (own := R_M) (index := 89) (As := [.int (nI (b9))]) (rest := [.ref (ad (0))]) hx hb hml hown hg hK (fun _ _ _ h => h) (fun _ _ => trivial) (fun _ h => h) hP hS 0 (c_M_no l D cI cB ad hI M n len ch sp hR (nI (b9)) false (no_f (by omega))) (by decide) (ci := 8) rfl rfl k_907 k_909 k_p30 k_9 k_910 1 rfl (by decide +kernel) (by decide) rfl hl.1 (Nat.le_of_ble_eq_true rfl) d_M_alias_11 (fun v M' H locs hq hP _ _ hS => ?_)
  obtain ⟨rfl, rfl⟩ := hq
  refine W.eq (g2 := F0 m 14 ls [.int (bI (false)), .ref (ad (0))]) rfl ?_
  refine z_eq (t := false) (tgt := 21) hx hb d_M_alias_14 (by decide) (fun _ => ?_) (fun h9 => absurd h9 (by decide))
  refine n_const (k := 0) hx hb d_M_alias_21 (by decide) ?_
  refine c_V (own := R_M) (index := 57) (As := [.int (nI (0))]) (rest := []) hx hb hml hown hg hK (fun _ _ _ h => h) (fun _ _ => trivial) (fun _ h => h) hP hS 0 (c_M_refuses l D cI cB ad hI M (0) (by decide)) (by decide) (ci := 8) rfl rfl k_859 k_861 k_p22 k_9 k_862 1 rfl (by decide +kernel) (by decide) rfl hl.1 (Nat.le_of_ble_eq_true rfl) d_M_alias_22 (fun v M_1 H locs hq hP _ _ hS => ?_)
  obtain ⟨rfl, eM_1⟩ := hq
  have hS61 := hS6.sx (SX.thr M (nI 0))
  rw [← eM_1] at hS61
  refine W.eq (g2 := F0 m 25 ls [.int (bI (false))]) rfl ?_
  refine z_eq (t := false) (tgt := 30) hx hb d_M_alias_25 (by decide) (fun _ => ?_) (fun h9 => absurd h9 (by decide))
  refine lv_aload_n hx hb d_M_alias_30 rfl (lv_at hl 0 rfl) ?_
  refine lv_iload_n hx hb d_M_alias_31 rfl (lv_at hl 2 rfl) ?_
  refine lv_iload_n hx hb d_M_alias_32 rfl (lv_at hl 1 rfl) ?_
  refine c_V (own := R_M) (index := 137) (As := [.int (nI (b9)), .int (nI (a))]) (rest := []) hx hb hml hown hg hK (fun _ _ _ h => h) (fun _ _ => trivial) (fun _ h => h) hP hS 0 (c_M_comesTo l D cI cB ad hI M_1 n hn60 st hS61 rk hRk (b9) (a) (by omega) (by omega) true ⟨fun _ => hL, fun _ => rfl⟩) (by decide) (ci := 8) rfl rfl k_1014 k_1016 k_p42 k_9 k_1017 2 rfl (by decide +kernel) (by decide) rfl hl.1 (Nat.le_of_ble_eq_true rfl) d_M_alias_33 (fun v M' H locs hq hP _ _ hS => ?_)
  obtain ⟨rfl, rfl⟩ := hq
  refine W.eq (g2 := F0 m 36 ls [.int (bI (true))]) rfl ?_
  refine z_eq (t := true) (tgt := 48) hx hb d_M_alias_36 (by decide) (fun h9 => absurd h9 (by decide)) (fun _ => ?_)
  refine lv_aload_n hx hb d_M_alias_39 rfl (lv_at hl 0 rfl) ?_
  refine n_const (k := 3) hx hb d_M_alias_40 (by decide) ?_
  refine lv_iload_n hx hb d_M_alias_41 rfl (lv_at hl 1 rfl) ?_
  refine lv_iload_n hx hb d_M_alias_42 rfl (lv_at hl 2 rfl) ?_
  refine c_V (own := R_M) (index := 95) (As := [.int (nI (3)), .int (nI (a)), .int (nI (b9))]) (rest := []) hx hb hml hown hg hK (fun _ _ _ h => h) (fun _ _ => trivial) (fun _ h => h) hP hS 0 (c_M_clashes l D cI cB ad hI M_1 ((nI (3))) ((nI (a))) ((nI (b9)))) (by decide) (ci := 8) rfl rfl k_915 k_917 k_p32 k_9 k_918 3 rfl (by decide +kernel) (by decide) rfl hl.1 (Nat.le_of_ble_eq_true rfl) d_M_alias_43 (fun v M_2 H locs hq hP _ _ hS => ?_)
  obtain ⟨rfl, eM_2⟩ := hq
  refine W.eq (g2 := F0 m 46 ls []) rfl ?_
  refine n_const (k := 0) hx hb d_M_alias_46 (by decide) ?_
  exact r_z hx hb hr hlocks (rfl) hP hS (⟨rfl, by rw [eM_2, eM_1]⟩) d_M_alias_47

set_option maxHeartbeats 4000000 in
set_option maxRecDepth 100000 in
theorem c_M_alias (l : Launch) (D : va_G) (cI cB : ClassId) (ad : Nat → Nat) (hI : GI 13 ad) (M : PM) (n : Nat) (len : Nat → Nat) (ch : Nat → Nat → Nat) (sp : Nat → Option Nat) (hR : RN M n len ch sp) (st : Nat → Option Nat) (hS6 : RS M n st) (rk : Nat → Nat) (hRk : Rk n st rk) (a b9 : Nat) (ha : a < n) (hb9 : b9 < n) (hL : ¬ Lds st (some b9) a) : MM l D cI cB ad y_M_alias b_M_alias 3 (some .boolean) 1 23 [.ref (ad (0)), .int (nI (a)), .int (nI (b9))] M (fun v M' => v = some (.int (bI true)) ∧ M' = pu (pu M 0 0 (nI 0)) 6 a (nI b9)) := by
  refine MC.of (by decide) (Nat.le_of_ble_eq_true rfl) ?_
  intro p e s m below meth c ls hx hb hr hml hown hg hlocks hK hN hP hS hl
  have hown : s.vm.findClass R_M = some m.cls := hown
  have hl : lv_has ls 3 [(0, .ref (ad (0))), (1, .int (nI (a))), (2, .int (nI (b9)))] := hl
  have hn60 : n ≤ 60 := hR.1
  have hl24 := hR.2.2.1
  have hspn := hR.2.2.2.2.1
  have hch := hR.2.2.2.2.2
  refine lv_aload_n hx hb d_M_alias_0 rfl (lv_at hl 0 rfl) ?_
  refine lv_aload_n hx hb d_M_alias_1 rfl (lv_at hl 0 rfl) ?_
  refine lv_iload_n hx hb d_M_alias_2 rfl (lv_at hl 1 rfl) ?_
  refine c_V (own := R_M) (index := 89) (As := [.int (nI (a))]) (rest := [.ref (ad (0))]) hx hb hml hown hg hK (fun _ _ _ h => h) (fun _ _ => trivial) (fun _ h => h) hP hS 0 (c_M_no l D cI cB ad hI M n len ch sp hR (nI (a)) false (no_f (by omega))) (by decide) (ci := 8) rfl rfl k_907 k_909 k_p30 k_9 k_910 1 rfl (by decide +kernel) (by decide) rfl hl.1 (Nat.le_of_ble_eq_true rfl) d_M_alias_3 (fun v M' H locs hq hP _ _ hS => ?_)
  obtain ⟨rfl, rfl⟩ := hq
  refine W.eq (g2 := F0 m 6 ls [.int (bI (false)), .ref (ad (0))]) rfl ?_
  refine z_ne (t := false) (tgt := 17) hx hb d_M_alias_6 (by decide) (fun h9 => absurd h9 (by decide)) (fun _ => ?_)
  refine lv_aload_n hx hb d_M_alias_9 rfl (lv_at hl 0 rfl) ?_
  refine lv_iload_n hx hb d_M_alias_10 rfl (lv_at hl 2 rfl) ?_
  refine c_V (own := R_M) (index := 89) (As := [.int (nI (b9))]) (rest := [.ref (ad (0))]) hx hb hml hown hg hK (fun _ _ _ h => h) (fun _ _ => trivial) (fun _ h => h) hP hS 0 (c_M_no l D cI cB ad hI M n len ch sp hR (nI (b9)) false (no_f (by omega))) (by decide) (ci := 8) rfl rfl k_907 k_909 k_p30 k_9 k_910 1 rfl (by decide +kernel) (by decide) rfl hl.1 (Nat.le_of_ble_eq_true rfl) d_M_alias_11 (fun v M' H locs hq hP _ _ hS => ?_)
  obtain ⟨rfl, rfl⟩ := hq
  refine W.eq (g2 := F0 m 14 ls [.int (bI (false)), .ref (ad (0))]) rfl ?_
  refine z_eq (t := false) (tgt := 21) hx hb d_M_alias_14 (by decide) (fun _ => ?_) (fun h9 => absurd h9 (by decide))
  refine n_const (k := 0) hx hb d_M_alias_21 (by decide) ?_
  refine c_V (own := R_M) (index := 57) (As := [.int (nI (0))]) (rest := []) hx hb hml hown hg hK (fun _ _ _ h => h) (fun _ _ => trivial) (fun _ h => h) hP hS 0 (c_M_refuses l D cI cB ad hI M (0) (by decide)) (by decide) (ci := 8) rfl rfl k_859 k_861 k_p22 k_9 k_862 1 rfl (by decide +kernel) (by decide) rfl hl.1 (Nat.le_of_ble_eq_true rfl) d_M_alias_22 (fun v M_1 H locs hq hP _ _ hS => ?_)
  obtain ⟨rfl, eM_1⟩ := hq
  have hS61 := hS6.sx (SX.thr M (nI 0))
  rw [← eM_1] at hS61
  refine W.eq (g2 := F0 m 25 ls [.int (bI (false))]) rfl ?_
  refine z_eq (t := false) (tgt := 30) hx hb d_M_alias_25 (by decide) (fun _ => ?_) (fun h9 => absurd h9 (by decide))
  refine lv_aload_n hx hb d_M_alias_30 rfl (lv_at hl 0 rfl) ?_
  refine lv_iload_n hx hb d_M_alias_31 rfl (lv_at hl 2 rfl) ?_
  refine lv_iload_n hx hb d_M_alias_32 rfl (lv_at hl 1 rfl) ?_
  refine c_V (own := R_M) (index := 137) (As := [.int (nI (b9)), .int (nI (a))]) (rest := []) hx hb hml hown hg hK (fun _ _ _ h => h) (fun _ _ => trivial) (fun _ h => h) hP hS 0 (c_M_comesTo l D cI cB ad hI M_1 n hn60 st hS61 rk hRk (b9) (a) (by omega) (by omega) false ⟨fun h => (by cases h), fun h => absurd h hL⟩) (by decide) (ci := 8) rfl rfl k_1014 k_1016 k_p42 k_9 k_1017 2 rfl (by decide +kernel) (by decide) rfl hl.1 (Nat.le_of_ble_eq_true rfl) d_M_alias_33 (fun v M' H locs hq hP _ _ hS => ?_)
  obtain ⟨rfl, rfl⟩ := hq
  refine W.eq (g2 := F0 m 36 ls [.int (bI (false))]) rfl ?_
  refine z_eq (t := false) (tgt := 48) hx hb d_M_alias_36 (by decide) (fun _ => ?_) (fun h9 => absurd h9 (by decide))
  refine lv_aload_n hx hb d_M_alias_48 rfl (lv_at hl 0 rfl) ?_
  refine g_get (C := R_M) (T := T_M) (N := 19) (ci := 8) (v := .ref (ad (6))) hx hb hg i_M hown hK hP 0 (by decide) rfl rfl 8 (by decide) (hg _ k_801) rfl d_M_alias_49 ?_
  refine lv_iload_n hx hb d_M_alias_52 rfl (lv_at hl 1 rfl) ?_
  refine lv_iload_n hx hb d_M_alias_53 rfl (lv_at hl 2 rfl) ?_
  refine g_iast hx hb hK hI (fun _ h => h) hP hS 6 0 (by decide) (fun _ => rfl) rfl (by decide) (j := a) (by omega) (v := (nI (b9))) d_M_alias_54 (fun H locs hP hS => ?_)
  obtain ⟨M_2, eM_2⟩ : ∃ z : PM, z = (pu M_1 6 (a) ((nI (b9)))) := ⟨_, rfl⟩
  rw [← eM_2] at hP
  refine n_const (k := 1) hx hb d_M_alias_55 (by decide) ?_
  exact r_z hx hb hr hlocks (rfl) hP hS (⟨rfl, by rw [eM_2, eM_1]⟩) d_M_alias_56
