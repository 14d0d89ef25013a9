set_option maxHeartbeats 4000000 in
set_option maxRecDepth 100000 in
theorem c_M_told_a (l : Launch) (D : va_G) (cI cB : ClassId) (ad : Nat → Nat) (hI : GI 13 ad) (M : PM) (n : Nat) (len : Nat → Nat) (ch : Nat → Nat → Nat) (sp : Nat → Option Nat) (hR : RN M n len ch sp) (tl : Nat) (tc : Nat → Nat) (hT : RT M tl tc) (hbr : brk tl tc) : MM l D cI cB ad y_M_told0 b_M_told0 6 (some .boolean) 1 21 [.ref (ad (0))] M (fun v M' => v = some (.int (bI true)) ∧ SX M M' ∧ MK M' (tl - 2) (scBr tc)) := by
  refine MC.of (by decide) (Nat.le_of_ble_eq_true rfl) ?_
  intro p e s m below meth c ls hx hb hr hml hown hg hlocks hK hN hP hS hl
  have hown : s.vm.findClass R_M = some m.cls := hown
  have hl : lv_has ls 6 [(0, .ref (ad (0)))] := hl
  have hn60 : n ≤ 60 := hR.1
  have hl24 := hR.2.2.1
  have hspn := hR.2.2.2.2.1
  have hch := hR.2.2.2.2.2
  have htl := hT.1
  have htc := hT.2.2
  have hSX := SX.rf M
  obtain ⟨b1, b2, b3⟩ := hbr
  have J41 : ∀ (fu41 : Nat) (i : Nat) (M1 : PM) (H : Heap) (locs : List Loc) (ls : Array Slot), tl - i < fu41 → (i ≤ tl - 2) → (SX M M1) → (MK M1 (i) (scBr tc)) → va_P D clsA (gw 13 ad (cfM cI cB ad) M1) H → va_S (GA 13 ad) s.heap H locs → lv_has ls 6 [(0, .ref (ad (0))), (1, .int (nI (i + 1)))] → W p l e (rm_ 1 21) s m ([.ref (ad (0))] : List Value).toArray below meth c H locs 0 0 (MQ below (GQ D 13 ad (cfM cI cB ad) (fun v M' => v = some (.int (bI true)) ∧ SX M M' ∧ MK M' (tl - 2) (scBr tc))) ([.ref (ad (0))] : List Value).toArray s 0 0 (GA 13 ad)) (F0 m 41 ls []) := by
    intro fu41
    induction fu41 with
    | zero => intro i M1 H locs ls hfu; exact absurd hfu (Nat.not_lt_zero _)
    | succ fu41 ih41 =>
      intro i M1 H locs ls hfu41 hi hSX hMK hP hS hl
      have hR1 := hR.sx hSX
      have hT1 := hT.sx hSX
      refine lv_iload_n hx hb d_M_told0_41 rfl (lv_at hl 1 rfl) ?_
      refine lv_aload_n hx hb d_M_told0_42 rfl (lv_at hl 0 rfl) ?_
      refine g_get (C := R_M) (T := T_M) (N := 19) (ci := 8) (v := .int (M1 0 2)) hx hb hg i_M hown hK hP 0 (by decide) rfl rfl 2 (by decide) (hg _ k_795) rfl d_M_told0_43 ?_
      refine n_top (y := (nI (tl))) (hT1.2.1) ?_
      refine n_const (k := 1) hx hb d_M_told0_46 (by decide) ?_
      refine n_isub (a := tl) (b := 1) hx hb d_M_told0_47 (by omega) ?_
      refine n_ge (a := i + 1) (b := (tl) - (1)) (tgt := 67) hx hb d_M_told0_48 (by decide) (by omega) (by omega) (fun c_48 => ?_) (fun c_48 => ?_)
      · refine n_const (k := 1) hx hb d_M_told0_67 (by decide) ?_
        exact r_z hx hb hr hlocks (rfl) hP hS (⟨rfl, hSX, by rw [show tl - 2 = i by omega]; exact hMK⟩) d_M_told0_68
      · refine lv_aload_n hx hb d_M_told0_51 rfl (lv_at hl 0 rfl) ?_
        refine lv_aload_n hx hb d_M_told0_52 rfl (lv_at hl 0 rfl) ?_
        refine g_get (C := R_M) (T := T_M) (N := 19) (ci := 8) (v := .ref (ad (1))) hx hb hg i_M hown hK hP 0 (by decide) rfl rfl 1 (by decide) (hg _ k_794) rfl d_M_told0_53 ?_
        refine lv_iload_n hx hb d_M_told0_56 rfl (lv_at hl 1 rfl) ?_
        refine g_bald hx hb hK hP 1 1 (by decide) rfl rfl (by decide) (j := i + 1) (by omega) d_M_told0_57 ?_
        refine n_top (y := (nI (tc (i + 1)))) ((hT1.2.2 (i + 1) (by omega)).2.2) ?_
        refine c_V (own := R_M) (index := 75) (As := [.int (nI (tc (i + 1)))]) (rest := []) hx hb hml hown hg hK (fun _ _ _ h => h) (fun _ _ => trivial) (fun _ h => h) hP hS 0 (c_M_makes l D cI cB ad hI M1 (i) (scBr tc) hMK (tc (i + 1)) (by have := htc (i + 1) (by omega); omega) (by omega)) (by decide) (ci := 8) rfl rfl k_875 k_877 k_p24 k_9 k_878 1 rfl (by decide +kernel) (by decide) rfl hl.1 (Nat.le_of_ble_eq_true rfl) d_M_told0_58 (fun v M_1 H locs hq hP _ _ hS => ?_)
        obtain ⟨rfl, eM_1⟩ := hq
        rw [show tc (i + 1) = (scBr tc) (i) from rfl] at eM_1
        have hSX : SX M M_1 := hSX.tr (by rw [eM_1]; exact SX.add _ _ _ _)
        have hMK : MK M_1 (i + 1) (scBr tc) := by rw [eM_1]; exact hMK.add (by omega) (by have := htc (i + 1) (by omega); unfold scBr; omega)
        have hR1 := hR.sx hSX
        have hT1 := hT.sx hSX
        refine W.eq (g2 := F0 m 61 ls []) rfl ?_
        refine n_inc (lv' := [(1, .int (nI (i + 1 + 1))), (0, .ref (ad (0)))]) hx hb d_M_told0_61 hl (k := 1) rfl (by decide) rfl (fun ls hl => ?_)
        refine lv_goto (tgt := 41) hx hb d_M_told0_64 (by decide) ?_
        exact ih41 (i + 1) M_1 _ _ ls (by omega) (by omega) (hSX) (hMK) hP hS (lv_sub hl [1, 0] rfl)
  refine lv_aload_n hx hb d_M_told0_0 rfl (lv_at hl 0 rfl) ?_
  refine c_V (own := R_M) (index := 72) (As := []) (rest := []) hx hb hml hown hg hK (fun _ _ _ h => h) (fun _ _ => trivial) (fun _ h => h) hP hS 0 (c_M_begin l D cI cB ad hI M) (by decide) (ci := 8) rfl rfl k_871 k_873 k_p23 k_9 k_874 0 rfl (by decide +kernel) (by decide) rfl hl.1 (Nat.le_of_ble_eq_true rfl) d_M_told0_1 (fun v M_2 H locs hq hP _ _ hS => ?_)
  obtain ⟨rfl, eM_2⟩ := hq
  have hSX : SX M M_2 := hSX.tr (by rw [eM_2]; exact SX.begin _)
  have hMK : MK M_2 0 (scBr tc) := by rw [eM_2]; exact MK.begin _ _
  have hR1 := hR.sx hSX
  have hT1 := hT.sx hSX
  refine W.eq (g2 := F0 m 4 ls []) rfl ?_
  refine lv_aload_n hx hb d_M_told0_4 rfl (lv_at hl 0 rfl) ?_
  refine g_get (C := R_M) (T := T_M) (N := 19) (ci := 8) (v := .int (M_2 0 2)) hx hb hg i_M hown hK hP 0 (by decide) rfl rfl 2 (by decide) (hg _ k_795) rfl d_M_told0_5 ?_
  refine n_top (y := (nI (tl))) (hT1.2.1) ?_
  refine n_const (k := 2) hx hb d_M_told0_8 (by decide) ?_
  refine n_le (a := tl) (b := 2) (tgt := 69) hx hb d_M_told0_9 (by decide) (by omega) (by omega) (fun c_9 => ?_) (fun c_9 => ?_)
  · exact absurd c_9 (by omega)
  · refine lv_aload_n hx hb d_M_told0_12 rfl (lv_at hl 0 rfl) ?_
    refine g_get (C := R_M) (T := T_M) (N := 19) (ci := 8) (v := .ref (ad (1))) hx hb hg i_M hown hK hP 0 (by decide) rfl rfl 1 (by decide) (hg _ k_794) rfl d_M_told0_13 ?_
    refine n_const (k := 0) hx hb d_M_told0_16 (by decide) ?_
    refine g_bald hx hb hK hP 1 1 (by decide) rfl rfl (by decide) (j := 0) (by omega) d_M_told0_17 ?_
    refine n_top (y := (nI (tc (0)))) ((hT1.2.2 (0) (by omega)).2.2) ?_
    refine n_bipush (k := 60) hx hb d_M_told0_18 (by decide) ?_
    refine n_ne (a := tc (0)) (b := 60) (tgt := 69) hx hb d_M_told0_20 (by decide) (by have := htc (0) (by omega); omega) (by omega) (fun c_20 => ?_) (fun c_20 => ?_)
    · exact absurd b2 c_20
    · refine lv_aload_n hx hb d_M_told0_23 rfl (lv_at hl 0 rfl) ?_
      refine g_get (C := R_M) (T := T_M) (N := 19) (ci := 8) (v := .ref (ad (1))) hx hb hg i_M hown hK hP 0 (by decide) rfl rfl 1 (by decide) (hg _ k_794) rfl d_M_told0_24 ?_
      refine lv_aload_n hx hb d_M_told0_27 rfl (lv_at hl 0 rfl) ?_
      refine g_get (C := R_M) (T := T_M) (N := 19) (ci := 8) (v := .int (M_2 0 2)) hx hb hg i_M hown hK hP 0 (by decide) rfl rfl 2 (by decide) (hg _ k_795) rfl d_M_told0_28 ?_
      refine n_top (y := (nI (tl))) (hT1.2.1) ?_
      refine n_const (k := 1) hx hb d_M_told0_31 (by decide) ?_
      refine n_isub (a := tl) (b := 1) hx hb d_M_told0_32 (by omega) ?_
      refine g_bald hx hb hK hP 1 1 (by decide) rfl rfl (by decide) (j := (tl) - (1)) (by omega) d_M_told0_33 ?_
      refine n_top (y := (nI (tc ((tl) - (1))))) ((hT1.2.2 ((tl) - (1)) (by omega)).2.2) ?_
      refine n_bipush (k := 62) hx hb d_M_told0_34 (by decide) ?_
      refine n_ne (a := tc ((tl) - (1))) (b := 62) (tgt := 69) hx hb d_M_told0_36 (by decide) (by have := htc (tl - 1) (by omega); omega) (by omega) (fun c_36 => ?_) (fun c_36 => ?_)
      · exact absurd b3 c_36
      · refine n_const (k := 1) hx hb d_M_told0_39 (by decide) ?_
        refine lv_istore_n (lv' := [(1, .int (nI (1))), (0, .ref (ad (0)))]) hx hb d_M_told0_40 rfl hl (by decide) rfl (fun ls hl => ?_)
        exact J41 (_ + 1) (0) M_2 _ _ ls (Nat.lt_succ_self _) (by omega) (hSX) (hMK) hP hS (lv_sub hl [1, 0] rfl)

set_option maxHeartbeats 4000000 in
set_option maxRecDepth 100000 in
theorem c_M_told_f1 (l : Launch) (D : va_G) (cI cB : ClassId) (ad : Nat → Nat) (hI : GI 13 ad) (M : PM) (n : Nat) (len : Nat → Nat) (ch : Nat → Nat → Nat) (sp : Nat → Option Nat) (hR : RN M n len ch sp) (tl : Nat) (tc : Nat → Nat) (hT : RT M tl tc) (hnb : ¬ brk tl tc) (h0 : 0 < tl) (oc : Option Nat) (hoc : Fst (fun i => tc i = 58) tl oc) (hF : ∀ q, oc = some q → tl ≤ q + 1) : MM l D cI cB ad y_M_told0 b_M_told0 6 (some .boolean) 1 20 [.ref (ad (0))] M (fun v M' => v = some (.int (bI false)) ∧ SX M M') := by
  refine MC.of (by decide) (Nat.le_of_ble_eq_true rfl) ?_
  intro p e s m below meth c ls hx hb hr hml hown hg hlocks hK hN hP hS hl
  have hown : s.vm.findClass R_M = some m.cls := hown
  have hl : lv_has ls 6 [(0, .ref (ad (0)))] := hl
  have hn60 : n ≤ 60 := hR.1
  have hl24 := hR.2.2.1
  have hspn := hR.2.2.2.2.1
  have hch := hR.2.2.2.2.2
  have htl := hT.1
  have htc := hT.2.2
  have hSX := SX.rf M
  have J71 : ∀ (fu71 : Nat) (c1 : Nat) (M1 : PM) (H : Heap) (locs : List Loc) (ls : Array Slot), tl - c1 < fu71 → (c1 ≤ tl) → (∀ q, q < c1 → ¬ tc q = 58) → (SX M M1) → (MK M1 0 tc) → va_P D clsA (gw 13 ad (cfM cI cB ad) M1) H → va_S (GA 13 ad) s.heap H locs → lv_has ls 6 [(0, .ref (ad (0))), (1, .int (nI (c1)))] → W p l e (rm_ 1 20) s m ([.ref (ad (0))] : List Value).toArray below meth c H locs 0 0 (MQ below (GQ D 13 ad (cfM cI cB ad) (fun v M' => v = some (.int (bI false)) ∧ SX M M')) ([.ref (ad (0))] : List Value).toArray s 0 0 (GA 13 ad)) (F0 m 71 ls []) := by
    intro fu71
    induction fu71 with
    | zero => intro c1 M1 H locs ls hfu; exact absurd hfu (Nat.not_lt_zero _)
    | succ fu71 ih71 =>
      intro c1 M1 H locs ls hfu71 hc hpv hSX hMK hP hS hl
      have hR1 := hR.sx hSX
      have hT1 := hT.sx hSX
      refine lv_iload_n hx hb d_M_told0_71 rfl (lv_at hl 1 rfl) ?_
      refine lv_aload_n hx hb d_M_told0_72 rfl (lv_at hl 0 rfl) ?_
      refine g_get (C := R_M) (T := T_M) (N := 19) (ci := 8) (v := .int (M1 0 2)) hx hb hg i_M hown hK hP 0 (by decide) rfl rfl 2 (by decide) (hg _ k_795) rfl d_M_told0_73 ?_
      refine n_top (y := (nI (tl))) (hT1.2.1) ?_
      refine n_ge (a := c1) (b := tl) (tgt := 96) hx hb d_M_told0_76 (by decide) (by omega) (by omega) (fun c_76 => ?_) (fun c_76 => ?_)
      · refine lv_iload_n hx hb d_M_told0_96 rfl (lv_at hl 1 rfl) ?_
        refine lv_aload_n hx hb d_M_told0_97 rfl (lv_at hl 0 rfl) ?_
        refine g_get (C := R_M) (T := T_M) (N := 19) (ci := 8) (v := .int (M1 0 2)) hx hb hg i_M hown hK hP 0 (by decide) rfl rfl 2 (by decide) (hg _ k_795) rfl d_M_told0_98 ?_
        refine n_top (y := (nI (tl))) (hT1.2.1) ?_
        refine n_const (k := 1) hx hb d_M_told0_101 (by decide) ?_
        refine n_isub (a := tl) (b := 1) hx hb d_M_told0_102 (by omega) ?_
        refine n_lt (a := c1) (b := (tl) - (1)) (tgt := 108) hx hb d_M_told0_103 (by decide) (by omega) (by omega) (fun c_103 => ?_) (fun c_103 => ?_)
        · exact absurd c_103 (by omega)
        · refine n_const (k := 0) hx hb d_M_told0_106 (by decide) ?_
          exact r_z hx hb hr hlocks (rfl) hP hS (⟨rfl, hSX⟩) d_M_told0_107
      · refine lv_aload_n hx hb d_M_told0_79 rfl (lv_at hl 0 rfl) ?_
        refine g_get (C := R_M) (T := T_M) (N := 19) (ci := 8) (v := .ref (ad (1))) hx hb hg i_M hown hK hP 0 (by decide) rfl rfl 1 (by decide) (hg _ k_794) rfl d_M_told0_80 ?_
        refine lv_iload_n hx hb d_M_told0_83 rfl (lv_at hl 1 rfl) ?_
        refine g_bald hx hb hK hP 1 1 (by decide) rfl rfl (by decide) (j := c1) (by omega) d_M_told0_84 ?_
        refine n_top (y := (nI (tc (c1)))) ((hT1.2.2 (c1) (by omega)).2.2) ?_
        refine n_bipush (k := 58) hx hb d_M_told0_85 (by decide) ?_
        refine n_eq (a := tc (c1)) (b := 58) (tgt := 96) hx hb d_M_told0_87 (by decide) (by have := htc (c1) (by omega); omega) (by omega) (fun c_87 => ?_) (fun c_87 => ?_)
        · have hcc := hF _ (hoc.is (by omega) c_87 hpv)
          refine lv_iload_n hx hb d_M_told0_96 rfl (lv_at hl 1 rfl) ?_
          refine lv_aload_n hx hb d_M_told0_97 rfl (lv_at hl 0 rfl) ?_
          refine g_get (C := R_M) (T := T_M) (N := 19) (ci := 8) (v := .int (M1 0 2)) hx hb hg i_M hown hK hP 0 (by decide) rfl rfl 2 (by decide) (hg _ k_795) rfl d_M_told0_98 ?_
          refine n_top (y := (nI (tl))) (hT1.2.1) ?_
          refine n_const (k := 1) hx hb d_M_told0_101 (by decide) ?_
          refine n_isub (a := tl) (b := 1) hx hb d_M_told0_102 (by omega) ?_
          refine n_lt (a := c1) (b := (tl) - (1)) (tgt := 108) hx hb d_M_told0_103 (by decide) (by omega) (by omega) (fun c_103 => ?_) (fun c_103 => ?_)
          · exact absurd c_103 (by omega)
          · refine n_const (k := 0) hx hb d_M_told0_106 (by decide) ?_
            exact r_z hx hb hr hlocks (rfl) hP hS (⟨rfl, hSX⟩) d_M_told0_107
        · refine n_inc (lv' := [(1, .int (nI (c1 + 1))), (0, .ref (ad (0)))]) hx hb d_M_told0_90 hl (k := 1) rfl (by decide) rfl (fun ls hl => ?_)
          refine lv_goto (tgt := 71) hx hb d_M_told0_93 (by decide) ?_
          exact ih71 (c1 + 1) M1 _ _ ls (by omega) (by omega) (lt_S hpv c_87) (hSX) (hMK) hP hS (lv_sub hl [1, 0] rfl)
  refine lv_aload_n hx hb d_M_told0_0 rfl (lv_at hl 0 rfl) ?_
  refine c_V (own := R_M) (index := 72) (As := []) (rest := []) hx hb hml hown hg hK (fun _ _ _ h => h) (fun _ _ => trivial) (fun _ h => h) hP hS 0 (c_M_begin l D cI cB ad hI M) (by decide) (ci := 8) rfl rfl k_871 k_873 k_p23 k_9 k_874 0 rfl (by decide +kernel) (by decide) rfl hl.1 (Nat.le_of_ble_eq_true rfl) d_M_told0_1 (fun v M_1 H locs hq hP _ _ hS => ?_)
  obtain ⟨rfl, eM_1⟩ := hq
  have hSX : SX M M_1 := hSX.tr (by rw [eM_1]; exact SX.begin _)
  have hMK : MK M_1 0 tc := by rw [eM_1]; exact MK.begin _ _
  have hR1 := hR.sx hSX
  have hT1 := hT.sx hSX
  refine W.eq (g2 := F0 m 4 ls []) rfl ?_
  refine lv_aload_n hx hb d_M_told0_4 rfl (lv_at hl 0 rfl) ?_
  refine g_get (C := R_M) (T := T_M) (N := 19) (ci := 8) (v := .int (M_1 0 2)) hx hb hg i_M hown hK hP 0 (by decide) rfl rfl 2 (by decide) (hg _ k_795) rfl d_M_told0_5 ?_
  refine n_top (y := (nI (tl))) (hT1.2.1) ?_
  refine n_const (k := 2) hx hb d_M_told0_8 (by decide) ?_
  refine n_le (a := tl) (b := 2) (tgt := 69) hx hb d_M_told0_9 (by decide) (by omega) (by omega) (fun c_9 => ?_) (fun c_9 => ?_)
  · refine n_const (k := 0) hx hb d_M_told0_69 (by decide) ?_
    refine lv_istore_n (lv' := [(1, .int (nI (0))), (0, .ref (ad (0)))]) hx hb d_M_told0_70 rfl hl (by decide) rfl (fun ls hl => ?_)
    exact J71 (_ + 1) (0) M_1 _ _ ls (Nat.lt_succ_self _) (by omega) (fun q hq => absurd hq (Nat.not_lt_zero q)) (hSX) (hMK) hP hS (lv_sub hl [1, 0] rfl)
  · refine lv_aload_n hx hb d_M_told0_12 rfl (lv_at hl 0 rfl) ?_
    refine g_get (C := R_M) (T := T_M) (N := 19) (ci := 8) (v := .ref (ad (1))) hx hb hg i_M hown hK hP 0 (by decide) rfl rfl 1 (by decide) (hg _ k_794) rfl d_M_told0_13 ?_
    refine n_const (k := 0) hx hb d_M_told0_16 (by decide) ?_
    refine g_bald hx hb hK hP 1 1 (by decide) rfl rfl (by decide) (j := 0) (by omega) d_M_told0_17 ?_
    refine n_top (y := (nI (tc (0)))) ((hT1.2.2 (0) (by omega)).2.2) ?_
    refine n_bipush (k := 60) hx hb d_M_told0_18 (by decide) ?_
    refine n_ne (a := tc (0)) (b := 60) (tgt := 69) hx hb d_M_told0_20 (by decide) (by have := htc (0) (by omega); omega) (by omega) (fun c_20 => ?_) (fun c_20 => ?_)
    · refine n_const (k := 0) hx hb d_M_told0_69 (by decide) ?_
      refine lv_istore_n (lv' := [(1, .int (nI (0))), (0, .ref (ad (0)))]) hx hb d_M_told0_70 rfl hl (by decide) rfl (fun ls hl => ?_)
      exact J71 (_ + 1) (0) M_1 _ _ ls (Nat.lt_succ_self _) (by omega) (fun q hq => absurd hq (Nat.not_lt_zero q)) (hSX) (hMK) hP hS (lv_sub hl [1, 0] rfl)
    · refine lv_aload_n hx hb d_M_told0_23 rfl (lv_at hl 0 rfl) ?_
      refine g_get (C := R_M) (T := T_M) (N := 19) (ci := 8) (v := .ref (ad (1))) hx hb hg i_M hown hK hP 0 (by decide) rfl rfl 1 (by decide) (hg _ k_794) rfl d_M_told0_24 ?_
      refine lv_aload_n hx hb d_M_told0_27 rfl (lv_at hl 0 rfl) ?_
      refine g_get (C := R_M) (T := T_M) (N := 19) (ci := 8) (v := .int (M_1 0 2)) hx hb hg i_M hown hK hP 0 (by decide) rfl rfl 2 (by decide) (hg _ k_795) rfl d_M_told0_28 ?_
      refine n_top (y := (nI (tl))) (hT1.2.1) ?_
      refine n_const (k := 1) hx hb d_M_told0_31 (by decide) ?_
      refine n_isub (a := tl) (b := 1) hx hb d_M_told0_32 (by omega) ?_
      refine g_bald hx hb hK hP 1 1 (by decide) rfl rfl (by decide) (j := (tl) - (1)) (by omega) d_M_told0_33 ?_
      refine n_top (y := (nI (tc ((tl) - (1))))) ((hT1.2.2 ((tl) - (1)) (by omega)).2.2) ?_
      refine n_bipush (k := 62) hx hb d_M_told0_34 (by decide) ?_
      refine n_ne (a := tc ((tl) - (1))) (b := 62) (tgt := 69) hx hb d_M_told0_36 (by decide) (by have := htc (tl - 1) (by omega); omega) (by omega) (fun c_36 => ?_) (fun c_36 => ?_)
      · refine n_const (k := 0) hx hb d_M_told0_69 (by decide) ?_
        refine lv_istore_n (lv' := [(1, .int (nI (0))), (0, .ref (ad (0)))]) hx hb d_M_told0_70 rfl hl (by decide) rfl (fun ls hl => ?_)
        exact J71 (_ + 1) (0) M_1 _ _ ls (Nat.lt_succ_self _) (by omega) (fun q hq => absurd hq (Nat.not_lt_zero q)) (hSX) (hMK) hP hS (lv_sub hl [1, 0] rfl)
      · exact absurd ⟨c_9, c_20, c_36⟩ hnb

set_option maxHeartbeats 4000000 in
set_option maxRecDepth 100000 in
theorem c_M_told_f2 (l : Launch) (D : va_G) (cI cB : ClassId) (ad : Nat → Nat) (hI : GI 13 ad) (M : PM) (n : Nat) (len : Nat → Nat) (ch : Nat → Nat → Nat) (sp : Nat → Option Nat) (hR : RN M n len ch sp) (tl : Nat) (tc : Nat → Nat) (hT : RT M tl tc) (hnb : ¬ brk tl tc) (h0 : 0 < tl) (c9 : Nat) (hoc : Fst (fun i => tc i = 58) tl (some c9)) (hc9 : c9 + 1 < tl) (hok : Fst (matK len ch sp tc c9) n none) : MM l D cI cB ad y_M_told0 b_M_told0 6 (some .boolean) 1 22 [.ref (ad (0))] M (fun v M' => v = some (.int (bI false)) ∧ SX M M') := by
  refine MC.of (by decide) (Nat.le_of_ble_eq_true rfl) ?_
  intro p e s m below meth c ls hx hb hr hml hown hg hlocks hK hN hP hS hl
  have hown : s.vm.findClass R_M = some m.cls := hown
  have hl : lv_has ls 6 [(0, .ref (ad (0)))] := hl
  have hn60 : n ≤ 60 := hR.1
  have hl24 := hR.2.2.1
  have hspn := hR.2.2.2.2.1
  have hch := hR.2.2.2.2.2
  have htl := hT.1
  have htc := hT.2.2
  have hSX := SX.rf M
  have J110 : ∀ (fu110 : Nat) (k : Nat) (M1 : PM) (H : Heap) (locs : List Loc) (ls : Array Slot), n - k < fu110 → (k ≤ n) → (∀ q, q < k → ¬ matK len ch sp tc c9 q) → (SX M M1) → (MK M1 0 tc) → va_P D clsA (gw 13 ad (cfM cI cB ad) M1) H → va_S (GA 13 ad) s.heap H locs → lv_has ls 6 [(0, .ref (ad (0))), (1, .int (nI (c9))), (2, .int (nI (k)))] → W p l e (rm_ 1 22) s m ([.ref (ad (0))] : List Value).toArray below meth c H locs 0 0 (MQ below (GQ D 13 ad (cfM cI cB ad) (fun v M' => v = some (.int (bI false)) ∧ SX M M')) ([.ref (ad (0))] : List Value).toArray s 0 0 (GA 13 ad)) (F0 m 110 ls []) := by
    intro fu110
    induction fu110 with
    | zero => intro k M1 H locs ls hfu; exact absurd hfu (Nat.not_lt_zero _)
    | succ fu110 ih110 =>
      intro k M1 H locs ls hfu110 hk hpv hSX hMK hP hS hl
      have hR1 := hR.sx hSX
      have hT1 := hT.sx hSX
      have J146 : ∀ (fu146 : Nat) (i : Nat) (b : Bool) (M1 : PM) (H : Heap) (locs : List Loc) (ls : Array Slot), c9 - i < fu146 → (k < n) → (i ≤ c9) → (b = true ↔ (sp k ≠ none ∧ len k = c9 ∧ ∀ q, q < i → ch k q = tc q)) → (SX M M1) → (MK M1 0 tc) → va_P D clsA (gw 13 ad (cfM cI cB ad) M1) H → va_S (GA 13 ad) s.heap H locs → lv_has ls 6 [(0, .ref (ad (0))), (1, .int (nI (c9))), (2, .int (nI (k))), (3, .int (bI (b))), (4, .int (nI (i)))] → W p l e (rm_ 1 22) s m ([.ref (ad (0))] : List Value).toArray below meth c H locs 0 0 (MQ below (GQ D 13 ad (cfM cI cB ad) (fun v M' => v = some (.int (bI false)) ∧ SX M M')) ([.ref (ad (0))] : List Value).toArray s 0 0 (GA 13 ad)) (F0 m 146 ls []) := by
        intro fu146
        induction fu146 with
        | zero => intro i b M1 H locs ls hfu; exact absurd hfu (Nat.not_lt_zero _)
        | succ fu146 ih146 =>
          intro i b M1 H locs ls hfu146 hkn hi hbb hSX hMK hP hS hl
          have hR1 := hR.sx hSX
          have hT1 := hT.sx hSX
          refine lv_iload hx hb d_M_told0_146 (lv_at hl 4 rfl) ?_
          refine lv_iload_n hx hb d_M_told0_148 rfl (lv_at hl 1 rfl) ?_
          refine n_ge (a := i) (b := c9) (tgt := 185) hx hb d_M_told0_149 (by decide) (by omega) (by omega) (fun c_149 => ?_) (fun c_149 => ?_)
          · refine lv_iload_n hx hb d_M_told0_185 rfl (lv_at hl 3 rfl) ?_
            refine z_ne (t := b) (tgt := 192) hx hb d_M_told0_186 (by decide) (fun c_186 => ?_) (fun c_186 => ?_)
            · exact absurd (by first | exact ⟨(hbb.mp c_186).1, (hbb.mp c_186).2.1, fun q hq => (hbb.mp c_186).2.2 q (by omega)⟩ | (rw [c_153] at c_186; cases c_186)) (hok k hkn)
            · have hpv9 : ∀ q, q < k + 1 → ¬ matK len ch sp tc c9 q := lt_S hpv (fun h => by have h9 : b = true := hbb.mpr ⟨h.1, h.2.1, fun q hq => h.2.2 q (by omega)⟩; rw [c_186] at h9; cases h9)
              refine lv_goto (tgt := 266) hx hb d_M_told0_189 (by decide) ?_
              refine n_inc (lv' := [(2, .int (nI (k + 1))), (0, .ref (ad (0))), (1, .int (nI (c9))), (3, .int (bI (b))), (4, .int (nI (i)))]) hx hb d_M_told0_266 hl (k := 2) rfl (by decide) rfl (fun ls hl => ?_)
              refine lv_goto (tgt := 110) hx hb d_M_told0_269 (by decide) ?_
              exact ih110 (k + 1) M1 _ _ ls (by omega) (by omega) (hpv9) (hSX) (hMK) hP hS (lv_sub hl [1, 2, 0] rfl)
          · refine lv_iload_n hx hb d_M_told0_152 rfl (lv_at hl 3 rfl) ?_
            refine z_eq (t := b) (tgt := 185) hx hb d_M_told0_153 (by decide) (fun c_153 => ?_) (fun c_153 => ?_)
            · refine lv_iload_n hx hb d_M_told0_185 rfl (lv_at hl 3 rfl) ?_
              refine z_ne (t := b) (tgt := 192) hx hb d_M_told0_186 (by decide) (fun c_186 => ?_) (fun c_186 => ?_)
              · exact absurd (by first | exact ⟨(hbb.mp c_186).1, (hbb.mp c_186).2.1, fun q hq => (hbb.mp c_186).2.2 q (by omega)⟩ | (rw [c_153] at c_186; cases c_186)) (hok k hkn)
              · have hpv9 : ∀ q, q < k + 1 → ¬ matK len ch sp tc c9 q := lt_S hpv (fun h => by have h9 : b = true := hbb.mpr ⟨h.1, h.2.1, fun q hq => h.2.2 q (by omega)⟩; rw [c_186] at h9; cases h9)
                refine lv_goto (tgt := 266) hx hb d_M_told0_189 (by decide) ?_
                refine n_inc (lv' := [(2, .int (nI (k + 1))), (0, .ref (ad (0))), (1, .int (nI (c9))), (3, .int (bI (b))), (4, .int (nI (i)))]) hx hb d_M_told0_266 hl (k := 2) rfl (by decide) rfl (fun ls hl => ?_)
                refine lv_goto (tgt := 110) hx hb d_M_told0_269 (by decide) ?_
                exact ih110 (k + 1) M1 _ _ ls (by omega) (by omega) (hpv9) (hSX) (hMK) hP hS (lv_sub hl [1, 2, 0] rfl)
            · have hlk := (hbb.mp c_153).2.1
              have hc1 := hch k i (by omega) (by omega)
              have hc2 := htc i (by omega)
              have hm9 : c9 - (i + 1) < fu146 := by omega
              have hi9 : i + 1 ≤ c9 := by omega
              refine lv_aload_n hx hb d_M_told0_156 rfl (lv_at hl 0 rfl) ?_
              refine lv_iload_n hx hb d_M_told0_157 rfl (lv_at hl 2 rfl) ?_
              refine lv_iload hx hb d_M_told0_158 (lv_at hl 4 rfl) ?_
              refine c_V (own := R_M) (index := 64) (As := [.int (nI (k)), .int (nI (i))]) (rest := []) hx hb hml hown hg hK (fun _ _ _ h => h) (fun _ _ => trivial) (fun _ h => h) hP hS 0 (c_M_at l D cI cB ad hI M1 n len ch sp hR1 (k) (i) (by omega) (by omega)) (by decide) (ci := 8) rfl rfl k_887 k_889 k_p27 k_9 k_890 2 rfl (by decide +kernel) (by decide) rfl hl.1 (Nat.le_of_ble_eq_true rfl) d_M_told0_160 (fun v M' H locs hq hP _ _ hS => ?_)
              obtain ⟨rfl, rfl⟩ := hq
              refine W.eq (g2 := F0 m 163 ls [.int (nI (ch (k) (i)))]) rfl ?_
              refine lv_aload_n hx hb d_M_told0_163 rfl (lv_at hl 0 rfl) ?_
              refine g_get (C := R_M) (T := T_M) (N := 19) (ci := 8) (v := .ref (ad (1))) hx hb hg i_M hown hK hP 0 (by decide) rfl rfl 1 (by decide) (hg _ k_794) rfl d_M_told0_164 ?_
              refine lv_iload hx hb d_M_told0_167 (lv_at hl 4 rfl) ?_
              refine g_bald hx hb hK hP 1 1 (by decide) rfl rfl (by decide) (j := i) (by omega) d_M_told0_169 ?_
              refine n_top (y := (nI (tc (i)))) ((hT1.2.2 (i) (by omega)).2.2) ?_
              refine n_ne (a := ch (k) (i)) (b := tc (i)) (tgt := 177) hx hb d_M_told0_170 (by decide) (by omega) (by omega) (fun c_170 => ?_) (fun c_170 => ?_)
              · have hbb9 : (false = true) ↔ (sp k ≠ none ∧ len k = c9 ∧ ∀ q, q < i + 1 → ch k q = tc q) := ⟨fun h => (by cases h), fun h => absurd (h.2.2 i (Nat.lt_succ_self i)) c_170⟩
                refine n_const (k := 0) hx hb d_M_told0_177 (by decide) ?_
                refine lv_istore_n (lv' := [(3, .int (nI (0))), (0, .ref (ad (0))), (1, .int (nI (c9))), (2, .int (nI (k))), (4, .int (nI (i)))]) hx hb d_M_told0_178 rfl hl (by decide) rfl (fun ls hl => ?_)
                refine n_inc (lv' := [(4, .int (nI (i + 1))), (3, .int (nI (0))), (0, .ref (ad (0))), (1, .int (nI (c9))), (2, .int (nI (k)))]) hx hb d_M_told0_179 hl (k := 4) rfl (by decide) rfl (fun ls hl => ?_)
                refine lv_goto (tgt := 146) hx hb d_M_told0_182 (by decide) ?_
                exact ih146 (i + 1) (false) M1 _ _ ls (hm9) (by omega) (hi9) (hbb9) (hSX) (hMK) hP hS (lv_sub hl [2, 3, 4, 1, 0] rfl)
              · have hbb9 : (true = true) ↔ (sp k ≠ none ∧ len k = c9 ∧ ∀ q, q < i + 1 → ch k q = tc q) := ⟨fun _ => ⟨(hbb.mp c_153).1, (hbb.mp c_153).2.1, lt_S (hbb.mp c_153).2.2 c_170⟩, fun _ => rfl⟩
                refine n_const (k := 1) hx hb d_M_told0_173 (by decide) ?_
                refine lv_goto (tgt := 178) hx hb d_M_told0_174 (by decide) ?_
                refine lv_istore_n (lv' := [(3, .int (nI (1))), (0, .ref (ad (0))), (1, .int (nI (c9))), (2, .int (nI (k))), (4, .int (nI (i)))]) hx hb d_M_told0_178 rfl hl (by decide) rfl (fun ls hl => ?_)
                refine n_inc (lv' := [(4, .int (nI (i + 1))), (3, .int (nI (1))), (0, .ref (ad (0))), (1, .int (nI (c9))), (2, .int (nI (k)))]) hx hb d_M_told0_179 hl (k := 4) rfl (by decide) rfl (fun ls hl => ?_)
                refine lv_goto (tgt := 146) hx hb d_M_told0_182 (by decide) ?_
                exact ih146 (i + 1) (true) M1 _ _ ls (hm9) (by omega) (hi9) (hbb9) (hSX) (hMK) hP hS (lv_sub hl [2, 3, 4, 1, 0] rfl)
      refine lv_iload_n hx hb d_M_told0_110 rfl (lv_at hl 2 rfl) ?_
      refine lv_aload_n hx hb d_M_told0_111 rfl (lv_at hl 0 rfl) ?_
      refine g_get (C := R_M) (T := T_M) (N := 19) (ci := 8) (v := .int (M1 0 5)) hx hb hg i_M hown hK hP 0 (by decide) rfl rfl 5 (by decide) (hg _ k_798) rfl d_M_told0_112 ?_
      refine n_top (y := (nI (n))) (hR1.2.1) ?_
      refine n_ge (a := k) (b := n) (tgt := 272) hx hb d_M_told0_115 (by decide) (by omega) (by omega) (fun c_115 => ?_) (fun c_115 => ?_)
      · refine n_const (k := 0) hx hb d_M_told0_272 (by decide) ?_
        exact r_z hx hb hr hlocks (rfl) hP hS (⟨rfl, hSX⟩) d_M_told0_273
      · refine lv_aload_n hx hb d_M_told0_118 rfl (lv_at hl 0 rfl) ?_
        refine g_get (C := R_M) (T := T_M) (N := 19) (ci := 8) (v := .ref (ad (4))) hx hb hg i_M hown hK hP 0 (by decide) rfl rfl 6 (by decide) (hg _ k_799) rfl d_M_told0_119 ?_
        refine lv_iload_n hx hb d_M_told0_122 rfl (lv_at hl 2 rfl) ?_
        refine g_iald hx hb hK hP 4 0 (by decide) rfl rfl (by decide) (j := k) (by omega) d_M_told0_123 ?_
        refine n_top (y := (oI (sp (k)))) (hR1.2.2.2.1 (k) (by omega)) ?_
        refine o_lt (o := sp (k)) (tgt := 141) hx hb d_M_told0_124 (by decide) (by intro q hq; have := hspn _ q (by omega) hq; omega) (fun c_124 => ?_) (fun v_124 c_124 => ?_)
        · have hbb0 : (false = true) ↔ (sp k ≠ none ∧ len k = c9 ∧ ∀ q, q < 0 → ch k q = tc q) := ⟨fun h => (by cases h), fun h => absurd c_124 h.1⟩
          refine n_const (k := 0) hx hb d_M_told0_141 (by decide) ?_
          refine lv_istore_n (lv' := [(3, .int (nI (0))), (0, .ref (ad (0))), (1, .int (nI (c9))), (2, .int (nI (k)))]) hx hb d_M_told0_142 rfl hl (by decide) rfl (fun ls hl => ?_)
          refine n_const (k := 0) hx hb d_M_told0_143 (by decide) ?_
          refine lv_istore (lv' := [(4, .int (nI (0))), (3, .int (nI (0))), (0, .ref (ad (0))), (1, .int (nI (c9))), (2, .int (nI (k)))]) hx hb d_M_told0_144 hl (by decide) rfl (fun ls hl => ?_)
          exact J146 (_ + 1) (0) (false) M1 _ _ ls (Nat.lt_succ_self _) (by omega) (by omega) (hbb0) (hSX) (hMK) hP hS (lv_sub hl [2, 3, 4, 1, 0] rfl)
        · refine lv_aload_n hx hb d_M_told0_127 rfl (lv_at hl 0 rfl) ?_
          refine g_get (C := R_M) (T := T_M) (N := 19) (ci := 8) (v := .ref (ad (3))) hx hb hg i_M hown hK hP 0 (by decide) rfl rfl 4 (by decide) (hg _ k_797) rfl d_M_told0_128 ?_
          refine lv_iload_n hx hb d_M_told0_131 rfl (lv_at hl 2 rfl) ?_
          refine g_iald hx hb hK hP 3 0 (by decide) rfl rfl (by decide) (j := k) (by omega) d_M_told0_132 ?_
          refine n_top (y := (nI (len (k)))) ((hR1.2.2.1 (k) (by omega)).2.2) ?_
          refine lv_iload_n hx hb d_M_told0_133 rfl (lv_at hl 1 rfl) ?_
          refine n_ne (a := len (k)) (b := c9) (tgt := 141) hx hb d_M_told0_134 (by decide) (by have := hl24 k (by omega); omega) (by omega) (fun c_134 => ?_) (fun c_134 => ?_)
          · have hbb0 : (false = true) ↔ (sp k ≠ none ∧ len k = c9 ∧ ∀ q, q < 0 → ch k q = tc q) := ⟨fun h => (by cases h), fun h => absurd h.2.1 c_134⟩
            refine n_const (k := 0) hx hb d_M_told0_141 (by decide) ?_
            refine lv_istore_n (lv' := [(3, .int (nI (0))), (0, .ref (ad (0))), (1, .int (nI (c9))), (2, .int (nI (k)))]) hx hb d_M_told0_142 rfl hl (by decide) rfl (fun ls hl => ?_)
            refine n_const (k := 0) hx hb d_M_told0_143 (by decide) ?_
            refine lv_istore (lv' := [(4, .int (nI (0))), (3, .int (nI (0))), (0, .ref (ad (0))), (1, .int (nI (c9))), (2, .int (nI (k)))]) hx hb d_M_told0_144 hl (by decide) rfl (fun ls hl => ?_)
            exact J146 (_ + 1) (0) (false) M1 _ _ ls (Nat.lt_succ_self _) (by omega) (by omega) (hbb0) (hSX) (hMK) hP hS (lv_sub hl [2, 3, 4, 1, 0] rfl)
          · have hbb0 : (true = true) ↔ (sp k ≠ none ∧ len k = c9 ∧ ∀ q, q < 0 → ch k q = tc q) := ⟨fun _ => ⟨by rw [c_124]; simp, c_134, fun q hq => absurd hq (Nat.not_lt_zero q)⟩, fun _ => rfl⟩
            refine n_const (k := 1) hx hb d_M_told0_137 (by decide) ?_
            refine lv_goto (tgt := 142) hx hb d_M_told0_138 (by decide) ?_
            refine lv_istore_n (lv' := [(3, .int (nI (1))), (0, .ref (ad (0))), (1, .int (nI (c9))), (2, .int (nI (k)))]) hx hb d_M_told0_142 rfl hl (by decide) rfl (fun ls hl => ?_)
            refine n_const (k := 0) hx hb d_M_told0_143 (by decide) ?_
            refine lv_istore (lv' := [(4, .int (nI (0))), (3, .int (nI (1))), (0, .ref (ad (0))), (1, .int (nI (c9))), (2, .int (nI (k)))]) hx hb d_M_told0_144 hl (by decide) rfl (fun ls hl => ?_)
            exact J146 (_ + 1) (0) (true) M1 _ _ ls (Nat.lt_succ_self _) (by omega) (by omega) (hbb0) (hSX) (hMK) hP hS (lv_sub hl [2, 3, 4, 1, 0] rfl)
  have J71 : ∀ (fu71 : Nat) (c1 : Nat) (M1 : PM) (H : Heap) (locs : List Loc) (ls : Array Slot), tl - c1 < fu71 → (c1 ≤ tl) → (∀ q, q < c1 → ¬ tc q = 58) → (SX M M1) → (MK M1 0 tc) → va_P D clsA (gw 13 ad (cfM cI cB ad) M1) H → va_S (GA 13 ad) s.heap H locs → lv_has ls 6 [(0, .ref (ad (0))), (1, .int (nI (c1)))] → W p l e (rm_ 1 22) s m ([.ref (ad (0))] : List Value).toArray below meth c H locs 0 0 (MQ below (GQ D 13 ad (cfM cI cB ad) (fun v M' => v = some (.int (bI false)) ∧ SX M M')) ([.ref (ad (0))] : List Value).toArray s 0 0 (GA 13 ad)) (F0 m 71 ls []) := by
    intro fu71
    induction fu71 with
    | zero => intro c1 M1 H locs ls hfu; exact absurd hfu (Nat.not_lt_zero _)
    | succ fu71 ih71 =>
      intro c1 M1 H locs ls hfu71 hc hpv hSX hMK hP hS hl
      have hR1 := hR.sx hSX
      have hT1 := hT.sx hSX
      refine lv_iload_n hx hb d_M_told0_71 rfl (lv_at hl 1 rfl) ?_
      refine lv_aload_n hx hb d_M_told0_72 rfl (lv_at hl 0 rfl) ?_
      refine g_get (C := R_M) (T := T_M) (N := 19) (ci := 8) (v := .int (M1 0 2)) hx hb hg i_M hown hK hP 0 (by decide) rfl rfl 2 (by decide) (hg _ k_795) rfl d_M_told0_73 ?_
      refine n_top (y := (nI (tl))) (hT1.2.1) ?_
      refine n_ge (a := c1) (b := tl) (tgt := 96) hx hb d_M_told0_76 (by decide) (by omega) (by omega) (fun c_76 => ?_) (fun c_76 => ?_)
      · exact absurd hoc.2.1 (hpv c9 (by have := hoc.1; omega))
      · refine lv_aload_n hx hb d_M_told0_79 rfl (lv_at hl 0 rfl) ?_
        refine g_get (C := R_M) (T := T_M) (N := 19) (ci := 8) (v := .ref (ad (1))) hx hb hg i_M hown hK hP 0 (by decide) rfl rfl 1 (by decide) (hg _ k_794) rfl d_M_told0_80 ?_
        refine lv_iload_n hx hb d_M_told0_83 rfl (lv_at hl 1 rfl) ?_
        refine g_bald hx hb hK hP 1 1 (by decide) rfl rfl (by decide) (j := c1) (by omega) d_M_told0_84 ?_
        refine n_top (y := (nI (tc (c1)))) ((hT1.2.2 (c1) (by omega)).2.2) ?_
        refine n_bipush (k := 58) hx hb d_M_told0_85 (by decide) ?_
        refine n_eq (a := tc (c1)) (b := 58) (tgt := 96) hx hb d_M_told0_87 (by decide) (by have := htc (c1) (by omega); omega) (by omega) (fun c_87 => ?_) (fun c_87 => ?_)
        · have e9 : c1 = c9 := by have := Fst.uniq hoc (o' := some c1) ⟨by omega, c_87, hpv⟩; exact (Option.some.inj this).symm
          rw [e9] at hl
          have hl : lv_has ls 6 [(0, .ref (ad (0))), (1, .int (nI (c9)))] := hl
          refine lv_iload_n hx hb d_M_told0_96 rfl (lv_at hl 1 rfl) ?_
          refine lv_aload_n hx hb d_M_told0_97 rfl (lv_at hl 0 rfl) ?_
          refine g_get (C := R_M) (T := T_M) (N := 19) (ci := 8) (v := .int (M1 0 2)) hx hb hg i_M hown hK hP 0 (by decide) rfl rfl 2 (by decide) (hg _ k_795) rfl d_M_told0_98 ?_
          refine n_top (y := (nI (tl))) (hT1.2.1) ?_
          refine n_const (k := 1) hx hb d_M_told0_101 (by decide) ?_
          refine n_isub (a := tl) (b := 1) hx hb d_M_told0_102 (by omega) ?_
          refine n_lt (a := c9) (b := (tl) - (1)) (tgt := 108) hx hb d_M_told0_103 (by decide) (by omega) (by omega) (fun c_103 => ?_) (fun c_103 => ?_)
          · refine n_const (k := 0) hx hb d_M_told0_108 (by decide) ?_
            refine lv_istore_n (lv' := [(2, .int (nI (0))), (0, .ref (ad (0))), (1, .int (nI (c9)))]) hx hb d_M_told0_109 rfl hl (by decide) rfl (fun ls hl => ?_)
            exact J110 (_ + 1) (0) M1 _ _ ls (Nat.lt_succ_self _) (by omega) (fun q hq => absurd hq (Nat.not_lt_zero q)) (hSX) (hMK) hP hS (lv_sub hl [1, 2, 0] rfl)
          · exact absurd c_103 (by omega)
        · refine n_inc (lv' := [(1, .int (nI (c1 + 1))), (0, .ref (ad (0)))]) hx hb d_M_told0_90 hl (k := 1) rfl (by decide) rfl (fun ls hl => ?_)
          refine lv_goto (tgt := 71) hx hb d_M_told0_93 (by decide) ?_
          exact ih71 (c1 + 1) M1 _ _ ls (by omega) (by omega) (lt_S hpv c_87) (hSX) (hMK) hP hS (lv_sub hl [1, 0] rfl)
  refine lv_aload_n hx hb d_M_told0_0 rfl (lv_at hl 0 rfl) ?_
  refine c_V (own := R_M) (index := 72) (As := []) (rest := []) hx hb hml hown hg hK (fun _ _ _ h => h) (fun _ _ => trivial) (fun _ h => h) hP hS 0 (c_M_begin l D cI cB ad hI M) (by decide) (ci := 8) rfl rfl k_871 k_873 k_p23 k_9 k_874 0 rfl (by decide +kernel) (by decide) rfl hl.1 (Nat.le_of_ble_eq_true rfl) d_M_told0_1 (fun v M_1 H locs hq hP _ _ hS => ?_)
  obtain ⟨rfl, eM_1⟩ := hq
  have hSX : SX M M_1 := hSX.tr (by rw [eM_1]; exact SX.begin _)
  have hMK : MK M_1 0 tc := by rw [eM_1]; exact MK.begin _ _
  have hR1 := hR.sx hSX
  have hT1 := hT.sx hSX
  refine W.eq (g2 := F0 m 4 ls []) rfl ?_
  refine lv_aload_n hx hb d_M_told0_4 rfl (lv_at hl 0 rfl) ?_
  refine g_get (C := R_M) (T := T_M) (N := 19) (ci := 8) (v := .int (M_1 0 2)) hx hb hg i_M hown hK hP 0 (by decide) rfl rfl 2 (by decide) (hg _ k_795) rfl d_M_told0_5 ?_
  refine n_top (y := (nI (tl))) (hT1.2.1) ?_
  refine n_const (k := 2) hx hb d_M_told0_8 (by decide) ?_
  refine n_le (a := tl) (b := 2) (tgt := 69) hx hb d_M_told0_9 (by decide) (by omega) (by omega) (fun c_9 => ?_) (fun c_9 => ?_)
  · refine n_const (k := 0) hx hb d_M_told0_69 (by decide) ?_
    refine lv_istore_n (lv' := [(1, .int (nI (0))), (0, .ref (ad (0)))]) hx hb d_M_told0_70 rfl hl (by decide) rfl (fun ls hl => ?_)
    exact J71 (_ + 1) (0) M_1 _ _ ls (Nat.lt_succ_self _) (by omega) (fun q hq => absurd hq (Nat.not_lt_zero q)) (hSX) (hMK) hP hS (lv_sub hl [1, 0] rfl)
  · refine lv_aload_n hx hb d_M_told0_12 rfl (lv_at hl 0 rfl) ?_
    refine g_get (C := R_M) (T := T_M) (N := 19) (ci := 8) (v := .ref (ad (1))) hx hb hg i_M hown hK hP 0 (by decide) rfl rfl 1 (by decide) (hg _ k_794) rfl d_M_told0_13 ?_
    refine n_const (k := 0) hx hb d_M_told0_16 (by decide) ?_
    refine g_bald hx hb hK hP 1 1 (by decide) rfl rfl (by decide) (j := 0) (by omega) d_M_told0_17 ?_
    refine n_top (y := (nI (tc (0)))) ((hT1.2.2 (0) (by omega)).2.2) ?_
    refine n_bipush (k := 60) hx hb d_M_told0_18 (by decide) ?_
    refine n_ne (a := tc (0)) (b := 60) (tgt := 69) hx hb d_M_told0_20 (by decide) (by have := htc (0) (by omega); omega) (by omega) (fun c_20 => ?_) (fun c_20 => ?_)
    · refine n_const (k := 0) hx hb d_M_told0_69 (by decide) ?_
      refine lv_istore_n (lv' := [(1, .int (nI (0))), (0, .ref (ad (0)))]) hx hb d_M_told0_70 rfl hl (by decide) rfl (fun ls hl => ?_)
      exact J71 (_ + 1) (0) M_1 _ _ ls (Nat.lt_succ_self _) (by omega) (fun q hq => absurd hq (Nat.not_lt_zero q)) (hSX) (hMK) hP hS (lv_sub hl [1, 0] rfl)
    · refine lv_aload_n hx hb d_M_told0_23 rfl (lv_at hl 0 rfl) ?_
      refine g_get (C := R_M) (T := T_M) (N := 19) (ci := 8) (v := .ref (ad (1))) hx hb hg i_M hown hK hP 0 (by decide) rfl rfl 1 (by decide) (hg _ k_794) rfl d_M_told0_24 ?_
      refine lv_aload_n hx hb d_M_told0_27 rfl (lv_at hl 0 rfl) ?_
      refine g_get (C := R_M) (T := T_M) (N := 19) (ci := 8) (v := .int (M_1 0 2)) hx hb hg i_M hown hK hP 0 (by decide) rfl rfl 2 (by decide) (hg _ k_795) rfl d_M_told0_28 ?_
      refine n_top (y := (nI (tl))) (hT1.2.1) ?_
      refine n_const (k := 1) hx hb d_M_told0_31 (by decide) ?_
      refine n_isub (a := tl) (b := 1) hx hb d_M_told0_32 (by omega) ?_
      refine g_bald hx hb hK hP 1 1 (by decide) rfl rfl (by decide) (j := (tl) - (1)) (by omega) d_M_told0_33 ?_
      refine n_top (y := (nI (tc ((tl) - (1))))) ((hT1.2.2 ((tl) - (1)) (by omega)).2.2) ?_
      refine n_bipush (k := 62) hx hb d_M_told0_34 (by decide) ?_
      refine n_ne (a := tc ((tl) - (1))) (b := 62) (tgt := 69) hx hb d_M_told0_36 (by decide) (by have := htc (tl - 1) (by omega); omega) (by omega) (fun c_36 => ?_) (fun c_36 => ?_)
      · refine n_const (k := 0) hx hb d_M_told0_69 (by decide) ?_
        refine lv_istore_n (lv' := [(1, .int (nI (0))), (0, .ref (ad (0)))]) hx hb d_M_told0_70 rfl hl (by decide) rfl (fun ls hl => ?_)
        exact J71 (_ + 1) (0) M_1 _ _ ls (Nat.lt_succ_self _) (by omega) (fun q hq => absurd hq (Nat.not_lt_zero q)) (hSX) (hMK) hP hS (lv_sub hl [1, 0] rfl)
      · exact absurd ⟨c_9, c_20, c_36⟩ hnb

set_option maxHeartbeats 4000000 in
set_option maxRecDepth 100000 in
theorem c_M_told_b (l : Launch) (D : va_G) (cI cB : ClassId) (ad : Nat → Nat) (hI : GI 13 ad) (M : PM) (n : Nat) (len : Nat → Nat) (ch : Nat → Nat → Nat) (sp : Nat → Option Nat) (hR : RN M n len ch sp) (tl : Nat) (tc : Nat → Nat) (hT : RT M tl tc) (hnb : ¬ brk tl tc) (h0 : 0 < tl) (c9 : Nat) (hoc : Fst (fun i => tc i = 58) tl (some c9)) (hc9 : c9 + 1 < tl) (k9 s9 : Nat) (hok : Fst (matK len ch sp tc c9) n (some k9)) (hs9 : sp k9 = some s9) : MM l D cI cB ad y_M_told0 b_M_told0 6 (some .boolean) 1 22 [.ref (ad (0))] M (fun v M' => v = some (.int (bI true)) ∧ SX M M' ∧ MK M' (len s9 + (tl - (c9 + 1))) (scCo len ch tc s9 c9)) := by
  refine MC.of (by decide) (Nat.le_of_ble_eq_true rfl) ?_
  intro p e s m below meth c ls hx hb hr hml hown hg hlocks hK hN hP hS hl
  have hown : s.vm.findClass R_M = some m.cls := hown
  have hl : lv_has ls 6 [(0, .ref (ad (0)))] := hl
  have hn60 : n ≤ 60 := hR.1
  have hl24 := hR.2.2.1
  have hspn := hR.2.2.2.2.1
  have hch := hR.2.2.2.2.2
  have htl := hT.1
  have htc := hT.2.2
  have hSX := SX.rf M
  have hs9n : s9 < n := hspn k9 s9 hok.1 hs9
  have hls := hl24 s9 hs9n
  have J238 : ∀ (fu238 : Nat) (i : Nat) (M1 : PM) (H : Heap) (locs : List Loc) (ls : Array Slot), tl - i < fu238 → (c9 + 1 ≤ i) → (i ≤ tl) → (SX M M1) → (MK M1 (len s9 + (i - (c9 + 1))) (scCo len ch tc s9 c9)) → va_P D clsA (gw 13 ad (cfM cI cB ad) M1) H → va_S (GA 13 ad) s.heap H locs → lv_has ls 6 [(0, .ref (ad (0))), (5, .int (nI (i)))] → W p l e (rm_ 1 22) s m ([.ref (ad (0))] : List Value).toArray below meth c H locs 0 0 (MQ below (GQ D 13 ad (cfM cI cB ad) (fun v M' => v = some (.int (bI true)) ∧ SX M M' ∧ MK M' (len s9 + (tl - (c9 + 1))) (scCo len ch tc s9 c9))) ([.ref (ad (0))] : List Value).toArray s 0 0 (GA 13 ad)) (F0 m 238 ls []) := by
    intro fu238
    induction fu238 with
    | zero => intro i M1 H locs ls hfu; exact absurd hfu (Nat.not_lt_zero _)
    | succ fu238 ih238 =>
      intro i M1 H locs ls hfu238 hi1 hi hSX hMK hP hS hl
      have hR1 := hR.sx hSX
      have hT1 := hT.sx hSX
      refine lv_iload hx hb d_M_told0_238 (lv_at hl 1 rfl) ?_
      refine lv_aload_n hx hb d_M_told0_240 rfl (lv_at hl 0 rfl) ?_
      refine g_get (C := R_M) (T := T_M) (N := 19) (ci := 8) (v := .int (M1 0 2)) hx hb hg i_M hown hK hP 0 (by decide) rfl rfl 2 (by decide) (hg _ k_795) rfl d_M_told0_241 ?_
      refine n_top (y := (nI (tl))) (hT1.2.1) ?_
      refine n_ge (a := i) (b := tl) (tgt := 264) hx hb d_M_told0_244 (by decide) (by omega) (by omega) (fun c_244 => ?_) (fun c_244 => ?_)
      · refine n_const (k := 1) hx hb d_M_told0_264 (by decide) ?_
        exact r_z hx hb hr hlocks (rfl) hP hS (⟨rfl, hSX, by rw [show tl = i by omega]; exact hMK⟩) d_M_told0_265
      · refine lv_aload_n hx hb d_M_told0_247 rfl (lv_at hl 0 rfl) ?_
        refine lv_aload_n hx hb d_M_told0_248 rfl (lv_at hl 0 rfl) ?_
        refine g_get (C := R_M) (T := T_M) (N := 19) (ci := 8) (v := .ref (ad (1))) hx hb hg i_M hown hK hP 0 (by decide) rfl rfl 1 (by decide) (hg _ k_794) rfl d_M_told0_249 ?_
        refine lv_iload hx hb d_M_told0_252 (lv_at hl 1 rfl) ?_
        refine g_bald hx hb hK hP 1 1 (by decide) rfl rfl (by decide) (j := i) (by omega) d_M_told0_254 ?_
        refine n_top (y := (nI (tc (i)))) ((hT1.2.2 (i) (by omega)).2.2) ?_
        refine c_V (own := R_M) (index := 75) (As := [.int (nI (tc (i)))]) (rest := []) hx hb hml hown hg hK (fun _ _ _ h => h) (fun _ _ => trivial) (fun _ h => h) hP hS 0 (c_M_makes l D cI cB ad hI M1 (len s9 + (i - (c9 + 1))) (scCo len ch tc s9 c9) hMK (tc (i)) (by have := htc i (by omega); omega) (by omega)) (by decide) (ci := 8) rfl rfl k_875 k_877 k_p24 k_9 k_878 1 rfl (by decide +kernel) (by decide) rfl hl.1 (Nat.le_of_ble_eq_true rfl) d_M_told0_255 (fun v M_1 H locs hq hP _ _ hS => ?_)
        obtain ⟨rfl, eM_1⟩ := hq
        rw [show tc (i) = (scCo len ch tc s9 c9) (len s9 + (i - (c9 + 1))) from (by unfold scCo; rw [if_neg (by omega)]; congr 1; omega)] at eM_1
        have hSX : SX M M_1 := hSX.tr (by rw [eM_1]; exact SX.add _ _ _ _)
        have hMK : MK M_1 (len s9 + (i - (c9 + 1)) + 1) (scCo len ch tc s9 c9) := by rw [eM_1]; exact hMK.add (by omega) (by unfold scCo; rw [if_neg (by omega)]; have := htc (c9 + 1 + (len s9 + (i - (c9 + 1)) - len s9)) (by omega); omega)
        have hR1 := hR.sx hSX
        have hT1 := hT.sx hSX
        refine W.eq (g2 := F0 m 258 ls []) rfl ?_
        refine n_inc (lv' := [(5, .int (nI (i + 1))), (0, .ref (ad (0)))]) hx hb d_M_told0_258 hl (k := 1) rfl (by decide) rfl (fun ls hl => ?_)
        refine lv_goto (tgt := 238) hx hb d_M_told0_261 (by decide) ?_
        exact ih238 (i + 1) M_1 _ _ ls (by omega) (by omega) (by omega) (hSX) (by rw [show len s9 + (i + 1 - (c9 + 1)) = len s9 + (i - (c9 + 1)) + 1 by omega]; exact hMK) hP hS (lv_sub hl [1, 0] rfl)
  have J203 : ∀ (fu203 : Nat) (i : Nat) (M1 : PM) (H : Heap) (locs : List Loc) (ls : Array Slot), len s9 - i < fu203 → (i ≤ len s9) → (SX M M1) → (MK M1 (i) (scCo len ch tc s9 c9)) → va_P D clsA (gw 13 ad (cfM cI cB ad) M1) H → va_S (GA 13 ad) s.heap H locs → lv_has ls 6 [(0, .ref (ad (0))), (1, .int (nI (c9))), (4, .int (nI (s9))), (5, .int (nI (i)))] → W p l e (rm_ 1 22) s m ([.ref (ad (0))] : List Value).toArray below meth c H locs 0 0 (MQ below (GQ D 13 ad (cfM cI cB ad) (fun v M' => v = some (.int (bI true)) ∧ SX M M' ∧ MK M' (len s9 + (tl - (c9 + 1))) (scCo len ch tc s9 c9))) ([.ref (ad (0))] : List Value).toArray s 0 0 (GA 13 ad)) (F0 m 203 ls []) := by
    intro fu203
    induction fu203 with
    | zero => intro i M1 H locs ls hfu; exact absurd hfu (Nat.not_lt_zero _)
    | succ fu203 ih203 =>
      intro i M1 H locs ls hfu203 hi hSX hMK hP hS hl
      have hR1 := hR.sx hSX
      have hT1 := hT.sx hSX
      refine lv_iload hx hb d_M_told0_203 (lv_at hl 3 rfl) ?_
      refine lv_aload_n hx hb d_M_told0_205 rfl (lv_at hl 0 rfl) ?_
      refine g_get (C := R_M) (T := T_M) (N := 19) (ci := 8) (v := .ref (ad (3))) hx hb hg i_M hown hK hP 0 (by decide) rfl rfl 4 (by decide) (hg _ k_797) rfl d_M_told0_206 ?_
      refine lv_iload hx hb d_M_told0_209 (lv_at hl 2 rfl) ?_
      refine g_iald hx hb hK hP 3 0 (by decide) rfl rfl (by decide) (j := s9) (by omega) d_M_told0_211 ?_
      refine n_top (y := (nI (len (s9)))) ((hR1.2.2.1 (s9) (by omega)).2.2) ?_
      refine n_ge (a := i) (b := len (s9)) (tgt := 233) hx hb d_M_told0_212 (by decide) (by omega) (by omega) (fun c_212 => ?_) (fun c_212 => ?_)
      · refine lv_iload_n hx hb d_M_told0_233 rfl (lv_at hl 1 rfl) ?_
        refine n_const (k := 1) hx hb d_M_told0_234 (by decide) ?_
        refine n_iadd (a := c9) (b := 1) hx hb d_M_told0_235 ?_
        refine lv_istore (lv' := [(5, .int (nI ((c9) + (1)))), (0, .ref (ad (0))), (1, .int (nI (c9))), (4, .int (nI (s9)))]) hx hb d_M_told0_236 hl (by decide) rfl (fun ls hl => ?_)
        exact J238 (_ + 1) ((c9) + (1)) M1 _ _ ls (Nat.lt_succ_self _) (by omega) (by omega) (hSX) (by rw [show len s9 + (c9 + 1 - (c9 + 1)) = i by omega]; exact hMK) hP hS (lv_sub hl [1, 0] rfl)
      · refine lv_aload_n hx hb d_M_told0_215 rfl (lv_at hl 0 rfl) ?_
        refine lv_aload_n hx hb d_M_told0_216 rfl (lv_at hl 0 rfl) ?_
        refine lv_iload hx hb d_M_told0_217 (lv_at hl 2 rfl) ?_
        refine lv_iload hx hb d_M_told0_219 (lv_at hl 3 rfl) ?_
        refine c_V (own := R_M) (index := 64) (As := [.int (nI (s9)), .int (nI (i))]) (rest := [.ref (ad (0))]) hx hb hml hown hg hK (fun _ _ _ h => h) (fun _ _ => trivial) (fun _ h => h) hP hS 0 (c_M_at l D cI cB ad hI M1 n len ch sp hR1 (s9) (i) (by omega) (by omega)) (by decide) (ci := 8) rfl rfl k_887 k_889 k_p27 k_9 k_890 2 rfl (by decide +kernel) (by decide) rfl hl.1 (Nat.le_of_ble_eq_true rfl) d_M_told0_221 (fun v M' H locs hq hP _ _ hS => ?_)
        obtain ⟨rfl, rfl⟩ := hq
        refine W.eq (g2 := F0 m 224 ls [.int (nI (ch (s9) (i))), .ref (ad (0))]) rfl ?_
        refine c_V (own := R_M) (index := 75) (As := [.int (nI (ch (s9) (i)))]) (rest := []) hx hb hml hown hg hK (fun _ _ _ h => h) (fun _ _ => trivial) (fun _ h => h) hP hS 0 (c_M_makes l D cI cB ad hI M1 (i) (scCo len ch tc s9 c9) hMK (ch (s9) (i)) (by have := hch s9 i hs9n (by omega); omega) (by omega)) (by decide) (ci := 8) rfl rfl k_875 k_877 k_p24 k_9 k_878 1 rfl (by decide +kernel) (by decide) rfl hl.1 (Nat.le_of_ble_eq_true rfl) d_M_told0_224 (fun v M_2 H locs hq hP _ _ hS => ?_)
        obtain ⟨rfl, eM_2⟩ := hq
        rw [show ch (s9) (i) = (scCo len ch tc s9 c9) (i) from (if_pos (by omega)).symm] at eM_2
        have hSX : SX M M_2 := hSX.tr (by rw [eM_2]; exact SX.add _ _ _ _)
        have hMK : MK M_2 (i + 1) (scCo len ch tc s9 c9) := by rw [eM_2]; exact hMK.add (by omega) (by unfold scCo; rw [if_pos (by omega)]; have := hch s9 i hs9n (by omega); omega)
        have hR1 := hR.sx hSX
        have hT1 := hT.sx hSX
        refine W.eq (g2 := F0 m 227 ls []) rfl ?_
        refine n_inc (lv' := [(5, .int (nI (i + 1))), (0, .ref (ad (0))), (1, .int (nI (c9))), (4, .int (nI (s9)))]) hx hb d_M_told0_227 hl (k := 3) rfl (by decide) rfl (fun ls hl => ?_)
        refine lv_goto (tgt := 203) hx hb d_M_told0_230 (by decide) ?_
        exact ih203 (i + 1) M_2 _ _ ls (by omega) (by omega) (hSX) (hMK) hP hS (lv_sub hl [1, 2, 3, 0] rfl)
  have J110 : ∀ (fu110 : Nat) (k : Nat) (M1 : PM) (H : Heap) (locs : List Loc) (ls : Array Slot), n - k < fu110 → (k ≤ n) → (∀ q, q < k → ¬ matK len ch sp tc c9 q) → (SX M M1) → (MK M1 0 (scCo len ch tc s9 c9)) → va_P D clsA (gw 13 ad (cfM cI cB ad) M1) H → va_S (GA 13 ad) s.heap H locs → lv_has ls 6 [(0, .ref (ad (0))), (1, .int (nI (c9))), (2, .int (nI (k)))] → W p l e (rm_ 1 22) s m ([.ref (ad (0))] : List Value).toArray below meth c H locs 0 0 (MQ below (GQ D 13 ad (cfM cI cB ad) (fun v M' => v = some (.int (bI true)) ∧ SX M M' ∧ MK M' (len s9 + (tl - (c9 + 1))) (scCo len ch tc s9 c9))) ([.ref (ad (0))] : List Value).toArray s 0 0 (GA 13 ad)) (F0 m 110 ls []) := by
    intro fu110
    induction fu110 with
    | zero => intro k M1 H locs ls hfu; exact absurd hfu (Nat.not_lt_zero _)
    | succ fu110 ih110 =>
      intro k M1 H locs ls hfu110 hk hpv hSX hMK hP hS hl
      have hR1 := hR.sx hSX
      have hT1 := hT.sx hSX
      have J146 : ∀ (fu146 : Nat) (i : Nat) (b : Bool) (M1 : PM) (H : Heap) (locs : List Loc) (ls : Array Slot), c9 - i < fu146 → (k < n) → (i ≤ c9) → (b = true ↔ (sp k ≠ none ∧ len k = c9 ∧ ∀ q, q < i → ch k q = tc q)) → (SX M M1) → (MK M1 0 (scCo len ch tc s9 c9)) → va_P D clsA (gw 13 ad (cfM cI cB ad) M1) H → va_S (GA 13 ad) s.heap H locs → lv_has ls 6 [(0, .ref (ad (0))), (1, .int (nI (c9))), (2, .int (nI (k))), (3, .int (bI (b))), (4, .int (nI (i)))] → W p l e (rm_ 1 22) s m ([.ref (ad (0))] : List Value).toArray below meth c H locs 0 0 (MQ below (GQ D 13 ad (cfM cI cB ad) (fun v M' => v = some (.int (bI true)) ∧ SX M M' ∧ MK M' (len s9 + (tl - (c9 + 1))) (scCo len ch tc s9 c9))) ([.ref (ad (0))] : List Value).toArray s 0 0 (GA 13 ad)) (F0 m 146 ls []) := by
        intro fu146
        induction fu146 with
        | zero => intro i b M1 H locs ls hfu; exact absurd hfu (Nat.not_lt_zero _)
        | succ fu146 ih146 =>
          intro i b M1 H locs ls hfu146 hkn hi hbb hSX hMK hP hS hl
          have hR1 := hR.sx hSX
          have hT1 := hT.sx hSX
          refine lv_iload hx hb d_M_told0_146 (lv_at hl 4 rfl) ?_
          refine lv_iload_n hx hb d_M_told0_148 rfl (lv_at hl 1 rfl) ?_
          refine n_ge (a := i) (b := c9) (tgt := 185) hx hb d_M_told0_149 (by decide) (by omega) (by omega) (fun c_149 => ?_) (fun c_149 => ?_)
          · refine lv_iload_n hx hb d_M_told0_185 rfl (lv_at hl 3 rfl) ?_
            refine z_ne (t := b) (tgt := 192) hx hb d_M_told0_186 (by decide) (fun c_186 => ?_) (fun c_186 => ?_)
            · have hm : matK len ch sp tc c9 k := by first | exact ⟨(hbb.mp c_186).1, (hbb.mp c_186).2.1, fun q hq => (hbb.mp c_186).2.2 q (by omega)⟩ | (rw [c_153] at c_186; cases c_186)
              have ek : k = k9 := by have := Fst.uniq hok (o' := some k) ⟨by omega, hm, hpv⟩; exact (Option.some.inj this).symm
              refine lv_aload_n hx hb d_M_told0_192 rfl (lv_at hl 0 rfl) ?_
              refine g_get (C := R_M) (T := T_M) (N := 19) (ci := 8) (v := .ref (ad (4))) hx hb hg i_M hown hK hP 0 (by decide) rfl rfl 6 (by decide) (hg _ k_799) rfl d_M_told0_193 ?_
              refine lv_iload_n hx hb d_M_told0_196 rfl (lv_at hl 2 rfl) ?_
              refine g_iald hx hb hK hP 4 0 (by decide) rfl rfl (by decide) (j := k) (by omega) d_M_told0_197 ?_
              refine n_top (y := (nI (s9))) (by rw [hR1.2.2.2.1 k (by omega), ek, hs9]; rfl) ?_
              refine lv_istore (lv' := [(4, .int (nI (s9))), (0, .ref (ad (0))), (1, .int (nI (c9))), (2, .int (nI (k))), (3, .int (bI (b)))]) hx hb d_M_told0_198 hl (by decide) rfl (fun ls hl => ?_)
              refine n_const (k := 0) hx hb d_M_told0_200 (by decide) ?_
              refine lv_istore (lv' := [(5, .int (nI (0))), (4, .int (nI (s9))), (0, .ref (ad (0))), (1, .int (nI (c9))), (2, .int (nI (k))), (3, .int (bI (b)))]) hx hb d_M_told0_201 hl (by decide) rfl (fun ls hl => ?_)
              exact J203 (_ + 1) (0) M1 _ _ ls (Nat.lt_succ_self _) (by omega) (hSX) (hMK) hP hS (lv_sub hl [2, 3, 1, 0] rfl)
            · have hpv9 : ∀ q, q < k + 1 → ¬ matK len ch sp tc c9 q := lt_S hpv (fun h => by have h9 : b = true := hbb.mpr ⟨h.1, h.2.1, fun q hq => h.2.2 q (by omega)⟩; rw [c_186] at h9; cases h9)
              refine lv_goto (tgt := 266) hx hb d_M_told0_189 (by decide) ?_
              refine n_inc (lv' := [(2, .int (nI (k + 1))), (0, .ref (ad (0))), (1, .int (nI (c9))), (3, .int (bI (b))), (4, .int (nI (i)))]) hx hb d_M_told0_266 hl (k := 2) rfl (by decide) rfl (fun ls hl => ?_)
              refine lv_goto (tgt := 110) hx hb d_M_told0_269 (by decide) ?_
              exact ih110 (k + 1) M1 _ _ ls (by omega) (by omega) (hpv9) (hSX) (hMK) hP hS (lv_sub hl [1, 2, 0] rfl)
          · refine lv_iload_n hx hb d_M_told0_152 rfl (lv_at hl 3 rfl) ?_
            refine z_eq (t := b) (tgt := 185) hx hb d_M_told0_153 (by decide) (fun c_153 => ?_) (fun c_153 => ?_)
            · refine lv_iload_n hx hb d_M_told0_185 rfl (lv_at hl 3 rfl) ?_
              refine z_ne (t := b) (tgt := 192) hx hb d_M_told0_186 (by decide) (fun c_186 => ?_) (fun c_186 => ?_)
              · have hm : matK len ch sp tc c9 k := by first | exact ⟨(hbb.mp c_186).1, (hbb.mp c_186).2.1, fun q hq => (hbb.mp c_186).2.2 q (by omega)⟩ | (rw [c_153] at c_186; cases c_186)
                have ek : k = k9 := by have := Fst.uniq hok (o' := some k) ⟨by omega, hm, hpv⟩; exact (Option.some.inj this).symm
                refine lv_aload_n hx hb d_M_told0_192 rfl (lv_at hl 0 rfl) ?_
                refine g_get (C := R_M) (T := T_M) (N := 19) (ci := 8) (v := .ref (ad (4))) hx hb hg i_M hown hK hP 0 (by decide) rfl rfl 6 (by decide) (hg _ k_799) rfl d_M_told0_193 ?_
                refine lv_iload_n hx hb d_M_told0_196 rfl (lv_at hl 2 rfl) ?_
                refine g_iald hx hb hK hP 4 0 (by decide) rfl rfl (by decide) (j := k) (by omega) d_M_told0_197 ?_
                refine n_top (y := (nI (s9))) (by rw [hR1.2.2.2.1 k (by omega), ek, hs9]; rfl) ?_
                refine lv_istore (lv' := [(4, .int (nI (s9))), (0, .ref (ad (0))), (1, .int (nI (c9))), (2, .int (nI (k))), (3, .int (bI (b)))]) hx hb d_M_told0_198 hl (by decide) rfl (fun ls hl => ?_)
                refine n_const (k := 0) hx hb d_M_told0_200 (by decide) ?_
                refine lv_istore (lv' := [(5, .int (nI (0))), (4, .int (nI (s9))), (0, .ref (ad (0))), (1, .int (nI (c9))), (2, .int (nI (k))), (3, .int (bI (b)))]) hx hb d_M_told0_201 hl (by decide) rfl (fun ls hl => ?_)
                exact J203 (_ + 1) (0) M1 _ _ ls (Nat.lt_succ_self _) (by omega) (hSX) (hMK) hP hS (lv_sub hl [2, 3, 1, 0] rfl)
              · have hpv9 : ∀ q, q < k + 1 → ¬ matK len ch sp tc c9 q := lt_S hpv (fun h => by have h9 : b = true := hbb.mpr ⟨h.1, h.2.1, fun q hq => h.2.2 q (by omega)⟩; rw [c_186] at h9; cases h9)
                refine lv_goto (tgt := 266) hx hb d_M_told0_189 (by decide) ?_
                refine n_inc (lv' := [(2, .int (nI (k + 1))), (0, .ref (ad (0))), (1, .int (nI (c9))), (3, .int (bI (b))), (4, .int (nI (i)))]) hx hb d_M_told0_266 hl (k := 2) rfl (by decide) rfl (fun ls hl => ?_)
                refine lv_goto (tgt := 110) hx hb d_M_told0_269 (by decide) ?_
                exact ih110 (k + 1) M1 _ _ ls (by omega) (by omega) (hpv9) (hSX) (hMK) hP hS (lv_sub hl [1, 2, 0] rfl)
            · have hlk := (hbb.mp c_153).2.1
              have hc1 := hch k i (by omega) (by omega)
              have hc2 := htc i (by omega)
              have hm9 : c9 - (i + 1) < fu146 := by omega
              have hi9 : i + 1 ≤ c9 := by omega
              refine lv_aload_n hx hb d_M_told0_156 rfl (lv_at hl 0 rfl) ?_
              refine lv_iload_n hx hb d_M_told0_157 rfl (lv_at hl 2 rfl) ?_
              refine lv_iload hx hb d_M_told0_158 (lv_at hl 4 rfl) ?_
              refine c_V (own := R_M) (index := 64) (As := [.int (nI (k)), .int (nI (i))]) (rest := []) hx hb hml hown hg hK (fun _ _ _ h => h) (fun _ _ => trivial) (fun _ h => h) hP hS 0 (c_M_at l D cI cB ad hI M1 n len ch sp hR1 (k) (i) (by omega) (by omega)) (by decide) (ci := 8) rfl rfl k_887 k_889 k_p27 k_9 k_890 2 rfl (by decide +kernel) (by decide) rfl hl.1 (Nat.le_of_ble_eq_true rfl) d_M_told0_160 (fun v M' H locs hq hP _ _ hS => ?_)
              obtain ⟨rfl, rfl⟩ := hq
              refine W.eq (g2 := F0 m 163 ls [.int (nI (ch (k) (i)))]) rfl ?_
              refine lv_aload_n hx hb d_M_told0_163 rfl (lv_at hl 0 rfl) ?_
              refine g_get (C := R_M) (T := T_M) (N := 19) (ci := 8) (v := .ref (ad (1))) hx hb hg i_M hown hK hP 0 (by decide) rfl rfl 1 (by decide) (hg _ k_794) rfl d_M_told0_164 ?_
              refine lv_iload hx hb d_M_told0_167 (lv_at hl 4 rfl) ?_
              refine g_bald hx hb hK hP 1 1 (by decide) rfl rfl (by decide) (j := i) (by omega) d_M_told0_169 ?_
              refine n_top (y := (nI (tc (i)))) ((hT1.2.2 (i) (by omega)).2.2) ?_
              refine n_ne (a := ch (k) (i)) (b := tc (i)) (tgt := 177) hx hb d_M_told0_170 (by decide) (by omega) (by omega) (fun c_170 => ?_) (fun c_170 => ?_)
              · have hbb9 : (false = true) ↔ (sp k ≠ none ∧ len k = c9 ∧ ∀ q, q < i + 1 → ch k q = tc q) := ⟨fun h => (by cases h), fun h => absurd (h.2.2 i (Nat.lt_succ_self i)) c_170⟩
                refine n_const (k := 0) hx hb d_M_told0_177 (by decide) ?_
                refine lv_istore_n (lv' := [(3, .int (nI (0))), (0, .ref (ad (0))), (1, .int (nI (c9))), (2, .int (nI (k))), (4, .int (nI (i)))]) hx hb d_M_told0_178 rfl hl (by decide) rfl (fun ls hl => ?_)
                refine n_inc (lv' := [(4, .int (nI (i + 1))), (3, .int (nI (0))), (0, .ref (ad (0))), (1, .int (nI (c9))), (2, .int (nI (k)))]) hx hb d_M_told0_179 hl (k := 4) rfl (by decide) rfl (fun ls hl => ?_)
                refine lv_goto (tgt := 146) hx hb d_M_told0_182 (by decide) ?_
                exact ih146 (i + 1) (false) M1 _ _ ls (hm9) (by omega) (hi9) (hbb9) (hSX) (hMK) hP hS (lv_sub hl [2, 3, 4, 1, 0] rfl)
              · have hbb9 : (true = true) ↔ (sp k ≠ none ∧ len k = c9 ∧ ∀ q, q < i + 1 → ch k q = tc q) := ⟨fun _ => ⟨(hbb.mp c_153).1, (hbb.mp c_153).2.1, lt_S (hbb.mp c_153).2.2 c_170⟩, fun _ => rfl⟩
                refine n_const (k := 1) hx hb d_M_told0_173 (by decide) ?_
                refine lv_goto (tgt := 178) hx hb d_M_told0_174 (by decide) ?_
                refine lv_istore_n (lv' := [(3, .int (nI (1))), (0, .ref (ad (0))), (1, .int (nI (c9))), (2, .int (nI (k))), (4, .int (nI (i)))]) hx hb d_M_told0_178 rfl hl (by decide) rfl (fun ls hl => ?_)
                refine n_inc (lv' := [(4, .int (nI (i + 1))), (3, .int (nI (1))), (0, .ref (ad (0))), (1, .int (nI (c9))), (2, .int (nI (k)))]) hx hb d_M_told0_179 hl (k := 4) rfl (by decide) rfl (fun ls hl => ?_)
                refine lv_goto (tgt := 146) hx hb d_M_told0_182 (by decide) ?_
                exact ih146 (i + 1) (true) M1 _ _ ls (hm9) (by omega) (hi9) (hbb9) (hSX) (hMK) hP hS (lv_sub hl [2, 3, 4, 1, 0] rfl)
      refine lv_iload_n hx hb d_M_told0_110 rfl (lv_at hl 2 rfl) ?_
      refine lv_aload_n hx hb d_M_told0_111 rfl (lv_at hl 0 rfl) ?_
      refine g_get (C := R_M) (T := T_M) (N := 19) (ci := 8) (v := .int (M1 0 5)) hx hb hg i_M hown hK hP 0 (by decide) rfl rfl 5 (by decide) (hg _ k_798) rfl d_M_told0_112 ?_
      refine n_top (y := (nI (n))) (hR1.2.1) ?_
      refine n_ge (a := k) (b := n) (tgt := 272) hx hb d_M_told0_115 (by decide) (by omega) (by omega) (fun c_115 => ?_) (fun c_115 => ?_)
      · exact absurd hok.2.1 (hpv k9 (by have := hok.1; omega))
      · refine lv_aload_n hx hb d_M_told0_118 rfl (lv_at hl 0 rfl) ?_
        refine g_get (C := R_M) (T := T_M) (N := 19) (ci := 8) (v := .ref (ad (4))) hx hb hg i_M hown hK hP 0 (by decide) rfl rfl 6 (by decide) (hg _ k_799) rfl d_M_told0_119 ?_
        refine lv_iload_n hx hb d_M_told0_122 rfl (lv_at hl 2 rfl) ?_
        refine g_iald hx hb hK hP 4 0 (by decide) rfl rfl (by decide) (j := k) (by omega) d_M_told0_123 ?_
        refine n_top (y := (oI (sp (k)))) (hR1.2.2.2.1 (k) (by omega)) ?_
        refine o_lt (o := sp (k)) (tgt := 141) hx hb d_M_told0_124 (by decide) (by intro q hq; have := hspn _ q (by omega) hq; omega) (fun c_124 => ?_) (fun v_124 c_124 => ?_)
        · have hbb0 : (false = true) ↔ (sp k ≠ none ∧ len k = c9 ∧ ∀ q, q < 0 → ch k q = tc q) := ⟨fun h => (by cases h), fun h => absurd c_124 h.1⟩
          refine n_const (k := 0) hx hb d_M_told0_141 (by decide) ?_
          refine lv_istore_n (lv' := [(3, .int (nI (0))), (0, .ref (ad (0))), (1, .int (nI (c9))), (2, .int (nI (k)))]) hx hb d_M_told0_142 rfl hl (by decide) rfl (fun ls hl => ?_)
          refine n_const (k := 0) hx hb d_M_told0_143 (by decide) ?_
          refine lv_istore (lv' := [(4, .int (nI (0))), (3, .int (nI (0))), (0, .ref (ad (0))), (1, .int (nI (c9))), (2, .int (nI (k)))]) hx hb d_M_told0_144 hl (by decide) rfl (fun ls hl => ?_)
          exact J146 (_ + 1) (0) (false) M1 _ _ ls (Nat.lt_succ_self _) (by omega) (by omega) (hbb0) (hSX) (hMK) hP hS (lv_sub hl [2, 3, 4, 1, 0] rfl)
        · refine lv_aload_n hx hb d_M_told0_127 rfl (lv_at hl 0 rfl) ?_
          refine g_get (C := R_M) (T := T_M) (N := 19) (ci := 8) (v := .ref (ad (3))) hx hb hg i_M hown hK hP 0 (by decide) rfl rfl 4 (by decide) (hg _ k_797) rfl d_M_told0_128 ?_
          refine lv_iload_n hx hb d_M_told0_131 rfl (lv_at hl 2 rfl) ?_
          refine g_iald hx hb hK hP 3 0 (by decide) rfl rfl (by decide) (j := k) (by omega) d_M_told0_132 ?_
          refine n_top (y := (nI (len (k)))) ((hR1.2.2.1 (k) (by omega)).2.2) ?_
          refine lv_iload_n hx hb d_M_told0_133 rfl (lv_at hl 1 rfl) ?_
          refine n_ne (a := len (k)) (b := c9) (tgt := 141) hx hb d_M_told0_134 (by decide) (by have := hl24 k (by omega); omega) (by omega) (fun c_134 => ?_) (fun c_134 => ?_)
          · have hbb0 : (false = true) ↔ (sp k ≠ none ∧ len k = c9 ∧ ∀ q, q < 0 → ch k q = tc q) := ⟨fun h => (by cases h), fun h => absurd h.2.1 c_134⟩
            refine n_const (k := 0) hx hb d_M_told0_141 (by decide) ?_
            refine lv_istore_n (lv' := [(3, .int (nI (0))), (0, .ref (ad (0))), (1, .int (nI (c9))), (2, .int (nI (k)))]) hx hb d_M_told0_142 rfl hl (by decide) rfl (fun ls hl => ?_)
            refine n_const (k := 0) hx hb d_M_told0_143 (by decide) ?_
            refine lv_istore (lv' := [(4, .int (nI (0))), (3, .int (nI (0))), (0, .ref (ad (0))), (1, .int (nI (c9))), (2, .int (nI (k)))]) hx hb d_M_told0_144 hl (by decide) rfl (fun ls hl => ?_)
            exact J146 (_ + 1) (0) (false) M1 _ _ ls (Nat.lt_succ_self _) (by omega) (by omega) (hbb0) (hSX) (hMK) hP hS (lv_sub hl [2, 3, 4, 1, 0] rfl)
          · have hbb0 : (true = true) ↔ (sp k ≠ none ∧ len k = c9 ∧ ∀ q, q < 0 → ch k q = tc q) := ⟨fun _ => ⟨by rw [c_124]; simp, c_134, fun q hq => absurd hq (Nat.not_lt_zero q)⟩, fun _ => rfl⟩
            refine n_const (k := 1) hx hb d_M_told0_137 (by decide) ?_
            refine lv_goto (tgt := 142) hx hb d_M_told0_138 (by decide) ?_
            refine lv_istore_n (lv' := [(3, .int (nI (1))), (0, .ref (ad (0))), (1, .int (nI (c9))), (2, .int (nI (k)))]) hx hb d_M_told0_142 rfl hl (by decide) rfl (fun ls hl => ?_)
            refine n_const (k := 0) hx hb d_M_told0_143 (by decide) ?_
            refine lv_istore (lv' := [(4, .int (nI (0))), (3, .int (nI (1))), (0, .ref (ad (0))), (1, .int (nI (c9))), (2, .int (nI (k)))]) hx hb d_M_told0_144 hl (by decide) rfl (fun ls hl => ?_)
            exact J146 (_ + 1) (0) (true) M1 _ _ ls (Nat.lt_succ_self _) (by omega) (by omega) (hbb0) (hSX) (hMK) hP hS (lv_sub hl [2, 3, 4, 1, 0] rfl)
  have J71 : ∀ (fu71 : Nat) (c1 : Nat) (M1 : PM) (H : Heap) (locs : List Loc) (ls : Array Slot), tl - c1 < fu71 → (c1 ≤ tl) → (∀ q, q < c1 → ¬ tc q = 58) → (SX M M1) → (MK M1 0 (scCo len ch tc s9 c9)) → va_P D clsA (gw 13 ad (cfM cI cB ad) M1) H → va_S (GA 13 ad) s.heap H locs → lv_has ls 6 [(0, .ref (ad (0))), (1, .int (nI (c1)))] → W p l e (rm_ 1 22) s m ([.ref (ad (0))] : List Value).toArray below meth c H locs 0 0 (MQ below (GQ D 13 ad (cfM cI cB ad) (fun v M' => v = some (.int (bI true)) ∧ SX M M' ∧ MK M' (len s9 + (tl - (c9 + 1))) (scCo len ch tc s9 c9))) ([.ref (ad (0))] : List Value).toArray s 0 0 (GA 13 ad)) (F0 m 71 ls []) := by
    intro fu71
    induction fu71 with
    | zero => intro c1 M1 H locs ls hfu; exact absurd hfu (Nat.not_lt_zero _)
    | succ fu71 ih71 =>
      intro c1 M1 H locs ls hfu71 hc hpv hSX hMK hP hS hl
      have hR1 := hR.sx hSX
      have hT1 := hT.sx hSX
      refine lv_iload_n hx hb d_M_told0_71 rfl (lv_at hl 1 rfl) ?_
      refine lv_aload_n hx hb d_M_told0_72 rfl (lv_at hl 0 rfl) ?_
      refine g_get (C := R_M) (T := T_M) (N := 19) (ci := 8) (v := .int (M1 0 2)) hx hb hg i_M hown hK hP 0 (by decide) rfl rfl 2 (by decide) (hg _ k_795) rfl d_M_told0_73 ?_
      refine n_top (y := (nI (tl))) (hT1.2.1) ?_
      refine n_ge (a := c1) (b := tl) (tgt := 96) hx hb d_M_told0_76 (by decide) (by omega) (by omega) (fun c_76 => ?_) (fun c_76 => ?_)
      · exact absurd hoc.2.1 (hpv c9 (by have := hoc.1; omega))
      · refine lv_aload_n hx hb d_M_told0_79 rfl (lv_at hl 0 rfl) ?_
        refine g_get (C := R_M) (T := T_M) (N := 19) (ci := 8) (v := .ref (ad (1))) hx hb hg i_M hown hK hP 0 (by decide) rfl rfl 1 (by decide) (hg _ k_794) rfl d_M_told0_80 ?_
        refine lv_iload_n hx hb d_M_told0_83 rfl (lv_at hl 1 rfl) ?_
        refine g_bald hx hb hK hP 1 1 (by decide) rfl rfl (by decide) (j := c1) (by omega) d_M_told0_84 ?_
        refine n_top (y := (nI (tc (c1)))) ((hT1.2.2 (c1) (by omega)).2.2) ?_
        refine n_bipush (k := 58) hx hb d_M_told0_85 (by decide) ?_
        refine n_eq (a := tc (c1)) (b := 58) (tgt := 96) hx hb d_M_told0_87 (by decide) (by have := htc (c1) (by omega); omega) (by omega) (fun c_87 => ?_) (fun c_87 => ?_)
        · have e9 : c1 = c9 := by have := Fst.uniq hoc (o' := some c1) ⟨by omega, c_87, hpv⟩; exact (Option.some.inj this).symm
          rw [e9] at hl
          have hl : lv_has ls 6 [(0, .ref (ad (0))), (1, .int (nI (c9)))] := hl
          refine lv_iload_n hx hb d_M_told0_96 rfl (lv_at hl 1 rfl) ?_
          refine lv_aload_n hx hb d_M_told0_97 rfl (lv_at hl 0 rfl) ?_
          refine g_get (C := R_M) (T := T_M) (N := 19) (ci := 8) (v := .int (M1 0 2)) hx hb hg i_M hown hK hP 0 (by decide) rfl rfl 2 (by decide) (hg _ k_795) rfl d_M_told0_98 ?_
          refine n_top (y := (nI (tl))) (hT1.2.1) ?_
          refine n_const (k := 1) hx hb d_M_told0_101 (by decide) ?_
          refine n_isub (a := tl) (b := 1) hx hb d_M_told0_102 (by omega) ?_
          refine n_lt (a := c9) (b := (tl) - (1)) (tgt := 108) hx hb d_M_told0_103 (by decide) (by omega) (by omega) (fun c_103 => ?_) (fun c_103 => ?_)
          · refine n_const (k := 0) hx hb d_M_told0_108 (by decide) ?_
            refine lv_istore_n (lv' := [(2, .int (nI (0))), (0, .ref (ad (0))), (1, .int (nI (c9)))]) hx hb d_M_told0_109 rfl hl (by decide) rfl (fun ls hl => ?_)
            exact J110 (_ + 1) (0) M1 _ _ ls (Nat.lt_succ_self _) (by omega) (fun q hq => absurd hq (Nat.not_lt_zero q)) (hSX) (hMK) hP hS (lv_sub hl [1, 2, 0] rfl)
          · exact absurd c_103 (by omega)
        · refine n_inc (lv' := [(1, .int (nI (c1 + 1))), (0, .ref (ad (0)))]) hx hb d_M_told0_90 hl (k := 1) rfl (by decide) rfl (fun ls hl => ?_)
          refine lv_goto (tgt := 71) hx hb d_M_told0_93 (by decide) ?_
          exact ih71 (c1 + 1) M1 _ _ ls (by omega) (by omega) (lt_S hpv c_87) (hSX) (hMK) hP hS (lv_sub hl [1, 0] rfl)
  refine lv_aload_n hx hb d_M_told0_0 rfl (lv_at hl 0 rfl) ?_
  refine c_V (own := R_M) (index := 72) (As := []) (rest := []) hx hb hml hown hg hK (fun _ _ _ h => h) (fun _ _ => trivial) (fun _ h => h) hP hS 0 (c_M_begin l D cI cB ad hI M) (by decide) (ci := 8) rfl rfl k_871 k_873 k_p23 k_9 k_874 0 rfl (by decide +kernel) (by decide) rfl hl.1 (Nat.le_of_ble_eq_true rfl) d_M_told0_1 (fun v M_3 H locs hq hP _ _ hS => ?_)
  obtain ⟨rfl, eM_3⟩ := hq
  have hSX : SX M M_3 := hSX.tr (by rw [eM_3]; exact SX.begin _)
  have hMK : MK M_3 0 (scCo len ch tc s9 c9) := by rw [eM_3]; exact MK.begin _ _
  have hR1 := hR.sx hSX
  have hT1 := hT.sx hSX
  refine W.eq (g2 := F0 m 4 ls []) rfl ?_
  refine lv_aload_n hx hb d_M_told0_4 rfl (lv_at hl 0 rfl) ?_
  refine g_get (C := R_M) (T := T_M) (N := 19) (ci := 8) (v := .int (M_3 0 2)) hx hb hg i_M hown hK hP 0 (by decide) rfl rfl 2 (by decide) (hg _ k_795) rfl d_M_told0_5 ?_
  refine n_top (y := (nI (tl))) (hT1.2.1) ?_
  refine n_const (k := 2) hx hb d_M_told0_8 (by decide) ?_
  refine n_le (a := tl) (b := 2) (tgt := 69) hx hb d_M_told0_9 (by decide) (by omega) (by omega) (fun c_9 => ?_) (fun c_9 => ?_)
  · refine n_const (k := 0) hx hb d_M_told0_69 (by decide) ?_
    refine lv_istore_n (lv' := [(1, .int (nI (0))), (0, .ref (ad (0)))]) hx hb d_M_told0_70 rfl hl (by decide) rfl (fun ls hl => ?_)
    exact J71 (_ + 1) (0) M_3 _ _ ls (Nat.lt_succ_self _) (by omega) (fun q hq => absurd hq (Nat.not_lt_zero q)) (hSX) (hMK) hP hS (lv_sub hl [1, 0] rfl)
  · refine lv_aload_n hx hb d_M_told0_12 rfl (lv_at hl 0 rfl) ?_
    refine g_get (C := R_M) (T := T_M) (N := 19) (ci := 8) (v := .ref (ad (1))) hx hb hg i_M hown hK hP 0 (by decide) rfl rfl 1 (by decide) (hg _ k_794) rfl d_M_told0_13 ?_
    refine n_const (k := 0) hx hb d_M_told0_16 (by decide) ?_
    refine g_bald hx hb hK hP 1 1 (by decide) rfl rfl (by decide) (j := 0) (by omega) d_M_told0_17 ?_
    refine n_top (y := (nI (tc (0)))) ((hT1.2.2 (0) (by omega)).2.2) ?_
    refine n_bipush (k := 60) hx hb d_M_told0_18 (by decide) ?_
    refine n_ne (a := tc (0)) (b := 60) (tgt := 69) hx hb d_M_told0_20 (by decide) (by have := htc (0) (by omega); omega) (by omega) (fun c_20 => ?_) (fun c_20 => ?_)
    · refine n_const (k := 0) hx hb d_M_told0_69 (by decide) ?_
      refine lv_istore_n (lv' := [(1, .int (nI (0))), (0, .ref (ad (0)))]) hx hb d_M_told0_70 rfl hl (by decide) rfl (fun ls hl => ?_)
      exact J71 (_ + 1) (0) M_3 _ _ ls (Nat.lt_succ_self _) (by omega) (fun q hq => absurd hq (Nat.not_lt_zero q)) (hSX) (hMK) hP hS (lv_sub hl [1, 0] rfl)
    · refine lv_aload_n hx hb d_M_told0_23 rfl (lv_at hl 0 rfl) ?_
      refine g_get (C := R_M) (T := T_M) (N := 19) (ci := 8) (v := .ref (ad (1))) hx hb hg i_M hown hK hP 0 (by decide) rfl rfl 1 (by decide) (hg _ k_794) rfl d_M_told0_24 ?_
      refine lv_aload_n hx hb d_M_told0_27 rfl (lv_at hl 0 rfl) ?_
      refine g_get (C := R_M) (T := T_M) (N := 19) (ci := 8) (v := .int (M_3 0 2)) hx hb hg i_M hown hK hP 0 (by decide) rfl rfl 2 (by decide) (hg _ k_795) rfl d_M_told0_28 ?_
      refine n_top (y := (nI (tl))) (hT1.2.1) ?_
      refine n_const (k := 1) hx hb d_M_told0_31 (by decide) ?_
      refine n_isub (a := tl) (b := 1) hx hb d_M_told0_32 (by omega) ?_
      refine g_bald hx hb hK hP 1 1 (by decide) rfl rfl (by decide) (j := (tl) - (1)) (by omega) d_M_told0_33 ?_
      refine n_top (y := (nI (tc ((tl) - (1))))) ((hT1.2.2 ((tl) - (1)) (by omega)).2.2) ?_
      refine n_bipush (k := 62) hx hb d_M_told0_34 (by decide) ?_
      refine n_ne (a := tc ((tl) - (1))) (b := 62) (tgt := 69) hx hb d_M_told0_36 (by decide) (by have := htc (tl - 1) (by omega); omega) (by omega) (fun c_36 => ?_) (fun c_36 => ?_)
      · refine n_const (k := 0) hx hb d_M_told0_69 (by decide) ?_
        refine lv_istore_n (lv' := [(1, .int (nI (0))), (0, .ref (ad (0)))]) hx hb d_M_told0_70 rfl hl (by decide) rfl (fun ls hl => ?_)
        exact J71 (_ + 1) (0) M_3 _ _ ls (Nat.lt_succ_self _) (by omega) (fun q hq => absurd hq (Nat.not_lt_zero q)) (hSX) (hMK) hP hS (lv_sub hl [1, 0] rfl)
      · exact absurd ⟨c_9, c_20, c_36⟩ hnb
