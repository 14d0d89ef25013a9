set_option maxHeartbeats 4000000 in
set_option maxRecDepth 100000 in
theorem c_M_name_1 (l : Launch) (D : va_G) (cI cB : ClassId) (ad : Nat → Nat) (hI : GI 13 ad) (M : PM) (n : Nat) (len : Nat → Nat) (ch : Nat → Nat → Nat) (sp : Nat → Option Nat) (hR : RN M n len ch sp) (tl : Nat) (tc : Nat → Nat) (hT : RT M tl tc) (h0 : tl = 0) : MM l D cI cB ad y_M_name b_M_name 2 (some .int) 1 21 [.ref (ad (0))] M (fun v M' => v = some (.int (nI 0)) ∧ SX M M' ∧ M' 0 0 = nI 1) := by
  refine MC.of (by decide) (Nat.le_of_ble_eq_true rfl) ?_
  intro p e s m below meth c ls hx hb hr hml hown hg hlocks hK hN hP hS hl
  have hown : s.vm.findClass R_M = some m.cls := hown
  have hl : lv_has ls 2 [(0, .ref (ad (0)))] := hl
  have hn60 : n ≤ 60 := hR.1
  have htl := hT.1
  have htc := hT.2.2
  have hSX := SX.rf M
  have J6 : ∀ (fu6 : Nat) (i : Nat) (M1 : PM) (H : Heap) (locs : List Loc) (ls : Array Slot), tl - i < fu6 → (i ≤ tl) → (SX M M1) → (MK M1 i tc) → va_P D clsA (gw 13 ad (cfM cI cB ad) M1) H → va_S (GA 13 ad) s.heap H locs → lv_has ls 2 [(0, .ref (ad (0))), (1, .int (nI (i)))] → W p l e (rm_ 1 21) s m ([.ref (ad (0))] : List Value).toArray below meth c H locs 0 0 (MQ below (GQ D 13 ad (cfM cI cB ad) (fun v M' => v = some (.int (nI 0)) ∧ SX M M' ∧ M' 0 0 = nI 1)) ([.ref (ad (0))] : List Value).toArray s 0 0 (GA 13 ad)) (F0 m 6 ls []) := by
    intro fu6
    induction fu6 with
    | zero => intro i M1 H locs ls hfu; exact absurd hfu (Nat.not_lt_zero _)
    | succ fu6 ih6 =>
      intro i M1 H locs ls hfu6 hi hSX hMK hP hS hl
      have hR1 := hR.sx hSX
      have hT1 := hT.sx hSX
      refine lv_iload_n hx hb d_M_name_6 rfl (lv_at hl 1 rfl) ?_
      refine lv_aload_n hx hb d_M_name_7 rfl (lv_at hl 0 rfl) ?_
      refine g_get (C := R_M) (T := T_M) (N := 19) (ci := 8) (v := .int (M1 0 2)) hx hb hg i_M hown hK hP 0 (by decide) rfl rfl 2 (by decide) (hg _ k_795) rfl d_M_name_8 ?_
      refine n_top (y := (nI (tl))) (hT1.2.1) ?_
      refine n_ge (a := i) (b := tl) (tgt := 30) hx hb d_M_name_11 (by decide) (by omega) (by omega) (fun c_11 => ?_) (fun c_11 => ?_)
      · have e9 : i = tl := by omega
        rw [e9] at hMK
        refine lv_aload_n hx hb d_M_name_30 rfl (lv_at hl 0 rfl) ?_
        refine lv_aload_n hx hb d_M_name_31 rfl (lv_at hl 0 rfl) ?_
        refine g_get (C := R_M) (T := T_M) (N := 19) (ci := 8) (v := .int (M1 0 2)) hx hb hg i_M hown hK hP 0 (by decide) rfl rfl 2 (by decide) (hg _ k_795) rfl d_M_name_32 ?_
        refine n_top (y := (nI (tl))) (hT1.2.1) ?_
        refine n_ifn0 (a := tl) (tgt := 42) hx hb d_M_name_35 (by decide) (by omega) (fun c_35 => ?_) (fun c_35 => ?_)
        · exact absurd c_35 (by omega)
        · refine n_const (k := 1) hx hb d_M_name_38 (by decide) ?_
          refine lv_goto (tgt := 54) hx hb d_M_name_39 (by decide) ?_
          refine c_V (own := R_M) (index := 57) (As := [.int (nI (1))]) (rest := []) hx hb hml hown hg hK (fun _ _ _ h => h) (fun _ _ => trivial) (fun _ h => h) hP hS 0 (c_M_refuses l D cI cB ad hI M1 (1) (by decide)) (by decide) (ci := 8) rfl rfl k_859 k_861 k_p22 k_9 k_862 1 rfl (by decide +kernel) (by decide) rfl hl.1 (Nat.le_of_ble_eq_true rfl) d_M_name_54 (fun v M_1 H locs hq hP _ _ hS => ?_)
          obtain ⟨rfl, eM_1⟩ := hq
          have hSX := hSX.tr (SX.thr M1 (nI 1))
          rw [← eM_1] at hSX
          have hMK := hMK.thr (nI 1)
          rw [← eM_1] at hMK
          refine W.eq (g2 := F0 m 57 ls [.int (bI (true))]) rfl ?_
          refine z_eq (t := true) (tgt := 62) hx hb d_M_name_57 (by decide) (fun h9 => absurd h9 (by decide)) (fun _ => ?_)
          refine n_const (k := 0) hx hb d_M_name_60 (by decide) ?_
          exact r_i hx hb hr hlocks hP hS (⟨rfl, hSX, by rw [eM_1, pu_s]⟩) d_M_name_61
      · refine lv_aload_n hx hb d_M_name_14 rfl (lv_at hl 0 rfl) ?_
        refine lv_aload_n hx hb d_M_name_15 rfl (lv_at hl 0 rfl) ?_
        refine g_get (C := R_M) (T := T_M) (N := 19) (ci := 8) (v := .ref (ad (1))) hx hb hg i_M hown hK hP 0 (by decide) rfl rfl 1 (by decide) (hg _ k_794) rfl d_M_name_16 ?_
        refine lv_iload_n hx hb d_M_name_19 rfl (lv_at hl 1 rfl) ?_
        refine g_bald hx hb hK hP 1 1 (by decide) rfl rfl (by decide) (j := i) (by omega) d_M_name_20 ?_
        refine n_top (y := (nI (tc (i)))) ((hT1.2.2 (i) (by omega)).2.2) ?_
        refine c_V (own := R_M) (index := 75) (As := [.int (nI (tc (i)))]) (rest := []) hx hb hml hown hg hK (fun _ _ _ h => h) (fun _ _ => trivial) (fun _ h => h) hP hS 0 (c_M_makes l D cI cB ad hI M1 (i) tc hMK (tc (i)) (by have := htc i (by omega); omega) (by omega)) (by decide) (ci := 8) rfl rfl k_875 k_877 k_p24 k_9 k_878 1 rfl (by decide +kernel) (by decide) rfl hl.1 (Nat.le_of_ble_eq_true rfl) d_M_name_21 (fun v M_2 H locs hq hP _ _ hS => ?_)
        obtain ⟨rfl, eM_2⟩ := hq
        have hSX : SX M M_2 := hSX.tr (by rw [eM_2]; exact SX.add _ _ _ _)
        have hMK : MK M_2 (i + 1) tc := by rw [eM_2]; exact hMK.add (by omega) (by have := htc i (by omega); omega)
        have hR1 := hR.sx hSX
        have hT1 := hT.sx hSX
        refine W.eq (g2 := F0 m 24 ls []) rfl ?_
        refine n_inc (lv' := [(1, .int (nI (i + 1))), (0, .ref (ad (0)))]) hx hb d_M_name_24 hl (k := 1) rfl (by decide) rfl (fun ls hl => ?_)
        refine lv_goto (tgt := 6) hx hb d_M_name_27 (by decide) ?_
        exact ih6 (i + 1) M_2 _ _ ls (by omega) (by omega) (hSX) (hMK) hP hS (lv_sub hl [1, 0] rfl)
  refine lv_aload_n hx hb d_M_name_0 rfl (lv_at hl 0 rfl) ?_
  refine c_V (own := R_M) (index := 72) (As := []) (rest := []) hx hb hml hown hg hK (fun _ _ _ h => h) (fun _ _ => trivial) (fun _ h => h) hP hS 0 (c_M_begin l D cI cB ad hI M) (by decide) (ci := 8) rfl rfl k_871 k_873 k_p23 k_9 k_874 0 rfl (by decide +kernel) (by decide) rfl hl.1 (Nat.le_of_ble_eq_true rfl) d_M_name_1 (fun v M_3 H locs hq hP _ _ hS => ?_)
  obtain ⟨rfl, eM_3⟩ := hq
  have hSX : SX M M_3 := hSX.tr (by rw [eM_3]; exact SX.begin _)
  have hMK : MK M_3 0 tc := by rw [eM_3]; exact MK.begin _ _
  have hR1 := hR.sx hSX
  have hT1 := hT.sx hSX
  refine W.eq (g2 := F0 m 4 ls []) rfl ?_
  refine n_const (k := 0) hx hb d_M_name_4 (by decide) ?_
  refine lv_istore_n (lv' := [(1, .int (nI (0))), (0, .ref (ad (0)))]) hx hb d_M_name_5 rfl hl (by decide) rfl (fun ls hl => ?_)
  exact J6 (_ + 1) (0) M_3 _ _ ls (Nat.lt_succ_self _) (by omega) (hSX) (hMK) hP hS (lv_sub hl [1, 0] rfl)

set_option maxHeartbeats 4000000 in
set_option maxRecDepth 100000 in
theorem c_M_name_2 (l : Launch) (D : va_G) (cI cB : ClassId) (ad : Nat → Nat) (hI : GI 13 ad) (M : PM) (n : Nat) (len : Nat → Nat) (ch : Nat → Nat → Nat) (sp : Nat → Option Nat) (hR : RN M n len ch sp) (tl : Nat) (tc : Nat → Nat) (hT : RT M tl tc) (h0 : 0 < tl) (ho : Fst (sameT len ch tl tc) n none) (hn9 : n = 60) : MM l D cI cB ad y_M_name b_M_name 2 (some .int) 3 65 [.ref (ad (0))] M (fun v M' => v = some (.int (nI 0)) ∧ SX M M' ∧ M' 0 0 = nI 2) := by
  refine MC.of (by decide) (Nat.le_of_ble_eq_true rfl) ?_
  intro p e s m below meth c ls hx hb hr hml hown hg hlocks hK hN hP hS hl
  have hown : s.vm.findClass R_M = some m.cls := hown
  have hl : lv_has ls 2 [(0, .ref (ad (0)))] := hl
  have hn60 : n ≤ 60 := hR.1
  have htl := hT.1
  have htc := hT.2.2
  have hSX := SX.rf M
  have J6 : ∀ (fu6 : Nat) (i : Nat) (M1 : PM) (H : Heap) (locs : List Loc) (ls : Array Slot), tl - i < fu6 → (i ≤ tl) → (SX M M1) → (MK M1 i tc) → va_P D clsA (gw 13 ad (cfM cI cB ad) M1) H → va_S (GA 13 ad) s.heap H locs → lv_has ls 2 [(0, .ref (ad (0))), (1, .int (nI (i)))] → W p l e (rm_ 3 65) s m ([.ref (ad (0))] : List Value).toArray below meth c H locs 0 0 (MQ below (GQ D 13 ad (cfM cI cB ad) (fun v M' => v = some (.int (nI 0)) ∧ SX M M' ∧ M' 0 0 = nI 2)) ([.ref (ad (0))] : List Value).toArray s 0 0 (GA 13 ad)) (F0 m 6 ls []) := by
    intro fu6
    induction fu6 with
    | zero => intro i M1 H locs ls hfu; exact absurd hfu (Nat.not_lt_zero _)
    | succ fu6 ih6 =>
      intro i M1 H locs ls hfu6 hi hSX hMK hP hS hl
      have hR1 := hR.sx hSX
      have hT1 := hT.sx hSX
      refine lv_iload_n hx hb d_M_name_6 rfl (lv_at hl 1 rfl) ?_
      refine lv_aload_n hx hb d_M_name_7 rfl (lv_at hl 0 rfl) ?_
      refine g_get (C := R_M) (T := T_M) (N := 19) (ci := 8) (v := .int (M1 0 2)) hx hb hg i_M hown hK hP 0 (by decide) rfl rfl 2 (by decide) (hg _ k_795) rfl d_M_name_8 ?_
      refine n_top (y := (nI (tl))) (hT1.2.1) ?_
      refine n_ge (a := i) (b := tl) (tgt := 30) hx hb d_M_name_11 (by decide) (by omega) (by omega) (fun c_11 => ?_) (fun c_11 => ?_)
      · have e9 : i = tl := by omega
        rw [e9] at hMK
        refine lv_aload_n hx hb d_M_name_30 rfl (lv_at hl 0 rfl) ?_
        refine lv_aload_n hx hb d_M_name_31 rfl (lv_at hl 0 rfl) ?_
        refine g_get (C := R_M) (T := T_M) (N := 19) (ci := 8) (v := .int (M1 0 2)) hx hb hg i_M hown hK hP 0 (by decide) rfl rfl 2 (by decide) (hg _ k_795) rfl d_M_name_32 ?_
        refine n_top (y := (nI (tl))) (hT1.2.1) ?_
        refine n_ifn0 (a := tl) (tgt := 42) hx hb d_M_name_35 (by decide) (by omega) (fun c_35 => ?_) (fun c_35 => ?_)
        · refine lv_aload_n hx hb d_M_name_42 rfl (lv_at hl 0 rfl) ?_
          refine c_V (own := R_M) (index := 79) (As := []) (rest := [.ref (ad (0))]) hx hb hml hown hg hK (fun _ _ _ h => h) (fun _ _ => trivial) (fun _ h => h) hP hS 0 (c_M_isTooMuch l D cI cB ad hI M1 n len ch sp hR1 (tl) tc hMK (none) ho true ⟨fun _ => Or.inr ⟨rfl, hn9⟩, fun _ => rfl⟩) (by decide) (ci := 8) rfl rfl k_879 k_881 k_p25 k_9 k_882 0 rfl (by decide +kernel) (by decide) rfl hl.1 (Nat.le_of_ble_eq_true rfl) d_M_name_43 (fun v M' H locs hq hP _ _ hS => ?_)
          obtain ⟨rfl, rfl⟩ := hq
          refine W.eq (g2 := F0 m 46 ls [.int (bI (true)), .ref (ad (0))]) rfl ?_
          refine z_eq (t := true) (tgt := 53) hx hb d_M_name_46 (by decide) (fun h9 => absurd h9 (by decide)) (fun _ => ?_)
          refine n_const (k := 2) hx hb d_M_name_49 (by decide) ?_
          refine lv_goto (tgt := 54) hx hb d_M_name_50 (by decide) ?_
          refine c_V (own := R_M) (index := 57) (As := [.int (nI (2))]) (rest := []) hx hb hml hown hg hK (fun _ _ _ h => h) (fun _ _ => trivial) (fun _ h => h) hP hS 0 (c_M_refuses l D cI cB ad hI M1 (2) (by decide)) (by decide) (ci := 8) rfl rfl k_859 k_861 k_p22 k_9 k_862 1 rfl (by decide +kernel) (by decide) rfl hl.1 (Nat.le_of_ble_eq_true rfl) d_M_name_54 (fun v M_1 H locs hq hP _ _ hS => ?_)
          obtain ⟨rfl, eM_1⟩ := hq
          have hSX := hSX.tr (SX.thr M1 (nI 2))
          rw [← eM_1] at hSX
          have hMK := hMK.thr (nI 2)
          rw [← eM_1] at hMK
          refine W.eq (g2 := F0 m 57 ls [.int (bI (true))]) rfl ?_
          refine z_eq (t := true) (tgt := 62) hx hb d_M_name_57 (by decide) (fun h9 => absurd h9 (by decide)) (fun _ => ?_)
          refine n_const (k := 0) hx hb d_M_name_60 (by decide) ?_
          exact r_i hx hb hr hlocks hP hS (⟨rfl, hSX, by rw [eM_1, pu_s]⟩) d_M_name_61
        · exact absurd c_35 (by omega)
      · refine lv_aload_n hx hb d_M_name_14 rfl (lv_at hl 0 rfl) ?_
        refine lv_aload_n hx hb d_M_name_15 rfl (lv_at hl 0 rfl) ?_
        refine g_get (C := R_M) (T := T_M) (N := 19) (ci := 8) (v := .ref (ad (1))) hx hb hg i_M hown hK hP 0 (by decide) rfl rfl 1 (by decide) (hg _ k_794) rfl d_M_name_16 ?_
        refine lv_iload_n hx hb d_M_name_19 rfl (lv_at hl 1 rfl) ?_
        refine g_bald hx hb hK hP 1 1 (by decide) rfl rfl (by decide) (j := i) (by omega) d_M_name_20 ?_
        refine n_top (y := (nI (tc (i)))) ((hT1.2.2 (i) (by omega)).2.2) ?_
        refine c_V (own := R_M) (index := 75) (As := [.int (nI (tc (i)))]) (rest := []) hx hb hml hown hg hK (fun _ _ _ h => h) (fun _ _ => trivial) (fun _ h => h) hP hS 0 (c_M_makes l D cI cB ad hI M1 (i) tc hMK (tc (i)) (by have := htc i (by omega); omega) (by omega)) (by decide) (ci := 8) rfl rfl k_875 k_877 k_p24 k_9 k_878 1 rfl (by decide +kernel) (by decide) rfl hl.1 (Nat.le_of_ble_eq_true rfl) d_M_name_21 (fun v M_2 H locs hq hP _ _ hS => ?_)
        obtain ⟨rfl, eM_2⟩ := hq
        have hSX : SX M M_2 := hSX.tr (by rw [eM_2]; exact SX.add _ _ _ _)
        have hMK : MK M_2 (i + 1) tc := by rw [eM_2]; exact hMK.add (by omega) (by have := htc i (by omega); omega)
        have hR1 := hR.sx hSX
        have hT1 := hT.sx hSX
        refine W.eq (g2 := F0 m 24 ls []) rfl ?_
        refine n_inc (lv' := [(1, .int (nI (i + 1))), (0, .ref (ad (0)))]) hx hb d_M_name_24 hl (k := 1) rfl (by decide) rfl (fun ls hl => ?_)
        refine lv_goto (tgt := 6) hx hb d_M_name_27 (by decide) ?_
        exact ih6 (i + 1) M_2 _ _ ls (by omega) (by omega) (hSX) (hMK) hP hS (lv_sub hl [1, 0] rfl)
  refine lv_aload_n hx hb d_M_name_0 rfl (lv_at hl 0 rfl) ?_
  refine c_V (own := R_M) (index := 72) (As := []) (rest := []) hx hb hml hown hg hK (fun _ _ _ h => h) (fun _ _ => trivial) (fun _ h => h) hP hS 0 (c_M_begin l D cI cB ad hI M) (by decide) (ci := 8) rfl rfl k_871 k_873 k_p23 k_9 k_874 0 rfl (by decide +kernel) (by decide) rfl hl.1 (Nat.le_of_ble_eq_true rfl) d_M_name_1 (fun v M_3 H locs hq hP _ _ hS => ?_)
  obtain ⟨rfl, eM_3⟩ := hq
  have hSX : SX M M_3 := hSX.tr (by rw [eM_3]; exact SX.begin _)
  have hMK : MK M_3 0 tc := by rw [eM_3]; exact MK.begin _ _
  have hR1 := hR.sx hSX
  have hT1 := hT.sx hSX
  refine W.eq (g2 := F0 m 4 ls []) rfl ?_
  refine n_const (k := 0) hx hb d_M_name_4 (by decide) ?_
  refine lv_istore_n (lv' := [(1, .int (nI (0))), (0, .ref (ad (0)))]) hx hb d_M_name_5 rfl hl (by decide) rfl (fun ls hl => ?_)
  exact J6 (_ + 1) (0) M_3 _ _ ls (Nat.lt_succ_self _) (by omega) (hSX) (hMK) hP hS (lv_sub hl [1, 0] rfl)

set_option maxHeartbeats 4000000 in
set_option maxRecDepth 100000 in
theorem c_M_name_o (l : Launch) (D : va_G) (cI cB : ClassId) (ad : Nat → Nat) (hI : GI 13 ad) (M : PM) (n : Nat) (len : Nat → Nat) (ch : Nat → Nat → Nat) (sp : Nat → Option Nat) (hR : RN M n len ch sp) (tl : Nat) (tc : Nat → Nat) (hT : RT M tl tc) (h0 : 0 < tl) (k9 : Nat) (ho : Fst (sameT len ch tl tc) n (some k9)) : MM l D cI cB ad y_M_name b_M_name 2 (some .int) 3 67 [.ref (ad (0))] M (fun v M' => v = some (.int (nI k9)) ∧ TX M M') := by
  refine MC.of (by decide) (Nat.le_of_ble_eq_true rfl) ?_
  intro p e s m below meth c ls hx hb hr hml hown hg hlocks hK hN hP hS hl
  have hown : s.vm.findClass R_M = some m.cls := hown
  have hl : lv_has ls 2 [(0, .ref (ad (0)))] := hl
  have hn60 : n ≤ 60 := hR.1
  have htl := hT.1
  have htc := hT.2.2
  have hSX := SX.rf M
  have J6 : ∀ (fu6 : Nat) (i : Nat) (M1 : PM) (H : Heap) (locs : List Loc) (ls : Array Slot), tl - i < fu6 → (i ≤ tl) → (SX M M1) → (MK M1 i tc) → va_P D clsA (gw 13 ad (cfM cI cB ad) M1) H → va_S (GA 13 ad) s.heap H locs → lv_has ls 2 [(0, .ref (ad (0))), (1, .int (nI (i)))] → W p l e (rm_ 3 67) s m ([.ref (ad (0))] : List Value).toArray below meth c H locs 0 0 (MQ below (GQ D 13 ad (cfM cI cB ad) (fun v M' => v = some (.int (nI k9)) ∧ TX M M')) ([.ref (ad (0))] : List Value).toArray s 0 0 (GA 13 ad)) (F0 m 6 ls []) := by
    intro fu6
    induction fu6 with
    | zero => intro i M1 H locs ls hfu; exact absurd hfu (Nat.not_lt_zero _)
    | succ fu6 ih6 =>
      intro i M1 H locs ls hfu6 hi hSX hMK hP hS hl
      have hR1 := hR.sx hSX
      have hT1 := hT.sx hSX
      refine lv_iload_n hx hb d_M_name_6 rfl (lv_at hl 1 rfl) ?_
      refine lv_aload_n hx hb d_M_name_7 rfl (lv_at hl 0 rfl) ?_
      refine g_get (C := R_M) (T := T_M) (N := 19) (ci := 8) (v := .int (M1 0 2)) hx hb hg i_M hown hK hP 0 (by decide) rfl rfl 2 (by decide) (hg _ k_795) rfl d_M_name_8 ?_
      refine n_top (y := (nI (tl))) (hT1.2.1) ?_
      refine n_ge (a := i) (b := tl) (tgt := 30) hx hb d_M_name_11 (by decide) (by omega) (by omega) (fun c_11 => ?_) (fun c_11 => ?_)
      · have e9 : i = tl := by omega
        rw [e9] at hMK
        refine lv_aload_n hx hb d_M_name_30 rfl (lv_at hl 0 rfl) ?_
        refine lv_aload_n hx hb d_M_name_31 rfl (lv_at hl 0 rfl) ?_
        refine g_get (C := R_M) (T := T_M) (N := 19) (ci := 8) (v := .int (M1 0 2)) hx hb hg i_M hown hK hP 0 (by decide) rfl rfl 2 (by decide) (hg _ k_795) rfl d_M_name_32 ?_
        refine n_top (y := (nI (tl))) (hT1.2.1) ?_
        refine n_ifn0 (a := tl) (tgt := 42) hx hb d_M_name_35 (by decide) (by omega) (fun c_35 => ?_) (fun c_35 => ?_)
        · refine lv_aload_n hx hb d_M_name_42 rfl (lv_at hl 0 rfl) ?_
          refine c_V (own := R_M) (index := 79) (As := []) (rest := [.ref (ad (0))]) hx hb hml hown hg hK (fun _ _ _ h => h) (fun _ _ => trivial) (fun _ h => h) hP hS 0 (c_M_isTooMuch l D cI cB ad hI M1 n len ch sp hR1 (tl) tc hMK (some k9) ho false ⟨fun h => (by cases h), fun h => by rcases h with h | h; omega; cases h.1⟩) (by decide) (ci := 8) rfl rfl k_879 k_881 k_p25 k_9 k_882 0 rfl (by decide +kernel) (by decide) rfl hl.1 (Nat.le_of_ble_eq_true rfl) d_M_name_43 (fun v M' H locs hq hP _ _ hS => ?_)
          obtain ⟨rfl, rfl⟩ := hq
          refine W.eq (g2 := F0 m 46 ls [.int (bI (false)), .ref (ad (0))]) rfl ?_
          refine z_eq (t := false) (tgt := 53) hx hb d_M_name_46 (by decide) (fun _ => ?_) (fun h9 => absurd h9 (by decide))
          refine n_const (k := 0) hx hb d_M_name_53 (by decide) ?_
          refine c_V (own := R_M) (index := 57) (As := [.int (nI (0))]) (rest := []) hx hb hml hown hg hK (fun _ _ _ h => h) (fun _ _ => trivial) (fun _ h => h) hP hS 0 (c_M_refuses l D cI cB ad hI M1 (0) (by decide)) (by decide) (ci := 8) rfl rfl k_859 k_861 k_p22 k_9 k_862 1 rfl (by decide +kernel) (by decide) rfl hl.1 (Nat.le_of_ble_eq_true rfl) d_M_name_54 (fun v M_1 H locs hq hP _ _ hS => ?_)
          obtain ⟨rfl, eM_1⟩ := hq
          have hR1 := hR1.sx (SX.thr M1 (nI 0))
          rw [← eM_1] at hR1
          have hSX := hSX.tr (SX.thr M1 (nI 0))
          rw [← eM_1] at hSX
          have hMK := hMK.thr (nI 0)
          rw [← eM_1] at hMK
          refine W.eq (g2 := F0 m 57 ls [.int (bI (false))]) rfl ?_
          refine z_eq (t := false) (tgt := 62) hx hb d_M_name_57 (by decide) (fun _ => ?_) (fun h9 => absurd h9 (by decide))
          have hTX : SX M M_1 ∧ M_1 0 0 = nI 0 := ⟨hSX, by rw [eM_1, pu_s]⟩
          refine lv_aload_n hx hb d_M_name_62 rfl (lv_at hl 0 rfl) ?_
          refine n_const (k := 0) hx hb d_M_name_63 (by decide) ?_
          refine g_put (C := R_M) (T := T_M) (N := 19) (ci := 8) (v := (nI (0))) hx hb hg i_M ty_M t_M_ok n_M hown hK hI (fun _ h => h) hP hS 0 (by decide) rfl rfl 2 (by decide) (hg _ k_795) rfl (by decide +kernel) (Nat.le_of_ble_eq_true rfl) rfl d_M_name_64 (fun H locs hP hS => ?_)
          obtain ⟨M_2, eM_2⟩ : ∃ z : PM, z = (pu M_1 0 2 ((nI (0)))) := ⟨_, rfl⟩
          rw [← eM_2] at hP
          have hR1 : RN M_2 n len ch sp := by rw [eM_2]; exact hR1.tp _
          have hMK : MK M_2 tl tc := by rw [eM_2]; exact hMK.tp _
          have hTX9 : TX M M_2 := ⟨_, hTX.1, hTX.2, eM_2⟩
          refine lv_aload_n hx hb d_M_name_67 rfl (lv_at hl 0 rfl) ?_
          refine c_V (own := R_M) (index := 83) (As := []) (rest := []) hx hb hml hown hg hK (fun _ _ _ h => h) (fun _ _ => trivial) (fun _ h => h) hP hS 0 (c_M_comes_old l D cI cB ad hI M_2 n len ch sp hR1 (tl) tc hMK k9 ho) (by decide) (ci := 8) rfl rfl k_891 k_893 k_p28 k_9 k_894 0 rfl (by decide +kernel) (by decide) rfl hl.1 (Nat.le_of_ble_eq_true rfl) d_M_name_68 (fun v M' H locs hq hP _ _ hS => ?_)
          obtain ⟨rfl, rfl⟩ := hq
          refine W.eq (g2 := F0 m 71 ls [.int (nI (k9))]) rfl ?_
          exact r_i hx hb hr hlocks hP hS (⟨rfl, hTX9⟩) d_M_name_71
        · exact absurd c_35 (by omega)
      · refine lv_aload_n hx hb d_M_name_14 rfl (lv_at hl 0 rfl) ?_
        refine lv_aload_n hx hb d_M_name_15 rfl (lv_at hl 0 rfl) ?_
        refine g_get (C := R_M) (T := T_M) (N := 19) (ci := 8) (v := .ref (ad (1))) hx hb hg i_M hown hK hP 0 (by decide) rfl rfl 1 (by decide) (hg _ k_794) rfl d_M_name_16 ?_
        refine lv_iload_n hx hb d_M_name_19 rfl (lv_at hl 1 rfl) ?_
        refine g_bald hx hb hK hP 1 1 (by decide) rfl rfl (by decide) (j := i) (by omega) d_M_name_20 ?_
        refine n_top (y := (nI (tc (i)))) ((hT1.2.2 (i) (by omega)).2.2) ?_
        refine c_V (own := R_M) (index := 75) (As := [.int (nI (tc (i)))]) (rest := []) hx hb hml hown hg hK (fun _ _ _ h => h) (fun _ _ => trivial) (fun _ h => h) hP hS 0 (c_M_makes l D cI cB ad hI M1 (i) tc hMK (tc (i)) (by have := htc i (by omega); omega) (by omega)) (by decide) (ci := 8) rfl rfl k_875 k_877 k_p24 k_9 k_878 1 rfl (by decide +kernel) (by decide) rfl hl.1 (Nat.le_of_ble_eq_true rfl) d_M_name_21 (fun v M_3 H locs hq hP _ _ hS => ?_)
        obtain ⟨rfl, eM_3⟩ := hq
        have hSX : SX M M_3 := hSX.tr (by rw [eM_3]; exact SX.add _ _ _ _)
        have hMK : MK M_3 (i + 1) tc := by rw [eM_3]; exact hMK.add (by omega) (by have := htc i (by omega); omega)
        have hR1 := hR.sx hSX
        have hT1 := hT.sx hSX
        refine W.eq (g2 := F0 m 24 ls []) rfl ?_
        refine n_inc (lv' := [(1, .int (nI (i + 1))), (0, .ref (ad (0)))]) hx hb d_M_name_24 hl (k := 1) rfl (by decide) rfl (fun ls hl => ?_)
        refine lv_goto (tgt := 6) hx hb d_M_name_27 (by decide) ?_
        exact ih6 (i + 1) M_3 _ _ ls (by omega) (by omega) (hSX) (hMK) hP hS (lv_sub hl [1, 0] rfl)
  refine lv_aload_n hx hb d_M_name_0 rfl (lv_at hl 0 rfl) ?_
  refine c_V (own := R_M) (index := 72) (As := []) (rest := []) hx hb hml hown hg hK (fun _ _ _ h => h) (fun _ _ => trivial) (fun _ h => h) hP hS 0 (c_M_begin l D cI cB ad hI M) (by decide) (ci := 8) rfl rfl k_871 k_873 k_p23 k_9 k_874 0 rfl (by decide +kernel) (by decide) rfl hl.1 (Nat.le_of_ble_eq_true rfl) d_M_name_1 (fun v M_4 H locs hq hP _ _ hS => ?_)
  obtain ⟨rfl, eM_4⟩ := hq
  have hSX : SX M M_4 := hSX.tr (by rw [eM_4]; exact SX.begin _)
  have hMK : MK M_4 0 tc := by rw [eM_4]; exact MK.begin _ _
  have hR1 := hR.sx hSX
  have hT1 := hT.sx hSX
  refine W.eq (g2 := F0 m 4 ls []) rfl ?_
  refine n_const (k := 0) hx hb d_M_name_4 (by decide) ?_
  refine lv_istore_n (lv' := [(1, .int (nI (0))), (0, .ref (ad (0)))]) hx hb d_M_name_5 rfl hl (by decide) rfl (fun ls hl => ?_)
  exact J6 (_ + 1) (0) M_4 _ _ ls (Nat.lt_succ_self _) (by omega) (hSX) (hMK) hP hS (lv_sub hl [1, 0] rfl)

set_option maxHeartbeats 4000000 in
set_option maxRecDepth 100000 in
theorem c_M_name_n (l : Launch) (D : va_G) (cI cB : ClassId) (ad : Nat → Nat) (hI : GI 13 ad) (M : PM) (n : Nat) (len : Nat → Nat) (ch : Nat → Nat → Nat) (sp : Nat → Option Nat) (hR : RN M n len ch sp) (tl : Nat) (tc : Nat → Nat) (hT : RT M tl tc) (h0 : 0 < tl) (ho : Fst (sameT len ch tl tc) n none) (hn9 : n < 60) : MM l D cI cB ad y_M_name b_M_name 2 (some .int) 3 67 [.ref (ad (0))] M (fun v M' => v = some (.int (nI n)) ∧ ∃ M0, TX M M0 ∧ CMd M0 M' n tl tc) := by
  refine MC.of (by decide) (Nat.le_of_ble_eq_true rfl) ?_
  intro p e s m below meth c ls hx hb hr hml hown hg hlocks hK hN hP hS hl
  have hown : s.vm.findClass R_M = some m.cls := hown
  have hl : lv_has ls 2 [(0, .ref (ad (0)))] := hl
  have hn60 : n ≤ 60 := hR.1
  have htl := hT.1
  have htc := hT.2.2
  have hSX := SX.rf M
  have J6 : ∀ (fu6 : Nat) (i : Nat) (M1 : PM) (H : Heap) (locs : List Loc) (ls : Array Slot), tl - i < fu6 → (i ≤ tl) → (SX M M1) → (MK M1 i tc) → va_P D clsA (gw 13 ad (cfM cI cB ad) M1) H → va_S (GA 13 ad) s.heap H locs → lv_has ls 2 [(0, .ref (ad (0))), (1, .int (nI (i)))] → W p l e (rm_ 3 67) s m ([.ref (ad (0))] : List Value).toArray below meth c H locs 0 0 (MQ below (GQ D 13 ad (cfM cI cB ad) (fun v M' => v = some (.int (nI n)) ∧ ∃ M0, TX M M0 ∧ CMd M0 M' n tl tc)) ([.ref (ad (0))] : List Value).toArray s 0 0 (GA 13 ad)) (F0 m 6 ls []) := by
    intro fu6
    induction fu6 with
    | zero => intro i M1 H locs ls hfu; exact absurd hfu (Nat.not_lt_zero _)
    | succ fu6 ih6 =>
      intro i M1 H locs ls hfu6 hi hSX hMK hP hS hl
      have hR1 := hR.sx hSX
      have hT1 := hT.sx hSX
      refine lv_iload_n hx hb d_M_name_6 rfl (lv_at hl 1 rfl) ?_
      refine lv_aload_n hx hb d_M_name_7 rfl (lv_at hl 0 rfl) ?_
      refine g_get (C := R_M) (T := T_M) (N := 19) (ci := 8) (v := .int (M1 0 2)) hx hb hg i_M hown hK hP 0 (by decide) rfl rfl 2 (by decide) (hg _ k_795) rfl d_M_name_8 ?_
      refine n_top (y := (nI (tl))) (hT1.2.1) ?_
      refine n_ge (a := i) (b := tl) (tgt := 30) hx hb d_M_name_11 (by decide) (by omega) (by omega) (fun c_11 => ?_) (fun c_11 => ?_)
      · have e9 : i = tl := by omega
        rw [e9] at hMK
        refine lv_aload_n hx hb d_M_name_30 rfl (lv_at hl 0 rfl) ?_
        refine lv_aload_n hx hb d_M_name_31 rfl (lv_at hl 0 rfl) ?_
        refine g_get (C := R_M) (T := T_M) (N := 19) (ci := 8) (v := .int (M1 0 2)) hx hb hg i_M hown hK hP 0 (by decide) rfl rfl 2 (by decide) (hg _ k_795) rfl d_M_name_32 ?_
        refine n_top (y := (nI (tl))) (hT1.2.1) ?_
        refine n_ifn0 (a := tl) (tgt := 42) hx hb d_M_name_35 (by decide) (by omega) (fun c_35 => ?_) (fun c_35 => ?_)
        · refine lv_aload_n hx hb d_M_name_42 rfl (lv_at hl 0 rfl) ?_
          refine c_V (own := R_M) (index := 79) (As := []) (rest := [.ref (ad (0))]) hx hb hml hown hg hK (fun _ _ _ h => h) (fun _ _ => trivial) (fun _ h => h) hP hS 0 (c_M_isTooMuch l D cI cB ad hI M1 n len ch sp hR1 (tl) tc hMK (none) ho false ⟨fun h => (by cases h), fun h => by omega⟩) (by decide) (ci := 8) rfl rfl k_879 k_881 k_p25 k_9 k_882 0 rfl (by decide +kernel) (by decide) rfl hl.1 (Nat.le_of_ble_eq_true rfl) d_M_name_43 (fun v M' H locs hq hP _ _ hS => ?_)
          obtain ⟨rfl, rfl⟩ := hq
          refine W.eq (g2 := F0 m 46 ls [.int (bI (false)), .ref (ad (0))]) rfl ?_
          refine z_eq (t := false) (tgt := 53) hx hb d_M_name_46 (by decide) (fun _ => ?_) (fun h9 => absurd h9 (by decide))
          refine n_const (k := 0) hx hb d_M_name_53 (by decide) ?_
          refine c_V (own := R_M) (index := 57) (As := [.int (nI (0))]) (rest := []) hx hb hml hown hg hK (fun _ _ _ h => h) (fun _ _ => trivial) (fun _ h => h) hP hS 0 (c_M_refuses l D cI cB ad hI M1 (0) (by decide)) (by decide) (ci := 8) rfl rfl k_859 k_861 k_p22 k_9 k_862 1 rfl (by decide +kernel) (by decide) rfl hl.1 (Nat.le_of_ble_eq_true rfl) d_M_name_54 (fun v M_1 H locs hq hP _ _ hS => ?_)
          obtain ⟨rfl, eM_1⟩ := hq
          have hR1 := hR1.sx (SX.thr M1 (nI 0))
          rw [← eM_1] at hR1
          have hSX := hSX.tr (SX.thr M1 (nI 0))
          rw [← eM_1] at hSX
          have hMK := hMK.thr (nI 0)
          rw [← eM_1] at hMK
          refine W.eq (g2 := F0 m 57 ls [.int (bI (false))]) rfl ?_
          refine z_eq (t := false) (tgt := 62) hx hb d_M_name_57 (by decide) (fun _ => ?_) (fun h9 => absurd h9 (by decide))
          have hTX : SX M M_1 ∧ M_1 0 0 = nI 0 := ⟨hSX, by rw [eM_1, pu_s]⟩
          refine lv_aload_n hx hb d_M_name_62 rfl (lv_at hl 0 rfl) ?_
          refine n_const (k := 0) hx hb d_M_name_63 (by decide) ?_
          refine g_put (C := R_M) (T := T_M) (N := 19) (ci := 8) (v := (nI (0))) hx hb hg i_M ty_M t_M_ok n_M hown hK hI (fun _ h => h) hP hS 0 (by decide) rfl rfl 2 (by decide) (hg _ k_795) rfl (by decide +kernel) (Nat.le_of_ble_eq_true rfl) rfl d_M_name_64 (fun H locs hP hS => ?_)
          obtain ⟨M_2, eM_2⟩ : ∃ z : PM, z = (pu M_1 0 2 ((nI (0)))) := ⟨_, rfl⟩
          rw [← eM_2] at hP
          have hR1 : RN M_2 n len ch sp := by rw [eM_2]; exact hR1.tp _
          have hMK : MK M_2 tl tc := by rw [eM_2]; exact hMK.tp _
          have hTX9 : TX M M_2 := ⟨_, hTX.1, hTX.2, eM_2⟩
          refine lv_aload_n hx hb d_M_name_67 rfl (lv_at hl 0 rfl) ?_
          refine c_V (own := R_M) (index := 83) (As := []) (rest := []) hx hb hml hown hg hK (fun _ _ _ h => h) (fun _ _ => trivial) (fun _ h => h) hP hS 0 (c_M_comes_new l D cI cB ad hI M_2 n len ch sp hR1 (tl) tc hMK ho hn9 (by omega) (by omega)) (by decide) (ci := 8) rfl rfl k_891 k_893 k_p28 k_9 k_894 0 rfl (by decide +kernel) (by decide) rfl hl.1 (Nat.le_of_ble_eq_true rfl) d_M_name_68 (fun v M_3 H locs hq hP _ _ hS => ?_)
          obtain ⟨rfl, eM_3⟩ := hq
          refine W.eq (g2 := F0 m 71 ls [.int (nI (n))]) rfl ?_
          exact r_i hx hb hr hlocks hP hS (⟨rfl, _, hTX9, eM_3⟩) d_M_name_71
        · exact absurd c_35 (by omega)
      · refine lv_aload_n hx hb d_M_name_14 rfl (lv_at hl 0 rfl) ?_
        refine lv_aload_n hx hb d_M_name_15 rfl (lv_at hl 0 rfl) ?_
        refine g_get (C := R_M) (T := T_M) (N := 19) (ci := 8) (v := .ref (ad (1))) hx hb hg i_M hown hK hP 0 (by decide) rfl rfl 1 (by decide) (hg _ k_794) rfl d_M_name_16 ?_
        refine lv_iload_n hx hb d_M_name_19 rfl (lv_at hl 1 rfl) ?_
        refine g_bald hx hb hK hP 1 1 (by decide) rfl rfl (by decide) (j := i) (by omega) d_M_name_20 ?_
        refine n_top (y := (nI (tc (i)))) ((hT1.2.2 (i) (by omega)).2.2) ?_
        refine c_V (own := R_M) (index := 75) (As := [.int (nI (tc (i)))]) (rest := []) hx hb hml hown hg hK (fun _ _ _ h => h) (fun _ _ => trivial) (fun _ h => h) hP hS 0 (c_M_makes l D cI cB ad hI M1 (i) tc hMK (tc (i)) (by have := htc i (by omega); omega) (by omega)) (by decide) (ci := 8) rfl rfl k_875 k_877 k_p24 k_9 k_878 1 rfl (by decide +kernel) (by decide) rfl hl.1 (Nat.le_of_ble_eq_true rfl) d_M_name_21 (fun v M_4 H locs hq hP _ _ hS => ?_)
        obtain ⟨rfl, eM_4⟩ := hq
        have hSX : SX M M_4 := hSX.tr (by rw [eM_4]; exact SX.add _ _ _ _)
        have hMK : MK M_4 (i + 1) tc := by rw [eM_4]; exact hMK.add (by omega) (by have := htc i (by omega); omega)
        have hR1 := hR.sx hSX
        have hT1 := hT.sx hSX
        refine W.eq (g2 := F0 m 24 ls []) rfl ?_
        refine n_inc (lv' := [(1, .int (nI (i + 1))), (0, .ref (ad (0)))]) hx hb d_M_name_24 hl (k := 1) rfl (by decide) rfl (fun ls hl => ?_)
        refine lv_goto (tgt := 6) hx hb d_M_name_27 (by decide) ?_
        exact ih6 (i + 1) M_4 _ _ ls (by omega) (by omega) (hSX) (hMK) hP hS (lv_sub hl [1, 0] rfl)
  refine lv_aload_n hx hb d_M_name_0 rfl (lv_at hl 0 rfl) ?_
  refine c_V (own := R_M) (index := 72) (As := []) (rest := []) hx hb hml hown hg hK (fun _ _ _ h => h) (fun _ _ => trivial) (fun _ h => h) hP hS 0 (c_M_begin l D cI cB ad hI M) (by decide) (ci := 8) rfl rfl k_871 k_873 k_p23 k_9 k_874 0 rfl (by decide +kernel) (by decide) rfl hl.1 (Nat.le_of_ble_eq_true rfl) d_M_name_1 (fun v M_5 H locs hq hP _ _ hS => ?_)
  obtain ⟨rfl, eM_5⟩ := hq
  have hSX : SX M M_5 := hSX.tr (by rw [eM_5]; exact SX.begin _)
  have hMK : MK M_5 0 tc := by rw [eM_5]; exact MK.begin _ _
  have hR1 := hR.sx hSX
  have hT1 := hT.sx hSX
  refine W.eq (g2 := F0 m 4 ls []) rfl ?_
  refine n_const (k := 0) hx hb d_M_name_4 (by decide) ?_
  refine lv_istore_n (lv' := [(1, .int (nI (0))), (0, .ref (ad (0)))]) hx hb d_M_name_5 rfl hl (by decide) rfl (fun ls hl => ?_)
  exact J6 (_ + 1) (0) M_5 _ _ ls (Nat.lt_succ_self _) (by omega) (hSX) (hMK) hP hS (lv_sub hl [1, 0] rfl)

set_option maxHeartbeats 4000000 in
set_option maxRecDepth 100000 in
theorem c_M_canBeShort (l : Launch) (D : va_G) (cI cB : ClassId) (ad : Nat → Nat) (hI : GI 13 ad) (M : PM) (n : Nat) (len : Nat → Nat) (ch : Nat → Nat → Nat) (sp : Nat → Option Nat) (hR : RN M n len ch sp) (a : Nat) (ha : a < n) (t : Bool) (ht : t = true ↔ cbs len ch a) : MM l D cI cB ad y_M_canBeShort b_M_canBeShort 5 (some .boolean) 1 22 [.ref (ad (0)), .int (nI (a))] M (fun v M' => v = some (.int (bI (t))) ∧ M = M') := by
  refine MC.of (by decide) (Nat.le_of_ble_eq_true rfl) ?_
  intro p e s m below meth c ls hx hb hr hml hown hg hlocks hK hN hP hS hl
  have hown : s.vm.findClass R_M = some m.cls := hown
  have hl : lv_has ls 5 [(0, .ref (ad (0))), (1, .int (nI (a)))] := hl
  have hn60 : n ≤ 60 := hR.1
  have hl24 := hR.2.2.1
  have hspn := hR.2.2.2.2.1
  have hch := hR.2.2.2.2.2
  have la := hl24 a ha
  have hc0 := hch a 0 ha (by omega)
  have J40 : ∀ (fu40 : Nat) (i : Nat) (b : Bool) (H : Heap) (locs : List Loc) (ls : Array Slot), len a - i < fu40 → (1 ≤ i) → (i ≤ len a) → (b = true ↔ (len a ≤ 4 ∧ smB (ch a 0) ∧ ∀ q, 1 ≤ q → q < i → smB (ch a q) ∨ dgB (ch a q))) → va_P D clsA (gw 13 ad (cfM cI cB ad) M) H → va_S (GA 13 ad) s.heap H locs → lv_has ls 5 [(0, .ref (ad (0))), (1, .int (nI (a))), (2, .int (bI (b))), (3, .int (nI (i)))] → W p l e (rm_ 1 22) s m ([.ref (ad (0)), .int (nI (a))] : List Value).toArray below meth c H locs 0 0 (MQ below (GQ D 13 ad (cfM cI cB ad) (fun v M' => v = some (.int (bI (t))) ∧ M = M')) ([.ref (ad (0)), .int (nI (a))] : List Value).toArray s 0 0 (GA 13 ad)) (F0 m 40 ls []) := by
    intro fu40
    induction fu40 with
    | zero => intro i b H locs ls hfu; exact absurd hfu (Nat.not_lt_zero _)
    | succ fu40 ih40 =>
      intro i b H locs ls hfu40 h1 hi hbb hP hS hl
      refine lv_iload_n hx hb d_M_canBeShort_40 rfl (lv_at hl 3 rfl) ?_
      refine lv_aload_n hx hb d_M_canBeShort_41 rfl (lv_at hl 0 rfl) ?_
      refine g_get (C := R_M) (T := T_M) (N := 19) (ci := 8) (v := .ref (ad (3))) hx hb hg i_M hown hK hP 0 (by decide) rfl rfl 4 (by decide) (hg _ k_797) rfl d_M_canBeShort_42 ?_
      refine lv_iload_n hx hb d_M_canBeShort_45 rfl (lv_at hl 1 rfl) ?_
      refine g_iald hx hb hK hP 3 0 (by decide) rfl rfl (by decide) (j := a) (by omega) d_M_canBeShort_46 ?_
      refine n_top (y := (nI (len (a)))) ((hR.2.2.1 (a) (by omega)).2.2) ?_
      refine n_ge (a := i) (b := len (a)) (tgt := 102) hx hb d_M_canBeShort_47 (by decide) (by omega) (by omega) (fun c_47 => ?_) (fun c_47 => ?_)
      · refine lv_iload_n hx hb d_M_canBeShort_102 rfl (lv_at hl 2 rfl) ?_
        exact r_z hx hb hr hlocks (bI_n _) hP hS (⟨(by
    have h9 : b = t := by
      cases b with
      | true =>
        have g := hbb.mp rfl
        exact (ht.mpr ⟨g.1, g.2.1, fun q g1 g2 => g.2.2 q g1 (by first | omega | (cases c_51))⟩).symm
      | false => exact (b_f ht (fun g => absurd (hbb.mpr ⟨g.1, g.2.1, fun q g1 g2 => g.2.2 q g1 (by omega)⟩) (by decide))).symm
    rw [h9]), rfl⟩) d_M_canBeShort_103
      · refine lv_iload_n hx hb d_M_canBeShort_50 rfl (lv_at hl 2 rfl) ?_
        refine z_eq (t := b) (tgt := 102) hx hb d_M_canBeShort_51 (by decide) (fun c_51 => ?_) (fun c_51 => ?_)
        · refine lv_iload_n hx hb d_M_canBeShort_102 rfl (lv_at hl 2 rfl) ?_
          exact r_z hx hb hr hlocks (bI_n _) hP hS (⟨(by
    have h9 : b = t := by
      cases b with
      | true =>
        have g := hbb.mp rfl
        exact (ht.mpr ⟨g.1, g.2.1, fun q g1 g2 => g.2.2 q g1 (by first | omega | (cases c_51))⟩).symm
      | false => exact (b_f ht (fun g => absurd (hbb.mpr ⟨g.1, g.2.1, fun q g1 g2 => g.2.2 q g1 (by omega)⟩) (by decide))).symm
    rw [h9]), rfl⟩) d_M_canBeShort_103
        · have hci := hch a i ha (by omega)
          have hm9 : len a - (i + 1) < fu40 := by omega
          have hi1 : 1 ≤ i + 1 := by omega
          have hi9 : i + 1 ≤ len a := by omega
          refine lv_aload_n hx hb d_M_canBeShort_54 rfl (lv_at hl 0 rfl) ?_
          refine lv_iload_n hx hb d_M_canBeShort_55 rfl (lv_at hl 1 rfl) ?_
          refine lv_iload_n hx hb d_M_canBeShort_56 rfl (lv_at hl 3 rfl) ?_
          refine c_V (own := R_M) (index := 64) (As := [.int (nI (a)), .int (nI (i))]) (rest := []) hx hb hml hown hg hK (fun _ _ _ h => h) (fun _ _ => trivial) (fun _ h => h) hP hS 0 (c_M_at l D cI cB ad hI M n len ch sp hR (a) (i) (by omega) (by omega)) (by decide) (ci := 8) rfl rfl k_887 k_889 k_p27 k_9 k_890 2 rfl (by decide +kernel) (by decide) rfl hl.1 (Nat.le_of_ble_eq_true rfl) d_M_canBeShort_57 (fun v M' H locs hq hP _ _ hS => ?_)
          obtain ⟨rfl, rfl⟩ := hq
          refine W.eq (g2 := F0 m 60 ls [.int (nI (ch (a) (i)))]) rfl ?_
          refine lv_istore (lv' := [(4, .int (nI (ch (a) (i)))), (0, .ref (ad (0))), (1, .int (nI (a))), (2, .int (bI (b))), (3, .int (nI (i)))]) hx hb d_M_canBeShort_60 hl (by decide) rfl (fun ls hl => ?_)
          refine lv_iload hx hb d_M_canBeShort_62 (lv_at hl 0 rfl) ?_
          refine n_bipush (k := 97) hx hb d_M_canBeShort_64 (by decide) ?_
          refine n_lt (a := ch (a) (i)) (b := 97) (tgt := 76) hx hb d_M_canBeShort_66 (by decide) (by omega) (by omega) (fun c_66 => ?_) (fun c_66 => ?_)
          · refine lv_iload hx hb d_M_canBeShort_76 (lv_at hl 0 rfl) ?_
            refine n_bipush (k := 48) hx hb d_M_canBeShort_78 (by decide) ?_
            refine n_lt (a := ch (a) (i)) (b := 48) (tgt := 94) hx hb d_M_canBeShort_80 (by decide) (by omega) (by omega) (fun c_80 => ?_) (fun c_80 => ?_)
            · have hbb9 : (false = true) ↔ (len a ≤ 4 ∧ smB (ch a 0) ∧ ∀ q, 1 ≤ q → q < (i + 1) → smB (ch a q) ∨ dgB (ch a q)) := ⟨fun h => (by cases h), fun h => absurd (h.2.2 i h1 (Nat.lt_succ_self i)) (by unfold smB dgB; omega)⟩
              refine n_const (k := 0) hx hb d_M_canBeShort_94 (by decide) ?_
              refine lv_istore_n (lv' := [(2, .int (nI (0))), (4, .int (nI (ch (a) (i)))), (0, .ref (ad (0))), (1, .int (nI (a))), (3, .int (nI (i)))]) hx hb d_M_canBeShort_95 rfl hl (by decide) rfl (fun ls hl => ?_)
              refine n_inc (lv' := [(3, .int (nI (i + 1))), (2, .int (nI (0))), (4, .int (nI (ch (a) (i)))), (0, .ref (ad (0))), (1, .int (nI (a)))]) hx hb d_M_canBeShort_96 hl (k := 4) rfl (by decide) rfl (fun ls hl => ?_)
              refine lv_goto (tgt := 40) hx hb d_M_canBeShort_99 (by decide) ?_
              exact ih40 (i + 1) (false) _ _ ls (hm9) (hi1) (hi9) (hbb9) hP hS (lv_sub hl [3, 4, 1, 0] rfl)
            · refine lv_iload hx hb d_M_canBeShort_83 (lv_at hl 0 rfl) ?_
              refine n_bipush (k := 57) hx hb d_M_canBeShort_85 (by decide) ?_
              refine n_gt (a := ch (a) (i)) (b := 57) (tgt := 94) hx hb d_M_canBeShort_87 (by decide) (by omega) (by omega) (fun c_87 => ?_) (fun c_87 => ?_)
              · have hbb9 : (false = true) ↔ (len a ≤ 4 ∧ smB (ch a 0) ∧ ∀ q, 1 ≤ q → q < (i + 1) → smB (ch a q) ∨ dgB (ch a q)) := ⟨fun h => (by cases h), fun h => absurd (h.2.2 i h1 (Nat.lt_succ_self i)) (by unfold smB dgB; omega)⟩
                refine n_const (k := 0) hx hb d_M_canBeShort_94 (by decide) ?_
                refine lv_istore_n (lv' := [(2, .int (nI (0))), (4, .int (nI (ch (a) (i)))), (0, .ref (ad (0))), (1, .int (nI (a))), (3, .int (nI (i)))]) hx hb d_M_canBeShort_95 rfl hl (by decide) rfl (fun ls hl => ?_)
                refine n_inc (lv' := [(3, .int (nI (i + 1))), (2, .int (nI (0))), (4, .int (nI (ch (a) (i)))), (0, .ref (ad (0))), (1, .int (nI (a)))]) hx hb d_M_canBeShort_96 hl (k := 4) rfl (by decide) rfl (fun ls hl => ?_)
                refine lv_goto (tgt := 40) hx hb d_M_canBeShort_99 (by decide) ?_
                exact ih40 (i + 1) (false) _ _ ls (hm9) (hi1) (hi9) (hbb9) hP hS (lv_sub hl [3, 4, 1, 0] rfl)
              · have hbb9 : (true = true) ↔ (len a ≤ 4 ∧ smB (ch a 0) ∧ ∀ q, 1 ≤ q → q < (i + 1) → smB (ch a q) ∨ dgB (ch a q)) := ⟨fun _ => ⟨(hbb.mp c_51).1, (hbb.mp c_51).2.1, fun q g1 g2 => by rcases Nat.lt_succ_iff_lt_or_eq.mp g2 with h | h; exact (hbb.mp c_51).2.2 q g1 h; subst h; unfold smB dgB; omega⟩, fun _ => rfl⟩
                refine n_const (k := 1) hx hb d_M_canBeShort_90 (by decide) ?_
                refine lv_goto (tgt := 95) hx hb d_M_canBeShort_91 (by decide) ?_
                refine lv_istore_n (lv' := [(2, .int (nI (1))), (4, .int (nI (ch (a) (i)))), (0, .ref (ad (0))), (1, .int (nI (a))), (3, .int (nI (i)))]) hx hb d_M_canBeShort_95 rfl hl (by decide) rfl (fun ls hl => ?_)
                refine n_inc (lv' := [(3, .int (nI (i + 1))), (2, .int (nI (1))), (4, .int (nI (ch (a) (i)))), (0, .ref (ad (0))), (1, .int (nI (a)))]) hx hb d_M_canBeShort_96 hl (k := 4) rfl (by decide) rfl (fun ls hl => ?_)
                refine lv_goto (tgt := 40) hx hb d_M_canBeShort_99 (by decide) ?_
                exact ih40 (i + 1) (true) _ _ ls (hm9) (hi1) (hi9) (hbb9) hP hS (lv_sub hl [3, 4, 1, 0] rfl)
          · refine lv_iload hx hb d_M_canBeShort_69 (lv_at hl 0 rfl) ?_
            refine n_bipush (k := 122) hx hb d_M_canBeShort_71 (by decide) ?_
            refine n_le (a := ch (a) (i)) (b := 122) (tgt := 90) hx hb d_M_canBeShort_73 (by decide) (by omega) (by omega) (fun c_73 => ?_) (fun c_73 => ?_)
            · have hbb9 : (true = true) ↔ (len a ≤ 4 ∧ smB (ch a 0) ∧ ∀ q, 1 ≤ q → q < (i + 1) → smB (ch a q) ∨ dgB (ch a q)) := ⟨fun _ => ⟨(hbb.mp c_51).1, (hbb.mp c_51).2.1, fun q g1 g2 => by rcases Nat.lt_succ_iff_lt_or_eq.mp g2 with h | h; exact (hbb.mp c_51).2.2 q g1 h; subst h; unfold smB dgB; omega⟩, fun _ => rfl⟩
              refine n_const (k := 1) hx hb d_M_canBeShort_90 (by decide) ?_
              refine lv_goto (tgt := 95) hx hb d_M_canBeShort_91 (by decide) ?_
              refine lv_istore_n (lv' := [(2, .int (nI (1))), (4, .int (nI (ch (a) (i)))), (0, .ref (ad (0))), (1, .int (nI (a))), (3, .int (nI (i)))]) hx hb d_M_canBeShort_95 rfl hl (by decide) rfl (fun ls hl => ?_)
              refine n_inc (lv' := [(3, .int (nI (i + 1))), (2, .int (nI (1))), (4, .int (nI (ch (a) (i)))), (0, .ref (ad (0))), (1, .int (nI (a)))]) hx hb d_M_canBeShort_96 hl (k := 4) rfl (by decide) rfl (fun ls hl => ?_)
              refine lv_goto (tgt := 40) hx hb d_M_canBeShort_99 (by decide) ?_
              exact ih40 (i + 1) (true) _ _ ls (hm9) (hi1) (hi9) (hbb9) hP hS (lv_sub hl [3, 4, 1, 0] rfl)
            · refine lv_iload hx hb d_M_canBeShort_76 (lv_at hl 0 rfl) ?_
              refine n_bipush (k := 48) hx hb d_M_canBeShort_78 (by decide) ?_
              refine n_lt (a := ch (a) (i)) (b := 48) (tgt := 94) hx hb d_M_canBeShort_80 (by decide) (by omega) (by omega) (fun c_80 => ?_) (fun c_80 => ?_)
              · have hbb9 : (false = true) ↔ (len a ≤ 4 ∧ smB (ch a 0) ∧ ∀ q, 1 ≤ q → q < (i + 1) → smB (ch a q) ∨ dgB (ch a q)) := ⟨fun h => (by cases h), fun h => absurd (h.2.2 i h1 (Nat.lt_succ_self i)) (by unfold smB dgB; omega)⟩
                refine n_const (k := 0) hx hb d_M_canBeShort_94 (by decide) ?_
                refine lv_istore_n (lv' := [(2, .int (nI (0))), (4, .int (nI (ch (a) (i)))), (0, .ref (ad (0))), (1, .int (nI (a))), (3, .int (nI (i)))]) hx hb d_M_canBeShort_95 rfl hl (by decide) rfl (fun ls hl => ?_)
                refine n_inc (lv' := [(3, .int (nI (i + 1))), (2, .int (nI (0))), (4, .int (nI (ch (a) (i)))), (0, .ref (ad (0))), (1, .int (nI (a)))]) hx hb d_M_canBeShort_96 hl (k := 4) rfl (by decide) rfl (fun ls hl => ?_)
                refine lv_goto (tgt := 40) hx hb d_M_canBeShort_99 (by decide) ?_
                exact ih40 (i + 1) (false) _ _ ls (hm9) (hi1) (hi9) (hbb9) hP hS (lv_sub hl [3, 4, 1, 0] rfl)
              · refine lv_iload hx hb d_M_canBeShort_83 (lv_at hl 0 rfl) ?_
                refine n_bipush (k := 57) hx hb d_M_canBeShort_85 (by decide) ?_
                refine n_gt (a := ch (a) (i)) (b := 57) (tgt := 94) hx hb d_M_canBeShort_87 (by decide) (by omega) (by omega) (fun c_87 => ?_) (fun c_87 => ?_)
                · have hbb9 : (false = true) ↔ (len a ≤ 4 ∧ smB (ch a 0) ∧ ∀ q, 1 ≤ q → q < (i + 1) → smB (ch a q) ∨ dgB (ch a q)) := ⟨fun h => (by cases h), fun h => absurd (h.2.2 i h1 (Nat.lt_succ_self i)) (by unfold smB dgB; omega)⟩
                  refine n_const (k := 0) hx hb d_M_canBeShort_94 (by decide) ?_
                  refine lv_istore_n (lv' := [(2, .int (nI (0))), (4, .int (nI (ch (a) (i)))), (0, .ref (ad (0))), (1, .int (nI (a))), (3, .int (nI (i)))]) hx hb d_M_canBeShort_95 rfl hl (by decide) rfl (fun ls hl => ?_)
                  refine n_inc (lv' := [(3, .int (nI (i + 1))), (2, .int (nI (0))), (4, .int (nI (ch (a) (i)))), (0, .ref (ad (0))), (1, .int (nI (a)))]) hx hb d_M_canBeShort_96 hl (k := 4) rfl (by decide) rfl (fun ls hl => ?_)
                  refine lv_goto (tgt := 40) hx hb d_M_canBeShort_99 (by decide) ?_
                  exact ih40 (i + 1) (false) _ _ ls (hm9) (hi1) (hi9) (hbb9) hP hS (lv_sub hl [3, 4, 1, 0] rfl)
                · have hbb9 : (true = true) ↔ (len a ≤ 4 ∧ smB (ch a 0) ∧ ∀ q, 1 ≤ q → q < (i + 1) → smB (ch a q) ∨ dgB (ch a q)) := ⟨fun _ => ⟨(hbb.mp c_51).1, (hbb.mp c_51).2.1, fun q g1 g2 => by rcases Nat.lt_succ_iff_lt_or_eq.mp g2 with h | h; exact (hbb.mp c_51).2.2 q g1 h; subst h; unfold smB dgB; omega⟩, fun _ => rfl⟩
                  refine n_const (k := 1) hx hb d_M_canBeShort_90 (by decide) ?_
                  refine lv_goto (tgt := 95) hx hb d_M_canBeShort_91 (by decide) ?_
                  refine lv_istore_n (lv' := [(2, .int (nI (1))), (4, .int (nI (ch (a) (i)))), (0, .ref (ad (0))), (1, .int (nI (a))), (3, .int (nI (i)))]) hx hb d_M_canBeShort_95 rfl hl (by decide) rfl (fun ls hl => ?_)
                  refine n_inc (lv' := [(3, .int (nI (i + 1))), (2, .int (nI (1))), (4, .int (nI (ch (a) (i)))), (0, .ref (ad (0))), (1, .int (nI (a)))]) hx hb d_M_canBeShort_96 hl (k := 4) rfl (by decide) rfl (fun ls hl => ?_)
                  refine lv_goto (tgt := 40) hx hb d_M_canBeShort_99 (by decide) ?_
                  exact ih40 (i + 1) (true) _ _ ls (hm9) (hi1) (hi9) (hbb9) hP hS (lv_sub hl [3, 4, 1, 0] rfl)
  refine lv_aload_n hx hb d_M_canBeShort_0 rfl (lv_at hl 0 rfl) ?_
  refine g_get (C := R_M) (T := T_M) (N := 19) (ci := 8) (v := .ref (ad (3))) hx hb hg i_M hown hK hP 0 (by decide) rfl rfl 4 (by decide) (hg _ k_797) rfl d_M_canBeShort_1 ?_
  refine lv_iload_n hx hb d_M_canBeShort_4 rfl (lv_at hl 1 rfl) ?_
  refine g_iald hx hb hK hP 3 0 (by decide) rfl rfl (by decide) (j := a) (by omega) d_M_canBeShort_5 ?_
  refine n_top (y := (nI (len (a)))) ((hR.2.2.1 (a) (by omega)).2.2) ?_
  refine n_const (k := 4) hx hb d_M_canBeShort_6 (by decide) ?_
  refine n_gt (a := len (a)) (b := 4) (tgt := 36) hx hb d_M_canBeShort_7 (by decide) (by omega) (by omega) (fun c_7 => ?_) (fun c_7 => ?_)
  · have hbb0 : (false = true) ↔ (len a ≤ 4 ∧ smB (ch a 0) ∧ ∀ q, 1 ≤ q → q < 1 → smB (ch a q) ∨ dgB (ch a q)) := ⟨fun h => (by cases h), fun h => absurd h.1 (by omega)⟩
    refine n_const (k := 0) hx hb d_M_canBeShort_36 (by decide) ?_
    refine lv_istore_n (lv' := [(2, .int (nI (0))), (0, .ref (ad (0))), (1, .int (nI (a)))]) hx hb d_M_canBeShort_37 rfl hl (by decide) rfl (fun ls hl => ?_)
    refine n_const (k := 1) hx hb d_M_canBeShort_38 (by decide) ?_
    refine lv_istore_n (lv' := [(3, .int (nI (1))), (2, .int (nI (0))), (0, .ref (ad (0))), (1, .int (nI (a)))]) hx hb d_M_canBeShort_39 rfl hl (by decide) rfl (fun ls hl => ?_)
    exact J40 (_ + 1) (1) (false) _ _ ls (Nat.lt_succ_self _) (by omega) (by omega) (hbb0) hP hS (lv_sub hl [2, 3, 1, 0] rfl)
  · refine lv_aload_n hx hb d_M_canBeShort_10 rfl (lv_at hl 0 rfl) ?_
    refine lv_iload_n hx hb d_M_canBeShort_11 rfl (lv_at hl 1 rfl) ?_
    refine n_const (k := 0) hx hb d_M_canBeShort_12 (by decide) ?_
    refine c_V (own := R_M) (index := 64) (As := [.int (nI (a)), .int (nI (0))]) (rest := []) hx hb hml hown hg hK (fun _ _ _ h => h) (fun _ _ => trivial) (fun _ h => h) hP hS 0 (c_M_at l D cI cB ad hI M n len ch sp hR (a) (0) (by omega) (by omega)) (by decide) (ci := 8) rfl rfl k_887 k_889 k_p27 k_9 k_890 2 rfl (by decide +kernel) (by decide) rfl hl.1 (Nat.le_of_ble_eq_true rfl) d_M_canBeShort_13 (fun v M' H locs hq hP _ _ hS => ?_)
    obtain ⟨rfl, rfl⟩ := hq
    refine W.eq (g2 := F0 m 16 ls [.int (nI (ch (a) (0)))]) rfl ?_
    refine n_bipush (k := 97) hx hb d_M_canBeShort_16 (by decide) ?_
    refine n_lt (a := ch (a) (0)) (b := 97) (tgt := 36) hx hb d_M_canBeShort_18 (by decide) (by omega) (by omega) (fun c_18 => ?_) (fun c_18 => ?_)
    · have hbb0 : (false = true) ↔ (len a ≤ 4 ∧ smB (ch a 0) ∧ ∀ q, 1 ≤ q → q < 1 → smB (ch a q) ∨ dgB (ch a q)) := ⟨fun h => (by cases h), fun h => absurd h.2.1 (by unfold smB; omega)⟩
      refine n_const (k := 0) hx hb d_M_canBeShort_36 (by decide) ?_
      refine lv_istore_n (lv' := [(2, .int (nI (0))), (0, .ref (ad (0))), (1, .int (nI (a)))]) hx hb d_M_canBeShort_37 rfl hl (by decide) rfl (fun ls hl => ?_)
      refine n_const (k := 1) hx hb d_M_canBeShort_38 (by decide) ?_
      refine lv_istore_n (lv' := [(3, .int (nI (1))), (2, .int (nI (0))), (0, .ref (ad (0))), (1, .int (nI (a)))]) hx hb d_M_canBeShort_39 rfl hl (by decide) rfl (fun ls hl => ?_)
      exact J40 (_ + 1) (1) (false) _ _ ls (Nat.lt_succ_self _) (by omega) (by omega) (hbb0) hP hS (lv_sub hl [2, 3, 1, 0] rfl)
    · refine lv_aload_n hx hb d_M_canBeShort_21 rfl (lv_at hl 0 rfl) ?_
      refine lv_iload_n hx hb d_M_canBeShort_22 rfl (lv_at hl 1 rfl) ?_
      refine n_const (k := 0) hx hb d_M_canBeShort_23 (by decide) ?_
      refine c_V (own := R_M) (index := 64) (As := [.int (nI (a)), .int (nI (0))]) (rest := []) hx hb hml hown hg hK (fun _ _ _ h => h) (fun _ _ => trivial) (fun _ h => h) hP hS 0 (c_M_at l D cI cB ad hI M n len ch sp hR (a) (0) (by omega) (by omega)) (by decide) (ci := 8) rfl rfl k_887 k_889 k_p27 k_9 k_890 2 rfl (by decide +kernel) (by decide) rfl hl.1 (Nat.le_of_ble_eq_true rfl) d_M_canBeShort_24 (fun v M' H locs hq hP _ _ hS => ?_)
      obtain ⟨rfl, rfl⟩ := hq
      refine W.eq (g2 := F0 m 27 ls [.int (nI (ch (a) (0)))]) rfl ?_
      refine n_bipush (k := 122) hx hb d_M_canBeShort_27 (by decide) ?_
      refine n_gt (a := ch (a) (0)) (b := 122) (tgt := 36) hx hb d_M_canBeShort_29 (by decide) (by omega) (by omega) (fun c_29 => ?_) (fun c_29 => ?_)
      · have hbb0 : (false = true) ↔ (len a ≤ 4 ∧ smB (ch a 0) ∧ ∀ q, 1 ≤ q → q < 1 → smB (ch a q) ∨ dgB (ch a q)) := ⟨fun h => (by cases h), fun h => absurd h.2.1 (by unfold smB; omega)⟩
        refine n_const (k := 0) hx hb d_M_canBeShort_36 (by decide) ?_
        refine lv_istore_n (lv' := [(2, .int (nI (0))), (0, .ref (ad (0))), (1, .int (nI (a)))]) hx hb d_M_canBeShort_37 rfl hl (by decide) rfl (fun ls hl => ?_)
        refine n_const (k := 1) hx hb d_M_canBeShort_38 (by decide) ?_
        refine lv_istore_n (lv' := [(3, .int (nI (1))), (2, .int (nI (0))), (0, .ref (ad (0))), (1, .int (nI (a)))]) hx hb d_M_canBeShort_39 rfl hl (by decide) rfl (fun ls hl => ?_)
        exact J40 (_ + 1) (1) (false) _ _ ls (Nat.lt_succ_self _) (by omega) (by omega) (hbb0) hP hS (lv_sub hl [2, 3, 1, 0] rfl)
      · have hbb0 : (true = true) ↔ (len a ≤ 4 ∧ smB (ch a 0) ∧ ∀ q, 1 ≤ q → q < 1 → smB (ch a q) ∨ dgB (ch a q)) := ⟨fun _ => ⟨c_7, ⟨c_18, c_29⟩, fun q h1 h2 => absurd h1 (by omega)⟩, fun _ => rfl⟩
        refine n_const (k := 1) hx hb d_M_canBeShort_32 (by decide) ?_
        refine lv_goto (tgt := 37) hx hb d_M_canBeShort_33 (by decide) ?_
        refine lv_istore_n (lv' := [(2, .int (nI (1))), (0, .ref (ad (0))), (1, .int (nI (a)))]) hx hb d_M_canBeShort_37 rfl hl (by decide) rfl (fun ls hl => ?_)
        refine n_const (k := 1) hx hb d_M_canBeShort_38 (by decide) ?_
        refine lv_istore_n (lv' := [(3, .int (nI (1))), (2, .int (nI (1))), (0, .ref (ad (0))), (1, .int (nI (a)))]) hx hb d_M_canBeShort_39 rfl hl (by decide) rfl (fun ls hl => ?_)
        exact J40 (_ + 1) (1) (true) _ _ ls (Nat.lt_succ_self _) (by omega) (by omega) (hbb0) hP hS (lv_sub hl [2, 3, 1, 0] rfl)

set_option maxHeartbeats 4000000 in
set_option maxRecDepth 100000 in
theorem c_M_prefix_2 (l : Launch) (D : va_G) (cI cB : ClassId) (ad : Nat → Nat) (hI : GI 13 ad) (M : PM) (n : Nat) (len : Nat → Nat) (ch : Nat → Nat → Nat) (sp : Nat → Option Nat) (hR : RN M n len ch sp) (a b9 : Nat) (ha : a < n) (hb9 : b9 < n) (h2 : a = b9 ∨ ¬ cbs len ch b9) : MM l D cI cB ad y_M_prefix b_M_prefix 3 (some .boolean) 2 46 [.ref (ad (0)), .int (nI (a)), .int (nI (b9))] M (fun v M' => v = some (.int (nI 0)) ∧ M' = pu M 0 0 (nI 2)) := by
  refine MC.of (by decide) (Nat.le_of_ble_eq_true rfl) ?_
  intro p e s m below meth c ls hx hb hr hml hown hg hlocks hK hN hP hS hl
  have hown : s.vm.findClass R_M = some m.cls := hown
  have hl : lv_has ls 3 [(0, .ref (ad (0))), (1, .int (nI (a))), (2, .int (nI (b9)))] := hl
  have hn60 : n ≤ 60 := hR.1
  have hl24 := hR.2.2.1
  have hspn := hR.2.2.2.2.1
  have hch := hR.2.2.2.2.2
  obtain ⟨t1, ht1⟩ := bex (cbs len ch b9)
  refine lv_aload_n hx hb d_M_prefix_0 rfl (lv_at hl 0 rfl) ?_
  refine lv_aload_n hx hb d_M_prefix_1 rfl (lv_at hl 0 rfl) ?_
  refine lv_iload_n hx hb d_M_prefix_2 rfl (lv_at hl 1 rfl) ?_
  refine c_V (own := R_M) (index := 89) (As := [.int (nI (a))]) (rest := [.ref (ad (0))]) hx hb hml hown hg hK (fun _ _ _ h => h) (fun _ _ => trivial) (fun _ h => h) hP hS 0 (c_M_no l D cI cB ad hI M n len ch sp hR (nI (a)) false (no_f (by omega))) (by decide) (ci := 8) rfl rfl k_907 k_909 k_p30 k_9 k_910 1 rfl (by decide +kernel) (by decide) rfl hl.1 (Nat.le_of_ble_eq_true rfl) d_M_prefix_3 (fun v M' H locs hq hP _ _ hS => ?_)
  obtain ⟨rfl, rfl⟩ := hq
  refine W.eq (g2 := F0 m 6 ls [.int (bI (false)), .ref (ad (0))]) rfl ?_
  refine z_ne (t := false) (tgt := 17) hx hb d_M_prefix_6 (by decide) (fun h9 => absurd h9 (by decide)) (fun _ => ?_)
  refine lv_aload_n hx hb d_M_prefix_9 rfl (lv_at hl 0 rfl) ?_
  refine lv_iload_n hx hb d_M_prefix_10 rfl (lv_at hl 2 rfl) ?_
  refine c_V (own := R_M) (index := 89) (As := [.int (nI (b9))]) (rest := [.ref (ad (0))]) hx hb hml hown hg hK (fun _ _ _ h => h) (fun _ _ => trivial) (fun _ h => h) hP hS 0 (c_M_no l D cI cB ad hI M n len ch sp hR (nI (b9)) false (no_f (by omega))) (by decide) (ci := 8) rfl rfl k_907 k_909 k_p30 k_9 k_910 1 rfl (by decide +kernel) (by decide) rfl hl.1 (Nat.le_of_ble_eq_true rfl) d_M_prefix_11 (fun v M' H locs hq hP _ _ hS => ?_)
  obtain ⟨rfl, rfl⟩ := hq
  refine W.eq (g2 := F0 m 14 ls [.int (bI (false)), .ref (ad (0))]) rfl ?_
  refine z_eq (t := false) (tgt := 21) hx hb d_M_prefix_14 (by decide) (fun _ => ?_) (fun h9 => absurd h9 (by decide))
  refine lv_iload_n hx hb d_M_prefix_21 rfl (lv_at hl 1 rfl) ?_
  refine lv_iload_n hx hb d_M_prefix_22 rfl (lv_at hl 2 rfl) ?_
  refine n_eq (a := a) (b := b9) (tgt := 34) hx hb d_M_prefix_23 (by decide) (by omega) (by omega) (fun c_23 => ?_) (fun c_23 => ?_)
  · refine n_const (k := 2) hx hb d_M_prefix_34 (by decide) ?_
    refine lv_goto (tgt := 39) hx hb d_M_prefix_35 (by decide) ?_
    refine c_V (own := R_M) (index := 57) (As := [.int (nI (2))]) (rest := []) hx hb hml hown hg hK (fun _ _ _ h => h) (fun _ _ => trivial) (fun _ h => h) hP hS 0 (c_M_refuses l D cI cB ad hI M (2) (by decide)) (by decide) (ci := 8) rfl rfl k_859 k_861 k_p22 k_9 k_862 1 rfl (by decide +kernel) (by decide) rfl hl.1 (Nat.le_of_ble_eq_true rfl) d_M_prefix_39 (fun v M_1 H locs hq hP _ _ hS => ?_)
    obtain ⟨rfl, eM_1⟩ := hq
    refine W.eq (g2 := F0 m 42 ls [.int (bI (true))]) rfl ?_
    refine z_eq (t := true) (tgt := 47) hx hb d_M_prefix_42 (by decide) (fun h9 => absurd h9 (by decide)) (fun _ => ?_)
    refine n_const (k := 0) hx hb d_M_prefix_45 (by decide) ?_
    exact r_z hx hb hr hlocks (rfl) hP hS (⟨rfl, eM_1⟩) d_M_prefix_46
  · refine lv_aload_n hx hb d_M_prefix_26 rfl (lv_at hl 0 rfl) ?_
    refine lv_iload_n hx hb d_M_prefix_27 rfl (lv_at hl 2 rfl) ?_
    refine c_V (own := R_M) (index := 92) (As := [.int (nI (b9))]) (rest := [.ref (ad (0))]) hx hb hml hown hg hK (fun _ _ _ h => h) (fun _ _ => trivial) (fun _ h => h) hP hS 0 (c_M_canBeShort l D cI cB ad hI M n len ch sp hR (b9) (by omega) t1 ht1) (by decide) (ci := 8) rfl rfl k_911 k_913 k_p31 k_9 k_914 1 rfl (by decide +kernel) (by decide) rfl hl.1 (Nat.le_of_ble_eq_true rfl) d_M_prefix_28 (fun v M' H locs hq hP _ _ hS => ?_)
    obtain ⟨rfl, rfl⟩ := hq
    refine W.eq (g2 := F0 m 31 ls [.int (bI (t1)), .ref (ad (0))]) rfl ?_
    refine z_ne (t := t1) (tgt := 38) hx hb d_M_prefix_31 (by decide) (fun c_31 => ?_) (fun c_31 => ?_)
    · exact absurd h2 (fun h => by rcases h with h | h; exact c_23 h; exact h (ht1.mp c_31))
    · refine n_const (k := 2) hx hb d_M_prefix_34 (by decide) ?_
      refine lv_goto (tgt := 39) hx hb d_M_prefix_35 (by decide) ?_
      refine c_V (own := R_M) (index := 57) (As := [.int (nI (2))]) (rest := []) hx hb hml hown hg hK (fun _ _ _ h => h) (fun _ _ => trivial) (fun _ h => h) hP hS 0 (c_M_refuses l D cI cB ad hI M (2) (by decide)) (by decide) (ci := 8) rfl rfl k_859 k_861 k_p22 k_9 k_862 1 rfl (by decide +kernel) (by decide) rfl hl.1 (Nat.le_of_ble_eq_true rfl) d_M_prefix_39 (fun v M_2 H locs hq hP _ _ hS => ?_)
      obtain ⟨rfl, eM_2⟩ := hq
      refine W.eq (g2 := F0 m 42 ls [.int (bI (true))]) rfl ?_
      refine z_eq (t := true) (tgt := 47) hx hb d_M_prefix_42 (by decide) (fun h9 => absurd h9 (by decide)) (fun _ => ?_)
      refine n_const (k := 0) hx hb d_M_prefix_45 (by decide) ?_
      exact r_z hx hb hr hlocks (rfl) hP hS (⟨rfl, eM_2⟩) d_M_prefix_46

set_option maxHeartbeats 4000000 in
set_option maxRecDepth 100000 in
theorem c_M_prefix_c (l : Launch) (D : va_G) (cI cB : ClassId) (ad : Nat → Nat) (hI : GI 13 ad) (M : PM) (n : Nat) (len : Nat → Nat) (ch : Nat → Nat → Nat) (sp : Nat → Option Nat) (hR : RN M n len ch sp) (a b9 : Nat) (ha : a < n) (hb9 : b9 < n) (hab : a ≠ b9) (hc9 : cbs len ch b9) (w9 : Nat) (hw9 : sp b9 = some w9) (hne : w9 ≠ a) : MM l D cI cB ad y_M_prefix b_M_prefix 3 (some .boolean) 2 46 [.ref (ad (0)), .int (nI (a)), .int (nI (b9))] M (fun v M' => v = some (.int (bI false)) ∧ M' = pu (pu (pu (pu M 0 0 (nI 0)) 10 0 (nI 1)) 10 1 (nI w9)) 10 2 (nI a)) := by
  refine MC.of (by decide) (Nat.le_of_ble_eq_true rfl) ?_
  intro p e s m below meth c ls hx hb hr hml hown hg hlocks hK hN hP hS hl
  have hown : s.vm.findClass R_M = some m.cls := hown
  have hl : lv_has ls 3 [(0, .ref (ad (0))), (1, .int (nI (a))), (2, .int (nI (b9)))] := hl
  have hn60 : n ≤ 60 := hR.1
  have hl24 := hR.2.2.1
  have hspn := hR.2.2.2.2.1
  have hch := hR.2.2.2.2.2
  refine lv_aload_n hx hb d_M_prefix_0 rfl (lv_at hl 0 rfl) ?_
  refine lv_aload_n hx hb d_M_prefix_1 rfl (lv_at hl 0 rfl) ?_
  refine lv_iload_n hx hb d_M_prefix_2 rfl (lv_at hl 1 rfl) ?_
  refine c_V (own := R_M) (index := 89) (As := [.int (nI (a))]) (rest := [.ref (ad (0))]) hx hb hml hown hg hK (fun _ _ _ h => h) (fun _ _ => trivial) (fun _ h => h) hP hS 0 (c_M_no l D cI cB ad hI M n len ch sp hR (nI (a)) false (no_f (by omega))) (by decide) (ci := 8) rfl rfl k_907 k_909 k_p30 k_9 k_910 1 rfl (by decide +kernel) (by decide) rfl hl.1 (Nat.le_of_ble_eq_true rfl) d_M_prefix_3 (fun v M' H locs hq hP _ _ hS => ?_)
  obtain ⟨rfl, rfl⟩ := hq
  refine W.eq (g2 := F0 m 6 ls [.int (bI (false)), .ref (ad (0))]) rfl ?_
  refine z_ne (t := false) (tgt := 17) hx hb d_M_prefix_6 (by decide) (fun h9 => absurd h9 (by decide)) (fun _ => ?_)
  refine lv_aload_n hx hb d_M_prefix_9 rfl (lv_at hl 0 rfl) ?_
  refine lv_iload_n hx hb d_M_prefix_10 rfl (lv_at hl 2 rfl) ?_
  refine c_V (own := R_M) (index := 89) (As := [.int (nI (b9))]) (rest := [.ref (ad (0))]) hx hb hml hown hg hK (fun _ _ _ h => h) (fun _ _ => trivial) (fun _ h => h) hP hS 0 (c_M_no l D cI cB ad hI M n len ch sp hR (nI (b9)) false (no_f (by omega))) (by decide) (ci := 8) rfl rfl k_907 k_909 k_p30 k_9 k_910 1 rfl (by decide +kernel) (by decide) rfl hl.1 (Nat.le_of_ble_eq_true rfl) d_M_prefix_11 (fun v M' H locs hq hP _ _ hS => ?_)
  obtain ⟨rfl, rfl⟩ := hq
  refine W.eq (g2 := F0 m 14 ls [.int (bI (false)), .ref (ad (0))]) rfl ?_
  refine z_eq (t := false) (tgt := 21) hx hb d_M_prefix_14 (by decide) (fun _ => ?_) (fun h9 => absurd h9 (by decide))
  refine lv_iload_n hx hb d_M_prefix_21 rfl (lv_at hl 1 rfl) ?_
  refine lv_iload_n hx hb d_M_prefix_22 rfl (lv_at hl 2 rfl) ?_
  refine n_eq (a := a) (b := b9) (tgt := 34) hx hb d_M_prefix_23 (by decide) (by omega) (by omega) (fun c_23 => ?_) (fun c_23 => ?_)
  · exact absurd c_23 (by omega)
  · refine lv_aload_n hx hb d_M_prefix_26 rfl (lv_at hl 0 rfl) ?_
    refine lv_iload_n hx hb d_M_prefix_27 rfl (lv_at hl 2 rfl) ?_
    refine c_V (own := R_M) (index := 92) (As := [.int (nI (b9))]) (rest := [.ref (ad (0))]) hx hb hml hown hg hK (fun _ _ _ h => h) (fun _ _ => trivial) (fun _ h => h) hP hS 0 (c_M_canBeShort l D cI cB ad hI M n len ch sp hR (b9) (by omega) true ⟨fun _ => hc9, fun _ => rfl⟩) (by decide) (ci := 8) rfl rfl k_911 k_913 k_p31 k_9 k_914 1 rfl (by decide +kernel) (by decide) rfl hl.1 (Nat.le_of_ble_eq_true rfl) d_M_prefix_28 (fun v M' H locs hq hP _ _ hS => ?_)
    obtain ⟨rfl, rfl⟩ := hq
    refine W.eq (g2 := F0 m 31 ls [.int (bI (true)), .ref (ad (0))]) rfl ?_
    refine z_ne (t := true) (tgt := 38) hx hb d_M_prefix_31 (by decide) (fun _ => ?_) (fun h9 => absurd h9 (by decide))
    refine n_const (k := 0) hx hb d_M_prefix_38 (by decide) ?_
    refine c_V (own := R_M) (index := 57) (As := [.int (nI (0))]) (rest := []) hx hb hml hown hg hK (fun _ _ _ h => h) (fun _ _ => trivial) (fun _ h => h) hP hS 0 (c_M_refuses l D cI cB ad hI M (0) (by decide)) (by decide) (ci := 8) rfl rfl k_859 k_861 k_p22 k_9 k_862 1 rfl (by decide +kernel) (by decide) rfl hl.1 (Nat.le_of_ble_eq_true rfl) d_M_prefix_39 (fun v M_1 H locs hq hP _ _ hS => ?_)
    obtain ⟨rfl, eM_1⟩ := hq
    refine W.eq (g2 := F0 m 42 ls [.int (bI (false))]) rfl ?_
    refine z_eq (t := false) (tgt := 47) hx hb d_M_prefix_42 (by decide) (fun _ => ?_) (fun h9 => absurd h9 (by decide))
    refine lv_aload_n hx hb d_M_prefix_47 rfl (lv_at hl 0 rfl) ?_
    refine g_get (C := R_M) (T := T_M) (N := 19) (ci := 8) (v := .ref (ad (4))) hx hb hg i_M hown hK hP 0 (by decide) rfl rfl 6 (by decide) (hg _ k_799) rfl d_M_prefix_48 ?_
    refine lv_iload_n hx hb d_M_prefix_51 rfl (lv_at hl 2 rfl) ?_
    refine g_iald hx hb hK hP 4 0 (by decide) rfl rfl (by decide) (j := b9) (by omega) d_M_prefix_52 ?_
    refine n_top (y := (oI (sp (b9)))) (by rw [eM_1, pu_k _ _ _ _ _ (by first | decide | omega)]; exact hR.2.2.2.1 (b9) (by omega)) ?_
    refine o_lt (o := sp (b9)) (tgt := 80) hx hb d_M_prefix_53 (by decide) (by intro q hq; have := hspn _ q (by omega) hq; omega) (fun c_53 => ?_) (fun v_53 c_53 => ?_)
    · exact absurd c_53 (by rw [hw9]; simp)
    · refine lv_aload_n hx hb d_M_prefix_56 rfl (lv_at hl 0 rfl) ?_
      refine g_get (C := R_M) (T := T_M) (N := 19) (ci := 8) (v := .ref (ad (4))) hx hb hg i_M hown hK hP 0 (by decide) rfl rfl 6 (by decide) (hg _ k_799) rfl d_M_prefix_57 ?_
      refine lv_iload_n hx hb d_M_prefix_60 rfl (lv_at hl 2 rfl) ?_
      refine g_iald hx hb hK hP 4 0 (by decide) rfl rfl (by decide) (j := b9) (by omega) d_M_prefix_61 ?_
      refine n_top (y := (oI (sp (b9)))) (by rw [eM_1, pu_k _ _ _ _ _ (by first | decide | omega)]; exact hR.2.2.2.1 (b9) (by omega)) ?_
      refine lv_iload_n hx hb d_M_prefix_62 rfl (lv_at hl 1 rfl) ?_
      refine oo_eq (a := sp (b9)) (b := some (a)) (tgt := 80) hx hb d_M_prefix_63 (by decide) (by intro q hq; have := hspn _ q (by omega) hq; omega) (ob_some (by omega)) (fun c_63 => ?_) (fun c_63 => ?_)
      · exact absurd c_63 (by rw [hw9]; simp; omega)
      · refine lv_aload_n hx hb d_M_prefix_66 rfl (lv_at hl 0 rfl) ?_
        refine n_const (k := 1) hx hb d_M_prefix_67 (by decide) ?_
        refine lv_aload_n hx hb d_M_prefix_68 rfl (lv_at hl 0 rfl) ?_
        refine g_get (C := R_M) (T := T_M) (N := 19) (ci := 8) (v := .ref (ad (4))) hx hb hg i_M hown hK hP 0 (by decide) rfl rfl 6 (by decide) (hg _ k_799) rfl d_M_prefix_69 ?_
        refine lv_iload_n hx hb d_M_prefix_72 rfl (lv_at hl 2 rfl) ?_
        refine g_iald hx hb hK hP 4 0 (by decide) rfl rfl (by decide) (j := b9) (by omega) d_M_prefix_73 ?_
        refine n_top (y := (oI (sp (b9)))) (by rw [eM_1, pu_k _ _ _ _ _ (by first | decide | omega)]; exact hR.2.2.2.1 (b9) (by omega)) ?_
        refine lv_iload_n hx hb d_M_prefix_74 rfl (lv_at hl 1 rfl) ?_
        refine c_V (own := R_M) (index := 95) (As := [.int (nI (1)), .int (oI (sp (b9))), .int (nI (a))]) (rest := []) hx hb hml hown hg hK (fun _ _ _ h => h) (fun _ _ => trivial) (fun _ h => h) hP hS 0 (c_M_clashes l D cI cB ad hI M_1 ((nI (1))) ((oI (sp (b9)))) ((nI (a)))) (by decide) (ci := 8) rfl rfl k_915 k_917 k_p32 k_9 k_918 3 rfl (by decide +kernel) (by decide) rfl hl.1 (Nat.le_of_ble_eq_true rfl) d_M_prefix_75 (fun v M_2 H locs hq hP _ _ hS => ?_)
        obtain ⟨rfl, eM_2⟩ := hq
        refine W.eq (g2 := F0 m 78 ls []) rfl ?_
        refine n_const (k := 0) hx hb d_M_prefix_78 (by decide) ?_
        exact r_z hx hb hr hlocks (rfl) hP hS (⟨rfl, by rw [eM_2, eM_1, hw9]; rfl⟩) d_M_prefix_79

set_option maxHeartbeats 4000000 in
set_option maxRecDepth 100000 in
theorem c_M_prefix_0 (l : Launch) (D : va_G) (cI cB : ClassId) (ad : Nat → Nat) (hI : GI 13 ad) (M : PM) (n : Nat) (len : Nat → Nat) (ch : Nat → Nat → Nat) (sp : Nat → Option Nat) (hR : RN M n len ch sp) (a b9 : Nat) (ha : a < n) (hb9 : b9 < n) (hab : a ≠ b9) (hc9 : cbs len ch b9) (hw9 : sp b9 = none ∨ sp b9 = some a) : MM l D cI cB ad y_M_prefix b_M_prefix 3 (some .boolean) 2 46 [.ref (ad (0)), .int (nI (a)), .int (nI (b9))] M (fun v M' => v = some (.int (bI true)) ∧ M' = pu (pu M 0 0 (nI 0)) 4 b9 (nI a)) := by
  refine MC.of (by decide) (Nat.le_of_ble_eq_true rfl) ?_
  intro p e s m below meth c ls hx hb hr hml hown hg hlocks hK hN hP hS hl
  have hown : s.vm.findClass R_M = some m.cls := hown
  have hl : lv_has ls 3 [(0, .ref (ad (0))), (1, .int (nI (a))), (2, .int (nI (b9)))] := hl
  have hn60 : n ≤ 60 := hR.1
  have hl24 := hR.2.2.1
  have hspn := hR.2.2.2.2.1
  have hch := hR.2.2.2.2.2
  refine lv_aload_n hx hb d_M_prefix_0 rfl (lv_at hl 0 rfl) ?_
  refine lv_aload_n hx hb d_M_prefix_1 rfl (lv_at hl 0 rfl) ?_
  refine lv_iload_n hx hb d_M_prefix_2 rfl (lv_at hl 1 rfl) ?_
  refine c_V (own := R_M) (index := 89) (As := [.int (nI (a))]) (rest := [.ref (ad (0))]) hx hb hml hown hg hK (fun _ _ _ h => h) (fun _ _ => trivial) (fun _ h => h) hP hS 0 (c_M_no l D cI cB ad hI M n len ch sp hR (nI (a)) false (no_f (by omega))) (by decide) (ci := 8) rfl rfl k_907 k_909 k_p30 k_9 k_910 1 rfl (by decide +kernel) (by decide) rfl hl.1 (Nat.le_of_ble_eq_true rfl) d_M_prefix_3 (fun v M' H locs hq hP _ _ hS => ?_)
  obtain ⟨rfl, rfl⟩ := hq
  refine W.eq (g2 := F0 m 6 ls [.int (bI (false)), .ref (ad (0))]) rfl ?_
  refine z_ne (t := false) (tgt := 17) hx hb d_M_prefix_6 (by decide) (fun h9 => absurd h9 (by decide)) (fun _ => ?_)
  refine lv_aload_n hx hb d_M_prefix_9 rfl (lv_at hl 0 rfl) ?_
  refine lv_iload_n hx hb d_M_prefix_10 rfl (lv_at hl 2 rfl) ?_
  refine c_V (own := R_M) (index := 89) (As := [.int (nI (b9))]) (rest := [.ref (ad (0))]) hx hb hml hown hg hK (fun _ _ _ h => h) (fun _ _ => trivial) (fun _ h => h) hP hS 0 (c_M_no l D cI cB ad hI M n len ch sp hR (nI (b9)) false (no_f (by omega))) (by decide) (ci := 8) rfl rfl k_907 k_909 k_p30 k_9 k_910 1 rfl (by decide +kernel) (by decide) rfl hl.1 (Nat.le_of_ble_eq_true rfl) d_M_prefix_11 (fun v M' H locs hq hP _ _ hS => ?_)
  obtain ⟨rfl, rfl⟩ := hq
  refine W.eq (g2 := F0 m 14 ls [.int (bI (false)), .ref (ad (0))]) rfl ?_
  refine z_eq (t := false) (tgt := 21) hx hb d_M_prefix_14 (by decide) (fun _ => ?_) (fun h9 => absurd h9 (by decide))
  refine lv_iload_n hx hb d_M_prefix_21 rfl (lv_at hl 1 rfl) ?_
  refine lv_iload_n hx hb d_M_prefix_22 rfl (lv_at hl 2 rfl) ?_
  refine n_eq (a := a) (b := b9) (tgt := 34) hx hb d_M_prefix_23 (by decide) (by omega) (by omega) (fun c_23 => ?_) (fun c_23 => ?_)
  · exact absurd c_23 (by omega)
  · refine lv_aload_n hx hb d_M_prefix_26 rfl (lv_at hl 0 rfl) ?_
    refine lv_iload_n hx hb d_M_prefix_27 rfl (lv_at hl 2 rfl) ?_
    refine c_V (own := R_M) (index := 92) (As := [.int (nI (b9))]) (rest := [.ref (ad (0))]) hx hb hml hown hg hK (fun _ _ _ h => h) (fun _ _ => trivial) (fun _ h => h) hP hS 0 (c_M_canBeShort l D cI cB ad hI M n len ch sp hR (b9) (by omega) true ⟨fun _ => hc9, fun _ => rfl⟩) (by decide) (ci := 8) rfl rfl k_911 k_913 k_p31 k_9 k_914 1 rfl (by decide +kernel) (by decide) rfl hl.1 (Nat.le_of_ble_eq_true rfl) d_M_prefix_28 (fun v M' H locs hq hP _ _ hS => ?_)
    obtain ⟨rfl, rfl⟩ := hq
    refine W.eq (g2 := F0 m 31 ls [.int (bI (true)), .ref (ad (0))]) rfl ?_
    refine z_ne (t := true) (tgt := 38) hx hb d_M_prefix_31 (by decide) (fun _ => ?_) (fun h9 => absurd h9 (by decide))
    refine n_const (k := 0) hx hb d_M_prefix_38 (by decide) ?_
    refine c_V (own := R_M) (index := 57) (As := [.int (nI (0))]) (rest := []) hx hb hml hown hg hK (fun _ _ _ h => h) (fun _ _ => trivial) (fun _ h => h) hP hS 0 (c_M_refuses l D cI cB ad hI M (0) (by decide)) (by decide) (ci := 8) rfl rfl k_859 k_861 k_p22 k_9 k_862 1 rfl (by decide +kernel) (by decide) rfl hl.1 (Nat.le_of_ble_eq_true rfl) d_M_prefix_39 (fun v M_1 H locs hq hP _ _ hS => ?_)
    obtain ⟨rfl, eM_1⟩ := hq
    refine W.eq (g2 := F0 m 42 ls [.int (bI (false))]) rfl ?_
    refine z_eq (t := false) (tgt := 47) hx hb d_M_prefix_42 (by decide) (fun _ => ?_) (fun h9 => absurd h9 (by decide))
    refine lv_aload_n hx hb d_M_prefix_47 rfl (lv_at hl 0 rfl) ?_
    refine g_get (C := R_M) (T := T_M) (N := 19) (ci := 8) (v := .ref (ad (4))) hx hb hg i_M hown hK hP 0 (by decide) rfl rfl 6 (by decide) (hg _ k_799) rfl d_M_prefix_48 ?_
    refine lv_iload_n hx hb d_M_prefix_51 rfl (lv_at hl 2 rfl) ?_
    refine g_iald hx hb hK hP 4 0 (by decide) rfl rfl (by decide) (j := b9) (by omega) d_M_prefix_52 ?_
    refine n_top (y := (oI (sp (b9)))) (by rw [eM_1, pu_k _ _ _ _ _ (by first | decide | omega)]; exact hR.2.2.2.1 (b9) (by omega)) ?_
    refine o_lt (o := sp (b9)) (tgt := 80) hx hb d_M_prefix_53 (by decide) (by intro q hq; have := hspn _ q (by omega) hq; omega) (fun c_53 => ?_) (fun v_53 c_53 => ?_)
    · refine lv_aload_n hx hb d_M_prefix_80 rfl (lv_at hl 0 rfl) ?_
      refine g_get (C := R_M) (T := T_M) (N := 19) (ci := 8) (v := .ref (ad (4))) hx hb hg i_M hown hK hP 0 (by decide) rfl rfl 6 (by decide) (hg _ k_799) rfl d_M_prefix_81 ?_
      refine lv_iload_n hx hb d_M_prefix_84 rfl (lv_at hl 2 rfl) ?_
      refine lv_iload_n hx hb d_M_prefix_85 rfl (lv_at hl 1 rfl) ?_
      refine g_iast hx hb hK hI (fun _ h => h) hP hS 4 0 (by decide) (fun _ => rfl) rfl (by decide) (j := b9) (by omega) (v := (nI (a))) d_M_prefix_86 (fun H locs hP hS => ?_)
      obtain ⟨M_2, eM_2⟩ : ∃ z : PM, z = (pu M_1 4 (b9) ((nI (a)))) := ⟨_, rfl⟩
      rw [← eM_2] at hP
      refine n_const (k := 1) hx hb d_M_prefix_87 (by decide) ?_
      exact r_z hx hb hr hlocks (rfl) hP hS (⟨rfl, by rw [eM_2, eM_1]⟩) d_M_prefix_88
    · refine lv_aload_n hx hb d_M_prefix_56 rfl (lv_at hl 0 rfl) ?_
      refine g_get (C := R_M) (T := T_M) (N := 19) (ci := 8) (v := .ref (ad (4))) hx hb hg i_M hown hK hP 0 (by decide) rfl rfl 6 (by decide) (hg _ k_799) rfl d_M_prefix_57 ?_
      refine lv_iload_n hx hb d_M_prefix_60 rfl (lv_at hl 2 rfl) ?_
      refine g_iald hx hb hK hP 4 0 (by decide) rfl rfl (by decide) (j := b9) (by omega) d_M_prefix_61 ?_
      refine n_top (y := (oI (sp (b9)))) (by rw [eM_1, pu_k _ _ _ _ _ (by first | decide | omega)]; exact hR.2.2.2.1 (b9) (by omega)) ?_
      refine lv_iload_n hx hb d_M_prefix_62 rfl (lv_at hl 1 rfl) ?_
      refine oo_eq (a := sp (b9)) (b := some (a)) (tgt := 80) hx hb d_M_prefix_63 (by decide) (by intro q hq; have := hspn _ q (by omega) hq; omega) (ob_some (by omega)) (fun c_63 => ?_) (fun c_63 => ?_)
      · refine lv_aload_n hx hb d_M_prefix_80 rfl (lv_at hl 0 rfl) ?_
        refine g_get (C := R_M) (T := T_M) (N := 19) (ci := 8) (v := .ref (ad (4))) hx hb hg i_M hown hK hP 0 (by decide) rfl rfl 6 (by decide) (hg _ k_799) rfl d_M_prefix_81 ?_
        refine lv_iload_n hx hb d_M_prefix_84 rfl (lv_at hl 2 rfl) ?_
        refine lv_iload_n hx hb d_M_prefix_85 rfl (lv_at hl 1 rfl) ?_
        refine g_iast hx hb hK hI (fun _ h => h) hP hS 4 0 (by decide) (fun _ => rfl) rfl (by decide) (j := b9) (by omega) (v := (nI (a))) d_M_prefix_86 (fun H locs hP hS => ?_)
        obtain ⟨M_3, eM_3⟩ : ∃ z : PM, z = (pu M_1 4 (b9) ((nI (a)))) := ⟨_, rfl⟩
        rw [← eM_3] at hP
        refine n_const (k := 1) hx hb d_M_prefix_87 (by decide) ?_
        exact r_z hx hb hr hlocks (rfl) hP hS (⟨rfl, by rw [eM_3, eM_1]⟩) d_M_prefix_88
      · exact absurd hw9 (by rw [c_53]; simp; intro h; exact c_63 (by rw [c_53, h]))
