set_option maxHeartbeats 4000000 in
set_option maxRecDepth 100000 in
theorem c_H_size (l : Launch) (D : va_G) (cI cC cZ cT : ClassId) (ad : Nat → Nat) (hI : GI 144 ad) (M : PM) (z : Nat) (hz : M 129 3 = nI z) : MD l D cI cC cZ cT ad y_H_size b_H_size 1 (some .int) 0 0 [.ref (ad (129))] M (fun v M' => v = some (.int (nI (z))) ∧ M = M') := by
  refine MC.of (by decide) (Nat.le_of_ble_eq_true rfl) ?_
  intro p e s m below meth c ls hx hb hr hml hown hg hlocks hK hN hP hS hl
  have hown : s.vm.findClass R_H = some m.cls := hown
  have hl : lv_has ls 1 [(0, .ref (ad (129)))] := hl
  refine lv_aload_n hx hb d_H_size_0 rfl (lv_at hl 0 rfl) ?_
  refine g_get (C := R_H) (T := T_H) (N := 5) (ci := 3) (v := .int (M 129 3)) hx hb hg i_H hown hK hP 129 (by decide) rfl rfl 3 (by decide) (hg _ k_65) rfl d_H_size_1 ?_
  refine n_top (y := (nI (z))) (hz) ?_
  exact r_i hx hb hr hlocks hP hS (⟨rfl, rfl⟩) d_H_size_4

set_option maxHeartbeats 4000000 in
set_option maxRecDepth 100000 in
theorem c_H_spaces (l : Launch) (D : va_G) (cI cC cZ cT : ClassId) (ad : Nat → Nat) (hI : GI 144 ad) (M : PM) (z : Nat) (hz : M 129 4 = nI z) : MD l D cI cC cZ cT ad y_H_spaces b_H_spaces 1 (some .int) 0 0 [.ref (ad (129))] M (fun v M' => v = some (.int (nI (z))) ∧ M = M') := by
  refine MC.of (by decide) (Nat.le_of_ble_eq_true rfl) ?_
  intro p e s m below meth c ls hx hb hr hml hown hg hlocks hK hN hP hS hl
  have hown : s.vm.findClass R_H = some m.cls := hown
  have hl : lv_has ls 1 [(0, .ref (ad (129)))] := hl
  refine lv_aload_n hx hb d_H_spaces_0 rfl (lv_at hl 0 rfl) ?_
  refine g_get (C := R_H) (T := T_H) (N := 5) (ci := 3) (v := .int (M 129 4)) hx hb hg i_H hown hK hP 129 (by decide) rfl rfl 4 (by decide) (hg _ k_66) rfl d_H_spaces_1 ?_
  refine n_top (y := (nI (z))) (hz) ?_
  exact r_i hx hb hr hlocks hP hS (⟨rfl, rfl⟩) d_H_spaces_4

set_option maxHeartbeats 4000000 in
set_option maxRecDepth 100000 in
theorem c_H_spaceOfShort (l : Launch) (D : va_G) (cI cC cZ cT : ClassId) (ad : Nat → Nat) (hI : GI 144 ad) (M : PM) (n : Nat) (sp bs : Nat → Option Nat) (hH : CSp M n sp bs) (a : Nat) (ha : a < 60) : MD l D cI cC cZ cT ad y_H_spaceOfShort b_H_spaceOfShort 2 (some .int) 0 0 [.ref (ad (129)), .int (nI (a))] M (fun v M' => v = some (.int (oI (sp a))) ∧ M = M') := by
  refine MC.of (by decide) (Nat.le_of_ble_eq_true rfl) ?_
  intro p e s m below meth c ls hx hb hr hml hown hg hlocks hK hN hP hS hl
  have hown : s.vm.findClass R_H = some m.cls := hown
  have hl : lv_has ls 2 [(0, .ref (ad (129))), (1, .int (nI (a)))] := hl
  have hspn := hH.2.2.1
  have hbsn := hH.2.2.2
  refine lv_aload_n hx hb d_H_spaceOfShort_0 rfl (lv_at hl 0 rfl) ?_
  refine g_get (C := R_H) (T := T_H) (N := 5) (ci := 3) (v := .ref (ad (130))) hx hb hg i_H hown hK hP 129 (by decide) rfl rfl 1 (by decide) (hg _ k_63) rfl d_H_spaceOfShort_1 ?_
  refine lv_iload_n hx hb d_H_spaceOfShort_4 rfl (lv_at hl 1 rfl) ?_
  refine g_iald hx hb hK hP 130 0 (by decide) rfl rfl (by decide) (j := a) (by omega) d_H_spaceOfShort_5 ?_
  refine n_top (y := (oI (sp (a)))) (hH.1 (a) (by omega)) ?_
  exact r_i hx hb hr hlocks hP hS (⟨rfl, rfl⟩) d_H_spaceOfShort_6

set_option maxHeartbeats 4000000 in
set_option maxRecDepth 100000 in
theorem c_H_bestOfSpace_n (l : Launch) (D : va_G) (cI cC cZ cT : ClassId) (ad : Nat → Nat) (hI : GI 144 ad) (M : PM) : MD l D cI cC cZ cT ad y_H_bestOfSpace b_H_bestOfSpace 2 (some .int) 0 0 [.ref (ad (129)), .int (-1)] M (fun v M' => v = some (.int (oI (none))) ∧ M = M') := by
  refine MC.of (by decide) (Nat.le_of_ble_eq_true rfl) ?_
  intro p e s m below meth c ls hx hb hr hml hown hg hlocks hK hN hP hS hl
  have hown : s.vm.findClass R_H = some m.cls := hown
  have hl : lv_has ls 2 [(0, .ref (ad (129))), (1, .int (-1))] := hl
  refine lv_iload_n hx hb d_H_bestOfSpace_0 rfl (lv_at hl 1 rfl) ?_
  refine lv_iconst (v := -1) hx hb d_H_bestOfSpace_1 (by decide) ?_
  refine lv_icmp_ne (tgt := 9) hx hb d_H_bestOfSpace_2 (by decide) (fun c_2 => ?_) (fun c_2 => ?_)
  · exact absurd rfl c_2
  · refine lv_iconst (v := -1) hx hb d_H_bestOfSpace_5 (by decide) ?_
    refine lv_goto (tgt := 15) hx hb d_H_bestOfSpace_6 (by decide) ?_
    exact r_i hx hb hr hlocks hP hS (⟨rfl, rfl⟩) d_H_bestOfSpace_15

set_option maxHeartbeats 4000000 in
set_option maxRecDepth 100000 in
theorem c_H_bestOfSpace_s (l : Launch) (D : va_G) (cI cC cZ cT : ClassId) (ad : Nat → Nat) (hI : GI 144 ad) (M : PM) (n : Nat) (sp bs : Nat → Option Nat) (hH : CSp M n sp bs) (a : Nat) (ha : a < 60) : MD l D cI cC cZ cT ad y_H_bestOfSpace b_H_bestOfSpace 2 (some .int) 0 0 [.ref (ad (129)), .int (nI (a))] M (fun v M' => v = some (.int (oI (bs a))) ∧ M = M') := by
  refine MC.of (by decide) (Nat.le_of_ble_eq_true rfl) ?_
  intro p e s m below meth c ls hx hb hr hml hown hg hlocks hK hN hP hS hl
  have hown : s.vm.findClass R_H = some m.cls := hown
  have hl : lv_has ls 2 [(0, .ref (ad (129))), (1, .int (nI (a)))] := hl
  have hspn := hH.2.2.1
  have hbsn := hH.2.2.2
  refine lv_iload_n hx hb d_H_bestOfSpace_0 rfl (lv_at hl 1 rfl) ?_
  refine lv_iconst (v := -1) hx hb d_H_bestOfSpace_1 (by decide) ?_
  refine lv_icmp_ne (tgt := 9) hx hb d_H_bestOfSpace_2 (by decide) (fun c_2 => ?_) (fun c_2 => ?_)
  · refine lv_aload_n hx hb d_H_bestOfSpace_9 rfl (lv_at hl 0 rfl) ?_
    refine g_get (C := R_H) (T := T_H) (N := 5) (ci := 3) (v := .ref (ad (131))) hx hb hg i_H hown hK hP 129 (by decide) rfl rfl 2 (by decide) (hg _ k_64) rfl d_H_bestOfSpace_10 ?_
    refine lv_iload_n hx hb d_H_bestOfSpace_13 rfl (lv_at hl 1 rfl) ?_
    refine g_iald hx hb hK hP 131 0 (by decide) rfl rfl (by decide) (j := a) (by omega) d_H_bestOfSpace_14 ?_
    refine n_top (y := (oI (bs (a)))) (hH.2.1 (a) (by omega)) ?_
    exact r_i hx hb hr hlocks hP hS (⟨rfl, rfl⟩) d_H_bestOfSpace_15
  · exact absurd c_2 (nI_m1 (by omega))

set_option maxHeartbeats 4000000 in
set_option maxRecDepth 100000 in
theorem c_H_isShort (l : Launch) (D : va_G) (cI cC cZ cT : ClassId) (ad : Nat → Nat) (hI : GI 144 ad) (M : PM) (n : Nat) (len : Nat → Nat) (ch : Nat → Nat → Nat) (hN7 : CN M n len ch) (sp bs : Nat → Option Nat) (hH : CSp M n sp bs) (u : Nat) (hu : tx u) (ul : Nat) (uc : Nat → Nat) (hU : TT M u ul uc) (o : Option Nat) (ho : Fst (sameT len ch ul uc) n o) (b9 : Bool) (hb9 : b9 = true ↔ ∃ k, o = some k ∧ sp k ≠ none) : MD l D cI cC cZ cT ad y_H_isShort b_H_isShort 3 (some .boolean) 3 66 [.ref (ad (129)), .ref (ad (u))] M (fun v M' => v = some (.int (bI (b9))) ∧ M = M') := by
  refine MC.of (by decide) (Nat.le_of_ble_eq_true rfl) ?_
  intro p e s m below meth c ls hx hb hr hml hown hg hlocks hK hN hP hS hl
  have hown : s.vm.findClass R_H = some m.cls := hown
  have hl : lv_has ls 3 [(0, .ref (ad (129))), (1, .ref (ad (u)))] := hl
  have hn60 := hN7.1
  have hnm := hN7.2.2.1
  have hspn := hH.2.2.1
  have hbsn := hH.2.2.2
  have hol := ho.lt
  refine lv_aload_n hx hb d_H_isShort_0 rfl (lv_at hl 0 rfl) ?_
  refine g_get (C := R_H) (T := T_H) (N := 5) (ci := 3) (v := .ref (ad (7))) hx hb hg i_H hown hK hP 129 (by decide) rfl rfl 0 (by decide) (hg _ k_62) rfl d_H_isShort_1 ?_
  refine lv_aload_n hx hb d_H_isShort_4 rfl (lv_at hl 1 rfl) ?_
  refine c_V (own := R_H) (index := 29) (As := [.ref (ad (u))]) (rest := []) hx hb hml hown hg hK NXc.same hN.warm (fun _ h => h) hP hS 7 (c_N_find l D cI cC cZ cT ad hI M n len ch hN7 u hu ul uc hU (o) ho) (by decide) (ci := 0) rfl rfl k_507 k_334 k_335 k_3 k_336 1 rfl (by decide +kernel) (by decide) rfl hl.1 (Nat.le_of_ble_eq_true rfl) d_H_isShort_5 (fun v M' H locs hq hP _ _ hS => ?_)
  obtain ⟨rfl, rfl⟩ := hq
  refine W.eq (g2 := F0 m 8 ls [.int (oI (o))]) rfl ?_
  refine lv_istore_n (lv' := [(2, .int (oI (o))), (0, .ref (ad (129))), (1, .ref (ad (u)))]) hx hb d_H_isShort_8 rfl hl (by decide) rfl (fun ls hl => ?_)
  refine lv_iload_n hx hb d_H_isShort_9 rfl (lv_at hl 0 rfl) ?_
  refine lv_iconst (v := -1) hx hb d_H_isShort_10 (by decide) ?_
  refine oo_eq (a := o) (b := none) (tgt := 28) hx hb d_H_isShort_11 (by decide) (fun q e => by have := hol q e; omega) (ob_none) (fun c_11 => ?_) (fun c_11 => ?_)
  · have h9 : b9 = false := b_f hb9 (fun ⟨k, e, _⟩ => by rw [c_11] at e; cases e)
    refine n_const (k := 0) hx hb d_H_isShort_28 (by decide) ?_
    exact r_z hx hb hr hlocks (rfl) hP hS (⟨bz0 (h9), rfl⟩) d_H_isShort_29
  · obtain ⟨v9, hv9⟩ : ∃ v, o = some v := by
      cases e : o with
      | none => exact absurd e c_11
      | some v => exact ⟨v, rfl⟩
    rw [hv9] at hl
    have hv9n := hol v9 hv9
    have hl : lv_has ls 3 [(2, .int (nI (v9))), (0, .ref (ad (129))), (1, .ref (ad (u)))] := hl
    refine lv_aload_n hx hb d_H_isShort_14 rfl (lv_at hl 1 rfl) ?_
    refine g_get (C := R_H) (T := T_H) (N := 5) (ci := 3) (v := .ref (ad (130))) hx hb hg i_H hown hK hP 129 (by decide) rfl rfl 1 (by decide) (hg _ k_63) rfl d_H_isShort_15 ?_
    refine lv_iload_n hx hb d_H_isShort_18 rfl (lv_at hl 0 rfl) ?_
    refine g_iald hx hb hK hP 130 0 (by decide) rfl rfl (by decide) (j := v9) (by omega) d_H_isShort_19 ?_
    refine n_top (y := (oI (sp (v9)))) (hH.1 (v9) (by omega)) ?_
    refine lv_iconst (v := -1) hx hb d_H_isShort_20 (by decide) ?_
    refine oo_eq (a := sp (v9)) (b := none) (tgt := 28) hx hb d_H_isShort_21 (by decide) (fun q e => by have := hspn _ q e; omega) (ob_none) (fun c_21 => ?_) (fun c_21 => ?_)
    · have h9 : b9 = false := b_f hb9 (fun ⟨k, e, z⟩ => by rw [hv9] at e; cases e; exact z c_21)
      refine n_const (k := 0) hx hb d_H_isShort_28 (by decide) ?_
      exact r_z hx hb hr hlocks (rfl) hP hS (⟨bz0 (h9), rfl⟩) d_H_isShort_29
    · have h9 : b9 = true := hb9.mpr ⟨v9, hv9, c_21⟩
      refine n_const (k := 1) hx hb d_H_isShort_24 (by decide) ?_
      refine lv_goto (tgt := 29) hx hb d_H_isShort_25 (by decide) ?_
      exact r_z hx hb hr hlocks (rfl) hP hS (⟨bz1 (h9), rfl⟩) d_H_isShort_29

set_option maxHeartbeats 4000000 in
set_option maxRecDepth 100000 in
theorem c_H_add_n (l : Launch) (D : va_G) (cI cC cZ cT : ClassId) (ad : Nat → Nat) (hI : GI 144 ad) (M : PM) (n : Nat) (len : Nat → Nat) (ch : Nat → Nat → Nat) (hN7 : CN M n len ch) (sp bs : Nat → Option Nat) (hH : CSp M n sp bs) (z9 w9 : Nat) (hz : M 129 3 = nI z9) (hw : M 129 4 = nI w9) (hz9 : z9 < 100) (hw9 : w9 < 100) (a d9 : Nat) (ha : a < n) (hd9 : d9 < n) (hb0 : bs a = none) : MD l D cI cC cZ cT ad y_H_add b_H_add 4 none 0 0 [.ref (ad (129)), .int (nI (a)), .int (nI (d9))] M (fun v M' => v = none ∧ M' = pu (pu (pu (pu M 130 d9 (nI a)) 129 3 (nI (z9 + 1))) 129 4 (nI (w9 + 1))) 131 a (nI d9)) := by
  refine MC.of (by decide) (Nat.le_of_ble_eq_true rfl) ?_
  intro p e s m below meth c ls hx hb hr hml hown hg hlocks hK hN hP hS hl
  have hown : s.vm.findClass R_H = some m.cls := hown
  have hl : lv_has ls 4 [(0, .ref (ad (129))), (1, .int (nI (a))), (2, .int (nI (d9)))] := hl
  have hn60 := hN7.1
  have hnm := hN7.2.2.1
  have hspn := hH.2.2.1
  have hbsn := hH.2.2.2
  refine lv_aload_n hx hb d_H_add_0 rfl (lv_at hl 0 rfl) ?_
  refine g_get (C := R_H) (T := T_H) (N := 5) (ci := 3) (v := .ref (ad (130))) hx hb hg i_H hown hK hP 129 (by decide) rfl rfl 1 (by decide) (hg _ k_63) rfl d_H_add_1 ?_
  refine lv_iload_n hx hb d_H_add_4 rfl (lv_at hl 2 rfl) ?_
  refine lv_iload_n hx hb d_H_add_5 rfl (lv_at hl 1 rfl) ?_
  refine g_iast hx hb hK hI (fun _ h => h) hP hS 130 0 (by decide) (fun _ => rfl) rfl (by decide) (j := d9) (by omega) (v := (nI (a))) d_H_add_6 (fun H locs hP hS => ?_)
  obtain ⟨M_1, eM_1⟩ : ∃ z : PM, z = (pu M 130 (d9) ((nI (a)))) := ⟨_, rfl⟩
  rw [← eM_1] at hP
  refine lv_aload_n hx hb d_H_add_7 rfl (lv_at hl 0 rfl) ?_
  refine lv_dup hx hb d_H_add_8 rfl ?_
  refine g_get (C := R_H) (T := T_H) (N := 5) (ci := 3) (v := .int (M_1 129 3)) hx hb hg i_H hown hK hP 129 (by decide) rfl rfl 3 (by decide) (hg _ k_65) rfl d_H_add_9 ?_
  refine n_top (y := (nI (z9))) (by rw [eM_1, pu_k _ _ _ _ _ (by first | decide | omega)]; exact hz) ?_
  refine n_const (k := 1) hx hb d_H_add_12 (by decide) ?_
  refine n_iadd (a := z9) (b := 1) hx hb d_H_add_13 ?_
  refine g_put (C := R_H) (T := T_H) (N := 5) (ci := 3) (v := (nI ((z9) + (1)))) hx hb hg i_H ty_H t_H_ok n_H hown hK hI (fun _ h => h) hP hS 129 (by decide) rfl rfl 3 (by decide) (hg _ k_65) rfl (by decide +kernel) (Nat.le_of_ble_eq_true rfl) rfl d_H_add_14 (fun H locs hP hS => ?_)
  obtain ⟨M_2, eM_2⟩ : ∃ z : PM, z = (pu M_1 129 3 ((nI ((z9) + (1))))) := ⟨_, rfl⟩
  rw [← eM_2] at hP
  refine lv_aload_n hx hb d_H_add_17 rfl (lv_at hl 0 rfl) ?_
  refine g_get (C := R_H) (T := T_H) (N := 5) (ci := 3) (v := .ref (ad (131))) hx hb hg i_H hown hK hP 129 (by decide) rfl rfl 2 (by decide) (hg _ k_64) rfl d_H_add_18 ?_
  refine lv_iload_n hx hb d_H_add_21 rfl (lv_at hl 1 rfl) ?_
  refine g_iald hx hb hK hP 131 0 (by decide) rfl rfl (by decide) (j := a) (by omega) d_H_add_22 ?_
  refine n_top (y := (oI (bs (a)))) (by rw [eM_2, pu_k _ _ _ _ _ (by first | decide | omega), eM_1, pu_k _ _ _ _ _ (by first | decide | omega)]; exact hH.2.1 (a) (by omega)) ?_
  refine lv_istore_n (lv' := [(3, .int (oI (bs (a)))), (0, .ref (ad (129))), (1, .int (nI (a))), (2, .int (nI (d9)))]) hx hb d_H_add_23 rfl hl (by decide) rfl (fun ls hl => ?_)
  refine lv_iload_n hx hb d_H_add_24 rfl (lv_at hl 0 rfl) ?_
  refine lv_iconst (v := -1) hx hb d_H_add_25 (by decide) ?_
  refine oo_ne (a := bs (a)) (b := none) (tgt := 39) hx hb d_H_add_26 (by decide) (fun q e => by have := hbsn _ q e; omega) (ob_none) (fun c_26 => ?_) (fun c_26 => ?_)
  · exact absurd hb0 c_26
  · refine lv_aload_n hx hb d_H_add_29 rfl (lv_at hl 1 rfl) ?_
    refine lv_dup hx hb d_H_add_30 rfl ?_
    refine g_get (C := R_H) (T := T_H) (N := 5) (ci := 3) (v := .int (M_2 129 4)) hx hb hg i_H hown hK hP 129 (by decide) rfl rfl 4 (by decide) (hg _ k_66) rfl d_H_add_31 ?_
    refine n_top (y := (nI (w9))) (by rw [eM_2, pu_j _ _ _ _ _ (by first | decide | omega), eM_1, pu_k _ _ _ _ _ (by first | decide | omega)]; exact hw) ?_
    refine n_const (k := 1) hx hb d_H_add_34 (by decide) ?_
    refine n_iadd (a := w9) (b := 1) hx hb d_H_add_35 ?_
    refine g_put (C := R_H) (T := T_H) (N := 5) (ci := 3) (v := (nI ((w9) + (1)))) hx hb hg i_H ty_H t_H_ok n_H hown hK hI (fun _ h => h) hP hS 129 (by decide) rfl rfl 4 (by decide) (hg _ k_66) rfl (by decide +kernel) (Nat.le_of_ble_eq_true rfl) rfl d_H_add_36 (fun H locs hP hS => ?_)
    obtain ⟨M_3, eM_3⟩ : ∃ z : PM, z = (pu M_2 129 4 ((nI ((w9) + (1))))) := ⟨_, rfl⟩
    rw [← eM_3] at hP
    refine lv_iload_n hx hb d_H_add_39 rfl (lv_at hl 0 rfl) ?_
    refine lv_iconst (v := -1) hx hb d_H_add_40 (by decide) ?_
    refine oo_eq (a := bs (a)) (b := none) (tgt := 66) hx hb d_H_add_41 (by decide) (fun q e => by have := hbsn _ q e; omega) (ob_none) (fun c_41 => ?_) (fun c_41 => ?_)
    · refine lv_aload_n hx hb d_H_add_66 rfl (lv_at hl 1 rfl) ?_
      refine g_get (C := R_H) (T := T_H) (N := 5) (ci := 3) (v := .ref (ad (131))) hx hb hg i_H hown hK hP 129 (by decide) rfl rfl 2 (by decide) (hg _ k_64) rfl d_H_add_67 ?_
      refine lv_iload_n hx hb d_H_add_70 rfl (lv_at hl 2 rfl) ?_
      refine lv_iload_n hx hb d_H_add_71 rfl (lv_at hl 3 rfl) ?_
      refine g_iast hx hb hK hI (fun _ h => h) hP hS 131 0 (by decide) (fun _ => rfl) rfl (by decide) (j := a) (by omega) (v := (nI (d9))) d_H_add_72 (fun H locs hP hS => ?_)
      obtain ⟨M_4, eM_4⟩ : ∃ z : PM, z = (pu M_3 131 (a) ((nI (d9)))) := ⟨_, rfl⟩
      rw [← eM_4] at hP
      exact r_v hx hb hr hlocks hP hS (⟨rfl, by rw [eM_4, eM_3, eM_2, eM_1]⟩) d_H_add_73
    · exact absurd hb0 c_41

set_option maxHeartbeats 4000000 in
set_option maxRecDepth 100000 in
theorem c_H_add_b (l : Launch) (D : va_G) (cI cC cZ cT : ClassId) (ad : Nat → Nat) (hI : GI 144 ad) (M : PM) (n : Nat) (len : Nat → Nat) (ch : Nat → Nat → Nat) (hN7 : CN M n len ch) (sp bs : Nat → Option Nat) (hH : CSp M n sp bs) (z9 w9 : Nat) (hz : M 129 3 = nI z9) (hw : M 129 4 = nI w9) (hz9 : z9 < 100) (hw9 : w9 < 100) (a d9 : Nat) (ha : a < n) (hd9 : d9 < n) (b8 : Nat) (hb8 : bs a = some b8) (hbt : btS len ch d9 b8) : MD l D cI cC cZ cT ad y_H_add b_H_add 4 none 3 65 [.ref (ad (129)), .int (nI (a)), .int (nI (d9))] M (fun v M' => v = none ∧ M' = pu (pu (pu M 130 d9 (nI a)) 129 3 (nI (z9 + 1))) 131 a (nI d9)) := by
  refine MC.of (by decide) (Nat.le_of_ble_eq_true rfl) ?_
  intro p e s m below meth c ls hx hb hr hml hown hg hlocks hK hN hP hS hl
  have hown : s.vm.findClass R_H = some m.cls := hown
  have hl : lv_has ls 4 [(0, .ref (ad (129))), (1, .int (nI (a))), (2, .int (nI (d9)))] := hl
  have hn60 := hN7.1
  have hnm := hN7.2.2.1
  have hspn := hH.2.2.1
  have hbsn := hH.2.2.2
  have hb8n := (hbsn a b8 hb8).2
  refine lv_aload_n hx hb d_H_add_0 rfl (lv_at hl 0 rfl) ?_
  refine g_get (C := R_H) (T := T_H) (N := 5) (ci := 3) (v := .ref (ad (130))) hx hb hg i_H hown hK hP 129 (by decide) rfl rfl 1 (by decide) (hg _ k_63) rfl d_H_add_1 ?_
  refine lv_iload_n hx hb d_H_add_4 rfl (lv_at hl 2 rfl) ?_
  refine lv_iload_n hx hb d_H_add_5 rfl (lv_at hl 1 rfl) ?_
  refine g_iast hx hb hK hI (fun _ h => h) hP hS 130 0 (by decide) (fun _ => rfl) rfl (by decide) (j := d9) (by omega) (v := (nI (a))) d_H_add_6 (fun H locs hP hS => ?_)
  obtain ⟨M_1, eM_1⟩ : ∃ z : PM, z = (pu M 130 (d9) ((nI (a)))) := ⟨_, rfl⟩
  rw [← eM_1] at hP
  refine lv_aload_n hx hb d_H_add_7 rfl (lv_at hl 0 rfl) ?_
  refine lv_dup hx hb d_H_add_8 rfl ?_
  refine g_get (C := R_H) (T := T_H) (N := 5) (ci := 3) (v := .int (M_1 129 3)) hx hb hg i_H hown hK hP 129 (by decide) rfl rfl 3 (by decide) (hg _ k_65) rfl d_H_add_9 ?_
  refine n_top (y := (nI (z9))) (by rw [eM_1, pu_k _ _ _ _ _ (by first | decide | omega)]; exact hz) ?_
  refine n_const (k := 1) hx hb d_H_add_12 (by decide) ?_
  refine n_iadd (a := z9) (b := 1) hx hb d_H_add_13 ?_
  refine g_put (C := R_H) (T := T_H) (N := 5) (ci := 3) (v := (nI ((z9) + (1)))) hx hb hg i_H ty_H t_H_ok n_H hown hK hI (fun _ h => h) hP hS 129 (by decide) rfl rfl 3 (by decide) (hg _ k_65) rfl (by decide +kernel) (Nat.le_of_ble_eq_true rfl) rfl d_H_add_14 (fun H locs hP hS => ?_)
  obtain ⟨M_2, eM_2⟩ : ∃ z : PM, z = (pu M_1 129 3 ((nI ((z9) + (1))))) := ⟨_, rfl⟩
  rw [← eM_2] at hP
  refine lv_aload_n hx hb d_H_add_17 rfl (lv_at hl 0 rfl) ?_
  refine g_get (C := R_H) (T := T_H) (N := 5) (ci := 3) (v := .ref (ad (131))) hx hb hg i_H hown hK hP 129 (by decide) rfl rfl 2 (by decide) (hg _ k_64) rfl d_H_add_18 ?_
  refine lv_iload_n hx hb d_H_add_21 rfl (lv_at hl 1 rfl) ?_
  refine g_iald hx hb hK hP 131 0 (by decide) rfl rfl (by decide) (j := a) (by omega) d_H_add_22 ?_
  refine n_top (y := (nI (b8))) (by rw [eM_2, pu_k _ _ _ _ _ (by first | decide | omega), eM_1, pu_k _ _ _ _ _ (by first | decide | omega)]; exact by rw [hH.2.1 a (by omega), hb8]; rfl) ?_
  refine lv_istore_n (lv' := [(3, .int (nI (b8))), (0, .ref (ad (129))), (1, .int (nI (a))), (2, .int (nI (d9)))]) hx hb d_H_add_23 rfl hl (by decide) rfl (fun ls hl => ?_)
  refine lv_iload_n hx hb d_H_add_24 rfl (lv_at hl 0 rfl) ?_
  refine lv_iconst (v := -1) hx hb d_H_add_25 (by decide) ?_
  refine lv_icmp_ne (tgt := 39) hx hb d_H_add_26 (by decide) (fun c_26 => ?_) (fun c_26 => ?_)
  · refine lv_iload_n hx hb d_H_add_39 rfl (lv_at hl 0 rfl) ?_
    refine lv_iconst (v := -1) hx hb d_H_add_40 (by decide) ?_
    refine lv_icmp_eq (tgt := 66) hx hb d_H_add_41 (by decide) (fun c_41 => ?_) (fun c_41 => ?_)
    · exact absurd c_41 (nI_m1 (by omega))
    · refine lv_aload_n hx hb d_H_add_44 rfl (lv_at hl 1 rfl) ?_
      refine g_get (C := R_H) (T := T_H) (N := 5) (ci := 3) (v := .ref (ad (7))) hx hb hg i_H hown hK hP 129 (by decide) rfl rfl 0 (by decide) (hg _ k_62) rfl d_H_add_45 ?_
      refine lv_iload_n hx hb d_H_add_48 rfl (lv_at hl 3 rfl) ?_
      refine c_V (own := R_H) (index := 35) (As := [.int (nI (d9))]) (rest := []) hx hb hml hown hg hK NXc.same hN.warm (fun _ h => h) hP hS 7 (c_N_text l D cI cC cZ cT ad hI M_2 (d9) (by omega)) (by decide) (ci := 0) rfl rfl k_444 k_388 k_389 k_3 k_390 1 rfl (by decide +kernel) (by decide) rfl hl.1 (Nat.le_of_ble_eq_true rfl) d_H_add_49 (fun v M' H locs hq hP _ _ hS => ?_)
      obtain ⟨rfl, rfl⟩ := hq
      refine W.eq (g2 := F0 m 52 ls [.ref (ad (9 + 2 * (d9)))]) rfl ?_
      refine lv_aload_n hx hb d_H_add_52 rfl (lv_at hl 1 rfl) ?_
      refine g_get (C := R_H) (T := T_H) (N := 5) (ci := 3) (v := .ref (ad (7))) hx hb hg i_H hown hK hP 129 (by decide) rfl rfl 0 (by decide) (hg _ k_62) rfl d_H_add_53 ?_
      refine lv_iload_n hx hb d_H_add_56 rfl (lv_at hl 0 rfl) ?_
      refine c_V (own := R_H) (index := 35) (As := [.int (nI (b8))]) (rest := [.ref (ad (9 + 2 * (d9)))]) hx hb hml hown hg hK NXc.same hN.warm (fun _ h => h) hP hS 7 (c_N_text l D cI cC cZ cT ad hI M_2 (b8) (by omega)) (by decide) (ci := 0) rfl rfl k_444 k_388 k_389 k_3 k_390 1 rfl (by decide +kernel) (by decide) rfl hl.1 (Nat.le_of_ble_eq_true rfl) d_H_add_57 (fun v M' H locs hq hP _ _ hS => ?_)
      obtain ⟨rfl, rfl⟩ := hq
      refine W.eq (g2 := F0 m 60 ls [.ref (ad (9 + 2 * (b8))), .ref (ad (9 + 2 * (d9)))]) rfl ?_
      refine c_V (own := R_H) (index := 39) (As := [.ref (ad (9 + 2 * (b8)))]) (rest := []) hx hb hml hown hg hK NXc.same hN.warm (fun _ h => h) hP hS (9 + 2 * (d9)) (c_T_isBetterShortThan l D cI cC cZ cT ad hI M_2 (9 + 2 * d9) (txn (by omega)) (len d9) (ch d9) ((hN7.cong (fun p q h1 h2 => by rw [eM_2, pu_k _ _ _ _ _ (by omega), eM_1, pu_k _ _ _ _ _ (by omega)])).2.2.1 d9 hd9).2.2.2 (9 + 2 * b8) (txn (by omega)) (len b8) (ch b8) ((hN7.cong (fun p q h1 h2 => by rw [eM_2, pu_k _ _ _ _ _ (by omega), eM_1, pu_k _ _ _ _ _ (by omega)])).2.2.1 b8 hb8n).2.2.2 true ⟨fun _ => hbt, fun _ => rfl⟩) (tx_lt (txn (by omega))) (ci := 6) (cfC_T (txn (by omega)) _) rfl k_445 k_446 k_447 k_2 k_448 1 rfl (by decide +kernel) (by decide) rfl hl.1 (Nat.le_of_ble_eq_true rfl) d_H_add_60 (fun v M' H locs hq hP _ _ hS => ?_)
      obtain ⟨rfl, rfl⟩ := hq
      refine W.eq (g2 := F0 m 63 ls [.int (bI (true))]) rfl ?_
      refine z_eq (t := true) (tgt := 73) hx hb d_H_add_63 (by decide) (fun h9 => absurd h9 (by decide)) (fun _ => ?_)
      refine lv_aload_n hx hb d_H_add_66 rfl (lv_at hl 1 rfl) ?_
      refine g_get (C := R_H) (T := T_H) (N := 5) (ci := 3) (v := .ref (ad (131))) hx hb hg i_H hown hK hP 129 (by decide) rfl rfl 2 (by decide) (hg _ k_64) rfl d_H_add_67 ?_
      refine lv_iload_n hx hb d_H_add_70 rfl (lv_at hl 2 rfl) ?_
      refine lv_iload_n hx hb d_H_add_71 rfl (lv_at hl 3 rfl) ?_
      refine g_iast hx hb hK hI (fun _ h => h) hP hS 131 0 (by decide) (fun _ => rfl) rfl (by decide) (j := a) (by omega) (v := (nI (d9))) d_H_add_72 (fun H locs hP hS => ?_)
      obtain ⟨M_3, eM_3⟩ : ∃ z : PM, z = (pu M_2 131 (a) ((nI (d9)))) := ⟨_, rfl⟩
      rw [← eM_3] at hP
      exact r_v hx hb hr hlocks hP hS (⟨rfl, by rw [eM_3, eM_2, eM_1]⟩) d_H_add_73
  · exact absurd c_26 (nI_m1 (by omega))

set_option maxHeartbeats 4000000 in
set_option maxRecDepth 100000 in
theorem c_H_add_k (l : Launch) (D : va_G) (cI cC cZ cT : ClassId) (ad : Nat → Nat) (hI : GI 144 ad) (M : PM) (n : Nat) (len : Nat → Nat) (ch : Nat → Nat → Nat) (hN7 : CN M n len ch) (sp bs : Nat → Option Nat) (hH : CSp M n sp bs) (z9 w9 : Nat) (hz : M 129 3 = nI z9) (hw : M 129 4 = nI w9) (hz9 : z9 < 100) (hw9 : w9 < 100) (a d9 : Nat) (ha : a < n) (hd9 : d9 < n) (b8 : Nat) (hb8 : bs a = some b8) (hbt : ¬ btS len ch d9 b8) : MD l D cI cC cZ cT ad y_H_add b_H_add 4 none 3 65 [.ref (ad (129)), .int (nI (a)), .int (nI (d9))] M (fun v M' => v = none ∧ M' = pu (pu M 130 d9 (nI a)) 129 3 (nI (z9 + 1))) := by
  refine MC.of (by decide) (Nat.le_of_ble_eq_true rfl) ?_
  intro p e s m below meth c ls hx hb hr hml hown hg hlocks hK hN hP hS hl
  have hown : s.vm.findClass R_H = some m.cls := hown
  have hl : lv_has ls 4 [(0, .ref (ad (129))), (1, .int (nI (a))), (2, .int (nI (d9)))] := hl
  have hn60 := hN7.1
  have hnm := hN7.2.2.1
  have hspn := hH.2.2.1
  have hbsn := hH.2.2.2
  have hb8n := (hbsn a b8 hb8).2
  refine lv_aload_n hx hb d_H_add_0 rfl (lv_at hl 0 rfl) ?_
  refine g_get (C := R_H) (T := T_H) (N := 5) (ci := 3) (v := .ref (ad (130))) hx hb hg i_H hown hK hP 129 (by decide) rfl rfl 1 (by decide) (hg _ k_63) rfl d_H_add_1 ?_
  refine lv_iload_n hx hb d_H_add_4 rfl (lv_at hl 2 rfl) ?_
  refine lv_iload_n hx hb d_H_add_5 rfl (lv_at hl 1 rfl) ?_
  refine g_iast hx hb hK hI (fun _ h => h) hP hS 130 0 (by decide) (fun _ => rfl) rfl (by decide) (j := d9) (by omega) (v := (nI (a))) d_H_add_6 (fun H locs hP hS => ?_)
  obtain ⟨M_1, eM_1⟩ : ∃ z : PM, z = (pu M 130 (d9) ((nI (a)))) := ⟨_, rfl⟩
  rw [← eM_1] at hP
  refine lv_aload_n hx hb d_H_add_7 rfl (lv_at hl 0 rfl) ?_
  refine lv_dup hx hb d_H_add_8 rfl ?_
  refine g_get (C := R_H) (T := T_H) (N := 5) (ci := 3) (v := .int (M_1 129 3)) hx hb hg i_H hown hK hP 129 (by decide) rfl rfl 3 (by decide) (hg _ k_65) rfl d_H_add_9 ?_
  refine n_top (y := (nI (z9))) (by rw [eM_1, pu_k _ _ _ _ _ (by first | decide | omega)]; exact hz) ?_
  refine n_const (k := 1) hx hb d_H_add_12 (by decide) ?_
  refine n_iadd (a := z9) (b := 1) hx hb d_H_add_13 ?_
  refine g_put (C := R_H) (T := T_H) (N := 5) (ci := 3) (v := (nI ((z9) + (1)))) hx hb hg i_H ty_H t_H_ok n_H hown hK hI (fun _ h => h) hP hS 129 (by decide) rfl rfl 3 (by decide) (hg _ k_65) rfl (by decide +kernel) (Nat.le_of_ble_eq_true rfl) rfl d_H_add_14 (fun H locs hP hS => ?_)
  obtain ⟨M_2, eM_2⟩ : ∃ z : PM, z = (pu M_1 129 3 ((nI ((z9) + (1))))) := ⟨_, rfl⟩
  rw [← eM_2] at hP
  refine lv_aload_n hx hb d_H_add_17 rfl (lv_at hl 0 rfl) ?_
  refine g_get (C := R_H) (T := T_H) (N := 5) (ci := 3) (v := .ref (ad (131))) hx hb hg i_H hown hK hP 129 (by decide) rfl rfl 2 (by decide) (hg _ k_64) rfl d_H_add_18 ?_
  refine lv_iload_n hx hb d_H_add_21 rfl (lv_at hl 1 rfl) ?_
  refine g_iald hx hb hK hP 131 0 (by decide) rfl rfl (by decide) (j := a) (by omega) d_H_add_22 ?_
  refine n_top (y := (nI (b8))) (by rw [eM_2, pu_k _ _ _ _ _ (by first | decide | omega), eM_1, pu_k _ _ _ _ _ (by first | decide | omega)]; exact by rw [hH.2.1 a (by omega), hb8]; rfl) ?_
  refine lv_istore_n (lv' := [(3, .int (nI (b8))), (0, .ref (ad (129))), (1, .int (nI (a))), (2, .int (nI (d9)))]) hx hb d_H_add_23 rfl hl (by decide) rfl (fun ls hl => ?_)
  refine lv_iload_n hx hb d_H_add_24 rfl (lv_at hl 0 rfl) ?_
  refine lv_iconst (v := -1) hx hb d_H_add_25 (by decide) ?_
  refine lv_icmp_ne (tgt := 39) hx hb d_H_add_26 (by decide) (fun c_26 => ?_) (fun c_26 => ?_)
  · refine lv_iload_n hx hb d_H_add_39 rfl (lv_at hl 0 rfl) ?_
    refine lv_iconst (v := -1) hx hb d_H_add_40 (by decide) ?_
    refine lv_icmp_eq (tgt := 66) hx hb d_H_add_41 (by decide) (fun c_41 => ?_) (fun c_41 => ?_)
    · exact absurd c_41 (nI_m1 (by omega))
    · refine lv_aload_n hx hb d_H_add_44 rfl (lv_at hl 1 rfl) ?_
      refine g_get (C := R_H) (T := T_H) (N := 5) (ci := 3) (v := .ref (ad (7))) hx hb hg i_H hown hK hP 129 (by decide) rfl rfl 0 (by decide) (hg _ k_62) rfl d_H_add_45 ?_
      refine lv_iload_n hx hb d_H_add_48 rfl (lv_at hl 3 rfl) ?_
      refine c_V (own := R_H) (index := 35) (As := [.int (nI (d9))]) (rest := []) hx hb hml hown hg hK NXc.same hN.warm (fun _ h => h) hP hS 7 (c_N_text l D cI cC cZ cT ad hI M_2 (d9) (by omega)) (by decide) (ci := 0) rfl rfl k_444 k_388 k_389 k_3 k_390 1 rfl (by decide +kernel) (by decide) rfl hl.1 (Nat.le_of_ble_eq_true rfl) d_H_add_49 (fun v M' H locs hq hP _ _ hS => ?_)
      obtain ⟨rfl, rfl⟩ := hq
      refine W.eq (g2 := F0 m 52 ls [.ref (ad (9 + 2 * (d9)))]) rfl ?_
      refine lv_aload_n hx hb d_H_add_52 rfl (lv_at hl 1 rfl) ?_
      refine g_get (C := R_H) (T := T_H) (N := 5) (ci := 3) (v := .ref (ad (7))) hx hb hg i_H hown hK hP 129 (by decide) rfl rfl 0 (by decide) (hg _ k_62) rfl d_H_add_53 ?_
      refine lv_iload_n hx hb d_H_add_56 rfl (lv_at hl 0 rfl) ?_
      refine c_V (own := R_H) (index := 35) (As := [.int (nI (b8))]) (rest := [.ref (ad (9 + 2 * (d9)))]) hx hb hml hown hg hK NXc.same hN.warm (fun _ h => h) hP hS 7 (c_N_text l D cI cC cZ cT ad hI M_2 (b8) (by omega)) (by decide) (ci := 0) rfl rfl k_444 k_388 k_389 k_3 k_390 1 rfl (by decide +kernel) (by decide) rfl hl.1 (Nat.le_of_ble_eq_true rfl) d_H_add_57 (fun v M' H locs hq hP _ _ hS => ?_)
      obtain ⟨rfl, rfl⟩ := hq
      refine W.eq (g2 := F0 m 60 ls [.ref (ad (9 + 2 * (b8))), .ref (ad (9 + 2 * (d9)))]) rfl ?_
      refine c_V (own := R_H) (index := 39) (As := [.ref (ad (9 + 2 * (b8)))]) (rest := []) hx hb hml hown hg hK NXc.same hN.warm (fun _ h => h) hP hS (9 + 2 * (d9)) (c_T_isBetterShortThan l D cI cC cZ cT ad hI M_2 (9 + 2 * d9) (txn (by omega)) (len d9) (ch d9) ((hN7.cong (fun p q h1 h2 => by rw [eM_2, pu_k _ _ _ _ _ (by omega), eM_1, pu_k _ _ _ _ _ (by omega)])).2.2.1 d9 hd9).2.2.2 (9 + 2 * b8) (txn (by omega)) (len b8) (ch b8) ((hN7.cong (fun p q h1 h2 => by rw [eM_2, pu_k _ _ _ _ _ (by omega), eM_1, pu_k _ _ _ _ _ (by omega)])).2.2.1 b8 hb8n).2.2.2 false ⟨fun h => (by cases h), fun h => absurd h hbt⟩) (tx_lt (txn (by omega))) (ci := 6) (cfC_T (txn (by omega)) _) rfl k_445 k_446 k_447 k_2 k_448 1 rfl (by decide +kernel) (by decide) rfl hl.1 (Nat.le_of_ble_eq_true rfl) d_H_add_60 (fun v M' H locs hq hP _ _ hS => ?_)
      obtain ⟨rfl, rfl⟩ := hq
      refine W.eq (g2 := F0 m 63 ls [.int (bI (false))]) rfl ?_
      refine z_eq (t := false) (tgt := 73) hx hb d_H_add_63 (by decide) (fun _ => ?_) (fun h9 => absurd h9 (by decide))
      exact r_v hx hb hr hlocks hP hS (⟨rfl, by rw [eM_2, eM_1]⟩) d_H_add_73
  · exact absurd c_26 (nI_m1 (by omega))

set_option maxHeartbeats 4000000 in
set_option maxRecDepth 100000 in
theorem c_H_spaceOfName (l : Launch) (D : va_G) (cI cC cZ cT : ClassId) (ad : Nat → Nat) (hI : GI 144 ad) (M : PM) (n : Nat) (len : Nat → Nat) (ch : Nat → Nat → Nat) (hN7 : CN M n len ch) (sp bs : Nat → Option Nat) (hH : CSp M n sp bs) (hbsp : ∀ k, k < n → (bs k ≠ none ↔ isSp n sp k)) (a : Nat) (ha : a < n) (o : Option Nat) (hO : Best (spC n len ch sp a) len n o) : MD l D cI cC cZ cT ad y_H_spaceOfName b_H_spaceOfName 7 (some .int) 1 22 [.ref (ad (129)), .int (nI (a))] M (fun v M' => v = some (.int (oI (o))) ∧ M = M') := by
  refine MC.of (by decide) (Nat.le_of_ble_eq_true rfl) ?_
  intro p e s m below meth c ls hx hb hr hml hown hg hlocks hK hN hP hS hl
  have hown : s.vm.findClass R_H = some m.cls := hown
  have hl : lv_has ls 7 [(0, .ref (ad (129))), (1, .int (nI (a)))] := hl
  have hn60 := hN7.1
  have hnm := hN7.2.2.1
  have hspn := hH.2.2.1
  have hbsn := hH.2.2.2
  have la := hnm a ha
  have J17 : ∀ (fu17 : Nat) (k : Nat) (o1 : Option Nat) (H : Heap) (locs : List Loc) (ls : Array Slot), n - k < fu17 → (k ≤ n) → (Best (spC n len ch sp a) len k o1) → va_P D clsA (gw 144 ad (cfC cI cC cZ cT ad) M) H → va_S (GA 144 ad) s.heap H locs → lv_has ls 7 [(0, .ref (ad (129))), (2, .ref (ad (9 + 2 * (a)))), (3, .int (oI (o1))), (4, .int (nI (lnO len o1))), (5, .int (nI (k)))] → W p l e (rm_ 1 22) s m ([.ref (ad (129)), .int (nI (a))] : List Value).toArray below meth c H locs 0 0 (MQ below (GQ D 144 ad (cfC cI cC cZ cT ad) (fun v M' => v = some (.int (oI (o))) ∧ M = M')) ([.ref (ad (129)), .int (nI (a))] : List Value).toArray s 0 0 (GA 144 ad)) (F0 m 17 ls []) := by
    intro fu17
    induction fu17 with
    | zero => intro k o1 H locs ls hfu; exact absurd hfu (Nat.not_lt_zero _)
    | succ fu17 ih17 =>
      intro k o1 H locs ls hfu17 hk hB hP hS hl
      refine lv_iload hx hb d_H_spaceOfName_17 (lv_at hl 4 rfl) ?_
      refine lv_aload_n hx hb d_H_spaceOfName_19 rfl (lv_at hl 0 rfl) ?_
      refine g_get (C := R_H) (T := T_H) (N := 5) (ci := 3) (v := .ref (ad (7))) hx hb hg i_H hown hK hP 129 (by decide) rfl rfl 0 (by decide) (hg _ k_62) rfl d_H_spaceOfName_20 ?_
      refine c_V (own := R_H) (index := 45) (As := []) (rest := [.int (nI (k))]) hx hb hml hown hg hK NXc.same hN.warm (fun _ h => h) hP hS 7 (c_N_size l D cI cC cZ cT ad hI M n len ch hN7) (by decide) (ci := 0) rfl rfl k_461 k_462 k_463 k_3 k_464 0 rfl (by decide +kernel) (by decide) rfl hl.1 (Nat.le_of_ble_eq_true rfl) d_H_spaceOfName_23 (fun v M' H locs hq hP _ _ hS => ?_)
      obtain ⟨rfl, rfl⟩ := hq
      refine W.eq (g2 := F0 m 26 ls [.int (nI (n)), .int (nI (k))]) rfl ?_
      refine n_ge (a := k) (b := n) (tgt := 86) hx hb d_H_spaceOfName_26 (by decide) (by omega) (by omega) (fun c_26 => ?_) (fun c_26 => ?_)
      · refine lv_iload_n hx hb d_H_spaceOfName_86 rfl (lv_at hl 2 rfl) ?_
        exact r_i hx hb hr hlocks hP hS (⟨by rw [hO.uniq (o' := o1) (by have e9 : k = n := (by omega); rw [e9] at hB; exact hB)], rfl⟩) d_H_spaceOfName_87
      · obtain ⟨t1, ht1⟩ : ∃ t : Bool, t = true ↔ (len k < len a ∧ ∀ i, i < len k → ch a i = ch k i) := bex _
        have hlk := hnm k (by omega)
        have hlo : lnO len o1 ≤ 24 := by
          cases e : o1 with
          | none => exact Nat.zero_le _
          | some b => have := hB.lt b e; exact (hnm b (by omega)).2.1
        refine lv_aload_n hx hb d_H_spaceOfName_29 rfl (lv_at hl 0 rfl) ?_
        refine g_get (C := R_H) (T := T_H) (N := 5) (ci := 3) (v := .ref (ad (7))) hx hb hg i_H hown hK hP 129 (by decide) rfl rfl 0 (by decide) (hg _ k_62) rfl d_H_spaceOfName_30 ?_
        refine lv_iload hx hb d_H_spaceOfName_33 (lv_at hl 4 rfl) ?_
        refine c_V (own := R_H) (index := 35) (As := [.int (nI (k))]) (rest := []) hx hb hml hown hg hK NXc.same hN.warm (fun _ h => h) hP hS 7 (c_N_text l D cI cC cZ cT ad hI M (k) (by omega)) (by decide) (ci := 0) rfl rfl k_444 k_388 k_389 k_3 k_390 1 rfl (by decide +kernel) (by decide) rfl hl.1 (Nat.le_of_ble_eq_true rfl) d_H_spaceOfName_35 (fun v M' H locs hq hP _ _ hS => ?_)
        obtain ⟨rfl, rfl⟩ := hq
        refine W.eq (g2 := F0 m 38 ls [.ref (ad (9 + 2 * (k)))]) rfl ?_
        refine lv_astore (lv' := [(6, .ref (ad (9 + 2 * (k)))), (0, .ref (ad (129))), (2, .ref (ad (9 + 2 * (a)))), (3, .int (oI (o1))), (4, .int (nI (lnO len o1))), (5, .int (nI (k)))]) hx hb d_H_spaceOfName_38 hl (by decide) rfl (fun ls hl => ?_)
        refine lv_aload_n hx hb d_H_spaceOfName_40 rfl (lv_at hl 1 rfl) ?_
        refine g_get (C := R_H) (T := T_H) (N := 5) (ci := 3) (v := .ref (ad (131))) hx hb hg i_H hown hK hP 129 (by decide) rfl rfl 2 (by decide) (hg _ k_64) rfl d_H_spaceOfName_41 ?_
        refine lv_iload hx hb d_H_spaceOfName_44 (lv_at hl 5 rfl) ?_
        refine g_iald hx hb hK hP 131 0 (by decide) rfl rfl (by decide) (j := k) (by omega) d_H_spaceOfName_46 ?_
        refine n_top (y := (oI (bs (k)))) (hH.2.1 (k) (by omega)) ?_
        refine lv_iconst (v := -1) hx hb d_H_spaceOfName_47 (by decide) ?_
        refine oo_eq (a := bs (k)) (b := none) (tgt := 80) hx hb d_H_spaceOfName_48 (by decide) (fun q e => by have := hbsn _ q e; omega) (ob_none) (fun c_48 => ?_) (fun c_48 => ?_)
        · have hB9 : Best (spC n len ch sp a) len (k + 1) o1 := hB.skip (fun h => (hbsp k (by omega)).mpr h.2 c_48)
          refine n_inc (lv' := [(5, .int (nI (k + 1))), (6, .ref (ad (9 + 2 * (k)))), (0, .ref (ad (129))), (2, .ref (ad (9 + 2 * (a)))), (3, .int (oI (o1))), (4, .int (nI (lnO len o1)))]) hx hb d_H_spaceOfName_80 hl (k := 5) rfl (by decide) rfl (fun ls hl => ?_)
          refine lv_goto (tgt := 17) hx hb d_H_spaceOfName_83 (by decide) ?_
          exact ih17 (k + 1) (o1) _ _ ls (by omega) (by omega) (hB9) hP hS (lv_sub hl [2, 3, 4, 5, 0] rfl)
        · refine lv_aload hx hb d_H_spaceOfName_51 (lv_at hl 0 rfl) ?_
          refine c_V (own := R_H) (index := 48) (As := []) (rest := []) hx hb hml hown hg hK NXc.same hN.warm (fun _ h => h) hP hS (9 + 2 * (k)) (c_T_length l D cI cC cZ cT ad hI M (9 + 2 * k) (txn (by omega)) (len k) (ch k) (hnm k (by omega)).2.2.2) (tx_lt (txn (by omega))) (ci := 6) (cfC_T (txn (by omega)) _) rfl k_465 k_180 k_181 k_2 k_182 0 rfl (by decide +kernel) (by decide) rfl hl.1 (Nat.le_of_ble_eq_true rfl) d_H_spaceOfName_53 (fun v M' H locs hq hP _ _ hS => ?_)
          obtain ⟨rfl, rfl⟩ := hq
          refine W.eq (g2 := F0 m 56 ls [.int (nI (len k))]) rfl ?_
          refine lv_iload hx hb d_H_spaceOfName_56 (lv_at hl 4 rfl) ?_
          refine n_le (a := len k) (b := lnO len o1) (tgt := 80) hx hb d_H_spaceOfName_58 (by decide) (by omega) (by omega) (fun c_58 => ?_) (fun c_58 => ?_)
          · have hB9 : Best (spC n len ch sp a) len (k + 1) o1 := by
              cases e : o1 with
              | none => rw [e] at c_58; have : lnO len none = 0 := rfl; omega
              | some b => rw [e] at hB c_58; exact hB.stay c_58
            refine n_inc (lv' := [(5, .int (nI (k + 1))), (6, .ref (ad (9 + 2 * (k)))), (0, .ref (ad (129))), (2, .ref (ad (9 + 2 * (a)))), (3, .int (oI (o1))), (4, .int (nI (lnO len o1)))]) hx hb d_H_spaceOfName_80 hl (k := 5) rfl (by decide) rfl (fun ls hl => ?_)
            refine lv_goto (tgt := 17) hx hb d_H_spaceOfName_83 (by decide) ?_
            exact ih17 (k + 1) (o1) _ _ ls (by omega) (by omega) (hB9) hP hS (lv_sub hl [2, 3, 4, 5, 0] rfl)
          · refine lv_aload_n hx hb d_H_spaceOfName_61 rfl (lv_at hl 2 rfl) ?_
            refine lv_aload hx hb d_H_spaceOfName_62 (lv_at hl 0 rfl) ?_
            refine c_V (own := R_H) (index := 51) (As := [.ref (ad (9 + 2 * (k)))]) (rest := []) hx hb hml hown hg hK NXc.same hN.warm (fun _ h => h) hP hS (9 + 2 * (a)) (c_T_goesOnBehind l D cI cC cZ cT ad hI M (9 + 2 * a) (txn (by omega)) (len a) (ch a) la.2.2.2 (9 + 2 * k) (txn (by omega)) (len k) (ch k) (hnm k (by omega)).2.2.2 t1 ht1) (tx_lt (txn (by omega))) (ci := 6) (cfC_T (txn (by omega)) _) rfl k_466 k_467 k_468 k_2 k_469 1 rfl (by decide +kernel) (by decide) rfl hl.1 (Nat.le_of_ble_eq_true rfl) d_H_spaceOfName_64 (fun v M' H locs hq hP _ _ hS => ?_)
            obtain ⟨rfl, rfl⟩ := hq
            refine W.eq (g2 := F0 m 67 ls [.int (bI (t1))]) rfl ?_
            refine z_eq (t := t1) (tgt := 80) hx hb d_H_spaceOfName_67 (by decide) (fun c_67 => ?_) (fun c_67 => ?_)
            · have hB9 : Best (spC n len ch sp a) len (k + 1) o1 := hB.skip (fun h => by have := ht1.mpr h.1; rw [c_67] at this; cases this)
              refine n_inc (lv' := [(5, .int (nI (k + 1))), (6, .ref (ad (9 + 2 * (k)))), (0, .ref (ad (129))), (2, .ref (ad (9 + 2 * (a)))), (3, .int (oI (o1))), (4, .int (nI (lnO len o1)))]) hx hb d_H_spaceOfName_80 hl (k := 5) rfl (by decide) rfl (fun ls hl => ?_)
              refine lv_goto (tgt := 17) hx hb d_H_spaceOfName_83 (by decide) ?_
              exact ih17 (k + 1) (o1) _ _ ls (by omega) (by omega) (hB9) hP hS (lv_sub hl [2, 3, 4, 5, 0] rfl)
            · have hB9 : Best (spC n len ch sp a) len (k + 1) (some k) := hB.take ⟨ht1.mp c_67, (hbsp k (by omega)).mp c_48⟩ (fun b e => by rw [e] at c_58; exact c_58)
              refine lv_iload hx hb d_H_spaceOfName_70 (lv_at hl 5 rfl) ?_
              refine lv_istore_n (lv' := [(3, .int (nI (k))), (6, .ref (ad (9 + 2 * (k)))), (0, .ref (ad (129))), (2, .ref (ad (9 + 2 * (a)))), (4, .int (nI (lnO len o1))), (5, .int (nI (k)))]) hx hb d_H_spaceOfName_72 rfl hl (by decide) rfl (fun ls hl => ?_)
              refine lv_aload hx hb d_H_spaceOfName_73 (lv_at hl 1 rfl) ?_
              refine c_V (own := R_H) (index := 48) (As := []) (rest := []) hx hb hml hown hg hK NXc.same hN.warm (fun _ h => h) hP hS (9 + 2 * (k)) (c_T_length l D cI cC cZ cT ad hI M (9 + 2 * k) (txn (by omega)) (len k) (ch k) (hnm k (by omega)).2.2.2) (tx_lt (txn (by omega))) (ci := 6) (cfC_T (txn (by omega)) _) rfl k_465 k_180 k_181 k_2 k_182 0 rfl (by decide +kernel) (by decide) rfl hl.1 (Nat.le_of_ble_eq_true rfl) d_H_spaceOfName_75 (fun v M' H locs hq hP _ _ hS => ?_)
              obtain ⟨rfl, rfl⟩ := hq
              refine W.eq (g2 := F0 m 78 ls [.int (nI (len k))]) rfl ?_
              refine lv_istore (lv' := [(4, .int (nI (len k))), (3, .int (nI (k))), (6, .ref (ad (9 + 2 * (k)))), (0, .ref (ad (129))), (2, .ref (ad (9 + 2 * (a)))), (5, .int (nI (k)))]) hx hb d_H_spaceOfName_78 hl (by decide) rfl (fun ls hl => ?_)
              refine n_inc (lv' := [(5, .int (nI (k + 1))), (4, .int (nI (len k))), (3, .int (nI (k))), (6, .ref (ad (9 + 2 * (k)))), (0, .ref (ad (129))), (2, .ref (ad (9 + 2 * (a))))]) hx hb d_H_spaceOfName_80 hl (k := 5) rfl (by decide) rfl (fun ls hl => ?_)
              refine lv_goto (tgt := 17) hx hb d_H_spaceOfName_83 (by decide) ?_
              exact ih17 (k + 1) (some (k)) _ _ ls (by omega) (by omega) (hB9) hP hS (lv_sub hl [4, 5, 2, 1, 0] rfl)
  refine lv_aload_n hx hb d_H_spaceOfName_0 rfl (lv_at hl 0 rfl) ?_
  refine g_get (C := R_H) (T := T_H) (N := 5) (ci := 3) (v := .ref (ad (7))) hx hb hg i_H hown hK hP 129 (by decide) rfl rfl 0 (by decide) (hg _ k_62) rfl d_H_spaceOfName_1 ?_
  refine lv_iload_n hx hb d_H_spaceOfName_4 rfl (lv_at hl 1 rfl) ?_
  refine c_V (own := R_H) (index := 35) (As := [.int (nI (a))]) (rest := []) hx hb hml hown hg hK NXc.same hN.warm (fun _ h => h) hP hS 7 (c_N_text l D cI cC cZ cT ad hI M (a) (by omega)) (by decide) (ci := 0) rfl rfl k_444 k_388 k_389 k_3 k_390 1 rfl (by decide +kernel) (by decide) rfl hl.1 (Nat.le_of_ble_eq_true rfl) d_H_spaceOfName_5 (fun v M' H locs hq hP _ _ hS => ?_)
  obtain ⟨rfl, rfl⟩ := hq
  refine W.eq (g2 := F0 m 8 ls [.ref (ad (9 + 2 * (a)))]) rfl ?_
  refine lv_astore_n (lv' := [(2, .ref (ad (9 + 2 * (a)))), (0, .ref (ad (129))), (1, .int (nI (a)))]) hx hb d_H_spaceOfName_8 rfl hl (by decide) rfl (fun ls hl => ?_)
  refine lv_iconst (v := -1) hx hb d_H_spaceOfName_9 (by decide) ?_
  refine lv_istore_n (lv' := [(3, .int (-1)), (2, .ref (ad (9 + 2 * (a)))), (0, .ref (ad (129))), (1, .int (nI (a)))]) hx hb d_H_spaceOfName_10 rfl hl (by decide) rfl (fun ls hl => ?_)
  refine n_const (k := 0) hx hb d_H_spaceOfName_11 (by decide) ?_
  refine lv_istore (lv' := [(4, .int (nI (0))), (3, .int (-1)), (2, .ref (ad (9 + 2 * (a)))), (0, .ref (ad (129))), (1, .int (nI (a)))]) hx hb d_H_spaceOfName_12 hl (by decide) rfl (fun ls hl => ?_)
  refine n_const (k := 0) hx hb d_H_spaceOfName_14 (by decide) ?_
  refine lv_istore (lv' := [(5, .int (nI (0))), (4, .int (nI (0))), (3, .int (-1)), (2, .ref (ad (9 + 2 * (a)))), (0, .ref (ad (129))), (1, .int (nI (a)))]) hx hb d_H_spaceOfName_15 hl (by decide) rfl (fun ls hl => ?_)
  exact J17 (_ + 1) (0) (none) _ _ ls (Nat.lt_succ_self _) (by omega) (fun k h => absurd h (Nat.not_lt_zero k)) hP hS (lv_sub hl [4, 3, 2, 1, 0] rfl)
