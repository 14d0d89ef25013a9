set_option maxHeartbeats 4000000 in
set_option maxRecDepth 100000 in
theorem c_C_isSmallLetter (l : Launch) (D : va_G) (cI cC cZ cT : ClassId) (ad : Nat → Nat) (hI : GI 144 ad) (M : PM) (c9 : Nat) (hc9 : c9 < 128) (b9 : Bool) (hb9 : b9 = true ↔ (97 ≤ c9 ∧ c9 ≤ 122)) : MD l D cI cC cZ cT ad y_C_isSmallLetter b_C_isSmallLetter 1 (some .boolean) 0 0 [.int (nI (c9))] M (fun v M' => v = some (.int (bI (b9))) ∧ M = M') := by
  refine MC.of (by decide) (Nat.le_of_ble_eq_true rfl) ?_
  intro p e s m below meth c ls hx hb hr hml hown hg hlocks hK hN hP hS hl
  have hown : s.vm.findClass R_C = some m.cls := hown
  have hl : lv_has ls 1 [(0, .int (nI (c9)))] := hl
  refine lv_iload_n hx hb d_C_isSmallLetter_0 rfl (lv_at hl 0 rfl) ?_
  refine n_bipush (k := 97) hx hb d_C_isSmallLetter_1 (by decide) ?_
  refine n_lt (a := c9) (b := 97) (tgt := 16) hx hb d_C_isSmallLetter_3 (by decide) (by omega) (by omega) (fun c_3 => ?_) (fun c_3 => ?_)
  · refine n_const (k := 0) hx hb d_C_isSmallLetter_16 (by decide) ?_
    exact r_z hx hb hr hlocks (rfl) hP hS (⟨bz0 (by first | exact hb9.mpr (by omega) | exact b_f hb9 (by omega)), rfl⟩) d_C_isSmallLetter_17
  · refine lv_iload_n hx hb d_C_isSmallLetter_6 rfl (lv_at hl 0 rfl) ?_
    refine n_bipush (k := 122) hx hb d_C_isSmallLetter_7 (by decide) ?_
    refine n_gt (a := c9) (b := 122) (tgt := 16) hx hb d_C_isSmallLetter_9 (by decide) (by omega) (by omega) (fun c_9 => ?_) (fun c_9 => ?_)
    · refine n_const (k := 0) hx hb d_C_isSmallLetter_16 (by decide) ?_
      exact r_z hx hb hr hlocks (rfl) hP hS (⟨bz0 (by first | exact hb9.mpr (by omega) | exact b_f hb9 (by omega)), rfl⟩) d_C_isSmallLetter_17
    · refine n_const (k := 1) hx hb d_C_isSmallLetter_12 (by decide) ?_
      refine lv_goto (tgt := 17) hx hb d_C_isSmallLetter_13 (by decide) ?_
      exact r_z hx hb hr hlocks (rfl) hP hS (⟨bz1 (by first | exact hb9.mpr (by omega) | exact b_f hb9 (by omega)), rfl⟩) d_C_isSmallLetter_17

set_option maxHeartbeats 4000000 in
set_option maxRecDepth 100000 in
theorem c_C_isGreatLetter (l : Launch) (D : va_G) (cI cC cZ cT : ClassId) (ad : Nat → Nat) (hI : GI 144 ad) (M : PM) (c9 : Nat) (hc9 : c9 < 128) (b9 : Bool) (hb9 : b9 = true ↔ (65 ≤ c9 ∧ c9 ≤ 90)) : MD l D cI cC cZ cT ad y_C_isGreatLetter b_C_isGreatLetter 1 (some .boolean) 0 0 [.int (nI (c9))] M (fun v M' => v = some (.int (bI (b9))) ∧ M = M') := by
  refine MC.of (by decide) (Nat.le_of_ble_eq_true rfl) ?_
  intro p e s m below meth c ls hx hb hr hml hown hg hlocks hK hN hP hS hl
  have hown : s.vm.findClass R_C = some m.cls := hown
  have hl : lv_has ls 1 [(0, .int (nI (c9)))] := hl
  refine lv_iload_n hx hb d_C_isGreatLetter_0 rfl (lv_at hl 0 rfl) ?_
  refine n_bipush (k := 65) hx hb d_C_isGreatLetter_1 (by decide) ?_
  refine n_lt (a := c9) (b := 65) (tgt := 16) hx hb d_C_isGreatLetter_3 (by decide) (by omega) (by omega) (fun c_3 => ?_) (fun c_3 => ?_)
  · refine n_const (k := 0) hx hb d_C_isGreatLetter_16 (by decide) ?_
    exact r_z hx hb hr hlocks (rfl) hP hS (⟨bz0 (by first | exact hb9.mpr (by omega) | exact b_f hb9 (by omega)), rfl⟩) d_C_isGreatLetter_17
  · refine lv_iload_n hx hb d_C_isGreatLetter_6 rfl (lv_at hl 0 rfl) ?_
    refine n_bipush (k := 90) hx hb d_C_isGreatLetter_7 (by decide) ?_
    refine n_gt (a := c9) (b := 90) (tgt := 16) hx hb d_C_isGreatLetter_9 (by decide) (by omega) (by omega) (fun c_9 => ?_) (fun c_9 => ?_)
    · refine n_const (k := 0) hx hb d_C_isGreatLetter_16 (by decide) ?_
      exact r_z hx hb hr hlocks (rfl) hP hS (⟨bz0 (by first | exact hb9.mpr (by omega) | exact b_f hb9 (by omega)), rfl⟩) d_C_isGreatLetter_17
    · refine n_const (k := 1) hx hb d_C_isGreatLetter_12 (by decide) ?_
      refine lv_goto (tgt := 17) hx hb d_C_isGreatLetter_13 (by decide) ?_
      exact r_z hx hb hr hlocks (rfl) hP hS (⟨bz1 (by first | exact hb9.mpr (by omega) | exact b_f hb9 (by omega)), rfl⟩) d_C_isGreatLetter_17

set_option maxHeartbeats 4000000 in
set_option maxRecDepth 100000 in
theorem c_C_isDigit (l : Launch) (D : va_G) (cI cC cZ cT : ClassId) (ad : Nat → Nat) (hI : GI 144 ad) (M : PM) (c9 : Nat) (hc9 : c9 < 128) (b9 : Bool) (hb9 : b9 = true ↔ (48 ≤ c9 ∧ c9 ≤ 57)) : MD l D cI cC cZ cT ad y_C_isDigit b_C_isDigit 1 (some .boolean) 0 0 [.int (nI (c9))] M (fun v M' => v = some (.int (bI (b9))) ∧ M = M') := by
  refine MC.of (by decide) (Nat.le_of_ble_eq_true rfl) ?_
  intro p e s m below meth c ls hx hb hr hml hown hg hlocks hK hN hP hS hl
  have hown : s.vm.findClass R_C = some m.cls := hown
  have hl : lv_has ls 1 [(0, .int (nI (c9)))] := hl
  refine lv_iload_n hx hb d_C_isDigit_0 rfl (lv_at hl 0 rfl) ?_
  refine n_bipush (k := 48) hx hb d_C_isDigit_1 (by decide) ?_
  refine n_lt (a := c9) (b := 48) (tgt := 16) hx hb d_C_isDigit_3 (by decide) (by omega) (by omega) (fun c_3 => ?_) (fun c_3 => ?_)
  · refine n_const (k := 0) hx hb d_C_isDigit_16 (by decide) ?_
    exact r_z hx hb hr hlocks (rfl) hP hS (⟨bz0 (by first | exact hb9.mpr (by omega) | exact b_f hb9 (by omega)), rfl⟩) d_C_isDigit_17
  · refine lv_iload_n hx hb d_C_isDigit_6 rfl (lv_at hl 0 rfl) ?_
    refine n_bipush (k := 57) hx hb d_C_isDigit_7 (by decide) ?_
    refine n_gt (a := c9) (b := 57) (tgt := 16) hx hb d_C_isDigit_9 (by decide) (by omega) (by omega) (fun c_9 => ?_) (fun c_9 => ?_)
    · refine n_const (k := 0) hx hb d_C_isDigit_16 (by decide) ?_
      exact r_z hx hb hr hlocks (rfl) hP hS (⟨bz0 (by first | exact hb9.mpr (by omega) | exact b_f hb9 (by omega)), rfl⟩) d_C_isDigit_17
    · refine n_const (k := 1) hx hb d_C_isDigit_12 (by decide) ?_
      refine lv_goto (tgt := 17) hx hb d_C_isDigit_13 (by decide) ?_
      exact r_z hx hb hr hlocks (rfl) hP hS (⟨bz1 (by first | exact hb9.mpr (by omega) | exact b_f hb9 (by omega)), rfl⟩) d_C_isDigit_17

set_option maxHeartbeats 4000000 in
set_option maxRecDepth 100000 in
theorem c_C_isLetter (l : Launch) (D : va_G) (cI cC cZ cT : ClassId) (ad : Nat → Nat) (hI : GI 144 ad) (M : PM) (c9 : Nat) (hc9 : c9 < 128) (b9 : Bool) (hb9 : b9 = true ↔ ((97 ≤ c9 ∧ c9 ≤ 122) ∨ (65 ≤ c9 ∧ c9 ≤ 90))) : MD l D cI cC cZ cT ad y_C_isLetter b_C_isLetter 1 (some .boolean) 1 20 [.int (nI (c9))] M (fun v M' => v = some (.int (bI (b9))) ∧ M = M') := by
  refine MC.of (by decide) (Nat.le_of_ble_eq_true rfl) ?_
  intro p e s m below meth c ls hx hb hr hml hown hg hlocks hK hN hP hS hl
  have hown : s.vm.findClass R_C = some m.cls := hown
  have hl : lv_has ls 1 [(0, .int (nI (c9)))] := hl
  refine lv_iload_n hx hb d_C_isLetter_0 rfl (lv_at hl 0 rfl) ?_
  refine c_S (own := R_C) (index := 329) (As := [.int (nI (c9))]) (rest := []) hx hb hml hown hg hK NXc.same hN.warm (fun _ h => h) hP hS (c_C_isSmallLetter l D cI cC cZ cT ad hI M (c9) (by omega) (decide (97 ≤ c9 ∧ c9 ≤ 122)) decide_eq_true_iff) rfl k_495 k_430 k_1 k_431 1 rfl (by decide +kernel) (by decide) rfl hl.1 (Nat.le_of_ble_eq_true rfl) d_C_isLetter_1 (fun v M' H locs hq hP _ _ hS => ?_)
  obtain ⟨rfl, rfl⟩ := hq
  refine W.eq (g2 := F0 m 4 ls [.int (bI (decide (97 ≤ c9 ∧ c9 ≤ 122)))]) rfl ?_
  refine z_ne (t := decide (97 ≤ c9 ∧ c9 ≤ 122)) (tgt := 14) hx hb d_C_isLetter_4 (by decide) (fun c_4 => ?_) (fun c_4 => ?_)
  · refine n_const (k := 1) hx hb d_C_isLetter_14 (by decide) ?_
    refine lv_goto (tgt := 19) hx hb d_C_isLetter_15 (by decide) ?_
    exact r_z hx hb hr hlocks (rfl) hP hS (⟨bz1 (by simp only [decide_eq_true_eq, decide_eq_false_iff_not] at *; first | exact hb9.mpr (by omega) | exact b_f hb9 (by omega)), rfl⟩) d_C_isLetter_19
  · refine lv_iload_n hx hb d_C_isLetter_7 rfl (lv_at hl 0 rfl) ?_
    refine c_S (own := R_C) (index := 332) (As := [.int (nI (c9))]) (rest := []) hx hb hml hown hg hK NXc.same hN.warm (fun _ h => h) hP hS (c_C_isGreatLetter l D cI cC cZ cT ad hI M (c9) (by omega) (decide (65 ≤ c9 ∧ c9 ≤ 90)) decide_eq_true_iff) rfl k_496 k_497 k_1 k_498 1 rfl (by decide +kernel) (by decide) rfl hl.1 (Nat.le_of_ble_eq_true rfl) d_C_isLetter_8 (fun v M' H locs hq hP _ _ hS => ?_)
    obtain ⟨rfl, rfl⟩ := hq
    refine W.eq (g2 := F0 m 11 ls [.int (bI (decide (65 ≤ c9 ∧ c9 ≤ 90)))]) rfl ?_
    refine z_eq (t := decide (65 ≤ c9 ∧ c9 ≤ 90)) (tgt := 18) hx hb d_C_isLetter_11 (by decide) (fun c_11 => ?_) (fun c_11 => ?_)
    · refine n_const (k := 0) hx hb d_C_isLetter_18 (by decide) ?_
      exact r_z hx hb hr hlocks (rfl) hP hS (⟨bz0 (by simp only [decide_eq_true_eq, decide_eq_false_iff_not] at *; first | exact hb9.mpr (by omega) | exact b_f hb9 (by omega)), rfl⟩) d_C_isLetter_19
    · refine n_const (k := 1) hx hb d_C_isLetter_14 (by decide) ?_
      refine lv_goto (tgt := 19) hx hb d_C_isLetter_15 (by decide) ?_
      exact r_z hx hb hr hlocks (rfl) hP hS (⟨bz1 (by simp only [decide_eq_true_eq, decide_eq_false_iff_not] at *; first | exact hb9.mpr (by omega) | exact b_f hb9 (by omega)), rfl⟩) d_C_isLetter_19

set_option maxHeartbeats 4000000 in
set_option maxRecDepth 100000 in
theorem c_C_small (l : Launch) (D : va_G) (cI cC cZ cT : ClassId) (ad : Nat → Nat) (hI : GI 144 ad) (M : PM) (c9 : Nat) (hc9 : c9 < 128) : MD l D cI cC cZ cT ad y_C_small b_C_small 1 (some .char) 1 20 [.int (nI (c9))] M (fun v M' => v = some (.int (nI (if 65 ≤ c9 ∧ c9 ≤ 90 then c9 + 32 else c9))) ∧ M = M') := by
  refine MC.of (by decide) (Nat.le_of_ble_eq_true rfl) ?_
  intro p e s m below meth c ls hx hb hr hml hown hg hlocks hK hN hP hS hl
  have hown : s.vm.findClass R_C = some m.cls := hown
  have hl : lv_has ls 1 [(0, .int (nI (c9)))] := hl
  refine lv_iload_n hx hb d_C_small_0 rfl (lv_at hl 0 rfl) ?_
  refine c_S (own := R_C) (index := 332) (As := [.int (nI (c9))]) (rest := []) hx hb hml hown hg hK NXc.same hN.warm (fun _ h => h) hP hS (c_C_isGreatLetter l D cI cC cZ cT ad hI M (c9) (by omega) (decide (65 ≤ c9 ∧ c9 ≤ 90)) decide_eq_true_iff) rfl k_496 k_497 k_1 k_498 1 rfl (by decide +kernel) (by decide) rfl hl.1 (Nat.le_of_ble_eq_true rfl) d_C_small_1 (fun v M' H locs hq hP _ _ hS => ?_)
  obtain ⟨rfl, rfl⟩ := hq
  refine W.eq (g2 := F0 m 4 ls [.int (bI (decide (65 ≤ c9 ∧ c9 ≤ 90)))]) rfl ?_
  refine z_eq (t := decide (65 ≤ c9 ∧ c9 ≤ 90)) (tgt := 18) hx hb d_C_small_4 (by decide) (fun c_4 => ?_) (fun c_4 => ?_)
  · refine lv_iload_n hx hb d_C_small_18 rfl (lv_at hl 0 rfl) ?_
    exact r_z hx hb hr hlocks ((pk_charN (by omega)).1) hP hS (⟨by first | rw [if_neg (of_decide_eq_false c_4)] | (rw [if_pos (of_decide_eq_true c_4), show c9 - 65 + 97 = c9 + 32 by omega]), rfl⟩) d_C_small_19
  · have c4 := of_decide_eq_true c_4
    refine lv_iload_n hx hb d_C_small_7 rfl (lv_at hl 0 rfl) ?_
    refine n_bipush (k := 65) hx hb d_C_small_8 (by decide) ?_
    refine n_isub (a := c9) (b := 65) hx hb d_C_small_10 (by omega) ?_
    refine n_bipush (k := 97) hx hb d_C_small_11 (by decide) ?_
    refine n_iadd (a := (c9) - (65)) (b := 97) hx hb d_C_small_13 ?_
    refine lv_i2c (v := nI (((c9) - (65)) + (97))) hx hb d_C_small_14 (nb16 _ (by omega)) ?_
    refine lv_goto (tgt := 19) hx hb d_C_small_15 (by decide) ?_
    exact r_z hx hb hr hlocks ((pk_charN (by omega)).1) hP hS (⟨by first | rw [if_neg (of_decide_eq_false c_4)] | (rw [if_pos (of_decide_eq_true c_4), show c9 - 65 + 97 = c9 + 32 by omega]), rfl⟩) d_C_small_19

set_option maxHeartbeats 4000000 in
set_option maxRecDepth 100000 in
theorem c_T_putPart (l : Launch) (D : va_G) (cI cC cZ cT : ClassId) (ad : Nat → Nat) (hI : GI 144 ad) (M : PM) (t : Nat) (ht : tx t) (sl : Nat) (sc : Nat → Nat) (hT : TT M t sl sc) (u : Nat) (hu : tx u) (ul : Nat) (uc : Nat → Nat) (hU : TT M u ul uc) (a b9 : Nat) (hab : a ≤ b9) (hbu : b9 ≤ ul) (hne : u ≠ t) (hroom : sl + (b9 - a) ≤ capT t) (hcp : ∀ i, a ≤ i → i < b9 → sc (sl + (i - a)) = uc i) : MD l D cI cC cZ cT ad y_T_putPart b_T_putPart 5 none 1 21 [.ref (ad (t)), .ref (ad (u)), .int (nI (a)), .int (nI (b9))] M (fun v M' => v = none ∧ TT M' t (sl + (b9 - a)) sc ∧ FT t M M') := by
  refine MC.of (by decide) (Nat.le_of_ble_eq_true rfl) ?_
  intro p e s m below meth c ls hx hb hr hml hown hg hlocks hK hN hP hS hl
  have hown : s.vm.findClass R_T = some m.cls := hown
  have hl : lv_has ls 5 [(0, .ref (ad (t))), (1, .ref (ad (u))), (2, .int (nI (a))), (3, .int (nI (b9)))] := hl
  have hcap := hT.1
  have hc49 := capT_24 t
  have hcau := hU.1
  have hcu49 := capT_24 u
  have J3 : ∀ (fu3 : Nat) (i : Nat) (M1 : PM) (H : Heap) (locs : List Loc) (ls : Array Slot), b9 - i < fu3 → (a ≤ i) → (i ≤ b9) → (TT M1 t (sl + (i - a)) sc) → (FT t M M1) → va_P D clsA (gw 144 ad (cfC cI cC cZ cT ad) M1) H → va_S (GA 144 ad) s.heap H locs → lv_has ls 5 [(0, .ref (ad (t))), (1, .ref (ad (u))), (3, .int (nI (b9))), (4, .int (nI (i)))] → W p l e (rm_ 1 21) s m ([.ref (ad (t)), .ref (ad (u)), .int (nI (a)), .int (nI (b9))] : List Value).toArray below meth c H locs 0 0 (MQ below (GQ D 144 ad (cfC cI cC cZ cT ad) (fun v M' => v = none ∧ TT M' t (sl + (b9 - a)) sc ∧ FT t M M')) ([.ref (ad (t)), .ref (ad (u)), .int (nI (a)), .int (nI (b9))] : List Value).toArray s 0 0 (GA 144 ad)) (F0 m 3 ls []) := by
    intro fu3
    induction fu3 with
    | zero => intro i M1 H locs ls hfu; exact absurd hfu (Nat.not_lt_zero _)
    | succ fu3 ih3 =>
      intro i M1 H locs ls hfu3 hi1 hi2 hT1 hF hP hS hl
      have hU1 := hU.ft hF ht hu hne
      refine lv_iload hx hb d_T_putPart_3 (lv_at hl 3 rfl) ?_
      refine lv_iload_n hx hb d_T_putPart_5 rfl (lv_at hl 2 rfl) ?_
      refine n_ge (a := i) (b := b9) (tgt := 25) hx hb d_T_putPart_6 (by decide) (by omega) (by omega) (fun c_6 => ?_) (fun c_6 => ?_)
      · exact r_v hx hb hr hlocks hP hS (⟨rfl, by rw [show b9 = i by omega]; exact hT1, hF⟩) d_T_putPart_25
      · refine lv_aload_n hx hb d_T_putPart_9 rfl (lv_at hl 0 rfl) ?_
        refine lv_aload_n hx hb d_T_putPart_10 rfl (lv_at hl 1 rfl) ?_
        refine lv_iload hx hb d_T_putPart_11 (lv_at hl 3 rfl) ?_
        refine c_V (own := R_T) (index := 19) (As := [.int (nI (i))]) (rest := [.ref (ad (t))]) hx hb hml hown hg hK NXc.same hN.warm (fun _ h => h) hP hS u (c_T_at l D cI cC cZ cT ad hI M1 u hu ul uc hU1 (i) (by omega)) (tx_lt hu) (ci := 6) (cfC_T hu _) rfl k_361 k_192 k_193 k_2 k_194 1 rfl (by decide +kernel) (by decide) rfl hl.1 (Nat.le_of_ble_eq_true rfl) d_T_putPart_13 (fun v M' H locs hq hP _ _ hS => ?_)
        obtain ⟨rfl, rfl⟩ := hq
        refine W.eq (g2 := F0 m 16 ls [.int (nI (uc (i))), .ref (ad (t))]) rfl ?_
        refine c_V (own := R_T) (index := 23) (As := [.int (nI (uc (i)))]) (rest := []) hx hb hml hown hg hK NXc.same hN.warm (fun _ h => h) hP hS t (c_T_put l D cI cC cZ cT ad hI M1 (t) ht (sl + (i - a)) sc hT1 (uc (i)) ((hU.2.2 i (by omega)).1) (by omega)) (tx_lt ht) (ci := 6) (cfC_T ht _) rfl k_362 k_294 k_295 k_2 k_296 1 rfl (by decide +kernel) (by decide) rfl hl.1 (Nat.le_of_ble_eq_true rfl) d_T_putPart_16 (fun v M_1 H locs hq hP _ _ hS => ?_)
        obtain ⟨rfl, eM_1⟩ := hq
        rw [show uc (i) = sc (sl + (i - a)) from (hcp i hi1 (by omega)).symm] at eM_1
        have hT1 : TT M_1 (t) (sl + (i - a) + 1) sc := by rw [eM_1]; exact hT1.add (by omega) (by rw [hcp i hi1 (by omega)]; exact (hU.2.2 i (by omega)).1)
        have hF : FT (t) M M_1 := hF.tr (by rw [eM_1]; exact FT.add _ _ _ _ _)
        refine W.eq (g2 := F0 m 19 ls []) rfl ?_
        refine n_inc (lv' := [(4, .int (nI (i + 1))), (0, .ref (ad (t))), (1, .ref (ad (u))), (3, .int (nI (b9)))]) hx hb d_T_putPart_19 hl (k := 3) rfl (by decide) rfl (fun ls hl => ?_)
        refine lv_goto (tgt := 3) hx hb d_T_putPart_22 (by decide) ?_
        exact ih3 (i + 1) M_1 _ _ ls (by omega) (by omega) (by omega) (by rw [show sl + (i + 1 - a) = sl + (i - a) + 1 by omega]; exact hT1) (hF) hP hS (lv_sub hl [1, 2, 3, 0] rfl)
  refine lv_iload_n hx hb d_T_putPart_0 rfl (lv_at hl 2 rfl) ?_
  refine lv_istore (lv' := [(4, .int (nI (a))), (0, .ref (ad (t))), (1, .ref (ad (u))), (2, .int (nI (a))), (3, .int (nI (b9)))]) hx hb d_T_putPart_1 hl (by decide) rfl (fun ls hl => ?_)
  exact J3 (_ + 1) (a) M _ _ ls (Nat.lt_succ_self _) (by omega) (by omega) (by rw [Nat.sub_self]; exact hT) (FT.rf _ _) hP hS (lv_sub hl [1, 2, 4, 0] rfl)

set_option maxHeartbeats 4000000 in
set_option maxRecDepth 100000 in
theorem c_T_putAll (l : Launch) (D : va_G) (cI cC cZ cT : ClassId) (ad : Nat → Nat) (hI : GI 144 ad) (M : PM) (t : Nat) (ht : tx t) (sl : Nat) (sc : Nat → Nat) (hT : TT M t sl sc) (u : Nat) (hu : tx u) (ul : Nat) (uc : Nat → Nat) (hU : TT M u ul uc) (hne : u ≠ t) (hroom : sl + ul ≤ capT t) (hcp : ∀ i, i < ul → sc (sl + i) = uc i) : MD l D cI cC cZ cT ad y_T_putAll b_T_putAll 2 none 2 45 [.ref (ad (t)), .ref (ad (u))] M (fun v M' => v = none ∧ TT M' t (sl + ul) sc ∧ FT t M M') := by
  refine MC.of (by decide) (Nat.le_of_ble_eq_true rfl) ?_
  intro p e s m below meth c ls hx hb hr hml hown hg hlocks hK hN hP hS hl
  have hown : s.vm.findClass R_T = some m.cls := hown
  have hl : lv_has ls 2 [(0, .ref (ad (t))), (1, .ref (ad (u)))] := hl
  have hcap := hT.1
  have hc49 := capT_24 t
  have hcau := hU.1
  have hcu49 := capT_24 u
  refine lv_aload_n hx hb d_T_putAll_0 rfl (lv_at hl 0 rfl) ?_
  refine lv_aload_n hx hb d_T_putAll_1 rfl (lv_at hl 1 rfl) ?_
  refine n_const (k := 0) hx hb d_T_putAll_2 (by decide) ?_
  refine lv_aload_n hx hb d_T_putAll_3 rfl (lv_at hl 1 rfl) ?_
  refine g_get (C := R_T) (T := T_T) (N := 2) (ci := 6) (v := .int (M u 1)) hx hb hg i_T hown hK hP u (tx_lt hu) (cfC_T hu _) rfl 1 (by decide) (hg _ k_33) rfl d_T_putAll_4 ?_
  refine n_top (y := (nI (ul))) (hU.2.1) ?_
  refine c_V (own := R_T) (index := 27) (As := [.ref (ad (u)), .int (nI (0)), .int (nI (ul))]) (rest := []) hx hb hml hown hg hK NXc.same hN.warm (fun _ h => h) hP hS t (c_T_putPart l D cI cC cZ cT ad hI M t ht sl sc hT u hu ul uc hU 0 ul (Nat.zero_le _) (Nat.le_refl _) hne (by omega) (fun i _ h => by rw [Nat.sub_zero]; exact hcp i h)) (tx_lt ht) (ci := 6) (cfC_T ht _) rfl k_357 k_358 k_359 k_2 k_360 3 rfl (by decide +kernel) (by decide) rfl hl.1 (Nat.le_of_ble_eq_true rfl) d_T_putAll_7 (fun v M_1 H locs hq hP _ _ hS => ?_)
  obtain ⟨rfl, eM_1⟩ := hq
  refine W.eq (g2 := F0 m 10 ls []) rfl ?_
  exact r_v hx hb hr hlocks hP hS (⟨rfl, eM_1⟩) d_T_putAll_10

set_option maxHeartbeats 4000000 in
set_option maxRecDepth 100000 in
theorem c_T_lastPlaceOf (l : Launch) (D : va_G) (cI cC cZ cT : ClassId) (ad : Nat → Nat) (hI : GI 144 ad) (M : PM) (t : Nat) (ht : tx t) (sl : Nat) (sc : Nat → Nat) (hT : TT M t sl sc) (c9 : Nat) (hc9 : c9 < 128) (p1 : Nat) (hp : p1 ≤ sl ∧ (∀ q, p1 ≤ q → q < sl → ¬ sc q = c9) ∧ (p1 = 0 ∨ sc (p1 - 1) = c9)) : MD l D cI cC cZ cT ad y_T_lastPlaceOf b_T_lastPlaceOf 3 (some .int) 0 0 [.ref (ad (t)), .int (nI (c9))] M (fun v M' => v = some (.int (nI p1 - 1)) ∧ M = M') := by
  refine MC.of (by decide) (Nat.le_of_ble_eq_true rfl) ?_
  intro p e s m below meth c ls hx hb hr hml hown hg hlocks hK hN hP hS hl
  have hown : s.vm.findClass R_T = some m.cls := hown
  have hl : lv_has ls 3 [(0, .ref (ad (t))), (1, .int (nI (c9)))] := hl
  have hcap := hT.1
  have hc49 := capT_24 t
  have J7 : ∀ (fu7 : Nat) (i : Nat) (H : Heap) (locs : List Loc) (ls : Array Slot), i < fu7 → (i ≤ sl) → (∀ q, i ≤ q → q < sl → ¬ sc q = c9) → va_P D clsA (gw 144 ad (cfC cI cC cZ cT ad) M) H → va_S (GA 144 ad) s.heap H locs → lv_has ls 3 [(0, .ref (ad (t))), (1, .int (nI (c9))), (2, .int (nI (i) - 1))] → W p l e (rm_ 0 0) s m ([.ref (ad (t)), .int (nI (c9))] : List Value).toArray below meth c H locs 0 0 (MQ below (GQ D 144 ad (cfC cI cC cZ cT ad) (fun v M' => v = some (.int (nI p1 - 1)) ∧ M = M')) ([.ref (ad (t)), .int (nI (c9))] : List Value).toArray s 0 0 (GA 144 ad)) (F0 m 7 ls []) := by
    intro fu7
    induction fu7 with
    | zero => intro i H locs ls hfu; exact absurd hfu (Nat.not_lt_zero _)
    | succ fu7 ih7 =>
      intro i H locs ls hfu7 hi hpv hP hS hl
      refine lv_iload_n hx hb d_T_lastPlaceOf_7 rfl (lv_at hl 2 rfl) ?_
      refine lv_if_lt (tgt := 29) hx hb d_T_lastPlaceOf_8 (by decide) (fun c_8 => ?_) (fun c_8 => ?_)
      · refine lv_iconst (v := -1) hx hb d_T_lastPlaceOf_29 (by decide) ?_
        exact r_i hx hb hr hlocks hP hS (⟨by
    have e0 : i = 0 := (nI_p0 (by omega)).mp c_8
    have e : p1 = 0 := by
      rcases hp.2.2 with z | z
      · exact z
      · refine Decidable.of_not_not fun h => hpv (p1 - 1) (by omega) (by omega) z
    rw [e]; rfl, rfl⟩) d_T_lastPlaceOf_30
      · obtain ⟨j, rfl⟩ : ∃ j, i = j + 1 := ⟨i - 1, by have : ¬ i = 0 := fun h => c_8 ((nI_p0 (by omega)).mpr h); omega⟩
        rw [nI_pred] at hl
        have hl : lv_has ls 3 [(0, .ref (ad (t))), (1, .int (nI (c9))), (2, .int (nI (j)))] := hl
        refine lv_aload_n hx hb d_T_lastPlaceOf_11 rfl (lv_at hl 0 rfl) ?_
        refine g_get (C := R_T) (T := T_T) (N := 2) (ci := 6) (v := .ref (ad (t + 1))) hx hb hg i_T hown hK hP t (tx_lt ht) (cfC_T ht _) rfl 0 (by decide) (hg _ k_32) rfl d_T_lastPlaceOf_12 ?_
        refine lv_iload_n hx hb d_T_lastPlaceOf_15 rfl (lv_at hl 2 rfl) ?_
        refine g_cald hx hb hK hP (t + 1) 1 (tx_lt1 ht) (cfC_A ht _) rfl (capT_lt _) (j := j) (by omega) d_T_lastPlaceOf_16 ?_
        refine n_top (y := (nI (sc (j)))) ((hT.2.2 (j) (by omega)).2) ?_
        refine lv_iload_n hx hb d_T_lastPlaceOf_17 rfl (lv_at hl 1 rfl) ?_
        refine n_ne (a := sc (j)) (b := c9) (tgt := 23) hx hb d_T_lastPlaceOf_18 (by decide) (by have := (hT.2.2 j (by omega)).1; omega) (by omega) (fun c_18 => ?_) (fun c_18 => ?_)
        · have hpv9 : ∀ q, j ≤ q → q < sl → ¬ sc q = c9 := fun q h1 h2 => by rcases Nat.lt_or_eq_of_le h1 with r | r; exact hpv q r h2; subst r; exact c_18
          refine lv_iinc (v := ((nI (j)) - 1)) (lv' := [(2, .int ((nI (j)) - 1)), (0, .ref (ad (t))), (1, .int (nI (c9)))]) hx hb d_T_lastPlaceOf_23 hl (k := 2) rfl (decI _) (by decide) rfl (fun ls hl => ?_)
          refine lv_goto (tgt := 7) hx hb d_T_lastPlaceOf_26 (by decide) ?_
          exact ih7 (j) _ _ ls (by omega) (by omega) (hpv9) hP hS (lv_sub hl [1, 2, 0] rfl)
        · refine lv_iload_n hx hb d_T_lastPlaceOf_21 rfl (lv_at hl 2 rfl) ?_
          exact r_i hx hb hr hlocks hP hS (⟨by
    have e : p1 = j + 1 := by
      rcases Nat.lt_trichotomy p1 (j + 1) with r | r | r
      · exact absurd c_18 (hp.2.1 j (by omega) (by omega))
      · exact r
      · rcases hp.2.2 with z | z
        · omega
        · exact absurd z (hpv (p1 - 1) (by omega) (by omega))
    rw [e, nI_pred], rfl⟩) d_T_lastPlaceOf_22
  refine lv_aload_n hx hb d_T_lastPlaceOf_0 rfl (lv_at hl 0 rfl) ?_
  refine g_get (C := R_T) (T := T_T) (N := 2) (ci := 6) (v := .int (M t 1)) hx hb hg i_T hown hK hP t (tx_lt ht) (cfC_T ht _) rfl 1 (by decide) (hg _ k_33) rfl d_T_lastPlaceOf_1 ?_
  refine n_top (y := (nI (sl))) (hT.2.1) ?_
  refine n_const (k := 1) hx hb d_T_lastPlaceOf_4 (by decide) ?_
  refine lv_isub hx hb d_T_lastPlaceOf_5 ?_
  refine n_top (y := nI (sl) - 1) rfl ?_
  refine lv_istore_n (lv' := [(2, .int (nI (sl) - 1)), (0, .ref (ad (t))), (1, .int (nI (c9)))]) hx hb d_T_lastPlaceOf_6 rfl hl (by decide) rfl (fun ls hl => ?_)
  exact J7 (_ + 1) (sl) _ _ ls (Nat.lt_succ_self _) (by omega) (fun q h1 h2 => absurd h1 (by omega)) hP hS (lv_sub hl [1, 2, 0] rfl)

set_option maxHeartbeats 4000000 in
set_option maxRecDepth 100000 in
theorem c_T_compareWith (l : Launch) (D : va_G) (cI cC cZ cT : ClassId) (ad : Nat → Nat) (hI : GI 144 ad) (M : PM) (t : Nat) (ht : tx t) (sl : Nat) (sc : Nat → Nat) (hT : TT M t sl sc) (u : Nat) (hu : tx u) (ul : Nat) (uc : Nat → Nat) (hU : TT M u ul uc) : MD l D cI cC cZ cT ad y_T_compareWith b_T_compareWith 4 (some .int) 1 21 [.ref (ad (t)), .ref (ad (u))] M (fun v M' => (∃ r : Int32, v = some (.int r) ∧ (r = 0 ↔ eqG sl sc ul uc) ∧ (r < 0 ↔ ltG sl sc ul uc)) ∧ M = M') := by
  refine MC.of (by decide) (Nat.le_of_ble_eq_true rfl) ?_
  intro p e s m below meth c ls hx hb hr hml hown hg hlocks hK hN hP hS hl
  have hown : s.vm.findClass R_T = some m.cls := hown
  have hl : lv_has ls 4 [(0, .ref (ad (t))), (1, .ref (ad (u)))] := hl
  have hcap := hT.1
  have hc49 := capT_24 t
  have hcau := hU.1
  have hcu49 := capT_24 u
  have J14 : ∀ (fu14 : Nat) (i : Nat) (H : Heap) (locs : List Loc) (ls : Array Slot), sl - i < fu14 → (i ≤ sl) → (i ≤ ul) → (∀ q, q < i → sc q = uc q) → va_P D clsA (gw 144 ad (cfC cI cC cZ cT ad) M) H → va_S (GA 144 ad) s.heap H locs → lv_has ls 4 [(0, .ref (ad (t))), (1, .ref (ad (u))), (2, .int (nI (min (sl) (ul)))), (3, .int (nI (i)))] → W p l e (rm_ 1 21) s m ([.ref (ad (t)), .ref (ad (u))] : List Value).toArray below meth c H locs 0 0 (MQ below (GQ D 144 ad (cfC cI cC cZ cT ad) (fun v M' => (∃ r : Int32, v = some (.int r) ∧ (r = 0 ↔ eqG sl sc ul uc) ∧ (r < 0 ↔ ltG sl sc ul uc)) ∧ M = M')) ([.ref (ad (t)), .ref (ad (u))] : List Value).toArray s 0 0 (GA 144 ad)) (F0 m 14 ls []) := by
    intro fu14
    induction fu14 with
    | zero => intro i H locs ls hfu; exact absurd hfu (Nat.not_lt_zero _)
    | succ fu14 ih14 =>
      intro i H locs ls hfu14 hi1 hi2 hp hP hS hl
      refine lv_iload_n hx hb d_T_compareWith_14 rfl (lv_at hl 3 rfl) ?_
      refine lv_iload_n hx hb d_T_compareWith_15 rfl (lv_at hl 2 rfl) ?_
      refine n_ge (a := i) (b := min (sl) (ul)) (tgt := 54) hx hb d_T_compareWith_16 (by decide) (by omega) (by omega) (fun c_16 => ?_) (fun c_16 => ?_)
      · refine lv_aload_n hx hb d_T_compareWith_54 rfl (lv_at hl 0 rfl) ?_
        refine g_get (C := R_T) (T := T_T) (N := 2) (ci := 6) (v := .int (M t 1)) hx hb hg i_T hown hK hP t (tx_lt ht) (cfC_T ht _) rfl 1 (by decide) (hg _ k_33) rfl d_T_compareWith_55 ?_
        refine n_top (y := (nI (sl))) (hT.2.1) ?_
        refine lv_aload_n hx hb d_T_compareWith_58 rfl (lv_at hl 1 rfl) ?_
        refine g_get (C := R_T) (T := T_T) (N := 2) (ci := 6) (v := .int (M u 1)) hx hb hg i_T hown hK hP u (tx_lt hu) (cfC_T hu _) rfl 1 (by decide) (hg _ k_33) rfl d_T_compareWith_59 ?_
        refine n_top (y := (nI (ul))) (hU.2.1) ?_
        refine lv_isub hx hb d_T_compareWith_62 ?_
        exact r_i hx hb hr hlocks hP hS (⟨⟨_, rfl, by
    have hI9 := subI (a := sl) (b := ul) (by omega) (by omega)
    have hmm : i = min sl ul := by omega
    refine ⟨hI9.1.trans ⟨fun h => ⟨h, fun q hq => hp q (by omega)⟩, fun h => h.1⟩, hI9.2.trans ?_⟩
    rw [ltG_at hi1 hi2 hp (by omega)]; omega⟩, rfl⟩) d_T_compareWith_63
      · have hsi := (hT.2.2 i (by omega)).1
        have hui := (hU.2.2 i (by omega)).1
        refine lv_aload_n hx hb d_T_compareWith_19 rfl (lv_at hl 0 rfl) ?_
        refine g_get (C := R_T) (T := T_T) (N := 2) (ci := 6) (v := .ref (ad (t + 1))) hx hb hg i_T hown hK hP t (tx_lt ht) (cfC_T ht _) rfl 0 (by decide) (hg _ k_32) rfl d_T_compareWith_20 ?_
        refine lv_iload_n hx hb d_T_compareWith_23 rfl (lv_at hl 3 rfl) ?_
        refine g_cald hx hb hK hP (t + 1) 1 (tx_lt1 ht) (cfC_A ht _) rfl (capT_lt _) (j := i) (by omega) d_T_compareWith_24 ?_
        refine n_top (y := (nI (sc (i)))) ((hT.2.2 (i) (by omega)).2) ?_
        refine lv_aload_n hx hb d_T_compareWith_25 rfl (lv_at hl 1 rfl) ?_
        refine g_get (C := R_T) (T := T_T) (N := 2) (ci := 6) (v := .ref (ad (u + 1))) hx hb hg i_T hown hK hP u (tx_lt hu) (cfC_T hu _) rfl 0 (by decide) (hg _ k_32) rfl d_T_compareWith_26 ?_
        refine lv_iload_n hx hb d_T_compareWith_29 rfl (lv_at hl 3 rfl) ?_
        refine g_cald hx hb hK hP (u + 1) 1 (tx_lt1 hu) (cfC_A hu _) rfl (capT_lt _) (j := i) (by omega) d_T_compareWith_30 ?_
        refine n_top (y := (nI (uc (i)))) ((hU.2.2 (i) (by omega)).2) ?_
        refine n_eq (a := sc (i)) (b := uc (i)) (tgt := 48) hx hb d_T_compareWith_31 (by decide) (by omega) (by omega) (fun c_31 => ?_) (fun c_31 => ?_)
        · refine n_inc (lv' := [(3, .int (nI (i + 1))), (0, .ref (ad (t))), (1, .ref (ad (u))), (2, .int (nI (min (sl) (ul))))]) hx hb d_T_compareWith_48 hl (k := 3) rfl (by decide) rfl (fun ls hl => ?_)
          refine lv_goto (tgt := 14) hx hb d_T_compareWith_51 (by decide) ?_
          exact ih14 (i + 1) _ _ ls (by omega) (by omega) (by omega) (lt_S hp c_31) hP hS (lv_sub hl [1, 2, 3, 0] rfl)
        · refine lv_aload_n hx hb d_T_compareWith_34 rfl (lv_at hl 0 rfl) ?_
          refine g_get (C := R_T) (T := T_T) (N := 2) (ci := 6) (v := .ref (ad (t + 1))) hx hb hg i_T hown hK hP t (tx_lt ht) (cfC_T ht _) rfl 0 (by decide) (hg _ k_32) rfl d_T_compareWith_35 ?_
          refine lv_iload_n hx hb d_T_compareWith_38 rfl (lv_at hl 3 rfl) ?_
          refine g_cald hx hb hK hP (t + 1) 1 (tx_lt1 ht) (cfC_A ht _) rfl (capT_lt _) (j := i) (by omega) d_T_compareWith_39 ?_
          refine n_top (y := (nI (sc (i)))) ((hT.2.2 (i) (by omega)).2) ?_
          refine lv_aload_n hx hb d_T_compareWith_40 rfl (lv_at hl 1 rfl) ?_
          refine g_get (C := R_T) (T := T_T) (N := 2) (ci := 6) (v := .ref (ad (u + 1))) hx hb hg i_T hown hK hP u (tx_lt hu) (cfC_T hu _) rfl 0 (by decide) (hg _ k_32) rfl d_T_compareWith_41 ?_
          refine lv_iload_n hx hb d_T_compareWith_44 rfl (lv_at hl 3 rfl) ?_
          refine g_cald hx hb hK hP (u + 1) 1 (tx_lt1 hu) (cfC_A hu _) rfl (capT_lt _) (j := i) (by omega) d_T_compareWith_45 ?_
          refine n_top (y := (nI (uc (i)))) ((hU.2.2 (i) (by omega)).2) ?_
          refine lv_isub hx hb d_T_compareWith_46 ?_
          exact r_i hx hb hr hlocks hP hS (⟨⟨_, rfl, by
    have hI9 := subI (a := sc i) (b := uc i) (by omega) (by omega)
    refine ⟨hI9.1.trans ⟨fun h => absurd h c_31, fun h => h.2 i (by omega)⟩, hI9.2.trans ?_⟩
    rw [ltG_at hi1 hi2 hp (Or.inr (Or.inr c_31))]; omega⟩, rfl⟩) d_T_compareWith_47
  refine lv_aload_n hx hb d_T_compareWith_0 rfl (lv_at hl 0 rfl) ?_
  refine g_get (C := R_T) (T := T_T) (N := 2) (ci := 6) (v := .int (M t 1)) hx hb hg i_T hown hK hP t (tx_lt ht) (cfC_T ht _) rfl 1 (by decide) (hg _ k_33) rfl d_T_compareWith_1 ?_
  refine n_top (y := (nI (sl))) (hT.2.1) ?_
  refine lv_aload_n hx hb d_T_compareWith_4 rfl (lv_at hl 1 rfl) ?_
  refine g_get (C := R_T) (T := T_T) (N := 2) (ci := 6) (v := .int (M u 1)) hx hb hg i_T hown hK hP u (tx_lt hu) (cfC_T hu _) rfl 1 (by decide) (hg _ k_33) rfl d_T_compareWith_5 ?_
  refine n_top (y := (nI (ul))) (hU.2.1) ?_
  refine n_min (own := R_T) (index := 31) (rest := []) (a := sl) (b := ul) hx hb (hml.trans hl.1.symm) hown hg k_341 k_342 k_16 k_343 (by decide) (Nat.le_of_ble_eq_true rfl) (by decide) (by decide) (by omega) (by omega) d_T_compareWith_8 ?_
  refine lv_istore_n (lv' := [(2, .int (nI (min (sl) (ul)))), (0, .ref (ad (t))), (1, .ref (ad (u)))]) hx hb d_T_compareWith_11 rfl hl (by decide) rfl (fun ls hl => ?_)
  refine n_const (k := 0) hx hb d_T_compareWith_12 (by decide) ?_
  refine lv_istore_n (lv' := [(3, .int (nI (0))), (2, .int (nI (min (sl) (ul)))), (0, .ref (ad (t))), (1, .ref (ad (u)))]) hx hb d_T_compareWith_13 rfl hl (by decide) rfl (fun ls hl => ?_)
  exact J14 (_ + 1) (0) _ _ ls (Nat.lt_succ_self _) (by omega) (by omega) (fun q hq => absurd hq (Nat.not_lt_zero q)) hP hS (lv_sub hl [2, 3, 1, 0] rfl)
