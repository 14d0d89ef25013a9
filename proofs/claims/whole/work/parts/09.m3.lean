set_option maxHeartbeats 4000000 in
set_option maxRecDepth 100000 in
theorem c_M_isSpace (l : Launch) (D : va_G) (cI cB : ClassId) (ad : Nat → Nat) (hI : GI 13 ad) (M : PM) (n : Nat) (len : Nat → Nat) (ch : Nat → Nat → Nat) (sp : Nat → Option Nat) (hR : RN M n len ch sp) (a : Nat) (ha : a < n) (t : Bool) (ht : t = true ↔ isSp n sp a) : MM l D cI cB ad y_M_isSpace b_M_isSpace 3 (some .boolean) 0 0 [.ref (ad (0)), .int (nI (a))] M (fun v M' => v = some (.int (bI (t))) ∧ M = M') := by
  refine MC.of (by decide) (Nat.le_of_ble_eq_true rfl) ?_
  intro p e s m below meth c ls hx hb hr hml hown hg hlocks hK hN hP hS hl
  have hown : s.vm.findClass R_M = some m.cls := hown
  have hl : lv_has ls 3 [(0, .ref (ad (0))), (1, .int (nI (a)))] := hl
  have hn60 : n ≤ 60 := hR.1
  have hl24 := hR.2.2.1
  have hspn := hR.2.2.2.2.1
  have hch := hR.2.2.2.2.2
  have J2 : ∀ (fu2 : Nat) (i : Nat) (H : Heap) (locs : List Loc) (ls : Array Slot), n - i < fu2 → (i ≤ n) → (∀ q, q < i → ¬ sp q = some a) → va_P D clsA (gw 13 ad (cfM cI cB ad) M) H → va_S (GA 13 ad) s.heap H locs → lv_has ls 3 [(0, .ref (ad (0))), (1, .int (nI (a))), (2, .int (nI (i)))] → W p l e (rm_ 0 0) s m ([.ref (ad (0)), .int (nI (a))] : List Value).toArray below meth c H locs 0 0 (MQ below (GQ D 13 ad (cfM cI cB ad) (fun v M' => v = some (.int (bI (t))) ∧ M = M')) ([.ref (ad (0)), .int (nI (a))] : List Value).toArray s 0 0 (GA 13 ad)) (F0 m 2 ls []) := by
    intro fu2
    induction fu2 with
    | zero => intro i H locs ls hfu; exact absurd hfu (Nat.not_lt_zero _)
    | succ fu2 ih2 =>
      intro i H locs ls hfu2 hi hpv hP hS hl
      refine lv_iload_n hx hb d_M_isSpace_2 rfl (lv_at hl 2 rfl) ?_
      refine lv_aload_n hx hb d_M_isSpace_3 rfl (lv_at hl 0 rfl) ?_
      refine g_get (C := R_M) (T := T_M) (N := 19) (ci := 8) (v := .int (M 0 5)) hx hb hg i_M hown hK hP 0 (by decide) rfl rfl 5 (by decide) (hg _ k_798) rfl d_M_isSpace_4 ?_
      refine n_top (y := (nI (n))) (hR.2.1) ?_
      refine n_ge (a := i) (b := n) (tgt := 28) hx hb d_M_isSpace_7 (by decide) (by omega) (by omega) (fun c_7 => ?_) (fun c_7 => ?_)
      · have h9 : t = false := b_f ht (fun ⟨j, hj, e⟩ => hpv j (by omega) e)
        refine n_const (k := 0) hx hb d_M_isSpace_28 (by decide) ?_
        exact r_z hx hb hr hlocks (rfl) hP hS (⟨bz0 (h9), rfl⟩) d_M_isSpace_29
      · refine lv_aload_n hx hb d_M_isSpace_10 rfl (lv_at hl 0 rfl) ?_
        refine g_get (C := R_M) (T := T_M) (N := 19) (ci := 8) (v := .ref (ad (4))) hx hb hg i_M hown hK hP 0 (by decide) rfl rfl 6 (by decide) (hg _ k_799) rfl d_M_isSpace_11 ?_
        refine lv_iload_n hx hb d_M_isSpace_14 rfl (lv_at hl 2 rfl) ?_
        refine g_iald hx hb hK hP 4 0 (by decide) rfl rfl (by decide) (j := i) (by omega) d_M_isSpace_15 ?_
        refine n_top (y := (oI (sp (i)))) (hR.2.2.2.1 (i) (by omega)) ?_
        refine lv_iload_n hx hb d_M_isSpace_16 rfl (lv_at hl 1 rfl) ?_
        refine oo_ne (a := sp (i)) (b := some (a)) (tgt := 22) hx hb d_M_isSpace_17 (by decide) (by intro q hq; have := hspn _ q (by omega) hq; omega) (ob_some (by omega)) (fun c_17 => ?_) (fun c_17 => ?_)
        · refine n_inc (lv' := [(2, .int (nI (i + 1))), (0, .ref (ad (0))), (1, .int (nI (a)))]) hx hb d_M_isSpace_22 hl (k := 2) rfl (by decide) rfl (fun ls hl => ?_)
          refine lv_goto (tgt := 2) hx hb d_M_isSpace_25 (by decide) ?_
          exact ih2 (i + 1) _ _ ls (by omega) (by omega) (lt_S hpv c_17) hP hS (lv_sub hl [1, 2, 0] rfl)
        · have h9 : t = true := ht.mpr ⟨i, by omega, c_17⟩
          refine n_const (k := 1) hx hb d_M_isSpace_20 (by decide) ?_
          exact r_z hx hb hr hlocks (rfl) hP hS (⟨bz1 (h9), rfl⟩) d_M_isSpace_21
  refine n_const (k := 0) hx hb d_M_isSpace_0 (by decide) ?_
  refine lv_istore_n (lv' := [(2, .int (nI (0))), (0, .ref (ad (0))), (1, .int (nI (a)))]) hx hb d_M_isSpace_1 rfl hl (by decide) rfl (fun ls hl => ?_)
  exact J2 (_ + 1) (0) _ _ ls (Nat.lt_succ_self _) (by omega) (by intro q hq; exact absurd hq (Nat.not_lt_zero q)) hP hS (lv_sub hl [1, 2, 0] rfl)

set_option maxHeartbeats 4000000 in
set_option maxRecDepth 100000 in
theorem c_M_goesOn (l : Launch) (D : va_G) (cI cB : ClassId) (ad : Nat → Nat) (hI : GI 13 ad) (M : PM) (n : Nat) (len : Nat → Nat) (ch : Nat → Nat → Nat) (sp : Nat → Option Nat) (hR : RN M n len ch sp) (a b9 : Nat) (ha : a < n) (hb9 : b9 < n) (t : Bool) (ht : t = true ↔ goesT len ch a b9) : MM l D cI cB ad y_M_goesOn b_M_goesOn 5 (some .boolean) 1 22 [.ref (ad (0)), .int (nI (a)), .int (nI (b9))] M (fun v M' => v = some (.int (bI (t))) ∧ M = M') := by
  refine MC.of (by decide) (Nat.le_of_ble_eq_true rfl) ?_
  intro p e s m below meth c ls hx hb hr hml hown hg hlocks hK hN hP hS hl
  have hown : s.vm.findClass R_M = some m.cls := hown
  have hl : lv_has ls 5 [(0, .ref (ad (0))), (1, .int (nI (a))), (2, .int (nI (b9)))] := hl
  have hn60 : n ≤ 60 := hR.1
  have hl24 := hR.2.2.1
  have hspn := hR.2.2.2.2.1
  have hch := hR.2.2.2.2.2
  have la := hl24 a ha
  have lb := hl24 b9 hb9
  have J24 : ∀ (fu24 : Nat) (i : Nat) (b : Bool) (H : Heap) (locs : List Loc) (ls : Array Slot), len b9 - i < fu24 → (i ≤ len b9) → (b = true ↔ (len b9 < len a ∧ ∀ q, q < i → ch a q = ch b9 q)) → va_P D clsA (gw 13 ad (cfM cI cB ad) M) H → va_S (GA 13 ad) s.heap H locs → lv_has ls 5 [(0, .ref (ad (0))), (1, .int (nI (a))), (2, .int (nI (b9))), (3, .int (bI (b))), (4, .int (nI (i)))] → W p l e (rm_ 1 22) s m ([.ref (ad (0)), .int (nI (a)), .int (nI (b9))] : List Value).toArray below meth c H locs 0 0 (MQ below (GQ D 13 ad (cfM cI cB ad) (fun v M' => v = some (.int (bI (t))) ∧ M = M')) ([.ref (ad (0)), .int (nI (a)), .int (nI (b9))] : List Value).toArray s 0 0 (GA 13 ad)) (F0 m 24 ls []) := by
    intro fu24
    induction fu24 with
    | zero => intro i b H locs ls hfu; exact absurd hfu (Nat.not_lt_zero _)
    | succ fu24 ih24 =>
      intro i b H locs ls hfu24 hi hbb hP hS hl
      refine lv_iload hx hb d_M_goesOn_24 (lv_at hl 4 rfl) ?_
      refine lv_aload_n hx hb d_M_goesOn_26 rfl (lv_at hl 0 rfl) ?_
      refine g_get (C := R_M) (T := T_M) (N := 19) (ci := 8) (v := .ref (ad (3))) hx hb hg i_M hown hK hP 0 (by decide) rfl rfl 4 (by decide) (hg _ k_797) rfl d_M_goesOn_27 ?_
      refine lv_iload_n hx hb d_M_goesOn_30 rfl (lv_at hl 2 rfl) ?_
      refine g_iald hx hb hK hP 3 0 (by decide) rfl rfl (by decide) (j := b9) (by omega) d_M_goesOn_31 ?_
      refine n_top (y := (nI (len (b9)))) ((hR.2.2.1 (b9) (by omega)).2.2) ?_
      refine n_ge (a := i) (b := len (b9)) (tgt := 68) hx hb d_M_goesOn_32 (by decide) (by omega) (by omega) (fun c_32 => ?_) (fun c_32 => ?_)
      · refine lv_iload_n hx hb d_M_goesOn_68 rfl (lv_at hl 3 rfl) ?_
        exact r_z hx hb hr hlocks (bI_n _) hP hS (⟨(by
    have h9 : b = t := by
      cases b with
      | true =>
        have g := hbb.mp rfl
        exact (ht.mpr ⟨g.1, fun q hq => g.2 q (by first | omega | (cases c_36))⟩).symm
      | false => exact (b_f ht (fun g => absurd (hbb.mpr ⟨g.1, fun q hq => g.2 q (by omega)⟩) (by decide))).symm
    rw [h9]), rfl⟩) d_M_goesOn_69
      · refine lv_iload_n hx hb d_M_goesOn_35 rfl (lv_at hl 3 rfl) ?_
        refine z_eq (t := b) (tgt := 68) hx hb d_M_goesOn_36 (by decide) (fun c_36 => ?_) (fun c_36 => ?_)
        · refine lv_iload_n hx hb d_M_goesOn_68 rfl (lv_at hl 3 rfl) ?_
          exact r_z hx hb hr hlocks (bI_n _) hP hS (⟨(by
    have h9 : b = t := by
      cases b with
      | true =>
        have g := hbb.mp rfl
        exact (ht.mpr ⟨g.1, fun q hq => g.2 q (by first | omega | (cases c_36))⟩).symm
      | false => exact (b_f ht (fun g => absurd (hbb.mpr ⟨g.1, fun q hq => g.2 q (by omega)⟩) (by decide))).symm
    rw [h9]), rfl⟩) d_M_goesOn_69
        · have hla : len b9 < len a := (hbb.mp c_36).1
          have hca := hch a i ha (by omega)
          have hcb := hch b9 i hb9 (by omega)
          refine lv_aload_n hx hb d_M_goesOn_39 rfl (lv_at hl 0 rfl) ?_
          refine lv_iload_n hx hb d_M_goesOn_40 rfl (lv_at hl 1 rfl) ?_
          refine lv_iload hx hb d_M_goesOn_41 (lv_at hl 4 rfl) ?_
          refine c_V (own := R_M) (index := 64) (As := [.int (nI (a)), .int (nI (i))]) (rest := []) hx hb hml hown hg hK (fun _ _ _ h => h) (fun _ _ => trivial) (fun _ h => h) hP hS 0 (c_M_at l D cI cB ad hI M n len ch sp hR (a) (i) (by omega) (by omega)) (by decide) (ci := 8) rfl rfl k_887 k_889 k_p27 k_9 k_890 2 rfl (by decide +kernel) (by decide) rfl hl.1 (Nat.le_of_ble_eq_true rfl) d_M_goesOn_43 (fun v M' H locs hq hP _ _ hS => ?_)
          obtain ⟨rfl, rfl⟩ := hq
          refine W.eq (g2 := F0 m 46 ls [.int (nI (ch (a) (i)))]) rfl ?_
          refine lv_aload_n hx hb d_M_goesOn_46 rfl (lv_at hl 0 rfl) ?_
          refine lv_iload_n hx hb d_M_goesOn_47 rfl (lv_at hl 2 rfl) ?_
          refine lv_iload hx hb d_M_goesOn_48 (lv_at hl 4 rfl) ?_
          refine c_V (own := R_M) (index := 64) (As := [.int (nI (b9)), .int (nI (i))]) (rest := [.int (nI (ch (a) (i)))]) hx hb hml hown hg hK (fun _ _ _ h => h) (fun _ _ => trivial) (fun _ h => h) hP hS 0 (c_M_at l D cI cB ad hI M n len ch sp hR (b9) (i) (by omega) (by omega)) (by decide) (ci := 8) rfl rfl k_887 k_889 k_p27 k_9 k_890 2 rfl (by decide +kernel) (by decide) rfl hl.1 (Nat.le_of_ble_eq_true rfl) d_M_goesOn_50 (fun v M' H locs hq hP _ _ hS => ?_)
          obtain ⟨rfl, rfl⟩ := hq
          refine W.eq (g2 := F0 m 53 ls [.int (nI (ch (b9) (i))), .int (nI (ch (a) (i)))]) rfl ?_
          refine n_ne (a := ch (a) (i)) (b := ch (b9) (i)) (tgt := 60) hx hb d_M_goesOn_53 (by decide) (by omega) (by omega) (fun c_53 => ?_) (fun c_53 => ?_)
          · have hbb9 : (false = true) ↔ (len b9 < len a ∧ ∀ q, q < i + 1 → ch a q = ch b9 q) := ⟨fun h => (by cases h), fun h => absurd (h.2 i (Nat.lt_succ_self i)) c_53⟩
            refine n_const (k := 0) hx hb d_M_goesOn_60 (by decide) ?_
            refine lv_istore_n (lv' := [(3, .int (nI (0))), (0, .ref (ad (0))), (1, .int (nI (a))), (2, .int (nI (b9))), (4, .int (nI (i)))]) hx hb d_M_goesOn_61 rfl hl (by decide) rfl (fun ls hl => ?_)
            refine n_inc (lv' := [(4, .int (nI (i + 1))), (3, .int (nI (0))), (0, .ref (ad (0))), (1, .int (nI (a))), (2, .int (nI (b9)))]) hx hb d_M_goesOn_62 hl (k := 4) rfl (by decide) rfl (fun ls hl => ?_)
            refine lv_goto (tgt := 24) hx hb d_M_goesOn_65 (by decide) ?_
            exact ih24 (i + 1) (false) _ _ ls (by omega) (by omega) (hbb9) hP hS (lv_sub hl [2, 3, 4, 1, 0] rfl)
          · have hbb9 : (true = true) ↔ (len b9 < len a ∧ ∀ q, q < i + 1 → ch a q = ch b9 q) := ⟨fun _ => ⟨hla, lt_S (hbb.mp c_36).2 c_53⟩, fun _ => rfl⟩
            refine n_const (k := 1) hx hb d_M_goesOn_56 (by decide) ?_
            refine lv_goto (tgt := 61) hx hb d_M_goesOn_57 (by decide) ?_
            refine lv_istore_n (lv' := [(3, .int (nI (1))), (0, .ref (ad (0))), (1, .int (nI (a))), (2, .int (nI (b9))), (4, .int (nI (i)))]) hx hb d_M_goesOn_61 rfl hl (by decide) rfl (fun ls hl => ?_)
            refine n_inc (lv' := [(4, .int (nI (i + 1))), (3, .int (nI (1))), (0, .ref (ad (0))), (1, .int (nI (a))), (2, .int (nI (b9)))]) hx hb d_M_goesOn_62 hl (k := 4) rfl (by decide) rfl (fun ls hl => ?_)
            refine lv_goto (tgt := 24) hx hb d_M_goesOn_65 (by decide) ?_
            exact ih24 (i + 1) (true) _ _ ls (by omega) (by omega) (hbb9) hP hS (lv_sub hl [2, 3, 4, 1, 0] rfl)
  refine lv_aload_n hx hb d_M_goesOn_0 rfl (lv_at hl 0 rfl) ?_
  refine g_get (C := R_M) (T := T_M) (N := 19) (ci := 8) (v := .ref (ad (3))) hx hb hg i_M hown hK hP 0 (by decide) rfl rfl 4 (by decide) (hg _ k_797) rfl d_M_goesOn_1 ?_
  refine lv_iload_n hx hb d_M_goesOn_4 rfl (lv_at hl 1 rfl) ?_
  refine g_iald hx hb hK hP 3 0 (by decide) rfl rfl (by decide) (j := a) (by omega) d_M_goesOn_5 ?_
  refine n_top (y := (nI (len (a)))) ((hR.2.2.1 (a) (by omega)).2.2) ?_
  refine lv_aload_n hx hb d_M_goesOn_6 rfl (lv_at hl 0 rfl) ?_
  refine g_get (C := R_M) (T := T_M) (N := 19) (ci := 8) (v := .ref (ad (3))) hx hb hg i_M hown hK hP 0 (by decide) rfl rfl 4 (by decide) (hg _ k_797) rfl d_M_goesOn_7 ?_
  refine lv_iload_n hx hb d_M_goesOn_10 rfl (lv_at hl 2 rfl) ?_
  refine g_iald hx hb hK hP 3 0 (by decide) rfl rfl (by decide) (j := b9) (by omega) d_M_goesOn_11 ?_
  refine n_top (y := (nI (len (b9)))) ((hR.2.2.1 (b9) (by omega)).2.2) ?_
  refine n_le (a := len (a)) (b := len (b9)) (tgt := 19) hx hb d_M_goesOn_12 (by decide) (by omega) (by omega) (fun c_12 => ?_) (fun c_12 => ?_)
  · have hbb0 : (false = true) ↔ (len b9 < len a ∧ ∀ q, q < 0 → ch a q = ch b9 q) := ⟨fun h => (by cases h), fun h => absurd h.1 (by omega)⟩
    refine n_const (k := 0) hx hb d_M_goesOn_19 (by decide) ?_
    refine lv_istore_n (lv' := [(3, .int (nI (0))), (0, .ref (ad (0))), (1, .int (nI (a))), (2, .int (nI (b9)))]) hx hb d_M_goesOn_20 rfl hl (by decide) rfl (fun ls hl => ?_)
    refine n_const (k := 0) hx hb d_M_goesOn_21 (by decide) ?_
    refine lv_istore (lv' := [(4, .int (nI (0))), (3, .int (nI (0))), (0, .ref (ad (0))), (1, .int (nI (a))), (2, .int (nI (b9)))]) hx hb d_M_goesOn_22 hl (by decide) rfl (fun ls hl => ?_)
    exact J24 (_ + 1) (0) (false) _ _ ls (Nat.lt_succ_self _) (by omega) (hbb0) hP hS (lv_sub hl [2, 3, 4, 1, 0] rfl)
  · have hbb0 : (true = true) ↔ (len b9 < len a ∧ ∀ q, q < 0 → ch a q = ch b9 q) := ⟨fun _ => ⟨c_12, fun q hq => absurd hq (Nat.not_lt_zero q)⟩, fun _ => rfl⟩
    refine n_const (k := 1) hx hb d_M_goesOn_15 (by decide) ?_
    refine lv_goto (tgt := 20) hx hb d_M_goesOn_16 (by decide) ?_
    refine lv_istore_n (lv' := [(3, .int (nI (1))), (0, .ref (ad (0))), (1, .int (nI (a))), (2, .int (nI (b9)))]) hx hb d_M_goesOn_20 rfl hl (by decide) rfl (fun ls hl => ?_)
    refine n_const (k := 0) hx hb d_M_goesOn_21 (by decide) ?_
    refine lv_istore (lv' := [(4, .int (nI (0))), (3, .int (nI (1))), (0, .ref (ad (0))), (1, .int (nI (a))), (2, .int (nI (b9)))]) hx hb d_M_goesOn_22 hl (by decide) rfl (fun ls hl => ?_)
    exact J24 (_ + 1) (0) (true) _ _ ls (Nat.lt_succ_self _) (by omega) (hbb0) hP hS (lv_sub hl [2, 3, 4, 1, 0] rfl)

set_option maxHeartbeats 4000000 in
set_option maxRecDepth 100000 in
theorem c_M_spaceOf (l : Launch) (D : va_G) (cI cB : ClassId) (ad : Nat → Nat) (hI : GI 13 ad) (M : PM) (n : Nat) (len : Nat → Nat) (ch : Nat → Nat → Nat) (sp : Nat → Option Nat) (hR : RN M n len ch sp) (a : Nat) (ha : a < n) (o : Option Nat) (hO : Best (spC n len ch sp a) len n o) : MM l D cI cB ad y_M_spaceOf b_M_spaceOf 4 (some .int) 2 46 [.ref (ad (0)), .int (nI (a))] M (fun v M' => v = some (.int (oI (o))) ∧ M = M') := by
  refine MC.of (by decide) (Nat.le_of_ble_eq_true rfl) ?_
  intro p e s m below meth c ls hx hb hr hml hown hg hlocks hK hN hP hS hl
  have hown : s.vm.findClass R_M = some m.cls := hown
  have hl : lv_has ls 4 [(0, .ref (ad (0))), (1, .int (nI (a)))] := hl
  have hn60 : n ≤ 60 := hR.1
  have hl24 := hR.2.2.1
  have hspn := hR.2.2.2.2.1
  have hch := hR.2.2.2.2.2
  have J4 : ∀ (fu4 : Nat) (k : Nat) (o1 : Option Nat) (H : Heap) (locs : List Loc) (ls : Array Slot), n - k < fu4 → (k ≤ n) → (Best (spC n len ch sp a) len k o1) → va_P D clsA (gw 13 ad (cfM cI cB ad) M) H → va_S (GA 13 ad) s.heap H locs → lv_has ls 4 [(0, .ref (ad (0))), (1, .int (nI (a))), (2, .int (oI (o1))), (3, .int (nI (k)))] → W p l e (rm_ 2 46) s m ([.ref (ad (0)), .int (nI (a))] : List Value).toArray below meth c H locs 0 0 (MQ below (GQ D 13 ad (cfM cI cB ad) (fun v M' => v = some (.int (oI (o))) ∧ M = M')) ([.ref (ad (0)), .int (nI (a))] : List Value).toArray s 0 0 (GA 13 ad)) (F0 m 4 ls []) := by
    intro fu4
    induction fu4 with
    | zero => intro k o1 H locs ls hfu; exact absurd hfu (Nat.not_lt_zero _)
    | succ fu4 ih4 =>
      intro k o1 H locs ls hfu4 hk hB hP hS hl
      refine lv_iload_n hx hb d_M_spaceOf_4 rfl (lv_at hl 3 rfl) ?_
      refine lv_aload_n hx hb d_M_spaceOf_5 rfl (lv_at hl 0 rfl) ?_
      refine g_get (C := R_M) (T := T_M) (N := 19) (ci := 8) (v := .int (M 0 5)) hx hb hg i_M hown hK hP 0 (by decide) rfl rfl 5 (by decide) (hg _ k_798) rfl d_M_spaceOf_6 ?_
      refine n_top (y := (nI (n))) (hR.2.1) ?_
      refine n_ge (a := k) (b := n) (tgt := 56) hx hb d_M_spaceOf_9 (by decide) (by omega) (by omega) (fun c_9 => ?_) (fun c_9 => ?_)
      · refine lv_iload_n hx hb d_M_spaceOf_56 rfl (lv_at hl 2 rfl) ?_
        exact r_i hx hb hr hlocks hP hS (⟨by rw [hO.uniq (o' := o1) (by have e9 : k = n := (by omega); rw [e9] at hB; exact hB)], rfl⟩) d_M_spaceOf_57
      · obtain ⟨t1, ht1⟩ : ∃ t : Bool, t = true ↔ goesT len ch a k := bex _
        obtain ⟨t2, ht2⟩ : ∃ t : Bool, t = true ↔ isSp n sp k := bex _
        have hlt : ∀ q, o1 = some q → q < k := hB.lt
        refine lv_aload_n hx hb d_M_spaceOf_12 rfl (lv_at hl 0 rfl) ?_
        refine lv_iload_n hx hb d_M_spaceOf_13 rfl (lv_at hl 1 rfl) ?_
        refine lv_iload_n hx hb d_M_spaceOf_14 rfl (lv_at hl 3 rfl) ?_
        refine c_V (own := R_M) (index := 99) (As := [.int (nI (a)), .int (nI (k))]) (rest := []) hx hb hml hown hg hK (fun _ _ _ h => h) (fun _ _ => trivial) (fun _ h => h) hP hS 0 (c_M_goesOn l D cI cB ad hI M n len ch sp hR (a) (k) (by omega) (by omega) t1 ht1) (by decide) (ci := 8) rfl rfl k_927 k_929 k_p34 k_9 k_930 2 rfl (by decide +kernel) (by decide) rfl hl.1 (Nat.le_of_ble_eq_true rfl) d_M_spaceOf_15 (fun v M' H locs hq hP _ _ hS => ?_)
        obtain ⟨rfl, rfl⟩ := hq
        refine W.eq (g2 := F0 m 18 ls [.int (bI (t1))]) rfl ?_
        refine z_eq (t := t1) (tgt := 50) hx hb d_M_spaceOf_18 (by decide) (fun c_18 => ?_) (fun c_18 => ?_)
        · have hB9 : Best (spC n len ch sp a) len (k + 1) o1 := hB.skip (fun h => by have := ht1.mpr h.1; rw [c_18] at this; cases this)
          refine n_inc (lv' := [(3, .int (nI (k + 1))), (0, .ref (ad (0))), (1, .int (nI (a))), (2, .int (oI (o1)))]) hx hb d_M_spaceOf_50 hl (k := 3) rfl (by decide) rfl (fun ls hl => ?_)
          refine lv_goto (tgt := 4) hx hb d_M_spaceOf_53 (by decide) ?_
          exact ih4 (k + 1) (o1) _ _ ls (by omega) (by omega) (hB9) hP hS (lv_sub hl [1, 2, 3, 0] rfl)
        · refine lv_aload_n hx hb d_M_spaceOf_21 rfl (lv_at hl 0 rfl) ?_
          refine lv_iload_n hx hb d_M_spaceOf_22 rfl (lv_at hl 3 rfl) ?_
          refine c_V (own := R_M) (index := 103) (As := [.int (nI (k))]) (rest := []) hx hb hml hown hg hK (fun _ _ _ h => h) (fun _ _ => trivial) (fun _ h => h) hP hS 0 (c_M_isSpace l D cI cB ad hI M n len ch sp hR (k) (by omega) t2 ht2) (by decide) (ci := 8) rfl rfl k_931 k_933 k_p35 k_9 k_934 1 rfl (by decide +kernel) (by decide) rfl hl.1 (Nat.le_of_ble_eq_true rfl) d_M_spaceOf_23 (fun v M' H locs hq hP _ _ hS => ?_)
          obtain ⟨rfl, rfl⟩ := hq
          refine W.eq (g2 := F0 m 26 ls [.int (bI (t2))]) rfl ?_
          refine z_eq (t := t2) (tgt := 50) hx hb d_M_spaceOf_26 (by decide) (fun c_26 => ?_) (fun c_26 => ?_)
          · have hB9 : Best (spC n len ch sp a) len (k + 1) o1 := hB.skip (fun h => by have := ht2.mpr h.2; rw [c_26] at this; cases this)
            refine n_inc (lv' := [(3, .int (nI (k + 1))), (0, .ref (ad (0))), (1, .int (nI (a))), (2, .int (oI (o1)))]) hx hb d_M_spaceOf_50 hl (k := 3) rfl (by decide) rfl (fun ls hl => ?_)
            refine lv_goto (tgt := 4) hx hb d_M_spaceOf_53 (by decide) ?_
            exact ih4 (k + 1) (o1) _ _ ls (by omega) (by omega) (hB9) hP hS (lv_sub hl [1, 2, 3, 0] rfl)
          · refine lv_iload_n hx hb d_M_spaceOf_29 rfl (lv_at hl 2 rfl) ?_
            refine o_lt (o := o1) (tgt := 48) hx hb d_M_spaceOf_30 (by decide) (by intro q hq; have := hlt q hq; omega) (fun c_30 => ?_) (fun v_30 c_30 => ?_)
            · have hB9 : Best (spC n len ch sp a) len (k + 1) (some k) := hB.take ⟨ht1.mp c_18, ht2.mp c_26⟩ (fun b e => by rw [c_30] at e; cases e)
              refine lv_iload_n hx hb d_M_spaceOf_48 rfl (lv_at hl 3 rfl) ?_
              refine lv_istore_n (lv' := [(2, .int (nI (k))), (0, .ref (ad (0))), (1, .int (nI (a))), (3, .int (nI (k)))]) hx hb d_M_spaceOf_49 rfl hl (by decide) rfl (fun ls hl => ?_)
              refine n_inc (lv' := [(3, .int (nI (k + 1))), (2, .int (nI (k))), (0, .ref (ad (0))), (1, .int (nI (a)))]) hx hb d_M_spaceOf_50 hl (k := 3) rfl (by decide) rfl (fun ls hl => ?_)
              refine lv_goto (tgt := 4) hx hb d_M_spaceOf_53 (by decide) ?_
              exact ih4 (k + 1) (some (k)) _ _ ls (by omega) (by omega) (hB9) hP hS (lv_sub hl [2, 3, 1, 0] rfl)
            · subst c_30
              have hv := hlt v_30 rfl
              have hl : lv_has ls 4 [(0, .ref (ad (0))), (1, .int (nI (a))), (2, .int (nI (v_30))), (3, .int (nI (k)))] := hl
              refine lv_aload_n hx hb d_M_spaceOf_33 rfl (lv_at hl 0 rfl) ?_
              refine g_get (C := R_M) (T := T_M) (N := 19) (ci := 8) (v := .ref (ad (3))) hx hb hg i_M hown hK hP 0 (by decide) rfl rfl 4 (by decide) (hg _ k_797) rfl d_M_spaceOf_34 ?_
              refine lv_iload_n hx hb d_M_spaceOf_37 rfl (lv_at hl 3 rfl) ?_
              refine g_iald hx hb hK hP 3 0 (by decide) rfl rfl (by decide) (j := k) (by omega) d_M_spaceOf_38 ?_
              refine n_top (y := (nI (len (k)))) ((hR.2.2.1 (k) (by omega)).2.2) ?_
              refine lv_aload_n hx hb d_M_spaceOf_39 rfl (lv_at hl 0 rfl) ?_
              refine g_get (C := R_M) (T := T_M) (N := 19) (ci := 8) (v := .ref (ad (3))) hx hb hg i_M hown hK hP 0 (by decide) rfl rfl 4 (by decide) (hg _ k_797) rfl d_M_spaceOf_40 ?_
              refine lv_iload_n hx hb d_M_spaceOf_43 rfl (lv_at hl 2 rfl) ?_
              refine g_iald hx hb hK hP 3 0 (by decide) rfl rfl (by decide) (j := v_30) (by omega) d_M_spaceOf_44 ?_
              refine n_top (y := (nI (len (v_30)))) ((hR.2.2.1 (v_30) (by omega)).2.2) ?_
              refine n_le (a := len (k)) (b := len (v_30)) (tgt := 50) hx hb d_M_spaceOf_45 (by decide) (by have := hl24 (k) (by omega); omega) (by have := hl24 (v_30) (by omega); omega) (fun c_45 => ?_) (fun c_45 => ?_)
              · have hB9 : Best (spC n len ch sp a) len (k + 1) (some v_30) := hB.stay c_45
                refine n_inc (lv' := [(3, .int (nI (k + 1))), (0, .ref (ad (0))), (1, .int (nI (a))), (2, .int (nI (v_30)))]) hx hb d_M_spaceOf_50 hl (k := 3) rfl (by decide) rfl (fun ls hl => ?_)
                refine lv_goto (tgt := 4) hx hb d_M_spaceOf_53 (by decide) ?_
                exact ih4 (k + 1) (some (v_30)) _ _ ls (by omega) (by omega) (hB9) hP hS (lv_sub hl [1, 2, 3, 0] rfl)
              · have hB9 : Best (spC n len ch sp a) len (k + 1) (some k) := hB.take ⟨ht1.mp c_18, ht2.mp c_26⟩ (fun b e => by cases e; exact c_45)
                refine lv_iload_n hx hb d_M_spaceOf_48 rfl (lv_at hl 3 rfl) ?_
                refine lv_istore_n (lv' := [(2, .int (nI (k))), (0, .ref (ad (0))), (1, .int (nI (a))), (3, .int (nI (k)))]) hx hb d_M_spaceOf_49 rfl hl (by decide) rfl (fun ls hl => ?_)
                refine n_inc (lv' := [(3, .int (nI (k + 1))), (2, .int (nI (k))), (0, .ref (ad (0))), (1, .int (nI (a)))]) hx hb d_M_spaceOf_50 hl (k := 3) rfl (by decide) rfl (fun ls hl => ?_)
                refine lv_goto (tgt := 4) hx hb d_M_spaceOf_53 (by decide) ?_
                exact ih4 (k + 1) (some (k)) _ _ ls (by omega) (by omega) (hB9) hP hS (lv_sub hl [2, 3, 1, 0] rfl)
  refine lv_iconst (v := -1) hx hb d_M_spaceOf_0 (by decide) ?_
  refine lv_istore_n (lv' := [(2, .int (-1)), (0, .ref (ad (0))), (1, .int (nI (a)))]) hx hb d_M_spaceOf_1 rfl hl (by decide) rfl (fun ls hl => ?_)
  refine n_const (k := 0) hx hb d_M_spaceOf_2 (by decide) ?_
  refine lv_istore_n (lv' := [(3, .int (nI (0))), (2, .int (-1)), (0, .ref (ad (0))), (1, .int (nI (a)))]) hx hb d_M_spaceOf_3 rfl hl (by decide) rfl (fun ls hl => ?_)
  exact J4 (_ + 1) (0) (none) _ _ ls (Nat.lt_succ_self _) (by omega) (fun k h => absurd h (Nat.not_lt_zero k)) hP hS (lv_sub hl [2, 3, 1, 0] rfl)

set_option maxHeartbeats 4000000 in
set_option maxRecDepth 100000 in
theorem c_M_isBefore (l : Launch) (D : va_G) (cI cB : ClassId) (ad : Nat → Nat) (hI : GI 13 ad) (M : PM) (n : Nat) (len : Nat → Nat) (ch : Nat → Nat → Nat) (sp : Nat → Option Nat) (hR : RN M n len ch sp) (a b9 : Nat) (ha : a < n) (hb9 : b9 < n) (t : Bool) (ht : t = true ↔ ltT len ch a b9) : MM l D cI cB ad y_M_isBefore b_M_isBefore 4 (some .boolean) 1 22 [.ref (ad (0)), .int (nI (a)), .int (nI (b9))] M (fun v M' => v = some (.int (bI (t))) ∧ M = M') := by
  refine MC.of (by decide) (Nat.le_of_ble_eq_true rfl) ?_
  intro p e s m below meth c ls hx hb hr hml hown hg hlocks hK hN hP hS hl
  have hown : s.vm.findClass R_M = some m.cls := hown
  have hl : lv_has ls 4 [(0, .ref (ad (0))), (1, .int (nI (a))), (2, .int (nI (b9)))] := hl
  have hn60 : n ≤ 60 := hR.1
  have hl24 := hR.2.2.1
  have hspn := hR.2.2.2.2.1
  have hch := hR.2.2.2.2.2
  have la := hl24 a ha
  have lb := hl24 b9 hb9
  have J2 : ∀ (fu2 : Nat) (i : Nat) (H : Heap) (locs : List Loc) (ls : Array Slot), len a - i < fu2 → (i ≤ len a) → (i ≤ len b9) → (∀ q, q < i → ch a q = ch b9 q) → va_P D clsA (gw 13 ad (cfM cI cB ad) M) H → va_S (GA 13 ad) s.heap H locs → lv_has ls 4 [(0, .ref (ad (0))), (1, .int (nI (a))), (2, .int (nI (b9))), (3, .int (nI (i)))] → W p l e (rm_ 1 22) s m ([.ref (ad (0)), .int (nI (a)), .int (nI (b9))] : List Value).toArray below meth c H locs 0 0 (MQ below (GQ D 13 ad (cfM cI cB ad) (fun v M' => v = some (.int (bI (t))) ∧ M = M')) ([.ref (ad (0)), .int (nI (a)), .int (nI (b9))] : List Value).toArray s 0 0 (GA 13 ad)) (F0 m 2 ls []) := by
    intro fu2
    induction fu2 with
    | zero => intro i H locs ls hfu; exact absurd hfu (Nat.not_lt_zero _)
    | succ fu2 ih2 =>
      intro i H locs ls hfu2 hi1 hi2 hp hP hS hl
      refine lv_iload_n hx hb d_M_isBefore_2 rfl (lv_at hl 3 rfl) ?_
      refine lv_aload_n hx hb d_M_isBefore_3 rfl (lv_at hl 0 rfl) ?_
      refine g_get (C := R_M) (T := T_M) (N := 19) (ci := 8) (v := .ref (ad (3))) hx hb hg i_M hown hK hP 0 (by decide) rfl rfl 4 (by decide) (hg _ k_797) rfl d_M_isBefore_4 ?_
      refine lv_iload_n hx hb d_M_isBefore_7 rfl (lv_at hl 1 rfl) ?_
      refine g_iald hx hb hK hP 3 0 (by decide) rfl rfl (by decide) (j := a) (by omega) d_M_isBefore_8 ?_
      refine n_top (y := (nI (len (a)))) ((hR.2.2.1 (a) (by omega)).2.2) ?_
      refine n_ge (a := i) (b := len (a)) (tgt := 43) hx hb d_M_isBefore_9 (by decide) (by omega) (by omega) (fun c_9 => ?_) (fun c_9 => ?_)
      · have hE := ltT_at (ch := ch) hi1 hi2 hp (Or.inl (by omega))
        refine lv_iload_n hx hb d_M_isBefore_43 rfl (lv_at hl 3 rfl) ?_
        refine lv_aload_n hx hb d_M_isBefore_44 rfl (lv_at hl 0 rfl) ?_
        refine g_get (C := R_M) (T := T_M) (N := 19) (ci := 8) (v := .ref (ad (3))) hx hb hg i_M hown hK hP 0 (by decide) rfl rfl 4 (by decide) (hg _ k_797) rfl d_M_isBefore_45 ?_
        refine lv_iload_n hx hb d_M_isBefore_48 rfl (lv_at hl 1 rfl) ?_
        refine g_iald hx hb hK hP 3 0 (by decide) rfl rfl (by decide) (j := a) (by omega) d_M_isBefore_49 ?_
        refine n_top (y := (nI (len (a)))) ((hR.2.2.1 (a) (by omega)).2.2) ?_
        refine n_ne (a := i) (b := len (a)) (tgt := 71) hx hb d_M_isBefore_50 (by decide) (by omega) (by omega) (fun c_50 => ?_) (fun c_50 => ?_)
        · refine lv_iload_n hx hb d_M_isBefore_71 rfl (lv_at hl 3 rfl) ?_
          refine lv_aload_n hx hb d_M_isBefore_72 rfl (lv_at hl 0 rfl) ?_
          refine g_get (C := R_M) (T := T_M) (N := 19) (ci := 8) (v := .ref (ad (3))) hx hb hg i_M hown hK hP 0 (by decide) rfl rfl 4 (by decide) (hg _ k_797) rfl d_M_isBefore_73 ?_
          refine lv_iload_n hx hb d_M_isBefore_76 rfl (lv_at hl 2 rfl) ?_
          refine g_iald hx hb hK hP 3 0 (by decide) rfl rfl (by decide) (j := b9) (by omega) d_M_isBefore_77 ?_
          refine n_top (y := (nI (len (b9)))) ((hR.2.2.1 (b9) (by omega)).2.2) ?_
          refine n_ge (a := i) (b := len (b9)) (tgt := 100) hx hb d_M_isBefore_78 (by decide) (by omega) (by omega) (fun c_78 => ?_) (fun c_78 => ?_)
          · have h9 : t = false := b_f ht (by rw [hE]; omega)
            refine n_const (k := 0) hx hb d_M_isBefore_100 (by decide) ?_
            exact r_z hx hb hr hlocks (rfl) hP hS (⟨bz0 (h9), rfl⟩) d_M_isBefore_101
          · have hca := hch a i ha (by omega)
            have hcb := hch b9 i hb9 (by omega)
            refine lv_aload_n hx hb d_M_isBefore_81 rfl (lv_at hl 0 rfl) ?_
            refine lv_iload_n hx hb d_M_isBefore_82 rfl (lv_at hl 1 rfl) ?_
            refine lv_iload_n hx hb d_M_isBefore_83 rfl (lv_at hl 3 rfl) ?_
            refine c_V (own := R_M) (index := 64) (As := [.int (nI (a)), .int (nI (i))]) (rest := []) hx hb hml hown hg hK (fun _ _ _ h => h) (fun _ _ => trivial) (fun _ h => h) hP hS 0 (c_M_at l D cI cB ad hI M n len ch sp hR (a) (i) (by omega) (by omega)) (by decide) (ci := 8) rfl rfl k_887 k_889 k_p27 k_9 k_890 2 rfl (by decide +kernel) (by decide) rfl hl.1 (Nat.le_of_ble_eq_true rfl) d_M_isBefore_84 (fun v M' H locs hq hP _ _ hS => ?_)
            obtain ⟨rfl, rfl⟩ := hq
            refine W.eq (g2 := F0 m 87 ls [.int (nI (ch (a) (i)))]) rfl ?_
            refine lv_aload_n hx hb d_M_isBefore_87 rfl (lv_at hl 0 rfl) ?_
            refine lv_iload_n hx hb d_M_isBefore_88 rfl (lv_at hl 2 rfl) ?_
            refine lv_iload_n hx hb d_M_isBefore_89 rfl (lv_at hl 3 rfl) ?_
            refine c_V (own := R_M) (index := 64) (As := [.int (nI (b9)), .int (nI (i))]) (rest := [.int (nI (ch (a) (i)))]) hx hb hml hown hg hK (fun _ _ _ h => h) (fun _ _ => trivial) (fun _ h => h) hP hS 0 (c_M_at l D cI cB ad hI M n len ch sp hR (b9) (i) (by omega) (by omega)) (by decide) (ci := 8) rfl rfl k_887 k_889 k_p27 k_9 k_890 2 rfl (by decide +kernel) (by decide) rfl hl.1 (Nat.le_of_ble_eq_true rfl) d_M_isBefore_90 (fun v M' H locs hq hP _ _ hS => ?_)
            obtain ⟨rfl, rfl⟩ := hq
            refine W.eq (g2 := F0 m 93 ls [.int (nI (ch (b9) (i))), .int (nI (ch (a) (i)))]) rfl ?_
            refine n_ge (a := ch (a) (i)) (b := ch (b9) (i)) (tgt := 100) hx hb d_M_isBefore_93 (by decide) (by omega) (by omega) (fun c_93 => ?_) (fun c_93 => ?_)
            · have h9 : t = false := b_f ht (by rw [hE]; omega)
              refine n_const (k := 0) hx hb d_M_isBefore_100 (by decide) ?_
              exact r_z hx hb hr hlocks (rfl) hP hS (⟨bz0 (h9), rfl⟩) d_M_isBefore_101
            · have h9 : t = true := ht.mpr (by rw [hE]; omega)
              refine n_const (k := 1) hx hb d_M_isBefore_96 (by decide) ?_
              refine lv_goto (tgt := 101) hx hb d_M_isBefore_97 (by decide) ?_
              exact r_z hx hb hr hlocks (rfl) hP hS (⟨bz1 (h9), rfl⟩) d_M_isBefore_101
        · refine lv_aload_n hx hb d_M_isBefore_53 rfl (lv_at hl 0 rfl) ?_
          refine g_get (C := R_M) (T := T_M) (N := 19) (ci := 8) (v := .ref (ad (3))) hx hb hg i_M hown hK hP 0 (by decide) rfl rfl 4 (by decide) (hg _ k_797) rfl d_M_isBefore_54 ?_
          refine lv_iload_n hx hb d_M_isBefore_57 rfl (lv_at hl 2 rfl) ?_
          refine g_iald hx hb hK hP 3 0 (by decide) rfl rfl (by decide) (j := b9) (by omega) d_M_isBefore_58 ?_
          refine n_top (y := (nI (len (b9)))) ((hR.2.2.1 (b9) (by omega)).2.2) ?_
          refine lv_iload_n hx hb d_M_isBefore_59 rfl (lv_at hl 3 rfl) ?_
          refine n_le (a := len (b9)) (b := i) (tgt := 67) hx hb d_M_isBefore_60 (by decide) (by omega) (by omega) (fun c_60 => ?_) (fun c_60 => ?_)
          · have h9 : t = false := b_f ht (by rw [hE]; omega)
            refine n_const (k := 0) hx hb d_M_isBefore_67 (by decide) ?_
            refine lv_goto (tgt := 101) hx hb d_M_isBefore_68 (by decide) ?_
            exact r_z hx hb hr hlocks (rfl) hP hS (⟨bz0 (h9), rfl⟩) d_M_isBefore_101
          · have h9 : t = true := ht.mpr (by rw [hE]; omega)
            refine n_const (k := 1) hx hb d_M_isBefore_63 (by decide) ?_
            refine lv_goto (tgt := 101) hx hb d_M_isBefore_64 (by decide) ?_
            exact r_z hx hb hr hlocks (rfl) hP hS (⟨bz1 (h9), rfl⟩) d_M_isBefore_101
      · refine lv_iload_n hx hb d_M_isBefore_12 rfl (lv_at hl 3 rfl) ?_
        refine lv_aload_n hx hb d_M_isBefore_13 rfl (lv_at hl 0 rfl) ?_
        refine g_get (C := R_M) (T := T_M) (N := 19) (ci := 8) (v := .ref (ad (3))) hx hb hg i_M hown hK hP 0 (by decide) rfl rfl 4 (by decide) (hg _ k_797) rfl d_M_isBefore_14 ?_
        refine lv_iload_n hx hb d_M_isBefore_17 rfl (lv_at hl 2 rfl) ?_
        refine g_iald hx hb hK hP 3 0 (by decide) rfl rfl (by decide) (j := b9) (by omega) d_M_isBefore_18 ?_
        refine n_top (y := (nI (len (b9)))) ((hR.2.2.1 (b9) (by omega)).2.2) ?_
        refine n_ge (a := i) (b := len (b9)) (tgt := 43) hx hb d_M_isBefore_19 (by decide) (by omega) (by omega) (fun c_19 => ?_) (fun c_19 => ?_)
        · have hE := ltT_at (ch := ch) hi1 hi2 hp (Or.inr (Or.inl (by omega)))
          refine lv_iload_n hx hb d_M_isBefore_43 rfl (lv_at hl 3 rfl) ?_
          refine lv_aload_n hx hb d_M_isBefore_44 rfl (lv_at hl 0 rfl) ?_
          refine g_get (C := R_M) (T := T_M) (N := 19) (ci := 8) (v := .ref (ad (3))) hx hb hg i_M hown hK hP 0 (by decide) rfl rfl 4 (by decide) (hg _ k_797) rfl d_M_isBefore_45 ?_
          refine lv_iload_n hx hb d_M_isBefore_48 rfl (lv_at hl 1 rfl) ?_
          refine g_iald hx hb hK hP 3 0 (by decide) rfl rfl (by decide) (j := a) (by omega) d_M_isBefore_49 ?_
          refine n_top (y := (nI (len (a)))) ((hR.2.2.1 (a) (by omega)).2.2) ?_
          refine n_ne (a := i) (b := len (a)) (tgt := 71) hx hb d_M_isBefore_50 (by decide) (by omega) (by omega) (fun c_50 => ?_) (fun c_50 => ?_)
          · refine lv_iload_n hx hb d_M_isBefore_71 rfl (lv_at hl 3 rfl) ?_
            refine lv_aload_n hx hb d_M_isBefore_72 rfl (lv_at hl 0 rfl) ?_
            refine g_get (C := R_M) (T := T_M) (N := 19) (ci := 8) (v := .ref (ad (3))) hx hb hg i_M hown hK hP 0 (by decide) rfl rfl 4 (by decide) (hg _ k_797) rfl d_M_isBefore_73 ?_
            refine lv_iload_n hx hb d_M_isBefore_76 rfl (lv_at hl 2 rfl) ?_
            refine g_iald hx hb hK hP 3 0 (by decide) rfl rfl (by decide) (j := b9) (by omega) d_M_isBefore_77 ?_
            refine n_top (y := (nI (len (b9)))) ((hR.2.2.1 (b9) (by omega)).2.2) ?_
            refine n_ge (a := i) (b := len (b9)) (tgt := 100) hx hb d_M_isBefore_78 (by decide) (by omega) (by omega) (fun c_78 => ?_) (fun c_78 => ?_)
            · have h9 : t = false := b_f ht (by rw [hE]; omega)
              refine n_const (k := 0) hx hb d_M_isBefore_100 (by decide) ?_
              exact r_z hx hb hr hlocks (rfl) hP hS (⟨bz0 (h9), rfl⟩) d_M_isBefore_101
            · have hca := hch a i ha (by omega)
              have hcb := hch b9 i hb9 (by omega)
              refine lv_aload_n hx hb d_M_isBefore_81 rfl (lv_at hl 0 rfl) ?_
              refine lv_iload_n hx hb d_M_isBefore_82 rfl (lv_at hl 1 rfl) ?_
              refine lv_iload_n hx hb d_M_isBefore_83 rfl (lv_at hl 3 rfl) ?_
              refine c_V (own := R_M) (index := 64) (As := [.int (nI (a)), .int (nI (i))]) (rest := []) hx hb hml hown hg hK (fun _ _ _ h => h) (fun _ _ => trivial) (fun _ h => h) hP hS 0 (c_M_at l D cI cB ad hI M n len ch sp hR (a) (i) (by omega) (by omega)) (by decide) (ci := 8) rfl rfl k_887 k_889 k_p27 k_9 k_890 2 rfl (by decide +kernel) (by decide) rfl hl.1 (Nat.le_of_ble_eq_true rfl) d_M_isBefore_84 (fun v M' H locs hq hP _ _ hS => ?_)
              obtain ⟨rfl, rfl⟩ := hq
              refine W.eq (g2 := F0 m 87 ls [.int (nI (ch (a) (i)))]) rfl ?_
              refine lv_aload_n hx hb d_M_isBefore_87 rfl (lv_at hl 0 rfl) ?_
              refine lv_iload_n hx hb d_M_isBefore_88 rfl (lv_at hl 2 rfl) ?_
              refine lv_iload_n hx hb d_M_isBefore_89 rfl (lv_at hl 3 rfl) ?_
              refine c_V (own := R_M) (index := 64) (As := [.int (nI (b9)), .int (nI (i))]) (rest := [.int (nI (ch (a) (i)))]) hx hb hml hown hg hK (fun _ _ _ h => h) (fun _ _ => trivial) (fun _ h => h) hP hS 0 (c_M_at l D cI cB ad hI M n len ch sp hR (b9) (i) (by omega) (by omega)) (by decide) (ci := 8) rfl rfl k_887 k_889 k_p27 k_9 k_890 2 rfl (by decide +kernel) (by decide) rfl hl.1 (Nat.le_of_ble_eq_true rfl) d_M_isBefore_90 (fun v M' H locs hq hP _ _ hS => ?_)
              obtain ⟨rfl, rfl⟩ := hq
              refine W.eq (g2 := F0 m 93 ls [.int (nI (ch (b9) (i))), .int (nI (ch (a) (i)))]) rfl ?_
              refine n_ge (a := ch (a) (i)) (b := ch (b9) (i)) (tgt := 100) hx hb d_M_isBefore_93 (by decide) (by omega) (by omega) (fun c_93 => ?_) (fun c_93 => ?_)
              · have h9 : t = false := b_f ht (by rw [hE]; omega)
                refine n_const (k := 0) hx hb d_M_isBefore_100 (by decide) ?_
                exact r_z hx hb hr hlocks (rfl) hP hS (⟨bz0 (h9), rfl⟩) d_M_isBefore_101
              · have h9 : t = true := ht.mpr (by rw [hE]; omega)
                refine n_const (k := 1) hx hb d_M_isBefore_96 (by decide) ?_
                refine lv_goto (tgt := 101) hx hb d_M_isBefore_97 (by decide) ?_
                exact r_z hx hb hr hlocks (rfl) hP hS (⟨bz1 (h9), rfl⟩) d_M_isBefore_101
          · refine lv_aload_n hx hb d_M_isBefore_53 rfl (lv_at hl 0 rfl) ?_
            refine g_get (C := R_M) (T := T_M) (N := 19) (ci := 8) (v := .ref (ad (3))) hx hb hg i_M hown hK hP 0 (by decide) rfl rfl 4 (by decide) (hg _ k_797) rfl d_M_isBefore_54 ?_
            refine lv_iload_n hx hb d_M_isBefore_57 rfl (lv_at hl 2 rfl) ?_
            refine g_iald hx hb hK hP 3 0 (by decide) rfl rfl (by decide) (j := b9) (by omega) d_M_isBefore_58 ?_
            refine n_top (y := (nI (len (b9)))) ((hR.2.2.1 (b9) (by omega)).2.2) ?_
            refine lv_iload_n hx hb d_M_isBefore_59 rfl (lv_at hl 3 rfl) ?_
            refine n_le (a := len (b9)) (b := i) (tgt := 67) hx hb d_M_isBefore_60 (by decide) (by omega) (by omega) (fun c_60 => ?_) (fun c_60 => ?_)
            · have h9 : t = false := b_f ht (by rw [hE]; omega)
              refine n_const (k := 0) hx hb d_M_isBefore_67 (by decide) ?_
              refine lv_goto (tgt := 101) hx hb d_M_isBefore_68 (by decide) ?_
              exact r_z hx hb hr hlocks (rfl) hP hS (⟨bz0 (h9), rfl⟩) d_M_isBefore_101
            · have h9 : t = true := ht.mpr (by rw [hE]; omega)
              refine n_const (k := 1) hx hb d_M_isBefore_63 (by decide) ?_
              refine lv_goto (tgt := 101) hx hb d_M_isBefore_64 (by decide) ?_
              exact r_z hx hb hr hlocks (rfl) hP hS (⟨bz1 (h9), rfl⟩) d_M_isBefore_101
        · have hca := hch a i ha (by omega)
          have hcb := hch b9 i hb9 (by omega)
          refine lv_aload_n hx hb d_M_isBefore_22 rfl (lv_at hl 0 rfl) ?_
          refine lv_iload_n hx hb d_M_isBefore_23 rfl (lv_at hl 1 rfl) ?_
          refine lv_iload_n hx hb d_M_isBefore_24 rfl (lv_at hl 3 rfl) ?_
          refine c_V (own := R_M) (index := 64) (As := [.int (nI (a)), .int (nI (i))]) (rest := []) hx hb hml hown hg hK (fun _ _ _ h => h) (fun _ _ => trivial) (fun _ h => h) hP hS 0 (c_M_at l D cI cB ad hI M n len ch sp hR (a) (i) (by omega) (by omega)) (by decide) (ci := 8) rfl rfl k_887 k_889 k_p27 k_9 k_890 2 rfl (by decide +kernel) (by decide) rfl hl.1 (Nat.le_of_ble_eq_true rfl) d_M_isBefore_25 (fun v M' H locs hq hP _ _ hS => ?_)
          obtain ⟨rfl, rfl⟩ := hq
          refine W.eq (g2 := F0 m 28 ls [.int (nI (ch (a) (i)))]) rfl ?_
          refine lv_aload_n hx hb d_M_isBefore_28 rfl (lv_at hl 0 rfl) ?_
          refine lv_iload_n hx hb d_M_isBefore_29 rfl (lv_at hl 2 rfl) ?_
          refine lv_iload_n hx hb d_M_isBefore_30 rfl (lv_at hl 3 rfl) ?_
          refine c_V (own := R_M) (index := 64) (As := [.int (nI (b9)), .int (nI (i))]) (rest := [.int (nI (ch (a) (i)))]) hx hb hml hown hg hK (fun _ _ _ h => h) (fun _ _ => trivial) (fun _ h => h) hP hS 0 (c_M_at l D cI cB ad hI M n len ch sp hR (b9) (i) (by omega) (by omega)) (by decide) (ci := 8) rfl rfl k_887 k_889 k_p27 k_9 k_890 2 rfl (by decide +kernel) (by decide) rfl hl.1 (Nat.le_of_ble_eq_true rfl) d_M_isBefore_31 (fun v M' H locs hq hP _ _ hS => ?_)
          obtain ⟨rfl, rfl⟩ := hq
          refine W.eq (g2 := F0 m 34 ls [.int (nI (ch (b9) (i))), .int (nI (ch (a) (i)))]) rfl ?_
          refine n_ne (a := ch (a) (i)) (b := ch (b9) (i)) (tgt := 43) hx hb d_M_isBefore_34 (by decide) (by omega) (by omega) (fun c_34 => ?_) (fun c_34 => ?_)
          · have hE := ltT_at (ch := ch) hi1 hi2 hp (Or.inr (Or.inr c_34))
            refine lv_iload_n hx hb d_M_isBefore_43 rfl (lv_at hl 3 rfl) ?_
            refine lv_aload_n hx hb d_M_isBefore_44 rfl (lv_at hl 0 rfl) ?_
            refine g_get (C := R_M) (T := T_M) (N := 19) (ci := 8) (v := .ref (ad (3))) hx hb hg i_M hown hK hP 0 (by decide) rfl rfl 4 (by decide) (hg _ k_797) rfl d_M_isBefore_45 ?_
            refine lv_iload_n hx hb d_M_isBefore_48 rfl (lv_at hl 1 rfl) ?_
            refine g_iald hx hb hK hP 3 0 (by decide) rfl rfl (by decide) (j := a) (by omega) d_M_isBefore_49 ?_
            refine n_top (y := (nI (len (a)))) ((hR.2.2.1 (a) (by omega)).2.2) ?_
            refine n_ne (a := i) (b := len (a)) (tgt := 71) hx hb d_M_isBefore_50 (by decide) (by omega) (by omega) (fun c_50 => ?_) (fun c_50 => ?_)
            · refine lv_iload_n hx hb d_M_isBefore_71 rfl (lv_at hl 3 rfl) ?_
              refine lv_aload_n hx hb d_M_isBefore_72 rfl (lv_at hl 0 rfl) ?_
              refine g_get (C := R_M) (T := T_M) (N := 19) (ci := 8) (v := .ref (ad (3))) hx hb hg i_M hown hK hP 0 (by decide) rfl rfl 4 (by decide) (hg _ k_797) rfl d_M_isBefore_73 ?_
              refine lv_iload_n hx hb d_M_isBefore_76 rfl (lv_at hl 2 rfl) ?_
              refine g_iald hx hb hK hP 3 0 (by decide) rfl rfl (by decide) (j := b9) (by omega) d_M_isBefore_77 ?_
              refine n_top (y := (nI (len (b9)))) ((hR.2.2.1 (b9) (by omega)).2.2) ?_
              refine n_ge (a := i) (b := len (b9)) (tgt := 100) hx hb d_M_isBefore_78 (by decide) (by omega) (by omega) (fun c_78 => ?_) (fun c_78 => ?_)
              · have h9 : t = false := b_f ht (by rw [hE]; omega)
                refine n_const (k := 0) hx hb d_M_isBefore_100 (by decide) ?_
                exact r_z hx hb hr hlocks (rfl) hP hS (⟨bz0 (h9), rfl⟩) d_M_isBefore_101
              · have hca := hch a i ha (by omega)
                have hcb := hch b9 i hb9 (by omega)
                refine lv_aload_n hx hb d_M_isBefore_81 rfl (lv_at hl 0 rfl) ?_
                refine lv_iload_n hx hb d_M_isBefore_82 rfl (lv_at hl 1 rfl) ?_
                refine lv_iload_n hx hb d_M_isBefore_83 rfl (lv_at hl 3 rfl) ?_
                refine c_V (own := R_M) (index := 64) (As := [.int (nI (a)), .int (nI (i))]) (rest := []) hx hb hml hown hg hK (fun _ _ _ h => h) (fun _ _ => trivial) (fun _ h => h) hP hS 0 (c_M_at l D cI cB ad hI M n len ch sp hR (a) (i) (by omega) (by omega)) (by decide) (ci := 8) rfl rfl k_887 k_889 k_p27 k_9 k_890 2 rfl (by decide +kernel) (by decide) rfl hl.1 (Nat.le_of_ble_eq_true rfl) d_M_isBefore_84 (fun v M' H locs hq hP _ _ hS => ?_)
                obtain ⟨rfl, rfl⟩ := hq
                refine W.eq (g2 := F0 m 87 ls [.int (nI (ch (a) (i)))]) rfl ?_
                refine lv_aload_n hx hb d_M_isBefore_87 rfl (lv_at hl 0 rfl) ?_
                refine lv_iload_n hx hb d_M_isBefore_88 rfl (lv_at hl 2 rfl) ?_
                refine lv_iload_n hx hb d_M_isBefore_89 rfl (lv_at hl 3 rfl) ?_
                refine c_V (own := R_M) (index := 64) (As := [.int (nI (b9)), .int (nI (i))]) (rest := [.int (nI (ch (a) (i)))]) hx hb hml hown hg hK (fun _ _ _ h => h) (fun _ _ => trivial) (fun _ h => h) hP hS 0 (c_M_at l D cI cB ad hI M n len ch sp hR (b9) (i) (by omega) (by omega)) (by decide) (ci := 8) rfl rfl k_887 k_889 k_p27 k_9 k_890 2 rfl (by decide +kernel) (by decide) rfl hl.1 (Nat.le_of_ble_eq_true rfl) d_M_isBefore_90 (fun v M' H locs hq hP _ _ hS => ?_)
                obtain ⟨rfl, rfl⟩ := hq
                refine W.eq (g2 := F0 m 93 ls [.int (nI (ch (b9) (i))), .int (nI (ch (a) (i)))]) rfl ?_
                refine n_ge (a := ch (a) (i)) (b := ch (b9) (i)) (tgt := 100) hx hb d_M_isBefore_93 (by decide) (by omega) (by omega) (fun c_93 => ?_) (fun c_93 => ?_)
                · have h9 : t = false := b_f ht (by rw [hE]; omega)
                  refine n_const (k := 0) hx hb d_M_isBefore_100 (by decide) ?_
                  exact r_z hx hb hr hlocks (rfl) hP hS (⟨bz0 (h9), rfl⟩) d_M_isBefore_101
                · have h9 : t = true := ht.mpr (by rw [hE]; omega)
                  refine n_const (k := 1) hx hb d_M_isBefore_96 (by decide) ?_
                  refine lv_goto (tgt := 101) hx hb d_M_isBefore_97 (by decide) ?_
                  exact r_z hx hb hr hlocks (rfl) hP hS (⟨bz1 (h9), rfl⟩) d_M_isBefore_101
            · refine lv_aload_n hx hb d_M_isBefore_53 rfl (lv_at hl 0 rfl) ?_
              refine g_get (C := R_M) (T := T_M) (N := 19) (ci := 8) (v := .ref (ad (3))) hx hb hg i_M hown hK hP 0 (by decide) rfl rfl 4 (by decide) (hg _ k_797) rfl d_M_isBefore_54 ?_
              refine lv_iload_n hx hb d_M_isBefore_57 rfl (lv_at hl 2 rfl) ?_
              refine g_iald hx hb hK hP 3 0 (by decide) rfl rfl (by decide) (j := b9) (by omega) d_M_isBefore_58 ?_
              refine n_top (y := (nI (len (b9)))) ((hR.2.2.1 (b9) (by omega)).2.2) ?_
              refine lv_iload_n hx hb d_M_isBefore_59 rfl (lv_at hl 3 rfl) ?_
              refine n_le (a := len (b9)) (b := i) (tgt := 67) hx hb d_M_isBefore_60 (by decide) (by omega) (by omega) (fun c_60 => ?_) (fun c_60 => ?_)
              · have h9 : t = false := b_f ht (by rw [hE]; omega)
                refine n_const (k := 0) hx hb d_M_isBefore_67 (by decide) ?_
                refine lv_goto (tgt := 101) hx hb d_M_isBefore_68 (by decide) ?_
                exact r_z hx hb hr hlocks (rfl) hP hS (⟨bz0 (h9), rfl⟩) d_M_isBefore_101
              · have h9 : t = true := ht.mpr (by rw [hE]; omega)
                refine n_const (k := 1) hx hb d_M_isBefore_63 (by decide) ?_
                refine lv_goto (tgt := 101) hx hb d_M_isBefore_64 (by decide) ?_
                exact r_z hx hb hr hlocks (rfl) hP hS (⟨bz1 (h9), rfl⟩) d_M_isBefore_101
          · refine n_inc (lv' := [(3, .int (nI (i + 1))), (0, .ref (ad (0))), (1, .int (nI (a))), (2, .int (nI (b9)))]) hx hb d_M_isBefore_37 hl (k := 3) rfl (by decide) rfl (fun ls hl => ?_)
            refine lv_goto (tgt := 2) hx hb d_M_isBefore_40 (by decide) ?_
            exact ih2 (i + 1) _ _ ls (by omega) (by omega) (by omega) (lt_S hp c_34) hP hS (lv_sub hl [1, 2, 3, 0] rfl)
  refine n_const (k := 0) hx hb d_M_isBefore_0 (by decide) ?_
  refine lv_istore_n (lv' := [(3, .int (nI (0))), (0, .ref (ad (0))), (1, .int (nI (a))), (2, .int (nI (b9)))]) hx hb d_M_isBefore_1 rfl hl (by decide) rfl (fun ls hl => ?_)
  exact J2 (_ + 1) (0) _ _ ls (Nat.lt_succ_self _) (by omega) (by omega) (by intro q hq; exact absurd hq (Nat.not_lt_zero q)) hP hS (lv_sub hl [1, 2, 3, 0] rfl)

set_option maxHeartbeats 4000000 in
set_option maxRecDepth 100000 in
theorem c_M_bestOf (l : Launch) (D : va_G) (cI cB : ClassId) (ad : Nat → Nat) (hI : GI 13 ad) (M : PM) (n : Nat) (len : Nat → Nat) (ch : Nat → Nat → Nat) (sp : Nat → Option Nat) (hR : RN M n len ch sp) (hDN : DN n len ch) (so : Option Nat) (hso : ∀ q, so = some q → q < n) (o : Option Nat) (hO : Top (fun k => so ≠ none ∧ sp k = so) (btS len ch) n o) : MM l D cI cB ad y_M_bestOf b_M_bestOf 4 (some .int) 2 45 [.ref (ad (0)), .int (oI (so))] M (fun v M' => v = some (.int (oI (o))) ∧ M = M') := by
  refine MC.of (by decide) (Nat.le_of_ble_eq_true rfl) ?_
  intro p e s m below meth c ls hx hb hr hml hown hg hlocks hK hN hP hS hl
  have hown : s.vm.findClass R_M = some m.cls := hown
  have hl : lv_has ls 4 [(0, .ref (ad (0))), (1, .int (oI (so)))] := hl
  have hn60 : n ≤ 60 := hR.1
  have hl24 := hR.2.2.1
  have hspn := hR.2.2.2.2.1
  have hch := hR.2.2.2.2.2
  have J4 : ∀ (fu4 : Nat) (k : Nat) (o1 : Option Nat) (H : Heap) (locs : List Loc) (ls : Array Slot), n - k < fu4 → (k ≤ n) → (Top (fun k => so ≠ none ∧ sp k = so) (btS len ch) k o1) → va_P D clsA (gw 13 ad (cfM cI cB ad) M) H → va_S (GA 13 ad) s.heap H locs → lv_has ls 4 [(0, .ref (ad (0))), (1, .int (oI (so))), (2, .int (oI (o1))), (3, .int (nI (k)))] → W p l e (rm_ 2 45) s m ([.ref (ad (0)), .int (oI (so))] : List Value).toArray below meth c H locs 0 0 (MQ below (GQ D 13 ad (cfM cI cB ad) (fun v M' => v = some (.int (oI (o))) ∧ M = M')) ([.ref (ad (0)), .int (oI (so))] : List Value).toArray s 0 0 (GA 13 ad)) (F0 m 4 ls []) := by
    intro fu4
    induction fu4 with
    | zero => intro k o1 H locs ls hfu; exact absurd hfu (Nat.not_lt_zero _)
    | succ fu4 ih4 =>
      intro k o1 H locs ls hfu4 hk hB hP hS hl
      refine lv_iload_n hx hb d_M_bestOf_4 rfl (lv_at hl 3 rfl) ?_
      refine lv_aload_n hx hb d_M_bestOf_5 rfl (lv_at hl 0 rfl) ?_
      refine g_get (C := R_M) (T := T_M) (N := 19) (ci := 8) (v := .int (M 0 5)) hx hb hg i_M hown hK hP 0 (by decide) rfl rfl 5 (by decide) (hg _ k_798) rfl d_M_bestOf_6 ?_
      refine n_top (y := (nI (n))) (hR.2.1) ?_
      refine n_ge (a := k) (b := n) (tgt := 80) hx hb d_M_bestOf_9 (by decide) (by omega) (by omega) (fun c_9 => ?_) (fun c_9 => ?_)
      · refine lv_iload_n hx hb d_M_bestOf_80 rfl (lv_at hl 2 rfl) ?_
        exact r_i hx hb hr hlocks hP hS (⟨by rw [hO.uniq hDN (o' := o1) (by have e9 : k = n := (by omega); rw [e9] at hB; exact hB)], rfl⟩) d_M_bestOf_81
      · have hlt : ∀ q, o1 = some q → q < k := hB.lt
        refine lv_iload_n hx hb d_M_bestOf_12 rfl (lv_at hl 1 rfl) ?_
        refine o_lt (o := so) (tgt := 74) hx hb d_M_bestOf_13 (by decide) (by intro q hq; have := hso q hq; omega) (fun c_13 => ?_) (fun v_13 c_13 => ?_)
        · have hB9 : Top (fun k => so ≠ none ∧ sp k = so) (btS len ch) (k + 1) o1 := hB.skip (fun h => h.1 c_13)
          refine n_inc (lv' := [(3, .int (nI (k + 1))), (0, .ref (ad (0))), (1, .int (oI (so))), (2, .int (oI (o1)))]) hx hb d_M_bestOf_74 hl (k := 3) rfl (by decide) rfl (fun ls hl => ?_)
          refine lv_goto (tgt := 4) hx hb d_M_bestOf_77 (by decide) ?_
          exact ih4 (k + 1) (o1) _ _ ls (by omega) (by omega) (hB9) hP hS (lv_sub hl [1, 2, 3, 0] rfl)
        · refine lv_aload_n hx hb d_M_bestOf_16 rfl (lv_at hl 0 rfl) ?_
          refine g_get (C := R_M) (T := T_M) (N := 19) (ci := 8) (v := .ref (ad (4))) hx hb hg i_M hown hK hP 0 (by decide) rfl rfl 6 (by decide) (hg _ k_799) rfl d_M_bestOf_17 ?_
          refine lv_iload_n hx hb d_M_bestOf_20 rfl (lv_at hl 3 rfl) ?_
          refine g_iald hx hb hK hP 4 0 (by decide) rfl rfl (by decide) (j := k) (by omega) d_M_bestOf_21 ?_
          refine n_top (y := (oI (sp (k)))) (hR.2.2.2.1 (k) (by omega)) ?_
          refine lv_iload_n hx hb d_M_bestOf_22 rfl (lv_at hl 1 rfl) ?_
          refine oo_eq (a := sp (k)) (b := so) (tgt := 29) hx hb d_M_bestOf_23 (by decide) (by intro q hq; have := hspn _ q (by omega) hq; omega) (by intro q hq; have := hso q hq; omega) (fun c_23 => ?_) (fun c_23 => ?_)
          · have hPk : (fun k => so ≠ none ∧ sp k = so) k := ⟨by rw [c_13]; simp, c_23⟩
            refine lv_iload_n hx hb d_M_bestOf_29 rfl (lv_at hl 2 rfl) ?_
            refine o_lt (o := o1) (tgt := 72) hx hb d_M_bestOf_30 (by decide) (by intro q hq; have := hlt q hq; omega) (fun c_30 => ?_) (fun v_30 c_30 => ?_)
            · have hB9 : Top (fun k => so ≠ none ∧ sp k = so) (btS len ch) (k + 1) (some k) := hB.take (fun a b d => btS_tr) btS_irr hPk (fun b e => by rw [c_30] at e; cases e)
              refine lv_iload_n hx hb d_M_bestOf_72 rfl (lv_at hl 3 rfl) ?_
              refine lv_istore_n (lv' := [(2, .int (nI (k))), (0, .ref (ad (0))), (1, .int (oI (so))), (3, .int (nI (k)))]) hx hb d_M_bestOf_73 rfl hl (by decide) rfl (fun ls hl => ?_)
              refine n_inc (lv' := [(3, .int (nI (k + 1))), (2, .int (nI (k))), (0, .ref (ad (0))), (1, .int (oI (so)))]) hx hb d_M_bestOf_74 hl (k := 3) rfl (by decide) rfl (fun ls hl => ?_)
              refine lv_goto (tgt := 4) hx hb d_M_bestOf_77 (by decide) ?_
              exact ih4 (k + 1) (some (k)) _ _ ls (by omega) (by omega) (hB9) hP hS (lv_sub hl [2, 3, 1, 0] rfl)
            · subst c_30
              have hv := hlt v_30 rfl
              obtain ⟨t1, ht1⟩ : ∃ t : Bool, t = true ↔ ltT len ch k v_30 := bex _
              have hl : lv_has ls 4 [(0, .ref (ad (0))), (1, .int (oI (so))), (2, .int (nI (v_30))), (3, .int (nI (k)))] := hl
              refine lv_aload_n hx hb d_M_bestOf_33 rfl (lv_at hl 0 rfl) ?_
              refine g_get (C := R_M) (T := T_M) (N := 19) (ci := 8) (v := .ref (ad (3))) hx hb hg i_M hown hK hP 0 (by decide) rfl rfl 4 (by decide) (hg _ k_797) rfl d_M_bestOf_34 ?_
              refine lv_iload_n hx hb d_M_bestOf_37 rfl (lv_at hl 3 rfl) ?_
              refine g_iald hx hb hK hP 3 0 (by decide) rfl rfl (by decide) (j := k) (by omega) d_M_bestOf_38 ?_
              refine n_top (y := (nI (len (k)))) ((hR.2.2.1 (k) (by omega)).2.2) ?_
              refine lv_aload_n hx hb d_M_bestOf_39 rfl (lv_at hl 0 rfl) ?_
              refine g_get (C := R_M) (T := T_M) (N := 19) (ci := 8) (v := .ref (ad (3))) hx hb hg i_M hown hK hP 0 (by decide) rfl rfl 4 (by decide) (hg _ k_797) rfl d_M_bestOf_40 ?_
              refine lv_iload_n hx hb d_M_bestOf_43 rfl (lv_at hl 2 rfl) ?_
              refine g_iald hx hb hK hP 3 0 (by decide) rfl rfl (by decide) (j := v_30) (by omega) d_M_bestOf_44 ?_
              refine n_top (y := (nI (len (v_30)))) ((hR.2.2.1 (v_30) (by omega)).2.2) ?_
              refine n_lt (a := len (k)) (b := len (v_30)) (tgt := 72) hx hb d_M_bestOf_45 (by decide) (by have := hl24 (k) (by omega); omega) (by have := hl24 (v_30) (by omega); omega) (fun c_45 => ?_) (fun c_45 => ?_)
              · have hB9 : Top (fun k => so ≠ none ∧ sp k = so) (btS len ch) (k + 1) (some k) := hB.take (fun a b d => btS_tr) btS_irr hPk (fun b e => by cases e; exact Or.inl c_45)
                refine lv_iload_n hx hb d_M_bestOf_72 rfl (lv_at hl 3 rfl) ?_
                refine lv_istore_n (lv' := [(2, .int (nI (k))), (0, .ref (ad (0))), (1, .int (oI (so))), (3, .int (nI (k)))]) hx hb d_M_bestOf_73 rfl hl (by decide) rfl (fun ls hl => ?_)
                refine n_inc (lv' := [(3, .int (nI (k + 1))), (2, .int (nI (k))), (0, .ref (ad (0))), (1, .int (oI (so)))]) hx hb d_M_bestOf_74 hl (k := 3) rfl (by decide) rfl (fun ls hl => ?_)
                refine lv_goto (tgt := 4) hx hb d_M_bestOf_77 (by decide) ?_
                exact ih4 (k + 1) (some (k)) _ _ ls (by omega) (by omega) (hB9) hP hS (lv_sub hl [2, 3, 1, 0] rfl)
              · refine lv_aload_n hx hb d_M_bestOf_48 rfl (lv_at hl 0 rfl) ?_
                refine g_get (C := R_M) (T := T_M) (N := 19) (ci := 8) (v := .ref (ad (3))) hx hb hg i_M hown hK hP 0 (by decide) rfl rfl 4 (by decide) (hg _ k_797) rfl d_M_bestOf_49 ?_
                refine lv_iload_n hx hb d_M_bestOf_52 rfl (lv_at hl 3 rfl) ?_
                refine g_iald hx hb hK hP 3 0 (by decide) rfl rfl (by decide) (j := k) (by omega) d_M_bestOf_53 ?_
                refine n_top (y := (nI (len (k)))) ((hR.2.2.1 (k) (by omega)).2.2) ?_
                refine lv_aload_n hx hb d_M_bestOf_54 rfl (lv_at hl 0 rfl) ?_
                refine g_get (C := R_M) (T := T_M) (N := 19) (ci := 8) (v := .ref (ad (3))) hx hb hg i_M hown hK hP 0 (by decide) rfl rfl 4 (by decide) (hg _ k_797) rfl d_M_bestOf_55 ?_
                refine lv_iload_n hx hb d_M_bestOf_58 rfl (lv_at hl 2 rfl) ?_
                refine g_iald hx hb hK hP 3 0 (by decide) rfl rfl (by decide) (j := v_30) (by omega) d_M_bestOf_59 ?_
                refine n_top (y := (nI (len (v_30)))) ((hR.2.2.1 (v_30) (by omega)).2.2) ?_
                refine n_ne (a := len (k)) (b := len (v_30)) (tgt := 74) hx hb d_M_bestOf_60 (by decide) (by have := hl24 (k) (by omega); omega) (by have := hl24 (v_30) (by omega); omega) (fun c_60 => ?_) (fun c_60 => ?_)
                · have hB9 : Top (fun k => so ≠ none ∧ sp k = so) (btS len ch) (k + 1) (some v_30) := hB.stay (fun h => by rcases h with h | h <;> omega)
                  refine n_inc (lv' := [(3, .int (nI (k + 1))), (0, .ref (ad (0))), (1, .int (oI (so))), (2, .int (nI (v_30)))]) hx hb d_M_bestOf_74 hl (k := 3) rfl (by decide) rfl (fun ls hl => ?_)
                  refine lv_goto (tgt := 4) hx hb d_M_bestOf_77 (by decide) ?_
                  exact ih4 (k + 1) (some (v_30)) _ _ ls (by omega) (by omega) (hB9) hP hS (lv_sub hl [1, 2, 3, 0] rfl)
                · refine lv_aload_n hx hb d_M_bestOf_63 rfl (lv_at hl 0 rfl) ?_
                  refine lv_iload_n hx hb d_M_bestOf_64 rfl (lv_at hl 3 rfl) ?_
                  refine lv_iload_n hx hb d_M_bestOf_65 rfl (lv_at hl 2 rfl) ?_
                  refine c_V (own := R_M) (index := 110) (As := [.int (nI (k)), .int (nI (v_30))]) (rest := []) hx hb hml hown hg hK (fun _ _ _ h => h) (fun _ _ => trivial) (fun _ h => h) hP hS 0 (c_M_isBefore l D cI cB ad hI M n len ch sp hR (k) (v_30) (by omega) (by omega) t1 ht1) (by decide) (ci := 8) rfl rfl k_943 k_945 k_p37 k_9 k_946 2 rfl (by decide +kernel) (by decide) rfl hl.1 (Nat.le_of_ble_eq_true rfl) d_M_bestOf_66 (fun v M' H locs hq hP _ _ hS => ?_)
                  obtain ⟨rfl, rfl⟩ := hq
                  refine W.eq (g2 := F0 m 69 ls [.int (bI (t1))]) rfl ?_
                  refine z_eq (t := t1) (tgt := 74) hx hb d_M_bestOf_69 (by decide) (fun c_69 => ?_) (fun c_69 => ?_)
                  · have hB9 : Top (fun k => so ≠ none ∧ sp k = so) (btS len ch) (k + 1) (some v_30) := hB.stay (fun h => by rcases h with h | h; omega; have := ht1.mpr h.2; rw [c_69] at this; cases this)
                    refine n_inc (lv' := [(3, .int (nI (k + 1))), (0, .ref (ad (0))), (1, .int (oI (so))), (2, .int (nI (v_30)))]) hx hb d_M_bestOf_74 hl (k := 3) rfl (by decide) rfl (fun ls hl => ?_)
                    refine lv_goto (tgt := 4) hx hb d_M_bestOf_77 (by decide) ?_
                    exact ih4 (k + 1) (some (v_30)) _ _ ls (by omega) (by omega) (hB9) hP hS (lv_sub hl [1, 2, 3, 0] rfl)
                  · have hB9 : Top (fun k => so ≠ none ∧ sp k = so) (btS len ch) (k + 1) (some k) := hB.take (fun a b d => btS_tr) btS_irr hPk (fun b e => by cases e; exact Or.inr ⟨c_60, ht1.mp c_69⟩)
                    refine lv_iload_n hx hb d_M_bestOf_72 rfl (lv_at hl 3 rfl) ?_
                    refine lv_istore_n (lv' := [(2, .int (nI (k))), (0, .ref (ad (0))), (1, .int (oI (so))), (3, .int (nI (k)))]) hx hb d_M_bestOf_73 rfl hl (by decide) rfl (fun ls hl => ?_)
                    refine n_inc (lv' := [(3, .int (nI (k + 1))), (2, .int (nI (k))), (0, .ref (ad (0))), (1, .int (oI (so)))]) hx hb d_M_bestOf_74 hl (k := 3) rfl (by decide) rfl (fun ls hl => ?_)
                    refine lv_goto (tgt := 4) hx hb d_M_bestOf_77 (by decide) ?_
                    exact ih4 (k + 1) (some (k)) _ _ ls (by omega) (by omega) (hB9) hP hS (lv_sub hl [2, 3, 1, 0] rfl)
          · have hB9 : Top (fun k => so ≠ none ∧ sp k = so) (btS len ch) (k + 1) o1 := hB.skip (fun h => c_23 h.2)
            refine lv_goto (tgt := 74) hx hb d_M_bestOf_26 (by decide) ?_
            refine n_inc (lv' := [(3, .int (nI (k + 1))), (0, .ref (ad (0))), (1, .int (oI (so))), (2, .int (oI (o1)))]) hx hb d_M_bestOf_74 hl (k := 3) rfl (by decide) rfl (fun ls hl => ?_)
            refine lv_goto (tgt := 4) hx hb d_M_bestOf_77 (by decide) ?_
            exact ih4 (k + 1) (o1) _ _ ls (by omega) (by omega) (hB9) hP hS (lv_sub hl [1, 2, 3, 0] rfl)
  refine lv_iconst (v := -1) hx hb d_M_bestOf_0 (by decide) ?_
  refine lv_istore_n (lv' := [(2, .int (-1)), (0, .ref (ad (0))), (1, .int (oI (so)))]) hx hb d_M_bestOf_1 rfl hl (by decide) rfl (fun ls hl => ?_)
  refine n_const (k := 0) hx hb d_M_bestOf_2 (by decide) ?_
  refine lv_istore_n (lv' := [(3, .int (nI (0))), (2, .int (-1)), (0, .ref (ad (0))), (1, .int (oI (so)))]) hx hb d_M_bestOf_3 rfl hl (by decide) rfl (fun ls hl => ?_)
  exact J4 (_ + 1) (0) (none) _ _ ls (Nat.lt_succ_self _) (by omega) (fun k h => absurd h (Nat.not_lt_zero k)) hP hS (lv_sub hl [2, 3, 1, 0] rfl)

set_option maxHeartbeats 4000000 in
set_option maxRecDepth 100000 in
theorem c_M_space (l : Launch) (D : va_G) (cI cB : ClassId) (ad : Nat → Nat) (hI : GI 13 ad) (M : PM) (n : Nat) (len : Nat → Nat) (ch : Nat → Nat → Nat) (sp : Nat → Option Nat) (hR : RN M n len ch sp) (a : Nat) (ha : a < n) (o : Option Nat) (hO : Best (spC n len ch sp a) len n o) : MM l D cI cB ad y_M_space b_M_space 2 (some .int) 3 69 [.ref (ad (0)), .int (nI (a))] M (fun v M' => v = some (.int (oI o)) ∧ M' = pu M 0 0 (nI 0)) := by
  refine MC.of (by decide) (Nat.le_of_ble_eq_true rfl) ?_
  intro p e s m below meth c ls hx hb hr hml hown hg hlocks hK hN hP hS hl
  have hown : s.vm.findClass R_M = some m.cls := hown
  have hl : lv_has ls 2 [(0, .ref (ad (0))), (1, .int (nI (a)))] := hl
  have hn60 : n ≤ 60 := hR.1
  have hl24 := hR.2.2.1
  have hspn := hR.2.2.2.2.1
  have hch := hR.2.2.2.2.2
  refine lv_aload_n hx hb d_M_space_0 rfl (lv_at hl 0 rfl) ?_
  refine lv_aload_n hx hb d_M_space_1 rfl (lv_at hl 0 rfl) ?_
  refine lv_iload_n hx hb d_M_space_2 rfl (lv_at hl 1 rfl) ?_
  refine c_V (own := R_M) (index := 89) (As := [.int (nI (a))]) (rest := [.ref (ad (0))]) hx hb hml hown hg hK (fun _ _ _ h => h) (fun _ _ => trivial) (fun _ h => h) hP hS 0 (c_M_no l D cI cB ad hI M n len ch sp hR (nI (a)) false (no_f (by omega))) (by decide) (ci := 8) rfl rfl k_907 k_909 k_p30 k_9 k_910 1 rfl (by decide +kernel) (by decide) rfl hl.1 (Nat.le_of_ble_eq_true rfl) d_M_space_3 (fun v M' H locs hq hP _ _ hS => ?_)
  obtain ⟨rfl, rfl⟩ := hq
  refine W.eq (g2 := F0 m 6 ls [.int (bI (false)), .ref (ad (0))]) rfl ?_
  refine z_eq (t := false) (tgt := 13) hx hb d_M_space_6 (by decide) (fun _ => ?_) (fun h9 => absurd h9 (by decide))
  refine n_const (k := 0) hx hb d_M_space_13 (by decide) ?_
  refine c_V (own := R_M) (index := 57) (As := [.int (nI (0))]) (rest := []) hx hb hml hown hg hK (fun _ _ _ h => h) (fun _ _ => trivial) (fun _ h => h) hP hS 0 (c_M_refuses l D cI cB ad hI M (0) (by decide)) (by decide) (ci := 8) rfl rfl k_859 k_861 k_p22 k_9 k_862 1 rfl (by decide +kernel) (by decide) rfl hl.1 (Nat.le_of_ble_eq_true rfl) d_M_space_14 (fun v M_1 H locs hq hP _ _ hS => ?_)
  obtain ⟨rfl, eM_1⟩ := hq
  refine W.eq (g2 := F0 m 17 ls [.int (bI (false))]) rfl ?_
  refine z_eq (t := false) (tgt := 24) hx hb d_M_space_17 (by decide) (fun _ => ?_) (fun h9 => absurd h9 (by decide))
  refine lv_aload_n hx hb d_M_space_24 rfl (lv_at hl 0 rfl) ?_
  refine lv_iload_n hx hb d_M_space_25 rfl (lv_at hl 1 rfl) ?_
  refine c_V (own := R_M) (index := 106) (As := [.int (nI (a))]) (rest := []) hx hb hml hown hg hK (fun _ _ _ h => h) (fun _ _ => trivial) (fun _ h => h) hP hS 0 (c_M_spaceOf l D cI cB ad hI M_1 n len ch sp (by rw [eM_1]; exact hR.thr _) (a) (by omega) o hO) (by decide) (ci := 8) rfl rfl k_923 k_925 k_p33 k_9 k_926 1 rfl (by decide +kernel) (by decide) rfl hl.1 (Nat.le_of_ble_eq_true rfl) d_M_space_26 (fun v M' H locs hq hP _ _ hS => ?_)
  obtain ⟨rfl, rfl⟩ := hq
  refine W.eq (g2 := F0 m 29 ls [.int (oI (o))]) rfl ?_
  exact r_i hx hb hr hlocks hP hS (⟨rfl, eM_1⟩) d_M_space_29

set_option maxHeartbeats 4000000 in
set_option maxRecDepth 100000 in
theorem c_M_best (l : Launch) (D : va_G) (cI cB : ClassId) (ad : Nat → Nat) (hI : GI 13 ad) (M : PM) (n : Nat) (len : Nat → Nat) (ch : Nat → Nat → Nat) (sp : Nat → Option Nat) (hR : RN M n len ch sp) (hDN : DN n len ch) (a : Nat) (ha : a < n) (so : Option Nat) (hS9 : Best (spC n len ch sp a) len n so) (o : Option Nat) (hO : Top (fun k => so ≠ none ∧ sp k = so) (btS len ch) n o) : MM l D cI cB ad y_M_best b_M_best 2 (some .int) 3 69 [.ref (ad (0)), .int (nI (a))] M (fun v M' => v = some (.int (oI o)) ∧ M' = pu M 0 0 (nI 0)) := by
  refine MC.of (by decide) (Nat.le_of_ble_eq_true rfl) ?_
  intro p e s m below meth c ls hx hb hr hml hown hg hlocks hK hN hP hS hl
  have hown : s.vm.findClass R_M = some m.cls := hown
  have hl : lv_has ls 2 [(0, .ref (ad (0))), (1, .int (nI (a)))] := hl
  have hn60 : n ≤ 60 := hR.1
  have hl24 := hR.2.2.1
  have hspn := hR.2.2.2.2.1
  have hch := hR.2.2.2.2.2
  refine lv_aload_n hx hb d_M_best_0 rfl (lv_at hl 0 rfl) ?_
  refine lv_aload_n hx hb d_M_best_1 rfl (lv_at hl 0 rfl) ?_
  refine lv_iload_n hx hb d_M_best_2 rfl (lv_at hl 1 rfl) ?_
  refine c_V (own := R_M) (index := 89) (As := [.int (nI (a))]) (rest := [.ref (ad (0))]) hx hb hml hown hg hK (fun _ _ _ h => h) (fun _ _ => trivial) (fun _ h => h) hP hS 0 (c_M_no l D cI cB ad hI M n len ch sp hR (nI (a)) false (no_f (by omega))) (by decide) (ci := 8) rfl rfl k_907 k_909 k_p30 k_9 k_910 1 rfl (by decide +kernel) (by decide) rfl hl.1 (Nat.le_of_ble_eq_true rfl) d_M_best_3 (fun v M' H locs hq hP _ _ hS => ?_)
  obtain ⟨rfl, rfl⟩ := hq
  refine W.eq (g2 := F0 m 6 ls [.int (bI (false)), .ref (ad (0))]) rfl ?_
  refine z_eq (t := false) (tgt := 13) hx hb d_M_best_6 (by decide) (fun _ => ?_) (fun h9 => absurd h9 (by decide))
  refine n_const (k := 0) hx hb d_M_best_13 (by decide) ?_
  refine c_V (own := R_M) (index := 57) (As := [.int (nI (0))]) (rest := []) hx hb hml hown hg hK (fun _ _ _ h => h) (fun _ _ => trivial) (fun _ h => h) hP hS 0 (c_M_refuses l D cI cB ad hI M (0) (by decide)) (by decide) (ci := 8) rfl rfl k_859 k_861 k_p22 k_9 k_862 1 rfl (by decide +kernel) (by decide) rfl hl.1 (Nat.le_of_ble_eq_true rfl) d_M_best_14 (fun v M_1 H locs hq hP _ _ hS => ?_)
  obtain ⟨rfl, eM_1⟩ := hq
  refine W.eq (g2 := F0 m 17 ls [.int (bI (false))]) rfl ?_
  refine z_eq (t := false) (tgt := 24) hx hb d_M_best_17 (by decide) (fun _ => ?_) (fun h9 => absurd h9 (by decide))
  refine lv_aload_n hx hb d_M_best_24 rfl (lv_at hl 0 rfl) ?_
  refine lv_aload_n hx hb d_M_best_25 rfl (lv_at hl 0 rfl) ?_
  refine lv_iload_n hx hb d_M_best_26 rfl (lv_at hl 1 rfl) ?_
  refine c_V (own := R_M) (index := 106) (As := [.int (nI (a))]) (rest := [.ref (ad (0))]) hx hb hml hown hg hK (fun _ _ _ h => h) (fun _ _ => trivial) (fun _ h => h) hP hS 0 (c_M_spaceOf l D cI cB ad hI M_1 n len ch sp (by rw [eM_1]; exact hR.thr _) (a) (by omega) so hS9) (by decide) (ci := 8) rfl rfl k_923 k_925 k_p33 k_9 k_926 1 rfl (by decide +kernel) (by decide) rfl hl.1 (Nat.le_of_ble_eq_true rfl) d_M_best_27 (fun v M' H locs hq hP _ _ hS => ?_)
  obtain ⟨rfl, rfl⟩ := hq
  refine W.eq (g2 := F0 m 30 ls [.int (oI (so)), .ref (ad (0))]) rfl ?_
  refine c_V (own := R_M) (index := 113) (As := [.int (oI (so))]) (rest := []) hx hb hml hown hg hK (fun _ _ _ h => h) (fun _ _ => trivial) (fun _ h => h) hP hS 0 (c_M_bestOf l D cI cB ad hI M_1 n len ch sp (by rw [eM_1]; exact hR.thr _) hDN so hS9.lt o hO) (by decide) (ci := 8) rfl rfl k_939 k_941 k_p36 k_9 k_942 1 rfl (by decide +kernel) (by decide) rfl hl.1 (Nat.le_of_ble_eq_true rfl) d_M_best_30 (fun v M' H locs hq hP _ _ hS => ?_)
  obtain ⟨rfl, rfl⟩ := hq
  refine W.eq (g2 := F0 m 33 ls [.int (oI (o))]) rfl ?_
  exact r_i hx hb hr hlocks hP hS (⟨rfl, eM_1⟩) d_M_best_33
