set_option maxHeartbeats 4000000 in
set_option maxRecDepth 100000 in
theorem c_M_isTaken (l : Launch) (D : va_G) (cI cB : ClassId) (ad : Nat → Nat) (hI : GI 13 ad) (M : PM) (n : Nat) (len : Nat → Nat) (ch : Nat → Nat → Nat) (sp : Nat → Option Nat) (hR : RN M n len ch sp) (sl : Nat) (sc : Nat → Nat) (hMK : MK M sl sc) (o : Option Nat) (ho : Fst (sameT len ch sl sc) n o) (t : Bool) (ht : t = true ↔ ∃ k, o = some k ∧ sp k ≠ none) : MM l D cI cB ad y_M_isTaken b_M_isTaken 2 (some .boolean) 2 45 [.ref (ad (0))] M (fun v M' => v = some (.int (bI (t))) ∧ M = M') := by
  refine MC.of (by decide) (Nat.le_of_ble_eq_true rfl) ?_
  intro p e s m below meth c ls hx hb hr hml hown hg hlocks hK hN hP hS hl
  have hown : s.vm.findClass R_M = some m.cls := hown
  have hl : lv_has ls 2 [(0, .ref (ad (0)))] := hl
  have hn60 : n ≤ 60 := hR.1
  have hl24 := hR.2.2.1
  have hspn := hR.2.2.2.2.1
  have hch := hR.2.2.2.2.2
  have hol := ho.lt
  refine lv_aload_n hx hb d_M_isTaken_0 rfl (lv_at hl 0 rfl) ?_
  refine c_V (own := R_M) (index := 68) (As := []) (rest := []) hx hb hml hown hg hK (fun _ _ _ h => h) (fun _ _ => trivial) (fun _ h => h) hP hS 0 (c_M_found l D cI cB ad hI M n len ch sp hR sl sc hMK o ho) (by decide) (ci := 8) rfl rfl k_883 k_885 k_p26 k_9 k_886 0 rfl (by decide +kernel) (by decide) rfl hl.1 (Nat.le_of_ble_eq_true rfl) d_M_isTaken_1 (fun v M' H locs hq hP _ _ hS => ?_)
  obtain ⟨rfl, rfl⟩ := hq
  refine W.eq (g2 := F0 m 4 ls [.int (oI (o))]) rfl ?_
  refine lv_istore_n (lv' := [(1, .int (oI (o))), (0, .ref (ad (0)))]) hx hb d_M_isTaken_4 rfl hl (by decide) rfl (fun ls hl => ?_)
  refine lv_iload_n hx hb d_M_isTaken_5 rfl (lv_at hl 0 rfl) ?_
  refine o_lt (o := o) (tgt := 22) hx hb d_M_isTaken_6 (by decide) (fun q e => by have := hol q e; omega) (fun c_6 => ?_) (fun v_6 c_6 => ?_)
  · have h9 : t = false := b_f ht (fun ⟨k, e, _⟩ => by rw [c_6] at e; cases e)
    refine n_const (k := 0) hx hb d_M_isTaken_22 (by decide) ?_
    exact r_z hx hb hr hlocks (rfl) hP hS (⟨bz0 (h9), rfl⟩) d_M_isTaken_23
  · rw [c_6] at hl
    have hv6 := hol _ c_6
    have hl : lv_has ls 2 [(1, .int (nI (v_6))), (0, .ref (ad (0)))] := hl
    refine lv_aload_n hx hb d_M_isTaken_9 rfl (lv_at hl 1 rfl) ?_
    refine g_get (C := R_M) (T := T_M) (N := 19) (ci := 8) (v := .ref (ad (4))) hx hb hg i_M hown hK hP 0 (by decide) rfl rfl 6 (by decide) (hg _ k_799) rfl d_M_isTaken_10 ?_
    refine lv_iload_n hx hb d_M_isTaken_13 rfl (lv_at hl 0 rfl) ?_
    refine g_iald hx hb hK hP 4 0 (by decide) rfl rfl (by decide) (j := v_6) (by omega) d_M_isTaken_14 ?_
    refine n_top (y := (oI (sp (v_6)))) (hR.2.2.2.1 (v_6) (by omega)) ?_
    refine o_lt (o := sp (v_6)) (tgt := 22) hx hb d_M_isTaken_15 (by decide) (by intro q hq; have := hspn _ q (by omega) hq; omega) (fun c_15 => ?_) (fun v_15 c_15 => ?_)
    · have h9 : t = false := b_f ht (fun ⟨k, e, z⟩ => by rw [c_6] at e; cases e; exact z c_15)
      refine n_const (k := 0) hx hb d_M_isTaken_22 (by decide) ?_
      exact r_z hx hb hr hlocks (rfl) hP hS (⟨bz0 (h9), rfl⟩) d_M_isTaken_23
    · have h9 : t = true := ht.mpr ⟨_, c_6, by rw [c_15]; simp⟩
      refine n_const (k := 1) hx hb d_M_isTaken_18 (by decide) ?_
      refine lv_goto (tgt := 23) hx hb d_M_isTaken_19 (by decide) ?_
      exact r_z hx hb hr hlocks (rfl) hP hS (⟨bz1 (h9), rfl⟩) d_M_isTaken_23

set_option maxHeartbeats 4000000 in
set_option maxRecDepth 100000 in
theorem c_M_print_n (l : Launch) (D : va_G) (cI cB : ClassId) (ad : Nat → Nat) (hI : GI 13 ad) (M : PM) (n : Nat) (len : Nat → Nat) (ch : Nat → Nat → Nat) (sp : Nat → Option Nat) (hR : RN M n len ch sp) (hDN : DN n len ch) (a : Nat) (ha : a < n) (hS9 : Best (spC n len ch sp a) len n none) : MM l D cI cB ad y_M_print b_M_print 5 (some .int) 3 69 [.ref (ad (0)), .int (nI (a))] M (fun v M' => v = some (.int (nI (len a + 2))) ∧ SH M' (len a + 2) (scP0 len ch a) ∧ F9 M M' ∧ M' 0 0 = nI 0) := by
  refine MC.of (by decide) (Nat.le_of_ble_eq_true rfl) ?_
  intro p e s m below meth c ls hx hb hr hml hown hg hlocks hK hN hP hS hl
  have hown : s.vm.findClass R_M = some m.cls := hown
  have hl : lv_has ls 5 [(0, .ref (ad (0))), (1, .int (nI (a)))] := hl
  have hn60 : n ≤ 60 := hR.1
  have hl24 := hR.2.2.1
  have hspn := hR.2.2.2.2.1
  have hch := hR.2.2.2.2.2
  have la := hl24 a ha
  have J64 : ∀ (fu64 : Nat) (i : Nat) (M1 : PM) (H : Heap) (locs : List Loc) (ls : Array Slot), len a - i < fu64 → (i ≤ len a) → (SH M1 (1 + i) (scP0 len ch a)) → (F9 M M1) → (M1 0 0 = nI 0) → va_P D clsA (gw 13 ad (cfM cI cB ad) M1) H → va_S (GA 13 ad) s.heap H locs → lv_has ls 5 [(0, .ref (ad (0))), (1, .int (nI (a))), (4, .int (nI (i)))] → W p l e (rm_ 3 69) s m ([.ref (ad (0)), .int (nI (a))] : List Value).toArray below meth c H locs 0 0 (MQ below (GQ D 13 ad (cfM cI cB ad) (fun v M' => v = some (.int (nI (len a + 2))) ∧ SH M' (len a + 2) (scP0 len ch a) ∧ F9 M M' ∧ M' 0 0 = nI 0)) ([.ref (ad (0)), .int (nI (a))] : List Value).toArray s 0 0 (GA 13 ad)) (F0 m 64 ls []) := by
    intro fu64
    induction fu64 with
    | zero => intro i M1 H locs ls hfu; exact absurd hfu (Nat.not_lt_zero _)
    | succ fu64 ih64 =>
      intro i M1 H locs ls hfu64 hi hSH hF h00 hP hS hl
      have hR1 := hR.f9 hF
      refine lv_iload hx hb d_M_print_64 (lv_at hl 2 rfl) ?_
      refine lv_aload_n hx hb d_M_print_66 rfl (lv_at hl 0 rfl) ?_
      refine g_get (C := R_M) (T := T_M) (N := 19) (ci := 8) (v := .ref (ad (3))) hx hb hg i_M hown hK hP 0 (by decide) rfl rfl 4 (by decide) (hg _ k_797) rfl d_M_print_67 ?_
      refine lv_iload_n hx hb d_M_print_70 rfl (lv_at hl 1 rfl) ?_
      refine g_iald hx hb hK hP 3 0 (by decide) rfl rfl (by decide) (j := a) (by omega) d_M_print_71 ?_
      refine n_top (y := (nI (len (a)))) ((hR1.2.2.1 (a) (by omega)).2.2) ?_
      refine n_ge (a := i) (b := len (a)) (tgt := 105) hx hb d_M_print_72 (by decide) (by omega) (by omega) (fun c_72 => ?_) (fun c_72 => ?_)
      · refine lv_aload_n hx hb d_M_print_105 rfl (lv_at hl 0 rfl) ?_
        refine g_get (C := R_M) (T := T_M) (N := 19) (ci := 8) (v := .ref (ad (9))) hx hb hg i_M hown hK hP 0 (by decide) rfl rfl 13 (by decide) (hg _ k_806) rfl d_M_print_106 ?_
        refine lv_aload_n hx hb d_M_print_109 rfl (lv_at hl 0 rfl) ?_
        refine lv_dup hx hb d_M_print_110 rfl ?_
        refine g_get (C := R_M) (T := T_M) (N := 19) (ci := 8) (v := .int (M1 0 14)) hx hb hg i_M hown hK hP 0 (by decide) rfl rfl 14 (by decide) (hg _ k_807) rfl d_M_print_111 ?_
        refine n_top (y := (nI (1 + i))) (hSH.1) ?_
        refine lv_dup_x1 hx hb d_M_print_114 rfl rfl ?_
        refine n_const (k := 1) hx hb d_M_print_115 (by decide) ?_
        refine n_iadd (a := 1 + i) (b := 1) hx hb d_M_print_116 ?_
        refine g_put (C := R_M) (T := T_M) (N := 19) (ci := 8) (v := (nI ((1 + i) + (1)))) hx hb hg i_M ty_M t_M_ok n_M hown hK hI (fun _ h => h) hP hS 0 (by decide) rfl rfl 14 (by decide) (hg _ k_807) rfl (by decide +kernel) (Nat.le_of_ble_eq_true rfl) rfl d_M_print_117 (fun H locs hP hS => ?_)
        obtain ⟨M_1, eM_1⟩ : ∃ z : PM, z = (pu M1 0 14 ((nI ((1 + i) + (1))))) := ⟨_, rfl⟩
        rw [← eM_1] at hP
        refine n_bipush (k := 62) hx hb d_M_print_120 (by decide) ?_
        refine g_bast hx hb hK hI (fun _ h => h) hP hS 9 1 (by decide) (fun _ => rfl) rfl (by decide) (j := 1 + i) (by omega) (v := (nI (62))) d_M_print_122 (fun H locs hP hS => ?_)
        obtain ⟨M_2, eM_2⟩ : ∃ z : PM, z = (pu M_1 9 (1 + i) (vp_nar .byte (nI (62)))) := ⟨_, rfl⟩
        rw [← eM_2] at hP
        have hSH : SH M_2 (1 + i + 1) (scP0 len ch a) := by rw [eM_2, eM_1, nbb _ (by decide)]; exact hSH.add _ (by unfold scP0; rw [if_neg (by omega), if_neg (by omega)])
        have hF : F9 M M_2 := hF.tr (by rw [eM_2, eM_1]; exact (F9.s1 _ _).tr (F9.s2 _ _ _))
        have h00 : M_2 0 0 = nI 0 := by rw [eM_2, eM_1, pu_k _ _ _ _ _ (by decide), pu_j _ _ _ _ _ (by decide)]; exact h00
        refine lv_goto (tgt := 237) hx hb d_M_print_123 (by decide) ?_
        refine lv_aload_n hx hb d_M_print_237 rfl (lv_at hl 0 rfl) ?_
        refine g_get (C := R_M) (T := T_M) (N := 19) (ci := 8) (v := .int (M_2 0 14)) hx hb hg i_M hown hK hP 0 (by decide) rfl rfl 14 (by decide) (hg _ k_807) rfl d_M_print_238 ?_
        refine n_top (y := (nI ((1 + i) + (1)))) (by rw [eM_2, pu_k _ _ _ _ _ (by first | decide | omega), eM_1, pu_s]) ?_
        exact r_i hx hb hr hlocks hP hS (⟨by rw [show len a + 2 = 1 + i + 1 by omega], by rw [show len a + 2 = 1 + i + 1 by omega]; exact hSH, hF, h00⟩) d_M_print_241
      · refine lv_aload_n hx hb d_M_print_75 rfl (lv_at hl 0 rfl) ?_
        refine g_get (C := R_M) (T := T_M) (N := 19) (ci := 8) (v := .ref (ad (9))) hx hb hg i_M hown hK hP 0 (by decide) rfl rfl 13 (by decide) (hg _ k_806) rfl d_M_print_76 ?_
        refine lv_aload_n hx hb d_M_print_79 rfl (lv_at hl 0 rfl) ?_
        refine lv_dup hx hb d_M_print_80 rfl ?_
        refine g_get (C := R_M) (T := T_M) (N := 19) (ci := 8) (v := .int (M1 0 14)) hx hb hg i_M hown hK hP 0 (by decide) rfl rfl 14 (by decide) (hg _ k_807) rfl d_M_print_81 ?_
        refine n_top (y := (nI (1 + i))) (hSH.1) ?_
        refine lv_dup_x1 hx hb d_M_print_84 rfl rfl ?_
        refine n_const (k := 1) hx hb d_M_print_85 (by decide) ?_
        refine n_iadd (a := 1 + i) (b := 1) hx hb d_M_print_86 ?_
        refine g_put (C := R_M) (T := T_M) (N := 19) (ci := 8) (v := (nI ((1 + i) + (1)))) hx hb hg i_M ty_M t_M_ok n_M hown hK hI (fun _ h => h) hP hS 0 (by decide) rfl rfl 14 (by decide) (hg _ k_807) rfl (by decide +kernel) (Nat.le_of_ble_eq_true rfl) rfl d_M_print_87 (fun H locs hP hS => ?_)
        obtain ⟨M_3, eM_3⟩ : ∃ z : PM, z = (pu M1 0 14 ((nI ((1 + i) + (1))))) := ⟨_, rfl⟩
        rw [← eM_3] at hP
        have hR1 : RN M_3 n len ch sp := by rw [eM_3]; exact hR1.f9 (F9.s1 _ _)
        refine lv_aload_n hx hb d_M_print_90 rfl (lv_at hl 0 rfl) ?_
        refine lv_iload_n hx hb d_M_print_91 rfl (lv_at hl 1 rfl) ?_
        refine lv_iload hx hb d_M_print_92 (lv_at hl 2 rfl) ?_
        refine c_V (own := R_M) (index := 64) (As := [.int (nI (a)), .int (nI (i))]) (rest := [.int (nI (1 + i)), .ref (ad (9))]) hx hb hml hown hg hK (fun _ _ _ h => h) (fun _ _ => trivial) (fun _ h => h) hP hS 0 (c_M_at l D cI cB ad hI M_3 n len ch sp hR1 (a) (i) (by omega) (by omega)) (by decide) (ci := 8) rfl rfl k_887 k_889 k_p27 k_9 k_890 2 rfl (by decide +kernel) (by decide) rfl hl.1 (Nat.le_of_ble_eq_true rfl) d_M_print_94 (fun v M' H locs hq hP _ _ hS => ?_)
        obtain ⟨rfl, rfl⟩ := hq
        refine W.eq (g2 := F0 m 97 ls [.int (nI (ch (a) (i))), .int (nI (1 + i)), .ref (ad (9))]) rfl ?_
        refine lv_i2b (v := nI (ch (a) (i))) hx hb d_M_print_97 (nb8 _ (by have := hch a i ha (by omega); omega)) ?_
        refine g_bast hx hb hK hI (fun _ h => h) hP hS 9 1 (by decide) (fun _ => rfl) rfl (by decide) (j := 1 + i) (by omega) (v := (nI (ch (a) (i)))) d_M_print_98 (fun H locs hP hS => ?_)
        obtain ⟨M_4, eM_4⟩ : ∃ z : PM, z = (pu M_3 9 (1 + i) (vp_nar .byte (nI (ch (a) (i))))) := ⟨_, rfl⟩
        rw [← eM_4] at hP
        have hSH : SH M_4 (1 + i + 1) (scP0 len ch a) := by rw [eM_4, eM_3, nbb _ (by have := hch a i ha (by omega); omega)]; exact hSH.add _ (by unfold scP0; rw [if_neg (by omega), if_pos (by omega)]; congr 1; omega)
        have hF : F9 M M_4 := hF.tr (by rw [eM_4, eM_3]; exact (F9.s1 _ _).tr (F9.s2 _ _ _))
        have h00 : M_4 0 0 = nI 0 := by rw [eM_4, eM_3, pu_k _ _ _ _ _ (by decide), pu_j _ _ _ _ _ (by decide)]; exact h00
        refine n_inc (lv' := [(4, .int (nI (i + 1))), (0, .ref (ad (0))), (1, .int (nI (a)))]) hx hb d_M_print_99 hl (k := 2) rfl (by decide) rfl (fun ls hl => ?_)
        refine lv_goto (tgt := 64) hx hb d_M_print_102 (by decide) ?_
        exact ih64 (i + 1) M_4 _ _ ls (by omega) (by omega) (by rw [show 1 + (i + 1) = 1 + i + 1 by omega]; exact hSH) (hF) (h00) hP hS (lv_sub hl [1, 2, 0] rfl)
  refine lv_aload_n hx hb d_M_print_0 rfl (lv_at hl 0 rfl) ?_
  refine lv_aload_n hx hb d_M_print_1 rfl (lv_at hl 0 rfl) ?_
  refine lv_iload_n hx hb d_M_print_2 rfl (lv_at hl 1 rfl) ?_
  refine c_V (own := R_M) (index := 89) (As := [.int (nI (a))]) (rest := [.ref (ad (0))]) hx hb hml hown hg hK (fun _ _ _ h => h) (fun _ _ => trivial) (fun _ h => h) hP hS 0 (c_M_no l D cI cB ad hI M n len ch sp hR (nI (a)) false (no_f (by omega))) (by decide) (ci := 8) rfl rfl k_907 k_909 k_p30 k_9 k_910 1 rfl (by decide +kernel) (by decide) rfl hl.1 (Nat.le_of_ble_eq_true rfl) d_M_print_3 (fun v M' H locs hq hP _ _ hS => ?_)
  obtain ⟨rfl, rfl⟩ := hq
  refine W.eq (g2 := F0 m 6 ls [.int (bI (false)), .ref (ad (0))]) rfl ?_
  refine z_eq (t := false) (tgt := 13) hx hb d_M_print_6 (by decide) (fun _ => ?_) (fun h9 => absurd h9 (by decide))
  refine n_const (k := 0) hx hb d_M_print_13 (by decide) ?_
  refine c_V (own := R_M) (index := 57) (As := [.int (nI (0))]) (rest := []) hx hb hml hown hg hK (fun _ _ _ h => h) (fun _ _ => trivial) (fun _ h => h) hP hS 0 (c_M_refuses l D cI cB ad hI M (0) (by decide)) (by decide) (ci := 8) rfl rfl k_859 k_861 k_p22 k_9 k_862 1 rfl (by decide +kernel) (by decide) rfl hl.1 (Nat.le_of_ble_eq_true rfl) d_M_print_14 (fun v M_5 H locs hq hP _ _ hS => ?_)
  obtain ⟨rfl, eM_5⟩ := hq
  have hR1 := hR.sx (SX.thr M (nI 0))
  rw [← eM_5] at hR1
  refine W.eq (g2 := F0 m 17 ls [.int (bI (false))]) rfl ?_
  refine z_eq (t := false) (tgt := 22) hx hb d_M_print_17 (by decide) (fun _ => ?_) (fun h9 => absurd h9 (by decide))
  refine lv_aload_n hx hb d_M_print_22 rfl (lv_at hl 0 rfl) ?_
  refine lv_iload_n hx hb d_M_print_23 rfl (lv_at hl 1 rfl) ?_
  refine c_V (own := R_M) (index := 106) (As := [.int (nI (a))]) (rest := []) hx hb hml hown hg hK (fun _ _ _ h => h) (fun _ _ => trivial) (fun _ h => h) hP hS 0 (c_M_spaceOf l D cI cB ad hI M_5 n len ch sp hR1 a ha none hS9) (by decide) (ci := 8) rfl rfl k_923 k_925 k_p33 k_9 k_926 1 rfl (by decide +kernel) (by decide) rfl hl.1 (Nat.le_of_ble_eq_true rfl) d_M_print_24 (fun v M' H locs hq hP _ _ hS => ?_)
  obtain ⟨rfl, rfl⟩ := hq
  refine W.eq (g2 := F0 m 27 ls [.int (oI (none))]) rfl ?_
  refine lv_istore_n (lv' := [(2, .int (oI (none))), (0, .ref (ad (0))), (1, .int (nI (a)))]) hx hb d_M_print_27 rfl hl (by decide) rfl (fun ls hl => ?_)
  refine lv_aload_n hx hb d_M_print_28 rfl (lv_at hl 1 rfl) ?_
  refine lv_iload_n hx hb d_M_print_29 rfl (lv_at hl 0 rfl) ?_
  refine c_V (own := R_M) (index := 113) (As := [.int (oI (none))]) (rest := []) hx hb hml hown hg hK (fun _ _ _ h => h) (fun _ _ => trivial) (fun _ h => h) hP hS 0 (c_M_bestOf l D cI cB ad hI M_5 n len ch sp hR1 hDN none (fun q e => by cases e) none (fun k hk h => h.1 rfl)) (by decide) (ci := 8) rfl rfl k_939 k_941 k_p36 k_9 k_942 1 rfl (by decide +kernel) (by decide) rfl hl.1 (Nat.le_of_ble_eq_true rfl) d_M_print_30 (fun v M' H locs hq hP _ _ hS => ?_)
  obtain ⟨rfl, rfl⟩ := hq
  refine W.eq (g2 := F0 m 33 ls [.int (oI (none))]) rfl ?_
  refine lv_istore_n (lv' := [(3, .int (oI (none))), (2, .int (oI (none))), (0, .ref (ad (0))), (1, .int (nI (a)))]) hx hb d_M_print_33 rfl hl (by decide) rfl (fun ls hl => ?_)
  refine lv_aload_n hx hb d_M_print_34 rfl (lv_at hl 2 rfl) ?_
  refine n_const (k := 0) hx hb d_M_print_35 (by decide) ?_
  refine g_put (C := R_M) (T := T_M) (N := 19) (ci := 8) (v := (nI (0))) hx hb hg i_M ty_M t_M_ok n_M hown hK hI (fun _ h => h) hP hS 0 (by decide) rfl rfl 14 (by decide) (hg _ k_807) rfl (by decide +kernel) (Nat.le_of_ble_eq_true rfl) rfl d_M_print_36 (fun H locs hP hS => ?_)
  obtain ⟨M_6, eM_6⟩ : ∃ z : PM, z = (pu M_5 0 14 ((nI (0)))) := ⟨_, rfl⟩
  rw [← eM_6] at hP
  have hSH : SH M_6 0 (scP0 len ch a) := ⟨by rw [eM_6, pu_s], fun q hq => absurd hq (Nat.not_lt_zero q)⟩
  have hF : F9 M M_6 := by rw [eM_6, eM_5]; exact (F9.sx (SX.thr _ _)).tr (F9.s1 _ _)
  have h00 : M_6 0 0 = nI 0 := by rw [eM_6, eM_5, pu_j _ _ _ _ _ (by decide), pu_s]
  have hR1 := hR.f9 hF
  refine lv_iload_n hx hb d_M_print_39 rfl (lv_at hl 0 rfl) ?_
  refine o_ge (o := none) (tgt := 126) hx hb d_M_print_40 (by decide) (fun q e => by cases e) (fun v_40 c_40 => ?_) (fun c_40 => ?_)
  · exact absurd c_40 (by simp)
  · refine lv_aload_n hx hb d_M_print_43 rfl (lv_at hl 2 rfl) ?_
    refine g_get (C := R_M) (T := T_M) (N := 19) (ci := 8) (v := .ref (ad (9))) hx hb hg i_M hown hK hP 0 (by decide) rfl rfl 13 (by decide) (hg _ k_806) rfl d_M_print_44 ?_
    refine lv_aload_n hx hb d_M_print_47 rfl (lv_at hl 2 rfl) ?_
    refine lv_dup hx hb d_M_print_48 rfl ?_
    refine g_get (C := R_M) (T := T_M) (N := 19) (ci := 8) (v := .int (M_6 0 14)) hx hb hg i_M hown hK hP 0 (by decide) rfl rfl 14 (by decide) (hg _ k_807) rfl d_M_print_49 ?_
    refine n_top (y := (nI (0))) (by rw [eM_6, pu_s]) ?_
    refine lv_dup_x1 hx hb d_M_print_52 rfl rfl ?_
    refine n_const (k := 1) hx hb d_M_print_53 (by decide) ?_
    refine n_iadd (a := 0) (b := 1) hx hb d_M_print_54 ?_
    refine g_put (C := R_M) (T := T_M) (N := 19) (ci := 8) (v := (nI ((0) + (1)))) hx hb hg i_M ty_M t_M_ok n_M hown hK hI (fun _ h => h) hP hS 0 (by decide) rfl rfl 14 (by decide) (hg _ k_807) rfl (by decide +kernel) (Nat.le_of_ble_eq_true rfl) rfl d_M_print_55 (fun H locs hP hS => ?_)
    obtain ⟨M_7, eM_7⟩ : ∃ z : PM, z = (pu M_6 0 14 ((nI ((0) + (1))))) := ⟨_, rfl⟩
    rw [← eM_7] at hP
    refine n_bipush (k := 60) hx hb d_M_print_58 (by decide) ?_
    refine g_bast hx hb hK hI (fun _ h => h) hP hS 9 1 (by decide) (fun _ => rfl) rfl (by decide) (j := 0) (by omega) (v := (nI (60))) d_M_print_60 (fun H locs hP hS => ?_)
    obtain ⟨M_8, eM_8⟩ : ∃ z : PM, z = (pu M_7 9 (0) (vp_nar .byte (nI (60)))) := ⟨_, rfl⟩
    rw [← eM_8] at hP
    have hSH : SH M_8 (0 + 1) (scP0 len ch a) := by rw [eM_8, eM_7, nbb _ (by decide)]; exact hSH.add _ (rfl)
    have hF : F9 M M_8 := hF.tr (by rw [eM_8, eM_7]; exact (F9.s1 _ _).tr (F9.s2 _ _ _))
    have h00 : M_8 0 0 = nI 0 := by rw [eM_8, eM_7, pu_k _ _ _ _ _ (by decide), pu_j _ _ _ _ _ (by decide)]; exact h00
    refine n_const (k := 0) hx hb d_M_print_61 (by decide) ?_
    refine lv_istore (lv' := [(4, .int (nI (0))), (3, .int (oI (none))), (2, .int (oI (none))), (0, .ref (ad (0))), (1, .int (nI (a)))]) hx hb d_M_print_62 hl (by decide) rfl (fun ls hl => ?_)
    exact J64 (_ + 1) (0) M_8 _ _ ls (Nat.lt_succ_self _) (by omega) (hSH) (hF) (h00) hP hS (lv_sub hl [3, 4, 0] rfl)

set_option maxHeartbeats 4000000 in
set_option maxRecDepth 100000 in
theorem c_M_print_s (l : Launch) (D : va_G) (cI cB : ClassId) (ad : Nat → Nat) (hI : GI 13 ad) (M : PM) (n : Nat) (len : Nat → Nat) (ch : Nat → Nat → Nat) (sp : Nat → Option Nat) (hR : RN M n len ch sp) (hDN : DN n len ch) (a : Nat) (ha : a < n) (s9 b9 : Nat) (hS9 : Best (spC n len ch sp a) len n (some s9)) (hT9 : Top (fun k => (some s9 : Option Nat) ≠ none ∧ sp k = some s9) (btS len ch) n (some b9)) : MM l D cI cB ad y_M_print b_M_print 5 (some .int) 3 69 [.ref (ad (0)), .int (nI (a))] M (fun v M' => v = some (.int (nI (len b9 + 1 + (len a - len s9)))) ∧ SH M' (len b9 + 1 + (len a - len s9)) (scP1 len ch a s9 b9) ∧ F9 M M' ∧ M' 0 0 = nI 0) := by
  refine MC.of (by decide) (Nat.le_of_ble_eq_true rfl) ?_
  intro p e s m below meth c ls hx hb hr hml hown hg hlocks hK hN hP hS hl
  have hown : s.vm.findClass R_M = some m.cls := hown
  have hl : lv_has ls 5 [(0, .ref (ad (0))), (1, .int (nI (a)))] := hl
  have hn60 : n ≤ 60 := hR.1
  have hl24 := hR.2.2.1
  have hspn := hR.2.2.2.2.1
  have hch := hR.2.2.2.2.2
  have la := hl24 a ha
  have hs9n := hS9.1
  have hb9n := hT9.1
  have lb := hl24 b9 hb9n
  have ls9 := hl24 s9 hs9n
  have hgo := hS9.2.1.1
  have hgo1 := hgo.1
  have J196 : ∀ (fu196 : Nat) (i : Nat) (M1 : PM) (H : Heap) (locs : List Loc) (ls : Array Slot), len a - i < fu196 → (len s9 ≤ i) → (i ≤ len a) → (SH M1 (len b9 + 1 + (i - len s9)) (scP1 len ch a s9 b9)) → (F9 M M1) → (M1 0 0 = nI 0) → va_P D clsA (gw 13 ad (cfM cI cB ad) M1) H → va_S (GA 13 ad) s.heap H locs → lv_has ls 5 [(0, .ref (ad (0))), (1, .int (nI (a))), (4, .int (nI (i)))] → W p l e (rm_ 3 69) s m ([.ref (ad (0)), .int (nI (a))] : List Value).toArray below meth c H locs 0 0 (MQ below (GQ D 13 ad (cfM cI cB ad) (fun v M' => v = some (.int (nI (len b9 + 1 + (len a - len s9)))) ∧ SH M' (len b9 + 1 + (len a - len s9)) (scP1 len ch a s9 b9) ∧ F9 M M' ∧ M' 0 0 = nI 0)) ([.ref (ad (0)), .int (nI (a))] : List Value).toArray s 0 0 (GA 13 ad)) (F0 m 196 ls []) := by
    intro fu196
    induction fu196 with
    | zero => intro i M1 H locs ls hfu; exact absurd hfu (Nat.not_lt_zero _)
    | succ fu196 ih196 =>
      intro i M1 H locs ls hfu196 hi1 hi hSH hF h00 hP hS hl
      have hR1 := hR.f9 hF
      refine lv_iload hx hb d_M_print_196 (lv_at hl 2 rfl) ?_
      refine lv_aload_n hx hb d_M_print_198 rfl (lv_at hl 0 rfl) ?_
      refine g_get (C := R_M) (T := T_M) (N := 19) (ci := 8) (v := .ref (ad (3))) hx hb hg i_M hown hK hP 0 (by decide) rfl rfl 4 (by decide) (hg _ k_797) rfl d_M_print_199 ?_
      refine lv_iload_n hx hb d_M_print_202 rfl (lv_at hl 1 rfl) ?_
      refine g_iald hx hb hK hP 3 0 (by decide) rfl rfl (by decide) (j := a) (by omega) d_M_print_203 ?_
      refine n_top (y := (nI (len (a)))) ((hR1.2.2.1 (a) (by omega)).2.2) ?_
      refine n_ge (a := i) (b := len (a)) (tgt := 237) hx hb d_M_print_204 (by decide) (by omega) (by omega) (fun c_204 => ?_) (fun c_204 => ?_)
      · refine lv_aload_n hx hb d_M_print_237 rfl (lv_at hl 0 rfl) ?_
        refine g_get (C := R_M) (T := T_M) (N := 19) (ci := 8) (v := .int (M1 0 14)) hx hb hg i_M hown hK hP 0 (by decide) rfl rfl 14 (by decide) (hg _ k_807) rfl d_M_print_238 ?_
        refine n_top (y := (nI (len b9 + 1 + (i - len s9)))) (hSH.1) ?_
        exact r_i hx hb hr hlocks hP hS (⟨by rw [show len a = i by omega], by rw [show len a = i by omega]; exact hSH, hF, h00⟩) d_M_print_241
      · refine lv_aload_n hx hb d_M_print_207 rfl (lv_at hl 0 rfl) ?_
        refine g_get (C := R_M) (T := T_M) (N := 19) (ci := 8) (v := .ref (ad (9))) hx hb hg i_M hown hK hP 0 (by decide) rfl rfl 13 (by decide) (hg _ k_806) rfl d_M_print_208 ?_
        refine lv_aload_n hx hb d_M_print_211 rfl (lv_at hl 0 rfl) ?_
        refine lv_dup hx hb d_M_print_212 rfl ?_
        refine g_get (C := R_M) (T := T_M) (N := 19) (ci := 8) (v := .int (M1 0 14)) hx hb hg i_M hown hK hP 0 (by decide) rfl rfl 14 (by decide) (hg _ k_807) rfl d_M_print_213 ?_
        refine n_top (y := (nI (len b9 + 1 + (i - len s9)))) (hSH.1) ?_
        refine lv_dup_x1 hx hb d_M_print_216 rfl rfl ?_
        refine n_const (k := 1) hx hb d_M_print_217 (by decide) ?_
        refine n_iadd (a := len b9 + 1 + (i - len s9)) (b := 1) hx hb d_M_print_218 ?_
        refine g_put (C := R_M) (T := T_M) (N := 19) (ci := 8) (v := (nI ((len b9 + 1 + (i - len s9)) + (1)))) hx hb hg i_M ty_M t_M_ok n_M hown hK hI (fun _ h => h) hP hS 0 (by decide) rfl rfl 14 (by decide) (hg _ k_807) rfl (by decide +kernel) (Nat.le_of_ble_eq_true rfl) rfl d_M_print_219 (fun H locs hP hS => ?_)
        obtain ⟨M_1, eM_1⟩ : ∃ z : PM, z = (pu M1 0 14 ((nI ((len b9 + 1 + (i - len s9)) + (1))))) := ⟨_, rfl⟩
        rw [← eM_1] at hP
        have hR1 : RN M_1 n len ch sp := by rw [eM_1]; exact hR1.f9 (F9.s1 _ _)
        refine lv_aload_n hx hb d_M_print_222 rfl (lv_at hl 0 rfl) ?_
        refine lv_iload_n hx hb d_M_print_223 rfl (lv_at hl 1 rfl) ?_
        refine lv_iload hx hb d_M_print_224 (lv_at hl 2 rfl) ?_
        refine c_V (own := R_M) (index := 64) (As := [.int (nI (a)), .int (nI (i))]) (rest := [.int (nI (len b9 + 1 + (i - len s9))), .ref (ad (9))]) hx hb hml hown hg hK (fun _ _ _ h => h) (fun _ _ => trivial) (fun _ h => h) hP hS 0 (c_M_at l D cI cB ad hI M_1 n len ch sp hR1 (a) (i) (by omega) (by omega)) (by decide) (ci := 8) rfl rfl k_887 k_889 k_p27 k_9 k_890 2 rfl (by decide +kernel) (by decide) rfl hl.1 (Nat.le_of_ble_eq_true rfl) d_M_print_226 (fun v M' H locs hq hP _ _ hS => ?_)
        obtain ⟨rfl, rfl⟩ := hq
        refine W.eq (g2 := F0 m 229 ls [.int (nI (ch (a) (i))), .int (nI (len b9 + 1 + (i - len s9))), .ref (ad (9))]) rfl ?_
        refine lv_i2b (v := nI (ch (a) (i))) hx hb d_M_print_229 (nb8 _ (by first | (have := hch b9 i hb9n (by omega); omega) | (have := hch a i ha (by omega); omega))) ?_
        refine g_bast hx hb hK hI (fun _ h => h) hP hS 9 1 (by decide) (fun _ => rfl) rfl (by decide) (j := len b9 + 1 + (i - len s9)) (by omega) (v := (nI (ch (a) (i)))) d_M_print_230 (fun H locs hP hS => ?_)
        obtain ⟨M_2, eM_2⟩ : ∃ z : PM, z = (pu M_1 9 (len b9 + 1 + (i - len s9)) (vp_nar .byte (nI (ch (a) (i))))) := ⟨_, rfl⟩
        rw [← eM_2] at hP
        have hSH : SH M_2 (len b9 + 1 + (i - len s9) + 1) (scP1 len ch a s9 b9) := by rw [eM_2, eM_1, nbb _ (by have := hch a i ha (by omega); omega)]; exact hSH.add _ (by have := hgo.1; unfold scP1; rw [if_neg (by omega), if_neg (by omega)]; congr 1; omega)
        have hF : F9 M M_2 := hF.tr (by rw [eM_2, eM_1]; exact (F9.s1 _ _).tr (F9.s2 _ _ _))
        have h00 : M_2 0 0 = nI 0 := by rw [eM_2, eM_1, pu_k _ _ _ _ _ (by decide), pu_j _ _ _ _ _ (by decide)]; exact h00
        refine n_inc (lv' := [(4, .int (nI (i + 1))), (0, .ref (ad (0))), (1, .int (nI (a)))]) hx hb d_M_print_231 hl (k := 2) rfl (by decide) rfl (fun ls hl => ?_)
        refine lv_goto (tgt := 196) hx hb d_M_print_234 (by decide) ?_
        exact ih196 (i + 1) M_2 _ _ ls (by omega) (by omega) (by omega) (by rw [show len b9 + 1 + (i + 1 - len s9) = len b9 + 1 + (i - len s9) + 1 by omega]; exact hSH) (hF) (h00) hP hS (lv_sub hl [1, 2, 0] rfl)
  have J129 : ∀ (fu129 : Nat) (i : Nat) (M1 : PM) (H : Heap) (locs : List Loc) (ls : Array Slot), len b9 - i < fu129 → (i ≤ len b9) → (SH M1 (i) (scP1 len ch a s9 b9)) → (F9 M M1) → (M1 0 0 = nI 0) → va_P D clsA (gw 13 ad (cfM cI cB ad) M1) H → va_S (GA 13 ad) s.heap H locs → lv_has ls 5 [(0, .ref (ad (0))), (1, .int (nI (a))), (2, .int (nI (s9))), (3, .int (nI (b9))), (4, .int (nI (i)))] → W p l e (rm_ 3 69) s m ([.ref (ad (0)), .int (nI (a))] : List Value).toArray below meth c H locs 0 0 (MQ below (GQ D 13 ad (cfM cI cB ad) (fun v M' => v = some (.int (nI (len b9 + 1 + (len a - len s9)))) ∧ SH M' (len b9 + 1 + (len a - len s9)) (scP1 len ch a s9 b9) ∧ F9 M M' ∧ M' 0 0 = nI 0)) ([.ref (ad (0)), .int (nI (a))] : List Value).toArray s 0 0 (GA 13 ad)) (F0 m 129 ls []) := by
    intro fu129
    induction fu129 with
    | zero => intro i M1 H locs ls hfu; exact absurd hfu (Nat.not_lt_zero _)
    | succ fu129 ih129 =>
      intro i M1 H locs ls hfu129 hi hSH hF h00 hP hS hl
      have hR1 := hR.f9 hF
      refine lv_iload hx hb d_M_print_129 (lv_at hl 4 rfl) ?_
      refine lv_aload_n hx hb d_M_print_131 rfl (lv_at hl 0 rfl) ?_
      refine g_get (C := R_M) (T := T_M) (N := 19) (ci := 8) (v := .ref (ad (3))) hx hb hg i_M hown hK hP 0 (by decide) rfl rfl 4 (by decide) (hg _ k_797) rfl d_M_print_132 ?_
      refine lv_iload_n hx hb d_M_print_135 rfl (lv_at hl 3 rfl) ?_
      refine g_iald hx hb hK hP 3 0 (by decide) rfl rfl (by decide) (j := b9) (by omega) d_M_print_136 ?_
      refine n_top (y := (nI (len (b9)))) ((hR1.2.2.1 (b9) (by omega)).2.2) ?_
      refine n_ge (a := i) (b := len (b9)) (tgt := 170) hx hb d_M_print_137 (by decide) (by omega) (by omega) (fun c_137 => ?_) (fun c_137 => ?_)
      · refine lv_aload_n hx hb d_M_print_170 rfl (lv_at hl 0 rfl) ?_
        refine g_get (C := R_M) (T := T_M) (N := 19) (ci := 8) (v := .ref (ad (9))) hx hb hg i_M hown hK hP 0 (by decide) rfl rfl 13 (by decide) (hg _ k_806) rfl d_M_print_171 ?_
        refine lv_aload_n hx hb d_M_print_174 rfl (lv_at hl 0 rfl) ?_
        refine lv_dup hx hb d_M_print_175 rfl ?_
        refine g_get (C := R_M) (T := T_M) (N := 19) (ci := 8) (v := .int (M1 0 14)) hx hb hg i_M hown hK hP 0 (by decide) rfl rfl 14 (by decide) (hg _ k_807) rfl d_M_print_176 ?_
        refine n_top (y := (nI (i))) (hSH.1) ?_
        refine lv_dup_x1 hx hb d_M_print_179 rfl rfl ?_
        refine n_const (k := 1) hx hb d_M_print_180 (by decide) ?_
        refine n_iadd (a := i) (b := 1) hx hb d_M_print_181 ?_
        refine g_put (C := R_M) (T := T_M) (N := 19) (ci := 8) (v := (nI ((i) + (1)))) hx hb hg i_M ty_M t_M_ok n_M hown hK hI (fun _ h => h) hP hS 0 (by decide) rfl rfl 14 (by decide) (hg _ k_807) rfl (by decide +kernel) (Nat.le_of_ble_eq_true rfl) rfl d_M_print_182 (fun H locs hP hS => ?_)
        obtain ⟨M_3, eM_3⟩ : ∃ z : PM, z = (pu M1 0 14 ((nI ((i) + (1))))) := ⟨_, rfl⟩
        rw [← eM_3] at hP
        refine n_bipush (k := 58) hx hb d_M_print_185 (by decide) ?_
        refine g_bast hx hb hK hI (fun _ h => h) hP hS 9 1 (by decide) (fun _ => rfl) rfl (by decide) (j := i) (by omega) (v := (nI (58))) d_M_print_187 (fun H locs hP hS => ?_)
        obtain ⟨M_4, eM_4⟩ : ∃ z : PM, z = (pu M_3 9 (i) (vp_nar .byte (nI (58)))) := ⟨_, rfl⟩
        rw [← eM_4] at hP
        have hSH : SH M_4 (i + 1) (scP1 len ch a s9 b9) := by rw [eM_4, eM_3, nbb _ (by decide)]; exact hSH.add _ (by unfold scP1; rw [if_neg (by omega), if_pos (by omega)])
        have hF : F9 M M_4 := hF.tr (by rw [eM_4, eM_3]; exact (F9.s1 _ _).tr (F9.s2 _ _ _))
        have h00 : M_4 0 0 = nI 0 := by rw [eM_4, eM_3, pu_k _ _ _ _ _ (by decide), pu_j _ _ _ _ _ (by decide)]; exact h00
        refine lv_aload_n hx hb d_M_print_188 rfl (lv_at hl 0 rfl) ?_
        refine g_get (C := R_M) (T := T_M) (N := 19) (ci := 8) (v := .ref (ad (3))) hx hb hg i_M hown hK hP 0 (by decide) rfl rfl 4 (by decide) (hg _ k_797) rfl d_M_print_189 ?_
        refine lv_iload_n hx hb d_M_print_192 rfl (lv_at hl 2 rfl) ?_
        refine g_iald hx hb hK hP 3 0 (by decide) rfl rfl (by decide) (j := s9) (by omega) d_M_print_193 ?_
        refine n_top (y := (nI (len (s9)))) (by rw [eM_4, pu_k _ _ _ _ _ (by first | decide | omega), eM_3, pu_k _ _ _ _ _ (by first | decide | omega)]; exact (hR1.2.2.1 (s9) (by omega)).2.2) ?_
        refine lv_istore (lv' := [(4, .int (nI (len (s9)))), (0, .ref (ad (0))), (1, .int (nI (a))), (2, .int (nI (s9))), (3, .int (nI (b9)))]) hx hb d_M_print_194 hl (by decide) rfl (fun ls hl => ?_)
        exact J196 (_ + 1) (len (s9)) M_4 _ _ ls (Nat.lt_succ_self _) (by omega) (by omega) (by rw [show len b9 + 1 + (len s9 - len s9) = i + 1 by omega]; exact hSH) (hF) (h00) hP hS (lv_sub hl [1, 2, 0] rfl)
      · refine lv_aload_n hx hb d_M_print_140 rfl (lv_at hl 0 rfl) ?_
        refine g_get (C := R_M) (T := T_M) (N := 19) (ci := 8) (v := .ref (ad (9))) hx hb hg i_M hown hK hP 0 (by decide) rfl rfl 13 (by decide) (hg _ k_806) rfl d_M_print_141 ?_
        refine lv_aload_n hx hb d_M_print_144 rfl (lv_at hl 0 rfl) ?_
        refine lv_dup hx hb d_M_print_145 rfl ?_
        refine g_get (C := R_M) (T := T_M) (N := 19) (ci := 8) (v := .int (M1 0 14)) hx hb hg i_M hown hK hP 0 (by decide) rfl rfl 14 (by decide) (hg _ k_807) rfl d_M_print_146 ?_
        refine n_top (y := (nI (i))) (hSH.1) ?_
        refine lv_dup_x1 hx hb d_M_print_149 rfl rfl ?_
        refine n_const (k := 1) hx hb d_M_print_150 (by decide) ?_
        refine n_iadd (a := i) (b := 1) hx hb d_M_print_151 ?_
        refine g_put (C := R_M) (T := T_M) (N := 19) (ci := 8) (v := (nI ((i) + (1)))) hx hb hg i_M ty_M t_M_ok n_M hown hK hI (fun _ h => h) hP hS 0 (by decide) rfl rfl 14 (by decide) (hg _ k_807) rfl (by decide +kernel) (Nat.le_of_ble_eq_true rfl) rfl d_M_print_152 (fun H locs hP hS => ?_)
        obtain ⟨M_5, eM_5⟩ : ∃ z : PM, z = (pu M1 0 14 ((nI ((i) + (1))))) := ⟨_, rfl⟩
        rw [← eM_5] at hP
        have hR1 : RN M_5 n len ch sp := by rw [eM_5]; exact hR1.f9 (F9.s1 _ _)
        refine lv_aload_n hx hb d_M_print_155 rfl (lv_at hl 0 rfl) ?_
        refine lv_iload_n hx hb d_M_print_156 rfl (lv_at hl 3 rfl) ?_
        refine lv_iload hx hb d_M_print_157 (lv_at hl 4 rfl) ?_
        refine c_V (own := R_M) (index := 64) (As := [.int (nI (b9)), .int (nI (i))]) (rest := [.int (nI (i)), .ref (ad (9))]) hx hb hml hown hg hK (fun _ _ _ h => h) (fun _ _ => trivial) (fun _ h => h) hP hS 0 (c_M_at l D cI cB ad hI M_5 n len ch sp hR1 (b9) (i) (by omega) (by omega)) (by decide) (ci := 8) rfl rfl k_887 k_889 k_p27 k_9 k_890 2 rfl (by decide +kernel) (by decide) rfl hl.1 (Nat.le_of_ble_eq_true rfl) d_M_print_159 (fun v M' H locs hq hP _ _ hS => ?_)
        obtain ⟨rfl, rfl⟩ := hq
        refine W.eq (g2 := F0 m 162 ls [.int (nI (ch (b9) (i))), .int (nI (i)), .ref (ad (9))]) rfl ?_
        refine lv_i2b (v := nI (ch (b9) (i))) hx hb d_M_print_162 (nb8 _ (by first | (have := hch b9 i hb9n (by omega); omega) | (have := hch a i ha (by omega); omega))) ?_
        refine g_bast hx hb hK hI (fun _ h => h) hP hS 9 1 (by decide) (fun _ => rfl) rfl (by decide) (j := i) (by omega) (v := (nI (ch (b9) (i)))) d_M_print_163 (fun H locs hP hS => ?_)
        obtain ⟨M_6, eM_6⟩ : ∃ z : PM, z = (pu M_5 9 (i) (vp_nar .byte (nI (ch (b9) (i))))) := ⟨_, rfl⟩
        rw [← eM_6] at hP
        have hSH : SH M_6 (i + 1) (scP1 len ch a s9 b9) := by rw [eM_6, eM_5, nbb _ (by have := hch b9 i hb9n (by omega); omega)]; exact hSH.add _ (by unfold scP1; rw [if_pos (by omega)])
        have hF : F9 M M_6 := hF.tr (by rw [eM_6, eM_5]; exact (F9.s1 _ _).tr (F9.s2 _ _ _))
        have h00 : M_6 0 0 = nI 0 := by rw [eM_6, eM_5, pu_k _ _ _ _ _ (by decide), pu_j _ _ _ _ _ (by decide)]; exact h00
        refine n_inc (lv' := [(4, .int (nI (i + 1))), (0, .ref (ad (0))), (1, .int (nI (a))), (2, .int (nI (s9))), (3, .int (nI (b9)))]) hx hb d_M_print_164 hl (k := 4) rfl (by decide) rfl (fun ls hl => ?_)
        refine lv_goto (tgt := 129) hx hb d_M_print_167 (by decide) ?_
        exact ih129 (i + 1) M_6 _ _ ls (by omega) (by omega) (hSH) (hF) (h00) hP hS (lv_sub hl [1, 2, 3, 4, 0] rfl)
  refine lv_aload_n hx hb d_M_print_0 rfl (lv_at hl 0 rfl) ?_
  refine lv_aload_n hx hb d_M_print_1 rfl (lv_at hl 0 rfl) ?_
  refine lv_iload_n hx hb d_M_print_2 rfl (lv_at hl 1 rfl) ?_
  refine c_V (own := R_M) (index := 89) (As := [.int (nI (a))]) (rest := [.ref (ad (0))]) hx hb hml hown hg hK (fun _ _ _ h => h) (fun _ _ => trivial) (fun _ h => h) hP hS 0 (c_M_no l D cI cB ad hI M n len ch sp hR (nI (a)) false (no_f (by omega))) (by decide) (ci := 8) rfl rfl k_907 k_909 k_p30 k_9 k_910 1 rfl (by decide +kernel) (by decide) rfl hl.1 (Nat.le_of_ble_eq_true rfl) d_M_print_3 (fun v M' H locs hq hP _ _ hS => ?_)
  obtain ⟨rfl, rfl⟩ := hq
  refine W.eq (g2 := F0 m 6 ls [.int (bI (false)), .ref (ad (0))]) rfl ?_
  refine z_eq (t := false) (tgt := 13) hx hb d_M_print_6 (by decide) (fun _ => ?_) (fun h9 => absurd h9 (by decide))
  refine n_const (k := 0) hx hb d_M_print_13 (by decide) ?_
  refine c_V (own := R_M) (index := 57) (As := [.int (nI (0))]) (rest := []) hx hb hml hown hg hK (fun _ _ _ h => h) (fun _ _ => trivial) (fun _ h => h) hP hS 0 (c_M_refuses l D cI cB ad hI M (0) (by decide)) (by decide) (ci := 8) rfl rfl k_859 k_861 k_p22 k_9 k_862 1 rfl (by decide +kernel) (by decide) rfl hl.1 (Nat.le_of_ble_eq_true rfl) d_M_print_14 (fun v M_7 H locs hq hP _ _ hS => ?_)
  obtain ⟨rfl, eM_7⟩ := hq
  have hR1 := hR.sx (SX.thr M (nI 0))
  rw [← eM_7] at hR1
  refine W.eq (g2 := F0 m 17 ls [.int (bI (false))]) rfl ?_
  refine z_eq (t := false) (tgt := 22) hx hb d_M_print_17 (by decide) (fun _ => ?_) (fun h9 => absurd h9 (by decide))
  refine lv_aload_n hx hb d_M_print_22 rfl (lv_at hl 0 rfl) ?_
  refine lv_iload_n hx hb d_M_print_23 rfl (lv_at hl 1 rfl) ?_
  refine c_V (own := R_M) (index := 106) (As := [.int (nI (a))]) (rest := []) hx hb hml hown hg hK (fun _ _ _ h => h) (fun _ _ => trivial) (fun _ h => h) hP hS 0 (c_M_spaceOf l D cI cB ad hI M_7 n len ch sp hR1 a ha (some s9) hS9) (by decide) (ci := 8) rfl rfl k_923 k_925 k_p33 k_9 k_926 1 rfl (by decide +kernel) (by decide) rfl hl.1 (Nat.le_of_ble_eq_true rfl) d_M_print_24 (fun v M' H locs hq hP _ _ hS => ?_)
  obtain ⟨rfl, rfl⟩ := hq
  refine W.eq (g2 := F0 m 27 ls [.int (nI (s9))]) rfl ?_
  refine lv_istore_n (lv' := [(2, .int (nI (s9))), (0, .ref (ad (0))), (1, .int (nI (a)))]) hx hb d_M_print_27 rfl hl (by decide) rfl (fun ls hl => ?_)
  refine lv_aload_n hx hb d_M_print_28 rfl (lv_at hl 1 rfl) ?_
  refine lv_iload_n hx hb d_M_print_29 rfl (lv_at hl 0 rfl) ?_
  refine c_V (own := R_M) (index := 113) (As := [.int (nI (s9))]) (rest := []) hx hb hml hown hg hK (fun _ _ _ h => h) (fun _ _ => trivial) (fun _ h => h) hP hS 0 (c_M_bestOf l D cI cB ad hI M_7 n len ch sp hR1 hDN (some s9) (fun q e => by cases e; exact hS9.1) (some b9) hT9) (by decide) (ci := 8) rfl rfl k_939 k_941 k_p36 k_9 k_942 1 rfl (by decide +kernel) (by decide) rfl hl.1 (Nat.le_of_ble_eq_true rfl) d_M_print_30 (fun v M' H locs hq hP _ _ hS => ?_)
  obtain ⟨rfl, rfl⟩ := hq
  refine W.eq (g2 := F0 m 33 ls [.int (nI (b9))]) rfl ?_
  refine lv_istore_n (lv' := [(3, .int (nI (b9))), (2, .int (nI (s9))), (0, .ref (ad (0))), (1, .int (nI (a)))]) hx hb d_M_print_33 rfl hl (by decide) rfl (fun ls hl => ?_)
  refine lv_aload_n hx hb d_M_print_34 rfl (lv_at hl 2 rfl) ?_
  refine n_const (k := 0) hx hb d_M_print_35 (by decide) ?_
  refine g_put (C := R_M) (T := T_M) (N := 19) (ci := 8) (v := (nI (0))) hx hb hg i_M ty_M t_M_ok n_M hown hK hI (fun _ h => h) hP hS 0 (by decide) rfl rfl 14 (by decide) (hg _ k_807) rfl (by decide +kernel) (Nat.le_of_ble_eq_true rfl) rfl d_M_print_36 (fun H locs hP hS => ?_)
  obtain ⟨M_8, eM_8⟩ : ∃ z : PM, z = (pu M_7 0 14 ((nI (0)))) := ⟨_, rfl⟩
  rw [← eM_8] at hP
  have hSH : SH M_8 0 (scP1 len ch a s9 b9) := ⟨by rw [eM_8, pu_s], fun q hq => absurd hq (Nat.not_lt_zero q)⟩
  have hF : F9 M M_8 := by rw [eM_8, eM_7]; exact (F9.sx (SX.thr _ _)).tr (F9.s1 _ _)
  have h00 : M_8 0 0 = nI 0 := by rw [eM_8, eM_7, pu_j _ _ _ _ _ (by decide), pu_s]
  have hR1 := hR.f9 hF
  refine lv_iload_n hx hb d_M_print_39 rfl (lv_at hl 0 rfl) ?_
  refine lv_if_ge (tgt := 126) hx hb d_M_print_40 (by decide) (fun c_40 => ?_) (fun c_40 => ?_)
  · refine n_const (k := 0) hx hb d_M_print_126 (by decide) ?_
    refine lv_istore (lv' := [(4, .int (nI (0))), (3, .int (nI (b9))), (2, .int (nI (s9))), (0, .ref (ad (0))), (1, .int (nI (a)))]) hx hb d_M_print_127 hl (by decide) rfl (fun ls hl => ?_)
    exact J129 (_ + 1) (0) M_8 _ _ ls (Nat.lt_succ_self _) (by omega) (hSH) (hF) (h00) hP hS (lv_sub hl [3, 4, 2, 1, 0] rfl)
  · exact absurd (nI_pos' (by omega)) c_40
