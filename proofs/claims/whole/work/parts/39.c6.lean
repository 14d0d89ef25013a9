set_option maxHeartbeats 4000000 in
set_option maxRecDepth 100000 in
theorem c_E_between (l : Launch) (D : va_G) (cI cC cZ cT : ClassId) (ad : Nat → Nat) (hI : GI 144 ad) (M : PM) (t : Nat) (ht : tx t) (sl : Nat) (sc : Nat → Nat) (hT : TT M t sl sc) (u : Nat) (hu : tx u) (ul : Nat) (uc : Nat → Nat) (hU : TT M u ul uc) (hs24 : sl ≤ 24) (hu24 : ul ≤ 24) : MD l D cI cC cZ cT ad y_E_between b_E_between 8 (some .int) 1 21 [.ref (ad (139)), .ref (ad (u)), .ref (ad (t))] M (fun v M' => v = some (.int (nI (Ed (eqC2 uc sc) ul sl))) ∧ F140 M M') := by
  refine MC.of (by decide) (Nat.le_of_ble_eq_true rfl) ?_
  intro p e s m below meth c ls hx hb hr hml hown hg hlocks hK hN hP hS hl
  have hown : s.vm.findClass R_E = some m.cls := hown
  have hl : lv_has ls 8 [(0, .ref (ad (139))), (1, .ref (ad (u))), (2, .ref (ad (t)))] := hl
  have hcap := hT.1
  have hc49 := capT_24 t
  have hcau := hU.1
  have hcu49 := capT_24 u
  have J37 : ∀ (fu37 : Nat) (i0 : Nat) (M1 : PM) (H : Heap) (locs : List Loc) (ls : Array Slot), ul - i0 < fu37 → (i0 ≤ ul) → (F140 M M1) → (∀ q, q ≤ sl → M1 140 q = nI (Ed (eqC2 uc sc) i0 q)) → va_P D clsA (gw 144 ad (cfC cI cC cZ cT ad) M1) H → va_S (GA 144 ad) s.heap H locs → lv_has ls 8 [(0, .ref (ad (139))), (1, .ref (ad (u))), (2, .ref (ad (t))), (3, .int (nI (sl))), (4, .int (nI (i0 + 1)))] → W p l e (rm_ 1 21) s m ([.ref (ad (139)), .ref (ad (u)), .ref (ad (t))] : List Value).toArray below meth c H locs 0 0 (MQ below (GQ D 144 ad (cfC cI cC cZ cT ad) (fun v M' => v = some (.int (nI (Ed (eqC2 uc sc) ul sl))) ∧ F140 M M')) ([.ref (ad (139)), .ref (ad (u)), .ref (ad (t))] : List Value).toArray s 0 0 (GA 144 ad)) (F0 m 37 ls []) := by
    intro fu37
    induction fu37 with
    | zero => intro i0 M1 H locs ls hfu; exact absurd hfu (Nat.not_lt_zero _)
    | succ fu37 ih37 =>
      intro i0 M1 H locs ls hfu37 hi0 hF hrow hP hS hl
      have hT1 := hT.f140 hF ht
      have hU1 := hU.f140 hF hu
      have J65 : ∀ (fu65 : Nat) (j0 : Nat) (M2 : PM) (H : Heap) (locs : List Loc) (ls : Array Slot), sl - j0 < fu65 → (j0 ≤ sl) → (F140 M M2) → (∀ q, q < j0 + 1 → M2 140 q = nI (Ed (eqC2 uc sc) (i0 + 1) q)) → (∀ q, j0 + 1 ≤ q → q ≤ sl → M2 140 q = nI (Ed (eqC2 uc sc) i0 q)) → (i0 < ul) → va_P D clsA (gw 144 ad (cfC cI cC cZ cT ad) M2) H → va_S (GA 144 ad) s.heap H locs → lv_has ls 8 [(0, .ref (ad (139))), (1, .ref (ad (u))), (2, .ref (ad (t))), (3, .int (nI (sl))), (4, .int (nI (i0 + 1))), (5, .int (nI (Ed (eqC2 uc sc) i0 j0))), (6, .int (nI (j0 + 1)))] → W p l e (rm_ 1 21) s m ([.ref (ad (139)), .ref (ad (u)), .ref (ad (t))] : List Value).toArray below meth c H locs 0 0 (MQ below (GQ D 144 ad (cfC cI cC cZ cT ad) (fun v M' => v = some (.int (nI (Ed (eqC2 uc sc) ul sl))) ∧ F140 M M')) ([.ref (ad (139)), .ref (ad (u)), .ref (ad (t))] : List Value).toArray s 0 0 (GA 144 ad)) (F0 m 65 ls []) := by
        intro fu65
        induction fu65 with
        | zero => intro j0 M2 H locs ls hfu; exact absurd hfu (Nat.not_lt_zero _)
        | succ fu65 ih65 =>
          intro j0 M2 H locs ls hfu65 hj0 hF hlo hhi hia hP hS hl
          have hT1 := hT.f140 hF ht
          have hU1 := hU.f140 hF hu
          refine lv_iload hx hb d_E_between_65 (lv_at hl 6 rfl) ?_
          refine lv_iload_n hx hb d_E_between_67 rfl (lv_at hl 3 rfl) ?_
          refine n_gt (a := j0 + 1) (b := sl) (tgt := 144) hx hb d_E_between_68 (by decide) (by omega) (by omega) (fun c_68 => ?_) (fun c_68 => ?_)
          · refine n_inc (lv' := [(4, .int (nI (i0 + 1 + 1))), (0, .ref (ad (139))), (1, .ref (ad (u))), (2, .ref (ad (t))), (3, .int (nI (sl))), (5, .int (nI (Ed (eqC2 uc sc) i0 j0))), (6, .int (nI (j0 + 1)))]) hx hb d_E_between_144 hl (k := 4) rfl (by decide) rfl (fun ls hl => ?_)
            refine lv_goto (tgt := 37) hx hb d_E_between_147 (by decide) ?_
            exact ih37 (i0 + 1) M2 _ _ ls (by omega) (by omega) (hF) (by intro q hq; exact hlo q (by omega)) hP hS (lv_sub hl [1, 2, 3, 4, 0] rfl)
          · have e1 := Ed_le (eqC2 uc sc) i0 (j0 + 1)
            have e2 := Ed_le (eqC2 uc sc) (i0 + 1) j0
            have e3 := Ed_le (eqC2 uc sc) i0 j0
            have hca := (hU.2.2 i0 (by omega)).1
            have hcb := (hT.2.2 j0 (by omega)).1
            have hEd : Ed (eqC2 uc sc) (i0 + 1) (j0 + 1) = min (min (Ed (eqC2 uc sc) i0 (j0 + 1)) (Ed (eqC2 uc sc) (i0 + 1) j0) + 1) (Ed (eqC2 uc sc) i0 j0 + if decide (uc i0 = sc j0) then 0 else 1) := by rw [Ed]; rfl
            refine lv_aload_n hx hb d_E_between_71 rfl (lv_at hl 1 rfl) ?_
            refine lv_iload hx hb d_E_between_72 (lv_at hl 4 rfl) ?_
            refine n_const (k := 1) hx hb d_E_between_74 (by decide) ?_
            refine n_isub (a := i0 + 1) (b := 1) hx hb d_E_between_75 (by omega) ?_
            refine c_V (own := R_E) (index := 27) (As := [.int (nI ((i0 + 1) - (1)))]) (rest := []) hx hb hml hown hg hK NXc.same hN.warm (fun _ h => h) hP hS u (c_T_at l D cI cC cZ cT ad hI M2 u hu ul uc hU1 ((i0 + 1) - (1)) (by omega)) (tx_lt hu) (ci := 6) (cfC_T hu _) rfl k_634 k_192 k_193 k_2 k_194 1 rfl (by decide +kernel) (by decide) rfl hl.1 (Nat.le_of_ble_eq_true rfl) d_E_between_76 (fun v M' H locs hq hP _ _ hS => ?_)
            obtain ⟨rfl, rfl⟩ := hq
            refine W.eq (g2 := F0 m 79 ls [.int (nI (uc ((i0 + 1) - (1))))]) rfl ?_
            refine lv_aload_n hx hb d_E_between_79 rfl (lv_at hl 2 rfl) ?_
            refine lv_iload hx hb d_E_between_80 (lv_at hl 6 rfl) ?_
            refine n_const (k := 1) hx hb d_E_between_82 (by decide) ?_
            refine n_isub (a := j0 + 1) (b := 1) hx hb d_E_between_83 (by omega) ?_
            refine c_V (own := R_E) (index := 27) (As := [.int (nI ((j0 + 1) - (1)))]) (rest := [.int (nI (uc ((i0 + 1) - (1))))]) hx hb hml hown hg hK NXc.same hN.warm (fun _ h => h) hP hS t (c_T_at l D cI cC cZ cT ad hI M2 t ht sl sc hT1 ((j0 + 1) - (1)) (by omega)) (tx_lt ht) (ci := 6) (cfC_T ht _) rfl k_634 k_192 k_193 k_2 k_194 1 rfl (by decide +kernel) (by decide) rfl hl.1 (Nat.le_of_ble_eq_true rfl) d_E_between_84 (fun v M' H locs hq hP _ _ hS => ?_)
            obtain ⟨rfl, rfl⟩ := hq
            refine W.eq (g2 := F0 m 87 ls [.int (nI (sc ((j0 + 1) - (1)))), .int (nI (uc ((i0 + 1) - (1))))]) rfl ?_
            refine n_ne (a := uc ((i0 + 1) - (1))) (b := sc ((j0 + 1) - (1))) (tgt := 95) hx hb d_E_between_87 (by decide) (Nat.lt_trans hca (by decide)) (Nat.lt_trans hcb (by decide)) (fun c_87 => ?_) (fun c_87 => ?_)
            · have c9 : ¬ uc i0 = sc j0 := c_87
              rw [decide_eq_false c9] at hEd
              refine lv_iload hx hb d_E_between_95 (lv_at hl 5 rfl) ?_
              refine n_const (k := 1) hx hb d_E_between_97 (by decide) ?_
              refine n_iadd (a := Ed (eqC2 uc sc) i0 j0) (b := 1) hx hb d_E_between_98 ?_
              refine lv_istore (lv' := [(7, .int (nI ((Ed (eqC2 uc sc) i0 j0) + (1)))), (0, .ref (ad (139))), (1, .ref (ad (u))), (2, .ref (ad (t))), (3, .int (nI (sl))), (4, .int (nI (i0 + 1))), (5, .int (nI (Ed (eqC2 uc sc) i0 j0))), (6, .int (nI (j0 + 1)))]) hx hb d_E_between_99 hl (by decide) rfl (fun ls hl => ?_)
              refine lv_aload_n hx hb d_E_between_101 rfl (lv_at hl 1 rfl) ?_
              refine g_get (C := R_E) (T := T_E) (N := 1) (ci := 5) (v := .ref (ad (140))) hx hb hg i_E hown hK hP 139 (by decide) rfl rfl 0 (by decide) (hg _ k_124) rfl d_E_between_102 ?_
              refine lv_iload hx hb d_E_between_105 (lv_at hl 7 rfl) ?_
              refine g_iald hx hb hK hP 140 0 (by decide) rfl rfl (by decide) (j := j0 + 1) (by omega) d_E_between_107 ?_
              refine n_top (y := (nI (Ed (eqC2 uc sc) i0 (j0 + 1)))) (hhi (j0 + 1) (by omega) (by omega)) ?_
              refine lv_istore (lv' := [(5, .int (nI (Ed (eqC2 uc sc) i0 (j0 + 1)))), (7, .int (nI ((Ed (eqC2 uc sc) i0 j0) + (1)))), (0, .ref (ad (139))), (1, .ref (ad (u))), (2, .ref (ad (t))), (3, .int (nI (sl))), (4, .int (nI (i0 + 1))), (6, .int (nI (j0 + 1)))]) hx hb d_E_between_108 hl (by decide) rfl (fun ls hl => ?_)
              refine lv_aload_n hx hb d_E_between_110 rfl (lv_at hl 2 rfl) ?_
              refine g_get (C := R_E) (T := T_E) (N := 1) (ci := 5) (v := .ref (ad (140))) hx hb hg i_E hown hK hP 139 (by decide) rfl rfl 0 (by decide) (hg _ k_124) rfl d_E_between_111 ?_
              refine lv_iload hx hb d_E_between_114 (lv_at hl 7 rfl) ?_
              refine lv_iload hx hb d_E_between_116 (lv_at hl 1 rfl) ?_
              refine lv_iload hx hb d_E_between_118 (lv_at hl 0 rfl) ?_
              refine lv_aload_n hx hb d_E_between_120 rfl (lv_at hl 2 rfl) ?_
              refine g_get (C := R_E) (T := T_E) (N := 1) (ci := 5) (v := .ref (ad (140))) hx hb hg i_E hown hK hP 139 (by decide) rfl rfl 0 (by decide) (hg _ k_124) rfl d_E_between_121 ?_
              refine lv_iload hx hb d_E_between_124 (lv_at hl 7 rfl) ?_
              refine n_const (k := 1) hx hb d_E_between_126 (by decide) ?_
              refine n_isub (a := j0 + 1) (b := 1) hx hb d_E_between_127 (by omega) ?_
              refine g_iald hx hb hK hP 140 0 (by decide) rfl rfl (by decide) (j := (j0 + 1) - (1)) (by omega) d_E_between_128 ?_
              refine n_top (y := (nI (Ed (eqC2 uc sc) (i0 + 1) j0))) (hlo j0 (by omega)) ?_
              refine n_min (own := R_E) (index := 21) (rest := [.int (nI ((Ed (eqC2 uc sc) i0 j0) + (1))), .int (nI (j0 + 1)), .ref (ad (140))]) (a := Ed (eqC2 uc sc) i0 (j0 + 1)) (b := Ed (eqC2 uc sc) (i0 + 1) j0) hx hb (hml.trans hl.1.symm) hown hg k_633 k_342 k_16 k_343 (by decide) (Nat.le_of_ble_eq_true rfl) (by decide) (by decide) (by omega) (by omega) d_E_between_129 ?_
              refine n_const (k := 1) hx hb d_E_between_132 (by decide) ?_
              refine n_iadd (a := min (Ed (eqC2 uc sc) i0 (j0 + 1)) (Ed (eqC2 uc sc) (i0 + 1) j0)) (b := 1) hx hb d_E_between_133 ?_
              refine n_min (own := R_E) (index := 21) (rest := [.int (nI (j0 + 1)), .ref (ad (140))]) (a := (Ed (eqC2 uc sc) i0 j0) + (1)) (b := (min (Ed (eqC2 uc sc) i0 (j0 + 1)) (Ed (eqC2 uc sc) (i0 + 1) j0)) + (1)) hx hb (hml.trans hl.1.symm) hown hg k_633 k_342 k_16 k_343 (by decide) (Nat.le_of_ble_eq_true rfl) (by decide) (by decide) (by omega) (by omega) d_E_between_134 ?_
              have hX : min ((Ed (eqC2 uc sc) i0 j0) + (1)) ((min (Ed (eqC2 uc sc) i0 (j0 + 1)) (Ed (eqC2 uc sc) (i0 + 1) j0)) + (1)) = Ed (eqC2 uc sc) (i0 + 1) (j0 + 1) := by rw [hEd]; simp; omega
              refine g_iast hx hb hK hI (fun _ h => h) hP hS 140 0 (by decide) (fun _ => rfl) rfl (by decide) (j := j0 + 1) (by omega) (v := (nI (min ((Ed (eqC2 uc sc) i0 j0) + (1)) ((min (Ed (eqC2 uc sc) i0 (j0 + 1)) (Ed (eqC2 uc sc) (i0 + 1) j0)) + (1))))) d_E_between_137 (fun H locs hP hS => ?_)
              obtain ⟨M_1, eM_1⟩ : ∃ z : PM, z = (pu M2 140 (j0 + 1) ((nI (min ((Ed (eqC2 uc sc) i0 j0) + (1)) ((min (Ed (eqC2 uc sc) i0 (j0 + 1)) (Ed (eqC2 uc sc) (i0 + 1) j0)) + (1)))))) := ⟨_, rfl⟩
              rw [← eM_1] at hP
              refine n_inc (lv' := [(6, .int (nI (j0 + 1 + 1))), (5, .int (nI (Ed (eqC2 uc sc) i0 (j0 + 1)))), (7, .int (nI ((Ed (eqC2 uc sc) i0 j0) + (1)))), (0, .ref (ad (139))), (1, .ref (ad (u))), (2, .ref (ad (t))), (3, .int (nI (sl))), (4, .int (nI (i0 + 1)))]) hx hb d_E_between_138 hl (k := 7) rfl (by decide) rfl (fun ls hl => ?_)
              refine lv_goto (tgt := 65) hx hb d_E_between_141 (by decide) ?_
              exact ih65 (j0 + 1) M_1 _ _ ls (by omega) (by omega) (by rw [eM_1]; exact hF.st _ _) (by
  refine lt_S (fun q hq => ?_) ?_
  · rw [eM_1, pu_j _ _ _ _ _ (by omega)]; exact hlo q hq
  · rw [eM_1, pu_s, hX]) (by intro q h1 h2; rw [eM_1, pu_j _ _ _ _ _ (by omega)]; exact hhi q (by omega) h2) (by omega) hP hS (lv_sub hl [3, 4, 5, 6, 7, 1, 0] rfl)
            · have c9 : uc i0 = sc j0 := c_87
              rw [decide_eq_true c9] at hEd
              refine lv_iload hx hb d_E_between_90 (lv_at hl 5 rfl) ?_
              refine lv_goto (tgt := 99) hx hb d_E_between_92 (by decide) ?_
              refine lv_istore (lv' := [(7, .int (nI (Ed (eqC2 uc sc) i0 j0))), (0, .ref (ad (139))), (1, .ref (ad (u))), (2, .ref (ad (t))), (3, .int (nI (sl))), (4, .int (nI (i0 + 1))), (5, .int (nI (Ed (eqC2 uc sc) i0 j0))), (6, .int (nI (j0 + 1)))]) hx hb d_E_between_99 hl (by decide) rfl (fun ls hl => ?_)
              refine lv_aload_n hx hb d_E_between_101 rfl (lv_at hl 1 rfl) ?_
              refine g_get (C := R_E) (T := T_E) (N := 1) (ci := 5) (v := .ref (ad (140))) hx hb hg i_E hown hK hP 139 (by decide) rfl rfl 0 (by decide) (hg _ k_124) rfl d_E_between_102 ?_
              refine lv_iload hx hb d_E_between_105 (lv_at hl 7 rfl) ?_
              refine g_iald hx hb hK hP 140 0 (by decide) rfl rfl (by decide) (j := j0 + 1) (by omega) d_E_between_107 ?_
              refine n_top (y := (nI (Ed (eqC2 uc sc) i0 (j0 + 1)))) (hhi (j0 + 1) (by omega) (by omega)) ?_
              refine lv_istore (lv' := [(5, .int (nI (Ed (eqC2 uc sc) i0 (j0 + 1)))), (7, .int (nI (Ed (eqC2 uc sc) i0 j0))), (0, .ref (ad (139))), (1, .ref (ad (u))), (2, .ref (ad (t))), (3, .int (nI (sl))), (4, .int (nI (i0 + 1))), (6, .int (nI (j0 + 1)))]) hx hb d_E_between_108 hl (by decide) rfl (fun ls hl => ?_)
              refine lv_aload_n hx hb d_E_between_110 rfl (lv_at hl 2 rfl) ?_
              refine g_get (C := R_E) (T := T_E) (N := 1) (ci := 5) (v := .ref (ad (140))) hx hb hg i_E hown hK hP 139 (by decide) rfl rfl 0 (by decide) (hg _ k_124) rfl d_E_between_111 ?_
              refine lv_iload hx hb d_E_between_114 (lv_at hl 7 rfl) ?_
              refine lv_iload hx hb d_E_between_116 (lv_at hl 1 rfl) ?_
              refine lv_iload hx hb d_E_between_118 (lv_at hl 0 rfl) ?_
              refine lv_aload_n hx hb d_E_between_120 rfl (lv_at hl 2 rfl) ?_
              refine g_get (C := R_E) (T := T_E) (N := 1) (ci := 5) (v := .ref (ad (140))) hx hb hg i_E hown hK hP 139 (by decide) rfl rfl 0 (by decide) (hg _ k_124) rfl d_E_between_121 ?_
              refine lv_iload hx hb d_E_between_124 (lv_at hl 7 rfl) ?_
              refine n_const (k := 1) hx hb d_E_between_126 (by decide) ?_
              refine n_isub (a := j0 + 1) (b := 1) hx hb d_E_between_127 (by omega) ?_
              refine g_iald hx hb hK hP 140 0 (by decide) rfl rfl (by decide) (j := (j0 + 1) - (1)) (by omega) d_E_between_128 ?_
              refine n_top (y := (nI (Ed (eqC2 uc sc) (i0 + 1) j0))) (hlo j0 (by omega)) ?_
              refine n_min (own := R_E) (index := 21) (rest := [.int (nI (Ed (eqC2 uc sc) i0 j0)), .int (nI (j0 + 1)), .ref (ad (140))]) (a := Ed (eqC2 uc sc) i0 (j0 + 1)) (b := Ed (eqC2 uc sc) (i0 + 1) j0) hx hb (hml.trans hl.1.symm) hown hg k_633 k_342 k_16 k_343 (by decide) (Nat.le_of_ble_eq_true rfl) (by decide) (by decide) (by omega) (by omega) d_E_between_129 ?_
              refine n_const (k := 1) hx hb d_E_between_132 (by decide) ?_
              refine n_iadd (a := min (Ed (eqC2 uc sc) i0 (j0 + 1)) (Ed (eqC2 uc sc) (i0 + 1) j0)) (b := 1) hx hb d_E_between_133 ?_
              refine n_min (own := R_E) (index := 21) (rest := [.int (nI (j0 + 1)), .ref (ad (140))]) (a := Ed (eqC2 uc sc) i0 j0) (b := (min (Ed (eqC2 uc sc) i0 (j0 + 1)) (Ed (eqC2 uc sc) (i0 + 1) j0)) + (1)) hx hb (hml.trans hl.1.symm) hown hg k_633 k_342 k_16 k_343 (by decide) (Nat.le_of_ble_eq_true rfl) (by decide) (by decide) (by omega) (by omega) d_E_between_134 ?_
              have hX : min (Ed (eqC2 uc sc) i0 j0) ((min (Ed (eqC2 uc sc) i0 (j0 + 1)) (Ed (eqC2 uc sc) (i0 + 1) j0)) + (1)) = Ed (eqC2 uc sc) (i0 + 1) (j0 + 1) := by rw [hEd]; simp; omega
              refine g_iast hx hb hK hI (fun _ h => h) hP hS 140 0 (by decide) (fun _ => rfl) rfl (by decide) (j := j0 + 1) (by omega) (v := (nI (min (Ed (eqC2 uc sc) i0 j0) ((min (Ed (eqC2 uc sc) i0 (j0 + 1)) (Ed (eqC2 uc sc) (i0 + 1) j0)) + (1))))) d_E_between_137 (fun H locs hP hS => ?_)
              obtain ⟨M_2, eM_2⟩ : ∃ z : PM, z = (pu M2 140 (j0 + 1) ((nI (min (Ed (eqC2 uc sc) i0 j0) ((min (Ed (eqC2 uc sc) i0 (j0 + 1)) (Ed (eqC2 uc sc) (i0 + 1) j0)) + (1)))))) := ⟨_, rfl⟩
              rw [← eM_2] at hP
              refine n_inc (lv' := [(6, .int (nI (j0 + 1 + 1))), (5, .int (nI (Ed (eqC2 uc sc) i0 (j0 + 1)))), (7, .int (nI (Ed (eqC2 uc sc) i0 j0))), (0, .ref (ad (139))), (1, .ref (ad (u))), (2, .ref (ad (t))), (3, .int (nI (sl))), (4, .int (nI (i0 + 1)))]) hx hb d_E_between_138 hl (k := 7) rfl (by decide) rfl (fun ls hl => ?_)
              refine lv_goto (tgt := 65) hx hb d_E_between_141 (by decide) ?_
              exact ih65 (j0 + 1) M_2 _ _ ls (by omega) (by omega) (by rw [eM_2]; exact hF.st _ _) (by
  refine lt_S (fun q hq => ?_) ?_
  · rw [eM_2, pu_j _ _ _ _ _ (by omega)]; exact hlo q hq
  · rw [eM_2, pu_s, hX]) (by intro q h1 h2; rw [eM_2, pu_j _ _ _ _ _ (by omega)]; exact hhi q (by omega) h2) (by omega) hP hS (lv_sub hl [3, 4, 5, 6, 7, 1, 0] rfl)
      refine lv_iload hx hb d_E_between_37 (lv_at hl 4 rfl) ?_
      refine lv_aload_n hx hb d_E_between_39 rfl (lv_at hl 1 rfl) ?_
      refine c_V (own := R_E) (index := 15) (As := []) (rest := [.int (nI (i0 + 1))]) hx hb hml hown hg hK NXc.same hN.warm (fun _ h => h) hP hS u (c_T_length l D cI cC cZ cT ad hI M1 u hu ul uc hU1) (tx_lt hu) (ci := 6) (cfC_T hu _) rfl k_632 k_180 k_181 k_2 k_182 0 rfl (by decide +kernel) (by decide) rfl hl.1 (Nat.le_of_ble_eq_true rfl) d_E_between_40 (fun v M' H locs hq hP _ _ hS => ?_)
      obtain ⟨rfl, rfl⟩ := hq
      refine W.eq (g2 := F0 m 43 ls [.int (nI (ul)), .int (nI (i0 + 1))]) rfl ?_
      refine n_gt (a := i0 + 1) (b := ul) (tgt := 150) hx hb d_E_between_43 (by decide) (by omega) (by omega) (fun c_43 => ?_) (fun c_43 => ?_)
      · refine lv_aload_n hx hb d_E_between_150 rfl (lv_at hl 0 rfl) ?_
        refine g_get (C := R_E) (T := T_E) (N := 1) (ci := 5) (v := .ref (ad (140))) hx hb hg i_E hown hK hP 139 (by decide) rfl rfl 0 (by decide) (hg _ k_124) rfl d_E_between_151 ?_
        refine lv_iload_n hx hb d_E_between_154 rfl (lv_at hl 3 rfl) ?_
        refine g_iald hx hb hK hP 140 0 (by decide) rfl rfl (by decide) (j := sl) (by omega) d_E_between_155 ?_
        refine n_top (y := (nI (Ed (eqC2 uc sc) i0 sl))) (hrow sl (by omega)) ?_
        exact r_i hx hb hr hlocks hP hS (⟨by rw [show i0 = ul by omega], hF⟩) d_E_between_156
      · refine lv_aload_n hx hb d_E_between_46 rfl (lv_at hl 0 rfl) ?_
        refine g_get (C := R_E) (T := T_E) (N := 1) (ci := 5) (v := .ref (ad (140))) hx hb hg i_E hown hK hP 139 (by decide) rfl rfl 0 (by decide) (hg _ k_124) rfl d_E_between_47 ?_
        refine n_const (k := 0) hx hb d_E_between_50 (by decide) ?_
        refine g_iald hx hb hK hP 140 0 (by decide) rfl rfl (by decide) (j := 0) (by omega) d_E_between_51 ?_
        refine n_top (y := (nI (Ed (eqC2 uc sc) i0 0))) (hrow 0 (by omega)) ?_
        refine lv_istore (lv' := [(5, .int (nI (Ed (eqC2 uc sc) i0 0))), (0, .ref (ad (139))), (1, .ref (ad (u))), (2, .ref (ad (t))), (3, .int (nI (sl))), (4, .int (nI (i0 + 1)))]) hx hb d_E_between_52 hl (by decide) rfl (fun ls hl => ?_)
        refine lv_aload_n hx hb d_E_between_54 rfl (lv_at hl 1 rfl) ?_
        refine g_get (C := R_E) (T := T_E) (N := 1) (ci := 5) (v := .ref (ad (140))) hx hb hg i_E hown hK hP 139 (by decide) rfl rfl 0 (by decide) (hg _ k_124) rfl d_E_between_55 ?_
        refine n_const (k := 0) hx hb d_E_between_58 (by decide) ?_
        refine lv_iload hx hb d_E_between_59 (lv_at hl 5 rfl) ?_
        refine g_iast hx hb hK hI (fun _ h => h) hP hS 140 0 (by decide) (fun _ => rfl) rfl (by decide) (j := 0) (by omega) (v := (nI (i0 + 1))) d_E_between_61 (fun H locs hP hS => ?_)
        obtain ⟨M_3, eM_3⟩ : ∃ z : PM, z = (pu M1 140 (0) ((nI (i0 + 1)))) := ⟨_, rfl⟩
        rw [← eM_3] at hP
        refine n_const (k := 1) hx hb d_E_between_62 (by decide) ?_
        refine lv_istore (lv' := [(6, .int (nI (1))), (5, .int (nI (Ed (eqC2 uc sc) i0 0))), (0, .ref (ad (139))), (1, .ref (ad (u))), (2, .ref (ad (t))), (3, .int (nI (sl))), (4, .int (nI (i0 + 1)))]) hx hb d_E_between_63 hl (by decide) rfl (fun ls hl => ?_)
        exact J65 (_ + 1) (0) M_3 _ _ ls (Nat.lt_succ_self _) (by omega) (by rw [eM_3]; exact hF.st _ _) (by intro q hq; have e : q = 0 := (by omega); subst e; rw [eM_3, pu_s]; simp [Ed]) (by intro q h1 h2; rw [eM_3, pu_j _ _ _ _ _ (by omega)]; exact hrow q h2) (by omega) hP hS (lv_sub hl [2, 3, 4, 5, 6, 1, 0] rfl)
  have J13 : ∀ (fu13 : Nat) (j : Nat) (M1 : PM) (H : Heap) (locs : List Loc) (ls : Array Slot), sl + 1 - j < fu13 → (j ≤ sl + 1) → (F140 M M1) → (∀ q, q < j → M1 140 q = nI q) → va_P D clsA (gw 144 ad (cfC cI cC cZ cT ad) M1) H → va_S (GA 144 ad) s.heap H locs → lv_has ls 8 [(0, .ref (ad (139))), (1, .ref (ad (u))), (2, .ref (ad (t))), (3, .int (nI (sl))), (4, .int (nI (j)))] → W p l e (rm_ 1 21) s m ([.ref (ad (139)), .ref (ad (u)), .ref (ad (t))] : List Value).toArray below meth c H locs 0 0 (MQ below (GQ D 144 ad (cfC cI cC cZ cT ad) (fun v M' => v = some (.int (nI (Ed (eqC2 uc sc) ul sl))) ∧ F140 M M')) ([.ref (ad (139)), .ref (ad (u)), .ref (ad (t))] : List Value).toArray s 0 0 (GA 144 ad)) (F0 m 13 ls []) := by
    intro fu13
    induction fu13 with
    | zero => intro j M1 H locs ls hfu; exact absurd hfu (Nat.not_lt_zero _)
    | succ fu13 ih13 =>
      intro j M1 H locs ls hfu13 hj hF hz hP hS hl
      have hT1 := hT.f140 hF ht
      have hU1 := hU.f140 hF hu
      refine lv_iload hx hb d_E_between_13 (lv_at hl 4 rfl) ?_
      refine lv_iload_n hx hb d_E_between_15 rfl (lv_at hl 3 rfl) ?_
      refine n_gt (a := j) (b := sl) (tgt := 34) hx hb d_E_between_16 (by decide) (by omega) (by omega) (fun c_16 => ?_) (fun c_16 => ?_)
      · refine n_const (k := 1) hx hb d_E_between_34 (by decide) ?_
        refine lv_istore (lv' := [(4, .int (nI (1))), (0, .ref (ad (139))), (1, .ref (ad (u))), (2, .ref (ad (t))), (3, .int (nI (sl)))]) hx hb d_E_between_35 hl (by decide) rfl (fun ls hl => ?_)
        exact J37 (_ + 1) (0) M1 _ _ ls (Nat.lt_succ_self _) (by omega) (hF) (by intro q hq; rw [hz q (by omega)]; simp [Ed]) hP hS (lv_sub hl [1, 2, 3, 4, 0] rfl)
      · refine lv_aload_n hx hb d_E_between_19 rfl (lv_at hl 0 rfl) ?_
        refine g_get (C := R_E) (T := T_E) (N := 1) (ci := 5) (v := .ref (ad (140))) hx hb hg i_E hown hK hP 139 (by decide) rfl rfl 0 (by decide) (hg _ k_124) rfl d_E_between_20 ?_
        refine lv_iload hx hb d_E_between_23 (lv_at hl 4 rfl) ?_
        refine lv_iload hx hb d_E_between_25 (lv_at hl 4 rfl) ?_
        refine g_iast hx hb hK hI (fun _ h => h) hP hS 140 0 (by decide) (fun _ => rfl) rfl (by decide) (j := j) (by omega) (v := (nI (j))) d_E_between_27 (fun H locs hP hS => ?_)
        obtain ⟨M_4, eM_4⟩ : ∃ z : PM, z = (pu M1 140 (j) ((nI (j)))) := ⟨_, rfl⟩
        rw [← eM_4] at hP
        refine n_inc (lv' := [(4, .int (nI (j + 1))), (0, .ref (ad (139))), (1, .ref (ad (u))), (2, .ref (ad (t))), (3, .int (nI (sl)))]) hx hb d_E_between_28 hl (k := 4) rfl (by decide) rfl (fun ls hl => ?_)
        refine lv_goto (tgt := 13) hx hb d_E_between_31 (by decide) ?_
        exact ih13 (j + 1) M_4 _ _ ls (by omega) (by omega) (by rw [eM_4]; exact hF.st _ _) (by
  refine lt_S (fun q hq => ?_) ?_
  · rw [eM_4, pu_j _ _ _ _ _ (by omega)]; exact hz q hq
  · rw [eM_4, pu_s]) hP hS (lv_sub hl [1, 2, 3, 4, 0] rfl)
  refine lv_aload_n hx hb d_E_between_0 rfl (lv_at hl 2 rfl) ?_
  refine c_V (own := R_E) (index := 15) (As := []) (rest := []) hx hb hml hown hg hK NXc.same hN.warm (fun _ h => h) hP hS t (c_T_length l D cI cC cZ cT ad hI M t ht sl sc hT) (tx_lt ht) (ci := 6) (cfC_T ht _) rfl k_632 k_180 k_181 k_2 k_182 0 rfl (by decide +kernel) (by decide) rfl hl.1 (Nat.le_of_ble_eq_true rfl) d_E_between_1 (fun v M' H locs hq hP _ _ hS => ?_)
  obtain ⟨rfl, rfl⟩ := hq
  refine W.eq (g2 := F0 m 4 ls [.int (nI (sl))]) rfl ?_
  refine n_bipush (k := 24) hx hb d_E_between_4 (by decide) ?_
  refine n_min (own := R_E) (index := 21) (rest := []) (a := sl) (b := 24) hx hb (hml.trans hl.1.symm) hown hg k_633 k_342 k_16 k_343 (by decide) (Nat.le_of_ble_eq_true rfl) (by decide) (by decide) (by omega) (by omega) d_E_between_6 ?_
  refine lv_istore_n (lv' := [(3, .int (nI (min (sl) (24)))), (0, .ref (ad (139))), (1, .ref (ad (u))), (2, .ref (ad (t)))]) hx hb d_E_between_9 rfl hl (by decide) rfl (fun ls hl => ?_)
  rw [Nat.min_eq_left hs24] at hl
  have hl : lv_has ls 8 [(3, .int (nI (sl))), (0, .ref (ad (139))), (1, .ref (ad (u))), (2, .ref (ad (t)))] := hl
  refine n_const (k := 0) hx hb d_E_between_10 (by decide) ?_
  refine lv_istore (lv' := [(4, .int (nI (0))), (3, .int (nI (sl))), (0, .ref (ad (139))), (1, .ref (ad (u))), (2, .ref (ad (t)))]) hx hb d_E_between_11 hl (by decide) rfl (fun ls hl => ?_)
  exact J13 (_ + 1) (0) M _ _ ls (Nat.lt_succ_self _) (by omega) (fun _ _ _ => rfl) (fun q hq => absurd hq (Nat.not_lt_zero q)) hP hS (lv_sub hl [2, 3, 4, 1, 0] rfl)
