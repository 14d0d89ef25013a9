set_option maxHeartbeats 4000000 in
set_option maxRecDepth 100000 in
theorem c_M_distance (l : Launch) (D : va_G) (cI cB : ClassId) (ad : Nat → Nat) (hI : GI 13 ad) (M : PM) (n : Nat) (len : Nat → Nat) (ch : Nat → Nat → Nat) (sp : Nat → Option Nat) (hR : RN M n len ch sp) (a b9 : Nat) (ha : a < n) (hb9 : b9 < n) : MM l D cI cB ad y_M_distance b_M_distance 8 (some .int) 1 22 [.ref (ad (0)), .int (nI (a)), .int (nI (b9))] M (fun v M' => v = some (.int (nI (Ed (eqC ch a b9) (len a) (len b9)))) ∧ F12 M M') := by
  refine MC.of (by decide) (Nat.le_of_ble_eq_true rfl) ?_
  intro p e s m below meth c ls hx hb hr hml hown hg hlocks hK hN hP hS hl
  have hown : s.vm.findClass R_M = some m.cls := hown
  have hl : lv_has ls 8 [(0, .ref (ad (0))), (1, .int (nI (a))), (2, .int (nI (b9)))] := hl
  have hn60 : n ≤ 60 := hR.1
  have hl24 := hR.2.2.1
  have hspn := hR.2.2.2.2.1
  have hch := hR.2.2.2.2.2
  have la := hl24 a ha
  have lb := hl24 b9 hb9
  have J27 : ∀ (fu27 : Nat) (i0 : Nat) (M1 : PM) (H : Heap) (locs : List Loc) (ls : Array Slot), len a - i0 < fu27 → (i0 ≤ len a) → (F12 M M1) → (∀ q, q ≤ len b9 → M1 12 q = nI (Ed (eqC ch a b9) i0 q)) → va_P D clsA (gw 13 ad (cfM cI cB ad) M1) H → va_S (GA 13 ad) s.heap H locs → lv_has ls 8 [(0, .ref (ad (0))), (1, .int (nI (a))), (2, .int (nI (b9))), (3, .int (nI (i0 + 1)))] → W p l e (rm_ 1 22) s m ([.ref (ad (0)), .int (nI (a)), .int (nI (b9))] : List Value).toArray below meth c H locs 0 0 (MQ below (GQ D 13 ad (cfM cI cB ad) (fun v M' => v = some (.int (nI (Ed (eqC ch a b9) (len a) (len b9)))) ∧ F12 M M')) ([.ref (ad (0)), .int (nI (a)), .int (nI (b9))] : List Value).toArray s 0 0 (GA 13 ad)) (F0 m 27 ls []) := by
    intro fu27
    induction fu27 with
    | zero => intro i0 M1 H locs ls hfu; exact absurd hfu (Nat.not_lt_zero _)
    | succ fu27 ih27 =>
      intro i0 M1 H locs ls hfu27 hi0 hF hrow hP hS hl
      have hR1 := hR.sx hF.sx
      have J55 : ∀ (fu55 : Nat) (j0 : Nat) (M2 : PM) (H : Heap) (locs : List Loc) (ls : Array Slot), len b9 - j0 < fu55 → (j0 ≤ len b9) → (F12 M M2) → (∀ q, q < j0 + 1 → M2 12 q = nI (Ed (eqC ch a b9) (i0 + 1) q)) → (∀ q, j0 + 1 ≤ q → q ≤ len b9 → M2 12 q = nI (Ed (eqC ch a b9) i0 q)) → (i0 < len a) → va_P D clsA (gw 13 ad (cfM cI cB ad) M2) H → va_S (GA 13 ad) s.heap H locs → lv_has ls 8 [(0, .ref (ad (0))), (1, .int (nI (a))), (2, .int (nI (b9))), (3, .int (nI (i0 + 1))), (4, .int (nI (Ed (eqC ch a b9) i0 j0))), (5, .int (nI (j0 + 1)))] → W p l e (rm_ 1 22) s m ([.ref (ad (0)), .int (nI (a)), .int (nI (b9))] : List Value).toArray below meth c H locs 0 0 (MQ below (GQ D 13 ad (cfM cI cB ad) (fun v M' => v = some (.int (nI (Ed (eqC ch a b9) (len a) (len b9)))) ∧ F12 M M')) ([.ref (ad (0)), .int (nI (a)), .int (nI (b9))] : List Value).toArray s 0 0 (GA 13 ad)) (F0 m 55 ls []) := by
        intro fu55
        induction fu55 with
        | zero => intro j0 M2 H locs ls hfu; exact absurd hfu (Nat.not_lt_zero _)
        | succ fu55 ih55 =>
          intro j0 M2 H locs ls hfu55 hj0 hF hlo hhi hia hP hS hl
          have hR1 := hR.sx hF.sx
          refine lv_iload hx hb d_M_distance_55 (lv_at hl 5 rfl) ?_
          refine lv_aload_n hx hb d_M_distance_57 rfl (lv_at hl 0 rfl) ?_
          refine g_get (C := R_M) (T := T_M) (N := 19) (ci := 8) (v := .ref (ad (3))) hx hb hg i_M hown hK hP 0 (by decide) rfl rfl 4 (by decide) (hg _ k_797) rfl d_M_distance_58 ?_
          refine lv_iload_n hx hb d_M_distance_61 rfl (lv_at hl 2 rfl) ?_
          refine g_iald hx hb hK hP 3 0 (by decide) rfl rfl (by decide) (j := b9) (by omega) d_M_distance_62 ?_
          refine n_top (y := (nI (len (b9)))) ((hR1.2.2.1 (b9) (by omega)).2.2) ?_
          refine n_gt (a := j0 + 1) (b := len (b9)) (tgt := 174) hx hb d_M_distance_63 (by decide) (by omega) (by omega) (fun c_63 => ?_) (fun c_63 => ?_)
          · refine n_inc (lv' := [(3, .int (nI (i0 + 1 + 1))), (0, .ref (ad (0))), (1, .int (nI (a))), (2, .int (nI (b9))), (4, .int (nI (Ed (eqC ch a b9) i0 j0))), (5, .int (nI (j0 + 1)))]) hx hb d_M_distance_174 hl (k := 3) rfl (by decide) rfl (fun ls hl => ?_)
            refine lv_goto (tgt := 27) hx hb d_M_distance_177 (by decide) ?_
            exact ih27 (i0 + 1) M2 _ _ ls (by omega) (by omega) (hF) (by intro q hq; exact hlo q (by omega)) hP hS (lv_sub hl [1, 2, 3, 0] rfl)
          · have e1 := Ed_le (eqC ch a b9) i0 (j0 + 1)
            have e2 := Ed_le (eqC ch a b9) (i0 + 1) j0
            have e3 := Ed_le (eqC ch a b9) i0 j0
            have hca := hch a i0 ha (by omega)
            have hcb := hch b9 j0 hb9 (by omega)
            have hEd : Ed (eqC ch a b9) (i0 + 1) (j0 + 1) = min (min (Ed (eqC ch a b9) i0 (j0 + 1)) (Ed (eqC ch a b9) (i0 + 1) j0) + 1) (Ed (eqC ch a b9) i0 j0 + if decide (ch a i0 = ch b9 j0) then 0 else 1) := by rw [Ed]; rfl
            refine lv_aload_n hx hb d_M_distance_66 rfl (lv_at hl 0 rfl) ?_
            refine g_get (C := R_M) (T := T_M) (N := 19) (ci := 8) (v := .ref (ad (12))) hx hb hg i_M hown hK hP 0 (by decide) rfl rfl 18 (by decide) (hg _ k_811) rfl d_M_distance_67 ?_
            refine lv_iload hx hb d_M_distance_70 (lv_at hl 5 rfl) ?_
            refine g_iald hx hb hK hP 12 0 (by decide) rfl rfl (by decide) (j := j0 + 1) (by omega) d_M_distance_72 ?_
            refine n_top (y := (nI (Ed (eqC ch a b9) i0 (j0 + 1)))) (hhi (j0 + 1) (by omega) (by omega)) ?_
            refine lv_aload_n hx hb d_M_distance_73 rfl (lv_at hl 0 rfl) ?_
            refine g_get (C := R_M) (T := T_M) (N := 19) (ci := 8) (v := .ref (ad (12))) hx hb hg i_M hown hK hP 0 (by decide) rfl rfl 18 (by decide) (hg _ k_811) rfl d_M_distance_74 ?_
            refine lv_iload hx hb d_M_distance_77 (lv_at hl 5 rfl) ?_
            refine n_const (k := 1) hx hb d_M_distance_79 (by decide) ?_
            refine n_isub (a := j0 + 1) (b := 1) hx hb d_M_distance_80 (by omega) ?_
            refine g_iald hx hb hK hP 12 0 (by decide) rfl rfl (by decide) (j := (j0 + 1) - (1)) (by omega) d_M_distance_81 ?_
            refine n_top (y := (nI (Ed (eqC ch a b9) (i0 + 1) j0))) (hlo j0 (by omega)) ?_
            refine n_ge (a := Ed (eqC ch a b9) i0 (j0 + 1)) (b := Ed (eqC ch a b9) (i0 + 1) j0) (tgt := 95) hx hb d_M_distance_82 (by decide) (by omega) (by omega) (fun c_82 => ?_) (fun c_82 => ?_)
            · refine lv_aload_n hx hb d_M_distance_95 rfl (lv_at hl 0 rfl) ?_
              refine g_get (C := R_M) (T := T_M) (N := 19) (ci := 8) (v := .ref (ad (12))) hx hb hg i_M hown hK hP 0 (by decide) rfl rfl 18 (by decide) (hg _ k_811) rfl d_M_distance_96 ?_
              refine lv_iload hx hb d_M_distance_99 (lv_at hl 5 rfl) ?_
              refine n_const (k := 1) hx hb d_M_distance_101 (by decide) ?_
              refine n_isub (a := j0 + 1) (b := 1) hx hb d_M_distance_102 (by omega) ?_
              refine g_iald hx hb hK hP 12 0 (by decide) rfl rfl (by decide) (j := (j0 + 1) - (1)) (by omega) d_M_distance_103 ?_
              refine n_top (y := (nI (Ed (eqC ch a b9) (i0 + 1) j0))) (hlo j0 (by omega)) ?_
              refine n_const (k := 1) hx hb d_M_distance_104 (by decide) ?_
              refine n_iadd (a := Ed (eqC ch a b9) (i0 + 1) j0) (b := 1) hx hb d_M_distance_105 ?_
              refine lv_istore (lv' := [(6, .int (nI ((Ed (eqC ch a b9) (i0 + 1) j0) + (1)))), (0, .ref (ad (0))), (1, .int (nI (a))), (2, .int (nI (b9))), (3, .int (nI (i0 + 1))), (4, .int (nI (Ed (eqC ch a b9) i0 j0))), (5, .int (nI (j0 + 1)))]) hx hb d_M_distance_106 hl (by decide) rfl (fun ls hl => ?_)
              refine lv_iload hx hb d_M_distance_108 (lv_at hl 5 rfl) ?_
              refine lv_aload_n hx hb d_M_distance_110 rfl (lv_at hl 1 rfl) ?_
              refine lv_iload_n hx hb d_M_distance_111 rfl (lv_at hl 2 rfl) ?_
              refine lv_iload_n hx hb d_M_distance_112 rfl (lv_at hl 4 rfl) ?_
              refine n_const (k := 1) hx hb d_M_distance_113 (by decide) ?_
              refine n_isub (a := i0 + 1) (b := 1) hx hb d_M_distance_114 (by omega) ?_
              refine c_V (own := R_M) (index := 64) (As := [.int (nI (a)), .int (nI ((i0 + 1) - (1)))]) (rest := [.int (nI (Ed (eqC ch a b9) i0 j0))]) hx hb hml hown hg hK (fun _ _ _ h => h) (fun _ _ => trivial) (fun _ h => h) hP hS 0 (c_M_at l D cI cB ad hI M2 n len ch sp hR1 (a) ((i0 + 1) - (1)) (by omega) (by omega)) (by decide) (ci := 8) rfl rfl k_887 k_889 k_p27 k_9 k_890 2 rfl (by decide +kernel) (by decide) rfl hl.1 (Nat.le_of_ble_eq_true rfl) d_M_distance_115 (fun v M' H locs hq hP _ _ hS => ?_)
              obtain ⟨rfl, rfl⟩ := hq
              refine W.eq (g2 := F0 m 118 ls [.int (nI (ch (a) ((i0 + 1) - (1)))), .int (nI (Ed (eqC ch a b9) i0 j0))]) rfl ?_
              refine lv_aload_n hx hb d_M_distance_118 rfl (lv_at hl 1 rfl) ?_
              refine lv_iload_n hx hb d_M_distance_119 rfl (lv_at hl 3 rfl) ?_
              refine lv_iload hx hb d_M_distance_120 (lv_at hl 6 rfl) ?_
              refine n_const (k := 1) hx hb d_M_distance_122 (by decide) ?_
              refine n_isub (a := j0 + 1) (b := 1) hx hb d_M_distance_123 (by omega) ?_
              refine c_V (own := R_M) (index := 64) (As := [.int (nI (b9)), .int (nI ((j0 + 1) - (1)))]) (rest := [.int (nI (ch (a) ((i0 + 1) - (1)))), .int (nI (Ed (eqC ch a b9) i0 j0))]) hx hb hml hown hg hK (fun _ _ _ h => h) (fun _ _ => trivial) (fun _ h => h) hP hS 0 (c_M_at l D cI cB ad hI M2 n len ch sp hR1 (b9) ((j0 + 1) - (1)) (by omega) (by omega)) (by decide) (ci := 8) rfl rfl k_887 k_889 k_p27 k_9 k_890 2 rfl (by decide +kernel) (by decide) rfl hl.1 (Nat.le_of_ble_eq_true rfl) d_M_distance_124 (fun v M' H locs hq hP _ _ hS => ?_)
              obtain ⟨rfl, rfl⟩ := hq
              refine W.eq (g2 := F0 m 127 ls [.int (nI (ch (b9) ((j0 + 1) - (1)))), .int (nI (ch (a) ((i0 + 1) - (1)))), .int (nI (Ed (eqC ch a b9) i0 j0))]) rfl ?_
              refine n_ne (a := ch (a) ((i0 + 1) - (1))) (b := ch (b9) ((j0 + 1) - (1))) (tgt := 134) hx hb d_M_distance_127 (by decide) (Nat.lt_of_le_of_lt hca.2.1 (by decide)) (Nat.lt_of_le_of_lt hcb.2.1 (by decide)) (fun c_127 => ?_) (fun c_127 => ?_)
              · have c9 : ¬ ch a i0 = ch b9 j0 := c_127
                rw [decide_eq_false c9] at hEd
                refine n_const (k := 1) hx hb d_M_distance_134 (by decide) ?_
                refine n_iadd (a := Ed (eqC ch a b9) i0 j0) (b := 1) hx hb d_M_distance_135 ?_
                refine lv_istore (lv' := [(7, .int (nI ((Ed (eqC ch a b9) i0 j0) + (1)))), (6, .int (nI ((Ed (eqC ch a b9) (i0 + 1) j0) + (1)))), (0, .ref (ad (0))), (1, .int (nI (a))), (2, .int (nI (b9))), (3, .int (nI (i0 + 1))), (4, .int (nI (Ed (eqC ch a b9) i0 j0))), (5, .int (nI (j0 + 1)))]) hx hb d_M_distance_136 hl (by decide) rfl (fun ls hl => ?_)
                refine lv_aload_n hx hb d_M_distance_138 rfl (lv_at hl 2 rfl) ?_
                refine g_get (C := R_M) (T := T_M) (N := 19) (ci := 8) (v := .ref (ad (12))) hx hb hg i_M hown hK hP 0 (by decide) rfl rfl 18 (by decide) (hg _ k_811) rfl d_M_distance_139 ?_
                refine lv_iload hx hb d_M_distance_142 (lv_at hl 7 rfl) ?_
                refine g_iald hx hb hK hP 12 0 (by decide) rfl rfl (by decide) (j := j0 + 1) (by omega) d_M_distance_144 ?_
                refine n_top (y := (nI (Ed (eqC ch a b9) i0 (j0 + 1)))) (hhi (j0 + 1) (by omega) (by omega)) ?_
                refine lv_istore (lv' := [(4, .int (nI (Ed (eqC ch a b9) i0 (j0 + 1)))), (7, .int (nI ((Ed (eqC ch a b9) i0 j0) + (1)))), (6, .int (nI ((Ed (eqC ch a b9) (i0 + 1) j0) + (1)))), (0, .ref (ad (0))), (1, .int (nI (a))), (2, .int (nI (b9))), (3, .int (nI (i0 + 1))), (5, .int (nI (j0 + 1)))]) hx hb d_M_distance_145 hl (by decide) rfl (fun ls hl => ?_)
                refine lv_aload_n hx hb d_M_distance_147 rfl (lv_at hl 3 rfl) ?_
                refine g_get (C := R_M) (T := T_M) (N := 19) (ci := 8) (v := .ref (ad (12))) hx hb hg i_M hown hK hP 0 (by decide) rfl rfl 18 (by decide) (hg _ k_811) rfl d_M_distance_148 ?_
                refine lv_iload hx hb d_M_distance_151 (lv_at hl 7 rfl) ?_
                refine lv_iload hx hb d_M_distance_153 (lv_at hl 2 rfl) ?_
                refine lv_iload hx hb d_M_distance_155 (lv_at hl 1 rfl) ?_
                refine n_ge (a := (Ed (eqC ch a b9) (i0 + 1) j0) + (1)) (b := (Ed (eqC ch a b9) i0 j0) + (1)) (tgt := 165) hx hb d_M_distance_157 (by decide) (by omega) (by omega) (fun c_157 => ?_) (fun c_157 => ?_)
                · refine lv_iload hx hb d_M_distance_165 (lv_at hl 1 rfl) ?_
                  have hX : (Ed (eqC ch a b9) i0 j0) + (1) = Ed (eqC ch a b9) (i0 + 1) (j0 + 1) := by rw [hEd]; simp; omega
                  refine g_iast hx hb hK hI (fun _ h => h) hP hS 12 0 (by decide) (fun _ => rfl) rfl (by decide) (j := j0 + 1) (by omega) (v := (nI ((Ed (eqC ch a b9) i0 j0) + (1)))) d_M_distance_167 (fun H locs hP hS => ?_)
                  obtain ⟨M_1, eM_1⟩ : ∃ z : PM, z = (pu M2 12 (j0 + 1) ((nI ((Ed (eqC ch a b9) i0 j0) + (1))))) := ⟨_, rfl⟩
                  rw [← eM_1] at hP
                  refine n_inc (lv' := [(5, .int (nI (j0 + 1 + 1))), (4, .int (nI (Ed (eqC ch a b9) i0 (j0 + 1)))), (7, .int (nI ((Ed (eqC ch a b9) i0 j0) + (1)))), (6, .int (nI ((Ed (eqC ch a b9) (i0 + 1) j0) + (1)))), (0, .ref (ad (0))), (1, .int (nI (a))), (2, .int (nI (b9))), (3, .int (nI (i0 + 1)))]) hx hb d_M_distance_168 hl (k := 7) rfl (by decide) rfl (fun ls hl => ?_)
                  refine lv_goto (tgt := 55) hx hb d_M_distance_171 (by decide) ?_
                  exact ih55 (j0 + 1) M_1 _ _ ls (by omega) (by omega) (by rw [eM_1]; exact hF.st _ _) (by
  refine lt_S (fun q hq => ?_) ?_
  · rw [eM_1, pu_j _ _ _ _ _ (by omega)]; exact hlo q hq
  · rw [eM_1, pu_s, hX]) (by intro q h1 h2; rw [eM_1, pu_j _ _ _ _ _ (by omega)]; exact hhi q (by omega) h2) (by omega) hP hS (lv_sub hl [4, 5, 6, 7, 1, 0] rfl)
                · refine lv_iload hx hb d_M_distance_160 (lv_at hl 2 rfl) ?_
                  refine lv_goto (tgt := 167) hx hb d_M_distance_162 (by decide) ?_
                  have hX : (Ed (eqC ch a b9) (i0 + 1) j0) + (1) = Ed (eqC ch a b9) (i0 + 1) (j0 + 1) := by rw [hEd]; simp; omega
                  refine g_iast hx hb hK hI (fun _ h => h) hP hS 12 0 (by decide) (fun _ => rfl) rfl (by decide) (j := j0 + 1) (by omega) (v := (nI ((Ed (eqC ch a b9) (i0 + 1) j0) + (1)))) d_M_distance_167 (fun H locs hP hS => ?_)
                  obtain ⟨M_2, eM_2⟩ : ∃ z : PM, z = (pu M2 12 (j0 + 1) ((nI ((Ed (eqC ch a b9) (i0 + 1) j0) + (1))))) := ⟨_, rfl⟩
                  rw [← eM_2] at hP
                  refine n_inc (lv' := [(5, .int (nI (j0 + 1 + 1))), (4, .int (nI (Ed (eqC ch a b9) i0 (j0 + 1)))), (7, .int (nI ((Ed (eqC ch a b9) i0 j0) + (1)))), (6, .int (nI ((Ed (eqC ch a b9) (i0 + 1) j0) + (1)))), (0, .ref (ad (0))), (1, .int (nI (a))), (2, .int (nI (b9))), (3, .int (nI (i0 + 1)))]) hx hb d_M_distance_168 hl (k := 7) rfl (by decide) rfl (fun ls hl => ?_)
                  refine lv_goto (tgt := 55) hx hb d_M_distance_171 (by decide) ?_
                  exact ih55 (j0 + 1) M_2 _ _ ls (by omega) (by omega) (by rw [eM_2]; exact hF.st _ _) (by
  refine lt_S (fun q hq => ?_) ?_
  · rw [eM_2, pu_j _ _ _ _ _ (by omega)]; exact hlo q hq
  · rw [eM_2, pu_s, hX]) (by intro q h1 h2; rw [eM_2, pu_j _ _ _ _ _ (by omega)]; exact hhi q (by omega) h2) (by omega) hP hS (lv_sub hl [4, 5, 6, 7, 1, 0] rfl)
              · have c9 : ch a i0 = ch b9 j0 := c_127
                rw [decide_eq_true c9] at hEd
                refine n_const (k := 0) hx hb d_M_distance_130 (by decide) ?_
                refine lv_goto (tgt := 135) hx hb d_M_distance_131 (by decide) ?_
                refine n_iadd (a := Ed (eqC ch a b9) i0 j0) (b := 0) hx hb d_M_distance_135 ?_
                refine lv_istore (lv' := [(7, .int (nI ((Ed (eqC ch a b9) i0 j0) + (0)))), (6, .int (nI ((Ed (eqC ch a b9) (i0 + 1) j0) + (1)))), (0, .ref (ad (0))), (1, .int (nI (a))), (2, .int (nI (b9))), (3, .int (nI (i0 + 1))), (4, .int (nI (Ed (eqC ch a b9) i0 j0))), (5, .int (nI (j0 + 1)))]) hx hb d_M_distance_136 hl (by decide) rfl (fun ls hl => ?_)
                refine lv_aload_n hx hb d_M_distance_138 rfl (lv_at hl 2 rfl) ?_
                refine g_get (C := R_M) (T := T_M) (N := 19) (ci := 8) (v := .ref (ad (12))) hx hb hg i_M hown hK hP 0 (by decide) rfl rfl 18 (by decide) (hg _ k_811) rfl d_M_distance_139 ?_
                refine lv_iload hx hb d_M_distance_142 (lv_at hl 7 rfl) ?_
                refine g_iald hx hb hK hP 12 0 (by decide) rfl rfl (by decide) (j := j0 + 1) (by omega) d_M_distance_144 ?_
                refine n_top (y := (nI (Ed (eqC ch a b9) i0 (j0 + 1)))) (hhi (j0 + 1) (by omega) (by omega)) ?_
                refine lv_istore (lv' := [(4, .int (nI (Ed (eqC ch a b9) i0 (j0 + 1)))), (7, .int (nI ((Ed (eqC ch a b9) i0 j0) + (0)))), (6, .int (nI ((Ed (eqC ch a b9) (i0 + 1) j0) + (1)))), (0, .ref (ad (0))), (1, .int (nI (a))), (2, .int (nI (b9))), (3, .int (nI (i0 + 1))), (5, .int (nI (j0 + 1)))]) hx hb d_M_distance_145 hl (by decide) rfl (fun ls hl => ?_)
                refine lv_aload_n hx hb d_M_distance_147 rfl (lv_at hl 3 rfl) ?_
                refine g_get (C := R_M) (T := T_M) (N := 19) (ci := 8) (v := .ref (ad (12))) hx hb hg i_M hown hK hP 0 (by decide) rfl rfl 18 (by decide) (hg _ k_811) rfl d_M_distance_148 ?_
                refine lv_iload hx hb d_M_distance_151 (lv_at hl 7 rfl) ?_
                refine lv_iload hx hb d_M_distance_153 (lv_at hl 2 rfl) ?_
                refine lv_iload hx hb d_M_distance_155 (lv_at hl 1 rfl) ?_
                refine n_ge (a := (Ed (eqC ch a b9) (i0 + 1) j0) + (1)) (b := (Ed (eqC ch a b9) i0 j0) + (0)) (tgt := 165) hx hb d_M_distance_157 (by decide) (by omega) (by omega) (fun c_157 => ?_) (fun c_157 => ?_)
                · refine lv_iload hx hb d_M_distance_165 (lv_at hl 1 rfl) ?_
                  have hX : (Ed (eqC ch a b9) i0 j0) + (0) = Ed (eqC ch a b9) (i0 + 1) (j0 + 1) := by rw [hEd]; simp; omega
                  refine g_iast hx hb hK hI (fun _ h => h) hP hS 12 0 (by decide) (fun _ => rfl) rfl (by decide) (j := j0 + 1) (by omega) (v := (nI ((Ed (eqC ch a b9) i0 j0) + (0)))) d_M_distance_167 (fun H locs hP hS => ?_)
                  obtain ⟨M_3, eM_3⟩ : ∃ z : PM, z = (pu M2 12 (j0 + 1) ((nI ((Ed (eqC ch a b9) i0 j0) + (0))))) := ⟨_, rfl⟩
                  rw [← eM_3] at hP
                  refine n_inc (lv' := [(5, .int (nI (j0 + 1 + 1))), (4, .int (nI (Ed (eqC ch a b9) i0 (j0 + 1)))), (7, .int (nI ((Ed (eqC ch a b9) i0 j0) + (0)))), (6, .int (nI ((Ed (eqC ch a b9) (i0 + 1) j0) + (1)))), (0, .ref (ad (0))), (1, .int (nI (a))), (2, .int (nI (b9))), (3, .int (nI (i0 + 1)))]) hx hb d_M_distance_168 hl (k := 7) rfl (by decide) rfl (fun ls hl => ?_)
                  refine lv_goto (tgt := 55) hx hb d_M_distance_171 (by decide) ?_
                  exact ih55 (j0 + 1) M_3 _ _ ls (by omega) (by omega) (by rw [eM_3]; exact hF.st _ _) (by
  refine lt_S (fun q hq => ?_) ?_
  · rw [eM_3, pu_j _ _ _ _ _ (by omega)]; exact hlo q hq
  · rw [eM_3, pu_s, hX]) (by intro q h1 h2; rw [eM_3, pu_j _ _ _ _ _ (by omega)]; exact hhi q (by omega) h2) (by omega) hP hS (lv_sub hl [4, 5, 6, 7, 1, 0] rfl)
                · refine lv_iload hx hb d_M_distance_160 (lv_at hl 2 rfl) ?_
                  refine lv_goto (tgt := 167) hx hb d_M_distance_162 (by decide) ?_
                  have hX : (Ed (eqC ch a b9) (i0 + 1) j0) + (1) = Ed (eqC ch a b9) (i0 + 1) (j0 + 1) := by rw [hEd]; simp; omega
                  refine g_iast hx hb hK hI (fun _ h => h) hP hS 12 0 (by decide) (fun _ => rfl) rfl (by decide) (j := j0 + 1) (by omega) (v := (nI ((Ed (eqC ch a b9) (i0 + 1) j0) + (1)))) d_M_distance_167 (fun H locs hP hS => ?_)
                  obtain ⟨M_4, eM_4⟩ : ∃ z : PM, z = (pu M2 12 (j0 + 1) ((nI ((Ed (eqC ch a b9) (i0 + 1) j0) + (1))))) := ⟨_, rfl⟩
                  rw [← eM_4] at hP
                  refine n_inc (lv' := [(5, .int (nI (j0 + 1 + 1))), (4, .int (nI (Ed (eqC ch a b9) i0 (j0 + 1)))), (7, .int (nI ((Ed (eqC ch a b9) i0 j0) + (0)))), (6, .int (nI ((Ed (eqC ch a b9) (i0 + 1) j0) + (1)))), (0, .ref (ad (0))), (1, .int (nI (a))), (2, .int (nI (b9))), (3, .int (nI (i0 + 1)))]) hx hb d_M_distance_168 hl (k := 7) rfl (by decide) rfl (fun ls hl => ?_)
                  refine lv_goto (tgt := 55) hx hb d_M_distance_171 (by decide) ?_
                  exact ih55 (j0 + 1) M_4 _ _ ls (by omega) (by omega) (by rw [eM_4]; exact hF.st _ _) (by
  refine lt_S (fun q hq => ?_) ?_
  · rw [eM_4, pu_j _ _ _ _ _ (by omega)]; exact hlo q hq
  · rw [eM_4, pu_s, hX]) (by intro q h1 h2; rw [eM_4, pu_j _ _ _ _ _ (by omega)]; exact hhi q (by omega) h2) (by omega) hP hS (lv_sub hl [4, 5, 6, 7, 1, 0] rfl)
            · refine lv_aload_n hx hb d_M_distance_85 rfl (lv_at hl 0 rfl) ?_
              refine g_get (C := R_M) (T := T_M) (N := 19) (ci := 8) (v := .ref (ad (12))) hx hb hg i_M hown hK hP 0 (by decide) rfl rfl 18 (by decide) (hg _ k_811) rfl d_M_distance_86 ?_
              refine lv_iload hx hb d_M_distance_89 (lv_at hl 5 rfl) ?_
              refine g_iald hx hb hK hP 12 0 (by decide) rfl rfl (by decide) (j := j0 + 1) (by omega) d_M_distance_91 ?_
              refine n_top (y := (nI (Ed (eqC ch a b9) i0 (j0 + 1)))) (hhi (j0 + 1) (by omega) (by omega)) ?_
              refine lv_goto (tgt := 104) hx hb d_M_distance_92 (by decide) ?_
              refine n_const (k := 1) hx hb d_M_distance_104 (by decide) ?_
              refine n_iadd (a := Ed (eqC ch a b9) i0 (j0 + 1)) (b := 1) hx hb d_M_distance_105 ?_
              refine lv_istore (lv' := [(6, .int (nI ((Ed (eqC ch a b9) i0 (j0 + 1)) + (1)))), (0, .ref (ad (0))), (1, .int (nI (a))), (2, .int (nI (b9))), (3, .int (nI (i0 + 1))), (4, .int (nI (Ed (eqC ch a b9) i0 j0))), (5, .int (nI (j0 + 1)))]) hx hb d_M_distance_106 hl (by decide) rfl (fun ls hl => ?_)
              refine lv_iload hx hb d_M_distance_108 (lv_at hl 5 rfl) ?_
              refine lv_aload_n hx hb d_M_distance_110 rfl (lv_at hl 1 rfl) ?_
              refine lv_iload_n hx hb d_M_distance_111 rfl (lv_at hl 2 rfl) ?_
              refine lv_iload_n hx hb d_M_distance_112 rfl (lv_at hl 4 rfl) ?_
              refine n_const (k := 1) hx hb d_M_distance_113 (by decide) ?_
              refine n_isub (a := i0 + 1) (b := 1) hx hb d_M_distance_114 (by omega) ?_
              refine c_V (own := R_M) (index := 64) (As := [.int (nI (a)), .int (nI ((i0 + 1) - (1)))]) (rest := [.int (nI (Ed (eqC ch a b9) i0 j0))]) hx hb hml hown hg hK (fun _ _ _ h => h) (fun _ _ => trivial) (fun _ h => h) hP hS 0 (c_M_at l D cI cB ad hI M2 n len ch sp hR1 (a) ((i0 + 1) - (1)) (by omega) (by omega)) (by decide) (ci := 8) rfl rfl k_887 k_889 k_p27 k_9 k_890 2 rfl (by decide +kernel) (by decide) rfl hl.1 (Nat.le_of_ble_eq_true rfl) d_M_distance_115 (fun v M' H locs hq hP _ _ hS => ?_)
              obtain ⟨rfl, rfl⟩ := hq
              refine W.eq (g2 := F0 m 118 ls [.int (nI (ch (a) ((i0 + 1) - (1)))), .int (nI (Ed (eqC ch a b9) i0 j0))]) rfl ?_
              refine lv_aload_n hx hb d_M_distance_118 rfl (lv_at hl 1 rfl) ?_
              refine lv_iload_n hx hb d_M_distance_119 rfl (lv_at hl 3 rfl) ?_
              refine lv_iload hx hb d_M_distance_120 (lv_at hl 6 rfl) ?_
              refine n_const (k := 1) hx hb d_M_distance_122 (by decide) ?_
              refine n_isub (a := j0 + 1) (b := 1) hx hb d_M_distance_123 (by omega) ?_
              refine c_V (own := R_M) (index := 64) (As := [.int (nI (b9)), .int (nI ((j0 + 1) - (1)))]) (rest := [.int (nI (ch (a) ((i0 + 1) - (1)))), .int (nI (Ed (eqC ch a b9) i0 j0))]) hx hb hml hown hg hK (fun _ _ _ h => h) (fun _ _ => trivial) (fun _ h => h) hP hS 0 (c_M_at l D cI cB ad hI M2 n len ch sp hR1 (b9) ((j0 + 1) - (1)) (by omega) (by omega)) (by decide) (ci := 8) rfl rfl k_887 k_889 k_p27 k_9 k_890 2 rfl (by decide +kernel) (by decide) rfl hl.1 (Nat.le_of_ble_eq_true rfl) d_M_distance_124 (fun v M' H locs hq hP _ _ hS => ?_)
              obtain ⟨rfl, rfl⟩ := hq
              refine W.eq (g2 := F0 m 127 ls [.int (nI (ch (b9) ((j0 + 1) - (1)))), .int (nI (ch (a) ((i0 + 1) - (1)))), .int (nI (Ed (eqC ch a b9) i0 j0))]) rfl ?_
              refine n_ne (a := ch (a) ((i0 + 1) - (1))) (b := ch (b9) ((j0 + 1) - (1))) (tgt := 134) hx hb d_M_distance_127 (by decide) (Nat.lt_of_le_of_lt hca.2.1 (by decide)) (Nat.lt_of_le_of_lt hcb.2.1 (by decide)) (fun c_127 => ?_) (fun c_127 => ?_)
              · have c9 : ¬ ch a i0 = ch b9 j0 := c_127
                rw [decide_eq_false c9] at hEd
                refine n_const (k := 1) hx hb d_M_distance_134 (by decide) ?_
                refine n_iadd (a := Ed (eqC ch a b9) i0 j0) (b := 1) hx hb d_M_distance_135 ?_
                refine lv_istore (lv' := [(7, .int (nI ((Ed (eqC ch a b9) i0 j0) + (1)))), (6, .int (nI ((Ed (eqC ch a b9) i0 (j0 + 1)) + (1)))), (0, .ref (ad (0))), (1, .int (nI (a))), (2, .int (nI (b9))), (3, .int (nI (i0 + 1))), (4, .int (nI (Ed (eqC ch a b9) i0 j0))), (5, .int (nI (j0 + 1)))]) hx hb d_M_distance_136 hl (by decide) rfl (fun ls hl => ?_)
                refine lv_aload_n hx hb d_M_distance_138 rfl (lv_at hl 2 rfl) ?_
                refine g_get (C := R_M) (T := T_M) (N := 19) (ci := 8) (v := .ref (ad (12))) hx hb hg i_M hown hK hP 0 (by decide) rfl rfl 18 (by decide) (hg _ k_811) rfl d_M_distance_139 ?_
                refine lv_iload hx hb d_M_distance_142 (lv_at hl 7 rfl) ?_
                refine g_iald hx hb hK hP 12 0 (by decide) rfl rfl (by decide) (j := j0 + 1) (by omega) d_M_distance_144 ?_
                refine n_top (y := (nI (Ed (eqC ch a b9) i0 (j0 + 1)))) (hhi (j0 + 1) (by omega) (by omega)) ?_
                refine lv_istore (lv' := [(4, .int (nI (Ed (eqC ch a b9) i0 (j0 + 1)))), (7, .int (nI ((Ed (eqC ch a b9) i0 j0) + (1)))), (6, .int (nI ((Ed (eqC ch a b9) i0 (j0 + 1)) + (1)))), (0, .ref (ad (0))), (1, .int (nI (a))), (2, .int (nI (b9))), (3, .int (nI (i0 + 1))), (5, .int (nI (j0 + 1)))]) hx hb d_M_distance_145 hl (by decide) rfl (fun ls hl => ?_)
                refine lv_aload_n hx hb d_M_distance_147 rfl (lv_at hl 3 rfl) ?_
                refine g_get (C := R_M) (T := T_M) (N := 19) (ci := 8) (v := .ref (ad (12))) hx hb hg i_M hown hK hP 0 (by decide) rfl rfl 18 (by decide) (hg _ k_811) rfl d_M_distance_148 ?_
                refine lv_iload hx hb d_M_distance_151 (lv_at hl 7 rfl) ?_
                refine lv_iload hx hb d_M_distance_153 (lv_at hl 2 rfl) ?_
                refine lv_iload hx hb d_M_distance_155 (lv_at hl 1 rfl) ?_
                refine n_ge (a := (Ed (eqC ch a b9) i0 (j0 + 1)) + (1)) (b := (Ed (eqC ch a b9) i0 j0) + (1)) (tgt := 165) hx hb d_M_distance_157 (by decide) (by omega) (by omega) (fun c_157 => ?_) (fun c_157 => ?_)
                · refine lv_iload hx hb d_M_distance_165 (lv_at hl 1 rfl) ?_
                  have hX : (Ed (eqC ch a b9) i0 j0) + (1) = Ed (eqC ch a b9) (i0 + 1) (j0 + 1) := by rw [hEd]; simp; omega
                  refine g_iast hx hb hK hI (fun _ h => h) hP hS 12 0 (by decide) (fun _ => rfl) rfl (by decide) (j := j0 + 1) (by omega) (v := (nI ((Ed (eqC ch a b9) i0 j0) + (1)))) d_M_distance_167 (fun H locs hP hS => ?_)
                  obtain ⟨M_5, eM_5⟩ : ∃ z : PM, z = (pu M2 12 (j0 + 1) ((nI ((Ed (eqC ch a b9) i0 j0) + (1))))) := ⟨_, rfl⟩
                  rw [← eM_5] at hP
                  refine n_inc (lv' := [(5, .int (nI (j0 + 1 + 1))), (4, .int (nI (Ed (eqC ch a b9) i0 (j0 + 1)))), (7, .int (nI ((Ed (eqC ch a b9) i0 j0) + (1)))), (6, .int (nI ((Ed (eqC ch a b9) i0 (j0 + 1)) + (1)))), (0, .ref (ad (0))), (1, .int (nI (a))), (2, .int (nI (b9))), (3, .int (nI (i0 + 1)))]) hx hb d_M_distance_168 hl (k := 7) rfl (by decide) rfl (fun ls hl => ?_)
                  refine lv_goto (tgt := 55) hx hb d_M_distance_171 (by decide) ?_
                  exact ih55 (j0 + 1) M_5 _ _ ls (by omega) (by omega) (by rw [eM_5]; exact hF.st _ _) (by
  refine lt_S (fun q hq => ?_) ?_
  · rw [eM_5, pu_j _ _ _ _ _ (by omega)]; exact hlo q hq
  · rw [eM_5, pu_s, hX]) (by intro q h1 h2; rw [eM_5, pu_j _ _ _ _ _ (by omega)]; exact hhi q (by omega) h2) (by omega) hP hS (lv_sub hl [4, 5, 6, 7, 1, 0] rfl)
                · refine lv_iload hx hb d_M_distance_160 (lv_at hl 2 rfl) ?_
                  refine lv_goto (tgt := 167) hx hb d_M_distance_162 (by decide) ?_
                  have hX : (Ed (eqC ch a b9) i0 (j0 + 1)) + (1) = Ed (eqC ch a b9) (i0 + 1) (j0 + 1) := by rw [hEd]; simp; omega
                  refine g_iast hx hb hK hI (fun _ h => h) hP hS 12 0 (by decide) (fun _ => rfl) rfl (by decide) (j := j0 + 1) (by omega) (v := (nI ((Ed (eqC ch a b9) i0 (j0 + 1)) + (1)))) d_M_distance_167 (fun H locs hP hS => ?_)
                  obtain ⟨M_6, eM_6⟩ : ∃ z : PM, z = (pu M2 12 (j0 + 1) ((nI ((Ed (eqC ch a b9) i0 (j0 + 1)) + (1))))) := ⟨_, rfl⟩
                  rw [← eM_6] at hP
                  refine n_inc (lv' := [(5, .int (nI (j0 + 1 + 1))), (4, .int (nI (Ed (eqC ch a b9) i0 (j0 + 1)))), (7, .int (nI ((Ed (eqC ch a b9) i0 j0) + (1)))), (6, .int (nI ((Ed (eqC ch a b9) i0 (j0 + 1)) + (1)))), (0, .ref (ad (0))), (1, .int (nI (a))), (2, .int (nI (b9))), (3, .int (nI (i0 + 1)))]) hx hb d_M_distance_168 hl (k := 7) rfl (by decide) rfl (fun ls hl => ?_)
                  refine lv_goto (tgt := 55) hx hb d_M_distance_171 (by decide) ?_
                  exact ih55 (j0 + 1) M_6 _ _ ls (by omega) (by omega) (by rw [eM_6]; exact hF.st _ _) (by
  refine lt_S (fun q hq => ?_) ?_
  · rw [eM_6, pu_j _ _ _ _ _ (by omega)]; exact hlo q hq
  · rw [eM_6, pu_s, hX]) (by intro q h1 h2; rw [eM_6, pu_j _ _ _ _ _ (by omega)]; exact hhi q (by omega) h2) (by omega) hP hS (lv_sub hl [4, 5, 6, 7, 1, 0] rfl)
              · have c9 : ch a i0 = ch b9 j0 := c_127
                rw [decide_eq_true c9] at hEd
                refine n_const (k := 0) hx hb d_M_distance_130 (by decide) ?_
                refine lv_goto (tgt := 135) hx hb d_M_distance_131 (by decide) ?_
                refine n_iadd (a := Ed (eqC ch a b9) i0 j0) (b := 0) hx hb d_M_distance_135 ?_
                refine lv_istore (lv' := [(7, .int (nI ((Ed (eqC ch a b9) i0 j0) + (0)))), (6, .int (nI ((Ed (eqC ch a b9) i0 (j0 + 1)) + (1)))), (0, .ref (ad (0))), (1, .int (nI (a))), (2, .int (nI (b9))), (3, .int (nI (i0 + 1))), (4, .int (nI (Ed (eqC ch a b9) i0 j0))), (5, .int (nI (j0 + 1)))]) hx hb d_M_distance_136 hl (by decide) rfl (fun ls hl => ?_)
                refine lv_aload_n hx hb d_M_distance_138 rfl (lv_at hl 2 rfl) ?_
                refine g_get (C := R_M) (T := T_M) (N := 19) (ci := 8) (v := .ref (ad (12))) hx hb hg i_M hown hK hP 0 (by decide) rfl rfl 18 (by decide) (hg _ k_811) rfl d_M_distance_139 ?_
                refine lv_iload hx hb d_M_distance_142 (lv_at hl 7 rfl) ?_
                refine g_iald hx hb hK hP 12 0 (by decide) rfl rfl (by decide) (j := j0 + 1) (by omega) d_M_distance_144 ?_
                refine n_top (y := (nI (Ed (eqC ch a b9) i0 (j0 + 1)))) (hhi (j0 + 1) (by omega) (by omega)) ?_
                refine lv_istore (lv' := [(4, .int (nI (Ed (eqC ch a b9) i0 (j0 + 1)))), (7, .int (nI ((Ed (eqC ch a b9) i0 j0) + (0)))), (6, .int (nI ((Ed (eqC ch a b9) i0 (j0 + 1)) + (1)))), (0, .ref (ad (0))), (1, .int (nI (a))), (2, .int (nI (b9))), (3, .int (nI (i0 + 1))), (5, .int (nI (j0 + 1)))]) hx hb d_M_distance_145 hl (by decide) rfl (fun ls hl => ?_)
                refine lv_aload_n hx hb d_M_distance_147 rfl (lv_at hl 3 rfl) ?_
                refine g_get (C := R_M) (T := T_M) (N := 19) (ci := 8) (v := .ref (ad (12))) hx hb hg i_M hown hK hP 0 (by decide) rfl rfl 18 (by decide) (hg _ k_811) rfl d_M_distance_148 ?_
                refine lv_iload hx hb d_M_distance_151 (lv_at hl 7 rfl) ?_
                refine lv_iload hx hb d_M_distance_153 (lv_at hl 2 rfl) ?_
                refine lv_iload hx hb d_M_distance_155 (lv_at hl 1 rfl) ?_
                refine n_ge (a := (Ed (eqC ch a b9) i0 (j0 + 1)) + (1)) (b := (Ed (eqC ch a b9) i0 j0) + (0)) (tgt := 165) hx hb d_M_distance_157 (by decide) (by omega) (by omega) (fun c_157 => ?_) (fun c_157 => ?_)
                · refine lv_iload hx hb d_M_distance_165 (lv_at hl 1 rfl) ?_
                  have hX : (Ed (eqC ch a b9) i0 j0) + (0) = Ed (eqC ch a b9) (i0 + 1) (j0 + 1) := by rw [hEd]; simp; omega
                  refine g_iast hx hb hK hI (fun _ h => h) hP hS 12 0 (by decide) (fun _ => rfl) rfl (by decide) (j := j0 + 1) (by omega) (v := (nI ((Ed (eqC ch a b9) i0 j0) + (0)))) d_M_distance_167 (fun H locs hP hS => ?_)
                  obtain ⟨M_7, eM_7⟩ : ∃ z : PM, z = (pu M2 12 (j0 + 1) ((nI ((Ed (eqC ch a b9) i0 j0) + (0))))) := ⟨_, rfl⟩
                  rw [← eM_7] at hP
                  refine n_inc (lv' := [(5, .int (nI (j0 + 1 + 1))), (4, .int (nI (Ed (eqC ch a b9) i0 (j0 + 1)))), (7, .int (nI ((Ed (eqC ch a b9) i0 j0) + (0)))), (6, .int (nI ((Ed (eqC ch a b9) i0 (j0 + 1)) + (1)))), (0, .ref (ad (0))), (1, .int (nI (a))), (2, .int (nI (b9))), (3, .int (nI (i0 + 1)))]) hx hb d_M_distance_168 hl (k := 7) rfl (by decide) rfl (fun ls hl => ?_)
                  refine lv_goto (tgt := 55) hx hb d_M_distance_171 (by decide) ?_
                  exact ih55 (j0 + 1) M_7 _ _ ls (by omega) (by omega) (by rw [eM_7]; exact hF.st _ _) (by
  refine lt_S (fun q hq => ?_) ?_
  · rw [eM_7, pu_j _ _ _ _ _ (by omega)]; exact hlo q hq
  · rw [eM_7, pu_s, hX]) (by intro q h1 h2; rw [eM_7, pu_j _ _ _ _ _ (by omega)]; exact hhi q (by omega) h2) (by omega) hP hS (lv_sub hl [4, 5, 6, 7, 1, 0] rfl)
                · refine lv_iload hx hb d_M_distance_160 (lv_at hl 2 rfl) ?_
                  refine lv_goto (tgt := 167) hx hb d_M_distance_162 (by decide) ?_
                  have hX : (Ed (eqC ch a b9) i0 (j0 + 1)) + (1) = Ed (eqC ch a b9) (i0 + 1) (j0 + 1) := by rw [hEd]; simp; omega
                  refine g_iast hx hb hK hI (fun _ h => h) hP hS 12 0 (by decide) (fun _ => rfl) rfl (by decide) (j := j0 + 1) (by omega) (v := (nI ((Ed (eqC ch a b9) i0 (j0 + 1)) + (1)))) d_M_distance_167 (fun H locs hP hS => ?_)
                  obtain ⟨M_8, eM_8⟩ : ∃ z : PM, z = (pu M2 12 (j0 + 1) ((nI ((Ed (eqC ch a b9) i0 (j0 + 1)) + (1))))) := ⟨_, rfl⟩
                  rw [← eM_8] at hP
                  refine n_inc (lv' := [(5, .int (nI (j0 + 1 + 1))), (4, .int (nI (Ed (eqC ch a b9) i0 (j0 + 1)))), (7, .int (nI ((Ed (eqC ch a b9) i0 j0) + (0)))), (6, .int (nI ((Ed (eqC ch a b9) i0 (j0 + 1)) + (1)))), (0, .ref (ad (0))), (1, .int (nI (a))), (2, .int (nI (b9))), (3, .int (nI (i0 + 1)))]) hx hb d_M_distance_168 hl (k := 7) rfl (by decide) rfl (fun ls hl => ?_)
                  refine lv_goto (tgt := 55) hx hb d_M_distance_171 (by decide) ?_
                  exact ih55 (j0 + 1) M_8 _ _ ls (by omega) (by omega) (by rw [eM_8]; exact hF.st _ _) (by
  refine lt_S (fun q hq => ?_) ?_
  · rw [eM_8, pu_j _ _ _ _ _ (by omega)]; exact hlo q hq
  · rw [eM_8, pu_s, hX]) (by intro q h1 h2; rw [eM_8, pu_j _ _ _ _ _ (by omega)]; exact hhi q (by omega) h2) (by omega) hP hS (lv_sub hl [4, 5, 6, 7, 1, 0] rfl)
      refine lv_iload_n hx hb d_M_distance_27 rfl (lv_at hl 3 rfl) ?_
      refine lv_aload_n hx hb d_M_distance_28 rfl (lv_at hl 0 rfl) ?_
      refine g_get (C := R_M) (T := T_M) (N := 19) (ci := 8) (v := .ref (ad (3))) hx hb hg i_M hown hK hP 0 (by decide) rfl rfl 4 (by decide) (hg _ k_797) rfl d_M_distance_29 ?_
      refine lv_iload_n hx hb d_M_distance_32 rfl (lv_at hl 1 rfl) ?_
      refine g_iald hx hb hK hP 3 0 (by decide) rfl rfl (by decide) (j := a) (by omega) d_M_distance_33 ?_
      refine n_top (y := (nI (len (a)))) ((hR1.2.2.1 (a) (by omega)).2.2) ?_
      refine n_gt (a := i0 + 1) (b := len (a)) (tgt := 180) hx hb d_M_distance_34 (by decide) (by omega) (by omega) (fun c_34 => ?_) (fun c_34 => ?_)
      · refine lv_aload_n hx hb d_M_distance_180 rfl (lv_at hl 0 rfl) ?_
        refine g_get (C := R_M) (T := T_M) (N := 19) (ci := 8) (v := .ref (ad (12))) hx hb hg i_M hown hK hP 0 (by decide) rfl rfl 18 (by decide) (hg _ k_811) rfl d_M_distance_181 ?_
        refine lv_aload_n hx hb d_M_distance_184 rfl (lv_at hl 0 rfl) ?_
        refine g_get (C := R_M) (T := T_M) (N := 19) (ci := 8) (v := .ref (ad (3))) hx hb hg i_M hown hK hP 0 (by decide) rfl rfl 4 (by decide) (hg _ k_797) rfl d_M_distance_185 ?_
        refine lv_iload_n hx hb d_M_distance_188 rfl (lv_at hl 2 rfl) ?_
        refine g_iald hx hb hK hP 3 0 (by decide) rfl rfl (by decide) (j := b9) (by omega) d_M_distance_189 ?_
        refine n_top (y := (nI (len (b9)))) ((hR1.2.2.1 (b9) (by omega)).2.2) ?_
        refine g_iald hx hb hK hP 12 0 (by decide) rfl rfl (by decide) (j := len (b9)) (by omega) d_M_distance_190 ?_
        refine n_top (y := (nI (Ed (eqC ch a b9) i0 (len b9)))) (hrow (len b9) (by omega)) ?_
        exact r_i hx hb hr hlocks hP hS (⟨by rw [show i0 = len a by omega], hF⟩) d_M_distance_191
      · refine lv_aload_n hx hb d_M_distance_37 rfl (lv_at hl 0 rfl) ?_
        refine g_get (C := R_M) (T := T_M) (N := 19) (ci := 8) (v := .ref (ad (12))) hx hb hg i_M hown hK hP 0 (by decide) rfl rfl 18 (by decide) (hg _ k_811) rfl d_M_distance_38 ?_
        refine n_const (k := 0) hx hb d_M_distance_41 (by decide) ?_
        refine g_iald hx hb hK hP 12 0 (by decide) rfl rfl (by decide) (j := 0) (by omega) d_M_distance_42 ?_
        refine n_top (y := (nI (Ed (eqC ch a b9) i0 0))) (hrow 0 (by omega)) ?_
        refine lv_istore (lv' := [(4, .int (nI (Ed (eqC ch a b9) i0 0))), (0, .ref (ad (0))), (1, .int (nI (a))), (2, .int (nI (b9))), (3, .int (nI (i0 + 1)))]) hx hb d_M_distance_43 hl (by decide) rfl (fun ls hl => ?_)
        refine lv_aload_n hx hb d_M_distance_45 rfl (lv_at hl 1 rfl) ?_
        refine g_get (C := R_M) (T := T_M) (N := 19) (ci := 8) (v := .ref (ad (12))) hx hb hg i_M hown hK hP 0 (by decide) rfl rfl 18 (by decide) (hg _ k_811) rfl d_M_distance_46 ?_
        refine n_const (k := 0) hx hb d_M_distance_49 (by decide) ?_
        refine lv_iload_n hx hb d_M_distance_50 rfl (lv_at hl 4 rfl) ?_
        refine g_iast hx hb hK hI (fun _ h => h) hP hS 12 0 (by decide) (fun _ => rfl) rfl (by decide) (j := 0) (by omega) (v := (nI (i0 + 1))) d_M_distance_51 (fun H locs hP hS => ?_)
        obtain ⟨M_9, eM_9⟩ : ∃ z : PM, z = (pu M1 12 (0) ((nI (i0 + 1)))) := ⟨_, rfl⟩
        rw [← eM_9] at hP
        refine n_const (k := 1) hx hb d_M_distance_52 (by decide) ?_
        refine lv_istore (lv' := [(5, .int (nI (1))), (4, .int (nI (Ed (eqC ch a b9) i0 0))), (0, .ref (ad (0))), (1, .int (nI (a))), (2, .int (nI (b9))), (3, .int (nI (i0 + 1)))]) hx hb d_M_distance_53 hl (by decide) rfl (fun ls hl => ?_)
        exact J55 (_ + 1) (0) M_9 _ _ ls (Nat.lt_succ_self _) (by omega) (by rw [eM_9]; exact hF.st _ _) (by intro q hq; have e : q = 0 := (by omega); subst e; rw [eM_9, pu_s]; simp [Ed]) (by intro q h1 h2; rw [eM_9, pu_j _ _ _ _ _ (by omega)]; exact hrow q h2) (by omega) hP hS (lv_sub hl [2, 3, 4, 5, 1, 0] rfl)
  have J2 : ∀ (fu2 : Nat) (j : Nat) (M1 : PM) (H : Heap) (locs : List Loc) (ls : Array Slot), len b9 + 1 - j < fu2 → (j ≤ len b9 + 1) → (F12 M M1) → (∀ q, q < j → M1 12 q = nI q) → va_P D clsA (gw 13 ad (cfM cI cB ad) M1) H → va_S (GA 13 ad) s.heap H locs → lv_has ls 8 [(0, .ref (ad (0))), (1, .int (nI (a))), (2, .int (nI (b9))), (3, .int (nI (j)))] → W p l e (rm_ 1 22) s m ([.ref (ad (0)), .int (nI (a)), .int (nI (b9))] : List Value).toArray below meth c H locs 0 0 (MQ below (GQ D 13 ad (cfM cI cB ad) (fun v M' => v = some (.int (nI (Ed (eqC ch a b9) (len a) (len b9)))) ∧ F12 M M')) ([.ref (ad (0)), .int (nI (a)), .int (nI (b9))] : List Value).toArray s 0 0 (GA 13 ad)) (F0 m 2 ls []) := by
    intro fu2
    induction fu2 with
    | zero => intro j M1 H locs ls hfu; exact absurd hfu (Nat.not_lt_zero _)
    | succ fu2 ih2 =>
      intro j M1 H locs ls hfu2 hj hF hz hP hS hl
      have hR1 := hR.sx hF.sx
      refine lv_iload_n hx hb d_M_distance_2 rfl (lv_at hl 3 rfl) ?_
      refine lv_aload_n hx hb d_M_distance_3 rfl (lv_at hl 0 rfl) ?_
      refine g_get (C := R_M) (T := T_M) (N := 19) (ci := 8) (v := .ref (ad (3))) hx hb hg i_M hown hK hP 0 (by decide) rfl rfl 4 (by decide) (hg _ k_797) rfl d_M_distance_4 ?_
      refine lv_iload_n hx hb d_M_distance_7 rfl (lv_at hl 2 rfl) ?_
      refine g_iald hx hb hK hP 3 0 (by decide) rfl rfl (by decide) (j := b9) (by omega) d_M_distance_8 ?_
      refine n_top (y := (nI (len (b9)))) ((hR1.2.2.1 (b9) (by omega)).2.2) ?_
      refine n_gt (a := j) (b := len (b9)) (tgt := 25) hx hb d_M_distance_9 (by decide) (by omega) (by omega) (fun c_9 => ?_) (fun c_9 => ?_)
      · refine n_const (k := 1) hx hb d_M_distance_25 (by decide) ?_
        refine lv_istore_n (lv' := [(3, .int (nI (1))), (0, .ref (ad (0))), (1, .int (nI (a))), (2, .int (nI (b9)))]) hx hb d_M_distance_26 rfl hl (by decide) rfl (fun ls hl => ?_)
        exact J27 (_ + 1) (0) M1 _ _ ls (Nat.lt_succ_self _) (by omega) (hF) (by intro q hq; rw [hz q (by omega)]; simp [Ed]) hP hS (lv_sub hl [1, 2, 3, 0] rfl)
      · refine lv_aload_n hx hb d_M_distance_12 rfl (lv_at hl 0 rfl) ?_
        refine g_get (C := R_M) (T := T_M) (N := 19) (ci := 8) (v := .ref (ad (12))) hx hb hg i_M hown hK hP 0 (by decide) rfl rfl 18 (by decide) (hg _ k_811) rfl d_M_distance_13 ?_
        refine lv_iload_n hx hb d_M_distance_16 rfl (lv_at hl 3 rfl) ?_
        refine lv_iload_n hx hb d_M_distance_17 rfl (lv_at hl 3 rfl) ?_
        refine g_iast hx hb hK hI (fun _ h => h) hP hS 12 0 (by decide) (fun _ => rfl) rfl (by decide) (j := j) (by omega) (v := (nI (j))) d_M_distance_18 (fun H locs hP hS => ?_)
        obtain ⟨M_10, eM_10⟩ : ∃ z : PM, z = (pu M1 12 (j) ((nI (j)))) := ⟨_, rfl⟩
        rw [← eM_10] at hP
        refine n_inc (lv' := [(3, .int (nI (j + 1))), (0, .ref (ad (0))), (1, .int (nI (a))), (2, .int (nI (b9)))]) hx hb d_M_distance_19 hl (k := 3) rfl (by decide) rfl (fun ls hl => ?_)
        refine lv_goto (tgt := 2) hx hb d_M_distance_22 (by decide) ?_
        exact ih2 (j + 1) M_10 _ _ ls (by omega) (by omega) (by rw [eM_10]; exact hF.st _ _) (by
  refine lt_S (fun q hq => ?_) ?_
  · rw [eM_10, pu_j _ _ _ _ _ (by omega)]; exact hz q hq
  · rw [eM_10, pu_s]) hP hS (lv_sub hl [1, 2, 3, 0] rfl)
  refine n_const (k := 0) hx hb d_M_distance_0 (by decide) ?_
  refine lv_istore_n (lv' := [(3, .int (nI (0))), (0, .ref (ad (0))), (1, .int (nI (a))), (2, .int (nI (b9)))]) hx hb d_M_distance_1 rfl hl (by decide) rfl (fun ls hl => ?_)
  exact J2 (_ + 1) (0) M _ _ ls (Nat.lt_succ_self _) (by omega) (fun _ _ _ => rfl) (fun q hq => absurd hq (Nat.not_lt_zero q)) hP hS (lv_sub hl [1, 2, 3, 0] rfl)
