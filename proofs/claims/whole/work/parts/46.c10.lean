set_option maxHeartbeats 4000000 in
set_option maxRecDepth 100000 in
theorem c_C_buildLastLetters (l : Launch) (D : va_G) (cI cC cZ cT : ClassId) (ad : Nat → Nat) (hI : GI 144 ad) (M : PM) (n : Nat) (len : Nat → Nat) (ch : Nat → Nat → Nat) (hN7 : CN M n len ch) (a : Nat) (ha : a < n) (f9 e9 : Nat) (hrun : RunL len ch a f9 e9) : MD l D cI cC cZ cT ad y_C_buildLastLetters b_C_buildLastLetters 5 none 2 40 [.ref (ad (0)), .ref (ad (9 + 2 * (a)))] M (fun v M' => v = none ∧ TT M' 5 (blP f9 e9) (bcP ch a f9 e9) ∧ FT 5 M M') := by
  refine MC.of (by decide) (Nat.le_of_ble_eq_true rfl) ?_
  intro p e s m below meth c ls hx hb hr hml hown hg hlocks hK hN hP hS hl
  have hown : s.vm.findClass R_C = some m.cls := hown
  have hl : lv_has ls 5 [(0, .ref (ad (0))), (1, .ref (ad (9 + 2 * (a))))] := hl
  have hn60 := hN7.1
  have hnm := hN7.2.2.1
  have la := hnm a ha
  obtain ⟨r1, r2, r3, r4, r5, r6⟩ := id hrun
  have hF := FT.rf 5 M
  have J63 : ∀ (fu63 : Nat) (i : Nat) (M1 : PM) (H : Heap) (locs : List Loc) (ls : Array Slot), e9 - i < fu63 → (f9 ≤ i) → (i ≤ e9) → (TT M1 5 (i - f9) (fun i => smC (ch a (f9 + i)))) → (FT 5 M M1) → va_P D clsA (gw 144 ad (cfC cI cC cZ cT ad) M1) H → va_S (GA 144 ad) s.heap H locs → lv_has ls 5 [(0, .ref (ad (0))), (1, .ref (ad (9 + 2 * (a)))), (2, .int (nI (e9))), (4, .int (nI (i)))] → W p l e (rm_ 2 40) s m ([.ref (ad (0)), .ref (ad (9 + 2 * (a)))] : List Value).toArray below meth c H locs 0 0 (MQ below (GQ D 144 ad (cfC cI cC cZ cT ad) (fun v M' => v = none ∧ TT M' 5 (blP f9 e9) (bcP ch a f9 e9) ∧ FT 5 M M')) ([.ref (ad (0)), .ref (ad (9 + 2 * (a)))] : List Value).toArray s 0 0 (GA 144 ad)) (F0 m 63 ls []) := by
    intro fu63
    induction fu63 with
    | zero => intro i M1 H locs ls hfu; exact absurd hfu (Nat.not_lt_zero _)
    | succ fu63 ih63 =>
      intro i M1 H locs ls hfu63 hi1 hi hB hF hP hS hl
      refine lv_iload hx hb d_C_buildLastLetters_63 (lv_at hl 3 rfl) ?_
      refine lv_iload_n hx hb d_C_buildLastLetters_65 rfl (lv_at hl 2 rfl) ?_
      refine n_ge (a := i) (b := e9) (tgt := 91) hx hb d_C_buildLastLetters_66 (by decide) (by omega) (by omega) (fun c_66 => ?_) (fun c_66 => ?_)
      · refine lv_aload_n hx hb d_C_buildLastLetters_91 rfl (lv_at hl 0 rfl) ?_
        refine g_get (C := R_C) (T := T_C) (N := 15) (ci := 7) (v := .ref (ad (5))) hx hb hg i_C hown hK hP 0 (by decide) rfl rfl 2 (by decide) (hg _ k_130) rfl d_C_buildLastLetters_92 ?_
        refine c_V (own := R_C) (index := 126) (As := []) (rest := []) hx hb hml hown hg hK NXc.same hN.warm (fun _ h => h) hP hS 5 (c_T_isEmpty l D cI cC cZ cT ad hI M1 5 tx5 (i - f9) (fun i => smC (ch a (f9 + i))) hB (decide (i - f9 = 0)) decide_eq_true_iff) (tx_lt tx5) (ci := 6) (cfC_T tx5 _) rfl k_309 k_310 k_311 k_2 k_312 0 rfl (by decide +kernel) (by decide) rfl hl.1 (Nat.le_of_ble_eq_true rfl) d_C_buildLastLetters_95 (fun v M' H locs hq hP _ _ hS => ?_)
        obtain ⟨rfl, rfl⟩ := hq
        refine W.eq (g2 := F0 m 98 ls [.int (bI (decide (i - f9 = 0)))]) rfl ?_
        refine z_eq (t := decide (i - f9 = 0)) (tgt := 110) hx hb d_C_buildLastLetters_98 (by decide) (fun c_98 => ?_) (fun c_98 => ?_)
        · have hne : ¬ i - f9 = 0 := of_decide_eq_false c_98
          have hB9 : TT M1 5 (blP f9 e9) (bcP ch a f9 e9) := by
            have e1 : blP f9 e9 = i - f9 := by unfold blP; rw [if_neg (by omega)]; omega
            rw [e1]
            exact hB.cong (fun q hq => by unfold bcP; rw [if_neg (by omega)])
          have hB : TT M1 5 (blP f9 e9) (bcP ch a f9 e9) := by first | exact hB9 | (rw [show blP f9 e9 = 0 + 1 by unfold blP; rw [if_pos hfe]]; exact hB)
          exact r_v hx hb hr hlocks hP hS (⟨rfl, hB, hF⟩) d_C_buildLastLetters_110
        · have hz : i - f9 = 0 := of_decide_eq_true c_98
          have hfe : f9 = e9 := by omega
          rw [hz] at hB
          have hB : TT M1 5 0 (bcP ch a f9 e9) := hB.cong (fun q hq => absurd hq (Nat.not_lt_zero q))
          refine lv_aload_n hx hb d_C_buildLastLetters_101 rfl (lv_at hl 0 rfl) ?_
          refine g_get (C := R_C) (T := T_C) (N := 15) (ci := 7) (v := .ref (ad (5))) hx hb hg i_C hown hK hP 0 (by decide) rfl rfl 2 (by decide) (hg _ k_130) rfl d_C_buildLastLetters_102 ?_
          refine n_bipush (k := 110) hx hb d_C_buildLastLetters_105 (by decide) ?_
          refine c_V (own := R_C) (index := 105) (As := [.int (nI (110))]) (rest := []) hx hb hml hown hg hK NXc.same hN.warm (fun _ h => h) hP hS 5 (c_T_put l D cI cC cZ cT ad hI M1 5 tx5 (0) (bcP ch a f9 e9) hB (110) (by decide) (by rw [cap5]; omega)) (tx_lt tx5) (ci := 6) (cfC_T tx5 _) rfl k_293 k_294 k_295 k_2 k_296 1 rfl (by decide +kernel) (by decide) rfl hl.1 (Nat.le_of_ble_eq_true rfl) d_C_buildLastLetters_107 (fun v M_1 H locs hq hP _ _ hS => ?_)
          obtain ⟨rfl, eM_1⟩ := hq
          rw [show 110 = (bcP ch a f9 e9) (0) from (by unfold bcP; rw [if_pos hfe])] at eM_1
          have hB : TT M_1 5 (0 + 1) (bcP ch a f9 e9) := by rw [eM_1]; exact hB.add (by rw [cap5]; omega) (by unfold bcP; rw [if_pos hfe]; decide)
          have hF : FT 5 M M_1 := hF.tr (by rw [eM_1]; exact FT.add _ _ _ _ _)
          refine W.eq (g2 := F0 m 110 ls []) rfl ?_
          have hB : TT M_1 5 (blP f9 e9) (bcP ch a f9 e9) := by first | exact hB9 | (rw [show blP f9 e9 = 0 + 1 by unfold blP; rw [if_pos hfe]]; exact hB)
          exact r_v hx hb hr hlocks hP hS (⟨rfl, hB, hF⟩) d_C_buildLastLetters_110
      · refine lv_aload_n hx hb d_C_buildLastLetters_69 rfl (lv_at hl 0 rfl) ?_
        refine g_get (C := R_C) (T := T_C) (N := 15) (ci := 7) (v := .ref (ad (5))) hx hb hg i_C hown hK hP 0 (by decide) rfl rfl 2 (by decide) (hg _ k_130) rfl d_C_buildLastLetters_70 ?_
        refine lv_aload_n hx hb d_C_buildLastLetters_73 rfl (lv_at hl 1 rfl) ?_
        refine lv_iload hx hb d_C_buildLastLetters_74 (lv_at hl 3 rfl) ?_
        refine c_V (own := R_C) (index := 179) (As := [.int (nI (i))]) (rest := [.ref (ad (5))]) hx hb hml hown hg hK NXc.same hN.warm (fun _ h => h) hP hS (9 + 2 * (a)) (c_T_at l D cI cC cZ cT ad hI M1 (9 + 2 * a) (txn (by omega)) (len a) (ch a) ((hN7.ft hF (by decide)).2.2.1 a ha).2.2.2 (i) (by omega)) (tx_lt (txn (by omega))) (ci := 6) (cfC_T (txn (by omega)) _) rfl k_191 k_192 k_193 k_2 k_194 1 rfl (by decide +kernel) (by decide) rfl hl.1 (Nat.le_of_ble_eq_true rfl) d_C_buildLastLetters_76 (fun v M' H locs hq hP _ _ hS => ?_)
        obtain ⟨rfl, rfl⟩ := hq
        refine W.eq (g2 := F0 m 79 ls [.int (nI (ch a (i))), .ref (ad (5))]) rfl ?_
        refine c_S (own := R_C) (index := 325) (As := [.int (nI (ch a (i)))]) (rest := [.ref (ad (5))]) hx hb hml hown hg hK NXc.same hN.warm (fun _ h => h) hP hS (c_C_small l D cI cC cZ cT ad hI M1 (ch a (i)) (by have := la.2.2.1 i (by omega); omega)) rfl k_499 k_500 k_1 k_501 1 rfl (by decide +kernel) (by decide) rfl hl.1 (Nat.le_of_ble_eq_true rfl) d_C_buildLastLetters_79 (fun v M' H locs hq hP _ _ hS => ?_)
        obtain ⟨rfl, rfl⟩ := hq
        refine W.eq (g2 := F0 m 82 ls [.int (nI (smC (ch a (i)))), .ref (ad (5))]) rfl ?_
        refine c_V (own := R_C) (index := 105) (As := [.int (nI (smC (ch a (i))))]) (rest := []) hx hb hml hown hg hK NXc.same hN.warm (fun _ h => h) hP hS 5 (c_T_put l D cI cC cZ cT ad hI M1 5 tx5 (i - f9) (fun i => smC (ch a (f9 + i))) hB (smC (ch a (i))) (smC_lt (by have := la.2.2.1 i (by omega); omega)) (by rw [cap5]; omega)) (tx_lt tx5) (ci := 6) (cfC_T tx5 _) rfl k_293 k_294 k_295 k_2 k_296 1 rfl (by decide +kernel) (by decide) rfl hl.1 (Nat.le_of_ble_eq_true rfl) d_C_buildLastLetters_82 (fun v M_2 H locs hq hP _ _ hS => ?_)
        obtain ⟨rfl, eM_2⟩ := hq
        rw [show smC (ch a (i)) = (fun i => smC (ch a (f9 + i))) (i - f9) from (by simp only []; congr 2; omega)] at eM_2
        have hB : TT M_2 5 (i - f9 + 1) (fun i => smC (ch a (f9 + i))) := by rw [eM_2]; exact hB.add (by rw [cap5]; omega) (smC_lt (by have := la.2.2.1 (f9 + (i - f9)) (by omega); omega))
        have hF : FT 5 M M_2 := hF.tr (by rw [eM_2]; exact FT.add _ _ _ _ _)
        refine W.eq (g2 := F0 m 85 ls []) rfl ?_
        refine n_inc (lv' := [(4, .int (nI (i + 1))), (0, .ref (ad (0))), (1, .ref (ad (9 + 2 * (a)))), (2, .int (nI (e9)))]) hx hb d_C_buildLastLetters_85 hl (k := 3) rfl (by decide) rfl (fun ls hl => ?_)
        refine lv_goto (tgt := 63) hx hb d_C_buildLastLetters_88 (by decide) ?_
        exact ih63 (i + 1) M_2 _ _ ls (by omega) (by omega) (by omega) (by rw [show i + 1 - f9 = i - f9 + 1 by omega]; exact hB) (hF) hP hS (lv_sub hl [1, 2, 3, 0] rfl)
  have J30 : ∀ (fu30 : Nat) (j : Nat) (H : Heap) (locs : List Loc) (ls : Array Slot), j < fu30 → (j ≤ e9) → (∀ q, j ≤ q → q < e9 → isL (ch a q) = true) → va_P D clsA (gw 144 ad (cfC cI cC cZ cT ad) M) H → va_S (GA 144 ad) s.heap H locs → lv_has ls 5 [(0, .ref (ad (0))), (1, .ref (ad (9 + 2 * (a)))), (2, .int (nI (e9))), (3, .int (nI (j)))] → W p l e (rm_ 2 40) s m ([.ref (ad (0)), .ref (ad (9 + 2 * (a)))] : List Value).toArray below meth c H locs 0 0 (MQ below (GQ D 144 ad (cfC cI cC cZ cT ad) (fun v M' => v = none ∧ TT M' 5 (blP f9 e9) (bcP ch a f9 e9) ∧ FT 5 M M')) ([.ref (ad (0)), .ref (ad (9 + 2 * (a)))] : List Value).toArray s 0 0 (GA 144 ad)) (F0 m 30 ls []) := by
    intro fu30
    induction fu30 with
    | zero => intro j H locs ls hfu; exact absurd hfu (Nat.not_lt_zero _)
    | succ fu30 ih30 =>
      intro j H locs ls hfu30 hj hpj hP hS hl
      refine lv_iload_n hx hb d_C_buildLastLetters_30 rfl (lv_at hl 3 rfl) ?_
      refine lv_if_le (tgt := 53) hx hb d_C_buildLastLetters_31 (by decide) (fun c_31 => ?_) (fun c_31 => ?_)
      · replace c_31 : j = 0 := (nI_le0 (by omega)).mp c_31
        have e5 : j = f9 := hrun.from_ hj hpj (Or.inl c_31)
        rw [e5] at hl
        have hl : lv_has ls 5 [(0, .ref (ad (0))), (1, .ref (ad (9 + 2 * (a)))), (2, .int (nI (e9))), (3, .int (nI (f9)))] := hl
        refine lv_aload_n hx hb d_C_buildLastLetters_53 rfl (lv_at hl 0 rfl) ?_
        refine g_get (C := R_C) (T := T_C) (N := 15) (ci := 7) (v := .ref (ad (5))) hx hb hg i_C hown hK hP 0 (by decide) rfl rfl 2 (by decide) (hg _ k_130) rfl d_C_buildLastLetters_54 ?_
        refine c_V (own := R_C) (index := 113) (As := []) (rest := []) hx hb hml hown hg hK NXc.same hN.warm (fun _ h => h) hP hS 5 (c_T_empty l D cI cC cZ cT ad hI M 5 tx5) (tx_lt tx5) (ci := 6) (cfC_T tx5 _) rfl k_183 k_184 k_185 k_2 k_186 0 rfl (by decide +kernel) (by decide) rfl hl.1 (Nat.le_of_ble_eq_true rfl) d_C_buildLastLetters_57 (fun v M_3 H locs hq hP _ _ hS => ?_)
        obtain ⟨rfl, eM_3⟩ := hq
        have hB : TT M_3 5 0 (fun i => smC (ch a (f9 + i))) := by rw [eM_3]; exact TT.emp _ _ _
        have hF : FT 5 M M_3 := hF.tr (by rw [eM_3]; exact FT.emp _ _ _)
        refine W.eq (g2 := F0 m 60 ls []) rfl ?_
        refine lv_iload_n hx hb d_C_buildLastLetters_60 rfl (lv_at hl 3 rfl) ?_
        refine lv_istore (lv' := [(4, .int (nI (f9))), (0, .ref (ad (0))), (1, .ref (ad (9 + 2 * (a)))), (2, .int (nI (e9))), (3, .int (nI (f9)))]) hx hb d_C_buildLastLetters_61 hl (by decide) rfl (fun ls hl => ?_)
        exact J63 (_ + 1) (f9) M_3 _ _ ls (Nat.lt_succ_self _) (Nat.le_refl _) (by omega) (by rw [Nat.sub_self]; exact hB) (hF) hP hS (lv_sub hl [1, 2, 3, 0] rfl)
      · replace c_31 : ¬ j = 0 := fun q => c_31 ((nI_le0 (by omega)).mpr q)
        refine lv_aload_n hx hb d_C_buildLastLetters_34 rfl (lv_at hl 1 rfl) ?_
        refine lv_iload_n hx hb d_C_buildLastLetters_35 rfl (lv_at hl 3 rfl) ?_
        refine n_const (k := 1) hx hb d_C_buildLastLetters_36 (by decide) ?_
        refine n_isub (a := j) (b := 1) hx hb d_C_buildLastLetters_37 (by omega) ?_
        refine c_V (own := R_C) (index := 179) (As := [.int (nI ((j) - (1)))]) (rest := []) hx hb hml hown hg hK NXc.same hN.warm (fun _ h => h) hP hS (9 + 2 * (a)) (c_T_at l D cI cC cZ cT ad hI M (9 + 2 * a) (txn (by omega)) (len a) (ch a) (hN7.2.2.1 a ha).2.2.2 ((j) - (1)) (by omega)) (tx_lt (txn (by omega))) (ci := 6) (cfC_T (txn (by omega)) _) rfl k_191 k_192 k_193 k_2 k_194 1 rfl (by decide +kernel) (by decide) rfl hl.1 (Nat.le_of_ble_eq_true rfl) d_C_buildLastLetters_38 (fun v M' H locs hq hP _ _ hS => ?_)
        obtain ⟨rfl, rfl⟩ := hq
        refine W.eq (g2 := F0 m 41 ls [.int (nI (ch a ((j) - (1))))]) rfl ?_
        refine c_S (own := R_C) (index := 321) (As := [.int (nI (ch a ((j) - (1))))]) (rest := []) hx hb hml hown hg hK NXc.same hN.warm (fun _ h => h) hP hS (c_C_isLetter l D cI cC cZ cT ad hI M (ch a ((j) - (1))) (by have := la.2.2.1 (((j) - (1))) (by omega); omega) (isL (ch a ((j) - (1)))) (isL_iff _)) rfl k_492 k_493 k_1 k_494 1 rfl (by decide +kernel) (by decide) rfl hl.1 (Nat.le_of_ble_eq_true rfl) d_C_buildLastLetters_41 (fun v M' H locs hq hP _ _ hS => ?_)
        obtain ⟨rfl, rfl⟩ := hq
        refine W.eq (g2 := F0 m 44 ls [.int (bI (isL (ch a ((j) - (1)))))]) rfl ?_
        refine z_eq (t := isL (ch a ((j) - (1)))) (tgt := 53) hx hb d_C_buildLastLetters_44 (by decide) (fun c_44 => ?_) (fun c_44 => ?_)
        · have e5 : j = f9 := hrun.from_ hj hpj (Or.inr c_44)
          rw [e5] at hl
          have hl : lv_has ls 5 [(0, .ref (ad (0))), (1, .ref (ad (9 + 2 * (a)))), (2, .int (nI (e9))), (3, .int (nI (f9)))] := hl
          refine lv_aload_n hx hb d_C_buildLastLetters_53 rfl (lv_at hl 0 rfl) ?_
          refine g_get (C := R_C) (T := T_C) (N := 15) (ci := 7) (v := .ref (ad (5))) hx hb hg i_C hown hK hP 0 (by decide) rfl rfl 2 (by decide) (hg _ k_130) rfl d_C_buildLastLetters_54 ?_
          refine c_V (own := R_C) (index := 113) (As := []) (rest := []) hx hb hml hown hg hK NXc.same hN.warm (fun _ h => h) hP hS 5 (c_T_empty l D cI cC cZ cT ad hI M 5 tx5) (tx_lt tx5) (ci := 6) (cfC_T tx5 _) rfl k_183 k_184 k_185 k_2 k_186 0 rfl (by decide +kernel) (by decide) rfl hl.1 (Nat.le_of_ble_eq_true rfl) d_C_buildLastLetters_57 (fun v M_4 H locs hq hP _ _ hS => ?_)
          obtain ⟨rfl, eM_4⟩ := hq
          have hB : TT M_4 5 0 (fun i => smC (ch a (f9 + i))) := by rw [eM_4]; exact TT.emp _ _ _
          have hF : FT 5 M M_4 := hF.tr (by rw [eM_4]; exact FT.emp _ _ _)
          refine W.eq (g2 := F0 m 60 ls []) rfl ?_
          refine lv_iload_n hx hb d_C_buildLastLetters_60 rfl (lv_at hl 3 rfl) ?_
          refine lv_istore (lv' := [(4, .int (nI (f9))), (0, .ref (ad (0))), (1, .ref (ad (9 + 2 * (a)))), (2, .int (nI (e9))), (3, .int (nI (f9)))]) hx hb d_C_buildLastLetters_61 hl (by decide) rfl (fun ls hl => ?_)
          exact J63 (_ + 1) (f9) M_4 _ _ ls (Nat.lt_succ_self _) (Nat.le_refl _) (by omega) (by rw [Nat.sub_self]; exact hB) (hF) hP hS (lv_sub hl [1, 2, 3, 0] rfl)
        · have hpj9 : ∀ q, j - 1 ≤ q → q < e9 → isL (ch a q) = true := fun q h1 h2 => by
            rcases Nat.lt_or_ge q j with z | z
            · rw [show q = j - 1 by omega]; exact c_44
            · exact hpj q z h2
          refine n_dec (lv' := [(3, .int (nI (j - 1))), (0, .ref (ad (0))), (1, .ref (ad (9 + 2 * (a)))), (2, .int (nI (e9)))]) hx hb d_C_buildLastLetters_47 hl (k := 3) rfl (by omega) (by decide) rfl (fun ls hl => ?_)
          refine lv_goto (tgt := 30) hx hb d_C_buildLastLetters_50 (by decide) ?_
          exact ih30 (j - 1) _ _ ls (by omega) (by omega) (hpj9) hP hS (lv_sub hl [1, 2, 3, 0] rfl)
  have J5 : ∀ (fu5 : Nat) (i : Nat) (H : Heap) (locs : List Loc) (ls : Array Slot), i < fu5 → (i ≤ len a) → (∀ q, i ≤ q → q < len a → isL (ch a q) = false) → va_P D clsA (gw 144 ad (cfC cI cC cZ cT ad) M) H → va_S (GA 144 ad) s.heap H locs → lv_has ls 5 [(0, .ref (ad (0))), (1, .ref (ad (9 + 2 * (a)))), (2, .int (nI (i)))] → W p l e (rm_ 2 40) s m ([.ref (ad (0)), .ref (ad (9 + 2 * (a)))] : List Value).toArray below meth c H locs 0 0 (MQ below (GQ D 144 ad (cfC cI cC cZ cT ad) (fun v M' => v = none ∧ TT M' 5 (blP f9 e9) (bcP ch a f9 e9) ∧ FT 5 M M')) ([.ref (ad (0)), .ref (ad (9 + 2 * (a)))] : List Value).toArray s 0 0 (GA 144 ad)) (F0 m 5 ls []) := by
    intro fu5
    induction fu5 with
    | zero => intro i H locs ls hfu; exact absurd hfu (Nat.not_lt_zero _)
    | succ fu5 ih5 =>
      intro i H locs ls hfu5 hi hpv hP hS hl
      refine lv_iload_n hx hb d_C_buildLastLetters_5 rfl (lv_at hl 2 rfl) ?_
      refine lv_if_le (tgt := 28) hx hb d_C_buildLastLetters_6 (by decide) (fun c_6 => ?_) (fun c_6 => ?_)
      · replace c_6 : i = 0 := (nI_le0 (by omega)).mp c_6
        have e5 : i = e9 := hrun.end_ hi hpv (Or.inl c_6)
        rw [e5] at hl
        have hl : lv_has ls 5 [(0, .ref (ad (0))), (1, .ref (ad (9 + 2 * (a)))), (2, .int (nI (e9)))] := hl
        refine lv_iload_n hx hb d_C_buildLastLetters_28 rfl (lv_at hl 2 rfl) ?_
        refine lv_istore_n (lv' := [(3, .int (nI (e9))), (0, .ref (ad (0))), (1, .ref (ad (9 + 2 * (a)))), (2, .int (nI (e9)))]) hx hb d_C_buildLastLetters_29 rfl hl (by decide) rfl (fun ls hl => ?_)
        exact J30 (_ + 1) (e9) _ _ ls (Nat.lt_succ_self _) (Nat.le_refl _) (fun q h1 h2 => absurd h1 (by omega)) hP hS (lv_sub hl [1, 2, 3, 0] rfl)
      · replace c_6 : ¬ i = 0 := fun q => c_6 ((nI_le0 (by omega)).mpr q)
        refine lv_aload_n hx hb d_C_buildLastLetters_9 rfl (lv_at hl 1 rfl) ?_
        refine lv_iload_n hx hb d_C_buildLastLetters_10 rfl (lv_at hl 2 rfl) ?_
        refine n_const (k := 1) hx hb d_C_buildLastLetters_11 (by decide) ?_
        refine n_isub (a := i) (b := 1) hx hb d_C_buildLastLetters_12 (by omega) ?_
        refine c_V (own := R_C) (index := 179) (As := [.int (nI ((i) - (1)))]) (rest := []) hx hb hml hown hg hK NXc.same hN.warm (fun _ h => h) hP hS (9 + 2 * (a)) (c_T_at l D cI cC cZ cT ad hI M (9 + 2 * a) (txn (by omega)) (len a) (ch a) (hN7.2.2.1 a ha).2.2.2 ((i) - (1)) (by omega)) (tx_lt (txn (by omega))) (ci := 6) (cfC_T (txn (by omega)) _) rfl k_191 k_192 k_193 k_2 k_194 1 rfl (by decide +kernel) (by decide) rfl hl.1 (Nat.le_of_ble_eq_true rfl) d_C_buildLastLetters_13 (fun v M' H locs hq hP _ _ hS => ?_)
        obtain ⟨rfl, rfl⟩ := hq
        refine W.eq (g2 := F0 m 16 ls [.int (nI (ch a ((i) - (1))))]) rfl ?_
        refine c_S (own := R_C) (index := 321) (As := [.int (nI (ch a ((i) - (1))))]) (rest := []) hx hb hml hown hg hK NXc.same hN.warm (fun _ h => h) hP hS (c_C_isLetter l D cI cC cZ cT ad hI M (ch a ((i) - (1))) (by have := la.2.2.1 (((i) - (1))) (by omega); omega) (isL (ch a ((i) - (1)))) (isL_iff _)) rfl k_492 k_493 k_1 k_494 1 rfl (by decide +kernel) (by decide) rfl hl.1 (Nat.le_of_ble_eq_true rfl) d_C_buildLastLetters_16 (fun v M' H locs hq hP _ _ hS => ?_)
        obtain ⟨rfl, rfl⟩ := hq
        refine W.eq (g2 := F0 m 19 ls [.int (bI (isL (ch a ((i) - (1)))))]) rfl ?_
        refine z_ne (t := isL (ch a ((i) - (1)))) (tgt := 28) hx hb d_C_buildLastLetters_19 (by decide) (fun c_19 => ?_) (fun c_19 => ?_)
        · have e5 : i = e9 := hrun.end_ hi hpv (Or.inr c_19)
          rw [e5] at hl
          have hl : lv_has ls 5 [(0, .ref (ad (0))), (1, .ref (ad (9 + 2 * (a)))), (2, .int (nI (e9)))] := hl
          refine lv_iload_n hx hb d_C_buildLastLetters_28 rfl (lv_at hl 2 rfl) ?_
          refine lv_istore_n (lv' := [(3, .int (nI (e9))), (0, .ref (ad (0))), (1, .ref (ad (9 + 2 * (a)))), (2, .int (nI (e9)))]) hx hb d_C_buildLastLetters_29 rfl hl (by decide) rfl (fun ls hl => ?_)
          exact J30 (_ + 1) (e9) _ _ ls (Nat.lt_succ_self _) (Nat.le_refl _) (fun q h1 h2 => absurd h1 (by omega)) hP hS (lv_sub hl [1, 2, 3, 0] rfl)
        · have hpv9 : ∀ q, i - 1 ≤ q → q < len a → isL (ch a q) = false := fun q h1 h2 => by
            rcases Nat.lt_or_ge q i with z | z
            · rw [show q = i - 1 by omega]; exact c_19
            · exact hpv q z h2
          refine n_dec (lv' := [(2, .int (nI (i - 1))), (0, .ref (ad (0))), (1, .ref (ad (9 + 2 * (a))))]) hx hb d_C_buildLastLetters_22 hl (k := 2) rfl (by omega) (by decide) rfl (fun ls hl => ?_)
          refine lv_goto (tgt := 5) hx hb d_C_buildLastLetters_25 (by decide) ?_
          exact ih5 (i - 1) _ _ ls (by omega) (by omega) (hpv9) hP hS (lv_sub hl [1, 2, 0] rfl)
  refine lv_aload_n hx hb d_C_buildLastLetters_0 rfl (lv_at hl 1 rfl) ?_
  refine c_V (own := R_C) (index := 109) (As := []) (rest := []) hx hb hml hown hg hK NXc.same hN.warm (fun _ h => h) hP hS (9 + 2 * (a)) (c_T_length l D cI cC cZ cT ad hI M (9 + 2 * a) (txn (by omega)) (len a) (ch a) (hN7.2.2.1 a ha).2.2.2) (tx_lt (txn (by omega))) (ci := 6) (cfC_T (txn (by omega)) _) rfl k_179 k_180 k_181 k_2 k_182 0 rfl (by decide +kernel) (by decide) rfl hl.1 (Nat.le_of_ble_eq_true rfl) d_C_buildLastLetters_1 (fun v M' H locs hq hP _ _ hS => ?_)
  obtain ⟨rfl, rfl⟩ := hq
  refine W.eq (g2 := F0 m 4 ls [.int (nI (len a))]) rfl ?_
  refine lv_istore_n (lv' := [(2, .int (nI (len a))), (0, .ref (ad (0))), (1, .ref (ad (9 + 2 * (a))))]) hx hb d_C_buildLastLetters_4 rfl hl (by decide) rfl (fun ls hl => ?_)
  exact J5 (_ + 1) (len a) _ _ ls (Nat.lt_succ_self _) (Nat.le_refl _) (fun q h1 h2 => absurd h1 (by omega)) hP hS (lv_sub hl [1, 2, 0] rfl)
