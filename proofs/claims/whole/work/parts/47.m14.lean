set_option maxHeartbeats 4000000 in
set_option maxRecDepth 100000 in
theorem c_M_isLetter (l : Launch) (D : va_G) (cI cB : ClassId) (ad : Nat → Nat) (hI : GI 13 ad) (M : PM) (c9 : Nat) (hc9 : c9 < 128) : MM l D cI cB ad y_M_isLetter b_M_isLetter 1 (some .boolean) 0 0 [.int (nI (c9))] M (fun v M' => v = some (.int (bI (isL c9))) ∧ M = M') := by
  refine MC.of (by decide) (Nat.le_of_ble_eq_true rfl) ?_
  intro p e s m below meth c ls hx hb hr hml hown hg hlocks hK hN hP hS hl
  have hown : s.vm.findClass R_M = some m.cls := hown
  have hl : lv_has ls 1 [(0, .int (nI (c9)))] := hl
  refine lv_iload_n hx hb d_M_isLetter_0 rfl (lv_at hl 0 rfl) ?_
  refine n_bipush (k := 97) hx hb d_M_isLetter_1 (by decide) ?_
  refine n_lt (a := c9) (b := 97) (tgt := 12) hx hb d_M_isLetter_3 (by decide) (by omega) (by omega) (fun c_3 => ?_) (fun c_3 => ?_)
  · refine lv_iload_n hx hb d_M_isLetter_12 rfl (lv_at hl 0 rfl) ?_
    refine n_bipush (k := 65) hx hb d_M_isLetter_13 (by decide) ?_
    refine n_lt (a := c9) (b := 65) (tgt := 28) hx hb d_M_isLetter_15 (by decide) (by omega) (by omega) (fun c_15 => ?_) (fun c_15 => ?_)
    · refine n_const (k := 0) hx hb d_M_isLetter_28 (by decide) ?_
      exact r_z hx hb hr hlocks (rfl) hP hS (⟨bz0 (by first | exact (isL_iff _).mpr (by omega) | exact b_f (isL_iff _) (by omega)), rfl⟩) d_M_isLetter_29
    · refine lv_iload_n hx hb d_M_isLetter_18 rfl (lv_at hl 0 rfl) ?_
      refine n_bipush (k := 90) hx hb d_M_isLetter_19 (by decide) ?_
      refine n_gt (a := c9) (b := 90) (tgt := 28) hx hb d_M_isLetter_21 (by decide) (by omega) (by omega) (fun c_21 => ?_) (fun c_21 => ?_)
      · refine n_const (k := 0) hx hb d_M_isLetter_28 (by decide) ?_
        exact r_z hx hb hr hlocks (rfl) hP hS (⟨bz0 (by first | exact (isL_iff _).mpr (by omega) | exact b_f (isL_iff _) (by omega)), rfl⟩) d_M_isLetter_29
      · refine n_const (k := 1) hx hb d_M_isLetter_24 (by decide) ?_
        refine lv_goto (tgt := 29) hx hb d_M_isLetter_25 (by decide) ?_
        exact r_z hx hb hr hlocks (rfl) hP hS (⟨bz1 (by first | exact (isL_iff _).mpr (by omega) | exact b_f (isL_iff _) (by omega)), rfl⟩) d_M_isLetter_29
  · refine lv_iload_n hx hb d_M_isLetter_6 rfl (lv_at hl 0 rfl) ?_
    refine n_bipush (k := 122) hx hb d_M_isLetter_7 (by decide) ?_
    refine n_le (a := c9) (b := 122) (tgt := 24) hx hb d_M_isLetter_9 (by decide) (by omega) (by omega) (fun c_9 => ?_) (fun c_9 => ?_)
    · refine n_const (k := 1) hx hb d_M_isLetter_24 (by decide) ?_
      refine lv_goto (tgt := 29) hx hb d_M_isLetter_25 (by decide) ?_
      exact r_z hx hb hr hlocks (rfl) hP hS (⟨bz1 (by first | exact (isL_iff _).mpr (by omega) | exact b_f (isL_iff _) (by omega)), rfl⟩) d_M_isLetter_29
    · refine lv_iload_n hx hb d_M_isLetter_12 rfl (lv_at hl 0 rfl) ?_
      refine n_bipush (k := 65) hx hb d_M_isLetter_13 (by decide) ?_
      refine n_lt (a := c9) (b := 65) (tgt := 28) hx hb d_M_isLetter_15 (by decide) (by omega) (by omega) (fun c_15 => ?_) (fun c_15 => ?_)
      · refine n_const (k := 0) hx hb d_M_isLetter_28 (by decide) ?_
        exact r_z hx hb hr hlocks (rfl) hP hS (⟨bz0 (by first | exact (isL_iff _).mpr (by omega) | exact b_f (isL_iff _) (by omega)), rfl⟩) d_M_isLetter_29
      · refine lv_iload_n hx hb d_M_isLetter_18 rfl (lv_at hl 0 rfl) ?_
        refine n_bipush (k := 90) hx hb d_M_isLetter_19 (by decide) ?_
        refine n_gt (a := c9) (b := 90) (tgt := 28) hx hb d_M_isLetter_21 (by decide) (by omega) (by omega) (fun c_21 => ?_) (fun c_21 => ?_)
        · refine n_const (k := 0) hx hb d_M_isLetter_28 (by decide) ?_
          exact r_z hx hb hr hlocks (rfl) hP hS (⟨bz0 (by first | exact (isL_iff _).mpr (by omega) | exact b_f (isL_iff _) (by omega)), rfl⟩) d_M_isLetter_29
        · refine n_const (k := 1) hx hb d_M_isLetter_24 (by decide) ?_
          refine lv_goto (tgt := 29) hx hb d_M_isLetter_25 (by decide) ?_
          exact r_z hx hb hr hlocks (rfl) hP hS (⟨bz1 (by first | exact (isL_iff _).mpr (by omega) | exact b_f (isL_iff _) (by omega)), rfl⟩) d_M_isLetter_29

set_option maxHeartbeats 4000000 in
set_option maxRecDepth 100000 in
theorem c_M_propose_0 (l : Launch) (D : va_G) (cI cB : ClassId) (ad : Nat → Nat) (hI : GI 13 ad) (M : PM) (n : Nat) (len : Nat → Nat) (ch : Nat → Nat → Nat) (sp : Nat → Option Nat) (hR : RN M n len ch sp) (a : Nat) (ha : a < n) (f9 e9 : Nat) (hrun : RunL len ch a f9 e9) (bl9 : Nat) (hbl9 : bl9 = blP f9 e9) (bc9 : Nat → Nat) (hbc9 : bc9 = bcP ch a f9 e9) (m9 : Nat) (hm9 : m9 = min bl9 4) (r9 : Nat) (hr9 : ChP (fun j => tkP n len ch sp (clP m9 j) (ccP bc9 m9 j)) m9 r9) : MM l D cI cB ad y_M_propose b_M_propose 8 (some .int) 3 66 [.ref (ad (0)), .int (nI (a))] M (fun v M' => v = some (.int (nI (clP m9 r9))) ∧ SH M' (clP m9 r9) (ccP bc9 m9 r9) ∧ F9 M M' ∧ M' 0 0 = nI 0) := by
  refine MC.of (by decide) (Nat.le_of_ble_eq_true rfl) ?_
  intro p e s m below meth c ls hx hb hr hml hown hg hlocks hK hN hP hS hl
  have hown : s.vm.findClass R_M = some m.cls := hown
  have hl : lv_has ls 8 [(0, .ref (ad (0))), (1, .int (nI (a)))] := hl
  have hn60 : n ≤ 60 := hR.1
  have hl24 := hR.2.2.1
  have hspn := hR.2.2.2.2.1
  have hch := hR.2.2.2.2.2
  have la := hl24 a ha
  obtain ⟨r1, r2, r3, r4, r5, r6⟩ := id hrun
  have hblb : 1 ≤ bl9 ∧ bl9 ≤ 24 := by have := blP_b r1 r2 la.1; omega
  have hbcl : ∀ i, i < bl9 → bc9 i < 128 := fun i hi => by rw [hbc9]; exact bcP_lt hrun (fun i hi => by have := hch a i ha hi; omega) i (by omega)
  have hm1 : 1 ≤ m9 ∧ m9 ≤ 4 ∧ m9 ≤ bl9 := by omega
  have hble : f9 = e9 ∨ bl9 = e9 - f9 := by rw [hbl9]; unfold blP; by_cases z : f9 = e9; exact Or.inl z; rw [if_neg z]; exact Or.inr rfl
  have J272 : ∀ (fu272 : Nat) (i : Nat) (M1 : PM) (H : Heap) (locs : List Loc) (ls : Array Slot), clP m9 r9 - i < fu272 → (i ≤ clP m9 r9) → (MK M1 (clP m9 r9) (ccP bc9 m9 r9)) → (SH M1 i (ccP bc9 m9 r9)) → (F9 M M1) → (M1 0 0 = nI 0) → va_P D clsA (gw 13 ad (cfM cI cB ad) M1) H → va_S (GA 13 ad) s.heap H locs → lv_has ls 8 [(0, .ref (ad (0))), (7, .int (nI (i)))] → W p l e (rm_ 3 66) s m ([.ref (ad (0)), .int (nI (a))] : List Value).toArray below meth c H locs 0 0 (MQ below (GQ D 13 ad (cfM cI cB ad) (fun v M' => v = some (.int (nI (clP m9 r9))) ∧ SH M' (clP m9 r9) (ccP bc9 m9 r9) ∧ F9 M M' ∧ M' 0 0 = nI 0)) ([.ref (ad (0)), .int (nI (a))] : List Value).toArray s 0 0 (GA 13 ad)) (F0 m 272 ls []) := by
    intro fu272
    induction fu272 with
    | zero => intro i M1 H locs ls hfu; exact absurd hfu (Nat.not_lt_zero _)
    | succ fu272 ih272 =>
      intro i M1 H locs ls hfu272 hi hMK hSH hF h00 hP hS hl
      refine lv_iload hx hb d_M_propose_272 (lv_at hl 1 rfl) ?_
      refine lv_aload_n hx hb d_M_propose_274 rfl (lv_at hl 0 rfl) ?_
      refine g_get (C := R_M) (T := T_M) (N := 19) (ci := 8) (v := .int (M1 0 17)) hx hb hg i_M hown hK hP 0 (by decide) rfl rfl 17 (by decide) (hg _ k_810) rfl d_M_propose_275 ?_
      refine n_top (y := (nI (clP m9 r9))) (hMK.2.1) ?_
      refine n_ge (a := i) (b := clP m9 r9) (tgt := 310) hx hb d_M_propose_278 (by decide) (by have := clP_b m9 r9 (by omega); omega) (by have := clP_b m9 r9 (by omega); omega) (fun c_278 => ?_) (fun c_278 => ?_)
      · refine lv_aload_n hx hb d_M_propose_310 rfl (lv_at hl 0 rfl) ?_
        refine g_get (C := R_M) (T := T_M) (N := 19) (ci := 8) (v := .int (M1 0 14)) hx hb hg i_M hown hK hP 0 (by decide) rfl rfl 14 (by decide) (hg _ k_807) rfl d_M_propose_311 ?_
        refine n_top (y := (nI (i))) (hSH.1) ?_
        exact r_i hx hb hr hlocks hP hS (⟨by rw [show clP m9 r9 = i by omega], by have e7 : i = clP m9 r9 := (by omega); rw [e7] at hSH; exact hSH, hF, h00⟩) d_M_propose_314
      · have hclb := clP_b m9 r9 (by omega)
        have hc8 := (hMK.2.2 i (by omega)).1
        refine lv_aload_n hx hb d_M_propose_281 rfl (lv_at hl 0 rfl) ?_
        refine g_get (C := R_M) (T := T_M) (N := 19) (ci := 8) (v := .ref (ad (9))) hx hb hg i_M hown hK hP 0 (by decide) rfl rfl 13 (by decide) (hg _ k_806) rfl d_M_propose_282 ?_
        refine lv_aload_n hx hb d_M_propose_285 rfl (lv_at hl 0 rfl) ?_
        refine lv_dup hx hb d_M_propose_286 rfl ?_
        refine g_get (C := R_M) (T := T_M) (N := 19) (ci := 8) (v := .int (M1 0 14)) hx hb hg i_M hown hK hP 0 (by decide) rfl rfl 14 (by decide) (hg _ k_807) rfl d_M_propose_287 ?_
        refine n_top (y := (nI (i))) (hSH.1) ?_
        refine lv_dup_x1 hx hb d_M_propose_290 rfl rfl ?_
        refine n_const (k := 1) hx hb d_M_propose_291 (by decide) ?_
        refine n_iadd (a := i) (b := 1) hx hb d_M_propose_292 ?_
        refine g_put (C := R_M) (T := T_M) (N := 19) (ci := 8) (v := (nI ((i) + (1)))) hx hb hg i_M ty_M t_M_ok n_M hown hK hI (fun _ h => h) hP hS 0 (by decide) rfl rfl 14 (by decide) (hg _ k_807) rfl (by decide +kernel) (Nat.le_of_ble_eq_true rfl) rfl d_M_propose_293 (fun H locs hP hS => ?_)
        obtain ⟨M_1, eM_1⟩ : ∃ z : PM, z = (pu M1 0 14 ((nI ((i) + (1))))) := ⟨_, rfl⟩
        rw [← eM_1] at hP
        refine lv_aload_n hx hb d_M_propose_296 rfl (lv_at hl 0 rfl) ?_
        refine g_get (C := R_M) (T := T_M) (N := 19) (ci := 8) (v := .ref (ad (11))) hx hb hg i_M hown hK hP 0 (by decide) rfl rfl 16 (by decide) (hg _ k_809) rfl d_M_propose_297 ?_
        refine lv_iload hx hb d_M_propose_300 (lv_at hl 1 rfl) ?_
        refine g_bald hx hb hK hP 11 1 (by decide) rfl rfl (by decide) (j := i) (by omega) d_M_propose_302 ?_
        refine n_top (y := (nI ((ccP bc9 m9 r9) (i)))) (by rw [eM_1, pu_k _ _ _ _ _ (by first | decide | omega)]; exact (hMK.2.2 (i) (by omega)).2) ?_
        refine g_bast hx hb hK hI (fun _ h => h) hP hS 9 1 (by decide) (fun _ => rfl) rfl (by decide) (j := i) (by omega) (v := (nI ((ccP bc9 m9 r9) (i)))) d_M_propose_303 (fun H locs hP hS => ?_)
        obtain ⟨M_2, eM_2⟩ : ∃ z : PM, z = (pu M_1 9 (i) (vp_nar .byte (nI ((ccP bc9 m9 r9) (i))))) := ⟨_, rfl⟩
        rw [← eM_2] at hP
        have hMK : MK M_2 (clP m9 r9) (ccP bc9 m9 r9) := by rw [eM_2, eM_1]; exact ⟨hMK.1, by rw [pu_k _ _ _ _ _ (by decide), pu_j _ _ _ _ _ (by decide)]; exact hMK.2.1, fun q hq => by rw [pu_k _ _ _ _ _ (by decide), pu_k _ _ _ _ _ (by decide)]; exact hMK.2.2 q hq⟩
        have hSH : SH M_2 (i + 1) (ccP bc9 m9 r9) := by rw [eM_2, eM_1, nbb _ hc8]; exact hSH.add _ rfl
        have hF : F9 M M_2 := hF.tr (by rw [eM_2, eM_1]; exact (F9.s1 _ _).tr (F9.s2 _ _ _))
        have h00 : M_2 0 0 = nI 0 := by rw [eM_2, eM_1, pu_k _ _ _ _ _ (by decide), pu_j _ _ _ _ _ (by decide)]; exact h00
        refine n_inc (lv' := [(7, .int (nI (i + 1))), (0, .ref (ad (0)))]) hx hb d_M_propose_304 hl (k := 1) rfl (by decide) rfl (fun ls hl => ?_)
        refine lv_goto (tgt := 272) hx hb d_M_propose_307 (by decide) ?_
        exact ih272 (i + 1) M_2 _ _ ls (by omega) (by omega) (hMK) (hSH) (hF) (h00) hP hS (lv_sub hl [1, 0] rfl)
  have J199 : ∀ (fu199 : Nat) (k : Nat) (j : Nat) (t : Bool) (c6 : Nat) (M1 : PM) (H : Heap) (locs : List Loc) (ls : Array Slot), 100 - k < fu199 → (1 ≤ k ∧ k ≤ 100) → (c6 = bc9 0) → (t = true → j + 1 = m9 + k ∧ ∀ q, q < j → tkP n len ch sp (clP m9 (q)) (ccP bc9 m9 (q))) → (t = false → j ≠ 0 ∧ j ≤ m9 + 99 ∧ ¬ tkP n len ch sp (clP m9 (j - 1)) (ccP bc9 m9 (j - 1)) ∧ ∀ q, q + 1 < j → tkP n len ch sp (clP m9 (q)) (ccP bc9 m9 (q))) → (j ≠ 0 → MK M1 (clP m9 (j - 1)) (ccP bc9 m9 (j - 1))) → (SX M M1) → (M1 0 0 = nI 0) → va_P D clsA (gw 13 ad (cfM cI cB ad) M1) H → va_S (GA 13 ad) s.heap H locs → lv_has ls 8 [(0, .ref (ad (0))), (1, .int (nI (a))), (5, .int (bI (t))), (6, .int (nI (c6))), (7, .int (nI (k)))] → W p l e (rm_ 3 66) s m ([.ref (ad (0)), .int (nI (a))] : List Value).toArray below meth c H locs 0 0 (MQ below (GQ D 13 ad (cfM cI cB ad) (fun v M' => v = some (.int (nI (clP m9 r9))) ∧ SH M' (clP m9 r9) (ccP bc9 m9 r9) ∧ F9 M M' ∧ M' 0 0 = nI 0)) ([.ref (ad (0)), .int (nI (a))] : List Value).toArray s 0 0 (GA 13 ad)) (F0 m 199 ls []) := by
    intro fu199
    induction fu199 with
    | zero => intro k j t c6 M1 H locs ls hfu; exact absurd hfu (Nat.not_lt_zero _)
    | succ fu199 ih199 =>
      intro k j t c6 M1 H locs ls hfu199 hk hc6 hjt hjf hMJ hSX h00 hP hS hl
      have hR1 := hR.sx hSX
      refine lv_iload hx hb d_M_propose_199 (lv_at hl 4 rfl) ?_
      refine n_bipush (k := 99) hx hb d_M_propose_201 (by decide) ?_
      refine n_gt (a := k) (b := 99) (tgt := 264) hx hb d_M_propose_203 (by decide) (by omega) (by omega) (fun c_203 => ?_) (fun c_203 => ?_)
      · have hr8 : j ≠ 0 ∧ r9 = j - 1 := by
          cases ht0 : t with
          | true =>
            obtain ⟨z1, z2⟩ := hjt ht0
            refine ⟨by omega, hr9.uniq ⟨by omega, fun q hq => z2 q (by omega), Or.inr (by omega)⟩⟩
          | false =>
            obtain ⟨z1, z2, z3, z4⟩ := hjf ht0
            exact ⟨z1, hr9.uniq ⟨by omega, fun q hq => z4 q (by omega), Or.inl z3⟩⟩
        have hMK : MK M1 (clP m9 r9) (ccP bc9 m9 r9) := by rw [hr8.2]; exact hMJ hr8.1
        refine lv_aload_n hx hb d_M_propose_264 rfl (lv_at hl 0 rfl) ?_
        refine n_const (k := 0) hx hb d_M_propose_265 (by decide) ?_
        refine g_put (C := R_M) (T := T_M) (N := 19) (ci := 8) (v := (nI (0))) hx hb hg i_M ty_M t_M_ok n_M hown hK hI (fun _ h => h) hP hS 0 (by decide) rfl rfl 14 (by decide) (hg _ k_807) rfl (by decide +kernel) (Nat.le_of_ble_eq_true rfl) rfl d_M_propose_266 (fun H locs hP hS => ?_)
        obtain ⟨M_3, eM_3⟩ : ∃ z : PM, z = (pu M1 0 14 ((nI (0)))) := ⟨_, rfl⟩
        rw [← eM_3] at hP
        have hMK : MK M_3 (clP m9 r9) (ccP bc9 m9 r9) := by rw [eM_3]; exact ⟨hMK.1, by rw [pu_j _ _ _ _ _ (by decide)]; exact hMK.2.1, fun q hq => by rw [pu_k _ _ _ _ _ (by decide)]; exact hMK.2.2 q hq⟩
        have hSH : SH M_3 0 (ccP bc9 m9 r9) := ⟨by rw [eM_3, pu_s], fun q hq => absurd hq (Nat.not_lt_zero q)⟩
        have hF : F9 M M_3 := (F9.sx hSX).tr (by rw [eM_3]; exact F9.s1 _ _)
        have h00 : M_3 0 0 = nI 0 := by rw [eM_3, pu_j _ _ _ _ _ (by decide)]; exact h00
        have hclb := clP_b m9 r9 (by omega)
        refine n_const (k := 0) hx hb d_M_propose_269 (by decide) ?_
        refine lv_istore (lv' := [(7, .int (nI (0))), (0, .ref (ad (0))), (1, .int (nI (a))), (5, .int (bI (t))), (6, .int (nI (c6)))]) hx hb d_M_propose_270 hl (by decide) rfl (fun ls hl => ?_)
        exact J272 (_ + 1) (0) M_3 _ _ ls (Nat.lt_succ_self _) (by omega) (hMK) (hSH) (hF) (h00) hP hS (lv_sub hl [1, 0] rfl)
      · refine lv_iload hx hb d_M_propose_206 (lv_at hl 2 rfl) ?_
        refine z_eq (t := t) (tgt := 264) hx hb d_M_propose_208 (by decide) (fun c_208 => ?_) (fun c_208 => ?_)
        · have hr8 : j ≠ 0 ∧ r9 = j - 1 := by
            obtain ⟨z1, z2, z3, z4⟩ := hjf c_208
            exact ⟨z1, hr9.uniq ⟨by omega, fun q hq => z4 q (by omega), Or.inl z3⟩⟩
          have hMK : MK M1 (clP m9 r9) (ccP bc9 m9 r9) := by rw [hr8.2]; exact hMJ hr8.1
          refine lv_aload_n hx hb d_M_propose_264 rfl (lv_at hl 0 rfl) ?_
          refine n_const (k := 0) hx hb d_M_propose_265 (by decide) ?_
          refine g_put (C := R_M) (T := T_M) (N := 19) (ci := 8) (v := (nI (0))) hx hb hg i_M ty_M t_M_ok n_M hown hK hI (fun _ h => h) hP hS 0 (by decide) rfl rfl 14 (by decide) (hg _ k_807) rfl (by decide +kernel) (Nat.le_of_ble_eq_true rfl) rfl d_M_propose_266 (fun H locs hP hS => ?_)
          obtain ⟨M_4, eM_4⟩ : ∃ z : PM, z = (pu M1 0 14 ((nI (0)))) := ⟨_, rfl⟩
          rw [← eM_4] at hP
          have hMK : MK M_4 (clP m9 r9) (ccP bc9 m9 r9) := by rw [eM_4]; exact ⟨hMK.1, by rw [pu_j _ _ _ _ _ (by decide)]; exact hMK.2.1, fun q hq => by rw [pu_k _ _ _ _ _ (by decide)]; exact hMK.2.2 q hq⟩
          have hSH : SH M_4 0 (ccP bc9 m9 r9) := ⟨by rw [eM_4, pu_s], fun q hq => absurd hq (Nat.not_lt_zero q)⟩
          have hF : F9 M M_4 := (F9.sx hSX).tr (by rw [eM_4]; exact F9.s1 _ _)
          have h00 : M_4 0 0 = nI 0 := by rw [eM_4, pu_j _ _ _ _ _ (by decide)]; exact h00
          have hclb := clP_b m9 r9 (by omega)
          refine n_const (k := 0) hx hb d_M_propose_269 (by decide) ?_
          refine lv_istore (lv' := [(7, .int (nI (0))), (0, .ref (ad (0))), (1, .int (nI (a))), (5, .int (bI (t))), (6, .int (nI (c6)))]) hx hb d_M_propose_270 hl (by decide) rfl (fun ls hl => ?_)
          exact J272 (_ + 1) (0) M_4 _ _ ls (Nat.lt_succ_self _) (by omega) (hMK) (hSH) (hF) (h00) hP hS (lv_sub hl [1, 0] rfl)
        · obtain ⟨hjk0, hAll⟩ := hjt c_208
          have hjk : j - m9 + 1 = k := by omega
          have hccl := ccP_lt (m := m9) (j := j) hbcl hm9 (by omega) (by omega)
          have hc4 : ccP bc9 m9 j 0 = bc9 0 := by unfold ccP; rw [if_neg (by omega), if_pos rfl]
          refine lv_aload_n hx hb d_M_propose_211 rfl (lv_at hl 0 rfl) ?_
          refine c_V (own := R_M) (index := 72) (As := []) (rest := []) hx hb hml hown hg hK (fun _ _ _ h => h) (fun _ _ => trivial) (fun _ h => h) hP hS 0 (c_M_begin l D cI cB ad hI M1) (by decide) (ci := 8) rfl rfl k_871 k_873 k_p23 k_9 k_874 0 rfl (by decide +kernel) (by decide) rfl hl.1 (Nat.le_of_ble_eq_true rfl) d_M_propose_212 (fun v M_5 H locs hq hP _ _ hS => ?_)
          obtain ⟨rfl, eM_5⟩ := hq
          have hSX : SX M M_5 := hSX.tr (by rw [eM_5]; exact SX.begin _)
          have hMK : MK M_5 0 (ccP bc9 m9 j) := by rw [eM_5]; exact MK.begin _ _
          have h00 : M_5 0 0 = nI 0 := by rw [eM_5, pu_j _ _ _ _ _ (by decide)]; exact h00
          have hR1 := hR.sx hSX
          refine W.eq (g2 := F0 m 215 ls []) rfl ?_
          refine lv_aload_n hx hb d_M_propose_215 rfl (lv_at hl 0 rfl) ?_
          refine lv_iload hx hb d_M_propose_216 (lv_at hl 3 rfl) ?_
          refine c_V (own := R_M) (index := 75) (As := [.int (nI (c6))]) (rest := []) hx hb hml hown hg hK (fun _ _ _ h => h) (fun _ _ => trivial) (fun _ h => h) hP hS 0 (c_M_makes l D cI cB ad hI M_5 (0) (ccP bc9 m9 j) hMK (c6) (by rw [hc6]; exact hbcl 0 (by omega)) (by omega)) (by decide) (ci := 8) rfl rfl k_875 k_877 k_p24 k_9 k_878 1 rfl (by decide +kernel) (by decide) rfl hl.1 (Nat.le_of_ble_eq_true rfl) d_M_propose_218 (fun v M_6 H locs hq hP _ _ hS => ?_)
          obtain ⟨rfl, eM_6⟩ := hq
          rw [show c6 = (ccP bc9 m9 j) (0) from (by rw [hc6, hc4])] at eM_6
          have hSX : SX M M_6 := hSX.tr (by rw [eM_6]; exact SX.add _ _ _ _)
          have hMK : MK M_6 (0 + 1) (ccP bc9 m9 j) := by rw [eM_6]; exact hMK.add (by omega) (by rw [hc4]; exact hbcl 0 (by omega))
          have h00 : M_6 0 0 = nI 0 := by rw [eM_6, pu_k _ _ _ _ _ (by decide), pu_j _ _ _ _ _ (by decide)]; exact h00
          have hR1 := hR.sx hSX
          refine W.eq (g2 := F0 m 221 ls []) rfl ?_
          refine lv_iload hx hb d_M_propose_221 (lv_at hl 4 rfl) ?_
          refine n_bipush (k := 9) hx hb d_M_propose_223 (by decide) ?_
          refine n_le (a := k) (b := 9) (tgt := 240) hx hb d_M_propose_225 (by decide) (by omega) (by omega) (fun c_225 => ?_) (fun c_225 => ?_)
          · refine lv_aload_n hx hb d_M_propose_240 rfl (lv_at hl 0 rfl) ?_
            refine n_bipush (k := 48) hx hb d_M_propose_241 (by decide) ?_
            refine lv_iload hx hb d_M_propose_243 (lv_at hl 4 rfl) ?_
            refine n_bipush (k := 10) hx hb d_M_propose_245 (by decide) ?_
            refine n_irem (a := k) (b := 10) hx hb d_M_propose_247 (by omega) (by omega) (by omega) ?_
            refine n_iadd (a := 48) (b := (k) % (10)) hx hb d_M_propose_248 ?_
            refine c_V (own := R_M) (index := 75) (As := [.int (nI ((48) + ((k) % (10))))]) (rest := []) hx hb hml hown hg hK (fun _ _ _ h => h) (fun _ _ => trivial) (fun _ h => h) hP hS 0 (c_M_makes l D cI cB ad hI M_6 (0 + 1) (ccP bc9 m9 j) hMK ((48) + ((k) % (10))) (by omega) (by omega)) (by decide) (ci := 8) rfl rfl k_875 k_877 k_p24 k_9 k_878 1 rfl (by decide +kernel) (by decide) rfl hl.1 (Nat.le_of_ble_eq_true rfl) d_M_propose_249 (fun v M_7 H locs hq hP _ _ hS => ?_)
            obtain ⟨rfl, eM_7⟩ := hq
            rw [show (48) + ((k) % (10)) = (ccP bc9 m9 j) (0 + 1) from (by unfold ccP; rw [if_neg (by omega), if_neg (by omega), if_pos (by omega), hjk, Nat.mod_eq_of_lt (by omega)])] at eM_7
            have hSX : SX M M_7 := hSX.tr (by rw [eM_7]; exact SX.add _ _ _ _)
            have hMK : MK M_7 (0 + 1 + 1) (ccP bc9 m9 j) := by rw [eM_7]; exact hMK.add (by omega) (hccl _ (by unfold clP; rw [if_neg (by omega), if_pos (by omega)]; omega))
            have h00 : M_7 0 0 = nI 0 := by rw [eM_7, pu_k _ _ _ _ _ (by decide), pu_j _ _ _ _ _ (by decide)]; exact h00
            have hR1 := hR.sx hSX
            refine W.eq (g2 := F0 m 252 ls []) rfl ?_
            have hMK : MK M_7 (clP m9 j) (ccP bc9 m9 j) := by
              have e1 : clP m9 j = 0 + 1 + 1 := by unfold clP; rw [if_neg (by omega)]; first | rw [if_pos (by omega)] | rw [if_neg (by omega)]
              rw [e1]; exact hMK
            obtain ⟨o9, ho9⟩ := Fst.ex (sameT len ch (clP m9 (j)) (ccP bc9 m9 (j))) n
            obtain ⟨t9, ht8⟩ := bex (tkP n len ch sp (clP m9 (j)) (ccP bc9 m9 (j)))
            refine lv_aload_n hx hb d_M_propose_252 rfl (lv_at hl 0 rfl) ?_
            refine c_V (own := R_M) (index := 119) (As := []) (rest := []) hx hb hml hown hg hK (fun _ _ _ h => h) (fun _ _ => trivial) (fun _ h => h) hP hS 0 (c_M_isTaken l D cI cB ad hI M_7 n len ch sp hR1 (clP m9 j) (ccP bc9 m9 j) hMK o9 ho9 t9 (ht8.trans (tk_iff ho9))) (by decide) (ci := 8) rfl rfl k_954 k_956 k_p38 k_9 k_957 0 rfl (by decide +kernel) (by decide) rfl hl.1 (Nat.le_of_ble_eq_true rfl) d_M_propose_253 (fun v M' H locs hq hP _ _ hS => ?_)
            obtain ⟨rfl, rfl⟩ := hq
            refine W.eq (g2 := F0 m 256 ls [.int (bI (t9))]) rfl ?_
            refine lv_istore (lv' := [(5, .int (bI (t9))), (0, .ref (ad (0))), (1, .int (nI (a))), (6, .int (nI (c6))), (7, .int (nI (k)))]) hx hb d_M_propose_256 hl (by decide) rfl (fun ls hl => ?_)
            have hjt9 : t9 = true → j + 1 + 1 = m9 + (k + 1) ∧ ∀ q, q < j + 1 → tkP n len ch sp (clP m9 (q)) (ccP bc9 m9 (q)) := fun h => ⟨by omega, lt_S hAll (ht8.mp h)⟩
            have hjf9 : t9 = false → j + 1 ≠ 0 ∧ j + 1 ≤ m9 + 99 ∧ ¬ tkP n len ch sp (clP m9 (j + 1 - 1)) (ccP bc9 m9 (j + 1 - 1)) ∧ ∀ q, q + 1 < j + 1 → tkP n len ch sp (clP m9 (q)) (ccP bc9 m9 (q)) := fun h => ⟨by omega, by omega, fun z => (by rw [Nat.add_sub_cancel] at z; rw [ht8.mpr z] at h; cases h), fun q hq => hAll q (by omega)⟩
            refine n_inc (lv' := [(7, .int (nI (k + 1))), (5, .int (bI (t9))), (0, .ref (ad (0))), (1, .int (nI (a))), (6, .int (nI (c6)))]) hx hb d_M_propose_258 hl (k := 4) rfl (by decide) rfl (fun ls hl => ?_)
            refine lv_goto (tgt := 199) hx hb d_M_propose_261 (by decide) ?_
            exact ih199 (k + 1) (j + 1) (t9) (c6) M_7 _ _ ls (by omega) (by omega) (hc6) (hjt9) (hjf9) (fun _ => hMK) (hSX) (h00) hP hS (lv_sub hl [2, 3, 1, 4, 0] rfl)
          · refine lv_aload_n hx hb d_M_propose_228 rfl (lv_at hl 0 rfl) ?_
            refine n_bipush (k := 48) hx hb d_M_propose_229 (by decide) ?_
            refine lv_iload hx hb d_M_propose_231 (lv_at hl 4 rfl) ?_
            refine n_bipush (k := 10) hx hb d_M_propose_233 (by decide) ?_
            refine n_idiv (a := k) (b := 10) hx hb d_M_propose_235 (by omega) (by omega) (by omega) ?_
            refine n_iadd (a := 48) (b := (k) / (10)) hx hb d_M_propose_236 ?_
            refine c_V (own := R_M) (index := 75) (As := [.int (nI ((48) + ((k) / (10))))]) (rest := []) hx hb hml hown hg hK (fun _ _ _ h => h) (fun _ _ => trivial) (fun _ h => h) hP hS 0 (c_M_makes l D cI cB ad hI M_6 (0 + 1) (ccP bc9 m9 j) hMK ((48) + ((k) / (10))) (by omega) (by omega)) (by decide) (ci := 8) rfl rfl k_875 k_877 k_p24 k_9 k_878 1 rfl (by decide +kernel) (by decide) rfl hl.1 (Nat.le_of_ble_eq_true rfl) d_M_propose_237 (fun v M_8 H locs hq hP _ _ hS => ?_)
            obtain ⟨rfl, eM_8⟩ := hq
            rw [show (48) + ((k) / (10)) = (ccP bc9 m9 j) (0 + 1) from (by unfold ccP; rw [if_neg (by omega), if_neg (by omega), if_neg (by omega), if_pos rfl, hjk])] at eM_8
            have hSX : SX M M_8 := hSX.tr (by rw [eM_8]; exact SX.add _ _ _ _)
            have hMK : MK M_8 (0 + 1 + 1) (ccP bc9 m9 j) := by rw [eM_8]; exact hMK.add (by omega) (hccl _ (by unfold clP; rw [if_neg (by omega), if_neg (by omega)]; omega))
            have h00 : M_8 0 0 = nI 0 := by rw [eM_8, pu_k _ _ _ _ _ (by decide), pu_j _ _ _ _ _ (by decide)]; exact h00
            have hR1 := hR.sx hSX
            refine W.eq (g2 := F0 m 240 ls []) rfl ?_
            refine lv_aload_n hx hb d_M_propose_240 rfl (lv_at hl 0 rfl) ?_
            refine n_bipush (k := 48) hx hb d_M_propose_241 (by decide) ?_
            refine lv_iload hx hb d_M_propose_243 (lv_at hl 4 rfl) ?_
            refine n_bipush (k := 10) hx hb d_M_propose_245 (by decide) ?_
            refine n_irem (a := k) (b := 10) hx hb d_M_propose_247 (by omega) (by omega) (by omega) ?_
            refine n_iadd (a := 48) (b := (k) % (10)) hx hb d_M_propose_248 ?_
            refine c_V (own := R_M) (index := 75) (As := [.int (nI ((48) + ((k) % (10))))]) (rest := []) hx hb hml hown hg hK (fun _ _ _ h => h) (fun _ _ => trivial) (fun _ h => h) hP hS 0 (c_M_makes l D cI cB ad hI M_8 (0 + 1 + 1) (ccP bc9 m9 j) hMK ((48) + ((k) % (10))) (by omega) (by omega)) (by decide) (ci := 8) rfl rfl k_875 k_877 k_p24 k_9 k_878 1 rfl (by decide +kernel) (by decide) rfl hl.1 (Nat.le_of_ble_eq_true rfl) d_M_propose_249 (fun v M_9 H locs hq hP _ _ hS => ?_)
            obtain ⟨rfl, eM_9⟩ := hq
            rw [show (48) + ((k) % (10)) = (ccP bc9 m9 j) (0 + 1 + 1) from (by unfold ccP; rw [if_neg (by omega), if_neg (by omega), if_neg (by omega), if_neg (by omega), hjk])] at eM_9
            have hSX : SX M M_9 := hSX.tr (by rw [eM_9]; exact SX.add _ _ _ _)
            have hMK : MK M_9 (0 + 1 + 1 + 1) (ccP bc9 m9 j) := by rw [eM_9]; exact hMK.add (by omega) (hccl _ (by unfold clP; rw [if_neg (by omega), if_neg (by omega)]; omega))
            have h00 : M_9 0 0 = nI 0 := by rw [eM_9, pu_k _ _ _ _ _ (by decide), pu_j _ _ _ _ _ (by decide)]; exact h00
            have hR1 := hR.sx hSX
            refine W.eq (g2 := F0 m 252 ls []) rfl ?_
            have hMK : MK M_9 (clP m9 j) (ccP bc9 m9 j) := by
              have e1 : clP m9 j = 0 + 1 + 1 + 1 := by unfold clP; rw [if_neg (by omega)]; first | rw [if_pos (by omega)] | rw [if_neg (by omega)]
              rw [e1]; exact hMK
            obtain ⟨o9, ho9⟩ := Fst.ex (sameT len ch (clP m9 (j)) (ccP bc9 m9 (j))) n
            obtain ⟨t9, ht8⟩ := bex (tkP n len ch sp (clP m9 (j)) (ccP bc9 m9 (j)))
            refine lv_aload_n hx hb d_M_propose_252 rfl (lv_at hl 0 rfl) ?_
            refine c_V (own := R_M) (index := 119) (As := []) (rest := []) hx hb hml hown hg hK (fun _ _ _ h => h) (fun _ _ => trivial) (fun _ h => h) hP hS 0 (c_M_isTaken l D cI cB ad hI M_9 n len ch sp hR1 (clP m9 j) (ccP bc9 m9 j) hMK o9 ho9 t9 (ht8.trans (tk_iff ho9))) (by decide) (ci := 8) rfl rfl k_954 k_956 k_p38 k_9 k_957 0 rfl (by decide +kernel) (by decide) rfl hl.1 (Nat.le_of_ble_eq_true rfl) d_M_propose_253 (fun v M' H locs hq hP _ _ hS => ?_)
            obtain ⟨rfl, rfl⟩ := hq
            refine W.eq (g2 := F0 m 256 ls [.int (bI (t9))]) rfl ?_
            refine lv_istore (lv' := [(5, .int (bI (t9))), (0, .ref (ad (0))), (1, .int (nI (a))), (6, .int (nI (c6))), (7, .int (nI (k)))]) hx hb d_M_propose_256 hl (by decide) rfl (fun ls hl => ?_)
            have hjt9 : t9 = true → j + 1 + 1 = m9 + (k + 1) ∧ ∀ q, q < j + 1 → tkP n len ch sp (clP m9 (q)) (ccP bc9 m9 (q)) := fun h => ⟨by omega, lt_S hAll (ht8.mp h)⟩
            have hjf9 : t9 = false → j + 1 ≠ 0 ∧ j + 1 ≤ m9 + 99 ∧ ¬ tkP n len ch sp (clP m9 (j + 1 - 1)) (ccP bc9 m9 (j + 1 - 1)) ∧ ∀ q, q + 1 < j + 1 → tkP n len ch sp (clP m9 (q)) (ccP bc9 m9 (q)) := fun h => ⟨by omega, by omega, fun z => (by rw [Nat.add_sub_cancel] at z; rw [ht8.mpr z] at h; cases h), fun q hq => hAll q (by omega)⟩
            refine n_inc (lv' := [(7, .int (nI (k + 1))), (5, .int (bI (t9))), (0, .ref (ad (0))), (1, .int (nI (a))), (6, .int (nI (c6)))]) hx hb d_M_propose_258 hl (k := 4) rfl (by decide) rfl (fun ls hl => ?_)
            refine lv_goto (tgt := 199) hx hb d_M_propose_261 (by decide) ?_
            exact ih199 (k + 1) (j + 1) (t9) (c6) M_9 _ _ ls (by omega) (by omega) (hc6) (hjt9) (hjf9) (fun _ => hMK) (hSX) (h00) hP hS (lv_sub hl [2, 3, 1, 4, 0] rfl)
  have J90 : ∀ (fu90 : Nat) (j : Nat) (t : Bool) (M1 : PM) (H : Heap) (locs : List Loc) (ls : Array Slot), m9 - j < fu90 → (j ≤ m9) → (∀ q, q + 1 < j → tkP n len ch sp (clP m9 (q)) (ccP bc9 m9 (q))) → (t = true ↔ (j = 0 ∨ tkP n len ch sp (clP m9 (j - 1)) (ccP bc9 m9 (j - 1)))) → (j ≠ 0 → MK M1 (clP m9 (j - 1)) (ccP bc9 m9 (j - 1))) → (SX M M1) → (M1 0 0 = nI 0) → va_P D clsA (gw 13 ad (cfM cI cB ad) M1) H → va_S (GA 13 ad) s.heap H locs → lv_has ls 8 [(0, .ref (ad (0))), (1, .int (nI (a))), (3, .int (nI (f9))), (4, .int (nI ((e9) - (f9)))), (5, .int (bI (t))), (6, .int (nI (j + 1)))] → W p l e (rm_ 3 66) s m ([.ref (ad (0)), .int (nI (a))] : List Value).toArray below meth c H locs 0 0 (MQ below (GQ D 13 ad (cfM cI cB ad) (fun v M' => v = some (.int (nI (clP m9 r9))) ∧ SH M' (clP m9 r9) (ccP bc9 m9 r9) ∧ F9 M M' ∧ M' 0 0 = nI 0)) ([.ref (ad (0)), .int (nI (a))] : List Value).toArray s 0 0 (GA 13 ad)) (F0 m 90 ls []) := by
    intro fu90
    induction fu90 with
    | zero => intro j t M1 H locs ls hfu; exact absurd hfu (Nat.not_lt_zero _)
    | succ fu90 ih90 =>
      intro j t M1 H locs ls hfu90 hj hal ht hMJ hSX h00 hP hS hl
      have hR1 := hR.sx hSX
      have J124 : ∀ (fu124 : Nat) (i : Nat) (M2 : PM) (H : Heap) (locs : List Loc) (ls : Array Slot), j + 1 - i < fu124 → (j < m9) → (i ≤ j + 1) → (MK M2 i (ccP bc9 m9 j)) → (∀ q, q < j → tkP n len ch sp (clP m9 (q)) (ccP bc9 m9 (q))) → (SX M M2) → (M2 0 0 = nI 0) → va_P D clsA (gw 13 ad (cfM cI cB ad) M2) H → va_S (GA 13 ad) s.heap H locs → lv_has ls 8 [(0, .ref (ad (0))), (1, .int (nI (a))), (3, .int (nI (f9))), (4, .int (nI ((e9) - (f9)))), (6, .int (nI (j + 1))), (7, .int (nI (i)))] → W p l e (rm_ 3 66) s m ([.ref (ad (0)), .int (nI (a))] : List Value).toArray below meth c H locs 0 0 (MQ below (GQ D 13 ad (cfM cI cB ad) (fun v M' => v = some (.int (nI (clP m9 r9))) ∧ SH M' (clP m9 r9) (ccP bc9 m9 r9) ∧ F9 M M' ∧ M' 0 0 = nI 0)) ([.ref (ad (0)), .int (nI (a))] : List Value).toArray s 0 0 (GA 13 ad)) (F0 m 124 ls []) := by
        intro fu124
        induction fu124 with
        | zero => intro i M2 H locs ls hfu; exact absurd hfu (Nat.not_lt_zero _)
        | succ fu124 ih124 =>
          intro i M2 H locs ls hfu124 hjm hi hMK hAll hSX h00 hP hS hl
          have hR1 := hR.sx hSX
          have hccl := ccP_lt (m := m9) (j := j) hbcl hm9 (by omega) (by omega)
          have hcl : clP m9 j = j + 1 := by unfold clP; rw [if_pos hjm]
          have hcb : ∀ q, ccP bc9 m9 j q = bc9 q := fun q => by unfold ccP; rw [if_pos hjm]
          refine lv_iload hx hb d_M_propose_124 (lv_at hl 5 rfl) ?_
          refine lv_iload hx hb d_M_propose_126 (lv_at hl 4 rfl) ?_
          refine n_ge (a := i) (b := j + 1) (tgt := 163) hx hb d_M_propose_128 (by decide) (by omega) (by omega) (fun c_128 => ?_) (fun c_128 => ?_)
          · have hie : i = j + 1 := by omega
            rw [hie, ← hcl] at hMK
            obtain ⟨o9, ho9⟩ := Fst.ex (sameT len ch (clP m9 (j)) (ccP bc9 m9 (j))) n
            obtain ⟨t9, ht8⟩ := bex (tkP n len ch sp (clP m9 (j)) (ccP bc9 m9 (j)))
            refine lv_aload_n hx hb d_M_propose_163 rfl (lv_at hl 0 rfl) ?_
            refine c_V (own := R_M) (index := 119) (As := []) (rest := []) hx hb hml hown hg hK (fun _ _ _ h => h) (fun _ _ => trivial) (fun _ h => h) hP hS 0 (c_M_isTaken l D cI cB ad hI M2 n len ch sp hR1 (clP m9 j) (ccP bc9 m9 j) hMK o9 ho9 t9 (ht8.trans (tk_iff ho9))) (by decide) (ci := 8) rfl rfl k_954 k_956 k_p38 k_9 k_957 0 rfl (by decide +kernel) (by decide) rfl hl.1 (Nat.le_of_ble_eq_true rfl) d_M_propose_164 (fun v M' H locs hq hP _ _ hS => ?_)
            obtain ⟨rfl, rfl⟩ := hq
            refine W.eq (g2 := F0 m 167 ls [.int (bI (t9))]) rfl ?_
            refine lv_istore (lv' := [(5, .int (bI (t9))), (0, .ref (ad (0))), (1, .int (nI (a))), (3, .int (nI (f9))), (4, .int (nI ((e9) - (f9)))), (6, .int (nI (j + 1))), (7, .int (nI (i)))]) hx hb d_M_propose_167 hl (by decide) rfl (fun ls hl => ?_)
            have hal9 : ∀ q, q + 1 < j + 1 → tkP n len ch sp (clP m9 (q)) (ccP bc9 m9 (q)) := fun q hq => hAll q (by omega)
            have ht9 : t9 = true ↔ (j + 1 = 0 ∨ tkP n len ch sp (clP m9 (j + 1 - 1)) (ccP bc9 m9 (j + 1 - 1))) := by rw [ht8, Nat.add_sub_cancel]; exact ⟨fun h => Or.inr h, fun h => by rcases h with z | z; exact absurd z (by omega); exact z⟩
            refine n_inc (lv' := [(6, .int (nI (j + 1 + 1))), (5, .int (bI (t9))), (0, .ref (ad (0))), (1, .int (nI (a))), (3, .int (nI (f9))), (4, .int (nI ((e9) - (f9)))), (7, .int (nI (i)))]) hx hb d_M_propose_169 hl (k := 5) rfl (by decide) rfl (fun ls hl => ?_)
            refine lv_goto (tgt := 90) hx hb d_M_propose_172 (by decide) ?_
            exact ih90 (j + 1) (t9) M2 _ _ ls (by omega) (by omega) (hal9) (ht9) (fun _ => hMK) (hSX) (h00) hP hS (lv_sub hl [2, 3, 4, 5, 1, 0] rfl)
          · refine lv_aload_n hx hb d_M_propose_131 rfl (lv_at hl 0 rfl) ?_
            refine lv_iload hx hb d_M_propose_132 (lv_at hl 3 rfl) ?_
            refine n_ifn0 (a := (e9) - (f9)) (tgt := 142) hx hb d_M_propose_134 (by decide) (by omega) (fun c_134 => ?_) (fun c_134 => ?_)
            · refine lv_aload_n hx hb d_M_propose_142 rfl (lv_at hl 0 rfl) ?_
              refine lv_iload_n hx hb d_M_propose_143 rfl (lv_at hl 1 rfl) ?_
              refine lv_iload_n hx hb d_M_propose_144 rfl (lv_at hl 2 rfl) ?_
              refine lv_iload hx hb d_M_propose_145 (lv_at hl 5 rfl) ?_
              refine n_iadd (a := f9) (b := i) hx hb d_M_propose_147 ?_
              refine c_V (own := R_M) (index := 64) (As := [.int (nI (a)), .int (nI ((f9) + (i)))]) (rest := [.ref (ad (0))]) hx hb hml hown hg hK (fun _ _ _ h => h) (fun _ _ => trivial) (fun _ h => h) hP hS 0 (c_M_at l D cI cB ad hI M2 n len ch sp hR1 (a) ((f9) + (i)) (by omega) (by omega)) (by decide) (ci := 8) rfl rfl k_887 k_889 k_p27 k_9 k_890 2 rfl (by decide +kernel) (by decide) rfl hl.1 (Nat.le_of_ble_eq_true rfl) d_M_propose_148 (fun v M' H locs hq hP _ _ hS => ?_)
              obtain ⟨rfl, rfl⟩ := hq
              refine W.eq (g2 := F0 m 151 ls [.int (nI (ch (a) ((f9) + (i)))), .ref (ad (0))]) rfl ?_
              refine n_bipush (k := 32) hx hb d_M_propose_151 (by decide) ?_
              refine lv_ior hx hb d_M_propose_153 ?_
              refine n_top (y := (nI (smC (ch (a) ((f9) + (i)))))) (orL _ (by have := hch a (f9 + i) ha (by omega); omega) (r5 (f9 + i) (by omega) (by omega))) ?_
              refine c_V (own := R_M) (index := 75) (As := [.int (nI (smC (ch (a) ((f9) + (i)))))]) (rest := []) hx hb hml hown hg hK (fun _ _ _ h => h) (fun _ _ => trivial) (fun _ h => h) hP hS 0 (c_M_makes l D cI cB ad hI M2 (i) (ccP bc9 m9 j) hMK (smC (ch (a) ((f9) + (i)))) (by first | decide | exact smC_lt (by have := hch a (f9 + i) ha (by omega); omega)) (by omega)) (by decide) (ci := 8) rfl rfl k_875 k_877 k_p24 k_9 k_878 1 rfl (by decide +kernel) (by decide) rfl hl.1 (Nat.le_of_ble_eq_true rfl) d_M_propose_154 (fun v M_10 H locs hq hP _ _ hS => ?_)
              obtain ⟨rfl, eM_10⟩ := hq
              rw [show smC (ch (a) ((f9) + (i))) = (ccP bc9 m9 j) (i) from (by rw [hcb, hbc9]; unfold bcP; first | rw [if_pos (by omega)] | rw [if_neg (by omega)])] at eM_10
              have hSX : SX M M_10 := hSX.tr (by rw [eM_10]; exact SX.add _ _ _ _)
              have hMK : MK M_10 (i + 1) (ccP bc9 m9 j) := by rw [eM_10]; exact hMK.add (by omega) (hccl i (by omega))
              have h00 : M_10 0 0 = nI 0 := by rw [eM_10, pu_k _ _ _ _ _ (by decide), pu_j _ _ _ _ _ (by decide)]; exact h00
              have hR1 := hR.sx hSX
              refine W.eq (g2 := F0 m 157 ls []) rfl ?_
              refine n_inc (lv' := [(7, .int (nI (i + 1))), (0, .ref (ad (0))), (1, .int (nI (a))), (3, .int (nI (f9))), (4, .int (nI ((e9) - (f9)))), (6, .int (nI (j + 1)))]) hx hb d_M_propose_157 hl (k := 5) rfl (by decide) rfl (fun ls hl => ?_)
              refine lv_goto (tgt := 124) hx hb d_M_propose_160 (by decide) ?_
              exact ih124 (i + 1) M_10 _ _ ls (by omega) (by omega) (by omega) (hMK) (hAll) (hSX) (h00) hP hS (lv_sub hl [1, 2, 3, 4, 5, 0] rfl)
            · refine n_bipush (k := 110) hx hb d_M_propose_137 (by decide) ?_
              refine lv_goto (tgt := 154) hx hb d_M_propose_139 (by decide) ?_
              refine c_V (own := R_M) (index := 75) (As := [.int (nI (110))]) (rest := []) hx hb hml hown hg hK (fun _ _ _ h => h) (fun _ _ => trivial) (fun _ h => h) hP hS 0 (c_M_makes l D cI cB ad hI M2 (i) (ccP bc9 m9 j) hMK (110) (by first | decide | exact smC_lt (by have := hch a (f9 + i) ha (by omega); omega)) (by omega)) (by decide) (ci := 8) rfl rfl k_875 k_877 k_p24 k_9 k_878 1 rfl (by decide +kernel) (by decide) rfl hl.1 (Nat.le_of_ble_eq_true rfl) d_M_propose_154 (fun v M_11 H locs hq hP _ _ hS => ?_)
              obtain ⟨rfl, eM_11⟩ := hq
              rw [show 110 = (ccP bc9 m9 j) (i) from (by rw [hcb, hbc9]; unfold bcP; first | rw [if_pos (by omega)] | rw [if_neg (by omega)])] at eM_11
              have hSX : SX M M_11 := hSX.tr (by rw [eM_11]; exact SX.add _ _ _ _)
              have hMK : MK M_11 (i + 1) (ccP bc9 m9 j) := by rw [eM_11]; exact hMK.add (by omega) (hccl i (by omega))
              have h00 : M_11 0 0 = nI 0 := by rw [eM_11, pu_k _ _ _ _ _ (by decide), pu_j _ _ _ _ _ (by decide)]; exact h00
              have hR1 := hR.sx hSX
              refine W.eq (g2 := F0 m 157 ls []) rfl ?_
              refine n_inc (lv' := [(7, .int (nI (i + 1))), (0, .ref (ad (0))), (1, .int (nI (a))), (3, .int (nI (f9))), (4, .int (nI ((e9) - (f9)))), (6, .int (nI (j + 1)))]) hx hb d_M_propose_157 hl (k := 5) rfl (by decide) rfl (fun ls hl => ?_)
              refine lv_goto (tgt := 124) hx hb d_M_propose_160 (by decide) ?_
              exact ih124 (i + 1) M_11 _ _ ls (by omega) (by omega) (by omega) (hMK) (hAll) (hSX) (h00) hP hS (lv_sub hl [1, 2, 3, 4, 5, 0] rfl)
      have J114 : ∀ (b : Nat) (H : Heap) (locs : List Loc) (ls : Array Slot), (b = bl9) → (j + 1 ≤ 4) → (t = true) → va_P D clsA (gw 13 ad (cfM cI cB ad) M1) H → va_S (GA 13 ad) s.heap H locs → lv_has ls 8 [(0, .ref (ad (0))), (1, .int (nI (a))), (3, .int (nI (f9))), (4, .int (nI ((e9) - (f9)))), (5, .int (bI (t))), (6, .int (nI (j + 1)))] → W p l e (rm_ 3 66) s m ([.ref (ad (0)), .int (nI (a))] : List Value).toArray below meth c H locs 0 0 (MQ below (GQ D 13 ad (cfM cI cB ad) (fun v M' => v = some (.int (nI (clP m9 r9))) ∧ SH M' (clP m9 r9) (ccP bc9 m9 r9) ∧ F9 M M' ∧ M' 0 0 = nI 0)) ([.ref (ad (0)), .int (nI (a))] : List Value).toArray s 0 0 (GA 13 ad)) (F0 m 114 ls [.int (nI (b)), .int (nI (j + 1))]) := by
        intro b H locs ls hbb h93 htt hP hS hl
        refine n_gt (a := j + 1) (b := b) (tgt := 175) hx hb d_M_propose_114 (by decide) (by omega) (by omega) (fun c_114 => ?_) (fun c_114 => ?_)
        · have hjt : t = true → j + 1 = m9 + 1 ∧ ∀ q, q < j → tkP n len ch sp (clP m9 (q)) (ccP bc9 m9 (q)) := fun h => by
            have hjm : j = m9 := by first | omega | (rw [h] at c_98; cases c_98)
            refine ⟨by omega, fun q hq => ?_⟩
            rcases Nat.lt_or_eq_of_le (show q + 1 ≤ j from hq) with z | z
            · exact hal q z
            · rcases ht.mp h with y | y
              · omega
              · rw [show q = j - 1 by omega]; exact y
          have hjf : t = false → j ≠ 0 ∧ j ≤ m9 + 99 ∧ ¬ tkP n len ch sp (clP m9 (j - 1)) (ccP bc9 m9 (j - 1)) ∧ ∀ q, q + 1 < j → tkP n len ch sp (clP m9 (q)) (ccP bc9 m9 (q)) := fun h => by
            have h9 : ¬ (j = 0 ∨ tkP n len ch sp (clP m9 (j - 1)) (ccP bc9 m9 (j - 1))) := fun z => by rw [ht.mpr z] at h; cases h
            exact ⟨fun z => h9 (Or.inl z), by omega, fun z => h9 (Or.inr z), hal⟩
          refine lv_iload hx hb d_M_propose_175 (lv_at hl 3 rfl) ?_
          refine n_ifn0 (a := (e9) - (f9)) (tgt := 185) hx hb d_M_propose_177 (by decide) (by omega) (fun c_177 => ?_) (fun c_177 => ?_)
          · refine lv_aload_n hx hb d_M_propose_185 rfl (lv_at hl 0 rfl) ?_
            refine lv_iload_n hx hb d_M_propose_186 rfl (lv_at hl 1 rfl) ?_
            refine lv_iload_n hx hb d_M_propose_187 rfl (lv_at hl 2 rfl) ?_
            refine c_V (own := R_M) (index := 64) (As := [.int (nI (a)), .int (nI (f9))]) (rest := []) hx hb hml hown hg hK (fun _ _ _ h => h) (fun _ _ => trivial) (fun _ h => h) hP hS 0 (c_M_at l D cI cB ad hI M1 n len ch sp hR1 (a) (f9) (by omega) (by omega)) (by decide) (ci := 8) rfl rfl k_887 k_889 k_p27 k_9 k_890 2 rfl (by decide +kernel) (by decide) rfl hl.1 (Nat.le_of_ble_eq_true rfl) d_M_propose_188 (fun v M' H locs hq hP _ _ hS => ?_)
            obtain ⟨rfl, rfl⟩ := hq
            refine W.eq (g2 := F0 m 191 ls [.int (nI (ch (a) (f9)))]) rfl ?_
            refine n_bipush (k := 32) hx hb d_M_propose_191 (by decide) ?_
            refine lv_ior hx hb d_M_propose_193 ?_
            refine n_top (y := (nI (smC (ch (a) (f9))))) (orL _ (by have := hch a (f9) ha (by omega); omega) (r5 (f9) (by omega) (by omega))) ?_
            refine lv_istore (lv' := [(6, .int (nI (smC (ch (a) (f9))))), (0, .ref (ad (0))), (1, .int (nI (a))), (3, .int (nI (f9))), (4, .int (nI ((e9) - (f9)))), (5, .int (bI (t)))]) hx hb d_M_propose_194 hl (by decide) rfl (fun ls hl => ?_)
            refine n_const (k := 1) hx hb d_M_propose_196 (by decide) ?_
            refine lv_istore (lv' := [(7, .int (nI (1))), (6, .int (nI (smC (ch (a) (f9))))), (0, .ref (ad (0))), (1, .int (nI (a))), (3, .int (nI (f9))), (4, .int (nI ((e9) - (f9)))), (5, .int (bI (t)))]) hx hb d_M_propose_197 hl (by decide) rfl (fun ls hl => ?_)
            exact J199 (_ + 1) (1) (j) (t) (smC (ch (a) (f9))) M1 _ _ ls (Nat.lt_succ_self _) (by omega) (by rw [hbc9]; unfold bcP; first | rw [if_pos (by omega)] | (rw [if_neg (by omega), Nat.add_zero])) (hjt) (hjf) (hMJ) (hSX) (h00) hP hS (lv_sub hl [2, 3, 6, 1, 0] rfl)
          · refine n_bipush (k := 110) hx hb d_M_propose_180 (by decide) ?_
            refine lv_goto (tgt := 194) hx hb d_M_propose_182 (by decide) ?_
            refine lv_istore (lv' := [(6, .int (nI (110))), (0, .ref (ad (0))), (1, .int (nI (a))), (3, .int (nI (f9))), (4, .int (nI ((e9) - (f9)))), (5, .int (bI (t)))]) hx hb d_M_propose_194 hl (by decide) rfl (fun ls hl => ?_)
            refine n_const (k := 1) hx hb d_M_propose_196 (by decide) ?_
            refine lv_istore (lv' := [(7, .int (nI (1))), (6, .int (nI (110))), (0, .ref (ad (0))), (1, .int (nI (a))), (3, .int (nI (f9))), (4, .int (nI ((e9) - (f9)))), (5, .int (bI (t)))]) hx hb d_M_propose_197 hl (by decide) rfl (fun ls hl => ?_)
            exact J199 (_ + 1) (1) (j) (t) (110) M1 _ _ ls (Nat.lt_succ_self _) (by omega) (by rw [hbc9]; unfold bcP; first | rw [if_pos (by omega)] | (rw [if_neg (by omega), Nat.add_zero])) (hjt) (hjf) (hMJ) (hSX) (h00) hP hS (lv_sub hl [2, 3, 6, 1, 0] rfl)
        · have hjm : j < m9 := by omega
          have hAll : ∀ q, q < j → tkP n len ch sp (clP m9 (q)) (ccP bc9 m9 (q)) := fun q hq => by
            rcases Nat.lt_or_eq_of_le (show q + 1 ≤ j from hq) with z | z
            · exact hal q z
            · rcases ht.mp htt with y | y
              · omega
              · rw [show q = j - 1 by omega]; exact y
          refine lv_aload_n hx hb d_M_propose_117 rfl (lv_at hl 0 rfl) ?_
          refine c_V (own := R_M) (index := 72) (As := []) (rest := []) hx hb hml hown hg hK (fun _ _ _ h => h) (fun _ _ => trivial) (fun _ h => h) hP hS 0 (c_M_begin l D cI cB ad hI M1) (by decide) (ci := 8) rfl rfl k_871 k_873 k_p23 k_9 k_874 0 rfl (by decide +kernel) (by decide) rfl hl.1 (Nat.le_of_ble_eq_true rfl) d_M_propose_118 (fun v M_12 H locs hq hP _ _ hS => ?_)
          obtain ⟨rfl, eM_12⟩ := hq
          have hSX : SX M M_12 := hSX.tr (by rw [eM_12]; exact SX.begin _)
          have hMK : MK M_12 0 (ccP bc9 m9 j) := by rw [eM_12]; exact MK.begin _ _
          have h00 : M_12 0 0 = nI 0 := by rw [eM_12, pu_j _ _ _ _ _ (by decide)]; exact h00
          have hR1 := hR.sx hSX
          refine W.eq (g2 := F0 m 121 ls []) rfl ?_
          refine n_const (k := 0) hx hb d_M_propose_121 (by decide) ?_
          refine lv_istore (lv' := [(7, .int (nI (0))), (0, .ref (ad (0))), (1, .int (nI (a))), (3, .int (nI (f9))), (4, .int (nI ((e9) - (f9)))), (5, .int (bI (t))), (6, .int (nI (j + 1)))]) hx hb d_M_propose_122 hl (by decide) rfl (fun ls hl => ?_)
          exact J124 (_ + 1) (0) M_12 _ _ ls (Nat.lt_succ_self _) (by omega) (by omega) (hMK) (hAll) (hSX) (h00) hP hS (lv_sub hl [1, 2, 3, 4, 6, 0] rfl)
      refine lv_iload hx hb d_M_propose_90 (lv_at hl 5 rfl) ?_
      refine n_const (k := 4) hx hb d_M_propose_92 (by decide) ?_
      refine n_gt (a := j + 1) (b := 4) (tgt := 175) hx hb d_M_propose_93 (by decide) (by omega) (by omega) (fun c_93 => ?_) (fun c_93 => ?_)
      · have hjt : t = true → j + 1 = m9 + 1 ∧ ∀ q, q < j → tkP n len ch sp (clP m9 (q)) (ccP bc9 m9 (q)) := fun h => by
          have hjm : j = m9 := by first | omega | (rw [h] at c_98; cases c_98)
          refine ⟨by omega, fun q hq => ?_⟩
          rcases Nat.lt_or_eq_of_le (show q + 1 ≤ j from hq) with z | z
          · exact hal q z
          · rcases ht.mp h with y | y
            · omega
            · rw [show q = j - 1 by omega]; exact y
        have hjf : t = false → j ≠ 0 ∧ j ≤ m9 + 99 ∧ ¬ tkP n len ch sp (clP m9 (j - 1)) (ccP bc9 m9 (j - 1)) ∧ ∀ q, q + 1 < j → tkP n len ch sp (clP m9 (q)) (ccP bc9 m9 (q)) := fun h => by
          have h9 : ¬ (j = 0 ∨ tkP n len ch sp (clP m9 (j - 1)) (ccP bc9 m9 (j - 1))) := fun z => by rw [ht.mpr z] at h; cases h
          exact ⟨fun z => h9 (Or.inl z), by omega, fun z => h9 (Or.inr z), hal⟩
        refine lv_iload hx hb d_M_propose_175 (lv_at hl 3 rfl) ?_
        refine n_ifn0 (a := (e9) - (f9)) (tgt := 185) hx hb d_M_propose_177 (by decide) (by omega) (fun c_177 => ?_) (fun c_177 => ?_)
        · refine lv_aload_n hx hb d_M_propose_185 rfl (lv_at hl 0 rfl) ?_
          refine lv_iload_n hx hb d_M_propose_186 rfl (lv_at hl 1 rfl) ?_
          refine lv_iload_n hx hb d_M_propose_187 rfl (lv_at hl 2 rfl) ?_
          refine c_V (own := R_M) (index := 64) (As := [.int (nI (a)), .int (nI (f9))]) (rest := []) hx hb hml hown hg hK (fun _ _ _ h => h) (fun _ _ => trivial) (fun _ h => h) hP hS 0 (c_M_at l D cI cB ad hI M1 n len ch sp hR1 (a) (f9) (by omega) (by omega)) (by decide) (ci := 8) rfl rfl k_887 k_889 k_p27 k_9 k_890 2 rfl (by decide +kernel) (by decide) rfl hl.1 (Nat.le_of_ble_eq_true rfl) d_M_propose_188 (fun v M' H locs hq hP _ _ hS => ?_)
          obtain ⟨rfl, rfl⟩ := hq
          refine W.eq (g2 := F0 m 191 ls [.int (nI (ch (a) (f9)))]) rfl ?_
          refine n_bipush (k := 32) hx hb d_M_propose_191 (by decide) ?_
          refine lv_ior hx hb d_M_propose_193 ?_
          refine n_top (y := (nI (smC (ch (a) (f9))))) (orL _ (by have := hch a (f9) ha (by omega); omega) (r5 (f9) (by omega) (by omega))) ?_
          refine lv_istore (lv' := [(6, .int (nI (smC (ch (a) (f9))))), (0, .ref (ad (0))), (1, .int (nI (a))), (3, .int (nI (f9))), (4, .int (nI ((e9) - (f9)))), (5, .int (bI (t)))]) hx hb d_M_propose_194 hl (by decide) rfl (fun ls hl => ?_)
          refine n_const (k := 1) hx hb d_M_propose_196 (by decide) ?_
          refine lv_istore (lv' := [(7, .int (nI (1))), (6, .int (nI (smC (ch (a) (f9))))), (0, .ref (ad (0))), (1, .int (nI (a))), (3, .int (nI (f9))), (4, .int (nI ((e9) - (f9)))), (5, .int (bI (t)))]) hx hb d_M_propose_197 hl (by decide) rfl (fun ls hl => ?_)
          exact J199 (_ + 1) (1) (j) (t) (smC (ch (a) (f9))) M1 _ _ ls (Nat.lt_succ_self _) (by omega) (by rw [hbc9]; unfold bcP; first | rw [if_pos (by omega)] | (rw [if_neg (by omega), Nat.add_zero])) (hjt) (hjf) (hMJ) (hSX) (h00) hP hS (lv_sub hl [2, 3, 6, 1, 0] rfl)
        · refine n_bipush (k := 110) hx hb d_M_propose_180 (by decide) ?_
          refine lv_goto (tgt := 194) hx hb d_M_propose_182 (by decide) ?_
          refine lv_istore (lv' := [(6, .int (nI (110))), (0, .ref (ad (0))), (1, .int (nI (a))), (3, .int (nI (f9))), (4, .int (nI ((e9) - (f9)))), (5, .int (bI (t)))]) hx hb d_M_propose_194 hl (by decide) rfl (fun ls hl => ?_)
          refine n_const (k := 1) hx hb d_M_propose_196 (by decide) ?_
          refine lv_istore (lv' := [(7, .int (nI (1))), (6, .int (nI (110))), (0, .ref (ad (0))), (1, .int (nI (a))), (3, .int (nI (f9))), (4, .int (nI ((e9) - (f9)))), (5, .int (bI (t)))]) hx hb d_M_propose_197 hl (by decide) rfl (fun ls hl => ?_)
          exact J199 (_ + 1) (1) (j) (t) (110) M1 _ _ ls (Nat.lt_succ_self _) (by omega) (by rw [hbc9]; unfold bcP; first | rw [if_pos (by omega)] | (rw [if_neg (by omega), Nat.add_zero])) (hjt) (hjf) (hMJ) (hSX) (h00) hP hS (lv_sub hl [2, 3, 6, 1, 0] rfl)
      · refine lv_iload hx hb d_M_propose_96 (lv_at hl 4 rfl) ?_
        refine z_eq (t := t) (tgt := 175) hx hb d_M_propose_98 (by decide) (fun c_98 => ?_) (fun c_98 => ?_)
        · have hjt : t = true → j + 1 = m9 + 1 ∧ ∀ q, q < j → tkP n len ch sp (clP m9 (q)) (ccP bc9 m9 (q)) := fun h => by
            have hjm : j = m9 := by first | omega | (rw [h] at c_98; cases c_98)
            refine ⟨by omega, fun q hq => ?_⟩
            rcases Nat.lt_or_eq_of_le (show q + 1 ≤ j from hq) with z | z
            · exact hal q z
            · rcases ht.mp h with y | y
              · omega
              · rw [show q = j - 1 by omega]; exact y
          have hjf : t = false → j ≠ 0 ∧ j ≤ m9 + 99 ∧ ¬ tkP n len ch sp (clP m9 (j - 1)) (ccP bc9 m9 (j - 1)) ∧ ∀ q, q + 1 < j → tkP n len ch sp (clP m9 (q)) (ccP bc9 m9 (q)) := fun h => by
            have h9 : ¬ (j = 0 ∨ tkP n len ch sp (clP m9 (j - 1)) (ccP bc9 m9 (j - 1))) := fun z => by rw [ht.mpr z] at h; cases h
            exact ⟨fun z => h9 (Or.inl z), by omega, fun z => h9 (Or.inr z), hal⟩
          refine lv_iload hx hb d_M_propose_175 (lv_at hl 3 rfl) ?_
          refine n_ifn0 (a := (e9) - (f9)) (tgt := 185) hx hb d_M_propose_177 (by decide) (by omega) (fun c_177 => ?_) (fun c_177 => ?_)
          · refine lv_aload_n hx hb d_M_propose_185 rfl (lv_at hl 0 rfl) ?_
            refine lv_iload_n hx hb d_M_propose_186 rfl (lv_at hl 1 rfl) ?_
            refine lv_iload_n hx hb d_M_propose_187 rfl (lv_at hl 2 rfl) ?_
            refine c_V (own := R_M) (index := 64) (As := [.int (nI (a)), .int (nI (f9))]) (rest := []) hx hb hml hown hg hK (fun _ _ _ h => h) (fun _ _ => trivial) (fun _ h => h) hP hS 0 (c_M_at l D cI cB ad hI M1 n len ch sp hR1 (a) (f9) (by omega) (by omega)) (by decide) (ci := 8) rfl rfl k_887 k_889 k_p27 k_9 k_890 2 rfl (by decide +kernel) (by decide) rfl hl.1 (Nat.le_of_ble_eq_true rfl) d_M_propose_188 (fun v M' H locs hq hP _ _ hS => ?_)
            obtain ⟨rfl, rfl⟩ := hq
            refine W.eq (g2 := F0 m 191 ls [.int (nI (ch (a) (f9)))]) rfl ?_
            refine n_bipush (k := 32) hx hb d_M_propose_191 (by decide) ?_
            refine lv_ior hx hb d_M_propose_193 ?_
            refine n_top (y := (nI (smC (ch (a) (f9))))) (orL _ (by have := hch a (f9) ha (by omega); omega) (r5 (f9) (by omega) (by omega))) ?_
            refine lv_istore (lv' := [(6, .int (nI (smC (ch (a) (f9))))), (0, .ref (ad (0))), (1, .int (nI (a))), (3, .int (nI (f9))), (4, .int (nI ((e9) - (f9)))), (5, .int (bI (t)))]) hx hb d_M_propose_194 hl (by decide) rfl (fun ls hl => ?_)
            refine n_const (k := 1) hx hb d_M_propose_196 (by decide) ?_
            refine lv_istore (lv' := [(7, .int (nI (1))), (6, .int (nI (smC (ch (a) (f9))))), (0, .ref (ad (0))), (1, .int (nI (a))), (3, .int (nI (f9))), (4, .int (nI ((e9) - (f9)))), (5, .int (bI (t)))]) hx hb d_M_propose_197 hl (by decide) rfl (fun ls hl => ?_)
            exact J199 (_ + 1) (1) (j) (t) (smC (ch (a) (f9))) M1 _ _ ls (Nat.lt_succ_self _) (by omega) (by rw [hbc9]; unfold bcP; first | rw [if_pos (by omega)] | (rw [if_neg (by omega), Nat.add_zero])) (hjt) (hjf) (hMJ) (hSX) (h00) hP hS (lv_sub hl [2, 3, 6, 1, 0] rfl)
          · refine n_bipush (k := 110) hx hb d_M_propose_180 (by decide) ?_
            refine lv_goto (tgt := 194) hx hb d_M_propose_182 (by decide) ?_
            refine lv_istore (lv' := [(6, .int (nI (110))), (0, .ref (ad (0))), (1, .int (nI (a))), (3, .int (nI (f9))), (4, .int (nI ((e9) - (f9)))), (5, .int (bI (t)))]) hx hb d_M_propose_194 hl (by decide) rfl (fun ls hl => ?_)
            refine n_const (k := 1) hx hb d_M_propose_196 (by decide) ?_
            refine lv_istore (lv' := [(7, .int (nI (1))), (6, .int (nI (110))), (0, .ref (ad (0))), (1, .int (nI (a))), (3, .int (nI (f9))), (4, .int (nI ((e9) - (f9)))), (5, .int (bI (t)))]) hx hb d_M_propose_197 hl (by decide) rfl (fun ls hl => ?_)
            exact J199 (_ + 1) (1) (j) (t) (110) M1 _ _ ls (Nat.lt_succ_self _) (by omega) (by rw [hbc9]; unfold bcP; first | rw [if_pos (by omega)] | (rw [if_neg (by omega), Nat.add_zero])) (hjt) (hjf) (hMJ) (hSX) (h00) hP hS (lv_sub hl [2, 3, 6, 1, 0] rfl)
        · have htt := c_98
          refine lv_iload hx hb d_M_propose_101 (lv_at hl 5 rfl) ?_
          refine lv_iload hx hb d_M_propose_103 (lv_at hl 3 rfl) ?_
          refine n_ifn0 (a := (e9) - (f9)) (tgt := 112) hx hb d_M_propose_105 (by decide) (by omega) (fun c_105 => ?_) (fun c_105 => ?_)
          · refine lv_iload hx hb d_M_propose_112 (lv_at hl 3 rfl) ?_
            exact J114 ((e9) - (f9)) _ _ ls (by rw [hbl9]; unfold blP; rw [if_neg (by omega)]) (by omega) (htt) hP hS (lv_sub hl [0, 1, 2, 3, 4, 5] rfl)
          · refine n_const (k := 1) hx hb d_M_propose_108 (by decide) ?_
            refine lv_goto (tgt := 114) hx hb d_M_propose_109 (by decide) ?_
            exact J114 (1) _ _ ls (by rw [hbl9]; unfold blP; rw [if_pos (by omega)]) (by omega) (htt) hP hS (lv_sub hl [0, 1, 2, 3, 4, 5] rfl)
  have J55 : ∀ (fu55 : Nat) (j : Nat) (M1 : PM) (H : Heap) (locs : List Loc) (ls : Array Slot), j < fu55 → (j ≤ e9) → (∀ q, j ≤ q → q < e9 → isL (ch a q) = true) → (SX M M1) → (M1 0 0 = nI 0) → va_P D clsA (gw 13 ad (cfM cI cB ad) M1) H → va_S (GA 13 ad) s.heap H locs → lv_has ls 8 [(0, .ref (ad (0))), (1, .int (nI (a))), (2, .int (nI (e9))), (3, .int (nI (j)))] → W p l e (rm_ 3 66) s m ([.ref (ad (0)), .int (nI (a))] : List Value).toArray below meth c H locs 0 0 (MQ below (GQ D 13 ad (cfM cI cB ad) (fun v M' => v = some (.int (nI (clP m9 r9))) ∧ SH M' (clP m9 r9) (ccP bc9 m9 r9) ∧ F9 M M' ∧ M' 0 0 = nI 0)) ([.ref (ad (0)), .int (nI (a))] : List Value).toArray s 0 0 (GA 13 ad)) (F0 m 55 ls []) := by
    intro fu55
    induction fu55 with
    | zero => intro j M1 H locs ls hfu; exact absurd hfu (Nat.not_lt_zero _)
    | succ fu55 ih55 =>
      intro j M1 H locs ls hfu55 hj hpj hSX h00 hP hS hl
      have hR1 := hR.sx hSX
      refine lv_iload_n hx hb d_M_propose_55 rfl (lv_at hl 3 rfl) ?_
      refine lv_if_le (tgt := 79) hx hb d_M_propose_56 (by decide) (fun c_56 => ?_) (fun c_56 => ?_)
      · replace c_56 : j = 0 := (nI_le0 (by omega)).mp c_56
        have e5 : j = f9 := hrun.from_ hj hpj (Or.inl c_56)
        rw [e5] at hl
        have hl : lv_has ls 8 [(0, .ref (ad (0))), (1, .int (nI (a))), (2, .int (nI (e9))), (3, .int (nI (f9)))] := hl
        refine lv_iload_n hx hb d_M_propose_79 rfl (lv_at hl 2 rfl) ?_
        refine lv_iload_n hx hb d_M_propose_80 rfl (lv_at hl 3 rfl) ?_
        refine n_isub (a := e9) (b := f9) hx hb d_M_propose_81 (by omega) ?_
        refine lv_istore (lv' := [(4, .int (nI ((e9) - (f9)))), (0, .ref (ad (0))), (1, .int (nI (a))), (2, .int (nI (e9))), (3, .int (nI (f9)))]) hx hb d_M_propose_82 hl (by decide) rfl (fun ls hl => ?_)
        refine n_const (k := 1) hx hb d_M_propose_84 (by decide) ?_
        refine lv_istore (lv' := [(5, .int (nI (1))), (4, .int (nI ((e9) - (f9)))), (0, .ref (ad (0))), (1, .int (nI (a))), (2, .int (nI (e9))), (3, .int (nI (f9)))]) hx hb d_M_propose_85 hl (by decide) rfl (fun ls hl => ?_)
        refine n_const (k := 1) hx hb d_M_propose_87 (by decide) ?_
        refine lv_istore (lv' := [(6, .int (nI (1))), (5, .int (nI (1))), (4, .int (nI ((e9) - (f9)))), (0, .ref (ad (0))), (1, .int (nI (a))), (2, .int (nI (e9))), (3, .int (nI (f9)))]) hx hb d_M_propose_88 hl (by decide) rfl (fun ls hl => ?_)
        exact J90 (_ + 1) (0) (true) M1 _ _ ls (Nat.lt_succ_self _) (by omega) (fun q h => absurd h (by omega)) (⟨fun _ => Or.inl rfl, fun _ => rfl⟩) (fun h => absurd rfl h) (hSX) (h00) hP hS (lv_sub hl [3, 4, 6, 2, 1, 0] rfl)
      · replace c_56 : ¬ j = 0 := fun q => c_56 ((nI_le0 (by omega)).mpr q)
        refine lv_aload_n hx hb d_M_propose_59 rfl (lv_at hl 0 rfl) ?_
        refine lv_iload_n hx hb d_M_propose_60 rfl (lv_at hl 1 rfl) ?_
        refine lv_iload_n hx hb d_M_propose_61 rfl (lv_at hl 3 rfl) ?_
        refine n_const (k := 1) hx hb d_M_propose_62 (by decide) ?_
        refine n_isub (a := j) (b := 1) hx hb d_M_propose_63 (by omega) ?_
        refine c_V (own := R_M) (index := 64) (As := [.int (nI (a)), .int (nI ((j) - (1)))]) (rest := []) hx hb hml hown hg hK (fun _ _ _ h => h) (fun _ _ => trivial) (fun _ h => h) hP hS 0 (c_M_at l D cI cB ad hI M1 n len ch sp hR1 (a) ((j) - (1)) (by omega) (by omega)) (by decide) (ci := 8) rfl rfl k_887 k_889 k_p27 k_9 k_890 2 rfl (by decide +kernel) (by decide) rfl hl.1 (Nat.le_of_ble_eq_true rfl) d_M_propose_64 (fun v M' H locs hq hP _ _ hS => ?_)
        obtain ⟨rfl, rfl⟩ := hq
        refine W.eq (g2 := F0 m 67 ls [.int (nI (ch (a) ((j) - (1))))]) rfl ?_
        refine c_S (own := R_M) (index := 116) (As := [.int (nI (ch (a) ((j) - (1))))]) (rest := []) hx hb hml hown hg hK (fun _ _ _ h => h) (fun _ _ => trivial) (fun _ h => h) hP hS (c_M_isLetter l D cI cB ad hI M1 (ch (a) ((j) - (1))) (by have := hch a (((j) - (1))) ha (by omega); omega)) rfl k_951 k_952 k_9 k_953 1 rfl (by decide +kernel) (by decide) rfl hl.1 (Nat.le_of_ble_eq_true rfl) d_M_propose_67 (fun v M' H locs hq hP _ _ hS => ?_)
        obtain ⟨rfl, rfl⟩ := hq
        refine W.eq (g2 := F0 m 70 ls [.int (bI (isL (ch (a) ((j) - (1)))))]) rfl ?_
        refine z_eq (t := isL (ch (a) ((j) - (1)))) (tgt := 79) hx hb d_M_propose_70 (by decide) (fun c_70 => ?_) (fun c_70 => ?_)
        · have e5 : j = f9 := hrun.from_ hj hpj (Or.inr c_70)
          rw [e5] at hl
          have hl : lv_has ls 8 [(0, .ref (ad (0))), (1, .int (nI (a))), (2, .int (nI (e9))), (3, .int (nI (f9)))] := hl
          refine lv_iload_n hx hb d_M_propose_79 rfl (lv_at hl 2 rfl) ?_
          refine lv_iload_n hx hb d_M_propose_80 rfl (lv_at hl 3 rfl) ?_
          refine n_isub (a := e9) (b := f9) hx hb d_M_propose_81 (by omega) ?_
          refine lv_istore (lv' := [(4, .int (nI ((e9) - (f9)))), (0, .ref (ad (0))), (1, .int (nI (a))), (2, .int (nI (e9))), (3, .int (nI (f9)))]) hx hb d_M_propose_82 hl (by decide) rfl (fun ls hl => ?_)
          refine n_const (k := 1) hx hb d_M_propose_84 (by decide) ?_
          refine lv_istore (lv' := [(5, .int (nI (1))), (4, .int (nI ((e9) - (f9)))), (0, .ref (ad (0))), (1, .int (nI (a))), (2, .int (nI (e9))), (3, .int (nI (f9)))]) hx hb d_M_propose_85 hl (by decide) rfl (fun ls hl => ?_)
          refine n_const (k := 1) hx hb d_M_propose_87 (by decide) ?_
          refine lv_istore (lv' := [(6, .int (nI (1))), (5, .int (nI (1))), (4, .int (nI ((e9) - (f9)))), (0, .ref (ad (0))), (1, .int (nI (a))), (2, .int (nI (e9))), (3, .int (nI (f9)))]) hx hb d_M_propose_88 hl (by decide) rfl (fun ls hl => ?_)
          exact J90 (_ + 1) (0) (true) M1 _ _ ls (Nat.lt_succ_self _) (by omega) (fun q h => absurd h (by omega)) (⟨fun _ => Or.inl rfl, fun _ => rfl⟩) (fun h => absurd rfl h) (hSX) (h00) hP hS (lv_sub hl [3, 4, 6, 2, 1, 0] rfl)
        · have hpj9 : ∀ q, j - 1 ≤ q → q < e9 → isL (ch a q) = true := fun q h1 h2 => by
            rcases Nat.lt_or_ge q j with z | z
            · rw [show q = j - 1 by omega]; exact c_70
            · exact hpj q z h2
          refine n_dec (lv' := [(3, .int (nI (j - 1))), (0, .ref (ad (0))), (1, .int (nI (a))), (2, .int (nI (e9)))]) hx hb d_M_propose_73 hl (k := 3) rfl (by omega) (by decide) rfl (fun ls hl => ?_)
          refine lv_goto (tgt := 55) hx hb d_M_propose_76 (by decide) ?_
          exact ih55 (j - 1) M1 _ _ ls (by omega) (by omega) (hpj9) (hSX) (h00) hP hS (lv_sub hl [1, 2, 3, 0] rfl)
  have J29 : ∀ (fu29 : Nat) (i : Nat) (M1 : PM) (H : Heap) (locs : List Loc) (ls : Array Slot), i < fu29 → (i ≤ len a) → (∀ q, i ≤ q → q < len a → isL (ch a q) = false) → (SX M M1) → (M1 0 0 = nI 0) → va_P D clsA (gw 13 ad (cfM cI cB ad) M1) H → va_S (GA 13 ad) s.heap H locs → lv_has ls 8 [(0, .ref (ad (0))), (1, .int (nI (a))), (2, .int (nI (i)))] → W p l e (rm_ 3 66) s m ([.ref (ad (0)), .int (nI (a))] : List Value).toArray below meth c H locs 0 0 (MQ below (GQ D 13 ad (cfM cI cB ad) (fun v M' => v = some (.int (nI (clP m9 r9))) ∧ SH M' (clP m9 r9) (ccP bc9 m9 r9) ∧ F9 M M' ∧ M' 0 0 = nI 0)) ([.ref (ad (0)), .int (nI (a))] : List Value).toArray s 0 0 (GA 13 ad)) (F0 m 29 ls []) := by
    intro fu29
    induction fu29 with
    | zero => intro i M1 H locs ls hfu; exact absurd hfu (Nat.not_lt_zero _)
    | succ fu29 ih29 =>
      intro i M1 H locs ls hfu29 hi hpv hSX h00 hP hS hl
      have hR1 := hR.sx hSX
      refine lv_iload_n hx hb d_M_propose_29 rfl (lv_at hl 2 rfl) ?_
      refine lv_if_le (tgt := 53) hx hb d_M_propose_30 (by decide) (fun c_30 => ?_) (fun c_30 => ?_)
      · replace c_30 : i = 0 := (nI_le0 (by omega)).mp c_30
        have e5 : i = e9 := hrun.end_ hi hpv (Or.inl c_30)
        rw [e5] at hl
        have hl : lv_has ls 8 [(0, .ref (ad (0))), (1, .int (nI (a))), (2, .int (nI (e9)))] := hl
        refine lv_iload_n hx hb d_M_propose_53 rfl (lv_at hl 2 rfl) ?_
        refine lv_istore_n (lv' := [(3, .int (nI (e9))), (0, .ref (ad (0))), (1, .int (nI (a))), (2, .int (nI (e9)))]) hx hb d_M_propose_54 rfl hl (by decide) rfl (fun ls hl => ?_)
        exact J55 (_ + 1) (e9) M1 _ _ ls (Nat.lt_succ_self _) (Nat.le_refl _) (fun q h1 h2 => absurd h1 (by omega)) (hSX) (h00) hP hS (lv_sub hl [1, 2, 3, 0] rfl)
      · replace c_30 : ¬ i = 0 := fun q => c_30 ((nI_le0 (by omega)).mpr q)
        refine lv_aload_n hx hb d_M_propose_33 rfl (lv_at hl 0 rfl) ?_
        refine lv_iload_n hx hb d_M_propose_34 rfl (lv_at hl 1 rfl) ?_
        refine lv_iload_n hx hb d_M_propose_35 rfl (lv_at hl 2 rfl) ?_
        refine n_const (k := 1) hx hb d_M_propose_36 (by decide) ?_
        refine n_isub (a := i) (b := 1) hx hb d_M_propose_37 (by omega) ?_
        refine c_V (own := R_M) (index := 64) (As := [.int (nI (a)), .int (nI ((i) - (1)))]) (rest := []) hx hb hml hown hg hK (fun _ _ _ h => h) (fun _ _ => trivial) (fun _ h => h) hP hS 0 (c_M_at l D cI cB ad hI M1 n len ch sp hR1 (a) ((i) - (1)) (by omega) (by omega)) (by decide) (ci := 8) rfl rfl k_887 k_889 k_p27 k_9 k_890 2 rfl (by decide +kernel) (by decide) rfl hl.1 (Nat.le_of_ble_eq_true rfl) d_M_propose_38 (fun v M' H locs hq hP _ _ hS => ?_)
        obtain ⟨rfl, rfl⟩ := hq
        refine W.eq (g2 := F0 m 41 ls [.int (nI (ch (a) ((i) - (1))))]) rfl ?_
        refine c_S (own := R_M) (index := 116) (As := [.int (nI (ch (a) ((i) - (1))))]) (rest := []) hx hb hml hown hg hK (fun _ _ _ h => h) (fun _ _ => trivial) (fun _ h => h) hP hS (c_M_isLetter l D cI cB ad hI M1 (ch (a) ((i) - (1))) (by have := hch a (((i) - (1))) ha (by omega); omega)) rfl k_951 k_952 k_9 k_953 1 rfl (by decide +kernel) (by decide) rfl hl.1 (Nat.le_of_ble_eq_true rfl) d_M_propose_41 (fun v M' H locs hq hP _ _ hS => ?_)
        obtain ⟨rfl, rfl⟩ := hq
        refine W.eq (g2 := F0 m 44 ls [.int (bI (isL (ch (a) ((i) - (1)))))]) rfl ?_
        refine z_ne (t := isL (ch (a) ((i) - (1)))) (tgt := 53) hx hb d_M_propose_44 (by decide) (fun c_44 => ?_) (fun c_44 => ?_)
        · have e5 : i = e9 := hrun.end_ hi hpv (Or.inr c_44)
          rw [e5] at hl
          have hl : lv_has ls 8 [(0, .ref (ad (0))), (1, .int (nI (a))), (2, .int (nI (e9)))] := hl
          refine lv_iload_n hx hb d_M_propose_53 rfl (lv_at hl 2 rfl) ?_
          refine lv_istore_n (lv' := [(3, .int (nI (e9))), (0, .ref (ad (0))), (1, .int (nI (a))), (2, .int (nI (e9)))]) hx hb d_M_propose_54 rfl hl (by decide) rfl (fun ls hl => ?_)
          exact J55 (_ + 1) (e9) M1 _ _ ls (Nat.lt_succ_self _) (Nat.le_refl _) (fun q h1 h2 => absurd h1 (by omega)) (hSX) (h00) hP hS (lv_sub hl [1, 2, 3, 0] rfl)
        · have hpv9 : ∀ q, i - 1 ≤ q → q < len a → isL (ch a q) = false := fun q h1 h2 => by
            rcases Nat.lt_or_ge q i with z | z
            · rw [show q = i - 1 by omega]; exact c_44
            · exact hpv q z h2
          refine n_dec (lv' := [(2, .int (nI (i - 1))), (0, .ref (ad (0))), (1, .int (nI (a)))]) hx hb d_M_propose_47 hl (k := 2) rfl (by omega) (by decide) rfl (fun ls hl => ?_)
          refine lv_goto (tgt := 29) hx hb d_M_propose_50 (by decide) ?_
          exact ih29 (i - 1) M1 _ _ ls (by omega) (by omega) (hpv9) (hSX) (h00) hP hS (lv_sub hl [1, 2, 0] rfl)
  refine lv_aload_n hx hb d_M_propose_0 rfl (lv_at hl 0 rfl) ?_
  refine lv_aload_n hx hb d_M_propose_1 rfl (lv_at hl 0 rfl) ?_
  refine lv_iload_n hx hb d_M_propose_2 rfl (lv_at hl 1 rfl) ?_
  refine c_V (own := R_M) (index := 89) (As := [.int (nI (a))]) (rest := [.ref (ad (0))]) hx hb hml hown hg hK (fun _ _ _ h => h) (fun _ _ => trivial) (fun _ h => h) hP hS 0 (c_M_no l D cI cB ad hI M n len ch sp hR (nI (a)) false (no_f (by omega))) (by decide) (ci := 8) rfl rfl k_907 k_909 k_p30 k_9 k_910 1 rfl (by decide +kernel) (by decide) rfl hl.1 (Nat.le_of_ble_eq_true rfl) d_M_propose_3 (fun v M' H locs hq hP _ _ hS => ?_)
  obtain ⟨rfl, rfl⟩ := hq
  refine W.eq (g2 := F0 m 6 ls [.int (bI (false)), .ref (ad (0))]) rfl ?_
  refine z_eq (t := false) (tgt := 13) hx hb d_M_propose_6 (by decide) (fun _ => ?_) (fun h9 => absurd h9 (by decide))
  refine n_const (k := 0) hx hb d_M_propose_13 (by decide) ?_
  refine c_V (own := R_M) (index := 57) (As := [.int (nI (0))]) (rest := []) hx hb hml hown hg hK (fun _ _ _ h => h) (fun _ _ => trivial) (fun _ h => h) hP hS 0 (c_M_refuses l D cI cB ad hI M (0) (by decide)) (by decide) (ci := 8) rfl rfl k_859 k_861 k_p22 k_9 k_862 1 rfl (by decide +kernel) (by decide) rfl hl.1 (Nat.le_of_ble_eq_true rfl) d_M_propose_14 (fun v M_13 H locs hq hP _ _ hS => ?_)
  obtain ⟨rfl, eM_13⟩ := hq
  have hR1 := hR.sx (SX.thr M (nI 0))
  rw [← eM_13] at hR1
  refine W.eq (g2 := F0 m 17 ls [.int (bI (false))]) rfl ?_
  refine z_eq (t := false) (tgt := 22) hx hb d_M_propose_17 (by decide) (fun _ => ?_) (fun h9 => absurd h9 (by decide))
  refine lv_aload_n hx hb d_M_propose_22 rfl (lv_at hl 0 rfl) ?_
  refine g_get (C := R_M) (T := T_M) (N := 19) (ci := 8) (v := .ref (ad (3))) hx hb hg i_M hown hK hP 0 (by decide) rfl rfl 4 (by decide) (hg _ k_797) rfl d_M_propose_23 ?_
  refine lv_iload_n hx hb d_M_propose_26 rfl (lv_at hl 1 rfl) ?_
  refine g_iald hx hb hK hP 3 0 (by decide) rfl rfl (by decide) (j := a) (by omega) d_M_propose_27 ?_
  refine n_top (y := (nI (len (a)))) (by rw [eM_13, pu_k _ _ _ _ _ (by first | decide | omega)]; exact (hR.2.2.1 (a) (by omega)).2.2) ?_
  refine lv_istore_n (lv' := [(2, .int (nI (len (a)))), (0, .ref (ad (0))), (1, .int (nI (a)))]) hx hb d_M_propose_28 rfl hl (by decide) rfl (fun ls hl => ?_)
  have hSX : SX M M_13 := by rw [eM_13]; exact SX.thr _ _
  have h00 : M_13 0 0 = nI 0 := by rw [eM_13, pu_s]
  exact J29 (_ + 1) (len (a)) M_13 _ _ ls (Nat.lt_succ_self _) (Nat.le_refl _) (fun q h1 h2 => absurd h1 (by omega)) (hSX) (h00) hP hS (lv_sub hl [1, 2, 0] rfl)
