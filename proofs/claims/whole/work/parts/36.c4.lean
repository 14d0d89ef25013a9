set_option maxHeartbeats 4000000 in
set_option maxRecDepth 100000 in
theorem c_T_canBeShort (l : Launch) (D : va_G) (cI cC cZ cT : ClassId) (ad : Nat → Nat) (hI : GI 144 ad) (M : PM) (t : Nat) (ht : tx t) (sl : Nat) (sc : Nat → Nat) (hT : TT M t sl sc) (hs1 : 1 ≤ sl) (b9 : Bool) (hb9 : b9 = true ↔ (sl ≤ 4 ∧ smB (sc 0) ∧ ∀ i, 1 ≤ i → i < sl → smB (sc i) ∨ dgB (sc i))) : MD l D cI cC cZ cT ad y_T_canBeShort b_T_canBeShort 2 (some .boolean) 1 21 [.ref (ad (t))] M (fun v M' => v = some (.int (bI (b9))) ∧ M = M') := by
  refine MC.of (by decide) (Nat.le_of_ble_eq_true rfl) ?_
  intro p e s m below meth c ls hx hb hr hml hown hg hlocks hK hN hP hS hl
  have hown : s.vm.findClass R_T = some m.cls := hown
  have hl : lv_has ls 2 [(0, .ref (ad (t)))] := hl
  have hcap := hT.1
  have hc49 := capT_24 t
  have hs00 := (hT.2.2 0 (by omega)).1
  have J23 : ∀ (fu23 : Nat) (i : Nat) (H : Heap) (locs : List Loc) (ls : Array Slot), sl - i < fu23 → (1 ≤ i) → (i ≤ sl) → (sl ≤ 4) → (smB (sc 0)) → (∀ q, 1 ≤ q → q < i → smB (sc q) ∨ dgB (sc q)) → va_P D clsA (gw 144 ad (cfC cI cC cZ cT ad) M) H → va_S (GA 144 ad) s.heap H locs → lv_has ls 2 [(0, .ref (ad (t))), (1, .int (nI (i)))] → W p l e (rm_ 1 21) s m ([.ref (ad (t))] : List Value).toArray below meth c H locs 0 0 (MQ below (GQ D 144 ad (cfC cI cC cZ cT ad) (fun v M' => v = some (.int (bI (b9))) ∧ M = M')) ([.ref (ad (t))] : List Value).toArray s 0 0 (GA 144 ad)) (F0 m 23 ls []) := by
    intro fu23
    induction fu23 with
    | zero => intro i H locs ls hfu; exact absurd hfu (Nat.not_lt_zero _)
    | succ fu23 ih23 =>
      intro i H locs ls hfu23 h1 hi h4 hs0 hpv hP hS hl
      refine lv_iload_n hx hb d_T_canBeShort_23 rfl (lv_at hl 1 rfl) ?_
      refine lv_aload_n hx hb d_T_canBeShort_24 rfl (lv_at hl 0 rfl) ?_
      refine g_get (C := R_T) (T := T_T) (N := 2) (ci := 6) (v := .int (M t 1)) hx hb hg i_T hown hK hP t (tx_lt ht) (cfC_T ht _) rfl 1 (by decide) (hg _ k_33) rfl d_T_canBeShort_25 ?_
      refine n_top (y := (nI (sl))) (hT.2.1) ?_
      refine n_ge (a := i) (b := sl) (tgt := 63) hx hb d_T_canBeShort_28 (by decide) (by omega) (by omega) (fun c_28 => ?_) (fun c_28 => ?_)
      · have h9 : b9 = true := hb9.mpr ⟨h4, hs0, fun q g1 g2 => hpv q g1 (by omega)⟩
        refine n_const (k := 1) hx hb d_T_canBeShort_63 (by decide) ?_
        exact r_z hx hb hr hlocks (rfl) hP hS (⟨bz1 (h9), rfl⟩) d_T_canBeShort_64
      · have hsi := (hT.2.2 i (by omega)).1
        refine lv_aload_n hx hb d_T_canBeShort_31 rfl (lv_at hl 0 rfl) ?_
        refine g_get (C := R_T) (T := T_T) (N := 2) (ci := 6) (v := .ref (ad (t + 1))) hx hb hg i_T hown hK hP t (tx_lt ht) (cfC_T ht _) rfl 0 (by decide) (hg _ k_32) rfl d_T_canBeShort_32 ?_
        refine lv_iload_n hx hb d_T_canBeShort_35 rfl (lv_at hl 1 rfl) ?_
        refine g_cald hx hb hK hP (t + 1) 1 (tx_lt1 ht) (cfC_A ht _) rfl (capT_lt _) (j := i) (by omega) d_T_canBeShort_36 ?_
        refine n_top (y := (nI (sc (i)))) ((hT.2.2 (i) (by omega)).2) ?_
        refine c_SN (own := R_T) (index := 37) (As := [.int (nI (sc (i)))]) (rest := []) hx hb hml hown hg hK NXc.same hN.warm (fun _ h => h) hP hS (c_C_isSmallLetter l D cI cC cZ cT ad hI M (sc (i)) (by omega) (decide (97 ≤ sc (i) ∧ sc (i) ≤ 122)) decide_eq_true_iff) hN.1 k_430 k_1 k_431 1 rfl (by decide +kernel) (by decide) rfl hl.1 (Nat.le_of_ble_eq_true rfl) d_T_canBeShort_37 (fun v M' H locs hq hP _ _ hS => ?_)
        obtain ⟨rfl, rfl⟩ := hq
        refine W.eq (g2 := F0 m 40 ls [.int (bI (decide (97 ≤ sc (i) ∧ sc (i) ≤ 122)))]) rfl ?_
        refine z_ne (t := decide (97 ≤ sc (i) ∧ sc (i) ≤ 122)) (tgt := 57) hx hb d_T_canBeShort_40 (by decide) (fun c_40 => ?_) (fun c_40 => ?_)
        · have hpv9 : ∀ q, 1 ≤ q → q < i + 1 → smB (sc q) ∨ dgB (sc q) := fun q g1 g2 => by
            rcases Nat.lt_succ_iff_lt_or_eq.mp g2 with h | h
            · exact hpv q g1 h
            · subst h; have z := of_decide_eq_true c_40; exact Or.inl z
          refine n_inc (lv' := [(1, .int (nI (i + 1))), (0, .ref (ad (t)))]) hx hb d_T_canBeShort_57 hl (k := 1) rfl (by decide) rfl (fun ls hl => ?_)
          refine lv_goto (tgt := 23) hx hb d_T_canBeShort_60 (by decide) ?_
          exact ih23 (i + 1) _ _ ls (by omega) (by omega) (by omega) (by omega) (hs0) (hpv9) hP hS (lv_sub hl [1, 0] rfl)
        · refine lv_aload_n hx hb d_T_canBeShort_43 rfl (lv_at hl 0 rfl) ?_
          refine g_get (C := R_T) (T := T_T) (N := 2) (ci := 6) (v := .ref (ad (t + 1))) hx hb hg i_T hown hK hP t (tx_lt ht) (cfC_T ht _) rfl 0 (by decide) (hg _ k_32) rfl d_T_canBeShort_44 ?_
          refine lv_iload_n hx hb d_T_canBeShort_47 rfl (lv_at hl 1 rfl) ?_
          refine g_cald hx hb hK hP (t + 1) 1 (tx_lt1 ht) (cfC_A ht _) rfl (capT_lt _) (j := i) (by omega) d_T_canBeShort_48 ?_
          refine n_top (y := (nI (sc (i)))) ((hT.2.2 (i) (by omega)).2) ?_
          refine c_SN (own := R_T) (index := 41) (As := [.int (nI (sc (i)))]) (rest := []) hx hb hml hown hg hK NXc.same hN.warm (fun _ h => h) hP hS (c_C_isDigit l D cI cC cZ cT ad hI M (sc (i)) (by omega) (decide (48 ≤ sc (i) ∧ sc (i) ≤ 57)) decide_eq_true_iff) hN.2 k_433 k_1 k_434 1 rfl (by decide +kernel) (by decide) rfl hl.1 (Nat.le_of_ble_eq_true rfl) d_T_canBeShort_49 (fun v M' H locs hq hP _ _ hS => ?_)
          obtain ⟨rfl, rfl⟩ := hq
          refine W.eq (g2 := F0 m 52 ls [.int (bI (decide (48 ≤ sc (i) ∧ sc (i) ≤ 57)))]) rfl ?_
          refine z_ne (t := decide (48 ≤ sc (i) ∧ sc (i) ≤ 57)) (tgt := 57) hx hb d_T_canBeShort_52 (by decide) (fun c_52 => ?_) (fun c_52 => ?_)
          · have hpv9 : ∀ q, 1 ≤ q → q < i + 1 → smB (sc q) ∨ dgB (sc q) := fun q g1 g2 => by
              rcases Nat.lt_succ_iff_lt_or_eq.mp g2 with h | h
              · exact hpv q g1 h
              · subst h; have z := of_decide_eq_true c_52; exact Or.inr z
            refine n_inc (lv' := [(1, .int (nI (i + 1))), (0, .ref (ad (t)))]) hx hb d_T_canBeShort_57 hl (k := 1) rfl (by decide) rfl (fun ls hl => ?_)
            refine lv_goto (tgt := 23) hx hb d_T_canBeShort_60 (by decide) ?_
            exact ih23 (i + 1) _ _ ls (by omega) (by omega) (by omega) (by omega) (hs0) (hpv9) hP hS (lv_sub hl [1, 0] rfl)
          · have h9 : b9 = false := b_f hb9 (fun h => by rcases h.2.2 i h1 (by omega) with z | z; exact (of_decide_eq_false c_40 : ¬ (97 ≤ sc i ∧ sc i ≤ 122)) z; exact (of_decide_eq_false c_52 : ¬ (48 ≤ sc i ∧ sc i ≤ 57)) z)
            refine n_const (k := 0) hx hb d_T_canBeShort_55 (by decide) ?_
            exact r_z hx hb hr hlocks (rfl) hP hS (⟨bz0 (h9), rfl⟩) d_T_canBeShort_56
  refine lv_aload_n hx hb d_T_canBeShort_0 rfl (lv_at hl 0 rfl) ?_
  refine g_get (C := R_T) (T := T_T) (N := 2) (ci := 6) (v := .int (M t 1)) hx hb hg i_T hown hK hP t (tx_lt ht) (cfC_T ht _) rfl 1 (by decide) (hg _ k_33) rfl d_T_canBeShort_1 ?_
  refine n_top (y := (nI (sl))) (hT.2.1) ?_
  refine n_const (k := 4) hx hb d_T_canBeShort_4 (by decide) ?_
  refine n_gt (a := sl) (b := 4) (tgt := 19) hx hb d_T_canBeShort_5 (by decide) (by omega) (by omega) (fun c_5 => ?_) (fun c_5 => ?_)
  · have h9 : b9 = false := b_f hb9 (fun h => by omega)
    refine n_const (k := 0) hx hb d_T_canBeShort_19 (by decide) ?_
    exact r_z hx hb hr hlocks (rfl) hP hS (⟨bz0 (h9), rfl⟩) d_T_canBeShort_20
  · refine lv_aload_n hx hb d_T_canBeShort_8 rfl (lv_at hl 0 rfl) ?_
    refine n_const (k := 0) hx hb d_T_canBeShort_9 (by decide) ?_
    refine c_V (own := R_T) (index := 19) (As := [.int (nI (0))]) (rest := []) hx hb hml hown hg hK NXc.same hN.warm (fun _ h => h) hP hS t (c_T_at l D cI cC cZ cT ad hI M t ht sl sc hT 0 (by omega)) (tx_lt ht) (ci := 6) (cfC_T ht _) rfl k_361 k_192 k_193 k_2 k_194 1 rfl (by decide +kernel) (by decide) rfl hl.1 (Nat.le_of_ble_eq_true rfl) d_T_canBeShort_10 (fun v M' H locs hq hP _ _ hS => ?_)
    obtain ⟨rfl, rfl⟩ := hq
    refine W.eq (g2 := F0 m 13 ls [.int (nI (sc 0))]) rfl ?_
    refine c_SN (own := R_T) (index := 37) (As := [.int (nI (sc 0))]) (rest := []) hx hb hml hown hg hK NXc.same hN.warm (fun _ h => h) hP hS (c_C_isSmallLetter l D cI cC cZ cT ad hI M (sc 0) (by omega) (decide (97 ≤ sc 0 ∧ sc 0 ≤ 122)) decide_eq_true_iff) hN.1 k_430 k_1 k_431 1 rfl (by decide +kernel) (by decide) rfl hl.1 (Nat.le_of_ble_eq_true rfl) d_T_canBeShort_13 (fun v M' H locs hq hP _ _ hS => ?_)
    obtain ⟨rfl, rfl⟩ := hq
    refine W.eq (g2 := F0 m 16 ls [.int (bI (decide (97 ≤ sc 0 ∧ sc 0 ≤ 122)))]) rfl ?_
    refine z_ne (t := decide (97 ≤ sc 0 ∧ sc 0 ≤ 122)) (tgt := 21) hx hb d_T_canBeShort_16 (by decide) (fun c_16 => ?_) (fun c_16 => ?_)
    · have z := of_decide_eq_true c_16
      have hs0 : smB (sc 0) := z
      refine n_const (k := 1) hx hb d_T_canBeShort_21 (by decide) ?_
      refine lv_istore_n (lv' := [(1, .int (nI (1))), (0, .ref (ad (t)))]) hx hb d_T_canBeShort_22 rfl hl (by decide) rfl (fun ls hl => ?_)
      exact J23 (_ + 1) (1) _ _ ls (Nat.lt_succ_self _) (by omega) (by omega) (by omega) (hs0) (fun q h1 h2 => absurd h1 (by omega)) hP hS (lv_sub hl [1, 0] rfl)
    · have h9 : b9 = false := b_f hb9 (fun h => (of_decide_eq_false c_16 : ¬ (97 ≤ sc 0 ∧ sc 0 ≤ 122)) h.2.1)
      refine n_const (k := 0) hx hb d_T_canBeShort_19 (by decide) ?_
      exact r_z hx hb hr hlocks (rfl) hP hS (⟨bz0 (h9), rfl⟩) d_T_canBeShort_20

set_option maxHeartbeats 4000000 in
set_option maxRecDepth 100000 in
theorem c_T_isBetterShortThan (l : Launch) (D : va_G) (cI cC cZ cT : ClassId) (ad : Nat → Nat) (hI : GI 144 ad) (M : PM) (t : Nat) (ht : tx t) (sl : Nat) (sc : Nat → Nat) (hT : TT M t sl sc) (u : Nat) (hu : tx u) (ul : Nat) (uc : Nat → Nat) (hU : TT M u ul uc) (b9 : Bool) (hb9 : b9 = true ↔ (sl < ul ∨ (sl = ul ∧ ltG sl sc ul uc))) : MD l D cI cC cZ cT ad y_T_isBetterShortThan b_T_isBetterShortThan 2 (some .boolean) 2 44 [.ref (ad (t)), .ref (ad (u))] M (fun v M' => v = some (.int (bI (b9))) ∧ M = M') := by
  refine MC.of (by decide) (Nat.le_of_ble_eq_true rfl) ?_
  intro p e s m below meth c ls hx hb hr hml hown hg hlocks hK hN hP hS hl
  have hown : s.vm.findClass R_T = some m.cls := hown
  have hl : lv_has ls 2 [(0, .ref (ad (t))), (1, .ref (ad (u)))] := hl
  have hcap := hT.1
  have hc49 := capT_24 t
  have hcau := hU.1
  have hcu49 := capT_24 u
  refine lv_aload_n hx hb d_T_isBetterShortThan_0 rfl (lv_at hl 0 rfl) ?_
  refine g_get (C := R_T) (T := T_T) (N := 2) (ci := 6) (v := .int (M t 1)) hx hb hg i_T hown hK hP t (tx_lt ht) (cfC_T ht _) rfl 1 (by decide) (hg _ k_33) rfl d_T_isBetterShortThan_1 ?_
  refine n_top (y := (nI (sl))) (hT.2.1) ?_
  refine lv_aload_n hx hb d_T_isBetterShortThan_4 rfl (lv_at hl 1 rfl) ?_
  refine g_get (C := R_T) (T := T_T) (N := 2) (ci := 6) (v := .int (M u 1)) hx hb hg i_T hown hK hP u (tx_lt hu) (cfC_T hu _) rfl 1 (by decide) (hg _ k_33) rfl d_T_isBetterShortThan_5 ?_
  refine n_top (y := (nI (ul))) (hU.2.1) ?_
  refine n_eq (a := sl) (b := ul) (tgt := 30) hx hb d_T_isBetterShortThan_8 (by decide) (by omega) (by omega) (fun c_8 => ?_) (fun c_8 => ?_)
  · refine lv_aload_n hx hb d_T_isBetterShortThan_30 rfl (lv_at hl 0 rfl) ?_
    refine lv_aload_n hx hb d_T_isBetterShortThan_31 rfl (lv_at hl 1 rfl) ?_
    refine c_V (own := R_T) (index := 44) (As := [.ref (ad (u))]) (rest := []) hx hb hml hown hg hK NXc.same hN.warm (fun _ h => h) hP hS t (c_T_compareWith l D cI cC cZ cT ad hI M t ht sl sc hT u hu ul uc hU) (tx_lt ht) (ci := 6) (cfC_T ht _) rfl k_449 k_338 k_339 k_2 k_340 1 rfl (by decide +kernel) (by decide) rfl hl.1 (Nat.le_of_ble_eq_true rfl) d_T_isBetterShortThan_32 (fun v M' H locs hq hP _ _ hS => ?_)
    obtain ⟨⟨r9, rfl, hr1, hr2⟩, rfl⟩ := hq
    refine W.eq (g2 := F0 m 35 ls [.int (r9)]) rfl ?_
    refine lv_if_ge (tgt := 42) hx hb d_T_isBetterShortThan_35 (by decide) (fun c_35 => ?_) (fun c_35 => ?_)
    · have h9 : b9 = false := b_f hb9 (fun h => by rcases h with h | h; omega; exact absurd (hr2.mpr h.2) (Int32.not_lt.mpr c_35))
      refine n_const (k := 0) hx hb d_T_isBetterShortThan_42 (by decide) ?_
      exact r_z hx hb hr hlocks (rfl) hP hS (⟨bz0 (h9), rfl⟩) d_T_isBetterShortThan_43
    · have h9 : b9 = true := hb9.mpr (Or.inr ⟨c_8, hr2.mp (Int32.not_le.mp c_35)⟩)
      refine n_const (k := 1) hx hb d_T_isBetterShortThan_38 (by decide) ?_
      refine lv_goto (tgt := 43) hx hb d_T_isBetterShortThan_39 (by decide) ?_
      exact r_z hx hb hr hlocks (rfl) hP hS (⟨bz1 (h9), rfl⟩) d_T_isBetterShortThan_43
  · refine lv_aload_n hx hb d_T_isBetterShortThan_11 rfl (lv_at hl 0 rfl) ?_
    refine g_get (C := R_T) (T := T_T) (N := 2) (ci := 6) (v := .int (M t 1)) hx hb hg i_T hown hK hP t (tx_lt ht) (cfC_T ht _) rfl 1 (by decide) (hg _ k_33) rfl d_T_isBetterShortThan_12 ?_
    refine n_top (y := (nI (sl))) (hT.2.1) ?_
    refine lv_aload_n hx hb d_T_isBetterShortThan_15 rfl (lv_at hl 1 rfl) ?_
    refine g_get (C := R_T) (T := T_T) (N := 2) (ci := 6) (v := .int (M u 1)) hx hb hg i_T hown hK hP u (tx_lt hu) (cfC_T hu _) rfl 1 (by decide) (hg _ k_33) rfl d_T_isBetterShortThan_16 ?_
    refine n_top (y := (nI (ul))) (hU.2.1) ?_
    refine n_ge (a := sl) (b := ul) (tgt := 26) hx hb d_T_isBetterShortThan_19 (by decide) (by omega) (by omega) (fun c_19 => ?_) (fun c_19 => ?_)
    · have h9 : b9 = false := b_f hb9 (fun h => by omega)
      refine n_const (k := 0) hx hb d_T_isBetterShortThan_26 (by decide) ?_
      refine lv_goto (tgt := 43) hx hb d_T_isBetterShortThan_27 (by decide) ?_
      exact r_z hx hb hr hlocks (rfl) hP hS (⟨bz0 (h9), rfl⟩) d_T_isBetterShortThan_43
    · have h9 : b9 = true := hb9.mpr (Or.inl c_19)
      refine n_const (k := 1) hx hb d_T_isBetterShortThan_22 (by decide) ?_
      refine lv_goto (tgt := 43) hx hb d_T_isBetterShortThan_23 (by decide) ?_
      exact r_z hx hb hr hlocks (rfl) hP hS (⟨bz1 (h9), rfl⟩) d_T_isBetterShortThan_43

set_option maxHeartbeats 4000000 in
set_option maxRecDepth 100000 in
theorem c_T_putNumber_1 (l : Launch) (D : va_G) (cI cC cZ cT : ClassId) (ad : Nat → Nat) (hI : GI 144 ad) (M : PM) (t : Nat) (ht : tx t) (sl : Nat) (sc : Nat → Nat) (hT : TT M t sl sc) (k : Nat) (hk : k ≤ 99) (h10 : k < 10) (hroom : sl + 1 ≤ capT t) (e0 : sc sl = 48 + k) : MD l D cI cC cZ cT ad y_T_putNumber b_T_putNumber 2 none 1 21 [.ref (ad (t)), .int (nI (k))] M (fun v M' => v = none ∧ TT M' t (sl + 1) sc ∧ FT t M M') := by
  refine MC.of (by decide) (Nat.le_of_ble_eq_true rfl) ?_
  intro p e s m below meth c ls hx hb hr hml hown hg hlocks hK hN hP hS hl
  have hown : s.vm.findClass R_T = some m.cls := hown
  have hl : lv_has ls 2 [(0, .ref (ad (t))), (1, .int (nI (k)))] := hl
  have hcap := hT.1
  have hc49 := capT_24 t
  have hF := FT.rf t M
  have hT1 := hT
  refine lv_iload_n hx hb d_T_putNumber_0 rfl (lv_at hl 1 rfl) ?_
  refine n_bipush (k := 10) hx hb d_T_putNumber_1 (by decide) ?_
  refine n_lt (a := k) (b := 10) (tgt := 18) hx hb d_T_putNumber_3 (by decide) (by omega) (by omega) (fun c_3 => ?_) (fun c_3 => ?_)
  · refine lv_aload_n hx hb d_T_putNumber_18 rfl (lv_at hl 0 rfl) ?_
    refine n_bipush (k := 48) hx hb d_T_putNumber_19 (by decide) ?_
    refine lv_iload_n hx hb d_T_putNumber_21 rfl (lv_at hl 1 rfl) ?_
    refine n_bipush (k := 10) hx hb d_T_putNumber_22 (by decide) ?_
    refine n_irem (a := k) (b := 10) hx hb d_T_putNumber_24 (by omega) (by omega) (by omega) ?_
    refine n_iadd (a := 48) (b := (k) % (10)) hx hb d_T_putNumber_25 ?_
    refine lv_i2c (v := nI ((48) + ((k) % (10)))) hx hb d_T_putNumber_26 (nb16 _ (by omega)) ?_
    refine c_V (own := R_T) (index := 23) (As := [.int (nI ((48) + ((k) % (10))))]) (rest := []) hx hb hml hown hg hK NXc.same hN.warm (fun _ h => h) hP hS t (c_T_put l D cI cC cZ cT ad hI M (t) ht (sl) sc hT1 ((48) + ((k) % (10))) (by omega) (by omega)) (tx_lt ht) (ci := 6) (cfC_T ht _) rfl k_362 k_294 k_295 k_2 k_296 1 rfl (by decide +kernel) (by decide) rfl hl.1 (Nat.le_of_ble_eq_true rfl) d_T_putNumber_27 (fun v M_1 H locs hq hP _ _ hS => ?_)
    obtain ⟨rfl, eM_1⟩ := hq
    rw [show (48) + ((k) % (10)) = sc (sl) from (by rw [e0, Nat.mod_eq_of_lt h10])] at eM_1
    have hT1 : TT M_1 (t) (sl + 1) sc := by rw [eM_1]; exact hT1.add (by omega) (by rw [e0]; omega)
    have hF : FT (t) M M_1 := hF.tr (by rw [eM_1]; exact FT.add _ _ _ _ _)
    refine W.eq (g2 := F0 m 30 ls []) rfl ?_
    exact r_v hx hb hr hlocks hP hS (⟨rfl, hT1, hF⟩) d_T_putNumber_30
  · exact absurd c_3 (by omega)

set_option maxHeartbeats 4000000 in
set_option maxRecDepth 100000 in
theorem c_T_putNumber_2 (l : Launch) (D : va_G) (cI cC cZ cT : ClassId) (ad : Nat → Nat) (hI : GI 144 ad) (M : PM) (t : Nat) (ht : tx t) (sl : Nat) (sc : Nat → Nat) (hT : TT M t sl sc) (k : Nat) (hk : k ≤ 99) (h10 : 10 ≤ k) (hroom : sl + 2 ≤ capT t) (e0 : sc sl = 48 + k / 10) (e1 : sc (sl + 1) = 48 + k % 10) : MD l D cI cC cZ cT ad y_T_putNumber b_T_putNumber 2 none 1 21 [.ref (ad (t)), .int (nI (k))] M (fun v M' => v = none ∧ TT M' t (sl + 2) sc ∧ FT t M M') := by
  refine MC.of (by decide) (Nat.le_of_ble_eq_true rfl) ?_
  intro p e s m below meth c ls hx hb hr hml hown hg hlocks hK hN hP hS hl
  have hown : s.vm.findClass R_T = some m.cls := hown
  have hl : lv_has ls 2 [(0, .ref (ad (t))), (1, .int (nI (k)))] := hl
  have hcap := hT.1
  have hc49 := capT_24 t
  have hF := FT.rf t M
  have hT1 := hT
  refine lv_iload_n hx hb d_T_putNumber_0 rfl (lv_at hl 1 rfl) ?_
  refine n_bipush (k := 10) hx hb d_T_putNumber_1 (by decide) ?_
  refine n_lt (a := k) (b := 10) (tgt := 18) hx hb d_T_putNumber_3 (by decide) (by omega) (by omega) (fun c_3 => ?_) (fun c_3 => ?_)
  · exact absurd c_3 (by omega)
  · refine lv_aload_n hx hb d_T_putNumber_6 rfl (lv_at hl 0 rfl) ?_
    refine n_bipush (k := 48) hx hb d_T_putNumber_7 (by decide) ?_
    refine lv_iload_n hx hb d_T_putNumber_9 rfl (lv_at hl 1 rfl) ?_
    refine n_bipush (k := 10) hx hb d_T_putNumber_10 (by decide) ?_
    refine n_idiv (a := k) (b := 10) hx hb d_T_putNumber_12 (by omega) (by omega) (by omega) ?_
    refine n_iadd (a := 48) (b := (k) / (10)) hx hb d_T_putNumber_13 ?_
    refine lv_i2c (v := nI ((48) + ((k) / (10)))) hx hb d_T_putNumber_14 (nb16 _ (by omega)) ?_
    refine c_V (own := R_T) (index := 23) (As := [.int (nI ((48) + ((k) / (10))))]) (rest := []) hx hb hml hown hg hK NXc.same hN.warm (fun _ h => h) hP hS t (c_T_put l D cI cC cZ cT ad hI M (t) ht (sl) sc hT1 ((48) + ((k) / (10))) (by omega) (by omega)) (tx_lt ht) (ci := 6) (cfC_T ht _) rfl k_362 k_294 k_295 k_2 k_296 1 rfl (by decide +kernel) (by decide) rfl hl.1 (Nat.le_of_ble_eq_true rfl) d_T_putNumber_15 (fun v M_1 H locs hq hP _ _ hS => ?_)
    obtain ⟨rfl, eM_1⟩ := hq
    rw [show (48) + ((k) / (10)) = sc (sl) from e0.symm] at eM_1
    have hT1 : TT M_1 (t) (sl + 1) sc := by rw [eM_1]; exact hT1.add (by omega) (by rw [e0]; omega)
    have hF : FT (t) M M_1 := hF.tr (by rw [eM_1]; exact FT.add _ _ _ _ _)
    refine W.eq (g2 := F0 m 18 ls []) rfl ?_
    refine lv_aload_n hx hb d_T_putNumber_18 rfl (lv_at hl 0 rfl) ?_
    refine n_bipush (k := 48) hx hb d_T_putNumber_19 (by decide) ?_
    refine lv_iload_n hx hb d_T_putNumber_21 rfl (lv_at hl 1 rfl) ?_
    refine n_bipush (k := 10) hx hb d_T_putNumber_22 (by decide) ?_
    refine n_irem (a := k) (b := 10) hx hb d_T_putNumber_24 (by omega) (by omega) (by omega) ?_
    refine n_iadd (a := 48) (b := (k) % (10)) hx hb d_T_putNumber_25 ?_
    refine lv_i2c (v := nI ((48) + ((k) % (10)))) hx hb d_T_putNumber_26 (nb16 _ (by omega)) ?_
    refine c_V (own := R_T) (index := 23) (As := [.int (nI ((48) + ((k) % (10))))]) (rest := []) hx hb hml hown hg hK NXc.same hN.warm (fun _ h => h) hP hS t (c_T_put l D cI cC cZ cT ad hI M_1 (t) ht (sl + 1) sc hT1 ((48) + ((k) % (10))) (by omega) (by omega)) (tx_lt ht) (ci := 6) (cfC_T ht _) rfl k_362 k_294 k_295 k_2 k_296 1 rfl (by decide +kernel) (by decide) rfl hl.1 (Nat.le_of_ble_eq_true rfl) d_T_putNumber_27 (fun v M_2 H locs hq hP _ _ hS => ?_)
    obtain ⟨rfl, eM_2⟩ := hq
    rw [show (48) + ((k) % (10)) = sc (sl + 1) from e1.symm] at eM_2
    have hT1 : TT M_2 (t) (sl + 1 + 1) sc := by rw [eM_2]; exact hT1.add (by omega) (by rw [e1]; omega)
    have hF : FT (t) M M_2 := hF.tr (by rw [eM_2]; exact FT.add _ _ _ _ _)
    refine W.eq (g2 := F0 m 30 ls []) rfl ?_
    exact r_v hx hb hr hlocks hP hS (⟨rfl, hT1, hF⟩) d_T_putNumber_30

set_option maxHeartbeats 4000000 in
set_option maxRecDepth 100000 in
theorem c_N_add (l : Launch) (D : va_G) (cI cC cZ cT : ClassId) (ad : Nat → Nat) (hI : GI 144 ad) (M : PM) (n : Nat) (len : Nat → Nat) (ch : Nat → Nat → Nat) (hN7 : CN M n len ch) (u : Nat) (hu : tx u) (ul : Nat) (uc : Nat → Nat) (hU : TT M u ul uc) (hn : n < 60) (hne : u ≠ 9 + 2 * n) (h24 : ul ≤ 24) : MD l D cI cC cZ cT ad y_N_add b_N_add 3 (some .int) 3 66 [.ref (ad (7)), .ref (ad (u))] M (fun v M' => v = some (.int (nI n)) ∧ TT M' (9 + 2 * n) ul uc ∧ M' 7 1 = nI (n + 1) ∧ ∀ p q, ¬ (p = 7 ∧ q = 1) → ¬ (p = 9 + 2 * n ∧ q = 1) → p ≠ 9 + 2 * n + 1 → M' p q = M p q) := by
  refine MC.of (by decide) (Nat.le_of_ble_eq_true rfl) ?_
  intro p e s m below meth c ls hx hb hr hml hown hg hlocks hK hN hP hS hl
  have hown : s.vm.findClass R_N = some m.cls := hown
  have hl : lv_has ls 3 [(0, .ref (ad (7))), (1, .ref (ad (u)))] := hl
  have hn60 := hN7.1
  have hnm := hN7.2.2.1
  refine lv_aload_n hx hb d_N_add_0 rfl (lv_at hl 0 rfl) ?_
  refine g_get (C := R_N) (T := T_N) (N := 2) (ci := 0) (v := .int (M 7 1)) hx hb hg i_N hown hK hP 7 (by decide) rfl rfl 1 (by decide) (hg _ k_50) rfl d_N_add_1 ?_
  refine n_top (y := (nI (n))) (hN7.2.1) ?_
  refine lv_istore_n (lv' := [(2, .int (nI (n))), (0, .ref (ad (7))), (1, .ref (ad (u)))]) hx hb d_N_add_4 rfl hl (by decide) rfl (fun ls hl => ?_)
  refine lv_aload_n hx hb d_N_add_5 rfl (lv_at hl 1 rfl) ?_
  refine g_get (C := R_N) (T := T_N) (N := 2) (ci := 0) (v := .ref (ad (8))) hx hb hg i_N hown hK hP 7 (by decide) rfl rfl 0 (by decide) (hg _ k_49) rfl d_N_add_6 ?_
  refine lv_iload_n hx hb d_N_add_9 rfl (lv_at hl 0 rfl) ?_
  refine g_text hx hb hK hP (j := n) (by omega) d_N_add_10 ?_
  refine lv_aload_n hx hb d_N_add_11 rfl (lv_at hl 2 rfl) ?_
  refine c_V (own := R_N) (index := 28) (As := [.ref (ad (u))]) (rest := []) hx hb hml hown hg hK NXc.same hN.warm (fun _ h => h) hP hS (9 + 2 * (n)) (c_T_putAll l D cI cC cZ cT ad hI M (9 + 2 * n) (txn hn) 0 uc ⟨Nat.zero_le _, hN7.2.2.2 n (Nat.le_refl _) hn, fun i hi => absurd hi (Nat.not_lt_zero i)⟩ u hu ul uc hU hne (by rw [capN]; omega) (fun i _ => by rw [Nat.zero_add])) (tx_lt (txn (by omega))) (ci := 6) (cfC_T (txn (by omega)) _) rfl k_353 k_354 k_355 k_2 k_356 1 rfl (by decide +kernel) (by decide) rfl hl.1 (Nat.le_of_ble_eq_true rfl) d_N_add_12 (fun v M_1 H locs hq hP _ _ hS => ?_)
  obtain ⟨rfl, hT9, hF⟩ := hq
  rw [Nat.zero_add] at hT9
  refine W.eq (g2 := F0 m 15 ls []) rfl ?_
  refine lv_aload_n hx hb d_N_add_15 rfl (lv_at hl 1 rfl) ?_
  refine lv_dup hx hb d_N_add_16 rfl ?_
  refine g_get (C := R_N) (T := T_N) (N := 2) (ci := 0) (v := .int (M_1 7 1)) hx hb hg i_N hown hK hP 7 (by decide) rfl rfl 1 (by decide) (hg _ k_50) rfl d_N_add_17 ?_
  refine n_top (y := (nI (n))) (by rw [hF 7 1 (by omega) (by omega)]; exact hN7.2.1) ?_
  refine n_const (k := 1) hx hb d_N_add_20 (by decide) ?_
  refine n_iadd (a := n) (b := 1) hx hb d_N_add_21 ?_
  refine g_put (C := R_N) (T := T_N) (N := 2) (ci := 0) (v := (nI ((n) + (1)))) hx hb hg i_N ty_N t_N_ok n_N hown hK hI (fun _ h => h) hP hS 7 (by decide) rfl rfl 1 (by decide) (hg _ k_50) rfl (by decide +kernel) (Nat.le_of_ble_eq_true rfl) rfl d_N_add_22 (fun H locs hP hS => ?_)
  obtain ⟨M_2, eM_2⟩ : ∃ z : PM, z = (pu M_1 7 1 ((nI ((n) + (1))))) := ⟨_, rfl⟩
  rw [← eM_2] at hP
  refine lv_iload_n hx hb d_N_add_25 rfl (lv_at hl 0 rfl) ?_
  exact r_i hx hb hr hlocks hP hS (⟨rfl, ⟨hT9.1, by rw [eM_2, pu_k _ _ _ _ _ (by omega)]; exact hT9.2.1, fun i hi => by rw [eM_2, pu_k _ _ _ _ _ (by omega)]; exact hT9.2.2 i hi⟩, by rw [eM_2, pu_s], fun p9 q g1 g2 g3 => by rw [eM_2, pu_eq, if_neg g1]; exact hF p9 q g2 g3⟩) d_N_add_26

set_option maxHeartbeats 4000000 in
set_option maxRecDepth 100000 in
theorem c_G_next (l : Launch) (D : va_G) (cI cC cZ cT : ClassId) (ad : Nat → Nat) (hI : GI 144 ad) (M : PM) (n : Nat) (hn60 : n ≤ 60) (st : Nat → Option Nat) (hS6 : CSt M n st) (a : Nat) (ha : a < n) : MD l D cI cC cZ cT ad y_G_next b_G_next 2 (some .int) 0 0 [.ref (ad (134)), .int (nI (a))] M (fun v M' => v = some (.int (oI (st a))) ∧ M = M') := by
  refine MC.of (by decide) (Nat.le_of_ble_eq_true rfl) ?_
  intro p e s m below meth c ls hx hb hr hml hown hg hlocks hK hN hP hS hl
  have hown : s.vm.findClass R_G = some m.cls := hown
  have hl : lv_has ls 2 [(0, .ref (ad (134))), (1, .int (nI (a)))] := hl
  have hsn := hS6.2
  refine lv_aload_n hx hb d_G_next_0 rfl (lv_at hl 0 rfl) ?_
  refine g_get (C := R_G) (T := T_G) (N := 1) (ci := 4) (v := .ref (ad (135))) hx hb hg i_G hown hK hP 134 (by decide) rfl rfl 0 (by decide) (hg _ k_98) rfl d_G_next_1 ?_
  refine lv_iload_n hx hb d_G_next_4 rfl (lv_at hl 1 rfl) ?_
  refine g_iald hx hb hK hP 135 0 (by decide) rfl rfl (by decide) (j := a) (by omega) d_G_next_5 ?_
  refine n_top (y := (oI (st (a)))) (hS6.1 (a) (by omega)) ?_
  exact r_i hx hb hr hlocks hP hS (⟨rfl, rfl⟩) d_G_next_6

set_option maxHeartbeats 4000000 in
set_option maxRecDepth 100000 in
theorem c_G_set (l : Launch) (D : va_G) (cI cC cZ cT : ClassId) (ad : Nat → Nat) (hI : GI 144 ad) (M : PM) (a d9 : Nat) (ha : a < 60) : MD l D cI cC cZ cT ad y_G_set b_G_set 3 none 0 0 [.ref (ad (134)), .int (nI (a)), .int (nI (d9))] M (fun v M' => v = none ∧ M' = pu M 135 a (nI d9)) := by
  refine MC.of (by decide) (Nat.le_of_ble_eq_true rfl) ?_
  intro p e s m below meth c ls hx hb hr hml hown hg hlocks hK hN hP hS hl
  have hown : s.vm.findClass R_G = some m.cls := hown
  have hl : lv_has ls 3 [(0, .ref (ad (134))), (1, .int (nI (a))), (2, .int (nI (d9)))] := hl
  refine lv_aload_n hx hb d_G_set_0 rfl (lv_at hl 0 rfl) ?_
  refine g_get (C := R_G) (T := T_G) (N := 1) (ci := 4) (v := .ref (ad (135))) hx hb hg i_G hown hK hP 134 (by decide) rfl rfl 0 (by decide) (hg _ k_98) rfl d_G_set_1 ?_
  refine lv_iload_n hx hb d_G_set_4 rfl (lv_at hl 1 rfl) ?_
  refine lv_iload_n hx hb d_G_set_5 rfl (lv_at hl 2 rfl) ?_
  refine g_iast hx hb hK hI (fun _ h => h) hP hS 135 0 (by decide) (fun _ => rfl) rfl (by decide) (j := a) (by omega) (v := (nI (d9))) d_G_set_6 (fun H locs hP hS => ?_)
  obtain ⟨M_1, eM_1⟩ : ∃ z : PM, z = (pu M 135 (a) ((nI (d9)))) := ⟨_, rfl⟩
  rw [← eM_1] at hP
  exact r_v hx hb hr hlocks hP hS (⟨rfl, eM_1⟩) d_G_set_7

set_option maxHeartbeats 4000000 in
set_option maxRecDepth 100000 in
theorem c_G_end (l : Launch) (D : va_G) (cI cC cZ cT : ClassId) (ad : Nat → Nat) (hI : GI 144 ad) (M : PM) (n : Nat) (hn60 : n ≤ 60) (st : Nat → Option Nat) (hS6 : CSt M n st) (rk : Nat → Nat) (hRk : Rk n st rk) (hr60 : ∀ k, k < n → rk k < 60) (a : Nat) (ha : a < n) (e9 : Nat) (hE : EndS st a e9) : MD l D cI cC cZ cT ad y_G_end b_G_end 4 (some .int) 0 0 [.ref (ad (134)), .int (nI (a))] M (fun v M' => v = some (.int (nI (e9))) ∧ M = M') := by
  refine MC.of (by decide) (Nat.le_of_ble_eq_true rfl) ?_
  intro p e s m below meth c ls hx hb hr hml hown hg hlocks hK hN hP hS hl
  have hown : s.vm.findClass R_G = some m.cls := hown
  have hl : lv_has ls 4 [(0, .ref (ad (134))), (1, .int (nI (a)))] := hl
  have hsn := hS6.2
  have J4 : ∀ (fu4 : Nat) (i : Nat) (y : Nat) (H : Heap) (locs : List Loc) (ls : Array Slot), 60 - i < fu4 → (y < n) → (i + rk y < 60) → (EndS st y e9) → va_P D clsA (gw 144 ad (cfC cI cC cZ cT ad) M) H → va_S (GA 144 ad) s.heap H locs → lv_has ls 4 [(0, .ref (ad (134))), (2, .int (nI (y))), (3, .int (nI (i)))] → W p l e (rm_ 0 0) s m ([.ref (ad (134)), .int (nI (a))] : List Value).toArray below meth c H locs 0 0 (MQ below (GQ D 144 ad (cfC cI cC cZ cT ad) (fun v M' => v = some (.int (nI (e9))) ∧ M = M')) ([.ref (ad (134)), .int (nI (a))] : List Value).toArray s 0 0 (GA 144 ad)) (F0 m 4 ls []) := by
    intro fu4
    induction fu4 with
    | zero => intro i y H locs ls hfu; exact absurd hfu (Nat.not_lt_zero _)
    | succ fu4 ih4 =>
      intro i y H locs ls hfu4 hy hir hE hP hS hl
      refine lv_iload_n hx hb d_G_end_4 rfl (lv_at hl 2 rfl) ?_
      refine n_bipush (k := 60) hx hb d_G_end_5 (by decide) ?_
      refine n_ge (a := i) (b := 60) (tgt := 33) hx hb d_G_end_7 (by decide) (by omega) (by omega) (fun c_7 => ?_) (fun c_7 => ?_)
      · exact absurd c_7 (by omega)
      · refine lv_aload_n hx hb d_G_end_10 rfl (lv_at hl 0 rfl) ?_
        refine g_get (C := R_G) (T := T_G) (N := 1) (ci := 4) (v := .ref (ad (135))) hx hb hg i_G hown hK hP 134 (by decide) rfl rfl 0 (by decide) (hg _ k_98) rfl d_G_end_11 ?_
        refine lv_iload_n hx hb d_G_end_14 rfl (lv_at hl 1 rfl) ?_
        refine g_iald hx hb hK hP 135 0 (by decide) rfl rfl (by decide) (j := y) (by omega) d_G_end_15 ?_
        refine n_top (y := (oI (st (y)))) (hS6.1 (y) (by omega)) ?_
        refine lv_iconst (v := -1) hx hb d_G_end_16 (by decide) ?_
        refine oo_eq (a := st (y)) (b := none) (tgt := 33) hx hb d_G_end_17 (by decide) (fun q e => by have := (hsn _ q e).2; omega) (ob_none) (fun c_17 => ?_) (fun c_17 => ?_)
        · have hfin := EndS_end c_17 hE
          refine lv_iload_n hx hb d_G_end_33 rfl (lv_at hl 1 rfl) ?_
          exact r_i hx hb hr hlocks hP hS (⟨by rw [hfin], rfl⟩) d_G_end_34
        · obtain ⟨v9, hv9⟩ : ∃ v, st y = some v := by
            cases e : st y with
            | none => exact absurd e c_17
            | some v => exact ⟨v, rfl⟩
          have hy9 := (hsn y v9 hv9).2
          have hE9 := EndS_step hv9 hE
          have hir9 : i + 1 + rk v9 < 60 := by have := hRk y v9 hy hv9; omega
          refine lv_aload_n hx hb d_G_end_20 rfl (lv_at hl 0 rfl) ?_
          refine g_get (C := R_G) (T := T_G) (N := 1) (ci := 4) (v := .ref (ad (135))) hx hb hg i_G hown hK hP 134 (by decide) rfl rfl 0 (by decide) (hg _ k_98) rfl d_G_end_21 ?_
          refine lv_iload_n hx hb d_G_end_24 rfl (lv_at hl 1 rfl) ?_
          refine g_iald hx hb hK hP 135 0 (by decide) rfl rfl (by decide) (j := y) (by omega) d_G_end_25 ?_
          refine n_top (y := (oI (st (y)))) (hS6.1 (y) (by omega)) ?_
          refine lv_istore_n (lv' := [(2, .int (oI (st (y)))), (0, .ref (ad (134))), (3, .int (nI (i)))]) hx hb d_G_end_26 rfl hl (by decide) rfl (fun ls hl => ?_)
          rw [hv9] at hl
          have hl : lv_has ls 4 [(2, .int (nI (v9))), (0, .ref (ad (134))), (3, .int (nI (i)))] := hl
          refine n_inc (lv' := [(3, .int (nI (i + 1))), (2, .int (nI (v9))), (0, .ref (ad (134)))]) hx hb d_G_end_27 hl (k := 2) rfl (by decide) rfl (fun ls hl => ?_)
          refine lv_goto (tgt := 4) hx hb d_G_end_30 (by decide) ?_
          exact ih4 (i + 1) (v9) _ _ ls (by omega) (hy9) (hir9) (hE9) hP hS (lv_sub hl [2, 1, 0] rfl)
  refine lv_iload_n hx hb d_G_end_0 rfl (lv_at hl 1 rfl) ?_
  refine lv_istore_n (lv' := [(2, .int (nI (a))), (0, .ref (ad (134))), (1, .int (nI (a)))]) hx hb d_G_end_1 rfl hl (by decide) rfl (fun ls hl => ?_)
  refine n_const (k := 0) hx hb d_G_end_2 (by decide) ?_
  refine lv_istore_n (lv' := [(3, .int (nI (0))), (2, .int (nI (a))), (0, .ref (ad (134))), (1, .int (nI (a)))]) hx hb d_G_end_3 rfl hl (by decide) rfl (fun ls hl => ?_)
  exact J4 (_ + 1) (0) (a) _ _ ls (Nat.lt_succ_self _) (by omega) (by have := hr60 a ha; omega) (hE) hP hS (lv_sub hl [2, 1, 0] rfl)

set_option maxHeartbeats 4000000 in
set_option maxRecDepth 100000 in
theorem c_G_leads (l : Launch) (D : va_G) (cI cC cZ cT : ClassId) (ad : Nat → Nat) (hI : GI 144 ad) (M : PM) (n : Nat) (hn60 : n ≤ 60) (st : Nat → Option Nat) (hS6 : CSt M n st) (rk : Nat → Nat) (hRk : Rk n st rk) (hr60 : ∀ k, k < n → rk k < 60) (a g9 : Nat) (ha : a < n) (hg9 : g9 < n) (b9 : Bool) (hb9 : b9 = true ↔ Lds st (st a) g9) : MD l D cI cC cZ cT ad y_G_leads b_G_leads 5 (some .boolean) 0 0 [.ref (ad (134)), .int (nI (a)), .int (nI (g9))] M (fun v M' => v = some (.int (bI (b9))) ∧ M = M') := by
  refine MC.of (by decide) (Nat.le_of_ble_eq_true rfl) ?_
  intro p e s m below meth c ls hx hb hr hml hown hg hlocks hK hN hP hS hl
  have hown : s.vm.findClass R_G = some m.cls := hown
  have hl : lv_has ls 5 [(0, .ref (ad (134))), (1, .int (nI (a))), (2, .int (nI (g9)))] := hl
  have hsn := hS6.2
  have J5 : ∀ (fu5 : Nat) (i : Nat) (y : Nat) (H : Heap) (locs : List Loc) (ls : Array Slot), 60 - i < fu5 → (y < n) → (i + rk y < 60) → (Lds st (st y) g9 ↔ Lds st (st a) g9) → va_P D clsA (gw 144 ad (cfC cI cC cZ cT ad) M) H → va_S (GA 144 ad) s.heap H locs → lv_has ls 5 [(0, .ref (ad (134))), (2, .int (nI (g9))), (3, .int (nI (y))), (4, .int (nI (i)))] → W p l e (rm_ 0 0) s m ([.ref (ad (134)), .int (nI (a)), .int (nI (g9))] : List Value).toArray below meth c H locs 0 0 (MQ below (GQ D 144 ad (cfC cI cC cZ cT ad) (fun v M' => v = some (.int (bI (b9))) ∧ M = M')) ([.ref (ad (134)), .int (nI (a)), .int (nI (g9))] : List Value).toArray s 0 0 (GA 144 ad)) (F0 m 5 ls []) := by
    intro fu5
    induction fu5 with
    | zero => intro i y H locs ls hfu; exact absurd hfu (Nat.not_lt_zero _)
    | succ fu5 ih5 =>
      intro i y H locs ls hfu5 hy hir hE hP hS hl
      refine lv_iload hx hb d_G_leads_5 (lv_at hl 3 rfl) ?_
      refine n_bipush (k := 60) hx hb d_G_leads_7 (by decide) ?_
      refine n_ge (a := i) (b := 60) (tgt := 42) hx hb d_G_leads_9 (by decide) (by omega) (by omega) (fun c_9 => ?_) (fun c_9 => ?_)
      · exact absurd c_9 (by omega)
      · refine lv_aload_n hx hb d_G_leads_12 rfl (lv_at hl 0 rfl) ?_
        refine g_get (C := R_G) (T := T_G) (N := 1) (ci := 4) (v := .ref (ad (135))) hx hb hg i_G hown hK hP 134 (by decide) rfl rfl 0 (by decide) (hg _ k_98) rfl d_G_leads_13 ?_
        refine lv_iload_n hx hb d_G_leads_16 rfl (lv_at hl 2 rfl) ?_
        refine g_iald hx hb hK hP 135 0 (by decide) rfl rfl (by decide) (j := y) (by omega) d_G_leads_17 ?_
        refine n_top (y := (oI (st (y)))) (hS6.1 (y) (by omega)) ?_
        refine lv_iconst (v := -1) hx hb d_G_leads_18 (by decide) ?_
        refine oo_eq (a := st (y)) (b := none) (tgt := 42) hx hb d_G_leads_19 (by decide) (fun q e => by have := (hsn _ q e).2; omega) (ob_none) (fun c_19 => ?_) (fun c_19 => ?_)
        · have h9 : b9 = false := b_f hb9 (by rw [← hE, c_19]; exact Lds_none)
          refine n_const (k := 0) hx hb d_G_leads_42 (by decide) ?_
          exact r_z hx hb hr hlocks (rfl) hP hS (⟨bz0 (h9), rfl⟩) d_G_leads_43
        · obtain ⟨v9, hv9⟩ : ∃ v, st y = some v := by
            cases e : st y with
            | none => exact absurd e c_19
            | some v => exact ⟨v, rfl⟩
          have hy9 := (hsn y v9 hv9).2
          have hir9 : i + 1 + rk v9 < 60 := by have := hRk y v9 hy hv9; omega
          refine lv_aload_n hx hb d_G_leads_22 rfl (lv_at hl 0 rfl) ?_
          refine g_get (C := R_G) (T := T_G) (N := 1) (ci := 4) (v := .ref (ad (135))) hx hb hg i_G hown hK hP 134 (by decide) rfl rfl 0 (by decide) (hg _ k_98) rfl d_G_leads_23 ?_
          refine lv_iload_n hx hb d_G_leads_26 rfl (lv_at hl 2 rfl) ?_
          refine g_iald hx hb hK hP 135 0 (by decide) rfl rfl (by decide) (j := y) (by omega) d_G_leads_27 ?_
          refine n_top (y := (oI (st (y)))) (hS6.1 (y) (by omega)) ?_
          refine lv_istore_n (lv' := [(3, .int (oI (st (y)))), (0, .ref (ad (134))), (2, .int (nI (g9))), (4, .int (nI (i)))]) hx hb d_G_leads_28 rfl hl (by decide) rfl (fun ls hl => ?_)
          rw [hv9] at hl
          have hl : lv_has ls 5 [(3, .int (nI (v9))), (0, .ref (ad (134))), (2, .int (nI (g9))), (4, .int (nI (i)))] := hl
          refine lv_iload_n hx hb d_G_leads_29 rfl (lv_at hl 0 rfl) ?_
          refine lv_iload_n hx hb d_G_leads_30 rfl (lv_at hl 2 rfl) ?_
          refine n_ne (a := v9) (b := g9) (tgt := 36) hx hb d_G_leads_31 (by decide) (by omega) (by omega) (fun c_31 => ?_) (fun c_31 => ?_)
          · have hE9 : Lds st (st v9) g9 ↔ Lds st (st a) g9 := by rw [← hE, hv9]; exact (Lds_step c_31).symm
            refine n_inc (lv' := [(4, .int (nI (i + 1))), (3, .int (nI (v9))), (0, .ref (ad (134))), (2, .int (nI (g9)))]) hx hb d_G_leads_36 hl (k := 3) rfl (by decide) rfl (fun ls hl => ?_)
            refine lv_goto (tgt := 5) hx hb d_G_leads_39 (by decide) ?_
            exact ih5 (i + 1) (v9) _ _ ls (by omega) (hy9) (hir9) (hE9) hP hS (lv_sub hl [2, 3, 1, 0] rfl)
          · have h9 : b9 = true := hb9.mpr (by rw [← hE, hv9, c_31]; exact Lds_self st g9)
            refine n_const (k := 1) hx hb d_G_leads_34 (by decide) ?_
            exact r_z hx hb hr hlocks (rfl) hP hS (⟨bz1 (h9), rfl⟩) d_G_leads_35
  refine lv_iload_n hx hb d_G_leads_0 rfl (lv_at hl 1 rfl) ?_
  refine lv_istore_n (lv' := [(3, .int (nI (a))), (0, .ref (ad (134))), (1, .int (nI (a))), (2, .int (nI (g9)))]) hx hb d_G_leads_1 rfl hl (by decide) rfl (fun ls hl => ?_)
  refine n_const (k := 0) hx hb d_G_leads_2 (by decide) ?_
  refine lv_istore (lv' := [(4, .int (nI (0))), (3, .int (nI (a))), (0, .ref (ad (134))), (1, .int (nI (a))), (2, .int (nI (g9)))]) hx hb d_G_leads_3 hl (by decide) rfl (fun ls hl => ?_)
  exact J5 (_ + 1) (0) (a) _ _ ls (Nat.lt_succ_self _) (by omega) (by have := hr60 a ha; omega) (Iff.rfl) hP hS (lv_sub hl [2, 4, 1, 0] rfl)

set_option maxHeartbeats 4000000 in
set_option maxRecDepth 100000 in
theorem c_G_replace (l : Launch) (D : va_G) (cI cC cZ cT : ClassId) (ad : Nat → Nat) (hI : GI 144 ad) (M : PM) (n : Nat) (hn60 : n ≤ 60) (st : Nat → Option Nat) (hS6 : CSt M n st) (a d9 : Nat) (ha : a < n) (hd9n : d9 < n) (hab : a ≠ d9) (hsa : st a ≠ some a) : MD l D cI cC cZ cT ad y_G_replace b_G_replace 5 (some .int) 0 0 [.ref (ad (134)), .int (nI (a)), .int (nI (d9))] M (fun v M' => v = some (.int (nI (Cnt (soB st a) 60 + if st a = none then 0 else 1))) ∧ (∀ p q, p ≠ 135 → M' p q = M p q) ∧ ∀ q, q < 60 → M' 135 q = oI (stR st a d9 q)) := by
  refine MC.of (by decide) (Nat.le_of_ble_eq_true rfl) ?_
  intro p e s m below meth c ls hx hb hr hml hown hg hlocks hK hN hP hS hl
  have hown : s.vm.findClass R_G = some m.cls := hown
  have hl : lv_has ls 5 [(0, .ref (ad (134))), (1, .int (nI (a))), (2, .int (nI (d9)))] := hl
  have hsn := hS6.2
  have hsa1 : s1R st a d9 a = st a := by unfold s1R; rw [if_neg hsa]
  have J5 : ∀ (fu5 : Nat) (k : Nat) (M1 : PM) (H : Heap) (locs : List Loc) (ls : Array Slot), 60 - k < fu5 → (k ≤ 60) → (∀ p q, p ≠ 135 → M1 p q = M p q) → (∀ q, q < k → M1 135 q = oI (s1R st a d9 q)) → (∀ q, k ≤ q → M1 135 q = M 135 q) → va_P D clsA (gw 144 ad (cfC cI cC cZ cT ad) M1) H → va_S (GA 144 ad) s.heap H locs → lv_has ls 5 [(0, .ref (ad (134))), (1, .int (nI (a))), (2, .int (nI (d9))), (3, .int (nI (Cnt (soB st a) k))), (4, .int (nI (k)))] → W p l e (rm_ 0 0) s m ([.ref (ad (134)), .int (nI (a)), .int (nI (d9))] : List Value).toArray below meth c H locs 0 0 (MQ below (GQ D 144 ad (cfC cI cC cZ cT ad) (fun v M' => v = some (.int (nI (Cnt (soB st a) 60 + if st a = none then 0 else 1))) ∧ (∀ p q, p ≠ 135 → M' p q = M p q) ∧ ∀ q, q < 60 → M' 135 q = oI (stR st a d9 q))) ([.ref (ad (134)), .int (nI (a)), .int (nI (d9))] : List Value).toArray s 0 0 (GA 144 ad)) (F0 m 5 ls []) := by
    intro fu5
    induction fu5 with
    | zero => intro k M1 H locs ls hfu; exact absurd hfu (Nat.not_lt_zero _)
    | succ fu5 ih5 =>
      intro k M1 H locs ls hfu5 hk hF hd hu hP hS hl
      have hk1 := Cnt_le (soB st a) k
      refine lv_iload hx hb d_G_replace_5 (lv_at hl 4 rfl) ?_
      refine lv_aload_n hx hb d_G_replace_7 rfl (lv_at hl 0 rfl) ?_
      refine g_get (C := R_G) (T := T_G) (N := 1) (ci := 4) (v := .ref (ad (135))) hx hb hg i_G hown hK hP 134 (by decide) rfl rfl 0 (by decide) (hg _ k_98) rfl d_G_replace_8 ?_
      refine g_alen hx hb hK hP 135 0 (by decide) rfl rfl d_G_replace_11 ?_
      refine n_top (y := nI (60)) rfl ?_
      refine n_ge (a := k) (b := 60) (tgt := 43) hx hb d_G_replace_12 (by decide) (by omega) (by omega) (fun c_12 => ?_) (fun c_12 => ?_)
      · have e9 : k = 60 := by omega
        rw [e9] at hl hd hk1
        have hl : lv_has ls 5 [(0, .ref (ad (134))), (1, .int (nI (a))), (2, .int (nI (d9))), (3, .int (nI (Cnt (soB st a) 60))), (4, .int (nI (60)))] := hl
        refine lv_aload_n hx hb d_G_replace_43 rfl (lv_at hl 0 rfl) ?_
        refine g_get (C := R_G) (T := T_G) (N := 1) (ci := 4) (v := .ref (ad (135))) hx hb hg i_G hown hK hP 134 (by decide) rfl rfl 0 (by decide) (hg _ k_98) rfl d_G_replace_44 ?_
        refine lv_iload_n hx hb d_G_replace_47 rfl (lv_at hl 1 rfl) ?_
        refine g_iald hx hb hK hP 135 0 (by decide) rfl rfl (by decide) (j := a) (by omega) d_G_replace_48 ?_
        refine n_top (y := (oI (st a))) (by rw [hd a (by omega), hsa1]) ?_
        refine lv_iconst (v := -1) hx hb d_G_replace_49 (by decide) ?_
        refine oo_eq (a := st a) (b := none) (tgt := 75) hx hb d_G_replace_50 (by decide) (fun q e => by have := (hsn _ q e).2; omega) (ob_none) (fun c_50 => ?_) (fun c_50 => ?_)
        · have hz : (∀ p q, p ≠ 135 → M1 p q = M p q) ∧ ∀ q, q < 60 → M1 135 q = oI (stR st a d9 q) := ⟨hF, fun q hq => by rw [hd q hq]; unfold stR; rw [if_pos c_50]⟩
          have hv : Cnt (soB st a) 60 = Cnt (soB st a) 60 + if st a = none then 0 else 1 := by rw [if_pos c_50]; rfl
          refine lv_iload_n hx hb d_G_replace_75 rfl (lv_at hl 3 rfl) ?_
          exact r_i hx hb hr hlocks hP hS (⟨by rw [← hv], hz⟩) d_G_replace_76
        · refine lv_aload_n hx hb d_G_replace_53 rfl (lv_at hl 0 rfl) ?_
          refine g_get (C := R_G) (T := T_G) (N := 1) (ci := 4) (v := .ref (ad (135))) hx hb hg i_G hown hK hP 134 (by decide) rfl rfl 0 (by decide) (hg _ k_98) rfl d_G_replace_54 ?_
          refine lv_iload_n hx hb d_G_replace_57 rfl (lv_at hl 2 rfl) ?_
          refine lv_aload_n hx hb d_G_replace_58 rfl (lv_at hl 0 rfl) ?_
          refine g_get (C := R_G) (T := T_G) (N := 1) (ci := 4) (v := .ref (ad (135))) hx hb hg i_G hown hK hP 134 (by decide) rfl rfl 0 (by decide) (hg _ k_98) rfl d_G_replace_59 ?_
          refine lv_iload_n hx hb d_G_replace_62 rfl (lv_at hl 1 rfl) ?_
          refine g_iald hx hb hK hP 135 0 (by decide) rfl rfl (by decide) (j := a) (by omega) d_G_replace_63 ?_
          refine n_top (y := (oI (st a))) (by rw [hd a (by omega), hsa1]) ?_
          refine g_iast hx hb hK hI (fun _ h => h) hP hS 135 0 (by decide) (fun _ => rfl) rfl (by decide) (j := d9) (by omega) (v := (oI (st a))) d_G_replace_64 (fun H locs hP hS => ?_)
          obtain ⟨M_1, eM_1⟩ : ∃ z : PM, z = (pu M1 135 (d9) ((oI (st a)))) := ⟨_, rfl⟩
          rw [← eM_1] at hP
          refine lv_aload_n hx hb d_G_replace_65 rfl (lv_at hl 0 rfl) ?_
          refine g_get (C := R_G) (T := T_G) (N := 1) (ci := 4) (v := .ref (ad (135))) hx hb hg i_G hown hK hP 134 (by decide) rfl rfl 0 (by decide) (hg _ k_98) rfl d_G_replace_66 ?_
          refine lv_iload_n hx hb d_G_replace_69 rfl (lv_at hl 1 rfl) ?_
          refine lv_iconst (v := -1) hx hb d_G_replace_70 (by decide) ?_
          refine g_iast hx hb hK hI (fun _ h => h) hP hS 135 0 (by decide) (fun _ => rfl) rfl (by decide) (j := a) (by omega) (v := (-1)) d_G_replace_71 (fun H locs hP hS => ?_)
          obtain ⟨M_2, eM_2⟩ : ∃ z : PM, z = (pu M_1 135 (a) ((-1))) := ⟨_, rfl⟩
          rw [← eM_2] at hP
          have hz : (∀ p q, p ≠ 135 → M_2 p q = M p q) ∧ ∀ q, q < 60 → M_2 135 q = oI (stR st a d9 q) := ⟨fun p q h => by rw [eM_2, eM_1, pu_k _ _ _ _ _ h, pu_k _ _ _ _ _ h]; exact hF p q h, fun q hq => by
              have hdq := hd q hq
              rw [eM_2, eM_1]; simp only [pu_eq]; simp; unfold stR; rw [if_neg c_50]
              by_cases z1 : q = a <;> by_cases z2 : q = d9 <;> simp_all [oI]⟩
          have hv : Cnt (soB st a) 60 + 1 = Cnt (soB st a) 60 + if st a = none then 0 else 1 := by rw [if_neg c_50]
          refine n_inc (lv' := [(3, .int (nI (Cnt (soB st a) 60 + 1))), (0, .ref (ad (134))), (1, .int (nI (a))), (2, .int (nI (d9))), (4, .int (nI (60)))]) hx hb d_G_replace_72 hl (k := 3) rfl (by decide) rfl (fun ls hl => ?_)
          refine lv_iload_n hx hb d_G_replace_75 rfl (lv_at hl 0 rfl) ?_
          exact r_i hx hb hr hlocks hP hS (⟨by rw [← hv], hz⟩) d_G_replace_76
      · refine lv_aload_n hx hb d_G_replace_15 rfl (lv_at hl 0 rfl) ?_
        refine g_get (C := R_G) (T := T_G) (N := 1) (ci := 4) (v := .ref (ad (135))) hx hb hg i_G hown hK hP 134 (by decide) rfl rfl 0 (by decide) (hg _ k_98) rfl d_G_replace_16 ?_
        refine lv_iload hx hb d_G_replace_19 (lv_at hl 4 rfl) ?_
        refine g_iald hx hb hK hP 135 0 (by decide) rfl rfl (by decide) (j := k) (by omega) d_G_replace_21 ?_
        refine n_top (y := (oI (st (k)))) (by rw [hu (k) (Nat.le_refl _)]; exact hS6.1 (k) (by omega)) ?_
        refine lv_iload_n hx hb d_G_replace_22 rfl (lv_at hl 1 rfl) ?_
        refine oo_ne (a := st (k)) (b := some (a)) (tgt := 37) hx hb d_G_replace_23 (by decide) (fun q e => by have := (hsn _ q e).2; omega) (ob_some (by omega)) (fun c_23 => ?_) (fun c_23 => ?_)
        · have hcq : Cnt (soB st a) (k + 1) = Cnt (soB st a) k := Cnt_f (decide_eq_false c_23)
          have hF9 := hF
          have hd9 : ∀ q, q < k + 1 → M1 135 q = oI (s1R st a d9 q) := lt_S hd (by rw [hu k (Nat.le_refl _), hS6.1 k (by omega)]; unfold s1R; rw [if_neg c_23])
          have hu9 : ∀ q, k + 1 ≤ q → M1 135 q = M 135 q := fun q hq => hu q (by omega)
          rw [← hcq] at hl
          have hl : lv_has ls 5 [(0, .ref (ad (134))), (1, .int (nI (a))), (2, .int (nI (d9))), (3, .int (nI (Cnt (soB st a) (k + 1)))), (4, .int (nI (k)))] := hl
          refine n_inc (lv' := [(4, .int (nI (k + 1))), (0, .ref (ad (134))), (1, .int (nI (a))), (2, .int (nI (d9))), (3, .int (nI (Cnt (soB st a) (k + 1))))]) hx hb d_G_replace_37 hl (k := 4) rfl (by decide) rfl (fun ls hl => ?_)
          refine lv_goto (tgt := 5) hx hb d_G_replace_40 (by decide) ?_
          exact ih5 (k + 1) M1 _ _ ls (by omega) (by omega) (hF9) (hd9) (hu9) hP hS (lv_sub hl [1, 2, 3, 4, 0] rfl)
        · have hcq : Cnt (soB st a) (k + 1) = Cnt (soB st a) k + 1 := Cnt_t (decide_eq_true c_23)
          refine lv_aload_n hx hb d_G_replace_26 rfl (lv_at hl 0 rfl) ?_
          refine g_get (C := R_G) (T := T_G) (N := 1) (ci := 4) (v := .ref (ad (135))) hx hb hg i_G hown hK hP 134 (by decide) rfl rfl 0 (by decide) (hg _ k_98) rfl d_G_replace_27 ?_
          refine lv_iload hx hb d_G_replace_30 (lv_at hl 4 rfl) ?_
          refine lv_iload_n hx hb d_G_replace_32 rfl (lv_at hl 2 rfl) ?_
          refine g_iast hx hb hK hI (fun _ h => h) hP hS 135 0 (by decide) (fun _ => rfl) rfl (by decide) (j := k) (by omega) (v := (nI (d9))) d_G_replace_33 (fun H locs hP hS => ?_)
          obtain ⟨M_3, eM_3⟩ : ∃ z : PM, z = (pu M1 135 (k) ((nI (d9)))) := ⟨_, rfl⟩
          rw [← eM_3] at hP
          have hF9 : ∀ p q, p ≠ 135 → M_3 p q = M p q := fun p q h7 => by rw [eM_3, pu_k _ _ _ _ _ h7]; exact hF p q h7
          have hd9 : ∀ q, q < k + 1 → M_3 135 q = oI (s1R st a d9 q) := lt_S (fun q hq => by rw [eM_3, pu_j _ _ _ _ _ (by omega)]; exact hd q hq) (by rw [eM_3, pu_s]; unfold s1R; rw [if_pos c_23]; rfl)
          have hu9 : ∀ q, k + 1 ≤ q → M_3 135 q = M 135 q := fun q hq => by rw [eM_3, pu_j _ _ _ _ _ (by omega)]; exact hu q (by omega)
          refine n_inc (lv' := [(3, .int (nI (Cnt (soB st a) k + 1))), (0, .ref (ad (134))), (1, .int (nI (a))), (2, .int (nI (d9))), (4, .int (nI (k)))]) hx hb d_G_replace_34 hl (k := 3) rfl (by decide) rfl (fun ls hl => ?_)
          rw [← hcq] at hl
          have hl : lv_has ls 5 [(3, .int (nI (Cnt (soB st a) (k + 1)))), (0, .ref (ad (134))), (1, .int (nI (a))), (2, .int (nI (d9))), (4, .int (nI (k)))] := hl
          refine n_inc (lv' := [(4, .int (nI (k + 1))), (3, .int (nI (Cnt (soB st a) (k + 1)))), (0, .ref (ad (134))), (1, .int (nI (a))), (2, .int (nI (d9)))]) hx hb d_G_replace_37 hl (k := 4) rfl (by decide) rfl (fun ls hl => ?_)
          refine lv_goto (tgt := 5) hx hb d_G_replace_40 (by decide) ?_
          exact ih5 (k + 1) M_3 _ _ ls (by omega) (by omega) (hF9) (hd9) (hu9) hP hS (lv_sub hl [2, 3, 4, 1, 0] rfl)
  refine n_const (k := 0) hx hb d_G_replace_0 (by decide) ?_
  refine lv_istore_n (lv' := [(3, .int (nI (0))), (0, .ref (ad (134))), (1, .int (nI (a))), (2, .int (nI (d9)))]) hx hb d_G_replace_1 rfl hl (by decide) rfl (fun ls hl => ?_)
  refine n_const (k := 0) hx hb d_G_replace_2 (by decide) ?_
  refine lv_istore (lv' := [(4, .int (nI (0))), (3, .int (nI (0))), (0, .ref (ad (134))), (1, .int (nI (a))), (2, .int (nI (d9)))]) hx hb d_G_replace_3 hl (by decide) rfl (fun ls hl => ?_)
  exact J5 (_ + 1) (0) M _ _ ls (Nat.lt_succ_self _) (by omega) (fun _ _ _ => rfl) (fun q hq => absurd hq (Nat.not_lt_zero q)) (fun _ _ => rfl) hP hS (lv_sub hl [2, 3, 4, 1, 0] rfl)
