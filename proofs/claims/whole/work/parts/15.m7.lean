set_option maxHeartbeats 4000000 in
set_option maxRecDepth 100000 in
theorem c_M_unknown (l : Launch) (D : va_G) (cI cB : ClassId) (ad : Nat → Nat) (hI : GI 13 ad) (M : PM) (n : Nat) (len : Nat → Nat) (ch : Nat → Nat → Nat) (sp : Nat → Option Nat) (hR : RN M n len ch sp) (spo : Nat → Option Nat) (hSp : ∀ k, k < n → Best (spC n len ch sp k) len n (spo k)) (us : Nat → Nat) (hU : RU M n us) (rc : Nat) (rw_ : Nat → Nat) (hW : RW M n rc rw_) (ub : Nat → Bool) (hub : ∀ k, k < n → (ub k = true ↔ unkP us spo rc rw_ k)) (iN : Nat) (hiN : iN < 2 ^ 31) (o : Option Nat) (ho : Fst (fun k => ub k = true ∧ Cnt ub k = iN) n o) : MM l D cI cB ad y_M_unknown b_M_unknown 4 (some .int) 4 93 [.ref (ad (0)), .int (nI (iN))] M (fun v M' => v = some (.int (oI o)) ∧ M' = pu M 0 0 (nI 0)) := by
  refine MC.of (by decide) (Nat.le_of_ble_eq_true rfl) ?_
  intro p e s m below meth c ls hx hb hr hml hown hg hlocks hK hN hP hS hl
  have hown : s.vm.findClass R_M = some m.cls := hown
  have hl : lv_has ls 4 [(0, .ref (ad (0))), (1, .int (nI (iN)))] := hl
  have hn60 : n ≤ 60 := hR.1
  have hl24 := hR.2.2.1
  have hspn := hR.2.2.2.2.1
  have hch := hR.2.2.2.2.2
  have hrc := hW.1
  have hrw := hW.2.2
  have J22 : ∀ (fu22 : Nat) (k : Nat) (M1 : PM) (H : Heap) (locs : List Loc) (ls : Array Slot), n - k < fu22 → (M1 = pu M 0 0 (nI 0)) → (k ≤ n) → (Cnt ub k ≤ iN) → (∀ q, q < k → ¬ (ub q = true ∧ Cnt ub q = iN)) → va_P D clsA (gw 13 ad (cfM cI cB ad) M1) H → va_S (GA 13 ad) s.heap H locs → lv_has ls 4 [(0, .ref (ad (0))), (2, .int (nI (iN - Cnt ub k))), (3, .int (nI (k)))] → W p l e (rm_ 4 93) s m ([.ref (ad (0)), .int (nI (iN))] : List Value).toArray below meth c H locs 0 0 (MQ below (GQ D 13 ad (cfM cI cB ad) (fun v M' => v = some (.int (oI o)) ∧ M' = pu M 0 0 (nI 0))) ([.ref (ad (0)), .int (nI (iN))] : List Value).toArray s 0 0 (GA 13 ad)) (F0 m 22 ls []) := by
    intro fu22
    induction fu22 with
    | zero => intro k M1 H locs ls hfu; exact absurd hfu (Nat.not_lt_zero _)
    | succ fu22 ih22 =>
      intro k M1 H locs ls hfu22 hM1 hk hc hpv hP hS hl
      have hR1 := hR.sx (SX.thr M (nI 0))
      rw [← hM1] at hR1
      have hU1 := hU.sx (SX.thr M (nI 0))
      rw [← hM1] at hU1
      have hW1 := hW.sx (SX.thr M (nI 0))
      rw [← hM1] at hW1
      refine lv_iload_n hx hb d_M_unknown_22 rfl (lv_at hl 2 rfl) ?_
      refine lv_aload_n hx hb d_M_unknown_23 rfl (lv_at hl 0 rfl) ?_
      refine g_get (C := R_M) (T := T_M) (N := 19) (ci := 8) (v := .int (M1 0 5)) hx hb hg i_M hown hK hP 0 (by decide) rfl rfl 5 (by decide) (hg _ k_798) rfl d_M_unknown_24 ?_
      refine n_top (y := (nI (n))) (hR1.2.1) ?_
      refine n_ge (a := k) (b := n) (tgt := 53) hx hb d_M_unknown_27 (by decide) (by omega) (by omega) (fun c_27 => ?_) (fun c_27 => ?_)
      · refine lv_iconst (v := -1) hx hb d_M_unknown_53 (by decide) ?_
        exact r_i hx hb hr hlocks hP hS (⟨by rw [ho.no (fun j hj => hpv j (by omega))]; rfl, hM1⟩) d_M_unknown_54
      · refine lv_aload_n hx hb d_M_unknown_30 rfl (lv_at hl 0 rfl) ?_
        refine lv_iload_n hx hb d_M_unknown_31 rfl (lv_at hl 2 rfl) ?_
        refine c_V (own := R_M) (index := 131) (As := [.int (nI (k))]) (rest := []) hx hb hml hown hg hK (fun _ _ _ h => h) (fun _ _ => trivial) (fun _ h => h) hP hS 0 (c_M_isUnknown l D cI cB ad hI M1 n len ch sp hR1 spo hSp us hU1 rc rw_ hW1 (k) (by omega) (ub (k)) (hub _ (by omega))) (by decide) (ci := 8) rfl rfl k_994 k_996 k_p40 k_9 k_997 1 rfl (by decide +kernel) (by decide) rfl hl.1 (Nat.le_of_ble_eq_true rfl) d_M_unknown_32 (fun v M' H locs hq hP _ _ hS => ?_)
        obtain ⟨rfl, rfl⟩ := hq
        refine W.eq (g2 := F0 m 35 ls [.int (bI (ub (k)))]) rfl ?_
        refine z_eq (t := ub (k)) (tgt := 47) hx hb d_M_unknown_35 (by decide) (fun c_35 => ?_) (fun c_35 => ?_)
        · have e7 := Cnt_f c_35
          have e8 : iN - Cnt ub k = iN - Cnt ub (k + 1) := by omega
          rw [e8] at hl
          have hc9 : Cnt ub (k + 1) ≤ iN := by omega
          have hpv9 : ∀ q, q < k + 1 → ¬ (ub q = true ∧ Cnt ub q = iN) := lt_S hpv (fun h => by rw [c_35] at h; exact absurd h.1 (by decide))
          have hl : lv_has ls 4 [(0, .ref (ad (0))), (2, .int (nI (iN - Cnt ub (k + 1)))), (3, .int (nI (k)))] := hl
          refine n_inc (lv' := [(3, .int (nI (k + 1))), (0, .ref (ad (0))), (2, .int (nI (iN - Cnt ub (k + 1))))]) hx hb d_M_unknown_47 hl (k := 2) rfl (by decide) rfl (fun ls hl => ?_)
          refine lv_goto (tgt := 22) hx hb d_M_unknown_50 (by decide) ?_
          exact ih22 (k + 1) M1 _ _ ls (by omega) (hM1) (by omega) (hc9) (hpv9) hP hS (lv_sub hl [1, 2, 0] rfl)
        · refine lv_iload_n hx hb d_M_unknown_38 rfl (lv_at hl 1 rfl) ?_
          refine lv_iinc (v := ((nI (iN - Cnt ub k)) - 1)) (lv' := [(2, .int ((nI (iN - Cnt ub k)) - 1)), (0, .ref (ad (0))), (3, .int (nI (k)))]) hx hb d_M_unknown_39 hl (k := 1) rfl (decI _) (by decide) rfl (fun ls hl => ?_)
          refine n_ifn0 (a := iN - Cnt ub k) (tgt := 47) hx hb d_M_unknown_42 (by decide) (by omega) (fun c_42 => ?_) (fun c_42 => ?_)
          · rw [nI_prd (by omega)] at hl
            have e7 := Cnt_t c_35
            have e8 : iN - Cnt ub k - 1 = iN - Cnt ub (k + 1) := by omega
            rw [e8] at hl
            have hc9 : Cnt ub (k + 1) ≤ iN := by omega
            have hpv9 : ∀ q, q < k + 1 → ¬ (ub q = true ∧ Cnt ub q = iN) := lt_S hpv (fun h => by omega)
            have hl : lv_has ls 4 [(2, .int (nI (iN - Cnt ub (k + 1)))), (0, .ref (ad (0))), (3, .int (nI (k)))] := hl
            refine n_inc (lv' := [(3, .int (nI (k + 1))), (2, .int (nI (iN - Cnt ub (k + 1)))), (0, .ref (ad (0)))]) hx hb d_M_unknown_47 hl (k := 2) rfl (by decide) rfl (fun ls hl => ?_)
            refine lv_goto (tgt := 22) hx hb d_M_unknown_50 (by decide) ?_
            exact ih22 (k + 1) M1 _ _ ls (by omega) (hM1) (by omega) (hc9) (hpv9) hP hS (lv_sub hl [2, 1, 0] rfl)
          · refine lv_iload_n hx hb d_M_unknown_45 rfl (lv_at hl 2 rfl) ?_
            exact r_i hx hb hr hlocks hP hS (⟨by rw [ho.is (by omega) ⟨c_35, by omega⟩ hpv]; rfl, hM1⟩) d_M_unknown_46
  refine lv_aload_n hx hb d_M_unknown_0 rfl (lv_at hl 0 rfl) ?_
  refine lv_iload_n hx hb d_M_unknown_1 rfl (lv_at hl 1 rfl) ?_
  refine lv_if_ge (tgt := 9) hx hb d_M_unknown_2 (by decide) (fun c_2 => ?_) (fun c_2 => ?_)
  · refine n_const (k := 0) hx hb d_M_unknown_9 (by decide) ?_
    refine c_V (own := R_M) (index := 57) (As := [.int (nI (0))]) (rest := []) hx hb hml hown hg hK (fun _ _ _ h => h) (fun _ _ => trivial) (fun _ h => h) hP hS 0 (c_M_refuses l D cI cB ad hI M (0) (by decide)) (by decide) (ci := 8) rfl rfl k_859 k_861 k_p22 k_9 k_862 1 rfl (by decide +kernel) (by decide) rfl hl.1 (Nat.le_of_ble_eq_true rfl) d_M_unknown_10 (fun v M_1 H locs hq hP _ _ hS => ?_)
    obtain ⟨rfl, eM_1⟩ := hq
    have hR1 := hR.sx (SX.thr M (nI 0))
    rw [← eM_1] at hR1
    have hU1 := hU.sx (SX.thr M (nI 0))
    rw [← eM_1] at hU1
    have hW1 := hW.sx (SX.thr M (nI 0))
    rw [← eM_1] at hW1
    refine W.eq (g2 := F0 m 13 ls [.int (bI (false))]) rfl ?_
    refine z_eq (t := false) (tgt := 18) hx hb d_M_unknown_13 (by decide) (fun _ => ?_) (fun h9 => absurd h9 (by decide))
    refine lv_iload_n hx hb d_M_unknown_18 rfl (lv_at hl 1 rfl) ?_
    refine lv_istore_n (lv' := [(2, .int (nI (iN))), (0, .ref (ad (0))), (1, .int (nI (iN)))]) hx hb d_M_unknown_19 rfl hl (by decide) rfl (fun ls hl => ?_)
    refine n_const (k := 0) hx hb d_M_unknown_20 (by decide) ?_
    refine lv_istore_n (lv' := [(3, .int (nI (0))), (2, .int (nI (iN))), (0, .ref (ad (0))), (1, .int (nI (iN)))]) hx hb d_M_unknown_21 rfl hl (by decide) rfl (fun ls hl => ?_)
    exact J22 (_ + 1) (0) M_1 _ _ ls (Nat.lt_succ_self _) (eM_1) (by omega) (Nat.zero_le _) (fun q hq => absurd hq (Nat.not_lt_zero q)) hP hS (lv_sub hl [2, 1, 0] rfl)
  · exact absurd (nI_pos' hiN) c_2

set_option maxHeartbeats 4000000 in
set_option maxRecDepth 100000 in
theorem c_M_document (l : Launch) (D : va_G) (cI cB : ClassId) (ad : Nat → Nat) (hI : GI 13 ad) (M : PM) (n : Nat) (len : Nat → Nat) (ch : Nat → Nat → Nat) (sp : Nat → Option Nat) (hR : RN M n len ch sp) (spo : Nat → Option Nat) (hSp : ∀ k, k < n → Best (spC n len ch sp k) len n (spo k)) (rc : Nat) (rw_ : Nat → Nat) (hW : RW M n rc rw_) (lb : Nat → Nat → Bool) (hlb : ∀ x y, x < n → y < n → (lb x y = true ↔ ltT len ch x y)) (s9 : Nat) (hs9 : s9 < n) (iN : Nat) (hiN : iN < 2 ^ 31) (o : Option Nat) (ho : Fst (fun k => spo (rw_ (3 * k)) = some s9 ∧ Cnt (fun q => decide (spo (rw_ (3 * q)) = some s9) && lb (rw_ (3 * q)) (rw_ (3 * k))) rc = iN) rc o) : MM l D cI cB ad y_M_document b_M_document 6 (some .int) 3 69 [.ref (ad (0)), .int (nI (s9)), .int (nI (iN))] M (fun v M' => v = some (.int (oI o)) ∧ M' = pu M 0 0 (nI 0)) := by
  refine MC.of (by decide) (Nat.le_of_ble_eq_true rfl) ?_
  intro p e s m below meth c ls hx hb hr hml hown hg hlocks hK hN hP hS hl
  have hown : s.vm.findClass R_M = some m.cls := hown
  have hl : lv_has ls 6 [(0, .ref (ad (0))), (1, .int (nI (s9))), (2, .int (nI (iN)))] := hl
  have hn60 : n ≤ 60 := hR.1
  have hl24 := hR.2.2.1
  have hspn := hR.2.2.2.2.1
  have hch := hR.2.2.2.2.2
  have hrc := hW.1
  have hrw := hW.2.2
  have hsl : ∀ k, k < n → ∀ q, spo k = some q → q < n := fun k hk => (hSp k hk).lt
  have J28 : ∀ (fu28 : Nat) (k : Nat) (M1 : PM) (H : Heap) (locs : List Loc) (ls : Array Slot), rc - k < fu28 → (M1 = pu M 0 0 (nI 0)) → (k ≤ rc) → (∀ z, z < k → ¬ (spo (rw_ (3 * z)) = some s9 ∧ Cnt (fun q => decide (spo (rw_ (3 * q)) = some s9) && lb (rw_ (3 * q)) (rw_ (3 * z))) rc = iN)) → va_P D clsA (gw 13 ad (cfM cI cB ad) M1) H → va_S (GA 13 ad) s.heap H locs → lv_has ls 6 [(0, .ref (ad (0))), (1, .int (nI (s9))), (2, .int (nI (iN))), (3, .int (nI (k)))] → W p l e (rm_ 3 69) s m ([.ref (ad (0)), .int (nI (s9)), .int (nI (iN))] : List Value).toArray below meth c H locs 0 0 (MQ below (GQ D 13 ad (cfM cI cB ad) (fun v M' => v = some (.int (oI o)) ∧ M' = pu M 0 0 (nI 0))) ([.ref (ad (0)), .int (nI (s9)), .int (nI (iN))] : List Value).toArray s 0 0 (GA 13 ad)) (F0 m 28 ls []) := by
    intro fu28
    induction fu28 with
    | zero => intro k M1 H locs ls hfu; exact absurd hfu (Nat.not_lt_zero _)
    | succ fu28 ih28 =>
      intro k M1 H locs ls hfu28 hM1 hk hpv hP hS hl
      have hR1 := hR.sx (SX.thr M (nI 0))
      rw [← hM1] at hR1
      have hW1 := hW.sx (SX.thr M (nI 0))
      rw [← hM1] at hW1
      have J61 : ∀ (fu61 : Nat) (q : Nat) (H : Heap) (locs : List Loc) (ls : Array Slot), rc - q < fu61 → (k < rc) → (spo (rw_ (3 * k)) = some s9) → (q ≤ rc) → va_P D clsA (gw 13 ad (cfM cI cB ad) M1) H → va_S (GA 13 ad) s.heap H locs → lv_has ls 6 [(0, .ref (ad (0))), (1, .int (nI (s9))), (2, .int (nI (iN))), (3, .int (nI (k))), (4, .int (nI (Cnt (fun q => decide (spo (rw_ (3 * q)) = some s9) && lb (rw_ (3 * q)) (rw_ (3 * k))) q))), (5, .int (nI (q)))] → W p l e (rm_ 3 69) s m ([.ref (ad (0)), .int (nI (s9)), .int (nI (iN))] : List Value).toArray below meth c H locs 0 0 (MQ below (GQ D 13 ad (cfM cI cB ad) (fun v M' => v = some (.int (oI o)) ∧ M' = pu M 0 0 (nI 0))) ([.ref (ad (0)), .int (nI (s9)), .int (nI (iN))] : List Value).toArray s 0 0 (GA 13 ad)) (F0 m 61 ls []) := by
        intro fu61
        induction fu61 with
        | zero => intro q H locs ls hfu; exact absurd hfu (Nat.not_lt_zero _)
        | succ fu61 ih61 =>
          intro q H locs ls hfu61 hkr hsk hq hP hS hl
          refine lv_iload hx hb d_M_document_61 (lv_at hl 5 rfl) ?_
          refine lv_aload_n hx hb d_M_document_63 rfl (lv_at hl 0 rfl) ?_
          refine g_get (C := R_M) (T := T_M) (N := 19) (ci := 8) (v := .int (M1 0 10)) hx hb hg i_M hown hK hP 0 (by decide) rfl rfl 10 (by decide) (hg _ k_803) rfl d_M_document_64 ?_
          refine n_top (y := (nI (rc))) (hW1.2.1) ?_
          refine n_ge (a := q) (b := rc) (tgt := 127) hx hb d_M_document_67 (by decide) (by omega) (by omega) (fun c_67 => ?_) (fun c_67 => ?_)
          · have hcl := Cnt_le (fun q => decide (spo (rw_ (3 * q)) = some s9) && lb (rw_ (3 * q)) (rw_ (3 * k))) rc
            refine lv_iload hx hb d_M_document_127 (lv_at hl 4 rfl) ?_
            refine lv_iload_n hx hb d_M_document_129 rfl (lv_at hl 2 rfl) ?_
            refine n_ne (a := Cnt (fun q => decide (spo (rw_ (3 * q)) = some s9) && lb (rw_ (3 * q)) (rw_ (3 * k))) q) (b := iN) (tgt := 135) hx hb d_M_document_130 (by decide) (by have e9 : q = rc := (by omega); rw [e9]; omega) (by omega) (fun c_130 => ?_) (fun c_130 => ?_)
            · have hpv9 := lt_S hpv (fun h => c_130 (by rw [show q = rc by omega]; exact h.2))
              refine n_inc (lv' := [(3, .int (nI (k + 1))), (0, .ref (ad (0))), (1, .int (nI (s9))), (2, .int (nI (iN))), (4, .int (nI (Cnt (fun q => decide (spo (rw_ (3 * q)) = some s9) && lb (rw_ (3 * q)) (rw_ (3 * k))) q))), (5, .int (nI (q)))]) hx hb d_M_document_135 hl (k := 3) rfl (by decide) rfl (fun ls hl => ?_)
              refine lv_goto (tgt := 28) hx hb d_M_document_138 (by decide) ?_
              exact ih28 (k + 1) M1 _ _ ls (by omega) (hM1) (by omega) (hpv9) hP hS (lv_sub hl [1, 2, 3, 0] rfl)
            · refine lv_iload_n hx hb d_M_document_133 rfl (lv_at hl 3 rfl) ?_
              exact r_i hx hb hr hlocks hP hS (⟨by rw [ho.is (by omega) ⟨hsk, by rw [← c_130, show q = rc by omega]⟩ hpv]; rfl, hM1⟩) d_M_document_134
          · refine lv_iload hx hb d_M_document_70 (lv_at hl 4 rfl) ?_
            refine lv_aload_n hx hb d_M_document_72 rfl (lv_at hl 0 rfl) ?_
            refine lv_aload_n hx hb d_M_document_73 rfl (lv_at hl 0 rfl) ?_
            refine g_get (C := R_M) (T := T_M) (N := 19) (ci := 8) (v := .ref (ad (7))) hx hb hg i_M hown hK hP 0 (by decide) rfl rfl 9 (by decide) (hg _ k_802) rfl d_M_document_74 ?_
            refine n_const (k := 3) hx hb d_M_document_77 (by decide) ?_
            refine lv_iload hx hb d_M_document_78 (lv_at hl 5 rfl) ?_
            refine n_imul (a := 3) (b := q) hx hb d_M_document_80 ?_
            refine g_iald hx hb hK hP 7 0 (by decide) rfl rfl (by decide) (j := (3) * (q)) (by omega) d_M_document_81 ?_
            refine n_top (y := (nI (rw_ ((3) * (q))))) ((hW1.2.2 ((3) * (q)) (by omega)).2) ?_
            refine c_V (own := R_M) (index := 106) (As := [.int (nI (rw_ ((3) * (q))))]) (rest := [.int (nI (Cnt (fun q => decide (spo (rw_ (3 * q)) = some s9) && lb (rw_ (3 * q)) (rw_ (3 * k))) q))]) hx hb hml hown hg hK (fun _ _ _ h => h) (fun _ _ => trivial) (fun _ h => h) hP hS 0 (c_M_spaceOf l D cI cB ad hI M1 n len ch sp hR1 (rw_ ((3) * (q))) ((hrw (3 * q) (by omega)).1) (spo (rw_ ((3) * (q)))) (hSp _ ((hrw (3 * q) (by omega)).1))) (by decide) (ci := 8) rfl rfl k_923 k_925 k_p33 k_9 k_926 1 rfl (by decide +kernel) (by decide) rfl hl.1 (Nat.le_of_ble_eq_true rfl) d_M_document_82 (fun v M' H locs hq hP _ _ hS => ?_)
            obtain ⟨rfl, rfl⟩ := hq
            refine W.eq (g2 := F0 m 85 ls [.int (oI (spo (rw_ ((3) * (q))))), .int (nI (Cnt (fun q => decide (spo (rw_ (3 * q)) = some s9) && lb (rw_ (3 * q)) (rw_ (3 * k))) q))]) rfl ?_
            refine lv_iload_n hx hb d_M_document_85 rfl (lv_at hl 1 rfl) ?_
            refine oo_ne (a := spo (rw_ ((3) * (q)))) (b := some (s9)) (tgt := 117) hx hb d_M_document_86 (by decide) (fun z e => by have := hsl _ (hrw (3 * q) (by omega)).1 z e; omega) (ob_some (by omega)) (fun c_86 => ?_) (fun c_86 => ?_)
            · have hcq : Cnt (fun q => decide (spo (rw_ (3 * q)) = some s9) && lb (rw_ (3 * q)) (rw_ (3 * k))) (q + 1) = Cnt (fun q => decide (spo (rw_ (3 * q)) = some s9) && lb (rw_ (3 * q)) (rw_ (3 * k))) q := Cnt_f (by rw [decide_eq_false c_86]; rfl)
              refine n_const (k := 0) hx hb d_M_document_117 (by decide) ?_
              refine n_iadd (a := Cnt (fun q => decide (spo (rw_ (3 * q)) = some s9) && lb (rw_ (3 * q)) (rw_ (3 * k))) q) (b := 0) hx hb d_M_document_118 ?_
              refine lv_istore (lv' := [(4, .int (nI ((Cnt (fun q => decide (spo (rw_ (3 * q)) = some s9) && lb (rw_ (3 * q)) (rw_ (3 * k))) q) + (0)))), (0, .ref (ad (0))), (1, .int (nI (s9))), (2, .int (nI (iN))), (3, .int (nI (k))), (5, .int (nI (q)))]) hx hb d_M_document_119 hl (by decide) rfl (fun ls hl => ?_)
              
              first | rw [Nat.add_zero, ← hcq] at hl | rw [← hcq] at hl
              have hl : lv_has ls 6 [(4, .int (nI (Cnt (fun q => decide (spo (rw_ (3 * q)) = some s9) && lb (rw_ (3 * q)) (rw_ (3 * k))) (q + 1)))), (0, .ref (ad (0))), (1, .int (nI (s9))), (2, .int (nI (iN))), (3, .int (nI (k))), (5, .int (nI (q)))] := hl
              refine n_inc (lv' := [(5, .int (nI (q + 1))), (4, .int (nI (Cnt (fun q => decide (spo (rw_ (3 * q)) = some s9) && lb (rw_ (3 * q)) (rw_ (3 * k))) (q + 1)))), (0, .ref (ad (0))), (1, .int (nI (s9))), (2, .int (nI (iN))), (3, .int (nI (k)))]) hx hb d_M_document_121 hl (k := 5) rfl (by decide) rfl (fun ls hl => ?_)
              refine lv_goto (tgt := 61) hx hb d_M_document_124 (by decide) ?_
              exact ih61 (q + 1) _ _ ls (by omega) (hkr) (hsk) (by omega) hP hS (lv_sub hl [2, 3, 4, 5, 1, 0] rfl)
            · refine lv_aload_n hx hb d_M_document_89 rfl (lv_at hl 0 rfl) ?_
              refine lv_aload_n hx hb d_M_document_90 rfl (lv_at hl 0 rfl) ?_
              refine g_get (C := R_M) (T := T_M) (N := 19) (ci := 8) (v := .ref (ad (7))) hx hb hg i_M hown hK hP 0 (by decide) rfl rfl 9 (by decide) (hg _ k_802) rfl d_M_document_91 ?_
              refine n_const (k := 3) hx hb d_M_document_94 (by decide) ?_
              refine lv_iload hx hb d_M_document_95 (lv_at hl 5 rfl) ?_
              refine n_imul (a := 3) (b := q) hx hb d_M_document_97 ?_
              refine g_iald hx hb hK hP 7 0 (by decide) rfl rfl (by decide) (j := (3) * (q)) (by omega) d_M_document_98 ?_
              refine n_top (y := (nI (rw_ ((3) * (q))))) ((hW1.2.2 ((3) * (q)) (by omega)).2) ?_
              refine lv_aload_n hx hb d_M_document_99 rfl (lv_at hl 0 rfl) ?_
              refine g_get (C := R_M) (T := T_M) (N := 19) (ci := 8) (v := .ref (ad (7))) hx hb hg i_M hown hK hP 0 (by decide) rfl rfl 9 (by decide) (hg _ k_802) rfl d_M_document_100 ?_
              refine n_const (k := 3) hx hb d_M_document_103 (by decide) ?_
              refine lv_iload_n hx hb d_M_document_104 rfl (lv_at hl 3 rfl) ?_
              refine n_imul (a := 3) (b := k) hx hb d_M_document_105 ?_
              refine g_iald hx hb hK hP 7 0 (by decide) rfl rfl (by decide) (j := (3) * (k)) (by omega) d_M_document_106 ?_
              refine n_top (y := (nI (rw_ ((3) * (k))))) ((hW1.2.2 ((3) * (k)) (by omega)).2) ?_
              refine c_V (own := R_M) (index := 110) (As := [.int (nI (rw_ ((3) * (q)))), .int (nI (rw_ ((3) * (k))))]) (rest := [.int (nI (Cnt (fun q => decide (spo (rw_ (3 * q)) = some s9) && lb (rw_ (3 * q)) (rw_ (3 * k))) q))]) hx hb hml hown hg hK (fun _ _ _ h => h) (fun _ _ => trivial) (fun _ h => h) hP hS 0 (c_M_isBefore l D cI cB ad hI M1 n len ch sp hR1 (rw_ ((3) * (q))) (rw_ ((3) * (k))) (hrw (3 * q) (by omega)).1 (hrw (3 * k) (by omega)).1 (lb (rw_ ((3) * (q))) (rw_ ((3) * (k)))) (hlb _ _ (hrw (3 * q) (by omega)).1 (hrw (3 * k) (by omega)).1)) (by decide) (ci := 8) rfl rfl k_943 k_945 k_p37 k_9 k_946 2 rfl (by decide +kernel) (by decide) rfl hl.1 (Nat.le_of_ble_eq_true rfl) d_M_document_107 (fun v M' H locs hq hP _ _ hS => ?_)
              obtain ⟨rfl, rfl⟩ := hq
              refine W.eq (g2 := F0 m 110 ls [.int (bI (lb (rw_ ((3) * (q))) (rw_ ((3) * (k))))), .int (nI (Cnt (fun q => decide (spo (rw_ (3 * q)) = some s9) && lb (rw_ (3 * q)) (rw_ (3 * k))) q))]) rfl ?_
              refine z_eq (t := lb (rw_ ((3) * (q))) (rw_ ((3) * (k)))) (tgt := 117) hx hb d_M_document_110 (by decide) (fun c_110 => ?_) (fun c_110 => ?_)
              · have hcq : Cnt (fun q => decide (spo (rw_ (3 * q)) = some s9) && lb (rw_ (3 * q)) (rw_ (3 * k))) (q + 1) = Cnt (fun q => decide (spo (rw_ (3 * q)) = some s9) && lb (rw_ (3 * q)) (rw_ (3 * k))) q := Cnt_f (by rw [c_110, Bool.and_false])
                refine n_const (k := 0) hx hb d_M_document_117 (by decide) ?_
                refine n_iadd (a := Cnt (fun q => decide (spo (rw_ (3 * q)) = some s9) && lb (rw_ (3 * q)) (rw_ (3 * k))) q) (b := 0) hx hb d_M_document_118 ?_
                refine lv_istore (lv' := [(4, .int (nI ((Cnt (fun q => decide (spo (rw_ (3 * q)) = some s9) && lb (rw_ (3 * q)) (rw_ (3 * k))) q) + (0)))), (0, .ref (ad (0))), (1, .int (nI (s9))), (2, .int (nI (iN))), (3, .int (nI (k))), (5, .int (nI (q)))]) hx hb d_M_document_119 hl (by decide) rfl (fun ls hl => ?_)
                
                first | rw [Nat.add_zero, ← hcq] at hl | rw [← hcq] at hl
                have hl : lv_has ls 6 [(4, .int (nI (Cnt (fun q => decide (spo (rw_ (3 * q)) = some s9) && lb (rw_ (3 * q)) (rw_ (3 * k))) (q + 1)))), (0, .ref (ad (0))), (1, .int (nI (s9))), (2, .int (nI (iN))), (3, .int (nI (k))), (5, .int (nI (q)))] := hl
                refine n_inc (lv' := [(5, .int (nI (q + 1))), (4, .int (nI (Cnt (fun q => decide (spo (rw_ (3 * q)) = some s9) && lb (rw_ (3 * q)) (rw_ (3 * k))) (q + 1)))), (0, .ref (ad (0))), (1, .int (nI (s9))), (2, .int (nI (iN))), (3, .int (nI (k)))]) hx hb d_M_document_121 hl (k := 5) rfl (by decide) rfl (fun ls hl => ?_)
                refine lv_goto (tgt := 61) hx hb d_M_document_124 (by decide) ?_
                exact ih61 (q + 1) _ _ ls (by omega) (hkr) (hsk) (by omega) hP hS (lv_sub hl [2, 3, 4, 5, 1, 0] rfl)
              · have hcq : Cnt (fun q => decide (spo (rw_ (3 * q)) = some s9) && lb (rw_ (3 * q)) (rw_ (3 * k))) (q + 1) = Cnt (fun q => decide (spo (rw_ (3 * q)) = some s9) && lb (rw_ (3 * q)) (rw_ (3 * k))) q + 1 := Cnt_t (by rw [c_110, decide_eq_true c_86]; rfl)
                refine n_const (k := 1) hx hb d_M_document_113 (by decide) ?_
                refine lv_goto (tgt := 118) hx hb d_M_document_114 (by decide) ?_
                refine n_iadd (a := Cnt (fun q => decide (spo (rw_ (3 * q)) = some s9) && lb (rw_ (3 * q)) (rw_ (3 * k))) q) (b := 1) hx hb d_M_document_118 ?_
                refine lv_istore (lv' := [(4, .int (nI ((Cnt (fun q => decide (spo (rw_ (3 * q)) = some s9) && lb (rw_ (3 * q)) (rw_ (3 * k))) q) + (1)))), (0, .ref (ad (0))), (1, .int (nI (s9))), (2, .int (nI (iN))), (3, .int (nI (k))), (5, .int (nI (q)))]) hx hb d_M_document_119 hl (by decide) rfl (fun ls hl => ?_)
                
                first | rw [Nat.add_zero, ← hcq] at hl | rw [← hcq] at hl
                have hl : lv_has ls 6 [(4, .int (nI (Cnt (fun q => decide (spo (rw_ (3 * q)) = some s9) && lb (rw_ (3 * q)) (rw_ (3 * k))) (q + 1)))), (0, .ref (ad (0))), (1, .int (nI (s9))), (2, .int (nI (iN))), (3, .int (nI (k))), (5, .int (nI (q)))] := hl
                refine n_inc (lv' := [(5, .int (nI (q + 1))), (4, .int (nI (Cnt (fun q => decide (spo (rw_ (3 * q)) = some s9) && lb (rw_ (3 * q)) (rw_ (3 * k))) (q + 1)))), (0, .ref (ad (0))), (1, .int (nI (s9))), (2, .int (nI (iN))), (3, .int (nI (k)))]) hx hb d_M_document_121 hl (k := 5) rfl (by decide) rfl (fun ls hl => ?_)
                refine lv_goto (tgt := 61) hx hb d_M_document_124 (by decide) ?_
                exact ih61 (q + 1) _ _ ls (by omega) (hkr) (hsk) (by omega) hP hS (lv_sub hl [2, 3, 4, 5, 1, 0] rfl)
      refine lv_iload_n hx hb d_M_document_28 rfl (lv_at hl 3 rfl) ?_
      refine lv_aload_n hx hb d_M_document_29 rfl (lv_at hl 0 rfl) ?_
      refine g_get (C := R_M) (T := T_M) (N := 19) (ci := 8) (v := .int (M1 0 10)) hx hb hg i_M hown hK hP 0 (by decide) rfl rfl 10 (by decide) (hg _ k_803) rfl d_M_document_30 ?_
      refine n_top (y := (nI (rc))) (hW1.2.1) ?_
      refine n_ge (a := k) (b := rc) (tgt := 141) hx hb d_M_document_33 (by decide) (by omega) (by omega) (fun c_33 => ?_) (fun c_33 => ?_)
      · refine lv_iconst (v := -1) hx hb d_M_document_141 (by decide) ?_
        exact r_i hx hb hr hlocks hP hS (⟨by rw [ho.no (fun j hj => hpv j (by omega))]; rfl, hM1⟩) d_M_document_142
      · refine lv_aload_n hx hb d_M_document_36 rfl (lv_at hl 0 rfl) ?_
        refine lv_aload_n hx hb d_M_document_37 rfl (lv_at hl 0 rfl) ?_
        refine g_get (C := R_M) (T := T_M) (N := 19) (ci := 8) (v := .ref (ad (7))) hx hb hg i_M hown hK hP 0 (by decide) rfl rfl 9 (by decide) (hg _ k_802) rfl d_M_document_38 ?_
        refine n_const (k := 3) hx hb d_M_document_41 (by decide) ?_
        refine lv_iload_n hx hb d_M_document_42 rfl (lv_at hl 3 rfl) ?_
        refine n_imul (a := 3) (b := k) hx hb d_M_document_43 ?_
        refine g_iald hx hb hK hP 7 0 (by decide) rfl rfl (by decide) (j := (3) * (k)) (by omega) d_M_document_44 ?_
        refine n_top (y := (nI (rw_ ((3) * (k))))) ((hW1.2.2 ((3) * (k)) (by omega)).2) ?_
        refine c_V (own := R_M) (index := 106) (As := [.int (nI (rw_ ((3) * (k))))]) (rest := []) hx hb hml hown hg hK (fun _ _ _ h => h) (fun _ _ => trivial) (fun _ h => h) hP hS 0 (c_M_spaceOf l D cI cB ad hI M1 n len ch sp hR1 (rw_ ((3) * (k))) ((hrw (3 * k) (by omega)).1) (spo (rw_ ((3) * (k)))) (hSp _ ((hrw (3 * k) (by omega)).1))) (by decide) (ci := 8) rfl rfl k_923 k_925 k_p33 k_9 k_926 1 rfl (by decide +kernel) (by decide) rfl hl.1 (Nat.le_of_ble_eq_true rfl) d_M_document_45 (fun v M' H locs hq hP _ _ hS => ?_)
        obtain ⟨rfl, rfl⟩ := hq
        refine W.eq (g2 := F0 m 48 ls [.int (oI (spo (rw_ ((3) * (k)))))]) rfl ?_
        refine lv_iload_n hx hb d_M_document_48 rfl (lv_at hl 1 rfl) ?_
        refine oo_eq (a := spo (rw_ ((3) * (k)))) (b := some (s9)) (tgt := 55) hx hb d_M_document_49 (by decide) (fun z e => by have := hsl _ (hrw (3 * k) (by omega)).1 z e; omega) (ob_some (by omega)) (fun c_49 => ?_) (fun c_49 => ?_)
        · refine n_const (k := 0) hx hb d_M_document_55 (by decide) ?_
          refine lv_istore (lv' := [(4, .int (nI (0))), (0, .ref (ad (0))), (1, .int (nI (s9))), (2, .int (nI (iN))), (3, .int (nI (k)))]) hx hb d_M_document_56 hl (by decide) rfl (fun ls hl => ?_)
          refine n_const (k := 0) hx hb d_M_document_58 (by decide) ?_
          refine lv_istore (lv' := [(5, .int (nI (0))), (4, .int (nI (0))), (0, .ref (ad (0))), (1, .int (nI (s9))), (2, .int (nI (iN))), (3, .int (nI (k)))]) hx hb d_M_document_59 hl (by decide) rfl (fun ls hl => ?_)
          exact J61 (_ + 1) (0) _ _ ls (Nat.lt_succ_self _) (by omega) (c_49) (by omega) hP hS (lv_sub hl [2, 3, 4, 5, 1, 0] rfl)
        · have hpv9 := lt_S hpv (fun h => c_49 h.1)
          refine lv_goto (tgt := 135) hx hb d_M_document_52 (by decide) ?_
          refine n_inc (lv' := [(3, .int (nI (k + 1))), (0, .ref (ad (0))), (1, .int (nI (s9))), (2, .int (nI (iN)))]) hx hb d_M_document_135 hl (k := 3) rfl (by decide) rfl (fun ls hl => ?_)
          refine lv_goto (tgt := 28) hx hb d_M_document_138 (by decide) ?_
          exact ih28 (k + 1) M1 _ _ ls (by omega) (hM1) (by omega) (hpv9) hP hS (lv_sub hl [1, 2, 3, 0] rfl)
  refine lv_aload_n hx hb d_M_document_0 rfl (lv_at hl 0 rfl) ?_
  refine lv_aload_n hx hb d_M_document_1 rfl (lv_at hl 0 rfl) ?_
  refine lv_iload_n hx hb d_M_document_2 rfl (lv_at hl 1 rfl) ?_
  refine c_V (own := R_M) (index := 89) (As := [.int (nI (s9))]) (rest := [.ref (ad (0))]) hx hb hml hown hg hK (fun _ _ _ h => h) (fun _ _ => trivial) (fun _ h => h) hP hS 0 (c_M_no l D cI cB ad hI M n len ch sp hR (nI (s9)) false (no_f (by omega))) (by decide) (ci := 8) rfl rfl k_907 k_909 k_p30 k_9 k_910 1 rfl (by decide +kernel) (by decide) rfl hl.1 (Nat.le_of_ble_eq_true rfl) d_M_document_3 (fun v M' H locs hq hP _ _ hS => ?_)
  obtain ⟨rfl, rfl⟩ := hq
  refine W.eq (g2 := F0 m 6 ls [.int (bI (false)), .ref (ad (0))]) rfl ?_
  refine z_ne (t := false) (tgt := 13) hx hb d_M_document_6 (by decide) (fun h9 => absurd h9 (by decide)) (fun _ => ?_)
  refine lv_iload_n hx hb d_M_document_9 rfl (lv_at hl 2 rfl) ?_
  refine lv_if_ge (tgt := 17) hx hb d_M_document_10 (by decide) (fun c_10 => ?_) (fun c_10 => ?_)
  · refine n_const (k := 0) hx hb d_M_document_17 (by decide) ?_
    refine c_V (own := R_M) (index := 57) (As := [.int (nI (0))]) (rest := []) hx hb hml hown hg hK (fun _ _ _ h => h) (fun _ _ => trivial) (fun _ h => h) hP hS 0 (c_M_refuses l D cI cB ad hI M (0) (by decide)) (by decide) (ci := 8) rfl rfl k_859 k_861 k_p22 k_9 k_862 1 rfl (by decide +kernel) (by decide) rfl hl.1 (Nat.le_of_ble_eq_true rfl) d_M_document_18 (fun v M_1 H locs hq hP _ _ hS => ?_)
    obtain ⟨rfl, eM_1⟩ := hq
    have hR1 := hR.sx (SX.thr M (nI 0))
    rw [← eM_1] at hR1
    have hW1 := hW.sx (SX.thr M (nI 0))
    rw [← eM_1] at hW1
    refine W.eq (g2 := F0 m 21 ls [.int (bI (false))]) rfl ?_
    refine z_eq (t := false) (tgt := 26) hx hb d_M_document_21 (by decide) (fun _ => ?_) (fun h9 => absurd h9 (by decide))
    refine n_const (k := 0) hx hb d_M_document_26 (by decide) ?_
    refine lv_istore_n (lv' := [(3, .int (nI (0))), (0, .ref (ad (0))), (1, .int (nI (s9))), (2, .int (nI (iN)))]) hx hb d_M_document_27 rfl hl (by decide) rfl (fun ls hl => ?_)
    exact J28 (_ + 1) (0) M_1 _ _ ls (Nat.lt_succ_self _) (eM_1) (by omega) (fun q hq => absurd hq (Nat.not_lt_zero q)) hP hS (lv_sub hl [1, 2, 3, 0] rfl)
  · exact absurd (nI_pos' hiN) c_10

set_option maxHeartbeats 4000000 in
set_option maxRecDepth 100000 in
theorem c_M_near (l : Launch) (D : va_G) (cI cB : ClassId) (ad : Nat → Nat) (hI : GI 13 ad) (M : PM) (n : Nat) (len : Nat → Nat) (ch : Nat → Nat → Nat) (sp : Nat → Option Nat) (hR : RN M n len ch sp) (rc : Nat) (rw_ : Nat → Nat) (hW : RW M n rc rw_) (a : Nat) (ha : a < n) (iN : Nat) (hiN : iN < 2 ^ 31) (o : Option Nat) (ho : Fst (fun k => NB (fun q => Ed (eqC ch a (rw_ (3 * q))) (len a) (len (rw_ (3 * q)))) rc k = iN) rc o) : MM l D cI cB ad y_M_near b_M_near 6 (some .int) 2 49 [.ref (ad (0)), .int (nI (a)), .int (nI (iN))] M (fun v M' => v = some (.int (oI o)) ∧ SX M M' ∧ M' 0 0 = nI 0) := by
  refine MC.of (by decide) (Nat.le_of_ble_eq_true rfl) ?_
  intro p e s m below meth c ls hx hb hr hml hown hg hlocks hK hN hP hS hl
  have hown : s.vm.findClass R_M = some m.cls := hown
  have hl : lv_has ls 6 [(0, .ref (ad (0))), (1, .int (nI (a))), (2, .int (nI (iN)))] := hl
  have hn60 : n ≤ 60 := hR.1
  have hl24 := hR.2.2.1
  have hspn := hR.2.2.2.2.1
  have hch := hR.2.2.2.2.2
  have hrc := hW.1
  have hrw := hW.2.2
  have J31 : ∀ (fu31 : Nat) (far : Nat) (M1 : PM) (H : Heap) (locs : List Loc) (ls : Array Slot), 25 - far < fu31 → (far ≤ 25) → (∃ M0, M0 = pu M 0 0 (nI 0) ∧ F12 M0 M1) → (Cnt (bfN (fun q => Ed (eqC ch a (rw_ (3 * q))) (len a) (len (rw_ (3 * q)))) far 0) rc ≤ iN) → (∀ q, q < rc → ((fun q => Ed (eqC ch a (rw_ (3 * q))) (len a) (len (rw_ (3 * q)))) q < far ∨ ((fun q => Ed (eqC ch a (rw_ (3 * q))) (len a) (len (rw_ (3 * q)))) q = far ∧ q < 0)) → NB (fun q => Ed (eqC ch a (rw_ (3 * q))) (len a) (len (rw_ (3 * q)))) rc q < iN) → va_P D clsA (gw 13 ad (cfM cI cB ad) M1) H → va_S (GA 13 ad) s.heap H locs → lv_has ls 6 [(0, .ref (ad (0))), (1, .int (nI (a))), (3, .int (nI (iN - Cnt (bfN (fun q => Ed (eqC ch a (rw_ (3 * q))) (len a) (len (rw_ (3 * q)))) far 0) rc))), (4, .int (nI (far)))] → W p l e (rm_ 2 49) s m ([.ref (ad (0)), .int (nI (a)), .int (nI (iN))] : List Value).toArray below meth c H locs 0 0 (MQ below (GQ D 13 ad (cfM cI cB ad) (fun v M' => v = some (.int (oI o)) ∧ SX M M' ∧ M' 0 0 = nI 0)) ([.ref (ad (0)), .int (nI (a)), .int (nI (iN))] : List Value).toArray s 0 0 (GA 13 ad)) (F0 m 31 ls []) := by
    intro fu31
    induction fu31 with
    | zero => intro far M1 H locs ls hfu; exact absurd hfu (Nat.not_lt_zero _)
    | succ fu31 ih31 =>
      intro far M1 H locs ls hfu31 hfar hF hsn hpv hP hS hl
      obtain ⟨M0, eM0, hFF⟩ := hF
      have hR1 := (hR.sx (by rw [eM0]; exact SX.thr M _ : SX M M0)).sx hFF.sx
      have hW1 := (hW.sx (by rw [eM0]; exact SX.thr M _ : SX M M0)).sx hFF.sx
      have J41 : ∀ (fu41 : Nat) (k : Nat) (M1 : PM) (H : Heap) (locs : List Loc) (ls : Array Slot), rc - k < fu41 → (far ≤ 24) → (k ≤ rc) → (∃ M0, M0 = pu M 0 0 (nI 0) ∧ F12 M0 M1) → (Cnt (bfN (fun q => Ed (eqC ch a (rw_ (3 * q))) (len a) (len (rw_ (3 * q)))) far k) rc ≤ iN) → (∀ q, q < rc → ((fun q => Ed (eqC ch a (rw_ (3 * q))) (len a) (len (rw_ (3 * q)))) q < far ∨ ((fun q => Ed (eqC ch a (rw_ (3 * q))) (len a) (len (rw_ (3 * q)))) q = far ∧ q < k)) → NB (fun q => Ed (eqC ch a (rw_ (3 * q))) (len a) (len (rw_ (3 * q)))) rc q < iN) → va_P D clsA (gw 13 ad (cfM cI cB ad) M1) H → va_S (GA 13 ad) s.heap H locs → lv_has ls 6 [(0, .ref (ad (0))), (1, .int (nI (a))), (3, .int (nI (iN - Cnt (bfN (fun q => Ed (eqC ch a (rw_ (3 * q))) (len a) (len (rw_ (3 * q)))) far k) rc))), (4, .int (nI (far))), (5, .int (nI (k)))] → W p l e (rm_ 2 49) s m ([.ref (ad (0)), .int (nI (a)), .int (nI (iN))] : List Value).toArray below meth c H locs 0 0 (MQ below (GQ D 13 ad (cfM cI cB ad) (fun v M' => v = some (.int (oI o)) ∧ SX M M' ∧ M' 0 0 = nI 0)) ([.ref (ad (0)), .int (nI (a)), .int (nI (iN))] : List Value).toArray s 0 0 (GA 13 ad)) (F0 m 41 ls []) := by
        intro fu41
        induction fu41 with
        | zero => intro k M1 H locs ls hfu; exact absurd hfu (Nat.not_lt_zero _)
        | succ fu41 ih41 =>
          intro k M1 H locs ls hfu41 hfar hk hF hsn hpv hP hS hl
          obtain ⟨M0, eM0, hFF⟩ := hF
          have hR1 := (hR.sx (by rw [eM0]; exact SX.thr M _ : SX M M0)).sx hFF.sx
          have hW1 := (hW.sx (by rw [eM0]; exact SX.thr M _ : SX M M0)).sx hFF.sx
          refine lv_iload hx hb d_M_near_41 (lv_at hl 4 rfl) ?_
          refine lv_aload_n hx hb d_M_near_43 rfl (lv_at hl 0 rfl) ?_
          refine g_get (C := R_M) (T := T_M) (N := 19) (ci := 8) (v := .int (M1 0 10)) hx hb hg i_M hown hK hP 0 (by decide) rfl rfl 10 (by decide) (hg _ k_803) rfl d_M_near_44 ?_
          refine n_top (y := (nI (rc))) (hW1.2.1) ?_
          refine n_ge (a := k) (b := rc) (tgt := 85) hx hb d_M_near_47 (by decide) (by omega) (by omega) (fun c_47 => ?_) (fun c_47 => ?_)
          · have e9 : k = rc := by omega
            rw [e9] at hl hsn hpv
            rw [← bf_f] at hl
            have hsn9 : Cnt (bfN (fun q => Ed (eqC ch a (rw_ (3 * q))) (len a) (len (rw_ (3 * q)))) (far + 1) 0) rc ≤ iN := by rw [bf_f]; exact hsn
            have hpv9 : ∀ q, q < rc → ((fun q => Ed (eqC ch a (rw_ (3 * q))) (len a) (len (rw_ (3 * q)))) q < far + 1 ∨ ((fun q => Ed (eqC ch a (rw_ (3 * q))) (len a) (len (rw_ (3 * q)))) q = far + 1 ∧ q < 0)) → NB (fun q => Ed (eqC ch a (rw_ (3 * q))) (len a) (len (rw_ (3 * q)))) rc q < iN := fun q hq h => hpv q hq (by omega)
            have hl : lv_has ls 6 [(0, .ref (ad (0))), (1, .int (nI (a))), (3, .int (nI (iN - Cnt (bfN (fun q => Ed (eqC ch a (rw_ (3 * q))) (len a) (len (rw_ (3 * q)))) (far + 1) 0) rc))), (4, .int (nI (far))), (5, .int (nI (rc)))] := hl
            refine n_inc (lv' := [(4, .int (nI (far + 1))), (0, .ref (ad (0))), (1, .int (nI (a))), (3, .int (nI (iN - Cnt (bfN (fun q => Ed (eqC ch a (rw_ (3 * q))) (len a) (len (rw_ (3 * q)))) (far + 1) 0) rc))), (5, .int (nI (rc)))]) hx hb d_M_near_85 hl (k := 3) rfl (by decide) rfl (fun ls hl => ?_)
            refine lv_goto (tgt := 31) hx hb d_M_near_88 (by decide) ?_
            exact ih31 (far + 1) M1 _ _ ls (by omega) (by omega) (⟨M0, eM0, hFF⟩) (hsn9) (hpv9) hP hS (lv_sub hl [1, 2, 3, 0] rfl)
          · refine lv_aload_n hx hb d_M_near_50 rfl (lv_at hl 0 rfl) ?_
            refine lv_iload_n hx hb d_M_near_51 rfl (lv_at hl 1 rfl) ?_
            refine lv_aload_n hx hb d_M_near_52 rfl (lv_at hl 0 rfl) ?_
            refine g_get (C := R_M) (T := T_M) (N := 19) (ci := 8) (v := .ref (ad (7))) hx hb hg i_M hown hK hP 0 (by decide) rfl rfl 9 (by decide) (hg _ k_802) rfl d_M_near_53 ?_
            refine n_const (k := 3) hx hb d_M_near_56 (by decide) ?_
            refine lv_iload hx hb d_M_near_57 (lv_at hl 4 rfl) ?_
            refine n_imul (a := 3) (b := k) hx hb d_M_near_59 ?_
            refine g_iald hx hb hK hP 7 0 (by decide) rfl rfl (by decide) (j := (3) * (k)) (by omega) d_M_near_60 ?_
            refine n_top (y := (nI (rw_ (3 * k)))) ((hW1.2.2 (3 * k) (by omega)).2) ?_
            refine c_V (own := R_M) (index := 134) (As := [.int (nI (a)), .int (nI (rw_ (3 * k)))]) (rest := []) hx hb hml hown hg hK (fun _ _ _ h => h) (fun _ _ => trivial) (fun _ h => h) hP hS 0 (c_M_distance l D cI cB ad hI M1 n len ch sp hR1 a (rw_ (3 * k)) ha (hrw (3 * k) (by omega)).1) (by decide) (ci := 8) rfl rfl k_1002 k_1004 k_p41 k_9 k_1005 2 rfl (by decide +kernel) (by decide) rfl hl.1 (Nat.le_of_ble_eq_true rfl) d_M_near_61 (fun v M_1 H locs hq hP _ _ hS => ?_)
            obtain ⟨rfl, eM_1⟩ := hq
            have hFF9 : F12 M0 M_1 := fun p q h => (eM_1 p q h).trans (hFF p q h)
            have hdk : (fun q => Ed (eqC ch a (rw_ (3 * q))) (len a) (len (rw_ (3 * q)))) k ≤ 24 := Ed_max _ _ _ 24 (hl24 a ha).2.1 (hl24 _ (hrw (3 * k) (by omega)).1).2.1
            refine W.eq (g2 := F0 m 64 ls [.int (nI ((fun q => Ed (eqC ch a (rw_ (3 * q))) (len a) (len (rw_ (3 * q)))) k))]) rfl ?_
            refine lv_iload hx hb d_M_near_64 (lv_at hl 3 rfl) ?_
            refine n_ne (a := (fun q => Ed (eqC ch a (rw_ (3 * q))) (len a) (len (rw_ (3 * q)))) k) (b := far) (tgt := 79) hx hb d_M_near_66 (by decide) (by omega) (by omega) (fun c_66 => ?_) (fun c_66 => ?_)
            · have e7 : Cnt (bfN (fun q => Ed (eqC ch a (rw_ (3 * q))) (len a) (len (rw_ (3 * q)))) far (k + 1)) rc = Cnt (bfN (fun q => Ed (eqC ch a (rw_ (3 * q))) (len a) (len (rw_ (3 * q)))) far k) rc := bf_n c_66
              rw [← e7] at hl
              have hsn9 : Cnt (bfN (fun q => Ed (eqC ch a (rw_ (3 * q))) (len a) (len (rw_ (3 * q)))) far (k + 1)) rc ≤ iN := by rw [e7]; exact hsn
              have hpv9 : ∀ q, q < rc → ((fun q => Ed (eqC ch a (rw_ (3 * q))) (len a) (len (rw_ (3 * q)))) q < far ∨ ((fun q => Ed (eqC ch a (rw_ (3 * q))) (len a) (len (rw_ (3 * q)))) q = far ∧ q < k + 1)) → NB (fun q => Ed (eqC ch a (rw_ (3 * q))) (len a) (len (rw_ (3 * q)))) rc q < iN := fun q hq h => hpv q hq (by
                rcases h with h | ⟨h, h2⟩
                · exact Or.inl h
                · refine Or.inr ⟨h, ?_⟩
                  rcases Nat.lt_succ_iff_lt_or_eq.mp h2 with r | r
                  · exact r
                  · subst r; exact absurd h c_66)
              have hl : lv_has ls 6 [(0, .ref (ad (0))), (1, .int (nI (a))), (3, .int (nI (iN - Cnt (bfN (fun q => Ed (eqC ch a (rw_ (3 * q))) (len a) (len (rw_ (3 * q)))) far (k + 1)) rc))), (4, .int (nI (far))), (5, .int (nI (k)))] := hl
              refine n_inc (lv' := [(5, .int (nI (k + 1))), (0, .ref (ad (0))), (1, .int (nI (a))), (3, .int (nI (iN - Cnt (bfN (fun q => Ed (eqC ch a (rw_ (3 * q))) (len a) (len (rw_ (3 * q)))) far (k + 1)) rc))), (4, .int (nI (far)))]) hx hb d_M_near_79 hl (k := 4) rfl (by decide) rfl (fun ls hl => ?_)
              refine lv_goto (tgt := 41) hx hb d_M_near_82 (by decide) ?_
              exact ih41 (k + 1) M_1 _ _ ls (by omega) (by omega) (by omega) (⟨M0, eM0, hFF9⟩) (hsn9) (hpv9) hP hS (lv_sub hl [1, 2, 3, 4, 0] rfl)
            · have hnb : NB (fun q => Ed (eqC ch a (rw_ (3 * q))) (len a) (len (rw_ (3 * q)))) rc k = Cnt (bfN (fun q => Ed (eqC ch a (rw_ (3 * q))) (len a) (len (rw_ (3 * q)))) far k) rc := by unfold NB; rw [c_66]
              refine lv_iload_n hx hb d_M_near_69 rfl (lv_at hl 2 rfl) ?_
              refine lv_iinc (v := ((nI (iN - Cnt (bfN (fun q => Ed (eqC ch a (rw_ (3 * q))) (len a) (len (rw_ (3 * q)))) far k) rc)) - 1)) (lv' := [(3, .int ((nI (iN - Cnt (bfN (fun q => Ed (eqC ch a (rw_ (3 * q))) (len a) (len (rw_ (3 * q)))) far k) rc)) - 1)), (0, .ref (ad (0))), (1, .int (nI (a))), (4, .int (nI (far))), (5, .int (nI (k)))]) hx hb d_M_near_70 hl (k := 2) rfl (decI _) (by decide) rfl (fun ls hl => ?_)
              refine n_ifn0 (a := iN - Cnt (bfN (fun q => Ed (eqC ch a (rw_ (3 * q))) (len a) (len (rw_ (3 * q)))) far k) rc) (tgt := 79) hx hb d_M_near_73 (by decide) (by omega) (fun c_73 => ?_) (fun c_73 => ?_)
              · rw [nI_prd (by omega)] at hl
                have e7 : Cnt (bfN (fun q => Ed (eqC ch a (rw_ (3 * q))) (len a) (len (rw_ (3 * q)))) far (k + 1)) rc = Cnt (bfN (fun q => Ed (eqC ch a (rw_ (3 * q))) (len a) (len (rw_ (3 * q)))) far k) rc + 1 := bf_s (by omega) c_66
                have e8 : iN - Cnt (bfN (fun q => Ed (eqC ch a (rw_ (3 * q))) (len a) (len (rw_ (3 * q)))) far k) rc - 1 = iN - Cnt (bfN (fun q => Ed (eqC ch a (rw_ (3 * q))) (len a) (len (rw_ (3 * q)))) far (k + 1)) rc := by omega
                rw [e8] at hl
                have hsn9 : Cnt (bfN (fun q => Ed (eqC ch a (rw_ (3 * q))) (len a) (len (rw_ (3 * q)))) far (k + 1)) rc ≤ iN := by omega
                have hpv9 : ∀ q, q < rc → ((fun q => Ed (eqC ch a (rw_ (3 * q))) (len a) (len (rw_ (3 * q)))) q < far ∨ ((fun q => Ed (eqC ch a (rw_ (3 * q))) (len a) (len (rw_ (3 * q)))) q = far ∧ q < k + 1)) → NB (fun q => Ed (eqC ch a (rw_ (3 * q))) (len a) (len (rw_ (3 * q)))) rc q < iN := fun q hq h => (by
                  rcases h with h | ⟨h, h2⟩
                  · exact hpv q hq (Or.inl h)
                  · rcases Nat.lt_succ_iff_lt_or_eq.mp h2 with r | r
                    · exact hpv q hq (Or.inr ⟨h, r⟩)
                    · subst r; rw [hnb]; omega)
                have hl : lv_has ls 6 [(3, .int (nI (iN - Cnt (bfN (fun q => Ed (eqC ch a (rw_ (3 * q))) (len a) (len (rw_ (3 * q)))) far (k + 1)) rc))), (0, .ref (ad (0))), (1, .int (nI (a))), (4, .int (nI (far))), (5, .int (nI (k)))] := hl
                refine n_inc (lv' := [(5, .int (nI (k + 1))), (3, .int (nI (iN - Cnt (bfN (fun q => Ed (eqC ch a (rw_ (3 * q))) (len a) (len (rw_ (3 * q)))) far (k + 1)) rc))), (0, .ref (ad (0))), (1, .int (nI (a))), (4, .int (nI (far)))]) hx hb d_M_near_79 hl (k := 4) rfl (by decide) rfl (fun ls hl => ?_)
                refine lv_goto (tgt := 41) hx hb d_M_near_82 (by decide) ?_
                exact ih41 (k + 1) M_1 _ _ ls (by omega) (by omega) (by omega) (⟨M0, eM0, hFF9⟩) (hsn9) (hpv9) hP hS (lv_sub hl [2, 3, 1, 4, 0] rfl)
              · refine lv_iload hx hb d_M_near_76 (lv_at hl 4 rfl) ?_
                exact r_i hx hb hr hlocks hP hS (⟨by rw [ho.is (k := k) (by omega) (by rw [hnb]; omega) (fun j hj e => by have := NB_inj (d := (fun q => Ed (eqC ch a (rw_ (3 * q))) (len a) (len (rw_ (3 * q))))) (rc := rc) (k := j) (k' := k) (by omega) (by omega) (by rw [e, hnb]; omega); omega)]; rfl, by have h := SX.thr M (nI 0); rw [← eM0] at h; exact h.tr hFF9.sx, by rw [hFF9 0 0 (by decide), eM0, pu_s]⟩) d_M_near_78
      refine lv_iload hx hb d_M_near_31 (lv_at hl 3 rfl) ?_
      refine n_bipush (k := 24) hx hb d_M_near_33 (by decide) ?_
      refine n_gt (a := far) (b := 24) (tgt := 91) hx hb d_M_near_35 (by decide) (by omega) (by omega) (fun c_35 => ?_) (fun c_35 => ?_)
      · refine lv_iconst (v := -1) hx hb d_M_near_91 (by decide) ?_
        exact r_i hx hb hr hlocks hP hS (⟨by rw [ho.no (fun j hj e => by have h1 : (fun q => Ed (eqC ch a (rw_ (3 * q))) (len a) (len (rw_ (3 * q)))) j ≤ 24 := Ed_max _ _ _ 24 (hl24 a ha).2.1 (hl24 _ (hrw (3 * j) (by omega)).1).2.1; have := hpv j hj (by omega); omega)]; rfl, by have h := SX.thr M (nI 0); rw [← eM0] at h; exact h.tr hFF.sx, by rw [hFF 0 0 (by decide), eM0, pu_s]⟩) d_M_near_92
      · refine n_const (k := 0) hx hb d_M_near_38 (by decide) ?_
        refine lv_istore (lv' := [(5, .int (nI (0))), (0, .ref (ad (0))), (1, .int (nI (a))), (3, .int (nI (iN - Cnt (bfN (fun q => Ed (eqC ch a (rw_ (3 * q))) (len a) (len (rw_ (3 * q)))) far 0) rc))), (4, .int (nI (far)))]) hx hb d_M_near_39 hl (by decide) rfl (fun ls hl => ?_)
        exact J41 (_ + 1) (0) M1 _ _ ls (Nat.lt_succ_self _) (by omega) (by omega) (⟨M0, eM0, hFF⟩) (hsn) (hpv) hP hS (lv_sub hl [1, 2, 3, 4, 0] rfl)
  refine lv_aload_n hx hb d_M_near_0 rfl (lv_at hl 0 rfl) ?_
  refine lv_aload_n hx hb d_M_near_1 rfl (lv_at hl 0 rfl) ?_
  refine lv_iload_n hx hb d_M_near_2 rfl (lv_at hl 1 rfl) ?_
  refine c_V (own := R_M) (index := 89) (As := [.int (nI (a))]) (rest := [.ref (ad (0))]) hx hb hml hown hg hK (fun _ _ _ h => h) (fun _ _ => trivial) (fun _ h => h) hP hS 0 (c_M_no l D cI cB ad hI M n len ch sp hR (nI (a)) false (no_f (by omega))) (by decide) (ci := 8) rfl rfl k_907 k_909 k_p30 k_9 k_910 1 rfl (by decide +kernel) (by decide) rfl hl.1 (Nat.le_of_ble_eq_true rfl) d_M_near_3 (fun v M' H locs hq hP _ _ hS => ?_)
  obtain ⟨rfl, rfl⟩ := hq
  refine W.eq (g2 := F0 m 6 ls [.int (bI (false)), .ref (ad (0))]) rfl ?_
  refine z_ne (t := false) (tgt := 13) hx hb d_M_near_6 (by decide) (fun h9 => absurd h9 (by decide)) (fun _ => ?_)
  refine lv_iload_n hx hb d_M_near_9 rfl (lv_at hl 2 rfl) ?_
  refine lv_if_ge (tgt := 17) hx hb d_M_near_10 (by decide) (fun c_10 => ?_) (fun c_10 => ?_)
  · refine n_const (k := 0) hx hb d_M_near_17 (by decide) ?_
    refine c_V (own := R_M) (index := 57) (As := [.int (nI (0))]) (rest := []) hx hb hml hown hg hK (fun _ _ _ h => h) (fun _ _ => trivial) (fun _ h => h) hP hS 0 (c_M_refuses l D cI cB ad hI M (0) (by decide)) (by decide) (ci := 8) rfl rfl k_859 k_861 k_p22 k_9 k_862 1 rfl (by decide +kernel) (by decide) rfl hl.1 (Nat.le_of_ble_eq_true rfl) d_M_near_18 (fun v M_2 H locs hq hP _ _ hS => ?_)
    obtain ⟨rfl, eM_2⟩ := hq
    have hR1 := hR.sx (SX.thr M (nI 0))
    rw [← eM_2] at hR1
    have hW1 := hW.sx (SX.thr M (nI 0))
    rw [← eM_2] at hW1
    refine W.eq (g2 := F0 m 21 ls [.int (bI (false))]) rfl ?_
    refine z_eq (t := false) (tgt := 26) hx hb d_M_near_21 (by decide) (fun _ => ?_) (fun h9 => absurd h9 (by decide))
    refine lv_iload_n hx hb d_M_near_26 rfl (lv_at hl 2 rfl) ?_
    refine lv_istore_n (lv' := [(3, .int (nI (iN))), (0, .ref (ad (0))), (1, .int (nI (a))), (2, .int (nI (iN)))]) hx hb d_M_near_27 rfl hl (by decide) rfl (fun ls hl => ?_)
    refine n_const (k := 0) hx hb d_M_near_28 (by decide) ?_
    refine lv_istore (lv' := [(4, .int (nI (0))), (3, .int (nI (iN))), (0, .ref (ad (0))), (1, .int (nI (a))), (2, .int (nI (iN)))]) hx hb d_M_near_29 hl (by decide) rfl (fun ls hl => ?_)
    have e5 : iN = iN - Cnt (bfN (fun q => Ed (eqC ch a (rw_ (3 * q))) (len a) (len (rw_ (3 * q)))) 0 0) rc := by rw [bf_0]; rfl
    rw [e5] at hl
    exact J31 (_ + 1) (0) M_2 _ _ ls (Nat.lt_succ_self _) (by omega) (⟨_, eM_2, fun _ _ _ => rfl⟩) (by rw [bf_0]; exact Nat.zero_le _) (fun q hq h => by omega) hP hS (lv_sub hl [2, 3, 1, 0] rfl)
  · exact absurd (nI_pos' hiN) c_10
