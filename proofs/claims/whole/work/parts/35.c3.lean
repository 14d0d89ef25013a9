set_option maxHeartbeats 4000000 in
set_option maxRecDepth 100000 in
theorem c_N_size (l : Launch) (D : va_G) (cI cC cZ cT : ClassId) (ad : Nat → Nat) (hI : GI 144 ad) (M : PM) (n : Nat) (len : Nat → Nat) (ch : Nat → Nat → Nat) (hN7 : CN M n len ch) : MD l D cI cC cZ cT ad y_N_size b_N_size 1 (some .int) 0 0 [.ref (ad (7))] M (fun v M' => v = some (.int (nI (n))) ∧ M = M') := by
  refine MC.of (by decide) (Nat.le_of_ble_eq_true rfl) ?_
  intro p e s m below meth c ls hx hb hr hml hown hg hlocks hK hN hP hS hl
  have hown : s.vm.findClass R_N = some m.cls := hown
  have hl : lv_has ls 1 [(0, .ref (ad (7)))] := hl
  have hn60 := hN7.1
  have hnm := hN7.2.2.1
  refine lv_aload_n hx hb d_N_size_0 rfl (lv_at hl 0 rfl) ?_
  refine g_get (C := R_N) (T := T_N) (N := 2) (ci := 0) (v := .int (M 7 1)) hx hb hg i_N hown hK hP 7 (by decide) rfl rfl 1 (by decide) (hg _ k_50) rfl d_N_size_1 ?_
  refine n_top (y := (nI (n))) (hN7.2.1) ?_
  exact r_i hx hb hr hlocks hP hS (⟨rfl, rfl⟩) d_N_size_4

set_option maxHeartbeats 4000000 in
set_option maxRecDepth 100000 in
theorem c_N_has (l : Launch) (D : va_G) (cI cC cZ cT : ClassId) (ad : Nat → Nat) (hI : GI 144 ad) (M : PM) (n : Nat) (len : Nat → Nat) (ch : Nat → Nat → Nat) (hN7 : CN M n len ch) (x : Int32) (b9 : Bool) (hb9 : b9 = true ↔ ∃ j, j < n ∧ x = nI j) : MD l D cI cC cZ cT ad y_N_has b_N_has 2 (some .boolean) 0 0 [.ref (ad (7)), .int (x)] M (fun v M' => v = some (.int (bI (b9))) ∧ M = M') := by
  refine MC.of (by decide) (Nat.le_of_ble_eq_true rfl) ?_
  intro p e s m below meth c ls hx hb hr hml hown hg hlocks hK hN hP hS hl
  have hown : s.vm.findClass R_N = some m.cls := hown
  have hl : lv_has ls 2 [(0, .ref (ad (7))), (1, .int (x))] := hl
  have hn60 := hN7.1
  have hnm := hN7.2.2.1
  have hcase := pk_ix x (n := n) (by omega)
  refine lv_iload_n hx hb d_N_has_0 rfl (lv_at hl 1 rfl) ?_
  refine lv_if_lt (tgt := 16) hx hb d_N_has_1 (by decide) (fun c_1 => ?_) (fun c_1 => ?_)
  · have h9 : b9 = false := b_f hb9 (fun ⟨j, hj, e⟩ => by rw [e] at c_1; exact nI_pos (by omega) c_1)
    refine n_const (k := 0) hx hb d_N_has_16 (by decide) ?_
    exact r_z hx hb hr hlocks (rfl) hP hS (⟨bz0 (h9), rfl⟩) d_N_has_17
  · refine lv_iload_n hx hb d_N_has_4 rfl (lv_at hl 1 rfl) ?_
    refine lv_aload_n hx hb d_N_has_5 rfl (lv_at hl 0 rfl) ?_
    refine g_get (C := R_N) (T := T_N) (N := 2) (ci := 0) (v := .int (M 7 1)) hx hb hg i_N hown hK hP 7 (by decide) rfl rfl 1 (by decide) (hg _ k_50) rfl d_N_has_6 ?_
    refine n_top (y := (nI (n))) (hN7.2.1) ?_
    refine lv_icmp_ge (tgt := 16) hx hb d_N_has_9 (by decide) (fun c_9 => ?_) (fun c_9 => ?_)
    · have h9 : b9 = false := b_f hb9 (fun ⟨j, hj, e⟩ => by rw [e] at c_9; exact nI_ge hj (by omega) c_9)
      refine n_const (k := 0) hx hb d_N_has_16 (by decide) ?_
      exact r_z hx hb hr hlocks (rfl) hP hS (⟨bz0 (h9), rfl⟩) d_N_has_17
    · have h9 : b9 = true := hb9.mpr (by
        rcases hcase with q | q | q
        · exact absurd q c_1
        · exact absurd q c_9
        · exact q)
      refine n_const (k := 1) hx hb d_N_has_12 (by decide) ?_
      refine lv_goto (tgt := 17) hx hb d_N_has_13 (by decide) ?_
      exact r_z hx hb hr hlocks (rfl) hP hS (⟨bz1 (h9), rfl⟩) d_N_has_17

set_option maxHeartbeats 4000000 in
set_option maxRecDepth 100000 in
theorem c_N_isFull (l : Launch) (D : va_G) (cI cC cZ cT : ClassId) (ad : Nat → Nat) (hI : GI 144 ad) (M : PM) (n : Nat) (len : Nat → Nat) (ch : Nat → Nat → Nat) (hN7 : CN M n len ch) (b9 : Bool) (hb9 : b9 = true ↔ 60 ≤ n) : MD l D cI cC cZ cT ad y_N_isFull b_N_isFull 1 (some .boolean) 0 0 [.ref (ad (7))] M (fun v M' => v = some (.int (bI (b9))) ∧ M = M') := by
  refine MC.of (by decide) (Nat.le_of_ble_eq_true rfl) ?_
  intro p e s m below meth c ls hx hb hr hml hown hg hlocks hK hN hP hS hl
  have hown : s.vm.findClass R_N = some m.cls := hown
  have hl : lv_has ls 1 [(0, .ref (ad (7)))] := hl
  have hn60 := hN7.1
  have hnm := hN7.2.2.1
  refine lv_aload_n hx hb d_N_isFull_0 rfl (lv_at hl 0 rfl) ?_
  refine g_get (C := R_N) (T := T_N) (N := 2) (ci := 0) (v := .int (M 7 1)) hx hb hg i_N hown hK hP 7 (by decide) rfl rfl 1 (by decide) (hg _ k_50) rfl d_N_isFull_1 ?_
  refine n_top (y := (nI (n))) (hN7.2.1) ?_
  refine lv_aload_n hx hb d_N_isFull_4 rfl (lv_at hl 0 rfl) ?_
  refine g_get (C := R_N) (T := T_N) (N := 2) (ci := 0) (v := .ref (ad (8))) hx hb hg i_N hown hK hP 7 (by decide) rfl rfl 0 (by decide) (hg _ k_49) rfl d_N_isFull_5 ?_
  refine g_alen hx hb hK hP 8 3 (by decide) rfl rfl d_N_isFull_8 ?_
  refine n_top (y := nI (60)) rfl ?_
  refine n_lt (a := n) (b := 60) (tgt := 16) hx hb d_N_isFull_9 (by decide) (by omega) (by omega) (fun c_9 => ?_) (fun c_9 => ?_)
  · have h9 : b9 = false := b_f hb9 (by omega)
    refine n_const (k := 0) hx hb d_N_isFull_16 (by decide) ?_
    exact r_z hx hb hr hlocks (rfl) hP hS (⟨bz0 (h9), rfl⟩) d_N_isFull_17
  · have h9 : b9 = true := hb9.mpr c_9
    refine n_const (k := 1) hx hb d_N_isFull_12 (by decide) ?_
    refine lv_goto (tgt := 17) hx hb d_N_isFull_13 (by decide) ?_
    exact r_z hx hb hr hlocks (rfl) hP hS (⟨bz1 (h9), rfl⟩) d_N_isFull_17

set_option maxHeartbeats 4000000 in
set_option maxRecDepth 100000 in
theorem c_N_text (l : Launch) (D : va_G) (cI cC cZ cT : ClassId) (ad : Nat → Nat) (hI : GI 144 ad) (M : PM) (k : Nat) (hk : k < 60) : MD l D cI cC cZ cT ad y_N_text b_N_text 2 (some (.object "NameRules$Text")) 0 0 [.ref (ad (7)), .int (nI (k))] M (fun v M' => v = some (.ref (ad (9 + 2 * k))) ∧ M = M') := by
  refine MC.of (by decide) (Nat.le_of_ble_eq_true rfl) ?_
  intro p e s m below meth c ls hx hb hr hml hown hg hlocks hK hN hP hS hl
  have hown : s.vm.findClass R_N = some m.cls := hown
  have hl : lv_has ls 2 [(0, .ref (ad (7))), (1, .int (nI (k)))] := hl
  refine lv_aload_n hx hb d_N_text_0 rfl (lv_at hl 0 rfl) ?_
  refine g_get (C := R_N) (T := T_N) (N := 2) (ci := 0) (v := .ref (ad (8))) hx hb hg i_N hown hK hP 7 (by decide) rfl rfl 0 (by decide) (hg _ k_49) rfl d_N_text_1 ?_
  refine lv_iload_n hx hb d_N_text_4 rfl (lv_at hl 1 rfl) ?_
  refine g_text hx hb hK hP (j := k) (by omega) d_N_text_5 ?_
  exact r_a hx hb hr hlocks hP hS (⟨rfl, rfl⟩) d_N_text_6

set_option maxHeartbeats 4000000 in
set_option maxRecDepth 100000 in
theorem c_N_find (l : Launch) (D : va_G) (cI cC cZ cT : ClassId) (ad : Nat → Nat) (hI : GI 144 ad) (M : PM) (n : Nat) (len : Nat → Nat) (ch : Nat → Nat → Nat) (hN7 : CN M n len ch) (u : Nat) (hu : tx u) (ul : Nat) (uc : Nat → Nat) (hU : TT M u ul uc) (o : Option Nat) (ho : Fst (sameT len ch ul uc) n o) : MD l D cI cC cZ cT ad y_N_find b_N_find 3 (some .int) 2 44 [.ref (ad (7)), .ref (ad (u))] M (fun v M' => v = some (.int (oI (o))) ∧ M = M') := by
  refine MC.of (by decide) (Nat.le_of_ble_eq_true rfl) ?_
  intro p e s m below meth c ls hx hb hr hml hown hg hlocks hK hN hP hS hl
  have hown : s.vm.findClass R_N = some m.cls := hown
  have hl : lv_has ls 3 [(0, .ref (ad (7))), (1, .ref (ad (u)))] := hl
  have hn60 := hN7.1
  have hnm := hN7.2.2.1
  have J2 : ∀ (fu2 : Nat) (k : Nat) (H : Heap) (locs : List Loc) (ls : Array Slot), n - k < fu2 → (k ≤ n) → (∀ q, q < k → ¬ sameT len ch ul uc q) → va_P D clsA (gw 144 ad (cfC cI cC cZ cT ad) M) H → va_S (GA 144 ad) s.heap H locs → lv_has ls 3 [(0, .ref (ad (7))), (1, .ref (ad (u))), (2, .int (nI (k)))] → W p l e (rm_ 2 44) s m ([.ref (ad (7)), .ref (ad (u))] : List Value).toArray below meth c H locs 0 0 (MQ below (GQ D 144 ad (cfC cI cC cZ cT ad) (fun v M' => v = some (.int (oI (o))) ∧ M = M')) ([.ref (ad (7)), .ref (ad (u))] : List Value).toArray s 0 0 (GA 144 ad)) (F0 m 2 ls []) := by
    intro fu2
    induction fu2 with
    | zero => intro k H locs ls hfu; exact absurd hfu (Nat.not_lt_zero _)
    | succ fu2 ih2 =>
      intro k H locs ls hfu2 hk hpv hP hS hl
      refine lv_iload_n hx hb d_N_find_2 rfl (lv_at hl 2 rfl) ?_
      refine lv_aload_n hx hb d_N_find_3 rfl (lv_at hl 0 rfl) ?_
      refine g_get (C := R_N) (T := T_N) (N := 2) (ci := 0) (v := .int (M 7 1)) hx hb hg i_N hown hK hP 7 (by decide) rfl rfl 1 (by decide) (hg _ k_50) rfl d_N_find_4 ?_
      refine n_top (y := (nI (n))) (hN7.2.1) ?_
      refine n_ge (a := k) (b := n) (tgt := 31) hx hb d_N_find_7 (by decide) (by omega) (by omega) (fun c_7 => ?_) (fun c_7 => ?_)
      · refine lv_iconst (v := -1) hx hb d_N_find_31 (by decide) ?_
        exact r_i hx hb hr hlocks hP hS (⟨by rw [ho.no (fun j hj => hpv j (by omega))]; rfl, rfl⟩) d_N_find_32
      · refine lv_aload_n hx hb d_N_find_10 rfl (lv_at hl 0 rfl) ?_
        refine g_get (C := R_N) (T := T_N) (N := 2) (ci := 0) (v := .ref (ad (8))) hx hb hg i_N hown hK hP 7 (by decide) rfl rfl 0 (by decide) (hg _ k_49) rfl d_N_find_11 ?_
        refine lv_iload_n hx hb d_N_find_14 rfl (lv_at hl 2 rfl) ?_
        refine g_text hx hb hK hP (j := k) (by omega) d_N_find_15 ?_
        refine lv_aload_n hx hb d_N_find_16 rfl (lv_at hl 1 rfl) ?_
        refine c_V (own := R_N) (index := 24) (As := [.ref (ad (u))]) (rest := []) hx hb hml hown hg hK NXc.same hN.warm (fun _ h => h) hP hS (9 + 2 * (k)) (c_T_compareWith l D cI cC cZ cT ad hI M (9 + 2 * k) (txn (by omega)) (len k) (ch k) (hnm k (by omega)).2.2.2 u hu ul uc hU) (tx_lt (txn (by omega))) (ci := 6) (cfC_T (txn (by omega)) _) rfl k_337 k_338 k_339 k_2 k_340 1 rfl (by decide +kernel) (by decide) rfl hl.1 (Nat.le_of_ble_eq_true rfl) d_N_find_17 (fun v M' H locs hq hP _ _ hS => ?_)
        obtain ⟨⟨r9, rfl, hr1, hr2⟩, rfl⟩ := hq
        refine W.eq (g2 := F0 m 20 ls [.int (r9)]) rfl ?_
        refine lv_if_ne (tgt := 25) hx hb d_N_find_20 (by decide) (fun c_20 => ?_) (fun c_20 => ?_)
        · refine n_inc (lv' := [(2, .int (nI (k + 1))), (0, .ref (ad (7))), (1, .ref (ad (u)))]) hx hb d_N_find_25 hl (k := 2) rfl (by decide) rfl (fun ls hl => ?_)
          refine lv_goto (tgt := 2) hx hb d_N_find_28 (by decide) ?_
          exact ih2 (k + 1) _ _ ls (by omega) (by omega) (lt_S hpv (fun h => c_20 (hr1.mpr (eqG_same.mpr h)))) hP hS (lv_sub hl [1, 2, 0] rfl)
        · refine lv_iload_n hx hb d_N_find_23 rfl (lv_at hl 2 rfl) ?_
          exact r_i hx hb hr hlocks hP hS (⟨by rw [ho.is (by omega) (eqG_same.mp (hr1.mp c_20)) hpv]; rfl, rfl⟩) d_N_find_24
  refine n_const (k := 0) hx hb d_N_find_0 (by decide) ?_
  refine lv_istore_n (lv' := [(2, .int (nI (0))), (0, .ref (ad (7))), (1, .ref (ad (u)))]) hx hb d_N_find_1 rfl hl (by decide) rfl (fun ls hl => ?_)
  exact J2 (_ + 1) (0) _ _ ls (Nat.lt_succ_self _) (by omega) (fun q hq => absurd hq (Nat.not_lt_zero q)) hP hS (lv_sub hl [1, 2, 0] rfl)

set_option maxHeartbeats 4000000 in
set_option maxRecDepth 100000 in
theorem c_R_size (l : Launch) (D : va_G) (cI cC cZ cT : ClassId) (ad : Nat → Nat) (hI : GI 144 ad) (M : PM) (n nc : Nat) (hn60 : n ≤ 60) (rf rt : Nat → Nat) (hR8 : CR M n nc rf rt) : MD l D cI cC cZ cT ad y_R_size b_R_size 1 (some .int) 0 0 [.ref (ad (136))] M (fun v M' => v = some (.int (nI (nc))) ∧ M = M') := by
  refine MC.of (by decide) (Nat.le_of_ble_eq_true rfl) ?_
  intro p e s m below meth c ls hx hb hr hml hown hg hlocks hK hN hP hS hl
  have hown : s.vm.findClass R_R = some m.cls := hown
  have hl : lv_has ls 1 [(0, .ref (ad (136)))] := hl
  have hnc := hR8.1
  have hrf := hR8.2.2
  refine lv_aload_n hx hb d_R_size_0 rfl (lv_at hl 0 rfl) ?_
  refine g_get (C := R_R) (T := T_R) (N := 3) (ci := 1) (v := .int (M 136 2)) hx hb hg i_R hown hK hP 136 (by decide) rfl rfl 2 (by decide) (hg _ k_110) rfl d_R_size_1 ?_
  refine n_top (y := (nI (nc))) (hR8.2.1) ?_
  exact r_i hx hb hr hlocks hP hS (⟨rfl, rfl⟩) d_R_size_4

set_option maxHeartbeats 4000000 in
set_option maxRecDepth 100000 in
theorem c_R_isFull (l : Launch) (D : va_G) (cI cC cZ cT : ClassId) (ad : Nat → Nat) (hI : GI 144 ad) (M : PM) (n nc : Nat) (hn60 : n ≤ 60) (rf rt : Nat → Nat) (hR8 : CR M n nc rf rt) (b9 : Bool) (hb9 : b9 = true ↔ 20 ≤ nc) : MD l D cI cC cZ cT ad y_R_isFull b_R_isFull 1 (some .boolean) 0 0 [.ref (ad (136))] M (fun v M' => v = some (.int (bI (b9))) ∧ M = M') := by
  refine MC.of (by decide) (Nat.le_of_ble_eq_true rfl) ?_
  intro p e s m below meth c ls hx hb hr hml hown hg hlocks hK hN hP hS hl
  have hown : s.vm.findClass R_R = some m.cls := hown
  have hl : lv_has ls 1 [(0, .ref (ad (136)))] := hl
  have hnc := hR8.1
  have hrf := hR8.2.2
  refine lv_aload_n hx hb d_R_isFull_0 rfl (lv_at hl 0 rfl) ?_
  refine g_get (C := R_R) (T := T_R) (N := 3) (ci := 1) (v := .int (M 136 2)) hx hb hg i_R hown hK hP 136 (by decide) rfl rfl 2 (by decide) (hg _ k_110) rfl d_R_isFull_1 ?_
  refine n_top (y := (nI (nc))) (hR8.2.1) ?_
  refine n_bipush (k := 20) hx hb d_R_isFull_4 (by decide) ?_
  refine n_lt (a := nc) (b := 20) (tgt := 13) hx hb d_R_isFull_6 (by decide) (by omega) (by omega) (fun c_6 => ?_) (fun c_6 => ?_)
  · refine n_const (k := 0) hx hb d_R_isFull_13 (by decide) ?_
    exact r_z hx hb hr hlocks (rfl) hP hS (⟨bz0 (by first | exact hb9.mpr (by omega) | exact b_f hb9 (by omega)), rfl⟩) d_R_isFull_14
  · refine n_const (k := 1) hx hb d_R_isFull_9 (by decide) ?_
    refine lv_goto (tgt := 14) hx hb d_R_isFull_10 (by decide) ?_
    exact r_z hx hb hr hlocks (rfl) hP hS (⟨bz1 (by first | exact hb9.mpr (by omega) | exact b_f hb9 (by omega)), rfl⟩) d_R_isFull_14

set_option maxHeartbeats 4000000 in
set_option maxRecDepth 100000 in
theorem c_R_add (l : Launch) (D : va_G) (cI cC cZ cT : ClassId) (ad : Nat → Nat) (hI : GI 144 ad) (M : PM) (n nc : Nat) (hn60 : n ≤ 60) (rf rt : Nat → Nat) (hR8 : CR M n nc rf rt) (a d9 : Nat) (h20 : nc < 20) : MD l D cI cC cZ cT ad y_R_add b_R_add 3 none 0 0 [.ref (ad (136)), .int (nI (a)), .int (nI (d9))] M (fun v M' => v = none ∧ M' = pu (pu (pu M 137 nc (nI a)) 138 nc (nI d9)) 136 2 (nI (nc + 1))) := by
  refine MC.of (by decide) (Nat.le_of_ble_eq_true rfl) ?_
  intro p e s m below meth c ls hx hb hr hml hown hg hlocks hK hN hP hS hl
  have hown : s.vm.findClass R_R = some m.cls := hown
  have hl : lv_has ls 3 [(0, .ref (ad (136))), (1, .int (nI (a))), (2, .int (nI (d9)))] := hl
  have hnc := hR8.1
  have hrf := hR8.2.2
  refine lv_aload_n hx hb d_R_add_0 rfl (lv_at hl 0 rfl) ?_
  refine g_get (C := R_R) (T := T_R) (N := 3) (ci := 1) (v := .ref (ad (137))) hx hb hg i_R hown hK hP 136 (by decide) rfl rfl 0 (by decide) (hg _ k_108) rfl d_R_add_1 ?_
  refine lv_aload_n hx hb d_R_add_4 rfl (lv_at hl 0 rfl) ?_
  refine g_get (C := R_R) (T := T_R) (N := 3) (ci := 1) (v := .int (M 136 2)) hx hb hg i_R hown hK hP 136 (by decide) rfl rfl 2 (by decide) (hg _ k_110) rfl d_R_add_5 ?_
  refine n_top (y := (nI (nc))) (hR8.2.1) ?_
  refine lv_iload_n hx hb d_R_add_8 rfl (lv_at hl 1 rfl) ?_
  refine g_iast hx hb hK hI (fun _ h => h) hP hS 137 0 (by decide) (fun _ => rfl) rfl (by decide) (j := nc) (by omega) (v := (nI (a))) d_R_add_9 (fun H locs hP hS => ?_)
  obtain ⟨M_1, eM_1⟩ : ∃ z : PM, z = (pu M 137 (nc) ((nI (a)))) := ⟨_, rfl⟩
  rw [← eM_1] at hP
  refine lv_aload_n hx hb d_R_add_10 rfl (lv_at hl 0 rfl) ?_
  refine g_get (C := R_R) (T := T_R) (N := 3) (ci := 1) (v := .ref (ad (138))) hx hb hg i_R hown hK hP 136 (by decide) rfl rfl 1 (by decide) (hg _ k_109) rfl d_R_add_11 ?_
  refine lv_aload_n hx hb d_R_add_14 rfl (lv_at hl 0 rfl) ?_
  refine g_get (C := R_R) (T := T_R) (N := 3) (ci := 1) (v := .int (M_1 136 2)) hx hb hg i_R hown hK hP 136 (by decide) rfl rfl 2 (by decide) (hg _ k_110) rfl d_R_add_15 ?_
  refine n_top (y := (nI (nc))) (by rw [eM_1, pu_k _ _ _ _ _ (by first | decide | omega)]; exact hR8.2.1) ?_
  refine lv_iload_n hx hb d_R_add_18 rfl (lv_at hl 2 rfl) ?_
  refine g_iast hx hb hK hI (fun _ h => h) hP hS 138 0 (by decide) (fun _ => rfl) rfl (by decide) (j := nc) (by omega) (v := (nI (d9))) d_R_add_19 (fun H locs hP hS => ?_)
  obtain ⟨M_2, eM_2⟩ : ∃ z : PM, z = (pu M_1 138 (nc) ((nI (d9)))) := ⟨_, rfl⟩
  rw [← eM_2] at hP
  refine lv_aload_n hx hb d_R_add_20 rfl (lv_at hl 0 rfl) ?_
  refine lv_dup hx hb d_R_add_21 rfl ?_
  refine g_get (C := R_R) (T := T_R) (N := 3) (ci := 1) (v := .int (M_2 136 2)) hx hb hg i_R hown hK hP 136 (by decide) rfl rfl 2 (by decide) (hg _ k_110) rfl d_R_add_22 ?_
  refine n_top (y := (nI (nc))) (by rw [eM_2, pu_k _ _ _ _ _ (by first | decide | omega), eM_1, pu_k _ _ _ _ _ (by first | decide | omega)]; exact hR8.2.1) ?_
  refine n_const (k := 1) hx hb d_R_add_25 (by decide) ?_
  refine n_iadd (a := nc) (b := 1) hx hb d_R_add_26 ?_
  refine g_put (C := R_R) (T := T_R) (N := 3) (ci := 1) (v := (nI ((nc) + (1)))) hx hb hg i_R ty_R t_R_ok n_R hown hK hI (fun _ h => h) hP hS 136 (by decide) rfl rfl 2 (by decide) (hg _ k_110) rfl (by decide +kernel) (Nat.le_of_ble_eq_true rfl) rfl d_R_add_27 (fun H locs hP hS => ?_)
  obtain ⟨M_3, eM_3⟩ : ∃ z : PM, z = (pu M_2 136 2 ((nI ((nc) + (1))))) := ⟨_, rfl⟩
  rw [← eM_3] at hP
  exact r_v hx hb hr hlocks hP hS (⟨rfl, by rw [eM_3, eM_2, eM_1]⟩) d_R_add_30

set_option maxHeartbeats 4000000 in
set_option maxRecDepth 100000 in
theorem c_R_forward (l : Launch) (D : va_G) (cI cC cZ cT : ClassId) (ad : Nat → Nat) (hI : GI 144 ad) (M : PM) (n nc : Nat) (hn60 : n ≤ 60) (rf rt : Nat → Nat) (hR8 : CR M n nc rf rt) (a : Nat) (ha : a < n) : MD l D cI cC cZ cT ad y_R_forward b_R_forward 4 (some .int) 0 0 [.ref (ad (136)), .int (nI (a))] M (fun v M' => v = some (.int (nI (nowF rf rt a nc))) ∧ M = M') := by
  refine MC.of (by decide) (Nat.le_of_ble_eq_true rfl) ?_
  intro p e s m below meth c ls hx hb hr hml hown hg hlocks hK hN hP hS hl
  have hown : s.vm.findClass R_R = some m.cls := hown
  have hl : lv_has ls 4 [(0, .ref (ad (136))), (1, .int (nI (a)))] := hl
  have hnc := hR8.1
  have hrf := hR8.2.2
  have J4 : ∀ (fu4 : Nat) (i : Nat) (y : Nat) (H : Heap) (locs : List Loc) (ls : Array Slot), nc - i < fu4 → (i ≤ nc) → (y = nowF rf rt a i) → (y < n) → va_P D clsA (gw 144 ad (cfC cI cC cZ cT ad) M) H → va_S (GA 144 ad) s.heap H locs → lv_has ls 4 [(0, .ref (ad (136))), (2, .int (nI (y))), (3, .int (nI (i)))] → W p l e (rm_ 0 0) s m ([.ref (ad (136)), .int (nI (a))] : List Value).toArray below meth c H locs 0 0 (MQ below (GQ D 144 ad (cfC cI cC cZ cT ad) (fun v M' => v = some (.int (nI (nowF rf rt a nc))) ∧ M = M')) ([.ref (ad (136)), .int (nI (a))] : List Value).toArray s 0 0 (GA 144 ad)) (F0 m 4 ls []) := by
    intro fu4
    induction fu4 with
    | zero => intro i y H locs ls hfu; exact absurd hfu (Nat.not_lt_zero _)
    | succ fu4 ih4 =>
      intro i y H locs ls hfu4 hi hy hyn hP hS hl
      refine lv_iload_n hx hb d_R_forward_4 rfl (lv_at hl 2 rfl) ?_
      refine lv_aload_n hx hb d_R_forward_5 rfl (lv_at hl 0 rfl) ?_
      refine g_get (C := R_R) (T := T_R) (N := 3) (ci := 1) (v := .int (M 136 2)) hx hb hg i_R hown hK hP 136 (by decide) rfl rfl 2 (by decide) (hg _ k_110) rfl d_R_forward_6 ?_
      refine n_top (y := (nI (nc))) (hR8.2.1) ?_
      refine n_ge (a := i) (b := nc) (tgt := 35) hx hb d_R_forward_9 (by decide) (by omega) (by omega) (fun c_9 => ?_) (fun c_9 => ?_)
      · refine lv_iload_n hx hb d_R_forward_35 rfl (lv_at hl 1 rfl) ?_
        exact r_i hx hb hr hlocks hP hS (⟨by rw [hy, show i = nc by omega], rfl⟩) d_R_forward_36
      · refine lv_aload_n hx hb d_R_forward_12 rfl (lv_at hl 0 rfl) ?_
        refine g_get (C := R_R) (T := T_R) (N := 3) (ci := 1) (v := .ref (ad (137))) hx hb hg i_R hown hK hP 136 (by decide) rfl rfl 0 (by decide) (hg _ k_108) rfl d_R_forward_13 ?_
        refine lv_iload_n hx hb d_R_forward_16 rfl (lv_at hl 2 rfl) ?_
        refine g_iald hx hb hK hP 137 0 (by decide) rfl rfl (by decide) (j := i) (by omega) d_R_forward_17 ?_
        refine n_top (y := (nI (rf (i)))) ((hR8.2.2 (i) (by omega)).2.2.1) ?_
        refine lv_iload_n hx hb d_R_forward_18 rfl (lv_at hl 1 rfl) ?_
        refine n_ne (a := rf (i)) (b := y) (tgt := 29) hx hb d_R_forward_19 (by decide) (by have := hrf i (by omega); omega) (by omega) (fun c_19 => ?_) (fun c_19 => ?_)
        · have hy9 : y = nowF rf rt a (i + 1) := by simp only [nowF]; rw [← hy, if_neg c_19]
          have hyn9 := hyn
          refine n_inc (lv' := [(3, .int (nI (i + 1))), (0, .ref (ad (136))), (2, .int (nI (y)))]) hx hb d_R_forward_29 hl (k := 2) rfl (by decide) rfl (fun ls hl => ?_)
          refine lv_goto (tgt := 4) hx hb d_R_forward_32 (by decide) ?_
          exact ih4 (i + 1) (y) _ _ ls (by omega) (by omega) (hy9) (hyn9) hP hS (lv_sub hl [1, 2, 0] rfl)
        · have hy9 : rt i = nowF rf rt a (i + 1) := by simp only [nowF]; rw [← hy, if_pos c_19]
          have hyn9 := (hrf i (by omega)).2.1
          refine lv_aload_n hx hb d_R_forward_22 rfl (lv_at hl 0 rfl) ?_
          refine g_get (C := R_R) (T := T_R) (N := 3) (ci := 1) (v := .ref (ad (138))) hx hb hg i_R hown hK hP 136 (by decide) rfl rfl 1 (by decide) (hg _ k_109) rfl d_R_forward_23 ?_
          refine lv_iload_n hx hb d_R_forward_26 rfl (lv_at hl 2 rfl) ?_
          refine g_iald hx hb hK hP 138 0 (by decide) rfl rfl (by decide) (j := i) (by omega) d_R_forward_27 ?_
          refine n_top (y := (nI (rt (i)))) ((hR8.2.2 (i) (by omega)).2.2.2) ?_
          refine lv_istore_n (lv' := [(2, .int (nI (rt (i)))), (0, .ref (ad (136))), (3, .int (nI (i)))]) hx hb d_R_forward_28 rfl hl (by decide) rfl (fun ls hl => ?_)
          refine n_inc (lv' := [(3, .int (nI (i + 1))), (2, .int (nI (rt (i)))), (0, .ref (ad (136)))]) hx hb d_R_forward_29 hl (k := 2) rfl (by decide) rfl (fun ls hl => ?_)
          refine lv_goto (tgt := 4) hx hb d_R_forward_32 (by decide) ?_
          exact ih4 (i + 1) (rt (i)) _ _ ls (by omega) (by omega) (hy9) (hyn9) hP hS (lv_sub hl [2, 1, 0] rfl)
  refine lv_iload_n hx hb d_R_forward_0 rfl (lv_at hl 1 rfl) ?_
  refine lv_istore_n (lv' := [(2, .int (nI (a))), (0, .ref (ad (136))), (1, .int (nI (a)))]) hx hb d_R_forward_1 rfl hl (by decide) rfl (fun ls hl => ?_)
  refine n_const (k := 0) hx hb d_R_forward_2 (by decide) ?_
  refine lv_istore_n (lv' := [(3, .int (nI (0))), (2, .int (nI (a))), (0, .ref (ad (136))), (1, .int (nI (a)))]) hx hb d_R_forward_3 rfl hl (by decide) rfl (fun ls hl => ?_)
  exact J4 (_ + 1) (0) (a) _ _ ls (Nat.lt_succ_self _) (by omega) (rfl) (ha) hP hS (lv_sub hl [2, 1, 0] rfl)

set_option maxHeartbeats 4000000 in
set_option maxRecDepth 100000 in
theorem c_R_back (l : Launch) (D : va_G) (cI cC cZ cT : ClassId) (ad : Nat → Nat) (hI : GI 144 ad) (M : PM) (n nc : Nat) (hn60 : n ≤ 60) (rf rt : Nat → Nat) (hR8 : CR M n nc rf rt) (a : Nat) (ha : a < n) : MD l D cI cC cZ cT ad y_R_back b_R_back 4 (some .int) 0 0 [.ref (ad (136)), .int (nI (a))] M (fun v M' => v = some (.int (nI (wasF rf rt nc a))) ∧ M = M') := by
  refine MC.of (by decide) (Nat.le_of_ble_eq_true rfl) ?_
  intro p e s m below meth c ls hx hb hr hml hown hg hlocks hK hN hP hS hl
  have hown : s.vm.findClass R_R = some m.cls := hown
  have hl : lv_has ls 4 [(0, .ref (ad (136))), (1, .int (nI (a)))] := hl
  have hnc := hR8.1
  have hrf := hR8.2.2
  have J9 : ∀ (fu9 : Nat) (i : Nat) (y : Nat) (H : Heap) (locs : List Loc) (ls : Array Slot), i < fu9 → (i ≤ nc) → (wasF rf rt i y = wasF rf rt nc a) → (y < n) → va_P D clsA (gw 144 ad (cfC cI cC cZ cT ad) M) H → va_S (GA 144 ad) s.heap H locs → lv_has ls 4 [(0, .ref (ad (136))), (2, .int (nI (y))), (3, .int (nI (i) - 1))] → W p l e (rm_ 0 0) s m ([.ref (ad (136)), .int (nI (a))] : List Value).toArray below meth c H locs 0 0 (MQ below (GQ D 144 ad (cfC cI cC cZ cT ad) (fun v M' => v = some (.int (nI (wasF rf rt nc a))) ∧ M = M')) ([.ref (ad (136)), .int (nI (a))] : List Value).toArray s 0 0 (GA 144 ad)) (F0 m 9 ls []) := by
    intro fu9
    induction fu9 with
    | zero => intro i y H locs ls hfu; exact absurd hfu (Nat.not_lt_zero _)
    | succ fu9 ih9 =>
      intro i y H locs ls hfu9 hi hy hyn hP hS hl
      refine lv_iload_n hx hb d_R_back_9 rfl (lv_at hl 2 rfl) ?_
      refine lv_if_lt (tgt := 36) hx hb d_R_back_10 (by decide) (fun c_10 => ?_) (fun c_10 => ?_)
      · refine lv_iload_n hx hb d_R_back_36 rfl (lv_at hl 1 rfl) ?_
        exact r_i hx hb hr hlocks hP hS (⟨by rw [← hy, (nI_p0 (by omega)).mp c_10]; rfl, rfl⟩) d_R_back_37
      · obtain ⟨j, rfl⟩ : ∃ j, i = j + 1 := ⟨i - 1, by have : ¬ i = 0 := fun h => c_10 ((nI_p0 (by omega)).mpr h); omega⟩
        rw [nI_pred] at hl
        have hl : lv_has ls 4 [(0, .ref (ad (136))), (2, .int (nI (y))), (3, .int (nI (j)))] := hl
        refine lv_aload_n hx hb d_R_back_13 rfl (lv_at hl 0 rfl) ?_
        refine g_get (C := R_R) (T := T_R) (N := 3) (ci := 1) (v := .ref (ad (138))) hx hb hg i_R hown hK hP 136 (by decide) rfl rfl 1 (by decide) (hg _ k_109) rfl d_R_back_14 ?_
        refine lv_iload_n hx hb d_R_back_17 rfl (lv_at hl 2 rfl) ?_
        refine g_iald hx hb hK hP 138 0 (by decide) rfl rfl (by decide) (j := j) (by omega) d_R_back_18 ?_
        refine n_top (y := (nI (rt (j)))) ((hR8.2.2 (j) (by omega)).2.2.2) ?_
        refine lv_iload_n hx hb d_R_back_19 rfl (lv_at hl 1 rfl) ?_
        refine n_ne (a := rt (j)) (b := y) (tgt := 30) hx hb d_R_back_20 (by decide) (by have := hrf j (by omega); omega) (by omega) (fun c_20 => ?_) (fun c_20 => ?_)
        · have hy9 : wasF rf rt j y = wasF rf rt nc a := by rw [← hy]; simp only [wasF]; rw [if_neg c_20]
          have hyn9 := hyn
          refine lv_iinc (v := ((nI (j)) - 1)) (lv' := [(3, .int ((nI (j)) - 1)), (0, .ref (ad (136))), (2, .int (nI (y)))]) hx hb d_R_back_30 hl (k := 2) rfl (decI _) (by decide) rfl (fun ls hl => ?_)
          refine lv_goto (tgt := 9) hx hb d_R_back_33 (by decide) ?_
          exact ih9 (j) (y) _ _ ls (by omega) (by omega) (hy9) (hyn9) hP hS (lv_sub hl [1, 2, 0] rfl)
        · have hy9 : wasF rf rt j (rf j) = wasF rf rt nc a := by rw [← hy]; simp only [wasF]; rw [if_pos c_20]
          have hyn9 := (hrf j (by omega)).1
          refine lv_aload_n hx hb d_R_back_23 rfl (lv_at hl 0 rfl) ?_
          refine g_get (C := R_R) (T := T_R) (N := 3) (ci := 1) (v := .ref (ad (137))) hx hb hg i_R hown hK hP 136 (by decide) rfl rfl 0 (by decide) (hg _ k_108) rfl d_R_back_24 ?_
          refine lv_iload_n hx hb d_R_back_27 rfl (lv_at hl 2 rfl) ?_
          refine g_iald hx hb hK hP 137 0 (by decide) rfl rfl (by decide) (j := j) (by omega) d_R_back_28 ?_
          refine n_top (y := (nI (rf (j)))) ((hR8.2.2 (j) (by omega)).2.2.1) ?_
          refine lv_istore_n (lv' := [(2, .int (nI (rf (j)))), (0, .ref (ad (136))), (3, .int (nI (j)))]) hx hb d_R_back_29 rfl hl (by decide) rfl (fun ls hl => ?_)
          refine lv_iinc (v := ((nI (j)) - 1)) (lv' := [(3, .int ((nI (j)) - 1)), (2, .int (nI (rf (j)))), (0, .ref (ad (136)))]) hx hb d_R_back_30 hl (k := 2) rfl (decI _) (by decide) rfl (fun ls hl => ?_)
          refine lv_goto (tgt := 9) hx hb d_R_back_33 (by decide) ?_
          exact ih9 (j) (rf (j)) _ _ ls (by omega) (by omega) (hy9) (hyn9) hP hS (lv_sub hl [2, 1, 0] rfl)
  refine lv_iload_n hx hb d_R_back_0 rfl (lv_at hl 1 rfl) ?_
  refine lv_istore_n (lv' := [(2, .int (nI (a))), (0, .ref (ad (136))), (1, .int (nI (a)))]) hx hb d_R_back_1 rfl hl (by decide) rfl (fun ls hl => ?_)
  refine lv_aload_n hx hb d_R_back_2 rfl (lv_at hl 1 rfl) ?_
  refine g_get (C := R_R) (T := T_R) (N := 3) (ci := 1) (v := .int (M 136 2)) hx hb hg i_R hown hK hP 136 (by decide) rfl rfl 2 (by decide) (hg _ k_110) rfl d_R_back_3 ?_
  refine n_top (y := (nI (nc))) (hR8.2.1) ?_
  refine n_const (k := 1) hx hb d_R_back_6 (by decide) ?_
  refine lv_isub hx hb d_R_back_7 ?_
  refine n_top (y := nI (nc) - 1) rfl ?_
  refine lv_istore_n (lv' := [(3, .int (nI (nc) - 1)), (2, .int (nI (a))), (0, .ref (ad (136))), (1, .int (nI (a)))]) hx hb d_R_back_8 rfl hl (by decide) rfl (fun ls hl => ?_)
  exact J9 (_ + 1) (nc) (a) _ _ ls (Nat.lt_succ_self _) (by omega) (rfl) (ha) hP hS (lv_sub hl [2, 1, 0] rfl)

set_option maxHeartbeats 4000000 in
set_option maxRecDepth 100000 in
theorem c_W_size (l : Launch) (D : va_G) (cI cC cZ cT : ClassId) (ad : Nat → Nat) (hI : GI 144 ad) (M : PM) (n rc : Nat) (hn60 : n ≤ 60) (rw_ : Nat → Nat) (hW7 : CW M n rc rw_) : MD l D cI cC cZ cT ad y_W_size b_W_size 1 (some .int) 0 0 [.ref (ad (132))] M (fun v M' => v = some (.int (nI (rc))) ∧ M = M') := by
  refine MC.of (by decide) (Nat.le_of_ble_eq_true rfl) ?_
  intro p e s m below meth c ls hx hb hr hml hown hg hlocks hK hN hP hS hl
  have hown : s.vm.findClass R_W = some m.cls := hown
  have hl : lv_has ls 1 [(0, .ref (ad (132)))] := hl
  have hrc := hW7.1
  have hrw := hW7.2.2
  refine lv_aload_n hx hb d_W_size_0 rfl (lv_at hl 0 rfl) ?_
  refine g_get (C := R_W) (T := T_W) (N := 2) (ci := 2) (v := .int (M 132 1)) hx hb hg i_W hown hK hP 132 (by decide) rfl rfl 1 (by decide) (hg _ k_86) rfl d_W_size_1 ?_
  refine n_top (y := (nI (rc))) (hW7.2.1) ?_
  exact r_i hx hb hr hlocks hP hS (⟨rfl, rfl⟩) d_W_size_4

set_option maxHeartbeats 4000000 in
set_option maxRecDepth 100000 in
theorem c_W_has (l : Launch) (D : va_G) (cI cC cZ cT : ClassId) (ad : Nat → Nat) (hI : GI 144 ad) (M : PM) (n rc : Nat) (hn60 : n ≤ 60) (rw_ : Nat → Nat) (hW7 : CW M n rc rw_) (x : Int32) (b9 : Bool) (hb9 : b9 = true ↔ ∃ j, j < rc ∧ x = nI j) : MD l D cI cC cZ cT ad y_W_has b_W_has 2 (some .boolean) 0 0 [.ref (ad (132)), .int (x)] M (fun v M' => v = some (.int (bI (b9))) ∧ M = M') := by
  refine MC.of (by decide) (Nat.le_of_ble_eq_true rfl) ?_
  intro p e s m below meth c ls hx hb hr hml hown hg hlocks hK hN hP hS hl
  have hown : s.vm.findClass R_W = some m.cls := hown
  have hl : lv_has ls 2 [(0, .ref (ad (132))), (1, .int (x))] := hl
  have hrc := hW7.1
  have hrw := hW7.2.2
  have hcase := pk_ix x (n := rc) (by omega)
  refine lv_iload_n hx hb d_W_has_0 rfl (lv_at hl 1 rfl) ?_
  refine lv_if_lt (tgt := 16) hx hb d_W_has_1 (by decide) (fun c_1 => ?_) (fun c_1 => ?_)
  · have h9 : b9 = false := b_f hb9 (fun ⟨j, hj, e⟩ => by rw [e] at c_1; exact nI_pos (by omega) c_1)
    refine n_const (k := 0) hx hb d_W_has_16 (by decide) ?_
    exact r_z hx hb hr hlocks (rfl) hP hS (⟨bz0 (h9), rfl⟩) d_W_has_17
  · refine lv_iload_n hx hb d_W_has_4 rfl (lv_at hl 1 rfl) ?_
    refine lv_aload_n hx hb d_W_has_5 rfl (lv_at hl 0 rfl) ?_
    refine g_get (C := R_W) (T := T_W) (N := 2) (ci := 2) (v := .int (M 132 1)) hx hb hg i_W hown hK hP 132 (by decide) rfl rfl 1 (by decide) (hg _ k_86) rfl d_W_has_6 ?_
    refine n_top (y := (nI (rc))) (hW7.2.1) ?_
    refine lv_icmp_ge (tgt := 16) hx hb d_W_has_9 (by decide) (fun c_9 => ?_) (fun c_9 => ?_)
    · have h9 : b9 = false := b_f hb9 (fun ⟨j, hj, e⟩ => by rw [e] at c_9; exact nI_ge hj (by omega) c_9)
      refine n_const (k := 0) hx hb d_W_has_16 (by decide) ?_
      exact r_z hx hb hr hlocks (rfl) hP hS (⟨bz0 (h9), rfl⟩) d_W_has_17
    · have h9 : b9 = true := hb9.mpr (by
        rcases hcase with q | q | q
        · exact absurd q c_1
        · exact absurd q c_9
        · exact q)
      refine n_const (k := 1) hx hb d_W_has_12 (by decide) ?_
      refine lv_goto (tgt := 17) hx hb d_W_has_13 (by decide) ?_
      exact r_z hx hb hr hlocks (rfl) hP hS (⟨bz1 (h9), rfl⟩) d_W_has_17

set_option maxHeartbeats 4000000 in
set_option maxRecDepth 100000 in
theorem c_W_isFull (l : Launch) (D : va_G) (cI cC cZ cT : ClassId) (ad : Nat → Nat) (hI : GI 144 ad) (M : PM) (n rc : Nat) (hn60 : n ≤ 60) (rw_ : Nat → Nat) (hW7 : CW M n rc rw_) (b9 : Bool) (hb9 : b9 = true ↔ 40 ≤ rc) : MD l D cI cC cZ cT ad y_W_isFull b_W_isFull 1 (some .boolean) 0 0 [.ref (ad (132))] M (fun v M' => v = some (.int (bI (b9))) ∧ M = M') := by
  refine MC.of (by decide) (Nat.le_of_ble_eq_true rfl) ?_
  intro p e s m below meth c ls hx hb hr hml hown hg hlocks hK hN hP hS hl
  have hown : s.vm.findClass R_W = some m.cls := hown
  have hl : lv_has ls 1 [(0, .ref (ad (132)))] := hl
  have hrc := hW7.1
  have hrw := hW7.2.2
  refine lv_aload_n hx hb d_W_isFull_0 rfl (lv_at hl 0 rfl) ?_
  refine g_get (C := R_W) (T := T_W) (N := 2) (ci := 2) (v := .int (M 132 1)) hx hb hg i_W hown hK hP 132 (by decide) rfl rfl 1 (by decide) (hg _ k_86) rfl d_W_isFull_1 ?_
  refine n_top (y := (nI (rc))) (hW7.2.1) ?_
  refine n_bipush (k := 40) hx hb d_W_isFull_4 (by decide) ?_
  refine n_lt (a := rc) (b := 40) (tgt := 13) hx hb d_W_isFull_6 (by decide) (by omega) (by omega) (fun c_6 => ?_) (fun c_6 => ?_)
  · refine n_const (k := 0) hx hb d_W_isFull_13 (by decide) ?_
    exact r_z hx hb hr hlocks (rfl) hP hS (⟨bz0 (by first | exact hb9.mpr (by omega) | exact b_f hb9 (by omega)), rfl⟩) d_W_isFull_14
  · refine n_const (k := 1) hx hb d_W_isFull_9 (by decide) ?_
    refine lv_goto (tgt := 14) hx hb d_W_isFull_10 (by decide) ?_
    exact r_z hx hb hr hlocks (rfl) hP hS (⟨bz1 (by first | exact hb9.mpr (by omega) | exact b_f hb9 (by omega)), rfl⟩) d_W_isFull_14

set_option maxHeartbeats 4000000 in
set_option maxRecDepth 100000 in
theorem c_W_cell (l : Launch) (D : va_G) (cI cC cZ cT : ClassId) (ad : Nat → Nat) (hI : GI 144 ad) (M : PM) (n rc : Nat) (hn60 : n ≤ 60) (rw_ : Nat → Nat) (hW7 : CW M n rc rw_) (k w : Nat) (hk : k < rc) (hw : w < 3) : MD l D cI cC cZ cT ad y_W_cell b_W_cell 3 (some .int) 0 0 [.ref (ad (132)), .int (nI (k)), .int (nI (w))] M (fun v M' => v = some (.int (nI (rw_ (3 * k + w)))) ∧ M = M') := by
  refine MC.of (by decide) (Nat.le_of_ble_eq_true rfl) ?_
  intro p e s m below meth c ls hx hb hr hml hown hg hlocks hK hN hP hS hl
  have hown : s.vm.findClass R_W = some m.cls := hown
  have hl : lv_has ls 3 [(0, .ref (ad (132))), (1, .int (nI (k))), (2, .int (nI (w)))] := hl
  have hrc := hW7.1
  have hrw := hW7.2.2
  refine lv_aload_n hx hb d_W_cell_0 rfl (lv_at hl 0 rfl) ?_
  refine g_get (C := R_W) (T := T_W) (N := 2) (ci := 2) (v := .ref (ad (133))) hx hb hg i_W hown hK hP 132 (by decide) rfl rfl 0 (by decide) (hg _ k_85) rfl d_W_cell_1 ?_
  refine lv_iload_n hx hb d_W_cell_4 rfl (lv_at hl 1 rfl) ?_
  refine n_const (k := 3) hx hb d_W_cell_5 (by decide) ?_
  refine n_imul (a := k) (b := 3) hx hb d_W_cell_6 ?_
  refine lv_iload_n hx hb d_W_cell_7 rfl (lv_at hl 2 rfl) ?_
  refine n_iadd (a := (k) * (3)) (b := w) hx hb d_W_cell_8 ?_
  refine g_iald hx hb hK hP 133 0 (by decide) rfl rfl (by decide) (j := ((k) * (3)) + (w)) (by omega) d_W_cell_9 ?_
  refine n_top (y := (nI (rw_ (3 * k + w)))) (by rw [Nat.mul_comm k 3]; exact (hW7.2.2 (3 * k + w) (by omega)).2) ?_
  exact r_i hx hb hr hlocks hP hS (⟨rfl, rfl⟩) d_W_cell_10

set_option maxHeartbeats 4000000 in
set_option maxRecDepth 100000 in
theorem c_W_rowOfTerm (l : Launch) (D : va_G) (cI cC cZ cT : ClassId) (ad : Nat → Nat) (hI : GI 144 ad) (M : PM) (n rc : Nat) (hn60 : n ≤ 60) (rw_ : Nat → Nat) (hW7 : CW M n rc rw_) (a : Nat) (ha : a < n) (o : Option Nat) (ho : Fst (fun k => rw_ (3 * k) = a) rc o) : MD l D cI cC cZ cT ad y_W_rowOfTerm b_W_rowOfTerm 3 (some .int) 1 22 [.ref (ad (132)), .int (nI (a))] M (fun v M' => v = some (.int (oI (o))) ∧ M = M') := by
  refine MC.of (by decide) (Nat.le_of_ble_eq_true rfl) ?_
  intro p e s m below meth c ls hx hb hr hml hown hg hlocks hK hN hP hS hl
  have hown : s.vm.findClass R_W = some m.cls := hown
  have hl : lv_has ls 3 [(0, .ref (ad (132))), (1, .int (nI (a)))] := hl
  have hrc := hW7.1
  have hrw := hW7.2.2
  have J2 : ∀ (fu2 : Nat) (i : Nat) (H : Heap) (locs : List Loc) (ls : Array Slot), rc - i < fu2 → (i ≤ rc) → (∀ q, q < i → ¬ rw_ (3 * q) = a) → va_P D clsA (gw 144 ad (cfC cI cC cZ cT ad) M) H → va_S (GA 144 ad) s.heap H locs → lv_has ls 3 [(0, .ref (ad (132))), (1, .int (nI (a))), (2, .int (nI (i)))] → W p l e (rm_ 1 22) s m ([.ref (ad (132)), .int (nI (a))] : List Value).toArray below meth c H locs 0 0 (MQ below (GQ D 144 ad (cfC cI cC cZ cT ad) (fun v M' => v = some (.int (oI (o))) ∧ M = M')) ([.ref (ad (132)), .int (nI (a))] : List Value).toArray s 0 0 (GA 144 ad)) (F0 m 2 ls []) := by
    intro fu2
    induction fu2 with
    | zero => intro i H locs ls hfu; exact absurd hfu (Nat.not_lt_zero _)
    | succ fu2 ih2 =>
      intro i H locs ls hfu2 hi hpv hP hS hl
      refine lv_iload_n hx hb d_W_rowOfTerm_2 rfl (lv_at hl 2 rfl) ?_
      refine lv_aload_n hx hb d_W_rowOfTerm_3 rfl (lv_at hl 0 rfl) ?_
      refine g_get (C := R_W) (T := T_W) (N := 2) (ci := 2) (v := .int (M 132 1)) hx hb hg i_W hown hK hP 132 (by decide) rfl rfl 1 (by decide) (hg _ k_86) rfl d_W_rowOfTerm_4 ?_
      refine n_top (y := (nI (rc))) (hW7.2.1) ?_
      refine n_ge (a := i) (b := rc) (tgt := 28) hx hb d_W_rowOfTerm_7 (by decide) (by omega) (by omega) (fun c_7 => ?_) (fun c_7 => ?_)
      · refine lv_iconst (v := -1) hx hb d_W_rowOfTerm_28 (by decide) ?_
        exact r_i hx hb hr hlocks hP hS (⟨by rw [ho.no (fun j hj => hpv j (by omega))]; rfl, rfl⟩) d_W_rowOfTerm_29
      · refine lv_aload_n hx hb d_W_rowOfTerm_10 rfl (lv_at hl 0 rfl) ?_
        refine lv_iload_n hx hb d_W_rowOfTerm_11 rfl (lv_at hl 2 rfl) ?_
        refine n_const (k := 0) hx hb d_W_rowOfTerm_12 (by decide) ?_
        refine c_V (own := R_W) (index := 19) (As := [.int (nI (i)), .int (nI (0))]) (rest := []) hx hb hml hown hg hK NXc.same hN.warm (fun _ h => h) hP hS 132 (c_W_cell l D cI cC cZ cT ad hI M n rc hn60 rw_ hW7 (i) (0) (by omega) (by omega)) (by decide) (ci := 2) rfl rfl k_531 k_532 k_533 k_5 k_534 2 rfl (by decide +kernel) (by decide) rfl hl.1 (Nat.le_of_ble_eq_true rfl) d_W_rowOfTerm_13 (fun v M' H locs hq hP _ _ hS => ?_)
        obtain ⟨rfl, rfl⟩ := hq
        refine W.eq (g2 := F0 m 16 ls [.int (nI (rw_ (3 * (i))))]) rfl ?_
        refine lv_iload_n hx hb d_W_rowOfTerm_16 rfl (lv_at hl 1 rfl) ?_
        refine n_ne (a := rw_ (3 * (i))) (b := a) (tgt := 22) hx hb d_W_rowOfTerm_17 (by decide) (by have := hrw (3 * i) (by omega); omega) (by omega) (fun c_17 => ?_) (fun c_17 => ?_)
        · refine n_inc (lv' := [(2, .int (nI (i + 1))), (0, .ref (ad (132))), (1, .int (nI (a)))]) hx hb d_W_rowOfTerm_22 hl (k := 2) rfl (by decide) rfl (fun ls hl => ?_)
          refine lv_goto (tgt := 2) hx hb d_W_rowOfTerm_25 (by decide) ?_
          exact ih2 (i + 1) _ _ ls (by omega) (by omega) (lt_S hpv c_17) hP hS (lv_sub hl [1, 2, 0] rfl)
        · refine lv_iload_n hx hb d_W_rowOfTerm_20 rfl (lv_at hl 2 rfl) ?_
          exact r_i hx hb hr hlocks hP hS (⟨by rw [ho.is (by omega) c_17 hpv]; rfl, rfl⟩) d_W_rowOfTerm_21
  refine n_const (k := 0) hx hb d_W_rowOfTerm_0 (by decide) ?_
  refine lv_istore_n (lv' := [(2, .int (nI (0))), (0, .ref (ad (132))), (1, .int (nI (a)))]) hx hb d_W_rowOfTerm_1 rfl hl (by decide) rfl (fun ls hl => ?_)
  exact J2 (_ + 1) (0) _ _ ls (Nat.lt_succ_self _) (by omega) (fun q hq => absurd hq (Nat.not_lt_zero q)) hP hS (lv_sub hl [1, 2, 0] rfl)

set_option maxHeartbeats 4000000 in
set_option maxRecDepth 100000 in
theorem c_W_add (l : Launch) (D : va_G) (cI cC cZ cT : ClassId) (ad : Nat → Nat) (hI : GI 144 ad) (M : PM) (n rc : Nat) (hn60 : n ≤ 60) (rw_ : Nat → Nat) (hW7 : CW M n rc rw_) (a d9 e9 : Nat) (h40 : rc < 40) : MD l D cI cC cZ cT ad y_W_add b_W_add 5 (some .int) 0 0 [.ref (ad (132)), .int (nI (a)), .int (nI (d9)), .int (nI (e9))] M (fun v M' => v = some (.int (nI rc)) ∧ M' = pu (pu (pu (pu M 133 (3 * rc) (nI a)) 133 (3 * rc + 1) (nI d9)) 133 (3 * rc + 2) (nI e9)) 132 1 (nI (rc + 1))) := by
  refine MC.of (by decide) (Nat.le_of_ble_eq_true rfl) ?_
  intro p e s m below meth c ls hx hb hr hml hown hg hlocks hK hN hP hS hl
  have hown : s.vm.findClass R_W = some m.cls := hown
  have hl : lv_has ls 5 [(0, .ref (ad (132))), (1, .int (nI (a))), (2, .int (nI (d9))), (3, .int (nI (e9)))] := hl
  have hrc := hW7.1
  have hrw := hW7.2.2
  refine lv_aload_n hx hb d_W_add_0 rfl (lv_at hl 0 rfl) ?_
  refine g_get (C := R_W) (T := T_W) (N := 2) (ci := 2) (v := .int (M 132 1)) hx hb hg i_W hown hK hP 132 (by decide) rfl rfl 1 (by decide) (hg _ k_86) rfl d_W_add_1 ?_
  refine n_top (y := (nI (rc))) (hW7.2.1) ?_
  refine lv_istore (lv' := [(4, .int (nI (rc))), (0, .ref (ad (132))), (1, .int (nI (a))), (2, .int (nI (d9))), (3, .int (nI (e9)))]) hx hb d_W_add_4 hl (by decide) rfl (fun ls hl => ?_)
  refine lv_aload_n hx hb d_W_add_6 rfl (lv_at hl 1 rfl) ?_
  refine g_get (C := R_W) (T := T_W) (N := 2) (ci := 2) (v := .ref (ad (133))) hx hb hg i_W hown hK hP 132 (by decide) rfl rfl 0 (by decide) (hg _ k_85) rfl d_W_add_7 ?_
  refine lv_iload hx hb d_W_add_10 (lv_at hl 0 rfl) ?_
  refine n_const (k := 3) hx hb d_W_add_12 (by decide) ?_
  refine n_imul (a := rc) (b := 3) hx hb d_W_add_13 ?_
  refine n_const (k := 0) hx hb d_W_add_14 (by decide) ?_
  refine n_iadd (a := (rc) * (3)) (b := 0) hx hb d_W_add_15 ?_
  refine lv_iload_n hx hb d_W_add_16 rfl (lv_at hl 2 rfl) ?_
  refine g_iast hx hb hK hI (fun _ h => h) hP hS 133 0 (by decide) (fun _ => rfl) rfl (by decide) (j := ((rc) * (3)) + (0)) (by omega) (v := (nI (a))) d_W_add_17 (fun H locs hP hS => ?_)
  obtain ⟨M_1, eM_1⟩ : ∃ z : PM, z = (pu M 133 (((rc) * (3)) + (0)) ((nI (a)))) := ⟨_, rfl⟩
  rw [← eM_1] at hP
  refine lv_aload_n hx hb d_W_add_18 rfl (lv_at hl 1 rfl) ?_
  refine g_get (C := R_W) (T := T_W) (N := 2) (ci := 2) (v := .ref (ad (133))) hx hb hg i_W hown hK hP 132 (by decide) rfl rfl 0 (by decide) (hg _ k_85) rfl d_W_add_19 ?_
  refine lv_iload hx hb d_W_add_22 (lv_at hl 0 rfl) ?_
  refine n_const (k := 3) hx hb d_W_add_24 (by decide) ?_
  refine n_imul (a := rc) (b := 3) hx hb d_W_add_25 ?_
  refine n_const (k := 1) hx hb d_W_add_26 (by decide) ?_
  refine n_iadd (a := (rc) * (3)) (b := 1) hx hb d_W_add_27 ?_
  refine lv_iload_n hx hb d_W_add_28 rfl (lv_at hl 3 rfl) ?_
  refine g_iast hx hb hK hI (fun _ h => h) hP hS 133 0 (by decide) (fun _ => rfl) rfl (by decide) (j := ((rc) * (3)) + (1)) (by omega) (v := (nI (d9))) d_W_add_29 (fun H locs hP hS => ?_)
  obtain ⟨M_2, eM_2⟩ : ∃ z : PM, z = (pu M_1 133 (((rc) * (3)) + (1)) ((nI (d9)))) := ⟨_, rfl⟩
  rw [← eM_2] at hP
  refine lv_aload_n hx hb d_W_add_30 rfl (lv_at hl 1 rfl) ?_
  refine g_get (C := R_W) (T := T_W) (N := 2) (ci := 2) (v := .ref (ad (133))) hx hb hg i_W hown hK hP 132 (by decide) rfl rfl 0 (by decide) (hg _ k_85) rfl d_W_add_31 ?_
  refine lv_iload hx hb d_W_add_34 (lv_at hl 0 rfl) ?_
  refine n_const (k := 3) hx hb d_W_add_36 (by decide) ?_
  refine n_imul (a := rc) (b := 3) hx hb d_W_add_37 ?_
  refine n_const (k := 2) hx hb d_W_add_38 (by decide) ?_
  refine n_iadd (a := (rc) * (3)) (b := 2) hx hb d_W_add_39 ?_
  refine lv_iload_n hx hb d_W_add_40 rfl (lv_at hl 4 rfl) ?_
  refine g_iast hx hb hK hI (fun _ h => h) hP hS 133 0 (by decide) (fun _ => rfl) rfl (by decide) (j := ((rc) * (3)) + (2)) (by omega) (v := (nI (e9))) d_W_add_41 (fun H locs hP hS => ?_)
  obtain ⟨M_3, eM_3⟩ : ∃ z : PM, z = (pu M_2 133 (((rc) * (3)) + (2)) ((nI (e9)))) := ⟨_, rfl⟩
  rw [← eM_3] at hP
  refine lv_aload_n hx hb d_W_add_42 rfl (lv_at hl 1 rfl) ?_
  refine lv_dup hx hb d_W_add_43 rfl ?_
  refine g_get (C := R_W) (T := T_W) (N := 2) (ci := 2) (v := .int (M_3 132 1)) hx hb hg i_W hown hK hP 132 (by decide) rfl rfl 1 (by decide) (hg _ k_86) rfl d_W_add_44 ?_
  refine n_top (y := (nI (rc))) (by rw [eM_3, pu_k _ _ _ _ _ (by first | decide | omega), eM_2, pu_k _ _ _ _ _ (by first | decide | omega), eM_1, pu_k _ _ _ _ _ (by first | decide | omega)]; exact hW7.2.1) ?_
  refine n_const (k := 1) hx hb d_W_add_47 (by decide) ?_
  refine n_iadd (a := rc) (b := 1) hx hb d_W_add_48 ?_
  refine g_put (C := R_W) (T := T_W) (N := 2) (ci := 2) (v := (nI ((rc) + (1)))) hx hb hg i_W ty_W t_W_ok n_W hown hK hI (fun _ h => h) hP hS 132 (by decide) rfl rfl 1 (by decide) (hg _ k_86) rfl (by decide +kernel) (Nat.le_of_ble_eq_true rfl) rfl d_W_add_49 (fun H locs hP hS => ?_)
  obtain ⟨M_4, eM_4⟩ : ∃ z : PM, z = (pu M_3 132 1 ((nI ((rc) + (1))))) := ⟨_, rfl⟩
  rw [← eM_4] at hP
  refine lv_iload hx hb d_W_add_52 (lv_at hl 0 rfl) ?_
  exact r_i hx hb hr hlocks hP hS (⟨rfl, by rw [eM_4, eM_3, eM_2, eM_1, Nat.mul_comm rc 3, Nat.add_zero]⟩) d_W_add_54

set_option maxHeartbeats 4000000 in
set_option maxRecDepth 100000 in
theorem c_W_replace (l : Launch) (D : va_G) (cI cC cZ cT : ClassId) (ad : Nat → Nat) (hI : GI 144 ad) (M : PM) (n rc : Nat) (hn60 : n ≤ 60) (rw_ : Nat → Nat) (hW7 : CW M n rc rw_) (a d9 : Nat) (ha : a < n) (hd9 : d9 < n) : MD l D cI cC cZ cT ad y_W_replace b_W_replace 5 (some .int) 0 0 [.ref (ad (132)), .int (nI (a)), .int (nI (d9))] M (fun v M' => v = some (.int (nI (Cnt (eqB rw_ a) (3 * rc)))) ∧ (∀ p q, p ≠ 133 → M' p q = M p q) ∧ ∀ q, q < 3 * rc → M' 133 q = nI (rwR rw_ a d9 q)) := by
  refine MC.of (by decide) (Nat.le_of_ble_eq_true rfl) ?_
  intro p e s m below meth c ls hx hb hr hml hown hg hlocks hK hN hP hS hl
  have hown : s.vm.findClass R_W = some m.cls := hown
  have hl : lv_has ls 5 [(0, .ref (ad (132))), (1, .int (nI (a))), (2, .int (nI (d9)))] := hl
  have hrc := hW7.1
  have hrw := hW7.2.2
  have J5 : ∀ (fu5 : Nat) (k : Nat) (M1 : PM) (H : Heap) (locs : List Loc) (ls : Array Slot), 3 * rc - k < fu5 → (k ≤ 3 * rc) → (∀ p q, p ≠ 133 → M1 p q = M p q) → (∀ q, q < k → M1 133 q = nI (rwR rw_ a d9 q)) → (∀ q, k ≤ q → M1 133 q = M 133 q) → va_P D clsA (gw 144 ad (cfC cI cC cZ cT ad) M1) H → va_S (GA 144 ad) s.heap H locs → lv_has ls 5 [(0, .ref (ad (132))), (1, .int (nI (a))), (2, .int (nI (d9))), (3, .int (nI (Cnt (eqB rw_ a) k))), (4, .int (nI (k)))] → W p l e (rm_ 0 0) s m ([.ref (ad (132)), .int (nI (a)), .int (nI (d9))] : List Value).toArray below meth c H locs 0 0 (MQ below (GQ D 144 ad (cfC cI cC cZ cT ad) (fun v M' => v = some (.int (nI (Cnt (eqB rw_ a) (3 * rc)))) ∧ (∀ p q, p ≠ 133 → M' p q = M p q) ∧ ∀ q, q < 3 * rc → M' 133 q = nI (rwR rw_ a d9 q))) ([.ref (ad (132)), .int (nI (a)), .int (nI (d9))] : List Value).toArray s 0 0 (GA 144 ad)) (F0 m 5 ls []) := by
    intro fu5
    induction fu5 with
    | zero => intro k M1 H locs ls hfu; exact absurd hfu (Nat.not_lt_zero _)
    | succ fu5 ih5 =>
      intro k M1 H locs ls hfu5 hk hF hd hu hP hS hl
      have h10 : M1 132 1 = nI rc := by rw [hF 132 1 (by decide)]; exact hW7.2.1
      have hk1 := Cnt_le (eqB rw_ a) k
      refine lv_iload hx hb d_W_replace_5 (lv_at hl 4 rfl) ?_
      refine lv_aload_n hx hb d_W_replace_7 rfl (lv_at hl 0 rfl) ?_
      refine g_get (C := R_W) (T := T_W) (N := 2) (ci := 2) (v := .int (M1 132 1)) hx hb hg i_W hown hK hP 132 (by decide) rfl rfl 1 (by decide) (hg _ k_86) rfl d_W_replace_8 ?_
      refine n_top (y := (nI (rc))) (h10) ?_
      refine n_const (k := 3) hx hb d_W_replace_11 (by decide) ?_
      refine n_imul (a := rc) (b := 3) hx hb d_W_replace_12 ?_
      refine n_ge (a := k) (b := (rc) * (3)) (tgt := 44) hx hb d_W_replace_13 (by decide) (by omega) (by omega) (fun c_13 => ?_) (fun c_13 => ?_)
      · refine lv_iload_n hx hb d_W_replace_44 rfl (lv_at hl 3 rfl) ?_
        exact r_i hx hb hr hlocks hP hS (⟨by rw [show 3 * rc = k by omega], hF, fun q hq => hd q (by omega)⟩) d_W_replace_45
      · refine lv_aload_n hx hb d_W_replace_16 rfl (lv_at hl 0 rfl) ?_
        refine g_get (C := R_W) (T := T_W) (N := 2) (ci := 2) (v := .ref (ad (133))) hx hb hg i_W hown hK hP 132 (by decide) rfl rfl 0 (by decide) (hg _ k_85) rfl d_W_replace_17 ?_
        refine lv_iload hx hb d_W_replace_20 (lv_at hl 4 rfl) ?_
        refine g_iald hx hb hK hP 133 0 (by decide) rfl rfl (by decide) (j := k) (by omega) d_W_replace_22 ?_
        refine n_top (y := (nI (rw_ (k)))) (by rw [hu (k) (Nat.le_refl _)]; exact (hW7.2.2 (k) (by omega)).2) ?_
        refine lv_iload_n hx hb d_W_replace_23 rfl (lv_at hl 1 rfl) ?_
        refine n_ne (a := rw_ (k)) (b := a) (tgt := 38) hx hb d_W_replace_24 (by decide) (by have := hrw k (by omega); omega) (by omega) (fun c_24 => ?_) (fun c_24 => ?_)
        · have hcq : Cnt (eqB rw_ a) (k + 1) = Cnt (eqB rw_ a) k := Cnt_f (decide_eq_false c_24)
          have hF9 := hF
          have hd9 : ∀ q, q < k + 1 → M1 133 q = nI (rwR rw_ a d9 q) := lt_S hd (by rw [hu k (Nat.le_refl _), (hW7.2.2 k (by omega)).2]; unfold rwR; rw [if_neg c_24])
          have hu9 : ∀ q, k + 1 ≤ q → M1 133 q = M 133 q := fun q hq => hu q (by omega)
          rw [← hcq] at hl
          have hl : lv_has ls 5 [(0, .ref (ad (132))), (1, .int (nI (a))), (2, .int (nI (d9))), (3, .int (nI (Cnt (eqB rw_ a) (k + 1)))), (4, .int (nI (k)))] := hl
          refine n_inc (lv' := [(4, .int (nI (k + 1))), (0, .ref (ad (132))), (1, .int (nI (a))), (2, .int (nI (d9))), (3, .int (nI (Cnt (eqB rw_ a) (k + 1))))]) hx hb d_W_replace_38 hl (k := 4) rfl (by decide) rfl (fun ls hl => ?_)
          refine lv_goto (tgt := 5) hx hb d_W_replace_41 (by decide) ?_
          exact ih5 (k + 1) M1 _ _ ls (by omega) (by omega) (hF9) (hd9) (hu9) hP hS (lv_sub hl [1, 2, 3, 4, 0] rfl)
        · have hcq : Cnt (eqB rw_ a) (k + 1) = Cnt (eqB rw_ a) k + 1 := Cnt_t (decide_eq_true c_24)
          refine lv_aload_n hx hb d_W_replace_27 rfl (lv_at hl 0 rfl) ?_
          refine g_get (C := R_W) (T := T_W) (N := 2) (ci := 2) (v := .ref (ad (133))) hx hb hg i_W hown hK hP 132 (by decide) rfl rfl 0 (by decide) (hg _ k_85) rfl d_W_replace_28 ?_
          refine lv_iload hx hb d_W_replace_31 (lv_at hl 4 rfl) ?_
          refine lv_iload_n hx hb d_W_replace_33 rfl (lv_at hl 2 rfl) ?_
          refine g_iast hx hb hK hI (fun _ h => h) hP hS 133 0 (by decide) (fun _ => rfl) rfl (by decide) (j := k) (by omega) (v := (nI (d9))) d_W_replace_34 (fun H locs hP hS => ?_)
          obtain ⟨M_1, eM_1⟩ : ∃ z : PM, z = (pu M1 133 (k) ((nI (d9)))) := ⟨_, rfl⟩
          rw [← eM_1] at hP
          have hF9 : ∀ p q, p ≠ 133 → M_1 p q = M p q := fun p q h7 => by rw [eM_1, pu_k _ _ _ _ _ h7]; exact hF p q h7
          have hd9 : ∀ q, q < k + 1 → M_1 133 q = nI (rwR rw_ a d9 q) := lt_S (fun q hq => by rw [eM_1, pu_j _ _ _ _ _ (by omega)]; exact hd q hq) (by rw [eM_1, pu_s]; unfold rwR; rw [if_pos c_24])
          have hu9 : ∀ q, k + 1 ≤ q → M_1 133 q = M 133 q := fun q hq => by rw [eM_1, pu_j _ _ _ _ _ (by omega)]; exact hu q (by omega)
          refine n_inc (lv' := [(3, .int (nI (Cnt (eqB rw_ a) k + 1))), (0, .ref (ad (132))), (1, .int (nI (a))), (2, .int (nI (d9))), (4, .int (nI (k)))]) hx hb d_W_replace_35 hl (k := 3) rfl (by decide) rfl (fun ls hl => ?_)
          rw [← hcq] at hl
          have hl : lv_has ls 5 [(3, .int (nI (Cnt (eqB rw_ a) (k + 1)))), (0, .ref (ad (132))), (1, .int (nI (a))), (2, .int (nI (d9))), (4, .int (nI (k)))] := hl
          refine n_inc (lv' := [(4, .int (nI (k + 1))), (3, .int (nI (Cnt (eqB rw_ a) (k + 1)))), (0, .ref (ad (132))), (1, .int (nI (a))), (2, .int (nI (d9)))]) hx hb d_W_replace_38 hl (k := 4) rfl (by decide) rfl (fun ls hl => ?_)
          refine lv_goto (tgt := 5) hx hb d_W_replace_41 (by decide) ?_
          exact ih5 (k + 1) M_1 _ _ ls (by omega) (by omega) (hF9) (hd9) (hu9) hP hS (lv_sub hl [2, 3, 4, 1, 0] rfl)
  refine n_const (k := 0) hx hb d_W_replace_0 (by decide) ?_
  refine lv_istore_n (lv' := [(3, .int (nI (0))), (0, .ref (ad (132))), (1, .int (nI (a))), (2, .int (nI (d9)))]) hx hb d_W_replace_1 rfl hl (by decide) rfl (fun ls hl => ?_)
  refine n_const (k := 0) hx hb d_W_replace_2 (by decide) ?_
  refine lv_istore (lv' := [(4, .int (nI (0))), (3, .int (nI (0))), (0, .ref (ad (132))), (1, .int (nI (a))), (2, .int (nI (d9)))]) hx hb d_W_replace_3 hl (by decide) rfl (fun ls hl => ?_)
  exact J5 (_ + 1) (0) M _ _ ls (Nat.lt_succ_self _) (by omega) (fun _ _ _ => rfl) (fun q hq => absurd hq (Nat.not_lt_zero q)) (fun _ _ => rfl) hP hS (lv_sub hl [2, 3, 4, 1, 0] rfl)
