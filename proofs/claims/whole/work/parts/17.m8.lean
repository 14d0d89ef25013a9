set_option maxHeartbeats 4000000 in
set_option maxRecDepth 100000 in
theorem c_M_row_2 (l : Launch) (D : va_G) (cI cB : ClassId) (ad : Nat → Nat) (hI : GI 13 ad) (M : PM) (n : Nat) (len : Nat → Nat) (ch : Nat → Nat → Nat) (sp : Nat → Option Nat) (hR : RN M n len ch sp) (spo : Nat → Option Nat) (hSp : ∀ k, k < n → Best (spC n len ch sp k) len n (spo k)) (rc : Nat) (rw_ : Nat → Nat) (hW : RW M n rc rw_) (a b9 d9 : Nat) (ha : a < n) (hb9 : b9 < n) (hd9 : d9 < n) (hns : spo a = none) : MM l D cI cB ad y_M_row b_M_row 5 (some .int) 3 69 [.ref (ad (0)), .int (nI (a)), .int (nI (b9)), .int (nI (d9))] M (fun v M' => v = some (.int (nI 0)) ∧ M' = pu M 0 0 (nI 2)) := by
  refine MC.of (by decide) (Nat.le_of_ble_eq_true rfl) ?_
  intro p e s m below meth c ls hx hb hr hml hown hg hlocks hK hN hP hS hl
  have hown : s.vm.findClass R_M = some m.cls := hown
  have hl : lv_has ls 5 [(0, .ref (ad (0))), (1, .int (nI (a))), (2, .int (nI (b9))), (3, .int (nI (d9)))] := hl
  have hn60 : n ≤ 60 := hR.1
  have hl24 := hR.2.2.1
  have hspn := hR.2.2.2.2.1
  have hch := hR.2.2.2.2.2
  have hrc := hW.1
  have hrw := hW.2.2
  have hsl : ∀ k, k < n → ∀ q, spo k = some q → q < n := fun k hk => (hSp k hk).lt
  refine lv_aload_n hx hb d_M_row_0 rfl (lv_at hl 0 rfl) ?_
  refine lv_aload_n hx hb d_M_row_1 rfl (lv_at hl 0 rfl) ?_
  refine lv_iload_n hx hb d_M_row_2 rfl (lv_at hl 1 rfl) ?_
  refine c_V (own := R_M) (index := 89) (As := [.int (nI (a))]) (rest := [.ref (ad (0))]) hx hb hml hown hg hK (fun _ _ _ h => h) (fun _ _ => trivial) (fun _ h => h) hP hS 0 (c_M_no l D cI cB ad hI M n len ch sp hR (nI (a)) false (no_f (by omega))) (by decide) (ci := 8) rfl rfl k_907 k_909 k_p30 k_9 k_910 1 rfl (by decide +kernel) (by decide) rfl hl.1 (Nat.le_of_ble_eq_true rfl) d_M_row_3 (fun v M' H locs hq hP _ _ hS => ?_)
  obtain ⟨rfl, rfl⟩ := hq
  refine W.eq (g2 := F0 m 6 ls [.int (bI (false)), .ref (ad (0))]) rfl ?_
  refine z_ne (t := false) (tgt := 25) hx hb d_M_row_6 (by decide) (fun h9 => absurd h9 (by decide)) (fun _ => ?_)
  refine lv_aload_n hx hb d_M_row_9 rfl (lv_at hl 0 rfl) ?_
  refine lv_iload_n hx hb d_M_row_10 rfl (lv_at hl 2 rfl) ?_
  refine c_V (own := R_M) (index := 89) (As := [.int (nI (b9))]) (rest := [.ref (ad (0))]) hx hb hml hown hg hK (fun _ _ _ h => h) (fun _ _ => trivial) (fun _ h => h) hP hS 0 (c_M_no l D cI cB ad hI M n len ch sp hR (nI (b9)) false (no_f (by omega))) (by decide) (ci := 8) rfl rfl k_907 k_909 k_p30 k_9 k_910 1 rfl (by decide +kernel) (by decide) rfl hl.1 (Nat.le_of_ble_eq_true rfl) d_M_row_11 (fun v M' H locs hq hP _ _ hS => ?_)
  obtain ⟨rfl, rfl⟩ := hq
  refine W.eq (g2 := F0 m 14 ls [.int (bI (false)), .ref (ad (0))]) rfl ?_
  refine z_ne (t := false) (tgt := 25) hx hb d_M_row_14 (by decide) (fun h9 => absurd h9 (by decide)) (fun _ => ?_)
  refine lv_aload_n hx hb d_M_row_17 rfl (lv_at hl 0 rfl) ?_
  refine lv_iload_n hx hb d_M_row_18 rfl (lv_at hl 3 rfl) ?_
  refine c_V (own := R_M) (index := 89) (As := [.int (nI (d9))]) (rest := [.ref (ad (0))]) hx hb hml hown hg hK (fun _ _ _ h => h) (fun _ _ => trivial) (fun _ h => h) hP hS 0 (c_M_no l D cI cB ad hI M n len ch sp hR (nI (d9)) false (no_f (by omega))) (by decide) (ci := 8) rfl rfl k_907 k_909 k_p30 k_9 k_910 1 rfl (by decide +kernel) (by decide) rfl hl.1 (Nat.le_of_ble_eq_true rfl) d_M_row_19 (fun v M' H locs hq hP _ _ hS => ?_)
  obtain ⟨rfl, rfl⟩ := hq
  refine W.eq (g2 := F0 m 22 ls [.int (bI (false)), .ref (ad (0))]) rfl ?_
  refine z_eq (t := false) (tgt := 29) hx hb d_M_row_22 (by decide) (fun _ => ?_) (fun h9 => absurd h9 (by decide))
  refine lv_aload_n hx hb d_M_row_29 rfl (lv_at hl 0 rfl) ?_
  refine lv_iload_n hx hb d_M_row_30 rfl (lv_at hl 1 rfl) ?_
  refine c_V (own := R_M) (index := 106) (As := [.int (nI (a))]) (rest := [.ref (ad (0))]) hx hb hml hown hg hK (fun _ _ _ h => h) (fun _ _ => trivial) (fun _ h => h) hP hS 0 (c_M_spaceOf l D cI cB ad hI M n len ch sp hR (a) (by omega) (spo (a)) (hSp _ (by omega))) (by decide) (ci := 8) rfl rfl k_923 k_925 k_p33 k_9 k_926 1 rfl (by decide +kernel) (by decide) rfl hl.1 (Nat.le_of_ble_eq_true rfl) d_M_row_31 (fun v M' H locs hq hP _ _ hS => ?_)
  obtain ⟨rfl, rfl⟩ := hq
  refine W.eq (g2 := F0 m 34 ls [.int (oI (spo (a))), .ref (ad (0))]) rfl ?_
  refine o_ge (o := spo (a)) (tgt := 41) hx hb d_M_row_34 (by decide) (fun q e => by have := hsl _ ha q e; omega) (fun v_34 c_34 => ?_) (fun c_34 => ?_)
  · exact absurd c_34 (by rw [hns]; simp)
  · refine n_const (k := 2) hx hb d_M_row_37 (by decide) ?_
    refine lv_goto (tgt := 42) hx hb d_M_row_38 (by decide) ?_
    refine c_V (own := R_M) (index := 57) (As := [.int (nI (2))]) (rest := []) hx hb hml hown hg hK (fun _ _ _ h => h) (fun _ _ => trivial) (fun _ h => h) hP hS 0 (c_M_refuses l D cI cB ad hI M (2) (by decide)) (by decide) (ci := 8) rfl rfl k_859 k_861 k_p22 k_9 k_862 1 rfl (by decide +kernel) (by decide) rfl hl.1 (Nat.le_of_ble_eq_true rfl) d_M_row_42 (fun v M_1 H locs hq hP _ _ hS => ?_)
    obtain ⟨rfl, eM_1⟩ := hq
    refine W.eq (g2 := F0 m 45 ls [.int (bI (true))]) rfl ?_
    refine z_eq (t := true) (tgt := 50) hx hb d_M_row_45 (by decide) (fun h9 => absurd h9 (by decide)) (fun _ => ?_)
    refine n_const (k := 0) hx hb d_M_row_48 (by decide) ?_
    exact r_i hx hb hr hlocks hP hS (⟨rfl, eM_1⟩) d_M_row_49

set_option maxHeartbeats 4000000 in
set_option maxRecDepth 100000 in
theorem c_M_row_c (l : Launch) (D : va_G) (cI cB : ClassId) (ad : Nat → Nat) (hI : GI 13 ad) (M : PM) (n : Nat) (len : Nat → Nat) (ch : Nat → Nat → Nat) (sp : Nat → Option Nat) (hR : RN M n len ch sp) (spo : Nat → Option Nat) (hSp : ∀ k, k < n → Best (spC n len ch sp k) len n (spo k)) (rc : Nat) (rw_ : Nat → Nat) (hW : RW M n rc rw_) (a b9 d9 : Nat) (ha : a < n) (hb9 : b9 < n) (hd9 : d9 < n) (hns : spo a ≠ none) (r9 : Nat) (ho : Fst (fun k => rw_ (3 * k) = a) rc (some r9)) : MM l D cI cB ad y_M_row b_M_row 5 (some .int) 3 69 [.ref (ad (0)), .int (nI (a)), .int (nI (b9)), .int (nI (d9))] M (fun v M' => v = some (.int ((-1) - nI r9)) ∧ M' = pu (pu (pu (pu M 0 0 (nI 0)) 10 0 (nI 2)) 10 1 (nI r9)) 10 2 (nI a)) := by
  refine MC.of (by decide) (Nat.le_of_ble_eq_true rfl) ?_
  intro p e s m below meth c ls hx hb hr hml hown hg hlocks hK hN hP hS hl
  have hown : s.vm.findClass R_M = some m.cls := hown
  have hl : lv_has ls 5 [(0, .ref (ad (0))), (1, .int (nI (a))), (2, .int (nI (b9))), (3, .int (nI (d9)))] := hl
  have hn60 : n ≤ 60 := hR.1
  have hl24 := hR.2.2.1
  have hspn := hR.2.2.2.2.1
  have hch := hR.2.2.2.2.2
  have hrc := hW.1
  have hrw := hW.2.2
  have hsl : ∀ k, k < n → ∀ q, spo k = some q → q < n := fun k hk => (hSp k hk).lt
  have hr9 := ho.1
  refine lv_aload_n hx hb d_M_row_0 rfl (lv_at hl 0 rfl) ?_
  refine lv_aload_n hx hb d_M_row_1 rfl (lv_at hl 0 rfl) ?_
  refine lv_iload_n hx hb d_M_row_2 rfl (lv_at hl 1 rfl) ?_
  refine c_V (own := R_M) (index := 89) (As := [.int (nI (a))]) (rest := [.ref (ad (0))]) hx hb hml hown hg hK (fun _ _ _ h => h) (fun _ _ => trivial) (fun _ h => h) hP hS 0 (c_M_no l D cI cB ad hI M n len ch sp hR (nI (a)) false (no_f (by omega))) (by decide) (ci := 8) rfl rfl k_907 k_909 k_p30 k_9 k_910 1 rfl (by decide +kernel) (by decide) rfl hl.1 (Nat.le_of_ble_eq_true rfl) d_M_row_3 (fun v M' H locs hq hP _ _ hS => ?_)
  obtain ⟨rfl, rfl⟩ := hq
  refine W.eq (g2 := F0 m 6 ls [.int (bI (false)), .ref (ad (0))]) rfl ?_
  refine z_ne (t := false) (tgt := 25) hx hb d_M_row_6 (by decide) (fun h9 => absurd h9 (by decide)) (fun _ => ?_)
  refine lv_aload_n hx hb d_M_row_9 rfl (lv_at hl 0 rfl) ?_
  refine lv_iload_n hx hb d_M_row_10 rfl (lv_at hl 2 rfl) ?_
  refine c_V (own := R_M) (index := 89) (As := [.int (nI (b9))]) (rest := [.ref (ad (0))]) hx hb hml hown hg hK (fun _ _ _ h => h) (fun _ _ => trivial) (fun _ h => h) hP hS 0 (c_M_no l D cI cB ad hI M n len ch sp hR (nI (b9)) false (no_f (by omega))) (by decide) (ci := 8) rfl rfl k_907 k_909 k_p30 k_9 k_910 1 rfl (by decide +kernel) (by decide) rfl hl.1 (Nat.le_of_ble_eq_true rfl) d_M_row_11 (fun v M' H locs hq hP _ _ hS => ?_)
  obtain ⟨rfl, rfl⟩ := hq
  refine W.eq (g2 := F0 m 14 ls [.int (bI (false)), .ref (ad (0))]) rfl ?_
  refine z_ne (t := false) (tgt := 25) hx hb d_M_row_14 (by decide) (fun h9 => absurd h9 (by decide)) (fun _ => ?_)
  refine lv_aload_n hx hb d_M_row_17 rfl (lv_at hl 0 rfl) ?_
  refine lv_iload_n hx hb d_M_row_18 rfl (lv_at hl 3 rfl) ?_
  refine c_V (own := R_M) (index := 89) (As := [.int (nI (d9))]) (rest := [.ref (ad (0))]) hx hb hml hown hg hK (fun _ _ _ h => h) (fun _ _ => trivial) (fun _ h => h) hP hS 0 (c_M_no l D cI cB ad hI M n len ch sp hR (nI (d9)) false (no_f (by omega))) (by decide) (ci := 8) rfl rfl k_907 k_909 k_p30 k_9 k_910 1 rfl (by decide +kernel) (by decide) rfl hl.1 (Nat.le_of_ble_eq_true rfl) d_M_row_19 (fun v M' H locs hq hP _ _ hS => ?_)
  obtain ⟨rfl, rfl⟩ := hq
  refine W.eq (g2 := F0 m 22 ls [.int (bI (false)), .ref (ad (0))]) rfl ?_
  refine z_eq (t := false) (tgt := 29) hx hb d_M_row_22 (by decide) (fun _ => ?_) (fun h9 => absurd h9 (by decide))
  refine lv_aload_n hx hb d_M_row_29 rfl (lv_at hl 0 rfl) ?_
  refine lv_iload_n hx hb d_M_row_30 rfl (lv_at hl 1 rfl) ?_
  refine c_V (own := R_M) (index := 106) (As := [.int (nI (a))]) (rest := [.ref (ad (0))]) hx hb hml hown hg hK (fun _ _ _ h => h) (fun _ _ => trivial) (fun _ h => h) hP hS 0 (c_M_spaceOf l D cI cB ad hI M n len ch sp hR (a) (by omega) (spo (a)) (hSp _ (by omega))) (by decide) (ci := 8) rfl rfl k_923 k_925 k_p33 k_9 k_926 1 rfl (by decide +kernel) (by decide) rfl hl.1 (Nat.le_of_ble_eq_true rfl) d_M_row_31 (fun v M' H locs hq hP _ _ hS => ?_)
  obtain ⟨rfl, rfl⟩ := hq
  refine W.eq (g2 := F0 m 34 ls [.int (oI (spo (a))), .ref (ad (0))]) rfl ?_
  refine o_ge (o := spo (a)) (tgt := 41) hx hb d_M_row_34 (by decide) (fun q e => by have := hsl _ ha q e; omega) (fun v_34 c_34 => ?_) (fun c_34 => ?_)
  · refine n_const (k := 0) hx hb d_M_row_41 (by decide) ?_
    refine c_V (own := R_M) (index := 57) (As := [.int (nI (0))]) (rest := []) hx hb hml hown hg hK (fun _ _ _ h => h) (fun _ _ => trivial) (fun _ h => h) hP hS 0 (c_M_refuses l D cI cB ad hI M (0) (by decide)) (by decide) (ci := 8) rfl rfl k_859 k_861 k_p22 k_9 k_862 1 rfl (by decide +kernel) (by decide) rfl hl.1 (Nat.le_of_ble_eq_true rfl) d_M_row_42 (fun v M_1 H locs hq hP _ _ hS => ?_)
    obtain ⟨rfl, eM_1⟩ := hq
    have hR1 := hR.sx (SX.thr M (nI 0))
    rw [← eM_1] at hR1
    have hW1 := hW.sx (SX.thr M (nI 0))
    rw [← eM_1] at hW1
    refine W.eq (g2 := F0 m 45 ls [.int (bI (false))]) rfl ?_
    refine z_eq (t := false) (tgt := 50) hx hb d_M_row_45 (by decide) (fun _ => ?_) (fun h9 => absurd h9 (by decide))
    refine lv_aload_n hx hb d_M_row_50 rfl (lv_at hl 0 rfl) ?_
    refine lv_iload_n hx hb d_M_row_51 rfl (lv_at hl 1 rfl) ?_
    refine c_V (own := R_M) (index := 128) (As := [.int (nI (a))]) (rest := []) hx hb hml hown hg hK (fun _ _ _ h => h) (fun _ _ => trivial) (fun _ h => h) hP hS 0 (c_M_rowOf l D cI cB ad hI M_1 n hn60 rc rw_ hW1 (a) (by omega) (some r9) ho) (by decide) (ci := 8) rfl rfl k_970 k_972 k_p39 k_9 k_973 1 rfl (by decide +kernel) (by decide) rfl hl.1 (Nat.le_of_ble_eq_true rfl) d_M_row_52 (fun v M' H locs hq hP _ _ hS => ?_)
    obtain ⟨rfl, rfl⟩ := hq
    refine W.eq (g2 := F0 m 55 ls [.int (nI (r9))]) rfl ?_
    refine lv_istore (lv' := [(4, .int (nI (r9))), (0, .ref (ad (0))), (1, .int (nI (a))), (2, .int (nI (b9))), (3, .int (nI (d9)))]) hx hb d_M_row_55 hl (by decide) rfl (fun ls hl => ?_)
    refine lv_iload hx hb d_M_row_57 (lv_at hl 0 rfl) ?_
    refine lv_if_lt (tgt := 75) hx hb d_M_row_59 (by decide) (fun c_59 => ?_) (fun c_59 => ?_)
    · exact absurd c_59 (nI_pos (by omega))
    · refine lv_aload_n hx hb d_M_row_62 rfl (lv_at hl 1 rfl) ?_
      refine n_const (k := 2) hx hb d_M_row_63 (by decide) ?_
      refine lv_iload hx hb d_M_row_64 (lv_at hl 0 rfl) ?_
      refine lv_iload_n hx hb d_M_row_66 rfl (lv_at hl 2 rfl) ?_
      refine c_V (own := R_M) (index := 95) (As := [.int (nI (2)), .int (nI (r9)), .int (nI (a))]) (rest := []) hx hb hml hown hg hK (fun _ _ _ h => h) (fun _ _ => trivial) (fun _ h => h) hP hS 0 (c_M_clashes l D cI cB ad hI M_1 ((nI (2))) ((nI (r9))) ((nI (a)))) (by decide) (ci := 8) rfl rfl k_915 k_917 k_p32 k_9 k_918 3 rfl (by decide +kernel) (by decide) rfl hl.1 (Nat.le_of_ble_eq_true rfl) d_M_row_67 (fun v M_2 H locs hq hP _ _ hS => ?_)
      obtain ⟨rfl, eM_2⟩ := hq
      refine W.eq (g2 := F0 m 70 ls []) rfl ?_
      refine lv_iconst (v := -1) hx hb d_M_row_70 (by decide) ?_
      refine lv_iload hx hb d_M_row_71 (lv_at hl 0 rfl) ?_
      refine lv_isub hx hb d_M_row_73 ?_
      exact r_i hx hb hr hlocks hP hS (⟨rfl, by rw [eM_2, eM_1]⟩) d_M_row_74
  · exact absurd c_34 hns

set_option maxHeartbeats 4000000 in
set_option maxRecDepth 100000 in
theorem c_M_row_3 (l : Launch) (D : va_G) (cI cB : ClassId) (ad : Nat → Nat) (hI : GI 13 ad) (M : PM) (n : Nat) (len : Nat → Nat) (ch : Nat → Nat → Nat) (sp : Nat → Option Nat) (hR : RN M n len ch sp) (spo : Nat → Option Nat) (hSp : ∀ k, k < n → Best (spC n len ch sp k) len n (spo k)) (rc : Nat) (rw_ : Nat → Nat) (hW : RW M n rc rw_) (a b9 d9 : Nat) (ha : a < n) (hb9 : b9 < n) (hd9 : d9 < n) (hns : spo a ≠ none) (ho : Fst (fun k => rw_ (3 * k) = a) rc none) (h40 : rc = 40) : MM l D cI cB ad y_M_row b_M_row 5 (some .int) 3 69 [.ref (ad (0)), .int (nI (a)), .int (nI (b9)), .int (nI (d9))] M (fun v M' => v = some (.int (nI 0)) ∧ M' = pu (pu M 0 0 (nI 0)) 0 0 (nI 3)) := by
  refine MC.of (by decide) (Nat.le_of_ble_eq_true rfl) ?_
  intro p e s m below meth c ls hx hb hr hml hown hg hlocks hK hN hP hS hl
  have hown : s.vm.findClass R_M = some m.cls := hown
  have hl : lv_has ls 5 [(0, .ref (ad (0))), (1, .int (nI (a))), (2, .int (nI (b9))), (3, .int (nI (d9)))] := hl
  have hn60 : n ≤ 60 := hR.1
  have hl24 := hR.2.2.1
  have hspn := hR.2.2.2.2.1
  have hch := hR.2.2.2.2.2
  have hrc := hW.1
  have hrw := hW.2.2
  have hsl : ∀ k, k < n → ∀ q, spo k = some q → q < n := fun k hk => (hSp k hk).lt
  refine lv_aload_n hx hb d_M_row_0 rfl (lv_at hl 0 rfl) ?_
  refine lv_aload_n hx hb d_M_row_1 rfl (lv_at hl 0 rfl) ?_
  refine lv_iload_n hx hb d_M_row_2 rfl (lv_at hl 1 rfl) ?_
  refine c_V (own := R_M) (index := 89) (As := [.int (nI (a))]) (rest := [.ref (ad (0))]) hx hb hml hown hg hK (fun _ _ _ h => h) (fun _ _ => trivial) (fun _ h => h) hP hS 0 (c_M_no l D cI cB ad hI M n len ch sp hR (nI (a)) false (no_f (by omega))) (by decide) (ci := 8) rfl rfl k_907 k_909 k_p30 k_9 k_910 1 rfl (by decide +kernel) (by decide) rfl hl.1 (Nat.le_of_ble_eq_true rfl) d_M_row_3 (fun v M' H locs hq hP _ _ hS => ?_)
  obtain ⟨rfl, rfl⟩ := hq
  refine W.eq (g2 := F0 m 6 ls [.int (bI (false)), .ref (ad (0))]) rfl ?_
  refine z_ne (t := false) (tgt := 25) hx hb d_M_row_6 (by decide) (fun h9 => absurd h9 (by decide)) (fun _ => ?_)
  refine lv_aload_n hx hb d_M_row_9 rfl (lv_at hl 0 rfl) ?_
  refine lv_iload_n hx hb d_M_row_10 rfl (lv_at hl 2 rfl) ?_
  refine c_V (own := R_M) (index := 89) (As := [.int (nI (b9))]) (rest := [.ref (ad (0))]) hx hb hml hown hg hK (fun _ _ _ h => h) (fun _ _ => trivial) (fun _ h => h) hP hS 0 (c_M_no l D cI cB ad hI M n len ch sp hR (nI (b9)) false (no_f (by omega))) (by decide) (ci := 8) rfl rfl k_907 k_909 k_p30 k_9 k_910 1 rfl (by decide +kernel) (by decide) rfl hl.1 (Nat.le_of_ble_eq_true rfl) d_M_row_11 (fun v M' H locs hq hP _ _ hS => ?_)
  obtain ⟨rfl, rfl⟩ := hq
  refine W.eq (g2 := F0 m 14 ls [.int (bI (false)), .ref (ad (0))]) rfl ?_
  refine z_ne (t := false) (tgt := 25) hx hb d_M_row_14 (by decide) (fun h9 => absurd h9 (by decide)) (fun _ => ?_)
  refine lv_aload_n hx hb d_M_row_17 rfl (lv_at hl 0 rfl) ?_
  refine lv_iload_n hx hb d_M_row_18 rfl (lv_at hl 3 rfl) ?_
  refine c_V (own := R_M) (index := 89) (As := [.int (nI (d9))]) (rest := [.ref (ad (0))]) hx hb hml hown hg hK (fun _ _ _ h => h) (fun _ _ => trivial) (fun _ h => h) hP hS 0 (c_M_no l D cI cB ad hI M n len ch sp hR (nI (d9)) false (no_f (by omega))) (by decide) (ci := 8) rfl rfl k_907 k_909 k_p30 k_9 k_910 1 rfl (by decide +kernel) (by decide) rfl hl.1 (Nat.le_of_ble_eq_true rfl) d_M_row_19 (fun v M' H locs hq hP _ _ hS => ?_)
  obtain ⟨rfl, rfl⟩ := hq
  refine W.eq (g2 := F0 m 22 ls [.int (bI (false)), .ref (ad (0))]) rfl ?_
  refine z_eq (t := false) (tgt := 29) hx hb d_M_row_22 (by decide) (fun _ => ?_) (fun h9 => absurd h9 (by decide))
  refine lv_aload_n hx hb d_M_row_29 rfl (lv_at hl 0 rfl) ?_
  refine lv_iload_n hx hb d_M_row_30 rfl (lv_at hl 1 rfl) ?_
  refine c_V (own := R_M) (index := 106) (As := [.int (nI (a))]) (rest := [.ref (ad (0))]) hx hb hml hown hg hK (fun _ _ _ h => h) (fun _ _ => trivial) (fun _ h => h) hP hS 0 (c_M_spaceOf l D cI cB ad hI M n len ch sp hR (a) (by omega) (spo (a)) (hSp _ (by omega))) (by decide) (ci := 8) rfl rfl k_923 k_925 k_p33 k_9 k_926 1 rfl (by decide +kernel) (by decide) rfl hl.1 (Nat.le_of_ble_eq_true rfl) d_M_row_31 (fun v M' H locs hq hP _ _ hS => ?_)
  obtain ⟨rfl, rfl⟩ := hq
  refine W.eq (g2 := F0 m 34 ls [.int (oI (spo (a))), .ref (ad (0))]) rfl ?_
  refine o_ge (o := spo (a)) (tgt := 41) hx hb d_M_row_34 (by decide) (fun q e => by have := hsl _ ha q e; omega) (fun v_34 c_34 => ?_) (fun c_34 => ?_)
  · refine n_const (k := 0) hx hb d_M_row_41 (by decide) ?_
    refine c_V (own := R_M) (index := 57) (As := [.int (nI (0))]) (rest := []) hx hb hml hown hg hK (fun _ _ _ h => h) (fun _ _ => trivial) (fun _ h => h) hP hS 0 (c_M_refuses l D cI cB ad hI M (0) (by decide)) (by decide) (ci := 8) rfl rfl k_859 k_861 k_p22 k_9 k_862 1 rfl (by decide +kernel) (by decide) rfl hl.1 (Nat.le_of_ble_eq_true rfl) d_M_row_42 (fun v M_1 H locs hq hP _ _ hS => ?_)
    obtain ⟨rfl, eM_1⟩ := hq
    have hR1 := hR.sx (SX.thr M (nI 0))
    rw [← eM_1] at hR1
    have hW1 := hW.sx (SX.thr M (nI 0))
    rw [← eM_1] at hW1
    refine W.eq (g2 := F0 m 45 ls [.int (bI (false))]) rfl ?_
    refine z_eq (t := false) (tgt := 50) hx hb d_M_row_45 (by decide) (fun _ => ?_) (fun h9 => absurd h9 (by decide))
    refine lv_aload_n hx hb d_M_row_50 rfl (lv_at hl 0 rfl) ?_
    refine lv_iload_n hx hb d_M_row_51 rfl (lv_at hl 1 rfl) ?_
    refine c_V (own := R_M) (index := 128) (As := [.int (nI (a))]) (rest := []) hx hb hml hown hg hK (fun _ _ _ h => h) (fun _ _ => trivial) (fun _ h => h) hP hS 0 (c_M_rowOf l D cI cB ad hI M_1 n hn60 rc rw_ hW1 (a) (by omega) (none) ho) (by decide) (ci := 8) rfl rfl k_970 k_972 k_p39 k_9 k_973 1 rfl (by decide +kernel) (by decide) rfl hl.1 (Nat.le_of_ble_eq_true rfl) d_M_row_52 (fun v M' H locs hq hP _ _ hS => ?_)
    obtain ⟨rfl, rfl⟩ := hq
    refine W.eq (g2 := F0 m 55 ls [.int (-1)]) rfl ?_
    refine lv_istore (lv' := [(4, .int (-1)), (0, .ref (ad (0))), (1, .int (nI (a))), (2, .int (nI (b9))), (3, .int (nI (d9)))]) hx hb d_M_row_55 hl (by decide) rfl (fun ls hl => ?_)
    refine lv_iload hx hb d_M_row_57 (lv_at hl 0 rfl) ?_
    refine lv_if_lt (tgt := 75) hx hb d_M_row_59 (by decide) (fun c_59 => ?_) (fun c_59 => ?_)
    · refine lv_aload_n hx hb d_M_row_75 rfl (lv_at hl 1 rfl) ?_
      refine lv_aload_n hx hb d_M_row_76 rfl (lv_at hl 1 rfl) ?_
      refine g_get (C := R_M) (T := T_M) (N := 19) (ci := 8) (v := .int (M_1 0 10)) hx hb hg i_M hown hK hP 0 (by decide) rfl rfl 10 (by decide) (hg _ k_803) rfl d_M_row_77 ?_
      refine n_top (y := (nI (rc))) (by rw [eM_1, pu_j _ _ _ _ _ (by first | decide | omega)]; exact hW.2.1) ?_
      refine n_bipush (k := 40) hx hb d_M_row_80 (by decide) ?_
      refine n_ne (a := rc) (b := 40) (tgt := 89) hx hb d_M_row_82 (by decide) (by omega) (by omega) (fun c_82 => ?_) (fun c_82 => ?_)
      · exact absurd c_82 (by omega)
      · refine n_const (k := 3) hx hb d_M_row_85 (by decide) ?_
        refine lv_goto (tgt := 90) hx hb d_M_row_86 (by decide) ?_
        refine c_V (own := R_M) (index := 57) (As := [.int (nI (3))]) (rest := []) hx hb hml hown hg hK (fun _ _ _ h => h) (fun _ _ => trivial) (fun _ h => h) hP hS 0 (c_M_refuses l D cI cB ad hI M_1 (3) (by decide)) (by decide) (ci := 8) rfl rfl k_859 k_861 k_p22 k_9 k_862 1 rfl (by decide +kernel) (by decide) rfl hl.1 (Nat.le_of_ble_eq_true rfl) d_M_row_90 (fun v M_2 H locs hq hP _ _ hS => ?_)
        obtain ⟨rfl, eM_2⟩ := hq
        refine W.eq (g2 := F0 m 93 ls [.int (bI (true))]) rfl ?_
        refine z_eq (t := true) (tgt := 98) hx hb d_M_row_93 (by decide) (fun h9 => absurd h9 (by decide)) (fun _ => ?_)
        refine n_const (k := 0) hx hb d_M_row_96 (by decide) ?_
        exact r_i hx hb hr hlocks hP hS (⟨rfl, by rw [eM_2, eM_1]⟩) d_M_row_97
    · exact absurd (by decide) c_59
  · exact absurd c_34 hns

set_option maxHeartbeats 4000000 in
set_option maxRecDepth 100000 in
theorem c_M_row (l : Launch) (D : va_G) (cI cB : ClassId) (ad : Nat → Nat) (hI : GI 13 ad) (M : PM) (n : Nat) (len : Nat → Nat) (ch : Nat → Nat → Nat) (sp : Nat → Option Nat) (hR : RN M n len ch sp) (spo : Nat → Option Nat) (hSp : ∀ k, k < n → Best (spC n len ch sp k) len n (spo k)) (rc : Nat) (rw_ : Nat → Nat) (hW : RW M n rc rw_) (a b9 d9 : Nat) (ha : a < n) (hb9 : b9 < n) (hd9 : d9 < n) (hns : spo a ≠ none) (ho : Fst (fun k => rw_ (3 * k) = a) rc none) (h40 : rc < 40) : MM l D cI cB ad y_M_row b_M_row 5 (some .int) 3 69 [.ref (ad (0)), .int (nI (a)), .int (nI (b9)), .int (nI (d9))] M (fun v M' => v = some (.int (nI rc)) ∧ M' = pu (pu (pu (pu (pu (pu M 0 0 (nI 0)) 0 0 (nI 0)) 7 (3 * rc) (nI a)) 7 (3 * rc + 1) (nI b9)) 7 (3 * rc + 2) (nI d9)) 0 10 (nI (rc + 1))) := by
  refine MC.of (by decide) (Nat.le_of_ble_eq_true rfl) ?_
  intro p e s m below meth c ls hx hb hr hml hown hg hlocks hK hN hP hS hl
  have hown : s.vm.findClass R_M = some m.cls := hown
  have hl : lv_has ls 5 [(0, .ref (ad (0))), (1, .int (nI (a))), (2, .int (nI (b9))), (3, .int (nI (d9)))] := hl
  have hn60 : n ≤ 60 := hR.1
  have hl24 := hR.2.2.1
  have hspn := hR.2.2.2.2.1
  have hch := hR.2.2.2.2.2
  have hrc := hW.1
  have hrw := hW.2.2
  have hsl : ∀ k, k < n → ∀ q, spo k = some q → q < n := fun k hk => (hSp k hk).lt
  refine lv_aload_n hx hb d_M_row_0 rfl (lv_at hl 0 rfl) ?_
  refine lv_aload_n hx hb d_M_row_1 rfl (lv_at hl 0 rfl) ?_
  refine lv_iload_n hx hb d_M_row_2 rfl (lv_at hl 1 rfl) ?_
  refine c_V (own := R_M) (index := 89) (As := [.int (nI (a))]) (rest := [.ref (ad (0))]) hx hb hml hown hg hK (fun _ _ _ h => h) (fun _ _ => trivial) (fun _ h => h) hP hS 0 (c_M_no l D cI cB ad hI M n len ch sp hR (nI (a)) false (no_f (by omega))) (by decide) (ci := 8) rfl rfl k_907 k_909 k_p30 k_9 k_910 1 rfl (by decide +kernel) (by decide) rfl hl.1 (Nat.le_of_ble_eq_true rfl) d_M_row_3 (fun v M' H locs hq hP _ _ hS => ?_)
  obtain ⟨rfl, rfl⟩ := hq
  refine W.eq (g2 := F0 m 6 ls [.int (bI (false)), .ref (ad (0))]) rfl ?_
  refine z_ne (t := false) (tgt := 25) hx hb d_M_row_6 (by decide) (fun h9 => absurd h9 (by decide)) (fun _ => ?_)
  refine lv_aload_n hx hb d_M_row_9 rfl (lv_at hl 0 rfl) ?_
  refine lv_iload_n hx hb d_M_row_10 rfl (lv_at hl 2 rfl) ?_
  refine c_V (own := R_M) (index := 89) (As := [.int (nI (b9))]) (rest := [.ref (ad (0))]) hx hb hml hown hg hK (fun _ _ _ h => h) (fun _ _ => trivial) (fun _ h => h) hP hS 0 (c_M_no l D cI cB ad hI M n len ch sp hR (nI (b9)) false (no_f (by omega))) (by decide) (ci := 8) rfl rfl k_907 k_909 k_p30 k_9 k_910 1 rfl (by decide +kernel) (by decide) rfl hl.1 (Nat.le_of_ble_eq_true rfl) d_M_row_11 (fun v M' H locs hq hP _ _ hS => ?_)
  obtain ⟨rfl, rfl⟩ := hq
  refine W.eq (g2 := F0 m 14 ls [.int (bI (false)), .ref (ad (0))]) rfl ?_
  refine z_ne (t := false) (tgt := 25) hx hb d_M_row_14 (by decide) (fun h9 => absurd h9 (by decide)) (fun _ => ?_)
  refine lv_aload_n hx hb d_M_row_17 rfl (lv_at hl 0 rfl) ?_
  refine lv_iload_n hx hb d_M_row_18 rfl (lv_at hl 3 rfl) ?_
  refine c_V (own := R_M) (index := 89) (As := [.int (nI (d9))]) (rest := [.ref (ad (0))]) hx hb hml hown hg hK (fun _ _ _ h => h) (fun _ _ => trivial) (fun _ h => h) hP hS 0 (c_M_no l D cI cB ad hI M n len ch sp hR (nI (d9)) false (no_f (by omega))) (by decide) (ci := 8) rfl rfl k_907 k_909 k_p30 k_9 k_910 1 rfl (by decide +kernel) (by decide) rfl hl.1 (Nat.le_of_ble_eq_true rfl) d_M_row_19 (fun v M' H locs hq hP _ _ hS => ?_)
  obtain ⟨rfl, rfl⟩ := hq
  refine W.eq (g2 := F0 m 22 ls [.int (bI (false)), .ref (ad (0))]) rfl ?_
  refine z_eq (t := false) (tgt := 29) hx hb d_M_row_22 (by decide) (fun _ => ?_) (fun h9 => absurd h9 (by decide))
  refine lv_aload_n hx hb d_M_row_29 rfl (lv_at hl 0 rfl) ?_
  refine lv_iload_n hx hb d_M_row_30 rfl (lv_at hl 1 rfl) ?_
  refine c_V (own := R_M) (index := 106) (As := [.int (nI (a))]) (rest := [.ref (ad (0))]) hx hb hml hown hg hK (fun _ _ _ h => h) (fun _ _ => trivial) (fun _ h => h) hP hS 0 (c_M_spaceOf l D cI cB ad hI M n len ch sp hR (a) (by omega) (spo (a)) (hSp _ (by omega))) (by decide) (ci := 8) rfl rfl k_923 k_925 k_p33 k_9 k_926 1 rfl (by decide +kernel) (by decide) rfl hl.1 (Nat.le_of_ble_eq_true rfl) d_M_row_31 (fun v M' H locs hq hP _ _ hS => ?_)
  obtain ⟨rfl, rfl⟩ := hq
  refine W.eq (g2 := F0 m 34 ls [.int (oI (spo (a))), .ref (ad (0))]) rfl ?_
  refine o_ge (o := spo (a)) (tgt := 41) hx hb d_M_row_34 (by decide) (fun q e => by have := hsl _ ha q e; omega) (fun v_34 c_34 => ?_) (fun c_34 => ?_)
  · refine n_const (k := 0) hx hb d_M_row_41 (by decide) ?_
    refine c_V (own := R_M) (index := 57) (As := [.int (nI (0))]) (rest := []) hx hb hml hown hg hK (fun _ _ _ h => h) (fun _ _ => trivial) (fun _ h => h) hP hS 0 (c_M_refuses l D cI cB ad hI M (0) (by decide)) (by decide) (ci := 8) rfl rfl k_859 k_861 k_p22 k_9 k_862 1 rfl (by decide +kernel) (by decide) rfl hl.1 (Nat.le_of_ble_eq_true rfl) d_M_row_42 (fun v M_1 H locs hq hP _ _ hS => ?_)
    obtain ⟨rfl, eM_1⟩ := hq
    have hR1 := hR.sx (SX.thr M (nI 0))
    rw [← eM_1] at hR1
    have hW1 := hW.sx (SX.thr M (nI 0))
    rw [← eM_1] at hW1
    refine W.eq (g2 := F0 m 45 ls [.int (bI (false))]) rfl ?_
    refine z_eq (t := false) (tgt := 50) hx hb d_M_row_45 (by decide) (fun _ => ?_) (fun h9 => absurd h9 (by decide))
    refine lv_aload_n hx hb d_M_row_50 rfl (lv_at hl 0 rfl) ?_
    refine lv_iload_n hx hb d_M_row_51 rfl (lv_at hl 1 rfl) ?_
    refine c_V (own := R_M) (index := 128) (As := [.int (nI (a))]) (rest := []) hx hb hml hown hg hK (fun _ _ _ h => h) (fun _ _ => trivial) (fun _ h => h) hP hS 0 (c_M_rowOf l D cI cB ad hI M_1 n hn60 rc rw_ hW1 (a) (by omega) (none) ho) (by decide) (ci := 8) rfl rfl k_970 k_972 k_p39 k_9 k_973 1 rfl (by decide +kernel) (by decide) rfl hl.1 (Nat.le_of_ble_eq_true rfl) d_M_row_52 (fun v M' H locs hq hP _ _ hS => ?_)
    obtain ⟨rfl, rfl⟩ := hq
    refine W.eq (g2 := F0 m 55 ls [.int (-1)]) rfl ?_
    refine lv_istore (lv' := [(4, .int (-1)), (0, .ref (ad (0))), (1, .int (nI (a))), (2, .int (nI (b9))), (3, .int (nI (d9)))]) hx hb d_M_row_55 hl (by decide) rfl (fun ls hl => ?_)
    refine lv_iload hx hb d_M_row_57 (lv_at hl 0 rfl) ?_
    refine lv_if_lt (tgt := 75) hx hb d_M_row_59 (by decide) (fun c_59 => ?_) (fun c_59 => ?_)
    · refine lv_aload_n hx hb d_M_row_75 rfl (lv_at hl 1 rfl) ?_
      refine lv_aload_n hx hb d_M_row_76 rfl (lv_at hl 1 rfl) ?_
      refine g_get (C := R_M) (T := T_M) (N := 19) (ci := 8) (v := .int (M_1 0 10)) hx hb hg i_M hown hK hP 0 (by decide) rfl rfl 10 (by decide) (hg _ k_803) rfl d_M_row_77 ?_
      refine n_top (y := (nI (rc))) (by rw [eM_1, pu_j _ _ _ _ _ (by first | decide | omega)]; exact hW.2.1) ?_
      refine n_bipush (k := 40) hx hb d_M_row_80 (by decide) ?_
      refine n_ne (a := rc) (b := 40) (tgt := 89) hx hb d_M_row_82 (by decide) (by omega) (by omega) (fun c_82 => ?_) (fun c_82 => ?_)
      · refine n_const (k := 0) hx hb d_M_row_89 (by decide) ?_
        refine c_V (own := R_M) (index := 57) (As := [.int (nI (0))]) (rest := []) hx hb hml hown hg hK (fun _ _ _ h => h) (fun _ _ => trivial) (fun _ h => h) hP hS 0 (c_M_refuses l D cI cB ad hI M_1 (0) (by decide)) (by decide) (ci := 8) rfl rfl k_859 k_861 k_p22 k_9 k_862 1 rfl (by decide +kernel) (by decide) rfl hl.1 (Nat.le_of_ble_eq_true rfl) d_M_row_90 (fun v M_2 H locs hq hP _ _ hS => ?_)
        obtain ⟨rfl, eM_2⟩ := hq
        have hR1 := hR1.sx (SX.thr M_1 (nI 0))
        rw [← eM_2] at hR1
        have hW1 := hW1.sx (SX.thr M_1 (nI 0))
        rw [← eM_2] at hW1
        refine W.eq (g2 := F0 m 93 ls [.int (bI (false))]) rfl ?_
        refine z_eq (t := false) (tgt := 98) hx hb d_M_row_93 (by decide) (fun _ => ?_) (fun h9 => absurd h9 (by decide))
        refine lv_aload_n hx hb d_M_row_98 rfl (lv_at hl 1 rfl) ?_
        refine g_get (C := R_M) (T := T_M) (N := 19) (ci := 8) (v := .ref (ad (7))) hx hb hg i_M hown hK hP 0 (by decide) rfl rfl 9 (by decide) (hg _ k_802) rfl d_M_row_99 ?_
        refine n_const (k := 3) hx hb d_M_row_102 (by decide) ?_
        refine lv_aload_n hx hb d_M_row_103 rfl (lv_at hl 1 rfl) ?_
        refine g_get (C := R_M) (T := T_M) (N := 19) (ci := 8) (v := .int (M_2 0 10)) hx hb hg i_M hown hK hP 0 (by decide) rfl rfl 10 (by decide) (hg _ k_803) rfl d_M_row_104 ?_
        refine n_top (y := (nI (rc))) (by rw [eM_2, pu_j _ _ _ _ _ (by first | decide | omega), eM_1, pu_j _ _ _ _ _ (by first | decide | omega)]; exact hW.2.1) ?_
        refine n_imul (a := 3) (b := rc) hx hb d_M_row_107 ?_
        refine lv_iload_n hx hb d_M_row_108 rfl (lv_at hl 2 rfl) ?_
        refine g_iast hx hb hK hI (fun _ h => h) hP hS 7 0 (by decide) (fun _ => rfl) rfl (by decide) (j := (3) * (rc)) (by omega) (v := (nI (a))) d_M_row_109 (fun H locs hP hS => ?_)
        obtain ⟨M_3, eM_3⟩ : ∃ z : PM, z = (pu M_2 7 ((3) * (rc)) ((nI (a)))) := ⟨_, rfl⟩
        rw [← eM_3] at hP
        refine lv_aload_n hx hb d_M_row_110 rfl (lv_at hl 1 rfl) ?_
        refine g_get (C := R_M) (T := T_M) (N := 19) (ci := 8) (v := .ref (ad (7))) hx hb hg i_M hown hK hP 0 (by decide) rfl rfl 9 (by decide) (hg _ k_802) rfl d_M_row_111 ?_
        refine n_const (k := 3) hx hb d_M_row_114 (by decide) ?_
        refine lv_aload_n hx hb d_M_row_115 rfl (lv_at hl 1 rfl) ?_
        refine g_get (C := R_M) (T := T_M) (N := 19) (ci := 8) (v := .int (M_3 0 10)) hx hb hg i_M hown hK hP 0 (by decide) rfl rfl 10 (by decide) (hg _ k_803) rfl d_M_row_116 ?_
        refine n_top (y := (nI (rc))) (by rw [eM_3, pu_k _ _ _ _ _ (by first | decide | omega), eM_2, pu_j _ _ _ _ _ (by first | decide | omega), eM_1, pu_j _ _ _ _ _ (by first | decide | omega)]; exact hW.2.1) ?_
        refine n_imul (a := 3) (b := rc) hx hb d_M_row_119 ?_
        refine n_const (k := 1) hx hb d_M_row_120 (by decide) ?_
        refine n_iadd (a := (3) * (rc)) (b := 1) hx hb d_M_row_121 ?_
        refine lv_iload_n hx hb d_M_row_122 rfl (lv_at hl 3 rfl) ?_
        refine g_iast hx hb hK hI (fun _ h => h) hP hS 7 0 (by decide) (fun _ => rfl) rfl (by decide) (j := ((3) * (rc)) + (1)) (by omega) (v := (nI (b9))) d_M_row_123 (fun H locs hP hS => ?_)
        obtain ⟨M_4, eM_4⟩ : ∃ z : PM, z = (pu M_3 7 (((3) * (rc)) + (1)) ((nI (b9)))) := ⟨_, rfl⟩
        rw [← eM_4] at hP
        refine lv_aload_n hx hb d_M_row_124 rfl (lv_at hl 1 rfl) ?_
        refine g_get (C := R_M) (T := T_M) (N := 19) (ci := 8) (v := .ref (ad (7))) hx hb hg i_M hown hK hP 0 (by decide) rfl rfl 9 (by decide) (hg _ k_802) rfl d_M_row_125 ?_
        refine n_const (k := 3) hx hb d_M_row_128 (by decide) ?_
        refine lv_aload_n hx hb d_M_row_129 rfl (lv_at hl 1 rfl) ?_
        refine g_get (C := R_M) (T := T_M) (N := 19) (ci := 8) (v := .int (M_4 0 10)) hx hb hg i_M hown hK hP 0 (by decide) rfl rfl 10 (by decide) (hg _ k_803) rfl d_M_row_130 ?_
        refine n_top (y := (nI (rc))) (by rw [eM_4, pu_k _ _ _ _ _ (by first | decide | omega), eM_3, pu_k _ _ _ _ _ (by first | decide | omega), eM_2, pu_j _ _ _ _ _ (by first | decide | omega), eM_1, pu_j _ _ _ _ _ (by first | decide | omega)]; exact hW.2.1) ?_
        refine n_imul (a := 3) (b := rc) hx hb d_M_row_133 ?_
        refine n_const (k := 2) hx hb d_M_row_134 (by decide) ?_
        refine n_iadd (a := (3) * (rc)) (b := 2) hx hb d_M_row_135 ?_
        refine lv_iload_n hx hb d_M_row_136 rfl (lv_at hl 4 rfl) ?_
        refine g_iast hx hb hK hI (fun _ h => h) hP hS 7 0 (by decide) (fun _ => rfl) rfl (by decide) (j := ((3) * (rc)) + (2)) (by omega) (v := (nI (d9))) d_M_row_137 (fun H locs hP hS => ?_)
        obtain ⟨M_5, eM_5⟩ : ∃ z : PM, z = (pu M_4 7 (((3) * (rc)) + (2)) ((nI (d9)))) := ⟨_, rfl⟩
        rw [← eM_5] at hP
        refine lv_aload_n hx hb d_M_row_138 rfl (lv_at hl 1 rfl) ?_
        refine lv_dup hx hb d_M_row_139 rfl ?_
        refine g_get (C := R_M) (T := T_M) (N := 19) (ci := 8) (v := .int (M_5 0 10)) hx hb hg i_M hown hK hP 0 (by decide) rfl rfl 10 (by decide) (hg _ k_803) rfl d_M_row_140 ?_
        refine n_top (y := (nI (rc))) (by rw [eM_5, pu_k _ _ _ _ _ (by first | decide | omega), eM_4, pu_k _ _ _ _ _ (by first | decide | omega), eM_3, pu_k _ _ _ _ _ (by first | decide | omega), eM_2, pu_j _ _ _ _ _ (by first | decide | omega), eM_1, pu_j _ _ _ _ _ (by first | decide | omega)]; exact hW.2.1) ?_
        refine lv_dup_x1 hx hb d_M_row_143 rfl rfl ?_
        refine n_const (k := 1) hx hb d_M_row_144 (by decide) ?_
        refine n_iadd (a := rc) (b := 1) hx hb d_M_row_145 ?_
        refine g_put (C := R_M) (T := T_M) (N := 19) (ci := 8) (v := (nI ((rc) + (1)))) hx hb hg i_M ty_M t_M_ok n_M hown hK hI (fun _ h => h) hP hS 0 (by decide) rfl rfl 10 (by decide) (hg _ k_803) rfl (by decide +kernel) (Nat.le_of_ble_eq_true rfl) rfl d_M_row_146 (fun H locs hP hS => ?_)
        obtain ⟨M_6, eM_6⟩ : ∃ z : PM, z = (pu M_5 0 10 ((nI ((rc) + (1))))) := ⟨_, rfl⟩
        rw [← eM_6] at hP
        exact r_i hx hb hr hlocks hP hS (⟨rfl, by rw [eM_6, eM_5, eM_4, eM_3, eM_2, eM_1]⟩) d_M_row_149
      · exact absurd c_82 (by omega)
    · exact absurd (by decide) c_59
  · exact absurd c_34 hns

set_option maxHeartbeats 4000000 in
set_option maxRecDepth 100000 in
theorem c_M_cnr_4 (l : Launch) (D : va_G) (cI cB : ClassId) (ad : Nat → Nat) (hI : GI 13 ad) (M : PM) (n : Nat) (hn60 : n ≤ 60) (rc : Nat) (rw_ : Nat → Nat) (hW : RW M n rc rw_) (st : Nat → Option Nat) (hS6 : RS M n st) (rk : Nat → Nat) (hRk : Rk n st rk) (a b9 : Nat) (ha : a < n) (hb9 : b9 < n) (x9 y9 : Nat) (hox : Fst (fun k => rw_ (3 * k) = a) rc (some x9)) (hoy : Fst (fun k => rw_ (3 * k) = b9) rc (some y9)) : MM l D cI cB ad y_M_canNotRename b_M_canNotRename 5 (some .boolean) 1 23 [.ref (ad (0)), .int (nI (a)), .int (nI (b9))] M (fun v M' => v = some (.int (bI true)) ∧ M' = pu (pu (pu M 10 0 (nI 4)) 10 1 (nI x9)) 10 2 (nI y9)) := by
  refine MC.of (by decide) (Nat.le_of_ble_eq_true rfl) ?_
  intro p e s m below meth c ls hx hb hr hml hown hg hlocks hK hN hP hS hl
  have hown : s.vm.findClass R_M = some m.cls := hown
  have hl : lv_has ls 5 [(0, .ref (ad (0))), (1, .int (nI (a))), (2, .int (nI (b9)))] := hl
  have hrc := hW.1
  have hx9 := hox.1
  have hy9 := hoy.1
  refine lv_aload_n hx hb d_M_canNotRename_0 rfl (lv_at hl 0 rfl) ?_
  refine lv_iload_n hx hb d_M_canNotRename_1 rfl (lv_at hl 1 rfl) ?_
  refine c_V (own := R_M) (index := 128) (As := [.int (nI (a))]) (rest := []) hx hb hml hown hg hK (fun _ _ _ h => h) (fun _ _ => trivial) (fun _ h => h) hP hS 0 (c_M_rowOf l D cI cB ad hI M n hn60 rc rw_ hW (a) (by omega) (some x9) hox) (by decide) (ci := 8) rfl rfl k_970 k_972 k_p39 k_9 k_973 1 rfl (by decide +kernel) (by decide) rfl hl.1 (Nat.le_of_ble_eq_true rfl) d_M_canNotRename_2 (fun v M' H locs hq hP _ _ hS => ?_)
  obtain ⟨rfl, rfl⟩ := hq
  refine W.eq (g2 := F0 m 5 ls [.int (nI (x9))]) rfl ?_
  refine lv_istore_n (lv' := [(3, .int (nI (x9))), (0, .ref (ad (0))), (1, .int (nI (a))), (2, .int (nI (b9)))]) hx hb d_M_canNotRename_5 rfl hl (by decide) rfl (fun ls hl => ?_)
  refine lv_aload_n hx hb d_M_canNotRename_6 rfl (lv_at hl 1 rfl) ?_
  refine lv_iload_n hx hb d_M_canNotRename_7 rfl (lv_at hl 3 rfl) ?_
  refine c_V (own := R_M) (index := 128) (As := [.int (nI (b9))]) (rest := []) hx hb hml hown hg hK (fun _ _ _ h => h) (fun _ _ => trivial) (fun _ h => h) hP hS 0 (c_M_rowOf l D cI cB ad hI M n hn60 rc rw_ hW (b9) (by omega) (some y9) hoy) (by decide) (ci := 8) rfl rfl k_970 k_972 k_p39 k_9 k_973 1 rfl (by decide +kernel) (by decide) rfl hl.1 (Nat.le_of_ble_eq_true rfl) d_M_canNotRename_8 (fun v M' H locs hq hP _ _ hS => ?_)
  obtain ⟨rfl, rfl⟩ := hq
  refine W.eq (g2 := F0 m 11 ls [.int (nI (y9))]) rfl ?_
  refine lv_istore (lv' := [(4, .int (nI (y9))), (3, .int (nI (x9))), (0, .ref (ad (0))), (1, .int (nI (a))), (2, .int (nI (b9)))]) hx hb d_M_canNotRename_11 hl (by decide) rfl (fun ls hl => ?_)
  refine lv_iload_n hx hb d_M_canNotRename_13 rfl (lv_at hl 1 rfl) ?_
  refine lv_if_lt (tgt := 33) hx hb d_M_canNotRename_14 (by decide) (fun c_14 => ?_) (fun c_14 => ?_)
  · exact absurd c_14 (nI_pos (by omega))
  · refine lv_iload hx hb d_M_canNotRename_17 (lv_at hl 0 rfl) ?_
    refine lv_if_lt (tgt := 33) hx hb d_M_canNotRename_19 (by decide) (fun c_19 => ?_) (fun c_19 => ?_)
    · exact absurd c_19 (nI_pos (by omega))
    · refine lv_aload_n hx hb d_M_canNotRename_22 rfl (lv_at hl 2 rfl) ?_
      refine n_const (k := 4) hx hb d_M_canNotRename_23 (by decide) ?_
      refine lv_iload_n hx hb d_M_canNotRename_24 rfl (lv_at hl 1 rfl) ?_
      refine lv_iload hx hb d_M_canNotRename_25 (lv_at hl 0 rfl) ?_
      refine c_V (own := R_M) (index := 95) (As := [.int (nI (4)), .int (nI (x9)), .int (nI (y9))]) (rest := []) hx hb hml hown hg hK (fun _ _ _ h => h) (fun _ _ => trivial) (fun _ h => h) hP hS 0 (c_M_clashes l D cI cB ad hI M ((nI (4))) ((nI (x9))) ((nI (y9)))) (by decide) (ci := 8) rfl rfl k_915 k_917 k_p32 k_9 k_918 3 rfl (by decide +kernel) (by decide) rfl hl.1 (Nat.le_of_ble_eq_true rfl) d_M_canNotRename_27 (fun v M_1 H locs hq hP _ _ hS => ?_)
      obtain ⟨rfl, eM_1⟩ := hq
      refine W.eq (g2 := F0 m 30 ls []) rfl ?_
      refine lv_goto (tgt := 101) hx hb d_M_canNotRename_30 (by decide) ?_
      refine n_const (k := 1) hx hb d_M_canNotRename_101 (by decide) ?_
      exact r_z hx hb hr hlocks (rfl) hP hS (⟨rfl, eM_1⟩) d_M_canNotRename_102

set_option maxHeartbeats 4000000 in
set_option maxRecDepth 100000 in
theorem c_M_cnr_5 (l : Launch) (D : va_G) (cI cB : ClassId) (ad : Nat → Nat) (hI : GI 13 ad) (M : PM) (n : Nat) (hn60 : n ≤ 60) (rc : Nat) (rw_ : Nat → Nat) (hW : RW M n rc rw_) (st : Nat → Option Nat) (hS6 : RS M n st) (rk : Nat → Nat) (hRk : Rk n st rk) (a b9 : Nat) (ha : a < n) (hb9 : b9 < n) (ox oy : Option Nat) (hox : Fst (fun k => rw_ (3 * k) = a) rc ox) (hoy : Fst (fun k => rw_ (3 * k) = b9) rc oy) (hno : ox = none ∨ oy = none) (u9 v9 : Nat) (hu9 : st a = some u9) (hv9 : st b9 = some v9) : MM l D cI cB ad y_M_canNotRename b_M_canNotRename 5 (some .boolean) 1 23 [.ref (ad (0)), .int (nI (a)), .int (nI (b9))] M (fun v M' => v = some (.int (bI true)) ∧ M' = pu (pu (pu M 10 0 (nI 5)) 10 1 (nI u9)) 10 2 (nI v9)) := by
  refine MC.of (by decide) (Nat.le_of_ble_eq_true rfl) ?_
  intro p e s m below meth c ls hx hb hr hml hown hg hlocks hK hN hP hS hl
  have hown : s.vm.findClass R_M = some m.cls := hown
  have hl : lv_has ls 5 [(0, .ref (ad (0))), (1, .int (nI (a))), (2, .int (nI (b9)))] := hl
  have hrc := hW.1
  have hxl := hox.lt
  have hyl := hoy.lt
  refine lv_aload_n hx hb d_M_canNotRename_0 rfl (lv_at hl 0 rfl) ?_
  refine lv_iload_n hx hb d_M_canNotRename_1 rfl (lv_at hl 1 rfl) ?_
  refine c_V (own := R_M) (index := 128) (As := [.int (nI (a))]) (rest := []) hx hb hml hown hg hK (fun _ _ _ h => h) (fun _ _ => trivial) (fun _ h => h) hP hS 0 (c_M_rowOf l D cI cB ad hI M n hn60 rc rw_ hW (a) (by omega) (ox) hox) (by decide) (ci := 8) rfl rfl k_970 k_972 k_p39 k_9 k_973 1 rfl (by decide +kernel) (by decide) rfl hl.1 (Nat.le_of_ble_eq_true rfl) d_M_canNotRename_2 (fun v M' H locs hq hP _ _ hS => ?_)
  obtain ⟨rfl, rfl⟩ := hq
  refine W.eq (g2 := F0 m 5 ls [.int (oI (ox))]) rfl ?_
  refine lv_istore_n (lv' := [(3, .int (oI (ox))), (0, .ref (ad (0))), (1, .int (nI (a))), (2, .int (nI (b9)))]) hx hb d_M_canNotRename_5 rfl hl (by decide) rfl (fun ls hl => ?_)
  refine lv_aload_n hx hb d_M_canNotRename_6 rfl (lv_at hl 1 rfl) ?_
  refine lv_iload_n hx hb d_M_canNotRename_7 rfl (lv_at hl 3 rfl) ?_
  refine c_V (own := R_M) (index := 128) (As := [.int (nI (b9))]) (rest := []) hx hb hml hown hg hK (fun _ _ _ h => h) (fun _ _ => trivial) (fun _ h => h) hP hS 0 (c_M_rowOf l D cI cB ad hI M n hn60 rc rw_ hW (b9) (by omega) (oy) hoy) (by decide) (ci := 8) rfl rfl k_970 k_972 k_p39 k_9 k_973 1 rfl (by decide +kernel) (by decide) rfl hl.1 (Nat.le_of_ble_eq_true rfl) d_M_canNotRename_8 (fun v M' H locs hq hP _ _ hS => ?_)
  obtain ⟨rfl, rfl⟩ := hq
  refine W.eq (g2 := F0 m 11 ls [.int (oI (oy))]) rfl ?_
  refine lv_istore (lv' := [(4, .int (oI (oy))), (3, .int (oI (ox))), (0, .ref (ad (0))), (1, .int (nI (a))), (2, .int (nI (b9)))]) hx hb d_M_canNotRename_11 hl (by decide) rfl (fun ls hl => ?_)
  refine lv_iload_n hx hb d_M_canNotRename_13 rfl (lv_at hl 1 rfl) ?_
  refine o_lt (o := ox) (tgt := 33) hx hb d_M_canNotRename_14 (by decide) (fun q e => by have := hxl q e; omega) (fun c_14 => ?_) (fun v_14 c_14 => ?_)
  · refine lv_aload_n hx hb d_M_canNotRename_33 rfl (lv_at hl 2 rfl) ?_
    refine g_get (C := R_M) (T := T_M) (N := 19) (ci := 8) (v := .ref (ad (6))) hx hb hg i_M hown hK hP 0 (by decide) rfl rfl 8 (by decide) (hg _ k_801) rfl d_M_canNotRename_34 ?_
    refine lv_iload_n hx hb d_M_canNotRename_37 rfl (lv_at hl 3 rfl) ?_
    refine g_iald hx hb hK hP 6 0 (by decide) rfl rfl (by decide) (j := a) (by omega) d_M_canNotRename_38 ?_
    refine n_top (y := (oI (st (a)))) (hS6.1 (a) (by omega)) ?_
    refine o_lt (o := st (a)) (tgt := 71) hx hb d_M_canNotRename_39 (by decide) (fun q e => by have := hS6.2 _ q ha e; omega) (fun c_39 => ?_) (fun v_39 c_39 => ?_)
    · exact absurd c_39 (by rw [hu9]; simp)
    · refine lv_aload_n hx hb d_M_canNotRename_42 rfl (lv_at hl 2 rfl) ?_
      refine g_get (C := R_M) (T := T_M) (N := 19) (ci := 8) (v := .ref (ad (6))) hx hb hg i_M hown hK hP 0 (by decide) rfl rfl 8 (by decide) (hg _ k_801) rfl d_M_canNotRename_43 ?_
      refine lv_iload_n hx hb d_M_canNotRename_46 rfl (lv_at hl 4 rfl) ?_
      refine g_iald hx hb hK hP 6 0 (by decide) rfl rfl (by decide) (j := b9) (by omega) d_M_canNotRename_47 ?_
      refine n_top (y := (oI (st (b9)))) (hS6.1 (b9) (by omega)) ?_
      refine o_lt (o := st (b9)) (tgt := 71) hx hb d_M_canNotRename_48 (by decide) (fun q e => by have := hS6.2 _ q hb9 e; omega) (fun c_48 => ?_) (fun v_48 c_48 => ?_)
      · exact absurd c_48 (by rw [hv9]; simp)
      · refine lv_aload_n hx hb d_M_canNotRename_51 rfl (lv_at hl 2 rfl) ?_
        refine n_const (k := 5) hx hb d_M_canNotRename_52 (by decide) ?_
        refine lv_aload_n hx hb d_M_canNotRename_53 rfl (lv_at hl 2 rfl) ?_
        refine g_get (C := R_M) (T := T_M) (N := 19) (ci := 8) (v := .ref (ad (6))) hx hb hg i_M hown hK hP 0 (by decide) rfl rfl 8 (by decide) (hg _ k_801) rfl d_M_canNotRename_54 ?_
        refine lv_iload_n hx hb d_M_canNotRename_57 rfl (lv_at hl 3 rfl) ?_
        refine g_iald hx hb hK hP 6 0 (by decide) rfl rfl (by decide) (j := a) (by omega) d_M_canNotRename_58 ?_
        refine n_top (y := (oI (st (a)))) (hS6.1 (a) (by omega)) ?_
        refine lv_aload_n hx hb d_M_canNotRename_59 rfl (lv_at hl 2 rfl) ?_
        refine g_get (C := R_M) (T := T_M) (N := 19) (ci := 8) (v := .ref (ad (6))) hx hb hg i_M hown hK hP 0 (by decide) rfl rfl 8 (by decide) (hg _ k_801) rfl d_M_canNotRename_60 ?_
        refine lv_iload_n hx hb d_M_canNotRename_63 rfl (lv_at hl 4 rfl) ?_
        refine g_iald hx hb hK hP 6 0 (by decide) rfl rfl (by decide) (j := b9) (by omega) d_M_canNotRename_64 ?_
        refine n_top (y := (oI (st (b9)))) (hS6.1 (b9) (by omega)) ?_
        refine c_V (own := R_M) (index := 95) (As := [.int (nI (5)), .int (oI (st (a))), .int (oI (st (b9)))]) (rest := []) hx hb hml hown hg hK (fun _ _ _ h => h) (fun _ _ => trivial) (fun _ h => h) hP hS 0 (c_M_clashes l D cI cB ad hI M ((nI (5))) ((oI (st (a)))) ((oI (st (b9))))) (by decide) (ci := 8) rfl rfl k_915 k_917 k_p32 k_9 k_918 3 rfl (by decide +kernel) (by decide) rfl hl.1 (Nat.le_of_ble_eq_true rfl) d_M_canNotRename_65 (fun v M_1 H locs hq hP _ _ hS => ?_)
        obtain ⟨rfl, eM_1⟩ := hq
        refine W.eq (g2 := F0 m 68 ls []) rfl ?_
        refine lv_goto (tgt := 101) hx hb d_M_canNotRename_68 (by decide) ?_
        refine n_const (k := 1) hx hb d_M_canNotRename_101 (by decide) ?_
        exact r_z hx hb hr hlocks (rfl) hP hS (⟨rfl, by rw [eM_1, hu9, hv9]; rfl⟩) d_M_canNotRename_102
  · refine lv_iload hx hb d_M_canNotRename_17 (lv_at hl 0 rfl) ?_
    refine o_lt (o := oy) (tgt := 33) hx hb d_M_canNotRename_19 (by decide) (fun q e => by have := hyl q e; omega) (fun c_19 => ?_) (fun v_19 c_19 => ?_)
    · refine lv_aload_n hx hb d_M_canNotRename_33 rfl (lv_at hl 2 rfl) ?_
      refine g_get (C := R_M) (T := T_M) (N := 19) (ci := 8) (v := .ref (ad (6))) hx hb hg i_M hown hK hP 0 (by decide) rfl rfl 8 (by decide) (hg _ k_801) rfl d_M_canNotRename_34 ?_
      refine lv_iload_n hx hb d_M_canNotRename_37 rfl (lv_at hl 3 rfl) ?_
      refine g_iald hx hb hK hP 6 0 (by decide) rfl rfl (by decide) (j := a) (by omega) d_M_canNotRename_38 ?_
      refine n_top (y := (oI (st (a)))) (hS6.1 (a) (by omega)) ?_
      refine o_lt (o := st (a)) (tgt := 71) hx hb d_M_canNotRename_39 (by decide) (fun q e => by have := hS6.2 _ q ha e; omega) (fun c_39 => ?_) (fun v_39 c_39 => ?_)
      · exact absurd c_39 (by rw [hu9]; simp)
      · refine lv_aload_n hx hb d_M_canNotRename_42 rfl (lv_at hl 2 rfl) ?_
        refine g_get (C := R_M) (T := T_M) (N := 19) (ci := 8) (v := .ref (ad (6))) hx hb hg i_M hown hK hP 0 (by decide) rfl rfl 8 (by decide) (hg _ k_801) rfl d_M_canNotRename_43 ?_
        refine lv_iload_n hx hb d_M_canNotRename_46 rfl (lv_at hl 4 rfl) ?_
        refine g_iald hx hb hK hP 6 0 (by decide) rfl rfl (by decide) (j := b9) (by omega) d_M_canNotRename_47 ?_
        refine n_top (y := (oI (st (b9)))) (hS6.1 (b9) (by omega)) ?_
        refine o_lt (o := st (b9)) (tgt := 71) hx hb d_M_canNotRename_48 (by decide) (fun q e => by have := hS6.2 _ q hb9 e; omega) (fun c_48 => ?_) (fun v_48 c_48 => ?_)
        · exact absurd c_48 (by rw [hv9]; simp)
        · refine lv_aload_n hx hb d_M_canNotRename_51 rfl (lv_at hl 2 rfl) ?_
          refine n_const (k := 5) hx hb d_M_canNotRename_52 (by decide) ?_
          refine lv_aload_n hx hb d_M_canNotRename_53 rfl (lv_at hl 2 rfl) ?_
          refine g_get (C := R_M) (T := T_M) (N := 19) (ci := 8) (v := .ref (ad (6))) hx hb hg i_M hown hK hP 0 (by decide) rfl rfl 8 (by decide) (hg _ k_801) rfl d_M_canNotRename_54 ?_
          refine lv_iload_n hx hb d_M_canNotRename_57 rfl (lv_at hl 3 rfl) ?_
          refine g_iald hx hb hK hP 6 0 (by decide) rfl rfl (by decide) (j := a) (by omega) d_M_canNotRename_58 ?_
          refine n_top (y := (oI (st (a)))) (hS6.1 (a) (by omega)) ?_
          refine lv_aload_n hx hb d_M_canNotRename_59 rfl (lv_at hl 2 rfl) ?_
          refine g_get (C := R_M) (T := T_M) (N := 19) (ci := 8) (v := .ref (ad (6))) hx hb hg i_M hown hK hP 0 (by decide) rfl rfl 8 (by decide) (hg _ k_801) rfl d_M_canNotRename_60 ?_
          refine lv_iload_n hx hb d_M_canNotRename_63 rfl (lv_at hl 4 rfl) ?_
          refine g_iald hx hb hK hP 6 0 (by decide) rfl rfl (by decide) (j := b9) (by omega) d_M_canNotRename_64 ?_
          refine n_top (y := (oI (st (b9)))) (hS6.1 (b9) (by omega)) ?_
          refine c_V (own := R_M) (index := 95) (As := [.int (nI (5)), .int (oI (st (a))), .int (oI (st (b9)))]) (rest := []) hx hb hml hown hg hK (fun _ _ _ h => h) (fun _ _ => trivial) (fun _ h => h) hP hS 0 (c_M_clashes l D cI cB ad hI M ((nI (5))) ((oI (st (a)))) ((oI (st (b9))))) (by decide) (ci := 8) rfl rfl k_915 k_917 k_p32 k_9 k_918 3 rfl (by decide +kernel) (by decide) rfl hl.1 (Nat.le_of_ble_eq_true rfl) d_M_canNotRename_65 (fun v M_2 H locs hq hP _ _ hS => ?_)
          obtain ⟨rfl, eM_2⟩ := hq
          refine W.eq (g2 := F0 m 68 ls []) rfl ?_
          refine lv_goto (tgt := 101) hx hb d_M_canNotRename_68 (by decide) ?_
          refine n_const (k := 1) hx hb d_M_canNotRename_101 (by decide) ?_
          exact r_z hx hb hr hlocks (rfl) hP hS (⟨rfl, by rw [eM_2, hu9, hv9]; rfl⟩) d_M_canNotRename_102
    · exact absurd hno (by rw [c_14, c_19]; simp)

set_option maxHeartbeats 4000000 in
set_option maxRecDepth 100000 in
theorem c_M_cnr_3 (l : Launch) (D : va_G) (cI cB : ClassId) (ad : Nat → Nat) (hI : GI 13 ad) (M : PM) (n : Nat) (hn60 : n ≤ 60) (rc : Nat) (rw_ : Nat → Nat) (hW : RW M n rc rw_) (st : Nat → Option Nat) (hS6 : RS M n st) (rk : Nat → Nat) (hRk : Rk n st rk) (a b9 : Nat) (ha : a < n) (hb9 : b9 < n) (ox oy : Option Nat) (hox : Fst (fun k => rw_ (3 * k) = a) rc ox) (hoy : Fst (fun k => rw_ (3 * k) = b9) rc oy) (hno : ox = none ∨ oy = none) (hno5 : st a = none ∨ st b9 = none) (hL : Lds st (some a) b9 ∨ Lds st (some b9) a) : MM l D cI cB ad y_M_canNotRename b_M_canNotRename 5 (some .boolean) 1 23 [.ref (ad (0)), .int (nI (a)), .int (nI (b9))] M (fun v M' => v = some (.int (bI true)) ∧ M' = pu (pu (pu M 10 0 (nI 3)) 10 1 (nI a)) 10 2 (nI b9)) := by
  refine MC.of (by decide) (Nat.le_of_ble_eq_true rfl) ?_
  intro p e s m below meth c ls hx hb hr hml hown hg hlocks hK hN hP hS hl
  have hown : s.vm.findClass R_M = some m.cls := hown
  have hl : lv_has ls 5 [(0, .ref (ad (0))), (1, .int (nI (a))), (2, .int (nI (b9)))] := hl
  have hrc := hW.1
  have hxl := hox.lt
  have hyl := hoy.lt
  obtain ⟨t1, ht1⟩ := bex (Lds st (some a) b9)
  obtain ⟨t2, ht2⟩ := bex (Lds st (some b9) a)
  refine lv_aload_n hx hb d_M_canNotRename_0 rfl (lv_at hl 0 rfl) ?_
  refine lv_iload_n hx hb d_M_canNotRename_1 rfl (lv_at hl 1 rfl) ?_
  refine c_V (own := R_M) (index := 128) (As := [.int (nI (a))]) (rest := []) hx hb hml hown hg hK (fun _ _ _ h => h) (fun _ _ => trivial) (fun _ h => h) hP hS 0 (c_M_rowOf l D cI cB ad hI M n hn60 rc rw_ hW (a) (by omega) (ox) hox) (by decide) (ci := 8) rfl rfl k_970 k_972 k_p39 k_9 k_973 1 rfl (by decide +kernel) (by decide) rfl hl.1 (Nat.le_of_ble_eq_true rfl) d_M_canNotRename_2 (fun v M' H locs hq hP _ _ hS => ?_)
  obtain ⟨rfl, rfl⟩ := hq
  refine W.eq (g2 := F0 m 5 ls [.int (oI (ox))]) rfl ?_
  refine lv_istore_n (lv' := [(3, .int (oI (ox))), (0, .ref (ad (0))), (1, .int (nI (a))), (2, .int (nI (b9)))]) hx hb d_M_canNotRename_5 rfl hl (by decide) rfl (fun ls hl => ?_)
  refine lv_aload_n hx hb d_M_canNotRename_6 rfl (lv_at hl 1 rfl) ?_
  refine lv_iload_n hx hb d_M_canNotRename_7 rfl (lv_at hl 3 rfl) ?_
  refine c_V (own := R_M) (index := 128) (As := [.int (nI (b9))]) (rest := []) hx hb hml hown hg hK (fun _ _ _ h => h) (fun _ _ => trivial) (fun _ h => h) hP hS 0 (c_M_rowOf l D cI cB ad hI M n hn60 rc rw_ hW (b9) (by omega) (oy) hoy) (by decide) (ci := 8) rfl rfl k_970 k_972 k_p39 k_9 k_973 1 rfl (by decide +kernel) (by decide) rfl hl.1 (Nat.le_of_ble_eq_true rfl) d_M_canNotRename_8 (fun v M' H locs hq hP _ _ hS => ?_)
  obtain ⟨rfl, rfl⟩ := hq
  refine W.eq (g2 := F0 m 11 ls [.int (oI (oy))]) rfl ?_
  refine lv_istore (lv' := [(4, .int (oI (oy))), (3, .int (oI (ox))), (0, .ref (ad (0))), (1, .int (nI (a))), (2, .int (nI (b9)))]) hx hb d_M_canNotRename_11 hl (by decide) rfl (fun ls hl => ?_)
  refine lv_iload_n hx hb d_M_canNotRename_13 rfl (lv_at hl 1 rfl) ?_
  refine o_lt (o := ox) (tgt := 33) hx hb d_M_canNotRename_14 (by decide) (fun q e => by have := hxl q e; omega) (fun c_14 => ?_) (fun v_14 c_14 => ?_)
  · refine lv_aload_n hx hb d_M_canNotRename_33 rfl (lv_at hl 2 rfl) ?_
    refine g_get (C := R_M) (T := T_M) (N := 19) (ci := 8) (v := .ref (ad (6))) hx hb hg i_M hown hK hP 0 (by decide) rfl rfl 8 (by decide) (hg _ k_801) rfl d_M_canNotRename_34 ?_
    refine lv_iload_n hx hb d_M_canNotRename_37 rfl (lv_at hl 3 rfl) ?_
    refine g_iald hx hb hK hP 6 0 (by decide) rfl rfl (by decide) (j := a) (by omega) d_M_canNotRename_38 ?_
    refine n_top (y := (oI (st (a)))) (hS6.1 (a) (by omega)) ?_
    refine o_lt (o := st (a)) (tgt := 71) hx hb d_M_canNotRename_39 (by decide) (fun q e => by have := hS6.2 _ q ha e; omega) (fun c_39 => ?_) (fun v_39 c_39 => ?_)
    · refine lv_aload_n hx hb d_M_canNotRename_71 rfl (lv_at hl 2 rfl) ?_
      refine lv_iload_n hx hb d_M_canNotRename_72 rfl (lv_at hl 3 rfl) ?_
      refine lv_iload_n hx hb d_M_canNotRename_73 rfl (lv_at hl 4 rfl) ?_
      refine c_V (own := R_M) (index := 137) (As := [.int (nI (a)), .int (nI (b9))]) (rest := []) hx hb hml hown hg hK (fun _ _ _ h => h) (fun _ _ => trivial) (fun _ h => h) hP hS 0 (c_M_comesTo l D cI cB ad hI M n hn60 st hS6 rk hRk (a) (b9) (by omega) (by omega) t1 ht1) (by decide) (ci := 8) rfl rfl k_1014 k_1016 k_p42 k_9 k_1017 2 rfl (by decide +kernel) (by decide) rfl hl.1 (Nat.le_of_ble_eq_true rfl) d_M_canNotRename_74 (fun v M' H locs hq hP _ _ hS => ?_)
      obtain ⟨rfl, rfl⟩ := hq
      refine W.eq (g2 := F0 m 77 ls [.int (bI (t1))]) rfl ?_
      refine z_ne (t := t1) (tgt := 89) hx hb d_M_canNotRename_77 (by decide) (fun c_77 => ?_) (fun c_77 => ?_)
      · refine lv_aload_n hx hb d_M_canNotRename_89 rfl (lv_at hl 2 rfl) ?_
        refine n_const (k := 3) hx hb d_M_canNotRename_90 (by decide) ?_
        refine lv_iload_n hx hb d_M_canNotRename_91 rfl (lv_at hl 3 rfl) ?_
        refine lv_iload_n hx hb d_M_canNotRename_92 rfl (lv_at hl 4 rfl) ?_
        refine c_V (own := R_M) (index := 95) (As := [.int (nI (3)), .int (nI (a)), .int (nI (b9))]) (rest := []) hx hb hml hown hg hK (fun _ _ _ h => h) (fun _ _ => trivial) (fun _ h => h) hP hS 0 (c_M_clashes l D cI cB ad hI M ((nI (3))) ((nI (a))) ((nI (b9)))) (by decide) (ci := 8) rfl rfl k_915 k_917 k_p32 k_9 k_918 3 rfl (by decide +kernel) (by decide) rfl hl.1 (Nat.le_of_ble_eq_true rfl) d_M_canNotRename_93 (fun v M_1 H locs hq hP _ _ hS => ?_)
        obtain ⟨rfl, eM_1⟩ := hq
        refine W.eq (g2 := F0 m 96 ls []) rfl ?_
        refine lv_goto (tgt := 101) hx hb d_M_canNotRename_96 (by decide) ?_
        refine n_const (k := 1) hx hb d_M_canNotRename_101 (by decide) ?_
        exact r_z hx hb hr hlocks (rfl) hP hS (⟨rfl, eM_1⟩) d_M_canNotRename_102
      · refine lv_aload_n hx hb d_M_canNotRename_80 rfl (lv_at hl 2 rfl) ?_
        refine lv_iload_n hx hb d_M_canNotRename_81 rfl (lv_at hl 4 rfl) ?_
        refine lv_iload_n hx hb d_M_canNotRename_82 rfl (lv_at hl 3 rfl) ?_
        refine c_V (own := R_M) (index := 137) (As := [.int (nI (b9)), .int (nI (a))]) (rest := []) hx hb hml hown hg hK (fun _ _ _ h => h) (fun _ _ => trivial) (fun _ h => h) hP hS 0 (c_M_comesTo l D cI cB ad hI M n hn60 st hS6 rk hRk (b9) (a) (by omega) (by omega) t2 ht2) (by decide) (ci := 8) rfl rfl k_1014 k_1016 k_p42 k_9 k_1017 2 rfl (by decide +kernel) (by decide) rfl hl.1 (Nat.le_of_ble_eq_true rfl) d_M_canNotRename_83 (fun v M' H locs hq hP _ _ hS => ?_)
        obtain ⟨rfl, rfl⟩ := hq
        refine W.eq (g2 := F0 m 86 ls [.int (bI (t2))]) rfl ?_
        refine z_eq (t := t2) (tgt := 99) hx hb d_M_canNotRename_86 (by decide) (fun c_86 => ?_) (fun c_86 => ?_)
        · exact absurd hL (fun h => by rcases h with h | h; have := ht1.mpr h; rw [c_77] at this; cases this; have := ht2.mpr h; rw [c_86] at this; cases this)
        · refine lv_aload_n hx hb d_M_canNotRename_89 rfl (lv_at hl 2 rfl) ?_
          refine n_const (k := 3) hx hb d_M_canNotRename_90 (by decide) ?_
          refine lv_iload_n hx hb d_M_canNotRename_91 rfl (lv_at hl 3 rfl) ?_
          refine lv_iload_n hx hb d_M_canNotRename_92 rfl (lv_at hl 4 rfl) ?_
          refine c_V (own := R_M) (index := 95) (As := [.int (nI (3)), .int (nI (a)), .int (nI (b9))]) (rest := []) hx hb hml hown hg hK (fun _ _ _ h => h) (fun _ _ => trivial) (fun _ h => h) hP hS 0 (c_M_clashes l D cI cB ad hI M ((nI (3))) ((nI (a))) ((nI (b9)))) (by decide) (ci := 8) rfl rfl k_915 k_917 k_p32 k_9 k_918 3 rfl (by decide +kernel) (by decide) rfl hl.1 (Nat.le_of_ble_eq_true rfl) d_M_canNotRename_93 (fun v M_2 H locs hq hP _ _ hS => ?_)
          obtain ⟨rfl, eM_2⟩ := hq
          refine W.eq (g2 := F0 m 96 ls []) rfl ?_
          refine lv_goto (tgt := 101) hx hb d_M_canNotRename_96 (by decide) ?_
          refine n_const (k := 1) hx hb d_M_canNotRename_101 (by decide) ?_
          exact r_z hx hb hr hlocks (rfl) hP hS (⟨rfl, eM_2⟩) d_M_canNotRename_102
    · refine lv_aload_n hx hb d_M_canNotRename_42 rfl (lv_at hl 2 rfl) ?_
      refine g_get (C := R_M) (T := T_M) (N := 19) (ci := 8) (v := .ref (ad (6))) hx hb hg i_M hown hK hP 0 (by decide) rfl rfl 8 (by decide) (hg _ k_801) rfl d_M_canNotRename_43 ?_
      refine lv_iload_n hx hb d_M_canNotRename_46 rfl (lv_at hl 4 rfl) ?_
      refine g_iald hx hb hK hP 6 0 (by decide) rfl rfl (by decide) (j := b9) (by omega) d_M_canNotRename_47 ?_
      refine n_top (y := (oI (st (b9)))) (hS6.1 (b9) (by omega)) ?_
      refine o_lt (o := st (b9)) (tgt := 71) hx hb d_M_canNotRename_48 (by decide) (fun q e => by have := hS6.2 _ q hb9 e; omega) (fun c_48 => ?_) (fun v_48 c_48 => ?_)
      · refine lv_aload_n hx hb d_M_canNotRename_71 rfl (lv_at hl 2 rfl) ?_
        refine lv_iload_n hx hb d_M_canNotRename_72 rfl (lv_at hl 3 rfl) ?_
        refine lv_iload_n hx hb d_M_canNotRename_73 rfl (lv_at hl 4 rfl) ?_
        refine c_V (own := R_M) (index := 137) (As := [.int (nI (a)), .int (nI (b9))]) (rest := []) hx hb hml hown hg hK (fun _ _ _ h => h) (fun _ _ => trivial) (fun _ h => h) hP hS 0 (c_M_comesTo l D cI cB ad hI M n hn60 st hS6 rk hRk (a) (b9) (by omega) (by omega) t1 ht1) (by decide) (ci := 8) rfl rfl k_1014 k_1016 k_p42 k_9 k_1017 2 rfl (by decide +kernel) (by decide) rfl hl.1 (Nat.le_of_ble_eq_true rfl) d_M_canNotRename_74 (fun v M' H locs hq hP _ _ hS => ?_)
        obtain ⟨rfl, rfl⟩ := hq
        refine W.eq (g2 := F0 m 77 ls [.int (bI (t1))]) rfl ?_
        refine z_ne (t := t1) (tgt := 89) hx hb d_M_canNotRename_77 (by decide) (fun c_77 => ?_) (fun c_77 => ?_)
        · refine lv_aload_n hx hb d_M_canNotRename_89 rfl (lv_at hl 2 rfl) ?_
          refine n_const (k := 3) hx hb d_M_canNotRename_90 (by decide) ?_
          refine lv_iload_n hx hb d_M_canNotRename_91 rfl (lv_at hl 3 rfl) ?_
          refine lv_iload_n hx hb d_M_canNotRename_92 rfl (lv_at hl 4 rfl) ?_
          refine c_V (own := R_M) (index := 95) (As := [.int (nI (3)), .int (nI (a)), .int (nI (b9))]) (rest := []) hx hb hml hown hg hK (fun _ _ _ h => h) (fun _ _ => trivial) (fun _ h => h) hP hS 0 (c_M_clashes l D cI cB ad hI M ((nI (3))) ((nI (a))) ((nI (b9)))) (by decide) (ci := 8) rfl rfl k_915 k_917 k_p32 k_9 k_918 3 rfl (by decide +kernel) (by decide) rfl hl.1 (Nat.le_of_ble_eq_true rfl) d_M_canNotRename_93 (fun v M_3 H locs hq hP _ _ hS => ?_)
          obtain ⟨rfl, eM_3⟩ := hq
          refine W.eq (g2 := F0 m 96 ls []) rfl ?_
          refine lv_goto (tgt := 101) hx hb d_M_canNotRename_96 (by decide) ?_
          refine n_const (k := 1) hx hb d_M_canNotRename_101 (by decide) ?_
          exact r_z hx hb hr hlocks (rfl) hP hS (⟨rfl, eM_3⟩) d_M_canNotRename_102
        · refine lv_aload_n hx hb d_M_canNotRename_80 rfl (lv_at hl 2 rfl) ?_
          refine lv_iload_n hx hb d_M_canNotRename_81 rfl (lv_at hl 4 rfl) ?_
          refine lv_iload_n hx hb d_M_canNotRename_82 rfl (lv_at hl 3 rfl) ?_
          refine c_V (own := R_M) (index := 137) (As := [.int (nI (b9)), .int (nI (a))]) (rest := []) hx hb hml hown hg hK (fun _ _ _ h => h) (fun _ _ => trivial) (fun _ h => h) hP hS 0 (c_M_comesTo l D cI cB ad hI M n hn60 st hS6 rk hRk (b9) (a) (by omega) (by omega) t2 ht2) (by decide) (ci := 8) rfl rfl k_1014 k_1016 k_p42 k_9 k_1017 2 rfl (by decide +kernel) (by decide) rfl hl.1 (Nat.le_of_ble_eq_true rfl) d_M_canNotRename_83 (fun v M' H locs hq hP _ _ hS => ?_)
          obtain ⟨rfl, rfl⟩ := hq
          refine W.eq (g2 := F0 m 86 ls [.int (bI (t2))]) rfl ?_
          refine z_eq (t := t2) (tgt := 99) hx hb d_M_canNotRename_86 (by decide) (fun c_86 => ?_) (fun c_86 => ?_)
          · exact absurd hL (fun h => by rcases h with h | h; have := ht1.mpr h; rw [c_77] at this; cases this; have := ht2.mpr h; rw [c_86] at this; cases this)
          · refine lv_aload_n hx hb d_M_canNotRename_89 rfl (lv_at hl 2 rfl) ?_
            refine n_const (k := 3) hx hb d_M_canNotRename_90 (by decide) ?_
            refine lv_iload_n hx hb d_M_canNotRename_91 rfl (lv_at hl 3 rfl) ?_
            refine lv_iload_n hx hb d_M_canNotRename_92 rfl (lv_at hl 4 rfl) ?_
            refine c_V (own := R_M) (index := 95) (As := [.int (nI (3)), .int (nI (a)), .int (nI (b9))]) (rest := []) hx hb hml hown hg hK (fun _ _ _ h => h) (fun _ _ => trivial) (fun _ h => h) hP hS 0 (c_M_clashes l D cI cB ad hI M ((nI (3))) ((nI (a))) ((nI (b9)))) (by decide) (ci := 8) rfl rfl k_915 k_917 k_p32 k_9 k_918 3 rfl (by decide +kernel) (by decide) rfl hl.1 (Nat.le_of_ble_eq_true rfl) d_M_canNotRename_93 (fun v M_4 H locs hq hP _ _ hS => ?_)
            obtain ⟨rfl, eM_4⟩ := hq
            refine W.eq (g2 := F0 m 96 ls []) rfl ?_
            refine lv_goto (tgt := 101) hx hb d_M_canNotRename_96 (by decide) ?_
            refine n_const (k := 1) hx hb d_M_canNotRename_101 (by decide) ?_
            exact r_z hx hb hr hlocks (rfl) hP hS (⟨rfl, eM_4⟩) d_M_canNotRename_102
      · exact absurd hno5 (by rw [c_39, c_48]; simp)
  · refine lv_iload hx hb d_M_canNotRename_17 (lv_at hl 0 rfl) ?_
    refine o_lt (o := oy) (tgt := 33) hx hb d_M_canNotRename_19 (by decide) (fun q e => by have := hyl q e; omega) (fun c_19 => ?_) (fun v_19 c_19 => ?_)
    · refine lv_aload_n hx hb d_M_canNotRename_33 rfl (lv_at hl 2 rfl) ?_
      refine g_get (C := R_M) (T := T_M) (N := 19) (ci := 8) (v := .ref (ad (6))) hx hb hg i_M hown hK hP 0 (by decide) rfl rfl 8 (by decide) (hg _ k_801) rfl d_M_canNotRename_34 ?_
      refine lv_iload_n hx hb d_M_canNotRename_37 rfl (lv_at hl 3 rfl) ?_
      refine g_iald hx hb hK hP 6 0 (by decide) rfl rfl (by decide) (j := a) (by omega) d_M_canNotRename_38 ?_
      refine n_top (y := (oI (st (a)))) (hS6.1 (a) (by omega)) ?_
      refine o_lt (o := st (a)) (tgt := 71) hx hb d_M_canNotRename_39 (by decide) (fun q e => by have := hS6.2 _ q ha e; omega) (fun c_39 => ?_) (fun v_39 c_39 => ?_)
      · refine lv_aload_n hx hb d_M_canNotRename_71 rfl (lv_at hl 2 rfl) ?_
        refine lv_iload_n hx hb d_M_canNotRename_72 rfl (lv_at hl 3 rfl) ?_
        refine lv_iload_n hx hb d_M_canNotRename_73 rfl (lv_at hl 4 rfl) ?_
        refine c_V (own := R_M) (index := 137) (As := [.int (nI (a)), .int (nI (b9))]) (rest := []) hx hb hml hown hg hK (fun _ _ _ h => h) (fun _ _ => trivial) (fun _ h => h) hP hS 0 (c_M_comesTo l D cI cB ad hI M n hn60 st hS6 rk hRk (a) (b9) (by omega) (by omega) t1 ht1) (by decide) (ci := 8) rfl rfl k_1014 k_1016 k_p42 k_9 k_1017 2 rfl (by decide +kernel) (by decide) rfl hl.1 (Nat.le_of_ble_eq_true rfl) d_M_canNotRename_74 (fun v M' H locs hq hP _ _ hS => ?_)
        obtain ⟨rfl, rfl⟩ := hq
        refine W.eq (g2 := F0 m 77 ls [.int (bI (t1))]) rfl ?_
        refine z_ne (t := t1) (tgt := 89) hx hb d_M_canNotRename_77 (by decide) (fun c_77 => ?_) (fun c_77 => ?_)
        · refine lv_aload_n hx hb d_M_canNotRename_89 rfl (lv_at hl 2 rfl) ?_
          refine n_const (k := 3) hx hb d_M_canNotRename_90 (by decide) ?_
          refine lv_iload_n hx hb d_M_canNotRename_91 rfl (lv_at hl 3 rfl) ?_
          refine lv_iload_n hx hb d_M_canNotRename_92 rfl (lv_at hl 4 rfl) ?_
          refine c_V (own := R_M) (index := 95) (As := [.int (nI (3)), .int (nI (a)), .int (nI (b9))]) (rest := []) hx hb hml hown hg hK (fun _ _ _ h => h) (fun _ _ => trivial) (fun _ h => h) hP hS 0 (c_M_clashes l D cI cB ad hI M ((nI (3))) ((nI (a))) ((nI (b9)))) (by decide) (ci := 8) rfl rfl k_915 k_917 k_p32 k_9 k_918 3 rfl (by decide +kernel) (by decide) rfl hl.1 (Nat.le_of_ble_eq_true rfl) d_M_canNotRename_93 (fun v M_5 H locs hq hP _ _ hS => ?_)
          obtain ⟨rfl, eM_5⟩ := hq
          refine W.eq (g2 := F0 m 96 ls []) rfl ?_
          refine lv_goto (tgt := 101) hx hb d_M_canNotRename_96 (by decide) ?_
          refine n_const (k := 1) hx hb d_M_canNotRename_101 (by decide) ?_
          exact r_z hx hb hr hlocks (rfl) hP hS (⟨rfl, eM_5⟩) d_M_canNotRename_102
        · refine lv_aload_n hx hb d_M_canNotRename_80 rfl (lv_at hl 2 rfl) ?_
          refine lv_iload_n hx hb d_M_canNotRename_81 rfl (lv_at hl 4 rfl) ?_
          refine lv_iload_n hx hb d_M_canNotRename_82 rfl (lv_at hl 3 rfl) ?_
          refine c_V (own := R_M) (index := 137) (As := [.int (nI (b9)), .int (nI (a))]) (rest := []) hx hb hml hown hg hK (fun _ _ _ h => h) (fun _ _ => trivial) (fun _ h => h) hP hS 0 (c_M_comesTo l D cI cB ad hI M n hn60 st hS6 rk hRk (b9) (a) (by omega) (by omega) t2 ht2) (by decide) (ci := 8) rfl rfl k_1014 k_1016 k_p42 k_9 k_1017 2 rfl (by decide +kernel) (by decide) rfl hl.1 (Nat.le_of_ble_eq_true rfl) d_M_canNotRename_83 (fun v M' H locs hq hP _ _ hS => ?_)
          obtain ⟨rfl, rfl⟩ := hq
          refine W.eq (g2 := F0 m 86 ls [.int (bI (t2))]) rfl ?_
          refine z_eq (t := t2) (tgt := 99) hx hb d_M_canNotRename_86 (by decide) (fun c_86 => ?_) (fun c_86 => ?_)
          · exact absurd hL (fun h => by rcases h with h | h; have := ht1.mpr h; rw [c_77] at this; cases this; have := ht2.mpr h; rw [c_86] at this; cases this)
          · refine lv_aload_n hx hb d_M_canNotRename_89 rfl (lv_at hl 2 rfl) ?_
            refine n_const (k := 3) hx hb d_M_canNotRename_90 (by decide) ?_
            refine lv_iload_n hx hb d_M_canNotRename_91 rfl (lv_at hl 3 rfl) ?_
            refine lv_iload_n hx hb d_M_canNotRename_92 rfl (lv_at hl 4 rfl) ?_
            refine c_V (own := R_M) (index := 95) (As := [.int (nI (3)), .int (nI (a)), .int (nI (b9))]) (rest := []) hx hb hml hown hg hK (fun _ _ _ h => h) (fun _ _ => trivial) (fun _ h => h) hP hS 0 (c_M_clashes l D cI cB ad hI M ((nI (3))) ((nI (a))) ((nI (b9)))) (by decide) (ci := 8) rfl rfl k_915 k_917 k_p32 k_9 k_918 3 rfl (by decide +kernel) (by decide) rfl hl.1 (Nat.le_of_ble_eq_true rfl) d_M_canNotRename_93 (fun v M_6 H locs hq hP _ _ hS => ?_)
            obtain ⟨rfl, eM_6⟩ := hq
            refine W.eq (g2 := F0 m 96 ls []) rfl ?_
            refine lv_goto (tgt := 101) hx hb d_M_canNotRename_96 (by decide) ?_
            refine n_const (k := 1) hx hb d_M_canNotRename_101 (by decide) ?_
            exact r_z hx hb hr hlocks (rfl) hP hS (⟨rfl, eM_6⟩) d_M_canNotRename_102
      · refine lv_aload_n hx hb d_M_canNotRename_42 rfl (lv_at hl 2 rfl) ?_
        refine g_get (C := R_M) (T := T_M) (N := 19) (ci := 8) (v := .ref (ad (6))) hx hb hg i_M hown hK hP 0 (by decide) rfl rfl 8 (by decide) (hg _ k_801) rfl d_M_canNotRename_43 ?_
        refine lv_iload_n hx hb d_M_canNotRename_46 rfl (lv_at hl 4 rfl) ?_
        refine g_iald hx hb hK hP 6 0 (by decide) rfl rfl (by decide) (j := b9) (by omega) d_M_canNotRename_47 ?_
        refine n_top (y := (oI (st (b9)))) (hS6.1 (b9) (by omega)) ?_
        refine o_lt (o := st (b9)) (tgt := 71) hx hb d_M_canNotRename_48 (by decide) (fun q e => by have := hS6.2 _ q hb9 e; omega) (fun c_48 => ?_) (fun v_48 c_48 => ?_)
        · refine lv_aload_n hx hb d_M_canNotRename_71 rfl (lv_at hl 2 rfl) ?_
          refine lv_iload_n hx hb d_M_canNotRename_72 rfl (lv_at hl 3 rfl) ?_
          refine lv_iload_n hx hb d_M_canNotRename_73 rfl (lv_at hl 4 rfl) ?_
          refine c_V (own := R_M) (index := 137) (As := [.int (nI (a)), .int (nI (b9))]) (rest := []) hx hb hml hown hg hK (fun _ _ _ h => h) (fun _ _ => trivial) (fun _ h => h) hP hS 0 (c_M_comesTo l D cI cB ad hI M n hn60 st hS6 rk hRk (a) (b9) (by omega) (by omega) t1 ht1) (by decide) (ci := 8) rfl rfl k_1014 k_1016 k_p42 k_9 k_1017 2 rfl (by decide +kernel) (by decide) rfl hl.1 (Nat.le_of_ble_eq_true rfl) d_M_canNotRename_74 (fun v M' H locs hq hP _ _ hS => ?_)
          obtain ⟨rfl, rfl⟩ := hq
          refine W.eq (g2 := F0 m 77 ls [.int (bI (t1))]) rfl ?_
          refine z_ne (t := t1) (tgt := 89) hx hb d_M_canNotRename_77 (by decide) (fun c_77 => ?_) (fun c_77 => ?_)
          · refine lv_aload_n hx hb d_M_canNotRename_89 rfl (lv_at hl 2 rfl) ?_
            refine n_const (k := 3) hx hb d_M_canNotRename_90 (by decide) ?_
            refine lv_iload_n hx hb d_M_canNotRename_91 rfl (lv_at hl 3 rfl) ?_
            refine lv_iload_n hx hb d_M_canNotRename_92 rfl (lv_at hl 4 rfl) ?_
            refine c_V (own := R_M) (index := 95) (As := [.int (nI (3)), .int (nI (a)), .int (nI (b9))]) (rest := []) hx hb hml hown hg hK (fun _ _ _ h => h) (fun _ _ => trivial) (fun _ h => h) hP hS 0 (c_M_clashes l D cI cB ad hI M ((nI (3))) ((nI (a))) ((nI (b9)))) (by decide) (ci := 8) rfl rfl k_915 k_917 k_p32 k_9 k_918 3 rfl (by decide +kernel) (by decide) rfl hl.1 (Nat.le_of_ble_eq_true rfl) d_M_canNotRename_93 (fun v M_7 H locs hq hP _ _ hS => ?_)
            obtain ⟨rfl, eM_7⟩ := hq
            refine W.eq (g2 := F0 m 96 ls []) rfl ?_
            refine lv_goto (tgt := 101) hx hb d_M_canNotRename_96 (by decide) ?_
            refine n_const (k := 1) hx hb d_M_canNotRename_101 (by decide) ?_
            exact r_z hx hb hr hlocks (rfl) hP hS (⟨rfl, eM_7⟩) d_M_canNotRename_102
          · refine lv_aload_n hx hb d_M_canNotRename_80 rfl (lv_at hl 2 rfl) ?_
            refine lv_iload_n hx hb d_M_canNotRename_81 rfl (lv_at hl 4 rfl) ?_
            refine lv_iload_n hx hb d_M_canNotRename_82 rfl (lv_at hl 3 rfl) ?_
            refine c_V (own := R_M) (index := 137) (As := [.int (nI (b9)), .int (nI (a))]) (rest := []) hx hb hml hown hg hK (fun _ _ _ h => h) (fun _ _ => trivial) (fun _ h => h) hP hS 0 (c_M_comesTo l D cI cB ad hI M n hn60 st hS6 rk hRk (b9) (a) (by omega) (by omega) t2 ht2) (by decide) (ci := 8) rfl rfl k_1014 k_1016 k_p42 k_9 k_1017 2 rfl (by decide +kernel) (by decide) rfl hl.1 (Nat.le_of_ble_eq_true rfl) d_M_canNotRename_83 (fun v M' H locs hq hP _ _ hS => ?_)
            obtain ⟨rfl, rfl⟩ := hq
            refine W.eq (g2 := F0 m 86 ls [.int (bI (t2))]) rfl ?_
            refine z_eq (t := t2) (tgt := 99) hx hb d_M_canNotRename_86 (by decide) (fun c_86 => ?_) (fun c_86 => ?_)
            · exact absurd hL (fun h => by rcases h with h | h; have := ht1.mpr h; rw [c_77] at this; cases this; have := ht2.mpr h; rw [c_86] at this; cases this)
            · refine lv_aload_n hx hb d_M_canNotRename_89 rfl (lv_at hl 2 rfl) ?_
              refine n_const (k := 3) hx hb d_M_canNotRename_90 (by decide) ?_
              refine lv_iload_n hx hb d_M_canNotRename_91 rfl (lv_at hl 3 rfl) ?_
              refine lv_iload_n hx hb d_M_canNotRename_92 rfl (lv_at hl 4 rfl) ?_
              refine c_V (own := R_M) (index := 95) (As := [.int (nI (3)), .int (nI (a)), .int (nI (b9))]) (rest := []) hx hb hml hown hg hK (fun _ _ _ h => h) (fun _ _ => trivial) (fun _ h => h) hP hS 0 (c_M_clashes l D cI cB ad hI M ((nI (3))) ((nI (a))) ((nI (b9)))) (by decide) (ci := 8) rfl rfl k_915 k_917 k_p32 k_9 k_918 3 rfl (by decide +kernel) (by decide) rfl hl.1 (Nat.le_of_ble_eq_true rfl) d_M_canNotRename_93 (fun v M_8 H locs hq hP _ _ hS => ?_)
              obtain ⟨rfl, eM_8⟩ := hq
              refine W.eq (g2 := F0 m 96 ls []) rfl ?_
              refine lv_goto (tgt := 101) hx hb d_M_canNotRename_96 (by decide) ?_
              refine n_const (k := 1) hx hb d_M_canNotRename_101 (by decide) ?_
              exact r_z hx hb hr hlocks (rfl) hP hS (⟨rfl, eM_8⟩) d_M_canNotRename_102
        · exact absurd hno5 (by rw [c_39, c_48]; simp)
    · exact absurd hno (by rw [c_14, c_19]; simp)

set_option maxHeartbeats 4000000 in
set_option maxRecDepth 100000 in
theorem c_M_cnr_0 (l : Launch) (D : va_G) (cI cB : ClassId) (ad : Nat → Nat) (hI : GI 13 ad) (M : PM) (n : Nat) (hn60 : n ≤ 60) (rc : Nat) (rw_ : Nat → Nat) (hW : RW M n rc rw_) (st : Nat → Option Nat) (hS6 : RS M n st) (rk : Nat → Nat) (hRk : Rk n st rk) (a b9 : Nat) (ha : a < n) (hb9 : b9 < n) (ox oy : Option Nat) (hox : Fst (fun k => rw_ (3 * k) = a) rc ox) (hoy : Fst (fun k => rw_ (3 * k) = b9) rc oy) (hno : ox = none ∨ oy = none) (hno5 : st a = none ∨ st b9 = none) (hL : ¬ (Lds st (some a) b9 ∨ Lds st (some b9) a)) : MM l D cI cB ad y_M_canNotRename b_M_canNotRename 5 (some .boolean) 1 23 [.ref (ad (0)), .int (nI (a)), .int (nI (b9))] M (fun v M' => v = some (.int (bI false)) ∧ M = M') := by
  refine MC.of (by decide) (Nat.le_of_ble_eq_true rfl) ?_
  intro p e s m below meth c ls hx hb hr hml hown hg hlocks hK hN hP hS hl
  have hown : s.vm.findClass R_M = some m.cls := hown
  have hl : lv_has ls 5 [(0, .ref (ad (0))), (1, .int (nI (a))), (2, .int (nI (b9)))] := hl
  have hrc := hW.1
  have hxl := hox.lt
  have hyl := hoy.lt
  obtain ⟨t1, ht1⟩ := bex (Lds st (some a) b9)
  obtain ⟨t2, ht2⟩ := bex (Lds st (some b9) a)
  refine lv_aload_n hx hb d_M_canNotRename_0 rfl (lv_at hl 0 rfl) ?_
  refine lv_iload_n hx hb d_M_canNotRename_1 rfl (lv_at hl 1 rfl) ?_
  refine c_V (own := R_M) (index := 128) (As := [.int (nI (a))]) (rest := []) hx hb hml hown hg hK (fun _ _ _ h => h) (fun _ _ => trivial) (fun _ h => h) hP hS 0 (c_M_rowOf l D cI cB ad hI M n hn60 rc rw_ hW (a) (by omega) (ox) hox) (by decide) (ci := 8) rfl rfl k_970 k_972 k_p39 k_9 k_973 1 rfl (by decide +kernel) (by decide) rfl hl.1 (Nat.le_of_ble_eq_true rfl) d_M_canNotRename_2 (fun v M' H locs hq hP _ _ hS => ?_)
  obtain ⟨rfl, rfl⟩ := hq
  refine W.eq (g2 := F0 m 5 ls [.int (oI (ox))]) rfl ?_
  refine lv_istore_n (lv' := [(3, .int (oI (ox))), (0, .ref (ad (0))), (1, .int (nI (a))), (2, .int (nI (b9)))]) hx hb d_M_canNotRename_5 rfl hl (by decide) rfl (fun ls hl => ?_)
  refine lv_aload_n hx hb d_M_canNotRename_6 rfl (lv_at hl 1 rfl) ?_
  refine lv_iload_n hx hb d_M_canNotRename_7 rfl (lv_at hl 3 rfl) ?_
  refine c_V (own := R_M) (index := 128) (As := [.int (nI (b9))]) (rest := []) hx hb hml hown hg hK (fun _ _ _ h => h) (fun _ _ => trivial) (fun _ h => h) hP hS 0 (c_M_rowOf l D cI cB ad hI M n hn60 rc rw_ hW (b9) (by omega) (oy) hoy) (by decide) (ci := 8) rfl rfl k_970 k_972 k_p39 k_9 k_973 1 rfl (by decide +kernel) (by decide) rfl hl.1 (Nat.le_of_ble_eq_true rfl) d_M_canNotRename_8 (fun v M' H locs hq hP _ _ hS => ?_)
  obtain ⟨rfl, rfl⟩ := hq
  refine W.eq (g2 := F0 m 11 ls [.int (oI (oy))]) rfl ?_
  refine lv_istore (lv' := [(4, .int (oI (oy))), (3, .int (oI (ox))), (0, .ref (ad (0))), (1, .int (nI (a))), (2, .int (nI (b9)))]) hx hb d_M_canNotRename_11 hl (by decide) rfl (fun ls hl => ?_)
  refine lv_iload_n hx hb d_M_canNotRename_13 rfl (lv_at hl 1 rfl) ?_
  refine o_lt (o := ox) (tgt := 33) hx hb d_M_canNotRename_14 (by decide) (fun q e => by have := hxl q e; omega) (fun c_14 => ?_) (fun v_14 c_14 => ?_)
  · refine lv_aload_n hx hb d_M_canNotRename_33 rfl (lv_at hl 2 rfl) ?_
    refine g_get (C := R_M) (T := T_M) (N := 19) (ci := 8) (v := .ref (ad (6))) hx hb hg i_M hown hK hP 0 (by decide) rfl rfl 8 (by decide) (hg _ k_801) rfl d_M_canNotRename_34 ?_
    refine lv_iload_n hx hb d_M_canNotRename_37 rfl (lv_at hl 3 rfl) ?_
    refine g_iald hx hb hK hP 6 0 (by decide) rfl rfl (by decide) (j := a) (by omega) d_M_canNotRename_38 ?_
    refine n_top (y := (oI (st (a)))) (hS6.1 (a) (by omega)) ?_
    refine o_lt (o := st (a)) (tgt := 71) hx hb d_M_canNotRename_39 (by decide) (fun q e => by have := hS6.2 _ q ha e; omega) (fun c_39 => ?_) (fun v_39 c_39 => ?_)
    · refine lv_aload_n hx hb d_M_canNotRename_71 rfl (lv_at hl 2 rfl) ?_
      refine lv_iload_n hx hb d_M_canNotRename_72 rfl (lv_at hl 3 rfl) ?_
      refine lv_iload_n hx hb d_M_canNotRename_73 rfl (lv_at hl 4 rfl) ?_
      refine c_V (own := R_M) (index := 137) (As := [.int (nI (a)), .int (nI (b9))]) (rest := []) hx hb hml hown hg hK (fun _ _ _ h => h) (fun _ _ => trivial) (fun _ h => h) hP hS 0 (c_M_comesTo l D cI cB ad hI M n hn60 st hS6 rk hRk (a) (b9) (by omega) (by omega) t1 ht1) (by decide) (ci := 8) rfl rfl k_1014 k_1016 k_p42 k_9 k_1017 2 rfl (by decide +kernel) (by decide) rfl hl.1 (Nat.le_of_ble_eq_true rfl) d_M_canNotRename_74 (fun v M' H locs hq hP _ _ hS => ?_)
      obtain ⟨rfl, rfl⟩ := hq
      refine W.eq (g2 := F0 m 77 ls [.int (bI (t1))]) rfl ?_
      refine z_ne (t := t1) (tgt := 89) hx hb d_M_canNotRename_77 (by decide) (fun c_77 => ?_) (fun c_77 => ?_)
      · exact absurd (Or.inl (ht1.mp c_77)) hL
      · refine lv_aload_n hx hb d_M_canNotRename_80 rfl (lv_at hl 2 rfl) ?_
        refine lv_iload_n hx hb d_M_canNotRename_81 rfl (lv_at hl 4 rfl) ?_
        refine lv_iload_n hx hb d_M_canNotRename_82 rfl (lv_at hl 3 rfl) ?_
        refine c_V (own := R_M) (index := 137) (As := [.int (nI (b9)), .int (nI (a))]) (rest := []) hx hb hml hown hg hK (fun _ _ _ h => h) (fun _ _ => trivial) (fun _ h => h) hP hS 0 (c_M_comesTo l D cI cB ad hI M n hn60 st hS6 rk hRk (b9) (a) (by omega) (by omega) t2 ht2) (by decide) (ci := 8) rfl rfl k_1014 k_1016 k_p42 k_9 k_1017 2 rfl (by decide +kernel) (by decide) rfl hl.1 (Nat.le_of_ble_eq_true rfl) d_M_canNotRename_83 (fun v M' H locs hq hP _ _ hS => ?_)
        obtain ⟨rfl, rfl⟩ := hq
        refine W.eq (g2 := F0 m 86 ls [.int (bI (t2))]) rfl ?_
        refine z_eq (t := t2) (tgt := 99) hx hb d_M_canNotRename_86 (by decide) (fun c_86 => ?_) (fun c_86 => ?_)
        · refine n_const (k := 0) hx hb d_M_canNotRename_99 (by decide) ?_
          exact r_z hx hb hr hlocks (rfl) hP hS (⟨rfl, rfl⟩) d_M_canNotRename_100
        · exact absurd (Or.inr (ht2.mp c_86)) hL
    · refine lv_aload_n hx hb d_M_canNotRename_42 rfl (lv_at hl 2 rfl) ?_
      refine g_get (C := R_M) (T := T_M) (N := 19) (ci := 8) (v := .ref (ad (6))) hx hb hg i_M hown hK hP 0 (by decide) rfl rfl 8 (by decide) (hg _ k_801) rfl d_M_canNotRename_43 ?_
      refine lv_iload_n hx hb d_M_canNotRename_46 rfl (lv_at hl 4 rfl) ?_
      refine g_iald hx hb hK hP 6 0 (by decide) rfl rfl (by decide) (j := b9) (by omega) d_M_canNotRename_47 ?_
      refine n_top (y := (oI (st (b9)))) (hS6.1 (b9) (by omega)) ?_
      refine o_lt (o := st (b9)) (tgt := 71) hx hb d_M_canNotRename_48 (by decide) (fun q e => by have := hS6.2 _ q hb9 e; omega) (fun c_48 => ?_) (fun v_48 c_48 => ?_)
      · refine lv_aload_n hx hb d_M_canNotRename_71 rfl (lv_at hl 2 rfl) ?_
        refine lv_iload_n hx hb d_M_canNotRename_72 rfl (lv_at hl 3 rfl) ?_
        refine lv_iload_n hx hb d_M_canNotRename_73 rfl (lv_at hl 4 rfl) ?_
        refine c_V (own := R_M) (index := 137) (As := [.int (nI (a)), .int (nI (b9))]) (rest := []) hx hb hml hown hg hK (fun _ _ _ h => h) (fun _ _ => trivial) (fun _ h => h) hP hS 0 (c_M_comesTo l D cI cB ad hI M n hn60 st hS6 rk hRk (a) (b9) (by omega) (by omega) t1 ht1) (by decide) (ci := 8) rfl rfl k_1014 k_1016 k_p42 k_9 k_1017 2 rfl (by decide +kernel) (by decide) rfl hl.1 (Nat.le_of_ble_eq_true rfl) d_M_canNotRename_74 (fun v M' H locs hq hP _ _ hS => ?_)
        obtain ⟨rfl, rfl⟩ := hq
        refine W.eq (g2 := F0 m 77 ls [.int (bI (t1))]) rfl ?_
        refine z_ne (t := t1) (tgt := 89) hx hb d_M_canNotRename_77 (by decide) (fun c_77 => ?_) (fun c_77 => ?_)
        · exact absurd (Or.inl (ht1.mp c_77)) hL
        · refine lv_aload_n hx hb d_M_canNotRename_80 rfl (lv_at hl 2 rfl) ?_
          refine lv_iload_n hx hb d_M_canNotRename_81 rfl (lv_at hl 4 rfl) ?_
          refine lv_iload_n hx hb d_M_canNotRename_82 rfl (lv_at hl 3 rfl) ?_
          refine c_V (own := R_M) (index := 137) (As := [.int (nI (b9)), .int (nI (a))]) (rest := []) hx hb hml hown hg hK (fun _ _ _ h => h) (fun _ _ => trivial) (fun _ h => h) hP hS 0 (c_M_comesTo l D cI cB ad hI M n hn60 st hS6 rk hRk (b9) (a) (by omega) (by omega) t2 ht2) (by decide) (ci := 8) rfl rfl k_1014 k_1016 k_p42 k_9 k_1017 2 rfl (by decide +kernel) (by decide) rfl hl.1 (Nat.le_of_ble_eq_true rfl) d_M_canNotRename_83 (fun v M' H locs hq hP _ _ hS => ?_)
          obtain ⟨rfl, rfl⟩ := hq
          refine W.eq (g2 := F0 m 86 ls [.int (bI (t2))]) rfl ?_
          refine z_eq (t := t2) (tgt := 99) hx hb d_M_canNotRename_86 (by decide) (fun c_86 => ?_) (fun c_86 => ?_)
          · refine n_const (k := 0) hx hb d_M_canNotRename_99 (by decide) ?_
            exact r_z hx hb hr hlocks (rfl) hP hS (⟨rfl, rfl⟩) d_M_canNotRename_100
          · exact absurd (Or.inr (ht2.mp c_86)) hL
      · exact absurd hno5 (by rw [c_39, c_48]; simp)
  · refine lv_iload hx hb d_M_canNotRename_17 (lv_at hl 0 rfl) ?_
    refine o_lt (o := oy) (tgt := 33) hx hb d_M_canNotRename_19 (by decide) (fun q e => by have := hyl q e; omega) (fun c_19 => ?_) (fun v_19 c_19 => ?_)
    · refine lv_aload_n hx hb d_M_canNotRename_33 rfl (lv_at hl 2 rfl) ?_
      refine g_get (C := R_M) (T := T_M) (N := 19) (ci := 8) (v := .ref (ad (6))) hx hb hg i_M hown hK hP 0 (by decide) rfl rfl 8 (by decide) (hg _ k_801) rfl d_M_canNotRename_34 ?_
      refine lv_iload_n hx hb d_M_canNotRename_37 rfl (lv_at hl 3 rfl) ?_
      refine g_iald hx hb hK hP 6 0 (by decide) rfl rfl (by decide) (j := a) (by omega) d_M_canNotRename_38 ?_
      refine n_top (y := (oI (st (a)))) (hS6.1 (a) (by omega)) ?_
      refine o_lt (o := st (a)) (tgt := 71) hx hb d_M_canNotRename_39 (by decide) (fun q e => by have := hS6.2 _ q ha e; omega) (fun c_39 => ?_) (fun v_39 c_39 => ?_)
      · refine lv_aload_n hx hb d_M_canNotRename_71 rfl (lv_at hl 2 rfl) ?_
        refine lv_iload_n hx hb d_M_canNotRename_72 rfl (lv_at hl 3 rfl) ?_
        refine lv_iload_n hx hb d_M_canNotRename_73 rfl (lv_at hl 4 rfl) ?_
        refine c_V (own := R_M) (index := 137) (As := [.int (nI (a)), .int (nI (b9))]) (rest := []) hx hb hml hown hg hK (fun _ _ _ h => h) (fun _ _ => trivial) (fun _ h => h) hP hS 0 (c_M_comesTo l D cI cB ad hI M n hn60 st hS6 rk hRk (a) (b9) (by omega) (by omega) t1 ht1) (by decide) (ci := 8) rfl rfl k_1014 k_1016 k_p42 k_9 k_1017 2 rfl (by decide +kernel) (by decide) rfl hl.1 (Nat.le_of_ble_eq_true rfl) d_M_canNotRename_74 (fun v M' H locs hq hP _ _ hS => ?_)
        obtain ⟨rfl, rfl⟩ := hq
        refine W.eq (g2 := F0 m 77 ls [.int (bI (t1))]) rfl ?_
        refine z_ne (t := t1) (tgt := 89) hx hb d_M_canNotRename_77 (by decide) (fun c_77 => ?_) (fun c_77 => ?_)
        · exact absurd (Or.inl (ht1.mp c_77)) hL
        · refine lv_aload_n hx hb d_M_canNotRename_80 rfl (lv_at hl 2 rfl) ?_
          refine lv_iload_n hx hb d_M_canNotRename_81 rfl (lv_at hl 4 rfl) ?_
          refine lv_iload_n hx hb d_M_canNotRename_82 rfl (lv_at hl 3 rfl) ?_
          refine c_V (own := R_M) (index := 137) (As := [.int (nI (b9)), .int (nI (a))]) (rest := []) hx hb hml hown hg hK (fun _ _ _ h => h) (fun _ _ => trivial) (fun _ h => h) hP hS 0 (c_M_comesTo l D cI cB ad hI M n hn60 st hS6 rk hRk (b9) (a) (by omega) (by omega) t2 ht2) (by decide) (ci := 8) rfl rfl k_1014 k_1016 k_p42 k_9 k_1017 2 rfl (by decide +kernel) (by decide) rfl hl.1 (Nat.le_of_ble_eq_true rfl) d_M_canNotRename_83 (fun v M' H locs hq hP _ _ hS => ?_)
          obtain ⟨rfl, rfl⟩ := hq
          refine W.eq (g2 := F0 m 86 ls [.int (bI (t2))]) rfl ?_
          refine z_eq (t := t2) (tgt := 99) hx hb d_M_canNotRename_86 (by decide) (fun c_86 => ?_) (fun c_86 => ?_)
          · refine n_const (k := 0) hx hb d_M_canNotRename_99 (by decide) ?_
            exact r_z hx hb hr hlocks (rfl) hP hS (⟨rfl, rfl⟩) d_M_canNotRename_100
          · exact absurd (Or.inr (ht2.mp c_86)) hL
      · refine lv_aload_n hx hb d_M_canNotRename_42 rfl (lv_at hl 2 rfl) ?_
        refine g_get (C := R_M) (T := T_M) (N := 19) (ci := 8) (v := .ref (ad (6))) hx hb hg i_M hown hK hP 0 (by decide) rfl rfl 8 (by decide) (hg _ k_801) rfl d_M_canNotRename_43 ?_
        refine lv_iload_n hx hb d_M_canNotRename_46 rfl (lv_at hl 4 rfl) ?_
        refine g_iald hx hb hK hP 6 0 (by decide) rfl rfl (by decide) (j := b9) (by omega) d_M_canNotRename_47 ?_
        refine n_top (y := (oI (st (b9)))) (hS6.1 (b9) (by omega)) ?_
        refine o_lt (o := st (b9)) (tgt := 71) hx hb d_M_canNotRename_48 (by decide) (fun q e => by have := hS6.2 _ q hb9 e; omega) (fun c_48 => ?_) (fun v_48 c_48 => ?_)
        · refine lv_aload_n hx hb d_M_canNotRename_71 rfl (lv_at hl 2 rfl) ?_
          refine lv_iload_n hx hb d_M_canNotRename_72 rfl (lv_at hl 3 rfl) ?_
          refine lv_iload_n hx hb d_M_canNotRename_73 rfl (lv_at hl 4 rfl) ?_
          refine c_V (own := R_M) (index := 137) (As := [.int (nI (a)), .int (nI (b9))]) (rest := []) hx hb hml hown hg hK (fun _ _ _ h => h) (fun _ _ => trivial) (fun _ h => h) hP hS 0 (c_M_comesTo l D cI cB ad hI M n hn60 st hS6 rk hRk (a) (b9) (by omega) (by omega) t1 ht1) (by decide) (ci := 8) rfl rfl k_1014 k_1016 k_p42 k_9 k_1017 2 rfl (by decide +kernel) (by decide) rfl hl.1 (Nat.le_of_ble_eq_true rfl) d_M_canNotRename_74 (fun v M' H locs hq hP _ _ hS => ?_)
          obtain ⟨rfl, rfl⟩ := hq
          refine W.eq (g2 := F0 m 77 ls [.int (bI (t1))]) rfl ?_
          refine z_ne (t := t1) (tgt := 89) hx hb d_M_canNotRename_77 (by decide) (fun c_77 => ?_) (fun c_77 => ?_)
          · exact absurd (Or.inl (ht1.mp c_77)) hL
          · refine lv_aload_n hx hb d_M_canNotRename_80 rfl (lv_at hl 2 rfl) ?_
            refine lv_iload_n hx hb d_M_canNotRename_81 rfl (lv_at hl 4 rfl) ?_
            refine lv_iload_n hx hb d_M_canNotRename_82 rfl (lv_at hl 3 rfl) ?_
            refine c_V (own := R_M) (index := 137) (As := [.int (nI (b9)), .int (nI (a))]) (rest := []) hx hb hml hown hg hK (fun _ _ _ h => h) (fun _ _ => trivial) (fun _ h => h) hP hS 0 (c_M_comesTo l D cI cB ad hI M n hn60 st hS6 rk hRk (b9) (a) (by omega) (by omega) t2 ht2) (by decide) (ci := 8) rfl rfl k_1014 k_1016 k_p42 k_9 k_1017 2 rfl (by decide +kernel) (by decide) rfl hl.1 (Nat.le_of_ble_eq_true rfl) d_M_canNotRename_83 (fun v M' H locs hq hP _ _ hS => ?_)
            obtain ⟨rfl, rfl⟩ := hq
            refine W.eq (g2 := F0 m 86 ls [.int (bI (t2))]) rfl ?_
            refine z_eq (t := t2) (tgt := 99) hx hb d_M_canNotRename_86 (by decide) (fun c_86 => ?_) (fun c_86 => ?_)
            · refine n_const (k := 0) hx hb d_M_canNotRename_99 (by decide) ?_
              exact r_z hx hb hr hlocks (rfl) hP hS (⟨rfl, rfl⟩) d_M_canNotRename_100
            · exact absurd (Or.inr (ht2.mp c_86)) hL
        · exact absurd hno5 (by rw [c_39, c_48]; simp)
    · exact absurd hno (by rw [c_14, c_19]; simp)

set_option maxHeartbeats 4000000 in
set_option maxRecDepth 100000 in
theorem c_M_rename_2 (l : Launch) (D : va_G) (cI cB : ClassId) (ad : Nat → Nat) (hI : GI 13 ad) (M : PM) (n : Nat) (len : Nat → Nat) (ch : Nat → Nat → Nat) (sp : Nat → Option Nat) (hR : RN M n len ch sp) (a b9 : Nat) (ha : a < n) (hab : a = b9) : MM l D cI cB ad y_M_rename b_M_rename 5 (some .int) 1 21 [.ref (ad (0)), .int (nI (a)), .int (nI (b9))] M (fun v M' => v = some (.int (nI 0)) ∧ M' = pu M 0 0 (nI 2)) := by
  refine MC.of (by decide) (Nat.le_of_ble_eq_true rfl) ?_
  intro p e s m below meth c ls hx hb hr hml hown hg hlocks hK hN hP hS hl
  have hown : s.vm.findClass R_M = some m.cls := hown
  have hl : lv_has ls 5 [(0, .ref (ad (0))), (1, .int (nI (a))), (2, .int (nI (b9)))] := hl
  have hn60 : n ≤ 60 := hR.1
  refine lv_aload_n hx hb d_M_rename_0 rfl (lv_at hl 0 rfl) ?_
  refine lv_aload_n hx hb d_M_rename_1 rfl (lv_at hl 0 rfl) ?_
  refine lv_iload_n hx hb d_M_rename_2 rfl (lv_at hl 1 rfl) ?_
  refine c_V (own := R_M) (index := 89) (As := [.int (nI (a))]) (rest := [.ref (ad (0))]) hx hb hml hown hg hK (fun _ _ _ h => h) (fun _ _ => trivial) (fun _ h => h) hP hS 0 (c_M_no l D cI cB ad hI M n len ch sp hR (nI (a)) false (no_f (by omega))) (by decide) (ci := 8) rfl rfl k_907 k_909 k_p30 k_9 k_910 1 rfl (by decide +kernel) (by decide) rfl hl.1 (Nat.le_of_ble_eq_true rfl) d_M_rename_3 (fun v M' H locs hq hP _ _ hS => ?_)
  obtain ⟨rfl, rfl⟩ := hq
  refine W.eq (g2 := F0 m 6 ls [.int (bI (false)), .ref (ad (0))]) rfl ?_
  refine z_ne (t := false) (tgt := 17) hx hb d_M_rename_6 (by decide) (fun h9 => absurd h9 (by decide)) (fun _ => ?_)
  refine lv_aload_n hx hb d_M_rename_9 rfl (lv_at hl 0 rfl) ?_
  refine lv_iload_n hx hb d_M_rename_10 rfl (lv_at hl 2 rfl) ?_
  refine c_V (own := R_M) (index := 89) (As := [.int (nI (b9))]) (rest := [.ref (ad (0))]) hx hb hml hown hg hK (fun _ _ _ h => h) (fun _ _ => trivial) (fun _ h => h) hP hS 0 (c_M_no l D cI cB ad hI M n len ch sp hR (nI (b9)) false (no_f (by omega))) (by decide) (ci := 8) rfl rfl k_907 k_909 k_p30 k_9 k_910 1 rfl (by decide +kernel) (by decide) rfl hl.1 (Nat.le_of_ble_eq_true rfl) d_M_rename_11 (fun v M' H locs hq hP _ _ hS => ?_)
  obtain ⟨rfl, rfl⟩ := hq
  refine W.eq (g2 := F0 m 14 ls [.int (bI (false)), .ref (ad (0))]) rfl ?_
  refine z_eq (t := false) (tgt := 21) hx hb d_M_rename_14 (by decide) (fun _ => ?_) (fun h9 => absurd h9 (by decide))
  refine lv_iload_n hx hb d_M_rename_21 rfl (lv_at hl 1 rfl) ?_
  refine lv_iload_n hx hb d_M_rename_22 rfl (lv_at hl 2 rfl) ?_
  refine n_ne (a := a) (b := b9) (tgt := 30) hx hb d_M_rename_23 (by decide) (by omega) (by omega) (fun c_23 => ?_) (fun c_23 => ?_)
  · exact absurd c_23 (by omega)
  · refine n_const (k := 2) hx hb d_M_rename_26 (by decide) ?_
    refine lv_goto (tgt := 31) hx hb d_M_rename_27 (by decide) ?_
    refine c_V (own := R_M) (index := 57) (As := [.int (nI (2))]) (rest := []) hx hb hml hown hg hK (fun _ _ _ h => h) (fun _ _ => trivial) (fun _ h => h) hP hS 0 (c_M_refuses l D cI cB ad hI M (2) (by decide)) (by decide) (ci := 8) rfl rfl k_859 k_861 k_p22 k_9 k_862 1 rfl (by decide +kernel) (by decide) rfl hl.1 (Nat.le_of_ble_eq_true rfl) d_M_rename_31 (fun v M_1 H locs hq hP _ _ hS => ?_)
    obtain ⟨rfl, eM_1⟩ := hq
    refine W.eq (g2 := F0 m 34 ls [.int (bI (true))]) rfl ?_
    refine z_eq (t := true) (tgt := 39) hx hb d_M_rename_34 (by decide) (fun h9 => absurd h9 (by decide)) (fun _ => ?_)
    refine n_const (k := 0) hx hb d_M_rename_37 (by decide) ?_
    exact r_i hx hb hr hlocks hP hS (⟨rfl, eM_1⟩) d_M_rename_38

set_option maxHeartbeats 4000000 in
set_option maxRecDepth 100000 in
theorem c_M_rename_c4 (l : Launch) (D : va_G) (cI cB : ClassId) (ad : Nat → Nat) (hI : GI 13 ad) (M : PM) (n : Nat) (len : Nat → Nat) (ch : Nat → Nat → Nat) (sp : Nat → Option Nat) (hR : RN M n len ch sp) (rc : Nat) (rw_ : Nat → Nat) (hW : RW M n rc rw_) (st : Nat → Option Nat) (hS6 : RS M n st) (rk : Nat → Nat) (hRk : Rk n st rk) (a b9 : Nat) (ha : a < n) (hb9 : b9 < n) (hab : a ≠ b9) (x9 y9 : Nat) (hox : Fst (fun k => rw_ (3 * k) = a) rc (some x9)) (hoy : Fst (fun k => rw_ (3 * k) = b9) rc (some y9)) : MM l D cI cB ad y_M_rename b_M_rename 5 (some .int) 2 47 [.ref (ad (0)), .int (nI (a)), .int (nI (b9))] M (fun v M' => v = some (.int (-1)) ∧ M' = pu (pu (pu (pu M 0 0 (nI 0)) 10 0 (nI 4)) 10 1 (nI x9)) 10 2 (nI y9)) := by
  refine MC.of (by decide) (Nat.le_of_ble_eq_true rfl) ?_
  intro p e s m below meth c ls hx hb hr hml hown hg hlocks hK hN hP hS hl
  have hown : s.vm.findClass R_M = some m.cls := hown
  have hl : lv_has ls 5 [(0, .ref (ad (0))), (1, .int (nI (a))), (2, .int (nI (b9)))] := hl
  have hn60 : n ≤ 60 := hR.1
  refine lv_aload_n hx hb d_M_rename_0 rfl (lv_at hl 0 rfl) ?_
  refine lv_aload_n hx hb d_M_rename_1 rfl (lv_at hl 0 rfl) ?_
  refine lv_iload_n hx hb d_M_rename_2 rfl (lv_at hl 1 rfl) ?_
  refine c_V (own := R_M) (index := 89) (As := [.int (nI (a))]) (rest := [.ref (ad (0))]) hx hb hml hown hg hK (fun _ _ _ h => h) (fun _ _ => trivial) (fun _ h => h) hP hS 0 (c_M_no l D cI cB ad hI M n len ch sp hR (nI (a)) false (no_f (by omega))) (by decide) (ci := 8) rfl rfl k_907 k_909 k_p30 k_9 k_910 1 rfl (by decide +kernel) (by decide) rfl hl.1 (Nat.le_of_ble_eq_true rfl) d_M_rename_3 (fun v M' H locs hq hP _ _ hS => ?_)
  obtain ⟨rfl, rfl⟩ := hq
  refine W.eq (g2 := F0 m 6 ls [.int (bI (false)), .ref (ad (0))]) rfl ?_
  refine z_ne (t := false) (tgt := 17) hx hb d_M_rename_6 (by decide) (fun h9 => absurd h9 (by decide)) (fun _ => ?_)
  refine lv_aload_n hx hb d_M_rename_9 rfl (lv_at hl 0 rfl) ?_
  refine lv_iload_n hx hb d_M_rename_10 rfl (lv_at hl 2 rfl) ?_
  refine c_V (own := R_M) (index := 89) (As := [.int (nI (b9))]) (rest := [.ref (ad (0))]) hx hb hml hown hg hK (fun _ _ _ h => h) (fun _ _ => trivial) (fun _ h => h) hP hS 0 (c_M_no l D cI cB ad hI M n len ch sp hR (nI (b9)) false (no_f (by omega))) (by decide) (ci := 8) rfl rfl k_907 k_909 k_p30 k_9 k_910 1 rfl (by decide +kernel) (by decide) rfl hl.1 (Nat.le_of_ble_eq_true rfl) d_M_rename_11 (fun v M' H locs hq hP _ _ hS => ?_)
  obtain ⟨rfl, rfl⟩ := hq
  refine W.eq (g2 := F0 m 14 ls [.int (bI (false)), .ref (ad (0))]) rfl ?_
  refine z_eq (t := false) (tgt := 21) hx hb d_M_rename_14 (by decide) (fun _ => ?_) (fun h9 => absurd h9 (by decide))
  refine lv_iload_n hx hb d_M_rename_21 rfl (lv_at hl 1 rfl) ?_
  refine lv_iload_n hx hb d_M_rename_22 rfl (lv_at hl 2 rfl) ?_
  refine n_ne (a := a) (b := b9) (tgt := 30) hx hb d_M_rename_23 (by decide) (by omega) (by omega) (fun c_23 => ?_) (fun c_23 => ?_)
  · refine n_const (k := 0) hx hb d_M_rename_30 (by decide) ?_
    refine c_V (own := R_M) (index := 57) (As := [.int (nI (0))]) (rest := []) hx hb hml hown hg hK (fun _ _ _ h => h) (fun _ _ => trivial) (fun _ h => h) hP hS 0 (c_M_refuses l D cI cB ad hI M (0) (by decide)) (by decide) (ci := 8) rfl rfl k_859 k_861 k_p22 k_9 k_862 1 rfl (by decide +kernel) (by decide) rfl hl.1 (Nat.le_of_ble_eq_true rfl) d_M_rename_31 (fun v M_1 H locs hq hP _ _ hS => ?_)
    obtain ⟨rfl, eM_1⟩ := hq
    have hR1 := hR.sx (SX.thr M (nI 0))
    rw [← eM_1] at hR1
    have hW1 := hW.sx (SX.thr M (nI 0))
    rw [← eM_1] at hW1
    have hS61 := hS6.sx (SX.thr M (nI 0))
    rw [← eM_1] at hS61
    refine W.eq (g2 := F0 m 34 ls [.int (bI (false))]) rfl ?_
    refine z_eq (t := false) (tgt := 39) hx hb d_M_rename_34 (by decide) (fun _ => ?_) (fun h9 => absurd h9 (by decide))
    refine lv_aload_n hx hb d_M_rename_39 rfl (lv_at hl 0 rfl) ?_
    refine lv_iload_n hx hb d_M_rename_40 rfl (lv_at hl 1 rfl) ?_
    refine lv_iload_n hx hb d_M_rename_41 rfl (lv_at hl 2 rfl) ?_
    refine c_V (own := R_M) (index := 140) (As := [.int (nI (a)), .int (nI (b9))]) (rest := []) hx hb hml hown hg hK (fun _ _ _ h => h) (fun _ _ => trivial) (fun _ h => h) hP hS 0 (c_M_cnr_4 l D cI cB ad hI M_1 n hn60 rc rw_ hW1 st hS61 rk hRk a b9 ha hb9 x9 y9 hox hoy) (by decide) (ci := 8) rfl rfl k_1030 k_1032 k_p43 k_9 k_1033 2 rfl (by decide +kernel) (by decide) rfl hl.1 (Nat.le_of_ble_eq_true rfl) d_M_rename_42 (fun v M_2 H locs hq hP _ _ hS => ?_)
    obtain ⟨rfl, eM_2⟩ := hq
    refine W.eq (g2 := F0 m 45 ls [.int (bI (true))]) rfl ?_
    refine z_eq (t := true) (tgt := 50) hx hb d_M_rename_45 (by decide) (fun h9 => absurd h9 (by decide)) (fun _ => ?_)
    refine lv_iconst (v := -1) hx hb d_M_rename_48 (by decide) ?_
    exact r_i hx hb hr hlocks hP hS (⟨rfl, by rw [eM_2, eM_1]⟩) d_M_rename_49
  · exact absurd c_23 (by omega)

set_option maxHeartbeats 4000000 in
set_option maxRecDepth 100000 in
theorem c_M_rename_c5 (l : Launch) (D : va_G) (cI cB : ClassId) (ad : Nat → Nat) (hI : GI 13 ad) (M : PM) (n : Nat) (len : Nat → Nat) (ch : Nat → Nat → Nat) (sp : Nat → Option Nat) (hR : RN M n len ch sp) (rc : Nat) (rw_ : Nat → Nat) (hW : RW M n rc rw_) (st : Nat → Option Nat) (hS6 : RS M n st) (rk : Nat → Nat) (hRk : Rk n st rk) (a b9 : Nat) (ha : a < n) (hb9 : b9 < n) (hab : a ≠ b9) (ox oy : Option Nat) (hox : Fst (fun k => rw_ (3 * k) = a) rc ox) (hoy : Fst (fun k => rw_ (3 * k) = b9) rc oy) (hno : ox = none ∨ oy = none) (u9 v9 : Nat) (hu9 : st a = some u9) (hv9 : st b9 = some v9) : MM l D cI cB ad y_M_rename b_M_rename 5 (some .int) 2 47 [.ref (ad (0)), .int (nI (a)), .int (nI (b9))] M (fun v M' => v = some (.int (-1)) ∧ M' = pu (pu (pu (pu M 0 0 (nI 0)) 10 0 (nI 5)) 10 1 (nI u9)) 10 2 (nI v9)) := by
  refine MC.of (by decide) (Nat.le_of_ble_eq_true rfl) ?_
  intro p e s m below meth c ls hx hb hr hml hown hg hlocks hK hN hP hS hl
  have hown : s.vm.findClass R_M = some m.cls := hown
  have hl : lv_has ls 5 [(0, .ref (ad (0))), (1, .int (nI (a))), (2, .int (nI (b9)))] := hl
  have hn60 : n ≤ 60 := hR.1
  refine lv_aload_n hx hb d_M_rename_0 rfl (lv_at hl 0 rfl) ?_
  refine lv_aload_n hx hb d_M_rename_1 rfl (lv_at hl 0 rfl) ?_
  refine lv_iload_n hx hb d_M_rename_2 rfl (lv_at hl 1 rfl) ?_
  refine c_V (own := R_M) (index := 89) (As := [.int (nI (a))]) (rest := [.ref (ad (0))]) hx hb hml hown hg hK (fun _ _ _ h => h) (fun _ _ => trivial) (fun _ h => h) hP hS 0 (c_M_no l D cI cB ad hI M n len ch sp hR (nI (a)) false (no_f (by omega))) (by decide) (ci := 8) rfl rfl k_907 k_909 k_p30 k_9 k_910 1 rfl (by decide +kernel) (by decide) rfl hl.1 (Nat.le_of_ble_eq_true rfl) d_M_rename_3 (fun v M' H locs hq hP _ _ hS => ?_)
  obtain ⟨rfl, rfl⟩ := hq
  refine W.eq (g2 := F0 m 6 ls [.int (bI (false)), .ref (ad (0))]) rfl ?_
  refine z_ne (t := false) (tgt := 17) hx hb d_M_rename_6 (by decide) (fun h9 => absurd h9 (by decide)) (fun _ => ?_)
  refine lv_aload_n hx hb d_M_rename_9 rfl (lv_at hl 0 rfl) ?_
  refine lv_iload_n hx hb d_M_rename_10 rfl (lv_at hl 2 rfl) ?_
  refine c_V (own := R_M) (index := 89) (As := [.int (nI (b9))]) (rest := [.ref (ad (0))]) hx hb hml hown hg hK (fun _ _ _ h => h) (fun _ _ => trivial) (fun _ h => h) hP hS 0 (c_M_no l D cI cB ad hI M n len ch sp hR (nI (b9)) false (no_f (by omega))) (by decide) (ci := 8) rfl rfl k_907 k_909 k_p30 k_9 k_910 1 rfl (by decide +kernel) (by decide) rfl hl.1 (Nat.le_of_ble_eq_true rfl) d_M_rename_11 (fun v M' H locs hq hP _ _ hS => ?_)
  obtain ⟨rfl, rfl⟩ := hq
  refine W.eq (g2 := F0 m 14 ls [.int (bI (false)), .ref (ad (0))]) rfl ?_
  refine z_eq (t := false) (tgt := 21) hx hb d_M_rename_14 (by decide) (fun _ => ?_) (fun h9 => absurd h9 (by decide))
  refine lv_iload_n hx hb d_M_rename_21 rfl (lv_at hl 1 rfl) ?_
  refine lv_iload_n hx hb d_M_rename_22 rfl (lv_at hl 2 rfl) ?_
  refine n_ne (a := a) (b := b9) (tgt := 30) hx hb d_M_rename_23 (by decide) (by omega) (by omega) (fun c_23 => ?_) (fun c_23 => ?_)
  · refine n_const (k := 0) hx hb d_M_rename_30 (by decide) ?_
    refine c_V (own := R_M) (index := 57) (As := [.int (nI (0))]) (rest := []) hx hb hml hown hg hK (fun _ _ _ h => h) (fun _ _ => trivial) (fun _ h => h) hP hS 0 (c_M_refuses l D cI cB ad hI M (0) (by decide)) (by decide) (ci := 8) rfl rfl k_859 k_861 k_p22 k_9 k_862 1 rfl (by decide +kernel) (by decide) rfl hl.1 (Nat.le_of_ble_eq_true rfl) d_M_rename_31 (fun v M_1 H locs hq hP _ _ hS => ?_)
    obtain ⟨rfl, eM_1⟩ := hq
    have hR1 := hR.sx (SX.thr M (nI 0))
    rw [← eM_1] at hR1
    have hW1 := hW.sx (SX.thr M (nI 0))
    rw [← eM_1] at hW1
    have hS61 := hS6.sx (SX.thr M (nI 0))
    rw [← eM_1] at hS61
    refine W.eq (g2 := F0 m 34 ls [.int (bI (false))]) rfl ?_
    refine z_eq (t := false) (tgt := 39) hx hb d_M_rename_34 (by decide) (fun _ => ?_) (fun h9 => absurd h9 (by decide))
    refine lv_aload_n hx hb d_M_rename_39 rfl (lv_at hl 0 rfl) ?_
    refine lv_iload_n hx hb d_M_rename_40 rfl (lv_at hl 1 rfl) ?_
    refine lv_iload_n hx hb d_M_rename_41 rfl (lv_at hl 2 rfl) ?_
    refine c_V (own := R_M) (index := 140) (As := [.int (nI (a)), .int (nI (b9))]) (rest := []) hx hb hml hown hg hK (fun _ _ _ h => h) (fun _ _ => trivial) (fun _ h => h) hP hS 0 (c_M_cnr_5 l D cI cB ad hI M_1 n hn60 rc rw_ hW1 st hS61 rk hRk a b9 ha hb9 ox oy hox hoy hno u9 v9 hu9 hv9) (by decide) (ci := 8) rfl rfl k_1030 k_1032 k_p43 k_9 k_1033 2 rfl (by decide +kernel) (by decide) rfl hl.1 (Nat.le_of_ble_eq_true rfl) d_M_rename_42 (fun v M_2 H locs hq hP _ _ hS => ?_)
    obtain ⟨rfl, eM_2⟩ := hq
    refine W.eq (g2 := F0 m 45 ls [.int (bI (true))]) rfl ?_
    refine z_eq (t := true) (tgt := 50) hx hb d_M_rename_45 (by decide) (fun h9 => absurd h9 (by decide)) (fun _ => ?_)
    refine lv_iconst (v := -1) hx hb d_M_rename_48 (by decide) ?_
    exact r_i hx hb hr hlocks hP hS (⟨rfl, by rw [eM_2, eM_1]⟩) d_M_rename_49
  · exact absurd c_23 (by omega)

set_option maxHeartbeats 4000000 in
set_option maxRecDepth 100000 in
theorem c_M_rename_c3 (l : Launch) (D : va_G) (cI cB : ClassId) (ad : Nat → Nat) (hI : GI 13 ad) (M : PM) (n : Nat) (len : Nat → Nat) (ch : Nat → Nat → Nat) (sp : Nat → Option Nat) (hR : RN M n len ch sp) (rc : Nat) (rw_ : Nat → Nat) (hW : RW M n rc rw_) (st : Nat → Option Nat) (hS6 : RS M n st) (rk : Nat → Nat) (hRk : Rk n st rk) (a b9 : Nat) (ha : a < n) (hb9 : b9 < n) (hab : a ≠ b9) (ox oy : Option Nat) (hox : Fst (fun k => rw_ (3 * k) = a) rc ox) (hoy : Fst (fun k => rw_ (3 * k) = b9) rc oy) (hno : ox = none ∨ oy = none) (hno5 : st a = none ∨ st b9 = none) (hL : Lds st (some a) b9 ∨ Lds st (some b9) a) : MM l D cI cB ad y_M_rename b_M_rename 5 (some .int) 2 47 [.ref (ad (0)), .int (nI (a)), .int (nI (b9))] M (fun v M' => v = some (.int (-1)) ∧ M' = pu (pu (pu (pu M 0 0 (nI 0)) 10 0 (nI 3)) 10 1 (nI a)) 10 2 (nI b9)) := by
  refine MC.of (by decide) (Nat.le_of_ble_eq_true rfl) ?_
  intro p e s m below meth c ls hx hb hr hml hown hg hlocks hK hN hP hS hl
  have hown : s.vm.findClass R_M = some m.cls := hown
  have hl : lv_has ls 5 [(0, .ref (ad (0))), (1, .int (nI (a))), (2, .int (nI (b9)))] := hl
  have hn60 : n ≤ 60 := hR.1
  refine lv_aload_n hx hb d_M_rename_0 rfl (lv_at hl 0 rfl) ?_
  refine lv_aload_n hx hb d_M_rename_1 rfl (lv_at hl 0 rfl) ?_
  refine lv_iload_n hx hb d_M_rename_2 rfl (lv_at hl 1 rfl) ?_
  refine c_V (own := R_M) (index := 89) (As := [.int (nI (a))]) (rest := [.ref (ad (0))]) hx hb hml hown hg hK (fun _ _ _ h => h) (fun _ _ => trivial) (fun _ h => h) hP hS 0 (c_M_no l D cI cB ad hI M n len ch sp hR (nI (a)) false (no_f (by omega))) (by decide) (ci := 8) rfl rfl k_907 k_909 k_p30 k_9 k_910 1 rfl (by decide +kernel) (by decide) rfl hl.1 (Nat.le_of_ble_eq_true rfl) d_M_rename_3 (fun v M' H locs hq hP _ _ hS => ?_)
  obtain ⟨rfl, rfl⟩ := hq
  refine W.eq (g2 := F0 m 6 ls [.int (bI (false)), .ref (ad (0))]) rfl ?_
  refine z_ne (t := false) (tgt := 17) hx hb d_M_rename_6 (by decide) (fun h9 => absurd h9 (by decide)) (fun _ => ?_)
  refine lv_aload_n hx hb d_M_rename_9 rfl (lv_at hl 0 rfl) ?_
  refine lv_iload_n hx hb d_M_rename_10 rfl (lv_at hl 2 rfl) ?_
  refine c_V (own := R_M) (index := 89) (As := [.int (nI (b9))]) (rest := [.ref (ad (0))]) hx hb hml hown hg hK (fun _ _ _ h => h) (fun _ _ => trivial) (fun _ h => h) hP hS 0 (c_M_no l D cI cB ad hI M n len ch sp hR (nI (b9)) false (no_f (by omega))) (by decide) (ci := 8) rfl rfl k_907 k_909 k_p30 k_9 k_910 1 rfl (by decide +kernel) (by decide) rfl hl.1 (Nat.le_of_ble_eq_true rfl) d_M_rename_11 (fun v M' H locs hq hP _ _ hS => ?_)
  obtain ⟨rfl, rfl⟩ := hq
  refine W.eq (g2 := F0 m 14 ls [.int (bI (false)), .ref (ad (0))]) rfl ?_
  refine z_eq (t := false) (tgt := 21) hx hb d_M_rename_14 (by decide) (fun _ => ?_) (fun h9 => absurd h9 (by decide))
  refine lv_iload_n hx hb d_M_rename_21 rfl (lv_at hl 1 rfl) ?_
  refine lv_iload_n hx hb d_M_rename_22 rfl (lv_at hl 2 rfl) ?_
  refine n_ne (a := a) (b := b9) (tgt := 30) hx hb d_M_rename_23 (by decide) (by omega) (by omega) (fun c_23 => ?_) (fun c_23 => ?_)
  · refine n_const (k := 0) hx hb d_M_rename_30 (by decide) ?_
    refine c_V (own := R_M) (index := 57) (As := [.int (nI (0))]) (rest := []) hx hb hml hown hg hK (fun _ _ _ h => h) (fun _ _ => trivial) (fun _ h => h) hP hS 0 (c_M_refuses l D cI cB ad hI M (0) (by decide)) (by decide) (ci := 8) rfl rfl k_859 k_861 k_p22 k_9 k_862 1 rfl (by decide +kernel) (by decide) rfl hl.1 (Nat.le_of_ble_eq_true rfl) d_M_rename_31 (fun v M_1 H locs hq hP _ _ hS => ?_)
    obtain ⟨rfl, eM_1⟩ := hq
    have hR1 := hR.sx (SX.thr M (nI 0))
    rw [← eM_1] at hR1
    have hW1 := hW.sx (SX.thr M (nI 0))
    rw [← eM_1] at hW1
    have hS61 := hS6.sx (SX.thr M (nI 0))
    rw [← eM_1] at hS61
    refine W.eq (g2 := F0 m 34 ls [.int (bI (false))]) rfl ?_
    refine z_eq (t := false) (tgt := 39) hx hb d_M_rename_34 (by decide) (fun _ => ?_) (fun h9 => absurd h9 (by decide))
    refine lv_aload_n hx hb d_M_rename_39 rfl (lv_at hl 0 rfl) ?_
    refine lv_iload_n hx hb d_M_rename_40 rfl (lv_at hl 1 rfl) ?_
    refine lv_iload_n hx hb d_M_rename_41 rfl (lv_at hl 2 rfl) ?_
    refine c_V (own := R_M) (index := 140) (As := [.int (nI (a)), .int (nI (b9))]) (rest := []) hx hb hml hown hg hK (fun _ _ _ h => h) (fun _ _ => trivial) (fun _ h => h) hP hS 0 (c_M_cnr_3 l D cI cB ad hI M_1 n hn60 rc rw_ hW1 st hS61 rk hRk a b9 ha hb9 ox oy hox hoy hno hno5 hL) (by decide) (ci := 8) rfl rfl k_1030 k_1032 k_p43 k_9 k_1033 2 rfl (by decide +kernel) (by decide) rfl hl.1 (Nat.le_of_ble_eq_true rfl) d_M_rename_42 (fun v M_2 H locs hq hP _ _ hS => ?_)
    obtain ⟨rfl, eM_2⟩ := hq
    refine W.eq (g2 := F0 m 45 ls [.int (bI (true))]) rfl ?_
    refine z_eq (t := true) (tgt := 50) hx hb d_M_rename_45 (by decide) (fun h9 => absurd h9 (by decide)) (fun _ => ?_)
    refine lv_iconst (v := -1) hx hb d_M_rename_48 (by decide) ?_
    exact r_i hx hb hr hlocks hP hS (⟨rfl, by rw [eM_2, eM_1]⟩) d_M_rename_49
  · exact absurd c_23 (by omega)

set_option maxHeartbeats 4000000 in
set_option maxRecDepth 100000 in
theorem c_M_rename_3 (l : Launch) (D : va_G) (cI cB : ClassId) (ad : Nat → Nat) (hI : GI 13 ad) (M : PM) (n : Nat) (len : Nat → Nat) (ch : Nat → Nat → Nat) (sp : Nat → Option Nat) (hR : RN M n len ch sp) (rc : Nat) (rw_ : Nat → Nat) (hW : RW M n rc rw_) (st : Nat → Option Nat) (hS6 : RS M n st) (rk : Nat → Nat) (hRk : Rk n st rk) (a b9 : Nat) (ha : a < n) (hb9 : b9 < n) (nc : Nat) (rf rt : Nat → Nat) (hRR : RR M n nc rf rt) (hab : a ≠ b9) (ox oy : Option Nat) (hox : Fst (fun k => rw_ (3 * k) = a) rc ox) (hoy : Fst (fun k => rw_ (3 * k) = b9) rc oy) (hno : ox = none ∨ oy = none) (hno5 : st a = none ∨ st b9 = none) (hL : ¬ (Lds st (some a) b9 ∨ Lds st (some b9) a)) (h20 : nc = 20) : MM l D cI cB ad y_M_rename b_M_rename 5 (some .int) 2 47 [.ref (ad (0)), .int (nI (a)), .int (nI (b9))] M (fun v M' => v = some (.int (nI 0)) ∧ M' = pu (pu M 0 0 (nI 0)) 0 0 (nI 3)) := by
  refine MC.of (by decide) (Nat.le_of_ble_eq_true rfl) ?_
  intro p e s m below meth c ls hx hb hr hml hown hg hlocks hK hN hP hS hl
  have hown : s.vm.findClass R_M = some m.cls := hown
  have hl : lv_has ls 5 [(0, .ref (ad (0))), (1, .int (nI (a))), (2, .int (nI (b9)))] := hl
  have hn60 : n ≤ 60 := hR.1
  refine lv_aload_n hx hb d_M_rename_0 rfl (lv_at hl 0 rfl) ?_
  refine lv_aload_n hx hb d_M_rename_1 rfl (lv_at hl 0 rfl) ?_
  refine lv_iload_n hx hb d_M_rename_2 rfl (lv_at hl 1 rfl) ?_
  refine c_V (own := R_M) (index := 89) (As := [.int (nI (a))]) (rest := [.ref (ad (0))]) hx hb hml hown hg hK (fun _ _ _ h => h) (fun _ _ => trivial) (fun _ h => h) hP hS 0 (c_M_no l D cI cB ad hI M n len ch sp hR (nI (a)) false (no_f (by omega))) (by decide) (ci := 8) rfl rfl k_907 k_909 k_p30 k_9 k_910 1 rfl (by decide +kernel) (by decide) rfl hl.1 (Nat.le_of_ble_eq_true rfl) d_M_rename_3 (fun v M' H locs hq hP _ _ hS => ?_)
  obtain ⟨rfl, rfl⟩ := hq
  refine W.eq (g2 := F0 m 6 ls [.int (bI (false)), .ref (ad (0))]) rfl ?_
  refine z_ne (t := false) (tgt := 17) hx hb d_M_rename_6 (by decide) (fun h9 => absurd h9 (by decide)) (fun _ => ?_)
  refine lv_aload_n hx hb d_M_rename_9 rfl (lv_at hl 0 rfl) ?_
  refine lv_iload_n hx hb d_M_rename_10 rfl (lv_at hl 2 rfl) ?_
  refine c_V (own := R_M) (index := 89) (As := [.int (nI (b9))]) (rest := [.ref (ad (0))]) hx hb hml hown hg hK (fun _ _ _ h => h) (fun _ _ => trivial) (fun _ h => h) hP hS 0 (c_M_no l D cI cB ad hI M n len ch sp hR (nI (b9)) false (no_f (by omega))) (by decide) (ci := 8) rfl rfl k_907 k_909 k_p30 k_9 k_910 1 rfl (by decide +kernel) (by decide) rfl hl.1 (Nat.le_of_ble_eq_true rfl) d_M_rename_11 (fun v M' H locs hq hP _ _ hS => ?_)
  obtain ⟨rfl, rfl⟩ := hq
  refine W.eq (g2 := F0 m 14 ls [.int (bI (false)), .ref (ad (0))]) rfl ?_
  refine z_eq (t := false) (tgt := 21) hx hb d_M_rename_14 (by decide) (fun _ => ?_) (fun h9 => absurd h9 (by decide))
  refine lv_iload_n hx hb d_M_rename_21 rfl (lv_at hl 1 rfl) ?_
  refine lv_iload_n hx hb d_M_rename_22 rfl (lv_at hl 2 rfl) ?_
  refine n_ne (a := a) (b := b9) (tgt := 30) hx hb d_M_rename_23 (by decide) (by omega) (by omega) (fun c_23 => ?_) (fun c_23 => ?_)
  · refine n_const (k := 0) hx hb d_M_rename_30 (by decide) ?_
    refine c_V (own := R_M) (index := 57) (As := [.int (nI (0))]) (rest := []) hx hb hml hown hg hK (fun _ _ _ h => h) (fun _ _ => trivial) (fun _ h => h) hP hS 0 (c_M_refuses l D cI cB ad hI M (0) (by decide)) (by decide) (ci := 8) rfl rfl k_859 k_861 k_p22 k_9 k_862 1 rfl (by decide +kernel) (by decide) rfl hl.1 (Nat.le_of_ble_eq_true rfl) d_M_rename_31 (fun v M_1 H locs hq hP _ _ hS => ?_)
    obtain ⟨rfl, eM_1⟩ := hq
    have hR1 := hR.sx (SX.thr M (nI 0))
    rw [← eM_1] at hR1
    have hW1 := hW.sx (SX.thr M (nI 0))
    rw [← eM_1] at hW1
    have hS61 := hS6.sx (SX.thr M (nI 0))
    rw [← eM_1] at hS61
    have hRR1 := hRR.sx (SX.thr M (nI 0))
    rw [← eM_1] at hRR1
    refine W.eq (g2 := F0 m 34 ls [.int (bI (false))]) rfl ?_
    refine z_eq (t := false) (tgt := 39) hx hb d_M_rename_34 (by decide) (fun _ => ?_) (fun h9 => absurd h9 (by decide))
    refine lv_aload_n hx hb d_M_rename_39 rfl (lv_at hl 0 rfl) ?_
    refine lv_iload_n hx hb d_M_rename_40 rfl (lv_at hl 1 rfl) ?_
    refine lv_iload_n hx hb d_M_rename_41 rfl (lv_at hl 2 rfl) ?_
    refine c_V (own := R_M) (index := 140) (As := [.int (nI (a)), .int (nI (b9))]) (rest := []) hx hb hml hown hg hK (fun _ _ _ h => h) (fun _ _ => trivial) (fun _ h => h) hP hS 0 (c_M_cnr_0 l D cI cB ad hI M_1 n hn60 rc rw_ hW1 st hS61 rk hRk a b9 ha hb9 ox oy hox hoy hno hno5 hL) (by decide) (ci := 8) rfl rfl k_1030 k_1032 k_p43 k_9 k_1033 2 rfl (by decide +kernel) (by decide) rfl hl.1 (Nat.le_of_ble_eq_true rfl) d_M_rename_42 (fun v M' H locs hq hP _ _ hS => ?_)
    obtain ⟨rfl, rfl⟩ := hq
    refine W.eq (g2 := F0 m 45 ls [.int (bI (false))]) rfl ?_
    refine z_eq (t := false) (tgt := 50) hx hb d_M_rename_45 (by decide) (fun _ => ?_) (fun h9 => absurd h9 (by decide))
    refine lv_aload_n hx hb d_M_rename_50 rfl (lv_at hl 0 rfl) ?_
    refine lv_aload_n hx hb d_M_rename_51 rfl (lv_at hl 0 rfl) ?_
    refine g_get (C := R_M) (T := T_M) (N := 19) (ci := 8) (v := .int (M_1 0 12)) hx hb hg i_M hown hK hP 0 (by decide) rfl rfl 12 (by decide) (hg _ k_805) rfl d_M_rename_52 ?_
    refine n_top (y := (nI (nc))) (by rw [eM_1, pu_j _ _ _ _ _ (by first | decide | omega)]; exact hRR.2.1) ?_
    refine n_bipush (k := 20) hx hb d_M_rename_55 (by decide) ?_
    refine n_ne (a := nc) (b := 20) (tgt := 64) hx hb d_M_rename_57 (by decide) (by omega) (by omega) (fun c_57 => ?_) (fun c_57 => ?_)
    · exact absurd c_57 (by omega)
    · refine n_const (k := 3) hx hb d_M_rename_60 (by decide) ?_
      refine lv_goto (tgt := 65) hx hb d_M_rename_61 (by decide) ?_
      refine c_V (own := R_M) (index := 57) (As := [.int (nI (3))]) (rest := []) hx hb hml hown hg hK (fun _ _ _ h => h) (fun _ _ => trivial) (fun _ h => h) hP hS 0 (c_M_refuses l D cI cB ad hI M_1 (3) (by decide)) (by decide) (ci := 8) rfl rfl k_859 k_861 k_p22 k_9 k_862 1 rfl (by decide +kernel) (by decide) rfl hl.1 (Nat.le_of_ble_eq_true rfl) d_M_rename_65 (fun v M_2 H locs hq hP _ _ hS => ?_)
      obtain ⟨rfl, eM_2⟩ := hq
      refine W.eq (g2 := F0 m 68 ls [.int (bI (true))]) rfl ?_
      refine z_eq (t := true) (tgt := 73) hx hb d_M_rename_68 (by decide) (fun h9 => absurd h9 (by decide)) (fun _ => ?_)
      refine n_const (k := 0) hx hb d_M_rename_71 (by decide) ?_
      exact r_i hx hb hr hlocks hP hS (⟨rfl, by rw [eM_2, eM_1]⟩) d_M_rename_72
  · exact absurd c_23 (by omega)

set_option maxHeartbeats 4000000 in
set_option maxRecDepth 100000 in
theorem c_M_count_v0 (l : Launch) (D : va_G) (cI cB : ClassId) (ad : Nat → Nat) (hI : GI 13 ad) (M : PM) (n : Nat) (len : Nat → Nat) (ch : Nat → Nat → Nat) (sp : Nat → Option Nat) (hR : RN M n len ch sp)  : MM l D cI cB ad y_M_count b_M_count 4 (some .int) 1 21 [.ref (ad (0)), .int (nI (0))] M (fun v M' => v = some (.int (nI (n))) ∧ M' = pu M 0 0 (nI 0)) := by
  refine MC.of (by decide) (Nat.le_of_ble_eq_true rfl) ?_
  intro p e s m below meth c ls hx hb hr hml hown hg hlocks hK hN hP hS hl
  have hown : s.vm.findClass R_M = some m.cls := hown
  have hl : lv_has ls 4 [(0, .ref (ad (0))), (1, .int (nI (0)))] := hl
  have hn60 : n ≤ 60 := hR.1
  have hl24 := hR.2.2.1
  have hspn := hR.2.2.2.2.1
  have hch := hR.2.2.2.2.2
  have J28 : ∀ (fu28 : Nat) (k : Nat) (M1 : PM) (H : Heap) (locs : List Loc) (ls : Array Slot), n - k < fu28 → (M1 = pu M 0 0 (nI 0)) → (k ≤ n) → va_P D clsA (gw 13 ad (cfM cI cB ad) M1) H → va_S (GA 13 ad) s.heap H locs → lv_has ls 4 [(0, .ref (ad (0))), (1, .int (nI (0))), (2, .int (nI (0))), (3, .int (nI (k)))] → W p l e (rm_ 1 21) s m ([.ref (ad (0)), .int (nI (0))] : List Value).toArray below meth c H locs 0 0 (MQ below (GQ D 13 ad (cfM cI cB ad) (fun v M' => v = some (.int (nI (n))) ∧ M' = pu M 0 0 (nI 0))) ([.ref (ad (0)), .int (nI (0))] : List Value).toArray s 0 0 (GA 13 ad)) (F0 m 28 ls []) := by
    intro fu28
    induction fu28 with
    | zero => intro k M1 H locs ls hfu; exact absurd hfu (Nat.not_lt_zero _)
    | succ fu28 ih28 =>
      intro k M1 H locs ls hfu28 hM1 hk hP hS hl
      have hR1 := hR.sx (SX.thr M (nI 0))
      rw [← hM1] at hR1
      refine lv_iload_n hx hb d_M_count_28 rfl (lv_at hl 3 rfl) ?_
      refine lv_aload_n hx hb d_M_count_29 rfl (lv_at hl 0 rfl) ?_
      refine g_get (C := R_M) (T := T_M) (N := 19) (ci := 8) (v := .int (M1 0 5)) hx hb hg i_M hown hK hP 0 (by decide) rfl rfl 5 (by decide) (hg _ k_798) rfl d_M_count_30 ?_
      refine n_top (y := (nI (n))) (hR1.2.1) ?_
      refine n_ge (a := k) (b := n) (tgt := 91) hx hb d_M_count_33 (by decide) (by omega) (by omega) (fun c_33 => ?_) (fun c_33 => ?_)
      · refine lv_iload_n hx hb d_M_count_91 rfl (lv_at hl 1 rfl) ?_
        refine lv_tableIn (x := nI 0) (off := 40) (tgt := 132) hx hb d_M_count_92 (by decide) (by decide) (by decide) (by decide) ?_
        refine lv_aload_n hx hb d_M_count_132 rfl (lv_at hl 0 rfl) ?_
        refine g_get (C := R_M) (T := T_M) (N := 19) (ci := 8) (v := .int (M1 0 5)) hx hb hg i_M hown hK hP 0 (by decide) rfl rfl 5 (by decide) (hg _ k_798) rfl d_M_count_133 ?_
        refine n_top (y := (nI (n))) (hR1.2.1) ?_
        exact r_i hx hb hr hlocks hP hS (⟨rfl, hM1⟩) d_M_count_136
      · refine lv_iload_n hx hb d_M_count_36 rfl (lv_at hl 2 rfl) ?_
        refine lv_iload_n hx hb d_M_count_37 rfl (lv_at hl 1 rfl) ?_
        refine n_const (k := 1) hx hb d_M_count_38 (by decide) ?_
        refine n_ne (a := 0) (b := 1) (tgt := 50) hx hb d_M_count_39 (by decide) (by decide) (by decide) (fun _ => ?_) (fun h9 => absurd h9 (by decide))
        refine lv_iload_n hx hb d_M_count_50 rfl (lv_at hl 1 rfl) ?_
        refine n_const (k := 2) hx hb d_M_count_51 (by decide) ?_
        refine n_ne (a := 0) (b := 2) (tgt := 64) hx hb d_M_count_52 (by decide) (by decide) (by decide) (fun _ => ?_) (fun h9 => absurd h9 (by decide))
        refine lv_iload_n hx hb d_M_count_64 rfl (lv_at hl 1 rfl) ?_
        refine n_bipush (k := 6) hx hb d_M_count_65 (by decide) ?_
        refine n_ne (a := 0) (b := 6) (tgt := 82) hx hb d_M_count_67 (by decide) (by decide) (by decide) (fun _ => ?_) (fun h9 => absurd h9 (by decide))
        refine n_const (k := 0) hx hb d_M_count_82 (by decide) ?_
        refine n_iadd (a := 0) (b := 0) hx hb d_M_count_83 ?_
        refine lv_istore_n (lv' := [(2, .int (nI ((0) + (0)))), (0, .ref (ad (0))), (1, .int (nI (0))), (3, .int (nI (k)))]) hx hb d_M_count_84 rfl hl (by decide) rfl (fun ls hl => ?_)
        refine n_inc (lv' := [(3, .int (nI (k + 1))), (2, .int (nI ((0) + (0)))), (0, .ref (ad (0))), (1, .int (nI (0)))]) hx hb d_M_count_85 hl (k := 3) rfl (by decide) rfl (fun ls hl => ?_)
        refine lv_goto (tgt := 28) hx hb d_M_count_88 (by decide) ?_
        exact ih28 (k + 1) M1 _ _ ls (by omega) (hM1) (by omega) hP hS (lv_sub hl [2, 3, 1, 0] rfl)
  refine lv_aload_n hx hb d_M_count_0 rfl (lv_at hl 0 rfl) ?_
  refine lv_iload_n hx hb d_M_count_1 rfl (lv_at hl 1 rfl) ?_
  refine lv_if_lt (tgt := 11) hx hb d_M_count_2 (by decide) (fun h9 => by first | exact absurd h9 (by decide) | exact absurd (by decide) h9) (fun _ => ?_)
  refine lv_iload_n hx hb d_M_count_5 rfl (lv_at hl 1 rfl) ?_
  refine n_bipush (k := 6) hx hb d_M_count_6 (by decide) ?_
  refine n_le (a := 0) (b := 6) (tgt := 15) hx hb d_M_count_8 (by decide) (by decide) (by decide) (fun _ => ?_) (fun h9 => absurd h9 (by decide))
  refine n_const (k := 0) hx hb d_M_count_15 (by decide) ?_
  refine c_V (own := R_M) (index := 57) (As := [.int (nI (0))]) (rest := []) hx hb hml hown hg hK (fun _ _ _ h => h) (fun _ _ => trivial) (fun _ h => h) hP hS 0 (c_M_refuses l D cI cB ad hI M (0) (by decide)) (by decide) (ci := 8) rfl rfl k_859 k_861 k_p22 k_9 k_862 1 rfl (by decide +kernel) (by decide) rfl hl.1 (Nat.le_of_ble_eq_true rfl) d_M_count_16 (fun v M_1 H locs hq hP _ _ hS => ?_)
  obtain ⟨rfl, eM_1⟩ := hq
  have hR1 := hR.sx (SX.thr M (nI 0))
  rw [← eM_1] at hR1
  refine W.eq (g2 := F0 m 19 ls [.int (bI (false))]) rfl ?_
  refine z_eq (t := false) (tgt := 24) hx hb d_M_count_19 (by decide) (fun _ => ?_) (fun h9 => absurd h9 (by decide))
  refine n_const (k := 0) hx hb d_M_count_24 (by decide) ?_
  refine lv_istore_n (lv' := [(2, .int (nI (0))), (0, .ref (ad (0))), (1, .int (nI (0)))]) hx hb d_M_count_25 rfl hl (by decide) rfl (fun ls hl => ?_)
  refine n_const (k := 0) hx hb d_M_count_26 (by decide) ?_
  refine lv_istore_n (lv' := [(3, .int (nI (0))), (2, .int (nI (0))), (0, .ref (ad (0))), (1, .int (nI (0)))]) hx hb d_M_count_27 rfl hl (by decide) rfl (fun ls hl => ?_)
  exact J28 (_ + 1) (0) M_1 _ _ ls (Nat.lt_succ_self _) (eM_1) (by omega) hP hS (lv_sub hl [2, 3, 1, 0] rfl)

set_option maxHeartbeats 4000000 in
set_option maxRecDepth 100000 in
theorem c_M_count_v3 (l : Launch) (D : va_G) (cI cB : ClassId) (ad : Nat → Nat) (hI : GI 13 ad) (M : PM) (n : Nat) (len : Nat → Nat) (ch : Nat → Nat → Nat) (sp : Nat → Option Nat) (hR : RN M n len ch sp) (rc : Nat) (rw_ : Nat → Nat) (hW : RW M n rc rw_) : MM l D cI cB ad y_M_count b_M_count 4 (some .int) 1 21 [.ref (ad (0)), .int (nI (3))] M (fun v M' => v = some (.int (nI (rc))) ∧ M' = pu M 0 0 (nI 0)) := by
  refine MC.of (by decide) (Nat.le_of_ble_eq_true rfl) ?_
  intro p e s m below meth c ls hx hb hr hml hown hg hlocks hK hN hP hS hl
  have hown : s.vm.findClass R_M = some m.cls := hown
  have hl : lv_has ls 4 [(0, .ref (ad (0))), (1, .int (nI (3)))] := hl
  have hn60 : n ≤ 60 := hR.1
  have hl24 := hR.2.2.1
  have hspn := hR.2.2.2.2.1
  have hch := hR.2.2.2.2.2
  have J28 : ∀ (fu28 : Nat) (k : Nat) (M1 : PM) (H : Heap) (locs : List Loc) (ls : Array Slot), n - k < fu28 → (M1 = pu M 0 0 (nI 0)) → (k ≤ n) → va_P D clsA (gw 13 ad (cfM cI cB ad) M1) H → va_S (GA 13 ad) s.heap H locs → lv_has ls 4 [(0, .ref (ad (0))), (1, .int (nI (3))), (2, .int (nI (0))), (3, .int (nI (k)))] → W p l e (rm_ 1 21) s m ([.ref (ad (0)), .int (nI (3))] : List Value).toArray below meth c H locs 0 0 (MQ below (GQ D 13 ad (cfM cI cB ad) (fun v M' => v = some (.int (nI (rc))) ∧ M' = pu M 0 0 (nI 0))) ([.ref (ad (0)), .int (nI (3))] : List Value).toArray s 0 0 (GA 13 ad)) (F0 m 28 ls []) := by
    intro fu28
    induction fu28 with
    | zero => intro k M1 H locs ls hfu; exact absurd hfu (Nat.not_lt_zero _)
    | succ fu28 ih28 =>
      intro k M1 H locs ls hfu28 hM1 hk hP hS hl
      have hR1 := hR.sx (SX.thr M (nI 0))
      rw [← hM1] at hR1
      have hW1 := hW.sx (SX.thr M (nI 0))
      rw [← hM1] at hW1
      refine lv_iload_n hx hb d_M_count_28 rfl (lv_at hl 3 rfl) ?_
      refine lv_aload_n hx hb d_M_count_29 rfl (lv_at hl 0 rfl) ?_
      refine g_get (C := R_M) (T := T_M) (N := 19) (ci := 8) (v := .int (M1 0 5)) hx hb hg i_M hown hK hP 0 (by decide) rfl rfl 5 (by decide) (hg _ k_798) rfl d_M_count_30 ?_
      refine n_top (y := (nI (n))) (hR1.2.1) ?_
      refine n_ge (a := k) (b := n) (tgt := 91) hx hb d_M_count_33 (by decide) (by omega) (by omega) (fun c_33 => ?_) (fun c_33 => ?_)
      · refine lv_iload_n hx hb d_M_count_91 rfl (lv_at hl 1 rfl) ?_
        refine lv_tableIn (x := nI 3) (off := 45) (tgt := 137) hx hb d_M_count_92 (by decide) (by decide) (by decide) (by decide) ?_
        refine lv_aload_n hx hb d_M_count_137 rfl (lv_at hl 0 rfl) ?_
        refine g_get (C := R_M) (T := T_M) (N := 19) (ci := 8) (v := .int (M1 0 10)) hx hb hg i_M hown hK hP 0 (by decide) rfl rfl 10 (by decide) (hg _ k_803) rfl d_M_count_138 ?_
        refine n_top (y := (nI (rc))) (hW1.2.1) ?_
        exact r_i hx hb hr hlocks hP hS (⟨rfl, hM1⟩) d_M_count_141
      · refine lv_iload_n hx hb d_M_count_36 rfl (lv_at hl 2 rfl) ?_
        refine lv_iload_n hx hb d_M_count_37 rfl (lv_at hl 1 rfl) ?_
        refine n_const (k := 1) hx hb d_M_count_38 (by decide) ?_
        refine n_ne (a := 3) (b := 1) (tgt := 50) hx hb d_M_count_39 (by decide) (by decide) (by decide) (fun _ => ?_) (fun h9 => absurd h9 (by decide))
        refine lv_iload_n hx hb d_M_count_50 rfl (lv_at hl 1 rfl) ?_
        refine n_const (k := 2) hx hb d_M_count_51 (by decide) ?_
        refine n_ne (a := 3) (b := 2) (tgt := 64) hx hb d_M_count_52 (by decide) (by decide) (by decide) (fun _ => ?_) (fun h9 => absurd h9 (by decide))
        refine lv_iload_n hx hb d_M_count_64 rfl (lv_at hl 1 rfl) ?_
        refine n_bipush (k := 6) hx hb d_M_count_65 (by decide) ?_
        refine n_ne (a := 3) (b := 6) (tgt := 82) hx hb d_M_count_67 (by decide) (by decide) (by decide) (fun _ => ?_) (fun h9 => absurd h9 (by decide))
        refine n_const (k := 0) hx hb d_M_count_82 (by decide) ?_
        refine n_iadd (a := 0) (b := 0) hx hb d_M_count_83 ?_
        refine lv_istore_n (lv' := [(2, .int (nI ((0) + (0)))), (0, .ref (ad (0))), (1, .int (nI (3))), (3, .int (nI (k)))]) hx hb d_M_count_84 rfl hl (by decide) rfl (fun ls hl => ?_)
        refine n_inc (lv' := [(3, .int (nI (k + 1))), (2, .int (nI ((0) + (0)))), (0, .ref (ad (0))), (1, .int (nI (3)))]) hx hb d_M_count_85 hl (k := 3) rfl (by decide) rfl (fun ls hl => ?_)
        refine lv_goto (tgt := 28) hx hb d_M_count_88 (by decide) ?_
        exact ih28 (k + 1) M1 _ _ ls (by omega) (hM1) (by omega) hP hS (lv_sub hl [2, 3, 1, 0] rfl)
  refine lv_aload_n hx hb d_M_count_0 rfl (lv_at hl 0 rfl) ?_
  refine lv_iload_n hx hb d_M_count_1 rfl (lv_at hl 1 rfl) ?_
  refine lv_if_lt (tgt := 11) hx hb d_M_count_2 (by decide) (fun h9 => by first | exact absurd h9 (by decide) | exact absurd (by decide) h9) (fun _ => ?_)
  refine lv_iload_n hx hb d_M_count_5 rfl (lv_at hl 1 rfl) ?_
  refine n_bipush (k := 6) hx hb d_M_count_6 (by decide) ?_
  refine n_le (a := 3) (b := 6) (tgt := 15) hx hb d_M_count_8 (by decide) (by decide) (by decide) (fun _ => ?_) (fun h9 => absurd h9 (by decide))
  refine n_const (k := 0) hx hb d_M_count_15 (by decide) ?_
  refine c_V (own := R_M) (index := 57) (As := [.int (nI (0))]) (rest := []) hx hb hml hown hg hK (fun _ _ _ h => h) (fun _ _ => trivial) (fun _ h => h) hP hS 0 (c_M_refuses l D cI cB ad hI M (0) (by decide)) (by decide) (ci := 8) rfl rfl k_859 k_861 k_p22 k_9 k_862 1 rfl (by decide +kernel) (by decide) rfl hl.1 (Nat.le_of_ble_eq_true rfl) d_M_count_16 (fun v M_1 H locs hq hP _ _ hS => ?_)
  obtain ⟨rfl, eM_1⟩ := hq
  have hR1 := hR.sx (SX.thr M (nI 0))
  rw [← eM_1] at hR1
  have hW1 := hW.sx (SX.thr M (nI 0))
  rw [← eM_1] at hW1
  refine W.eq (g2 := F0 m 19 ls [.int (bI (false))]) rfl ?_
  refine z_eq (t := false) (tgt := 24) hx hb d_M_count_19 (by decide) (fun _ => ?_) (fun h9 => absurd h9 (by decide))
  refine n_const (k := 0) hx hb d_M_count_24 (by decide) ?_
  refine lv_istore_n (lv' := [(2, .int (nI (0))), (0, .ref (ad (0))), (1, .int (nI (3)))]) hx hb d_M_count_25 rfl hl (by decide) rfl (fun ls hl => ?_)
  refine n_const (k := 0) hx hb d_M_count_26 (by decide) ?_
  refine lv_istore_n (lv' := [(3, .int (nI (0))), (2, .int (nI (0))), (0, .ref (ad (0))), (1, .int (nI (3)))]) hx hb d_M_count_27 rfl hl (by decide) rfl (fun ls hl => ?_)
  exact J28 (_ + 1) (0) M_1 _ _ ls (Nat.lt_succ_self _) (eM_1) (by omega) hP hS (lv_sub hl [2, 3, 1, 0] rfl)

set_option maxHeartbeats 4000000 in
set_option maxRecDepth 100000 in
theorem c_M_count_v4 (l : Launch) (D : va_G) (cI cB : ClassId) (ad : Nat → Nat) (hI : GI 13 ad) (M : PM) (n : Nat) (len : Nat → Nat) (ch : Nat → Nat → Nat) (sp : Nat → Option Nat) (hR : RN M n len ch sp) (nc : Nat) (rf rt : Nat → Nat) (hRR : RR M n nc rf rt) : MM l D cI cB ad y_M_count b_M_count 4 (some .int) 1 21 [.ref (ad (0)), .int (nI (4))] M (fun v M' => v = some (.int (nI (nc))) ∧ M' = pu M 0 0 (nI 0)) := by
  refine MC.of (by decide) (Nat.le_of_ble_eq_true rfl) ?_
  intro p e s m below meth c ls hx hb hr hml hown hg hlocks hK hN hP hS hl
  have hown : s.vm.findClass R_M = some m.cls := hown
  have hl : lv_has ls 4 [(0, .ref (ad (0))), (1, .int (nI (4)))] := hl
  have hn60 : n ≤ 60 := hR.1
  have hl24 := hR.2.2.1
  have hspn := hR.2.2.2.2.1
  have hch := hR.2.2.2.2.2
  have J28 : ∀ (fu28 : Nat) (k : Nat) (M1 : PM) (H : Heap) (locs : List Loc) (ls : Array Slot), n - k < fu28 → (M1 = pu M 0 0 (nI 0)) → (k ≤ n) → va_P D clsA (gw 13 ad (cfM cI cB ad) M1) H → va_S (GA 13 ad) s.heap H locs → lv_has ls 4 [(0, .ref (ad (0))), (1, .int (nI (4))), (2, .int (nI (0))), (3, .int (nI (k)))] → W p l e (rm_ 1 21) s m ([.ref (ad (0)), .int (nI (4))] : List Value).toArray below meth c H locs 0 0 (MQ below (GQ D 13 ad (cfM cI cB ad) (fun v M' => v = some (.int (nI (nc))) ∧ M' = pu M 0 0 (nI 0))) ([.ref (ad (0)), .int (nI (4))] : List Value).toArray s 0 0 (GA 13 ad)) (F0 m 28 ls []) := by
    intro fu28
    induction fu28 with
    | zero => intro k M1 H locs ls hfu; exact absurd hfu (Nat.not_lt_zero _)
    | succ fu28 ih28 =>
      intro k M1 H locs ls hfu28 hM1 hk hP hS hl
      have hR1 := hR.sx (SX.thr M (nI 0))
      rw [← hM1] at hR1
      have hRR1 := hRR.sx (SX.thr M (nI 0))
      rw [← hM1] at hRR1
      refine lv_iload_n hx hb d_M_count_28 rfl (lv_at hl 3 rfl) ?_
      refine lv_aload_n hx hb d_M_count_29 rfl (lv_at hl 0 rfl) ?_
      refine g_get (C := R_M) (T := T_M) (N := 19) (ci := 8) (v := .int (M1 0 5)) hx hb hg i_M hown hK hP 0 (by decide) rfl rfl 5 (by decide) (hg _ k_798) rfl d_M_count_30 ?_
      refine n_top (y := (nI (n))) (hR1.2.1) ?_
      refine n_ge (a := k) (b := n) (tgt := 91) hx hb d_M_count_33 (by decide) (by omega) (by omega) (fun c_33 => ?_) (fun c_33 => ?_)
      · refine lv_iload_n hx hb d_M_count_91 rfl (lv_at hl 1 rfl) ?_
        refine lv_tableIn (x := nI 4) (off := 50) (tgt := 142) hx hb d_M_count_92 (by decide) (by decide) (by decide) (by decide) ?_
        refine lv_aload_n hx hb d_M_count_142 rfl (lv_at hl 0 rfl) ?_
        refine g_get (C := R_M) (T := T_M) (N := 19) (ci := 8) (v := .int (M1 0 12)) hx hb hg i_M hown hK hP 0 (by decide) rfl rfl 12 (by decide) (hg _ k_805) rfl d_M_count_143 ?_
        refine n_top (y := (nI (nc))) (hRR1.2.1) ?_
        exact r_i hx hb hr hlocks hP hS (⟨rfl, hM1⟩) d_M_count_146
      · refine lv_iload_n hx hb d_M_count_36 rfl (lv_at hl 2 rfl) ?_
        refine lv_iload_n hx hb d_M_count_37 rfl (lv_at hl 1 rfl) ?_
        refine n_const (k := 1) hx hb d_M_count_38 (by decide) ?_
        refine n_ne (a := 4) (b := 1) (tgt := 50) hx hb d_M_count_39 (by decide) (by decide) (by decide) (fun _ => ?_) (fun h9 => absurd h9 (by decide))
        refine lv_iload_n hx hb d_M_count_50 rfl (lv_at hl 1 rfl) ?_
        refine n_const (k := 2) hx hb d_M_count_51 (by decide) ?_
        refine n_ne (a := 4) (b := 2) (tgt := 64) hx hb d_M_count_52 (by decide) (by decide) (by decide) (fun _ => ?_) (fun h9 => absurd h9 (by decide))
        refine lv_iload_n hx hb d_M_count_64 rfl (lv_at hl 1 rfl) ?_
        refine n_bipush (k := 6) hx hb d_M_count_65 (by decide) ?_
        refine n_ne (a := 4) (b := 6) (tgt := 82) hx hb d_M_count_67 (by decide) (by decide) (by decide) (fun _ => ?_) (fun h9 => absurd h9 (by decide))
        refine n_const (k := 0) hx hb d_M_count_82 (by decide) ?_
        refine n_iadd (a := 0) (b := 0) hx hb d_M_count_83 ?_
        refine lv_istore_n (lv' := [(2, .int (nI ((0) + (0)))), (0, .ref (ad (0))), (1, .int (nI (4))), (3, .int (nI (k)))]) hx hb d_M_count_84 rfl hl (by decide) rfl (fun ls hl => ?_)
        refine n_inc (lv' := [(3, .int (nI (k + 1))), (2, .int (nI ((0) + (0)))), (0, .ref (ad (0))), (1, .int (nI (4)))]) hx hb d_M_count_85 hl (k := 3) rfl (by decide) rfl (fun ls hl => ?_)
        refine lv_goto (tgt := 28) hx hb d_M_count_88 (by decide) ?_
        exact ih28 (k + 1) M1 _ _ ls (by omega) (hM1) (by omega) hP hS (lv_sub hl [2, 3, 1, 0] rfl)
  refine lv_aload_n hx hb d_M_count_0 rfl (lv_at hl 0 rfl) ?_
  refine lv_iload_n hx hb d_M_count_1 rfl (lv_at hl 1 rfl) ?_
  refine lv_if_lt (tgt := 11) hx hb d_M_count_2 (by decide) (fun h9 => by first | exact absurd h9 (by decide) | exact absurd (by decide) h9) (fun _ => ?_)
  refine lv_iload_n hx hb d_M_count_5 rfl (lv_at hl 1 rfl) ?_
  refine n_bipush (k := 6) hx hb d_M_count_6 (by decide) ?_
  refine n_le (a := 4) (b := 6) (tgt := 15) hx hb d_M_count_8 (by decide) (by decide) (by decide) (fun _ => ?_) (fun h9 => absurd h9 (by decide))
  refine n_const (k := 0) hx hb d_M_count_15 (by decide) ?_
  refine c_V (own := R_M) (index := 57) (As := [.int (nI (0))]) (rest := []) hx hb hml hown hg hK (fun _ _ _ h => h) (fun _ _ => trivial) (fun _ h => h) hP hS 0 (c_M_refuses l D cI cB ad hI M (0) (by decide)) (by decide) (ci := 8) rfl rfl k_859 k_861 k_p22 k_9 k_862 1 rfl (by decide +kernel) (by decide) rfl hl.1 (Nat.le_of_ble_eq_true rfl) d_M_count_16 (fun v M_1 H locs hq hP _ _ hS => ?_)
  obtain ⟨rfl, eM_1⟩ := hq
  have hR1 := hR.sx (SX.thr M (nI 0))
  rw [← eM_1] at hR1
  have hRR1 := hRR.sx (SX.thr M (nI 0))
  rw [← eM_1] at hRR1
  refine W.eq (g2 := F0 m 19 ls [.int (bI (false))]) rfl ?_
  refine z_eq (t := false) (tgt := 24) hx hb d_M_count_19 (by decide) (fun _ => ?_) (fun h9 => absurd h9 (by decide))
  refine n_const (k := 0) hx hb d_M_count_24 (by decide) ?_
  refine lv_istore_n (lv' := [(2, .int (nI (0))), (0, .ref (ad (0))), (1, .int (nI (4)))]) hx hb d_M_count_25 rfl hl (by decide) rfl (fun ls hl => ?_)
  refine n_const (k := 0) hx hb d_M_count_26 (by decide) ?_
  refine lv_istore_n (lv' := [(3, .int (nI (0))), (2, .int (nI (0))), (0, .ref (ad (0))), (1, .int (nI (4)))]) hx hb d_M_count_27 rfl hl (by decide) rfl (fun ls hl => ?_)
  exact J28 (_ + 1) (0) M_1 _ _ ls (Nat.lt_succ_self _) (eM_1) (by omega) hP hS (lv_sub hl [2, 3, 1, 0] rfl)

set_option maxHeartbeats 4000000 in
set_option maxRecDepth 100000 in
theorem c_M_count_v5 (l : Launch) (D : va_G) (cI cB : ClassId) (ad : Nat → Nat) (hI : GI 13 ad) (M : PM) (n : Nat) (len : Nat → Nat) (ch : Nat → Nat → Nat) (sp : Nat → Option Nat) (hR : RN M n len ch sp) (tl : Nat) (tc : Nat → Nat) (hT : RT M tl tc) : MM l D cI cB ad y_M_count b_M_count 4 (some .int) 1 21 [.ref (ad (0)), .int (nI (5))] M (fun v M' => v = some (.int (nI (tl))) ∧ M' = pu M 0 0 (nI 0)) := by
  refine MC.of (by decide) (Nat.le_of_ble_eq_true rfl) ?_
  intro p e s m below meth c ls hx hb hr hml hown hg hlocks hK hN hP hS hl
  have hown : s.vm.findClass R_M = some m.cls := hown
  have hl : lv_has ls 4 [(0, .ref (ad (0))), (1, .int (nI (5)))] := hl
  have hn60 : n ≤ 60 := hR.1
  have hl24 := hR.2.2.1
  have hspn := hR.2.2.2.2.1
  have hch := hR.2.2.2.2.2
  have J28 : ∀ (fu28 : Nat) (k : Nat) (M1 : PM) (H : Heap) (locs : List Loc) (ls : Array Slot), n - k < fu28 → (M1 = pu M 0 0 (nI 0)) → (k ≤ n) → va_P D clsA (gw 13 ad (cfM cI cB ad) M1) H → va_S (GA 13 ad) s.heap H locs → lv_has ls 4 [(0, .ref (ad (0))), (1, .int (nI (5))), (2, .int (nI (0))), (3, .int (nI (k)))] → W p l e (rm_ 1 21) s m ([.ref (ad (0)), .int (nI (5))] : List Value).toArray below meth c H locs 0 0 (MQ below (GQ D 13 ad (cfM cI cB ad) (fun v M' => v = some (.int (nI (tl))) ∧ M' = pu M 0 0 (nI 0))) ([.ref (ad (0)), .int (nI (5))] : List Value).toArray s 0 0 (GA 13 ad)) (F0 m 28 ls []) := by
    intro fu28
    induction fu28 with
    | zero => intro k M1 H locs ls hfu; exact absurd hfu (Nat.not_lt_zero _)
    | succ fu28 ih28 =>
      intro k M1 H locs ls hfu28 hM1 hk hP hS hl
      have hR1 := hR.sx (SX.thr M (nI 0))
      rw [← hM1] at hR1
      have hT1 := hT.sx (SX.thr M (nI 0))
      rw [← hM1] at hT1
      refine lv_iload_n hx hb d_M_count_28 rfl (lv_at hl 3 rfl) ?_
      refine lv_aload_n hx hb d_M_count_29 rfl (lv_at hl 0 rfl) ?_
      refine g_get (C := R_M) (T := T_M) (N := 19) (ci := 8) (v := .int (M1 0 5)) hx hb hg i_M hown hK hP 0 (by decide) rfl rfl 5 (by decide) (hg _ k_798) rfl d_M_count_30 ?_
      refine n_top (y := (nI (n))) (hR1.2.1) ?_
      refine n_ge (a := k) (b := n) (tgt := 91) hx hb d_M_count_33 (by decide) (by omega) (by omega) (fun c_33 => ?_) (fun c_33 => ?_)
      · refine lv_iload_n hx hb d_M_count_91 rfl (lv_at hl 1 rfl) ?_
        refine lv_tableIn (x := nI 5) (off := 55) (tgt := 147) hx hb d_M_count_92 (by decide) (by decide) (by decide) (by decide) ?_
        refine lv_aload_n hx hb d_M_count_147 rfl (lv_at hl 0 rfl) ?_
        refine g_get (C := R_M) (T := T_M) (N := 19) (ci := 8) (v := .int (M1 0 2)) hx hb hg i_M hown hK hP 0 (by decide) rfl rfl 2 (by decide) (hg _ k_795) rfl d_M_count_148 ?_
        refine n_top (y := (nI (tl))) (hT1.2.1) ?_
        exact r_i hx hb hr hlocks hP hS (⟨rfl, hM1⟩) d_M_count_151
      · refine lv_iload_n hx hb d_M_count_36 rfl (lv_at hl 2 rfl) ?_
        refine lv_iload_n hx hb d_M_count_37 rfl (lv_at hl 1 rfl) ?_
        refine n_const (k := 1) hx hb d_M_count_38 (by decide) ?_
        refine n_ne (a := 5) (b := 1) (tgt := 50) hx hb d_M_count_39 (by decide) (by decide) (by decide) (fun _ => ?_) (fun h9 => absurd h9 (by decide))
        refine lv_iload_n hx hb d_M_count_50 rfl (lv_at hl 1 rfl) ?_
        refine n_const (k := 2) hx hb d_M_count_51 (by decide) ?_
        refine n_ne (a := 5) (b := 2) (tgt := 64) hx hb d_M_count_52 (by decide) (by decide) (by decide) (fun _ => ?_) (fun h9 => absurd h9 (by decide))
        refine lv_iload_n hx hb d_M_count_64 rfl (lv_at hl 1 rfl) ?_
        refine n_bipush (k := 6) hx hb d_M_count_65 (by decide) ?_
        refine n_ne (a := 5) (b := 6) (tgt := 82) hx hb d_M_count_67 (by decide) (by decide) (by decide) (fun _ => ?_) (fun h9 => absurd h9 (by decide))
        refine n_const (k := 0) hx hb d_M_count_82 (by decide) ?_
        refine n_iadd (a := 0) (b := 0) hx hb d_M_count_83 ?_
        refine lv_istore_n (lv' := [(2, .int (nI ((0) + (0)))), (0, .ref (ad (0))), (1, .int (nI (5))), (3, .int (nI (k)))]) hx hb d_M_count_84 rfl hl (by decide) rfl (fun ls hl => ?_)
        refine n_inc (lv' := [(3, .int (nI (k + 1))), (2, .int (nI ((0) + (0)))), (0, .ref (ad (0))), (1, .int (nI (5)))]) hx hb d_M_count_85 hl (k := 3) rfl (by decide) rfl (fun ls hl => ?_)
        refine lv_goto (tgt := 28) hx hb d_M_count_88 (by decide) ?_
        exact ih28 (k + 1) M1 _ _ ls (by omega) (hM1) (by omega) hP hS (lv_sub hl [2, 3, 1, 0] rfl)
  refine lv_aload_n hx hb d_M_count_0 rfl (lv_at hl 0 rfl) ?_
  refine lv_iload_n hx hb d_M_count_1 rfl (lv_at hl 1 rfl) ?_
  refine lv_if_lt (tgt := 11) hx hb d_M_count_2 (by decide) (fun h9 => by first | exact absurd h9 (by decide) | exact absurd (by decide) h9) (fun _ => ?_)
  refine lv_iload_n hx hb d_M_count_5 rfl (lv_at hl 1 rfl) ?_
  refine n_bipush (k := 6) hx hb d_M_count_6 (by decide) ?_
  refine n_le (a := 5) (b := 6) (tgt := 15) hx hb d_M_count_8 (by decide) (by decide) (by decide) (fun _ => ?_) (fun h9 => absurd h9 (by decide))
  refine n_const (k := 0) hx hb d_M_count_15 (by decide) ?_
  refine c_V (own := R_M) (index := 57) (As := [.int (nI (0))]) (rest := []) hx hb hml hown hg hK (fun _ _ _ h => h) (fun _ _ => trivial) (fun _ h => h) hP hS 0 (c_M_refuses l D cI cB ad hI M (0) (by decide)) (by decide) (ci := 8) rfl rfl k_859 k_861 k_p22 k_9 k_862 1 rfl (by decide +kernel) (by decide) rfl hl.1 (Nat.le_of_ble_eq_true rfl) d_M_count_16 (fun v M_1 H locs hq hP _ _ hS => ?_)
  obtain ⟨rfl, eM_1⟩ := hq
  have hR1 := hR.sx (SX.thr M (nI 0))
  rw [← eM_1] at hR1
  have hT1 := hT.sx (SX.thr M (nI 0))
  rw [← eM_1] at hT1
  refine W.eq (g2 := F0 m 19 ls [.int (bI (false))]) rfl ?_
  refine z_eq (t := false) (tgt := 24) hx hb d_M_count_19 (by decide) (fun _ => ?_) (fun h9 => absurd h9 (by decide))
  refine n_const (k := 0) hx hb d_M_count_24 (by decide) ?_
  refine lv_istore_n (lv' := [(2, .int (nI (0))), (0, .ref (ad (0))), (1, .int (nI (5)))]) hx hb d_M_count_25 rfl hl (by decide) rfl (fun ls hl => ?_)
  refine n_const (k := 0) hx hb d_M_count_26 (by decide) ?_
  refine lv_istore_n (lv' := [(3, .int (nI (0))), (2, .int (nI (0))), (0, .ref (ad (0))), (1, .int (nI (5)))]) hx hb d_M_count_27 rfl hl (by decide) rfl (fun ls hl => ?_)
  exact J28 (_ + 1) (0) M_1 _ _ ls (Nat.lt_succ_self _) (eM_1) (by omega) hP hS (lv_sub hl [2, 3, 1, 0] rfl)

set_option maxHeartbeats 4000000 in
set_option maxRecDepth 100000 in
theorem c_M_count_v1 (l : Launch) (D : va_G) (cI cB : ClassId) (ad : Nat → Nat) (hI : GI 13 ad) (M : PM) (n : Nat) (len : Nat → Nat) (ch : Nat → Nat → Nat) (sp : Nat → Option Nat) (hR : RN M n len ch sp) (isb : Nat → Bool) (hisb : ∀ k, k < n → (isb k = true ↔ isSp n sp k)) : MM l D cI cB ad y_M_count b_M_count 4 (some .int) 1 22 [.ref (ad (0)), .int (nI (1))] M (fun v M' => v = some (.int (nI (Cnt isb n))) ∧ M' = pu M 0 0 (nI 0)) := by
  refine MC.of (by decide) (Nat.le_of_ble_eq_true rfl) ?_
  intro p e s m below meth c ls hx hb hr hml hown hg hlocks hK hN hP hS hl
  have hown : s.vm.findClass R_M = some m.cls := hown
  have hl : lv_has ls 4 [(0, .ref (ad (0))), (1, .int (nI (1)))] := hl
  have hn60 : n ≤ 60 := hR.1
  have hl24 := hR.2.2.1
  have hspn := hR.2.2.2.2.1
  have hch := hR.2.2.2.2.2
  have J28 : ∀ (fu28 : Nat) (k : Nat) (M1 : PM) (H : Heap) (locs : List Loc) (ls : Array Slot), n - k < fu28 → (M1 = pu M 0 0 (nI 0)) → (k ≤ n) → va_P D clsA (gw 13 ad (cfM cI cB ad) M1) H → va_S (GA 13 ad) s.heap H locs → lv_has ls 4 [(0, .ref (ad (0))), (1, .int (nI (1))), (2, .int (nI (Cnt isb k))), (3, .int (nI (k)))] → W p l e (rm_ 1 22) s m ([.ref (ad (0)), .int (nI (1))] : List Value).toArray below meth c H locs 0 0 (MQ below (GQ D 13 ad (cfM cI cB ad) (fun v M' => v = some (.int (nI (Cnt isb n))) ∧ M' = pu M 0 0 (nI 0))) ([.ref (ad (0)), .int (nI (1))] : List Value).toArray s 0 0 (GA 13 ad)) (F0 m 28 ls []) := by
    intro fu28
    induction fu28 with
    | zero => intro k M1 H locs ls hfu; exact absurd hfu (Nat.not_lt_zero _)
    | succ fu28 ih28 =>
      intro k M1 H locs ls hfu28 hM1 hk hP hS hl
      have hR1 := hR.sx (SX.thr M (nI 0))
      rw [← hM1] at hR1
      refine lv_iload_n hx hb d_M_count_28 rfl (lv_at hl 3 rfl) ?_
      refine lv_aload_n hx hb d_M_count_29 rfl (lv_at hl 0 rfl) ?_
      refine g_get (C := R_M) (T := T_M) (N := 19) (ci := 8) (v := .int (M1 0 5)) hx hb hg i_M hown hK hP 0 (by decide) rfl rfl 5 (by decide) (hg _ k_798) rfl d_M_count_30 ?_
      refine n_top (y := (nI (n))) (hR1.2.1) ?_
      refine n_ge (a := k) (b := n) (tgt := 91) hx hb d_M_count_33 (by decide) (by omega) (by omega) (fun c_33 => ?_) (fun c_33 => ?_)
      · refine lv_iload_n hx hb d_M_count_91 rfl (lv_at hl 1 rfl) ?_
        refine lv_tableIn (x := nI 1) (off := 60) (tgt := 152) hx hb d_M_count_92 (by decide) (by decide) (by decide) (by decide) ?_
        refine lv_iload_n hx hb d_M_count_152 rfl (lv_at hl 2 rfl) ?_
        exact r_i hx hb hr hlocks hP hS (⟨by rw [show k = n by omega], hM1⟩) d_M_count_153
      · refine lv_iload_n hx hb d_M_count_36 rfl (lv_at hl 2 rfl) ?_
        refine lv_iload_n hx hb d_M_count_37 rfl (lv_at hl 1 rfl) ?_
        refine n_const (k := 1) hx hb d_M_count_38 (by decide) ?_
        refine n_ne (a := 1) (b := 1) (tgt := 50) hx hb d_M_count_39 (by decide) (by decide) (by decide) (fun h9 => absurd h9 (by decide)) (fun _ => ?_)
        refine lv_aload_n hx hb d_M_count_42 rfl (lv_at hl 0 rfl) ?_
        refine lv_iload_n hx hb d_M_count_43 rfl (lv_at hl 3 rfl) ?_
        refine c_V (own := R_M) (index := 103) (As := [.int (nI (k))]) (rest := [.int (nI (Cnt isb k))]) hx hb hml hown hg hK (fun _ _ _ h => h) (fun _ _ => trivial) (fun _ h => h) hP hS 0 (c_M_isSpace l D cI cB ad hI M1 n len ch sp hR1 (k) (by omega) (isb (k)) (hisb _ (by omega))) (by decide) (ci := 8) rfl rfl k_931 k_933 k_p35 k_9 k_934 1 rfl (by decide +kernel) (by decide) rfl hl.1 (Nat.le_of_ble_eq_true rfl) d_M_count_44 (fun v M' H locs hq hP _ _ hS => ?_)
        obtain ⟨rfl, rfl⟩ := hq
        refine W.eq (g2 := F0 m 47 ls [.int (bI (isb (k))), .int (nI (Cnt isb k))]) rfl ?_
        refine z_ne (t := isb (k)) (tgt := 78) hx hb d_M_count_47 (by decide) (fun c_47 => ?_) (fun c_47 => ?_)
        · have hcq : Cnt isb (k + 1) = Cnt isb k + 1 := Cnt_t c_47
          refine n_const (k := 1) hx hb d_M_count_78 (by decide) ?_
          refine lv_goto (tgt := 83) hx hb d_M_count_79 (by decide) ?_
          refine n_iadd (a := Cnt isb k) (b := 1) hx hb d_M_count_83 ?_
          refine lv_istore_n (lv' := [(2, .int (nI ((Cnt isb k) + (1)))), (0, .ref (ad (0))), (1, .int (nI (1))), (3, .int (nI (k)))]) hx hb d_M_count_84 rfl hl (by decide) rfl (fun ls hl => ?_)
          first | rw [Nat.add_zero, ← hcq] at hl | rw [← hcq] at hl
          have hl : lv_has ls 4 [(2, .int (nI (Cnt isb (k + 1)))), (0, .ref (ad (0))), (1, .int (nI (1))), (3, .int (nI (k)))] := hl
          refine n_inc (lv' := [(3, .int (nI (k + 1))), (2, .int (nI (Cnt isb (k + 1)))), (0, .ref (ad (0))), (1, .int (nI (1)))]) hx hb d_M_count_85 hl (k := 3) rfl (by decide) rfl (fun ls hl => ?_)
          refine lv_goto (tgt := 28) hx hb d_M_count_88 (by decide) ?_
          exact ih28 (k + 1) M1 _ _ ls (by omega) (hM1) (by omega) hP hS (lv_sub hl [2, 3, 1, 0] rfl)
        · have hcq : Cnt isb (k + 1) = Cnt isb k := Cnt_f c_47
          refine lv_iload_n hx hb d_M_count_50 rfl (lv_at hl 1 rfl) ?_
          refine n_const (k := 2) hx hb d_M_count_51 (by decide) ?_
          refine n_ne (a := 1) (b := 2) (tgt := 64) hx hb d_M_count_52 (by decide) (by decide) (by decide) (fun _ => ?_) (fun h9 => absurd h9 (by decide))
          refine lv_iload_n hx hb d_M_count_64 rfl (lv_at hl 1 rfl) ?_
          refine n_bipush (k := 6) hx hb d_M_count_65 (by decide) ?_
          refine n_ne (a := 1) (b := 6) (tgt := 82) hx hb d_M_count_67 (by decide) (by decide) (by decide) (fun _ => ?_) (fun h9 => absurd h9 (by decide))
          refine n_const (k := 0) hx hb d_M_count_82 (by decide) ?_
          refine n_iadd (a := Cnt isb k) (b := 0) hx hb d_M_count_83 ?_
          refine lv_istore_n (lv' := [(2, .int (nI ((Cnt isb k) + (0)))), (0, .ref (ad (0))), (1, .int (nI (1))), (3, .int (nI (k)))]) hx hb d_M_count_84 rfl hl (by decide) rfl (fun ls hl => ?_)
          first | rw [Nat.add_zero, ← hcq] at hl | rw [← hcq] at hl
          have hl : lv_has ls 4 [(2, .int (nI (Cnt isb (k + 1)))), (0, .ref (ad (0))), (1, .int (nI (1))), (3, .int (nI (k)))] := hl
          refine n_inc (lv' := [(3, .int (nI (k + 1))), (2, .int (nI (Cnt isb (k + 1)))), (0, .ref (ad (0))), (1, .int (nI (1)))]) hx hb d_M_count_85 hl (k := 3) rfl (by decide) rfl (fun ls hl => ?_)
          refine lv_goto (tgt := 28) hx hb d_M_count_88 (by decide) ?_
          exact ih28 (k + 1) M1 _ _ ls (by omega) (hM1) (by omega) hP hS (lv_sub hl [2, 3, 1, 0] rfl)
  refine lv_aload_n hx hb d_M_count_0 rfl (lv_at hl 0 rfl) ?_
  refine lv_iload_n hx hb d_M_count_1 rfl (lv_at hl 1 rfl) ?_
  refine lv_if_lt (tgt := 11) hx hb d_M_count_2 (by decide) (fun h9 => by first | exact absurd h9 (by decide) | exact absurd (by decide) h9) (fun _ => ?_)
  refine lv_iload_n hx hb d_M_count_5 rfl (lv_at hl 1 rfl) ?_
  refine n_bipush (k := 6) hx hb d_M_count_6 (by decide) ?_
  refine n_le (a := 1) (b := 6) (tgt := 15) hx hb d_M_count_8 (by decide) (by decide) (by decide) (fun _ => ?_) (fun h9 => absurd h9 (by decide))
  refine n_const (k := 0) hx hb d_M_count_15 (by decide) ?_
  refine c_V (own := R_M) (index := 57) (As := [.int (nI (0))]) (rest := []) hx hb hml hown hg hK (fun _ _ _ h => h) (fun _ _ => trivial) (fun _ h => h) hP hS 0 (c_M_refuses l D cI cB ad hI M (0) (by decide)) (by decide) (ci := 8) rfl rfl k_859 k_861 k_p22 k_9 k_862 1 rfl (by decide +kernel) (by decide) rfl hl.1 (Nat.le_of_ble_eq_true rfl) d_M_count_16 (fun v M_1 H locs hq hP _ _ hS => ?_)
  obtain ⟨rfl, eM_1⟩ := hq
  have hR1 := hR.sx (SX.thr M (nI 0))
  rw [← eM_1] at hR1
  refine W.eq (g2 := F0 m 19 ls [.int (bI (false))]) rfl ?_
  refine z_eq (t := false) (tgt := 24) hx hb d_M_count_19 (by decide) (fun _ => ?_) (fun h9 => absurd h9 (by decide))
  refine n_const (k := 0) hx hb d_M_count_24 (by decide) ?_
  refine lv_istore_n (lv' := [(2, .int (nI (0))), (0, .ref (ad (0))), (1, .int (nI (1)))]) hx hb d_M_count_25 rfl hl (by decide) rfl (fun ls hl => ?_)
  refine n_const (k := 0) hx hb d_M_count_26 (by decide) ?_
  refine lv_istore_n (lv' := [(3, .int (nI (0))), (2, .int (nI (0))), (0, .ref (ad (0))), (1, .int (nI (1)))]) hx hb d_M_count_27 rfl hl (by decide) rfl (fun ls hl => ?_)
  exact J28 (_ + 1) (0) M_1 _ _ ls (Nat.lt_succ_self _) (eM_1) (by omega) hP hS (lv_sub hl [2, 3, 1, 0] rfl)

set_option maxHeartbeats 4000000 in
set_option maxRecDepth 100000 in
theorem c_M_count_v2 (l : Launch) (D : va_G) (cI cB : ClassId) (ad : Nat → Nat) (hI : GI 13 ad) (M : PM) (n : Nat) (len : Nat → Nat) (ch : Nat → Nat → Nat) (sp : Nat → Option Nat) (hR : RN M n len ch sp)  : MM l D cI cB ad y_M_count b_M_count 4 (some .int) 1 21 [.ref (ad (0)), .int (nI (2))] M (fun v M' => v = some (.int (nI (Cnt (fun k => decide (sp k ≠ none)) n))) ∧ M' = pu M 0 0 (nI 0)) := by
  refine MC.of (by decide) (Nat.le_of_ble_eq_true rfl) ?_
  intro p e s m below meth c ls hx hb hr hml hown hg hlocks hK hN hP hS hl
  have hown : s.vm.findClass R_M = some m.cls := hown
  have hl : lv_has ls 4 [(0, .ref (ad (0))), (1, .int (nI (2)))] := hl
  have hn60 : n ≤ 60 := hR.1
  have hl24 := hR.2.2.1
  have hspn := hR.2.2.2.2.1
  have hch := hR.2.2.2.2.2
  have J28 : ∀ (fu28 : Nat) (k : Nat) (M1 : PM) (H : Heap) (locs : List Loc) (ls : Array Slot), n - k < fu28 → (M1 = pu M 0 0 (nI 0)) → (k ≤ n) → va_P D clsA (gw 13 ad (cfM cI cB ad) M1) H → va_S (GA 13 ad) s.heap H locs → lv_has ls 4 [(0, .ref (ad (0))), (1, .int (nI (2))), (2, .int (nI (Cnt (fun k => decide (sp k ≠ none)) k))), (3, .int (nI (k)))] → W p l e (rm_ 1 21) s m ([.ref (ad (0)), .int (nI (2))] : List Value).toArray below meth c H locs 0 0 (MQ below (GQ D 13 ad (cfM cI cB ad) (fun v M' => v = some (.int (nI (Cnt (fun k => decide (sp k ≠ none)) n))) ∧ M' = pu M 0 0 (nI 0))) ([.ref (ad (0)), .int (nI (2))] : List Value).toArray s 0 0 (GA 13 ad)) (F0 m 28 ls []) := by
    intro fu28
    induction fu28 with
    | zero => intro k M1 H locs ls hfu; exact absurd hfu (Nat.not_lt_zero _)
    | succ fu28 ih28 =>
      intro k M1 H locs ls hfu28 hM1 hk hP hS hl
      have hR1 := hR.sx (SX.thr M (nI 0))
      rw [← hM1] at hR1
      refine lv_iload_n hx hb d_M_count_28 rfl (lv_at hl 3 rfl) ?_
      refine lv_aload_n hx hb d_M_count_29 rfl (lv_at hl 0 rfl) ?_
      refine g_get (C := R_M) (T := T_M) (N := 19) (ci := 8) (v := .int (M1 0 5)) hx hb hg i_M hown hK hP 0 (by decide) rfl rfl 5 (by decide) (hg _ k_798) rfl d_M_count_30 ?_
      refine n_top (y := (nI (n))) (hR1.2.1) ?_
      refine n_ge (a := k) (b := n) (tgt := 91) hx hb d_M_count_33 (by decide) (by omega) (by omega) (fun c_33 => ?_) (fun c_33 => ?_)
      · refine lv_iload_n hx hb d_M_count_91 rfl (lv_at hl 1 rfl) ?_
        refine lv_tableIn (x := nI 2) (off := 60) (tgt := 152) hx hb d_M_count_92 (by decide) (by decide) (by decide) (by decide) ?_
        refine lv_iload_n hx hb d_M_count_152 rfl (lv_at hl 2 rfl) ?_
        exact r_i hx hb hr hlocks hP hS (⟨by rw [show k = n by omega], hM1⟩) d_M_count_153
      · refine lv_iload_n hx hb d_M_count_36 rfl (lv_at hl 2 rfl) ?_
        refine lv_iload_n hx hb d_M_count_37 rfl (lv_at hl 1 rfl) ?_
        refine n_const (k := 1) hx hb d_M_count_38 (by decide) ?_
        refine n_ne (a := 2) (b := 1) (tgt := 50) hx hb d_M_count_39 (by decide) (by decide) (by decide) (fun _ => ?_) (fun h9 => absurd h9 (by decide))
        refine lv_iload_n hx hb d_M_count_50 rfl (lv_at hl 1 rfl) ?_
        refine n_const (k := 2) hx hb d_M_count_51 (by decide) ?_
        refine n_ne (a := 2) (b := 2) (tgt := 64) hx hb d_M_count_52 (by decide) (by decide) (by decide) (fun h9 => absurd h9 (by decide)) (fun _ => ?_)
        refine lv_aload_n hx hb d_M_count_55 rfl (lv_at hl 0 rfl) ?_
        refine g_get (C := R_M) (T := T_M) (N := 19) (ci := 8) (v := .ref (ad (4))) hx hb hg i_M hown hK hP 0 (by decide) rfl rfl 6 (by decide) (hg _ k_799) rfl d_M_count_56 ?_
        refine lv_iload_n hx hb d_M_count_59 rfl (lv_at hl 3 rfl) ?_
        refine g_iald hx hb hK hP 4 0 (by decide) rfl rfl (by decide) (j := k) (by omega) d_M_count_60 ?_
        refine n_top (y := (oI (sp (k)))) (hR1.2.2.2.1 (k) (by omega)) ?_
        refine o_ge (o := sp (k)) (tgt := 78) hx hb d_M_count_61 (by decide) (by intro q hq; have := hspn _ q (by omega) hq; omega) (fun v_61 c_61 => ?_) (fun c_61 => ?_)
        · have hcq : Cnt (fun k => decide (sp k ≠ none)) (k + 1) = Cnt (fun k => decide (sp k ≠ none)) k + 1 := Cnt_t (by rw [c_61]; rfl)
          refine n_const (k := 1) hx hb d_M_count_78 (by decide) ?_
          refine lv_goto (tgt := 83) hx hb d_M_count_79 (by decide) ?_
          refine n_iadd (a := Cnt (fun k => decide (sp k ≠ none)) k) (b := 1) hx hb d_M_count_83 ?_
          refine lv_istore_n (lv' := [(2, .int (nI ((Cnt (fun k => decide (sp k ≠ none)) k) + (1)))), (0, .ref (ad (0))), (1, .int (nI (2))), (3, .int (nI (k)))]) hx hb d_M_count_84 rfl hl (by decide) rfl (fun ls hl => ?_)
          first | rw [Nat.add_zero, ← hcq] at hl | rw [← hcq] at hl
          have hl : lv_has ls 4 [(2, .int (nI (Cnt (fun k => decide (sp k ≠ none)) (k + 1)))), (0, .ref (ad (0))), (1, .int (nI (2))), (3, .int (nI (k)))] := hl
          refine n_inc (lv' := [(3, .int (nI (k + 1))), (2, .int (nI (Cnt (fun k => decide (sp k ≠ none)) (k + 1)))), (0, .ref (ad (0))), (1, .int (nI (2)))]) hx hb d_M_count_85 hl (k := 3) rfl (by decide) rfl (fun ls hl => ?_)
          refine lv_goto (tgt := 28) hx hb d_M_count_88 (by decide) ?_
          exact ih28 (k + 1) M1 _ _ ls (by omega) (hM1) (by omega) hP hS (lv_sub hl [2, 3, 1, 0] rfl)
        · have hcq : Cnt (fun k => decide (sp k ≠ none)) (k + 1) = Cnt (fun k => decide (sp k ≠ none)) k := Cnt_f (by rw [c_61]; rfl)
          refine lv_iload_n hx hb d_M_count_64 rfl (lv_at hl 1 rfl) ?_
          refine n_bipush (k := 6) hx hb d_M_count_65 (by decide) ?_
          refine n_ne (a := 2) (b := 6) (tgt := 82) hx hb d_M_count_67 (by decide) (by decide) (by decide) (fun _ => ?_) (fun h9 => absurd h9 (by decide))
          refine n_const (k := 0) hx hb d_M_count_82 (by decide) ?_
          refine n_iadd (a := Cnt (fun k => decide (sp k ≠ none)) k) (b := 0) hx hb d_M_count_83 ?_
          refine lv_istore_n (lv' := [(2, .int (nI ((Cnt (fun k => decide (sp k ≠ none)) k) + (0)))), (0, .ref (ad (0))), (1, .int (nI (2))), (3, .int (nI (k)))]) hx hb d_M_count_84 rfl hl (by decide) rfl (fun ls hl => ?_)
          first | rw [Nat.add_zero, ← hcq] at hl | rw [← hcq] at hl
          have hl : lv_has ls 4 [(2, .int (nI (Cnt (fun k => decide (sp k ≠ none)) (k + 1)))), (0, .ref (ad (0))), (1, .int (nI (2))), (3, .int (nI (k)))] := hl
          refine n_inc (lv' := [(3, .int (nI (k + 1))), (2, .int (nI (Cnt (fun k => decide (sp k ≠ none)) (k + 1)))), (0, .ref (ad (0))), (1, .int (nI (2)))]) hx hb d_M_count_85 hl (k := 3) rfl (by decide) rfl (fun ls hl => ?_)
          refine lv_goto (tgt := 28) hx hb d_M_count_88 (by decide) ?_
          exact ih28 (k + 1) M1 _ _ ls (by omega) (hM1) (by omega) hP hS (lv_sub hl [2, 3, 1, 0] rfl)
  refine lv_aload_n hx hb d_M_count_0 rfl (lv_at hl 0 rfl) ?_
  refine lv_iload_n hx hb d_M_count_1 rfl (lv_at hl 1 rfl) ?_
  refine lv_if_lt (tgt := 11) hx hb d_M_count_2 (by decide) (fun h9 => by first | exact absurd h9 (by decide) | exact absurd (by decide) h9) (fun _ => ?_)
  refine lv_iload_n hx hb d_M_count_5 rfl (lv_at hl 1 rfl) ?_
  refine n_bipush (k := 6) hx hb d_M_count_6 (by decide) ?_
  refine n_le (a := 2) (b := 6) (tgt := 15) hx hb d_M_count_8 (by decide) (by decide) (by decide) (fun _ => ?_) (fun h9 => absurd h9 (by decide))
  refine n_const (k := 0) hx hb d_M_count_15 (by decide) ?_
  refine c_V (own := R_M) (index := 57) (As := [.int (nI (0))]) (rest := []) hx hb hml hown hg hK (fun _ _ _ h => h) (fun _ _ => trivial) (fun _ h => h) hP hS 0 (c_M_refuses l D cI cB ad hI M (0) (by decide)) (by decide) (ci := 8) rfl rfl k_859 k_861 k_p22 k_9 k_862 1 rfl (by decide +kernel) (by decide) rfl hl.1 (Nat.le_of_ble_eq_true rfl) d_M_count_16 (fun v M_1 H locs hq hP _ _ hS => ?_)
  obtain ⟨rfl, eM_1⟩ := hq
  have hR1 := hR.sx (SX.thr M (nI 0))
  rw [← eM_1] at hR1
  refine W.eq (g2 := F0 m 19 ls [.int (bI (false))]) rfl ?_
  refine z_eq (t := false) (tgt := 24) hx hb d_M_count_19 (by decide) (fun _ => ?_) (fun h9 => absurd h9 (by decide))
  refine n_const (k := 0) hx hb d_M_count_24 (by decide) ?_
  refine lv_istore_n (lv' := [(2, .int (nI (0))), (0, .ref (ad (0))), (1, .int (nI (2)))]) hx hb d_M_count_25 rfl hl (by decide) rfl (fun ls hl => ?_)
  refine n_const (k := 0) hx hb d_M_count_26 (by decide) ?_
  refine lv_istore_n (lv' := [(3, .int (nI (0))), (2, .int (nI (0))), (0, .ref (ad (0))), (1, .int (nI (2)))]) hx hb d_M_count_27 rfl hl (by decide) rfl (fun ls hl => ?_)
  exact J28 (_ + 1) (0) M_1 _ _ ls (Nat.lt_succ_self _) (eM_1) (by omega) hP hS (lv_sub hl [2, 3, 1, 0] rfl)

set_option maxHeartbeats 4000000 in
set_option maxRecDepth 100000 in
theorem c_M_count_v6 (l : Launch) (D : va_G) (cI cB : ClassId) (ad : Nat → Nat) (hI : GI 13 ad) (M : PM) (n : Nat) (len : Nat → Nat) (ch : Nat → Nat → Nat) (sp : Nat → Option Nat) (hR : RN M n len ch sp) (spo : Nat → Option Nat) (hSp : ∀ k, k < n → Best (spC n len ch sp k) len n (spo k)) (us : Nat → Nat) (hU : RU M n us) (rc : Nat) (rw_ : Nat → Nat) (hW : RW M n rc rw_) (ub : Nat → Bool) (hub : ∀ k, k < n → (ub k = true ↔ unkP us spo rc rw_ k)) : MM l D cI cB ad y_M_count b_M_count 4 (some .int) 4 93 [.ref (ad (0)), .int (nI (6))] M (fun v M' => v = some (.int (nI (Cnt ub n))) ∧ M' = pu M 0 0 (nI 0)) := by
  refine MC.of (by decide) (Nat.le_of_ble_eq_true rfl) ?_
  intro p e s m below meth c ls hx hb hr hml hown hg hlocks hK hN hP hS hl
  have hown : s.vm.findClass R_M = some m.cls := hown
  have hl : lv_has ls 4 [(0, .ref (ad (0))), (1, .int (nI (6)))] := hl
  have hn60 : n ≤ 60 := hR.1
  have hl24 := hR.2.2.1
  have hspn := hR.2.2.2.2.1
  have hch := hR.2.2.2.2.2
  have J28 : ∀ (fu28 : Nat) (k : Nat) (M1 : PM) (H : Heap) (locs : List Loc) (ls : Array Slot), n - k < fu28 → (M1 = pu M 0 0 (nI 0)) → (k ≤ n) → va_P D clsA (gw 13 ad (cfM cI cB ad) M1) H → va_S (GA 13 ad) s.heap H locs → lv_has ls 4 [(0, .ref (ad (0))), (1, .int (nI (6))), (2, .int (nI (Cnt ub k))), (3, .int (nI (k)))] → W p l e (rm_ 4 93) s m ([.ref (ad (0)), .int (nI (6))] : List Value).toArray below meth c H locs 0 0 (MQ below (GQ D 13 ad (cfM cI cB ad) (fun v M' => v = some (.int (nI (Cnt ub n))) ∧ M' = pu M 0 0 (nI 0))) ([.ref (ad (0)), .int (nI (6))] : List Value).toArray s 0 0 (GA 13 ad)) (F0 m 28 ls []) := by
    intro fu28
    induction fu28 with
    | zero => intro k M1 H locs ls hfu; exact absurd hfu (Nat.not_lt_zero _)
    | succ fu28 ih28 =>
      intro k M1 H locs ls hfu28 hM1 hk hP hS hl
      have hR1 := hR.sx (SX.thr M (nI 0))
      rw [← hM1] at hR1
      have hU1 := hU.sx (SX.thr M (nI 0))
      rw [← hM1] at hU1
      have hW1 := hW.sx (SX.thr M (nI 0))
      rw [← hM1] at hW1
      refine lv_iload_n hx hb d_M_count_28 rfl (lv_at hl 3 rfl) ?_
      refine lv_aload_n hx hb d_M_count_29 rfl (lv_at hl 0 rfl) ?_
      refine g_get (C := R_M) (T := T_M) (N := 19) (ci := 8) (v := .int (M1 0 5)) hx hb hg i_M hown hK hP 0 (by decide) rfl rfl 5 (by decide) (hg _ k_798) rfl d_M_count_30 ?_
      refine n_top (y := (nI (n))) (hR1.2.1) ?_
      refine n_ge (a := k) (b := n) (tgt := 91) hx hb d_M_count_33 (by decide) (by omega) (by omega) (fun c_33 => ?_) (fun c_33 => ?_)
      · refine lv_iload_n hx hb d_M_count_91 rfl (lv_at hl 1 rfl) ?_
        refine lv_tableOut (x := nI 6) (tgt := 152) hx hb d_M_count_92 (by decide) (by decide) ?_
        refine lv_iload_n hx hb d_M_count_152 rfl (lv_at hl 2 rfl) ?_
        exact r_i hx hb hr hlocks hP hS (⟨by rw [show k = n by omega], hM1⟩) d_M_count_153
      · refine lv_iload_n hx hb d_M_count_36 rfl (lv_at hl 2 rfl) ?_
        refine lv_iload_n hx hb d_M_count_37 rfl (lv_at hl 1 rfl) ?_
        refine n_const (k := 1) hx hb d_M_count_38 (by decide) ?_
        refine n_ne (a := 6) (b := 1) (tgt := 50) hx hb d_M_count_39 (by decide) (by decide) (by decide) (fun _ => ?_) (fun h9 => absurd h9 (by decide))
        refine lv_iload_n hx hb d_M_count_50 rfl (lv_at hl 1 rfl) ?_
        refine n_const (k := 2) hx hb d_M_count_51 (by decide) ?_
        refine n_ne (a := 6) (b := 2) (tgt := 64) hx hb d_M_count_52 (by decide) (by decide) (by decide) (fun _ => ?_) (fun h9 => absurd h9 (by decide))
        refine lv_iload_n hx hb d_M_count_64 rfl (lv_at hl 1 rfl) ?_
        refine n_bipush (k := 6) hx hb d_M_count_65 (by decide) ?_
        refine n_ne (a := 6) (b := 6) (tgt := 82) hx hb d_M_count_67 (by decide) (by decide) (by decide) (fun h9 => absurd h9 (by decide)) (fun _ => ?_)
        refine lv_aload_n hx hb d_M_count_70 rfl (lv_at hl 0 rfl) ?_
        refine lv_iload_n hx hb d_M_count_71 rfl (lv_at hl 3 rfl) ?_
        refine c_V (own := R_M) (index := 131) (As := [.int (nI (k))]) (rest := [.int (nI (Cnt ub k))]) hx hb hml hown hg hK (fun _ _ _ h => h) (fun _ _ => trivial) (fun _ h => h) hP hS 0 (c_M_isUnknown l D cI cB ad hI M1 n len ch sp hR1 spo hSp us hU1 rc rw_ hW1 (k) (by omega) (ub (k)) (hub _ (by omega))) (by decide) (ci := 8) rfl rfl k_994 k_996 k_p40 k_9 k_997 1 rfl (by decide +kernel) (by decide) rfl hl.1 (Nat.le_of_ble_eq_true rfl) d_M_count_72 (fun v M' H locs hq hP _ _ hS => ?_)
        obtain ⟨rfl, rfl⟩ := hq
        refine W.eq (g2 := F0 m 75 ls [.int (bI (ub (k))), .int (nI (Cnt ub k))]) rfl ?_
        refine z_eq (t := ub (k)) (tgt := 82) hx hb d_M_count_75 (by decide) (fun c_75 => ?_) (fun c_75 => ?_)
        · have hcq : Cnt ub (k + 1) = Cnt ub k := Cnt_f c_75
          refine n_const (k := 0) hx hb d_M_count_82 (by decide) ?_
          refine n_iadd (a := Cnt ub k) (b := 0) hx hb d_M_count_83 ?_
          refine lv_istore_n (lv' := [(2, .int (nI ((Cnt ub k) + (0)))), (0, .ref (ad (0))), (1, .int (nI (6))), (3, .int (nI (k)))]) hx hb d_M_count_84 rfl hl (by decide) rfl (fun ls hl => ?_)
          first | rw [Nat.add_zero, ← hcq] at hl | rw [← hcq] at hl
          have hl : lv_has ls 4 [(2, .int (nI (Cnt ub (k + 1)))), (0, .ref (ad (0))), (1, .int (nI (6))), (3, .int (nI (k)))] := hl
          refine n_inc (lv' := [(3, .int (nI (k + 1))), (2, .int (nI (Cnt ub (k + 1)))), (0, .ref (ad (0))), (1, .int (nI (6)))]) hx hb d_M_count_85 hl (k := 3) rfl (by decide) rfl (fun ls hl => ?_)
          refine lv_goto (tgt := 28) hx hb d_M_count_88 (by decide) ?_
          exact ih28 (k + 1) M1 _ _ ls (by omega) (hM1) (by omega) hP hS (lv_sub hl [2, 3, 1, 0] rfl)
        · have hcq : Cnt ub (k + 1) = Cnt ub k + 1 := Cnt_t c_75
          refine n_const (k := 1) hx hb d_M_count_78 (by decide) ?_
          refine lv_goto (tgt := 83) hx hb d_M_count_79 (by decide) ?_
          refine n_iadd (a := Cnt ub k) (b := 1) hx hb d_M_count_83 ?_
          refine lv_istore_n (lv' := [(2, .int (nI ((Cnt ub k) + (1)))), (0, .ref (ad (0))), (1, .int (nI (6))), (3, .int (nI (k)))]) hx hb d_M_count_84 rfl hl (by decide) rfl (fun ls hl => ?_)
          first | rw [Nat.add_zero, ← hcq] at hl | rw [← hcq] at hl
          have hl : lv_has ls 4 [(2, .int (nI (Cnt ub (k + 1)))), (0, .ref (ad (0))), (1, .int (nI (6))), (3, .int (nI (k)))] := hl
          refine n_inc (lv' := [(3, .int (nI (k + 1))), (2, .int (nI (Cnt ub (k + 1)))), (0, .ref (ad (0))), (1, .int (nI (6)))]) hx hb d_M_count_85 hl (k := 3) rfl (by decide) rfl (fun ls hl => ?_)
          refine lv_goto (tgt := 28) hx hb d_M_count_88 (by decide) ?_
          exact ih28 (k + 1) M1 _ _ ls (by omega) (hM1) (by omega) hP hS (lv_sub hl [2, 3, 1, 0] rfl)
  refine lv_aload_n hx hb d_M_count_0 rfl (lv_at hl 0 rfl) ?_
  refine lv_iload_n hx hb d_M_count_1 rfl (lv_at hl 1 rfl) ?_
  refine lv_if_lt (tgt := 11) hx hb d_M_count_2 (by decide) (fun h9 => by first | exact absurd h9 (by decide) | exact absurd (by decide) h9) (fun _ => ?_)
  refine lv_iload_n hx hb d_M_count_5 rfl (lv_at hl 1 rfl) ?_
  refine n_bipush (k := 6) hx hb d_M_count_6 (by decide) ?_
  refine n_le (a := 6) (b := 6) (tgt := 15) hx hb d_M_count_8 (by decide) (by decide) (by decide) (fun _ => ?_) (fun h9 => absurd h9 (by decide))
  refine n_const (k := 0) hx hb d_M_count_15 (by decide) ?_
  refine c_V (own := R_M) (index := 57) (As := [.int (nI (0))]) (rest := []) hx hb hml hown hg hK (fun _ _ _ h => h) (fun _ _ => trivial) (fun _ h => h) hP hS 0 (c_M_refuses l D cI cB ad hI M (0) (by decide)) (by decide) (ci := 8) rfl rfl k_859 k_861 k_p22 k_9 k_862 1 rfl (by decide +kernel) (by decide) rfl hl.1 (Nat.le_of_ble_eq_true rfl) d_M_count_16 (fun v M_1 H locs hq hP _ _ hS => ?_)
  obtain ⟨rfl, eM_1⟩ := hq
  have hR1 := hR.sx (SX.thr M (nI 0))
  rw [← eM_1] at hR1
  have hU1 := hU.sx (SX.thr M (nI 0))
  rw [← eM_1] at hU1
  have hW1 := hW.sx (SX.thr M (nI 0))
  rw [← eM_1] at hW1
  refine W.eq (g2 := F0 m 19 ls [.int (bI (false))]) rfl ?_
  refine z_eq (t := false) (tgt := 24) hx hb d_M_count_19 (by decide) (fun _ => ?_) (fun h9 => absurd h9 (by decide))
  refine n_const (k := 0) hx hb d_M_count_24 (by decide) ?_
  refine lv_istore_n (lv' := [(2, .int (nI (0))), (0, .ref (ad (0))), (1, .int (nI (6)))]) hx hb d_M_count_25 rfl hl (by decide) rfl (fun ls hl => ?_)
  refine n_const (k := 0) hx hb d_M_count_26 (by decide) ?_
  refine lv_istore_n (lv' := [(3, .int (nI (0))), (2, .int (nI (0))), (0, .ref (ad (0))), (1, .int (nI (6)))]) hx hb d_M_count_27 rfl hl (by decide) rfl (fun ls hl => ?_)
  exact J28 (_ + 1) (0) M_1 _ _ ls (Nat.lt_succ_self _) (eM_1) (by omega) hP hS (lv_sub hl [2, 3, 1, 0] rfl)
