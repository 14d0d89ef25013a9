set_option maxHeartbeats 4000000 in
set_option maxRecDepth 100000 in
theorem x_C_document_1a (l : Launch) (D : va_G) (cI cC cZ cT : ClassId) (ad : Nat → Nat) (hI : GI 144 ad) (hlT : l.stackTraces = false) (M : PM) (n : Nat) (len : Nat → Nat) (ch : Nat → Nat → Nat) (hN7 : CN M n len ch) (x y : Int32) (hbad : ¬ ∃ j, j < n ∧ x = nI j) : MX l D cI cC cZ cT ad y_C_document b_C_document 4 (some .int) 7 111 [.ref (ad (0)), .int (x), .int (y)] M "java/lang/IndexOutOfBoundsException" (fun M' => M = M') := by
  refine MX.of (by decide) (Nat.le_of_ble_eq_true rfl) ?_
  intro p e s m below meth c ls hx hb hr hml hown hg hlocks hK hN hX hTb hP hS hl
  have hown : s.vm.findClass R_C = some m.cls := hown
  have hl : lv_has ls 4 [(0, .ref (ad (0))), (1, .int (x)), (2, .int (y))] := hl
  refine lv_aload_n hx hb d_C_document_0 rfl (lv_at hl 0 rfl) ?_
  refine lv_iload_n hx hb d_C_document_1 rfl (lv_at hl 1 rfl) ?_
  exact x_V (own := R_C) (index := 131) (As := [.int (x)]) (rest := []) hx hb hml hown hg hK hN hX hTb hlocks hP hS 0 (x_C_rqn l D cI cC cZ cT ad hI hlT M n len ch hN7 (x) hbad) (by decide) (ci := 7) rfl rfl k_401 k_403 k_p5 k_1 k_404 1 rfl (by decide +kernel) (by decide) rfl hl.1 (Nat.le_of_ble_eq_true rfl) d_C_document_2 (fun _ h => h)

set_option maxHeartbeats 4000000 in
set_option maxRecDepth 100000 in
theorem x_C_document_1b (l : Launch) (D : va_G) (cI cC cZ cT : ClassId) (ad : Nat → Nat) (hI : GI 144 ad) (hlT : l.stackTraces = false) (M : PM) (n : Nat) (len : Nat → Nat) (ch : Nat → Nat → Nat) (hN7 : CN M n len ch) (a : Nat) (ha : a < n) (x : Int32) (hneg : x < 0) : MX l D cI cC cZ cT ad y_C_document b_C_document 4 (some .int) 7 111 [.ref (ad (0)), .int (nI (a)), .int (x)] M "java/lang/IndexOutOfBoundsException" (fun M' => M = M') := by
  refine MX.of (by decide) (Nat.le_of_ble_eq_true rfl) ?_
  intro p e s m below meth c ls hx hb hr hml hown hg hlocks hK hN hX hTb hP hS hl
  have hown : s.vm.findClass R_C = some m.cls := hown
  have hl : lv_has ls 4 [(0, .ref (ad (0))), (1, .int (nI (a))), (2, .int (x))] := hl
  have hn60 := hN7.1
  have hnm := hN7.2.2.1
  refine lv_aload_n hx hb d_C_document_0 rfl (lv_at hl 0 rfl) ?_
  refine lv_iload_n hx hb d_C_document_1 rfl (lv_at hl 1 rfl) ?_
  refine c_V (own := R_C) (index := 131) (As := [.int (nI (a))]) (rest := []) hx hb hml hown hg hK NXc.same hN.warm (fun _ h => h) hP hS 0 (c_C_rqn l D cI cC cZ cT ad hI M n len ch hN7 (a) (by omega)) (by decide) (ci := 7) rfl rfl k_401 k_403 k_p5 k_1 k_404 1 rfl (by decide +kernel) (by decide) rfl hl.1 (Nat.le_of_ble_eq_true rfl) d_C_document_2 (fun v M' H locs hq hP _ _ hS => ?_)
  obtain ⟨rfl, rfl⟩ := hq
  refine W.eq (g2 := F0 m 5 ls []) rfl ?_
  refine lv_aload_n hx hb d_C_document_5 rfl (lv_at hl 0 rfl) ?_
  refine lv_iload_n hx hb d_C_document_6 rfl (lv_at hl 2 rfl) ?_
  exact x_V (own := R_C) (index := 217) (As := [.int (x)]) (rest := []) hx hb hml hown hg hK hN hX hTb hlocks hP hS 0 (x_C_rqp l D cI cC cZ cT ad hI hlT M (x) hneg) (by decide) (ci := 7) rfl rfl k_565 k_567 k_p8 k_1 k_568 1 rfl (by decide +kernel) (by decide) rfl hl.1 (Nat.le_of_ble_eq_true rfl) d_C_document_7 (fun _ h => h)

set_option maxHeartbeats 4000000 in
set_option maxRecDepth 100000 in
theorem c_C_document (l : Launch) (D : va_G) (cI cC cZ cT : ClassId) (ad : Nat → Nat) (hI : GI 144 ad) (M : PM) (n : Nat) (len : Nat → Nat) (ch : Nat → Nat → Nat) (hN7 : CN M n len ch) (sp bs : Nat → Option Nat) (hH : CSp M n sp bs) (hbsp : ∀ k, k < n → (bs k ≠ none ↔ isSp n sp k)) (spo : Nat → Option Nat) (hSp : ∀ k, k < n → Best (spC n len ch sp k) len n (spo k)) (rc : Nat) (rw_ : Nat → Nat) (hW7 : CW M n rc rw_) (lb : Nat → Nat → Bool) (hlb : ∀ x y, x < n → y < n → (lb x y = true ↔ ltT len ch x y)) (s9 : Nat) (hs9 : s9 < n) (iN : Nat) (hiN : iN < 2 ^ 31) (o : Option Nat) (ho : Fst (fun k => (spo (rw_ (3 * (k))) = some s9 ∧ Cnt (fun q => decide (spo (rw_ (3 * q)) = some s9) && lb (rw_ (3 * q)) (rw_ (3 * (k)))) rc = iN)) rc o) : MD l D cI cC cZ cT ad y_C_document b_C_document 4 (some .int) 5 116 [.ref (ad (0)), .int (nI (s9)), .int (nI (iN))] M (fun v M' => v = some (.int (oI (o))) ∧ M = M') := by
  refine MC.of (by decide) (Nat.le_of_ble_eq_true rfl) ?_
  intro p e s m below meth c ls hx hb hr hml hown hg hlocks hK hN hP hS hl
  have hown : s.vm.findClass R_C = some m.cls := hown
  have hl : lv_has ls 4 [(0, .ref (ad (0))), (1, .int (nI (s9))), (2, .int (nI (iN)))] := hl
  have hn60 := hN7.1
  have hnm := hN7.2.2.1
  have hspn := hH.2.2.1
  have hbsn := hH.2.2.2
  have hrc := hW7.1
  have hrw := hW7.2.2
  have hsl : ∀ k, k < n → ∀ q, spo k = some q → q < n := fun k hk => (hSp k hk).lt
  have J12 : ∀ (fu12 : Nat) (k : Nat) (H : Heap) (locs : List Loc) (ls : Array Slot), rc - k < fu12 → (k ≤ rc) → (∀ z, z < k → ¬ (spo (rw_ (3 * (z))) = some s9 ∧ Cnt (fun q => decide (spo (rw_ (3 * q)) = some s9) && lb (rw_ (3 * q)) (rw_ (3 * (z)))) rc = iN)) → va_P D clsA (gw 144 ad (cfC cI cC cZ cT ad) M) H → va_S (GA 144 ad) s.heap H locs → lv_has ls 4 [(0, .ref (ad (0))), (1, .int (nI (s9))), (2, .int (nI (iN))), (3, .int (nI (k)))] → W p l e (rm_ 5 116) s m ([.ref (ad (0)), .int (nI (s9)), .int (nI (iN))] : List Value).toArray below meth c H locs 0 0 (MQ below (GQ D 144 ad (cfC cI cC cZ cT ad) (fun v M' => v = some (.int (oI (o))) ∧ M = M')) ([.ref (ad (0)), .int (nI (s9)), .int (nI (iN))] : List Value).toArray s 0 0 (GA 144 ad)) (F0 m 12 ls []) := by
    intro fu12
    induction fu12 with
    | zero => intro k H locs ls hfu; exact absurd hfu (Nat.not_lt_zero _)
    | succ fu12 ih12 =>
      intro k H locs ls hfu12 hk hpv hP hS hl
      refine lv_iload_n hx hb d_C_document_12 rfl (lv_at hl 3 rfl) ?_
      refine lv_aload_n hx hb d_C_document_13 rfl (lv_at hl 0 rfl) ?_
      refine g_get (C := R_C) (T := T_C) (N := 15) (ci := 7) (v := .ref (ad (132))) hx hb hg i_C hown hK hP 0 (by decide) rfl rfl 5 (by decide) (hg _ k_133) rfl d_C_document_14 ?_
      refine c_V (own := R_C) (index := 220) (As := []) (rest := [.int (nI (k))]) hx hb hml hown hg hK NXc.same hN.warm (fun _ h => h) hP hS 132 (c_W_size l D cI cC cZ cT ad hI M n rc hn60 rw_ hW7) (by decide) (ci := 2) rfl rfl k_570 k_571 k_572 k_5 k_573 0 rfl (by decide +kernel) (by decide) rfl hl.1 (Nat.le_of_ble_eq_true rfl) d_C_document_17 (fun v M' H locs hq hP _ _ hS => ?_)
      obtain ⟨rfl, rfl⟩ := hq
      refine W.eq (g2 := F0 m 20 ls [.int (nI (rc)), .int (nI (k))]) rfl ?_
      refine n_ge (a := k) (b := rc) (tgt := 50) hx hb d_C_document_20 (by decide) (by omega) (by omega) (fun c_20 => ?_) (fun c_20 => ?_)
      · refine lv_iconst (v := -1) hx hb d_C_document_50 (by decide) ?_
        exact r_i hx hb hr hlocks hP hS (⟨by rw [ho.no (fun j hj => hpv j (by omega))]; rfl, rfl⟩) d_C_document_51
      · refine lv_aload_n hx hb d_C_document_23 rfl (lv_at hl 0 rfl) ?_
        refine lv_iload_n hx hb d_C_document_24 rfl (lv_at hl 3 rfl) ?_
        refine lv_iload_n hx hb d_C_document_25 rfl (lv_at hl 1 rfl) ?_
        refine c_V (own := R_C) (index := 223) (As := [.int (nI (k)), .int (nI (s9))]) (rest := []) hx hb hml hown hg hK NXc.same hN.warm (fun _ h => h) hP hS 0 (c_C_isInSpace l D cI cC cZ cT ad hI M n len ch hN7 sp bs hH hbsp spo hSp rc rw_ hW7 (k) (by omega) (s9) (by omega) (decide (spo (rw_ (3 * (k))) = some (s9))) decide_eq_true_iff) (by decide) (ci := 7) rfl rfl k_574 k_576 k_p9 k_1 k_577 2 rfl (by decide +kernel) (by decide) rfl hl.1 (Nat.le_of_ble_eq_true rfl) d_C_document_26 (fun v M' H locs hq hP _ _ hS => ?_)
        obtain ⟨rfl, rfl⟩ := hq
        refine W.eq (g2 := F0 m 29 ls [.int (bI (decide (spo (rw_ (3 * (k))) = some (s9))))]) rfl ?_
        refine z_eq (t := decide (spo (rw_ (3 * (k))) = some (s9))) (tgt := 44) hx hb d_C_document_29 (by decide) (fun c_29 => ?_) (fun c_29 => ?_)
        · have hpv9 := lt_S hpv (fun h => absurd h.1 (of_decide_eq_false c_29))
          refine n_inc (lv' := [(3, .int (nI (k + 1))), (0, .ref (ad (0))), (1, .int (nI (s9))), (2, .int (nI (iN)))]) hx hb d_C_document_44 hl (k := 3) rfl (by decide) rfl (fun ls hl => ?_)
          refine lv_goto (tgt := 12) hx hb d_C_document_47 (by decide) ?_
          exact ih12 (k + 1) _ _ ls (by omega) (by omega) (hpv9) hP hS (lv_sub hl [1, 2, 3, 0] rfl)
        · refine lv_aload_n hx hb d_C_document_32 rfl (lv_at hl 0 rfl) ?_
          refine lv_iload_n hx hb d_C_document_33 rfl (lv_at hl 3 rfl) ?_
          refine lv_iload_n hx hb d_C_document_34 rfl (lv_at hl 1 rfl) ?_
          refine c_V (own := R_C) (index := 227) (As := [.int (nI (k)), .int (nI (s9))]) (rest := []) hx hb hml hown hg hK NXc.same hN.warm (fun _ h => h) hP hS 0 (c_C_rowsBefore l D cI cC cZ cT ad hI M n len ch hN7 sp bs hH hbsp spo hSp rc rw_ hW7 lb hlb (k) (by omega) s9 hs9) (by decide) (ci := 7) rfl rfl k_582 k_584 k_p11 k_1 k_585 2 rfl (by decide +kernel) (by decide) rfl hl.1 (Nat.le_of_ble_eq_true rfl) d_C_document_35 (fun v M' H locs hq hP _ _ hS => ?_)
          obtain ⟨rfl, rfl⟩ := hq
          refine W.eq (g2 := F0 m 38 ls [.int (nI (Cnt (fun q => decide (spo (rw_ (3 * q)) = some s9) && lb (rw_ (3 * q)) (rw_ (3 * (k)))) rc))]) rfl ?_
          refine lv_iload_n hx hb d_C_document_38 rfl (lv_at hl 2 rfl) ?_
          refine n_ne (a := Cnt (fun q => decide (spo (rw_ (3 * q)) = some s9) && lb (rw_ (3 * q)) (rw_ (3 * (k)))) rc) (b := iN) (tgt := 44) hx hb d_C_document_39 (by decide) (by have := Cnt_le (fun q => decide (spo (rw_ (3 * q)) = some s9) && lb (rw_ (3 * q)) (rw_ (3 * k))) rc; omega) (by omega) (fun c_39 => ?_) (fun c_39 => ?_)
          · have hpv9 := lt_S hpv (fun h => c_39 h.2)
            refine n_inc (lv' := [(3, .int (nI (k + 1))), (0, .ref (ad (0))), (1, .int (nI (s9))), (2, .int (nI (iN)))]) hx hb d_C_document_44 hl (k := 3) rfl (by decide) rfl (fun ls hl => ?_)
            refine lv_goto (tgt := 12) hx hb d_C_document_47 (by decide) ?_
            exact ih12 (k + 1) _ _ ls (by omega) (by omega) (hpv9) hP hS (lv_sub hl [1, 2, 3, 0] rfl)
          · refine lv_iload_n hx hb d_C_document_42 rfl (lv_at hl 3 rfl) ?_
            exact r_i hx hb hr hlocks hP hS (⟨by rw [ho.is (by omega) ⟨of_decide_eq_true c_29, c_39⟩ hpv]; rfl, rfl⟩) d_C_document_43
  refine lv_aload_n hx hb d_C_document_0 rfl (lv_at hl 0 rfl) ?_
  refine lv_iload_n hx hb d_C_document_1 rfl (lv_at hl 1 rfl) ?_
  refine c_V (own := R_C) (index := 131) (As := [.int (nI (s9))]) (rest := []) hx hb hml hown hg hK NXc.same hN.warm (fun _ h => h) hP hS 0 (c_C_rqn l D cI cC cZ cT ad hI M n len ch hN7 (s9) (by omega)) (by decide) (ci := 7) rfl rfl k_401 k_403 k_p5 k_1 k_404 1 rfl (by decide +kernel) (by decide) rfl hl.1 (Nat.le_of_ble_eq_true rfl) d_C_document_2 (fun v M' H locs hq hP _ _ hS => ?_)
  obtain ⟨rfl, rfl⟩ := hq
  refine W.eq (g2 := F0 m 5 ls []) rfl ?_
  refine lv_aload_n hx hb d_C_document_5 rfl (lv_at hl 0 rfl) ?_
  refine lv_iload_n hx hb d_C_document_6 rfl (lv_at hl 2 rfl) ?_
  refine c_V (own := R_C) (index := 217) (As := [.int (nI (iN))]) (rest := []) hx hb hml hown hg hK NXc.same hN.warm (fun _ h => h) hP hS 0 (c_C_rqp l D cI cC cZ cT ad hI M (nI (iN)) (nI_pos (by omega))) (by decide) (ci := 7) rfl rfl k_565 k_567 k_p8 k_1 k_568 1 rfl (by decide +kernel) (by decide) rfl hl.1 (Nat.le_of_ble_eq_true rfl) d_C_document_7 (fun v M' H locs hq hP _ _ hS => ?_)
  obtain ⟨rfl, rfl⟩ := hq
  refine W.eq (g2 := F0 m 10 ls []) rfl ?_
  refine n_const (k := 0) hx hb d_C_document_10 (by decide) ?_
  refine lv_istore_n (lv' := [(3, .int (nI (0))), (0, .ref (ad (0))), (1, .int (nI (s9))), (2, .int (nI (iN)))]) hx hb d_C_document_11 rfl hl (by decide) rfl (fun ls hl => ?_)
  exact J12 (_ + 1) (0) _ _ ls (Nat.lt_succ_self _) (by omega) (fun q hq => absurd hq (Nat.not_lt_zero q)) hP hS (lv_sub hl [1, 2, 3, 0] rfl)

set_option maxHeartbeats 4000000 in
set_option maxRecDepth 100000 in
theorem x_C_unknown_1 (l : Launch) (D : va_G) (cI cC cZ cT : ClassId) (ad : Nat → Nat) (hI : GI 144 ad) (hlT : l.stackTraces = false) (M : PM) (x : Int32) (hneg : x < 0) : MX l D cI cC cZ cT ad y_C_unknown b_C_unknown 4 (some .int) 7 111 [.ref (ad (0)), .int (x)] M "java/lang/IndexOutOfBoundsException" (fun M' => M = M') := by
  refine MX.of (by decide) (Nat.le_of_ble_eq_true rfl) ?_
  intro p e s m below meth c ls hx hb hr hml hown hg hlocks hK hN hX hTb hP hS hl
  have hown : s.vm.findClass R_C = some m.cls := hown
  have hl : lv_has ls 4 [(0, .ref (ad (0))), (1, .int (x))] := hl
  refine lv_aload_n hx hb d_C_unknown_0 rfl (lv_at hl 0 rfl) ?_
  refine lv_iload_n hx hb d_C_unknown_1 rfl (lv_at hl 1 rfl) ?_
  exact x_V (own := R_C) (index := 217) (As := [.int (x)]) (rest := []) hx hb hml hown hg hK hN hX hTb hlocks hP hS 0 (x_C_rqp l D cI cC cZ cT ad hI hlT M (x) hneg) (by decide) (ci := 7) rfl rfl k_565 k_567 k_p8 k_1 k_568 1 rfl (by decide +kernel) (by decide) rfl hl.1 (Nat.le_of_ble_eq_true rfl) d_C_unknown_2 (fun _ h => h)

set_option maxHeartbeats 4000000 in
set_option maxRecDepth 100000 in
theorem c_C_unknown (l : Launch) (D : va_G) (cI cC cZ cT : ClassId) (ad : Nat → Nat) (hI : GI 144 ad) (M : PM) (n : Nat) (len : Nat → Nat) (ch : Nat → Nat → Nat) (hN7 : CN M n len ch) (sp bs : Nat → Option Nat) (hH : CSp M n sp bs) (hbsp : ∀ k, k < n → (bs k ≠ none ↔ isSp n sp k)) (spo : Nat → Option Nat) (hSp : ∀ k, k < n → Best (spC n len ch sp k) len n (spo k)) (rc : Nat) (rw_ : Nat → Nat) (hW7 : CW M n rc rw_) (us : Nat → Nat) (hU1 : CU M us) (ub : Nat → Bool) (hub : ∀ k, k < n → (ub k = true ↔ unkP us spo rc rw_ k)) (iN : Nat) (hiN : iN < 2 ^ 31) (o : Option Nat) (ho : Fst (fun k => ub k = true ∧ Cnt ub k = iN) n o) : MD l D cI cC cZ cT ad y_C_unknown b_C_unknown 4 (some .int) 4 91 [.ref (ad (0)), .int (nI (iN))] M (fun v M' => v = some (.int (oI o)) ∧ FX 142 M M') := by
  refine MC.of (by decide) (Nat.le_of_ble_eq_true rfl) ?_
  intro p e s m below meth c ls hx hb hr hml hown hg hlocks hK hN hP hS hl
  have hown : s.vm.findClass R_C = some m.cls := hown
  have hl : lv_has ls 4 [(0, .ref (ad (0))), (1, .int (nI (iN)))] := hl
  have hn60 := hN7.1
  have hnm := hN7.2.2.1
  have hspn := hH.2.2.1
  have hbsn := hH.2.2.2
  have hrc := hW7.1
  have hrw := hW7.2.2
  have hsl : ∀ k, k < n → ∀ q, spo k = some q → q < n := fun k hk => (hSp k hk).lt
  obtain ⟨tsb, htsb⟩ : ∃ tsb : Nat → Bool, ∀ q, q < 60 → (tsb q = true ↔ tsP spo rw_ rc q) := ⟨fun q => @decide _ (Classical.propDecidable (tsP spo rw_ rc q)), fun q _ => @decide_eq_true_iff _ (Classical.propDecidable _)⟩
  have J13 : ∀ (fu13 : Nat) (k : Nat) (M1 : PM) (H : Heap) (locs : List Loc) (ls : Array Slot), n - k < fu13 → (k ≤ n) → (∀ q, q < k → ¬ (ub q = true ∧ Cnt ub q = iN)) → (FX 142 M M1) → (TS M1 tsb) → va_P D clsA (gw 144 ad (cfC cI cC cZ cT ad) M1) H → va_S (GA 144 ad) s.heap H locs → lv_has ls 4 [(0, .ref (ad (0))), (1, .int (nI (iN))), (2, .int (nI (Cnt ub k))), (3, .int (nI (k)))] → W p l e (rm_ 4 91) s m ([.ref (ad (0)), .int (nI (iN))] : List Value).toArray below meth c H locs 0 0 (MQ below (GQ D 144 ad (cfC cI cC cZ cT ad) (fun v M' => v = some (.int (oI o)) ∧ FX 142 M M')) ([.ref (ad (0)), .int (nI (iN))] : List Value).toArray s 0 0 (GA 144 ad)) (F0 m 13 ls []) := by
    intro fu13
    induction fu13 with
    | zero => intro k M1 H locs ls hfu; exact absurd hfu (Nat.not_lt_zero _)
    | succ fu13 ih13 =>
      intro k M1 H locs ls hfu13 hk hpv hF hTS hP hS hl
      have hN71 := hN7.fx hF (by decide)
      have hH1 := hH.fx hF (by decide)
      have hW71 := hW7.fx hF (by decide)
      have hU11 := hU1.fx hF (by decide)
      have hck := Cnt_le ub k
      refine lv_iload_n hx hb d_C_unknown_13 rfl (lv_at hl 3 rfl) ?_
      refine lv_aload_n hx hb d_C_unknown_14 rfl (lv_at hl 0 rfl) ?_
      refine g_get (C := R_C) (T := T_C) (N := 15) (ci := 7) (v := .ref (ad (7))) hx hb hg i_C hown hK hP 0 (by decide) rfl rfl 3 (by decide) (hg _ k_131) rfl d_C_unknown_15 ?_
      refine c_V (own := R_C) (index := 233) (As := []) (rest := [.int (nI (k))]) hx hb hml hown hg hK NXc.same hN.warm (fun _ h => h) hP hS 7 (c_N_size l D cI cC cZ cT ad hI M1 n len ch hN71) (by decide) (ci := 0) rfl rfl k_616 k_462 k_463 k_3 k_464 0 rfl (by decide +kernel) (by decide) rfl hl.1 (Nat.le_of_ble_eq_true rfl) d_C_unknown_18 (fun v M' H locs hq hP _ _ hS => ?_)
      obtain ⟨rfl, rfl⟩ := hq
      refine W.eq (g2 := F0 m 21 ls [.int (nI (n)), .int (nI (k))]) rfl ?_
      refine n_ge (a := k) (b := n) (tgt := 48) hx hb d_C_unknown_21 (by decide) (by omega) (by omega) (fun c_21 => ?_) (fun c_21 => ?_)
      · refine lv_iconst (v := -1) hx hb d_C_unknown_48 (by decide) ?_
        exact r_i hx hb hr hlocks hP hS (⟨by rw [ho.no (fun j hj => hpv j (by omega))]; rfl, hF⟩) d_C_unknown_49
      · refine lv_aload_n hx hb d_C_unknown_24 rfl (lv_at hl 0 rfl) ?_
        refine lv_iload_n hx hb d_C_unknown_25 rfl (lv_at hl 3 rfl) ?_
        refine c_V (own := R_C) (index := 234) (As := [.int (nI (k))]) (rest := []) hx hb hml hown hg hK NXc.same hN.warm (fun _ h => h) hP hS 0 (c_C_isUnknown l D cI cC cZ cT ad hI M1 n len ch hN71 sp bs hH1 hbsp spo hSp rc rw_ hW71 tsb htsb hTS us hU11 (k) (by omega) (ub (k)) (hub _ (by omega))) (by decide) (ci := 7) rfl rfl k_617 k_619 k_p14 k_1 k_620 1 rfl (by decide +kernel) (by decide) rfl hl.1 (Nat.le_of_ble_eq_true rfl) d_C_unknown_26 (fun v M' H locs hq hP _ _ hS => ?_)
        obtain ⟨rfl, rfl⟩ := hq
        refine W.eq (g2 := F0 m 29 ls [.int (bI (ub (k)))]) rfl ?_
        refine z_eq (t := ub (k)) (tgt := 42) hx hb d_C_unknown_29 (by decide) (fun c_29 => ?_) (fun c_29 => ?_)
        · have hcq : Cnt ub (k + 1) = Cnt ub k := Cnt_f c_29
          have hpv9 := lt_S hpv (fun h => by rw [c_29] at h; cases h.1)
          rw [← hcq] at hl
          have hl : lv_has ls 4 [(0, .ref (ad (0))), (1, .int (nI (iN))), (2, .int (nI (Cnt ub (k + 1)))), (3, .int (nI (k)))] := hl
          refine n_inc (lv' := [(3, .int (nI (k + 1))), (0, .ref (ad (0))), (1, .int (nI (iN))), (2, .int (nI (Cnt ub (k + 1))))]) hx hb d_C_unknown_42 hl (k := 3) rfl (by decide) rfl (fun ls hl => ?_)
          refine lv_goto (tgt := 13) hx hb d_C_unknown_45 (by decide) ?_
          exact ih13 (k + 1) M1 _ _ ls (by omega) (by omega) (hpv9) (hF) (hTS) hP hS (lv_sub hl [1, 2, 3, 0] rfl)
        · refine lv_iload_n hx hb d_C_unknown_32 rfl (lv_at hl 2 rfl) ?_
          refine lv_iload_n hx hb d_C_unknown_33 rfl (lv_at hl 1 rfl) ?_
          refine n_ne (a := Cnt ub k) (b := iN) (tgt := 39) hx hb d_C_unknown_34 (by decide) (by omega) (by omega) (fun c_34 => ?_) (fun c_34 => ?_)
          · have hcq : Cnt ub (k + 1) = Cnt ub k + 1 := Cnt_t c_29
            have hpv9 := lt_S hpv (fun h => c_34 h.2)
            refine n_inc (lv' := [(2, .int (nI (Cnt ub k + 1))), (0, .ref (ad (0))), (1, .int (nI (iN))), (3, .int (nI (k)))]) hx hb d_C_unknown_39 hl (k := 2) rfl (by decide) rfl (fun ls hl => ?_)
            rw [← hcq] at hl
            have hl : lv_has ls 4 [(2, .int (nI (Cnt ub (k + 1)))), (0, .ref (ad (0))), (1, .int (nI (iN))), (3, .int (nI (k)))] := hl
            refine n_inc (lv' := [(3, .int (nI (k + 1))), (2, .int (nI (Cnt ub (k + 1)))), (0, .ref (ad (0))), (1, .int (nI (iN)))]) hx hb d_C_unknown_42 hl (k := 3) rfl (by decide) rfl (fun ls hl => ?_)
            refine lv_goto (tgt := 13) hx hb d_C_unknown_45 (by decide) ?_
            exact ih13 (k + 1) M1 _ _ ls (by omega) (by omega) (hpv9) (hF) (hTS) hP hS (lv_sub hl [2, 3, 1, 0] rfl)
          · refine lv_iload_n hx hb d_C_unknown_37 rfl (lv_at hl 3 rfl) ?_
            exact r_i hx hb hr hlocks hP hS (⟨by rw [ho.is (by omega) ⟨c_29, c_34⟩ hpv]; rfl, hF⟩) d_C_unknown_38
  refine lv_aload_n hx hb d_C_unknown_0 rfl (lv_at hl 0 rfl) ?_
  refine lv_iload_n hx hb d_C_unknown_1 rfl (lv_at hl 1 rfl) ?_
  refine c_V (own := R_C) (index := 217) (As := [.int (nI (iN))]) (rest := []) hx hb hml hown hg hK NXc.same hN.warm (fun _ h => h) hP hS 0 (c_C_rqp l D cI cC cZ cT ad hI M (nI (iN)) (nI_pos (by omega))) (by decide) (ci := 7) rfl rfl k_565 k_567 k_p8 k_1 k_568 1 rfl (by decide +kernel) (by decide) rfl hl.1 (Nat.le_of_ble_eq_true rfl) d_C_unknown_2 (fun v M' H locs hq hP _ _ hS => ?_)
  obtain ⟨rfl, rfl⟩ := hq
  refine W.eq (g2 := F0 m 5 ls []) rfl ?_
  refine lv_aload_n hx hb d_C_unknown_5 rfl (lv_at hl 0 rfl) ?_
  refine c_V (own := R_C) (index := 230) (As := []) (rest := []) hx hb hml hown hg hK NXc.same hN.warm (fun _ h => h) hP hS 0 (c_C_markTermSpaces l D cI cC cZ cT ad hI M n len ch hN7 sp bs hH hbsp spo hSp rc rw_ hW7 tsb htsb) (by decide) (ci := 7) rfl rfl k_612 k_614 k_p13 k_1 k_615 0 rfl (by decide +kernel) (by decide) rfl hl.1 (Nat.le_of_ble_eq_true rfl) d_C_unknown_6 (fun v M_1 H locs hq hP _ _ hS => ?_)
  obtain ⟨rfl, hTS, hFM_1⟩ := hq
  refine W.eq (g2 := F0 m 9 ls []) rfl ?_
  refine n_const (k := 0) hx hb d_C_unknown_9 (by decide) ?_
  refine lv_istore_n (lv' := [(2, .int (nI (0))), (0, .ref (ad (0))), (1, .int (nI (iN)))]) hx hb d_C_unknown_10 rfl hl (by decide) rfl (fun ls hl => ?_)
  refine n_const (k := 0) hx hb d_C_unknown_11 (by decide) ?_
  refine lv_istore_n (lv' := [(3, .int (nI (0))), (2, .int (nI (0))), (0, .ref (ad (0))), (1, .int (nI (iN)))]) hx hb d_C_unknown_12 rfl hl (by decide) rfl (fun ls hl => ?_)
  exact J13 (_ + 1) (0) M_1 _ _ ls (Nat.lt_succ_self _) (by omega) (fun q hq => absurd hq (Nat.not_lt_zero q)) (hFM_1) (hTS) hP hS (lv_sub hl [2, 3, 1, 0] rfl)

set_option maxHeartbeats 4000000 in
set_option maxRecDepth 100000 in
theorem x_C_apart_1a (l : Launch) (D : va_G) (cI cC cZ cT : ClassId) (ad : Nat → Nat) (hI : GI 144 ad) (hlT : l.stackTraces = false) (M : PM) (n : Nat) (len : Nat → Nat) (ch : Nat → Nat → Nat) (hN7 : CN M n len ch) (x y : Int32) (hbad : ¬ ∃ j, j < n ∧ x = nI j) : MX l D cI cC cZ cT ad y_C_apart b_C_apart 3 (some .int) 7 111 [.ref (ad (0)), .int (x), .int (y)] M "java/lang/IndexOutOfBoundsException" (fun M' => M = M') := by
  refine MX.of (by decide) (Nat.le_of_ble_eq_true rfl) ?_
  intro p e s m below meth c ls hx hb hr hml hown hg hlocks hK hN hX hTb hP hS hl
  have hown : s.vm.findClass R_C = some m.cls := hown
  have hl : lv_has ls 3 [(0, .ref (ad (0))), (1, .int (x)), (2, .int (y))] := hl
  refine lv_aload_n hx hb d_C_apart_0 rfl (lv_at hl 0 rfl) ?_
  refine lv_iload_n hx hb d_C_apart_1 rfl (lv_at hl 1 rfl) ?_
  exact x_V (own := R_C) (index := 131) (As := [.int (x)]) (rest := []) hx hb hml hown hg hK hN hX hTb hlocks hP hS 0 (x_C_rqn l D cI cC cZ cT ad hI hlT M n len ch hN7 (x) hbad) (by decide) (ci := 7) rfl rfl k_401 k_403 k_p5 k_1 k_404 1 rfl (by decide +kernel) (by decide) rfl hl.1 (Nat.le_of_ble_eq_true rfl) d_C_apart_2 (fun _ h => h)

set_option maxHeartbeats 4000000 in
set_option maxRecDepth 100000 in
theorem x_C_apart_1b (l : Launch) (D : va_G) (cI cC cZ cT : ClassId) (ad : Nat → Nat) (hI : GI 144 ad) (hlT : l.stackTraces = false) (M : PM) (n : Nat) (len : Nat → Nat) (ch : Nat → Nat → Nat) (hN7 : CN M n len ch) (a : Nat) (ha : a < n) (x : Int32) (hbad : ¬ ∃ j, j < n ∧ x = nI j) : MX l D cI cC cZ cT ad y_C_apart b_C_apart 3 (some .int) 7 111 [.ref (ad (0)), .int (nI (a)), .int (x)] M "java/lang/IndexOutOfBoundsException" (fun M' => M = M') := by
  refine MX.of (by decide) (Nat.le_of_ble_eq_true rfl) ?_
  intro p e s m below meth c ls hx hb hr hml hown hg hlocks hK hN hX hTb hP hS hl
  have hown : s.vm.findClass R_C = some m.cls := hown
  have hl : lv_has ls 3 [(0, .ref (ad (0))), (1, .int (nI (a))), (2, .int (x))] := hl
  have hn60 := hN7.1
  have hnm := hN7.2.2.1
  refine lv_aload_n hx hb d_C_apart_0 rfl (lv_at hl 0 rfl) ?_
  refine lv_iload_n hx hb d_C_apart_1 rfl (lv_at hl 1 rfl) ?_
  refine c_V (own := R_C) (index := 131) (As := [.int (nI (a))]) (rest := []) hx hb hml hown hg hK NXc.same hN.warm (fun _ h => h) hP hS 0 (c_C_rqn l D cI cC cZ cT ad hI M n len ch hN7 (a) (by omega)) (by decide) (ci := 7) rfl rfl k_401 k_403 k_p5 k_1 k_404 1 rfl (by decide +kernel) (by decide) rfl hl.1 (Nat.le_of_ble_eq_true rfl) d_C_apart_2 (fun v M' H locs hq hP _ _ hS => ?_)
  obtain ⟨rfl, rfl⟩ := hq
  refine W.eq (g2 := F0 m 5 ls []) rfl ?_
  refine lv_aload_n hx hb d_C_apart_5 rfl (lv_at hl 0 rfl) ?_
  refine lv_iload_n hx hb d_C_apart_6 rfl (lv_at hl 2 rfl) ?_
  exact x_V (own := R_C) (index := 131) (As := [.int (x)]) (rest := []) hx hb hml hown hg hK hN hX hTb hlocks hP hS 0 (x_C_rqn l D cI cC cZ cT ad hI hlT M n len ch hN7 (x) hbad) (by decide) (ci := 7) rfl rfl k_401 k_403 k_p5 k_1 k_404 1 rfl (by decide +kernel) (by decide) rfl hl.1 (Nat.le_of_ble_eq_true rfl) d_C_apart_7 (fun _ h => h)

set_option maxHeartbeats 4000000 in
set_option maxRecDepth 100000 in
theorem c_C_apart (l : Launch) (D : va_G) (cI cC cZ cT : ClassId) (ad : Nat → Nat) (hI : GI 144 ad) (M : PM) (n : Nat) (len : Nat → Nat) (ch : Nat → Nat → Nat) (hN7 : CN M n len ch) (a b9 : Nat) (ha : a < n) (hb9 : b9 < n) : MD l D cI cC cZ cT ad y_C_apart b_C_apart 3 (some .int) 2 48 [.ref (ad (0)), .int (nI (a)), .int (nI (b9))] M (fun v M' => v = some (.int (nI (Ed (eqC2 (ch a) (ch b9)) (len a) (len b9)))) ∧ F140 M M') := by
  refine MC.of (by decide) (Nat.le_of_ble_eq_true rfl) ?_
  intro p e s m below meth c ls hx hb hr hml hown hg hlocks hK hN hP hS hl
  have hown : s.vm.findClass R_C = some m.cls := hown
  have hl : lv_has ls 3 [(0, .ref (ad (0))), (1, .int (nI (a))), (2, .int (nI (b9)))] := hl
  have hn60 := hN7.1
  have hnm := hN7.2.2.1
  refine lv_aload_n hx hb d_C_apart_0 rfl (lv_at hl 0 rfl) ?_
  refine lv_iload_n hx hb d_C_apart_1 rfl (lv_at hl 1 rfl) ?_
  refine c_V (own := R_C) (index := 131) (As := [.int (nI (a))]) (rest := []) hx hb hml hown hg hK NXc.same hN.warm (fun _ h => h) hP hS 0 (c_C_rqn l D cI cC cZ cT ad hI M n len ch hN7 (a) (by omega)) (by decide) (ci := 7) rfl rfl k_401 k_403 k_p5 k_1 k_404 1 rfl (by decide +kernel) (by decide) rfl hl.1 (Nat.le_of_ble_eq_true rfl) d_C_apart_2 (fun v M' H locs hq hP _ _ hS => ?_)
  obtain ⟨rfl, rfl⟩ := hq
  refine W.eq (g2 := F0 m 5 ls []) rfl ?_
  refine lv_aload_n hx hb d_C_apart_5 rfl (lv_at hl 0 rfl) ?_
  refine lv_iload_n hx hb d_C_apart_6 rfl (lv_at hl 2 rfl) ?_
  refine c_V (own := R_C) (index := 131) (As := [.int (nI (b9))]) (rest := []) hx hb hml hown hg hK NXc.same hN.warm (fun _ h => h) hP hS 0 (c_C_rqn l D cI cC cZ cT ad hI M n len ch hN7 (b9) (by omega)) (by decide) (ci := 7) rfl rfl k_401 k_403 k_p5 k_1 k_404 1 rfl (by decide +kernel) (by decide) rfl hl.1 (Nat.le_of_ble_eq_true rfl) d_C_apart_7 (fun v M' H locs hq hP _ _ hS => ?_)
  obtain ⟨rfl, rfl⟩ := hq
  refine W.eq (g2 := F0 m 10 ls []) rfl ?_
  refine lv_aload_n hx hb d_C_apart_10 rfl (lv_at hl 0 rfl) ?_
  refine g_get (C := R_C) (T := T_C) (N := 15) (ci := 7) (v := .ref (ad (139))) hx hb hg i_C hown hK hP 0 (by decide) rfl rfl 8 (by decide) (hg _ k_136) rfl d_C_apart_11 ?_
  refine lv_aload_n hx hb d_C_apart_14 rfl (lv_at hl 0 rfl) ?_
  refine g_get (C := R_C) (T := T_C) (N := 15) (ci := 7) (v := .ref (ad (7))) hx hb hg i_C hown hK hP 0 (by decide) rfl rfl 3 (by decide) (hg _ k_131) rfl d_C_apart_15 ?_
  refine lv_iload_n hx hb d_C_apart_18 rfl (lv_at hl 1 rfl) ?_
  refine c_V (own := R_C) (index := 134) (As := [.int (nI (a))]) (rest := [.ref (ad (139))]) hx hb hml hown hg hK NXc.same hN.warm (fun _ h => h) hP hS 7 (c_N_text l D cI cC cZ cT ad hI M (a) (by omega)) (by decide) (ci := 0) rfl rfl k_387 k_388 k_389 k_3 k_390 1 rfl (by decide +kernel) (by decide) rfl hl.1 (Nat.le_of_ble_eq_true rfl) d_C_apart_19 (fun v M' H locs hq hP _ _ hS => ?_)
  obtain ⟨rfl, rfl⟩ := hq
  refine W.eq (g2 := F0 m 22 ls [.ref (ad (9 + 2 * (a))), .ref (ad (139))]) rfl ?_
  refine lv_aload_n hx hb d_C_apart_22 rfl (lv_at hl 0 rfl) ?_
  refine g_get (C := R_C) (T := T_C) (N := 15) (ci := 7) (v := .ref (ad (7))) hx hb hg i_C hown hK hP 0 (by decide) rfl rfl 3 (by decide) (hg _ k_131) rfl d_C_apart_23 ?_
  refine lv_iload_n hx hb d_C_apart_26 rfl (lv_at hl 2 rfl) ?_
  refine c_V (own := R_C) (index := 134) (As := [.int (nI (b9))]) (rest := [.ref (ad (9 + 2 * (a))), .ref (ad (139))]) hx hb hml hown hg hK NXc.same hN.warm (fun _ h => h) hP hS 7 (c_N_text l D cI cC cZ cT ad hI M (b9) (by omega)) (by decide) (ci := 0) rfl rfl k_387 k_388 k_389 k_3 k_390 1 rfl (by decide +kernel) (by decide) rfl hl.1 (Nat.le_of_ble_eq_true rfl) d_C_apart_27 (fun v M' H locs hq hP _ _ hS => ?_)
  obtain ⟨rfl, rfl⟩ := hq
  refine W.eq (g2 := F0 m 30 ls [.ref (ad (9 + 2 * (b9))), .ref (ad (9 + 2 * (a))), .ref (ad (139))]) rfl ?_
  refine c_V (own := R_C) (index := 237) (As := [.ref (ad (9 + 2 * (a))), .ref (ad (9 + 2 * (b9)))]) (rest := []) hx hb hml hown hg hK NXc.same hN.warm (fun _ h => h) hP hS 139 (c_E_between l D cI cC cZ cT ad hI M (9 + 2 * b9) (txn (by omega)) (len b9) (ch b9) (hnm b9 hb9).2.2.2 (9 + 2 * a) (txn (by omega)) (len a) (ch a) (hnm a ha).2.2.2 (hnm b9 hb9).2.1 (hnm a ha).2.1) (by decide) (ci := 5) rfl rfl k_628 k_629 k_630 k_8 k_631 2 rfl (by decide +kernel) (by decide) rfl hl.1 (Nat.le_of_ble_eq_true rfl) d_C_apart_30 (fun v M_1 H locs hq hP _ _ hS => ?_)
  obtain ⟨rfl, h140⟩ := hq
  refine W.eq (g2 := F0 m 33 ls [.int (nI (Ed (eqC2 (ch a) (ch b9)) (len a) (len b9)))]) rfl ?_
  exact r_i hx hb hr hlocks hP hS (⟨rfl, h140⟩) d_C_apart_33

set_option maxHeartbeats 4000000 in
set_option maxRecDepth 100000 in
theorem x_C_near_1a (l : Launch) (D : va_G) (cI cC cZ cT : ClassId) (ad : Nat → Nat) (hI : GI 144 ad) (hlT : l.stackTraces = false) (M : PM) (n : Nat) (len : Nat → Nat) (ch : Nat → Nat → Nat) (hN7 : CN M n len ch) (x y : Int32) (hbad : ¬ ∃ j, j < n ∧ x = nI j) : MX l D cI cC cZ cT ad y_C_near b_C_near 4 (some .int) 7 111 [.ref (ad (0)), .int (x), .int (y)] M "java/lang/IndexOutOfBoundsException" (fun M' => M = M') := by
  refine MX.of (by decide) (Nat.le_of_ble_eq_true rfl) ?_
  intro p e s m below meth c ls hx hb hr hml hown hg hlocks hK hN hX hTb hP hS hl
  have hown : s.vm.findClass R_C = some m.cls := hown
  have hl : lv_has ls 4 [(0, .ref (ad (0))), (1, .int (x)), (2, .int (y))] := hl
  refine lv_aload_n hx hb d_C_near_0 rfl (lv_at hl 0 rfl) ?_
  refine lv_iload_n hx hb d_C_near_1 rfl (lv_at hl 1 rfl) ?_
  exact x_V (own := R_C) (index := 131) (As := [.int (x)]) (rest := []) hx hb hml hown hg hK hN hX hTb hlocks hP hS 0 (x_C_rqn l D cI cC cZ cT ad hI hlT M n len ch hN7 (x) hbad) (by decide) (ci := 7) rfl rfl k_401 k_403 k_p5 k_1 k_404 1 rfl (by decide +kernel) (by decide) rfl hl.1 (Nat.le_of_ble_eq_true rfl) d_C_near_2 (fun _ h => h)

set_option maxHeartbeats 4000000 in
set_option maxRecDepth 100000 in
theorem x_C_near_1b (l : Launch) (D : va_G) (cI cC cZ cT : ClassId) (ad : Nat → Nat) (hI : GI 144 ad) (hlT : l.stackTraces = false) (M : PM) (n : Nat) (len : Nat → Nat) (ch : Nat → Nat → Nat) (hN7 : CN M n len ch) (a : Nat) (ha : a < n) (x : Int32) (hneg : x < 0) : MX l D cI cC cZ cT ad y_C_near b_C_near 4 (some .int) 7 111 [.ref (ad (0)), .int (nI (a)), .int (x)] M "java/lang/IndexOutOfBoundsException" (fun M' => M = M') := by
  refine MX.of (by decide) (Nat.le_of_ble_eq_true rfl) ?_
  intro p e s m below meth c ls hx hb hr hml hown hg hlocks hK hN hX hTb hP hS hl
  have hown : s.vm.findClass R_C = some m.cls := hown
  have hl : lv_has ls 4 [(0, .ref (ad (0))), (1, .int (nI (a))), (2, .int (x))] := hl
  have hn60 := hN7.1
  have hnm := hN7.2.2.1
  refine lv_aload_n hx hb d_C_near_0 rfl (lv_at hl 0 rfl) ?_
  refine lv_iload_n hx hb d_C_near_1 rfl (lv_at hl 1 rfl) ?_
  refine c_V (own := R_C) (index := 131) (As := [.int (nI (a))]) (rest := []) hx hb hml hown hg hK NXc.same hN.warm (fun _ h => h) hP hS 0 (c_C_rqn l D cI cC cZ cT ad hI M n len ch hN7 (a) (by omega)) (by decide) (ci := 7) rfl rfl k_401 k_403 k_p5 k_1 k_404 1 rfl (by decide +kernel) (by decide) rfl hl.1 (Nat.le_of_ble_eq_true rfl) d_C_near_2 (fun v M' H locs hq hP _ _ hS => ?_)
  obtain ⟨rfl, rfl⟩ := hq
  refine W.eq (g2 := F0 m 5 ls []) rfl ?_
  refine lv_aload_n hx hb d_C_near_5 rfl (lv_at hl 0 rfl) ?_
  refine lv_iload_n hx hb d_C_near_6 rfl (lv_at hl 2 rfl) ?_
  exact x_V (own := R_C) (index := 217) (As := [.int (x)]) (rest := []) hx hb hml hown hg hK hN hX hTb hlocks hP hS 0 (x_C_rqp l D cI cC cZ cT ad hI hlT M (x) hneg) (by decide) (ci := 7) rfl rfl k_565 k_567 k_p8 k_1 k_568 1 rfl (by decide +kernel) (by decide) rfl hl.1 (Nat.le_of_ble_eq_true rfl) d_C_near_7 (fun _ h => h)

set_option maxHeartbeats 4000000 in
set_option maxRecDepth 100000 in
theorem c_C_near (l : Launch) (D : va_G) (cI cC cZ cT : ClassId) (ad : Nat → Nat) (hI : GI 144 ad) (M : PM) (n : Nat) (len : Nat → Nat) (ch : Nat → Nat → Nat) (hN7 : CN M n len ch) (rc : Nat) (rw_ : Nat → Nat) (hW7 : CW M n rc rw_) (a : Nat) (ha : a < n) (iN : Nat) (hiN : iN < 2 ^ 31) (o : Option Nat) (ho : Fst (fun k => NB (fun q => Ed (eqC2 (ch a) (ch (rw_ (3 * q)))) (len a) (len (rw_ (3 * q)))) rc k = iN) rc o) : MD l D cI cC cZ cT ad y_C_near b_C_near 4 (some .int) 3 71 [.ref (ad (0)), .int (nI (a)), .int (nI (iN))] M (fun v M' => v = some (.int (oI o)) ∧ FM M M') := by
  refine MC.of (by decide) (Nat.le_of_ble_eq_true rfl) ?_
  intro p e s m below meth c ls hx hb hr hml hown hg hlocks hK hN hP hS hl
  have hown : s.vm.findClass R_C = some m.cls := hown
  have hl : lv_has ls 4 [(0, .ref (ad (0))), (1, .int (nI (a))), (2, .int (nI (iN)))] := hl
  have hn60 := hN7.1
  have hnm := hN7.2.2.1
  have hrc := hW7.1
  have J17 : ∀ (fu17 : Nat) (k : Nat) (M1 : PM) (H : Heap) (locs : List Loc) (ls : Array Slot), rc - k < fu17 → (k ≤ rc) → (∀ q, q < k → ¬ NB (fun q => Ed (eqC2 (ch a) (ch (rw_ (3 * q)))) (len a) (len (rw_ (3 * q)))) rc q = iN) → (FM M M1) → (DM M1 rc (fun q => Ed (eqC2 (ch a) (ch (rw_ (3 * q)))) (len a) (len (rw_ (3 * q))))) → va_P D clsA (gw 144 ad (cfC cI cC cZ cT ad) M1) H → va_S (GA 144 ad) s.heap H locs → lv_has ls 4 [(0, .ref (ad (0))), (2, .int (nI (iN))), (3, .int (nI (k)))] → W p l e (rm_ 3 71) s m ([.ref (ad (0)), .int (nI (a)), .int (nI (iN))] : List Value).toArray below meth c H locs 0 0 (MQ below (GQ D 144 ad (cfC cI cC cZ cT ad) (fun v M' => v = some (.int (oI o)) ∧ FM M M')) ([.ref (ad (0)), .int (nI (a)), .int (nI (iN))] : List Value).toArray s 0 0 (GA 144 ad)) (F0 m 17 ls []) := by
    intro fu17
    induction fu17 with
    | zero => intro k M1 H locs ls hfu; exact absurd hfu (Nat.not_lt_zero _)
    | succ fu17 ih17 =>
      intro k M1 H locs ls hfu17 hk hpv hF hD hP hS hl
      have hW71 := hW7.fm hF
      refine lv_iload_n hx hb d_C_near_17 rfl (lv_at hl 2 rfl) ?_
      refine lv_aload_n hx hb d_C_near_18 rfl (lv_at hl 0 rfl) ?_
      refine g_get (C := R_C) (T := T_C) (N := 15) (ci := 7) (v := .ref (ad (132))) hx hb hg i_C hown hK hP 0 (by decide) rfl rfl 5 (by decide) (hg _ k_133) rfl d_C_near_19 ?_
      refine c_V (own := R_C) (index := 220) (As := []) (rest := [.int (nI (k))]) hx hb hml hown hg hK NXc.same hN.warm (fun _ h => h) hP hS 132 (c_W_size l D cI cC cZ cT ad hI M1 n rc hn60 rw_ hW71) (by decide) (ci := 2) rfl rfl k_570 k_571 k_572 k_5 k_573 0 rfl (by decide +kernel) (by decide) rfl hl.1 (Nat.le_of_ble_eq_true rfl) d_C_near_22 (fun v M' H locs hq hP _ _ hS => ?_)
      obtain ⟨rfl, rfl⟩ := hq
      refine W.eq (g2 := F0 m 25 ls [.int (nI (rc)), .int (nI (k))]) rfl ?_
      refine n_ge (a := k) (b := rc) (tgt := 45) hx hb d_C_near_25 (by decide) (by omega) (by omega) (fun c_25 => ?_) (fun c_25 => ?_)
      · refine lv_iconst (v := -1) hx hb d_C_near_45 (by decide) ?_
        exact r_i hx hb hr hlocks hP hS (⟨by rw [ho.no (fun j hj => hpv j (by omega))]; rfl, hF⟩) d_C_near_46
      · refine lv_aload_n hx hb d_C_near_28 rfl (lv_at hl 0 rfl) ?_
        refine lv_iload_n hx hb d_C_near_29 rfl (lv_at hl 2 rfl) ?_
        refine c_V (own := R_C) (index := 244) (As := [.int (nI (k))]) (rest := []) hx hb hml hown hg hK NXc.same hN.warm (fun _ h => h) hP hS 0 (c_C_rowsNearer l D cI cC cZ cT ad hI M1 n hn60 rc rw_ hW71 (fun q => Ed (eqC2 (ch a) (ch (rw_ (3 * q)))) (len a) (len (rw_ (3 * q)))) hD (k) (by omega)) (by decide) (ci := 7) rfl rfl k_646 k_648 k_p16 k_1 k_649 1 rfl (by decide +kernel) (by decide) rfl hl.1 (Nat.le_of_ble_eq_true rfl) d_C_near_30 (fun v M' H locs hq hP _ _ hS => ?_)
        obtain ⟨rfl, rfl⟩ := hq
        refine W.eq (g2 := F0 m 33 ls [.int (nI (NB (fun q => Ed (eqC2 (ch a) (ch (rw_ (3 * q)))) (len a) (len (rw_ (3 * q)))) rc (k)))]) rfl ?_
        refine lv_iload_n hx hb d_C_near_33 rfl (lv_at hl 1 rfl) ?_
        refine n_ne (a := NB (fun q => Ed (eqC2 (ch a) (ch (rw_ (3 * q)))) (len a) (len (rw_ (3 * q)))) rc (k)) (b := iN) (tgt := 39) hx hb d_C_near_34 (by decide) (by have := Cnt_le (bfN (fun q => Ed (eqC2 (ch a) (ch (rw_ (3 * q)))) (len a) (len (rw_ (3 * q)))) ((fun q => Ed (eqC2 (ch a) (ch (rw_ (3 * q)))) (len a) (len (rw_ (3 * q)))) k) k) rc; unfold NB; omega) (by omega) (fun c_34 => ?_) (fun c_34 => ?_)
        · refine n_inc (lv' := [(3, .int (nI (k + 1))), (0, .ref (ad (0))), (2, .int (nI (iN)))]) hx hb d_C_near_39 hl (k := 2) rfl (by decide) rfl (fun ls hl => ?_)
          refine lv_goto (tgt := 17) hx hb d_C_near_42 (by decide) ?_
          exact ih17 (k + 1) M1 _ _ ls (by omega) (by omega) (lt_S hpv c_34) (hF) (hD) hP hS (lv_sub hl [1, 2, 0] rfl)
        · refine lv_iload_n hx hb d_C_near_37 rfl (lv_at hl 2 rfl) ?_
          exact r_i hx hb hr hlocks hP hS (⟨by rw [ho.is (by omega) c_34 hpv]; rfl, hF⟩) d_C_near_38
  refine lv_aload_n hx hb d_C_near_0 rfl (lv_at hl 0 rfl) ?_
  refine lv_iload_n hx hb d_C_near_1 rfl (lv_at hl 1 rfl) ?_
  refine c_V (own := R_C) (index := 131) (As := [.int (nI (a))]) (rest := []) hx hb hml hown hg hK NXc.same hN.warm (fun _ h => h) hP hS 0 (c_C_rqn l D cI cC cZ cT ad hI M n len ch hN7 (a) (by omega)) (by decide) (ci := 7) rfl rfl k_401 k_403 k_p5 k_1 k_404 1 rfl (by decide +kernel) (by decide) rfl hl.1 (Nat.le_of_ble_eq_true rfl) d_C_near_2 (fun v M' H locs hq hP _ _ hS => ?_)
  obtain ⟨rfl, rfl⟩ := hq
  refine W.eq (g2 := F0 m 5 ls []) rfl ?_
  refine lv_aload_n hx hb d_C_near_5 rfl (lv_at hl 0 rfl) ?_
  refine lv_iload_n hx hb d_C_near_6 rfl (lv_at hl 2 rfl) ?_
  refine c_V (own := R_C) (index := 217) (As := [.int (nI (iN))]) (rest := []) hx hb hml hown hg hK NXc.same hN.warm (fun _ h => h) hP hS 0 (c_C_rqp l D cI cC cZ cT ad hI M (nI (iN)) (nI_pos (by omega))) (by decide) (ci := 7) rfl rfl k_565 k_567 k_p8 k_1 k_568 1 rfl (by decide +kernel) (by decide) rfl hl.1 (Nat.le_of_ble_eq_true rfl) d_C_near_7 (fun v M' H locs hq hP _ _ hS => ?_)
  obtain ⟨rfl, rfl⟩ := hq
  refine W.eq (g2 := F0 m 10 ls []) rfl ?_
  refine lv_aload_n hx hb d_C_near_10 rfl (lv_at hl 0 rfl) ?_
  refine lv_iload_n hx hb d_C_near_11 rfl (lv_at hl 1 rfl) ?_
  refine c_V (own := R_C) (index := 241) (As := [.int (nI (a))]) (rest := []) hx hb hml hown hg hK NXc.same hN.warm (fun _ h => h) hP hS 0 (c_C_measureTerms l D cI cC cZ cT ad hI M n len ch hN7 rc rw_ hW7 a ha) (by decide) (ci := 7) rfl rfl k_642 k_644 k_p15 k_1 k_645 1 rfl (by decide +kernel) (by decide) rfl hl.1 (Nat.le_of_ble_eq_true rfl) d_C_near_12 (fun v M_1 H locs hq hP _ _ hS => ?_)
  obtain ⟨rfl, hF, hD⟩ := hq
  refine W.eq (g2 := F0 m 15 ls []) rfl ?_
  refine n_const (k := 0) hx hb d_C_near_15 (by decide) ?_
  refine lv_istore_n (lv' := [(3, .int (nI (0))), (0, .ref (ad (0))), (1, .int (nI (a))), (2, .int (nI (iN)))]) hx hb d_C_near_16 rfl hl (by decide) rfl (fun ls hl => ?_)
  exact J17 (_ + 1) (0) M_1 _ _ ls (Nat.lt_succ_self _) (by omega) (fun q hq => absurd hq (Nat.not_lt_zero q)) (hF) (hD) hP hS (lv_sub hl [1, 3, 0] rfl)

set_option maxHeartbeats 4000000 in
set_option maxRecDepth 100000 in
theorem x_C_alias_1a (l : Launch) (D : va_G) (cI cC cZ cT : ClassId) (ad : Nat → Nat) (hI : GI 144 ad) (hlT : l.stackTraces = false) (M : PM) (n : Nat) (len : Nat → Nat) (ch : Nat → Nat → Nat) (hN7 : CN M n len ch) (x y : Int32) (hbad : ¬ ∃ j, j < n ∧ x = nI j) : MX l D cI cC cZ cT ad y_C_alias b_C_alias 3 (some .boolean) 7 111 [.ref (ad (0)), .int (x), .int (y)] M "java/lang/IndexOutOfBoundsException" (fun M' => M = M') := by
  refine MX.of (by decide) (Nat.le_of_ble_eq_true rfl) ?_
  intro p e s m below meth c ls hx hb hr hml hown hg hlocks hK hN hX hTb hP hS hl
  have hown : s.vm.findClass R_C = some m.cls := hown
  have hl : lv_has ls 3 [(0, .ref (ad (0))), (1, .int (x)), (2, .int (y))] := hl
  refine lv_aload_n hx hb d_C_alias_0 rfl (lv_at hl 0 rfl) ?_
  refine lv_iload_n hx hb d_C_alias_1 rfl (lv_at hl 1 rfl) ?_
  exact x_V (own := R_C) (index := 131) (As := [.int (x)]) (rest := []) hx hb hml hown hg hK hN hX hTb hlocks hP hS 0 (x_C_rqn l D cI cC cZ cT ad hI hlT M n len ch hN7 (x) hbad) (by decide) (ci := 7) rfl rfl k_401 k_403 k_p5 k_1 k_404 1 rfl (by decide +kernel) (by decide) rfl hl.1 (Nat.le_of_ble_eq_true rfl) d_C_alias_2 (fun _ h => h)

set_option maxHeartbeats 4000000 in
set_option maxRecDepth 100000 in
theorem x_C_alias_1b (l : Launch) (D : va_G) (cI cC cZ cT : ClassId) (ad : Nat → Nat) (hI : GI 144 ad) (hlT : l.stackTraces = false) (M : PM) (n : Nat) (len : Nat → Nat) (ch : Nat → Nat → Nat) (hN7 : CN M n len ch) (a : Nat) (ha : a < n) (x : Int32) (hbad : ¬ ∃ j, j < n ∧ x = nI j) : MX l D cI cC cZ cT ad y_C_alias b_C_alias 3 (some .boolean) 7 111 [.ref (ad (0)), .int (nI (a)), .int (x)] M "java/lang/IndexOutOfBoundsException" (fun M' => M = M') := by
  refine MX.of (by decide) (Nat.le_of_ble_eq_true rfl) ?_
  intro p e s m below meth c ls hx hb hr hml hown hg hlocks hK hN hX hTb hP hS hl
  have hown : s.vm.findClass R_C = some m.cls := hown
  have hl : lv_has ls 3 [(0, .ref (ad (0))), (1, .int (nI (a))), (2, .int (x))] := hl
  have hn60 := hN7.1
  have hnm := hN7.2.2.1
  refine lv_aload_n hx hb d_C_alias_0 rfl (lv_at hl 0 rfl) ?_
  refine lv_iload_n hx hb d_C_alias_1 rfl (lv_at hl 1 rfl) ?_
  refine c_V (own := R_C) (index := 131) (As := [.int (nI (a))]) (rest := []) hx hb hml hown hg hK NXc.same hN.warm (fun _ h => h) hP hS 0 (c_C_rqn l D cI cC cZ cT ad hI M n len ch hN7 (a) (by omega)) (by decide) (ci := 7) rfl rfl k_401 k_403 k_p5 k_1 k_404 1 rfl (by decide +kernel) (by decide) rfl hl.1 (Nat.le_of_ble_eq_true rfl) d_C_alias_2 (fun v M' H locs hq hP _ _ hS => ?_)
  obtain ⟨rfl, rfl⟩ := hq
  refine W.eq (g2 := F0 m 5 ls []) rfl ?_
  refine lv_aload_n hx hb d_C_alias_5 rfl (lv_at hl 0 rfl) ?_
  refine lv_iload_n hx hb d_C_alias_6 rfl (lv_at hl 2 rfl) ?_
  exact x_V (own := R_C) (index := 131) (As := [.int (x)]) (rest := []) hx hb hml hown hg hK hN hX hTb hlocks hP hS 0 (x_C_rqn l D cI cC cZ cT ad hI hlT M n len ch hN7 (x) hbad) (by decide) (ci := 7) rfl rfl k_401 k_403 k_p5 k_1 k_404 1 rfl (by decide +kernel) (by decide) rfl hl.1 (Nat.le_of_ble_eq_true rfl) d_C_alias_7 (fun _ h => h)

set_option maxHeartbeats 4000000 in
set_option maxRecDepth 100000 in
theorem c_C_alias_c (l : Launch) (D : va_G) (cI cC cZ cT : ClassId) (ad : Nat → Nat) (hI : GI 144 ad) (M : PM) (n : Nat) (len : Nat → Nat) (ch : Nat → Nat → Nat) (hN7 : CN M n len ch) (st : Nat → Option Nat) (hS6 : CSt M n st) (rk : Nat → Nat) (hRk : Rk n st rk) (hr60 : ∀ k, k < n → rk k < 60) (a b9 : Nat) (ha : a < n) (hb9 : b9 < n) (hL : a = b9 ∨ Lds st (st b9) a) : MD l D cI cC cZ cT ad y_C_alias b_C_alias 3 (some .boolean) 2 42 [.ref (ad (0)), .int (nI (a)), .int (nI (b9))] M (fun v M' => v = some (.int (bI false)) ∧ M' = pu (pu (pu M 0 12 (nI 3)) 0 13 (nI a)) 0 14 (nI b9)) := by
  refine MC.of (by decide) (Nat.le_of_ble_eq_true rfl) ?_
  intro p e s m below meth c ls hx hb hr hml hown hg hlocks hK hN hP hS hl
  have hown : s.vm.findClass R_C = some m.cls := hown
  have hl : lv_has ls 3 [(0, .ref (ad (0))), (1, .int (nI (a))), (2, .int (nI (b9)))] := hl
  have hn60 := hN7.1
  have hnm := hN7.2.2.1
  obtain ⟨t1, ht1⟩ := bex (Lds st (st b9) a)
  refine lv_aload_n hx hb d_C_alias_0 rfl (lv_at hl 0 rfl) ?_
  refine lv_iload_n hx hb d_C_alias_1 rfl (lv_at hl 1 rfl) ?_
  refine c_V (own := R_C) (index := 131) (As := [.int (nI (a))]) (rest := []) hx hb hml hown hg hK NXc.same hN.warm (fun _ h => h) hP hS 0 (c_C_rqn l D cI cC cZ cT ad hI M n len ch hN7 (a) (by omega)) (by decide) (ci := 7) rfl rfl k_401 k_403 k_p5 k_1 k_404 1 rfl (by decide +kernel) (by decide) rfl hl.1 (Nat.le_of_ble_eq_true rfl) d_C_alias_2 (fun v M' H locs hq hP _ _ hS => ?_)
  obtain ⟨rfl, rfl⟩ := hq
  refine W.eq (g2 := F0 m 5 ls []) rfl ?_
  refine lv_aload_n hx hb d_C_alias_5 rfl (lv_at hl 0 rfl) ?_
  refine lv_iload_n hx hb d_C_alias_6 rfl (lv_at hl 2 rfl) ?_
  refine c_V (own := R_C) (index := 131) (As := [.int (nI (b9))]) (rest := []) hx hb hml hown hg hK NXc.same hN.warm (fun _ h => h) hP hS 0 (c_C_rqn l D cI cC cZ cT ad hI M n len ch hN7 (b9) (by omega)) (by decide) (ci := 7) rfl rfl k_401 k_403 k_p5 k_1 k_404 1 rfl (by decide +kernel) (by decide) rfl hl.1 (Nat.le_of_ble_eq_true rfl) d_C_alias_7 (fun v M' H locs hq hP _ _ hS => ?_)
  obtain ⟨rfl, rfl⟩ := hq
  refine W.eq (g2 := F0 m 10 ls []) rfl ?_
  refine lv_iload_n hx hb d_C_alias_10 rfl (lv_at hl 1 rfl) ?_
  refine lv_iload_n hx hb d_C_alias_11 rfl (lv_at hl 2 rfl) ?_
  refine n_eq (a := a) (b := b9) (tgt := 27) hx hb d_C_alias_12 (by decide) (by omega) (by omega) (fun c_12 => ?_) (fun c_12 => ?_)
  · refine lv_aload_n hx hb d_C_alias_27 rfl (lv_at hl 0 rfl) ?_
    refine n_const (k := 3) hx hb d_C_alias_28 (by decide) ?_
    refine lv_iload_n hx hb d_C_alias_29 rfl (lv_at hl 1 rfl) ?_
    refine lv_iload_n hx hb d_C_alias_30 rfl (lv_at hl 2 rfl) ?_
    refine c_V (own := R_C) (index := 147) (As := [.int (nI (3)), .int (nI (a)), .int (nI (b9))]) (rest := []) hx hb hml hown hg hK NXc.same hN.warm (fun _ h => h) hP hS 0 (c_C_keepClash l D cI cC cZ cT ad hI M ((nI (3))) ((nI (a))) ((nI (b9)))) (by decide) (ci := 7) rfl rfl k_436 k_438 k_p6 k_1 k_439 3 rfl (by decide +kernel) (by decide) rfl hl.1 (Nat.le_of_ble_eq_true rfl) d_C_alias_31 (fun v M_1 H locs hq hP _ _ hS => ?_)
    obtain ⟨rfl, eM_1⟩ := hq
    refine W.eq (g2 := F0 m 34 ls []) rfl ?_
    refine n_const (k := 0) hx hb d_C_alias_34 (by decide) ?_
    exact r_z hx hb hr hlocks (rfl) hP hS (⟨rfl, eM_1⟩) d_C_alias_35
  · refine lv_aload_n hx hb d_C_alias_15 rfl (lv_at hl 0 rfl) ?_
    refine g_get (C := R_C) (T := T_C) (N := 15) (ci := 7) (v := .ref (ad (134))) hx hb hg i_C hown hK hP 0 (by decide) rfl rfl 6 (by decide) (hg _ k_134) rfl d_C_alias_16 ?_
    refine lv_iload_n hx hb d_C_alias_19 rfl (lv_at hl 2 rfl) ?_
    refine lv_iload_n hx hb d_C_alias_20 rfl (lv_at hl 1 rfl) ?_
    refine c_V (own := R_C) (index := 247) (As := [.int (nI (b9)), .int (nI (a))]) (rest := []) hx hb hml hown hg hK NXc.same hN.warm (fun _ h => h) hP hS 134 (c_G_leads l D cI cC cZ cT ad hI M n hn60 st hS6 rk hRk hr60 b9 a hb9 ha t1 ht1) (by decide) (ci := 4) rfl rfl k_657 k_658 k_659 k_6 k_660 2 rfl (by decide +kernel) (by decide) rfl hl.1 (Nat.le_of_ble_eq_true rfl) d_C_alias_21 (fun v M' H locs hq hP _ _ hS => ?_)
    obtain ⟨rfl, rfl⟩ := hq
    refine W.eq (g2 := F0 m 24 ls [.int (bI (t1))]) rfl ?_
    refine z_eq (t := t1) (tgt := 36) hx hb d_C_alias_24 (by decide) (fun c_24 => ?_) (fun c_24 => ?_)
    · exact absurd hL (fun h => by rcases h with h | h; exact c_12 h; rw [ht1.mpr h] at c_24; cases c_24)
    · refine lv_aload_n hx hb d_C_alias_27 rfl (lv_at hl 0 rfl) ?_
      refine n_const (k := 3) hx hb d_C_alias_28 (by decide) ?_
      refine lv_iload_n hx hb d_C_alias_29 rfl (lv_at hl 1 rfl) ?_
      refine lv_iload_n hx hb d_C_alias_30 rfl (lv_at hl 2 rfl) ?_
      refine c_V (own := R_C) (index := 147) (As := [.int (nI (3)), .int (nI (a)), .int (nI (b9))]) (rest := []) hx hb hml hown hg hK NXc.same hN.warm (fun _ h => h) hP hS 0 (c_C_keepClash l D cI cC cZ cT ad hI M ((nI (3))) ((nI (a))) ((nI (b9)))) (by decide) (ci := 7) rfl rfl k_436 k_438 k_p6 k_1 k_439 3 rfl (by decide +kernel) (by decide) rfl hl.1 (Nat.le_of_ble_eq_true rfl) d_C_alias_31 (fun v M_2 H locs hq hP _ _ hS => ?_)
      obtain ⟨rfl, eM_2⟩ := hq
      refine W.eq (g2 := F0 m 34 ls []) rfl ?_
      refine n_const (k := 0) hx hb d_C_alias_34 (by decide) ?_
      exact r_z hx hb hr hlocks (rfl) hP hS (⟨rfl, eM_2⟩) d_C_alias_35

set_option maxHeartbeats 4000000 in
set_option maxRecDepth 100000 in
theorem c_C_alias_0 (l : Launch) (D : va_G) (cI cC cZ cT : ClassId) (ad : Nat → Nat) (hI : GI 144 ad) (M : PM) (n : Nat) (len : Nat → Nat) (ch : Nat → Nat → Nat) (hN7 : CN M n len ch) (st : Nat → Option Nat) (hS6 : CSt M n st) (rk : Nat → Nat) (hRk : Rk n st rk) (hr60 : ∀ k, k < n → rk k < 60) (a b9 : Nat) (ha : a < n) (hb9 : b9 < n) (hab : a ≠ b9) (hL : ¬ Lds st (st b9) a) : MD l D cI cC cZ cT ad y_C_alias b_C_alias 3 (some .boolean) 2 42 [.ref (ad (0)), .int (nI (a)), .int (nI (b9))] M (fun v M' => v = some (.int (bI true)) ∧ M' = pu M 135 a (nI b9)) := by
  refine MC.of (by decide) (Nat.le_of_ble_eq_true rfl) ?_
  intro p e s m below meth c ls hx hb hr hml hown hg hlocks hK hN hP hS hl
  have hown : s.vm.findClass R_C = some m.cls := hown
  have hl : lv_has ls 3 [(0, .ref (ad (0))), (1, .int (nI (a))), (2, .int (nI (b9)))] := hl
  have hn60 := hN7.1
  have hnm := hN7.2.2.1
  refine lv_aload_n hx hb d_C_alias_0 rfl (lv_at hl 0 rfl) ?_
  refine lv_iload_n hx hb d_C_alias_1 rfl (lv_at hl 1 rfl) ?_
  refine c_V (own := R_C) (index := 131) (As := [.int (nI (a))]) (rest := []) hx hb hml hown hg hK NXc.same hN.warm (fun _ h => h) hP hS 0 (c_C_rqn l D cI cC cZ cT ad hI M n len ch hN7 (a) (by omega)) (by decide) (ci := 7) rfl rfl k_401 k_403 k_p5 k_1 k_404 1 rfl (by decide +kernel) (by decide) rfl hl.1 (Nat.le_of_ble_eq_true rfl) d_C_alias_2 (fun v M' H locs hq hP _ _ hS => ?_)
  obtain ⟨rfl, rfl⟩ := hq
  refine W.eq (g2 := F0 m 5 ls []) rfl ?_
  refine lv_aload_n hx hb d_C_alias_5 rfl (lv_at hl 0 rfl) ?_
  refine lv_iload_n hx hb d_C_alias_6 rfl (lv_at hl 2 rfl) ?_
  refine c_V (own := R_C) (index := 131) (As := [.int (nI (b9))]) (rest := []) hx hb hml hown hg hK NXc.same hN.warm (fun _ h => h) hP hS 0 (c_C_rqn l D cI cC cZ cT ad hI M n len ch hN7 (b9) (by omega)) (by decide) (ci := 7) rfl rfl k_401 k_403 k_p5 k_1 k_404 1 rfl (by decide +kernel) (by decide) rfl hl.1 (Nat.le_of_ble_eq_true rfl) d_C_alias_7 (fun v M' H locs hq hP _ _ hS => ?_)
  obtain ⟨rfl, rfl⟩ := hq
  refine W.eq (g2 := F0 m 10 ls []) rfl ?_
  refine lv_iload_n hx hb d_C_alias_10 rfl (lv_at hl 1 rfl) ?_
  refine lv_iload_n hx hb d_C_alias_11 rfl (lv_at hl 2 rfl) ?_
  refine n_eq (a := a) (b := b9) (tgt := 27) hx hb d_C_alias_12 (by decide) (by omega) (by omega) (fun c_12 => ?_) (fun c_12 => ?_)
  · exact absurd c_12 (by omega)
  · refine lv_aload_n hx hb d_C_alias_15 rfl (lv_at hl 0 rfl) ?_
    refine g_get (C := R_C) (T := T_C) (N := 15) (ci := 7) (v := .ref (ad (134))) hx hb hg i_C hown hK hP 0 (by decide) rfl rfl 6 (by decide) (hg _ k_134) rfl d_C_alias_16 ?_
    refine lv_iload_n hx hb d_C_alias_19 rfl (lv_at hl 2 rfl) ?_
    refine lv_iload_n hx hb d_C_alias_20 rfl (lv_at hl 1 rfl) ?_
    refine c_V (own := R_C) (index := 247) (As := [.int (nI (b9)), .int (nI (a))]) (rest := []) hx hb hml hown hg hK NXc.same hN.warm (fun _ h => h) hP hS 134 (c_G_leads l D cI cC cZ cT ad hI M n hn60 st hS6 rk hRk hr60 b9 a hb9 ha false ⟨fun h => (by cases h), fun h => absurd h hL⟩) (by decide) (ci := 4) rfl rfl k_657 k_658 k_659 k_6 k_660 2 rfl (by decide +kernel) (by decide) rfl hl.1 (Nat.le_of_ble_eq_true rfl) d_C_alias_21 (fun v M' H locs hq hP _ _ hS => ?_)
    obtain ⟨rfl, rfl⟩ := hq
    refine W.eq (g2 := F0 m 24 ls [.int (bI (false))]) rfl ?_
    refine z_eq (t := false) (tgt := 36) hx hb d_C_alias_24 (by decide) (fun _ => ?_) (fun h9 => absurd h9 (by decide))
    refine lv_aload_n hx hb d_C_alias_36 rfl (lv_at hl 0 rfl) ?_
    refine g_get (C := R_C) (T := T_C) (N := 15) (ci := 7) (v := .ref (ad (134))) hx hb hg i_C hown hK hP 0 (by decide) rfl rfl 6 (by decide) (hg _ k_134) rfl d_C_alias_37 ?_
    refine lv_iload_n hx hb d_C_alias_40 rfl (lv_at hl 1 rfl) ?_
    refine lv_iload_n hx hb d_C_alias_41 rfl (lv_at hl 2 rfl) ?_
    refine c_V (own := R_C) (index := 250) (As := [.int (nI (a)), .int (nI (b9))]) (rest := []) hx hb hml hown hg hK NXc.same hN.warm (fun _ h => h) hP hS 134 (c_G_set l D cI cC cZ cT ad hI M a b9 (by omega)) (by decide) (ci := 4) rfl rfl k_661 k_662 k_663 k_6 k_664 2 rfl (by decide +kernel) (by decide) rfl hl.1 (Nat.le_of_ble_eq_true rfl) d_C_alias_42 (fun v M_1 H locs hq hP _ _ hS => ?_)
    obtain ⟨rfl, eM_1⟩ := hq
    refine W.eq (g2 := F0 m 45 ls []) rfl ?_
    refine n_const (k := 1) hx hb d_C_alias_45 (by decide) ?_
    exact r_z hx hb hr hlocks (rfl) hP hS (⟨rfl, eM_1⟩) d_C_alias_46

set_option maxHeartbeats 4000000 in
set_option maxRecDepth 100000 in
theorem c_C_meaning (l : Launch) (D : va_G) (cI cC cZ cT : ClassId) (ad : Nat → Nat) (hI : GI 144 ad) (M : PM) (n : Nat) (len : Nat → Nat) (ch : Nat → Nat → Nat) (hN7 : CN M n len ch) (st : Nat → Option Nat) (hS6 : CSt M n st) (rk : Nat → Nat) (hRk : Rk n st rk) (hr60 : ∀ k, k < n → rk k < 60) (a : Nat) (ha : a < n) (e9 : Nat) (hE : EndS st a e9) : MD l D cI cC cZ cT ad y_C_meaning b_C_meaning 2 (some .int) 2 42 [.ref (ad (0)), .int (nI (a))] M (fun v M' => v = some (.int (nI (e9))) ∧ M = M') := by
  refine MC.of (by decide) (Nat.le_of_ble_eq_true rfl) ?_
  intro p e s m below meth c ls hx hb hr hml hown hg hlocks hK hN hP hS hl
  have hown : s.vm.findClass R_C = some m.cls := hown
  have hl : lv_has ls 2 [(0, .ref (ad (0))), (1, .int (nI (a)))] := hl
  have hn60 := hN7.1
  have hnm := hN7.2.2.1
  refine lv_aload_n hx hb d_C_meaning_0 rfl (lv_at hl 0 rfl) ?_
  refine lv_iload_n hx hb d_C_meaning_1 rfl (lv_at hl 1 rfl) ?_
  refine c_V (own := R_C) (index := 131) (As := [.int (nI (a))]) (rest := []) hx hb hml hown hg hK NXc.same hN.warm (fun _ h => h) hP hS 0 (c_C_rqn l D cI cC cZ cT ad hI M n len ch hN7 (a) (by omega)) (by decide) (ci := 7) rfl rfl k_401 k_403 k_p5 k_1 k_404 1 rfl (by decide +kernel) (by decide) rfl hl.1 (Nat.le_of_ble_eq_true rfl) d_C_meaning_2 (fun v M' H locs hq hP _ _ hS => ?_)
  obtain ⟨rfl, rfl⟩ := hq
  refine W.eq (g2 := F0 m 5 ls []) rfl ?_
  refine lv_aload_n hx hb d_C_meaning_5 rfl (lv_at hl 0 rfl) ?_
  refine g_get (C := R_C) (T := T_C) (N := 15) (ci := 7) (v := .ref (ad (134))) hx hb hg i_C hown hK hP 0 (by decide) rfl rfl 6 (by decide) (hg _ k_134) rfl d_C_meaning_6 ?_
  refine lv_iload_n hx hb d_C_meaning_9 rfl (lv_at hl 1 rfl) ?_
  refine c_V (own := R_C) (index := 253) (As := [.int (nI (a))]) (rest := []) hx hb hml hown hg hK NXc.same hN.warm (fun _ h => h) hP hS 134 (c_G_end l D cI cC cZ cT ad hI M n hn60 st hS6 rk hRk hr60 a ha e9 hE) (by decide) (ci := 4) rfl rfl k_672 k_673 k_674 k_6 k_675 1 rfl (by decide +kernel) (by decide) rfl hl.1 (Nat.le_of_ble_eq_true rfl) d_C_meaning_10 (fun v M' H locs hq hP _ _ hS => ?_)
  obtain ⟨rfl, rfl⟩ := hq
  refine W.eq (g2 := F0 m 13 ls [.int (nI (e9))]) rfl ?_
  exact r_i hx hb hr hlocks hP hS (⟨rfl, rfl⟩) d_C_meaning_13

set_option maxHeartbeats 4000000 in
set_option maxRecDepth 100000 in
theorem c_C_now (l : Launch) (D : va_G) (cI cC cZ cT : ClassId) (ad : Nat → Nat) (hI : GI 144 ad) (M : PM) (n : Nat) (len : Nat → Nat) (ch : Nat → Nat → Nat) (hN7 : CN M n len ch) (nc : Nat) (rf rt : Nat → Nat) (hR8 : CR M n nc rf rt) (a : Nat) (ha : a < n) : MD l D cI cC cZ cT ad y_C_now b_C_now 2 (some .int) 2 42 [.ref (ad (0)), .int (nI (a))] M (fun v M' => v = some (.int (nI (nowF rf rt a nc))) ∧ M = M') := by
  refine MC.of (by decide) (Nat.le_of_ble_eq_true rfl) ?_
  intro p e s m below meth c ls hx hb hr hml hown hg hlocks hK hN hP hS hl
  have hown : s.vm.findClass R_C = some m.cls := hown
  have hl : lv_has ls 2 [(0, .ref (ad (0))), (1, .int (nI (a)))] := hl
  have hn60 := hN7.1
  have hnm := hN7.2.2.1
  refine lv_aload_n hx hb d_C_now_0 rfl (lv_at hl 0 rfl) ?_
  refine lv_iload_n hx hb d_C_now_1 rfl (lv_at hl 1 rfl) ?_
  refine c_V (own := R_C) (index := 131) (As := [.int (nI (a))]) (rest := []) hx hb hml hown hg hK NXc.same hN.warm (fun _ h => h) hP hS 0 (c_C_rqn l D cI cC cZ cT ad hI M n len ch hN7 (a) (by omega)) (by decide) (ci := 7) rfl rfl k_401 k_403 k_p5 k_1 k_404 1 rfl (by decide +kernel) (by decide) rfl hl.1 (Nat.le_of_ble_eq_true rfl) d_C_now_2 (fun v M' H locs hq hP _ _ hS => ?_)
  obtain ⟨rfl, rfl⟩ := hq
  refine W.eq (g2 := F0 m 5 ls []) rfl ?_
  refine lv_aload_n hx hb d_C_now_5 rfl (lv_at hl 0 rfl) ?_
  refine g_get (C := R_C) (T := T_C) (N := 15) (ci := 7) (v := .ref (ad (136))) hx hb hg i_C hown hK hP 0 (by decide) rfl rfl 7 (by decide) (hg _ k_135) rfl d_C_now_6 ?_
  refine lv_iload_n hx hb d_C_now_9 rfl (lv_at hl 1 rfl) ?_
  refine c_V (own := R_C) (index := 281) (As := [.int (nI (a))]) (rest := []) hx hb hml hown hg hK NXc.same hN.warm (fun _ h => h) hP hS 136 (c_R_forward l D cI cC cZ cT ad hI M n nc hn60 rf rt hR8 a ha) (by decide) (ci := 1) rfl rfl k_740 k_741 k_742 k_7 k_743 1 rfl (by decide +kernel) (by decide) rfl hl.1 (Nat.le_of_ble_eq_true rfl) d_C_now_10 (fun v M' H locs hq hP _ _ hS => ?_)
  obtain ⟨rfl, rfl⟩ := hq
  refine W.eq (g2 := F0 m 13 ls [.int (nI (nowF rf rt a nc))]) rfl ?_
  exact r_i hx hb hr hlocks hP hS (⟨rfl, rfl⟩) d_C_now_13

set_option maxHeartbeats 4000000 in
set_option maxRecDepth 100000 in
theorem c_C_was (l : Launch) (D : va_G) (cI cC cZ cT : ClassId) (ad : Nat → Nat) (hI : GI 144 ad) (M : PM) (n : Nat) (len : Nat → Nat) (ch : Nat → Nat → Nat) (hN7 : CN M n len ch) (nc : Nat) (rf rt : Nat → Nat) (hR8 : CR M n nc rf rt) (a : Nat) (ha : a < n) : MD l D cI cC cZ cT ad y_C_was b_C_was 2 (some .int) 2 42 [.ref (ad (0)), .int (nI (a))] M (fun v M' => v = some (.int (nI (wasF rf rt nc a))) ∧ M = M') := by
  refine MC.of (by decide) (Nat.le_of_ble_eq_true rfl) ?_
  intro p e s m below meth c ls hx hb hr hml hown hg hlocks hK hN hP hS hl
  have hown : s.vm.findClass R_C = some m.cls := hown
  have hl : lv_has ls 2 [(0, .ref (ad (0))), (1, .int (nI (a)))] := hl
  have hn60 := hN7.1
  have hnm := hN7.2.2.1
  refine lv_aload_n hx hb d_C_was_0 rfl (lv_at hl 0 rfl) ?_
  refine lv_iload_n hx hb d_C_was_1 rfl (lv_at hl 1 rfl) ?_
  refine c_V (own := R_C) (index := 131) (As := [.int (nI (a))]) (rest := []) hx hb hml hown hg hK NXc.same hN.warm (fun _ h => h) hP hS 0 (c_C_rqn l D cI cC cZ cT ad hI M n len ch hN7 (a) (by omega)) (by decide) (ci := 7) rfl rfl k_401 k_403 k_p5 k_1 k_404 1 rfl (by decide +kernel) (by decide) rfl hl.1 (Nat.le_of_ble_eq_true rfl) d_C_was_2 (fun v M' H locs hq hP _ _ hS => ?_)
  obtain ⟨rfl, rfl⟩ := hq
  refine W.eq (g2 := F0 m 5 ls []) rfl ?_
  refine lv_aload_n hx hb d_C_was_5 rfl (lv_at hl 0 rfl) ?_
  refine g_get (C := R_C) (T := T_C) (N := 15) (ci := 7) (v := .ref (ad (136))) hx hb hg i_C hown hK hP 0 (by decide) rfl rfl 7 (by decide) (hg _ k_135) rfl d_C_was_6 ?_
  refine lv_iload_n hx hb d_C_was_9 rfl (lv_at hl 1 rfl) ?_
  refine c_V (own := R_C) (index := 284) (As := [.int (nI (a))]) (rest := []) hx hb hml hown hg hK NXc.same hN.warm (fun _ h => h) hP hS 136 (c_R_back l D cI cC cZ cT ad hI M n nc hn60 rf rt hR8 a ha) (by decide) (ci := 1) rfl rfl k_751 k_752 k_753 k_7 k_754 1 rfl (by decide +kernel) (by decide) rfl hl.1 (Nat.le_of_ble_eq_true rfl) d_C_was_10 (fun v M' H locs hq hP _ _ hS => ?_)
  obtain ⟨rfl, rfl⟩ := hq
  refine W.eq (g2 := F0 m 13 ls [.int (nI (wasF rf rt nc a))]) rfl ?_
  exact r_i hx hb hr hlocks hP hS (⟨rfl, rfl⟩) d_C_was_13

set_option maxHeartbeats 4000000 in
set_option maxRecDepth 100000 in
theorem x_C_clash_1 (l : Launch) (D : va_G) (cI cC cZ cT : ClassId) (ad : Nat → Nat) (hI : GI 144 ad) (hlT : l.stackTraces = false) (M : PM) (x : Int32) (hbad : ¬ ∃ c, c ≤ 2 ∧ x = nI c) : MX l D cI cC cZ cT ad y_C_clash b_C_clash 2 (some .int) 6 90 [.ref (ad (0)), .int (x)] M "java/lang/IllegalArgumentException" (fun M' => M = M') := by
  refine MX.of (by decide) (Nat.le_of_ble_eq_true rfl) ?_
  intro p e s m below meth c ls hx hb hr hml hown hg hlocks hK hN hX hTb hP hS hl
  have hown : s.vm.findClass R_C = some m.cls := hown
  have hl : lv_has ls 2 [(0, .ref (ad (0))), (1, .int (x))] := hl
  refine lv_iload_n hx hb d_C_clash_0 rfl (lv_at hl 1 rfl) ?_
  refine lv_tableOut (x := x) (tgt := 43) hx hb d_C_clash_1 (sw_out 2 (by decide) hbad) (by decide) ?_
  exact t_SW hx hb hlT xat_IAE sx_287 hown hg hX hTb hlocks (hl.1.trans hml.symm) hP hS (rfl) (by decide) (Nat.le_of_ble_eq_true rfl) d_C_clash_43 d_C_clash_46 d_C_clash_47 d_C_clash_50 d_C_clash_53

set_option maxHeartbeats 4000000 in
set_option maxRecDepth 100000 in
theorem c_C_clash_0 (l : Launch) (D : va_G) (cI cC cZ cT : ClassId) (ad : Nat → Nat) (hI : GI 144 ad) (M : PM) : MD l D cI cC cZ cT ad y_C_clash b_C_clash 2 (some .int) 0 0 [.ref (ad (0)), .int (nI (0))] M (fun v M' => v = some (.int (M 0 12)) ∧ M = M') := by
  refine MC.of (by decide) (Nat.le_of_ble_eq_true rfl) ?_
  intro p e s m below meth c ls hx hb hr hml hown hg hlocks hK hN hP hS hl
  have hown : s.vm.findClass R_C = some m.cls := hown
  have hl : lv_has ls 2 [(0, .ref (ad (0))), (1, .int (nI (0)))] := hl
  refine lv_iload_n hx hb d_C_clash_0 rfl (lv_at hl 1 rfl) ?_
  refine lv_tableIn (x := nI 0) (off := 27) (tgt := 28) hx hb d_C_clash_1 (by decide) (by decide) (by decide) (by decide) ?_
  refine lv_aload_n hx hb d_C_clash_28 rfl (lv_at hl 0 rfl) ?_
  refine g_get (C := R_C) (T := T_C) (N := 15) (ci := 7) (v := .int (M 0 12)) hx hb hg i_C hown hK hP 0 (by decide) rfl rfl 12 (by decide) (hg _ k_140) rfl d_C_clash_29 ?_
  exact r_i hx hb hr hlocks hP hS (⟨rfl, rfl⟩) d_C_clash_32

set_option maxHeartbeats 4000000 in
set_option maxRecDepth 100000 in
theorem c_C_clash_1 (l : Launch) (D : va_G) (cI cC cZ cT : ClassId) (ad : Nat → Nat) (hI : GI 144 ad) (M : PM) : MD l D cI cC cZ cT ad y_C_clash b_C_clash 2 (some .int) 0 0 [.ref (ad (0)), .int (nI (1))] M (fun v M' => v = some (.int (M 0 13)) ∧ M = M') := by
  refine MC.of (by decide) (Nat.le_of_ble_eq_true rfl) ?_
  intro p e s m below meth c ls hx hb hr hml hown hg hlocks hK hN hP hS hl
  have hown : s.vm.findClass R_C = some m.cls := hown
  have hl : lv_has ls 2 [(0, .ref (ad (0))), (1, .int (nI (1)))] := hl
  refine lv_iload_n hx hb d_C_clash_0 rfl (lv_at hl 1 rfl) ?_
  refine lv_tableIn (x := nI 1) (off := 32) (tgt := 33) hx hb d_C_clash_1 (by decide) (by decide) (by decide) (by decide) ?_
  refine lv_aload_n hx hb d_C_clash_33 rfl (lv_at hl 0 rfl) ?_
  refine g_get (C := R_C) (T := T_C) (N := 15) (ci := 7) (v := .int (M 0 13)) hx hb hg i_C hown hK hP 0 (by decide) rfl rfl 13 (by decide) (hg _ k_141) rfl d_C_clash_34 ?_
  exact r_i hx hb hr hlocks hP hS (⟨rfl, rfl⟩) d_C_clash_37

set_option maxHeartbeats 4000000 in
set_option maxRecDepth 100000 in
theorem c_C_clash_2 (l : Launch) (D : va_G) (cI cC cZ cT : ClassId) (ad : Nat → Nat) (hI : GI 144 ad) (M : PM) : MD l D cI cC cZ cT ad y_C_clash b_C_clash 2 (some .int) 0 0 [.ref (ad (0)), .int (nI (2))] M (fun v M' => v = some (.int (M 0 14)) ∧ M = M') := by
  refine MC.of (by decide) (Nat.le_of_ble_eq_true rfl) ?_
  intro p e s m below meth c ls hx hb hr hml hown hg hlocks hK hN hP hS hl
  have hown : s.vm.findClass R_C = some m.cls := hown
  have hl : lv_has ls 2 [(0, .ref (ad (0))), (1, .int (nI (2)))] := hl
  refine lv_iload_n hx hb d_C_clash_0 rfl (lv_at hl 1 rfl) ?_
  refine lv_tableIn (x := nI 2) (off := 37) (tgt := 38) hx hb d_C_clash_1 (by decide) (by decide) (by decide) (by decide) ?_
  refine lv_aload_n hx hb d_C_clash_38 rfl (lv_at hl 0 rfl) ?_
  refine g_get (C := R_C) (T := T_C) (N := 15) (ci := 7) (v := .int (M 0 14)) hx hb hg i_C hown hK hP 0 (by decide) rfl rfl 14 (by decide) (hg _ k_142) rfl d_C_clash_39 ?_
  exact r_i hx hb hr hlocks hP hS (⟨rfl, rfl⟩) d_C_clash_42

set_option maxHeartbeats 4000000 in
set_option maxRecDepth 100000 in
theorem x_C_count_1 (l : Launch) (D : va_G) (cI cC cZ cT : ClassId) (ad : Nat → Nat) (hI : GI 144 ad) (hlT : l.stackTraces = false) (M : PM) (x : Int32) (hbad : ¬ ∃ c, c ≤ 6 ∧ x = nI c) : MX l D cI cC cZ cT ad y_C_count b_C_count 2 (some .int) 6 90 [.ref (ad (0)), .int (x)] M "java/lang/IllegalArgumentException" (fun M' => M = M') := by
  refine MX.of (by decide) (Nat.le_of_ble_eq_true rfl) ?_
  intro p e s m below meth c ls hx hb hr hml hown hg hlocks hK hN hX hTb hP hS hl
  have hown : s.vm.findClass R_C = some m.cls := hown
  have hl : lv_has ls 2 [(0, .ref (ad (0))), (1, .int (x))] := hl
  refine lv_iload_n hx hb d_C_count_0 rfl (lv_at hl 1 rfl) ?_
  refine lv_tableOut (x := x) (tgt := 97) hx hb d_C_count_1 (sw_out 6 (by decide) hbad) (by decide) ?_
  exact t_SW hx hb hlT xat_IAE sx_297 hown hg hX hTb hlocks (hl.1.trans hml.symm) hP hS (rfl) (by decide) (Nat.le_of_ble_eq_true rfl) d_C_count_97 d_C_count_100 d_C_count_101 d_C_count_104 d_C_count_107

set_option maxHeartbeats 4000000 in
set_option maxRecDepth 100000 in
theorem c_C_count_v0 (l : Launch) (D : va_G) (cI cC cZ cT : ClassId) (ad : Nat → Nat) (hI : GI 144 ad) (M : PM) (n : Nat) (len : Nat → Nat) (ch : Nat → Nat → Nat) (hN7 : CN M n len ch) : MD l D cI cC cZ cT ad y_C_count b_C_count 2 (some .int) 1 20 [.ref (ad (0)), .int (nI (0))] M (fun v M' => v = some (.int (nI (n))) ∧ M = M') := by
  refine MC.of (by decide) (Nat.le_of_ble_eq_true rfl) ?_
  intro p e s m below meth c ls hx hb hr hml hown hg hlocks hK hN hP hS hl
  have hown : s.vm.findClass R_C = some m.cls := hown
  have hl : lv_has ls 2 [(0, .ref (ad (0))), (1, .int (nI (0)))] := hl
  refine lv_iload_n hx hb d_C_count_0 rfl (lv_at hl 1 rfl) ?_
  refine lv_tableIn (x := nI 0) (off := 43) (tgt := 44) hx hb d_C_count_1 (by decide) (by decide) (by decide) (by decide) ?_
  refine lv_aload_n hx hb d_C_count_44 rfl (lv_at hl 0 rfl) ?_
  refine g_get (C := R_C) (T := T_C) (N := 15) (ci := 7) (v := .ref (ad (7))) hx hb hg i_C hown hK hP 0 (by decide) rfl rfl 3 (by decide) (hg _ k_131) rfl d_C_count_45 ?_
  refine c_V (own := R_C) (index := 233) (As := []) (rest := []) hx hb hml hown hg hK NXc.same hN.warm (fun _ h => h) hP hS 7 (c_N_size l D cI cC cZ cT ad hI M n len ch hN7) (by decide) (ci := 0) rfl rfl k_616 k_462 k_463 k_3 k_464 0 rfl (by decide +kernel) (by decide) rfl hl.1 (Nat.le_of_ble_eq_true rfl) d_C_count_48 (fun v M' H locs hq hP _ _ hS => ?_)
  obtain ⟨rfl, rfl⟩ := hq
  refine W.eq (g2 := F0 m 51 ls [.int (nI (n))]) rfl ?_
  exact r_i hx hb hr hlocks hP hS (⟨rfl, rfl⟩) d_C_count_51

set_option maxHeartbeats 4000000 in
set_option maxRecDepth 100000 in
theorem c_C_count_v1 (l : Launch) (D : va_G) (cI cC cZ cT : ClassId) (ad : Nat → Nat) (hI : GI 144 ad) (M : PM) (z : Nat) (hz : M 129 4 = nI z) : MD l D cI cC cZ cT ad y_C_count b_C_count 2 (some .int) 1 20 [.ref (ad (0)), .int (nI (1))] M (fun v M' => v = some (.int (nI (z))) ∧ M = M') := by
  refine MC.of (by decide) (Nat.le_of_ble_eq_true rfl) ?_
  intro p e s m below meth c ls hx hb hr hml hown hg hlocks hK hN hP hS hl
  have hown : s.vm.findClass R_C = some m.cls := hown
  have hl : lv_has ls 2 [(0, .ref (ad (0))), (1, .int (nI (1)))] := hl
  refine lv_iload_n hx hb d_C_count_0 rfl (lv_at hl 1 rfl) ?_
  refine lv_tableIn (x := nI 1) (off := 51) (tgt := 52) hx hb d_C_count_1 (by decide) (by decide) (by decide) (by decide) ?_
  refine lv_aload_n hx hb d_C_count_52 rfl (lv_at hl 0 rfl) ?_
  refine g_get (C := R_C) (T := T_C) (N := 15) (ci := 7) (v := .ref (ad (129))) hx hb hg i_C hown hK hP 0 (by decide) rfl rfl 4 (by decide) (hg _ k_132) rfl d_C_count_53 ?_
  refine c_V (own := R_C) (index := 289) (As := []) (rest := []) hx hb hml hown hg hK NXc.same hN.warm (fun _ h => h) hP hS 129 (c_H_spaces l D cI cC cZ cT ad hI M z hz) (by decide) (ci := 3) rfl rfl k_770 k_771 k_772 k_4 k_773 0 rfl (by decide +kernel) (by decide) rfl hl.1 (Nat.le_of_ble_eq_true rfl) d_C_count_56 (fun v M' H locs hq hP _ _ hS => ?_)
  obtain ⟨rfl, rfl⟩ := hq
  refine W.eq (g2 := F0 m 59 ls [.int (nI (z))]) rfl ?_
  exact r_i hx hb hr hlocks hP hS (⟨rfl, rfl⟩) d_C_count_59

set_option maxHeartbeats 4000000 in
set_option maxRecDepth 100000 in
theorem c_C_count_v2 (l : Launch) (D : va_G) (cI cC cZ cT : ClassId) (ad : Nat → Nat) (hI : GI 144 ad) (M : PM) (z : Nat) (hz : M 129 3 = nI z) : MD l D cI cC cZ cT ad y_C_count b_C_count 2 (some .int) 1 20 [.ref (ad (0)), .int (nI (2))] M (fun v M' => v = some (.int (nI (z))) ∧ M = M') := by
  refine MC.of (by decide) (Nat.le_of_ble_eq_true rfl) ?_
  intro p e s m below meth c ls hx hb hr hml hown hg hlocks hK hN hP hS hl
  have hown : s.vm.findClass R_C = some m.cls := hown
  have hl : lv_has ls 2 [(0, .ref (ad (0))), (1, .int (nI (2)))] := hl
  refine lv_iload_n hx hb d_C_count_0 rfl (lv_at hl 1 rfl) ?_
  refine lv_tableIn (x := nI 2) (off := 59) (tgt := 60) hx hb d_C_count_1 (by decide) (by decide) (by decide) (by decide) ?_
  refine lv_aload_n hx hb d_C_count_60 rfl (lv_at hl 0 rfl) ?_
  refine g_get (C := R_C) (T := T_C) (N := 15) (ci := 7) (v := .ref (ad (129))) hx hb hg i_C hown hK hP 0 (by decide) rfl rfl 4 (by decide) (hg _ k_132) rfl d_C_count_61 ?_
  refine c_V (own := R_C) (index := 292) (As := []) (rest := []) hx hb hml hown hg hK NXc.same hN.warm (fun _ h => h) hP hS 129 (c_H_size l D cI cC cZ cT ad hI M z hz) (by decide) (ci := 3) rfl rfl k_774 k_775 k_776 k_4 k_777 0 rfl (by decide +kernel) (by decide) rfl hl.1 (Nat.le_of_ble_eq_true rfl) d_C_count_64 (fun v M' H locs hq hP _ _ hS => ?_)
  obtain ⟨rfl, rfl⟩ := hq
  refine W.eq (g2 := F0 m 67 ls [.int (nI (z))]) rfl ?_
  exact r_i hx hb hr hlocks hP hS (⟨rfl, rfl⟩) d_C_count_67

set_option maxHeartbeats 4000000 in
set_option maxRecDepth 100000 in
theorem c_C_count_v3 (l : Launch) (D : va_G) (cI cC cZ cT : ClassId) (ad : Nat → Nat) (hI : GI 144 ad) (M : PM) (n : Nat) (hn60 : n ≤ 60) (rc : Nat) (rw_ : Nat → Nat) (hW7 : CW M n rc rw_) : MD l D cI cC cZ cT ad y_C_count b_C_count 2 (some .int) 1 20 [.ref (ad (0)), .int (nI (3))] M (fun v M' => v = some (.int (nI (rc))) ∧ M = M') := by
  refine MC.of (by decide) (Nat.le_of_ble_eq_true rfl) ?_
  intro p e s m below meth c ls hx hb hr hml hown hg hlocks hK hN hP hS hl
  have hown : s.vm.findClass R_C = some m.cls := hown
  have hl : lv_has ls 2 [(0, .ref (ad (0))), (1, .int (nI (3)))] := hl
  refine lv_iload_n hx hb d_C_count_0 rfl (lv_at hl 1 rfl) ?_
  refine lv_tableIn (x := nI 3) (off := 67) (tgt := 68) hx hb d_C_count_1 (by decide) (by decide) (by decide) (by decide) ?_
  refine lv_aload_n hx hb d_C_count_68 rfl (lv_at hl 0 rfl) ?_
  refine g_get (C := R_C) (T := T_C) (N := 15) (ci := 7) (v := .ref (ad (132))) hx hb hg i_C hown hK hP 0 (by decide) rfl rfl 5 (by decide) (hg _ k_133) rfl d_C_count_69 ?_
  refine c_V (own := R_C) (index := 220) (As := []) (rest := []) hx hb hml hown hg hK NXc.same hN.warm (fun _ h => h) hP hS 132 (c_W_size l D cI cC cZ cT ad hI M n rc hn60 rw_ hW7) (by decide) (ci := 2) rfl rfl k_570 k_571 k_572 k_5 k_573 0 rfl (by decide +kernel) (by decide) rfl hl.1 (Nat.le_of_ble_eq_true rfl) d_C_count_72 (fun v M' H locs hq hP _ _ hS => ?_)
  obtain ⟨rfl, rfl⟩ := hq
  refine W.eq (g2 := F0 m 75 ls [.int (nI (rc))]) rfl ?_
  exact r_i hx hb hr hlocks hP hS (⟨rfl, rfl⟩) d_C_count_75

set_option maxHeartbeats 4000000 in
set_option maxRecDepth 100000 in
theorem c_C_count_v4 (l : Launch) (D : va_G) (cI cC cZ cT : ClassId) (ad : Nat → Nat) (hI : GI 144 ad) (M : PM) (n : Nat) (hn60 : n ≤ 60) (nc : Nat) (rf rt : Nat → Nat) (hR8 : CR M n nc rf rt) : MD l D cI cC cZ cT ad y_C_count b_C_count 2 (some .int) 1 20 [.ref (ad (0)), .int (nI (4))] M (fun v M' => v = some (.int (nI (nc))) ∧ M = M') := by
  refine MC.of (by decide) (Nat.le_of_ble_eq_true rfl) ?_
  intro p e s m below meth c ls hx hb hr hml hown hg hlocks hK hN hP hS hl
  have hown : s.vm.findClass R_C = some m.cls := hown
  have hl : lv_has ls 2 [(0, .ref (ad (0))), (1, .int (nI (4)))] := hl
  refine lv_iload_n hx hb d_C_count_0 rfl (lv_at hl 1 rfl) ?_
  refine lv_tableIn (x := nI 4) (off := 75) (tgt := 76) hx hb d_C_count_1 (by decide) (by decide) (by decide) (by decide) ?_
  refine lv_aload_n hx hb d_C_count_76 rfl (lv_at hl 0 rfl) ?_
  refine g_get (C := R_C) (T := T_C) (N := 15) (ci := 7) (v := .ref (ad (136))) hx hb hg i_C hown hK hP 0 (by decide) rfl rfl 7 (by decide) (hg _ k_135) rfl d_C_count_77 ?_
  refine c_V (own := R_C) (index := 293) (As := []) (rest := []) hx hb hml hown hg hK NXc.same hN.warm (fun _ h => h) hP hS 136 (c_R_size l D cI cC cZ cT ad hI M n nc hn60 rf rt hR8) (by decide) (ci := 1) rfl rfl k_778 k_779 k_780 k_7 k_781 0 rfl (by decide +kernel) (by decide) rfl hl.1 (Nat.le_of_ble_eq_true rfl) d_C_count_80 (fun v M' H locs hq hP _ _ hS => ?_)
  obtain ⟨rfl, rfl⟩ := hq
  refine W.eq (g2 := F0 m 83 ls [.int (nI (nc))]) rfl ?_
  exact r_i hx hb hr hlocks hP hS (⟨rfl, rfl⟩) d_C_count_83

set_option maxHeartbeats 4000000 in
set_option maxRecDepth 100000 in
theorem c_C_count_v5 (l : Launch) (D : va_G) (cI cC cZ cT : ClassId) (ad : Nat → Nat) (hI : GI 144 ad) (M : PM) (tl : Nat) (tc : Nat → Nat) (hT1 : TT M 1 tl tc) : MD l D cI cC cZ cT ad y_C_count b_C_count 2 (some .int) 1 20 [.ref (ad (0)), .int (nI (5))] M (fun v M' => v = some (.int (nI (tl))) ∧ M = M') := by
  refine MC.of (by decide) (Nat.le_of_ble_eq_true rfl) ?_
  intro p e s m below meth c ls hx hb hr hml hown hg hlocks hK hN hP hS hl
  have hown : s.vm.findClass R_C = some m.cls := hown
  have hl : lv_has ls 2 [(0, .ref (ad (0))), (1, .int (nI (5)))] := hl
  refine lv_iload_n hx hb d_C_count_0 rfl (lv_at hl 1 rfl) ?_
  refine lv_tableIn (x := nI 5) (off := 83) (tgt := 84) hx hb d_C_count_1 (by decide) (by decide) (by decide) (by decide) ?_
  refine lv_aload_n hx hb d_C_count_84 rfl (lv_at hl 0 rfl) ?_
  refine g_get (C := R_C) (T := T_C) (N := 15) (ci := 7) (v := .ref (ad (1))) hx hb hg i_C hown hK hP 0 (by decide) rfl rfl 0 (by decide) (hg _ k_128) rfl d_C_count_85 ?_
  refine c_V (own := R_C) (index := 109) (As := []) (rest := []) hx hb hml hown hg hK NXc.same hN.warm (fun _ h => h) hP hS 1 (c_T_length l D cI cC cZ cT ad hI M 1 tx1 tl tc hT1) (tx_lt tx1) (ci := 6) (cfC_T tx1 _) rfl k_179 k_180 k_181 k_2 k_182 0 rfl (by decide +kernel) (by decide) rfl hl.1 (Nat.le_of_ble_eq_true rfl) d_C_count_88 (fun v M' H locs hq hP _ _ hS => ?_)
  obtain ⟨rfl, rfl⟩ := hq
  refine W.eq (g2 := F0 m 91 ls [.int (nI (tl))]) rfl ?_
  exact r_i hx hb hr hlocks hP hS (⟨rfl, rfl⟩) d_C_count_91

set_option maxHeartbeats 4000000 in
set_option maxRecDepth 100000 in
theorem c_C_count_v6 (l : Launch) (D : va_G) (cI cC cZ cT : ClassId) (ad : Nat → Nat) (hI : GI 144 ad) (M : PM) (n : Nat) (len : Nat → Nat) (ch : Nat → Nat → Nat) (hN7 : CN M n len ch) (sp bs : Nat → Option Nat) (hH : CSp M n sp bs) (hbsp : ∀ k, k < n → (bs k ≠ none ↔ isSp n sp k)) (spo : Nat → Option Nat) (hSp : ∀ k, k < n → Best (spC n len ch sp k) len n (spo k)) (rc : Nat) (rw_ : Nat → Nat) (hW7 : CW M n rc rw_) (us : Nat → Nat) (hU1 : CU M us) (ub : Nat → Bool) (hub : ∀ k, k < n → (ub k = true ↔ unkP us spo rc rw_ k)) : MD l D cI cC cZ cT ad y_C_count b_C_count 2 (some .int) 5 113 [.ref (ad (0)), .int (nI (6))] M (fun v M' => v = some (.int (nI (Cnt ub n))) ∧ FX 142 M M') := by
  refine MC.of (by decide) (Nat.le_of_ble_eq_true rfl) ?_
  intro p e s m below meth c ls hx hb hr hml hown hg hlocks hK hN hP hS hl
  have hown : s.vm.findClass R_C = some m.cls := hown
  have hl : lv_has ls 2 [(0, .ref (ad (0))), (1, .int (nI (6)))] := hl
  refine lv_iload_n hx hb d_C_count_0 rfl (lv_at hl 1 rfl) ?_
  refine lv_tableIn (x := nI 6) (off := 91) (tgt := 92) hx hb d_C_count_1 (by decide) (by decide) (by decide) (by decide) ?_
  refine lv_aload_n hx hb d_C_count_92 rfl (lv_at hl 0 rfl) ?_
  refine c_V (own := R_C) (index := 294) (As := []) (rest := []) hx hb hml hown hg hK NXc.same hN.warm (fun _ h => h) hP hS 0 (c_C_unknownNames l D cI cC cZ cT ad hI M n len ch hN7 sp bs hH hbsp spo hSp rc rw_ hW7 us hU1 ub hub) (by decide) (ci := 7) rfl rfl k_782 k_784 k_p21 k_1 k_785 0 rfl (by decide +kernel) (by decide) rfl hl.1 (Nat.le_of_ble_eq_true rfl) d_C_count_93 (fun v M_1 H locs hq hP _ _ hS => ?_)
  obtain ⟨rfl, hF⟩ := hq
  refine W.eq (g2 := F0 m 96 ls [.int (nI (Cnt ub n))]) rfl ?_
  exact r_i hx hb hr hlocks hP hS (⟨rfl, hF⟩) d_C_count_96
