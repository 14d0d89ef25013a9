set_option maxHeartbeats 4000000 in
set_option maxRecDepth 100000 in
theorem c_T_length (l : Launch) (D : va_G) (cI cC cZ cT : ClassId) (ad : Nat → Nat) (hI : GI 144 ad) (M : PM) (t : Nat) (ht : tx t) (sl : Nat) (sc : Nat → Nat) (hT : TT M t sl sc) : MD l D cI cC cZ cT ad y_T_length b_T_length 1 (some .int) 0 0 [.ref (ad (t))] M (fun v M' => v = some (.int (nI (sl))) ∧ M = M') := by
  refine MC.of (by decide) (Nat.le_of_ble_eq_true rfl) ?_
  intro p e s m below meth c ls hx hb hr hml hown hg hlocks hK hN hP hS hl
  have hown : s.vm.findClass R_T = some m.cls := hown
  have hl : lv_has ls 1 [(0, .ref (ad (t)))] := hl
  have hcap := hT.1
  have hc49 := capT_24 t
  refine lv_aload_n hx hb d_T_length_0 rfl (lv_at hl 0 rfl) ?_
  refine g_get (C := R_T) (T := T_T) (N := 2) (ci := 6) (v := .int (M t 1)) hx hb hg i_T hown hK hP t (tx_lt ht) (cfC_T ht _) rfl 1 (by decide) (hg _ k_33) rfl d_T_length_1 ?_
  refine n_top (y := (nI (sl))) (hT.2.1) ?_
  exact r_i hx hb hr hlocks hP hS (⟨rfl, rfl⟩) d_T_length_4

set_option maxHeartbeats 4000000 in
set_option maxRecDepth 100000 in
theorem c_T_isEmpty (l : Launch) (D : va_G) (cI cC cZ cT : ClassId) (ad : Nat → Nat) (hI : GI 144 ad) (M : PM) (t : Nat) (ht : tx t) (sl : Nat) (sc : Nat → Nat) (hT : TT M t sl sc) (b9 : Bool) (hb9 : b9 = true ↔ sl = 0) : MD l D cI cC cZ cT ad y_T_isEmpty b_T_isEmpty 1 (some .boolean) 0 0 [.ref (ad (t))] M (fun v M' => v = some (.int (bI (b9))) ∧ M = M') := by
  refine MC.of (by decide) (Nat.le_of_ble_eq_true rfl) ?_
  intro p e s m below meth c ls hx hb hr hml hown hg hlocks hK hN hP hS hl
  have hown : s.vm.findClass R_T = some m.cls := hown
  have hl : lv_has ls 1 [(0, .ref (ad (t)))] := hl
  have hcap := hT.1
  have hc49 := capT_24 t
  refine lv_aload_n hx hb d_T_isEmpty_0 rfl (lv_at hl 0 rfl) ?_
  refine g_get (C := R_T) (T := T_T) (N := 2) (ci := 6) (v := .int (M t 1)) hx hb hg i_T hown hK hP t (tx_lt ht) (cfC_T ht _) rfl 1 (by decide) (hg _ k_33) rfl d_T_isEmpty_1 ?_
  refine n_top (y := (nI (sl))) (hT.2.1) ?_
  refine n_ifn0 (a := sl) (tgt := 11) hx hb d_T_isEmpty_4 (by decide) (by omega) (fun c_4 => ?_) (fun c_4 => ?_)
  · have h9 : b9 = false := b_f hb9 c_4
    refine n_const (k := 0) hx hb d_T_isEmpty_11 (by decide) ?_
    exact r_z hx hb hr hlocks (rfl) hP hS (⟨bz0 (h9), rfl⟩) d_T_isEmpty_12
  · have h9 : b9 = true := hb9.mpr c_4
    refine n_const (k := 1) hx hb d_T_isEmpty_7 (by decide) ?_
    refine lv_goto (tgt := 12) hx hb d_T_isEmpty_8 (by decide) ?_
    exact r_z hx hb hr hlocks (rfl) hP hS (⟨bz1 (h9), rfl⟩) d_T_isEmpty_12

set_option maxHeartbeats 4000000 in
set_option maxRecDepth 100000 in
theorem c_T_isFull (l : Launch) (D : va_G) (cI cC cZ cT : ClassId) (ad : Nat → Nat) (hI : GI 144 ad) (M : PM) (t : Nat) (ht : tx t) (sl : Nat) (sc : Nat → Nat) (hT : TT M t sl sc) (b9 : Bool) (hb9 : b9 = true ↔ capT t ≤ sl) : MD l D cI cC cZ cT ad y_T_isFull b_T_isFull 1 (some .boolean) 0 0 [.ref (ad (t))] M (fun v M' => v = some (.int (bI (b9))) ∧ M = M') := by
  refine MC.of (by decide) (Nat.le_of_ble_eq_true rfl) ?_
  intro p e s m below meth c ls hx hb hr hml hown hg hlocks hK hN hP hS hl
  have hown : s.vm.findClass R_T = some m.cls := hown
  have hl : lv_has ls 1 [(0, .ref (ad (t)))] := hl
  have hcap := hT.1
  have hc49 := capT_24 t
  refine lv_aload_n hx hb d_T_isFull_0 rfl (lv_at hl 0 rfl) ?_
  refine g_get (C := R_T) (T := T_T) (N := 2) (ci := 6) (v := .int (M t 1)) hx hb hg i_T hown hK hP t (tx_lt ht) (cfC_T ht _) rfl 1 (by decide) (hg _ k_33) rfl d_T_isFull_1 ?_
  refine n_top (y := (nI (sl))) (hT.2.1) ?_
  refine lv_aload_n hx hb d_T_isFull_4 rfl (lv_at hl 0 rfl) ?_
  refine g_get (C := R_T) (T := T_T) (N := 2) (ci := 6) (v := .ref (ad (t + 1))) hx hb hg i_T hown hK hP t (tx_lt ht) (cfC_T ht _) rfl 0 (by decide) (hg _ k_32) rfl d_T_isFull_5 ?_
  refine g_alen hx hb hK hP (t + 1) 1 (tx_lt1 ht) (cfC_A ht _) rfl d_T_isFull_8 ?_
  refine n_top (y := nI (capT (t))) rfl ?_
  refine n_lt (a := sl) (b := capT (t)) (tgt := 16) hx hb d_T_isFull_9 (by decide) (by omega) (by omega) (fun c_9 => ?_) (fun c_9 => ?_)
  · have h9 : b9 = false := b_f hb9 (by omega)
    refine n_const (k := 0) hx hb d_T_isFull_16 (by decide) ?_
    exact r_z hx hb hr hlocks (rfl) hP hS (⟨bz0 (h9), rfl⟩) d_T_isFull_17
  · have h9 : b9 = true := hb9.mpr c_9
    refine n_const (k := 1) hx hb d_T_isFull_12 (by decide) ?_
    refine lv_goto (tgt := 17) hx hb d_T_isFull_13 (by decide) ?_
    exact r_z hx hb hr hlocks (rfl) hP hS (⟨bz1 (h9), rfl⟩) d_T_isFull_17

set_option maxHeartbeats 4000000 in
set_option maxRecDepth 100000 in
theorem c_T_at (l : Launch) (D : va_G) (cI cC cZ cT : ClassId) (ad : Nat → Nat) (hI : GI 144 ad) (M : PM) (t : Nat) (ht : tx t) (sl : Nat) (sc : Nat → Nat) (hT : TT M t sl sc) (i : Nat) (hi : i < sl) : MD l D cI cC cZ cT ad y_T_at b_T_at 2 (some .char) 0 0 [.ref (ad (t)), .int (nI (i))] M (fun v M' => v = some (.int (nI (sc i))) ∧ M = M') := by
  refine MC.of (by decide) (Nat.le_of_ble_eq_true rfl) ?_
  intro p e s m below meth c ls hx hb hr hml hown hg hlocks hK hN hP hS hl
  have hown : s.vm.findClass R_T = some m.cls := hown
  have hl : lv_has ls 2 [(0, .ref (ad (t))), (1, .int (nI (i)))] := hl
  have hcap := hT.1
  have hc49 := capT_24 t
  have hsi := (hT.2.2 i hi).1
  refine lv_iload_n hx hb d_T_at_0 rfl (lv_at hl 1 rfl) ?_
  refine lv_if_lt (tgt := 21) hx hb d_T_at_1 (by decide) (fun c_1 => ?_) (fun c_1 => ?_)
  · exact absurd c_1 (nI_pos (by omega))
  · refine lv_iload_n hx hb d_T_at_4 rfl (lv_at hl 1 rfl) ?_
    refine lv_aload_n hx hb d_T_at_5 rfl (lv_at hl 0 rfl) ?_
    refine g_get (C := R_T) (T := T_T) (N := 2) (ci := 6) (v := .int (M t 1)) hx hb hg i_T hown hK hP t (tx_lt ht) (cfC_T ht _) rfl 1 (by decide) (hg _ k_33) rfl d_T_at_6 ?_
    refine n_top (y := (nI (sl))) (hT.2.1) ?_
    refine n_ge (a := i) (b := sl) (tgt := 21) hx hb d_T_at_9 (by decide) (by omega) (by omega) (fun c_9 => ?_) (fun c_9 => ?_)
    · exact absurd c_9 (by omega)
    · refine lv_aload_n hx hb d_T_at_12 rfl (lv_at hl 0 rfl) ?_
      refine g_get (C := R_T) (T := T_T) (N := 2) (ci := 6) (v := .ref (ad (t + 1))) hx hb hg i_T hown hK hP t (tx_lt ht) (cfC_T ht _) rfl 0 (by decide) (hg _ k_32) rfl d_T_at_13 ?_
      refine lv_iload_n hx hb d_T_at_16 rfl (lv_at hl 1 rfl) ?_
      refine g_cald hx hb hK hP (t + 1) 1 (tx_lt1 ht) (cfC_A ht _) rfl (capT_lt _) (j := i) (by omega) d_T_at_17 ?_
      refine n_top (y := (nI (sc (i)))) ((hT.2.2 (i) (by omega)).2) ?_
      refine lv_goto (tgt := 22) hx hb d_T_at_18 (by decide) ?_
      exact r_z hx hb hr hlocks ((pk_charN (by omega)).1) hP hS (⟨rfl, rfl⟩) d_T_at_22

set_option maxHeartbeats 4000000 in
set_option maxRecDepth 100000 in
theorem c_T_at_0 (l : Launch) (D : va_G) (cI cC cZ cT : ClassId) (ad : Nat → Nat) (hI : GI 144 ad) (M : PM) (t : Nat) (ht : tx t) (sl : Nat) (sc : Nat → Nat) (hT : TT M t sl sc) (x : Int32) (hbad : ¬ ∃ i, i < sl ∧ x = nI i) : MD l D cI cC cZ cT ad y_T_at b_T_at 2 (some .char) 0 0 [.ref (ad (t)), .int (x)] M (fun v M' => v = some (.int (nI (0))) ∧ M = M') := by
  refine MC.of (by decide) (Nat.le_of_ble_eq_true rfl) ?_
  intro p e s m below meth c ls hx hb hr hml hown hg hlocks hK hN hP hS hl
  have hown : s.vm.findClass R_T = some m.cls := hown
  have hl : lv_has ls 2 [(0, .ref (ad (t))), (1, .int (x))] := hl
  have hcap := hT.1
  have hc49 := capT_24 t
  have hcase := pk_ix x (n := sl) (by omega)
  refine lv_iload_n hx hb d_T_at_0 rfl (lv_at hl 1 rfl) ?_
  refine lv_if_lt (tgt := 21) hx hb d_T_at_1 (by decide) (fun c_1 => ?_) (fun c_1 => ?_)
  · refine n_const (k := 0) hx hb d_T_at_21 (by decide) ?_
    exact r_z hx hb hr hlocks (rfl) hP hS (⟨rfl, rfl⟩) d_T_at_22
  · refine lv_iload_n hx hb d_T_at_4 rfl (lv_at hl 1 rfl) ?_
    refine lv_aload_n hx hb d_T_at_5 rfl (lv_at hl 0 rfl) ?_
    refine g_get (C := R_T) (T := T_T) (N := 2) (ci := 6) (v := .int (M t 1)) hx hb hg i_T hown hK hP t (tx_lt ht) (cfC_T ht _) rfl 1 (by decide) (hg _ k_33) rfl d_T_at_6 ?_
    refine n_top (y := (nI (sl))) (hT.2.1) ?_
    refine lv_icmp_ge (tgt := 21) hx hb d_T_at_9 (by decide) (fun c_9 => ?_) (fun c_9 => ?_)
    · refine n_const (k := 0) hx hb d_T_at_21 (by decide) ?_
      exact r_z hx hb hr hlocks (rfl) hP hS (⟨rfl, rfl⟩) d_T_at_22
    · exact absurd (by
  rcases hcase with q | q | q
  · exact absurd q c_1
  · exact absurd q c_9
  · exact q) hbad

set_option maxHeartbeats 4000000 in
set_option maxRecDepth 100000 in
theorem c_T_empty (l : Launch) (D : va_G) (cI cC cZ cT : ClassId) (ad : Nat → Nat) (hI : GI 144 ad) (M : PM) (t : Nat) (ht : tx t) : MD l D cI cC cZ cT ad y_T_empty b_T_empty 1 none 0 0 [.ref (ad (t))] M (fun v M' => v = none ∧ M' = pu M t 1 (nI 0)) := by
  refine MC.of (by decide) (Nat.le_of_ble_eq_true rfl) ?_
  intro p e s m below meth c ls hx hb hr hml hown hg hlocks hK hN hP hS hl
  have hown : s.vm.findClass R_T = some m.cls := hown
  have hl : lv_has ls 1 [(0, .ref (ad (t)))] := hl
  refine lv_aload_n hx hb d_T_empty_0 rfl (lv_at hl 0 rfl) ?_
  refine n_const (k := 0) hx hb d_T_empty_1 (by decide) ?_
  refine g_put (C := R_T) (T := T_T) (N := 2) (ci := 6) (v := (nI (0))) hx hb hg i_T ty_T t_T_ok n_T hown hK hI (fun _ h => h) hP hS t (tx_lt ht) (cfC_T ht _) rfl 1 (by decide) (hg _ k_33) rfl (by decide +kernel) (Nat.le_of_ble_eq_true rfl) (by rw [cfC_T ht]; rfl) d_T_empty_2 (fun H locs hP hS => ?_)
  obtain ⟨M_1, eM_1⟩ : ∃ z : PM, z = (pu M t 1 ((nI (0)))) := ⟨_, rfl⟩
  rw [← eM_1] at hP
  exact r_v hx hb hr hlocks hP hS (⟨rfl, eM_1⟩) d_T_empty_5

set_option maxHeartbeats 4000000 in
set_option maxRecDepth 100000 in
theorem c_T_put (l : Launch) (D : va_G) (cI cC cZ cT : ClassId) (ad : Nat → Nat) (hI : GI 144 ad) (M : PM) (t : Nat) (ht : tx t) (sl : Nat) (sc : Nat → Nat) (hT : TT M t sl sc) (c9 : Nat) (hc9 : c9 < 128) (hs : sl < capT t) : MD l D cI cC cZ cT ad y_T_put b_T_put 2 none 0 0 [.ref (ad (t)), .int (nI (c9))] M (fun v M' => v = none ∧ M' = pu (pu M (t + 1) sl (nI c9)) t 1 (nI (sl + 1))) := by
  refine MC.of (by decide) (Nat.le_of_ble_eq_true rfl) ?_
  intro p e s m below meth c ls hx hb hr hml hown hg hlocks hK hN hP hS hl
  have hown : s.vm.findClass R_T = some m.cls := hown
  have hl : lv_has ls 2 [(0, .ref (ad (t))), (1, .int (nI (c9)))] := hl
  have hcap := hT.1
  have hc49 := capT_24 t
  refine lv_aload_n hx hb d_T_put_0 rfl (lv_at hl 0 rfl) ?_
  refine g_get (C := R_T) (T := T_T) (N := 2) (ci := 6) (v := .int (M t 1)) hx hb hg i_T hown hK hP t (tx_lt ht) (cfC_T ht _) rfl 1 (by decide) (hg _ k_33) rfl d_T_put_1 ?_
  refine n_top (y := (nI (sl))) (hT.2.1) ?_
  refine lv_aload_n hx hb d_T_put_4 rfl (lv_at hl 0 rfl) ?_
  refine g_get (C := R_T) (T := T_T) (N := 2) (ci := 6) (v := .ref (ad (t + 1))) hx hb hg i_T hown hK hP t (tx_lt ht) (cfC_T ht _) rfl 0 (by decide) (hg _ k_32) rfl d_T_put_5 ?_
  refine g_alen hx hb hK hP (t + 1) 1 (tx_lt1 ht) (cfC_A ht _) rfl d_T_put_8 ?_
  refine n_top (y := nI (capT (t))) rfl ?_
  refine n_ge (a := sl) (b := capT (t)) (tgt := 32) hx hb d_T_put_9 (by decide) (by omega) (by omega) (fun c_9 => ?_) (fun c_9 => ?_)
  · exact absurd c_9 (by omega)
  · refine lv_aload_n hx hb d_T_put_12 rfl (lv_at hl 0 rfl) ?_
    refine g_get (C := R_T) (T := T_T) (N := 2) (ci := 6) (v := .ref (ad (t + 1))) hx hb hg i_T hown hK hP t (tx_lt ht) (cfC_T ht _) rfl 0 (by decide) (hg _ k_32) rfl d_T_put_13 ?_
    refine lv_aload_n hx hb d_T_put_16 rfl (lv_at hl 0 rfl) ?_
    refine g_get (C := R_T) (T := T_T) (N := 2) (ci := 6) (v := .int (M t 1)) hx hb hg i_T hown hK hP t (tx_lt ht) (cfC_T ht _) rfl 1 (by decide) (hg _ k_33) rfl d_T_put_17 ?_
    refine n_top (y := (nI (sl))) (hT.2.1) ?_
    refine lv_iload_n hx hb d_T_put_20 rfl (lv_at hl 1 rfl) ?_
    refine g_cast hx hb hK hI (fun _ h => h) hP hS (t + 1) 1 (tx_lt1 ht) (fun _ => cfC_A ht _) rfl (capT_lt _) (j := sl) (by omega) (v := (nI (c9))) d_T_put_21 (fun H locs hP hS => ?_)
    obtain ⟨M_1, eM_1⟩ : ∃ z : PM, z = (pu M (t + 1) (sl) (vp_nar .char (nI (c9)))) := ⟨_, rfl⟩
    rw [← eM_1] at hP
    refine lv_aload_n hx hb d_T_put_22 rfl (lv_at hl 0 rfl) ?_
    refine lv_dup hx hb d_T_put_23 rfl ?_
    refine g_get (C := R_T) (T := T_T) (N := 2) (ci := 6) (v := .int (M_1 t 1)) hx hb hg i_T hown hK hP t (tx_lt ht) (cfC_T ht _) rfl 1 (by decide) (hg _ k_33) rfl d_T_put_24 ?_
    refine n_top (y := (nI (sl))) (by rw [eM_1, pu_k _ _ _ _ _ (by first | decide | omega)]; exact hT.2.1) ?_
    refine n_const (k := 1) hx hb d_T_put_27 (by decide) ?_
    refine n_iadd (a := sl) (b := 1) hx hb d_T_put_28 ?_
    refine g_put (C := R_T) (T := T_T) (N := 2) (ci := 6) (v := (nI ((sl) + (1)))) hx hb hg i_T ty_T t_T_ok n_T hown hK hI (fun _ h => h) hP hS t (tx_lt ht) (cfC_T ht _) rfl 1 (by decide) (hg _ k_33) rfl (by decide +kernel) (Nat.le_of_ble_eq_true rfl) (by rw [cfC_T ht]; rfl) d_T_put_29 (fun H locs hP hS => ?_)
    obtain ⟨M_2, eM_2⟩ : ∃ z : PM, z = (pu M_1 t 1 ((nI ((sl) + (1))))) := ⟨_, rfl⟩
    rw [← eM_2] at hP
    exact r_v hx hb hr hlocks hP hS (⟨rfl, by rw [eM_2, eM_1, nbc c9 hc9]⟩) d_T_put_32

set_option maxHeartbeats 4000000 in
set_option maxRecDepth 100000 in
theorem c_T_firstPlaceOf (l : Launch) (D : va_G) (cI cC cZ cT : ClassId) (ad : Nat → Nat) (hI : GI 144 ad) (M : PM) (t : Nat) (ht : tx t) (sl : Nat) (sc : Nat → Nat) (hT : TT M t sl sc) (c9 : Nat) (hc9 : c9 < 128) (o : Option Nat) (ho : Fst (fun i => sc i = c9) sl o) : MD l D cI cC cZ cT ad y_T_firstPlaceOf b_T_firstPlaceOf 3 (some .int) 0 0 [.ref (ad (t)), .int (nI (c9))] M (fun v M' => v = some (.int (oI (o))) ∧ M = M') := by
  refine MC.of (by decide) (Nat.le_of_ble_eq_true rfl) ?_
  intro p e s m below meth c ls hx hb hr hml hown hg hlocks hK hN hP hS hl
  have hown : s.vm.findClass R_T = some m.cls := hown
  have hl : lv_has ls 3 [(0, .ref (ad (t))), (1, .int (nI (c9)))] := hl
  have hcap := hT.1
  have hc49 := capT_24 t
  have J2 : ∀ (fu2 : Nat) (i : Nat) (H : Heap) (locs : List Loc) (ls : Array Slot), sl - i < fu2 → (i ≤ sl) → (∀ q, q < i → ¬ sc q = c9) → va_P D clsA (gw 144 ad (cfC cI cC cZ cT ad) M) H → va_S (GA 144 ad) s.heap H locs → lv_has ls 3 [(0, .ref (ad (t))), (1, .int (nI (c9))), (2, .int (nI (i)))] → W p l e (rm_ 0 0) s m ([.ref (ad (t)), .int (nI (c9))] : List Value).toArray below meth c H locs 0 0 (MQ below (GQ D 144 ad (cfC cI cC cZ cT ad) (fun v M' => v = some (.int (oI (o))) ∧ M = M')) ([.ref (ad (t)), .int (nI (c9))] : List Value).toArray s 0 0 (GA 144 ad)) (F0 m 2 ls []) := by
    intro fu2
    induction fu2 with
    | zero => intro i H locs ls hfu; exact absurd hfu (Nat.not_lt_zero _)
    | succ fu2 ih2 =>
      intro i H locs ls hfu2 hi hpv hP hS hl
      refine lv_iload_n hx hb d_T_firstPlaceOf_2 rfl (lv_at hl 2 rfl) ?_
      refine lv_aload_n hx hb d_T_firstPlaceOf_3 rfl (lv_at hl 0 rfl) ?_
      refine g_get (C := R_T) (T := T_T) (N := 2) (ci := 6) (v := .int (M t 1)) hx hb hg i_T hown hK hP t (tx_lt ht) (cfC_T ht _) rfl 1 (by decide) (hg _ k_33) rfl d_T_firstPlaceOf_4 ?_
      refine n_top (y := (nI (sl))) (hT.2.1) ?_
      refine n_ge (a := i) (b := sl) (tgt := 28) hx hb d_T_firstPlaceOf_7 (by decide) (by omega) (by omega) (fun c_7 => ?_) (fun c_7 => ?_)
      · refine lv_iconst (v := -1) hx hb d_T_firstPlaceOf_28 (by decide) ?_
        exact r_i hx hb hr hlocks hP hS (⟨by rw [ho.no (fun j hj => hpv j (by omega))]; rfl, rfl⟩) d_T_firstPlaceOf_29
      · refine lv_aload_n hx hb d_T_firstPlaceOf_10 rfl (lv_at hl 0 rfl) ?_
        refine g_get (C := R_T) (T := T_T) (N := 2) (ci := 6) (v := .ref (ad (t + 1))) hx hb hg i_T hown hK hP t (tx_lt ht) (cfC_T ht _) rfl 0 (by decide) (hg _ k_32) rfl d_T_firstPlaceOf_11 ?_
        refine lv_iload_n hx hb d_T_firstPlaceOf_14 rfl (lv_at hl 2 rfl) ?_
        refine g_cald hx hb hK hP (t + 1) 1 (tx_lt1 ht) (cfC_A ht _) rfl (capT_lt _) (j := i) (by omega) d_T_firstPlaceOf_15 ?_
        refine n_top (y := (nI (sc (i)))) ((hT.2.2 (i) (by omega)).2) ?_
        refine lv_iload_n hx hb d_T_firstPlaceOf_16 rfl (lv_at hl 1 rfl) ?_
        refine n_ne (a := sc (i)) (b := c9) (tgt := 22) hx hb d_T_firstPlaceOf_17 (by decide) (by have := (hT.2.2 i (by omega)).1; omega) (by omega) (fun c_17 => ?_) (fun c_17 => ?_)
        · refine n_inc (lv' := [(2, .int (nI (i + 1))), (0, .ref (ad (t))), (1, .int (nI (c9)))]) hx hb d_T_firstPlaceOf_22 hl (k := 2) rfl (by decide) rfl (fun ls hl => ?_)
          refine lv_goto (tgt := 2) hx hb d_T_firstPlaceOf_25 (by decide) ?_
          exact ih2 (i + 1) _ _ ls (by omega) (by omega) (lt_S hpv c_17) hP hS (lv_sub hl [1, 2, 0] rfl)
        · refine lv_iload_n hx hb d_T_firstPlaceOf_20 rfl (lv_at hl 2 rfl) ?_
          exact r_i hx hb hr hlocks hP hS (⟨by rw [ho.is (by omega) c_17 hpv]; rfl, rfl⟩) d_T_firstPlaceOf_21
  refine n_const (k := 0) hx hb d_T_firstPlaceOf_0 (by decide) ?_
  refine lv_istore_n (lv' := [(2, .int (nI (0))), (0, .ref (ad (t))), (1, .int (nI (c9)))]) hx hb d_T_firstPlaceOf_1 rfl hl (by decide) rfl (fun ls hl => ?_)
  exact J2 (_ + 1) (0) _ _ ls (Nat.lt_succ_self _) (by omega) (fun q hq => absurd hq (Nat.not_lt_zero q)) hP hS (lv_sub hl [1, 2, 0] rfl)

set_option maxHeartbeats 4000000 in
set_option maxRecDepth 100000 in
theorem c_T_goesOnBehind (l : Launch) (D : va_G) (cI cC cZ cT : ClassId) (ad : Nat → Nat) (hI : GI 144 ad) (M : PM) (t : Nat) (ht : tx t) (sl : Nat) (sc : Nat → Nat) (hT : TT M t sl sc) (u : Nat) (hu : tx u) (ul : Nat) (uc : Nat → Nat) (hU : TT M u ul uc) (b9 : Bool) (hb9 : b9 = true ↔ (ul < sl ∧ ∀ i, i < ul → sc i = uc i)) : MD l D cI cC cZ cT ad y_T_goesOnBehind b_T_goesOnBehind 3 (some .boolean) 0 0 [.ref (ad (t)), .ref (ad (u))] M (fun v M' => v = some (.int (bI (b9))) ∧ M = M') := by
  refine MC.of (by decide) (Nat.le_of_ble_eq_true rfl) ?_
  intro p e s m below meth c ls hx hb hr hml hown hg hlocks hK hN hP hS hl
  have hown : s.vm.findClass R_T = some m.cls := hown
  have hl : lv_has ls 3 [(0, .ref (ad (t))), (1, .ref (ad (u)))] := hl
  have hcap := hT.1
  have hc49 := capT_24 t
  have hcau := hU.1
  have hcu49 := capT_24 u
  have J15 : ∀ (fu15 : Nat) (i : Nat) (H : Heap) (locs : List Loc) (ls : Array Slot), ul - i < fu15 → (i ≤ ul) → (ul < sl) → (∀ q, q < i → sc q = uc q) → va_P D clsA (gw 144 ad (cfC cI cC cZ cT ad) M) H → va_S (GA 144 ad) s.heap H locs → lv_has ls 3 [(0, .ref (ad (t))), (1, .ref (ad (u))), (2, .int (nI (i)))] → W p l e (rm_ 0 0) s m ([.ref (ad (t)), .ref (ad (u))] : List Value).toArray below meth c H locs 0 0 (MQ below (GQ D 144 ad (cfC cI cC cZ cT ad) (fun v M' => v = some (.int (bI (b9))) ∧ M = M')) ([.ref (ad (t)), .ref (ad (u))] : List Value).toArray s 0 0 (GA 144 ad)) (F0 m 15 ls []) := by
    intro fu15
    induction fu15 with
    | zero => intro i H locs ls hfu; exact absurd hfu (Nat.not_lt_zero _)
    | succ fu15 ih15 =>
      intro i H locs ls hfu15 hi hlt hpv hP hS hl
      refine lv_iload_n hx hb d_T_goesOnBehind_15 rfl (lv_at hl 2 rfl) ?_
      refine lv_aload_n hx hb d_T_goesOnBehind_16 rfl (lv_at hl 1 rfl) ?_
      refine g_get (C := R_T) (T := T_T) (N := 2) (ci := 6) (v := .int (M u 1)) hx hb hg i_T hown hK hP u (tx_lt hu) (cfC_T hu _) rfl 1 (by decide) (hg _ k_33) rfl d_T_goesOnBehind_17 ?_
      refine n_top (y := (nI (ul))) (hU.2.1) ?_
      refine n_ge (a := i) (b := ul) (tgt := 46) hx hb d_T_goesOnBehind_20 (by decide) (by omega) (by omega) (fun c_20 => ?_) (fun c_20 => ?_)
      · have h9 : b9 = true := hb9.mpr ⟨hlt, fun q hq => hpv q (by omega)⟩
        refine n_const (k := 1) hx hb d_T_goesOnBehind_46 (by decide) ?_
        exact r_z hx hb hr hlocks (rfl) hP hS (⟨bz1 (h9), rfl⟩) d_T_goesOnBehind_47
      · have hsi := (hT.2.2 i (by omega)).1
        have hui := (hU.2.2 i (by omega)).1
        refine lv_aload_n hx hb d_T_goesOnBehind_23 rfl (lv_at hl 0 rfl) ?_
        refine g_get (C := R_T) (T := T_T) (N := 2) (ci := 6) (v := .ref (ad (t + 1))) hx hb hg i_T hown hK hP t (tx_lt ht) (cfC_T ht _) rfl 0 (by decide) (hg _ k_32) rfl d_T_goesOnBehind_24 ?_
        refine lv_iload_n hx hb d_T_goesOnBehind_27 rfl (lv_at hl 2 rfl) ?_
        refine g_cald hx hb hK hP (t + 1) 1 (tx_lt1 ht) (cfC_A ht _) rfl (capT_lt _) (j := i) (by omega) d_T_goesOnBehind_28 ?_
        refine n_top (y := (nI (sc (i)))) ((hT.2.2 (i) (by omega)).2) ?_
        refine lv_aload_n hx hb d_T_goesOnBehind_29 rfl (lv_at hl 1 rfl) ?_
        refine g_get (C := R_T) (T := T_T) (N := 2) (ci := 6) (v := .ref (ad (u + 1))) hx hb hg i_T hown hK hP u (tx_lt hu) (cfC_T hu _) rfl 0 (by decide) (hg _ k_32) rfl d_T_goesOnBehind_30 ?_
        refine lv_iload_n hx hb d_T_goesOnBehind_33 rfl (lv_at hl 2 rfl) ?_
        refine g_cald hx hb hK hP (u + 1) 1 (tx_lt1 hu) (cfC_A hu _) rfl (capT_lt _) (j := i) (by omega) d_T_goesOnBehind_34 ?_
        refine n_top (y := (nI (uc (i)))) ((hU.2.2 (i) (by omega)).2) ?_
        refine n_eq (a := sc (i)) (b := uc (i)) (tgt := 40) hx hb d_T_goesOnBehind_35 (by decide) (by omega) (by omega) (fun c_35 => ?_) (fun c_35 => ?_)
        · refine n_inc (lv' := [(2, .int (nI (i + 1))), (0, .ref (ad (t))), (1, .ref (ad (u)))]) hx hb d_T_goesOnBehind_40 hl (k := 2) rfl (by decide) rfl (fun ls hl => ?_)
          refine lv_goto (tgt := 15) hx hb d_T_goesOnBehind_43 (by decide) ?_
          exact ih15 (i + 1) _ _ ls (by omega) (by omega) (by omega) (lt_S hpv c_35) hP hS (lv_sub hl [1, 2, 0] rfl)
        · have h9 : b9 = false := b_f hb9 (fun h => c_35 (h.2 i (by omega)))
          refine n_const (k := 0) hx hb d_T_goesOnBehind_38 (by decide) ?_
          exact r_z hx hb hr hlocks (rfl) hP hS (⟨bz0 (h9), rfl⟩) d_T_goesOnBehind_39
  refine lv_aload_n hx hb d_T_goesOnBehind_0 rfl (lv_at hl 0 rfl) ?_
  refine g_get (C := R_T) (T := T_T) (N := 2) (ci := 6) (v := .int (M t 1)) hx hb hg i_T hown hK hP t (tx_lt ht) (cfC_T ht _) rfl 1 (by decide) (hg _ k_33) rfl d_T_goesOnBehind_1 ?_
  refine n_top (y := (nI (sl))) (hT.2.1) ?_
  refine lv_aload_n hx hb d_T_goesOnBehind_4 rfl (lv_at hl 1 rfl) ?_
  refine g_get (C := R_T) (T := T_T) (N := 2) (ci := 6) (v := .int (M u 1)) hx hb hg i_T hown hK hP u (tx_lt hu) (cfC_T hu _) rfl 1 (by decide) (hg _ k_33) rfl d_T_goesOnBehind_5 ?_
  refine n_top (y := (nI (ul))) (hU.2.1) ?_
  refine n_gt (a := sl) (b := ul) (tgt := 13) hx hb d_T_goesOnBehind_8 (by decide) (by omega) (by omega) (fun c_8 => ?_) (fun c_8 => ?_)
  · refine n_const (k := 0) hx hb d_T_goesOnBehind_13 (by decide) ?_
    refine lv_istore_n (lv' := [(2, .int (nI (0))), (0, .ref (ad (t))), (1, .ref (ad (u)))]) hx hb d_T_goesOnBehind_14 rfl hl (by decide) rfl (fun ls hl => ?_)
    exact J15 (_ + 1) (0) _ _ ls (Nat.lt_succ_self _) (by omega) (by omega) (fun q hq => absurd hq (Nat.not_lt_zero q)) hP hS (lv_sub hl [1, 2, 0] rfl)
  · have h9 : b9 = false := b_f hb9 (by omega)
    refine n_const (k := 0) hx hb d_T_goesOnBehind_11 (by decide) ?_
    exact r_z hx hb hr hlocks (rfl) hP hS (⟨bz0 (h9), rfl⟩) d_T_goesOnBehind_12
