set_option maxHeartbeats 4000000 in
set_option maxRecDepth 100000 in
theorem k_G_init (l : Launch) (D : va_G) (cI cC cZ cT : ClassId) (base k : Nat) (E : Nat → va_E) (i0 : Nat) (hi0 : i0 < k) (hE0 : E i0 = .inr (4, [.null])) : KC l D (tysC cI cC cZ cT) y_G_init b_G_init 2 1 12 1 60 base k E [.ref (base + (i0))] (k + 1) (fun E' => E' i0 = .inr (4, [.ref (base + k)]) ∧ (∃ f : Nat → Int32, (∀ q, q < 60 → f q = -1) ∧ E' k = .inl (cI, 60, .inl (f))) ∧ ∀ j, j < k → j ≠ i0 → E' j = E j) := by
  refine KC.of (by decide) rfl (Nat.le_of_ble_eq_true rfl) ?_
  intro p e s m below meth c ls hx hb hr hml hown hg hlocks hin2 hK hAO hB hS hl
  have hown : s.vm.findClass R_G = some m.cls := hown
  have hl : lv_has ls 2 [(0, .ref (base + (i0)))] := hl
  have J14 : ∀ (fu : Nat) (j : Nat) (f : Nat → Int32) (E1 : Nat → va_E) (H : Heap) (locs : List Loc) (ls : Array Slot), 60 - j < fu → j ≤ 60 → (E1 i0 = .inr (4, [.ref (base + k)])) → (E1 k = .inl (cI, 60, .inl (f))) → (∀ q, q < j → f q = -1) → (∀ q, q < k → q ≠ i0 → E1 q = E q) → CB D base (k + 1) E1 H → va_S (FB base) s.heap H locs → lv_has ls 2 [(0, .ref (base + (i0))), (1, .int (nI (j)))] → W p l e (rk_ 1 12 1 60) s m ([.ref (base + (i0))] : List Value).toArray below meth c H locs (1) (60) (MQ below (KQ D base (k + 1) (fun E' => E' i0 = .inr (4, [.ref (base + k)]) ∧ (∃ f : Nat → Int32, (∀ q, q < 60 → f q = -1) ∧ E' k = .inl (cI, 60, .inl (f))) ∧ ∀ j, j < k → j ≠ i0 → E' j = E j)) ([.ref (base + (i0))] : List Value).toArray s 1 60 (FB base)) (F0 m 14 ls []) := by
    intro fu
    induction fu with
    | zero => intro j f E1 H locs ls hfu; exact absurd hfu (Nat.not_lt_zero _)
    | succ fu ih =>
      intro j f E1 H locs ls hfu hj h0 hk hf hkp hB hS hl
      refine lv_iload_n hx hb d_G_init_14 rfl (lv_at hl 1 rfl) ?_
      refine lv_aload_n hx hb d_G_init_15 rfl (lv_at hl 0 rfl) ?_
      refine b_get (C := R_G) (T := T_G) (N := 1) (ci := 4) (v := .ref (base + (k))) hx hb hg i_G hown hK hB (i0) (by omega) (h0) rfl 0 (by decide) k_98 rfl d_G_init_16 ?_
      refine b_alen hx hb hK hB (k) 0 (by omega) (hk) rfl d_G_init_19 ?_
      refine n_top (y := nI (60)) rfl ?_
      refine n_ge (a := j) (b := 60) (tgt := 36) hx hb d_G_init_20 (by decide) (by omega) (by omega) (fun c_20 => ?_) (fun c_20 => ?_)
      · refine W.widen (k := 1) (n := 60) (by decide) (by decide) ?_
        exact b_ret hx hb hr hlocks (hB) hS (⟨h0, ⟨f, fun q hq => hf q (by omega), hk⟩, hkp⟩) d_G_init_36
      · refine lv_aload_n hx hb d_G_init_23 rfl (lv_at hl 0 rfl) ?_
        refine b_get (C := R_G) (T := T_G) (N := 1) (ci := 4) (v := .ref (base + (k))) hx hb hg i_G hown hK hB (i0) (by omega) (h0) rfl 0 (by decide) k_98 rfl d_G_init_24 ?_
        refine lv_iload_n hx hb d_G_init_27 rfl (lv_at hl 1 rfl) ?_
        refine lv_iconst (v := -1) hx hb d_G_init_28 (by decide) ?_
        refine b_iast hx hb hK hB hS (k) 0 (by omega) (hk) rfl (by decide) (j := j) (by omega) (x := (-1)) d_G_init_29 (fun H locs hB hS => ?_)
        obtain ⟨E_1, eE_1⟩ : ∃ z : Nat → va_E, z = eU E1 (k) (.inl (cI, 60, .inl (upd (f) (j) ((-1))))) := ⟨_, rfl⟩
        have hB : CB D base (k + 1) E_1 H := by rw [eE_1]; exact hB
        refine n_inc (lv' := [(1, .int (nI (j + 1))), (0, .ref (base + (i0)))]) hx hb d_G_init_30 hl (k := 1) rfl (by decide) rfl (fun ls hl => ?_)
        refine lv_goto (tgt := 14) hx hb d_G_init_33 (by decide) ?_
        refine W.widen (k := 1) (n := 60) (by omega) (by omega) ?_
        exact ih (j + 1) (upd f j (-1)) E_1 _ _ ls (by omega) (by omega) (by rw [eE_1, eU_n _ _ (by omega)]; exact h0) (by rw [eE_1, eU_s]) (fun q hq => by unfold upd; by_cases z : q = j; rw [if_pos z]; rw [if_neg z]; exact hf q (by omega)) (fun q h1 h2 => by rw [eE_1, eU_n _ _ (by omega)]; exact hkp q h1 h2) (hB) hS (lv_sub hl [1, 0] rfl)
  refine lv_aload_n hx hb d_G_init_0 rfl (lv_at hl 0 rfl) ?_
  refine W.objInit hx hb hown (hg _ ko_G) (hg _ ko_i) (hg _ ko_c) rfl (by rw [hml]; exact hl.1) rfl d_G_init_1 (Nat.le_of_ble_eq_true rfl) (Nat.le_of_ble_eq_true rfl) ?_
  refine W.eq (g2 := F0 m 4 ls []) rfl ?_
  refine lv_aload_n hx hb d_G_init_4 rfl (lv_at hl 0 rfl) ?_
  refine n_bipush (k := 60) hx hb d_G_init_5 (by decide) ?_
  refine b_newa (ty := .int) hx hb rfl hg k_78 hK hB hS 0 rfl (fun _ => rfl) (n := 60) (a0 := (60, .inl (fun _ => 0))) (fun _ => rfl) (by decide) (by decide) (by decide) (by decide) d_G_init_7 (fun H hB hS => ?_)
  obtain ⟨E_2, eE_2⟩ : ∃ z : Nat → va_E, z = eU E (k) (.inl (cI, 60, .inl (fun _ => 0))) := ⟨_, rfl⟩
  have hB : CB D base (k + 1) E_2 H := by rw [eE_2]; exact hB
  refine b_putF (C := R_G) (T := T_G) (N := 1) (ci := 4) (v := .ref (base + (k))) (ty := .array .int) hx hb hg i_G ty_G t_G_ok n_G hown hK hB hS (i0) (by omega) (by rw [eE_2, eU_n _ _ (by omega)]; exact hE0) rfl 0 (by decide) k_98 rfl hin2 rfl (by decide +kernel) rfl rfl (Nat.le_of_ble_eq_true rfl) d_G_init_9 (fun H locs hB hS => ?_)
  obtain ⟨E_3, eE_3⟩ : ∃ z : Nat → va_E, z = eU E_2 (i0) (.inr (4, [.ref (base + (k))])) := ⟨_, rfl⟩
  have hB : CB D base (k + 1) E_3 H := by rw [eE_3]; exact hB
  refine n_const (k := 0) hx hb d_G_init_12 (by decide) ?_
  refine lv_istore_n (lv' := [(1, .int (nI (0))), (0, .ref (base + (i0)))]) hx hb d_G_init_13 rfl hl (by decide) rfl (fun ls hl => ?_)
  refine W.widen (k := 1) (n := 60) (by omega) (by omega) ?_
  exact J14 (_ + 1) (0) (fun _ => 0) E_3 _ _ ls (Nat.lt_succ_self _) (by omega) (by rw [eE_3, eU_s]) (by rw [eE_3, eU_n _ _ (by omega), eE_2, eU_s]) (fun q hq => absurd hq (Nat.not_lt_zero q)) (fun q h1 h2 => by rw [eE_3, eU_n _ _ (by omega), eE_2, eU_n _ _ (by omega)]) (hB) hS (lv_sub hl [1, 0] rfl)

set_option maxHeartbeats 4000000 in
set_option maxRecDepth 100000 in
theorem k_H_init (l : Launch) (D : va_G) (cI cC cZ cT : ClassId) (base k : Nat) (E : Nat → va_E) (i0 : Nat) (hi0 : i0 < k) (i1 : Nat) (hi1 : i1 < k) (hE0 : E i0 = .inr (3, [.null, .null, .null, .int 0, .int 0])) : KC l D (tysC cI cC cZ cT) y_H_init b_H_init 3 1 12 2 120 base k E [.ref (base + (i0)), .ref (base + (i1))] (k + 2) (fun E' => E' i0 = .inr (3, [.ref (base + i1), .ref (base + k), .ref (base + (k + 1)), .int (nI 0), .int (nI 0)]) ∧ (∃ f : Nat → Int32, (∀ q, q < 60 → f q = -1) ∧ E' k = .inl (cI, 60, .inl (f))) ∧ (∃ f : Nat → Int32, (∀ q, q < 60 → f q = -1) ∧ E' (k + 1) = .inl (cI, 60, .inl (f))) ∧ ∀ j, j < k → j ≠ i0 → E' j = E j) := by
  refine KC.of (by decide) rfl (Nat.le_of_ble_eq_true rfl) ?_
  intro p e s m below meth c ls hx hb hr hml hown hg hlocks hin2 hK hAO hB hS hl
  have hown : s.vm.findClass R_H = some m.cls := hown
  have hl : lv_has ls 3 [(0, .ref (base + (i0))), (1, .ref (base + (i1)))] := hl
  have J27 : ∀ (fu : Nat) (j : Nat) (f : Nat → Int32) (g : Nat → Int32) (E1 : Nat → va_E) (H : Heap) (locs : List Loc) (ls : Array Slot), 60 - j < fu → j ≤ 60 → (E1 i0 = .inr (3, [.ref (base + (i1)), .ref (base + (k)), .ref (base + (k + 1)), .int (0), .int (0)])) → (E1 k = .inl (cI, 60, .inl (f))) → (E1 (k + 1) = .inl (cI, 60, .inl (g))) → (∀ q, q < j → f q = -1) → (∀ q, q < j → g q = -1) → (∀ q, q < k → q ≠ i0 → E1 q = E q) → CB D base (k + 2) E1 H → va_S (FB base) s.heap H locs → lv_has ls 3 [(0, .ref (base + (i0))), (2, .int (nI (j)))] → W p l e (rk_ 1 12 2 120) s m ([.ref (base + (i0)), .ref (base + (i1))] : List Value).toArray below meth c H locs (2) (120) (MQ below (KQ D base (k + 2) (fun E' => E' i0 = .inr (3, [.ref (base + i1), .ref (base + k), .ref (base + (k + 1)), .int (nI 0), .int (nI 0)]) ∧ (∃ f : Nat → Int32, (∀ q, q < 60 → f q = -1) ∧ E' k = .inl (cI, 60, .inl (f))) ∧ (∃ f : Nat → Int32, (∀ q, q < 60 → f q = -1) ∧ E' (k + 1) = .inl (cI, 60, .inl (f))) ∧ ∀ j, j < k → j ≠ i0 → E' j = E j)) ([.ref (base + (i0)), .ref (base + (i1))] : List Value).toArray s 2 120 (FB base)) (F0 m 27 ls []) := by
    intro fu
    induction fu with
    | zero => intro j f g E1 H locs ls hfu; exact absurd hfu (Nat.not_lt_zero _)
    | succ fu ih =>
      intro j f g E1 H locs ls hfu hj h0 hk hk1 hf hgg hkp hB hS hl
      refine lv_iload_n hx hb d_H_init_27 rfl (lv_at hl 1 rfl) ?_
      refine n_bipush (k := 60) hx hb d_H_init_28 (by decide) ?_
      refine n_ge (a := j) (b := 60) (tgt := 53) hx hb d_H_init_30 (by decide) (by omega) (by omega) (fun c_30 => ?_) (fun c_30 => ?_)
      · refine lv_aload_n hx hb d_H_init_53 rfl (lv_at hl 0 rfl) ?_
        refine n_const (k := 0) hx hb d_H_init_54 (by decide) ?_
        refine b_put (C := R_H) (T := T_H) (N := 5) (ci := 3) (v := .int (nI (0))) (ty := .int) hx hb hg i_H ty_H t_H_ok n_H hown hK hB hS (i0) (by omega) (h0) rfl 3 (by decide) k_65 rfl (by decide +kernel) rfl rfl (Nat.le_of_ble_eq_true rfl) d_H_init_55 (fun H locs hB hS => ?_)
        obtain ⟨E_1, eE_1⟩ : ∃ z : Nat → va_E, z = eU E1 (i0) (.inr (3, [.ref (base + (i1)), .ref (base + (k)), .ref (base + (k + 1)), .int (nI (0)), .int (0)])) := ⟨_, rfl⟩
        have hB : CB D base (k + 2) E_1 H := by rw [eE_1]; exact hB
        refine lv_aload_n hx hb d_H_init_58 rfl (lv_at hl 0 rfl) ?_
        refine n_const (k := 0) hx hb d_H_init_59 (by decide) ?_
        refine b_put (C := R_H) (T := T_H) (N := 5) (ci := 3) (v := .int (nI (0))) (ty := .int) hx hb hg i_H ty_H t_H_ok n_H hown hK hB hS (i0) (by omega) (by rw [eE_1, eU_s]) rfl 4 (by decide) k_66 rfl (by decide +kernel) rfl rfl (Nat.le_of_ble_eq_true rfl) d_H_init_60 (fun H locs hB hS => ?_)
        obtain ⟨E_2, eE_2⟩ : ∃ z : Nat → va_E, z = eU E_1 (i0) (.inr (3, [.ref (base + (i1)), .ref (base + (k)), .ref (base + (k + 1)), .int (nI (0)), .int (nI (0))])) := ⟨_, rfl⟩
        have hB : CB D base (k + 2) E_2 H := by rw [eE_2]; exact hB
        refine W.widen (k := 2) (n := 120) (by decide) (by decide) ?_
        exact b_ret hx hb hr hlocks (hB) hS (⟨by rw [eE_2, eU_s], ⟨f, fun q hq => hf q (by omega), by rw [eE_2, eU_n _ _ (by omega), eE_1, eU_n _ _ (by omega)]; exact hk⟩, ⟨g, fun q hq => hgg q (by omega), by rw [eE_2, eU_n _ _ (by omega), eE_1, eU_n _ _ (by omega)]; exact hk1⟩, fun q h1 h2 => by rw [eE_2, eU_n _ _ (by omega), eE_1, eU_n _ _ (by omega)]; exact hkp q h1 h2⟩) d_H_init_63
      · refine lv_aload_n hx hb d_H_init_33 rfl (lv_at hl 0 rfl) ?_
        refine b_get (C := R_H) (T := T_H) (N := 5) (ci := 3) (v := .ref (base + (k))) hx hb hg i_H hown hK hB (i0) (by omega) (h0) rfl 1 (by decide) k_63 rfl d_H_init_34 ?_
        refine lv_iload_n hx hb d_H_init_37 rfl (lv_at hl 1 rfl) ?_
        refine lv_iconst (v := -1) hx hb d_H_init_38 (by decide) ?_
        refine b_iast hx hb hK hB hS (k) 0 (by omega) (hk) rfl (by decide) (j := j) (by omega) (x := (-1)) d_H_init_39 (fun H locs hB hS => ?_)
        obtain ⟨E_3, eE_3⟩ : ∃ z : Nat → va_E, z = eU E1 (k) (.inl (cI, 60, .inl (upd (f) (j) ((-1))))) := ⟨_, rfl⟩
        have hB : CB D base (k + 2) E_3 H := by rw [eE_3]; exact hB
        refine lv_aload_n hx hb d_H_init_40 rfl (lv_at hl 0 rfl) ?_
        refine b_get (C := R_H) (T := T_H) (N := 5) (ci := 3) (v := .ref (base + (k + 1))) hx hb hg i_H hown hK hB (i0) (by omega) (by rw [eE_3, eU_n _ _ (by omega)]; exact h0) rfl 2 (by decide) k_64 rfl d_H_init_41 ?_
        refine lv_iload_n hx hb d_H_init_44 rfl (lv_at hl 1 rfl) ?_
        refine lv_iconst (v := -1) hx hb d_H_init_45 (by decide) ?_
        refine b_iast hx hb hK hB hS (k + 1) 0 (by omega) (by rw [eE_3, eU_n _ _ (by omega)]; exact hk1) rfl (by decide) (j := j) (by omega) (x := (-1)) d_H_init_46 (fun H locs hB hS => ?_)
        obtain ⟨E_4, eE_4⟩ : ∃ z : Nat → va_E, z = eU E_3 (k + 1) (.inl (cI, 60, .inl (upd (g) (j) ((-1))))) := ⟨_, rfl⟩
        have hB : CB D base (k + 2) E_4 H := by rw [eE_4]; exact hB
        refine n_inc (lv' := [(2, .int (nI (j + 1))), (0, .ref (base + (i0)))]) hx hb d_H_init_47 hl (k := 1) rfl (by decide) rfl (fun ls hl => ?_)
        refine lv_goto (tgt := 27) hx hb d_H_init_50 (by decide) ?_
        refine W.widen (k := 2) (n := 120) (by omega) (by omega) ?_
        exact ih (j + 1) (upd f j (-1)) (upd g j (-1)) E_4 _ _ ls (by omega) (by omega) (by rw [eE_4, eU_n _ _ (by omega), eE_3, eU_n _ _ (by omega)]; exact h0) (by rw [eE_4, eU_n _ _ (by omega), eE_3, eU_s]) (by rw [eE_4, eU_s]) (fun q hq => by unfold upd; by_cases z : q = j; rw [if_pos z]; rw [if_neg z]; exact hf q (by omega)) (fun q hq => by unfold upd; by_cases z : q = j; rw [if_pos z]; rw [if_neg z]; exact hgg q (by omega)) (fun q h1 h2 => by rw [eE_4, eU_n _ _ (by omega), eE_3, eU_n _ _ (by omega)]; exact hkp q h1 h2) (hB) hS (lv_sub hl [1, 0] rfl)
  refine lv_aload_n hx hb d_H_init_0 rfl (lv_at hl 0 rfl) ?_
  refine W.objInit hx hb hown (hg _ ko_H) (hg _ ko_i) (hg _ ko_c) rfl (by rw [hml]; exact hl.1) rfl d_H_init_1 (Nat.le_of_ble_eq_true rfl) (Nat.le_of_ble_eq_true rfl) ?_
  refine W.eq (g2 := F0 m 4 ls []) rfl ?_
  refine lv_aload_n hx hb d_H_init_4 rfl (lv_at hl 0 rfl) ?_
  refine lv_aload_n hx hb d_H_init_5 rfl (lv_at hl 1 rfl) ?_
  refine b_putF (C := R_H) (T := T_H) (N := 5) (ci := 3) (v := .ref (base + (i1))) (ty := .object "NameRules$Names") hx hb hg i_H ty_H t_H_ok n_H hown hK hB hS (i0) (by omega) (hE0) rfl 0 (by decide) k_62 rfl hin2 rfl (by decide +kernel) rfl rfl (Nat.le_of_ble_eq_true rfl) d_H_init_6 (fun H locs hB hS => ?_)
  obtain ⟨E_5, eE_5⟩ : ∃ z : Nat → va_E, z = eU E (i0) (.inr (3, [.ref (base + (i1)), .null, .null, .int (0), .int (0)])) := ⟨_, rfl⟩
  have hB : CB D base (k) E_5 H := by rw [eE_5]; exact hB
  refine lv_aload_n hx hb d_H_init_9 rfl (lv_at hl 0 rfl) ?_
  refine n_bipush (k := 60) hx hb d_H_init_10 (by decide) ?_
  refine b_newa (ty := .int) hx hb rfl hg k_78 hK hB hS 0 rfl (fun _ => rfl) (n := 60) (a0 := (60, .inl (fun _ => 0))) (fun _ => rfl) (by decide) (by decide) (by decide) (by decide) d_H_init_12 (fun H hB hS => ?_)
  obtain ⟨E_6, eE_6⟩ : ∃ z : Nat → va_E, z = eU E_5 (k) (.inl (cI, 60, .inl (fun _ => 0))) := ⟨_, rfl⟩
  have hB : CB D base (k + 1) E_6 H := by rw [eE_6]; exact hB
  refine b_putF (C := R_H) (T := T_H) (N := 5) (ci := 3) (v := .ref (base + (k))) (ty := .array .int) hx hb hg i_H ty_H t_H_ok n_H hown hK hB hS (i0) (by omega) (by rw [eE_6, eU_n _ _ (by omega), eE_5, eU_s]) rfl 1 (by decide) k_63 rfl hin2 rfl (by decide +kernel) rfl rfl (Nat.le_of_ble_eq_true rfl) d_H_init_14 (fun H locs hB hS => ?_)
  obtain ⟨E_7, eE_7⟩ : ∃ z : Nat → va_E, z = eU E_6 (i0) (.inr (3, [.ref (base + (i1)), .ref (base + (k)), .null, .int (0), .int (0)])) := ⟨_, rfl⟩
  have hB : CB D base (k + 1) E_7 H := by rw [eE_7]; exact hB
  refine lv_aload_n hx hb d_H_init_17 rfl (lv_at hl 0 rfl) ?_
  refine n_bipush (k := 60) hx hb d_H_init_18 (by decide) ?_
  refine b_newa (ty := .int) hx hb rfl hg k_78 hK hB hS 0 rfl (fun _ => rfl) (n := 60) (a0 := (60, .inl (fun _ => 0))) (fun _ => rfl) (by decide) (by decide) (by decide) (by decide) d_H_init_20 (fun H hB hS => ?_)
  obtain ⟨E_8, eE_8⟩ : ∃ z : Nat → va_E, z = eU E_7 (k + 1) (.inl (cI, 60, .inl (fun _ => 0))) := ⟨_, rfl⟩
  have hB : CB D base (k + 2) E_8 H := by rw [eE_8]; exact hB
  refine b_putF (C := R_H) (T := T_H) (N := 5) (ci := 3) (v := .ref (base + (k + 1))) (ty := .array .int) hx hb hg i_H ty_H t_H_ok n_H hown hK hB hS (i0) (by omega) (by rw [eE_8, eU_n _ _ (by omega), eE_7, eU_s]) rfl 2 (by decide) k_64 rfl hin2 rfl (by decide +kernel) rfl rfl (Nat.le_of_ble_eq_true rfl) d_H_init_22 (fun H locs hB hS => ?_)
  obtain ⟨E_9, eE_9⟩ : ∃ z : Nat → va_E, z = eU E_8 (i0) (.inr (3, [.ref (base + (i1)), .ref (base + (k)), .ref (base + (k + 1)), .int (0), .int (0)])) := ⟨_, rfl⟩
  have hB : CB D base (k + 2) E_9 H := by rw [eE_9]; exact hB
  refine n_const (k := 0) hx hb d_H_init_25 (by decide) ?_
  refine lv_istore_n (lv' := [(2, .int (nI (0))), (0, .ref (base + (i0))), (1, .ref (base + (i1)))]) hx hb d_H_init_26 rfl hl (by decide) rfl (fun ls hl => ?_)
  refine W.widen (k := 2) (n := 120) (by omega) (by omega) ?_
  exact J27 (_ + 1) (0) (fun _ => 0) (fun _ => 0) E_9 _ _ ls (Nat.lt_succ_self _) (by omega) (by rw [eE_9, eU_s]) (by rw [eE_9, eU_n _ _ (by omega), eE_8, eU_n _ _ (by omega), eE_7, eU_n _ _ (by omega), eE_6, eU_s]) (by rw [eE_9, eU_n _ _ (by omega), eE_8, eU_s]) (fun q hq => absurd hq (Nat.not_lt_zero q)) (fun q hq => absurd hq (Nat.not_lt_zero q)) (fun q h1 h2 => by rw [eE_9, eU_n _ _ (by omega), eE_8, eU_n _ _ (by omega), eE_7, eU_n _ _ (by omega), eE_6, eU_n _ _ (by omega), eE_5, eU_n _ _ (by omega)]) (hB) hS (lv_sub hl [1, 0] rfl)

set_option maxHeartbeats 4000000 in
set_option maxRecDepth 100000 in
theorem k_N_init (l : Launch) (D : va_G) (cI cC cZ cT : ClassId) (base k : Nat) (E : Nat → va_E) (i0 : Nat) (hi0 : i0 < k) (hE0 : E i0 = .inr (0, [.null, .int 0])) : KC l D (tysC cI cC cZ cT) y_N_init b_N_init 2 2 33 121 3120 base k E [.ref (base + (i0))] (k + 121) (fun E' => E' i0 = .inr (0, [.ref (base + k), .int (nI 0)]) ∧ (∃ f : Nat → Option Nat, (∀ q, q < 60 → f q = some (base + (k + 1 + 2 * q))) ∧ E' k = .inl (cT, 60, .inr (.inr (.inr (.inr (f)))))) ∧ (∀ q, q < 60 → E' (k + 1 + 2 * q) = .inr (6, [.ref (base + (k + 1 + 2 * q + 1)), .int (nI 0)]) ∧ E' (k + 1 + 2 * q + 1) = .inl (cC, 24, .inl (fun _ => 0))) ∧ ∀ j, j < k → j ≠ i0 → E' j = E j) := by
  refine KC.of (by decide) rfl (Nat.le_of_ble_eq_true rfl) ?_
  intro p e s m below meth c ls hx hb hr hml hown hg hlocks hin2 hK hAO hB hS hl
  have hown : s.vm.findClass R_N = some m.cls := hown
  have hl : lv_has ls 2 [(0, .ref (base + (i0)))] := hl
  have J15 : ∀ (fu : Nat) (j : Nat) (f : Nat → Option Nat) (E1 : Nat → va_E) (H : Heap) (locs : List Loc) (ls : Array Slot), 60 - j < fu → j ≤ 60 → (E1 i0 = .inr (0, [.ref (base + (k)), .int (0)])) → (E1 k = .inl (cT, 60, .inr (.inr (.inr (.inr (f)))))) → (∀ q, q < j → f q = some (base + (k + 1 + 2 * q))) → (∀ q, q < j → E1 (k + 1 + 2 * q) = .inr (6, [.ref (base + (k + 1 + 2 * q + 1)), .int (nI 0)]) ∧ E1 (k + 1 + 2 * q + 1) = .inl (cC, 24, .inl (fun _ => 0))) → (∀ q, q < k → q ≠ i0 → E1 q = E q) → CB D base (k + 1 + 2 * j) E1 H → va_S (FB base) s.heap H locs → lv_has ls 2 [(0, .ref (base + (i0))), (1, .int (nI (j)))] → W p l e (rk_ 2 33 121 3120) s m ([.ref (base + (i0))] : List Value).toArray below meth c H locs (1 + 2 * j) (60 + 51 * j) (MQ below (KQ D base (k + 121) (fun E' => E' i0 = .inr (0, [.ref (base + k), .int (nI 0)]) ∧ (∃ f : Nat → Option Nat, (∀ q, q < 60 → f q = some (base + (k + 1 + 2 * q))) ∧ E' k = .inl (cT, 60, .inr (.inr (.inr (.inr (f)))))) ∧ (∀ q, q < 60 → E' (k + 1 + 2 * q) = .inr (6, [.ref (base + (k + 1 + 2 * q + 1)), .int (nI 0)]) ∧ E' (k + 1 + 2 * q + 1) = .inl (cC, 24, .inl (fun _ => 0))) ∧ ∀ j, j < k → j ≠ i0 → E' j = E j)) ([.ref (base + (i0))] : List Value).toArray s 121 3120 (FB base)) (F0 m 15 ls []) := by
    intro fu
    induction fu with
    | zero => intro j f E1 H locs ls hfu; exact absurd hfu (Nat.not_lt_zero _)
    | succ fu ih =>
      intro j f E1 H locs ls hfu hj h0 hk hf ht hkp hB hS hl
      refine lv_iload_n hx hb d_N_init_15 rfl (lv_at hl 1 rfl) ?_
      refine lv_aload_n hx hb d_N_init_16 rfl (lv_at hl 0 rfl) ?_
      refine b_get (C := R_N) (T := T_N) (N := 2) (ci := 0) (v := .ref (base + (k))) hx hb hg i_N hown hK hB (i0) (by omega) (h0) rfl 0 (by decide) k_49 rfl d_N_init_17 ?_
      refine b_alen hx hb hK hB (k) 3 (by omega) (hk) rfl d_N_init_20 ?_
      refine n_top (y := nI (60)) rfl ?_
      refine n_ge (a := j) (b := 60) (tgt := 45) hx hb d_N_init_21 (by decide) (by omega) (by omega) (fun c_21 => ?_) (fun c_21 => ?_)
      · refine lv_aload_n hx hb d_N_init_45 rfl (lv_at hl 0 rfl) ?_
        refine n_const (k := 0) hx hb d_N_init_46 (by decide) ?_
        refine b_put (C := R_N) (T := T_N) (N := 2) (ci := 0) (v := .int (nI (0))) (ty := .int) hx hb hg i_N ty_N t_N_ok n_N hown hK hB hS (i0) (by omega) (h0) rfl 1 (by decide) k_50 rfl (by decide +kernel) rfl rfl (Nat.le_of_ble_eq_true rfl) d_N_init_47 (fun H locs hB hS => ?_)
        obtain ⟨E_1, eE_1⟩ : ∃ z : Nat → va_E, z = eU E1 (i0) (.inr (0, [.ref (base + (k)), .int (nI (0))])) := ⟨_, rfl⟩
        have hB : CB D base (k + 1 + 2 * j) E_1 H := by rw [eE_1]; exact hB
        refine W.widen (k := 121) (n := 3120) (show 1 + 2 * j ≤ 121 by omega) (show 60 + 51 * j ≤ 3120 by omega) ?_
        exact b_ret hx hb hr hlocks (by rw [show k + 121 = k + 1 + 2 * j by omega]; exact hB) hS (⟨by rw [eE_1, eU_s], ⟨f, fun q hq => hf q (by omega), by rw [eE_1, eU_n _ _ (by omega)]; exact hk⟩, fun q hq => ⟨by rw [eE_1, eU_n _ _ (by omega)]; exact (ht q (by omega)).1, by rw [eE_1, eU_n _ _ (by omega)]; exact (ht q (by omega)).2⟩, fun q h1 h2 => by rw [eE_1, eU_n _ _ (by omega)]; exact hkp q h1 h2⟩) d_N_init_50
      · refine lv_aload_n hx hb d_N_init_24 rfl (lv_at hl 0 rfl) ?_
        refine b_get (C := R_N) (T := T_N) (N := 2) (ci := 0) (v := .ref (base + (k))) hx hb hg i_N hown hK hB (i0) (by omega) (h0) rfl 0 (by decide) k_49 rfl d_N_init_25 ?_
        refine lv_iload_n hx hb d_N_init_28 rfl (lv_at hl 1 rfl) ?_
        refine b_new (C := R_T) (T := T_T) (N := 2) (ci := 6) (fs := [.null, .int (0)]) hx hb hg i_T ty_T t_T_ok hown k_46 k_27 k_2 hK hB hS rfl (by decide) (show 1 + 2 * j + 1 ≤ 121 by omega) (show 60 + 51 * j + 2 ≤ 3120 by omega) d_N_init_29 (fun H hB hS => ?_)
        obtain ⟨E_2, eE_2⟩ : ∃ z : Nat → va_E, z = eU E1 (k + 1 + 2 * j) (.inr (6, [.null, .int (0)])) := ⟨_, rfl⟩
        have hB : CB D base (k + 1 + 2 * j + 1) E_2 H := by rw [eE_2]; exact hB
        refine lv_dup hx hb d_N_init_32 rfl ?_
        refine n_bipush (k := 24) hx hb d_N_init_33 (by decide) ?_
        refine b_call (own := R_N) (index := 17) (As := [.int (nI (24))]) (rest := [.ref (base + (k + 1 + 2 * j)), .int (nI (j)), .ref (base + (k))]) hx hb hml hown hg hK hAO hB (fun _ h => h) hS (k_T_init l D cI cC cZ cT base (k + 1 + 2 * j + 1) E_2 (k + 1 + 2 * j) (by omega) (by rw [eE_2, eU_s]) 24 (by decide)) rfl k_48 k_29 k_2 k_30 1 rfl (by decide +kernel) ⟨by decide, by decide, (show 1 + 2 * j + 1 + 1 ≤ 121 by omega), (show 60 + 51 * j + 2 + 49 ≤ 3120 by omega)⟩ rfl hl.1 (Nat.le_of_ble_eq_true rfl) d_N_init_35 (fun E_3 H locs hq hB _ hS => ?_)
        obtain ⟨q3a, q3b, q3c⟩ := hq
        have hB : CB D base (k + 1 + 2 * j + 2) E_3 H := hB
        refine b_aast (r := (R_T, T_T, 2)) hx hb hK hB hS (k) 3 (k + 1 + 2 * j) 6 (by omega) (by omega) (by rw [q3c _ (by omega) (by omega), eE_2, eU_n _ _ (by omega)]; exact hk) rfl (q3a) rfl (by decide) (j := j) (by omega) d_N_init_38 (fun H locs hB hS => ?_)
        obtain ⟨E_4, eE_4⟩ : ∃ z : Nat → va_E, z = eU E_3 (k) (.inl (cT, 60, .inr (.inr (.inr (.inr (va_up (f) (j) (some (base + (k + 1 + 2 * j))))))))) := ⟨_, rfl⟩
        have hB : CB D base (k + 1 + 2 * j + 2) E_4 H := by rw [eE_4]; exact hB
        refine n_inc (lv' := [(1, .int (nI (j + 1))), (0, .ref (base + (i0)))]) hx hb d_N_init_39 hl (k := 1) rfl (by decide) rfl (fun ls hl => ?_)
        refine lv_goto (tgt := 15) hx hb d_N_init_42 (by decide) ?_
        refine W.widen (k := 1 + 2 * (j + 1)) (n := 60 + 51 * (j + 1)) (by omega) (by omega) ?_
        exact ih (j + 1) (va_up f j (some (base + (k + 1 + 2 * j)))) E_4 _ _ ls (by omega) (by omega) (by rw [eE_4, eU_n _ _ (by omega), q3c _ (by omega) (by omega), eE_2, eU_n _ _ (by omega)]; exact h0) (by rw [eE_4, eU_s]) (lt_S (fun q hq => by rw [va_up_ne _ _ (by omega)]; exact hf q hq) (va_up_self _ _ _)) (lt_S (fun q hq => ⟨by rw [eE_4, eU_n _ _ (by omega), q3c _ (by omega) (by omega), eE_2, eU_n _ _ (by omega)]; exact (ht q hq).1, by rw [eE_4, eU_n _ _ (by omega), q3c _ (by omega) (by omega), eE_2, eU_n _ _ (by omega)]; exact (ht q hq).2⟩) ⟨by rw [eE_4, eU_n _ _ (by omega)]; exact q3a, by rw [eE_4, eU_n _ _ (by omega)]; exact q3b⟩) (fun q h1 h2 => by rw [eE_4, eU_n _ _ (by omega), q3c _ (by omega) (by omega), eE_2, eU_n _ _ (by omega)]; exact hkp q h1 h2) (by rw [show k + 1 + 2 * (j + 1) = k + 1 + 2 * j + 2 by omega]; exact hB) hS (lv_sub hl [1, 0] rfl)
  refine lv_aload_n hx hb d_N_init_0 rfl (lv_at hl 0 rfl) ?_
  refine W.objInit hx hb hown (hg _ ko_N) (hg _ ko_i) (hg _ ko_c) rfl (by rw [hml]; exact hl.1) rfl d_N_init_1 (Nat.le_of_ble_eq_true rfl) (Nat.le_of_ble_eq_true rfl) ?_
  refine W.eq (g2 := F0 m 4 ls []) rfl ?_
  refine lv_aload_n hx hb d_N_init_4 rfl (lv_at hl 0 rfl) ?_
  refine n_bipush (k := 60) hx hb d_N_init_5 (by decide) ?_
  refine b_anew (C := "NameRules$Text") hx hb hown hg k_46 hAO hK hB hS 3 rfl (n := 60) (by decide) (by decide) (by decide) (by decide) d_N_init_7 (fun H hB hS => ?_)
  obtain ⟨E_5, eE_5⟩ : ∃ z : Nat → va_E, z = eU E (k) (.inl (cT, 60, .inr (.inr (.inr (.inr (fun _ => none)))))) := ⟨_, rfl⟩
  have hB : CB D base (k + 1) E_5 H := by rw [eE_5]; exact hB
  refine b_putF (C := R_N) (T := T_N) (N := 2) (ci := 0) (v := .ref (base + (k))) (ty := .array (.object "NameRules$Text")) hx hb hg i_N ty_N t_N_ok n_N hown hK hB hS (i0) (by omega) (by rw [eE_5, eU_n _ _ (by omega)]; exact hE0) rfl 0 (by decide) k_49 rfl hin2 rfl (by decide +kernel) rfl rfl (Nat.le_of_ble_eq_true rfl) d_N_init_10 (fun H locs hB hS => ?_)
  obtain ⟨E_6, eE_6⟩ : ∃ z : Nat → va_E, z = eU E_5 (i0) (.inr (0, [.ref (base + (k)), .int (0)])) := ⟨_, rfl⟩
  have hB : CB D base (k + 1) E_6 H := by rw [eE_6]; exact hB
  refine n_const (k := 0) hx hb d_N_init_13 (by decide) ?_
  refine lv_istore_n (lv' := [(1, .int (nI (0))), (0, .ref (base + (i0)))]) hx hb d_N_init_14 rfl hl (by decide) rfl (fun ls hl => ?_)
  refine W.widen (k := 1 + 2 * (0)) (n := 60 + 51 * (0)) (by omega) (by omega) ?_
  exact J15 (_ + 1) (0) (fun _ => none) E_6 _ _ ls (Nat.lt_succ_self _) (by omega) (by rw [eE_6, eU_s]) (by rw [eE_6, eU_n _ _ (by omega), eE_5, eU_s]) (fun q hq => absurd hq (Nat.not_lt_zero q)) (fun q hq => absurd hq (Nat.not_lt_zero q)) (fun q h1 h2 => by rw [eE_6, eU_n _ _ (by omega), eE_5, eU_n _ _ (by omega)]) (hB) hS (lv_sub hl [1, 0] rfl)
