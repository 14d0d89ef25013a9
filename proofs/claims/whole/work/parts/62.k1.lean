theorem ko_i : Cond.instanceMethod Lib.objectInit ∈ GW := by decide +kernel
theorem ko_c : Cond.code Lib.objectInit ⟨#[0xb1]⟩ 1 none ∈ GW := by decide +kernel
theorem ko_N : Cond.methodLink "NameRules$Names" 3 Lib.objectInit ∈ GW := by decide +kernel
theorem ko_R : Cond.methodLink "NameRules$Renames" 3 Lib.objectInit ∈ GW := by decide +kernel
theorem ko_W : Cond.methodLink "NameRules$Rows" 3 Lib.objectInit ∈ GW := by decide +kernel
theorem ko_H : Cond.methodLink "NameRules$Shorts" 3 Lib.objectInit ∈ GW := by decide +kernel
theorem ko_G : Cond.methodLink "NameRules$Standing" 3 Lib.objectInit ∈ GW := by decide +kernel
theorem ko_E : Cond.methodLink "NameRules$Steps" 3 Lib.objectInit ∈ GW := by decide +kernel
theorem ko_T : Cond.methodLink "NameRules$Text" 3 Lib.objectInit ∈ GW := by decide +kernel
theorem ko_C : Cond.methodLink "NameRules" 3 Lib.objectInit ∈ GW := by decide +kernel
theorem ko_M : Cond.methodLink "NameRulesModel" 1 Lib.objectInit ∈ GW := by decide +kernel
set_option maxHeartbeats 4000000 in
set_option maxRecDepth 100000 in
theorem k_T_init (l : Launch) (D : va_G) (cI cC cZ cT : ClassId) (base k : Nat) (E : Nat → va_E) (i0 : Nat) (hi0 : i0 < k) (hE0 : E i0 = .inr (6, [.null, .int 0])) (n : Nat) (hn : n ≤ 49) : KC l D (tysC cI cC cZ cT) y_T_init b_T_init 2 1 12 1 49 base k E [.ref (base + (i0)), .int (nI (n))] (k + 1) (fun E' => E' i0 = .inr (6, [.ref (base + k), .int (nI 0)]) ∧ E' k = .inl (cC, n, .inl (fun _ => 0)) ∧ ∀ j, j < k → j ≠ i0 → E' j = E j) := by
  refine KC.of (by decide) rfl (Nat.le_of_ble_eq_true rfl) ?_
  intro p e s m below meth c ls hx hb hr hml hown hg hlocks hin2 hK hAO hB hS hl
  have hown : s.vm.findClass R_T = some m.cls := hown
  have hl : lv_has ls 2 [(0, .ref (base + (i0))), (1, .int (nI (n)))] := hl
  refine lv_aload_n hx hb d_T_init_0 rfl (lv_at hl 0 rfl) ?_
  refine W.objInit hx hb hown (hg _ ko_T) (hg _ ko_i) (hg _ ko_c) rfl (by rw [hml]; exact hl.1) rfl d_T_init_1 (Nat.le_of_ble_eq_true rfl) (Nat.le_of_ble_eq_true rfl) ?_
  refine W.eq (g2 := F0 m 4 ls []) rfl ?_
  refine lv_aload_n hx hb d_T_init_4 rfl (lv_at hl 0 rfl) ?_
  refine lv_iload_n hx hb d_T_init_5 rfl (lv_at hl 1 rfl) ?_
  refine b_newa (ty := .char) hx hb rfl hg k_39 hK hB hS 1 rfl (fun _ => rfl) (n := n) (a0 := (n, .inl (fun _ => 0))) (fun _ => rfl) (by omega) (Nat.le_trans (Nat.mul_le_mul_right _ hn) (by decide)) (by decide) (show 0 + n ≤ 49 by omega) d_T_init_6 (fun H hB hS => ?_)
  obtain ⟨E_1, eE_1⟩ : ∃ z : Nat → va_E, z = eU E (k) (.inl (cC, n, .inl (fun _ => 0))) := ⟨_, rfl⟩
  have hB : CB D base (k + 1) E_1 H := by rw [eE_1]; exact hB
  refine b_putF (C := R_T) (T := T_T) (N := 2) (ci := 6) (v := .ref (base + (k))) (ty := .array .char) hx hb hg i_T ty_T t_T_ok n_T hown hK hB hS (i0) (by omega) (by rw [eE_1, eU_n _ _ (by omega)]; exact hE0) rfl 0 (by decide) k_32 rfl hin2 rfl (by decide +kernel) rfl rfl (Nat.le_of_ble_eq_true rfl) d_T_init_8 (fun H locs hB hS => ?_)
  obtain ⟨E_2, eE_2⟩ : ∃ z : Nat → va_E, z = eU E_1 (i0) (.inr (6, [.ref (base + (k)), .int (0)])) := ⟨_, rfl⟩
  have hB : CB D base (k + 1) E_2 H := by rw [eE_2]; exact hB
  refine lv_aload_n hx hb d_T_init_11 rfl (lv_at hl 0 rfl) ?_
  refine n_const (k := 0) hx hb d_T_init_12 (by decide) ?_
  refine b_put (C := R_T) (T := T_T) (N := 2) (ci := 6) (v := .int (nI (0))) (ty := .int) hx hb hg i_T ty_T t_T_ok n_T hown hK hB hS (i0) (by omega) (by rw [eE_2, eU_s]) rfl 1 (by decide) k_33 rfl (by decide +kernel) rfl rfl (Nat.le_of_ble_eq_true rfl) d_T_init_13 (fun H locs hB hS => ?_)
  obtain ⟨E_3, eE_3⟩ : ∃ z : Nat → va_E, z = eU E_2 (i0) (.inr (6, [.ref (base + (k)), .int (nI (0))])) := ⟨_, rfl⟩
  have hB : CB D base (k + 1) E_3 H := by rw [eE_3]; exact hB
  refine W.widen (k := 1) (n := 49) (by decide) (show 0 + n ≤ 49 by omega) ?_
  exact b_ret hx hb hr hlocks (hB) hS (⟨by rw [eE_3, eU_s], by rw [eE_3, eU_n _ _ (by omega), eE_2, eU_n _ _ (by omega), eE_1, eU_s], fun j h1 h2 => by rw [eE_3, eU_n _ _ (by omega), eE_2, eU_n _ _ (by omega), eE_1, eU_n _ _ (by omega)]⟩) d_T_init_16

set_option maxHeartbeats 4000000 in
set_option maxRecDepth 100000 in
theorem k_E_init (l : Launch) (D : va_G) (cI cC cZ cT : ClassId) (base k : Nat) (E : Nat → va_E) (i0 : Nat) (hi0 : i0 < k) (hE0 : E i0 = .inr (5, [.null])) : KC l D (tysC cI cC cZ cT) y_E_init b_E_init 1 1 12 1 25 base k E [.ref (base + (i0))] (k + 1) (fun E' => E' i0 = .inr (5, [.ref (base + k)]) ∧ E' k = .inl (cI, 25, .inl (fun _ => 0)) ∧ ∀ j, j < k → j ≠ i0 → E' j = E j) := by
  refine KC.of (by decide) rfl (Nat.le_of_ble_eq_true rfl) ?_
  intro p e s m below meth c ls hx hb hr hml hown hg hlocks hin2 hK hAO hB hS hl
  have hown : s.vm.findClass R_E = some m.cls := hown
  have hl : lv_has ls 1 [(0, .ref (base + (i0)))] := hl
  refine lv_aload_n hx hb d_E_init_0 rfl (lv_at hl 0 rfl) ?_
  refine W.objInit hx hb hown (hg _ ko_E) (hg _ ko_i) (hg _ ko_c) rfl (by rw [hml]; exact hl.1) rfl d_E_init_1 (Nat.le_of_ble_eq_true rfl) (Nat.le_of_ble_eq_true rfl) ?_
  refine W.eq (g2 := F0 m 4 ls []) rfl ?_
  refine lv_aload_n hx hb d_E_init_4 rfl (lv_at hl 0 rfl) ?_
  refine n_bipush (k := 25) hx hb d_E_init_5 (by decide) ?_
  refine b_newa (ty := .int) hx hb rfl hg k_78 hK hB hS 0 rfl (fun _ => rfl) (n := 25) (a0 := (25, .inl (fun _ => 0))) (fun _ => rfl) (by decide) (by decide) (by decide) (by decide) d_E_init_7 (fun H hB hS => ?_)
  obtain ⟨E_1, eE_1⟩ : ∃ z : Nat → va_E, z = eU E (k) (.inl (cI, 25, .inl (fun _ => 0))) := ⟨_, rfl⟩
  have hB : CB D base (k + 1) E_1 H := by rw [eE_1]; exact hB
  refine b_putF (C := R_E) (T := T_E) (N := 1) (ci := 5) (v := .ref (base + (k))) (ty := .array .int) hx hb hg i_E ty_E t_E_ok n_E hown hK hB hS (i0) (by omega) (by rw [eE_1, eU_n _ _ (by omega)]; exact hE0) rfl 0 (by decide) k_124 rfl hin2 rfl (by decide +kernel) rfl rfl (Nat.le_of_ble_eq_true rfl) d_E_init_9 (fun H locs hB hS => ?_)
  obtain ⟨E_2, eE_2⟩ : ∃ z : Nat → va_E, z = eU E_1 (i0) (.inr (5, [.ref (base + (k))])) := ⟨_, rfl⟩
  have hB : CB D base (k + 1) E_2 H := by rw [eE_2]; exact hB
  refine W.widen (k := 1) (n := 25) (by decide) (by decide) ?_
  exact b_ret hx hb hr hlocks (hB) hS (⟨by rw [eE_2, eU_s], by rw [eE_2, eU_n _ _ (by omega), eE_1, eU_s], fun j h1 h2 => by rw [eE_2, eU_n _ _ (by omega), eE_1, eU_n _ _ (by omega)]⟩) d_E_init_12

set_option maxHeartbeats 4000000 in
set_option maxRecDepth 100000 in
theorem k_W_init (l : Launch) (D : va_G) (cI cC cZ cT : ClassId) (base k : Nat) (E : Nat → va_E) (i0 : Nat) (hi0 : i0 < k) (hE0 : E i0 = .inr (2, [.null, .int 0])) : KC l D (tysC cI cC cZ cT) y_W_init b_W_init 1 1 12 1 120 base k E [.ref (base + (i0))] (k + 1) (fun E' => E' i0 = .inr (2, [.ref (base + k), .int (nI 0)]) ∧ E' k = .inl (cI, 120, .inl (fun _ => 0)) ∧ ∀ j, j < k → j ≠ i0 → E' j = E j) := by
  refine KC.of (by decide) rfl (Nat.le_of_ble_eq_true rfl) ?_
  intro p e s m below meth c ls hx hb hr hml hown hg hlocks hin2 hK hAO hB hS hl
  have hown : s.vm.findClass R_W = some m.cls := hown
  have hl : lv_has ls 1 [(0, .ref (base + (i0)))] := hl
  refine lv_aload_n hx hb d_W_init_0 rfl (lv_at hl 0 rfl) ?_
  refine W.objInit hx hb hown (hg _ ko_W) (hg _ ko_i) (hg _ ko_c) rfl (by rw [hml]; exact hl.1) rfl d_W_init_1 (Nat.le_of_ble_eq_true rfl) (Nat.le_of_ble_eq_true rfl) ?_
  refine W.eq (g2 := F0 m 4 ls []) rfl ?_
  refine lv_aload_n hx hb d_W_init_4 rfl (lv_at hl 0 rfl) ?_
  refine n_bipush (k := 120) hx hb d_W_init_5 (by decide) ?_
  refine b_newa (ty := .int) hx hb rfl hg k_78 hK hB hS 0 rfl (fun _ => rfl) (n := 120) (a0 := (120, .inl (fun _ => 0))) (fun _ => rfl) (by decide) (by decide) (by decide) (by decide) d_W_init_7 (fun H hB hS => ?_)
  obtain ⟨E_1, eE_1⟩ : ∃ z : Nat → va_E, z = eU E (k) (.inl (cI, 120, .inl (fun _ => 0))) := ⟨_, rfl⟩
  have hB : CB D base (k + 1) E_1 H := by rw [eE_1]; exact hB
  refine b_putF (C := R_W) (T := T_W) (N := 2) (ci := 2) (v := .ref (base + (k))) (ty := .array .int) hx hb hg i_W ty_W t_W_ok n_W hown hK hB hS (i0) (by omega) (by rw [eE_1, eU_n _ _ (by omega)]; exact hE0) rfl 0 (by decide) k_85 rfl hin2 rfl (by decide +kernel) rfl rfl (Nat.le_of_ble_eq_true rfl) d_W_init_9 (fun H locs hB hS => ?_)
  obtain ⟨E_2, eE_2⟩ : ∃ z : Nat → va_E, z = eU E_1 (i0) (.inr (2, [.ref (base + (k)), .int (0)])) := ⟨_, rfl⟩
  have hB : CB D base (k + 1) E_2 H := by rw [eE_2]; exact hB
  refine lv_aload_n hx hb d_W_init_12 rfl (lv_at hl 0 rfl) ?_
  refine n_const (k := 0) hx hb d_W_init_13 (by decide) ?_
  refine b_put (C := R_W) (T := T_W) (N := 2) (ci := 2) (v := .int (nI (0))) (ty := .int) hx hb hg i_W ty_W t_W_ok n_W hown hK hB hS (i0) (by omega) (by rw [eE_2, eU_s]) rfl 1 (by decide) k_86 rfl (by decide +kernel) rfl rfl (Nat.le_of_ble_eq_true rfl) d_W_init_14 (fun H locs hB hS => ?_)
  obtain ⟨E_3, eE_3⟩ : ∃ z : Nat → va_E, z = eU E_2 (i0) (.inr (2, [.ref (base + (k)), .int (nI (0))])) := ⟨_, rfl⟩
  have hB : CB D base (k + 1) E_3 H := by rw [eE_3]; exact hB
  refine W.widen (k := 1) (n := 120) (by decide) (by decide) ?_
  exact b_ret hx hb hr hlocks (hB) hS (⟨by rw [eE_3, eU_s], by rw [eE_3, eU_n _ _ (by omega), eE_2, eU_n _ _ (by omega), eE_1, eU_s], fun j h1 h2 => by rw [eE_3, eU_n _ _ (by omega), eE_2, eU_n _ _ (by omega), eE_1, eU_n _ _ (by omega)]⟩) d_W_init_17

set_option maxHeartbeats 4000000 in
set_option maxRecDepth 100000 in
theorem k_R_init (l : Launch) (D : va_G) (cI cC cZ cT : ClassId) (base k : Nat) (E : Nat → va_E) (i0 : Nat) (hi0 : i0 < k) (hE0 : E i0 = .inr (1, [.null, .null, .int 0])) : KC l D (tysC cI cC cZ cT) y_R_init b_R_init 1 1 12 2 40 base k E [.ref (base + (i0))] (k + 2) (fun E' => E' i0 = .inr (1, [.ref (base + k), .ref (base + (k + 1)), .int (nI 0)]) ∧ E' k = .inl (cI, 20, .inl (fun _ => 0)) ∧ E' (k + 1) = .inl (cI, 20, .inl (fun _ => 0)) ∧ ∀ j, j < k → j ≠ i0 → E' j = E j) := by
  refine KC.of (by decide) rfl (Nat.le_of_ble_eq_true rfl) ?_
  intro p e s m below meth c ls hx hb hr hml hown hg hlocks hin2 hK hAO hB hS hl
  have hown : s.vm.findClass R_R = some m.cls := hown
  have hl : lv_has ls 1 [(0, .ref (base + (i0)))] := hl
  refine lv_aload_n hx hb d_R_init_0 rfl (lv_at hl 0 rfl) ?_
  refine W.objInit hx hb hown (hg _ ko_R) (hg _ ko_i) (hg _ ko_c) rfl (by rw [hml]; exact hl.1) rfl d_R_init_1 (Nat.le_of_ble_eq_true rfl) (Nat.le_of_ble_eq_true rfl) ?_
  refine W.eq (g2 := F0 m 4 ls []) rfl ?_
  refine lv_aload_n hx hb d_R_init_4 rfl (lv_at hl 0 rfl) ?_
  refine n_bipush (k := 20) hx hb d_R_init_5 (by decide) ?_
  refine b_newa (ty := .int) hx hb rfl hg k_78 hK hB hS 0 rfl (fun _ => rfl) (n := 20) (a0 := (20, .inl (fun _ => 0))) (fun _ => rfl) (by decide) (by decide) (by decide) (by decide) d_R_init_7 (fun H hB hS => ?_)
  obtain ⟨E_1, eE_1⟩ : ∃ z : Nat → va_E, z = eU E (k) (.inl (cI, 20, .inl (fun _ => 0))) := ⟨_, rfl⟩
  have hB : CB D base (k + 1) E_1 H := by rw [eE_1]; exact hB
  refine b_putF (C := R_R) (T := T_R) (N := 3) (ci := 1) (v := .ref (base + (k))) (ty := .array .int) hx hb hg i_R ty_R t_R_ok n_R hown hK hB hS (i0) (by omega) (by rw [eE_1, eU_n _ _ (by omega)]; exact hE0) rfl 0 (by decide) k_108 rfl hin2 rfl (by decide +kernel) rfl rfl (Nat.le_of_ble_eq_true rfl) d_R_init_9 (fun H locs hB hS => ?_)
  obtain ⟨E_2, eE_2⟩ : ∃ z : Nat → va_E, z = eU E_1 (i0) (.inr (1, [.ref (base + (k)), .null, .int (0)])) := ⟨_, rfl⟩
  have hB : CB D base (k + 1) E_2 H := by rw [eE_2]; exact hB
  refine lv_aload_n hx hb d_R_init_12 rfl (lv_at hl 0 rfl) ?_
  refine n_bipush (k := 20) hx hb d_R_init_13 (by decide) ?_
  refine b_newa (ty := .int) hx hb rfl hg k_78 hK hB hS 0 rfl (fun _ => rfl) (n := 20) (a0 := (20, .inl (fun _ => 0))) (fun _ => rfl) (by decide) (by decide) (by decide) (by decide) d_R_init_15 (fun H hB hS => ?_)
  obtain ⟨E_3, eE_3⟩ : ∃ z : Nat → va_E, z = eU E_2 (k + 1) (.inl (cI, 20, .inl (fun _ => 0))) := ⟨_, rfl⟩
  have hB : CB D base (k + 2) E_3 H := by rw [eE_3]; exact hB
  refine b_putF (C := R_R) (T := T_R) (N := 3) (ci := 1) (v := .ref (base + (k + 1))) (ty := .array .int) hx hb hg i_R ty_R t_R_ok n_R hown hK hB hS (i0) (by omega) (by rw [eE_3, eU_n _ _ (by omega), eE_2, eU_s]) rfl 1 (by decide) k_109 rfl hin2 rfl (by decide +kernel) rfl rfl (Nat.le_of_ble_eq_true rfl) d_R_init_17 (fun H locs hB hS => ?_)
  obtain ⟨E_4, eE_4⟩ : ∃ z : Nat → va_E, z = eU E_3 (i0) (.inr (1, [.ref (base + (k)), .ref (base + (k + 1)), .int (0)])) := ⟨_, rfl⟩
  have hB : CB D base (k + 2) E_4 H := by rw [eE_4]; exact hB
  refine lv_aload_n hx hb d_R_init_20 rfl (lv_at hl 0 rfl) ?_
  refine n_const (k := 0) hx hb d_R_init_21 (by decide) ?_
  refine b_put (C := R_R) (T := T_R) (N := 3) (ci := 1) (v := .int (nI (0))) (ty := .int) hx hb hg i_R ty_R t_R_ok n_R hown hK hB hS (i0) (by omega) (by rw [eE_4, eU_s]) rfl 2 (by decide) k_110 rfl (by decide +kernel) rfl rfl (Nat.le_of_ble_eq_true rfl) d_R_init_22 (fun H locs hB hS => ?_)
  obtain ⟨E_5, eE_5⟩ : ∃ z : Nat → va_E, z = eU E_4 (i0) (.inr (1, [.ref (base + (k)), .ref (base + (k + 1)), .int (nI (0))])) := ⟨_, rfl⟩
  have hB : CB D base (k + 2) E_5 H := by rw [eE_5]; exact hB
  refine W.widen (k := 2) (n := 40) (by decide) (by decide) ?_
  exact b_ret hx hb hr hlocks (hB) hS (⟨by rw [eE_5, eU_s], by rw [eE_5, eU_n _ _ (by omega), eE_4, eU_n _ _ (by omega), eE_3, eU_n _ _ (by omega), eE_2, eU_n _ _ (by omega), eE_1, eU_s], by rw [eE_5, eU_n _ _ (by omega), eE_4, eU_n _ _ (by omega), eE_3, eU_s], fun j h1 h2 => by rw [eE_5, eU_n _ _ (by omega), eE_4, eU_n _ _ (by omega), eE_3, eU_n _ _ (by omega), eE_2, eU_n _ _ (by omega), eE_1, eU_n _ _ (by omega)]⟩) d_R_init_25
