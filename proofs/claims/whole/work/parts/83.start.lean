theorem arr_of {args : Array Value} {s : State} {ty : FieldType} (h : (Cond.arrayClass ty).before args s = true) : ∃ c : ClassId, ArrOfT s c ty ∧ s.vm.findClass ("[" ++ ty.toString) = some c := by
  obtain ⟨cA, kA, comp, h1, h2, h3⟩ := Cond.arrayClass_spec h
  exact ⟨cA, fun n z => ⟨fun k h => (by cases h), kA, h2, comp, h3⟩, h1⟩
theorem arr_ofO {s : State} {C : String} (h : va_AO C s) : ∃ c : ClassId, ArrOfT s c (.object C) ∧ va_RA s c (.object C) := by
  obtain ⟨comp, c, k, h1, h2, h3, h4, h5⟩ := Cond.arrayOver_spec h
  exact ⟨c, fun n z => ⟨fun k h => (by cases h), k, h3, comp, h4⟩, k, comp, h3, h4, h1, h5⟩
theorem D_of {args : Array Value} {s : State} (hg : ∀ w ∈ GW, w.before args s = true) : ∃ D : va_G, ∀ (k : Nat) (q : vw_C), clsA[k]? = some q → u_Kn s q.1 q.2.1 q.2.2 (D.1 k) (D.2 k) := by
  obtain ⟨c0, j0, h0⟩ := u_known (C := R_N) (T := T_N) (N := 2) (n := 2) hg i_N (hg _ k_41)
  obtain ⟨c1, j1, h1⟩ := u_known (C := R_R) (T := T_R) (N := 3) (n := 3) hg i_R (hg _ k_103)
  obtain ⟨c2, j2, h2⟩ := u_known (C := R_W) (T := T_W) (N := 2) (n := 2) hg i_W (hg _ k_80)
  obtain ⟨c3, j3, h3⟩ := u_known (C := R_H) (T := T_H) (N := 5) (n := 5) hg i_H (hg _ k_57)
  obtain ⟨c4, j4, h4⟩ := u_known (C := R_G) (T := T_G) (N := 1) (n := 1) hg i_G (hg _ k_93)
  obtain ⟨c5, j5, h5⟩ := u_known (C := R_E) (T := T_E) (N := 1) (n := 1) hg i_E (hg _ k_119)
  obtain ⟨c6, j6, h6⟩ := u_known (C := R_T) (T := T_T) (N := 2) (n := 2) hg i_T (hg _ k_27)
  obtain ⟨c7, j7, h7⟩ := u_known (C := R_C) (T := T_C) (N := 15) (n := 15) hg i_C (hg _ k_19)
  obtain ⟨c8, j8, h8⟩ := u_known (C := R_M) (T := T_M) (N := 19) (n := 19) hg i_M (hg _ k_788)
  refine ⟨(fun k => match k with | 0 => c0 | 1 => c1 | 2 => c2 | 3 => c3 | 4 => c4 | 5 => c5 | 6 => c6 | 7 => c7 | _ => c8, fun k => match k with | 0 => j0 | 1 => j1 | 2 => j2 | 3 => j3 | 4 => j4 | 5 => j5 | 6 => j6 | 7 => j7 | _ => j8), ?_⟩
  intro k q hq
  match k, hq with
  | 0, hq => cases hq; exact h0
  | 1, hq => cases hq; exact h1
  | 2, hq => cases hq; exact h2
  | 3, hq => cases hq; exact h3
  | 4, hq => cases hq; exact h4
  | 5, hq => cases hq; exact h5
  | 6, hq => cases hq; exact h6
  | 7, hq => cases hq; exact h7
  | 8, hq => cases hq; exact h8
  | k + 9, hq => simp at hq
theorem K_of {s : State} {D : va_G} {cI cC cZ cT : ClassId} (hD : ∀ (k : Nat) (q : vw_C), clsA[k]? = some q → u_Kn s q.1 q.2.1 q.2.2 (D.1 k) (D.2 k)) (h1 : ArrOfT s cI .int ∧ va_RA s cI .int) (h2 : ArrOfT s cC .char ∧ va_RA s cC .char) (h3 : ArrOfT s cZ .boolean ∧ va_RA s cZ .boolean) (h4 : ArrOfT s cT (.object "NameRules$Text") ∧ va_RA s cT (.object "NameRules$Text")) : va_K D clsA (tysC cI cC cZ cT) s := by
  refine ⟨hD, fun k q hk => ?_⟩
  match k, hk with
  | 0, hk => cases hk; exact h1
  | 1, hk => cases hk; exact h2
  | 2, hk => cases hk; exact h3
  | 3, hk => cases hk; exact h4
  | k + 4, hk => simp at hk
theorem KM_of {s : State} {D : va_G} {cI cB : ClassId} (hD : ∀ (k : Nat) (q : vw_C), clsA[k]? = some q → u_Kn s q.1 q.2.1 q.2.2 (D.1 k) (D.2 k)) (h1 : ArrOfT s cI .int ∧ va_RA s cI .int) (h2 : ArrOfT s cB .byte ∧ va_RA s cB .byte) : va_K D clsA (tysM cI cB) s := by
  refine ⟨hD, fun k q hk => ?_⟩
  match k, hk with
  | 0, hk => cases hk; exact h1
  | 1, hk => cases hk; exact h2
  | k + 2, hk => simp at hk
theorem CB.nil {D : va_G} {base : Nat} {E : Nat → va_E} {H : Heap} (h : H.size = base) : CB D base 0 E H := CB.of (fun i hi => absurd hi (Nat.not_lt_zero i)) h
set_option maxHeartbeats 8000000 in
set_option maxRecDepth 100000 in
/-- from the entry, for every script of at most 2048 ints, the law comes to its end with true -/
theorem whole_start {p : Program} {e : Env} {s : State} {m : MethodId} {below : List Frame} {meth : Method} {c : Code} (l : Launch) (hlT : l.stackTraces = false) {b L : Nat} {xs : Nat → Int32} (hL : L ≤ 2048) (C0 : lw_At p s m meth c b L xs) : W p l e room_1 s m #[Value.ref b] below meth c s.heap [] 0 0 (lw_Z below #[Value.ref b] s) (entryFrame m ([Value.ref b] : List Value).toArray 7) := by
  obtain ⟨hx, hb, hr, hml, hown, hts, hX, hbl, hlocks, hgv⟩ := C0
  have hb : c.code = b_L_law := hb
  have hown : s.vm.findClass R_L = some m.cls := hown
  have hg : ∀ w ∈ GW, w.before #[Value.ref b] s = true := fun w hw => hts w (List.mem_filter.mp hw).1
  obtain ⟨D, hD⟩ := D_of hg
  obtain ⟨cI, hI9⟩ := arr_of (hg _ k_78)
  obtain ⟨cC, hC9⟩ := arr_of (hg _ k_39)
  obtain ⟨cZ, hZ9⟩ := arr_of (hg _ k_174)
  obtain ⟨cB, hB9⟩ := arr_of (hg _ k_272)
  have hAO : va_AO "NameRules$Text" s := st_AO hts
  obtain ⟨cT, hT9⟩ := arr_ofO hAO
  have hK : va_K D clsA (tysC cI cC cZ cT) s := K_of hD hI9 hC9 hZ9 hT9
  have hKM : va_K D clsA (tysM cI cB) s := KM_of hD hI9 hB9
  have hl := lv_entry ([.ref b]) (n := 7) (Nat.le_of_ble_eq_true rfl)
  rw [lg_entry_eq]
  generalize (lg_sl ([.ref b]) ++ List.replicate (7 - (lg_sl ([.ref b])).length) Slot.unset).toArray = ls at hl ⊢
  have hl : lv_has ls 7 [(0, .ref b)] := hl
  refine b_new (own := R_L) (C := R_C) (T := T_C) (N := 15) (ci := 7) (index := 8) (fs := [.null, .null, .null, .null, .null, .null, .null, .null, .null, .null, .null, .null, .int 0, .int 0, .int 0]) (base := s.heap.size) (k := 0) (E := fun _ => .inr (0, [])) (H0 := s.heap) hx hb hg i_C ty_C t_C_ok hown k_18 k_19 k_1 hK (CB.nil rfl) va_S.rf rfl (by decide) (Nat.le_of_ble_eq_true rfl) (Nat.le_of_ble_eq_true rfl) d_L_law_0 (fun H hB hS => ?_)
  refine lv_dup (pc := 3) hx hb d_L_law_3 rfl ?_
  refine b_call (own := R_L) (index := 94) (As := []) (rest := [.ref (s.heap.size + 0)]) (i := 0) (pc := 4) hx hb hml hown hg hK hAO hB (A0 := FB s.heap.size) (fun _ h => h) hS (k_C_init l D cI cC cZ cT s.heap.size 1 _ 0 (by decide) rfl) rfl k_20 k_21 k_1 k_22 0 rfl (by decide +kernel) ⟨Nat.le_of_ble_eq_true rfl, Nat.le_of_ble_eq_true rfl, Nat.le_of_ble_eq_true rfl, Nat.le_of_ble_eq_true rfl⟩ rfl hl.1 (Nat.le_of_ble_eq_true rfl) d_L_law_4 (fun E' H locs hq hB hk hS => ?_)
  obtain ⟨fH, gH, fG, f1, f2, f3, hPC⟩ := C_made (cI := cI) (cC := cC) (cZ := cZ) (cT := cT) hB hq
  have hz1 : H.size = s.heap.size + 144 := hB.2
  refine lv_astore_n (pc := 7) (lv' := [(1, .ref (s.heap.size + 0)), (0, .ref b)]) hx hb d_L_law_7 rfl hl (by decide) rfl (fun ls hl => ?_)
  refine va_forget (fun q hq => hS.2.2 q hq) ?_
  refine b_new (own := R_L) (C := R_M) (T := T_M) (N := 19) (ci := 8) (index := 95) (pc := 8) (fs := [.int 0, .null, .int 0, .null, .null, .int 0, .null, .null, .null, .null, .int 0, .null, .int 0, .null, .int 0, .null, .null, .int 0, .null]) (base := s.heap.size + 144) (k := 0) (E := fun _ => .inr (0, [])) (H0 := H) hx hb hg i_M ty_M t_M_ok hown k_787 k_788 k_9 hKM (CB.nil hz1) va_S.rf rfl (by decide) (Nat.le_of_ble_eq_true rfl) (Nat.le_of_ble_eq_true rfl) d_L_law_8 (fun H1 hB1 hS1 => ?_)
  refine lv_dup (pc := 11) hx hb d_L_law_11 rfl ?_
  refine b_call (own := R_L) (index := 97) (As := []) (rest := [.ref (s.heap.size + 144 + 0)]) (i := 0) (pc := 12) hx hb hml hown hg hKM hAO hB1 (A0 := FB (s.heap.size + 144)) (fun _ h => h) hS1 (k_M_init l D cI cB (s.heap.size + 144) 1 _ 0 (by decide) rfl) rfl k_789 k_790 k_9 k_791 0 rfl (by decide +kernel) ⟨Nat.le_of_ble_eq_true rfl, Nat.le_of_ble_eq_true rfl, Nat.le_of_ble_eq_true rfl, Nat.le_of_ble_eq_true rfl⟩ rfl hl.1 (Nat.le_of_ble_eq_true rfl) d_L_law_12 (fun E2 H2 locs2 hq2 hB2 hk2 hS2 => ?_)
  have hPM := M_made (cI := cI) (cB := cB) hB2 hq2
  have hz2 : H2.size = s.heap.size + 157 := by rw [hB2.2]
  refine lv_astore_n (pc := 15) (lv' := [(2, .ref (s.heap.size + 144 + 0)), (1, .ref (s.heap.size + 0)), (0, .ref b)]) hx hb d_L_law_15 rfl hl (by decide) rfl (fun ls hl => ?_)
  refine n_const (k := 1) hx hb d_L_law_16 (by decide) ?_
  refine va_newaK (atype := .long) (N := 1) (h := s.heap.size + 157) hx hb (hg _ k_1050) rfl d_L_law_17 rfl (by decide) (by decide) (by decide) (Nat.le_of_ble_eq_true rfl) (Nat.le_of_ble_eq_true rfl) hz2 fun H3 cL e1 z1 o1 hAr hNm => ?_
  refine W.eq (g2 := F0 m 19 ls [.ref (s.heap.size + 157)]) rfl ?_
  refine lv_astore_n (lv' := [(3, .ref (s.heap.size + 157)), (2, .ref (s.heap.size + 144 + 0)), (1, .ref (s.heap.size + 0)), (0, .ref b)]) hx hb d_L_law_19 rfl hl (by decide) rfl (fun ls hl => ?_)
  refine n_const (k := 0) hx hb d_L_law_20 (by decide) ?_
  refine lv_istore (lv' := [(4, .int (nI 0)), (3, .ref (s.heap.size + 157)), (2, .ref (s.heap.size + 144 + 0)), (1, .ref (s.heap.size + 0)), (0, .ref b)]) hx hb d_L_law_21 hl (by decide) rfl (fun ls hl => ?_)
  have hLW : LW l p room_1 s m meth c D cI cC cZ cT cB cL b L xs := ⟨hx, hb, hml, hown, hg, hX, hbl, hK, hKM, hAr, st_N hts, st_NC hgv, st_XB hts hgv, hlT, Nat.le_of_ble_eq_true rfl, Nat.le_of_ble_eq_true rfl⟩
  have hPC3 : va_P D clsA (gw 144 (aCs s) (cfC cI cC cZ cT (aCs s)) (M0C fH gH fG)) H3 := hPC.kept (fun k q hk => by
    have h1 := vx_lt hPC hk
    obtain ⟨h2, e9⟩ := gw_inv hk
    have h3 : q.1 = s.heap.size + k := by rw [e9]
    rw [o1 q.1 (by omega)]
    exact hS2.2.1 q.1 h1 (by show ¬ _ ≤ _; omega))
  have hPM3 : va_P D clsA (gw 13 (aMs s) (cfM cI cB (aMs s)) M0M) H3 := hPM.kept (fun k q hk => o1 q.1 (by have := vx_lt hPM hk; omega))
  have hL3 : LO cL (oS s) (fun _ => 0) H3 := e1
  have hz3 := hS.1
  have hS3 : va_S (FB s.heap.size) s.heap H3 locs2 := ⟨by omega, fun q h1 h2 => by
    rw [o1 q (by omega), hS2.2.1 q (by omega) (by show ¬ _ ≤ _; omega)]
    exact hS.2.1 q h1 h2, fun q hq => by have := hS2.2.2 q hq; show _ ≤ _; omega⟩
  refine W.widen (k := 158) (n := 8000) (Nat.le_of_ble_eq_true rfl) (Nat.le_of_ble_eq_true rfl) ?_
  exact law_loop hLW hr hlocks hL (L + 1) 0 (M0C fH gH fG) M0M (fun _ => 0) H3 locs2 ls 158 8000 (by omega) (by omega) rfl rfl (Inv.start f1 f2 f3) ⟨hPC3, hPM3, hL3, hS3⟩ (lv_sub hl [4, 3, 2, 1, 0] rfl)
