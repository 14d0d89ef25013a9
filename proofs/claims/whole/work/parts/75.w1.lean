theorem XC_IAE : Cond.castable "java/lang/IllegalArgumentException" "java/lang/IllegalArgumentException" ∈ XW := List.mem_of_getElem? (i := 6) rfl
theorem XC_ISE : Cond.castable "java/lang/IllegalStateException" "java/lang/IllegalStateException" ∈ XW := List.mem_of_getElem? (i := 7) rfl
theorem XC_IOE : Cond.castable "java/lang/IndexOutOfBoundsException" "java/lang/IndexOutOfBoundsException" ∈ XW := List.mem_of_getElem? (i := 8) rfl
theorem XC_UOE : Cond.castable "java/lang/UnsupportedOperationException" "java/lang/UnsupportedOperationException" ∈ XW := List.mem_of_getElem? (i := 9) rfl
theorem XE_IAE : "java/lang/IllegalArgumentException" ∈ XE4 := List.mem_of_getElem? (i := 0) rfl
theorem XE_UOE : "java/lang/UnsupportedOperationException" ∈ XE4 := List.mem_of_getElem? (i := 1) rfl
theorem XE_ISE : "java/lang/IllegalStateException" ∈ XE4 := List.mem_of_getElem? (i := 2) rfl
theorem XE_IOE : "java/lang/IndexOutOfBoundsException" ∈ XE4 := List.mem_of_getElem? (i := 3) rfl
theorem LO.lt {cL : ClassId} {o : Nat} {g : Nat → Int64} {H : Heap} (h : LO cL o g H) : o < H.size := (Array.getElem?_eq_some_iff.mp h).1
theorem LO.keep {D : va_G} {cf : Nat → (Nat → Int32) → va_E} {n o : Nat} {ad : Nat → Nat} {M : PM} {H H1 : Heap} (hne : ¬ GA n ad o) (hP : va_P D clsA (gw n ad cf M) H) (hf : ∀ q : Nat, q ≠ o → H1[q]? = H[q]?) : va_P D clsA (gw n ad cf M) H1 := hP.kept (fun k q hk => hf q.1 (fun e9 => hne (by
  obtain ⟨h1, e1⟩ := gw_inv hk
  exact ⟨k, h1, by rw [← e9, e1]⟩)))
theorem LO.fw {ad : Nat → Nat} {o : Nat} {H0 H : Heap} {locs : List Loc} (hS : va_S (GA 144 ad) H0 H locs) : va_S (FW ad o) H0 H locs := ⟨hS.1, fun q h1 h2 => hS.2.1 q h1 (fun z => h2 (Or.inl z)), fun q hq => Or.inl (hS.2.2 q hq)⟩
set_option maxHeartbeats 4000000 in
set_option maxRecDepth 100000 in
theorem w_type_r {l : Launch} {D : va_G} {cI cC cZ cT : ClassId} {ad : Nat → Nat} {cL : ClassId} {o : Nat} (hne : ¬ GA 144 ad o) {fr lo : Nat} {v : Int32} {P : PM → Prop} {M : PM} (g : Nat → Int64) (x : Int32) (hfr : fr ≤ 8) (hlo : lo ≤ 200) (hM : MD l D cI cC cZ cT ad y_C_type b_C_type 2 (some .int) fr lo [.ref (ad 0), .int x] M (fun r M' => r = some (.int v) ∧ P M')) : MW l D cI cC cZ cT ad cL o y_L_type b_L_type 4 [(0, 9, 12, 13), (0, 9, 15, 15)] [.ref (ad 0), .int x, .ref o] M g 0 P (fun g' => g' 0 = v.toInt64) := by
  refine MW.of (by decide) (Nat.le_of_ble_eq_true rfl) ?_
  intro p e s m below meth c ls hx hb hr hml hown hg hlocks hTab hK hN hX hNC hL hAr hP hl
  have hown : s.vm.findClass R_L = some m.cls := hown
  have hl : lv_has ls 4 [(0, .ref (ad 0)), (1, .int x), (2, .ref o)] := hl
  refine lv_aload_n hx hb d_L_type_0 rfl (lv_at hl 2 rfl) ?_
  refine n_const (k := 0) hx hb d_L_type_1 (by decide) ?_
  refine lv_aload_n hx hb d_L_type_2 rfl (lv_at hl 0 rfl) ?_
  refine lv_iload_n hx hb d_L_type_3 rfl (lv_at hl 1 rfl) ?_
  refine c_V (own := R_L) (index := 7) (As := [.int x]) (rest := [.int (nI 0), .ref o]) (A := FW ad o) (H0 := s.heap) hx hb hml hown hg hK NXc.same hN.warm (fun _ h => Or.inl h) hP va_S.rf 0 hM (by decide) (ci := 7) rfl rfl k_200 k_201 k_202 k_1 k_203 1 rfl (by decide +kernel) ⟨by show fr + 1 ≤ 9; omega, by show 8 + (2 + 11) + lo ≤ 230; omega, Nat.le_of_ble_eq_true rfl, Nat.le_of_ble_eq_true rfl⟩ rfl hl.1 (Nat.le_of_ble_eq_true rfl) d_L_type_4 (fun v9 M' H locs hq hP hz hk hS => ?_)
  obtain ⟨rfl, hp⟩ := hq
  have hL : LO cL o g H := (hk o (LO.lt hL) hne).trans hL
  refine W.eq (g2 := F0 m 7 ls [.int v, .int (nI 0), .ref o]) rfl ?_
  refine lv_i2l hx hb d_L_type_7 rfl ?_
  refine w_last (x := v.toInt64) hx hb hAr hL (A := FW ad o) (Or.inr rfl) hS d_L_type_8 (fun H1 locs1 hL hf hS => ?_)
  have hP := LO.keep hne hP hf
  refine lv_goto (tgt := 18) hx hb d_L_type_9 (by decide) ?_
  refine n_const (k := 0) hx hb d_L_type_18 (by decide) ?_
  exact w_ret hx hb hr hlocks hP hL hS hp rfl (by decide) (by decide) d_L_type_19
set_option maxHeartbeats 4000000 in
set_option maxRecDepth 100000 in
theorem w_type_x1 {l : Launch} {D : va_G} {cI cC cZ cT : ClassId} {ad : Nat → Nat} {cL : ClassId} {o : Nat} (hne : ¬ GA 144 ad o) {fr lo : Nat} {P : PM → Prop} {M : PM} (g : Nat → Int64) (x : Int32) (hfr : fr ≤ 8) (hlo : lo ≤ 200) (hM : MX l D cI cC cZ cT ad y_C_type b_C_type 2 (some .int) fr lo [.ref (ad 0), .int x] M "java/lang/IllegalArgumentException" P) : MW l D cI cC cZ cT ad cL o y_L_type b_L_type 4 [(0, 9, 12, 13), (0, 9, 15, 15)] [.ref (ad 0), .int x, .ref o] M g 1 P (fun _ => True) := by
  refine MW.of (by decide) (Nat.le_of_ble_eq_true rfl) ?_
  intro p e s m below meth c ls hx hb hr hml hown hg hlocks hTab hK hN hX hNC hL hAr hP hl
  have hown : s.vm.findClass R_L = some m.cls := hown
  have hl : lv_has ls 4 [(0, .ref (ad 0)), (1, .int x), (2, .ref o)] := hl
  refine lv_aload_n hx hb d_L_type_0 rfl (lv_at hl 2 rfl) ?_
  refine n_const (k := 0) hx hb d_L_type_1 (by decide) ?_
  refine lv_aload_n hx hb d_L_type_2 rfl (lv_at hl 0 rfl) ?_
  refine lv_iload_n hx hb d_L_type_3 rfl (lv_at hl 1 rfl) ?_
  refine x_C (own := R_L) (index := 7) (As := [.int x]) (rest := [.int (nI 0), .ref o]) hx hb hml hown hg hK hN hX hP hM rfl k_200 k_201 k_202 k_1 k_203 1 rfl (by decide +kernel) ⟨by show fr + 1 ≤ 9; omega, by show 8 + (2 + 11) + lo ≤ 230; omega, Nat.le_refl _, Nat.le_refl _⟩ rfl hl.1 (Nat.le_of_ble_eq_true rfl) d_L_type_4 [] (⟨0, 9, 12, 13⟩ : ExceptionTableEntry) [(⟨0, 9, 15, 15⟩ : ExceptionTableEntry)] hTab (fun z hz => by cases hz) rfl (by decide) k_198 XC_IAE (fun q M' H locs hp hP hk hS => ?_)
  have hL : LO cL o g H := (hk o (LO.lt hL) hne).trans hL
  refine W.eq (g2 := F0 m 12 ls [.ref q]) rfl ?_
  refine lv_astore_n (lv' := [(3, .ref q), (0, .ref (ad 0)), (1, .int x), (2, .ref o)]) hx hb d_L_type_12 rfl hl (by decide) rfl (fun ls hl => ?_)
  refine n_const (k := 1) hx hb d_L_type_13 (by decide) ?_
  exact w_ret hx hb hr hlocks hP hL (LO.fw hS) hp trivial (by decide) (by decide) d_L_type_14
set_option maxHeartbeats 4000000 in
set_option maxRecDepth 100000 in
theorem w_type_x2 {l : Launch} {D : va_G} {cI cC cZ cT : ClassId} {ad : Nat → Nat} {cL : ClassId} {o : Nat} (hne : ¬ GA 144 ad o) {fr lo : Nat} {P : PM → Prop} {M : PM} (g : Nat → Int64) (x : Int32) (hfr : fr ≤ 8) (hlo : lo ≤ 200) (hM : MX l D cI cC cZ cT ad y_C_type b_C_type 2 (some .int) fr lo [.ref (ad 0), .int x] M "java/lang/UnsupportedOperationException" P) : MW l D cI cC cZ cT ad cL o y_L_type b_L_type 4 [(0, 9, 12, 13), (0, 9, 15, 15)] [.ref (ad 0), .int x, .ref o] M g 2 P (fun _ => True) := by
  refine MW.of (by decide) (Nat.le_of_ble_eq_true rfl) ?_
  intro p e s m below meth c ls hx hb hr hml hown hg hlocks hTab hK hN hX hNC hL hAr hP hl
  have hown : s.vm.findClass R_L = some m.cls := hown
  have hl : lv_has ls 4 [(0, .ref (ad 0)), (1, .int x), (2, .ref o)] := hl
  refine lv_aload_n hx hb d_L_type_0 rfl (lv_at hl 2 rfl) ?_
  refine n_const (k := 0) hx hb d_L_type_1 (by decide) ?_
  refine lv_aload_n hx hb d_L_type_2 rfl (lv_at hl 0 rfl) ?_
  refine lv_iload_n hx hb d_L_type_3 rfl (lv_at hl 1 rfl) ?_
  refine x_C (own := R_L) (index := 7) (As := [.int x]) (rest := [.int (nI 0), .ref o]) hx hb hml hown hg hK hN hX hP hM rfl k_200 k_201 k_202 k_1 k_203 1 rfl (by decide +kernel) ⟨by show fr + 1 ≤ 9; omega, by show 8 + (2 + 11) + lo ≤ 230; omega, Nat.le_refl _, Nat.le_refl _⟩ rfl hl.1 (Nat.le_of_ble_eq_true rfl) d_L_type_4 [(⟨0, 9, 12, 13⟩ : ExceptionTableEntry)] (⟨0, 9, 15, 15⟩ : ExceptionTableEntry) [] hTab (fun z hz => by
    simp only [List.mem_cons, List.not_mem_nil, or_false] at hz
    subst hz
    exact Or.inr ⟨by decide, _, hg _ k_198, hNC _ XE_UOE _ XE_IAE (by decide +kernel)⟩) rfl (by decide) k_199 XC_UOE (fun q M' H locs hp hP hk hS => ?_)
  have hL : LO cL o g H := (hk o (LO.lt hL) hne).trans hL
  refine W.eq (g2 := F0 m 15 ls [.ref q]) rfl ?_
  refine lv_astore_n (lv' := [(3, .ref q), (0, .ref (ad 0)), (1, .int x), (2, .ref o)]) hx hb d_L_type_15 rfl hl (by decide) rfl (fun ls hl => ?_)
  refine n_const (k := 2) hx hb d_L_type_16 (by decide) ?_
  exact w_ret hx hb hr hlocks hP hL (LO.fw hS) hp trivial (by decide) (by decide) d_L_type_17

set_option maxHeartbeats 4000000 in
set_option maxRecDepth 100000 in
theorem w_name_r {l : Launch} {D : va_G} {cI cC cZ cT : ClassId} {ad : Nat → Nat} {cL : ClassId} {o : Nat} (hne : ¬ GA 144 ad o) {fr lo : Nat} {v : Int32} {P : PM → Prop} {M : PM} (g : Nat → Int64) (hfr : fr ≤ 8) (hlo : lo ≤ 200) (hM : MD l D cI cC cZ cT ad y_C_name b_C_name 2 (some .int) fr lo [.ref (ad 0)] M (fun r M' => r = some (.int v) ∧ P M')) : MW l D cI cC cZ cT ad cL o y_L_name b_L_name 3 [(0, 8, 11, 21), (0, 8, 14, 15)] [.ref (ad 0), .ref o] M g 0 P (fun g' => g' 0 = v.toInt64) := by
  refine MW.of (by decide) (Nat.le_of_ble_eq_true rfl) ?_
  intro p e s m below meth c ls hx hb hr hml hown hg hlocks hTab hK hN hX hNC hL hAr hP hl
  have hown : s.vm.findClass R_L = some m.cls := hown
  have hl : lv_has ls 3 [(0, .ref (ad 0)), (1, .ref o)] := hl
  refine lv_aload_n hx hb d_L_name_0 rfl (lv_at hl 1 rfl) ?_
  refine n_const (k := 0) hx hb d_L_name_1 (by decide) ?_
  refine lv_aload_n hx hb d_L_name_2 rfl (lv_at hl 0 rfl) ?_
  refine c_V (own := R_L) (index := 17) (As := []) (rest := [.int (nI 0), .ref o]) (A := FW ad o) (H0 := s.heap) hx hb hml hown hg hK NXc.same hN.warm (fun _ h => Or.inl h) hP va_S.rf 0 hM (by decide) (ci := 7) rfl rfl k_301 k_302 k_303 k_1 k_304 0 rfl (by decide +kernel) ⟨by show fr + 1 ≤ 9; omega, by show 8 + (2 + 11) + lo ≤ 230; omega, Nat.le_of_ble_eq_true rfl, Nat.le_of_ble_eq_true rfl⟩ rfl hl.1 (Nat.le_of_ble_eq_true rfl) d_L_name_3 (fun v9 M' H locs hq hP hz hk hS => ?_)
  obtain ⟨rfl, hp⟩ := hq
  have hL : LO cL o g H := (hk o (LO.lt hL) hne).trans hL
  refine W.eq (g2 := F0 m 6 ls [.int v, .int (nI 0), .ref o]) rfl ?_
  refine lv_i2l hx hb d_L_name_6 rfl ?_
  refine w_last (x := v.toInt64) hx hb hAr hL (A := FW ad o) (Or.inr rfl) hS d_L_name_7 (fun H1 locs1 hL hf hS => ?_)
  have hP := LO.keep hne hP hf
  refine lv_goto (tgt := 17) hx hb d_L_name_8 (by decide) ?_
  refine n_const (k := 0) hx hb d_L_name_17 (by decide) ?_
  exact w_ret hx hb hr hlocks hP hL hS hp rfl (by decide) (by decide) d_L_name_18
set_option maxHeartbeats 4000000 in
set_option maxRecDepth 100000 in
theorem w_name_x1 {l : Launch} {D : va_G} {cI cC cZ cT : ClassId} {ad : Nat → Nat} {cL : ClassId} {o : Nat} (hne : ¬ GA 144 ad o) {fr lo : Nat} {P : PM → Prop} {M : PM} (g : Nat → Int64) (hfr : fr ≤ 8) (hlo : lo ≤ 200) (hM : MX l D cI cC cZ cT ad y_C_name b_C_name 2 (some .int) fr lo [.ref (ad 0)] M "java/lang/IllegalStateException" P) : MW l D cI cC cZ cT ad cL o y_L_name b_L_name 3 [(0, 8, 11, 21), (0, 8, 14, 15)] [.ref (ad 0), .ref o] M g 1 P (fun _ => True) := by
  refine MW.of (by decide) (Nat.le_of_ble_eq_true rfl) ?_
  intro p e s m below meth c ls hx hb hr hml hown hg hlocks hTab hK hN hX hNC hL hAr hP hl
  have hown : s.vm.findClass R_L = some m.cls := hown
  have hl : lv_has ls 3 [(0, .ref (ad 0)), (1, .ref o)] := hl
  refine lv_aload_n hx hb d_L_name_0 rfl (lv_at hl 1 rfl) ?_
  refine n_const (k := 0) hx hb d_L_name_1 (by decide) ?_
  refine lv_aload_n hx hb d_L_name_2 rfl (lv_at hl 0 rfl) ?_
  refine x_C (own := R_L) (index := 17) (As := []) (rest := [.int (nI 0), .ref o]) hx hb hml hown hg hK hN hX hP hM rfl k_301 k_302 k_303 k_1 k_304 0 rfl (by decide +kernel) ⟨by show fr + 1 ≤ 9; omega, by show 8 + (2 + 11) + lo ≤ 230; omega, Nat.le_refl _, Nat.le_refl _⟩ rfl hl.1 (Nat.le_of_ble_eq_true rfl) d_L_name_3 [] (⟨0, 8, 11, 21⟩ : ExceptionTableEntry) [(⟨0, 8, 14, 15⟩ : ExceptionTableEntry)] hTab (fun z hz => by cases hz) rfl (by decide) k_300 XC_ISE (fun q M' H locs hp hP hk hS => ?_)
  have hL : LO cL o g H := (hk o (LO.lt hL) hne).trans hL
  refine W.eq (g2 := F0 m 11 ls [.ref q]) rfl ?_
  refine lv_astore_n (lv' := [(2, .ref q), (0, .ref (ad 0)), (1, .ref o)]) hx hb d_L_name_11 rfl hl (by decide) rfl (fun ls hl => ?_)
  refine n_const (k := 1) hx hb d_L_name_12 (by decide) ?_
  exact w_ret hx hb hr hlocks hP hL (LO.fw hS) hp trivial (by decide) (by decide) d_L_name_13
set_option maxHeartbeats 4000000 in
set_option maxRecDepth 100000 in
theorem w_name_x2 {l : Launch} {D : va_G} {cI cC cZ cT : ClassId} {ad : Nat → Nat} {cL : ClassId} {o : Nat} (hne : ¬ GA 144 ad o) {fr lo : Nat} {P : PM → Prop} {M : PM} (g : Nat → Int64) (hfr : fr ≤ 8) (hlo : lo ≤ 200) (hM : MX l D cI cC cZ cT ad y_C_name b_C_name 2 (some .int) fr lo [.ref (ad 0)] M "java/lang/UnsupportedOperationException" P) : MW l D cI cC cZ cT ad cL o y_L_name b_L_name 3 [(0, 8, 11, 21), (0, 8, 14, 15)] [.ref (ad 0), .ref o] M g 2 P (fun _ => True) := by
  refine MW.of (by decide) (Nat.le_of_ble_eq_true rfl) ?_
  intro p e s m below meth c ls hx hb hr hml hown hg hlocks hTab hK hN hX hNC hL hAr hP hl
  have hown : s.vm.findClass R_L = some m.cls := hown
  have hl : lv_has ls 3 [(0, .ref (ad 0)), (1, .ref o)] := hl
  refine lv_aload_n hx hb d_L_name_0 rfl (lv_at hl 1 rfl) ?_
  refine n_const (k := 0) hx hb d_L_name_1 (by decide) ?_
  refine lv_aload_n hx hb d_L_name_2 rfl (lv_at hl 0 rfl) ?_
  refine x_C (own := R_L) (index := 17) (As := []) (rest := [.int (nI 0), .ref o]) hx hb hml hown hg hK hN hX hP hM rfl k_301 k_302 k_303 k_1 k_304 0 rfl (by decide +kernel) ⟨by show fr + 1 ≤ 9; omega, by show 8 + (2 + 11) + lo ≤ 230; omega, Nat.le_refl _, Nat.le_refl _⟩ rfl hl.1 (Nat.le_of_ble_eq_true rfl) d_L_name_3 [(⟨0, 8, 11, 21⟩ : ExceptionTableEntry)] (⟨0, 8, 14, 15⟩ : ExceptionTableEntry) [] hTab (fun z hz => by
    simp only [List.mem_cons, List.not_mem_nil, or_false] at hz
    subst hz
    exact Or.inr ⟨by decide, _, hg _ k_300, hNC _ XE_UOE _ XE_ISE (by decide +kernel)⟩) rfl (by decide) k_199 XC_UOE (fun q M' H locs hp hP hk hS => ?_)
  have hL : LO cL o g H := (hk o (LO.lt hL) hne).trans hL
  refine W.eq (g2 := F0 m 14 ls [.ref q]) rfl ?_
  refine lv_astore_n (lv' := [(2, .ref q), (0, .ref (ad 0)), (1, .ref o)]) hx hb d_L_name_14 rfl hl (by decide) rfl (fun ls hl => ?_)
  refine n_const (k := 2) hx hb d_L_name_15 (by decide) ?_
  exact w_ret hx hb hr hlocks hP hL (LO.fw hS) hp trivial (by decide) (by decide) d_L_name_16

set_option maxHeartbeats 4000000 in
set_option maxRecDepth 100000 in
theorem w_expand_r {l : Launch} {D : va_G} {cI cC cZ cT : ClassId} {ad : Nat → Nat} {cL : ClassId} {o : Nat} (hne : ¬ GA 144 ad o) {fr lo : Nat} {v : Int32} {P : PM → Prop} {M : PM} (g : Nat → Int64) (hfr : fr ≤ 8) (hlo : lo ≤ 200) (hM : MD l D cI cC cZ cT ad y_C_expand b_C_expand 2 (some .int) fr lo [.ref (ad 0)] M (fun r M' => r = some (.int v) ∧ P M')) : MW l D cI cC cZ cT ad cL o y_L_expand b_L_expand 3 [(0, 8, 11, 21), (0, 8, 14, 13), (0, 8, 17, 15)] [.ref (ad 0), .ref o] M g 0 P (fun g' => g' 0 = v.toInt64) := by
  refine MW.of (by decide) (Nat.le_of_ble_eq_true rfl) ?_
  intro p e s m below meth c ls hx hb hr hml hown hg hlocks hTab hK hN hX hNC hL hAr hP hl
  have hown : s.vm.findClass R_L = some m.cls := hown
  have hl : lv_has ls 3 [(0, .ref (ad 0)), (1, .ref o)] := hl
  refine lv_aload_n hx hb d_L_expand_0 rfl (lv_at hl 1 rfl) ?_
  refine n_const (k := 0) hx hb d_L_expand_1 (by decide) ?_
  refine lv_aload_n hx hb d_L_expand_2 rfl (lv_at hl 0 rfl) ?_
  refine c_V (own := R_L) (index := 23) (As := []) (rest := [.int (nI 0), .ref o]) (A := FW ad o) (H0 := s.heap) hx hb hml hown hg hK NXc.same hN.warm (fun _ h => Or.inl h) hP va_S.rf 0 hM (by decide) (ci := 7) rfl rfl k_366 k_367 k_368 k_1 k_369 0 rfl (by decide +kernel) ⟨by show fr + 1 ≤ 9; omega, by show 8 + (2 + 11) + lo ≤ 230; omega, Nat.le_of_ble_eq_true rfl, Nat.le_of_ble_eq_true rfl⟩ rfl hl.1 (Nat.le_of_ble_eq_true rfl) d_L_expand_3 (fun v9 M' H locs hq hP hz hk hS => ?_)
  obtain ⟨rfl, hp⟩ := hq
  have hL : LO cL o g H := (hk o (LO.lt hL) hne).trans hL
  refine W.eq (g2 := F0 m 6 ls [.int v, .int (nI 0), .ref o]) rfl ?_
  refine lv_i2l hx hb d_L_expand_6 rfl ?_
  refine w_last (x := v.toInt64) hx hb hAr hL (A := FW ad o) (Or.inr rfl) hS d_L_expand_7 (fun H1 locs1 hL hf hS => ?_)
  have hP := LO.keep hne hP hf
  refine lv_goto (tgt := 20) hx hb d_L_expand_8 (by decide) ?_
  refine n_const (k := 0) hx hb d_L_expand_20 (by decide) ?_
  exact w_ret hx hb hr hlocks hP hL hS hp rfl (by decide) (by decide) d_L_expand_21
set_option maxHeartbeats 4000000 in
set_option maxRecDepth 100000 in
theorem w_expand_x1 {l : Launch} {D : va_G} {cI cC cZ cT : ClassId} {ad : Nat → Nat} {cL : ClassId} {o : Nat} (hne : ¬ GA 144 ad o) {fr lo : Nat} {P : PM → Prop} {M : PM} (g : Nat → Int64) (hfr : fr ≤ 8) (hlo : lo ≤ 200) (hM : MX l D cI cC cZ cT ad y_C_expand b_C_expand 2 (some .int) fr lo [.ref (ad 0)] M "java/lang/IllegalStateException" P) : MW l D cI cC cZ cT ad cL o y_L_expand b_L_expand 3 [(0, 8, 11, 21), (0, 8, 14, 13), (0, 8, 17, 15)] [.ref (ad 0), .ref o] M g 1 P (fun _ => True) := by
  refine MW.of (by decide) (Nat.le_of_ble_eq_true rfl) ?_
  intro p e s m below meth c ls hx hb hr hml hown hg hlocks hTab hK hN hX hNC hL hAr hP hl
  have hown : s.vm.findClass R_L = some m.cls := hown
  have hl : lv_has ls 3 [(0, .ref (ad 0)), (1, .ref o)] := hl
  refine lv_aload_n hx hb d_L_expand_0 rfl (lv_at hl 1 rfl) ?_
  refine n_const (k := 0) hx hb d_L_expand_1 (by decide) ?_
  refine lv_aload_n hx hb d_L_expand_2 rfl (lv_at hl 0 rfl) ?_
  refine x_C (own := R_L) (index := 23) (As := []) (rest := [.int (nI 0), .ref o]) hx hb hml hown hg hK hN hX hP hM rfl k_366 k_367 k_368 k_1 k_369 0 rfl (by decide +kernel) ⟨by show fr + 1 ≤ 9; omega, by show 8 + (2 + 11) + lo ≤ 230; omega, Nat.le_refl _, Nat.le_refl _⟩ rfl hl.1 (Nat.le_of_ble_eq_true rfl) d_L_expand_3 [] (⟨0, 8, 11, 21⟩ : ExceptionTableEntry) [(⟨0, 8, 14, 13⟩ : ExceptionTableEntry), (⟨0, 8, 17, 15⟩ : ExceptionTableEntry)] hTab (fun z hz => by cases hz) rfl (by decide) k_300 XC_ISE (fun q M' H locs hp hP hk hS => ?_)
  have hL : LO cL o g H := (hk o (LO.lt hL) hne).trans hL
  refine W.eq (g2 := F0 m 11 ls [.ref q]) rfl ?_
  refine lv_astore_n (lv' := [(2, .ref q), (0, .ref (ad 0)), (1, .ref o)]) hx hb d_L_expand_11 rfl hl (by decide) rfl (fun ls hl => ?_)
  refine n_const (k := 1) hx hb d_L_expand_12 (by decide) ?_
  exact w_ret hx hb hr hlocks hP hL (LO.fw hS) hp trivial (by decide) (by decide) d_L_expand_13
set_option maxHeartbeats 4000000 in
set_option maxRecDepth 100000 in
theorem w_expand_x2 {l : Launch} {D : va_G} {cI cC cZ cT : ClassId} {ad : Nat → Nat} {cL : ClassId} {o : Nat} (hne : ¬ GA 144 ad o) {fr lo : Nat} {P : PM → Prop} {M : PM} (g : Nat → Int64) (hfr : fr ≤ 8) (hlo : lo ≤ 200) (hM : MX l D cI cC cZ cT ad y_C_expand b_C_expand 2 (some .int) fr lo [.ref (ad 0)] M "java/lang/IllegalArgumentException" P) : MW l D cI cC cZ cT ad cL o y_L_expand b_L_expand 3 [(0, 8, 11, 21), (0, 8, 14, 13), (0, 8, 17, 15)] [.ref (ad 0), .ref o] M g 2 P (fun _ => True) := by
  refine MW.of (by decide) (Nat.le_of_ble_eq_true rfl) ?_
  intro p e s m below meth c ls hx hb hr hml hown hg hlocks hTab hK hN hX hNC hL hAr hP hl
  have hown : s.vm.findClass R_L = some m.cls := hown
  have hl : lv_has ls 3 [(0, .ref (ad 0)), (1, .ref o)] := hl
  refine lv_aload_n hx hb d_L_expand_0 rfl (lv_at hl 1 rfl) ?_
  refine n_const (k := 0) hx hb d_L_expand_1 (by decide) ?_
  refine lv_aload_n hx hb d_L_expand_2 rfl (lv_at hl 0 rfl) ?_
  refine x_C (own := R_L) (index := 23) (As := []) (rest := [.int (nI 0), .ref o]) hx hb hml hown hg hK hN hX hP hM rfl k_366 k_367 k_368 k_1 k_369 0 rfl (by decide +kernel) ⟨by show fr + 1 ≤ 9; omega, by show 8 + (2 + 11) + lo ≤ 230; omega, Nat.le_refl _, Nat.le_refl _⟩ rfl hl.1 (Nat.le_of_ble_eq_true rfl) d_L_expand_3 [(⟨0, 8, 11, 21⟩ : ExceptionTableEntry)] (⟨0, 8, 14, 13⟩ : ExceptionTableEntry) [(⟨0, 8, 17, 15⟩ : ExceptionTableEntry)] hTab (fun z hz => by
    simp only [List.mem_cons, List.not_mem_nil, or_false] at hz
    subst hz
    exact Or.inr ⟨by decide, _, hg _ k_300, hNC _ XE_IAE _ XE_ISE (by decide +kernel)⟩) rfl (by decide) k_198 XC_IAE (fun q M' H locs hp hP hk hS => ?_)
  have hL : LO cL o g H := (hk o (LO.lt hL) hne).trans hL
  refine W.eq (g2 := F0 m 14 ls [.ref q]) rfl ?_
  refine lv_astore_n (lv' := [(2, .ref q), (0, .ref (ad 0)), (1, .ref o)]) hx hb d_L_expand_14 rfl hl (by decide) rfl (fun ls hl => ?_)
  refine n_const (k := 2) hx hb d_L_expand_15 (by decide) ?_
  exact w_ret hx hb hr hlocks hP hL (LO.fw hS) hp trivial (by decide) (by decide) d_L_expand_16
set_option maxHeartbeats 4000000 in
set_option maxRecDepth 100000 in
theorem w_expand_x3 {l : Launch} {D : va_G} {cI cC cZ cT : ClassId} {ad : Nat → Nat} {cL : ClassId} {o : Nat} (hne : ¬ GA 144 ad o) {fr lo : Nat} {P : PM → Prop} {M : PM} (g : Nat → Int64) (hfr : fr ≤ 8) (hlo : lo ≤ 200) (hM : MX l D cI cC cZ cT ad y_C_expand b_C_expand 2 (some .int) fr lo [.ref (ad 0)] M "java/lang/UnsupportedOperationException" P) : MW l D cI cC cZ cT ad cL o y_L_expand b_L_expand 3 [(0, 8, 11, 21), (0, 8, 14, 13), (0, 8, 17, 15)] [.ref (ad 0), .ref o] M g 3 P (fun _ => True) := by
  refine MW.of (by decide) (Nat.le_of_ble_eq_true rfl) ?_
  intro p e s m below meth c ls hx hb hr hml hown hg hlocks hTab hK hN hX hNC hL hAr hP hl
  have hown : s.vm.findClass R_L = some m.cls := hown
  have hl : lv_has ls 3 [(0, .ref (ad 0)), (1, .ref o)] := hl
  refine lv_aload_n hx hb d_L_expand_0 rfl (lv_at hl 1 rfl) ?_
  refine n_const (k := 0) hx hb d_L_expand_1 (by decide) ?_
  refine lv_aload_n hx hb d_L_expand_2 rfl (lv_at hl 0 rfl) ?_
  refine x_C (own := R_L) (index := 23) (As := []) (rest := [.int (nI 0), .ref o]) hx hb hml hown hg hK hN hX hP hM rfl k_366 k_367 k_368 k_1 k_369 0 rfl (by decide +kernel) ⟨by show fr + 1 ≤ 9; omega, by show 8 + (2 + 11) + lo ≤ 230; omega, Nat.le_refl _, Nat.le_refl _⟩ rfl hl.1 (Nat.le_of_ble_eq_true rfl) d_L_expand_3 [(⟨0, 8, 11, 21⟩ : ExceptionTableEntry), (⟨0, 8, 14, 13⟩ : ExceptionTableEntry)] (⟨0, 8, 17, 15⟩ : ExceptionTableEntry) [] hTab (fun z hz => by
    simp only [List.mem_cons, List.not_mem_nil, or_false] at hz
    rcases hz with rfl | rfl
    · exact Or.inr ⟨by decide, _, hg _ k_300, hNC _ XE_UOE _ XE_ISE (by decide +kernel)⟩
    · exact Or.inr ⟨by decide, _, hg _ k_198, hNC _ XE_UOE _ XE_IAE (by decide +kernel)⟩) rfl (by decide) k_199 XC_UOE (fun q M' H locs hp hP hk hS => ?_)
  have hL : LO cL o g H := (hk o (LO.lt hL) hne).trans hL
  refine W.eq (g2 := F0 m 17 ls [.ref q]) rfl ?_
  refine lv_astore_n (lv' := [(2, .ref q), (0, .ref (ad 0)), (1, .ref o)]) hx hb d_L_expand_17 rfl hl (by decide) rfl (fun ls hl => ?_)
  refine n_const (k := 3) hx hb d_L_expand_18 (by decide) ?_
  exact w_ret hx hb hr hlocks hP hL (LO.fw hS) hp trivial (by decide) (by decide) d_L_expand_19

set_option maxHeartbeats 4000000 in
set_option maxRecDepth 100000 in
theorem w_prefix_r {l : Launch} {D : va_G} {cI cC cZ cT : ClassId} {ad : Nat → Nat} {cL : ClassId} {o : Nat} (hne : ¬ GA 144 ad o) {fr lo : Nat} {v : Int32} {P : PM → Prop} {M : PM} (g : Nat → Int64) (x y : Int32) (hfr : fr ≤ 8) (hlo : lo ≤ 200) (hM : MD l D cI cC cZ cT ad y_C_prefix b_C_prefix 4 (some .boolean) fr lo [.ref (ad 0), .int x, .int y] M (fun r M' => r = some (.int v) ∧ P M')) : MW l D cI cC cZ cT ad cL o y_L_prefix b_L_prefix 5 [(0, 17, 20, 30), (0, 17, 24, 13)] [.ref (ad 0), .int x, .int y, .ref o] M g 0 P (fun g' => g' 0 = if v = 0 then 0 else 1) := by
  refine MW.of (by decide) (Nat.le_of_ble_eq_true rfl) ?_
  intro p e s m below meth c ls hx hb hr hml hown hg hlocks hTab hK hN hX hNC hL hAr hP hl
  have hown : s.vm.findClass R_L = some m.cls := hown
  have hl : lv_has ls 5 [(0, .ref (ad 0)), (1, .int x), (2, .int y), (3, .ref o)] := hl
  refine lv_aload_n hx hb d_L_prefix_0 rfl (lv_at hl 3 rfl) ?_
  refine n_const (k := 0) hx hb d_L_prefix_1 (by decide) ?_
  refine lv_aload_n hx hb d_L_prefix_2 rfl (lv_at hl 0 rfl) ?_
  refine lv_iload_n hx hb d_L_prefix_3 rfl (lv_at hl 1 rfl) ?_
  refine lv_iload_n hx hb d_L_prefix_4 rfl (lv_at hl 2 rfl) ?_
  refine c_V (own := R_L) (index := 26) (As := [.int x, .int y]) (rest := [.int (nI 0), .ref o]) (A := FW ad o) (H0 := s.heap) hx hb hml hown hg hK NXc.same hN.warm (fun _ h => Or.inl h) hP va_S.rf 0 hM (by decide) (ci := 7) rfl rfl k_397 k_398 k_399 k_1 k_400 2 rfl (by decide +kernel) ⟨by show fr + 1 ≤ 9; omega, by show 8 + (4 + 11) + lo ≤ 230; omega, Nat.le_of_ble_eq_true rfl, Nat.le_of_ble_eq_true rfl⟩ rfl hl.1 (Nat.le_of_ble_eq_true rfl) d_L_prefix_5 (fun v9 M' H locs hq hP hz hk hS => ?_)
  obtain ⟨rfl, hp⟩ := hq
  have hL : LO cL o g H := (hk o (LO.lt hL) hne).trans hL
  refine W.eq (g2 := F0 m 8 ls [.int v, .int (nI 0), .ref o]) rfl ?_
  refine lv_if_eq (tgt := 15) hx hb d_L_prefix_8 (by decide) (fun hv => ?_) (fun hv => ?_)
  · refine lv_lconst (v := 0) hx hb d_L_prefix_15 (by decide) ?_
    refine w_last (x := 0) hx hb hAr hL (A := FW ad o) (Or.inr rfl) hS d_L_prefix_16 (fun H1 locs1 hL hf hS => ?_)
    have hP := LO.keep hne hP hf
    refine lv_goto (tgt := 28) hx hb d_L_prefix_17 (by decide) ?_
    refine n_const (k := 0) hx hb d_L_prefix_28 (by decide) ?_
    exact w_ret hx hb hr hlocks hP hL hS hp (show (0 : Int64) = if v = 0 then 0 else 1 from (if_pos hv).symm) (by decide) (by decide) d_L_prefix_29
  · refine lv_lconst (v := 1) hx hb d_L_prefix_11 (by decide) ?_
    refine lv_goto (tgt := 16) hx hb d_L_prefix_12 (by decide) ?_
    refine w_last (x := 1) hx hb hAr hL (A := FW ad o) (Or.inr rfl) hS d_L_prefix_16 (fun H1 locs1 hL hf hS => ?_)
    have hP := LO.keep hne hP hf
    refine lv_goto (tgt := 28) hx hb d_L_prefix_17 (by decide) ?_
    refine n_const (k := 0) hx hb d_L_prefix_28 (by decide) ?_
    exact w_ret hx hb hr hlocks hP hL hS hp (show (1 : Int64) = if v = 0 then 0 else 1 from (if_neg hv).symm) (by decide) (by decide) d_L_prefix_29
set_option maxHeartbeats 4000000 in
set_option maxRecDepth 100000 in
theorem w_prefix_x1 {l : Launch} {D : va_G} {cI cC cZ cT : ClassId} {ad : Nat → Nat} {cL : ClassId} {o : Nat} (hne : ¬ GA 144 ad o) {fr lo : Nat} {P : PM → Prop} {M : PM} (g : Nat → Int64) (x y : Int32) (hfr : fr ≤ 8) (hlo : lo ≤ 200) (hM : MX l D cI cC cZ cT ad y_C_prefix b_C_prefix 4 (some .boolean) fr lo [.ref (ad 0), .int x, .int y] M "java/lang/IndexOutOfBoundsException" P) : MW l D cI cC cZ cT ad cL o y_L_prefix b_L_prefix 5 [(0, 17, 20, 30), (0, 17, 24, 13)] [.ref (ad 0), .int x, .int y, .ref o] M g 1 P (fun _ => True) := by
  refine MW.of (by decide) (Nat.le_of_ble_eq_true rfl) ?_
  intro p e s m below meth c ls hx hb hr hml hown hg hlocks hTab hK hN hX hNC hL hAr hP hl
  have hown : s.vm.findClass R_L = some m.cls := hown
  have hl : lv_has ls 5 [(0, .ref (ad 0)), (1, .int x), (2, .int y), (3, .ref o)] := hl
  refine lv_aload_n hx hb d_L_prefix_0 rfl (lv_at hl 3 rfl) ?_
  refine n_const (k := 0) hx hb d_L_prefix_1 (by decide) ?_
  refine lv_aload_n hx hb d_L_prefix_2 rfl (lv_at hl 0 rfl) ?_
  refine lv_iload_n hx hb d_L_prefix_3 rfl (lv_at hl 1 rfl) ?_
  refine lv_iload_n hx hb d_L_prefix_4 rfl (lv_at hl 2 rfl) ?_
  refine x_C (own := R_L) (index := 26) (As := [.int x, .int y]) (rest := [.int (nI 0), .ref o]) hx hb hml hown hg hK hN hX hP hM rfl k_397 k_398 k_399 k_1 k_400 2 rfl (by decide +kernel) ⟨by show fr + 1 ≤ 9; omega, by show 8 + (4 + 11) + lo ≤ 230; omega, Nat.le_refl _, Nat.le_refl _⟩ rfl hl.1 (Nat.le_of_ble_eq_true rfl) d_L_prefix_5 [] (⟨0, 17, 20, 30⟩ : ExceptionTableEntry) [(⟨0, 17, 24, 13⟩ : ExceptionTableEntry)] hTab (fun z hz => by cases hz) rfl (by decide) k_396 XC_IOE (fun q M' H locs hp hP hk hS => ?_)
  have hL : LO cL o g H := (hk o (LO.lt hL) hne).trans hL
  refine W.eq (g2 := F0 m 20 ls [.ref q]) rfl ?_
  refine lv_astore (lv' := [(4, .ref q), (0, .ref (ad 0)), (1, .int x), (2, .int y), (3, .ref o)]) hx hb d_L_prefix_20 hl (by decide) rfl (fun ls hl => ?_)
  refine n_const (k := 1) hx hb d_L_prefix_22 (by decide) ?_
  exact w_ret hx hb hr hlocks hP hL (LO.fw hS) hp trivial (by decide) (by decide) d_L_prefix_23
set_option maxHeartbeats 4000000 in
set_option maxRecDepth 100000 in
theorem w_prefix_x2 {l : Launch} {D : va_G} {cI cC cZ cT : ClassId} {ad : Nat → Nat} {cL : ClassId} {o : Nat} (hne : ¬ GA 144 ad o) {fr lo : Nat} {P : PM → Prop} {M : PM} (g : Nat → Int64) (x y : Int32) (hfr : fr ≤ 8) (hlo : lo ≤ 200) (hM : MX l D cI cC cZ cT ad y_C_prefix b_C_prefix 4 (some .boolean) fr lo [.ref (ad 0), .int x, .int y] M "java/lang/IllegalArgumentException" P) : MW l D cI cC cZ cT ad cL o y_L_prefix b_L_prefix 5 [(0, 17, 20, 30), (0, 17, 24, 13)] [.ref (ad 0), .int x, .int y, .ref o] M g 2 P (fun _ => True) := by
  refine MW.of (by decide) (Nat.le_of_ble_eq_true rfl) ?_
  intro p e s m below meth c ls hx hb hr hml hown hg hlocks hTab hK hN hX hNC hL hAr hP hl
  have hown : s.vm.findClass R_L = some m.cls := hown
  have hl : lv_has ls 5 [(0, .ref (ad 0)), (1, .int x), (2, .int y), (3, .ref o)] := hl
  refine lv_aload_n hx hb d_L_prefix_0 rfl (lv_at hl 3 rfl) ?_
  refine n_const (k := 0) hx hb d_L_prefix_1 (by decide) ?_
  refine lv_aload_n hx hb d_L_prefix_2 rfl (lv_at hl 0 rfl) ?_
  refine lv_iload_n hx hb d_L_prefix_3 rfl (lv_at hl 1 rfl) ?_
  refine lv_iload_n hx hb d_L_prefix_4 rfl (lv_at hl 2 rfl) ?_
  refine x_C (own := R_L) (index := 26) (As := [.int x, .int y]) (rest := [.int (nI 0), .ref o]) hx hb hml hown hg hK hN hX hP hM rfl k_397 k_398 k_399 k_1 k_400 2 rfl (by decide +kernel) ⟨by show fr + 1 ≤ 9; omega, by show 8 + (4 + 11) + lo ≤ 230; omega, Nat.le_refl _, Nat.le_refl _⟩ rfl hl.1 (Nat.le_of_ble_eq_true rfl) d_L_prefix_5 [(⟨0, 17, 20, 30⟩ : ExceptionTableEntry)] (⟨0, 17, 24, 13⟩ : ExceptionTableEntry) [] hTab (fun z hz => by
    simp only [List.mem_cons, List.not_mem_nil, or_false] at hz
    subst hz
    exact Or.inr ⟨by decide, _, hg _ k_396, hNC _ XE_IAE _ XE_IOE (by decide +kernel)⟩) rfl (by decide) k_198 XC_IAE (fun q M' H locs hp hP hk hS => ?_)
  have hL : LO cL o g H := (hk o (LO.lt hL) hne).trans hL
  refine W.eq (g2 := F0 m 24 ls [.ref q]) rfl ?_
  refine lv_astore (lv' := [(4, .ref q), (0, .ref (ad 0)), (1, .int x), (2, .int y), (3, .ref o)]) hx hb d_L_prefix_24 hl (by decide) rfl (fun ls hl => ?_)
  refine n_const (k := 2) hx hb d_L_prefix_26 (by decide) ?_
  exact w_ret hx hb hr hlocks hP hL (LO.fw hS) hp trivial (by decide) (by decide) d_L_prefix_27

set_option maxHeartbeats 4000000 in
set_option maxRecDepth 100000 in
theorem w_space_r {l : Launch} {D : va_G} {cI cC cZ cT : ClassId} {ad : Nat → Nat} {cL : ClassId} {o : Nat} (hne : ¬ GA 144 ad o) {fr lo : Nat} {v : Int32} {P : PM → Prop} {M : PM} (g : Nat → Int64) (x : Int32) (hfr : fr ≤ 8) (hlo : lo ≤ 200) (hM : MD l D cI cC cZ cT ad y_C_space b_C_space 2 (some .int) fr lo [.ref (ad 0), .int x] M (fun r M' => r = some (.int v) ∧ P M')) : MW l D cI cC cZ cT ad cL o y_L_space b_L_space 4 [(0, 9, 12, 30)] [.ref (ad 0), .int x, .ref o] M g 0 P (fun g' => g' 0 = v.toInt64) := by
  refine MW.of (by decide) (Nat.le_of_ble_eq_true rfl) ?_
  intro p e s m below meth c ls hx hb hr hml hown hg hlocks hTab hK hN hX hNC hL hAr hP hl
  have hown : s.vm.findClass R_L = some m.cls := hown
  have hl : lv_has ls 4 [(0, .ref (ad 0)), (1, .int x), (2, .ref o)] := hl
  refine lv_aload_n hx hb d_L_space_0 rfl (lv_at hl 2 rfl) ?_
  refine n_const (k := 0) hx hb d_L_space_1 (by decide) ?_
  refine lv_aload_n hx hb d_L_space_2 rfl (lv_at hl 0 rfl) ?_
  refine lv_iload_n hx hb d_L_space_3 rfl (lv_at hl 1 rfl) ?_
  refine c_V (own := R_L) (index := 32) (As := [.int x]) (rest := [.int (nI 0), .ref o]) (A := FW ad o) (H0 := s.heap) hx hb hml hown hg hK NXc.same hN.warm (fun _ h => Or.inl h) hP va_S.rf 0 hM (by decide) (ci := 7) rfl rfl k_453 k_454 k_455 k_1 k_456 1 rfl (by decide +kernel) ⟨by show fr + 1 ≤ 9; omega, by show 8 + (2 + 11) + lo ≤ 230; omega, Nat.le_of_ble_eq_true rfl, Nat.le_of_ble_eq_true rfl⟩ rfl hl.1 (Nat.le_of_ble_eq_true rfl) d_L_space_4 (fun v9 M' H locs hq hP hz hk hS => ?_)
  obtain ⟨rfl, hp⟩ := hq
  have hL : LO cL o g H := (hk o (LO.lt hL) hne).trans hL
  refine W.eq (g2 := F0 m 7 ls [.int v, .int (nI 0), .ref o]) rfl ?_
  refine lv_i2l hx hb d_L_space_7 rfl ?_
  refine w_last (x := v.toInt64) hx hb hAr hL (A := FW ad o) (Or.inr rfl) hS d_L_space_8 (fun H1 locs1 hL hf hS => ?_)
  have hP := LO.keep hne hP hf
  refine lv_goto (tgt := 15) hx hb d_L_space_9 (by decide) ?_
  refine n_const (k := 0) hx hb d_L_space_15 (by decide) ?_
  exact w_ret hx hb hr hlocks hP hL hS hp rfl (by decide) (by decide) d_L_space_16
set_option maxHeartbeats 4000000 in
set_option maxRecDepth 100000 in
theorem w_space_x1 {l : Launch} {D : va_G} {cI cC cZ cT : ClassId} {ad : Nat → Nat} {cL : ClassId} {o : Nat} (hne : ¬ GA 144 ad o) {fr lo : Nat} {P : PM → Prop} {M : PM} (g : Nat → Int64) (x : Int32) (hfr : fr ≤ 8) (hlo : lo ≤ 200) (hM : MX l D cI cC cZ cT ad y_C_space b_C_space 2 (some .int) fr lo [.ref (ad 0), .int x] M "java/lang/IndexOutOfBoundsException" P) : MW l D cI cC cZ cT ad cL o y_L_space b_L_space 4 [(0, 9, 12, 30)] [.ref (ad 0), .int x, .ref o] M g 1 P (fun _ => True) := by
  refine MW.of (by decide) (Nat.le_of_ble_eq_true rfl) ?_
  intro p e s m below meth c ls hx hb hr hml hown hg hlocks hTab hK hN hX hNC hL hAr hP hl
  have hown : s.vm.findClass R_L = some m.cls := hown
  have hl : lv_has ls 4 [(0, .ref (ad 0)), (1, .int x), (2, .ref o)] := hl
  refine lv_aload_n hx hb d_L_space_0 rfl (lv_at hl 2 rfl) ?_
  refine n_const (k := 0) hx hb d_L_space_1 (by decide) ?_
  refine lv_aload_n hx hb d_L_space_2 rfl (lv_at hl 0 rfl) ?_
  refine lv_iload_n hx hb d_L_space_3 rfl (lv_at hl 1 rfl) ?_
  refine x_C (own := R_L) (index := 32) (As := [.int x]) (rest := [.int (nI 0), .ref o]) hx hb hml hown hg hK hN hX hP hM rfl k_453 k_454 k_455 k_1 k_456 1 rfl (by decide +kernel) ⟨by show fr + 1 ≤ 9; omega, by show 8 + (2 + 11) + lo ≤ 230; omega, Nat.le_refl _, Nat.le_refl _⟩ rfl hl.1 (Nat.le_of_ble_eq_true rfl) d_L_space_4 [] (⟨0, 9, 12, 30⟩ : ExceptionTableEntry) [] hTab (fun z hz => by cases hz) rfl (by decide) k_396 XC_IOE (fun q M' H locs hp hP hk hS => ?_)
  have hL : LO cL o g H := (hk o (LO.lt hL) hne).trans hL
  refine W.eq (g2 := F0 m 12 ls [.ref q]) rfl ?_
  refine lv_astore_n (lv' := [(3, .ref q), (0, .ref (ad 0)), (1, .int x), (2, .ref o)]) hx hb d_L_space_12 rfl hl (by decide) rfl (fun ls hl => ?_)
  refine n_const (k := 1) hx hb d_L_space_13 (by decide) ?_
  exact w_ret hx hb hr hlocks hP hL (LO.fw hS) hp trivial (by decide) (by decide) d_L_space_14

set_option maxHeartbeats 4000000 in
set_option maxRecDepth 100000 in
theorem w_best_r {l : Launch} {D : va_G} {cI cC cZ cT : ClassId} {ad : Nat → Nat} {cL : ClassId} {o : Nat} (hne : ¬ GA 144 ad o) {fr lo : Nat} {v : Int32} {P : PM → Prop} {M : PM} (g : Nat → Int64) (x : Int32) (hfr : fr ≤ 8) (hlo : lo ≤ 200) (hM : MD l D cI cC cZ cT ad y_C_best b_C_best 2 (some .int) fr lo [.ref (ad 0), .int x] M (fun r M' => r = some (.int v) ∧ P M')) : MW l D cI cC cZ cT ad cL o y_L_best b_L_best 4 [(0, 9, 12, 30)] [.ref (ad 0), .int x, .ref o] M g 0 P (fun g' => g' 0 = v.toInt64) := by
  refine MW.of (by decide) (Nat.le_of_ble_eq_true rfl) ?_
  intro p e s m below meth c ls hx hb hr hml hown hg hlocks hTab hK hN hX hNC hL hAr hP hl
  have hown : s.vm.findClass R_L = some m.cls := hown
  have hl : lv_has ls 4 [(0, .ref (ad 0)), (1, .int x), (2, .ref o)] := hl
  refine lv_aload_n hx hb d_L_best_0 rfl (lv_at hl 2 rfl) ?_
  refine n_const (k := 0) hx hb d_L_best_1 (by decide) ?_
  refine lv_aload_n hx hb d_L_best_2 rfl (lv_at hl 0 rfl) ?_
  refine lv_iload_n hx hb d_L_best_3 rfl (lv_at hl 1 rfl) ?_
  refine c_V (own := R_L) (index := 35) (As := [.int x]) (rest := [.int (nI 0), .ref o]) (A := FW ad o) (H0 := s.heap) hx hb hml hown hg hK NXc.same hN.warm (fun _ h => Or.inl h) hP va_S.rf 0 hM (by decide) (ci := 7) rfl rfl k_473 k_474 k_475 k_1 k_476 1 rfl (by decide +kernel) ⟨by show fr + 1 ≤ 9; omega, by show 8 + (2 + 11) + lo ≤ 230; omega, Nat.le_of_ble_eq_true rfl, Nat.le_of_ble_eq_true rfl⟩ rfl hl.1 (Nat.le_of_ble_eq_true rfl) d_L_best_4 (fun v9 M' H locs hq hP hz hk hS => ?_)
  obtain ⟨rfl, hp⟩ := hq
  have hL : LO cL o g H := (hk o (LO.lt hL) hne).trans hL
  refine W.eq (g2 := F0 m 7 ls [.int v, .int (nI 0), .ref o]) rfl ?_
  refine lv_i2l hx hb d_L_best_7 rfl ?_
  refine w_last (x := v.toInt64) hx hb hAr hL (A := FW ad o) (Or.inr rfl) hS d_L_best_8 (fun H1 locs1 hL hf hS => ?_)
  have hP := LO.keep hne hP hf
  refine lv_goto (tgt := 15) hx hb d_L_best_9 (by decide) ?_
  refine n_const (k := 0) hx hb d_L_best_15 (by decide) ?_
  exact w_ret hx hb hr hlocks hP hL hS hp rfl (by decide) (by decide) d_L_best_16
set_option maxHeartbeats 4000000 in
set_option maxRecDepth 100000 in
theorem w_best_x1 {l : Launch} {D : va_G} {cI cC cZ cT : ClassId} {ad : Nat → Nat} {cL : ClassId} {o : Nat} (hne : ¬ GA 144 ad o) {fr lo : Nat} {P : PM → Prop} {M : PM} (g : Nat → Int64) (x : Int32) (hfr : fr ≤ 8) (hlo : lo ≤ 200) (hM : MX l D cI cC cZ cT ad y_C_best b_C_best 2 (some .int) fr lo [.ref (ad 0), .int x] M "java/lang/IndexOutOfBoundsException" P) : MW l D cI cC cZ cT ad cL o y_L_best b_L_best 4 [(0, 9, 12, 30)] [.ref (ad 0), .int x, .ref o] M g 1 P (fun _ => True) := by
  refine MW.of (by decide) (Nat.le_of_ble_eq_true rfl) ?_
  intro p e s m below meth c ls hx hb hr hml hown hg hlocks hTab hK hN hX hNC hL hAr hP hl
  have hown : s.vm.findClass R_L = some m.cls := hown
  have hl : lv_has ls 4 [(0, .ref (ad 0)), (1, .int x), (2, .ref o)] := hl
  refine lv_aload_n hx hb d_L_best_0 rfl (lv_at hl 2 rfl) ?_
  refine n_const (k := 0) hx hb d_L_best_1 (by decide) ?_
  refine lv_aload_n hx hb d_L_best_2 rfl (lv_at hl 0 rfl) ?_
  refine lv_iload_n hx hb d_L_best_3 rfl (lv_at hl 1 rfl) ?_
  refine x_C (own := R_L) (index := 35) (As := [.int x]) (rest := [.int (nI 0), .ref o]) hx hb hml hown hg hK hN hX hP hM rfl k_473 k_474 k_475 k_1 k_476 1 rfl (by decide +kernel) ⟨by show fr + 1 ≤ 9; omega, by show 8 + (2 + 11) + lo ≤ 230; omega, Nat.le_refl _, Nat.le_refl _⟩ rfl hl.1 (Nat.le_of_ble_eq_true rfl) d_L_best_4 [] (⟨0, 9, 12, 30⟩ : ExceptionTableEntry) [] hTab (fun z hz => by cases hz) rfl (by decide) k_396 XC_IOE (fun q M' H locs hp hP hk hS => ?_)
  have hL : LO cL o g H := (hk o (LO.lt hL) hne).trans hL
  refine W.eq (g2 := F0 m 12 ls [.ref q]) rfl ?_
  refine lv_astore_n (lv' := [(3, .ref q), (0, .ref (ad 0)), (1, .int x), (2, .ref o)]) hx hb d_L_best_12 rfl hl (by decide) rfl (fun ls hl => ?_)
  refine n_const (k := 1) hx hb d_L_best_13 (by decide) ?_
  exact w_ret hx hb hr hlocks hP hL (LO.fw hS) hp trivial (by decide) (by decide) d_L_best_14

set_option maxHeartbeats 4000000 in
set_option maxRecDepth 100000 in
theorem w_propose_r {l : Launch} {D : va_G} {cI cC cZ cT : ClassId} {ad : Nat → Nat} {cL : ClassId} {o : Nat} (hne : ¬ GA 144 ad o) {fr lo : Nat} {v : Int32} {P : PM → Prop} {M : PM} (g : Nat → Int64) (x : Int32) (hfr : fr ≤ 8) (hlo : lo ≤ 200) (hM : MD l D cI cC cZ cT ad y_C_propose b_C_propose 4 (some .int) fr lo [.ref (ad 0), .int x] M (fun r M' => r = some (.int v) ∧ P M')) : MW l D cI cC cZ cT ad cL o y_L_propose b_L_propose 4 [(0, 9, 12, 30)] [.ref (ad 0), .int x, .ref o] M g 0 P (fun g' => g' 0 = v.toInt64) := by
  refine MW.of (by decide) (Nat.le_of_ble_eq_true rfl) ?_
  intro p e s m below meth c ls hx hb hr hml hown hg hlocks hTab hK hN hX hNC hL hAr hP hl
  have hown : s.vm.findClass R_L = some m.cls := hown
  have hl : lv_has ls 4 [(0, .ref (ad 0)), (1, .int x), (2, .ref o)] := hl
  refine lv_aload_n hx hb d_L_propose_0 rfl (lv_at hl 2 rfl) ?_
  refine n_const (k := 0) hx hb d_L_propose_1 (by decide) ?_
  refine lv_aload_n hx hb d_L_propose_2 rfl (lv_at hl 0 rfl) ?_
  refine lv_iload_n hx hb d_L_propose_3 rfl (lv_at hl 1 rfl) ?_
  refine c_V (own := R_L) (index := 38) (As := [.int x]) (rest := [.int (nI 0), .ref o]) (A := FW ad o) (H0 := s.heap) hx hb hml hown hg hK NXc.same hN.warm (fun _ h => Or.inl h) hP va_S.rf 0 hM (by decide) (ci := 7) rfl rfl k_484 k_485 k_486 k_1 k_487 1 rfl (by decide +kernel) ⟨by show fr + 1 ≤ 9; omega, by show 8 + (4 + 11) + lo ≤ 230; omega, Nat.le_of_ble_eq_true rfl, Nat.le_of_ble_eq_true rfl⟩ rfl hl.1 (Nat.le_of_ble_eq_true rfl) d_L_propose_4 (fun v9 M' H locs hq hP hz hk hS => ?_)
  obtain ⟨rfl, hp⟩ := hq
  have hL : LO cL o g H := (hk o (LO.lt hL) hne).trans hL
  refine W.eq (g2 := F0 m 7 ls [.int v, .int (nI 0), .ref o]) rfl ?_
  refine lv_i2l hx hb d_L_propose_7 rfl ?_
  refine w_last (x := v.toInt64) hx hb hAr hL (A := FW ad o) (Or.inr rfl) hS d_L_propose_8 (fun H1 locs1 hL hf hS => ?_)
  have hP := LO.keep hne hP hf
  refine lv_goto (tgt := 15) hx hb d_L_propose_9 (by decide) ?_
  refine n_const (k := 0) hx hb d_L_propose_15 (by decide) ?_
  exact w_ret hx hb hr hlocks hP hL hS hp rfl (by decide) (by decide) d_L_propose_16
set_option maxHeartbeats 4000000 in
set_option maxRecDepth 100000 in
theorem w_propose_x1 {l : Launch} {D : va_G} {cI cC cZ cT : ClassId} {ad : Nat → Nat} {cL : ClassId} {o : Nat} (hne : ¬ GA 144 ad o) {fr lo : Nat} {P : PM → Prop} {M : PM} (g : Nat → Int64) (x : Int32) (hfr : fr ≤ 8) (hlo : lo ≤ 200) (hM : MX l D cI cC cZ cT ad y_C_propose b_C_propose 4 (some .int) fr lo [.ref (ad 0), .int x] M "java/lang/IndexOutOfBoundsException" P) : MW l D cI cC cZ cT ad cL o y_L_propose b_L_propose 4 [(0, 9, 12, 30)] [.ref (ad 0), .int x, .ref o] M g 1 P (fun _ => True) := by
  refine MW.of (by decide) (Nat.le_of_ble_eq_true rfl) ?_
  intro p e s m below meth c ls hx hb hr hml hown hg hlocks hTab hK hN hX hNC hL hAr hP hl
  have hown : s.vm.findClass R_L = some m.cls := hown
  have hl : lv_has ls 4 [(0, .ref (ad 0)), (1, .int x), (2, .ref o)] := hl
  refine lv_aload_n hx hb d_L_propose_0 rfl (lv_at hl 2 rfl) ?_
  refine n_const (k := 0) hx hb d_L_propose_1 (by decide) ?_
  refine lv_aload_n hx hb d_L_propose_2 rfl (lv_at hl 0 rfl) ?_
  refine lv_iload_n hx hb d_L_propose_3 rfl (lv_at hl 1 rfl) ?_
  refine x_C (own := R_L) (index := 38) (As := [.int x]) (rest := [.int (nI 0), .ref o]) hx hb hml hown hg hK hN hX hP hM rfl k_484 k_485 k_486 k_1 k_487 1 rfl (by decide +kernel) ⟨by show fr + 1 ≤ 9; omega, by show 8 + (4 + 11) + lo ≤ 230; omega, Nat.le_refl _, Nat.le_refl _⟩ rfl hl.1 (Nat.le_of_ble_eq_true rfl) d_L_propose_4 [] (⟨0, 9, 12, 30⟩ : ExceptionTableEntry) [] hTab (fun z hz => by cases hz) rfl (by decide) k_396 XC_IOE (fun q M' H locs hp hP hk hS => ?_)
  have hL : LO cL o g H := (hk o (LO.lt hL) hne).trans hL
  refine W.eq (g2 := F0 m 12 ls [.ref q]) rfl ?_
  refine lv_astore_n (lv' := [(3, .ref q), (0, .ref (ad 0)), (1, .int x), (2, .ref o)]) hx hb d_L_propose_12 rfl hl (by decide) rfl (fun ls hl => ?_)
  refine n_const (k := 1) hx hb d_L_propose_13 (by decide) ?_
  exact w_ret hx hb hr hlocks hP hL (LO.fw hS) hp trivial (by decide) (by decide) d_L_propose_14

set_option maxHeartbeats 4000000 in
set_option maxRecDepth 100000 in
theorem w_print_r {l : Launch} {D : va_G} {cI cC cZ cT : ClassId} {ad : Nat → Nat} {cL : ClassId} {o : Nat} (hne : ¬ GA 144 ad o) {fr lo : Nat} {v : Int32} {P : PM → Prop} {M : PM} (g : Nat → Int64) (x : Int32) (hfr : fr ≤ 8) (hlo : lo ≤ 200) (hM : MD l D cI cC cZ cT ad y_C_print b_C_print 4 (some .int) fr lo [.ref (ad 0), .int x] M (fun r M' => r = some (.int v) ∧ P M')) : MW l D cI cC cZ cT ad cL o y_L_print b_L_print 4 [(0, 9, 12, 30)] [.ref (ad 0), .int x, .ref o] M g 0 P (fun g' => g' 0 = v.toInt64) := by
  refine MW.of (by decide) (Nat.le_of_ble_eq_true rfl) ?_
  intro p e s m below meth c ls hx hb hr hml hown hg hlocks hTab hK hN hX hNC hL hAr hP hl
  have hown : s.vm.findClass R_L = some m.cls := hown
  have hl : lv_has ls 4 [(0, .ref (ad 0)), (1, .int x), (2, .ref o)] := hl
  refine lv_aload_n hx hb d_L_print_0 rfl (lv_at hl 2 rfl) ?_
  refine n_const (k := 0) hx hb d_L_print_1 (by decide) ?_
  refine lv_aload_n hx hb d_L_print_2 rfl (lv_at hl 0 rfl) ?_
  refine lv_iload_n hx hb d_L_print_3 rfl (lv_at hl 1 rfl) ?_
  refine c_V (own := R_L) (index := 41) (As := [.int x]) (rest := [.int (nI 0), .ref o]) (A := FW ad o) (H0 := s.heap) hx hb hml hown hg hK NXc.same hN.warm (fun _ h => Or.inl h) hP va_S.rf 0 hM (by decide) (ci := 7) rfl rfl k_515 k_516 k_517 k_1 k_518 1 rfl (by decide +kernel) ⟨by show fr + 1 ≤ 9; omega, by show 8 + (4 + 11) + lo ≤ 230; omega, Nat.le_of_ble_eq_true rfl, Nat.le_of_ble_eq_true rfl⟩ rfl hl.1 (Nat.le_of_ble_eq_true rfl) d_L_print_4 (fun v9 M' H locs hq hP hz hk hS => ?_)
  obtain ⟨rfl, hp⟩ := hq
  have hL : LO cL o g H := (hk o (LO.lt hL) hne).trans hL
  refine W.eq (g2 := F0 m 7 ls [.int v, .int (nI 0), .ref o]) rfl ?_
  refine lv_i2l hx hb d_L_print_7 rfl ?_
  refine w_last (x := v.toInt64) hx hb hAr hL (A := FW ad o) (Or.inr rfl) hS d_L_print_8 (fun H1 locs1 hL hf hS => ?_)
  have hP := LO.keep hne hP hf
  refine lv_goto (tgt := 15) hx hb d_L_print_9 (by decide) ?_
  refine n_const (k := 0) hx hb d_L_print_15 (by decide) ?_
  exact w_ret hx hb hr hlocks hP hL hS hp rfl (by decide) (by decide) d_L_print_16
set_option maxHeartbeats 4000000 in
set_option maxRecDepth 100000 in
theorem w_print_x1 {l : Launch} {D : va_G} {cI cC cZ cT : ClassId} {ad : Nat → Nat} {cL : ClassId} {o : Nat} (hne : ¬ GA 144 ad o) {fr lo : Nat} {P : PM → Prop} {M : PM} (g : Nat → Int64) (x : Int32) (hfr : fr ≤ 8) (hlo : lo ≤ 200) (hM : MX l D cI cC cZ cT ad y_C_print b_C_print 4 (some .int) fr lo [.ref (ad 0), .int x] M "java/lang/IndexOutOfBoundsException" P) : MW l D cI cC cZ cT ad cL o y_L_print b_L_print 4 [(0, 9, 12, 30)] [.ref (ad 0), .int x, .ref o] M g 1 P (fun _ => True) := by
  refine MW.of (by decide) (Nat.le_of_ble_eq_true rfl) ?_
  intro p e s m below meth c ls hx hb hr hml hown hg hlocks hTab hK hN hX hNC hL hAr hP hl
  have hown : s.vm.findClass R_L = some m.cls := hown
  have hl : lv_has ls 4 [(0, .ref (ad 0)), (1, .int x), (2, .ref o)] := hl
  refine lv_aload_n hx hb d_L_print_0 rfl (lv_at hl 2 rfl) ?_
  refine n_const (k := 0) hx hb d_L_print_1 (by decide) ?_
  refine lv_aload_n hx hb d_L_print_2 rfl (lv_at hl 0 rfl) ?_
  refine lv_iload_n hx hb d_L_print_3 rfl (lv_at hl 1 rfl) ?_
  refine x_C (own := R_L) (index := 41) (As := [.int x]) (rest := [.int (nI 0), .ref o]) hx hb hml hown hg hK hN hX hP hM rfl k_515 k_516 k_517 k_1 k_518 1 rfl (by decide +kernel) ⟨by show fr + 1 ≤ 9; omega, by show 8 + (4 + 11) + lo ≤ 230; omega, Nat.le_refl _, Nat.le_refl _⟩ rfl hl.1 (Nat.le_of_ble_eq_true rfl) d_L_print_4 [] (⟨0, 9, 12, 30⟩ : ExceptionTableEntry) [] hTab (fun z hz => by cases hz) rfl (by decide) k_396 XC_IOE (fun q M' H locs hp hP hk hS => ?_)
  have hL : LO cL o g H := (hk o (LO.lt hL) hne).trans hL
  refine W.eq (g2 := F0 m 12 ls [.ref q]) rfl ?_
  refine lv_astore_n (lv' := [(3, .ref q), (0, .ref (ad 0)), (1, .int x), (2, .ref o)]) hx hb d_L_print_12 rfl hl (by decide) rfl (fun ls hl => ?_)
  refine n_const (k := 1) hx hb d_L_print_13 (by decide) ?_
  exact w_ret hx hb hr hlocks hP hL (LO.fw hS) hp trivial (by decide) (by decide) d_L_print_14

set_option maxHeartbeats 4000000 in
set_option maxRecDepth 100000 in
theorem w_row_r {l : Launch} {D : va_G} {cI cC cZ cT : ClassId} {ad : Nat → Nat} {cL : ClassId} {o : Nat} (hne : ¬ GA 144 ad o) {fr lo : Nat} {v : Int32} {P : PM → Prop} {M : PM} (g : Nat → Int64) (x y z : Int32) (hfr : fr ≤ 8) (hlo : lo ≤ 200) (hM : MD l D cI cC cZ cT ad y_C_row b_C_row 5 (some .int) fr lo [.ref (ad 0), .int x, .int y, .int z] M (fun r M' => r = some (.int v) ∧ P M')) : MW l D cI cC cZ cT ad cL o y_L_row b_L_row 6 [(0, 12, 15, 30), (0, 12, 19, 21), (0, 12, 23, 15)] [.ref (ad 0), .int x, .int y, .int z, .ref o] M g 0 P (fun g' => g' 0 = v.toInt64) := by
  refine MW.of (by decide) (Nat.le_of_ble_eq_true rfl) ?_
  intro p e s m below meth c ls hx hb hr hml hown hg hlocks hTab hK hN hX hNC hL hAr hP hl
  have hown : s.vm.findClass R_L = some m.cls := hown
  have hl : lv_has ls 6 [(0, .ref (ad 0)), (1, .int x), (2, .int y), (3, .int z), (4, .ref o)] := hl
  refine lv_aload hx hb d_L_row_0 (lv_at hl 4 rfl) ?_
  refine n_const (k := 0) hx hb d_L_row_2 (by decide) ?_
  refine lv_aload_n hx hb d_L_row_3 rfl (lv_at hl 0 rfl) ?_
  refine lv_iload_n hx hb d_L_row_4 rfl (lv_at hl 1 rfl) ?_
  refine lv_iload_n hx hb d_L_row_5 rfl (lv_at hl 2 rfl) ?_
  refine lv_iload_n hx hb d_L_row_6 rfl (lv_at hl 3 rfl) ?_
  refine c_V (own := R_L) (index := 44) (As := [.int x, .int y, .int z]) (rest := [.int (nI 0), .ref o]) (A := FW ad o) (H0 := s.heap) hx hb hml hown hg hK NXc.same hN.warm (fun _ h => Or.inl h) hP va_S.rf 0 hM (by decide) (ci := 7) rfl rfl k_522 k_523 k_524 k_1 k_525 3 rfl (by decide +kernel) ⟨by show fr + 1 ≤ 9; omega, by show 8 + (5 + 11) + lo ≤ 230; omega, Nat.le_of_ble_eq_true rfl, Nat.le_of_ble_eq_true rfl⟩ rfl hl.1 (Nat.le_of_ble_eq_true rfl) d_L_row_7 (fun v9 M' H locs hq hP hz hk hS => ?_)
  obtain ⟨rfl, hp⟩ := hq
  have hL : LO cL o g H := (hk o (LO.lt hL) hne).trans hL
  refine W.eq (g2 := F0 m 10 ls [.int v, .int (nI 0), .ref o]) rfl ?_
  refine lv_i2l hx hb d_L_row_10 rfl ?_
  refine w_last (x := v.toInt64) hx hb hAr hL (A := FW ad o) (Or.inr rfl) hS d_L_row_11 (fun H1 locs1 hL hf hS => ?_)
  have hP := LO.keep hne hP hf
  refine lv_goto (tgt := 27) hx hb d_L_row_12 (by decide) ?_
  refine n_const (k := 0) hx hb d_L_row_27 (by decide) ?_
  exact w_ret hx hb hr hlocks hP hL hS hp rfl (by decide) (by decide) d_L_row_28
set_option maxHeartbeats 4000000 in
set_option maxRecDepth 100000 in
theorem w_row_x1 {l : Launch} {D : va_G} {cI cC cZ cT : ClassId} {ad : Nat → Nat} {cL : ClassId} {o : Nat} (hne : ¬ GA 144 ad o) {fr lo : Nat} {P : PM → Prop} {M : PM} (g : Nat → Int64) (x y z : Int32) (hfr : fr ≤ 8) (hlo : lo ≤ 200) (hM : MX l D cI cC cZ cT ad y_C_row b_C_row 5 (some .int) fr lo [.ref (ad 0), .int x, .int y, .int z] M "java/lang/IndexOutOfBoundsException" P) : MW l D cI cC cZ cT ad cL o y_L_row b_L_row 6 [(0, 12, 15, 30), (0, 12, 19, 21), (0, 12, 23, 15)] [.ref (ad 0), .int x, .int y, .int z, .ref o] M g 1 P (fun _ => True) := by
  refine MW.of (by decide) (Nat.le_of_ble_eq_true rfl) ?_
  intro p e s m below meth c ls hx hb hr hml hown hg hlocks hTab hK hN hX hNC hL hAr hP hl
  have hown : s.vm.findClass R_L = some m.cls := hown
  have hl : lv_has ls 6 [(0, .ref (ad 0)), (1, .int x), (2, .int y), (3, .int z), (4, .ref o)] := hl
  refine lv_aload hx hb d_L_row_0 (lv_at hl 4 rfl) ?_
  refine n_const (k := 0) hx hb d_L_row_2 (by decide) ?_
  refine lv_aload_n hx hb d_L_row_3 rfl (lv_at hl 0 rfl) ?_
  refine lv_iload_n hx hb d_L_row_4 rfl (lv_at hl 1 rfl) ?_
  refine lv_iload_n hx hb d_L_row_5 rfl (lv_at hl 2 rfl) ?_
  refine lv_iload_n hx hb d_L_row_6 rfl (lv_at hl 3 rfl) ?_
  refine x_C (own := R_L) (index := 44) (As := [.int x, .int y, .int z]) (rest := [.int (nI 0), .ref o]) hx hb hml hown hg hK hN hX hP hM rfl k_522 k_523 k_524 k_1 k_525 3 rfl (by decide +kernel) ⟨by show fr + 1 ≤ 9; omega, by show 8 + (5 + 11) + lo ≤ 230; omega, Nat.le_refl _, Nat.le_refl _⟩ rfl hl.1 (Nat.le_of_ble_eq_true rfl) d_L_row_7 [] (⟨0, 12, 15, 30⟩ : ExceptionTableEntry) [(⟨0, 12, 19, 21⟩ : ExceptionTableEntry), (⟨0, 12, 23, 15⟩ : ExceptionTableEntry)] hTab (fun z hz => by cases hz) rfl (by decide) k_396 XC_IOE (fun q M' H locs hp hP hk hS => ?_)
  have hL : LO cL o g H := (hk o (LO.lt hL) hne).trans hL
  refine W.eq (g2 := F0 m 15 ls [.ref q]) rfl ?_
  refine lv_astore (lv' := [(5, .ref q), (0, .ref (ad 0)), (1, .int x), (2, .int y), (3, .int z), (4, .ref o)]) hx hb d_L_row_15 hl (by decide) rfl (fun ls hl => ?_)
  refine n_const (k := 1) hx hb d_L_row_17 (by decide) ?_
  exact w_ret hx hb hr hlocks hP hL (LO.fw hS) hp trivial (by decide) (by decide) d_L_row_18
set_option maxHeartbeats 4000000 in
set_option maxRecDepth 100000 in
theorem w_row_x2 {l : Launch} {D : va_G} {cI cC cZ cT : ClassId} {ad : Nat → Nat} {cL : ClassId} {o : Nat} (hne : ¬ GA 144 ad o) {fr lo : Nat} {P : PM → Prop} {M : PM} (g : Nat → Int64) (x y z : Int32) (hfr : fr ≤ 8) (hlo : lo ≤ 200) (hM : MX l D cI cC cZ cT ad y_C_row b_C_row 5 (some .int) fr lo [.ref (ad 0), .int x, .int y, .int z] M "java/lang/IllegalStateException" P) : MW l D cI cC cZ cT ad cL o y_L_row b_L_row 6 [(0, 12, 15, 30), (0, 12, 19, 21), (0, 12, 23, 15)] [.ref (ad 0), .int x, .int y, .int z, .ref o] M g 2 P (fun _ => True) := by
  refine MW.of (by decide) (Nat.le_of_ble_eq_true rfl) ?_
  intro p e s m below meth c ls hx hb hr hml hown hg hlocks hTab hK hN hX hNC hL hAr hP hl
  have hown : s.vm.findClass R_L = some m.cls := hown
  have hl : lv_has ls 6 [(0, .ref (ad 0)), (1, .int x), (2, .int y), (3, .int z), (4, .ref o)] := hl
  refine lv_aload hx hb d_L_row_0 (lv_at hl 4 rfl) ?_
  refine n_const (k := 0) hx hb d_L_row_2 (by decide) ?_
  refine lv_aload_n hx hb d_L_row_3 rfl (lv_at hl 0 rfl) ?_
  refine lv_iload_n hx hb d_L_row_4 rfl (lv_at hl 1 rfl) ?_
  refine lv_iload_n hx hb d_L_row_5 rfl (lv_at hl 2 rfl) ?_
  refine lv_iload_n hx hb d_L_row_6 rfl (lv_at hl 3 rfl) ?_
  refine x_C (own := R_L) (index := 44) (As := [.int x, .int y, .int z]) (rest := [.int (nI 0), .ref o]) hx hb hml hown hg hK hN hX hP hM rfl k_522 k_523 k_524 k_1 k_525 3 rfl (by decide +kernel) ⟨by show fr + 1 ≤ 9; omega, by show 8 + (5 + 11) + lo ≤ 230; omega, Nat.le_refl _, Nat.le_refl _⟩ rfl hl.1 (Nat.le_of_ble_eq_true rfl) d_L_row_7 [(⟨0, 12, 15, 30⟩ : ExceptionTableEntry)] (⟨0, 12, 19, 21⟩ : ExceptionTableEntry) [(⟨0, 12, 23, 15⟩ : ExceptionTableEntry)] hTab (fun z hz => by
    simp only [List.mem_cons, List.not_mem_nil, or_false] at hz
    subst hz
    exact Or.inr ⟨by decide, _, hg _ k_396, hNC _ XE_ISE _ XE_IOE (by decide +kernel)⟩) rfl (by decide) k_300 XC_ISE (fun q M' H locs hp hP hk hS => ?_)
  have hL : LO cL o g H := (hk o (LO.lt hL) hne).trans hL
  refine W.eq (g2 := F0 m 19 ls [.ref q]) rfl ?_
  refine lv_astore (lv' := [(5, .ref q), (0, .ref (ad 0)), (1, .int x), (2, .int y), (3, .int z), (4, .ref o)]) hx hb d_L_row_19 hl (by decide) rfl (fun ls hl => ?_)
  refine n_const (k := 2) hx hb d_L_row_21 (by decide) ?_
  exact w_ret hx hb hr hlocks hP hL (LO.fw hS) hp trivial (by decide) (by decide) d_L_row_22
set_option maxHeartbeats 4000000 in
set_option maxRecDepth 100000 in
theorem w_row_x3 {l : Launch} {D : va_G} {cI cC cZ cT : ClassId} {ad : Nat → Nat} {cL : ClassId} {o : Nat} (hne : ¬ GA 144 ad o) {fr lo : Nat} {P : PM → Prop} {M : PM} (g : Nat → Int64) (x y z : Int32) (hfr : fr ≤ 8) (hlo : lo ≤ 200) (hM : MX l D cI cC cZ cT ad y_C_row b_C_row 5 (some .int) fr lo [.ref (ad 0), .int x, .int y, .int z] M "java/lang/UnsupportedOperationException" P) : MW l D cI cC cZ cT ad cL o y_L_row b_L_row 6 [(0, 12, 15, 30), (0, 12, 19, 21), (0, 12, 23, 15)] [.ref (ad 0), .int x, .int y, .int z, .ref o] M g 3 P (fun _ => True) := by
  refine MW.of (by decide) (Nat.le_of_ble_eq_true rfl) ?_
  intro p e s m below meth c ls hx hb hr hml hown hg hlocks hTab hK hN hX hNC hL hAr hP hl
  have hown : s.vm.findClass R_L = some m.cls := hown
  have hl : lv_has ls 6 [(0, .ref (ad 0)), (1, .int x), (2, .int y), (3, .int z), (4, .ref o)] := hl
  refine lv_aload hx hb d_L_row_0 (lv_at hl 4 rfl) ?_
  refine n_const (k := 0) hx hb d_L_row_2 (by decide) ?_
  refine lv_aload_n hx hb d_L_row_3 rfl (lv_at hl 0 rfl) ?_
  refine lv_iload_n hx hb d_L_row_4 rfl (lv_at hl 1 rfl) ?_
  refine lv_iload_n hx hb d_L_row_5 rfl (lv_at hl 2 rfl) ?_
  refine lv_iload_n hx hb d_L_row_6 rfl (lv_at hl 3 rfl) ?_
  refine x_C (own := R_L) (index := 44) (As := [.int x, .int y, .int z]) (rest := [.int (nI 0), .ref o]) hx hb hml hown hg hK hN hX hP hM rfl k_522 k_523 k_524 k_1 k_525 3 rfl (by decide +kernel) ⟨by show fr + 1 ≤ 9; omega, by show 8 + (5 + 11) + lo ≤ 230; omega, Nat.le_refl _, Nat.le_refl _⟩ rfl hl.1 (Nat.le_of_ble_eq_true rfl) d_L_row_7 [(⟨0, 12, 15, 30⟩ : ExceptionTableEntry), (⟨0, 12, 19, 21⟩ : ExceptionTableEntry)] (⟨0, 12, 23, 15⟩ : ExceptionTableEntry) [] hTab (fun z hz => by
    simp only [List.mem_cons, List.not_mem_nil, or_false] at hz
    rcases hz with rfl | rfl
    · exact Or.inr ⟨by decide, _, hg _ k_396, hNC _ XE_UOE _ XE_IOE (by decide +kernel)⟩
    · exact Or.inr ⟨by decide, _, hg _ k_300, hNC _ XE_UOE _ XE_ISE (by decide +kernel)⟩) rfl (by decide) k_199 XC_UOE (fun q M' H locs hp hP hk hS => ?_)
  have hL : LO cL o g H := (hk o (LO.lt hL) hne).trans hL
  refine W.eq (g2 := F0 m 23 ls [.ref q]) rfl ?_
  refine lv_astore (lv' := [(5, .ref q), (0, .ref (ad 0)), (1, .int x), (2, .int y), (3, .int z), (4, .ref o)]) hx hb d_L_row_23 hl (by decide) rfl (fun ls hl => ?_)
  refine n_const (k := 3) hx hb d_L_row_25 (by decide) ?_
  exact w_ret hx hb hr hlocks hP hL (LO.fw hS) hp trivial (by decide) (by decide) d_L_row_26

set_option maxHeartbeats 4000000 in
set_option maxRecDepth 100000 in
theorem w_told_r {l : Launch} {D : va_G} {cI cC cZ cT : ClassId} {ad : Nat → Nat} {cL : ClassId} {o : Nat} (hne : ¬ GA 144 ad o) {fr lo : Nat} {v : Int32} {P : PM → Prop} {M : PM} (g : Nat → Int64) (x y : Int32) (hfr : fr ≤ 8) (hlo : lo ≤ 200) (hM : MD l D cI cC cZ cT ad y_C_told b_C_told 3 (some .int) fr lo [.ref (ad 0), .int x, .int y] M (fun r M' => r = some (.int v) ∧ P M')) : MW l D cI cC cZ cT ad cL o y_L_told b_L_told 5 [(0, 10, 13, 30), (0, 10, 17, 13)] [.ref (ad 0), .int x, .int y, .ref o] M g 0 P (fun g' => g' 0 = v.toInt64) := by
  refine MW.of (by decide) (Nat.le_of_ble_eq_true rfl) ?_
  intro p e s m below meth c ls hx hb hr hml hown hg hlocks hTab hK hN hX hNC hL hAr hP hl
  have hown : s.vm.findClass R_L = some m.cls := hown
  have hl : lv_has ls 5 [(0, .ref (ad 0)), (1, .int x), (2, .int y), (3, .ref o)] := hl
  refine lv_aload_n hx hb d_L_told_0 rfl (lv_at hl 3 rfl) ?_
  refine n_const (k := 0) hx hb d_L_told_1 (by decide) ?_
  refine lv_aload_n hx hb d_L_told_2 rfl (lv_at hl 0 rfl) ?_
  refine lv_iload_n hx hb d_L_told_3 rfl (lv_at hl 1 rfl) ?_
  refine lv_iload_n hx hb d_L_told_4 rfl (lv_at hl 2 rfl) ?_
  refine c_V (own := R_L) (index := 48) (As := [.int x, .int y]) (rest := [.int (nI 0), .ref o]) (A := FW ad o) (H0 := s.heap) hx hb hml hown hg hK NXc.same hN.warm (fun _ h => Or.inl h) hP va_S.rf 0 hM (by decide) (ci := 7) rfl rfl k_547 k_548 k_549 k_1 k_550 2 rfl (by decide +kernel) ⟨by show fr + 1 ≤ 9; omega, by show 8 + (3 + 11) + lo ≤ 230; omega, Nat.le_of_ble_eq_true rfl, Nat.le_of_ble_eq_true rfl⟩ rfl hl.1 (Nat.le_of_ble_eq_true rfl) d_L_told_5 (fun v9 M' H locs hq hP hz hk hS => ?_)
  obtain ⟨rfl, hp⟩ := hq
  have hL : LO cL o g H := (hk o (LO.lt hL) hne).trans hL
  refine W.eq (g2 := F0 m 8 ls [.int v, .int (nI 0), .ref o]) rfl ?_
  refine lv_i2l hx hb d_L_told_8 rfl ?_
  refine w_last (x := v.toInt64) hx hb hAr hL (A := FW ad o) (Or.inr rfl) hS d_L_told_9 (fun H1 locs1 hL hf hS => ?_)
  have hP := LO.keep hne hP hf
  refine lv_goto (tgt := 21) hx hb d_L_told_10 (by decide) ?_
  refine n_const (k := 0) hx hb d_L_told_21 (by decide) ?_
  exact w_ret hx hb hr hlocks hP hL hS hp rfl (by decide) (by decide) d_L_told_22
set_option maxHeartbeats 4000000 in
set_option maxRecDepth 100000 in
theorem w_told_x1 {l : Launch} {D : va_G} {cI cC cZ cT : ClassId} {ad : Nat → Nat} {cL : ClassId} {o : Nat} (hne : ¬ GA 144 ad o) {fr lo : Nat} {P : PM → Prop} {M : PM} (g : Nat → Int64) (x y : Int32) (hfr : fr ≤ 8) (hlo : lo ≤ 200) (hM : MX l D cI cC cZ cT ad y_C_told b_C_told 3 (some .int) fr lo [.ref (ad 0), .int x, .int y] M "java/lang/IndexOutOfBoundsException" P) : MW l D cI cC cZ cT ad cL o y_L_told b_L_told 5 [(0, 10, 13, 30), (0, 10, 17, 13)] [.ref (ad 0), .int x, .int y, .ref o] M g 1 P (fun _ => True) := by
  refine MW.of (by decide) (Nat.le_of_ble_eq_true rfl) ?_
  intro p e s m below meth c ls hx hb hr hml hown hg hlocks hTab hK hN hX hNC hL hAr hP hl
  have hown : s.vm.findClass R_L = some m.cls := hown
  have hl : lv_has ls 5 [(0, .ref (ad 0)), (1, .int x), (2, .int y), (3, .ref o)] := hl
  refine lv_aload_n hx hb d_L_told_0 rfl (lv_at hl 3 rfl) ?_
  refine n_const (k := 0) hx hb d_L_told_1 (by decide) ?_
  refine lv_aload_n hx hb d_L_told_2 rfl (lv_at hl 0 rfl) ?_
  refine lv_iload_n hx hb d_L_told_3 rfl (lv_at hl 1 rfl) ?_
  refine lv_iload_n hx hb d_L_told_4 rfl (lv_at hl 2 rfl) ?_
  refine x_C (own := R_L) (index := 48) (As := [.int x, .int y]) (rest := [.int (nI 0), .ref o]) hx hb hml hown hg hK hN hX hP hM rfl k_547 k_548 k_549 k_1 k_550 2 rfl (by decide +kernel) ⟨by show fr + 1 ≤ 9; omega, by show 8 + (3 + 11) + lo ≤ 230; omega, Nat.le_refl _, Nat.le_refl _⟩ rfl hl.1 (Nat.le_of_ble_eq_true rfl) d_L_told_5 [] (⟨0, 10, 13, 30⟩ : ExceptionTableEntry) [(⟨0, 10, 17, 13⟩ : ExceptionTableEntry)] hTab (fun z hz => by cases hz) rfl (by decide) k_396 XC_IOE (fun q M' H locs hp hP hk hS => ?_)
  have hL : LO cL o g H := (hk o (LO.lt hL) hne).trans hL
  refine W.eq (g2 := F0 m 13 ls [.ref q]) rfl ?_
  refine lv_astore (lv' := [(4, .ref q), (0, .ref (ad 0)), (1, .int x), (2, .int y), (3, .ref o)]) hx hb d_L_told_13 hl (by decide) rfl (fun ls hl => ?_)
  refine n_const (k := 1) hx hb d_L_told_15 (by decide) ?_
  exact w_ret hx hb hr hlocks hP hL (LO.fw hS) hp trivial (by decide) (by decide) d_L_told_16
set_option maxHeartbeats 4000000 in
set_option maxRecDepth 100000 in
theorem w_told_x2 {l : Launch} {D : va_G} {cI cC cZ cT : ClassId} {ad : Nat → Nat} {cL : ClassId} {o : Nat} (hne : ¬ GA 144 ad o) {fr lo : Nat} {P : PM → Prop} {M : PM} (g : Nat → Int64) (x y : Int32) (hfr : fr ≤ 8) (hlo : lo ≤ 200) (hM : MX l D cI cC cZ cT ad y_C_told b_C_told 3 (some .int) fr lo [.ref (ad 0), .int x, .int y] M "java/lang/IllegalArgumentException" P) : MW l D cI cC cZ cT ad cL o y_L_told b_L_told 5 [(0, 10, 13, 30), (0, 10, 17, 13)] [.ref (ad 0), .int x, .int y, .ref o] M g 2 P (fun _ => True) := by
  refine MW.of (by decide) (Nat.le_of_ble_eq_true rfl) ?_
  intro p e s m below meth c ls hx hb hr hml hown hg hlocks hTab hK hN hX hNC hL hAr hP hl
  have hown : s.vm.findClass R_L = some m.cls := hown
  have hl : lv_has ls 5 [(0, .ref (ad 0)), (1, .int x), (2, .int y), (3, .ref o)] := hl
  refine lv_aload_n hx hb d_L_told_0 rfl (lv_at hl 3 rfl) ?_
  refine n_const (k := 0) hx hb d_L_told_1 (by decide) ?_
  refine lv_aload_n hx hb d_L_told_2 rfl (lv_at hl 0 rfl) ?_
  refine lv_iload_n hx hb d_L_told_3 rfl (lv_at hl 1 rfl) ?_
  refine lv_iload_n hx hb d_L_told_4 rfl (lv_at hl 2 rfl) ?_
  refine x_C (own := R_L) (index := 48) (As := [.int x, .int y]) (rest := [.int (nI 0), .ref o]) hx hb hml hown hg hK hN hX hP hM rfl k_547 k_548 k_549 k_1 k_550 2 rfl (by decide +kernel) ⟨by show fr + 1 ≤ 9; omega, by show 8 + (3 + 11) + lo ≤ 230; omega, Nat.le_refl _, Nat.le_refl _⟩ rfl hl.1 (Nat.le_of_ble_eq_true rfl) d_L_told_5 [(⟨0, 10, 13, 30⟩ : ExceptionTableEntry)] (⟨0, 10, 17, 13⟩ : ExceptionTableEntry) [] hTab (fun z hz => by
    simp only [List.mem_cons, List.not_mem_nil, or_false] at hz
    subst hz
    exact Or.inr ⟨by decide, _, hg _ k_396, hNC _ XE_IAE _ XE_IOE (by decide +kernel)⟩) rfl (by decide) k_198 XC_IAE (fun q M' H locs hp hP hk hS => ?_)
  have hL : LO cL o g H := (hk o (LO.lt hL) hne).trans hL
  refine W.eq (g2 := F0 m 17 ls [.ref q]) rfl ?_
  refine lv_astore (lv' := [(4, .ref q), (0, .ref (ad 0)), (1, .int x), (2, .int y), (3, .ref o)]) hx hb d_L_told_17 hl (by decide) rfl (fun ls hl => ?_)
  refine n_const (k := 2) hx hb d_L_told_19 (by decide) ?_
  exact w_ret hx hb hr hlocks hP hL (LO.fw hS) hp trivial (by decide) (by decide) d_L_told_20

set_option maxHeartbeats 4000000 in
set_option maxRecDepth 100000 in
theorem w_document_r {l : Launch} {D : va_G} {cI cC cZ cT : ClassId} {ad : Nat → Nat} {cL : ClassId} {o : Nat} (hne : ¬ GA 144 ad o) {fr lo : Nat} {v : Int32} {P : PM → Prop} {M : PM} (g : Nat → Int64) (x y : Int32) (hfr : fr ≤ 8) (hlo : lo ≤ 200) (hM : MD l D cI cC cZ cT ad y_C_document b_C_document 4 (some .int) fr lo [.ref (ad 0), .int x, .int y] M (fun r M' => r = some (.int v) ∧ P M')) : MW l D cI cC cZ cT ad cL o y_L_document b_L_document 5 [(0, 10, 13, 30)] [.ref (ad 0), .int x, .int y, .ref o] M g 0 P (fun g' => g' 0 = v.toInt64) := by
  refine MW.of (by decide) (Nat.le_of_ble_eq_true rfl) ?_
  intro p e s m below meth c ls hx hb hr hml hown hg hlocks hTab hK hN hX hNC hL hAr hP hl
  have hown : s.vm.findClass R_L = some m.cls := hown
  have hl : lv_has ls 5 [(0, .ref (ad 0)), (1, .int x), (2, .int y), (3, .ref o)] := hl
  refine lv_aload_n hx hb d_L_document_0 rfl (lv_at hl 3 rfl) ?_
  refine n_const (k := 0) hx hb d_L_document_1 (by decide) ?_
  refine lv_aload_n hx hb d_L_document_2 rfl (lv_at hl 0 rfl) ?_
  refine lv_iload_n hx hb d_L_document_3 rfl (lv_at hl 1 rfl) ?_
  refine lv_iload_n hx hb d_L_document_4 rfl (lv_at hl 2 rfl) ?_
  refine c_V (own := R_L) (index := 52) (As := [.int x, .int y]) (rest := [.int (nI 0), .ref o]) (A := FW ad o) (H0 := s.heap) hx hb hml hown hg hK NXc.same hN.warm (fun _ h => Or.inl h) hP va_S.rf 0 hM (by decide) (ci := 7) rfl rfl k_561 k_562 k_563 k_1 k_564 2 rfl (by decide +kernel) ⟨by show fr + 1 ≤ 9; omega, by show 8 + (4 + 11) + lo ≤ 230; omega, Nat.le_of_ble_eq_true rfl, Nat.le_of_ble_eq_true rfl⟩ rfl hl.1 (Nat.le_of_ble_eq_true rfl) d_L_document_5 (fun v9 M' H locs hq hP hz hk hS => ?_)
  obtain ⟨rfl, hp⟩ := hq
  have hL : LO cL o g H := (hk o (LO.lt hL) hne).trans hL
  refine W.eq (g2 := F0 m 8 ls [.int v, .int (nI 0), .ref o]) rfl ?_
  refine lv_i2l hx hb d_L_document_8 rfl ?_
  refine w_last (x := v.toInt64) hx hb hAr hL (A := FW ad o) (Or.inr rfl) hS d_L_document_9 (fun H1 locs1 hL hf hS => ?_)
  have hP := LO.keep hne hP hf
  refine lv_goto (tgt := 17) hx hb d_L_document_10 (by decide) ?_
  refine n_const (k := 0) hx hb d_L_document_17 (by decide) ?_
  exact w_ret hx hb hr hlocks hP hL hS hp rfl (by decide) (by decide) d_L_document_18
set_option maxHeartbeats 4000000 in
set_option maxRecDepth 100000 in
theorem w_document_x1 {l : Launch} {D : va_G} {cI cC cZ cT : ClassId} {ad : Nat → Nat} {cL : ClassId} {o : Nat} (hne : ¬ GA 144 ad o) {fr lo : Nat} {P : PM → Prop} {M : PM} (g : Nat → Int64) (x y : Int32) (hfr : fr ≤ 8) (hlo : lo ≤ 200) (hM : MX l D cI cC cZ cT ad y_C_document b_C_document 4 (some .int) fr lo [.ref (ad 0), .int x, .int y] M "java/lang/IndexOutOfBoundsException" P) : MW l D cI cC cZ cT ad cL o y_L_document b_L_document 5 [(0, 10, 13, 30)] [.ref (ad 0), .int x, .int y, .ref o] M g 1 P (fun _ => True) := by
  refine MW.of (by decide) (Nat.le_of_ble_eq_true rfl) ?_
  intro p e s m below meth c ls hx hb hr hml hown hg hlocks hTab hK hN hX hNC hL hAr hP hl
  have hown : s.vm.findClass R_L = some m.cls := hown
  have hl : lv_has ls 5 [(0, .ref (ad 0)), (1, .int x), (2, .int y), (3, .ref o)] := hl
  refine lv_aload_n hx hb d_L_document_0 rfl (lv_at hl 3 rfl) ?_
  refine n_const (k := 0) hx hb d_L_document_1 (by decide) ?_
  refine lv_aload_n hx hb d_L_document_2 rfl (lv_at hl 0 rfl) ?_
  refine lv_iload_n hx hb d_L_document_3 rfl (lv_at hl 1 rfl) ?_
  refine lv_iload_n hx hb d_L_document_4 rfl (lv_at hl 2 rfl) ?_
  refine x_C (own := R_L) (index := 52) (As := [.int x, .int y]) (rest := [.int (nI 0), .ref o]) hx hb hml hown hg hK hN hX hP hM rfl k_561 k_562 k_563 k_1 k_564 2 rfl (by decide +kernel) ⟨by show fr + 1 ≤ 9; omega, by show 8 + (4 + 11) + lo ≤ 230; omega, Nat.le_refl _, Nat.le_refl _⟩ rfl hl.1 (Nat.le_of_ble_eq_true rfl) d_L_document_5 [] (⟨0, 10, 13, 30⟩ : ExceptionTableEntry) [] hTab (fun z hz => by cases hz) rfl (by decide) k_396 XC_IOE (fun q M' H locs hp hP hk hS => ?_)
  have hL : LO cL o g H := (hk o (LO.lt hL) hne).trans hL
  refine W.eq (g2 := F0 m 13 ls [.ref q]) rfl ?_
  refine lv_astore (lv' := [(4, .ref q), (0, .ref (ad 0)), (1, .int x), (2, .int y), (3, .ref o)]) hx hb d_L_document_13 hl (by decide) rfl (fun ls hl => ?_)
  refine n_const (k := 1) hx hb d_L_document_15 (by decide) ?_
  exact w_ret hx hb hr hlocks hP hL (LO.fw hS) hp trivial (by decide) (by decide) d_L_document_16

set_option maxHeartbeats 4000000 in
set_option maxRecDepth 100000 in
theorem w_use_r {l : Launch} {D : va_G} {cI cC cZ cT : ClassId} {ad : Nat → Nat} {cL : ClassId} {o : Nat} (hne : ¬ GA 144 ad o) {fr lo : Nat} {v : Int32} {P : PM → Prop} {M : PM} (g : Nat → Int64) (x : Int32) (hfr : fr ≤ 8) (hlo : lo ≤ 200) (hM : MD l D cI cC cZ cT ad y_C_use b_C_use 2 (some .int) fr lo [.ref (ad 0), .int x] M (fun r M' => r = some (.int v) ∧ P M')) : MW l D cI cC cZ cT ad cL o y_L_use b_L_use 4 [(0, 9, 12, 30)] [.ref (ad 0), .int x, .ref o] M g 0 P (fun g' => g' 0 = v.toInt64) := by
  refine MW.of (by decide) (Nat.le_of_ble_eq_true rfl) ?_
  intro p e s m below meth c ls hx hb hr hml hown hg hlocks hTab hK hN hX hNC hL hAr hP hl
  have hown : s.vm.findClass R_L = some m.cls := hown
  have hl : lv_has ls 4 [(0, .ref (ad 0)), (1, .int x), (2, .ref o)] := hl
  refine lv_aload_n hx hb d_L_use_0 rfl (lv_at hl 2 rfl) ?_
  refine n_const (k := 0) hx hb d_L_use_1 (by decide) ?_
  refine lv_aload_n hx hb d_L_use_2 rfl (lv_at hl 0 rfl) ?_
  refine lv_iload_n hx hb d_L_use_3 rfl (lv_at hl 1 rfl) ?_
  refine c_V (own := R_L) (index := 55) (As := [.int x]) (rest := [.int (nI 0), .ref o]) (A := FW ad o) (H0 := s.heap) hx hb hml hown hg hK NXc.same hN.warm (fun _ h => Or.inl h) hP va_S.rf 0 hM (by decide) (ci := 7) rfl rfl k_594 k_595 k_596 k_1 k_597 1 rfl (by decide +kernel) ⟨by show fr + 1 ≤ 9; omega, by show 8 + (2 + 11) + lo ≤ 230; omega, Nat.le_of_ble_eq_true rfl, Nat.le_of_ble_eq_true rfl⟩ rfl hl.1 (Nat.le_of_ble_eq_true rfl) d_L_use_4 (fun v9 M' H locs hq hP hz hk hS => ?_)
  obtain ⟨rfl, hp⟩ := hq
  have hL : LO cL o g H := (hk o (LO.lt hL) hne).trans hL
  refine W.eq (g2 := F0 m 7 ls [.int v, .int (nI 0), .ref o]) rfl ?_
  refine lv_i2l hx hb d_L_use_7 rfl ?_
  refine w_last (x := v.toInt64) hx hb hAr hL (A := FW ad o) (Or.inr rfl) hS d_L_use_8 (fun H1 locs1 hL hf hS => ?_)
  have hP := LO.keep hne hP hf
  refine lv_goto (tgt := 15) hx hb d_L_use_9 (by decide) ?_
  refine n_const (k := 0) hx hb d_L_use_15 (by decide) ?_
  exact w_ret hx hb hr hlocks hP hL hS hp rfl (by decide) (by decide) d_L_use_16
set_option maxHeartbeats 4000000 in
set_option maxRecDepth 100000 in
theorem w_use_x1 {l : Launch} {D : va_G} {cI cC cZ cT : ClassId} {ad : Nat → Nat} {cL : ClassId} {o : Nat} (hne : ¬ GA 144 ad o) {fr lo : Nat} {P : PM → Prop} {M : PM} (g : Nat → Int64) (x : Int32) (hfr : fr ≤ 8) (hlo : lo ≤ 200) (hM : MX l D cI cC cZ cT ad y_C_use b_C_use 2 (some .int) fr lo [.ref (ad 0), .int x] M "java/lang/IndexOutOfBoundsException" P) : MW l D cI cC cZ cT ad cL o y_L_use b_L_use 4 [(0, 9, 12, 30)] [.ref (ad 0), .int x, .ref o] M g 1 P (fun _ => True) := by
  refine MW.of (by decide) (Nat.le_of_ble_eq_true rfl) ?_
  intro p e s m below meth c ls hx hb hr hml hown hg hlocks hTab hK hN hX hNC hL hAr hP hl
  have hown : s.vm.findClass R_L = some m.cls := hown
  have hl : lv_has ls 4 [(0, .ref (ad 0)), (1, .int x), (2, .ref o)] := hl
  refine lv_aload_n hx hb d_L_use_0 rfl (lv_at hl 2 rfl) ?_
  refine n_const (k := 0) hx hb d_L_use_1 (by decide) ?_
  refine lv_aload_n hx hb d_L_use_2 rfl (lv_at hl 0 rfl) ?_
  refine lv_iload_n hx hb d_L_use_3 rfl (lv_at hl 1 rfl) ?_
  refine x_C (own := R_L) (index := 55) (As := [.int x]) (rest := [.int (nI 0), .ref o]) hx hb hml hown hg hK hN hX hP hM rfl k_594 k_595 k_596 k_1 k_597 1 rfl (by decide +kernel) ⟨by show fr + 1 ≤ 9; omega, by show 8 + (2 + 11) + lo ≤ 230; omega, Nat.le_refl _, Nat.le_refl _⟩ rfl hl.1 (Nat.le_of_ble_eq_true rfl) d_L_use_4 [] (⟨0, 9, 12, 30⟩ : ExceptionTableEntry) [] hTab (fun z hz => by cases hz) rfl (by decide) k_396 XC_IOE (fun q M' H locs hp hP hk hS => ?_)
  have hL : LO cL o g H := (hk o (LO.lt hL) hne).trans hL
  refine W.eq (g2 := F0 m 12 ls [.ref q]) rfl ?_
  refine lv_astore_n (lv' := [(3, .ref q), (0, .ref (ad 0)), (1, .int x), (2, .ref o)]) hx hb d_L_use_12 rfl hl (by decide) rfl (fun ls hl => ?_)
  refine n_const (k := 1) hx hb d_L_use_13 (by decide) ?_
  exact w_ret hx hb hr hlocks hP hL (LO.fw hS) hp trivial (by decide) (by decide) d_L_use_14
