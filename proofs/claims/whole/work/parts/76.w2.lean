set_option maxHeartbeats 4000000 in
set_option maxRecDepth 100000 in
theorem w_used_r {l : Launch} {D : va_G} {cI cC cZ cT : ClassId} {ad : Nat → Nat} {cL : ClassId} {o : Nat} (hne : ¬ GA 144 ad o) {fr lo : Nat} {v : Int32} {P : PM → Prop} {M : PM} (g : Nat → Int64) (x : Int32) (hfr : fr ≤ 8) (hlo : lo ≤ 200) (hM : MD l D cI cC cZ cT ad y_C_used b_C_used 2 (some .int) fr lo [.ref (ad 0), .int x] M (fun r M' => r = some (.int v) ∧ P M')) : MW l D cI cC cZ cT ad cL o y_L_used b_L_used 4 [(0, 9, 12, 30)] [.ref (ad 0), .int x, .ref o] M g 0 P (fun g' => g' 0 = v.toInt64) := by
  refine MW.of (by decide) (Nat.le_of_ble_eq_true rfl) ?_
  intro p e s m below meth c ls hx hb hr hml hown hg hlocks hTab hK hN hX hNC hL hAr hP hl
  have hown : s.vm.findClass R_L = some m.cls := hown
  have hl : lv_has ls 4 [(0, .ref (ad 0)), (1, .int x), (2, .ref o)] := hl
  refine lv_aload_n hx hb d_L_used_0 rfl (lv_at hl 2 rfl) ?_
  refine n_const (k := 0) hx hb d_L_used_1 (by decide) ?_
  refine lv_aload_n hx hb d_L_used_2 rfl (lv_at hl 0 rfl) ?_
  refine lv_iload_n hx hb d_L_used_3 rfl (lv_at hl 1 rfl) ?_
  refine c_V (own := R_L) (index := 58) (As := [.int x]) (rest := [.int (nI 0), .ref o]) (A := FW ad o) (H0 := s.heap) hx hb hml hown hg hK NXc.same hN.warm (fun _ h => Or.inl h) hP va_S.rf 0 hM (by decide) (ci := 7) rfl rfl k_601 k_602 k_603 k_1 k_604 1 rfl (by decide +kernel) ⟨by show fr + 1 ≤ 9; omega, by show 8 + (2 + 11) + lo ≤ 230; omega, Nat.le_of_ble_eq_true rfl, Nat.le_of_ble_eq_true rfl⟩ rfl hl.1 (Nat.le_of_ble_eq_true rfl) d_L_used_4 (fun v9 M' H locs hq hP hz hk hS => ?_)
  obtain ⟨rfl, hp⟩ := hq
  have hL : LO cL o g H := (hk o (LO.lt hL) hne).trans hL
  refine W.eq (g2 := F0 m 7 ls [.int v, .int (nI 0), .ref o]) rfl ?_
  refine lv_i2l hx hb d_L_used_7 rfl ?_
  refine w_last (x := v.toInt64) hx hb hAr hL (A := FW ad o) (Or.inr rfl) hS d_L_used_8 (fun H1 locs1 hL hf hS => ?_)
  have hP := LO.keep hne hP hf
  refine lv_goto (tgt := 15) hx hb d_L_used_9 (by decide) ?_
  refine n_const (k := 0) hx hb d_L_used_15 (by decide) ?_
  exact w_ret hx hb hr hlocks hP hL hS hp rfl (by decide) (by decide) d_L_used_16
set_option maxHeartbeats 4000000 in
set_option maxRecDepth 100000 in
theorem w_used_x1 {l : Launch} {D : va_G} {cI cC cZ cT : ClassId} {ad : Nat → Nat} {cL : ClassId} {o : Nat} (hne : ¬ GA 144 ad o) {fr lo : Nat} {P : PM → Prop} {M : PM} (g : Nat → Int64) (x : Int32) (hfr : fr ≤ 8) (hlo : lo ≤ 200) (hM : MX l D cI cC cZ cT ad y_C_used b_C_used 2 (some .int) fr lo [.ref (ad 0), .int x] M "java/lang/IndexOutOfBoundsException" P) : MW l D cI cC cZ cT ad cL o y_L_used b_L_used 4 [(0, 9, 12, 30)] [.ref (ad 0), .int x, .ref o] M g 1 P (fun _ => True) := by
  refine MW.of (by decide) (Nat.le_of_ble_eq_true rfl) ?_
  intro p e s m below meth c ls hx hb hr hml hown hg hlocks hTab hK hN hX hNC hL hAr hP hl
  have hown : s.vm.findClass R_L = some m.cls := hown
  have hl : lv_has ls 4 [(0, .ref (ad 0)), (1, .int x), (2, .ref o)] := hl
  refine lv_aload_n hx hb d_L_used_0 rfl (lv_at hl 2 rfl) ?_
  refine n_const (k := 0) hx hb d_L_used_1 (by decide) ?_
  refine lv_aload_n hx hb d_L_used_2 rfl (lv_at hl 0 rfl) ?_
  refine lv_iload_n hx hb d_L_used_3 rfl (lv_at hl 1 rfl) ?_
  refine x_C (own := R_L) (index := 58) (As := [.int x]) (rest := [.int (nI 0), .ref o]) hx hb hml hown hg hK hN hX hP hM rfl k_601 k_602 k_603 k_1 k_604 1 rfl (by decide +kernel) ⟨by show fr + 1 ≤ 9; omega, by show 8 + (2 + 11) + lo ≤ 230; omega, Nat.le_refl _, Nat.le_refl _⟩ rfl hl.1 (Nat.le_of_ble_eq_true rfl) d_L_used_4 [] (⟨0, 9, 12, 30⟩ : ExceptionTableEntry) [] hTab (fun z hz => by cases hz) rfl (by decide) k_396 XC_IOE (fun q M' H locs hp hP hk hS => ?_)
  have hL : LO cL o g H := (hk o (LO.lt hL) hne).trans hL
  refine W.eq (g2 := F0 m 12 ls [.ref q]) rfl ?_
  refine lv_astore_n (lv' := [(3, .ref q), (0, .ref (ad 0)), (1, .int x), (2, .ref o)]) hx hb d_L_used_12 rfl hl (by decide) rfl (fun ls hl => ?_)
  refine n_const (k := 1) hx hb d_L_used_13 (by decide) ?_
  exact w_ret hx hb hr hlocks hP hL (LO.fw hS) hp trivial (by decide) (by decide) d_L_used_14

set_option maxHeartbeats 4000000 in
set_option maxRecDepth 100000 in
theorem w_unknown_r {l : Launch} {D : va_G} {cI cC cZ cT : ClassId} {ad : Nat → Nat} {cL : ClassId} {o : Nat} (hne : ¬ GA 144 ad o) {fr lo : Nat} {v : Int32} {P : PM → Prop} {M : PM} (g : Nat → Int64) (x : Int32) (hfr : fr ≤ 8) (hlo : lo ≤ 200) (hM : MD l D cI cC cZ cT ad y_C_unknown b_C_unknown 4 (some .int) fr lo [.ref (ad 0), .int x] M (fun r M' => r = some (.int v) ∧ P M')) : MW l D cI cC cZ cT ad cL o y_L_unknown b_L_unknown 4 [(0, 9, 12, 30)] [.ref (ad 0), .int x, .ref o] M g 0 P (fun g' => g' 0 = v.toInt64) := by
  refine MW.of (by decide) (Nat.le_of_ble_eq_true rfl) ?_
  intro p e s m below meth c ls hx hb hr hml hown hg hlocks hTab hK hN hX hNC hL hAr hP hl
  have hown : s.vm.findClass R_L = some m.cls := hown
  have hl : lv_has ls 4 [(0, .ref (ad 0)), (1, .int x), (2, .ref o)] := hl
  refine lv_aload_n hx hb d_L_unknown_0 rfl (lv_at hl 2 rfl) ?_
  refine n_const (k := 0) hx hb d_L_unknown_1 (by decide) ?_
  refine lv_aload_n hx hb d_L_unknown_2 rfl (lv_at hl 0 rfl) ?_
  refine lv_iload_n hx hb d_L_unknown_3 rfl (lv_at hl 1 rfl) ?_
  refine c_V (own := R_L) (index := 61) (As := [.int x]) (rest := [.int (nI 0), .ref o]) (A := FW ad o) (H0 := s.heap) hx hb hml hown hg hK NXc.same hN.warm (fun _ h => Or.inl h) hP va_S.rf 0 hM (by decide) (ci := 7) rfl rfl k_608 k_609 k_610 k_1 k_611 1 rfl (by decide +kernel) ⟨by show fr + 1 ≤ 9; omega, by show 8 + (4 + 11) + lo ≤ 230; omega, Nat.le_of_ble_eq_true rfl, Nat.le_of_ble_eq_true rfl⟩ rfl hl.1 (Nat.le_of_ble_eq_true rfl) d_L_unknown_4 (fun v9 M' H locs hq hP hz hk hS => ?_)
  obtain ⟨rfl, hp⟩ := hq
  have hL : LO cL o g H := (hk o (LO.lt hL) hne).trans hL
  refine W.eq (g2 := F0 m 7 ls [.int v, .int (nI 0), .ref o]) rfl ?_
  refine lv_i2l hx hb d_L_unknown_7 rfl ?_
  refine w_last (x := v.toInt64) hx hb hAr hL (A := FW ad o) (Or.inr rfl) hS d_L_unknown_8 (fun H1 locs1 hL hf hS => ?_)
  have hP := LO.keep hne hP hf
  refine lv_goto (tgt := 15) hx hb d_L_unknown_9 (by decide) ?_
  refine n_const (k := 0) hx hb d_L_unknown_15 (by decide) ?_
  exact w_ret hx hb hr hlocks hP hL hS hp rfl (by decide) (by decide) d_L_unknown_16
set_option maxHeartbeats 4000000 in
set_option maxRecDepth 100000 in
theorem w_unknown_x1 {l : Launch} {D : va_G} {cI cC cZ cT : ClassId} {ad : Nat → Nat} {cL : ClassId} {o : Nat} (hne : ¬ GA 144 ad o) {fr lo : Nat} {P : PM → Prop} {M : PM} (g : Nat → Int64) (x : Int32) (hfr : fr ≤ 8) (hlo : lo ≤ 200) (hM : MX l D cI cC cZ cT ad y_C_unknown b_C_unknown 4 (some .int) fr lo [.ref (ad 0), .int x] M "java/lang/IndexOutOfBoundsException" P) : MW l D cI cC cZ cT ad cL o y_L_unknown b_L_unknown 4 [(0, 9, 12, 30)] [.ref (ad 0), .int x, .ref o] M g 1 P (fun _ => True) := by
  refine MW.of (by decide) (Nat.le_of_ble_eq_true rfl) ?_
  intro p e s m below meth c ls hx hb hr hml hown hg hlocks hTab hK hN hX hNC hL hAr hP hl
  have hown : s.vm.findClass R_L = some m.cls := hown
  have hl : lv_has ls 4 [(0, .ref (ad 0)), (1, .int x), (2, .ref o)] := hl
  refine lv_aload_n hx hb d_L_unknown_0 rfl (lv_at hl 2 rfl) ?_
  refine n_const (k := 0) hx hb d_L_unknown_1 (by decide) ?_
  refine lv_aload_n hx hb d_L_unknown_2 rfl (lv_at hl 0 rfl) ?_
  refine lv_iload_n hx hb d_L_unknown_3 rfl (lv_at hl 1 rfl) ?_
  refine x_C (own := R_L) (index := 61) (As := [.int x]) (rest := [.int (nI 0), .ref o]) hx hb hml hown hg hK hN hX hP hM rfl k_608 k_609 k_610 k_1 k_611 1 rfl (by decide +kernel) ⟨by show fr + 1 ≤ 9; omega, by show 8 + (4 + 11) + lo ≤ 230; omega, Nat.le_refl _, Nat.le_refl _⟩ rfl hl.1 (Nat.le_of_ble_eq_true rfl) d_L_unknown_4 [] (⟨0, 9, 12, 30⟩ : ExceptionTableEntry) [] hTab (fun z hz => by cases hz) rfl (by decide) k_396 XC_IOE (fun q M' H locs hp hP hk hS => ?_)
  have hL : LO cL o g H := (hk o (LO.lt hL) hne).trans hL
  refine W.eq (g2 := F0 m 12 ls [.ref q]) rfl ?_
  refine lv_astore_n (lv' := [(3, .ref q), (0, .ref (ad 0)), (1, .int x), (2, .ref o)]) hx hb d_L_unknown_12 rfl hl (by decide) rfl (fun ls hl => ?_)
  refine n_const (k := 1) hx hb d_L_unknown_13 (by decide) ?_
  exact w_ret hx hb hr hlocks hP hL (LO.fw hS) hp trivial (by decide) (by decide) d_L_unknown_14

set_option maxHeartbeats 4000000 in
set_option maxRecDepth 100000 in
theorem w_apart_r {l : Launch} {D : va_G} {cI cC cZ cT : ClassId} {ad : Nat → Nat} {cL : ClassId} {o : Nat} (hne : ¬ GA 144 ad o) {fr lo : Nat} {v : Int32} {P : PM → Prop} {M : PM} (g : Nat → Int64) (x y : Int32) (hfr : fr ≤ 8) (hlo : lo ≤ 200) (hM : MD l D cI cC cZ cT ad y_C_apart b_C_apart 3 (some .int) fr lo [.ref (ad 0), .int x, .int y] M (fun r M' => r = some (.int v) ∧ P M')) : MW l D cI cC cZ cT ad cL o y_L_apart b_L_apart 5 [(0, 10, 13, 30)] [.ref (ad 0), .int x, .int y, .ref o] M g 0 P (fun g' => g' 0 = v.toInt64) := by
  refine MW.of (by decide) (Nat.le_of_ble_eq_true rfl) ?_
  intro p e s m below meth c ls hx hb hr hml hown hg hlocks hTab hK hN hX hNC hL hAr hP hl
  have hown : s.vm.findClass R_L = some m.cls := hown
  have hl : lv_has ls 5 [(0, .ref (ad 0)), (1, .int x), (2, .int y), (3, .ref o)] := hl
  refine lv_aload_n hx hb d_L_apart_0 rfl (lv_at hl 3 rfl) ?_
  refine n_const (k := 0) hx hb d_L_apart_1 (by decide) ?_
  refine lv_aload_n hx hb d_L_apart_2 rfl (lv_at hl 0 rfl) ?_
  refine lv_iload_n hx hb d_L_apart_3 rfl (lv_at hl 1 rfl) ?_
  refine lv_iload_n hx hb d_L_apart_4 rfl (lv_at hl 2 rfl) ?_
  refine c_V (own := R_L) (index := 64) (As := [.int x, .int y]) (rest := [.int (nI 0), .ref o]) (A := FW ad o) (H0 := s.heap) hx hb hml hown hg hK NXc.same hN.warm (fun _ h => Or.inl h) hP va_S.rf 0 hM (by decide) (ci := 7) rfl rfl k_624 k_625 k_626 k_1 k_627 2 rfl (by decide +kernel) ⟨by show fr + 1 ≤ 9; omega, by show 8 + (3 + 11) + lo ≤ 230; omega, Nat.le_of_ble_eq_true rfl, Nat.le_of_ble_eq_true rfl⟩ rfl hl.1 (Nat.le_of_ble_eq_true rfl) d_L_apart_5 (fun v9 M' H locs hq hP hz hk hS => ?_)
  obtain ⟨rfl, hp⟩ := hq
  have hL : LO cL o g H := (hk o (LO.lt hL) hne).trans hL
  refine W.eq (g2 := F0 m 8 ls [.int v, .int (nI 0), .ref o]) rfl ?_
  refine lv_i2l hx hb d_L_apart_8 rfl ?_
  refine w_last (x := v.toInt64) hx hb hAr hL (A := FW ad o) (Or.inr rfl) hS d_L_apart_9 (fun H1 locs1 hL hf hS => ?_)
  have hP := LO.keep hne hP hf
  refine lv_goto (tgt := 17) hx hb d_L_apart_10 (by decide) ?_
  refine n_const (k := 0) hx hb d_L_apart_17 (by decide) ?_
  exact w_ret hx hb hr hlocks hP hL hS hp rfl (by decide) (by decide) d_L_apart_18
set_option maxHeartbeats 4000000 in
set_option maxRecDepth 100000 in
theorem w_apart_x1 {l : Launch} {D : va_G} {cI cC cZ cT : ClassId} {ad : Nat → Nat} {cL : ClassId} {o : Nat} (hne : ¬ GA 144 ad o) {fr lo : Nat} {P : PM → Prop} {M : PM} (g : Nat → Int64) (x y : Int32) (hfr : fr ≤ 8) (hlo : lo ≤ 200) (hM : MX l D cI cC cZ cT ad y_C_apart b_C_apart 3 (some .int) fr lo [.ref (ad 0), .int x, .int y] M "java/lang/IndexOutOfBoundsException" P) : MW l D cI cC cZ cT ad cL o y_L_apart b_L_apart 5 [(0, 10, 13, 30)] [.ref (ad 0), .int x, .int y, .ref o] M g 1 P (fun _ => True) := by
  refine MW.of (by decide) (Nat.le_of_ble_eq_true rfl) ?_
  intro p e s m below meth c ls hx hb hr hml hown hg hlocks hTab hK hN hX hNC hL hAr hP hl
  have hown : s.vm.findClass R_L = some m.cls := hown
  have hl : lv_has ls 5 [(0, .ref (ad 0)), (1, .int x), (2, .int y), (3, .ref o)] := hl
  refine lv_aload_n hx hb d_L_apart_0 rfl (lv_at hl 3 rfl) ?_
  refine n_const (k := 0) hx hb d_L_apart_1 (by decide) ?_
  refine lv_aload_n hx hb d_L_apart_2 rfl (lv_at hl 0 rfl) ?_
  refine lv_iload_n hx hb d_L_apart_3 rfl (lv_at hl 1 rfl) ?_
  refine lv_iload_n hx hb d_L_apart_4 rfl (lv_at hl 2 rfl) ?_
  refine x_C (own := R_L) (index := 64) (As := [.int x, .int y]) (rest := [.int (nI 0), .ref o]) hx hb hml hown hg hK hN hX hP hM rfl k_624 k_625 k_626 k_1 k_627 2 rfl (by decide +kernel) ⟨by show fr + 1 ≤ 9; omega, by show 8 + (3 + 11) + lo ≤ 230; omega, Nat.le_refl _, Nat.le_refl _⟩ rfl hl.1 (Nat.le_of_ble_eq_true rfl) d_L_apart_5 [] (⟨0, 10, 13, 30⟩ : ExceptionTableEntry) [] hTab (fun z hz => by cases hz) rfl (by decide) k_396 XC_IOE (fun q M' H locs hp hP hk hS => ?_)
  have hL : LO cL o g H := (hk o (LO.lt hL) hne).trans hL
  refine W.eq (g2 := F0 m 13 ls [.ref q]) rfl ?_
  refine lv_astore (lv' := [(4, .ref q), (0, .ref (ad 0)), (1, .int x), (2, .int y), (3, .ref o)]) hx hb d_L_apart_13 hl (by decide) rfl (fun ls hl => ?_)
  refine n_const (k := 1) hx hb d_L_apart_15 (by decide) ?_
  exact w_ret hx hb hr hlocks hP hL (LO.fw hS) hp trivial (by decide) (by decide) d_L_apart_16

set_option maxHeartbeats 4000000 in
set_option maxRecDepth 100000 in
theorem w_near_r {l : Launch} {D : va_G} {cI cC cZ cT : ClassId} {ad : Nat → Nat} {cL : ClassId} {o : Nat} (hne : ¬ GA 144 ad o) {fr lo : Nat} {v : Int32} {P : PM → Prop} {M : PM} (g : Nat → Int64) (x y : Int32) (hfr : fr ≤ 8) (hlo : lo ≤ 200) (hM : MD l D cI cC cZ cT ad y_C_near b_C_near 4 (some .int) fr lo [.ref (ad 0), .int x, .int y] M (fun r M' => r = some (.int v) ∧ P M')) : MW l D cI cC cZ cT ad cL o y_L_near b_L_near 5 [(0, 10, 13, 30)] [.ref (ad 0), .int x, .int y, .ref o] M g 0 P (fun g' => g' 0 = v.toInt64) := by
  refine MW.of (by decide) (Nat.le_of_ble_eq_true rfl) ?_
  intro p e s m below meth c ls hx hb hr hml hown hg hlocks hTab hK hN hX hNC hL hAr hP hl
  have hown : s.vm.findClass R_L = some m.cls := hown
  have hl : lv_has ls 5 [(0, .ref (ad 0)), (1, .int x), (2, .int y), (3, .ref o)] := hl
  refine lv_aload_n hx hb d_L_near_0 rfl (lv_at hl 3 rfl) ?_
  refine n_const (k := 0) hx hb d_L_near_1 (by decide) ?_
  refine lv_aload_n hx hb d_L_near_2 rfl (lv_at hl 0 rfl) ?_
  refine lv_iload_n hx hb d_L_near_3 rfl (lv_at hl 1 rfl) ?_
  refine lv_iload_n hx hb d_L_near_4 rfl (lv_at hl 2 rfl) ?_
  refine c_V (own := R_L) (index := 67) (As := [.int x, .int y]) (rest := [.int (nI 0), .ref o]) (A := FW ad o) (H0 := s.heap) hx hb hml hown hg hK NXc.same hN.warm (fun _ h => Or.inl h) hP va_S.rf 0 hM (by decide) (ci := 7) rfl rfl k_638 k_639 k_640 k_1 k_641 2 rfl (by decide +kernel) ⟨by show fr + 1 ≤ 9; omega, by show 8 + (4 + 11) + lo ≤ 230; omega, Nat.le_of_ble_eq_true rfl, Nat.le_of_ble_eq_true rfl⟩ rfl hl.1 (Nat.le_of_ble_eq_true rfl) d_L_near_5 (fun v9 M' H locs hq hP hz hk hS => ?_)
  obtain ⟨rfl, hp⟩ := hq
  have hL : LO cL o g H := (hk o (LO.lt hL) hne).trans hL
  refine W.eq (g2 := F0 m 8 ls [.int v, .int (nI 0), .ref o]) rfl ?_
  refine lv_i2l hx hb d_L_near_8 rfl ?_
  refine w_last (x := v.toInt64) hx hb hAr hL (A := FW ad o) (Or.inr rfl) hS d_L_near_9 (fun H1 locs1 hL hf hS => ?_)
  have hP := LO.keep hne hP hf
  refine lv_goto (tgt := 17) hx hb d_L_near_10 (by decide) ?_
  refine n_const (k := 0) hx hb d_L_near_17 (by decide) ?_
  exact w_ret hx hb hr hlocks hP hL hS hp rfl (by decide) (by decide) d_L_near_18
set_option maxHeartbeats 4000000 in
set_option maxRecDepth 100000 in
theorem w_near_x1 {l : Launch} {D : va_G} {cI cC cZ cT : ClassId} {ad : Nat → Nat} {cL : ClassId} {o : Nat} (hne : ¬ GA 144 ad o) {fr lo : Nat} {P : PM → Prop} {M : PM} (g : Nat → Int64) (x y : Int32) (hfr : fr ≤ 8) (hlo : lo ≤ 200) (hM : MX l D cI cC cZ cT ad y_C_near b_C_near 4 (some .int) fr lo [.ref (ad 0), .int x, .int y] M "java/lang/IndexOutOfBoundsException" P) : MW l D cI cC cZ cT ad cL o y_L_near b_L_near 5 [(0, 10, 13, 30)] [.ref (ad 0), .int x, .int y, .ref o] M g 1 P (fun _ => True) := by
  refine MW.of (by decide) (Nat.le_of_ble_eq_true rfl) ?_
  intro p e s m below meth c ls hx hb hr hml hown hg hlocks hTab hK hN hX hNC hL hAr hP hl
  have hown : s.vm.findClass R_L = some m.cls := hown
  have hl : lv_has ls 5 [(0, .ref (ad 0)), (1, .int x), (2, .int y), (3, .ref o)] := hl
  refine lv_aload_n hx hb d_L_near_0 rfl (lv_at hl 3 rfl) ?_
  refine n_const (k := 0) hx hb d_L_near_1 (by decide) ?_
  refine lv_aload_n hx hb d_L_near_2 rfl (lv_at hl 0 rfl) ?_
  refine lv_iload_n hx hb d_L_near_3 rfl (lv_at hl 1 rfl) ?_
  refine lv_iload_n hx hb d_L_near_4 rfl (lv_at hl 2 rfl) ?_
  refine x_C (own := R_L) (index := 67) (As := [.int x, .int y]) (rest := [.int (nI 0), .ref o]) hx hb hml hown hg hK hN hX hP hM rfl k_638 k_639 k_640 k_1 k_641 2 rfl (by decide +kernel) ⟨by show fr + 1 ≤ 9; omega, by show 8 + (4 + 11) + lo ≤ 230; omega, Nat.le_refl _, Nat.le_refl _⟩ rfl hl.1 (Nat.le_of_ble_eq_true rfl) d_L_near_5 [] (⟨0, 10, 13, 30⟩ : ExceptionTableEntry) [] hTab (fun z hz => by cases hz) rfl (by decide) k_396 XC_IOE (fun q M' H locs hp hP hk hS => ?_)
  have hL : LO cL o g H := (hk o (LO.lt hL) hne).trans hL
  refine W.eq (g2 := F0 m 13 ls [.ref q]) rfl ?_
  refine lv_astore (lv' := [(4, .ref q), (0, .ref (ad 0)), (1, .int x), (2, .int y), (3, .ref o)]) hx hb d_L_near_13 hl (by decide) rfl (fun ls hl => ?_)
  refine n_const (k := 1) hx hb d_L_near_15 (by decide) ?_
  exact w_ret hx hb hr hlocks hP hL (LO.fw hS) hp trivial (by decide) (by decide) d_L_near_16

set_option maxHeartbeats 4000000 in
set_option maxRecDepth 100000 in
theorem w_alias_r {l : Launch} {D : va_G} {cI cC cZ cT : ClassId} {ad : Nat → Nat} {cL : ClassId} {o : Nat} (hne : ¬ GA 144 ad o) {fr lo : Nat} {v : Int32} {P : PM → Prop} {M : PM} (g : Nat → Int64) (x y : Int32) (hfr : fr ≤ 8) (hlo : lo ≤ 200) (hM : MD l D cI cC cZ cT ad y_C_alias b_C_alias 3 (some .boolean) fr lo [.ref (ad 0), .int x, .int y] M (fun r M' => r = some (.int v) ∧ P M')) : MW l D cI cC cZ cT ad cL o y_L_alias b_L_alias 5 [(0, 17, 20, 30)] [.ref (ad 0), .int x, .int y, .ref o] M g 0 P (fun g' => g' 0 = if v = 0 then 0 else 1) := by
  refine MW.of (by decide) (Nat.le_of_ble_eq_true rfl) ?_
  intro p e s m below meth c ls hx hb hr hml hown hg hlocks hTab hK hN hX hNC hL hAr hP hl
  have hown : s.vm.findClass R_L = some m.cls := hown
  have hl : lv_has ls 5 [(0, .ref (ad 0)), (1, .int x), (2, .int y), (3, .ref o)] := hl
  refine lv_aload_n hx hb d_L_alias_0 rfl (lv_at hl 3 rfl) ?_
  refine n_const (k := 0) hx hb d_L_alias_1 (by decide) ?_
  refine lv_aload_n hx hb d_L_alias_2 rfl (lv_at hl 0 rfl) ?_
  refine lv_iload_n hx hb d_L_alias_3 rfl (lv_at hl 1 rfl) ?_
  refine lv_iload_n hx hb d_L_alias_4 rfl (lv_at hl 2 rfl) ?_
  refine c_V (own := R_L) (index := 70) (As := [.int x, .int y]) (rest := [.int (nI 0), .ref o]) (A := FW ad o) (H0 := s.heap) hx hb hml hown hg hK NXc.same hN.warm (fun _ h => Or.inl h) hP va_S.rf 0 hM (by decide) (ci := 7) rfl rfl k_653 k_654 k_655 k_1 k_656 2 rfl (by decide +kernel) ⟨by show fr + 1 ≤ 9; omega, by show 8 + (3 + 11) + lo ≤ 230; omega, Nat.le_of_ble_eq_true rfl, Nat.le_of_ble_eq_true rfl⟩ rfl hl.1 (Nat.le_of_ble_eq_true rfl) d_L_alias_5 (fun v9 M' H locs hq hP hz hk hS => ?_)
  obtain ⟨rfl, hp⟩ := hq
  have hL : LO cL o g H := (hk o (LO.lt hL) hne).trans hL
  refine W.eq (g2 := F0 m 8 ls [.int v, .int (nI 0), .ref o]) rfl ?_
  refine lv_if_eq (tgt := 15) hx hb d_L_alias_8 (by decide) (fun hv => ?_) (fun hv => ?_)
  · refine lv_lconst (v := 0) hx hb d_L_alias_15 (by decide) ?_
    refine w_last (x := 0) hx hb hAr hL (A := FW ad o) (Or.inr rfl) hS d_L_alias_16 (fun H1 locs1 hL hf hS => ?_)
    have hP := LO.keep hne hP hf
    refine lv_goto (tgt := 24) hx hb d_L_alias_17 (by decide) ?_
    refine n_const (k := 0) hx hb d_L_alias_24 (by decide) ?_
    exact w_ret hx hb hr hlocks hP hL hS hp (show (0 : Int64) = if v = 0 then 0 else 1 from (if_pos hv).symm) (by decide) (by decide) d_L_alias_25
  · refine lv_lconst (v := 1) hx hb d_L_alias_11 (by decide) ?_
    refine lv_goto (tgt := 16) hx hb d_L_alias_12 (by decide) ?_
    refine w_last (x := 1) hx hb hAr hL (A := FW ad o) (Or.inr rfl) hS d_L_alias_16 (fun H1 locs1 hL hf hS => ?_)
    have hP := LO.keep hne hP hf
    refine lv_goto (tgt := 24) hx hb d_L_alias_17 (by decide) ?_
    refine n_const (k := 0) hx hb d_L_alias_24 (by decide) ?_
    exact w_ret hx hb hr hlocks hP hL hS hp (show (1 : Int64) = if v = 0 then 0 else 1 from (if_neg hv).symm) (by decide) (by decide) d_L_alias_25
set_option maxHeartbeats 4000000 in
set_option maxRecDepth 100000 in
theorem w_alias_x1 {l : Launch} {D : va_G} {cI cC cZ cT : ClassId} {ad : Nat → Nat} {cL : ClassId} {o : Nat} (hne : ¬ GA 144 ad o) {fr lo : Nat} {P : PM → Prop} {M : PM} (g : Nat → Int64) (x y : Int32) (hfr : fr ≤ 8) (hlo : lo ≤ 200) (hM : MX l D cI cC cZ cT ad y_C_alias b_C_alias 3 (some .boolean) fr lo [.ref (ad 0), .int x, .int y] M "java/lang/IndexOutOfBoundsException" P) : MW l D cI cC cZ cT ad cL o y_L_alias b_L_alias 5 [(0, 17, 20, 30)] [.ref (ad 0), .int x, .int y, .ref o] M g 1 P (fun _ => True) := by
  refine MW.of (by decide) (Nat.le_of_ble_eq_true rfl) ?_
  intro p e s m below meth c ls hx hb hr hml hown hg hlocks hTab hK hN hX hNC hL hAr hP hl
  have hown : s.vm.findClass R_L = some m.cls := hown
  have hl : lv_has ls 5 [(0, .ref (ad 0)), (1, .int x), (2, .int y), (3, .ref o)] := hl
  refine lv_aload_n hx hb d_L_alias_0 rfl (lv_at hl 3 rfl) ?_
  refine n_const (k := 0) hx hb d_L_alias_1 (by decide) ?_
  refine lv_aload_n hx hb d_L_alias_2 rfl (lv_at hl 0 rfl) ?_
  refine lv_iload_n hx hb d_L_alias_3 rfl (lv_at hl 1 rfl) ?_
  refine lv_iload_n hx hb d_L_alias_4 rfl (lv_at hl 2 rfl) ?_
  refine x_C (own := R_L) (index := 70) (As := [.int x, .int y]) (rest := [.int (nI 0), .ref o]) hx hb hml hown hg hK hN hX hP hM rfl k_653 k_654 k_655 k_1 k_656 2 rfl (by decide +kernel) ⟨by show fr + 1 ≤ 9; omega, by show 8 + (3 + 11) + lo ≤ 230; omega, Nat.le_refl _, Nat.le_refl _⟩ rfl hl.1 (Nat.le_of_ble_eq_true rfl) d_L_alias_5 [] (⟨0, 17, 20, 30⟩ : ExceptionTableEntry) [] hTab (fun z hz => by cases hz) rfl (by decide) k_396 XC_IOE (fun q M' H locs hp hP hk hS => ?_)
  have hL : LO cL o g H := (hk o (LO.lt hL) hne).trans hL
  refine W.eq (g2 := F0 m 20 ls [.ref q]) rfl ?_
  refine lv_astore (lv' := [(4, .ref q), (0, .ref (ad 0)), (1, .int x), (2, .int y), (3, .ref o)]) hx hb d_L_alias_20 hl (by decide) rfl (fun ls hl => ?_)
  refine n_const (k := 1) hx hb d_L_alias_22 (by decide) ?_
  exact w_ret hx hb hr hlocks hP hL (LO.fw hS) hp trivial (by decide) (by decide) d_L_alias_23

set_option maxHeartbeats 4000000 in
set_option maxRecDepth 100000 in
theorem w_meaning_r {l : Launch} {D : va_G} {cI cC cZ cT : ClassId} {ad : Nat → Nat} {cL : ClassId} {o : Nat} (hne : ¬ GA 144 ad o) {fr lo : Nat} {v : Int32} {P : PM → Prop} {M : PM} (g : Nat → Int64) (x : Int32) (hfr : fr ≤ 8) (hlo : lo ≤ 200) (hM : MD l D cI cC cZ cT ad y_C_meaning b_C_meaning 2 (some .int) fr lo [.ref (ad 0), .int x] M (fun r M' => r = some (.int v) ∧ P M')) : MW l D cI cC cZ cT ad cL o y_L_meaning b_L_meaning 4 [(0, 9, 12, 30)] [.ref (ad 0), .int x, .ref o] M g 0 P (fun g' => g' 0 = v.toInt64) := by
  refine MW.of (by decide) (Nat.le_of_ble_eq_true rfl) ?_
  intro p e s m below meth c ls hx hb hr hml hown hg hlocks hTab hK hN hX hNC hL hAr hP hl
  have hown : s.vm.findClass R_L = some m.cls := hown
  have hl : lv_has ls 4 [(0, .ref (ad 0)), (1, .int x), (2, .ref o)] := hl
  refine lv_aload_n hx hb d_L_meaning_0 rfl (lv_at hl 2 rfl) ?_
  refine n_const (k := 0) hx hb d_L_meaning_1 (by decide) ?_
  refine lv_aload_n hx hb d_L_meaning_2 rfl (lv_at hl 0 rfl) ?_
  refine lv_iload_n hx hb d_L_meaning_3 rfl (lv_at hl 1 rfl) ?_
  refine c_V (own := R_L) (index := 73) (As := [.int x]) (rest := [.int (nI 0), .ref o]) (A := FW ad o) (H0 := s.heap) hx hb hml hown hg hK NXc.same hN.warm (fun _ h => Or.inl h) hP va_S.rf 0 hM (by decide) (ci := 7) rfl rfl k_668 k_669 k_670 k_1 k_671 1 rfl (by decide +kernel) ⟨by show fr + 1 ≤ 9; omega, by show 8 + (2 + 11) + lo ≤ 230; omega, Nat.le_of_ble_eq_true rfl, Nat.le_of_ble_eq_true rfl⟩ rfl hl.1 (Nat.le_of_ble_eq_true rfl) d_L_meaning_4 (fun v9 M' H locs hq hP hz hk hS => ?_)
  obtain ⟨rfl, hp⟩ := hq
  have hL : LO cL o g H := (hk o (LO.lt hL) hne).trans hL
  refine W.eq (g2 := F0 m 7 ls [.int v, .int (nI 0), .ref o]) rfl ?_
  refine lv_i2l hx hb d_L_meaning_7 rfl ?_
  refine w_last (x := v.toInt64) hx hb hAr hL (A := FW ad o) (Or.inr rfl) hS d_L_meaning_8 (fun H1 locs1 hL hf hS => ?_)
  have hP := LO.keep hne hP hf
  refine lv_goto (tgt := 15) hx hb d_L_meaning_9 (by decide) ?_
  refine n_const (k := 0) hx hb d_L_meaning_15 (by decide) ?_
  exact w_ret hx hb hr hlocks hP hL hS hp rfl (by decide) (by decide) d_L_meaning_16
set_option maxHeartbeats 4000000 in
set_option maxRecDepth 100000 in
theorem w_meaning_x1 {l : Launch} {D : va_G} {cI cC cZ cT : ClassId} {ad : Nat → Nat} {cL : ClassId} {o : Nat} (hne : ¬ GA 144 ad o) {fr lo : Nat} {P : PM → Prop} {M : PM} (g : Nat → Int64) (x : Int32) (hfr : fr ≤ 8) (hlo : lo ≤ 200) (hM : MX l D cI cC cZ cT ad y_C_meaning b_C_meaning 2 (some .int) fr lo [.ref (ad 0), .int x] M "java/lang/IndexOutOfBoundsException" P) : MW l D cI cC cZ cT ad cL o y_L_meaning b_L_meaning 4 [(0, 9, 12, 30)] [.ref (ad 0), .int x, .ref o] M g 1 P (fun _ => True) := by
  refine MW.of (by decide) (Nat.le_of_ble_eq_true rfl) ?_
  intro p e s m below meth c ls hx hb hr hml hown hg hlocks hTab hK hN hX hNC hL hAr hP hl
  have hown : s.vm.findClass R_L = some m.cls := hown
  have hl : lv_has ls 4 [(0, .ref (ad 0)), (1, .int x), (2, .ref o)] := hl
  refine lv_aload_n hx hb d_L_meaning_0 rfl (lv_at hl 2 rfl) ?_
  refine n_const (k := 0) hx hb d_L_meaning_1 (by decide) ?_
  refine lv_aload_n hx hb d_L_meaning_2 rfl (lv_at hl 0 rfl) ?_
  refine lv_iload_n hx hb d_L_meaning_3 rfl (lv_at hl 1 rfl) ?_
  refine x_C (own := R_L) (index := 73) (As := [.int x]) (rest := [.int (nI 0), .ref o]) hx hb hml hown hg hK hN hX hP hM rfl k_668 k_669 k_670 k_1 k_671 1 rfl (by decide +kernel) ⟨by show fr + 1 ≤ 9; omega, by show 8 + (2 + 11) + lo ≤ 230; omega, Nat.le_refl _, Nat.le_refl _⟩ rfl hl.1 (Nat.le_of_ble_eq_true rfl) d_L_meaning_4 [] (⟨0, 9, 12, 30⟩ : ExceptionTableEntry) [] hTab (fun z hz => by cases hz) rfl (by decide) k_396 XC_IOE (fun q M' H locs hp hP hk hS => ?_)
  have hL : LO cL o g H := (hk o (LO.lt hL) hne).trans hL
  refine W.eq (g2 := F0 m 12 ls [.ref q]) rfl ?_
  refine lv_astore_n (lv' := [(3, .ref q), (0, .ref (ad 0)), (1, .int x), (2, .ref o)]) hx hb d_L_meaning_12 rfl hl (by decide) rfl (fun ls hl => ?_)
  refine n_const (k := 1) hx hb d_L_meaning_13 (by decide) ?_
  exact w_ret hx hb hr hlocks hP hL (LO.fw hS) hp trivial (by decide) (by decide) d_L_meaning_14

set_option maxHeartbeats 4000000 in
set_option maxRecDepth 100000 in
theorem w_join_r {l : Launch} {D : va_G} {cI cC cZ cT : ClassId} {ad : Nat → Nat} {cL : ClassId} {o : Nat} (hne : ¬ GA 144 ad o) {fr lo : Nat} {v : Int32} {P : PM → Prop} {M : PM} (g : Nat → Int64) (x y z : Int32) (hfr : fr ≤ 8) (hlo : lo ≤ 200) (hM : MD l D cI cC cZ cT ad y_C_join b_C_join 4 (some .int) fr lo [.ref (ad 0), .int x, .int y, .int z] M (fun r M' => r = some (.int v) ∧ P M')) : MW l D cI cC cZ cT ad cL o y_L_join b_L_join 6 [(0, 12, 15, 30), (0, 12, 19, 13), (0, 12, 23, 15)] [.ref (ad 0), .int x, .int y, .int z, .ref o] M g 0 P (fun g' => g' 0 = v.toInt64) := by
  refine MW.of (by decide) (Nat.le_of_ble_eq_true rfl) ?_
  intro p e s m below meth c ls hx hb hr hml hown hg hlocks hTab hK hN hX hNC hL hAr hP hl
  have hown : s.vm.findClass R_L = some m.cls := hown
  have hl : lv_has ls 6 [(0, .ref (ad 0)), (1, .int x), (2, .int y), (3, .int z), (4, .ref o)] := hl
  refine lv_aload hx hb d_L_join_0 (lv_at hl 4 rfl) ?_
  refine n_const (k := 0) hx hb d_L_join_2 (by decide) ?_
  refine lv_aload_n hx hb d_L_join_3 rfl (lv_at hl 0 rfl) ?_
  refine lv_iload_n hx hb d_L_join_4 rfl (lv_at hl 1 rfl) ?_
  refine lv_iload_n hx hb d_L_join_5 rfl (lv_at hl 2 rfl) ?_
  refine lv_iload_n hx hb d_L_join_6 rfl (lv_at hl 3 rfl) ?_
  refine c_V (own := R_L) (index := 76) (As := [.int x, .int y, .int z]) (rest := [.int (nI 0), .ref o]) (A := FW ad o) (H0 := s.heap) hx hb hml hown hg hK NXc.same hN.warm (fun _ h => Or.inl h) hP va_S.rf 0 hM (by decide) (ci := 7) rfl rfl k_679 k_680 k_681 k_1 k_682 3 rfl (by decide +kernel) ⟨by show fr + 1 ≤ 9; omega, by show 8 + (4 + 11) + lo ≤ 230; omega, Nat.le_of_ble_eq_true rfl, Nat.le_of_ble_eq_true rfl⟩ rfl hl.1 (Nat.le_of_ble_eq_true rfl) d_L_join_7 (fun v9 M' H locs hq hP hz hk hS => ?_)
  obtain ⟨rfl, hp⟩ := hq
  have hL : LO cL o g H := (hk o (LO.lt hL) hne).trans hL
  refine W.eq (g2 := F0 m 10 ls [.int v, .int (nI 0), .ref o]) rfl ?_
  refine lv_i2l hx hb d_L_join_10 rfl ?_
  refine w_last (x := v.toInt64) hx hb hAr hL (A := FW ad o) (Or.inr rfl) hS d_L_join_11 (fun H1 locs1 hL hf hS => ?_)
  have hP := LO.keep hne hP hf
  refine lv_goto (tgt := 27) hx hb d_L_join_12 (by decide) ?_
  refine n_const (k := 0) hx hb d_L_join_27 (by decide) ?_
  exact w_ret hx hb hr hlocks hP hL hS hp rfl (by decide) (by decide) d_L_join_28
set_option maxHeartbeats 4000000 in
set_option maxRecDepth 100000 in
theorem w_join_x1 {l : Launch} {D : va_G} {cI cC cZ cT : ClassId} {ad : Nat → Nat} {cL : ClassId} {o : Nat} (hne : ¬ GA 144 ad o) {fr lo : Nat} {P : PM → Prop} {M : PM} (g : Nat → Int64) (x y z : Int32) (hfr : fr ≤ 8) (hlo : lo ≤ 200) (hM : MX l D cI cC cZ cT ad y_C_join b_C_join 4 (some .int) fr lo [.ref (ad 0), .int x, .int y, .int z] M "java/lang/IndexOutOfBoundsException" P) : MW l D cI cC cZ cT ad cL o y_L_join b_L_join 6 [(0, 12, 15, 30), (0, 12, 19, 13), (0, 12, 23, 15)] [.ref (ad 0), .int x, .int y, .int z, .ref o] M g 1 P (fun _ => True) := by
  refine MW.of (by decide) (Nat.le_of_ble_eq_true rfl) ?_
  intro p e s m below meth c ls hx hb hr hml hown hg hlocks hTab hK hN hX hNC hL hAr hP hl
  have hown : s.vm.findClass R_L = some m.cls := hown
  have hl : lv_has ls 6 [(0, .ref (ad 0)), (1, .int x), (2, .int y), (3, .int z), (4, .ref o)] := hl
  refine lv_aload hx hb d_L_join_0 (lv_at hl 4 rfl) ?_
  refine n_const (k := 0) hx hb d_L_join_2 (by decide) ?_
  refine lv_aload_n hx hb d_L_join_3 rfl (lv_at hl 0 rfl) ?_
  refine lv_iload_n hx hb d_L_join_4 rfl (lv_at hl 1 rfl) ?_
  refine lv_iload_n hx hb d_L_join_5 rfl (lv_at hl 2 rfl) ?_
  refine lv_iload_n hx hb d_L_join_6 rfl (lv_at hl 3 rfl) ?_
  refine x_C (own := R_L) (index := 76) (As := [.int x, .int y, .int z]) (rest := [.int (nI 0), .ref o]) hx hb hml hown hg hK hN hX hP hM rfl k_679 k_680 k_681 k_1 k_682 3 rfl (by decide +kernel) ⟨by show fr + 1 ≤ 9; omega, by show 8 + (4 + 11) + lo ≤ 230; omega, Nat.le_refl _, Nat.le_refl _⟩ rfl hl.1 (Nat.le_of_ble_eq_true rfl) d_L_join_7 [] (⟨0, 12, 15, 30⟩ : ExceptionTableEntry) [(⟨0, 12, 19, 13⟩ : ExceptionTableEntry), (⟨0, 12, 23, 15⟩ : ExceptionTableEntry)] hTab (fun z hz => by cases hz) rfl (by decide) k_396 XC_IOE (fun q M' H locs hp hP hk hS => ?_)
  have hL : LO cL o g H := (hk o (LO.lt hL) hne).trans hL
  refine W.eq (g2 := F0 m 15 ls [.ref q]) rfl ?_
  refine lv_astore (lv' := [(5, .ref q), (0, .ref (ad 0)), (1, .int x), (2, .int y), (3, .int z), (4, .ref o)]) hx hb d_L_join_15 hl (by decide) rfl (fun ls hl => ?_)
  refine n_const (k := 1) hx hb d_L_join_17 (by decide) ?_
  exact w_ret hx hb hr hlocks hP hL (LO.fw hS) hp trivial (by decide) (by decide) d_L_join_18
set_option maxHeartbeats 4000000 in
set_option maxRecDepth 100000 in
theorem w_join_x2 {l : Launch} {D : va_G} {cI cC cZ cT : ClassId} {ad : Nat → Nat} {cL : ClassId} {o : Nat} (hne : ¬ GA 144 ad o) {fr lo : Nat} {P : PM → Prop} {M : PM} (g : Nat → Int64) (x y z : Int32) (hfr : fr ≤ 8) (hlo : lo ≤ 200) (hM : MX l D cI cC cZ cT ad y_C_join b_C_join 4 (some .int) fr lo [.ref (ad 0), .int x, .int y, .int z] M "java/lang/IllegalArgumentException" P) : MW l D cI cC cZ cT ad cL o y_L_join b_L_join 6 [(0, 12, 15, 30), (0, 12, 19, 13), (0, 12, 23, 15)] [.ref (ad 0), .int x, .int y, .int z, .ref o] M g 2 P (fun _ => True) := by
  refine MW.of (by decide) (Nat.le_of_ble_eq_true rfl) ?_
  intro p e s m below meth c ls hx hb hr hml hown hg hlocks hTab hK hN hX hNC hL hAr hP hl
  have hown : s.vm.findClass R_L = some m.cls := hown
  have hl : lv_has ls 6 [(0, .ref (ad 0)), (1, .int x), (2, .int y), (3, .int z), (4, .ref o)] := hl
  refine lv_aload hx hb d_L_join_0 (lv_at hl 4 rfl) ?_
  refine n_const (k := 0) hx hb d_L_join_2 (by decide) ?_
  refine lv_aload_n hx hb d_L_join_3 rfl (lv_at hl 0 rfl) ?_
  refine lv_iload_n hx hb d_L_join_4 rfl (lv_at hl 1 rfl) ?_
  refine lv_iload_n hx hb d_L_join_5 rfl (lv_at hl 2 rfl) ?_
  refine lv_iload_n hx hb d_L_join_6 rfl (lv_at hl 3 rfl) ?_
  refine x_C (own := R_L) (index := 76) (As := [.int x, .int y, .int z]) (rest := [.int (nI 0), .ref o]) hx hb hml hown hg hK hN hX hP hM rfl k_679 k_680 k_681 k_1 k_682 3 rfl (by decide +kernel) ⟨by show fr + 1 ≤ 9; omega, by show 8 + (4 + 11) + lo ≤ 230; omega, Nat.le_refl _, Nat.le_refl _⟩ rfl hl.1 (Nat.le_of_ble_eq_true rfl) d_L_join_7 [(⟨0, 12, 15, 30⟩ : ExceptionTableEntry)] (⟨0, 12, 19, 13⟩ : ExceptionTableEntry) [(⟨0, 12, 23, 15⟩ : ExceptionTableEntry)] hTab (fun z hz => by
    simp only [List.mem_cons, List.not_mem_nil, or_false] at hz
    subst hz
    exact Or.inr ⟨by decide, _, hg _ k_396, hNC _ XE_IAE _ XE_IOE (by decide +kernel)⟩) rfl (by decide) k_198 XC_IAE (fun q M' H locs hp hP hk hS => ?_)
  have hL : LO cL o g H := (hk o (LO.lt hL) hne).trans hL
  refine W.eq (g2 := F0 m 19 ls [.ref q]) rfl ?_
  refine lv_astore (lv' := [(5, .ref q), (0, .ref (ad 0)), (1, .int x), (2, .int y), (3, .int z), (4, .ref o)]) hx hb d_L_join_19 hl (by decide) rfl (fun ls hl => ?_)
  refine n_const (k := 2) hx hb d_L_join_21 (by decide) ?_
  exact w_ret hx hb hr hlocks hP hL (LO.fw hS) hp trivial (by decide) (by decide) d_L_join_22
set_option maxHeartbeats 4000000 in
set_option maxRecDepth 100000 in
theorem w_join_x3 {l : Launch} {D : va_G} {cI cC cZ cT : ClassId} {ad : Nat → Nat} {cL : ClassId} {o : Nat} (hne : ¬ GA 144 ad o) {fr lo : Nat} {P : PM → Prop} {M : PM} (g : Nat → Int64) (x y z : Int32) (hfr : fr ≤ 8) (hlo : lo ≤ 200) (hM : MX l D cI cC cZ cT ad y_C_join b_C_join 4 (some .int) fr lo [.ref (ad 0), .int x, .int y, .int z] M "java/lang/UnsupportedOperationException" P) : MW l D cI cC cZ cT ad cL o y_L_join b_L_join 6 [(0, 12, 15, 30), (0, 12, 19, 13), (0, 12, 23, 15)] [.ref (ad 0), .int x, .int y, .int z, .ref o] M g 3 P (fun _ => True) := by
  refine MW.of (by decide) (Nat.le_of_ble_eq_true rfl) ?_
  intro p e s m below meth c ls hx hb hr hml hown hg hlocks hTab hK hN hX hNC hL hAr hP hl
  have hown : s.vm.findClass R_L = some m.cls := hown
  have hl : lv_has ls 6 [(0, .ref (ad 0)), (1, .int x), (2, .int y), (3, .int z), (4, .ref o)] := hl
  refine lv_aload hx hb d_L_join_0 (lv_at hl 4 rfl) ?_
  refine n_const (k := 0) hx hb d_L_join_2 (by decide) ?_
  refine lv_aload_n hx hb d_L_join_3 rfl (lv_at hl 0 rfl) ?_
  refine lv_iload_n hx hb d_L_join_4 rfl (lv_at hl 1 rfl) ?_
  refine lv_iload_n hx hb d_L_join_5 rfl (lv_at hl 2 rfl) ?_
  refine lv_iload_n hx hb d_L_join_6 rfl (lv_at hl 3 rfl) ?_
  refine x_C (own := R_L) (index := 76) (As := [.int x, .int y, .int z]) (rest := [.int (nI 0), .ref o]) hx hb hml hown hg hK hN hX hP hM rfl k_679 k_680 k_681 k_1 k_682 3 rfl (by decide +kernel) ⟨by show fr + 1 ≤ 9; omega, by show 8 + (4 + 11) + lo ≤ 230; omega, Nat.le_refl _, Nat.le_refl _⟩ rfl hl.1 (Nat.le_of_ble_eq_true rfl) d_L_join_7 [(⟨0, 12, 15, 30⟩ : ExceptionTableEntry), (⟨0, 12, 19, 13⟩ : ExceptionTableEntry)] (⟨0, 12, 23, 15⟩ : ExceptionTableEntry) [] hTab (fun z hz => by
    simp only [List.mem_cons, List.not_mem_nil, or_false] at hz
    rcases hz with rfl | rfl
    · exact Or.inr ⟨by decide, _, hg _ k_396, hNC _ XE_UOE _ XE_IOE (by decide +kernel)⟩
    · exact Or.inr ⟨by decide, _, hg _ k_198, hNC _ XE_UOE _ XE_IAE (by decide +kernel)⟩) rfl (by decide) k_199 XC_UOE (fun q M' H locs hp hP hk hS => ?_)
  have hL : LO cL o g H := (hk o (LO.lt hL) hne).trans hL
  refine W.eq (g2 := F0 m 23 ls [.ref q]) rfl ?_
  refine lv_astore (lv' := [(5, .ref q), (0, .ref (ad 0)), (1, .int x), (2, .int y), (3, .int z), (4, .ref o)]) hx hb d_L_join_23 hl (by decide) rfl (fun ls hl => ?_)
  refine n_const (k := 3) hx hb d_L_join_25 (by decide) ?_
  exact w_ret hx hb hr hlocks hP hL (LO.fw hS) hp trivial (by decide) (by decide) d_L_join_26

set_option maxHeartbeats 4000000 in
set_option maxRecDepth 100000 in
theorem w_rename_r {l : Launch} {D : va_G} {cI cC cZ cT : ClassId} {ad : Nat → Nat} {cL : ClassId} {o : Nat} (hne : ¬ GA 144 ad o) {fr lo : Nat} {v : Int32} {P : PM → Prop} {M : PM} (g : Nat → Int64) (x y : Int32) (hfr : fr ≤ 8) (hlo : lo ≤ 200) (hM : MD l D cI cC cZ cT ad y_C_rename b_C_rename 3 (some .int) fr lo [.ref (ad 0), .int x, .int y] M (fun r M' => r = some (.int v) ∧ P M')) : MW l D cI cC cZ cT ad cL o y_L_rename b_L_rename 5 [(0, 10, 13, 30), (0, 10, 17, 13), (0, 10, 21, 15)] [.ref (ad 0), .int x, .int y, .ref o] M g 0 P (fun g' => g' 0 = v.toInt64) := by
  refine MW.of (by decide) (Nat.le_of_ble_eq_true rfl) ?_
  intro p e s m below meth c ls hx hb hr hml hown hg hlocks hTab hK hN hX hNC hL hAr hP hl
  have hown : s.vm.findClass R_L = some m.cls := hown
  have hl : lv_has ls 5 [(0, .ref (ad 0)), (1, .int x), (2, .int y), (3, .ref o)] := hl
  refine lv_aload_n hx hb d_L_rename_0 rfl (lv_at hl 3 rfl) ?_
  refine n_const (k := 0) hx hb d_L_rename_1 (by decide) ?_
  refine lv_aload_n hx hb d_L_rename_2 rfl (lv_at hl 0 rfl) ?_
  refine lv_iload_n hx hb d_L_rename_3 rfl (lv_at hl 1 rfl) ?_
  refine lv_iload_n hx hb d_L_rename_4 rfl (lv_at hl 2 rfl) ?_
  refine c_V (own := R_L) (index := 79) (As := [.int x, .int y]) (rest := [.int (nI 0), .ref o]) (A := FW ad o) (H0 := s.heap) hx hb hml hown hg hK NXc.same hN.warm (fun _ h => Or.inl h) hP va_S.rf 0 hM (by decide) (ci := 7) rfl rfl k_699 k_700 k_701 k_1 k_702 2 rfl (by decide +kernel) ⟨by show fr + 1 ≤ 9; omega, by show 8 + (3 + 11) + lo ≤ 230; omega, Nat.le_of_ble_eq_true rfl, Nat.le_of_ble_eq_true rfl⟩ rfl hl.1 (Nat.le_of_ble_eq_true rfl) d_L_rename_5 (fun v9 M' H locs hq hP hz hk hS => ?_)
  obtain ⟨rfl, hp⟩ := hq
  have hL : LO cL o g H := (hk o (LO.lt hL) hne).trans hL
  refine W.eq (g2 := F0 m 8 ls [.int v, .int (nI 0), .ref o]) rfl ?_
  refine lv_i2l hx hb d_L_rename_8 rfl ?_
  refine w_last (x := v.toInt64) hx hb hAr hL (A := FW ad o) (Or.inr rfl) hS d_L_rename_9 (fun H1 locs1 hL hf hS => ?_)
  have hP := LO.keep hne hP hf
  refine lv_goto (tgt := 25) hx hb d_L_rename_10 (by decide) ?_
  refine n_const (k := 0) hx hb d_L_rename_25 (by decide) ?_
  exact w_ret hx hb hr hlocks hP hL hS hp rfl (by decide) (by decide) d_L_rename_26
set_option maxHeartbeats 4000000 in
set_option maxRecDepth 100000 in
theorem w_rename_x1 {l : Launch} {D : va_G} {cI cC cZ cT : ClassId} {ad : Nat → Nat} {cL : ClassId} {o : Nat} (hne : ¬ GA 144 ad o) {fr lo : Nat} {P : PM → Prop} {M : PM} (g : Nat → Int64) (x y : Int32) (hfr : fr ≤ 8) (hlo : lo ≤ 200) (hM : MX l D cI cC cZ cT ad y_C_rename b_C_rename 3 (some .int) fr lo [.ref (ad 0), .int x, .int y] M "java/lang/IndexOutOfBoundsException" P) : MW l D cI cC cZ cT ad cL o y_L_rename b_L_rename 5 [(0, 10, 13, 30), (0, 10, 17, 13), (0, 10, 21, 15)] [.ref (ad 0), .int x, .int y, .ref o] M g 1 P (fun _ => True) := by
  refine MW.of (by decide) (Nat.le_of_ble_eq_true rfl) ?_
  intro p e s m below meth c ls hx hb hr hml hown hg hlocks hTab hK hN hX hNC hL hAr hP hl
  have hown : s.vm.findClass R_L = some m.cls := hown
  have hl : lv_has ls 5 [(0, .ref (ad 0)), (1, .int x), (2, .int y), (3, .ref o)] := hl
  refine lv_aload_n hx hb d_L_rename_0 rfl (lv_at hl 3 rfl) ?_
  refine n_const (k := 0) hx hb d_L_rename_1 (by decide) ?_
  refine lv_aload_n hx hb d_L_rename_2 rfl (lv_at hl 0 rfl) ?_
  refine lv_iload_n hx hb d_L_rename_3 rfl (lv_at hl 1 rfl) ?_
  refine lv_iload_n hx hb d_L_rename_4 rfl (lv_at hl 2 rfl) ?_
  refine x_C (own := R_L) (index := 79) (As := [.int x, .int y]) (rest := [.int (nI 0), .ref o]) hx hb hml hown hg hK hN hX hP hM rfl k_699 k_700 k_701 k_1 k_702 2 rfl (by decide +kernel) ⟨by show fr + 1 ≤ 9; omega, by show 8 + (3 + 11) + lo ≤ 230; omega, Nat.le_refl _, Nat.le_refl _⟩ rfl hl.1 (Nat.le_of_ble_eq_true rfl) d_L_rename_5 [] (⟨0, 10, 13, 30⟩ : ExceptionTableEntry) [(⟨0, 10, 17, 13⟩ : ExceptionTableEntry), (⟨0, 10, 21, 15⟩ : ExceptionTableEntry)] hTab (fun z hz => by cases hz) rfl (by decide) k_396 XC_IOE (fun q M' H locs hp hP hk hS => ?_)
  have hL : LO cL o g H := (hk o (LO.lt hL) hne).trans hL
  refine W.eq (g2 := F0 m 13 ls [.ref q]) rfl ?_
  refine lv_astore (lv' := [(4, .ref q), (0, .ref (ad 0)), (1, .int x), (2, .int y), (3, .ref o)]) hx hb d_L_rename_13 hl (by decide) rfl (fun ls hl => ?_)
  refine n_const (k := 1) hx hb d_L_rename_15 (by decide) ?_
  exact w_ret hx hb hr hlocks hP hL (LO.fw hS) hp trivial (by decide) (by decide) d_L_rename_16
set_option maxHeartbeats 4000000 in
set_option maxRecDepth 100000 in
theorem w_rename_x2 {l : Launch} {D : va_G} {cI cC cZ cT : ClassId} {ad : Nat → Nat} {cL : ClassId} {o : Nat} (hne : ¬ GA 144 ad o) {fr lo : Nat} {P : PM → Prop} {M : PM} (g : Nat → Int64) (x y : Int32) (hfr : fr ≤ 8) (hlo : lo ≤ 200) (hM : MX l D cI cC cZ cT ad y_C_rename b_C_rename 3 (some .int) fr lo [.ref (ad 0), .int x, .int y] M "java/lang/IllegalArgumentException" P) : MW l D cI cC cZ cT ad cL o y_L_rename b_L_rename 5 [(0, 10, 13, 30), (0, 10, 17, 13), (0, 10, 21, 15)] [.ref (ad 0), .int x, .int y, .ref o] M g 2 P (fun _ => True) := by
  refine MW.of (by decide) (Nat.le_of_ble_eq_true rfl) ?_
  intro p e s m below meth c ls hx hb hr hml hown hg hlocks hTab hK hN hX hNC hL hAr hP hl
  have hown : s.vm.findClass R_L = some m.cls := hown
  have hl : lv_has ls 5 [(0, .ref (ad 0)), (1, .int x), (2, .int y), (3, .ref o)] := hl
  refine lv_aload_n hx hb d_L_rename_0 rfl (lv_at hl 3 rfl) ?_
  refine n_const (k := 0) hx hb d_L_rename_1 (by decide) ?_
  refine lv_aload_n hx hb d_L_rename_2 rfl (lv_at hl 0 rfl) ?_
  refine lv_iload_n hx hb d_L_rename_3 rfl (lv_at hl 1 rfl) ?_
  refine lv_iload_n hx hb d_L_rename_4 rfl (lv_at hl 2 rfl) ?_
  refine x_C (own := R_L) (index := 79) (As := [.int x, .int y]) (rest := [.int (nI 0), .ref o]) hx hb hml hown hg hK hN hX hP hM rfl k_699 k_700 k_701 k_1 k_702 2 rfl (by decide +kernel) ⟨by show fr + 1 ≤ 9; omega, by show 8 + (3 + 11) + lo ≤ 230; omega, Nat.le_refl _, Nat.le_refl _⟩ rfl hl.1 (Nat.le_of_ble_eq_true rfl) d_L_rename_5 [(⟨0, 10, 13, 30⟩ : ExceptionTableEntry)] (⟨0, 10, 17, 13⟩ : ExceptionTableEntry) [(⟨0, 10, 21, 15⟩ : ExceptionTableEntry)] hTab (fun z hz => by
    simp only [List.mem_cons, List.not_mem_nil, or_false] at hz
    subst hz
    exact Or.inr ⟨by decide, _, hg _ k_396, hNC _ XE_IAE _ XE_IOE (by decide +kernel)⟩) rfl (by decide) k_198 XC_IAE (fun q M' H locs hp hP hk hS => ?_)
  have hL : LO cL o g H := (hk o (LO.lt hL) hne).trans hL
  refine W.eq (g2 := F0 m 17 ls [.ref q]) rfl ?_
  refine lv_astore (lv' := [(4, .ref q), (0, .ref (ad 0)), (1, .int x), (2, .int y), (3, .ref o)]) hx hb d_L_rename_17 hl (by decide) rfl (fun ls hl => ?_)
  refine n_const (k := 2) hx hb d_L_rename_19 (by decide) ?_
  exact w_ret hx hb hr hlocks hP hL (LO.fw hS) hp trivial (by decide) (by decide) d_L_rename_20
set_option maxHeartbeats 4000000 in
set_option maxRecDepth 100000 in
theorem w_rename_x3 {l : Launch} {D : va_G} {cI cC cZ cT : ClassId} {ad : Nat → Nat} {cL : ClassId} {o : Nat} (hne : ¬ GA 144 ad o) {fr lo : Nat} {P : PM → Prop} {M : PM} (g : Nat → Int64) (x y : Int32) (hfr : fr ≤ 8) (hlo : lo ≤ 200) (hM : MX l D cI cC cZ cT ad y_C_rename b_C_rename 3 (some .int) fr lo [.ref (ad 0), .int x, .int y] M "java/lang/UnsupportedOperationException" P) : MW l D cI cC cZ cT ad cL o y_L_rename b_L_rename 5 [(0, 10, 13, 30), (0, 10, 17, 13), (0, 10, 21, 15)] [.ref (ad 0), .int x, .int y, .ref o] M g 3 P (fun _ => True) := by
  refine MW.of (by decide) (Nat.le_of_ble_eq_true rfl) ?_
  intro p e s m below meth c ls hx hb hr hml hown hg hlocks hTab hK hN hX hNC hL hAr hP hl
  have hown : s.vm.findClass R_L = some m.cls := hown
  have hl : lv_has ls 5 [(0, .ref (ad 0)), (1, .int x), (2, .int y), (3, .ref o)] := hl
  refine lv_aload_n hx hb d_L_rename_0 rfl (lv_at hl 3 rfl) ?_
  refine n_const (k := 0) hx hb d_L_rename_1 (by decide) ?_
  refine lv_aload_n hx hb d_L_rename_2 rfl (lv_at hl 0 rfl) ?_
  refine lv_iload_n hx hb d_L_rename_3 rfl (lv_at hl 1 rfl) ?_
  refine lv_iload_n hx hb d_L_rename_4 rfl (lv_at hl 2 rfl) ?_
  refine x_C (own := R_L) (index := 79) (As := [.int x, .int y]) (rest := [.int (nI 0), .ref o]) hx hb hml hown hg hK hN hX hP hM rfl k_699 k_700 k_701 k_1 k_702 2 rfl (by decide +kernel) ⟨by show fr + 1 ≤ 9; omega, by show 8 + (3 + 11) + lo ≤ 230; omega, Nat.le_refl _, Nat.le_refl _⟩ rfl hl.1 (Nat.le_of_ble_eq_true rfl) d_L_rename_5 [(⟨0, 10, 13, 30⟩ : ExceptionTableEntry), (⟨0, 10, 17, 13⟩ : ExceptionTableEntry)] (⟨0, 10, 21, 15⟩ : ExceptionTableEntry) [] hTab (fun z hz => by
    simp only [List.mem_cons, List.not_mem_nil, or_false] at hz
    rcases hz with rfl | rfl
    · exact Or.inr ⟨by decide, _, hg _ k_396, hNC _ XE_UOE _ XE_IOE (by decide +kernel)⟩
    · exact Or.inr ⟨by decide, _, hg _ k_198, hNC _ XE_UOE _ XE_IAE (by decide +kernel)⟩) rfl (by decide) k_199 XC_UOE (fun q M' H locs hp hP hk hS => ?_)
  have hL : LO cL o g H := (hk o (LO.lt hL) hne).trans hL
  refine W.eq (g2 := F0 m 21 ls [.ref q]) rfl ?_
  refine lv_astore (lv' := [(4, .ref q), (0, .ref (ad 0)), (1, .int x), (2, .int y), (3, .ref o)]) hx hb d_L_rename_21 hl (by decide) rfl (fun ls hl => ?_)
  refine n_const (k := 3) hx hb d_L_rename_23 (by decide) ?_
  exact w_ret hx hb hr hlocks hP hL (LO.fw hS) hp trivial (by decide) (by decide) d_L_rename_24

set_option maxHeartbeats 4000000 in
set_option maxRecDepth 100000 in
theorem w_now_r {l : Launch} {D : va_G} {cI cC cZ cT : ClassId} {ad : Nat → Nat} {cL : ClassId} {o : Nat} (hne : ¬ GA 144 ad o) {fr lo : Nat} {v : Int32} {P : PM → Prop} {M : PM} (g : Nat → Int64) (x : Int32) (hfr : fr ≤ 8) (hlo : lo ≤ 200) (hM : MD l D cI cC cZ cT ad y_C_now b_C_now 2 (some .int) fr lo [.ref (ad 0), .int x] M (fun r M' => r = some (.int v) ∧ P M')) : MW l D cI cC cZ cT ad cL o y_L_now b_L_now 4 [(0, 9, 12, 30)] [.ref (ad 0), .int x, .ref o] M g 0 P (fun g' => g' 0 = v.toInt64) := by
  refine MW.of (by decide) (Nat.le_of_ble_eq_true rfl) ?_
  intro p e s m below meth c ls hx hb hr hml hown hg hlocks hTab hK hN hX hNC hL hAr hP hl
  have hown : s.vm.findClass R_L = some m.cls := hown
  have hl : lv_has ls 4 [(0, .ref (ad 0)), (1, .int x), (2, .ref o)] := hl
  refine lv_aload_n hx hb d_L_now_0 rfl (lv_at hl 2 rfl) ?_
  refine n_const (k := 0) hx hb d_L_now_1 (by decide) ?_
  refine lv_aload_n hx hb d_L_now_2 rfl (lv_at hl 0 rfl) ?_
  refine lv_iload_n hx hb d_L_now_3 rfl (lv_at hl 1 rfl) ?_
  refine c_V (own := R_L) (index := 82) (As := [.int x]) (rest := [.int (nI 0), .ref o]) (A := FW ad o) (H0 := s.heap) hx hb hml hown hg hK NXc.same hN.warm (fun _ h => Or.inl h) hP va_S.rf 0 hM (by decide) (ci := 7) rfl rfl k_736 k_737 k_738 k_1 k_739 1 rfl (by decide +kernel) ⟨by show fr + 1 ≤ 9; omega, by show 8 + (2 + 11) + lo ≤ 230; omega, Nat.le_of_ble_eq_true rfl, Nat.le_of_ble_eq_true rfl⟩ rfl hl.1 (Nat.le_of_ble_eq_true rfl) d_L_now_4 (fun v9 M' H locs hq hP hz hk hS => ?_)
  obtain ⟨rfl, hp⟩ := hq
  have hL : LO cL o g H := (hk o (LO.lt hL) hne).trans hL
  refine W.eq (g2 := F0 m 7 ls [.int v, .int (nI 0), .ref o]) rfl ?_
  refine lv_i2l hx hb d_L_now_7 rfl ?_
  refine w_last (x := v.toInt64) hx hb hAr hL (A := FW ad o) (Or.inr rfl) hS d_L_now_8 (fun H1 locs1 hL hf hS => ?_)
  have hP := LO.keep hne hP hf
  refine lv_goto (tgt := 15) hx hb d_L_now_9 (by decide) ?_
  refine n_const (k := 0) hx hb d_L_now_15 (by decide) ?_
  exact w_ret hx hb hr hlocks hP hL hS hp rfl (by decide) (by decide) d_L_now_16
set_option maxHeartbeats 4000000 in
set_option maxRecDepth 100000 in
theorem w_now_x1 {l : Launch} {D : va_G} {cI cC cZ cT : ClassId} {ad : Nat → Nat} {cL : ClassId} {o : Nat} (hne : ¬ GA 144 ad o) {fr lo : Nat} {P : PM → Prop} {M : PM} (g : Nat → Int64) (x : Int32) (hfr : fr ≤ 8) (hlo : lo ≤ 200) (hM : MX l D cI cC cZ cT ad y_C_now b_C_now 2 (some .int) fr lo [.ref (ad 0), .int x] M "java/lang/IndexOutOfBoundsException" P) : MW l D cI cC cZ cT ad cL o y_L_now b_L_now 4 [(0, 9, 12, 30)] [.ref (ad 0), .int x, .ref o] M g 1 P (fun _ => True) := by
  refine MW.of (by decide) (Nat.le_of_ble_eq_true rfl) ?_
  intro p e s m below meth c ls hx hb hr hml hown hg hlocks hTab hK hN hX hNC hL hAr hP hl
  have hown : s.vm.findClass R_L = some m.cls := hown
  have hl : lv_has ls 4 [(0, .ref (ad 0)), (1, .int x), (2, .ref o)] := hl
  refine lv_aload_n hx hb d_L_now_0 rfl (lv_at hl 2 rfl) ?_
  refine n_const (k := 0) hx hb d_L_now_1 (by decide) ?_
  refine lv_aload_n hx hb d_L_now_2 rfl (lv_at hl 0 rfl) ?_
  refine lv_iload_n hx hb d_L_now_3 rfl (lv_at hl 1 rfl) ?_
  refine x_C (own := R_L) (index := 82) (As := [.int x]) (rest := [.int (nI 0), .ref o]) hx hb hml hown hg hK hN hX hP hM rfl k_736 k_737 k_738 k_1 k_739 1 rfl (by decide +kernel) ⟨by show fr + 1 ≤ 9; omega, by show 8 + (2 + 11) + lo ≤ 230; omega, Nat.le_refl _, Nat.le_refl _⟩ rfl hl.1 (Nat.le_of_ble_eq_true rfl) d_L_now_4 [] (⟨0, 9, 12, 30⟩ : ExceptionTableEntry) [] hTab (fun z hz => by cases hz) rfl (by decide) k_396 XC_IOE (fun q M' H locs hp hP hk hS => ?_)
  have hL : LO cL o g H := (hk o (LO.lt hL) hne).trans hL
  refine W.eq (g2 := F0 m 12 ls [.ref q]) rfl ?_
  refine lv_astore_n (lv' := [(3, .ref q), (0, .ref (ad 0)), (1, .int x), (2, .ref o)]) hx hb d_L_now_12 rfl hl (by decide) rfl (fun ls hl => ?_)
  refine n_const (k := 1) hx hb d_L_now_13 (by decide) ?_
  exact w_ret hx hb hr hlocks hP hL (LO.fw hS) hp trivial (by decide) (by decide) d_L_now_14

set_option maxHeartbeats 4000000 in
set_option maxRecDepth 100000 in
theorem w_was_r {l : Launch} {D : va_G} {cI cC cZ cT : ClassId} {ad : Nat → Nat} {cL : ClassId} {o : Nat} (hne : ¬ GA 144 ad o) {fr lo : Nat} {v : Int32} {P : PM → Prop} {M : PM} (g : Nat → Int64) (x : Int32) (hfr : fr ≤ 8) (hlo : lo ≤ 200) (hM : MD l D cI cC cZ cT ad y_C_was b_C_was 2 (some .int) fr lo [.ref (ad 0), .int x] M (fun r M' => r = some (.int v) ∧ P M')) : MW l D cI cC cZ cT ad cL o y_L_was b_L_was 4 [(0, 9, 12, 30)] [.ref (ad 0), .int x, .ref o] M g 0 P (fun g' => g' 0 = v.toInt64) := by
  refine MW.of (by decide) (Nat.le_of_ble_eq_true rfl) ?_
  intro p e s m below meth c ls hx hb hr hml hown hg hlocks hTab hK hN hX hNC hL hAr hP hl
  have hown : s.vm.findClass R_L = some m.cls := hown
  have hl : lv_has ls 4 [(0, .ref (ad 0)), (1, .int x), (2, .ref o)] := hl
  refine lv_aload_n hx hb d_L_was_0 rfl (lv_at hl 2 rfl) ?_
  refine n_const (k := 0) hx hb d_L_was_1 (by decide) ?_
  refine lv_aload_n hx hb d_L_was_2 rfl (lv_at hl 0 rfl) ?_
  refine lv_iload_n hx hb d_L_was_3 rfl (lv_at hl 1 rfl) ?_
  refine c_V (own := R_L) (index := 85) (As := [.int x]) (rest := [.int (nI 0), .ref o]) (A := FW ad o) (H0 := s.heap) hx hb hml hown hg hK NXc.same hN.warm (fun _ h => Or.inl h) hP va_S.rf 0 hM (by decide) (ci := 7) rfl rfl k_747 k_748 k_749 k_1 k_750 1 rfl (by decide +kernel) ⟨by show fr + 1 ≤ 9; omega, by show 8 + (2 + 11) + lo ≤ 230; omega, Nat.le_of_ble_eq_true rfl, Nat.le_of_ble_eq_true rfl⟩ rfl hl.1 (Nat.le_of_ble_eq_true rfl) d_L_was_4 (fun v9 M' H locs hq hP hz hk hS => ?_)
  obtain ⟨rfl, hp⟩ := hq
  have hL : LO cL o g H := (hk o (LO.lt hL) hne).trans hL
  refine W.eq (g2 := F0 m 7 ls [.int v, .int (nI 0), .ref o]) rfl ?_
  refine lv_i2l hx hb d_L_was_7 rfl ?_
  refine w_last (x := v.toInt64) hx hb hAr hL (A := FW ad o) (Or.inr rfl) hS d_L_was_8 (fun H1 locs1 hL hf hS => ?_)
  have hP := LO.keep hne hP hf
  refine lv_goto (tgt := 15) hx hb d_L_was_9 (by decide) ?_
  refine n_const (k := 0) hx hb d_L_was_15 (by decide) ?_
  exact w_ret hx hb hr hlocks hP hL hS hp rfl (by decide) (by decide) d_L_was_16
set_option maxHeartbeats 4000000 in
set_option maxRecDepth 100000 in
theorem w_was_x1 {l : Launch} {D : va_G} {cI cC cZ cT : ClassId} {ad : Nat → Nat} {cL : ClassId} {o : Nat} (hne : ¬ GA 144 ad o) {fr lo : Nat} {P : PM → Prop} {M : PM} (g : Nat → Int64) (x : Int32) (hfr : fr ≤ 8) (hlo : lo ≤ 200) (hM : MX l D cI cC cZ cT ad y_C_was b_C_was 2 (some .int) fr lo [.ref (ad 0), .int x] M "java/lang/IndexOutOfBoundsException" P) : MW l D cI cC cZ cT ad cL o y_L_was b_L_was 4 [(0, 9, 12, 30)] [.ref (ad 0), .int x, .ref o] M g 1 P (fun _ => True) := by
  refine MW.of (by decide) (Nat.le_of_ble_eq_true rfl) ?_
  intro p e s m below meth c ls hx hb hr hml hown hg hlocks hTab hK hN hX hNC hL hAr hP hl
  have hown : s.vm.findClass R_L = some m.cls := hown
  have hl : lv_has ls 4 [(0, .ref (ad 0)), (1, .int x), (2, .ref o)] := hl
  refine lv_aload_n hx hb d_L_was_0 rfl (lv_at hl 2 rfl) ?_
  refine n_const (k := 0) hx hb d_L_was_1 (by decide) ?_
  refine lv_aload_n hx hb d_L_was_2 rfl (lv_at hl 0 rfl) ?_
  refine lv_iload_n hx hb d_L_was_3 rfl (lv_at hl 1 rfl) ?_
  refine x_C (own := R_L) (index := 85) (As := [.int x]) (rest := [.int (nI 0), .ref o]) hx hb hml hown hg hK hN hX hP hM rfl k_747 k_748 k_749 k_1 k_750 1 rfl (by decide +kernel) ⟨by show fr + 1 ≤ 9; omega, by show 8 + (2 + 11) + lo ≤ 230; omega, Nat.le_refl _, Nat.le_refl _⟩ rfl hl.1 (Nat.le_of_ble_eq_true rfl) d_L_was_4 [] (⟨0, 9, 12, 30⟩ : ExceptionTableEntry) [] hTab (fun z hz => by cases hz) rfl (by decide) k_396 XC_IOE (fun q M' H locs hp hP hk hS => ?_)
  have hL : LO cL o g H := (hk o (LO.lt hL) hne).trans hL
  refine W.eq (g2 := F0 m 12 ls [.ref q]) rfl ?_
  refine lv_astore_n (lv' := [(3, .ref q), (0, .ref (ad 0)), (1, .int x), (2, .ref o)]) hx hb d_L_was_12 rfl hl (by decide) rfl (fun ls hl => ?_)
  refine n_const (k := 1) hx hb d_L_was_13 (by decide) ?_
  exact w_ret hx hb hr hlocks hP hL (LO.fw hS) hp trivial (by decide) (by decide) d_L_was_14

set_option maxHeartbeats 4000000 in
set_option maxRecDepth 100000 in
theorem w_clash_r {l : Launch} {D : va_G} {cI cC cZ cT : ClassId} {ad : Nat → Nat} {cL : ClassId} {o : Nat} (hne : ¬ GA 144 ad o) {fr lo : Nat} {v : Int32} {P : PM → Prop} {M : PM} (g : Nat → Int64) (x : Int32) (hfr : fr ≤ 8) (hlo : lo ≤ 200) (hM : MD l D cI cC cZ cT ad y_C_clash b_C_clash 2 (some .int) fr lo [.ref (ad 0), .int x] M (fun r M' => r = some (.int v) ∧ P M')) : MW l D cI cC cZ cT ad cL o y_L_clash b_L_clash 4 [(0, 9, 12, 13)] [.ref (ad 0), .int x, .ref o] M g 0 P (fun g' => g' 0 = v.toInt64) := by
  refine MW.of (by decide) (Nat.le_of_ble_eq_true rfl) ?_
  intro p e s m below meth c ls hx hb hr hml hown hg hlocks hTab hK hN hX hNC hL hAr hP hl
  have hown : s.vm.findClass R_L = some m.cls := hown
  have hl : lv_has ls 4 [(0, .ref (ad 0)), (1, .int x), (2, .ref o)] := hl
  refine lv_aload_n hx hb d_L_clash_0 rfl (lv_at hl 2 rfl) ?_
  refine n_const (k := 0) hx hb d_L_clash_1 (by decide) ?_
  refine lv_aload_n hx hb d_L_clash_2 rfl (lv_at hl 0 rfl) ?_
  refine lv_iload_n hx hb d_L_clash_3 rfl (lv_at hl 1 rfl) ?_
  refine c_V (own := R_L) (index := 88) (As := [.int x]) (rest := [.int (nI 0), .ref o]) (A := FW ad o) (H0 := s.heap) hx hb hml hown hg hK NXc.same hN.warm (fun _ h => Or.inl h) hP va_S.rf 0 hM (by decide) (ci := 7) rfl rfl k_758 k_759 k_760 k_1 k_761 1 rfl (by decide +kernel) ⟨by show fr + 1 ≤ 9; omega, by show 8 + (2 + 11) + lo ≤ 230; omega, Nat.le_of_ble_eq_true rfl, Nat.le_of_ble_eq_true rfl⟩ rfl hl.1 (Nat.le_of_ble_eq_true rfl) d_L_clash_4 (fun v9 M' H locs hq hP hz hk hS => ?_)
  obtain ⟨rfl, hp⟩ := hq
  have hL : LO cL o g H := (hk o (LO.lt hL) hne).trans hL
  refine W.eq (g2 := F0 m 7 ls [.int v, .int (nI 0), .ref o]) rfl ?_
  refine lv_i2l hx hb d_L_clash_7 rfl ?_
  refine w_last (x := v.toInt64) hx hb hAr hL (A := FW ad o) (Or.inr rfl) hS d_L_clash_8 (fun H1 locs1 hL hf hS => ?_)
  have hP := LO.keep hne hP hf
  refine lv_goto (tgt := 15) hx hb d_L_clash_9 (by decide) ?_
  refine n_const (k := 0) hx hb d_L_clash_15 (by decide) ?_
  exact w_ret hx hb hr hlocks hP hL hS hp rfl (by decide) (by decide) d_L_clash_16
set_option maxHeartbeats 4000000 in
set_option maxRecDepth 100000 in
theorem w_clash_x1 {l : Launch} {D : va_G} {cI cC cZ cT : ClassId} {ad : Nat → Nat} {cL : ClassId} {o : Nat} (hne : ¬ GA 144 ad o) {fr lo : Nat} {P : PM → Prop} {M : PM} (g : Nat → Int64) (x : Int32) (hfr : fr ≤ 8) (hlo : lo ≤ 200) (hM : MX l D cI cC cZ cT ad y_C_clash b_C_clash 2 (some .int) fr lo [.ref (ad 0), .int x] M "java/lang/IllegalArgumentException" P) : MW l D cI cC cZ cT ad cL o y_L_clash b_L_clash 4 [(0, 9, 12, 13)] [.ref (ad 0), .int x, .ref o] M g 1 P (fun _ => True) := by
  refine MW.of (by decide) (Nat.le_of_ble_eq_true rfl) ?_
  intro p e s m below meth c ls hx hb hr hml hown hg hlocks hTab hK hN hX hNC hL hAr hP hl
  have hown : s.vm.findClass R_L = some m.cls := hown
  have hl : lv_has ls 4 [(0, .ref (ad 0)), (1, .int x), (2, .ref o)] := hl
  refine lv_aload_n hx hb d_L_clash_0 rfl (lv_at hl 2 rfl) ?_
  refine n_const (k := 0) hx hb d_L_clash_1 (by decide) ?_
  refine lv_aload_n hx hb d_L_clash_2 rfl (lv_at hl 0 rfl) ?_
  refine lv_iload_n hx hb d_L_clash_3 rfl (lv_at hl 1 rfl) ?_
  refine x_C (own := R_L) (index := 88) (As := [.int x]) (rest := [.int (nI 0), .ref o]) hx hb hml hown hg hK hN hX hP hM rfl k_758 k_759 k_760 k_1 k_761 1 rfl (by decide +kernel) ⟨by show fr + 1 ≤ 9; omega, by show 8 + (2 + 11) + lo ≤ 230; omega, Nat.le_refl _, Nat.le_refl _⟩ rfl hl.1 (Nat.le_of_ble_eq_true rfl) d_L_clash_4 [] (⟨0, 9, 12, 13⟩ : ExceptionTableEntry) [] hTab (fun z hz => by cases hz) rfl (by decide) k_198 XC_IAE (fun q M' H locs hp hP hk hS => ?_)
  have hL : LO cL o g H := (hk o (LO.lt hL) hne).trans hL
  refine W.eq (g2 := F0 m 12 ls [.ref q]) rfl ?_
  refine lv_astore_n (lv' := [(3, .ref q), (0, .ref (ad 0)), (1, .int x), (2, .ref o)]) hx hb d_L_clash_12 rfl hl (by decide) rfl (fun ls hl => ?_)
  refine n_const (k := 1) hx hb d_L_clash_13 (by decide) ?_
  exact w_ret hx hb hr hlocks hP hL (LO.fw hS) hp trivial (by decide) (by decide) d_L_clash_14

set_option maxHeartbeats 4000000 in
set_option maxRecDepth 100000 in
theorem w_count_r {l : Launch} {D : va_G} {cI cC cZ cT : ClassId} {ad : Nat → Nat} {cL : ClassId} {o : Nat} (hne : ¬ GA 144 ad o) {fr lo : Nat} {v : Int32} {P : PM → Prop} {M : PM} (g : Nat → Int64) (x : Int32) (hfr : fr ≤ 8) (hlo : lo ≤ 200) (hM : MD l D cI cC cZ cT ad y_C_count b_C_count 2 (some .int) fr lo [.ref (ad 0), .int x] M (fun r M' => r = some (.int v) ∧ P M')) : MW l D cI cC cZ cT ad cL o y_L_count b_L_count 4 [(0, 9, 12, 13)] [.ref (ad 0), .int x, .ref o] M g 0 P (fun g' => g' 0 = v.toInt64) := by
  refine MW.of (by decide) (Nat.le_of_ble_eq_true rfl) ?_
  intro p e s m below meth c ls hx hb hr hml hown hg hlocks hTab hK hN hX hNC hL hAr hP hl
  have hown : s.vm.findClass R_L = some m.cls := hown
  have hl : lv_has ls 4 [(0, .ref (ad 0)), (1, .int x), (2, .ref o)] := hl
  refine lv_aload_n hx hb d_L_count_0 rfl (lv_at hl 2 rfl) ?_
  refine n_const (k := 0) hx hb d_L_count_1 (by decide) ?_
  refine lv_aload_n hx hb d_L_count_2 rfl (lv_at hl 0 rfl) ?_
  refine lv_iload_n hx hb d_L_count_3 rfl (lv_at hl 1 rfl) ?_
  refine c_V (own := R_L) (index := 91) (As := [.int x]) (rest := [.int (nI 0), .ref o]) (A := FW ad o) (H0 := s.heap) hx hb hml hown hg hK NXc.same hN.warm (fun _ h => Or.inl h) hP va_S.rf 0 hM (by decide) (ci := 7) rfl rfl k_766 k_767 k_768 k_1 k_769 1 rfl (by decide +kernel) ⟨by show fr + 1 ≤ 9; omega, by show 8 + (2 + 11) + lo ≤ 230; omega, Nat.le_of_ble_eq_true rfl, Nat.le_of_ble_eq_true rfl⟩ rfl hl.1 (Nat.le_of_ble_eq_true rfl) d_L_count_4 (fun v9 M' H locs hq hP hz hk hS => ?_)
  obtain ⟨rfl, hp⟩ := hq
  have hL : LO cL o g H := (hk o (LO.lt hL) hne).trans hL
  refine W.eq (g2 := F0 m 7 ls [.int v, .int (nI 0), .ref o]) rfl ?_
  refine lv_i2l hx hb d_L_count_7 rfl ?_
  refine w_last (x := v.toInt64) hx hb hAr hL (A := FW ad o) (Or.inr rfl) hS d_L_count_8 (fun H1 locs1 hL hf hS => ?_)
  have hP := LO.keep hne hP hf
  refine lv_goto (tgt := 15) hx hb d_L_count_9 (by decide) ?_
  refine n_const (k := 0) hx hb d_L_count_15 (by decide) ?_
  exact w_ret hx hb hr hlocks hP hL hS hp rfl (by decide) (by decide) d_L_count_16
set_option maxHeartbeats 4000000 in
set_option maxRecDepth 100000 in
theorem w_count_x1 {l : Launch} {D : va_G} {cI cC cZ cT : ClassId} {ad : Nat → Nat} {cL : ClassId} {o : Nat} (hne : ¬ GA 144 ad o) {fr lo : Nat} {P : PM → Prop} {M : PM} (g : Nat → Int64) (x : Int32) (hfr : fr ≤ 8) (hlo : lo ≤ 200) (hM : MX l D cI cC cZ cT ad y_C_count b_C_count 2 (some .int) fr lo [.ref (ad 0), .int x] M "java/lang/IllegalArgumentException" P) : MW l D cI cC cZ cT ad cL o y_L_count b_L_count 4 [(0, 9, 12, 13)] [.ref (ad 0), .int x, .ref o] M g 1 P (fun _ => True) := by
  refine MW.of (by decide) (Nat.le_of_ble_eq_true rfl) ?_
  intro p e s m below meth c ls hx hb hr hml hown hg hlocks hTab hK hN hX hNC hL hAr hP hl
  have hown : s.vm.findClass R_L = some m.cls := hown
  have hl : lv_has ls 4 [(0, .ref (ad 0)), (1, .int x), (2, .ref o)] := hl
  refine lv_aload_n hx hb d_L_count_0 rfl (lv_at hl 2 rfl) ?_
  refine n_const (k := 0) hx hb d_L_count_1 (by decide) ?_
  refine lv_aload_n hx hb d_L_count_2 rfl (lv_at hl 0 rfl) ?_
  refine lv_iload_n hx hb d_L_count_3 rfl (lv_at hl 1 rfl) ?_
  refine x_C (own := R_L) (index := 91) (As := [.int x]) (rest := [.int (nI 0), .ref o]) hx hb hml hown hg hK hN hX hP hM rfl k_766 k_767 k_768 k_1 k_769 1 rfl (by decide +kernel) ⟨by show fr + 1 ≤ 9; omega, by show 8 + (2 + 11) + lo ≤ 230; omega, Nat.le_refl _, Nat.le_refl _⟩ rfl hl.1 (Nat.le_of_ble_eq_true rfl) d_L_count_4 [] (⟨0, 9, 12, 13⟩ : ExceptionTableEntry) [] hTab (fun z hz => by cases hz) rfl (by decide) k_198 XC_IAE (fun q M' H locs hp hP hk hS => ?_)
  have hL : LO cL o g H := (hk o (LO.lt hL) hne).trans hL
  refine W.eq (g2 := F0 m 12 ls [.ref q]) rfl ?_
  refine lv_astore_n (lv' := [(3, .ref q), (0, .ref (ad 0)), (1, .int x), (2, .ref o)]) hx hb d_L_count_12 rfl hl (by decide) rfl (fun ls hl => ?_)
  refine n_const (k := 1) hx hb d_L_count_13 (by decide) ?_
  exact w_ret hx hb hr hlocks hP hL (LO.fw hS) hp trivial (by decide) (by decide) d_L_count_14
