set_option maxHeartbeats 8000000 in
set_option maxRecDepth 100000 in
theorem law_loop {p : Program} {l : Launch} {e : Env} {s : State} {m : MethodId} {below : List Frame} {meth : Method} {c : Code} {D : va_G} {cI cC cZ cT cB cL : ClassId} {b L : Nat} {xs : Nat → Int32} (hC : LW l p room_1 s m meth c D cI cC cZ cT cB cL b L xs) (hr : meth.sig.returnType = ret) (hlocks : meth.locks = false) (hL9 : L ≤ 2048) : ∀ (fu T : Nat) (Mc Mm : PM) (g : Nat → Int64) (H : Heap) (locs : List Loc) (ls : Array Slot) (cells slots : Nat), L < 4 * T + 4 * fu → 4 * T ≤ L → cells = 158 + T → slots = 8000 + 6 * T → Inv Mc Mm T → LSt s D cI cC cZ cT cB cL Mc Mm g H locs → lv_has ls 7 (lvL b s T) → W p l e room_1 s m #[Value.ref b] below meth c H locs cells slots (lw_Z below #[Value.ref b] s) (F0 m 23 ls []) := by
  intro fu
  induction fu with
  | zero => intro T Mc Mm g H locs ls cells slots hfu hT4; omega
  | succ fu ih =>
    intro T Mc Mm g H locs ls cells slots hfu hT4 hce hsl hI h hl
    have hbA : ¬ FB s.heap.size b := Nat.not_le.mpr hC.hbl
    refine lv_iload hC.hx hC.hb d_L_law_23 (lv_at hl 4 rfl) ?_
    refine lv_aload_n (pc := 25) hC.hx hC.hb d_L_law_25 rfl (lv_at hl 0 rfl) ?_
    refine va_slen hC.hx hC.hb hC.hX hC.hbl hbA h.hS d_L_law_26 ?_
    refine n_const (k := 4) hC.hx hC.hb d_L_law_27 (by decide) ?_
    refine lv_isub hC.hx hC.hb d_L_law_28 ?_
    have hts := pk_sub_toInt (a := L) (b := 4) (by omega) (by decide)
    refine lv_icmp_gt (pc := 29) (tgt := 1666) hC.hx hC.hb d_L_law_29 (by decide) (fun _ => ?_) (fun hn => ?_)
    · refine lv_iconst (v := 1) hC.hx hC.hb d_L_law_1666 (by decide) ?_
      refine va_forget (fun q hq => h.hS.2.2 q hq) ?_
      refine W.widen (k := 601024) (n := 7293034) (by omega) (by omega) ?_
      exact lw_ret hC.hx hC.hb hr hlocks d_L_law_1667
    · have hi : 4 * T + 4 ≤ L := by
        have hn : ¬ (nI L - nI 4 < nI (4 * T)) := hn
        rw [Int32.lt_iff_toInt_lt, hts, nI_toInt (by omega)] at hn
        omega
      refine lv_aload_n (pc := 32) hC.hx hC.hb d_L_law_32 rfl (lv_at hl 0 rfl) ?_
      refine lv_iload hC.hx hC.hb d_L_law_33 (lv_at hl 4 rfl) ?_
      obtain ⟨g1, g2⟩ := g_in (j := 4 * T) (N := L) (by omega) (by omega)
      refine va_sld (pc := 35) hC.hx hC.hb hC.hX hC.hbl hbA h.hS (i := nI (4 * T)) g1 d_L_law_35 ?_
      refine n_bipush (k := 31) hC.hx hC.hb d_L_law_36 (by decide) ?_
      refine lv_iand (pc := 38) hC.hx hC.hb d_L_law_38 ?_
      obtain ⟨k, hk, e31⟩ := and31 (xs (nI (4 * T)).toNatClampNeg)
      rw [e31]
      have kk : KL p l e room_1 s m below meth c cells slots (lw_Z below #[Value.ref b] s) D cI cC cZ cT cB cL b T := fun Mc' Mm' g' H1 locs1 ls1 hI' h' hl' => by
        refine lv_iinc (v := nI (4 * (T + 1))) (lv' := [(4, .int (nI (4 * (T + 1)))), (0, .ref b), (1, .ref (s.heap.size + 0)), (2, .ref (s.heap.size + 144 + 0)), (3, .ref (s.heap.size + 157))]) hC.hx hC.hb d_L_law_1660 hl' (k := 4) rfl ((congrArg (nI (4 * T) + ·) (show Int32.ofInt 4 = nI 4 by decide)).trans (nI_add (4 * T) 4)) (by decide) rfl (fun ls hl => ?_)
        refine lv_goto (tgt := 23) hC.hx hC.hb d_L_law_1663 (by decide) ?_
        exact ih (T + 1) Mc' Mm' g' H1 locs1 ls (cells + 1) (slots + 6) (by omega) (by omega) (by omega) (by omega) hI' h' (lv_sub hl [1, 2, 3, 4, 0] rfl)
      have hcl : cells + 1 ≤ room_1.cells := (show cells + 1 ≤ 601024 by omega)
      have hsl9 : slots + 6 ≤ room_1.slots := (show slots + 6 ≤ 7293034 by omega)
      rcases (show k = 0 ∨ k = 1 ∨ k = 2 ∨ k = 3 ∨ k = 4 ∨ k = 5 ∨ k = 6 ∨ k = 7 ∨ k = 8 ∨ k = 9 ∨ k = 10 ∨ k = 11 ∨ k = 12 ∨ k = 13 ∨ k = 14 ∨ k = 15 ∨ k = 16 ∨ k = 17 ∨ k = 18 ∨ k = 19 ∨ k = 20 ∨ k = 21 ∨ k = 22 ∨ k = 23 ∨ k = 24 ∨ k = 25 ∨ 26 ≤ k by omega) with rfl | rfl | rfl | rfl | rfl | rfl | rfl | rfl | rfl | rfl | rfl | rfl | rfl | rfl | rfl | rfl | rfl | rfl | rfl | rfl | rfl | rfl | rfl | rfl | rfl | rfl | h26
      · refine lv_tableIn (pc := 39) (off := 117) (tgt := 156) hC.hx hC.hb d_L_law_39 (by decide +kernel) (by decide +kernel) (by decide +kernel) (by decide) ?_
        exact lc_type hC hL9 hi hI h hl hcl hsl9 kk
      · refine lv_tableIn (pc := 39) (off := 173) (tgt := 212) hC.hx hC.hb d_L_law_39 (by decide +kernel) (by decide +kernel) (by decide +kernel) (by decide) ?_
        exact lc_clear hC hL9 hi hI h hl hcl hsl9 kk
      · refine lv_tableIn (pc := 39) (off := 186) (tgt := 225) hC.hx hC.hb d_L_law_39 (by decide +kernel) (by decide +kernel) (by decide +kernel) (by decide) ?_
        exact lc_name hC hL9 hi hI h hl hcl hsl9 kk
      · refine lv_tableIn (pc := 39) (off := 230) (tgt := 269) hC.hx hC.hb d_L_law_39 (by decide +kernel) (by decide +kernel) (by decide +kernel) (by decide) ?_
        exact lc_expand hC hL9 hi hI h hl hcl hsl9 kk
      · refine lv_tableIn (pc := 39) (off := 274) (tgt := 313) hC.hx hC.hb d_L_law_39 (by decide +kernel) (by decide +kernel) (by decide +kernel) (by decide) ?_
        exact lc_prefix hC hL9 hi hI h hl hcl hsl9 kk
      · refine lv_tableIn (pc := 39) (off := 349) (tgt := 388) hC.hx hC.hb d_L_law_39 (by decide +kernel) (by decide +kernel) (by decide +kernel) (by decide) ?_
        exact lc_space hC hL9 hi hI h hl hcl hsl9 kk
      · refine lv_tableIn (pc := 39) (off := 405) (tgt := 444) hC.hx hC.hb d_L_law_39 (by decide +kernel) (by decide +kernel) (by decide +kernel) (by decide) ?_
        exact lc_best hC hL9 hi hI h hl hcl hsl9 kk
      · refine lv_tableIn (pc := 39) (off := 461) (tgt := 500) hC.hx hC.hb d_L_law_39 (by decide +kernel) (by decide +kernel) (by decide +kernel) (by decide) ?_
        exact lc_propose hC hL9 hi hI h hl hcl hsl9 kk
      · refine lv_tableIn (pc := 39) (off := 517) (tgt := 556) hC.hx hC.hb d_L_law_39 (by decide +kernel) (by decide +kernel) (by decide +kernel) (by decide) ?_
        exact lc_print hC hL9 hi hI h hl hcl hsl9 kk
      · refine lv_tableIn (pc := 39) (off := 573) (tgt := 612) hC.hx hC.hb d_L_law_39 (by decide +kernel) (by decide +kernel) (by decide +kernel) (by decide) ?_
        exact lc_letter hC hL9 hi hI h hl hcl hsl9 kk
      · refine lv_tableIn (pc := 39) (off := 598) (tgt := 637) hC.hx hC.hb d_L_law_39 (by decide +kernel) (by decide +kernel) (by decide +kernel) (by decide) ?_
        exact lc_row hC hL9 hi hI h hl hcl hsl9 kk
      · refine lv_tableIn (pc := 39) (off := 678) (tgt := 717) hC.hx hC.hb d_L_law_39 (by decide +kernel) (by decide +kernel) (by decide +kernel) (by decide) ?_
        exact lc_told hC hL9 hi hI h hl hcl hsl9 kk
      · refine lv_tableIn (pc := 39) (off := 746) (tgt := 785) hC.hx hC.hb d_L_law_39 (by decide +kernel) (by decide +kernel) (by decide +kernel) (by decide) ?_
        exact lc_document hC hL9 hi hI h hl hcl hsl9 kk
      · refine lv_tableIn (pc := 39) (off := 814) (tgt := 853) hC.hx hC.hb d_L_law_39 (by decide +kernel) (by decide +kernel) (by decide +kernel) (by decide) ?_
        exact lc_use hC hL9 hi hI h hl hcl hsl9 kk
      · refine lv_tableIn (pc := 39) (off := 870) (tgt := 909) hC.hx hC.hb d_L_law_39 (by decide +kernel) (by decide +kernel) (by decide +kernel) (by decide) ?_
        exact lc_used hC hL9 hi hI h hl hcl hsl9 kk
      · refine lv_tableIn (pc := 39) (off := 926) (tgt := 965) hC.hx hC.hb d_L_law_39 (by decide +kernel) (by decide +kernel) (by decide +kernel) (by decide) ?_
        exact lc_unknown hC hL9 hi hI h hl hcl hsl9 kk
      · refine lv_tableIn (pc := 39) (off := 982) (tgt := 1021) hC.hx hC.hb d_L_law_39 (by decide +kernel) (by decide +kernel) (by decide +kernel) (by decide) ?_
        exact lc_apart hC hL9 hi hI h hl hcl hsl9 kk
      · refine lv_tableIn (pc := 39) (off := 1050) (tgt := 1089) hC.hx hC.hb d_L_law_39 (by decide +kernel) (by decide +kernel) (by decide +kernel) (by decide) ?_
        exact lc_near hC hL9 hi hI h hl hcl hsl9 kk
      · refine lv_tableIn (pc := 39) (off := 1118) (tgt := 1157) hC.hx hC.hb d_L_law_39 (by decide +kernel) (by decide +kernel) (by decide +kernel) (by decide) ?_
        exact lc_alias hC hL9 hi hI h hl hcl hsl9 kk
      · refine lv_tableIn (pc := 39) (off := 1193) (tgt := 1232) hC.hx hC.hb d_L_law_39 (by decide +kernel) (by decide +kernel) (by decide +kernel) (by decide) ?_
        exact lc_meaning hC hL9 hi hI h hl hcl hsl9 kk
      · refine lv_tableIn (pc := 39) (off := 1249) (tgt := 1288) hC.hx hC.hb d_L_law_39 (by decide +kernel) (by decide +kernel) (by decide +kernel) (by decide) ?_
        exact lc_join hC hL9 hi hI h hl hcl hsl9 kk
      · refine lv_tableIn (pc := 39) (off := 1329) (tgt := 1368) hC.hx hC.hb d_L_law_39 (by decide +kernel) (by decide +kernel) (by decide +kernel) (by decide) ?_
        exact lc_rename hC hL9 hi hI h hl hcl hsl9 kk
      · refine lv_tableIn (pc := 39) (off := 1397) (tgt := 1436) hC.hx hC.hb d_L_law_39 (by decide +kernel) (by decide +kernel) (by decide +kernel) (by decide) ?_
        exact lc_now hC hL9 hi hI h hl hcl hsl9 kk
      · refine lv_tableIn (pc := 39) (off := 1453) (tgt := 1492) hC.hx hC.hb d_L_law_39 (by decide +kernel) (by decide +kernel) (by decide +kernel) (by decide) ?_
        exact lc_was hC hL9 hi hI h hl hcl hsl9 kk
      · refine lv_tableIn (pc := 39) (off := 1509) (tgt := 1548) hC.hx hC.hb d_L_law_39 (by decide +kernel) (by decide +kernel) (by decide +kernel) (by decide) ?_
        exact lc_clash hC hL9 hi hI h hl hcl hsl9 kk
      · refine lv_tableIn (pc := 39) (off := 1565) (tgt := 1604) hC.hx hC.hb d_L_law_39 (by decide +kernel) (by decide +kernel) (by decide +kernel) (by decide) ?_
        exact lc_count hC hL9 hi hI h hl hcl hsl9 kk
      · refine lv_tableOut (pc := 39) (tgt := 1660) hC.hx hC.hb d_L_law_39 (Or.inr (by rw [nI_toInt (by omega)]; omega)) (by decide) ?_
        exact W.widen (Nat.le_succ _) (Nat.le_add_right _ _) (kk Mc Mm g H locs ls (hI.same (by omega) (FCx.rf _) (SX.rf _)) h hl)
