set_option maxHeartbeats 4000000 in
set_option maxRecDepth 100000 in
theorem lc_use {p : Program} {l : Launch} {e : Env} {R : Room} {s : State} {m : MethodId} {below : List Frame} {meth : Method} {c : Code} {H : Heap} {locs : List Loc} {cells slots : Nat} {Q : State → Prop} {ls : Array Slot} {D : va_G} {cI cC cZ cT cB cL : ClassId} {b L : Nat} {xs : Nat → Int32} {Mc Mm : PM} {g : Nat → Int64} (hC : LW l p R s m meth c D cI cC cZ cT cB cL b L xs) (hL9 : L ≤ 2048) {T : Nat} (hi : 4 * T + 4 ≤ L) (hI : Inv Mc Mm T) (h : LSt s D cI cC cZ cT cB cL Mc Mm g H locs) (hl : lv_has ls 7 (lvL b s T)) (hcl : cells + 1 ≤ R.cells) (hsl : slots + 6 ≤ R.slots) (kk : KL p l e R s m below meth c cells slots Q D cI cC cZ cT cB cL b T) : W p l e R s m #[Value.ref b] below meth c H locs cells slots Q (F0 m 853 ls []) := by
  obtain ⟨k, v, P, P', gp, fr', lo', hk, h3, h4, hMW, hMM, hgp, hf⟩ : ∃ (k : Nat) (v : Int32) (P P' : PM → Prop) (gp : (Nat → Int64) → Prop) (fr' lo' : Nat), k < 4 ∧ fr' ≤ 8 ∧ lo' ≤ 200 ∧ MW l D cI cC cZ cT (aCs s) cL (oS s) y_L_use b_L_use 4 [(0, 9, 12, 30)] [.ref (aCs s 0), .int (xs (4 * T + 1)), .ref (oS s)] Mc g k P gp ∧ MM l D cI cB (aMs s) y_M_use b_M_use 2 (some .int) fr' lo' [.ref (aMs s 0), .int (xs (4 * T + 1))] Mm (fun r M' => r = some (.int v) ∧ P' M') ∧ (k = 0 → ∀ g' : Nat → Int64, gp g' → g' 0 = v.toInt64) ∧ ∀ M1 M2, P M1 → P' M2 → Inv M1 M2 (T + 1) ∧ M2 0 0 = nI k := by
    rcases op_use l D cI cC cZ cT cB (aCs s) (aMs s) (giC s) (giM s) hC.hlT Mc Mm T hI (by omega) (xs (4 * T + 1)) with ⟨fr, lo, fr', lo', v, P, P', h1, h2, h3, h4, hMC, hMM, hf⟩ | ⟨fr, lo, fr', lo', E, w, P, P', hw, h1, h2, h3, h4, hMX, hMM, hf⟩
    · exact ⟨0, v, P, P', _, fr', lo', by decide, h3, h4, w_use_r (neC s) g (xs (4 * T + 1)) h1 h2 hMC, hMM, fun _ g' hg => hg, hf⟩
    · simp only [List.mem_cons, List.not_mem_nil, or_false, Prod.mk.injEq] at hw
      obtain ⟨rfl, rfl⟩ := hw
      exact ⟨1, nI 0, P, P', _, fr', lo', by decide, h3, h4, w_use_x1 (neC s) g (xs (4 * T + 1)) h1 h2 hMX, hMM, fun z => absurd z (by decide), hf⟩
  refine lv_aload_n hC.hx hC.hb d_L_law_853 rfl (lv_at hl 1 rfl) ?_
  refine l_arg (pc := 854) (T := T) (j := 1) hC h.hS (lv_at hl 0 rfl) (lv_at hl 4 rfl) (by decide) (by omega) hL9 d_L_law_854 d_L_law_855 d_L_law_857 d_L_law_858 d_L_law_859 ?_
  refine lv_aload_n (pc := 860) hC.hx hC.hb d_L_law_860 rfl (lv_at hl 3 rfl) ?_
  refine l_W (pc := 861) hC h hMW k_591 k_592 k_0 k_593 3 rfl (by decide +kernel) (by decide) hcl hsl rfl hl.1 d_L_law_861 (fun Mc' g' H locs hp hg h => ?_)
  refine lv_istore (pc := 864) (lv' := (5, .int (nI k)) :: lvL b s T) hC.hx hC.hb d_L_law_864 hl (by decide) rfl (fun ls hl => ?_)
  refine lv_aload_n (pc := 866) hC.hx hC.hb d_L_law_866 rfl (lv_at hl 3 rfl) ?_
  refine l_arg (pc := 867) (T := T) (j := 1) hC h.hS (lv_at hl 1 rfl) (lv_at hl 5 rfl) (by decide) (by omega) hL9 d_L_law_867 d_L_law_868 d_L_law_870 d_L_law_871 d_L_law_872 ?_
  refine l_M (pc := 873) (As := [.int (xs (4 * T + 1))]) (rest := []) hC h hMM rfl h3 h4 (by decide) k_982 k_983 k_984 k_9 k_985 1 rfl (by decide +kernel) hcl hsl rfl hl.1 (Nat.zero_le 8) d_L_law_873 (fun Mm' H locs hp' h => ?_)
  obtain ⟨hI', hth⟩ := hf _ _ hp hp'
  exact l_tail (pc := 876) hC h hI' (by omega) hth (fun z => hgp z g' hg) hl hcl hsl d_L_law_876 d_L_law_878 d_L_law_879 d_L_law_882 d_L_law_884 d_L_law_889 d_L_law_891 d_L_law_894 d_L_law_895 d_L_law_896 d_L_law_897 d_L_law_899 d_L_law_900 d_L_law_901 d_L_law_906 (by decide) kk

set_option maxHeartbeats 4000000 in
set_option maxRecDepth 100000 in
theorem lc_used {p : Program} {l : Launch} {e : Env} {R : Room} {s : State} {m : MethodId} {below : List Frame} {meth : Method} {c : Code} {H : Heap} {locs : List Loc} {cells slots : Nat} {Q : State → Prop} {ls : Array Slot} {D : va_G} {cI cC cZ cT cB cL : ClassId} {b L : Nat} {xs : Nat → Int32} {Mc Mm : PM} {g : Nat → Int64} (hC : LW l p R s m meth c D cI cC cZ cT cB cL b L xs) (hL9 : L ≤ 2048) {T : Nat} (hi : 4 * T + 4 ≤ L) (hI : Inv Mc Mm T) (h : LSt s D cI cC cZ cT cB cL Mc Mm g H locs) (hl : lv_has ls 7 (lvL b s T)) (hcl : cells + 1 ≤ R.cells) (hsl : slots + 6 ≤ R.slots) (kk : KL p l e R s m below meth c cells slots Q D cI cC cZ cT cB cL b T) : W p l e R s m #[Value.ref b] below meth c H locs cells slots Q (F0 m 909 ls []) := by
  obtain ⟨k, v, P, P', gp, fr', lo', hk, h3, h4, hMW, hMM, hgp, hf⟩ : ∃ (k : Nat) (v : Int32) (P P' : PM → Prop) (gp : (Nat → Int64) → Prop) (fr' lo' : Nat), k < 4 ∧ fr' ≤ 8 ∧ lo' ≤ 200 ∧ MW l D cI cC cZ cT (aCs s) cL (oS s) y_L_used b_L_used 4 [(0, 9, 12, 30)] [.ref (aCs s 0), .int (xs (4 * T + 1)), .ref (oS s)] Mc g k P gp ∧ MM l D cI cB (aMs s) y_M_used b_M_used 2 (some .int) fr' lo' [.ref (aMs s 0), .int (xs (4 * T + 1))] Mm (fun r M' => r = some (.int v) ∧ P' M') ∧ (k = 0 → ∀ g' : Nat → Int64, gp g' → g' 0 = v.toInt64) ∧ ∀ M1 M2, P M1 → P' M2 → Inv M1 M2 (T + 1) ∧ M2 0 0 = nI k := by
    rcases op_used l D cI cC cZ cT cB (aCs s) (aMs s) (giC s) (giM s) hC.hlT Mc Mm T hI (by omega) (xs (4 * T + 1)) with ⟨fr, lo, fr', lo', v, P, P', h1, h2, h3, h4, hMC, hMM, hf⟩ | ⟨fr, lo, fr', lo', E, w, P, P', hw, h1, h2, h3, h4, hMX, hMM, hf⟩
    · exact ⟨0, v, P, P', _, fr', lo', by decide, h3, h4, w_used_r (neC s) g (xs (4 * T + 1)) h1 h2 hMC, hMM, fun _ g' hg => hg, hf⟩
    · simp only [List.mem_cons, List.not_mem_nil, or_false, Prod.mk.injEq] at hw
      obtain ⟨rfl, rfl⟩ := hw
      exact ⟨1, nI 0, P, P', _, fr', lo', by decide, h3, h4, w_used_x1 (neC s) g (xs (4 * T + 1)) h1 h2 hMX, hMM, fun z => absurd z (by decide), hf⟩
  refine lv_aload_n hC.hx hC.hb d_L_law_909 rfl (lv_at hl 1 rfl) ?_
  refine l_arg (pc := 910) (T := T) (j := 1) hC h.hS (lv_at hl 0 rfl) (lv_at hl 4 rfl) (by decide) (by omega) hL9 d_L_law_910 d_L_law_911 d_L_law_913 d_L_law_914 d_L_law_915 ?_
  refine lv_aload_n (pc := 916) hC.hx hC.hb d_L_law_916 rfl (lv_at hl 3 rfl) ?_
  refine l_W (pc := 917) hC h hMW k_598 k_599 k_0 k_600 3 rfl (by decide +kernel) (by decide) hcl hsl rfl hl.1 d_L_law_917 (fun Mc' g' H locs hp hg h => ?_)
  refine lv_istore (pc := 920) (lv' := (5, .int (nI k)) :: lvL b s T) hC.hx hC.hb d_L_law_920 hl (by decide) rfl (fun ls hl => ?_)
  refine lv_aload_n (pc := 922) hC.hx hC.hb d_L_law_922 rfl (lv_at hl 3 rfl) ?_
  refine l_arg (pc := 923) (T := T) (j := 1) hC h.hS (lv_at hl 1 rfl) (lv_at hl 5 rfl) (by decide) (by omega) hL9 d_L_law_923 d_L_law_924 d_L_law_926 d_L_law_927 d_L_law_928 ?_
  refine l_M (pc := 929) (As := [.int (xs (4 * T + 1))]) (rest := []) hC h hMM rfl h3 h4 (by decide) k_986 k_987 k_988 k_9 k_989 1 rfl (by decide +kernel) hcl hsl rfl hl.1 (Nat.zero_le 8) d_L_law_929 (fun Mm' H locs hp' h => ?_)
  obtain ⟨hI', hth⟩ := hf _ _ hp hp'
  exact l_tail (pc := 932) hC h hI' (by omega) hth (fun z => hgp z g' hg) hl hcl hsl d_L_law_932 d_L_law_934 d_L_law_935 d_L_law_938 d_L_law_940 d_L_law_945 d_L_law_947 d_L_law_950 d_L_law_951 d_L_law_952 d_L_law_953 d_L_law_955 d_L_law_956 d_L_law_957 d_L_law_962 (by decide) kk

set_option maxHeartbeats 4000000 in
set_option maxRecDepth 100000 in
theorem lc_unknown {p : Program} {l : Launch} {e : Env} {R : Room} {s : State} {m : MethodId} {below : List Frame} {meth : Method} {c : Code} {H : Heap} {locs : List Loc} {cells slots : Nat} {Q : State → Prop} {ls : Array Slot} {D : va_G} {cI cC cZ cT cB cL : ClassId} {b L : Nat} {xs : Nat → Int32} {Mc Mm : PM} {g : Nat → Int64} (hC : LW l p R s m meth c D cI cC cZ cT cB cL b L xs) (hL9 : L ≤ 2048) {T : Nat} (hi : 4 * T + 4 ≤ L) (hI : Inv Mc Mm T) (h : LSt s D cI cC cZ cT cB cL Mc Mm g H locs) (hl : lv_has ls 7 (lvL b s T)) (hcl : cells + 1 ≤ R.cells) (hsl : slots + 6 ≤ R.slots) (kk : KL p l e R s m below meth c cells slots Q D cI cC cZ cT cB cL b T) : W p l e R s m #[Value.ref b] below meth c H locs cells slots Q (F0 m 965 ls []) := by
  obtain ⟨k, v, P, P', gp, fr', lo', hk, h3, h4, hMW, hMM, hgp, hf⟩ : ∃ (k : Nat) (v : Int32) (P P' : PM → Prop) (gp : (Nat → Int64) → Prop) (fr' lo' : Nat), k < 4 ∧ fr' ≤ 8 ∧ lo' ≤ 200 ∧ MW l D cI cC cZ cT (aCs s) cL (oS s) y_L_unknown b_L_unknown 4 [(0, 9, 12, 30)] [.ref (aCs s 0), .int (xs (4 * T + 1)), .ref (oS s)] Mc g k P gp ∧ MM l D cI cB (aMs s) y_M_unknown b_M_unknown 4 (some .int) fr' lo' [.ref (aMs s 0), .int (xs (4 * T + 1))] Mm (fun r M' => r = some (.int v) ∧ P' M') ∧ (k = 0 → ∀ g' : Nat → Int64, gp g' → g' 0 = v.toInt64) ∧ ∀ M1 M2, P M1 → P' M2 → Inv M1 M2 (T + 1) ∧ M2 0 0 = nI k := by
    rcases op_unknown l D cI cC cZ cT cB (aCs s) (aMs s) (giC s) (giM s) hC.hlT Mc Mm T hI (by omega) (xs (4 * T + 1)) with ⟨fr, lo, fr', lo', v, P, P', h1, h2, h3, h4, hMC, hMM, hf⟩ | ⟨fr, lo, fr', lo', E, w, P, P', hw, h1, h2, h3, h4, hMX, hMM, hf⟩
    · exact ⟨0, v, P, P', _, fr', lo', by decide, h3, h4, w_unknown_r (neC s) g (xs (4 * T + 1)) h1 h2 hMC, hMM, fun _ g' hg => hg, hf⟩
    · simp only [List.mem_cons, List.not_mem_nil, or_false, Prod.mk.injEq] at hw
      obtain ⟨rfl, rfl⟩ := hw
      exact ⟨1, nI 0, P, P', _, fr', lo', by decide, h3, h4, w_unknown_x1 (neC s) g (xs (4 * T + 1)) h1 h2 hMX, hMM, fun z => absurd z (by decide), hf⟩
  refine lv_aload_n hC.hx hC.hb d_L_law_965 rfl (lv_at hl 1 rfl) ?_
  refine l_arg (pc := 966) (T := T) (j := 1) hC h.hS (lv_at hl 0 rfl) (lv_at hl 4 rfl) (by decide) (by omega) hL9 d_L_law_966 d_L_law_967 d_L_law_969 d_L_law_970 d_L_law_971 ?_
  refine lv_aload_n (pc := 972) hC.hx hC.hb d_L_law_972 rfl (lv_at hl 3 rfl) ?_
  refine l_W (pc := 973) hC h hMW k_605 k_606 k_0 k_607 3 rfl (by decide +kernel) (by decide) hcl hsl rfl hl.1 d_L_law_973 (fun Mc' g' H locs hp hg h => ?_)
  refine lv_istore (pc := 976) (lv' := (5, .int (nI k)) :: lvL b s T) hC.hx hC.hb d_L_law_976 hl (by decide) rfl (fun ls hl => ?_)
  refine lv_aload_n (pc := 978) hC.hx hC.hb d_L_law_978 rfl (lv_at hl 3 rfl) ?_
  refine l_arg (pc := 979) (T := T) (j := 1) hC h.hS (lv_at hl 1 rfl) (lv_at hl 5 rfl) (by decide) (by omega) hL9 d_L_law_979 d_L_law_980 d_L_law_982 d_L_law_983 d_L_law_984 ?_
  refine l_M (pc := 985) (As := [.int (xs (4 * T + 1))]) (rest := []) hC h hMM rfl h3 h4 (by decide) k_990 k_991 k_992 k_9 k_993 1 rfl (by decide +kernel) hcl hsl rfl hl.1 (Nat.zero_le 8) d_L_law_985 (fun Mm' H locs hp' h => ?_)
  obtain ⟨hI', hth⟩ := hf _ _ hp hp'
  exact l_tail (pc := 988) hC h hI' (by omega) hth (fun z => hgp z g' hg) hl hcl hsl d_L_law_988 d_L_law_990 d_L_law_991 d_L_law_994 d_L_law_996 d_L_law_1001 d_L_law_1003 d_L_law_1006 d_L_law_1007 d_L_law_1008 d_L_law_1009 d_L_law_1011 d_L_law_1012 d_L_law_1013 d_L_law_1018 (by decide) kk

set_option maxHeartbeats 4000000 in
set_option maxRecDepth 100000 in
theorem lc_apart {p : Program} {l : Launch} {e : Env} {R : Room} {s : State} {m : MethodId} {below : List Frame} {meth : Method} {c : Code} {H : Heap} {locs : List Loc} {cells slots : Nat} {Q : State → Prop} {ls : Array Slot} {D : va_G} {cI cC cZ cT cB cL : ClassId} {b L : Nat} {xs : Nat → Int32} {Mc Mm : PM} {g : Nat → Int64} (hC : LW l p R s m meth c D cI cC cZ cT cB cL b L xs) (hL9 : L ≤ 2048) {T : Nat} (hi : 4 * T + 4 ≤ L) (hI : Inv Mc Mm T) (h : LSt s D cI cC cZ cT cB cL Mc Mm g H locs) (hl : lv_has ls 7 (lvL b s T)) (hcl : cells + 1 ≤ R.cells) (hsl : slots + 6 ≤ R.slots) (kk : KL p l e R s m below meth c cells slots Q D cI cC cZ cT cB cL b T) : W p l e R s m #[Value.ref b] below meth c H locs cells slots Q (F0 m 1021 ls []) := by
  obtain ⟨k, v, P, P', gp, fr', lo', hk, h3, h4, hMW, hMM, hgp, hf⟩ : ∃ (k : Nat) (v : Int32) (P P' : PM → Prop) (gp : (Nat → Int64) → Prop) (fr' lo' : Nat), k < 4 ∧ fr' ≤ 8 ∧ lo' ≤ 200 ∧ MW l D cI cC cZ cT (aCs s) cL (oS s) y_L_apart b_L_apart 5 [(0, 10, 13, 30)] [.ref (aCs s 0), .int (xs (4 * T + 1)), .int (xs (4 * T + 2)), .ref (oS s)] Mc g k P gp ∧ MM l D cI cB (aMs s) y_M_apart b_M_apart 3 (some .int) fr' lo' [.ref (aMs s 0), .int (xs (4 * T + 1)), .int (xs (4 * T + 2))] Mm (fun r M' => r = some (.int v) ∧ P' M') ∧ (k = 0 → ∀ g' : Nat → Int64, gp g' → g' 0 = v.toInt64) ∧ ∀ M1 M2, P M1 → P' M2 → Inv M1 M2 (T + 1) ∧ M2 0 0 = nI k := by
    rcases op_apart l D cI cC cZ cT cB (aCs s) (aMs s) (giC s) (giM s) hC.hlT Mc Mm T hI (by omega) (xs (4 * T + 1)) (xs (4 * T + 2)) with ⟨fr, lo, fr', lo', v, P, P', h1, h2, h3, h4, hMC, hMM, hf⟩ | ⟨fr, lo, fr', lo', E, w, P, P', hw, h1, h2, h3, h4, hMX, hMM, hf⟩
    · exact ⟨0, v, P, P', _, fr', lo', by decide, h3, h4, w_apart_r (neC s) g (xs (4 * T + 1)) (xs (4 * T + 2)) h1 h2 hMC, hMM, fun _ g' hg => hg, hf⟩
    · simp only [List.mem_cons, List.not_mem_nil, or_false, Prod.mk.injEq] at hw
      obtain ⟨rfl, rfl⟩ := hw
      exact ⟨1, nI 0, P, P', _, fr', lo', by decide, h3, h4, w_apart_x1 (neC s) g (xs (4 * T + 1)) (xs (4 * T + 2)) h1 h2 hMX, hMM, fun z => absurd z (by decide), hf⟩
  refine lv_aload_n hC.hx hC.hb d_L_law_1021 rfl (lv_at hl 1 rfl) ?_
  refine l_arg (pc := 1022) (T := T) (j := 1) hC h.hS (lv_at hl 0 rfl) (lv_at hl 4 rfl) (by decide) (by omega) hL9 d_L_law_1022 d_L_law_1023 d_L_law_1025 d_L_law_1026 d_L_law_1027 ?_
  refine l_arg (pc := 1028) (T := T) (j := 2) hC h.hS (lv_at hl 0 rfl) (lv_at hl 4 rfl) (by decide) (by omega) hL9 d_L_law_1028 d_L_law_1029 d_L_law_1031 d_L_law_1032 d_L_law_1033 ?_
  refine lv_aload_n (pc := 1034) hC.hx hC.hb d_L_law_1034 rfl (lv_at hl 3 rfl) ?_
  refine l_W (pc := 1035) hC h hMW k_621 k_622 k_0 k_623 4 rfl (by decide +kernel) (by decide) hcl hsl rfl hl.1 d_L_law_1035 (fun Mc' g' H locs hp hg h => ?_)
  refine lv_istore (pc := 1038) (lv' := (5, .int (nI k)) :: lvL b s T) hC.hx hC.hb d_L_law_1038 hl (by decide) rfl (fun ls hl => ?_)
  refine lv_aload_n (pc := 1040) hC.hx hC.hb d_L_law_1040 rfl (lv_at hl 3 rfl) ?_
  refine l_arg (pc := 1041) (T := T) (j := 1) hC h.hS (lv_at hl 1 rfl) (lv_at hl 5 rfl) (by decide) (by omega) hL9 d_L_law_1041 d_L_law_1042 d_L_law_1044 d_L_law_1045 d_L_law_1046 ?_
  refine l_arg (pc := 1047) (T := T) (j := 2) hC h.hS (lv_at hl 1 rfl) (lv_at hl 5 rfl) (by decide) (by omega) hL9 d_L_law_1047 d_L_law_1048 d_L_law_1050 d_L_law_1051 d_L_law_1052 ?_
  refine l_M (pc := 1053) (As := [.int (xs (4 * T + 1)), .int (xs (4 * T + 2))]) (rest := []) hC h hMM rfl h3 h4 (by decide) k_998 k_999 k_1000 k_9 k_1001 2 rfl (by decide +kernel) hcl hsl rfl hl.1 (Nat.zero_le 8) d_L_law_1053 (fun Mm' H locs hp' h => ?_)
  obtain ⟨hI', hth⟩ := hf _ _ hp hp'
  exact l_tail (pc := 1056) hC h hI' (by omega) hth (fun z => hgp z g' hg) hl hcl hsl d_L_law_1056 d_L_law_1058 d_L_law_1059 d_L_law_1062 d_L_law_1064 d_L_law_1069 d_L_law_1071 d_L_law_1074 d_L_law_1075 d_L_law_1076 d_L_law_1077 d_L_law_1079 d_L_law_1080 d_L_law_1081 d_L_law_1086 (by decide) kk

set_option maxHeartbeats 4000000 in
set_option maxRecDepth 100000 in
theorem lc_near {p : Program} {l : Launch} {e : Env} {R : Room} {s : State} {m : MethodId} {below : List Frame} {meth : Method} {c : Code} {H : Heap} {locs : List Loc} {cells slots : Nat} {Q : State → Prop} {ls : Array Slot} {D : va_G} {cI cC cZ cT cB cL : ClassId} {b L : Nat} {xs : Nat → Int32} {Mc Mm : PM} {g : Nat → Int64} (hC : LW l p R s m meth c D cI cC cZ cT cB cL b L xs) (hL9 : L ≤ 2048) {T : Nat} (hi : 4 * T + 4 ≤ L) (hI : Inv Mc Mm T) (h : LSt s D cI cC cZ cT cB cL Mc Mm g H locs) (hl : lv_has ls 7 (lvL b s T)) (hcl : cells + 1 ≤ R.cells) (hsl : slots + 6 ≤ R.slots) (kk : KL p l e R s m below meth c cells slots Q D cI cC cZ cT cB cL b T) : W p l e R s m #[Value.ref b] below meth c H locs cells slots Q (F0 m 1089 ls []) := by
  obtain ⟨k, v, P, P', gp, fr', lo', hk, h3, h4, hMW, hMM, hgp, hf⟩ : ∃ (k : Nat) (v : Int32) (P P' : PM → Prop) (gp : (Nat → Int64) → Prop) (fr' lo' : Nat), k < 4 ∧ fr' ≤ 8 ∧ lo' ≤ 200 ∧ MW l D cI cC cZ cT (aCs s) cL (oS s) y_L_near b_L_near 5 [(0, 10, 13, 30)] [.ref (aCs s 0), .int (xs (4 * T + 1)), .int (xs (4 * T + 2)), .ref (oS s)] Mc g k P gp ∧ MM l D cI cB (aMs s) y_M_near b_M_near 6 (some .int) fr' lo' [.ref (aMs s 0), .int (xs (4 * T + 1)), .int (xs (4 * T + 2))] Mm (fun r M' => r = some (.int v) ∧ P' M') ∧ (k = 0 → ∀ g' : Nat → Int64, gp g' → g' 0 = v.toInt64) ∧ ∀ M1 M2, P M1 → P' M2 → Inv M1 M2 (T + 1) ∧ M2 0 0 = nI k := by
    rcases op_near l D cI cC cZ cT cB (aCs s) (aMs s) (giC s) (giM s) hC.hlT Mc Mm T hI (by omega) (xs (4 * T + 1)) (xs (4 * T + 2)) with ⟨fr, lo, fr', lo', v, P, P', h1, h2, h3, h4, hMC, hMM, hf⟩ | ⟨fr, lo, fr', lo', E, w, P, P', hw, h1, h2, h3, h4, hMX, hMM, hf⟩
    · exact ⟨0, v, P, P', _, fr', lo', by decide, h3, h4, w_near_r (neC s) g (xs (4 * T + 1)) (xs (4 * T + 2)) h1 h2 hMC, hMM, fun _ g' hg => hg, hf⟩
    · simp only [List.mem_cons, List.not_mem_nil, or_false, Prod.mk.injEq] at hw
      obtain ⟨rfl, rfl⟩ := hw
      exact ⟨1, nI 0, P, P', _, fr', lo', by decide, h3, h4, w_near_x1 (neC s) g (xs (4 * T + 1)) (xs (4 * T + 2)) h1 h2 hMX, hMM, fun z => absurd z (by decide), hf⟩
  refine lv_aload_n hC.hx hC.hb d_L_law_1089 rfl (lv_at hl 1 rfl) ?_
  refine l_arg (pc := 1090) (T := T) (j := 1) hC h.hS (lv_at hl 0 rfl) (lv_at hl 4 rfl) (by decide) (by omega) hL9 d_L_law_1090 d_L_law_1091 d_L_law_1093 d_L_law_1094 d_L_law_1095 ?_
  refine l_arg (pc := 1096) (T := T) (j := 2) hC h.hS (lv_at hl 0 rfl) (lv_at hl 4 rfl) (by decide) (by omega) hL9 d_L_law_1096 d_L_law_1097 d_L_law_1099 d_L_law_1100 d_L_law_1101 ?_
  refine lv_aload_n (pc := 1102) hC.hx hC.hb d_L_law_1102 rfl (lv_at hl 3 rfl) ?_
  refine l_W (pc := 1103) hC h hMW k_635 k_636 k_0 k_637 4 rfl (by decide +kernel) (by decide) hcl hsl rfl hl.1 d_L_law_1103 (fun Mc' g' H locs hp hg h => ?_)
  refine lv_istore (pc := 1106) (lv' := (5, .int (nI k)) :: lvL b s T) hC.hx hC.hb d_L_law_1106 hl (by decide) rfl (fun ls hl => ?_)
  refine lv_aload_n (pc := 1108) hC.hx hC.hb d_L_law_1108 rfl (lv_at hl 3 rfl) ?_
  refine l_arg (pc := 1109) (T := T) (j := 1) hC h.hS (lv_at hl 1 rfl) (lv_at hl 5 rfl) (by decide) (by omega) hL9 d_L_law_1109 d_L_law_1110 d_L_law_1112 d_L_law_1113 d_L_law_1114 ?_
  refine l_arg (pc := 1115) (T := T) (j := 2) hC h.hS (lv_at hl 1 rfl) (lv_at hl 5 rfl) (by decide) (by omega) hL9 d_L_law_1115 d_L_law_1116 d_L_law_1118 d_L_law_1119 d_L_law_1120 ?_
  refine l_M (pc := 1121) (As := [.int (xs (4 * T + 1)), .int (xs (4 * T + 2))]) (rest := []) hC h hMM rfl h3 h4 (by decide) k_1006 k_1007 k_1008 k_9 k_1009 2 rfl (by decide +kernel) hcl hsl rfl hl.1 (Nat.zero_le 8) d_L_law_1121 (fun Mm' H locs hp' h => ?_)
  obtain ⟨hI', hth⟩ := hf _ _ hp hp'
  exact l_tail (pc := 1124) hC h hI' (by omega) hth (fun z => hgp z g' hg) hl hcl hsl d_L_law_1124 d_L_law_1126 d_L_law_1127 d_L_law_1130 d_L_law_1132 d_L_law_1137 d_L_law_1139 d_L_law_1142 d_L_law_1143 d_L_law_1144 d_L_law_1145 d_L_law_1147 d_L_law_1148 d_L_law_1149 d_L_law_1154 (by decide) kk

set_option maxHeartbeats 4000000 in
set_option maxRecDepth 100000 in
theorem lc_alias {p : Program} {l : Launch} {e : Env} {R : Room} {s : State} {m : MethodId} {below : List Frame} {meth : Method} {c : Code} {H : Heap} {locs : List Loc} {cells slots : Nat} {Q : State → Prop} {ls : Array Slot} {D : va_G} {cI cC cZ cT cB cL : ClassId} {b L : Nat} {xs : Nat → Int32} {Mc Mm : PM} {g : Nat → Int64} (hC : LW l p R s m meth c D cI cC cZ cT cB cL b L xs) (hL9 : L ≤ 2048) {T : Nat} (hi : 4 * T + 4 ≤ L) (hI : Inv Mc Mm T) (h : LSt s D cI cC cZ cT cB cL Mc Mm g H locs) (hl : lv_has ls 7 (lvL b s T)) (hcl : cells + 1 ≤ R.cells) (hsl : slots + 6 ≤ R.slots) (kk : KL p l e R s m below meth c cells slots Q D cI cC cZ cT cB cL b T) : W p l e R s m #[Value.ref b] below meth c H locs cells slots Q (F0 m 1157 ls []) := by
  obtain ⟨k, v, P, P', gp, fr', lo', hk, h3, h4, hMW, hMM, hgp, hf⟩ : ∃ (k : Nat) (v : Int32) (P P' : PM → Prop) (gp : (Nat → Int64) → Prop) (fr' lo' : Nat), k < 4 ∧ fr' ≤ 8 ∧ lo' ≤ 200 ∧ MW l D cI cC cZ cT (aCs s) cL (oS s) y_L_alias b_L_alias 5 [(0, 17, 20, 30)] [.ref (aCs s 0), .int (xs (4 * T + 1)), .int (xs (4 * T + 2)), .ref (oS s)] Mc g k P gp ∧ MM l D cI cB (aMs s) y_M_alias b_M_alias 3 (some .boolean) fr' lo' [.ref (aMs s 0), .int (xs (4 * T + 1)), .int (xs (4 * T + 2))] Mm (fun r M' => r = some (.int v) ∧ P' M') ∧ (k = 0 → ∀ g' : Nat → Int64, gp g' → g' 0 = if v = 0 then 0 else 1) ∧ ∀ M1 M2, P M1 → P' M2 → Inv M1 M2 (T + 1) ∧ M2 0 0 = nI k := by
    rcases op_alias l D cI cC cZ cT cB (aCs s) (aMs s) (giC s) (giM s) hC.hlT Mc Mm T hI (by omega) (xs (4 * T + 1)) (xs (4 * T + 2)) with ⟨fr, lo, fr', lo', v, P, P', h1, h2, h3, h4, hMC, hMM, hf⟩ | ⟨fr, lo, fr', lo', E, w, P, P', hw, h1, h2, h3, h4, hMX, hMM, hf⟩
    · exact ⟨0, v, P, P', _, fr', lo', by decide, h3, h4, w_alias_r (neC s) g (xs (4 * T + 1)) (xs (4 * T + 2)) h1 h2 hMC, hMM, fun _ g' hg => hg, hf⟩
    · simp only [List.mem_cons, List.not_mem_nil, or_false, Prod.mk.injEq] at hw
      obtain ⟨rfl, rfl⟩ := hw
      exact ⟨1, nI 0, P, P', _, fr', lo', by decide, h3, h4, w_alias_x1 (neC s) g (xs (4 * T + 1)) (xs (4 * T + 2)) h1 h2 hMX, hMM, fun z => absurd z (by decide), hf⟩
  refine lv_aload_n hC.hx hC.hb d_L_law_1157 rfl (lv_at hl 1 rfl) ?_
  refine l_arg (pc := 1158) (T := T) (j := 1) hC h.hS (lv_at hl 0 rfl) (lv_at hl 4 rfl) (by decide) (by omega) hL9 d_L_law_1158 d_L_law_1159 d_L_law_1161 d_L_law_1162 d_L_law_1163 ?_
  refine l_arg (pc := 1164) (T := T) (j := 2) hC h.hS (lv_at hl 0 rfl) (lv_at hl 4 rfl) (by decide) (by omega) hL9 d_L_law_1164 d_L_law_1165 d_L_law_1167 d_L_law_1168 d_L_law_1169 ?_
  refine lv_aload_n (pc := 1170) hC.hx hC.hb d_L_law_1170 rfl (lv_at hl 3 rfl) ?_
  refine l_W (pc := 1171) hC h hMW k_650 k_651 k_0 k_652 4 rfl (by decide +kernel) (by decide) hcl hsl rfl hl.1 d_L_law_1171 (fun Mc' g' H locs hp hg h => ?_)
  refine lv_istore (pc := 1174) (lv' := (5, .int (nI k)) :: lvL b s T) hC.hx hC.hb d_L_law_1174 hl (by decide) rfl (fun ls hl => ?_)
  refine lv_aload_n (pc := 1176) hC.hx hC.hb d_L_law_1176 rfl (lv_at hl 3 rfl) ?_
  refine l_arg (pc := 1177) (T := T) (j := 1) hC h.hS (lv_at hl 1 rfl) (lv_at hl 5 rfl) (by decide) (by omega) hL9 d_L_law_1177 d_L_law_1178 d_L_law_1180 d_L_law_1181 d_L_law_1182 ?_
  refine l_arg (pc := 1183) (T := T) (j := 2) hC h.hS (lv_at hl 1 rfl) (lv_at hl 5 rfl) (by decide) (by omega) hL9 d_L_law_1183 d_L_law_1184 d_L_law_1186 d_L_law_1187 d_L_law_1188 ?_
  refine l_M (pc := 1189) (As := [.int (xs (4 * T + 1)), .int (xs (4 * T + 2))]) (rest := []) hC h hMM rfl h3 h4 (by decide) k_1010 k_1011 k_1012 k_9 k_1013 2 rfl (by decide +kernel) hcl hsl rfl hl.1 (Nat.zero_le 8) d_L_law_1189 (fun Mm' H locs hp' h => ?_)
  obtain ⟨hI', hth⟩ := hf _ _ hp hp'
  exact l_tailz (pc := 1192) hC h hI' (by omega) hth (fun z => hgp z g' hg) hl hcl hsl d_L_law_1192 d_L_law_1194 d_L_law_1195 d_L_law_1198 d_L_law_1200 d_L_law_1205 d_L_law_1207 d_L_law_1210 d_L_law_1211 d_L_law_1212 d_L_law_1213 d_L_law_1215 d_L_law_1218 d_L_law_1219 d_L_law_1222 d_L_law_1223 d_L_law_1224 d_L_law_1229 (by decide) kk

set_option maxHeartbeats 4000000 in
set_option maxRecDepth 100000 in
theorem lc_meaning {p : Program} {l : Launch} {e : Env} {R : Room} {s : State} {m : MethodId} {below : List Frame} {meth : Method} {c : Code} {H : Heap} {locs : List Loc} {cells slots : Nat} {Q : State → Prop} {ls : Array Slot} {D : va_G} {cI cC cZ cT cB cL : ClassId} {b L : Nat} {xs : Nat → Int32} {Mc Mm : PM} {g : Nat → Int64} (hC : LW l p R s m meth c D cI cC cZ cT cB cL b L xs) (hL9 : L ≤ 2048) {T : Nat} (hi : 4 * T + 4 ≤ L) (hI : Inv Mc Mm T) (h : LSt s D cI cC cZ cT cB cL Mc Mm g H locs) (hl : lv_has ls 7 (lvL b s T)) (hcl : cells + 1 ≤ R.cells) (hsl : slots + 6 ≤ R.slots) (kk : KL p l e R s m below meth c cells slots Q D cI cC cZ cT cB cL b T) : W p l e R s m #[Value.ref b] below meth c H locs cells slots Q (F0 m 1232 ls []) := by
  obtain ⟨k, v, P, P', gp, fr', lo', hk, h3, h4, hMW, hMM, hgp, hf⟩ : ∃ (k : Nat) (v : Int32) (P P' : PM → Prop) (gp : (Nat → Int64) → Prop) (fr' lo' : Nat), k < 4 ∧ fr' ≤ 8 ∧ lo' ≤ 200 ∧ MW l D cI cC cZ cT (aCs s) cL (oS s) y_L_meaning b_L_meaning 4 [(0, 9, 12, 30)] [.ref (aCs s 0), .int (xs (4 * T + 1)), .ref (oS s)] Mc g k P gp ∧ MM l D cI cB (aMs s) y_M_meaning b_M_meaning 3 (some .int) fr' lo' [.ref (aMs s 0), .int (xs (4 * T + 1))] Mm (fun r M' => r = some (.int v) ∧ P' M') ∧ (k = 0 → ∀ g' : Nat → Int64, gp g' → g' 0 = v.toInt64) ∧ ∀ M1 M2, P M1 → P' M2 → Inv M1 M2 (T + 1) ∧ M2 0 0 = nI k := by
    rcases op_meaning l D cI cC cZ cT cB (aCs s) (aMs s) (giC s) (giM s) hC.hlT Mc Mm T hI (by omega) (xs (4 * T + 1)) with ⟨fr, lo, fr', lo', v, P, P', h1, h2, h3, h4, hMC, hMM, hf⟩ | ⟨fr, lo, fr', lo', E, w, P, P', hw, h1, h2, h3, h4, hMX, hMM, hf⟩
    · exact ⟨0, v, P, P', _, fr', lo', by decide, h3, h4, w_meaning_r (neC s) g (xs (4 * T + 1)) h1 h2 hMC, hMM, fun _ g' hg => hg, hf⟩
    · simp only [List.mem_cons, List.not_mem_nil, or_false, Prod.mk.injEq] at hw
      obtain ⟨rfl, rfl⟩ := hw
      exact ⟨1, nI 0, P, P', _, fr', lo', by decide, h3, h4, w_meaning_x1 (neC s) g (xs (4 * T + 1)) h1 h2 hMX, hMM, fun z => absurd z (by decide), hf⟩
  refine lv_aload_n hC.hx hC.hb d_L_law_1232 rfl (lv_at hl 1 rfl) ?_
  refine l_arg (pc := 1233) (T := T) (j := 1) hC h.hS (lv_at hl 0 rfl) (lv_at hl 4 rfl) (by decide) (by omega) hL9 d_L_law_1233 d_L_law_1234 d_L_law_1236 d_L_law_1237 d_L_law_1238 ?_
  refine lv_aload_n (pc := 1239) hC.hx hC.hb d_L_law_1239 rfl (lv_at hl 3 rfl) ?_
  refine l_W (pc := 1240) hC h hMW k_665 k_666 k_0 k_667 3 rfl (by decide +kernel) (by decide) hcl hsl rfl hl.1 d_L_law_1240 (fun Mc' g' H locs hp hg h => ?_)
  refine lv_istore (pc := 1243) (lv' := (5, .int (nI k)) :: lvL b s T) hC.hx hC.hb d_L_law_1243 hl (by decide) rfl (fun ls hl => ?_)
  refine lv_aload_n (pc := 1245) hC.hx hC.hb d_L_law_1245 rfl (lv_at hl 3 rfl) ?_
  refine l_arg (pc := 1246) (T := T) (j := 1) hC h.hS (lv_at hl 1 rfl) (lv_at hl 5 rfl) (by decide) (by omega) hL9 d_L_law_1246 d_L_law_1247 d_L_law_1249 d_L_law_1250 d_L_law_1251 ?_
  refine l_M (pc := 1252) (As := [.int (xs (4 * T + 1))]) (rest := []) hC h hMM rfl h3 h4 (by decide) k_1018 k_1019 k_1020 k_9 k_1021 1 rfl (by decide +kernel) hcl hsl rfl hl.1 (Nat.zero_le 8) d_L_law_1252 (fun Mm' H locs hp' h => ?_)
  obtain ⟨hI', hth⟩ := hf _ _ hp hp'
  exact l_tail (pc := 1255) hC h hI' (by omega) hth (fun z => hgp z g' hg) hl hcl hsl d_L_law_1255 d_L_law_1257 d_L_law_1258 d_L_law_1261 d_L_law_1263 d_L_law_1268 d_L_law_1270 d_L_law_1273 d_L_law_1274 d_L_law_1275 d_L_law_1276 d_L_law_1278 d_L_law_1279 d_L_law_1280 d_L_law_1285 (by decide) kk

set_option maxHeartbeats 4000000 in
set_option maxRecDepth 100000 in
theorem lc_join {p : Program} {l : Launch} {e : Env} {R : Room} {s : State} {m : MethodId} {below : List Frame} {meth : Method} {c : Code} {H : Heap} {locs : List Loc} {cells slots : Nat} {Q : State → Prop} {ls : Array Slot} {D : va_G} {cI cC cZ cT cB cL : ClassId} {b L : Nat} {xs : Nat → Int32} {Mc Mm : PM} {g : Nat → Int64} (hC : LW l p R s m meth c D cI cC cZ cT cB cL b L xs) (hL9 : L ≤ 2048) {T : Nat} (hi : 4 * T + 4 ≤ L) (hI : Inv Mc Mm T) (h : LSt s D cI cC cZ cT cB cL Mc Mm g H locs) (hl : lv_has ls 7 (lvL b s T)) (hcl : cells + 1 ≤ R.cells) (hsl : slots + 6 ≤ R.slots) (kk : KL p l e R s m below meth c cells slots Q D cI cC cZ cT cB cL b T) : W p l e R s m #[Value.ref b] below meth c H locs cells slots Q (F0 m 1288 ls []) := by
  obtain ⟨k, v, P, P', gp, fr', lo', hk, h3, h4, hMW, hMM, hgp, hf⟩ : ∃ (k : Nat) (v : Int32) (P P' : PM → Prop) (gp : (Nat → Int64) → Prop) (fr' lo' : Nat), k < 4 ∧ fr' ≤ 8 ∧ lo' ≤ 200 ∧ MW l D cI cC cZ cT (aCs s) cL (oS s) y_L_join b_L_join 6 [(0, 12, 15, 30), (0, 12, 19, 13), (0, 12, 23, 15)] [.ref (aCs s 0), .int (xs (4 * T + 1)), .int (xs (4 * T + 2)), .int (xs (4 * T + 3)), .ref (oS s)] Mc g k P gp ∧ MM l D cI cB (aMs s) y_M_join b_M_join 6 (some .int) fr' lo' [.ref (aMs s 0), .int (xs (4 * T + 1)), .int (xs (4 * T + 2)), .int (xs (4 * T + 3))] Mm (fun r M' => r = some (.int v) ∧ P' M') ∧ (k = 0 → ∀ g' : Nat → Int64, gp g' → g' 0 = v.toInt64) ∧ ∀ M1 M2, P M1 → P' M2 → Inv M1 M2 (T + 1) ∧ M2 0 0 = nI k := by
    rcases op_join l D cI cC cZ cT cB (aCs s) (aMs s) (giC s) (giM s) hC.hlT Mc Mm T hI (by omega) (xs (4 * T + 1)) (xs (4 * T + 2)) (xs (4 * T + 3)) with ⟨fr, lo, fr', lo', v, P, P', h1, h2, h3, h4, hMC, hMM, hf⟩ | ⟨fr, lo, fr', lo', E, w, P, P', hw, h1, h2, h3, h4, hMX, hMM, hf⟩
    · exact ⟨0, v, P, P', _, fr', lo', by decide, h3, h4, w_join_r (neC s) g (xs (4 * T + 1)) (xs (4 * T + 2)) (xs (4 * T + 3)) h1 h2 hMC, hMM, fun _ g' hg => hg, hf⟩
    · simp only [List.mem_cons, List.not_mem_nil, or_false, Prod.mk.injEq] at hw
      rcases hw with ⟨rfl, rfl⟩ | ⟨rfl, rfl⟩ | ⟨rfl, rfl⟩
      · exact ⟨1, nI 0, P, P', _, fr', lo', by decide, h3, h4, w_join_x1 (neC s) g (xs (4 * T + 1)) (xs (4 * T + 2)) (xs (4 * T + 3)) h1 h2 hMX, hMM, fun z => absurd z (by decide), hf⟩
      · exact ⟨2, nI 0, P, P', _, fr', lo', by decide, h3, h4, w_join_x2 (neC s) g (xs (4 * T + 1)) (xs (4 * T + 2)) (xs (4 * T + 3)) h1 h2 hMX, hMM, fun z => absurd z (by decide), hf⟩
      · exact ⟨3, nI 0, P, P', _, fr', lo', by decide, h3, h4, w_join_x3 (neC s) g (xs (4 * T + 1)) (xs (4 * T + 2)) (xs (4 * T + 3)) h1 h2 hMX, hMM, fun z => absurd z (by decide), hf⟩
  refine lv_aload_n hC.hx hC.hb d_L_law_1288 rfl (lv_at hl 1 rfl) ?_
  refine l_arg (pc := 1289) (T := T) (j := 1) hC h.hS (lv_at hl 0 rfl) (lv_at hl 4 rfl) (by decide) (by omega) hL9 d_L_law_1289 d_L_law_1290 d_L_law_1292 d_L_law_1293 d_L_law_1294 ?_
  refine l_arg (pc := 1295) (T := T) (j := 2) hC h.hS (lv_at hl 0 rfl) (lv_at hl 4 rfl) (by decide) (by omega) hL9 d_L_law_1295 d_L_law_1296 d_L_law_1298 d_L_law_1299 d_L_law_1300 ?_
  refine l_arg (pc := 1301) (T := T) (j := 3) hC h.hS (lv_at hl 0 rfl) (lv_at hl 4 rfl) (by decide) (by omega) hL9 d_L_law_1301 d_L_law_1302 d_L_law_1304 d_L_law_1305 d_L_law_1306 ?_
  refine lv_aload_n (pc := 1307) hC.hx hC.hb d_L_law_1307 rfl (lv_at hl 3 rfl) ?_
  refine l_W (pc := 1308) hC h hMW k_676 k_677 k_0 k_678 5 rfl (by decide +kernel) (by decide) hcl hsl rfl hl.1 d_L_law_1308 (fun Mc' g' H locs hp hg h => ?_)
  refine lv_istore (pc := 1311) (lv' := (5, .int (nI k)) :: lvL b s T) hC.hx hC.hb d_L_law_1311 hl (by decide) rfl (fun ls hl => ?_)
  refine lv_aload_n (pc := 1313) hC.hx hC.hb d_L_law_1313 rfl (lv_at hl 3 rfl) ?_
  refine l_arg (pc := 1314) (T := T) (j := 1) hC h.hS (lv_at hl 1 rfl) (lv_at hl 5 rfl) (by decide) (by omega) hL9 d_L_law_1314 d_L_law_1315 d_L_law_1317 d_L_law_1318 d_L_law_1319 ?_
  refine l_arg (pc := 1320) (T := T) (j := 2) hC h.hS (lv_at hl 1 rfl) (lv_at hl 5 rfl) (by decide) (by omega) hL9 d_L_law_1320 d_L_law_1321 d_L_law_1323 d_L_law_1324 d_L_law_1325 ?_
  refine l_arg (pc := 1326) (T := T) (j := 3) hC h.hS (lv_at hl 1 rfl) (lv_at hl 5 rfl) (by decide) (by omega) hL9 d_L_law_1326 d_L_law_1327 d_L_law_1329 d_L_law_1330 d_L_law_1331 ?_
  refine l_M (pc := 1332) (As := [.int (xs (4 * T + 1)), .int (xs (4 * T + 2)), .int (xs (4 * T + 3))]) (rest := []) hC h hMM rfl h3 h4 (by decide) k_1022 k_1023 k_1024 k_9 k_1025 3 rfl (by decide +kernel) hcl hsl rfl hl.1 (Nat.zero_le 8) d_L_law_1332 (fun Mm' H locs hp' h => ?_)
  obtain ⟨hI', hth⟩ := hf _ _ hp hp'
  exact l_tail (pc := 1335) hC h hI' (by omega) hth (fun z => hgp z g' hg) hl hcl hsl d_L_law_1335 d_L_law_1337 d_L_law_1338 d_L_law_1341 d_L_law_1343 d_L_law_1348 d_L_law_1350 d_L_law_1353 d_L_law_1354 d_L_law_1355 d_L_law_1356 d_L_law_1358 d_L_law_1359 d_L_law_1360 d_L_law_1365 (by decide) kk

set_option maxHeartbeats 4000000 in
set_option maxRecDepth 100000 in
theorem lc_rename {p : Program} {l : Launch} {e : Env} {R : Room} {s : State} {m : MethodId} {below : List Frame} {meth : Method} {c : Code} {H : Heap} {locs : List Loc} {cells slots : Nat} {Q : State → Prop} {ls : Array Slot} {D : va_G} {cI cC cZ cT cB cL : ClassId} {b L : Nat} {xs : Nat → Int32} {Mc Mm : PM} {g : Nat → Int64} (hC : LW l p R s m meth c D cI cC cZ cT cB cL b L xs) (hL9 : L ≤ 2048) {T : Nat} (hi : 4 * T + 4 ≤ L) (hI : Inv Mc Mm T) (h : LSt s D cI cC cZ cT cB cL Mc Mm g H locs) (hl : lv_has ls 7 (lvL b s T)) (hcl : cells + 1 ≤ R.cells) (hsl : slots + 6 ≤ R.slots) (kk : KL p l e R s m below meth c cells slots Q D cI cC cZ cT cB cL b T) : W p l e R s m #[Value.ref b] below meth c H locs cells slots Q (F0 m 1368 ls []) := by
  obtain ⟨k, v, P, P', gp, fr', lo', hk, h3, h4, hMW, hMM, hgp, hf⟩ : ∃ (k : Nat) (v : Int32) (P P' : PM → Prop) (gp : (Nat → Int64) → Prop) (fr' lo' : Nat), k < 4 ∧ fr' ≤ 8 ∧ lo' ≤ 200 ∧ MW l D cI cC cZ cT (aCs s) cL (oS s) y_L_rename b_L_rename 5 [(0, 10, 13, 30), (0, 10, 17, 13), (0, 10, 21, 15)] [.ref (aCs s 0), .int (xs (4 * T + 1)), .int (xs (4 * T + 2)), .ref (oS s)] Mc g k P gp ∧ MM l D cI cB (aMs s) y_M_rename b_M_rename 5 (some .int) fr' lo' [.ref (aMs s 0), .int (xs (4 * T + 1)), .int (xs (4 * T + 2))] Mm (fun r M' => r = some (.int v) ∧ P' M') ∧ (k = 0 → ∀ g' : Nat → Int64, gp g' → g' 0 = v.toInt64) ∧ ∀ M1 M2, P M1 → P' M2 → Inv M1 M2 (T + 1) ∧ M2 0 0 = nI k := by
    rcases op_rename l D cI cC cZ cT cB (aCs s) (aMs s) (giC s) (giM s) hC.hlT Mc Mm T hI (by omega) (xs (4 * T + 1)) (xs (4 * T + 2)) with ⟨fr, lo, fr', lo', v, P, P', h1, h2, h3, h4, hMC, hMM, hf⟩ | ⟨fr, lo, fr', lo', E, w, P, P', hw, h1, h2, h3, h4, hMX, hMM, hf⟩
    · exact ⟨0, v, P, P', _, fr', lo', by decide, h3, h4, w_rename_r (neC s) g (xs (4 * T + 1)) (xs (4 * T + 2)) h1 h2 hMC, hMM, fun _ g' hg => hg, hf⟩
    · simp only [List.mem_cons, List.not_mem_nil, or_false, Prod.mk.injEq] at hw
      rcases hw with ⟨rfl, rfl⟩ | ⟨rfl, rfl⟩ | ⟨rfl, rfl⟩
      · exact ⟨1, nI 0, P, P', _, fr', lo', by decide, h3, h4, w_rename_x1 (neC s) g (xs (4 * T + 1)) (xs (4 * T + 2)) h1 h2 hMX, hMM, fun z => absurd z (by decide), hf⟩
      · exact ⟨2, nI 0, P, P', _, fr', lo', by decide, h3, h4, w_rename_x2 (neC s) g (xs (4 * T + 1)) (xs (4 * T + 2)) h1 h2 hMX, hMM, fun z => absurd z (by decide), hf⟩
      · exact ⟨3, nI 0, P, P', _, fr', lo', by decide, h3, h4, w_rename_x3 (neC s) g (xs (4 * T + 1)) (xs (4 * T + 2)) h1 h2 hMX, hMM, fun z => absurd z (by decide), hf⟩
  refine lv_aload_n hC.hx hC.hb d_L_law_1368 rfl (lv_at hl 1 rfl) ?_
  refine l_arg (pc := 1369) (T := T) (j := 1) hC h.hS (lv_at hl 0 rfl) (lv_at hl 4 rfl) (by decide) (by omega) hL9 d_L_law_1369 d_L_law_1370 d_L_law_1372 d_L_law_1373 d_L_law_1374 ?_
  refine l_arg (pc := 1375) (T := T) (j := 2) hC h.hS (lv_at hl 0 rfl) (lv_at hl 4 rfl) (by decide) (by omega) hL9 d_L_law_1375 d_L_law_1376 d_L_law_1378 d_L_law_1379 d_L_law_1380 ?_
  refine lv_aload_n (pc := 1381) hC.hx hC.hb d_L_law_1381 rfl (lv_at hl 3 rfl) ?_
  refine l_W (pc := 1382) hC h hMW k_696 k_697 k_0 k_698 4 rfl (by decide +kernel) (by decide) hcl hsl rfl hl.1 d_L_law_1382 (fun Mc' g' H locs hp hg h => ?_)
  refine lv_istore (pc := 1385) (lv' := (5, .int (nI k)) :: lvL b s T) hC.hx hC.hb d_L_law_1385 hl (by decide) rfl (fun ls hl => ?_)
  refine lv_aload_n (pc := 1387) hC.hx hC.hb d_L_law_1387 rfl (lv_at hl 3 rfl) ?_
  refine l_arg (pc := 1388) (T := T) (j := 1) hC h.hS (lv_at hl 1 rfl) (lv_at hl 5 rfl) (by decide) (by omega) hL9 d_L_law_1388 d_L_law_1389 d_L_law_1391 d_L_law_1392 d_L_law_1393 ?_
  refine l_arg (pc := 1394) (T := T) (j := 2) hC h.hS (lv_at hl 1 rfl) (lv_at hl 5 rfl) (by decide) (by omega) hL9 d_L_law_1394 d_L_law_1395 d_L_law_1397 d_L_law_1398 d_L_law_1399 ?_
  refine l_M (pc := 1400) (As := [.int (xs (4 * T + 1)), .int (xs (4 * T + 2))]) (rest := []) hC h hMM rfl h3 h4 (by decide) k_1026 k_1027 k_1028 k_9 k_1029 2 rfl (by decide +kernel) hcl hsl rfl hl.1 (Nat.zero_le 8) d_L_law_1400 (fun Mm' H locs hp' h => ?_)
  obtain ⟨hI', hth⟩ := hf _ _ hp hp'
  exact l_tail (pc := 1403) hC h hI' (by omega) hth (fun z => hgp z g' hg) hl hcl hsl d_L_law_1403 d_L_law_1405 d_L_law_1406 d_L_law_1409 d_L_law_1411 d_L_law_1416 d_L_law_1418 d_L_law_1421 d_L_law_1422 d_L_law_1423 d_L_law_1424 d_L_law_1426 d_L_law_1427 d_L_law_1428 d_L_law_1433 (by decide) kk

set_option maxHeartbeats 4000000 in
set_option maxRecDepth 100000 in
theorem lc_now {p : Program} {l : Launch} {e : Env} {R : Room} {s : State} {m : MethodId} {below : List Frame} {meth : Method} {c : Code} {H : Heap} {locs : List Loc} {cells slots : Nat} {Q : State → Prop} {ls : Array Slot} {D : va_G} {cI cC cZ cT cB cL : ClassId} {b L : Nat} {xs : Nat → Int32} {Mc Mm : PM} {g : Nat → Int64} (hC : LW l p R s m meth c D cI cC cZ cT cB cL b L xs) (hL9 : L ≤ 2048) {T : Nat} (hi : 4 * T + 4 ≤ L) (hI : Inv Mc Mm T) (h : LSt s D cI cC cZ cT cB cL Mc Mm g H locs) (hl : lv_has ls 7 (lvL b s T)) (hcl : cells + 1 ≤ R.cells) (hsl : slots + 6 ≤ R.slots) (kk : KL p l e R s m below meth c cells slots Q D cI cC cZ cT cB cL b T) : W p l e R s m #[Value.ref b] below meth c H locs cells slots Q (F0 m 1436 ls []) := by
  obtain ⟨k, v, P, P', gp, fr', lo', hk, h3, h4, hMW, hMM, hgp, hf⟩ : ∃ (k : Nat) (v : Int32) (P P' : PM → Prop) (gp : (Nat → Int64) → Prop) (fr' lo' : Nat), k < 4 ∧ fr' ≤ 8 ∧ lo' ≤ 200 ∧ MW l D cI cC cZ cT (aCs s) cL (oS s) y_L_now b_L_now 4 [(0, 9, 12, 30)] [.ref (aCs s 0), .int (xs (4 * T + 1)), .ref (oS s)] Mc g k P gp ∧ MM l D cI cB (aMs s) y_M_now b_M_now 4 (some .int) fr' lo' [.ref (aMs s 0), .int (xs (4 * T + 1))] Mm (fun r M' => r = some (.int v) ∧ P' M') ∧ (k = 0 → ∀ g' : Nat → Int64, gp g' → g' 0 = v.toInt64) ∧ ∀ M1 M2, P M1 → P' M2 → Inv M1 M2 (T + 1) ∧ M2 0 0 = nI k := by
    rcases op_now l D cI cC cZ cT cB (aCs s) (aMs s) (giC s) (giM s) hC.hlT Mc Mm T hI (by omega) (xs (4 * T + 1)) with ⟨fr, lo, fr', lo', v, P, P', h1, h2, h3, h4, hMC, hMM, hf⟩ | ⟨fr, lo, fr', lo', E, w, P, P', hw, h1, h2, h3, h4, hMX, hMM, hf⟩
    · exact ⟨0, v, P, P', _, fr', lo', by decide, h3, h4, w_now_r (neC s) g (xs (4 * T + 1)) h1 h2 hMC, hMM, fun _ g' hg => hg, hf⟩
    · simp only [List.mem_cons, List.not_mem_nil, or_false, Prod.mk.injEq] at hw
      obtain ⟨rfl, rfl⟩ := hw
      exact ⟨1, nI 0, P, P', _, fr', lo', by decide, h3, h4, w_now_x1 (neC s) g (xs (4 * T + 1)) h1 h2 hMX, hMM, fun z => absurd z (by decide), hf⟩
  refine lv_aload_n hC.hx hC.hb d_L_law_1436 rfl (lv_at hl 1 rfl) ?_
  refine l_arg (pc := 1437) (T := T) (j := 1) hC h.hS (lv_at hl 0 rfl) (lv_at hl 4 rfl) (by decide) (by omega) hL9 d_L_law_1437 d_L_law_1438 d_L_law_1440 d_L_law_1441 d_L_law_1442 ?_
  refine lv_aload_n (pc := 1443) hC.hx hC.hb d_L_law_1443 rfl (lv_at hl 3 rfl) ?_
  refine l_W (pc := 1444) hC h hMW k_733 k_734 k_0 k_735 3 rfl (by decide +kernel) (by decide) hcl hsl rfl hl.1 d_L_law_1444 (fun Mc' g' H locs hp hg h => ?_)
  refine lv_istore (pc := 1447) (lv' := (5, .int (nI k)) :: lvL b s T) hC.hx hC.hb d_L_law_1447 hl (by decide) rfl (fun ls hl => ?_)
  refine lv_aload_n (pc := 1449) hC.hx hC.hb d_L_law_1449 rfl (lv_at hl 3 rfl) ?_
  refine l_arg (pc := 1450) (T := T) (j := 1) hC h.hS (lv_at hl 1 rfl) (lv_at hl 5 rfl) (by decide) (by omega) hL9 d_L_law_1450 d_L_law_1451 d_L_law_1453 d_L_law_1454 d_L_law_1455 ?_
  refine l_M (pc := 1456) (As := [.int (xs (4 * T + 1))]) (rest := []) hC h hMM rfl h3 h4 (by decide) k_1034 k_1035 k_1036 k_9 k_1037 1 rfl (by decide +kernel) hcl hsl rfl hl.1 (Nat.zero_le 8) d_L_law_1456 (fun Mm' H locs hp' h => ?_)
  obtain ⟨hI', hth⟩ := hf _ _ hp hp'
  exact l_tail (pc := 1459) hC h hI' (by omega) hth (fun z => hgp z g' hg) hl hcl hsl d_L_law_1459 d_L_law_1461 d_L_law_1462 d_L_law_1465 d_L_law_1467 d_L_law_1472 d_L_law_1474 d_L_law_1477 d_L_law_1478 d_L_law_1479 d_L_law_1480 d_L_law_1482 d_L_law_1483 d_L_law_1484 d_L_law_1489 (by decide) kk

set_option maxHeartbeats 4000000 in
set_option maxRecDepth 100000 in
theorem lc_was {p : Program} {l : Launch} {e : Env} {R : Room} {s : State} {m : MethodId} {below : List Frame} {meth : Method} {c : Code} {H : Heap} {locs : List Loc} {cells slots : Nat} {Q : State → Prop} {ls : Array Slot} {D : va_G} {cI cC cZ cT cB cL : ClassId} {b L : Nat} {xs : Nat → Int32} {Mc Mm : PM} {g : Nat → Int64} (hC : LW l p R s m meth c D cI cC cZ cT cB cL b L xs) (hL9 : L ≤ 2048) {T : Nat} (hi : 4 * T + 4 ≤ L) (hI : Inv Mc Mm T) (h : LSt s D cI cC cZ cT cB cL Mc Mm g H locs) (hl : lv_has ls 7 (lvL b s T)) (hcl : cells + 1 ≤ R.cells) (hsl : slots + 6 ≤ R.slots) (kk : KL p l e R s m below meth c cells slots Q D cI cC cZ cT cB cL b T) : W p l e R s m #[Value.ref b] below meth c H locs cells slots Q (F0 m 1492 ls []) := by
  obtain ⟨k, v, P, P', gp, fr', lo', hk, h3, h4, hMW, hMM, hgp, hf⟩ : ∃ (k : Nat) (v : Int32) (P P' : PM → Prop) (gp : (Nat → Int64) → Prop) (fr' lo' : Nat), k < 4 ∧ fr' ≤ 8 ∧ lo' ≤ 200 ∧ MW l D cI cC cZ cT (aCs s) cL (oS s) y_L_was b_L_was 4 [(0, 9, 12, 30)] [.ref (aCs s 0), .int (xs (4 * T + 1)), .ref (oS s)] Mc g k P gp ∧ MM l D cI cB (aMs s) y_M_was b_M_was 4 (some .int) fr' lo' [.ref (aMs s 0), .int (xs (4 * T + 1))] Mm (fun r M' => r = some (.int v) ∧ P' M') ∧ (k = 0 → ∀ g' : Nat → Int64, gp g' → g' 0 = v.toInt64) ∧ ∀ M1 M2, P M1 → P' M2 → Inv M1 M2 (T + 1) ∧ M2 0 0 = nI k := by
    rcases op_was l D cI cC cZ cT cB (aCs s) (aMs s) (giC s) (giM s) hC.hlT Mc Mm T hI (by omega) (xs (4 * T + 1)) with ⟨fr, lo, fr', lo', v, P, P', h1, h2, h3, h4, hMC, hMM, hf⟩ | ⟨fr, lo, fr', lo', E, w, P, P', hw, h1, h2, h3, h4, hMX, hMM, hf⟩
    · exact ⟨0, v, P, P', _, fr', lo', by decide, h3, h4, w_was_r (neC s) g (xs (4 * T + 1)) h1 h2 hMC, hMM, fun _ g' hg => hg, hf⟩
    · simp only [List.mem_cons, List.not_mem_nil, or_false, Prod.mk.injEq] at hw
      obtain ⟨rfl, rfl⟩ := hw
      exact ⟨1, nI 0, P, P', _, fr', lo', by decide, h3, h4, w_was_x1 (neC s) g (xs (4 * T + 1)) h1 h2 hMX, hMM, fun z => absurd z (by decide), hf⟩
  refine lv_aload_n hC.hx hC.hb d_L_law_1492 rfl (lv_at hl 1 rfl) ?_
  refine l_arg (pc := 1493) (T := T) (j := 1) hC h.hS (lv_at hl 0 rfl) (lv_at hl 4 rfl) (by decide) (by omega) hL9 d_L_law_1493 d_L_law_1494 d_L_law_1496 d_L_law_1497 d_L_law_1498 ?_
  refine lv_aload_n (pc := 1499) hC.hx hC.hb d_L_law_1499 rfl (lv_at hl 3 rfl) ?_
  refine l_W (pc := 1500) hC h hMW k_744 k_745 k_0 k_746 3 rfl (by decide +kernel) (by decide) hcl hsl rfl hl.1 d_L_law_1500 (fun Mc' g' H locs hp hg h => ?_)
  refine lv_istore (pc := 1503) (lv' := (5, .int (nI k)) :: lvL b s T) hC.hx hC.hb d_L_law_1503 hl (by decide) rfl (fun ls hl => ?_)
  refine lv_aload_n (pc := 1505) hC.hx hC.hb d_L_law_1505 rfl (lv_at hl 3 rfl) ?_
  refine l_arg (pc := 1506) (T := T) (j := 1) hC h.hS (lv_at hl 1 rfl) (lv_at hl 5 rfl) (by decide) (by omega) hL9 d_L_law_1506 d_L_law_1507 d_L_law_1509 d_L_law_1510 d_L_law_1511 ?_
  refine l_M (pc := 1512) (As := [.int (xs (4 * T + 1))]) (rest := []) hC h hMM rfl h3 h4 (by decide) k_1038 k_1039 k_1040 k_9 k_1041 1 rfl (by decide +kernel) hcl hsl rfl hl.1 (Nat.zero_le 8) d_L_law_1512 (fun Mm' H locs hp' h => ?_)
  obtain ⟨hI', hth⟩ := hf _ _ hp hp'
  exact l_tail (pc := 1515) hC h hI' (by omega) hth (fun z => hgp z g' hg) hl hcl hsl d_L_law_1515 d_L_law_1517 d_L_law_1518 d_L_law_1521 d_L_law_1523 d_L_law_1528 d_L_law_1530 d_L_law_1533 d_L_law_1534 d_L_law_1535 d_L_law_1536 d_L_law_1538 d_L_law_1539 d_L_law_1540 d_L_law_1545 (by decide) kk

set_option maxHeartbeats 4000000 in
set_option maxRecDepth 100000 in
theorem lc_clash {p : Program} {l : Launch} {e : Env} {R : Room} {s : State} {m : MethodId} {below : List Frame} {meth : Method} {c : Code} {H : Heap} {locs : List Loc} {cells slots : Nat} {Q : State → Prop} {ls : Array Slot} {D : va_G} {cI cC cZ cT cB cL : ClassId} {b L : Nat} {xs : Nat → Int32} {Mc Mm : PM} {g : Nat → Int64} (hC : LW l p R s m meth c D cI cC cZ cT cB cL b L xs) (hL9 : L ≤ 2048) {T : Nat} (hi : 4 * T + 4 ≤ L) (hI : Inv Mc Mm T) (h : LSt s D cI cC cZ cT cB cL Mc Mm g H locs) (hl : lv_has ls 7 (lvL b s T)) (hcl : cells + 1 ≤ R.cells) (hsl : slots + 6 ≤ R.slots) (kk : KL p l e R s m below meth c cells slots Q D cI cC cZ cT cB cL b T) : W p l e R s m #[Value.ref b] below meth c H locs cells slots Q (F0 m 1548 ls []) := by
  obtain ⟨k, v, P, P', gp, fr', lo', hk, h3, h4, hMW, hMM, hgp, hf⟩ : ∃ (k : Nat) (v : Int32) (P P' : PM → Prop) (gp : (Nat → Int64) → Prop) (fr' lo' : Nat), k < 4 ∧ fr' ≤ 8 ∧ lo' ≤ 200 ∧ MW l D cI cC cZ cT (aCs s) cL (oS s) y_L_clash b_L_clash 4 [(0, 9, 12, 13)] [.ref (aCs s 0), .int (xs (4 * T + 1)), .ref (oS s)] Mc g k P gp ∧ MM l D cI cB (aMs s) y_M_clash b_M_clash 2 (some .int) fr' lo' [.ref (aMs s 0), .int (xs (4 * T + 1))] Mm (fun r M' => r = some (.int v) ∧ P' M') ∧ (k = 0 → ∀ g' : Nat → Int64, gp g' → g' 0 = v.toInt64) ∧ ∀ M1 M2, P M1 → P' M2 → Inv M1 M2 (T + 1) ∧ M2 0 0 = nI k := by
    rcases op_clash l D cI cC cZ cT cB (aCs s) (aMs s) (giC s) (giM s) hC.hlT Mc Mm T hI (by omega) (xs (4 * T + 1)) with ⟨fr, lo, fr', lo', v, P, P', h1, h2, h3, h4, hMC, hMM, hf⟩ | ⟨fr, lo, fr', lo', E, w, P, P', hw, h1, h2, h3, h4, hMX, hMM, hf⟩
    · exact ⟨0, v, P, P', _, fr', lo', by decide, h3, h4, w_clash_r (neC s) g (xs (4 * T + 1)) h1 h2 hMC, hMM, fun _ g' hg => hg, hf⟩
    · simp only [List.mem_cons, List.not_mem_nil, or_false, Prod.mk.injEq] at hw
      obtain ⟨rfl, rfl⟩ := hw
      exact ⟨1, nI 0, P, P', _, fr', lo', by decide, h3, h4, w_clash_x1 (neC s) g (xs (4 * T + 1)) h1 h2 hMX, hMM, fun z => absurd z (by decide), hf⟩
  refine lv_aload_n hC.hx hC.hb d_L_law_1548 rfl (lv_at hl 1 rfl) ?_
  refine l_arg (pc := 1549) (T := T) (j := 1) hC h.hS (lv_at hl 0 rfl) (lv_at hl 4 rfl) (by decide) (by omega) hL9 d_L_law_1549 d_L_law_1550 d_L_law_1552 d_L_law_1553 d_L_law_1554 ?_
  refine lv_aload_n (pc := 1555) hC.hx hC.hb d_L_law_1555 rfl (lv_at hl 3 rfl) ?_
  refine l_W (pc := 1556) hC h hMW k_755 k_756 k_0 k_757 3 rfl (by decide +kernel) (by decide) hcl hsl rfl hl.1 d_L_law_1556 (fun Mc' g' H locs hp hg h => ?_)
  refine lv_istore (pc := 1559) (lv' := (5, .int (nI k)) :: lvL b s T) hC.hx hC.hb d_L_law_1559 hl (by decide) rfl (fun ls hl => ?_)
  refine lv_aload_n (pc := 1561) hC.hx hC.hb d_L_law_1561 rfl (lv_at hl 3 rfl) ?_
  refine l_arg (pc := 1562) (T := T) (j := 1) hC h.hS (lv_at hl 1 rfl) (lv_at hl 5 rfl) (by decide) (by omega) hL9 d_L_law_1562 d_L_law_1563 d_L_law_1565 d_L_law_1566 d_L_law_1567 ?_
  refine l_M (pc := 1568) (As := [.int (xs (4 * T + 1))]) (rest := []) hC h hMM rfl h3 h4 (by decide) k_1042 k_1043 k_1044 k_9 k_1045 1 rfl (by decide +kernel) hcl hsl rfl hl.1 (Nat.zero_le 8) d_L_law_1568 (fun Mm' H locs hp' h => ?_)
  obtain ⟨hI', hth⟩ := hf _ _ hp hp'
  exact l_tail (pc := 1571) hC h hI' (by omega) hth (fun z => hgp z g' hg) hl hcl hsl d_L_law_1571 d_L_law_1573 d_L_law_1574 d_L_law_1577 d_L_law_1579 d_L_law_1584 d_L_law_1586 d_L_law_1589 d_L_law_1590 d_L_law_1591 d_L_law_1592 d_L_law_1594 d_L_law_1595 d_L_law_1596 d_L_law_1601 (by decide) kk

set_option maxHeartbeats 4000000 in
set_option maxRecDepth 100000 in
theorem lc_count {p : Program} {l : Launch} {e : Env} {R : Room} {s : State} {m : MethodId} {below : List Frame} {meth : Method} {c : Code} {H : Heap} {locs : List Loc} {cells slots : Nat} {Q : State → Prop} {ls : Array Slot} {D : va_G} {cI cC cZ cT cB cL : ClassId} {b L : Nat} {xs : Nat → Int32} {Mc Mm : PM} {g : Nat → Int64} (hC : LW l p R s m meth c D cI cC cZ cT cB cL b L xs) (hL9 : L ≤ 2048) {T : Nat} (hi : 4 * T + 4 ≤ L) (hI : Inv Mc Mm T) (h : LSt s D cI cC cZ cT cB cL Mc Mm g H locs) (hl : lv_has ls 7 (lvL b s T)) (hcl : cells + 1 ≤ R.cells) (hsl : slots + 6 ≤ R.slots) (kk : KL p l e R s m below meth c cells slots Q D cI cC cZ cT cB cL b T) : W p l e R s m #[Value.ref b] below meth c H locs cells slots Q (F0 m 1604 ls []) := by
  obtain ⟨k, v, P, P', gp, fr', lo', hk, h3, h4, hMW, hMM, hgp, hf⟩ : ∃ (k : Nat) (v : Int32) (P P' : PM → Prop) (gp : (Nat → Int64) → Prop) (fr' lo' : Nat), k < 4 ∧ fr' ≤ 8 ∧ lo' ≤ 200 ∧ MW l D cI cC cZ cT (aCs s) cL (oS s) y_L_count b_L_count 4 [(0, 9, 12, 13)] [.ref (aCs s 0), .int (xs (4 * T + 1)), .ref (oS s)] Mc g k P gp ∧ MM l D cI cB (aMs s) y_M_count b_M_count 4 (some .int) fr' lo' [.ref (aMs s 0), .int (xs (4 * T + 1))] Mm (fun r M' => r = some (.int v) ∧ P' M') ∧ (k = 0 → ∀ g' : Nat → Int64, gp g' → g' 0 = v.toInt64) ∧ ∀ M1 M2, P M1 → P' M2 → Inv M1 M2 (T + 1) ∧ M2 0 0 = nI k := by
    rcases op_count l D cI cC cZ cT cB (aCs s) (aMs s) (giC s) (giM s) hC.hlT Mc Mm T hI (by omega) (xs (4 * T + 1)) with ⟨fr, lo, fr', lo', v, P, P', h1, h2, h3, h4, hMC, hMM, hf⟩ | ⟨fr, lo, fr', lo', E, w, P, P', hw, h1, h2, h3, h4, hMX, hMM, hf⟩
    · exact ⟨0, v, P, P', _, fr', lo', by decide, h3, h4, w_count_r (neC s) g (xs (4 * T + 1)) h1 h2 hMC, hMM, fun _ g' hg => hg, hf⟩
    · simp only [List.mem_cons, List.not_mem_nil, or_false, Prod.mk.injEq] at hw
      obtain ⟨rfl, rfl⟩ := hw
      exact ⟨1, nI 0, P, P', _, fr', lo', by decide, h3, h4, w_count_x1 (neC s) g (xs (4 * T + 1)) h1 h2 hMX, hMM, fun z => absurd z (by decide), hf⟩
  refine lv_aload_n hC.hx hC.hb d_L_law_1604 rfl (lv_at hl 1 rfl) ?_
  refine l_arg (pc := 1605) (T := T) (j := 1) hC h.hS (lv_at hl 0 rfl) (lv_at hl 4 rfl) (by decide) (by omega) hL9 d_L_law_1605 d_L_law_1606 d_L_law_1608 d_L_law_1609 d_L_law_1610 ?_
  refine lv_aload_n (pc := 1611) hC.hx hC.hb d_L_law_1611 rfl (lv_at hl 3 rfl) ?_
  refine l_W (pc := 1612) hC h hMW k_763 k_764 k_0 k_765 3 rfl (by decide +kernel) (by decide) hcl hsl rfl hl.1 d_L_law_1612 (fun Mc' g' H locs hp hg h => ?_)
  refine lv_istore (pc := 1615) (lv' := (5, .int (nI k)) :: lvL b s T) hC.hx hC.hb d_L_law_1615 hl (by decide) rfl (fun ls hl => ?_)
  refine lv_aload_n (pc := 1617) hC.hx hC.hb d_L_law_1617 rfl (lv_at hl 3 rfl) ?_
  refine l_arg (pc := 1618) (T := T) (j := 1) hC h.hS (lv_at hl 1 rfl) (lv_at hl 5 rfl) (by decide) (by omega) hL9 d_L_law_1618 d_L_law_1619 d_L_law_1621 d_L_law_1622 d_L_law_1623 ?_
  refine l_M (pc := 1624) (As := [.int (xs (4 * T + 1))]) (rest := []) hC h hMM rfl h3 h4 (by decide) k_1046 k_1047 k_1048 k_9 k_1049 1 rfl (by decide +kernel) hcl hsl rfl hl.1 (Nat.zero_le 8) d_L_law_1624 (fun Mm' H locs hp' h => ?_)
  obtain ⟨hI', hth⟩ := hf _ _ hp hp'
  exact l_tail (pc := 1627) hC h hI' (by omega) hth (fun z => hgp z g' hg) hl hcl hsl d_L_law_1627 d_L_law_1629 d_L_law_1630 d_L_law_1633 d_L_law_1635 d_L_law_1640 d_L_law_1642 d_L_law_1645 d_L_law_1646 d_L_law_1647 d_L_law_1648 d_L_law_1650 d_L_law_1651 d_L_law_1652 d_L_law_1657 (by decide) kk
