set_option maxHeartbeats 4000000 in
set_option maxRecDepth 100000 in
theorem lc_type {p : Program} {l : Launch} {e : Env} {R : Room} {s : State} {m : MethodId} {below : List Frame} {meth : Method} {c : Code} {H : Heap} {locs : List Loc} {cells slots : Nat} {Q : State → Prop} {ls : Array Slot} {D : va_G} {cI cC cZ cT cB cL : ClassId} {b L : Nat} {xs : Nat → Int32} {Mc Mm : PM} {g : Nat → Int64} (hC : LW l p R s m meth c D cI cC cZ cT cB cL b L xs) (hL9 : L ≤ 2048) {T : Nat} (hi : 4 * T + 4 ≤ L) (hI : Inv Mc Mm T) (h : LSt s D cI cC cZ cT cB cL Mc Mm g H locs) (hl : lv_has ls 7 (lvL b s T)) (hcl : cells + 1 ≤ R.cells) (hsl : slots + 6 ≤ R.slots) (kk : KL p l e R s m below meth c cells slots Q D cI cC cZ cT cB cL b T) : W p l e R s m #[Value.ref b] below meth c H locs cells slots Q (F0 m 156 ls []) := by
  obtain ⟨k, v, P, P', gp, fr', lo', hk, h3, h4, hMW, hMM, hgp, hf⟩ : ∃ (k : Nat) (v : Int32) (P P' : PM → Prop) (gp : (Nat → Int64) → Prop) (fr' lo' : Nat), k < 4 ∧ fr' ≤ 8 ∧ lo' ≤ 200 ∧ MW l D cI cC cZ cT (aCs s) cL (oS s) y_L_type b_L_type 4 [(0, 9, 12, 13), (0, 9, 15, 15)] [.ref (aCs s 0), .int (xs (4 * T + 1)), .ref (oS s)] Mc g k P gp ∧ MM l D cI cB (aMs s) y_M_type b_M_type 2 (some .int) fr' lo' [.ref (aMs s 0), .int (xs (4 * T + 1))] Mm (fun r M' => r = some (.int v) ∧ P' M') ∧ (k = 0 → ∀ g' : Nat → Int64, gp g' → g' 0 = v.toInt64) ∧ ∀ M1 M2, P M1 → P' M2 → Inv M1 M2 (T + 1) ∧ M2 0 0 = nI k := by
    rcases op_type l D cI cC cZ cT cB (aCs s) (aMs s) (giC s) (giM s) hC.hlT Mc Mm T hI (by omega) (xs (4 * T + 1)) with ⟨fr, lo, fr', lo', v, P, P', h1, h2, h3, h4, hMC, hMM, hf⟩ | ⟨fr, lo, fr', lo', E, w, P, P', hw, h1, h2, h3, h4, hMX, hMM, hf⟩
    · exact ⟨0, v, P, P', _, fr', lo', by decide, h3, h4, w_type_r (neC s) g (xs (4 * T + 1)) h1 h2 hMC, hMM, fun _ g' hg => hg, hf⟩
    · simp only [List.mem_cons, List.not_mem_nil, or_false, Prod.mk.injEq] at hw
      rcases hw with ⟨rfl, rfl⟩ | ⟨rfl, rfl⟩
      · exact ⟨1, nI 0, P, P', _, fr', lo', by decide, h3, h4, w_type_x1 (neC s) g (xs (4 * T + 1)) h1 h2 hMX, hMM, fun z => absurd z (by decide), hf⟩
      · exact ⟨2, nI 0, P, P', _, fr', lo', by decide, h3, h4, w_type_x2 (neC s) g (xs (4 * T + 1)) h1 h2 hMX, hMM, fun z => absurd z (by decide), hf⟩
  refine lv_aload_n hC.hx hC.hb d_L_law_156 rfl (lv_at hl 1 rfl) ?_
  refine l_arg (pc := 157) (T := T) (j := 1) hC h.hS (lv_at hl 0 rfl) (lv_at hl 4 rfl) (by decide) (by omega) hL9 d_L_law_157 d_L_law_158 d_L_law_160 d_L_law_161 d_L_law_162 ?_
  refine lv_aload_n (pc := 163) hC.hx hC.hb d_L_law_163 rfl (lv_at hl 3 rfl) ?_
  refine l_W (pc := 164) hC h hMW k_195 k_196 k_0 k_197 3 rfl (by decide +kernel) (by decide) hcl hsl rfl hl.1 d_L_law_164 (fun Mc' g' H locs hp hg h => ?_)
  refine lv_istore (pc := 167) (lv' := (5, .int (nI k)) :: lvL b s T) hC.hx hC.hb d_L_law_167 hl (by decide) rfl (fun ls hl => ?_)
  refine lv_aload_n (pc := 169) hC.hx hC.hb d_L_law_169 rfl (lv_at hl 3 rfl) ?_
  refine l_arg (pc := 170) (T := T) (j := 1) hC h.hS (lv_at hl 1 rfl) (lv_at hl 5 rfl) (by decide) (by omega) hL9 d_L_law_170 d_L_law_171 d_L_law_173 d_L_law_174 d_L_law_175 ?_
  refine l_M (pc := 176) (As := [.int (xs (4 * T + 1))]) (rest := []) hC h hMM rfl h3 h4 (by decide) k_855 k_856 k_857 k_9 k_858 1 rfl (by decide +kernel) hcl hsl rfl hl.1 (Nat.zero_le 8) d_L_law_176 (fun Mm' H locs hp' h => ?_)
  obtain ⟨hI', hth⟩ := hf _ _ hp hp'
  exact l_tail (pc := 179) hC h hI' (by omega) hth (fun z => hgp z g' hg) hl hcl hsl d_L_law_179 d_L_law_181 d_L_law_182 d_L_law_185 d_L_law_187 d_L_law_192 d_L_law_194 d_L_law_197 d_L_law_198 d_L_law_199 d_L_law_200 d_L_law_202 d_L_law_203 d_L_law_204 d_L_law_209 (by decide) kk

set_option maxHeartbeats 4000000 in
set_option maxRecDepth 100000 in
theorem lc_clear {p : Program} {l : Launch} {e : Env} {R : Room} {s : State} {m : MethodId} {below : List Frame} {meth : Method} {c : Code} {H : Heap} {locs : List Loc} {cells slots : Nat} {Q : State → Prop} {ls : Array Slot} {D : va_G} {cI cC cZ cT cB cL : ClassId} {b L : Nat} {xs : Nat → Int32} {Mc Mm : PM} {g : Nat → Int64} (hC : LW l p R s m meth c D cI cC cZ cT cB cL b L xs) (hL9 : L ≤ 2048) {T : Nat} (hi : 4 * T + 4 ≤ L) (hI : Inv Mc Mm T) (h : LSt s D cI cC cZ cT cB cL Mc Mm g H locs) (hl : lv_has ls 7 (lvL b s T)) (hcl : cells + 1 ≤ R.cells) (hsl : slots + 6 ≤ R.slots) (kk : KL p l e R s m below meth c cells slots Q D cI cC cZ cT cB cL b T) : W p l e R s m #[Value.ref b] below meth c H locs cells slots Q (F0 m 212 ls []) := by
  rcases op_clear l D cI cC cZ cT cB (aCs s) (aMs s) (giC s) (giM s) hC.hlT Mc Mm T hI (by omega) with ⟨fr, lo, fr', lo', v, P, P', h1, h2, h3, h4, hMC, hMM, hf⟩ | ⟨_, _, _, _, _, _, _, _, hw, _⟩
  rotate_left
  · exact absurd hw List.not_mem_nil
  refine lv_aload_n hC.hx hC.hb d_L_law_212 rfl (lv_at hl 1 rfl) ?_
  refine l_C (pc := 213) (As := []) (rest := []) hC h hMC rfl h1 h2 (by decide) k_175 k_176 k_177 k_1 k_178 0 rfl (by decide +kernel) (by omega) (by omega) rfl hl.1 (Nat.zero_le 8) d_L_law_213 (fun Mc' H locs hp h => ?_)
  refine lv_aload_n (pc := 216) hC.hx hC.hb d_L_law_216 rfl (lv_at hl 2 rfl) ?_
  refine l_M (pc := 217) (As := []) (rest := [.int v]) hC h hMM rfl h3 h4 (by decide) k_863 k_864 k_865 k_9 k_866 0 rfl (by decide +kernel) (by omega) (by omega) rfl hl.1 (Nat.le_of_ble_eq_true rfl) d_L_law_217 (fun Mm' H locs hp' h => ?_)
  refine lv_icmp_eq (pc := 220) (tgt := 1660) hC.hx hC.hb d_L_law_220 (by decide) (fun _ => ?_) (fun z => absurd rfl z)
  exact W.widen (Nat.le_succ _) (Nat.le_add_right _ _) (kk Mc' Mm' g H locs ls (hf _ _ hp hp').1 h hl)

set_option maxHeartbeats 4000000 in
set_option maxRecDepth 100000 in
theorem lc_name {p : Program} {l : Launch} {e : Env} {R : Room} {s : State} {m : MethodId} {below : List Frame} {meth : Method} {c : Code} {H : Heap} {locs : List Loc} {cells slots : Nat} {Q : State → Prop} {ls : Array Slot} {D : va_G} {cI cC cZ cT cB cL : ClassId} {b L : Nat} {xs : Nat → Int32} {Mc Mm : PM} {g : Nat → Int64} (hC : LW l p R s m meth c D cI cC cZ cT cB cL b L xs) (hL9 : L ≤ 2048) {T : Nat} (hi : 4 * T + 4 ≤ L) (hI : Inv Mc Mm T) (h : LSt s D cI cC cZ cT cB cL Mc Mm g H locs) (hl : lv_has ls 7 (lvL b s T)) (hcl : cells + 1 ≤ R.cells) (hsl : slots + 6 ≤ R.slots) (kk : KL p l e R s m below meth c cells slots Q D cI cC cZ cT cB cL b T) : W p l e R s m #[Value.ref b] below meth c H locs cells slots Q (F0 m 225 ls []) := by
  obtain ⟨k, v, P, P', gp, fr', lo', hk, h3, h4, hMW, hMM, hgp, hf⟩ : ∃ (k : Nat) (v : Int32) (P P' : PM → Prop) (gp : (Nat → Int64) → Prop) (fr' lo' : Nat), k < 4 ∧ fr' ≤ 8 ∧ lo' ≤ 200 ∧ MW l D cI cC cZ cT (aCs s) cL (oS s) y_L_name b_L_name 3 [(0, 8, 11, 21), (0, 8, 14, 15)] [.ref (aCs s 0), .ref (oS s)] Mc g k P gp ∧ MM l D cI cB (aMs s) y_M_name b_M_name 2 (some .int) fr' lo' [.ref (aMs s 0)] Mm (fun r M' => r = some (.int v) ∧ P' M') ∧ (k = 0 → ∀ g' : Nat → Int64, gp g' → g' 0 = v.toInt64) ∧ ∀ M1 M2, P M1 → P' M2 → Inv M1 M2 (T + 1) ∧ M2 0 0 = nI k := by
    rcases op_name l D cI cC cZ cT cB (aCs s) (aMs s) (giC s) (giM s) hC.hlT Mc Mm T hI (by omega) with ⟨fr, lo, fr', lo', v, P, P', h1, h2, h3, h4, hMC, hMM, hf⟩ | ⟨fr, lo, fr', lo', E, w, P, P', hw, h1, h2, h3, h4, hMX, hMM, hf⟩
    · exact ⟨0, v, P, P', _, fr', lo', by decide, h3, h4, w_name_r (neC s) g h1 h2 hMC, hMM, fun _ g' hg => hg, hf⟩
    · simp only [List.mem_cons, List.not_mem_nil, or_false, Prod.mk.injEq] at hw
      rcases hw with ⟨rfl, rfl⟩ | ⟨rfl, rfl⟩
      · exact ⟨1, nI 0, P, P', _, fr', lo', by decide, h3, h4, w_name_x1 (neC s) g h1 h2 hMX, hMM, fun z => absurd z (by decide), hf⟩
      · exact ⟨2, nI 0, P, P', _, fr', lo', by decide, h3, h4, w_name_x2 (neC s) g h1 h2 hMX, hMM, fun z => absurd z (by decide), hf⟩
  refine lv_aload_n hC.hx hC.hb d_L_law_225 rfl (lv_at hl 1 rfl) ?_
  refine lv_aload_n (pc := 226) hC.hx hC.hb d_L_law_226 rfl (lv_at hl 3 rfl) ?_
  refine l_W (pc := 227) hC h hMW k_297 k_298 k_0 k_299 2 rfl (by decide +kernel) (by decide) hcl hsl rfl hl.1 d_L_law_227 (fun Mc' g' H locs hp hg h => ?_)
  refine lv_istore (pc := 230) (lv' := (5, .int (nI k)) :: lvL b s T) hC.hx hC.hb d_L_law_230 hl (by decide) rfl (fun ls hl => ?_)
  refine lv_aload_n (pc := 232) hC.hx hC.hb d_L_law_232 rfl (lv_at hl 3 rfl) ?_
  refine l_M (pc := 233) (As := []) (rest := []) hC h hMM rfl h3 h4 (by decide) k_867 k_868 k_869 k_9 k_870 0 rfl (by decide +kernel) hcl hsl rfl hl.1 (Nat.zero_le 8) d_L_law_233 (fun Mm' H locs hp' h => ?_)
  obtain ⟨hI', hth⟩ := hf _ _ hp hp'
  exact l_tail (pc := 236) hC h hI' (by omega) hth (fun z => hgp z g' hg) hl hcl hsl d_L_law_236 d_L_law_238 d_L_law_239 d_L_law_242 d_L_law_244 d_L_law_249 d_L_law_251 d_L_law_254 d_L_law_255 d_L_law_256 d_L_law_257 d_L_law_259 d_L_law_260 d_L_law_261 d_L_law_266 (by decide) kk

set_option maxHeartbeats 4000000 in
set_option maxRecDepth 100000 in
theorem lc_expand {p : Program} {l : Launch} {e : Env} {R : Room} {s : State} {m : MethodId} {below : List Frame} {meth : Method} {c : Code} {H : Heap} {locs : List Loc} {cells slots : Nat} {Q : State → Prop} {ls : Array Slot} {D : va_G} {cI cC cZ cT cB cL : ClassId} {b L : Nat} {xs : Nat → Int32} {Mc Mm : PM} {g : Nat → Int64} (hC : LW l p R s m meth c D cI cC cZ cT cB cL b L xs) (hL9 : L ≤ 2048) {T : Nat} (hi : 4 * T + 4 ≤ L) (hI : Inv Mc Mm T) (h : LSt s D cI cC cZ cT cB cL Mc Mm g H locs) (hl : lv_has ls 7 (lvL b s T)) (hcl : cells + 1 ≤ R.cells) (hsl : slots + 6 ≤ R.slots) (kk : KL p l e R s m below meth c cells slots Q D cI cC cZ cT cB cL b T) : W p l e R s m #[Value.ref b] below meth c H locs cells slots Q (F0 m 269 ls []) := by
  obtain ⟨k, v, P, P', gp, fr', lo', hk, h3, h4, hMW, hMM, hgp, hf⟩ : ∃ (k : Nat) (v : Int32) (P P' : PM → Prop) (gp : (Nat → Int64) → Prop) (fr' lo' : Nat), k < 4 ∧ fr' ≤ 8 ∧ lo' ≤ 200 ∧ MW l D cI cC cZ cT (aCs s) cL (oS s) y_L_expand b_L_expand 3 [(0, 8, 11, 21), (0, 8, 14, 13), (0, 8, 17, 15)] [.ref (aCs s 0), .ref (oS s)] Mc g k P gp ∧ MM l D cI cB (aMs s) y_M_expand b_M_expand 1 (some .int) fr' lo' [.ref (aMs s 0)] Mm (fun r M' => r = some (.int v) ∧ P' M') ∧ (k = 0 → ∀ g' : Nat → Int64, gp g' → g' 0 = v.toInt64) ∧ ∀ M1 M2, P M1 → P' M2 → Inv M1 M2 (T + 1) ∧ M2 0 0 = nI k := by
    rcases op_expand l D cI cC cZ cT cB (aCs s) (aMs s) (giC s) (giM s) hC.hlT Mc Mm T hI (by omega) with ⟨fr, lo, fr', lo', v, P, P', h1, h2, h3, h4, hMC, hMM, hf⟩ | ⟨fr, lo, fr', lo', E, w, P, P', hw, h1, h2, h3, h4, hMX, hMM, hf⟩
    · exact ⟨0, v, P, P', _, fr', lo', by decide, h3, h4, w_expand_r (neC s) g h1 h2 hMC, hMM, fun _ g' hg => hg, hf⟩
    · simp only [List.mem_cons, List.not_mem_nil, or_false, Prod.mk.injEq] at hw
      rcases hw with ⟨rfl, rfl⟩ | ⟨rfl, rfl⟩ | ⟨rfl, rfl⟩
      · exact ⟨1, nI 0, P, P', _, fr', lo', by decide, h3, h4, w_expand_x1 (neC s) g h1 h2 hMX, hMM, fun z => absurd z (by decide), hf⟩
      · exact ⟨2, nI 0, P, P', _, fr', lo', by decide, h3, h4, w_expand_x2 (neC s) g h1 h2 hMX, hMM, fun z => absurd z (by decide), hf⟩
      · exact ⟨3, nI 0, P, P', _, fr', lo', by decide, h3, h4, w_expand_x3 (neC s) g h1 h2 hMX, hMM, fun z => absurd z (by decide), hf⟩
  refine lv_aload_n hC.hx hC.hb d_L_law_269 rfl (lv_at hl 1 rfl) ?_
  refine lv_aload_n (pc := 270) hC.hx hC.hb d_L_law_270 rfl (lv_at hl 3 rfl) ?_
  refine l_W (pc := 271) hC h hMW k_363 k_364 k_0 k_365 2 rfl (by decide +kernel) (by decide) hcl hsl rfl hl.1 d_L_law_271 (fun Mc' g' H locs hp hg h => ?_)
  refine lv_istore (pc := 274) (lv' := (5, .int (nI k)) :: lvL b s T) hC.hx hC.hb d_L_law_274 hl (by decide) rfl (fun ls hl => ?_)
  refine lv_aload_n (pc := 276) hC.hx hC.hb d_L_law_276 rfl (lv_at hl 3 rfl) ?_
  refine l_M (pc := 277) (As := []) (rest := []) hC h hMM rfl h3 h4 (by decide) k_895 k_896 k_897 k_9 k_898 0 rfl (by decide +kernel) hcl hsl rfl hl.1 (Nat.zero_le 8) d_L_law_277 (fun Mm' H locs hp' h => ?_)
  obtain ⟨hI', hth⟩ := hf _ _ hp hp'
  exact l_tail (pc := 280) hC h hI' (by omega) hth (fun z => hgp z g' hg) hl hcl hsl d_L_law_280 d_L_law_282 d_L_law_283 d_L_law_286 d_L_law_288 d_L_law_293 d_L_law_295 d_L_law_298 d_L_law_299 d_L_law_300 d_L_law_301 d_L_law_303 d_L_law_304 d_L_law_305 d_L_law_310 (by decide) kk

set_option maxHeartbeats 4000000 in
set_option maxRecDepth 100000 in
theorem lc_prefix {p : Program} {l : Launch} {e : Env} {R : Room} {s : State} {m : MethodId} {below : List Frame} {meth : Method} {c : Code} {H : Heap} {locs : List Loc} {cells slots : Nat} {Q : State → Prop} {ls : Array Slot} {D : va_G} {cI cC cZ cT cB cL : ClassId} {b L : Nat} {xs : Nat → Int32} {Mc Mm : PM} {g : Nat → Int64} (hC : LW l p R s m meth c D cI cC cZ cT cB cL b L xs) (hL9 : L ≤ 2048) {T : Nat} (hi : 4 * T + 4 ≤ L) (hI : Inv Mc Mm T) (h : LSt s D cI cC cZ cT cB cL Mc Mm g H locs) (hl : lv_has ls 7 (lvL b s T)) (hcl : cells + 1 ≤ R.cells) (hsl : slots + 6 ≤ R.slots) (kk : KL p l e R s m below meth c cells slots Q D cI cC cZ cT cB cL b T) : W p l e R s m #[Value.ref b] below meth c H locs cells slots Q (F0 m 313 ls []) := by
  obtain ⟨k, v, P, P', gp, fr', lo', hk, h3, h4, hMW, hMM, hgp, hf⟩ : ∃ (k : Nat) (v : Int32) (P P' : PM → Prop) (gp : (Nat → Int64) → Prop) (fr' lo' : Nat), k < 4 ∧ fr' ≤ 8 ∧ lo' ≤ 200 ∧ MW l D cI cC cZ cT (aCs s) cL (oS s) y_L_prefix b_L_prefix 5 [(0, 17, 20, 30), (0, 17, 24, 13)] [.ref (aCs s 0), .int (xs (4 * T + 1)), .int (xs (4 * T + 2)), .ref (oS s)] Mc g k P gp ∧ MM l D cI cB (aMs s) y_M_prefix b_M_prefix 3 (some .boolean) fr' lo' [.ref (aMs s 0), .int (xs (4 * T + 1)), .int (xs (4 * T + 2))] Mm (fun r M' => r = some (.int v) ∧ P' M') ∧ (k = 0 → ∀ g' : Nat → Int64, gp g' → g' 0 = if v = 0 then 0 else 1) ∧ ∀ M1 M2, P M1 → P' M2 → Inv M1 M2 (T + 1) ∧ M2 0 0 = nI k := by
    rcases op_prefix l D cI cC cZ cT cB (aCs s) (aMs s) (giC s) (giM s) hC.hlT Mc Mm T hI (by omega) (xs (4 * T + 1)) (xs (4 * T + 2)) with ⟨fr, lo, fr', lo', v, P, P', h1, h2, h3, h4, hMC, hMM, hf⟩ | ⟨fr, lo, fr', lo', E, w, P, P', hw, h1, h2, h3, h4, hMX, hMM, hf⟩
    · exact ⟨0, v, P, P', _, fr', lo', by decide, h3, h4, w_prefix_r (neC s) g (xs (4 * T + 1)) (xs (4 * T + 2)) h1 h2 hMC, hMM, fun _ g' hg => hg, hf⟩
    · simp only [List.mem_cons, List.not_mem_nil, or_false, Prod.mk.injEq] at hw
      rcases hw with ⟨rfl, rfl⟩ | ⟨rfl, rfl⟩
      · exact ⟨1, nI 0, P, P', _, fr', lo', by decide, h3, h4, w_prefix_x1 (neC s) g (xs (4 * T + 1)) (xs (4 * T + 2)) h1 h2 hMX, hMM, fun z => absurd z (by decide), hf⟩
      · exact ⟨2, nI 0, P, P', _, fr', lo', by decide, h3, h4, w_prefix_x2 (neC s) g (xs (4 * T + 1)) (xs (4 * T + 2)) h1 h2 hMX, hMM, fun z => absurd z (by decide), hf⟩
  refine lv_aload_n hC.hx hC.hb d_L_law_313 rfl (lv_at hl 1 rfl) ?_
  refine l_arg (pc := 314) (T := T) (j := 1) hC h.hS (lv_at hl 0 rfl) (lv_at hl 4 rfl) (by decide) (by omega) hL9 d_L_law_314 d_L_law_315 d_L_law_317 d_L_law_318 d_L_law_319 ?_
  refine l_arg (pc := 320) (T := T) (j := 2) hC h.hS (lv_at hl 0 rfl) (lv_at hl 4 rfl) (by decide) (by omega) hL9 d_L_law_320 d_L_law_321 d_L_law_323 d_L_law_324 d_L_law_325 ?_
  refine lv_aload_n (pc := 326) hC.hx hC.hb d_L_law_326 rfl (lv_at hl 3 rfl) ?_
  refine l_W (pc := 327) hC h hMW k_393 k_394 k_0 k_395 4 rfl (by decide +kernel) (by decide) hcl hsl rfl hl.1 d_L_law_327 (fun Mc' g' H locs hp hg h => ?_)
  refine lv_istore (pc := 330) (lv' := (5, .int (nI k)) :: lvL b s T) hC.hx hC.hb d_L_law_330 hl (by decide) rfl (fun ls hl => ?_)
  refine lv_aload_n (pc := 332) hC.hx hC.hb d_L_law_332 rfl (lv_at hl 3 rfl) ?_
  refine l_arg (pc := 333) (T := T) (j := 1) hC h.hS (lv_at hl 1 rfl) (lv_at hl 5 rfl) (by decide) (by omega) hL9 d_L_law_333 d_L_law_334 d_L_law_336 d_L_law_337 d_L_law_338 ?_
  refine l_arg (pc := 339) (T := T) (j := 2) hC h.hS (lv_at hl 1 rfl) (lv_at hl 5 rfl) (by decide) (by omega) hL9 d_L_law_339 d_L_law_340 d_L_law_342 d_L_law_343 d_L_law_344 ?_
  refine l_M (pc := 345) (As := [.int (xs (4 * T + 1)), .int (xs (4 * T + 2))]) (rest := []) hC h hMM rfl h3 h4 (by decide) k_903 k_904 k_905 k_9 k_906 2 rfl (by decide +kernel) hcl hsl rfl hl.1 (Nat.zero_le 8) d_L_law_345 (fun Mm' H locs hp' h => ?_)
  obtain ⟨hI', hth⟩ := hf _ _ hp hp'
  exact l_tailz (pc := 348) hC h hI' (by omega) hth (fun z => hgp z g' hg) hl hcl hsl d_L_law_348 d_L_law_350 d_L_law_351 d_L_law_354 d_L_law_356 d_L_law_361 d_L_law_363 d_L_law_366 d_L_law_367 d_L_law_368 d_L_law_369 d_L_law_371 d_L_law_374 d_L_law_375 d_L_law_378 d_L_law_379 d_L_law_380 d_L_law_385 (by decide) kk

set_option maxHeartbeats 4000000 in
set_option maxRecDepth 100000 in
theorem lc_space {p : Program} {l : Launch} {e : Env} {R : Room} {s : State} {m : MethodId} {below : List Frame} {meth : Method} {c : Code} {H : Heap} {locs : List Loc} {cells slots : Nat} {Q : State → Prop} {ls : Array Slot} {D : va_G} {cI cC cZ cT cB cL : ClassId} {b L : Nat} {xs : Nat → Int32} {Mc Mm : PM} {g : Nat → Int64} (hC : LW l p R s m meth c D cI cC cZ cT cB cL b L xs) (hL9 : L ≤ 2048) {T : Nat} (hi : 4 * T + 4 ≤ L) (hI : Inv Mc Mm T) (h : LSt s D cI cC cZ cT cB cL Mc Mm g H locs) (hl : lv_has ls 7 (lvL b s T)) (hcl : cells + 1 ≤ R.cells) (hsl : slots + 6 ≤ R.slots) (kk : KL p l e R s m below meth c cells slots Q D cI cC cZ cT cB cL b T) : W p l e R s m #[Value.ref b] below meth c H locs cells slots Q (F0 m 388 ls []) := by
  obtain ⟨k, v, P, P', gp, fr', lo', hk, h3, h4, hMW, hMM, hgp, hf⟩ : ∃ (k : Nat) (v : Int32) (P P' : PM → Prop) (gp : (Nat → Int64) → Prop) (fr' lo' : Nat), k < 4 ∧ fr' ≤ 8 ∧ lo' ≤ 200 ∧ MW l D cI cC cZ cT (aCs s) cL (oS s) y_L_space b_L_space 4 [(0, 9, 12, 30)] [.ref (aCs s 0), .int (xs (4 * T + 1)), .ref (oS s)] Mc g k P gp ∧ MM l D cI cB (aMs s) y_M_space b_M_space 2 (some .int) fr' lo' [.ref (aMs s 0), .int (xs (4 * T + 1))] Mm (fun r M' => r = some (.int v) ∧ P' M') ∧ (k = 0 → ∀ g' : Nat → Int64, gp g' → g' 0 = v.toInt64) ∧ ∀ M1 M2, P M1 → P' M2 → Inv M1 M2 (T + 1) ∧ M2 0 0 = nI k := by
    rcases op_space l D cI cC cZ cT cB (aCs s) (aMs s) (giC s) (giM s) hC.hlT Mc Mm T hI (by omega) (xs (4 * T + 1)) with ⟨fr, lo, fr', lo', v, P, P', h1, h2, h3, h4, hMC, hMM, hf⟩ | ⟨fr, lo, fr', lo', E, w, P, P', hw, h1, h2, h3, h4, hMX, hMM, hf⟩
    · exact ⟨0, v, P, P', _, fr', lo', by decide, h3, h4, w_space_r (neC s) g (xs (4 * T + 1)) h1 h2 hMC, hMM, fun _ g' hg => hg, hf⟩
    · simp only [List.mem_cons, List.not_mem_nil, or_false, Prod.mk.injEq] at hw
      obtain ⟨rfl, rfl⟩ := hw
      exact ⟨1, nI 0, P, P', _, fr', lo', by decide, h3, h4, w_space_x1 (neC s) g (xs (4 * T + 1)) h1 h2 hMX, hMM, fun z => absurd z (by decide), hf⟩
  refine lv_aload_n hC.hx hC.hb d_L_law_388 rfl (lv_at hl 1 rfl) ?_
  refine l_arg (pc := 389) (T := T) (j := 1) hC h.hS (lv_at hl 0 rfl) (lv_at hl 4 rfl) (by decide) (by omega) hL9 d_L_law_389 d_L_law_390 d_L_law_392 d_L_law_393 d_L_law_394 ?_
  refine lv_aload_n (pc := 395) hC.hx hC.hb d_L_law_395 rfl (lv_at hl 3 rfl) ?_
  refine l_W (pc := 396) hC h hMW k_450 k_451 k_0 k_452 3 rfl (by decide +kernel) (by decide) hcl hsl rfl hl.1 d_L_law_396 (fun Mc' g' H locs hp hg h => ?_)
  refine lv_istore (pc := 399) (lv' := (5, .int (nI k)) :: lvL b s T) hC.hx hC.hb d_L_law_399 hl (by decide) rfl (fun ls hl => ?_)
  refine lv_aload_n (pc := 401) hC.hx hC.hb d_L_law_401 rfl (lv_at hl 3 rfl) ?_
  refine l_arg (pc := 402) (T := T) (j := 1) hC h.hS (lv_at hl 1 rfl) (lv_at hl 5 rfl) (by decide) (by omega) hL9 d_L_law_402 d_L_law_403 d_L_law_405 d_L_law_406 d_L_law_407 ?_
  refine l_M (pc := 408) (As := [.int (xs (4 * T + 1))]) (rest := []) hC h hMM rfl h3 h4 (by decide) k_919 k_920 k_921 k_9 k_922 1 rfl (by decide +kernel) hcl hsl rfl hl.1 (Nat.zero_le 8) d_L_law_408 (fun Mm' H locs hp' h => ?_)
  obtain ⟨hI', hth⟩ := hf _ _ hp hp'
  exact l_tail (pc := 411) hC h hI' (by omega) hth (fun z => hgp z g' hg) hl hcl hsl d_L_law_411 d_L_law_413 d_L_law_414 d_L_law_417 d_L_law_419 d_L_law_424 d_L_law_426 d_L_law_429 d_L_law_430 d_L_law_431 d_L_law_432 d_L_law_434 d_L_law_435 d_L_law_436 d_L_law_441 (by decide) kk

set_option maxHeartbeats 4000000 in
set_option maxRecDepth 100000 in
theorem lc_best {p : Program} {l : Launch} {e : Env} {R : Room} {s : State} {m : MethodId} {below : List Frame} {meth : Method} {c : Code} {H : Heap} {locs : List Loc} {cells slots : Nat} {Q : State → Prop} {ls : Array Slot} {D : va_G} {cI cC cZ cT cB cL : ClassId} {b L : Nat} {xs : Nat → Int32} {Mc Mm : PM} {g : Nat → Int64} (hC : LW l p R s m meth c D cI cC cZ cT cB cL b L xs) (hL9 : L ≤ 2048) {T : Nat} (hi : 4 * T + 4 ≤ L) (hI : Inv Mc Mm T) (h : LSt s D cI cC cZ cT cB cL Mc Mm g H locs) (hl : lv_has ls 7 (lvL b s T)) (hcl : cells + 1 ≤ R.cells) (hsl : slots + 6 ≤ R.slots) (kk : KL p l e R s m below meth c cells slots Q D cI cC cZ cT cB cL b T) : W p l e R s m #[Value.ref b] below meth c H locs cells slots Q (F0 m 444 ls []) := by
  obtain ⟨k, v, P, P', gp, fr', lo', hk, h3, h4, hMW, hMM, hgp, hf⟩ : ∃ (k : Nat) (v : Int32) (P P' : PM → Prop) (gp : (Nat → Int64) → Prop) (fr' lo' : Nat), k < 4 ∧ fr' ≤ 8 ∧ lo' ≤ 200 ∧ MW l D cI cC cZ cT (aCs s) cL (oS s) y_L_best b_L_best 4 [(0, 9, 12, 30)] [.ref (aCs s 0), .int (xs (4 * T + 1)), .ref (oS s)] Mc g k P gp ∧ MM l D cI cB (aMs s) y_M_best b_M_best 2 (some .int) fr' lo' [.ref (aMs s 0), .int (xs (4 * T + 1))] Mm (fun r M' => r = some (.int v) ∧ P' M') ∧ (k = 0 → ∀ g' : Nat → Int64, gp g' → g' 0 = v.toInt64) ∧ ∀ M1 M2, P M1 → P' M2 → Inv M1 M2 (T + 1) ∧ M2 0 0 = nI k := by
    rcases op_best l D cI cC cZ cT cB (aCs s) (aMs s) (giC s) (giM s) hC.hlT Mc Mm T hI (by omega) (xs (4 * T + 1)) with ⟨fr, lo, fr', lo', v, P, P', h1, h2, h3, h4, hMC, hMM, hf⟩ | ⟨fr, lo, fr', lo', E, w, P, P', hw, h1, h2, h3, h4, hMX, hMM, hf⟩
    · exact ⟨0, v, P, P', _, fr', lo', by decide, h3, h4, w_best_r (neC s) g (xs (4 * T + 1)) h1 h2 hMC, hMM, fun _ g' hg => hg, hf⟩
    · simp only [List.mem_cons, List.not_mem_nil, or_false, Prod.mk.injEq] at hw
      obtain ⟨rfl, rfl⟩ := hw
      exact ⟨1, nI 0, P, P', _, fr', lo', by decide, h3, h4, w_best_x1 (neC s) g (xs (4 * T + 1)) h1 h2 hMX, hMM, fun z => absurd z (by decide), hf⟩
  refine lv_aload_n hC.hx hC.hb d_L_law_444 rfl (lv_at hl 1 rfl) ?_
  refine l_arg (pc := 445) (T := T) (j := 1) hC h.hS (lv_at hl 0 rfl) (lv_at hl 4 rfl) (by decide) (by omega) hL9 d_L_law_445 d_L_law_446 d_L_law_448 d_L_law_449 d_L_law_450 ?_
  refine lv_aload_n (pc := 451) hC.hx hC.hb d_L_law_451 rfl (lv_at hl 3 rfl) ?_
  refine l_W (pc := 452) hC h hMW k_470 k_471 k_0 k_472 3 rfl (by decide +kernel) (by decide) hcl hsl rfl hl.1 d_L_law_452 (fun Mc' g' H locs hp hg h => ?_)
  refine lv_istore (pc := 455) (lv' := (5, .int (nI k)) :: lvL b s T) hC.hx hC.hb d_L_law_455 hl (by decide) rfl (fun ls hl => ?_)
  refine lv_aload_n (pc := 457) hC.hx hC.hb d_L_law_457 rfl (lv_at hl 3 rfl) ?_
  refine l_arg (pc := 458) (T := T) (j := 1) hC h.hS (lv_at hl 1 rfl) (lv_at hl 5 rfl) (by decide) (by omega) hL9 d_L_law_458 d_L_law_459 d_L_law_461 d_L_law_462 d_L_law_463 ?_
  refine l_M (pc := 464) (As := [.int (xs (4 * T + 1))]) (rest := []) hC h hMM rfl h3 h4 (by decide) k_935 k_936 k_937 k_9 k_938 1 rfl (by decide +kernel) hcl hsl rfl hl.1 (Nat.zero_le 8) d_L_law_464 (fun Mm' H locs hp' h => ?_)
  obtain ⟨hI', hth⟩ := hf _ _ hp hp'
  exact l_tail (pc := 467) hC h hI' (by omega) hth (fun z => hgp z g' hg) hl hcl hsl d_L_law_467 d_L_law_469 d_L_law_470 d_L_law_473 d_L_law_475 d_L_law_480 d_L_law_482 d_L_law_485 d_L_law_486 d_L_law_487 d_L_law_488 d_L_law_490 d_L_law_491 d_L_law_492 d_L_law_497 (by decide) kk

set_option maxHeartbeats 4000000 in
set_option maxRecDepth 100000 in
theorem lc_propose {p : Program} {l : Launch} {e : Env} {R : Room} {s : State} {m : MethodId} {below : List Frame} {meth : Method} {c : Code} {H : Heap} {locs : List Loc} {cells slots : Nat} {Q : State → Prop} {ls : Array Slot} {D : va_G} {cI cC cZ cT cB cL : ClassId} {b L : Nat} {xs : Nat → Int32} {Mc Mm : PM} {g : Nat → Int64} (hC : LW l p R s m meth c D cI cC cZ cT cB cL b L xs) (hL9 : L ≤ 2048) {T : Nat} (hi : 4 * T + 4 ≤ L) (hI : Inv Mc Mm T) (h : LSt s D cI cC cZ cT cB cL Mc Mm g H locs) (hl : lv_has ls 7 (lvL b s T)) (hcl : cells + 1 ≤ R.cells) (hsl : slots + 6 ≤ R.slots) (kk : KL p l e R s m below meth c cells slots Q D cI cC cZ cT cB cL b T) : W p l e R s m #[Value.ref b] below meth c H locs cells slots Q (F0 m 500 ls []) := by
  obtain ⟨k, v, P, P', gp, fr', lo', hk, h3, h4, hMW, hMM, hgp, hf⟩ : ∃ (k : Nat) (v : Int32) (P P' : PM → Prop) (gp : (Nat → Int64) → Prop) (fr' lo' : Nat), k < 4 ∧ fr' ≤ 8 ∧ lo' ≤ 200 ∧ MW l D cI cC cZ cT (aCs s) cL (oS s) y_L_propose b_L_propose 4 [(0, 9, 12, 30)] [.ref (aCs s 0), .int (xs (4 * T + 1)), .ref (oS s)] Mc g k P gp ∧ MM l D cI cB (aMs s) y_M_propose b_M_propose 8 (some .int) fr' lo' [.ref (aMs s 0), .int (xs (4 * T + 1))] Mm (fun r M' => r = some (.int v) ∧ P' M') ∧ (k = 0 → ∀ g' : Nat → Int64, gp g' → g' 0 = v.toInt64) ∧ ∀ M1 M2, P M1 → P' M2 → Inv M1 M2 (T + 1) ∧ M2 0 0 = nI k := by
    rcases op_propose l D cI cC cZ cT cB (aCs s) (aMs s) (giC s) (giM s) hC.hlT Mc Mm T hI (by omega) (xs (4 * T + 1)) with ⟨fr, lo, fr', lo', v, P, P', h1, h2, h3, h4, hMC, hMM, hf⟩ | ⟨fr, lo, fr', lo', E, w, P, P', hw, h1, h2, h3, h4, hMX, hMM, hf⟩
    · exact ⟨0, v, P, P', _, fr', lo', by decide, h3, h4, w_propose_r (neC s) g (xs (4 * T + 1)) h1 h2 hMC, hMM, fun _ g' hg => hg, hf⟩
    · simp only [List.mem_cons, List.not_mem_nil, or_false, Prod.mk.injEq] at hw
      obtain ⟨rfl, rfl⟩ := hw
      exact ⟨1, nI 0, P, P', _, fr', lo', by decide, h3, h4, w_propose_x1 (neC s) g (xs (4 * T + 1)) h1 h2 hMX, hMM, fun z => absurd z (by decide), hf⟩
  refine lv_aload_n hC.hx hC.hb d_L_law_500 rfl (lv_at hl 1 rfl) ?_
  refine l_arg (pc := 501) (T := T) (j := 1) hC h.hS (lv_at hl 0 rfl) (lv_at hl 4 rfl) (by decide) (by omega) hL9 d_L_law_501 d_L_law_502 d_L_law_504 d_L_law_505 d_L_law_506 ?_
  refine lv_aload_n (pc := 507) hC.hx hC.hb d_L_law_507 rfl (lv_at hl 3 rfl) ?_
  refine l_W (pc := 508) hC h hMW k_481 k_482 k_0 k_483 3 rfl (by decide +kernel) (by decide) hcl hsl rfl hl.1 d_L_law_508 (fun Mc' g' H locs hp hg h => ?_)
  refine lv_istore (pc := 511) (lv' := (5, .int (nI k)) :: lvL b s T) hC.hx hC.hb d_L_law_511 hl (by decide) rfl (fun ls hl => ?_)
  refine lv_aload_n (pc := 513) hC.hx hC.hb d_L_law_513 rfl (lv_at hl 3 rfl) ?_
  refine l_arg (pc := 514) (T := T) (j := 1) hC h.hS (lv_at hl 1 rfl) (lv_at hl 5 rfl) (by decide) (by omega) hL9 d_L_law_514 d_L_law_515 d_L_law_517 d_L_law_518 d_L_law_519 ?_
  refine l_M (pc := 520) (As := [.int (xs (4 * T + 1))]) (rest := []) hC h hMM rfl h3 h4 (by decide) k_947 k_948 k_949 k_9 k_950 1 rfl (by decide +kernel) hcl hsl rfl hl.1 (Nat.zero_le 8) d_L_law_520 (fun Mm' H locs hp' h => ?_)
  obtain ⟨hI', hth⟩ := hf _ _ hp hp'
  exact l_tail (pc := 523) hC h hI' (by omega) hth (fun z => hgp z g' hg) hl hcl hsl d_L_law_523 d_L_law_525 d_L_law_526 d_L_law_529 d_L_law_531 d_L_law_536 d_L_law_538 d_L_law_541 d_L_law_542 d_L_law_543 d_L_law_544 d_L_law_546 d_L_law_547 d_L_law_548 d_L_law_553 (by decide) kk

set_option maxHeartbeats 4000000 in
set_option maxRecDepth 100000 in
theorem lc_print {p : Program} {l : Launch} {e : Env} {R : Room} {s : State} {m : MethodId} {below : List Frame} {meth : Method} {c : Code} {H : Heap} {locs : List Loc} {cells slots : Nat} {Q : State → Prop} {ls : Array Slot} {D : va_G} {cI cC cZ cT cB cL : ClassId} {b L : Nat} {xs : Nat → Int32} {Mc Mm : PM} {g : Nat → Int64} (hC : LW l p R s m meth c D cI cC cZ cT cB cL b L xs) (hL9 : L ≤ 2048) {T : Nat} (hi : 4 * T + 4 ≤ L) (hI : Inv Mc Mm T) (h : LSt s D cI cC cZ cT cB cL Mc Mm g H locs) (hl : lv_has ls 7 (lvL b s T)) (hcl : cells + 1 ≤ R.cells) (hsl : slots + 6 ≤ R.slots) (kk : KL p l e R s m below meth c cells slots Q D cI cC cZ cT cB cL b T) : W p l e R s m #[Value.ref b] below meth c H locs cells slots Q (F0 m 556 ls []) := by
  obtain ⟨k, v, P, P', gp, fr', lo', hk, h3, h4, hMW, hMM, hgp, hf⟩ : ∃ (k : Nat) (v : Int32) (P P' : PM → Prop) (gp : (Nat → Int64) → Prop) (fr' lo' : Nat), k < 4 ∧ fr' ≤ 8 ∧ lo' ≤ 200 ∧ MW l D cI cC cZ cT (aCs s) cL (oS s) y_L_print b_L_print 4 [(0, 9, 12, 30)] [.ref (aCs s 0), .int (xs (4 * T + 1)), .ref (oS s)] Mc g k P gp ∧ MM l D cI cB (aMs s) y_M_print b_M_print 5 (some .int) fr' lo' [.ref (aMs s 0), .int (xs (4 * T + 1))] Mm (fun r M' => r = some (.int v) ∧ P' M') ∧ (k = 0 → ∀ g' : Nat → Int64, gp g' → g' 0 = v.toInt64) ∧ ∀ M1 M2, P M1 → P' M2 → Inv M1 M2 (T + 1) ∧ M2 0 0 = nI k := by
    rcases op_print l D cI cC cZ cT cB (aCs s) (aMs s) (giC s) (giM s) hC.hlT Mc Mm T hI (by omega) (xs (4 * T + 1)) with ⟨fr, lo, fr', lo', v, P, P', h1, h2, h3, h4, hMC, hMM, hf⟩ | ⟨fr, lo, fr', lo', E, w, P, P', hw, h1, h2, h3, h4, hMX, hMM, hf⟩
    · exact ⟨0, v, P, P', _, fr', lo', by decide, h3, h4, w_print_r (neC s) g (xs (4 * T + 1)) h1 h2 hMC, hMM, fun _ g' hg => hg, hf⟩
    · simp only [List.mem_cons, List.not_mem_nil, or_false, Prod.mk.injEq] at hw
      obtain ⟨rfl, rfl⟩ := hw
      exact ⟨1, nI 0, P, P', _, fr', lo', by decide, h3, h4, w_print_x1 (neC s) g (xs (4 * T + 1)) h1 h2 hMX, hMM, fun z => absurd z (by decide), hf⟩
  refine lv_aload_n hC.hx hC.hb d_L_law_556 rfl (lv_at hl 1 rfl) ?_
  refine l_arg (pc := 557) (T := T) (j := 1) hC h.hS (lv_at hl 0 rfl) (lv_at hl 4 rfl) (by decide) (by omega) hL9 d_L_law_557 d_L_law_558 d_L_law_560 d_L_law_561 d_L_law_562 ?_
  refine lv_aload_n (pc := 563) hC.hx hC.hb d_L_law_563 rfl (lv_at hl 3 rfl) ?_
  refine l_W (pc := 564) hC h hMW k_512 k_513 k_0 k_514 3 rfl (by decide +kernel) (by decide) hcl hsl rfl hl.1 d_L_law_564 (fun Mc' g' H locs hp hg h => ?_)
  refine lv_istore (pc := 567) (lv' := (5, .int (nI k)) :: lvL b s T) hC.hx hC.hb d_L_law_567 hl (by decide) rfl (fun ls hl => ?_)
  refine lv_aload_n (pc := 569) hC.hx hC.hb d_L_law_569 rfl (lv_at hl 3 rfl) ?_
  refine l_arg (pc := 570) (T := T) (j := 1) hC h.hS (lv_at hl 1 rfl) (lv_at hl 5 rfl) (by decide) (by omega) hL9 d_L_law_570 d_L_law_571 d_L_law_573 d_L_law_574 d_L_law_575 ?_
  refine l_M (pc := 576) (As := [.int (xs (4 * T + 1))]) (rest := []) hC h hMM rfl h3 h4 (by decide) k_958 k_959 k_960 k_9 k_961 1 rfl (by decide +kernel) hcl hsl rfl hl.1 (Nat.zero_le 8) d_L_law_576 (fun Mm' H locs hp' h => ?_)
  obtain ⟨hI', hth⟩ := hf _ _ hp hp'
  exact l_tail (pc := 579) hC h hI' (by omega) hth (fun z => hgp z g' hg) hl hcl hsl d_L_law_579 d_L_law_581 d_L_law_582 d_L_law_585 d_L_law_587 d_L_law_592 d_L_law_594 d_L_law_597 d_L_law_598 d_L_law_599 d_L_law_600 d_L_law_602 d_L_law_603 d_L_law_604 d_L_law_609 (by decide) kk

set_option maxHeartbeats 4000000 in
set_option maxRecDepth 100000 in
theorem lc_letter {p : Program} {l : Launch} {e : Env} {R : Room} {s : State} {m : MethodId} {below : List Frame} {meth : Method} {c : Code} {H : Heap} {locs : List Loc} {cells slots : Nat} {Q : State → Prop} {ls : Array Slot} {D : va_G} {cI cC cZ cT cB cL : ClassId} {b L : Nat} {xs : Nat → Int32} {Mc Mm : PM} {g : Nat → Int64} (hC : LW l p R s m meth c D cI cC cZ cT cB cL b L xs) (hL9 : L ≤ 2048) {T : Nat} (hi : 4 * T + 4 ≤ L) (hI : Inv Mc Mm T) (h : LSt s D cI cC cZ cT cB cL Mc Mm g H locs) (hl : lv_has ls 7 (lvL b s T)) (hcl : cells + 1 ≤ R.cells) (hsl : slots + 6 ≤ R.slots) (kk : KL p l e R s m below meth c cells slots Q D cI cC cZ cT cB cL b T) : W p l e R s m #[Value.ref b] below meth c H locs cells slots Q (F0 m 612 ls []) := by
  rcases op_letter l D cI cC cZ cT cB (aCs s) (aMs s) (giC s) (giM s) hC.hlT Mc Mm T hI (by omega) (xs (4 * T + 1)) with ⟨fr, lo, fr', lo', v, P, P', h1, h2, h3, h4, hMC, hMM, hf⟩ | ⟨_, _, _, _, _, _, _, _, hw, _⟩
  rotate_left
  · exact absurd hw List.not_mem_nil
  refine lv_aload_n hC.hx hC.hb d_L_law_612 rfl (lv_at hl 1 rfl) ?_
  refine l_arg (pc := 613) (T := T) (j := 1) hC h.hS (lv_at hl 0 rfl) (lv_at hl 4 rfl) (by decide) (by omega) hL9 d_L_law_613 d_L_law_614 d_L_law_616 d_L_law_617 d_L_law_618 ?_
  refine l_C (pc := 619) (As := [.int (xs (4 * T + 1))]) (rest := []) hC h hMC rfl h1 h2 (by decide) k_187 k_188 k_189 k_1 k_190 1 rfl (by decide +kernel) (by omega) (by omega) rfl hl.1 (Nat.zero_le 8) d_L_law_619 (fun Mc' H locs hp h => ?_)
  refine lv_aload_n (pc := 622) hC.hx hC.hb d_L_law_622 rfl (lv_at hl 2 rfl) ?_
  refine l_arg (pc := 623) (T := T) (j := 1) hC h.hS (lv_at hl 0 rfl) (lv_at hl 4 rfl) (by decide) (by omega) hL9 d_L_law_623 d_L_law_624 d_L_law_626 d_L_law_627 d_L_law_628 ?_
  refine l_M (pc := 629) (As := [.int (xs (4 * T + 1))]) (rest := [.int v]) hC h hMM rfl h3 h4 (by decide) k_962 k_963 k_964 k_9 k_965 1 rfl (by decide +kernel) (by omega) (by omega) rfl hl.1 (Nat.le_of_ble_eq_true rfl) d_L_law_629 (fun Mm' H locs hp' h => ?_)
  refine lv_icmp_eq (pc := 632) (tgt := 1660) hC.hx hC.hb d_L_law_632 (by decide) (fun _ => ?_) (fun z => absurd rfl z)
  exact W.widen (Nat.le_succ _) (Nat.le_add_right _ _) (kk Mc' Mm' g H locs ls (hf _ _ hp hp').1 h hl)

set_option maxHeartbeats 4000000 in
set_option maxRecDepth 100000 in
theorem lc_row {p : Program} {l : Launch} {e : Env} {R : Room} {s : State} {m : MethodId} {below : List Frame} {meth : Method} {c : Code} {H : Heap} {locs : List Loc} {cells slots : Nat} {Q : State → Prop} {ls : Array Slot} {D : va_G} {cI cC cZ cT cB cL : ClassId} {b L : Nat} {xs : Nat → Int32} {Mc Mm : PM} {g : Nat → Int64} (hC : LW l p R s m meth c D cI cC cZ cT cB cL b L xs) (hL9 : L ≤ 2048) {T : Nat} (hi : 4 * T + 4 ≤ L) (hI : Inv Mc Mm T) (h : LSt s D cI cC cZ cT cB cL Mc Mm g H locs) (hl : lv_has ls 7 (lvL b s T)) (hcl : cells + 1 ≤ R.cells) (hsl : slots + 6 ≤ R.slots) (kk : KL p l e R s m below meth c cells slots Q D cI cC cZ cT cB cL b T) : W p l e R s m #[Value.ref b] below meth c H locs cells slots Q (F0 m 637 ls []) := by
  obtain ⟨k, v, P, P', gp, fr', lo', hk, h3, h4, hMW, hMM, hgp, hf⟩ : ∃ (k : Nat) (v : Int32) (P P' : PM → Prop) (gp : (Nat → Int64) → Prop) (fr' lo' : Nat), k < 4 ∧ fr' ≤ 8 ∧ lo' ≤ 200 ∧ MW l D cI cC cZ cT (aCs s) cL (oS s) y_L_row b_L_row 6 [(0, 12, 15, 30), (0, 12, 19, 21), (0, 12, 23, 15)] [.ref (aCs s 0), .int (xs (4 * T + 1)), .int (xs (4 * T + 2)), .int (xs (4 * T + 3)), .ref (oS s)] Mc g k P gp ∧ MM l D cI cB (aMs s) y_M_row b_M_row 5 (some .int) fr' lo' [.ref (aMs s 0), .int (xs (4 * T + 1)), .int (xs (4 * T + 2)), .int (xs (4 * T + 3))] Mm (fun r M' => r = some (.int v) ∧ P' M') ∧ (k = 0 → ∀ g' : Nat → Int64, gp g' → g' 0 = v.toInt64) ∧ ∀ M1 M2, P M1 → P' M2 → Inv M1 M2 (T + 1) ∧ M2 0 0 = nI k := by
    rcases op_row l D cI cC cZ cT cB (aCs s) (aMs s) (giC s) (giM s) hC.hlT Mc Mm T hI (by omega) (xs (4 * T + 1)) (xs (4 * T + 2)) (xs (4 * T + 3)) with ⟨fr, lo, fr', lo', v, P, P', h1, h2, h3, h4, hMC, hMM, hf⟩ | ⟨fr, lo, fr', lo', E, w, P, P', hw, h1, h2, h3, h4, hMX, hMM, hf⟩
    · exact ⟨0, v, P, P', _, fr', lo', by decide, h3, h4, w_row_r (neC s) g (xs (4 * T + 1)) (xs (4 * T + 2)) (xs (4 * T + 3)) h1 h2 hMC, hMM, fun _ g' hg => hg, hf⟩
    · simp only [List.mem_cons, List.not_mem_nil, or_false, Prod.mk.injEq] at hw
      rcases hw with ⟨rfl, rfl⟩ | ⟨rfl, rfl⟩ | ⟨rfl, rfl⟩
      · exact ⟨1, nI 0, P, P', _, fr', lo', by decide, h3, h4, w_row_x1 (neC s) g (xs (4 * T + 1)) (xs (4 * T + 2)) (xs (4 * T + 3)) h1 h2 hMX, hMM, fun z => absurd z (by decide), hf⟩
      · exact ⟨2, nI 0, P, P', _, fr', lo', by decide, h3, h4, w_row_x2 (neC s) g (xs (4 * T + 1)) (xs (4 * T + 2)) (xs (4 * T + 3)) h1 h2 hMX, hMM, fun z => absurd z (by decide), hf⟩
      · exact ⟨3, nI 0, P, P', _, fr', lo', by decide, h3, h4, w_row_x3 (neC s) g (xs (4 * T + 1)) (xs (4 * T + 2)) (xs (4 * T + 3)) h1 h2 hMX, hMM, fun z => absurd z (by decide), hf⟩
  refine lv_aload_n hC.hx hC.hb d_L_law_637 rfl (lv_at hl 1 rfl) ?_
  refine l_arg (pc := 638) (T := T) (j := 1) hC h.hS (lv_at hl 0 rfl) (lv_at hl 4 rfl) (by decide) (by omega) hL9 d_L_law_638 d_L_law_639 d_L_law_641 d_L_law_642 d_L_law_643 ?_
  refine l_arg (pc := 644) (T := T) (j := 2) hC h.hS (lv_at hl 0 rfl) (lv_at hl 4 rfl) (by decide) (by omega) hL9 d_L_law_644 d_L_law_645 d_L_law_647 d_L_law_648 d_L_law_649 ?_
  refine l_arg (pc := 650) (T := T) (j := 3) hC h.hS (lv_at hl 0 rfl) (lv_at hl 4 rfl) (by decide) (by omega) hL9 d_L_law_650 d_L_law_651 d_L_law_653 d_L_law_654 d_L_law_655 ?_
  refine lv_aload_n (pc := 656) hC.hx hC.hb d_L_law_656 rfl (lv_at hl 3 rfl) ?_
  refine l_W (pc := 657) hC h hMW k_519 k_520 k_0 k_521 5 rfl (by decide +kernel) (by decide) hcl hsl rfl hl.1 d_L_law_657 (fun Mc' g' H locs hp hg h => ?_)
  refine lv_istore (pc := 660) (lv' := (5, .int (nI k)) :: lvL b s T) hC.hx hC.hb d_L_law_660 hl (by decide) rfl (fun ls hl => ?_)
  refine lv_aload_n (pc := 662) hC.hx hC.hb d_L_law_662 rfl (lv_at hl 3 rfl) ?_
  refine l_arg (pc := 663) (T := T) (j := 1) hC h.hS (lv_at hl 1 rfl) (lv_at hl 5 rfl) (by decide) (by omega) hL9 d_L_law_663 d_L_law_664 d_L_law_666 d_L_law_667 d_L_law_668 ?_
  refine l_arg (pc := 669) (T := T) (j := 2) hC h.hS (lv_at hl 1 rfl) (lv_at hl 5 rfl) (by decide) (by omega) hL9 d_L_law_669 d_L_law_670 d_L_law_672 d_L_law_673 d_L_law_674 ?_
  refine l_arg (pc := 675) (T := T) (j := 3) hC h.hS (lv_at hl 1 rfl) (lv_at hl 5 rfl) (by decide) (by omega) hL9 d_L_law_675 d_L_law_676 d_L_law_678 d_L_law_679 d_L_law_680 ?_
  refine l_M (pc := 681) (As := [.int (xs (4 * T + 1)), .int (xs (4 * T + 2)), .int (xs (4 * T + 3))]) (rest := []) hC h hMM rfl h3 h4 (by decide) k_966 k_967 k_968 k_9 k_969 3 rfl (by decide +kernel) hcl hsl rfl hl.1 (Nat.zero_le 8) d_L_law_681 (fun Mm' H locs hp' h => ?_)
  obtain ⟨hI', hth⟩ := hf _ _ hp hp'
  exact l_tail (pc := 684) hC h hI' (by omega) hth (fun z => hgp z g' hg) hl hcl hsl d_L_law_684 d_L_law_686 d_L_law_687 d_L_law_690 d_L_law_692 d_L_law_697 d_L_law_699 d_L_law_702 d_L_law_703 d_L_law_704 d_L_law_705 d_L_law_707 d_L_law_708 d_L_law_709 d_L_law_714 (by decide) kk

set_option maxHeartbeats 4000000 in
set_option maxRecDepth 100000 in
theorem lc_told {p : Program} {l : Launch} {e : Env} {R : Room} {s : State} {m : MethodId} {below : List Frame} {meth : Method} {c : Code} {H : Heap} {locs : List Loc} {cells slots : Nat} {Q : State → Prop} {ls : Array Slot} {D : va_G} {cI cC cZ cT cB cL : ClassId} {b L : Nat} {xs : Nat → Int32} {Mc Mm : PM} {g : Nat → Int64} (hC : LW l p R s m meth c D cI cC cZ cT cB cL b L xs) (hL9 : L ≤ 2048) {T : Nat} (hi : 4 * T + 4 ≤ L) (hI : Inv Mc Mm T) (h : LSt s D cI cC cZ cT cB cL Mc Mm g H locs) (hl : lv_has ls 7 (lvL b s T)) (hcl : cells + 1 ≤ R.cells) (hsl : slots + 6 ≤ R.slots) (kk : KL p l e R s m below meth c cells slots Q D cI cC cZ cT cB cL b T) : W p l e R s m #[Value.ref b] below meth c H locs cells slots Q (F0 m 717 ls []) := by
  obtain ⟨k, v, P, P', gp, fr', lo', hk, h3, h4, hMW, hMM, hgp, hf⟩ : ∃ (k : Nat) (v : Int32) (P P' : PM → Prop) (gp : (Nat → Int64) → Prop) (fr' lo' : Nat), k < 4 ∧ fr' ≤ 8 ∧ lo' ≤ 200 ∧ MW l D cI cC cZ cT (aCs s) cL (oS s) y_L_told b_L_told 5 [(0, 10, 13, 30), (0, 10, 17, 13)] [.ref (aCs s 0), .int (xs (4 * T + 1)), .int (xs (4 * T + 2)), .ref (oS s)] Mc g k P gp ∧ MM l D cI cB (aMs s) y_M_told2 b_M_told2 3 (some .int) fr' lo' [.ref (aMs s 0), .int (xs (4 * T + 1)), .int (xs (4 * T + 2))] Mm (fun r M' => r = some (.int v) ∧ P' M') ∧ (k = 0 → ∀ g' : Nat → Int64, gp g' → g' 0 = v.toInt64) ∧ ∀ M1 M2, P M1 → P' M2 → Inv M1 M2 (T + 1) ∧ M2 0 0 = nI k := by
    rcases op_told l D cI cC cZ cT cB (aCs s) (aMs s) (giC s) (giM s) hC.hlT Mc Mm T hI (by omega) (xs (4 * T + 1)) (xs (4 * T + 2)) with ⟨fr, lo, fr', lo', v, P, P', h1, h2, h3, h4, hMC, hMM, hf⟩ | ⟨fr, lo, fr', lo', E, w, P, P', hw, h1, h2, h3, h4, hMX, hMM, hf⟩
    · exact ⟨0, v, P, P', _, fr', lo', by decide, h3, h4, w_told_r (neC s) g (xs (4 * T + 1)) (xs (4 * T + 2)) h1 h2 hMC, hMM, fun _ g' hg => hg, hf⟩
    · simp only [List.mem_cons, List.not_mem_nil, or_false, Prod.mk.injEq] at hw
      rcases hw with ⟨rfl, rfl⟩ | ⟨rfl, rfl⟩
      · exact ⟨1, nI 0, P, P', _, fr', lo', by decide, h3, h4, w_told_x1 (neC s) g (xs (4 * T + 1)) (xs (4 * T + 2)) h1 h2 hMX, hMM, fun z => absurd z (by decide), hf⟩
      · exact ⟨2, nI 0, P, P', _, fr', lo', by decide, h3, h4, w_told_x2 (neC s) g (xs (4 * T + 1)) (xs (4 * T + 2)) h1 h2 hMX, hMM, fun z => absurd z (by decide), hf⟩
  refine lv_aload_n hC.hx hC.hb d_L_law_717 rfl (lv_at hl 1 rfl) ?_
  refine l_arg (pc := 718) (T := T) (j := 1) hC h.hS (lv_at hl 0 rfl) (lv_at hl 4 rfl) (by decide) (by omega) hL9 d_L_law_718 d_L_law_719 d_L_law_721 d_L_law_722 d_L_law_723 ?_
  refine l_arg (pc := 724) (T := T) (j := 2) hC h.hS (lv_at hl 0 rfl) (lv_at hl 4 rfl) (by decide) (by omega) hL9 d_L_law_724 d_L_law_725 d_L_law_727 d_L_law_728 d_L_law_729 ?_
  refine lv_aload_n (pc := 730) hC.hx hC.hb d_L_law_730 rfl (lv_at hl 3 rfl) ?_
  refine l_W (pc := 731) hC h hMW k_544 k_545 k_0 k_546 4 rfl (by decide +kernel) (by decide) hcl hsl rfl hl.1 d_L_law_731 (fun Mc' g' H locs hp hg h => ?_)
  refine lv_istore (pc := 734) (lv' := (5, .int (nI k)) :: lvL b s T) hC.hx hC.hb d_L_law_734 hl (by decide) rfl (fun ls hl => ?_)
  refine lv_aload_n (pc := 736) hC.hx hC.hb d_L_law_736 rfl (lv_at hl 3 rfl) ?_
  refine l_arg (pc := 737) (T := T) (j := 1) hC h.hS (lv_at hl 1 rfl) (lv_at hl 5 rfl) (by decide) (by omega) hL9 d_L_law_737 d_L_law_738 d_L_law_740 d_L_law_741 d_L_law_742 ?_
  refine l_arg (pc := 743) (T := T) (j := 2) hC h.hS (lv_at hl 1 rfl) (lv_at hl 5 rfl) (by decide) (by omega) hL9 d_L_law_743 d_L_law_744 d_L_law_746 d_L_law_747 d_L_law_748 ?_
  refine l_M (pc := 749) (As := [.int (xs (4 * T + 1)), .int (xs (4 * T + 2))]) (rest := []) hC h hMM rfl h3 h4 (by decide) k_974 k_975 k_976 k_9 k_977 2 rfl (by decide +kernel) hcl hsl rfl hl.1 (Nat.zero_le 8) d_L_law_749 (fun Mm' H locs hp' h => ?_)
  obtain ⟨hI', hth⟩ := hf _ _ hp hp'
  exact l_tail (pc := 752) hC h hI' (by omega) hth (fun z => hgp z g' hg) hl hcl hsl d_L_law_752 d_L_law_754 d_L_law_755 d_L_law_758 d_L_law_760 d_L_law_765 d_L_law_767 d_L_law_770 d_L_law_771 d_L_law_772 d_L_law_773 d_L_law_775 d_L_law_776 d_L_law_777 d_L_law_782 (by decide) kk

set_option maxHeartbeats 4000000 in
set_option maxRecDepth 100000 in
theorem lc_document {p : Program} {l : Launch} {e : Env} {R : Room} {s : State} {m : MethodId} {below : List Frame} {meth : Method} {c : Code} {H : Heap} {locs : List Loc} {cells slots : Nat} {Q : State → Prop} {ls : Array Slot} {D : va_G} {cI cC cZ cT cB cL : ClassId} {b L : Nat} {xs : Nat → Int32} {Mc Mm : PM} {g : Nat → Int64} (hC : LW l p R s m meth c D cI cC cZ cT cB cL b L xs) (hL9 : L ≤ 2048) {T : Nat} (hi : 4 * T + 4 ≤ L) (hI : Inv Mc Mm T) (h : LSt s D cI cC cZ cT cB cL Mc Mm g H locs) (hl : lv_has ls 7 (lvL b s T)) (hcl : cells + 1 ≤ R.cells) (hsl : slots + 6 ≤ R.slots) (kk : KL p l e R s m below meth c cells slots Q D cI cC cZ cT cB cL b T) : W p l e R s m #[Value.ref b] below meth c H locs cells slots Q (F0 m 785 ls []) := by
  obtain ⟨k, v, P, P', gp, fr', lo', hk, h3, h4, hMW, hMM, hgp, hf⟩ : ∃ (k : Nat) (v : Int32) (P P' : PM → Prop) (gp : (Nat → Int64) → Prop) (fr' lo' : Nat), k < 4 ∧ fr' ≤ 8 ∧ lo' ≤ 200 ∧ MW l D cI cC cZ cT (aCs s) cL (oS s) y_L_document b_L_document 5 [(0, 10, 13, 30)] [.ref (aCs s 0), .int (xs (4 * T + 1)), .int (xs (4 * T + 2)), .ref (oS s)] Mc g k P gp ∧ MM l D cI cB (aMs s) y_M_document b_M_document 6 (some .int) fr' lo' [.ref (aMs s 0), .int (xs (4 * T + 1)), .int (xs (4 * T + 2))] Mm (fun r M' => r = some (.int v) ∧ P' M') ∧ (k = 0 → ∀ g' : Nat → Int64, gp g' → g' 0 = v.toInt64) ∧ ∀ M1 M2, P M1 → P' M2 → Inv M1 M2 (T + 1) ∧ M2 0 0 = nI k := by
    rcases op_document l D cI cC cZ cT cB (aCs s) (aMs s) (giC s) (giM s) hC.hlT Mc Mm T hI (by omega) (xs (4 * T + 1)) (xs (4 * T + 2)) with ⟨fr, lo, fr', lo', v, P, P', h1, h2, h3, h4, hMC, hMM, hf⟩ | ⟨fr, lo, fr', lo', E, w, P, P', hw, h1, h2, h3, h4, hMX, hMM, hf⟩
    · exact ⟨0, v, P, P', _, fr', lo', by decide, h3, h4, w_document_r (neC s) g (xs (4 * T + 1)) (xs (4 * T + 2)) h1 h2 hMC, hMM, fun _ g' hg => hg, hf⟩
    · simp only [List.mem_cons, List.not_mem_nil, or_false, Prod.mk.injEq] at hw
      obtain ⟨rfl, rfl⟩ := hw
      exact ⟨1, nI 0, P, P', _, fr', lo', by decide, h3, h4, w_document_x1 (neC s) g (xs (4 * T + 1)) (xs (4 * T + 2)) h1 h2 hMX, hMM, fun z => absurd z (by decide), hf⟩
  refine lv_aload_n hC.hx hC.hb d_L_law_785 rfl (lv_at hl 1 rfl) ?_
  refine l_arg (pc := 786) (T := T) (j := 1) hC h.hS (lv_at hl 0 rfl) (lv_at hl 4 rfl) (by decide) (by omega) hL9 d_L_law_786 d_L_law_787 d_L_law_789 d_L_law_790 d_L_law_791 ?_
  refine l_arg (pc := 792) (T := T) (j := 2) hC h.hS (lv_at hl 0 rfl) (lv_at hl 4 rfl) (by decide) (by omega) hL9 d_L_law_792 d_L_law_793 d_L_law_795 d_L_law_796 d_L_law_797 ?_
  refine lv_aload_n (pc := 798) hC.hx hC.hb d_L_law_798 rfl (lv_at hl 3 rfl) ?_
  refine l_W (pc := 799) hC h hMW k_558 k_559 k_0 k_560 4 rfl (by decide +kernel) (by decide) hcl hsl rfl hl.1 d_L_law_799 (fun Mc' g' H locs hp hg h => ?_)
  refine lv_istore (pc := 802) (lv' := (5, .int (nI k)) :: lvL b s T) hC.hx hC.hb d_L_law_802 hl (by decide) rfl (fun ls hl => ?_)
  refine lv_aload_n (pc := 804) hC.hx hC.hb d_L_law_804 rfl (lv_at hl 3 rfl) ?_
  refine l_arg (pc := 805) (T := T) (j := 1) hC h.hS (lv_at hl 1 rfl) (lv_at hl 5 rfl) (by decide) (by omega) hL9 d_L_law_805 d_L_law_806 d_L_law_808 d_L_law_809 d_L_law_810 ?_
  refine l_arg (pc := 811) (T := T) (j := 2) hC h.hS (lv_at hl 1 rfl) (lv_at hl 5 rfl) (by decide) (by omega) hL9 d_L_law_811 d_L_law_812 d_L_law_814 d_L_law_815 d_L_law_816 ?_
  refine l_M (pc := 817) (As := [.int (xs (4 * T + 1)), .int (xs (4 * T + 2))]) (rest := []) hC h hMM rfl h3 h4 (by decide) k_978 k_979 k_980 k_9 k_981 2 rfl (by decide +kernel) hcl hsl rfl hl.1 (Nat.zero_le 8) d_L_law_817 (fun Mm' H locs hp' h => ?_)
  obtain ⟨hI', hth⟩ := hf _ _ hp hp'
  exact l_tail (pc := 820) hC h hI' (by omega) hth (fun z => hgp z g' hg) hl hcl hsl d_L_law_820 d_L_law_822 d_L_law_823 d_L_law_826 d_L_law_828 d_L_law_833 d_L_law_835 d_L_law_838 d_L_law_839 d_L_law_840 d_L_law_841 d_L_law_843 d_L_law_844 d_L_law_845 d_L_law_850 (by decide) kk
