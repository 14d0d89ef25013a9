set_option maxHeartbeats 4000000 in
set_option maxRecDepth 100000 in
theorem c_M_rename_0 (l : Launch) (D : va_G) (cI cB : ClassId) (ad : Nat → Nat) (hI : GI 13 ad) (M : PM) (n : Nat) (len : Nat → Nat) (ch : Nat → Nat → Nat) (sp : Nat → Option Nat) (hR : RN M n len ch sp) (rc : Nat) (rw_ : Nat → Nat) (hW : RW M n rc rw_) (st : Nat → Option Nat) (hS6 : RS M n st) (rk : Nat → Nat) (hRk : Rk n st rk) (a b9 : Nat) (ha : a < n) (hb9 : b9 < n) (nc : Nat) (rf rt : Nat → Nat) (hRR : RR M n nc rf rt) (us : Nat → Nat) (hU : RU M n us) (hab : a ≠ b9) (ox oy : Option Nat) (hox : Fst (fun k => rw_ (3 * k) = a) rc ox) (hoy : Fst (fun k => rw_ (3 * k) = b9) rc oy) (hno : ox = none ∨ oy = none) (hno5 : st a = none ∨ st b9 = none) (hL : ¬ (Lds st (some a) b9 ∨ Lds st (some b9) a)) (h20 : nc < 20) : MM l D cI cB ad y_M_rename b_M_rename 5 (some .int) 2 47 [.ref (ad (0)), .int (nI (a)), .int (nI (b9))] M (fun v M' => v = some (.int (nI (plR rc n rw_ us st a))) ∧ RNMd M M' n a b9 rc nc rw_ us st) := by
  refine MC.of (by decide) (Nat.le_of_ble_eq_true rfl) ?_
  intro p e s m below meth c ls hx hb hr hml hown hg hlocks hK hN hP hS hl
  have hown : s.vm.findClass R_M = some m.cls := hown
  have hl : lv_has ls 5 [(0, .ref (ad (0))), (1, .int (nI (a))), (2, .int (nI (b9)))] := hl
  have hn60 : n ≤ 60 := hR.1
  have hrc := hW.1
  have hrw := hW.2.2
  have hsa : s1R st a b9 a = st a := by unfold s1R; rw [if_neg (fun h => by have := hRk a a ha h; omega)]
  have hua := hU a ha
  have hub := hU b9 hb9
  have J123 : ∀ (fu123 : Nat) (k : Nat) (M1 : PM) (H : Heap) (locs : List Loc) (ls : Array Slot), n - k < fu123 → (k ≤ n) → (M1 0 0 = nI 0) → (∀ p q, p ≠ 7 → p ≠ 6 → ¬ (p = 0 ∧ q = 0) → M1 p q = M p q) → (∀ q, q < 3 * rc → M1 7 q = nI (rwR rw_ a b9 q)) → (∀ q, q < k → M1 6 q = oI (s1R st a b9 q)) → (∀ q, k ≤ q → M1 6 q = M 6 q) → va_P D clsA (gw 13 ad (cfM cI cB ad) M1) H → va_S (GA 13 ad) s.heap H locs → lv_has ls 5 [(0, .ref (ad (0))), (1, .int (nI (a))), (2, .int (nI (b9))), (3, .int (nI (Cnt (eqB rw_ a) (3 * rc) + Cnt (soB st a) k))), (4, .int (nI (k)))] → W p l e (rm_ 2 47) s m ([.ref (ad (0)), .int (nI (a)), .int (nI (b9))] : List Value).toArray below meth c H locs 0 0 (MQ below (GQ D 13 ad (cfM cI cB ad) (fun v M' => v = some (.int (nI (plR rc n rw_ us st a))) ∧ RNMd M M' n a b9 rc nc rw_ us st)) ([.ref (ad (0)), .int (nI (a)), .int (nI (b9))] : List Value).toArray s 0 0 (GA 13 ad)) (F0 m 123 ls []) := by
    intro fu123
    induction fu123 with
    | zero => intro k M1 H locs ls hfu; exact absurd hfu (Nat.not_lt_zero _)
    | succ fu123 ih123 =>
      intro k M1 H locs ls hfu123 hk h00 hF hq7 hd hu hP hS hl
      have h05 : M1 0 5 = nI n := by rw [hF 0 5 (by decide) (by decide) (by decide)]; exact hR.2.1
      have h12 : M1 0 12 = nI nc := by rw [hF 0 12 (by decide) (by decide) (by decide)]; exact hRR.2.1
      have h5 : ∀ q, q < n → M1 5 q = nI (us q) := fun q hq => by rw [hF 5 q (by decide) (by decide) (by omega)]; exact (hU q hq).2
      have hk1 := Cnt_le (soB st a) k
      have hk2 := Cnt_le (eqB rw_ a) (3 * rc)
      refine lv_iload hx hb d_M_rename_123 (lv_at hl 4 rfl) ?_
      refine lv_aload_n hx hb d_M_rename_125 rfl (lv_at hl 0 rfl) ?_
      refine g_get (C := R_M) (T := T_M) (N := 19) (ci := 8) (v := .int (M1 0 5)) hx hb hg i_M hown hK hP 0 (by decide) rfl rfl 5 (by decide) (hg _ k_798) rfl d_M_rename_126 ?_
      refine n_top (y := (nI (n))) (h05) ?_
      refine n_ge (a := k) (b := n) (tgt := 163) hx hb d_M_rename_129 (by decide) (by omega) (by omega) (fun c_129 => ?_) (fun c_129 => ?_)
      · have e9 : k = n := by omega
        rw [e9] at hl hd hk1
        have hl : lv_has ls 5 [(0, .ref (ad (0))), (1, .int (nI (a))), (2, .int (nI (b9))), (3, .int (nI (Cnt (eqB rw_ a) (3 * rc) + Cnt (soB st a) n))), (4, .int (nI (n)))] := hl
        refine lv_aload_n hx hb d_M_rename_163 rfl (lv_at hl 0 rfl) ?_
        refine g_get (C := R_M) (T := T_M) (N := 19) (ci := 8) (v := .ref (ad (6))) hx hb hg i_M hown hK hP 0 (by decide) rfl rfl 8 (by decide) (hg _ k_801) rfl d_M_rename_164 ?_
        refine lv_iload_n hx hb d_M_rename_167 rfl (lv_at hl 1 rfl) ?_
        refine g_iald hx hb hK hP 6 0 (by decide) rfl rfl (by decide) (j := a) (by omega) d_M_rename_168 ?_
        refine n_top (y := (oI (st a))) (by rw [hd a (by omega), hsa]) ?_
        refine o_lt (o := st a) (tgt := 194) hx hb d_M_rename_169 (by decide) (fun q e => by have := hS6.2 _ q ha e; omega) (fun c_169 => ?_) (fun v_169 c_169 => ?_)
        · refine lv_iload_n hx hb d_M_rename_194 rfl (lv_at hl 3 rfl) ?_
          refine lv_aload_n hx hb d_M_rename_195 rfl (lv_at hl 0 rfl) ?_
          refine g_get (C := R_M) (T := T_M) (N := 19) (ci := 8) (v := .ref (ad (5))) hx hb hg i_M hown hK hP 0 (by decide) rfl rfl 7 (by decide) (hg _ k_800) rfl d_M_rename_196 ?_
          refine lv_iload_n hx hb d_M_rename_199 rfl (lv_at hl 1 rfl) ?_
          refine g_iald hx hb hK hP 5 0 (by decide) rfl rfl (by decide) (j := a) (by omega) d_M_rename_200 ?_
          refine n_top (y := (nI (us (a)))) (h5 (a) (by omega)) ?_
          refine lv_if_le (tgt := 208) hx hb d_M_rename_201 (by decide) (fun c_201 => ?_) (fun c_201 => ?_)
          · replace c_201 : us (a) = 0 := (nI_le0 (by omega)).mp c_201
            refine n_const (k := 0) hx hb d_M_rename_208 (by decide) ?_
            refine n_iadd (a := Cnt (eqB rw_ a) (3 * rc) + Cnt (soB st a) n) (b := 0) hx hb d_M_rename_209 ?_
            refine lv_istore_n (lv' := [(3, .int (nI ((Cnt (eqB rw_ a) (3 * rc) + Cnt (soB st a) n) + (0)))), (0, .ref (ad (0))), (1, .int (nI (a))), (2, .int (nI (b9))), (4, .int (nI (n)))]) hx hb d_M_rename_210 rfl hl (by decide) rfl (fun ls hl => ?_)
            refine lv_aload_n hx hb d_M_rename_211 rfl (lv_at hl 1 rfl) ?_
            refine g_get (C := R_M) (T := T_M) (N := 19) (ci := 8) (v := .ref (ad (5))) hx hb hg i_M hown hK hP 0 (by decide) rfl rfl 7 (by decide) (hg _ k_800) rfl d_M_rename_212 ?_
            refine lv_iload_n hx hb d_M_rename_215 rfl (lv_at hl 3 rfl) ?_
            refine lv_dup2_11 hx hb d_M_rename_216 rfl rfl ?_
            refine g_iald hx hb hK hP 5 0 (by decide) rfl rfl (by decide) (j := b9) (by omega) d_M_rename_217 ?_
            refine n_top (y := (nI (us (b9)))) (h5 (b9) (by omega)) ?_
            refine lv_aload_n hx hb d_M_rename_218 rfl (lv_at hl 1 rfl) ?_
            refine g_get (C := R_M) (T := T_M) (N := 19) (ci := 8) (v := .ref (ad (5))) hx hb hg i_M hown hK hP 0 (by decide) rfl rfl 7 (by decide) (hg _ k_800) rfl d_M_rename_219 ?_
            refine lv_iload_n hx hb d_M_rename_222 rfl (lv_at hl 2 rfl) ?_
            refine g_iald hx hb hK hP 5 0 (by decide) rfl rfl (by decide) (j := a) (by omega) d_M_rename_223 ?_
            refine n_top (y := (nI (us (a)))) (h5 (a) (by omega)) ?_
            refine n_iadd (a := us (b9)) (b := us (a)) hx hb d_M_rename_224 ?_
            refine g_iast hx hb hK hI (fun _ h => h) hP hS 5 0 (by decide) (fun _ => rfl) rfl (by decide) (j := b9) (by omega) (v := (nI ((us (b9)) + (us (a))))) d_M_rename_225 (fun H locs hP hS => ?_)
            obtain ⟨M_1, eM_1⟩ : ∃ z : PM, z = (pu M1 5 (b9) ((nI ((us (b9)) + (us (a)))))) := ⟨_, rfl⟩
            rw [← eM_1] at hP
            refine lv_aload_n hx hb d_M_rename_226 rfl (lv_at hl 1 rfl) ?_
            refine g_get (C := R_M) (T := T_M) (N := 19) (ci := 8) (v := .ref (ad (5))) hx hb hg i_M hown hK hP 0 (by decide) rfl rfl 7 (by decide) (hg _ k_800) rfl d_M_rename_227 ?_
            refine lv_iload_n hx hb d_M_rename_230 rfl (lv_at hl 2 rfl) ?_
            refine n_const (k := 0) hx hb d_M_rename_231 (by decide) ?_
            refine g_iast hx hb hK hI (fun _ h => h) hP hS 5 0 (by decide) (fun _ => rfl) rfl (by decide) (j := a) (by omega) (v := (nI (0))) d_M_rename_232 (fun H locs hP hS => ?_)
            obtain ⟨M_2, eM_2⟩ : ∃ z : PM, z = (pu M_1 5 (a) ((nI (0)))) := ⟨_, rfl⟩
            rw [← eM_2] at hP
            refine lv_aload_n hx hb d_M_rename_233 rfl (lv_at hl 1 rfl) ?_
            refine g_get (C := R_M) (T := T_M) (N := 19) (ci := 8) (v := .ref (ad (8))) hx hb hg i_M hown hK hP 0 (by decide) rfl rfl 11 (by decide) (hg _ k_804) rfl d_M_rename_234 ?_
            refine n_const (k := 2) hx hb d_M_rename_237 (by decide) ?_
            refine lv_aload_n hx hb d_M_rename_238 rfl (lv_at hl 1 rfl) ?_
            refine g_get (C := R_M) (T := T_M) (N := 19) (ci := 8) (v := .int (M_2 0 12)) hx hb hg i_M hown hK hP 0 (by decide) rfl rfl 12 (by decide) (hg _ k_805) rfl d_M_rename_239 ?_
            refine n_top (y := (nI (nc))) (by rw [eM_2, pu_k _ _ _ _ _ (by first | decide | omega), eM_1, pu_k _ _ _ _ _ (by first | decide | omega)]; exact h12) ?_
            refine n_imul (a := 2) (b := nc) hx hb d_M_rename_242 ?_
            refine lv_iload_n hx hb d_M_rename_243 rfl (lv_at hl 2 rfl) ?_
            refine g_iast hx hb hK hI (fun _ h => h) hP hS 8 0 (by decide) (fun _ => rfl) rfl (by decide) (j := (2) * (nc)) (by omega) (v := (nI (a))) d_M_rename_244 (fun H locs hP hS => ?_)
            obtain ⟨M_3, eM_3⟩ : ∃ z : PM, z = (pu M_2 8 ((2) * (nc)) ((nI (a)))) := ⟨_, rfl⟩
            rw [← eM_3] at hP
            refine lv_aload_n hx hb d_M_rename_245 rfl (lv_at hl 1 rfl) ?_
            refine g_get (C := R_M) (T := T_M) (N := 19) (ci := 8) (v := .ref (ad (8))) hx hb hg i_M hown hK hP 0 (by decide) rfl rfl 11 (by decide) (hg _ k_804) rfl d_M_rename_246 ?_
            refine n_const (k := 2) hx hb d_M_rename_249 (by decide) ?_
            refine lv_aload_n hx hb d_M_rename_250 rfl (lv_at hl 1 rfl) ?_
            refine g_get (C := R_M) (T := T_M) (N := 19) (ci := 8) (v := .int (M_3 0 12)) hx hb hg i_M hown hK hP 0 (by decide) rfl rfl 12 (by decide) (hg _ k_805) rfl d_M_rename_251 ?_
            refine n_top (y := (nI (nc))) (by rw [eM_3, pu_k _ _ _ _ _ (by first | decide | omega), eM_2, pu_k _ _ _ _ _ (by first | decide | omega), eM_1, pu_k _ _ _ _ _ (by first | decide | omega)]; exact h12) ?_
            refine n_imul (a := 2) (b := nc) hx hb d_M_rename_254 ?_
            refine n_const (k := 1) hx hb d_M_rename_255 (by decide) ?_
            refine n_iadd (a := (2) * (nc)) (b := 1) hx hb d_M_rename_256 ?_
            refine lv_iload_n hx hb d_M_rename_257 rfl (lv_at hl 3 rfl) ?_
            refine g_iast hx hb hK hI (fun _ h => h) hP hS 8 0 (by decide) (fun _ => rfl) rfl (by decide) (j := ((2) * (nc)) + (1)) (by omega) (v := (nI (b9))) d_M_rename_258 (fun H locs hP hS => ?_)
            obtain ⟨M_4, eM_4⟩ : ∃ z : PM, z = (pu M_3 8 (((2) * (nc)) + (1)) ((nI (b9)))) := ⟨_, rfl⟩
            rw [← eM_4] at hP
            refine lv_aload_n hx hb d_M_rename_259 rfl (lv_at hl 1 rfl) ?_
            refine lv_dup hx hb d_M_rename_260 rfl ?_
            refine g_get (C := R_M) (T := T_M) (N := 19) (ci := 8) (v := .int (M_4 0 12)) hx hb hg i_M hown hK hP 0 (by decide) rfl rfl 12 (by decide) (hg _ k_805) rfl d_M_rename_261 ?_
            refine n_top (y := (nI (nc))) (by rw [eM_4, pu_k _ _ _ _ _ (by first | decide | omega), eM_3, pu_k _ _ _ _ _ (by first | decide | omega), eM_2, pu_k _ _ _ _ _ (by first | decide | omega), eM_1, pu_k _ _ _ _ _ (by first | decide | omega)]; exact h12) ?_
            refine n_const (k := 1) hx hb d_M_rename_264 (by decide) ?_
            refine n_iadd (a := nc) (b := 1) hx hb d_M_rename_265 ?_
            refine g_put (C := R_M) (T := T_M) (N := 19) (ci := 8) (v := (nI ((nc) + (1)))) hx hb hg i_M ty_M t_M_ok n_M hown hK hI (fun _ h => h) hP hS 0 (by decide) rfl rfl 12 (by decide) (hg _ k_805) rfl (by decide +kernel) (Nat.le_of_ble_eq_true rfl) rfl d_M_rename_266 (fun H locs hP hS => ?_)
            obtain ⟨M_5, eM_5⟩ : ∃ z : PM, z = (pu M_4 0 12 ((nI ((nc) + (1))))) := ⟨_, rfl⟩
            rw [← eM_5] at hP
            refine lv_iload_n hx hb d_M_rename_269 rfl (lv_at hl 0 rfl) ?_
            exact r_i hx hb hr hlocks hP hS (⟨by unfold plR; simp [c_169, c_201]; try omega, (by
      refine ⟨fun q hq => ?_, fun q hq => ?_, fun q hq => ?_, ?_, ?_, fun q hq => ?_, ?_, ?_, fun p9 q h5' h6' h7' h8' h0' => ?_⟩
      · rw [eM_5, eM_4, eM_3, eM_2, eM_1]; simp [pu_eq]; exact hq7 q hq
      · rw [eM_5, eM_4, eM_3, eM_2, eM_1]; simp only [pu_eq]; simp; have hdq := hd q hq; unfold stR; simp only [c_169]; simp; by_cases z1 : q = a <;> by_cases z2 : q = b9 <;> simp_all [oI]
      · rw [eM_5, eM_4, eM_3, eM_2, eM_1]; simp only [pu_eq]; simp; have h5q := h5 q hq; unfold usR; by_cases z1 : q = a <;> by_cases z2 : q = b9 <;> simp_all [nI_0]
      · rw [eM_5, eM_4, eM_3, eM_2, eM_1]; simp [pu_eq]
      · rw [eM_5, eM_4, eM_3, eM_2, eM_1]; simp [pu_eq]
      · rw [eM_5, eM_4, eM_3, eM_2, eM_1]; simp only [pu_eq]; simp; rw [if_neg (by omega), if_neg (by omega)]; exact hF 8 q (by decide) (by decide) (by omega)
      · rw [eM_5, eM_4, eM_3, eM_2, eM_1]; simp [pu_eq]
      · rw [eM_5, eM_4, eM_3, eM_2, eM_1]; simp [pu_eq]; exact h00
      · rw [eM_5, eM_4, eM_3, eM_2, eM_1]; simp only [pu_eq]; simp only [h5', h6', h7', h8', false_and, if_false]; rw [if_neg (by omega)]; exact hF p9 q h7' h6' (by omega))⟩) d_M_rename_270
          · replace c_201 : ¬ us (a) = 0 := fun q => c_201 ((nI_le0 (by omega)).mpr q)
            refine n_const (k := 1) hx hb d_M_rename_204 (by decide) ?_
            refine lv_goto (tgt := 209) hx hb d_M_rename_205 (by decide) ?_
            refine n_iadd (a := Cnt (eqB rw_ a) (3 * rc) + Cnt (soB st a) n) (b := 1) hx hb d_M_rename_209 ?_
            refine lv_istore_n (lv' := [(3, .int (nI ((Cnt (eqB rw_ a) (3 * rc) + Cnt (soB st a) n) + (1)))), (0, .ref (ad (0))), (1, .int (nI (a))), (2, .int (nI (b9))), (4, .int (nI (n)))]) hx hb d_M_rename_210 rfl hl (by decide) rfl (fun ls hl => ?_)
            refine lv_aload_n hx hb d_M_rename_211 rfl (lv_at hl 1 rfl) ?_
            refine g_get (C := R_M) (T := T_M) (N := 19) (ci := 8) (v := .ref (ad (5))) hx hb hg i_M hown hK hP 0 (by decide) rfl rfl 7 (by decide) (hg _ k_800) rfl d_M_rename_212 ?_
            refine lv_iload_n hx hb d_M_rename_215 rfl (lv_at hl 3 rfl) ?_
            refine lv_dup2_11 hx hb d_M_rename_216 rfl rfl ?_
            refine g_iald hx hb hK hP 5 0 (by decide) rfl rfl (by decide) (j := b9) (by omega) d_M_rename_217 ?_
            refine n_top (y := (nI (us (b9)))) (h5 (b9) (by omega)) ?_
            refine lv_aload_n hx hb d_M_rename_218 rfl (lv_at hl 1 rfl) ?_
            refine g_get (C := R_M) (T := T_M) (N := 19) (ci := 8) (v := .ref (ad (5))) hx hb hg i_M hown hK hP 0 (by decide) rfl rfl 7 (by decide) (hg _ k_800) rfl d_M_rename_219 ?_
            refine lv_iload_n hx hb d_M_rename_222 rfl (lv_at hl 2 rfl) ?_
            refine g_iald hx hb hK hP 5 0 (by decide) rfl rfl (by decide) (j := a) (by omega) d_M_rename_223 ?_
            refine n_top (y := (nI (us (a)))) (h5 (a) (by omega)) ?_
            refine n_iadd (a := us (b9)) (b := us (a)) hx hb d_M_rename_224 ?_
            refine g_iast hx hb hK hI (fun _ h => h) hP hS 5 0 (by decide) (fun _ => rfl) rfl (by decide) (j := b9) (by omega) (v := (nI ((us (b9)) + (us (a))))) d_M_rename_225 (fun H locs hP hS => ?_)
            obtain ⟨M_6, eM_6⟩ : ∃ z : PM, z = (pu M1 5 (b9) ((nI ((us (b9)) + (us (a)))))) := ⟨_, rfl⟩
            rw [← eM_6] at hP
            refine lv_aload_n hx hb d_M_rename_226 rfl (lv_at hl 1 rfl) ?_
            refine g_get (C := R_M) (T := T_M) (N := 19) (ci := 8) (v := .ref (ad (5))) hx hb hg i_M hown hK hP 0 (by decide) rfl rfl 7 (by decide) (hg _ k_800) rfl d_M_rename_227 ?_
            refine lv_iload_n hx hb d_M_rename_230 rfl (lv_at hl 2 rfl) ?_
            refine n_const (k := 0) hx hb d_M_rename_231 (by decide) ?_
            refine g_iast hx hb hK hI (fun _ h => h) hP hS 5 0 (by decide) (fun _ => rfl) rfl (by decide) (j := a) (by omega) (v := (nI (0))) d_M_rename_232 (fun H locs hP hS => ?_)
            obtain ⟨M_7, eM_7⟩ : ∃ z : PM, z = (pu M_6 5 (a) ((nI (0)))) := ⟨_, rfl⟩
            rw [← eM_7] at hP
            refine lv_aload_n hx hb d_M_rename_233 rfl (lv_at hl 1 rfl) ?_
            refine g_get (C := R_M) (T := T_M) (N := 19) (ci := 8) (v := .ref (ad (8))) hx hb hg i_M hown hK hP 0 (by decide) rfl rfl 11 (by decide) (hg _ k_804) rfl d_M_rename_234 ?_
            refine n_const (k := 2) hx hb d_M_rename_237 (by decide) ?_
            refine lv_aload_n hx hb d_M_rename_238 rfl (lv_at hl 1 rfl) ?_
            refine g_get (C := R_M) (T := T_M) (N := 19) (ci := 8) (v := .int (M_7 0 12)) hx hb hg i_M hown hK hP 0 (by decide) rfl rfl 12 (by decide) (hg _ k_805) rfl d_M_rename_239 ?_
            refine n_top (y := (nI (nc))) (by rw [eM_7, pu_k _ _ _ _ _ (by first | decide | omega), eM_6, pu_k _ _ _ _ _ (by first | decide | omega)]; exact h12) ?_
            refine n_imul (a := 2) (b := nc) hx hb d_M_rename_242 ?_
            refine lv_iload_n hx hb d_M_rename_243 rfl (lv_at hl 2 rfl) ?_
            refine g_iast hx hb hK hI (fun _ h => h) hP hS 8 0 (by decide) (fun _ => rfl) rfl (by decide) (j := (2) * (nc)) (by omega) (v := (nI (a))) d_M_rename_244 (fun H locs hP hS => ?_)
            obtain ⟨M_8, eM_8⟩ : ∃ z : PM, z = (pu M_7 8 ((2) * (nc)) ((nI (a)))) := ⟨_, rfl⟩
            rw [← eM_8] at hP
            refine lv_aload_n hx hb d_M_rename_245 rfl (lv_at hl 1 rfl) ?_
            refine g_get (C := R_M) (T := T_M) (N := 19) (ci := 8) (v := .ref (ad (8))) hx hb hg i_M hown hK hP 0 (by decide) rfl rfl 11 (by decide) (hg _ k_804) rfl d_M_rename_246 ?_
            refine n_const (k := 2) hx hb d_M_rename_249 (by decide) ?_
            refine lv_aload_n hx hb d_M_rename_250 rfl (lv_at hl 1 rfl) ?_
            refine g_get (C := R_M) (T := T_M) (N := 19) (ci := 8) (v := .int (M_8 0 12)) hx hb hg i_M hown hK hP 0 (by decide) rfl rfl 12 (by decide) (hg _ k_805) rfl d_M_rename_251 ?_
            refine n_top (y := (nI (nc))) (by rw [eM_8, pu_k _ _ _ _ _ (by first | decide | omega), eM_7, pu_k _ _ _ _ _ (by first | decide | omega), eM_6, pu_k _ _ _ _ _ (by first | decide | omega)]; exact h12) ?_
            refine n_imul (a := 2) (b := nc) hx hb d_M_rename_254 ?_
            refine n_const (k := 1) hx hb d_M_rename_255 (by decide) ?_
            refine n_iadd (a := (2) * (nc)) (b := 1) hx hb d_M_rename_256 ?_
            refine lv_iload_n hx hb d_M_rename_257 rfl (lv_at hl 3 rfl) ?_
            refine g_iast hx hb hK hI (fun _ h => h) hP hS 8 0 (by decide) (fun _ => rfl) rfl (by decide) (j := ((2) * (nc)) + (1)) (by omega) (v := (nI (b9))) d_M_rename_258 (fun H locs hP hS => ?_)
            obtain ⟨M_9, eM_9⟩ : ∃ z : PM, z = (pu M_8 8 (((2) * (nc)) + (1)) ((nI (b9)))) := ⟨_, rfl⟩
            rw [← eM_9] at hP
            refine lv_aload_n hx hb d_M_rename_259 rfl (lv_at hl 1 rfl) ?_
            refine lv_dup hx hb d_M_rename_260 rfl ?_
            refine g_get (C := R_M) (T := T_M) (N := 19) (ci := 8) (v := .int (M_9 0 12)) hx hb hg i_M hown hK hP 0 (by decide) rfl rfl 12 (by decide) (hg _ k_805) rfl d_M_rename_261 ?_
            refine n_top (y := (nI (nc))) (by rw [eM_9, pu_k _ _ _ _ _ (by first | decide | omega), eM_8, pu_k _ _ _ _ _ (by first | decide | omega), eM_7, pu_k _ _ _ _ _ (by first | decide | omega), eM_6, pu_k _ _ _ _ _ (by first | decide | omega)]; exact h12) ?_
            refine n_const (k := 1) hx hb d_M_rename_264 (by decide) ?_
            refine n_iadd (a := nc) (b := 1) hx hb d_M_rename_265 ?_
            refine g_put (C := R_M) (T := T_M) (N := 19) (ci := 8) (v := (nI ((nc) + (1)))) hx hb hg i_M ty_M t_M_ok n_M hown hK hI (fun _ h => h) hP hS 0 (by decide) rfl rfl 12 (by decide) (hg _ k_805) rfl (by decide +kernel) (Nat.le_of_ble_eq_true rfl) rfl d_M_rename_266 (fun H locs hP hS => ?_)
            obtain ⟨M_10, eM_10⟩ : ∃ z : PM, z = (pu M_9 0 12 ((nI ((nc) + (1))))) := ⟨_, rfl⟩
            rw [← eM_10] at hP
            refine lv_iload_n hx hb d_M_rename_269 rfl (lv_at hl 0 rfl) ?_
            exact r_i hx hb hr hlocks hP hS (⟨by unfold plR; simp [c_169, c_201]; try omega, (by
      refine ⟨fun q hq => ?_, fun q hq => ?_, fun q hq => ?_, ?_, ?_, fun q hq => ?_, ?_, ?_, fun p9 q h5' h6' h7' h8' h0' => ?_⟩
      · rw [eM_10, eM_9, eM_8, eM_7, eM_6]; simp [pu_eq]; exact hq7 q hq
      · rw [eM_10, eM_9, eM_8, eM_7, eM_6]; simp only [pu_eq]; simp; have hdq := hd q hq; unfold stR; simp only [c_169]; simp; by_cases z1 : q = a <;> by_cases z2 : q = b9 <;> simp_all [oI]
      · rw [eM_10, eM_9, eM_8, eM_7, eM_6]; simp only [pu_eq]; simp; have h5q := h5 q hq; unfold usR; by_cases z1 : q = a <;> by_cases z2 : q = b9 <;> simp_all [nI_0]
      · rw [eM_10, eM_9, eM_8, eM_7, eM_6]; simp [pu_eq]
      · rw [eM_10, eM_9, eM_8, eM_7, eM_6]; simp [pu_eq]
      · rw [eM_10, eM_9, eM_8, eM_7, eM_6]; simp only [pu_eq]; simp; rw [if_neg (by omega), if_neg (by omega)]; exact hF 8 q (by decide) (by decide) (by omega)
      · rw [eM_10, eM_9, eM_8, eM_7, eM_6]; simp [pu_eq]
      · rw [eM_10, eM_9, eM_8, eM_7, eM_6]; simp [pu_eq]; exact h00
      · rw [eM_10, eM_9, eM_8, eM_7, eM_6]; simp only [pu_eq]; simp only [h5', h6', h7', h8', false_and, if_false]; rw [if_neg (by omega)]; exact hF p9 q h7' h6' (by omega))⟩) d_M_rename_270
        · refine lv_aload_n hx hb d_M_rename_172 rfl (lv_at hl 0 rfl) ?_
          refine g_get (C := R_M) (T := T_M) (N := 19) (ci := 8) (v := .ref (ad (6))) hx hb hg i_M hown hK hP 0 (by decide) rfl rfl 8 (by decide) (hg _ k_801) rfl d_M_rename_173 ?_
          refine lv_iload_n hx hb d_M_rename_176 rfl (lv_at hl 2 rfl) ?_
          refine lv_aload_n hx hb d_M_rename_177 rfl (lv_at hl 0 rfl) ?_
          refine g_get (C := R_M) (T := T_M) (N := 19) (ci := 8) (v := .ref (ad (6))) hx hb hg i_M hown hK hP 0 (by decide) rfl rfl 8 (by decide) (hg _ k_801) rfl d_M_rename_178 ?_
          refine lv_iload_n hx hb d_M_rename_181 rfl (lv_at hl 1 rfl) ?_
          refine g_iald hx hb hK hP 6 0 (by decide) rfl rfl (by decide) (j := a) (by omega) d_M_rename_182 ?_
          refine n_top (y := (oI (st a))) (by rw [hd a (by omega), hsa]) ?_
          refine g_iast hx hb hK hI (fun _ h => h) hP hS 6 0 (by decide) (fun _ => rfl) rfl (by decide) (j := b9) (by omega) (v := (oI (st a))) d_M_rename_183 (fun H locs hP hS => ?_)
          obtain ⟨M_11, eM_11⟩ : ∃ z : PM, z = (pu M1 6 (b9) ((oI (st a)))) := ⟨_, rfl⟩
          rw [← eM_11] at hP
          refine lv_aload_n hx hb d_M_rename_184 rfl (lv_at hl 0 rfl) ?_
          refine g_get (C := R_M) (T := T_M) (N := 19) (ci := 8) (v := .ref (ad (6))) hx hb hg i_M hown hK hP 0 (by decide) rfl rfl 8 (by decide) (hg _ k_801) rfl d_M_rename_185 ?_
          refine lv_iload_n hx hb d_M_rename_188 rfl (lv_at hl 1 rfl) ?_
          refine lv_iconst (v := -1) hx hb d_M_rename_189 (by decide) ?_
          refine g_iast hx hb hK hI (fun _ h => h) hP hS 6 0 (by decide) (fun _ => rfl) rfl (by decide) (j := a) (by omega) (v := (-1)) d_M_rename_190 (fun H locs hP hS => ?_)
          obtain ⟨M_12, eM_12⟩ : ∃ z : PM, z = (pu M_11 6 (a) ((-1))) := ⟨_, rfl⟩
          rw [← eM_12] at hP
          refine n_inc (lv' := [(3, .int (nI (Cnt (eqB rw_ a) (3 * rc) + Cnt (soB st a) n + 1))), (0, .ref (ad (0))), (1, .int (nI (a))), (2, .int (nI (b9))), (4, .int (nI (n)))]) hx hb d_M_rename_191 hl (k := 3) rfl (by decide) rfl (fun ls hl => ?_)
          refine lv_iload_n hx hb d_M_rename_194 rfl (lv_at hl 0 rfl) ?_
          refine lv_aload_n hx hb d_M_rename_195 rfl (lv_at hl 1 rfl) ?_
          refine g_get (C := R_M) (T := T_M) (N := 19) (ci := 8) (v := .ref (ad (5))) hx hb hg i_M hown hK hP 0 (by decide) rfl rfl 7 (by decide) (hg _ k_800) rfl d_M_rename_196 ?_
          refine lv_iload_n hx hb d_M_rename_199 rfl (lv_at hl 2 rfl) ?_
          refine g_iald hx hb hK hP 5 0 (by decide) rfl rfl (by decide) (j := a) (by omega) d_M_rename_200 ?_
          refine n_top (y := (nI (us (a)))) (by rw [eM_12, pu_k _ _ _ _ _ (by first | decide | omega), eM_11, pu_k _ _ _ _ _ (by first | decide | omega)]; exact h5 (a) (by omega)) ?_
          refine lv_if_le (tgt := 208) hx hb d_M_rename_201 (by decide) (fun c_201 => ?_) (fun c_201 => ?_)
          · replace c_201 : us (a) = 0 := (nI_le0 (by omega)).mp c_201
            refine n_const (k := 0) hx hb d_M_rename_208 (by decide) ?_
            refine n_iadd (a := Cnt (eqB rw_ a) (3 * rc) + Cnt (soB st a) n + 1) (b := 0) hx hb d_M_rename_209 ?_
            refine lv_istore_n (lv' := [(3, .int (nI ((Cnt (eqB rw_ a) (3 * rc) + Cnt (soB st a) n + 1) + (0)))), (0, .ref (ad (0))), (1, .int (nI (a))), (2, .int (nI (b9))), (4, .int (nI (n)))]) hx hb d_M_rename_210 rfl hl (by decide) rfl (fun ls hl => ?_)
            refine lv_aload_n hx hb d_M_rename_211 rfl (lv_at hl 1 rfl) ?_
            refine g_get (C := R_M) (T := T_M) (N := 19) (ci := 8) (v := .ref (ad (5))) hx hb hg i_M hown hK hP 0 (by decide) rfl rfl 7 (by decide) (hg _ k_800) rfl d_M_rename_212 ?_
            refine lv_iload_n hx hb d_M_rename_215 rfl (lv_at hl 3 rfl) ?_
            refine lv_dup2_11 hx hb d_M_rename_216 rfl rfl ?_
            refine g_iald hx hb hK hP 5 0 (by decide) rfl rfl (by decide) (j := b9) (by omega) d_M_rename_217 ?_
            refine n_top (y := (nI (us (b9)))) (by rw [eM_12, pu_k _ _ _ _ _ (by first | decide | omega), eM_11, pu_k _ _ _ _ _ (by first | decide | omega)]; exact h5 (b9) (by omega)) ?_
            refine lv_aload_n hx hb d_M_rename_218 rfl (lv_at hl 1 rfl) ?_
            refine g_get (C := R_M) (T := T_M) (N := 19) (ci := 8) (v := .ref (ad (5))) hx hb hg i_M hown hK hP 0 (by decide) rfl rfl 7 (by decide) (hg _ k_800) rfl d_M_rename_219 ?_
            refine lv_iload_n hx hb d_M_rename_222 rfl (lv_at hl 2 rfl) ?_
            refine g_iald hx hb hK hP 5 0 (by decide) rfl rfl (by decide) (j := a) (by omega) d_M_rename_223 ?_
            refine n_top (y := (nI (us (a)))) (by rw [eM_12, pu_k _ _ _ _ _ (by first | decide | omega), eM_11, pu_k _ _ _ _ _ (by first | decide | omega)]; exact h5 (a) (by omega)) ?_
            refine n_iadd (a := us (b9)) (b := us (a)) hx hb d_M_rename_224 ?_
            refine g_iast hx hb hK hI (fun _ h => h) hP hS 5 0 (by decide) (fun _ => rfl) rfl (by decide) (j := b9) (by omega) (v := (nI ((us (b9)) + (us (a))))) d_M_rename_225 (fun H locs hP hS => ?_)
            obtain ⟨M_13, eM_13⟩ : ∃ z : PM, z = (pu M_12 5 (b9) ((nI ((us (b9)) + (us (a)))))) := ⟨_, rfl⟩
            rw [← eM_13] at hP
            refine lv_aload_n hx hb d_M_rename_226 rfl (lv_at hl 1 rfl) ?_
            refine g_get (C := R_M) (T := T_M) (N := 19) (ci := 8) (v := .ref (ad (5))) hx hb hg i_M hown hK hP 0 (by decide) rfl rfl 7 (by decide) (hg _ k_800) rfl d_M_rename_227 ?_
            refine lv_iload_n hx hb d_M_rename_230 rfl (lv_at hl 2 rfl) ?_
            refine n_const (k := 0) hx hb d_M_rename_231 (by decide) ?_
            refine g_iast hx hb hK hI (fun _ h => h) hP hS 5 0 (by decide) (fun _ => rfl) rfl (by decide) (j := a) (by omega) (v := (nI (0))) d_M_rename_232 (fun H locs hP hS => ?_)
            obtain ⟨M_14, eM_14⟩ : ∃ z : PM, z = (pu M_13 5 (a) ((nI (0)))) := ⟨_, rfl⟩
            rw [← eM_14] at hP
            refine lv_aload_n hx hb d_M_rename_233 rfl (lv_at hl 1 rfl) ?_
            refine g_get (C := R_M) (T := T_M) (N := 19) (ci := 8) (v := .ref (ad (8))) hx hb hg i_M hown hK hP 0 (by decide) rfl rfl 11 (by decide) (hg _ k_804) rfl d_M_rename_234 ?_
            refine n_const (k := 2) hx hb d_M_rename_237 (by decide) ?_
            refine lv_aload_n hx hb d_M_rename_238 rfl (lv_at hl 1 rfl) ?_
            refine g_get (C := R_M) (T := T_M) (N := 19) (ci := 8) (v := .int (M_14 0 12)) hx hb hg i_M hown hK hP 0 (by decide) rfl rfl 12 (by decide) (hg _ k_805) rfl d_M_rename_239 ?_
            refine n_top (y := (nI (nc))) (by rw [eM_14, pu_k _ _ _ _ _ (by first | decide | omega), eM_13, pu_k _ _ _ _ _ (by first | decide | omega), eM_12, pu_k _ _ _ _ _ (by first | decide | omega), eM_11, pu_k _ _ _ _ _ (by first | decide | omega)]; exact h12) ?_
            refine n_imul (a := 2) (b := nc) hx hb d_M_rename_242 ?_
            refine lv_iload_n hx hb d_M_rename_243 rfl (lv_at hl 2 rfl) ?_
            refine g_iast hx hb hK hI (fun _ h => h) hP hS 8 0 (by decide) (fun _ => rfl) rfl (by decide) (j := (2) * (nc)) (by omega) (v := (nI (a))) d_M_rename_244 (fun H locs hP hS => ?_)
            obtain ⟨M_15, eM_15⟩ : ∃ z : PM, z = (pu M_14 8 ((2) * (nc)) ((nI (a)))) := ⟨_, rfl⟩
            rw [← eM_15] at hP
            refine lv_aload_n hx hb d_M_rename_245 rfl (lv_at hl 1 rfl) ?_
            refine g_get (C := R_M) (T := T_M) (N := 19) (ci := 8) (v := .ref (ad (8))) hx hb hg i_M hown hK hP 0 (by decide) rfl rfl 11 (by decide) (hg _ k_804) rfl d_M_rename_246 ?_
            refine n_const (k := 2) hx hb d_M_rename_249 (by decide) ?_
            refine lv_aload_n hx hb d_M_rename_250 rfl (lv_at hl 1 rfl) ?_
            refine g_get (C := R_M) (T := T_M) (N := 19) (ci := 8) (v := .int (M_15 0 12)) hx hb hg i_M hown hK hP 0 (by decide) rfl rfl 12 (by decide) (hg _ k_805) rfl d_M_rename_251 ?_
            refine n_top (y := (nI (nc))) (by rw [eM_15, pu_k _ _ _ _ _ (by first | decide | omega), eM_14, pu_k _ _ _ _ _ (by first | decide | omega), eM_13, pu_k _ _ _ _ _ (by first | decide | omega), eM_12, pu_k _ _ _ _ _ (by first | decide | omega), eM_11, pu_k _ _ _ _ _ (by first | decide | omega)]; exact h12) ?_
            refine n_imul (a := 2) (b := nc) hx hb d_M_rename_254 ?_
            refine n_const (k := 1) hx hb d_M_rename_255 (by decide) ?_
            refine n_iadd (a := (2) * (nc)) (b := 1) hx hb d_M_rename_256 ?_
            refine lv_iload_n hx hb d_M_rename_257 rfl (lv_at hl 3 rfl) ?_
            refine g_iast hx hb hK hI (fun _ h => h) hP hS 8 0 (by decide) (fun _ => rfl) rfl (by decide) (j := ((2) * (nc)) + (1)) (by omega) (v := (nI (b9))) d_M_rename_258 (fun H locs hP hS => ?_)
            obtain ⟨M_16, eM_16⟩ : ∃ z : PM, z = (pu M_15 8 (((2) * (nc)) + (1)) ((nI (b9)))) := ⟨_, rfl⟩
            rw [← eM_16] at hP
            refine lv_aload_n hx hb d_M_rename_259 rfl (lv_at hl 1 rfl) ?_
            refine lv_dup hx hb d_M_rename_260 rfl ?_
            refine g_get (C := R_M) (T := T_M) (N := 19) (ci := 8) (v := .int (M_16 0 12)) hx hb hg i_M hown hK hP 0 (by decide) rfl rfl 12 (by decide) (hg _ k_805) rfl d_M_rename_261 ?_
            refine n_top (y := (nI (nc))) (by rw [eM_16, pu_k _ _ _ _ _ (by first | decide | omega), eM_15, pu_k _ _ _ _ _ (by first | decide | omega), eM_14, pu_k _ _ _ _ _ (by first | decide | omega), eM_13, pu_k _ _ _ _ _ (by first | decide | omega), eM_12, pu_k _ _ _ _ _ (by first | decide | omega), eM_11, pu_k _ _ _ _ _ (by first | decide | omega)]; exact h12) ?_
            refine n_const (k := 1) hx hb d_M_rename_264 (by decide) ?_
            refine n_iadd (a := nc) (b := 1) hx hb d_M_rename_265 ?_
            refine g_put (C := R_M) (T := T_M) (N := 19) (ci := 8) (v := (nI ((nc) + (1)))) hx hb hg i_M ty_M t_M_ok n_M hown hK hI (fun _ h => h) hP hS 0 (by decide) rfl rfl 12 (by decide) (hg _ k_805) rfl (by decide +kernel) (Nat.le_of_ble_eq_true rfl) rfl d_M_rename_266 (fun H locs hP hS => ?_)
            obtain ⟨M_17, eM_17⟩ : ∃ z : PM, z = (pu M_16 0 12 ((nI ((nc) + (1))))) := ⟨_, rfl⟩
            rw [← eM_17] at hP
            refine lv_iload_n hx hb d_M_rename_269 rfl (lv_at hl 0 rfl) ?_
            exact r_i hx hb hr hlocks hP hS (⟨by unfold plR; simp [c_169, c_201]; try omega, (by
      refine ⟨fun q hq => ?_, fun q hq => ?_, fun q hq => ?_, ?_, ?_, fun q hq => ?_, ?_, ?_, fun p9 q h5' h6' h7' h8' h0' => ?_⟩
      · rw [eM_17, eM_16, eM_15, eM_14, eM_13, eM_12, eM_11]; simp [pu_eq]; exact hq7 q hq
      · rw [eM_17, eM_16, eM_15, eM_14, eM_13, eM_12, eM_11]; simp only [pu_eq]; simp; have hdq := hd q hq; unfold stR; simp only [c_169]; simp; by_cases z1 : q = a <;> by_cases z2 : q = b9 <;> simp_all [oI]
      · rw [eM_17, eM_16, eM_15, eM_14, eM_13, eM_12, eM_11]; simp only [pu_eq]; simp; have h5q := h5 q hq; unfold usR; by_cases z1 : q = a <;> by_cases z2 : q = b9 <;> simp_all [nI_0]
      · rw [eM_17, eM_16, eM_15, eM_14, eM_13, eM_12, eM_11]; simp [pu_eq]
      · rw [eM_17, eM_16, eM_15, eM_14, eM_13, eM_12, eM_11]; simp [pu_eq]
      · rw [eM_17, eM_16, eM_15, eM_14, eM_13, eM_12, eM_11]; simp only [pu_eq]; simp; rw [if_neg (by omega), if_neg (by omega)]; exact hF 8 q (by decide) (by decide) (by omega)
      · rw [eM_17, eM_16, eM_15, eM_14, eM_13, eM_12, eM_11]; simp [pu_eq]
      · rw [eM_17, eM_16, eM_15, eM_14, eM_13, eM_12, eM_11]; simp [pu_eq]; exact h00
      · rw [eM_17, eM_16, eM_15, eM_14, eM_13, eM_12, eM_11]; simp only [pu_eq]; simp only [h5', h6', h7', h8', false_and, if_false]; rw [if_neg (by omega)]; exact hF p9 q h7' h6' (by omega))⟩) d_M_rename_270
          · replace c_201 : ¬ us (a) = 0 := fun q => c_201 ((nI_le0 (by omega)).mpr q)
            refine n_const (k := 1) hx hb d_M_rename_204 (by decide) ?_
            refine lv_goto (tgt := 209) hx hb d_M_rename_205 (by decide) ?_
            refine n_iadd (a := Cnt (eqB rw_ a) (3 * rc) + Cnt (soB st a) n + 1) (b := 1) hx hb d_M_rename_209 ?_
            refine lv_istore_n (lv' := [(3, .int (nI ((Cnt (eqB rw_ a) (3 * rc) + Cnt (soB st a) n + 1) + (1)))), (0, .ref (ad (0))), (1, .int (nI (a))), (2, .int (nI (b9))), (4, .int (nI (n)))]) hx hb d_M_rename_210 rfl hl (by decide) rfl (fun ls hl => ?_)
            refine lv_aload_n hx hb d_M_rename_211 rfl (lv_at hl 1 rfl) ?_
            refine g_get (C := R_M) (T := T_M) (N := 19) (ci := 8) (v := .ref (ad (5))) hx hb hg i_M hown hK hP 0 (by decide) rfl rfl 7 (by decide) (hg _ k_800) rfl d_M_rename_212 ?_
            refine lv_iload_n hx hb d_M_rename_215 rfl (lv_at hl 3 rfl) ?_
            refine lv_dup2_11 hx hb d_M_rename_216 rfl rfl ?_
            refine g_iald hx hb hK hP 5 0 (by decide) rfl rfl (by decide) (j := b9) (by omega) d_M_rename_217 ?_
            refine n_top (y := (nI (us (b9)))) (by rw [eM_12, pu_k _ _ _ _ _ (by first | decide | omega), eM_11, pu_k _ _ _ _ _ (by first | decide | omega)]; exact h5 (b9) (by omega)) ?_
            refine lv_aload_n hx hb d_M_rename_218 rfl (lv_at hl 1 rfl) ?_
            refine g_get (C := R_M) (T := T_M) (N := 19) (ci := 8) (v := .ref (ad (5))) hx hb hg i_M hown hK hP 0 (by decide) rfl rfl 7 (by decide) (hg _ k_800) rfl d_M_rename_219 ?_
            refine lv_iload_n hx hb d_M_rename_222 rfl (lv_at hl 2 rfl) ?_
            refine g_iald hx hb hK hP 5 0 (by decide) rfl rfl (by decide) (j := a) (by omega) d_M_rename_223 ?_
            refine n_top (y := (nI (us (a)))) (by rw [eM_12, pu_k _ _ _ _ _ (by first | decide | omega), eM_11, pu_k _ _ _ _ _ (by first | decide | omega)]; exact h5 (a) (by omega)) ?_
            refine n_iadd (a := us (b9)) (b := us (a)) hx hb d_M_rename_224 ?_
            refine g_iast hx hb hK hI (fun _ h => h) hP hS 5 0 (by decide) (fun _ => rfl) rfl (by decide) (j := b9) (by omega) (v := (nI ((us (b9)) + (us (a))))) d_M_rename_225 (fun H locs hP hS => ?_)
            obtain ⟨M_18, eM_18⟩ : ∃ z : PM, z = (pu M_12 5 (b9) ((nI ((us (b9)) + (us (a)))))) := ⟨_, rfl⟩
            rw [← eM_18] at hP
            refine lv_aload_n hx hb d_M_rename_226 rfl (lv_at hl 1 rfl) ?_
            refine g_get (C := R_M) (T := T_M) (N := 19) (ci := 8) (v := .ref (ad (5))) hx hb hg i_M hown hK hP 0 (by decide) rfl rfl 7 (by decide) (hg _ k_800) rfl d_M_rename_227 ?_
            refine lv_iload_n hx hb d_M_rename_230 rfl (lv_at hl 2 rfl) ?_
            refine n_const (k := 0) hx hb d_M_rename_231 (by decide) ?_
            refine g_iast hx hb hK hI (fun _ h => h) hP hS 5 0 (by decide) (fun _ => rfl) rfl (by decide) (j := a) (by omega) (v := (nI (0))) d_M_rename_232 (fun H locs hP hS => ?_)
            obtain ⟨M_19, eM_19⟩ : ∃ z : PM, z = (pu M_18 5 (a) ((nI (0)))) := ⟨_, rfl⟩
            rw [← eM_19] at hP
            refine lv_aload_n hx hb d_M_rename_233 rfl (lv_at hl 1 rfl) ?_
            refine g_get (C := R_M) (T := T_M) (N := 19) (ci := 8) (v := .ref (ad (8))) hx hb hg i_M hown hK hP 0 (by decide) rfl rfl 11 (by decide) (hg _ k_804) rfl d_M_rename_234 ?_
            refine n_const (k := 2) hx hb d_M_rename_237 (by decide) ?_
            refine lv_aload_n hx hb d_M_rename_238 rfl (lv_at hl 1 rfl) ?_
            refine g_get (C := R_M) (T := T_M) (N := 19) (ci := 8) (v := .int (M_19 0 12)) hx hb hg i_M hown hK hP 0 (by decide) rfl rfl 12 (by decide) (hg _ k_805) rfl d_M_rename_239 ?_
            refine n_top (y := (nI (nc))) (by rw [eM_19, pu_k _ _ _ _ _ (by first | decide | omega), eM_18, pu_k _ _ _ _ _ (by first | decide | omega), eM_12, pu_k _ _ _ _ _ (by first | decide | omega), eM_11, pu_k _ _ _ _ _ (by first | decide | omega)]; exact h12) ?_
            refine n_imul (a := 2) (b := nc) hx hb d_M_rename_242 ?_
            refine lv_iload_n hx hb d_M_rename_243 rfl (lv_at hl 2 rfl) ?_
            refine g_iast hx hb hK hI (fun _ h => h) hP hS 8 0 (by decide) (fun _ => rfl) rfl (by decide) (j := (2) * (nc)) (by omega) (v := (nI (a))) d_M_rename_244 (fun H locs hP hS => ?_)
            obtain ⟨M_20, eM_20⟩ : ∃ z : PM, z = (pu M_19 8 ((2) * (nc)) ((nI (a)))) := ⟨_, rfl⟩
            rw [← eM_20] at hP
            refine lv_aload_n hx hb d_M_rename_245 rfl (lv_at hl 1 rfl) ?_
            refine g_get (C := R_M) (T := T_M) (N := 19) (ci := 8) (v := .ref (ad (8))) hx hb hg i_M hown hK hP 0 (by decide) rfl rfl 11 (by decide) (hg _ k_804) rfl d_M_rename_246 ?_
            refine n_const (k := 2) hx hb d_M_rename_249 (by decide) ?_
            refine lv_aload_n hx hb d_M_rename_250 rfl (lv_at hl 1 rfl) ?_
            refine g_get (C := R_M) (T := T_M) (N := 19) (ci := 8) (v := .int (M_20 0 12)) hx hb hg i_M hown hK hP 0 (by decide) rfl rfl 12 (by decide) (hg _ k_805) rfl d_M_rename_251 ?_
            refine n_top (y := (nI (nc))) (by rw [eM_20, pu_k _ _ _ _ _ (by first | decide | omega), eM_19, pu_k _ _ _ _ _ (by first | decide | omega), eM_18, pu_k _ _ _ _ _ (by first | decide | omega), eM_12, pu_k _ _ _ _ _ (by first | decide | omega), eM_11, pu_k _ _ _ _ _ (by first | decide | omega)]; exact h12) ?_
            refine n_imul (a := 2) (b := nc) hx hb d_M_rename_254 ?_
            refine n_const (k := 1) hx hb d_M_rename_255 (by decide) ?_
            refine n_iadd (a := (2) * (nc)) (b := 1) hx hb d_M_rename_256 ?_
            refine lv_iload_n hx hb d_M_rename_257 rfl (lv_at hl 3 rfl) ?_
            refine g_iast hx hb hK hI (fun _ h => h) hP hS 8 0 (by decide) (fun _ => rfl) rfl (by decide) (j := ((2) * (nc)) + (1)) (by omega) (v := (nI (b9))) d_M_rename_258 (fun H locs hP hS => ?_)
            obtain ⟨M_21, eM_21⟩ : ∃ z : PM, z = (pu M_20 8 (((2) * (nc)) + (1)) ((nI (b9)))) := ⟨_, rfl⟩
            rw [← eM_21] at hP
            refine lv_aload_n hx hb d_M_rename_259 rfl (lv_at hl 1 rfl) ?_
            refine lv_dup hx hb d_M_rename_260 rfl ?_
            refine g_get (C := R_M) (T := T_M) (N := 19) (ci := 8) (v := .int (M_21 0 12)) hx hb hg i_M hown hK hP 0 (by decide) rfl rfl 12 (by decide) (hg _ k_805) rfl d_M_rename_261 ?_
            refine n_top (y := (nI (nc))) (by rw [eM_21, pu_k _ _ _ _ _ (by first | decide | omega), eM_20, pu_k _ _ _ _ _ (by first | decide | omega), eM_19, pu_k _ _ _ _ _ (by first | decide | omega), eM_18, pu_k _ _ _ _ _ (by first | decide | omega), eM_12, pu_k _ _ _ _ _ (by first | decide | omega), eM_11, pu_k _ _ _ _ _ (by first | decide | omega)]; exact h12) ?_
            refine n_const (k := 1) hx hb d_M_rename_264 (by decide) ?_
            refine n_iadd (a := nc) (b := 1) hx hb d_M_rename_265 ?_
            refine g_put (C := R_M) (T := T_M) (N := 19) (ci := 8) (v := (nI ((nc) + (1)))) hx hb hg i_M ty_M t_M_ok n_M hown hK hI (fun _ h => h) hP hS 0 (by decide) rfl rfl 12 (by decide) (hg _ k_805) rfl (by decide +kernel) (Nat.le_of_ble_eq_true rfl) rfl d_M_rename_266 (fun H locs hP hS => ?_)
            obtain ⟨M_22, eM_22⟩ : ∃ z : PM, z = (pu M_21 0 12 ((nI ((nc) + (1))))) := ⟨_, rfl⟩
            rw [← eM_22] at hP
            refine lv_iload_n hx hb d_M_rename_269 rfl (lv_at hl 0 rfl) ?_
            exact r_i hx hb hr hlocks hP hS (⟨by unfold plR; simp [c_169, c_201]; try omega, (by
      refine ⟨fun q hq => ?_, fun q hq => ?_, fun q hq => ?_, ?_, ?_, fun q hq => ?_, ?_, ?_, fun p9 q h5' h6' h7' h8' h0' => ?_⟩
      · rw [eM_22, eM_21, eM_20, eM_19, eM_18, eM_12, eM_11]; simp [pu_eq]; exact hq7 q hq
      · rw [eM_22, eM_21, eM_20, eM_19, eM_18, eM_12, eM_11]; simp only [pu_eq]; simp; have hdq := hd q hq; unfold stR; simp only [c_169]; simp; by_cases z1 : q = a <;> by_cases z2 : q = b9 <;> simp_all [oI]
      · rw [eM_22, eM_21, eM_20, eM_19, eM_18, eM_12, eM_11]; simp only [pu_eq]; simp; have h5q := h5 q hq; unfold usR; by_cases z1 : q = a <;> by_cases z2 : q = b9 <;> simp_all [nI_0]
      · rw [eM_22, eM_21, eM_20, eM_19, eM_18, eM_12, eM_11]; simp [pu_eq]
      · rw [eM_22, eM_21, eM_20, eM_19, eM_18, eM_12, eM_11]; simp [pu_eq]
      · rw [eM_22, eM_21, eM_20, eM_19, eM_18, eM_12, eM_11]; simp only [pu_eq]; simp; rw [if_neg (by omega), if_neg (by omega)]; exact hF 8 q (by decide) (by decide) (by omega)
      · rw [eM_22, eM_21, eM_20, eM_19, eM_18, eM_12, eM_11]; simp [pu_eq]
      · rw [eM_22, eM_21, eM_20, eM_19, eM_18, eM_12, eM_11]; simp [pu_eq]; exact h00
      · rw [eM_22, eM_21, eM_20, eM_19, eM_18, eM_12, eM_11]; simp only [pu_eq]; simp only [h5', h6', h7', h8', false_and, if_false]; rw [if_neg (by omega)]; exact hF p9 q h7' h6' (by omega))⟩) d_M_rename_270
      · refine lv_aload_n hx hb d_M_rename_132 rfl (lv_at hl 0 rfl) ?_
        refine g_get (C := R_M) (T := T_M) (N := 19) (ci := 8) (v := .ref (ad (6))) hx hb hg i_M hown hK hP 0 (by decide) rfl rfl 8 (by decide) (hg _ k_801) rfl d_M_rename_133 ?_
        refine lv_iload hx hb d_M_rename_136 (lv_at hl 4 rfl) ?_
        refine g_iald hx hb hK hP 6 0 (by decide) rfl rfl (by decide) (j := k) (by omega) d_M_rename_138 ?_
        refine n_top (y := (oI (st (k)))) (by rw [hu (k) (Nat.le_refl _)]; exact hS6.1 (k) (by omega)) ?_
        refine lv_iload_n hx hb d_M_rename_139 rfl (lv_at hl 1 rfl) ?_
        refine oo_eq (a := st (k)) (b := some (a)) (tgt := 146) hx hb d_M_rename_140 (by decide) (fun q e => by have := hS6.2 _ q (by omega) e; omega) (ob_some (by omega)) (fun c_140 => ?_) (fun c_140 => ?_)
        · have hcq : Cnt (soB st a) (k + 1) = Cnt (soB st a) k + 1 := Cnt_t (decide_eq_true c_140)
          refine lv_aload_n hx hb d_M_rename_146 rfl (lv_at hl 0 rfl) ?_
          refine g_get (C := R_M) (T := T_M) (N := 19) (ci := 8) (v := .ref (ad (6))) hx hb hg i_M hown hK hP 0 (by decide) rfl rfl 8 (by decide) (hg _ k_801) rfl d_M_rename_147 ?_
          refine lv_iload hx hb d_M_rename_150 (lv_at hl 4 rfl) ?_
          refine lv_iload_n hx hb d_M_rename_152 rfl (lv_at hl 2 rfl) ?_
          refine g_iast hx hb hK hI (fun _ h => h) hP hS 6 0 (by decide) (fun _ => rfl) rfl (by decide) (j := k) (by omega) (v := (nI (b9))) d_M_rename_153 (fun H locs hP hS => ?_)
          obtain ⟨M_23, eM_23⟩ : ∃ z : PM, z = (pu M1 6 (k) ((nI (b9)))) := ⟨_, rfl⟩
          rw [← eM_23] at hP
          have h009 : M_23 0 0 = nI 0 := by rw [eM_23, pu_k _ _ _ _ _ (by decide)]; exact h00
          have hF9 : ∀ p q, p ≠ 7 → p ≠ 6 → ¬ (p = 0 ∧ q = 0) → M_23 p q = M p q := fun p q h7 h6 h0 => by rw [eM_23, pu_k _ _ _ _ _ h6]; exact hF p q h7 h6 h0
          have hr9 : ∀ q, q < 3 * rc → M_23 7 q = nI (rwR rw_ a b9 q) := fun q hq => by rw [eM_23, pu_k _ _ _ _ _ (by decide)]; exact hq7 q hq
          have hd9 : ∀ q, q < k + 1 → M_23 6 q = oI (s1R st a b9 q) := lt_S (fun q hq => by rw [eM_23, pu_j _ _ _ _ _ (by omega)]; exact hd q hq) (by rw [eM_23, pu_s]; unfold s1R; rw [if_pos c_140]; rfl)
          have hu9 : ∀ q, k + 1 ≤ q → M_23 6 q = M 6 q := fun q hq => by rw [eM_23, pu_j _ _ _ _ _ (by omega)]; exact hu q (by omega)
          refine n_inc (lv' := [(3, .int (nI (Cnt (eqB rw_ a) (3 * rc) + Cnt (soB st a) k + 1))), (0, .ref (ad (0))), (1, .int (nI (a))), (2, .int (nI (b9))), (4, .int (nI (k)))]) hx hb d_M_rename_154 hl (k := 3) rfl (by decide) rfl (fun ls hl => ?_)
          first | rw [← hcq] at hl | rw [Nat.add_assoc, ← hcq] at hl
          have hl : lv_has ls 5 [(3, .int (nI (Cnt (eqB rw_ a) (3 * rc) + Cnt (soB st a) (k + 1)))), (0, .ref (ad (0))), (1, .int (nI (a))), (2, .int (nI (b9))), (4, .int (nI (k)))] := hl
          refine n_inc (lv' := [(4, .int (nI (k + 1))), (3, .int (nI (Cnt (eqB rw_ a) (3 * rc) + Cnt (soB st a) (k + 1)))), (0, .ref (ad (0))), (1, .int (nI (a))), (2, .int (nI (b9)))]) hx hb d_M_rename_157 hl (k := 4) rfl (by decide) rfl (fun ls hl => ?_)
          refine lv_goto (tgt := 123) hx hb d_M_rename_160 (by decide) ?_
          exact ih123 (k + 1) M_23 _ _ ls (by omega) (by omega) (h009) (hF9) (hr9) (hd9) (hu9) hP hS (lv_sub hl [2, 3, 4, 1, 0] rfl)
        · have hcq : Cnt (soB st a) (k + 1) = Cnt (soB st a) k := Cnt_f (decide_eq_false c_140)
          have h009 := h00
          have hF9 := hF
          have hr9 := hq7
          have hd9 : ∀ q, q < k + 1 → M1 6 q = oI (s1R st a b9 q) := lt_S hd (by rw [hu k (Nat.le_refl _), hS6.1 k (by omega)]; unfold s1R; rw [if_neg c_140])
          have hu9 : ∀ q, k + 1 ≤ q → M1 6 q = M 6 q := fun q hq => hu q (by omega)
          refine lv_goto (tgt := 157) hx hb d_M_rename_143 (by decide) ?_
          first | rw [← hcq] at hl | rw [Nat.add_assoc, ← hcq] at hl
          have hl : lv_has ls 5 [(0, .ref (ad (0))), (1, .int (nI (a))), (2, .int (nI (b9))), (3, .int (nI (Cnt (eqB rw_ a) (3 * rc) + Cnt (soB st a) (k + 1)))), (4, .int (nI (k)))] := hl
          refine n_inc (lv' := [(4, .int (nI (k + 1))), (0, .ref (ad (0))), (1, .int (nI (a))), (2, .int (nI (b9))), (3, .int (nI (Cnt (eqB rw_ a) (3 * rc) + Cnt (soB st a) (k + 1))))]) hx hb d_M_rename_157 hl (k := 4) rfl (by decide) rfl (fun ls hl => ?_)
          refine lv_goto (tgt := 123) hx hb d_M_rename_160 (by decide) ?_
          exact ih123 (k + 1) M1 _ _ ls (by omega) (by omega) (h009) (hF9) (hr9) (hd9) (hu9) hP hS (lv_sub hl [1, 2, 3, 4, 0] rfl)
  have J78 : ∀ (fu78 : Nat) (k : Nat) (M1 : PM) (H : Heap) (locs : List Loc) (ls : Array Slot), 3 * rc - k < fu78 → (k ≤ 3 * rc) → (M1 0 0 = nI 0) → (∀ p q, p ≠ 7 → ¬ (p = 0 ∧ q = 0) → M1 p q = M p q) → (∀ q, q < k → M1 7 q = nI (rwR rw_ a b9 q)) → (∀ q, k ≤ q → M1 7 q = M 7 q) → va_P D clsA (gw 13 ad (cfM cI cB ad) M1) H → va_S (GA 13 ad) s.heap H locs → lv_has ls 5 [(0, .ref (ad (0))), (1, .int (nI (a))), (2, .int (nI (b9))), (3, .int (nI (Cnt (eqB rw_ a) k))), (4, .int (nI (k)))] → W p l e (rm_ 2 47) s m ([.ref (ad (0)), .int (nI (a)), .int (nI (b9))] : List Value).toArray below meth c H locs 0 0 (MQ below (GQ D 13 ad (cfM cI cB ad) (fun v M' => v = some (.int (nI (plR rc n rw_ us st a))) ∧ RNMd M M' n a b9 rc nc rw_ us st)) ([.ref (ad (0)), .int (nI (a)), .int (nI (b9))] : List Value).toArray s 0 0 (GA 13 ad)) (F0 m 78 ls []) := by
    intro fu78
    induction fu78 with
    | zero => intro k M1 H locs ls hfu; exact absurd hfu (Nat.not_lt_zero _)
    | succ fu78 ih78 =>
      intro k M1 H locs ls hfu78 hk h00 hF hd hu hP hS hl
      have h10 : M1 0 10 = nI rc := by rw [hF 0 10 (by decide) (by decide)]; exact hW.2.1
      have hk1 := Cnt_le (eqB rw_ a) k
      refine lv_iload hx hb d_M_rename_78 (lv_at hl 4 rfl) ?_
      refine n_const (k := 3) hx hb d_M_rename_80 (by decide) ?_
      refine lv_aload_n hx hb d_M_rename_81 rfl (lv_at hl 0 rfl) ?_
      refine g_get (C := R_M) (T := T_M) (N := 19) (ci := 8) (v := .int (M1 0 10)) hx hb hg i_M hown hK hP 0 (by decide) rfl rfl 10 (by decide) (hg _ k_803) rfl d_M_rename_82 ?_
      refine n_top (y := (nI (rc))) (h10) ?_
      refine n_imul (a := 3) (b := rc) hx hb d_M_rename_85 ?_
      refine n_ge (a := k) (b := (3) * (rc)) (tgt := 120) hx hb d_M_rename_86 (by decide) (by omega) (by omega) (fun c_86 => ?_) (fun c_86 => ?_)
      · refine n_const (k := 0) hx hb d_M_rename_120 (by decide) ?_
        refine lv_istore (lv' := [(4, .int (nI (0))), (0, .ref (ad (0))), (1, .int (nI (a))), (2, .int (nI (b9))), (3, .int (nI (Cnt (eqB rw_ a) k)))]) hx hb d_M_rename_121 hl (by decide) rfl (fun ls hl => ?_)
        have e9 : k = 3 * rc := by omega
        rw [e9] at hl hd
        have hl : lv_has ls 5 [(4, .int (nI 0)), (0, .ref (ad 0)), (1, .int (nI a)), (2, .int (nI b9)), (3, .int (nI (Cnt (eqB rw_ a) (3 * rc) + Cnt (soB st a) 0)))] := hl
        exact J123 (_ + 1) (0) M1 _ _ ls (Nat.lt_succ_self _) (by omega) (h00) (fun p q h7 h6 h0 => hF p q h7 h0) (hd) (fun q hq => absurd hq (Nat.not_lt_zero q)) (fun q _ => hF 6 q (by decide) (by omega)) hP hS (lv_sub hl [1, 2, 3, 4, 0] rfl)
      · refine lv_aload_n hx hb d_M_rename_89 rfl (lv_at hl 0 rfl) ?_
        refine g_get (C := R_M) (T := T_M) (N := 19) (ci := 8) (v := .ref (ad (7))) hx hb hg i_M hown hK hP 0 (by decide) rfl rfl 9 (by decide) (hg _ k_802) rfl d_M_rename_90 ?_
        refine lv_iload hx hb d_M_rename_93 (lv_at hl 4 rfl) ?_
        refine g_iald hx hb hK hP 7 0 (by decide) rfl rfl (by decide) (j := k) (by omega) d_M_rename_95 ?_
        refine n_top (y := (nI (rw_ (k)))) (by rw [hu (k) (Nat.le_refl _)]; exact (hW.2.2 (k) (by omega)).2) ?_
        refine lv_iload_n hx hb d_M_rename_96 rfl (lv_at hl 1 rfl) ?_
        refine n_eq (a := rw_ (k)) (b := a) (tgt := 103) hx hb d_M_rename_97 (by decide) (by have := hrw k (by omega); omega) (by omega) (fun c_97 => ?_) (fun c_97 => ?_)
        · have hcq : Cnt (eqB rw_ a) (k + 1) = Cnt (eqB rw_ a) k + 1 := Cnt_t (decide_eq_true c_97)
          refine lv_aload_n hx hb d_M_rename_103 rfl (lv_at hl 0 rfl) ?_
          refine g_get (C := R_M) (T := T_M) (N := 19) (ci := 8) (v := .ref (ad (7))) hx hb hg i_M hown hK hP 0 (by decide) rfl rfl 9 (by decide) (hg _ k_802) rfl d_M_rename_104 ?_
          refine lv_iload hx hb d_M_rename_107 (lv_at hl 4 rfl) ?_
          refine lv_iload_n hx hb d_M_rename_109 rfl (lv_at hl 2 rfl) ?_
          refine g_iast hx hb hK hI (fun _ h => h) hP hS 7 0 (by decide) (fun _ => rfl) rfl (by decide) (j := k) (by omega) (v := (nI (b9))) d_M_rename_110 (fun H locs hP hS => ?_)
          obtain ⟨M_24, eM_24⟩ : ∃ z : PM, z = (pu M1 7 (k) ((nI (b9)))) := ⟨_, rfl⟩
          rw [← eM_24] at hP
          have h009 : M_24 0 0 = nI 0 := by rw [eM_24, pu_k _ _ _ _ _ (by decide)]; exact h00
          have hF9 : ∀ p q, p ≠ 7 → ¬ (p = 0 ∧ q = 0) → M_24 p q = M p q := fun p q h7 h0 => by rw [eM_24, pu_k _ _ _ _ _ h7]; exact hF p q h7 h0
          have hd9 : ∀ q, q < k + 1 → M_24 7 q = nI (rwR rw_ a b9 q) := lt_S (fun q hq => by rw [eM_24, pu_j _ _ _ _ _ (by omega)]; exact hd q hq) (by rw [eM_24, pu_s]; unfold rwR; rw [if_pos c_97])
          have hu9 : ∀ q, k + 1 ≤ q → M_24 7 q = M 7 q := fun q hq => by rw [eM_24, pu_j _ _ _ _ _ (by omega)]; exact hu q (by omega)
          refine n_inc (lv' := [(3, .int (nI (Cnt (eqB rw_ a) k + 1))), (0, .ref (ad (0))), (1, .int (nI (a))), (2, .int (nI (b9))), (4, .int (nI (k)))]) hx hb d_M_rename_111 hl (k := 3) rfl (by decide) rfl (fun ls hl => ?_)
          rw [← hcq] at hl
          have hl : lv_has ls 5 [(3, .int (nI (Cnt (eqB rw_ a) (k + 1)))), (0, .ref (ad (0))), (1, .int (nI (a))), (2, .int (nI (b9))), (4, .int (nI (k)))] := hl
          refine n_inc (lv' := [(4, .int (nI (k + 1))), (3, .int (nI (Cnt (eqB rw_ a) (k + 1)))), (0, .ref (ad (0))), (1, .int (nI (a))), (2, .int (nI (b9)))]) hx hb d_M_rename_114 hl (k := 4) rfl (by decide) rfl (fun ls hl => ?_)
          refine lv_goto (tgt := 78) hx hb d_M_rename_117 (by decide) ?_
          exact ih78 (k + 1) M_24 _ _ ls (by omega) (by omega) (h009) (hF9) (hd9) (hu9) hP hS (lv_sub hl [2, 3, 4, 1, 0] rfl)
        · have hcq : Cnt (eqB rw_ a) (k + 1) = Cnt (eqB rw_ a) k := Cnt_f (decide_eq_false c_97)
          have h009 := h00
          have hF9 := hF
          have hd9 : ∀ q, q < k + 1 → M1 7 q = nI (rwR rw_ a b9 q) := lt_S hd (by rw [hu k (Nat.le_refl _), (hW.2.2 k (by omega)).2]; unfold rwR; rw [if_neg c_97])
          have hu9 : ∀ q, k + 1 ≤ q → M1 7 q = M 7 q := fun q hq => hu q (by omega)
          refine lv_goto (tgt := 114) hx hb d_M_rename_100 (by decide) ?_
          rw [← hcq] at hl
          have hl : lv_has ls 5 [(0, .ref (ad (0))), (1, .int (nI (a))), (2, .int (nI (b9))), (3, .int (nI (Cnt (eqB rw_ a) (k + 1)))), (4, .int (nI (k)))] := hl
          refine n_inc (lv' := [(4, .int (nI (k + 1))), (0, .ref (ad (0))), (1, .int (nI (a))), (2, .int (nI (b9))), (3, .int (nI (Cnt (eqB rw_ a) (k + 1))))]) hx hb d_M_rename_114 hl (k := 4) rfl (by decide) rfl (fun ls hl => ?_)
          refine lv_goto (tgt := 78) hx hb d_M_rename_117 (by decide) ?_
          exact ih78 (k + 1) M1 _ _ ls (by omega) (by omega) (h009) (hF9) (hd9) (hu9) hP hS (lv_sub hl [1, 2, 3, 4, 0] rfl)
  refine lv_aload_n hx hb d_M_rename_0 rfl (lv_at hl 0 rfl) ?_
  refine lv_aload_n hx hb d_M_rename_1 rfl (lv_at hl 0 rfl) ?_
  refine lv_iload_n hx hb d_M_rename_2 rfl (lv_at hl 1 rfl) ?_
  refine c_V (own := R_M) (index := 89) (As := [.int (nI (a))]) (rest := [.ref (ad (0))]) hx hb hml hown hg hK (fun _ _ _ h => h) (fun _ _ => trivial) (fun _ h => h) hP hS 0 (c_M_no l D cI cB ad hI M n len ch sp hR (nI (a)) false (no_f (by omega))) (by decide) (ci := 8) rfl rfl k_907 k_909 k_p30 k_9 k_910 1 rfl (by decide +kernel) (by decide) rfl hl.1 (Nat.le_of_ble_eq_true rfl) d_M_rename_3 (fun v M' H locs hq hP _ _ hS => ?_)
  obtain ⟨rfl, rfl⟩ := hq
  refine W.eq (g2 := F0 m 6 ls [.int (bI (false)), .ref (ad (0))]) rfl ?_
  refine z_ne (t := false) (tgt := 17) hx hb d_M_rename_6 (by decide) (fun h9 => absurd h9 (by decide)) (fun _ => ?_)
  refine lv_aload_n hx hb d_M_rename_9 rfl (lv_at hl 0 rfl) ?_
  refine lv_iload_n hx hb d_M_rename_10 rfl (lv_at hl 2 rfl) ?_
  refine c_V (own := R_M) (index := 89) (As := [.int (nI (b9))]) (rest := [.ref (ad (0))]) hx hb hml hown hg hK (fun _ _ _ h => h) (fun _ _ => trivial) (fun _ h => h) hP hS 0 (c_M_no l D cI cB ad hI M n len ch sp hR (nI (b9)) false (no_f (by omega))) (by decide) (ci := 8) rfl rfl k_907 k_909 k_p30 k_9 k_910 1 rfl (by decide +kernel) (by decide) rfl hl.1 (Nat.le_of_ble_eq_true rfl) d_M_rename_11 (fun v M' H locs hq hP _ _ hS => ?_)
  obtain ⟨rfl, rfl⟩ := hq
  refine W.eq (g2 := F0 m 14 ls [.int (bI (false)), .ref (ad (0))]) rfl ?_
  refine z_eq (t := false) (tgt := 21) hx hb d_M_rename_14 (by decide) (fun _ => ?_) (fun h9 => absurd h9 (by decide))
  refine lv_iload_n hx hb d_M_rename_21 rfl (lv_at hl 1 rfl) ?_
  refine lv_iload_n hx hb d_M_rename_22 rfl (lv_at hl 2 rfl) ?_
  refine n_ne (a := a) (b := b9) (tgt := 30) hx hb d_M_rename_23 (by decide) (by omega) (by omega) (fun c_23 => ?_) (fun c_23 => ?_)
  · refine n_const (k := 0) hx hb d_M_rename_30 (by decide) ?_
    refine c_V (own := R_M) (index := 57) (As := [.int (nI (0))]) (rest := []) hx hb hml hown hg hK (fun _ _ _ h => h) (fun _ _ => trivial) (fun _ h => h) hP hS 0 (c_M_refuses l D cI cB ad hI M (0) (by decide)) (by decide) (ci := 8) rfl rfl k_859 k_861 k_p22 k_9 k_862 1 rfl (by decide +kernel) (by decide) rfl hl.1 (Nat.le_of_ble_eq_true rfl) d_M_rename_31 (fun v M_25 H locs hq hP _ _ hS => ?_)
    obtain ⟨rfl, eM_25⟩ := hq
    have hR1 := hR.sx (SX.thr M (nI 0))
    rw [← eM_25] at hR1
    have hW1 := hW.sx (SX.thr M (nI 0))
    rw [← eM_25] at hW1
    have hS61 := hS6.sx (SX.thr M (nI 0))
    rw [← eM_25] at hS61
    have hRR1 := hRR.sx (SX.thr M (nI 0))
    rw [← eM_25] at hRR1
    have hU1 := hU.sx (SX.thr M (nI 0))
    rw [← eM_25] at hU1
    refine W.eq (g2 := F0 m 34 ls [.int (bI (false))]) rfl ?_
    refine z_eq (t := false) (tgt := 39) hx hb d_M_rename_34 (by decide) (fun _ => ?_) (fun h9 => absurd h9 (by decide))
    refine lv_aload_n hx hb d_M_rename_39 rfl (lv_at hl 0 rfl) ?_
    refine lv_iload_n hx hb d_M_rename_40 rfl (lv_at hl 1 rfl) ?_
    refine lv_iload_n hx hb d_M_rename_41 rfl (lv_at hl 2 rfl) ?_
    refine c_V (own := R_M) (index := 140) (As := [.int (nI (a)), .int (nI (b9))]) (rest := []) hx hb hml hown hg hK (fun _ _ _ h => h) (fun _ _ => trivial) (fun _ h => h) hP hS 0 (c_M_cnr_0 l D cI cB ad hI M_25 n hn60 rc rw_ hW1 st hS61 rk hRk a b9 ha hb9 ox oy hox hoy hno hno5 hL) (by decide) (ci := 8) rfl rfl k_1030 k_1032 k_p43 k_9 k_1033 2 rfl (by decide +kernel) (by decide) rfl hl.1 (Nat.le_of_ble_eq_true rfl) d_M_rename_42 (fun v M' H locs hq hP _ _ hS => ?_)
    obtain ⟨rfl, rfl⟩ := hq
    refine W.eq (g2 := F0 m 45 ls [.int (bI (false))]) rfl ?_
    refine z_eq (t := false) (tgt := 50) hx hb d_M_rename_45 (by decide) (fun _ => ?_) (fun h9 => absurd h9 (by decide))
    refine lv_aload_n hx hb d_M_rename_50 rfl (lv_at hl 0 rfl) ?_
    refine lv_aload_n hx hb d_M_rename_51 rfl (lv_at hl 0 rfl) ?_
    refine g_get (C := R_M) (T := T_M) (N := 19) (ci := 8) (v := .int (M_25 0 12)) hx hb hg i_M hown hK hP 0 (by decide) rfl rfl 12 (by decide) (hg _ k_805) rfl d_M_rename_52 ?_
    refine n_top (y := (nI (nc))) (by rw [eM_25, pu_j _ _ _ _ _ (by first | decide | omega)]; exact hRR.2.1) ?_
    refine n_bipush (k := 20) hx hb d_M_rename_55 (by decide) ?_
    refine n_ne (a := nc) (b := 20) (tgt := 64) hx hb d_M_rename_57 (by decide) (by omega) (by omega) (fun c_57 => ?_) (fun c_57 => ?_)
    · refine n_const (k := 0) hx hb d_M_rename_64 (by decide) ?_
      refine c_V (own := R_M) (index := 57) (As := [.int (nI (0))]) (rest := []) hx hb hml hown hg hK (fun _ _ _ h => h) (fun _ _ => trivial) (fun _ h => h) hP hS 0 (c_M_refuses l D cI cB ad hI M_25 (0) (by decide)) (by decide) (ci := 8) rfl rfl k_859 k_861 k_p22 k_9 k_862 1 rfl (by decide +kernel) (by decide) rfl hl.1 (Nat.le_of_ble_eq_true rfl) d_M_rename_65 (fun v M_26 H locs hq hP _ _ hS => ?_)
      obtain ⟨rfl, eM_26⟩ := hq
      have hR1 := hR1.sx (SX.thr M_25 (nI 0))
      rw [← eM_26] at hR1
      have hW1 := hW1.sx (SX.thr M_25 (nI 0))
      rw [← eM_26] at hW1
      have hS61 := hS61.sx (SX.thr M_25 (nI 0))
      rw [← eM_26] at hS61
      have hRR1 := hRR1.sx (SX.thr M_25 (nI 0))
      rw [← eM_26] at hRR1
      have hU1 := hU1.sx (SX.thr M_25 (nI 0))
      rw [← eM_26] at hU1
      refine W.eq (g2 := F0 m 68 ls [.int (bI (false))]) rfl ?_
      refine z_eq (t := false) (tgt := 73) hx hb d_M_rename_68 (by decide) (fun _ => ?_) (fun h9 => absurd h9 (by decide))
      refine n_const (k := 0) hx hb d_M_rename_73 (by decide) ?_
      refine lv_istore_n (lv' := [(3, .int (nI (0))), (0, .ref (ad (0))), (1, .int (nI (a))), (2, .int (nI (b9)))]) hx hb d_M_rename_74 rfl hl (by decide) rfl (fun ls hl => ?_)
      refine n_const (k := 0) hx hb d_M_rename_75 (by decide) ?_
      refine lv_istore (lv' := [(4, .int (nI (0))), (3, .int (nI (0))), (0, .ref (ad (0))), (1, .int (nI (a))), (2, .int (nI (b9)))]) hx hb d_M_rename_76 hl (by decide) rfl (fun ls hl => ?_)
      exact J78 (_ + 1) (0) M_26 _ _ ls (Nat.lt_succ_self _) (by omega) (by rw [eM_26, pu_s]) (fun p q h7 h0 => by rw [eM_26, eM_25, pu_eq, if_neg h0, pu_eq, if_neg h0]) (fun q hq => absurd hq (Nat.not_lt_zero q)) (fun q _ => by rw [eM_26, eM_25, pu_k _ _ _ _ _ (by decide), pu_k _ _ _ _ _ (by decide)]) hP hS (lv_sub hl [2, 3, 4, 1, 0] rfl)
    · exact absurd c_57 (by omega)
  · exact absurd c_23 (by omega)
