/-! ===== exceptions of the class: what a state must hold for a throw, contracts of a method that throws ===== -/
def XW : List Cond := [.declares ⟨"java/lang/RuntimeException", "<init>", "()V"⟩, .declares ⟨"java/lang/RuntimeException", "<init>", "(Ljava/lang/String;)V"⟩, .declares ⟨"java/lang/Exception", "<init>", "()V"⟩, .declares ⟨"java/lang/Exception", "<init>", "(Ljava/lang/String;)V"⟩, .declares ⟨"java/lang/Throwable", "<init>", "()V"⟩, .declares ⟨"java/lang/Throwable", "<init>", "(Ljava/lang/String;)V"⟩, .castable "java/lang/IllegalArgumentException" "java/lang/IllegalArgumentException", .castable "java/lang/IllegalStateException" "java/lang/IllegalStateException", .castable "java/lang/IndexOutOfBoundsException" "java/lang/IndexOutOfBoundsException", .castable "java/lang/UnsupportedOperationException" "java/lang/UnsupportedOperationException"]
theorem XW_k : ∀ w ∈ XW, (∃ x, w = .declares x) ∨ ∃ C T, w = .castable C T := by
  intro w hw
  simp only [XW, List.mem_cons, List.not_mem_nil, or_false] at hw
  rcases hw with h | h | h | h | h | h | h | h | h | h <;> first | exact Or.inl ⟨_, h⟩ | exact Or.inr ⟨_, _, h⟩
def XSL : List (Nat × String) := [(102, "the tape is full"), (129, "the tape is no printed name"), (141, "this can't be a short of that"), (191, "the term has no space"), (198, "there are 40 rows"), (209, "there is no such row"), (212, "a row has 0 term, 1 domain, 2 range"), (256, "a rule is 0 or 1"), (265, "both are one"), (271, "there were 20 renames"), (287, "a clash has 0 kind, 1 first, 2 second"), (297, "what is counted is 0 .. 6"), (300, "there is no such name"), (302, "i is below 0"), (304, "the tape is empty"), (310, "the name is too long, or one too many"), (91, "a character is 33 .. 126")]
theorem XW_ot : ∀ w ∈ XW, w.onTables = true := by
  intro w hw
  rcases XW_k w hw with ⟨x, rfl⟩ | ⟨C, T, rfl⟩ <;> rfl
def HXT (ad : Nat → Nat) (U : State) : Prop := (∀ w ∈ XW, va_Nw w U) ∧ (∀ q ∈ XSL, ∃ a, vk_R "NameRules" q.1 q.2 a U) ∧ vx_Zq Bundle.tN "UNASSIGNED_STACK" Bundle.steD (GA 144 ad) U U.heap ∧ vx_Zq Bundle.tN "SUPPRESSED_SENTINEL" Bundle.listD (GA 144 ad) U U.heap
theorem HXT.same {ad : Nat → Nat} {U V : State} (hv : U.vm = V.vm) (hh : U.heap = V.heap) (h : HXT ad U) : HXT ad V := by
  obtain ⟨h1, h2, h3, h4⟩ := h
  have ha : U.vm.Alike V.vm := by rw [hv]; exact Vm.Alike.refl V.vm
  refine ⟨fun w hw => va_Nw.same (XW_ot w hw) hv (h1 w hw), fun q hq => ?_, ?_, ?_⟩
  · obtain ⟨a, h⟩ := h2 q hq
    exact ⟨a, vk_R.same hv.symm h⟩
  · rw [← hh]; exact vx_Zq.moved ha h3
  · rw [← hh]; exact vx_Zq.moved ha h4
theorem HXT.go {ad : Nat → Nat} {s U : State} {H : Heap} {locs : List Loc} (hW : s.WarmedH U.vm) (hh : U.heap = H) (hS : va_S (GA 144 ad) s.heap H locs) (h : HXT ad s) : HXT ad U := by
  obtain ⟨h1, h2, h3, h4⟩ := h
  refine ⟨fun w hw => ?_, fun q hq => ?_, ?_, ?_⟩
  · rcases XW_k w hw with ⟨x, rfl⟩ | ⟨C, T, rfl⟩
    · exact va_Nw.warmD hW (h1 _ hw)
    · exact va_Nw.warmC hW (h1 _ hw)
  · obtain ⟨a, h⟩ := h2 q hq
    exact ⟨a, vk_R.warm hW h⟩
  · rw [hh]; exact vx_Zq.moved hW.alike (h3.kept hS.2.1)
  · rw [hh]; exact vx_Zq.moved hW.alike (h4.kept hS.2.1)
abbrev rx_ (fr lo : Nat) : Room := { frames := fr, cells := 1, slots := 6, locals := lo }
def NQ : Array Value → State → Outcome → State → Prop := fun _ _ _ _ => False
def TXC (D : va_G) (cI cC cZ cT : ClassId) (ad : Nat → Nat) (E : String) (post : PM → Prop) : String → State → State → Prop := fun E9 st t => E9 = E ∧ (∃ M' : PM, post M' ∧ va_P D clsA (gw 144 ad (cfC cI cC cZ cT ad) M') t.heap) ∧ va_F (GA 144 ad) st t
def PX (D : va_G) (cI cC cZ cT : ClassId) (ad : Nat → Nat) (av : List Value) (M : PM) : Array Value → State → Prop := va_Pc av (fun U => va_P D clsA (gw 144 ad (cfC cI cC cZ cT ad) M) U.heap ∧ va_K D clsA (tysC cI cC cZ cT) U ∧ NXc U ∧ HXT ad U)
def MX (l : Launch) (D : va_G) (cI cC cZ cT : ClassId) (ad : Nat → Nat) (y : MethodName) (b : ByteArray) (mL : Nat) (ret : Option FieldType) (fr lo : Nat) (av : List Value) (M : PM) (E : String) (post : PM → Prop) : Prop :=
  vx_Met l y (.code y b mL ret :: GW) (rx_ fr lo) (PX D cI cC cZ cT ad av M) NQ (TXC D cI cC cZ cT ad E post) 1 6 (GA 144 ad)
theorem MX.of {l : Launch} {D : va_G} {cI cC cZ cT : ClassId} {ad : Nat → Nat} {y : MethodName} {b : ByteArray} {mL : Nat} {ret : Option FieldType} {fr lo : Nat} {av : List Value} {M : PM} {E : String} {post : PM → Prop}
    (hy : plainName y.cls = true) (hle : (lg_sl av).length ≤ mL)
    (body : ∀ (p : Program) (e : Env) (s : State) (m : MethodId) (below : List Frame) (meth : Method) (c : Code) (ls : Array Slot), p.tables.exec = Jvm.exec → c.code = b → meth.sig.returnType = ret → c.maxLocals = mL → s.vm.findClass y.cls = some m.cls → (∀ w ∈ GW, w.before av.toArray s = true) → meth.locks = false →
      va_K D clsA (tysC cI cC cZ cT) s → NXc s → HXT ad s → (∀ x ∈ c.exceptionTable.toList, False) → va_P D clsA (gw 144 ad (cfC cI cC cZ cT ad) M) s.heap → va_S (GA 144 ad) s.heap s.heap [] → lv_has ls mL (lv_args 0 av) →
      W p l e (rx_ fr lo) s m av.toArray below meth c s.heap [] 0 0 (vx_MQ below NQ (TXC D cI cC cZ cT ad E post) av.toArray s 1 6 (GA 144 ad)) (F0 m 0 ls [])) : MX l D cI cC cZ cT ad y b mL ret fr lo av M E post := by
  refine vx_ofW (cc := b) (maxL := mL) (ret := ret) hy rfl ?_
  intro p e s m args below meth c s₁ B hml ht hv
  obtain ⟨rfl, hP, hK, hN, hX⟩ := hv
  have hts := atoms_spec (ws := Cond.code y b mL ret :: GW) B.pre
  have hown : s.vm.findClass y.cls = some m.cls := findClass_of_methodNamed B.named
  have hl := lv_entry av (n := mL) hle
  rw [lg_entry_eq]
  generalize (lg_sl av ++ List.replicate (mL - (lg_sl av).length) Slot.unset).toArray = ls at hl ⊢
  exact body p e s m below meth c ls B.exec B.bytes B.returns hml hown (fun w hw => hts w (List.mem_cons_of_mem _ hw)) B.notSynchronized hK hN hX ht hP va_S.rf hl
theorem x_blind {D : va_G} {cI cC cZ cT : ClassId} {ad : Nat → Nat} {M : PM} {av : List Value} : FrameBlind (PX D cI cC cZ cT ad av M) := fun a U g mk q => by
  obtain ⟨q0, qP, qK, qN, qX⟩ := q
  exact ⟨q0, qP, va_K.moved (u := U) (U := U.calling g mk a) (Vm.Alike.refl U.vm) qK, NXc.same U (U.calling g mk a) rfl qN, HXT.same (U := U) (V := U.calling g mk a) rfl rfl qX⟩
def xnm : List String := ["java/lang/RuntimeException", "java/lang/Exception"]
/-- the words of a throw of E by the class -/
def XAt (E : String) (ik ic : Nat) : Prop := (∀ w ∈ vx_atS "NameRules" ic E xnm, w ∈ GW ∨ w ∈ XW) ∧ Cond.classLink "NameRules" ik E ∈ GW ∧ Cond.initialized E ∈ GW ∧ (∀ w ∈ Cond.classLink "NameRules" ik E :: Cond.initialized E :: vx_atS "NameRules" ic E xnm, vx_ot w = true) ∧ Bundle.fit E = true
theorem xnm_fit : ∀ n ∈ xnm, Bundle.fit n = true := by decide +kernel
set_option maxRecDepth 100000 in
theorem xat_IAE : XAt "java/lang/IllegalArgumentException" 89 93 := ⟨by decide +kernel, by decide +kernel, by decide +kernel, by decide +kernel, by decide +kernel⟩
set_option maxRecDepth 100000 in
theorem xat_UOE : XAt "java/lang/UnsupportedOperationException" 100 104 := ⟨by decide +kernel, by decide +kernel, by decide +kernel, by decide +kernel, by decide +kernel⟩
set_option maxRecDepth 100000 in
theorem xat_ISE : XAt "java/lang/IllegalStateException" 189 193 := ⟨by decide +kernel, by decide +kernel, by decide +kernel, by decide +kernel, by decide +kernel⟩
set_option maxRecDepth 100000 in
theorem xat_IOE : XAt "java/lang/IndexOutOfBoundsException" 207 211 := ⟨by decide +kernel, by decide +kernel, by decide +kernel, by decide +kernel, by decide +kernel⟩
section GX
variable {p : Program} {l : Launch} {e : Env} {R : Room} {s : State} {m : MethodId} {args : Array Value} {below : List Frame} {meth : Method} {c : Code} {H : Heap} {locs : List Loc}
variable {cc : ByteArray} {pc nL : Nat} {ls : Array Slot} {rest : List Value} {D : va_G} {cI cC cZ cT : ClassId} {ad : Nat → Nat} {M : PM} {E : String} {post : PM → Prop}
theorem x_hat {ik ic : Nat} (hA : XAt E ik ic) (hg : ∀ w ∈ GW, w.before args s = true) (hX : HXT ad s) : ∀ w ∈ vx_atS "NameRules" ic E xnm, w.before args s = true := fun w hw => by
  rcases hA.1 w hw with h | h
  · exact hg w h
  · exact va_Nw.use (XW_ot w h) (hX.1 w h)
theorem x_end (hP : va_P D clsA (gw 144 ad (cfC cI cC cZ cT ad) M) H) (hS : va_S (GA 144 ad) s.heap H locs) (hq : post M) (t : State) (h1 : H.size ≤ t.heap.size) (h2 : ∀ q : Nat, q < H.size → t.heap[q]? = H[q]?) : TXC D cI cC cZ cT ad E post E s t := by
  refine ⟨rfl, ⟨M, hq, ?_⟩, Nat.le_trans hS.1 h1, fun q hq hn => by rw [h2 q (Nat.lt_of_lt_of_le hq hS.1)]; exact hS.2.1 q hq hn⟩
  exact hP.kept (fun k q hk => h2 q.1 (vx_lt hP hk))
/-- throw new E("text") -/
theorem t_S (hx : p.tables.exec = Jvm.exec) (hb : c.code = cc) (hlT : l.stackTraces = false) {ik is ic : Nat} {text : String} (hA : XAt E ik ic) (hst : (is, text) ∈ XSL) (hown : s.vm.findClass "NameRules" = some m.cls) (hg : ∀ w ∈ GW, w.before args s = true) (hX : HXT ad s) (hTb : ∀ x ∈ c.exceptionTable.toList, False) (hlocks : meth.locks = false) (hsz : ls.size = c.maxLocals)
    (hP : va_P D clsA (gw 144 ad (cfC cI cC cZ cT ad) M) H) (hS : va_S (GA 144 ad) s.heap H locs) (hq : post M) (hR : 6 ≤ R.frames ∧ 90 ≤ R.locals ∧ 1 ≤ R.cells ∧ 6 ≤ R.slots) (hW : (rest.map fun v => v.category).sum ≤ 8)
    (d0 : decode cc pc = .ok (.new ik, 3)) (d3 : decode cc (pc + 3) = .ok (.dup, 1)) (d4 : decode cc (pc + 4) = .ok (.ldc is, 2)) (d6 : decode cc (pc + 6) = .ok (.invokespecial ic, 3)) (d9 : decode cc (pc + 9) = .ok (.athrow, 1)) :
    W p l e R s m args below meth c H locs 0 0 (vx_MQ below NQ (TXC D cI cC cZ cT ad E post) args s 1 6 (GA 144 ad)) (F0 m pc ls rest) := by
  obtain ⟨sa, hstr⟩ := hX.2.1 _ hst
  exact vx_throwS hx hb hlT (names := xnm) hown hA.2.2.2.2 xnm_fit (hg _ hA.2.1) (hg _ hA.2.2.1) hstr (x_hat hA hg hX) hA.2.2.2.1 hX.2.2.1 hX.2.2.2 hS hsz d0 d3 d4 d6 d9 (fun x hx => (hTb x hx).elim) (by have := hR.1; simp only [xnm, List.length_cons, List.length_nil]; omega) (by have := hR.2.1; simp only [xnm, List.length_cons, List.length_nil]; omega) (by omega) (by omega) hlocks (fun t _ h1 h2 => x_end hP hS hq t h1 h2) hS.2.2 (by omega) (by omega)
/-- throw new E("text"), the text by a wide index -/
theorem t_SW (hx : p.tables.exec = Jvm.exec) (hb : c.code = cc) (hlT : l.stackTraces = false) {ik is ic : Nat} {text : String} (hA : XAt E ik ic) (hst : (is, text) ∈ XSL) (hown : s.vm.findClass "NameRules" = some m.cls) (hg : ∀ w ∈ GW, w.before args s = true) (hX : HXT ad s) (hTb : ∀ x ∈ c.exceptionTable.toList, False) (hlocks : meth.locks = false) (hsz : ls.size = c.maxLocals)
    (hP : va_P D clsA (gw 144 ad (cfC cI cC cZ cT ad) M) H) (hS : va_S (GA 144 ad) s.heap H locs) (hq : post M) (hR : 6 ≤ R.frames ∧ 90 ≤ R.locals ∧ 1 ≤ R.cells ∧ 6 ≤ R.slots) (hW : (rest.map fun v => v.category).sum ≤ 8)
    (d0 : decode cc pc = .ok (.new ik, 3)) (d3 : decode cc (pc + 3) = .ok (.dup, 1)) (d4 : decode cc (pc + 4) = .ok (.ldc_w is, 3)) (d7 : decode cc (pc + 7) = .ok (.invokespecial ic, 3)) (d10 : decode cc (pc + 10) = .ok (.athrow, 1)) :
    W p l e R s m args below meth c H locs 0 0 (vx_MQ below NQ (TXC D cI cC cZ cT ad E post) args s 1 6 (GA 144 ad)) (F0 m pc ls rest) := by
  obtain ⟨sa, hstr⟩ := hX.2.1 _ hst
  exact vx_throwSW hx hb hlT (names := xnm) hown hA.2.2.2.2 xnm_fit (hg _ hA.2.1) (hg _ hA.2.2.1) hstr (x_hat hA hg hX) hA.2.2.2.1 hX.2.2.1 hX.2.2.2 hS hsz d0 d3 d4 d7 d10 (fun x hx => (hTb x hx).elim) (by have := hR.1; simp only [xnm, List.length_cons, List.length_nil]; omega) (by have := hR.2.1; simp only [xnm, List.length_cons, List.length_nil]; omega) (by omega) (by omega) hlocks (fun t _ h1 h2 => x_end hP hS hq t h1 h2) hS.2.2 (by omega) (by omega)
variable {own : String} {y : MethodName} {bc : ByteArray} {mL : Nat} {ret : Option FieldType} {fr lo : Nat} {As : List Value} {postX : PM → Prop} {index : Nat}
/-- a call of a method that throws: it goes on to the caller -/
theorem x_V (hx : p.tables.exec = Jvm.exec) (hb : c.code = cc) (hml : c.maxLocals = nL) (hown : s.vm.findClass own = some m.cls) (hg : ∀ w ∈ GW, w.before args s = true) (hK : va_K D clsA (tysC cI cC cZ cT) s) (hN : NXc s) (hX : HXT ad s) (hTb : ∀ x ∈ c.exceptionTable.toList, False) (hlocks : meth.locks = false) (hP : va_P D clsA (gw 144 ad (cfC cI cC cZ cT ad) M) H) (hS : va_S (GA 144 ad) s.heap H locs)
    (k0 : Nat) (hM : MX l D cI cC cZ cT ad y bc mL ret fr lo (.ref (ad k0) :: As) M E postX) (hk0 : k0 < 144) {ci : Nat} {fs : List Value} {T : u_T} {N : Nat} (he : cfC cI cC cZ cT ad k0 (M k0) = .inr (ci, fs)) (hc : clsA[ci]? = some (y.cls, T, N))
    (w1 : Cond.methodLink own index y ∈ GW) (w2 : Cond.instanceMethod y ∈ GW) (w3 : Cond.selects y.cls y y ∈ GW) (w4 : Cond.initialized y.cls ∈ GW) (w5 : Cond.code y bc mL ret ∈ GW)
    (np : Nat) (hnp : As.length = np) (hd : y.cls ≠ "java/lang/invoke/MethodHandle" ∧ y.cls ≠ "java/lang/invoke/VarHandle" ∧ (parseMethodDescriptor y.desc).map (fun d => d.parameters.length) = some np) (hR : fr + 1 ≤ R.frames ∧ 8 + (mL + 11) + lo ≤ R.locals ∧ 1 ≤ R.cells ∧ 6 ≤ R.slots) {st0 : List Value} (hst : st0 = As.reverse ++ .ref (ad k0) :: rest) (hsz : ls.size = nL) (hW : (rest.map fun v => v.category).sum ≤ 8) (hdg : decode cc pc = .ok (.invokevirtual index, 3))
    (hpost : ∀ M' : PM, postX M' → post M') : W p l e R s m args below meth c H locs 0 0 (vx_MQ below NQ (TXC D cI cC cZ cT ad E post) args s 1 6 (GA 144 ad)) (F0 m pc ls st0) := by
  subst hst
  subst hnp
  have hts : ∀ w ∈ (Cond.tt :: GW), w.before args s = true := fun w h => by
    rcases List.mem_cons.mp h with rfl | h
    · rfl
    · exact hg w h
  have hr := vx_runV (e := e) (below := below) (meth := meth) (locs := locs) (cells := 0) (slots := 0) (g := F0 m pc ls (As.reverse ++ .ref (ad k0) :: rest)) (As := As) (rest := rest) (Ts := Cond.tt :: GW) ⟨hx, hb, hml, hown, hts⟩ hM (cwV As.length hts (GW_V w1 w2 w3 w4 w5) rfl rfl rfl ⟨rfl, hd⟩ ⟨hR.1, hR.2.1⟩) ⟨x_blind, va_recv hK hP hc (gw_at hk0 he), fun U hU hW9 => ⟨rfl, by rw [hU]; exact hP, va_K.moved hW9.alike hK, hN.warm U hW9, hX.go hW9 hU hS⟩⟩ rfl rfl hsz rfl (lv_room hW) hdg ⟨by omega, by omega⟩
  intro T hT X
  rcases hr T hT X with ⟨v, st₀, t, T', L, h0, X', hL, e1, e2, hq, st⟩ | ⟨q, st₀, t, T', L, E9, ce, h0, X', hL, e1, e2, ⟨rfl, ⟨M', hp, hPt⟩, hF⟩, hce, hcv, hcl, st⟩
  · exact hq.elim
  · obtain ⟨k1, k2, k3⟩ := vx_keep h0 e1 hS (fun _ _ h => h) (fun _ h => h) hL hF
    obtain ⟨t2, a1, b1⟩ := vx_out (Qc := NQ) (XC := TXC D cI cC cZ cT ad E9 post) (free := GA 144 ad) (mc := 1) (ms := 6) (pc := pc) (ls := ls) (rest := rest) (fun x hx => (hTb x hx).elim) hlocks (H := T'.heap) (by rw [e1]; exact hce) hcv hcl (fun t9 ht9 _ => ⟨rfl, ⟨M', hpost M' hp, by rw [ht9, e1]; exact hPt⟩, k3.F ht9⟩) k3.2.2 (by omega) (by omega) T' rfl X'
    exact ⟨t2, st.trans a1, b1⟩
end GX
theorem sx_102 : (102, "the tape is full") ∈ XSL := by decide +kernel
theorem sx_129 : (129, "the tape is no printed name") ∈ XSL := by decide +kernel
theorem sx_141 : (141, "this can't be a short of that") ∈ XSL := by decide +kernel
theorem sx_191 : (191, "the term has no space") ∈ XSL := by decide +kernel
theorem sx_198 : (198, "there are 40 rows") ∈ XSL := by decide +kernel
theorem sx_209 : (209, "there is no such row") ∈ XSL := by decide +kernel
theorem sx_212 : (212, "a row has 0 term, 1 domain, 2 range") ∈ XSL := by decide +kernel
theorem sx_256 : (256, "a rule is 0 or 1") ∈ XSL := by decide +kernel
theorem sx_265 : (265, "both are one") ∈ XSL := by decide +kernel
theorem sx_271 : (271, "there were 20 renames") ∈ XSL := by decide +kernel
theorem sx_287 : (287, "a clash has 0 kind, 1 first, 2 second") ∈ XSL := by decide +kernel
theorem sx_297 : (297, "what is counted is 0 .. 6") ∈ XSL := by decide +kernel
theorem sx_300 : (300, "there is no such name") ∈ XSL := by decide +kernel
theorem sx_302 : (302, "i is below 0") ∈ XSL := by decide +kernel
theorem sx_304 : (304, "the tape is empty") ∈ XSL := by decide +kernel
theorem sx_310 : (310, "the name is too long, or one too many") ∈ XSL := by decide +kernel
theorem sx_91 : (91, "a character is 33 .. 126") ∈ XSL := by decide +kernel
