/-! ===== the law's own methods: a call of the class, its throws caught ===== -/
def LO (cL : ClassId) (o : Nat) (g : Nat → Int64) (H : Heap) : Prop := H[o]? = some (vp_cell cL (1, .inr (.inl g)))
def FW (ad : Nat → Nat) (o : Nat) : Nat → Prop := fun q => GA 144 ad q ∨ q = o
def XE4 : List String := ["java/lang/IllegalArgumentException", "java/lang/UnsupportedOperationException", "java/lang/IllegalStateException", "java/lang/IndexOutOfBoundsException"]
def HNC (U : State) : Prop := ∀ a ∈ XE4, ∀ b ∈ XE4, a ≠ b → va_Nc a b U
theorem HNC.moved {u U : State} (hv : u.vm.Alike U.vm) (h : HNC u) : HNC U := fun a ha b hb hn => (h a ha b hb hn).moved hv
def PW (D : va_G) (cI cC cZ cT : ClassId) (ad : Nat → Nat) (cL : ClassId) (o : Nat) (av : List Value) (M : PM) (g : Nat → Int64) : Array Value → State → Prop := va_Pc av (fun U => va_P D clsA (gw 144 ad (cfC cI cC cZ cT ad) M) U.heap ∧ va_K D clsA (tysC cI cC cZ cT) U ∧ NXc U ∧ HXT ad U ∧ HNC U ∧ LO cL o g U.heap ∧ ArrOfT U cL .long)
def WQ (D : va_G) (cI cC cZ cT : ClassId) (ad : Nat → Nat) (cL : ClassId) (o k : Nat) (post : PM → Prop) (gp : (Nat → Int64) → Prop) : Array Value → State → Outcome → State → Prop := fun _ st oc t =>
  oc = .returned (some (.int (nI k))) ∧ (∃ M' : PM, post M' ∧ va_P D clsA (gw 144 ad (cfC cI cC cZ cT ad) M') t.heap) ∧ (∃ g' : Nat → Int64, gp g' ∧ LO cL o g' t.heap) ∧ va_F (FW ad o) st t
def XF : String → State → State → Prop := fun _ _ _ => False
def MW (l : Launch) (D : va_G) (cI cC cZ cT : ClassId) (ad : Nat → Nat) (cL : ClassId) (o : Nat) (y : MethodName) (b : ByteArray) (mL : Nat) (hh : List (Nat × Nat × Nat × Nat)) (av : List Value) (M : PM) (g : Nat → Int64) (k : Nat) (post : PM → Prop) (gp : (Nat → Int64) → Prop) : Prop :=
  vx_Met l y (.codeWith y b mL (some .int) hh :: GW) (rx_ 9 230) (PW D cI cC cZ cT ad cL o av M g) (WQ D cI cC cZ cT ad cL o k post gp) XF 1 6 (FW ad o)
theorem MW.of {l : Launch} {D : va_G} {cI cC cZ cT : ClassId} {ad : Nat → Nat} {cL : ClassId} {o : Nat} {y : MethodName} {b : ByteArray} {mL : Nat} {hh : List (Nat × Nat × Nat × Nat)} {av : List Value} {M : PM} {g : Nat → Int64} {k : Nat} {post : PM → Prop} {gp : (Nat → Int64) → Prop}
    (hy : plainName y.cls = true) (hle : (lg_sl av).length ≤ mL)
    (body : ∀ (p : Program) (e : Env) (s : State) (m : MethodId) (below : List Frame) (meth : Method) (c : Code) (ls : Array Slot), p.tables.exec = Jvm.exec → c.code = b → meth.sig.returnType = some .int → c.maxLocals = mL → s.vm.findClass y.cls = some m.cls → (∀ w ∈ GW, w.before av.toArray s = true) → meth.locks = false → c.exceptionTable.toList = tableOf hh →
      va_K D clsA (tysC cI cC cZ cT) s → NXc s → HXT ad s → HNC s → LO cL o g s.heap → ArrOfT s cL .long → va_P D clsA (gw 144 ad (cfC cI cC cZ cT ad) M) s.heap → lv_has ls mL (lv_args 0 av) →
      W p l e (rx_ 9 230) s m av.toArray below meth c s.heap [] 0 0 (vx_MQ below (WQ D cI cC cZ cT ad cL o k post gp) XF av.toArray s 1 6 (FW ad o)) (F0 m 0 ls [])) : MW l D cI cC cZ cT ad cL o y b mL hh av M g k post gp := by
  refine vx_ofWH (cc := b) (maxL := mL) (ret := some .int) (hh := hh) hy rfl ?_
  intro p e s m args below meth c s₁ B hml hv
  obtain ⟨rfl, hP, hK, hN, hX, hC, hL, hA⟩ := hv
  have hts := atoms_spec (ws := Cond.codeWith y b mL (some .int) hh :: GW) B.pre
  have hown : s.vm.findClass y.cls = some m.cls := findClass_of_methodNamed B.named
  have hl := lv_entry av (n := mL) hle
  rw [lg_entry_eq]
  generalize (lg_sl av ++ List.replicate (mL - (lg_sl av).length) Slot.unset).toArray = ls at hl ⊢
  exact body p e s m below meth c ls B.exec B.bytes B.returns hml hown (fun w hw => hts w (List.mem_cons_of_mem _ hw)) B.notSynchronized (vx_table (x := y) B (hts _ List.mem_cons_self)) hK hN hX hC hL hA hP hl
section GWr
variable {p : Program} {l : Launch} {e : Env} {R : Room} {s : State} {m : MethodId} {args : Array Value} {below : List Frame} {meth : Method} {c : Code} {H : Heap} {locs : List Loc} {cells slots : Nat} {Q : State → Prop}
variable {cc : ByteArray} {pc nL : Nat} {ls : Array Slot} {rest : List Value} {D : va_G} {cI cC cZ cT cL : ClassId} {ad : Nat → Nat} {M : PM} {E : String} {o k : Nat} {g : Nat → Int64} {post : PM → Prop} {gp : (Nat → Int64) → Prop}
/-- the answer is stored -/
theorem w_last (hx : p.tables.exec = Jvm.exec) (hb : c.code = cc) (hAr : ArrOfT s cL .long) (hL : LO cL o g H) {A : Nat → Prop} {H0 : Heap} (hA : A o) (hS : va_S A H0 H locs) {x : Int64} (hdg : decode cc pc = .ok (.lastore, 1))
    (kk : ∀ (H1 : Heap) (locs1 : List Loc), LO cL o (fun _ => x) H1 → (∀ q : Nat, q ≠ o → H1[q]? = H[q]?) → va_S A H0 H1 locs1 → W p l e R s m args below meth c H1 locs1 cells slots Q (F0 m (pc + 1) ls rest)) : W p l e R s m args below meth c H locs cells slots Q (F0 m pc ls (.long x :: .int (nI 0) :: .ref o :: rest)) := by
  have hz : (nI 0).toNatClampNeg = 0 := rfl
  refine W.last hx hb hL (hAr 1 (fun j => .long (g j))) (fun q => by cases q) (by show ¬ (_ ∨ (arrV _ _ _).slots.size ≤ _); rw [arrV_size, hz]; show ¬ ((nI 0 : Int32) < 0 ∨ (1 : Nat) ≤ 0); decide) rfl rfl hdg fun H1 e z oq => ?_
  refine kk H1 _ ?_ oq (hS.put z oq hA)
  show H1[o]? = some (vp_cell _ _)
  rw [e, vp_cell_l, vp_cell_l, arrV_store, hz]
  unfold arrV
  congr 2
/-- its end -/
theorem w_ret (hx : p.tables.exec = Jvm.exec) (hb : c.code = cc) (hr : meth.sig.returnType = some .int) (hlocks : meth.locks = false) (hP : va_P D clsA (gw 144 ad (cfC cI cC cZ cT ad) M) H) (hL : LO cL o g H) (hS : va_S (FW ad o) s.heap H locs) (hp : post M) (hg : gp g) (hc : cells ≤ 1) (hs : slots ≤ 6) (hdg : decode cc pc = .ok (.ireturn, 1)) : W p l e R s m args below meth c H locs cells slots (vx_MQ below (WQ D cI cC cZ cT ad cL o k post gp) XF args s 1 6 (FW ad o)) (F0 m pc ls [.int (nI k)]) :=
  W.widen hc hs (vx_ret (W.iret (v := nI k) hx hb hr (fun t ht _ => ⟨rfl, ⟨M, hp, by rw [ht]; exact hP⟩, ⟨g, hg, by rw [ht]; exact hL⟩, hS.F ht⟩) hS.2.2 hdg hlocks))
variable {own : String} {y : MethodName} {bc : ByteArray} {mL : Nat} {ret : Option FieldType} {fr lo : Nat} {As : List Value} {postX : PM → Prop} {index : Nat}
/-- a call of a method that throws, caught here -/
theorem x_C (hx : p.tables.exec = Jvm.exec) (hb : c.code = cc) (hml : c.maxLocals = nL) (hown : s.vm.findClass own = some m.cls) (hg : ∀ w ∈ GW, w.before args s = true) (hK : va_K D clsA (tysC cI cC cZ cT) s) (hN : NXc s) (hX : HXT ad s) (hP : va_P D clsA (gw 144 ad (cfC cI cC cZ cT ad) M) s.heap)
    (hM : MX l D cI cC cZ cT ad y bc mL ret fr lo (.ref (ad 0) :: As) M E postX) (hc : clsA[7]? = some (y.cls, T_C, 15))
    (w1 : Cond.methodLink own index y ∈ GW) (w2 : Cond.instanceMethod y ∈ GW) (w3 : Cond.selects y.cls y y ∈ GW) (w4 : Cond.initialized y.cls ∈ GW) (w5 : Cond.code y bc mL ret ∈ GW)
    (np : Nat) (hnp : As.length = np) (hd : y.cls ≠ "java/lang/invoke/MethodHandle" ∧ y.cls ≠ "java/lang/invoke/VarHandle" ∧ (parseMethodDescriptor y.desc).map (fun d => d.parameters.length) = some np) (hR : fr + 1 ≤ R.frames ∧ 8 + (mL + 11) + lo ≤ R.locals ∧ 1 ≤ R.cells ∧ 6 ≤ R.slots) {st0 : List Value} (hst : st0 = As.reverse ++ .ref (ad 0) :: rest) (hsz : ls.size = nL) (hW : (rest.map fun v => v.category).sum ≤ 8) (hdg : decode cc pc = .ok (.invokevirtual index, 3))
    (pre : List ExceptionTableEntry) (x : ExceptionTableEntry) (suf : List ExceptionTableEntry) (hsplit : c.exceptionTable.toList = pre ++ x :: suf)
    (hpass : ∀ z ∈ pre, covers z pc = false ∨ (z.catchType ≠ 0 ∧ ∃ nm : String, (Cond.classLink own z.catchType nm).before args s = true ∧ va_Nc E nm s)) (hcov : covers x pc = true) (h0 : x.catchType ≠ 0) (wl : Cond.classLink own x.catchType E ∈ GW) (hcast : Cond.castable E E ∈ XW)
    (kk : ∀ (q : Addr) (M' : PM) (H1 : Heap) (locs1 : List Loc), postX M' → va_P D clsA (gw 144 ad (cfC cI cC cZ cT ad) M') H1 → (∀ q : Nat, q < s.heap.size → ¬ GA 144 ad q → H1[q]? = s.heap[q]?) → va_S (GA 144 ad) s.heap H1 locs1 → W p l e R s m args below meth c H1 locs1 1 6 Q (F0 m x.handlerPc ls [.ref q])) : W p l e R s m args below meth c s.heap [] 0 0 Q (F0 m pc ls st0) := by
  subst hst
  subst hnp
  have hts : ∀ w ∈ (Cond.tt :: GW), w.before args s = true := fun w h => by
    rcases List.mem_cons.mp h with rfl | h
    · rfl
    · exact hg w h
  have hS : va_S (GA 144 ad) s.heap s.heap [] := va_S.rf
  have hr := vx_runV (e := e) (below := below) (meth := meth) (locs := []) (cells := 0) (slots := 0) (g := F0 m pc ls (As.reverse ++ .ref (ad 0) :: rest)) (As := As) (rest := rest) (Ts := Cond.tt :: GW) ⟨hx, hb, hml, hown, hts⟩ hM (cwV As.length hts (GW_V w1 w2 w3 w4 w5) rfl rfl rfl ⟨rfl, hd⟩ ⟨hR.1, hR.2.1⟩) ⟨x_blind, va_recv hK hP hc (gw_at (k := 0) (by decide) rfl), fun U hU hW9 => ⟨rfl, by rw [hU]; exact hP, va_K.moved hW9.alike hK, hN.warm U hW9, hX.go hW9 hU hS⟩⟩ rfl rfl hsz rfl (lv_room hW) hdg ⟨by omega, by omega⟩
  intro T hT X
  rcases hr T hT X with ⟨v, st₀, t, T', L, h0', X', hL, e1, e2, hq, st⟩ | ⟨q, st₀, t, T', L, E9, ce, h0', X', hL, e1, e2, ⟨rfl, ⟨M', hp, hPt⟩, hF⟩, hce, hcv, hcl, st⟩
  · exact hq.elim
  · obtain ⟨k1, k2, k3⟩ := vx_keep h0' e1 hS (fun _ _ h => h) (fun _ h => h) hL hF
    obtain ⟨t2, a1, b1⟩ := vx_catch (name := E9) (rest := rest) (pc := pc) hown pre x suf hsplit hpass hcov h0 (hg _ wl) (va_Nw.use (XW_ot _ hcast) (hX.1 _ hcast)) (H := T'.heap) (by rw [e1]; exact hce) hcv hcl (kk q M' T'.heap ([] ++ L) hp (by rw [e1]; exact hPt) k2 k3) T' rfl X'
    exact ⟨t2, st.trans a1, b1⟩
end GWr
