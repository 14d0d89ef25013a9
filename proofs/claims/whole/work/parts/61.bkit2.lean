section GB2
variable {p : Program} {l : Launch} {e : Env} {R : Room} {s : State} {m : MethodId} {args : Array Value} {below : List Frame} {meth : Method} {c : Code} {H : Heap} {locs : List Loc} {cells slots : Nat} {Q : State → Prop}
variable {cc : ByteArray} {pc nL : Nat} {ls : Array Slot} {rest : List Value} {D : va_G} {tys : List (ClassId × FieldType)} {H0 : Heap} {base k : Nat} {E : Nat → va_E}
theorem b_put (hx : p.tables.exec = Jvm.exec) (hb : c.code = cc) {own C : String} {T : u_T} {N ci index : Nat} (hg : ∀ w ∈ GW, w.before args s = true) (hin : ∀ w ∈ u_ws C T N, w ∈ GW) (ty0 : Nat → FieldType) (hty : ∀ k, k < N → parseFieldDescriptor (T k).2.2.1 = some (ty0 k)) (hnm : ∀ a, a < N → ∀ b, b < N → a ≠ b → (T a).2.1 ≠ (T b).2.1) (hown : s.vm.findClass own = some m.cls) (hK : va_K D clsA tys s) (hB : CB D base k E H) (hS0 : va_S (FB base) H0 H locs) (i : Nat) (hi0 : i < k) {fs : List Value} (he : E i = .inr (ci, fs)) (hc : clsA[ci]? = some (C, T, N)) (j : Nat) (hj : j < N)
    (w1 : Cond.fieldLink own index (T j).1 (T j).2.1 (T j).2.2.1 ∈ GW) (hfin : (T j).2.2.2 = false) {ty : FieldType} {v : Value} (hd : parseFieldDescriptor (T j).2.2.1 = some ty) (hn : narrow ty v = v) (hfit : fits ty v = true) (hl : j < fs.length) (hdg : decode cc pc = .ok (.putfield index, 3))
    (kk : ∀ (H1 : Heap) (locs1 : List Loc), CB D base k (eU E i (.inr (ci, fs.set j v))) H1 → va_S (FB base) H0 H1 locs1 → W p l e R s m args below meth c H1 locs1 cells slots Q (F0 m (pc + 3) ls rest)) : W p l e R s m args below meth c H locs cells slots Q (F0 m pc ls (v :: .ref (base + i) :: rest)) := by
  have hap := va_apart (own := own) hg hin ty0 hty hnm hK hc
  have hat := hB.at hi0
  rw [he] at hat
  obtain ⟨r, h1, cell, q1, q2, q3, q4⟩ := hat
  have hr : r = (C, T, N) := Option.some.inj (h1.symm.trans hc)
  subst hr
  obtain ⟨hS, hfc, kC, hkC, hkind⟩ := hK.1 ci _ hc
  obtain ⟨cf, kf, fi, f, hi, hsl⟩ := hS j hj
  have hlay := hg _ (hin _ (u_in_lay hj))
  unfold u_lay at hlay
  rw [if_neg (by rw [hfin]; decide)] at hlay
  have hst := (u_facts hfc hkC (u_lays hg hin hj) hi).1
  have h6 := u_store hfc hkC hkind hlay hi hd hn hfit
  refine W.putK hx hb (f := f) ⟨hown, hg _ w1, ⟨_, _, _, hi⟩, hst⟩ (by rw [q2]; exact h6) q1 q3 (by rw [hsl]; exact k2_hasslot (q4 j hj)) rfl rfl hdg fun H' e1 e2 e3 => ?_
  rw [hsl] at e1 ⊢
  exact kk H' _ (hB.set ⟨_, hc, t_OB.to (V := updV (vp_V fs) j v) ⟨_, e1, q2, q3, t_set q4 hap hj v⟩ (fun x _ => vp_updV_set hl v x)⟩ e2 e3) (hS0.put e2 e3 (Nat.le_add_right _ _))
theorem b_putF (hx : p.tables.exec = Jvm.exec) (hb : c.code = cc) {own C : String} {T : u_T} {N ci index : Nat} (hg : ∀ w ∈ GW, w.before args s = true) (hin : ∀ w ∈ u_ws C T N, w ∈ GW) (ty0 : Nat → FieldType) (hty : ∀ k, k < N → parseFieldDescriptor (T k).2.2.1 = some (ty0 k)) (hnm : ∀ a, a < N → ∀ b, b < N → a ≠ b → (T a).2.1 ≠ (T b).2.1) (hown : s.vm.findClass own = some m.cls) (hK : va_K D clsA tys s) (hB : CB D base k E H) (hS0 : va_S (FB base) H0 H locs) (i : Nat) (hi0 : i < k) {fs : List Value} (he : E i = .inr (ci, fs)) (hc : clsA[ci]? = some (C, T, N)) (j : Nat) (hj : j < N)
    (w1 : Cond.fieldLink own index (T j).1 (T j).2.1 (T j).2.2.1 ∈ GW) (hfin : (T j).2.2.2 = true) (hin2 : meth.name = "<init>") (hdecl : (T j).1 = own) {ty : FieldType} {v : Value} (hd : parseFieldDescriptor (T j).2.2.1 = some ty) (hn : narrow ty v = v) (hfit : fits ty v = true) (hl : j < fs.length) (hdg : decode cc pc = .ok (.putfield index, 3))
    (kk : ∀ (H1 : Heap) (locs1 : List Loc), CB D base k (eU E i (.inr (ci, fs.set j v))) H1 → va_S (FB base) H0 H1 locs1 → W p l e R s m args below meth c H1 locs1 cells slots Q (F0 m (pc + 3) ls rest)) : W p l e R s m args below meth c H locs cells slots Q (F0 m pc ls (v :: .ref (base + i) :: rest)) := by
  have hap := va_apart (own := own) hg hin ty0 hty hnm hK hc
  have hat := hB.at hi0
  rw [he] at hat
  obtain ⟨r, h1, cell, q1, q2, q3, q4⟩ := hat
  have hr : r = (C, T, N) := Option.some.inj (h1.symm.trans hc)
  subst hr
  obtain ⟨hS, hfc, kC, hkC, hkind⟩ := hK.1 ci _ hc
  obtain ⟨cf, kf, fi, f, hi, hsl⟩ := hS j hj
  have hlay := hg _ (hin _ (u_in_lay hj))
  unfold u_lay at hlay
  rw [if_pos hfin] at hlay
  have hst := (u_facts hfc hkC (u_lays hg hin hj) hi).1
  have hcf : m.cls = cf := by
    obtain ⟨_, _, c', _, _, _, -, -, hf', -, -, -, hown2, -⟩ := Cond.laysFinal_spec hlay
    have e1 : c' = cf := by have := hi.symm.trans hf'; simp at this; exact this.1.symm
    rw [hdecl] at hown2
    rw [← e1]; exact Option.some.inj (hown.symm.trans hown2)
  have h6 := u_fits hfc hkC hkind (Or.inr hlay) hi hd hn hfit
  refine W.putFinK hx hb hown (hg _ w1) hi hst hcf hin2 (by rw [q2]; exact h6) q1 q3 (by rw [hsl]; exact k2_hasslot (q4 j hj)) rfl rfl hdg fun H' e1 e2 e3 => ?_
  rw [hsl] at e1 ⊢
  exact kk H' _ (hB.set ⟨_, hc, t_OB.to (V := updV (vp_V fs) j v) ⟨_, e1, q2, q3, t_set q4 hap hj v⟩ (fun x _ => vp_updV_set hl v x)⟩ e2 e3) (hS0.put e2 e3 (Nat.le_add_right _ _))
theorem b_get (hx : p.tables.exec = Jvm.exec) (hb : c.code = cc) {own C : String} {T : u_T} {N ci index : Nat} (hg : ∀ w ∈ GW, w.before args s = true) (hin : ∀ w ∈ u_ws C T N, w ∈ GW) (hown : s.vm.findClass own = some m.cls) (hK : va_K D clsA tys s) (hB : CB D base k E H) (i : Nat) (hi : i < k) {fs : List Value} (he : E i = .inr (ci, fs)) (hc : clsA[ci]? = some (C, T, N)) (j : Nat) (hj : j < N)
    (w1 : Cond.fieldLink own index (T j).1 (T j).2.1 (T j).2.2.1 ∈ GW) {v : Value} (hv : fs[j]? = some v) (hdg : decode cc pc = .ok (.getfield index, 3))
    (kk : W p l e R s m args below meth c H locs cells slots Q (F0 m (pc + 3) ls (v :: rest))) : W p l e R s m args below meth c H locs cells slots Q (F0 m pc ls (.ref (base + i) :: rest)) :=
  va_get (D := D) (ci := ci) (v := v) (C := C) (T := T) (N := N) hx hb hg hin hown hK hB.1 i (ew_at hi he) hc j hj (hg _ w1) (fun _ h9 => h9) hv hdg kk
theorem b_alen (hx : p.tables.exec = Jvm.exec) (hb : c.code = cc) (hK : va_K D clsA tys s) (hB : CB D base k E H) (i t0 : Nat) (hi : i < k) {cA : ClassId} {x : vp_A} (he : E i = .inl (cA, x)) {ty : FieldType} (ht : tys[t0]? = some (cA, ty)) (hdg : decode cc pc = .ok (.arraylength, 1))
    (kk : W p l e R s m args below meth c H locs cells slots Q (F0 m (pc + 1) ls (.int (nI x.1) :: rest))) : W p l e R s m args below meth c H locs cells slots Q (F0 m pc ls (.ref (base + i) :: rest)) :=
  va_alen hx hb hK hB.1 i t0 (ew_at hi he) ht rfl hdg kk
theorem b_iast (hx : p.tables.exec = Jvm.exec) (hb : c.code = cc) (hK : va_K D clsA tys s) (hB : CB D base k E H) (hS : va_S (FB base) H0 H locs) (i t0 : Nat) (hi : i < k) {cA : ClassId} {n : Nat} {f : Nat → Int32} (he : E i = .inl (cA, n, .inl f)) (ht : tys[t0]? = some (cA, .int)) (hn : n < 2 ^ 31) {j : Nat} (hj : j < n) {x : Int32} (hdg : decode cc pc = .ok (.iastore, 1))
    (kk : ∀ (H1 : Heap) (locs1 : List Loc), CB D base k (eU E i (.inl (cA, n, .inl (upd f j x)))) H1 → va_S (FB base) H0 H1 locs1 → W p l e R s m args below meth c H1 locs1 cells slots Q (F0 m (pc + 1) ls rest)) : W p l e R s m args below meth c H locs cells slots Q (F0 m pc ls (.int x :: .int (nI j) :: .ref (base + i) :: rest)) := by
  have hat := hB.at hi
  rw [he] at hat
  obtain ⟨hin, hcl⟩ := g_in hj hn
  refine W.iast hx hb hat ((hK.2 t0 _ ht).1 n (fun j => .int (f j))) (fun q => by cases q) (by show ¬ (_ ∨ (arrV _ _ _).slots.size ≤ _); rw [arrV_size]; exact hin) rfl rfl hdg fun H1 e z oq => ?_
  refine kk H1 _ (hB.set ?_ z oq) (hS.put z oq (Nat.le_add_right _ _))
  show H1[base + i]? = some (vp_cell _ _)
  rw [e]
  rw [vp_cell_i, vp_cell_i, arrV_store, hcl]
  congr 2
  funext q
  by_cases hq : q = j
  · subst hq
    simp [updV, upd]
  · simp [updV, upd, hq]
theorem b_aast (hx : p.tables.exec = Jvm.exec) (hb : c.code = cc) (hK : va_K D clsA tys s) (hB : CB D base k E H) (hS : va_S (FB base) H0 H locs) (i t0 qk ci : Nat) (hi : i < k) (hqk : qk < k) {cA : ClassId} {r : vw_C} {n : Nat} {vs : List Value} {f : Nat → Option Nat} (he : E i = .inl (cA, n, .inr (.inr (.inr (.inr f))))) (ht : tys[t0]? = some (cA, .object r.1)) (hv : E qk = .inr (ci, vs)) (hc : clsA[ci]? = some r) (hn : n < 2 ^ 31) {j : Nat} (hj : j < n) (hdg : decode cc pc = .ok (.aastore, 1))
    (kk : ∀ (H1 : Heap) (locs1 : List Loc), CB D base k (eU E i (.inl (cA, n, .inr (.inr (.inr (.inr (va_up f j (some (base + qk))))))))) H1 → va_S (FB base) H0 H1 locs1 → W p l e R s m args below meth c H1 locs1 cells slots Q (F0 m (pc + 1) ls rest)) : W p l e R s m args below meth c H locs cells slots Q (F0 m pc ls (.ref (base + qk) :: .int (nI j) :: .ref (base + i) :: rest)) := by
  have hat := hB.at hi
  rw [he] at hat
  have hav := hB.at hqk
  rw [hv] at hav
  obtain ⟨hin, hcl⟩ := g_in hj hn
  have h0 : ¬ nI j < 0 := fun q => hin (Or.inl q)
  obtain ⟨r', hr', cellV, g1, g2, g3, -⟩ := hav
  have hcls := (hK.1 ci r hc).2
  obtain ⟨kA, comp, k1, k2, k3, -⟩ := (hK.2 t0 _ ht).2
  have hcomp : comp = D.1 ci := Option.some.inj (k3.symm.trans hcls.1)
  subst hcomp
  obtain ⟨kC, hkC, -⟩ := hcls.2
  refine W.aast hx hb hat (fun q h => by cases h) (fun h => by cases h) k1 k2 rfl hkC ⟨h0, by show _ < (arrV _ _ _).slots.size; rw [arrV_size, hcl]; exact hj⟩ g1 (fun q h => by rw [g3] at h; cases h) (by rw [g2]; exact hkC) (by rw [g2]; exact va_assign hcls) rfl rfl hdg fun H1 e z oq => ?_
  refine kk H1 _ (hB.set ?_ z oq) (hS.put z oq (Nat.le_add_right _ _))
  show H1[base + i]? = some (vp_cell _ _)
  rw [e]
  rw [vp_cell_q, vp_cell_q, arrV_store, hcl]
  congr 2
  funext q
  by_cases hq : q = j
  · subst hq
    simp [updV, va_up, va_rf]
  · simp [updV, va_up, hq]
end GB2
/-! constructors -/
def KQ (D : va_G) (base k' : Nat) (post : (Nat → va_E) → Prop) : Array Value → State → Outcome → State → Prop := fun _ st oc t => oc = .returned none ∧ (∃ E' : Nat → va_E, post E' ∧ CB D base k' E' t.heap) ∧ va_F (FB base) st t
abbrev rk_ (fr lo nc ns : Nat) : Room := { frames := fr, cells := nc, slots := ns, locals := lo }
def PK (D : va_G) (tys : List (ClassId × FieldType)) (base k : Nat) (E : Nat → va_E) (av : List Value) : Array Value → State → Prop := va_Pc av (fun U => CB D base k E U.heap ∧ va_K D clsA tys U ∧ va_AO "NameRules$Text" U)
def KC (l : Launch) (D : va_G) (tys : List (ClassId × FieldType)) (y : MethodName) (b : ByteArray) (mL fr lo nc ns : Nat) (base k : Nat) (E : Nat → va_E) (av : List Value) (k' : Nat) (post : (Nat → va_E) → Prop) : Prop :=
  Met l y (.code y b mL none :: GW) (rk_ fr lo nc ns) (PK D tys base k E av) (KQ D base k' post) nc ns (FB base)
theorem KC.of {l : Launch} {D : va_G} {tys : List (ClassId × FieldType)} {y : MethodName} {b : ByteArray} {mL fr lo nc ns : Nat} {base k : Nat} {E : Nat → va_E} {av : List Value} {k' : Nat} {post : (Nat → va_E) → Prop}
    (hy : plainName y.cls = true) (hyn : y.name = "<init>") (hle : (lg_sl av).length ≤ mL)
    (body : ∀ (p : Program) (e : Env) (s : State) (m : MethodId) (below : List Frame) (meth : Method) (c : Code) (ls : Array Slot), p.tables.exec = Jvm.exec → c.code = b → meth.sig.returnType = none → c.maxLocals = mL → s.vm.findClass y.cls = some m.cls → (∀ w ∈ GW, w.before av.toArray s = true) → meth.locks = false → meth.name = "<init>" →
      va_K D clsA tys s → va_AO "NameRules$Text" s → CB D base k E s.heap → va_S (FB base) s.heap s.heap [] → lv_has ls mL (lv_args 0 av) →
      W p l e (rk_ fr lo nc ns) s m av.toArray below meth c s.heap [] 0 0 (MQ below (KQ D base k' post) av.toArray s nc ns (FB base)) (F0 m 0 ls [])) : KC l D tys y b mL fr lo nc ns base k E av k' post := by
  refine Met.ofW (cc := b) (maxL := mL) (ret := none) hy rfl ?_
  intro p e s m args below meth c s₁ B hml hv
  obtain ⟨rfl, hB, hK, hAO⟩ := hv
  have hts := atoms_spec (ws := Cond.code y b mL none :: GW) B.pre
  have hown : s.vm.findClass y.cls = some m.cls := findClass_of_methodNamed B.named
  have hl := lv_entry av (n := mL) hle
  rw [lg_entry_eq]
  generalize (lg_sl av ++ List.replicate (mL - (lg_sl av).length) Slot.unset).toArray = ls at hl ⊢
  exact body p e s m below meth c ls B.exec B.bytes B.returns hml hown (fun w hw => hts w (List.mem_cons_of_mem _ hw)) B.notSynchronized ((name_of_methodNamed B.named B.method).1.trans hyn) hK hAO hB va_S.rf hl
section GB3
variable {p : Program} {l : Launch} {e : Env} {R : Room} {s : State} {m : MethodId} {args : Array Value} {below : List Frame} {meth : Method} {c : Code} {H : Heap} {locs : List Loc} {cells slots : Nat} {Q : State → Prop}
variable {cc : ByteArray} {pc nL : Nat} {ls : Array Slot} {rest : List Value} {D : va_G} {tys : List (ClassId × FieldType)} {H0 : Heap} {base k : Nat} {E : Nat → va_E}
variable {own : String} {y : MethodName} {bc : ByteArray} {mL fr lo nc ns : Nat} {As : List Value} {k' index : Nat} {post : (Nat → va_E) → Prop}
theorem k_blind {av : List Value} : FrameBlind (PK D tys base k E av) := fun a U g mk q => by
  obtain ⟨q0, qB, qK, qA⟩ := q
  exact ⟨q0, qB, va_K.moved (u := U) (U := U.calling g mk a) (Vm.Alike.refl U.vm) qK, va_AO.moved (u := U) (U := U.calling g mk a) (Vm.Alike.refl U.vm) qA⟩
/-- a call of a constructor -/
theorem b_call (hx : p.tables.exec = Jvm.exec) (hb : c.code = cc) (hml : c.maxLocals = nL) (hown : s.vm.findClass own = some m.cls) (hg : ∀ w ∈ GW, w.before args s = true) (hK : va_K D clsA tys s) (hAO : va_AO "NameRules$Text" s) (hB : CB D base k E H) {A0 : Nat → Prop} (hA0 : ∀ q, base ≤ q → A0 q) (hS : va_S A0 H0 H locs)
    {i : Nat} (hM : KC l D tys y bc mL fr lo nc ns base k E (.ref (base + i) :: As) k' post) (hy1 : y.name = "<init>")
    (w1 : Cond.methodLink own index y ∈ GW) (w2 : Cond.instanceMethod y ∈ GW) (w4 : Cond.initialized y.cls ∈ GW) (w5 : Cond.code y bc mL none ∈ GW)
    (np : Nat) (hnp : As.length = np) (hd : y.cls ≠ "java/lang/invoke/MethodHandle" ∧ y.cls ≠ "java/lang/invoke/VarHandle" ∧ (parseMethodDescriptor y.desc).map (fun d => d.parameters.length) = some np) (hR : fr + 1 ≤ R.frames ∧ 8 + (mL + 11) + lo ≤ R.locals ∧ cells + nc ≤ R.cells ∧ slots + ns ≤ R.slots) {st0 : List Value} (hst : st0 = As.reverse ++ .ref (base + i) :: rest) (hsz : ls.size = nL) (hW : (rest.map fun v => v.category).sum ≤ 8) (hdg : decode cc pc = .ok (.invokespecial index, 3))
    (kk : ∀ (E' : Nat → va_E) (H1 : Heap) (locs1 : List Loc), post E' → CB D base k' E' H1 → (∀ q : Nat, q < H.size → ¬ base ≤ q → H1[q]? = H[q]?) → va_S A0 H0 H1 locs1 → W p l e R s m args below meth c H1 locs1 (cells + nc) (slots + ns) Q (F0 m (pc + 3) ls rest)) : W p l e R s m args below meth c H locs cells slots Q (F0 m pc ls st0) := by
  subst hst
  subst hnp
  have hts : ∀ w ∈ (Cond.tt :: GW), w.before args s = true := fun w h => by
    rcases List.mem_cons.mp h with rfl | h
    · rfl
    · exact hg w h
  have hr := va_runI (e := e) (below := below) (meth := meth) (locs := locs) (cells := cells) (slots := slots) (g := F0 m pc ls (As.reverse ++ .ref (base + i) :: rest)) (b := base + i) (As := As) (rest := rest) (Ts := Cond.tt :: GW) ⟨hx, hb, hml, hown, hts⟩ hM (cwI As.length hts (GW_in w5) rfl rfl rfl (hg _ w4) (hg _ w1) (hg _ w2) hy1 hd ⟨hR.1, hR.2.1⟩) ⟨k_blind, fun U hU hW9 => ⟨rfl, by rw [hU]; exact hB, va_K.moved hW9.alike hK, va_AO.moved hW9.alike hAO⟩⟩ rfl rfl hsz rfl (lv_room hW) hdg ⟨hR.2.2.1, hR.2.2.2⟩
  intro T hT X
  obtain ⟨v, st₀, t, T', L, h0, X', hL, e1, e2, ⟨hv, ⟨E', hp, hbt⟩, hz, hk⟩, st⟩ := hr T hT X
  cases hv
  rw [h0] at hz hk
  obtain ⟨t2, a1, b1⟩ := kk E' T'.heap (locs ++ L) hp (by rw [e1]; exact hbt) (fun q h1 h2 => by rw [e1]; exact hk q h1 h2)
    ⟨Nat.le_trans hS.1 (by rw [e1]; exact hz), fun q h1 h2 => by rw [e1, hk q (Nat.lt_of_lt_of_le h1 hS.1) (fun z => h2 (hA0 q z))]; exact hS.2.1 q h1 h2, fun q hq => by
      rcases List.mem_append.mp hq with h | h
      · exact hS.2.2 q h
      · exact hA0 _ (hL q h)⟩ T' rfl X'
  exact ⟨t2, st t2 a1, b1⟩
/-- its end -/
theorem b_ret (hx : p.tables.exec = Jvm.exec) (hb : c.code = cc) (hr : meth.sig.returnType = none) (hlocks : meth.locks = false) (hB : CB D base k' E H) (hS : va_S (FB base) s.heap H locs) (hq : post E) (hdg : decode cc pc = .ok (.return_, 1)) : W p l e R s m args below meth c H locs nc ns (MQ below (KQ D base k' post) args s nc ns (FB base)) (F0 m pc ls []) :=
  W.vret hx hb hr (fun t ht _ => ⟨rfl, ⟨E, hq, by rw [ht]; exact hB⟩, hS.F ht⟩) hS.2.2 hdg hlocks
end GB3
