theorem TT.add {M : PM} {t sl : Nat} {sc : Nat → Nat} (h : TT M t sl sc) (hs : sl < capT t) (hc : sc sl < 128) : TT (pu (pu M (t + 1) sl (nI (sc sl))) t 1 (nI (sl + 1))) t (sl + 1) sc := by
  refine ⟨hs, pu_s _ _ _ _, lt_S (fun i hi => ?_) ?_⟩
  · rw [pu_k _ _ _ _ _ (by omega), pu_j _ _ _ _ _ (by omega)]; exact h.2.2 i hi
  · rw [pu_k _ _ _ _ _ (by omega), pu_s]; exact ⟨hc, rfl⟩
theorem FT.add (M : PM) (t sl : Nat) (x y : Int32) : FT t M (pu (pu M (t + 1) sl x) t 1 y) := fun p q h1 h2 => by rw [pu_eq, if_neg h1, pu_k _ _ _ _ _ h2]
theorem TT.emp (M : PM) (t : Nat) (sc : Nat → Nat) : TT (pu M t 1 (nI 0)) t 0 sc := ⟨Nat.zero_le _, pu_s _ _ _ _, fun i hi => absurd hi (Nat.not_lt_zero i)⟩
theorem FT.emp (M : PM) (t : Nat) (x : Int32) : FT t M (pu M t 1 x) := fun p q h1 _ => by rw [pu_eq, if_neg h1]
theorem TT.cong {M : PM} {t sl : Nat} {sc sc' : Nat → Nat} (h : TT M t sl sc) (e : ∀ i, i < sl → sc i = sc' i) : TT M t sl sc' := ⟨h.1, h.2.1, fun i hi => by rw [← e i hi]; exact h.2.2 i hi⟩
/-- one text before another -/
def ltG (sl : Nat) (sc : Nat → Nat) (ul : Nat) (uc : Nat → Nat) : Prop := ∃ i, i ≤ sl ∧ i ≤ ul ∧ (∀ q, q < i → sc q = uc q) ∧ ((i = sl ∧ sl < ul) ∨ (i < sl ∧ i < ul ∧ sc i < uc i))
def eqG (sl : Nat) (sc : Nat → Nat) (ul : Nat) (uc : Nat → Nat) : Prop := sl = ul ∧ ∀ i, i < sl → sc i = uc i
theorem ltG_at {sl ul i : Nat} {sc uc : Nat → Nat} (h1 : i ≤ sl) (h2 : i ≤ ul) (hp : ∀ q, q < i → sc q = uc q) (hs : i = sl ∨ i = ul ∨ sc i ≠ uc i) : ltG sl sc ul uc ↔ ((i = sl ∧ sl < ul) ∨ (i < sl ∧ i < ul ∧ sc i < uc i)) := by
  refine ⟨fun ⟨j, j1, j2, jp, jq⟩ => ?_, fun h => ⟨i, h1, h2, hp, h⟩⟩
  rcases Nat.lt_trichotomy j i with q | q | q
  · rcases jq with ⟨e, _⟩ | ⟨_, _, e⟩
    · omega
    · have := hp j q; omega
  · subst q; exact jq
  · have := jp i q
    rcases hs with e | e | e
    · omega
    · omega
    · exact absurd this e
theorem ltT_G {len : Nat → Nat} {ch : Nat → Nat → Nat} {a b : Nat} : ltT len ch a b ↔ ltG (len a) (ch a) (len b) (ch b) := Iff.rfl
theorem subI {a b : Nat} (ha : a < 2 ^ 30) (hb : b < 2 ^ 30) : (nI a - nI b = 0 ↔ a = b) ∧ (nI a - nI b < 0 ↔ a < b) := by
  have e := pk_sub_toInt ha hb
  refine ⟨⟨fun h => ?_, fun h => ?_⟩, ⟨fun h => ?_, fun h => pk_sneg hb h⟩⟩
  · rw [h] at e
    have : (0 : Int32).toInt = 0 := rfl
    omega
  · rw [h, pk_sub (Nat.le_refl b), Nat.sub_self]; rfl
  · rw [Int32.lt_iff_toInt_lt, e] at h
    have : (0 : Int32).toInt = 0 := rfl
    omega
theorem GW_S {x cw : Cond} {own : String} {i : Nat} {y : MethodName} (h1 : Cond.methodLink own i y ∈ GW) (h2 : Cond.static y ∈ GW) (h4 : Cond.initialized own ∈ GW) (hc : cw ∈ GW) : GoodIn (x :: GW) (wsS own i y (cw :: GW)) := fun w h => by
  rcases List.mem_append.mp h with h | h
  · simp only [List.mem_cons, List.not_mem_nil, or_false] at h
    rcases h with rfl | rfl | rfl
    · exact ⟨List.mem_cons_of_mem _ h1, GW_good _ h1⟩
    · exact ⟨List.mem_cons_of_mem _ h2, GW_good _ h2⟩
    · exact ⟨List.mem_cons_of_mem _ h4, GW_good _ h4⟩
  · exact GW_in hc w h
section GS
variable {p : Program} {l : Launch} {e : Env} {R : Room} {s : State} {m : MethodId} {args : Array Value} {below : List Frame} {meth : Method} {c : Code} {H : Heap} {locs : List Loc} {cells slots : Nat} {Q : State → Prop}
variable {cc : ByteArray} {pc nL : Nat} {ls : Array Slot} {rest : List Value} {D : va_G} {A : Nat → Prop} {tys : List (ClassId × FieldType)} {H0 : Heap}
variable {n : Nat} {ad : Nat → Nat} {cf : Nat → (Nat → Int32) → va_E} {M : PM} {own : String} {y : MethodName} {bc : ByteArray} {mL : Nat} {ret : Option FieldType} {fr lo : Nat} {NX : State → Prop} {As : List Value} {post : Option Value → PM → Prop} {index : Nat}
/-- a call of a static method of the same class -/
theorem c_S (hx : p.tables.exec = Jvm.exec) (hb : c.code = cc) (hml : c.maxLocals = nL) (hown : s.vm.findClass own = some m.cls) (hg : ∀ w ∈ GW, w.before args s = true) (hK : va_K D clsA tys s) (hN : ∀ (U V : State), U.vm = V.vm → NX U → NX V) (hNs : ∀ U : State, s.WarmedH U.vm → NX U) (hA : ∀ q, GA n ad q → A q) (hP : va_P D clsA (gw n ad cf M) H) (hS : va_S A H0 H locs)
    (hM : MC l D tys n ad cf y bc mL ret fr lo NX As M post) (hyo : y.cls = own)
    (w1 : Cond.methodLink own index y ∈ GW) (w2 : Cond.static y ∈ GW) (w4 : Cond.initialized own ∈ GW) (w5 : Cond.code y bc mL ret ∈ GW)
    (np : Nat) (hnp : As.length = np) (hd : y.cls ≠ "java/lang/invoke/MethodHandle" ∧ y.cls ≠ "java/lang/invoke/VarHandle" ∧ (parseMethodDescriptor y.desc).map (fun d => d.parameters.length) = some np) (hR : fr + 1 ≤ R.frames ∧ 8 + (mL + 11) + lo ≤ R.locals ∧ cells ≤ R.cells ∧ slots ≤ R.slots) {st0 : List Value} (hst : st0 = As.reverse ++ rest) (hsz : ls.size = nL) (hW : (rest.map fun v => v.category).sum ≤ 8) (hdg : decode cc pc = .ok (.invokestatic index, 3))
    (kk : ∀ (v : Option Value) (M' : PM) (H1 : Heap) (locs1 : List Loc), post v M' → va_P D clsA (gw n ad cf M') H1 → H.size ≤ H1.size → (∀ q : Nat, q < H.size → ¬ GA n ad q → H1[q]? = H[q]?) → va_S A H0 H1 locs1 → W p l e R s m args below meth c H1 locs1 cells slots Q (F0 m (pc + 3) ls (v.toList ++ rest))) : W p l e R s m args below meth c H locs cells slots Q (F0 m pc ls st0) := by
  subst hst
  subst hnp
  have hts : ∀ w ∈ (Cond.tt :: GW), w.before args s = true := fun w h => by
    rcases List.mem_cons.mp h with rfl | h
    · rfl
    · exact hg w h
  refine c_go (va_runS (As := As) (rest := rest) (Ts := Cond.tt :: GW) ⟨hx, hb, hml, hown, hts⟩ hM (cwS As.length hts (GW_S w1 w2 w4 w5) rfl rfl rfl ⟨hyo, hd⟩ ⟨hR.1, hR.2.1⟩) ⟨c_blind hN, fun U hU hW => ⟨rfl, by rw [hU]; exact hP, va_K.moved hW.alike hK, hNs U hW⟩⟩ rfl rfl hsz rfl (lv_room hW) hdg ⟨hR.2.2.1, hR.2.2.2⟩) hA hS kk
/-- a call of a private static method of a nest mate -/
theorem c_SN {host : String} (hx : p.tables.exec = Jvm.exec) (hb : c.code = cc) (hml : c.maxLocals = nL) (hown : s.vm.findClass own = some m.cls) (hg : ∀ w ∈ GW, w.before args s = true) (hK : va_K D clsA tys s) (hN : ∀ (U V : State), U.vm = V.vm → NX U → NX V) (hNs : ∀ U : State, s.WarmedH U.vm → NX U) (hA : ∀ q, GA n ad q → A q) (hP : va_P D clsA (gw n ad cf M) H) (hS : va_S A H0 H locs)
    (hM : MC l D tys n ad cf y bc mL ret fr lo NX As M post)
    (w1 : va_Nw (.methodLinkNest own index y host) s) (w2 : Cond.static y ∈ GW) (w4 : Cond.initialized y.cls ∈ GW) (w5 : Cond.code y bc mL ret ∈ GW)
    (np : Nat) (hnp : As.length = np) (hd : y.cls ≠ "java/lang/invoke/MethodHandle" ∧ y.cls ≠ "java/lang/invoke/VarHandle" ∧ (parseMethodDescriptor y.desc).map (fun d => d.parameters.length) = some np) (hR : fr + 1 ≤ R.frames ∧ 8 + (mL + 11) + lo ≤ R.locals ∧ cells ≤ R.cells ∧ slots ≤ R.slots) {st0 : List Value} (hst : st0 = As.reverse ++ rest) (hsz : ls.size = nL) (hW : (rest.map fun v => v.category).sum ≤ 8) (hdg : decode cc pc = .ok (.invokestatic index, 3))
    (kk : ∀ (v : Option Value) (M' : PM) (H1 : Heap) (locs1 : List Loc), post v M' → va_P D clsA (gw n ad cf M') H1 → H.size ≤ H1.size → (∀ q : Nat, q < H.size → ¬ GA n ad q → H1[q]? = H[q]?) → va_S A H0 H1 locs1 → W p l e R s m args below meth c H1 locs1 cells slots Q (F0 m (pc + 3) ls (v.toList ++ rest))) : W p l e R s m args below meth c H locs cells slots Q (F0 m pc ls st0) := by
  subst hst
  subst hnp
  have hts : ∀ w ∈ (Cond.tt :: GW), w.before args s = true := fun w h => by
    rcases List.mem_cons.mp h with rfl | h
    · rfl
    · exact hg w h
  refine c_go (va_runSN (As := As) (rest := rest) (Ts := Cond.tt :: GW) ⟨hx, hb, hml, hown, hts⟩ hM ⟨va_cnB As.length hts (GW_in w5) rfl rfl rfl w1 (hg _ w4) hd ⟨hR.1, hR.2.1⟩, hg _ w2, trivial⟩ ⟨c_blind hN, fun U hU hW => ⟨rfl, by rw [hU]; exact hP, va_K.moved hW.alike hK, hNs U hW⟩⟩ rfl rfl hsz rfl (lv_room hW) hdg ⟨hR.2.2.1, hR.2.2.2⟩) hA hS kk
/-- Math.min of two numbers -/
theorem n_min (hx : p.tables.exec = Jvm.exec) (hb : c.code = cc) (hml : c.maxLocals = ls.size) {index : Nat} (hown : s.vm.findClass own = some m.cls) (hg : ∀ w ∈ GW, w.before args s = true) (w1 : Cond.methodLink own index Lib.Math.min.name ∈ GW) (w2 : Cond.static Lib.Math.min.name ∈ GW) (w3 : Cond.initialized "java/lang/Math" ∈ GW) (w4 : Cond.code Lib.Math.min.name Lib.Math.min.code 2 (some .int) ∈ GW)
    (hframes : 1 ≤ R.frames) (hlocals : (rest.map fun v => v.category).sum + 13 ≤ R.locals) (hc : cells ≤ R.cells) (hs : slots ≤ R.slots) {a b : Nat} (ha : a < 2 ^ 31) (hb' : b < 2 ^ 31) (hdg : decode cc pc = .ok (.invokestatic index, 3))
    (kk : W p l e R s m args below meth c H locs cells slots Q (F0 m (pc + 3) ls (.int (nI (min a b)) :: rest))) : W p l e R s m args below meth c H locs cells slots Q (F0 m pc ls (.int (nI b) :: .int (nI a) :: rest)) := by
  refine va_mmin hx hb hml hown (hg _ w1) (hg _ w2) (hg _ w3) (hg _ w4) hframes hlocals hc hs hdg ?_
  have : (if nI b < nI a then nI b else nI a) = nI (min a b) := by
    by_cases h : b < a
    · rw [if_pos ((nI_ltI hb' ha).mpr h), Nat.min_eq_right (Nat.le_of_lt h)]
    · rw [if_neg (fun q => h ((nI_ltI hb' ha).mp q)), Nat.min_eq_left (Nat.le_of_not_lt h)]
  rw [this]
  exact kk
end GS
section GD2
variable {p : Program} {l : Launch} {e : Env} {R : Room} {s : State} {m : MethodId} {args : Array Value} {below : List Frame} {meth : Method} {c : Code} {H : Heap} {locs : List Loc} {cells slots : Nat} {Q : State → Prop}
variable {cc : ByteArray} {pc : Nat} {ls : Array Slot} {rest : List Value}
theorem n_idiv (hx : p.tables.exec = Jvm.exec) (hb : c.code = cc) {a b : Nat} (hdg : decode cc pc = .ok (.idiv, 1)) (ha : a < 2 ^ 31) (h0 : 0 < b) (hb' : b < 2 ^ 31) (kk : W p l e R s m args below meth c H locs cells slots Q (F0 m (pc + 1) ls (.int (nI (a / b)) :: rest))) : W p l e R s m args below meth c H locs cells slots Q (F0 m pc ls (.int (nI b) :: .int (nI a) :: rest)) :=
  lv_idiv hx hb hdg (nI_ne0 h0 hb') (by rw [pk_div ha h0 hb']; exact kk)
theorem n_irem (hx : p.tables.exec = Jvm.exec) (hb : c.code = cc) {a b : Nat} (hdg : decode cc pc = .ok (.irem, 1)) (ha : a < 2 ^ 31) (h0 : 0 < b) (hb' : b < 2 ^ 31) (kk : W p l e R s m args below meth c H locs cells slots Q (F0 m (pc + 1) ls (.int (nI (a % b)) :: rest))) : W p l e R s m args below meth c H locs cells slots Q (F0 m pc ls (.int (nI b) :: .int (nI a) :: rest)) :=
  lv_irem hx hb hdg (nI_ne0 h0 hb') (by rw [pk_rem ha h0 hb']; exact kk)
end GD2
