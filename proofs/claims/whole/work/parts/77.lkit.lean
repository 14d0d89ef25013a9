/-! ===== the law: kit ===== -/
theorem and31 (x : Int32) : ∃ k, k < 32 ∧ x &&& nI 31 = nI k := by
  have hle : (x.toBitVec &&& 31#32).toNat ≤ 31 := by rw [BitVec.toNat_and]; exact Nat.and_le_right
  refine ⟨(x.toBitVec &&& 31#32).toNat, by omega, ?_⟩
  apply Int32.toBitVec_inj.mp
  apply BitVec.eq_of_toNat_eq
  have h2 : (nI (x.toBitVec &&& 31#32).toNat).toBitVec.toNat = (x.toBitVec &&& 31#32).toNat := by
    show (BitVec.ofNat 32 (x.toBitVec &&& 31#32).toNat).toNat = _
    rw [BitVec.toNat_ofNat]
    exact Nat.mod_eq_of_lt (by omega)
  rw [h2]
  rfl
abbrev aCs (s : State) : Nat → Nat := fun k => s.heap.size + k
abbrev aMs (s : State) : Nat → Nat := fun k => s.heap.size + 144 + k
abbrev oS (s : State) : Nat := s.heap.size + 157
theorem giC (s : State) : GI 144 (aCs s) := fun _ _ _ _ h => Nat.add_left_cancel h
theorem giM (s : State) : GI 13 (aMs s) := fun _ _ _ _ h => Nat.add_left_cancel h
theorem gaC_ge {s : State} {q : Nat} (h : GA 144 (aCs s) q) : s.heap.size ≤ q ∧ q < s.heap.size + 144 := by
  obtain ⟨k, hk, e⟩ := h
  have e : q = s.heap.size + k := e
  omega
theorem gaM_ge {s : State} {q : Nat} (h : GA 13 (aMs s) q) : s.heap.size + 144 ≤ q ∧ q < s.heap.size + 157 := by
  obtain ⟨k, hk, e⟩ := h
  have e : q = s.heap.size + 144 + k := e
  omega
theorem neC (s : State) : ¬ GA 144 (aCs s) (oS s) := fun h => by
  have := gaC_ge h
  unfold oS at this
  omega
theorem fw_ge {s : State} {q : Nat} (h : FW (aCs s) (oS s) q) : s.heap.size ≤ q ∧ ¬ GA 13 (aMs s) q := by
  rcases h with h | h
  · have := gaC_ge h
    exact ⟨this.1, fun z => by have := gaM_ge z; omega⟩
  · unfold oS at h
    exact ⟨by omega, fun z => by have := gaM_ge z; omega⟩
def HXB (s : State) : Prop := (∀ w ∈ XW, va_Nw w s) ∧ (∀ q ∈ XSL, ∃ a, vk_R "NameRules" q.1 q.2 a s) ∧ vx_Zq Bundle.tN "UNASSIGNED_STACK" Bundle.steD (FB s.heap.size) s s.heap ∧ vx_Zq Bundle.tN "SUPPRESSED_SENTINEL" Bundle.listD (FB s.heap.size) s s.heap
theorem HXB.at {s U : State} {H : Heap} {locs : List Loc} (h : HXB s) (hW : s.WarmedH U.vm) (hh : U.heap = H) (hS : va_S (FB s.heap.size) s.heap H locs) : HXT (aCs s) U := by
  obtain ⟨h1, h2, h3, h4⟩ := h
  refine ⟨fun w hw => ?_, fun q hq => ?_, ?_, ?_⟩
  · rcases XW_k w hw with ⟨x, rfl⟩ | ⟨C, T, rfl⟩
    · exact va_Nw.warmD hW (h1 _ hw)
    · exact va_Nw.warmC hW (h1 _ hw)
  · obtain ⟨a, h⟩ := h2 q hq
    exact ⟨a, vk_R.warm hW h⟩
  · rw [hh]; exact (vx_Zq.moved hW.alike (h3.kept hS.2.1)).narrow (fun q hq => (gaC_ge hq).1)
  · rw [hh]; exact (vx_Zq.moved hW.alike (h4.kept hS.2.1)).narrow (fun q hq => (gaC_ge hq).1)
/-- what holds at the law's entry and stays -/
def LW (l : Launch) (p : Program) (R : Room) (s : State) (m : MethodId) (meth : Method) (c : Code) (D : va_G) (cI cC cZ cT cB cL : ClassId) (b L : Nat) (xs : Nat → Int32) : Prop := (p.tables.exec = Jvm.exec) ∧ (c.code = b_L_law) ∧ (c.maxLocals = 7) ∧ (s.vm.findClass R_L = some m.cls) ∧ (∀ w ∈ GW, w.before #[Value.ref b] s = true) ∧ (va_X b L xs s s.heap) ∧ (b < s.heap.size) ∧ (va_K D clsA (tysC cI cC cZ cT) s) ∧ (va_K D clsA (tysM cI cB) s) ∧ (ArrOfT s cL .long) ∧ (NXc s) ∧ (HNC s) ∧ (HXB s) ∧ (l.stackTraces = false) ∧ (10 ≤ R.frames) ∧ (300 ≤ R.locals)
theorem LW.hx {l : Launch} {p : Program} {R : Room} {s : State} {m : MethodId} {meth : Method} {c : Code} {D : va_G} {cI cC cZ cT cB cL : ClassId} {b L : Nat} {xs : Nat → Int32} (h : LW l p R s m meth c D cI cC cZ cT cB cL b L xs) : p.tables.exec = Jvm.exec := h.1
theorem LW.hb {l : Launch} {p : Program} {R : Room} {s : State} {m : MethodId} {meth : Method} {c : Code} {D : va_G} {cI cC cZ cT cB cL : ClassId} {b L : Nat} {xs : Nat → Int32} (h : LW l p R s m meth c D cI cC cZ cT cB cL b L xs) : c.code = b_L_law := h.2.1
theorem LW.hml {l : Launch} {p : Program} {R : Room} {s : State} {m : MethodId} {meth : Method} {c : Code} {D : va_G} {cI cC cZ cT cB cL : ClassId} {b L : Nat} {xs : Nat → Int32} (h : LW l p R s m meth c D cI cC cZ cT cB cL b L xs) : c.maxLocals = 7 := h.2.2.1
theorem LW.hown {l : Launch} {p : Program} {R : Room} {s : State} {m : MethodId} {meth : Method} {c : Code} {D : va_G} {cI cC cZ cT cB cL : ClassId} {b L : Nat} {xs : Nat → Int32} (h : LW l p R s m meth c D cI cC cZ cT cB cL b L xs) : s.vm.findClass R_L = some m.cls := h.2.2.2.1
theorem LW.hg {l : Launch} {p : Program} {R : Room} {s : State} {m : MethodId} {meth : Method} {c : Code} {D : va_G} {cI cC cZ cT cB cL : ClassId} {b L : Nat} {xs : Nat → Int32} (h : LW l p R s m meth c D cI cC cZ cT cB cL b L xs) : ∀ w ∈ GW, w.before #[Value.ref b] s = true := h.2.2.2.2.1
theorem LW.hX {l : Launch} {p : Program} {R : Room} {s : State} {m : MethodId} {meth : Method} {c : Code} {D : va_G} {cI cC cZ cT cB cL : ClassId} {b L : Nat} {xs : Nat → Int32} (h : LW l p R s m meth c D cI cC cZ cT cB cL b L xs) : va_X b L xs s s.heap := h.2.2.2.2.2.1
theorem LW.hbl {l : Launch} {p : Program} {R : Room} {s : State} {m : MethodId} {meth : Method} {c : Code} {D : va_G} {cI cC cZ cT cB cL : ClassId} {b L : Nat} {xs : Nat → Int32} (h : LW l p R s m meth c D cI cC cZ cT cB cL b L xs) : b < s.heap.size := h.2.2.2.2.2.2.1
theorem LW.hK {l : Launch} {p : Program} {R : Room} {s : State} {m : MethodId} {meth : Method} {c : Code} {D : va_G} {cI cC cZ cT cB cL : ClassId} {b L : Nat} {xs : Nat → Int32} (h : LW l p R s m meth c D cI cC cZ cT cB cL b L xs) : va_K D clsA (tysC cI cC cZ cT) s := h.2.2.2.2.2.2.2.1
theorem LW.hKM {l : Launch} {p : Program} {R : Room} {s : State} {m : MethodId} {meth : Method} {c : Code} {D : va_G} {cI cC cZ cT cB cL : ClassId} {b L : Nat} {xs : Nat → Int32} (h : LW l p R s m meth c D cI cC cZ cT cB cL b L xs) : va_K D clsA (tysM cI cB) s := h.2.2.2.2.2.2.2.2.1
theorem LW.hAr {l : Launch} {p : Program} {R : Room} {s : State} {m : MethodId} {meth : Method} {c : Code} {D : va_G} {cI cC cZ cT cB cL : ClassId} {b L : Nat} {xs : Nat → Int32} (h : LW l p R s m meth c D cI cC cZ cT cB cL b L xs) : ArrOfT s cL .long := h.2.2.2.2.2.2.2.2.2.1
theorem LW.hN {l : Launch} {p : Program} {R : Room} {s : State} {m : MethodId} {meth : Method} {c : Code} {D : va_G} {cI cC cZ cT cB cL : ClassId} {b L : Nat} {xs : Nat → Int32} (h : LW l p R s m meth c D cI cC cZ cT cB cL b L xs) : NXc s := h.2.2.2.2.2.2.2.2.2.2.1
theorem LW.hNC {l : Launch} {p : Program} {R : Room} {s : State} {m : MethodId} {meth : Method} {c : Code} {D : va_G} {cI cC cZ cT cB cL : ClassId} {b L : Nat} {xs : Nat → Int32} (h : LW l p R s m meth c D cI cC cZ cT cB cL b L xs) : HNC s := h.2.2.2.2.2.2.2.2.2.2.2.1
theorem LW.hXB {l : Launch} {p : Program} {R : Room} {s : State} {m : MethodId} {meth : Method} {c : Code} {D : va_G} {cI cC cZ cT cB cL : ClassId} {b L : Nat} {xs : Nat → Int32} (h : LW l p R s m meth c D cI cC cZ cT cB cL b L xs) : HXB s := h.2.2.2.2.2.2.2.2.2.2.2.2.1
theorem LW.hlT {l : Launch} {p : Program} {R : Room} {s : State} {m : MethodId} {meth : Method} {c : Code} {D : va_G} {cI cC cZ cT cB cL : ClassId} {b L : Nat} {xs : Nat → Int32} (h : LW l p R s m meth c D cI cC cZ cT cB cL b L xs) : l.stackTraces = false := h.2.2.2.2.2.2.2.2.2.2.2.2.2.1
theorem LW.hRf {l : Launch} {p : Program} {R : Room} {s : State} {m : MethodId} {meth : Method} {c : Code} {D : va_G} {cI cC cZ cT cB cL : ClassId} {b L : Nat} {xs : Nat → Int32} (h : LW l p R s m meth c D cI cC cZ cT cB cL b L xs) : 10 ≤ R.frames := h.2.2.2.2.2.2.2.2.2.2.2.2.2.2.1
theorem LW.hRl {l : Launch} {p : Program} {R : Room} {s : State} {m : MethodId} {meth : Method} {c : Code} {D : va_G} {cI cC cZ cT cB cL : ClassId} {b L : Nat} {xs : Nat → Int32} (h : LW l p R s m meth c D cI cC cZ cT cB cL b L xs) : 300 ≤ R.locals := h.2.2.2.2.2.2.2.2.2.2.2.2.2.2.2
/-- what the loop keeps -/
def LSt (s : State) (D : va_G) (cI cC cZ cT cB cL : ClassId) (Mc Mm : PM) (g : Nat → Int64) (H : Heap) (locs : List Loc) : Prop := (va_P D clsA (gw 144 (aCs s) (cfC cI cC cZ cT (aCs s)) Mc) H) ∧ (va_P D clsA (gw 13 (aMs s) (cfM cI cB (aMs s)) Mm) H) ∧ (LO cL (oS s) g H) ∧ (va_S (FB s.heap.size) s.heap H locs)
theorem LSt.hPC {s : State} {D : va_G} {cI cC cZ cT cB cL : ClassId} {Mc Mm : PM} {g : Nat → Int64} {H : Heap} {locs : List Loc} (h : LSt s D cI cC cZ cT cB cL Mc Mm g H locs) : va_P D clsA (gw 144 (aCs s) (cfC cI cC cZ cT (aCs s)) Mc) H := h.1
theorem LSt.hPM {s : State} {D : va_G} {cI cC cZ cT cB cL : ClassId} {Mc Mm : PM} {g : Nat → Int64} {H : Heap} {locs : List Loc} (h : LSt s D cI cC cZ cT cB cL Mc Mm g H locs) : va_P D clsA (gw 13 (aMs s) (cfM cI cB (aMs s)) Mm) H := h.2.1
theorem LSt.hL {s : State} {D : va_G} {cI cC cZ cT cB cL : ClassId} {Mc Mm : PM} {g : Nat → Int64} {H : Heap} {locs : List Loc} (h : LSt s D cI cC cZ cT cB cL Mc Mm g H locs) : LO cL (oS s) g H := h.2.2.1
theorem LSt.hS {s : State} {D : va_G} {cI cC cZ cT cB cL : ClassId} {Mc Mm : PM} {g : Nat → Int64} {H : Heap} {locs : List Loc} (h : LSt s D cI cC cZ cT cB cL Mc Mm g H locs) : va_S (FB s.heap.size) s.heap H locs := h.2.2.2
theorem GW_Sa {x cw : Cond} {own : String} {i : Nat} {y : MethodName} (h1 : Cond.methodLink own i y ∈ GW) (h2 : Cond.static y ∈ GW) (h4 : Cond.initialized y.cls ∈ GW) (hc : cw ∈ GW) : GoodIn (x :: GW) (va_wsS own i y (cw :: GW)) := fun w h => by
  rcases List.mem_append.mp h with h | h
  · simp only [List.mem_cons, List.not_mem_nil, or_false] at h
    rcases h with rfl | rfl | rfl
    · exact ⟨List.mem_cons_of_mem _ h1, GW_good _ h1⟩
    · exact ⟨List.mem_cons_of_mem _ h2, GW_good _ h2⟩
    · exact ⟨List.mem_cons_of_mem _ h4, GW_good _ h4⟩
  · exact GW_in hc w h
theorem w_blind {D : va_G} {cI cC cZ cT : ClassId} {ad : Nat → Nat} {cL : ClassId} {o : Nat} {av : List Value} {M : PM} {g : Nat → Int64} : FrameBlind (PW D cI cC cZ cT ad cL o av M g) := fun a U g9 mk q => by
  obtain ⟨q0, qP, qK, qN, qX, qC, qL, qA⟩ := q
  exact ⟨q0, qP, va_K.moved (u := U) (U := U.calling g9 mk a) (Vm.Alike.refl U.vm) qK, NXc.same U (U.calling g9 mk a) rfl qN, HXT.same (U := U) (V := U.calling g9 mk a) rfl rfl qX, HNC.moved (u := U) (U := U.calling g9 mk a) (Vm.Alike.refl U.vm) qC, qL, arrOfT_moved (u := U) (E := U.calling g9 mk a) (Vm.Alike.refl U.vm) qA⟩
section GLw
variable {p : Program} {l : Launch} {e : Env} {R : Room} {s : State} {m : MethodId} {below : List Frame} {meth : Method} {c : Code} {H : Heap} {locs : List Loc} {cells slots : Nat} {Q : State → Prop}
variable {pc : Nat} {ls : Array Slot} {rest : List Value} {D : va_G} {cI cC cZ cT cB cL : ClassId} {b L : Nat} {xs : Nat → Int32} {Mc Mm : PM} {g : Nat → Int64}
variable {y : MethodName} {bc : ByteArray} {mL : Nat} {ret : Option FieldType} {hh : List (Nat × Nat × Nat × Nat)} {As : List Value} {k index : Nat} {post : PM → Prop} {gp : (Nat → Int64) → Prop} {fr lo : Nat} {v : Int32}
/-- a call of one of the law's own methods -/
theorem l_W (hC : LW l p R s m meth c D cI cC cZ cT cB cL b L xs) (h : LSt s D cI cC cZ cT cB cL Mc Mm g H locs)
    (hM : MW l D cI cC cZ cT (aCs s) cL (oS s) y bc mL hh As Mc g k post gp) (w1 : Cond.methodLink R_L index y ∈ GW) (w2 : Cond.static y ∈ GW) (w4 : Cond.initialized y.cls ∈ GW) (w5 : Cond.codeWith y bc mL (some .int) hh ∈ GW)
    (np : Nat) (hnp : As.length = np) (hd : y.cls ≠ "java/lang/invoke/MethodHandle" ∧ y.cls ≠ "java/lang/invoke/VarHandle" ∧ (parseMethodDescriptor y.desc).map (fun d => d.parameters.length) = some np) (hmL : mL ≤ 40) (hc : cells + 1 ≤ R.cells) (hs : slots + 6 ≤ R.slots) {st0 : List Value} (hst : st0 = As.reverse ++ []) (hsz : ls.size = 7) (hdg : decode b_L_law pc = .ok (.invokestatic index, 3))
    (kk : ∀ (M' : PM) (g' : Nat → Int64) (H1 : Heap) (locs1 : List Loc), post M' → gp g' → LSt s D cI cC cZ cT cB cL M' Mm g' H1 locs1 → W p l e R s m #[Value.ref b] below meth c H1 locs1 (cells + 1) (slots + 6) Q (F0 m (pc + 3) ls [.int (nI k)])) : W p l e R s m #[Value.ref b] below meth c H locs cells slots Q (F0 m pc ls st0) := by
  obtain ⟨hx, hb, hml, hown, hg, hX, hbl, hK, hKM, hAr, hN, hNC, hXB, hlT, hRf, hRl⟩ := hC
  obtain ⟨hPC, hPM, hL, hS⟩ := h
  subst hst
  subst hnp
  have hts : ∀ w ∈ (Cond.tt :: GW), w.before #[Value.ref b] s = true := fun w h => by
    rcases List.mem_cons.mp h with rfl | h
    · rfl
    · exact hg w h
  have hr9 := vx_runSX (e := e) (below := below) (meth := meth) (H := H) (locs := locs) (cells := cells) (slots := slots) (g := F0 m pc ls (As.reverse ++ [])) (As := As) (rest := []) (Ts := Cond.tt :: GW) ⟨hx, hb, hml, hown, hts⟩ hM (vx_cwSW As.length hts (GW_Sa w1 w2 w4 w5) rfl rfl rfl hd ⟨by show 9 + 1 ≤ R.frames; omega, by show 8 + (mL + 11) + 230 ≤ R.locals; omega⟩) ⟨w_blind, fun U hU hW9 => ⟨rfl, by rw [hU]; exact hPC, va_K.moved hW9.alike hK, hN.warm U hW9, hXB.at hW9 hU hS, HNC.moved hW9.alike hNC, by rw [hU]; exact hL, arrOfT_moved hW9.alike hAr⟩⟩ rfl rfl hsz rfl (lv_room (Nat.zero_le 8)) hdg ⟨hc, hs⟩
  intro T hT X
  rcases hr9 T hT X with ⟨v, st₀, t, T', L9, h0, X', hL9, e1, e2, ⟨hv, ⟨M', hp, hPt⟩, ⟨g', hg', hLt⟩, hF⟩, st⟩ | ⟨q, st₀, t, T', L9, E9, ce, h0, X', hL9, e1, e2, hq, hce, hcv, hcl, st⟩
  · cases hv
    obtain ⟨k1, k2, k3⟩ := vx_keep (A1 := FW (aCs s) (oS s)) (free := FW (aCs s) (oS s)) h0 e1 hS (fun q _ z => (fw_ge z).1) (fun q z => (fw_ge z).1) hL9 hF
    have hPM' : va_P D clsA (gw 13 (aMs s) (cfM cI cB (aMs s)) Mm) T'.heap := hPM.kept (fun j q hj => k2 q.1 (vx_lt hPM hj) (fun z => (fw_ge z).2 (by
      obtain ⟨h1, e9⟩ := gw_inv hj
      exact ⟨j, h1, by rw [e9]⟩)))
    obtain ⟨t2, a1, b1⟩ := kk M' g' T'.heap (locs ++ L9) hp hg' ⟨by rw [e1]; exact hPt, hPM', by rw [e1]; exact hLt, k3⟩ T' rfl X'
    exact ⟨t2, st t2 a1, b1⟩
  · exact hq.elim
/-- a call of the reference -/
theorem l_M (hC : LW l p R s m meth c D cI cC cZ cT cB cL b L xs) (h : LSt s D cI cC cZ cT cB cL Mc Mm g H locs)
    (hM : MM l D cI cB (aMs s) y bc mL ret fr lo (.ref (aMs s 0) :: As) Mm (fun r M' => r = some (.int v) ∧ post M')) (hc : clsA[8]? = some (y.cls, T_M, 19)) (hfr : fr ≤ 8) (hlo : lo ≤ 200) (hmL : mL ≤ 40)
    (w1 : Cond.methodLink R_L index y ∈ GW) (w2 : Cond.instanceMethod y ∈ GW) (w3 : Cond.selects y.cls y y ∈ GW) (w4 : Cond.initialized y.cls ∈ GW) (w5 : Cond.code y bc mL ret ∈ GW)
    (np : Nat) (hnp : As.length = np) (hd : y.cls ≠ "java/lang/invoke/MethodHandle" ∧ y.cls ≠ "java/lang/invoke/VarHandle" ∧ (parseMethodDescriptor y.desc).map (fun d => d.parameters.length) = some np) (hcl : cells ≤ R.cells) (hsl : slots ≤ R.slots) {st0 : List Value} (hst : st0 = As.reverse ++ .ref (aMs s 0) :: rest) (hsz : ls.size = 7) (hW : (rest.map fun v => v.category).sum ≤ 8) (hdg : decode b_L_law pc = .ok (.invokevirtual index, 3))
    (kk : ∀ (M' : PM) (H1 : Heap) (locs1 : List Loc), post M' → LSt s D cI cC cZ cT cB cL Mc M' g H1 locs1 → W p l e R s m #[Value.ref b] below meth c H1 locs1 cells slots Q (F0 m (pc + 3) ls (.int v :: rest))) : W p l e R s m #[Value.ref b] below meth c H locs cells slots Q (F0 m pc ls st0) := by
  obtain ⟨hx, hb, hml, hown, hg, hX, hbl, hK, hKM, hAr, hN, hNC, hXB, hlT, hRf, hRl⟩ := hC
  obtain ⟨hPC, hPM, hL, hS⟩ := h
  refine c_V (own := R_L) (index := index) (As := As) (rest := rest) (A := FB s.heap.size) (H0 := s.heap) hx hb hml hown hg hKM (fun _ _ _ h => h) (fun _ _ => trivial) (fun q z => by have := gaM_ge z; show s.heap.size ≤ q; omega) hPM hS 0 hM (by decide) (ci := 8) rfl hc w1 w2 w3 w4 w5 np hnp hd ⟨by omega, by omega, hcl, hsl⟩ hst hsz hW hdg (fun v9 M' H1 locs1 hq hP hz hk hS => ?_)
  obtain ⟨rfl, hp⟩ := hq
  refine kk M' H1 locs1 hp ⟨hPC.kept (fun j q hj => hk q.1 (vx_lt hPC hj) (fun z => ?_)), hP, (hk _ (LO.lt hL) (fun z => ?_)).trans hL, hS⟩
  · obtain ⟨h1, e9⟩ := gw_inv hj
    have h2 := gaC_ge (s := s) (q := q.1) ⟨j, h1, by rw [e9]⟩
    have h3 := gaM_ge z
    omega
  · have h3 := gaM_ge z
    unfold oS at h3
    omega
/-- a call of the class itself -/
theorem l_C (hC : LW l p R s m meth c D cI cC cZ cT cB cL b L xs) (h : LSt s D cI cC cZ cT cB cL Mc Mm g H locs)
    (hM : MD l D cI cC cZ cT (aCs s) y bc mL ret fr lo (.ref (aCs s 0) :: As) Mc (fun r M' => r = some (.int v) ∧ post M')) (hc : clsA[7]? = some (y.cls, T_C, 15)) (hfr : fr ≤ 8) (hlo : lo ≤ 200) (hmL : mL ≤ 40)
    (w1 : Cond.methodLink R_L index y ∈ GW) (w2 : Cond.instanceMethod y ∈ GW) (w3 : Cond.selects y.cls y y ∈ GW) (w4 : Cond.initialized y.cls ∈ GW) (w5 : Cond.code y bc mL ret ∈ GW)
    (np : Nat) (hnp : As.length = np) (hd : y.cls ≠ "java/lang/invoke/MethodHandle" ∧ y.cls ≠ "java/lang/invoke/VarHandle" ∧ (parseMethodDescriptor y.desc).map (fun d => d.parameters.length) = some np) (hcl : cells ≤ R.cells) (hsl : slots ≤ R.slots) {st0 : List Value} (hst : st0 = As.reverse ++ .ref (aCs s 0) :: rest) (hsz : ls.size = 7) (hW : (rest.map fun v => v.category).sum ≤ 8) (hdg : decode b_L_law pc = .ok (.invokevirtual index, 3))
    (kk : ∀ (M' : PM) (H1 : Heap) (locs1 : List Loc), post M' → LSt s D cI cC cZ cT cB cL M' Mm g H1 locs1 → W p l e R s m #[Value.ref b] below meth c H1 locs1 cells slots Q (F0 m (pc + 3) ls (.int v :: rest))) : W p l e R s m #[Value.ref b] below meth c H locs cells slots Q (F0 m pc ls st0) := by
  obtain ⟨hx, hb, hml, hown, hg, hX, hbl, hK, hKM, hAr, hN, hNC, hXB, hlT, hRf, hRl⟩ := hC
  obtain ⟨hPC, hPM, hL, hS⟩ := h
  refine c_V (own := R_L) (index := index) (As := As) (rest := rest) (A := FB s.heap.size) (H0 := s.heap) hx hb hml hown hg hK NXc.same hN.warm (fun q z => (gaC_ge z).1) hPC hS 0 hM (by decide) (ci := 7) rfl hc w1 w2 w3 w4 w5 np hnp hd ⟨by omega, by omega, hcl, hsl⟩ hst hsz hW hdg (fun v9 M' H1 locs1 hq hP hz hk hS => ?_)
  obtain ⟨rfl, hp⟩ := hq
  refine kk M' H1 locs1 hp ⟨hP, hPM.kept (fun j q hj => hk q.1 (vx_lt hPM hj) (fun z => ?_)), (hk _ (LO.lt hL) (neC s)).trans hL, hS⟩
  obtain ⟨h1, e9⟩ := gw_inv hj
  have h2 := gaM_ge (s := s) (q := q.1) ⟨j, h1, by rw [e9]⟩
  have h3 := gaC_ge z
  omega
/-- a number of the script -/
theorem l_arg (hC : LW l p R s m meth c D cI cC cZ cT cB cL b L xs) (hS : va_S (FB s.heap.size) s.heap H locs) {T j : Nat} {z : Int} (h0 : ls[0]? = some (.val (.ref b))) (h4 : ls[4]? = some (.val (.int (nI (4 * T))))) (hz : Int32.ofInt z = nI j) (hj : 4 * T + j < L) (hL : L ≤ 2048)
    (d0 : decode b_L_law pc = .ok (.aload_n 0, 1)) (d1 : decode b_L_law (pc + 1) = .ok (.iload 4, 2)) (d3 : decode b_L_law (pc + 3) = .ok (.iconst z, 1)) (d4 : decode b_L_law (pc + 4) = .ok (.iadd, 1)) (d5 : decode b_L_law (pc + 5) = .ok (.iaload, 1))
    (kk : W p l e R s m #[Value.ref b] below meth c H locs cells slots Q (F0 m (pc + 6) ls (.int (xs (4 * T + j)) :: rest))) : W p l e R s m #[Value.ref b] below meth c H locs cells slots Q (F0 m pc ls rest) := by
  have hbA : ¬ FB s.heap.size b := Nat.not_le.mpr hC.hbl
  obtain ⟨g1, g2⟩ := g_in hj (by omega)
  refine lv_aload_n hC.hx hC.hb d0 rfl h0 ?_
  refine lv_iload hC.hx hC.hb d1 h4 ?_
  refine n_const (k := j) hC.hx hC.hb d3 hz ?_
  refine n_iadd hC.hx hC.hb d4 ?_
  refine va_sld hC.hx hC.hb hC.hX hC.hbl hbA hS (i := nI (4 * T + j)) g1 d5 ?_
  rw [g2]
  exact kk
/-- the answer that was stored -/
theorem l_lald (hC : LW l p R s m meth c D cI cC cZ cT cB cL b L xs) (h : LSt s D cI cC cZ cT cB cL Mc Mm g H locs) (hdg : decode b_L_law pc = .ok (.laload, 1))
    (kk : W p l e R s m #[Value.ref b] below meth c H locs cells slots Q (F0 m (pc + 1) ls (.long (g 0) :: rest))) : W p l e R s m #[Value.ref b] below meth c H locs cells slots Q (F0 m pc ls (.int (nI 0) :: .ref (s.heap.size + 157) :: rest)) := by
  have hz : (nI 0).toNatClampNeg = 0 := rfl
  refine W.lald (v := .long (g 0)) hC.hx hC.hb h.hL (hC.hAr 1 (fun j => .long (g j))) (fun q => by cases q) (by show ¬ (_ ∨ (arrV _ _ _).slots.size ≤ _); rw [arrV_size, hz]; show ¬ ((nI 0 : Int32) < 0 ∨ (1 : Nat) ≤ 0); decide) ?_ rfl rfl hdg kk
  rw [hz]
  rfl
abbrev lvL (b : Nat) (s : State) (T : Nat) : List (Nat × Value) := [(0, .ref b), (1, .ref (s.heap.size + 0)), (2, .ref (s.heap.size + 144 + 0)), (3, .ref (s.heap.size + 157)), (4, .int (nI (4 * T)))]
abbrev KL (p : Program) (l : Launch) (e : Env) (R : Room) (s : State) (m : MethodId) (below : List Frame) (meth : Method) (c : Code) (cells slots : Nat) (Q : State → Prop) (D : va_G) (cI cC cZ cT cB cL : ClassId) (b T : Nat) : Prop :=
  ∀ (Mc' Mm' : PM) (g' : Nat → Int64) (H1 : Heap) (locs1 : List Loc) (ls1 : Array Slot), Inv Mc' Mm' (T + 1) → LSt s D cI cC cZ cT cB cL Mc' Mm' g' H1 locs1 → lv_has ls1 7 (lvL b s T) → W p l e R s m #[Value.ref b] below meth c H1 locs1 (cells + 1) (slots + 6) Q (F0 m 1660 ls1 [])
/-- the answers are compared: numbers -/
theorem l_tail (hC : LW l p R s m meth c D cI cC cZ cT cB cL b L xs) {T : Nat} (h : LSt s D cI cC cZ cT cB cL Mc Mm g H locs) (hI : Inv Mc Mm (T + 1)) (hk : k < 2 ^ 31) (hth : Mm 0 0 = nI k) (hv : k = 0 → g 0 = v.toInt64) (hl : lv_has ls 7 ((5, .int (nI k)) :: lvL b s T)) (hcl : cells + 1 ≤ R.cells) (hsl : slots + 6 ≤ R.slots) {off : Int}
    (d0 : decode b_L_law pc = .ok (.istore 6, 2)) (d2 : decode b_L_law (pc + 2) = .ok (.aload_n 2, 1)) (d3 : decode b_L_law (pc + 3) = .ok (.invokevirtual 104, 3)) (d6 : decode b_L_law (pc + 6) = .ok (.iload 5, 2)) (d8 : decode b_L_law (pc + 8) = .ok (.if_icmp .eq 5, 3)) (d13 : decode b_L_law (pc + 13) = .ok (.iload 5, 2)) (d15 : decode b_L_law (pc + 15) = .ok (.ifCond .ne 15, 3)) (d18 : decode b_L_law (pc + 18) = .ok (.aload_n 3, 1)) (d19 : decode b_L_law (pc + 19) = .ok (.iconst 0, 1)) (d20 : decode b_L_law (pc + 20) = .ok (.laload, 1)) (d21 : decode b_L_law (pc + 21) = .ok (.iload 6, 2)) (d23 : decode b_L_law (pc + 23) = .ok (.i2l, 1)) (d24 : decode b_L_law (pc + 24) = .ok (.lcmp, 1)) (d25 : decode b_L_law (pc + 25) = .ok (.ifCond .eq 5, 3)) (d30 : decode b_L_law (pc + 30) = .ok (.goto off, 3)) (ho : ((pc + 30 : Nat) : Int) + off = ((1660 : Nat) : Int))
    (kk : KL p l e R s m below meth c cells slots Q D cI cC cZ cT cB cL b T) : W p l e R s m #[Value.ref b] below meth c H locs (cells + 1) (slots + 6) Q (F0 m pc ls [.int v]) := by
  refine lv_istore (lv' := (6, .int v) :: (5, .int (nI k)) :: lvL b s T) hC.hx hC.hb d0 hl (by decide) rfl (fun ls hl => ?_)
  refine lv_aload_n hC.hx hC.hb d2 rfl (lv_at hl 4 rfl) ?_
  refine l_M (As := []) (rest := []) hC h (c_M_thrown l D cI cB (aMs s) (giM s) Mm) rfl (by decide) (by decide) (by decide) k_851 k_852 k_853 k_9 k_854 0 rfl (by decide +kernel) hcl hsl rfl hl.1 (Nat.zero_le 8) d3 (fun M' H locs hq h => ?_)
  subst hq
  rw [hth]
  refine lv_iload hC.hx hC.hb d6 (lv_at hl 1 rfl) ?_
  refine lv_icmp_eq (tgt := pc + 13) hC.hx hC.hb d8 (by omega) (fun _ => ?_) (fun z => absurd rfl z)
  refine lv_iload hC.hx hC.hb d13 (lv_at hl 1 rfl) ?_
  have hend : W p l e R s m #[Value.ref b] below meth c H locs (cells + 1) (slots + 6) Q (F0 m (pc + 30) ls []) := by
    refine lv_goto (tgt := 1660) hC.hx hC.hb d30 ho ?_
    exact kk Mc Mm g H locs ls hI h (lv_sub hl [2, 3, 4, 5, 6] rfl)
  refine n_ifn0 (tgt := pc + 30) hC.hx hC.hb d15 (by omega) hk (fun _ => hend) (fun hk0 => ?_)
  refine lv_aload_n hC.hx hC.hb d18 rfl (lv_at hl 5 rfl) ?_
  refine n_const (k := 0) hC.hx hC.hb d19 (by decide) ?_
  refine l_lald hC h d20 ?_
  refine lv_iload hC.hx hC.hb d21 (lv_at hl 0 rfl) ?_
  refine lv_i2l hC.hx hC.hb d23 rfl ?_
  refine W.lcmp hC.hx hC.hb d24 ?_
  exact lv_if_eq (tgt := pc + 30) hC.hx hC.hb d25 (by omega) (fun _ => hend) (fun z => absurd ((lg_cmp_eq _ _).mpr (hv hk0)) z)
/-- the answers are compared: truth values -/
theorem l_tailz (hC : LW l p R s m meth c D cI cC cZ cT cB cL b L xs) {T : Nat} (h : LSt s D cI cC cZ cT cB cL Mc Mm g H locs) (hI : Inv Mc Mm (T + 1)) (hk : k < 2 ^ 31) (hth : Mm 0 0 = nI k) (hv : k = 0 → g 0 = if v = 0 then 0 else 1) (hl : lv_has ls 7 ((5, .int (nI k)) :: lvL b s T)) (hcl : cells + 1 ≤ R.cells) (hsl : slots + 6 ≤ R.slots) {off : Int}
    (d0 : decode b_L_law pc = .ok (.istore 6, 2)) (d2 : decode b_L_law (pc + 2) = .ok (.aload_n 2, 1)) (d3 : decode b_L_law (pc + 3) = .ok (.invokevirtual 104, 3)) (d6 : decode b_L_law (pc + 6) = .ok (.iload 5, 2)) (d8 : decode b_L_law (pc + 8) = .ok (.if_icmp .eq 5, 3)) (d13 : decode b_L_law (pc + 13) = .ok (.iload 5, 2)) (d15 : decode b_L_law (pc + 15) = .ok (.ifCond .ne 22, 3)) (d18 : decode b_L_law (pc + 18) = .ok (.aload_n 3, 1)) (d19 : decode b_L_law (pc + 19) = .ok (.iconst 0, 1)) (d20 : decode b_L_law (pc + 20) = .ok (.laload, 1)) (d21 : decode b_L_law (pc + 21) = .ok (.iload 6, 2)) (d23 : decode b_L_law (pc + 23) = .ok (.ifCond .eq 7, 3)) (d26 : decode b_L_law (pc + 26) = .ok (.lconst 1, 1)) (d27 : decode b_L_law (pc + 27) = .ok (.goto 4, 3)) (d30 : decode b_L_law (pc + 30) = .ok (.lconst 0, 1)) (d31 : decode b_L_law (pc + 31) = .ok (.lcmp, 1)) (d32 : decode b_L_law (pc + 32) = .ok (.ifCond .eq 5, 3)) (d37 : decode b_L_law (pc + 37) = .ok (.goto off, 3)) (ho : ((pc + 37 : Nat) : Int) + off = ((1660 : Nat) : Int))
    (kk : KL p l e R s m below meth c cells slots Q D cI cC cZ cT cB cL b T) : W p l e R s m #[Value.ref b] below meth c H locs (cells + 1) (slots + 6) Q (F0 m pc ls [.int v]) := by
  refine lv_istore (lv' := (6, .int v) :: (5, .int (nI k)) :: lvL b s T) hC.hx hC.hb d0 hl (by decide) rfl (fun ls hl => ?_)
  refine lv_aload_n hC.hx hC.hb d2 rfl (lv_at hl 4 rfl) ?_
  refine l_M (As := []) (rest := []) hC h (c_M_thrown l D cI cB (aMs s) (giM s) Mm) rfl (by decide) (by decide) (by decide) k_851 k_852 k_853 k_9 k_854 0 rfl (by decide +kernel) hcl hsl rfl hl.1 (Nat.zero_le 8) d3 (fun M' H locs hq h => ?_)
  subst hq
  rw [hth]
  refine lv_iload hC.hx hC.hb d6 (lv_at hl 1 rfl) ?_
  refine lv_icmp_eq (tgt := pc + 13) hC.hx hC.hb d8 (by omega) (fun _ => ?_) (fun z => absurd rfl z)
  refine lv_iload hC.hx hC.hb d13 (lv_at hl 1 rfl) ?_
  have hend : W p l e R s m #[Value.ref b] below meth c H locs (cells + 1) (slots + 6) Q (F0 m (pc + 37) ls []) := by
    refine lv_goto (tgt := 1660) hC.hx hC.hb d37 ho ?_
    exact kk Mc Mm g H locs ls hI h (lv_sub hl [2, 3, 4, 5, 6] rfl)
  refine n_ifn0 (tgt := pc + 37) hC.hx hC.hb d15 (by omega) hk (fun _ => hend) (fun hk0 => ?_)
  have hv := hv hk0
  refine lv_aload_n hC.hx hC.hb d18 rfl (lv_at hl 5 rfl) ?_
  refine n_const (k := 0) hC.hx hC.hb d19 (by decide) ?_
  refine l_lald hC h d20 ?_
  refine lv_iload hC.hx hC.hb d21 (lv_at hl 0 rfl) ?_
  refine lv_if_eq (tgt := pc + 30) hC.hx hC.hb d23 (by omega) (fun hz => ?_) (fun hz => ?_)
  · rw [if_pos hz] at hv
    refine lv_lconst (v := 0) hC.hx hC.hb d30 (by decide) ?_
    refine W.lcmp hC.hx hC.hb d31 ?_
    exact lv_if_eq (tgt := pc + 37) hC.hx hC.hb d32 (by omega) (fun _ => hend) (fun z => absurd ((lg_cmp_eq _ _).mpr hv) z)
  · rw [if_neg hz] at hv
    refine lv_lconst (v := 1) hC.hx hC.hb d26 (by decide) ?_
    refine lv_goto (tgt := pc + 31) hC.hx hC.hb d27 (by omega) ?_
    refine W.lcmp hC.hx hC.hb d31 ?_
    exact lv_if_eq (tgt := pc + 37) hC.hx hC.hb d32 (by omega) (fun _ => hend) (fun z => absurd ((lg_cmp_eq _ _).mpr hv) z)
end GLw
