/-! ===== what is being built: the cells base, base + 1 .. of the heap's end ===== -/
def ew (base k : Nat) (E : Nat → va_E) : va_W := (List.range k).map (fun i => (base + i, E i))
theorem ew_at {base k i : Nat} {E : Nat → va_E} (h : i < k) {q : va_E} (hq : E i = q) : (ew base k E)[i]? = some (base + i, q) := by
  subst hq
  simp [ew, h]
theorem ew_inv {base k i : Nat} {E : Nat → va_E} {q : Nat × va_E} (h : (ew base k E)[i]? = some q) : i < k ∧ q = (base + i, E i) := by
  unfold ew at h
  have hl : i < k := by
    have := (List.getElem?_eq_some_iff.mp h).1
    simpa using this
  rw [List.getElem?_map, List.getElem?_range hl] at h
  exact ⟨hl, (Option.some.inj h).symm⟩
def eU (E : Nat → va_E) (i : Nat) (e : va_E) : Nat → va_E := fun j => if j = i then e else E j
theorem eU_s (E : Nat → va_E) (i : Nat) (e : va_E) : eU E i e i = e := if_pos rfl
theorem eU_n (E : Nat → va_E) (e : va_E) {i j : Nat} (h : j ≠ i) : eU E i e j = E j := if_neg h
def CB (D : va_G) (base k : Nat) (E : Nat → va_E) (H : Heap) : Prop := va_P D clsA (ew base k E) H ∧ H.size = base + k
theorem CB.at {D : va_G} {base k : Nat} {E : Nat → va_E} {H : Heap} (h : CB D base k E H) {i : Nat} (hi : i < k) : va_at D clsA (base + i, E i) H := h.1 i _ (ew_at hi rfl)
theorem CB.of {D : va_G} {base k : Nat} {E : Nat → va_E} {H : Heap} (h : ∀ i, i < k → va_at D clsA (base + i, E i) H) (hz : H.size = base + k) : CB D base k E H := ⟨fun i q hq => by
  obtain ⟨h1, rfl⟩ := ew_inv hq
  exact h i h1, hz⟩
theorem CB.set {D : va_G} {base k i : Nat} {E : Nat → va_E} {e : va_E} {H H1 : Heap} (h : CB D base k E H) (he : va_at D clsA (base + i, e) H1) (hz : H1.size = H.size) (ho : ∀ q : Nat, q ≠ base + i → H1[q]? = H[q]?) : CB D base k (eU E i e) H1 := by
  refine CB.of (fun j hj => ?_) (hz.trans h.2)
  by_cases hji : j = i
  · subst hji; rw [eU_s]; exact he
  · rw [eU_n _ _ hji]; exact (h.at hj).kept (ho _ (by omega))
theorem CB.push {D : va_G} {base k : Nat} {E : Nat → va_E} {e : va_E} {H H1 : Heap} (h : CB D base k E H) (he : va_at D clsA (base + k, e) H1) (hz : H1.size = H.size + 1) (ho : ∀ q : Nat, q < H.size → H1[q]? = H[q]?) : CB D base (k + 1) (eU E k e) H1 := by
  refine CB.of (fun j hj => ?_) (by rw [hz, h.2]; omega)
  by_cases hji : j = k
  · subst hji; rw [eU_s]; exact he
  · rw [eU_n _ _ hji]; exact (h.at (by omega)).kept (ho _ (by rw [h.2]; omega))
theorem CB.cong {D : va_G} {base k : Nat} {E E' : Nat → va_E} {H : Heap} (h : CB D base k E H) (he : ∀ i, i < k → E i = E' i) : CB D base k E' H := CB.of (fun i hi => by rw [← he i hi]; exact h.at hi) h.2
abbrev FB (base : Nat) : Nat → Prop := fun q => base ≤ q
theorem sB_new {base : Nat} {H0 H H1 : Heap} {locs : List Loc} (hS : va_S (FB base) H0 H locs) (z1 : H1.size = H.size + 1) (o1 : ∀ q : Nat, q < H.size → H1[q]? = H[q]?) : va_S (FB base) H0 H1 locs := ⟨Nat.le_trans hS.1 (by omega), fun x h1 h2 => (o1 x (Nat.lt_of_lt_of_le h1 hS.1)).trans (hS.2.1 x h1 h2), hS.2.2⟩
section GB
variable {p : Program} {l : Launch} {e : Env} {R : Room} {s : State} {m : MethodId} {args : Array Value} {below : List Frame} {meth : Method} {c : Code} {H : Heap} {locs : List Loc} {cells slots : Nat} {Q : State → Prop}
variable {cc : ByteArray} {pc nL : Nat} {ls : Array Slot} {rest : List Value} {D : va_G} {tys : List (ClassId × FieldType)} {H0 : Heap} {base k : Nat} {E : Nat → va_E}
theorem b_new (hx : p.tables.exec = Jvm.exec) (hb : c.code = cc) {own C : String} {T : u_T} {N ci index : Nat} (hg : ∀ w ∈ GW, w.before args s = true) (hin : ∀ w ∈ u_ws C T N, w ∈ GW) (ty : Nat → FieldType) (hty : ∀ k, k < N → parseFieldDescriptor (T k).2.2.1 = some (ty k)) (hown : s.vm.findClass own = some m.cls) (w1 : Cond.classLink own index C ∈ GW) (w2 : Cond.instantiable C N ∈ GW) (w3 : Cond.initialized C ∈ GW)
    (hK : va_K D clsA tys s) (hB : CB D base k E H) (hS : va_S (FB base) H0 H locs) (hc : clsA[ci]? = some (C, T, N)) {fs : List Value} (hfs : ∀ j, j < N → defaultValue (ty j) = vp_V fs j) (hcells : cells + 1 ≤ R.cells) (hslots : slots + N ≤ R.slots) (hdg : decode cc pc = .ok (.new index, 3))
    (kk : ∀ H1 : Heap, CB D base (k + 1) (eU E k (.inr (ci, fs))) H1 → va_S (FB base) H0 H1 locs → W p l e R s m args below meth c H1 locs (cells + 1) (slots + N) Q (F0 m (pc + 3) ls (.ref (base + k) :: rest))) : W p l e R s m args below meth c H locs cells slots Q (F0 m pc ls rest) := by
  have hKn := hK.1 ci _ hc
  refine W.newcK hx hb hown (hg _ w1) (hg _ w2) (hg _ w3) rfl hdg hcells hslots hKn.2.1 hB.2 fun H1 kC hkC e1 z1 o1 => ?_
  rw [← hB.2] at z1 o1
  refine kk H1 (hB.push ⟨_, hc, ?_⟩ z1 o1) (sB_new hS z1 o1)
  exact (u_born ty hg hin hKn hkC e1 hty).to hfs
theorem b_newa (hx : p.tables.exec = Jvm.exec) (hb : c.code = cc) {atype : ArrayType} {ty : FieldType} (hty : newarray.typeOf atype = ty) (hg : ∀ w ∈ GW, w.before args s = true) (w1 : Cond.arrayClass ty ∈ GW) (hK : va_K D clsA tys s) (hB : CB D base k E H) (hS : va_S (FB base) H0 H locs) (t0 : Nat) {cA : ClassId} (ht : tys[t0]? = some (cA, ty)) (hprim : ∀ x, va_RA s x ty = (s.vm.findClass ("[" ++ ty.toString) = some x))
    {n : Nat} {a0 : vp_A} (ha : ∀ cA : ClassId, vp_cell cA a0 = arrV cA n (fun _ => defaultValue ty)) (hn : n < 2 ^ 31) (hbytes : n * componentBytes ty ≤ 536870912) (hcells : cells + 1 ≤ R.cells) (hslots : slots + n ≤ R.slots) (hdg : decode cc pc = .ok (.newarray atype, 2))
    (kk : ∀ H1 : Heap, CB D base (k + 1) (eU E k (.inl (cA, a0))) H1 → va_S (FB base) H0 H1 locs → W p l e R s m args below meth c H1 locs (cells + 1) (slots + n) Q (F0 m (pc + 2) ls (.ref (base + k) :: rest))) : W p l e R s m args below meth c H locs cells slots Q (F0 m pc ls (.int (nI n) :: rest)) := by
  subst hty
  refine va_newaK hx hb (hg _ w1) rfl hdg rfl (nI_pos hn) (nI_clamp hn) hbytes hcells hslots hB.2 fun H1 cA' e1 z1 o1 hAr hNm => ?_
  have hcA : s.vm.findClass ("[" ++ (newarray.typeOf atype).toString) = some cA := by rw [← hprim]; exact (hK.2 t0 _ ht).2
  cases Option.some.inj (hNm.symm.trans hcA)
  rw [← hB.2] at z1 o1
  refine kk H1 (hB.push ?_ z1 o1) (sB_new hS z1 o1)
  show H1[base + k]? = some (vp_cell _ _)
  rw [ha]
  exact e1
theorem b_anew (hx : p.tables.exec = Jvm.exec) (hb : c.code = cc) {own C : String} {index : Nat} (hown : s.vm.findClass own = some m.cls) (hg : ∀ w ∈ GW, w.before args s = true) (w1 : Cond.classLink own index C ∈ GW) (hAO : va_AO C s) (hK : va_K D clsA tys s) (hB : CB D base k E H) (hS : va_S (FB base) H0 H locs) (t0 : Nat) {cA : ClassId} (ht : tys[t0]? = some (cA, .object C))
    {n : Nat} (hn : n < 2 ^ 31) (hbytes : n * 4 ≤ 536870912) (hcells : cells + 1 ≤ R.cells) (hslots : slots + n ≤ R.slots) (hdg : decode cc pc = .ok (.anewarray index, 3))
    (kk : ∀ H1 : Heap, CB D base (k + 1) (eU E k (.inl (cA, n, .inr (.inr (.inr (.inr (fun _ => none))))))) H1 → va_S (FB base) H0 H1 locs → W p l e R s m args below meth c H1 locs (cells + 1) (slots + n) Q (F0 m (pc + 3) ls (.ref (base + k) :: rest))) : W p l e R s m args below meth c H locs cells slots Q (F0 m pc ls (.int (nI n) :: rest)) := by
  have hcl := nI_clamp hn
  refine W.anew hx hb hown (hg _ w1) (va_AO.use hAO) rfl hdg rfl (nI_pos hn) (by rw [hcl]; exact hbytes) hcells (by rw [hcl]; exact hslots) fun cA' kA comp f1 f2 f3 f4 => ?_
  obtain ⟨kA', comp', k1, k2, k3, k4⟩ := (hK.2 t0 _ ht).2
  cases Option.some.inj (f1.symm.trans k4)
  rw [hcl]
  generalize hH1 : H.push ({ cls := cA, slots := Array.replicate n .null, vm := .none } : Cell) = H1
  have z1 : H1.size = H.size + 1 := by rw [← hH1, Array.size_push]
  have e1 : H1[H.size]? = some (arrV cA n (fun _ => .null)) := by rw [← hH1, Array.getElem?_push_size, ← arrV_new]
  have o1 : ∀ q : Nat, q < H.size → H1[q]? = H[q]? := fun q hq => by rw [← hH1, Array.getElem?_push, if_neg (Nat.ne_of_lt hq)]
  rw [hB.2] at e1
  have hh : H.size = base + k := hB.2
  have := kk H1 (hB.push (show H1[base + k]? = some (vp_cell _ _) from e1) z1 o1) (sB_new hS z1 o1)
  rw [← hh] at this
  exact this
end GB
