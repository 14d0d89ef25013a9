/-! ===== pictures: a system of n cells at the addresses ad k; its numbers are M k j ===== -/
abbrev PM : Type := Nat → Nat → Int32
def pu (M : PM) (k j : Nat) (v : Int32) : PM := va_up M k (upd (M k) j v)
theorem pu_eq (M : PM) (k j : Nat) (v : Int32) (a b : Nat) : pu M k j v a b = if a = k ∧ b = j then v else M a b := by
  unfold pu va_up upd
  by_cases h1 : a = k
  · subst h1
    by_cases h2 : b = j
    · simp [h2]
    · simp [h2]
  · simp [h1]
theorem pu_s (M : PM) (k j : Nat) (v : Int32) : pu M k j v k j = v := by simp [pu_eq]
theorem pu_k (M : PM) (k j : Nat) (v : Int32) {a : Nat} (b : Nat) (h : a ≠ k) : pu M k j v a b = M a b := by simp [pu_eq, h]
theorem pu_j (M : PM) (k j : Nat) (v : Int32) (a : Nat) {b : Nat} (h : b ≠ j) : pu M k j v a b = M a b := by simp [pu_eq, h]
def gw (n : Nat) (ad : Nat → Nat) (cf : Nat → (Nat → Int32) → va_E) (M : PM) : va_W := (List.range n).map (fun k => (ad k, cf k (M k)))
theorem gw_at {n : Nat} {ad : Nat → Nat} {cf : Nat → (Nat → Int32) → va_E} {M : PM} {k : Nat} (h : k < n) {q : va_E} (hq : cf k (M k) = q) : (gw n ad cf M)[k]? = some (ad k, q) := by
  subst hq
  simp [gw, h]
theorem gw_inv {n : Nat} {ad : Nat → Nat} {cf : Nat → (Nat → Int32) → va_E} {M : PM} {k : Nat} {q : Nat × va_E} (h : (gw n ad cf M)[k]? = some q) : k < n ∧ q = (ad k, cf k (M k)) := by
  unfold gw at h
  have hl : k < n := by
    have := (List.getElem?_eq_some_iff.mp h).1
    simpa using this
  rw [List.getElem?_map, List.getElem?_range hl] at h
  exact ⟨hl, (Option.some.inj h).symm⟩
theorem gw_set {n : Nat} {ad : Nat → Nat} {cf : Nat → (Nat → Int32) → va_E} {M : PM} {k : Nat} (r : Nat → Int32) {q : va_E} (hq : cf k r = q) : (gw n ad cf M).set k (ad k, q) = gw n ad cf (va_up M k r) := by
  subst hq
  apply List.ext_getElem?
  intro j
  by_cases hj : j = k
  · subst hj
    by_cases hl : j < n
    · rw [List.getElem?_set_self (by simpa [gw] using hl), gw_at hl rfl, va_up_self]
    · rw [List.getElem?_eq_none (by simp [gw]; omega), List.getElem?_eq_none (by simp [gw]; omega)]
  · rw [List.getElem?_set_ne (Ne.symm hj)]
    by_cases hl : j < n
    · rw [gw_at hl rfl, gw_at hl rfl, va_up_ne _ _ hj]
    · rw [List.getElem?_eq_none (by simp [gw]; omega), List.getElem?_eq_none (by simp [gw]; omega)]
def GA (n : Nat) (ad : Nat → Nat) : Nat → Prop := fun q => ∃ k : Nat, k < n ∧ q = ad k
def GI (n : Nat) (ad : Nat → Nat) : Prop := ∀ i j : Nat, i < n → j < n → ad i = ad j → i = j
theorem gw_D {n : Nat} {ad : Nat → Nat} {cf : Nat → (Nat → Int32) → va_E} {M : PM} {A : Nat → Prop} (hI : GI n ad) (hA : ∀ q, GA n ad q → A q) : va_D A (gw n ad cf M) := by
  refine ⟨fun i j p q hp hq e => ?_, fun k q hk => ?_⟩
  · obtain ⟨h1, e1⟩ := gw_inv hp
    obtain ⟨h2, e2⟩ := gw_inv hq
    subst e1; subst e2
    exact hI i j h1 h2 e
  · obtain ⟨h1, e1⟩ := gw_inv hk
    subst e1
    exact hA _ ⟨k, h1, rfl⟩
/-- numbers as ints -/
def bI (b : Bool) : Int32 := if b then 1 else 0
def oI (o : Option Nat) : Int32 := match o with
  | none => -1
  | some k => nI k
theorem bI_t : bI true = 1 := rfl
theorem bI_f : bI false = 0 := rfl
theorem bz1 {t : Bool} (h : t = true) : some (Value.int (nI 1)) = some (.int (bI t)) := by rw [h]; rfl
theorem bz0 {t : Bool} (h : t = false) : some (Value.int (nI 0)) = some (.int (bI t)) := by rw [h]; rfl
theorem b_f {t : Bool} {P : Prop} (ht : t = true ↔ P) (h : ¬ P) : t = false := by
  cases t with
  | false => rfl
  | true => exact absurd (ht.mp rfl) h
theorem nI1 : nI 1 = 1 := rfl
theorem nI_inj {a b : Nat} (ha : a < 2 ^ 31) (hb : b < 2 ^ 31) (h : nI a = nI b) : a = b := (nI_eq ha hb).mp h
theorem nI_m1 {a : Nat} (ha : a < 2 ^ 31) : ¬ nI a = -1 := by
  intro h
  have h1 := nI_toInt ha
  rw [h] at h1
  have h2 : (-1 : Int32).toInt = -1 := by decide
  omega
theorem oI_neg {o : Option Nat} (ho : ∀ k, o = some k → k < 2 ^ 31) : oI o < 0 ↔ o = none := by
  cases o with
  | none => simp [oI]
  | some k =>
    have := ho k rfl
    simp only [oI, reduceCtorEq, iff_false]
    exact nI_pos this
section GR
variable {p : Program} {l : Launch} {e : Env} {R : Room} {s : State} {m : MethodId} {args : Array Value} {below : List Frame} {meth : Method} {c : Code} {H : Heap} {locs : List Loc} {cells slots : Nat} {Q : State → Prop}
variable {cc : ByteArray} {pc : Nat} {ls : Array Slot} {rest : List Value} {D : va_G} {cl : List vw_C} {A : Nat → Prop} {tys : List (ClassId × FieldType)} {H0 : Heap}
variable {n : Nat} {ad : Nat → Nat} {cf : Nat → (Nat → Int32) → va_E} {M : PM}
/-! numbers -/
theorem n_const (hx : p.tables.exec = Jvm.exec) (hb : c.code = cc) {k : Nat} {z : Int} (hdg : decode cc pc = .ok (.iconst z, 1)) (hz : Int32.ofInt z = nI k) (kk : W p l e R s m args below meth c H locs cells slots Q (F0 m (pc + 1) ls (.int (nI k) :: rest))) : W p l e R s m args below meth c H locs cells slots Q (F0 m pc ls rest) := lv_iconst hx hb hdg hz kk
theorem n_bipush (hx : p.tables.exec = Jvm.exec) (hb : c.code = cc) {k : Nat} {z : Int} (hdg : decode cc pc = .ok (.bipush z, 2)) (hz : (Int8.ofInt z).toInt32 = nI k) (kk : W p l e R s m args below meth c H locs cells slots Q (F0 m (pc + 2) ls (.int (nI k) :: rest))) : W p l e R s m args below meth c H locs cells slots Q (F0 m pc ls rest) := lv_bipush hx hb hdg hz kk
theorem n_iadd (hx : p.tables.exec = Jvm.exec) (hb : c.code = cc) {a b : Nat} (hdg : decode cc pc = .ok (.iadd, 1)) (kk : W p l e R s m args below meth c H locs cells slots Q (F0 m (pc + 1) ls (.int (nI (a + b)) :: rest))) : W p l e R s m args below meth c H locs cells slots Q (F0 m pc ls (.int (nI b) :: .int (nI a) :: rest)) :=
  lv_iadd hx hb hdg (by rw [nI_add]; exact kk)
theorem n_imul (hx : p.tables.exec = Jvm.exec) (hb : c.code = cc) {a b : Nat} (hdg : decode cc pc = .ok (.imul, 1)) (kk : W p l e R s m args below meth c H locs cells slots Q (F0 m (pc + 1) ls (.int (nI (a * b)) :: rest))) : W p l e R s m args below meth c H locs cells slots Q (F0 m pc ls (.int (nI b) :: .int (nI a) :: rest)) :=
  lv_imul hx hb hdg (by rw [pk_mul]; exact kk)
theorem n_isub (hx : p.tables.exec = Jvm.exec) (hb : c.code = cc) {a b : Nat} (hdg : decode cc pc = .ok (.isub, 1)) (h : b ≤ a) (kk : W p l e R s m args below meth c H locs cells slots Q (F0 m (pc + 1) ls (.int (nI (a - b)) :: rest))) : W p l e R s m args below meth c H locs cells slots Q (F0 m pc ls (.int (nI b) :: .int (nI a) :: rest)) :=
  lv_isub hx hb hdg (by rw [pk_sub h]; exact kk)
theorem n_inc (hx : p.tables.exec = Jvm.exec) (hb : c.code = cc) {i nL k a : Nat} {lv lv' : List (Nat × Value)} (hdg : decode cc pc = .ok (.iinc i 1, 3)) (h : lv_has ls nL lv) (hk : lv[k]? = some (i, .int (nI a))) (hn : i < nL) (hl : (i, Value.int (nI (a + 1))) :: lv.filter (fun q => !(q.1 == i) && !(q.1 + 1 == i && q.2.category == 2)) = lv')
    (kk : ∀ ls' : Array Slot, lv_has ls' nL lv' → W p l e R s m args below meth c H locs cells slots Q (F0 m (pc + 3) ls' rest)) : W p l e R s m args below meth c H locs cells slots Q (F0 m pc ls rest) :=
  lv_iinc hx hb hdg h hk (nI_1 a) hn hl kk
theorem n_ge (hx : p.tables.exec = Jvm.exec) (hb : c.code = cc) {a b : Nat} {off : Int} {tgt : Nat} (hdg : decode cc pc = .ok (.if_icmp .ge off, 3)) (ht : (pc : Int) + off = (tgt : Int)) (ha : a < 2 ^ 31) (hb' : b < 2 ^ 31)
    (kt : b ≤ a → W p l e R s m args below meth c H locs cells slots Q (F0 m tgt ls rest)) (kf : a < b → W p l e R s m args below meth c H locs cells slots Q (F0 m (pc + 3) ls rest)) : W p l e R s m args below meth c H locs cells slots Q (F0 m pc ls (.int (nI b) :: .int (nI a) :: rest)) :=
  lv_icmp_ge hx hb hdg ht (fun h => kt ((nI_leI hb' ha).mp h)) (fun h => kf (Nat.lt_of_not_le fun q => h ((nI_leI hb' ha).mpr q)))
theorem n_lt (hx : p.tables.exec = Jvm.exec) (hb : c.code = cc) {a b : Nat} {off : Int} {tgt : Nat} (hdg : decode cc pc = .ok (.if_icmp .lt off, 3)) (ht : (pc : Int) + off = (tgt : Int)) (ha : a < 2 ^ 31) (hb' : b < 2 ^ 31)
    (kt : a < b → W p l e R s m args below meth c H locs cells slots Q (F0 m tgt ls rest)) (kf : b ≤ a → W p l e R s m args below meth c H locs cells slots Q (F0 m (pc + 3) ls rest)) : W p l e R s m args below meth c H locs cells slots Q (F0 m pc ls (.int (nI b) :: .int (nI a) :: rest)) :=
  lv_icmp_lt hx hb hdg ht (fun h => kt ((nI_ltI ha hb').mp h)) (fun h => kf (Nat.le_of_not_lt fun q => h ((nI_ltI ha hb').mpr q)))
theorem n_gt (hx : p.tables.exec = Jvm.exec) (hb : c.code = cc) {a b : Nat} {off : Int} {tgt : Nat} (hdg : decode cc pc = .ok (.if_icmp .gt off, 3)) (ht : (pc : Int) + off = (tgt : Int)) (ha : a < 2 ^ 31) (hb' : b < 2 ^ 31)
    (kt : b < a → W p l e R s m args below meth c H locs cells slots Q (F0 m tgt ls rest)) (kf : a ≤ b → W p l e R s m args below meth c H locs cells slots Q (F0 m (pc + 3) ls rest)) : W p l e R s m args below meth c H locs cells slots Q (F0 m pc ls (.int (nI b) :: .int (nI a) :: rest)) :=
  lv_icmp_gt hx hb hdg ht (fun h => kt ((nI_ltI hb' ha).mp h)) (fun h => kf (Nat.le_of_not_lt fun q => h ((nI_ltI hb' ha).mpr q)))
theorem n_le (hx : p.tables.exec = Jvm.exec) (hb : c.code = cc) {a b : Nat} {off : Int} {tgt : Nat} (hdg : decode cc pc = .ok (.if_icmp .le off, 3)) (ht : (pc : Int) + off = (tgt : Int)) (ha : a < 2 ^ 31) (hb' : b < 2 ^ 31)
    (kt : a ≤ b → W p l e R s m args below meth c H locs cells slots Q (F0 m tgt ls rest)) (kf : b < a → W p l e R s m args below meth c H locs cells slots Q (F0 m (pc + 3) ls rest)) : W p l e R s m args below meth c H locs cells slots Q (F0 m pc ls (.int (nI b) :: .int (nI a) :: rest)) :=
  lv_icmp_le hx hb hdg ht (fun h => kt ((nI_leI ha hb').mp h)) (fun h => kf (Nat.lt_of_not_le fun q => h ((nI_leI ha hb').mpr q)))
theorem n_eq (hx : p.tables.exec = Jvm.exec) (hb : c.code = cc) {a b : Nat} {off : Int} {tgt : Nat} (hdg : decode cc pc = .ok (.if_icmp .eq off, 3)) (ht : (pc : Int) + off = (tgt : Int)) (ha : a < 2 ^ 31) (hb' : b < 2 ^ 31)
    (kt : a = b → W p l e R s m args below meth c H locs cells slots Q (F0 m tgt ls rest)) (kf : a ≠ b → W p l e R s m args below meth c H locs cells slots Q (F0 m (pc + 3) ls rest)) : W p l e R s m args below meth c H locs cells slots Q (F0 m pc ls (.int (nI b) :: .int (nI a) :: rest)) :=
  lv_icmp_eq hx hb hdg ht (fun h => kt ((nI_eq ha hb').mp h)) (fun h => kf (fun q => h ((nI_eq ha hb').mpr q)))
theorem n_ne (hx : p.tables.exec = Jvm.exec) (hb : c.code = cc) {a b : Nat} {off : Int} {tgt : Nat} (hdg : decode cc pc = .ok (.if_icmp .ne off, 3)) (ht : (pc : Int) + off = (tgt : Int)) (ha : a < 2 ^ 31) (hb' : b < 2 ^ 31)
    (kt : a ≠ b → W p l e R s m args below meth c H locs cells slots Q (F0 m tgt ls rest)) (kf : a = b → W p l e R s m args below meth c H locs cells slots Q (F0 m (pc + 3) ls rest)) : W p l e R s m args below meth c H locs cells slots Q (F0 m pc ls (.int (nI b) :: .int (nI a) :: rest)) :=
  lv_icmp_ne hx hb hdg ht (fun h => kt (fun q => h ((nI_eq ha hb').mpr q))) (fun h => kf ((nI_eq ha hb').mp h))
/-! truth values -/
theorem z_eq (hx : p.tables.exec = Jvm.exec) (hb : c.code = cc) {t : Bool} {off : Int} {tgt : Nat} (hdg : decode cc pc = .ok (.ifCond .eq off, 3)) (ht : (pc : Int) + off = (tgt : Int))
    (kt : t = false → W p l e R s m args below meth c H locs cells slots Q (F0 m tgt ls rest)) (kf : t = true → W p l e R s m args below meth c H locs cells slots Q (F0 m (pc + 3) ls rest)) : W p l e R s m args below meth c H locs cells slots Q (F0 m pc ls (.int (bI t) :: rest)) :=
  lv_if_eq hx hb hdg ht (fun h => kt (by cases t <;> simp_all [bI])) (fun h => kf (by cases t <;> simp_all [bI]))
theorem z_ne (hx : p.tables.exec = Jvm.exec) (hb : c.code = cc) {t : Bool} {off : Int} {tgt : Nat} (hdg : decode cc pc = .ok (.ifCond .ne off, 3)) (ht : (pc : Int) + off = (tgt : Int))
    (kt : t = true → W p l e R s m args below meth c H locs cells slots Q (F0 m tgt ls rest)) (kf : t = false → W p l e R s m args below meth c H locs cells slots Q (F0 m (pc + 3) ls rest)) : W p l e R s m args below meth c H locs cells slots Q (F0 m pc ls (.int (bI t) :: rest)) :=
  lv_if_ne hx hb hdg ht (fun h => kt (by cases t <;> simp_all [bI])) (fun h => kf (by cases t <;> simp_all [bI]))
/-! cells -/
theorem g_put (hx : p.tables.exec = Jvm.exec) (hb : c.code = cc) {own C : String} {T : u_T} {N ci index : Nat} (hg : ∀ w ∈ GW, w.before args s = true) (hin : ∀ w ∈ u_ws C T N, w ∈ GW) (ty0 : Nat → FieldType) (hty : ∀ k, k < N → parseFieldDescriptor (T k).2.2.1 = some (ty0 k)) (hnm : ∀ a, a < N → ∀ b, b < N → a ≠ b → (T a).2.1 ≠ (T b).2.1) (hown : s.vm.findClass own = some m.cls) (hK : va_K D cl tys s) (hI : GI n ad) (hA : ∀ q, GA n ad q → A q) (hP : va_P D cl (gw n ad cf M) H) (hS : va_S A H0 H locs) (k0 : Nat) (hk0 : k0 < n) {fs : List Value} (he : cf k0 (M k0) = .inr (ci, fs)) (hc : cl[ci]? = some (C, T, N)) (k : Nat) (hk : k < N)
    (hlink : (Cond.fieldLink own index (T k).1 (T k).2.1 (T k).2.2.1).before args s = true) (hfin : (T k).2.2.2 = false) {v : Int32} (hd : parseFieldDescriptor (T k).2.2.1 = some .int) (hl : k < fs.length) (hr : cf k0 (upd (M k0) k v) = .inr (ci, fs.set k (.int v))) (hdg : decode cc pc = .ok (.putfield index, 3))
    (kk : ∀ (H1 : Heap) (locs1 : List Loc), va_P D cl (gw n ad cf (pu M k0 k v)) H1 → va_S A H0 H1 locs1 → W p l e R s m args below meth c H1 locs1 cells slots Q (F0 m (pc + 3) ls rest)) : W p l e R s m args below meth c H locs cells slots Q (F0 m pc ls (.int v :: .ref (ad k0) :: rest)) := by
  refine va_put (D := D) (ci := ci) (v := .int v) (ty := .int) (C := C) (T := T) (N := N) hx hb hg hin ty0 hty hnm hown hK hP (gw_D hI hA) hS k0 (gw_at hk0 he) hc k hk hlink (fun _ h9 => h9) hfin hd rfl rfl hl hdg (fun H1 locs1 h1 _ h3 => ?_)
  rw [gw_set _ hr] at h1
  exact kk H1 locs1 h1 h3
theorem g_get (hx : p.tables.exec = Jvm.exec) (hb : c.code = cc) {own C : String} {T : u_T} {N ci index : Nat} (hg : ∀ w ∈ GW, w.before args s = true) (hin : ∀ w ∈ u_ws C T N, w ∈ GW) (hown : s.vm.findClass own = some m.cls) (hK : va_K D cl tys s) (hP : va_P D cl (gw n ad cf M) H) (k0 : Nat) (hk0 : k0 < n) {fs : List Value} (he : cf k0 (M k0) = .inr (ci, fs)) (hc : cl[ci]? = some (C, T, N)) (k : Nat) (hk : k < N)
    (hlink : (Cond.fieldLink own index (T k).1 (T k).2.1 (T k).2.2.1).before args s = true) {v : Value} (hv : fs[k]? = some v) (hdg : decode cc pc = .ok (.getfield index, 3))
    (kk : W p l e R s m args below meth c H locs cells slots Q (F0 m (pc + 3) ls (v :: rest))) : W p l e R s m args below meth c H locs cells slots Q (F0 m pc ls (.ref (ad k0) :: rest)) :=
  va_get (D := D) (ci := ci) (v := v) (C := C) (T := T) (N := N) hx hb hg hin hown hK hP k0 (gw_at hk0 he) hc k hk hlink (fun _ h9 => h9) hv hdg kk
theorem g_in {j N : Nat} (h : j < N) (hN : N < 2 ^ 31) : vp_in (nI j) N ∧ (nI j).toNatClampNeg = j := ⟨vp_in_nI h hN, nI_clamp (by omega)⟩
theorem g_iald (hx : p.tables.exec = Jvm.exec) (hb : c.code = cc) (hK : va_K D cl tys s) (hP : va_P D cl (gw n ad cf M) H) (k0 t0 : Nat) (hk0 : k0 < n) {cA : ClassId} {N : Nat} (hc : cf k0 (M k0) = .inl (cA, N, .inl (M k0))) (ht : tys[t0]? = some (cA, .int)) (hN : N < 2 ^ 31) {j : Nat} (hj : j < N) (hdg : decode cc pc = .ok (.iaload, 1))
    (kk : W p l e R s m args below meth c H locs cells slots Q (F0 m (pc + 1) ls (.int (M k0 j) :: rest))) : W p l e R s m args below meth c H locs cells slots Q (F0 m pc ls (.int (nI j) :: .ref (ad k0) :: rest)) :=
  va_iald hx hb hK hP k0 t0 (gw_at hk0 hc) ht (g_in hj hN).1 hdg (by rw [(g_in hj hN).2]; exact kk)
theorem g_bald (hx : p.tables.exec = Jvm.exec) (hb : c.code = cc) (hK : va_K D cl tys s) (hP : va_P D cl (gw n ad cf M) H) (k0 t0 : Nat) (hk0 : k0 < n) {cA : ClassId} {N : Nat} (hc : cf k0 (M k0) = .inl (cA, N, .inl (M k0))) (ht : tys[t0]? = some (cA, .byte)) (hN : N < 2 ^ 31) {j : Nat} (hj : j < N) (hdg : decode cc pc = .ok (.baload, 1))
    (kk : W p l e R s m args below meth c H locs cells slots Q (F0 m (pc + 1) ls (.int (M k0 j) :: rest))) : W p l e R s m args below meth c H locs cells slots Q (F0 m pc ls (.int (nI j) :: .ref (ad k0) :: rest)) :=
  va_bald hx hb hK hP k0 t0 (gw_at hk0 hc) ht (g_in hj hN).1 hdg (by rw [(g_in hj hN).2]; exact kk)
theorem g_zald (hx : p.tables.exec = Jvm.exec) (hb : c.code = cc) (hK : va_K D cl tys s) (hP : va_P D cl (gw n ad cf M) H) (k0 t0 : Nat) (hk0 : k0 < n) {cA : ClassId} {N : Nat} (hc : cf k0 (M k0) = .inl (cA, N, .inl (M k0))) (ht : tys[t0]? = some (cA, .boolean)) (hN : N < 2 ^ 31) {j : Nat} (hj : j < N) (hdg : decode cc pc = .ok (.baload, 1))
    (kk : W p l e R s m args below meth c H locs cells slots Q (F0 m (pc + 1) ls (.int (M k0 j) :: rest))) : W p l e R s m args below meth c H locs cells slots Q (F0 m pc ls (.int (nI j) :: .ref (ad k0) :: rest)) :=
  va_zald hx hb hK hP k0 t0 (gw_at hk0 hc) ht (g_in hj hN).1 hdg (by rw [(g_in hj hN).2]; exact kk)
theorem g_cald (hx : p.tables.exec = Jvm.exec) (hb : c.code = cc) (hK : va_K D cl tys s) (hP : va_P D cl (gw n ad cf M) H) (k0 t0 : Nat) (hk0 : k0 < n) {cA : ClassId} {N : Nat} (hc : cf k0 (M k0) = .inl (cA, N, .inl (M k0))) (ht : tys[t0]? = some (cA, .char)) (hN : N < 2 ^ 31) {j : Nat} (hj : j < N) (hdg : decode cc pc = .ok (.caload, 1))
    (kk : W p l e R s m args below meth c H locs cells slots Q (F0 m (pc + 1) ls (.int (M k0 j) :: rest))) : W p l e R s m args below meth c H locs cells slots Q (F0 m pc ls (.int (nI j) :: .ref (ad k0) :: rest)) :=
  va_cald hx hb hK hP k0 t0 (gw_at hk0 hc) ht (g_in hj hN).1 hdg (by rw [(g_in hj hN).2]; exact kk)
theorem g_iast (hx : p.tables.exec = Jvm.exec) (hb : c.code = cc) (hK : va_K D cl tys s) (hI : GI n ad) (hA : ∀ q, GA n ad q → A q) (hP : va_P D cl (gw n ad cf M) H) (hS : va_S A H0 H locs) (k0 t0 : Nat) (hk0 : k0 < n) {cA : ClassId} {N : Nat} (hc : ∀ r, cf k0 r = .inl (cA, N, .inl r)) (ht : tys[t0]? = some (cA, .int)) (hN : N < 2 ^ 31) {j : Nat} (hj : j < N) {v : Int32} (hdg : decode cc pc = .ok (.iastore, 1))
    (kk : ∀ (H1 : Heap) (locs1 : List Loc), va_P D cl (gw n ad cf (pu M k0 j v)) H1 → va_S A H0 H1 locs1 → W p l e R s m args below meth c H1 locs1 cells slots Q (F0 m (pc + 1) ls rest)) : W p l e R s m args below meth c H locs cells slots Q (F0 m pc ls (.int v :: .int (nI j) :: .ref (ad k0) :: rest)) := by
  refine va_iast hx hb hK hP (gw_D hI hA) hS k0 t0 (gw_at hk0 (hc _)) ht (g_in hj hN).1 hdg (fun H1 locs1 h1 _ h3 => ?_)
  rw [(g_in hj hN).2, gw_set _ (hc _)] at h1
  exact kk H1 locs1 h1 h3
theorem g_bast (hx : p.tables.exec = Jvm.exec) (hb : c.code = cc) (hK : va_K D cl tys s) (hI : GI n ad) (hA : ∀ q, GA n ad q → A q) (hP : va_P D cl (gw n ad cf M) H) (hS : va_S A H0 H locs) (k0 t0 : Nat) (hk0 : k0 < n) {cA : ClassId} {N : Nat} (hc : ∀ r, cf k0 r = .inl (cA, N, .inl r)) (ht : tys[t0]? = some (cA, .byte)) (hN : N < 2 ^ 31) {j : Nat} (hj : j < N) {v : Int32} (hdg : decode cc pc = .ok (.bastore, 1))
    (kk : ∀ (H1 : Heap) (locs1 : List Loc), va_P D cl (gw n ad cf (pu M k0 j (vp_nar .byte v))) H1 → va_S A H0 H1 locs1 → W p l e R s m args below meth c H1 locs1 cells slots Q (F0 m (pc + 1) ls rest)) : W p l e R s m args below meth c H locs cells slots Q (F0 m pc ls (.int v :: .int (nI j) :: .ref (ad k0) :: rest)) := by
  refine va_bast hx hb hK hP (gw_D hI hA) hS k0 t0 (gw_at hk0 (hc _)) ht (g_in hj hN).1 hdg (fun H1 locs1 h1 _ h3 => ?_)
  rw [(g_in hj hN).2, gw_set _ (hc _)] at h1
  exact kk H1 locs1 h1 h3
theorem g_zast (hx : p.tables.exec = Jvm.exec) (hb : c.code = cc) (hK : va_K D cl tys s) (hI : GI n ad) (hA : ∀ q, GA n ad q → A q) (hP : va_P D cl (gw n ad cf M) H) (hS : va_S A H0 H locs) (k0 t0 : Nat) (hk0 : k0 < n) {cA : ClassId} {N : Nat} (hc : ∀ r, cf k0 r = .inl (cA, N, .inl r)) (ht : tys[t0]? = some (cA, .boolean)) (hN : N < 2 ^ 31) {j : Nat} (hj : j < N) {v : Int32} (hdg : decode cc pc = .ok (.bastore, 1))
    (kk : ∀ (H1 : Heap) (locs1 : List Loc), va_P D cl (gw n ad cf (pu M k0 j (vp_nar .boolean v))) H1 → va_S A H0 H1 locs1 → W p l e R s m args below meth c H1 locs1 cells slots Q (F0 m (pc + 1) ls rest)) : W p l e R s m args below meth c H locs cells slots Q (F0 m pc ls (.int v :: .int (nI j) :: .ref (ad k0) :: rest)) := by
  refine va_zast hx hb hK hP (gw_D hI hA) hS k0 t0 (gw_at hk0 (hc _)) ht (g_in hj hN).1 hdg (fun H1 locs1 h1 _ h3 => ?_)
  rw [(g_in hj hN).2, gw_set _ (hc _)] at h1
  exact kk H1 locs1 h1 h3
theorem g_cast (hx : p.tables.exec = Jvm.exec) (hb : c.code = cc) (hK : va_K D cl tys s) (hI : GI n ad) (hA : ∀ q, GA n ad q → A q) (hP : va_P D cl (gw n ad cf M) H) (hS : va_S A H0 H locs) (k0 t0 : Nat) (hk0 : k0 < n) {cA : ClassId} {N : Nat} (hc : ∀ r, cf k0 r = .inl (cA, N, .inl r)) (ht : tys[t0]? = some (cA, .char)) (hN : N < 2 ^ 31) {j : Nat} (hj : j < N) {v : Int32} (hdg : decode cc pc = .ok (.castore, 1))
    (kk : ∀ (H1 : Heap) (locs1 : List Loc), va_P D cl (gw n ad cf (pu M k0 j (vp_nar .char v))) H1 → va_S A H0 H1 locs1 → W p l e R s m args below meth c H1 locs1 cells slots Q (F0 m (pc + 1) ls rest)) : W p l e R s m args below meth c H locs cells slots Q (F0 m pc ls (.int v :: .int (nI j) :: .ref (ad k0) :: rest)) := by
  refine va_cast hx hb hK hP (gw_D hI hA) hS k0 t0 (gw_at hk0 (hc _)) ht (g_in hj hN).1 hdg (fun H1 locs1 h1 _ h3 => ?_)
  rw [(g_in hj hN).2, gw_set _ (hc _)] at h1
  exact kk H1 locs1 h1 h3
end GR
/-! ===== contracts of a method of a system: it returns, makes nothing, writes in the system's cells alone ===== -/
abbrev rm_ (fr lo : Nat) : Room := { frames := fr, cells := 0, slots := 0, locals := lo }
def GQ (D : va_G) (n : Nat) (ad : Nat → Nat) (cf : Nat → (Nat → Int32) → va_E) (post : Option Value → PM → Prop) : Array Value → State → Outcome → State → Prop := fun _ st oc t =>
  (∃ (v : Option Value) (M' : PM), oc = .returned v ∧ post v M' ∧ va_P D clsA (gw n ad cf M') t.heap) ∧ va_F (GA n ad) st t
def MC (l : Launch) (D : va_G) (tys : List (ClassId × FieldType)) (n : Nat) (ad : Nat → Nat) (cf : Nat → (Nat → Int32) → va_E) (y : MethodName) (b : ByteArray) (mL : Nat) (ret : Option FieldType) (fr lo : Nat) (NX : State → Prop) (av : List Value) (M : PM) (post : Option Value → PM → Prop) : Prop :=
  Met l y (.code y b mL ret :: GW) (rm_ fr lo) (va_Pc av (fun U => va_P D clsA (gw n ad cf M) U.heap ∧ va_K D clsA tys U ∧ NX U)) (GQ D n ad cf post) 0 0 (GA n ad)
theorem MC.of {l : Launch} {D : va_G} {tys : List (ClassId × FieldType)} {n : Nat} {ad : Nat → Nat} {cf : Nat → (Nat → Int32) → va_E} {y : MethodName} {b : ByteArray} {mL : Nat} {ret : Option FieldType} {fr lo : Nat} {NX : State → Prop} {av : List Value} {M : PM} {post : Option Value → PM → Prop}
    (hy : plainName y.cls = true) (hle : (lg_sl av).length ≤ mL)
    (body : ∀ (p : Program) (e : Env) (s : State) (m : MethodId) (below : List Frame) (meth : Method) (c : Code) (ls : Array Slot), p.tables.exec = Jvm.exec → c.code = b → meth.sig.returnType = ret → c.maxLocals = mL → s.vm.findClass y.cls = some m.cls → (∀ w ∈ GW, w.before av.toArray s = true) → meth.locks = false →
      va_K D clsA tys s → NX s → va_P D clsA (gw n ad cf M) s.heap → va_S (GA n ad) s.heap s.heap [] → lv_has ls mL (lv_args 0 av) →
      W p l e (rm_ fr lo) s m av.toArray below meth c s.heap [] 0 0 (MQ below (GQ D n ad cf post) av.toArray s 0 0 (GA n ad)) (F0 m 0 ls [])) : MC l D tys n ad cf y b mL ret fr lo NX av M post := by
  refine Met.ofW (cc := b) (maxL := mL) (ret := ret) hy rfl ?_
  intro p e s m args below meth c s₁ B hml hv
  obtain ⟨rfl, hP, hK, hN⟩ := hv
  have hts := atoms_spec (ws := Cond.code y b mL ret :: GW) B.pre
  have hown : s.vm.findClass y.cls = some m.cls := findClass_of_methodNamed B.named
  have hl := lv_entry av (n := mL) hle
  rw [lg_entry_eq]
  generalize (lg_sl av ++ List.replicate (mL - (lg_sl av).length) Slot.unset).toArray = ls at hl ⊢
  exact body p e s m below meth c ls B.exec B.bytes B.returns hml hown (fun w hw => hts w (List.mem_cons_of_mem _ hw)) B.notSynchronized hK hN hP va_S.rf hl
theorem GW_good : ∀ w ∈ GW, (w.onTables && w.keeps) = true ∨ ∃ ty, w = .arrayClass ty := fun w h => good_of_word (List.mem_filter.mp h).2
theorem GW_in {x y : Cond} (hx : y ∈ GW) : GoodIn (x :: GW) (y :: GW) := fun w h => by
  rcases List.mem_cons.mp h with rfl | h
  · exact ⟨List.mem_cons_of_mem _ hx, GW_good _ hx⟩
  · exact ⟨List.mem_cons_of_mem _ h, GW_good _ h⟩
theorem GW_V {x cw : Cond} {own C : String} {i : Nat} {y : MethodName} (h1 : Cond.methodLink own i y ∈ GW) (h2 : Cond.instanceMethod y ∈ GW) (h3 : Cond.selects C y y ∈ GW) (h4 : Cond.initialized C ∈ GW) (hc : cw ∈ GW) : GoodIn (x :: GW) (wsV own i C y (cw :: GW)) := fun w h => by
  rcases List.mem_append.mp h with h | h
  · simp only [List.mem_cons, List.not_mem_nil, or_false] at h
    rcases h with rfl | rfl | rfl | rfl
    · exact ⟨List.mem_cons_of_mem _ h1, GW_good _ h1⟩
    · exact ⟨List.mem_cons_of_mem _ h2, GW_good _ h2⟩
    · exact ⟨List.mem_cons_of_mem _ h3, GW_good _ h3⟩
    · exact ⟨List.mem_cons_of_mem _ h4, GW_good _ h4⟩
  · exact GW_in hc w h
section GC
variable {p : Program} {l : Launch} {e : Env} {R : Room} {s : State} {m : MethodId} {args : Array Value} {below : List Frame} {meth : Method} {c : Code} {H : Heap} {locs : List Loc} {cells slots : Nat} {Q : State → Prop}
variable {cc : ByteArray} {pc nL : Nat} {ls : Array Slot} {rest : List Value} {D : va_G} {A : Nat → Prop} {tys : List (ClassId × FieldType)} {H0 : Heap}
variable {n : Nat} {ad : Nat → Nat} {cf : Nat → (Nat → Int32) → va_E} {M : PM} {own : String} {y : MethodName} {bc : ByteArray} {mL : Nat} {ret : Option FieldType} {fr lo : Nat} {NX : State → Prop} {As : List Value} {post : Option Value → PM → Prop} {index : Nat}
/-- behind a call that returns -/
theorem c_go {st0 : List Value} {a : Array Value} (hr : va_Run p l e R s m args below meth c H locs cells slots 0 0 (F0 m pc ls st0) rest (GQ D n ad cf post a) (GA n ad)) (hA : ∀ q, GA n ad q → A q) (hS : va_S A H0 H locs)
    (kk : ∀ (v : Option Value) (M' : PM) (H1 : Heap) (locs1 : List Loc), post v M' → va_P D clsA (gw n ad cf M') H1 → H.size ≤ H1.size → (∀ q : Nat, q < H.size → ¬ GA n ad q → H1[q]? = H[q]?) → va_S A H0 H1 locs1 → W p l e R s m args below meth c H1 locs1 cells slots Q (F0 m (pc + 3) ls (v.toList ++ rest))) : W p l e R s m args below meth c H locs cells slots Q (F0 m pc ls st0) := by
  intro T hT X
  obtain ⟨v, st₀, t, T', L, h0, X', hL, e1, e2, ⟨⟨v', M', hv, hp, hb⟩, hz, hk⟩, st⟩ := hr T hT X
  cases hv
  rw [h0] at hz hk
  obtain ⟨t2, a1, b1⟩ := kk v M' T'.heap (locs ++ L) hp (by rw [e1]; exact hb) (by rw [e1]; exact hz) (fun q h1 h2 => by rw [e1]; exact hk q h1 h2)
    ⟨Nat.le_trans hS.1 (by rw [e1]; exact hz), fun q h1 h2 => by rw [e1, hk q (Nat.lt_of_lt_of_le h1 hS.1) (fun z => h2 (hA q z))]; exact hS.2.1 q h1 h2, fun q hq => by
      rcases List.mem_append.mp hq with h | h
      · exact hS.2.2 q h
      · exact hA _ (hL q h)⟩ T' rfl X'
  exact ⟨t2, st t2 a1, b1⟩
theorem c_blind {av : List Value} (hN : ∀ (U V : State), U.vm = V.vm → NX U → NX V) : FrameBlind (va_Pc av (fun U => va_P D clsA (gw n ad cf M) U.heap ∧ va_K D clsA tys U ∧ NX U)) := fun a U g mk q => by
  obtain ⟨q0, qP, qK, qN⟩ := q
  exact ⟨q0, qP, va_K.moved (u := U) (U := U.calling g mk a) (Vm.Alike.refl U.vm) qK, hN U (U.calling g mk a) rfl qN⟩
/-- a call of an instance method -/
theorem c_V (hx : p.tables.exec = Jvm.exec) (hb : c.code = cc) (hml : c.maxLocals = nL) (hown : s.vm.findClass own = some m.cls) (hg : ∀ w ∈ GW, w.before args s = true) (hK : va_K D clsA tys s) (hN : ∀ (U V : State), U.vm = V.vm → NX U → NX V) (hNs : ∀ U : State, s.WarmedH U.vm → NX U) (hA : ∀ q, GA n ad q → A q) (hP : va_P D clsA (gw n ad cf M) H) (hS : va_S A H0 H locs)
    (k0 : Nat) (hM : MC l D tys n ad cf y bc mL ret fr lo NX (.ref (ad k0) :: As) M post) (hk0 : k0 < n) {ci : Nat} {fs : List Value} {T : u_T} {N : Nat} (he : cf k0 (M k0) = .inr (ci, fs)) (hc : clsA[ci]? = some (y.cls, T, N))
    (w1 : Cond.methodLink own index y ∈ GW) (w2 : Cond.instanceMethod y ∈ GW) (w3 : Cond.selects y.cls y y ∈ GW) (w4 : Cond.initialized y.cls ∈ GW) (w5 : Cond.code y bc mL ret ∈ GW)
    (np : Nat) (hnp : As.length = np) (hd : y.cls ≠ "java/lang/invoke/MethodHandle" ∧ y.cls ≠ "java/lang/invoke/VarHandle" ∧ (parseMethodDescriptor y.desc).map (fun d => d.parameters.length) = some np) (hR : fr + 1 ≤ R.frames ∧ 8 + (mL + 11) + lo ≤ R.locals ∧ cells ≤ R.cells ∧ slots ≤ R.slots) {st0 : List Value} (hst : st0 = As.reverse ++ .ref (ad k0) :: rest) (hsz : ls.size = nL) (hW : (rest.map fun v => v.category).sum ≤ 8) (hdg : decode cc pc = .ok (.invokevirtual index, 3))
    (kk : ∀ (v : Option Value) (M' : PM) (H1 : Heap) (locs1 : List Loc), post v M' → va_P D clsA (gw n ad cf M') H1 → H.size ≤ H1.size → (∀ q : Nat, q < H.size → ¬ GA n ad q → H1[q]? = H[q]?) → va_S A H0 H1 locs1 → W p l e R s m args below meth c H1 locs1 cells slots Q (F0 m (pc + 3) ls (v.toList ++ rest))) : W p l e R s m args below meth c H locs cells slots Q (F0 m pc ls st0) := by
  subst hst
  subst hnp
  have hts : ∀ w ∈ (Cond.tt :: GW), w.before args s = true := fun w h => by
    rcases List.mem_cons.mp h with rfl | h
    · rfl
    · exact hg w h
  refine c_go (va_runV (As := As) (rest := rest) (Ts := Cond.tt :: GW) ⟨hx, hb, hml, hown, hts⟩ hM (cwV As.length hts (GW_V w1 w2 w3 w4 w5) rfl rfl rfl ⟨rfl, hd⟩ ⟨hR.1, hR.2.1⟩) ⟨c_blind hN, va_recv hK hP hc (gw_at hk0 he), fun U hU hW => ⟨rfl, by rw [hU]; exact hP, va_K.moved hW.alike hK, hNs U hW⟩⟩ rfl rfl hsz rfl (lv_room hW) hdg ⟨hR.2.2.1, hR.2.2.2⟩) hA hS kk
/-- the ends -/
theorem r_i (hx : p.tables.exec = Jvm.exec) (hb : c.code = cc) (hr : meth.sig.returnType = some .int) (hlocks : meth.locks = false) {v : Int32} (hP : va_P D clsA (gw n ad cf M) H) (hS : va_S (GA n ad) s.heap H locs) (hq : post (some (.int v)) M) (hdg : decode cc pc = .ok (.ireturn, 1)) : W p l e R s m args below meth c H locs cells slots (MQ below (GQ D n ad cf post) args s cells slots (GA n ad)) (F0 m pc ls [.int v]) :=
  W.iret (v := v) hx hb hr (fun t ht _ => ⟨⟨some (.int v), M, rfl, hq, by rw [ht]; exact hP⟩, hS.F ht⟩) hS.2.2 hdg hlocks
theorem r_z (hx : p.tables.exec = Jvm.exec) (hb : c.code = cc) {ty : FieldType} (hr : meth.sig.returnType = some ty) (hlocks : meth.locks = false) {v : Int32} (hn : narrow ty (.int v) = .int v) (hP : va_P D clsA (gw n ad cf M) H) (hS : va_S (GA n ad) s.heap H locs) (hq : post (some (.int v)) M) (hdg : decode cc pc = .ok (.ireturn, 1)) : W p l e R s m args below meth c H locs cells slots (MQ below (GQ D n ad cf post) args s cells slots (GA n ad)) (F0 m pc ls [.int v]) :=
  W.zret (v := v) hx hb hr hn (fun t ht _ => ⟨⟨some (.int v), M, rfl, hq, by rw [ht]; exact hP⟩, hS.F ht⟩) hS.2.2 hdg hlocks
theorem r_a (hx : p.tables.exec = Jvm.exec) (hb : c.code = cc) {C : String} (hr : meth.sig.returnType = some (.object C)) (hlocks : meth.locks = false) {v : Nat} (hP : va_P D clsA (gw n ad cf M) H) (hS : va_S (GA n ad) s.heap H locs) (hq : post (some (.ref v)) M) (hdg : decode cc pc = .ok (.areturn, 1)) : W p l e R s m args below meth c H locs cells slots (MQ below (GQ D n ad cf post) args s cells slots (GA n ad)) (F0 m pc ls [.ref v]) :=
  W.aret (v := .ref v) hx hb hr (Or.inl ⟨C, rfl⟩) (Or.inr ⟨v, rfl⟩) (fun t ht _ => ⟨⟨some (.ref v), M, rfl, hq, by rw [ht]; exact hP⟩, hS.F ht⟩) hS.2.2 hdg hlocks
theorem bI_n (t : Bool) : narrow .boolean (.int (bI t)) = .int (bI t) := by cases t <;> rfl
theorem r_v (hx : p.tables.exec = Jvm.exec) (hb : c.code = cc) (hr : meth.sig.returnType = none) (hlocks : meth.locks = false) (hP : va_P D clsA (gw n ad cf M) H) (hS : va_S (GA n ad) s.heap H locs) (hq : post none M) (hdg : decode cc pc = .ok (.return_, 1)) : W p l e R s m args below meth c H locs cells slots (MQ below (GQ D n ad cf post) args s cells slots (GA n ad)) (F0 m pc ls []) :=
  W.vret hx hb hr (fun t ht _ => ⟨⟨none, M, rfl, hq, by rw [ht]; exact hP⟩, hS.F ht⟩) hS.2.2 hdg hlocks
end GC
section GN
variable {p : Program} {l : Launch} {e : Env} {R : Room} {s : State} {m : MethodId} {args : Array Value} {below : List Frame} {meth : Method} {c : Code} {H : Heap} {locs : List Loc} {cells slots : Nat} {Q : State → Prop}
variable {cc : ByteArray} {pc : Nat} {ls : Array Slot} {rest : List Value}
theorem n_top {x y : Int32} (h : x = y) (kk : W p l e R s m args below meth c H locs cells slots Q (F0 m pc ls (.int y :: rest))) : W p l e R s m args below meth c H locs cells slots Q (F0 m pc ls (.int x :: rest)) := by rw [h]; exact kk
theorem n_if0 (hx : p.tables.exec = Jvm.exec) (hb : c.code = cc) {a : Nat} {off : Int} {tgt : Nat} (hdg : decode cc pc = .ok (.ifCond .eq off, 3)) (ht : (pc : Int) + off = (tgt : Int)) (ha : a < 2 ^ 31)
    (kt : a = 0 → W p l e R s m args below meth c H locs cells slots Q (F0 m tgt ls rest)) (kf : a ≠ 0 → W p l e R s m args below meth c H locs cells slots Q (F0 m (pc + 3) ls rest)) : W p l e R s m args below meth c H locs cells slots Q (F0 m pc ls (.int (nI a) :: rest)) :=
  lv_if_eq hx hb hdg ht (fun h => kt (nI_inj ha (by decide) h)) (fun h => kf (fun q => h (by rw [q]; rfl)))
theorem n_ifn0 (hx : p.tables.exec = Jvm.exec) (hb : c.code = cc) {a : Nat} {off : Int} {tgt : Nat} (hdg : decode cc pc = .ok (.ifCond .ne off, 3)) (ht : (pc : Int) + off = (tgt : Int)) (ha : a < 2 ^ 31)
    (kt : a ≠ 0 → W p l e R s m args below meth c H locs cells slots Q (F0 m tgt ls rest)) (kf : a = 0 → W p l e R s m args below meth c H locs cells slots Q (F0 m (pc + 3) ls rest)) : W p l e R s m args below meth c H locs cells slots Q (F0 m pc ls (.int (nI a) :: rest)) :=
  lv_if_ne hx hb hdg ht (fun h => kt (fun q => h (by rw [q]; rfl))) (fun h => kf (nI_inj ha (by decide) h))
theorem n_dec (hx : p.tables.exec = Jvm.exec) (hb : c.code = cc) {i nL k a : Nat} {lv lv' : List (Nat × Value)} (hdg : decode cc pc = .ok (.iinc i (-1), 3)) (h : lv_has ls nL lv) (hk : lv[k]? = some (i, .int (nI a))) (ha : 0 < a) (hn : i < nL) (hl : (i, Value.int (nI (a - 1))) :: lv.filter (fun q => !(q.1 == i) && !(q.1 + 1 == i && q.2.category == 2)) = lv')
    (kk : ∀ ls' : Array Slot, lv_has ls' nL lv' → W p l e R s m args below meth c H locs cells slots Q (F0 m (pc + 3) ls' rest)) : W p l e R s m args below meth c H locs cells slots Q (F0 m pc ls rest) :=
  lv_iinc hx hb hdg h hk (sb_m1 ha) hn hl kk
theorem o_lt (hx : p.tables.exec = Jvm.exec) (hb : c.code = cc) {o : Option Nat} {off : Int} {tgt : Nat} (hdg : decode cc pc = .ok (.ifCond .lt off, 3)) (ht : (pc : Int) + off = (tgt : Int)) (ho : ∀ k, o = some k → k < 2 ^ 31)
    (kt : o = none → W p l e R s m args below meth c H locs cells slots Q (F0 m tgt ls rest)) (kf : ∀ k, o = some k → W p l e R s m args below meth c H locs cells slots Q (F0 m (pc + 3) ls rest)) : W p l e R s m args below meth c H locs cells slots Q (F0 m pc ls (.int (oI o) :: rest)) :=
  lv_if_lt hx hb hdg ht (fun h => kt ((oI_neg ho).mp h)) (fun h => by
    cases o with
    | none => exact absurd ((oI_neg ho).mpr rfl) h
    | some k => exact kf k rfl)
theorem o_ge (hx : p.tables.exec = Jvm.exec) (hb : c.code = cc) {o : Option Nat} {off : Int} {tgt : Nat} (hdg : decode cc pc = .ok (.ifCond .ge off, 3)) (ht : (pc : Int) + off = (tgt : Int)) (ho : ∀ k, o = some k → k < 2 ^ 31)
    (kt : ∀ k, o = some k → W p l e R s m args below meth c H locs cells slots Q (F0 m tgt ls rest)) (kf : o = none → W p l e R s m args below meth c H locs cells slots Q (F0 m (pc + 3) ls rest)) : W p l e R s m args below meth c H locs cells slots Q (F0 m pc ls (.int (oI o) :: rest)) :=
  lv_if_ge hx hb hdg ht (fun h => by
    cases o with
    | none => exact absurd h (by decide)
    | some k => exact kt k rfl) (fun h => kf (by
    cases o with
    | none => rfl
    | some k => exact absurd (nI_pos' (ho k rfl)) h))
end GN
/-! ===== the reference's picture: 13 cells ===== -/
def cfM (cI cB : ClassId) (ad : Nat → Nat) (k : Nat) (r : Nat → Int32) : va_E := match k with
  | 0 => .inr (8, [.int (r 0), .ref (ad 1), .int (r 2), .ref (ad 2), .ref (ad 3), .int (r 5), .ref (ad 4), .ref (ad 5), .ref (ad 6), .ref (ad 7), .int (r 10), .ref (ad 8), .int (r 12), .ref (ad 9), .int (r 14), .ref (ad 10), .ref (ad 11), .int (r 17), .ref (ad 12)])
  | 1 => .inl (cB, 24, .inl r)
  | 2 => .inl (cB, 1440, .inl r)
  | 3 => .inl (cI, 60, .inl r)
  | 4 => .inl (cI, 60, .inl r)
  | 5 => .inl (cI, 60, .inl r)
  | 6 => .inl (cI, 60, .inl r)
  | 7 => .inl (cI, 120, .inl r)
  | 8 => .inl (cI, 40, .inl r)
  | 9 => .inl (cB, 80, .inl r)
  | 10 => .inl (cI, 3, .inl r)
  | 11 => .inl (cB, 64, .inl r)
  | _ => .inl (cI, 25, .inl r)
abbrev tysM (cI cB : ClassId) : List (ClassId × FieldType) := [(cI, .int), (cB, .byte)]
def MM (l : Launch) (D : va_G) (cI cB : ClassId) (ad : Nat → Nat) (y : MethodName) (b : ByteArray) (mL : Nat) (ret : Option FieldType) (fr lo : Nat) (av : List Value) (M : PM) (post : Option Value → PM → Prop) : Prop :=
  MC l D (tysM cI cB) 13 ad (cfM cI cB ad) y b mL ret fr lo (fun _ => True) av M post
/-- the names in the reference's picture: n of them, their sizes, characters, and the spaces of which they are shorts -/
def RN (M : PM) (n : Nat) (len : Nat → Nat) (ch : Nat → Nat → Nat) (sp : Nat → Option Nat) : Prop :=
  n ≤ 60 ∧ M 0 5 = nI n ∧ (∀ k, k < n → 1 ≤ len k ∧ len k ≤ 24 ∧ M 3 k = nI (len k)) ∧ (∀ k, k < n → M 4 k = oI (sp k)) ∧ (∀ k j, k < n → sp k = some j → j < n) ∧ ∀ k i, k < n → i < len k → 33 ≤ ch k i ∧ ch k i ≤ 126 ∧ M 2 (24 * k + i) = nI (ch k i)
/-- the first place below n where P holds -/
def Fst (P : Nat → Prop) (n : Nat) (o : Option Nat) : Prop := match o with
  | none => ∀ k, k < n → ¬ P k
  | some k => k < n ∧ P k ∧ ∀ j, j < k → ¬ P j
theorem Fst.uniq {P : Nat → Prop} {n : Nat} {o o' : Option Nat} (h : Fst P n o) (h' : Fst P n o') : o = o' := by
  cases o with
  | none => cases o' with
    | none => rfl
    | some k => exact absurd h'.2.1 (h k h'.1)
  | some k => cases o' with
    | none => exact absurd h.2.1 (h' k h.1)
    | some k' =>
      rcases Nat.lt_trichotomy k k' with q | q | q
      · exact absurd h.2.1 (h'.2.2 k q)
      · rw [q]
      · exact absurd h'.2.1 (h.2.2 k' q)
theorem Fst.ex (P : Nat → Prop) (n : Nat) : ∃ o, Fst P n o := by
  induction n with
  | zero => exact ⟨none, fun k h => absurd h (Nat.not_lt_zero k)⟩
  | succ n ih =>
    obtain ⟨o, ho⟩ := ih
    cases o with
    | some k => exact ⟨some k, Nat.lt_succ_of_lt ho.1, ho.2⟩
    | none =>
      by_cases h : P n
      · exact ⟨some n, Nat.lt_succ_self n, h, ho⟩
      · refine ⟨none, fun k hk => ?_⟩
        rcases Nat.lt_succ_iff_lt_or_eq.mp hk with q | q
        · exact ho k q
        · rw [q]; exact h
theorem Fst.is {P : Nat → Prop} {n : Nat} {o : Option Nat} (h : Fst P n o) {k : Nat} (hk : k < n) (hp : P k) (hb : ∀ j, j < k → ¬ P j) : o = some k := h.uniq (o' := some k) ⟨hk, hp, hb⟩
theorem Fst.no {P : Nat → Prop} {n : Nat} {o : Option Nat} (h : Fst P n o) (hb : ∀ j, j < n → ¬ P j) : o = none := h.uniq (o' := none) hb
theorem nb8 : ∀ c, c < 128 → (nI c).toInt8.toInt32 = nI c := by decide +kernel
theorem nbb : ∀ c, c < 128 → vp_nar .byte (nI c) = nI c := by decide +kernel
theorem nbc : ∀ c, c < 128 → vp_nar .char (nI c) = nI c := by decide +kernel
theorem nb16 : ∀ c, c < 128 → ((nI c).toUInt32 % 65536).toInt32 = nI c := by decide +kernel
/-- the reference's scratch may differ -/
def SX (M M' : PM) : Prop := ∀ a b, a ≠ 11 → a ≠ 12 → ¬ (a = 0 ∧ (b = 17 ∨ b = 0)) → M' a b = M a b
theorem SX.rf (M : PM) : SX M M := fun _ _ _ _ _ => rfl
theorem SX.tr {M M' M'' : PM} (h : SX M M') (h' : SX M' M'') : SX M M'' := fun a b h1 h2 h3 => (h' a b h1 h2 h3).trans (h a b h1 h2 h3)
theorem RN.sx {M M' : PM} {n : Nat} {len : Nat → Nat} {ch : Nat → Nat → Nat} {sp : Nat → Option Nat} (h : RN M n len ch sp) (hs : SX M M') : RN M' n len ch sp := by
  obtain ⟨h1, h2, h3, h4, h5, h6⟩ := h
  refine ⟨h1, ?_, fun k hk => ?_, fun k hk => ?_, h5, fun k i hk hi => ?_⟩
  · rw [hs 0 5 (by decide) (by decide) (by decide)]; exact h2
  · rw [hs 3 k (by decide) (by decide) (by omega)]; exact h3 k hk
  · rw [hs 4 k (by decide) (by decide) (by omega)]; exact h4 k hk
  · rw [hs 2 _ (by decide) (by decide) (by omega)]; exact h6 k i hk hi
/-- what the reference has made: sl characters sc -/
def MK (M : PM) (sl : Nat) (sc : Nat → Nat) : Prop := sl ≤ 64 ∧ M 0 17 = nI sl ∧ ∀ i, i < sl → sc i < 128 ∧ M 11 i = nI (sc i)
def sameT (len : Nat → Nat) (ch : Nat → Nat → Nat) (sl : Nat) (sc : Nat → Nat) (k : Nat) : Prop := len k = sl ∧ ∀ i, i < sl → ch k i = sc i
