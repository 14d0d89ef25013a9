/-! ===== the class's picture: 144 cells ===== -/
def capT (t : Nat) : Nat := if t = 3 then 28 else if t = 5 then 49 else 24
/-- the cells that are texts: the tape, what is printed, what is built, the names -/
def tx (k : Nat) : Prop := k = 1 ∨ k = 3 ∨ k = 5 ∨ (9 ≤ k ∧ k < 129 ∧ k % 2 = 1)
def cfC (cI cC cZ cT : ClassId) (ad : Nat → Nat) (k : Nat) (r : Nat → Int32) : va_E :=
  if k = 0 then .inr (7, [.ref (ad 1), .ref (ad 3), .ref (ad 5), .ref (ad 7), .ref (ad 129), .ref (ad 132), .ref (ad 134), .ref (ad 136), .ref (ad 139), .ref (ad 141), .ref (ad 142), .ref (ad 143), .int (r 12), .int (r 13), .int (r 14)])
  else if k = 7 then .inr (0, [.ref (ad 8), .int (r 1)])
  else if k = 8 then .inl (cT, 60, .inr (.inr (.inr (.inr (fun j => some (ad (9 + 2 * j)))))))
  else if k < 129 then (if k % 2 = 1 then .inr (6, [.ref (ad (k + 1)), .int (r 1)]) else .inl (cC, capT (k - 1), .inl r))
  else if k = 129 then .inr (3, [.ref (ad 7), .ref (ad 130), .ref (ad 131), .int (r 3), .int (r 4)])
  else if k = 130 then .inl (cI, 60, .inl r)
  else if k = 131 then .inl (cI, 60, .inl r)
  else if k = 132 then .inr (2, [.ref (ad 133), .int (r 1)])
  else if k = 133 then .inl (cI, 120, .inl r)
  else if k = 134 then .inr (4, [.ref (ad 135)])
  else if k = 135 then .inl (cI, 60, .inl r)
  else if k = 136 then .inr (1, [.ref (ad 137), .ref (ad 138), .int (r 2)])
  else if k = 137 then .inl (cI, 20, .inl r)
  else if k = 138 then .inl (cI, 20, .inl r)
  else if k = 139 then .inr (5, [.ref (ad 140)])
  else if k = 140 then .inl (cI, 25, .inl r)
  else if k = 141 then .inl (cI, 60, .inl r)
  else if k = 142 then .inl (cZ, 60, .inl r)
  else .inl (cI, 40, .inl r)
abbrev tysC (cI cC cZ cT : ClassId) : List (ClassId × FieldType) := [(cI, .int), (cC, .char), (cZ, .boolean), (cT, .object "NameRules$Text")]
theorem tx_lt {k : Nat} (h : tx k) : k < 144 := by unfold tx at h; omega
theorem tx_lt1 {k : Nat} (h : tx k) : k + 1 < 144 := by unfold tx at h; omega
theorem cfC_T {cI cC cZ cT : ClassId} {ad : Nat → Nat} {k : Nat} (h : tx k) (r : Nat → Int32) : cfC cI cC cZ cT ad k r = .inr (6, [.ref (ad (k + 1)), .int (r 1)]) := by
  unfold tx at h
  unfold cfC
  rw [if_neg (by omega), if_neg (by omega), if_neg (by omega), if_pos (by omega), if_pos (by omega)]
theorem cfC_A {cI cC cZ cT : ClassId} {ad : Nat → Nat} {k : Nat} (h : tx k) (r : Nat → Int32) : cfC cI cC cZ cT ad (k + 1) r = .inl (cC, capT k, .inl r) := by
  unfold tx at h
  unfold cfC
  rw [if_neg (by omega), if_neg (by omega), if_neg (by omega), if_pos (by omega), if_neg (by omega)]
  rfl
theorem capT_lt (t : Nat) : capT t < 2 ^ 31 := by unfold capT; split <;> (try split) <;> decide
theorem capT_24 (t : Nat) : 24 ≤ capT t ∧ capT t ≤ 49 := by unfold capT; split <;> (try split) <;> decide
theorem tx_ne {t u : Nat} (ht : tx t) (hu : tx u) : t ≠ u + 1 := by unfold tx at ht hu; omega
/-- the text t has sl characters sc -/
def TT (M : PM) (t sl : Nat) (sc : Nat → Nat) : Prop := sl ≤ capT t ∧ M t 1 = nI sl ∧ ∀ i, i < sl → sc i < 128 ∧ M (t + 1) i = nI (sc i)
/-- only the text t has changed -/
def FT (t : Nat) (M M' : PM) : Prop := ∀ p q, ¬ (p = t ∧ q = 1) → p ≠ t + 1 → M' p q = M p q
theorem FT.rf (t : Nat) (M : PM) : FT t M M := fun _ _ _ _ => rfl
theorem FT.tr {t : Nat} {M M' M'' : PM} (h : FT t M M') (h' : FT t M' M'') : FT t M M'' := fun p q h1 h2 => (h' p q h1 h2).trans (h p q h1 h2)
theorem TT.ft {M M' : PM} {t u sl : Nat} {sc : Nat → Nat} (h : TT M u sl sc) (hf : FT t M M') (ht : tx t) (hu : tx u) (hne : u ≠ t) : TT M' u sl sc := by
  refine ⟨h.1, ?_, fun i hi => ?_⟩
  · rw [hf u 1 (by omega) (tx_ne hu ht)]; exact h.2.1
  · rw [hf (u + 1) i (fun z => tx_ne ht hu z.1.symm) (by omega)]; exact h.2.2 i hi
def NXc (U : State) : Prop := va_Nw (.methodLinkNest "NameRules$Text" 37 y_C_isSmallLetter "NameRules") U ∧ va_Nw (.methodLinkNest "NameRules$Text" 41 y_C_isDigit "NameRules") U
theorem NXc.same : ∀ (U V : State), U.vm = V.vm → NXc U → NXc V := fun U V h hz => ⟨va_Nw.same rfl h hz.1, va_Nw.same rfl h hz.2⟩
theorem NXc.warm {s : State} (h : NXc s) : ∀ U : State, s.WarmedH U.vm → NXc U := fun U hW => ⟨va_Nw.warmM hW h.1, va_Nw.warmM hW h.2⟩
def MD (l : Launch) (D : va_G) (cI cC cZ cT : ClassId) (ad : Nat → Nat) (y : MethodName) (b : ByteArray) (mL : Nat) (ret : Option FieldType) (fr lo : Nat) (av : List Value) (M : PM) (post : Option Value → PM → Prop) : Prop :=
  MC l D (tysC cI cC cZ cT) 144 ad (cfC cI cC cZ cT ad) y b mL ret fr lo NXc av M post
section GL
variable {p : Program} {l : Launch} {e : Env} {R : Room} {s : State} {m : MethodId} {args : Array Value} {below : List Frame} {meth : Method} {c : Code} {H : Heap} {locs : List Loc} {cells slots : Nat} {Q : State → Prop}
variable {cc : ByteArray} {pc : Nat} {ls : Array Slot} {rest : List Value} {D : va_G} {cl : List vw_C} {tys : List (ClassId × FieldType)} {n : Nat} {ad : Nat → Nat} {cf : Nat → (Nat → Int32) → va_E} {M : PM}
theorem g_alen (hx : p.tables.exec = Jvm.exec) (hb : c.code = cc) (hK : va_K D cl tys s) (hP : va_P D cl (gw n ad cf M) H) (k0 t0 : Nat) (hk0 : k0 < n) {cA : ClassId} {x : vp_A} (hc : cf k0 (M k0) = .inl (cA, x)) {ty : FieldType} (ht : tys[t0]? = some (cA, ty)) (hdg : decode cc pc = .ok (.arraylength, 1))
    (kk : W p l e R s m args below meth c H locs cells slots Q (F0 m (pc + 1) ls (.int (nI x.1) :: rest))) : W p l e R s m args below meth c H locs cells slots Q (F0 m pc ls (.ref (ad k0) :: rest)) :=
  va_alen hx hb hK hP k0 t0 (gw_at hk0 hc) ht rfl hdg kk
end GL
