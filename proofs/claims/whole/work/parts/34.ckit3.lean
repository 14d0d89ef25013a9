theorem tx1 : tx 1 := Or.inl rfl
theorem tx3 : tx 3 := Or.inr (Or.inl rfl)
theorem tx5 : tx 5 := Or.inr (Or.inr (Or.inl rfl))
theorem txn {j : Nat} (h : j < 60) : tx (9 + 2 * j) := Or.inr (Or.inr (Or.inr ⟨by omega, by omega, by omega⟩))
theorem capN (j : Nat) : capT (9 + 2 * j) = 24 := by unfold capT; rw [if_neg (by omega), if_neg (by omega)]
/-- the names in the class's picture -/
def CN (M : PM) (n : Nat) (len : Nat → Nat) (ch : Nat → Nat → Nat) : Prop :=
  n ≤ 60 ∧ M 7 1 = nI n ∧ (∀ k, k < n → 1 ≤ len k ∧ len k ≤ 24 ∧ (∀ i, i < len k → 33 ≤ ch k i ∧ ch k i ≤ 126) ∧ TT M (9 + 2 * k) (len k) (ch k)) ∧ ∀ k, n ≤ k → k < 60 → M (9 + 2 * k) 1 = nI 0
/-- shorts, spaces, the best of each -/
def CSp (M : PM) (n : Nat) (sp bs : Nat → Option Nat) : Prop := (∀ k, k < 60 → M 130 k = oI (sp k)) ∧ (∀ k, k < 60 → M 131 k = oI (bs k)) ∧ (∀ k j, sp k = some j → k < n ∧ j < n) ∧ ∀ k j, bs k = some j → k < n ∧ j < n
def CU (M : PM) (us : Nat → Nat) : Prop := ∀ k, k < 60 → us k < 2 ^ 30 ∧ M 141 k = nI (us k)
def CSt (M : PM) (n : Nat) (st : Nat → Option Nat) : Prop := (∀ k, k < 60 → M 135 k = oI (st k)) ∧ ∀ k j, st k = some j → k < n ∧ j < n
def CW (M : PM) (n rc : Nat) (rw_ : Nat → Nat) : Prop := rc ≤ 40 ∧ M 132 1 = nI rc ∧ ∀ j, j < 3 * rc → rw_ j < n ∧ M 133 j = nI (rw_ j)
def CR (M : PM) (n nc : Nat) (rf rt : Nat → Nat) : Prop := nc ≤ 20 ∧ M 136 2 = nI nc ∧ ∀ i, i < nc → rf i < n ∧ rt i < n ∧ M 137 i = nI (rf i) ∧ M 138 i = nI (rt i)
section GA2
variable {p : Program} {l : Launch} {e : Env} {R : Room} {s : State} {m : MethodId} {args : Array Value} {below : List Frame} {meth : Method} {c : Code} {H : Heap} {locs : List Loc} {cells slots : Nat} {Q : State → Prop}
variable {cc : ByteArray} {pc : Nat} {ls : Array Slot} {rest : List Value} {D : va_G} {cI cC cZ cT : ClassId} {ad : Nat → Nat} {M : PM}
theorem g_text (hx : p.tables.exec = Jvm.exec) (hb : c.code = cc) (hK : va_K D clsA (tysC cI cC cZ cT) s) (hP : va_P D clsA (gw 144 ad (cfC cI cC cZ cT ad) M) H) {j : Nat} (hj : j < 60) (hdg : decode cc pc = .ok (.aaload, 1))
    (kk : W p l e R s m args below meth c H locs cells slots Q (F0 m (pc + 1) ls (.ref (ad (9 + 2 * j)) :: rest))) : W p l e R s m args below meth c H locs cells slots Q (F0 m pc ls (.int (nI j) :: .ref (ad 8) :: rest)) := by
  refine va_aldq (C := "NameRules$Text") (n := 60) (f := fun j => some (ad (9 + 2 * j))) hx hb hK hP 8 3 (gw_at (by decide) rfl) rfl (g_in hj (by decide)).1 hdg ?_
  rw [(g_in hj (by decide)).2]
  exact kk
end GA2
theorem rkE {n : Nat} {st : Nat → Option Nat} {rk : Nat → Nat} (h : Rk n st rk) {k j : Nat} (hk : k < n) (e : st k = some j) : rk j < rk k := h k j hk e
theorem eqG_same {len : Nat → Nat} {ch : Nat → Nat → Nat} {ul k : Nat} {uc : Nat → Nat} : eqG (len k) (ch k) ul uc ↔ sameT len ch ul uc k := ⟨fun h => ⟨h.1, fun i hi => h.2 i (by have := h.1; omega)⟩, fun h => ⟨h.1, fun i hi => h.2 i (by have := h.1; omega)⟩⟩
