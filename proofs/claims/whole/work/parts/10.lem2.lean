/-! ===== more relations of the reference's picture ===== -/
theorem RU.sx {M M' : PM} {n : Nat} {us : Nat → Nat} (h : RU M n us) (hs : SX M M') : RU M' n us := fun k hk => by rw [hs 5 k (by decide) (by decide) (by omega)]; exact h k hk
theorem RS.sx {M M' : PM} {n : Nat} {st : Nat → Option Nat} (h : RS M n st) (hs : SX M M') : RS M' n st := ⟨fun k hk => by rw [hs 6 k (by decide) (by decide) (by omega)]; exact h.1 k hk, h.2⟩
theorem RW.sx {M M' : PM} {n rc : Nat} {rw_ : Nat → Nat} (h : RW M n rc rw_) (hs : SX M M') : RW M' n rc rw_ := ⟨h.1, by rw [hs 0 10 (by decide) (by decide) (by decide)]; exact h.2.1, fun j hj => by rw [hs 7 j (by decide) (by decide) (by omega)]; exact h.2.2 j hj⟩
theorem RR.sx {M M' : PM} {n nc : Nat} {rf rt : Nat → Nat} (h : RR M n nc rf rt) (hs : SX M M') : RR M' n nc rf rt := ⟨h.1, by rw [hs 0 12 (by decide) (by decide) (by decide)]; exact h.2.1, fun i hi => by rw [hs 8 (2 * i) (by decide) (by decide) (by omega), hs 8 (2 * i + 1) (by decide) (by decide) (by omega)]; exact h.2.2 i hi⟩
theorem RP.sx {M M' : PM} {pl : Nat} {pc9 : Nat → Nat} (h : RP M pl pc9) (hs : SX M M') : RP M' pl pc9 := ⟨h.1, by rw [hs 0 14 (by decide) (by decide) (by decide)]; exact h.2.1, fun i hi => by rw [hs 9 i (by decide) (by decide) (by omega)]; exact h.2.2 i hi⟩
/-- d steps of standing for -/
def itS (st : Nat → Option Nat) : Nat → Option Nat → Option Nat
  | 0, o => o
  | d + 1, o => itS st d (o.bind st)
/-- o comes to b -/
def Lds (st : Nat → Option Nat) (o : Option Nat) (b : Nat) : Prop := ∃ d, itS st d o = some b
theorem itS_none (st : Nat → Option Nat) (d : Nat) : itS st d none = none := by
  induction d with
  | zero => rfl
  | succ d ih => exact ih
theorem Lds_none {st : Nat → Option Nat} {b : Nat} : ¬ Lds st none b := fun ⟨d, h⟩ => by rw [itS_none] at h; cases h
theorem Lds_self (st : Nat → Option Nat) (b : Nat) : Lds st (some b) b := ⟨0, rfl⟩
theorem Lds_step {st : Nat → Option Nat} {k b : Nat} (h : k ≠ b) : Lds st (some k) b ↔ Lds st (st k) b := by
  refine ⟨fun ⟨d, e⟩ => ?_, fun ⟨d, e⟩ => ⟨d + 1, e⟩⟩
  cases d with
  | zero => exact absurd (Option.some.inj e) h
  | succ d => exact ⟨d, e⟩
/-- ranks: no ring -/
def Rk (n : Nat) (st : Nat → Option Nat) (rk : Nat → Nat) : Prop := ∀ k j, k < n → st k = some j → rk j < rk k
def mR (rk : Nat → Nat) : Option Nat → Nat
  | none => 0
  | some k => rk k + 1
theorem mR_lt {n : Nat} {st : Nat → Option Nat} {rk : Nat → Nat} (h : Rk n st rk) {k : Nat} (hk : k < n) : mR rk (st k) < mR rk (some k) := by
  cases e : st k with
  | none => exact Nat.succ_pos _
  | some j => exact Nat.succ_lt_succ (h k j hk e)
/-- the end of what k stands for -/
def EndS (st : Nat → Option Nat) (k e : Nat) : Prop := Lds st (some k) e ∧ st e = none
theorem EndS_step {st : Nat → Option Nat} {k j e : Nat} (hj : st k = some j) (h : EndS st k e) : EndS st j e := by
  refine ⟨?_, h.2⟩
  have hne : k ≠ e := fun q => by rw [q] at hj; rw [h.2] at hj; cases hj
  have := (Lds_step hne).mp h.1
  rw [hj] at this
  exact this
theorem EndS_end {st : Nat → Option Nat} {k e : Nat} (hk : st k = none) (h : EndS st k e) : k = e := by
  refine Decidable.of_not_not fun q => ?_
  have := (Lds_step q).mp h.1
  rw [hk] at this
  exact Lds_none this
/-- the distance of two names, by the table of their beginnings -/
def Ed (f : Nat → Nat → Bool) : Nat → Nat → Nat
  | 0, j => j
  | i + 1, 0 => i + 1
  | i + 1, j + 1 => min (min (Ed f i (j + 1)) (Ed f (i + 1) j) + 1) (Ed f i j + if f i j then 0 else 1)
def eqC (ch : Nat → Nat → Nat) (a b : Nat) : Nat → Nat → Bool := fun i j => decide (ch a i = ch b j)
theorem Ed_le (f : Nat → Nat → Bool) (i j : Nat) : Ed f i j ≤ i + j := by
  induction i generalizing j with
  | zero => simp [Ed]
  | succ i ih =>
    induction j with
    | zero => simp [Ed]
    | succ j ihj =>
      simp only [Ed]
      have := ih (j + 1)
      omega
theorem Ed_max (f : Nat → Nat → Bool) (i j m : Nat) (hi : i ≤ m) (hj : j ≤ m) : Ed f i j ≤ m := by
  induction i generalizing j m with
  | zero => simpa [Ed] using hj
  | succ i ih =>
    cases j with
    | zero => simpa [Ed] using hi
    | succ j =>
      simp only [Ed]
      have h := ih j (m - 1) (by omega) (by omega)
      have h2 : (Ed f i j + if f i j then 0 else 1) ≤ m := by split <;> omega
      omega
/-- how many j below n have P -/
def Cnt (P : Nat → Bool) : Nat → Nat
  | 0 => 0
  | n + 1 => Cnt P n + if P n then 1 else 0
theorem Cnt_le (P : Nat → Bool) (n : Nat) : Cnt P n ≤ n := by
  induction n with
  | zero => exact Nat.le_refl 0
  | succ n ih => simp only [Cnt]; split <;> omega
theorem Cnt_t {P : Nat → Bool} {n : Nat} (h : P n = true) : Cnt P (n + 1) = Cnt P n + 1 := by simp [Cnt, h]
theorem Cnt_f {P : Nat → Bool} {n : Nat} (h : P n = false) : Cnt P (n + 1) = Cnt P n := by simp [Cnt, h]
def F12 (M M' : PM) : Prop := ∀ a b, a ≠ 12 → M' a b = M a b
theorem F12.sx {M M' : PM} (h : F12 M M') : SX M M' := fun a b _ h2 _ => h a b h2
theorem F12.st {M M' : PM} (h : F12 M M') (j : Nat) (v : Int32) : F12 M (pu M' 12 j v) := fun a b h2 => by rw [pu_k _ _ _ _ _ h2]; exact h a b h2
