theorem bor0 (b : Bool) : bI b ||| nI 0 = bI b := by cases b <;> rfl
theorem bor1 (b : Bool) : bI b ||| nI 1 = bI true := by cases b <;> rfl
theorem nI_prd {v : Nat} (h : 0 < v) : nI v - 1 = nI (v - 1) := by
  obtain ⟨j, rfl⟩ : ∃ j, v = j + 1 := ⟨v - 1, by omega⟩
  rw [nI_pred]; rfl
/-- an unknown name -/
def unkP (us : Nat → Nat) (spo : Nat → Option Nat) (rc : Nat) (rw_ : Nat → Nat) (a : Nat) : Prop := us a ≠ 0 ∧ spo a ≠ none ∧ (∀ k, k < rc → ¬ rw_ (3 * k) = a) ∧ ∃ k, k < rc ∧ spo (rw_ (3 * k)) = spo a
theorem Cnt_congr {P Q : Nat → Bool} {n : Nat} (h : ∀ k, k < n → P k = Q k) : Cnt P n = Cnt Q n := by
  induction n with
  | zero => rfl
  | succ n ih => simp only [Cnt]; rw [ih (fun k hk => h k (by omega)), h n (Nat.lt_succ_self n)]
theorem Cnt_upd {P Q : Nat → Bool} {n k : Nat} (hk : k < n) (hp : P k = false) (hq : Q k = true) (h : ∀ j, j < n → j ≠ k → P j = Q j) : Cnt Q n = Cnt P n + 1 := by
  induction n with
  | zero => omega
  | succ n ih =>
    simp only [Cnt]
    by_cases e : k = n
    · subst e
      rw [Cnt_congr (P := P) (Q := Q) (fun j hj => h j (by omega) (by omega)), hp, hq]; rfl
    · rw [ih (by omega) (fun j hj hne => h j (by omega) hne), h n (Nat.lt_succ_self n) (fun q => e q.symm)]; omega
theorem Cnt_mono {P Q : Nat → Bool} {n : Nat} (h : ∀ j, j < n → P j = true → Q j = true) : Cnt P n ≤ Cnt Q n := by
  induction n with
  | zero => exact Nat.le_refl _
  | succ n ih =>
    simp only [Cnt]
    have := ih (fun j hj => h j (by omega))
    have := h n (Nat.lt_succ_self n)
    cases hp : P n <;> cases hq : Q n <;> simp_all <;> omega
theorem Cnt_lt {P Q : Nat → Bool} {n k : Nat} (hk : k < n) (hp : P k = false) (hq : Q k = true) (h : ∀ j, j < n → P j = true → Q j = true) : Cnt P n < Cnt Q n := by
  have h1 : Cnt P n ≤ Cnt (fun j => Q j && decide (j ≠ k)) n := Cnt_mono (fun j hj hpj => by
    have : j ≠ k := fun q => by rw [q, hp] at hpj; cases hpj
    simp [h j hj hpj, this])
  have h2 : Cnt Q n = Cnt (fun j => Q j && decide (j ≠ k)) n + 1 := Cnt_upd hk (by simp) hq (fun j hj hne => by simp [hne])
  omega
/-- rows by distance: which come before (far, k) -/
def bfN (d : Nat → Nat) (far k : Nat) : Nat → Bool := fun q => decide (d q < far ∨ (d q = far ∧ q < k))
def NB (d : Nat → Nat) (rc k : Nat) : Nat := Cnt (bfN d (d k) k) rc
theorem NB_lt {d : Nat → Nat} {rc k k' : Nat} (hk : k < rc) (h : d k < d k' ∨ (d k = d k' ∧ k < k')) : NB d rc k < NB d rc k' := by
  refine Cnt_lt hk (by simp [bfN]) (by simp only [bfN]; exact decide_eq_true h) (fun j hj hp => ?_)
  simp only [bfN, decide_eq_true_eq] at hp ⊢
  omega
theorem NB_inj {d : Nat → Nat} {rc k k' : Nat} (hk : k < rc) (hk' : k' < rc) (h : NB d rc k = NB d rc k') : k = k' := by
  rcases Nat.lt_trichotomy (d k) (d k') with q | q | q
  · have := NB_lt (d := d) hk (Or.inl q); omega
  · rcases Nat.lt_trichotomy k k' with r | r | r
    · have := NB_lt (d := d) hk (Or.inr ⟨q, r⟩); omega
    · exact r
    · have := NB_lt (d := d) hk' (Or.inr ⟨q.symm, r⟩); omega
  · have := NB_lt (d := d) hk' (Or.inl q); omega
theorem bf_s {d : Nat → Nat} {rc far k : Nat} (hk : k < rc) (h : d k = far) : Cnt (bfN d far (k + 1)) rc = Cnt (bfN d far k) rc + 1 :=
  Cnt_upd hk (by simp [bfN, h]) (by simp [bfN, h]) (fun j hj hne => by simp only [bfN]; congr 1; apply propext; omega)
theorem bf_n {d : Nat → Nat} {rc far k : Nat} (h : d k ≠ far) : Cnt (bfN d far (k + 1)) rc = Cnt (bfN d far k) rc :=
  Cnt_congr (fun j hj => by
    simp only [bfN]; congr 1; apply propext
    by_cases e : j = k
    · subst e; omega
    · omega)
theorem bf_f {d : Nat → Nat} {rc far : Nat} : Cnt (bfN d (far + 1) 0) rc = Cnt (bfN d far rc) rc := Cnt_congr (fun j hj => by simp only [bfN]; congr 1; apply propext; omega)
theorem bf_0 {d : Nat → Nat} {rc : Nat} : Cnt (bfN d 0 0) rc = 0 := by
  have : Cnt (bfN d 0 0) rc = Cnt (fun _ => false) rc := Cnt_congr (fun j hj => by simp [bfN])
  rw [this]
  clear this
  induction rc with
  | zero => rfl
  | succ n ih => simp only [Cnt]; rw [ih]; rfl
