/-! ===== the reference: what its pictures say ===== -/
theorem MK.begin (M : PM) (sc : Nat → Nat) : MK (pu M 0 17 0) 0 sc := ⟨by omega, by rw [pu_s]; rfl, fun i hi => absurd hi (Nat.not_lt_zero i)⟩
theorem SX.begin (M : PM) : SX M (pu M 0 17 0) := fun a b h1 h2 h3 => by
  rw [pu_eq, if_neg (by rintro ⟨q1, q2⟩; exact h3 ⟨q1, Or.inl q2⟩)]
theorem MK.add {M : PM} {sl : Nat} {sc : Nat → Nat} (h : MK M sl sc) (hs : sl < 64) (hc : sc sl < 128) : MK (pu (pu M 0 17 (nI (sl + 1))) 11 sl (nI (sc sl))) (sl + 1) sc := by
  refine ⟨by omega, ?_, fun i hi => ?_⟩
  · rw [pu_k _ _ _ _ _ (by decide), pu_s]
  · rcases Nat.lt_succ_iff_lt_or_eq.mp hi with q | q
    · rw [pu_j _ _ _ _ _ (by omega), pu_k _ _ _ _ _ (by decide)]
      exact h.2.2 i q
    · subst q
      exact ⟨hc, pu_s _ _ _ _⟩
theorem SX.add (M : PM) (sl : Nat) (x y : Int32) : SX M (pu (pu M 0 17 x) 11 sl y) := fun a b h1 h2 h3 => by
  rw [pu_k _ _ _ _ _ h1, pu_eq, if_neg (by rintro ⟨q1, q2⟩; exact h3 ⟨q1, Or.inl q2⟩)]
theorem SX.thr (M : PM) (x : Int32) : SX M (pu M 0 0 x) := fun a b h1 h2 h3 => by
  rw [pu_eq, if_neg (by rintro ⟨q1, q2⟩; exact h3 ⟨q1, Or.inr q2⟩)]
theorem MK.thr {M : PM} {sl : Nat} {sc : Nat → Nat} (h : MK M sl sc) (x : Int32) : MK (pu M 0 0 x) sl sc := ⟨h.1, by rw [pu_j _ _ _ _ _ (by decide)]; exact h.2.1, fun i hi => by rw [pu_k _ _ _ _ _ (by decide)]; exact h.2.2 i hi⟩
/-- the tape -/
def RT (M : PM) (tl : Nat) (tc : Nat → Nat) : Prop := tl ≤ 24 ∧ M 0 2 = nI tl ∧ ∀ i, i < tl → 33 ≤ tc i ∧ tc i ≤ 126 ∧ M 1 i = nI (tc i)
theorem RT.sx {M M' : PM} {tl : Nat} {tc : Nat → Nat} (h : RT M tl tc) (hs : SX M M') : RT M' tl tc :=
  ⟨h.1, by rw [hs 0 2 (by decide) (by decide) (by decide)]; exact h.2.1, fun i hi => by rw [hs 1 i (by decide) (by decide) (by omega)]; exact h.2.2 i hi⟩
/-- a name more: its characters, its size, no space, no uses, standing for none -/
def CMd (M M' : PM) (n sl : Nat) (sc : Nat → Nat) : Prop := (∀ i, i < sl → M' 2 (24 * n + i) = nI (sc i)) ∧ M' 3 n = nI sl ∧ M' 4 n = -1 ∧ M' 5 n = 0 ∧ M' 6 n = -1 ∧ M' 0 5 = nI (n + 1) ∧
  ∀ a b, ¬ (a = 2 ∧ 24 * n ≤ b ∧ b < 24 * n + sl) → ¬ ((a = 3 ∨ a = 4 ∨ a = 5 ∨ a = 6) ∧ b = n) → ¬ (a = 0 ∧ b = 5) → M' a b = M a b
theorem rng {x : Int32} {a b : Nat} (hb : b < 2 ^ 31) (h1 : ¬ x < nI a) (h2 : x ≤ nI b) (ha : a ≤ b) : ∃ c, a ≤ c ∧ c ≤ b ∧ x = nI c := by
  have e1 := nI_toInt (n := a) (by omega)
  have e2 := nI_toInt hb
  have h0 : ¬ x < 0 := fun h => h1 (by
    rw [Int32.lt_iff_toInt_lt] at h ⊢
    rw [e1]
    have : (0 : Int32).toInt = 0 := rfl
    omega)
  obtain ⟨j, hj, rfl⟩ := nI_of h0
  refine ⟨j, ?_, (nI_leI hj hb).mp h2, rfl⟩
  exact Nat.le_of_not_lt fun q => h1 ((nI_ltI hj (by omega)).mpr q)
theorem no_f {n a : Nat} (h : a < n) : (false = true) ↔ ¬ ∃ j, j < n ∧ nI a = nI j := ⟨fun h => (by cases h), fun q => absurd ⟨a, h, rfl⟩ q⟩
theorem no_t {n : Nat} {x : Int32} (h : ¬ ∃ j, j < n ∧ x = nI j) : (true = true) ↔ ¬ ∃ j, j < n ∧ x = nI j := ⟨fun _ => h, fun _ => rfl⟩
theorem decI (x : Int32) : x + Int32.ofInt (-1) = x - 1 := by rw [Int32.sub_eq_add_neg]; rfl
theorem nI_p0 {i : Nat} (hi : i < 2 ^ 31) : nI i - 1 < 0 ↔ i = 0 := by
  cases i with
  | zero => exact ⟨fun _ => rfl, fun _ => by decide⟩
  | succ j =>
    rw [nI_pred]
    exact ⟨fun h => absurd h (nI_pos (by omega)), fun h => by omega⟩
theorem RT.thr {M : PM} {tl : Nat} {tc : Nat → Nat} (h : RT M tl tc) (x : Int32) : RT (pu M 0 0 x) tl tc := h.sx (SX.thr M x)
theorem RN.thr {M : PM} {n : Nat} {len : Nat → Nat} {ch : Nat → Nat → Nat} {sp : Nat → Option Nat} (h : RN M n len ch sp) (x : Int32) : RN (pu M 0 0 x) n len ch sp := h.sx (SX.thr M x)
def RU (M : PM) (n : Nat) (us : Nat → Nat) : Prop := ∀ k, k < n → us k < 2 ^ 30 ∧ M 5 k = nI (us k)
def RS (M : PM) (n : Nat) (st : Nat → Option Nat) : Prop := (∀ k, k < n → M 6 k = oI (st k)) ∧ ∀ k j, k < n → st k = some j → j < n
def RW (M : PM) (n rc : Nat) (rw_ : Nat → Nat) : Prop := rc ≤ 40 ∧ M 0 10 = nI rc ∧ ∀ j, j < 3 * rc → rw_ j < n ∧ M 7 j = nI (rw_ j)
def RR (M : PM) (n nc : Nat) (rf rt : Nat → Nat) : Prop := nc ≤ 20 ∧ M 0 12 = nI nc ∧ ∀ i, i < nc → rf i < n ∧ rt i < n ∧ M 8 (2 * i) = nI (rf i) ∧ M 8 (2 * i + 1) = nI (rt i)
def RP (M : PM) (pl : Nat) (pc9 : Nat → Nat) : Prop := pl ≤ 80 ∧ M 0 14 = nI pl ∧ ∀ i, i < pl → 33 ≤ pc9 i ∧ pc9 i ≤ 126 ∧ M 9 i = nI (pc9 i)
/-- what a name has become, and was -/
def nowF (rf rt : Nat → Nat) (x : Nat) : Nat → Nat
  | 0 => x
  | k + 1 => if rf k = nowF rf rt x k then rt k else nowF rf rt x k
def wasF (rf rt : Nat → Nat) : Nat → Nat → Nat
  | 0, x => x
  | i + 1, x => wasF rf rt i (if rt i = x then rf i else x)
theorem oI_inj {o o' : Option Nat} (h : ∀ k, o = some k → k < 2 ^ 31) (h' : ∀ k, o' = some k → k < 2 ^ 31) : oI o = oI o' ↔ o = o' := by
  refine ⟨fun e => ?_, fun e => by rw [e]⟩
  cases o with
  | none => cases o' with
    | none => rfl
    | some k => exact absurd e.symm (nI_m1 (h' k rfl))
  | some k => cases o' with
    | none => exact absurd e (nI_m1 (h k rfl))
    | some k' => rw [nI_inj (h k rfl) (h' k' rfl) e]
section GO
variable {p : Program} {l : Launch} {e : Env} {R : Room} {s : State} {m : MethodId} {args : Array Value} {below : List Frame} {meth : Method} {c : Code} {H : Heap} {locs : List Loc} {cells slots : Nat} {Q : State → Prop}
variable {cc : ByteArray} {pc : Nat} {ls : Array Slot} {rest : List Value}
theorem oo_eq (hx : p.tables.exec = Jvm.exec) (hb : c.code = cc) {a b : Option Nat} {off : Int} {tgt : Nat} (hdg : decode cc pc = .ok (.if_icmp .eq off, 3)) (ht : (pc : Int) + off = (tgt : Int)) (ha : ∀ k, a = some k → k < 2 ^ 31) (hb' : ∀ k, b = some k → k < 2 ^ 31)
    (kt : a = b → W p l e R s m args below meth c H locs cells slots Q (F0 m tgt ls rest)) (kf : a ≠ b → W p l e R s m args below meth c H locs cells slots Q (F0 m (pc + 3) ls rest)) : W p l e R s m args below meth c H locs cells slots Q (F0 m pc ls (.int (oI b) :: .int (oI a) :: rest)) :=
  lv_icmp_eq hx hb hdg ht (fun h => kt ((oI_inj ha hb').mp h)) (fun h => kf (fun q => h ((oI_inj ha hb').mpr q)))
theorem oo_ne (hx : p.tables.exec = Jvm.exec) (hb : c.code = cc) {a b : Option Nat} {off : Int} {tgt : Nat} (hdg : decode cc pc = .ok (.if_icmp .ne off, 3)) (ht : (pc : Int) + off = (tgt : Int)) (ha : ∀ k, a = some k → k < 2 ^ 31) (hb' : ∀ k, b = some k → k < 2 ^ 31)
    (kt : a ≠ b → W p l e R s m args below meth c H locs cells slots Q (F0 m tgt ls rest)) (kf : a = b → W p l e R s m args below meth c H locs cells slots Q (F0 m (pc + 3) ls rest)) : W p l e R s m args below meth c H locs cells slots Q (F0 m pc ls (.int (oI b) :: .int (oI a) :: rest)) :=
  lv_icmp_ne hx hb hdg ht (fun h => kt (fun q => h ((oI_inj ha hb').mpr q))) (fun h => kf ((oI_inj ha hb').mp h))
end GO
theorem ob_some {a : Nat} (h : a < 2 ^ 31) : ∀ k, some a = some k → k < 2 ^ 31 := fun k e => by cases e; exact h
theorem ob_none : ∀ k, (none : Option Nat) = some k → k < 2 ^ 31 := fun k e => by cases e
/-- a goes on behind b -/
def goesT (len : Nat → Nat) (ch : Nat → Nat → Nat) (a b : Nat) : Prop := len b < len a ∧ ∀ i, i < len b → ch a i = ch b i
def isSp (n : Nat) (sp : Nat → Option Nat) (k : Nat) : Prop := ∃ j, j < n ∧ sp j = some k
def spC (n : Nat) (len : Nat → Nat) (ch : Nat → Nat → Nat) (sp : Nat → Option Nat) (a k : Nat) : Prop := goesT len ch a k ∧ isSp n sp k
/-- the one of the greatest key, of these the first -/
def Best (P : Nat → Prop) (key : Nat → Nat) (n : Nat) (o : Option Nat) : Prop := match o with
  | none => ∀ k, k < n → ¬ P k
  | some b => b < n ∧ P b ∧ (∀ j, j < n → P j → key j ≤ key b) ∧ ∀ j, j < b → P j → key j < key b
theorem lt_S {P : Nat → Prop} {k : Nat} (h : ∀ j, j < k → P j) (hk : P k) : ∀ j, j < k + 1 → P j := fun j hj => by
  rcases Nat.lt_succ_iff_lt_or_eq.mp hj with q | q
  · exact h j q
  · rw [q]; exact hk
theorem Best.skip {P : Nat → Prop} {key : Nat → Nat} {k : Nat} {o : Option Nat} (h : Best P key k o) (hk : ¬ P k) : Best P key (k + 1) o := by
  cases o with
  | none => exact lt_S h hk
  | some b => exact ⟨Nat.lt_succ_of_lt h.1, h.2.1, lt_S h.2.2.1 (fun q => absurd q hk), h.2.2.2⟩
theorem Best.take {P : Nat → Prop} {key : Nat → Nat} {k : Nat} {o : Option Nat} (h : Best P key k o) (hk : P k) (hb : ∀ b, o = some b → key b < key k) : Best P key (k + 1) (some k) := by
  have h1 : ∀ j, j < k → P j → key j < key k := fun j hj hp => by
    cases o with
    | none => exact absurd hp (h j hj)
    | some b => exact Nat.lt_of_le_of_lt (h.2.2.1 j hj hp) (hb b rfl)
  exact ⟨Nat.lt_succ_self k, hk, lt_S (fun j hj hp => Nat.le_of_lt (h1 j hj hp)) (fun _ => Nat.le_refl _), h1⟩
theorem Best.stay {P : Nat → Prop} {key : Nat → Nat} {k b : Nat} (h : Best P key k (some b)) (hb : key k ≤ key b) : Best P key (k + 1) (some b) :=
  ⟨Nat.lt_succ_of_lt h.1, h.2.1, lt_S h.2.2.1 (fun _ => hb), h.2.2.2⟩
theorem Best.uniq {P : Nat → Prop} {key : Nat → Nat} {n : Nat} {o o' : Option Nat} (h : Best P key n o) (h' : Best P key n o') : o = o' := by
  cases o with
  | none => cases o' with
    | none => rfl
    | some k => exact absurd h'.2.1 (h k h'.1)
  | some k => cases o' with
    | none => exact absurd h.2.1 (h' k h.1)
    | some k' =>
      have e1 := h.2.2.1 k' h'.1 h'.2.1
      have e2 := h'.2.2.1 k h.1 h.2.1
      rcases Nat.lt_trichotomy k k' with q | q | q
      · have := h'.2.2.2 k q h.2.1; omega
      · rw [q]
      · have := h.2.2.2 k' q h'.2.1; omega
theorem Best.ex (P : Nat → Prop) (key : Nat → Nat) (n : Nat) : ∃ o, Best P key n o := by
  induction n with
  | zero => exact ⟨none, fun k h => absurd h (Nat.not_lt_zero k)⟩
  | succ n ih =>
    obtain ⟨o, ho⟩ := ih
    by_cases hp : P n
    · cases o with
      | none => exact ⟨some n, ho.take hp (fun b e => by cases e)⟩
      | some b =>
        by_cases hk : key b < key n
        · exact ⟨some n, ho.take hp (fun b' e => by cases e; exact hk)⟩
        · exact ⟨some b, ho.stay (by omega)⟩
    · exact ⟨o, ho.skip hp⟩
theorem Best.lt {P : Nat → Prop} {key : Nat → Nat} {n : Nat} {o : Option Nat} (h : Best P key n o) : ∀ k, o = some k → k < n := fun k e => by rw [e] at h; exact h.1
theorem Fst.lt {P : Nat → Prop} {n : Nat} {o : Option Nat} (h : Fst P n o) : ∀ k, o = some k → k < n := fun k e => by rw [e] at h; exact h.1
/-- the order of names -/
def ltT (len : Nat → Nat) (ch : Nat → Nat → Nat) (a b : Nat) : Prop := ∃ i, i ≤ len a ∧ i ≤ len b ∧ (∀ q, q < i → ch a q = ch b q) ∧ ((i = len a ∧ len a < len b) ∨ (i < len a ∧ i < len b ∧ ch a i < ch b i))
theorem ltT_at {len : Nat → Nat} {ch : Nat → Nat → Nat} {a b i : Nat} (h1 : i ≤ len a) (h2 : i ≤ len b) (hp : ∀ q, q < i → ch a q = ch b q) (hs : i = len a ∨ i = len b ∨ ch a i ≠ ch b i) : ltT len ch a b ↔ ((i = len a ∧ len a < len b) ∨ (i < len a ∧ i < len b ∧ ch a i < ch b i)) := by
  refine ⟨fun ⟨j, j1, j2, jp, jq⟩ => ?_, fun h => ⟨i, h1, h2, hp, h⟩⟩
  rcases Nat.lt_trichotomy j i with q | q | q
  · rcases jq with ⟨e, _⟩ | ⟨_, _, e⟩
    · omega
    · have := hp j q; omega
  · subst q; exact jq
  · have := jp i q
    rcases hs with e | e | e
    · omega
    · omega
    · exact absurd this e
theorem ltT_irr {len : Nat → Nat} {ch : Nat → Nat → Nat} (a : Nat) : ¬ ltT len ch a a := fun ⟨i, _, _, _, h⟩ => by rcases h with ⟨_, h⟩ | ⟨_, _, h⟩ <;> omega
theorem ltT_tr {len : Nat → Nat} {ch : Nat → Nat → Nat} {a b d : Nat} (h : ltT len ch a b) (h' : ltT len ch b d) : ltT len ch a d := by
  obtain ⟨i, i1, i2, ip, iq⟩ := h
  obtain ⟨j, j1, j2, jp, jq⟩ := h'
  rcases Nat.lt_trichotomy i j with q | q | q
  · refine ⟨i, i1, by omega, fun k hk => (ip k hk).trans (jp k (by omega)), ?_⟩
    have e := jp i q
    rcases iq with ⟨e1, e2⟩ | ⟨e1, e2, e3⟩
    · exact Or.inl ⟨e1, by omega⟩
    · exact Or.inr ⟨e1, by omega, by omega⟩
  · subst q
    refine ⟨i, i1, j2, fun k hk => (ip k hk).trans (jp k hk), ?_⟩
    rcases iq with ⟨e1, e2⟩ | ⟨e1, e2, e3⟩ <;> rcases jq with ⟨f1, f2⟩ | ⟨f1, f2, f3⟩
    · omega
    · exact Or.inl ⟨e1, by omega⟩
    · omega
    · exact Or.inr ⟨e1, f2, by omega⟩
  · refine ⟨j, by omega, j2, fun k hk => (ip k (by omega)).trans (jp k hk), ?_⟩
    have e := ip j q
    rcases jq with ⟨f1, f2⟩ | ⟨f1, f2, f3⟩
    · omega
    · exact Or.inr ⟨by omega, f2, by omega⟩
/-- a better short than b -/
def btS (len : Nat → Nat) (ch : Nat → Nat → Nat) (a b : Nat) : Prop := len a < len b ∨ (len a = len b ∧ ltT len ch a b)
theorem btS_tr {len : Nat → Nat} {ch : Nat → Nat → Nat} {a b d : Nat} (h : btS len ch a b) (h' : btS len ch b d) : btS len ch a d := by
  rcases h with h | ⟨h, g⟩ <;> rcases h' with h' | ⟨h', g'⟩
  · exact Or.inl (by omega)
  · exact Or.inl (by omega)
  · exact Or.inl (by omega)
  · exact Or.inr ⟨by omega, ltT_tr g g'⟩
theorem btS_irr {len : Nat → Nat} {ch : Nat → Nat → Nat} (a : Nat) : ¬ btS len ch a a := fun h => by
  rcases h with h | ⟨_, h⟩
  · omega
  · exact ltT_irr a h
/-- one with none better -/
def Top (P : Nat → Prop) (bt : Nat → Nat → Prop) (n : Nat) (o : Option Nat) : Prop := match o with
  | none => ∀ k, k < n → ¬ P k
  | some b => b < n ∧ P b ∧ ∀ j, j < n → P j → ¬ bt j b
theorem Top.skip {P : Nat → Prop} {bt : Nat → Nat → Prop} {k : Nat} {o : Option Nat} (h : Top P bt k o) (hk : ¬ P k) : Top P bt (k + 1) o := by
  cases o with
  | none => exact lt_S h hk
  | some b => exact ⟨Nat.lt_succ_of_lt h.1, h.2.1, lt_S h.2.2 (fun q => absurd q hk)⟩
theorem Top.take {P : Nat → Prop} {bt : Nat → Nat → Prop} {k : Nat} {o : Option Nat} (tr : ∀ a b d, bt a b → bt b d → bt a d) (irr : ∀ a, ¬ bt a a) (h : Top P bt k o) (hk : P k) (hb : ∀ b, o = some b → bt k b) : Top P bt (k + 1) (some k) := by
  refine ⟨Nat.lt_succ_self k, hk, lt_S (fun j hj hp hq => ?_) (fun _ => irr k)⟩
  cases o with
  | none => exact h j hj hp
  | some b => exact h.2.2 j hj hp (tr j k b hq (hb b rfl))
theorem Top.stay {P : Nat → Prop} {bt : Nat → Nat → Prop} {k b : Nat} (h : Top P bt k (some b)) (hb : ¬ bt k b) : Top P bt (k + 1) (some b) := ⟨Nat.lt_succ_of_lt h.1, h.2.1, lt_S h.2.2 (fun _ => hb)⟩
theorem Top.lt {P : Nat → Prop} {bt : Nat → Nat → Prop} {n : Nat} {o : Option Nat} (h : Top P bt n o) : ∀ k, o = some k → k < n := fun k e => by rw [e] at h; exact h.1
/-- no two names are the same -/
def DN (n : Nat) (len : Nat → Nat) (ch : Nat → Nat → Nat) : Prop := ∀ j k, j < n → k < n → len j = len k → (∀ i, i < len j → ch j i = ch k i) → j = k
theorem ltT_tot {len : Nat → Nat} {ch : Nat → Nat → Nat} (a b : Nat) (h1 : ¬ ltT len ch a b) (h2 : ¬ ltT len ch b a) : len a = len b ∧ ∀ i, i < len a → ch a i = ch b i := by
  obtain ⟨o, ho⟩ := Fst.ex (fun i => i = len a ∨ i = len b ∨ ch a i ≠ ch b i) (len a + 1)
  cases o with
  | none => exact absurd (Or.inl rfl) (ho (len a) (Nat.lt_succ_self _))
  | some i =>
    obtain ⟨g1, g2, g3⟩ := ho
    have hb : i ≤ len b := Nat.le_of_not_lt fun q => g3 (len b) q (Or.inr (Or.inl rfl))
    have hp : ∀ q, q < i → ch a q = ch b q := fun q hq => Decidable.of_not_not fun z => g3 q hq (Or.inr (Or.inr z))
    rw [ltT_at (i := i) (by omega) hb hp g2] at h1
    rw [ltT_at (i := i) hb (by omega) (fun q hq => (hp q hq).symm) (by omega)] at h2
    have : i = len a ∧ i = len b := by omega
    exact ⟨by omega, fun j hj => hp j (by omega)⟩
theorem Top.uniq {len : Nat → Nat} {ch : Nat → Nat → Nat} {P : Nat → Prop} {n : Nat} {o o' : Option Nat} (hd : DN n len ch) (h : Top P (btS len ch) n o) (h' : Top P (btS len ch) n o') : o = o' := by
  cases o with
  | none => cases o' with
    | none => rfl
    | some k => exact absurd h'.2.1 (h k h'.1)
  | some k => cases o' with
    | none => exact absurd h.2.1 (h' k h.1)
    | some k' =>
      have e1 := h.2.2 k' h'.1 h'.2.1
      have e2 := h'.2.2 k h.1 h.2.1
      have hl : len k = len k' := by
        rcases Nat.lt_trichotomy (len k) (len k') with q | q | q
        · exact absurd (Or.inl q) e2
        · exact q
        · exact absurd (Or.inl q) e1
      have := ltT_tot k k' (fun q => e2 (Or.inr ⟨hl, q⟩)) (fun q => e1 (Or.inr ⟨hl.symm, q⟩))
      rw [hd k k' h.1 h'.1 hl this.2]
theorem bex (P : Prop) : ∃ t : Bool, t = true ↔ P := by
  by_cases h : P
  · exact ⟨true, fun _ => h, fun _ => rfl⟩
  · exact ⟨false, fun q => (by cases q), fun q => absurd q h⟩
