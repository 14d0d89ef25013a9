theorem atE {D : va_G} {base k i : Nat} {E : Nat → va_E} {e : va_E} {H : Heap} (hB : CB D base k E H) (hi : i < k) (he : E i = e) : va_at D clsA (base + i, e) H := by rw [← he]; exact hB.at hi
theorem vq_cong {cA : ClassId} {n : Nat} {f g : Nat → Option Nat} (h : ∀ q, q < n → f q = g q) : vp_cell cA (n, .inr (.inr (.inr (.inr f)))) = vp_cell cA (n, .inr (.inr (.inr (.inr g)))) := by
  rw [vp_cell_q, vp_cell_q]
  unfold arrV
  congr 1
  apply congrArg
  funext j
  show va_rf (f j.val) = va_rf (g j.val)
  rw [h j.val j.isLt]
/-- the class's numbers at the beginning -/
def M0C (fH gH fG : Nat → Int32) : PM := fun k q => if k = 0 then (if q = 12 then 0 else -1) else if k = 130 then fH q else if k = 131 then gH q else if k = 135 then fG q else 0
theorem M0C_0 (fH gH fG : Nat → Int32) {k : Nat} (q : Nat) (h0 : k ≠ 0) (h1 : k ≠ 130) (h2 : k ≠ 131) (h3 : k ≠ 135) : M0C fH gH fG k q = 0 := by
  unfold M0C
  rw [if_neg h0, if_neg h1, if_neg h2, if_neg h3]
def M0M : PM := fun k q => if k = 10 then upd (upd (upd (fun _ => 0) 0 (nI 0)) 1 (-1)) 2 (-1) q else 0
def PostC (cI cC cZ cT : ClassId) (base : Nat) (E' : Nat → va_E) : Prop := E' 0 = .inr (7, [.ref (base + (1)), .ref (base + (1 + 2)), .ref (base + (1 + 4)), .ref (base + (1 + 6)), .ref (base + (1 + 128)), .ref (base + (1 + 131)), .ref (base + (1 + 133)), .ref (base + (1 + 135)), .ref (base + (1 + 138)), .ref (base + (1 + 140)), .ref (base + (1 + 141)), .ref (base + (1 + 142)), .int (nI 0), .int (-1), .int (-1)]) ∧ E' (1) = .inr (6, [.ref (base + (1 + 1)), .int (nI 0)]) ∧ E' (1 + 1) = .inl (cC, 24, .inl (fun _ => 0)) ∧ E' (1 + 2) = .inr (6, [.ref (base + (1 + 3)), .int (nI 0)]) ∧ E' (1 + 3) = .inl (cC, 28, .inl (fun _ => 0)) ∧ E' (1 + 4) = .inr (6, [.ref (base + (1 + 5)), .int (nI 0)]) ∧ E' (1 + 5) = .inl (cC, 49, .inl (fun _ => 0)) ∧ E' (1 + 6) = .inr (0, [.ref (base + (1 + 7)), .int (nI 0)]) ∧ (∃ f : Nat → Option Nat, (∀ q, q < 60 → f q = some (base + (1 + 7 + 1 + 2 * q))) ∧ E' (1 + 7) = .inl (cT, 60, .inr (.inr (.inr (.inr (f)))))) ∧ (∀ q, q < 60 → E' (1 + 7 + 1 + 2 * q) = .inr (6, [.ref (base + (1 + 7 + 1 + 2 * q + 1)), .int (nI 0)]) ∧ E' (1 + 7 + 1 + 2 * q + 1) = .inl (cC, 24, .inl (fun _ => 0))) ∧ E' (1 + 128) = .inr (3, [.ref (base + (1 + 6)), .ref (base + (1 + 129)), .ref (base + (1 + 130)), .int (nI 0), .int (nI 0)]) ∧ (∃ f : Nat → Int32, (∀ q, q < 60 → f q = -1) ∧ E' (1 + 129) = .inl (cI, 60, .inl (f))) ∧ (∃ f : Nat → Int32, (∀ q, q < 60 → f q = -1) ∧ E' (1 + 130) = .inl (cI, 60, .inl (f))) ∧ E' (1 + 131) = .inr (2, [.ref (base + (1 + 132)), .int (nI 0)]) ∧ E' (1 + 132) = .inl (cI, 120, .inl (fun _ => 0)) ∧ E' (1 + 133) = .inr (4, [.ref (base + (1 + 134))]) ∧ (∃ f : Nat → Int32, (∀ q, q < 60 → f q = -1) ∧ E' (1 + 134) = .inl (cI, 60, .inl (f))) ∧ E' (1 + 135) = .inr (1, [.ref (base + (1 + 136)), .ref (base + (1 + 137)), .int (nI 0)]) ∧ E' (1 + 136) = .inl (cI, 20, .inl (fun _ => 0)) ∧ E' (1 + 137) = .inl (cI, 20, .inl (fun _ => 0)) ∧ E' (1 + 138) = .inr (5, [.ref (base + (1 + 139))]) ∧ E' (1 + 139) = .inl (cI, 25, .inl (fun _ => 0)) ∧ E' (1 + 140) = .inl (cI, 60, .inl (fun _ => 0)) ∧ E' (1 + 141) = .inl (cZ, 60, .inl (fun _ => 0)) ∧ E' (1 + 142) = .inl (cI, 40, .inl (fun _ => 0))
def PostM (cI cB : ClassId) (base : Nat) (E' : Nat → va_E) : Prop := E' 0 = .inr (8, [.int 0, .ref (base + (1)), .int 0, .ref (base + (1 + 1)), .ref (base + (1 + 2)), .int 0, .ref (base + (1 + 3)), .ref (base + (1 + 4)), .ref (base + (1 + 5)), .ref (base + (1 + 6)), .int 0, .ref (base + (1 + 7)), .int 0, .ref (base + (1 + 8)), .int 0, .ref (base + (1 + 9)), .ref (base + (1 + 10)), .int 0, .ref (base + (1 + 11))]) ∧ E' (1) = .inl (cB, 24, .inl (fun _ => 0)) ∧ E' (1 + 1) = .inl (cB, 1440, .inl (fun _ => 0)) ∧ E' (1 + 2) = .inl (cI, 60, .inl (fun _ => 0)) ∧ E' (1 + 3) = .inl (cI, 60, .inl (fun _ => 0)) ∧ E' (1 + 4) = .inl (cI, 60, .inl (fun _ => 0)) ∧ E' (1 + 5) = .inl (cI, 60, .inl (fun _ => 0)) ∧ E' (1 + 6) = .inl (cI, 120, .inl (fun _ => 0)) ∧ E' (1 + 7) = .inl (cI, 40, .inl (fun _ => 0)) ∧ E' (1 + 8) = .inl (cB, 80, .inl (fun _ => 0)) ∧ E' (1 + 9) = .inl (cI, 3, .inl (upd (upd (upd (fun _ => 0) 0 (nI 0)) 1 (-1)) 2 (-1))) ∧ E' (1 + 10) = .inl (cB, 64, .inl (fun _ => 0)) ∧ E' (1 + 11) = .inl (cI, 25, .inl (fun _ => 0))
set_option maxRecDepth 100000 in
theorem C_made {D : va_G} {cI cC cZ cT : ClassId} {base : Nat} {E' : Nat → va_E} {H : Heap} (hB : CB D base 144 E' H) (hq : PostC cI cC cZ cT base E') : ∃ fH gH fG : Nat → Int32, (∀ q, q < 60 → fH q = -1) ∧ (∀ q, q < 60 → gH q = -1) ∧ (∀ q, q < 60 → fG q = -1) ∧ va_P D clsA (gw 144 (fun k => base + k) (cfC cI cC cZ cT (fun k => base + k)) (M0C fH gH fG)) H := by
  obtain ⟨h0, h1, h2, h3, h4, h5, h6, h7, ⟨fN, hfN, h8⟩, hNt, h129, ⟨fH, hfH, h130⟩, ⟨gH, hgH, h131⟩, h132, h133, h134, ⟨fG, hfG, h135⟩, h136, h137, h138, h139, h140, h141, h142, h143⟩ := hq
  refine ⟨fH, gH, fG, hfH, hgH, hfG, fun i x hx => ?_⟩
  obtain ⟨hi, rfl⟩ := gw_inv hx
  by_cases ht : 9 ≤ i ∧ i < 129
  · obtain ⟨q, hq60, hq⟩ : ∃ q, q < 60 ∧ (i = 9 + 2 * q ∨ i = 9 + 2 * q + 1) := ⟨(i - 9) / 2, by omega, by omega⟩
    obtain ⟨g1, g2⟩ := hNt q hq60
    rw [show 1 + 7 + 1 + 2 * q = 9 + 2 * q by omega] at g1 g2
    rcases hq with rfl | rfl
    · rw [cfC_T (txn hq60), M0C_0 _ _ _ _ (by omega) (by omega) (by omega) (by omega)]
      exact atE hB hi g1
    · rw [cfC_A (txn hq60), capN, show M0C fH gH fG (9 + 2 * q + 1) = fun _ => 0 from funext fun x => M0C_0 _ _ _ _ (by omega) (by omega) (by omega) (by omega)]
      exact atE hB hi g2
  rcases (show i = 0 ∨ i = 1 ∨ i = 2 ∨ i = 3 ∨ i = 4 ∨ i = 5 ∨ i = 6 ∨ i = 7 ∨ i = 8 ∨ i = 129 ∨ i = 130 ∨ i = 131 ∨ i = 132 ∨ i = 133 ∨ i = 134 ∨ i = 135 ∨ i = 136 ∨ i = 137 ∨ i = 138 ∨ i = 139 ∨ i = 140 ∨ i = 141 ∨ i = 142 ∨ i = 143 by omega) with rfl | rfl | rfl | rfl | rfl | rfl | rfl | rfl | rfl | rfl | rfl | rfl | rfl | rfl | rfl | rfl | rfl | rfl | rfl | rfl | rfl | rfl | rfl | rfl
  · exact atE (i := 0) hB hi h0
  · exact atE (i := 1) hB hi h1
  · exact atE (i := 2) hB hi h2
  · exact atE (i := 3) hB hi h3
  · exact atE (i := 4) hB hi h4
  · exact atE (i := 5) hB hi h5
  · exact atE (i := 6) hB hi h6
  · exact atE (i := 7) hB hi h7
  · have h := atE (i := 8) hB hi h8
    have h : H[base + 8]? = some (vp_cell cT _) := h
    show H[base + 8]? = some (vp_cell cT (60, .inr (.inr (.inr (.inr (fun j => some (base + (9 + 2 * j))))))))
    rw [h, vq_cong (g := fun j => some (base + (9 + 2 * j))) (fun q hq => by rw [hfN q hq, show 1 + 7 + 1 + 2 * q = 9 + 2 * q by omega])]
  · exact atE (i := 129) hB hi h129
  · exact atE (i := 130) hB hi h130
  · exact atE (i := 131) hB hi h131
  · exact atE (i := 132) hB hi h132
  · exact atE (i := 133) hB hi h133
  · exact atE (i := 134) hB hi h134
  · exact atE (i := 135) hB hi h135
  · exact atE (i := 136) hB hi h136
  · exact atE (i := 137) hB hi h137
  · exact atE (i := 138) hB hi h138
  · exact atE (i := 139) hB hi h139
  · exact atE (i := 140) hB hi h140
  · exact atE (i := 141) hB hi h141
  · exact atE (i := 142) hB hi h142
  · exact atE (i := 143) hB hi h143
set_option maxRecDepth 100000 in
theorem M_made {D : va_G} {cI cB : ClassId} {base : Nat} {E' : Nat → va_E} {H : Heap} (hB : CB D base 13 E' H) (hq : PostM cI cB base E') : va_P D clsA (gw 13 (fun k => base + k) (cfM cI cB (fun k => base + k)) M0M) H := by
  obtain ⟨h0, h1, h2, h3, h4, h5, h6, h7, h8, h9, h10, h11, h12⟩ := hq
  intro i x hx
  obtain ⟨hi, rfl⟩ := gw_inv hx
  rcases (show i = 0 ∨ i = 1 ∨ i = 2 ∨ i = 3 ∨ i = 4 ∨ i = 5 ∨ i = 6 ∨ i = 7 ∨ i = 8 ∨ i = 9 ∨ i = 10 ∨ i = 11 ∨ i = 12 by omega) with rfl | rfl | rfl | rfl | rfl | rfl | rfl | rfl | rfl | rfl | rfl | rfl | rfl
  · exact atE (i := 0) hB hi h0
  · exact atE (i := 1) hB hi h1
  · exact atE (i := 2) hB hi h2
  · exact atE (i := 3) hB hi h3
  · exact atE (i := 4) hB hi h4
  · exact atE (i := 5) hB hi h5
  · exact atE (i := 6) hB hi h6
  · exact atE (i := 7) hB hi h7
  · exact atE (i := 8) hB hi h8
  · exact atE (i := 9) hB hi h9
  · exact atE (i := 10) hB hi h10
  · exact atE (i := 11) hB hi h11
  · exact atE (i := 12) hB hi h12
