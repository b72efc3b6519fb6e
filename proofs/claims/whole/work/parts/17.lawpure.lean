/-! PURE: the law's own numbers -/
theorem lw_inc (j : Nat) : nI (1 + 4 * j) + Int32.ofInt 4 = nI (1 + 4 * (j + 1)) := by
  show nI (1 + 4 * j) + nI 4 = _
  rw [nI_add]
  congr 1
theorem lw_gt {Ln i : Nat} (hL : Ln ≤ 2049) (hi : i ≤ 4100) : nI Ln - nI 4 < nI i ↔ Ln < i + 4 := by
  rw [Int32.lt_iff_toInt_lt, pk_sub_toInt (by omega) (by decide), nI_toInt (by omega)]
  omega
theorem pt_ex {n : Nat} {p q : Int32} (h : ¬ (hB n p = true ∧ ¬ (q.toInt < 0 ∨ 4 < q.toInt))) : hB n p = false ∨ (q.toInt < 0 ∨ 4 < q.toInt) := by
  cases e : hB n p
  · exact Or.inl rfl
  · right
    exact Decidable.byContradiction (fun z => h ⟨e, z⟩)
theorem aB_congr {n : Nat} {K V R K' V' R' : Nat → Int32} {p : Int32} (ha : agr n K V R K' V' R') (hn : n ≤ 43) : aB n K p = aB n K' p := by
  unfold aB
  cases e : hB n p
  · rfl
  · obtain ⟨i, hi, rfl⟩ := hB_of e (by omega)
    rw [nI_clamp (by omega), (ha i hi).1]
theorem aB_5 {n i : Nat} {K V R K' V' R' : Nat → Int32} (ha : agr n K V R K' V' R') (hi : i < n) (h : aB n K (nI i) = true) (hn : n ≤ 43) : K' i = nI 5 := by
  unfold aB at h
  have h2 := (Bool.and_eq_true_iff.mp h).2
  rw [nI_clamp (by omega)] at h2
  rw [← (ha i hi).1]
  exact of_decide_eq_true h2
section Lw
variable {n : Nat} {K V R K' V' R' : Nat → Int32} {G B : Nat → Int64} {w : Int64} {L : Nat → Bool}
theorem INV.wi (h : INV n K V R G B w K' V' R' L) {i : Nat} (hi : i < n) (hl : L i = true) : wbit w i = true := by
  have hw := h.2.2.2.2.2.2.1 i (by have := h.1; omega)
  rw [decide_eq_true hi, hl] at hw
  exact hw
theorem wo_ex2 {p : Int32} (h : ¬ (hB n p = true ∧ L p.toNatClampNeg = true)) : hB n p = false ∨ L p.toNatClampNeg = false := by
  cases e : hB n p
  · exact Or.inl rfl
  · right
    cases e2 : L p.toNatClampNeg
    · rfl
    · exact absurd ⟨e, e2⟩ h
theorem wo_ex1 (hI : INV n K V R G B w K' V' R' L) {p : Int32} (h : ¬ (hB n p = true ∧ L p.toNatClampNeg = true)) : hB n p = false ∨ wbit w p.toNatClampNeg = false := by
  rcases wo_ex2 h with e | e
  · exact Or.inl e
  · cases e2 : hB n p
    · exact Or.inl rfl
    · right
      obtain ⟨i, hi, rfl⟩ := hB_of e2 (by have := hI.1; omega)
      have hn := hI.1
      have hw := hI.2.2.2.2.2.2.1 i (by omega)
      rw [nI_clamp (by omega)] at e ⊢
      rw [hw, e, Bool.and_false]
theorem INV.kp (h : INV n K V R G B w K' V' R' L) {K1 V1 R1 : Nat → Int32} (he : ∀ j, j < 43 → K1 j = K' j ∧ V1 j = V' j ∧ R1 j = R' j) : INV n K V R G B w K1 V1 R1 L := by
  obtain ⟨hn, ha, hR, hk, hG, hB8, hw, hc⟩ := h
  refine ⟨hn, fun j hj => ?_, fun i hi => ?_, fun i hi => ?_, hG, hB8, hw, fun m hm hl => ?_⟩
  · obtain ⟨e1, e2, e3⟩ := he j (by omega)
    rw [e1, e2, e3]
    exact ha j hj
  · rw [(he i (by omega)).2.2]; exact hR i hi
  · rw [(he i (by omega)).1]; exact hk i hi
  · rw [(he m (by omega)).2.2]; exact hc m hm hl
end Lw
