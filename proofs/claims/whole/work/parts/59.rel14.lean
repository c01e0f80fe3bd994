/-! THE START; numbers of the law -/
theorem Rel.start : Rel ([], [], fun _ => none, false, 0, 0) μ0 0 := by
  refine ⟨(fun _ _ _ => False, fun _ _ => 0, fun _ => 0, fun _ => [], 0, 0), ⟨⟨by decide, rfl⟩, ⟨by decide, rfl, fun h => h⟩, rfl, ⟨rfl, rfl, rfl⟩, fun k => ⟨fun c r h => h.elim, fun c1 r1 c2 r2 h => h.elim⟩, (fun k q hq => by cases hq), fun k _ _ => rfl, fun k _ => rfl, ⟨fun r _ => Or.inl rfl, fun r1 r2 _ _ h => absurd (show (0 : Int32) < 0 from h) (by decide)⟩, fun _ r _ => rfl⟩, (fun i v hv => by cases hv), fun i _ _ => ⟨rfl, rfl⟩, by decide, by decide, by decide, by decide, by decide⟩
theorem and15 (y : Int32) : ∃ k : Nat, k < 16 ∧ y &&& 15 = nI k := by
  refine ⟨(y &&& 15).toBitVec.toNat, ?_, ?_⟩
  · rw [Int32.toBitVec_and, BitVec.toNat_and]
    exact Nat.lt_of_le_of_lt Nat.and_le_right (by decide)
  · apply Int32.toBitVec_inj.mp
    show _ = BitVec.ofNat 32 _
    rw [BitVec.ofNat_toNat, BitVec.setWidth_eq]
theorem sub7 {L k : Nat} (hL : L ≤ 3584) (hk : k ≤ 4000) (h : ¬ nI L - 7 < nI k) : k + 7 ≤ L := by
  by_cases h7 : 7 ≤ L
  · obtain ⟨j, rfl⟩ : ∃ j, L = j + 7 := ⟨L - 7, by omega⟩
    have e : nI (j + 7) - 7 = nI j := by
      rw [← nI_add j 7]
      show nI j + 7 - 7 = nI j
      rw [Int32.add_sub_cancel]
    rw [e, nI_ltI (by omega) (by omega)] at h
    omega
  · exfalso
    have h0 : nI L - 7 < 0 := by
      rcases (show L = 0 ∨ L = 1 ∨ L = 2 ∨ L = 3 ∨ L = 4 ∨ L = 5 ∨ L = 6 by omega) with rfl | rfl | rfl | rfl | rfl | rfl | rfl <;> decide
    exact h (Int32.lt_of_lt_of_le h0 (Int32.not_lt.mp (nI_pos (by omega))))
theorem nI_7 (t : Nat) : nI (7 * t) + Int32.ofInt 7 = nI (7 * (t + 1)) := by
  show nI (7 * t) + nI 7 = _
  rw [nI_add, show 7 * t + 7 = 7 * (t + 1) by omega]
theorem lg_same (v : Int64) : lg_cmp v v = 0 := (lg_eq v v).mpr rfl
theorem xFc.new {G : xw_G} {q : Nat} {e : va_E} (h : G q = none) : xFc G (va_up G q (some e)) := by
  intro a0 e0 h0 _
  have hne : a0 ≠ q := fun y => by rw [y, h] at h0; cases h0
  rw [va_up_ne _ _ hne]
  exact h0
