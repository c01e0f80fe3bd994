/-! JOINT CONTRACTS: value, reference, count, close, sparse, view, key, scan -/
theorem Rel.lens {σ : CS} {μ : MS} {n : Nat} (h : Rel σ μ n) : (sV σ).length ≤ 5 ∧ (sK σ).length ≤ 6 := by
  obtain ⟨w, h, -⟩ := h
  exact ⟨h.2.1.1, h.1.1⟩
theorem Rel.rv {σ : CS} {μ : MS} {n : Nat} (h : Rel σ μ n) {i : Nat} {v : VD} (hi : (sV σ)[i]? = some v) : v.1 = mZ μ 24 i ∧ vVr v = mJ μ 22 i ∧ (v.1 = true → vMo v = mI μ 15 i ∧ vAc v = mI μ 16 i ∧ vKr v = mI μ 17 i) := by
  obtain ⟨w, -, h, -⟩ := h
  obtain ⟨h1, h2, h3⟩ := h i v hi
  refine ⟨h1, h2, fun z => ?_⟩
  obtain ⟨g1, g2, ⟨k, -, g3, g4, -⟩, -⟩ := h3 z
  exact ⟨g1.1, g2, g3.trans g4.symm⟩
section J1
variable {l : Launch} {E : xE} {x md : Nat} {a : Nat → Nat} {n : Nat} {G : xw_G} {σ : CS} {μ : MS}
theorem j_value (hC : xCS E G x σ) (hM : xMD E G md a μ) (hR : Rel σ μ n) (hn : n < 600) (j : Int32) : XMk l E y_KF_value w_KF_value rm_KF_value [.ref x, .int j] G (JRj l E x md a n y_MD_value w_MD_value rm_MD_value [.ref md, .int j]) 0 0 := by
  have hC0 := hC
  obtain ⟨lo, la, lc, hG, hL, hnn, hk, hv, hs, he⟩ := hC
  have hl := hR.lens
  rcases atI_cases (sV σ) j (by omega) with ⟨-, hj⟩ | ⟨i, v, rfl, hi, -, hil⟩
  · exact j_j (q_KF_value_out l E hG (hL.1 1 (by omega)) (by rw [hnn.2.2.1]; exact hj)) (p_pure hC0) (fun hM' => q_MD_value_nv l E hM' (hR.vw_no hj)) hM (hR.thr hn)
  · obtain ⟨va, ha, hV⟩ := hv i v hi
    have h5 := hR.vw_in hil
    have hrv := hR.rv hi
    exact j_j (v := vVr v) (q_KF_value_in l E hG (hL.1 1 (by omega)) hV ha) (p_pure hC0) (fun hM' => by rw [hrv.2.1]; exact q_MD_value l E hM' h5.2 h5.1) hM (hR.thr hn)
theorem j_reference (hC : xCS E G x σ) (hM : xMD E G md a μ) (hR : Rel σ μ n) (hn : n < 600) (j : Int32) : XMk l E y_KF_reference w_KF_reference rm_KF_reference [.ref x, .int j] G (JRi l E x md a n y_MD_reference w_MD_reference rm_MD_reference [.ref md, .int j]) 0 0 := by
  have hC0 := hC
  obtain ⟨lo, la, lc, hG, hL, hnn, hk, hv, hs, he⟩ := hC
  have hl := hR.lens
  rcases atI_cases (sV σ) j (by omega) with ⟨-, hj⟩ | ⟨i, v, rfl, hi, -, hil⟩
  · exact j_i (q_KF_reference_out l E hG (hL.1 1 (by omega)) (by rw [hnn.2.2.1]; exact hj)) (p_pure hC0) (fun hM' => q_MD_reference_nv l E hM' (hR.vw_no hj)) hM (hR.thr hn)
  · obtain ⟨va, ha, hV⟩ := hv i v hi
    have h5 := hR.vw_in hil
    have hrv := hR.rv hi
    refine j_i (v := if v.1 = false then -1 else vKr v) (q_KF_reference_in l E hG (hL.1 1 (by omega)) hV ha) (p_pure hC0) (fun hM' => ?_) hM (hR.thr hn)
    have e : (if v.1 = false then -1 else vKr v) = if mZ μ 24 i = false then -1 else mI μ 17 i := by
      rw [← hrv.1]
      cases hz : v.1 with
      | false => rfl
      | true => rw [if_neg (by decide), if_neg (by decide)]; exact (hrv.2.2 hz).2.2
    rw [e]
    exact q_MD_reference l E hM' h5.2 h5.1
theorem j_count (hC : xCS E G x σ) (hM : xMD E G md a μ) (hR : Rel σ μ n) (hn : n < 600) (j : Int32) : XMk l E y_KF_count w_KF_count rm_KF_count [.ref x, .int j] G (JRi l E x md a n y_MD_count w_MD_count rm_MD_count [.ref md, .int j]) 0 0 := by
  have hC0 := hC
  obtain ⟨lo, la, lc, hG, hL, hnn, hk, hv, hs, he⟩ := hC
  have hl := hR.lens
  rcases atI_cases (sK σ) j (by omega) with ⟨-, hj⟩ | ⟨i, q, rfl, hi, -, hil⟩
  · exact j_i (q_KF_count_out l E hG (hL.1 0 (by omega)) (by rw [hnn.1]; exact hj)) (p_pure hC0) (fun hM' => q_MD_count_nk l E hM' (hR.ky_no hj)) hM (hR.thr hn)
  · obtain ⟨⟨ki, hki, hK⟩, hX⟩ := hk i q hi
    have h5 := hR.ky_in hil
    refine j_i (v := nI (lc (i + 2)).length) (q_KF_count_in l E hG (hL.1 0 (by omega)) hK (hL.1 (i + 2) (by omega)) hki) (p_pure hC0) (fun hM' => ?_) hM (hR.thr hn)
    obtain ⟨w, hw⟩ := id hR
    have kx := hw.kx hi
    rw [hX.1, ent_len kx.2.1, rs_ct kx.2.1]
    exact q_MD_count l E hM' h5.2 h5.1
theorem j_close (hC : xCS E G x σ) (hM : xMD E G md a μ) (hR : Rel σ μ n) (hn : n < 600) (j : Int32) : XMk l E y_KF_close w_KF_close rm_KF_close [.ref x, .int j] G (JRi l E x md a n y_MD_close w_MD_close rm_MD_close [.ref md, .int j]) 0 0 := by
  have hC0 := hC
  obtain ⟨lo, la, lc, hB⟩ := hC
  obtain ⟨hG, hL, hnn, hk, hv, hs, he⟩ := id hB
  have hl := hR.lens
  rcases atI_cases (sV σ) j (by omega) with ⟨-, hj⟩ | ⟨i, v, rfl, hi, -, hil⟩
  · exact j_i (q_KF_close_out l E hG (hL.1 1 (by omega)) (by rw [hnn.2.2.1]; exact hj)) (p_pure hC0) (fun hM' => q_MD_close_nv l E hM' (hR.vw_no hj)) hM (hR.thr hn)
  · obtain ⟨va, ha, hV⟩ := hv i v hi
    have h5 := hR.vw_in hil
    have hrv := hR.rv hi
    cases ho : v.1 with
    | false => exact j_i (q_KF_close_shut l E hG (hL.1 1 (by omega)) hV ha ho) (p_pure hC0) (fun hM' => q_MD_close_shut l E hM' h5.2 h5.1 (hrv.1 ▸ ho)) hM (hR.thr hn)
    | true =>
      refine j_i (μ' := mCls μ i) (q_KF_close_open l E hG (hL.1 1 (by omega)) hV ha ho) (p_view (u' := (false, v.2.1, v.2.2.1, v.2.2.2.1, v.2.2.2.2.1, v.2.2.2.2.2.1, v.2.2.2.2.2.2.1, v.2.2.2.2.2.2.2.1, none, 0, v.2.2.2.2.2.2.2.2.2.2.1, v.2.2.2.2.2.2.2.2.2.2.2)) hB ha hV) (fun hM' => q_MD_close_open l E hM' h5.2 h5.1 (hrv.1 ▸ ho)) hM ?_
      obtain ⟨w, hw⟩ := id hR
      refine ⟨w, hw.vw hn hi ⟨rfl, rfl, rfl, rfl, rfl, rfl, rfl, rfl, rfl, rfl, rfl, rfl, rfl, rfl⟩ (fun j' hne => ⟨rfl, rfl, rfl, rfl, rfl, pk_un hne, rfl, pk_uLn hne, rfl, va_up_ne _ _ hne, rfl, rfl⟩) ⟨?_, ?_, fun z => by cases z⟩⟩
      · exact (va_up_self _ _ _).symm
      · exact pk_uLs.symm
end J1
