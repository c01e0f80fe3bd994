/-! JOINT CONTRACTS: scan, sparse, view, key -/
theorem RelW.dat {σ : CS} {μ : MS} {n k : Nat} {w : RW} {q : KD × List E3} (h : RelW σ μ n w) (hq : (sK σ)[k]? = some q) {r : Nat} (hr : r ∈ wR w k) : sD σ (wL w r) = some (mJ μ 9 r, true) ∧ r < 300 ∧ ∃ nn, 0 < nn ∧ nn ≤ wM w ∧ mI μ 10 r = nI nn := by
  obtain ⟨g1, g2⟩ := ((h.kx hq).2.1.2.1 r).mp hr
  have hlv := mEn_live g2
  rcases h.1.2.2.2.2.2.2.2.2.1.1 r g1 with h0 | ⟨nn, k1, k2, k3, k4⟩
  · rw [h0] at hlv
    exact absurd hlv (by decide)
  · exact ⟨k4, g1, nn, k1, k2, k3⟩
theorem cnt_00 {μ : MS} {k A : Nat} {w : RW} {q : KD × List E3} (h : KX μ k w q A) : cnt q.2 0 (lN 0) = 0 := by
  rcases Nat.eq_zero_or_pos (cnt q.2 0 (lN 0)) with h0 | h0
  · exact h0
  · have hle : cnt q.2 0 (lN 0) ≤ (wR w k).length := by rw [← ent_len h.2.1]; exact cnt_le
    obtain ⟨r, hr⟩ := e_lt (show 0 < (wR w k).length by omega)
    have h1 := (h.cn 0 (lN 0) hr).mpr h0
    obtain ⟨m, -, -, b1, b2, -⟩ := h.rk (List.mem_of_getElem? hr)
    rcases ahead_iff.mp h1 with h2 | ⟨-, h2⟩
    · exact absurd h2 (Nat.not_lt_zero _)
    · rw [lN_lt (by omega) (by omega)] at h2
      omega
theorem KX.first {μ : MS} {k A : Nat} {w : RW} {q : KD × List E3} (h : KX μ k w q A) : mAft μ k 0 0 true = (wR w k)[0]? := by
  have := h.aft (c := 0) (n := 0) (Or.inl ⟨rfl, rfl⟩) 0 true
  rw [if_pos rfl, cnt_00 h] at this
  exact this
section J2
variable {l : Launch} {E : xE} {x md : Nat} {a : Nat → Nat} {n : Nat} {G : xw_G} {σ : CS} {μ : MS}
theorem j_scan (hC : xCS E G x σ) (hM : xMD E G md a μ) (hR : Rel σ μ n) (hn : n < 600) (j z : Int32) : XMk l E y_KF_scan w_KF_scan rm_KF_scan [.ref x, .int j, .int z] G (JRj l E x md a n y_MD_scan w_MD_scan rm_MD_scan [.ref md, .int j, .int z]) 0 0 := by
  have hC0 := hC
  obtain ⟨lo, la, lc, hG, hL, hnn, hk, hv, hs, he⟩ := hC
  have hl := hR.lens
  rcases atI_cases (sK σ) j (by omega) with ⟨-, hj⟩ | ⟨i, q, rfl, hi, -, hil⟩
  · exact j_j (q_KF_scan_nk l E hG (hL.1 0 (by omega)) (by rw [hnn.1]; exact hj)) (p_pure hC0) (fun hM' => q_MD_scan_nk l E hM' (hR.ky_no hj)) hM (hR.thr hn)
  · obtain ⟨⟨ki, hki, hK⟩, hX⟩ := hk i q hi
    have h5 := hR.ky_in hil
    obtain ⟨w, hw⟩ := id hR
    have kx := hw.kx hi
    have hlen := ent_len kx.2.1
    have h300 := rs_le kx.2.1
    have hsc : ∀ (zz : Nat) (hzz : zz < 2 ^ 31) {G' : xw_G}, xMD E G' md a μ → XMk l E y_MD_scan w_MD_scan rm_MD_scan [.ref md, .int (nI i), .int (nI zz)] G' (fun r G2 => r = some (.long (((wR w i)[zz]?).elim 0 (fun q => mJ μ 9 q))) ∧ xMD E G2 md a (sS μ 0 0) ∧ xFc G' G2) 0 0 := fun zz hzz _ hM' => q_MD_scan l E hM' h5.2 h5.1 hzz (rs := wR w i) (fun m u hu => kx.lt u (List.mem_of_getElem? hu)) kx.first (fun m u hu => (kx.nx hu).1)
    rcases atI_cases q.2 z (by omega) with ⟨-, hz⟩ | ⟨m, e, rfl, hm, -, hml⟩
    · refine j_j (q_KF_scan_out l E hG (hL.1 0 (by omega)) hK (hL.1 (i + 2) (by omega)) hki (by rw [hX.1]; exact hz)) (p_pure hC0) (fun hM' => ?_) hM (hR.thr hn)
      by_cases h0 : z < 0
      · exact q_MD_scan_neg l E hM' h5.2 h5.1 h0
      · obtain ⟨zz, hzz, rfl⟩ := nI_of h0
        have hz2 : q.2.length ≤ zz := by
          rcases hz with hz | hz
          · exact absurd hz h0
          · exact (nI_leI (by omega) hzz).mp hz
        have h6 := hsc zz hzz hM'
        rw [show (wR w i)[zz]? = none from by rw [List.getElem?_eq_none_iff]; omega] at h6
        exact h6
    · obtain ⟨b, hb, hN⟩ := hX.2 m e hm
      obtain ⟨r, hr⟩ := e_lt (show m < (wR w i).length by omega)
      have hat := kx.at hr
      rw [hm] at hat
      cases hat
      obtain ⟨hD, -⟩ := hw.dat hi (List.mem_of_getElem? hr)
      obtain ⟨sw, -, hS⟩ := hs _ _ hD
      refine j_j (q_KF_scan_in l E hG (hL.1 0 (by omega)) hK (hL.1 (i + 2) (by omega)) hki hb hN hS) (p_pure hC0) (fun hM' => ?_) hM (hR.thr hn)
      have h6 := hsc m (by omega) hM'
      rw [hr] at h6
      exact h6
theorem rKE_nil {μ : MS} {k : Nat} {w : RW} {q : KD × List E3} (hw : wR w k = []) (hq : q.2 = []) (hz : ∀ r, r < 300 → mI μ 10 r = 0) : rKE μ k w q := by
  refine ⟨by rw [hw, hq]; rfl, fun r => ?_, by rw [hq]; exact List.Pairwise.nil, (fun r hr => by rw [hw] at hr; cases hr), (fun _ r hr => by rw [hw] at hr; cases hr)⟩
  rw [hw]
  refine ⟨fun h => (by cases h), fun ⟨h1, h2⟩ => ?_⟩
  have := mEn_live h2
  rw [hz r h1] at this
  exact absurd this (by decide)
theorem RF.nil {w : RW} (h : RF σ μ w) (ho : sO σ = false) {k : Nat} {q : KD × List E3} (hq : (sK σ)[k]? = some q) : wR w k = [] ∧ q.2 = [] := by
  have hz := h.2.2.2.2.2.2.2.2.2 ho
  have hk := (h.2.2.2.2.2.1 k q hq).2
  have h1 : wR w k = [] := by
    cases hw : wR w k with
    | nil => rfl
    | cons r rs =>
      obtain ⟨g1, g2⟩ := (hk.2.1 r).mp (by rw [hw]; exact List.mem_cons_self)
      have := mEn_live g2
      rw [hz r g1] at this
      exact absurd this (by decide)
  exact ⟨h1, by rw [hk.1, h1]; rfl⟩
theorem RV.up {σ' : CS} {μ' : MS} {w w' : RW} {j : Nat} {v : VD} (h : RV σ μ w j v) (hK : (sK σ).length ≤ (sK σ').length) (hP : ∀ k c r, wP w k c r → wP w' k c r) (hL : ∀ rl num, RL μ (sD σ) w rl num → RL μ' (sD σ') w' rl num) (s : SV μ μ' j) (hO : sO σ = true → sO σ' = true := by exact id) : RV σ' μ' w' j v := by
  obtain ⟨t1, t2, t3, t4, t5, t6, t7, t8, t9, t10, t11, t12⟩ := s
  obtain ⟨h1, h2, h3⟩ := h
  refine ⟨h1.trans t10.symm, h2.trans t8.symm, fun z => ?_⟩
  obtain ⟨g1, g2, ⟨k, k1, k2, k3, k4⟩, g4, g5, g6, g7, g8, g9⟩ := h3 z
  refine ⟨⟨g1.1.trans t1.symm, hO g1.2⟩, g2.trans t2.symm, ⟨k, by omega, k2, t3.trans k3, fun hz => ?_⟩, g4.trans t4.symm, g5, fun hz => (g6 hz).trans t11.symm, g7.trans t12.symm, fun hz => (g8 hz).trans t9.symm, by rw [t6]; exact hL _ _ g9⟩
  obtain ⟨c, r, p1, p2, p3, p4⟩ := k4 hz
  exact ⟨c, r, hP _ _ _ p1, p2, t5.trans p3, p4.trans t7.symm⟩
theorem j_sparse (hC : xCS E G x σ) (hM : xMD E G md a μ) (hR : Rel σ μ n) (hn : n < 600) (j : Int32) (z : Int64) : XMk l E y_KF_sparse w_KF_sparse rm_KF_sparse [.ref x, .int j, .long z] G (JRi l E x md a n y_MD_sparse w_MD_sparse rm_MD_sparse [.ref md, .int j, .long z]) 0 0 := by
  have hC0 := hC
  obtain ⟨lo, la, lc, hB⟩ := hC
  have hB : xCB E G x σ lo la lc := hB
  obtain ⟨hG, hL, hnn, hk, hv, hs, he⟩ := id hB
  have hl := hR.lens
  rcases atI_cases (sK σ) j (by omega) with ⟨-, hj⟩ | ⟨i, q, rfl, hi, -, hil⟩
  · exact j_i (q_KF_sparse_nk l E hB (by rw [hnn.1]; exact hj)) (p_pure hC0) (fun hM' => q_MD_sparse_nk l E hM' (hR.ky_no hj)) hM (hR.thr hn)
  · have h5 := hR.ky_in hil
    obtain ⟨w, hF, hV, hV2, hBd⟩ := id hR
    have hoo := hF.2.2.1
    by_cases hb : i = 0 ∨ sO σ = true
    · exact j_i (q_KF_sparse_no l E hB hi hb) (p_pure hC0) (fun hM' => q_MD_sparse_no l E hM' h5.2 h5.1 (by rw [← hoo]; exact hb)) hM (hR.thr hn)
    · have h0 : ¬ i = 0 := fun q => hb (Or.inl q)
      have ho : sO σ = false := by cases hz : sO σ with | false => rfl | true => exact absurd (Or.inr hz) hb
      refine j_i (q_KF_sparse_ok l E hB hi h0 ho) (fun r G' h => h) (fun hM' => q_MD_sparse_ok l E hM' h5.2 h5.1 h0 (hoo ▸ ho)) hM ⟨w, ?_, fun j v hj => (hV j v hj).up (by show _ ≤ ((sK σ).set _ _).length; rw [List.length_set]; exact Nat.le_refl _) (fun _ _ _ h => h) (fun _ _ h => h) ⟨rfl, rfl, rfl, rfl, rfl, rfl, rfl, rfl, rfl, rfl, rfl, rfl⟩, hV2, hBd.up hn⟩
      obtain ⟨g1, g2, g3, g4, g5, g6, g7, g8, g9, g10⟩ := id hF
      refine ⟨by show ((sK σ).set _ _).length ≤ 6 ∧ _ = nI ((sK σ).set _ _).length; rw [List.length_set]; exact g1, ⟨g2.1, g2.2.1, fun h => by show 0 < ((sK σ).set _ _).length; rw [List.length_set]; exact g2.2.2 h⟩, g3, g4, g5, fun k q' hq' => ?_, fun k h1 h2 => ?_, fun k h1 => ?_, g9, g10⟩
      · rcases set_at hq' with ⟨rfl, rfl⟩ | ⟨hne, hq'⟩
        · obtain ⟨k1, k2, k3, k4, k5, k6⟩ := (g6 k q hi).1
          exact ⟨⟨k1, k2, k3, va_up_self _ _ _, fun _ => pk_uLs, fun hz => absurd hz h0⟩, rKE_nil (hF.nil ho hi).1 (hF.nil ho hi).2 (g10 ho)⟩
        · obtain ⟨k1, k2, k3, k4, k5, k6⟩ := (g6 k q' hq').1
          exact ⟨⟨k1, k2, k3, (va_up_ne _ _ hne).trans k4, fun hz => (pk_uLn hne).trans (k5 hz), k6⟩, rKE_nil (hF.nil ho hq').1 (hF.nil ho hq').2 (g10 ho)⟩
      · have h1 : ((sK σ).set i _).length ≤ k := h1
        rw [List.length_set] at h1
        exact (va_up_ne _ _ (by omega)).trans (g7 k h1 h2)
      · have h1 : ((sK σ).set i _).length ≤ k := h1
        rw [List.length_set] at h1
        exact g8 k h1
theorem j_view (hC : xCS E G x σ) (hM : xMD E G md a μ) (hR : Rel σ μ n) (hn : n < 600) : XMk l E y_KF_view w_KF_view rm_KF_view [.ref x] G (JRi l E x md a n y_MD_view w_MD_view rm_MD_view [.ref md]) 2 378 := by
  have hC0 := hC
  obtain ⟨lo, la, lc, hB⟩ := hC
  have hB : xCB E G x σ lo la lc := hB
  have hl := hR.lens
  obtain ⟨w, hF, hV, hV2, hBd⟩ := id hR
  obtain ⟨g1, g2, g3, g4, g5, g6, g7, g8, g9, g10⟩ := id hF
  have e5 : mS μ 7 = 5 ↔ (sV σ).length = 5 := by rw [g2.2.1]; exact nI_eq (b := 5) (by omega) (by omega)
  have e0 : mS μ 6 = 0 ↔ (sK σ).length = 0 := by rw [g1.2]; exact nI_eq (b := 0) (by omega) (by omega)
  by_cases hb : 5 ≤ (sV σ).length ∨ (sK σ).length = 0
  · exact j_i (q_KF_view_no l E hB hb) (p_pure hC0) (fun hM' => q_MD_view_no l E hM' (by rw [e5, e0]; omega)) hM (hR.thr hn)
  · refine j_i (q_KF_view_ok l E hB (by omega) (by omega)) (fun r G' h => h) (fun hM' => q_MD_view_ok l E hM' g2.2.1 (by rw [e5, e0]; omega)) hM ⟨w, ⟨g1, ⟨?_, ?_, ?_⟩, g3, g4, g5, g6, g7, g8, g9, g10⟩, fun j v hj => ?_, fun j hj h5 => ?_, hBd.up hn⟩
    · show (sV σ ++ [v00]).length ≤ 5
      simp
      omega
    · show _ = nI (sV σ ++ [v00]).length
      rw [List.length_append]
      rfl
    · intro _
      show 0 < (sK σ).length
      omega
    · have hj : (sV σ ++ [v00])[j]? = some v := hj
      rw [List.getElem?_append] at hj
      split at hj
      · exact (hV j v hj).same rfl ⟨rfl, rfl, rfl, rfl, rfl, rfl, rfl, rfl, rfl, rfl, rfl, rfl⟩
      · next hlt =>
        have hjl : j - (sV σ).length = 0 := by
          rcases Nat.eq_zero_or_pos (j - (sV σ).length) with h | h
          · exact h
          · rw [List.getElem?_eq_none_iff.mpr (by simp; omega)] at hj
            cases hj
        rw [hjl] at hj
        cases hj
        have hjj : j = (sV σ).length := by omega
        subst hjj
        obtain ⟨k1, k2⟩ := hV2 (sV σ).length (Nat.le_refl _) (by omega)
        exact ⟨k1.symm, k2.symm, fun z => by cases z⟩
    · have hj : (sV σ ++ [v00]).length ≤ j := hj
      rw [List.length_append] at hj
      exact hV2 j (by omega) h5
theorem j_key (hC : xCS E G x σ) (hM : xMD E G md a μ) (hR : Rel σ μ n) (hn : n < 600) (pr db : Bool) (fr sz : Int32) : XMk l E y_KF_key w_KF_key rm_KF_key [.ref x, .int (bI pr), .int (bI db), .int fr, .int sz] G (JRi l E x md a n y_MD_key w_MD_key rm_MD_key [.ref md, .int (bI pr), .int (bI db), .int fr, .int sz]) 3 375 := by
  have hC0 := hC
  obtain ⟨lo, la, lc, hB⟩ := hC
  have hB : xCB E G x σ lo la lc := hB
  have hl := hR.lens
  obtain ⟨w, hF, hV, hV2, hBd⟩ := id hR
  obtain ⟨g1, g2, g3, g4, g5, g6, g7, g8, g9, g10⟩ := id hF
  have e6 : mS μ 6 = 6 ↔ 6 ≤ (sK σ).length := by
    rw [g1.2, show (6 : Int32) = nI 6 from rfl, nI_eq (b := 6) (by omega) (by omega)]
    omega
  have e0 : mS μ 6 = 0 ↔ (sK σ).length = 0 := by rw [g1.2]; exact nI_eq (b := 0) (by omega) (by omega)
  have e0' : decide (mS μ 6 = 0) = decide ((sK σ).length = 0) := by rw [decide_eq_decide]; exact e0
  by_cases hb : sO σ = true ∨ 6 ≤ (sK σ).length ∨ pr ≠ decide ((sK σ).length = 0) ∨ (pr = true ∧ db = true) ∨ sz < 1 ∨ 8 < sz ∨ fr < 0 ∨ 8 - sz < fr
  · exact j_i (q_KF_key_no l E hB hb) (p_pure hC0) (fun hM' => q_MD_key_no l E hM' (by rw [e6, e0', ← g3]; exact hb)) hM (hR.thr hn)
  · have ho : sO σ = false := by cases hz : sO σ with | false => rfl | true => exact absurd (Or.inl hz) hb
    refine j_i (q_KF_key_ok l E hB hb) (fun r G' h => h) (fun hM' => q_MD_key_ok l E hM' g1.2 (by omega) (by rw [e6, e0', ← g3]; exact hb)) hM ⟨w, ⟨⟨?_, ?_⟩, ⟨g2.1, g2.2.1, fun h => ?_⟩, g3, g4, g5, fun k q' hq' => ?_, fun k h1 h2 => ?_, fun k h1 => ?_, g9, g10⟩, fun j v hj => ?_, hV2, hBd.up hn⟩
    · show (sK σ ++ [_]).length ≤ 6
      simp
      omega
    · show _ = nI (sK σ ++ [_]).length
      rw [List.length_append]
      rfl
    · show 0 < (sK σ ++ [_]).length
      simp
    · have hq' : (sK σ ++ [((db, fr, sz, false, 0), [])])[k]? = some q' := hq'
      rw [List.getElem?_append] at hq'
      split at hq'
      · next hlt =>
        obtain ⟨k1, k2, k3, k4, k5, k6⟩ := (g6 k q' hq').1
        have hne : k ≠ (sK σ).length := by omega
        exact ⟨⟨(pk_un hne).trans k1, (pk_un hne).trans k2, (va_up_ne _ _ hne).trans k3, k4, k5, k6⟩, rKE_nil (hF.nil ho hq').1 (hF.nil ho hq').2 (g10 ho)⟩
      · next hlt =>
        have hjl : k - (sK σ).length = 0 := by
          rcases Nat.eq_zero_or_pos (k - (sK σ).length) with h | h
          · exact h
          · rw [List.getElem?_eq_none_iff.mpr (by simp; omega)] at hq'
            cases hq'
        rw [hjl] at hq'
        cases hq'
        have hjj : k = (sK σ).length := by omega
        subst hjj
        refine ⟨⟨pk_us, pk_us, va_up_self _ _ _, g7 _ (Nat.le_refl _) (by omega), (fun h => by cases h), fun h0 => ⟨?_, rfl⟩⟩, rKE_nil (g8 _ (Nat.le_refl _)) rfl (g10 ho)⟩
        show db = false
        cases hd : db with
        | false => rfl
        | true =>
          exfalso
          apply hb
          cases hp : pr with
          | true => exact Or.inr (Or.inr (Or.inr (Or.inl ⟨rfl, hd⟩)))
          | false => exact Or.inr (Or.inr (Or.inl (by rw [h0]; decide)))
    · have h1 : (sK σ ++ [_]).length ≤ k := h1
      rw [List.length_append] at h1
      exact g7 k (by omega) h2
    · have h1 : (sK σ ++ [_]).length ≤ k := h1
      rw [List.length_append] at h1
      exact g8 k (by omega)
    · exact (hV j v hj).up (by show _ ≤ (sK σ ++ [_]).length; rw [List.length_append]; omega) (fun _ _ _ h => h) (fun _ _ h => h) ⟨rfl, rfl, rfl, rfl, rfl, rfl, rfl, rfl, rfl, rfl, rfl, rfl⟩
end J2
