/-! JOINT CONTRACTS: remove, whole -/
theorem mI_t_neg {a b : Int32} (h : ¬ a = b) : b ≠ a := fun y => h y.symm
section J7
variable {l : Launch} {E : xE} {x md : Nat} {a : Nat → Nat} {n : Nat} {G : xw_G} {σ : CS} {μ : MS}
/-- the reference's state behind a remove, the witness behind it -/
abbrev rmW (w : RW) (u : Nat) : RW := (wP w, wC w, wL w, fun k => (wR w k).filter (fun r => decide (¬ r = u)), wN w, wM w)
abbrev rmM (μ : MS) (i u : Nat) : MS := sS (sI (mFg (sS μ 0 0) i) 10 u 0) 12 (mS μ 12 - 1)
theorem rm_mEn {i u k r : Nat} : mEn (rmM μ i u) k r = (decide (¬ r = u) && mEn μ k r) := by
  show (decide (0 < upd (mI μ 10) u 0 r) && mHs μ k (mJ μ 9 r)) = (decide (¬ r = u) && (decide (0 < mI μ 10 r) && mHs μ k (mJ μ 9 r)))
  by_cases h : r = u
  · subst h
    rw [pk_us]
    simp
  · rw [pk_un h]
    simp [h]
theorem RelW.rm {w : RW} (hw : RelW σ μ n w) (hn : n < 600) {i : Nat} {v : VD} (hi : (sV σ)[i]? = some v) {q0 : KD × List E3} (hq0 : (sK σ)[0]? = some q0) {u : Nat} (hu : u ∈ wR w 0) :
    RelW ((sK σ).mapIdx (fun _ q => (q.1, delS q.2 (wL w u))), (sV σ).set i (vForget v), va_up (sD σ) (wL w u) (some (mJ μ 9 u, false)), sO σ, sA σ, sW σ) (rmM μ i u) (n + 1) (rmW w u) := by
  obtain ⟨hD, hu3, nn, n1, n2, n3⟩ := hw.dat hq0 hu
  have hulive : 0 < mI μ 10 u := mEn_live (((hw.kx hq0).2.1.2.1 u).mp hu).2
  obtain ⟨hF, hVs, hV2, hb1, hb2, hb3, hb4, hb5⟩ := id hw
  obtain ⟨g1, g2, g3, g4, g5, g6, g7, g8, g9, g10⟩ := id hF
  have hil := (List.getElem?_eq_some_iff.mp hi).1
  have hkl := (List.getElem?_eq_some_iff.mp hq0).1
  have hlen0 : ((wR w 0).filter (fun r => decide (¬ r = u))).length = (wR w 0).length - 1 := by
    have h1 := (rs_nd (hw.kx hq0).2.1).erase_eq_filter u
    have h2 := List.length_erase_of_mem hu
    rw [h1] at h2
    rw [← h2]
    congr 1
    apply List.filter_congr
    intro r _
    by_cases h : r = u <;> simp [h]
  have hpos : 0 < (wR w 0).length := List.length_pos_of_mem hu
  have hRL : ∀ rl num, RL μ (sD σ) w rl num → RL (rmM μ i u) (va_up (sD σ) (wL w u) (some (mJ μ 9 u, false))) (rmW w u) rl num := by
    intro rl num h
    rcases h with h | ⟨s0, m, b, th, r1, r2, r3, r4, r5, r6, r7⟩
    · exact Or.inl h
    · right
      have hne0 : ∀ r, mI (rmM μ i u) 10 r = if r = u then 0 else mI μ 10 r := fun r => by
        show upd (mI μ 10) u 0 r = _
        by_cases h : r = u
        · subst h; rw [pk_us, if_pos rfl]
        · rw [pk_un h, if_neg h]
      have hz0 : ¬ (0 : Int32) = nI m := fun y => absurd y.symm (nI_ne0 r3 (by omega))
      by_cases hs : s0 = wL w u
      · subst hs
        rw [hD] at r5
        cases r5
        obtain ⟨r, p1, p2, p3⟩ := r6 rfl
        have hr : r = u := rS_inj hw p1 hu3 (by rw [p2]; exact nI_lv r3 (by omega)) hulive (Or.inl p3)
        subst hr
        refine ⟨wL w r, m, mJ μ 9 r, false, r1, r2, r3, r4, va_up_self _ _ _, (fun y => by cases y), fun _ r' hr' => ?_⟩
        rw [hne0 r']
        by_cases h : r' = r
        · rw [if_pos h]; exact hz0
        · rw [if_neg h]
          intro y
          exact h (rS_inj hw hr' p1 (by rw [y]; exact nI_lv r3 (by omega)) hulive (Or.inr (y.trans p2.symm)))
      · refine ⟨s0, m, b, th, r1, r2, r3, r4, by rw [va_up_ne _ _ hs]; exact r5, fun y => ?_, fun y r' hr' => ?_⟩
        · obtain ⟨r, p1, p2, p3⟩ := r6 y
          refine ⟨r, p1, ?_, p3⟩
          rw [hne0 r, if_neg (fun y => hs (by rw [← p3, y]))]
          exact p2
        · rw [hne0 r']
          by_cases h : r' = u
          · rw [if_pos h]; exact hz0
          · rw [if_neg h]; exact r7 y r' hr'
  refine ⟨⟨⟨?_, ?_⟩, ⟨?_, ?_, ?_⟩, g3, ⟨g4.1, g4.2.1, ?_⟩, g5, fun k q' hq' => ?_, fun k h1 h2 => ?_, fun k h1 => ?_, ⟨fun r hr => ?_, fun r1 r2 h1 h2 h3 h4 h5 => ?_⟩, fun h r hr => ?_⟩, fun j v' hj => ?_, fun j hj h5 => ?_, ⟨by show sA σ ≤ _; omega, by show wN w ≤ _; omega, by show wM w ≤ _; omega, by show sW σ ≤ _; omega, by omega⟩⟩
  · show ((sK σ).mapIdx _).length ≤ 6
    rw [List.length_mapIdx]
    exact g1.1
  · show mS μ 6 = nI ((sK σ).mapIdx _).length
    rw [List.length_mapIdx]
    exact g1.2
  · show ((sV σ).set _ _).length ≤ 5
    rw [List.length_set]
    exact g2.1
  · show mS μ 7 = nI ((sV σ).set _ _).length
    rw [List.length_set]
    exact g2.2.1
  · intro _
    show 0 < ((sK σ).mapIdx _).length
    rw [List.length_mapIdx]
    omega
  · show mS μ 12 - 1 = nI ((wR w 0).filter (fun r => decide (¬ r = u))).length
    rw [hlen0, g4.2.2]
    obtain ⟨L, hL⟩ : ∃ L, (wR w 0).length = L + 1 := ⟨(wR w 0).length - 1, by omega⟩
    rw [hL]
    exact nI_pred L
  · have hq' : ((sK σ).mapIdx (fun _ q => (q.1, delS q.2 (wL w u))))[k]? = some q' := hq'
    rw [List.getElem?_mapIdx] at hq'
    cases hq : (sK σ)[k]? with
    | none => rw [hq] at hq'; cases hq'
    | some q =>
      rw [hq] at hq'
      cases hq'
      have kx := hw.kx hq
      obtain ⟨k1, k2, k3, k4, k5⟩ := kx.2.1
      have hinj : ∀ r ∈ wR w k, (wL w r = wL w u ↔ r = u) := fun r hr => ⟨fun he => rS_inj hw (kx.lt r hr) hu3 (mEn_live ((k2 r).mp hr).2) hulive (Or.inl he), fun he => by rw [he]⟩
      refine ⟨kx.1, ?_, fun r => ?_, srt_del k3, fun r hr => k4 r (List.mem_filter.mp hr).1, fun hd r1 hr1 r2 hr2 he => k5 hd r1 (List.mem_filter.mp hr1).1 r2 (List.mem_filter.mp hr2).1 he⟩
      · show delS q.2 (wL w u) = ((wR w k).filter (fun r => decide (¬ r = u))).map (ent μ k (wC w k) (wL w))
        unfold delS
        rw [k1, List.filter_map]
        congr 1
        apply List.filter_congr
        intro r hr
        show decide (¬ wL w r = wL w u) = decide (¬ r = u)
        rw [decide_eq_decide, hinj r hr]
      · show r ∈ (wR w k).filter (fun r => decide (¬ r = u)) ↔ _
        rw [List.mem_filter, k2 r, rm_mEn, Bool.and_eq_true]
        constructor
        · rintro ⟨⟨p1, p2⟩, p3⟩; exact ⟨p1, p3, p2⟩
        · rintro ⟨p1, p3, p2⟩; exact ⟨⟨p1, p2⟩, p3⟩
  · have h1 : ((sK σ).mapIdx (fun _ q => (q.1, delS q.2 (wL w u)))).length ≤ k := h1
    rw [List.length_mapIdx] at h1
    exact g7 k h1 h2
  · have h1 : ((sK σ).mapIdx (fun _ q => (q.1, delS q.2 (wL w u)))).length ≤ k := h1
    rw [List.length_mapIdx] at h1
    show (wR w k).filter _ = []
    rw [g8 k h1]
    rfl
  · show upd (mI μ 10) u 0 r = 0 ∨ ∃ nn, 0 < nn ∧ nn ≤ wM w ∧ upd (mI μ 10) u 0 r = nI nn ∧ va_up (sD σ) (wL w u) (some (mJ μ 9 u, false)) (wL w r) = some (mJ μ 9 r, true)
    by_cases h : r = u
    · left; rw [h, pk_us]
    · rw [pk_un h]
      rcases g9.1 r hr with p | ⟨m, p1, p2, p3, p4⟩
      · exact Or.inl p
      · refine Or.inr ⟨m, p1, p2, p3, ?_⟩
        rw [va_up_ne _ _ (fun y => h (rS_inj hw hr hu3 (by rw [p3]; exact nI_lv p1 (by omega)) hulive (Or.inl y)))]
        exact p4
  · have h3 : 0 < upd (mI μ 10) u 0 r1 := h3
    have h4 : 0 < upd (mI μ 10) u 0 r2 := h4
    have e1 : r1 ≠ u := fun y => by rw [y, pk_us] at h3; exact absurd h3 (by decide)
    have e2 : r2 ≠ u := fun y => by rw [y, pk_us] at h4; exact absurd h4 (by decide)
    have h5 : wL w r1 = wL w r2 ∨ upd (mI μ 10) u 0 r1 = upd (mI μ 10) u 0 r2 := h5
    rw [pk_un e1] at h3 h5
    rw [pk_un e2] at h4 h5
    exact g9.2 r1 r2 h1 h2 h3 h4 h5
  · have := g10 h u hu3
    rw [this] at hulive
    exact absurd hulive (by decide)
  · have hj : ((sV σ).set i (vForget v))[j]? = some v' := hj
    have hKl : (sK σ).length ≤ ((sK σ).mapIdx (fun _ q => (q.1, delS q.2 (wL w u)))).length := by rw [List.length_mapIdx]; exact Nat.le_refl _
    rcases set_at hj with ⟨rfl, rfl⟩ | ⟨hne, hj⟩
    · obtain ⟨p1, p2, p3⟩ := hVs j v hi
      refine ⟨p1, pk_uLs.symm, fun z => ?_⟩
      obtain ⟨o1, o2, ⟨k, o3, o4, o5, o6⟩, o7, o8, o9, o10, o11, o12⟩ := p3 z
      exact ⟨o1, o2, ⟨k, Nat.lt_of_lt_of_le o3 hKl, o4, o5, o6⟩, o7, o8, o9, o10, o11, Or.inl ⟨rfl, pk_us⟩⟩
    · exact (hVs j v' hj).up hKl (fun _ _ _ h => h) hRL ⟨rfl, rfl, rfl, rfl, rfl, pk_un hne, rfl, pk_uLn hne, rfl, rfl, rfl, rfl⟩
  · have hj : ((sV σ).set i (vForget v)).length ≤ j := hj
    rw [List.length_set] at hj
    obtain ⟨p1, p2⟩ := hV2 j hj h5
    exact ⟨p1, (pk_uLn (by omega)).trans p2⟩
theorem j_remove (hC : xCS E G x σ) (hM : xMD E G md a μ) (hR : Rel σ μ n) (hn : n < 600) (j : Int32) (z : Int64) : XMk l E y_KF_remove w_KF_remove rm_KF_remove [.ref x, .int j, .long z] G (JRi l E x md a n y_MD_remove w_MD_remove rm_MD_remove [.ref md, .int j, .long z]) 0 0 := by
  have hC0 := hC
  obtain ⟨lo, la, lc, hB⟩ := hC
  have hB : xCB E G x σ lo la lc := hB
  obtain ⟨hG, hL, hnn, hk, hv, hs, he⟩ := id hB
  have hl := hR.lens
  rcases atI_cases (sV σ) j (by omega) with ⟨-, hj⟩ | ⟨i, v, rfl, hi, -, hil⟩
  · exact j_i (q_KF_remove_nv l E hB (by rw [hnn.2.2.1]; exact hj)) (p_pure hC0) (fun hM' => q_MD_remove_nv l E hM' (hR.vw_no hj)) hM (hR.thr hn)
  · obtain ⟨va, ha, hV⟩ := hv i v hi
    have h5 := hR.vw_in hil
    have hrf := hR.refC hi
    by_cases hr : refChange v.1 (vMo v) = 0
    · have ho := refC_op hr
      have hrm : refChange (mZ μ 24 i) (mI μ 15 i) = 0 := hrf ▸ hr
      obtain ⟨w, hw⟩ := id hR
      obtain ⟨q0, hq0⟩ := e_lt (hw.1.2.1.2.2 (by omega))
      obtain ⟨hrtc, hmem⟩ := hw.rtc (l := l) hB hi hV ho z hq0
      have hac : vAc v = mI μ 16 i := ((hR.rv hi).2.2 ho).2.1
      cases ht : mTg μ i z with
      | none =>
        rw [ht] at hrtc
        refine j_i (v := if v.2.2.1 = 0 then 43 else 23) (q_KF_remove_none l E hB ha hV hr hrtc) (fun r G' h => h) (fun hM' => ?_) hM ⟨w, hw.fg hn hi⟩
        rw [show v.2.2.1 = mI μ 16 i from hac]
        exact q_MD_remove_none l E hM' h5.2 h5.1 hrm ht
      | some u =>
        rw [ht] at hrtc
        have hu := hmem u ht
        exact j_i (q_KF_remove_ok l E hB ha hV hr hrtc (hw.dat hq0 hu).1 (fun k q hq => (hw.dOK hq0 hu hq).1)) (fun r G' h => h) (fun hM' => q_MD_remove_ok l E hM' h5.2 h5.1 hrm ht) hM ⟨_, hw.rm hn hi hq0 hu⟩
    · exact j_i (q_KF_remove_ref l E hB ha hV hr) (p_pure hC0) (fun hM' => by rw [show v.2.1 = vMo v from rfl, hrf]; exact q_MD_remove_ref l E hM' h5.2 h5.1 (hrf ▸ hr)) hM (hR.thr hn)
theorem due_len {kd : KD} {D : Nat → Option (Int64 × Bool)} {es : List E3} : ∀ t : Nat, t ≤ es.length → dueN kd D es t = ((es.take t).filter (fun e => !lft kd (fK kd (bD D e.2.2)))).length
  | 0, _ => rfl
  | t + 1, h => by
    obtain ⟨e, he⟩ := e_lt (show t < es.length by omega)
    rw [dueN_s he, due_len t (by omega), List.take_succ, he, List.filter_append, List.length_append]
    congr 1
    cases hz : lft kd (fK kd (bD D e.2.2)) with
    | true => simp [hz]
    | false => simp [hz]
theorem j_whole (hC : xCS E G x σ) (hM : xMD E G md a μ) (hR : Rel σ μ n) (hn : n < 600) : XMk l E y_KF_whole w_KF_whole rm_KF_whole [.ref x] G (JRi l E x md a n y_MD_whole w_MD_whole rm_MD_whole [.ref md]) 0 0 := by
  obtain ⟨w, hw⟩ := id hR
  have hl := hR.lens
  obtain ⟨q0, hq0⟩ : ∃ q0 : KD × List E3, (0 < (sK σ).length → (sK σ)[0]? = some q0) ∧ (¬ 0 < (sK σ).length → q0.2 = []) := by
    by_cases h : 0 < (sK σ).length
    · obtain ⟨q, hq⟩ := e_lt h
      exact ⟨q, fun _ => hq, fun h' => absurd h h'⟩
    · exact ⟨((false, 0, 0, false, 0), []), fun h' => absurd h' h, fun _ => rfl⟩
  have hD0 : ∀ e ∈ q0.2, ∃ d, sD σ e.2.2 = some d := by
    intro e he
    by_cases h : 0 < (sK σ).length
    · have kx := hw.kx (hq0.1 h)
      rw [kx.2.1.1] at he
      obtain ⟨r, hr, rfl⟩ := List.mem_map.mp he
      exact ⟨_, (hw.dat (hq0.1 h) hr).1⟩
    · rw [hq0.2 h] at he
      cases he
  have hb := hw.2.2.2
  obtain ⟨hb1, hb2, hb3, hb4, hb5⟩ := hb
  refine j_i (q_KF_whole l E hC hq0.1 hD0 (by omega) (fun k q hq => ?_)) (fun r G' h => h) (fun hM' => q_MD_whole l E hM') hM ⟨w, ?_⟩
  · have kx := hw.kx hq
    have hkl := (List.getElem?_eq_some_iff.mp hq).1
    have kx0 := hw.kx (hq0.1 (by omega))
    obtain ⟨k1, k2, k3, k4, k5⟩ := id kx.2.1
    have hnd := rs_nd kx.2.1
    have hat : ∀ (i : Nat) (e : E3), q.2[i]? = some e → ∃ r, (wR w k)[i]? = some r ∧ e = ent μ k (wC w k) (wL w) r := by
      intro i e he
      rw [ent_at kx.2.1] at he
      cases hr : (wR w k)[i]? with
      | none => rw [hr] at he; cases he
      | some r => rw [hr] at he; cases he; exact ⟨r, rfl, rfl⟩
    refine ⟨⟨k3, fun e he => ?_, fun hd i j e1 e2 hij h1 h2 he => ?_, fun i j e1 e2 h1 h2 he => ?_⟩, ?_⟩
    · rw [k1] at he
      obtain ⟨r, hr, rfl⟩ := List.mem_map.mp he
      refine ⟨mJ μ 9 r, (hw.dat hq hr).1, mF_fK kx.1 _, ?_⟩
      show lft q.1 (mF μ k (mJ μ 9 r)) = false
      have h1 := ((k2 r).mp hr).2
      unfold mEn at h1
      rw [Bool.and_eq_true, mHs_lft kx.1, ← mF_fK kx.1] at h1
      have h2 := h1.2
      cases hz : lft q.1 (mF μ k (mJ μ 9 r)) with
      | false => rfl
      | true => rw [hz] at h2; cases h2
    · obtain ⟨r1, g1, rfl⟩ := hat i e1 h1
      obtain ⟨r2, g2, rfl⟩ := hat j e2 h2
      have := k5 hd r1 (List.mem_of_getElem? g1) r2 (List.mem_of_getElem? g2) he
      subst this
      have := nodup_at hnd g1 g2
      omega
    · obtain ⟨r1, g1, rfl⟩ := hat i e1 h1
      obtain ⟨r2, g2, rfl⟩ := hat j e2 h2
      have := rS_inj hw (kx.lt r1 (List.mem_of_getElem? g1)) (kx.lt r2 (List.mem_of_getElem? g2)) (mEn_live ((k2 r1).mp (List.mem_of_getElem? g1)).2) (mEn_live ((k2 r2).mp (List.mem_of_getElem? g2)).2) (Or.inl he)
      subst this
      exact nodup_at hnd g1 g2
    · rw [due_len _ (Nat.le_refl _), List.take_length, kx0.2.1.1, List.filter_map, List.length_map, ent_len kx.2.1, rs_ct kx.2.1]
      have hfc : (wR w 0).filter ((fun e => !lft q.1 (fK q.1 (bD (sD σ) e.2.2))) ∘ ent μ 0 (wC w 0) (wL w)) = (wR w 0).filter (fun r => mHs μ k (mJ μ 9 r)) := by
        apply List.filter_congr
        intro r hr
        show (!lft q.1 (fK q.1 (bD (sD σ) (wL w r)))) = _
        rw [bD_at (hw.dat (hq0.1 (by omega)) hr).1, mHs_lft kx.1]
      rw [hfc]
      refine (ct_len ((rs_nd kx0.2.1).filter _) (fun r => ?_)).symm
      rw [List.mem_filter, kx0.2.1.2.1 r, mEn_0]
      unfold mEn
      rw [Bool.and_eq_true]
      constructor
      · rintro ⟨⟨p1, p2⟩, p3⟩; exact ⟨by omega, p2, p3⟩
      · rintro ⟨p1, p2, p3⟩; exact ⟨⟨by omega, p2⟩, p3⟩
  · obtain ⟨h1, h2, h3, -⟩ := hw.same (μ' := sS μ 0 0) hn ⟨rfl, rfl, rfl, rfl, rfl, rfl, rfl, rfl, rfl, rfl, rfl, rfl, rfl, rfl⟩ (fun _ => ⟨rfl, rfl, rfl, rfl, rfl, rfl, rfl, rfl, rfl, rfl, rfl, rfl⟩)
    exact ⟨h1, h2, h3, by show sA σ ≤ _; omega, by omega, by omega, by show sW σ + (sK σ).length ≤ _; omega, by omega⟩
end J7
