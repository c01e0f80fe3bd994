/-! JOINT CONTRACTS: open, read -/
theorem Rel.refR {σ : CS} {μ : MS} {n : Nat} (h : Rel σ μ n) {i : Nat} {v : VD} (hi : (sV σ)[i]? = some v) (b : Int32) : refRead v.1 (vMo v) (vAc v) b = refRead (mZ μ 24 i) (mI μ 15 i) (mI μ 16 i) b := by
  have hrv := h.rv hi
  rw [← hrv.1]
  cases hz : v.1 with
  | false => rfl
  | true => rw [(hrv.2.2 hz).1, (hrv.2.2 hz).2.1]
theorem Rel.refW {σ : CS} {μ : MS} {n : Nat} (h : Rel σ μ n) {i : Nat} {v : VD} (hi : (sV σ)[i]? = some v) : refWrite v.1 (vMo v) (vAc v) = refWrite (mZ μ 24 i) (mI μ 15 i) (mI μ 16 i) := by
  have hrv := h.rv hi
  rw [← hrv.1]
  cases hz : v.1 with
  | false => rfl
  | true => rw [(hrv.2.2 hz).1, (hrv.2.2 hz).2.1]
theorem Rel.refC {σ : CS} {μ : MS} {n : Nat} (h : Rel σ μ n) {i : Nat} {v : VD} (hi : (sV σ)[i]? = some v) : refChange v.1 (vMo v) = refChange (mZ μ 24 i) (mI μ 15 i) := by
  have hrv := h.rv hi
  rw [← hrv.1]
  cases hz : v.1 with
  | false => rfl
  | true => rw [(hrv.2.2 hz).1]
theorem refR_op {op : Bool} {mo ac b : Int32} (h : refRead op mo ac b = 0) : op = true := by
  cases op with
  | true => rfl
  | false => exact absurd h (by unfold refRead; rw [if_pos rfl]; decide)
theorem refW_op {op : Bool} {mo ac : Int32} (h : refWrite op mo ac = 0) : op = true := by
  cases op with
  | true => rfl
  | false => exact absurd h (by unfold refWrite; rw [if_pos rfl]; decide)
theorem refC_op {op : Bool} {mo : Int32} (h : refChange op mo = 0) : op = true := by
  cases op with
  | true => rfl
  | false => exact absurd h (by unfold refChange; rw [if_pos rfl]; decide)
theorem mC1_o : ∀ {n t : Nat} {μ : MS}, mS (mC1 n t μ) = mS μ ∧ mO (mC1 n t μ) = mO μ ∧ (∀ k, k ≠ 10 → mI (mC1 n t μ) k = mI μ k) ∧ mZ (mC1 n t μ) = mZ μ ∧ mJ (mC1 n t μ) = mJ μ ∧ ∀ r, mI (mC1 n t μ) 10 r = if t ≤ r ∧ r < t + n then 0 else mI μ 10 r
  | 0, t, μ => ⟨rfl, rfl, fun _ _ => rfl, rfl, rfl, fun r => by rw [if_neg (by omega)]; rfl⟩
  | n + 1, t, μ => by
    obtain ⟨h1, h2, h3, h4, h5, h6⟩ := mC1_o (n := n) (t := t + 1) (μ := sI μ 10 t 0)
    refine ⟨h1, h2, fun k hk => (h3 k hk).trans (va_up_ne _ _ hk), h4, h5, fun r => (h6 r).trans ?_⟩
    show (if t + 1 ≤ r ∧ r < t + 1 + n then 0 else va_up (mI μ) 10 (upd (mI μ 10) t 0) 10 r) = _
    rw [va_up_self]
    by_cases hr : r = t
    · subst hr
      rw [if_neg (by omega), if_pos (by omega), pk_us]
    · rw [pk_un hr]
      by_cases h7 : t ≤ r ∧ r < t + (n + 1)
      · rw [if_pos h7, if_pos (by omega)]
      · rw [if_neg h7, if_neg (by omega)]
theorem mC2_o : ∀ {n t : Nat} {μ : MS}, mS (mC2 n t μ) = mS μ ∧ mO (mC2 n t μ) = mO μ ∧ (∀ k, k ≠ 18 → k ≠ 20 → mI (mC2 n t μ) k = mI μ k) ∧ mZ (mC2 n t μ) = mZ μ ∧ (∀ k, k ≠ 22 → mJ (mC2 n t μ) k = mJ μ k) ∧ ∀ r, t ≤ r → r < t + n → mI (mC2 n t μ) 18 r = 3 ∧ mI (mC2 n t μ) 20 r = 0 ∧ mJ (mC2 n t μ) 22 r = 0
  | 0, t, μ => ⟨rfl, rfl, fun _ _ _ => rfl, rfl, fun _ _ => rfl, fun r h1 h2 => by omega⟩
  | n + 1, t, μ => by
    obtain ⟨h1, h2, h3, h4, h5, h6⟩ := mC2_o (n := n) (t := t + 1) (μ := sJ (sI (sI μ 18 t 3) 20 t 0) 22 t 0)
    refine ⟨h1, h2, fun k hk hk2 => (h3 k hk hk2).trans ?_, h4, fun k hk => (h5 k hk).trans (va_up_ne _ _ hk), fun r hr1 hr2 => ?_⟩
    · show va_up (va_up (mI μ) 18 _) 20 _ k = _
      rw [va_up_ne _ _ hk2, va_up_ne _ _ hk]
    · by_cases hr : r = t
      · subst hr
        have hk : ∀ {m s : Nat} {ν : MS}, r < s → mI (mC2 m s ν) 18 r = mI ν 18 r ∧ mI (mC2 m s ν) 20 r = mI ν 20 r ∧ mJ (mC2 m s ν) 22 r = mJ ν 22 r := by
          intro m
          induction m with
          | zero => intro s ν _; exact ⟨rfl, rfl, rfl⟩
          | succ m ih =>
            intro s ν hs
            obtain ⟨a1, a2, a3⟩ := ih (s := s + 1) (ν := sJ (sI (sI ν 18 s 3) 20 s 0) 22 s 0) (by omega)
            have hne : r ≠ s := by omega
            exact ⟨a1.trans (pk_un hne), a2.trans (pk_un hne), a3.trans (pk_uLn hne)⟩
        obtain ⟨a1, a2, a3⟩ := hk (m := n) (s := r + 1) (ν := sJ (sI (sI μ 18 r 3) 20 r 0) 22 r 0) (by omega)
        exact ⟨a1.trans pk_us, a2.trans pk_us, a3.trans pk_uLs⟩
      · exact h6 r (by omega) (by omega)
theorem clr_o {μ ν : MS} (hν : ν = mC2 5 0 (mC1 300 0 (sS (sS μ 0 0) 12 0))) : (∀ k, mS ν k = mS (sS (sS μ 0 0) 12 0) k) ∧ (∀ r, r < 300 → mI ν 10 r = 0) ∧ (∀ k, k ≠ 10 → k ≠ 18 → k ≠ 20 → mI ν k = mI μ k) ∧ mZ ν = mZ μ ∧ (∀ k, k ≠ 22 → mJ ν k = mJ μ k) ∧ ∀ r, r < 5 → mI ν 18 r = 3 ∧ mI ν 20 r = 0 ∧ mJ ν 22 r = 0 := by
  obtain ⟨c1, c2, c3, c4, c5, c6⟩ := mC1_o (n := 300) (t := 0) (μ := sS (sS μ 0 0) 12 0)
  generalize mC1 300 0 (sS (sS μ 0 0) 12 0) = ν1 at *
  obtain ⟨d1, d2, d3, d4, d5, d6⟩ := mC2_o (n := 5) (t := 0) (μ := ν1)
  rw [← hν] at d1 d2 d3 d4 d5 d6
  exact ⟨fun k => (congrFun d1 k).trans (congrFun c1 k), fun r hr => (congrFun (d3 10 (by decide) (by decide)) r).trans ((c6 r).trans (if_pos (by omega))), fun k h1 h2 h3 => (d3 k h2 h3).trans (c3 k h1), d4.trans c4, fun k h => (d5 k h).trans (congrFun c5 k), fun r hr => d6 r (by omega) (by omega)⟩
section J3
variable {l : Launch} {E : xE} {x md : Nat} {a : Nat → Nat} {n : Nat} {G : xw_G} {σ : CS} {μ : MS}
theorem RO.begin {w : RW} {ν : MS} {i : Nat} {v : VD} {m2 a2 : Int32} (hK : 0 < (sK σ).length) (hO : sO σ = true) : RV σ (mOpn ν i m2 a2) w i (vBegin v m2 a2) :=
  ⟨(va_up_self _ _ _).symm, pk_uLs.symm, fun _ => ⟨⟨pk_us.symm, hO⟩, pk_us.symm, ⟨0, hK, rfl, pk_us, fun h => by rcases h with h | h <;> exact absurd (show (0 : Int32) = _ from h) (by decide)⟩, pk_us.symm, Or.inl rfl, fun _ => (va_up_self _ _ _).symm, (va_up_self _ _ _).symm, fun h => (by cases h), Or.inl ⟨rfl, pk_us⟩⟩⟩
theorem SV.opn {ν : MS} {i j : Nat} {m2 a2 : Int32} (h : j ≠ i) : SV ν (mOpn ν i m2 a2) j := ⟨pk_un h, pk_un h, pk_un h, pk_un h, rfl, pk_un h, rfl, pk_uLn h, rfl, va_up_ne _ _ h, va_up_ne _ _ h, va_up_ne _ _ h⟩
theorem j_open (hC : xCS E G x σ) (hM : xMD E G md a μ) (hR : Rel σ μ n) (hn : n < 600) (j m2 a2 : Int32) : XMk l E y_KF_open w_KF_open rm_KF_open [.ref x, .int j, .int m2, .int a2] G (JRi l E x md a n y_MD_open w_MD_open rm_MD_open [.ref md, .int j, .int m2, .int a2]) 0 0 := by
  have hC0 := hC
  obtain ⟨lo, la, lc, hB⟩ := hC
  have hB : xCB E G x σ lo la lc := hB
  obtain ⟨hG, hL, hnn, hk, hv, hs, he⟩ := id hB
  have hl := hR.lens
  rcases atI_cases (sV σ) j (by omega) with ⟨-, hj⟩ | ⟨i, v, rfl, hi, -, hil⟩
  · exact j_i (q_KF_open_nv l E hB (by rw [hnn.2.2.1]; exact hj)) (p_pure hC0) (fun hM' => q_MD_open_nv l E hM' (hR.vw_no hj)) hM (hR.thr hn)
  · obtain ⟨va, ha, hV⟩ := hv i v hi
    have h5 := hR.vw_in hil
    have hrv := hR.rv hi
    by_cases hb : m2 < 0 ∨ 3 < m2 ∨ a2 < 0 ∨ 2 < a2
    · exact j_i (q_KF_open_bad l E hB ha hV hb) (p_pure hC0) (fun hM' => q_MD_open_bad l E hM' h5.2 h5.1 hb) hM (hR.thr hn)
    · cases ho : v.1 with
      | true => exact j_i (q_KF_open_41 l E hB ha hV hb ho) (p_pure hC0) (fun hM' => q_MD_open_41 l E hM' h5.2 h5.1 hb (hrv.1 ▸ ho)) hM (hR.thr hn)
      | false =>
        obtain ⟨w, hF, hVs, hV2, hBd⟩ := id hR
        have hK0 := hF.2.1.2.2 (by omega)
        by_cases hm : m2 = 1
        · obtain ⟨ν, hν⟩ : ∃ ν, ν = mC2 5 0 (mC1 300 0 (sS (sS μ 0 0) 12 0)) := ⟨_, rfl⟩
          obtain ⟨hS, hz0, hI0, hZ0, hJ0, hc0⟩ := clr_o hν
          refine j_i (μ' := mOpn ν i m2 a2) (q_KF_open_out l E hB ha hV hi hb ho hm) (fun r G' h => h) (fun hM' => by rw [hν]; exact q_MD_open_out l E hM' h5.2 h5.1 hb (hrv.1 ▸ ho) hm) hM ⟨(wP w, wC w, wL w, fun _ => [], wN w, wM w), ?_, fun j' u hu => ?_, fun j' hj' hj5 => ?_, ?_⟩
          · obtain ⟨g1, g2, g3, g4, g5, g6, g7, g8, g9, g10⟩ := id hF
            have hz : ∀ r, r < 300 → mI (mOpn ν i m2 a2) 10 r = 0 := hz0
            have hI1 : mI (mOpn ν i m2 a2) 1 = mI μ 1 := hI0 1 (by decide) (by decide) (by decide)
            have hI2 : mI (mOpn ν i m2 a2) 2 = mI μ 2 := hI0 2 (by decide) (by decide) (by decide)
            have hZ3 : mZ (mOpn ν i m2 a2) 3 = mZ μ 3 := congrFun hZ0 3
            have hZ4 : mZ (mOpn ν i m2 a2) 4 = mZ μ 4 := congrFun hZ0 4
            have hJ5 : mJ (mOpn ν i m2 a2) 5 = mJ μ 5 := hJ0 5 (by decide)
            refine ⟨⟨?_, ?_⟩, ⟨?_, ?_, ?_⟩, rfl, ⟨(hS 13).trans g4.1, (hS 14).trans g4.2.1, hS 12⟩, g5, fun k q' hq' => ?_, fun k h1 h2 => ?_, fun _ _ => rfl, ⟨fun r hr => Or.inl (hz r hr), fun r1 r2 h1 h2 h3 h4 _ => ?_⟩, fun h => by cases h⟩
            · show ((sK σ).mapIdx _).length ≤ 6
              rw [List.length_mapIdx]
              exact g1.1
            · show _ = nI ((sK σ).mapIdx _).length
              rw [List.length_mapIdx]
              exact (hS 6).trans g1.2
            · show (((sV σ).map _).set _ _).length ≤ 5
              rw [List.length_set, List.length_map]
              exact g2.1
            · show _ = nI (((sV σ).map _).set _ _).length
              rw [List.length_set, List.length_map]
              exact (hS 7).trans g2.2.1
            · intro _
              show 0 < ((sK σ).mapIdx _).length
              rw [List.length_mapIdx]
              exact hK0
            · have hq' : ((sK σ).mapIdx (fun _ q => (q.1, ([] : List E3))))[k]? = some q' := hq'
              rw [List.getElem?_mapIdx] at hq'
              cases hq0 : (sK σ)[k]? with
              | none => rw [hq0] at hq'; cases hq'
              | some q0 =>
                rw [hq0] at hq'
                cases hq'
                obtain ⟨k1, k2, k3, k4, k5, k6⟩ := (g6 k q0 hq0).1
                exact ⟨⟨(congrFun hI1 k).trans k1, (congrFun hI2 k).trans k2, (congrFun hZ3 k).trans k3, (congrFun hZ4 k).trans k4, fun h => (congrFun hJ5 k).trans (k5 h), k6⟩, rKE_nil rfl rfl hz⟩
            · have h1 : ((sK σ).mapIdx (fun _ q => (q.1, ([] : List E3)))).length ≤ k := h1
              rw [List.length_mapIdx] at h1
              exact (congrFun hZ4 k).trans (g7 k h1 h2)
            · rw [hz r1 h1] at h3
              exact absurd h3 (by decide)
          · have hu : (((sV σ).map (fun v => vLose (vForget v))).set i (vBegin (vLose (vForget v)) m2 a2))[j']? = some u := hu
            have hKl : (sK σ).length ≤ ((sK σ).mapIdx (fun _ q => (q.1, ([] : List E3)))).length := by rw [List.length_mapIdx]; exact Nat.le_refl _
            rcases set_at hu with ⟨rfl, rfl⟩ | ⟨hne, hu⟩
            · exact RO.begin (by show 0 < ((sK σ).mapIdx (fun _ q => (q.1, ([] : List E3)))).length; omega) rfl
            · rw [List.getElem?_map] at hu
              cases hu0 : (sV σ)[j']? with
              | none => rw [hu0] at hu; cases hu
              | some u0 =>
                rw [hu0] at hu
                cases hu
                have hj5 : j' < 5 := by have := (List.getElem?_eq_some_iff.mp hu0).1; omega
                obtain ⟨e1, e2, e3⟩ := hc0 j' hj5
                obtain ⟨t1, t2, t3, t4, t5, t6, t7, t8, t9, t10, t11, t12⟩ := SV.opn (ν := ν) (m2 := m2) (a2 := a2) hne
                have sI_ : ∀ k, k ≠ 10 → k ≠ 18 → k ≠ 20 → mI ν k j' = mI μ k j' := fun k h1 h2 h3 => congrFun (hI0 k h1 h2 h3) j'
                have sZ_ : ∀ k, mZ ν k j' = mZ μ k j' := fun k => congrFun (congrFun hZ0 k) j'
                have sJ_ : ∀ k, k ≠ 22 → mJ ν k j' = mJ μ k j' := fun k h => congrFun (hJ0 k h) j'
                obtain ⟨p1, p2, p3⟩ := hVs j' u0 hu0
                refine ⟨p1.trans ((sZ_ 24).symm.trans t10.symm), (t8.trans e3).symm, fun z => ?_⟩
                obtain ⟨o1, o2, ⟨kk, o3, o4, o5, o6⟩, o7, o8, o9, o10, o11, o12⟩ := p3 z
                exact ⟨⟨o1.1.trans ((sI_ 15 (by decide) (by decide) (by decide)).symm.trans t1.symm), rfl⟩, o2.trans ((sI_ 16 (by decide) (by decide) (by decide)).symm.trans t2.symm), ⟨kk, Nat.lt_of_lt_of_le o3 hKl, o4, t3.trans ((sI_ 17 (by decide) (by decide) (by decide)).trans o5), fun h => by rcases h with h | h <;> exact absurd (show (3 : Int32) = _ from h) (by decide)⟩, (t4.trans e1).symm, Or.inr (Or.inr (Or.inr rfl)), fun h => absurd rfl h, o10.trans ((sZ_ 26).symm.trans t12.symm), fun h => (o11 h).trans ((sJ_ 23 (by decide)).symm.trans t9.symm), Or.inl ⟨rfl, t6.trans e2⟩⟩
          · have hj' : (((sV σ).map (fun v => vLose (vForget v))).set i (vBegin (vLose (vForget v)) m2 a2)).length ≤ j' := hj'
            rw [List.length_set, List.length_map] at hj'
            obtain ⟨t1, t2, t3, t4, t5, t6, t7, t8, t9, t10, t11, t12⟩ := SV.opn (ν := ν) (i := i) (j := j') (m2 := m2) (a2 := a2) (by omega)
            exact ⟨t10.trans ((congrFun (congrFun hZ0 24) j').trans (hV2 j' hj' hj5).1), t8.trans (hc0 j' hj5).2.2⟩
          · obtain ⟨b1, b2, b3, b4, b5⟩ := hBd
            exact ⟨by show sA σ ≤ _; omega, by show wN w ≤ _; omega, by show wM w ≤ _; omega, by show sW σ ≤ _; omega, by omega⟩
        · refine j_i (q_KF_open_ok l E hB ha hV hb ho hm) (fun r G' h => h) (fun hM' => q_MD_open_ok l E hM' h5.2 h5.1 hb (hrv.1 ▸ ho) hm) hM ⟨w, ?_, fun j' u hu => ?_, fun j' hj' hj5 => ?_, hBd.up hn⟩
          · obtain ⟨g1, g2, g3, g4, g5, g6, g7, g8, g9, g10⟩ := hF.same (μ' := sOp (mOpn (sS μ 0 0) i m2 a2) (mO μ)) ⟨rfl, rfl, rfl, rfl, rfl, rfl, rfl, rfl, rfl, rfl, rfl, rfl, rfl, rfl⟩
            exact ⟨g1, by show ((sV σ).set i (vBegin v m2 a2)).length ≤ 5 ∧ _ = nI ((sV σ).set i (vBegin v m2 a2)).length ∧ (0 < ((sV σ).set i (vBegin v m2 a2)).length → _); rw [List.length_set]; exact g2, rfl, g4, g5, g6, g7, g8, g9, fun h => by cases h⟩
          · have hu : ((sV σ).set i (vBegin v m2 a2))[j']? = some u := hu
            rcases set_at hu with ⟨rfl, rfl⟩ | ⟨hne, hu⟩
            · exact RO.begin hK0 rfl
            · exact (hVs j' u hu).up (Nat.le_refl _) (fun _ _ _ h => h) (fun _ _ h => h) (SV.opn (ν := sS μ 0 0) hne) (fun _ => rfl)
          · have hj' : ((sV σ).set i (vBegin v m2 a2)).length ≤ j' := hj'
            rw [List.length_set] at hj'
            obtain ⟨t1, t2, t3, t4, t5, t6, t7, t8, t9, t10, t11, t12⟩ := SV.opn (ν := sS μ 0 0) (i := i) (j := j') (m2 := m2) (a2 := a2) (by omega)
            exact ⟨t10.trans (hV2 j' hj' hj5).1, t8.trans (hV2 j' hj' hj5).2⟩
end J3
