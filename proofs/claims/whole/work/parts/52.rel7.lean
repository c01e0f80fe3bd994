/-! JOINT CONTRACTS: read, start, next -/
theorem RL.got {σ : CS} {μ : MS} {n k : Nat} {w : RW} {q : KD × List E3} (h : RelW σ μ n w) (hq : (sK σ)[k]? = some q) {u : Nat} (hu : u ∈ wR w k) : RL μ (sD σ) w (some (wL w u)) (mI μ 10 u) := by
  obtain ⟨h1, h2, nn, h3, h4, h5⟩ := h.dat hq hu
  exact Or.inr ⟨wL w u, nn, mJ μ 9 u, true, rfl, h5, h3, h4, h1, fun _ => ⟨u, h2, h5, rfl⟩, fun z => by cases z⟩
section J4
variable {l : Launch} {E : xE} {x md : Nat} {a : Nat → Nat} {n : Nat} {G : xw_G} {σ : CS} {μ : MS}
/-- a view that was handed a record -/
theorem RelW.got {w : RW} {k i u : Nat} {q : KD × List E3} {vo ae hw : Bool} {mo ac kr pl : Int32} {pf pc vr pw : Int64} {rl : Option Nat} (h : RelW σ μ n w) (hn : n < 600) (hq : (sK σ)[k]? = some q) (hu : u ∈ wR w k) (hi : (sV σ)[i]? = some (vo, mo, ac, kr, pl, pf, pc, ae, rl, vr, hw, pw)) (ho : vo = true) {μ2 : MS} (s : SF μ μ2) (sv : ∀ j, j ≠ i → SV μ μ2 j) (e15 : mI μ2 15 i = mI μ 15 i) (e16 : mI μ2 16 i = mI μ 16 i) (e23 : mJ μ2 23 i = mJ μ 23 i) (e24 : mZ μ2 24 i = mZ μ 24 i) (e26 : mZ μ2 26 i = mZ μ 26 i) :
    RelW (σ.vw i (vo, mo, ac, nI k, 1, mF μ k (mJ μ 9 u), lN (wC w k u), false, some (wL w u), mJ μ 9 u, hw, pw)) (mGo μ2 i k u) (n + 1) w := by
  have kx := h.kx hq
  have hk := (List.getElem?_eq_some_iff.mp hq).1
  obtain ⟨p1, p2, p3⟩ := h.2.1 i _ hi
  obtain ⟨o1, o2, -, -, -, -, o7, o8, -⟩ := p3 ho
  obtain ⟨s1, s2, s3, s4, s5, s6, s7, s8, s9, s10, s11, s12, s13, s14⟩ := id s
  have eF : mF μ2 = mF μ := by funext k x; unfold mF; rw [s7, s8]
  have eR : mRk μ2 = mRk μ := by funext k r; unfold mRk; rw [s10]
  obtain ⟨m, hm, hP, -⟩ := kx.rk hu
  refine h.vw hn hi ⟨s1, s2, s3, s4, s5, s6, s7, s8, s9, s10, s11, s12, s13, s14⟩ (fun j hne => ?_) ⟨p1.trans e24.symm, ?_, fun _ => ⟨⟨o1.1.trans e15.symm, o1.2⟩, o2.trans e16.symm, ⟨k, hk, rfl, pk_us, fun _ => ⟨wC w k u, m, hP, rfl, ?_, ?_⟩⟩, pk_us.symm, Or.inr (Or.inl rfl), fun _ => (va_up_self _ _ _).symm, o7.trans e26.symm, fun z => (o8 z).trans e23.symm, ?_⟩⟩
  · obtain ⟨t1, t2, t3, t4, t5, t6, t7, t8, t9, t10, t11, t12⟩ := sv j hne
    exact ⟨t1, t2, (pk_un hne).trans t3, (pk_un hne).trans t4, (pk_un hne).trans t5, (pk_un hne).trans t6, (pk_uLn hne).trans t7, (pk_uLn hne).trans t8, t9, t10, (va_up_ne _ _ hne).trans t11, t12⟩
  · show mJ μ 9 u = vp_updL _ i (mJ μ2 9 u) i
    rw [pk_uLs, s14]
  · show upd _ i (mRk μ2 k u) i = nI m
    rw [pk_us, eR, hm]
  · show mF μ k (mJ μ 9 u) = vp_updL _ i (mF μ2 k (mJ μ2 9 u)) i
    rw [pk_uLs, eF, s14]
  · show RL (mGo μ2 i k u) (sD σ) w (some (wL w u)) (upd _ i (mI μ2 10 u) i)
    rw [pk_us, s9]
    have hg := RL.got h hq hu
    unfold RL at hg ⊢
    rw [show mI (mGo μ2 i k u) 10 = mI μ 10 from s9]
    exact hg
theorem SF.fg {i : Nat} : SF μ (mFg (sS μ 0 0) i) := ⟨rfl, rfl, rfl, rfl, rfl, rfl, rfl, rfl, rfl, rfl, rfl, rfl, rfl, rfl⟩
theorem SV.fg {i j : Nat} (h : j ≠ i) : SV μ (mFg (sS μ 0 0) i) j := ⟨rfl, rfl, rfl, rfl, rfl, pk_un h, rfl, pk_uLn h, rfl, rfl, rfl, rfl⟩
/-- forgotten: the view has read nothing -/
theorem RelW.fg {w : RW} {i : Nat} {v : VD} (h : RelW σ μ n w) (hn : n < 600) (hi : (sV σ)[i]? = some v) : RelW (σ.vw i (vForget v)) (mFg (sS μ 0 0) i) (n + 1) w := by
  obtain ⟨p1, p2, p3⟩ := h.2.1 i v hi
  refine h.vw hn hi SF.fg (fun j => SV.fg) ⟨p1, pk_uLs.symm, fun z => ?_⟩
  obtain ⟨o1, o2, ⟨k, o3, o4, o5, o6⟩, o7, o8, o9, o10, o11, o12⟩ := p3 z
  exact ⟨o1, o2, ⟨k, o3, o4, o5, o6⟩, o7, o8, o9, o10, o11, Or.inl ⟨rfl, pk_us⟩⟩
theorem j_read (hC : xCS E G x σ) (hM : xMD E G md a μ) (hR : Rel σ μ n) (hn : n < 600) (j j2 : Int32) (z : Int64) : XMk l E y_KF_read w_KF_read rm_KF_read [.ref x, .int j, .int j2, .long z] G (JRi l E x md a n y_MD_read w_MD_read rm_MD_read [.ref md, .int j, .int j2, .long z]) 0 0 := by
  have hC0 := hC
  obtain ⟨lo, la, lc, hB⟩ := hC
  have hB : xCB E G x σ lo la lc := hB
  obtain ⟨hG, hL, hnn, hk, hv, hs, he⟩ := id hB
  have hl := hR.lens
  have hI0 := hL.1 0 (by omega)
  have hW0 := hL.1 1 (by omega)
  rcases atI_cases (sV σ) j (by omega) with ⟨-, hj⟩ | ⟨i, v, rfl, hi, -, hil⟩
  · rcases atI_cases (sK σ) j2 (by omega) with ⟨-, hj2⟩ | ⟨k, q, rfl, hq, -, hkl⟩
    · exact j_i (q_KF_read_nv_nk l E hG hI0 hW0 (by rw [hnn.2.2.1]; exact hj) (by rw [hnn.1]; exact hj2)) (p_pure hC0) (fun hM' => q_MD_read_bad l E hM' (Or.inl (hR.vw_no hj))) hM (hR.thr hn)
    · obtain ⟨⟨ki, hki, hK⟩, hX⟩ := hk k q hq
      exact j_i (q_KF_read_nv_k l E hG hI0 hW0 (by rw [hnn.2.2.1]; exact hj) hK hki) (p_pure hC0) (fun hM' => q_MD_read_bad l E hM' (Or.inl (hR.vw_no hj))) hM (hR.thr hn)
  · obtain ⟨va, ha, hV⟩ := hv i v hi
    have h5 := hR.vw_in hil
    have hrf := hR.refR hi 0
    rcases atI_cases (sK σ) j2 (by omega) with ⟨-, hj2⟩ | ⟨k, q, rfl, hq, -, hkl⟩
    · exact j_i (q_KF_read_v_nk l E hG hI0 hW0 hV ha (by rw [hnn.1]; exact hj2)) (p_pure hC0) (fun hM' => q_MD_read_bad l E hM' (Or.inr (hR.ky_no hj2))) hM (hR.thr hn)
    · obtain ⟨⟨ki, hki, hK⟩, hX⟩ := hk k q hq
      have h6 := hR.ky_in hkl
      by_cases hr : refRead v.1 (vMo v) (vAc v) 0 = 0
      · obtain ⟨w, hw⟩ := id hR
        have kx := hw.kx hq
        have hlen := ent_len kx.2.1
        have hA := hL.1 (k + 2) (by omega)
        have hsr := kx.2.1.2.2.1
        have haf := kx.aft (c := 0) (n := 0) (Or.inl ⟨rfl, rfl⟩) z true
        rw [if_pos rfl] at haf
        rcases v with ⟨vo, mo, ac, kr, pl, pf, pc, ae, rl, vr, hw2, pw⟩
        have ho := refR_op hr
        cases hoe : oEq q.2.length (eF q.2) (cnt q.2 z 0) z with
        | none =>
          refine j_i (μ' := sI (sI (mFg (sS μ 0 0) i) 17 i (nI k)) 18 i 3) (q_KF_read_23 l E hG hI0 hW0 hV ha hK hki hA (xEL_xEs hX) (xEL_le hX z 0) (xEL_cnt hX hsr z 0) hr (by rw [hX.1]; exact hoe)) (p_view (u' := (vo, mo, ac, nI k, 3, pf, pc, ae, none, 0, hw2, pw)) hB ha hV) (fun hM' => q_MD_read_23 l E hM' h5.2 h5.1 h6.2 h6.1 (hrf ▸ hr) (fun u hu hf => ?_)) hM ⟨w, ?_⟩
          · have hu2 : (wR w k)[cnt q.2 z 0]? = some u := haf.symm.trans hu
            have hlt := (List.getElem?_eq_some_iff.mp hu2).1
            unfold oEq at hoe
            rw [if_pos ⟨by omega, (kx.ef hu2).1.trans hf⟩] at hoe
            cases hoe
          · obtain ⟨p1, p2, p3⟩ := hw.2.1 i _ hi
            obtain ⟨o1, o2, -, -, -, o6, o7, o8, -⟩ := p3 ho
            exact hw.vw hn hi ⟨rfl, rfl, rfl, rfl, rfl, rfl, rfl, rfl, rfl, rfl, rfl, rfl, rfl, rfl⟩ (fun j h => ⟨rfl, rfl, pk_un h, pk_un h, rfl, pk_un h, rfl, pk_uLn h, rfl, rfl, rfl, rfl⟩) ⟨p1, pk_uLs.symm, fun _ => ⟨o1, o2, ⟨k, hkl, rfl, pk_us, fun h => by rcases h with h | h <;> exact absurd (show (3 : Int32) = _ from h) (by decide)⟩, pk_us.symm, Or.inr (Or.inr (Or.inr rfl)), fun h => absurd rfl h, o7, o8, Or.inl ⟨rfl, pk_us⟩⟩⟩
        | some p =>
          unfold oEq at hoe
          split at hoe
          · next hlt =>
            cases hoe
            obtain ⟨u, hu⟩ := e_lt (show cnt q.2 z 0 < (wR w k).length by omega)
            have hum := List.mem_of_getElem? hu
            obtain ⟨b, hb, hN⟩ := hX.2 _ _ (kx.at hu)
            obtain ⟨f1, f2, f3⟩ := kx.ef hu
            obtain ⟨hD, -⟩ := hw.dat hq hum
            obtain ⟨sw, -, hS⟩ := hs _ _ hD
            have hc0 : cnt q.2 (eF q.2 (cnt q.2 z 0)) (eC q.2 (cnt q.2 z 0)) = cnt q.2 z 0 := by rw [f1, f2]; exact kx.cnt0 hu
            have hsta := kx.sta hu false
            refine j_i (v := mSta μ k u false) (μ' := mGo (mFg (sS μ 0 0) i) i k u) (q_KF_read_got l E hG hI0 hW0 hV ha hK hki hA (xEL_xEs hX) (xEL_le hX z 0) (xEL_cnt hX hsr z 0) hr (by rw [hX.1]; unfold oEq; rw [if_pos hlt]) hb (by rw [f3]; exact hS) (xEL_le hX _ _) (xEL_cnt hX hsr (eF q.2 (cnt q.2 z 0)) (eC q.2 (cnt q.2 z 0)))) (fun r G' h => ?_) (fun hM' => q_MD_read_got l E hM' h5.2 h5.1 h6.2 h6.1 (hrf ▸ hr) (haf.trans hu) (by rw [← f1]; exact hlt.2)) hM ⟨w, hw.got hn hq hum hi ho SF.fg (fun j => SV.fg) rfl rfl rfl rfl rfl⟩
            obtain ⟨h1, h2⟩ := h
            rw [hc0, f1, hX.1, ← hsta] at h1
            rw [f1, f2, f3] at h2
            exact p_view (u' := (vo, mo, ac, nI k, 1, mF μ k (mJ μ 9 u), lN (wC w k u), false, some (wL w u), mJ μ 9 u, hw2, pw)) hB ha hV r G' ⟨h1, h2⟩
          · cases hoe
      · exact j_i (q_KF_read_ref l E hG hI0 hW0 hV ha hK hki hr) (p_pure hC0) (fun hM' => by rw [hrf]; exact q_MD_read_ref l E hM' h5.2 h5.1 h6.2 h6.1 (hrf ▸ hr)) hM (hR.thr hn)
end J4
