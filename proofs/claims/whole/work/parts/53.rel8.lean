/-! JOINT CONTRACTS: start, next -/
theorem mHo_iff {op : Int32} {f k : Int64} : mHo op f k = true ↔ (op = 0 ∧ f = k) ∨ (op = 1 ∧ uN k < uN f) ∨ (op = 2 ∧ ¬ uN f < uN k) ∨ (op = 3 ∧ uN f < uN k) ∨ (¬ op = 0 ∧ ¬ op = 1 ∧ ¬ op = 2 ∧ ¬ op = 3 ∧ ¬ uN k < uN f) := by
  unfold mHo mLs
  by_cases h0 : op = 0
  · subst h0; simp
  · by_cases h1 : op = 1
    · subst h1; simp
    · by_cases h2 : op = 2
      · subst h2; simp
      · by_cases h3 : op = 3
        · subst h3; simp
        · simp [h0, h1, h2, h3]
theorem KX.st {μ : MS} {k A : Nat} {w : RW} {q : KD × List E3} (h : KX μ k w q A) {op b : Int32} {kk : Int64} (h04 : op = 0 ∨ op = 1 ∨ op = 2 ∨ op = 3 ∨ op = 4) :
    mSt μ k op kk b = (oPart q.2.length (eF q.2) q.1.2.2.1 b op kk (cntP q.2 q.1.2.2.1 b (decide (op = 1 ∨ op = 4)) kk)).bind (fun i => (wR w k)[i]?) := by
  obtain ⟨p, hp⟩ : ∃ p, p = cntP q.2 q.1.2.2.1 b (decide (op = 1 ∨ op = 4)) kk := ⟨_, rfl⟩
  rw [← hp]
  have hlen := ent_len h.2.1
  have hle : p ≤ (wR w k).length := by rw [hp, ← hlen]; exact cntP_le
  have hsz := h.1.2.1
  have hin : ∀ r, r < 300 → mStc μ k op kk b r = true → r ∈ wR w k := fun r h3 hc => (h.2.1.2.1 r).mpr ⟨h3, (Bool.and_eq_true _ _ ▸ hc : _ ∧ _).1⟩
  have hat : ∀ i r : Nat, (wR w k)[i]? = some r → (byPart q.1.2.2.1 b (decide (op = 1 ∨ op = 4)) (mF μ k (mJ μ 9 r)) kk = true ↔ i < p) := fun i r hr => by rw [hp]; exact cntP_at h.2.1.2.2.1 _ _ _ _ i _ (h.at hr)
  have hca : ∀ i r : Nat, (wR w k)[i]? = some r → (mStc μ k op kk b r = true ↔ mHo op (prtI q.1.2.2.1 b (mF μ k (mJ μ 9 r))) kk = true) := by
    intro i r hr
    unfold mStc
    rw [((h.2.1.2.1 r).mp (List.mem_of_getElem? hr)).2, Bool.true_and, hsz]
  by_cases h34 : op = 3 ∨ op = 4
  · have hbet : mBet μ k op = fun r q => mBe μ k r (mF μ k (mJ μ 9 q)) (mRk μ k q) := by
      funext r q'
      unfold mBet
      rw [if_pos (by rcases h34 with rfl | rfl <;> decide)]
    unfold mSt
    rw [hbet, fold_great (rs := wR w k) (p := p) mBe_tr mBe_ir (fun i j x y hij hx hy => (h.ord i j x y hij hx hy).2) hin h.lt hle ?_]
    · unfold oPart oBk
      rw [if_pos h34]
      by_cases h0 : 0 < p
      · rw [if_pos h0, if_pos h0]; rfl
      · rw [if_neg h0, if_neg h0]; rfl
    · intro i r hr
      rw [hca i r hr, ← hat i r hr, byPart_iff, mHo_iff]
      rcases h34 with rfl | rfl
      · simp
      · simp
        constructor
        · intro z
          rcases Nat.lt_or_ge (uN (prtI q.1.2.2.1 b (mF μ k (mJ μ 9 r)))) (uN kk) with y | y
          · exact Or.inl y
          · exact Or.inr (uN_inj (by omega))
        · rintro (z | z)
          · omega
          · rw [z]; omega
  · have hbet : mBet μ k op = fun r q => mAh μ k r (mF μ k (mJ μ 9 q)) (mRk μ k q) := by
      funext r q'
      unfold mBet
      rw [if_neg (by rcases h04 with rfl | rfl | rfl | rfl | rfl <;> first | decide | exact absurd (by simp) h34)]
    have hc1 : ∀ i r : Nat, (wR w k)[i]? = some r → mStc μ k op kk b r = true → p ≤ i ∧ ∃ u, (wR w k)[p]? = some u ∧ mStc μ k op kk b u = true := by
      intro i r hr hc
      have hil := (List.getElem?_eq_some_iff.mp hr).1
      have h1 := (hca i r hr).mp hc
      have h2 := hat i r hr
      have hpi : p ≤ i := by
        rcases Nat.lt_or_ge i p with hz | hz
        · exfalso
          have h3 := h2.mpr hz
          rw [byPart_iff] at h3
          rw [mHo_iff] at h1
          rcases h04 with rfl | rfl | rfl | rfl | rfl
          · simp at h1 h3; rw [h1] at h3; omega
          · simp at h1 h3
            rcases h3 with h3 | h3
            · omega
            · rw [h3] at h1; omega
          · simp at h1 h3; omega
          · exact h34 (Or.inl rfl)
          · exact h34 (Or.inr rfl)
        · exact hz
      obtain ⟨u, hu⟩ := e_lt (show p < (wR w k).length by omega)
      refine ⟨hpi, u, hu, ?_⟩
      rw [hca p u hu]
      have h4 : ¬ byPart q.1.2.2.1 b (decide (op = 1 ∨ op = 4)) (mF μ k (mJ μ 9 u)) kk = true := fun z => absurd ((hat p u hu).mp z) (Nat.lt_irrefl _)
      rw [byPart_iff] at h4
      rw [mHo_iff] at h1 ⊢
      rcases h04 with rfl | rfl | rfl | rfl | rfl
      · simp at h1 h4 ⊢
        by_cases he : p = i
        · subst he
          rw [hr] at hu
          cases hu
          exact h1
        · have h6 := prt_mono (sz := q.1.2.2.1) (b := b) (ahead_f (srt_lt h.2.1.2.2.1 (h.at hu) (h.at hr) (by omega)))
          have h6 : uN (prtI q.1.2.2.1 b (mF μ k (mJ μ 9 u))) ≤ uN (prtI q.1.2.2.1 b (mF μ k (mJ μ 9 r))) := h6
          rw [h1] at h6
          exact uN_inj (by omega)
      · simp at h1 h4 ⊢
        have : uN (prtI q.1.2.2.1 b (mF μ k (mJ μ 9 u))) ≠ uN kk := fun z => h4.2 (uN_inj z)
        omega
      · simp at h1 h4 ⊢; omega
      · exact absurd (Or.inl rfl) h34
      · exact absurd (Or.inr rfl) h34
    unfold mSt
    rw [hbet, fold_least (rs := wR w k) (p := p) mAh_tr mAh_ir (fun i j x y hij hx hy => (h.ord i j x y hij hx hy).1) hin h.lt hc1]
    unfold oPart
    rw [if_neg h34]
    cases hu : (wR w k)[p]? with
    | none =>
      have := List.getElem?_eq_none_iff.mp hu
      rw [if_neg (by omega)]
      rfl
    | some u =>
      have hpl := (List.getElem?_eq_some_iff.mp hu).1
      show (if mStc μ k op kk b u = true then some u else none) = _
      have h4 : ¬ byPart q.1.2.2.1 b (decide (op = 1 ∨ op = 4)) (mF μ k (mJ μ 9 u)) kk = true := fun z => absurd ((hat p u hu).mp z) (Nat.lt_irrefl _)
      rw [byPart_iff] at h4
      have hiff : mStc μ k op kk b u = true ↔ (op = 0 → prtI q.1.2.2.1 b (eF q.2 p) = kk) := by
        rw [hca p u hu, (h.ef hu).1, mHo_iff]
        rcases h04 with rfl | rfl | rfl | rfl | rfl
        · simp
        · simp at h4 ⊢
          have : uN (prtI q.1.2.2.1 b (mF μ k (mJ μ 9 u))) ≠ uN kk := fun z => h4.2 (uN_inj z)
          omega
        · simp at h4 ⊢; omega
        · exact absurd (Or.inl rfl) h34
        · exact absurd (Or.inr rfl) h34
      by_cases hc : mStc μ k op kk b u = true
      · rw [if_pos hc, if_pos ⟨by omega, hiff.mp hc⟩]
        exact hu.symm
      · rw [if_neg hc, if_neg (fun z => hc (hiff.mpr z.2))]
        rfl
theorem oPart_lt {n k p : Nat} {fd : Nat → Int64} {sz b op : Int32} {prt : Int64} (h : oPart n fd sz b op prt k = some p) (hk : k ≤ n) : p < n := by
  unfold oPart oBk at h
  split at h
  · split at h
    · cases h; omega
    · cases h
  · split at h
    · next hc => cases h; exact hc.1
    · cases h
section J5
variable {l : Launch} {E : xE} {x md : Nat} {a : Nat → Nat} {n : Nat} {G : xw_G} {σ : CS} {μ : MS}
theorem j_start (hC : xCS E G x σ) (hM : xMD E G md a μ) (hR : Rel σ μ n) (hn : n < 600) (j j2 op : Int32) (z : Int64) (b : Int32) : XMk l E y_KF_start w_KF_start rm_KF_start [.ref x, .int j, .int j2, .int op, .long z, .int b] G (JRi l E x md a n y_MD_start w_MD_start rm_MD_start [.ref md, .int j, .int j2, .int op, .long z, .int b]) 0 0 := by
  have hC0 := hC
  obtain ⟨lo, la, lc, hB⟩ := hC
  have hB : xCB E G x σ lo la lc := hB
  obtain ⟨hG, hL, hnn, hk, hv, hs, he⟩ := id hB
  have hl := hR.lens
  have hI0 := hL.1 0 (by omega)
  have hW0 := hL.1 1 (by omega)
  rcases atI_cases (sV σ) j (by omega) with ⟨-, hj⟩ | ⟨i, v, rfl, hi, -, hil⟩
  · rcases atI_cases (sK σ) j2 (by omega) with ⟨-, hj2⟩ | ⟨k, q, rfl, hq, -, hkl⟩
    · exact j_i (q_KF_start_nv_nk l E hG hI0 hW0 (by rw [hnn.2.2.1]; exact hj) (by rw [hnn.1]; exact hj2)) (p_pure hC0) (fun hM' => q_MD_start_nv l E hM' (Or.inl (hR.vw_no hj))) hM (hR.thr hn)
    · obtain ⟨⟨ki, hki, hK⟩, hX⟩ := hk k q hq
      exact j_i (q_KF_start_nv_k l E hG hI0 hW0 (by rw [hnn.2.2.1]; exact hj) hK hki) (p_pure hC0) (fun hM' => q_MD_start_nv l E hM' (Or.inl (hR.vw_no hj))) hM (hR.thr hn)
  · obtain ⟨va, ha, hV⟩ := hv i v hi
    have h5 := hR.vw_in hil
    have hrf := hR.refR hi 1
    rcases atI_cases (sK σ) j2 (by omega) with ⟨-, hj2⟩ | ⟨k, q, rfl, hq, -, hkl⟩
    · exact j_i (q_KF_start_v_nk l E hG hI0 hW0 hV ha (by rw [hnn.1]; exact hj2)) (p_pure hC0) (fun hM' => q_MD_start_nv l E hM' (Or.inr (hR.ky_no hj2))) hM (hR.thr hn)
    · obtain ⟨⟨ki, hki, hK⟩, hX⟩ := hk k q hq
      have h6 := hR.ky_in hkl
      obtain ⟨w, hw⟩ := id hR
      have kx := hw.kx hq
      have hsz := kx.1.2.1
      by_cases hop : op < 0 ∨ 4 < op
      · exact j_i (q_KF_start_op l E hG hI0 hW0 hV ha hK hki hop) (p_pure hC0) (fun hM' => q_MD_start_bad l E hM' h5.2 h5.1 h6.2 h6.1 (hop.elim Or.inl (fun h => Or.inr (Or.inl h)))) hM (hR.thr hn)
      · by_cases hb : b < 1 ∨ q.1.2.2.1 < b
        · exact j_i (q_KF_start_sz l E hG hI0 hW0 hV ha hK hki hop hb) (p_pure hC0) (fun hM' => q_MD_start_bad l E hM' h5.2 h5.1 h6.2 h6.1 (hb.elim (fun h => Or.inr (Or.inr (Or.inl h))) (fun h => Or.inr (Or.inr (Or.inr (by rw [hsz]; exact h)))))) hM (hR.thr hn)
        · have hbb : ¬ (op < 0 ∨ 4 < op ∨ b < 1 ∨ mI μ 2 k < b) := by
            rw [hsz]
            rintro (y | y | y | y)
            · exact hop (Or.inl y)
            · exact hop (Or.inr y)
            · exact hb (Or.inl y)
            · exact hb (Or.inr y)
          by_cases hr : refRead v.1 (vMo v) (vAc v) 1 = 0
          · have h04 := op_04 (fun y => hop (Or.inl y)) (fun y => hop (Or.inr y))
            have hst := kx.st (b := b) (kk := z) h04
            have hlen := ent_len kx.2.1
            have hA := hL.1 (k + 2) (by omega)
            have hsr := kx.2.1.2.2.1
            rcases v with ⟨vo, mo, ac, kr, pl, pf, pc, ae, rl, vr, hw2, pw⟩
            have ho := refR_op hr
            obtain ⟨p1, p2, p3⟩ := hw.2.1 i _ hi
            obtain ⟨o1, o2, -, -, -, o6, o7, o8, -⟩ := p3 ho
            cases hoe : oPart q.2.length (eF q.2) q.1.2.2.1 b op z (cntP q.2 q.1.2.2.1 b (decide (op = 1 ∨ op = 4)) z) with
            | none =>
              rw [hoe] at hst
              refine j_i (μ' := sI (sZ (sI (mFg (sS μ 0 0) i) 17 i (nI k)) 25 i false) 18 i 3) (q_KF_start_23 l E hG hI0 hW0 hV ha hK hki hA (xEL_xEs hX) hop hb (xEL_leP hX _ _ _ _) (xEL_cntP hX hsr q.1.2.2.1 b (decide (op = 1 ∨ op = 4)) z) hr (by rw [hX.1]; exact hoe)) (p_view (u' := (vo, mo, ac, nI k, 3, pf, pc, ae, none, 0, hw2, pw)) hB ha hV) (fun hM' => q_MD_start_23 l E hM' h5.2 h5.1 h6.2 h6.1 hbb (hrf ▸ hr) hst) hM ⟨w, ?_⟩
              exact hw.vw hn hi ⟨rfl, rfl, rfl, rfl, rfl, rfl, rfl, rfl, rfl, rfl, rfl, rfl, rfl, rfl⟩ (fun j h => ⟨rfl, rfl, pk_un h, pk_un h, rfl, pk_un h, rfl, pk_uLn h, rfl, rfl, va_up_ne _ _ h, rfl⟩) ⟨p1, pk_uLs.symm, fun _ => ⟨o1, o2, ⟨k, hkl, rfl, pk_us, fun h => by rcases h with h | h <;> exact absurd (show (3 : Int32) = _ from h) (by decide)⟩, pk_us.symm, Or.inr (Or.inr (Or.inr rfl)), fun h => absurd rfl h, o7, o8, Or.inl ⟨rfl, pk_us⟩⟩⟩
            | some p =>
              rw [hoe] at hst
              have hpl := oPart_lt hoe cntP_le
              obtain ⟨u, hu⟩ := e_lt (show p < (wR w k).length by omega)
              have hum := List.mem_of_getElem? hu
              have hst : mSt μ k op z b = some u := hst.trans hu
              obtain ⟨bb, hb2, hN⟩ := hX.2 _ _ (kx.at hu)
              obtain ⟨f1, f2, f3⟩ := kx.ef hu
              obtain ⟨m, hm, hP, -⟩ := kx.rk hum
              refine j_i (σ' := σ.vw i (vo, mo, ac, nI k, 2, mF μ k (mJ μ 9 u), lN (wC w k u), false, none, 0, hw2, pw)) (μ' := sI (sJ (sI (sZ (sI (mFg (sS μ 0 0) i) 17 i (nI k)) 25 i false) 18 i 2) 21 i (mF μ k (mJ μ 9 u))) 19 i (mRk μ k u)) (q_KF_start_got l E hG hI0 hW0 hV ha hK hki hA (xEL_xEs hX) hop hb (xEL_leP hX _ _ _ _) (xEL_cntP hX hsr q.1.2.2.1 b (decide (op = 1 ∨ op = 4)) z) hr (by rw [hX.1]; exact hoe) hb2) (fun r G' h => ?_) (fun hM' => q_MD_start_got l E hM' h5.2 h5.1 h6.2 h6.1 hbb (hrf ▸ hr) hst) hM ⟨w, ?_⟩
              · obtain ⟨h1, h2⟩ := h
                rw [f1, f2] at h2
                exact p_view (u' := (vo, mo, ac, nI k, 2, mF μ k (mJ μ 9 u), lN (wC w k u), false, none, 0, hw2, pw)) hB ha hV r G' ⟨h1, h2⟩
              · exact hw.vw hn hi ⟨rfl, rfl, rfl, rfl, rfl, rfl, rfl, rfl, rfl, rfl, rfl, rfl, rfl, rfl⟩ (fun j h => ⟨rfl, rfl, pk_un h, pk_un h, pk_un h, pk_un h, pk_uLn h, pk_uLn h, rfl, rfl, va_up_ne _ _ h, rfl⟩) ⟨p1, pk_uLs.symm, fun _ => ⟨o1, o2, ⟨k, hkl, rfl, pk_us, fun _ => ⟨wC w k u, m, hP, rfl, pk_us.trans hm, pk_uLs.symm⟩⟩, pk_us.symm, Or.inr (Or.inr (Or.inl rfl)), fun _ => (va_up_self _ _ _).symm, o7, o8, Or.inl ⟨rfl, pk_us⟩⟩⟩
          · exact j_i (q_KF_start_ref l E hG hI0 hW0 hV ha hK hki hop hb hr) (p_pure hC0) (fun hM' => by rw [hrf]; exact q_MD_start_ref l E hM' h5.2 h5.1 h6.2 h6.1 hbb (hrf ▸ hr)) hM (hR.thr hn)
theorem j_next (hC : xCS E G x σ) (hM : xMD E G md a μ) (hR : Rel σ μ n) (hn : n < 600) (j : Int32) (back : Bool) : XMk l E y_KF_next w_KF_next rm_KF_next [.ref x, .int j, .int (bI back)] G (JRi l E x md a n y_MD_next w_MD_next rm_MD_next [.ref md, .int j, .int (bI back)]) 0 0 := by
  have hC0 := hC
  obtain ⟨lo, la, lc, hB⟩ := hC
  have hB : xCB E G x σ lo la lc := hB
  obtain ⟨hG, hL, hnn, hk, hv, hs, he⟩ := id hB
  have hl := hR.lens
  have hI0 := hL.1 0 (by omega)
  have hW0 := hL.1 1 (by omega)
  rcases atI_cases (sV σ) j (by omega) with ⟨-, hj⟩ | ⟨i, v, rfl, hi, -, hil⟩
  · exact j_i (q_KF_next_nv l E hG hW0 (by rw [hnn.2.2.1]; exact hj)) (p_pure hC0) (fun hM' => q_MD_next_nv l E hM' (hR.vw_no hj)) hM (hR.thr hn)
  · obtain ⟨va, ha, hV⟩ := hv i v hi
    have h5 := hR.vw_in hil
    have hrf := hR.refR hi 1
    by_cases hr : refRead v.1 (vMo v) (vAc v) 1 = 0
    · obtain ⟨w, hw⟩ := id hR
      have ho := refR_op hr
      obtain ⟨p1, p2, p3⟩ := hw.2.1 i _ hi
      obtain ⟨o1, o2, ⟨k, o3, o4, o5, o6⟩, o7, o8, o9, o10, o11, o12⟩ := p3 ho
      obtain ⟨q, hq⟩ := e_lt o3
      obtain ⟨⟨ki, hki, hK⟩, hX⟩ := hk k q hq
      have h6 := hR.ky_in o3
      have kx := hw.kx hq
      have hlen := ent_len kx.2.1
      have hA := hL.1 (k + 2) (by omega)
      have hsr := kx.2.1.2.2.1
      rcases v with ⟨vo, mo, ac, kr, pl, pf, pc, ae, rl, vr, hw2, pw⟩
      have o4 : kr = nI k := o4
      subst o4
      have o7 : pl = mI μ 18 i := o7
      have hrm : refRead (mZ μ 24 i) (mI μ 15 i) (mI μ 16 i) 1 = 0 := hrf ▸ hr
      by_cases hle : pl = 3 ∨ ae = true
      · have hle2 : mI μ 18 i = 3 ∨ mZ μ 25 i = true := by
          rw [← o7]
          rcases hle with y | y
          · exact Or.inl y
          · by_cases h3 : pl = 3
            · exact Or.inl h3
            · exact Or.inr ((o9 h3).symm.trans y)
        refine j_i (q_KF_next_46 l E hG hI0 hW0 hV ha hK hki hr hle) (p_view (u' := (vo, mo, ac, nI k, pl, pf, pc, ae, none, 0, hw2, pw)) hB ha hV) (fun hM' => q_MD_next_46 l E hM' h5.2 h5.1 hrm hle2) hM ⟨w, hw.fg hn hi⟩
      · have hl1 : ¬ pl = 3 := fun y => hle (Or.inl y)
        have hl2 : ae = false := by cases hz : ae with | false => rfl | true => exact absurd (Or.inr hz) hle
        have hle2 : ¬ (mI μ 18 i = 3 ∨ mZ μ 25 i = true) := by
          rw [← o7]
          rintro (y | y)
          · exact hl1 y
          · exact absurd (((o9 hl1).trans y).symm.trans hl2) (by decide)
        -- the end: nothing more this way
        have h10 : mNx μ i k back = none → Rel (σ.vw i (vo, mo, ac, nI k, pl, pf, pc, true, none, 0, hw2, pw)) (sZ (mFg (sS μ 0 0) i) 25 i true) (n + 1) := fun _ =>
          ⟨w, hw.vw hn hi ⟨rfl, rfl, rfl, rfl, rfl, rfl, rfl, rfl, rfl, rfl, rfl, rfl, rfl, rfl⟩ (fun j h => ⟨rfl, rfl, rfl, rfl, rfl, pk_un h, rfl, pk_uLn h, rfl, rfl, va_up_ne _ _ h, rfl⟩) ⟨p1, pk_uLs.symm, fun _ => ⟨o1, o2, ⟨k, o3, rfl, o5, o6⟩, o7, o8, fun _ => (va_up_self _ _ _).symm, o10, o11, Or.inl ⟨rfl, pk_us⟩⟩⟩⟩
        have hgot : ∀ u, u ∈ wR w k → Rel (σ.vw i (vo, mo, ac, nI k, 1, mF μ k (mJ μ 9 u), lN (wC w k u), false, some (wL w u), mJ μ 9 u, hw2, pw)) (mGo (sZ (mFg (sS μ 0 0) i) 25 i false) i k u) (n + 1) := fun u hu =>
          ⟨w, hw.got hn hq hu hi ho ⟨rfl, rfl, rfl, rfl, rfl, rfl, rfl, rfl, rfl, rfl, rfl, rfl, rfl, rfl⟩ (fun j h => ⟨rfl, rfl, rfl, rfl, rfl, pk_un h, rfl, pk_uLn h, rfl, rfl, va_up_ne _ _ h, rfl⟩) rfl rfl rfl rfl rfl⟩
        by_cases h0p : pl = 0
        · have h0m : mI μ 18 i = 0 := o7.symm.trans h0p
          cases back with
          | true =>
            have hnx : mNx μ i k true = none := by unfold mNx; rw [if_pos h0m, if_pos rfl]
            exact j_i (q_KF_next_10_b0 l E hG hI0 hW0 hV ha hK hki hA (xEL_xEs hX) h0p hr hl1 hl2) (p_view (u' := (vo, mo, ac, nI k, pl, pf, pc, true, none, 0, hw2, pw)) hB ha hV) (fun hM' => q_MD_next_10 l E hM' h5.2 h5.1 hrm hle2 h6.2 o5 hnx) hM (h10 hnx)
          | false =>
            have hnx : mNx μ i k false = (wR w k)[0]? := by unfold mNx; rw [if_pos h0m, if_neg Bool.false_ne_true]; exact kx.first
            cases hu : (wR w k)[0]? with
            | none =>
              rw [hu] at hnx
              have hz := List.getElem?_eq_none_iff.mp hu
              exact j_i (q_KF_next_10_f0 l E hG hI0 hW0 hV ha hK hki hA (xEL_xEs hX) h0p hr hl1 hl2 (by unfold oAt; rw [if_neg (by rw [hX.1]; omega)])) (p_view (u' := (vo, mo, ac, nI k, pl, pf, pc, true, none, 0, hw2, pw)) hB ha hV) (fun hM' => q_MD_next_10 l E hM' h5.2 h5.1 hrm hle2 h6.2 o5 hnx) hM (h10 hnx)
            | some u =>
              rw [hu] at hnx
              have hum := List.mem_of_getElem? hu
              have hpl := (List.getElem?_eq_some_iff.mp hu).1
              obtain ⟨b, hb, hN⟩ := hX.2 _ _ (kx.at hu)
              obtain ⟨f1, f2, f3⟩ := kx.ef hu
              obtain ⟨hD, -⟩ := hw.dat hq hum
              obtain ⟨sw, -, hS⟩ := hs _ _ hD
              have hc0 : cnt q.2 (eF q.2 0) (eC q.2 0) = 0 := by rw [f1, f2]; exact kx.cnt0 hu
              have hsta := kx.sta hu false
              refine j_i (v := mSta μ k u false) (q_KF_next_got_f0 l E hG hI0 hW0 hV ha hK hki hA (xEL_xEs hX) h0p hr hl1 hl2 (n := 0) (by unfold oAt; rw [if_pos (by rw [hX.1]; omega)]) hb (by rw [f3]; exact hS) (xEL_le hX _ _) (xEL_cnt hX hsr (eF q.2 0) (eC q.2 0))) (fun r G' h => ?_) (fun hM' => q_MD_next_got l E hM' h5.2 h5.1 hrm hle2 h6.2 o5 hnx) hM (hgot u hum)
              obtain ⟨h1, h2⟩ := h
              rw [hc0, f1, hX.1, ← hsta] at h1
              rw [f1, f2, f3] at h2
              exact p_view (u' := (vo, mo, ac, nI k, 1, mF μ k (mJ μ 9 u), lN (wC w k u), false, some (wL w u), mJ μ 9 u, hw2, pw)) hB ha hV r G' ⟨h1, h2⟩
        · have h0m : ¬ mI μ 18 i = 0 := fun y => h0p (o7.trans y)
          have h12 : pl = 1 ∨ pl = 2 := by
            rcases o8 with y | y | y | y
            · exact absurd y h0p
            · exact Or.inl y
            · exact Or.inr y
            · exact absurd y hl1
          obtain ⟨c, m, hP, e1, e2, e3⟩ := o6 h12
          have e1 : pc = lN c := e1
          have e3 : pf = mJ μ 21 i := e3
          subst e1
          cases back with
          | true =>
            have hd : (if pl = 2 then lN c + 1 else lN c) = lN (if decide (mI μ 18 i = 2) = true then c + 1 else c) := by
              rw [← o7]
              by_cases h2 : pl = 2
              · rw [if_pos h2, if_pos (decide_eq_true h2), lN_1]
              · rw [if_neg h2, if_neg (by simp [h2])]
            obtain ⟨P, hPd⟩ : ∃ P, P = cnt q.2 pf (if pl = 2 then lN c + 1 else lN c) := ⟨_, rfl⟩
            have hnx : mNx μ i k true = if 0 < P then (wR w k)[P - 1]? else none := by
              unfold mNx
              rw [if_neg h0m, if_pos rfl, e2, kx.ahd (Or.inr hP), ← e3, ← hd, ← hPd]
            have hPl : P ≤ (wR w k).length := by rw [hPd, ← hlen]; exact cnt_le
            by_cases hP0 : 0 < P
            · rw [if_pos hP0] at hnx
              obtain ⟨u, hu⟩ := e_lt (show P - 1 < (wR w k).length by omega)
              rw [hu] at hnx
              have hum := List.mem_of_getElem? hu
              obtain ⟨b, hb, hN⟩ := hX.2 _ _ (kx.at hu)
              obtain ⟨f1, f2, f3⟩ := kx.ef hu
              obtain ⟨hD, -⟩ := hw.dat hq hum
              obtain ⟨sw, -, hS⟩ := hs _ _ hD
              have hc0 : cnt q.2 (eF q.2 (P - 1)) (eC q.2 (P - 1)) = P - 1 := by rw [f1, f2]; exact kx.cnt0 hu
              have hsta := kx.sta hu true
              refine j_i (v := mSta μ k u true) (q_KF_next_got_bn l E hG hI0 hW0 hV ha hK hki hA (xEL_xEs hX) h0p (k := P) (by rw [hPd]; exact xEL_le hX _ _) (by rw [hPd]; exact xEL_cnt hX hsr _ _) hr hl1 hl2 (n := P - 1) (by unfold oBk; rw [if_pos hP0]) hb (by rw [f3]; exact hS) (xEL_le hX _ _) (xEL_cnt hX hsr (eF q.2 (P - 1)) (eC q.2 (P - 1)))) (fun r G' h => ?_) (fun hM' => q_MD_next_got l E hM' h5.2 h5.1 hrm hle2 h6.2 o5 hnx) hM (hgot u hum)
              obtain ⟨h1, h2⟩ := h
              rw [hc0, f1, hX.1, ← hsta] at h1
              rw [f1, f2, f3] at h2
              exact p_view (u' := (vo, mo, ac, nI k, 1, mF μ k (mJ μ 9 u), lN (wC w k u), false, some (wL w u), mJ μ 9 u, hw2, pw)) hB ha hV r G' ⟨h1, h2⟩
            · rw [if_neg hP0] at hnx
              exact j_i (q_KF_next_10_bn l E hG hI0 hW0 hV ha hK hki hA (xEL_xEs hX) h0p (k := P) (by rw [hPd]; exact xEL_le hX _ _) (by rw [hPd]; exact xEL_cnt hX hsr _ _) hr hl1 hl2 (by unfold oBk; rw [if_neg hP0])) (p_view (u' := (vo, mo, ac, nI k, pl, pf, lN c, true, none, 0, hw2, pw)) hB ha hV) (fun hM' => q_MD_next_10 l E hM' h5.2 h5.1 hrm hle2 h6.2 o5 hnx) hM (h10 hnx)
          | false =>
            have hd : (if pl = 2 then lN c else lN c + 1) = lN (if decide (mI μ 18 i = 2) = true then c else c + 1) := by
              rw [← o7]
              by_cases h2 : pl = 2
              · rw [if_pos h2, if_pos (decide_eq_true h2)]
              · rw [if_neg h2, if_neg (by simp [h2]), lN_1]
            obtain ⟨P, hPd⟩ : ∃ P, P = cnt q.2 pf (if pl = 2 then lN c else lN c + 1) := ⟨_, rfl⟩
            have hnx : mNx μ i k false = (wR w k)[P]? := by
              unfold mNx
              rw [if_neg h0m, if_neg Bool.false_ne_true, e2, kx.aft (Or.inr hP), ← e3, ← hd, ← hPd]
            cases hu : (wR w k)[P]? with
            | none =>
              rw [hu] at hnx
              have hz := List.getElem?_eq_none_iff.mp hu
              exact j_i (q_KF_next_10_fn l E hG hI0 hW0 hV ha hK hki hA (xEL_xEs hX) h0p (k := P) (by rw [hPd]; exact xEL_le hX _ _) (by rw [hPd]; exact xEL_cnt hX hsr _ _) hr hl1 hl2 (by unfold oAt; rw [if_neg (by rw [hX.1]; omega)])) (p_view (u' := (vo, mo, ac, nI k, pl, pf, lN c, true, none, 0, hw2, pw)) hB ha hV) (fun hM' => q_MD_next_10 l E hM' h5.2 h5.1 hrm hle2 h6.2 o5 hnx) hM (h10 hnx)
            | some u =>
              rw [hu] at hnx
              have hum := List.mem_of_getElem? hu
              have hpl := (List.getElem?_eq_some_iff.mp hu).1
              obtain ⟨b, hb, hN⟩ := hX.2 _ _ (kx.at hu)
              obtain ⟨f1, f2, f3⟩ := kx.ef hu
              obtain ⟨hD, -⟩ := hw.dat hq hum
              obtain ⟨sw, -, hS⟩ := hs _ _ hD
              have hc0 : cnt q.2 (eF q.2 P) (eC q.2 P) = P := by rw [f1, f2]; exact kx.cnt0 hu
              have hsta := kx.sta hu false
              refine j_i (v := mSta μ k u false) (q_KF_next_got_fn l E hG hI0 hW0 hV ha hK hki hA (xEL_xEs hX) h0p (k := P) (by rw [hPd]; exact xEL_le hX _ _) (by rw [hPd]; exact xEL_cnt hX hsr _ _) hr hl1 hl2 (n := P) (by unfold oAt; rw [if_pos (by rw [hX.1]; omega)]) hb (by rw [f3]; exact hS) (xEL_le hX _ _) (xEL_cnt hX hsr (eF q.2 P) (eC q.2 P))) (fun r G' h => ?_) (fun hM' => q_MD_next_got l E hM' h5.2 h5.1 hrm hle2 h6.2 o5 hnx) hM (hgot u hum)
              obtain ⟨h1, h2⟩ := h
              rw [hc0, f1, hX.1, ← hsta] at h1
              rw [f1, f2, f3] at h2
              exact p_view (u' := (vo, mo, ac, nI k, 1, mF μ k (mJ μ 9 u), lN (wC w k u), false, some (wL w u), mJ μ 9 u, hw2, pw)) hB ha hV r G' ⟨h1, h2⟩
    · exact j_i (q_KF_next_ref l E hG hW0 hV ha hr) (p_pure hC0) (fun hM' => by rw [hrf]; exact q_MD_next_ref l E hM' h5.2 h5.1 (hrf ▸ hr)) hM (hR.thr hn)
end J5
