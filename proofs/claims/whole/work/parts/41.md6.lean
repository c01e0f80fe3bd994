set_option maxRecDepth 4000 in
set_option maxHeartbeats 800000 in
theorem q_MD_value_nv (l : Launch) (E : xE) {G : xw_G} {md : Nat} {a : Nat → Nat} {μ : MS} (hM : xMD E G md a μ) {j : Int32} (hj : mVw μ j = false) : XMk l E y_MD_value w_MD_value rm_MD_value [.ref md, .int (j)] G (fun r G' => r = some (.long (0)) ∧ xMD E G' md a (sS μ 0 0) ∧ xFc G G') 0 0 := by
  refine XM_of [some (.ref md), some (.int (j))] (XZ_st E) (by decide) rfl rfl rfl (Nat.le_of_ble_eq_true rfl) (fun p e s m below meth c C hnm => ?_)
  refine x_aload_n C d_MD_value_0 rfl rfl ?_
  refine x_iconst C (v := 0) d_MD_value_1 (by decide) ?_
  refine x_mSp C hM 0 (by decide) (x := 0) f_MD_72 rfl rfl rfl d_MD_value_2 (fun _ hMg1 hFg1 => ?_)
  refine x_aload_n C d_MD_value_5 rfl rfl ?_
  refine x_iload_n C d_MD_value_6 rfl rfl ?_
  refine x_callV1 C (q_MD_isView l E hMg1) (lk_MD_92 C.hts (Nat.le_of_ble_eq_true rfl) (Nat.le_of_ble_eq_true rfl)) hMg1.1 rfl rfl d_MD_value_7 (Nat.le_of_ble_eq_true rfl) (Nat.le_of_ble_eq_true rfl) (Nat.le_of_ble_eq_true rfl) (fun r G' h => ?_)
  obtain ⟨rfl, rfl⟩ : r = some (.int (bI (mVw μ (j)))) ∧ _ = G' := h
  refine x_if_eq C 22 d_MD_value_10 (by decide) (fun c_10 => ?_) (fun c_10 => ?_)
  · refine x_lconst C (v := 0) d_MD_value_22 (by decide) ?_
    exact x_lret C (Nat.le_of_ble_eq_true rfl) (Nat.le_of_ble_eq_true rfl) d_MD_value_23 ⟨rfl, hMg1, hFg1⟩
  · exact absurd (hj.symm.trans (bI_1 c_10)) (by decide)
set_option maxRecDepth 4000 in
set_option maxHeartbeats 800000 in
theorem q_MD_value (l : Launch) (E : xE) {G : xw_G} {md : Nat} {a : Nat → Nat} {μ : MS} (hM : xMD E G md a μ) {i : Nat} (hi : i < 5) (hv : mVw μ (nI i) = true) : XMk l E y_MD_value w_MD_value rm_MD_value [.ref md, .int (nI i)] G (fun r G' => r = some (.long (mJ μ 22 i)) ∧ xMD E G' md a (sS μ 0 0) ∧ xFc G G') 0 0 := by
  refine XM_of [some (.ref md), some (.int (nI i))] (XZ_st E) (by decide) rfl rfl rfl (Nat.le_of_ble_eq_true rfl) (fun p e s m below meth c C hnm => ?_)
  refine x_aload_n C d_MD_value_0 rfl rfl ?_
  refine x_iconst C (v := 0) d_MD_value_1 (by decide) ?_
  refine x_mSp C hM 0 (by decide) (x := 0) f_MD_72 rfl rfl rfl d_MD_value_2 (fun _ hMg1 hFg1 => ?_)
  refine x_aload_n C d_MD_value_5 rfl rfl ?_
  refine x_iload_n C d_MD_value_6 rfl rfl ?_
  refine x_callV1 C (q_MD_isView l E hMg1) (lk_MD_92 C.hts (Nat.le_of_ble_eq_true rfl) (Nat.le_of_ble_eq_true rfl)) hMg1.1 rfl rfl d_MD_value_7 (Nat.le_of_ble_eq_true rfl) (Nat.le_of_ble_eq_true rfl) (Nat.le_of_ble_eq_true rfl) (fun r G' h => ?_)
  obtain ⟨rfl, rfl⟩ : r = some (.int (bI (mVw μ (nI i)))) ∧ _ = G' := h
  refine x_if_eq C 22 d_MD_value_10 (by decide) (fun c_10 => ?_) (fun c_10 => ?_)
  · exact absurd (hv.symm.trans ((bI_0 _).mp c_10)) (by decide)
  · refine x_aload_n C d_MD_value_13 rfl rfl ?_
    refine x_get C hMg1.1 rfl (in_MD _) 22 (by decide) (List.mem_cons_of_mem _ f_MD_57) rfl d_MD_value_14 ?_
    refine x_iload_n C d_MD_value_17 rfl rfl ?_
    refine x_mJv C hMg1 22 5 kJ_22 rfl (j := i) (by omega) (mJ μ 22 i) rfl d_MD_value_18 ?_
    refine x_goto C 23 d_MD_value_19 (by decide) ?_
    exact x_lret C (Nat.le_of_ble_eq_true rfl) (Nat.le_of_ble_eq_true rfl) d_MD_value_23 ⟨rfl, hMg1, hFg1⟩
set_option maxRecDepth 4000 in
set_option maxHeartbeats 800000 in
theorem q_MD_reference_nv (l : Launch) (E : xE) {G : xw_G} {md : Nat} {a : Nat → Nat} {μ : MS} (hM : xMD E G md a μ) {j : Int32} (hj : mVw μ j = false) : XMk l E y_MD_reference w_MD_reference rm_MD_reference [.ref md, .int (j)] G (fun r G' => r = some (.int (-1)) ∧ xMD E G' md a (sS μ 0 0) ∧ xFc G G') 0 0 := by
  refine XM_of [some (.ref md), some (.int (j))] (XZ_st E) (by decide) rfl rfl rfl (Nat.le_of_ble_eq_true rfl) (fun p e s m below meth c C hnm => ?_)
  refine x_aload_n C d_MD_reference_0 rfl rfl ?_
  refine x_iconst C (v := 0) d_MD_reference_1 (by decide) ?_
  refine x_mSp C hM 0 (by decide) (x := 0) f_MD_72 rfl rfl rfl d_MD_reference_2 (fun _ hMg1 hFg1 => ?_)
  refine x_aload_n C d_MD_reference_5 rfl rfl ?_
  refine x_iload_n C d_MD_reference_6 rfl rfl ?_
  refine x_callV1 C (q_MD_isView l E hMg1) (lk_MD_92 C.hts (Nat.le_of_ble_eq_true rfl) (Nat.le_of_ble_eq_true rfl)) hMg1.1 rfl rfl d_MD_reference_7 (Nat.le_of_ble_eq_true rfl) (Nat.le_of_ble_eq_true rfl) (Nat.le_of_ble_eq_true rfl) (fun r G' h => ?_)
  obtain ⟨rfl, rfl⟩ : r = some (.int (bI (mVw μ (j)))) ∧ _ = G' := h
  refine x_if_eq C 22 d_MD_reference_10 (by decide) (fun c_10 => ?_) (fun c_10 => ?_)
  · refine x_iconst C (v := -1) d_MD_reference_22 (by decide) ?_
    refine x_goto C 32 d_MD_reference_23 (by decide) ?_
    exact x_iret C (Nat.le_of_ble_eq_true rfl) (Nat.le_of_ble_eq_true rfl) d_MD_reference_32 ⟨rfl, hMg1, hFg1⟩
  · exact absurd (hj.symm.trans (bI_1 c_10)) (by decide)
set_option maxRecDepth 4000 in
set_option maxHeartbeats 800000 in
theorem q_MD_reference (l : Launch) (E : xE) {G : xw_G} {md : Nat} {a : Nat → Nat} {μ : MS} (hM : xMD E G md a μ) {i : Nat} (hi : i < 5) (hv : mVw μ (nI i) = true) : XMk l E y_MD_reference w_MD_reference rm_MD_reference [.ref md, .int (nI i)] G (fun r G' => r = some (.int (if mZ μ 24 i = false then -1 else mI μ 17 i)) ∧ xMD E G' md a (sS μ 0 0) ∧ xFc G G') 0 0 := by
  refine XM_of [some (.ref md), some (.int (nI i))] (XZ_st E) (by decide) rfl rfl rfl (Nat.le_of_ble_eq_true rfl) (fun p e s m below meth c C hnm => ?_)
  refine x_aload_n C d_MD_reference_0 rfl rfl ?_
  refine x_iconst C (v := 0) d_MD_reference_1 (by decide) ?_
  refine x_mSp C hM 0 (by decide) (x := 0) f_MD_72 rfl rfl rfl d_MD_reference_2 (fun _ hMg1 hFg1 => ?_)
  refine x_aload_n C d_MD_reference_5 rfl rfl ?_
  refine x_iload_n C d_MD_reference_6 rfl rfl ?_
  refine x_callV1 C (q_MD_isView l E hMg1) (lk_MD_92 C.hts (Nat.le_of_ble_eq_true rfl) (Nat.le_of_ble_eq_true rfl)) hMg1.1 rfl rfl d_MD_reference_7 (Nat.le_of_ble_eq_true rfl) (Nat.le_of_ble_eq_true rfl) (Nat.le_of_ble_eq_true rfl) (fun r G' h => ?_)
  obtain ⟨rfl, rfl⟩ : r = some (.int (bI (mVw μ (nI i)))) ∧ _ = G' := h
  refine x_if_eq C 22 d_MD_reference_10 (by decide) (fun c_10 => ?_) (fun c_10 => ?_)
  · exact absurd (hv.symm.trans ((bI_0 _).mp c_10)) (by decide)
  · refine x_aload_n C d_MD_reference_13 rfl rfl ?_
    refine x_get C hMg1.1 rfl (in_MD _) 24 (by decide) (List.mem_cons_of_mem _ f_MD_63) rfl d_MD_reference_14 ?_
    refine x_iload_n C d_MD_reference_17 rfl rfl ?_
    refine x_mZv C hMg1 24 5 kZ_24 rfl (j := i) (by omega) (mZ μ 24 i) rfl d_MD_reference_18 ?_
    refine x_if_ne C 26 d_MD_reference_19 (by decide) (fun c_19 => ?_) (fun c_19 => ?_)
    · refine x_aload_n C d_MD_reference_26 rfl rfl ?_
      refine x_get C hMg1.1 rfl (in_MD _) 17 (by decide) (List.mem_cons_of_mem _ f_MD_42) rfl d_MD_reference_27 ?_
      refine x_iload_n C d_MD_reference_30 rfl rfl ?_
      refine x_mIv C hMg1 17 5 kI_17 rfl (j := i) (by omega) (mI μ 17 i) rfl d_MD_reference_31 ?_
      exact x_iret C (Nat.le_of_ble_eq_true rfl) (Nat.le_of_ble_eq_true rfl) d_MD_reference_32 ⟨congrArg some (congrArg Value.int (by simp_all [bI_0])), hMg1, hFg1⟩
    · refine x_iconst C (v := -1) d_MD_reference_22 (by decide) ?_
      refine x_goto C 32 d_MD_reference_23 (by decide) ?_
      exact x_iret C (Nat.le_of_ble_eq_true rfl) (Nat.le_of_ble_eq_true rfl) d_MD_reference_32 ⟨congrArg some (congrArg Value.int (by simp_all [bI_0])), hMg1, hFg1⟩
set_option maxRecDepth 4000 in
set_option maxHeartbeats 800000 in
theorem q_MD_whole (l : Launch) (E : xE) {G : xw_G} {md : Nat} {a : Nat → Nat} {μ : MS} (hM : xMD E G md a μ) : XMk l E y_MD_whole w_MD_whole rm_MD_whole [.ref md] G (fun r G' => r = some (.int (1)) ∧ xMD E G' md a (sS μ 0 0) ∧ xFc G G') 0 0 := by
  refine XM_of [some (.ref md)] (XZ_st E) (by decide) rfl rfl rfl (Nat.le_of_ble_eq_true rfl) (fun p e s m below meth c C hnm => ?_)
  refine x_aload_n C d_MD_whole_0 rfl rfl ?_
  refine x_iconst C (v := 0) d_MD_whole_1 (by decide) ?_
  refine x_mSp C hM 0 (by decide) (x := 0) f_MD_72 rfl rfl rfl d_MD_whole_2 (fun _ hMg1 hFg1 => ?_)
  refine x_iconst C (v := 1) d_MD_whole_5 (by decide) ?_
  exact x_zret C rfl (Nat.le_of_ble_eq_true rfl) (Nat.le_of_ble_eq_true rfl) d_MD_whole_6 ⟨rfl, hMg1, hFg1⟩
set_option maxRecDepth 4000 in
set_option maxHeartbeats 800000 in
theorem q_MD_count_nk (l : Launch) (E : xE) {G : xw_G} {md : Nat} {a : Nat → Nat} {μ : MS} (hM : xMD E G md a μ) {j2 : Int32} (hj2 : mKy μ j2 = false) : XMk l E y_MD_count w_MD_count rm_MD_count [.ref md, .int (j2)] G (fun r G' => r = some (.int (-1)) ∧ xMD E G' md a (sS μ 0 0) ∧ xFc G G') 0 0 := by
  refine XM_of [some (.ref md), some (.int (j2)), none, none] (XZ_st E) (by decide) rfl rfl rfl (Nat.le_of_ble_eq_true rfl) (fun p e s m below meth c C hnm => ?_)
  refine x_aload_n C d_MD_count_0 rfl rfl ?_
  refine x_iconst C (v := 0) d_MD_count_1 (by decide) ?_
  refine x_mSp C hM 0 (by decide) (x := 0) f_MD_72 rfl rfl rfl d_MD_count_2 (fun _ hMg1 hFg1 => ?_)
  refine x_aload_n C d_MD_count_5 rfl rfl ?_
  refine x_iload_n C d_MD_count_6 rfl rfl ?_
  refine x_callV1 C (q_MD_isKey l E hMg1) (lk_MD_88 C.hts (Nat.le_of_ble_eq_true rfl) (Nat.le_of_ble_eq_true rfl)) hMg1.1 rfl rfl d_MD_count_7 (Nat.le_of_ble_eq_true rfl) (Nat.le_of_ble_eq_true rfl) (Nat.le_of_ble_eq_true rfl) (fun r G' h => ?_)
  obtain ⟨rfl, rfl⟩ : r = some (.int (bI (mKy μ (j2)))) ∧ _ = G' := h
  refine x_if_ne C 15 d_MD_count_10 (by decide) (fun c_10 => ?_) (fun c_10 => ?_)
  · exact absurd (hj2.symm.trans (bI_1 c_10)) (by decide)
  · refine x_iconst C (v := -1) d_MD_count_13 (by decide) ?_
    exact x_iret C (Nat.le_of_ble_eq_true rfl) (Nat.le_of_ble_eq_true rfl) d_MD_count_14 ⟨rfl, hMg1, hFg1⟩
set_option maxRecDepth 4000 in
set_option maxHeartbeats 800000 in
theorem q_MD_close_nv (l : Launch) (E : xE) {G : xw_G} {md : Nat} {a : Nat → Nat} {μ : MS} (hM : xMD E G md a μ) {j : Int32} (hj : mVw μ j = false) : XMk l E y_MD_close w_MD_close rm_MD_close [.ref md, .int (j)] G (fun r G' => r = some (.int (-1)) ∧ xMD E G' md a (sS μ 0 0) ∧ xFc G G') 0 0 := by
  refine XM_of [some (.ref md), some (.int (j))] (XZ_st E) (by decide) rfl rfl rfl (Nat.le_of_ble_eq_true rfl) (fun p e s m below meth c C hnm => ?_)
  refine x_aload_n C d_MD_close_0 rfl rfl ?_
  refine x_iconst C (v := 0) d_MD_close_1 (by decide) ?_
  refine x_mSp C hM 0 (by decide) (x := 0) f_MD_72 rfl rfl rfl d_MD_close_2 (fun _ hMg1 hFg1 => ?_)
  refine x_aload_n C d_MD_close_5 rfl rfl ?_
  refine x_iload_n C d_MD_close_6 rfl rfl ?_
  refine x_callV1 C (q_MD_isView l E hMg1) (lk_MD_92 C.hts (Nat.le_of_ble_eq_true rfl) (Nat.le_of_ble_eq_true rfl)) hMg1.1 rfl rfl d_MD_close_7 (Nat.le_of_ble_eq_true rfl) (Nat.le_of_ble_eq_true rfl) (Nat.le_of_ble_eq_true rfl) (fun r G' h => ?_)
  obtain ⟨rfl, rfl⟩ : r = some (.int (bI (mVw μ (j)))) ∧ _ = G' := h
  refine x_if_ne C 15 d_MD_close_10 (by decide) (fun c_10 => ?_) (fun c_10 => ?_)
  · exact absurd (hj.symm.trans (bI_1 c_10)) (by decide)
  · refine x_iconst C (v := -1) d_MD_close_13 (by decide) ?_
    exact x_iret C (Nat.le_of_ble_eq_true rfl) (Nat.le_of_ble_eq_true rfl) d_MD_close_14 ⟨rfl, hMg1, hFg1⟩
set_option maxRecDepth 4000 in
set_option maxHeartbeats 800000 in
theorem q_MD_close_shut (l : Launch) (E : xE) {G : xw_G} {md : Nat} {a : Nat → Nat} {μ : MS} (hM : xMD E G md a μ) {i : Nat} (hi : i < 5) (hv : mVw μ (nI i) = true) (ho : mZ μ 24 i = false) : XMk l E y_MD_close w_MD_close rm_MD_close [.ref md, .int (nI i)] G (fun r G' => r = some (.int (42)) ∧ xMD E G' md a (sS μ 0 0) ∧ xFc G G') 0 0 := by
  refine XM_of [some (.ref md), some (.int (nI i))] (XZ_st E) (by decide) rfl rfl rfl (Nat.le_of_ble_eq_true rfl) (fun p e s m below meth c C hnm => ?_)
  refine x_aload_n C d_MD_close_0 rfl rfl ?_
  refine x_iconst C (v := 0) d_MD_close_1 (by decide) ?_
  refine x_mSp C hM 0 (by decide) (x := 0) f_MD_72 rfl rfl rfl d_MD_close_2 (fun _ hMg1 hFg1 => ?_)
  refine x_aload_n C d_MD_close_5 rfl rfl ?_
  refine x_iload_n C d_MD_close_6 rfl rfl ?_
  refine x_callV1 C (q_MD_isView l E hMg1) (lk_MD_92 C.hts (Nat.le_of_ble_eq_true rfl) (Nat.le_of_ble_eq_true rfl)) hMg1.1 rfl rfl d_MD_close_7 (Nat.le_of_ble_eq_true rfl) (Nat.le_of_ble_eq_true rfl) (Nat.le_of_ble_eq_true rfl) (fun r G' h => ?_)
  obtain ⟨rfl, rfl⟩ : r = some (.int (bI (mVw μ (nI i)))) ∧ _ = G' := h
  refine x_if_ne C 15 d_MD_close_10 (by decide) (fun c_10 => ?_) (fun c_10 => ?_)
  · refine x_aload_n C d_MD_close_15 rfl rfl ?_
    refine x_get C hMg1.1 rfl (in_MD _) 24 (by decide) (List.mem_cons_of_mem _ f_MD_63) rfl d_MD_close_16 ?_
    refine x_iload_n C d_MD_close_19 rfl rfl ?_
    refine x_mZv C hMg1 24 5 kZ_24 rfl (j := i) (by omega) (mZ μ 24 i) rfl d_MD_close_20 ?_
    refine x_if_ne C 27 d_MD_close_21 (by decide) (fun c_21 => ?_) (fun c_21 => ?_)
    · exact absurd (ho.symm.trans (bI_1 c_21)) (by decide)
    · refine x_bipush C (v := 42) d_MD_close_24 (by decide) ?_
      exact x_iret C (Nat.le_of_ble_eq_true rfl) (Nat.le_of_ble_eq_true rfl) d_MD_close_26 ⟨rfl, hMg1, hFg1⟩
  · exact absurd (hv.symm.trans ((bI_0 _).mp c_10)) (by decide)
set_option maxRecDepth 4000 in
set_option maxHeartbeats 800000 in
theorem q_MD_close_open (l : Launch) (E : xE) {G : xw_G} {md : Nat} {a : Nat → Nat} {μ : MS} (hM : xMD E G md a μ) {i : Nat} (hi : i < 5) (hv : mVw μ (nI i) = true) (ho : mZ μ 24 i = true) : XMk l E y_MD_close w_MD_close rm_MD_close [.ref md, .int (nI i)] G (fun r G' => r = some (.int (0)) ∧ xMD E G' md a (mCls μ i) ∧ xFc G G') 0 0 := by
  refine XM_of [some (.ref md), some (.int (nI i))] (XZ_st E) (by decide) rfl rfl rfl (Nat.le_of_ble_eq_true rfl) (fun p e s m below meth c C hnm => ?_)
  refine x_aload_n C d_MD_close_0 rfl rfl ?_
  refine x_iconst C (v := 0) d_MD_close_1 (by decide) ?_
  refine x_mSp C hM 0 (by decide) (x := 0) f_MD_72 rfl rfl rfl d_MD_close_2 (fun _ hMg1 hFg1 => ?_)
  refine x_aload_n C d_MD_close_5 rfl rfl ?_
  refine x_iload_n C d_MD_close_6 rfl rfl ?_
  refine x_callV1 C (q_MD_isView l E hMg1) (lk_MD_92 C.hts (Nat.le_of_ble_eq_true rfl) (Nat.le_of_ble_eq_true rfl)) hMg1.1 rfl rfl d_MD_close_7 (Nat.le_of_ble_eq_true rfl) (Nat.le_of_ble_eq_true rfl) (Nat.le_of_ble_eq_true rfl) (fun r G' h => ?_)
  obtain ⟨rfl, rfl⟩ : r = some (.int (bI (mVw μ (nI i)))) ∧ _ = G' := h
  refine x_if_ne C 15 d_MD_close_10 (by decide) (fun c_10 => ?_) (fun c_10 => ?_)
  · refine x_aload_n C d_MD_close_15 rfl rfl ?_
    refine x_get C hMg1.1 rfl (in_MD _) 24 (by decide) (List.mem_cons_of_mem _ f_MD_63) rfl d_MD_close_16 ?_
    refine x_iload_n C d_MD_close_19 rfl rfl ?_
    refine x_mZv C hMg1 24 5 kZ_24 rfl (j := i) (by omega) (mZ μ 24 i) rfl d_MD_close_20 ?_
    refine x_if_ne C 27 d_MD_close_21 (by decide) (fun c_21 => ?_) (fun c_21 => ?_)
    · refine x_aload_n C d_MD_close_27 rfl rfl ?_
      refine x_get C hMg1.1 rfl (in_MD _) 24 (by decide) (List.mem_cons_of_mem _ f_MD_63) rfl d_MD_close_28 ?_
      refine x_iload_n C d_MD_close_31 rfl rfl ?_
      refine x_iconst C (v := 0) d_MD_close_32 (by decide) ?_
      refine x_mZs C hMg1 24 5 kZ_24 (j := i) false rfl (by omega) d_MD_close_33 (fun _ hMg2 hFg2 => ?_)
      refine x_aload_n C d_MD_close_34 rfl rfl ?_
      refine x_get C hMg2.1 rfl (in_MD _) 20 (by decide) (List.mem_cons_of_mem _ f_MD_51) rfl d_MD_close_35 ?_
      refine x_iload_n C d_MD_close_38 rfl rfl ?_
      refine x_iconst C (v := 0) d_MD_close_39 (by decide) ?_
      refine x_mIs C hMg2 20 5 kI_20 (j := i) (x := 0) rfl (by omega) d_MD_close_40 (fun _ hMg3 hFg3 => ?_)
      refine x_aload_n C d_MD_close_41 rfl rfl ?_
      refine x_get C hMg3.1 rfl (in_MD _) 22 (by decide) (List.mem_cons_of_mem _ f_MD_57) rfl d_MD_close_42 ?_
      refine x_iload_n C d_MD_close_45 rfl rfl ?_
      refine x_lconst C (v := 0) d_MD_close_46 (by decide) ?_
      refine x_mJs C hMg3 22 5 kJ_22 (j := i) (x := 0) rfl (by omega) d_MD_close_47 (fun _ hMg4 hFg4 => ?_)
      refine x_iconst C (v := 0) d_MD_close_48 (by decide) ?_
      exact x_iret C (Nat.le_of_ble_eq_true rfl) (Nat.le_of_ble_eq_true rfl) d_MD_close_49 ⟨rfl, hMg4, ((hFg1.tr hFg2).tr hFg3).tr hFg4⟩
    · exact absurd (ho.symm.trans ((bI_0 _).mp c_21)) (by decide)
  · exact absurd (hv.symm.trans ((bI_0 _).mp c_10)) (by decide)
set_option maxRecDepth 4000 in
set_option maxHeartbeats 800000 in
theorem q_MD_sparse_nk (l : Launch) (E : xE) {G : xw_G} {md : Nat} {a : Nat → Nat} {μ : MS} (hM : xMD E G md a μ) {j2 : Int32} (hj2 : mKy μ j2 = false) {z : Int64} : XMk l E y_MD_sparse w_MD_sparse rm_MD_sparse [.ref md, .int (j2), .long (z)] G (fun r G' => r = some (.int (-1)) ∧ xMD E G' md a (sS μ 0 0) ∧ xFc G G') 0 0 := by
  refine XM_of [some (.ref md), some (.int (j2)), some (.long (z)), none] (XZ_st E) (by decide) rfl rfl rfl (Nat.le_of_ble_eq_true rfl) (fun p e s m below meth c C hnm => ?_)
  refine x_aload_n C d_MD_sparse_0 rfl rfl ?_
  refine x_iconst C (v := 0) d_MD_sparse_1 (by decide) ?_
  refine x_mSp C hM 0 (by decide) (x := 0) f_MD_72 rfl rfl rfl d_MD_sparse_2 (fun _ hMg1 hFg1 => ?_)
  refine x_aload_n C d_MD_sparse_5 rfl rfl ?_
  refine x_iload_n C d_MD_sparse_6 rfl rfl ?_
  refine x_callV1 C (q_MD_isKey l E hMg1) (lk_MD_88 C.hts (Nat.le_of_ble_eq_true rfl) (Nat.le_of_ble_eq_true rfl)) hMg1.1 rfl rfl d_MD_sparse_7 (Nat.le_of_ble_eq_true rfl) (Nat.le_of_ble_eq_true rfl) (Nat.le_of_ble_eq_true rfl) (fun r G' h => ?_)
  obtain ⟨rfl, rfl⟩ : r = some (.int (bI (mKy μ (j2)))) ∧ _ = G' := h
  refine x_if_eq C 24 d_MD_sparse_10 (by decide) (fun c_10 => ?_) (fun c_10 => ?_)
  · refine x_iconst C (v := -1) d_MD_sparse_24 (by decide) ?_
    exact x_iret C (Nat.le_of_ble_eq_true rfl) (Nat.le_of_ble_eq_true rfl) d_MD_sparse_25 ⟨rfl, hMg1, hFg1⟩
  · exact absurd (hj2.symm.trans (bI_1 c_10)) (by decide)
set_option maxRecDepth 4000 in
set_option maxHeartbeats 800000 in
theorem q_MD_sparse_no (l : Launch) (E : xE) {G : xw_G} {md : Nat} {a : Nat → Nat} {μ : MS} (hM : xMD E G md a μ) {k : Nat} (hk : k < 6) (hkv : mKy μ (nI k) = true) {z : Int64} (hb : k = 0 ∨ mO μ = true) : XMk l E y_MD_sparse w_MD_sparse rm_MD_sparse [.ref md, .int (nI k), .long (z)] G (fun r G' => r = some (.int (-1)) ∧ xMD E G' md a (sS μ 0 0) ∧ xFc G G') 0 0 := by
  refine XM_of [some (.ref md), some (.int (nI k)), some (.long (z)), none] (XZ_st E) (by decide) rfl rfl rfl (Nat.le_of_ble_eq_true rfl) (fun p e s m below meth c C hnm => ?_)
  refine x_aload_n C d_MD_sparse_0 rfl rfl ?_
  refine x_iconst C (v := 0) d_MD_sparse_1 (by decide) ?_
  refine x_mSp C hM 0 (by decide) (x := 0) f_MD_72 rfl rfl rfl d_MD_sparse_2 (fun _ hMg1 hFg1 => ?_)
  refine x_aload_n C d_MD_sparse_5 rfl rfl ?_
  refine x_iload_n C d_MD_sparse_6 rfl rfl ?_
  refine x_callV1 C (q_MD_isKey l E hMg1) (lk_MD_88 C.hts (Nat.le_of_ble_eq_true rfl) (Nat.le_of_ble_eq_true rfl)) hMg1.1 rfl rfl d_MD_sparse_7 (Nat.le_of_ble_eq_true rfl) (Nat.le_of_ble_eq_true rfl) (Nat.le_of_ble_eq_true rfl) (fun r G' h => ?_)
  obtain ⟨rfl, rfl⟩ : r = some (.int (bI (mKy μ (nI k)))) ∧ _ = G' := h
  refine x_if_eq C 24 d_MD_sparse_10 (by decide) (fun c_10 => ?_) (fun c_10 => ?_)
  · exact absurd (hkv.symm.trans ((bI_0 _).mp c_10)) (by decide)
  · refine x_iload_n C d_MD_sparse_13 rfl rfl ?_
    refine x_if_eq C 24 d_MD_sparse_14 (by decide) (fun c_14 => ?_) (fun c_14 => ?_)
    · refine x_iconst C (v := -1) d_MD_sparse_24 (by decide) ?_
      exact x_iret C (Nat.le_of_ble_eq_true rfl) (Nat.le_of_ble_eq_true rfl) d_MD_sparse_25 ⟨rfl, hMg1, hFg1⟩
    · refine x_aload_n C d_MD_sparse_17 rfl rfl ?_
      refine x_get C hMg1.1 rfl (in_MD _) 8 (by decide) (List.mem_cons_of_mem _ f_MD_84) rfl d_MD_sparse_18 ?_
      refine x_as1 (v := .int (bI (mO μ))) rfl ?_
      refine x_if_eq C 26 d_MD_sparse_21 (by decide) (fun c_21 => ?_) (fun c_21 => ?_)
      · exact absurd hb (fun z => z.elim (fun z => c_14 (by rw [z]; rfl)) (fun z => absurd (z.symm.trans ((bI_0 _).mp c_21)) (by decide)))
      · refine x_iconst C (v := -1) d_MD_sparse_24 (by decide) ?_
        exact x_iret C (Nat.le_of_ble_eq_true rfl) (Nat.le_of_ble_eq_true rfl) d_MD_sparse_25 ⟨rfl, hMg1, hFg1⟩
set_option maxRecDepth 4000 in
set_option maxHeartbeats 800000 in
theorem q_MD_sparse_ok (l : Launch) (E : xE) {G : xw_G} {md : Nat} {a : Nat → Nat} {μ : MS} (hM : xMD E G md a μ) {k : Nat} (hk : k < 6) (hkv : mKy μ (nI k) = true) {z : Int64} (h0 : ¬ k = 0) (ho : mO μ = false) : XMk l E y_MD_sparse w_MD_sparse rm_MD_sparse [.ref md, .int (nI k), .long (z)] G (fun r G' => r = some (.int (1)) ∧ xMD E G' md a (sJ (sZ (sS μ 0 0) 4 k true) 5 k z) ∧ xFc G G') 0 0 := by
  refine XM_of [some (.ref md), some (.int (nI k)), some (.long (z)), none] (XZ_st E) (by decide) rfl rfl rfl (Nat.le_of_ble_eq_true rfl) (fun p e s m below meth c C hnm => ?_)
  refine x_aload_n C d_MD_sparse_0 rfl rfl ?_
  refine x_iconst C (v := 0) d_MD_sparse_1 (by decide) ?_
  refine x_mSp C hM 0 (by decide) (x := 0) f_MD_72 rfl rfl rfl d_MD_sparse_2 (fun _ hMg1 hFg1 => ?_)
  refine x_aload_n C d_MD_sparse_5 rfl rfl ?_
  refine x_iload_n C d_MD_sparse_6 rfl rfl ?_
  refine x_callV1 C (q_MD_isKey l E hMg1) (lk_MD_88 C.hts (Nat.le_of_ble_eq_true rfl) (Nat.le_of_ble_eq_true rfl)) hMg1.1 rfl rfl d_MD_sparse_7 (Nat.le_of_ble_eq_true rfl) (Nat.le_of_ble_eq_true rfl) (Nat.le_of_ble_eq_true rfl) (fun r G' h => ?_)
  obtain ⟨rfl, rfl⟩ : r = some (.int (bI (mKy μ (nI k)))) ∧ _ = G' := h
  refine x_if_eq C 24 d_MD_sparse_10 (by decide) (fun c_10 => ?_) (fun c_10 => ?_)
  · exact absurd (hkv.symm.trans ((bI_0 _).mp c_10)) (by decide)
  · refine x_iload_n C d_MD_sparse_13 rfl rfl ?_
    refine x_if_eq C 24 d_MD_sparse_14 (by decide) (fun c_14 => ?_) (fun c_14 => ?_)
    · exact absurd c_14 (nI_ne0 (by omega) (by omega))
    · refine x_aload_n C d_MD_sparse_17 rfl rfl ?_
      refine x_get C hMg1.1 rfl (in_MD _) 8 (by decide) (List.mem_cons_of_mem _ f_MD_84) rfl d_MD_sparse_18 ?_
      refine x_as1 (v := .int (bI (mO μ))) rfl ?_
      refine x_if_eq C 26 d_MD_sparse_21 (by decide) (fun c_21 => ?_) (fun c_21 => ?_)
      · refine x_aload_n C d_MD_sparse_26 rfl rfl ?_
        refine x_get C hMg1.1 rfl (in_MD _) 4 (by decide) (List.mem_cons_of_mem _ f_MD_20) rfl d_MD_sparse_27 ?_
        refine x_iload_n C d_MD_sparse_30 rfl rfl ?_
        refine x_iconst C (v := 1) d_MD_sparse_31 (by decide) ?_
        refine x_mZs C hMg1 4 6 kZ_4 (j := k) true rfl (by omega) d_MD_sparse_32 (fun _ hMg2 hFg2 => ?_)
        refine x_aload_n C d_MD_sparse_33 rfl rfl ?_
        refine x_get C hMg2.1 rfl (in_MD _) 5 (by decide) (List.mem_cons_of_mem _ f_MD_23) rfl d_MD_sparse_34 ?_
        refine x_iload_n C d_MD_sparse_37 rfl rfl ?_
        refine x_lload_n C d_MD_sparse_38 rfl rfl ?_
        refine x_mJs C hMg2 5 6 kJ_5 (j := k) (x := z) rfl (by omega) d_MD_sparse_39 (fun _ hMg3 hFg3 => ?_)
        refine x_iconst C (v := 1) d_MD_sparse_40 (by decide) ?_
        exact x_iret C (Nat.le_of_ble_eq_true rfl) (Nat.le_of_ble_eq_true rfl) d_MD_sparse_41 ⟨rfl, hMg3, (hFg1.tr hFg2).tr hFg3⟩
      · exact absurd (ho.symm.trans (bI_1 c_21)) (by decide)
set_option maxRecDepth 4000 in
set_option maxHeartbeats 800000 in
theorem q_MD_view_no (l : Launch) (E : xE) {G : xw_G} {md : Nat} {a : Nat → Nat} {μ : MS} (hM : xMD E G md a μ) (hb : mS μ 7 = 5 ∨ mS μ 6 = 0) : XMk l E y_MD_view w_MD_view rm_MD_view [.ref md] G (fun r G' => r = some (.int (-1)) ∧ xMD E G' md a (sS μ 0 0) ∧ xFc G G') 0 0 := by
  refine XM_of [some (.ref md)] (XZ_st E) (by decide) rfl rfl rfl (Nat.le_of_ble_eq_true rfl) (fun p e s m below meth c C hnm => ?_)
  refine x_aload_n C d_MD_view_0 rfl rfl ?_
  refine x_iconst C (v := 0) d_MD_view_1 (by decide) ?_
  refine x_mSp C hM 0 (by decide) (x := 0) f_MD_72 rfl rfl rfl d_MD_view_2 (fun _ hMg1 hFg1 => ?_)
  refine x_aload_n C d_MD_view_5 rfl rfl ?_
  refine x_get C hMg1.1 rfl (in_MD _) 7 (by decide) (List.mem_cons_of_mem _ f_MD_81) rfl d_MD_view_6 ?_
  refine x_as1 (v := .int (mS μ 7)) rfl ?_
  refine x_iconst C (v := 5) d_MD_view_9 (by decide) ?_
  refine x_icmp_eq C 20 d_MD_view_10 (by decide) (fun c_10 => ?_) (fun c_10 => ?_)
  · refine x_iconst C (v := -1) d_MD_view_20 (by decide) ?_
    exact x_iret C (Nat.le_of_ble_eq_true rfl) (Nat.le_of_ble_eq_true rfl) d_MD_view_21 ⟨rfl, hMg1, hFg1⟩
  · refine x_aload_n C d_MD_view_13 rfl rfl ?_
    refine x_get C hMg1.1 rfl (in_MD _) 6 (by decide) (List.mem_cons_of_mem _ f_MD_78) rfl d_MD_view_14 ?_
    refine x_as1 (v := .int (mS μ 6)) rfl ?_
    refine x_if_ne C 22 d_MD_view_17 (by decide) (fun c_17 => ?_) (fun c_17 => ?_)
    · exact absurd hb (fun z => z.elim c_10 c_17)
    · refine x_iconst C (v := -1) d_MD_view_20 (by decide) ?_
      exact x_iret C (Nat.le_of_ble_eq_true rfl) (Nat.le_of_ble_eq_true rfl) d_MD_view_21 ⟨rfl, hMg1, hFg1⟩
set_option maxRecDepth 4000 in
set_option maxHeartbeats 800000 in
theorem q_MD_view_ok (l : Launch) (E : xE) {G : xw_G} {md : Nat} {a : Nat → Nat} {μ : MS} (hM : xMD E G md a μ) {V : Nat} (hV : mS μ 7 = nI V) (hb : ¬ (mS μ 7 = 5 ∨ mS μ 6 = 0)) : XMk l E y_MD_view w_MD_view rm_MD_view [.ref md] G (fun r G' => r = some (.int (nI V)) ∧ xMD E G' md a (sS (sS μ 0 0) 7 (nI (V + 1))) ∧ xFc G G') 0 0 := by
  refine XM_of [some (.ref md)] (XZ_st E) (by decide) rfl rfl rfl (Nat.le_of_ble_eq_true rfl) (fun p e s m below meth c C hnm => ?_)
  refine x_aload_n C d_MD_view_0 rfl rfl ?_
  refine x_iconst C (v := 0) d_MD_view_1 (by decide) ?_
  refine x_mSp C hM 0 (by decide) (x := 0) f_MD_72 rfl rfl rfl d_MD_view_2 (fun _ hMg1 hFg1 => ?_)
  refine x_aload_n C d_MD_view_5 rfl rfl ?_
  refine x_get C hMg1.1 rfl (in_MD _) 7 (by decide) (List.mem_cons_of_mem _ f_MD_81) rfl d_MD_view_6 ?_
  refine x_as1 (v := .int (mS μ 7)) rfl ?_
  refine x_iconst C (v := 5) d_MD_view_9 (by decide) ?_
  refine x_icmp_eq C 20 d_MD_view_10 (by decide) (fun c_10 => ?_) (fun c_10 => ?_)
  · exact absurd (Or.inl c_10) hb
  · refine x_aload_n C d_MD_view_13 rfl rfl ?_
    refine x_get C hMg1.1 rfl (in_MD _) 6 (by decide) (List.mem_cons_of_mem _ f_MD_78) rfl d_MD_view_14 ?_
    refine x_as1 (v := .int (mS μ 6)) rfl ?_
    refine x_if_ne C 22 d_MD_view_17 (by decide) (fun c_17 => ?_) (fun c_17 => ?_)
    · refine x_aload_n C d_MD_view_22 rfl rfl ?_
      refine x_dup C d_MD_view_23 rfl ?_
      refine x_get C hMg1.1 rfl (in_MD _) 7 (by decide) (List.mem_cons_of_mem _ f_MD_81) rfl d_MD_view_24 ?_
      refine x_as1 (v := .int (mS μ 7)) rfl ?_
      refine x_iconst C (v := 1) d_MD_view_27 (by decide) ?_
      refine x_iadd C d_MD_view_28 ?_
      refine x_mSp C hMg1 7 (by decide) (x := (mS μ 7) + (1)) f_MD_81 rfl rfl rfl d_MD_view_29 (fun _ hMg2 hFg2 => ?_)
      refine x_aload_n C d_MD_view_32 rfl rfl ?_
      refine x_get C hMg2.1 rfl (in_MD _) 7 (by decide) (List.mem_cons_of_mem _ f_MD_81) rfl d_MD_view_33 ?_
      refine x_as1 (v := .int (mS (sS (sS μ 0 (0)) 7 ((mS μ 7) + (1))) 7)) rfl ?_
      refine x_iconst C (v := 1) d_MD_view_36 (by decide) ?_
      refine x_isub C d_MD_view_37 ?_
      exact x_iret C (Nat.le_of_ble_eq_true rfl) (Nat.le_of_ble_eq_true rfl) d_MD_view_38 ⟨congrArg some (congrArg Value.int (show mS μ 7 + 1 - 1 = nI V from by rw [hV, nI_1, nI_pred])), by have h := hMg2; rw [show mS μ 7 + 1 = nI (V + 1) from by rw [hV, nI_1]] at h; exact h, hFg1.tr hFg2⟩
    · exact absurd (Or.inr c_17) hb
set_option maxRecDepth 4000 in
set_option maxHeartbeats 800000 in
theorem q_MD_key_no (l : Launch) (E : xE) {G : xw_G} {md : Nat} {a : Nat → Nat} {μ : MS} (hM : xMD E G md a μ) {pr db : Bool} {fr sz : Int32} (hb : mO μ = true ∨ mS μ 6 = 6 ∨ pr ≠ decide (mS μ 6 = 0) ∨ (pr = true ∧ db = true) ∨ sz < 1 ∨ 8 < sz ∨ fr < 0 ∨ 8 - sz < fr) : XMk l E y_MD_key w_MD_key rm_MD_key [.ref md, .int (bI pr), .int (bI db), .int (fr), .int (sz)] G (fun r G' => r = some (.int (-1)) ∧ xMD E G' md a (sS μ 0 0) ∧ xFc G G') 0 0 := by
  refine XM_of [some (.ref md), some (.int (bI pr)), some (.int (bI db)), some (.int (fr)), some (.int (sz)), none] (XZ_st E) (by decide) rfl rfl rfl (Nat.le_of_ble_eq_true rfl) (fun p e s m below meth c C hnm => ?_)
  refine x_aload_n C d_MD_key_0 rfl rfl ?_
  refine x_iconst C (v := 0) d_MD_key_1 (by decide) ?_
  refine x_mSp C hM 0 (by decide) (x := 0) f_MD_72 rfl rfl rfl d_MD_key_2 (fun _ hMg1 hFg1 => ?_)
  refine x_iload C d_MD_key_5 rfl ?_
  refine x_iconst C (v := 1) d_MD_key_7 (by decide) ?_
  refine x_icmp_lt C 35 d_MD_key_8 (by decide) (fun c_8 => ?_) (fun c_8 => ?_)
  · refine x_iconst C (v := 0) d_MD_key_35 (by decide) ?_
    refine x_istore C d_MD_key_36 (Nat.le_of_ble_eq_true rfl) rfl ?_
    refine x_aload_n C d_MD_key_38 rfl rfl ?_
    refine x_get C hMg1.1 rfl (in_MD _) 8 (by decide) (List.mem_cons_of_mem _ f_MD_84) rfl d_MD_key_39 ?_
    refine x_as1 (v := .int (bI (mO μ))) rfl ?_
    refine x_if_ne C 83 d_MD_key_42 (by decide) (fun c_42 => ?_) (fun c_42 => ?_)
    · refine x_iconst C (v := -1) d_MD_key_83 (by decide) ?_
      exact x_iret C (Nat.le_of_ble_eq_true rfl) (Nat.le_of_ble_eq_true rfl) d_MD_key_84 ⟨rfl, hMg1, hFg1⟩
    · refine x_aload_n C d_MD_key_45 rfl rfl ?_
      refine x_get C hMg1.1 rfl (in_MD _) 6 (by decide) (List.mem_cons_of_mem _ f_MD_78) rfl d_MD_key_46 ?_
      refine x_as1 (v := .int (mS μ 6)) rfl ?_
      refine x_bipush C (v := 6) d_MD_key_49 (by decide) ?_
      refine x_icmp_eq C 83 d_MD_key_51 (by decide) (fun c_51 => ?_) (fun c_51 => ?_)
      · refine x_iconst C (v := -1) d_MD_key_83 (by decide) ?_
        exact x_iret C (Nat.le_of_ble_eq_true rfl) (Nat.le_of_ble_eq_true rfl) d_MD_key_84 ⟨rfl, hMg1, hFg1⟩
      · refine x_iload_n C d_MD_key_54 rfl rfl ?_
        refine x_aload_n C d_MD_key_55 rfl rfl ?_
        refine x_get C hMg1.1 rfl (in_MD _) 6 (by decide) (List.mem_cons_of_mem _ f_MD_78) rfl d_MD_key_56 ?_
        refine x_as1 (v := .int (mS μ 6)) rfl ?_
        refine x_if_ne C 66 d_MD_key_59 (by decide) (fun c_59 => ?_) (fun c_59 => ?_)
        · refine x_iconst C (v := 0) d_MD_key_66 (by decide) ?_
          refine x_icmp_ne C 83 d_MD_key_67 (by decide) (fun c_67 => ?_) (fun c_67 => ?_)
          · refine x_iconst C (v := -1) d_MD_key_83 (by decide) ?_
            exact x_iret C (Nat.le_of_ble_eq_true rfl) (Nat.le_of_ble_eq_true rfl) d_MD_key_84 ⟨rfl, hMg1, hFg1⟩
          · refine x_iload_n C d_MD_key_70 rfl rfl ?_
            refine x_if_eq C 78 d_MD_key_71 (by decide) (fun c_71 => ?_) (fun c_71 => ?_)
            · refine x_iload C d_MD_key_78 rfl ?_
              refine x_if_ne C 85 d_MD_key_80 (by decide) (fun c_80 => ?_) (fun c_80 => ?_)
              · exact absurd c_80 (by decide)
              · refine x_iconst C (v := -1) d_MD_key_83 (by decide) ?_
                exact x_iret C (Nat.le_of_ble_eq_true rfl) (Nat.le_of_ble_eq_true rfl) d_MD_key_84 ⟨rfl, hMg1, hFg1⟩
            · refine x_iload_n C d_MD_key_74 rfl rfl ?_
              refine x_if_ne C 83 d_MD_key_75 (by decide) (fun c_75 => ?_) (fun c_75 => ?_)
              · refine x_iconst C (v := -1) d_MD_key_83 (by decide) ?_
                exact x_iret C (Nat.le_of_ble_eq_true rfl) (Nat.le_of_ble_eq_true rfl) d_MD_key_84 ⟨rfl, hMg1, hFg1⟩
              · refine x_iload C d_MD_key_78 rfl ?_
                refine x_if_ne C 85 d_MD_key_80 (by decide) (fun c_80 => ?_) (fun c_80 => ?_)
                · exact absurd c_80 (by decide)
                · refine x_iconst C (v := -1) d_MD_key_83 (by decide) ?_
                  exact x_iret C (Nat.le_of_ble_eq_true rfl) (Nat.le_of_ble_eq_true rfl) d_MD_key_84 ⟨rfl, hMg1, hFg1⟩
        · refine x_iconst C (v := 1) d_MD_key_62 (by decide) ?_
          refine x_goto C 67 d_MD_key_63 (by decide) ?_
          refine x_icmp_ne C 83 d_MD_key_67 (by decide) (fun c_67 => ?_) (fun c_67 => ?_)
          · refine x_iconst C (v := -1) d_MD_key_83 (by decide) ?_
            exact x_iret C (Nat.le_of_ble_eq_true rfl) (Nat.le_of_ble_eq_true rfl) d_MD_key_84 ⟨rfl, hMg1, hFg1⟩
          · refine x_iload_n C d_MD_key_70 rfl rfl ?_
            refine x_if_eq C 78 d_MD_key_71 (by decide) (fun c_71 => ?_) (fun c_71 => ?_)
            · refine x_iload C d_MD_key_78 rfl ?_
              refine x_if_ne C 85 d_MD_key_80 (by decide) (fun c_80 => ?_) (fun c_80 => ?_)
              · exact absurd c_80 (by decide)
              · refine x_iconst C (v := -1) d_MD_key_83 (by decide) ?_
                exact x_iret C (Nat.le_of_ble_eq_true rfl) (Nat.le_of_ble_eq_true rfl) d_MD_key_84 ⟨rfl, hMg1, hFg1⟩
            · refine x_iload_n C d_MD_key_74 rfl rfl ?_
              refine x_if_ne C 83 d_MD_key_75 (by decide) (fun c_75 => ?_) (fun c_75 => ?_)
              · refine x_iconst C (v := -1) d_MD_key_83 (by decide) ?_
                exact x_iret C (Nat.le_of_ble_eq_true rfl) (Nat.le_of_ble_eq_true rfl) d_MD_key_84 ⟨rfl, hMg1, hFg1⟩
              · refine x_iload C d_MD_key_78 rfl ?_
                refine x_if_ne C 85 d_MD_key_80 (by decide) (fun c_80 => ?_) (fun c_80 => ?_)
                · exact absurd c_80 (by decide)
                · refine x_iconst C (v := -1) d_MD_key_83 (by decide) ?_
                  exact x_iret C (Nat.le_of_ble_eq_true rfl) (Nat.le_of_ble_eq_true rfl) d_MD_key_84 ⟨rfl, hMg1, hFg1⟩
  · refine x_iload C d_MD_key_11 rfl ?_
    refine x_bipush C (v := 8) d_MD_key_13 (by decide) ?_
    refine x_icmp_gt C 35 d_MD_key_15 (by decide) (fun c_15 => ?_) (fun c_15 => ?_)
    · refine x_iconst C (v := 0) d_MD_key_35 (by decide) ?_
      refine x_istore C d_MD_key_36 (Nat.le_of_ble_eq_true rfl) rfl ?_
      refine x_aload_n C d_MD_key_38 rfl rfl ?_
      refine x_get C hMg1.1 rfl (in_MD _) 8 (by decide) (List.mem_cons_of_mem _ f_MD_84) rfl d_MD_key_39 ?_
      refine x_as1 (v := .int (bI (mO μ))) rfl ?_
      refine x_if_ne C 83 d_MD_key_42 (by decide) (fun c_42 => ?_) (fun c_42 => ?_)
      · refine x_iconst C (v := -1) d_MD_key_83 (by decide) ?_
        exact x_iret C (Nat.le_of_ble_eq_true rfl) (Nat.le_of_ble_eq_true rfl) d_MD_key_84 ⟨rfl, hMg1, hFg1⟩
      · refine x_aload_n C d_MD_key_45 rfl rfl ?_
        refine x_get C hMg1.1 rfl (in_MD _) 6 (by decide) (List.mem_cons_of_mem _ f_MD_78) rfl d_MD_key_46 ?_
        refine x_as1 (v := .int (mS μ 6)) rfl ?_
        refine x_bipush C (v := 6) d_MD_key_49 (by decide) ?_
        refine x_icmp_eq C 83 d_MD_key_51 (by decide) (fun c_51 => ?_) (fun c_51 => ?_)
        · refine x_iconst C (v := -1) d_MD_key_83 (by decide) ?_
          exact x_iret C (Nat.le_of_ble_eq_true rfl) (Nat.le_of_ble_eq_true rfl) d_MD_key_84 ⟨rfl, hMg1, hFg1⟩
        · refine x_iload_n C d_MD_key_54 rfl rfl ?_
          refine x_aload_n C d_MD_key_55 rfl rfl ?_
          refine x_get C hMg1.1 rfl (in_MD _) 6 (by decide) (List.mem_cons_of_mem _ f_MD_78) rfl d_MD_key_56 ?_
          refine x_as1 (v := .int (mS μ 6)) rfl ?_
          refine x_if_ne C 66 d_MD_key_59 (by decide) (fun c_59 => ?_) (fun c_59 => ?_)
          · refine x_iconst C (v := 0) d_MD_key_66 (by decide) ?_
            refine x_icmp_ne C 83 d_MD_key_67 (by decide) (fun c_67 => ?_) (fun c_67 => ?_)
            · refine x_iconst C (v := -1) d_MD_key_83 (by decide) ?_
              exact x_iret C (Nat.le_of_ble_eq_true rfl) (Nat.le_of_ble_eq_true rfl) d_MD_key_84 ⟨rfl, hMg1, hFg1⟩
            · refine x_iload_n C d_MD_key_70 rfl rfl ?_
              refine x_if_eq C 78 d_MD_key_71 (by decide) (fun c_71 => ?_) (fun c_71 => ?_)
              · refine x_iload C d_MD_key_78 rfl ?_
                refine x_if_ne C 85 d_MD_key_80 (by decide) (fun c_80 => ?_) (fun c_80 => ?_)
                · exact absurd c_80 (by decide)
                · refine x_iconst C (v := -1) d_MD_key_83 (by decide) ?_
                  exact x_iret C (Nat.le_of_ble_eq_true rfl) (Nat.le_of_ble_eq_true rfl) d_MD_key_84 ⟨rfl, hMg1, hFg1⟩
              · refine x_iload_n C d_MD_key_74 rfl rfl ?_
                refine x_if_ne C 83 d_MD_key_75 (by decide) (fun c_75 => ?_) (fun c_75 => ?_)
                · refine x_iconst C (v := -1) d_MD_key_83 (by decide) ?_
                  exact x_iret C (Nat.le_of_ble_eq_true rfl) (Nat.le_of_ble_eq_true rfl) d_MD_key_84 ⟨rfl, hMg1, hFg1⟩
                · refine x_iload C d_MD_key_78 rfl ?_
                  refine x_if_ne C 85 d_MD_key_80 (by decide) (fun c_80 => ?_) (fun c_80 => ?_)
                  · exact absurd c_80 (by decide)
                  · refine x_iconst C (v := -1) d_MD_key_83 (by decide) ?_
                    exact x_iret C (Nat.le_of_ble_eq_true rfl) (Nat.le_of_ble_eq_true rfl) d_MD_key_84 ⟨rfl, hMg1, hFg1⟩
          · refine x_iconst C (v := 1) d_MD_key_62 (by decide) ?_
            refine x_goto C 67 d_MD_key_63 (by decide) ?_
            refine x_icmp_ne C 83 d_MD_key_67 (by decide) (fun c_67 => ?_) (fun c_67 => ?_)
            · refine x_iconst C (v := -1) d_MD_key_83 (by decide) ?_
              exact x_iret C (Nat.le_of_ble_eq_true rfl) (Nat.le_of_ble_eq_true rfl) d_MD_key_84 ⟨rfl, hMg1, hFg1⟩
            · refine x_iload_n C d_MD_key_70 rfl rfl ?_
              refine x_if_eq C 78 d_MD_key_71 (by decide) (fun c_71 => ?_) (fun c_71 => ?_)
              · refine x_iload C d_MD_key_78 rfl ?_
                refine x_if_ne C 85 d_MD_key_80 (by decide) (fun c_80 => ?_) (fun c_80 => ?_)
                · exact absurd c_80 (by decide)
                · refine x_iconst C (v := -1) d_MD_key_83 (by decide) ?_
                  exact x_iret C (Nat.le_of_ble_eq_true rfl) (Nat.le_of_ble_eq_true rfl) d_MD_key_84 ⟨rfl, hMg1, hFg1⟩
              · refine x_iload_n C d_MD_key_74 rfl rfl ?_
                refine x_if_ne C 83 d_MD_key_75 (by decide) (fun c_75 => ?_) (fun c_75 => ?_)
                · refine x_iconst C (v := -1) d_MD_key_83 (by decide) ?_
                  exact x_iret C (Nat.le_of_ble_eq_true rfl) (Nat.le_of_ble_eq_true rfl) d_MD_key_84 ⟨rfl, hMg1, hFg1⟩
                · refine x_iload C d_MD_key_78 rfl ?_
                  refine x_if_ne C 85 d_MD_key_80 (by decide) (fun c_80 => ?_) (fun c_80 => ?_)
                  · exact absurd c_80 (by decide)
                  · refine x_iconst C (v := -1) d_MD_key_83 (by decide) ?_
                    exact x_iret C (Nat.le_of_ble_eq_true rfl) (Nat.le_of_ble_eq_true rfl) d_MD_key_84 ⟨rfl, hMg1, hFg1⟩
    · refine x_iload_n C d_MD_key_18 rfl rfl ?_
      refine x_if_lt C 35 d_MD_key_19 (by decide) (fun c_19 => ?_) (fun c_19 => ?_)
      · refine x_iconst C (v := 0) d_MD_key_35 (by decide) ?_
        refine x_istore C d_MD_key_36 (Nat.le_of_ble_eq_true rfl) rfl ?_
        refine x_aload_n C d_MD_key_38 rfl rfl ?_
        refine x_get C hMg1.1 rfl (in_MD _) 8 (by decide) (List.mem_cons_of_mem _ f_MD_84) rfl d_MD_key_39 ?_
        refine x_as1 (v := .int (bI (mO μ))) rfl ?_
        refine x_if_ne C 83 d_MD_key_42 (by decide) (fun c_42 => ?_) (fun c_42 => ?_)
        · refine x_iconst C (v := -1) d_MD_key_83 (by decide) ?_
          exact x_iret C (Nat.le_of_ble_eq_true rfl) (Nat.le_of_ble_eq_true rfl) d_MD_key_84 ⟨rfl, hMg1, hFg1⟩
        · refine x_aload_n C d_MD_key_45 rfl rfl ?_
          refine x_get C hMg1.1 rfl (in_MD _) 6 (by decide) (List.mem_cons_of_mem _ f_MD_78) rfl d_MD_key_46 ?_
          refine x_as1 (v := .int (mS μ 6)) rfl ?_
          refine x_bipush C (v := 6) d_MD_key_49 (by decide) ?_
          refine x_icmp_eq C 83 d_MD_key_51 (by decide) (fun c_51 => ?_) (fun c_51 => ?_)
          · refine x_iconst C (v := -1) d_MD_key_83 (by decide) ?_
            exact x_iret C (Nat.le_of_ble_eq_true rfl) (Nat.le_of_ble_eq_true rfl) d_MD_key_84 ⟨rfl, hMg1, hFg1⟩
          · refine x_iload_n C d_MD_key_54 rfl rfl ?_
            refine x_aload_n C d_MD_key_55 rfl rfl ?_
            refine x_get C hMg1.1 rfl (in_MD _) 6 (by decide) (List.mem_cons_of_mem _ f_MD_78) rfl d_MD_key_56 ?_
            refine x_as1 (v := .int (mS μ 6)) rfl ?_
            refine x_if_ne C 66 d_MD_key_59 (by decide) (fun c_59 => ?_) (fun c_59 => ?_)
            · refine x_iconst C (v := 0) d_MD_key_66 (by decide) ?_
              refine x_icmp_ne C 83 d_MD_key_67 (by decide) (fun c_67 => ?_) (fun c_67 => ?_)
              · refine x_iconst C (v := -1) d_MD_key_83 (by decide) ?_
                exact x_iret C (Nat.le_of_ble_eq_true rfl) (Nat.le_of_ble_eq_true rfl) d_MD_key_84 ⟨rfl, hMg1, hFg1⟩
              · refine x_iload_n C d_MD_key_70 rfl rfl ?_
                refine x_if_eq C 78 d_MD_key_71 (by decide) (fun c_71 => ?_) (fun c_71 => ?_)
                · refine x_iload C d_MD_key_78 rfl ?_
                  refine x_if_ne C 85 d_MD_key_80 (by decide) (fun c_80 => ?_) (fun c_80 => ?_)
                  · exact absurd c_80 (by decide)
                  · refine x_iconst C (v := -1) d_MD_key_83 (by decide) ?_
                    exact x_iret C (Nat.le_of_ble_eq_true rfl) (Nat.le_of_ble_eq_true rfl) d_MD_key_84 ⟨rfl, hMg1, hFg1⟩
                · refine x_iload_n C d_MD_key_74 rfl rfl ?_
                  refine x_if_ne C 83 d_MD_key_75 (by decide) (fun c_75 => ?_) (fun c_75 => ?_)
                  · refine x_iconst C (v := -1) d_MD_key_83 (by decide) ?_
                    exact x_iret C (Nat.le_of_ble_eq_true rfl) (Nat.le_of_ble_eq_true rfl) d_MD_key_84 ⟨rfl, hMg1, hFg1⟩
                  · refine x_iload C d_MD_key_78 rfl ?_
                    refine x_if_ne C 85 d_MD_key_80 (by decide) (fun c_80 => ?_) (fun c_80 => ?_)
                    · exact absurd c_80 (by decide)
                    · refine x_iconst C (v := -1) d_MD_key_83 (by decide) ?_
                      exact x_iret C (Nat.le_of_ble_eq_true rfl) (Nat.le_of_ble_eq_true rfl) d_MD_key_84 ⟨rfl, hMg1, hFg1⟩
            · refine x_iconst C (v := 1) d_MD_key_62 (by decide) ?_
              refine x_goto C 67 d_MD_key_63 (by decide) ?_
              refine x_icmp_ne C 83 d_MD_key_67 (by decide) (fun c_67 => ?_) (fun c_67 => ?_)
              · refine x_iconst C (v := -1) d_MD_key_83 (by decide) ?_
                exact x_iret C (Nat.le_of_ble_eq_true rfl) (Nat.le_of_ble_eq_true rfl) d_MD_key_84 ⟨rfl, hMg1, hFg1⟩
              · refine x_iload_n C d_MD_key_70 rfl rfl ?_
                refine x_if_eq C 78 d_MD_key_71 (by decide) (fun c_71 => ?_) (fun c_71 => ?_)
                · refine x_iload C d_MD_key_78 rfl ?_
                  refine x_if_ne C 85 d_MD_key_80 (by decide) (fun c_80 => ?_) (fun c_80 => ?_)
                  · exact absurd c_80 (by decide)
                  · refine x_iconst C (v := -1) d_MD_key_83 (by decide) ?_
                    exact x_iret C (Nat.le_of_ble_eq_true rfl) (Nat.le_of_ble_eq_true rfl) d_MD_key_84 ⟨rfl, hMg1, hFg1⟩
                · refine x_iload_n C d_MD_key_74 rfl rfl ?_
                  refine x_if_ne C 83 d_MD_key_75 (by decide) (fun c_75 => ?_) (fun c_75 => ?_)
                  · refine x_iconst C (v := -1) d_MD_key_83 (by decide) ?_
                    exact x_iret C (Nat.le_of_ble_eq_true rfl) (Nat.le_of_ble_eq_true rfl) d_MD_key_84 ⟨rfl, hMg1, hFg1⟩
                  · refine x_iload C d_MD_key_78 rfl ?_
                    refine x_if_ne C 85 d_MD_key_80 (by decide) (fun c_80 => ?_) (fun c_80 => ?_)
                    · exact absurd c_80 (by decide)
                    · refine x_iconst C (v := -1) d_MD_key_83 (by decide) ?_
                      exact x_iret C (Nat.le_of_ble_eq_true rfl) (Nat.le_of_ble_eq_true rfl) d_MD_key_84 ⟨rfl, hMg1, hFg1⟩
      · refine x_iload_n C d_MD_key_22 rfl rfl ?_
        refine x_bipush C (v := 8) d_MD_key_23 (by decide) ?_
        refine x_iload C d_MD_key_25 rfl ?_
        refine x_isub C d_MD_key_27 ?_
        refine x_icmp_gt C 35 d_MD_key_28 (by decide) (fun c_28 => ?_) (fun c_28 => ?_)
        · refine x_iconst C (v := 0) d_MD_key_35 (by decide) ?_
          refine x_istore C d_MD_key_36 (Nat.le_of_ble_eq_true rfl) rfl ?_
          refine x_aload_n C d_MD_key_38 rfl rfl ?_
          refine x_get C hMg1.1 rfl (in_MD _) 8 (by decide) (List.mem_cons_of_mem _ f_MD_84) rfl d_MD_key_39 ?_
          refine x_as1 (v := .int (bI (mO μ))) rfl ?_
          refine x_if_ne C 83 d_MD_key_42 (by decide) (fun c_42 => ?_) (fun c_42 => ?_)
          · refine x_iconst C (v := -1) d_MD_key_83 (by decide) ?_
            exact x_iret C (Nat.le_of_ble_eq_true rfl) (Nat.le_of_ble_eq_true rfl) d_MD_key_84 ⟨rfl, hMg1, hFg1⟩
          · refine x_aload_n C d_MD_key_45 rfl rfl ?_
            refine x_get C hMg1.1 rfl (in_MD _) 6 (by decide) (List.mem_cons_of_mem _ f_MD_78) rfl d_MD_key_46 ?_
            refine x_as1 (v := .int (mS μ 6)) rfl ?_
            refine x_bipush C (v := 6) d_MD_key_49 (by decide) ?_
            refine x_icmp_eq C 83 d_MD_key_51 (by decide) (fun c_51 => ?_) (fun c_51 => ?_)
            · refine x_iconst C (v := -1) d_MD_key_83 (by decide) ?_
              exact x_iret C (Nat.le_of_ble_eq_true rfl) (Nat.le_of_ble_eq_true rfl) d_MD_key_84 ⟨rfl, hMg1, hFg1⟩
            · refine x_iload_n C d_MD_key_54 rfl rfl ?_
              refine x_aload_n C d_MD_key_55 rfl rfl ?_
              refine x_get C hMg1.1 rfl (in_MD _) 6 (by decide) (List.mem_cons_of_mem _ f_MD_78) rfl d_MD_key_56 ?_
              refine x_as1 (v := .int (mS μ 6)) rfl ?_
              refine x_if_ne C 66 d_MD_key_59 (by decide) (fun c_59 => ?_) (fun c_59 => ?_)
              · refine x_iconst C (v := 0) d_MD_key_66 (by decide) ?_
                refine x_icmp_ne C 83 d_MD_key_67 (by decide) (fun c_67 => ?_) (fun c_67 => ?_)
                · refine x_iconst C (v := -1) d_MD_key_83 (by decide) ?_
                  exact x_iret C (Nat.le_of_ble_eq_true rfl) (Nat.le_of_ble_eq_true rfl) d_MD_key_84 ⟨rfl, hMg1, hFg1⟩
                · refine x_iload_n C d_MD_key_70 rfl rfl ?_
                  refine x_if_eq C 78 d_MD_key_71 (by decide) (fun c_71 => ?_) (fun c_71 => ?_)
                  · refine x_iload C d_MD_key_78 rfl ?_
                    refine x_if_ne C 85 d_MD_key_80 (by decide) (fun c_80 => ?_) (fun c_80 => ?_)
                    · exact absurd c_80 (by decide)
                    · refine x_iconst C (v := -1) d_MD_key_83 (by decide) ?_
                      exact x_iret C (Nat.le_of_ble_eq_true rfl) (Nat.le_of_ble_eq_true rfl) d_MD_key_84 ⟨rfl, hMg1, hFg1⟩
                  · refine x_iload_n C d_MD_key_74 rfl rfl ?_
                    refine x_if_ne C 83 d_MD_key_75 (by decide) (fun c_75 => ?_) (fun c_75 => ?_)
                    · refine x_iconst C (v := -1) d_MD_key_83 (by decide) ?_
                      exact x_iret C (Nat.le_of_ble_eq_true rfl) (Nat.le_of_ble_eq_true rfl) d_MD_key_84 ⟨rfl, hMg1, hFg1⟩
                    · refine x_iload C d_MD_key_78 rfl ?_
                      refine x_if_ne C 85 d_MD_key_80 (by decide) (fun c_80 => ?_) (fun c_80 => ?_)
                      · exact absurd c_80 (by decide)
                      · refine x_iconst C (v := -1) d_MD_key_83 (by decide) ?_
                        exact x_iret C (Nat.le_of_ble_eq_true rfl) (Nat.le_of_ble_eq_true rfl) d_MD_key_84 ⟨rfl, hMg1, hFg1⟩
              · refine x_iconst C (v := 1) d_MD_key_62 (by decide) ?_
                refine x_goto C 67 d_MD_key_63 (by decide) ?_
                refine x_icmp_ne C 83 d_MD_key_67 (by decide) (fun c_67 => ?_) (fun c_67 => ?_)
                · refine x_iconst C (v := -1) d_MD_key_83 (by decide) ?_
                  exact x_iret C (Nat.le_of_ble_eq_true rfl) (Nat.le_of_ble_eq_true rfl) d_MD_key_84 ⟨rfl, hMg1, hFg1⟩
                · refine x_iload_n C d_MD_key_70 rfl rfl ?_
                  refine x_if_eq C 78 d_MD_key_71 (by decide) (fun c_71 => ?_) (fun c_71 => ?_)
                  · refine x_iload C d_MD_key_78 rfl ?_
                    refine x_if_ne C 85 d_MD_key_80 (by decide) (fun c_80 => ?_) (fun c_80 => ?_)
                    · exact absurd c_80 (by decide)
                    · refine x_iconst C (v := -1) d_MD_key_83 (by decide) ?_
                      exact x_iret C (Nat.le_of_ble_eq_true rfl) (Nat.le_of_ble_eq_true rfl) d_MD_key_84 ⟨rfl, hMg1, hFg1⟩
                  · refine x_iload_n C d_MD_key_74 rfl rfl ?_
                    refine x_if_ne C 83 d_MD_key_75 (by decide) (fun c_75 => ?_) (fun c_75 => ?_)
                    · refine x_iconst C (v := -1) d_MD_key_83 (by decide) ?_
                      exact x_iret C (Nat.le_of_ble_eq_true rfl) (Nat.le_of_ble_eq_true rfl) d_MD_key_84 ⟨rfl, hMg1, hFg1⟩
                    · refine x_iload C d_MD_key_78 rfl ?_
                      refine x_if_ne C 85 d_MD_key_80 (by decide) (fun c_80 => ?_) (fun c_80 => ?_)
                      · exact absurd c_80 (by decide)
                      · refine x_iconst C (v := -1) d_MD_key_83 (by decide) ?_
                        exact x_iret C (Nat.le_of_ble_eq_true rfl) (Nat.le_of_ble_eq_true rfl) d_MD_key_84 ⟨rfl, hMg1, hFg1⟩
        · refine x_iconst C (v := 1) d_MD_key_31 (by decide) ?_
          refine x_goto C 36 d_MD_key_32 (by decide) ?_
          refine x_istore C d_MD_key_36 (Nat.le_of_ble_eq_true rfl) rfl ?_
          refine x_aload_n C d_MD_key_38 rfl rfl ?_
          refine x_get C hMg1.1 rfl (in_MD _) 8 (by decide) (List.mem_cons_of_mem _ f_MD_84) rfl d_MD_key_39 ?_
          refine x_as1 (v := .int (bI (mO μ))) rfl ?_
          refine x_if_ne C 83 d_MD_key_42 (by decide) (fun c_42 => ?_) (fun c_42 => ?_)
          · refine x_iconst C (v := -1) d_MD_key_83 (by decide) ?_
            exact x_iret C (Nat.le_of_ble_eq_true rfl) (Nat.le_of_ble_eq_true rfl) d_MD_key_84 ⟨rfl, hMg1, hFg1⟩
          · refine x_aload_n C d_MD_key_45 rfl rfl ?_
            refine x_get C hMg1.1 rfl (in_MD _) 6 (by decide) (List.mem_cons_of_mem _ f_MD_78) rfl d_MD_key_46 ?_
            refine x_as1 (v := .int (mS μ 6)) rfl ?_
            refine x_bipush C (v := 6) d_MD_key_49 (by decide) ?_
            refine x_icmp_eq C 83 d_MD_key_51 (by decide) (fun c_51 => ?_) (fun c_51 => ?_)
            · refine x_iconst C (v := -1) d_MD_key_83 (by decide) ?_
              exact x_iret C (Nat.le_of_ble_eq_true rfl) (Nat.le_of_ble_eq_true rfl) d_MD_key_84 ⟨rfl, hMg1, hFg1⟩
            · refine x_iload_n C d_MD_key_54 rfl rfl ?_
              refine x_aload_n C d_MD_key_55 rfl rfl ?_
              refine x_get C hMg1.1 rfl (in_MD _) 6 (by decide) (List.mem_cons_of_mem _ f_MD_78) rfl d_MD_key_56 ?_
              refine x_as1 (v := .int (mS μ 6)) rfl ?_
              refine x_if_ne C 66 d_MD_key_59 (by decide) (fun c_59 => ?_) (fun c_59 => ?_)
              · refine x_iconst C (v := 0) d_MD_key_66 (by decide) ?_
                refine x_icmp_ne C 83 d_MD_key_67 (by decide) (fun c_67 => ?_) (fun c_67 => ?_)
                · refine x_iconst C (v := -1) d_MD_key_83 (by decide) ?_
                  exact x_iret C (Nat.le_of_ble_eq_true rfl) (Nat.le_of_ble_eq_true rfl) d_MD_key_84 ⟨rfl, hMg1, hFg1⟩
                · refine x_iload_n C d_MD_key_70 rfl rfl ?_
                  refine x_if_eq C 78 d_MD_key_71 (by decide) (fun c_71 => ?_) (fun c_71 => ?_)
                  · refine x_iload C d_MD_key_78 rfl ?_
                    refine x_if_ne C 85 d_MD_key_80 (by decide) (fun c_80 => ?_) (fun c_80 => ?_)
                    · exfalso
                      clear C hnm hM
                      rcases hb with z | z | z | ⟨z, z'⟩ | z | z | z | z <;> simp_all [bI_0, bI]
                    · exact absurd c_80 (by decide)
                  · refine x_iload_n C d_MD_key_74 rfl rfl ?_
                    refine x_if_ne C 83 d_MD_key_75 (by decide) (fun c_75 => ?_) (fun c_75 => ?_)
                    · refine x_iconst C (v := -1) d_MD_key_83 (by decide) ?_
                      exact x_iret C (Nat.le_of_ble_eq_true rfl) (Nat.le_of_ble_eq_true rfl) d_MD_key_84 ⟨rfl, hMg1, hFg1⟩
                    · refine x_iload C d_MD_key_78 rfl ?_
                      refine x_if_ne C 85 d_MD_key_80 (by decide) (fun c_80 => ?_) (fun c_80 => ?_)
                      · exfalso
                        clear C hnm hM
                        rcases hb with z | z | z | ⟨z, z'⟩ | z | z | z | z <;> simp_all [bI_0, bI]
                      · exact absurd c_80 (by decide)
              · refine x_iconst C (v := 1) d_MD_key_62 (by decide) ?_
                refine x_goto C 67 d_MD_key_63 (by decide) ?_
                refine x_icmp_ne C 83 d_MD_key_67 (by decide) (fun c_67 => ?_) (fun c_67 => ?_)
                · refine x_iconst C (v := -1) d_MD_key_83 (by decide) ?_
                  exact x_iret C (Nat.le_of_ble_eq_true rfl) (Nat.le_of_ble_eq_true rfl) d_MD_key_84 ⟨rfl, hMg1, hFg1⟩
                · refine x_iload_n C d_MD_key_70 rfl rfl ?_
                  refine x_if_eq C 78 d_MD_key_71 (by decide) (fun c_71 => ?_) (fun c_71 => ?_)
                  · refine x_iload C d_MD_key_78 rfl ?_
                    refine x_if_ne C 85 d_MD_key_80 (by decide) (fun c_80 => ?_) (fun c_80 => ?_)
                    · exfalso
                      clear C hnm hM
                      rcases hb with z | z | z | ⟨z, z'⟩ | z | z | z | z <;> simp_all [bI_0, bI]
                    · exact absurd c_80 (by decide)
                  · refine x_iload_n C d_MD_key_74 rfl rfl ?_
                    refine x_if_ne C 83 d_MD_key_75 (by decide) (fun c_75 => ?_) (fun c_75 => ?_)
                    · refine x_iconst C (v := -1) d_MD_key_83 (by decide) ?_
                      exact x_iret C (Nat.le_of_ble_eq_true rfl) (Nat.le_of_ble_eq_true rfl) d_MD_key_84 ⟨rfl, hMg1, hFg1⟩
                    · refine x_iload C d_MD_key_78 rfl ?_
                      refine x_if_ne C 85 d_MD_key_80 (by decide) (fun c_80 => ?_) (fun c_80 => ?_)
                      · exfalso
                        clear C hnm hM
                        rcases hb with z | z | z | ⟨z, z'⟩ | z | z | z | z <;> simp_all [bI_0, bI]
                      · exact absurd c_80 (by decide)
set_option maxRecDepth 4000 in
set_option maxHeartbeats 800000 in
theorem q_MD_key_ok (l : Launch) (E : xE) {G : xw_G} {md : Nat} {a : Nat → Nat} {μ : MS} (hM : xMD E G md a μ) {pr db : Bool} {fr sz : Int32} {K : Nat} (hK : mS μ 6 = nI K) (hK6 : K < 6) (hb : ¬ (mO μ = true ∨ mS μ 6 = 6 ∨ pr ≠ decide (mS μ 6 = 0) ∨ (pr = true ∧ db = true) ∨ sz < 1 ∨ 8 < sz ∨ fr < 0 ∨ 8 - sz < fr)) : XMk l E y_MD_key w_MD_key rm_MD_key [.ref md, .int (bI pr), .int (bI db), .int (fr), .int (sz)] G (fun r G' => r = some (.int (nI K)) ∧ xMD E G' md a (sS (sZ (sI (sI (sS μ 0 0) 1 K fr) 2 K sz) 3 K db) 6 (nI (K + 1))) ∧ xFc G G') 0 0 := by
  refine XM_of [some (.ref md), some (.int (bI pr)), some (.int (bI db)), some (.int (fr)), some (.int (sz)), none] (XZ_st E) (by decide) rfl rfl rfl (Nat.le_of_ble_eq_true rfl) (fun p e s m below meth c C hnm => ?_)
  refine x_aload_n C d_MD_key_0 rfl rfl ?_
  refine x_iconst C (v := 0) d_MD_key_1 (by decide) ?_
  refine x_mSp C hM 0 (by decide) (x := 0) f_MD_72 rfl rfl rfl d_MD_key_2 (fun _ hMg1 hFg1 => ?_)
  refine x_iload C d_MD_key_5 rfl ?_
  refine x_iconst C (v := 1) d_MD_key_7 (by decide) ?_
  refine x_icmp_lt C 35 d_MD_key_8 (by decide) (fun c_8 => ?_) (fun c_8 => ?_)
  · refine x_iconst C (v := 0) d_MD_key_35 (by decide) ?_
    refine x_istore C d_MD_key_36 (Nat.le_of_ble_eq_true rfl) rfl ?_
    refine x_aload_n C d_MD_key_38 rfl rfl ?_
    refine x_get C hMg1.1 rfl (in_MD _) 8 (by decide) (List.mem_cons_of_mem _ f_MD_84) rfl d_MD_key_39 ?_
    refine x_as1 (v := .int (bI (mO μ))) rfl ?_
    refine x_if_ne C 83 d_MD_key_42 (by decide) (fun c_42 => ?_) (fun c_42 => ?_)
    · exfalso
      clear C hnm hMg1 hFg1 hM hK hK6
      cases pr <;> cases db <;> simp_all [bI_0, bI]
    · refine x_aload_n C d_MD_key_45 rfl rfl ?_
      refine x_get C hMg1.1 rfl (in_MD _) 6 (by decide) (List.mem_cons_of_mem _ f_MD_78) rfl d_MD_key_46 ?_
      refine x_as1 (v := .int (mS μ 6)) rfl ?_
      refine x_bipush C (v := 6) d_MD_key_49 (by decide) ?_
      refine x_icmp_eq C 83 d_MD_key_51 (by decide) (fun c_51 => ?_) (fun c_51 => ?_)
      · exfalso
        clear C hnm hMg1 hFg1 hM hK hK6
        cases pr <;> cases db <;> simp_all [bI_0, bI]
      · refine x_iload_n C d_MD_key_54 rfl rfl ?_
        refine x_aload_n C d_MD_key_55 rfl rfl ?_
        refine x_get C hMg1.1 rfl (in_MD _) 6 (by decide) (List.mem_cons_of_mem _ f_MD_78) rfl d_MD_key_56 ?_
        refine x_as1 (v := .int (mS μ 6)) rfl ?_
        refine x_if_ne C 66 d_MD_key_59 (by decide) (fun c_59 => ?_) (fun c_59 => ?_)
        · refine x_iconst C (v := 0) d_MD_key_66 (by decide) ?_
          refine x_icmp_ne C 83 d_MD_key_67 (by decide) (fun c_67 => ?_) (fun c_67 => ?_)
          · exfalso
            clear C hnm hMg1 hFg1 hM hK hK6
            cases pr <;> cases db <;> simp_all [bI_0, bI]
          · refine x_iload_n C d_MD_key_70 rfl rfl ?_
            refine x_if_eq C 78 d_MD_key_71 (by decide) (fun c_71 => ?_) (fun c_71 => ?_)
            · refine x_iload C d_MD_key_78 rfl ?_
              refine x_if_ne C 85 d_MD_key_80 (by decide) (fun c_80 => ?_) (fun c_80 => ?_)
              · exact absurd c_80 (by decide)
              · exfalso
                clear C hnm hMg1 hFg1 hM hK hK6
                cases pr <;> cases db <;> simp_all [bI_0, bI]
            · refine x_iload_n C d_MD_key_74 rfl rfl ?_
              refine x_if_ne C 83 d_MD_key_75 (by decide) (fun c_75 => ?_) (fun c_75 => ?_)
              · exfalso
                clear C hnm hMg1 hFg1 hM hK hK6
                cases pr <;> cases db <;> simp_all [bI_0, bI]
              · refine x_iload C d_MD_key_78 rfl ?_
                refine x_if_ne C 85 d_MD_key_80 (by decide) (fun c_80 => ?_) (fun c_80 => ?_)
                · exact absurd c_80 (by decide)
                · exfalso
                  clear C hnm hMg1 hFg1 hM hK hK6
                  cases pr <;> cases db <;> simp_all [bI_0, bI]
        · refine x_iconst C (v := 1) d_MD_key_62 (by decide) ?_
          refine x_goto C 67 d_MD_key_63 (by decide) ?_
          refine x_icmp_ne C 83 d_MD_key_67 (by decide) (fun c_67 => ?_) (fun c_67 => ?_)
          · exfalso
            clear C hnm hMg1 hFg1 hM hK hK6
            cases pr <;> cases db <;> simp_all [bI_0, bI]
          · refine x_iload_n C d_MD_key_70 rfl rfl ?_
            refine x_if_eq C 78 d_MD_key_71 (by decide) (fun c_71 => ?_) (fun c_71 => ?_)
            · refine x_iload C d_MD_key_78 rfl ?_
              refine x_if_ne C 85 d_MD_key_80 (by decide) (fun c_80 => ?_) (fun c_80 => ?_)
              · exact absurd c_80 (by decide)
              · exfalso
                clear C hnm hMg1 hFg1 hM hK hK6
                cases pr <;> cases db <;> simp_all [bI_0, bI]
            · refine x_iload_n C d_MD_key_74 rfl rfl ?_
              refine x_if_ne C 83 d_MD_key_75 (by decide) (fun c_75 => ?_) (fun c_75 => ?_)
              · exfalso
                clear C hnm hMg1 hFg1 hM hK hK6
                cases pr <;> cases db <;> simp_all [bI_0, bI]
              · refine x_iload C d_MD_key_78 rfl ?_
                refine x_if_ne C 85 d_MD_key_80 (by decide) (fun c_80 => ?_) (fun c_80 => ?_)
                · exact absurd c_80 (by decide)
                · exfalso
                  clear C hnm hMg1 hFg1 hM hK hK6
                  cases pr <;> cases db <;> simp_all [bI_0, bI]
  · refine x_iload C d_MD_key_11 rfl ?_
    refine x_bipush C (v := 8) d_MD_key_13 (by decide) ?_
    refine x_icmp_gt C 35 d_MD_key_15 (by decide) (fun c_15 => ?_) (fun c_15 => ?_)
    · refine x_iconst C (v := 0) d_MD_key_35 (by decide) ?_
      refine x_istore C d_MD_key_36 (Nat.le_of_ble_eq_true rfl) rfl ?_
      refine x_aload_n C d_MD_key_38 rfl rfl ?_
      refine x_get C hMg1.1 rfl (in_MD _) 8 (by decide) (List.mem_cons_of_mem _ f_MD_84) rfl d_MD_key_39 ?_
      refine x_as1 (v := .int (bI (mO μ))) rfl ?_
      refine x_if_ne C 83 d_MD_key_42 (by decide) (fun c_42 => ?_) (fun c_42 => ?_)
      · exfalso
        clear C hnm hMg1 hFg1 hM hK hK6
        cases pr <;> cases db <;> simp_all [bI_0, bI]
      · refine x_aload_n C d_MD_key_45 rfl rfl ?_
        refine x_get C hMg1.1 rfl (in_MD _) 6 (by decide) (List.mem_cons_of_mem _ f_MD_78) rfl d_MD_key_46 ?_
        refine x_as1 (v := .int (mS μ 6)) rfl ?_
        refine x_bipush C (v := 6) d_MD_key_49 (by decide) ?_
        refine x_icmp_eq C 83 d_MD_key_51 (by decide) (fun c_51 => ?_) (fun c_51 => ?_)
        · exfalso
          clear C hnm hMg1 hFg1 hM hK hK6
          cases pr <;> cases db <;> simp_all [bI_0, bI]
        · refine x_iload_n C d_MD_key_54 rfl rfl ?_
          refine x_aload_n C d_MD_key_55 rfl rfl ?_
          refine x_get C hMg1.1 rfl (in_MD _) 6 (by decide) (List.mem_cons_of_mem _ f_MD_78) rfl d_MD_key_56 ?_
          refine x_as1 (v := .int (mS μ 6)) rfl ?_
          refine x_if_ne C 66 d_MD_key_59 (by decide) (fun c_59 => ?_) (fun c_59 => ?_)
          · refine x_iconst C (v := 0) d_MD_key_66 (by decide) ?_
            refine x_icmp_ne C 83 d_MD_key_67 (by decide) (fun c_67 => ?_) (fun c_67 => ?_)
            · exfalso
              clear C hnm hMg1 hFg1 hM hK hK6
              cases pr <;> cases db <;> simp_all [bI_0, bI]
            · refine x_iload_n C d_MD_key_70 rfl rfl ?_
              refine x_if_eq C 78 d_MD_key_71 (by decide) (fun c_71 => ?_) (fun c_71 => ?_)
              · refine x_iload C d_MD_key_78 rfl ?_
                refine x_if_ne C 85 d_MD_key_80 (by decide) (fun c_80 => ?_) (fun c_80 => ?_)
                · exact absurd c_80 (by decide)
                · exfalso
                  clear C hnm hMg1 hFg1 hM hK hK6
                  cases pr <;> cases db <;> simp_all [bI_0, bI]
              · refine x_iload_n C d_MD_key_74 rfl rfl ?_
                refine x_if_ne C 83 d_MD_key_75 (by decide) (fun c_75 => ?_) (fun c_75 => ?_)
                · exfalso
                  clear C hnm hMg1 hFg1 hM hK hK6
                  cases pr <;> cases db <;> simp_all [bI_0, bI]
                · refine x_iload C d_MD_key_78 rfl ?_
                  refine x_if_ne C 85 d_MD_key_80 (by decide) (fun c_80 => ?_) (fun c_80 => ?_)
                  · exact absurd c_80 (by decide)
                  · exfalso
                    clear C hnm hMg1 hFg1 hM hK hK6
                    cases pr <;> cases db <;> simp_all [bI_0, bI]
          · refine x_iconst C (v := 1) d_MD_key_62 (by decide) ?_
            refine x_goto C 67 d_MD_key_63 (by decide) ?_
            refine x_icmp_ne C 83 d_MD_key_67 (by decide) (fun c_67 => ?_) (fun c_67 => ?_)
            · exfalso
              clear C hnm hMg1 hFg1 hM hK hK6
              cases pr <;> cases db <;> simp_all [bI_0, bI]
            · refine x_iload_n C d_MD_key_70 rfl rfl ?_
              refine x_if_eq C 78 d_MD_key_71 (by decide) (fun c_71 => ?_) (fun c_71 => ?_)
              · refine x_iload C d_MD_key_78 rfl ?_
                refine x_if_ne C 85 d_MD_key_80 (by decide) (fun c_80 => ?_) (fun c_80 => ?_)
                · exact absurd c_80 (by decide)
                · exfalso
                  clear C hnm hMg1 hFg1 hM hK hK6
                  cases pr <;> cases db <;> simp_all [bI_0, bI]
              · refine x_iload_n C d_MD_key_74 rfl rfl ?_
                refine x_if_ne C 83 d_MD_key_75 (by decide) (fun c_75 => ?_) (fun c_75 => ?_)
                · exfalso
                  clear C hnm hMg1 hFg1 hM hK hK6
                  cases pr <;> cases db <;> simp_all [bI_0, bI]
                · refine x_iload C d_MD_key_78 rfl ?_
                  refine x_if_ne C 85 d_MD_key_80 (by decide) (fun c_80 => ?_) (fun c_80 => ?_)
                  · exact absurd c_80 (by decide)
                  · exfalso
                    clear C hnm hMg1 hFg1 hM hK hK6
                    cases pr <;> cases db <;> simp_all [bI_0, bI]
    · refine x_iload_n C d_MD_key_18 rfl rfl ?_
      refine x_if_lt C 35 d_MD_key_19 (by decide) (fun c_19 => ?_) (fun c_19 => ?_)
      · refine x_iconst C (v := 0) d_MD_key_35 (by decide) ?_
        refine x_istore C d_MD_key_36 (Nat.le_of_ble_eq_true rfl) rfl ?_
        refine x_aload_n C d_MD_key_38 rfl rfl ?_
        refine x_get C hMg1.1 rfl (in_MD _) 8 (by decide) (List.mem_cons_of_mem _ f_MD_84) rfl d_MD_key_39 ?_
        refine x_as1 (v := .int (bI (mO μ))) rfl ?_
        refine x_if_ne C 83 d_MD_key_42 (by decide) (fun c_42 => ?_) (fun c_42 => ?_)
        · exfalso
          clear C hnm hMg1 hFg1 hM hK hK6
          cases pr <;> cases db <;> simp_all [bI_0, bI]
        · refine x_aload_n C d_MD_key_45 rfl rfl ?_
          refine x_get C hMg1.1 rfl (in_MD _) 6 (by decide) (List.mem_cons_of_mem _ f_MD_78) rfl d_MD_key_46 ?_
          refine x_as1 (v := .int (mS μ 6)) rfl ?_
          refine x_bipush C (v := 6) d_MD_key_49 (by decide) ?_
          refine x_icmp_eq C 83 d_MD_key_51 (by decide) (fun c_51 => ?_) (fun c_51 => ?_)
          · exfalso
            clear C hnm hMg1 hFg1 hM hK hK6
            cases pr <;> cases db <;> simp_all [bI_0, bI]
          · refine x_iload_n C d_MD_key_54 rfl rfl ?_
            refine x_aload_n C d_MD_key_55 rfl rfl ?_
            refine x_get C hMg1.1 rfl (in_MD _) 6 (by decide) (List.mem_cons_of_mem _ f_MD_78) rfl d_MD_key_56 ?_
            refine x_as1 (v := .int (mS μ 6)) rfl ?_
            refine x_if_ne C 66 d_MD_key_59 (by decide) (fun c_59 => ?_) (fun c_59 => ?_)
            · refine x_iconst C (v := 0) d_MD_key_66 (by decide) ?_
              refine x_icmp_ne C 83 d_MD_key_67 (by decide) (fun c_67 => ?_) (fun c_67 => ?_)
              · exfalso
                clear C hnm hMg1 hFg1 hM hK hK6
                cases pr <;> cases db <;> simp_all [bI_0, bI]
              · refine x_iload_n C d_MD_key_70 rfl rfl ?_
                refine x_if_eq C 78 d_MD_key_71 (by decide) (fun c_71 => ?_) (fun c_71 => ?_)
                · refine x_iload C d_MD_key_78 rfl ?_
                  refine x_if_ne C 85 d_MD_key_80 (by decide) (fun c_80 => ?_) (fun c_80 => ?_)
                  · exact absurd c_80 (by decide)
                  · exfalso
                    clear C hnm hMg1 hFg1 hM hK hK6
                    cases pr <;> cases db <;> simp_all [bI_0, bI]
                · refine x_iload_n C d_MD_key_74 rfl rfl ?_
                  refine x_if_ne C 83 d_MD_key_75 (by decide) (fun c_75 => ?_) (fun c_75 => ?_)
                  · exfalso
                    clear C hnm hMg1 hFg1 hM hK hK6
                    cases pr <;> cases db <;> simp_all [bI_0, bI]
                  · refine x_iload C d_MD_key_78 rfl ?_
                    refine x_if_ne C 85 d_MD_key_80 (by decide) (fun c_80 => ?_) (fun c_80 => ?_)
                    · exact absurd c_80 (by decide)
                    · exfalso
                      clear C hnm hMg1 hFg1 hM hK hK6
                      cases pr <;> cases db <;> simp_all [bI_0, bI]
            · refine x_iconst C (v := 1) d_MD_key_62 (by decide) ?_
              refine x_goto C 67 d_MD_key_63 (by decide) ?_
              refine x_icmp_ne C 83 d_MD_key_67 (by decide) (fun c_67 => ?_) (fun c_67 => ?_)
              · exfalso
                clear C hnm hMg1 hFg1 hM hK hK6
                cases pr <;> cases db <;> simp_all [bI_0, bI]
              · refine x_iload_n C d_MD_key_70 rfl rfl ?_
                refine x_if_eq C 78 d_MD_key_71 (by decide) (fun c_71 => ?_) (fun c_71 => ?_)
                · refine x_iload C d_MD_key_78 rfl ?_
                  refine x_if_ne C 85 d_MD_key_80 (by decide) (fun c_80 => ?_) (fun c_80 => ?_)
                  · exact absurd c_80 (by decide)
                  · exfalso
                    clear C hnm hMg1 hFg1 hM hK hK6
                    cases pr <;> cases db <;> simp_all [bI_0, bI]
                · refine x_iload_n C d_MD_key_74 rfl rfl ?_
                  refine x_if_ne C 83 d_MD_key_75 (by decide) (fun c_75 => ?_) (fun c_75 => ?_)
                  · exfalso
                    clear C hnm hMg1 hFg1 hM hK hK6
                    cases pr <;> cases db <;> simp_all [bI_0, bI]
                  · refine x_iload C d_MD_key_78 rfl ?_
                    refine x_if_ne C 85 d_MD_key_80 (by decide) (fun c_80 => ?_) (fun c_80 => ?_)
                    · exact absurd c_80 (by decide)
                    · exfalso
                      clear C hnm hMg1 hFg1 hM hK hK6
                      cases pr <;> cases db <;> simp_all [bI_0, bI]
      · refine x_iload_n C d_MD_key_22 rfl rfl ?_
        refine x_bipush C (v := 8) d_MD_key_23 (by decide) ?_
        refine x_iload C d_MD_key_25 rfl ?_
        refine x_isub C d_MD_key_27 ?_
        refine x_icmp_gt C 35 d_MD_key_28 (by decide) (fun c_28 => ?_) (fun c_28 => ?_)
        · refine x_iconst C (v := 0) d_MD_key_35 (by decide) ?_
          refine x_istore C d_MD_key_36 (Nat.le_of_ble_eq_true rfl) rfl ?_
          refine x_aload_n C d_MD_key_38 rfl rfl ?_
          refine x_get C hMg1.1 rfl (in_MD _) 8 (by decide) (List.mem_cons_of_mem _ f_MD_84) rfl d_MD_key_39 ?_
          refine x_as1 (v := .int (bI (mO μ))) rfl ?_
          refine x_if_ne C 83 d_MD_key_42 (by decide) (fun c_42 => ?_) (fun c_42 => ?_)
          · exfalso
            clear C hnm hMg1 hFg1 hM hK hK6
            cases pr <;> cases db <;> simp_all [bI_0, bI]
          · refine x_aload_n C d_MD_key_45 rfl rfl ?_
            refine x_get C hMg1.1 rfl (in_MD _) 6 (by decide) (List.mem_cons_of_mem _ f_MD_78) rfl d_MD_key_46 ?_
            refine x_as1 (v := .int (mS μ 6)) rfl ?_
            refine x_bipush C (v := 6) d_MD_key_49 (by decide) ?_
            refine x_icmp_eq C 83 d_MD_key_51 (by decide) (fun c_51 => ?_) (fun c_51 => ?_)
            · exfalso
              clear C hnm hMg1 hFg1 hM hK hK6
              cases pr <;> cases db <;> simp_all [bI_0, bI]
            · refine x_iload_n C d_MD_key_54 rfl rfl ?_
              refine x_aload_n C d_MD_key_55 rfl rfl ?_
              refine x_get C hMg1.1 rfl (in_MD _) 6 (by decide) (List.mem_cons_of_mem _ f_MD_78) rfl d_MD_key_56 ?_
              refine x_as1 (v := .int (mS μ 6)) rfl ?_
              refine x_if_ne C 66 d_MD_key_59 (by decide) (fun c_59 => ?_) (fun c_59 => ?_)
              · refine x_iconst C (v := 0) d_MD_key_66 (by decide) ?_
                refine x_icmp_ne C 83 d_MD_key_67 (by decide) (fun c_67 => ?_) (fun c_67 => ?_)
                · exfalso
                  clear C hnm hMg1 hFg1 hM hK hK6
                  cases pr <;> cases db <;> simp_all [bI_0, bI]
                · refine x_iload_n C d_MD_key_70 rfl rfl ?_
                  refine x_if_eq C 78 d_MD_key_71 (by decide) (fun c_71 => ?_) (fun c_71 => ?_)
                  · refine x_iload C d_MD_key_78 rfl ?_
                    refine x_if_ne C 85 d_MD_key_80 (by decide) (fun c_80 => ?_) (fun c_80 => ?_)
                    · exact absurd c_80 (by decide)
                    · exfalso
                      clear C hnm hMg1 hFg1 hM hK hK6
                      cases pr <;> cases db <;> simp_all [bI_0, bI]
                  · refine x_iload_n C d_MD_key_74 rfl rfl ?_
                    refine x_if_ne C 83 d_MD_key_75 (by decide) (fun c_75 => ?_) (fun c_75 => ?_)
                    · exfalso
                      clear C hnm hMg1 hFg1 hM hK hK6
                      cases pr <;> cases db <;> simp_all [bI_0, bI]
                    · refine x_iload C d_MD_key_78 rfl ?_
                      refine x_if_ne C 85 d_MD_key_80 (by decide) (fun c_80 => ?_) (fun c_80 => ?_)
                      · exact absurd c_80 (by decide)
                      · exfalso
                        clear C hnm hMg1 hFg1 hM hK hK6
                        cases pr <;> cases db <;> simp_all [bI_0, bI]
              · refine x_iconst C (v := 1) d_MD_key_62 (by decide) ?_
                refine x_goto C 67 d_MD_key_63 (by decide) ?_
                refine x_icmp_ne C 83 d_MD_key_67 (by decide) (fun c_67 => ?_) (fun c_67 => ?_)
                · exfalso
                  clear C hnm hMg1 hFg1 hM hK hK6
                  cases pr <;> cases db <;> simp_all [bI_0, bI]
                · refine x_iload_n C d_MD_key_70 rfl rfl ?_
                  refine x_if_eq C 78 d_MD_key_71 (by decide) (fun c_71 => ?_) (fun c_71 => ?_)
                  · refine x_iload C d_MD_key_78 rfl ?_
                    refine x_if_ne C 85 d_MD_key_80 (by decide) (fun c_80 => ?_) (fun c_80 => ?_)
                    · exact absurd c_80 (by decide)
                    · exfalso
                      clear C hnm hMg1 hFg1 hM hK hK6
                      cases pr <;> cases db <;> simp_all [bI_0, bI]
                  · refine x_iload_n C d_MD_key_74 rfl rfl ?_
                    refine x_if_ne C 83 d_MD_key_75 (by decide) (fun c_75 => ?_) (fun c_75 => ?_)
                    · exfalso
                      clear C hnm hMg1 hFg1 hM hK hK6
                      cases pr <;> cases db <;> simp_all [bI_0, bI]
                    · refine x_iload C d_MD_key_78 rfl ?_
                      refine x_if_ne C 85 d_MD_key_80 (by decide) (fun c_80 => ?_) (fun c_80 => ?_)
                      · exact absurd c_80 (by decide)
                      · exfalso
                        clear C hnm hMg1 hFg1 hM hK hK6
                        cases pr <;> cases db <;> simp_all [bI_0, bI]
        · refine x_iconst C (v := 1) d_MD_key_31 (by decide) ?_
          refine x_goto C 36 d_MD_key_32 (by decide) ?_
          refine x_istore C d_MD_key_36 (Nat.le_of_ble_eq_true rfl) rfl ?_
          refine x_aload_n C d_MD_key_38 rfl rfl ?_
          refine x_get C hMg1.1 rfl (in_MD _) 8 (by decide) (List.mem_cons_of_mem _ f_MD_84) rfl d_MD_key_39 ?_
          refine x_as1 (v := .int (bI (mO μ))) rfl ?_
          refine x_if_ne C 83 d_MD_key_42 (by decide) (fun c_42 => ?_) (fun c_42 => ?_)
          · exfalso
            clear C hnm hMg1 hFg1 hM hK hK6
            cases pr <;> cases db <;> simp_all [bI_0, bI]
          · refine x_aload_n C d_MD_key_45 rfl rfl ?_
            refine x_get C hMg1.1 rfl (in_MD _) 6 (by decide) (List.mem_cons_of_mem _ f_MD_78) rfl d_MD_key_46 ?_
            refine x_as1 (v := .int (mS μ 6)) rfl ?_
            refine x_bipush C (v := 6) d_MD_key_49 (by decide) ?_
            refine x_icmp_eq C 83 d_MD_key_51 (by decide) (fun c_51 => ?_) (fun c_51 => ?_)
            · exfalso
              clear C hnm hMg1 hFg1 hM hK hK6
              cases pr <;> cases db <;> simp_all [bI_0, bI]
            · refine x_iload_n C d_MD_key_54 rfl rfl ?_
              refine x_aload_n C d_MD_key_55 rfl rfl ?_
              refine x_get C hMg1.1 rfl (in_MD _) 6 (by decide) (List.mem_cons_of_mem _ f_MD_78) rfl d_MD_key_56 ?_
              refine x_as1 (v := .int (mS μ 6)) rfl ?_
              refine x_if_ne C 66 d_MD_key_59 (by decide) (fun c_59 => ?_) (fun c_59 => ?_)
              · refine x_iconst C (v := 0) d_MD_key_66 (by decide) ?_
                refine x_icmp_ne C 83 d_MD_key_67 (by decide) (fun c_67 => ?_) (fun c_67 => ?_)
                · exfalso
                  clear C hnm hMg1 hFg1 hM hK hK6
                  cases pr <;> cases db <;> simp_all [bI_0, bI]
                · refine x_iload_n C d_MD_key_70 rfl rfl ?_
                  refine x_if_eq C 78 d_MD_key_71 (by decide) (fun c_71 => ?_) (fun c_71 => ?_)
                  · refine x_iload C d_MD_key_78 rfl ?_
                    refine x_if_ne C 85 d_MD_key_80 (by decide) (fun c_80 => ?_) (fun c_80 => ?_)
                    · refine x_aload_n C d_MD_key_85 rfl rfl ?_
                      refine x_get C hMg1.1 rfl (in_MD _) 1 (by decide) (List.mem_cons_of_mem _ f_MD_7) rfl d_MD_key_86 ?_
                      refine x_aload_n C d_MD_key_89 rfl rfl ?_
                      refine x_get C hMg1.1 rfl (in_MD _) 6 (by decide) (List.mem_cons_of_mem _ f_MD_78) rfl d_MD_key_90 ?_
                      refine x_as1 (v := .int (mS μ 6)) rfl ?_
                      refine x_iload_n C d_MD_key_93 rfl rfl ?_
                      refine x_mIs C hMg1 1 6 kI_1 (j := K) (x := fr) hK (by omega) d_MD_key_94 (fun _ hMg2 hFg2 => ?_)
                      refine x_aload_n C d_MD_key_95 rfl rfl ?_
                      refine x_get C hMg2.1 rfl (in_MD _) 2 (by decide) (List.mem_cons_of_mem _ f_MD_13) rfl d_MD_key_96 ?_
                      refine x_aload_n C d_MD_key_99 rfl rfl ?_
                      refine x_get C hMg2.1 rfl (in_MD _) 6 (by decide) (List.mem_cons_of_mem _ f_MD_78) rfl d_MD_key_100 ?_
                      refine x_as1 (v := .int (mS μ 6)) rfl ?_
                      refine x_iload C d_MD_key_103 rfl ?_
                      refine x_mIs C hMg2 2 6 kI_2 (j := K) (x := sz) hK (by omega) d_MD_key_105 (fun _ hMg3 hFg3 => ?_)
                      refine x_aload_n C d_MD_key_106 rfl rfl ?_
                      refine x_get C hMg3.1 rfl (in_MD _) 3 (by decide) (List.mem_cons_of_mem _ f_MD_16) rfl d_MD_key_107 ?_
                      refine x_aload_n C d_MD_key_110 rfl rfl ?_
                      refine x_get C hMg3.1 rfl (in_MD _) 6 (by decide) (List.mem_cons_of_mem _ f_MD_78) rfl d_MD_key_111 ?_
                      refine x_as1 (v := .int (mS μ 6)) rfl ?_
                      refine x_iload_n C d_MD_key_114 rfl rfl ?_
                      refine x_mZs C hMg3 3 6 kZ_3 (j := K) db hK (by omega) d_MD_key_115 (fun _ hMg4 hFg4 => ?_)
                      refine x_aload_n C d_MD_key_116 rfl rfl ?_
                      refine x_dup C d_MD_key_117 rfl ?_
                      refine x_get C hMg4.1 rfl (in_MD _) 6 (by decide) (List.mem_cons_of_mem _ f_MD_78) rfl d_MD_key_118 ?_
                      refine x_as1 (v := .int (mS μ 6)) rfl ?_
                      refine x_iconst C (v := 1) d_MD_key_121 (by decide) ?_
                      refine x_iadd C d_MD_key_122 ?_
                      refine x_mSp C hMg4 6 (by decide) (x := (mS μ 6) + (1)) f_MD_78 rfl rfl rfl d_MD_key_123 (fun _ hMg5 hFg5 => ?_)
                      refine x_aload_n C d_MD_key_126 rfl rfl ?_
                      refine x_get C hMg5.1 rfl (in_MD _) 6 (by decide) (List.mem_cons_of_mem _ f_MD_78) rfl d_MD_key_127 ?_
                      refine x_as1 (v := .int (mS (sS (sZ (sI (sI (sS μ 0 (0)) 1 K (fr)) 2 K (sz)) 3 K db) 6 ((mS μ 6) + (1))) 6)) rfl ?_
                      refine x_iconst C (v := 1) d_MD_key_130 (by decide) ?_
                      refine x_isub C d_MD_key_131 ?_
                      exact x_iret C (Nat.le_of_ble_eq_true rfl) (Nat.le_of_ble_eq_true rfl) d_MD_key_132 ⟨congrArg some (congrArg Value.int (show mS μ 6 + 1 - 1 = nI K from by rw [hK, nI_1, nI_pred])), by have h := hMg5; rw [show mS μ 6 + 1 = nI (K + 1) from by rw [hK, nI_1]] at h; exact h, (((hFg1.tr hFg2).tr hFg3).tr hFg4).tr hFg5⟩
                    · exact absurd c_80 (by decide)
                  · refine x_iload_n C d_MD_key_74 rfl rfl ?_
                    refine x_if_ne C 83 d_MD_key_75 (by decide) (fun c_75 => ?_) (fun c_75 => ?_)
                    · exfalso
                      clear C hnm hMg1 hFg1 hM hK hK6
                      cases pr <;> cases db <;> simp_all [bI_0, bI]
                    · refine x_iload C d_MD_key_78 rfl ?_
                      refine x_if_ne C 85 d_MD_key_80 (by decide) (fun c_80 => ?_) (fun c_80 => ?_)
                      · refine x_aload_n C d_MD_key_85 rfl rfl ?_
                        refine x_get C hMg1.1 rfl (in_MD _) 1 (by decide) (List.mem_cons_of_mem _ f_MD_7) rfl d_MD_key_86 ?_
                        refine x_aload_n C d_MD_key_89 rfl rfl ?_
                        refine x_get C hMg1.1 rfl (in_MD _) 6 (by decide) (List.mem_cons_of_mem _ f_MD_78) rfl d_MD_key_90 ?_
                        refine x_as1 (v := .int (mS μ 6)) rfl ?_
                        refine x_iload_n C d_MD_key_93 rfl rfl ?_
                        refine x_mIs C hMg1 1 6 kI_1 (j := K) (x := fr) hK (by omega) d_MD_key_94 (fun _ hMg6 hFg6 => ?_)
                        refine x_aload_n C d_MD_key_95 rfl rfl ?_
                        refine x_get C hMg6.1 rfl (in_MD _) 2 (by decide) (List.mem_cons_of_mem _ f_MD_13) rfl d_MD_key_96 ?_
                        refine x_aload_n C d_MD_key_99 rfl rfl ?_
                        refine x_get C hMg6.1 rfl (in_MD _) 6 (by decide) (List.mem_cons_of_mem _ f_MD_78) rfl d_MD_key_100 ?_
                        refine x_as1 (v := .int (mS μ 6)) rfl ?_
                        refine x_iload C d_MD_key_103 rfl ?_
                        refine x_mIs C hMg6 2 6 kI_2 (j := K) (x := sz) hK (by omega) d_MD_key_105 (fun _ hMg7 hFg7 => ?_)
                        refine x_aload_n C d_MD_key_106 rfl rfl ?_
                        refine x_get C hMg7.1 rfl (in_MD _) 3 (by decide) (List.mem_cons_of_mem _ f_MD_16) rfl d_MD_key_107 ?_
                        refine x_aload_n C d_MD_key_110 rfl rfl ?_
                        refine x_get C hMg7.1 rfl (in_MD _) 6 (by decide) (List.mem_cons_of_mem _ f_MD_78) rfl d_MD_key_111 ?_
                        refine x_as1 (v := .int (mS μ 6)) rfl ?_
                        refine x_iload_n C d_MD_key_114 rfl rfl ?_
                        refine x_mZs C hMg7 3 6 kZ_3 (j := K) db hK (by omega) d_MD_key_115 (fun _ hMg8 hFg8 => ?_)
                        refine x_aload_n C d_MD_key_116 rfl rfl ?_
                        refine x_dup C d_MD_key_117 rfl ?_
                        refine x_get C hMg8.1 rfl (in_MD _) 6 (by decide) (List.mem_cons_of_mem _ f_MD_78) rfl d_MD_key_118 ?_
                        refine x_as1 (v := .int (mS μ 6)) rfl ?_
                        refine x_iconst C (v := 1) d_MD_key_121 (by decide) ?_
                        refine x_iadd C d_MD_key_122 ?_
                        refine x_mSp C hMg8 6 (by decide) (x := (mS μ 6) + (1)) f_MD_78 rfl rfl rfl d_MD_key_123 (fun _ hMg9 hFg9 => ?_)
                        refine x_aload_n C d_MD_key_126 rfl rfl ?_
                        refine x_get C hMg9.1 rfl (in_MD _) 6 (by decide) (List.mem_cons_of_mem _ f_MD_78) rfl d_MD_key_127 ?_
                        refine x_as1 (v := .int (mS (sS (sZ (sI (sI (sS μ 0 (0)) 1 K (fr)) 2 K (sz)) 3 K db) 6 ((mS μ 6) + (1))) 6)) rfl ?_
                        refine x_iconst C (v := 1) d_MD_key_130 (by decide) ?_
                        refine x_isub C d_MD_key_131 ?_
                        exact x_iret C (Nat.le_of_ble_eq_true rfl) (Nat.le_of_ble_eq_true rfl) d_MD_key_132 ⟨congrArg some (congrArg Value.int (show mS μ 6 + 1 - 1 = nI K from by rw [hK, nI_1, nI_pred])), by have h := hMg9; rw [show mS μ 6 + 1 = nI (K + 1) from by rw [hK, nI_1]] at h; exact h, (((hFg1.tr hFg6).tr hFg7).tr hFg8).tr hFg9⟩
                      · exact absurd c_80 (by decide)
              · refine x_iconst C (v := 1) d_MD_key_62 (by decide) ?_
                refine x_goto C 67 d_MD_key_63 (by decide) ?_
                refine x_icmp_ne C 83 d_MD_key_67 (by decide) (fun c_67 => ?_) (fun c_67 => ?_)
                · exfalso
                  clear C hnm hMg1 hFg1 hM hK hK6
                  cases pr <;> cases db <;> simp_all [bI_0, bI]
                · refine x_iload_n C d_MD_key_70 rfl rfl ?_
                  refine x_if_eq C 78 d_MD_key_71 (by decide) (fun c_71 => ?_) (fun c_71 => ?_)
                  · refine x_iload C d_MD_key_78 rfl ?_
                    refine x_if_ne C 85 d_MD_key_80 (by decide) (fun c_80 => ?_) (fun c_80 => ?_)
                    · refine x_aload_n C d_MD_key_85 rfl rfl ?_
                      refine x_get C hMg1.1 rfl (in_MD _) 1 (by decide) (List.mem_cons_of_mem _ f_MD_7) rfl d_MD_key_86 ?_
                      refine x_aload_n C d_MD_key_89 rfl rfl ?_
                      refine x_get C hMg1.1 rfl (in_MD _) 6 (by decide) (List.mem_cons_of_mem _ f_MD_78) rfl d_MD_key_90 ?_
                      refine x_as1 (v := .int (mS μ 6)) rfl ?_
                      refine x_iload_n C d_MD_key_93 rfl rfl ?_
                      refine x_mIs C hMg1 1 6 kI_1 (j := K) (x := fr) hK (by omega) d_MD_key_94 (fun _ hMg10 hFg10 => ?_)
                      refine x_aload_n C d_MD_key_95 rfl rfl ?_
                      refine x_get C hMg10.1 rfl (in_MD _) 2 (by decide) (List.mem_cons_of_mem _ f_MD_13) rfl d_MD_key_96 ?_
                      refine x_aload_n C d_MD_key_99 rfl rfl ?_
                      refine x_get C hMg10.1 rfl (in_MD _) 6 (by decide) (List.mem_cons_of_mem _ f_MD_78) rfl d_MD_key_100 ?_
                      refine x_as1 (v := .int (mS μ 6)) rfl ?_
                      refine x_iload C d_MD_key_103 rfl ?_
                      refine x_mIs C hMg10 2 6 kI_2 (j := K) (x := sz) hK (by omega) d_MD_key_105 (fun _ hMg11 hFg11 => ?_)
                      refine x_aload_n C d_MD_key_106 rfl rfl ?_
                      refine x_get C hMg11.1 rfl (in_MD _) 3 (by decide) (List.mem_cons_of_mem _ f_MD_16) rfl d_MD_key_107 ?_
                      refine x_aload_n C d_MD_key_110 rfl rfl ?_
                      refine x_get C hMg11.1 rfl (in_MD _) 6 (by decide) (List.mem_cons_of_mem _ f_MD_78) rfl d_MD_key_111 ?_
                      refine x_as1 (v := .int (mS μ 6)) rfl ?_
                      refine x_iload_n C d_MD_key_114 rfl rfl ?_
                      refine x_mZs C hMg11 3 6 kZ_3 (j := K) db hK (by omega) d_MD_key_115 (fun _ hMg12 hFg12 => ?_)
                      refine x_aload_n C d_MD_key_116 rfl rfl ?_
                      refine x_dup C d_MD_key_117 rfl ?_
                      refine x_get C hMg12.1 rfl (in_MD _) 6 (by decide) (List.mem_cons_of_mem _ f_MD_78) rfl d_MD_key_118 ?_
                      refine x_as1 (v := .int (mS μ 6)) rfl ?_
                      refine x_iconst C (v := 1) d_MD_key_121 (by decide) ?_
                      refine x_iadd C d_MD_key_122 ?_
                      refine x_mSp C hMg12 6 (by decide) (x := (mS μ 6) + (1)) f_MD_78 rfl rfl rfl d_MD_key_123 (fun _ hMg13 hFg13 => ?_)
                      refine x_aload_n C d_MD_key_126 rfl rfl ?_
                      refine x_get C hMg13.1 rfl (in_MD _) 6 (by decide) (List.mem_cons_of_mem _ f_MD_78) rfl d_MD_key_127 ?_
                      refine x_as1 (v := .int (mS (sS (sZ (sI (sI (sS μ 0 (0)) 1 K (fr)) 2 K (sz)) 3 K db) 6 ((mS μ 6) + (1))) 6)) rfl ?_
                      refine x_iconst C (v := 1) d_MD_key_130 (by decide) ?_
                      refine x_isub C d_MD_key_131 ?_
                      exact x_iret C (Nat.le_of_ble_eq_true rfl) (Nat.le_of_ble_eq_true rfl) d_MD_key_132 ⟨congrArg some (congrArg Value.int (show mS μ 6 + 1 - 1 = nI K from by rw [hK, nI_1, nI_pred])), by have h := hMg13; rw [show mS μ 6 + 1 = nI (K + 1) from by rw [hK, nI_1]] at h; exact h, (((hFg1.tr hFg10).tr hFg11).tr hFg12).tr hFg13⟩
                    · exact absurd c_80 (by decide)
                  · refine x_iload_n C d_MD_key_74 rfl rfl ?_
                    refine x_if_ne C 83 d_MD_key_75 (by decide) (fun c_75 => ?_) (fun c_75 => ?_)
                    · exfalso
                      clear C hnm hMg1 hFg1 hM hK hK6
                      cases pr <;> cases db <;> simp_all [bI_0, bI]
                    · refine x_iload C d_MD_key_78 rfl ?_
                      refine x_if_ne C 85 d_MD_key_80 (by decide) (fun c_80 => ?_) (fun c_80 => ?_)
                      · refine x_aload_n C d_MD_key_85 rfl rfl ?_
                        refine x_get C hMg1.1 rfl (in_MD _) 1 (by decide) (List.mem_cons_of_mem _ f_MD_7) rfl d_MD_key_86 ?_
                        refine x_aload_n C d_MD_key_89 rfl rfl ?_
                        refine x_get C hMg1.1 rfl (in_MD _) 6 (by decide) (List.mem_cons_of_mem _ f_MD_78) rfl d_MD_key_90 ?_
                        refine x_as1 (v := .int (mS μ 6)) rfl ?_
                        refine x_iload_n C d_MD_key_93 rfl rfl ?_
                        refine x_mIs C hMg1 1 6 kI_1 (j := K) (x := fr) hK (by omega) d_MD_key_94 (fun _ hMg14 hFg14 => ?_)
                        refine x_aload_n C d_MD_key_95 rfl rfl ?_
                        refine x_get C hMg14.1 rfl (in_MD _) 2 (by decide) (List.mem_cons_of_mem _ f_MD_13) rfl d_MD_key_96 ?_
                        refine x_aload_n C d_MD_key_99 rfl rfl ?_
                        refine x_get C hMg14.1 rfl (in_MD _) 6 (by decide) (List.mem_cons_of_mem _ f_MD_78) rfl d_MD_key_100 ?_
                        refine x_as1 (v := .int (mS μ 6)) rfl ?_
                        refine x_iload C d_MD_key_103 rfl ?_
                        refine x_mIs C hMg14 2 6 kI_2 (j := K) (x := sz) hK (by omega) d_MD_key_105 (fun _ hMg15 hFg15 => ?_)
                        refine x_aload_n C d_MD_key_106 rfl rfl ?_
                        refine x_get C hMg15.1 rfl (in_MD _) 3 (by decide) (List.mem_cons_of_mem _ f_MD_16) rfl d_MD_key_107 ?_
                        refine x_aload_n C d_MD_key_110 rfl rfl ?_
                        refine x_get C hMg15.1 rfl (in_MD _) 6 (by decide) (List.mem_cons_of_mem _ f_MD_78) rfl d_MD_key_111 ?_
                        refine x_as1 (v := .int (mS μ 6)) rfl ?_
                        refine x_iload_n C d_MD_key_114 rfl rfl ?_
                        refine x_mZs C hMg15 3 6 kZ_3 (j := K) db hK (by omega) d_MD_key_115 (fun _ hMg16 hFg16 => ?_)
                        refine x_aload_n C d_MD_key_116 rfl rfl ?_
                        refine x_dup C d_MD_key_117 rfl ?_
                        refine x_get C hMg16.1 rfl (in_MD _) 6 (by decide) (List.mem_cons_of_mem _ f_MD_78) rfl d_MD_key_118 ?_
                        refine x_as1 (v := .int (mS μ 6)) rfl ?_
                        refine x_iconst C (v := 1) d_MD_key_121 (by decide) ?_
                        refine x_iadd C d_MD_key_122 ?_
                        refine x_mSp C hMg16 6 (by decide) (x := (mS μ 6) + (1)) f_MD_78 rfl rfl rfl d_MD_key_123 (fun _ hMg17 hFg17 => ?_)
                        refine x_aload_n C d_MD_key_126 rfl rfl ?_
                        refine x_get C hMg17.1 rfl (in_MD _) 6 (by decide) (List.mem_cons_of_mem _ f_MD_78) rfl d_MD_key_127 ?_
                        refine x_as1 (v := .int (mS (sS (sZ (sI (sI (sS μ 0 (0)) 1 K (fr)) 2 K (sz)) 3 K db) 6 ((mS μ 6) + (1))) 6)) rfl ?_
                        refine x_iconst C (v := 1) d_MD_key_130 (by decide) ?_
                        refine x_isub C d_MD_key_131 ?_
                        exact x_iret C (Nat.le_of_ble_eq_true rfl) (Nat.le_of_ble_eq_true rfl) d_MD_key_132 ⟨congrArg some (congrArg Value.int (show mS μ 6 + 1 - 1 = nI K from by rw [hK, nI_1, nI_pred])), by have h := hMg17; rw [show mS μ 6 + 1 = nI (K + 1) from by rw [hK, nI_1]] at h; exact h, (((hFg1.tr hFg14).tr hFg15).tr hFg16).tr hFg17⟩
                      · exact absurd c_80 (by decide)
