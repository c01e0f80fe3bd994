set_option maxRecDepth 4000 in
set_option maxHeartbeats 800000 in
theorem q_MD_field (l : Launch) (E : xE) {G : xw_G} {md : Nat} {a : Nat → Nat} {μ : MS} (hM : xMD E G md a μ) {k : Nat} (hk : k < 6) {x : Int64} : XMk l E y_MD_field w_MD_field rm_MD_field [.ref md, .int (nI k), .long (x)] G (fun r G' => r = some (.long (mF μ k x)) ∧ G = G') 0 0 := by
  refine XM_of [some (.ref md), some (.int (nI k)), some (.long (x)), none, none, none] (XZ_st E) (by decide) rfl rfl rfl (Nat.le_of_ble_eq_true rfl) (fun p e s m below meth c C hnm => ?_)
  refine x_lload_n C d_MD_field_0 rfl rfl ?_
  refine x_bipush C (v := 8) d_MD_field_1 (by decide) ?_
  refine x_aload_n C d_MD_field_3 rfl rfl ?_
  refine x_get C hM.1 rfl (in_MD _) 1 (by decide) (List.mem_cons_of_mem _ f_MD_7) rfl d_MD_field_4 ?_
  refine x_iload_n C d_MD_field_7 rfl rfl ?_
  refine x_mIv C hM 1 6 kI_1 rfl (j := k) (by omega) (mI μ 1 k) rfl d_MD_field_8 ?_
  refine x_imul C d_MD_field_9 ?_
  refine x_lshl C d_MD_field_10 ?_
  refine x_lstore C d_MD_field_11 (Nat.le_of_ble_eq_true rfl) rfl ?_
  refine x_lload C d_MD_field_13 rfl ?_
  refine x_bipush C (v := 64) d_MD_field_15 (by decide) ?_
  refine x_bipush C (v := 8) d_MD_field_17 (by decide) ?_
  refine x_aload_n C d_MD_field_19 rfl rfl ?_
  refine x_get C hM.1 rfl (in_MD _) 2 (by decide) (List.mem_cons_of_mem _ f_MD_13) rfl d_MD_field_20 ?_
  refine x_iload_n C d_MD_field_23 rfl rfl ?_
  refine x_mIv C hM 2 6 kI_2 rfl (j := k) (by omega) (mI μ 2 k) rfl d_MD_field_24 ?_
  refine x_imul C d_MD_field_25 ?_
  refine x_isub C d_MD_field_26 ?_
  refine x_lushr C d_MD_field_27 ?_
  exact x_lret C (Nat.le_of_ble_eq_true rfl) (Nat.le_of_ble_eq_true rfl) d_MD_field_28 ⟨rfl, rfl⟩
set_option maxRecDepth 4000 in
set_option maxHeartbeats 800000 in
theorem q_MD_isLess (l : Launch) (E : xE) {G : xw_G} {x y : Int64} : XMk l E y_MD_isLess w_MD_isLess rm_MD_isLess [.long (x), .long (y)] G (fun r G' => r = some (.int (bI (mLs x y))) ∧ G = G') 0 0 := by
  refine XM_of [some (.long (x)), none, some (.long (y)), none] (XZ_st E) (by decide) rfl rfl rfl (Nat.le_of_ble_eq_true rfl) (fun p e s m below meth c C hnm => ?_)
  refine x_lload_n C d_MD_isLess_0 rfl rfl ?_
  refine x_ldc2 C d_MD_isLess_1 (List.mem_cons_of_mem _ kl_MD_76) ?_
  refine x_lxor C d_MD_isLess_4 ?_
  refine x_lload_n C d_MD_isLess_5 rfl rfl ?_
  refine x_ldc2 C d_MD_isLess_6 (List.mem_cons_of_mem _ kl_MD_76) ?_
  refine x_lxor C d_MD_isLess_9 ?_
  refine x_lcmp C d_MD_isLess_10 ?_
  refine x_if_ge C 18 d_MD_isLess_11 (by decide) (fun c_11 => ?_) (fun c_11 => ?_)
  · refine x_iconst C (v := 0) d_MD_isLess_18 (by decide) ?_
    exact x_zret C rfl (Nat.le_of_ble_eq_true rfl) (Nat.le_of_ble_eq_true rfl) d_MD_isLess_19 ⟨by rw [lg_ge, uN_ltx] at c_11; simp [bI, mLs, c_11], rfl⟩
  · refine x_iconst C (v := 1) d_MD_isLess_14 (by decide) ?_
    refine x_goto C 19 d_MD_isLess_15 (by decide) ?_
    exact x_zret C rfl (Nat.le_of_ble_eq_true rfl) (Nat.le_of_ble_eq_true rfl) d_MD_isLess_19 ⟨by rw [lg_ge, uN_ltx] at c_11; simp [bI, mLs, c_11], rfl⟩
set_option maxRecDepth 4000 in
set_option maxHeartbeats 800000 in
theorem q_MD_isKey (l : Launch) (E : xE) {G : xw_G} {md : Nat} {a : Nat → Nat} {μ : MS} (hM : xMD E G md a μ) {j : Int32} : XMk l E y_MD_isKey w_MD_isKey rm_MD_isKey [.ref md, .int (j)] G (fun r G' => r = some (.int (bI (mKy μ j))) ∧ G = G') 0 0 := by
  refine XM_of [some (.ref md), some (.int (j))] (XZ_st E) (by decide) rfl rfl rfl (Nat.le_of_ble_eq_true rfl) (fun p e s m below meth c C hnm => ?_)
  refine x_iload_n C d_MD_isKey_0 rfl rfl ?_
  refine x_if_lt C 16 d_MD_isKey_1 (by decide) (fun c_1 => ?_) (fun c_1 => ?_)
  · refine x_iconst C (v := 0) d_MD_isKey_16 (by decide) ?_
    exact x_zret C rfl (Nat.le_of_ble_eq_true rfl) (Nat.le_of_ble_eq_true rfl) d_MD_isKey_17 ⟨congrArg some (congrArg Value.int (by clear C hnm hM; simp_all [bI, bI_0, Int32.not_lt, Int32.not_le, mKy] <;> (intro h; exact absurd h (Int32.not_lt.mpr ‹_›)))), rfl⟩
  · refine x_iload_n C d_MD_isKey_4 rfl rfl ?_
    refine x_aload_n C d_MD_isKey_5 rfl rfl ?_
    refine x_get C hM.1 rfl (in_MD _) 6 (by decide) (List.mem_cons_of_mem _ f_MD_78) rfl d_MD_isKey_6 ?_
    refine x_as1 (v := .int (mS μ 6)) rfl ?_
    refine x_icmp_ge C 16 d_MD_isKey_9 (by decide) (fun c_9 => ?_) (fun c_9 => ?_)
    · refine x_iconst C (v := 0) d_MD_isKey_16 (by decide) ?_
      exact x_zret C rfl (Nat.le_of_ble_eq_true rfl) (Nat.le_of_ble_eq_true rfl) d_MD_isKey_17 ⟨congrArg some (congrArg Value.int (by clear C hnm hM; simp_all [bI, bI_0, Int32.not_lt, Int32.not_le, mKy] <;> (intro h; exact absurd h (Int32.not_lt.mpr ‹_›)))), rfl⟩
    · refine x_iconst C (v := 1) d_MD_isKey_12 (by decide) ?_
      refine x_goto C 17 d_MD_isKey_13 (by decide) ?_
      exact x_zret C rfl (Nat.le_of_ble_eq_true rfl) (Nat.le_of_ble_eq_true rfl) d_MD_isKey_17 ⟨congrArg some (congrArg Value.int (by clear C hnm hM; simp_all [bI, bI_0, Int32.not_lt, Int32.not_le, mKy] <;> (intro h; exact absurd h (Int32.not_lt.mpr ‹_›)))), rfl⟩
set_option maxRecDepth 4000 in
set_option maxHeartbeats 800000 in
theorem q_MD_isView (l : Launch) (E : xE) {G : xw_G} {md : Nat} {a : Nat → Nat} {μ : MS} (hM : xMD E G md a μ) {j : Int32} : XMk l E y_MD_isView w_MD_isView rm_MD_isView [.ref md, .int (j)] G (fun r G' => r = some (.int (bI (mVw μ j))) ∧ G = G') 0 0 := by
  refine XM_of [some (.ref md), some (.int (j))] (XZ_st E) (by decide) rfl rfl rfl (Nat.le_of_ble_eq_true rfl) (fun p e s m below meth c C hnm => ?_)
  refine x_iload_n C d_MD_isView_0 rfl rfl ?_
  refine x_if_lt C 16 d_MD_isView_1 (by decide) (fun c_1 => ?_) (fun c_1 => ?_)
  · refine x_iconst C (v := 0) d_MD_isView_16 (by decide) ?_
    exact x_zret C rfl (Nat.le_of_ble_eq_true rfl) (Nat.le_of_ble_eq_true rfl) d_MD_isView_17 ⟨congrArg some (congrArg Value.int (by clear C hnm hM; simp_all [bI, bI_0, Int32.not_lt, Int32.not_le, mVw] <;> (intro h; exact absurd h (Int32.not_lt.mpr ‹_›)))), rfl⟩
  · refine x_iload_n C d_MD_isView_4 rfl rfl ?_
    refine x_aload_n C d_MD_isView_5 rfl rfl ?_
    refine x_get C hM.1 rfl (in_MD _) 7 (by decide) (List.mem_cons_of_mem _ f_MD_81) rfl d_MD_isView_6 ?_
    refine x_as1 (v := .int (mS μ 7)) rfl ?_
    refine x_icmp_ge C 16 d_MD_isView_9 (by decide) (fun c_9 => ?_) (fun c_9 => ?_)
    · refine x_iconst C (v := 0) d_MD_isView_16 (by decide) ?_
      exact x_zret C rfl (Nat.le_of_ble_eq_true rfl) (Nat.le_of_ble_eq_true rfl) d_MD_isView_17 ⟨congrArg some (congrArg Value.int (by clear C hnm hM; simp_all [bI, bI_0, Int32.not_lt, Int32.not_le, mVw] <;> (intro h; exact absurd h (Int32.not_lt.mpr ‹_›)))), rfl⟩
    · refine x_iconst C (v := 1) d_MD_isView_12 (by decide) ?_
      refine x_goto C 17 d_MD_isView_13 (by decide) ?_
      exact x_zret C rfl (Nat.le_of_ble_eq_true rfl) (Nat.le_of_ble_eq_true rfl) d_MD_isView_17 ⟨congrArg some (congrArg Value.int (by clear C hnm hM; simp_all [bI, bI_0, Int32.not_lt, Int32.not_le, mVw] <;> (intro h; exact absurd h (Int32.not_lt.mpr ‹_›)))), rfl⟩
set_option maxRecDepth 4000 in
set_option maxHeartbeats 800000 in
theorem q_MD_hasEntry (l : Launch) (E : xE) {G : xw_G} {md : Nat} {a : Nat → Nat} {μ : MS} (hM : xMD E G md a μ) {k : Nat} (hk : k < 6) {x : Int64} : XMk l E y_MD_hasEntry w_MD_hasEntry rm_MD_hasEntry [.ref md, .int (nI k), .long (x)] G (fun r G' => r = some (.int (bI (mHs μ k x))) ∧ G = G') 0 0 := by
  refine XM_of [some (.ref md), some (.int (nI k)), some (.long (x)), none] (XZ_st E) (by decide) rfl rfl rfl (Nat.le_of_ble_eq_true rfl) (fun p e s m below meth c C hnm => ?_)
  have hk0 : nI k = 0 ↔ k = 0 := by rw [← nI_0]; exact nI_eq (by omega) (by omega)
  refine x_iload_n C d_MD_hasEntry_0 rfl rfl ?_
  refine x_if_eq C 29 d_MD_hasEntry_1 (by decide) (fun c_1 => ?_) (fun c_1 => ?_)
  · refine x_iconst C (v := 1) d_MD_hasEntry_29 (by decide) ?_
    refine x_goto C 34 d_MD_hasEntry_30 (by decide) ?_
    exact x_zret C rfl (Nat.le_of_ble_eq_true rfl) (Nat.le_of_ble_eq_true rfl) d_MD_hasEntry_34 ⟨congrArg some (congrArg Value.int (by clear C hnm hM; simp_all [bI, bI_0, Int32.not_lt, Int32.not_le, mHs, bI_0, lg_eq] <;> (intro h; exact absurd h (Int32.not_lt.mpr ‹_›)))), rfl⟩
  · refine x_aload_n C d_MD_hasEntry_4 rfl rfl ?_
    refine x_get C hM.1 rfl (in_MD _) 4 (by decide) (List.mem_cons_of_mem _ f_MD_20) rfl d_MD_hasEntry_5 ?_
    refine x_iload_n C d_MD_hasEntry_8 rfl rfl ?_
    refine x_mZv C hM 4 6 kZ_4 rfl (j := k) (by omega) (mZ μ 4 k) rfl d_MD_hasEntry_9 ?_
    refine x_if_eq C 29 d_MD_hasEntry_10 (by decide) (fun c_10 => ?_) (fun c_10 => ?_)
    · refine x_iconst C (v := 1) d_MD_hasEntry_29 (by decide) ?_
      refine x_goto C 34 d_MD_hasEntry_30 (by decide) ?_
      exact x_zret C rfl (Nat.le_of_ble_eq_true rfl) (Nat.le_of_ble_eq_true rfl) d_MD_hasEntry_34 ⟨congrArg some (congrArg Value.int (by clear C hnm hM; simp_all [bI, bI_0, Int32.not_lt, Int32.not_le, mHs, bI_0, lg_eq] <;> (intro h; exact absurd h (Int32.not_lt.mpr ‹_›)))), rfl⟩
    · refine x_aload_n C d_MD_hasEntry_13 rfl rfl ?_
      refine x_iload_n C d_MD_hasEntry_14 rfl rfl ?_
      refine x_lload_n C d_MD_hasEntry_15 rfl rfl ?_
      refine x_callV2 C (q_MD_field l E hM (k := k) (by omega)) (lk_MD_98 C.hts (Nat.le_of_ble_eq_true rfl) (Nat.le_of_ble_eq_true rfl)) hM.1 rfl rfl d_MD_hasEntry_16 (Nat.le_of_ble_eq_true rfl) (Nat.le_of_ble_eq_true rfl) (Nat.le_of_ble_eq_true rfl) (fun r G' h => ?_)
      obtain ⟨rfl, rfl⟩ : r = some (.long (mF μ k (x))) ∧ _ = G' := h
      refine x_aload_n C d_MD_hasEntry_19 rfl rfl ?_
      refine x_get C hM.1 rfl (in_MD _) 5 (by decide) (List.mem_cons_of_mem _ f_MD_23) rfl d_MD_hasEntry_20 ?_
      refine x_iload_n C d_MD_hasEntry_23 rfl rfl ?_
      refine x_mJv C hM 5 6 kJ_5 rfl (j := k) (by omega) (mJ μ 5 k) rfl d_MD_hasEntry_24 ?_
      refine x_lcmp C d_MD_hasEntry_25 ?_
      refine x_if_eq C 33 d_MD_hasEntry_26 (by decide) (fun c_26 => ?_) (fun c_26 => ?_)
      · refine x_iconst C (v := 0) d_MD_hasEntry_33 (by decide) ?_
        exact x_zret C rfl (Nat.le_of_ble_eq_true rfl) (Nat.le_of_ble_eq_true rfl) d_MD_hasEntry_34 ⟨congrArg some (congrArg Value.int (by clear C hnm hM; simp_all [bI, bI_0, Int32.not_lt, Int32.not_le, mHs, bI_0, lg_eq] <;> (intro h; exact absurd h (Int32.not_lt.mpr ‹_›)))), rfl⟩
      · refine x_iconst C (v := 1) d_MD_hasEntry_29 (by decide) ?_
        refine x_goto C 34 d_MD_hasEntry_30 (by decide) ?_
        exact x_zret C rfl (Nat.le_of_ble_eq_true rfl) (Nat.le_of_ble_eq_true rfl) d_MD_hasEntry_34 ⟨congrArg some (congrArg Value.int (by clear C hnm hM; simp_all [bI, bI_0, Int32.not_lt, Int32.not_le, mHs, bI_0, lg_eq] <;> (intro h; exact absurd h (Int32.not_lt.mpr ‹_›)))), rfl⟩
set_option maxRecDepth 4000 in
set_option maxHeartbeats 800000 in
theorem q_MD_rank (l : Launch) (E : xE) {G : xw_G} {md : Nat} {a : Nat → Nat} {μ : MS} (hM : xMD E G md a μ) {k : Nat} (hk : k < 6) {sl : Nat} (hr : sl < 300) : XMk l E y_MD_rank w_MD_rank rm_MD_rank [.ref md, .int (nI k), .int (nI sl)] G (fun r G' => r = some (.int (mRk μ k sl)) ∧ G = G') 0 0 := by
  refine XM_of [some (.ref md), some (.int (nI k)), some (.int (nI sl))] (XZ_st E) (by decide) rfl rfl rfl (Nat.le_of_ble_eq_true rfl) (fun p e s m below meth c C hnm => ?_)
  refine x_aload_n C d_MD_rank_0 rfl rfl ?_
  refine x_get C hM.1 rfl (in_MD _) 11 (by decide) (List.mem_cons_of_mem _ f_MD_33) rfl d_MD_rank_1 ?_
  refine x_sipush C (v := 300) d_MD_rank_4 (by decide) ?_
  refine x_iload_n C d_MD_rank_7 rfl rfl ?_
  refine x_imul C d_MD_rank_8 ?_
  refine x_iload_n C d_MD_rank_9 rfl rfl ?_
  refine x_iadd C d_MD_rank_10 ?_
  refine x_mIv C hM 11 1800 kI_11 ix300 (j := 300 * k + sl) (by omega) (mI μ 11 (300 * k + sl)) rfl d_MD_rank_11 ?_
  exact x_iret C (Nat.le_of_ble_eq_true rfl) (Nat.le_of_ble_eq_true rfl) d_MD_rank_12 ⟨rfl, rfl⟩
set_option maxRecDepth 4000 in
set_option maxHeartbeats 800000 in
theorem q_MD_isEntry (l : Launch) (E : xE) {G : xw_G} {md : Nat} {a : Nat → Nat} {μ : MS} (hM : xMD E G md a μ) {k : Nat} (hk : k < 6) {sl : Nat} (hr : sl < 300) : XMk l E y_MD_isEntry w_MD_isEntry rm_MD_isEntry [.ref md, .int (nI k), .int (nI sl)] G (fun r G' => r = some (.int (bI (mEn μ k sl))) ∧ G = G') 0 0 := by
  refine XM_of [some (.ref md), some (.int (nI k)), some (.int (nI sl))] (XZ_st E) (by decide) rfl rfl rfl (Nat.le_of_ble_eq_true rfl) (fun p e s m below meth c C hnm => ?_)
  refine x_aload_n C d_MD_isEntry_0 rfl rfl ?_
  refine x_get C hM.1 rfl (in_MD _) 10 (by decide) (List.mem_cons_of_mem _ f_MD_30) rfl d_MD_isEntry_1 ?_
  refine x_iload_n C d_MD_isEntry_4 rfl rfl ?_
  refine x_mIv C hM 10 300 kI_10 rfl (j := sl) (by omega) (mI μ 10 sl) rfl d_MD_isEntry_5 ?_
  refine x_if_le C 27 d_MD_isEntry_6 (by decide) (fun c_6 => ?_) (fun c_6 => ?_)
  · refine x_iconst C (v := 0) d_MD_isEntry_27 (by decide) ?_
    exact x_zret C rfl (Nat.le_of_ble_eq_true rfl) (Nat.le_of_ble_eq_true rfl) d_MD_isEntry_28 ⟨congrArg some (congrArg Value.int (by clear C hnm hM; simp_all [bI, bI_0, Int32.not_lt, Int32.not_le, mEn, bI_0] <;> (intro h; exact absurd h (Int32.not_lt.mpr ‹_›)))), rfl⟩
  · refine x_aload_n C d_MD_isEntry_9 rfl rfl ?_
    refine x_iload_n C d_MD_isEntry_10 rfl rfl ?_
    refine x_aload_n C d_MD_isEntry_11 rfl rfl ?_
    refine x_get C hM.1 rfl (in_MD _) 9 (by decide) (List.mem_cons_of_mem _ f_MD_27) rfl d_MD_isEntry_12 ?_
    refine x_iload_n C d_MD_isEntry_15 rfl rfl ?_
    refine x_mJv C hM 9 300 kJ_9 rfl (j := sl) (by omega) (mJ μ 9 sl) rfl d_MD_isEntry_16 ?_
    refine x_callV2 C (q_MD_hasEntry l E hM (k := k) (by omega)) (lk_MD_102 C.hts (Nat.le_of_ble_eq_true rfl) (Nat.le_of_ble_eq_true rfl)) hM.1 rfl rfl d_MD_isEntry_17 (Nat.le_of_ble_eq_true rfl) (Nat.le_of_ble_eq_true rfl) (Nat.le_of_ble_eq_true rfl) (fun r G' h => ?_)
    obtain ⟨rfl, rfl⟩ : r = some (.int (bI (mHs μ k (mJ μ 9 sl)))) ∧ _ = G' := h
    refine x_if_eq C 27 d_MD_isEntry_20 (by decide) (fun c_20 => ?_) (fun c_20 => ?_)
    · refine x_iconst C (v := 0) d_MD_isEntry_27 (by decide) ?_
      exact x_zret C rfl (Nat.le_of_ble_eq_true rfl) (Nat.le_of_ble_eq_true rfl) d_MD_isEntry_28 ⟨congrArg some (congrArg Value.int (by clear C hnm hM; simp_all [bI, bI_0, Int32.not_lt, Int32.not_le, mEn, bI_0] <;> (intro h; exact absurd h (Int32.not_lt.mpr ‹_›)))), rfl⟩
    · refine x_iconst C (v := 1) d_MD_isEntry_23 (by decide) ?_
      refine x_goto C 28 d_MD_isEntry_24 (by decide) ?_
      exact x_zret C rfl (Nat.le_of_ble_eq_true rfl) (Nat.le_of_ble_eq_true rfl) d_MD_isEntry_28 ⟨congrArg some (congrArg Value.int (by clear C hnm hM; simp_all [bI, bI_0, Int32.not_lt, Int32.not_le, mEn, bI_0] <;> (intro h; exact absurd h (Int32.not_lt.mpr ‹_›)))), rfl⟩
set_option maxRecDepth 4000 in
set_option maxHeartbeats 800000 in
theorem q_MD_isAhead (l : Launch) (E : xE) {G : xw_G} {md : Nat} {a : Nat → Nat} {μ : MS} (hM : xMD E G md a μ) {k : Nat} (hk : k < 6) {sl : Nat} (hr : sl < 300) {f : Int64} {rk : Int32} : XMk l E y_MD_isAhead w_MD_isAhead rm_MD_isAhead [.ref md, .int (nI k), .int (nI sl), .long (f), .int (rk)] G (fun r G' => r = some (.int (bI (mAh μ k sl f rk))) ∧ G = G') 0 0 := by
  refine XM_of [some (.ref md), some (.int (nI k)), some (.int (nI sl)), some (.long (f)), none, some (.int (rk)), none, none] (XZ_st E) (by decide) rfl rfl rfl (Nat.le_of_ble_eq_true rfl) (fun p e s m below meth c C hnm => ?_)
  refine x_aload_n C d_MD_isAhead_0 rfl rfl ?_
  refine x_iload_n C d_MD_isAhead_1 rfl rfl ?_
  refine x_aload_n C d_MD_isAhead_2 rfl rfl ?_
  refine x_get C hM.1 rfl (in_MD _) 9 (by decide) (List.mem_cons_of_mem _ f_MD_27) rfl d_MD_isAhead_3 ?_
  refine x_iload_n C d_MD_isAhead_6 rfl rfl ?_
  refine x_mJv C hM 9 300 kJ_9 rfl (j := sl) (by omega) (mJ μ 9 sl) rfl d_MD_isAhead_7 ?_
  refine x_callV2 C (q_MD_field l E hM (k := k) (by omega)) (lk_MD_98 C.hts (Nat.le_of_ble_eq_true rfl) (Nat.le_of_ble_eq_true rfl)) hM.1 rfl rfl d_MD_isAhead_8 (Nat.le_of_ble_eq_true rfl) (Nat.le_of_ble_eq_true rfl) (Nat.le_of_ble_eq_true rfl) (fun r G' h => ?_)
  obtain ⟨rfl, rfl⟩ : r = some (.long (mF μ k (mJ μ 9 sl))) ∧ _ = G' := h
  refine x_lstore C d_MD_isAhead_11 (Nat.le_of_ble_eq_true rfl) rfl ?_
  refine x_lload C d_MD_isAhead_13 rfl ?_
  refine x_lload_n C d_MD_isAhead_15 rfl rfl ?_
  refine x_callS2 C (q_MD_isLess l E) (lk_MD_106 C.hts (Nat.le_of_ble_eq_true rfl) (Nat.le_of_ble_eq_true rfl)) rfl d_MD_isAhead_16 (Nat.le_of_ble_eq_true rfl) (Nat.le_of_ble_eq_true rfl) (Nat.le_of_ble_eq_true rfl) (fun r G' h => ?_)
  obtain ⟨rfl, rfl⟩ : r = some (.int (bI (mLs (mF μ k (mJ μ 9 sl)) (f)))) ∧ _ = G' := h
  refine x_if_ne C 40 d_MD_isAhead_19 (by decide) (fun c_19 => ?_) (fun c_19 => ?_)
  · refine x_iconst C (v := 1) d_MD_isAhead_40 (by decide) ?_
    refine x_goto C 45 d_MD_isAhead_41 (by decide) ?_
    exact x_zret C rfl (Nat.le_of_ble_eq_true rfl) (Nat.le_of_ble_eq_true rfl) d_MD_isAhead_45 ⟨congrArg some (congrArg Value.int (by clear C hnm hM; simp_all [bI, bI_0, Int32.not_lt, Int32.not_le, mAh, bI_0, lg_eq] <;> (intro h; exact absurd h (Int32.not_lt.mpr ‹_›)))), rfl⟩
  · refine x_lload C d_MD_isAhead_22 rfl ?_
    refine x_lload_n C d_MD_isAhead_24 rfl rfl ?_
    refine x_lcmp C d_MD_isAhead_25 ?_
    refine x_if_ne C 44 d_MD_isAhead_26 (by decide) (fun c_26 => ?_) (fun c_26 => ?_)
    · refine x_iconst C (v := 0) d_MD_isAhead_44 (by decide) ?_
      exact x_zret C rfl (Nat.le_of_ble_eq_true rfl) (Nat.le_of_ble_eq_true rfl) d_MD_isAhead_45 ⟨congrArg some (congrArg Value.int (by clear C hnm hM; simp_all [bI, bI_0, Int32.not_lt, Int32.not_le, mAh, bI_0, lg_eq] <;> (intro h; exact absurd h (Int32.not_lt.mpr ‹_›)))), rfl⟩
    · refine x_aload_n C d_MD_isAhead_29 rfl rfl ?_
      refine x_iload_n C d_MD_isAhead_30 rfl rfl ?_
      refine x_iload_n C d_MD_isAhead_31 rfl rfl ?_
      refine x_callV2 C (q_MD_rank l E hM (k := k) (sl := sl) (by omega) (by omega)) (lk_MD_110 C.hts (Nat.le_of_ble_eq_true rfl) (Nat.le_of_ble_eq_true rfl)) hM.1 rfl rfl d_MD_isAhead_32 (Nat.le_of_ble_eq_true rfl) (Nat.le_of_ble_eq_true rfl) (Nat.le_of_ble_eq_true rfl) (fun r G' h => ?_)
      obtain ⟨rfl, rfl⟩ : r = some (.int (mRk μ k sl)) ∧ _ = G' := h
      refine x_iload C d_MD_isAhead_35 rfl ?_
      refine x_icmp_ge C 44 d_MD_isAhead_37 (by decide) (fun c_37 => ?_) (fun c_37 => ?_)
      · refine x_iconst C (v := 0) d_MD_isAhead_44 (by decide) ?_
        exact x_zret C rfl (Nat.le_of_ble_eq_true rfl) (Nat.le_of_ble_eq_true rfl) d_MD_isAhead_45 ⟨congrArg some (congrArg Value.int (by clear C hnm hM; simp_all [bI, bI_0, Int32.not_lt, Int32.not_le, mAh, bI_0, lg_eq] <;> (intro h; exact absurd h (Int32.not_lt.mpr ‹_›)))), rfl⟩
      · refine x_iconst C (v := 1) d_MD_isAhead_40 (by decide) ?_
        refine x_goto C 45 d_MD_isAhead_41 (by decide) ?_
        exact x_zret C rfl (Nat.le_of_ble_eq_true rfl) (Nat.le_of_ble_eq_true rfl) d_MD_isAhead_45 ⟨congrArg some (congrArg Value.int (by clear C hnm hM; simp_all [bI, bI_0, Int32.not_lt, Int32.not_le, mAh, bI_0, lg_eq] <;> (intro h; exact absurd h (Int32.not_lt.mpr ‹_›)))), rfl⟩
set_option maxRecDepth 4000 in
set_option maxHeartbeats 800000 in
theorem q_MD_isBehind (l : Launch) (E : xE) {G : xw_G} {md : Nat} {a : Nat → Nat} {μ : MS} (hM : xMD E G md a μ) {k : Nat} (hk : k < 6) {sl : Nat} (hr : sl < 300) {f : Int64} {rk : Int32} : XMk l E y_MD_isBehind w_MD_isBehind rm_MD_isBehind [.ref md, .int (nI k), .int (nI sl), .long (f), .int (rk)] G (fun r G' => r = some (.int (bI (mBe μ k sl f rk))) ∧ G = G') 0 0 := by
  refine XM_of [some (.ref md), some (.int (nI k)), some (.int (nI sl)), some (.long (f)), none, some (.int (rk)), none, none] (XZ_st E) (by decide) rfl rfl rfl (Nat.le_of_ble_eq_true rfl) (fun p e s m below meth c C hnm => ?_)
  refine x_aload_n C d_MD_isBehind_0 rfl rfl ?_
  refine x_iload_n C d_MD_isBehind_1 rfl rfl ?_
  refine x_aload_n C d_MD_isBehind_2 rfl rfl ?_
  refine x_get C hM.1 rfl (in_MD _) 9 (by decide) (List.mem_cons_of_mem _ f_MD_27) rfl d_MD_isBehind_3 ?_
  refine x_iload_n C d_MD_isBehind_6 rfl rfl ?_
  refine x_mJv C hM 9 300 kJ_9 rfl (j := sl) (by omega) (mJ μ 9 sl) rfl d_MD_isBehind_7 ?_
  refine x_callV2 C (q_MD_field l E hM (k := k) (by omega)) (lk_MD_98 C.hts (Nat.le_of_ble_eq_true rfl) (Nat.le_of_ble_eq_true rfl)) hM.1 rfl rfl d_MD_isBehind_8 (Nat.le_of_ble_eq_true rfl) (Nat.le_of_ble_eq_true rfl) (Nat.le_of_ble_eq_true rfl) (fun r G' h => ?_)
  obtain ⟨rfl, rfl⟩ : r = some (.long (mF μ k (mJ μ 9 sl))) ∧ _ = G' := h
  refine x_lstore C d_MD_isBehind_11 (Nat.le_of_ble_eq_true rfl) rfl ?_
  refine x_lload_n C d_MD_isBehind_13 rfl rfl ?_
  refine x_lload C d_MD_isBehind_14 rfl ?_
  refine x_callS2 C (q_MD_isLess l E) (lk_MD_106 C.hts (Nat.le_of_ble_eq_true rfl) (Nat.le_of_ble_eq_true rfl)) rfl d_MD_isBehind_16 (Nat.le_of_ble_eq_true rfl) (Nat.le_of_ble_eq_true rfl) (Nat.le_of_ble_eq_true rfl) (fun r G' h => ?_)
  obtain ⟨rfl, rfl⟩ : r = some (.int (bI (mLs (f) (mF μ k (mJ μ 9 sl))))) ∧ _ = G' := h
  refine x_if_ne C 40 d_MD_isBehind_19 (by decide) (fun c_19 => ?_) (fun c_19 => ?_)
  · refine x_iconst C (v := 1) d_MD_isBehind_40 (by decide) ?_
    refine x_goto C 45 d_MD_isBehind_41 (by decide) ?_
    exact x_zret C rfl (Nat.le_of_ble_eq_true rfl) (Nat.le_of_ble_eq_true rfl) d_MD_isBehind_45 ⟨congrArg some (congrArg Value.int (by clear C hnm hM; simp_all [bI, bI_0, Int32.not_lt, Int32.not_le, mBe, bI_0, lg_eq] <;> (intro h; exact absurd h (Int32.not_lt.mpr ‹_›)))), rfl⟩
  · refine x_lload C d_MD_isBehind_22 rfl ?_
    refine x_lload_n C d_MD_isBehind_24 rfl rfl ?_
    refine x_lcmp C d_MD_isBehind_25 ?_
    refine x_if_ne C 44 d_MD_isBehind_26 (by decide) (fun c_26 => ?_) (fun c_26 => ?_)
    · refine x_iconst C (v := 0) d_MD_isBehind_44 (by decide) ?_
      exact x_zret C rfl (Nat.le_of_ble_eq_true rfl) (Nat.le_of_ble_eq_true rfl) d_MD_isBehind_45 ⟨congrArg some (congrArg Value.int (by clear C hnm hM; simp_all [bI, bI_0, Int32.not_lt, Int32.not_le, mBe, bI_0, lg_eq] <;> (intro h; exact absurd h (Int32.not_lt.mpr ‹_›)))), rfl⟩
    · refine x_aload_n C d_MD_isBehind_29 rfl rfl ?_
      refine x_iload_n C d_MD_isBehind_30 rfl rfl ?_
      refine x_iload_n C d_MD_isBehind_31 rfl rfl ?_
      refine x_callV2 C (q_MD_rank l E hM (k := k) (sl := sl) (by omega) (by omega)) (lk_MD_110 C.hts (Nat.le_of_ble_eq_true rfl) (Nat.le_of_ble_eq_true rfl)) hM.1 rfl rfl d_MD_isBehind_32 (Nat.le_of_ble_eq_true rfl) (Nat.le_of_ble_eq_true rfl) (Nat.le_of_ble_eq_true rfl) (fun r G' h => ?_)
      obtain ⟨rfl, rfl⟩ : r = some (.int (mRk μ k sl)) ∧ _ = G' := h
      refine x_iload C d_MD_isBehind_35 rfl ?_
      refine x_icmp_le C 44 d_MD_isBehind_37 (by decide) (fun c_37 => ?_) (fun c_37 => ?_)
      · refine x_iconst C (v := 0) d_MD_isBehind_44 (by decide) ?_
        exact x_zret C rfl (Nat.le_of_ble_eq_true rfl) (Nat.le_of_ble_eq_true rfl) d_MD_isBehind_45 ⟨congrArg some (congrArg Value.int (by clear C hnm hM; simp_all [bI, bI_0, Int32.not_lt, Int32.not_le, mBe, bI_0, lg_eq] <;> (intro h; exact absurd h (Int32.not_lt.mpr ‹_›)))), rfl⟩
      · refine x_iconst C (v := 1) d_MD_isBehind_40 (by decide) ?_
        refine x_goto C 45 d_MD_isBehind_41 (by decide) ?_
        exact x_zret C rfl (Nat.le_of_ble_eq_true rfl) (Nat.le_of_ble_eq_true rfl) d_MD_isBehind_45 ⟨congrArg some (congrArg Value.int (by clear C hnm hM; simp_all [bI, bI_0, Int32.not_lt, Int32.not_le, mBe, bI_0, lg_eq] <;> (intro h; exact absurd h (Int32.not_lt.mpr ‹_›)))), rfl⟩
set_option maxRecDepth 4000 in
set_option maxHeartbeats 800000 in
theorem q_MD_reads (l : Launch) (E : xE) {G : xw_G} {md : Nat} {a : Nat → Nat} {μ : MS} (hM : xMD E G md a μ) {i : Nat} (hi : i < 5) : XMk l E y_MD_reads w_MD_reads rm_MD_reads [.ref md, .int (nI i)] G (fun r G' => r = some (.int (bI (mRd μ i))) ∧ G = G') 0 0 := by
  refine XM_of [some (.ref md), some (.int (nI i))] (XZ_st E) (by decide) rfl rfl rfl (Nat.le_of_ble_eq_true rfl) (fun p e s m below meth c C hnm => ?_)
  refine x_aload_n C d_MD_reads_0 rfl rfl ?_
  refine x_get C hM.1 rfl (in_MD _) 15 (by decide) (List.mem_cons_of_mem _ f_MD_36) rfl d_MD_reads_1 ?_
  refine x_iload_n C d_MD_reads_4 rfl rfl ?_
  refine x_mIv C hM 15 5 kI_15 rfl (j := i) (by omega) (mI μ 15 i) rfl d_MD_reads_5 ?_
  refine x_if_eq C 19 d_MD_reads_6 (by decide) (fun c_6 => ?_) (fun c_6 => ?_)
  · refine x_iconst C (v := 1) d_MD_reads_19 (by decide) ?_
    refine x_goto C 24 d_MD_reads_20 (by decide) ?_
    exact x_zret C rfl (Nat.le_of_ble_eq_true rfl) (Nat.le_of_ble_eq_true rfl) d_MD_reads_24 ⟨congrArg some (congrArg Value.int (by clear C hnm hM; simp_all [bI, bI_0, Int32.not_lt, Int32.not_le, mRd] <;> (intro h; exact absurd h (Int32.not_lt.mpr ‹_›)))), rfl⟩
  · refine x_aload_n C d_MD_reads_9 rfl rfl ?_
    refine x_get C hM.1 rfl (in_MD _) 15 (by decide) (List.mem_cons_of_mem _ f_MD_36) rfl d_MD_reads_10 ?_
    refine x_iload_n C d_MD_reads_13 rfl rfl ?_
    refine x_mIv C hM 15 5 kI_15 rfl (j := i) (by omega) (mI μ 15 i) rfl d_MD_reads_14 ?_
    refine x_iconst C (v := 2) d_MD_reads_15 (by decide) ?_
    refine x_icmp_ne C 23 d_MD_reads_16 (by decide) (fun c_16 => ?_) (fun c_16 => ?_)
    · refine x_iconst C (v := 0) d_MD_reads_23 (by decide) ?_
      exact x_zret C rfl (Nat.le_of_ble_eq_true rfl) (Nat.le_of_ble_eq_true rfl) d_MD_reads_24 ⟨congrArg some (congrArg Value.int (by clear C hnm hM; simp_all [bI, bI_0, Int32.not_lt, Int32.not_le, mRd] <;> (intro h; exact absurd h (Int32.not_lt.mpr ‹_›)))), rfl⟩
    · refine x_iconst C (v := 1) d_MD_reads_19 (by decide) ?_
      refine x_goto C 24 d_MD_reads_20 (by decide) ?_
      exact x_zret C rfl (Nat.le_of_ble_eq_true rfl) (Nat.le_of_ble_eq_true rfl) d_MD_reads_24 ⟨congrArg some (congrArg Value.int (by clear C hnm hM; simp_all [bI, bI_0, Int32.not_lt, Int32.not_le, mRd] <;> (intro h; exact absurd h (Int32.not_lt.mpr ‹_›)))), rfl⟩
set_option maxRecDepth 4000 in
set_option maxHeartbeats 800000 in
theorem q_MD_forget (l : Launch) (E : xE) {G : xw_G} {md : Nat} {a : Nat → Nat} {μ : MS} (hM : xMD E G md a μ) {i : Nat} (hi : i < 5) : XMk l E y_MD_forget w_MD_forget rm_MD_forget [.ref md, .int (nI i)] G (fun r G' => r = none ∧ xMD E G' md a (mFg μ i) ∧ xFc G G') 0 0 := by
  refine XM_of [some (.ref md), some (.int (nI i))] (XZ_st E) (by decide) rfl rfl rfl (Nat.le_of_ble_eq_true rfl) (fun p e s m below meth c C hnm => ?_)
  refine x_aload_n C d_MD_forget_0 rfl rfl ?_
  refine x_aload_n C d_MD_forget_1 rfl rfl ?_
  refine x_get C hM.1 rfl (in_MD _) 20 (by decide) (List.mem_cons_of_mem _ f_MD_51) rfl d_MD_forget_2 ?_
  refine x_iload_n C d_MD_forget_5 rfl rfl ?_
  refine x_mIv C hM 20 5 kI_20 rfl (j := i) (by omega) (mI μ 20 i) rfl d_MD_forget_6 ?_
  refine x_mSp C hM 27 (by decide) (x := mI μ 20 i) f_MD_136 rfl rfl rfl d_MD_forget_7 (fun _ hMg1 hFg1 => ?_)
  refine x_aload_n C d_MD_forget_10 rfl rfl ?_
  refine x_aload_n C d_MD_forget_11 rfl rfl ?_
  refine x_get C hMg1.1 rfl (in_MD _) 22 (by decide) (List.mem_cons_of_mem _ f_MD_57) rfl d_MD_forget_12 ?_
  refine x_iload_n C d_MD_forget_15 rfl rfl ?_
  refine x_mJv C hMg1 22 5 kJ_22 rfl (j := i) (by omega) (mJ μ 22 i) rfl d_MD_forget_16 ?_
  refine x_mHp C hMg1 (x := mJ μ 22 i) f_MD_139 d_MD_forget_17 (fun _ hMg2 hFg2 => ?_)
  refine x_aload_n C d_MD_forget_20 rfl rfl ?_
  refine x_get C hMg2.1 rfl (in_MD _) 20 (by decide) (List.mem_cons_of_mem _ f_MD_51) rfl d_MD_forget_21 ?_
  refine x_iload_n C d_MD_forget_24 rfl rfl ?_
  refine x_iconst C (v := 0) d_MD_forget_25 (by decide) ?_
  refine x_mIs C hMg2 20 5 kI_20 (j := i) (x := 0) rfl (by omega) d_MD_forget_26 (fun _ hMg3 hFg3 => ?_)
  refine x_aload_n C d_MD_forget_27 rfl rfl ?_
  refine x_get C hMg3.1 rfl (in_MD _) 22 (by decide) (List.mem_cons_of_mem _ f_MD_57) rfl d_MD_forget_28 ?_
  refine x_iload_n C d_MD_forget_31 rfl rfl ?_
  refine x_lconst C (v := 0) d_MD_forget_32 (by decide) ?_
  refine x_mJs C hMg3 22 5 kJ_22 (j := i) (x := 0) rfl (by omega) d_MD_forget_33 (fun _ hMg4 hFg4 => ?_)
  exact x_vret C (Nat.le_of_ble_eq_true rfl) (Nat.le_of_ble_eq_true rfl) d_MD_forget_34 ⟨rfl, hMg4, ((hFg1.tr hFg2).tr hFg3).tr hFg4⟩
