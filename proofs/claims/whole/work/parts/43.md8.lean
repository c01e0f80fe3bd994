set_option maxRecDepth 4000 in
set_option maxHeartbeats 800000 in
theorem q_MD_start_nv (l : Launch) (E : xE) {G : xw_G} {md : Nat} {a : Nat → Nat} {μ : MS} (hM : xMD E G md a μ) {j j2 op b : Int32} {kk : Int64} (hb : mVw μ j = false ∨ mKy μ j2 = false) : XMk l E y_MD_start w_MD_start rm_MD_start [.ref md, .int (j), .int (j2), .int (op), .long (kk), .int (b)] G (fun r G' => r = some (.int (-1)) ∧ xMD E G' md a (sS μ 0 0) ∧ xFc G G') 0 0 := by
  refine XM_of [some (.ref md), some (.int (j)), some (.int (j2)), some (.int (op)), some (.long (kk)), none, some (.int (b)), none, none, none, none, none] (XZ_st E) (by decide) rfl rfl rfl (Nat.le_of_ble_eq_true rfl) (fun p e s m below meth c C hnm => ?_)
  refine x_aload_n C d_MD_start_0 rfl rfl ?_
  refine x_iconst C (v := 0) d_MD_start_1 (by decide) ?_
  refine x_mSp C hM 0 (by decide) (x := 0) f_MD_72 rfl rfl rfl d_MD_start_2 (fun _ hMg1 hFg1 => ?_)
  refine x_aload_n C d_MD_start_5 rfl rfl ?_
  refine x_iload_n C d_MD_start_6 rfl rfl ?_
  refine x_callV1 C (q_MD_isView l E hMg1) (lk_MD_92 C.hts (Nat.le_of_ble_eq_true rfl) (Nat.le_of_ble_eq_true rfl)) hMg1.1 rfl rfl d_MD_start_7 (Nat.le_of_ble_eq_true rfl) (Nat.le_of_ble_eq_true rfl) (Nat.le_of_ble_eq_true rfl) (fun r G' h => ?_)
  obtain ⟨rfl, rfl⟩ : r = some (.int (bI (mVw μ (j)))) ∧ _ = G' := h
  refine x_if_eq C 47 d_MD_start_10 (by decide) (fun c_10 => ?_) (fun c_10 => ?_)
  · refine x_iconst C (v := -1) d_MD_start_47 (by decide) ?_
    exact x_iret C (Nat.le_of_ble_eq_true rfl) (Nat.le_of_ble_eq_true rfl) d_MD_start_48 ⟨rfl, hMg1, hFg1⟩
  · refine x_aload_n C d_MD_start_13 rfl rfl ?_
    refine x_iload_n C d_MD_start_14 rfl rfl ?_
    refine x_callV1 C (q_MD_isKey l E hMg1) (lk_MD_88 C.hts (Nat.le_of_ble_eq_true rfl) (Nat.le_of_ble_eq_true rfl)) hMg1.1 rfl rfl d_MD_start_15 (Nat.le_of_ble_eq_true rfl) (Nat.le_of_ble_eq_true rfl) (Nat.le_of_ble_eq_true rfl) (fun r G' h => ?_)
    obtain ⟨rfl, rfl⟩ : r = some (.int (bI (mKy μ (j2)))) ∧ _ = G' := h
    refine x_if_eq C 47 d_MD_start_18 (by decide) (fun c_18 => ?_) (fun c_18 => ?_)
    · refine x_iconst C (v := -1) d_MD_start_47 (by decide) ?_
      exact x_iret C (Nat.le_of_ble_eq_true rfl) (Nat.le_of_ble_eq_true rfl) d_MD_start_48 ⟨rfl, hMg1, hFg1⟩
    · exact absurd hb (fun z => z.elim (fun z => absurd (z.symm.trans (bI_1 c_10)) (by decide)) (fun z => absurd (z.symm.trans (bI_1 c_18)) (by decide)))
set_option maxRecDepth 4000 in
set_option maxHeartbeats 800000 in
theorem q_MD_start_bad (l : Launch) (E : xE) {G : xw_G} {md : Nat} {a : Nat → Nat} {μ : MS} (hM : xMD E G md a μ) {i : Nat} (hi : i < 5) (hv : mVw μ (nI i) = true) {k : Nat} (hk : k < 6) (hkv : mKy μ (nI k) = true) {op b : Int32} {kk : Int64} (hb : op < 0 ∨ 4 < op ∨ b < 1 ∨ mI μ 2 k < b) : XMk l E y_MD_start w_MD_start rm_MD_start [.ref md, .int (nI i), .int (nI k), .int (op), .long (kk), .int (b)] G (fun r G' => r = some (.int (-1)) ∧ xMD E G' md a (sS μ 0 0) ∧ xFc G G') 0 0 := by
  refine XM_of [some (.ref md), some (.int (nI i)), some (.int (nI k)), some (.int (op)), some (.long (kk)), none, some (.int (b)), none, none, none, none, none] (XZ_st E) (by decide) rfl rfl rfl (Nat.le_of_ble_eq_true rfl) (fun p e s m below meth c C hnm => ?_)
  refine x_aload_n C d_MD_start_0 rfl rfl ?_
  refine x_iconst C (v := 0) d_MD_start_1 (by decide) ?_
  refine x_mSp C hM 0 (by decide) (x := 0) f_MD_72 rfl rfl rfl d_MD_start_2 (fun _ hMg1 hFg1 => ?_)
  refine x_aload_n C d_MD_start_5 rfl rfl ?_
  refine x_iload_n C d_MD_start_6 rfl rfl ?_
  refine x_callV1 C (q_MD_isView l E hMg1) (lk_MD_92 C.hts (Nat.le_of_ble_eq_true rfl) (Nat.le_of_ble_eq_true rfl)) hMg1.1 rfl rfl d_MD_start_7 (Nat.le_of_ble_eq_true rfl) (Nat.le_of_ble_eq_true rfl) (Nat.le_of_ble_eq_true rfl) (fun r G' h => ?_)
  obtain ⟨rfl, rfl⟩ : r = some (.int (bI (mVw μ (nI i)))) ∧ _ = G' := h
  refine x_if_eq C 47 d_MD_start_10 (by decide) (fun c_10 => ?_) (fun c_10 => ?_)
  · exact absurd (hv.symm.trans ((bI_0 _).mp c_10)) (by decide)
  · refine x_aload_n C d_MD_start_13 rfl rfl ?_
    refine x_iload_n C d_MD_start_14 rfl rfl ?_
    refine x_callV1 C (q_MD_isKey l E hMg1) (lk_MD_88 C.hts (Nat.le_of_ble_eq_true rfl) (Nat.le_of_ble_eq_true rfl)) hMg1.1 rfl rfl d_MD_start_15 (Nat.le_of_ble_eq_true rfl) (Nat.le_of_ble_eq_true rfl) (Nat.le_of_ble_eq_true rfl) (fun r G' h => ?_)
    obtain ⟨rfl, rfl⟩ : r = some (.int (bI (mKy μ (nI k)))) ∧ _ = G' := h
    refine x_if_eq C 47 d_MD_start_18 (by decide) (fun c_18 => ?_) (fun c_18 => ?_)
    · exact absurd (hkv.symm.trans ((bI_0 _).mp c_18)) (by decide)
    · refine x_iload_n C d_MD_start_21 rfl rfl ?_
      refine x_if_lt C 47 d_MD_start_22 (by decide) (fun c_22 => ?_) (fun c_22 => ?_)
      · refine x_iconst C (v := -1) d_MD_start_47 (by decide) ?_
        exact x_iret C (Nat.le_of_ble_eq_true rfl) (Nat.le_of_ble_eq_true rfl) d_MD_start_48 ⟨rfl, hMg1, hFg1⟩
      · refine x_iload_n C d_MD_start_25 rfl rfl ?_
        refine x_iconst C (v := 4) d_MD_start_26 (by decide) ?_
        refine x_icmp_gt C 47 d_MD_start_27 (by decide) (fun c_27 => ?_) (fun c_27 => ?_)
        · refine x_iconst C (v := -1) d_MD_start_47 (by decide) ?_
          exact x_iret C (Nat.le_of_ble_eq_true rfl) (Nat.le_of_ble_eq_true rfl) d_MD_start_48 ⟨rfl, hMg1, hFg1⟩
        · refine x_iload C d_MD_start_30 rfl ?_
          refine x_iconst C (v := 1) d_MD_start_32 (by decide) ?_
          refine x_icmp_lt C 47 d_MD_start_33 (by decide) (fun c_33 => ?_) (fun c_33 => ?_)
          · refine x_iconst C (v := -1) d_MD_start_47 (by decide) ?_
            exact x_iret C (Nat.le_of_ble_eq_true rfl) (Nat.le_of_ble_eq_true rfl) d_MD_start_48 ⟨rfl, hMg1, hFg1⟩
          · refine x_iload C d_MD_start_36 rfl ?_
            refine x_aload_n C d_MD_start_38 rfl rfl ?_
            refine x_get C hMg1.1 rfl (in_MD _) 2 (by decide) (List.mem_cons_of_mem _ f_MD_13) rfl d_MD_start_39 ?_
            refine x_iload_n C d_MD_start_42 rfl rfl ?_
            refine x_mIv C hMg1 2 6 kI_2 rfl (j := k) (by omega) (mI μ 2 k) rfl d_MD_start_43 ?_
            refine x_icmp_le C 49 d_MD_start_44 (by decide) (fun c_44 => ?_) (fun c_44 => ?_)
            · exact hb.elim (fun z => absurd z c_22) (fun z => z.elim (fun z => absurd z c_27) (fun z => z.elim (fun z => absurd z c_33) (fun z => absurd z (Int32.not_lt.mpr c_44))))
            · refine x_iconst C (v := -1) d_MD_start_47 (by decide) ?_
              exact x_iret C (Nat.le_of_ble_eq_true rfl) (Nat.le_of_ble_eq_true rfl) d_MD_start_48 ⟨rfl, hMg1, hFg1⟩
set_option maxRecDepth 4000 in
set_option maxHeartbeats 800000 in
theorem q_MD_start_ref (l : Launch) (E : xE) {G : xw_G} {md : Nat} {a : Nat → Nat} {μ : MS} (hM : xMD E G md a μ) {i : Nat} (hi : i < 5) (hv : mVw μ (nI i) = true) {k : Nat} (hk : k < 6) (hkv : mKy μ (nI k) = true) {op b : Int32} {kk : Int64} (hb : ¬ (op < 0 ∨ 4 < op ∨ b < 1 ∨ mI μ 2 k < b)) (hr : ¬ refRead (mZ μ 24 i) (mI μ 15 i) (mI μ 16 i) 1 = 0) : XMk l E y_MD_start w_MD_start rm_MD_start [.ref md, .int (nI i), .int (nI k), .int (op), .long (kk), .int (b)] G (fun r G' => r = some (.int (refRead (mZ μ 24 i) (mI μ 15 i) (mI μ 16 i) 1)) ∧ xMD E G' md a (sS μ 0 0) ∧ xFc G G') 0 0 := by
  refine XM_of [some (.ref md), some (.int (nI i)), some (.int (nI k)), some (.int (op)), some (.long (kk)), none, some (.int (b)), none, none, none, none, none] (XZ_st E) (by decide) rfl rfl rfl (Nat.le_of_ble_eq_true rfl) (fun p e s m below meth c C hnm => ?_)
  refine x_aload_n C d_MD_start_0 rfl rfl ?_
  refine x_iconst C (v := 0) d_MD_start_1 (by decide) ?_
  refine x_mSp C hM 0 (by decide) (x := 0) f_MD_72 rfl rfl rfl d_MD_start_2 (fun _ hMg1 hFg1 => ?_)
  refine x_aload_n C d_MD_start_5 rfl rfl ?_
  refine x_iload_n C d_MD_start_6 rfl rfl ?_
  refine x_callV1 C (q_MD_isView l E hMg1) (lk_MD_92 C.hts (Nat.le_of_ble_eq_true rfl) (Nat.le_of_ble_eq_true rfl)) hMg1.1 rfl rfl d_MD_start_7 (Nat.le_of_ble_eq_true rfl) (Nat.le_of_ble_eq_true rfl) (Nat.le_of_ble_eq_true rfl) (fun r G' h => ?_)
  obtain ⟨rfl, rfl⟩ : r = some (.int (bI (mVw μ (nI i)))) ∧ _ = G' := h
  refine x_if_eq C 47 d_MD_start_10 (by decide) (fun c_10 => ?_) (fun c_10 => ?_)
  · exact absurd (hv.symm.trans ((bI_0 _).mp c_10)) (by decide)
  · refine x_aload_n C d_MD_start_13 rfl rfl ?_
    refine x_iload_n C d_MD_start_14 rfl rfl ?_
    refine x_callV1 C (q_MD_isKey l E hMg1) (lk_MD_88 C.hts (Nat.le_of_ble_eq_true rfl) (Nat.le_of_ble_eq_true rfl)) hMg1.1 rfl rfl d_MD_start_15 (Nat.le_of_ble_eq_true rfl) (Nat.le_of_ble_eq_true rfl) (Nat.le_of_ble_eq_true rfl) (fun r G' h => ?_)
    obtain ⟨rfl, rfl⟩ : r = some (.int (bI (mKy μ (nI k)))) ∧ _ = G' := h
    refine x_if_eq C 47 d_MD_start_18 (by decide) (fun c_18 => ?_) (fun c_18 => ?_)
    · exact absurd (hkv.symm.trans ((bI_0 _).mp c_18)) (by decide)
    · refine x_iload_n C d_MD_start_21 rfl rfl ?_
      refine x_if_lt C 47 d_MD_start_22 (by decide) (fun c_22 => ?_) (fun c_22 => ?_)
      · exfalso
        clear C hnm hM
        simp_all
      · refine x_iload_n C d_MD_start_25 rfl rfl ?_
        refine x_iconst C (v := 4) d_MD_start_26 (by decide) ?_
        refine x_icmp_gt C 47 d_MD_start_27 (by decide) (fun c_27 => ?_) (fun c_27 => ?_)
        · exfalso
          clear C hnm hM
          simp_all
        · refine x_iload C d_MD_start_30 rfl ?_
          refine x_iconst C (v := 1) d_MD_start_32 (by decide) ?_
          refine x_icmp_lt C 47 d_MD_start_33 (by decide) (fun c_33 => ?_) (fun c_33 => ?_)
          · exfalso
            clear C hnm hM
            simp_all
          · refine x_iload C d_MD_start_36 rfl ?_
            refine x_aload_n C d_MD_start_38 rfl rfl ?_
            refine x_get C hMg1.1 rfl (in_MD _) 2 (by decide) (List.mem_cons_of_mem _ f_MD_13) rfl d_MD_start_39 ?_
            refine x_iload_n C d_MD_start_42 rfl rfl ?_
            refine x_mIv C hMg1 2 6 kI_2 rfl (j := k) (by omega) (mI μ 2 k) rfl d_MD_start_43 ?_
            refine x_icmp_le C 49 d_MD_start_44 (by decide) (fun c_44 => ?_) (fun c_44 => ?_)
            · refine x_aload_n C d_MD_start_49 rfl rfl ?_
              refine x_get C hMg1.1 rfl (in_MD _) 24 (by decide) (List.mem_cons_of_mem _ f_MD_63) rfl d_MD_start_50 ?_
              refine x_iload_n C d_MD_start_53 rfl rfl ?_
              refine x_mZv C hMg1 24 5 kZ_24 rfl (j := i) (by omega) (mZ μ 24 i) rfl d_MD_start_54 ?_
              refine x_if_ne C 61 d_MD_start_55 (by decide) (fun c_55 => ?_) (fun c_55 => ?_)
              · refine x_aload_n C d_MD_start_61 rfl rfl ?_
                refine x_iload_n C d_MD_start_62 rfl rfl ?_
                refine x_callV1 C (q_MD_reads l E hMg1 (i := i) (by omega)) (lk_MD_165 C.hts (Nat.le_of_ble_eq_true rfl) (Nat.le_of_ble_eq_true rfl)) hMg1.1 rfl rfl d_MD_start_63 (Nat.le_of_ble_eq_true rfl) (Nat.le_of_ble_eq_true rfl) (Nat.le_of_ble_eq_true rfl) (fun r G' h => ?_)
                obtain ⟨rfl, rfl⟩ : r = some (.int (bI (mRd μ i))) ∧ _ = G' := h
                refine x_if_eq C 79 d_MD_start_66 (by decide) (fun c_66 => ?_) (fun c_66 => ?_)
                · refine x_bipush C (v := 47) d_MD_start_79 (by decide) ?_
                  exact x_iret C (Nat.le_of_ble_eq_true rfl) (Nat.le_of_ble_eq_true rfl) d_MD_start_81 ⟨congrArg some (congrArg Value.int (by clear C hnm hM; simp_all [refRead, mRd, bI_0])), hMg1, hFg1⟩
                · refine x_aload_n C d_MD_start_69 rfl rfl ?_
                  refine x_get C hMg1.1 rfl (in_MD _) 16 (by decide) (List.mem_cons_of_mem _ f_MD_39) rfl d_MD_start_70 ?_
                  refine x_iload_n C d_MD_start_73 rfl rfl ?_
                  refine x_mIv C hMg1 16 5 kI_16 rfl (j := i) (by omega) (mI μ 16 i) rfl d_MD_start_74 ?_
                  refine x_iconst C (v := 1) d_MD_start_75 (by decide) ?_
                  refine x_icmp_ne C 82 d_MD_start_76 (by decide) (fun c_76 => ?_) (fun c_76 => ?_)
                  · exfalso
                    clear C hnm hM
                    simp_all [refRead, mRd, bI_0]
                  · refine x_bipush C (v := 47) d_MD_start_79 (by decide) ?_
                    exact x_iret C (Nat.le_of_ble_eq_true rfl) (Nat.le_of_ble_eq_true rfl) d_MD_start_81 ⟨congrArg some (congrArg Value.int (by clear C hnm hM; simp_all [refRead, mRd, bI_0])), hMg1, hFg1⟩
              · refine x_bipush C (v := 42) d_MD_start_58 (by decide) ?_
                exact x_iret C (Nat.le_of_ble_eq_true rfl) (Nat.le_of_ble_eq_true rfl) d_MD_start_60 ⟨congrArg some (congrArg Value.int (by clear C hnm hM; simp_all [refRead, mRd, bI_0])), hMg1, hFg1⟩
            · exfalso
              clear C hnm hM
              simp_all
set_option maxRecDepth 4000 in
set_option maxHeartbeats 800000 in
theorem q_MD_start_23 (l : Launch) (E : xE) {G : xw_G} {md : Nat} {a : Nat → Nat} {μ : MS} (hM : xMD E G md a μ) {i : Nat} (hi : i < 5) (hv : mVw μ (nI i) = true) {k : Nat} (hk : k < 6) (hkv : mKy μ (nI k) = true) {op b : Int32} {kk : Int64} (hb : ¬ (op < 0 ∨ 4 < op ∨ b < 1 ∨ mI μ 2 k < b)) (hr : refRead (mZ μ 24 i) (mI μ 15 i) (mI μ 16 i) 1 = 0) (ho : mSt μ k op kk b = none) : XMk l E y_MD_start w_MD_start rm_MD_start [.ref md, .int (nI i), .int (nI k), .int (op), .long (kk), .int (b)] G (fun r G' => r = some (.int (23)) ∧ xMD E G' md a (sI (sZ (sI (mFg (sS μ 0 0) i) 17 i (nI k)) 25 i false) 18 i 3) ∧ xFc G G') 0 0 := by
  refine XM_of [some (.ref md), some (.int (nI i)), some (.int (nI k)), some (.int (op)), some (.long (kk)), none, some (.int (b)), none, none, none, none, none] (XZ_st E) (by decide) rfl rfl rfl (Nat.le_of_ble_eq_true rfl) (fun p e s m below meth c C hnm => ?_)
  have h04 := op_04 (fun z => hb (Or.inl z)) (fun z => hb (Or.inr (Or.inl z)))
  have loop : ∀ (G1 : xw_G) (hM1 : xMD E G1 md a (mFg (sS μ 0 0) i)) (hF1 : xFc G G1) (n t : Nat) (fo : Option Nat) (v9 v10 v11 : Option Value), t + n = 300 → (∀ q, fo = some q → q < 300) → mFold (mStc μ k op kk b) (mBet μ k op) n t fo = mSt μ k op kk b → XW p l e rm_MD_start s m #[.ref md, .int (nI i), .int (nI k), .int (op), .long (kk), .int (b)] below meth c (XQ below #[.ref md, .int (nI i), .int (nI k), .int (op), .long (kk), .int (b)] s (xD E) xcl (xB E) (fun r G' => r = some (.int (23)) ∧ xMD E G' md a (sI (sZ (sI (mFg (sS μ 0 0) i) 17 i (nI k)) 25 i false) 18 i 3) ∧ xFc G G') 0 0) (xD E) xcl (xB E) 93 [some (.ref md), some (.int (nI i)), some (.int (nI k)), some (.int (op)), some (.long (kk)), none, some (.int (b)), some (.int (oI fo)), some (.int (nI t)), v9, v10, v11] [] G1 0 0 := by
    intro G1 hM1 hF1 n
    induction n with
    | zero =>
      intro t fo v9 v10 v11 ht hb2 hi2
      refine x_iload C d_MD_start_93 rfl ?_
      refine x_sipush C (v := 300) d_MD_start_95 (by decide) ?_
      refine x_icmp_ge C 234 d_MD_start_98 (by decide) (fun c_98 => ?_) (fun c_98 => ?_)
      · have hi2 : fo = mSt μ k op kk b := hi2
        rw [hi2, ho]
        refine x_aload_n C d_MD_start_234 rfl rfl ?_
        refine x_get C hM1.1 rfl (in_MD _) 17 (by decide) (List.mem_cons_of_mem _ f_MD_42) rfl d_MD_start_235 ?_
        refine x_iload_n C d_MD_start_238 rfl rfl ?_
        refine x_iload_n C d_MD_start_239 rfl rfl ?_
        refine x_mIs C hM1 17 5 kI_17 (j := i) (x := nI k) rfl (by omega) d_MD_start_240 (fun _ hMg1 hFg1 => ?_)
        refine x_aload_n C d_MD_start_241 rfl rfl ?_
        refine x_get C hMg1.1 rfl (in_MD _) 25 (by decide) (List.mem_cons_of_mem _ f_MD_66) rfl d_MD_start_242 ?_
        refine x_iload_n C d_MD_start_245 rfl rfl ?_
        refine x_iconst C (v := 0) d_MD_start_246 (by decide) ?_
        refine x_mZs C hMg1 25 5 kZ_25 (j := i) false rfl (by omega) d_MD_start_247 (fun _ hMg2 hFg2 => ?_)
        refine x_aload_n C d_MD_start_248 rfl rfl ?_
        refine x_get C hMg2.1 rfl (in_MD _) 18 (by decide) (List.mem_cons_of_mem _ f_MD_45) rfl d_MD_start_249 ?_
        refine x_iload_n C d_MD_start_252 rfl rfl ?_
        refine x_iload C d_MD_start_253 rfl ?_
        refine x_iconst C (v := -1) d_MD_start_255 (by decide) ?_
        refine x_icmp_ne C 263 d_MD_start_256 (by decide) (fun c_256 => ?_) (fun c_256 => ?_)
        · exact absurd c_256 (by decide)
        · refine x_iconst C (v := 3) d_MD_start_259 (by decide) ?_
          refine x_goto C 264 d_MD_start_260 (by decide) ?_
          refine x_mIs C hMg2 18 5 kI_18 (j := i) (x := 3) rfl (by omega) d_MD_start_264 (fun _ hMg3 hFg3 => ?_)
          refine x_iload C d_MD_start_265 rfl ?_
          refine x_iconst C (v := -1) d_MD_start_267 (by decide) ?_
          refine x_icmp_ne C 274 d_MD_start_268 (by decide) (fun c_268 => ?_) (fun c_268 => ?_)
          · exact absurd c_268 (by decide)
          · refine x_bipush C (v := 23) d_MD_start_271 (by decide) ?_
            exact x_iret C (Nat.le_of_ble_eq_true rfl) (Nat.le_of_ble_eq_true rfl) d_MD_start_273 ⟨rfl, hMg3, ((hF1.tr hFg1).tr hFg2).tr hFg3⟩
      · exact absurd (nI_le (a := 300) (b := t) (by omega) (by omega)) c_98
    | succ n ih =>
      intro t fo v9 v10 v11 ht hb2 hi2
      refine x_iload C d_MD_start_93 rfl ?_
      refine x_sipush C (v := 300) d_MD_start_95 (by decide) ?_
      refine x_icmp_ge C 234 d_MD_start_98 (by decide) (fun c_98 => ?_) (fun c_98 => ?_)
      · exact absurd c_98 (nI_ge (a := t) (b := 300) (by omega) (by omega))
      · refine x_aload_n C d_MD_start_101 rfl rfl ?_
        refine x_iload_n C d_MD_start_102 rfl rfl ?_
        refine x_iload C d_MD_start_103 rfl ?_
        refine x_callV2 C (q_MD_isEntry l E hM1 (k := k) (sl := t) (by omega) (by omega)) (lk_MD_114 C.hts (Nat.le_of_ble_eq_true rfl) (Nat.le_of_ble_eq_true rfl)) hM1.1 rfl rfl d_MD_start_105 (Nat.le_of_ble_eq_true rfl) (Nat.le_of_ble_eq_true rfl) (Nat.le_of_ble_eq_true rfl) (fun r G' h => ?_)
        obtain ⟨rfl, rfl⟩ : r = some (.int (bI (mEn μ k t))) ∧ _ = G' := h
        refine x_if_eq C 228 d_MD_start_108 (by decide) (fun c_108 => ?_) (fun c_108 => ?_)
        · refine x_iinc C d_MD_start_228 rfl rfl rfl ?_
          refine x_goto C 93 d_MD_start_231 (by decide) ?_
          rw [show nI t + Int32.ofInt 1 = nI (t + 1) from nI_1 t]
          have hcnd : True := trivial
          exact ih (t + 1) fo _ _ _ (by omega) hb2 (mFold_st hi2 (mStep_no (show mStc μ k op kk b t = false from by unfold mStc; rw [(bI_0 _).mp c_108]; rfl)))
        · refine x_iload_n C d_MD_start_111 rfl rfl ?_
          refine x_aload_n C d_MD_start_112 rfl rfl ?_
          refine x_iload_n C d_MD_start_113 rfl rfl ?_
          refine x_aload_n C d_MD_start_114 rfl rfl ?_
          refine x_get C hM1.1 rfl (in_MD _) 9 (by decide) (List.mem_cons_of_mem _ f_MD_27) rfl d_MD_start_115 ?_
          refine x_iload C d_MD_start_118 rfl ?_
          refine x_mJv C hM1 9 300 kJ_9 rfl (j := t) (by omega) (mJ μ 9 t) rfl d_MD_start_120 ?_
          refine x_callV2 C (q_MD_field l E hM1 (k := k) (by omega)) (lk_MD_98 C.hts (Nat.le_of_ble_eq_true rfl) (Nat.le_of_ble_eq_true rfl)) hM1.1 rfl rfl d_MD_start_121 (Nat.le_of_ble_eq_true rfl) (Nat.le_of_ble_eq_true rfl) (Nat.le_of_ble_eq_true rfl) (fun r G' h => ?_)
          obtain ⟨rfl, rfl⟩ : r = some (.long (mF μ k (mJ μ 9 t))) ∧ _ = G' := h
          refine x_bipush C (v := 8) d_MD_start_124 (by decide) ?_
          refine x_aload_n C d_MD_start_126 rfl rfl ?_
          refine x_get C hM1.1 rfl (in_MD _) 2 (by decide) (List.mem_cons_of_mem _ f_MD_13) rfl d_MD_start_127 ?_
          refine x_iload_n C d_MD_start_130 rfl rfl ?_
          refine x_mIv C hM1 2 6 kI_2 rfl (j := k) (by omega) (mI μ 2 k) rfl d_MD_start_131 ?_
          refine x_iload C d_MD_start_132 rfl ?_
          refine x_isub C d_MD_start_134 ?_
          refine x_imul C d_MD_start_135 ?_
          refine x_lushr C d_MD_start_136 ?_
          refine x_lload C d_MD_start_137 rfl ?_
          refine x_callS3 C (q_MD_holds l E h04) (lk_MD_172 C.hts (Nat.le_of_ble_eq_true rfl) (Nat.le_of_ble_eq_true rfl)) rfl d_MD_start_139 (Nat.le_of_ble_eq_true rfl) (Nat.le_of_ble_eq_true rfl) (Nat.le_of_ble_eq_true rfl) (fun r G' h => ?_)
          obtain ⟨rfl, rfl⟩ : r = some (.int (bI (mHo (op) ((Int64.toUInt64 (mF μ k (mJ μ 9 t)) >>> ((Int32.toInt64 ((8) * ((mI μ 2 k) - (b)))).toUInt64 &&& Int64.toUInt64 63)).toInt64) (kk)))) ∧ _ = G' := h
          refine x_if_ne C 148 d_MD_start_142 (by decide) (fun c_142 => ?_) (fun c_142 => ?_)
          · rcases fo with _ | u
            · have c_151 : True := trivial
              refine x_iload C d_MD_start_148 rfl ?_
              refine x_iconst C (v := -1) d_MD_start_150 (by decide) ?_
              refine x_icmp_ne C 158 d_MD_start_151 (by decide) (fun c_151 => ?_) (fun c_151 => ?_)
              · exact absurd c_151 (by decide)
              · refine x_iload C d_MD_start_154 rfl ?_
                refine x_istore C d_MD_start_156 (Nat.le_of_ble_eq_true rfl) rfl ?_
                refine x_aload_n C d_MD_start_158 rfl rfl ?_
                refine x_iload_n C d_MD_start_159 rfl rfl ?_
                refine x_aload_n C d_MD_start_160 rfl rfl ?_
                refine x_get C hM1.1 rfl (in_MD _) 9 (by decide) (List.mem_cons_of_mem _ f_MD_27) rfl d_MD_start_161 ?_
                refine x_iload C d_MD_start_164 rfl ?_
                refine x_mJv C hM1 9 300 kJ_9 rfl (j := t) (by omega) (mJ μ 9 t) rfl d_MD_start_166 ?_
                refine x_callV2 C (q_MD_field l E hM1 (k := k) (by omega)) (lk_MD_98 C.hts (Nat.le_of_ble_eq_true rfl) (Nat.le_of_ble_eq_true rfl)) hM1.1 rfl rfl d_MD_start_167 (Nat.le_of_ble_eq_true rfl) (Nat.le_of_ble_eq_true rfl) (Nat.le_of_ble_eq_true rfl) (fun r G' h => ?_)
                obtain ⟨rfl, rfl⟩ : r = some (.long (mF μ k (mJ μ 9 t))) ∧ _ = G' := h
                refine x_lstore C d_MD_start_170 (Nat.le_of_ble_eq_true rfl) rfl ?_
                refine x_iload_n C d_MD_start_172 rfl rfl ?_
                refine x_iconst C (v := 2) d_MD_start_173 (by decide) ?_
                refine x_icmp_le C 196 d_MD_start_174 (by decide) (fun c_174 => ?_) (fun c_174 => ?_)
                · refine x_aload_n C d_MD_start_196 rfl rfl ?_
                  refine x_iload_n C d_MD_start_197 rfl rfl ?_
                  refine x_iload C d_MD_start_198 rfl ?_
                  refine x_lload C d_MD_start_200 rfl ?_
                  refine x_aload_n C d_MD_start_202 rfl rfl ?_
                  refine x_iload_n C d_MD_start_203 rfl rfl ?_
                  refine x_iload C d_MD_start_204 rfl ?_
                  refine x_callV2 C (q_MD_rank l E hM1 (k := k) (sl := t) (by omega) (by omega)) (lk_MD_110 C.hts (Nat.le_of_ble_eq_true rfl) (Nat.le_of_ble_eq_true rfl)) hM1.1 rfl rfl d_MD_start_206 (Nat.le_of_ble_eq_true rfl) (Nat.le_of_ble_eq_true rfl) (Nat.le_of_ble_eq_true rfl) (fun r G' h => ?_)
                  obtain ⟨rfl, rfl⟩ : r = some (.int (mRk μ k t)) ∧ _ = G' := h
                  refine x_callV4 C (q_MD_isAhead l E hM1 (k := k) (sl := t) (by omega) (by omega)) (lk_MD_118 C.hts (Nat.le_of_ble_eq_true rfl) (Nat.le_of_ble_eq_true rfl)) hM1.1 rfl rfl d_MD_start_209 (Nat.le_of_ble_eq_true rfl) (Nat.le_of_ble_eq_true rfl) (Nat.le_of_ble_eq_true rfl) (fun r G' h => ?_)
                  obtain ⟨rfl, rfl⟩ : r = some (.int (bI (mAh μ k t (mF μ k (mJ μ 9 t)) (mRk μ k t)))) ∧ _ = G' := h
                  refine x_istore C d_MD_start_212 (Nat.le_of_ble_eq_true rfl) rfl ?_
                  refine x_iload C d_MD_start_214 rfl ?_
                  refine x_if_eq C 224 d_MD_start_216 (by decide) (fun c_216 => ?_) (fun c_216 => ?_)
                  · refine x_iload C d_MD_start_224 rfl ?_
                    refine x_istore C d_MD_start_226 (Nat.le_of_ble_eq_true rfl) rfl ?_
                    refine x_iinc C d_MD_start_228 rfl rfl rfl ?_
                    refine x_goto C 93 d_MD_start_231 (by decide) ?_
                    rw [show nI t + Int32.ofInt 1 = nI (t + 1) from nI_1 t]
                    have hcnd : True := trivial
                    exact ih (t + 1) (some t) _ _ _ (by omega) (fun _ z => by cases z; omega) (mFold_st hi2 (mStep_new (show mStc μ k op kk b t = true from by unfold mStc; rw [bI_1 c_108, (show mHo op (prtI (mI μ 2 k) b (mF μ k (mJ μ 9 t))) kk = true from bI_1 c_142)]; rfl)))
                  · refine x_iload C d_MD_start_219 rfl ?_
                    refine x_goto C 226 d_MD_start_221 (by decide) ?_
                    refine x_istore C d_MD_start_226 (Nat.le_of_ble_eq_true rfl) rfl ?_
                    refine x_iinc C d_MD_start_228 rfl rfl rfl ?_
                    refine x_goto C 93 d_MD_start_231 (by decide) ?_
                    rw [show nI t + Int32.ofInt 1 = nI (t + 1) from nI_1 t]
                    have hcnd : True := trivial
                    exact ih (t + 1) (some t) _ _ _ (by omega) (fun _ z => by cases z; omega) (mFold_st hi2 (mStep_new (show mStc μ k op kk b t = true from by unfold mStc; rw [bI_1 c_108, (show mHo op (prtI (mI μ 2 k) b (mF μ k (mJ μ 9 t))) kk = true from bI_1 c_142)]; rfl)))
                · refine x_aload_n C d_MD_start_177 rfl rfl ?_
                  refine x_iload_n C d_MD_start_178 rfl rfl ?_
                  refine x_iload C d_MD_start_179 rfl ?_
                  refine x_lload C d_MD_start_181 rfl ?_
                  refine x_aload_n C d_MD_start_183 rfl rfl ?_
                  refine x_iload_n C d_MD_start_184 rfl rfl ?_
                  refine x_iload C d_MD_start_185 rfl ?_
                  refine x_callV2 C (q_MD_rank l E hM1 (k := k) (sl := t) (by omega) (by omega)) (lk_MD_110 C.hts (Nat.le_of_ble_eq_true rfl) (Nat.le_of_ble_eq_true rfl)) hM1.1 rfl rfl d_MD_start_187 (Nat.le_of_ble_eq_true rfl) (Nat.le_of_ble_eq_true rfl) (Nat.le_of_ble_eq_true rfl) (fun r G' h => ?_)
                  obtain ⟨rfl, rfl⟩ : r = some (.int (mRk μ k t)) ∧ _ = G' := h
                  refine x_callV4 C (q_MD_isBehind l E hM1 (k := k) (sl := t) (by omega) (by omega)) (lk_MD_122 C.hts (Nat.le_of_ble_eq_true rfl) (Nat.le_of_ble_eq_true rfl)) hM1.1 rfl rfl d_MD_start_190 (Nat.le_of_ble_eq_true rfl) (Nat.le_of_ble_eq_true rfl) (Nat.le_of_ble_eq_true rfl) (fun r G' h => ?_)
                  obtain ⟨rfl, rfl⟩ : r = some (.int (bI (mBe μ k t (mF μ k (mJ μ 9 t)) (mRk μ k t)))) ∧ _ = G' := h
                  refine x_goto C 212 d_MD_start_193 (by decide) ?_
                  refine x_istore C d_MD_start_212 (Nat.le_of_ble_eq_true rfl) rfl ?_
                  refine x_iload C d_MD_start_214 rfl ?_
                  refine x_if_eq C 224 d_MD_start_216 (by decide) (fun c_216 => ?_) (fun c_216 => ?_)
                  · refine x_iload C d_MD_start_224 rfl ?_
                    refine x_istore C d_MD_start_226 (Nat.le_of_ble_eq_true rfl) rfl ?_
                    refine x_iinc C d_MD_start_228 rfl rfl rfl ?_
                    refine x_goto C 93 d_MD_start_231 (by decide) ?_
                    rw [show nI t + Int32.ofInt 1 = nI (t + 1) from nI_1 t]
                    have hcnd : True := trivial
                    exact ih (t + 1) (some t) _ _ _ (by omega) (fun _ z => by cases z; omega) (mFold_st hi2 (mStep_new (show mStc μ k op kk b t = true from by unfold mStc; rw [bI_1 c_108, (show mHo op (prtI (mI μ 2 k) b (mF μ k (mJ μ 9 t))) kk = true from bI_1 c_142)]; rfl)))
                  · refine x_iload C d_MD_start_219 rfl ?_
                    refine x_goto C 226 d_MD_start_221 (by decide) ?_
                    refine x_istore C d_MD_start_226 (Nat.le_of_ble_eq_true rfl) rfl ?_
                    refine x_iinc C d_MD_start_228 rfl rfl rfl ?_
                    refine x_goto C 93 d_MD_start_231 (by decide) ?_
                    rw [show nI t + Int32.ofInt 1 = nI (t + 1) from nI_1 t]
                    have hcnd : True := trivial
                    exact ih (t + 1) (some t) _ _ _ (by omega) (fun _ z => by cases z; omega) (mFold_st hi2 (mStep_new (show mStc μ k op kk b t = true from by unfold mStc; rw [bI_1 c_108, (show mHo op (prtI (mI μ 2 k) b (mF μ k (mJ μ 9 t))) kk = true from bI_1 c_142)]; rfl)))
            · have hq3 := hb2 u rfl
              refine x_iload C d_MD_start_148 rfl ?_
              refine x_iconst C (v := -1) d_MD_start_150 (by decide) ?_
              refine x_icmp_ne C 158 d_MD_start_151 (by decide) (fun c_151 => ?_) (fun c_151 => ?_)
              · refine x_aload_n C d_MD_start_158 rfl rfl ?_
                refine x_iload_n C d_MD_start_159 rfl rfl ?_
                refine x_aload_n C d_MD_start_160 rfl rfl ?_
                refine x_get C hM1.1 rfl (in_MD _) 9 (by decide) (List.mem_cons_of_mem _ f_MD_27) rfl d_MD_start_161 ?_
                refine x_iload C d_MD_start_164 rfl ?_
                refine x_mJv C hM1 9 300 kJ_9 rfl (j := u) (by omega) (mJ μ 9 u) rfl d_MD_start_166 ?_
                refine x_callV2 C (q_MD_field l E hM1 (k := k) (by omega)) (lk_MD_98 C.hts (Nat.le_of_ble_eq_true rfl) (Nat.le_of_ble_eq_true rfl)) hM1.1 rfl rfl d_MD_start_167 (Nat.le_of_ble_eq_true rfl) (Nat.le_of_ble_eq_true rfl) (Nat.le_of_ble_eq_true rfl) (fun r G' h => ?_)
                obtain ⟨rfl, rfl⟩ : r = some (.long (mF μ k (mJ μ 9 u))) ∧ _ = G' := h
                refine x_lstore C d_MD_start_170 (Nat.le_of_ble_eq_true rfl) rfl ?_
                refine x_iload_n C d_MD_start_172 rfl rfl ?_
                refine x_iconst C (v := 2) d_MD_start_173 (by decide) ?_
                refine x_icmp_le C 196 d_MD_start_174 (by decide) (fun c_174 => ?_) (fun c_174 => ?_)
                · refine x_aload_n C d_MD_start_196 rfl rfl ?_
                  refine x_iload_n C d_MD_start_197 rfl rfl ?_
                  refine x_iload C d_MD_start_198 rfl ?_
                  refine x_lload C d_MD_start_200 rfl ?_
                  refine x_aload_n C d_MD_start_202 rfl rfl ?_
                  refine x_iload_n C d_MD_start_203 rfl rfl ?_
                  refine x_iload C d_MD_start_204 rfl ?_
                  refine x_callV2 C (q_MD_rank l E hM1 (k := k) (sl := u) (by omega) (by omega)) (lk_MD_110 C.hts (Nat.le_of_ble_eq_true rfl) (Nat.le_of_ble_eq_true rfl)) hM1.1 rfl rfl d_MD_start_206 (Nat.le_of_ble_eq_true rfl) (Nat.le_of_ble_eq_true rfl) (Nat.le_of_ble_eq_true rfl) (fun r G' h => ?_)
                  obtain ⟨rfl, rfl⟩ : r = some (.int (mRk μ k u)) ∧ _ = G' := h
                  refine x_callV4 C (q_MD_isAhead l E hM1 (k := k) (sl := t) (by omega) (by omega)) (lk_MD_118 C.hts (Nat.le_of_ble_eq_true rfl) (Nat.le_of_ble_eq_true rfl)) hM1.1 rfl rfl d_MD_start_209 (Nat.le_of_ble_eq_true rfl) (Nat.le_of_ble_eq_true rfl) (Nat.le_of_ble_eq_true rfl) (fun r G' h => ?_)
                  obtain ⟨rfl, rfl⟩ : r = some (.int (bI (mAh μ k t (mF μ k (mJ μ 9 u)) (mRk μ k u)))) ∧ _ = G' := h
                  refine x_istore C d_MD_start_212 (Nat.le_of_ble_eq_true rfl) rfl ?_
                  refine x_iload C d_MD_start_214 rfl ?_
                  refine x_if_eq C 224 d_MD_start_216 (by decide) (fun c_216 => ?_) (fun c_216 => ?_)
                  · refine x_iload C d_MD_start_224 rfl ?_
                    refine x_istore C d_MD_start_226 (Nat.le_of_ble_eq_true rfl) rfl ?_
                    refine x_iinc C d_MD_start_228 rfl rfl rfl ?_
                    refine x_goto C 93 d_MD_start_231 (by decide) ?_
                    rw [show nI t + Int32.ofInt 1 = nI (t + 1) from nI_1 t]
                    have hcnd : True := trivial
                    exact ih (t + 1) (some u) _ _ _ (by omega) hb2 (mFold_st hi2 (mStep_ke (show mStc μ k op kk b t = true from by unfold mStc; rw [bI_1 c_108, (show mHo op (prtI (mI μ 2 k) b (mF μ k (mJ μ 9 t))) kk = true from bI_1 c_142)]; rfl) (show mBet μ k op t u = false from by unfold mBet; rw [if_neg (Int32.not_lt.mpr c_174)]; exact (bI_0 _).mp c_216)))
                  · refine x_iload C d_MD_start_219 rfl ?_
                    refine x_goto C 226 d_MD_start_221 (by decide) ?_
                    refine x_istore C d_MD_start_226 (Nat.le_of_ble_eq_true rfl) rfl ?_
                    refine x_iinc C d_MD_start_228 rfl rfl rfl ?_
                    refine x_goto C 93 d_MD_start_231 (by decide) ?_
                    rw [show nI t + Int32.ofInt 1 = nI (t + 1) from nI_1 t]
                    have hcnd : True := trivial
                    exact ih (t + 1) (some t) _ _ _ (by omega) (fun _ z => by cases z; omega) (mFold_st hi2 (mStep_up (show mStc μ k op kk b t = true from by unfold mStc; rw [bI_1 c_108, (show mHo op (prtI (mI μ 2 k) b (mF μ k (mJ μ 9 t))) kk = true from bI_1 c_142)]; rfl) (show mBet μ k op t u = true from by unfold mBet; rw [if_neg (Int32.not_lt.mpr c_174)]; exact bI_1 c_216)))
                · refine x_aload_n C d_MD_start_177 rfl rfl ?_
                  refine x_iload_n C d_MD_start_178 rfl rfl ?_
                  refine x_iload C d_MD_start_179 rfl ?_
                  refine x_lload C d_MD_start_181 rfl ?_
                  refine x_aload_n C d_MD_start_183 rfl rfl ?_
                  refine x_iload_n C d_MD_start_184 rfl rfl ?_
                  refine x_iload C d_MD_start_185 rfl ?_
                  refine x_callV2 C (q_MD_rank l E hM1 (k := k) (sl := u) (by omega) (by omega)) (lk_MD_110 C.hts (Nat.le_of_ble_eq_true rfl) (Nat.le_of_ble_eq_true rfl)) hM1.1 rfl rfl d_MD_start_187 (Nat.le_of_ble_eq_true rfl) (Nat.le_of_ble_eq_true rfl) (Nat.le_of_ble_eq_true rfl) (fun r G' h => ?_)
                  obtain ⟨rfl, rfl⟩ : r = some (.int (mRk μ k u)) ∧ _ = G' := h
                  refine x_callV4 C (q_MD_isBehind l E hM1 (k := k) (sl := t) (by omega) (by omega)) (lk_MD_122 C.hts (Nat.le_of_ble_eq_true rfl) (Nat.le_of_ble_eq_true rfl)) hM1.1 rfl rfl d_MD_start_190 (Nat.le_of_ble_eq_true rfl) (Nat.le_of_ble_eq_true rfl) (Nat.le_of_ble_eq_true rfl) (fun r G' h => ?_)
                  obtain ⟨rfl, rfl⟩ : r = some (.int (bI (mBe μ k t (mF μ k (mJ μ 9 u)) (mRk μ k u)))) ∧ _ = G' := h
                  refine x_goto C 212 d_MD_start_193 (by decide) ?_
                  refine x_istore C d_MD_start_212 (Nat.le_of_ble_eq_true rfl) rfl ?_
                  refine x_iload C d_MD_start_214 rfl ?_
                  refine x_if_eq C 224 d_MD_start_216 (by decide) (fun c_216 => ?_) (fun c_216 => ?_)
                  · refine x_iload C d_MD_start_224 rfl ?_
                    refine x_istore C d_MD_start_226 (Nat.le_of_ble_eq_true rfl) rfl ?_
                    refine x_iinc C d_MD_start_228 rfl rfl rfl ?_
                    refine x_goto C 93 d_MD_start_231 (by decide) ?_
                    rw [show nI t + Int32.ofInt 1 = nI (t + 1) from nI_1 t]
                    have hcnd : True := trivial
                    exact ih (t + 1) (some u) _ _ _ (by omega) hb2 (mFold_st hi2 (mStep_ke (show mStc μ k op kk b t = true from by unfold mStc; rw [bI_1 c_108, (show mHo op (prtI (mI μ 2 k) b (mF μ k (mJ μ 9 t))) kk = true from bI_1 c_142)]; rfl) (show mBet μ k op t u = false from by unfold mBet; rw [if_pos (Int32.not_le.mp c_174)]; exact (bI_0 _).mp c_216)))
                  · refine x_iload C d_MD_start_219 rfl ?_
                    refine x_goto C 226 d_MD_start_221 (by decide) ?_
                    refine x_istore C d_MD_start_226 (Nat.le_of_ble_eq_true rfl) rfl ?_
                    refine x_iinc C d_MD_start_228 rfl rfl rfl ?_
                    refine x_goto C 93 d_MD_start_231 (by decide) ?_
                    rw [show nI t + Int32.ofInt 1 = nI (t + 1) from nI_1 t]
                    have hcnd : True := trivial
                    exact ih (t + 1) (some t) _ _ _ (by omega) (fun _ z => by cases z; omega) (mFold_st hi2 (mStep_up (show mStc μ k op kk b t = true from by unfold mStc; rw [bI_1 c_108, (show mHo op (prtI (mI μ 2 k) b (mF μ k (mJ μ 9 t))) kk = true from bI_1 c_142)]; rfl) (show mBet μ k op t u = true from by unfold mBet; rw [if_pos (Int32.not_le.mp c_174)]; exact bI_1 c_216)))
              · exact absurd c_151 (nI_m1 (by omega))
          · refine x_goto C 228 d_MD_start_145 (by decide) ?_
            refine x_iinc C d_MD_start_228 rfl rfl rfl ?_
            refine x_goto C 93 d_MD_start_231 (by decide) ?_
            rw [show nI t + Int32.ofInt 1 = nI (t + 1) from nI_1 t]
            have hcnd : True := trivial
            exact ih (t + 1) fo _ _ _ (by omega) hb2 (mFold_st hi2 (mStep_no (show mStc μ k op kk b t = false from by unfold mStc; rw [(show mHo op (prtI (mI μ 2 k) b (mF μ k (mJ μ 9 t))) kk = false from (bI_0 _).mp c_142), Bool.and_false])))
  refine x_aload_n C d_MD_start_0 rfl rfl ?_
  refine x_iconst C (v := 0) d_MD_start_1 (by decide) ?_
  refine x_mSp C hM 0 (by decide) (x := 0) f_MD_72 rfl rfl rfl d_MD_start_2 (fun _ hMg1 hFg1 => ?_)
  refine x_aload_n C d_MD_start_5 rfl rfl ?_
  refine x_iload_n C d_MD_start_6 rfl rfl ?_
  refine x_callV1 C (q_MD_isView l E hMg1) (lk_MD_92 C.hts (Nat.le_of_ble_eq_true rfl) (Nat.le_of_ble_eq_true rfl)) hMg1.1 rfl rfl d_MD_start_7 (Nat.le_of_ble_eq_true rfl) (Nat.le_of_ble_eq_true rfl) (Nat.le_of_ble_eq_true rfl) (fun r G' h => ?_)
  obtain ⟨rfl, rfl⟩ : r = some (.int (bI (mVw μ (nI i)))) ∧ _ = G' := h
  refine x_if_eq C 47 d_MD_start_10 (by decide) (fun c_10 => ?_) (fun c_10 => ?_)
  · exact absurd (hv.symm.trans ((bI_0 _).mp c_10)) (by decide)
  · refine x_aload_n C d_MD_start_13 rfl rfl ?_
    refine x_iload_n C d_MD_start_14 rfl rfl ?_
    refine x_callV1 C (q_MD_isKey l E hMg1) (lk_MD_88 C.hts (Nat.le_of_ble_eq_true rfl) (Nat.le_of_ble_eq_true rfl)) hMg1.1 rfl rfl d_MD_start_15 (Nat.le_of_ble_eq_true rfl) (Nat.le_of_ble_eq_true rfl) (Nat.le_of_ble_eq_true rfl) (fun r G' h => ?_)
    obtain ⟨rfl, rfl⟩ : r = some (.int (bI (mKy μ (nI k)))) ∧ _ = G' := h
    refine x_if_eq C 47 d_MD_start_18 (by decide) (fun c_18 => ?_) (fun c_18 => ?_)
    · exact absurd (hkv.symm.trans ((bI_0 _).mp c_18)) (by decide)
    · refine x_iload_n C d_MD_start_21 rfl rfl ?_
      refine x_if_lt C 47 d_MD_start_22 (by decide) (fun c_22 => ?_) (fun c_22 => ?_)
      · exfalso
        clear C hnm hM
        simp_all
      · refine x_iload_n C d_MD_start_25 rfl rfl ?_
        refine x_iconst C (v := 4) d_MD_start_26 (by decide) ?_
        refine x_icmp_gt C 47 d_MD_start_27 (by decide) (fun c_27 => ?_) (fun c_27 => ?_)
        · exfalso
          clear C hnm hM
          simp_all
        · refine x_iload C d_MD_start_30 rfl ?_
          refine x_iconst C (v := 1) d_MD_start_32 (by decide) ?_
          refine x_icmp_lt C 47 d_MD_start_33 (by decide) (fun c_33 => ?_) (fun c_33 => ?_)
          · exfalso
            clear C hnm hM
            simp_all
          · refine x_iload C d_MD_start_36 rfl ?_
            refine x_aload_n C d_MD_start_38 rfl rfl ?_
            refine x_get C hMg1.1 rfl (in_MD _) 2 (by decide) (List.mem_cons_of_mem _ f_MD_13) rfl d_MD_start_39 ?_
            refine x_iload_n C d_MD_start_42 rfl rfl ?_
            refine x_mIv C hMg1 2 6 kI_2 rfl (j := k) (by omega) (mI μ 2 k) rfl d_MD_start_43 ?_
            refine x_icmp_le C 49 d_MD_start_44 (by decide) (fun c_44 => ?_) (fun c_44 => ?_)
            · refine x_aload_n C d_MD_start_49 rfl rfl ?_
              refine x_get C hMg1.1 rfl (in_MD _) 24 (by decide) (List.mem_cons_of_mem _ f_MD_63) rfl d_MD_start_50 ?_
              refine x_iload_n C d_MD_start_53 rfl rfl ?_
              refine x_mZv C hMg1 24 5 kZ_24 rfl (j := i) (by omega) (mZ μ 24 i) rfl d_MD_start_54 ?_
              refine x_if_ne C 61 d_MD_start_55 (by decide) (fun c_55 => ?_) (fun c_55 => ?_)
              · refine x_aload_n C d_MD_start_61 rfl rfl ?_
                refine x_iload_n C d_MD_start_62 rfl rfl ?_
                refine x_callV1 C (q_MD_reads l E hMg1 (i := i) (by omega)) (lk_MD_165 C.hts (Nat.le_of_ble_eq_true rfl) (Nat.le_of_ble_eq_true rfl)) hMg1.1 rfl rfl d_MD_start_63 (Nat.le_of_ble_eq_true rfl) (Nat.le_of_ble_eq_true rfl) (Nat.le_of_ble_eq_true rfl) (fun r G' h => ?_)
                obtain ⟨rfl, rfl⟩ : r = some (.int (bI (mRd μ i))) ∧ _ = G' := h
                refine x_if_eq C 79 d_MD_start_66 (by decide) (fun c_66 => ?_) (fun c_66 => ?_)
                · exfalso
                  clear C hnm hM hb
                  simp_all [refRead, mRd, bI_0]
                · refine x_aload_n C d_MD_start_69 rfl rfl ?_
                  refine x_get C hMg1.1 rfl (in_MD _) 16 (by decide) (List.mem_cons_of_mem _ f_MD_39) rfl d_MD_start_70 ?_
                  refine x_iload_n C d_MD_start_73 rfl rfl ?_
                  refine x_mIv C hMg1 16 5 kI_16 rfl (j := i) (by omega) (mI μ 16 i) rfl d_MD_start_74 ?_
                  refine x_iconst C (v := 1) d_MD_start_75 (by decide) ?_
                  refine x_icmp_ne C 82 d_MD_start_76 (by decide) (fun c_76 => ?_) (fun c_76 => ?_)
                  · refine x_aload_n C d_MD_start_82 rfl rfl ?_
                    refine x_iload_n C d_MD_start_83 rfl rfl ?_
                    refine x_callV1 C (q_MD_forget l E hMg1 (i := i) (by omega)) (lk_MD_150 C.hts (Nat.le_of_ble_eq_true rfl) (Nat.le_of_ble_eq_true rfl)) hMg1.1 rfl rfl d_MD_start_84 (Nat.le_of_ble_eq_true rfl) (Nat.le_of_ble_eq_true rfl) (Nat.le_of_ble_eq_true rfl) (fun r G' h => ?_)
                    obtain ⟨rfl, hMg2, hFg2⟩ : r = none ∧ xMD E G' md a (mFg (sS μ 0 (0)) i) ∧ xFc _ G' := h
                    refine x_iconst C (v := -1) d_MD_start_87 (by decide) ?_
                    refine x_istore C d_MD_start_88 (Nat.le_of_ble_eq_true rfl) rfl ?_
                    refine x_iconst C (v := 0) d_MD_start_90 (by decide) ?_
                    refine x_istore C d_MD_start_91 (Nat.le_of_ble_eq_true rfl) rfl ?_
                    rw [← nI_0]
                    exact loop _ hMg2 (hFg1.tr hFg2) 300 0 none _ _ _ (by omega) (fun _ z => by cases z) rfl
                  · exfalso
                    clear C hnm hM hb
                    simp_all [refRead, mRd, bI_0]
              · exfalso
                clear C hnm hM hb
                simp_all [refRead, mRd, bI_0]
            · exfalso
              clear C hnm hM
              simp_all
set_option maxRecDepth 4000 in
set_option maxHeartbeats 800000 in
theorem q_MD_start_got (l : Launch) (E : xE) {G : xw_G} {md : Nat} {a : Nat → Nat} {μ : MS} (hM : xMD E G md a μ) {i : Nat} (hi : i < 5) (hv : mVw μ (nI i) = true) {k : Nat} (hk : k < 6) (hkv : mKy μ (nI k) = true) {op b : Int32} {kk : Int64} (hb : ¬ (op < 0 ∨ 4 < op ∨ b < 1 ∨ mI μ 2 k < b)) (hr : refRead (mZ μ 24 i) (mI μ 15 i) (mI μ 16 i) 1 = 0) {q : Nat} (ho : mSt μ k op kk b = some q) : XMk l E y_MD_start w_MD_start rm_MD_start [.ref md, .int (nI i), .int (nI k), .int (op), .long (kk), .int (b)] G (fun r G' => r = some (.int (0)) ∧ xMD E G' md a (sI (sJ (sI (sZ (sI (mFg (sS μ 0 0) i) 17 i (nI k)) 25 i false) 18 i 2) 21 i (mF μ k (mJ μ 9 q))) 19 i (mRk μ k q)) ∧ xFc G G') 0 0 := by
  refine XM_of [some (.ref md), some (.int (nI i)), some (.int (nI k)), some (.int (op)), some (.long (kk)), none, some (.int (b)), none, none, none, none, none] (XZ_st E) (by decide) rfl rfl rfl (Nat.le_of_ble_eq_true rfl) (fun p e s m below meth c C hnm => ?_)
  have h04 := op_04 (fun z => hb (Or.inl z)) (fun z => hb (Or.inr (Or.inl z)))
  have hqq := mSt_lt ho
  have loop : ∀ (G1 : xw_G) (hM1 : xMD E G1 md a (mFg (sS μ 0 0) i)) (hF1 : xFc G G1) (n t : Nat) (fo : Option Nat) (v9 v10 v11 : Option Value), t + n = 300 → (∀ q, fo = some q → q < 300) → mFold (mStc μ k op kk b) (mBet μ k op) n t fo = mSt μ k op kk b → XW p l e rm_MD_start s m #[.ref md, .int (nI i), .int (nI k), .int (op), .long (kk), .int (b)] below meth c (XQ below #[.ref md, .int (nI i), .int (nI k), .int (op), .long (kk), .int (b)] s (xD E) xcl (xB E) (fun r G' => r = some (.int (0)) ∧ xMD E G' md a (sI (sJ (sI (sZ (sI (mFg (sS μ 0 0) i) 17 i (nI k)) 25 i false) 18 i 2) 21 i (mF μ k (mJ μ 9 q))) 19 i (mRk μ k q)) ∧ xFc G G') 0 0) (xD E) xcl (xB E) 93 [some (.ref md), some (.int (nI i)), some (.int (nI k)), some (.int (op)), some (.long (kk)), none, some (.int (b)), some (.int (oI fo)), some (.int (nI t)), v9, v10, v11] [] G1 0 0 := by
    intro G1 hM1 hF1 n
    induction n with
    | zero =>
      intro t fo v9 v10 v11 ht hb2 hi2
      refine x_iload C d_MD_start_93 rfl ?_
      refine x_sipush C (v := 300) d_MD_start_95 (by decide) ?_
      refine x_icmp_ge C 234 d_MD_start_98 (by decide) (fun c_98 => ?_) (fun c_98 => ?_)
      · have hi2 : fo = mSt μ k op kk b := hi2
        rw [hi2, ho]
        refine x_aload_n C d_MD_start_234 rfl rfl ?_
        refine x_get C hM1.1 rfl (in_MD _) 17 (by decide) (List.mem_cons_of_mem _ f_MD_42) rfl d_MD_start_235 ?_
        refine x_iload_n C d_MD_start_238 rfl rfl ?_
        refine x_iload_n C d_MD_start_239 rfl rfl ?_
        refine x_mIs C hM1 17 5 kI_17 (j := i) (x := nI k) rfl (by omega) d_MD_start_240 (fun _ hMg1 hFg1 => ?_)
        refine x_aload_n C d_MD_start_241 rfl rfl ?_
        refine x_get C hMg1.1 rfl (in_MD _) 25 (by decide) (List.mem_cons_of_mem _ f_MD_66) rfl d_MD_start_242 ?_
        refine x_iload_n C d_MD_start_245 rfl rfl ?_
        refine x_iconst C (v := 0) d_MD_start_246 (by decide) ?_
        refine x_mZs C hMg1 25 5 kZ_25 (j := i) false rfl (by omega) d_MD_start_247 (fun _ hMg2 hFg2 => ?_)
        refine x_aload_n C d_MD_start_248 rfl rfl ?_
        refine x_get C hMg2.1 rfl (in_MD _) 18 (by decide) (List.mem_cons_of_mem _ f_MD_45) rfl d_MD_start_249 ?_
        refine x_iload_n C d_MD_start_252 rfl rfl ?_
        refine x_iload C d_MD_start_253 rfl ?_
        refine x_iconst C (v := -1) d_MD_start_255 (by decide) ?_
        refine x_icmp_ne C 263 d_MD_start_256 (by decide) (fun c_256 => ?_) (fun c_256 => ?_)
        · refine x_iconst C (v := 2) d_MD_start_263 (by decide) ?_
          refine x_mIs C hMg2 18 5 kI_18 (j := i) (x := 2) rfl (by omega) d_MD_start_264 (fun _ hMg3 hFg3 => ?_)
          refine x_iload C d_MD_start_265 rfl ?_
          refine x_iconst C (v := -1) d_MD_start_267 (by decide) ?_
          refine x_icmp_ne C 274 d_MD_start_268 (by decide) (fun c_268 => ?_) (fun c_268 => ?_)
          · refine x_aload_n C d_MD_start_274 rfl rfl ?_
            refine x_get C hMg3.1 rfl (in_MD _) 21 (by decide) (List.mem_cons_of_mem _ f_MD_54) rfl d_MD_start_275 ?_
            refine x_iload_n C d_MD_start_278 rfl rfl ?_
            refine x_aload_n C d_MD_start_279 rfl rfl ?_
            refine x_iload_n C d_MD_start_280 rfl rfl ?_
            refine x_aload_n C d_MD_start_281 rfl rfl ?_
            refine x_get C hMg3.1 rfl (in_MD _) 9 (by decide) (List.mem_cons_of_mem _ f_MD_27) rfl d_MD_start_282 ?_
            refine x_iload C d_MD_start_285 rfl ?_
            refine x_mJv C hMg3 9 300 kJ_9 rfl (j := q) (by omega) (mJ μ 9 q) rfl d_MD_start_287 ?_
            refine x_callV2 C (q_MD_field l E hMg3 (k := k) (by omega)) (lk_MD_98 C.hts (Nat.le_of_ble_eq_true rfl) (Nat.le_of_ble_eq_true rfl)) hMg3.1 rfl rfl d_MD_start_288 (Nat.le_of_ble_eq_true rfl) (Nat.le_of_ble_eq_true rfl) (Nat.le_of_ble_eq_true rfl) (fun r G' h => ?_)
            obtain ⟨rfl, rfl⟩ : r = some (.long (mF μ k (mJ μ 9 q))) ∧ _ = G' := h
            refine x_mJs C hMg3 21 5 kJ_21 (j := i) (x := mF μ k (mJ μ 9 q)) rfl (by omega) d_MD_start_291 (fun _ hMg4 hFg4 => ?_)
            refine x_aload_n C d_MD_start_292 rfl rfl ?_
            refine x_get C hMg4.1 rfl (in_MD _) 19 (by decide) (List.mem_cons_of_mem _ f_MD_48) rfl d_MD_start_293 ?_
            refine x_iload_n C d_MD_start_296 rfl rfl ?_
            refine x_aload_n C d_MD_start_297 rfl rfl ?_
            refine x_iload_n C d_MD_start_298 rfl rfl ?_
            refine x_iload C d_MD_start_299 rfl ?_
            refine x_callV2 C (q_MD_rank l E hMg4 (k := k) (sl := q) (by omega) (by omega)) (lk_MD_110 C.hts (Nat.le_of_ble_eq_true rfl) (Nat.le_of_ble_eq_true rfl)) hMg4.1 rfl rfl d_MD_start_301 (Nat.le_of_ble_eq_true rfl) (Nat.le_of_ble_eq_true rfl) (Nat.le_of_ble_eq_true rfl) (fun r G' h => ?_)
            obtain ⟨rfl, rfl⟩ : r = some (.int (mRk μ k q)) ∧ _ = G' := h
            refine x_mIs C hMg4 19 5 kI_19 (j := i) (x := mRk μ k q) rfl (by omega) d_MD_start_304 (fun _ hMg5 hFg5 => ?_)
            refine x_iconst C (v := 0) d_MD_start_305 (by decide) ?_
            exact x_iret C (Nat.le_of_ble_eq_true rfl) (Nat.le_of_ble_eq_true rfl) d_MD_start_306 ⟨rfl, hMg5, ((((hF1.tr hFg1).tr hFg2).tr hFg3).tr hFg4).tr hFg5⟩
          · exact absurd c_268 (nI_m1 (by omega))
        · exact absurd c_256 (nI_m1 (by omega))
      · exact absurd (nI_le (a := 300) (b := t) (by omega) (by omega)) c_98
    | succ n ih =>
      intro t fo v9 v10 v11 ht hb2 hi2
      refine x_iload C d_MD_start_93 rfl ?_
      refine x_sipush C (v := 300) d_MD_start_95 (by decide) ?_
      refine x_icmp_ge C 234 d_MD_start_98 (by decide) (fun c_98 => ?_) (fun c_98 => ?_)
      · exact absurd c_98 (nI_ge (a := t) (b := 300) (by omega) (by omega))
      · refine x_aload_n C d_MD_start_101 rfl rfl ?_
        refine x_iload_n C d_MD_start_102 rfl rfl ?_
        refine x_iload C d_MD_start_103 rfl ?_
        refine x_callV2 C (q_MD_isEntry l E hM1 (k := k) (sl := t) (by omega) (by omega)) (lk_MD_114 C.hts (Nat.le_of_ble_eq_true rfl) (Nat.le_of_ble_eq_true rfl)) hM1.1 rfl rfl d_MD_start_105 (Nat.le_of_ble_eq_true rfl) (Nat.le_of_ble_eq_true rfl) (Nat.le_of_ble_eq_true rfl) (fun r G' h => ?_)
        obtain ⟨rfl, rfl⟩ : r = some (.int (bI (mEn μ k t))) ∧ _ = G' := h
        refine x_if_eq C 228 d_MD_start_108 (by decide) (fun c_108 => ?_) (fun c_108 => ?_)
        · refine x_iinc C d_MD_start_228 rfl rfl rfl ?_
          refine x_goto C 93 d_MD_start_231 (by decide) ?_
          rw [show nI t + Int32.ofInt 1 = nI (t + 1) from nI_1 t]
          have hcnd : True := trivial
          exact ih (t + 1) fo _ _ _ (by omega) hb2 (mFold_st hi2 (mStep_no (show mStc μ k op kk b t = false from by unfold mStc; rw [(bI_0 _).mp c_108]; rfl)))
        · refine x_iload_n C d_MD_start_111 rfl rfl ?_
          refine x_aload_n C d_MD_start_112 rfl rfl ?_
          refine x_iload_n C d_MD_start_113 rfl rfl ?_
          refine x_aload_n C d_MD_start_114 rfl rfl ?_
          refine x_get C hM1.1 rfl (in_MD _) 9 (by decide) (List.mem_cons_of_mem _ f_MD_27) rfl d_MD_start_115 ?_
          refine x_iload C d_MD_start_118 rfl ?_
          refine x_mJv C hM1 9 300 kJ_9 rfl (j := t) (by omega) (mJ μ 9 t) rfl d_MD_start_120 ?_
          refine x_callV2 C (q_MD_field l E hM1 (k := k) (by omega)) (lk_MD_98 C.hts (Nat.le_of_ble_eq_true rfl) (Nat.le_of_ble_eq_true rfl)) hM1.1 rfl rfl d_MD_start_121 (Nat.le_of_ble_eq_true rfl) (Nat.le_of_ble_eq_true rfl) (Nat.le_of_ble_eq_true rfl) (fun r G' h => ?_)
          obtain ⟨rfl, rfl⟩ : r = some (.long (mF μ k (mJ μ 9 t))) ∧ _ = G' := h
          refine x_bipush C (v := 8) d_MD_start_124 (by decide) ?_
          refine x_aload_n C d_MD_start_126 rfl rfl ?_
          refine x_get C hM1.1 rfl (in_MD _) 2 (by decide) (List.mem_cons_of_mem _ f_MD_13) rfl d_MD_start_127 ?_
          refine x_iload_n C d_MD_start_130 rfl rfl ?_
          refine x_mIv C hM1 2 6 kI_2 rfl (j := k) (by omega) (mI μ 2 k) rfl d_MD_start_131 ?_
          refine x_iload C d_MD_start_132 rfl ?_
          refine x_isub C d_MD_start_134 ?_
          refine x_imul C d_MD_start_135 ?_
          refine x_lushr C d_MD_start_136 ?_
          refine x_lload C d_MD_start_137 rfl ?_
          refine x_callS3 C (q_MD_holds l E h04) (lk_MD_172 C.hts (Nat.le_of_ble_eq_true rfl) (Nat.le_of_ble_eq_true rfl)) rfl d_MD_start_139 (Nat.le_of_ble_eq_true rfl) (Nat.le_of_ble_eq_true rfl) (Nat.le_of_ble_eq_true rfl) (fun r G' h => ?_)
          obtain ⟨rfl, rfl⟩ : r = some (.int (bI (mHo (op) ((Int64.toUInt64 (mF μ k (mJ μ 9 t)) >>> ((Int32.toInt64 ((8) * ((mI μ 2 k) - (b)))).toUInt64 &&& Int64.toUInt64 63)).toInt64) (kk)))) ∧ _ = G' := h
          refine x_if_ne C 148 d_MD_start_142 (by decide) (fun c_142 => ?_) (fun c_142 => ?_)
          · rcases fo with _ | u
            · have c_151 : True := trivial
              refine x_iload C d_MD_start_148 rfl ?_
              refine x_iconst C (v := -1) d_MD_start_150 (by decide) ?_
              refine x_icmp_ne C 158 d_MD_start_151 (by decide) (fun c_151 => ?_) (fun c_151 => ?_)
              · exact absurd c_151 (by decide)
              · refine x_iload C d_MD_start_154 rfl ?_
                refine x_istore C d_MD_start_156 (Nat.le_of_ble_eq_true rfl) rfl ?_
                refine x_aload_n C d_MD_start_158 rfl rfl ?_
                refine x_iload_n C d_MD_start_159 rfl rfl ?_
                refine x_aload_n C d_MD_start_160 rfl rfl ?_
                refine x_get C hM1.1 rfl (in_MD _) 9 (by decide) (List.mem_cons_of_mem _ f_MD_27) rfl d_MD_start_161 ?_
                refine x_iload C d_MD_start_164 rfl ?_
                refine x_mJv C hM1 9 300 kJ_9 rfl (j := t) (by omega) (mJ μ 9 t) rfl d_MD_start_166 ?_
                refine x_callV2 C (q_MD_field l E hM1 (k := k) (by omega)) (lk_MD_98 C.hts (Nat.le_of_ble_eq_true rfl) (Nat.le_of_ble_eq_true rfl)) hM1.1 rfl rfl d_MD_start_167 (Nat.le_of_ble_eq_true rfl) (Nat.le_of_ble_eq_true rfl) (Nat.le_of_ble_eq_true rfl) (fun r G' h => ?_)
                obtain ⟨rfl, rfl⟩ : r = some (.long (mF μ k (mJ μ 9 t))) ∧ _ = G' := h
                refine x_lstore C d_MD_start_170 (Nat.le_of_ble_eq_true rfl) rfl ?_
                refine x_iload_n C d_MD_start_172 rfl rfl ?_
                refine x_iconst C (v := 2) d_MD_start_173 (by decide) ?_
                refine x_icmp_le C 196 d_MD_start_174 (by decide) (fun c_174 => ?_) (fun c_174 => ?_)
                · refine x_aload_n C d_MD_start_196 rfl rfl ?_
                  refine x_iload_n C d_MD_start_197 rfl rfl ?_
                  refine x_iload C d_MD_start_198 rfl ?_
                  refine x_lload C d_MD_start_200 rfl ?_
                  refine x_aload_n C d_MD_start_202 rfl rfl ?_
                  refine x_iload_n C d_MD_start_203 rfl rfl ?_
                  refine x_iload C d_MD_start_204 rfl ?_
                  refine x_callV2 C (q_MD_rank l E hM1 (k := k) (sl := t) (by omega) (by omega)) (lk_MD_110 C.hts (Nat.le_of_ble_eq_true rfl) (Nat.le_of_ble_eq_true rfl)) hM1.1 rfl rfl d_MD_start_206 (Nat.le_of_ble_eq_true rfl) (Nat.le_of_ble_eq_true rfl) (Nat.le_of_ble_eq_true rfl) (fun r G' h => ?_)
                  obtain ⟨rfl, rfl⟩ : r = some (.int (mRk μ k t)) ∧ _ = G' := h
                  refine x_callV4 C (q_MD_isAhead l E hM1 (k := k) (sl := t) (by omega) (by omega)) (lk_MD_118 C.hts (Nat.le_of_ble_eq_true rfl) (Nat.le_of_ble_eq_true rfl)) hM1.1 rfl rfl d_MD_start_209 (Nat.le_of_ble_eq_true rfl) (Nat.le_of_ble_eq_true rfl) (Nat.le_of_ble_eq_true rfl) (fun r G' h => ?_)
                  obtain ⟨rfl, rfl⟩ : r = some (.int (bI (mAh μ k t (mF μ k (mJ μ 9 t)) (mRk μ k t)))) ∧ _ = G' := h
                  refine x_istore C d_MD_start_212 (Nat.le_of_ble_eq_true rfl) rfl ?_
                  refine x_iload C d_MD_start_214 rfl ?_
                  refine x_if_eq C 224 d_MD_start_216 (by decide) (fun c_216 => ?_) (fun c_216 => ?_)
                  · refine x_iload C d_MD_start_224 rfl ?_
                    refine x_istore C d_MD_start_226 (Nat.le_of_ble_eq_true rfl) rfl ?_
                    refine x_iinc C d_MD_start_228 rfl rfl rfl ?_
                    refine x_goto C 93 d_MD_start_231 (by decide) ?_
                    rw [show nI t + Int32.ofInt 1 = nI (t + 1) from nI_1 t]
                    have hcnd : True := trivial
                    exact ih (t + 1) (some t) _ _ _ (by omega) (fun _ z => by cases z; omega) (mFold_st hi2 (mStep_new (show mStc μ k op kk b t = true from by unfold mStc; rw [bI_1 c_108, (show mHo op (prtI (mI μ 2 k) b (mF μ k (mJ μ 9 t))) kk = true from bI_1 c_142)]; rfl)))
                  · refine x_iload C d_MD_start_219 rfl ?_
                    refine x_goto C 226 d_MD_start_221 (by decide) ?_
                    refine x_istore C d_MD_start_226 (Nat.le_of_ble_eq_true rfl) rfl ?_
                    refine x_iinc C d_MD_start_228 rfl rfl rfl ?_
                    refine x_goto C 93 d_MD_start_231 (by decide) ?_
                    rw [show nI t + Int32.ofInt 1 = nI (t + 1) from nI_1 t]
                    have hcnd : True := trivial
                    exact ih (t + 1) (some t) _ _ _ (by omega) (fun _ z => by cases z; omega) (mFold_st hi2 (mStep_new (show mStc μ k op kk b t = true from by unfold mStc; rw [bI_1 c_108, (show mHo op (prtI (mI μ 2 k) b (mF μ k (mJ μ 9 t))) kk = true from bI_1 c_142)]; rfl)))
                · refine x_aload_n C d_MD_start_177 rfl rfl ?_
                  refine x_iload_n C d_MD_start_178 rfl rfl ?_
                  refine x_iload C d_MD_start_179 rfl ?_
                  refine x_lload C d_MD_start_181 rfl ?_
                  refine x_aload_n C d_MD_start_183 rfl rfl ?_
                  refine x_iload_n C d_MD_start_184 rfl rfl ?_
                  refine x_iload C d_MD_start_185 rfl ?_
                  refine x_callV2 C (q_MD_rank l E hM1 (k := k) (sl := t) (by omega) (by omega)) (lk_MD_110 C.hts (Nat.le_of_ble_eq_true rfl) (Nat.le_of_ble_eq_true rfl)) hM1.1 rfl rfl d_MD_start_187 (Nat.le_of_ble_eq_true rfl) (Nat.le_of_ble_eq_true rfl) (Nat.le_of_ble_eq_true rfl) (fun r G' h => ?_)
                  obtain ⟨rfl, rfl⟩ : r = some (.int (mRk μ k t)) ∧ _ = G' := h
                  refine x_callV4 C (q_MD_isBehind l E hM1 (k := k) (sl := t) (by omega) (by omega)) (lk_MD_122 C.hts (Nat.le_of_ble_eq_true rfl) (Nat.le_of_ble_eq_true rfl)) hM1.1 rfl rfl d_MD_start_190 (Nat.le_of_ble_eq_true rfl) (Nat.le_of_ble_eq_true rfl) (Nat.le_of_ble_eq_true rfl) (fun r G' h => ?_)
                  obtain ⟨rfl, rfl⟩ : r = some (.int (bI (mBe μ k t (mF μ k (mJ μ 9 t)) (mRk μ k t)))) ∧ _ = G' := h
                  refine x_goto C 212 d_MD_start_193 (by decide) ?_
                  refine x_istore C d_MD_start_212 (Nat.le_of_ble_eq_true rfl) rfl ?_
                  refine x_iload C d_MD_start_214 rfl ?_
                  refine x_if_eq C 224 d_MD_start_216 (by decide) (fun c_216 => ?_) (fun c_216 => ?_)
                  · refine x_iload C d_MD_start_224 rfl ?_
                    refine x_istore C d_MD_start_226 (Nat.le_of_ble_eq_true rfl) rfl ?_
                    refine x_iinc C d_MD_start_228 rfl rfl rfl ?_
                    refine x_goto C 93 d_MD_start_231 (by decide) ?_
                    rw [show nI t + Int32.ofInt 1 = nI (t + 1) from nI_1 t]
                    have hcnd : True := trivial
                    exact ih (t + 1) (some t) _ _ _ (by omega) (fun _ z => by cases z; omega) (mFold_st hi2 (mStep_new (show mStc μ k op kk b t = true from by unfold mStc; rw [bI_1 c_108, (show mHo op (prtI (mI μ 2 k) b (mF μ k (mJ μ 9 t))) kk = true from bI_1 c_142)]; rfl)))
                  · refine x_iload C d_MD_start_219 rfl ?_
                    refine x_goto C 226 d_MD_start_221 (by decide) ?_
                    refine x_istore C d_MD_start_226 (Nat.le_of_ble_eq_true rfl) rfl ?_
                    refine x_iinc C d_MD_start_228 rfl rfl rfl ?_
                    refine x_goto C 93 d_MD_start_231 (by decide) ?_
                    rw [show nI t + Int32.ofInt 1 = nI (t + 1) from nI_1 t]
                    have hcnd : True := trivial
                    exact ih (t + 1) (some t) _ _ _ (by omega) (fun _ z => by cases z; omega) (mFold_st hi2 (mStep_new (show mStc μ k op kk b t = true from by unfold mStc; rw [bI_1 c_108, (show mHo op (prtI (mI μ 2 k) b (mF μ k (mJ μ 9 t))) kk = true from bI_1 c_142)]; rfl)))
            · have hq3 := hb2 u rfl
              refine x_iload C d_MD_start_148 rfl ?_
              refine x_iconst C (v := -1) d_MD_start_150 (by decide) ?_
              refine x_icmp_ne C 158 d_MD_start_151 (by decide) (fun c_151 => ?_) (fun c_151 => ?_)
              · refine x_aload_n C d_MD_start_158 rfl rfl ?_
                refine x_iload_n C d_MD_start_159 rfl rfl ?_
                refine x_aload_n C d_MD_start_160 rfl rfl ?_
                refine x_get C hM1.1 rfl (in_MD _) 9 (by decide) (List.mem_cons_of_mem _ f_MD_27) rfl d_MD_start_161 ?_
                refine x_iload C d_MD_start_164 rfl ?_
                refine x_mJv C hM1 9 300 kJ_9 rfl (j := u) (by omega) (mJ μ 9 u) rfl d_MD_start_166 ?_
                refine x_callV2 C (q_MD_field l E hM1 (k := k) (by omega)) (lk_MD_98 C.hts (Nat.le_of_ble_eq_true rfl) (Nat.le_of_ble_eq_true rfl)) hM1.1 rfl rfl d_MD_start_167 (Nat.le_of_ble_eq_true rfl) (Nat.le_of_ble_eq_true rfl) (Nat.le_of_ble_eq_true rfl) (fun r G' h => ?_)
                obtain ⟨rfl, rfl⟩ : r = some (.long (mF μ k (mJ μ 9 u))) ∧ _ = G' := h
                refine x_lstore C d_MD_start_170 (Nat.le_of_ble_eq_true rfl) rfl ?_
                refine x_iload_n C d_MD_start_172 rfl rfl ?_
                refine x_iconst C (v := 2) d_MD_start_173 (by decide) ?_
                refine x_icmp_le C 196 d_MD_start_174 (by decide) (fun c_174 => ?_) (fun c_174 => ?_)
                · refine x_aload_n C d_MD_start_196 rfl rfl ?_
                  refine x_iload_n C d_MD_start_197 rfl rfl ?_
                  refine x_iload C d_MD_start_198 rfl ?_
                  refine x_lload C d_MD_start_200 rfl ?_
                  refine x_aload_n C d_MD_start_202 rfl rfl ?_
                  refine x_iload_n C d_MD_start_203 rfl rfl ?_
                  refine x_iload C d_MD_start_204 rfl ?_
                  refine x_callV2 C (q_MD_rank l E hM1 (k := k) (sl := u) (by omega) (by omega)) (lk_MD_110 C.hts (Nat.le_of_ble_eq_true rfl) (Nat.le_of_ble_eq_true rfl)) hM1.1 rfl rfl d_MD_start_206 (Nat.le_of_ble_eq_true rfl) (Nat.le_of_ble_eq_true rfl) (Nat.le_of_ble_eq_true rfl) (fun r G' h => ?_)
                  obtain ⟨rfl, rfl⟩ : r = some (.int (mRk μ k u)) ∧ _ = G' := h
                  refine x_callV4 C (q_MD_isAhead l E hM1 (k := k) (sl := t) (by omega) (by omega)) (lk_MD_118 C.hts (Nat.le_of_ble_eq_true rfl) (Nat.le_of_ble_eq_true rfl)) hM1.1 rfl rfl d_MD_start_209 (Nat.le_of_ble_eq_true rfl) (Nat.le_of_ble_eq_true rfl) (Nat.le_of_ble_eq_true rfl) (fun r G' h => ?_)
                  obtain ⟨rfl, rfl⟩ : r = some (.int (bI (mAh μ k t (mF μ k (mJ μ 9 u)) (mRk μ k u)))) ∧ _ = G' := h
                  refine x_istore C d_MD_start_212 (Nat.le_of_ble_eq_true rfl) rfl ?_
                  refine x_iload C d_MD_start_214 rfl ?_
                  refine x_if_eq C 224 d_MD_start_216 (by decide) (fun c_216 => ?_) (fun c_216 => ?_)
                  · refine x_iload C d_MD_start_224 rfl ?_
                    refine x_istore C d_MD_start_226 (Nat.le_of_ble_eq_true rfl) rfl ?_
                    refine x_iinc C d_MD_start_228 rfl rfl rfl ?_
                    refine x_goto C 93 d_MD_start_231 (by decide) ?_
                    rw [show nI t + Int32.ofInt 1 = nI (t + 1) from nI_1 t]
                    have hcnd : True := trivial
                    exact ih (t + 1) (some u) _ _ _ (by omega) hb2 (mFold_st hi2 (mStep_ke (show mStc μ k op kk b t = true from by unfold mStc; rw [bI_1 c_108, (show mHo op (prtI (mI μ 2 k) b (mF μ k (mJ μ 9 t))) kk = true from bI_1 c_142)]; rfl) (show mBet μ k op t u = false from by unfold mBet; rw [if_neg (Int32.not_lt.mpr c_174)]; exact (bI_0 _).mp c_216)))
                  · refine x_iload C d_MD_start_219 rfl ?_
                    refine x_goto C 226 d_MD_start_221 (by decide) ?_
                    refine x_istore C d_MD_start_226 (Nat.le_of_ble_eq_true rfl) rfl ?_
                    refine x_iinc C d_MD_start_228 rfl rfl rfl ?_
                    refine x_goto C 93 d_MD_start_231 (by decide) ?_
                    rw [show nI t + Int32.ofInt 1 = nI (t + 1) from nI_1 t]
                    have hcnd : True := trivial
                    exact ih (t + 1) (some t) _ _ _ (by omega) (fun _ z => by cases z; omega) (mFold_st hi2 (mStep_up (show mStc μ k op kk b t = true from by unfold mStc; rw [bI_1 c_108, (show mHo op (prtI (mI μ 2 k) b (mF μ k (mJ μ 9 t))) kk = true from bI_1 c_142)]; rfl) (show mBet μ k op t u = true from by unfold mBet; rw [if_neg (Int32.not_lt.mpr c_174)]; exact bI_1 c_216)))
                · refine x_aload_n C d_MD_start_177 rfl rfl ?_
                  refine x_iload_n C d_MD_start_178 rfl rfl ?_
                  refine x_iload C d_MD_start_179 rfl ?_
                  refine x_lload C d_MD_start_181 rfl ?_
                  refine x_aload_n C d_MD_start_183 rfl rfl ?_
                  refine x_iload_n C d_MD_start_184 rfl rfl ?_
                  refine x_iload C d_MD_start_185 rfl ?_
                  refine x_callV2 C (q_MD_rank l E hM1 (k := k) (sl := u) (by omega) (by omega)) (lk_MD_110 C.hts (Nat.le_of_ble_eq_true rfl) (Nat.le_of_ble_eq_true rfl)) hM1.1 rfl rfl d_MD_start_187 (Nat.le_of_ble_eq_true rfl) (Nat.le_of_ble_eq_true rfl) (Nat.le_of_ble_eq_true rfl) (fun r G' h => ?_)
                  obtain ⟨rfl, rfl⟩ : r = some (.int (mRk μ k u)) ∧ _ = G' := h
                  refine x_callV4 C (q_MD_isBehind l E hM1 (k := k) (sl := t) (by omega) (by omega)) (lk_MD_122 C.hts (Nat.le_of_ble_eq_true rfl) (Nat.le_of_ble_eq_true rfl)) hM1.1 rfl rfl d_MD_start_190 (Nat.le_of_ble_eq_true rfl) (Nat.le_of_ble_eq_true rfl) (Nat.le_of_ble_eq_true rfl) (fun r G' h => ?_)
                  obtain ⟨rfl, rfl⟩ : r = some (.int (bI (mBe μ k t (mF μ k (mJ μ 9 u)) (mRk μ k u)))) ∧ _ = G' := h
                  refine x_goto C 212 d_MD_start_193 (by decide) ?_
                  refine x_istore C d_MD_start_212 (Nat.le_of_ble_eq_true rfl) rfl ?_
                  refine x_iload C d_MD_start_214 rfl ?_
                  refine x_if_eq C 224 d_MD_start_216 (by decide) (fun c_216 => ?_) (fun c_216 => ?_)
                  · refine x_iload C d_MD_start_224 rfl ?_
                    refine x_istore C d_MD_start_226 (Nat.le_of_ble_eq_true rfl) rfl ?_
                    refine x_iinc C d_MD_start_228 rfl rfl rfl ?_
                    refine x_goto C 93 d_MD_start_231 (by decide) ?_
                    rw [show nI t + Int32.ofInt 1 = nI (t + 1) from nI_1 t]
                    have hcnd : True := trivial
                    exact ih (t + 1) (some u) _ _ _ (by omega) hb2 (mFold_st hi2 (mStep_ke (show mStc μ k op kk b t = true from by unfold mStc; rw [bI_1 c_108, (show mHo op (prtI (mI μ 2 k) b (mF μ k (mJ μ 9 t))) kk = true from bI_1 c_142)]; rfl) (show mBet μ k op t u = false from by unfold mBet; rw [if_pos (Int32.not_le.mp c_174)]; exact (bI_0 _).mp c_216)))
                  · refine x_iload C d_MD_start_219 rfl ?_
                    refine x_goto C 226 d_MD_start_221 (by decide) ?_
                    refine x_istore C d_MD_start_226 (Nat.le_of_ble_eq_true rfl) rfl ?_
                    refine x_iinc C d_MD_start_228 rfl rfl rfl ?_
                    refine x_goto C 93 d_MD_start_231 (by decide) ?_
                    rw [show nI t + Int32.ofInt 1 = nI (t + 1) from nI_1 t]
                    have hcnd : True := trivial
                    exact ih (t + 1) (some t) _ _ _ (by omega) (fun _ z => by cases z; omega) (mFold_st hi2 (mStep_up (show mStc μ k op kk b t = true from by unfold mStc; rw [bI_1 c_108, (show mHo op (prtI (mI μ 2 k) b (mF μ k (mJ μ 9 t))) kk = true from bI_1 c_142)]; rfl) (show mBet μ k op t u = true from by unfold mBet; rw [if_pos (Int32.not_le.mp c_174)]; exact bI_1 c_216)))
              · exact absurd c_151 (nI_m1 (by omega))
          · refine x_goto C 228 d_MD_start_145 (by decide) ?_
            refine x_iinc C d_MD_start_228 rfl rfl rfl ?_
            refine x_goto C 93 d_MD_start_231 (by decide) ?_
            rw [show nI t + Int32.ofInt 1 = nI (t + 1) from nI_1 t]
            have hcnd : True := trivial
            exact ih (t + 1) fo _ _ _ (by omega) hb2 (mFold_st hi2 (mStep_no (show mStc μ k op kk b t = false from by unfold mStc; rw [(show mHo op (prtI (mI μ 2 k) b (mF μ k (mJ μ 9 t))) kk = false from (bI_0 _).mp c_142), Bool.and_false])))
  refine x_aload_n C d_MD_start_0 rfl rfl ?_
  refine x_iconst C (v := 0) d_MD_start_1 (by decide) ?_
  refine x_mSp C hM 0 (by decide) (x := 0) f_MD_72 rfl rfl rfl d_MD_start_2 (fun _ hMg1 hFg1 => ?_)
  refine x_aload_n C d_MD_start_5 rfl rfl ?_
  refine x_iload_n C d_MD_start_6 rfl rfl ?_
  refine x_callV1 C (q_MD_isView l E hMg1) (lk_MD_92 C.hts (Nat.le_of_ble_eq_true rfl) (Nat.le_of_ble_eq_true rfl)) hMg1.1 rfl rfl d_MD_start_7 (Nat.le_of_ble_eq_true rfl) (Nat.le_of_ble_eq_true rfl) (Nat.le_of_ble_eq_true rfl) (fun r G' h => ?_)
  obtain ⟨rfl, rfl⟩ : r = some (.int (bI (mVw μ (nI i)))) ∧ _ = G' := h
  refine x_if_eq C 47 d_MD_start_10 (by decide) (fun c_10 => ?_) (fun c_10 => ?_)
  · exact absurd (hv.symm.trans ((bI_0 _).mp c_10)) (by decide)
  · refine x_aload_n C d_MD_start_13 rfl rfl ?_
    refine x_iload_n C d_MD_start_14 rfl rfl ?_
    refine x_callV1 C (q_MD_isKey l E hMg1) (lk_MD_88 C.hts (Nat.le_of_ble_eq_true rfl) (Nat.le_of_ble_eq_true rfl)) hMg1.1 rfl rfl d_MD_start_15 (Nat.le_of_ble_eq_true rfl) (Nat.le_of_ble_eq_true rfl) (Nat.le_of_ble_eq_true rfl) (fun r G' h => ?_)
    obtain ⟨rfl, rfl⟩ : r = some (.int (bI (mKy μ (nI k)))) ∧ _ = G' := h
    refine x_if_eq C 47 d_MD_start_18 (by decide) (fun c_18 => ?_) (fun c_18 => ?_)
    · exact absurd (hkv.symm.trans ((bI_0 _).mp c_18)) (by decide)
    · refine x_iload_n C d_MD_start_21 rfl rfl ?_
      refine x_if_lt C 47 d_MD_start_22 (by decide) (fun c_22 => ?_) (fun c_22 => ?_)
      · exfalso
        clear C hnm hM
        simp_all
      · refine x_iload_n C d_MD_start_25 rfl rfl ?_
        refine x_iconst C (v := 4) d_MD_start_26 (by decide) ?_
        refine x_icmp_gt C 47 d_MD_start_27 (by decide) (fun c_27 => ?_) (fun c_27 => ?_)
        · exfalso
          clear C hnm hM
          simp_all
        · refine x_iload C d_MD_start_30 rfl ?_
          refine x_iconst C (v := 1) d_MD_start_32 (by decide) ?_
          refine x_icmp_lt C 47 d_MD_start_33 (by decide) (fun c_33 => ?_) (fun c_33 => ?_)
          · exfalso
            clear C hnm hM
            simp_all
          · refine x_iload C d_MD_start_36 rfl ?_
            refine x_aload_n C d_MD_start_38 rfl rfl ?_
            refine x_get C hMg1.1 rfl (in_MD _) 2 (by decide) (List.mem_cons_of_mem _ f_MD_13) rfl d_MD_start_39 ?_
            refine x_iload_n C d_MD_start_42 rfl rfl ?_
            refine x_mIv C hMg1 2 6 kI_2 rfl (j := k) (by omega) (mI μ 2 k) rfl d_MD_start_43 ?_
            refine x_icmp_le C 49 d_MD_start_44 (by decide) (fun c_44 => ?_) (fun c_44 => ?_)
            · refine x_aload_n C d_MD_start_49 rfl rfl ?_
              refine x_get C hMg1.1 rfl (in_MD _) 24 (by decide) (List.mem_cons_of_mem _ f_MD_63) rfl d_MD_start_50 ?_
              refine x_iload_n C d_MD_start_53 rfl rfl ?_
              refine x_mZv C hMg1 24 5 kZ_24 rfl (j := i) (by omega) (mZ μ 24 i) rfl d_MD_start_54 ?_
              refine x_if_ne C 61 d_MD_start_55 (by decide) (fun c_55 => ?_) (fun c_55 => ?_)
              · refine x_aload_n C d_MD_start_61 rfl rfl ?_
                refine x_iload_n C d_MD_start_62 rfl rfl ?_
                refine x_callV1 C (q_MD_reads l E hMg1 (i := i) (by omega)) (lk_MD_165 C.hts (Nat.le_of_ble_eq_true rfl) (Nat.le_of_ble_eq_true rfl)) hMg1.1 rfl rfl d_MD_start_63 (Nat.le_of_ble_eq_true rfl) (Nat.le_of_ble_eq_true rfl) (Nat.le_of_ble_eq_true rfl) (fun r G' h => ?_)
                obtain ⟨rfl, rfl⟩ : r = some (.int (bI (mRd μ i))) ∧ _ = G' := h
                refine x_if_eq C 79 d_MD_start_66 (by decide) (fun c_66 => ?_) (fun c_66 => ?_)
                · exfalso
                  clear C hnm hM hb
                  simp_all [refRead, mRd, bI_0]
                · refine x_aload_n C d_MD_start_69 rfl rfl ?_
                  refine x_get C hMg1.1 rfl (in_MD _) 16 (by decide) (List.mem_cons_of_mem _ f_MD_39) rfl d_MD_start_70 ?_
                  refine x_iload_n C d_MD_start_73 rfl rfl ?_
                  refine x_mIv C hMg1 16 5 kI_16 rfl (j := i) (by omega) (mI μ 16 i) rfl d_MD_start_74 ?_
                  refine x_iconst C (v := 1) d_MD_start_75 (by decide) ?_
                  refine x_icmp_ne C 82 d_MD_start_76 (by decide) (fun c_76 => ?_) (fun c_76 => ?_)
                  · refine x_aload_n C d_MD_start_82 rfl rfl ?_
                    refine x_iload_n C d_MD_start_83 rfl rfl ?_
                    refine x_callV1 C (q_MD_forget l E hMg1 (i := i) (by omega)) (lk_MD_150 C.hts (Nat.le_of_ble_eq_true rfl) (Nat.le_of_ble_eq_true rfl)) hMg1.1 rfl rfl d_MD_start_84 (Nat.le_of_ble_eq_true rfl) (Nat.le_of_ble_eq_true rfl) (Nat.le_of_ble_eq_true rfl) (fun r G' h => ?_)
                    obtain ⟨rfl, hMg2, hFg2⟩ : r = none ∧ xMD E G' md a (mFg (sS μ 0 (0)) i) ∧ xFc _ G' := h
                    refine x_iconst C (v := -1) d_MD_start_87 (by decide) ?_
                    refine x_istore C d_MD_start_88 (Nat.le_of_ble_eq_true rfl) rfl ?_
                    refine x_iconst C (v := 0) d_MD_start_90 (by decide) ?_
                    refine x_istore C d_MD_start_91 (Nat.le_of_ble_eq_true rfl) rfl ?_
                    rw [← nI_0]
                    exact loop _ hMg2 (hFg1.tr hFg2) 300 0 none _ _ _ (by omega) (fun _ z => by cases z) rfl
                  · exfalso
                    clear C hnm hM hb
                    simp_all [refRead, mRd, bI_0]
              · exfalso
                clear C hnm hM hb
                simp_all [refRead, mRd, bI_0]
            · exfalso
              clear C hnm hM
              simp_all
set_option maxRecDepth 4000 in
set_option maxHeartbeats 800000 in
theorem q_MD_rewrite_nv (l : Launch) (E : xE) {G : xw_G} {md : Nat} {a : Nat → Nat} {μ : MS} (hM : xMD E G md a μ) {j : Int32} (hj : mVw μ j = false) {x : Int64} : XMk l E y_MD_rewrite w_MD_rewrite rm_MD_rewrite [.ref md, .int (j), .long (x)] G (fun r G' => r = some (.int (-1)) ∧ xMD E G' md a (sS μ 0 0) ∧ xFc G G') 0 0 := by
  refine XM_of [some (.ref md), some (.int (j)), some (.long (x)), none, none, none] (XZ_st E) (by decide) rfl rfl rfl (Nat.le_of_ble_eq_true rfl) (fun p e s m below meth c C hnm => ?_)
  refine x_aload_n C d_MD_rewrite_0 rfl rfl ?_
  refine x_iconst C (v := 0) d_MD_rewrite_1 (by decide) ?_
  refine x_mSp C hM 0 (by decide) (x := 0) f_MD_72 rfl rfl rfl d_MD_rewrite_2 (fun _ hMg1 hFg1 => ?_)
  refine x_aload_n C d_MD_rewrite_5 rfl rfl ?_
  refine x_iload_n C d_MD_rewrite_6 rfl rfl ?_
  refine x_callV1 C (q_MD_isView l E hMg1) (lk_MD_92 C.hts (Nat.le_of_ble_eq_true rfl) (Nat.le_of_ble_eq_true rfl)) hMg1.1 rfl rfl d_MD_rewrite_7 (Nat.le_of_ble_eq_true rfl) (Nat.le_of_ble_eq_true rfl) (Nat.le_of_ble_eq_true rfl) (fun r G' h => ?_)
  obtain ⟨rfl, rfl⟩ : r = some (.int (bI (mVw μ (j)))) ∧ _ = G' := h
  refine x_if_ne C 15 d_MD_rewrite_10 (by decide) (fun c_10 => ?_) (fun c_10 => ?_)
  · exact absurd (hj.symm.trans (bI_1 c_10)) (by decide)
  · refine x_iconst C (v := -1) d_MD_rewrite_13 (by decide) ?_
    exact x_iret C (Nat.le_of_ble_eq_true rfl) (Nat.le_of_ble_eq_true rfl) d_MD_rewrite_14 ⟨rfl, hMg1, hFg1⟩
set_option maxRecDepth 4000 in
set_option maxHeartbeats 800000 in
theorem q_MD_rewrite_ref (l : Launch) (E : xE) {G : xw_G} {md : Nat} {a : Nat → Nat} {μ : MS} (hM : xMD E G md a μ) {i : Nat} (hi : i < 5) (hv : mVw μ (nI i) = true) {x : Int64} (hr : ¬ refChange (mZ μ 24 i) (mI μ 15 i) = 0) : XMk l E y_MD_rewrite w_MD_rewrite rm_MD_rewrite [.ref md, .int (nI i), .long (x)] G (fun r G' => r = some (.int (refChange (mZ μ 24 i) (mI μ 15 i))) ∧ xMD E G' md a (sS μ 0 0) ∧ xFc G G') 0 0 := by
  refine XM_of [some (.ref md), some (.int (nI i)), some (.long (x)), none, none, none] (XZ_st E) (by decide) rfl rfl rfl (Nat.le_of_ble_eq_true rfl) (fun p e s m below meth c C hnm => ?_)
  refine x_aload_n C d_MD_rewrite_0 rfl rfl ?_
  refine x_iconst C (v := 0) d_MD_rewrite_1 (by decide) ?_
  refine x_mSp C hM 0 (by decide) (x := 0) f_MD_72 rfl rfl rfl d_MD_rewrite_2 (fun _ hMg1 hFg1 => ?_)
  refine x_aload_n C d_MD_rewrite_5 rfl rfl ?_
  refine x_iload_n C d_MD_rewrite_6 rfl rfl ?_
  refine x_callV1 C (q_MD_isView l E hMg1) (lk_MD_92 C.hts (Nat.le_of_ble_eq_true rfl) (Nat.le_of_ble_eq_true rfl)) hMg1.1 rfl rfl d_MD_rewrite_7 (Nat.le_of_ble_eq_true rfl) (Nat.le_of_ble_eq_true rfl) (Nat.le_of_ble_eq_true rfl) (fun r G' h => ?_)
  obtain ⟨rfl, rfl⟩ : r = some (.int (bI (mVw μ (nI i)))) ∧ _ = G' := h
  refine x_if_ne C 15 d_MD_rewrite_10 (by decide) (fun c_10 => ?_) (fun c_10 => ?_)
  · refine x_aload_n C d_MD_rewrite_15 rfl rfl ?_
    refine x_get C hMg1.1 rfl (in_MD _) 24 (by decide) (List.mem_cons_of_mem _ f_MD_63) rfl d_MD_rewrite_16 ?_
    refine x_iload_n C d_MD_rewrite_19 rfl rfl ?_
    refine x_mZv C hMg1 24 5 kZ_24 rfl (j := i) (by omega) (mZ μ 24 i) rfl d_MD_rewrite_20 ?_
    refine x_if_ne C 27 d_MD_rewrite_21 (by decide) (fun c_21 => ?_) (fun c_21 => ?_)
    · refine x_aload_n C d_MD_rewrite_27 rfl rfl ?_
      refine x_get C hMg1.1 rfl (in_MD _) 15 (by decide) (List.mem_cons_of_mem _ f_MD_36) rfl d_MD_rewrite_28 ?_
      refine x_iload_n C d_MD_rewrite_31 rfl rfl ?_
      refine x_mIv C hMg1 15 5 kI_15 rfl (j := i) (by omega) (mI μ 15 i) rfl d_MD_rewrite_32 ?_
      refine x_iconst C (v := 2) d_MD_rewrite_33 (by decide) ?_
      refine x_icmp_eq C 40 d_MD_rewrite_34 (by decide) (fun c_34 => ?_) (fun c_34 => ?_)
      · exfalso
        clear C hnm hM
        simp_all [refChange, bI_0]
      · refine x_bipush C (v := 49) d_MD_rewrite_37 (by decide) ?_
        exact x_iret C (Nat.le_of_ble_eq_true rfl) (Nat.le_of_ble_eq_true rfl) d_MD_rewrite_39 ⟨congrArg some (congrArg Value.int (by clear C hnm hM; simp_all [refChange, bI_0])), hMg1, hFg1⟩
    · refine x_bipush C (v := 42) d_MD_rewrite_24 (by decide) ?_
      exact x_iret C (Nat.le_of_ble_eq_true rfl) (Nat.le_of_ble_eq_true rfl) d_MD_rewrite_26 ⟨congrArg some (congrArg Value.int (by clear C hnm hM; simp_all [refChange, bI_0])), hMg1, hFg1⟩
  · exact absurd (hv.symm.trans ((bI_0 _).mp c_10)) (by decide)
set_option maxRecDepth 4000 in
set_option maxHeartbeats 800000 in
theorem q_MD_rewrite_none (l : Launch) (E : xE) {G : xw_G} {md : Nat} {a : Nat → Nat} {μ : MS} (hM : xMD E G md a μ) {i : Nat} (hi : i < 5) (hv : mVw μ (nI i) = true) {x : Int64} (hr : refChange (mZ μ 24 i) (mI μ 15 i) = 0) (ho : mTg μ i (mF μ 0 x) = none) : XMk l E y_MD_rewrite w_MD_rewrite rm_MD_rewrite [.ref md, .int (nI i), .long (x)] G (fun r G' => r = some (.int (if mI μ 16 i = 0 then 43 else 23)) ∧ xMD E G' md a ((mFg (sS μ 0 0) i)) ∧ xFc G G') 0 0 := by
  refine XM_of [some (.ref md), some (.int (nI i)), some (.long (x)), none, none, none] (XZ_st E) (by decide) rfl rfl rfl (Nat.le_of_ble_eq_true rfl) (fun p e s m below meth c C hnm => ?_)
  refine x_aload_n C d_MD_rewrite_0 rfl rfl ?_
  refine x_iconst C (v := 0) d_MD_rewrite_1 (by decide) ?_
  refine x_mSp C hM 0 (by decide) (x := 0) f_MD_72 rfl rfl rfl d_MD_rewrite_2 (fun _ hMg1 hFg1 => ?_)
  refine x_aload_n C d_MD_rewrite_5 rfl rfl ?_
  refine x_iload_n C d_MD_rewrite_6 rfl rfl ?_
  refine x_callV1 C (q_MD_isView l E hMg1) (lk_MD_92 C.hts (Nat.le_of_ble_eq_true rfl) (Nat.le_of_ble_eq_true rfl)) hMg1.1 rfl rfl d_MD_rewrite_7 (Nat.le_of_ble_eq_true rfl) (Nat.le_of_ble_eq_true rfl) (Nat.le_of_ble_eq_true rfl) (fun r G' h => ?_)
  obtain ⟨rfl, rfl⟩ : r = some (.int (bI (mVw μ (nI i)))) ∧ _ = G' := h
  refine x_if_ne C 15 d_MD_rewrite_10 (by decide) (fun c_10 => ?_) (fun c_10 => ?_)
  · refine x_aload_n C d_MD_rewrite_15 rfl rfl ?_
    refine x_get C hMg1.1 rfl (in_MD _) 24 (by decide) (List.mem_cons_of_mem _ f_MD_63) rfl d_MD_rewrite_16 ?_
    refine x_iload_n C d_MD_rewrite_19 rfl rfl ?_
    refine x_mZv C hMg1 24 5 kZ_24 rfl (j := i) (by omega) (mZ μ 24 i) rfl d_MD_rewrite_20 ?_
    refine x_if_ne C 27 d_MD_rewrite_21 (by decide) (fun c_21 => ?_) (fun c_21 => ?_)
    · refine x_aload_n C d_MD_rewrite_27 rfl rfl ?_
      refine x_get C hMg1.1 rfl (in_MD _) 15 (by decide) (List.mem_cons_of_mem _ f_MD_36) rfl d_MD_rewrite_28 ?_
      refine x_iload_n C d_MD_rewrite_31 rfl rfl ?_
      refine x_mIv C hMg1 15 5 kI_15 rfl (j := i) (by omega) (mI μ 15 i) rfl d_MD_rewrite_32 ?_
      refine x_iconst C (v := 2) d_MD_rewrite_33 (by decide) ?_
      refine x_icmp_eq C 40 d_MD_rewrite_34 (by decide) (fun c_34 => ?_) (fun c_34 => ?_)
      · refine x_aload_n C d_MD_rewrite_40 rfl rfl ?_
        refine x_iload_n C d_MD_rewrite_41 rfl rfl ?_
        refine x_callV1 C (q_MD_forget l E hMg1 (i := i) (by omega)) (lk_MD_150 C.hts (Nat.le_of_ble_eq_true rfl) (Nat.le_of_ble_eq_true rfl)) hMg1.1 rfl rfl d_MD_rewrite_42 (Nat.le_of_ble_eq_true rfl) (Nat.le_of_ble_eq_true rfl) (Nat.le_of_ble_eq_true rfl) (fun r G' h => ?_)
        obtain ⟨rfl, hMg2, hFg2⟩ : r = none ∧ xMD E G' md a (mFg (sS μ 0 (0)) i) ∧ xFc _ G' := h
        refine x_aload_n C d_MD_rewrite_45 rfl rfl ?_
        refine x_get C hMg2.1 rfl (in_MD _) 16 (by decide) (List.mem_cons_of_mem _ f_MD_39) rfl d_MD_rewrite_46 ?_
        refine x_iload_n C d_MD_rewrite_49 rfl rfl ?_
        refine x_mIv C hMg2 16 5 kI_16 rfl (j := i) (by omega) (mI μ 16 i) rfl d_MD_rewrite_50 ?_
        refine x_if_ne C 61 d_MD_rewrite_51 (by decide) (fun c_51 => ?_) (fun c_51 => ?_)
        · refine x_aload_n C d_MD_rewrite_61 rfl rfl ?_
          refine x_aload_n C d_MD_rewrite_62 rfl rfl ?_
          refine x_iconst C (v := 0) d_MD_rewrite_63 (by decide) ?_
          refine x_lload_n C d_MD_rewrite_64 rfl rfl ?_
          refine x_callV2 C (q_MD_field l E hMg2 (k := 0) (by omega)) (lk_MD_98 C.hts (Nat.le_of_ble_eq_true rfl) (Nat.le_of_ble_eq_true rfl)) hMg2.1 rfl rfl d_MD_rewrite_65 (Nat.le_of_ble_eq_true rfl) (Nat.le_of_ble_eq_true rfl) (Nat.le_of_ble_eq_true rfl) (fun r G' h => ?_)
          obtain ⟨rfl, rfl⟩ : r = some (.long (mF μ 0 (x))) ∧ _ = G' := h
          refine x_callV1 C (q_MD_byPrime l E hMg2) (lk_MD_180 C.hts (Nat.le_of_ble_eq_true rfl) (Nat.le_of_ble_eq_true rfl)) hMg2.1 rfl rfl d_MD_rewrite_68 (Nat.le_of_ble_eq_true rfl) (Nat.le_of_ble_eq_true rfl) (Nat.le_of_ble_eq_true rfl) (fun r G' h => ?_)
          obtain ⟨rfl, rfl⟩ : r = some (.int (oI (mEq μ 0 (mF μ 0 (x)) none))) ∧ _ = G' := h
          refine x_istore C d_MD_rewrite_71 (Nat.le_of_ble_eq_true rfl) rfl ?_
          have e9 : mEq μ 0 (mF μ 0 (x)) none = none := by have h9 := ho; unfold mTg at h9; rw [if_neg c_51] at h9; exact h9
          rw [e9]
          refine x_iload C d_MD_rewrite_73 rfl ?_
          refine x_iconst C (v := -1) d_MD_rewrite_75 (by decide) ?_
          refine x_icmp_ne C 96 d_MD_rewrite_76 (by decide) (fun c_76 => ?_) (fun c_76 => ?_)
          · exact absurd c_76 (by decide)
          · refine x_aload_n C d_MD_rewrite_79 rfl rfl ?_
            refine x_get C hMg2.1 rfl (in_MD _) 16 (by decide) (List.mem_cons_of_mem _ f_MD_39) rfl d_MD_rewrite_80 ?_
            refine x_iload_n C d_MD_rewrite_83 rfl rfl ?_
            refine x_mIv C hMg2 16 5 kI_16 rfl (j := i) (by omega) (mI μ 16 i) rfl d_MD_rewrite_84 ?_
            refine x_if_ne C 93 d_MD_rewrite_85 (by decide) (fun c_85 => ?_) (fun c_85 => ?_)
            · refine x_bipush C (v := 23) d_MD_rewrite_93 (by decide) ?_
              exact x_iret C (Nat.le_of_ble_eq_true rfl) (Nat.le_of_ble_eq_true rfl) d_MD_rewrite_95 ⟨congrArg some (congrArg Value.int (by simp_all)), hMg2, hFg1.tr hFg2⟩
            · refine x_bipush C (v := 43) d_MD_rewrite_88 (by decide) ?_
              refine x_goto C 95 d_MD_rewrite_90 (by decide) ?_
              exact x_iret C (Nat.le_of_ble_eq_true rfl) (Nat.le_of_ble_eq_true rfl) d_MD_rewrite_95 ⟨congrArg some (congrArg Value.int (by simp_all)), hMg2, hFg1.tr hFg2⟩
        · refine x_aload_n C d_MD_rewrite_54 rfl rfl ?_
          refine x_callV0 C (q_MD_had l E hMg2) (lk_MD_176 C.hts (Nat.le_of_ble_eq_true rfl) (Nat.le_of_ble_eq_true rfl)) hMg2.1 rfl rfl d_MD_rewrite_55 (Nat.le_of_ble_eq_true rfl) (Nat.le_of_ble_eq_true rfl) (Nat.le_of_ble_eq_true rfl) (fun r G' h => ?_)
          obtain ⟨rfl, rfl⟩ : r = some (.int (oI (mHad (mFg (sS μ 0 (0)) i)))) ∧ _ = G' := h
          refine x_goto C 71 d_MD_rewrite_58 (by decide) ?_
          refine x_istore C d_MD_rewrite_71 (Nat.le_of_ble_eq_true rfl) rfl ?_
          have e9 : mHad (mFg (sS μ 0 (0)) i) = none := by have h9 := ho; unfold mTg at h9; rw [if_pos c_51] at h9; exact h9
          rw [e9]
          refine x_iload C d_MD_rewrite_73 rfl ?_
          refine x_iconst C (v := -1) d_MD_rewrite_75 (by decide) ?_
          refine x_icmp_ne C 96 d_MD_rewrite_76 (by decide) (fun c_76 => ?_) (fun c_76 => ?_)
          · exact absurd c_76 (by decide)
          · refine x_aload_n C d_MD_rewrite_79 rfl rfl ?_
            refine x_get C hMg2.1 rfl (in_MD _) 16 (by decide) (List.mem_cons_of_mem _ f_MD_39) rfl d_MD_rewrite_80 ?_
            refine x_iload_n C d_MD_rewrite_83 rfl rfl ?_
            refine x_mIv C hMg2 16 5 kI_16 rfl (j := i) (by omega) (mI μ 16 i) rfl d_MD_rewrite_84 ?_
            refine x_if_ne C 93 d_MD_rewrite_85 (by decide) (fun c_85 => ?_) (fun c_85 => ?_)
            · refine x_bipush C (v := 23) d_MD_rewrite_93 (by decide) ?_
              exact x_iret C (Nat.le_of_ble_eq_true rfl) (Nat.le_of_ble_eq_true rfl) d_MD_rewrite_95 ⟨congrArg some (congrArg Value.int (by simp_all)), hMg2, hFg1.tr hFg2⟩
            · refine x_bipush C (v := 43) d_MD_rewrite_88 (by decide) ?_
              refine x_goto C 95 d_MD_rewrite_90 (by decide) ?_
              exact x_iret C (Nat.le_of_ble_eq_true rfl) (Nat.le_of_ble_eq_true rfl) d_MD_rewrite_95 ⟨congrArg some (congrArg Value.int (by simp_all)), hMg2, hFg1.tr hFg2⟩
      · exfalso
        clear C hnm hM
        simp_all [refChange, bI_0]
    · exfalso
      clear C hnm hM
      simp_all [refChange, bI_0]
  · exact absurd (hv.symm.trans ((bI_0 _).mp c_10)) (by decide)
set_option maxRecDepth 4000 in
set_option maxHeartbeats 800000 in
theorem q_MD_rewrite_21 (l : Launch) (E : xE) {G : xw_G} {md : Nat} {a : Nat → Nat} {μ : MS} (hM : xMD E G md a μ) {i : Nat} (hi : i < 5) (hv : mVw μ (nI i) = true) {x : Int64} (hr : refChange (mZ μ 24 i) (mI μ 15 i) = 0) {q : Nat} (ho : mTg μ i (mF μ 0 x) = some q) (hf : ¬ mF μ 0 (mJ μ 9 q) = mF μ 0 x) : XMk l E y_MD_rewrite w_MD_rewrite rm_MD_rewrite [.ref md, .int (nI i), .long (x)] G (fun r G' => r = some (.int (21)) ∧ xMD E G' md a ((mFg (sS μ 0 0) i)) ∧ xFc G G') 0 0 := by
  refine XM_of [some (.ref md), some (.int (nI i)), some (.long (x)), none, none, none] (XZ_st E) (by decide) rfl rfl rfl (Nat.le_of_ble_eq_true rfl) (fun p e s m below meth c C hnm => ?_)
  have hq3 := mTg_lt ho
  refine x_aload_n C d_MD_rewrite_0 rfl rfl ?_
  refine x_iconst C (v := 0) d_MD_rewrite_1 (by decide) ?_
  refine x_mSp C hM 0 (by decide) (x := 0) f_MD_72 rfl rfl rfl d_MD_rewrite_2 (fun _ hMg1 hFg1 => ?_)
  refine x_aload_n C d_MD_rewrite_5 rfl rfl ?_
  refine x_iload_n C d_MD_rewrite_6 rfl rfl ?_
  refine x_callV1 C (q_MD_isView l E hMg1) (lk_MD_92 C.hts (Nat.le_of_ble_eq_true rfl) (Nat.le_of_ble_eq_true rfl)) hMg1.1 rfl rfl d_MD_rewrite_7 (Nat.le_of_ble_eq_true rfl) (Nat.le_of_ble_eq_true rfl) (Nat.le_of_ble_eq_true rfl) (fun r G' h => ?_)
  obtain ⟨rfl, rfl⟩ : r = some (.int (bI (mVw μ (nI i)))) ∧ _ = G' := h
  refine x_if_ne C 15 d_MD_rewrite_10 (by decide) (fun c_10 => ?_) (fun c_10 => ?_)
  · refine x_aload_n C d_MD_rewrite_15 rfl rfl ?_
    refine x_get C hMg1.1 rfl (in_MD _) 24 (by decide) (List.mem_cons_of_mem _ f_MD_63) rfl d_MD_rewrite_16 ?_
    refine x_iload_n C d_MD_rewrite_19 rfl rfl ?_
    refine x_mZv C hMg1 24 5 kZ_24 rfl (j := i) (by omega) (mZ μ 24 i) rfl d_MD_rewrite_20 ?_
    refine x_if_ne C 27 d_MD_rewrite_21 (by decide) (fun c_21 => ?_) (fun c_21 => ?_)
    · refine x_aload_n C d_MD_rewrite_27 rfl rfl ?_
      refine x_get C hMg1.1 rfl (in_MD _) 15 (by decide) (List.mem_cons_of_mem _ f_MD_36) rfl d_MD_rewrite_28 ?_
      refine x_iload_n C d_MD_rewrite_31 rfl rfl ?_
      refine x_mIv C hMg1 15 5 kI_15 rfl (j := i) (by omega) (mI μ 15 i) rfl d_MD_rewrite_32 ?_
      refine x_iconst C (v := 2) d_MD_rewrite_33 (by decide) ?_
      refine x_icmp_eq C 40 d_MD_rewrite_34 (by decide) (fun c_34 => ?_) (fun c_34 => ?_)
      · refine x_aload_n C d_MD_rewrite_40 rfl rfl ?_
        refine x_iload_n C d_MD_rewrite_41 rfl rfl ?_
        refine x_callV1 C (q_MD_forget l E hMg1 (i := i) (by omega)) (lk_MD_150 C.hts (Nat.le_of_ble_eq_true rfl) (Nat.le_of_ble_eq_true rfl)) hMg1.1 rfl rfl d_MD_rewrite_42 (Nat.le_of_ble_eq_true rfl) (Nat.le_of_ble_eq_true rfl) (Nat.le_of_ble_eq_true rfl) (fun r G' h => ?_)
        obtain ⟨rfl, hMg2, hFg2⟩ : r = none ∧ xMD E G' md a (mFg (sS μ 0 (0)) i) ∧ xFc _ G' := h
        refine x_aload_n C d_MD_rewrite_45 rfl rfl ?_
        refine x_get C hMg2.1 rfl (in_MD _) 16 (by decide) (List.mem_cons_of_mem _ f_MD_39) rfl d_MD_rewrite_46 ?_
        refine x_iload_n C d_MD_rewrite_49 rfl rfl ?_
        refine x_mIv C hMg2 16 5 kI_16 rfl (j := i) (by omega) (mI μ 16 i) rfl d_MD_rewrite_50 ?_
        refine x_if_ne C 61 d_MD_rewrite_51 (by decide) (fun c_51 => ?_) (fun c_51 => ?_)
        · refine x_aload_n C d_MD_rewrite_61 rfl rfl ?_
          refine x_aload_n C d_MD_rewrite_62 rfl rfl ?_
          refine x_iconst C (v := 0) d_MD_rewrite_63 (by decide) ?_
          refine x_lload_n C d_MD_rewrite_64 rfl rfl ?_
          refine x_callV2 C (q_MD_field l E hMg2 (k := 0) (by omega)) (lk_MD_98 C.hts (Nat.le_of_ble_eq_true rfl) (Nat.le_of_ble_eq_true rfl)) hMg2.1 rfl rfl d_MD_rewrite_65 (Nat.le_of_ble_eq_true rfl) (Nat.le_of_ble_eq_true rfl) (Nat.le_of_ble_eq_true rfl) (fun r G' h => ?_)
          obtain ⟨rfl, rfl⟩ : r = some (.long (mF μ 0 (x))) ∧ _ = G' := h
          refine x_callV1 C (q_MD_byPrime l E hMg2) (lk_MD_180 C.hts (Nat.le_of_ble_eq_true rfl) (Nat.le_of_ble_eq_true rfl)) hMg2.1 rfl rfl d_MD_rewrite_68 (Nat.le_of_ble_eq_true rfl) (Nat.le_of_ble_eq_true rfl) (Nat.le_of_ble_eq_true rfl) (fun r G' h => ?_)
          obtain ⟨rfl, rfl⟩ : r = some (.int (oI (mEq μ 0 (mF μ 0 (x)) none))) ∧ _ = G' := h
          refine x_istore C d_MD_rewrite_71 (Nat.le_of_ble_eq_true rfl) rfl ?_
          have e9 : mEq μ 0 (mF μ 0 (x)) none = some q := by have h9 := ho; unfold mTg at h9; rw [if_neg c_51] at h9; exact h9
          rw [e9]
          refine x_iload C d_MD_rewrite_73 rfl ?_
          refine x_iconst C (v := -1) d_MD_rewrite_75 (by decide) ?_
          refine x_icmp_ne C 96 d_MD_rewrite_76 (by decide) (fun c_76 => ?_) (fun c_76 => ?_)
          · refine x_aload_n C d_MD_rewrite_96 rfl rfl ?_
            refine x_iconst C (v := 0) d_MD_rewrite_97 (by decide) ?_
            refine x_aload_n C d_MD_rewrite_98 rfl rfl ?_
            refine x_get C hMg2.1 rfl (in_MD _) 9 (by decide) (List.mem_cons_of_mem _ f_MD_27) rfl d_MD_rewrite_99 ?_
            refine x_iload C d_MD_rewrite_102 rfl ?_
            refine x_mJv C hMg2 9 300 kJ_9 rfl (j := q) (by omega) (mJ μ 9 q) rfl d_MD_rewrite_104 ?_
            refine x_callV2 C (q_MD_field l E hMg2 (k := 0) (by omega)) (lk_MD_98 C.hts (Nat.le_of_ble_eq_true rfl) (Nat.le_of_ble_eq_true rfl)) hMg2.1 rfl rfl d_MD_rewrite_105 (Nat.le_of_ble_eq_true rfl) (Nat.le_of_ble_eq_true rfl) (Nat.le_of_ble_eq_true rfl) (fun r G' h => ?_)
            obtain ⟨rfl, rfl⟩ : r = some (.long (mF μ 0 (mJ μ 9 q))) ∧ _ = G' := h
            refine x_aload_n C d_MD_rewrite_108 rfl rfl ?_
            refine x_iconst C (v := 0) d_MD_rewrite_109 (by decide) ?_
            refine x_lload_n C d_MD_rewrite_110 rfl rfl ?_
            refine x_callV2 C (q_MD_field l E hMg2 (k := 0) (by omega)) (lk_MD_98 C.hts (Nat.le_of_ble_eq_true rfl) (Nat.le_of_ble_eq_true rfl)) hMg2.1 rfl rfl d_MD_rewrite_111 (Nat.le_of_ble_eq_true rfl) (Nat.le_of_ble_eq_true rfl) (Nat.le_of_ble_eq_true rfl) (fun r G' h => ?_)
            obtain ⟨rfl, rfl⟩ : r = some (.long (mF μ 0 (x))) ∧ _ = G' := h
            refine x_lcmp C d_MD_rewrite_114 ?_
            refine x_if_eq C 121 d_MD_rewrite_115 (by decide) (fun c_115 => ?_) (fun c_115 => ?_)
            · exact absurd ((lg_eq _ _).mp c_115) hf
            · refine x_bipush C (v := 21) d_MD_rewrite_118 (by decide) ?_
              exact x_iret C (Nat.le_of_ble_eq_true rfl) (Nat.le_of_ble_eq_true rfl) d_MD_rewrite_120 ⟨rfl, hMg2, hFg1.tr hFg2⟩
          · exact absurd c_76 (nI_m1 (by omega))
        · refine x_aload_n C d_MD_rewrite_54 rfl rfl ?_
          refine x_callV0 C (q_MD_had l E hMg2) (lk_MD_176 C.hts (Nat.le_of_ble_eq_true rfl) (Nat.le_of_ble_eq_true rfl)) hMg2.1 rfl rfl d_MD_rewrite_55 (Nat.le_of_ble_eq_true rfl) (Nat.le_of_ble_eq_true rfl) (Nat.le_of_ble_eq_true rfl) (fun r G' h => ?_)
          obtain ⟨rfl, rfl⟩ : r = some (.int (oI (mHad (mFg (sS μ 0 (0)) i)))) ∧ _ = G' := h
          refine x_goto C 71 d_MD_rewrite_58 (by decide) ?_
          refine x_istore C d_MD_rewrite_71 (Nat.le_of_ble_eq_true rfl) rfl ?_
          have e9 : mHad (mFg (sS μ 0 (0)) i) = some q := by have h9 := ho; unfold mTg at h9; rw [if_pos c_51] at h9; exact h9
          rw [e9]
          refine x_iload C d_MD_rewrite_73 rfl ?_
          refine x_iconst C (v := -1) d_MD_rewrite_75 (by decide) ?_
          refine x_icmp_ne C 96 d_MD_rewrite_76 (by decide) (fun c_76 => ?_) (fun c_76 => ?_)
          · refine x_aload_n C d_MD_rewrite_96 rfl rfl ?_
            refine x_iconst C (v := 0) d_MD_rewrite_97 (by decide) ?_
            refine x_aload_n C d_MD_rewrite_98 rfl rfl ?_
            refine x_get C hMg2.1 rfl (in_MD _) 9 (by decide) (List.mem_cons_of_mem _ f_MD_27) rfl d_MD_rewrite_99 ?_
            refine x_iload C d_MD_rewrite_102 rfl ?_
            refine x_mJv C hMg2 9 300 kJ_9 rfl (j := q) (by omega) (mJ μ 9 q) rfl d_MD_rewrite_104 ?_
            refine x_callV2 C (q_MD_field l E hMg2 (k := 0) (by omega)) (lk_MD_98 C.hts (Nat.le_of_ble_eq_true rfl) (Nat.le_of_ble_eq_true rfl)) hMg2.1 rfl rfl d_MD_rewrite_105 (Nat.le_of_ble_eq_true rfl) (Nat.le_of_ble_eq_true rfl) (Nat.le_of_ble_eq_true rfl) (fun r G' h => ?_)
            obtain ⟨rfl, rfl⟩ : r = some (.long (mF μ 0 (mJ μ 9 q))) ∧ _ = G' := h
            refine x_aload_n C d_MD_rewrite_108 rfl rfl ?_
            refine x_iconst C (v := 0) d_MD_rewrite_109 (by decide) ?_
            refine x_lload_n C d_MD_rewrite_110 rfl rfl ?_
            refine x_callV2 C (q_MD_field l E hMg2 (k := 0) (by omega)) (lk_MD_98 C.hts (Nat.le_of_ble_eq_true rfl) (Nat.le_of_ble_eq_true rfl)) hMg2.1 rfl rfl d_MD_rewrite_111 (Nat.le_of_ble_eq_true rfl) (Nat.le_of_ble_eq_true rfl) (Nat.le_of_ble_eq_true rfl) (fun r G' h => ?_)
            obtain ⟨rfl, rfl⟩ : r = some (.long (mF μ 0 (x))) ∧ _ = G' := h
            refine x_lcmp C d_MD_rewrite_114 ?_
            refine x_if_eq C 121 d_MD_rewrite_115 (by decide) (fun c_115 => ?_) (fun c_115 => ?_)
            · exact absurd ((lg_eq _ _).mp c_115) hf
            · refine x_bipush C (v := 21) d_MD_rewrite_118 (by decide) ?_
              exact x_iret C (Nat.le_of_ble_eq_true rfl) (Nat.le_of_ble_eq_true rfl) d_MD_rewrite_120 ⟨rfl, hMg2, hFg1.tr hFg2⟩
          · exact absurd c_76 (nI_m1 (by omega))
      · exfalso
        clear C hnm hM
        simp_all [refChange, bI_0]
    · exfalso
      clear C hnm hM
      simp_all [refChange, bI_0]
  · exact absurd (hv.symm.trans ((bI_0 _).mp c_10)) (by decide)
set_option maxRecDepth 4000 in
set_option maxHeartbeats 800000 in
theorem q_MD_rewrite_22 (l : Launch) (E : xE) {G : xw_G} {md : Nat} {a : Nat → Nat} {μ : MS} (hM : xMD E G md a μ) {i : Nat} (hi : i < 5) (hv : mVw μ (nI i) = true) {x : Int64} (hr : refChange (mZ μ 24 i) (mI μ 15 i) = 0) {q : Nat} (ho : mTg μ i (mF μ 0 x) = some q) (hf : mF μ 0 (mJ μ 9 q) = mF μ 0 x) {K : Nat} (hK : mS μ 6 = nI K) (hK6 : K ≤ 6) (hw : mBar μ x (some q) K 0 0 = 22) : XMk l E y_MD_rewrite w_MD_rewrite rm_MD_rewrite [.ref md, .int (nI i), .long (x)] G (fun r G' => r = some (.int (22)) ∧ xMD E G' md a ((mFg (sS μ 0 0) i)) ∧ xFc G G') 0 0 := by
  refine XM_of [some (.ref md), some (.int (nI i)), some (.long (x)), none, none, none] (XZ_st E) (by decide) rfl rfl rfl (Nat.le_of_ble_eq_true rfl) (fun p e s m below meth c C hnm => ?_)
  have hq3 := mTg_lt ho
  refine x_aload_n C d_MD_rewrite_0 rfl rfl ?_
  refine x_iconst C (v := 0) d_MD_rewrite_1 (by decide) ?_
  refine x_mSp C hM 0 (by decide) (x := 0) f_MD_72 rfl rfl rfl d_MD_rewrite_2 (fun _ hMg1 hFg1 => ?_)
  refine x_aload_n C d_MD_rewrite_5 rfl rfl ?_
  refine x_iload_n C d_MD_rewrite_6 rfl rfl ?_
  refine x_callV1 C (q_MD_isView l E hMg1) (lk_MD_92 C.hts (Nat.le_of_ble_eq_true rfl) (Nat.le_of_ble_eq_true rfl)) hMg1.1 rfl rfl d_MD_rewrite_7 (Nat.le_of_ble_eq_true rfl) (Nat.le_of_ble_eq_true rfl) (Nat.le_of_ble_eq_true rfl) (fun r G' h => ?_)
  obtain ⟨rfl, rfl⟩ : r = some (.int (bI (mVw μ (nI i)))) ∧ _ = G' := h
  refine x_if_ne C 15 d_MD_rewrite_10 (by decide) (fun c_10 => ?_) (fun c_10 => ?_)
  · refine x_aload_n C d_MD_rewrite_15 rfl rfl ?_
    refine x_get C hMg1.1 rfl (in_MD _) 24 (by decide) (List.mem_cons_of_mem _ f_MD_63) rfl d_MD_rewrite_16 ?_
    refine x_iload_n C d_MD_rewrite_19 rfl rfl ?_
    refine x_mZv C hMg1 24 5 kZ_24 rfl (j := i) (by omega) (mZ μ 24 i) rfl d_MD_rewrite_20 ?_
    refine x_if_ne C 27 d_MD_rewrite_21 (by decide) (fun c_21 => ?_) (fun c_21 => ?_)
    · refine x_aload_n C d_MD_rewrite_27 rfl rfl ?_
      refine x_get C hMg1.1 rfl (in_MD _) 15 (by decide) (List.mem_cons_of_mem _ f_MD_36) rfl d_MD_rewrite_28 ?_
      refine x_iload_n C d_MD_rewrite_31 rfl rfl ?_
      refine x_mIv C hMg1 15 5 kI_15 rfl (j := i) (by omega) (mI μ 15 i) rfl d_MD_rewrite_32 ?_
      refine x_iconst C (v := 2) d_MD_rewrite_33 (by decide) ?_
      refine x_icmp_eq C 40 d_MD_rewrite_34 (by decide) (fun c_34 => ?_) (fun c_34 => ?_)
      · refine x_aload_n C d_MD_rewrite_40 rfl rfl ?_
        refine x_iload_n C d_MD_rewrite_41 rfl rfl ?_
        refine x_callV1 C (q_MD_forget l E hMg1 (i := i) (by omega)) (lk_MD_150 C.hts (Nat.le_of_ble_eq_true rfl) (Nat.le_of_ble_eq_true rfl)) hMg1.1 rfl rfl d_MD_rewrite_42 (Nat.le_of_ble_eq_true rfl) (Nat.le_of_ble_eq_true rfl) (Nat.le_of_ble_eq_true rfl) (fun r G' h => ?_)
        obtain ⟨rfl, hMg2, hFg2⟩ : r = none ∧ xMD E G' md a (mFg (sS μ 0 (0)) i) ∧ xFc _ G' := h
        refine x_aload_n C d_MD_rewrite_45 rfl rfl ?_
        refine x_get C hMg2.1 rfl (in_MD _) 16 (by decide) (List.mem_cons_of_mem _ f_MD_39) rfl d_MD_rewrite_46 ?_
        refine x_iload_n C d_MD_rewrite_49 rfl rfl ?_
        refine x_mIv C hMg2 16 5 kI_16 rfl (j := i) (by omega) (mI μ 16 i) rfl d_MD_rewrite_50 ?_
        refine x_if_ne C 61 d_MD_rewrite_51 (by decide) (fun c_51 => ?_) (fun c_51 => ?_)
        · refine x_aload_n C d_MD_rewrite_61 rfl rfl ?_
          refine x_aload_n C d_MD_rewrite_62 rfl rfl ?_
          refine x_iconst C (v := 0) d_MD_rewrite_63 (by decide) ?_
          refine x_lload_n C d_MD_rewrite_64 rfl rfl ?_
          refine x_callV2 C (q_MD_field l E hMg2 (k := 0) (by omega)) (lk_MD_98 C.hts (Nat.le_of_ble_eq_true rfl) (Nat.le_of_ble_eq_true rfl)) hMg2.1 rfl rfl d_MD_rewrite_65 (Nat.le_of_ble_eq_true rfl) (Nat.le_of_ble_eq_true rfl) (Nat.le_of_ble_eq_true rfl) (fun r G' h => ?_)
          obtain ⟨rfl, rfl⟩ : r = some (.long (mF μ 0 (x))) ∧ _ = G' := h
          refine x_callV1 C (q_MD_byPrime l E hMg2) (lk_MD_180 C.hts (Nat.le_of_ble_eq_true rfl) (Nat.le_of_ble_eq_true rfl)) hMg2.1 rfl rfl d_MD_rewrite_68 (Nat.le_of_ble_eq_true rfl) (Nat.le_of_ble_eq_true rfl) (Nat.le_of_ble_eq_true rfl) (fun r G' h => ?_)
          obtain ⟨rfl, rfl⟩ : r = some (.int (oI (mEq μ 0 (mF μ 0 (x)) none))) ∧ _ = G' := h
          refine x_istore C d_MD_rewrite_71 (Nat.le_of_ble_eq_true rfl) rfl ?_
          have e9 : mEq μ 0 (mF μ 0 (x)) none = some q := by have h9 := ho; unfold mTg at h9; rw [if_neg c_51] at h9; exact h9
          rw [e9]
          refine x_iload C d_MD_rewrite_73 rfl ?_
          refine x_iconst C (v := -1) d_MD_rewrite_75 (by decide) ?_
          refine x_icmp_ne C 96 d_MD_rewrite_76 (by decide) (fun c_76 => ?_) (fun c_76 => ?_)
          · refine x_aload_n C d_MD_rewrite_96 rfl rfl ?_
            refine x_iconst C (v := 0) d_MD_rewrite_97 (by decide) ?_
            refine x_aload_n C d_MD_rewrite_98 rfl rfl ?_
            refine x_get C hMg2.1 rfl (in_MD _) 9 (by decide) (List.mem_cons_of_mem _ f_MD_27) rfl d_MD_rewrite_99 ?_
            refine x_iload C d_MD_rewrite_102 rfl ?_
            refine x_mJv C hMg2 9 300 kJ_9 rfl (j := q) (by omega) (mJ μ 9 q) rfl d_MD_rewrite_104 ?_
            refine x_callV2 C (q_MD_field l E hMg2 (k := 0) (by omega)) (lk_MD_98 C.hts (Nat.le_of_ble_eq_true rfl) (Nat.le_of_ble_eq_true rfl)) hMg2.1 rfl rfl d_MD_rewrite_105 (Nat.le_of_ble_eq_true rfl) (Nat.le_of_ble_eq_true rfl) (Nat.le_of_ble_eq_true rfl) (fun r G' h => ?_)
            obtain ⟨rfl, rfl⟩ : r = some (.long (mF μ 0 (mJ μ 9 q))) ∧ _ = G' := h
            refine x_aload_n C d_MD_rewrite_108 rfl rfl ?_
            refine x_iconst C (v := 0) d_MD_rewrite_109 (by decide) ?_
            refine x_lload_n C d_MD_rewrite_110 rfl rfl ?_
            refine x_callV2 C (q_MD_field l E hMg2 (k := 0) (by omega)) (lk_MD_98 C.hts (Nat.le_of_ble_eq_true rfl) (Nat.le_of_ble_eq_true rfl)) hMg2.1 rfl rfl d_MD_rewrite_111 (Nat.le_of_ble_eq_true rfl) (Nat.le_of_ble_eq_true rfl) (Nat.le_of_ble_eq_true rfl) (fun r G' h => ?_)
            obtain ⟨rfl, rfl⟩ : r = some (.long (mF μ 0 (x))) ∧ _ = G' := h
            refine x_lcmp C d_MD_rewrite_114 ?_
            refine x_if_eq C 121 d_MD_rewrite_115 (by decide) (fun c_115 => ?_) (fun c_115 => ?_)
            · refine x_aload_n C d_MD_rewrite_121 rfl rfl ?_
              refine x_lload_n C d_MD_rewrite_122 rfl rfl ?_
              refine x_iload C d_MD_rewrite_123 rfl ?_
              refine x_callV2 C (q_MD_barred l E hMg2 (K := K) hK hK6 (but := (some q)) (fun _ z => by cases z; omega)) (lk_MD_154 C.hts (Nat.le_of_ble_eq_true rfl) (Nat.le_of_ble_eq_true rfl)) hMg2.1 rfl rfl d_MD_rewrite_125 (Nat.le_of_ble_eq_true rfl) (Nat.le_of_ble_eq_true rfl) (Nat.le_of_ble_eq_true rfl) (fun r G' h => ?_)
              rw [mBar_c (μ := (mFg (sS μ 0 (0)) i)) (μ' := μ) (fun _ _ => rfl)] at h
              obtain ⟨rfl, rfl⟩ : r = some (.int (mBar μ (x) (some q) K 0 0)) ∧ _ = G' := h
              refine x_istore C d_MD_rewrite_128 (Nat.le_of_ble_eq_true rfl) rfl ?_
              refine x_iload C d_MD_rewrite_130 rfl ?_
              refine x_bipush C (v := 22) d_MD_rewrite_132 (by decide) ?_
              refine x_icmp_ne C 140 d_MD_rewrite_134 (by decide) (fun c_134 => ?_) (fun c_134 => ?_)
              · exact absurd hw c_134
              · refine x_bipush C (v := 22) d_MD_rewrite_137 (by decide) ?_
                exact x_iret C (Nat.le_of_ble_eq_true rfl) (Nat.le_of_ble_eq_true rfl) d_MD_rewrite_139 ⟨rfl, hMg2, hFg1.tr hFg2⟩
            · exact absurd ((lg_eq _ _).mpr hf) c_115
          · exact absurd c_76 (nI_m1 (by omega))
        · refine x_aload_n C d_MD_rewrite_54 rfl rfl ?_
          refine x_callV0 C (q_MD_had l E hMg2) (lk_MD_176 C.hts (Nat.le_of_ble_eq_true rfl) (Nat.le_of_ble_eq_true rfl)) hMg2.1 rfl rfl d_MD_rewrite_55 (Nat.le_of_ble_eq_true rfl) (Nat.le_of_ble_eq_true rfl) (Nat.le_of_ble_eq_true rfl) (fun r G' h => ?_)
          obtain ⟨rfl, rfl⟩ : r = some (.int (oI (mHad (mFg (sS μ 0 (0)) i)))) ∧ _ = G' := h
          refine x_goto C 71 d_MD_rewrite_58 (by decide) ?_
          refine x_istore C d_MD_rewrite_71 (Nat.le_of_ble_eq_true rfl) rfl ?_
          have e9 : mHad (mFg (sS μ 0 (0)) i) = some q := by have h9 := ho; unfold mTg at h9; rw [if_pos c_51] at h9; exact h9
          rw [e9]
          refine x_iload C d_MD_rewrite_73 rfl ?_
          refine x_iconst C (v := -1) d_MD_rewrite_75 (by decide) ?_
          refine x_icmp_ne C 96 d_MD_rewrite_76 (by decide) (fun c_76 => ?_) (fun c_76 => ?_)
          · refine x_aload_n C d_MD_rewrite_96 rfl rfl ?_
            refine x_iconst C (v := 0) d_MD_rewrite_97 (by decide) ?_
            refine x_aload_n C d_MD_rewrite_98 rfl rfl ?_
            refine x_get C hMg2.1 rfl (in_MD _) 9 (by decide) (List.mem_cons_of_mem _ f_MD_27) rfl d_MD_rewrite_99 ?_
            refine x_iload C d_MD_rewrite_102 rfl ?_
            refine x_mJv C hMg2 9 300 kJ_9 rfl (j := q) (by omega) (mJ μ 9 q) rfl d_MD_rewrite_104 ?_
            refine x_callV2 C (q_MD_field l E hMg2 (k := 0) (by omega)) (lk_MD_98 C.hts (Nat.le_of_ble_eq_true rfl) (Nat.le_of_ble_eq_true rfl)) hMg2.1 rfl rfl d_MD_rewrite_105 (Nat.le_of_ble_eq_true rfl) (Nat.le_of_ble_eq_true rfl) (Nat.le_of_ble_eq_true rfl) (fun r G' h => ?_)
            obtain ⟨rfl, rfl⟩ : r = some (.long (mF μ 0 (mJ μ 9 q))) ∧ _ = G' := h
            refine x_aload_n C d_MD_rewrite_108 rfl rfl ?_
            refine x_iconst C (v := 0) d_MD_rewrite_109 (by decide) ?_
            refine x_lload_n C d_MD_rewrite_110 rfl rfl ?_
            refine x_callV2 C (q_MD_field l E hMg2 (k := 0) (by omega)) (lk_MD_98 C.hts (Nat.le_of_ble_eq_true rfl) (Nat.le_of_ble_eq_true rfl)) hMg2.1 rfl rfl d_MD_rewrite_111 (Nat.le_of_ble_eq_true rfl) (Nat.le_of_ble_eq_true rfl) (Nat.le_of_ble_eq_true rfl) (fun r G' h => ?_)
            obtain ⟨rfl, rfl⟩ : r = some (.long (mF μ 0 (x))) ∧ _ = G' := h
            refine x_lcmp C d_MD_rewrite_114 ?_
            refine x_if_eq C 121 d_MD_rewrite_115 (by decide) (fun c_115 => ?_) (fun c_115 => ?_)
            · refine x_aload_n C d_MD_rewrite_121 rfl rfl ?_
              refine x_lload_n C d_MD_rewrite_122 rfl rfl ?_
              refine x_iload C d_MD_rewrite_123 rfl ?_
              refine x_callV2 C (q_MD_barred l E hMg2 (K := K) hK hK6 (but := (some q)) (fun _ z => by cases z; omega)) (lk_MD_154 C.hts (Nat.le_of_ble_eq_true rfl) (Nat.le_of_ble_eq_true rfl)) hMg2.1 rfl rfl d_MD_rewrite_125 (Nat.le_of_ble_eq_true rfl) (Nat.le_of_ble_eq_true rfl) (Nat.le_of_ble_eq_true rfl) (fun r G' h => ?_)
              rw [mBar_c (μ := (mFg (sS μ 0 (0)) i)) (μ' := μ) (fun _ _ => rfl)] at h
              obtain ⟨rfl, rfl⟩ : r = some (.int (mBar μ (x) (some q) K 0 0)) ∧ _ = G' := h
              refine x_istore C d_MD_rewrite_128 (Nat.le_of_ble_eq_true rfl) rfl ?_
              refine x_iload C d_MD_rewrite_130 rfl ?_
              refine x_bipush C (v := 22) d_MD_rewrite_132 (by decide) ?_
              refine x_icmp_ne C 140 d_MD_rewrite_134 (by decide) (fun c_134 => ?_) (fun c_134 => ?_)
              · exact absurd hw c_134
              · refine x_bipush C (v := 22) d_MD_rewrite_137 (by decide) ?_
                exact x_iret C (Nat.le_of_ble_eq_true rfl) (Nat.le_of_ble_eq_true rfl) d_MD_rewrite_139 ⟨rfl, hMg2, hFg1.tr hFg2⟩
            · exact absurd ((lg_eq _ _).mpr hf) c_115
          · exact absurd c_76 (nI_m1 (by omega))
      · exfalso
        clear C hnm hM
        simp_all [refChange, bI_0]
    · exfalso
      clear C hnm hM
      simp_all [refChange, bI_0]
  · exact absurd (hv.symm.trans ((bI_0 _).mp c_10)) (by decide)
set_option maxRecDepth 4000 in
set_option maxHeartbeats 800000 in
theorem q_MD_rewrite_ok (l : Launch) (E : xE) {G : xw_G} {md : Nat} {a : Nat → Nat} {μ : MS} (hM : xMD E G md a μ) {i : Nat} (hi : i < 5) (hv : mVw μ (nI i) = true) {x : Int64} (hr : refChange (mZ μ 24 i) (mI μ 15 i) = 0) {q : Nat} (ho : mTg μ i (mF μ 0 x) = some q) (hf : mF μ 0 (mJ μ 9 q) = mF μ 0 x) {K : Nat} (hK : mS μ 6 = nI K) (hK6 : K ≤ 6) (hw : ¬ mBar μ x (some q) K 0 0 = 22) : XMk l E y_MD_rewrite w_MD_rewrite rm_MD_rewrite [.ref md, .int (nI i), .long (x)] G (fun r G' => r = some (.int (mBar μ x (some q) K 0 0)) ∧ xMD E G' md a (sJ (mRA q x false K 0 (mFg (sS μ 0 0) i)) 9 q x) ∧ xFc G G') 0 0 := by
  refine XM_of [some (.ref md), some (.int (nI i)), some (.long (x)), none, none, none] (XZ_st E) (by decide) rfl rfl rfl (Nat.le_of_ble_eq_true rfl) (fun p e s m below meth c C hnm => ?_)
  have hq3 := mTg_lt ho
  refine x_aload_n C d_MD_rewrite_0 rfl rfl ?_
  refine x_iconst C (v := 0) d_MD_rewrite_1 (by decide) ?_
  refine x_mSp C hM 0 (by decide) (x := 0) f_MD_72 rfl rfl rfl d_MD_rewrite_2 (fun _ hMg1 hFg1 => ?_)
  refine x_aload_n C d_MD_rewrite_5 rfl rfl ?_
  refine x_iload_n C d_MD_rewrite_6 rfl rfl ?_
  refine x_callV1 C (q_MD_isView l E hMg1) (lk_MD_92 C.hts (Nat.le_of_ble_eq_true rfl) (Nat.le_of_ble_eq_true rfl)) hMg1.1 rfl rfl d_MD_rewrite_7 (Nat.le_of_ble_eq_true rfl) (Nat.le_of_ble_eq_true rfl) (Nat.le_of_ble_eq_true rfl) (fun r G' h => ?_)
  obtain ⟨rfl, rfl⟩ : r = some (.int (bI (mVw μ (nI i)))) ∧ _ = G' := h
  refine x_if_ne C 15 d_MD_rewrite_10 (by decide) (fun c_10 => ?_) (fun c_10 => ?_)
  · refine x_aload_n C d_MD_rewrite_15 rfl rfl ?_
    refine x_get C hMg1.1 rfl (in_MD _) 24 (by decide) (List.mem_cons_of_mem _ f_MD_63) rfl d_MD_rewrite_16 ?_
    refine x_iload_n C d_MD_rewrite_19 rfl rfl ?_
    refine x_mZv C hMg1 24 5 kZ_24 rfl (j := i) (by omega) (mZ μ 24 i) rfl d_MD_rewrite_20 ?_
    refine x_if_ne C 27 d_MD_rewrite_21 (by decide) (fun c_21 => ?_) (fun c_21 => ?_)
    · refine x_aload_n C d_MD_rewrite_27 rfl rfl ?_
      refine x_get C hMg1.1 rfl (in_MD _) 15 (by decide) (List.mem_cons_of_mem _ f_MD_36) rfl d_MD_rewrite_28 ?_
      refine x_iload_n C d_MD_rewrite_31 rfl rfl ?_
      refine x_mIv C hMg1 15 5 kI_15 rfl (j := i) (by omega) (mI μ 15 i) rfl d_MD_rewrite_32 ?_
      refine x_iconst C (v := 2) d_MD_rewrite_33 (by decide) ?_
      refine x_icmp_eq C 40 d_MD_rewrite_34 (by decide) (fun c_34 => ?_) (fun c_34 => ?_)
      · refine x_aload_n C d_MD_rewrite_40 rfl rfl ?_
        refine x_iload_n C d_MD_rewrite_41 rfl rfl ?_
        refine x_callV1 C (q_MD_forget l E hMg1 (i := i) (by omega)) (lk_MD_150 C.hts (Nat.le_of_ble_eq_true rfl) (Nat.le_of_ble_eq_true rfl)) hMg1.1 rfl rfl d_MD_rewrite_42 (Nat.le_of_ble_eq_true rfl) (Nat.le_of_ble_eq_true rfl) (Nat.le_of_ble_eq_true rfl) (fun r G' h => ?_)
        obtain ⟨rfl, hMg2, hFg2⟩ : r = none ∧ xMD E G' md a (mFg (sS μ 0 (0)) i) ∧ xFc _ G' := h
        refine x_aload_n C d_MD_rewrite_45 rfl rfl ?_
        refine x_get C hMg2.1 rfl (in_MD _) 16 (by decide) (List.mem_cons_of_mem _ f_MD_39) rfl d_MD_rewrite_46 ?_
        refine x_iload_n C d_MD_rewrite_49 rfl rfl ?_
        refine x_mIv C hMg2 16 5 kI_16 rfl (j := i) (by omega) (mI μ 16 i) rfl d_MD_rewrite_50 ?_
        refine x_if_ne C 61 d_MD_rewrite_51 (by decide) (fun c_51 => ?_) (fun c_51 => ?_)
        · refine x_aload_n C d_MD_rewrite_61 rfl rfl ?_
          refine x_aload_n C d_MD_rewrite_62 rfl rfl ?_
          refine x_iconst C (v := 0) d_MD_rewrite_63 (by decide) ?_
          refine x_lload_n C d_MD_rewrite_64 rfl rfl ?_
          refine x_callV2 C (q_MD_field l E hMg2 (k := 0) (by omega)) (lk_MD_98 C.hts (Nat.le_of_ble_eq_true rfl) (Nat.le_of_ble_eq_true rfl)) hMg2.1 rfl rfl d_MD_rewrite_65 (Nat.le_of_ble_eq_true rfl) (Nat.le_of_ble_eq_true rfl) (Nat.le_of_ble_eq_true rfl) (fun r G' h => ?_)
          obtain ⟨rfl, rfl⟩ : r = some (.long (mF μ 0 (x))) ∧ _ = G' := h
          refine x_callV1 C (q_MD_byPrime l E hMg2) (lk_MD_180 C.hts (Nat.le_of_ble_eq_true rfl) (Nat.le_of_ble_eq_true rfl)) hMg2.1 rfl rfl d_MD_rewrite_68 (Nat.le_of_ble_eq_true rfl) (Nat.le_of_ble_eq_true rfl) (Nat.le_of_ble_eq_true rfl) (fun r G' h => ?_)
          obtain ⟨rfl, rfl⟩ : r = some (.int (oI (mEq μ 0 (mF μ 0 (x)) none))) ∧ _ = G' := h
          refine x_istore C d_MD_rewrite_71 (Nat.le_of_ble_eq_true rfl) rfl ?_
          have e9 : mEq μ 0 (mF μ 0 (x)) none = some q := by have h9 := ho; unfold mTg at h9; rw [if_neg c_51] at h9; exact h9
          rw [e9]
          refine x_iload C d_MD_rewrite_73 rfl ?_
          refine x_iconst C (v := -1) d_MD_rewrite_75 (by decide) ?_
          refine x_icmp_ne C 96 d_MD_rewrite_76 (by decide) (fun c_76 => ?_) (fun c_76 => ?_)
          · refine x_aload_n C d_MD_rewrite_96 rfl rfl ?_
            refine x_iconst C (v := 0) d_MD_rewrite_97 (by decide) ?_
            refine x_aload_n C d_MD_rewrite_98 rfl rfl ?_
            refine x_get C hMg2.1 rfl (in_MD _) 9 (by decide) (List.mem_cons_of_mem _ f_MD_27) rfl d_MD_rewrite_99 ?_
            refine x_iload C d_MD_rewrite_102 rfl ?_
            refine x_mJv C hMg2 9 300 kJ_9 rfl (j := q) (by omega) (mJ μ 9 q) rfl d_MD_rewrite_104 ?_
            refine x_callV2 C (q_MD_field l E hMg2 (k := 0) (by omega)) (lk_MD_98 C.hts (Nat.le_of_ble_eq_true rfl) (Nat.le_of_ble_eq_true rfl)) hMg2.1 rfl rfl d_MD_rewrite_105 (Nat.le_of_ble_eq_true rfl) (Nat.le_of_ble_eq_true rfl) (Nat.le_of_ble_eq_true rfl) (fun r G' h => ?_)
            obtain ⟨rfl, rfl⟩ : r = some (.long (mF μ 0 (mJ μ 9 q))) ∧ _ = G' := h
            refine x_aload_n C d_MD_rewrite_108 rfl rfl ?_
            refine x_iconst C (v := 0) d_MD_rewrite_109 (by decide) ?_
            refine x_lload_n C d_MD_rewrite_110 rfl rfl ?_
            refine x_callV2 C (q_MD_field l E hMg2 (k := 0) (by omega)) (lk_MD_98 C.hts (Nat.le_of_ble_eq_true rfl) (Nat.le_of_ble_eq_true rfl)) hMg2.1 rfl rfl d_MD_rewrite_111 (Nat.le_of_ble_eq_true rfl) (Nat.le_of_ble_eq_true rfl) (Nat.le_of_ble_eq_true rfl) (fun r G' h => ?_)
            obtain ⟨rfl, rfl⟩ : r = some (.long (mF μ 0 (x))) ∧ _ = G' := h
            refine x_lcmp C d_MD_rewrite_114 ?_
            refine x_if_eq C 121 d_MD_rewrite_115 (by decide) (fun c_115 => ?_) (fun c_115 => ?_)
            · refine x_aload_n C d_MD_rewrite_121 rfl rfl ?_
              refine x_lload_n C d_MD_rewrite_122 rfl rfl ?_
              refine x_iload C d_MD_rewrite_123 rfl ?_
              refine x_callV2 C (q_MD_barred l E hMg2 (K := K) hK hK6 (but := (some q)) (fun _ z => by cases z; omega)) (lk_MD_154 C.hts (Nat.le_of_ble_eq_true rfl) (Nat.le_of_ble_eq_true rfl)) hMg2.1 rfl rfl d_MD_rewrite_125 (Nat.le_of_ble_eq_true rfl) (Nat.le_of_ble_eq_true rfl) (Nat.le_of_ble_eq_true rfl) (fun r G' h => ?_)
              rw [mBar_c (μ := (mFg (sS μ 0 (0)) i)) (μ' := μ) (fun _ _ => rfl)] at h
              obtain ⟨rfl, rfl⟩ : r = some (.int (mBar μ (x) (some q) K 0 0)) ∧ _ = G' := h
              refine x_istore C d_MD_rewrite_128 (Nat.le_of_ble_eq_true rfl) rfl ?_
              refine x_iload C d_MD_rewrite_130 rfl ?_
              refine x_bipush C (v := 22) d_MD_rewrite_132 (by decide) ?_
              refine x_icmp_ne C 140 d_MD_rewrite_134 (by decide) (fun c_134 => ?_) (fun c_134 => ?_)
              · refine x_aload_n C d_MD_rewrite_140 rfl rfl ?_
                refine x_iload C d_MD_rewrite_141 rfl ?_
                refine x_lload_n C d_MD_rewrite_143 rfl rfl ?_
                refine x_iconst C (v := 0) d_MD_rewrite_144 (by decide) ?_
                refine x_callV3 C (q_MD_rankAll l E hMg2 (K := K) (sl := q) (fr := false) hK hK6 (by omega)) (lk_MD_158 C.hts (Nat.le_of_ble_eq_true rfl) (Nat.le_of_ble_eq_true rfl)) hMg2.1 rfl rfl d_MD_rewrite_145 (Nat.le_of_ble_eq_true rfl) (Nat.le_of_ble_eq_true rfl) (Nat.le_of_ble_eq_true rfl) (fun r G' h => ?_)
                obtain ⟨rfl, hMg3, hFg3⟩ : r = none ∧ xMD E G' md a (sJ (mRA q (x) false K 0 (mFg (sS μ 0 (0)) i)) 9 q (x)) ∧ xFc _ G' := h
                refine x_iload C d_MD_rewrite_148 rfl ?_
                exact x_iret C (Nat.le_of_ble_eq_true rfl) (Nat.le_of_ble_eq_true rfl) d_MD_rewrite_150 ⟨rfl, hMg3, (hFg1.tr hFg2).tr hFg3⟩
              · exact absurd c_134 hw
            · exact absurd ((lg_eq _ _).mpr hf) c_115
          · exact absurd c_76 (nI_m1 (by omega))
        · refine x_aload_n C d_MD_rewrite_54 rfl rfl ?_
          refine x_callV0 C (q_MD_had l E hMg2) (lk_MD_176 C.hts (Nat.le_of_ble_eq_true rfl) (Nat.le_of_ble_eq_true rfl)) hMg2.1 rfl rfl d_MD_rewrite_55 (Nat.le_of_ble_eq_true rfl) (Nat.le_of_ble_eq_true rfl) (Nat.le_of_ble_eq_true rfl) (fun r G' h => ?_)
          obtain ⟨rfl, rfl⟩ : r = some (.int (oI (mHad (mFg (sS μ 0 (0)) i)))) ∧ _ = G' := h
          refine x_goto C 71 d_MD_rewrite_58 (by decide) ?_
          refine x_istore C d_MD_rewrite_71 (Nat.le_of_ble_eq_true rfl) rfl ?_
          have e9 : mHad (mFg (sS μ 0 (0)) i) = some q := by have h9 := ho; unfold mTg at h9; rw [if_pos c_51] at h9; exact h9
          rw [e9]
          refine x_iload C d_MD_rewrite_73 rfl ?_
          refine x_iconst C (v := -1) d_MD_rewrite_75 (by decide) ?_
          refine x_icmp_ne C 96 d_MD_rewrite_76 (by decide) (fun c_76 => ?_) (fun c_76 => ?_)
          · refine x_aload_n C d_MD_rewrite_96 rfl rfl ?_
            refine x_iconst C (v := 0) d_MD_rewrite_97 (by decide) ?_
            refine x_aload_n C d_MD_rewrite_98 rfl rfl ?_
            refine x_get C hMg2.1 rfl (in_MD _) 9 (by decide) (List.mem_cons_of_mem _ f_MD_27) rfl d_MD_rewrite_99 ?_
            refine x_iload C d_MD_rewrite_102 rfl ?_
            refine x_mJv C hMg2 9 300 kJ_9 rfl (j := q) (by omega) (mJ μ 9 q) rfl d_MD_rewrite_104 ?_
            refine x_callV2 C (q_MD_field l E hMg2 (k := 0) (by omega)) (lk_MD_98 C.hts (Nat.le_of_ble_eq_true rfl) (Nat.le_of_ble_eq_true rfl)) hMg2.1 rfl rfl d_MD_rewrite_105 (Nat.le_of_ble_eq_true rfl) (Nat.le_of_ble_eq_true rfl) (Nat.le_of_ble_eq_true rfl) (fun r G' h => ?_)
            obtain ⟨rfl, rfl⟩ : r = some (.long (mF μ 0 (mJ μ 9 q))) ∧ _ = G' := h
            refine x_aload_n C d_MD_rewrite_108 rfl rfl ?_
            refine x_iconst C (v := 0) d_MD_rewrite_109 (by decide) ?_
            refine x_lload_n C d_MD_rewrite_110 rfl rfl ?_
            refine x_callV2 C (q_MD_field l E hMg2 (k := 0) (by omega)) (lk_MD_98 C.hts (Nat.le_of_ble_eq_true rfl) (Nat.le_of_ble_eq_true rfl)) hMg2.1 rfl rfl d_MD_rewrite_111 (Nat.le_of_ble_eq_true rfl) (Nat.le_of_ble_eq_true rfl) (Nat.le_of_ble_eq_true rfl) (fun r G' h => ?_)
            obtain ⟨rfl, rfl⟩ : r = some (.long (mF μ 0 (x))) ∧ _ = G' := h
            refine x_lcmp C d_MD_rewrite_114 ?_
            refine x_if_eq C 121 d_MD_rewrite_115 (by decide) (fun c_115 => ?_) (fun c_115 => ?_)
            · refine x_aload_n C d_MD_rewrite_121 rfl rfl ?_
              refine x_lload_n C d_MD_rewrite_122 rfl rfl ?_
              refine x_iload C d_MD_rewrite_123 rfl ?_
              refine x_callV2 C (q_MD_barred l E hMg2 (K := K) hK hK6 (but := (some q)) (fun _ z => by cases z; omega)) (lk_MD_154 C.hts (Nat.le_of_ble_eq_true rfl) (Nat.le_of_ble_eq_true rfl)) hMg2.1 rfl rfl d_MD_rewrite_125 (Nat.le_of_ble_eq_true rfl) (Nat.le_of_ble_eq_true rfl) (Nat.le_of_ble_eq_true rfl) (fun r G' h => ?_)
              rw [mBar_c (μ := (mFg (sS μ 0 (0)) i)) (μ' := μ) (fun _ _ => rfl)] at h
              obtain ⟨rfl, rfl⟩ : r = some (.int (mBar μ (x) (some q) K 0 0)) ∧ _ = G' := h
              refine x_istore C d_MD_rewrite_128 (Nat.le_of_ble_eq_true rfl) rfl ?_
              refine x_iload C d_MD_rewrite_130 rfl ?_
              refine x_bipush C (v := 22) d_MD_rewrite_132 (by decide) ?_
              refine x_icmp_ne C 140 d_MD_rewrite_134 (by decide) (fun c_134 => ?_) (fun c_134 => ?_)
              · refine x_aload_n C d_MD_rewrite_140 rfl rfl ?_
                refine x_iload C d_MD_rewrite_141 rfl ?_
                refine x_lload_n C d_MD_rewrite_143 rfl rfl ?_
                refine x_iconst C (v := 0) d_MD_rewrite_144 (by decide) ?_
                refine x_callV3 C (q_MD_rankAll l E hMg2 (K := K) (sl := q) (fr := false) hK hK6 (by omega)) (lk_MD_158 C.hts (Nat.le_of_ble_eq_true rfl) (Nat.le_of_ble_eq_true rfl)) hMg2.1 rfl rfl d_MD_rewrite_145 (Nat.le_of_ble_eq_true rfl) (Nat.le_of_ble_eq_true rfl) (Nat.le_of_ble_eq_true rfl) (fun r G' h => ?_)
                obtain ⟨rfl, hMg4, hFg4⟩ : r = none ∧ xMD E G' md a (sJ (mRA q (x) false K 0 (mFg (sS μ 0 (0)) i)) 9 q (x)) ∧ xFc _ G' := h
                refine x_iload C d_MD_rewrite_148 rfl ?_
                exact x_iret C (Nat.le_of_ble_eq_true rfl) (Nat.le_of_ble_eq_true rfl) d_MD_rewrite_150 ⟨rfl, hMg4, (hFg1.tr hFg2).tr hFg4⟩
              · exact absurd c_134 hw
            · exact absurd ((lg_eq _ _).mpr hf) c_115
          · exact absurd c_76 (nI_m1 (by omega))
      · exfalso
        clear C hnm hM
        simp_all [refChange, bI_0]
    · exfalso
      clear C hnm hM
      simp_all [refChange, bI_0]
  · exact absurd (hv.symm.trans ((bI_0 _).mp c_10)) (by decide)
set_option maxRecDepth 4000 in
set_option maxHeartbeats 800000 in
theorem q_MD_remove_nv (l : Launch) (E : xE) {G : xw_G} {md : Nat} {a : Nat → Nat} {μ : MS} (hM : xMD E G md a μ) {j : Int32} (hj : mVw μ j = false) {x : Int64} : XMk l E y_MD_remove w_MD_remove rm_MD_remove [.ref md, .int (j), .long (x)] G (fun r G' => r = some (.int (-1)) ∧ xMD E G' md a (sS μ 0 0) ∧ xFc G G') 0 0 := by
  refine XM_of [some (.ref md), some (.int (j)), some (.long (x)), none, none] (XZ_st E) (by decide) rfl rfl rfl (Nat.le_of_ble_eq_true rfl) (fun p e s m below meth c C hnm => ?_)
  refine x_aload_n C d_MD_remove_0 rfl rfl ?_
  refine x_iconst C (v := 0) d_MD_remove_1 (by decide) ?_
  refine x_mSp C hM 0 (by decide) (x := 0) f_MD_72 rfl rfl rfl d_MD_remove_2 (fun _ hMg1 hFg1 => ?_)
  refine x_aload_n C d_MD_remove_5 rfl rfl ?_
  refine x_iload_n C d_MD_remove_6 rfl rfl ?_
  refine x_callV1 C (q_MD_isView l E hMg1) (lk_MD_92 C.hts (Nat.le_of_ble_eq_true rfl) (Nat.le_of_ble_eq_true rfl)) hMg1.1 rfl rfl d_MD_remove_7 (Nat.le_of_ble_eq_true rfl) (Nat.le_of_ble_eq_true rfl) (Nat.le_of_ble_eq_true rfl) (fun r G' h => ?_)
  obtain ⟨rfl, rfl⟩ : r = some (.int (bI (mVw μ (j)))) ∧ _ = G' := h
  refine x_if_ne C 15 d_MD_remove_10 (by decide) (fun c_10 => ?_) (fun c_10 => ?_)
  · exact absurd (hj.symm.trans (bI_1 c_10)) (by decide)
  · refine x_iconst C (v := -1) d_MD_remove_13 (by decide) ?_
    exact x_iret C (Nat.le_of_ble_eq_true rfl) (Nat.le_of_ble_eq_true rfl) d_MD_remove_14 ⟨rfl, hMg1, hFg1⟩
set_option maxRecDepth 4000 in
set_option maxHeartbeats 800000 in
theorem q_MD_remove_ref (l : Launch) (E : xE) {G : xw_G} {md : Nat} {a : Nat → Nat} {μ : MS} (hM : xMD E G md a μ) {i : Nat} (hi : i < 5) (hv : mVw μ (nI i) = true) {x : Int64} (hr : ¬ refChange (mZ μ 24 i) (mI μ 15 i) = 0) : XMk l E y_MD_remove w_MD_remove rm_MD_remove [.ref md, .int (nI i), .long (x)] G (fun r G' => r = some (.int (refChange (mZ μ 24 i) (mI μ 15 i))) ∧ xMD E G' md a (sS μ 0 0) ∧ xFc G G') 0 0 := by
  refine XM_of [some (.ref md), some (.int (nI i)), some (.long (x)), none, none] (XZ_st E) (by decide) rfl rfl rfl (Nat.le_of_ble_eq_true rfl) (fun p e s m below meth c C hnm => ?_)
  refine x_aload_n C d_MD_remove_0 rfl rfl ?_
  refine x_iconst C (v := 0) d_MD_remove_1 (by decide) ?_
  refine x_mSp C hM 0 (by decide) (x := 0) f_MD_72 rfl rfl rfl d_MD_remove_2 (fun _ hMg1 hFg1 => ?_)
  refine x_aload_n C d_MD_remove_5 rfl rfl ?_
  refine x_iload_n C d_MD_remove_6 rfl rfl ?_
  refine x_callV1 C (q_MD_isView l E hMg1) (lk_MD_92 C.hts (Nat.le_of_ble_eq_true rfl) (Nat.le_of_ble_eq_true rfl)) hMg1.1 rfl rfl d_MD_remove_7 (Nat.le_of_ble_eq_true rfl) (Nat.le_of_ble_eq_true rfl) (Nat.le_of_ble_eq_true rfl) (fun r G' h => ?_)
  obtain ⟨rfl, rfl⟩ : r = some (.int (bI (mVw μ (nI i)))) ∧ _ = G' := h
  refine x_if_ne C 15 d_MD_remove_10 (by decide) (fun c_10 => ?_) (fun c_10 => ?_)
  · refine x_aload_n C d_MD_remove_15 rfl rfl ?_
    refine x_get C hMg1.1 rfl (in_MD _) 24 (by decide) (List.mem_cons_of_mem _ f_MD_63) rfl d_MD_remove_16 ?_
    refine x_iload_n C d_MD_remove_19 rfl rfl ?_
    refine x_mZv C hMg1 24 5 kZ_24 rfl (j := i) (by omega) (mZ μ 24 i) rfl d_MD_remove_20 ?_
    refine x_if_ne C 27 d_MD_remove_21 (by decide) (fun c_21 => ?_) (fun c_21 => ?_)
    · refine x_aload_n C d_MD_remove_27 rfl rfl ?_
      refine x_get C hMg1.1 rfl (in_MD _) 15 (by decide) (List.mem_cons_of_mem _ f_MD_36) rfl d_MD_remove_28 ?_
      refine x_iload_n C d_MD_remove_31 rfl rfl ?_
      refine x_mIv C hMg1 15 5 kI_15 rfl (j := i) (by omega) (mI μ 15 i) rfl d_MD_remove_32 ?_
      refine x_iconst C (v := 2) d_MD_remove_33 (by decide) ?_
      refine x_icmp_eq C 40 d_MD_remove_34 (by decide) (fun c_34 => ?_) (fun c_34 => ?_)
      · exfalso
        clear C hnm hM
        simp_all [refChange, bI_0]
      · refine x_bipush C (v := 49) d_MD_remove_37 (by decide) ?_
        exact x_iret C (Nat.le_of_ble_eq_true rfl) (Nat.le_of_ble_eq_true rfl) d_MD_remove_39 ⟨congrArg some (congrArg Value.int (by clear C hnm hM; simp_all [refChange, bI_0])), hMg1, hFg1⟩
    · refine x_bipush C (v := 42) d_MD_remove_24 (by decide) ?_
      exact x_iret C (Nat.le_of_ble_eq_true rfl) (Nat.le_of_ble_eq_true rfl) d_MD_remove_26 ⟨congrArg some (congrArg Value.int (by clear C hnm hM; simp_all [refChange, bI_0])), hMg1, hFg1⟩
  · exact absurd (hv.symm.trans ((bI_0 _).mp c_10)) (by decide)
set_option maxRecDepth 4000 in
set_option maxHeartbeats 800000 in
theorem q_MD_remove_none (l : Launch) (E : xE) {G : xw_G} {md : Nat} {a : Nat → Nat} {μ : MS} (hM : xMD E G md a μ) {i : Nat} (hi : i < 5) (hv : mVw μ (nI i) = true) {x : Int64} (hr : refChange (mZ μ 24 i) (mI μ 15 i) = 0) (ho : mTg μ i x = none) : XMk l E y_MD_remove w_MD_remove rm_MD_remove [.ref md, .int (nI i), .long (x)] G (fun r G' => r = some (.int (if mI μ 16 i = 0 then 43 else 23)) ∧ xMD E G' md a ((mFg (sS μ 0 0) i)) ∧ xFc G G') 0 0 := by
  refine XM_of [some (.ref md), some (.int (nI i)), some (.long (x)), none, none] (XZ_st E) (by decide) rfl rfl rfl (Nat.le_of_ble_eq_true rfl) (fun p e s m below meth c C hnm => ?_)
  refine x_aload_n C d_MD_remove_0 rfl rfl ?_
  refine x_iconst C (v := 0) d_MD_remove_1 (by decide) ?_
  refine x_mSp C hM 0 (by decide) (x := 0) f_MD_72 rfl rfl rfl d_MD_remove_2 (fun _ hMg1 hFg1 => ?_)
  refine x_aload_n C d_MD_remove_5 rfl rfl ?_
  refine x_iload_n C d_MD_remove_6 rfl rfl ?_
  refine x_callV1 C (q_MD_isView l E hMg1) (lk_MD_92 C.hts (Nat.le_of_ble_eq_true rfl) (Nat.le_of_ble_eq_true rfl)) hMg1.1 rfl rfl d_MD_remove_7 (Nat.le_of_ble_eq_true rfl) (Nat.le_of_ble_eq_true rfl) (Nat.le_of_ble_eq_true rfl) (fun r G' h => ?_)
  obtain ⟨rfl, rfl⟩ : r = some (.int (bI (mVw μ (nI i)))) ∧ _ = G' := h
  refine x_if_ne C 15 d_MD_remove_10 (by decide) (fun c_10 => ?_) (fun c_10 => ?_)
  · refine x_aload_n C d_MD_remove_15 rfl rfl ?_
    refine x_get C hMg1.1 rfl (in_MD _) 24 (by decide) (List.mem_cons_of_mem _ f_MD_63) rfl d_MD_remove_16 ?_
    refine x_iload_n C d_MD_remove_19 rfl rfl ?_
    refine x_mZv C hMg1 24 5 kZ_24 rfl (j := i) (by omega) (mZ μ 24 i) rfl d_MD_remove_20 ?_
    refine x_if_ne C 27 d_MD_remove_21 (by decide) (fun c_21 => ?_) (fun c_21 => ?_)
    · refine x_aload_n C d_MD_remove_27 rfl rfl ?_
      refine x_get C hMg1.1 rfl (in_MD _) 15 (by decide) (List.mem_cons_of_mem _ f_MD_36) rfl d_MD_remove_28 ?_
      refine x_iload_n C d_MD_remove_31 rfl rfl ?_
      refine x_mIv C hMg1 15 5 kI_15 rfl (j := i) (by omega) (mI μ 15 i) rfl d_MD_remove_32 ?_
      refine x_iconst C (v := 2) d_MD_remove_33 (by decide) ?_
      refine x_icmp_eq C 40 d_MD_remove_34 (by decide) (fun c_34 => ?_) (fun c_34 => ?_)
      · refine x_aload_n C d_MD_remove_40 rfl rfl ?_
        refine x_iload_n C d_MD_remove_41 rfl rfl ?_
        refine x_callV1 C (q_MD_forget l E hMg1 (i := i) (by omega)) (lk_MD_150 C.hts (Nat.le_of_ble_eq_true rfl) (Nat.le_of_ble_eq_true rfl)) hMg1.1 rfl rfl d_MD_remove_42 (Nat.le_of_ble_eq_true rfl) (Nat.le_of_ble_eq_true rfl) (Nat.le_of_ble_eq_true rfl) (fun r G' h => ?_)
        obtain ⟨rfl, hMg2, hFg2⟩ : r = none ∧ xMD E G' md a (mFg (sS μ 0 (0)) i) ∧ xFc _ G' := h
        refine x_aload_n C d_MD_remove_45 rfl rfl ?_
        refine x_get C hMg2.1 rfl (in_MD _) 16 (by decide) (List.mem_cons_of_mem _ f_MD_39) rfl d_MD_remove_46 ?_
        refine x_iload_n C d_MD_remove_49 rfl rfl ?_
        refine x_mIv C hMg2 16 5 kI_16 rfl (j := i) (by omega) (mI μ 16 i) rfl d_MD_remove_50 ?_
        refine x_if_ne C 61 d_MD_remove_51 (by decide) (fun c_51 => ?_) (fun c_51 => ?_)
        · refine x_aload_n C d_MD_remove_61 rfl rfl ?_
          refine x_lload_n C d_MD_remove_62 rfl rfl ?_
          refine x_callV1 C (q_MD_byPrime l E hMg2) (lk_MD_180 C.hts (Nat.le_of_ble_eq_true rfl) (Nat.le_of_ble_eq_true rfl)) hMg2.1 rfl rfl d_MD_remove_63 (Nat.le_of_ble_eq_true rfl) (Nat.le_of_ble_eq_true rfl) (Nat.le_of_ble_eq_true rfl) (fun r G' h => ?_)
          obtain ⟨rfl, rfl⟩ : r = some (.int (oI (mEq μ 0 (x) none))) ∧ _ = G' := h
          refine x_istore C d_MD_remove_66 (Nat.le_of_ble_eq_true rfl) rfl ?_
          have e9 : mEq μ 0 (x) none = none := by have h9 := ho; unfold mTg at h9; rw [if_neg c_51] at h9; exact h9
          rw [e9]
          refine x_iload C d_MD_remove_68 rfl ?_
          refine x_iconst C (v := -1) d_MD_remove_70 (by decide) ?_
          refine x_icmp_ne C 91 d_MD_remove_71 (by decide) (fun c_71 => ?_) (fun c_71 => ?_)
          · exact absurd c_71 (by decide)
          · refine x_aload_n C d_MD_remove_74 rfl rfl ?_
            refine x_get C hMg2.1 rfl (in_MD _) 16 (by decide) (List.mem_cons_of_mem _ f_MD_39) rfl d_MD_remove_75 ?_
            refine x_iload_n C d_MD_remove_78 rfl rfl ?_
            refine x_mIv C hMg2 16 5 kI_16 rfl (j := i) (by omega) (mI μ 16 i) rfl d_MD_remove_79 ?_
            refine x_if_ne C 88 d_MD_remove_80 (by decide) (fun c_80 => ?_) (fun c_80 => ?_)
            · refine x_bipush C (v := 23) d_MD_remove_88 (by decide) ?_
              exact x_iret C (Nat.le_of_ble_eq_true rfl) (Nat.le_of_ble_eq_true rfl) d_MD_remove_90 ⟨congrArg some (congrArg Value.int (by simp_all)), hMg2, hFg1.tr hFg2⟩
            · refine x_bipush C (v := 43) d_MD_remove_83 (by decide) ?_
              refine x_goto C 90 d_MD_remove_85 (by decide) ?_
              exact x_iret C (Nat.le_of_ble_eq_true rfl) (Nat.le_of_ble_eq_true rfl) d_MD_remove_90 ⟨congrArg some (congrArg Value.int (by simp_all)), hMg2, hFg1.tr hFg2⟩
        · refine x_aload_n C d_MD_remove_54 rfl rfl ?_
          refine x_callV0 C (q_MD_had l E hMg2) (lk_MD_176 C.hts (Nat.le_of_ble_eq_true rfl) (Nat.le_of_ble_eq_true rfl)) hMg2.1 rfl rfl d_MD_remove_55 (Nat.le_of_ble_eq_true rfl) (Nat.le_of_ble_eq_true rfl) (Nat.le_of_ble_eq_true rfl) (fun r G' h => ?_)
          obtain ⟨rfl, rfl⟩ : r = some (.int (oI (mHad (mFg (sS μ 0 (0)) i)))) ∧ _ = G' := h
          refine x_goto C 66 d_MD_remove_58 (by decide) ?_
          refine x_istore C d_MD_remove_66 (Nat.le_of_ble_eq_true rfl) rfl ?_
          have e9 : mHad (mFg (sS μ 0 (0)) i) = none := by have h9 := ho; unfold mTg at h9; rw [if_pos c_51] at h9; exact h9
          rw [e9]
          refine x_iload C d_MD_remove_68 rfl ?_
          refine x_iconst C (v := -1) d_MD_remove_70 (by decide) ?_
          refine x_icmp_ne C 91 d_MD_remove_71 (by decide) (fun c_71 => ?_) (fun c_71 => ?_)
          · exact absurd c_71 (by decide)
          · refine x_aload_n C d_MD_remove_74 rfl rfl ?_
            refine x_get C hMg2.1 rfl (in_MD _) 16 (by decide) (List.mem_cons_of_mem _ f_MD_39) rfl d_MD_remove_75 ?_
            refine x_iload_n C d_MD_remove_78 rfl rfl ?_
            refine x_mIv C hMg2 16 5 kI_16 rfl (j := i) (by omega) (mI μ 16 i) rfl d_MD_remove_79 ?_
            refine x_if_ne C 88 d_MD_remove_80 (by decide) (fun c_80 => ?_) (fun c_80 => ?_)
            · refine x_bipush C (v := 23) d_MD_remove_88 (by decide) ?_
              exact x_iret C (Nat.le_of_ble_eq_true rfl) (Nat.le_of_ble_eq_true rfl) d_MD_remove_90 ⟨congrArg some (congrArg Value.int (by simp_all)), hMg2, hFg1.tr hFg2⟩
            · refine x_bipush C (v := 43) d_MD_remove_83 (by decide) ?_
              refine x_goto C 90 d_MD_remove_85 (by decide) ?_
              exact x_iret C (Nat.le_of_ble_eq_true rfl) (Nat.le_of_ble_eq_true rfl) d_MD_remove_90 ⟨congrArg some (congrArg Value.int (by simp_all)), hMg2, hFg1.tr hFg2⟩
      · exfalso
        clear C hnm hM
        simp_all [refChange, bI_0]
    · exfalso
      clear C hnm hM
      simp_all [refChange, bI_0]
  · exact absurd (hv.symm.trans ((bI_0 _).mp c_10)) (by decide)
set_option maxRecDepth 4000 in
set_option maxHeartbeats 800000 in
theorem q_MD_remove_ok (l : Launch) (E : xE) {G : xw_G} {md : Nat} {a : Nat → Nat} {μ : MS} (hM : xMD E G md a μ) {i : Nat} (hi : i < 5) (hv : mVw μ (nI i) = true) {x : Int64} (hr : refChange (mZ μ 24 i) (mI μ 15 i) = 0) {q : Nat} (ho : mTg μ i x = some q) : XMk l E y_MD_remove w_MD_remove rm_MD_remove [.ref md, .int (nI i), .long (x)] G (fun r G' => r = some (.int (0)) ∧ xMD E G' md a (sS (sI (mFg (sS μ 0 0) i) 10 q 0) 12 (mS μ 12 - 1)) ∧ xFc G G') 0 0 := by
  refine XM_of [some (.ref md), some (.int (nI i)), some (.long (x)), none, none] (XZ_st E) (by decide) rfl rfl rfl (Nat.le_of_ble_eq_true rfl) (fun p e s m below meth c C hnm => ?_)
  have hq3 := mTg_lt ho
  refine x_aload_n C d_MD_remove_0 rfl rfl ?_
  refine x_iconst C (v := 0) d_MD_remove_1 (by decide) ?_
  refine x_mSp C hM 0 (by decide) (x := 0) f_MD_72 rfl rfl rfl d_MD_remove_2 (fun _ hMg1 hFg1 => ?_)
  refine x_aload_n C d_MD_remove_5 rfl rfl ?_
  refine x_iload_n C d_MD_remove_6 rfl rfl ?_
  refine x_callV1 C (q_MD_isView l E hMg1) (lk_MD_92 C.hts (Nat.le_of_ble_eq_true rfl) (Nat.le_of_ble_eq_true rfl)) hMg1.1 rfl rfl d_MD_remove_7 (Nat.le_of_ble_eq_true rfl) (Nat.le_of_ble_eq_true rfl) (Nat.le_of_ble_eq_true rfl) (fun r G' h => ?_)
  obtain ⟨rfl, rfl⟩ : r = some (.int (bI (mVw μ (nI i)))) ∧ _ = G' := h
  refine x_if_ne C 15 d_MD_remove_10 (by decide) (fun c_10 => ?_) (fun c_10 => ?_)
  · refine x_aload_n C d_MD_remove_15 rfl rfl ?_
    refine x_get C hMg1.1 rfl (in_MD _) 24 (by decide) (List.mem_cons_of_mem _ f_MD_63) rfl d_MD_remove_16 ?_
    refine x_iload_n C d_MD_remove_19 rfl rfl ?_
    refine x_mZv C hMg1 24 5 kZ_24 rfl (j := i) (by omega) (mZ μ 24 i) rfl d_MD_remove_20 ?_
    refine x_if_ne C 27 d_MD_remove_21 (by decide) (fun c_21 => ?_) (fun c_21 => ?_)
    · refine x_aload_n C d_MD_remove_27 rfl rfl ?_
      refine x_get C hMg1.1 rfl (in_MD _) 15 (by decide) (List.mem_cons_of_mem _ f_MD_36) rfl d_MD_remove_28 ?_
      refine x_iload_n C d_MD_remove_31 rfl rfl ?_
      refine x_mIv C hMg1 15 5 kI_15 rfl (j := i) (by omega) (mI μ 15 i) rfl d_MD_remove_32 ?_
      refine x_iconst C (v := 2) d_MD_remove_33 (by decide) ?_
      refine x_icmp_eq C 40 d_MD_remove_34 (by decide) (fun c_34 => ?_) (fun c_34 => ?_)
      · refine x_aload_n C d_MD_remove_40 rfl rfl ?_
        refine x_iload_n C d_MD_remove_41 rfl rfl ?_
        refine x_callV1 C (q_MD_forget l E hMg1 (i := i) (by omega)) (lk_MD_150 C.hts (Nat.le_of_ble_eq_true rfl) (Nat.le_of_ble_eq_true rfl)) hMg1.1 rfl rfl d_MD_remove_42 (Nat.le_of_ble_eq_true rfl) (Nat.le_of_ble_eq_true rfl) (Nat.le_of_ble_eq_true rfl) (fun r G' h => ?_)
        obtain ⟨rfl, hMg2, hFg2⟩ : r = none ∧ xMD E G' md a (mFg (sS μ 0 (0)) i) ∧ xFc _ G' := h
        refine x_aload_n C d_MD_remove_45 rfl rfl ?_
        refine x_get C hMg2.1 rfl (in_MD _) 16 (by decide) (List.mem_cons_of_mem _ f_MD_39) rfl d_MD_remove_46 ?_
        refine x_iload_n C d_MD_remove_49 rfl rfl ?_
        refine x_mIv C hMg2 16 5 kI_16 rfl (j := i) (by omega) (mI μ 16 i) rfl d_MD_remove_50 ?_
        refine x_if_ne C 61 d_MD_remove_51 (by decide) (fun c_51 => ?_) (fun c_51 => ?_)
        · refine x_aload_n C d_MD_remove_61 rfl rfl ?_
          refine x_lload_n C d_MD_remove_62 rfl rfl ?_
          refine x_callV1 C (q_MD_byPrime l E hMg2) (lk_MD_180 C.hts (Nat.le_of_ble_eq_true rfl) (Nat.le_of_ble_eq_true rfl)) hMg2.1 rfl rfl d_MD_remove_63 (Nat.le_of_ble_eq_true rfl) (Nat.le_of_ble_eq_true rfl) (Nat.le_of_ble_eq_true rfl) (fun r G' h => ?_)
          obtain ⟨rfl, rfl⟩ : r = some (.int (oI (mEq μ 0 (x) none))) ∧ _ = G' := h
          refine x_istore C d_MD_remove_66 (Nat.le_of_ble_eq_true rfl) rfl ?_
          have e9 : mEq μ 0 (x) none = some q := by have h9 := ho; unfold mTg at h9; rw [if_neg c_51] at h9; exact h9
          rw [e9]
          refine x_iload C d_MD_remove_68 rfl ?_
          refine x_iconst C (v := -1) d_MD_remove_70 (by decide) ?_
          refine x_icmp_ne C 91 d_MD_remove_71 (by decide) (fun c_71 => ?_) (fun c_71 => ?_)
          · refine x_aload_n C d_MD_remove_91 rfl rfl ?_
            refine x_get C hMg2.1 rfl (in_MD _) 10 (by decide) (List.mem_cons_of_mem _ f_MD_30) rfl d_MD_remove_92 ?_
            refine x_iload C d_MD_remove_95 rfl ?_
            refine x_iconst C (v := 0) d_MD_remove_97 (by decide) ?_
            refine x_mIs C hMg2 10 300 kI_10 (j := q) (x := 0) rfl (by omega) d_MD_remove_98 (fun _ hMg3 hFg3 => ?_)
            refine x_aload_n C d_MD_remove_99 rfl rfl ?_
            refine x_dup C d_MD_remove_100 rfl ?_
            refine x_get C hMg3.1 rfl (in_MD _) 12 (by decide) (List.mem_cons_of_mem _ f_MD_95) rfl d_MD_remove_101 ?_
            refine x_as1 (v := .int (mS μ 12)) rfl ?_
            refine x_iconst C (v := 1) d_MD_remove_104 (by decide) ?_
            refine x_isub C d_MD_remove_105 ?_
            refine x_mSp C hMg3 12 (by decide) (x := (mS μ 12) - (1)) f_MD_95 rfl rfl rfl d_MD_remove_106 (fun _ hMg4 hFg4 => ?_)
            refine x_iconst C (v := 0) d_MD_remove_109 (by decide) ?_
            exact x_iret C (Nat.le_of_ble_eq_true rfl) (Nat.le_of_ble_eq_true rfl) d_MD_remove_110 ⟨rfl, hMg4, ((hFg1.tr hFg2).tr hFg3).tr hFg4⟩
          · exact absurd c_71 (nI_m1 (by omega))
        · refine x_aload_n C d_MD_remove_54 rfl rfl ?_
          refine x_callV0 C (q_MD_had l E hMg2) (lk_MD_176 C.hts (Nat.le_of_ble_eq_true rfl) (Nat.le_of_ble_eq_true rfl)) hMg2.1 rfl rfl d_MD_remove_55 (Nat.le_of_ble_eq_true rfl) (Nat.le_of_ble_eq_true rfl) (Nat.le_of_ble_eq_true rfl) (fun r G' h => ?_)
          obtain ⟨rfl, rfl⟩ : r = some (.int (oI (mHad (mFg (sS μ 0 (0)) i)))) ∧ _ = G' := h
          refine x_goto C 66 d_MD_remove_58 (by decide) ?_
          refine x_istore C d_MD_remove_66 (Nat.le_of_ble_eq_true rfl) rfl ?_
          have e9 : mHad (mFg (sS μ 0 (0)) i) = some q := by have h9 := ho; unfold mTg at h9; rw [if_pos c_51] at h9; exact h9
          rw [e9]
          refine x_iload C d_MD_remove_68 rfl ?_
          refine x_iconst C (v := -1) d_MD_remove_70 (by decide) ?_
          refine x_icmp_ne C 91 d_MD_remove_71 (by decide) (fun c_71 => ?_) (fun c_71 => ?_)
          · refine x_aload_n C d_MD_remove_91 rfl rfl ?_
            refine x_get C hMg2.1 rfl (in_MD _) 10 (by decide) (List.mem_cons_of_mem _ f_MD_30) rfl d_MD_remove_92 ?_
            refine x_iload C d_MD_remove_95 rfl ?_
            refine x_iconst C (v := 0) d_MD_remove_97 (by decide) ?_
            refine x_mIs C hMg2 10 300 kI_10 (j := q) (x := 0) rfl (by omega) d_MD_remove_98 (fun _ hMg5 hFg5 => ?_)
            refine x_aload_n C d_MD_remove_99 rfl rfl ?_
            refine x_dup C d_MD_remove_100 rfl ?_
            refine x_get C hMg5.1 rfl (in_MD _) 12 (by decide) (List.mem_cons_of_mem _ f_MD_95) rfl d_MD_remove_101 ?_
            refine x_as1 (v := .int (mS μ 12)) rfl ?_
            refine x_iconst C (v := 1) d_MD_remove_104 (by decide) ?_
            refine x_isub C d_MD_remove_105 ?_
            refine x_mSp C hMg5 12 (by decide) (x := (mS μ 12) - (1)) f_MD_95 rfl rfl rfl d_MD_remove_106 (fun _ hMg6 hFg6 => ?_)
            refine x_iconst C (v := 0) d_MD_remove_109 (by decide) ?_
            exact x_iret C (Nat.le_of_ble_eq_true rfl) (Nat.le_of_ble_eq_true rfl) d_MD_remove_110 ⟨rfl, hMg6, ((hFg1.tr hFg2).tr hFg5).tr hFg6⟩
          · exact absurd c_71 (nI_m1 (by omega))
      · exfalso
        clear C hnm hM
        simp_all [refChange, bI_0]
    · exfalso
      clear C hnm hM
      simp_all [refChange, bI_0]
  · exact absurd (hv.symm.trans ((bI_0 _).mp c_10)) (by decide)
