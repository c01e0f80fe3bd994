set_option maxRecDepth 100000 in
set_option maxHeartbeats 4000000 in
theorem q_KF_indexAt_in (l : Launch) (E : xE) {G : xw_G} {x ix vw : Nat} {op : Bool} {na nw : Int64} (hG : G x = some (eKF ix vw op na nw)) {aix : Nat} {ks : List Nat} (hI : xAL E G ix aix ks) {a : Nat} {fs : List Value} {i : Nat} (hi : ks[i]? = some a) (hN : G a = some (.inr (2, fs))) : XMk l E y_KF_indexAt w_KF_indexAt rm_KF_indexAt [.ref x, .int (nI i)] G (fun r G' => r = some (.ref a) ∧ G = G') 0 0 := by
  refine XM_of [some (.ref x), some (.int (nI i))] (XZ_st E) (by decide) rfl rfl rfl (Nat.le_of_ble_eq_true rfl) (fun p e s m below meth c C hnm => ?_)
  obtain ⟨cap, md, ff, hL, hAr, hc1, hc2, -, -⟩ := id hI
  have hcl := capOK_le hc2
  have hk : i < ks.length := (List.getElem?_eq_some_iff.mp hi).1
  refine x_iload_n C d_KF_indexAt_0 rfl rfl ?_
  refine x_if_lt C 29 d_KF_indexAt_1 (by decide) (fun c_1 => ?_) (fun c_1 => ?_)
  · exact absurd c_1 (nI_pos (by omega))
  · refine x_iload_n C d_KF_indexAt_4 rfl rfl ?_
    refine x_aload_n C d_KF_indexAt_5 rfl rfl ?_
    refine x_get C hG rfl (in_KF _) 0 (by decide) (List.mem_cons_of_mem _ f_KF_10) rfl d_KF_indexAt_6 ?_
    refine x_callV0 C (q_AL_sizeL l E hI) (lk_KF_19 C.hts (Nat.le_of_ble_eq_true rfl) (Nat.le_of_ble_eq_true rfl)) hL rfl rfl d_KF_indexAt_9 (Nat.le_of_ble_eq_true rfl) (Nat.le_of_ble_eq_true rfl) (Nat.le_of_ble_eq_true rfl) (fun r G' h => ?_)
    obtain ⟨rfl, rfl⟩ := h
    refine x_icmp_ge C 29 d_KF_indexAt_12 (by decide) (fun c_12 => ?_) (fun c_12 => ?_)
    · exact absurd c_12 (nI_ge hk (by omega))
    · refine x_aload_n C d_KF_indexAt_15 rfl rfl ?_
      refine x_get C hG rfl (in_KF _) 0 (by decide) (List.mem_cons_of_mem _ f_KF_10) rfl d_KF_indexAt_16 ?_
      refine x_iload_n C d_KF_indexAt_19 rfl rfl ?_
      refine x_callV1 C (q_AL_getL l E hI hi) (lk_KF_177 C.hts (Nat.le_of_ble_eq_true rfl) (Nat.le_of_ble_eq_true rfl)) hL rfl rfl d_KF_indexAt_20 (Nat.le_of_ble_eq_true rfl) (Nat.le_of_ble_eq_true rfl) (Nat.le_of_ble_eq_true rfl) (fun r G' h => ?_)
      obtain ⟨rfl, rfl⟩ := h
      refine x_castS C hN rfl (List.mem_cons_of_mem _ cl_KF_27) d_KF_indexAt_23 ?_
      refine x_goto C 30 d_KF_indexAt_26 (by decide) ?_
      exact x_aret C (Or.inl ⟨_, rfl⟩) (Or.inr ⟨_, rfl⟩) (Nat.le_of_ble_eq_true rfl) (Nat.le_of_ble_eq_true rfl) d_KF_indexAt_30 ⟨rfl, rfl⟩
set_option maxRecDepth 100000 in
set_option maxHeartbeats 4000000 in
theorem q_KF_indexAt_out (l : Launch) (E : xE) {G : xw_G} {x ix vw : Nat} {op : Bool} {na nw : Int64} (hG : G x = some (eKF ix vw op na nw)) {aix : Nat} {ks : List Nat} (hI : xAL E G ix aix ks) {j : Int32} (hj : j < 0 ∨ nI ks.length ≤ j) : XMk l E y_KF_indexAt w_KF_indexAt rm_KF_indexAt [.ref x, .int (j)] G (fun r G' => r = some (.null) ∧ G = G') 0 0 := by
  refine XM_of [some (.ref x), some (.int (j))] (XZ_st E) (by decide) rfl rfl rfl (Nat.le_of_ble_eq_true rfl) (fun p e s m below meth c C hnm => ?_)
  obtain ⟨cap, md, ff, hL, hAr, hc1, hc2, -, -⟩ := id hI
  refine x_iload_n C d_KF_indexAt_0 rfl rfl ?_
  refine x_if_lt C 29 d_KF_indexAt_1 (by decide) (fun c_1 => ?_) (fun c_1 => ?_)
  · refine x_null C d_KF_indexAt_29 ?_
    exact x_aret C (Or.inl ⟨_, rfl⟩) (Or.inl rfl) (Nat.le_of_ble_eq_true rfl) (Nat.le_of_ble_eq_true rfl) d_KF_indexAt_30 ⟨rfl, rfl⟩
  · refine x_iload_n C d_KF_indexAt_4 rfl rfl ?_
    refine x_aload_n C d_KF_indexAt_5 rfl rfl ?_
    refine x_get C hG rfl (in_KF _) 0 (by decide) (List.mem_cons_of_mem _ f_KF_10) rfl d_KF_indexAt_6 ?_
    refine x_callV0 C (q_AL_sizeL l E hI) (lk_KF_19 C.hts (Nat.le_of_ble_eq_true rfl) (Nat.le_of_ble_eq_true rfl)) hL rfl rfl d_KF_indexAt_9 (Nat.le_of_ble_eq_true rfl) (Nat.le_of_ble_eq_true rfl) (Nat.le_of_ble_eq_true rfl) (fun r G' h => ?_)
    obtain ⟨rfl, rfl⟩ := h
    refine x_icmp_ge C 29 d_KF_indexAt_12 (by decide) (fun c_12 => ?_) (fun c_12 => ?_)
    · refine x_null C d_KF_indexAt_29 ?_
      exact x_aret C (Or.inl ⟨_, rfl⟩) (Or.inl rfl) (Nat.le_of_ble_eq_true rfl) (Nat.le_of_ble_eq_true rfl) d_KF_indexAt_30 ⟨rfl, rfl⟩
    · exact absurd hj (fun q => q.elim c_1 c_12)
set_option maxRecDepth 100000 in
set_option maxHeartbeats 4000000 in
theorem q_KF_viewAt_in (l : Launch) (E : xE) {G : xw_G} {x ix vw : Nat} {op : Bool} {na nw : Int64} (hG : G x = some (eKF ix vw op na nw)) {avw : Nat} {ws : List Nat} (hW : xAL E G vw avw ws) {a : Nat} {fs : List Value} {i : Nat} (hi : ws[i]? = some a) (hN : G a = some (.inr (4, fs))) : XMk l E y_KF_viewAt w_KF_viewAt rm_KF_viewAt [.ref x, .int (nI i)] G (fun r G' => r = some (.ref a) ∧ G = G') 0 0 := by
  refine XM_of [some (.ref x), some (.int (nI i))] (XZ_st E) (by decide) rfl rfl rfl (Nat.le_of_ble_eq_true rfl) (fun p e s m below meth c C hnm => ?_)
  obtain ⟨cap, md, ff, hL, hAr, hc1, hc2, -, -⟩ := id hW
  have hcl := capOK_le hc2
  have hk : i < ws.length := (List.getElem?_eq_some_iff.mp hi).1
  refine x_iload_n C d_KF_viewAt_0 rfl rfl ?_
  refine x_if_lt C 29 d_KF_viewAt_1 (by decide) (fun c_1 => ?_) (fun c_1 => ?_)
  · exact absurd c_1 (nI_pos (by omega))
  · refine x_iload_n C d_KF_viewAt_4 rfl rfl ?_
    refine x_aload_n C d_KF_viewAt_5 rfl rfl ?_
    refine x_get C hG rfl (in_KF _) 1 (by decide) (List.mem_cons_of_mem _ f_KF_16) rfl d_KF_viewAt_6 ?_
    refine x_callV0 C (q_AL_sizeL l E hW) (lk_KF_19 C.hts (Nat.le_of_ble_eq_true rfl) (Nat.le_of_ble_eq_true rfl)) hL rfl rfl d_KF_viewAt_9 (Nat.le_of_ble_eq_true rfl) (Nat.le_of_ble_eq_true rfl) (Nat.le_of_ble_eq_true rfl) (fun r G' h => ?_)
    obtain ⟨rfl, rfl⟩ := h
    refine x_icmp_ge C 29 d_KF_viewAt_12 (by decide) (fun c_12 => ?_) (fun c_12 => ?_)
    · exact absurd c_12 (nI_ge hk (by omega))
    · refine x_aload_n C d_KF_viewAt_15 rfl rfl ?_
      refine x_get C hG rfl (in_KF _) 1 (by decide) (List.mem_cons_of_mem _ f_KF_16) rfl d_KF_viewAt_16 ?_
      refine x_iload_n C d_KF_viewAt_19 rfl rfl ?_
      refine x_callV1 C (q_AL_getL l E hW hi) (lk_KF_177 C.hts (Nat.le_of_ble_eq_true rfl) (Nat.le_of_ble_eq_true rfl)) hL rfl rfl d_KF_viewAt_20 (Nat.le_of_ble_eq_true rfl) (Nat.le_of_ble_eq_true rfl) (Nat.le_of_ble_eq_true rfl) (fun r G' h => ?_)
      obtain ⟨rfl, rfl⟩ := h
      refine x_castS C hN rfl (List.mem_cons_of_mem _ cl_KF_48) d_KF_viewAt_23 ?_
      refine x_goto C 30 d_KF_viewAt_26 (by decide) ?_
      exact x_aret C (Or.inl ⟨_, rfl⟩) (Or.inr ⟨_, rfl⟩) (Nat.le_of_ble_eq_true rfl) (Nat.le_of_ble_eq_true rfl) d_KF_viewAt_30 ⟨rfl, rfl⟩
set_option maxRecDepth 100000 in
set_option maxHeartbeats 4000000 in
theorem q_KF_viewAt_out (l : Launch) (E : xE) {G : xw_G} {x ix vw : Nat} {op : Bool} {na nw : Int64} (hG : G x = some (eKF ix vw op na nw)) {avw : Nat} {ws : List Nat} (hW : xAL E G vw avw ws) {j : Int32} (hj : j < 0 ∨ nI ws.length ≤ j) : XMk l E y_KF_viewAt w_KF_viewAt rm_KF_viewAt [.ref x, .int (j)] G (fun r G' => r = some (.null) ∧ G = G') 0 0 := by
  refine XM_of [some (.ref x), some (.int (j))] (XZ_st E) (by decide) rfl rfl rfl (Nat.le_of_ble_eq_true rfl) (fun p e s m below meth c C hnm => ?_)
  obtain ⟨cap, md, ff, hL, hAr, hc1, hc2, -, -⟩ := id hW
  refine x_iload_n C d_KF_viewAt_0 rfl rfl ?_
  refine x_if_lt C 29 d_KF_viewAt_1 (by decide) (fun c_1 => ?_) (fun c_1 => ?_)
  · refine x_null C d_KF_viewAt_29 ?_
    exact x_aret C (Or.inl ⟨_, rfl⟩) (Or.inl rfl) (Nat.le_of_ble_eq_true rfl) (Nat.le_of_ble_eq_true rfl) d_KF_viewAt_30 ⟨rfl, rfl⟩
  · refine x_iload_n C d_KF_viewAt_4 rfl rfl ?_
    refine x_aload_n C d_KF_viewAt_5 rfl rfl ?_
    refine x_get C hG rfl (in_KF _) 1 (by decide) (List.mem_cons_of_mem _ f_KF_16) rfl d_KF_viewAt_6 ?_
    refine x_callV0 C (q_AL_sizeL l E hW) (lk_KF_19 C.hts (Nat.le_of_ble_eq_true rfl) (Nat.le_of_ble_eq_true rfl)) hL rfl rfl d_KF_viewAt_9 (Nat.le_of_ble_eq_true rfl) (Nat.le_of_ble_eq_true rfl) (Nat.le_of_ble_eq_true rfl) (fun r G' h => ?_)
    obtain ⟨rfl, rfl⟩ := h
    refine x_icmp_ge C 29 d_KF_viewAt_12 (by decide) (fun c_12 => ?_) (fun c_12 => ?_)
    · refine x_null C d_KF_viewAt_29 ?_
      exact x_aret C (Or.inl ⟨_, rfl⟩) (Or.inl rfl) (Nat.le_of_ble_eq_true rfl) (Nat.le_of_ble_eq_true rfl) d_KF_viewAt_30 ⟨rfl, rfl⟩
    · exact absurd hj (fun q => q.elim c_1 c_12)
set_option maxRecDepth 100000 in
set_option maxHeartbeats 4000000 in
theorem q_KF_entryCount_in (l : Launch) (E : xE) {G : xw_G} {x ix vw : Nat} {op : Bool} {na nw : Int64} (hG : G x = some (eKF ix vw op na nw)) {aix : Nat} {ks : List Nat} (hI : xAL E G ix aix ks) {ki en : Nat} {db sp : Bool} {fr sz : Int32} {lo : Int64} (hK : G ki = some (eKI db fr sz en sp lo)) {ar : Nat} {xs : List Nat} (hA : xAL E G en ar xs) {i : Nat} (hki : ks[i]? = some ki) : XMk l E y_KF_entryCount w_KF_entryCount rm_KF_entryCount [.ref x, .int (nI i)] G (fun r G' => r = some (.int (nI xs.length)) ∧ G = G') 0 0 := by
  refine XM_of [some (.ref x), some (.int (nI i)), none] (XZ_st E) (by decide) rfl rfl rfl (Nat.le_of_ble_eq_true rfl) (fun p e s m below meth c C hnm => ?_)
  obtain ⟨cap, md, ff, hL, hAr, hc1, hc2, -, -⟩ := id hA
  refine x_aload_n C d_KF_entryCount_0 rfl rfl ?_
  refine x_iload_n C d_KF_entryCount_1 rfl rfl ?_
  refine x_callV1 C (q_KF_indexAt_in l E hG hI hki hK) (lk_KF_36 C.hts (Nat.le_of_ble_eq_true rfl) (Nat.le_of_ble_eq_true rfl)) hG rfl rfl d_KF_entryCount_2 (Nat.le_of_ble_eq_true rfl) (Nat.le_of_ble_eq_true rfl) (Nat.le_of_ble_eq_true rfl) (fun r G' h => ?_)
  obtain ⟨rfl, rfl⟩ := h
  refine x_astore_n C d_KF_entryCount_5 rfl (Nat.le_of_ble_eq_true rfl) rfl ?_
  refine x_aload_n C d_KF_entryCount_6 rfl rfl ?_
  refine x_ifnonnull C 14 d_KF_entryCount_7 (by decide) ?_
  refine x_aload_n C d_KF_entryCount_14 rfl rfl ?_
  refine x_get C hK rfl (in_KI _) 3 (by decide) (List.mem_cons_of_mem _ f_KF_188) rfl d_KF_entryCount_15 ?_
  refine x_callV0 C (q_AL_sizeL l E hA) (lk_KF_19 C.hts (Nat.le_of_ble_eq_true rfl) (Nat.le_of_ble_eq_true rfl)) hL rfl rfl d_KF_entryCount_18 (Nat.le_of_ble_eq_true rfl) (Nat.le_of_ble_eq_true rfl) (Nat.le_of_ble_eq_true rfl) (fun r G' h => ?_)
  obtain ⟨rfl, rfl⟩ := h
  exact x_iret C (Nat.le_of_ble_eq_true rfl) (Nat.le_of_ble_eq_true rfl) d_KF_entryCount_21 ⟨rfl, rfl⟩
set_option maxRecDepth 100000 in
set_option maxHeartbeats 4000000 in
theorem q_KF_entryCount_out (l : Launch) (E : xE) {G : xw_G} {x ix vw : Nat} {op : Bool} {na nw : Int64} (hG : G x = some (eKF ix vw op na nw)) {aix : Nat} {ks : List Nat} (hI : xAL E G ix aix ks) {j : Int32} (hkj : j < 0 ∨ nI ks.length ≤ j) : XMk l E y_KF_entryCount w_KF_entryCount rm_KF_entryCount [.ref x, .int (j)] G (fun r G' => r = some (.int 0) ∧ G = G') 0 0 := by
  refine XM_of [some (.ref x), some (.int (j)), none] (XZ_st E) (by decide) rfl rfl rfl (Nat.le_of_ble_eq_true rfl) (fun p e s m below meth c C hnm => ?_)
  refine x_aload_n C d_KF_entryCount_0 rfl rfl ?_
  refine x_iload_n C d_KF_entryCount_1 rfl rfl ?_
  refine x_callV1 C (q_KF_indexAt_out l E hG hI hkj) (lk_KF_36 C.hts (Nat.le_of_ble_eq_true rfl) (Nat.le_of_ble_eq_true rfl)) hG rfl rfl d_KF_entryCount_2 (Nat.le_of_ble_eq_true rfl) (Nat.le_of_ble_eq_true rfl) (Nat.le_of_ble_eq_true rfl) (fun r G' h => ?_)
  obtain ⟨rfl, rfl⟩ := h
  refine x_astore_nN C d_KF_entryCount_5 rfl (Nat.le_of_ble_eq_true rfl) rfl ?_
  refine x_aload_nN C d_KF_entryCount_6 rfl rfl ?_
  refine x_ifnonnullN C d_KF_entryCount_7 ?_
  refine x_iconst C (v := 0) d_KF_entryCount_10 (by decide) ?_
  refine x_goto C 21 d_KF_entryCount_11 (by decide) ?_
  exact x_iret C (Nat.le_of_ble_eq_true rfl) (Nat.le_of_ble_eq_true rfl) d_KF_entryCount_21 ⟨rfl, rfl⟩
set_option maxRecDepth 100000 in
set_option maxHeartbeats 4000000 in
theorem q_KF_fieldOf_in (l : Launch) (E : xE) {G : xw_G} {x ix vw : Nat} {op : Bool} {na nw : Int64} (hG : G x = some (eKF ix vw op na nw)) {aix : Nat} {ks : List Nat} (hI : xAL E G ix aix ks) {ki en : Nat} {db sp : Bool} {fr sz : Int32} {lo : Int64} (hK : G ki = some (eKI db fr sz en sp lo)) {i : Nat} (hki : ks[i]? = some ki) {z : Int64} : XMk l E y_KF_fieldOf w_KF_fieldOf rm_KF_fieldOf [.ref x, .int (nI i), .long (z)] G (fun r G' => r = some (.long (fldI fr sz z)) ∧ G = G') 0 0 := by
  refine XM_of [some (.ref x), some (.int (nI i)), some (.long (z)), none, none] (XZ_st E) (by decide) rfl rfl rfl (Nat.le_of_ble_eq_true rfl) (fun p e s m below meth c C hnm => ?_)
  refine x_aload_n C d_KF_fieldOf_0 rfl rfl ?_
  refine x_iload_n C d_KF_fieldOf_1 rfl rfl ?_
  refine x_callV1 C (q_KF_indexAt_in l E hG hI hki hK) (lk_KF_36 C.hts (Nat.le_of_ble_eq_true rfl) (Nat.le_of_ble_eq_true rfl)) hG rfl rfl d_KF_fieldOf_2 (Nat.le_of_ble_eq_true rfl) (Nat.le_of_ble_eq_true rfl) (Nat.le_of_ble_eq_true rfl) (fun r G' h => ?_)
  obtain ⟨rfl, rfl⟩ := h
  refine x_astore C d_KF_fieldOf_5 (Nat.le_of_ble_eq_true rfl) rfl ?_
  refine x_aload C d_KF_fieldOf_7 rfl ?_
  refine x_ifnonnull C 16 d_KF_fieldOf_9 (by decide) ?_
  refine x_aload C d_KF_fieldOf_16 rfl ?_
  refine x_lload_n C d_KF_fieldOf_18 rfl rfl ?_
  refine x_callV1 C (q_KI_fieldIn l E hK) (lk_KF_195 C.hts (Nat.le_of_ble_eq_true rfl) (Nat.le_of_ble_eq_true rfl)) hK rfl rfl d_KF_fieldOf_19 (Nat.le_of_ble_eq_true rfl) (Nat.le_of_ble_eq_true rfl) (Nat.le_of_ble_eq_true rfl) (fun r G' h => ?_)
  obtain ⟨rfl, rfl⟩ := h
  exact x_lret C (Nat.le_of_ble_eq_true rfl) (Nat.le_of_ble_eq_true rfl) d_KF_fieldOf_22 ⟨rfl, rfl⟩
set_option maxRecDepth 100000 in
set_option maxHeartbeats 4000000 in
theorem q_KF_fieldOf_out (l : Launch) (E : xE) {G : xw_G} {x ix vw : Nat} {op : Bool} {na nw : Int64} (hG : G x = some (eKF ix vw op na nw)) {aix : Nat} {ks : List Nat} (hI : xAL E G ix aix ks) {j : Int32} (hkj : j < 0 ∨ nI ks.length ≤ j) {z : Int64} : XMk l E y_KF_fieldOf w_KF_fieldOf rm_KF_fieldOf [.ref x, .int (j), .long (z)] G (fun r G' => r = some (.long 0) ∧ G = G') 0 0 := by
  refine XM_of [some (.ref x), some (.int (j)), some (.long (z)), none, none] (XZ_st E) (by decide) rfl rfl rfl (Nat.le_of_ble_eq_true rfl) (fun p e s m below meth c C hnm => ?_)
  refine x_aload_n C d_KF_fieldOf_0 rfl rfl ?_
  refine x_iload_n C d_KF_fieldOf_1 rfl rfl ?_
  refine x_callV1 C (q_KF_indexAt_out l E hG hI hkj) (lk_KF_36 C.hts (Nat.le_of_ble_eq_true rfl) (Nat.le_of_ble_eq_true rfl)) hG rfl rfl d_KF_fieldOf_2 (Nat.le_of_ble_eq_true rfl) (Nat.le_of_ble_eq_true rfl) (Nat.le_of_ble_eq_true rfl) (fun r G' h => ?_)
  obtain ⟨rfl, rfl⟩ := h
  refine x_astoreN C d_KF_fieldOf_5 (Nat.le_of_ble_eq_true rfl) rfl ?_
  refine x_aloadN C d_KF_fieldOf_7 rfl ?_
  refine x_ifnonnullN C d_KF_fieldOf_9 ?_
  refine x_lconst C (v := 0) d_KF_fieldOf_12 (by decide) ?_
  refine x_goto C 22 d_KF_fieldOf_13 (by decide) ?_
  exact x_lret C (Nat.le_of_ble_eq_true rfl) (Nat.le_of_ble_eq_true rfl) d_KF_fieldOf_22 ⟨rfl, rfl⟩
set_option maxRecDepth 100000 in
set_option maxHeartbeats 4000000 in
theorem q_KF_count_in (l : Launch) (E : xE) {G : xw_G} {x ix vw : Nat} {op : Bool} {na nw : Int64} (hG : G x = some (eKF ix vw op na nw)) {aix : Nat} {ks : List Nat} (hI : xAL E G ix aix ks) {ki en : Nat} {db sp : Bool} {fr sz : Int32} {lo : Int64} (hK : G ki = some (eKI db fr sz en sp lo)) {ar : Nat} {xs : List Nat} (hA : xAL E G en ar xs) {i : Nat} (hki : ks[i]? = some ki) : XMk l E y_KF_count w_KF_count rm_KF_count [.ref x, .int (nI i)] G (fun r G' => r = some (.int (nI xs.length)) ∧ G = G') 0 0 := by
  refine XM_of [some (.ref x), some (.int (nI i))] (XZ_st E) (by decide) rfl rfl rfl (Nat.le_of_ble_eq_true rfl) (fun p e s m below meth c C hnm => ?_)
  refine x_aload_n C d_KF_count_0 rfl rfl ?_
  refine x_iload_n C d_KF_count_1 rfl rfl ?_
  refine x_callV1 C (q_KF_indexAt_in l E hG hI hki hK) (lk_KF_36 C.hts (Nat.le_of_ble_eq_true rfl) (Nat.le_of_ble_eq_true rfl)) hG rfl rfl d_KF_count_2 (Nat.le_of_ble_eq_true rfl) (Nat.le_of_ble_eq_true rfl) (Nat.le_of_ble_eq_true rfl) (fun r G' h => ?_)
  obtain ⟨rfl, rfl⟩ := h
  refine x_ifnonnull C 12 d_KF_count_5 (by decide) ?_
  refine x_aload_n C d_KF_count_12 rfl rfl ?_
  refine x_iload_n C d_KF_count_13 rfl rfl ?_
  refine x_callV1 C (q_KF_entryCount_in l E hG hI hK hA hki) (lk_KF_83 C.hts (Nat.le_of_ble_eq_true rfl) (Nat.le_of_ble_eq_true rfl)) hG rfl rfl d_KF_count_14 (Nat.le_of_ble_eq_true rfl) (Nat.le_of_ble_eq_true rfl) (Nat.le_of_ble_eq_true rfl) (fun r G' h => ?_)
  obtain ⟨rfl, rfl⟩ := h
  exact x_iret C (Nat.le_of_ble_eq_true rfl) (Nat.le_of_ble_eq_true rfl) d_KF_count_17 ⟨rfl, rfl⟩
set_option maxRecDepth 100000 in
set_option maxHeartbeats 4000000 in
theorem q_KF_count_out (l : Launch) (E : xE) {G : xw_G} {x ix vw : Nat} {op : Bool} {na nw : Int64} (hG : G x = some (eKF ix vw op na nw)) {aix : Nat} {ks : List Nat} (hI : xAL E G ix aix ks) {j : Int32} (hkj : j < 0 ∨ nI ks.length ≤ j) : XMk l E y_KF_count w_KF_count rm_KF_count [.ref x, .int (j)] G (fun r G' => r = some (.int (-1)) ∧ G = G') 0 0 := by
  refine XM_of [some (.ref x), some (.int (j))] (XZ_st E) (by decide) rfl rfl rfl (Nat.le_of_ble_eq_true rfl) (fun p e s m below meth c C hnm => ?_)
  refine x_aload_n C d_KF_count_0 rfl rfl ?_
  refine x_iload_n C d_KF_count_1 rfl rfl ?_
  refine x_callV1 C (q_KF_indexAt_out l E hG hI hkj) (lk_KF_36 C.hts (Nat.le_of_ble_eq_true rfl) (Nat.le_of_ble_eq_true rfl)) hG rfl rfl d_KF_count_2 (Nat.le_of_ble_eq_true rfl) (Nat.le_of_ble_eq_true rfl) (Nat.le_of_ble_eq_true rfl) (fun r G' h => ?_)
  obtain ⟨rfl, rfl⟩ := h
  refine x_ifnonnullN C d_KF_count_5 ?_
  refine x_iconst C (v := -1) d_KF_count_8 (by decide) ?_
  refine x_goto C 17 d_KF_count_9 (by decide) ?_
  exact x_iret C (Nat.le_of_ble_eq_true rfl) (Nat.le_of_ble_eq_true rfl) d_KF_count_17 ⟨rfl, rfl⟩
set_option maxRecDepth 100000 in
set_option maxHeartbeats 4000000 in
theorem q_KF_value_in (l : Launch) (E : xE) {G : xw_G} {x ix vw : Nat} {op : Bool} {na nw : Int64} (hG : G x = some (eKF ix vw op na nw)) {avw : Nat} {ws : List Nat} (hW : xAL E G vw avw ws) {va : Nat} {vo ae hw : Bool} {mo ac kr pl : Int32} {pf pc vr pw : Int64} {rl : Value} (hV : G va = some (eVW vo mo ac kr pl pf pc ae rl vr hw pw)) {i : Nat} (hi : ws[i]? = some va) : XMk l E y_KF_value w_KF_value rm_KF_value [.ref x, .int (nI i)] G (fun r G' => r = some (.long vr) ∧ G = G') 0 0 := by
  refine XM_of [some (.ref x), some (.int (nI i)), none] (XZ_st E) (by decide) rfl rfl rfl (Nat.le_of_ble_eq_true rfl) (fun p e s m below meth c C hnm => ?_)
  refine x_aload_n C d_KF_value_0 rfl rfl ?_
  refine x_iload_n C d_KF_value_1 rfl rfl ?_
  refine x_callV1 C (q_KF_viewAt_in l E hG hW hi hV) (lk_KF_51 C.hts (Nat.le_of_ble_eq_true rfl) (Nat.le_of_ble_eq_true rfl)) hG rfl rfl d_KF_value_2 (Nat.le_of_ble_eq_true rfl) (Nat.le_of_ble_eq_true rfl) (Nat.le_of_ble_eq_true rfl) (fun r G' h => ?_)
  obtain ⟨rfl, rfl⟩ := h
  refine x_astore_n C d_KF_value_5 rfl (Nat.le_of_ble_eq_true rfl) rfl ?_
  refine x_aload_n C d_KF_value_6 rfl rfl ?_
  refine x_ifnonnull C 14 d_KF_value_7 (by decide) ?_
  refine x_aload_n C d_KF_value_14 rfl rfl ?_
  refine x_get C hV rfl (in_VW _) 9 (by decide) (List.mem_cons_of_mem _ f_KF_119) rfl d_KF_value_15 ?_
  exact x_lret C (Nat.le_of_ble_eq_true rfl) (Nat.le_of_ble_eq_true rfl) d_KF_value_18 ⟨rfl, rfl⟩
set_option maxRecDepth 100000 in
set_option maxHeartbeats 4000000 in
theorem q_KF_value_out (l : Launch) (E : xE) {G : xw_G} {x ix vw : Nat} {op : Bool} {na nw : Int64} (hG : G x = some (eKF ix vw op na nw)) {avw : Nat} {ws : List Nat} (hW : xAL E G vw avw ws) {j : Int32} (hj : j < 0 ∨ nI ws.length ≤ j) : XMk l E y_KF_value w_KF_value rm_KF_value [.ref x, .int (j)] G (fun r G' => r = some (.long 0) ∧ G = G') 0 0 := by
  refine XM_of [some (.ref x), some (.int (j)), none] (XZ_st E) (by decide) rfl rfl rfl (Nat.le_of_ble_eq_true rfl) (fun p e s m below meth c C hnm => ?_)
  refine x_aload_n C d_KF_value_0 rfl rfl ?_
  refine x_iload_n C d_KF_value_1 rfl rfl ?_
  refine x_callV1 C (q_KF_viewAt_out l E hG hW hj) (lk_KF_51 C.hts (Nat.le_of_ble_eq_true rfl) (Nat.le_of_ble_eq_true rfl)) hG rfl rfl d_KF_value_2 (Nat.le_of_ble_eq_true rfl) (Nat.le_of_ble_eq_true rfl) (Nat.le_of_ble_eq_true rfl) (fun r G' h => ?_)
  obtain ⟨rfl, rfl⟩ := h
  refine x_astore_nN C d_KF_value_5 rfl (Nat.le_of_ble_eq_true rfl) rfl ?_
  refine x_aload_nN C d_KF_value_6 rfl rfl ?_
  refine x_ifnonnullN C d_KF_value_7 ?_
  refine x_lconst C (v := 0) d_KF_value_10 (by decide) ?_
  refine x_goto C 18 d_KF_value_11 (by decide) ?_
  exact x_lret C (Nat.le_of_ble_eq_true rfl) (Nat.le_of_ble_eq_true rfl) d_KF_value_18 ⟨rfl, rfl⟩
set_option maxRecDepth 100000 in
set_option maxHeartbeats 4000000 in
theorem q_KF_reference_in (l : Launch) (E : xE) {G : xw_G} {x ix vw : Nat} {op : Bool} {na nw : Int64} (hG : G x = some (eKF ix vw op na nw)) {avw : Nat} {ws : List Nat} (hW : xAL E G vw avw ws) {va : Nat} {vo ae hw : Bool} {mo ac kr pl : Int32} {pf pc vr pw : Int64} {rl : Value} (hV : G va = some (eVW vo mo ac kr pl pf pc ae rl vr hw pw)) {i : Nat} (hi : ws[i]? = some va) : XMk l E y_KF_reference w_KF_reference rm_KF_reference [.ref x, .int (nI i)] G (fun r G' => r = some (.int (if vo = false then -1 else kr)) ∧ G = G') 0 0 := by
  refine XM_of [some (.ref x), some (.int (nI i)), none] (XZ_st E) (by decide) rfl rfl rfl (Nat.le_of_ble_eq_true rfl) (fun p e s m below meth c C hnm => ?_)
  refine x_aload_n C d_KF_reference_0 rfl rfl ?_
  refine x_iload_n C d_KF_reference_1 rfl rfl ?_
  refine x_callV1 C (q_KF_viewAt_in l E hG hW hi hV) (lk_KF_51 C.hts (Nat.le_of_ble_eq_true rfl) (Nat.le_of_ble_eq_true rfl)) hG rfl rfl d_KF_reference_2 (Nat.le_of_ble_eq_true rfl) (Nat.le_of_ble_eq_true rfl) (Nat.le_of_ble_eq_true rfl) (fun r G' h => ?_)
  obtain ⟨rfl, rfl⟩ := h
  refine x_astore_n C d_KF_reference_5 rfl (Nat.le_of_ble_eq_true rfl) rfl ?_
  refine x_aload_n C d_KF_reference_6 rfl rfl ?_
  refine x_ifnull C d_KF_reference_7 ?_
  refine x_aload_n C d_KF_reference_10 rfl rfl ?_
  refine x_get C hV rfl (in_VW _) 0 (by decide) (List.mem_cons_of_mem _ f_KF_55) rfl d_KF_reference_11 ?_
  refine x_if_ne C 21 d_KF_reference_14 (by decide) (fun c_14 => ?_) (fun c_14 => ?_)
  · refine x_aload_n C d_KF_reference_21 rfl rfl ?_
    refine x_get C hV rfl (in_VW _) 3 (by decide) (List.mem_cons_of_mem _ f_KF_105) rfl d_KF_reference_22 ?_
    exact x_iret C (Nat.le_of_ble_eq_true rfl) (Nat.le_of_ble_eq_true rfl) d_KF_reference_25 ⟨congrArg some (congrArg Value.int (by simp_all [bI_0])), rfl⟩
  · refine x_iconst C (v := -1) d_KF_reference_17 (by decide) ?_
    refine x_goto C 25 d_KF_reference_18 (by decide) ?_
    exact x_iret C (Nat.le_of_ble_eq_true rfl) (Nat.le_of_ble_eq_true rfl) d_KF_reference_25 ⟨congrArg some (congrArg Value.int (by simp_all [bI_0])), rfl⟩
set_option maxRecDepth 100000 in
set_option maxHeartbeats 4000000 in
theorem q_KF_reference_out (l : Launch) (E : xE) {G : xw_G} {x ix vw : Nat} {op : Bool} {na nw : Int64} (hG : G x = some (eKF ix vw op na nw)) {avw : Nat} {ws : List Nat} (hW : xAL E G vw avw ws) {j : Int32} (hj : j < 0 ∨ nI ws.length ≤ j) : XMk l E y_KF_reference w_KF_reference rm_KF_reference [.ref x, .int (j)] G (fun r G' => r = some (.int (-1)) ∧ G = G') 0 0 := by
  refine XM_of [some (.ref x), some (.int (j)), none] (XZ_st E) (by decide) rfl rfl rfl (Nat.le_of_ble_eq_true rfl) (fun p e s m below meth c C hnm => ?_)
  refine x_aload_n C d_KF_reference_0 rfl rfl ?_
  refine x_iload_n C d_KF_reference_1 rfl rfl ?_
  refine x_callV1 C (q_KF_viewAt_out l E hG hW hj) (lk_KF_51 C.hts (Nat.le_of_ble_eq_true rfl) (Nat.le_of_ble_eq_true rfl)) hG rfl rfl d_KF_reference_2 (Nat.le_of_ble_eq_true rfl) (Nat.le_of_ble_eq_true rfl) (Nat.le_of_ble_eq_true rfl) (fun r G' h => ?_)
  obtain ⟨rfl, rfl⟩ := h
  refine x_astore_nN C d_KF_reference_5 rfl (Nat.le_of_ble_eq_true rfl) rfl ?_
  refine x_aload_nN C d_KF_reference_6 rfl rfl ?_
  refine x_ifnullN C 17 d_KF_reference_7 (by decide) ?_
  refine x_iconst C (v := -1) d_KF_reference_17 (by decide) ?_
  refine x_goto C 25 d_KF_reference_18 (by decide) ?_
  exact x_iret C (Nat.le_of_ble_eq_true rfl) (Nat.le_of_ble_eq_true rfl) d_KF_reference_25 ⟨rfl, rfl⟩
set_option maxRecDepth 100000 in
set_option maxHeartbeats 4000000 in
theorem q_KF_close_out (l : Launch) (E : xE) {G : xw_G} {x ix vw : Nat} {op : Bool} {na nw : Int64} (hG : G x = some (eKF ix vw op na nw)) {avw : Nat} {ws : List Nat} (hW : xAL E G vw avw ws) {j : Int32} (hj : j < 0 ∨ nI ws.length ≤ j) : XMk l E y_KF_close w_KF_close rm_KF_close [.ref x, .int (j)] G (fun r G' => r = some (.int (-1)) ∧ G = G') 0 0 := by
  refine XM_of [some (.ref x), some (.int (j)), none] (XZ_st E) (by decide) rfl rfl rfl (Nat.le_of_ble_eq_true rfl) (fun p e s m below meth c C hnm => ?_)
  refine x_aload_n C d_KF_close_0 rfl rfl ?_
  refine x_iload_n C d_KF_close_1 rfl rfl ?_
  refine x_callV1 C (q_KF_viewAt_out l E hG hW hj) (lk_KF_51 C.hts (Nat.le_of_ble_eq_true rfl) (Nat.le_of_ble_eq_true rfl)) hG rfl rfl d_KF_close_2 (Nat.le_of_ble_eq_true rfl) (Nat.le_of_ble_eq_true rfl) (Nat.le_of_ble_eq_true rfl) (fun r G' h => ?_)
  obtain ⟨rfl, rfl⟩ := h
  refine x_astore_nN C d_KF_close_5 rfl (Nat.le_of_ble_eq_true rfl) rfl ?_
  refine x_aload_nN C d_KF_close_6 rfl rfl ?_
  refine x_ifnonnullN C d_KF_close_7 ?_
  refine x_iconst C (v := -1) d_KF_close_10 (by decide) ?_
  exact x_iret C (Nat.le_of_ble_eq_true rfl) (Nat.le_of_ble_eq_true rfl) d_KF_close_11 ⟨rfl, rfl⟩
set_option maxRecDepth 100000 in
set_option maxHeartbeats 4000000 in
theorem q_KF_close_shut (l : Launch) (E : xE) {G : xw_G} {x ix vw : Nat} {op : Bool} {na nw : Int64} (hG : G x = some (eKF ix vw op na nw)) {avw : Nat} {ws : List Nat} (hW : xAL E G vw avw ws) {va : Nat} {vo ae hw : Bool} {mo ac kr pl : Int32} {pf pc vr pw : Int64} {rl : Value} (hV : G va = some (eVW vo mo ac kr pl pf pc ae rl vr hw pw)) {i : Nat} (hi : ws[i]? = some va) (ho : vo = false) : XMk l E y_KF_close w_KF_close rm_KF_close [.ref x, .int (nI i)] G (fun r G' => r = some (.int 42) ∧ G = G') 0 0 := by
  refine XM_of [some (.ref x), some (.int (nI i)), none] (XZ_st E) (by decide) rfl rfl rfl (Nat.le_of_ble_eq_true rfl) (fun p e s m below meth c C hnm => ?_)
  refine x_aload_n C d_KF_close_0 rfl rfl ?_
  refine x_iload_n C d_KF_close_1 rfl rfl ?_
  refine x_callV1 C (q_KF_viewAt_in l E hG hW hi hV) (lk_KF_51 C.hts (Nat.le_of_ble_eq_true rfl) (Nat.le_of_ble_eq_true rfl)) hG rfl rfl d_KF_close_2 (Nat.le_of_ble_eq_true rfl) (Nat.le_of_ble_eq_true rfl) (Nat.le_of_ble_eq_true rfl) (fun r G' h => ?_)
  obtain ⟨rfl, rfl⟩ := h
  refine x_astore_n C d_KF_close_5 rfl (Nat.le_of_ble_eq_true rfl) rfl ?_
  refine x_aload_n C d_KF_close_6 rfl rfl ?_
  refine x_ifnonnull C 12 d_KF_close_7 (by decide) ?_
  refine x_aload_n C d_KF_close_12 rfl rfl ?_
  refine x_get C hV rfl (in_VW _) 0 (by decide) (List.mem_cons_of_mem _ f_KF_55) rfl d_KF_close_13 ?_
  refine x_if_ne C 22 d_KF_close_16 (by decide) (fun c_16 => ?_) (fun c_16 => ?_)
  · exact absurd ((bI_0 vo).mpr ho) c_16
  · refine x_bipush C (v := 42) d_KF_close_19 (by decide) ?_
    exact x_iret C (Nat.le_of_ble_eq_true rfl) (Nat.le_of_ble_eq_true rfl) d_KF_close_21 ⟨rfl, rfl⟩
set_option maxRecDepth 100000 in
set_option maxHeartbeats 4000000 in
theorem q_KF_close_open (l : Launch) (E : xE) {G : xw_G} {x ix vw : Nat} {op : Bool} {na nw : Int64} (hG : G x = some (eKF ix vw op na nw)) {avw : Nat} {ws : List Nat} (hW : xAL E G vw avw ws) {va : Nat} {vo ae hw : Bool} {mo ac kr pl : Int32} {pf pc vr pw : Int64} {rl : Value} (hV : G va = some (eVW vo mo ac kr pl pf pc ae rl vr hw pw)) {i : Nat} (hi : ws[i]? = some va) (ho : vo = true) : XMk l E y_KF_close w_KF_close rm_KF_close [.ref x, .int (nI i)] G (fun r G' => r = some (.int 0) ∧ G' = va_up G va (some (eVW (false) mo ac kr pl pf pc ae (.null) (0) hw pw))) 0 0 := by
  refine XM_of [some (.ref x), some (.int (nI i)), none] (XZ_st E) (by decide) rfl rfl rfl (Nat.le_of_ble_eq_true rfl) (fun p e s m below meth c C hnm => ?_)
  refine x_aload_n C d_KF_close_0 rfl rfl ?_
  refine x_iload_n C d_KF_close_1 rfl rfl ?_
  refine x_callV1 C (q_KF_viewAt_in l E hG hW hi hV) (lk_KF_51 C.hts (Nat.le_of_ble_eq_true rfl) (Nat.le_of_ble_eq_true rfl)) hG rfl rfl d_KF_close_2 (Nat.le_of_ble_eq_true rfl) (Nat.le_of_ble_eq_true rfl) (Nat.le_of_ble_eq_true rfl) (fun r G' h => ?_)
  obtain ⟨rfl, rfl⟩ := h
  refine x_astore_n C d_KF_close_5 rfl (Nat.le_of_ble_eq_true rfl) rfl ?_
  refine x_aload_n C d_KF_close_6 rfl rfl ?_
  refine x_ifnonnull C 12 d_KF_close_7 (by decide) ?_
  refine x_aload_n C d_KF_close_12 rfl rfl ?_
  refine x_get C hV rfl (in_VW _) 0 (by decide) (List.mem_cons_of_mem _ f_KF_55) rfl d_KF_close_13 ?_
  refine x_if_ne C 22 d_KF_close_16 (by decide) (fun c_16 => ?_) (fun c_16 => ?_)
  · refine x_aload_n C d_KF_close_22 rfl rfl ?_
    refine x_callV0 C (q_VW_forgetRead l E hV) (lk_KF_65 C.hts (Nat.le_of_ble_eq_true rfl) (Nat.le_of_ble_eq_true rfl)) hV rfl rfl d_KF_close_23 (Nat.le_of_ble_eq_true rfl) (Nat.le_of_ble_eq_true rfl) (Nat.le_of_ble_eq_true rfl) (fun r G' h => ?_)
    obtain ⟨rfl, rfl⟩ := h
    refine x_aload_n C d_KF_close_26 rfl rfl ?_
    refine x_iconst C (v := 0) d_KF_close_27 (by decide) ?_
    refine x_put2 C rfl (in_VW _) ty_VW tok_VW nm_VW 0 (by decide) (List.mem_cons_of_mem _ f_KF_55) rfl (tok_VW 0 (by decide)) rfl rfl (Nat.le_of_ble_eq_true rfl) d_KF_close_28 ?_
    refine x_iconst C (v := 0) d_KF_close_31 (by decide) ?_
    exact x_iret C (Nat.le_of_ble_eq_true rfl) (Nat.le_of_ble_eq_true rfl) d_KF_close_32 ⟨rfl, rfl⟩
  · exact absurd c_16 (by rw [ho]; decide)
set_option maxRecDepth 100000 in
set_option maxHeartbeats 4000000 in
theorem q_KF_handOver (l : Launch) (E : xE) {G : xw_G} {ki en : Nat} {db sp : Bool} {fr sz : Int32} {lo : Int64} (hK : G ki = some (eKI db fr sz en sp lo)) {ar : Nat} {xs : List Nat} (hA : xAL E G en ar xs) {fd cm : Nat → Int64} {so : Nat → Nat} (hX : xEs G xs fd cm so) {va : Nat} {vo ae hw : Bool} {mo ac kr pl : Int32} {pf pc vr pw : Int64} {rl : Value} (hV : G va = some (eVW vo mo ac kr pl pf pc ae rl vr hw pw)) {a0 s0 : Nat} {f d by1 sw : Int64} {th back : Bool} (hN : G a0 = some (eEN f d s0)) (hS : G s0 = some (eST by1 th sw)) {k : Nat} (hk : k ≤ xs.length) (hp : ∀ i : Nat, i < xs.length → (ahead (fd i) (cm i) f d = true ↔ i < k)) : XMk l E y_KF_handOver w_KF_handOver rm_KF_handOver [.ref va, .ref ki, .ref a0, .int (bI back)] G (fun r G' => r = some (.int (if eqNext xs.length fd k f back = true then 2 else 0)) ∧ G' = va_up G va (some (eVW vo mo ac kr (1) (f) (d) (false) (.ref s0) (by1) hw pw))) 0 0 := by
  refine XM_of [some (.ref va), some (.ref ki), some (.ref a0), some (.int (bI back))] (XZ_st E) (by decide) rfl rfl rfl (Nat.le_of_ble_eq_true rfl) (fun p e s m below meth c C hnm => ?_)
  refine x_aload_n C d_KF_handOver_0 rfl rfl ?_
  refine x_aload_n C d_KF_handOver_1 rfl rfl ?_
  refine x_callV1 C (q_VW_noteRead l E hV hN hS) (lk_KF_241 C.hts (Nat.le_of_ble_eq_true rfl) (Nat.le_of_ble_eq_true rfl)) hV rfl rfl d_KF_handOver_2 (Nat.le_of_ble_eq_true rfl) (Nat.le_of_ble_eq_true rfl) (Nat.le_of_ble_eq_true rfl) (fun r G' h => ?_)
  obtain ⟨rfl, rfl⟩ := h
  refine x_aload_n C d_KF_handOver_5 rfl rfl ?_
  refine x_aload_n C d_KF_handOver_6 rfl rfl ?_
  refine x_iload_n C d_KF_handOver_7 rfl rfl ?_
  refine x_callV2 C (q_KI_hasEqualNextTo l E (xw_keep hK (xw_neC hK hV (by decide))) (xAL_up hV (by decide) hA) (fun i a ha => xw_keep (hX i a ha) (xw_neC (hX i a ha) hV (by decide))) (xw_keep hN (xw_neC hN hV (by decide))) hk hp) (lk_KF_244 C.hts (Nat.le_of_ble_eq_true rfl) (Nat.le_of_ble_eq_true rfl)) (xw_keep hK (xw_neC hK hV (by decide))) rfl rfl d_KF_handOver_8 (Nat.le_of_ble_eq_true rfl) (Nat.le_of_ble_eq_true rfl) (Nat.le_of_ble_eq_true rfl) (fun r G' h => ?_)
  obtain ⟨rfl, rfl⟩ := h
  refine x_if_eq C 18 d_KF_handOver_11 (by decide) (fun c_11 => ?_) (fun c_11 => ?_)
  · refine x_iconst C (v := 0) d_KF_handOver_18 (by decide) ?_
    exact x_iret C (Nat.le_of_ble_eq_true rfl) (Nat.le_of_ble_eq_true rfl) d_KF_handOver_19 ⟨congrArg some (congrArg Value.int (by simp_all [bI_0])), rfl⟩
  · refine x_iconst C (v := 2) d_KF_handOver_14 (by decide) ?_
    refine x_goto C 19 d_KF_handOver_15 (by decide) ?_
    exact x_iret C (Nat.le_of_ble_eq_true rfl) (Nat.le_of_ble_eq_true rfl) d_KF_handOver_19 ⟨congrArg some (congrArg Value.int (by simp_all [bI_0])), rfl⟩
set_option maxRecDepth 100000 in
set_option maxHeartbeats 4000000 in
theorem q_KF_scan_nk (l : Launch) (E : xE) {G : xw_G} {x ix vw : Nat} {op : Bool} {na nw : Int64} (hG : G x = some (eKF ix vw op na nw)) {aix : Nat} {ks : List Nat} (hI : xAL E G ix aix ks) {j : Int32} (hkj : j < 0 ∨ nI ks.length ≤ j) {z : Int32} : XMk l E y_KF_scan w_KF_scan rm_KF_scan [.ref x, .int (j), .int (z)] G (fun r G' => r = some (.long 0) ∧ G = G') 0 0 := by
  refine XM_of [some (.ref x), some (.int (j)), some (.int (z)), none, none] (XZ_st E) (by decide) rfl rfl rfl (Nat.le_of_ble_eq_true rfl) (fun p e s m below meth c C hnm => ?_)
  refine x_aload_n C d_KF_scan_0 rfl rfl ?_
  refine x_iload_n C d_KF_scan_1 rfl rfl ?_
  refine x_callV1 C (q_KF_indexAt_out l E hG hI hkj) (lk_KF_36 C.hts (Nat.le_of_ble_eq_true rfl) (Nat.le_of_ble_eq_true rfl)) hG rfl rfl d_KF_scan_2 (Nat.le_of_ble_eq_true rfl) (Nat.le_of_ble_eq_true rfl) (Nat.le_of_ble_eq_true rfl) (fun r G' h => ?_)
  obtain ⟨rfl, rfl⟩ := h
  refine x_astore_nN C d_KF_scan_5 rfl (Nat.le_of_ble_eq_true rfl) rfl ?_
  refine x_aload_nN C d_KF_scan_6 rfl rfl ?_
  refine x_ifnonnullN C d_KF_scan_7 ?_
  refine x_null C d_KF_scan_10 ?_
  refine x_goto C 19 d_KF_scan_11 (by decide) ?_
  refine x_astoreN C d_KF_scan_19 (Nat.le_of_ble_eq_true rfl) rfl ?_
  refine x_aloadN C d_KF_scan_21 rfl ?_
  refine x_ifnonnullN C d_KF_scan_23 ?_
  refine x_lconst C (v := 0) d_KF_scan_26 (by decide) ?_
  refine x_goto C 38 d_KF_scan_27 (by decide) ?_
  exact x_lret C (Nat.le_of_ble_eq_true rfl) (Nat.le_of_ble_eq_true rfl) d_KF_scan_38 ⟨rfl, rfl⟩
set_option maxRecDepth 100000 in
set_option maxHeartbeats 4000000 in
theorem q_KF_scan_out (l : Launch) (E : xE) {G : xw_G} {x ix vw : Nat} {op : Bool} {na nw : Int64} (hG : G x = some (eKF ix vw op na nw)) {aix : Nat} {ks : List Nat} (hI : xAL E G ix aix ks) {ki en : Nat} {db sp : Bool} {fr sz : Int32} {lo : Int64} (hK : G ki = some (eKI db fr sz en sp lo)) {ar : Nat} {xs : List Nat} (hA : xAL E G en ar xs) {i : Nat} (hki : ks[i]? = some ki) {z : Int32} (hz : z < 0 ∨ nI xs.length ≤ z) : XMk l E y_KF_scan w_KF_scan rm_KF_scan [.ref x, .int (nI i), .int (z)] G (fun r G' => r = some (.long 0) ∧ G = G') 0 0 := by
  refine XM_of [some (.ref x), some (.int (nI i)), some (.int (z)), none, none] (XZ_st E) (by decide) rfl rfl rfl (Nat.le_of_ble_eq_true rfl) (fun p e s m below meth c C hnm => ?_)
  refine x_aload_n C d_KF_scan_0 rfl rfl ?_
  refine x_iload_n C d_KF_scan_1 rfl rfl ?_
  refine x_callV1 C (q_KF_indexAt_in l E hG hI hki hK) (lk_KF_36 C.hts (Nat.le_of_ble_eq_true rfl) (Nat.le_of_ble_eq_true rfl)) hG rfl rfl d_KF_scan_2 (Nat.le_of_ble_eq_true rfl) (Nat.le_of_ble_eq_true rfl) (Nat.le_of_ble_eq_true rfl) (fun r G' h => ?_)
  obtain ⟨rfl, rfl⟩ := h
  refine x_astore_n C d_KF_scan_5 rfl (Nat.le_of_ble_eq_true rfl) rfl ?_
  refine x_aload_n C d_KF_scan_6 rfl rfl ?_
  refine x_ifnonnull C 14 d_KF_scan_7 (by decide) ?_
  refine x_aload_n C d_KF_scan_14 rfl rfl ?_
  refine x_iload_n C d_KF_scan_15 rfl rfl ?_
  refine x_callV1 C (q_KI_entryAt_out l E hK hA hz) (lk_KF_167 C.hts (Nat.le_of_ble_eq_true rfl) (Nat.le_of_ble_eq_true rfl)) hK rfl rfl d_KF_scan_16 (Nat.le_of_ble_eq_true rfl) (Nat.le_of_ble_eq_true rfl) (Nat.le_of_ble_eq_true rfl) (fun r G' h => ?_)
  obtain ⟨rfl, rfl⟩ := h
  refine x_astoreN C d_KF_scan_19 (Nat.le_of_ble_eq_true rfl) rfl ?_
  refine x_aloadN C d_KF_scan_21 rfl ?_
  refine x_ifnonnullN C d_KF_scan_23 ?_
  refine x_lconst C (v := 0) d_KF_scan_26 (by decide) ?_
  refine x_goto C 38 d_KF_scan_27 (by decide) ?_
  exact x_lret C (Nat.le_of_ble_eq_true rfl) (Nat.le_of_ble_eq_true rfl) d_KF_scan_38 ⟨rfl, rfl⟩
set_option maxRecDepth 100000 in
set_option maxHeartbeats 4000000 in
theorem q_KF_scan_in (l : Launch) (E : xE) {G : xw_G} {x ix vw : Nat} {op : Bool} {na nw : Int64} (hG : G x = some (eKF ix vw op na nw)) {aix : Nat} {ks : List Nat} (hI : xAL E G ix aix ks) {ki en : Nat} {db sp : Bool} {fr sz : Int32} {lo : Int64} (hK : G ki = some (eKI db fr sz en sp lo)) {ar : Nat} {xs : List Nat} (hA : xAL E G en ar xs) {i : Nat} (hki : ks[i]? = some ki) {k a s0 : Nat} {f d by1 sw : Int64} {th : Bool} (hk : xs[k]? = some a) (hN : G a = some (eEN f d s0)) (hS : G s0 = some (eST by1 th sw)) : XMk l E y_KF_scan w_KF_scan rm_KF_scan [.ref x, .int (nI i), .int (nI k)] G (fun r G' => r = some (.long by1) ∧ G = G') 0 0 := by
  refine XM_of [some (.ref x), some (.int (nI i)), some (.int (nI k)), none, none] (XZ_st E) (by decide) rfl rfl rfl (Nat.le_of_ble_eq_true rfl) (fun p e s m below meth c C hnm => ?_)
  refine x_aload_n C d_KF_scan_0 rfl rfl ?_
  refine x_iload_n C d_KF_scan_1 rfl rfl ?_
  refine x_callV1 C (q_KF_indexAt_in l E hG hI hki hK) (lk_KF_36 C.hts (Nat.le_of_ble_eq_true rfl) (Nat.le_of_ble_eq_true rfl)) hG rfl rfl d_KF_scan_2 (Nat.le_of_ble_eq_true rfl) (Nat.le_of_ble_eq_true rfl) (Nat.le_of_ble_eq_true rfl) (fun r G' h => ?_)
  obtain ⟨rfl, rfl⟩ := h
  refine x_astore_n C d_KF_scan_5 rfl (Nat.le_of_ble_eq_true rfl) rfl ?_
  refine x_aload_n C d_KF_scan_6 rfl rfl ?_
  refine x_ifnonnull C 14 d_KF_scan_7 (by decide) ?_
  refine x_aload_n C d_KF_scan_14 rfl rfl ?_
  refine x_iload_n C d_KF_scan_15 rfl rfl ?_
  refine x_callV1 C (q_KI_entryAt_in l E hK hA hk hN) (lk_KF_167 C.hts (Nat.le_of_ble_eq_true rfl) (Nat.le_of_ble_eq_true rfl)) hK rfl rfl d_KF_scan_16 (Nat.le_of_ble_eq_true rfl) (Nat.le_of_ble_eq_true rfl) (Nat.le_of_ble_eq_true rfl) (fun r G' h => ?_)
  obtain ⟨rfl, rfl⟩ := h
  refine x_astore C d_KF_scan_19 (Nat.le_of_ble_eq_true rfl) rfl ?_
  refine x_aload C d_KF_scan_21 rfl ?_
  refine x_ifnonnull C 30 d_KF_scan_23 (by decide) ?_
  refine x_aload C d_KF_scan_30 rfl ?_
  refine x_get C hN rfl (in_EN _) 2 (by decide) (List.mem_cons_of_mem _ f_KF_171) rfl d_KF_scan_32 ?_
  refine x_get C hS rfl (in_ST _) 0 (by decide) (List.mem_cons_of_mem _ f_KF_156) rfl d_KF_scan_35 ?_
  exact x_lret C (Nat.le_of_ble_eq_true rfl) (Nat.le_of_ble_eq_true rfl) d_KF_scan_38 ⟨rfl, rfl⟩
