set_option maxRecDepth 100000 in
set_option maxHeartbeats 4000000 in
theorem q_KF_next_nv (l : Launch) (E : xE) {G : xw_G} {x ix vw : Nat} {op : Bool} {na nw : Int64} (hG : G x = some (eKF ix vw op na nw)) {avw : Nat} {ws : List Nat} (hW : xAL E G vw avw ws) {j : Int32} (hj : j < 0 ∨ nI ws.length ≤ j) {back : Bool} : XMk l E y_KF_next w_KF_next rm_KF_next [.ref x, .int (j), .int (bI back)] G (fun r G' => r = some (.int (-1)) ∧ G = G') 0 0 := by
  refine XM_of [some (.ref x), some (.int (j)), some (.int (bI back)), none, none, none, none] (XZ_st E) (by decide) rfl rfl rfl (Nat.le_of_ble_eq_true rfl) (fun p e s m below meth c C hnm => ?_)
  refine x_aload_n C d_KF_next_0 rfl rfl ?_
  refine x_iload_n C d_KF_next_1 rfl rfl ?_
  refine x_callV1 C (q_KF_viewAt_out l E hG hW hj) (lk_KF_51 C.hts (Nat.le_of_ble_eq_true rfl) (Nat.le_of_ble_eq_true rfl)) hG rfl rfl d_KF_next_2 (Nat.le_of_ble_eq_true rfl) (Nat.le_of_ble_eq_true rfl) (Nat.le_of_ble_eq_true rfl) (fun r G' h => ?_)
  obtain ⟨rfl, rfl⟩ := h
  refine x_astore_nN C d_KF_next_5 rfl (Nat.le_of_ble_eq_true rfl) rfl ?_
  refine x_aload_nN C d_KF_next_6 rfl rfl ?_
  refine x_ifnonnullN C d_KF_next_7 ?_
  refine x_iconst C (v := -1) d_KF_next_10 (by decide) ?_
  exact x_iret C (Nat.le_of_ble_eq_true rfl) (Nat.le_of_ble_eq_true rfl) d_KF_next_11 ⟨rfl, rfl⟩
set_option maxRecDepth 100000 in
set_option maxHeartbeats 4000000 in
theorem q_KF_next_ref (l : Launch) (E : xE) {G : xw_G} {x ix vw : Nat} {op : Bool} {na nw : Int64} (hG : G x = some (eKF ix vw op na nw)) {avw : Nat} {ws : List Nat} (hW : xAL E G vw avw ws) {va : Nat} {vo ae hw : Bool} {mo ac kr pl : Int32} {pf pc vr pw : Int64} {rl : Value} (hV : G va = some (eVW vo mo ac kr pl pf pc ae rl vr hw pw)) {i : Nat} (hi : ws[i]? = some va) {back : Bool} (hr : ¬ refRead vo mo ac 1 = 0) : XMk l E y_KF_next w_KF_next rm_KF_next [.ref x, .int (nI i), .int (bI back)] G (fun r G' => r = some (.int (refRead vo mo ac 1)) ∧ G = G') 0 0 := by
  refine XM_of [some (.ref x), some (.int (nI i)), some (.int (bI back)), none, none, none, none] (XZ_st E) (by decide) rfl rfl rfl (Nat.le_of_ble_eq_true rfl) (fun p e s m below meth c C hnm => ?_)
  refine x_aload_n C d_KF_next_0 rfl rfl ?_
  refine x_iload_n C d_KF_next_1 rfl rfl ?_
  refine x_callV1 C (q_KF_viewAt_in l E hG hW hi hV) (lk_KF_51 C.hts (Nat.le_of_ble_eq_true rfl) (Nat.le_of_ble_eq_true rfl)) hG rfl rfl d_KF_next_2 (Nat.le_of_ble_eq_true rfl) (Nat.le_of_ble_eq_true rfl) (Nat.le_of_ble_eq_true rfl) (fun r G' h => ?_)
  obtain ⟨rfl, rfl⟩ := h
  refine x_astore_n C d_KF_next_5 rfl (Nat.le_of_ble_eq_true rfl) rfl ?_
  refine x_aload_n C d_KF_next_6 rfl rfl ?_
  refine x_ifnonnull C 12 d_KF_next_7 (by decide) ?_
  refine x_aload_n C d_KF_next_12 rfl rfl ?_
  refine x_iconst C (v := 1) d_KF_next_13 (by decide) ?_
  refine x_callV1 C (q_VW_refusalToRead l E hV) (lk_KF_102 C.hts (Nat.le_of_ble_eq_true rfl) (Nat.le_of_ble_eq_true rfl)) hV rfl rfl d_KF_next_14 (Nat.le_of_ble_eq_true rfl) (Nat.le_of_ble_eq_true rfl) (Nat.le_of_ble_eq_true rfl) (fun r G' h => ?_)
  obtain ⟨rfl, rfl⟩ := h
  refine x_istore C d_KF_next_17 (Nat.le_of_ble_eq_true rfl) rfl ?_
  refine x_iload C d_KF_next_19 rfl ?_
  refine x_if_eq C 27 d_KF_next_21 (by decide) (fun c_21 => ?_) (fun c_21 => ?_)
  · exact absurd c_21 hr
  · refine x_iload C d_KF_next_24 rfl ?_
    exact x_iret C (Nat.le_of_ble_eq_true rfl) (Nat.le_of_ble_eq_true rfl) d_KF_next_26 ⟨rfl, rfl⟩
set_option maxRecDepth 100000 in
set_option maxHeartbeats 4000000 in
theorem q_KF_next_46 (l : Launch) (E : xE) {G : xw_G} {x ix vw : Nat} {op : Bool} {na nw : Int64} (hG : G x = some (eKF ix vw op na nw)) {aix : Nat} {ks : List Nat} (hI : xAL E G ix aix ks) {avw : Nat} {ws : List Nat} (hW : xAL E G vw avw ws) {va : Nat} {vo ae hw : Bool} {mo ac pl : Int32} {i2 : Nat} {pf pc vr pw : Int64} {rl : Value} (hV : G va = some (eVW vo mo ac (nI i2) pl pf pc ae rl vr hw pw)) {i : Nat} (hi : ws[i]? = some va) {ki en : Nat} {db sp : Bool} {fr sz : Int32} {lo : Int64} (hK : G ki = some (eKI db fr sz en sp lo)) (hki : ks[i2]? = some ki) {back : Bool} (hr : refRead vo mo ac 1 = 0) (hl : pl = 3 ∨ ae = true) : XMk l E y_KF_next w_KF_next rm_KF_next [.ref x, .int (nI i), .int (bI back)] G (fun r G' => r = some (.int 46) ∧ G' = va_up G va (some (eVW vo mo ac (nI i2) pl pf pc ae (.null) (0) hw pw))) 0 0 := by
  refine XM_of [some (.ref x), some (.int (nI i)), some (.int (bI back)), none, none, none, none] (XZ_st E) (by decide) rfl rfl rfl (Nat.le_of_ble_eq_true rfl) (fun p e s m below meth c C hnm => ?_)
  refine x_aload_n C d_KF_next_0 rfl rfl ?_
  refine x_iload_n C d_KF_next_1 rfl rfl ?_
  refine x_callV1 C (q_KF_viewAt_in l E hG hW hi hV) (lk_KF_51 C.hts (Nat.le_of_ble_eq_true rfl) (Nat.le_of_ble_eq_true rfl)) hG rfl rfl d_KF_next_2 (Nat.le_of_ble_eq_true rfl) (Nat.le_of_ble_eq_true rfl) (Nat.le_of_ble_eq_true rfl) (fun r G' h => ?_)
  obtain ⟨rfl, rfl⟩ := h
  refine x_astore_n C d_KF_next_5 rfl (Nat.le_of_ble_eq_true rfl) rfl ?_
  refine x_aload_n C d_KF_next_6 rfl rfl ?_
  refine x_ifnonnull C 12 d_KF_next_7 (by decide) ?_
  refine x_aload_n C d_KF_next_12 rfl rfl ?_
  refine x_iconst C (v := 1) d_KF_next_13 (by decide) ?_
  refine x_callV1 C (q_VW_refusalToRead l E hV) (lk_KF_102 C.hts (Nat.le_of_ble_eq_true rfl) (Nat.le_of_ble_eq_true rfl)) hV rfl rfl d_KF_next_14 (Nat.le_of_ble_eq_true rfl) (Nat.le_of_ble_eq_true rfl) (Nat.le_of_ble_eq_true rfl) (fun r G' h => ?_)
  obtain ⟨rfl, rfl⟩ := h
  refine x_istore C d_KF_next_17 (Nat.le_of_ble_eq_true rfl) rfl ?_
  refine x_iload C d_KF_next_19 rfl ?_
  refine x_if_eq C 27 d_KF_next_21 (by decide) (fun c_21 => ?_) (fun c_21 => ?_)
  · refine x_aload_n C d_KF_next_27 rfl rfl ?_
    refine x_callV0 C (q_VW_forgetRead l E hV) (lk_KF_65 C.hts (Nat.le_of_ble_eq_true rfl) (Nat.le_of_ble_eq_true rfl)) hV rfl rfl d_KF_next_28 (Nat.le_of_ble_eq_true rfl) (Nat.le_of_ble_eq_true rfl) (Nat.le_of_ble_eq_true rfl) (fun r G' h => ?_)
    obtain ⟨rfl, rfl⟩ := h
    refine x_aload_n C d_KF_next_31 rfl rfl ?_
    refine x_aload_n C d_KF_next_32 rfl rfl ?_
    refine x_get C (va_up_self _ _ _) rfl (in_VW _) 3 (by decide) (List.mem_cons_of_mem _ f_KF_105) rfl d_KF_next_33 ?_
    refine x_callV1 C (q_KF_indexAt_in l E (xw_keep hG (xw_neC hG hV (by decide))) (xAL_up hV (by decide) hI) hki (xw_keep hK (xw_neC hK hV (by decide)))) (lk_KF_36 C.hts (Nat.le_of_ble_eq_true rfl) (Nat.le_of_ble_eq_true rfl)) (xw_keep hG (xw_neC hG hV (by decide))) rfl rfl d_KF_next_36 (Nat.le_of_ble_eq_true rfl) (Nat.le_of_ble_eq_true rfl) (Nat.le_of_ble_eq_true rfl) (fun r G' h => ?_)
    obtain ⟨rfl, rfl⟩ := h
    refine x_astore C d_KF_next_39 (Nat.le_of_ble_eq_true rfl) rfl ?_
    refine x_aload C d_KF_next_41 rfl ?_
    refine x_ifnull C d_KF_next_43 ?_
    refine x_aload_n C d_KF_next_46 rfl rfl ?_
    refine x_get C (va_up_self _ _ _) rfl (in_VW _) 4 (by decide) (List.mem_cons_of_mem _ f_KF_133) rfl d_KF_next_47 ?_
    refine x_iconst C (v := 3) d_KF_next_50 (by decide) ?_
    refine x_icmp_eq C 61 d_KF_next_51 (by decide) (fun c_51 => ?_) (fun c_51 => ?_)
    · refine x_bipush C (v := 46) d_KF_next_61 (by decide) ?_
      exact x_iret C (Nat.le_of_ble_eq_true rfl) (Nat.le_of_ble_eq_true rfl) d_KF_next_63 ⟨rfl, rfl⟩
    · refine x_aload_n C d_KF_next_54 rfl rfl ?_
      refine x_get C (va_up_self _ _ _) rfl (in_VW _) 7 (by decide) (List.mem_cons_of_mem _ f_KF_136) rfl d_KF_next_55 ?_
      refine x_if_eq C 64 d_KF_next_58 (by decide) (fun c_58 => ?_) (fun c_58 => ?_)
      · exact absurd hl (fun q => q.elim c_51 (fun q => absurd ((bI_0 ae).mp c_58) (by rw [q]; decide)))
      · refine x_bipush C (v := 46) d_KF_next_61 (by decide) ?_
        exact x_iret C (Nat.le_of_ble_eq_true rfl) (Nat.le_of_ble_eq_true rfl) d_KF_next_63 ⟨rfl, rfl⟩
  · exact absurd hr c_21
set_option maxRecDepth 100000 in
set_option maxHeartbeats 4000000 in
theorem q_KF_next_10_b0 (l : Launch) (E : xE) {G : xw_G} {x ix vw : Nat} {op : Bool} {na nw : Int64} (hG : G x = some (eKF ix vw op na nw)) {aix : Nat} {ks : List Nat} (hI : xAL E G ix aix ks) {avw : Nat} {ws : List Nat} (hW : xAL E G vw avw ws) {va : Nat} {vo ae hw : Bool} {mo ac pl : Int32} {i2 : Nat} {pf pc vr pw : Int64} {rl : Value} (hV : G va = some (eVW vo mo ac (nI i2) pl pf pc ae rl vr hw pw)) {i : Nat} (hi : ws[i]? = some va) {ki en : Nat} {db sp : Bool} {fr sz : Int32} {lo : Int64} (hK : G ki = some (eKI db fr sz en sp lo)) (hki : ks[i2]? = some ki) {ar : Nat} {xs : List Nat} (hA : xAL E G en ar xs) {fd cm : Nat → Int64} {so : Nat → Nat} (hX : xEs G xs fd cm so) (h0p : pl = 0) (hr : refRead vo mo ac 1 = 0) (hl1 : ¬ pl = 3) (hl2 : ae = false) : XMk l E y_KF_next w_KF_next rm_KF_next [.ref x, .int (nI i), .int (bI true)] G (fun r G' => r = some (.int 10) ∧ G' = va_up G va (some (eVW vo mo ac (nI i2) pl pf pc (true) (.null) (0) hw pw))) 0 0 := by
  refine XM_of [some (.ref x), some (.int (nI i)), some (.int (bI true)), none, none, none, none] (XZ_st E) (by decide) rfl rfl rfl (Nat.le_of_ble_eq_true rfl) (fun p e s m below meth c C hnm => ?_)
  refine x_aload_n C d_KF_next_0 rfl rfl ?_
  refine x_iload_n C d_KF_next_1 rfl rfl ?_
  refine x_callV1 C (q_KF_viewAt_in l E hG hW hi hV) (lk_KF_51 C.hts (Nat.le_of_ble_eq_true rfl) (Nat.le_of_ble_eq_true rfl)) hG rfl rfl d_KF_next_2 (Nat.le_of_ble_eq_true rfl) (Nat.le_of_ble_eq_true rfl) (Nat.le_of_ble_eq_true rfl) (fun r G' h => ?_)
  obtain ⟨rfl, rfl⟩ := h
  refine x_astore_n C d_KF_next_5 rfl (Nat.le_of_ble_eq_true rfl) rfl ?_
  refine x_aload_n C d_KF_next_6 rfl rfl ?_
  refine x_ifnonnull C 12 d_KF_next_7 (by decide) ?_
  refine x_aload_n C d_KF_next_12 rfl rfl ?_
  refine x_iconst C (v := 1) d_KF_next_13 (by decide) ?_
  refine x_callV1 C (q_VW_refusalToRead l E hV) (lk_KF_102 C.hts (Nat.le_of_ble_eq_true rfl) (Nat.le_of_ble_eq_true rfl)) hV rfl rfl d_KF_next_14 (Nat.le_of_ble_eq_true rfl) (Nat.le_of_ble_eq_true rfl) (Nat.le_of_ble_eq_true rfl) (fun r G' h => ?_)
  obtain ⟨rfl, rfl⟩ := h
  refine x_istore C d_KF_next_17 (Nat.le_of_ble_eq_true rfl) rfl ?_
  refine x_iload C d_KF_next_19 rfl ?_
  refine x_if_eq C 27 d_KF_next_21 (by decide) (fun c_21 => ?_) (fun c_21 => ?_)
  · refine x_aload_n C d_KF_next_27 rfl rfl ?_
    refine x_callV0 C (q_VW_forgetRead l E hV) (lk_KF_65 C.hts (Nat.le_of_ble_eq_true rfl) (Nat.le_of_ble_eq_true rfl)) hV rfl rfl d_KF_next_28 (Nat.le_of_ble_eq_true rfl) (Nat.le_of_ble_eq_true rfl) (Nat.le_of_ble_eq_true rfl) (fun r G' h => ?_)
    obtain ⟨rfl, rfl⟩ := h
    refine x_aload_n C d_KF_next_31 rfl rfl ?_
    refine x_aload_n C d_KF_next_32 rfl rfl ?_
    refine x_get C (va_up_self _ _ _) rfl (in_VW _) 3 (by decide) (List.mem_cons_of_mem _ f_KF_105) rfl d_KF_next_33 ?_
    refine x_callV1 C (q_KF_indexAt_in l E (xw_keep hG (xw_neC hG hV (by decide))) (xAL_up hV (by decide) hI) hki (xw_keep hK (xw_neC hK hV (by decide)))) (lk_KF_36 C.hts (Nat.le_of_ble_eq_true rfl) (Nat.le_of_ble_eq_true rfl)) (xw_keep hG (xw_neC hG hV (by decide))) rfl rfl d_KF_next_36 (Nat.le_of_ble_eq_true rfl) (Nat.le_of_ble_eq_true rfl) (Nat.le_of_ble_eq_true rfl) (fun r G' h => ?_)
    obtain ⟨rfl, rfl⟩ := h
    refine x_astore C d_KF_next_39 (Nat.le_of_ble_eq_true rfl) rfl ?_
    refine x_aload C d_KF_next_41 rfl ?_
    refine x_ifnull C d_KF_next_43 ?_
    refine x_aload_n C d_KF_next_46 rfl rfl ?_
    refine x_get C (va_up_self _ _ _) rfl (in_VW _) 4 (by decide) (List.mem_cons_of_mem _ f_KF_133) rfl d_KF_next_47 ?_
    refine x_iconst C (v := 3) d_KF_next_50 (by decide) ?_
    refine x_icmp_eq C 61 d_KF_next_51 (by decide) (fun c_51 => ?_) (fun c_51 => ?_)
    · exact absurd c_51 hl1
    · refine x_aload_n C d_KF_next_54 rfl rfl ?_
      refine x_get C (va_up_self _ _ _) rfl (in_VW _) 7 (by decide) (List.mem_cons_of_mem _ f_KF_136) rfl d_KF_next_55 ?_
      refine x_if_eq C 64 d_KF_next_58 (by decide) (fun c_58 => ?_) (fun c_58 => ?_)
      · refine x_iload_n C d_KF_next_64 rfl rfl ?_
        refine x_if_eq C 77 d_KF_next_65 (by decide) (fun c_65 => ?_) (fun c_65 => ?_)
        · exact absurd c_65 (by decide)
        · refine x_aload C d_KF_next_68 rfl ?_
          refine x_aload_n C d_KF_next_70 rfl rfl ?_
          refine x_callV1 C (q_KI_entryAheadOf_0 l E (xw_keep hK (xw_neC hK hV (by decide))) (va_up_self _ _ _) h0p) (lk_KF_139 C.hts (Nat.le_of_ble_eq_true rfl) (Nat.le_of_ble_eq_true rfl)) (xw_keep hK (xw_neC hK hV (by decide))) rfl rfl d_KF_next_71 (Nat.le_of_ble_eq_true rfl) (Nat.le_of_ble_eq_true rfl) (Nat.le_of_ble_eq_true rfl) (fun r G' h => ?_)
          obtain ⟨rfl, rfl⟩ := h
          refine x_goto C 83 d_KF_next_74 (by decide) ?_
          refine x_astoreN C d_KF_next_83 (Nat.le_of_ble_eq_true rfl) rfl ?_
          refine x_aloadN C d_KF_next_85 rfl ?_
          refine x_ifnonnullN C d_KF_next_87 ?_
          refine x_aload_n C d_KF_next_90 rfl rfl ?_
          refine x_iconst C (v := 1) d_KF_next_91 (by decide) ?_
          refine x_put2 C rfl (in_VW _) ty_VW tok_VW nm_VW 7 (by decide) (List.mem_cons_of_mem _ f_KF_136) rfl (tok_VW 7 (by decide)) rfl rfl (Nat.le_of_ble_eq_true rfl) d_KF_next_92 ?_
          refine x_bipush C (v := 10) d_KF_next_95 (by decide) ?_
          exact x_iret C (Nat.le_of_ble_eq_true rfl) (Nat.le_of_ble_eq_true rfl) d_KF_next_97 ⟨rfl, rfl⟩
      · exact absurd ((bI_0 ae).mpr hl2) c_58
  · exact absurd hr c_21
set_option maxRecDepth 100000 in
set_option maxHeartbeats 4000000 in
theorem q_KF_next_10_bn (l : Launch) (E : xE) {G : xw_G} {x ix vw : Nat} {op : Bool} {na nw : Int64} (hG : G x = some (eKF ix vw op na nw)) {aix : Nat} {ks : List Nat} (hI : xAL E G ix aix ks) {avw : Nat} {ws : List Nat} (hW : xAL E G vw avw ws) {va : Nat} {vo ae hw : Bool} {mo ac pl : Int32} {i2 : Nat} {pf pc vr pw : Int64} {rl : Value} (hV : G va = some (eVW vo mo ac (nI i2) pl pf pc ae rl vr hw pw)) {i : Nat} (hi : ws[i]? = some va) {ki en : Nat} {db sp : Bool} {fr sz : Int32} {lo : Int64} (hK : G ki = some (eKI db fr sz en sp lo)) (hki : ks[i2]? = some ki) {ar : Nat} {xs : List Nat} (hA : xAL E G en ar xs) {fd cm : Nat → Int64} {so : Nat → Nat} (hX : xEs G xs fd cm so) (h0p : ¬ pl = 0) {k : Nat} (hk : k ≤ xs.length) (hp : ∀ i : Nat, i < xs.length → (ahead (fd i) (cm i) pf (if pl = 2 then pc + 1 else pc) = true ↔ i < k)) (hr : refRead vo mo ac 1 = 0) (hl1 : ¬ pl = 3) (hl2 : ae = false) (ho : oBk k = none) : XMk l E y_KF_next w_KF_next rm_KF_next [.ref x, .int (nI i), .int (bI true)] G (fun r G' => r = some (.int 10) ∧ G' = va_up G va (some (eVW vo mo ac (nI i2) pl pf pc (true) (.null) (0) hw pw))) 0 0 := by
  refine XM_of [some (.ref x), some (.int (nI i)), some (.int (bI true)), none, none, none, none] (XZ_st E) (by decide) rfl rfl rfl (Nat.le_of_ble_eq_true rfl) (fun p e s m below meth c C hnm => ?_)
  refine x_aload_n C d_KF_next_0 rfl rfl ?_
  refine x_iload_n C d_KF_next_1 rfl rfl ?_
  refine x_callV1 C (q_KF_viewAt_in l E hG hW hi hV) (lk_KF_51 C.hts (Nat.le_of_ble_eq_true rfl) (Nat.le_of_ble_eq_true rfl)) hG rfl rfl d_KF_next_2 (Nat.le_of_ble_eq_true rfl) (Nat.le_of_ble_eq_true rfl) (Nat.le_of_ble_eq_true rfl) (fun r G' h => ?_)
  obtain ⟨rfl, rfl⟩ := h
  refine x_astore_n C d_KF_next_5 rfl (Nat.le_of_ble_eq_true rfl) rfl ?_
  refine x_aload_n C d_KF_next_6 rfl rfl ?_
  refine x_ifnonnull C 12 d_KF_next_7 (by decide) ?_
  refine x_aload_n C d_KF_next_12 rfl rfl ?_
  refine x_iconst C (v := 1) d_KF_next_13 (by decide) ?_
  refine x_callV1 C (q_VW_refusalToRead l E hV) (lk_KF_102 C.hts (Nat.le_of_ble_eq_true rfl) (Nat.le_of_ble_eq_true rfl)) hV rfl rfl d_KF_next_14 (Nat.le_of_ble_eq_true rfl) (Nat.le_of_ble_eq_true rfl) (Nat.le_of_ble_eq_true rfl) (fun r G' h => ?_)
  obtain ⟨rfl, rfl⟩ := h
  refine x_istore C d_KF_next_17 (Nat.le_of_ble_eq_true rfl) rfl ?_
  refine x_iload C d_KF_next_19 rfl ?_
  refine x_if_eq C 27 d_KF_next_21 (by decide) (fun c_21 => ?_) (fun c_21 => ?_)
  · refine x_aload_n C d_KF_next_27 rfl rfl ?_
    refine x_callV0 C (q_VW_forgetRead l E hV) (lk_KF_65 C.hts (Nat.le_of_ble_eq_true rfl) (Nat.le_of_ble_eq_true rfl)) hV rfl rfl d_KF_next_28 (Nat.le_of_ble_eq_true rfl) (Nat.le_of_ble_eq_true rfl) (Nat.le_of_ble_eq_true rfl) (fun r G' h => ?_)
    obtain ⟨rfl, rfl⟩ := h
    refine x_aload_n C d_KF_next_31 rfl rfl ?_
    refine x_aload_n C d_KF_next_32 rfl rfl ?_
    refine x_get C (va_up_self _ _ _) rfl (in_VW _) 3 (by decide) (List.mem_cons_of_mem _ f_KF_105) rfl d_KF_next_33 ?_
    refine x_callV1 C (q_KF_indexAt_in l E (xw_keep hG (xw_neC hG hV (by decide))) (xAL_up hV (by decide) hI) hki (xw_keep hK (xw_neC hK hV (by decide)))) (lk_KF_36 C.hts (Nat.le_of_ble_eq_true rfl) (Nat.le_of_ble_eq_true rfl)) (xw_keep hG (xw_neC hG hV (by decide))) rfl rfl d_KF_next_36 (Nat.le_of_ble_eq_true rfl) (Nat.le_of_ble_eq_true rfl) (Nat.le_of_ble_eq_true rfl) (fun r G' h => ?_)
    obtain ⟨rfl, rfl⟩ := h
    refine x_astore C d_KF_next_39 (Nat.le_of_ble_eq_true rfl) rfl ?_
    refine x_aload C d_KF_next_41 rfl ?_
    refine x_ifnull C d_KF_next_43 ?_
    refine x_aload_n C d_KF_next_46 rfl rfl ?_
    refine x_get C (va_up_self _ _ _) rfl (in_VW _) 4 (by decide) (List.mem_cons_of_mem _ f_KF_133) rfl d_KF_next_47 ?_
    refine x_iconst C (v := 3) d_KF_next_50 (by decide) ?_
    refine x_icmp_eq C 61 d_KF_next_51 (by decide) (fun c_51 => ?_) (fun c_51 => ?_)
    · exact absurd c_51 hl1
    · refine x_aload_n C d_KF_next_54 rfl rfl ?_
      refine x_get C (va_up_self _ _ _) rfl (in_VW _) 7 (by decide) (List.mem_cons_of_mem _ f_KF_136) rfl d_KF_next_55 ?_
      refine x_if_eq C 64 d_KF_next_58 (by decide) (fun c_58 => ?_) (fun c_58 => ?_)
      · refine x_iload_n C d_KF_next_64 rfl rfl ?_
        refine x_if_eq C 77 d_KF_next_65 (by decide) (fun c_65 => ?_) (fun c_65 => ?_)
        · exact absurd c_65 (by decide)
        · refine x_aload C d_KF_next_68 rfl ?_
          refine x_aload_n C d_KF_next_70 rfl rfl ?_
          refine x_callV1 C (q_KI_entryAheadOf l E (xw_keep hK (xw_neC hK hV (by decide))) (xAL_up hV (by decide) hA) (xEs_up hV (by decide) hX) (va_up_self _ _ _) h0p hk hp) (lk_KF_139 C.hts (Nat.le_of_ble_eq_true rfl) (Nat.le_of_ble_eq_true rfl)) (xw_keep hK (xw_neC hK hV (by decide))) rfl rfl d_KF_next_71 (Nat.le_of_ble_eq_true rfl) (Nat.le_of_ble_eq_true rfl) (Nat.le_of_ble_eq_true rfl) (fun r G' h => ?_)
          obtain ⟨rfl, rfl⟩ := h
          rw [ho, xr_none]
          refine x_goto C 83 d_KF_next_74 (by decide) ?_
          refine x_astoreN C d_KF_next_83 (Nat.le_of_ble_eq_true rfl) rfl ?_
          refine x_aloadN C d_KF_next_85 rfl ?_
          refine x_ifnonnullN C d_KF_next_87 ?_
          refine x_aload_n C d_KF_next_90 rfl rfl ?_
          refine x_iconst C (v := 1) d_KF_next_91 (by decide) ?_
          refine x_put2 C rfl (in_VW _) ty_VW tok_VW nm_VW 7 (by decide) (List.mem_cons_of_mem _ f_KF_136) rfl (tok_VW 7 (by decide)) rfl rfl (Nat.le_of_ble_eq_true rfl) d_KF_next_92 ?_
          refine x_bipush C (v := 10) d_KF_next_95 (by decide) ?_
          exact x_iret C (Nat.le_of_ble_eq_true rfl) (Nat.le_of_ble_eq_true rfl) d_KF_next_97 ⟨rfl, rfl⟩
      · exact absurd ((bI_0 ae).mpr hl2) c_58
  · exact absurd hr c_21
set_option maxRecDepth 100000 in
set_option maxHeartbeats 4000000 in
theorem q_KF_next_got_bn (l : Launch) (E : xE) {G : xw_G} {x ix vw : Nat} {op : Bool} {na nw : Int64} (hG : G x = some (eKF ix vw op na nw)) {aix : Nat} {ks : List Nat} (hI : xAL E G ix aix ks) {avw : Nat} {ws : List Nat} (hW : xAL E G vw avw ws) {va : Nat} {vo ae hw : Bool} {mo ac pl : Int32} {i2 : Nat} {pf pc vr pw : Int64} {rl : Value} (hV : G va = some (eVW vo mo ac (nI i2) pl pf pc ae rl vr hw pw)) {i : Nat} (hi : ws[i]? = some va) {ki en : Nat} {db sp : Bool} {fr sz : Int32} {lo : Int64} (hK : G ki = some (eKI db fr sz en sp lo)) (hki : ks[i2]? = some ki) {ar : Nat} {xs : List Nat} (hA : xAL E G en ar xs) {fd cm : Nat → Int64} {so : Nat → Nat} (hX : xEs G xs fd cm so) (h0p : ¬ pl = 0) {k : Nat} (hk : k ≤ xs.length) (hp : ∀ i : Nat, i < xs.length → (ahead (fd i) (cm i) pf (if pl = 2 then pc + 1 else pc) = true ↔ i < k)) (hr : refRead vo mo ac 1 = 0) (hl1 : ¬ pl = 3) (hl2 : ae = false) {n a0 : Nat} {by1 sw : Int64} {th : Bool} (ho : oBk k = some n) (ha : xs[n]? = some a0) (hS : G (so n) = some (eST by1 th sw)) {k2 : Nat} (hk2 : k2 ≤ xs.length) (hp2 : ∀ i : Nat, i < xs.length → (ahead (fd i) (cm i) (fd n) (cm n) = true ↔ i < k2)) : XMk l E y_KF_next w_KF_next rm_KF_next [.ref x, .int (nI i), .int (bI true)] G (fun r G' => r = some (.int (if eqNext xs.length fd k2 (fd n) true = true then 2 else 0)) ∧ G' = va_up G va (some (eVW vo mo ac (nI i2) (1) (fd n) (cm n) (false) (.ref (so n)) (by1) hw pw))) 0 0 := by
  refine XM_of [some (.ref x), some (.int (nI i)), some (.int (bI true)), none, none, none, none] (XZ_st E) (by decide) rfl rfl rfl (Nat.le_of_ble_eq_true rfl) (fun p e s m below meth c C hnm => ?_)
  refine x_aload_n C d_KF_next_0 rfl rfl ?_
  refine x_iload_n C d_KF_next_1 rfl rfl ?_
  refine x_callV1 C (q_KF_viewAt_in l E hG hW hi hV) (lk_KF_51 C.hts (Nat.le_of_ble_eq_true rfl) (Nat.le_of_ble_eq_true rfl)) hG rfl rfl d_KF_next_2 (Nat.le_of_ble_eq_true rfl) (Nat.le_of_ble_eq_true rfl) (Nat.le_of_ble_eq_true rfl) (fun r G' h => ?_)
  obtain ⟨rfl, rfl⟩ := h
  refine x_astore_n C d_KF_next_5 rfl (Nat.le_of_ble_eq_true rfl) rfl ?_
  refine x_aload_n C d_KF_next_6 rfl rfl ?_
  refine x_ifnonnull C 12 d_KF_next_7 (by decide) ?_
  refine x_aload_n C d_KF_next_12 rfl rfl ?_
  refine x_iconst C (v := 1) d_KF_next_13 (by decide) ?_
  refine x_callV1 C (q_VW_refusalToRead l E hV) (lk_KF_102 C.hts (Nat.le_of_ble_eq_true rfl) (Nat.le_of_ble_eq_true rfl)) hV rfl rfl d_KF_next_14 (Nat.le_of_ble_eq_true rfl) (Nat.le_of_ble_eq_true rfl) (Nat.le_of_ble_eq_true rfl) (fun r G' h => ?_)
  obtain ⟨rfl, rfl⟩ := h
  refine x_istore C d_KF_next_17 (Nat.le_of_ble_eq_true rfl) rfl ?_
  refine x_iload C d_KF_next_19 rfl ?_
  refine x_if_eq C 27 d_KF_next_21 (by decide) (fun c_21 => ?_) (fun c_21 => ?_)
  · refine x_aload_n C d_KF_next_27 rfl rfl ?_
    refine x_callV0 C (q_VW_forgetRead l E hV) (lk_KF_65 C.hts (Nat.le_of_ble_eq_true rfl) (Nat.le_of_ble_eq_true rfl)) hV rfl rfl d_KF_next_28 (Nat.le_of_ble_eq_true rfl) (Nat.le_of_ble_eq_true rfl) (Nat.le_of_ble_eq_true rfl) (fun r G' h => ?_)
    obtain ⟨rfl, rfl⟩ := h
    refine x_aload_n C d_KF_next_31 rfl rfl ?_
    refine x_aload_n C d_KF_next_32 rfl rfl ?_
    refine x_get C (va_up_self _ _ _) rfl (in_VW _) 3 (by decide) (List.mem_cons_of_mem _ f_KF_105) rfl d_KF_next_33 ?_
    refine x_callV1 C (q_KF_indexAt_in l E (xw_keep hG (xw_neC hG hV (by decide))) (xAL_up hV (by decide) hI) hki (xw_keep hK (xw_neC hK hV (by decide)))) (lk_KF_36 C.hts (Nat.le_of_ble_eq_true rfl) (Nat.le_of_ble_eq_true rfl)) (xw_keep hG (xw_neC hG hV (by decide))) rfl rfl d_KF_next_36 (Nat.le_of_ble_eq_true rfl) (Nat.le_of_ble_eq_true rfl) (Nat.le_of_ble_eq_true rfl) (fun r G' h => ?_)
    obtain ⟨rfl, rfl⟩ := h
    refine x_astore C d_KF_next_39 (Nat.le_of_ble_eq_true rfl) rfl ?_
    refine x_aload C d_KF_next_41 rfl ?_
    refine x_ifnull C d_KF_next_43 ?_
    refine x_aload_n C d_KF_next_46 rfl rfl ?_
    refine x_get C (va_up_self _ _ _) rfl (in_VW _) 4 (by decide) (List.mem_cons_of_mem _ f_KF_133) rfl d_KF_next_47 ?_
    refine x_iconst C (v := 3) d_KF_next_50 (by decide) ?_
    refine x_icmp_eq C 61 d_KF_next_51 (by decide) (fun c_51 => ?_) (fun c_51 => ?_)
    · exact absurd c_51 hl1
    · refine x_aload_n C d_KF_next_54 rfl rfl ?_
      refine x_get C (va_up_self _ _ _) rfl (in_VW _) 7 (by decide) (List.mem_cons_of_mem _ f_KF_136) rfl d_KF_next_55 ?_
      refine x_if_eq C 64 d_KF_next_58 (by decide) (fun c_58 => ?_) (fun c_58 => ?_)
      · refine x_iload_n C d_KF_next_64 rfl rfl ?_
        refine x_if_eq C 77 d_KF_next_65 (by decide) (fun c_65 => ?_) (fun c_65 => ?_)
        · exact absurd c_65 (by decide)
        · refine x_aload C d_KF_next_68 rfl ?_
          refine x_aload_n C d_KF_next_70 rfl rfl ?_
          refine x_callV1 C (q_KI_entryAheadOf l E (xw_keep hK (xw_neC hK hV (by decide))) (xAL_up hV (by decide) hA) (xEs_up hV (by decide) hX) (va_up_self _ _ _) h0p hk hp) (lk_KF_139 C.hts (Nat.le_of_ble_eq_true rfl) (Nat.le_of_ble_eq_true rfl)) (xw_keep hK (xw_neC hK hV (by decide))) rfl rfl d_KF_next_71 (Nat.le_of_ble_eq_true rfl) (Nat.le_of_ble_eq_true rfl) (Nat.le_of_ble_eq_true rfl) (fun r G' h => ?_)
          obtain ⟨rfl, rfl⟩ := h
          rw [ho, xr_some ha]
          refine x_goto C 83 d_KF_next_74 (by decide) ?_
          refine x_astore C d_KF_next_83 (Nat.le_of_ble_eq_true rfl) rfl ?_
          refine x_aload C d_KF_next_85 rfl ?_
          refine x_ifnonnull C 98 d_KF_next_87 (by decide) ?_
          refine x_aload_n C d_KF_next_98 rfl rfl ?_
          refine x_aload C d_KF_next_99 rfl ?_
          refine x_aload C d_KF_next_101 rfl ?_
          refine x_iload_n C d_KF_next_103 rfl rfl ?_
          refine x_callS4 C (q_KF_handOver l E (xw_keep hK (xw_neC hK hV (by decide))) (xAL_up hV (by decide) hA) (xEs_up hV (by decide) hX) (va_up_self _ _ _) (back := true) (xw_keep (hX _ _ ha) (xw_neC (hX _ _ ha) hV (by decide))) (xw_keep hS (xw_neC hS hV (by decide))) hk2 hp2) (lk_KF_115 C.hts (Nat.le_of_ble_eq_true rfl) (Nat.le_of_ble_eq_true rfl)) rfl d_KF_next_104 (Nat.le_of_ble_eq_true rfl) (Nat.le_of_ble_eq_true rfl) (Nat.le_of_ble_eq_true rfl) (fun r G' h => ?_)
          obtain ⟨rfl, rfl⟩ := h
          rw [bx_uu]
          exact x_iret C (Nat.le_of_ble_eq_true rfl) (Nat.le_of_ble_eq_true rfl) d_KF_next_107 ⟨rfl, rfl⟩
      · exact absurd ((bI_0 ae).mpr hl2) c_58
  · exact absurd hr c_21
set_option maxRecDepth 100000 in
set_option maxHeartbeats 4000000 in
theorem q_KF_next_10_f0 (l : Launch) (E : xE) {G : xw_G} {x ix vw : Nat} {op : Bool} {na nw : Int64} (hG : G x = some (eKF ix vw op na nw)) {aix : Nat} {ks : List Nat} (hI : xAL E G ix aix ks) {avw : Nat} {ws : List Nat} (hW : xAL E G vw avw ws) {va : Nat} {vo ae hw : Bool} {mo ac pl : Int32} {i2 : Nat} {pf pc vr pw : Int64} {rl : Value} (hV : G va = some (eVW vo mo ac (nI i2) pl pf pc ae rl vr hw pw)) {i : Nat} (hi : ws[i]? = some va) {ki en : Nat} {db sp : Bool} {fr sz : Int32} {lo : Int64} (hK : G ki = some (eKI db fr sz en sp lo)) (hki : ks[i2]? = some ki) {ar : Nat} {xs : List Nat} (hA : xAL E G en ar xs) {fd cm : Nat → Int64} {so : Nat → Nat} (hX : xEs G xs fd cm so) (h0p : pl = 0) (hr : refRead vo mo ac 1 = 0) (hl1 : ¬ pl = 3) (hl2 : ae = false) (ho : oAt xs.length 0 = none) : XMk l E y_KF_next w_KF_next rm_KF_next [.ref x, .int (nI i), .int (bI false)] G (fun r G' => r = some (.int 10) ∧ G' = va_up G va (some (eVW vo mo ac (nI i2) pl pf pc (true) (.null) (0) hw pw))) 0 0 := by
  refine XM_of [some (.ref x), some (.int (nI i)), some (.int (bI false)), none, none, none, none] (XZ_st E) (by decide) rfl rfl rfl (Nat.le_of_ble_eq_true rfl) (fun p e s m below meth c C hnm => ?_)
  refine x_aload_n C d_KF_next_0 rfl rfl ?_
  refine x_iload_n C d_KF_next_1 rfl rfl ?_
  refine x_callV1 C (q_KF_viewAt_in l E hG hW hi hV) (lk_KF_51 C.hts (Nat.le_of_ble_eq_true rfl) (Nat.le_of_ble_eq_true rfl)) hG rfl rfl d_KF_next_2 (Nat.le_of_ble_eq_true rfl) (Nat.le_of_ble_eq_true rfl) (Nat.le_of_ble_eq_true rfl) (fun r G' h => ?_)
  obtain ⟨rfl, rfl⟩ := h
  refine x_astore_n C d_KF_next_5 rfl (Nat.le_of_ble_eq_true rfl) rfl ?_
  refine x_aload_n C d_KF_next_6 rfl rfl ?_
  refine x_ifnonnull C 12 d_KF_next_7 (by decide) ?_
  refine x_aload_n C d_KF_next_12 rfl rfl ?_
  refine x_iconst C (v := 1) d_KF_next_13 (by decide) ?_
  refine x_callV1 C (q_VW_refusalToRead l E hV) (lk_KF_102 C.hts (Nat.le_of_ble_eq_true rfl) (Nat.le_of_ble_eq_true rfl)) hV rfl rfl d_KF_next_14 (Nat.le_of_ble_eq_true rfl) (Nat.le_of_ble_eq_true rfl) (Nat.le_of_ble_eq_true rfl) (fun r G' h => ?_)
  obtain ⟨rfl, rfl⟩ := h
  refine x_istore C d_KF_next_17 (Nat.le_of_ble_eq_true rfl) rfl ?_
  refine x_iload C d_KF_next_19 rfl ?_
  refine x_if_eq C 27 d_KF_next_21 (by decide) (fun c_21 => ?_) (fun c_21 => ?_)
  · refine x_aload_n C d_KF_next_27 rfl rfl ?_
    refine x_callV0 C (q_VW_forgetRead l E hV) (lk_KF_65 C.hts (Nat.le_of_ble_eq_true rfl) (Nat.le_of_ble_eq_true rfl)) hV rfl rfl d_KF_next_28 (Nat.le_of_ble_eq_true rfl) (Nat.le_of_ble_eq_true rfl) (Nat.le_of_ble_eq_true rfl) (fun r G' h => ?_)
    obtain ⟨rfl, rfl⟩ := h
    refine x_aload_n C d_KF_next_31 rfl rfl ?_
    refine x_aload_n C d_KF_next_32 rfl rfl ?_
    refine x_get C (va_up_self _ _ _) rfl (in_VW _) 3 (by decide) (List.mem_cons_of_mem _ f_KF_105) rfl d_KF_next_33 ?_
    refine x_callV1 C (q_KF_indexAt_in l E (xw_keep hG (xw_neC hG hV (by decide))) (xAL_up hV (by decide) hI) hki (xw_keep hK (xw_neC hK hV (by decide)))) (lk_KF_36 C.hts (Nat.le_of_ble_eq_true rfl) (Nat.le_of_ble_eq_true rfl)) (xw_keep hG (xw_neC hG hV (by decide))) rfl rfl d_KF_next_36 (Nat.le_of_ble_eq_true rfl) (Nat.le_of_ble_eq_true rfl) (Nat.le_of_ble_eq_true rfl) (fun r G' h => ?_)
    obtain ⟨rfl, rfl⟩ := h
    refine x_astore C d_KF_next_39 (Nat.le_of_ble_eq_true rfl) rfl ?_
    refine x_aload C d_KF_next_41 rfl ?_
    refine x_ifnull C d_KF_next_43 ?_
    refine x_aload_n C d_KF_next_46 rfl rfl ?_
    refine x_get C (va_up_self _ _ _) rfl (in_VW _) 4 (by decide) (List.mem_cons_of_mem _ f_KF_133) rfl d_KF_next_47 ?_
    refine x_iconst C (v := 3) d_KF_next_50 (by decide) ?_
    refine x_icmp_eq C 61 d_KF_next_51 (by decide) (fun c_51 => ?_) (fun c_51 => ?_)
    · exact absurd c_51 hl1
    · refine x_aload_n C d_KF_next_54 rfl rfl ?_
      refine x_get C (va_up_self _ _ _) rfl (in_VW _) 7 (by decide) (List.mem_cons_of_mem _ f_KF_136) rfl d_KF_next_55 ?_
      refine x_if_eq C 64 d_KF_next_58 (by decide) (fun c_58 => ?_) (fun c_58 => ?_)
      · refine x_iload_n C d_KF_next_64 rfl rfl ?_
        refine x_if_eq C 77 d_KF_next_65 (by decide) (fun c_65 => ?_) (fun c_65 => ?_)
        · refine x_aload C d_KF_next_77 rfl ?_
          refine x_aload_n C d_KF_next_79 rfl rfl ?_
          refine x_callV1 C (q_KI_entryBehind_0 l E (xw_keep hK (xw_neC hK hV (by decide))) (xAL_up hV (by decide) hA) (xEs_up hV (by decide) hX) (va_up_self _ _ _) h0p) (lk_KF_143 C.hts (Nat.le_of_ble_eq_true rfl) (Nat.le_of_ble_eq_true rfl)) (xw_keep hK (xw_neC hK hV (by decide))) rfl rfl d_KF_next_80 (Nat.le_of_ble_eq_true rfl) (Nat.le_of_ble_eq_true rfl) (Nat.le_of_ble_eq_true rfl) (fun r G' h => ?_)
          obtain ⟨rfl, rfl⟩ := h
          rw [ho, xr_none]
          refine x_astoreN C d_KF_next_83 (Nat.le_of_ble_eq_true rfl) rfl ?_
          refine x_aloadN C d_KF_next_85 rfl ?_
          refine x_ifnonnullN C d_KF_next_87 ?_
          refine x_aload_n C d_KF_next_90 rfl rfl ?_
          refine x_iconst C (v := 1) d_KF_next_91 (by decide) ?_
          refine x_put2 C rfl (in_VW _) ty_VW tok_VW nm_VW 7 (by decide) (List.mem_cons_of_mem _ f_KF_136) rfl (tok_VW 7 (by decide)) rfl rfl (Nat.le_of_ble_eq_true rfl) d_KF_next_92 ?_
          refine x_bipush C (v := 10) d_KF_next_95 (by decide) ?_
          exact x_iret C (Nat.le_of_ble_eq_true rfl) (Nat.le_of_ble_eq_true rfl) d_KF_next_97 ⟨rfl, rfl⟩
        · exact absurd (show bI false = 0 from rfl) c_65
      · exact absurd ((bI_0 ae).mpr hl2) c_58
  · exact absurd hr c_21
set_option maxRecDepth 100000 in
set_option maxHeartbeats 4000000 in
theorem q_KF_next_got_f0 (l : Launch) (E : xE) {G : xw_G} {x ix vw : Nat} {op : Bool} {na nw : Int64} (hG : G x = some (eKF ix vw op na nw)) {aix : Nat} {ks : List Nat} (hI : xAL E G ix aix ks) {avw : Nat} {ws : List Nat} (hW : xAL E G vw avw ws) {va : Nat} {vo ae hw : Bool} {mo ac pl : Int32} {i2 : Nat} {pf pc vr pw : Int64} {rl : Value} (hV : G va = some (eVW vo mo ac (nI i2) pl pf pc ae rl vr hw pw)) {i : Nat} (hi : ws[i]? = some va) {ki en : Nat} {db sp : Bool} {fr sz : Int32} {lo : Int64} (hK : G ki = some (eKI db fr sz en sp lo)) (hki : ks[i2]? = some ki) {ar : Nat} {xs : List Nat} (hA : xAL E G en ar xs) {fd cm : Nat → Int64} {so : Nat → Nat} (hX : xEs G xs fd cm so) (h0p : pl = 0) (hr : refRead vo mo ac 1 = 0) (hl1 : ¬ pl = 3) (hl2 : ae = false) {n a0 : Nat} {by1 sw : Int64} {th : Bool} (ho : oAt xs.length 0 = some n) (ha : xs[n]? = some a0) (hS : G (so n) = some (eST by1 th sw)) {k2 : Nat} (hk2 : k2 ≤ xs.length) (hp2 : ∀ i : Nat, i < xs.length → (ahead (fd i) (cm i) (fd n) (cm n) = true ↔ i < k2)) : XMk l E y_KF_next w_KF_next rm_KF_next [.ref x, .int (nI i), .int (bI false)] G (fun r G' => r = some (.int (if eqNext xs.length fd k2 (fd n) false = true then 2 else 0)) ∧ G' = va_up G va (some (eVW vo mo ac (nI i2) (1) (fd n) (cm n) (false) (.ref (so n)) (by1) hw pw))) 0 0 := by
  refine XM_of [some (.ref x), some (.int (nI i)), some (.int (bI false)), none, none, none, none] (XZ_st E) (by decide) rfl rfl rfl (Nat.le_of_ble_eq_true rfl) (fun p e s m below meth c C hnm => ?_)
  refine x_aload_n C d_KF_next_0 rfl rfl ?_
  refine x_iload_n C d_KF_next_1 rfl rfl ?_
  refine x_callV1 C (q_KF_viewAt_in l E hG hW hi hV) (lk_KF_51 C.hts (Nat.le_of_ble_eq_true rfl) (Nat.le_of_ble_eq_true rfl)) hG rfl rfl d_KF_next_2 (Nat.le_of_ble_eq_true rfl) (Nat.le_of_ble_eq_true rfl) (Nat.le_of_ble_eq_true rfl) (fun r G' h => ?_)
  obtain ⟨rfl, rfl⟩ := h
  refine x_astore_n C d_KF_next_5 rfl (Nat.le_of_ble_eq_true rfl) rfl ?_
  refine x_aload_n C d_KF_next_6 rfl rfl ?_
  refine x_ifnonnull C 12 d_KF_next_7 (by decide) ?_
  refine x_aload_n C d_KF_next_12 rfl rfl ?_
  refine x_iconst C (v := 1) d_KF_next_13 (by decide) ?_
  refine x_callV1 C (q_VW_refusalToRead l E hV) (lk_KF_102 C.hts (Nat.le_of_ble_eq_true rfl) (Nat.le_of_ble_eq_true rfl)) hV rfl rfl d_KF_next_14 (Nat.le_of_ble_eq_true rfl) (Nat.le_of_ble_eq_true rfl) (Nat.le_of_ble_eq_true rfl) (fun r G' h => ?_)
  obtain ⟨rfl, rfl⟩ := h
  refine x_istore C d_KF_next_17 (Nat.le_of_ble_eq_true rfl) rfl ?_
  refine x_iload C d_KF_next_19 rfl ?_
  refine x_if_eq C 27 d_KF_next_21 (by decide) (fun c_21 => ?_) (fun c_21 => ?_)
  · refine x_aload_n C d_KF_next_27 rfl rfl ?_
    refine x_callV0 C (q_VW_forgetRead l E hV) (lk_KF_65 C.hts (Nat.le_of_ble_eq_true rfl) (Nat.le_of_ble_eq_true rfl)) hV rfl rfl d_KF_next_28 (Nat.le_of_ble_eq_true rfl) (Nat.le_of_ble_eq_true rfl) (Nat.le_of_ble_eq_true rfl) (fun r G' h => ?_)
    obtain ⟨rfl, rfl⟩ := h
    refine x_aload_n C d_KF_next_31 rfl rfl ?_
    refine x_aload_n C d_KF_next_32 rfl rfl ?_
    refine x_get C (va_up_self _ _ _) rfl (in_VW _) 3 (by decide) (List.mem_cons_of_mem _ f_KF_105) rfl d_KF_next_33 ?_
    refine x_callV1 C (q_KF_indexAt_in l E (xw_keep hG (xw_neC hG hV (by decide))) (xAL_up hV (by decide) hI) hki (xw_keep hK (xw_neC hK hV (by decide)))) (lk_KF_36 C.hts (Nat.le_of_ble_eq_true rfl) (Nat.le_of_ble_eq_true rfl)) (xw_keep hG (xw_neC hG hV (by decide))) rfl rfl d_KF_next_36 (Nat.le_of_ble_eq_true rfl) (Nat.le_of_ble_eq_true rfl) (Nat.le_of_ble_eq_true rfl) (fun r G' h => ?_)
    obtain ⟨rfl, rfl⟩ := h
    refine x_astore C d_KF_next_39 (Nat.le_of_ble_eq_true rfl) rfl ?_
    refine x_aload C d_KF_next_41 rfl ?_
    refine x_ifnull C d_KF_next_43 ?_
    refine x_aload_n C d_KF_next_46 rfl rfl ?_
    refine x_get C (va_up_self _ _ _) rfl (in_VW _) 4 (by decide) (List.mem_cons_of_mem _ f_KF_133) rfl d_KF_next_47 ?_
    refine x_iconst C (v := 3) d_KF_next_50 (by decide) ?_
    refine x_icmp_eq C 61 d_KF_next_51 (by decide) (fun c_51 => ?_) (fun c_51 => ?_)
    · exact absurd c_51 hl1
    · refine x_aload_n C d_KF_next_54 rfl rfl ?_
      refine x_get C (va_up_self _ _ _) rfl (in_VW _) 7 (by decide) (List.mem_cons_of_mem _ f_KF_136) rfl d_KF_next_55 ?_
      refine x_if_eq C 64 d_KF_next_58 (by decide) (fun c_58 => ?_) (fun c_58 => ?_)
      · refine x_iload_n C d_KF_next_64 rfl rfl ?_
        refine x_if_eq C 77 d_KF_next_65 (by decide) (fun c_65 => ?_) (fun c_65 => ?_)
        · refine x_aload C d_KF_next_77 rfl ?_
          refine x_aload_n C d_KF_next_79 rfl rfl ?_
          refine x_callV1 C (q_KI_entryBehind_0 l E (xw_keep hK (xw_neC hK hV (by decide))) (xAL_up hV (by decide) hA) (xEs_up hV (by decide) hX) (va_up_self _ _ _) h0p) (lk_KF_143 C.hts (Nat.le_of_ble_eq_true rfl) (Nat.le_of_ble_eq_true rfl)) (xw_keep hK (xw_neC hK hV (by decide))) rfl rfl d_KF_next_80 (Nat.le_of_ble_eq_true rfl) (Nat.le_of_ble_eq_true rfl) (Nat.le_of_ble_eq_true rfl) (fun r G' h => ?_)
          obtain ⟨rfl, rfl⟩ := h
          rw [ho, xr_some ha]
          refine x_astore C d_KF_next_83 (Nat.le_of_ble_eq_true rfl) rfl ?_
          refine x_aload C d_KF_next_85 rfl ?_
          refine x_ifnonnull C 98 d_KF_next_87 (by decide) ?_
          refine x_aload_n C d_KF_next_98 rfl rfl ?_
          refine x_aload C d_KF_next_99 rfl ?_
          refine x_aload C d_KF_next_101 rfl ?_
          refine x_iload_n C d_KF_next_103 rfl rfl ?_
          refine x_callS4 C (q_KF_handOver l E (xw_keep hK (xw_neC hK hV (by decide))) (xAL_up hV (by decide) hA) (xEs_up hV (by decide) hX) (va_up_self _ _ _) (back := false) (xw_keep (hX _ _ ha) (xw_neC (hX _ _ ha) hV (by decide))) (xw_keep hS (xw_neC hS hV (by decide))) hk2 hp2) (lk_KF_115 C.hts (Nat.le_of_ble_eq_true rfl) (Nat.le_of_ble_eq_true rfl)) rfl d_KF_next_104 (Nat.le_of_ble_eq_true rfl) (Nat.le_of_ble_eq_true rfl) (Nat.le_of_ble_eq_true rfl) (fun r G' h => ?_)
          obtain ⟨rfl, rfl⟩ := h
          rw [bx_uu]
          exact x_iret C (Nat.le_of_ble_eq_true rfl) (Nat.le_of_ble_eq_true rfl) d_KF_next_107 ⟨rfl, rfl⟩
        · exact absurd (show bI false = 0 from rfl) c_65
      · exact absurd ((bI_0 ae).mpr hl2) c_58
  · exact absurd hr c_21
set_option maxRecDepth 100000 in
set_option maxHeartbeats 4000000 in
theorem q_KF_next_10_fn (l : Launch) (E : xE) {G : xw_G} {x ix vw : Nat} {op : Bool} {na nw : Int64} (hG : G x = some (eKF ix vw op na nw)) {aix : Nat} {ks : List Nat} (hI : xAL E G ix aix ks) {avw : Nat} {ws : List Nat} (hW : xAL E G vw avw ws) {va : Nat} {vo ae hw : Bool} {mo ac pl : Int32} {i2 : Nat} {pf pc vr pw : Int64} {rl : Value} (hV : G va = some (eVW vo mo ac (nI i2) pl pf pc ae rl vr hw pw)) {i : Nat} (hi : ws[i]? = some va) {ki en : Nat} {db sp : Bool} {fr sz : Int32} {lo : Int64} (hK : G ki = some (eKI db fr sz en sp lo)) (hki : ks[i2]? = some ki) {ar : Nat} {xs : List Nat} (hA : xAL E G en ar xs) {fd cm : Nat → Int64} {so : Nat → Nat} (hX : xEs G xs fd cm so) (h0p : ¬ pl = 0) {k : Nat} (hk : k ≤ xs.length) (hp : ∀ i : Nat, i < xs.length → (ahead (fd i) (cm i) pf (if pl = 2 then pc else pc + 1) = true ↔ i < k)) (hr : refRead vo mo ac 1 = 0) (hl1 : ¬ pl = 3) (hl2 : ae = false) (ho : oAt xs.length k = none) : XMk l E y_KF_next w_KF_next rm_KF_next [.ref x, .int (nI i), .int (bI false)] G (fun r G' => r = some (.int 10) ∧ G' = va_up G va (some (eVW vo mo ac (nI i2) pl pf pc (true) (.null) (0) hw pw))) 0 0 := by
  refine XM_of [some (.ref x), some (.int (nI i)), some (.int (bI false)), none, none, none, none] (XZ_st E) (by decide) rfl rfl rfl (Nat.le_of_ble_eq_true rfl) (fun p e s m below meth c C hnm => ?_)
  refine x_aload_n C d_KF_next_0 rfl rfl ?_
  refine x_iload_n C d_KF_next_1 rfl rfl ?_
  refine x_callV1 C (q_KF_viewAt_in l E hG hW hi hV) (lk_KF_51 C.hts (Nat.le_of_ble_eq_true rfl) (Nat.le_of_ble_eq_true rfl)) hG rfl rfl d_KF_next_2 (Nat.le_of_ble_eq_true rfl) (Nat.le_of_ble_eq_true rfl) (Nat.le_of_ble_eq_true rfl) (fun r G' h => ?_)
  obtain ⟨rfl, rfl⟩ := h
  refine x_astore_n C d_KF_next_5 rfl (Nat.le_of_ble_eq_true rfl) rfl ?_
  refine x_aload_n C d_KF_next_6 rfl rfl ?_
  refine x_ifnonnull C 12 d_KF_next_7 (by decide) ?_
  refine x_aload_n C d_KF_next_12 rfl rfl ?_
  refine x_iconst C (v := 1) d_KF_next_13 (by decide) ?_
  refine x_callV1 C (q_VW_refusalToRead l E hV) (lk_KF_102 C.hts (Nat.le_of_ble_eq_true rfl) (Nat.le_of_ble_eq_true rfl)) hV rfl rfl d_KF_next_14 (Nat.le_of_ble_eq_true rfl) (Nat.le_of_ble_eq_true rfl) (Nat.le_of_ble_eq_true rfl) (fun r G' h => ?_)
  obtain ⟨rfl, rfl⟩ := h
  refine x_istore C d_KF_next_17 (Nat.le_of_ble_eq_true rfl) rfl ?_
  refine x_iload C d_KF_next_19 rfl ?_
  refine x_if_eq C 27 d_KF_next_21 (by decide) (fun c_21 => ?_) (fun c_21 => ?_)
  · refine x_aload_n C d_KF_next_27 rfl rfl ?_
    refine x_callV0 C (q_VW_forgetRead l E hV) (lk_KF_65 C.hts (Nat.le_of_ble_eq_true rfl) (Nat.le_of_ble_eq_true rfl)) hV rfl rfl d_KF_next_28 (Nat.le_of_ble_eq_true rfl) (Nat.le_of_ble_eq_true rfl) (Nat.le_of_ble_eq_true rfl) (fun r G' h => ?_)
    obtain ⟨rfl, rfl⟩ := h
    refine x_aload_n C d_KF_next_31 rfl rfl ?_
    refine x_aload_n C d_KF_next_32 rfl rfl ?_
    refine x_get C (va_up_self _ _ _) rfl (in_VW _) 3 (by decide) (List.mem_cons_of_mem _ f_KF_105) rfl d_KF_next_33 ?_
    refine x_callV1 C (q_KF_indexAt_in l E (xw_keep hG (xw_neC hG hV (by decide))) (xAL_up hV (by decide) hI) hki (xw_keep hK (xw_neC hK hV (by decide)))) (lk_KF_36 C.hts (Nat.le_of_ble_eq_true rfl) (Nat.le_of_ble_eq_true rfl)) (xw_keep hG (xw_neC hG hV (by decide))) rfl rfl d_KF_next_36 (Nat.le_of_ble_eq_true rfl) (Nat.le_of_ble_eq_true rfl) (Nat.le_of_ble_eq_true rfl) (fun r G' h => ?_)
    obtain ⟨rfl, rfl⟩ := h
    refine x_astore C d_KF_next_39 (Nat.le_of_ble_eq_true rfl) rfl ?_
    refine x_aload C d_KF_next_41 rfl ?_
    refine x_ifnull C d_KF_next_43 ?_
    refine x_aload_n C d_KF_next_46 rfl rfl ?_
    refine x_get C (va_up_self _ _ _) rfl (in_VW _) 4 (by decide) (List.mem_cons_of_mem _ f_KF_133) rfl d_KF_next_47 ?_
    refine x_iconst C (v := 3) d_KF_next_50 (by decide) ?_
    refine x_icmp_eq C 61 d_KF_next_51 (by decide) (fun c_51 => ?_) (fun c_51 => ?_)
    · exact absurd c_51 hl1
    · refine x_aload_n C d_KF_next_54 rfl rfl ?_
      refine x_get C (va_up_self _ _ _) rfl (in_VW _) 7 (by decide) (List.mem_cons_of_mem _ f_KF_136) rfl d_KF_next_55 ?_
      refine x_if_eq C 64 d_KF_next_58 (by decide) (fun c_58 => ?_) (fun c_58 => ?_)
      · refine x_iload_n C d_KF_next_64 rfl rfl ?_
        refine x_if_eq C 77 d_KF_next_65 (by decide) (fun c_65 => ?_) (fun c_65 => ?_)
        · refine x_aload C d_KF_next_77 rfl ?_
          refine x_aload_n C d_KF_next_79 rfl rfl ?_
          refine x_callV1 C (q_KI_entryBehind l E (xw_keep hK (xw_neC hK hV (by decide))) (xAL_up hV (by decide) hA) (xEs_up hV (by decide) hX) (va_up_self _ _ _) h0p hk hp) (lk_KF_143 C.hts (Nat.le_of_ble_eq_true rfl) (Nat.le_of_ble_eq_true rfl)) (xw_keep hK (xw_neC hK hV (by decide))) rfl rfl d_KF_next_80 (Nat.le_of_ble_eq_true rfl) (Nat.le_of_ble_eq_true rfl) (Nat.le_of_ble_eq_true rfl) (fun r G' h => ?_)
          obtain ⟨rfl, rfl⟩ := h
          rw [ho, xr_none]
          refine x_astoreN C d_KF_next_83 (Nat.le_of_ble_eq_true rfl) rfl ?_
          refine x_aloadN C d_KF_next_85 rfl ?_
          refine x_ifnonnullN C d_KF_next_87 ?_
          refine x_aload_n C d_KF_next_90 rfl rfl ?_
          refine x_iconst C (v := 1) d_KF_next_91 (by decide) ?_
          refine x_put2 C rfl (in_VW _) ty_VW tok_VW nm_VW 7 (by decide) (List.mem_cons_of_mem _ f_KF_136) rfl (tok_VW 7 (by decide)) rfl rfl (Nat.le_of_ble_eq_true rfl) d_KF_next_92 ?_
          refine x_bipush C (v := 10) d_KF_next_95 (by decide) ?_
          exact x_iret C (Nat.le_of_ble_eq_true rfl) (Nat.le_of_ble_eq_true rfl) d_KF_next_97 ⟨rfl, rfl⟩
        · exact absurd (show bI false = 0 from rfl) c_65
      · exact absurd ((bI_0 ae).mpr hl2) c_58
  · exact absurd hr c_21
set_option maxRecDepth 100000 in
set_option maxHeartbeats 4000000 in
theorem q_KF_next_got_fn (l : Launch) (E : xE) {G : xw_G} {x ix vw : Nat} {op : Bool} {na nw : Int64} (hG : G x = some (eKF ix vw op na nw)) {aix : Nat} {ks : List Nat} (hI : xAL E G ix aix ks) {avw : Nat} {ws : List Nat} (hW : xAL E G vw avw ws) {va : Nat} {vo ae hw : Bool} {mo ac pl : Int32} {i2 : Nat} {pf pc vr pw : Int64} {rl : Value} (hV : G va = some (eVW vo mo ac (nI i2) pl pf pc ae rl vr hw pw)) {i : Nat} (hi : ws[i]? = some va) {ki en : Nat} {db sp : Bool} {fr sz : Int32} {lo : Int64} (hK : G ki = some (eKI db fr sz en sp lo)) (hki : ks[i2]? = some ki) {ar : Nat} {xs : List Nat} (hA : xAL E G en ar xs) {fd cm : Nat → Int64} {so : Nat → Nat} (hX : xEs G xs fd cm so) (h0p : ¬ pl = 0) {k : Nat} (hk : k ≤ xs.length) (hp : ∀ i : Nat, i < xs.length → (ahead (fd i) (cm i) pf (if pl = 2 then pc else pc + 1) = true ↔ i < k)) (hr : refRead vo mo ac 1 = 0) (hl1 : ¬ pl = 3) (hl2 : ae = false) {n a0 : Nat} {by1 sw : Int64} {th : Bool} (ho : oAt xs.length k = some n) (ha : xs[n]? = some a0) (hS : G (so n) = some (eST by1 th sw)) {k2 : Nat} (hk2 : k2 ≤ xs.length) (hp2 : ∀ i : Nat, i < xs.length → (ahead (fd i) (cm i) (fd n) (cm n) = true ↔ i < k2)) : XMk l E y_KF_next w_KF_next rm_KF_next [.ref x, .int (nI i), .int (bI false)] G (fun r G' => r = some (.int (if eqNext xs.length fd k2 (fd n) false = true then 2 else 0)) ∧ G' = va_up G va (some (eVW vo mo ac (nI i2) (1) (fd n) (cm n) (false) (.ref (so n)) (by1) hw pw))) 0 0 := by
  refine XM_of [some (.ref x), some (.int (nI i)), some (.int (bI false)), none, none, none, none] (XZ_st E) (by decide) rfl rfl rfl (Nat.le_of_ble_eq_true rfl) (fun p e s m below meth c C hnm => ?_)
  refine x_aload_n C d_KF_next_0 rfl rfl ?_
  refine x_iload_n C d_KF_next_1 rfl rfl ?_
  refine x_callV1 C (q_KF_viewAt_in l E hG hW hi hV) (lk_KF_51 C.hts (Nat.le_of_ble_eq_true rfl) (Nat.le_of_ble_eq_true rfl)) hG rfl rfl d_KF_next_2 (Nat.le_of_ble_eq_true rfl) (Nat.le_of_ble_eq_true rfl) (Nat.le_of_ble_eq_true rfl) (fun r G' h => ?_)
  obtain ⟨rfl, rfl⟩ := h
  refine x_astore_n C d_KF_next_5 rfl (Nat.le_of_ble_eq_true rfl) rfl ?_
  refine x_aload_n C d_KF_next_6 rfl rfl ?_
  refine x_ifnonnull C 12 d_KF_next_7 (by decide) ?_
  refine x_aload_n C d_KF_next_12 rfl rfl ?_
  refine x_iconst C (v := 1) d_KF_next_13 (by decide) ?_
  refine x_callV1 C (q_VW_refusalToRead l E hV) (lk_KF_102 C.hts (Nat.le_of_ble_eq_true rfl) (Nat.le_of_ble_eq_true rfl)) hV rfl rfl d_KF_next_14 (Nat.le_of_ble_eq_true rfl) (Nat.le_of_ble_eq_true rfl) (Nat.le_of_ble_eq_true rfl) (fun r G' h => ?_)
  obtain ⟨rfl, rfl⟩ := h
  refine x_istore C d_KF_next_17 (Nat.le_of_ble_eq_true rfl) rfl ?_
  refine x_iload C d_KF_next_19 rfl ?_
  refine x_if_eq C 27 d_KF_next_21 (by decide) (fun c_21 => ?_) (fun c_21 => ?_)
  · refine x_aload_n C d_KF_next_27 rfl rfl ?_
    refine x_callV0 C (q_VW_forgetRead l E hV) (lk_KF_65 C.hts (Nat.le_of_ble_eq_true rfl) (Nat.le_of_ble_eq_true rfl)) hV rfl rfl d_KF_next_28 (Nat.le_of_ble_eq_true rfl) (Nat.le_of_ble_eq_true rfl) (Nat.le_of_ble_eq_true rfl) (fun r G' h => ?_)
    obtain ⟨rfl, rfl⟩ := h
    refine x_aload_n C d_KF_next_31 rfl rfl ?_
    refine x_aload_n C d_KF_next_32 rfl rfl ?_
    refine x_get C (va_up_self _ _ _) rfl (in_VW _) 3 (by decide) (List.mem_cons_of_mem _ f_KF_105) rfl d_KF_next_33 ?_
    refine x_callV1 C (q_KF_indexAt_in l E (xw_keep hG (xw_neC hG hV (by decide))) (xAL_up hV (by decide) hI) hki (xw_keep hK (xw_neC hK hV (by decide)))) (lk_KF_36 C.hts (Nat.le_of_ble_eq_true rfl) (Nat.le_of_ble_eq_true rfl)) (xw_keep hG (xw_neC hG hV (by decide))) rfl rfl d_KF_next_36 (Nat.le_of_ble_eq_true rfl) (Nat.le_of_ble_eq_true rfl) (Nat.le_of_ble_eq_true rfl) (fun r G' h => ?_)
    obtain ⟨rfl, rfl⟩ := h
    refine x_astore C d_KF_next_39 (Nat.le_of_ble_eq_true rfl) rfl ?_
    refine x_aload C d_KF_next_41 rfl ?_
    refine x_ifnull C d_KF_next_43 ?_
    refine x_aload_n C d_KF_next_46 rfl rfl ?_
    refine x_get C (va_up_self _ _ _) rfl (in_VW _) 4 (by decide) (List.mem_cons_of_mem _ f_KF_133) rfl d_KF_next_47 ?_
    refine x_iconst C (v := 3) d_KF_next_50 (by decide) ?_
    refine x_icmp_eq C 61 d_KF_next_51 (by decide) (fun c_51 => ?_) (fun c_51 => ?_)
    · exact absurd c_51 hl1
    · refine x_aload_n C d_KF_next_54 rfl rfl ?_
      refine x_get C (va_up_self _ _ _) rfl (in_VW _) 7 (by decide) (List.mem_cons_of_mem _ f_KF_136) rfl d_KF_next_55 ?_
      refine x_if_eq C 64 d_KF_next_58 (by decide) (fun c_58 => ?_) (fun c_58 => ?_)
      · refine x_iload_n C d_KF_next_64 rfl rfl ?_
        refine x_if_eq C 77 d_KF_next_65 (by decide) (fun c_65 => ?_) (fun c_65 => ?_)
        · refine x_aload C d_KF_next_77 rfl ?_
          refine x_aload_n C d_KF_next_79 rfl rfl ?_
          refine x_callV1 C (q_KI_entryBehind l E (xw_keep hK (xw_neC hK hV (by decide))) (xAL_up hV (by decide) hA) (xEs_up hV (by decide) hX) (va_up_self _ _ _) h0p hk hp) (lk_KF_143 C.hts (Nat.le_of_ble_eq_true rfl) (Nat.le_of_ble_eq_true rfl)) (xw_keep hK (xw_neC hK hV (by decide))) rfl rfl d_KF_next_80 (Nat.le_of_ble_eq_true rfl) (Nat.le_of_ble_eq_true rfl) (Nat.le_of_ble_eq_true rfl) (fun r G' h => ?_)
          obtain ⟨rfl, rfl⟩ := h
          rw [ho, xr_some ha]
          refine x_astore C d_KF_next_83 (Nat.le_of_ble_eq_true rfl) rfl ?_
          refine x_aload C d_KF_next_85 rfl ?_
          refine x_ifnonnull C 98 d_KF_next_87 (by decide) ?_
          refine x_aload_n C d_KF_next_98 rfl rfl ?_
          refine x_aload C d_KF_next_99 rfl ?_
          refine x_aload C d_KF_next_101 rfl ?_
          refine x_iload_n C d_KF_next_103 rfl rfl ?_
          refine x_callS4 C (q_KF_handOver l E (xw_keep hK (xw_neC hK hV (by decide))) (xAL_up hV (by decide) hA) (xEs_up hV (by decide) hX) (va_up_self _ _ _) (back := false) (xw_keep (hX _ _ ha) (xw_neC (hX _ _ ha) hV (by decide))) (xw_keep hS (xw_neC hS hV (by decide))) hk2 hp2) (lk_KF_115 C.hts (Nat.le_of_ble_eq_true rfl) (Nat.le_of_ble_eq_true rfl)) rfl d_KF_next_104 (Nat.le_of_ble_eq_true rfl) (Nat.le_of_ble_eq_true rfl) (Nat.le_of_ble_eq_true rfl) (fun r G' h => ?_)
          obtain ⟨rfl, rfl⟩ := h
          rw [bx_uu]
          exact x_iret C (Nat.le_of_ble_eq_true rfl) (Nat.le_of_ble_eq_true rfl) d_KF_next_107 ⟨rfl, rfl⟩
        · exact absurd (show bI false = 0 from rfl) c_65
      · exact absurd ((bI_0 ae).mpr hl2) c_58
  · exact absurd hr c_21
set_option maxRecDepth 100000 in
set_option maxHeartbeats 4000000 in
theorem q_KF_rtc_s0 (l : Launch) (E : xE) {G : xw_G} {x : Nat} {va : Nat} {vo ae hw : Bool} {mo ac kr pl : Int32} {pf pc vr pw : Int64} (hV : G va = some (eVW vo mo ac kr pl pf pc ae (.null) vr hw pw)) {z : Int64} (hac : ac = 0) : XMk l E y_KF_recordToChange w_KF_recordToChange rm_KF_recordToChange [.ref x, .ref va, .long (z)] G (fun r G' => r = some (.null) ∧ G = G') 0 0 := by
  refine XM_of [some (.ref x), some (.ref va), some (.long (z)), none, none, none] (XZ_st E) (by decide) rfl rfl rfl (Nat.le_of_ble_eq_true rfl) (fun p e s m below meth c C hnm => ?_)
  refine x_aload_n C d_KF_recordToChange_0 rfl rfl ?_
  refine x_get C hV rfl (in_VW _) 2 (by decide) (List.mem_cons_of_mem _ f_KF_71) rfl d_KF_recordToChange_1 ?_
  refine x_if_ne C 33 d_KF_recordToChange_4 (by decide) (fun c_4 => ?_) (fun c_4 => ?_)
  · exact absurd hac c_4
  · refine x_aload_n C d_KF_recordToChange_7 rfl rfl ?_
    refine x_get C hV rfl (in_VW _) 8 (by decide) (List.mem_cons_of_mem _ f_KF_238) rfl d_KF_recordToChange_8 ?_
    refine x_ifnullN C 31 d_KF_recordToChange_11 (by decide) ?_
    refine x_null C d_KF_recordToChange_31 ?_
    exact x_aret C (Or.inl ⟨_, rfl⟩) (Or.inl rfl) (Nat.le_of_ble_eq_true rfl) (Nat.le_of_ble_eq_true rfl) d_KF_recordToChange_32 ⟨rfl, rfl⟩
set_option maxRecDepth 100000 in
set_option maxHeartbeats 4000000 in
theorem q_KF_rtc_s1 (l : Launch) (E : xE) {G : xw_G} {x s0 : Nat} {va : Nat} {vo ae hw : Bool} {mo ac kr pl : Int32} {pf pc vr pw : Int64} (hV : G va = some (eVW vo mo ac kr pl pf pc ae (.ref s0) vr hw pw)) {z by1 sw : Int64} {th : Bool} (hS : G s0 = some (eST by1 th sw)) (hac : ac = 0) : XMk l E y_KF_recordToChange w_KF_recordToChange rm_KF_recordToChange [.ref x, .ref va, .long (z)] G (fun r G' => r = some (va_rf (if th = true then some s0 else none)) ∧ G = G') 0 0 := by
  refine XM_of [some (.ref x), some (.ref va), some (.long (z)), none, none, none] (XZ_st E) (by decide) rfl rfl rfl (Nat.le_of_ble_eq_true rfl) (fun p e s m below meth c C hnm => ?_)
  refine x_aload_n C d_KF_recordToChange_0 rfl rfl ?_
  refine x_get C hV rfl (in_VW _) 2 (by decide) (List.mem_cons_of_mem _ f_KF_71) rfl d_KF_recordToChange_1 ?_
  refine x_if_ne C 33 d_KF_recordToChange_4 (by decide) (fun c_4 => ?_) (fun c_4 => ?_)
  · exact absurd hac c_4
  · refine x_aload_n C d_KF_recordToChange_7 rfl rfl ?_
    refine x_get C hV rfl (in_VW _) 8 (by decide) (List.mem_cons_of_mem _ f_KF_238) rfl d_KF_recordToChange_8 ?_
    refine x_ifnull C d_KF_recordToChange_11 ?_
    refine x_aload_n C d_KF_recordToChange_14 rfl rfl ?_
    refine x_get C hV rfl (in_VW _) 8 (by decide) (List.mem_cons_of_mem _ f_KF_238) rfl d_KF_recordToChange_15 ?_
    refine x_get C hS rfl (in_ST _) 1 (by decide) (List.mem_cons_of_mem _ f_KF_232) rfl d_KF_recordToChange_18 ?_
    refine x_if_eq C 31 d_KF_recordToChange_21 (by decide) (fun c_21 => ?_) (fun c_21 => ?_)
    · refine x_null C d_KF_recordToChange_31 ?_
      exact x_aret C (Or.inl ⟨_, rfl⟩) (Or.inl rfl) (Nat.le_of_ble_eq_true rfl) (Nat.le_of_ble_eq_true rfl) d_KF_recordToChange_32 ⟨by rw [if_neg (by rw [(bI_0 th).mp c_21]; decide)]; rfl, rfl⟩
    · refine x_aload_n C d_KF_recordToChange_24 rfl rfl ?_
      refine x_get C hV rfl (in_VW _) 8 (by decide) (List.mem_cons_of_mem _ f_KF_238) rfl d_KF_recordToChange_25 ?_
      refine x_goto C 32 d_KF_recordToChange_28 (by decide) ?_
      exact x_aret C (Or.inl ⟨_, rfl⟩) (Or.inr ⟨_, rfl⟩) (Nat.le_of_ble_eq_true rfl) (Nat.le_of_ble_eq_true rfl) d_KF_recordToChange_32 ⟨by rw [if_pos (by cases th with | true => rfl | false => exact absurd rfl c_21)]; rfl, rfl⟩
set_option maxRecDepth 100000 in
set_option maxHeartbeats 4000000 in
theorem q_KF_rtc_r0 (l : Launch) (E : xE) {G : xw_G} {x ix vw : Nat} {op : Bool} {na nw : Int64} (hG : G x = some (eKF ix vw op na nw)) {aix : Nat} {ks : List Nat} (hI : xAL E G ix aix ks) {va : Nat} {vo ae hw : Bool} {mo ac kr pl : Int32} {pf pc vr pw : Int64} {rl : Value} (hV : G va = some (eVW vo mo ac kr pl pf pc ae rl vr hw pw)) {ki en : Nat} {db sp : Bool} {fr sz : Int32} {lo : Int64} (hK : G ki = some (eKI db fr sz en sp lo)) (hki : ks[0]? = some ki) {ar : Nat} {xs : List Nat} (hA : xAL E G en ar xs) {fd cm : Nat → Int64} {so : Nat → Nat} (hX : xEs G xs fd cm so) {z : Int64} {k : Nat} (hk : k ≤ xs.length) (hp : ∀ i : Nat, i < xs.length → (ahead (fd i) (cm i) z 0 = true ↔ i < k)) (hac : ¬ ac = 0) (ho : oEq xs.length fd k z = none) : XMk l E y_KF_recordToChange w_KF_recordToChange rm_KF_recordToChange [.ref x, .ref va, .long (z)] G (fun r G' => r = some (.null) ∧ G = G') 0 0 := by
  refine XM_of [some (.ref x), some (.ref va), some (.long (z)), none, none, none] (XZ_st E) (by decide) rfl rfl rfl (Nat.le_of_ble_eq_true rfl) (fun p e s m below meth c C hnm => ?_)
  refine x_aload_n C d_KF_recordToChange_0 rfl rfl ?_
  refine x_get C hV rfl (in_VW _) 2 (by decide) (List.mem_cons_of_mem _ f_KF_71) rfl d_KF_recordToChange_1 ?_
  refine x_if_ne C 33 d_KF_recordToChange_4 (by decide) (fun c_4 => ?_) (fun c_4 => ?_)
  · refine x_aload_n C d_KF_recordToChange_33 rfl rfl ?_
    refine x_iconst C (v := 0) d_KF_recordToChange_34 (by decide) ?_
    refine x_callV1 C (q_KF_indexAt_in l E (i := 0) hG hI hki hK) (lk_KF_36 C.hts (Nat.le_of_ble_eq_true rfl) (Nat.le_of_ble_eq_true rfl)) hG rfl rfl d_KF_recordToChange_35 (Nat.le_of_ble_eq_true rfl) (Nat.le_of_ble_eq_true rfl) (Nat.le_of_ble_eq_true rfl) (fun r G' h => ?_)
    obtain ⟨rfl, rfl⟩ := h
    refine x_astore C d_KF_recordToChange_38 (Nat.le_of_ble_eq_true rfl) rfl ?_
    refine x_aload C d_KF_recordToChange_40 rfl ?_
    refine x_ifnonnull C 49 d_KF_recordToChange_42 (by decide) ?_
    refine x_aload C d_KF_recordToChange_49 rfl ?_
    refine x_lload_n C d_KF_recordToChange_51 rfl rfl ?_
    refine x_callV1 C (q_KI_firstEqual l E hK hA hX hk hp) (lk_KF_108 C.hts (Nat.le_of_ble_eq_true rfl) (Nat.le_of_ble_eq_true rfl)) hK rfl rfl d_KF_recordToChange_52 (Nat.le_of_ble_eq_true rfl) (Nat.le_of_ble_eq_true rfl) (Nat.le_of_ble_eq_true rfl) (fun r G' h => ?_)
    obtain ⟨rfl, rfl⟩ := h
    rw [ho, xr_none]
    refine x_astoreN C d_KF_recordToChange_55 (Nat.le_of_ble_eq_true rfl) rfl ?_
    refine x_aloadN C d_KF_recordToChange_57 rfl ?_
    refine x_ifnonnullN C d_KF_recordToChange_59 ?_
    refine x_null C d_KF_recordToChange_62 ?_
    refine x_goto C 71 d_KF_recordToChange_63 (by decide) ?_
    exact x_aret C (Or.inl ⟨_, rfl⟩) (Or.inl rfl) (Nat.le_of_ble_eq_true rfl) (Nat.le_of_ble_eq_true rfl) d_KF_recordToChange_71 ⟨rfl, rfl⟩
  · exact absurd c_4 hac
set_option maxRecDepth 100000 in
set_option maxHeartbeats 4000000 in
theorem q_KF_rtc_r1 (l : Launch) (E : xE) {G : xw_G} {x ix vw : Nat} {op : Bool} {na nw : Int64} (hG : G x = some (eKF ix vw op na nw)) {aix : Nat} {ks : List Nat} (hI : xAL E G ix aix ks) {va : Nat} {vo ae hw : Bool} {mo ac kr pl : Int32} {pf pc vr pw : Int64} {rl : Value} (hV : G va = some (eVW vo mo ac kr pl pf pc ae rl vr hw pw)) {ki en : Nat} {db sp : Bool} {fr sz : Int32} {lo : Int64} (hK : G ki = some (eKI db fr sz en sp lo)) (hki : ks[0]? = some ki) {ar : Nat} {xs : List Nat} (hA : xAL E G en ar xs) {fd cm : Nat → Int64} {so : Nat → Nat} (hX : xEs G xs fd cm so) {z : Int64} {k : Nat} (hk : k ≤ xs.length) (hp : ∀ i : Nat, i < xs.length → (ahead (fd i) (cm i) z 0 = true ↔ i < k)) (hac : ¬ ac = 0) {a0 : Nat} (ho : oEq xs.length fd k z = some k) (ha : xs[k]? = some a0) : XMk l E y_KF_recordToChange w_KF_recordToChange rm_KF_recordToChange [.ref x, .ref va, .long (z)] G (fun r G' => r = some (.ref (so k)) ∧ G = G') 0 0 := by
  refine XM_of [some (.ref x), some (.ref va), some (.long (z)), none, none, none] (XZ_st E) (by decide) rfl rfl rfl (Nat.le_of_ble_eq_true rfl) (fun p e s m below meth c C hnm => ?_)
  refine x_aload_n C d_KF_recordToChange_0 rfl rfl ?_
  refine x_get C hV rfl (in_VW _) 2 (by decide) (List.mem_cons_of_mem _ f_KF_71) rfl d_KF_recordToChange_1 ?_
  refine x_if_ne C 33 d_KF_recordToChange_4 (by decide) (fun c_4 => ?_) (fun c_4 => ?_)
  · refine x_aload_n C d_KF_recordToChange_33 rfl rfl ?_
    refine x_iconst C (v := 0) d_KF_recordToChange_34 (by decide) ?_
    refine x_callV1 C (q_KF_indexAt_in l E (i := 0) hG hI hki hK) (lk_KF_36 C.hts (Nat.le_of_ble_eq_true rfl) (Nat.le_of_ble_eq_true rfl)) hG rfl rfl d_KF_recordToChange_35 (Nat.le_of_ble_eq_true rfl) (Nat.le_of_ble_eq_true rfl) (Nat.le_of_ble_eq_true rfl) (fun r G' h => ?_)
    obtain ⟨rfl, rfl⟩ := h
    refine x_astore C d_KF_recordToChange_38 (Nat.le_of_ble_eq_true rfl) rfl ?_
    refine x_aload C d_KF_recordToChange_40 rfl ?_
    refine x_ifnonnull C 49 d_KF_recordToChange_42 (by decide) ?_
    refine x_aload C d_KF_recordToChange_49 rfl ?_
    refine x_lload_n C d_KF_recordToChange_51 rfl rfl ?_
    refine x_callV1 C (q_KI_firstEqual l E hK hA hX hk hp) (lk_KF_108 C.hts (Nat.le_of_ble_eq_true rfl) (Nat.le_of_ble_eq_true rfl)) hK rfl rfl d_KF_recordToChange_52 (Nat.le_of_ble_eq_true rfl) (Nat.le_of_ble_eq_true rfl) (Nat.le_of_ble_eq_true rfl) (fun r G' h => ?_)
    obtain ⟨rfl, rfl⟩ := h
    rw [ho, xr_some ha]
    refine x_astore C d_KF_recordToChange_55 (Nat.le_of_ble_eq_true rfl) rfl ?_
    refine x_aload C d_KF_recordToChange_57 rfl ?_
    refine x_ifnonnull C 66 d_KF_recordToChange_59 (by decide) ?_
    refine x_aload C d_KF_recordToChange_66 rfl ?_
    refine x_get C (hX _ _ ha) rfl (in_EN _) 2 (by decide) (List.mem_cons_of_mem _ f_KF_171) rfl d_KF_recordToChange_68 ?_
    exact x_aret C (Or.inl ⟨_, rfl⟩) (Or.inr ⟨_, rfl⟩) (Nat.le_of_ble_eq_true rfl) (Nat.le_of_ble_eq_true rfl) d_KF_recordToChange_71 ⟨rfl, rfl⟩
  · exact absurd c_4 hac
