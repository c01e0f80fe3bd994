theorem xEs_up {G : xw_G} {a ci : Nat} {xs : List Nat} {fd cm : Nat → Int64} {so : Nat → Nat} {fs : List Value} {e : va_E} (ha : G a = some (.inr (ci, fs))) (hc : ci ≠ 1) (h : xEs G xs fd cm so) : xEs (va_up G a (some e)) xs fd cm so := fun i b hb => xw_keep (h i b hb) (xw_neC (h i b hb) ha (fun q => hc q.symm))
set_option maxRecDepth 100000 in
set_option maxHeartbeats 4000000 in
theorem q_KF_read_nv_k (l : Launch) (E : xE) {G : xw_G} {x ix vw : Nat} {op : Bool} {na nw : Int64} (hG : G x = some (eKF ix vw op na nw)) {aix : Nat} {ks : List Nat} (hI : xAL E G ix aix ks) {avw : Nat} {ws : List Nat} (hW : xAL E G vw avw ws) {j : Int32} (hj : j < 0 ∨ nI ws.length ≤ j) {ki en : Nat} {db sp : Bool} {fr sz : Int32} {lo : Int64} (hK : G ki = some (eKI db fr sz en sp lo)) {i2 : Nat} (hki : ks[i2]? = some ki) {z : Int64} : XMk l E y_KF_read w_KF_read rm_KF_read [.ref x, .int (j), .int (nI i2), .long (z)] G (fun r G' => r = some (.int (-1)) ∧ G = G') 0 0 := by
  refine XM_of [some (.ref x), some (.int (j)), some (.int (nI i2)), some (.long (z)), none, none, none, none, none] (XZ_st E) (by decide) rfl rfl rfl (Nat.le_of_ble_eq_true rfl) (fun p e s m below meth c C hnm => ?_)
  refine x_aload_n C d_KF_read_0 rfl rfl ?_
  refine x_iload_n C d_KF_read_1 rfl rfl ?_
  refine x_callV1 C (q_KF_viewAt_out l E hG hW hj) (lk_KF_51 C.hts (Nat.le_of_ble_eq_true rfl) (Nat.le_of_ble_eq_true rfl)) hG rfl rfl d_KF_read_2 (Nat.le_of_ble_eq_true rfl) (Nat.le_of_ble_eq_true rfl) (Nat.le_of_ble_eq_true rfl) (fun r G' h => ?_)
  obtain ⟨rfl, rfl⟩ := h
  refine x_astoreN C d_KF_read_5 (Nat.le_of_ble_eq_true rfl) rfl ?_
  refine x_aload_n C d_KF_read_7 rfl rfl ?_
  refine x_iload_n C d_KF_read_8 rfl rfl ?_
  refine x_callV1 C (q_KF_indexAt_in l E hG hI hki hK) (lk_KF_36 C.hts (Nat.le_of_ble_eq_true rfl) (Nat.le_of_ble_eq_true rfl)) hG rfl rfl d_KF_read_9 (Nat.le_of_ble_eq_true rfl) (Nat.le_of_ble_eq_true rfl) (Nat.le_of_ble_eq_true rfl) (fun r G' h => ?_)
  obtain ⟨rfl, rfl⟩ := h
  refine x_astore C d_KF_read_12 (Nat.le_of_ble_eq_true rfl) rfl ?_
  refine x_aloadN C d_KF_read_14 rfl ?_
  refine x_ifnullN C 24 d_KF_read_16 (by decide) ?_
  refine x_iconst C (v := -1) d_KF_read_24 (by decide) ?_
  exact x_iret C (Nat.le_of_ble_eq_true rfl) (Nat.le_of_ble_eq_true rfl) d_KF_read_25 ⟨rfl, rfl⟩
set_option maxRecDepth 100000 in
set_option maxHeartbeats 4000000 in
theorem q_KF_start_nv_k (l : Launch) (E : xE) {G : xw_G} {x ix vw : Nat} {op : Bool} {na nw : Int64} (hG : G x = some (eKF ix vw op na nw)) {aix : Nat} {ks : List Nat} (hI : xAL E G ix aix ks) {avw : Nat} {ws : List Nat} (hW : xAL E G vw avw ws) {j : Int32} (hj : j < 0 ∨ nI ws.length ≤ j) {ki en : Nat} {db sp : Bool} {fr sz : Int32} {lo : Int64} (hK : G ki = some (eKI db fr sz en sp lo)) {i2 : Nat} (hki : ks[i2]? = some ki) {z : Int64} {op2 b : Int32} : XMk l E y_KF_start w_KF_start rm_KF_start [.ref x, .int (j), .int (nI i2), .int (op2), .long (z), .int (b)] G (fun r G' => r = some (.int (-1)) ∧ G = G') 0 0 := by
  refine XM_of [some (.ref x), some (.int (j)), some (.int (nI i2)), some (.int (op2)), some (.long (z)), none, some (.int (b)), none, none, none, none] (XZ_st E) (by decide) rfl rfl rfl (Nat.le_of_ble_eq_true rfl) (fun p e s m below meth c C hnm => ?_)
  refine x_aload_n C d_KF_start_0 rfl rfl ?_
  refine x_iload_n C d_KF_start_1 rfl rfl ?_
  refine x_callV1 C (q_KF_viewAt_out l E hG hW hj) (lk_KF_51 C.hts (Nat.le_of_ble_eq_true rfl) (Nat.le_of_ble_eq_true rfl)) hG rfl rfl d_KF_start_2 (Nat.le_of_ble_eq_true rfl) (Nat.le_of_ble_eq_true rfl) (Nat.le_of_ble_eq_true rfl) (fun r G' h => ?_)
  obtain ⟨rfl, rfl⟩ := h
  refine x_astoreN C d_KF_start_5 (Nat.le_of_ble_eq_true rfl) rfl ?_
  refine x_aload_n C d_KF_start_7 rfl rfl ?_
  refine x_iload_n C d_KF_start_8 rfl rfl ?_
  refine x_callV1 C (q_KF_indexAt_in l E hG hI hki hK) (lk_KF_36 C.hts (Nat.le_of_ble_eq_true rfl) (Nat.le_of_ble_eq_true rfl)) hG rfl rfl d_KF_start_9 (Nat.le_of_ble_eq_true rfl) (Nat.le_of_ble_eq_true rfl) (Nat.le_of_ble_eq_true rfl) (fun r G' h => ?_)
  obtain ⟨rfl, rfl⟩ := h
  refine x_astore C d_KF_start_12 (Nat.le_of_ble_eq_true rfl) rfl ?_
  refine x_aloadN C d_KF_start_14 rfl ?_
  refine x_ifnullN C 33 d_KF_start_16 (by decide) ?_
  refine x_iconst C (v := -1) d_KF_start_33 (by decide) ?_
  exact x_iret C (Nat.le_of_ble_eq_true rfl) (Nat.le_of_ble_eq_true rfl) d_KF_start_34 ⟨rfl, rfl⟩
set_option maxRecDepth 100000 in
set_option maxHeartbeats 4000000 in
theorem q_KF_read_nv_nk (l : Launch) (E : xE) {G : xw_G} {x ix vw : Nat} {op : Bool} {na nw : Int64} (hG : G x = some (eKF ix vw op na nw)) {aix : Nat} {ks : List Nat} (hI : xAL E G ix aix ks) {avw : Nat} {ws : List Nat} (hW : xAL E G vw avw ws) {j : Int32} (hj : j < 0 ∨ nI ws.length ≤ j) {j2 : Int32} (hkj : j2 < 0 ∨ nI ks.length ≤ j2) {z : Int64} : XMk l E y_KF_read w_KF_read rm_KF_read [.ref x, .int (j), .int (j2), .long (z)] G (fun r G' => r = some (.int (-1)) ∧ G = G') 0 0 := by
  refine XM_of [some (.ref x), some (.int (j)), some (.int (j2)), some (.long (z)), none, none, none, none, none] (XZ_st E) (by decide) rfl rfl rfl (Nat.le_of_ble_eq_true rfl) (fun p e s m below meth c C hnm => ?_)
  refine x_aload_n C d_KF_read_0 rfl rfl ?_
  refine x_iload_n C d_KF_read_1 rfl rfl ?_
  refine x_callV1 C (q_KF_viewAt_out l E hG hW hj) (lk_KF_51 C.hts (Nat.le_of_ble_eq_true rfl) (Nat.le_of_ble_eq_true rfl)) hG rfl rfl d_KF_read_2 (Nat.le_of_ble_eq_true rfl) (Nat.le_of_ble_eq_true rfl) (Nat.le_of_ble_eq_true rfl) (fun r G' h => ?_)
  obtain ⟨rfl, rfl⟩ := h
  refine x_astoreN C d_KF_read_5 (Nat.le_of_ble_eq_true rfl) rfl ?_
  refine x_aload_n C d_KF_read_7 rfl rfl ?_
  refine x_iload_n C d_KF_read_8 rfl rfl ?_
  refine x_callV1 C (q_KF_indexAt_out l E hG hI hkj) (lk_KF_36 C.hts (Nat.le_of_ble_eq_true rfl) (Nat.le_of_ble_eq_true rfl)) hG rfl rfl d_KF_read_9 (Nat.le_of_ble_eq_true rfl) (Nat.le_of_ble_eq_true rfl) (Nat.le_of_ble_eq_true rfl) (fun r G' h => ?_)
  obtain ⟨rfl, rfl⟩ := h
  refine x_astoreN C d_KF_read_12 (Nat.le_of_ble_eq_true rfl) rfl ?_
  refine x_aloadN C d_KF_read_14 rfl ?_
  refine x_ifnullN C 24 d_KF_read_16 (by decide) ?_
  refine x_iconst C (v := -1) d_KF_read_24 (by decide) ?_
  exact x_iret C (Nat.le_of_ble_eq_true rfl) (Nat.le_of_ble_eq_true rfl) d_KF_read_25 ⟨rfl, rfl⟩
set_option maxRecDepth 100000 in
set_option maxHeartbeats 4000000 in
theorem q_KF_start_nv_nk (l : Launch) (E : xE) {G : xw_G} {x ix vw : Nat} {op : Bool} {na nw : Int64} (hG : G x = some (eKF ix vw op na nw)) {aix : Nat} {ks : List Nat} (hI : xAL E G ix aix ks) {avw : Nat} {ws : List Nat} (hW : xAL E G vw avw ws) {j : Int32} (hj : j < 0 ∨ nI ws.length ≤ j) {j2 : Int32} (hkj : j2 < 0 ∨ nI ks.length ≤ j2) {z : Int64} {op2 b : Int32} : XMk l E y_KF_start w_KF_start rm_KF_start [.ref x, .int (j), .int (j2), .int (op2), .long (z), .int (b)] G (fun r G' => r = some (.int (-1)) ∧ G = G') 0 0 := by
  refine XM_of [some (.ref x), some (.int (j)), some (.int (j2)), some (.int (op2)), some (.long (z)), none, some (.int (b)), none, none, none, none] (XZ_st E) (by decide) rfl rfl rfl (Nat.le_of_ble_eq_true rfl) (fun p e s m below meth c C hnm => ?_)
  refine x_aload_n C d_KF_start_0 rfl rfl ?_
  refine x_iload_n C d_KF_start_1 rfl rfl ?_
  refine x_callV1 C (q_KF_viewAt_out l E hG hW hj) (lk_KF_51 C.hts (Nat.le_of_ble_eq_true rfl) (Nat.le_of_ble_eq_true rfl)) hG rfl rfl d_KF_start_2 (Nat.le_of_ble_eq_true rfl) (Nat.le_of_ble_eq_true rfl) (Nat.le_of_ble_eq_true rfl) (fun r G' h => ?_)
  obtain ⟨rfl, rfl⟩ := h
  refine x_astoreN C d_KF_start_5 (Nat.le_of_ble_eq_true rfl) rfl ?_
  refine x_aload_n C d_KF_start_7 rfl rfl ?_
  refine x_iload_n C d_KF_start_8 rfl rfl ?_
  refine x_callV1 C (q_KF_indexAt_out l E hG hI hkj) (lk_KF_36 C.hts (Nat.le_of_ble_eq_true rfl) (Nat.le_of_ble_eq_true rfl)) hG rfl rfl d_KF_start_9 (Nat.le_of_ble_eq_true rfl) (Nat.le_of_ble_eq_true rfl) (Nat.le_of_ble_eq_true rfl) (fun r G' h => ?_)
  obtain ⟨rfl, rfl⟩ := h
  refine x_astoreN C d_KF_start_12 (Nat.le_of_ble_eq_true rfl) rfl ?_
  refine x_aloadN C d_KF_start_14 rfl ?_
  refine x_ifnullN C 33 d_KF_start_16 (by decide) ?_
  refine x_iconst C (v := -1) d_KF_start_33 (by decide) ?_
  exact x_iret C (Nat.le_of_ble_eq_true rfl) (Nat.le_of_ble_eq_true rfl) d_KF_start_34 ⟨rfl, rfl⟩
set_option maxRecDepth 100000 in
set_option maxHeartbeats 4000000 in
theorem q_KF_read_v_nk (l : Launch) (E : xE) {G : xw_G} {x ix vw : Nat} {op : Bool} {na nw : Int64} (hG : G x = some (eKF ix vw op na nw)) {aix : Nat} {ks : List Nat} (hI : xAL E G ix aix ks) {avw : Nat} {ws : List Nat} (hW : xAL E G vw avw ws) {va : Nat} {vo ae hw : Bool} {mo ac kr pl : Int32} {pf pc vr pw : Int64} {rl : Value} (hV : G va = some (eVW vo mo ac kr pl pf pc ae rl vr hw pw)) {i : Nat} (hi : ws[i]? = some va) {j2 : Int32} (hkj : j2 < 0 ∨ nI ks.length ≤ j2) {z : Int64} : XMk l E y_KF_read w_KF_read rm_KF_read [.ref x, .int (nI i), .int (j2), .long (z)] G (fun r G' => r = some (.int (-1)) ∧ G = G') 0 0 := by
  refine XM_of [some (.ref x), some (.int (nI i)), some (.int (j2)), some (.long (z)), none, none, none, none, none] (XZ_st E) (by decide) rfl rfl rfl (Nat.le_of_ble_eq_true rfl) (fun p e s m below meth c C hnm => ?_)
  refine x_aload_n C d_KF_read_0 rfl rfl ?_
  refine x_iload_n C d_KF_read_1 rfl rfl ?_
  refine x_callV1 C (q_KF_viewAt_in l E hG hW hi hV) (lk_KF_51 C.hts (Nat.le_of_ble_eq_true rfl) (Nat.le_of_ble_eq_true rfl)) hG rfl rfl d_KF_read_2 (Nat.le_of_ble_eq_true rfl) (Nat.le_of_ble_eq_true rfl) (Nat.le_of_ble_eq_true rfl) (fun r G' h => ?_)
  obtain ⟨rfl, rfl⟩ := h
  refine x_astore C d_KF_read_5 (Nat.le_of_ble_eq_true rfl) rfl ?_
  refine x_aload_n C d_KF_read_7 rfl rfl ?_
  refine x_iload_n C d_KF_read_8 rfl rfl ?_
  refine x_callV1 C (q_KF_indexAt_out l E hG hI hkj) (lk_KF_36 C.hts (Nat.le_of_ble_eq_true rfl) (Nat.le_of_ble_eq_true rfl)) hG rfl rfl d_KF_read_9 (Nat.le_of_ble_eq_true rfl) (Nat.le_of_ble_eq_true rfl) (Nat.le_of_ble_eq_true rfl) (fun r G' h => ?_)
  obtain ⟨rfl, rfl⟩ := h
  refine x_astoreN C d_KF_read_12 (Nat.le_of_ble_eq_true rfl) rfl ?_
  refine x_aload C d_KF_read_14 rfl ?_
  refine x_ifnull C d_KF_read_16 ?_
  refine x_aloadN C d_KF_read_19 rfl ?_
  refine x_ifnonnullN C d_KF_read_21 ?_
  refine x_iconst C (v := -1) d_KF_read_24 (by decide) ?_
  exact x_iret C (Nat.le_of_ble_eq_true rfl) (Nat.le_of_ble_eq_true rfl) d_KF_read_25 ⟨rfl, rfl⟩
set_option maxRecDepth 100000 in
set_option maxHeartbeats 4000000 in
theorem q_KF_start_v_nk (l : Launch) (E : xE) {G : xw_G} {x ix vw : Nat} {op : Bool} {na nw : Int64} (hG : G x = some (eKF ix vw op na nw)) {aix : Nat} {ks : List Nat} (hI : xAL E G ix aix ks) {avw : Nat} {ws : List Nat} (hW : xAL E G vw avw ws) {va : Nat} {vo ae hw : Bool} {mo ac kr pl : Int32} {pf pc vr pw : Int64} {rl : Value} (hV : G va = some (eVW vo mo ac kr pl pf pc ae rl vr hw pw)) {i : Nat} (hi : ws[i]? = some va) {j2 : Int32} (hkj : j2 < 0 ∨ nI ks.length ≤ j2) {z : Int64} {op2 b : Int32} : XMk l E y_KF_start w_KF_start rm_KF_start [.ref x, .int (nI i), .int (j2), .int (op2), .long (z), .int (b)] G (fun r G' => r = some (.int (-1)) ∧ G = G') 0 0 := by
  refine XM_of [some (.ref x), some (.int (nI i)), some (.int (j2)), some (.int (op2)), some (.long (z)), none, some (.int (b)), none, none, none, none] (XZ_st E) (by decide) rfl rfl rfl (Nat.le_of_ble_eq_true rfl) (fun p e s m below meth c C hnm => ?_)
  refine x_aload_n C d_KF_start_0 rfl rfl ?_
  refine x_iload_n C d_KF_start_1 rfl rfl ?_
  refine x_callV1 C (q_KF_viewAt_in l E hG hW hi hV) (lk_KF_51 C.hts (Nat.le_of_ble_eq_true rfl) (Nat.le_of_ble_eq_true rfl)) hG rfl rfl d_KF_start_2 (Nat.le_of_ble_eq_true rfl) (Nat.le_of_ble_eq_true rfl) (Nat.le_of_ble_eq_true rfl) (fun r G' h => ?_)
  obtain ⟨rfl, rfl⟩ := h
  refine x_astore C d_KF_start_5 (Nat.le_of_ble_eq_true rfl) rfl ?_
  refine x_aload_n C d_KF_start_7 rfl rfl ?_
  refine x_iload_n C d_KF_start_8 rfl rfl ?_
  refine x_callV1 C (q_KF_indexAt_out l E hG hI hkj) (lk_KF_36 C.hts (Nat.le_of_ble_eq_true rfl) (Nat.le_of_ble_eq_true rfl)) hG rfl rfl d_KF_start_9 (Nat.le_of_ble_eq_true rfl) (Nat.le_of_ble_eq_true rfl) (Nat.le_of_ble_eq_true rfl) (fun r G' h => ?_)
  obtain ⟨rfl, rfl⟩ := h
  refine x_astoreN C d_KF_start_12 (Nat.le_of_ble_eq_true rfl) rfl ?_
  refine x_aload C d_KF_start_14 rfl ?_
  refine x_ifnull C d_KF_start_16 ?_
  refine x_aloadN C d_KF_start_19 rfl ?_
  refine x_ifnullN C 33 d_KF_start_21 (by decide) ?_
  refine x_iconst C (v := -1) d_KF_start_33 (by decide) ?_
  exact x_iret C (Nat.le_of_ble_eq_true rfl) (Nat.le_of_ble_eq_true rfl) d_KF_start_34 ⟨rfl, rfl⟩
set_option maxRecDepth 100000 in
set_option maxHeartbeats 4000000 in
theorem q_KF_read_ref (l : Launch) (E : xE) {G : xw_G} {x ix vw : Nat} {op : Bool} {na nw : Int64} (hG : G x = some (eKF ix vw op na nw)) {aix : Nat} {ks : List Nat} (hI : xAL E G ix aix ks) {avw : Nat} {ws : List Nat} (hW : xAL E G vw avw ws) {va : Nat} {vo ae hw : Bool} {mo ac kr pl : Int32} {pf pc vr pw : Int64} {rl : Value} (hV : G va = some (eVW vo mo ac kr pl pf pc ae rl vr hw pw)) {i : Nat} (hi : ws[i]? = some va) {ki en : Nat} {db sp : Bool} {fr sz : Int32} {lo : Int64} (hK : G ki = some (eKI db fr sz en sp lo)) {i2 : Nat} (hki : ks[i2]? = some ki) {z : Int64} (hr : ¬ refRead vo mo ac 0 = 0) : XMk l E y_KF_read w_KF_read rm_KF_read [.ref x, .int (nI i), .int (nI i2), .long (z)] G (fun r G' => r = some (.int (refRead vo mo ac 0)) ∧ G = G') 0 0 := by
  refine XM_of [some (.ref x), some (.int (nI i)), some (.int (nI i2)), some (.long (z)), none, none, none, none, none] (XZ_st E) (by decide) rfl rfl rfl (Nat.le_of_ble_eq_true rfl) (fun p e s m below meth c C hnm => ?_)
  refine x_aload_n C d_KF_read_0 rfl rfl ?_
  refine x_iload_n C d_KF_read_1 rfl rfl ?_
  refine x_callV1 C (q_KF_viewAt_in l E hG hW hi hV) (lk_KF_51 C.hts (Nat.le_of_ble_eq_true rfl) (Nat.le_of_ble_eq_true rfl)) hG rfl rfl d_KF_read_2 (Nat.le_of_ble_eq_true rfl) (Nat.le_of_ble_eq_true rfl) (Nat.le_of_ble_eq_true rfl) (fun r G' h => ?_)
  obtain ⟨rfl, rfl⟩ := h
  refine x_astore C d_KF_read_5 (Nat.le_of_ble_eq_true rfl) rfl ?_
  refine x_aload_n C d_KF_read_7 rfl rfl ?_
  refine x_iload_n C d_KF_read_8 rfl rfl ?_
  refine x_callV1 C (q_KF_indexAt_in l E hG hI hki hK) (lk_KF_36 C.hts (Nat.le_of_ble_eq_true rfl) (Nat.le_of_ble_eq_true rfl)) hG rfl rfl d_KF_read_9 (Nat.le_of_ble_eq_true rfl) (Nat.le_of_ble_eq_true rfl) (Nat.le_of_ble_eq_true rfl) (fun r G' h => ?_)
  obtain ⟨rfl, rfl⟩ := h
  refine x_astore C d_KF_read_12 (Nat.le_of_ble_eq_true rfl) rfl ?_
  refine x_aload C d_KF_read_14 rfl ?_
  refine x_ifnull C d_KF_read_16 ?_
  refine x_aload C d_KF_read_19 rfl ?_
  refine x_ifnonnull C 26 d_KF_read_21 (by decide) ?_
  refine x_aload C d_KF_read_26 rfl ?_
  refine x_iconst C (v := 0) d_KF_read_28 (by decide) ?_
  refine x_callV1 C (q_VW_refusalToRead l E hV) (lk_KF_102 C.hts (Nat.le_of_ble_eq_true rfl) (Nat.le_of_ble_eq_true rfl)) hV rfl rfl d_KF_read_29 (Nat.le_of_ble_eq_true rfl) (Nat.le_of_ble_eq_true rfl) (Nat.le_of_ble_eq_true rfl) (fun r G' h => ?_)
  obtain ⟨rfl, rfl⟩ := h
  refine x_istore C d_KF_read_32 (Nat.le_of_ble_eq_true rfl) rfl ?_
  refine x_iload C d_KF_read_34 rfl ?_
  refine x_if_eq C 42 d_KF_read_36 (by decide) (fun c_36 => ?_) (fun c_36 => ?_)
  · exact absurd c_36 hr
  · refine x_iload C d_KF_read_39 rfl ?_
    exact x_iret C (Nat.le_of_ble_eq_true rfl) (Nat.le_of_ble_eq_true rfl) d_KF_read_41 ⟨rfl, rfl⟩
set_option maxRecDepth 100000 in
set_option maxHeartbeats 4000000 in
theorem q_KF_read_23 (l : Launch) (E : xE) {G : xw_G} {x ix vw : Nat} {op : Bool} {na nw : Int64} (hG : G x = some (eKF ix vw op na nw)) {aix : Nat} {ks : List Nat} (hI : xAL E G ix aix ks) {avw : Nat} {ws : List Nat} (hW : xAL E G vw avw ws) {va : Nat} {vo ae hw : Bool} {mo ac kr pl : Int32} {pf pc vr pw : Int64} {rl : Value} (hV : G va = some (eVW vo mo ac kr pl pf pc ae rl vr hw pw)) {i : Nat} (hi : ws[i]? = some va) {ki en : Nat} {db sp : Bool} {fr sz : Int32} {lo : Int64} (hK : G ki = some (eKI db fr sz en sp lo)) {i2 : Nat} (hki : ks[i2]? = some ki) {ar : Nat} {xs : List Nat} (hA : xAL E G en ar xs) {fd cm : Nat → Int64} {so : Nat → Nat} (hX : xEs G xs fd cm so) {z : Int64} {k : Nat} (hk : k ≤ xs.length) (hp : ∀ i : Nat, i < xs.length → (ahead (fd i) (cm i) z 0 = true ↔ i < k)) (hr : refRead vo mo ac 0 = 0) (ho : oEq xs.length fd k z = none) : XMk l E y_KF_read w_KF_read rm_KF_read [.ref x, .int (nI i), .int (nI i2), .long (z)] G (fun r G' => r = some (.int 23) ∧ G' = va_up G va (some (eVW vo mo ac (nI i2) (3) pf pc ae (.null) (0) hw pw))) 0 0 := by
  refine XM_of [some (.ref x), some (.int (nI i)), some (.int (nI i2)), some (.long (z)), none, none, none, none, none] (XZ_st E) (by decide) rfl rfl rfl (Nat.le_of_ble_eq_true rfl) (fun p e s m below meth c C hnm => ?_)
  refine x_aload_n C d_KF_read_0 rfl rfl ?_
  refine x_iload_n C d_KF_read_1 rfl rfl ?_
  refine x_callV1 C (q_KF_viewAt_in l E hG hW hi hV) (lk_KF_51 C.hts (Nat.le_of_ble_eq_true rfl) (Nat.le_of_ble_eq_true rfl)) hG rfl rfl d_KF_read_2 (Nat.le_of_ble_eq_true rfl) (Nat.le_of_ble_eq_true rfl) (Nat.le_of_ble_eq_true rfl) (fun r G' h => ?_)
  obtain ⟨rfl, rfl⟩ := h
  refine x_astore C d_KF_read_5 (Nat.le_of_ble_eq_true rfl) rfl ?_
  refine x_aload_n C d_KF_read_7 rfl rfl ?_
  refine x_iload_n C d_KF_read_8 rfl rfl ?_
  refine x_callV1 C (q_KF_indexAt_in l E hG hI hki hK) (lk_KF_36 C.hts (Nat.le_of_ble_eq_true rfl) (Nat.le_of_ble_eq_true rfl)) hG rfl rfl d_KF_read_9 (Nat.le_of_ble_eq_true rfl) (Nat.le_of_ble_eq_true rfl) (Nat.le_of_ble_eq_true rfl) (fun r G' h => ?_)
  obtain ⟨rfl, rfl⟩ := h
  refine x_astore C d_KF_read_12 (Nat.le_of_ble_eq_true rfl) rfl ?_
  refine x_aload C d_KF_read_14 rfl ?_
  refine x_ifnull C d_KF_read_16 ?_
  refine x_aload C d_KF_read_19 rfl ?_
  refine x_ifnonnull C 26 d_KF_read_21 (by decide) ?_
  refine x_aload C d_KF_read_26 rfl ?_
  refine x_iconst C (v := 0) d_KF_read_28 (by decide) ?_
  refine x_callV1 C (q_VW_refusalToRead l E hV) (lk_KF_102 C.hts (Nat.le_of_ble_eq_true rfl) (Nat.le_of_ble_eq_true rfl)) hV rfl rfl d_KF_read_29 (Nat.le_of_ble_eq_true rfl) (Nat.le_of_ble_eq_true rfl) (Nat.le_of_ble_eq_true rfl) (fun r G' h => ?_)
  obtain ⟨rfl, rfl⟩ := h
  refine x_istore C d_KF_read_32 (Nat.le_of_ble_eq_true rfl) rfl ?_
  refine x_iload C d_KF_read_34 rfl ?_
  refine x_if_eq C 42 d_KF_read_36 (by decide) (fun c_36 => ?_) (fun c_36 => ?_)
  · refine x_aload C d_KF_read_42 rfl ?_
    refine x_callV0 C (q_VW_forgetRead l E hV) (lk_KF_65 C.hts (Nat.le_of_ble_eq_true rfl) (Nat.le_of_ble_eq_true rfl)) hV rfl rfl d_KF_read_44 (Nat.le_of_ble_eq_true rfl) (Nat.le_of_ble_eq_true rfl) (Nat.le_of_ble_eq_true rfl) (fun r G' h => ?_)
    obtain ⟨rfl, rfl⟩ := h
    refine x_aload C d_KF_read_47 rfl ?_
    refine x_iload_n C d_KF_read_49 rfl rfl ?_
    refine x_put2 C rfl (in_VW _) ty_VW tok_VW nm_VW 3 (by decide) (List.mem_cons_of_mem _ f_KF_105) rfl (tok_VW 3 (by decide)) rfl rfl (Nat.le_of_ble_eq_true rfl) d_KF_read_50 ?_
    refine x_aload C d_KF_read_53 rfl ?_
    refine x_lload_n C d_KF_read_55 rfl rfl ?_
    refine x_callV1 C (q_KI_firstEqual l E (xw_keep hK (xw_neC hK hV (by decide))) (xAL_up hV (by decide) hA) (xEs_up hV (by decide) hX) hk hp) (lk_KF_108 C.hts (Nat.le_of_ble_eq_true rfl) (Nat.le_of_ble_eq_true rfl)) (xw_keep hK (xw_neC hK hV (by decide))) rfl rfl d_KF_read_56 (Nat.le_of_ble_eq_true rfl) (Nat.le_of_ble_eq_true rfl) (Nat.le_of_ble_eq_true rfl) (fun r G' h => ?_)
    obtain ⟨rfl, rfl⟩ := h
    rw [ho, xr_none]
    refine x_astoreN C d_KF_read_59 (Nat.le_of_ble_eq_true rfl) rfl ?_
    refine x_aloadN C d_KF_read_61 rfl ?_
    refine x_ifnonnullN C d_KF_read_63 ?_
    refine x_aload C d_KF_read_66 rfl ?_
    refine x_callV0 C (q_VW_lose l E (va_up_self _ _ _)) (lk_KF_112 C.hts (Nat.le_of_ble_eq_true rfl) (Nat.le_of_ble_eq_true rfl)) (va_up_self _ _ _) rfl rfl d_KF_read_68 (Nat.le_of_ble_eq_true rfl) (Nat.le_of_ble_eq_true rfl) (Nat.le_of_ble_eq_true rfl) (fun r G' h => ?_)
    obtain ⟨rfl, rfl⟩ := h
    rw [bx_uu]
    refine x_bipush C (v := 23) d_KF_read_71 (by decide) ?_
    exact x_iret C (Nat.le_of_ble_eq_true rfl) (Nat.le_of_ble_eq_true rfl) d_KF_read_73 ⟨rfl, rfl⟩
  · exact absurd hr c_36
set_option maxRecDepth 100000 in
set_option maxHeartbeats 4000000 in
theorem q_KF_read_got (l : Launch) (E : xE) {G : xw_G} {x ix vw : Nat} {op : Bool} {na nw : Int64} (hG : G x = some (eKF ix vw op na nw)) {aix : Nat} {ks : List Nat} (hI : xAL E G ix aix ks) {avw : Nat} {ws : List Nat} (hW : xAL E G vw avw ws) {va : Nat} {vo ae hw : Bool} {mo ac kr pl : Int32} {pf pc vr pw : Int64} {rl : Value} (hV : G va = some (eVW vo mo ac kr pl pf pc ae rl vr hw pw)) {i : Nat} (hi : ws[i]? = some va) {ki en : Nat} {db sp : Bool} {fr sz : Int32} {lo : Int64} (hK : G ki = some (eKI db fr sz en sp lo)) {i2 : Nat} (hki : ks[i2]? = some ki) {ar : Nat} {xs : List Nat} (hA : xAL E G en ar xs) {fd cm : Nat → Int64} {so : Nat → Nat} (hX : xEs G xs fd cm so) {z : Int64} {k : Nat} (hk : k ≤ xs.length) (hp : ∀ i : Nat, i < xs.length → (ahead (fd i) (cm i) z 0 = true ↔ i < k)) (hr : refRead vo mo ac 0 = 0) (ho : oEq xs.length fd k z = some k) {a0 : Nat} {by1 sw : Int64} {th : Bool} (ha : xs[k]? = some a0) (hS : G (so k) = some (eST by1 th sw)) {k2 : Nat} (hk2 : k2 ≤ xs.length) (hp2 : ∀ i : Nat, i < xs.length → (ahead (fd i) (cm i) (fd k) (cm k) = true ↔ i < k2)) : XMk l E y_KF_read w_KF_read rm_KF_read [.ref x, .int (nI i), .int (nI i2), .long (z)] G (fun r G' => r = some (.int (if eqNext xs.length fd k2 (fd k) false = true then 2 else 0)) ∧ G' = va_up G va (some (eVW vo mo ac (nI i2) (1) (fd k) (cm k) (false) (.ref (so k)) (by1) hw pw))) 0 0 := by
  refine XM_of [some (.ref x), some (.int (nI i)), some (.int (nI i2)), some (.long (z)), none, none, none, none, none] (XZ_st E) (by decide) rfl rfl rfl (Nat.le_of_ble_eq_true rfl) (fun p e s m below meth c C hnm => ?_)
  refine x_aload_n C d_KF_read_0 rfl rfl ?_
  refine x_iload_n C d_KF_read_1 rfl rfl ?_
  refine x_callV1 C (q_KF_viewAt_in l E hG hW hi hV) (lk_KF_51 C.hts (Nat.le_of_ble_eq_true rfl) (Nat.le_of_ble_eq_true rfl)) hG rfl rfl d_KF_read_2 (Nat.le_of_ble_eq_true rfl) (Nat.le_of_ble_eq_true rfl) (Nat.le_of_ble_eq_true rfl) (fun r G' h => ?_)
  obtain ⟨rfl, rfl⟩ := h
  refine x_astore C d_KF_read_5 (Nat.le_of_ble_eq_true rfl) rfl ?_
  refine x_aload_n C d_KF_read_7 rfl rfl ?_
  refine x_iload_n C d_KF_read_8 rfl rfl ?_
  refine x_callV1 C (q_KF_indexAt_in l E hG hI hki hK) (lk_KF_36 C.hts (Nat.le_of_ble_eq_true rfl) (Nat.le_of_ble_eq_true rfl)) hG rfl rfl d_KF_read_9 (Nat.le_of_ble_eq_true rfl) (Nat.le_of_ble_eq_true rfl) (Nat.le_of_ble_eq_true rfl) (fun r G' h => ?_)
  obtain ⟨rfl, rfl⟩ := h
  refine x_astore C d_KF_read_12 (Nat.le_of_ble_eq_true rfl) rfl ?_
  refine x_aload C d_KF_read_14 rfl ?_
  refine x_ifnull C d_KF_read_16 ?_
  refine x_aload C d_KF_read_19 rfl ?_
  refine x_ifnonnull C 26 d_KF_read_21 (by decide) ?_
  refine x_aload C d_KF_read_26 rfl ?_
  refine x_iconst C (v := 0) d_KF_read_28 (by decide) ?_
  refine x_callV1 C (q_VW_refusalToRead l E hV) (lk_KF_102 C.hts (Nat.le_of_ble_eq_true rfl) (Nat.le_of_ble_eq_true rfl)) hV rfl rfl d_KF_read_29 (Nat.le_of_ble_eq_true rfl) (Nat.le_of_ble_eq_true rfl) (Nat.le_of_ble_eq_true rfl) (fun r G' h => ?_)
  obtain ⟨rfl, rfl⟩ := h
  refine x_istore C d_KF_read_32 (Nat.le_of_ble_eq_true rfl) rfl ?_
  refine x_iload C d_KF_read_34 rfl ?_
  refine x_if_eq C 42 d_KF_read_36 (by decide) (fun c_36 => ?_) (fun c_36 => ?_)
  · refine x_aload C d_KF_read_42 rfl ?_
    refine x_callV0 C (q_VW_forgetRead l E hV) (lk_KF_65 C.hts (Nat.le_of_ble_eq_true rfl) (Nat.le_of_ble_eq_true rfl)) hV rfl rfl d_KF_read_44 (Nat.le_of_ble_eq_true rfl) (Nat.le_of_ble_eq_true rfl) (Nat.le_of_ble_eq_true rfl) (fun r G' h => ?_)
    obtain ⟨rfl, rfl⟩ := h
    refine x_aload C d_KF_read_47 rfl ?_
    refine x_iload_n C d_KF_read_49 rfl rfl ?_
    refine x_put2 C rfl (in_VW _) ty_VW tok_VW nm_VW 3 (by decide) (List.mem_cons_of_mem _ f_KF_105) rfl (tok_VW 3 (by decide)) rfl rfl (Nat.le_of_ble_eq_true rfl) d_KF_read_50 ?_
    refine x_aload C d_KF_read_53 rfl ?_
    refine x_lload_n C d_KF_read_55 rfl rfl ?_
    refine x_callV1 C (q_KI_firstEqual l E (xw_keep hK (xw_neC hK hV (by decide))) (xAL_up hV (by decide) hA) (xEs_up hV (by decide) hX) hk hp) (lk_KF_108 C.hts (Nat.le_of_ble_eq_true rfl) (Nat.le_of_ble_eq_true rfl)) (xw_keep hK (xw_neC hK hV (by decide))) rfl rfl d_KF_read_56 (Nat.le_of_ble_eq_true rfl) (Nat.le_of_ble_eq_true rfl) (Nat.le_of_ble_eq_true rfl) (fun r G' h => ?_)
    obtain ⟨rfl, rfl⟩ := h
    rw [ho, xr_some ha]
    refine x_astore C d_KF_read_59 (Nat.le_of_ble_eq_true rfl) rfl ?_
    refine x_aload C d_KF_read_61 rfl ?_
    refine x_ifnonnull C 74 d_KF_read_63 (by decide) ?_
    refine x_aload C d_KF_read_74 rfl ?_
    refine x_aload C d_KF_read_76 rfl ?_
    refine x_aload C d_KF_read_78 rfl ?_
    refine x_iconst C (v := 0) d_KF_read_80 (by decide) ?_
    refine x_callS4 C (q_KF_handOver l E (xw_keep hK (xw_neC hK hV (by decide))) (xAL_up hV (by decide) hA) (xEs_up hV (by decide) hX) (va_up_self _ _ _) (back := false) (xw_keep (hX _ _ ha) (xw_neC (hX _ _ ha) hV (by decide))) (xw_keep hS (xw_neC hS hV (by decide))) hk2 hp2) (lk_KF_115 C.hts (Nat.le_of_ble_eq_true rfl) (Nat.le_of_ble_eq_true rfl)) rfl d_KF_read_81 (Nat.le_of_ble_eq_true rfl) (Nat.le_of_ble_eq_true rfl) (Nat.le_of_ble_eq_true rfl) (fun r G' h => ?_)
    obtain ⟨rfl, rfl⟩ := h
    rw [bx_uu]
    exact x_iret C (Nat.le_of_ble_eq_true rfl) (Nat.le_of_ble_eq_true rfl) d_KF_read_84 ⟨rfl, rfl⟩
  · exact absurd hr c_36
set_option maxRecDepth 100000 in
set_option maxHeartbeats 4000000 in
theorem q_KF_start_op (l : Launch) (E : xE) {G : xw_G} {x ix vw : Nat} {op : Bool} {na nw : Int64} (hG : G x = some (eKF ix vw op na nw)) {aix : Nat} {ks : List Nat} (hI : xAL E G ix aix ks) {avw : Nat} {ws : List Nat} (hW : xAL E G vw avw ws) {va : Nat} {vo ae hw : Bool} {mo ac kr pl : Int32} {pf pc vr pw : Int64} {rl : Value} (hV : G va = some (eVW vo mo ac kr pl pf pc ae rl vr hw pw)) {i : Nat} (hi : ws[i]? = some va) {ki en : Nat} {db sp : Bool} {fr sz : Int32} {lo : Int64} (hK : G ki = some (eKI db fr sz en sp lo)) {i2 : Nat} (hki : ks[i2]? = some ki) {z : Int64} {op2 b : Int32} (hop : op2 < 0 ∨ 4 < op2) : XMk l E y_KF_start w_KF_start rm_KF_start [.ref x, .int (nI i), .int (nI i2), .int (op2), .long (z), .int (b)] G (fun r G' => r = some (.int (-1)) ∧ G = G') 0 0 := by
  refine XM_of [some (.ref x), some (.int (nI i)), some (.int (nI i2)), some (.int (op2)), some (.long (z)), none, some (.int (b)), none, none, none, none] (XZ_st E) (by decide) rfl rfl rfl (Nat.le_of_ble_eq_true rfl) (fun p e s m below meth c C hnm => ?_)
  refine x_aload_n C d_KF_start_0 rfl rfl ?_
  refine x_iload_n C d_KF_start_1 rfl rfl ?_
  refine x_callV1 C (q_KF_viewAt_in l E hG hW hi hV) (lk_KF_51 C.hts (Nat.le_of_ble_eq_true rfl) (Nat.le_of_ble_eq_true rfl)) hG rfl rfl d_KF_start_2 (Nat.le_of_ble_eq_true rfl) (Nat.le_of_ble_eq_true rfl) (Nat.le_of_ble_eq_true rfl) (fun r G' h => ?_)
  obtain ⟨rfl, rfl⟩ := h
  refine x_astore C d_KF_start_5 (Nat.le_of_ble_eq_true rfl) rfl ?_
  refine x_aload_n C d_KF_start_7 rfl rfl ?_
  refine x_iload_n C d_KF_start_8 rfl rfl ?_
  refine x_callV1 C (q_KF_indexAt_in l E hG hI hki hK) (lk_KF_36 C.hts (Nat.le_of_ble_eq_true rfl) (Nat.le_of_ble_eq_true rfl)) hG rfl rfl d_KF_start_9 (Nat.le_of_ble_eq_true rfl) (Nat.le_of_ble_eq_true rfl) (Nat.le_of_ble_eq_true rfl) (fun r G' h => ?_)
  obtain ⟨rfl, rfl⟩ := h
  refine x_astore C d_KF_start_12 (Nat.le_of_ble_eq_true rfl) rfl ?_
  refine x_aload C d_KF_start_14 rfl ?_
  refine x_ifnull C d_KF_start_16 ?_
  refine x_aload C d_KF_start_19 rfl ?_
  refine x_ifnull C d_KF_start_21 ?_
  refine x_iload_n C d_KF_start_24 rfl rfl ?_
  refine x_if_lt C 33 d_KF_start_25 (by decide) (fun c_25 => ?_) (fun c_25 => ?_)
  · refine x_iconst C (v := -1) d_KF_start_33 (by decide) ?_
    exact x_iret C (Nat.le_of_ble_eq_true rfl) (Nat.le_of_ble_eq_true rfl) d_KF_start_34 ⟨rfl, rfl⟩
  · refine x_iload_n C d_KF_start_28 rfl rfl ?_
    refine x_iconst C (v := 4) d_KF_start_29 (by decide) ?_
    refine x_icmp_le C 35 d_KF_start_30 (by decide) (fun c_30 => ?_) (fun c_30 => ?_)
    · exact absurd hop (fun q => q.elim c_25 (fun q => absurd q (Int32.not_lt.mpr c_30)))
    · refine x_iconst C (v := -1) d_KF_start_33 (by decide) ?_
      exact x_iret C (Nat.le_of_ble_eq_true rfl) (Nat.le_of_ble_eq_true rfl) d_KF_start_34 ⟨rfl, rfl⟩
set_option maxRecDepth 100000 in
set_option maxHeartbeats 4000000 in
theorem q_KF_start_sz (l : Launch) (E : xE) {G : xw_G} {x ix vw : Nat} {op : Bool} {na nw : Int64} (hG : G x = some (eKF ix vw op na nw)) {aix : Nat} {ks : List Nat} (hI : xAL E G ix aix ks) {avw : Nat} {ws : List Nat} (hW : xAL E G vw avw ws) {va : Nat} {vo ae hw : Bool} {mo ac kr pl : Int32} {pf pc vr pw : Int64} {rl : Value} (hV : G va = some (eVW vo mo ac kr pl pf pc ae rl vr hw pw)) {i : Nat} (hi : ws[i]? = some va) {ki en : Nat} {db sp : Bool} {fr sz : Int32} {lo : Int64} (hK : G ki = some (eKI db fr sz en sp lo)) {i2 : Nat} (hki : ks[i2]? = some ki) {z : Int64} {op2 b : Int32} (hop : ¬ (op2 < 0 ∨ 4 < op2)) (hb : b < 1 ∨ sz < b) : XMk l E y_KF_start w_KF_start rm_KF_start [.ref x, .int (nI i), .int (nI i2), .int (op2), .long (z), .int (b)] G (fun r G' => r = some (.int (-1)) ∧ G = G') 0 0 := by
  refine XM_of [some (.ref x), some (.int (nI i)), some (.int (nI i2)), some (.int (op2)), some (.long (z)), none, some (.int (b)), none, none, none, none] (XZ_st E) (by decide) rfl rfl rfl (Nat.le_of_ble_eq_true rfl) (fun p e s m below meth c C hnm => ?_)
  refine x_aload_n C d_KF_start_0 rfl rfl ?_
  refine x_iload_n C d_KF_start_1 rfl rfl ?_
  refine x_callV1 C (q_KF_viewAt_in l E hG hW hi hV) (lk_KF_51 C.hts (Nat.le_of_ble_eq_true rfl) (Nat.le_of_ble_eq_true rfl)) hG rfl rfl d_KF_start_2 (Nat.le_of_ble_eq_true rfl) (Nat.le_of_ble_eq_true rfl) (Nat.le_of_ble_eq_true rfl) (fun r G' h => ?_)
  obtain ⟨rfl, rfl⟩ := h
  refine x_astore C d_KF_start_5 (Nat.le_of_ble_eq_true rfl) rfl ?_
  refine x_aload_n C d_KF_start_7 rfl rfl ?_
  refine x_iload_n C d_KF_start_8 rfl rfl ?_
  refine x_callV1 C (q_KF_indexAt_in l E hG hI hki hK) (lk_KF_36 C.hts (Nat.le_of_ble_eq_true rfl) (Nat.le_of_ble_eq_true rfl)) hG rfl rfl d_KF_start_9 (Nat.le_of_ble_eq_true rfl) (Nat.le_of_ble_eq_true rfl) (Nat.le_of_ble_eq_true rfl) (fun r G' h => ?_)
  obtain ⟨rfl, rfl⟩ := h
  refine x_astore C d_KF_start_12 (Nat.le_of_ble_eq_true rfl) rfl ?_
  refine x_aload C d_KF_start_14 rfl ?_
  refine x_ifnull C d_KF_start_16 ?_
  refine x_aload C d_KF_start_19 rfl ?_
  refine x_ifnull C d_KF_start_21 ?_
  refine x_iload_n C d_KF_start_24 rfl rfl ?_
  refine x_if_lt C 33 d_KF_start_25 (by decide) (fun c_25 => ?_) (fun c_25 => ?_)
  · exact absurd (by first | exact Or.inl c_25 | exact Or.inr (Int32.not_le.mp c_30)) hop
  · refine x_iload_n C d_KF_start_28 rfl rfl ?_
    refine x_iconst C (v := 4) d_KF_start_29 (by decide) ?_
    refine x_icmp_le C 35 d_KF_start_30 (by decide) (fun c_30 => ?_) (fun c_30 => ?_)
    · refine x_iload C d_KF_start_35 rfl ?_
      refine x_iconst C (v := 1) d_KF_start_37 (by decide) ?_
      refine x_icmp_lt C 51 d_KF_start_38 (by decide) (fun c_38 => ?_) (fun c_38 => ?_)
      · refine x_iconst C (v := -1) d_KF_start_51 (by decide) ?_
        exact x_iret C (Nat.le_of_ble_eq_true rfl) (Nat.le_of_ble_eq_true rfl) d_KF_start_52 ⟨rfl, rfl⟩
      · refine x_iload C d_KF_start_41 rfl ?_
        refine x_aload C d_KF_start_43 rfl ?_
        refine x_get C hK rfl (in_KI _) 2 (by decide) (List.mem_cons_of_mem _ f_KF_123) rfl d_KF_start_45 ?_
        refine x_icmp_le C 53 d_KF_start_48 (by decide) (fun c_48 => ?_) (fun c_48 => ?_)
        · exact absurd hb (fun q => q.elim c_38 (fun q => absurd q (Int32.not_lt.mpr c_48)))
        · refine x_iconst C (v := -1) d_KF_start_51 (by decide) ?_
          exact x_iret C (Nat.le_of_ble_eq_true rfl) (Nat.le_of_ble_eq_true rfl) d_KF_start_52 ⟨rfl, rfl⟩
    · exact absurd (by first | exact Or.inl c_25 | exact Or.inr (Int32.not_le.mp c_30)) hop
set_option maxRecDepth 100000 in
set_option maxHeartbeats 4000000 in
theorem q_KF_start_ref (l : Launch) (E : xE) {G : xw_G} {x ix vw : Nat} {op : Bool} {na nw : Int64} (hG : G x = some (eKF ix vw op na nw)) {aix : Nat} {ks : List Nat} (hI : xAL E G ix aix ks) {avw : Nat} {ws : List Nat} (hW : xAL E G vw avw ws) {va : Nat} {vo ae hw : Bool} {mo ac kr pl : Int32} {pf pc vr pw : Int64} {rl : Value} (hV : G va = some (eVW vo mo ac kr pl pf pc ae rl vr hw pw)) {i : Nat} (hi : ws[i]? = some va) {ki en : Nat} {db sp : Bool} {fr sz : Int32} {lo : Int64} (hK : G ki = some (eKI db fr sz en sp lo)) {i2 : Nat} (hki : ks[i2]? = some ki) {z : Int64} {op2 b : Int32} (hop : ¬ (op2 < 0 ∨ 4 < op2)) (hb : ¬ (b < 1 ∨ sz < b)) (hr : ¬ refRead vo mo ac 1 = 0) : XMk l E y_KF_start w_KF_start rm_KF_start [.ref x, .int (nI i), .int (nI i2), .int (op2), .long (z), .int (b)] G (fun r G' => r = some (.int (refRead vo mo ac 1)) ∧ G = G') 0 0 := by
  refine XM_of [some (.ref x), some (.int (nI i)), some (.int (nI i2)), some (.int (op2)), some (.long (z)), none, some (.int (b)), none, none, none, none] (XZ_st E) (by decide) rfl rfl rfl (Nat.le_of_ble_eq_true rfl) (fun p e s m below meth c C hnm => ?_)
  refine x_aload_n C d_KF_start_0 rfl rfl ?_
  refine x_iload_n C d_KF_start_1 rfl rfl ?_
  refine x_callV1 C (q_KF_viewAt_in l E hG hW hi hV) (lk_KF_51 C.hts (Nat.le_of_ble_eq_true rfl) (Nat.le_of_ble_eq_true rfl)) hG rfl rfl d_KF_start_2 (Nat.le_of_ble_eq_true rfl) (Nat.le_of_ble_eq_true rfl) (Nat.le_of_ble_eq_true rfl) (fun r G' h => ?_)
  obtain ⟨rfl, rfl⟩ := h
  refine x_astore C d_KF_start_5 (Nat.le_of_ble_eq_true rfl) rfl ?_
  refine x_aload_n C d_KF_start_7 rfl rfl ?_
  refine x_iload_n C d_KF_start_8 rfl rfl ?_
  refine x_callV1 C (q_KF_indexAt_in l E hG hI hki hK) (lk_KF_36 C.hts (Nat.le_of_ble_eq_true rfl) (Nat.le_of_ble_eq_true rfl)) hG rfl rfl d_KF_start_9 (Nat.le_of_ble_eq_true rfl) (Nat.le_of_ble_eq_true rfl) (Nat.le_of_ble_eq_true rfl) (fun r G' h => ?_)
  obtain ⟨rfl, rfl⟩ := h
  refine x_astore C d_KF_start_12 (Nat.le_of_ble_eq_true rfl) rfl ?_
  refine x_aload C d_KF_start_14 rfl ?_
  refine x_ifnull C d_KF_start_16 ?_
  refine x_aload C d_KF_start_19 rfl ?_
  refine x_ifnull C d_KF_start_21 ?_
  refine x_iload_n C d_KF_start_24 rfl rfl ?_
  refine x_if_lt C 33 d_KF_start_25 (by decide) (fun c_25 => ?_) (fun c_25 => ?_)
  · exact absurd (by first | exact Or.inl c_25 | exact Or.inr (Int32.not_le.mp c_30)) hop
  · refine x_iload_n C d_KF_start_28 rfl rfl ?_
    refine x_iconst C (v := 4) d_KF_start_29 (by decide) ?_
    refine x_icmp_le C 35 d_KF_start_30 (by decide) (fun c_30 => ?_) (fun c_30 => ?_)
    · refine x_iload C d_KF_start_35 rfl ?_
      refine x_iconst C (v := 1) d_KF_start_37 (by decide) ?_
      refine x_icmp_lt C 51 d_KF_start_38 (by decide) (fun c_38 => ?_) (fun c_38 => ?_)
      · exact absurd (by first | exact Or.inl c_38 | exact Or.inr (Int32.not_le.mp c_48)) hb
      · refine x_iload C d_KF_start_41 rfl ?_
        refine x_aload C d_KF_start_43 rfl ?_
        refine x_get C hK rfl (in_KI _) 2 (by decide) (List.mem_cons_of_mem _ f_KF_123) rfl d_KF_start_45 ?_
        refine x_icmp_le C 53 d_KF_start_48 (by decide) (fun c_48 => ?_) (fun c_48 => ?_)
        · refine x_aload C d_KF_start_53 rfl ?_
          refine x_iconst C (v := 1) d_KF_start_55 (by decide) ?_
          refine x_callV1 C (q_VW_refusalToRead l E hV) (lk_KF_102 C.hts (Nat.le_of_ble_eq_true rfl) (Nat.le_of_ble_eq_true rfl)) hV rfl rfl d_KF_start_56 (Nat.le_of_ble_eq_true rfl) (Nat.le_of_ble_eq_true rfl) (Nat.le_of_ble_eq_true rfl) (fun r G' h => ?_)
          obtain ⟨rfl, rfl⟩ := h
          refine x_istore C d_KF_start_59 (Nat.le_of_ble_eq_true rfl) rfl ?_
          refine x_iload C d_KF_start_61 rfl ?_
          refine x_if_eq C 69 d_KF_start_63 (by decide) (fun c_63 => ?_) (fun c_63 => ?_)
          · exact absurd c_63 hr
          · refine x_iload C d_KF_start_66 rfl ?_
            exact x_iret C (Nat.le_of_ble_eq_true rfl) (Nat.le_of_ble_eq_true rfl) d_KF_start_68 ⟨rfl, rfl⟩
        · exact absurd (by first | exact Or.inl c_38 | exact Or.inr (Int32.not_le.mp c_48)) hb
    · exact absurd (by first | exact Or.inl c_25 | exact Or.inr (Int32.not_le.mp c_30)) hop
set_option maxRecDepth 100000 in
set_option maxHeartbeats 4000000 in
theorem q_KF_start_23 (l : Launch) (E : xE) {G : xw_G} {x ix vw : Nat} {op : Bool} {na nw : Int64} (hG : G x = some (eKF ix vw op na nw)) {aix : Nat} {ks : List Nat} (hI : xAL E G ix aix ks) {avw : Nat} {ws : List Nat} (hW : xAL E G vw avw ws) {va : Nat} {vo ae hw : Bool} {mo ac kr pl : Int32} {pf pc vr pw : Int64} {rl : Value} (hV : G va = some (eVW vo mo ac kr pl pf pc ae rl vr hw pw)) {i : Nat} (hi : ws[i]? = some va) {ki en : Nat} {db sp : Bool} {fr sz : Int32} {lo : Int64} (hK : G ki = some (eKI db fr sz en sp lo)) {i2 : Nat} (hki : ks[i2]? = some ki) {ar : Nat} {xs : List Nat} (hA : xAL E G en ar xs) {fd cm : Nat → Int64} {so : Nat → Nat} (hX : xEs G xs fd cm so) {z : Int64} {op2 b : Int32} (hop : ¬ (op2 < 0 ∨ 4 < op2)) (hb : ¬ (b < 1 ∨ sz < b)) {k : Nat} (hk : k ≤ xs.length) (hp : ∀ i : Nat, i < xs.length → (byPart sz b (decide (op2 = 1 ∨ op2 = 4)) (fd i) z = true ↔ i < k)) (hr : refRead vo mo ac 1 = 0) (ho : oPart xs.length fd sz b op2 z k = none) : XMk l E y_KF_start w_KF_start rm_KF_start [.ref x, .int (nI i), .int (nI i2), .int (op2), .long (z), .int (b)] G (fun r G' => r = some (.int 23) ∧ G' = va_up G va (some (eVW vo mo ac (nI i2) (3) pf pc ae (.null) (0) hw pw))) 0 0 := by
  refine XM_of [some (.ref x), some (.int (nI i)), some (.int (nI i2)), some (.int (op2)), some (.long (z)), none, some (.int (b)), none, none, none, none] (XZ_st E) (by decide) rfl rfl rfl (Nat.le_of_ble_eq_true rfl) (fun p e s m below meth c C hnm => ?_)
  refine x_aload_n C d_KF_start_0 rfl rfl ?_
  refine x_iload_n C d_KF_start_1 rfl rfl ?_
  refine x_callV1 C (q_KF_viewAt_in l E hG hW hi hV) (lk_KF_51 C.hts (Nat.le_of_ble_eq_true rfl) (Nat.le_of_ble_eq_true rfl)) hG rfl rfl d_KF_start_2 (Nat.le_of_ble_eq_true rfl) (Nat.le_of_ble_eq_true rfl) (Nat.le_of_ble_eq_true rfl) (fun r G' h => ?_)
  obtain ⟨rfl, rfl⟩ := h
  refine x_astore C d_KF_start_5 (Nat.le_of_ble_eq_true rfl) rfl ?_
  refine x_aload_n C d_KF_start_7 rfl rfl ?_
  refine x_iload_n C d_KF_start_8 rfl rfl ?_
  refine x_callV1 C (q_KF_indexAt_in l E hG hI hki hK) (lk_KF_36 C.hts (Nat.le_of_ble_eq_true rfl) (Nat.le_of_ble_eq_true rfl)) hG rfl rfl d_KF_start_9 (Nat.le_of_ble_eq_true rfl) (Nat.le_of_ble_eq_true rfl) (Nat.le_of_ble_eq_true rfl) (fun r G' h => ?_)
  obtain ⟨rfl, rfl⟩ := h
  refine x_astore C d_KF_start_12 (Nat.le_of_ble_eq_true rfl) rfl ?_
  refine x_aload C d_KF_start_14 rfl ?_
  refine x_ifnull C d_KF_start_16 ?_
  refine x_aload C d_KF_start_19 rfl ?_
  refine x_ifnull C d_KF_start_21 ?_
  refine x_iload_n C d_KF_start_24 rfl rfl ?_
  refine x_if_lt C 33 d_KF_start_25 (by decide) (fun c_25 => ?_) (fun c_25 => ?_)
  · exact absurd (by first | exact Or.inl c_25 | exact Or.inr (Int32.not_le.mp c_30)) hop
  · refine x_iload_n C d_KF_start_28 rfl rfl ?_
    refine x_iconst C (v := 4) d_KF_start_29 (by decide) ?_
    refine x_icmp_le C 35 d_KF_start_30 (by decide) (fun c_30 => ?_) (fun c_30 => ?_)
    · refine x_iload C d_KF_start_35 rfl ?_
      refine x_iconst C (v := 1) d_KF_start_37 (by decide) ?_
      refine x_icmp_lt C 51 d_KF_start_38 (by decide) (fun c_38 => ?_) (fun c_38 => ?_)
      · exact absurd (by first | exact Or.inl c_38 | exact Or.inr (Int32.not_le.mp c_48)) hb
      · refine x_iload C d_KF_start_41 rfl ?_
        refine x_aload C d_KF_start_43 rfl ?_
        refine x_get C hK rfl (in_KI _) 2 (by decide) (List.mem_cons_of_mem _ f_KF_123) rfl d_KF_start_45 ?_
        refine x_icmp_le C 53 d_KF_start_48 (by decide) (fun c_48 => ?_) (fun c_48 => ?_)
        · refine x_aload C d_KF_start_53 rfl ?_
          refine x_iconst C (v := 1) d_KF_start_55 (by decide) ?_
          refine x_callV1 C (q_VW_refusalToRead l E hV) (lk_KF_102 C.hts (Nat.le_of_ble_eq_true rfl) (Nat.le_of_ble_eq_true rfl)) hV rfl rfl d_KF_start_56 (Nat.le_of_ble_eq_true rfl) (Nat.le_of_ble_eq_true rfl) (Nat.le_of_ble_eq_true rfl) (fun r G' h => ?_)
          obtain ⟨rfl, rfl⟩ := h
          refine x_istore C d_KF_start_59 (Nat.le_of_ble_eq_true rfl) rfl ?_
          refine x_iload C d_KF_start_61 rfl ?_
          refine x_if_eq C 69 d_KF_start_63 (by decide) (fun c_63 => ?_) (fun c_63 => ?_)
          · refine x_aload C d_KF_start_69 rfl ?_
            refine x_callV0 C (q_VW_forgetRead l E hV) (lk_KF_65 C.hts (Nat.le_of_ble_eq_true rfl) (Nat.le_of_ble_eq_true rfl)) hV rfl rfl d_KF_start_71 (Nat.le_of_ble_eq_true rfl) (Nat.le_of_ble_eq_true rfl) (Nat.le_of_ble_eq_true rfl) (fun r G' h => ?_)
            obtain ⟨rfl, rfl⟩ := h
            refine x_aload C d_KF_start_74 rfl ?_
            refine x_iload_n C d_KF_start_76 rfl rfl ?_
            refine x_put2 C rfl (in_VW _) ty_VW tok_VW nm_VW 3 (by decide) (List.mem_cons_of_mem _ f_KF_105) rfl (tok_VW 3 (by decide)) rfl rfl (Nat.le_of_ble_eq_true rfl) d_KF_start_77 ?_
            refine x_aload C d_KF_start_80 rfl ?_
            refine x_iload_n C d_KF_start_82 rfl rfl ?_
            refine x_lload C d_KF_start_83 rfl ?_
            refine x_iload C d_KF_start_85 rfl ?_
            refine x_callV3 C (q_KI_findByPart l E (xw_keep hK (xw_neC hK hV (by decide))) (xAL_up hV (by decide) hA) (xEs_up hV (by decide) hX) hk hp) (lk_KF_125 C.hts (Nat.le_of_ble_eq_true rfl) (Nat.le_of_ble_eq_true rfl)) (xw_keep hK (xw_neC hK hV (by decide))) rfl rfl d_KF_start_87 (Nat.le_of_ble_eq_true rfl) (Nat.le_of_ble_eq_true rfl) (Nat.le_of_ble_eq_true rfl) (fun r G' h => ?_)
            obtain ⟨rfl, rfl⟩ := h
            rw [ho, xr_none]
            refine x_astoreN C d_KF_start_90 (Nat.le_of_ble_eq_true rfl) rfl ?_
            refine x_aloadN C d_KF_start_92 rfl ?_
            refine x_ifnonnullN C d_KF_start_94 ?_
            refine x_aload C d_KF_start_97 rfl ?_
            refine x_callV0 C (q_VW_lose l E (va_up_self _ _ _)) (lk_KF_112 C.hts (Nat.le_of_ble_eq_true rfl) (Nat.le_of_ble_eq_true rfl)) (va_up_self _ _ _) rfl rfl d_KF_start_99 (Nat.le_of_ble_eq_true rfl) (Nat.le_of_ble_eq_true rfl) (Nat.le_of_ble_eq_true rfl) (fun r G' h => ?_)
            obtain ⟨rfl, rfl⟩ := h
            rw [bx_uu]
            refine x_bipush C (v := 23) d_KF_start_102 (by decide) ?_
            exact x_iret C (Nat.le_of_ble_eq_true rfl) (Nat.le_of_ble_eq_true rfl) d_KF_start_104 ⟨rfl, rfl⟩
          · exact absurd hr c_63
        · exact absurd (by first | exact Or.inl c_38 | exact Or.inr (Int32.not_le.mp c_48)) hb
    · exact absurd (by first | exact Or.inl c_25 | exact Or.inr (Int32.not_le.mp c_30)) hop
set_option maxRecDepth 100000 in
set_option maxHeartbeats 4000000 in
theorem q_KF_start_got (l : Launch) (E : xE) {G : xw_G} {x ix vw : Nat} {op : Bool} {na nw : Int64} (hG : G x = some (eKF ix vw op na nw)) {aix : Nat} {ks : List Nat} (hI : xAL E G ix aix ks) {avw : Nat} {ws : List Nat} (hW : xAL E G vw avw ws) {va : Nat} {vo ae hw : Bool} {mo ac kr pl : Int32} {pf pc vr pw : Int64} {rl : Value} (hV : G va = some (eVW vo mo ac kr pl pf pc ae rl vr hw pw)) {i : Nat} (hi : ws[i]? = some va) {ki en : Nat} {db sp : Bool} {fr sz : Int32} {lo : Int64} (hK : G ki = some (eKI db fr sz en sp lo)) {i2 : Nat} (hki : ks[i2]? = some ki) {ar : Nat} {xs : List Nat} (hA : xAL E G en ar xs) {fd cm : Nat → Int64} {so : Nat → Nat} (hX : xEs G xs fd cm so) {z : Int64} {op2 b : Int32} (hop : ¬ (op2 < 0 ∨ 4 < op2)) (hb : ¬ (b < 1 ∨ sz < b)) {k : Nat} (hk : k ≤ xs.length) (hp : ∀ i : Nat, i < xs.length → (byPart sz b (decide (op2 = 1 ∨ op2 = 4)) (fd i) z = true ↔ i < k)) (hr : refRead vo mo ac 1 = 0) {n a0 : Nat} (ho : oPart xs.length fd sz b op2 z k = some n) (ha : xs[n]? = some a0) : XMk l E y_KF_start w_KF_start rm_KF_start [.ref x, .int (nI i), .int (nI i2), .int (op2), .long (z), .int (b)] G (fun r G' => r = some (.int 0) ∧ G' = va_up G va (some (eVW vo mo ac (nI i2) (2) (fd n) (cm n) (false) (.null) (0) hw pw))) 0 0 := by
  refine XM_of [some (.ref x), some (.int (nI i)), some (.int (nI i2)), some (.int (op2)), some (.long (z)), none, some (.int (b)), none, none, none, none] (XZ_st E) (by decide) rfl rfl rfl (Nat.le_of_ble_eq_true rfl) (fun p e s m below meth c C hnm => ?_)
  refine x_aload_n C d_KF_start_0 rfl rfl ?_
  refine x_iload_n C d_KF_start_1 rfl rfl ?_
  refine x_callV1 C (q_KF_viewAt_in l E hG hW hi hV) (lk_KF_51 C.hts (Nat.le_of_ble_eq_true rfl) (Nat.le_of_ble_eq_true rfl)) hG rfl rfl d_KF_start_2 (Nat.le_of_ble_eq_true rfl) (Nat.le_of_ble_eq_true rfl) (Nat.le_of_ble_eq_true rfl) (fun r G' h => ?_)
  obtain ⟨rfl, rfl⟩ := h
  refine x_astore C d_KF_start_5 (Nat.le_of_ble_eq_true rfl) rfl ?_
  refine x_aload_n C d_KF_start_7 rfl rfl ?_
  refine x_iload_n C d_KF_start_8 rfl rfl ?_
  refine x_callV1 C (q_KF_indexAt_in l E hG hI hki hK) (lk_KF_36 C.hts (Nat.le_of_ble_eq_true rfl) (Nat.le_of_ble_eq_true rfl)) hG rfl rfl d_KF_start_9 (Nat.le_of_ble_eq_true rfl) (Nat.le_of_ble_eq_true rfl) (Nat.le_of_ble_eq_true rfl) (fun r G' h => ?_)
  obtain ⟨rfl, rfl⟩ := h
  refine x_astore C d_KF_start_12 (Nat.le_of_ble_eq_true rfl) rfl ?_
  refine x_aload C d_KF_start_14 rfl ?_
  refine x_ifnull C d_KF_start_16 ?_
  refine x_aload C d_KF_start_19 rfl ?_
  refine x_ifnull C d_KF_start_21 ?_
  refine x_iload_n C d_KF_start_24 rfl rfl ?_
  refine x_if_lt C 33 d_KF_start_25 (by decide) (fun c_25 => ?_) (fun c_25 => ?_)
  · exact absurd (by first | exact Or.inl c_25 | exact Or.inr (Int32.not_le.mp c_30)) hop
  · refine x_iload_n C d_KF_start_28 rfl rfl ?_
    refine x_iconst C (v := 4) d_KF_start_29 (by decide) ?_
    refine x_icmp_le C 35 d_KF_start_30 (by decide) (fun c_30 => ?_) (fun c_30 => ?_)
    · refine x_iload C d_KF_start_35 rfl ?_
      refine x_iconst C (v := 1) d_KF_start_37 (by decide) ?_
      refine x_icmp_lt C 51 d_KF_start_38 (by decide) (fun c_38 => ?_) (fun c_38 => ?_)
      · exact absurd (by first | exact Or.inl c_38 | exact Or.inr (Int32.not_le.mp c_48)) hb
      · refine x_iload C d_KF_start_41 rfl ?_
        refine x_aload C d_KF_start_43 rfl ?_
        refine x_get C hK rfl (in_KI _) 2 (by decide) (List.mem_cons_of_mem _ f_KF_123) rfl d_KF_start_45 ?_
        refine x_icmp_le C 53 d_KF_start_48 (by decide) (fun c_48 => ?_) (fun c_48 => ?_)
        · refine x_aload C d_KF_start_53 rfl ?_
          refine x_iconst C (v := 1) d_KF_start_55 (by decide) ?_
          refine x_callV1 C (q_VW_refusalToRead l E hV) (lk_KF_102 C.hts (Nat.le_of_ble_eq_true rfl) (Nat.le_of_ble_eq_true rfl)) hV rfl rfl d_KF_start_56 (Nat.le_of_ble_eq_true rfl) (Nat.le_of_ble_eq_true rfl) (Nat.le_of_ble_eq_true rfl) (fun r G' h => ?_)
          obtain ⟨rfl, rfl⟩ := h
          refine x_istore C d_KF_start_59 (Nat.le_of_ble_eq_true rfl) rfl ?_
          refine x_iload C d_KF_start_61 rfl ?_
          refine x_if_eq C 69 d_KF_start_63 (by decide) (fun c_63 => ?_) (fun c_63 => ?_)
          · refine x_aload C d_KF_start_69 rfl ?_
            refine x_callV0 C (q_VW_forgetRead l E hV) (lk_KF_65 C.hts (Nat.le_of_ble_eq_true rfl) (Nat.le_of_ble_eq_true rfl)) hV rfl rfl d_KF_start_71 (Nat.le_of_ble_eq_true rfl) (Nat.le_of_ble_eq_true rfl) (Nat.le_of_ble_eq_true rfl) (fun r G' h => ?_)
            obtain ⟨rfl, rfl⟩ := h
            refine x_aload C d_KF_start_74 rfl ?_
            refine x_iload_n C d_KF_start_76 rfl rfl ?_
            refine x_put2 C rfl (in_VW _) ty_VW tok_VW nm_VW 3 (by decide) (List.mem_cons_of_mem _ f_KF_105) rfl (tok_VW 3 (by decide)) rfl rfl (Nat.le_of_ble_eq_true rfl) d_KF_start_77 ?_
            refine x_aload C d_KF_start_80 rfl ?_
            refine x_iload_n C d_KF_start_82 rfl rfl ?_
            refine x_lload C d_KF_start_83 rfl ?_
            refine x_iload C d_KF_start_85 rfl ?_
            refine x_callV3 C (q_KI_findByPart l E (xw_keep hK (xw_neC hK hV (by decide))) (xAL_up hV (by decide) hA) (xEs_up hV (by decide) hX) hk hp) (lk_KF_125 C.hts (Nat.le_of_ble_eq_true rfl) (Nat.le_of_ble_eq_true rfl)) (xw_keep hK (xw_neC hK hV (by decide))) rfl rfl d_KF_start_87 (Nat.le_of_ble_eq_true rfl) (Nat.le_of_ble_eq_true rfl) (Nat.le_of_ble_eq_true rfl) (fun r G' h => ?_)
            obtain ⟨rfl, rfl⟩ := h
            rw [ho, xr_some ha]
            refine x_astore C d_KF_start_90 (Nat.le_of_ble_eq_true rfl) rfl ?_
            refine x_aload C d_KF_start_92 rfl ?_
            refine x_ifnonnull C 105 d_KF_start_94 (by decide) ?_
            refine x_aload C d_KF_start_105 rfl ?_
            refine x_aload C d_KF_start_107 rfl ?_
            refine x_callV1 C (q_VW_standAt l E (va_up_self _ _ _) (xw_keep (hX _ _ ha) (xw_neC (hX _ _ ha) hV (by decide)))) (lk_KF_129 C.hts (Nat.le_of_ble_eq_true rfl) (Nat.le_of_ble_eq_true rfl)) (va_up_self _ _ _) rfl rfl d_KF_start_109 (Nat.le_of_ble_eq_true rfl) (Nat.le_of_ble_eq_true rfl) (Nat.le_of_ble_eq_true rfl) (fun r G' h => ?_)
            obtain ⟨rfl, rfl⟩ := h
            rw [bx_uu]
            refine x_iconst C (v := 0) d_KF_start_112 (by decide) ?_
            exact x_iret C (Nat.le_of_ble_eq_true rfl) (Nat.le_of_ble_eq_true rfl) d_KF_start_113 ⟨rfl, rfl⟩
          · exact absurd hr c_63
        · exact absurd (by first | exact Or.inl c_38 | exact Or.inr (Int32.not_le.mp c_48)) hb
    · exact absurd (by first | exact Or.inl c_25 | exact Or.inr (Int32.not_le.mp c_30)) hop
