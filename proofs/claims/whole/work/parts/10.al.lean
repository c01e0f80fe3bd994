set_option maxRecDepth 100000 in
set_option maxHeartbeats 4000000 in
theorem q_AL_size (l : Launch) (E : xE) {G : xw_G} {h0 ar : Nat} {n md : Int32} (hL : G h0 = some (eAL ar n md)) : XMk l E y_AL_size w_AL_size rm_AL_size [.ref h0] G (fun r G' => r = some (.int n) ∧ G = G') 0 0 := by
  refine XM_of [some (.ref h0)] (XZ_st E) (by decide) rfl rfl rfl (Nat.le_of_ble_eq_true rfl) (fun p e s m below meth c C hnm => ?_)
  refine x_aload_n C d_AL_size_0 rfl rfl ?_
  refine x_get C hL rfl (in_AL _) 1 (by decide) (List.mem_cons_of_mem _ f_AL_48) rfl d_AL_size_1 ?_
  exact x_iret C (Nat.le_of_ble_eq_true rfl) (Nat.le_of_ble_eq_true rfl) d_AL_size_4 ⟨rfl, rfl⟩
set_option maxRecDepth 100000 in
set_option maxHeartbeats 4000000 in
theorem q_AL_isEmpty (l : Launch) (E : xE) {G : xw_G} {h0 ar : Nat} {n md : Int32} (hL : G h0 = some (eAL ar n md)) : XMk l E y_AL_isEmpty w_AL_isEmpty rm_AL_isEmpty [.ref h0] G (fun r G' => r = some (.int (bI (decide (n = 0)))) ∧ G = G') 0 0 := by
  refine XM_of [some (.ref h0)] (XZ_st E) (by decide) rfl rfl rfl (Nat.le_of_ble_eq_true rfl) (fun p e s m below meth c C hnm => ?_)
  refine x_aload_n C d_AL_isEmpty_0 rfl rfl ?_
  refine x_get C hL rfl (in_AL _) 1 (by decide) (List.mem_cons_of_mem _ f_AL_48) rfl d_AL_isEmpty_1 ?_
  refine x_if_ne C 11 d_AL_isEmpty_4 (by decide) (fun c_4 => ?_) (fun c_4 => ?_)
  · refine x_iconst C (v := 0) d_AL_isEmpty_11 (by decide) ?_
    exact x_zret C rfl (Nat.le_of_ble_eq_true rfl) (Nat.le_of_ble_eq_true rfl) d_AL_isEmpty_12 ⟨by simp [bI, c_4], rfl⟩
  · refine x_iconst C (v := 1) d_AL_isEmpty_7 (by decide) ?_
    refine x_goto C 12 d_AL_isEmpty_8 (by decide) ?_
    exact x_zret C rfl (Nat.le_of_ble_eq_true rfl) (Nat.le_of_ble_eq_true rfl) d_AL_isEmpty_12 ⟨by simp [bI, c_4], rfl⟩
set_option maxRecDepth 100000 in
set_option maxHeartbeats 4000000 in
theorem q_PC_checkIndex (l : Launch) (E : xE) {G : xw_G} {i n : Int32} (h0 : ¬ i < 0) (h1 : i < n) : XMk l E y_PC_checkIndex w_PC_checkIndex rm_PC_checkIndex [.int (i), .int (n), .null] G (fun r G' => r = some (.int i) ∧ G = G') 0 0 := by
  refine XM_of [some (.int (i)), some (.int (n)), some (.null)] (XZ_st E) (by decide) rfl rfl rfl (Nat.le_of_ble_eq_true rfl) (fun p e s m below meth c C hnm => ?_)
  refine x_iload_n C d_PC_checkIndex_0 rfl rfl ?_
  refine x_if_lt C 9 d_PC_checkIndex_1 (by decide) (fun c_1 => ?_) (fun c_1 => ?_)
  · exact absurd c_1 h0
  · refine x_iload_n C d_PC_checkIndex_4 rfl rfl ?_
    refine x_iload_n C d_PC_checkIndex_5 rfl rfl ?_
    refine x_icmp_lt C 16 d_PC_checkIndex_6 (by decide) (fun c_6 => ?_) (fun c_6 => ?_)
    · refine x_iload_n C d_PC_checkIndex_16 rfl rfl ?_
      exact x_iret C (Nat.le_of_ble_eq_true rfl) (Nat.le_of_ble_eq_true rfl) d_PC_checkIndex_17 ⟨rfl, rfl⟩
    · exact absurd h1 c_6
set_option maxRecDepth 100000 in
set_option maxHeartbeats 4000000 in
theorem q_OJ_checkIndex (l : Launch) (E : xE) {G : xw_G} {i n : Int32} (h0 : ¬ i < 0) (h1 : i < n) : XMk l E y_OJ_checkIndex w_OJ_checkIndex rm_OJ_checkIndex [.int (i), .int (n)] G (fun r G' => r = some (.int i) ∧ G = G') 0 0 := by
  refine XM_of [some (.int (i)), some (.int (n))] (XZ_st E) (by decide) rfl rfl rfl (Nat.le_of_ble_eq_true rfl) (fun p e s m below meth c C hnm => ?_)
  refine x_iload_n C d_OJ_checkIndex_0 rfl rfl ?_
  refine x_iload_n C d_OJ_checkIndex_1 rfl rfl ?_
  refine x_null C d_OJ_checkIndex_2 ?_
  refine x_callS3 C (q_PC_checkIndex l E (G := G) h0 h1) (lk_OJ_105 C.hts (Nat.le_of_ble_eq_true rfl) (Nat.le_of_ble_eq_true rfl)) rfl d_OJ_checkIndex_3 (Nat.le_of_ble_eq_true rfl) (Nat.le_of_ble_eq_true rfl) (Nat.le_of_ble_eq_true rfl) (fun r G' h => ?_)
  obtain ⟨rfl, rfl⟩ := h
  exact x_iret C (Nat.le_of_ble_eq_true rfl) (Nat.le_of_ble_eq_true rfl) d_OJ_checkIndex_6 ⟨rfl, rfl⟩
set_option maxRecDepth 100000 in
set_option maxHeartbeats 4000000 in
theorem q_AL_elementData (l : Launch) (E : xE) {G : xw_G} {h0 ar cap a : Nat} {n md i : Int32} {f : Nat → Option Nat} (hL : G h0 = some (eAL ar n md)) (hA : G ar = some (eOA E cap f)) (hi : vp_in i cap) (hf : f i.toNatClampNeg = some a) : XMk l E y_AL_elementData w_AL_elementData rm_AL_elementData [.ref h0, .int (i)] G (fun r G' => r = some (.ref a) ∧ G = G') 0 0 := by
  refine XM_of [some (.ref h0), some (.int (i))] (XZ_st E) (by decide) rfl rfl rfl (Nat.le_of_ble_eq_true rfl) (fun p e s m below meth c C hnm => ?_)
  refine x_aload_n C d_AL_elementData_0 rfl rfl ?_
  refine x_get C hL rfl (in_AL _) 0 (by decide) (List.mem_cons_of_mem _ f_AL_9) rfl d_AL_elementData_1 ?_
  refine x_iload_n C d_AL_elementData_4 rfl rfl ?_
  refine x_aaloadR C hA 0 rfl hi hf d_AL_elementData_5 ?_
  exact x_aret C (Or.inl ⟨_, rfl⟩) (Or.inr ⟨_, rfl⟩) (Nat.le_of_ble_eq_true rfl) (Nat.le_of_ble_eq_true rfl) d_AL_elementData_6 ⟨rfl, rfl⟩
set_option maxRecDepth 100000 in
set_option maxHeartbeats 4000000 in
theorem q_AL_get (l : Launch) (E : xE) {G : xw_G} {h0 ar cap a : Nat} {n md i : Int32} {f : Nat → Option Nat} (hL : G h0 = some (eAL ar n md)) (hA : G ar = some (eOA E cap f)) (h1 : ¬ i < 0) (h2 : i < n) (hi : vp_in i cap) (hf : f i.toNatClampNeg = some a) : XMk l E y_AL_get w_AL_get rm_AL_get [.ref h0, .int (i)] G (fun r G' => r = some (.ref a) ∧ G = G') 0 0 := by
  refine XM_of [some (.ref h0), some (.int (i))] (XZ_st E) (by decide) rfl rfl rfl (Nat.le_of_ble_eq_true rfl) (fun p e s m below meth c C hnm => ?_)
  refine x_iload_n C d_AL_get_0 rfl rfl ?_
  refine x_aload_n C d_AL_get_1 rfl rfl ?_
  refine x_get C hL rfl (in_AL _) 1 (by decide) (List.mem_cons_of_mem _ f_AL_48) rfl d_AL_get_2 ?_
  refine x_callS2 C (q_OJ_checkIndex l E (G := G) h1 h2) (lk_AL_118 C.hts (Nat.le_of_ble_eq_true rfl) (Nat.le_of_ble_eq_true rfl)) rfl d_AL_get_5 (Nat.le_of_ble_eq_true rfl) (Nat.le_of_ble_eq_true rfl) (Nat.le_of_ble_eq_true rfl) (fun r G' h => ?_)
  obtain ⟨rfl, rfl⟩ := h
  refine x_pop C d_AL_get_8 rfl ?_
  refine x_aload_n C d_AL_get_9 rfl rfl ?_
  refine x_iload_n C d_AL_get_10 rfl rfl ?_
  refine x_callV1 C (q_AL_elementData l E (G := G) hL hA hi hf) (lk_AL_123 C.hts (Nat.le_of_ble_eq_true rfl) (Nat.le_of_ble_eq_true rfl)) hL rfl rfl d_AL_get_11 (Nat.le_of_ble_eq_true rfl) (Nat.le_of_ble_eq_true rfl) (Nat.le_of_ble_eq_true rfl) (fun r G' h => ?_)
  obtain ⟨rfl, rfl⟩ := h
  exact x_aret C (Or.inl ⟨_, rfl⟩) (Or.inr ⟨_, rfl⟩) (Nat.le_of_ble_eq_true rfl) (Nat.le_of_ble_eq_true rfl) d_AL_get_14 ⟨rfl, rfl⟩
set_option maxRecDepth 100000 in
set_option maxHeartbeats 4000000 in
theorem q_AC_init (l : Launch) (E : xE) {G : xw_G} {h0 : Nat} : XMk l E y_AC_init w_AC_init rm_AC_init [.ref h0] G (fun r G' => r = none ∧ G = G') 0 0 := by
  refine XM_of [some (.ref h0)] (XZ_st E) (by decide) rfl rfl rfl (Nat.le_of_ble_eq_true rfl) (fun p e s m below meth c C hnm => ?_)
  refine x_aload_n C d_AC_init_0 rfl rfl ?_
  refine x_objInit C (List.mem_cons_of_mem _ m_AC_1) (List.mem_cons_of_mem _ ki_OB_init) (List.mem_cons_of_mem _ kc_OB_init) rfl d_AC_init_1 (Nat.le_of_ble_eq_true rfl) (Nat.le_of_ble_eq_true rfl) ?_
  exact x_vret C (Nat.le_of_ble_eq_true rfl) (Nat.le_of_ble_eq_true rfl) d_AC_init_4 ⟨rfl, rfl⟩
set_option maxRecDepth 100000 in
set_option maxHeartbeats 4000000 in
theorem q_AB_init (l : Launch) (E : xE) {G : xw_G} {h0 : Nat} {v0 : Value} {n md : Int32} (hL : G h0 = some (.inr (6, [v0, .int n, .int md]))) : XMk l E y_AB_init w_AB_init rm_AB_init [.ref h0] G (fun r G' => r = none ∧ G' = va_up G h0 (some (.inr (6, [v0, .int n, .int 0])))) 0 0 := by
  refine XM_of [some (.ref h0)] (XZ_st E) (by decide) rfl rfl rfl (Nat.le_of_ble_eq_true rfl) (fun p e s m below meth c C hnm => ?_)
  refine x_aload_n C d_AB_init_0 rfl rfl ?_
  refine x_callI0 C (q_AC_init l E (G := G)) (lk_AB_1 C.hts (Nat.le_of_ble_eq_true rfl) (Nat.le_of_ble_eq_true rfl)) rfl d_AB_init_1 (Nat.le_of_ble_eq_true rfl) (Nat.le_of_ble_eq_true rfl) (Nat.le_of_ble_eq_true rfl) (fun r G' h => ?_)
  obtain ⟨rfl, rfl⟩ := h
  refine x_aload_n C d_AB_init_4 rfl rfl ?_
  refine x_iconst C (v := 0) d_AB_init_5 (by decide) ?_
  refine x_put C hL rfl (in_AL _) ty_AL tok_AL nm_AL 2 (by decide) (List.mem_cons_of_mem _ f_AB_7) rfl (tok_AL 2 (by decide)) rfl rfl (Nat.le_of_ble_eq_true rfl) d_AB_init_6 ?_
  exact x_vret C (Nat.le_of_ble_eq_true rfl) (Nat.le_of_ble_eq_true rfl) d_AB_init_9 ⟨rfl, rfl⟩
set_option maxRecDepth 100000 in
set_option maxHeartbeats 4000000 in
theorem q_AL_init (l : Launch) (E : xE) {G : xw_G} {h0 : Nat} {v0 : Value} {n md : Int32} (hL : G h0 = some (.inr (6, [v0, .int n, .int md]))) : XMk l E y_AL_init w_AL_init rm_AL_init [.ref h0] G (fun r G' => r = none ∧ G' = va_up G h0 (some (eAL (xaE E) n 0))) 0 0 := by
  refine XM_of [some (.ref h0)] (XZ_st E) (by decide) rfl rfl rfl (Nat.le_of_ble_eq_true rfl) (fun p e s m below meth c C hnm => ?_)
  refine x_aload_n C d_AL_init_0 rfl rfl ?_
  refine x_callI0 C (q_AB_init l E (G := G) hL) (lk_AL_1 C.hts (Nat.le_of_ble_eq_true rfl) (Nat.le_of_ble_eq_true rfl)) rfl d_AL_init_1 (Nat.le_of_ble_eq_true rfl) (Nat.le_of_ble_eq_true rfl) (Nat.le_of_ble_eq_true rfl) (fun r G' h => ?_)
  obtain ⟨rfl, rfl⟩ := h
  refine x_aload_n C d_AL_init_4 rfl rfl ?_
  refine x_gets C (fun U h => h.1) (List.mem_cons_of_mem _ f_AL_39) d_AL_init_5 ?_
  refine x_put2 C rfl (in_AL _) ty_AL tok_AL nm_AL 0 (by decide) (List.mem_cons_of_mem _ f_AL_9) rfl (tok_AL 0 (by decide)) rfl rfl (Nat.le_of_ble_eq_true rfl) d_AL_init_8 ?_
  exact x_vret C (Nat.le_of_ble_eq_true rfl) (Nat.le_of_ble_eq_true rfl) d_AL_init_11 ⟨rfl, rfl⟩
