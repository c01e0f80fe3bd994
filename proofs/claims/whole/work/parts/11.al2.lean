set_option maxRecDepth 100000 in
set_option maxHeartbeats 4000000 in
theorem q_AS_newLength (l : Launch) (E : xE) {G : xw_G} {a b d z : Int32} (hr : a + (if b < d then d else b) = z) (h0 : ¬ z ≤ 0) (h1 : ¬ 2147483639 < z) : XMk l E y_AS_newLength w_AS_newLength rm_AS_newLength [.int (a), .int (b), .int (d)] G (fun r G' => r = some (.int z) ∧ G = G') 0 0 := by
  refine XM_of [some (.int (a)), some (.int (b)), some (.int (d)), none] (XZ_st E) (by decide) rfl rfl rfl (Nat.le_of_ble_eq_true rfl) (fun p e s m below meth c C hnm => ?_)
  refine x_iload_n C d_AS_newLength_0 rfl rfl ?_
  refine x_iload_n C d_AS_newLength_1 rfl rfl ?_
  refine x_iload_n C d_AS_newLength_2 rfl rfl ?_
  refine x_mmax C m_AS_194 rfl (Nat.le_of_ble_eq_true rfl) (Nat.le_of_ble_eq_true rfl) (Nat.le_of_ble_eq_true rfl) (Nat.le_of_ble_eq_true rfl) d_AS_newLength_3 ?_
  refine x_iadd C d_AS_newLength_6 ?_
  rw [hr]
  refine x_istore_n C d_AS_newLength_7 rfl (Nat.le_of_ble_eq_true rfl) rfl ?_
  refine x_iconst C (v := 0) d_AS_newLength_8 (by decide) ?_
  refine x_iload_n C d_AS_newLength_9 rfl rfl ?_
  refine x_icmp_ge C 21 d_AS_newLength_10 (by decide) (fun c_10 => ?_) (fun c_10 => ?_)
  · exact absurd c_10 h0
  · refine x_iload_n C d_AS_newLength_13 rfl rfl ?_
    refine x_ldc C d_AS_newLength_14 (List.mem_cons_of_mem _ kl_AS_200) ?_
    refine x_icmp_gt C 21 d_AS_newLength_16 (by decide) (fun c_16 => ?_) (fun c_16 => ?_)
    · exact absurd c_16 h1
    · refine x_iload_n C d_AS_newLength_19 rfl rfl ?_
      exact x_iret C (Nat.le_of_ble_eq_true rfl) (Nat.le_of_ble_eq_true rfl) d_AS_newLength_20 ⟨rfl, rfl⟩
set_option maxRecDepth 100000 in
set_option maxHeartbeats 4000000 in
theorem q_AR_copyOf3 (l : Launch) (E : xE) {G : xw_G} {ar cap cap' : Nat} {f : Nat → Option Nat} (hA : G ar = some (eOA E cap f)) (h0 : 0 < cap) (h1 : cap ≤ cap') (h2 : cap' ≤ 366) (hel : ∀ i : Nat, i < cap → ∀ y : Nat, f i = some y → xw_el G y) : XMk l E y_AR_copyOf3 w_AR_copyOf3 rm_AR_copyOf3 [.ref ar, .int (nI cap'), .ref (xmi E)] G (fun r G' => ∃ q : Nat, G q = none ∧ xB E ≤ q ∧ r = some (.ref q) ∧ G' = va_up G q (some (eOA E cap' (va_cpy f (fun _ => none) 0 0 cap)))) 1 366 := by
  refine XM_of [some (.ref ar), some (.int (nI cap')), some (.ref (xmi E)), none] (XZ_st E) (by decide) rfl rfl rfl (Nat.le_of_ble_eq_true rfl) (fun p e s m below meth c C hnm => ?_)
  refine x_aload_n C d_AR_copyOf3_0 rfl rfl ?_
  refine x_ldcM C (fun U h => h.2.1) (List.mem_cons_of_mem _ cl_AR_110) d_AR_copyOf3_1 ?_
  refine x_acmp_ne C (rx := some (xmi E)) (ry := some (xmi E)) 13 d_AR_copyOf3_3 (by decide) (fun c_3 => ?_) (fun c_3 => ?_)
  · exact absurd rfl c_3
  · refine x_iload_n C d_AR_copyOf3_6 rfl rfl ?_
    refine x_anewa C 0 rfl (List.mem_cons_of_mem _ cl_AR_2) (nI_pos (by omega)) (nI_clamp (by omega)) (by omega) (Nat.le_of_ble_eq_true rfl) (show 0 + cap' ≤ 366 by omega) d_AR_copyOf3_7 (fun U h => h.2.2.1) (fun q hq hBq => ?_)
    refine XW.wid (cells := 1) (slots := 366) ?_ (Nat.le_refl _) (show 0 + cap' ≤ 366 by omega)
    have hA1 : va_up G q (some (eOA E cap' (fun _ => none))) ar = some (eOA E cap f) := xw_keep hA (xw_neF hq hA)
    refine x_goto C 24 d_AR_copyOf3_10 (by decide) ?_
    refine x_astore_n C d_AR_copyOf3_24 rfl (Nat.le_of_ble_eq_true rfl) rfl ?_
    refine x_aload_n C d_AR_copyOf3_25 rfl rfl ?_
    refine x_iconst C (v := 0) d_AR_copyOf3_26 (by decide) ?_
    refine x_aload_n C d_AR_copyOf3_27 rfl rfl ?_
    refine x_iconst C (v := 0) d_AR_copyOf3_28 (by decide) ?_
    refine x_aload_n C d_AR_copyOf3_29 rfl rfl ?_
    refine x_alenN C hA1 0 rfl d_AR_copyOf3_30 ?_
    refine x_iload_n C d_AR_copyOf3_31 rfl rfl ?_
    refine x_mmin C m_AR_304 rfl (Nat.le_of_ble_eq_true rfl) (Nat.le_of_ble_eq_true rfl) (Nat.le_of_ble_eq_true rfl) (Nat.le_of_ble_eq_true rfl) d_AR_copyOf3_32 ?_
    rw [if_neg (show ¬ nI cap' < nI cap from nI_nlt h1 (by omega))]
    refine x_copyN C hA1 (va_up_self _ _ _) nI_0.symm nI_0.symm rfl (by omega) (by omega) (by omega) (by omega) h0 (by omega) (fun x hx y hy => xw_el_fresh (hel x (by omega) y (by rw [Nat.zero_add] at hy; exact hy)) hq) m_AR_150 rfl (Nat.le_of_ble_eq_true rfl) (by decide +kernel) d_AR_copyOf3_35 ?_
    refine x_aload_n C d_AR_copyOf3_38 rfl rfl ?_
    exact x_aret C (Or.inr ⟨_, rfl⟩) (Or.inr ⟨_, rfl⟩) (Nat.le_of_ble_eq_true rfl) (Nat.le_of_ble_eq_true rfl) d_AR_copyOf3_39 ⟨q, hq, hBq, rfl, by rw [bx_uu]⟩
set_option maxRecDepth 100000 in
set_option maxHeartbeats 4000000 in
theorem q_AR_copyOf2 (l : Launch) (E : xE) {G : xw_G} {ar cap cap' : Nat} {f : Nat → Option Nat} (hA : G ar = some (eOA E cap f)) (h0 : 0 < cap) (h1 : cap ≤ cap') (h2 : cap' ≤ 366) (hel : ∀ i : Nat, i < cap → ∀ y : Nat, f i = some y → xw_el G y) : XMk l E y_AR_copyOf2 w_AR_copyOf2 rm_AR_copyOf2 [.ref ar, .int (nI cap')] G (fun r G' => ∃ q : Nat, G q = none ∧ xB E ≤ q ∧ r = some (.ref q) ∧ G' = va_up G q (some (eOA E cap' (va_cpy f (fun _ => none) 0 0 cap)))) 1 366 := by
  refine XM_of [some (.ref ar), some (.int (nI cap'))] (XZ_st E) (by decide) rfl rfl rfl (Nat.le_of_ble_eq_true rfl) (fun p e s m below meth c C hnm => ?_)
  refine x_aload_n C d_AR_copyOf2_0 rfl rfl ?_
  refine x_iload_n C d_AR_copyOf2_1 rfl rfl ?_
  refine x_aload_n C d_AR_copyOf2_2 rfl rfl ?_
  refine x_getC C hA 0 rfl (fun U h => h.2.1) (fun U h => h.2.2.2.1) (List.mem_cons_of_mem _ m_AR_86) (List.mem_cons_of_mem _ kv_OA__OB_getClass) (List.mem_cons_of_mem _ ki_OB_getClass) (List.mem_cons_of_mem _ kn_OB_getClass) rfl (Nat.le_of_ble_eq_true rfl) (Nat.le_of_ble_eq_true rfl) d_AR_copyOf2_3 ?_
  refine x_callS3 C (q_AR_copyOf3 l E hA h0 h1 h2 hel) (lk_AR_300 C.hts (Nat.le_of_ble_eq_true rfl) (Nat.le_of_ble_eq_true rfl)) rfl d_AR_copyOf2_6 (Nat.le_of_ble_eq_true rfl) (Nat.le_of_ble_eq_true rfl) (Nat.le_of_ble_eq_true rfl) (fun r G' h => ?_)
  obtain ⟨q, hq, hBq, rfl, rfl⟩ := h
  exact x_aret C (Or.inr ⟨_, rfl⟩) (Or.inr ⟨_, rfl⟩) (Nat.le_of_ble_eq_true rfl) (Nat.le_of_ble_eq_true rfl) d_AR_copyOf2_9 ⟨q, hq, hBq, rfl, rfl⟩
set_option maxRecDepth 100000 in
set_option maxHeartbeats 4000000 in
theorem q_AL_growI_0 (l : Launch) (E : xE) {G : xw_G} {h0 : Nat} {n md k : Int32} {f : Nat → Option Nat} (hL : G h0 = some (eAL (xaE E) n md)) (hA : G (xaE E) = some (eOA E 0 f)) (hk : ¬ 10 < k) : XMk l E y_AL_growI w_AL_growI rm_AL_growI [.ref h0, .int (k)] G (fun r G' => ∃ q : Nat, G q = none ∧ xB E ≤ q ∧ r = some (.ref q) ∧ G' = va_up (va_up G q (some (eOA E 10 (fun _ => none)))) h0 (some (eAL q n md))) 1 366 := by
  refine XM_of [some (.ref h0), some (.int (k)), none, none] (XZ_st E) (by decide) rfl rfl rfl (Nat.le_of_ble_eq_true rfl) (fun p e s m below meth c C hnm => ?_)
  refine x_aload_n C d_AL_growI_0 rfl rfl ?_
  refine x_get C hL rfl (in_AL _) 0 (by decide) (List.mem_cons_of_mem _ f_AL_9) rfl d_AL_growI_1 ?_
  refine x_alenN C hA 0 rfl d_AL_growI_4 ?_
  refine x_istore_n C d_AL_growI_5 rfl (Nat.le_of_ble_eq_true rfl) rfl ?_
  refine x_iload_n C d_AL_growI_6 rfl rfl ?_
  refine x_if_gt C 20 d_AL_growI_7 (by decide) (fun c_7 => ?_) (fun c_7 => ?_)
  · exact absurd c_7 (show ¬ nI 0 < nI 0 from nI_nlt (Nat.le_refl 0) (by decide))
  · refine x_aload_n C d_AL_growI_10 rfl rfl ?_
    refine x_get C hL rfl (in_AL _) 0 (by decide) (List.mem_cons_of_mem _ f_AL_9) rfl d_AL_growI_11 ?_
    refine x_gets C (fun U h => h.1) (List.mem_cons_of_mem _ f_AL_39) d_AL_growI_14 ?_
    refine x_acmp_eq C (rx := some (xaE E)) (ry := some (xaE E)) 45 d_AL_growI_17 (by decide) (fun c_17 => ?_) (fun c_17 => ?_)
    · refine x_aload_n C d_AL_growI_45 rfl rfl ?_
      refine x_bipush C (v := 10) d_AL_growI_46 (by decide) ?_
      refine x_iload_n C d_AL_growI_48 rfl rfl ?_
      refine x_mmax C m_AL_79 rfl (Nat.le_of_ble_eq_true rfl) (Nat.le_of_ble_eq_true rfl) (Nat.le_of_ble_eq_true rfl) (Nat.le_of_ble_eq_true rfl) d_AL_growI_49 ?_
      rw [if_neg hk]
      refine x_anewa C 0 rfl (List.mem_cons_of_mem _ cl_AL_7) (by decide) rfl (by decide) (Nat.le_of_ble_eq_true rfl) (Nat.le_of_ble_eq_true rfl) d_AL_growI_52 (fun U h => h.2.2.1) (fun q hq hBq => ?_)
      refine XW.wid (cells := 1) (slots := 366) ?_ (Nat.le_refl _) (show 0 + 10 ≤ 366 by omega)
      have hL1 : va_up G q (some (eOA E 10 (fun _ => none))) h0 = some (eAL (xaE E) n md) := xw_keep hL (xw_neF hq hL)
      refine x_dup_x1 C d_AL_growI_55 rfl rfl ?_
      refine x_put C hL1 rfl (in_AL _) ty_AL tok_AL nm_AL 0 (by decide) (List.mem_cons_of_mem _ f_AL_9) rfl (tok_AL 0 (by decide)) rfl rfl (Nat.le_of_ble_eq_true rfl) d_AL_growI_56 ?_
      exact x_aret C (Or.inr ⟨_, rfl⟩) (Or.inr ⟨_, rfl⟩) (Nat.le_of_ble_eq_true rfl) (Nat.le_of_ble_eq_true rfl) d_AL_growI_59 ⟨q, hq, hBq, rfl, rfl⟩
    · exact absurd rfl c_17
theorem al_nl {cap : Nat} (h1 : 10 ≤ cap) (h2 : cap ≤ 244) : nI cap + (if nI (cap + 1) - nI cap < nI cap >>> ((1 : Int32) &&& 31) then nI cap >>> ((1 : Int32) &&& 31) else nI (cap + 1) - nI cap) = nI (cap + cap / 2) := by
  have e1 : nI (cap + 1) - nI cap = nI 1 := by
    rw [pk_sub (by omega), Nat.add_sub_cancel_left]
  have e2 : nI cap >>> ((1 : Int32) &&& 31) = nI (cap / 2) := by
    have k := pk_shrN (n := cap) (by omega) ((1 : Int32) &&& 31) 1 (by decide)
    rw [Nat.pow_one] at k
    exact k
  rw [e1, e2, if_pos (nI_lt (by omega) (by omega)), nI_add]
set_option maxRecDepth 100000 in
set_option maxHeartbeats 4000000 in
theorem q_AL_growI_s (l : Launch) (E : xE) {G : xw_G} {h0 ar cap : Nat} {n md : Int32} {f : Nat → Option Nat} (hL : G h0 = some (eAL ar n md)) (hA : G ar = some (eOA E cap f)) (h1 : 10 ≤ cap) (h2 : cap ≤ 244) (hel : ∀ i : Nat, i < cap → ∀ y : Nat, f i = some y → xw_el G y) : XMk l E y_AL_growI w_AL_growI rm_AL_growI [.ref h0, .int (nI (cap + 1))] G (fun r G' => ∃ q : Nat, G q = none ∧ xB E ≤ q ∧ r = some (.ref q) ∧ G' = va_up (va_up G q (some (eOA E (cap + cap / 2) (va_cpy f (fun _ => none) 0 0 cap)))) h0 (some (eAL q n md))) 1 366 := by
  refine XM_of [some (.ref h0), some (.int (nI (cap + 1))), none, none] (XZ_st E) (by decide) rfl rfl rfl (Nat.le_of_ble_eq_true rfl) (fun p e s m below meth c C hnm => ?_)
  refine x_aload_n C d_AL_growI_0 rfl rfl ?_
  refine x_get C hL rfl (in_AL _) 0 (by decide) (List.mem_cons_of_mem _ f_AL_9) rfl d_AL_growI_1 ?_
  refine x_alenN C hA 0 rfl d_AL_growI_4 ?_
  refine x_istore_n C d_AL_growI_5 rfl (Nat.le_of_ble_eq_true rfl) rfl ?_
  refine x_iload_n C d_AL_growI_6 rfl rfl ?_
  refine x_if_gt C 20 d_AL_growI_7 (by decide) (fun c_7 => ?_) (fun c_7 => ?_)
  · refine x_iload_n C d_AL_growI_20 rfl rfl ?_
    refine x_iload_n C d_AL_growI_21 rfl rfl ?_
    refine x_iload_n C d_AL_growI_22 rfl rfl ?_
    refine x_isub C d_AL_growI_23 ?_
    refine x_iload_n C d_AL_growI_24 rfl rfl ?_
    refine x_iconst C (v := 1) d_AL_growI_25 (by decide) ?_
    refine x_ishr C d_AL_growI_26 ?_
    refine x_callS3 C (q_AS_newLength l E (G := G) (z := nI (cap + cap / 2)) (al_nl h1 h2) (nI_nle (by omega) (by omega)) (show ¬ nI 2147483639 < nI (cap + cap / 2) from nI_nlt (by omega) (by decide))) (lk_AL_73 C.hts (Nat.le_of_ble_eq_true rfl) (Nat.le_of_ble_eq_true rfl)) rfl d_AL_growI_27 (Nat.le_of_ble_eq_true rfl) (Nat.le_of_ble_eq_true rfl) (Nat.le_of_ble_eq_true rfl) (fun r G' h => ?_)
    obtain ⟨rfl, rfl⟩ := h
    refine x_istore_n C d_AL_growI_30 rfl (Nat.le_of_ble_eq_true rfl) rfl ?_
    refine x_aload_n C d_AL_growI_31 rfl rfl ?_
    refine x_aload_n C d_AL_growI_32 rfl rfl ?_
    refine x_get C hL rfl (in_AL _) 0 (by decide) (List.mem_cons_of_mem _ f_AL_9) rfl d_AL_growI_33 ?_
    refine x_iload_n C d_AL_growI_36 rfl rfl ?_
    refine x_callS2 C (q_AR_copyOf2 l E hA (by omega) (by omega) (by omega) hel) (lk_AL_66 C.hts (Nat.le_of_ble_eq_true rfl) (Nat.le_of_ble_eq_true rfl)) rfl d_AL_growI_37 (Nat.le_of_ble_eq_true rfl) (Nat.le_of_ble_eq_true rfl) (Nat.le_of_ble_eq_true rfl) (fun r G' h => ?_)
    obtain ⟨q, hq, hBq, rfl, rfl⟩ := h
    have hL1 : va_up G q (some (eOA E (cap + cap / 2) (va_cpy f (fun _ => none) 0 0 cap))) h0 = some (eAL ar n md) := xw_keep hL (xw_neF hq hL)
    refine x_dup_x1 C d_AL_growI_40 rfl rfl ?_
    refine x_put C hL1 rfl (in_AL _) ty_AL tok_AL nm_AL 0 (by decide) (List.mem_cons_of_mem _ f_AL_9) rfl (tok_AL 0 (by decide)) rfl rfl (Nat.le_of_ble_eq_true rfl) d_AL_growI_41 ?_
    exact x_aret C (Or.inr ⟨_, rfl⟩) (Or.inr ⟨_, rfl⟩) (Nat.le_of_ble_eq_true rfl) (Nat.le_of_ble_eq_true rfl) d_AL_growI_44 ⟨q, hq, hBq, rfl, rfl⟩
  · exact absurd (show nI 0 < nI cap from nI_lt (by omega) (by omega)) c_7
set_option maxRecDepth 100000 in
set_option maxHeartbeats 4000000 in
theorem q_AL_grow0_0 (l : Launch) (E : xE) {G : xw_G} {h0 : Nat} {md : Int32} {f : Nat → Option Nat} (hL : G h0 = some (eAL (xaE E) 0 md)) (hA : G (xaE E) = some (eOA E 0 f)) : XMk l E y_AL_grow0 w_AL_grow0 rm_AL_grow0 [.ref h0] G (fun r G' => ∃ q : Nat, G q = none ∧ xB E ≤ q ∧ r = some (.ref q) ∧ G' = va_up (va_up G q (some (eOA E 10 (fun _ => none)))) h0 (some (eAL q 0 md))) 1 366 := by
  refine XM_of [some (.ref h0)] (XZ_st E) (by decide) rfl rfl rfl (Nat.le_of_ble_eq_true rfl) (fun p e s m below meth c C hnm => ?_)
  refine x_aload_n C d_AL_grow0_0 rfl rfl ?_
  refine x_aload_n C d_AL_grow0_1 rfl rfl ?_
  refine x_get C hL rfl (in_AL _) 1 (by decide) (List.mem_cons_of_mem _ f_AL_48) rfl d_AL_grow0_2 ?_
  refine x_iconst C (v := 1) d_AL_grow0_5 (by decide) ?_
  refine x_iadd C d_AL_grow0_6 ?_
  refine x_callV1 C (q_AL_growI_0 l E (k := 0 + 1) hL hA (by decide)) (lk_AL_69 C.hts (Nat.le_of_ble_eq_true rfl) (Nat.le_of_ble_eq_true rfl)) hL rfl rfl d_AL_grow0_7 (Nat.le_of_ble_eq_true rfl) (Nat.le_of_ble_eq_true rfl) (Nat.le_of_ble_eq_true rfl) (fun r G' h => ?_)
  obtain ⟨q, hq, hBq, rfl, rfl⟩ := h
  exact x_aret C (Or.inr ⟨_, rfl⟩) (Or.inr ⟨_, rfl⟩) (Nat.le_of_ble_eq_true rfl) (Nat.le_of_ble_eq_true rfl) d_AL_grow0_10 ⟨q, hq, hBq, rfl, rfl⟩
set_option maxRecDepth 100000 in
set_option maxHeartbeats 4000000 in
theorem q_AL_grow0_s (l : Launch) (E : xE) {G : xw_G} {h0 ar cap : Nat} {md : Int32} {f : Nat → Option Nat} (hL : G h0 = some (eAL ar (nI cap) md)) (hA : G ar = some (eOA E cap f)) (h1 : 10 ≤ cap) (h2 : cap ≤ 244) (hel : ∀ i : Nat, i < cap → ∀ y : Nat, f i = some y → xw_el G y) : XMk l E y_AL_grow0 w_AL_grow0 rm_AL_grow0 [.ref h0] G (fun r G' => ∃ q : Nat, G q = none ∧ xB E ≤ q ∧ r = some (.ref q) ∧ G' = va_up (va_up G q (some (eOA E (cap + cap / 2) (va_cpy f (fun _ => none) 0 0 cap)))) h0 (some (eAL q (nI cap) md))) 1 366 := by
  refine XM_of [some (.ref h0)] (XZ_st E) (by decide) rfl rfl rfl (Nat.le_of_ble_eq_true rfl) (fun p e s m below meth c C hnm => ?_)
  refine x_aload_n C d_AL_grow0_0 rfl rfl ?_
  refine x_aload_n C d_AL_grow0_1 rfl rfl ?_
  refine x_get C hL rfl (in_AL _) 1 (by decide) (List.mem_cons_of_mem _ f_AL_48) rfl d_AL_grow0_2 ?_
  refine x_iconst C (v := 1) d_AL_grow0_5 (by decide) ?_
  refine x_iadd C d_AL_grow0_6 ?_
  rw [nI_1]
  refine x_callV1 C (q_AL_growI_s l E hL hA h1 h2 hel) (lk_AL_69 C.hts (Nat.le_of_ble_eq_true rfl) (Nat.le_of_ble_eq_true rfl)) hL rfl rfl d_AL_grow0_7 (Nat.le_of_ble_eq_true rfl) (Nat.le_of_ble_eq_true rfl) (Nat.le_of_ble_eq_true rfl) (fun r G' h => ?_)
  obtain ⟨q, hq, hBq, rfl, rfl⟩ := h
  exact x_aret C (Or.inr ⟨_, rfl⟩) (Or.inr ⟨_, rfl⟩) (Nat.le_of_ble_eq_true rfl) (Nat.le_of_ble_eq_true rfl) d_AL_grow0_10 ⟨q, hq, hBq, rfl, rfl⟩
