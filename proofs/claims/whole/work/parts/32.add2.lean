def v00 : VD := (false, 0, 0, 0, 0, 0, 0, false, none, 0, false, 0)
theorem q_AL_isEmptyL (l : Launch) (E : xE) {G : xw_G} {h0 ar : Nat} {xs : List Nat} (h : xAL E G h0 ar xs) : XMk l E y_AL_isEmpty w_AL_isEmpty rm_AL_isEmpty [.ref h0] G (fun r G' => r = some (.int (bI (decide (xs.length = 0)))) ∧ G = G') 0 0 := by
  have hl := xAL_len h
  obtain ⟨cap, md, f, hL, hA, hc1, hc2, hc3, hf⟩ := h
  have e : decide (nI xs.length = 0) = decide (xs.length = 0) := by
    by_cases h0 : xs.length = 0
    · rw [h0]; rfl
    · rw [decide_eq_false h0, decide_eq_false (nI_ne0 (by omega) (by omega))]
  have := q_AL_isEmpty l E hL
  rw [e] at this
  exact this
set_option maxRecDepth 100000 in
set_option maxHeartbeats 4000000 in
theorem q_KF_view_no (l : Launch) (E : xE) {G : xw_G} {x : Nat} {σ : CS} {lo la : Nat → Nat} {lc : Nat → List Nat} (hC : xCB E G x σ lo la lc) (hb : 5 ≤ (sV σ).length ∨ (sK σ).length = 0) : XMk l E y_KF_view w_KF_view rm_KF_view [.ref x] G (fun r G' => r = some (.int (-1)) ∧ G = G') 2 378 := by
  refine XM_of [some (.ref x), none] (XZ_st E) (by decide) rfl rfl rfl (Nat.le_of_ble_eq_true rfl) (fun p e s m below meth c C hnm => ?_)
  obtain ⟨hG, hL, hnn, hk, hv, hs, he⟩ := id hC
  obtain ⟨cap0, md0, ff0, hL0, -⟩ := hL.1 0 (by omega)
  obtain ⟨cap1, md1, ff1, hL1, -⟩ := hL.1 1 (by omega)
  have hl := xCS_len hC.S
  refine x_aload_n C d_KF_view_0 rfl rfl ?_
  refine x_get C hG rfl (in_KF _) 1 (by decide) (List.mem_cons_of_mem _ f_KF_16) rfl d_KF_view_1 ?_
  refine x_callV0 C (q_AL_sizeL l E (hL.1 1 (by omega))) (lk_KF_19 C.hts (Nat.le_of_ble_eq_true rfl) (Nat.le_of_ble_eq_true rfl)) hL1 rfl rfl d_KF_view_4 (Nat.le_of_ble_eq_true rfl) (Nat.le_of_ble_eq_true rfl) (Nat.le_of_ble_eq_true rfl) (fun r G' h => ?_)
  obtain ⟨rfl, rfl⟩ := h
  rw [hnn.2.2.1]
  refine x_istore_n C d_KF_view_7 rfl (Nat.le_of_ble_eq_true rfl) rfl ?_
  refine x_iload_n C d_KF_view_8 rfl rfl ?_
  refine x_iconst C (v := 5) d_KF_view_9 (by decide) ?_
  refine x_icmp_ge C 23 d_KF_view_10 (by decide) (fun c_10 => ?_) (fun c_10 => ?_)
  · refine x_iconst C (v := -1) d_KF_view_23 (by decide) ?_
    exact x_iret C (Nat.le_of_ble_eq_true rfl) (Nat.le_of_ble_eq_true rfl) d_KF_view_24 ⟨rfl, rfl⟩
  · refine x_aload_n C d_KF_view_13 rfl rfl ?_
    refine x_get C hG rfl (in_KF _) 0 (by decide) (List.mem_cons_of_mem _ f_KF_10) rfl d_KF_view_14 ?_
    refine x_callV0 C (q_AL_isEmptyL l E (hL.1 0 (by omega))) (lk_KF_44 C.hts (Nat.le_of_ble_eq_true rfl) (Nat.le_of_ble_eq_true rfl)) hL0 rfl rfl d_KF_view_17 (Nat.le_of_ble_eq_true rfl) (Nat.le_of_ble_eq_true rfl) (Nat.le_of_ble_eq_true rfl) (fun r G' h => ?_)
    obtain ⟨rfl, rfl⟩ := h
    rw [hnn.1]
    refine x_if_eq C 25 d_KF_view_20 (by decide) (fun c_20 => ?_) (fun c_20 => ?_)
    · exact absurd hb (fun h => h.elim (fun z => absurd (show nI 5 ≤ nI (sV σ).length from nI_le z (by omega)) c_10) (fun z => absurd ((bI_0 _).mp c_20) (by simp [z])))
    · refine x_iconst C (v := -1) d_KF_view_23 (by decide) ?_
      exact x_iret C (Nat.le_of_ble_eq_true rfl) (Nat.le_of_ble_eq_true rfl) d_KF_view_24 ⟨rfl, rfl⟩
set_option maxRecDepth 100000 in
set_option maxHeartbeats 4000000 in
theorem q_KF_view_ok (l : Launch) (E : xE) {G : xw_G} {x : Nat} {σ : CS} {lo la : Nat → Nat} {lc : Nat → List Nat} (hC : xCB E G x σ lo la lc) (h5 : (sV σ).length < 5) (h0 : ¬ (sK σ).length = 0) : XMk l E y_KF_view w_KF_view rm_KF_view [.ref x] G (cPost E G x (some (.int (nI (sV σ).length))) (sK σ, sV σ ++ [v00], sD σ, sO σ, sA σ, sW σ)) 2 378 := by
  refine XM_of [some (.ref x), none] (XZ_st E) (by decide) rfl rfl rfl (Nat.le_of_ble_eq_true rfl) (fun p e s m below meth c C hnm => ?_)
  obtain ⟨hG, hL, hnn, hk, hv, hs, he⟩ := id hC
  obtain ⟨cap0, md0, ff0, hL0, -⟩ := hL.1 0 (by omega)
  obtain ⟨cap1, md1, ff1, hL1, -⟩ := hL.1 1 (by omega)
  have hl := xCS_len hC.S
  refine x_aload_n C d_KF_view_0 rfl rfl ?_
  refine x_get C hG rfl (in_KF _) 1 (by decide) (List.mem_cons_of_mem _ f_KF_16) rfl d_KF_view_1 ?_
  refine x_callV0 C (q_AL_sizeL l E (hL.1 1 (by omega))) (lk_KF_19 C.hts (Nat.le_of_ble_eq_true rfl) (Nat.le_of_ble_eq_true rfl)) hL1 rfl rfl d_KF_view_4 (Nat.le_of_ble_eq_true rfl) (Nat.le_of_ble_eq_true rfl) (Nat.le_of_ble_eq_true rfl) (fun r G' h => ?_)
  obtain ⟨rfl, rfl⟩ := h
  rw [hnn.2.2.1]
  refine x_istore_n C d_KF_view_7 rfl (Nat.le_of_ble_eq_true rfl) rfl ?_
  refine x_iload_n C d_KF_view_8 rfl rfl ?_
  refine x_iconst C (v := 5) d_KF_view_9 (by decide) ?_
  refine x_icmp_ge C 23 d_KF_view_10 (by decide) (fun c_10 => ?_) (fun c_10 => ?_)
  · exact absurd (show nI 5 ≤ nI (sV σ).length from c_10) (nI_ge h5 (by omega))
  · refine x_aload_n C d_KF_view_13 rfl rfl ?_
    refine x_get C hG rfl (in_KF _) 0 (by decide) (List.mem_cons_of_mem _ f_KF_10) rfl d_KF_view_14 ?_
    refine x_callV0 C (q_AL_isEmptyL l E (hL.1 0 (by omega))) (lk_KF_44 C.hts (Nat.le_of_ble_eq_true rfl) (Nat.le_of_ble_eq_true rfl)) hL0 rfl rfl d_KF_view_17 (Nat.le_of_ble_eq_true rfl) (Nat.le_of_ble_eq_true rfl) (Nat.le_of_ble_eq_true rfl) (fun r G' h => ?_)
    obtain ⟨rfl, rfl⟩ := h
    rw [hnn.1]
    refine x_if_eq C 25 d_KF_view_20 (by decide) (fun c_20 => ?_) (fun c_20 => ?_)
    · refine x_aload_n C d_KF_view_25 rfl rfl ?_
      refine x_get C hG rfl (in_KF _) 1 (by decide) (List.mem_cons_of_mem _ f_KF_16) rfl d_KF_view_26 ?_
      refine x_new C (ci := 4) (fs := [.int 0, .int 0, .int 0, .int 0, .int 0, .long 0, .long 0, .int 0, .null, .long 0, .int 0, .long 0]) rfl (in_VW _) ty_VW tok_VW (List.mem_cons_of_mem _ cl_KF_48) (List.mem_cons_of_mem _ kb_VW) (List.mem_cons_of_mem _ kz_VW) (fun j hj => by rcases (show j = 0 ∨ j = 1 ∨ j = 2 ∨ j = 3 ∨ j = 4 ∨ j = 5 ∨ j = 6 ∨ j = 7 ∨ j = 8 ∨ j = 9 ∨ j = 10 ∨ j = 11 by omega) with rfl | rfl | rfl | rfl | rfl | rfl | rfl | rfl | rfl | rfl | rfl | rfl <;> rfl) (Nat.le_of_ble_eq_true rfl) (Nat.le_of_ble_eq_true rfl) d_KF_view_29 (fun va hva hBva => ?_)
      refine x_dup C d_KF_view_32 rfl ?_
      refine x_callIN0 C (q_VW_init l E (G := (va_up G va (some (cVW v00))))) (lk_KF_50 C.hts C.hZ.2.2.2.2.1 (Nat.le_of_ble_eq_true rfl) (Nat.le_of_ble_eq_true rfl)) rfl d_KF_view_33 (Nat.le_of_ble_eq_true rfl) (Nat.le_of_ble_eq_true rfl) (Nat.le_of_ble_eq_true rfl) (fun r G' h => ?_)
      obtain ⟨rfl, rfl⟩ := h
      refine x_callV1 C (q_AL_add1 l E (G := (va_up G va (some (cVW v00)))) (xAL_fresh hva (hL.1 1 (by omega))) ⟨4, _, va_up_self _ _ _, Or.inr (Or.inr rfl)⟩ (fun y hy => xw_el_fresh (xCB_vel hC y hy) hva) (xEm_fresh hva he) (by rw [hnn.2.2.1]; omega)) (lk_KF_32 C.hts (Nat.le_of_ble_eq_true rfl) (Nat.le_of_ble_eq_true rfl)) (xw_keep hL1 (xw_neF hva hL1)) rfl rfl d_KF_view_36 (Nat.le_of_ble_eq_true rfl) (Nat.le_of_ble_eq_true rfl) (Nat.le_of_ble_eq_true rfl) (fun r G' h => ?_)
      obtain ⟨rfl, ar', g1, g2, g3⟩ := h
      refine x_pop C d_KF_view_39 rfl ?_
      refine x_iload_n C d_KF_view_40 rfl rfl ?_
      exact x_iret C (Nat.le_of_ble_eq_true rfl) (Nat.le_of_ble_eq_true rfl) d_KF_view_41 ⟨rfl, xCS_addV hC hva g3 g2 g1, (xFm.fresh hva).tr (xFm.fr (xAL_fresh hva (hL.1 1 (by omega))) g3)⟩
    · exact absurd (show bI (decide ((sK σ).length = 0)) = 0 from by rw [decide_eq_false h0]; rfl) c_20
set_option maxRecDepth 100000 in
set_option maxHeartbeats 4000000 in
theorem q_KF_key_no (l : Launch) (E : xE) {G : xw_G} {x : Nat} {σ : CS} {lo la : Nat → Nat} {lc : Nat → List Nat} (hC : xCB E G x σ lo la lc) {pr db : Bool} {fr sz : Int32} (hb : (sO σ = true ∨ 6 ≤ (sK σ).length ∨ pr ≠ decide ((sK σ).length = 0) ∨ (pr = true ∧ db = true) ∨ sz < 1 ∨ 8 < sz ∨ fr < 0 ∨ 8 - sz < fr)) : XMk l E y_KF_key w_KF_key rm_KF_key [.ref x, .int (bI pr), .int (bI db), .int (fr), .int (sz)] G (fun r G' => r = some (.int (-1)) ∧ G = G') 3 375 := by
  refine XM_of [some (.ref x), some (.int (bI pr)), some (.int (bI db)), some (.int (fr)), some (.int (sz)), none] (XZ_st E) (by decide) rfl rfl rfl (Nat.le_of_ble_eq_true rfl) (fun p e s m below meth c C hnm => ?_)
  obtain ⟨hG, hL, hnn, hk, hv, hs, he⟩ := id hC
  obtain ⟨cap0, md0, ff0, hL0, -⟩ := hL.1 0 (by omega)
  obtain ⟨cap1, md1, ff1, hL1, -⟩ := hL.1 1 (by omega)
  have hl := xCS_len hC.S
  refine x_aload_n C d_KF_key_0 rfl rfl ?_
  refine x_get C hG rfl (in_KF _) 0 (by decide) (List.mem_cons_of_mem _ f_KF_10) rfl d_KF_key_1 ?_
  refine x_callV0 C (q_AL_sizeL l E (hL.1 0 (by omega))) (lk_KF_19 C.hts (Nat.le_of_ble_eq_true rfl) (Nat.le_of_ble_eq_true rfl)) hL0 rfl rfl d_KF_key_4 (Nat.le_of_ble_eq_true rfl) (Nat.le_of_ble_eq_true rfl) (Nat.le_of_ble_eq_true rfl) (fun r G' h => ?_)
  obtain ⟨rfl, rfl⟩ := h
  rw [hnn.1]
  refine x_istore C d_KF_key_7 (Nat.le_of_ble_eq_true rfl) rfl ?_
  refine x_aload_n C d_KF_key_9 rfl rfl ?_
  refine x_get C hG rfl (in_KF _) 2 (by decide) (List.mem_cons_of_mem _ f_KF_23) rfl d_KF_key_10 ?_
  refine x_if_ne C 23 d_KF_key_13 (by decide) (fun c_13 => ?_) (fun c_13 => ?_)
  · refine x_iconst C (v := -1) d_KF_key_23 (by decide) ?_
    exact x_iret C (Nat.le_of_ble_eq_true rfl) (Nat.le_of_ble_eq_true rfl) d_KF_key_24 ⟨rfl, rfl⟩
  · refine x_iload C d_KF_key_16 rfl ?_
    refine x_bipush C (v := 6) d_KF_key_18 (by decide) ?_
    refine x_icmp_lt C 25 d_KF_key_20 (by decide) (fun c_20 => ?_) (fun c_20 => ?_)
    · refine x_iload_n C d_KF_key_25 rfl rfl ?_
      refine x_iload C d_KF_key_26 rfl ?_
      refine x_if_ne C 35 d_KF_key_28 (by decide) (fun c_28 => ?_) (fun c_28 => ?_)
      · refine x_iconst C (v := 0) d_KF_key_35 (by decide) ?_
        refine x_icmp_ne C 47 d_KF_key_36 (by decide) (fun c_36 => ?_) (fun c_36 => ?_)
        · refine x_iconst C (v := -1) d_KF_key_47 (by decide) ?_
          exact x_iret C (Nat.le_of_ble_eq_true rfl) (Nat.le_of_ble_eq_true rfl) d_KF_key_48 ⟨rfl, rfl⟩
        · refine x_iload_n C d_KF_key_39 rfl rfl ?_
          refine x_if_eq C 49 d_KF_key_40 (by decide) (fun c_40 => ?_) (fun c_40 => ?_)
          · refine x_iload C d_KF_key_49 rfl ?_
            refine x_iconst C (v := 1) d_KF_key_51 (by decide) ?_
            refine x_icmp_lt C 75 d_KF_key_52 (by decide) (fun c_52 => ?_) (fun c_52 => ?_)
            · refine x_iconst C (v := -1) d_KF_key_75 (by decide) ?_
              exact x_iret C (Nat.le_of_ble_eq_true rfl) (Nat.le_of_ble_eq_true rfl) d_KF_key_76 ⟨rfl, rfl⟩
            · refine x_iload C d_KF_key_55 rfl ?_
              refine x_bipush C (v := 8) d_KF_key_57 (by decide) ?_
              refine x_icmp_gt C 75 d_KF_key_59 (by decide) (fun c_59 => ?_) (fun c_59 => ?_)
              · refine x_iconst C (v := -1) d_KF_key_75 (by decide) ?_
                exact x_iret C (Nat.le_of_ble_eq_true rfl) (Nat.le_of_ble_eq_true rfl) d_KF_key_76 ⟨rfl, rfl⟩
              · refine x_iload_n C d_KF_key_62 rfl rfl ?_
                refine x_if_lt C 75 d_KF_key_63 (by decide) (fun c_63 => ?_) (fun c_63 => ?_)
                · refine x_iconst C (v := -1) d_KF_key_75 (by decide) ?_
                  exact x_iret C (Nat.le_of_ble_eq_true rfl) (Nat.le_of_ble_eq_true rfl) d_KF_key_76 ⟨rfl, rfl⟩
                · refine x_iload_n C d_KF_key_66 rfl rfl ?_
                  refine x_bipush C (v := 8) d_KF_key_67 (by decide) ?_
                  refine x_iload C d_KF_key_69 rfl ?_
                  refine x_isub C d_KF_key_71 ?_
                  refine x_icmp_le C 77 d_KF_key_72 (by decide) (fun c_72 => ?_) (fun c_72 => ?_)
                  · have k1 : sO σ = false := (bI_0 _).mp c_13
                    have k2 : (sK σ).length < 6 := (nI_ltI (by omega) (by omega)).mp (show nI (sK σ).length < nI 6 from c_20)
                    have k3 : pr = decide ((sK σ).length = 0) := by rw [decide_eq_false (fun z => c_28 (by rw [z]; rfl))]; cases pr with | false => rfl | true => exact absurd c_36 (by decide)
                    have k4 : ¬ (pr = true ∧ db = true) := fun z => absurd (z.1.symm.trans ((bI_0 _).mp c_40)) (by decide)
                    exact absurd hb (fun h => h.elim (fun z => absurd (z.symm.trans k1) (by decide)) (fun h => h.elim (fun z => absurd k2 (by omega)) (fun h => h.elim (fun z => z k3) (fun h => h.elim k4 (fun h => h.elim c_52 (fun h => h.elim c_59 (fun h => h.elim c_63 (fun z => absurd z (Int32.not_lt.mpr c_72)))))))))
                  · refine x_iconst C (v := -1) d_KF_key_75 (by decide) ?_
                    exact x_iret C (Nat.le_of_ble_eq_true rfl) (Nat.le_of_ble_eq_true rfl) d_KF_key_76 ⟨rfl, rfl⟩
          · refine x_iload_n C d_KF_key_43 rfl rfl ?_
            refine x_if_eq C 49 d_KF_key_44 (by decide) (fun c_44 => ?_) (fun c_44 => ?_)
            · refine x_iload C d_KF_key_49 rfl ?_
              refine x_iconst C (v := 1) d_KF_key_51 (by decide) ?_
              refine x_icmp_lt C 75 d_KF_key_52 (by decide) (fun c_52 => ?_) (fun c_52 => ?_)
              · refine x_iconst C (v := -1) d_KF_key_75 (by decide) ?_
                exact x_iret C (Nat.le_of_ble_eq_true rfl) (Nat.le_of_ble_eq_true rfl) d_KF_key_76 ⟨rfl, rfl⟩
              · refine x_iload C d_KF_key_55 rfl ?_
                refine x_bipush C (v := 8) d_KF_key_57 (by decide) ?_
                refine x_icmp_gt C 75 d_KF_key_59 (by decide) (fun c_59 => ?_) (fun c_59 => ?_)
                · refine x_iconst C (v := -1) d_KF_key_75 (by decide) ?_
                  exact x_iret C (Nat.le_of_ble_eq_true rfl) (Nat.le_of_ble_eq_true rfl) d_KF_key_76 ⟨rfl, rfl⟩
                · refine x_iload_n C d_KF_key_62 rfl rfl ?_
                  refine x_if_lt C 75 d_KF_key_63 (by decide) (fun c_63 => ?_) (fun c_63 => ?_)
                  · refine x_iconst C (v := -1) d_KF_key_75 (by decide) ?_
                    exact x_iret C (Nat.le_of_ble_eq_true rfl) (Nat.le_of_ble_eq_true rfl) d_KF_key_76 ⟨rfl, rfl⟩
                  · refine x_iload_n C d_KF_key_66 rfl rfl ?_
                    refine x_bipush C (v := 8) d_KF_key_67 (by decide) ?_
                    refine x_iload C d_KF_key_69 rfl ?_
                    refine x_isub C d_KF_key_71 ?_
                    refine x_icmp_le C 77 d_KF_key_72 (by decide) (fun c_72 => ?_) (fun c_72 => ?_)
                    · have k1 : sO σ = false := (bI_0 _).mp c_13
                      have k2 : (sK σ).length < 6 := (nI_ltI (by omega) (by omega)).mp (show nI (sK σ).length < nI 6 from c_20)
                      have k3 : pr = decide ((sK σ).length = 0) := by rw [decide_eq_false (fun z => c_28 (by rw [z]; rfl))]; cases pr with | false => rfl | true => exact absurd c_36 (by decide)
                      have k4 : ¬ (pr = true ∧ db = true) := fun z => absurd (z.2.symm.trans ((bI_0 _).mp c_44)) (by decide)
                      exact absurd hb (fun h => h.elim (fun z => absurd (z.symm.trans k1) (by decide)) (fun h => h.elim (fun z => absurd k2 (by omega)) (fun h => h.elim (fun z => z k3) (fun h => h.elim k4 (fun h => h.elim c_52 (fun h => h.elim c_59 (fun h => h.elim c_63 (fun z => absurd z (Int32.not_lt.mpr c_72)))))))))
                    · refine x_iconst C (v := -1) d_KF_key_75 (by decide) ?_
                      exact x_iret C (Nat.le_of_ble_eq_true rfl) (Nat.le_of_ble_eq_true rfl) d_KF_key_76 ⟨rfl, rfl⟩
            · refine x_iconst C (v := -1) d_KF_key_47 (by decide) ?_
              exact x_iret C (Nat.le_of_ble_eq_true rfl) (Nat.le_of_ble_eq_true rfl) d_KF_key_48 ⟨rfl, rfl⟩
      · refine x_iconst C (v := 1) d_KF_key_31 (by decide) ?_
        refine x_goto C 36 d_KF_key_32 (by decide) ?_
        refine x_icmp_ne C 47 d_KF_key_36 (by decide) (fun c_36 => ?_) (fun c_36 => ?_)
        · refine x_iconst C (v := -1) d_KF_key_47 (by decide) ?_
          exact x_iret C (Nat.le_of_ble_eq_true rfl) (Nat.le_of_ble_eq_true rfl) d_KF_key_48 ⟨rfl, rfl⟩
        · refine x_iload_n C d_KF_key_39 rfl rfl ?_
          refine x_if_eq C 49 d_KF_key_40 (by decide) (fun c_40 => ?_) (fun c_40 => ?_)
          · refine x_iload C d_KF_key_49 rfl ?_
            refine x_iconst C (v := 1) d_KF_key_51 (by decide) ?_
            refine x_icmp_lt C 75 d_KF_key_52 (by decide) (fun c_52 => ?_) (fun c_52 => ?_)
            · refine x_iconst C (v := -1) d_KF_key_75 (by decide) ?_
              exact x_iret C (Nat.le_of_ble_eq_true rfl) (Nat.le_of_ble_eq_true rfl) d_KF_key_76 ⟨rfl, rfl⟩
            · refine x_iload C d_KF_key_55 rfl ?_
              refine x_bipush C (v := 8) d_KF_key_57 (by decide) ?_
              refine x_icmp_gt C 75 d_KF_key_59 (by decide) (fun c_59 => ?_) (fun c_59 => ?_)
              · refine x_iconst C (v := -1) d_KF_key_75 (by decide) ?_
                exact x_iret C (Nat.le_of_ble_eq_true rfl) (Nat.le_of_ble_eq_true rfl) d_KF_key_76 ⟨rfl, rfl⟩
              · refine x_iload_n C d_KF_key_62 rfl rfl ?_
                refine x_if_lt C 75 d_KF_key_63 (by decide) (fun c_63 => ?_) (fun c_63 => ?_)
                · refine x_iconst C (v := -1) d_KF_key_75 (by decide) ?_
                  exact x_iret C (Nat.le_of_ble_eq_true rfl) (Nat.le_of_ble_eq_true rfl) d_KF_key_76 ⟨rfl, rfl⟩
                · refine x_iload_n C d_KF_key_66 rfl rfl ?_
                  refine x_bipush C (v := 8) d_KF_key_67 (by decide) ?_
                  refine x_iload C d_KF_key_69 rfl ?_
                  refine x_isub C d_KF_key_71 ?_
                  refine x_icmp_le C 77 d_KF_key_72 (by decide) (fun c_72 => ?_) (fun c_72 => ?_)
                  · have k1 : sO σ = false := (bI_0 _).mp c_13
                    have k2 : (sK σ).length < 6 := (nI_ltI (by omega) (by omega)).mp (show nI (sK σ).length < nI 6 from c_20)
                    have k3 : pr = decide ((sK σ).length = 0) := by rw [decide_eq_true ((nI_eq (by omega) (by decide)).mp (show nI (sK σ).length = nI 0 from c_28))]; cases pr with | true => rfl | false => exact absurd c_36 (by decide)
                    have k4 : ¬ (pr = true ∧ db = true) := fun z => absurd (z.1.symm.trans ((bI_0 _).mp c_40)) (by decide)
                    exact absurd hb (fun h => h.elim (fun z => absurd (z.symm.trans k1) (by decide)) (fun h => h.elim (fun z => absurd k2 (by omega)) (fun h => h.elim (fun z => z k3) (fun h => h.elim k4 (fun h => h.elim c_52 (fun h => h.elim c_59 (fun h => h.elim c_63 (fun z => absurd z (Int32.not_lt.mpr c_72)))))))))
                  · refine x_iconst C (v := -1) d_KF_key_75 (by decide) ?_
                    exact x_iret C (Nat.le_of_ble_eq_true rfl) (Nat.le_of_ble_eq_true rfl) d_KF_key_76 ⟨rfl, rfl⟩
          · refine x_iload_n C d_KF_key_43 rfl rfl ?_
            refine x_if_eq C 49 d_KF_key_44 (by decide) (fun c_44 => ?_) (fun c_44 => ?_)
            · refine x_iload C d_KF_key_49 rfl ?_
              refine x_iconst C (v := 1) d_KF_key_51 (by decide) ?_
              refine x_icmp_lt C 75 d_KF_key_52 (by decide) (fun c_52 => ?_) (fun c_52 => ?_)
              · refine x_iconst C (v := -1) d_KF_key_75 (by decide) ?_
                exact x_iret C (Nat.le_of_ble_eq_true rfl) (Nat.le_of_ble_eq_true rfl) d_KF_key_76 ⟨rfl, rfl⟩
              · refine x_iload C d_KF_key_55 rfl ?_
                refine x_bipush C (v := 8) d_KF_key_57 (by decide) ?_
                refine x_icmp_gt C 75 d_KF_key_59 (by decide) (fun c_59 => ?_) (fun c_59 => ?_)
                · refine x_iconst C (v := -1) d_KF_key_75 (by decide) ?_
                  exact x_iret C (Nat.le_of_ble_eq_true rfl) (Nat.le_of_ble_eq_true rfl) d_KF_key_76 ⟨rfl, rfl⟩
                · refine x_iload_n C d_KF_key_62 rfl rfl ?_
                  refine x_if_lt C 75 d_KF_key_63 (by decide) (fun c_63 => ?_) (fun c_63 => ?_)
                  · refine x_iconst C (v := -1) d_KF_key_75 (by decide) ?_
                    exact x_iret C (Nat.le_of_ble_eq_true rfl) (Nat.le_of_ble_eq_true rfl) d_KF_key_76 ⟨rfl, rfl⟩
                  · refine x_iload_n C d_KF_key_66 rfl rfl ?_
                    refine x_bipush C (v := 8) d_KF_key_67 (by decide) ?_
                    refine x_iload C d_KF_key_69 rfl ?_
                    refine x_isub C d_KF_key_71 ?_
                    refine x_icmp_le C 77 d_KF_key_72 (by decide) (fun c_72 => ?_) (fun c_72 => ?_)
                    · have k1 : sO σ = false := (bI_0 _).mp c_13
                      have k2 : (sK σ).length < 6 := (nI_ltI (by omega) (by omega)).mp (show nI (sK σ).length < nI 6 from c_20)
                      have k3 : pr = decide ((sK σ).length = 0) := by rw [decide_eq_true ((nI_eq (by omega) (by decide)).mp (show nI (sK σ).length = nI 0 from c_28))]; cases pr with | true => rfl | false => exact absurd c_36 (by decide)
                      have k4 : ¬ (pr = true ∧ db = true) := fun z => absurd (z.2.symm.trans ((bI_0 _).mp c_44)) (by decide)
                      exact absurd hb (fun h => h.elim (fun z => absurd (z.symm.trans k1) (by decide)) (fun h => h.elim (fun z => absurd k2 (by omega)) (fun h => h.elim (fun z => z k3) (fun h => h.elim k4 (fun h => h.elim c_52 (fun h => h.elim c_59 (fun h => h.elim c_63 (fun z => absurd z (Int32.not_lt.mpr c_72)))))))))
                    · refine x_iconst C (v := -1) d_KF_key_75 (by decide) ?_
                      exact x_iret C (Nat.le_of_ble_eq_true rfl) (Nat.le_of_ble_eq_true rfl) d_KF_key_76 ⟨rfl, rfl⟩
            · refine x_iconst C (v := -1) d_KF_key_47 (by decide) ?_
              exact x_iret C (Nat.le_of_ble_eq_true rfl) (Nat.le_of_ble_eq_true rfl) d_KF_key_48 ⟨rfl, rfl⟩
    · refine x_iconst C (v := -1) d_KF_key_23 (by decide) ?_
      exact x_iret C (Nat.le_of_ble_eq_true rfl) (Nat.le_of_ble_eq_true rfl) d_KF_key_24 ⟨rfl, rfl⟩
set_option maxRecDepth 100000 in
set_option maxHeartbeats 4000000 in
theorem q_KF_key_ok (l : Launch) (E : xE) {G : xw_G} {x : Nat} {σ : CS} {lo la : Nat → Nat} {lc : Nat → List Nat} (hC : xCB E G x σ lo la lc) {pr db : Bool} {fr sz : Int32} (hb : ¬ (sO σ = true ∨ 6 ≤ (sK σ).length ∨ pr ≠ decide ((sK σ).length = 0) ∨ (pr = true ∧ db = true) ∨ sz < 1 ∨ 8 < sz ∨ fr < 0 ∨ 8 - sz < fr)) : XMk l E y_KF_key w_KF_key rm_KF_key [.ref x, .int (bI pr), .int (bI db), .int (fr), .int (sz)] G (cPost E G x (some (.int (nI (sK σ).length))) (sK σ ++ [((db, fr, sz, false, 0), [])], sV σ, sD σ, sO σ, sA σ, sW σ)) 3 375 := by
  refine XM_of [some (.ref x), some (.int (bI pr)), some (.int (bI db)), some (.int (fr)), some (.int (sz)), none] (XZ_st E) (by decide) rfl rfl rfl (Nat.le_of_ble_eq_true rfl) (fun p e s m below meth c C hnm => ?_)
  obtain ⟨hG, hL, hnn, hk, hv, hs, he⟩ := id hC
  obtain ⟨cap0, md0, ff0, hL0, -⟩ := hL.1 0 (by omega)
  obtain ⟨cap1, md1, ff1, hL1, -⟩ := hL.1 1 (by omega)
  have hl := xCS_len hC.S
  refine x_aload_n C d_KF_key_0 rfl rfl ?_
  refine x_get C hG rfl (in_KF _) 0 (by decide) (List.mem_cons_of_mem _ f_KF_10) rfl d_KF_key_1 ?_
  refine x_callV0 C (q_AL_sizeL l E (hL.1 0 (by omega))) (lk_KF_19 C.hts (Nat.le_of_ble_eq_true rfl) (Nat.le_of_ble_eq_true rfl)) hL0 rfl rfl d_KF_key_4 (Nat.le_of_ble_eq_true rfl) (Nat.le_of_ble_eq_true rfl) (Nat.le_of_ble_eq_true rfl) (fun r G' h => ?_)
  obtain ⟨rfl, rfl⟩ := h
  rw [hnn.1]
  refine x_istore C d_KF_key_7 (Nat.le_of_ble_eq_true rfl) rfl ?_
  refine x_aload_n C d_KF_key_9 rfl rfl ?_
  refine x_get C hG rfl (in_KF _) 2 (by decide) (List.mem_cons_of_mem _ f_KF_23) rfl d_KF_key_10 ?_
  refine x_if_ne C 23 d_KF_key_13 (by decide) (fun c_13 => ?_) (fun c_13 => ?_)
  · exact absurd (by first | exact Or.inr (Or.inl ((nI_leI (by omega) (by omega)).mp (show nI 6 ≤ nI (sK σ).length from Int32.not_lt.mp c_20))) | exact Or.inl (by cases hz : sO σ with | true => rfl | false => exact absurd (by rw [hz]; rfl) c_13)) hb
  · refine x_iload C d_KF_key_16 rfl ?_
    refine x_bipush C (v := 6) d_KF_key_18 (by decide) ?_
    refine x_icmp_lt C 25 d_KF_key_20 (by decide) (fun c_20 => ?_) (fun c_20 => ?_)
    · refine x_iload_n C d_KF_key_25 rfl rfl ?_
      refine x_iload C d_KF_key_26 rfl ?_
      refine x_if_ne C 35 d_KF_key_28 (by decide) (fun c_28 => ?_) (fun c_28 => ?_)
      · refine x_iconst C (v := 0) d_KF_key_35 (by decide) ?_
        refine x_icmp_ne C 47 d_KF_key_36 (by decide) (fun c_36 => ?_) (fun c_36 => ?_)
        · exact absurd (Or.inr (Or.inr (Or.inl (fun z => c_36 (by rw [z, decide_eq_false (fun z => c_28 (by rw [z]; rfl))]; rfl))))) hb
        · refine x_iload_n C d_KF_key_39 rfl rfl ?_
          refine x_if_eq C 49 d_KF_key_40 (by decide) (fun c_40 => ?_) (fun c_40 => ?_)
          · refine x_iload C d_KF_key_49 rfl ?_
            refine x_iconst C (v := 1) d_KF_key_51 (by decide) ?_
            refine x_icmp_lt C 75 d_KF_key_52 (by decide) (fun c_52 => ?_) (fun c_52 => ?_)
            · exact absurd (Or.inr (Or.inr (Or.inr (Or.inr (by first | exact Or.inr (Or.inr (Or.inr (Int32.not_le.mp c_72))) | exact Or.inr (Or.inr (Or.inl c_63)) | exact Or.inr (Or.inl c_59) | exact Or.inl c_52))))) hb
            · refine x_iload C d_KF_key_55 rfl ?_
              refine x_bipush C (v := 8) d_KF_key_57 (by decide) ?_
              refine x_icmp_gt C 75 d_KF_key_59 (by decide) (fun c_59 => ?_) (fun c_59 => ?_)
              · exact absurd (Or.inr (Or.inr (Or.inr (Or.inr (by first | exact Or.inr (Or.inr (Or.inr (Int32.not_le.mp c_72))) | exact Or.inr (Or.inr (Or.inl c_63)) | exact Or.inr (Or.inl c_59) | exact Or.inl c_52))))) hb
              · refine x_iload_n C d_KF_key_62 rfl rfl ?_
                refine x_if_lt C 75 d_KF_key_63 (by decide) (fun c_63 => ?_) (fun c_63 => ?_)
                · exact absurd (Or.inr (Or.inr (Or.inr (Or.inr (by first | exact Or.inr (Or.inr (Or.inr (Int32.not_le.mp c_72))) | exact Or.inr (Or.inr (Or.inl c_63)) | exact Or.inr (Or.inl c_59) | exact Or.inl c_52))))) hb
                · refine x_iload_n C d_KF_key_66 rfl rfl ?_
                  refine x_bipush C (v := 8) d_KF_key_67 (by decide) ?_
                  refine x_iload C d_KF_key_69 rfl ?_
                  refine x_isub C d_KF_key_71 ?_
                  refine x_icmp_le C 77 d_KF_key_72 (by decide) (fun c_72 => ?_) (fun c_72 => ?_)
                  · have k1 : sO σ = false := (bI_0 _).mp c_13
                    have k2 : (sK σ).length < 6 := (nI_ltI (by omega) (by omega)).mp (show nI (sK σ).length < nI 6 from c_20)
                    have k3 : pr = decide ((sK σ).length = 0) := by rw [decide_eq_false (fun z => c_28 (by rw [z]; rfl))]; cases pr with | false => rfl | true => exact absurd c_36 (by decide)
                    have k4 : ¬ (pr = true ∧ db = true) := fun z => absurd (z.1.symm.trans ((bI_0 _).mp c_40)) (by decide)
                    refine x_aload_n C d_KF_key_77 rfl rfl ?_
                    refine x_get C hG rfl (in_KF _) 0 (by decide) (List.mem_cons_of_mem _ f_KF_10) rfl d_KF_key_78 ?_
                    refine x_new C (ci := 2) (fs := [.int 0, .int 0, .int 0, .null, .int 0, .long 0]) rfl (in_KI _) ty_KI tok_KI (List.mem_cons_of_mem _ cl_KF_27) (List.mem_cons_of_mem _ kb_KI) (List.mem_cons_of_mem _ kz_KI) (fun j hj => by rcases (show j = 0 ∨ j = 1 ∨ j = 2 ∨ j = 3 ∨ j = 4 ∨ j = 5 by omega) with rfl | rfl | rfl | rfl | rfl | rfl <;> rfl) (Nat.le_of_ble_eq_true rfl) (Nat.le_of_ble_eq_true rfl) d_KF_key_81 (fun ki hki hBki => ?_)
                    refine x_dup C d_KF_key_84 rfl ?_
                    refine x_iload_n C d_KF_key_85 rfl rfl ?_
                    refine x_iload_n C d_KF_key_86 rfl rfl ?_
                    refine x_iload C d_KF_key_87 rfl ?_
                    refine x_callI3 C (q_KI_init l E (d0 := false) (va_up_self _ _ _)) (lk_KF_29 C.hts (Nat.le_of_ble_eq_true rfl) (Nat.le_of_ble_eq_true rfl)) rfl d_KF_key_89 (Nat.le_of_ble_eq_true rfl) (Nat.le_of_ble_eq_true rfl) (Nat.le_of_ble_eq_true rfl) (fun r G' h => ?_)
                    obtain ⟨rfl, q, hq, hBq, hne, rfl⟩ := h
                    have hq0 : G q = none := none_mod hq
                    rw [up_swap hne, bx_uu]
                    have hAk : xAL E (va_up (va_up G q (some (eAL (xaE E) 0 0))) ki (some (eKI db fr sz q false 0))) (lo 0) (la 0) (lc 0) := xAL_fresh (by rw [va_up_ne _ _ hne]; exact hki) (xAL_fresh hq0 (hL.1 0 (by omega)))
                    refine x_callV1 C (q_AL_add1 l E (G := (va_up (va_up G q (some (eAL (xaE E) 0 0))) ki (some (eKI db fr sz q false 0)))) hAk ⟨2, _, va_up_self _ _ _, Or.inr (Or.inl rfl)⟩ (fun y hy => xw_el_fresh (xw_el_fresh (xCB_kel hC y hy) hq0) (by rw [va_up_ne _ _ hne]; exact hki)) (xEm_fresh (by rw [va_up_ne _ _ hne]; exact hki) (xEm_fresh hq0 he)) (by rw [hnn.1]; omega)) (lk_KF_32 C.hts (Nat.le_of_ble_eq_true rfl) (Nat.le_of_ble_eq_true rfl)) (xw_keep (xw_keep hL0 (xw_neF hq0 hL0)) (xw_neF hki hL0)) rfl rfl d_KF_key_92 (Nat.le_of_ble_eq_true rfl) (Nat.le_of_ble_eq_true rfl) (Nat.le_of_ble_eq_true rfl) (fun r G' h => ?_)
                    obtain ⟨rfl, ar', g1, g2, g3⟩ := h
                    refine x_pop C d_KF_key_95 rfl ?_
                    refine x_iload C d_KF_key_96 rfl ?_
                    exact x_iret C (Nat.le_of_ble_eq_true rfl) (Nat.le_of_ble_eq_true rfl) d_KF_key_98 ⟨rfl, xCS_addK (kd := (db, fr, sz, false, 0)) hC hq0 hki hne g3 g2 g1, (xFm.fresh hq0).tr ((xFm.fresh (by rw [va_up_ne _ _ hne]; exact hki)).tr (xFm.fr hAk g3))⟩
                  · exact absurd (Or.inr (Or.inr (Or.inr (Or.inr (by first | exact Or.inr (Or.inr (Or.inr (Int32.not_le.mp c_72))) | exact Or.inr (Or.inr (Or.inl c_63)) | exact Or.inr (Or.inl c_59) | exact Or.inl c_52))))) hb
          · refine x_iload_n C d_KF_key_43 rfl rfl ?_
            refine x_if_eq C 49 d_KF_key_44 (by decide) (fun c_44 => ?_) (fun c_44 => ?_)
            · refine x_iload C d_KF_key_49 rfl ?_
              refine x_iconst C (v := 1) d_KF_key_51 (by decide) ?_
              refine x_icmp_lt C 75 d_KF_key_52 (by decide) (fun c_52 => ?_) (fun c_52 => ?_)
              · exact absurd (Or.inr (Or.inr (Or.inr (Or.inr (by first | exact Or.inr (Or.inr (Or.inr (Int32.not_le.mp c_72))) | exact Or.inr (Or.inr (Or.inl c_63)) | exact Or.inr (Or.inl c_59) | exact Or.inl c_52))))) hb
              · refine x_iload C d_KF_key_55 rfl ?_
                refine x_bipush C (v := 8) d_KF_key_57 (by decide) ?_
                refine x_icmp_gt C 75 d_KF_key_59 (by decide) (fun c_59 => ?_) (fun c_59 => ?_)
                · exact absurd (Or.inr (Or.inr (Or.inr (Or.inr (by first | exact Or.inr (Or.inr (Or.inr (Int32.not_le.mp c_72))) | exact Or.inr (Or.inr (Or.inl c_63)) | exact Or.inr (Or.inl c_59) | exact Or.inl c_52))))) hb
                · refine x_iload_n C d_KF_key_62 rfl rfl ?_
                  refine x_if_lt C 75 d_KF_key_63 (by decide) (fun c_63 => ?_) (fun c_63 => ?_)
                  · exact absurd (Or.inr (Or.inr (Or.inr (Or.inr (by first | exact Or.inr (Or.inr (Or.inr (Int32.not_le.mp c_72))) | exact Or.inr (Or.inr (Or.inl c_63)) | exact Or.inr (Or.inl c_59) | exact Or.inl c_52))))) hb
                  · refine x_iload_n C d_KF_key_66 rfl rfl ?_
                    refine x_bipush C (v := 8) d_KF_key_67 (by decide) ?_
                    refine x_iload C d_KF_key_69 rfl ?_
                    refine x_isub C d_KF_key_71 ?_
                    refine x_icmp_le C 77 d_KF_key_72 (by decide) (fun c_72 => ?_) (fun c_72 => ?_)
                    · have k1 : sO σ = false := (bI_0 _).mp c_13
                      have k2 : (sK σ).length < 6 := (nI_ltI (by omega) (by omega)).mp (show nI (sK σ).length < nI 6 from c_20)
                      have k3 : pr = decide ((sK σ).length = 0) := by rw [decide_eq_false (fun z => c_28 (by rw [z]; rfl))]; cases pr with | false => rfl | true => exact absurd c_36 (by decide)
                      have k4 : ¬ (pr = true ∧ db = true) := fun z => absurd (z.2.symm.trans ((bI_0 _).mp c_44)) (by decide)
                      refine x_aload_n C d_KF_key_77 rfl rfl ?_
                      refine x_get C hG rfl (in_KF _) 0 (by decide) (List.mem_cons_of_mem _ f_KF_10) rfl d_KF_key_78 ?_
                      refine x_new C (ci := 2) (fs := [.int 0, .int 0, .int 0, .null, .int 0, .long 0]) rfl (in_KI _) ty_KI tok_KI (List.mem_cons_of_mem _ cl_KF_27) (List.mem_cons_of_mem _ kb_KI) (List.mem_cons_of_mem _ kz_KI) (fun j hj => by rcases (show j = 0 ∨ j = 1 ∨ j = 2 ∨ j = 3 ∨ j = 4 ∨ j = 5 by omega) with rfl | rfl | rfl | rfl | rfl | rfl <;> rfl) (Nat.le_of_ble_eq_true rfl) (Nat.le_of_ble_eq_true rfl) d_KF_key_81 (fun ki hki hBki => ?_)
                      refine x_dup C d_KF_key_84 rfl ?_
                      refine x_iload_n C d_KF_key_85 rfl rfl ?_
                      refine x_iload_n C d_KF_key_86 rfl rfl ?_
                      refine x_iload C d_KF_key_87 rfl ?_
                      refine x_callI3 C (q_KI_init l E (d0 := false) (va_up_self _ _ _)) (lk_KF_29 C.hts (Nat.le_of_ble_eq_true rfl) (Nat.le_of_ble_eq_true rfl)) rfl d_KF_key_89 (Nat.le_of_ble_eq_true rfl) (Nat.le_of_ble_eq_true rfl) (Nat.le_of_ble_eq_true rfl) (fun r G' h => ?_)
                      obtain ⟨rfl, q, hq, hBq, hne, rfl⟩ := h
                      have hq0 : G q = none := none_mod hq
                      rw [up_swap hne, bx_uu]
                      have hAk : xAL E (va_up (va_up G q (some (eAL (xaE E) 0 0))) ki (some (eKI db fr sz q false 0))) (lo 0) (la 0) (lc 0) := xAL_fresh (by rw [va_up_ne _ _ hne]; exact hki) (xAL_fresh hq0 (hL.1 0 (by omega)))
                      refine x_callV1 C (q_AL_add1 l E (G := (va_up (va_up G q (some (eAL (xaE E) 0 0))) ki (some (eKI db fr sz q false 0)))) hAk ⟨2, _, va_up_self _ _ _, Or.inr (Or.inl rfl)⟩ (fun y hy => xw_el_fresh (xw_el_fresh (xCB_kel hC y hy) hq0) (by rw [va_up_ne _ _ hne]; exact hki)) (xEm_fresh (by rw [va_up_ne _ _ hne]; exact hki) (xEm_fresh hq0 he)) (by rw [hnn.1]; omega)) (lk_KF_32 C.hts (Nat.le_of_ble_eq_true rfl) (Nat.le_of_ble_eq_true rfl)) (xw_keep (xw_keep hL0 (xw_neF hq0 hL0)) (xw_neF hki hL0)) rfl rfl d_KF_key_92 (Nat.le_of_ble_eq_true rfl) (Nat.le_of_ble_eq_true rfl) (Nat.le_of_ble_eq_true rfl) (fun r G' h => ?_)
                      obtain ⟨rfl, ar', g1, g2, g3⟩ := h
                      refine x_pop C d_KF_key_95 rfl ?_
                      refine x_iload C d_KF_key_96 rfl ?_
                      exact x_iret C (Nat.le_of_ble_eq_true rfl) (Nat.le_of_ble_eq_true rfl) d_KF_key_98 ⟨rfl, xCS_addK (kd := (db, fr, sz, false, 0)) hC hq0 hki hne g3 g2 g1, (xFm.fresh hq0).tr ((xFm.fresh (by rw [va_up_ne _ _ hne]; exact hki)).tr (xFm.fr hAk g3))⟩
                    · exact absurd (Or.inr (Or.inr (Or.inr (Or.inr (by first | exact Or.inr (Or.inr (Or.inr (Int32.not_le.mp c_72))) | exact Or.inr (Or.inr (Or.inl c_63)) | exact Or.inr (Or.inl c_59) | exact Or.inl c_52))))) hb
            · exact absurd (Or.inr (Or.inr (Or.inr (Or.inl ⟨by cases pr with | true => rfl | false => exact absurd rfl c_40, by cases db with | true => rfl | false => exact absurd rfl c_44⟩)))) hb
      · refine x_iconst C (v := 1) d_KF_key_31 (by decide) ?_
        refine x_goto C 36 d_KF_key_32 (by decide) ?_
        refine x_icmp_ne C 47 d_KF_key_36 (by decide) (fun c_36 => ?_) (fun c_36 => ?_)
        · exact absurd (Or.inr (Or.inr (Or.inl (fun z => c_36 (by rw [z, decide_eq_true ((nI_eq (by omega) (by decide)).mp (show nI (sK σ).length = nI 0 from c_28))]; rfl))))) hb
        · refine x_iload_n C d_KF_key_39 rfl rfl ?_
          refine x_if_eq C 49 d_KF_key_40 (by decide) (fun c_40 => ?_) (fun c_40 => ?_)
          · refine x_iload C d_KF_key_49 rfl ?_
            refine x_iconst C (v := 1) d_KF_key_51 (by decide) ?_
            refine x_icmp_lt C 75 d_KF_key_52 (by decide) (fun c_52 => ?_) (fun c_52 => ?_)
            · exact absurd (Or.inr (Or.inr (Or.inr (Or.inr (by first | exact Or.inr (Or.inr (Or.inr (Int32.not_le.mp c_72))) | exact Or.inr (Or.inr (Or.inl c_63)) | exact Or.inr (Or.inl c_59) | exact Or.inl c_52))))) hb
            · refine x_iload C d_KF_key_55 rfl ?_
              refine x_bipush C (v := 8) d_KF_key_57 (by decide) ?_
              refine x_icmp_gt C 75 d_KF_key_59 (by decide) (fun c_59 => ?_) (fun c_59 => ?_)
              · exact absurd (Or.inr (Or.inr (Or.inr (Or.inr (by first | exact Or.inr (Or.inr (Or.inr (Int32.not_le.mp c_72))) | exact Or.inr (Or.inr (Or.inl c_63)) | exact Or.inr (Or.inl c_59) | exact Or.inl c_52))))) hb
              · refine x_iload_n C d_KF_key_62 rfl rfl ?_
                refine x_if_lt C 75 d_KF_key_63 (by decide) (fun c_63 => ?_) (fun c_63 => ?_)
                · exact absurd (Or.inr (Or.inr (Or.inr (Or.inr (by first | exact Or.inr (Or.inr (Or.inr (Int32.not_le.mp c_72))) | exact Or.inr (Or.inr (Or.inl c_63)) | exact Or.inr (Or.inl c_59) | exact Or.inl c_52))))) hb
                · refine x_iload_n C d_KF_key_66 rfl rfl ?_
                  refine x_bipush C (v := 8) d_KF_key_67 (by decide) ?_
                  refine x_iload C d_KF_key_69 rfl ?_
                  refine x_isub C d_KF_key_71 ?_
                  refine x_icmp_le C 77 d_KF_key_72 (by decide) (fun c_72 => ?_) (fun c_72 => ?_)
                  · have k1 : sO σ = false := (bI_0 _).mp c_13
                    have k2 : (sK σ).length < 6 := (nI_ltI (by omega) (by omega)).mp (show nI (sK σ).length < nI 6 from c_20)
                    have k3 : pr = decide ((sK σ).length = 0) := by rw [decide_eq_true ((nI_eq (by omega) (by decide)).mp (show nI (sK σ).length = nI 0 from c_28))]; cases pr with | true => rfl | false => exact absurd c_36 (by decide)
                    have k4 : ¬ (pr = true ∧ db = true) := fun z => absurd (z.1.symm.trans ((bI_0 _).mp c_40)) (by decide)
                    refine x_aload_n C d_KF_key_77 rfl rfl ?_
                    refine x_get C hG rfl (in_KF _) 0 (by decide) (List.mem_cons_of_mem _ f_KF_10) rfl d_KF_key_78 ?_
                    refine x_new C (ci := 2) (fs := [.int 0, .int 0, .int 0, .null, .int 0, .long 0]) rfl (in_KI _) ty_KI tok_KI (List.mem_cons_of_mem _ cl_KF_27) (List.mem_cons_of_mem _ kb_KI) (List.mem_cons_of_mem _ kz_KI) (fun j hj => by rcases (show j = 0 ∨ j = 1 ∨ j = 2 ∨ j = 3 ∨ j = 4 ∨ j = 5 by omega) with rfl | rfl | rfl | rfl | rfl | rfl <;> rfl) (Nat.le_of_ble_eq_true rfl) (Nat.le_of_ble_eq_true rfl) d_KF_key_81 (fun ki hki hBki => ?_)
                    refine x_dup C d_KF_key_84 rfl ?_
                    refine x_iload_n C d_KF_key_85 rfl rfl ?_
                    refine x_iload_n C d_KF_key_86 rfl rfl ?_
                    refine x_iload C d_KF_key_87 rfl ?_
                    refine x_callI3 C (q_KI_init l E (d0 := false) (va_up_self _ _ _)) (lk_KF_29 C.hts (Nat.le_of_ble_eq_true rfl) (Nat.le_of_ble_eq_true rfl)) rfl d_KF_key_89 (Nat.le_of_ble_eq_true rfl) (Nat.le_of_ble_eq_true rfl) (Nat.le_of_ble_eq_true rfl) (fun r G' h => ?_)
                    obtain ⟨rfl, q, hq, hBq, hne, rfl⟩ := h
                    have hq0 : G q = none := none_mod hq
                    rw [up_swap hne, bx_uu]
                    have hAk : xAL E (va_up (va_up G q (some (eAL (xaE E) 0 0))) ki (some (eKI db fr sz q false 0))) (lo 0) (la 0) (lc 0) := xAL_fresh (by rw [va_up_ne _ _ hne]; exact hki) (xAL_fresh hq0 (hL.1 0 (by omega)))
                    refine x_callV1 C (q_AL_add1 l E (G := (va_up (va_up G q (some (eAL (xaE E) 0 0))) ki (some (eKI db fr sz q false 0)))) hAk ⟨2, _, va_up_self _ _ _, Or.inr (Or.inl rfl)⟩ (fun y hy => xw_el_fresh (xw_el_fresh (xCB_kel hC y hy) hq0) (by rw [va_up_ne _ _ hne]; exact hki)) (xEm_fresh (by rw [va_up_ne _ _ hne]; exact hki) (xEm_fresh hq0 he)) (by rw [hnn.1]; omega)) (lk_KF_32 C.hts (Nat.le_of_ble_eq_true rfl) (Nat.le_of_ble_eq_true rfl)) (xw_keep (xw_keep hL0 (xw_neF hq0 hL0)) (xw_neF hki hL0)) rfl rfl d_KF_key_92 (Nat.le_of_ble_eq_true rfl) (Nat.le_of_ble_eq_true rfl) (Nat.le_of_ble_eq_true rfl) (fun r G' h => ?_)
                    obtain ⟨rfl, ar', g1, g2, g3⟩ := h
                    refine x_pop C d_KF_key_95 rfl ?_
                    refine x_iload C d_KF_key_96 rfl ?_
                    exact x_iret C (Nat.le_of_ble_eq_true rfl) (Nat.le_of_ble_eq_true rfl) d_KF_key_98 ⟨rfl, xCS_addK (kd := (db, fr, sz, false, 0)) hC hq0 hki hne g3 g2 g1, (xFm.fresh hq0).tr ((xFm.fresh (by rw [va_up_ne _ _ hne]; exact hki)).tr (xFm.fr hAk g3))⟩
                  · exact absurd (Or.inr (Or.inr (Or.inr (Or.inr (by first | exact Or.inr (Or.inr (Or.inr (Int32.not_le.mp c_72))) | exact Or.inr (Or.inr (Or.inl c_63)) | exact Or.inr (Or.inl c_59) | exact Or.inl c_52))))) hb
          · refine x_iload_n C d_KF_key_43 rfl rfl ?_
            refine x_if_eq C 49 d_KF_key_44 (by decide) (fun c_44 => ?_) (fun c_44 => ?_)
            · refine x_iload C d_KF_key_49 rfl ?_
              refine x_iconst C (v := 1) d_KF_key_51 (by decide) ?_
              refine x_icmp_lt C 75 d_KF_key_52 (by decide) (fun c_52 => ?_) (fun c_52 => ?_)
              · exact absurd (Or.inr (Or.inr (Or.inr (Or.inr (by first | exact Or.inr (Or.inr (Or.inr (Int32.not_le.mp c_72))) | exact Or.inr (Or.inr (Or.inl c_63)) | exact Or.inr (Or.inl c_59) | exact Or.inl c_52))))) hb
              · refine x_iload C d_KF_key_55 rfl ?_
                refine x_bipush C (v := 8) d_KF_key_57 (by decide) ?_
                refine x_icmp_gt C 75 d_KF_key_59 (by decide) (fun c_59 => ?_) (fun c_59 => ?_)
                · exact absurd (Or.inr (Or.inr (Or.inr (Or.inr (by first | exact Or.inr (Or.inr (Or.inr (Int32.not_le.mp c_72))) | exact Or.inr (Or.inr (Or.inl c_63)) | exact Or.inr (Or.inl c_59) | exact Or.inl c_52))))) hb
                · refine x_iload_n C d_KF_key_62 rfl rfl ?_
                  refine x_if_lt C 75 d_KF_key_63 (by decide) (fun c_63 => ?_) (fun c_63 => ?_)
                  · exact absurd (Or.inr (Or.inr (Or.inr (Or.inr (by first | exact Or.inr (Or.inr (Or.inr (Int32.not_le.mp c_72))) | exact Or.inr (Or.inr (Or.inl c_63)) | exact Or.inr (Or.inl c_59) | exact Or.inl c_52))))) hb
                  · refine x_iload_n C d_KF_key_66 rfl rfl ?_
                    refine x_bipush C (v := 8) d_KF_key_67 (by decide) ?_
                    refine x_iload C d_KF_key_69 rfl ?_
                    refine x_isub C d_KF_key_71 ?_
                    refine x_icmp_le C 77 d_KF_key_72 (by decide) (fun c_72 => ?_) (fun c_72 => ?_)
                    · have k1 : sO σ = false := (bI_0 _).mp c_13
                      have k2 : (sK σ).length < 6 := (nI_ltI (by omega) (by omega)).mp (show nI (sK σ).length < nI 6 from c_20)
                      have k3 : pr = decide ((sK σ).length = 0) := by rw [decide_eq_true ((nI_eq (by omega) (by decide)).mp (show nI (sK σ).length = nI 0 from c_28))]; cases pr with | true => rfl | false => exact absurd c_36 (by decide)
                      have k4 : ¬ (pr = true ∧ db = true) := fun z => absurd (z.2.symm.trans ((bI_0 _).mp c_44)) (by decide)
                      refine x_aload_n C d_KF_key_77 rfl rfl ?_
                      refine x_get C hG rfl (in_KF _) 0 (by decide) (List.mem_cons_of_mem _ f_KF_10) rfl d_KF_key_78 ?_
                      refine x_new C (ci := 2) (fs := [.int 0, .int 0, .int 0, .null, .int 0, .long 0]) rfl (in_KI _) ty_KI tok_KI (List.mem_cons_of_mem _ cl_KF_27) (List.mem_cons_of_mem _ kb_KI) (List.mem_cons_of_mem _ kz_KI) (fun j hj => by rcases (show j = 0 ∨ j = 1 ∨ j = 2 ∨ j = 3 ∨ j = 4 ∨ j = 5 by omega) with rfl | rfl | rfl | rfl | rfl | rfl <;> rfl) (Nat.le_of_ble_eq_true rfl) (Nat.le_of_ble_eq_true rfl) d_KF_key_81 (fun ki hki hBki => ?_)
                      refine x_dup C d_KF_key_84 rfl ?_
                      refine x_iload_n C d_KF_key_85 rfl rfl ?_
                      refine x_iload_n C d_KF_key_86 rfl rfl ?_
                      refine x_iload C d_KF_key_87 rfl ?_
                      refine x_callI3 C (q_KI_init l E (d0 := false) (va_up_self _ _ _)) (lk_KF_29 C.hts (Nat.le_of_ble_eq_true rfl) (Nat.le_of_ble_eq_true rfl)) rfl d_KF_key_89 (Nat.le_of_ble_eq_true rfl) (Nat.le_of_ble_eq_true rfl) (Nat.le_of_ble_eq_true rfl) (fun r G' h => ?_)
                      obtain ⟨rfl, q, hq, hBq, hne, rfl⟩ := h
                      have hq0 : G q = none := none_mod hq
                      rw [up_swap hne, bx_uu]
                      have hAk : xAL E (va_up (va_up G q (some (eAL (xaE E) 0 0))) ki (some (eKI db fr sz q false 0))) (lo 0) (la 0) (lc 0) := xAL_fresh (by rw [va_up_ne _ _ hne]; exact hki) (xAL_fresh hq0 (hL.1 0 (by omega)))
                      refine x_callV1 C (q_AL_add1 l E (G := (va_up (va_up G q (some (eAL (xaE E) 0 0))) ki (some (eKI db fr sz q false 0)))) hAk ⟨2, _, va_up_self _ _ _, Or.inr (Or.inl rfl)⟩ (fun y hy => xw_el_fresh (xw_el_fresh (xCB_kel hC y hy) hq0) (by rw [va_up_ne _ _ hne]; exact hki)) (xEm_fresh (by rw [va_up_ne _ _ hne]; exact hki) (xEm_fresh hq0 he)) (by rw [hnn.1]; omega)) (lk_KF_32 C.hts (Nat.le_of_ble_eq_true rfl) (Nat.le_of_ble_eq_true rfl)) (xw_keep (xw_keep hL0 (xw_neF hq0 hL0)) (xw_neF hki hL0)) rfl rfl d_KF_key_92 (Nat.le_of_ble_eq_true rfl) (Nat.le_of_ble_eq_true rfl) (Nat.le_of_ble_eq_true rfl) (fun r G' h => ?_)
                      obtain ⟨rfl, ar', g1, g2, g3⟩ := h
                      refine x_pop C d_KF_key_95 rfl ?_
                      refine x_iload C d_KF_key_96 rfl ?_
                      exact x_iret C (Nat.le_of_ble_eq_true rfl) (Nat.le_of_ble_eq_true rfl) d_KF_key_98 ⟨rfl, xCS_addK (kd := (db, fr, sz, false, 0)) hC hq0 hki hne g3 g2 g1, (xFm.fresh hq0).tr ((xFm.fresh (by rw [va_up_ne _ _ hne]; exact hki)).tr (xFm.fr hAk g3))⟩
                    · exact absurd (Or.inr (Or.inr (Or.inr (Or.inr (by first | exact Or.inr (Or.inr (Or.inr (Int32.not_le.mp c_72))) | exact Or.inr (Or.inr (Or.inl c_63)) | exact Or.inr (Or.inl c_59) | exact Or.inl c_52))))) hb
            · exact absurd (Or.inr (Or.inr (Or.inr (Or.inl ⟨by cases pr with | true => rfl | false => exact absurd rfl c_40, by cases db with | true => rfl | false => exact absurd rfl c_44⟩)))) hb
    · exact absurd (by first | exact Or.inr (Or.inl ((nI_leI (by omega) (by omega)).mp (show nI 6 ≤ nI (sK σ).length from Int32.not_lt.mp c_20))) | exact Or.inl (by cases hz : sO σ with | true => rfl | false => exact absurd (by rw [hz]; rfl) c_13)) hb
