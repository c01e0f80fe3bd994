def vWrote (v : VD) (f : Int64) : VD := (v.1, v.2.1, v.2.2.1, v.2.2.2.1, v.2.2.2.2.1, v.2.2.2.2.2.1, v.2.2.2.2.2.2.1, v.2.2.2.2.2.2.2.1, v.2.2.2.2.2.2.2.2.1, v.2.2.2.2.2.2.2.2.2.1, true, f)
theorem q_VW_wrote (l : Launch) (E : xE) {G : xw_G} {h0 : Nat} {v : VD} {f : Int64} (hV : G h0 = some (cVW v)) : XMk l E y_VW_noteWritten w_VW_noteWritten rm_VW_noteWritten [.ref h0, .long f] G (fun r G' => r = none ∧ G' = va_up G h0 (some (cVW (vWrote v f)))) 0 0 := q_VW_noteWritten l E hV
set_option maxRecDepth 100000 in
set_option maxHeartbeats 4000000 in
theorem q_KF_write_nv (l : Launch) (E : xE) {G : xw_G} {x : Nat} {σ : CS} {lo la : Nat → Nat} {lc : Nat → List Nat} (hC : xCB E G x σ lo la lc) {j : Int32} (hj : j < 0 ∨ nI (lc 1).length ≤ j) {b1 : Int64} : XMk l E y_KF_write w_KF_write rm_KF_write [.ref x, .int (j), .long (b1)] G (fun r G' => r = some (.int (-1)) ∧ G = G') 13 2217 := by
  refine XM_of [some (.ref x), some (.int (j)), some (.long (b1)), none, none, none] (XZ_st E) (by decide) rfl rfl rfl (Nat.le_of_ble_eq_true rfl) (fun p e s m below meth c C hnm => ?_)
  obtain ⟨hG, hL, hnn, hk, hv, hs, he⟩ := id hC
  refine x_aload_n C d_KF_write_0 rfl rfl ?_
  refine x_iload_n C d_KF_write_1 rfl rfl ?_
  refine x_callV1 C (q_KF_viewAt_out l E hG (hL.1 1 (by omega)) hj) (lk_KF_51 C.hts (Nat.le_of_ble_eq_true rfl) (Nat.le_of_ble_eq_true rfl)) hG rfl rfl d_KF_write_2 (Nat.le_of_ble_eq_true rfl) (Nat.le_of_ble_eq_true rfl) (Nat.le_of_ble_eq_true rfl) (fun r G' h => ?_)
  obtain ⟨rfl, rfl⟩ := h
  refine x_astoreN C d_KF_write_5 (Nat.le_of_ble_eq_true rfl) rfl ?_
  refine x_aloadN C d_KF_write_7 rfl ?_
  refine x_ifnonnullN C d_KF_write_9 ?_
  refine x_iconst C (v := -1) d_KF_write_12 (by decide) ?_
  exact x_iret C (Nat.le_of_ble_eq_true rfl) (Nat.le_of_ble_eq_true rfl) d_KF_write_13 ⟨rfl, rfl⟩
set_option maxRecDepth 100000 in
set_option maxHeartbeats 4000000 in
theorem q_KF_write_ref (l : Launch) (E : xE) {G : xw_G} {x : Nat} {σ : CS} {lo la : Nat → Nat} {lc : Nat → List Nat} (hC : xCB E G x σ lo la lc) {i va : Nat} {v : VD} (hi : (lc 1)[i]? = some va) (hV : G va = some (cVW v)) {b1 : Int64} (hr : ¬ refWrite v.1 v.2.1 v.2.2.1 = 0) : XMk l E y_KF_write w_KF_write rm_KF_write [.ref x, .int (nI i), .long (b1)] G (fun r G' => r = some (.int (refWrite v.1 v.2.1 v.2.2.1)) ∧ G = G') 13 2217 := by
  refine XM_of [some (.ref x), some (.int (nI i)), some (.long (b1)), none, none, none] (XZ_st E) (by decide) rfl rfl rfl (Nat.le_of_ble_eq_true rfl) (fun p e s m below meth c C hnm => ?_)
  obtain ⟨hG, hL, hnn, hk, hv, hs, he⟩ := id hC
  refine x_aload_n C d_KF_write_0 rfl rfl ?_
  refine x_iload_n C d_KF_write_1 rfl rfl ?_
  refine x_callV1 C (q_KF_viewAt_in l E hG (hL.1 1 (by omega)) hi hV) (lk_KF_51 C.hts (Nat.le_of_ble_eq_true rfl) (Nat.le_of_ble_eq_true rfl)) hG rfl rfl d_KF_write_2 (Nat.le_of_ble_eq_true rfl) (Nat.le_of_ble_eq_true rfl) (Nat.le_of_ble_eq_true rfl) (fun r G' h => ?_)
  obtain ⟨rfl, rfl⟩ := h
  refine x_astore C d_KF_write_5 (Nat.le_of_ble_eq_true rfl) rfl ?_
  refine x_aload C d_KF_write_7 rfl ?_
  refine x_ifnonnull C 14 d_KF_write_9 (by decide) ?_
  refine x_aload C d_KF_write_14 rfl ?_
  refine x_callV0 C (q_VW_refusalToWrite l E hV) (lk_KF_68 C.hts (Nat.le_of_ble_eq_true rfl) (Nat.le_of_ble_eq_true rfl)) hV rfl rfl d_KF_write_16 (Nat.le_of_ble_eq_true rfl) (Nat.le_of_ble_eq_true rfl) (Nat.le_of_ble_eq_true rfl) (fun r G' h => ?_)
  obtain ⟨rfl, rfl⟩ := h
  refine x_istore C d_KF_write_19 (Nat.le_of_ble_eq_true rfl) rfl ?_
  refine x_iload C d_KF_write_21 rfl ?_
  refine x_if_eq C 29 d_KF_write_23 (by decide) (fun c_23 => ?_) (fun c_23 => ?_)
  · exact absurd c_23 hr
  · refine x_iload C d_KF_write_26 rfl ?_
    exact x_iret C (Nat.le_of_ble_eq_true rfl) (Nat.le_of_ble_eq_true rfl) d_KF_write_28 ⟨rfl, rfl⟩
set_option maxRecDepth 100000 in
set_option maxHeartbeats 4000000 in
theorem q_KF_write_21 (l : Launch) (E : xE) {G : xw_G} {x : Nat} {σ : CS} {lo la : Nat → Nat} {lc : Nat → List Nat} (hC : xCB E G x σ lo la lc) {i va : Nat} {v : VD} (hi : (lc 1)[i]? = some va) (hV : G va = some (cVW v)) {q : KD × List E3} (hq : (sK σ)[0]? = some q) {b1 : Int64} (hr : refWrite v.1 v.2.1 v.2.2.1 = 0) (ha : v.2.2.1 = 0) (hoo : ooB (v.2.2.2.2.2.2.2.2.2.2.1) (v.2.2.2.2.2.2.2.2.2.2.2) (fK q.1 b1) (v.2.1) q.2 = true) : XMk l E y_KF_write w_KF_write rm_KF_write [.ref x, .int (nI i), .long (b1)] G (cPost E G x (some (.int 21)) (σ.vw i (vForget v))) 13 2217 := by
  refine XM_of [some (.ref x), some (.int (nI i)), some (.long (b1)), none, none, none] (XZ_st E) (by decide) rfl rfl rfl (Nat.le_of_ble_eq_true rfl) (fun p e s m below meth c C hnm => ?_)
  obtain ⟨hG, hL, hnn, hk, hv, hs, he⟩ := id hC
  refine x_aload_n C d_KF_write_0 rfl rfl ?_
  refine x_iload_n C d_KF_write_1 rfl rfl ?_
  refine x_callV1 C (q_KF_viewAt_in l E hG (hL.1 1 (by omega)) hi hV) (lk_KF_51 C.hts (Nat.le_of_ble_eq_true rfl) (Nat.le_of_ble_eq_true rfl)) hG rfl rfl d_KF_write_2 (Nat.le_of_ble_eq_true rfl) (Nat.le_of_ble_eq_true rfl) (Nat.le_of_ble_eq_true rfl) (fun r G' h => ?_)
  obtain ⟨rfl, rfl⟩ := h
  refine x_astore C d_KF_write_5 (Nat.le_of_ble_eq_true rfl) rfl ?_
  refine x_aload C d_KF_write_7 rfl ?_
  refine x_ifnonnull C 14 d_KF_write_9 (by decide) ?_
  refine x_aload C d_KF_write_14 rfl ?_
  refine x_callV0 C (q_VW_refusalToWrite l E hV) (lk_KF_68 C.hts (Nat.le_of_ble_eq_true rfl) (Nat.le_of_ble_eq_true rfl)) hV rfl rfl d_KF_write_16 (Nat.le_of_ble_eq_true rfl) (Nat.le_of_ble_eq_true rfl) (Nat.le_of_ble_eq_true rfl) (fun r G' h => ?_)
  obtain ⟨rfl, rfl⟩ := h
  refine x_istore C d_KF_write_19 (Nat.le_of_ble_eq_true rfl) rfl ?_
  refine x_iload C d_KF_write_21 rfl ?_
  refine x_if_eq C 29 d_KF_write_23 (by decide) (fun c_23 => ?_) (fun c_23 => ?_)
  · refine x_aload C d_KF_write_29 rfl ?_
    refine x_callV0 C (q_VW_forget l E hV) (lk_KF_65 C.hts (Nat.le_of_ble_eq_true rfl) (Nat.le_of_ble_eq_true rfl)) hV rfl rfl d_KF_write_31 (Nat.le_of_ble_eq_true rfl) (Nat.le_of_ble_eq_true rfl) (Nat.le_of_ble_eq_true rfl) (fun r G' h => ?_)
    obtain ⟨rfl, rfl⟩ := h
    have hC1 := xCB_vw (v' := vForget v) hC hi hV
    obtain ⟨hG1, hL1, hn1, hk1, hv1, hs1, he1⟩ := id hC1
    have hF1 : xFm G (va_up G va (some (cVW (vForget v)))) := xFm.up hV (by decide)
    obtain ⟨⟨ki, hki, hK1⟩, hX1⟩ := hk1 0 q hq
    have hl0 := (List.getElem?_eq_some_iff.mp hq).1
    refine x_aload C d_KF_write_34 rfl ?_
    refine x_get C (va_up_self _ _ _) rfl (in_VW _) 2 (by decide) (List.mem_cons_of_mem _ f_KF_71) rfl d_KF_write_36 ?_
    refine x_if_ne C 55 d_KF_write_39 (by decide) (fun c_39 => ?_) (fun c_39 => ?_)
    · exact absurd ha c_39
    · refine x_aload_n C d_KF_write_42 rfl rfl ?_
      refine x_aload C d_KF_write_43 rfl ?_
      refine x_lload_n C d_KF_write_45 rfl rfl ?_
      refine x_callV2 C (q_KF_isOutOfOrder l E (v := vForget v) hC1 (va_up_self _ _ _) hq hki hK1) (lk_KF_75 C.hts (Nat.le_of_ble_eq_true rfl) (Nat.le_of_ble_eq_true rfl)) hG1 rfl rfl d_KF_write_46 (Nat.le_of_ble_eq_true rfl) (Nat.le_of_ble_eq_true rfl) (Nat.le_of_ble_eq_true rfl) (fun r G' h => ?_)
      obtain ⟨rfl, rfl⟩ := h
      refine x_if_eq C 55 d_KF_write_49 (by decide) (fun c_49 => ?_) (fun c_49 => ?_)
      · exact absurd (hoo.symm.trans ((bI_0 _).mp c_49)) (by decide)
      · refine x_bipush C (v := 21) d_KF_write_52 (by decide) ?_
        exact x_iret C (Nat.le_of_ble_eq_true rfl) (Nat.le_of_ble_eq_true rfl) d_KF_write_54 ⟨rfl, hC1.S, hF1⟩
  · exact absurd hr c_23
set_option maxRecDepth 100000 in
set_option maxHeartbeats 4000000 in
theorem q_KF_write_22 (l : Launch) (E : xE) {G : xw_G} {x : Nat} {σ : CS} {lo la : Nat → Nat} {lc : Nat → List Nat} (hC : xCB E G x σ lo la lc) {i va : Nat} {v : VD} (hi : (lc 1)[i]? = some va) (hV : G va = some (cVW v)) {q : KD × List E3} (hq : (sK σ)[0]? = some q) {b1 : Int64} (hr : refWrite v.1 v.2.1 v.2.2.1 = 0) (hoo : ¬ (v.2.2.1 = 0 ∧ ooB (v.2.2.2.2.2.2.2.2.2.2.1) (v.2.2.2.2.2.2.2.2.2.2.2) (fK q.1 b1) (v.2.1) q.2 = true)) (hsr : ∀ (i : Nat) (q : KD × List E3), (sK σ)[i]? = some q → srt q.2) (hba : (sK σ).any (barK b1 none) = true) : XMk l E y_KF_write w_KF_write rm_KF_write [.ref x, .int (nI i), .long (b1)] G (cPost E G x (some (.int 22)) (σ.vw i (vForget v))) 13 2217 := by
  refine XM_of [some (.ref x), some (.int (nI i)), some (.long (b1)), none, none, none] (XZ_st E) (by decide) rfl rfl rfl (Nat.le_of_ble_eq_true rfl) (fun p e s m below meth c C hnm => ?_)
  obtain ⟨hG, hL, hnn, hk, hv, hs, he⟩ := id hC
  refine x_aload_n C d_KF_write_0 rfl rfl ?_
  refine x_iload_n C d_KF_write_1 rfl rfl ?_
  refine x_callV1 C (q_KF_viewAt_in l E hG (hL.1 1 (by omega)) hi hV) (lk_KF_51 C.hts (Nat.le_of_ble_eq_true rfl) (Nat.le_of_ble_eq_true rfl)) hG rfl rfl d_KF_write_2 (Nat.le_of_ble_eq_true rfl) (Nat.le_of_ble_eq_true rfl) (Nat.le_of_ble_eq_true rfl) (fun r G' h => ?_)
  obtain ⟨rfl, rfl⟩ := h
  refine x_astore C d_KF_write_5 (Nat.le_of_ble_eq_true rfl) rfl ?_
  refine x_aload C d_KF_write_7 rfl ?_
  refine x_ifnonnull C 14 d_KF_write_9 (by decide) ?_
  refine x_aload C d_KF_write_14 rfl ?_
  refine x_callV0 C (q_VW_refusalToWrite l E hV) (lk_KF_68 C.hts (Nat.le_of_ble_eq_true rfl) (Nat.le_of_ble_eq_true rfl)) hV rfl rfl d_KF_write_16 (Nat.le_of_ble_eq_true rfl) (Nat.le_of_ble_eq_true rfl) (Nat.le_of_ble_eq_true rfl) (fun r G' h => ?_)
  obtain ⟨rfl, rfl⟩ := h
  refine x_istore C d_KF_write_19 (Nat.le_of_ble_eq_true rfl) rfl ?_
  refine x_iload C d_KF_write_21 rfl ?_
  refine x_if_eq C 29 d_KF_write_23 (by decide) (fun c_23 => ?_) (fun c_23 => ?_)
  · refine x_aload C d_KF_write_29 rfl ?_
    refine x_callV0 C (q_VW_forget l E hV) (lk_KF_65 C.hts (Nat.le_of_ble_eq_true rfl) (Nat.le_of_ble_eq_true rfl)) hV rfl rfl d_KF_write_31 (Nat.le_of_ble_eq_true rfl) (Nat.le_of_ble_eq_true rfl) (Nat.le_of_ble_eq_true rfl) (fun r G' h => ?_)
    obtain ⟨rfl, rfl⟩ := h
    have hC1 := xCB_vw (v' := vForget v) hC hi hV
    obtain ⟨hG1, hL1, hn1, hk1, hv1, hs1, he1⟩ := id hC1
    have hF1 : xFm G (va_up G va (some (cVW (vForget v)))) := xFm.up hV (by decide)
    obtain ⟨⟨ki, hki, hK1⟩, hX1⟩ := hk1 0 q hq
    have hl0 := (List.getElem?_eq_some_iff.mp hq).1
    refine x_aload C d_KF_write_34 rfl ?_
    refine x_get C (va_up_self _ _ _) rfl (in_VW _) 2 (by decide) (List.mem_cons_of_mem _ f_KF_71) rfl d_KF_write_36 ?_
    refine x_if_ne C 55 d_KF_write_39 (by decide) (fun c_39 => ?_) (fun c_39 => ?_)
    · refine x_aload_n C d_KF_write_55 rfl rfl ?_
      refine x_lload_n C d_KF_write_56 rfl rfl ?_
      refine x_null C d_KF_write_57 ?_
      refine x_callV2 C (q_KF_barred_n l E (σ := σ.vw i (vForget v)) hC1.S hsr) (lk_KF_79 C.hts (Nat.le_of_ble_eq_true rfl) (Nat.le_of_ble_eq_true rfl)) hG1 rfl rfl d_KF_write_58 (Nat.le_of_ble_eq_true rfl) (Nat.le_of_ble_eq_true rfl) (Nat.le_of_ble_eq_true rfl) (fun r G' h => ?_)
      obtain ⟨rfl, rfl⟩ := h
      refine x_if_eq C 67 d_KF_write_61 (by decide) (fun c_61 => ?_) (fun c_61 => ?_)
      · exact absurd (hba.symm.trans ((bI_0 _).mp c_61)) (by decide)
      · refine x_bipush C (v := 22) d_KF_write_64 (by decide) ?_
        exact x_iret C (Nat.le_of_ble_eq_true rfl) (Nat.le_of_ble_eq_true rfl) d_KF_write_66 ⟨rfl, hC1.S, hF1⟩
    · refine x_aload_n C d_KF_write_42 rfl rfl ?_
      refine x_aload C d_KF_write_43 rfl ?_
      refine x_lload_n C d_KF_write_45 rfl rfl ?_
      refine x_callV2 C (q_KF_isOutOfOrder l E (v := vForget v) hC1 (va_up_self _ _ _) hq hki hK1) (lk_KF_75 C.hts (Nat.le_of_ble_eq_true rfl) (Nat.le_of_ble_eq_true rfl)) hG1 rfl rfl d_KF_write_46 (Nat.le_of_ble_eq_true rfl) (Nat.le_of_ble_eq_true rfl) (Nat.le_of_ble_eq_true rfl) (fun r G' h => ?_)
      obtain ⟨rfl, rfl⟩ := h
      refine x_if_eq C 55 d_KF_write_49 (by decide) (fun c_49 => ?_) (fun c_49 => ?_)
      · refine x_aload_n C d_KF_write_55 rfl rfl ?_
        refine x_lload_n C d_KF_write_56 rfl rfl ?_
        refine x_null C d_KF_write_57 ?_
        refine x_callV2 C (q_KF_barred_n l E (σ := σ.vw i (vForget v)) hC1.S hsr) (lk_KF_79 C.hts (Nat.le_of_ble_eq_true rfl) (Nat.le_of_ble_eq_true rfl)) hG1 rfl rfl d_KF_write_58 (Nat.le_of_ble_eq_true rfl) (Nat.le_of_ble_eq_true rfl) (Nat.le_of_ble_eq_true rfl) (fun r G' h => ?_)
        obtain ⟨rfl, rfl⟩ := h
        refine x_if_eq C 67 d_KF_write_61 (by decide) (fun c_61 => ?_) (fun c_61 => ?_)
        · exact absurd (hba.symm.trans ((bI_0 _).mp c_61)) (by decide)
        · refine x_bipush C (v := 22) d_KF_write_64 (by decide) ?_
          exact x_iret C (Nat.le_of_ble_eq_true rfl) (Nat.le_of_ble_eq_true rfl) d_KF_write_66 ⟨rfl, hC1.S, hF1⟩
      · exact absurd ⟨c_39, by cases hz : ooB (v.2.2.2.2.2.2.2.2.2.2.1) (v.2.2.2.2.2.2.2.2.2.2.2) (fK q.1 b1) (v.2.1) q.2 with | true => rfl | false => exact absurd (show bI (ooB (v.2.2.2.2.2.2.2.2.2.2.1) (v.2.2.2.2.2.2.2.2.2.2.2) (fK q.1 b1) (v.2.1) q.2) = 0 from by rw [hz]; rfl) c_49⟩ hoo
  · exact absurd hr c_23
set_option maxRecDepth 100000 in
set_option maxHeartbeats 4000000 in
theorem q_KF_write_24 (l : Launch) (E : xE) {G : xw_G} {x : Nat} {σ : CS} {lo la : Nat → Nat} {lc : Nat → List Nat} (hC : xCB E G x σ lo la lc) {i va : Nat} {v : VD} (hi : (lc 1)[i]? = some va) (hV : G va = some (cVW v)) {q : KD × List E3} (hq : (sK σ)[0]? = some q) {b1 : Int64} (hr : refWrite v.1 v.2.1 v.2.2.1 = 0) (hoo : ¬ (v.2.2.1 = 0 ∧ ooB (v.2.2.2.2.2.2.2.2.2.2.1) (v.2.2.2.2.2.2.2.2.2.2.2) (fK q.1 b1) (v.2.1) q.2 = true)) (hsr : ∀ (i : Nat) (q : KD × List E3), (sK σ)[i]? = some q → srt q.2) (hba : (sK σ).any (barK b1 none) = false) (hfu : 300 ≤ q.2.length) : XMk l E y_KF_write w_KF_write rm_KF_write [.ref x, .int (nI i), .long (b1)] G (cPost E G x (some (.int 24)) (σ.vw i (vForget v))) 13 2217 := by
  refine XM_of [some (.ref x), some (.int (nI i)), some (.long (b1)), none, none, none] (XZ_st E) (by decide) rfl rfl rfl (Nat.le_of_ble_eq_true rfl) (fun p e s m below meth c C hnm => ?_)
  obtain ⟨hG, hL, hnn, hk, hv, hs, he⟩ := id hC
  refine x_aload_n C d_KF_write_0 rfl rfl ?_
  refine x_iload_n C d_KF_write_1 rfl rfl ?_
  refine x_callV1 C (q_KF_viewAt_in l E hG (hL.1 1 (by omega)) hi hV) (lk_KF_51 C.hts (Nat.le_of_ble_eq_true rfl) (Nat.le_of_ble_eq_true rfl)) hG rfl rfl d_KF_write_2 (Nat.le_of_ble_eq_true rfl) (Nat.le_of_ble_eq_true rfl) (Nat.le_of_ble_eq_true rfl) (fun r G' h => ?_)
  obtain ⟨rfl, rfl⟩ := h
  refine x_astore C d_KF_write_5 (Nat.le_of_ble_eq_true rfl) rfl ?_
  refine x_aload C d_KF_write_7 rfl ?_
  refine x_ifnonnull C 14 d_KF_write_9 (by decide) ?_
  refine x_aload C d_KF_write_14 rfl ?_
  refine x_callV0 C (q_VW_refusalToWrite l E hV) (lk_KF_68 C.hts (Nat.le_of_ble_eq_true rfl) (Nat.le_of_ble_eq_true rfl)) hV rfl rfl d_KF_write_16 (Nat.le_of_ble_eq_true rfl) (Nat.le_of_ble_eq_true rfl) (Nat.le_of_ble_eq_true rfl) (fun r G' h => ?_)
  obtain ⟨rfl, rfl⟩ := h
  refine x_istore C d_KF_write_19 (Nat.le_of_ble_eq_true rfl) rfl ?_
  refine x_iload C d_KF_write_21 rfl ?_
  refine x_if_eq C 29 d_KF_write_23 (by decide) (fun c_23 => ?_) (fun c_23 => ?_)
  · refine x_aload C d_KF_write_29 rfl ?_
    refine x_callV0 C (q_VW_forget l E hV) (lk_KF_65 C.hts (Nat.le_of_ble_eq_true rfl) (Nat.le_of_ble_eq_true rfl)) hV rfl rfl d_KF_write_31 (Nat.le_of_ble_eq_true rfl) (Nat.le_of_ble_eq_true rfl) (Nat.le_of_ble_eq_true rfl) (fun r G' h => ?_)
    obtain ⟨rfl, rfl⟩ := h
    have hC1 := xCB_vw (v' := vForget v) hC hi hV
    obtain ⟨hG1, hL1, hn1, hk1, hv1, hs1, he1⟩ := id hC1
    have hF1 : xFm G (va_up G va (some (cVW (vForget v)))) := xFm.up hV (by decide)
    obtain ⟨⟨ki, hki, hK1⟩, hX1⟩ := hk1 0 q hq
    have hl0 := (List.getElem?_eq_some_iff.mp hq).1
    refine x_aload C d_KF_write_34 rfl ?_
    refine x_get C (va_up_self _ _ _) rfl (in_VW _) 2 (by decide) (List.mem_cons_of_mem _ f_KF_71) rfl d_KF_write_36 ?_
    refine x_if_ne C 55 d_KF_write_39 (by decide) (fun c_39 => ?_) (fun c_39 => ?_)
    · refine x_aload_n C d_KF_write_55 rfl rfl ?_
      refine x_lload_n C d_KF_write_56 rfl rfl ?_
      refine x_null C d_KF_write_57 ?_
      refine x_callV2 C (q_KF_barred_n l E (σ := σ.vw i (vForget v)) hC1.S hsr) (lk_KF_79 C.hts (Nat.le_of_ble_eq_true rfl) (Nat.le_of_ble_eq_true rfl)) hG1 rfl rfl d_KF_write_58 (Nat.le_of_ble_eq_true rfl) (Nat.le_of_ble_eq_true rfl) (Nat.le_of_ble_eq_true rfl) (fun r G' h => ?_)
      obtain ⟨rfl, rfl⟩ := h
      refine x_if_eq C 67 d_KF_write_61 (by decide) (fun c_61 => ?_) (fun c_61 => ?_)
      · refine x_aload_n C d_KF_write_67 rfl rfl ?_
        refine x_iconst C (v := 0) d_KF_write_68 (by decide) ?_
        refine x_callV1 C (q_KF_entryCount_in l E (i := 0) hG1 (hL1.1 0 (by omega)) hK1 (hL1.1 2 (by show 2 < (sK σ).length + 2; omega)) hki) (lk_KF_83 C.hts (Nat.le_of_ble_eq_true rfl) (Nat.le_of_ble_eq_true rfl)) hG1 rfl rfl d_KF_write_69 (Nat.le_of_ble_eq_true rfl) (Nat.le_of_ble_eq_true rfl) (Nat.le_of_ble_eq_true rfl) (fun r G' h => ?_)
        obtain ⟨rfl, rfl⟩ := h
        have hle := xAL_len (hL1.1 2 (by show 2 < (sK σ).length + 2; omega))
        rw [show (lc 2).length = q.2.length from hX1.1] at hle ⊢
        refine x_sipush C (v := 300) d_KF_write_72 (by decide) ?_
        refine x_icmp_lt C 81 d_KF_write_75 (by decide) (fun c_75 => ?_) (fun c_75 => ?_)
        · exact absurd (show nI q.2.length < nI 300 from c_75) (nI_nlt hfu (by omega))
        · refine x_bipush C (v := 24) d_KF_write_78 (by decide) ?_
          exact x_iret C (Nat.le_of_ble_eq_true rfl) (Nat.le_of_ble_eq_true rfl) d_KF_write_80 ⟨rfl, hC1.S, hF1⟩
      · exact absurd (show bI ((sK σ).any (barK b1 none)) = 0 from by rw [hba]; rfl) c_61
    · refine x_aload_n C d_KF_write_42 rfl rfl ?_
      refine x_aload C d_KF_write_43 rfl ?_
      refine x_lload_n C d_KF_write_45 rfl rfl ?_
      refine x_callV2 C (q_KF_isOutOfOrder l E (v := vForget v) hC1 (va_up_self _ _ _) hq hki hK1) (lk_KF_75 C.hts (Nat.le_of_ble_eq_true rfl) (Nat.le_of_ble_eq_true rfl)) hG1 rfl rfl d_KF_write_46 (Nat.le_of_ble_eq_true rfl) (Nat.le_of_ble_eq_true rfl) (Nat.le_of_ble_eq_true rfl) (fun r G' h => ?_)
      obtain ⟨rfl, rfl⟩ := h
      refine x_if_eq C 55 d_KF_write_49 (by decide) (fun c_49 => ?_) (fun c_49 => ?_)
      · refine x_aload_n C d_KF_write_55 rfl rfl ?_
        refine x_lload_n C d_KF_write_56 rfl rfl ?_
        refine x_null C d_KF_write_57 ?_
        refine x_callV2 C (q_KF_barred_n l E (σ := σ.vw i (vForget v)) hC1.S hsr) (lk_KF_79 C.hts (Nat.le_of_ble_eq_true rfl) (Nat.le_of_ble_eq_true rfl)) hG1 rfl rfl d_KF_write_58 (Nat.le_of_ble_eq_true rfl) (Nat.le_of_ble_eq_true rfl) (Nat.le_of_ble_eq_true rfl) (fun r G' h => ?_)
        obtain ⟨rfl, rfl⟩ := h
        refine x_if_eq C 67 d_KF_write_61 (by decide) (fun c_61 => ?_) (fun c_61 => ?_)
        · refine x_aload_n C d_KF_write_67 rfl rfl ?_
          refine x_iconst C (v := 0) d_KF_write_68 (by decide) ?_
          refine x_callV1 C (q_KF_entryCount_in l E (i := 0) hG1 (hL1.1 0 (by omega)) hK1 (hL1.1 2 (by show 2 < (sK σ).length + 2; omega)) hki) (lk_KF_83 C.hts (Nat.le_of_ble_eq_true rfl) (Nat.le_of_ble_eq_true rfl)) hG1 rfl rfl d_KF_write_69 (Nat.le_of_ble_eq_true rfl) (Nat.le_of_ble_eq_true rfl) (Nat.le_of_ble_eq_true rfl) (fun r G' h => ?_)
          obtain ⟨rfl, rfl⟩ := h
          have hle := xAL_len (hL1.1 2 (by show 2 < (sK σ).length + 2; omega))
          rw [show (lc 2).length = q.2.length from hX1.1] at hle ⊢
          refine x_sipush C (v := 300) d_KF_write_72 (by decide) ?_
          refine x_icmp_lt C 81 d_KF_write_75 (by decide) (fun c_75 => ?_) (fun c_75 => ?_)
          · exact absurd (show nI q.2.length < nI 300 from c_75) (nI_nlt hfu (by omega))
          · refine x_bipush C (v := 24) d_KF_write_78 (by decide) ?_
            exact x_iret C (Nat.le_of_ble_eq_true rfl) (Nat.le_of_ble_eq_true rfl) d_KF_write_80 ⟨rfl, hC1.S, hF1⟩
        · exact absurd (show bI ((sK σ).any (barK b1 none)) = 0 from by rw [hba]; rfl) c_61
      · exact absurd ⟨c_39, by cases hz : ooB (v.2.2.2.2.2.2.2.2.2.2.1) (v.2.2.2.2.2.2.2.2.2.2.2) (fK q.1 b1) (v.2.1) q.2 with | true => rfl | false => exact absurd (show bI (ooB (v.2.2.2.2.2.2.2.2.2.2.1) (v.2.2.2.2.2.2.2.2.2.2.2) (fK q.1 b1) (v.2.1) q.2) = 0 from by rw [hz]; rfl) c_49⟩ hoo
  · exact absurd hr c_23
set_option maxRecDepth 100000 in
set_option maxHeartbeats 4000000 in
theorem q_KF_write_ok (l : Launch) (E : xE) {G : xw_G} {x : Nat} {σ : CS} {lo la : Nat → Nat} {lc : Nat → List Nat} (hC : xCB E G x σ lo la lc) {i va : Nat} {v : VD} (hi : (lc 1)[i]? = some va) (hV : G va = some (cVW v)) {q : KD × List E3} (hq : (sK σ)[0]? = some q) {b1 : Int64} (hr : refWrite v.1 v.2.1 v.2.2.1 = 0) (hoo : ¬ (v.2.2.1 = 0 ∧ ooB (v.2.2.2.2.2.2.2.2.2.2.1) (v.2.2.2.2.2.2.2.2.2.2.2) (fK q.1 b1) (v.2.1) q.2 = true)) (hsr : ∀ (i : Nat) (q : KD × List E3), (sK σ)[i]? = some q → srt q.2) (hba : (sK σ).any (barK b1 none) = false) (hfu : q.2.length < 300) (h6 : (sK σ).length ≤ 6) (hsr6 : ∀ (i : Nat) (q : KD × List E3), (sK σ)[i]? = some q → srt q.2 ∧ q.2.length ≤ 300) : XMk l E y_KF_write w_KF_write rm_KF_write [.ref x, .int (nI i), .long (b1)] G (fun r G' => ∃ s0 : Nat, G s0 = none ∧ r = some (.int (if enB (sK σ) b1 (sA σ) (sK σ).length = true then 2 else 0)) ∧ xCS E G' x ((sK σ).mapIdx (enF b1 s0 (sA σ)), (sV σ).set i (vWrote (vForget v) (fK q.1 b1)), va_up (sD σ) s0 (some (b1, true)), sO σ, sA σ + (sK σ).length, sW σ) ∧ xFm G G') 13 2217 := by
  refine XM_of [some (.ref x), some (.int (nI i)), some (.long (b1)), none, none, none] (XZ_st E) (by decide) rfl rfl rfl (Nat.le_of_ble_eq_true rfl) (fun p e s m below meth c C hnm => ?_)
  obtain ⟨hG, hL, hnn, hk, hv, hs, he⟩ := id hC
  refine x_aload_n C d_KF_write_0 rfl rfl ?_
  refine x_iload_n C d_KF_write_1 rfl rfl ?_
  refine x_callV1 C (q_KF_viewAt_in l E hG (hL.1 1 (by omega)) hi hV) (lk_KF_51 C.hts (Nat.le_of_ble_eq_true rfl) (Nat.le_of_ble_eq_true rfl)) hG rfl rfl d_KF_write_2 (Nat.le_of_ble_eq_true rfl) (Nat.le_of_ble_eq_true rfl) (Nat.le_of_ble_eq_true rfl) (fun r G' h => ?_)
  obtain ⟨rfl, rfl⟩ := h
  refine x_astore C d_KF_write_5 (Nat.le_of_ble_eq_true rfl) rfl ?_
  refine x_aload C d_KF_write_7 rfl ?_
  refine x_ifnonnull C 14 d_KF_write_9 (by decide) ?_
  refine x_aload C d_KF_write_14 rfl ?_
  refine x_callV0 C (q_VW_refusalToWrite l E hV) (lk_KF_68 C.hts (Nat.le_of_ble_eq_true rfl) (Nat.le_of_ble_eq_true rfl)) hV rfl rfl d_KF_write_16 (Nat.le_of_ble_eq_true rfl) (Nat.le_of_ble_eq_true rfl) (Nat.le_of_ble_eq_true rfl) (fun r G' h => ?_)
  obtain ⟨rfl, rfl⟩ := h
  refine x_istore C d_KF_write_19 (Nat.le_of_ble_eq_true rfl) rfl ?_
  refine x_iload C d_KF_write_21 rfl ?_
  refine x_if_eq C 29 d_KF_write_23 (by decide) (fun c_23 => ?_) (fun c_23 => ?_)
  · refine x_aload C d_KF_write_29 rfl ?_
    refine x_callV0 C (q_VW_forget l E hV) (lk_KF_65 C.hts (Nat.le_of_ble_eq_true rfl) (Nat.le_of_ble_eq_true rfl)) hV rfl rfl d_KF_write_31 (Nat.le_of_ble_eq_true rfl) (Nat.le_of_ble_eq_true rfl) (Nat.le_of_ble_eq_true rfl) (fun r G' h => ?_)
    obtain ⟨rfl, rfl⟩ := h
    have hC1 := xCB_vw (v' := vForget v) hC hi hV
    obtain ⟨hG1, hL1, hn1, hk1, hv1, hs1, he1⟩ := id hC1
    have hF1 : xFm G (va_up G va (some (cVW (vForget v)))) := xFm.up hV (by decide)
    obtain ⟨⟨ki, hki, hK1⟩, hX1⟩ := hk1 0 q hq
    have hl0 := (List.getElem?_eq_some_iff.mp hq).1
    refine x_aload C d_KF_write_34 rfl ?_
    refine x_get C (va_up_self _ _ _) rfl (in_VW _) 2 (by decide) (List.mem_cons_of_mem _ f_KF_71) rfl d_KF_write_36 ?_
    refine x_if_ne C 55 d_KF_write_39 (by decide) (fun c_39 => ?_) (fun c_39 => ?_)
    · refine x_aload_n C d_KF_write_55 rfl rfl ?_
      refine x_lload_n C d_KF_write_56 rfl rfl ?_
      refine x_null C d_KF_write_57 ?_
      refine x_callV2 C (q_KF_barred_n l E (σ := σ.vw i (vForget v)) hC1.S hsr) (lk_KF_79 C.hts (Nat.le_of_ble_eq_true rfl) (Nat.le_of_ble_eq_true rfl)) hG1 rfl rfl d_KF_write_58 (Nat.le_of_ble_eq_true rfl) (Nat.le_of_ble_eq_true rfl) (Nat.le_of_ble_eq_true rfl) (fun r G' h => ?_)
      obtain ⟨rfl, rfl⟩ := h
      refine x_if_eq C 67 d_KF_write_61 (by decide) (fun c_61 => ?_) (fun c_61 => ?_)
      · refine x_aload_n C d_KF_write_67 rfl rfl ?_
        refine x_iconst C (v := 0) d_KF_write_68 (by decide) ?_
        refine x_callV1 C (q_KF_entryCount_in l E (i := 0) hG1 (hL1.1 0 (by omega)) hK1 (hL1.1 2 (by show 2 < (sK σ).length + 2; omega)) hki) (lk_KF_83 C.hts (Nat.le_of_ble_eq_true rfl) (Nat.le_of_ble_eq_true rfl)) hG1 rfl rfl d_KF_write_69 (Nat.le_of_ble_eq_true rfl) (Nat.le_of_ble_eq_true rfl) (Nat.le_of_ble_eq_true rfl) (fun r G' h => ?_)
        obtain ⟨rfl, rfl⟩ := h
        have hle := xAL_len (hL1.1 2 (by show 2 < (sK σ).length + 2; omega))
        rw [show (lc 2).length = q.2.length from hX1.1] at hle ⊢
        refine x_sipush C (v := 300) d_KF_write_72 (by decide) ?_
        refine x_icmp_lt C 81 d_KF_write_75 (by decide) (fun c_75 => ?_) (fun c_75 => ?_)
        · refine x_aload C d_KF_write_81 rfl ?_
          refine x_aload_n C d_KF_write_83 rfl rfl ?_
          refine x_iconst C (v := 0) d_KF_write_84 (by decide) ?_
          refine x_lload_n C d_KF_write_85 rfl rfl ?_
          refine x_callV2 C (q_KF_fieldOf_in l E (i := 0) hG1 (hL1.1 0 (by omega)) hK1 hki) (lk_KF_87 C.hts (Nat.le_of_ble_eq_true rfl) (Nat.le_of_ble_eq_true rfl)) hG1 rfl rfl d_KF_write_86 (Nat.le_of_ble_eq_true rfl) (Nat.le_of_ble_eq_true rfl) (Nat.le_of_ble_eq_true rfl) (fun r G' h => ?_)
          obtain ⟨rfl, rfl⟩ := h
          refine x_callV1 C (q_VW_wrote l E (v := vForget v) (va_up_self _ _ _)) (lk_KF_91 C.hts (Nat.le_of_ble_eq_true rfl) (Nat.le_of_ble_eq_true rfl)) (va_up_self _ _ _) rfl rfl d_KF_write_89 (Nat.le_of_ble_eq_true rfl) (Nat.le_of_ble_eq_true rfl) (Nat.le_of_ble_eq_true rfl) (fun r G' h => ?_)
          obtain ⟨rfl, rfl⟩ := h
          rw [bx_uu]
          have hC2 := xCB_vw (v' := (vWrote (vForget v) (fK q.1 b1))) hC hi hV
          obtain ⟨hG2, -⟩ := id hC2
          have hF2 : xFm G (va_up G va (some (cVW (vWrote (vForget v) (fK q.1 b1))))) := xFm.up hV (by decide)
          refine x_aload_n C d_KF_write_92 rfl rfl ?_
          refine x_new C (ci := 3) (fs := [.long 0, .int 0, .long 0]) rfl (in_ST _) ty_ST tok_ST (List.mem_cons_of_mem _ cl_KF_94) (List.mem_cons_of_mem _ kb_ST) (List.mem_cons_of_mem _ kz_ST) (fun j hj => by rcases (show j = 0 ∨ j = 1 ∨ j = 2 by omega) with rfl | rfl | rfl <;> rfl) (Nat.le_of_ble_eq_true rfl) (Nat.le_of_ble_eq_true rfl) d_KF_write_93 (fun s0 hs0 hBs0 => ?_)
          refine x_dup C d_KF_write_96 rfl ?_
          refine x_lload_n C d_KF_write_97 rfl rfl ?_
          refine x_callI1 C (q_ST_init l E (b0 := 0) (th := false) (sw := 0) (va_up_self _ _ _)) (lk_KF_96 C.hts (Nat.le_of_ble_eq_true rfl) (Nat.le_of_ble_eq_true rfl)) rfl d_KF_write_98 (Nat.le_of_ble_eq_true rfl) (Nat.le_of_ble_eq_true rfl) (Nat.le_of_ble_eq_true rfl) (fun r G' h => ?_)
          obtain ⟨rfl, rfl⟩ := h
          rw [bx_uu]
          have h3 := xCS_stN (d1 := (b1, true)) hC2.S hs0
          refine x_callV1 C (q_KF_enterUnderAllKeys l E h3 (va_up_self _ _ _) h6 hsr6) (lk_KF_98 C.hts (Nat.le_of_ble_eq_true rfl) (Nat.le_of_ble_eq_true rfl)) (xw_keep hG2 (xw_neF hs0 hG2)) rfl rfl d_KF_write_101 (Nat.le_of_ble_eq_true rfl) (Nat.le_of_ble_eq_true rfl) (Nat.le_of_ble_eq_true rfl) (fun r G' h => ?_)
          obtain ⟨rfl, hz, hF4⟩ := h
          refine x_if_eq C 111 d_KF_write_104 (by decide) (fun c_104 => ?_) (fun c_104 => ?_)
          · refine x_iconst C (v := 0) d_KF_write_111 (by decide) ?_
            exact x_iret C (Nat.le_of_ble_eq_true rfl) (Nat.le_of_ble_eq_true rfl) d_KF_write_112 ⟨s0, none_mod hs0, congrArg some (congrArg Value.int (by simp_all [bI_0])), hz, hF2.tr ((xFm.fresh hs0).tr hF4)⟩
          · refine x_iconst C (v := 2) d_KF_write_107 (by decide) ?_
            refine x_goto C 112 d_KF_write_108 (by decide) ?_
            exact x_iret C (Nat.le_of_ble_eq_true rfl) (Nat.le_of_ble_eq_true rfl) d_KF_write_112 ⟨s0, none_mod hs0, congrArg some (congrArg Value.int (by simp_all [bI_0])), hz, hF2.tr ((xFm.fresh hs0).tr hF4)⟩
        · exact absurd (show nI q.2.length < nI 300 from nI_lt hfu (by omega)) c_75
      · exact absurd (show bI ((sK σ).any (barK b1 none)) = 0 from by rw [hba]; rfl) c_61
    · refine x_aload_n C d_KF_write_42 rfl rfl ?_
      refine x_aload C d_KF_write_43 rfl ?_
      refine x_lload_n C d_KF_write_45 rfl rfl ?_
      refine x_callV2 C (q_KF_isOutOfOrder l E (v := vForget v) hC1 (va_up_self _ _ _) hq hki hK1) (lk_KF_75 C.hts (Nat.le_of_ble_eq_true rfl) (Nat.le_of_ble_eq_true rfl)) hG1 rfl rfl d_KF_write_46 (Nat.le_of_ble_eq_true rfl) (Nat.le_of_ble_eq_true rfl) (Nat.le_of_ble_eq_true rfl) (fun r G' h => ?_)
      obtain ⟨rfl, rfl⟩ := h
      refine x_if_eq C 55 d_KF_write_49 (by decide) (fun c_49 => ?_) (fun c_49 => ?_)
      · refine x_aload_n C d_KF_write_55 rfl rfl ?_
        refine x_lload_n C d_KF_write_56 rfl rfl ?_
        refine x_null C d_KF_write_57 ?_
        refine x_callV2 C (q_KF_barred_n l E (σ := σ.vw i (vForget v)) hC1.S hsr) (lk_KF_79 C.hts (Nat.le_of_ble_eq_true rfl) (Nat.le_of_ble_eq_true rfl)) hG1 rfl rfl d_KF_write_58 (Nat.le_of_ble_eq_true rfl) (Nat.le_of_ble_eq_true rfl) (Nat.le_of_ble_eq_true rfl) (fun r G' h => ?_)
        obtain ⟨rfl, rfl⟩ := h
        refine x_if_eq C 67 d_KF_write_61 (by decide) (fun c_61 => ?_) (fun c_61 => ?_)
        · refine x_aload_n C d_KF_write_67 rfl rfl ?_
          refine x_iconst C (v := 0) d_KF_write_68 (by decide) ?_
          refine x_callV1 C (q_KF_entryCount_in l E (i := 0) hG1 (hL1.1 0 (by omega)) hK1 (hL1.1 2 (by show 2 < (sK σ).length + 2; omega)) hki) (lk_KF_83 C.hts (Nat.le_of_ble_eq_true rfl) (Nat.le_of_ble_eq_true rfl)) hG1 rfl rfl d_KF_write_69 (Nat.le_of_ble_eq_true rfl) (Nat.le_of_ble_eq_true rfl) (Nat.le_of_ble_eq_true rfl) (fun r G' h => ?_)
          obtain ⟨rfl, rfl⟩ := h
          have hle := xAL_len (hL1.1 2 (by show 2 < (sK σ).length + 2; omega))
          rw [show (lc 2).length = q.2.length from hX1.1] at hle ⊢
          refine x_sipush C (v := 300) d_KF_write_72 (by decide) ?_
          refine x_icmp_lt C 81 d_KF_write_75 (by decide) (fun c_75 => ?_) (fun c_75 => ?_)
          · refine x_aload C d_KF_write_81 rfl ?_
            refine x_aload_n C d_KF_write_83 rfl rfl ?_
            refine x_iconst C (v := 0) d_KF_write_84 (by decide) ?_
            refine x_lload_n C d_KF_write_85 rfl rfl ?_
            refine x_callV2 C (q_KF_fieldOf_in l E (i := 0) hG1 (hL1.1 0 (by omega)) hK1 hki) (lk_KF_87 C.hts (Nat.le_of_ble_eq_true rfl) (Nat.le_of_ble_eq_true rfl)) hG1 rfl rfl d_KF_write_86 (Nat.le_of_ble_eq_true rfl) (Nat.le_of_ble_eq_true rfl) (Nat.le_of_ble_eq_true rfl) (fun r G' h => ?_)
            obtain ⟨rfl, rfl⟩ := h
            refine x_callV1 C (q_VW_wrote l E (v := vForget v) (va_up_self _ _ _)) (lk_KF_91 C.hts (Nat.le_of_ble_eq_true rfl) (Nat.le_of_ble_eq_true rfl)) (va_up_self _ _ _) rfl rfl d_KF_write_89 (Nat.le_of_ble_eq_true rfl) (Nat.le_of_ble_eq_true rfl) (Nat.le_of_ble_eq_true rfl) (fun r G' h => ?_)
            obtain ⟨rfl, rfl⟩ := h
            rw [bx_uu]
            have hC2 := xCB_vw (v' := (vWrote (vForget v) (fK q.1 b1))) hC hi hV
            obtain ⟨hG2, -⟩ := id hC2
            have hF2 : xFm G (va_up G va (some (cVW (vWrote (vForget v) (fK q.1 b1))))) := xFm.up hV (by decide)
            refine x_aload_n C d_KF_write_92 rfl rfl ?_
            refine x_new C (ci := 3) (fs := [.long 0, .int 0, .long 0]) rfl (in_ST _) ty_ST tok_ST (List.mem_cons_of_mem _ cl_KF_94) (List.mem_cons_of_mem _ kb_ST) (List.mem_cons_of_mem _ kz_ST) (fun j hj => by rcases (show j = 0 ∨ j = 1 ∨ j = 2 by omega) with rfl | rfl | rfl <;> rfl) (Nat.le_of_ble_eq_true rfl) (Nat.le_of_ble_eq_true rfl) d_KF_write_93 (fun s0 hs0 hBs0 => ?_)
            refine x_dup C d_KF_write_96 rfl ?_
            refine x_lload_n C d_KF_write_97 rfl rfl ?_
            refine x_callI1 C (q_ST_init l E (b0 := 0) (th := false) (sw := 0) (va_up_self _ _ _)) (lk_KF_96 C.hts (Nat.le_of_ble_eq_true rfl) (Nat.le_of_ble_eq_true rfl)) rfl d_KF_write_98 (Nat.le_of_ble_eq_true rfl) (Nat.le_of_ble_eq_true rfl) (Nat.le_of_ble_eq_true rfl) (fun r G' h => ?_)
            obtain ⟨rfl, rfl⟩ := h
            rw [bx_uu]
            have h3 := xCS_stN (d1 := (b1, true)) hC2.S hs0
            refine x_callV1 C (q_KF_enterUnderAllKeys l E h3 (va_up_self _ _ _) h6 hsr6) (lk_KF_98 C.hts (Nat.le_of_ble_eq_true rfl) (Nat.le_of_ble_eq_true rfl)) (xw_keep hG2 (xw_neF hs0 hG2)) rfl rfl d_KF_write_101 (Nat.le_of_ble_eq_true rfl) (Nat.le_of_ble_eq_true rfl) (Nat.le_of_ble_eq_true rfl) (fun r G' h => ?_)
            obtain ⟨rfl, hz, hF4⟩ := h
            refine x_if_eq C 111 d_KF_write_104 (by decide) (fun c_104 => ?_) (fun c_104 => ?_)
            · refine x_iconst C (v := 0) d_KF_write_111 (by decide) ?_
              exact x_iret C (Nat.le_of_ble_eq_true rfl) (Nat.le_of_ble_eq_true rfl) d_KF_write_112 ⟨s0, none_mod hs0, congrArg some (congrArg Value.int (by simp_all [bI_0])), hz, hF2.tr ((xFm.fresh hs0).tr hF4)⟩
            · refine x_iconst C (v := 2) d_KF_write_107 (by decide) ?_
              refine x_goto C 112 d_KF_write_108 (by decide) ?_
              exact x_iret C (Nat.le_of_ble_eq_true rfl) (Nat.le_of_ble_eq_true rfl) d_KF_write_112 ⟨s0, none_mod hs0, congrArg some (congrArg Value.int (by simp_all [bI_0])), hz, hF2.tr ((xFm.fresh hs0).tr hF4)⟩
          · exact absurd (show nI q.2.length < nI 300 from nI_lt hfu (by omega)) c_75
        · exact absurd (show bI ((sK σ).any (barK b1 none)) = 0 from by rw [hba]; rfl) c_61
      · exact absurd ⟨c_39, by cases hz : ooB (v.2.2.2.2.2.2.2.2.2.2.1) (v.2.2.2.2.2.2.2.2.2.2.2) (fK q.1 b1) (v.2.1) q.2 with | true => rfl | false => exact absurd (show bI (ooB (v.2.2.2.2.2.2.2.2.2.2.1) (v.2.2.2.2.2.2.2.2.2.2.2) (fK q.1 b1) (v.2.1) q.2) = 0 from by rw [hz]; rfl) c_49⟩ hoo
  · exact absurd hr c_23
set_option maxRecDepth 100000 in
set_option maxHeartbeats 4000000 in
theorem q_KF_remove_nv (l : Launch) (E : xE) {G : xw_G} {x : Nat} {σ : CS} {lo la : Nat → Nat} {lc : Nat → List Nat} (hC : xCB E G x σ lo la lc) {j : Int32} (hj : j < 0 ∨ nI (lc 1).length ≤ j) {b1 : Int64} : XMk l E y_KF_remove w_KF_remove rm_KF_remove [.ref x, .int (j), .long (b1)] G (fun r G' => r = some (.int (-1)) ∧ G = G') 0 0 := by
  refine XM_of [some (.ref x), some (.int (j)), some (.long (b1)), none, none, none, none] (XZ_st E) (by decide) rfl rfl rfl (Nat.le_of_ble_eq_true rfl) (fun p e s m below meth c C hnm => ?_)
  obtain ⟨hG, hL, hnn, hk, hv, hs, he⟩ := id hC
  refine x_aload_n C d_KF_remove_0 rfl rfl ?_
  refine x_iload_n C d_KF_remove_1 rfl rfl ?_
  refine x_callV1 C (q_KF_viewAt_out l E hG (hL.1 1 (by omega)) hj) (lk_KF_51 C.hts (Nat.le_of_ble_eq_true rfl) (Nat.le_of_ble_eq_true rfl)) hG rfl rfl d_KF_remove_2 (Nat.le_of_ble_eq_true rfl) (Nat.le_of_ble_eq_true rfl) (Nat.le_of_ble_eq_true rfl) (fun r G' h => ?_)
  obtain ⟨rfl, rfl⟩ := h
  refine x_astoreN C d_KF_remove_5 (Nat.le_of_ble_eq_true rfl) rfl ?_
  refine x_aloadN C d_KF_remove_7 rfl ?_
  refine x_ifnonnullN C d_KF_remove_9 ?_
  refine x_iconst C (v := -1) d_KF_remove_12 (by decide) ?_
  exact x_iret C (Nat.le_of_ble_eq_true rfl) (Nat.le_of_ble_eq_true rfl) d_KF_remove_13 ⟨rfl, rfl⟩
set_option maxRecDepth 100000 in
set_option maxHeartbeats 4000000 in
theorem q_KF_remove_ref (l : Launch) (E : xE) {G : xw_G} {x : Nat} {σ : CS} {lo la : Nat → Nat} {lc : Nat → List Nat} (hC : xCB E G x σ lo la lc) {i va : Nat} {v : VD} (hi : (lc 1)[i]? = some va) (hV : G va = some (cVW v)) {b1 : Int64} (hr : ¬ refChange v.1 v.2.1 = 0) : XMk l E y_KF_remove w_KF_remove rm_KF_remove [.ref x, .int (nI i), .long (b1)] G (fun r G' => r = some (.int (refChange v.1 v.2.1)) ∧ G = G') 0 0 := by
  refine XM_of [some (.ref x), some (.int (nI i)), some (.long (b1)), none, none, none, none] (XZ_st E) (by decide) rfl rfl rfl (Nat.le_of_ble_eq_true rfl) (fun p e s m below meth c C hnm => ?_)
  obtain ⟨hG, hL, hnn, hk, hv, hs, he⟩ := id hC
  refine x_aload_n C d_KF_remove_0 rfl rfl ?_
  refine x_iload_n C d_KF_remove_1 rfl rfl ?_
  refine x_callV1 C (q_KF_viewAt_in l E hG (hL.1 1 (by omega)) hi hV) (lk_KF_51 C.hts (Nat.le_of_ble_eq_true rfl) (Nat.le_of_ble_eq_true rfl)) hG rfl rfl d_KF_remove_2 (Nat.le_of_ble_eq_true rfl) (Nat.le_of_ble_eq_true rfl) (Nat.le_of_ble_eq_true rfl) (fun r G' h => ?_)
  obtain ⟨rfl, rfl⟩ := h
  refine x_astore C d_KF_remove_5 (Nat.le_of_ble_eq_true rfl) rfl ?_
  refine x_aload C d_KF_remove_7 rfl ?_
  refine x_ifnonnull C 14 d_KF_remove_9 (by decide) ?_
  refine x_aload C d_KF_remove_14 rfl ?_
  refine x_callV0 C (q_VW_refusalToChange l E hV) (lk_KF_146 C.hts (Nat.le_of_ble_eq_true rfl) (Nat.le_of_ble_eq_true rfl)) hV rfl rfl d_KF_remove_16 (Nat.le_of_ble_eq_true rfl) (Nat.le_of_ble_eq_true rfl) (Nat.le_of_ble_eq_true rfl) (fun r G' h => ?_)
  obtain ⟨rfl, rfl⟩ := h
  refine x_istore C d_KF_remove_19 (Nat.le_of_ble_eq_true rfl) rfl ?_
  refine x_iload C d_KF_remove_21 rfl ?_
  refine x_if_eq C 29 d_KF_remove_23 (by decide) (fun c_23 => ?_) (fun c_23 => ?_)
  · exact absurd c_23 hr
  · refine x_iload C d_KF_remove_26 rfl ?_
    exact x_iret C (Nat.le_of_ble_eq_true rfl) (Nat.le_of_ble_eq_true rfl) d_KF_remove_28 ⟨rfl, rfl⟩
set_option maxRecDepth 100000 in
set_option maxHeartbeats 4000000 in
theorem q_KF_remove_none (l : Launch) (E : xE) {G : xw_G} {x : Nat} {σ : CS} {lo la : Nat → Nat} {lc : Nat → List Nat} (hC : xCB E G x σ lo la lc) {i va : Nat} {v : VD} (hi : (lc 1)[i]? = some va) (hV : G va = some (cVW v)) {b1 : Int64} (hr : refChange v.1 v.2.1 = 0) (hM : XMk l E y_KF_recordToChange w_KF_recordToChange rm_KF_recordToChange [.ref x, .ref va, .long b1] G (fun r G' => r = some (.null) ∧ G = G') 0 0) : XMk l E y_KF_remove w_KF_remove rm_KF_remove [.ref x, .int (nI i), .long (b1)] G (cPost E G x (some (.int (if v.2.2.1 = 0 then 43 else 23))) (σ.vw i (vForget v))) 0 0 := by
  refine XM_of [some (.ref x), some (.int (nI i)), some (.long (b1)), none, none, none, none] (XZ_st E) (by decide) rfl rfl rfl (Nat.le_of_ble_eq_true rfl) (fun p e s m below meth c C hnm => ?_)
  obtain ⟨hG, hL, hnn, hk, hv, hs, he⟩ := id hC
  refine x_aload_n C d_KF_remove_0 rfl rfl ?_
  refine x_iload_n C d_KF_remove_1 rfl rfl ?_
  refine x_callV1 C (q_KF_viewAt_in l E hG (hL.1 1 (by omega)) hi hV) (lk_KF_51 C.hts (Nat.le_of_ble_eq_true rfl) (Nat.le_of_ble_eq_true rfl)) hG rfl rfl d_KF_remove_2 (Nat.le_of_ble_eq_true rfl) (Nat.le_of_ble_eq_true rfl) (Nat.le_of_ble_eq_true rfl) (fun r G' h => ?_)
  obtain ⟨rfl, rfl⟩ := h
  refine x_astore C d_KF_remove_5 (Nat.le_of_ble_eq_true rfl) rfl ?_
  refine x_aload C d_KF_remove_7 rfl ?_
  refine x_ifnonnull C 14 d_KF_remove_9 (by decide) ?_
  refine x_aload C d_KF_remove_14 rfl ?_
  refine x_callV0 C (q_VW_refusalToChange l E hV) (lk_KF_146 C.hts (Nat.le_of_ble_eq_true rfl) (Nat.le_of_ble_eq_true rfl)) hV rfl rfl d_KF_remove_16 (Nat.le_of_ble_eq_true rfl) (Nat.le_of_ble_eq_true rfl) (Nat.le_of_ble_eq_true rfl) (fun r G' h => ?_)
  obtain ⟨rfl, rfl⟩ := h
  refine x_istore C d_KF_remove_19 (Nat.le_of_ble_eq_true rfl) rfl ?_
  refine x_iload C d_KF_remove_21 rfl ?_
  refine x_if_eq C 29 d_KF_remove_23 (by decide) (fun c_23 => ?_) (fun c_23 => ?_)
  · refine x_aload_n C d_KF_remove_29 rfl rfl ?_
    refine x_aload C d_KF_remove_30 rfl ?_
    refine x_lload_n C d_KF_remove_32 rfl rfl ?_
    refine x_callV2 C (hM) (lk_KF_149 C.hts (Nat.le_of_ble_eq_true rfl) (Nat.le_of_ble_eq_true rfl)) hG rfl rfl d_KF_remove_33 (Nat.le_of_ble_eq_true rfl) (Nat.le_of_ble_eq_true rfl) (Nat.le_of_ble_eq_true rfl) (fun r G' h => ?_)
    obtain ⟨rfl, rfl⟩ := h
    refine x_astoreN C d_KF_remove_36 (Nat.le_of_ble_eq_true rfl) rfl ?_
    refine x_aload C d_KF_remove_38 rfl ?_
    refine x_callV0 C (q_VW_forget l E hV) (lk_KF_65 C.hts (Nat.le_of_ble_eq_true rfl) (Nat.le_of_ble_eq_true rfl)) hV rfl rfl d_KF_remove_40 (Nat.le_of_ble_eq_true rfl) (Nat.le_of_ble_eq_true rfl) (Nat.le_of_ble_eq_true rfl) (fun r G' h => ?_)
    obtain ⟨rfl, rfl⟩ := h
    have hC1 := xCB_vw (v' := vForget v) hC hi hV
    obtain ⟨hG1, hL1, hn1, hk1, hv1, hs1, he1⟩ := id hC1
    have hF1 : xFm G (va_up G va (some (cVW (vForget v)))) := xFm.up hV (by decide)
    refine x_aloadN C d_KF_remove_43 rfl ?_
    refine x_ifnonnullN C d_KF_remove_45 ?_
    refine x_aload C d_KF_remove_48 rfl ?_
    refine x_callV0 C (q_VW_statusOfNoRecord l E (va_up_self _ _ _)) (lk_KF_153 C.hts (Nat.le_of_ble_eq_true rfl) (Nat.le_of_ble_eq_true rfl)) (va_up_self _ _ _) rfl rfl d_KF_remove_50 (Nat.le_of_ble_eq_true rfl) (Nat.le_of_ble_eq_true rfl) (Nat.le_of_ble_eq_true rfl) (fun r G' h => ?_)
    obtain ⟨rfl, rfl⟩ := h
    exact x_iret C (Nat.le_of_ble_eq_true rfl) (Nat.le_of_ble_eq_true rfl) d_KF_remove_53 ⟨rfl, hC1.S, hF1⟩
  · exact absurd hr c_23
set_option maxRecDepth 100000 in
set_option maxHeartbeats 4000000 in
theorem q_KF_remove_ok (l : Launch) (E : xE) {G : xw_G} {x : Nat} {σ : CS} {lo la : Nat → Nat} {lc : Nat → List Nat} (hC : xCB E G x σ lo la lc) {i va : Nat} {v : VD} (hi : (lc 1)[i]? = some va) (hV : G va = some (cVW v)) {s0 : Nat} {b1 b0 : Int64} {th : Bool} (hr : refChange v.1 v.2.1 = 0) (hM : XMk l E y_KF_recordToChange w_KF_recordToChange rm_KF_recordToChange [.ref x, .ref va, .long b1] G (fun r G' => r = some (.ref s0) ∧ G = G') 0 0) (hd : sD σ s0 = some (b0, th)) (hdk : ∀ (i : Nat) (q : KD × List E3), (sK σ)[i]? = some q → dOK q.2 s0 (fK q.1 b0)) : XMk l E y_KF_remove w_KF_remove rm_KF_remove [.ref x, .int (nI i), .long (b1)] G (cPost E G x (some (.int 0)) ((sK σ).mapIdx (fun _ q => (q.1, delS q.2 s0)), (sV σ).set i (vForget v), va_up (sD σ) s0 (some (b0, false)), sO σ, sA σ, sW σ)) 0 0 := by
  refine XM_of [some (.ref x), some (.int (nI i)), some (.long (b1)), none, none, none, none] (XZ_st E) (by decide) rfl rfl rfl (Nat.le_of_ble_eq_true rfl) (fun p e s m below meth c C hnm => ?_)
  obtain ⟨hG, hL, hnn, hk, hv, hs, he⟩ := id hC
  refine x_aload_n C d_KF_remove_0 rfl rfl ?_
  refine x_iload_n C d_KF_remove_1 rfl rfl ?_
  refine x_callV1 C (q_KF_viewAt_in l E hG (hL.1 1 (by omega)) hi hV) (lk_KF_51 C.hts (Nat.le_of_ble_eq_true rfl) (Nat.le_of_ble_eq_true rfl)) hG rfl rfl d_KF_remove_2 (Nat.le_of_ble_eq_true rfl) (Nat.le_of_ble_eq_true rfl) (Nat.le_of_ble_eq_true rfl) (fun r G' h => ?_)
  obtain ⟨rfl, rfl⟩ := h
  refine x_astore C d_KF_remove_5 (Nat.le_of_ble_eq_true rfl) rfl ?_
  refine x_aload C d_KF_remove_7 rfl ?_
  refine x_ifnonnull C 14 d_KF_remove_9 (by decide) ?_
  refine x_aload C d_KF_remove_14 rfl ?_
  refine x_callV0 C (q_VW_refusalToChange l E hV) (lk_KF_146 C.hts (Nat.le_of_ble_eq_true rfl) (Nat.le_of_ble_eq_true rfl)) hV rfl rfl d_KF_remove_16 (Nat.le_of_ble_eq_true rfl) (Nat.le_of_ble_eq_true rfl) (Nat.le_of_ble_eq_true rfl) (fun r G' h => ?_)
  obtain ⟨rfl, rfl⟩ := h
  refine x_istore C d_KF_remove_19 (Nat.le_of_ble_eq_true rfl) rfl ?_
  refine x_iload C d_KF_remove_21 rfl ?_
  refine x_if_eq C 29 d_KF_remove_23 (by decide) (fun c_23 => ?_) (fun c_23 => ?_)
  · refine x_aload_n C d_KF_remove_29 rfl rfl ?_
    refine x_aload C d_KF_remove_30 rfl ?_
    refine x_lload_n C d_KF_remove_32 rfl rfl ?_
    refine x_callV2 C (hM) (lk_KF_149 C.hts (Nat.le_of_ble_eq_true rfl) (Nat.le_of_ble_eq_true rfl)) hG rfl rfl d_KF_remove_33 (Nat.le_of_ble_eq_true rfl) (Nat.le_of_ble_eq_true rfl) (Nat.le_of_ble_eq_true rfl) (fun r G' h => ?_)
    obtain ⟨rfl, rfl⟩ := h
    refine x_astore C d_KF_remove_36 (Nat.le_of_ble_eq_true rfl) rfl ?_
    refine x_aload C d_KF_remove_38 rfl ?_
    refine x_callV0 C (q_VW_forget l E hV) (lk_KF_65 C.hts (Nat.le_of_ble_eq_true rfl) (Nat.le_of_ble_eq_true rfl)) hV rfl rfl d_KF_remove_40 (Nat.le_of_ble_eq_true rfl) (Nat.le_of_ble_eq_true rfl) (Nat.le_of_ble_eq_true rfl) (fun r G' h => ?_)
    obtain ⟨rfl, rfl⟩ := h
    have hC1 := xCB_vw (v' := vForget v) hC hi hV
    obtain ⟨hG1, hL1, hn1, hk1, hv1, hs1, he1⟩ := id hC1
    have hF1 : xFm G (va_up G va (some (cVW (vForget v)))) := xFm.up hV (by decide)
    refine x_aload C d_KF_remove_43 rfl ?_
    refine x_ifnonnull C 54 d_KF_remove_45 (by decide) ?_
    refine x_aload_n C d_KF_remove_54 rfl rfl ?_
    refine x_aload C d_KF_remove_55 rfl ?_
    refine x_callV1 C (q_KF_dropRecord l E (σ := σ.vw i (vForget v)) hC1.S hd hdk) (lk_KF_163 C.hts (Nat.le_of_ble_eq_true rfl) (Nat.le_of_ble_eq_true rfl)) hG1 rfl rfl d_KF_remove_57 (Nat.le_of_ble_eq_true rfl) (Nat.le_of_ble_eq_true rfl) (Nat.le_of_ble_eq_true rfl) (fun r G' h => ?_)
    obtain ⟨rfl, hz, hF2⟩ := h
    refine x_iconst C (v := 0) d_KF_remove_60 (by decide) ?_
    exact x_iret C (Nat.le_of_ble_eq_true rfl) (Nat.le_of_ble_eq_true rfl) d_KF_remove_61 ⟨rfl, hz, hF1.tr hF2⟩
  · exact absurd hr c_23
set_option maxRecDepth 100000 in
set_option maxHeartbeats 4000000 in
theorem q_KF_rewrite_nv (l : Launch) (E : xE) {G : xw_G} {x : Nat} {σ : CS} {lo la : Nat → Nat} {lc : Nat → List Nat} (hC : xCB E G x σ lo la lc) {j : Int32} (hj : j < 0 ∨ nI (lc 1).length ≤ j) {b1 : Int64} : XMk l E y_KF_rewrite w_KF_rewrite rm_KF_rewrite [.ref x, .int (j), .long (b1)] G (fun r G' => r = some (.int (-1)) ∧ G = G') 12 2214 := by
  refine XM_of [some (.ref x), some (.int (j)), some (.long (b1)), none, none, none, none] (XZ_st E) (by decide) rfl rfl rfl (Nat.le_of_ble_eq_true rfl) (fun p e s m below meth c C hnm => ?_)
  obtain ⟨hG, hL, hnn, hk, hv, hs, he⟩ := id hC
  refine x_aload_n C d_KF_rewrite_0 rfl rfl ?_
  refine x_iload_n C d_KF_rewrite_1 rfl rfl ?_
  refine x_callV1 C (q_KF_viewAt_out l E hG (hL.1 1 (by omega)) hj) (lk_KF_51 C.hts (Nat.le_of_ble_eq_true rfl) (Nat.le_of_ble_eq_true rfl)) hG rfl rfl d_KF_rewrite_2 (Nat.le_of_ble_eq_true rfl) (Nat.le_of_ble_eq_true rfl) (Nat.le_of_ble_eq_true rfl) (fun r G' h => ?_)
  obtain ⟨rfl, rfl⟩ := h
  refine x_astoreN C d_KF_rewrite_5 (Nat.le_of_ble_eq_true rfl) rfl ?_
  refine x_aloadN C d_KF_rewrite_7 rfl ?_
  refine x_ifnonnullN C d_KF_rewrite_9 ?_
  refine x_iconst C (v := -1) d_KF_rewrite_12 (by decide) ?_
  exact x_iret C (Nat.le_of_ble_eq_true rfl) (Nat.le_of_ble_eq_true rfl) d_KF_rewrite_13 ⟨rfl, rfl⟩
set_option maxRecDepth 100000 in
set_option maxHeartbeats 4000000 in
theorem q_KF_rewrite_ref (l : Launch) (E : xE) {G : xw_G} {x : Nat} {σ : CS} {lo la : Nat → Nat} {lc : Nat → List Nat} (hC : xCB E G x σ lo la lc) {i va : Nat} {v : VD} (hi : (lc 1)[i]? = some va) (hV : G va = some (cVW v)) {b1 : Int64} (hr : ¬ refChange v.1 v.2.1 = 0) : XMk l E y_KF_rewrite w_KF_rewrite rm_KF_rewrite [.ref x, .int (nI i), .long (b1)] G (fun r G' => r = some (.int (refChange v.1 v.2.1)) ∧ G = G') 12 2214 := by
  refine XM_of [some (.ref x), some (.int (nI i)), some (.long (b1)), none, none, none, none] (XZ_st E) (by decide) rfl rfl rfl (Nat.le_of_ble_eq_true rfl) (fun p e s m below meth c C hnm => ?_)
  obtain ⟨hG, hL, hnn, hk, hv, hs, he⟩ := id hC
  refine x_aload_n C d_KF_rewrite_0 rfl rfl ?_
  refine x_iload_n C d_KF_rewrite_1 rfl rfl ?_
  refine x_callV1 C (q_KF_viewAt_in l E hG (hL.1 1 (by omega)) hi hV) (lk_KF_51 C.hts (Nat.le_of_ble_eq_true rfl) (Nat.le_of_ble_eq_true rfl)) hG rfl rfl d_KF_rewrite_2 (Nat.le_of_ble_eq_true rfl) (Nat.le_of_ble_eq_true rfl) (Nat.le_of_ble_eq_true rfl) (fun r G' h => ?_)
  obtain ⟨rfl, rfl⟩ := h
  refine x_astore C d_KF_rewrite_5 (Nat.le_of_ble_eq_true rfl) rfl ?_
  refine x_aload C d_KF_rewrite_7 rfl ?_
  refine x_ifnonnull C 14 d_KF_rewrite_9 (by decide) ?_
  refine x_aload C d_KF_rewrite_14 rfl ?_
  refine x_callV0 C (q_VW_refusalToChange l E hV) (lk_KF_146 C.hts (Nat.le_of_ble_eq_true rfl) (Nat.le_of_ble_eq_true rfl)) hV rfl rfl d_KF_rewrite_16 (Nat.le_of_ble_eq_true rfl) (Nat.le_of_ble_eq_true rfl) (Nat.le_of_ble_eq_true rfl) (fun r G' h => ?_)
  obtain ⟨rfl, rfl⟩ := h
  refine x_istore C d_KF_rewrite_19 (Nat.le_of_ble_eq_true rfl) rfl ?_
  refine x_iload C d_KF_rewrite_21 rfl ?_
  refine x_if_eq C 29 d_KF_rewrite_23 (by decide) (fun c_23 => ?_) (fun c_23 => ?_)
  · exact absurd c_23 hr
  · refine x_iload C d_KF_rewrite_26 rfl ?_
    exact x_iret C (Nat.le_of_ble_eq_true rfl) (Nat.le_of_ble_eq_true rfl) d_KF_rewrite_28 ⟨rfl, rfl⟩
set_option maxRecDepth 100000 in
set_option maxHeartbeats 4000000 in
theorem q_KF_rewrite_none (l : Launch) (E : xE) {G : xw_G} {x : Nat} {σ : CS} {lo la : Nat → Nat} {lc : Nat → List Nat} (hC : xCB E G x σ lo la lc) {i va : Nat} {v : VD} (hi : (lc 1)[i]? = some va) (hV : G va = some (cVW v)) {q : KD × List E3} (hq : (sK σ)[0]? = some q) {b1 : Int64} (hr : refChange v.1 v.2.1 = 0) (hM : XMk l E y_KF_recordToChange w_KF_recordToChange rm_KF_recordToChange [.ref x, .ref va, .long (fK q.1 b1)] G (fun r G' => r = some (.null) ∧ G = G') 0 0) : XMk l E y_KF_rewrite w_KF_rewrite rm_KF_rewrite [.ref x, .int (nI i), .long (b1)] G (cPost E G x (some (.int (if v.2.2.1 = 0 then 43 else 23))) (σ.vw i (vForget v))) 12 2214 := by
  refine XM_of [some (.ref x), some (.int (nI i)), some (.long (b1)), none, none, none, none] (XZ_st E) (by decide) rfl rfl rfl (Nat.le_of_ble_eq_true rfl) (fun p e s m below meth c C hnm => ?_)
  obtain ⟨hG, hL, hnn, hk, hv, hs, he⟩ := id hC
  obtain ⟨⟨ki0, hki0, hK0⟩, hX0⟩ := hk 0 q hq
  have hl0 := (List.getElem?_eq_some_iff.mp hq).1
  refine x_aload_n C d_KF_rewrite_0 rfl rfl ?_
  refine x_iload_n C d_KF_rewrite_1 rfl rfl ?_
  refine x_callV1 C (q_KF_viewAt_in l E hG (hL.1 1 (by omega)) hi hV) (lk_KF_51 C.hts (Nat.le_of_ble_eq_true rfl) (Nat.le_of_ble_eq_true rfl)) hG rfl rfl d_KF_rewrite_2 (Nat.le_of_ble_eq_true rfl) (Nat.le_of_ble_eq_true rfl) (Nat.le_of_ble_eq_true rfl) (fun r G' h => ?_)
  obtain ⟨rfl, rfl⟩ := h
  refine x_astore C d_KF_rewrite_5 (Nat.le_of_ble_eq_true rfl) rfl ?_
  refine x_aload C d_KF_rewrite_7 rfl ?_
  refine x_ifnonnull C 14 d_KF_rewrite_9 (by decide) ?_
  refine x_aload C d_KF_rewrite_14 rfl ?_
  refine x_callV0 C (q_VW_refusalToChange l E hV) (lk_KF_146 C.hts (Nat.le_of_ble_eq_true rfl) (Nat.le_of_ble_eq_true rfl)) hV rfl rfl d_KF_rewrite_16 (Nat.le_of_ble_eq_true rfl) (Nat.le_of_ble_eq_true rfl) (Nat.le_of_ble_eq_true rfl) (fun r G' h => ?_)
  obtain ⟨rfl, rfl⟩ := h
  refine x_istore C d_KF_rewrite_19 (Nat.le_of_ble_eq_true rfl) rfl ?_
  refine x_iload C d_KF_rewrite_21 rfl ?_
  refine x_if_eq C 29 d_KF_rewrite_23 (by decide) (fun c_23 => ?_) (fun c_23 => ?_)
  · refine x_aload_n C d_KF_rewrite_29 rfl rfl ?_
    refine x_aload C d_KF_rewrite_30 rfl ?_
    refine x_aload_n C d_KF_rewrite_32 rfl rfl ?_
    refine x_iconst C (v := 0) d_KF_rewrite_33 (by decide) ?_
    refine x_lload_n C d_KF_rewrite_34 rfl rfl ?_
    refine x_callV2 C (q_KF_fieldOf_in l E (i := 0) hG (hL.1 0 (by omega)) hK0 hki0) (lk_KF_87 C.hts (Nat.le_of_ble_eq_true rfl) (Nat.le_of_ble_eq_true rfl)) hG rfl rfl d_KF_rewrite_35 (Nat.le_of_ble_eq_true rfl) (Nat.le_of_ble_eq_true rfl) (Nat.le_of_ble_eq_true rfl) (fun r G' h => ?_)
    obtain ⟨rfl, rfl⟩ := h
    refine x_callV2 C (hM) (lk_KF_149 C.hts (Nat.le_of_ble_eq_true rfl) (Nat.le_of_ble_eq_true rfl)) hG rfl rfl d_KF_rewrite_38 (Nat.le_of_ble_eq_true rfl) (Nat.le_of_ble_eq_true rfl) (Nat.le_of_ble_eq_true rfl) (fun r G' h => ?_)
    obtain ⟨rfl, rfl⟩ := h
    refine x_astoreN C d_KF_rewrite_41 (Nat.le_of_ble_eq_true rfl) rfl ?_
    refine x_aload C d_KF_rewrite_43 rfl ?_
    refine x_callV0 C (q_VW_forget l E hV) (lk_KF_65 C.hts (Nat.le_of_ble_eq_true rfl) (Nat.le_of_ble_eq_true rfl)) hV rfl rfl d_KF_rewrite_45 (Nat.le_of_ble_eq_true rfl) (Nat.le_of_ble_eq_true rfl) (Nat.le_of_ble_eq_true rfl) (fun r G' h => ?_)
    obtain ⟨rfl, rfl⟩ := h
    have hC1 := xCB_vw (v' := vForget v) hC hi hV
    obtain ⟨hG1, hL1, hn1, hk1, hv1, hs1, he1⟩ := id hC1
    have hF1 : xFm G (va_up G va (some (cVW (vForget v)))) := xFm.up hV (by decide)
    refine x_aloadN C d_KF_rewrite_48 rfl ?_
    refine x_ifnonnullN C d_KF_rewrite_50 ?_
    refine x_aload C d_KF_rewrite_53 rfl ?_
    refine x_callV0 C (q_VW_statusOfNoRecord l E (va_up_self _ _ _)) (lk_KF_153 C.hts (Nat.le_of_ble_eq_true rfl) (Nat.le_of_ble_eq_true rfl)) (va_up_self _ _ _) rfl rfl d_KF_rewrite_55 (Nat.le_of_ble_eq_true rfl) (Nat.le_of_ble_eq_true rfl) (Nat.le_of_ble_eq_true rfl) (fun r G' h => ?_)
    obtain ⟨rfl, rfl⟩ := h
    exact x_iret C (Nat.le_of_ble_eq_true rfl) (Nat.le_of_ble_eq_true rfl) d_KF_rewrite_58 ⟨rfl, hC1.S, hF1⟩
  · exact absurd hr c_23
set_option maxRecDepth 100000 in
set_option maxHeartbeats 4000000 in
theorem q_KF_rewrite_21 (l : Launch) (E : xE) {G : xw_G} {x : Nat} {σ : CS} {lo la : Nat → Nat} {lc : Nat → List Nat} (hC : xCB E G x σ lo la lc) {i va : Nat} {v : VD} (hi : (lc 1)[i]? = some va) (hV : G va = some (cVW v)) {q : KD × List E3} (hq : (sK σ)[0]? = some q) {s0 : Nat} {b1 b0 : Int64} {th : Bool} (hr : refChange v.1 v.2.1 = 0) (hM : XMk l E y_KF_recordToChange w_KF_recordToChange rm_KF_recordToChange [.ref x, .ref va, .long (fK q.1 b1)] G (fun r G' => r = some (.ref s0) ∧ G = G') 0 0) (hd : sD σ s0 = some (b0, th)) (hf : ¬ fK q.1 b0 = fK q.1 b1) : XMk l E y_KF_rewrite w_KF_rewrite rm_KF_rewrite [.ref x, .int (nI i), .long (b1)] G (cPost E G x (some (.int 21)) (σ.vw i (vForget v))) 12 2214 := by
  refine XM_of [some (.ref x), some (.int (nI i)), some (.long (b1)), none, none, none, none] (XZ_st E) (by decide) rfl rfl rfl (Nat.le_of_ble_eq_true rfl) (fun p e s m below meth c C hnm => ?_)
  obtain ⟨hG, hL, hnn, hk, hv, hs, he⟩ := id hC
  obtain ⟨⟨ki0, hki0, hK0⟩, hX0⟩ := hk 0 q hq
  have hl0 := (List.getElem?_eq_some_iff.mp hq).1
  obtain ⟨w, hw, hS⟩ := hs s0 _ hd
  refine x_aload_n C d_KF_rewrite_0 rfl rfl ?_
  refine x_iload_n C d_KF_rewrite_1 rfl rfl ?_
  refine x_callV1 C (q_KF_viewAt_in l E hG (hL.1 1 (by omega)) hi hV) (lk_KF_51 C.hts (Nat.le_of_ble_eq_true rfl) (Nat.le_of_ble_eq_true rfl)) hG rfl rfl d_KF_rewrite_2 (Nat.le_of_ble_eq_true rfl) (Nat.le_of_ble_eq_true rfl) (Nat.le_of_ble_eq_true rfl) (fun r G' h => ?_)
  obtain ⟨rfl, rfl⟩ := h
  refine x_astore C d_KF_rewrite_5 (Nat.le_of_ble_eq_true rfl) rfl ?_
  refine x_aload C d_KF_rewrite_7 rfl ?_
  refine x_ifnonnull C 14 d_KF_rewrite_9 (by decide) ?_
  refine x_aload C d_KF_rewrite_14 rfl ?_
  refine x_callV0 C (q_VW_refusalToChange l E hV) (lk_KF_146 C.hts (Nat.le_of_ble_eq_true rfl) (Nat.le_of_ble_eq_true rfl)) hV rfl rfl d_KF_rewrite_16 (Nat.le_of_ble_eq_true rfl) (Nat.le_of_ble_eq_true rfl) (Nat.le_of_ble_eq_true rfl) (fun r G' h => ?_)
  obtain ⟨rfl, rfl⟩ := h
  refine x_istore C d_KF_rewrite_19 (Nat.le_of_ble_eq_true rfl) rfl ?_
  refine x_iload C d_KF_rewrite_21 rfl ?_
  refine x_if_eq C 29 d_KF_rewrite_23 (by decide) (fun c_23 => ?_) (fun c_23 => ?_)
  · refine x_aload_n C d_KF_rewrite_29 rfl rfl ?_
    refine x_aload C d_KF_rewrite_30 rfl ?_
    refine x_aload_n C d_KF_rewrite_32 rfl rfl ?_
    refine x_iconst C (v := 0) d_KF_rewrite_33 (by decide) ?_
    refine x_lload_n C d_KF_rewrite_34 rfl rfl ?_
    refine x_callV2 C (q_KF_fieldOf_in l E (i := 0) hG (hL.1 0 (by omega)) hK0 hki0) (lk_KF_87 C.hts (Nat.le_of_ble_eq_true rfl) (Nat.le_of_ble_eq_true rfl)) hG rfl rfl d_KF_rewrite_35 (Nat.le_of_ble_eq_true rfl) (Nat.le_of_ble_eq_true rfl) (Nat.le_of_ble_eq_true rfl) (fun r G' h => ?_)
    obtain ⟨rfl, rfl⟩ := h
    refine x_callV2 C (hM) (lk_KF_149 C.hts (Nat.le_of_ble_eq_true rfl) (Nat.le_of_ble_eq_true rfl)) hG rfl rfl d_KF_rewrite_38 (Nat.le_of_ble_eq_true rfl) (Nat.le_of_ble_eq_true rfl) (Nat.le_of_ble_eq_true rfl) (fun r G' h => ?_)
    obtain ⟨rfl, rfl⟩ := h
    refine x_astore C d_KF_rewrite_41 (Nat.le_of_ble_eq_true rfl) rfl ?_
    refine x_aload C d_KF_rewrite_43 rfl ?_
    refine x_callV0 C (q_VW_forget l E hV) (lk_KF_65 C.hts (Nat.le_of_ble_eq_true rfl) (Nat.le_of_ble_eq_true rfl)) hV rfl rfl d_KF_rewrite_45 (Nat.le_of_ble_eq_true rfl) (Nat.le_of_ble_eq_true rfl) (Nat.le_of_ble_eq_true rfl) (fun r G' h => ?_)
    obtain ⟨rfl, rfl⟩ := h
    have hC1 := xCB_vw (v' := vForget v) hC hi hV
    obtain ⟨hG1, hL1, hn1, hk1, hv1, hs1, he1⟩ := id hC1
    have hF1 : xFm G (va_up G va (some (cVW (vForget v)))) := xFm.up hV (by decide)
    obtain ⟨⟨ki, hki, hK1⟩, hX1⟩ := hk1 0 q hq
    refine x_aload C d_KF_rewrite_48 rfl ?_
    refine x_ifnonnull C 59 d_KF_rewrite_50 (by decide) ?_
    refine x_aload_n C d_KF_rewrite_59 rfl rfl ?_
    refine x_iconst C (v := 0) d_KF_rewrite_60 (by decide) ?_
    refine x_aload C d_KF_rewrite_61 rfl ?_
    refine x_get C (xw_keep hS (xw_neC hS hV (by decide))) rfl (in_ST _) 0 (by decide) (List.mem_cons_of_mem _ f_KF_156) rfl d_KF_rewrite_63 ?_
    refine x_callV2 C (q_KF_fieldOf_in l E (i := 0) hG1 (hL1.1 0 (by omega)) hK1 hki) (lk_KF_87 C.hts (Nat.le_of_ble_eq_true rfl) (Nat.le_of_ble_eq_true rfl)) hG1 rfl rfl d_KF_rewrite_66 (Nat.le_of_ble_eq_true rfl) (Nat.le_of_ble_eq_true rfl) (Nat.le_of_ble_eq_true rfl) (fun r G' h => ?_)
    obtain ⟨rfl, rfl⟩ := h
    refine x_aload_n C d_KF_rewrite_69 rfl rfl ?_
    refine x_iconst C (v := 0) d_KF_rewrite_70 (by decide) ?_
    refine x_lload_n C d_KF_rewrite_71 rfl rfl ?_
    refine x_callV2 C (q_KF_fieldOf_in l E (i := 0) hG1 (hL1.1 0 (by omega)) hK1 hki) (lk_KF_87 C.hts (Nat.le_of_ble_eq_true rfl) (Nat.le_of_ble_eq_true rfl)) hG1 rfl rfl d_KF_rewrite_72 (Nat.le_of_ble_eq_true rfl) (Nat.le_of_ble_eq_true rfl) (Nat.le_of_ble_eq_true rfl) (fun r G' h => ?_)
    obtain ⟨rfl, rfl⟩ := h
    refine x_lcmp C d_KF_rewrite_75 ?_
    refine x_if_eq C 82 d_KF_rewrite_76 (by decide) (fun c_76 => ?_) (fun c_76 => ?_)
    · exact absurd ((lg_eq _ _).mp c_76) hf
    · refine x_bipush C (v := 21) d_KF_rewrite_79 (by decide) ?_
      exact x_iret C (Nat.le_of_ble_eq_true rfl) (Nat.le_of_ble_eq_true rfl) d_KF_rewrite_81 ⟨rfl, hC1.S, hF1⟩
  · exact absurd hr c_23
set_option maxRecDepth 100000 in
set_option maxHeartbeats 4000000 in
theorem q_KF_rewrite_22 (l : Launch) (E : xE) {G : xw_G} {x : Nat} {σ : CS} {lo la : Nat → Nat} {lc : Nat → List Nat} (hC : xCB E G x σ lo la lc) {i va : Nat} {v : VD} (hi : (lc 1)[i]? = some va) (hV : G va = some (cVW v)) {q : KD × List E3} (hq : (sK σ)[0]? = some q) {s0 : Nat} {b1 b0 : Int64} {th : Bool} (hr : refChange v.1 v.2.1 = 0) (hM : XMk l E y_KF_recordToChange w_KF_recordToChange rm_KF_recordToChange [.ref x, .ref va, .long (fK q.1 b1)] G (fun r G' => r = some (.ref s0) ∧ G = G') 0 0) (hd : sD σ s0 = some (b0, th)) (hf : fK q.1 b0 = fK q.1 b1) (hsr : ∀ (i : Nat) (q : KD × List E3), (sK σ)[i]? = some q → srt q.2) (hba : (sK σ).any (barK b1 (some s0)) = true) : XMk l E y_KF_rewrite w_KF_rewrite rm_KF_rewrite [.ref x, .int (nI i), .long (b1)] G (cPost E G x (some (.int 22)) (σ.vw i (vForget v))) 12 2214 := by
  refine XM_of [some (.ref x), some (.int (nI i)), some (.long (b1)), none, none, none, none] (XZ_st E) (by decide) rfl rfl rfl (Nat.le_of_ble_eq_true rfl) (fun p e s m below meth c C hnm => ?_)
  obtain ⟨hG, hL, hnn, hk, hv, hs, he⟩ := id hC
  obtain ⟨⟨ki0, hki0, hK0⟩, hX0⟩ := hk 0 q hq
  have hl0 := (List.getElem?_eq_some_iff.mp hq).1
  obtain ⟨w, hw, hS⟩ := hs s0 _ hd
  refine x_aload_n C d_KF_rewrite_0 rfl rfl ?_
  refine x_iload_n C d_KF_rewrite_1 rfl rfl ?_
  refine x_callV1 C (q_KF_viewAt_in l E hG (hL.1 1 (by omega)) hi hV) (lk_KF_51 C.hts (Nat.le_of_ble_eq_true rfl) (Nat.le_of_ble_eq_true rfl)) hG rfl rfl d_KF_rewrite_2 (Nat.le_of_ble_eq_true rfl) (Nat.le_of_ble_eq_true rfl) (Nat.le_of_ble_eq_true rfl) (fun r G' h => ?_)
  obtain ⟨rfl, rfl⟩ := h
  refine x_astore C d_KF_rewrite_5 (Nat.le_of_ble_eq_true rfl) rfl ?_
  refine x_aload C d_KF_rewrite_7 rfl ?_
  refine x_ifnonnull C 14 d_KF_rewrite_9 (by decide) ?_
  refine x_aload C d_KF_rewrite_14 rfl ?_
  refine x_callV0 C (q_VW_refusalToChange l E hV) (lk_KF_146 C.hts (Nat.le_of_ble_eq_true rfl) (Nat.le_of_ble_eq_true rfl)) hV rfl rfl d_KF_rewrite_16 (Nat.le_of_ble_eq_true rfl) (Nat.le_of_ble_eq_true rfl) (Nat.le_of_ble_eq_true rfl) (fun r G' h => ?_)
  obtain ⟨rfl, rfl⟩ := h
  refine x_istore C d_KF_rewrite_19 (Nat.le_of_ble_eq_true rfl) rfl ?_
  refine x_iload C d_KF_rewrite_21 rfl ?_
  refine x_if_eq C 29 d_KF_rewrite_23 (by decide) (fun c_23 => ?_) (fun c_23 => ?_)
  · refine x_aload_n C d_KF_rewrite_29 rfl rfl ?_
    refine x_aload C d_KF_rewrite_30 rfl ?_
    refine x_aload_n C d_KF_rewrite_32 rfl rfl ?_
    refine x_iconst C (v := 0) d_KF_rewrite_33 (by decide) ?_
    refine x_lload_n C d_KF_rewrite_34 rfl rfl ?_
    refine x_callV2 C (q_KF_fieldOf_in l E (i := 0) hG (hL.1 0 (by omega)) hK0 hki0) (lk_KF_87 C.hts (Nat.le_of_ble_eq_true rfl) (Nat.le_of_ble_eq_true rfl)) hG rfl rfl d_KF_rewrite_35 (Nat.le_of_ble_eq_true rfl) (Nat.le_of_ble_eq_true rfl) (Nat.le_of_ble_eq_true rfl) (fun r G' h => ?_)
    obtain ⟨rfl, rfl⟩ := h
    refine x_callV2 C (hM) (lk_KF_149 C.hts (Nat.le_of_ble_eq_true rfl) (Nat.le_of_ble_eq_true rfl)) hG rfl rfl d_KF_rewrite_38 (Nat.le_of_ble_eq_true rfl) (Nat.le_of_ble_eq_true rfl) (Nat.le_of_ble_eq_true rfl) (fun r G' h => ?_)
    obtain ⟨rfl, rfl⟩ := h
    refine x_astore C d_KF_rewrite_41 (Nat.le_of_ble_eq_true rfl) rfl ?_
    refine x_aload C d_KF_rewrite_43 rfl ?_
    refine x_callV0 C (q_VW_forget l E hV) (lk_KF_65 C.hts (Nat.le_of_ble_eq_true rfl) (Nat.le_of_ble_eq_true rfl)) hV rfl rfl d_KF_rewrite_45 (Nat.le_of_ble_eq_true rfl) (Nat.le_of_ble_eq_true rfl) (Nat.le_of_ble_eq_true rfl) (fun r G' h => ?_)
    obtain ⟨rfl, rfl⟩ := h
    have hC1 := xCB_vw (v' := vForget v) hC hi hV
    obtain ⟨hG1, hL1, hn1, hk1, hv1, hs1, he1⟩ := id hC1
    have hF1 : xFm G (va_up G va (some (cVW (vForget v)))) := xFm.up hV (by decide)
    obtain ⟨⟨ki, hki, hK1⟩, hX1⟩ := hk1 0 q hq
    refine x_aload C d_KF_rewrite_48 rfl ?_
    refine x_ifnonnull C 59 d_KF_rewrite_50 (by decide) ?_
    refine x_aload_n C d_KF_rewrite_59 rfl rfl ?_
    refine x_iconst C (v := 0) d_KF_rewrite_60 (by decide) ?_
    refine x_aload C d_KF_rewrite_61 rfl ?_
    refine x_get C (xw_keep hS (xw_neC hS hV (by decide))) rfl (in_ST _) 0 (by decide) (List.mem_cons_of_mem _ f_KF_156) rfl d_KF_rewrite_63 ?_
    refine x_callV2 C (q_KF_fieldOf_in l E (i := 0) hG1 (hL1.1 0 (by omega)) hK1 hki) (lk_KF_87 C.hts (Nat.le_of_ble_eq_true rfl) (Nat.le_of_ble_eq_true rfl)) hG1 rfl rfl d_KF_rewrite_66 (Nat.le_of_ble_eq_true rfl) (Nat.le_of_ble_eq_true rfl) (Nat.le_of_ble_eq_true rfl) (fun r G' h => ?_)
    obtain ⟨rfl, rfl⟩ := h
    refine x_aload_n C d_KF_rewrite_69 rfl rfl ?_
    refine x_iconst C (v := 0) d_KF_rewrite_70 (by decide) ?_
    refine x_lload_n C d_KF_rewrite_71 rfl rfl ?_
    refine x_callV2 C (q_KF_fieldOf_in l E (i := 0) hG1 (hL1.1 0 (by omega)) hK1 hki) (lk_KF_87 C.hts (Nat.le_of_ble_eq_true rfl) (Nat.le_of_ble_eq_true rfl)) hG1 rfl rfl d_KF_rewrite_72 (Nat.le_of_ble_eq_true rfl) (Nat.le_of_ble_eq_true rfl) (Nat.le_of_ble_eq_true rfl) (fun r G' h => ?_)
    obtain ⟨rfl, rfl⟩ := h
    refine x_lcmp C d_KF_rewrite_75 ?_
    refine x_if_eq C 82 d_KF_rewrite_76 (by decide) (fun c_76 => ?_) (fun c_76 => ?_)
    · refine x_aload_n C d_KF_rewrite_82 rfl rfl ?_
      refine x_lload_n C d_KF_rewrite_83 rfl rfl ?_
      refine x_aload C d_KF_rewrite_84 rfl ?_
      refine x_callV2 C (q_KF_barred_s l E (σ := σ.vw i (vForget v)) hC1.S hsr) (lk_KF_79 C.hts (Nat.le_of_ble_eq_true rfl) (Nat.le_of_ble_eq_true rfl)) hG1 rfl rfl d_KF_rewrite_86 (Nat.le_of_ble_eq_true rfl) (Nat.le_of_ble_eq_true rfl) (Nat.le_of_ble_eq_true rfl) (fun r G' h => ?_)
      obtain ⟨rfl, rfl⟩ := h
      refine x_if_eq C 95 d_KF_rewrite_89 (by decide) (fun c_89 => ?_) (fun c_89 => ?_)
      · exact absurd (hba.symm.trans ((bI_0 _).mp c_89)) (by decide)
      · refine x_bipush C (v := 22) d_KF_rewrite_92 (by decide) ?_
        exact x_iret C (Nat.le_of_ble_eq_true rfl) (Nat.le_of_ble_eq_true rfl) d_KF_rewrite_94 ⟨rfl, hC1.S, hF1⟩
    · exact absurd ((lg_eq _ _).mpr hf) c_76
  · exact absurd hr c_23
set_option maxRecDepth 100000 in
set_option maxHeartbeats 4000000 in
theorem q_KF_rewrite_ok (l : Launch) (E : xE) {G : xw_G} {x : Nat} {σ : CS} {lo la : Nat → Nat} {lc : Nat → List Nat} (hC : xCB E G x σ lo la lc) {i va : Nat} {v : VD} (hi : (lc 1)[i]? = some va) (hV : G va = some (cVW v)) {q : KD × List E3} (hq : (sK σ)[0]? = some q) {s0 : Nat} {b1 b0 : Int64} {th : Bool} (hr : refChange v.1 v.2.1 = 0) (hM : XMk l E y_KF_recordToChange w_KF_recordToChange rm_KF_recordToChange [.ref x, .ref va, .long (fK q.1 b1)] G (fun r G' => r = some (.ref s0) ∧ G = G') 0 0) (hd : sD σ s0 = some (b0, th)) (hf : fK q.1 b0 = fK q.1 b1) (hsr : ∀ (i : Nat) (q : KD × List E3), (sK σ)[i]? = some q → srt q.2) (hba : (sK σ).any (barK b1 (some s0)) = false) (h6 : (sK σ).length ≤ 6) (hdk : ∀ (i : Nat) (q : KD × List E3), (sK σ)[i]? = some q → dOK q.2 s0 (fK q.1 b0) ∧ q.2.length ≤ 300) : XMk l E y_KF_rewrite w_KF_rewrite rm_KF_rewrite [.ref x, .int (nI i), .long (b1)] G (cPost E G x (some (.int (if mvB (sK σ) b0 b1 s0 (sA σ) (sK σ).length = true then 2 else 0))) ((sK σ).mapIdx (mvF (sK σ) b0 b1 s0 (sA σ)), (sV σ).set i (vForget v), va_up (sD σ) s0 (some (b1, th)), sO σ, sA σ + nch (sK σ) b0 b1 (sK σ).length, sW σ)) 12 2214 := by
  refine XM_of [some (.ref x), some (.int (nI i)), some (.long (b1)), none, none, none, none] (XZ_st E) (by decide) rfl rfl rfl (Nat.le_of_ble_eq_true rfl) (fun p e s m below meth c C hnm => ?_)
  obtain ⟨hG, hL, hnn, hk, hv, hs, he⟩ := id hC
  obtain ⟨⟨ki0, hki0, hK0⟩, hX0⟩ := hk 0 q hq
  have hl0 := (List.getElem?_eq_some_iff.mp hq).1
  obtain ⟨w, hw, hS⟩ := hs s0 _ hd
  refine x_aload_n C d_KF_rewrite_0 rfl rfl ?_
  refine x_iload_n C d_KF_rewrite_1 rfl rfl ?_
  refine x_callV1 C (q_KF_viewAt_in l E hG (hL.1 1 (by omega)) hi hV) (lk_KF_51 C.hts (Nat.le_of_ble_eq_true rfl) (Nat.le_of_ble_eq_true rfl)) hG rfl rfl d_KF_rewrite_2 (Nat.le_of_ble_eq_true rfl) (Nat.le_of_ble_eq_true rfl) (Nat.le_of_ble_eq_true rfl) (fun r G' h => ?_)
  obtain ⟨rfl, rfl⟩ := h
  refine x_astore C d_KF_rewrite_5 (Nat.le_of_ble_eq_true rfl) rfl ?_
  refine x_aload C d_KF_rewrite_7 rfl ?_
  refine x_ifnonnull C 14 d_KF_rewrite_9 (by decide) ?_
  refine x_aload C d_KF_rewrite_14 rfl ?_
  refine x_callV0 C (q_VW_refusalToChange l E hV) (lk_KF_146 C.hts (Nat.le_of_ble_eq_true rfl) (Nat.le_of_ble_eq_true rfl)) hV rfl rfl d_KF_rewrite_16 (Nat.le_of_ble_eq_true rfl) (Nat.le_of_ble_eq_true rfl) (Nat.le_of_ble_eq_true rfl) (fun r G' h => ?_)
  obtain ⟨rfl, rfl⟩ := h
  refine x_istore C d_KF_rewrite_19 (Nat.le_of_ble_eq_true rfl) rfl ?_
  refine x_iload C d_KF_rewrite_21 rfl ?_
  refine x_if_eq C 29 d_KF_rewrite_23 (by decide) (fun c_23 => ?_) (fun c_23 => ?_)
  · refine x_aload_n C d_KF_rewrite_29 rfl rfl ?_
    refine x_aload C d_KF_rewrite_30 rfl ?_
    refine x_aload_n C d_KF_rewrite_32 rfl rfl ?_
    refine x_iconst C (v := 0) d_KF_rewrite_33 (by decide) ?_
    refine x_lload_n C d_KF_rewrite_34 rfl rfl ?_
    refine x_callV2 C (q_KF_fieldOf_in l E (i := 0) hG (hL.1 0 (by omega)) hK0 hki0) (lk_KF_87 C.hts (Nat.le_of_ble_eq_true rfl) (Nat.le_of_ble_eq_true rfl)) hG rfl rfl d_KF_rewrite_35 (Nat.le_of_ble_eq_true rfl) (Nat.le_of_ble_eq_true rfl) (Nat.le_of_ble_eq_true rfl) (fun r G' h => ?_)
    obtain ⟨rfl, rfl⟩ := h
    refine x_callV2 C (hM) (lk_KF_149 C.hts (Nat.le_of_ble_eq_true rfl) (Nat.le_of_ble_eq_true rfl)) hG rfl rfl d_KF_rewrite_38 (Nat.le_of_ble_eq_true rfl) (Nat.le_of_ble_eq_true rfl) (Nat.le_of_ble_eq_true rfl) (fun r G' h => ?_)
    obtain ⟨rfl, rfl⟩ := h
    refine x_astore C d_KF_rewrite_41 (Nat.le_of_ble_eq_true rfl) rfl ?_
    refine x_aload C d_KF_rewrite_43 rfl ?_
    refine x_callV0 C (q_VW_forget l E hV) (lk_KF_65 C.hts (Nat.le_of_ble_eq_true rfl) (Nat.le_of_ble_eq_true rfl)) hV rfl rfl d_KF_rewrite_45 (Nat.le_of_ble_eq_true rfl) (Nat.le_of_ble_eq_true rfl) (Nat.le_of_ble_eq_true rfl) (fun r G' h => ?_)
    obtain ⟨rfl, rfl⟩ := h
    have hC1 := xCB_vw (v' := vForget v) hC hi hV
    obtain ⟨hG1, hL1, hn1, hk1, hv1, hs1, he1⟩ := id hC1
    have hF1 : xFm G (va_up G va (some (cVW (vForget v)))) := xFm.up hV (by decide)
    obtain ⟨⟨ki, hki, hK1⟩, hX1⟩ := hk1 0 q hq
    refine x_aload C d_KF_rewrite_48 rfl ?_
    refine x_ifnonnull C 59 d_KF_rewrite_50 (by decide) ?_
    refine x_aload_n C d_KF_rewrite_59 rfl rfl ?_
    refine x_iconst C (v := 0) d_KF_rewrite_60 (by decide) ?_
    refine x_aload C d_KF_rewrite_61 rfl ?_
    refine x_get C (xw_keep hS (xw_neC hS hV (by decide))) rfl (in_ST _) 0 (by decide) (List.mem_cons_of_mem _ f_KF_156) rfl d_KF_rewrite_63 ?_
    refine x_callV2 C (q_KF_fieldOf_in l E (i := 0) hG1 (hL1.1 0 (by omega)) hK1 hki) (lk_KF_87 C.hts (Nat.le_of_ble_eq_true rfl) (Nat.le_of_ble_eq_true rfl)) hG1 rfl rfl d_KF_rewrite_66 (Nat.le_of_ble_eq_true rfl) (Nat.le_of_ble_eq_true rfl) (Nat.le_of_ble_eq_true rfl) (fun r G' h => ?_)
    obtain ⟨rfl, rfl⟩ := h
    refine x_aload_n C d_KF_rewrite_69 rfl rfl ?_
    refine x_iconst C (v := 0) d_KF_rewrite_70 (by decide) ?_
    refine x_lload_n C d_KF_rewrite_71 rfl rfl ?_
    refine x_callV2 C (q_KF_fieldOf_in l E (i := 0) hG1 (hL1.1 0 (by omega)) hK1 hki) (lk_KF_87 C.hts (Nat.le_of_ble_eq_true rfl) (Nat.le_of_ble_eq_true rfl)) hG1 rfl rfl d_KF_rewrite_72 (Nat.le_of_ble_eq_true rfl) (Nat.le_of_ble_eq_true rfl) (Nat.le_of_ble_eq_true rfl) (fun r G' h => ?_)
    obtain ⟨rfl, rfl⟩ := h
    refine x_lcmp C d_KF_rewrite_75 ?_
    refine x_if_eq C 82 d_KF_rewrite_76 (by decide) (fun c_76 => ?_) (fun c_76 => ?_)
    · refine x_aload_n C d_KF_rewrite_82 rfl rfl ?_
      refine x_lload_n C d_KF_rewrite_83 rfl rfl ?_
      refine x_aload C d_KF_rewrite_84 rfl ?_
      refine x_callV2 C (q_KF_barred_s l E (σ := σ.vw i (vForget v)) hC1.S hsr) (lk_KF_79 C.hts (Nat.le_of_ble_eq_true rfl) (Nat.le_of_ble_eq_true rfl)) hG1 rfl rfl d_KF_rewrite_86 (Nat.le_of_ble_eq_true rfl) (Nat.le_of_ble_eq_true rfl) (Nat.le_of_ble_eq_true rfl) (fun r G' h => ?_)
      obtain ⟨rfl, rfl⟩ := h
      refine x_if_eq C 95 d_KF_rewrite_89 (by decide) (fun c_89 => ?_) (fun c_89 => ?_)
      · refine x_aload_n C d_KF_rewrite_95 rfl rfl ?_
        refine x_aload C d_KF_rewrite_96 rfl ?_
        refine x_lload_n C d_KF_rewrite_98 rfl rfl ?_
        refine x_callV2 C (q_KF_moveChangedEntries l E (σ := σ.vw i (vForget v)) hC1.S hd h6 hdk) (lk_KF_159 C.hts (Nat.le_of_ble_eq_true rfl) (Nat.le_of_ble_eq_true rfl)) hG1 rfl rfl d_KF_rewrite_99 (Nat.le_of_ble_eq_true rfl) (Nat.le_of_ble_eq_true rfl) (Nat.le_of_ble_eq_true rfl) (fun r G' h => ?_)
        obtain ⟨rfl, hz, hF2⟩ := h
        refine x_if_eq C 109 d_KF_rewrite_102 (by decide) (fun c_102 => ?_) (fun c_102 => ?_)
        · refine x_iconst C (v := 0) d_KF_rewrite_109 (by decide) ?_
          exact x_iret C (Nat.le_of_ble_eq_true rfl) (Nat.le_of_ble_eq_true rfl) d_KF_rewrite_110 ⟨congrArg some (congrArg Value.int (by simp_all [bI_0])), hz, hF1.tr hF2⟩
        · refine x_iconst C (v := 2) d_KF_rewrite_105 (by decide) ?_
          refine x_goto C 110 d_KF_rewrite_106 (by decide) ?_
          exact x_iret C (Nat.le_of_ble_eq_true rfl) (Nat.le_of_ble_eq_true rfl) d_KF_rewrite_110 ⟨congrArg some (congrArg Value.int (by simp_all [bI_0])), hz, hF1.tr hF2⟩
      · exact absurd (show bI ((sK σ).any (barK b1 (some s0))) = 0 from by rw [hba]; rfl) c_89
    · exact absurd ((lg_eq _ _).mpr hf) c_76
  · exact absurd hr c_23
