def vBegin (v : VD) (m a : Int32) : VD := (true, m, a, 0, 0, v.2.2.2.2.2.1, v.2.2.2.2.2.2.1, false, none, 0, false, v.2.2.2.2.2.2.2.2.2.2.2)
theorem q_VW_begun (l : Launch) (E : xE) {G : xw_G} {h0 : Nat} {v : VD} {m a : Int32} (hV : G h0 = some (cVW v)) : XMk l E y_VW_begin w_VW_begin rm_VW_begin [.ref h0, .int m, .int a] G (fun r G' => r = none ∧ G' = va_up G h0 (some (cVW (vBegin v m a)))) 0 0 := q_VW_begin l E hV
set_option maxRecDepth 100000 in
set_option maxHeartbeats 4000000 in
theorem q_KF_dropAll (l : Launch) (E : xE) {G : xw_G} {x : Nat} {σ : CS} {lo la : Nat → Nat} {lc : Nat → List Nat} (hC : xCB E G x σ lo la lc) : XMk l E y_KF_dropAllRecords w_KF_dropAllRecords rm_KF_dropAllRecords [.ref x] G (fun r G' => r = none ∧ (∃ (la1 : Nat → Nat) (lc1 : Nat → List Nat), xCB E G' x (((sK σ).mapIdx (fun _ q => (q.1, ([] : List E3)))), (sV σ).map (fun v => vLose (vForget v)), sD σ, sO σ, sA σ, sW σ) lo la1 lc1 ∧ lc1 0 = lc 0 ∧ lc1 1 = lc 1) ∧ xFm G G') 0 0 := by
  refine XM_of [some (.ref x), none] (XZ_st E) (by decide) rfl rfl rfl (Nat.le_of_ble_eq_true rfl) (fun p e s m below meth c C hnm => ?_)
  have hlen0 := xCS_len hC.S
  have loop2 : ∀ (n t : Nat) (G1 : xw_G), t + n = (sV σ).length → (∃ (la1 : Nat → Nat) (lc1 : Nat → List Nat), xCB E G1 x (((sK σ).mapIdx (fun _ q => (q.1, ([] : List E3)))), upg (fun v => vLose (vForget v)) t (sV σ), sD σ, sO σ, sA σ, sW σ) lo la1 lc1 ∧ lc1 0 = lc 0 ∧ lc1 1 = lc 1) → xFm G G1 → XW p l e rm_KF_dropAllRecords s m #[.ref x] below meth c (XQ below #[.ref x] s (xD E) xcl (xB E) (fun r G' => r = none ∧ (∃ (la1 : Nat → Nat) (lc1 : Nat → List Nat), xCB E G' x (((sK σ).mapIdx (fun _ q => (q.1, ([] : List E3)))), (sV σ).map (fun v => vLose (vForget v)), sD σ, sO σ, sA σ, sW σ) lo la1 lc1 ∧ lc1 0 = lc 0 ∧ lc1 1 = lc 1) ∧ xFm G G') 0 0) (xD E) xcl (xB E) 38 [some (.ref x), some (.int (nI t))] [] G1 0 0 := by
    intro n
    induction n with
    | zero =>
      intro t G1 hn h hF
      obtain ⟨la1, lc1, hC1, z0, z1⟩ := h
      obtain ⟨hG, hL, hnn, hk, hv, hs, he⟩ := id hC1
      have hlen : (lc1 1).length = (sV σ).length := hnn.2.2.1.trans upg_len
      obtain ⟨cap1, md1, ff1, hL1, -⟩ := hL.1 1 (by omega)
      have ht : t = (sV σ).length := by omega
      refine x_iload_n C d_KF_dropAllRecords_38 rfl rfl ?_
      refine x_aload_n C d_KF_dropAllRecords_39 rfl rfl ?_
      refine x_get C hG rfl (in_KF _) 1 (by decide) (List.mem_cons_of_mem _ f_KF_16) rfl d_KF_dropAllRecords_40 ?_
      refine x_callV0 C (q_AL_sizeL l E (hL.1 1 (by omega))) (lk_KF_19 C.hts (Nat.le_of_ble_eq_true rfl) (Nat.le_of_ble_eq_true rfl)) hL1 rfl rfl d_KF_dropAllRecords_43 (Nat.le_of_ble_eq_true rfl) (Nat.le_of_ble_eq_true rfl) (Nat.le_of_ble_eq_true rfl) (fun r G' h => ?_)
      obtain ⟨rfl, rfl⟩ := h
      rw [hlen]
      refine x_icmp_ge C 83 d_KF_dropAllRecords_46 (by decide) (fun c_46 => ?_) (fun c_46 => ?_)
      · exact x_vret C (Nat.le_of_ble_eq_true rfl) (Nat.le_of_ble_eq_true rfl) d_KF_dropAllRecords_83 ⟨rfl, ⟨la1, lc1, by rw [← upg_ge (Nat.le_refl (sV σ).length), ← ht]; exact hC1, z0, z1⟩, hF⟩
      · exact absurd (nI_le (by omega) (by omega)) c_46
    | succ n ih =>
      intro t G1 hn h hF
      obtain ⟨la1, lc1, hC1, z0, z1⟩ := h
      obtain ⟨hG, hL, hnn, hk, hv, hs, he⟩ := id hC1
      have hlen : (lc1 1).length = (sV σ).length := hnn.2.2.1.trans upg_len
      obtain ⟨cap1, md1, ff1, hL1, -⟩ := hL.1 1 (by omega)
      obtain ⟨v, hvt⟩ := e_lt (show t < (sV σ).length by omega)
      obtain ⟨a, ha, hV⟩ := hv t v (upg_cur hvt)
      refine x_iload_n C d_KF_dropAllRecords_38 rfl rfl ?_
      refine x_aload_n C d_KF_dropAllRecords_39 rfl rfl ?_
      refine x_get C hG rfl (in_KF _) 1 (by decide) (List.mem_cons_of_mem _ f_KF_16) rfl d_KF_dropAllRecords_40 ?_
      refine x_callV0 C (q_AL_sizeL l E (hL.1 1 (by omega))) (lk_KF_19 C.hts (Nat.le_of_ble_eq_true rfl) (Nat.le_of_ble_eq_true rfl)) hL1 rfl rfl d_KF_dropAllRecords_43 (Nat.le_of_ble_eq_true rfl) (Nat.le_of_ble_eq_true rfl) (Nat.le_of_ble_eq_true rfl) (fun r G' h => ?_)
      obtain ⟨rfl, rfl⟩ := h
      rw [hlen]
      refine x_icmp_ge C 83 d_KF_dropAllRecords_46 (by decide) (fun c_46 => ?_) (fun c_46 => ?_)
      · exact absurd c_46 (nI_ge (by omega) (by omega))
      · refine x_aload_n C d_KF_dropAllRecords_49 rfl rfl ?_
        refine x_get C hG rfl (in_KF _) 1 (by decide) (List.mem_cons_of_mem _ f_KF_16) rfl d_KF_dropAllRecords_50 ?_
        refine x_iload_n C d_KF_dropAllRecords_53 rfl rfl ?_
        refine x_callV1 C (q_AL_getL l E (hL.1 1 (by omega)) ha) (lk_KF_177 C.hts (Nat.le_of_ble_eq_true rfl) (Nat.le_of_ble_eq_true rfl)) hL1 rfl rfl d_KF_dropAllRecords_54 (Nat.le_of_ble_eq_true rfl) (Nat.le_of_ble_eq_true rfl) (Nat.le_of_ble_eq_true rfl) (fun r G' h => ?_)
        obtain ⟨rfl, rfl⟩ := h
        refine x_castS C hV rfl (List.mem_cons_of_mem _ cl_KF_48) d_KF_dropAllRecords_57 ?_
        refine x_callV0 C (q_VW_forget l E hV) (lk_KF_65 C.hts (Nat.le_of_ble_eq_true rfl) (Nat.le_of_ble_eq_true rfl)) hV rfl rfl d_KF_dropAllRecords_60 (Nat.le_of_ble_eq_true rfl) (Nat.le_of_ble_eq_true rfl) (Nat.le_of_ble_eq_true rfl) (fun r G' h => ?_)
        obtain ⟨rfl, rfl⟩ := h
        refine x_aload_n C d_KF_dropAllRecords_63 rfl rfl ?_
        refine x_get C (xw_keep hG (xw_neC hG hV (by decide))) rfl (in_KF _) 1 (by decide) (List.mem_cons_of_mem _ f_KF_16) rfl d_KF_dropAllRecords_64 ?_
        refine x_iload_n C d_KF_dropAllRecords_67 rfl rfl ?_
        refine x_callV1 C (q_AL_getL l E (xAL_up hV (by decide) (hL.1 1 (by omega))) ha) (lk_KF_177 C.hts (Nat.le_of_ble_eq_true rfl) (Nat.le_of_ble_eq_true rfl)) (xw_keep hL1 (xw_neC hL1 hV (by decide))) rfl rfl d_KF_dropAllRecords_68 (Nat.le_of_ble_eq_true rfl) (Nat.le_of_ble_eq_true rfl) (Nat.le_of_ble_eq_true rfl) (fun r G' h => ?_)
        obtain ⟨rfl, rfl⟩ := h
        refine x_castS C (va_up_self _ _ _) rfl (List.mem_cons_of_mem _ cl_KF_48) d_KF_dropAllRecords_71 ?_
        refine x_callV0 C (q_VW_lost l E (va_up_self _ _ _)) (lk_KF_112 C.hts (Nat.le_of_ble_eq_true rfl) (Nat.le_of_ble_eq_true rfl)) (va_up_self _ _ _) rfl rfl d_KF_dropAllRecords_74 (Nat.le_of_ble_eq_true rfl) (Nat.le_of_ble_eq_true rfl) (Nat.le_of_ble_eq_true rfl) (fun r G' h => ?_)
        obtain ⟨rfl, rfl⟩ := h
        rw [bx_uu]
        refine x_iinc C d_KF_dropAllRecords_77 rfl rfl rfl ?_
        refine x_goto C 38 d_KF_dropAllRecords_80 (by decide) ?_
        have e1 : nI t + Int32.ofInt 1 = nI (t + 1) := nI_1 t
        rw [e1]
        have hz := xCB_vw (v' := vLose (vForget v)) hC1 ha hV
        have hz : xCB E (va_up G1 a (some (cVW (vLose (vForget v))))) x (((sK σ).mapIdx (fun _ q => (q.1, ([] : List E3)))), upg (fun v => vLose (vForget v)) (t + 1) (sV σ), sD σ, sO σ, sA σ, sW σ) lo la1 lc1 := by rw [← upg_set hvt]; exact hz
        exact ih (t + 1) _ (by omega) ⟨la1, lc1, hz, z0, z1⟩ (hF.tr (xFm.up hV (by decide)))
  have loop1 : ∀ (n t : Nat) (G1 : xw_G), t + n = (sK σ).length → (∃ (la1 : Nat → Nat) (lc1 : Nat → List Nat), xCB E G1 x (upto (fun _ q => (q.1, [])) t (sK σ), sV σ, sD σ, sO σ, sA σ, sW σ) lo la1 lc1 ∧ lc1 0 = lc 0 ∧ lc1 1 = lc 1) → xFm G G1 → XW p l e rm_KF_dropAllRecords s m #[.ref x] below meth c (XQ below #[.ref x] s (xD E) xcl (xB E) (fun r G' => r = none ∧ (∃ (la1 : Nat → Nat) (lc1 : Nat → List Nat), xCB E G' x (((sK σ).mapIdx (fun _ q => (q.1, ([] : List E3)))), (sV σ).map (fun v => vLose (vForget v)), sD σ, sO σ, sA σ, sW σ) lo la1 lc1 ∧ lc1 0 = lc 0 ∧ lc1 1 = lc 1) ∧ xFm G G') 0 0) (xD E) xcl (xB E) 2 [some (.ref x), some (.int (nI t))] [] G1 0 0 := by
    intro n
    induction n with
    | zero =>
      intro t G1 hn h hF
      obtain ⟨la1, lc1, hC1, z0, z1⟩ := h
      obtain ⟨hG, hL, hnn, hk, hv, hs, he⟩ := id hC1
      have hlen : (lc1 0).length = (sK σ).length := hnn.1.trans upto_len
      obtain ⟨cap0, md0, ff0, hL0, -⟩ := hL.1 0 (by omega)
      have ht : t = (sK σ).length := by omega
      refine x_iload_n C d_KF_dropAllRecords_2 rfl rfl ?_
      refine x_aload_n C d_KF_dropAllRecords_3 rfl rfl ?_
      refine x_get C hG rfl (in_KF _) 0 (by decide) (List.mem_cons_of_mem _ f_KF_10) rfl d_KF_dropAllRecords_4 ?_
      refine x_callV0 C (q_AL_sizeL l E (hL.1 0 (by omega))) (lk_KF_19 C.hts (Nat.le_of_ble_eq_true rfl) (Nat.le_of_ble_eq_true rfl)) hL0 rfl rfl d_KF_dropAllRecords_7 (Nat.le_of_ble_eq_true rfl) (Nat.le_of_ble_eq_true rfl) (Nat.le_of_ble_eq_true rfl) (fun r G' h => ?_)
      obtain ⟨rfl, rfl⟩ := h
      rw [hlen]
      refine x_icmp_ge C 36 d_KF_dropAllRecords_10 (by decide) (fun c_10 => ?_) (fun c_10 => ?_)
      · refine x_iconst C (v := 0) d_KF_dropAllRecords_36 (by decide) ?_
        refine x_istore_n C d_KF_dropAllRecords_37 rfl (Nat.le_of_ble_eq_true rfl) rfl ?_
        rw [← nI_0]
        refine loop2 (sV σ).length 0 G1 (by omega) ⟨la1, lc1, ?_, z0, z1⟩ hF
        rw [upg_0, ← upto_ge (Nat.le_refl (sK σ).length), ← ht]
        exact hC1
      · exact absurd (nI_le (by omega) (by omega)) c_10
    | succ n ih =>
      intro t G1 hn h hF
      obtain ⟨la1, lc1, hC1, z0, z1⟩ := h
      obtain ⟨hG, hL, hnn, hk, hv, hs, he⟩ := id hC1
      have hlen : (lc1 0).length = (sK σ).length := hnn.1.trans upto_len
      obtain ⟨cap0, md0, ff0, hL0, -⟩ := hL.1 0 (by omega)
      obtain ⟨q, hq⟩ := e_lt (show t < (sK σ).length by omega)
      obtain ⟨⟨a, ha, hK⟩, hX⟩ := hk t q (upto_cur hq)
      obtain ⟨capt, mdt, fft, hLt, -⟩ := hL.1 (t + 2) (by rw [upto_len]; omega)
      refine x_iload_n C d_KF_dropAllRecords_2 rfl rfl ?_
      refine x_aload_n C d_KF_dropAllRecords_3 rfl rfl ?_
      refine x_get C hG rfl (in_KF _) 0 (by decide) (List.mem_cons_of_mem _ f_KF_10) rfl d_KF_dropAllRecords_4 ?_
      refine x_callV0 C (q_AL_sizeL l E (hL.1 0 (by omega))) (lk_KF_19 C.hts (Nat.le_of_ble_eq_true rfl) (Nat.le_of_ble_eq_true rfl)) hL0 rfl rfl d_KF_dropAllRecords_7 (Nat.le_of_ble_eq_true rfl) (Nat.le_of_ble_eq_true rfl) (Nat.le_of_ble_eq_true rfl) (fun r G' h => ?_)
      obtain ⟨rfl, rfl⟩ := h
      rw [hlen]
      refine x_icmp_ge C 36 d_KF_dropAllRecords_10 (by decide) (fun c_10 => ?_) (fun c_10 => ?_)
      · exact absurd c_10 (nI_ge (by omega) (by omega))
      · refine x_aload_n C d_KF_dropAllRecords_13 rfl rfl ?_
        refine x_get C hG rfl (in_KF _) 0 (by decide) (List.mem_cons_of_mem _ f_KF_10) rfl d_KF_dropAllRecords_14 ?_
        refine x_iload_n C d_KF_dropAllRecords_17 rfl rfl ?_
        refine x_callV1 C (q_AL_getL l E (hL.1 0 (by omega)) ha) (lk_KF_177 C.hts (Nat.le_of_ble_eq_true rfl) (Nat.le_of_ble_eq_true rfl)) hL0 rfl rfl d_KF_dropAllRecords_18 (Nat.le_of_ble_eq_true rfl) (Nat.le_of_ble_eq_true rfl) (Nat.le_of_ble_eq_true rfl) (fun r G' h => ?_)
        obtain ⟨rfl, rfl⟩ := h
        refine x_castS C hK rfl (List.mem_cons_of_mem _ cl_KF_27) d_KF_dropAllRecords_21 ?_
        refine x_get C hK rfl (in_KI _) 3 (by decide) (List.mem_cons_of_mem _ f_KF_188) rfl d_KF_dropAllRecords_24 ?_
        refine x_callV0 C (q_AL_clear l E (hL.1 (t + 2) (by rw [upto_len]; omega)) he) (lk_KF_235 C.hts (Nat.le_of_ble_eq_true rfl) (Nat.le_of_ble_eq_true rfl)) hLt rfl rfl d_KF_dropAllRecords_27 (Nat.le_of_ble_eq_true rfl) (Nat.le_of_ble_eq_true rfl) (Nat.le_of_ble_eq_true rfl) (fun r G' h => ?_)
        obtain ⟨rfl, g1, g2⟩ := h
        have hz := xCB_es (kd := q.1) (es := q.2) hC1 (upto_cur hq) g2 g1 (Or.inl rfl) (show xEL G' [] [] from ⟨rfl, fun j e hj => by simp at hj⟩)
        have hz : xCB E G' x (upto (fun _ q => (q.1, [])) (t + 1) (sK σ), sV σ, sD σ, sO σ, sA σ, sW σ) lo (va_up la1 (t + 2) (la1 (t + 2))) (va_up lc1 (t + 2) []) := by rw [← upto_set hq]; exact hz
        refine x_iinc C d_KF_dropAllRecords_30 rfl rfl rfl ?_
        refine x_goto C 2 d_KF_dropAllRecords_33 (by decide) ?_
        have e1 : nI t + Int32.ofInt 1 = nI (t + 1) := nI_1 t
        rw [e1]
        exact ih (t + 1) _ (by omega) ⟨_, _, hz, by rw [va_up_ne _ _ (by omega)]; exact z0, by rw [va_up_ne _ _ (by omega)]; exact z1⟩ (hF.tr (xFm.fr (hL.1 (t + 2) (by rw [upto_len]; omega)) g2))
  refine x_iconst C (v := 0) d_KF_dropAllRecords_0 (by decide) ?_
  refine x_istore_n C d_KF_dropAllRecords_1 rfl (Nat.le_of_ble_eq_true rfl) rfl ?_
  rw [← nI_0]
  refine loop1 (sK σ).length 0 G (by omega) ⟨la, lc, ?_, rfl, rfl⟩ xFm.rf
  rw [upto_0]
  exact hC
set_option maxRecDepth 100000 in
set_option maxHeartbeats 4000000 in
theorem q_KF_open_nv (l : Launch) (E : xE) {G : xw_G} {x : Nat} {σ : CS} {lo la : Nat → Nat} {lc : Nat → List Nat} (hC : xCB E G x σ lo la lc) {j : Int32} (hj : j < 0 ∨ nI (lc 1).length ≤ j) {m2 a2 : Int32} : XMk l E y_KF_open w_KF_open rm_KF_open [.ref x, .int (j), .int (m2), .int (a2)] G (fun r G' => r = some (.int (-1)) ∧ G = G') 0 0 := by
  refine XM_of [some (.ref x), some (.int (j)), some (.int (m2)), some (.int (a2)), none] (XZ_st E) (by decide) rfl rfl rfl (Nat.le_of_ble_eq_true rfl) (fun p e s m below meth c C hnm => ?_)
  obtain ⟨hG, hL, hnn, hk, hv, hs, he⟩ := id hC
  refine x_aload_n C d_KF_open_0 rfl rfl ?_
  refine x_iload_n C d_KF_open_1 rfl rfl ?_
  refine x_callV1 C (q_KF_viewAt_out l E hG (hL.1 1 (by omega)) hj) (lk_KF_51 C.hts (Nat.le_of_ble_eq_true rfl) (Nat.le_of_ble_eq_true rfl)) hG rfl rfl d_KF_open_2 (Nat.le_of_ble_eq_true rfl) (Nat.le_of_ble_eq_true rfl) (Nat.le_of_ble_eq_true rfl) (fun r G' h => ?_)
  obtain ⟨rfl, rfl⟩ := h
  refine x_astoreN C d_KF_open_5 (Nat.le_of_ble_eq_true rfl) rfl ?_
  refine x_aloadN C d_KF_open_7 rfl ?_
  refine x_ifnullN C 30 d_KF_open_9 (by decide) ?_
  refine x_iconst C (v := -1) d_KF_open_30 (by decide) ?_
  exact x_iret C (Nat.le_of_ble_eq_true rfl) (Nat.le_of_ble_eq_true rfl) d_KF_open_31 ⟨rfl, rfl⟩
set_option maxRecDepth 100000 in
set_option maxHeartbeats 4000000 in
theorem q_KF_open_bad (l : Launch) (E : xE) {G : xw_G} {x : Nat} {σ : CS} {lo la : Nat → Nat} {lc : Nat → List Nat} (hC : xCB E G x σ lo la lc) {i va : Nat} {v : VD} (hi : (lc 1)[i]? = some va) (hV : G va = some (cVW v)) {m2 a2 : Int32} (hb : (m2 < 0 ∨ 3 < m2 ∨ a2 < 0 ∨ 2 < a2)) : XMk l E y_KF_open w_KF_open rm_KF_open [.ref x, .int (nI i), .int (m2), .int (a2)] G (fun r G' => r = some (.int (-1)) ∧ G = G') 0 0 := by
  refine XM_of [some (.ref x), some (.int (nI i)), some (.int (m2)), some (.int (a2)), none] (XZ_st E) (by decide) rfl rfl rfl (Nat.le_of_ble_eq_true rfl) (fun p e s m below meth c C hnm => ?_)
  obtain ⟨hG, hL, hnn, hk, hv, hs, he⟩ := id hC
  refine x_aload_n C d_KF_open_0 rfl rfl ?_
  refine x_iload_n C d_KF_open_1 rfl rfl ?_
  refine x_callV1 C (q_KF_viewAt_in l E hG (hL.1 1 (by omega)) hi hV) (lk_KF_51 C.hts (Nat.le_of_ble_eq_true rfl) (Nat.le_of_ble_eq_true rfl)) hG rfl rfl d_KF_open_2 (Nat.le_of_ble_eq_true rfl) (Nat.le_of_ble_eq_true rfl) (Nat.le_of_ble_eq_true rfl) (fun r G' h => ?_)
  obtain ⟨rfl, rfl⟩ := h
  refine x_astore C d_KF_open_5 (Nat.le_of_ble_eq_true rfl) rfl ?_
  refine x_aload C d_KF_open_7 rfl ?_
  refine x_ifnull C d_KF_open_9 ?_
  refine x_iload_n C d_KF_open_12 rfl rfl ?_
  refine x_if_lt C 30 d_KF_open_13 (by decide) (fun c_13 => ?_) (fun c_13 => ?_)
  · refine x_iconst C (v := -1) d_KF_open_30 (by decide) ?_
    exact x_iret C (Nat.le_of_ble_eq_true rfl) (Nat.le_of_ble_eq_true rfl) d_KF_open_31 ⟨rfl, rfl⟩
  · refine x_iload_n C d_KF_open_16 rfl rfl ?_
    refine x_iconst C (v := 3) d_KF_open_17 (by decide) ?_
    refine x_icmp_gt C 30 d_KF_open_18 (by decide) (fun c_18 => ?_) (fun c_18 => ?_)
    · refine x_iconst C (v := -1) d_KF_open_30 (by decide) ?_
      exact x_iret C (Nat.le_of_ble_eq_true rfl) (Nat.le_of_ble_eq_true rfl) d_KF_open_31 ⟨rfl, rfl⟩
    · refine x_iload_n C d_KF_open_21 rfl rfl ?_
      refine x_if_lt C 30 d_KF_open_22 (by decide) (fun c_22 => ?_) (fun c_22 => ?_)
      · refine x_iconst C (v := -1) d_KF_open_30 (by decide) ?_
        exact x_iret C (Nat.le_of_ble_eq_true rfl) (Nat.le_of_ble_eq_true rfl) d_KF_open_31 ⟨rfl, rfl⟩
      · refine x_iload_n C d_KF_open_25 rfl rfl ?_
        refine x_iconst C (v := 2) d_KF_open_26 (by decide) ?_
        refine x_icmp_le C 32 d_KF_open_27 (by decide) (fun c_27 => ?_) (fun c_27 => ?_)
        · exact absurd hb (fun h => h.elim c_13 (fun h => h.elim c_18 (fun h => h.elim c_22 (fun z => absurd z (Int32.not_lt.mpr c_27)))))
        · refine x_iconst C (v := -1) d_KF_open_30 (by decide) ?_
          exact x_iret C (Nat.le_of_ble_eq_true rfl) (Nat.le_of_ble_eq_true rfl) d_KF_open_31 ⟨rfl, rfl⟩
set_option maxRecDepth 100000 in
set_option maxHeartbeats 4000000 in
theorem q_KF_open_41 (l : Launch) (E : xE) {G : xw_G} {x : Nat} {σ : CS} {lo la : Nat → Nat} {lc : Nat → List Nat} (hC : xCB E G x σ lo la lc) {i va : Nat} {v : VD} (hi : (lc 1)[i]? = some va) (hV : G va = some (cVW v)) {m2 a2 : Int32} (hb : ¬ (m2 < 0 ∨ 3 < m2 ∨ a2 < 0 ∨ 2 < a2)) (ho : v.1 = true) : XMk l E y_KF_open w_KF_open rm_KF_open [.ref x, .int (nI i), .int (m2), .int (a2)] G (fun r G' => r = some (.int 41) ∧ G = G') 0 0 := by
  refine XM_of [some (.ref x), some (.int (nI i)), some (.int (m2)), some (.int (a2)), none] (XZ_st E) (by decide) rfl rfl rfl (Nat.le_of_ble_eq_true rfl) (fun p e s m below meth c C hnm => ?_)
  obtain ⟨hG, hL, hnn, hk, hv, hs, he⟩ := id hC
  refine x_aload_n C d_KF_open_0 rfl rfl ?_
  refine x_iload_n C d_KF_open_1 rfl rfl ?_
  refine x_callV1 C (q_KF_viewAt_in l E hG (hL.1 1 (by omega)) hi hV) (lk_KF_51 C.hts (Nat.le_of_ble_eq_true rfl) (Nat.le_of_ble_eq_true rfl)) hG rfl rfl d_KF_open_2 (Nat.le_of_ble_eq_true rfl) (Nat.le_of_ble_eq_true rfl) (Nat.le_of_ble_eq_true rfl) (fun r G' h => ?_)
  obtain ⟨rfl, rfl⟩ := h
  refine x_astore C d_KF_open_5 (Nat.le_of_ble_eq_true rfl) rfl ?_
  refine x_aload C d_KF_open_7 rfl ?_
  refine x_ifnull C d_KF_open_9 ?_
  refine x_iload_n C d_KF_open_12 rfl rfl ?_
  refine x_if_lt C 30 d_KF_open_13 (by decide) (fun c_13 => ?_) (fun c_13 => ?_)
  · exact absurd (by first | exact Or.inl c_13 | exact Or.inr (Or.inl c_18) | exact Or.inr (Or.inr (Or.inl c_22)) | exact Or.inr (Or.inr (Or.inr (Int32.not_le.mp c_27)))) hb
  · refine x_iload_n C d_KF_open_16 rfl rfl ?_
    refine x_iconst C (v := 3) d_KF_open_17 (by decide) ?_
    refine x_icmp_gt C 30 d_KF_open_18 (by decide) (fun c_18 => ?_) (fun c_18 => ?_)
    · exact absurd (by first | exact Or.inl c_13 | exact Or.inr (Or.inl c_18) | exact Or.inr (Or.inr (Or.inl c_22)) | exact Or.inr (Or.inr (Or.inr (Int32.not_le.mp c_27)))) hb
    · refine x_iload_n C d_KF_open_21 rfl rfl ?_
      refine x_if_lt C 30 d_KF_open_22 (by decide) (fun c_22 => ?_) (fun c_22 => ?_)
      · exact absurd (by first | exact Or.inl c_13 | exact Or.inr (Or.inl c_18) | exact Or.inr (Or.inr (Or.inl c_22)) | exact Or.inr (Or.inr (Or.inr (Int32.not_le.mp c_27)))) hb
      · refine x_iload_n C d_KF_open_25 rfl rfl ?_
        refine x_iconst C (v := 2) d_KF_open_26 (by decide) ?_
        refine x_icmp_le C 32 d_KF_open_27 (by decide) (fun c_27 => ?_) (fun c_27 => ?_)
        · refine x_aload C d_KF_open_32 rfl ?_
          refine x_get C hV rfl (in_VW _) 0 (by decide) (List.mem_cons_of_mem _ f_KF_55) rfl d_KF_open_34 ?_
          refine x_if_eq C 43 d_KF_open_37 (by decide) (fun c_37 => ?_) (fun c_37 => ?_)
          · exact absurd (ho.symm.trans ((bI_0 _).mp c_37)) (by decide)
          · refine x_bipush C (v := 41) d_KF_open_40 (by decide) ?_
            exact x_iret C (Nat.le_of_ble_eq_true rfl) (Nat.le_of_ble_eq_true rfl) d_KF_open_42 ⟨rfl, rfl⟩
        · exact absurd (by first | exact Or.inl c_13 | exact Or.inr (Or.inl c_18) | exact Or.inr (Or.inr (Or.inl c_22)) | exact Or.inr (Or.inr (Or.inr (Int32.not_le.mp c_27)))) hb
set_option maxRecDepth 100000 in
set_option maxHeartbeats 4000000 in
theorem q_KF_open_ok (l : Launch) (E : xE) {G : xw_G} {x : Nat} {σ : CS} {lo la : Nat → Nat} {lc : Nat → List Nat} (hC : xCB E G x σ lo la lc) {i va : Nat} {v : VD} (hi : (lc 1)[i]? = some va) (hV : G va = some (cVW v)) {m2 a2 : Int32} (hb : ¬ (m2 < 0 ∨ 3 < m2 ∨ a2 < 0 ∨ 2 < a2)) (ho : v.1 = false) (hm : ¬ m2 = 1) : XMk l E y_KF_open w_KF_open rm_KF_open [.ref x, .int (nI i), .int (m2), .int (a2)] G (cPost E G x (some (.int 0)) (sK σ, (sV σ).set i (vBegin v m2 a2), sD σ, true, sA σ, sW σ)) 0 0 := by
  refine XM_of [some (.ref x), some (.int (nI i)), some (.int (m2)), some (.int (a2)), none] (XZ_st E) (by decide) rfl rfl rfl (Nat.le_of_ble_eq_true rfl) (fun p e s m below meth c C hnm => ?_)
  obtain ⟨hG, hL, hnn, hk, hv, hs, he⟩ := id hC
  refine x_aload_n C d_KF_open_0 rfl rfl ?_
  refine x_iload_n C d_KF_open_1 rfl rfl ?_
  refine x_callV1 C (q_KF_viewAt_in l E hG (hL.1 1 (by omega)) hi hV) (lk_KF_51 C.hts (Nat.le_of_ble_eq_true rfl) (Nat.le_of_ble_eq_true rfl)) hG rfl rfl d_KF_open_2 (Nat.le_of_ble_eq_true rfl) (Nat.le_of_ble_eq_true rfl) (Nat.le_of_ble_eq_true rfl) (fun r G' h => ?_)
  obtain ⟨rfl, rfl⟩ := h
  refine x_astore C d_KF_open_5 (Nat.le_of_ble_eq_true rfl) rfl ?_
  refine x_aload C d_KF_open_7 rfl ?_
  refine x_ifnull C d_KF_open_9 ?_
  refine x_iload_n C d_KF_open_12 rfl rfl ?_
  refine x_if_lt C 30 d_KF_open_13 (by decide) (fun c_13 => ?_) (fun c_13 => ?_)
  · exact absurd (by first | exact Or.inl c_13 | exact Or.inr (Or.inl c_18) | exact Or.inr (Or.inr (Or.inl c_22)) | exact Or.inr (Or.inr (Or.inr (Int32.not_le.mp c_27)))) hb
  · refine x_iload_n C d_KF_open_16 rfl rfl ?_
    refine x_iconst C (v := 3) d_KF_open_17 (by decide) ?_
    refine x_icmp_gt C 30 d_KF_open_18 (by decide) (fun c_18 => ?_) (fun c_18 => ?_)
    · exact absurd (by first | exact Or.inl c_13 | exact Or.inr (Or.inl c_18) | exact Or.inr (Or.inr (Or.inl c_22)) | exact Or.inr (Or.inr (Or.inr (Int32.not_le.mp c_27)))) hb
    · refine x_iload_n C d_KF_open_21 rfl rfl ?_
      refine x_if_lt C 30 d_KF_open_22 (by decide) (fun c_22 => ?_) (fun c_22 => ?_)
      · exact absurd (by first | exact Or.inl c_13 | exact Or.inr (Or.inl c_18) | exact Or.inr (Or.inr (Or.inl c_22)) | exact Or.inr (Or.inr (Or.inr (Int32.not_le.mp c_27)))) hb
      · refine x_iload_n C d_KF_open_25 rfl rfl ?_
        refine x_iconst C (v := 2) d_KF_open_26 (by decide) ?_
        refine x_icmp_le C 32 d_KF_open_27 (by decide) (fun c_27 => ?_) (fun c_27 => ?_)
        · refine x_aload C d_KF_open_32 rfl ?_
          refine x_get C hV rfl (in_VW _) 0 (by decide) (List.mem_cons_of_mem _ f_KF_55) rfl d_KF_open_34 ?_
          refine x_if_eq C 43 d_KF_open_37 (by decide) (fun c_37 => ?_) (fun c_37 => ?_)
          · refine x_aload_n C d_KF_open_43 rfl rfl ?_
            refine x_iconst C (v := 1) d_KF_open_44 (by decide) ?_
            refine x_put C hG rfl (in_KF _) ty_KF tok_KF nm_KF 2 (by decide) (List.mem_cons_of_mem _ f_KF_23) rfl (tok_KF 2 (by decide)) rfl rfl (Nat.le_of_ble_eq_true rfl) d_KF_open_45 ?_
            have hC1 := xCB_kf true (sA σ) (sW σ) hC (Nat.le_refl _)
            have hF1 : xFm G (va_up G x (some (eKF (lo 0) (lo 1) true (lN (sA σ)) (lN (sW σ))))) := xFm.up hG (by decide)
            have hV1 : (va_up G x (some (eKF (lo 0) (lo 1) true (lN (sA σ)) (lN (sW σ))))) va = some (cVW v) := xw_keep hV (xw_neC hV hG (by decide))
            refine x_iload_n C d_KF_open_48 rfl rfl ?_
            refine x_iconst C (v := 1) d_KF_open_49 (by decide) ?_
            refine x_icmp_ne C 57 d_KF_open_50 (by decide) (fun c_50 => ?_) (fun c_50 => ?_)
            · refine x_aload C d_KF_open_57 rfl ?_
              refine x_iload_n C d_KF_open_59 rfl rfl ?_
              refine x_iload_n C d_KF_open_60 rfl rfl ?_
              refine x_callV2 C (q_VW_begun l E hV1) (lk_KF_61 C.hts (Nat.le_of_ble_eq_true rfl) (Nat.le_of_ble_eq_true rfl)) hV1 rfl rfl d_KF_open_61 (Nat.le_of_ble_eq_true rfl) (Nat.le_of_ble_eq_true rfl) (Nat.le_of_ble_eq_true rfl) (fun r G' h => ?_)
              obtain ⟨rfl, rfl⟩ := h
              have hC2 := xCB_vw (v' := vBegin v m2 a2) hC1 hi hV1
              refine x_iconst C (v := 0) d_KF_open_64 (by decide) ?_
              exact x_iret C (Nat.le_of_ble_eq_true rfl) (Nat.le_of_ble_eq_true rfl) d_KF_open_65 ⟨rfl, hC2.S, hF1.tr (xFm.up hV1 (by decide))⟩
            · exact absurd c_50 hm
          · exact absurd ((bI_0 _).mpr ho) c_37
        · exact absurd (by first | exact Or.inl c_13 | exact Or.inr (Or.inl c_18) | exact Or.inr (Or.inr (Or.inl c_22)) | exact Or.inr (Or.inr (Or.inr (Int32.not_le.mp c_27)))) hb
set_option maxRecDepth 100000 in
set_option maxHeartbeats 4000000 in
theorem q_KF_open_out (l : Launch) (E : xE) {G : xw_G} {x : Nat} {σ : CS} {lo la : Nat → Nat} {lc : Nat → List Nat} (hC : xCB E G x σ lo la lc) {i va : Nat} {v : VD} (hi : (lc 1)[i]? = some va) (hV : G va = some (cVW v)) (hvi : (sV σ)[i]? = some v) {m2 a2 : Int32} (hb : ¬ (m2 < 0 ∨ 3 < m2 ∨ a2 < 0 ∨ 2 < a2)) (ho : v.1 = false) (hm : m2 = 1) : XMk l E y_KF_open w_KF_open rm_KF_open [.ref x, .int (nI i), .int (m2), .int (a2)] G (cPost E G x (some (.int 0)) (((sK σ).mapIdx (fun _ q => (q.1, ([] : List E3)))), ((sV σ).map (fun v => vLose (vForget v))).set i (vBegin (vLose (vForget v)) m2 a2), sD σ, true, sA σ, sW σ)) 0 0 := by
  refine XM_of [some (.ref x), some (.int (nI i)), some (.int (m2)), some (.int (a2)), none] (XZ_st E) (by decide) rfl rfl rfl (Nat.le_of_ble_eq_true rfl) (fun p e s m below meth c C hnm => ?_)
  obtain ⟨hG, hL, hnn, hk, hv, hs, he⟩ := id hC
  refine x_aload_n C d_KF_open_0 rfl rfl ?_
  refine x_iload_n C d_KF_open_1 rfl rfl ?_
  refine x_callV1 C (q_KF_viewAt_in l E hG (hL.1 1 (by omega)) hi hV) (lk_KF_51 C.hts (Nat.le_of_ble_eq_true rfl) (Nat.le_of_ble_eq_true rfl)) hG rfl rfl d_KF_open_2 (Nat.le_of_ble_eq_true rfl) (Nat.le_of_ble_eq_true rfl) (Nat.le_of_ble_eq_true rfl) (fun r G' h => ?_)
  obtain ⟨rfl, rfl⟩ := h
  refine x_astore C d_KF_open_5 (Nat.le_of_ble_eq_true rfl) rfl ?_
  refine x_aload C d_KF_open_7 rfl ?_
  refine x_ifnull C d_KF_open_9 ?_
  refine x_iload_n C d_KF_open_12 rfl rfl ?_
  refine x_if_lt C 30 d_KF_open_13 (by decide) (fun c_13 => ?_) (fun c_13 => ?_)
  · exact absurd (by first | exact Or.inl c_13 | exact Or.inr (Or.inl c_18) | exact Or.inr (Or.inr (Or.inl c_22)) | exact Or.inr (Or.inr (Or.inr (Int32.not_le.mp c_27)))) hb
  · refine x_iload_n C d_KF_open_16 rfl rfl ?_
    refine x_iconst C (v := 3) d_KF_open_17 (by decide) ?_
    refine x_icmp_gt C 30 d_KF_open_18 (by decide) (fun c_18 => ?_) (fun c_18 => ?_)
    · exact absurd (by first | exact Or.inl c_13 | exact Or.inr (Or.inl c_18) | exact Or.inr (Or.inr (Or.inl c_22)) | exact Or.inr (Or.inr (Or.inr (Int32.not_le.mp c_27)))) hb
    · refine x_iload_n C d_KF_open_21 rfl rfl ?_
      refine x_if_lt C 30 d_KF_open_22 (by decide) (fun c_22 => ?_) (fun c_22 => ?_)
      · exact absurd (by first | exact Or.inl c_13 | exact Or.inr (Or.inl c_18) | exact Or.inr (Or.inr (Or.inl c_22)) | exact Or.inr (Or.inr (Or.inr (Int32.not_le.mp c_27)))) hb
      · refine x_iload_n C d_KF_open_25 rfl rfl ?_
        refine x_iconst C (v := 2) d_KF_open_26 (by decide) ?_
        refine x_icmp_le C 32 d_KF_open_27 (by decide) (fun c_27 => ?_) (fun c_27 => ?_)
        · refine x_aload C d_KF_open_32 rfl ?_
          refine x_get C hV rfl (in_VW _) 0 (by decide) (List.mem_cons_of_mem _ f_KF_55) rfl d_KF_open_34 ?_
          refine x_if_eq C 43 d_KF_open_37 (by decide) (fun c_37 => ?_) (fun c_37 => ?_)
          · refine x_aload_n C d_KF_open_43 rfl rfl ?_
            refine x_iconst C (v := 1) d_KF_open_44 (by decide) ?_
            refine x_put C hG rfl (in_KF _) ty_KF tok_KF nm_KF 2 (by decide) (List.mem_cons_of_mem _ f_KF_23) rfl (tok_KF 2 (by decide)) rfl rfl (Nat.le_of_ble_eq_true rfl) d_KF_open_45 ?_
            have hC1 := xCB_kf true (sA σ) (sW σ) hC (Nat.le_refl _)
            have hF1 : xFm G (va_up G x (some (eKF (lo 0) (lo 1) true (lN (sA σ)) (lN (sW σ))))) := xFm.up hG (by decide)
            have hV1 : (va_up G x (some (eKF (lo 0) (lo 1) true (lN (sA σ)) (lN (sW σ))))) va = some (cVW v) := xw_keep hV (xw_neC hV hG (by decide))
            refine x_iload_n C d_KF_open_48 rfl rfl ?_
            refine x_iconst C (v := 1) d_KF_open_49 (by decide) ?_
            refine x_icmp_ne C 57 d_KF_open_50 (by decide) (fun c_50 => ?_) (fun c_50 => ?_)
            · exact absurd hm c_50
            · refine x_aload_n C d_KF_open_53 rfl rfl ?_
              refine x_callV0 C (q_KF_dropAll l E hC1) (lk_KF_58 C.hts (Nat.le_of_ble_eq_true rfl) (Nat.le_of_ble_eq_true rfl)) hC1.1 rfl rfl d_KF_open_54 (Nat.le_of_ble_eq_true rfl) (Nat.le_of_ble_eq_true rfl) (Nat.le_of_ble_eq_true rfl) (fun r G' h => ?_)
              obtain ⟨rfl, ⟨la2, lc2, hC2, z0, z1⟩, hF2⟩ := h
              have hvm : ((sV σ).map (fun v => vLose (vForget v)))[i]? = some (vLose (vForget v)) := by rw [List.getElem?_map, hvi]; rfl
              obtain ⟨va2, hva2, hV2⟩ := hC2.2.2.2.2.1 i _ hvm
              have hi2 : (lc2 1)[i]? = some va := by rw [z1]; exact hi
              rw [hi2] at hva2
              cases hva2
              refine x_aload C d_KF_open_57 rfl ?_
              refine x_iload_n C d_KF_open_59 rfl rfl ?_
              refine x_iload_n C d_KF_open_60 rfl rfl ?_
              refine x_callV2 C (q_VW_begun l E hV2) (lk_KF_61 C.hts (Nat.le_of_ble_eq_true rfl) (Nat.le_of_ble_eq_true rfl)) hV2 rfl rfl d_KF_open_61 (Nat.le_of_ble_eq_true rfl) (Nat.le_of_ble_eq_true rfl) (Nat.le_of_ble_eq_true rfl) (fun r G' h => ?_)
              obtain ⟨rfl, rfl⟩ := h
              have hC3 := xCB_vw (v' := vBegin (vLose (vForget v)) m2 a2) hC2 hi2 hV2
              refine x_iconst C (v := 0) d_KF_open_64 (by decide) ?_
              exact x_iret C (Nat.le_of_ble_eq_true rfl) (Nat.le_of_ble_eq_true rfl) d_KF_open_65 ⟨rfl, hC3.S, hF1.tr (hF2.tr (xFm.up hV2 (by decide)))⟩
          · exact absurd ((bI_0 _).mpr ho) c_37
        · exact absurd (by first | exact Or.inl c_13 | exact Or.inr (Or.inl c_18) | exact Or.inr (Or.inr (Or.inl c_22)) | exact Or.inr (Or.inr (Or.inr (Int32.not_le.mp c_27)))) hb
set_option maxRecDepth 100000 in
set_option maxHeartbeats 4000000 in
theorem q_KF_sparse_nk (l : Launch) (E : xE) {G : xw_G} {x : Nat} {σ : CS} {lo la : Nat → Nat} {lc : Nat → List Nat} (hC : xCB E G x σ lo la lc) {j : Int32} (hj : j < 0 ∨ nI (lc 0).length ≤ j) {z : Int64} : XMk l E y_KF_sparse w_KF_sparse rm_KF_sparse [.ref x, .int (j), .long (z)] G (fun r G' => r = some (.int (-1)) ∧ G = G') 0 0 := by
  refine XM_of [some (.ref x), some (.int (j)), some (.long (z)), none, none] (XZ_st E) (by decide) rfl rfl rfl (Nat.le_of_ble_eq_true rfl) (fun p e s m below meth c C hnm => ?_)
  obtain ⟨hG, hL, hnn, hk, hv, hs, he⟩ := id hC
  refine x_aload_n C d_KF_sparse_0 rfl rfl ?_
  refine x_iload_n C d_KF_sparse_1 rfl rfl ?_
  refine x_callV1 C (q_KF_indexAt_out l E hG (hL.1 0 (by omega)) hj) (lk_KF_36 C.hts (Nat.le_of_ble_eq_true rfl) (Nat.le_of_ble_eq_true rfl)) hG rfl rfl d_KF_sparse_2 (Nat.le_of_ble_eq_true rfl) (Nat.le_of_ble_eq_true rfl) (Nat.le_of_ble_eq_true rfl) (fun r G' h => ?_)
  obtain ⟨rfl, rfl⟩ := h
  refine x_astoreN C d_KF_sparse_5 (Nat.le_of_ble_eq_true rfl) rfl ?_
  refine x_aloadN C d_KF_sparse_7 rfl ?_
  refine x_ifnullN C 23 d_KF_sparse_9 (by decide) ?_
  refine x_iconst C (v := -1) d_KF_sparse_23 (by decide) ?_
  exact x_iret C (Nat.le_of_ble_eq_true rfl) (Nat.le_of_ble_eq_true rfl) d_KF_sparse_24 ⟨rfl, rfl⟩
set_option maxRecDepth 100000 in
set_option maxHeartbeats 4000000 in
theorem q_KF_sparse_no (l : Launch) (E : xE) {G : xw_G} {x : Nat} {σ : CS} {lo la : Nat → Nat} {lc : Nat → List Nat} (hC : xCB E G x σ lo la lc) {i : Nat} {q : KD × List E3} (hq : (sK σ)[i]? = some q) {z : Int64} (hb : i = 0 ∨ sO σ = true) : XMk l E y_KF_sparse w_KF_sparse rm_KF_sparse [.ref x, .int (nI i), .long (z)] G (fun r G' => r = some (.int (-1)) ∧ G = G') 0 0 := by
  refine XM_of [some (.ref x), some (.int (nI i)), some (.long (z)), none, none] (XZ_st E) (by decide) rfl rfl rfl (Nat.le_of_ble_eq_true rfl) (fun p e s m below meth c C hnm => ?_)
  obtain ⟨hG, hL, hnn, hk, hv, hs, he⟩ := id hC
  obtain ⟨⟨ki, hki, hK⟩, hX⟩ := hk i q hq
  have hl := (List.getElem?_eq_some_iff.mp hq).1
  have hl6 := xCS_len hC.S
  refine x_aload_n C d_KF_sparse_0 rfl rfl ?_
  refine x_iload_n C d_KF_sparse_1 rfl rfl ?_
  refine x_callV1 C (q_KF_indexAt_in l E hG (hL.1 0 (by omega)) hki hK) (lk_KF_36 C.hts (Nat.le_of_ble_eq_true rfl) (Nat.le_of_ble_eq_true rfl)) hG rfl rfl d_KF_sparse_2 (Nat.le_of_ble_eq_true rfl) (Nat.le_of_ble_eq_true rfl) (Nat.le_of_ble_eq_true rfl) (fun r G' h => ?_)
  obtain ⟨rfl, rfl⟩ := h
  refine x_astore C d_KF_sparse_5 (Nat.le_of_ble_eq_true rfl) rfl ?_
  refine x_aload C d_KF_sparse_7 rfl ?_
  refine x_ifnull C d_KF_sparse_9 ?_
  refine x_iload_n C d_KF_sparse_12 rfl rfl ?_
  refine x_if_eq C 23 d_KF_sparse_13 (by decide) (fun c_13 => ?_) (fun c_13 => ?_)
  · refine x_iconst C (v := -1) d_KF_sparse_23 (by decide) ?_
    exact x_iret C (Nat.le_of_ble_eq_true rfl) (Nat.le_of_ble_eq_true rfl) d_KF_sparse_24 ⟨rfl, rfl⟩
  · refine x_aload_n C d_KF_sparse_16 rfl rfl ?_
    refine x_get C hG rfl (in_KF _) 2 (by decide) (List.mem_cons_of_mem _ f_KF_23) rfl d_KF_sparse_17 ?_
    refine x_if_eq C 25 d_KF_sparse_20 (by decide) (fun c_20 => ?_) (fun c_20 => ?_)
    · exact absurd hb (fun h => h.elim (fun z => c_13 (by rw [z]; rfl)) (fun z => absurd (z.symm.trans ((bI_0 _).mp c_20)) (by decide)))
    · refine x_iconst C (v := -1) d_KF_sparse_23 (by decide) ?_
      exact x_iret C (Nat.le_of_ble_eq_true rfl) (Nat.le_of_ble_eq_true rfl) d_KF_sparse_24 ⟨rfl, rfl⟩
set_option maxRecDepth 100000 in
set_option maxHeartbeats 4000000 in
theorem q_KF_sparse_ok (l : Launch) (E : xE) {G : xw_G} {x : Nat} {σ : CS} {lo la : Nat → Nat} {lc : Nat → List Nat} (hC : xCB E G x σ lo la lc) {i : Nat} {q : KD × List E3} (hq : (sK σ)[i]? = some q) {z : Int64} (h0 : ¬ i = 0) (ho : sO σ = false) : XMk l E y_KF_sparse w_KF_sparse rm_KF_sparse [.ref x, .int (nI i), .long (z)] G (cPost E G x (some (.int 1)) (σ.es i (q.1.1, q.1.2.1, q.1.2.2.1, true, z) q.2)) 0 0 := by
  refine XM_of [some (.ref x), some (.int (nI i)), some (.long (z)), none, none] (XZ_st E) (by decide) rfl rfl rfl (Nat.le_of_ble_eq_true rfl) (fun p e s m below meth c C hnm => ?_)
  obtain ⟨hG, hL, hnn, hk, hv, hs, he⟩ := id hC
  obtain ⟨⟨ki, hki, hK⟩, hX⟩ := hk i q hq
  have hl := (List.getElem?_eq_some_iff.mp hq).1
  have hl6 := xCS_len hC.S
  refine x_aload_n C d_KF_sparse_0 rfl rfl ?_
  refine x_iload_n C d_KF_sparse_1 rfl rfl ?_
  refine x_callV1 C (q_KF_indexAt_in l E hG (hL.1 0 (by omega)) hki hK) (lk_KF_36 C.hts (Nat.le_of_ble_eq_true rfl) (Nat.le_of_ble_eq_true rfl)) hG rfl rfl d_KF_sparse_2 (Nat.le_of_ble_eq_true rfl) (Nat.le_of_ble_eq_true rfl) (Nat.le_of_ble_eq_true rfl) (fun r G' h => ?_)
  obtain ⟨rfl, rfl⟩ := h
  refine x_astore C d_KF_sparse_5 (Nat.le_of_ble_eq_true rfl) rfl ?_
  refine x_aload C d_KF_sparse_7 rfl ?_
  refine x_ifnull C d_KF_sparse_9 ?_
  refine x_iload_n C d_KF_sparse_12 rfl rfl ?_
  refine x_if_eq C 23 d_KF_sparse_13 (by decide) (fun c_13 => ?_) (fun c_13 => ?_)
  · exact absurd c_13 (nI_ne0 (by omega) (by omega))
  · refine x_aload_n C d_KF_sparse_16 rfl rfl ?_
    refine x_get C hG rfl (in_KF _) 2 (by decide) (List.mem_cons_of_mem _ f_KF_23) rfl d_KF_sparse_17 ?_
    refine x_if_eq C 25 d_KF_sparse_20 (by decide) (fun c_20 => ?_) (fun c_20 => ?_)
    · refine x_aload C d_KF_sparse_25 rfl ?_
      refine x_lload_n C d_KF_sparse_27 rfl rfl ?_
      refine x_callV1 C (q_KI_leaveOut l E hK) (lk_KF_40 C.hts (Nat.le_of_ble_eq_true rfl) (Nat.le_of_ble_eq_true rfl)) hK rfl rfl d_KF_sparse_28 (Nat.le_of_ble_eq_true rfl) (Nat.le_of_ble_eq_true rfl) (Nat.le_of_ble_eq_true rfl) (fun r G' h => ?_)
      obtain ⟨rfl, rfl⟩ := h
      refine x_iconst C (v := 1) d_KF_sparse_31 (by decide) ?_
      exact x_iret C (Nat.le_of_ble_eq_true rfl) (Nat.le_of_ble_eq_true rfl) d_KF_sparse_32 ⟨rfl, xCS_kd (kd := q.1) (kd' := (q.1.1, q.1.2.1, q.1.2.2.1, true, z)) hG hL hnn hk hv hs he hq hki hK, xFm.up hK (by decide)⟩
    · exact absurd ((bI_0 _).mpr ho) c_20
