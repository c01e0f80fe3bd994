theorem xAL_fresh {E : xE} {G : xw_G} {h ar q : Nat} {xs : List Nat} {e : va_E} (hq : G q = none) (hA : xAL E G h ar xs) : xAL E (va_up G q (some e)) h ar xs := by
  obtain ⟨cap, md, f, h1, h2, h3⟩ := hA
  exact ⟨cap, md, f, xw_keep h1 (xw_neF hq h1), xw_keep h2 (xw_neF hq h2), h3⟩
theorem xEm_fresh {E : xE} {G : xw_G} {q : Nat} {e : va_E} (hq : G q = none) (h : xEm E G) : xEm E (va_up G q (some e)) := by
  obtain ⟨f, hf⟩ := h
  exact ⟨f, xw_keep hf (xw_neF hq hf)⟩
theorem xEs_el {G : xw_G} {xs : List Nat} {fd cm : Nat → Int64} {so : Nat → Nat} (hX : xEs G xs fd cm so) : ∀ y ∈ xs, xw_el G y := by
  intro y hy
  obtain ⟨i, hi⟩ := List.getElem?_of_mem hy
  exact ⟨1, _, hX i y hi, Or.inl rfl⟩
theorem xAL_el {E : xE} {G : xw_G} {h ar y : Nat} {xs : List Nat} (hA : xAL E G h ar xs) (hy : xw_el G y) : y ≠ h ∧ y ≠ ar := by
  obtain ⟨cap, md, f, h1, h2, -⟩ := hA
  obtain ⟨ci, fs, g1, g2⟩ := hy
  exact ⟨xw_neC g1 h1 (by omega), xw_neA g1 h2⟩
theorem xAL_keep {E : xE} {G G' : xw_G} {h ar a ci : Nat} {xs : List Nat} {fs : List Value} (hA : xAL E G h ar xs) (hF : xFr E G G' h ar) (ha : G a = some (.inr (ci, fs))) (hc : ci ≠ 6) : G' a = some (.inr (ci, fs)) := by
  obtain ⟨cap, md, f, h1, h2, -⟩ := hA
  exact hF a _ ha (xw_neC ha h1 hc) (fun q => absurd q (xw_neA ha h2))
set_option maxRecDepth 100000 in
set_option maxHeartbeats 4000000 in
theorem q_KI_findByPart (l : Launch) (E : xE) {G : xw_G} {h0 en : Nat} {db sp : Bool} {fr sz : Int32} {lo : Int64} (hK : G h0 = some (eKI db fr sz en sp lo)) {ar : Nat} {xs : List Nat} (hA : xAL E G en ar xs) {fd cm : Nat → Int64} {so : Nat → Nat} (hX : xEs G xs fd cm so) {op b : Int32} {prt : Int64} {k : Nat} (hk : k ≤ xs.length) (hp : ∀ i : Nat, i < xs.length → (byPart sz b (decide (op = 1 ∨ op = 4)) (fd i) prt = true ↔ i < k)) : XMk l E y_KI_findByPart w_KI_findByPart rm_KI_findByPart [.ref h0, .int (op), .long (prt), .int (b)] G (fun r G' => r = some (xr xs (oPart xs.length fd sz b op prt k)) ∧ G = G') 0 0 := by
  refine XM_of [some (.ref h0), some (.int (op)), some (.long (prt)), none, some (.int (b)), none, none, none] (XZ_st E) (by decide) rfl rfl rfl (Nat.le_of_ble_eq_true rfl) (fun p e s m below meth c C hnm => ?_)
  obtain ⟨cap, md, ff, hL, hAr, hc1, hc2, -, -⟩ := id hA
  have hcl := capOK_le hc2
  refine x_iload_n C d_KI_findByPart_0 rfl rfl ?_
  refine x_iconst C (v := 1) d_KI_findByPart_1 (by decide) ?_
  refine x_icmp_eq C 10 d_KI_findByPart_2 (by decide) (fun c_2 => ?_) (fun c_2 => ?_)
  · refine x_iconst C (v := 1) d_KI_findByPart_10 (by decide) ?_
    refine x_goto C 15 d_KI_findByPart_11 (by decide) ?_
    rw [show decide (op = 1 ∨ op = 4) = true from by simp_all] at hp
    refine x_istore C d_KI_findByPart_15 (Nat.le_of_ble_eq_true rfl) rfl ?_
    refine x_aload_n C d_KI_findByPart_17 rfl rfl ?_
    refine x_lload_n C d_KI_findByPart_18 rfl rfl ?_
    refine x_iload C d_KI_findByPart_19 rfl ?_
    refine x_iload C d_KI_findByPart_21 rfl ?_
    refine x_callV3 C (q_KI_countByPart l E hK hA hX (eq := true) hk hp) (lk_KI_101 C.hts (Nat.le_of_ble_eq_true rfl) (Nat.le_of_ble_eq_true rfl)) hK rfl rfl d_KI_findByPart_23 (Nat.le_of_ble_eq_true rfl) (Nat.le_of_ble_eq_true rfl) (Nat.le_of_ble_eq_true rfl) (fun r G' h => ?_)
    obtain ⟨rfl, rfl⟩ := h
    refine x_istore C d_KI_findByPart_26 (Nat.le_of_ble_eq_true rfl) rfl ?_
    refine x_aload_n C d_KI_findByPart_28 rfl rfl ?_
    refine x_iload_n C d_KI_findByPart_29 rfl rfl ?_
    refine x_iconst C (v := 3) d_KI_findByPart_30 (by decide) ?_
    refine x_icmp_eq C 39 d_KI_findByPart_31 (by decide) (fun c_31 => ?_) (fun c_31 => ?_)
    · have hbk : op = 3 ∨ op = 4 := by simp_all
      refine x_iload C d_KI_findByPart_39 rfl ?_
      refine x_iconst C (v := 1) d_KI_findByPart_41 (by decide) ?_
      refine x_isub C d_KI_findByPart_42 ?_
      refine x_goto C 48 d_KI_findByPart_43 (by decide) ?_
      by_cases hk0 : k = 0
      · have hm1 : nI k - 1 < 0 := by rw [hk0]; decide
        refine x_callV1 C (q_KI_entryAt_out l E hK hA (Or.inl hm1)) (lk_KI_45 C.hts (Nat.le_of_ble_eq_true rfl) (Nat.le_of_ble_eq_true rfl)) hK rfl rfl d_KI_findByPart_48 (Nat.le_of_ble_eq_true rfl) (Nat.le_of_ble_eq_true rfl) (Nat.le_of_ble_eq_true rfl) (fun r G' h => ?_)
        obtain ⟨rfl, rfl⟩ := h
        refine x_astoreN C d_KI_findByPart_51 (Nat.le_of_ble_eq_true rfl) rfl ?_
        refine x_iload_n C d_KI_findByPart_53 rfl rfl ?_
        refine x_if_ne C 77 d_KI_findByPart_54 (by decide) (fun c_54 => ?_) (fun c_54 => ?_)
        · refine x_aloadN C d_KI_findByPart_77 rfl ?_
          exact x_aret C (Or.inl ⟨_, rfl⟩) (Or.inl rfl) (Nat.le_of_ble_eq_true rfl) (Nat.le_of_ble_eq_true rfl) d_KI_findByPart_79 ⟨by rw [oPart, if_pos hbk, oBk, if_neg (by omega), xr_none], rfl⟩
        · subst c_54
          exact absurd hbk (by decide)
      · rw [al_pred (show 0 < k by omega)]
        obtain ⟨x, hx⟩ := al_get (show k - 1 < xs.length by omega)
        have hN := hX _ _ hx
        refine x_callV1 C (q_KI_entryAt_in l E hK hA hx hN) (lk_KI_45 C.hts (Nat.le_of_ble_eq_true rfl) (Nat.le_of_ble_eq_true rfl)) hK rfl rfl d_KI_findByPart_48 (Nat.le_of_ble_eq_true rfl) (Nat.le_of_ble_eq_true rfl) (Nat.le_of_ble_eq_true rfl) (fun r G' h => ?_)
        obtain ⟨rfl, rfl⟩ := h
        refine x_astore C d_KI_findByPart_51 (Nat.le_of_ble_eq_true rfl) rfl ?_
        refine x_iload_n C d_KI_findByPart_53 rfl rfl ?_
        refine x_if_ne C 77 d_KI_findByPart_54 (by decide) (fun c_54 => ?_) (fun c_54 => ?_)
        · refine x_aload C d_KI_findByPart_77 rfl ?_
          exact x_aret C (Or.inl ⟨_, rfl⟩) (Or.inr ⟨_, rfl⟩) (Nat.le_of_ble_eq_true rfl) (Nat.le_of_ble_eq_true rfl) d_KI_findByPart_79 ⟨by rw [oPart, if_pos hbk, oBk, if_pos (by omega), xr_some hx], rfl⟩
        · subst c_54
          exact absurd hbk (by decide)
    · refine x_iload_n C d_KI_findByPart_34 rfl rfl ?_
      refine x_iconst C (v := 4) d_KI_findByPart_35 (by decide) ?_
      refine x_icmp_ne C 46 d_KI_findByPart_36 (by decide) (fun c_36 => ?_) (fun c_36 => ?_)
      · have hnb : ¬ (op = 3 ∨ op = 4) := by simp_all
        refine x_iload C d_KI_findByPart_46 rfl ?_
        by_cases hlt : k < xs.length
        · obtain ⟨x, hx⟩ := al_get (show k < xs.length by omega)
          have hN := hX _ _ hx
          refine x_callV1 C (q_KI_entryAt_in l E hK hA hx hN) (lk_KI_45 C.hts (Nat.le_of_ble_eq_true rfl) (Nat.le_of_ble_eq_true rfl)) hK rfl rfl d_KI_findByPart_48 (Nat.le_of_ble_eq_true rfl) (Nat.le_of_ble_eq_true rfl) (Nat.le_of_ble_eq_true rfl) (fun r G' h => ?_)
          obtain ⟨rfl, rfl⟩ := h
          refine x_astore C d_KI_findByPart_51 (Nat.le_of_ble_eq_true rfl) rfl ?_
          refine x_iload_n C d_KI_findByPart_53 rfl rfl ?_
          refine x_if_ne C 77 d_KI_findByPart_54 (by decide) (fun c_54 => ?_) (fun c_54 => ?_)
          · refine x_aload C d_KI_findByPart_77 rfl ?_
            exact x_aret C (Or.inl ⟨_, rfl⟩) (Or.inr ⟨_, rfl⟩) (Nat.le_of_ble_eq_true rfl) (Nat.le_of_ble_eq_true rfl) d_KI_findByPart_79 ⟨by rw [oPart, if_neg hnb, if_pos ⟨hlt, fun q => by first | exact absurd q c_54 | exact (lg_eq _ _).mp c_72⟩, xr_some hx], rfl⟩
          · refine x_aload C d_KI_findByPart_57 rfl ?_
            refine x_ifnull C d_KI_findByPart_59 ?_
            refine x_aload_n C d_KI_findByPart_62 rfl rfl ?_
            refine x_aload C d_KI_findByPart_63 rfl ?_
            refine x_iload C d_KI_findByPart_65 rfl ?_
            refine x_callV2 C (q_KI_partOf l E hK hN) (lk_KI_105 C.hts (Nat.le_of_ble_eq_true rfl) (Nat.le_of_ble_eq_true rfl)) hK rfl rfl d_KI_findByPart_67 (Nat.le_of_ble_eq_true rfl) (Nat.le_of_ble_eq_true rfl) (Nat.le_of_ble_eq_true rfl) (fun r G' h => ?_)
            obtain ⟨rfl, rfl⟩ := h
            refine x_lload_n C d_KI_findByPart_70 rfl rfl ?_
            refine x_lcmp C d_KI_findByPart_71 ?_
            refine x_if_eq C 77 d_KI_findByPart_72 (by decide) (fun c_72 => ?_) (fun c_72 => ?_)
            · refine x_aload C d_KI_findByPart_77 rfl ?_
              exact x_aret C (Or.inl ⟨_, rfl⟩) (Or.inr ⟨_, rfl⟩) (Nat.le_of_ble_eq_true rfl) (Nat.le_of_ble_eq_true rfl) d_KI_findByPart_79 ⟨by rw [oPart, if_neg hnb, if_pos ⟨hlt, fun q => by first | exact absurd q c_54 | exact (lg_eq _ _).mp c_72⟩, xr_some hx], rfl⟩
            · refine x_null C d_KI_findByPart_75 ?_
              exact x_aret C (Or.inl ⟨_, rfl⟩) (Or.inl rfl) (Nat.le_of_ble_eq_true rfl) (Nat.le_of_ble_eq_true rfl) d_KI_findByPart_76 ⟨by rw [oPart, if_neg hnb, if_neg (fun q => c_72 ((lg_eq _ _).mpr (q.2 c_54))), xr_none], rfl⟩
        · refine x_callV1 C (q_KI_entryAt_out l E hK hA (Or.inr (nI_le (by omega) (by omega)))) (lk_KI_45 C.hts (Nat.le_of_ble_eq_true rfl) (Nat.le_of_ble_eq_true rfl)) hK rfl rfl d_KI_findByPart_48 (Nat.le_of_ble_eq_true rfl) (Nat.le_of_ble_eq_true rfl) (Nat.le_of_ble_eq_true rfl) (fun r G' h => ?_)
          obtain ⟨rfl, rfl⟩ := h
          refine x_astoreN C d_KI_findByPart_51 (Nat.le_of_ble_eq_true rfl) rfl ?_
          refine x_iload_n C d_KI_findByPart_53 rfl rfl ?_
          refine x_if_ne C 77 d_KI_findByPart_54 (by decide) (fun c_54 => ?_) (fun c_54 => ?_)
          · refine x_aloadN C d_KI_findByPart_77 rfl ?_
            exact x_aret C (Or.inl ⟨_, rfl⟩) (Or.inl rfl) (Nat.le_of_ble_eq_true rfl) (Nat.le_of_ble_eq_true rfl) d_KI_findByPart_79 ⟨by rw [oPart, if_neg hnb, if_neg (fun q => hlt q.1), xr_none], rfl⟩
          · refine x_aloadN C d_KI_findByPart_57 rfl ?_
            refine x_ifnullN C 77 d_KI_findByPart_59 (by decide) ?_
            refine x_aloadN C d_KI_findByPart_77 rfl ?_
            exact x_aret C (Or.inl ⟨_, rfl⟩) (Or.inl rfl) (Nat.le_of_ble_eq_true rfl) (Nat.le_of_ble_eq_true rfl) d_KI_findByPart_79 ⟨by rw [oPart, if_neg hnb, if_neg (fun q => hlt q.1), xr_none], rfl⟩
      · have hbk : op = 3 ∨ op = 4 := by simp_all
        refine x_iload C d_KI_findByPart_39 rfl ?_
        refine x_iconst C (v := 1) d_KI_findByPart_41 (by decide) ?_
        refine x_isub C d_KI_findByPart_42 ?_
        refine x_goto C 48 d_KI_findByPart_43 (by decide) ?_
        by_cases hk0 : k = 0
        · have hm1 : nI k - 1 < 0 := by rw [hk0]; decide
          refine x_callV1 C (q_KI_entryAt_out l E hK hA (Or.inl hm1)) (lk_KI_45 C.hts (Nat.le_of_ble_eq_true rfl) (Nat.le_of_ble_eq_true rfl)) hK rfl rfl d_KI_findByPart_48 (Nat.le_of_ble_eq_true rfl) (Nat.le_of_ble_eq_true rfl) (Nat.le_of_ble_eq_true rfl) (fun r G' h => ?_)
          obtain ⟨rfl, rfl⟩ := h
          refine x_astoreN C d_KI_findByPart_51 (Nat.le_of_ble_eq_true rfl) rfl ?_
          refine x_iload_n C d_KI_findByPart_53 rfl rfl ?_
          refine x_if_ne C 77 d_KI_findByPart_54 (by decide) (fun c_54 => ?_) (fun c_54 => ?_)
          · refine x_aloadN C d_KI_findByPart_77 rfl ?_
            exact x_aret C (Or.inl ⟨_, rfl⟩) (Or.inl rfl) (Nat.le_of_ble_eq_true rfl) (Nat.le_of_ble_eq_true rfl) d_KI_findByPart_79 ⟨by rw [oPart, if_pos hbk, oBk, if_neg (by omega), xr_none], rfl⟩
          · subst c_54
            exact absurd hbk (by decide)
        · rw [al_pred (show 0 < k by omega)]
          obtain ⟨x, hx⟩ := al_get (show k - 1 < xs.length by omega)
          have hN := hX _ _ hx
          refine x_callV1 C (q_KI_entryAt_in l E hK hA hx hN) (lk_KI_45 C.hts (Nat.le_of_ble_eq_true rfl) (Nat.le_of_ble_eq_true rfl)) hK rfl rfl d_KI_findByPart_48 (Nat.le_of_ble_eq_true rfl) (Nat.le_of_ble_eq_true rfl) (Nat.le_of_ble_eq_true rfl) (fun r G' h => ?_)
          obtain ⟨rfl, rfl⟩ := h
          refine x_astore C d_KI_findByPart_51 (Nat.le_of_ble_eq_true rfl) rfl ?_
          refine x_iload_n C d_KI_findByPart_53 rfl rfl ?_
          refine x_if_ne C 77 d_KI_findByPart_54 (by decide) (fun c_54 => ?_) (fun c_54 => ?_)
          · refine x_aload C d_KI_findByPart_77 rfl ?_
            exact x_aret C (Or.inl ⟨_, rfl⟩) (Or.inr ⟨_, rfl⟩) (Nat.le_of_ble_eq_true rfl) (Nat.le_of_ble_eq_true rfl) d_KI_findByPart_79 ⟨by rw [oPart, if_pos hbk, oBk, if_pos (by omega), xr_some hx], rfl⟩
          · subst c_54
            exact absurd hbk (by decide)
  · refine x_iload_n C d_KI_findByPart_5 rfl rfl ?_
    refine x_iconst C (v := 4) d_KI_findByPart_6 (by decide) ?_
    refine x_icmp_ne C 14 d_KI_findByPart_7 (by decide) (fun c_7 => ?_) (fun c_7 => ?_)
    · refine x_iconst C (v := 0) d_KI_findByPart_14 (by decide) ?_
      rw [show decide (op = 1 ∨ op = 4) = false from by simp_all] at hp
      refine x_istore C d_KI_findByPart_15 (Nat.le_of_ble_eq_true rfl) rfl ?_
      refine x_aload_n C d_KI_findByPart_17 rfl rfl ?_
      refine x_lload_n C d_KI_findByPart_18 rfl rfl ?_
      refine x_iload C d_KI_findByPart_19 rfl ?_
      refine x_iload C d_KI_findByPart_21 rfl ?_
      refine x_callV3 C (q_KI_countByPart l E hK hA hX (eq := false) hk hp) (lk_KI_101 C.hts (Nat.le_of_ble_eq_true rfl) (Nat.le_of_ble_eq_true rfl)) hK rfl rfl d_KI_findByPart_23 (Nat.le_of_ble_eq_true rfl) (Nat.le_of_ble_eq_true rfl) (Nat.le_of_ble_eq_true rfl) (fun r G' h => ?_)
      obtain ⟨rfl, rfl⟩ := h
      refine x_istore C d_KI_findByPart_26 (Nat.le_of_ble_eq_true rfl) rfl ?_
      refine x_aload_n C d_KI_findByPart_28 rfl rfl ?_
      refine x_iload_n C d_KI_findByPart_29 rfl rfl ?_
      refine x_iconst C (v := 3) d_KI_findByPart_30 (by decide) ?_
      refine x_icmp_eq C 39 d_KI_findByPart_31 (by decide) (fun c_31 => ?_) (fun c_31 => ?_)
      · have hbk : op = 3 ∨ op = 4 := by simp_all
        refine x_iload C d_KI_findByPart_39 rfl ?_
        refine x_iconst C (v := 1) d_KI_findByPart_41 (by decide) ?_
        refine x_isub C d_KI_findByPart_42 ?_
        refine x_goto C 48 d_KI_findByPart_43 (by decide) ?_
        by_cases hk0 : k = 0
        · have hm1 : nI k - 1 < 0 := by rw [hk0]; decide
          refine x_callV1 C (q_KI_entryAt_out l E hK hA (Or.inl hm1)) (lk_KI_45 C.hts (Nat.le_of_ble_eq_true rfl) (Nat.le_of_ble_eq_true rfl)) hK rfl rfl d_KI_findByPart_48 (Nat.le_of_ble_eq_true rfl) (Nat.le_of_ble_eq_true rfl) (Nat.le_of_ble_eq_true rfl) (fun r G' h => ?_)
          obtain ⟨rfl, rfl⟩ := h
          refine x_astoreN C d_KI_findByPart_51 (Nat.le_of_ble_eq_true rfl) rfl ?_
          refine x_iload_n C d_KI_findByPart_53 rfl rfl ?_
          refine x_if_ne C 77 d_KI_findByPart_54 (by decide) (fun c_54 => ?_) (fun c_54 => ?_)
          · refine x_aloadN C d_KI_findByPart_77 rfl ?_
            exact x_aret C (Or.inl ⟨_, rfl⟩) (Or.inl rfl) (Nat.le_of_ble_eq_true rfl) (Nat.le_of_ble_eq_true rfl) d_KI_findByPart_79 ⟨by rw [oPart, if_pos hbk, oBk, if_neg (by omega), xr_none], rfl⟩
          · subst c_54
            exact absurd hbk (by decide)
        · rw [al_pred (show 0 < k by omega)]
          obtain ⟨x, hx⟩ := al_get (show k - 1 < xs.length by omega)
          have hN := hX _ _ hx
          refine x_callV1 C (q_KI_entryAt_in l E hK hA hx hN) (lk_KI_45 C.hts (Nat.le_of_ble_eq_true rfl) (Nat.le_of_ble_eq_true rfl)) hK rfl rfl d_KI_findByPart_48 (Nat.le_of_ble_eq_true rfl) (Nat.le_of_ble_eq_true rfl) (Nat.le_of_ble_eq_true rfl) (fun r G' h => ?_)
          obtain ⟨rfl, rfl⟩ := h
          refine x_astore C d_KI_findByPart_51 (Nat.le_of_ble_eq_true rfl) rfl ?_
          refine x_iload_n C d_KI_findByPart_53 rfl rfl ?_
          refine x_if_ne C 77 d_KI_findByPart_54 (by decide) (fun c_54 => ?_) (fun c_54 => ?_)
          · refine x_aload C d_KI_findByPart_77 rfl ?_
            exact x_aret C (Or.inl ⟨_, rfl⟩) (Or.inr ⟨_, rfl⟩) (Nat.le_of_ble_eq_true rfl) (Nat.le_of_ble_eq_true rfl) d_KI_findByPart_79 ⟨by rw [oPart, if_pos hbk, oBk, if_pos (by omega), xr_some hx], rfl⟩
          · subst c_54
            exact absurd hbk (by decide)
      · refine x_iload_n C d_KI_findByPart_34 rfl rfl ?_
        refine x_iconst C (v := 4) d_KI_findByPart_35 (by decide) ?_
        refine x_icmp_ne C 46 d_KI_findByPart_36 (by decide) (fun c_36 => ?_) (fun c_36 => ?_)
        · have hnb : ¬ (op = 3 ∨ op = 4) := by simp_all
          refine x_iload C d_KI_findByPart_46 rfl ?_
          by_cases hlt : k < xs.length
          · obtain ⟨x, hx⟩ := al_get (show k < xs.length by omega)
            have hN := hX _ _ hx
            refine x_callV1 C (q_KI_entryAt_in l E hK hA hx hN) (lk_KI_45 C.hts (Nat.le_of_ble_eq_true rfl) (Nat.le_of_ble_eq_true rfl)) hK rfl rfl d_KI_findByPart_48 (Nat.le_of_ble_eq_true rfl) (Nat.le_of_ble_eq_true rfl) (Nat.le_of_ble_eq_true rfl) (fun r G' h => ?_)
            obtain ⟨rfl, rfl⟩ := h
            refine x_astore C d_KI_findByPart_51 (Nat.le_of_ble_eq_true rfl) rfl ?_
            refine x_iload_n C d_KI_findByPart_53 rfl rfl ?_
            refine x_if_ne C 77 d_KI_findByPart_54 (by decide) (fun c_54 => ?_) (fun c_54 => ?_)
            · refine x_aload C d_KI_findByPart_77 rfl ?_
              exact x_aret C (Or.inl ⟨_, rfl⟩) (Or.inr ⟨_, rfl⟩) (Nat.le_of_ble_eq_true rfl) (Nat.le_of_ble_eq_true rfl) d_KI_findByPart_79 ⟨by rw [oPart, if_neg hnb, if_pos ⟨hlt, fun q => by first | exact absurd q c_54 | exact (lg_eq _ _).mp c_72⟩, xr_some hx], rfl⟩
            · refine x_aload C d_KI_findByPart_57 rfl ?_
              refine x_ifnull C d_KI_findByPart_59 ?_
              refine x_aload_n C d_KI_findByPart_62 rfl rfl ?_
              refine x_aload C d_KI_findByPart_63 rfl ?_
              refine x_iload C d_KI_findByPart_65 rfl ?_
              refine x_callV2 C (q_KI_partOf l E hK hN) (lk_KI_105 C.hts (Nat.le_of_ble_eq_true rfl) (Nat.le_of_ble_eq_true rfl)) hK rfl rfl d_KI_findByPart_67 (Nat.le_of_ble_eq_true rfl) (Nat.le_of_ble_eq_true rfl) (Nat.le_of_ble_eq_true rfl) (fun r G' h => ?_)
              obtain ⟨rfl, rfl⟩ := h
              refine x_lload_n C d_KI_findByPart_70 rfl rfl ?_
              refine x_lcmp C d_KI_findByPart_71 ?_
              refine x_if_eq C 77 d_KI_findByPart_72 (by decide) (fun c_72 => ?_) (fun c_72 => ?_)
              · refine x_aload C d_KI_findByPart_77 rfl ?_
                exact x_aret C (Or.inl ⟨_, rfl⟩) (Or.inr ⟨_, rfl⟩) (Nat.le_of_ble_eq_true rfl) (Nat.le_of_ble_eq_true rfl) d_KI_findByPart_79 ⟨by rw [oPart, if_neg hnb, if_pos ⟨hlt, fun q => by first | exact absurd q c_54 | exact (lg_eq _ _).mp c_72⟩, xr_some hx], rfl⟩
              · refine x_null C d_KI_findByPart_75 ?_
                exact x_aret C (Or.inl ⟨_, rfl⟩) (Or.inl rfl) (Nat.le_of_ble_eq_true rfl) (Nat.le_of_ble_eq_true rfl) d_KI_findByPart_76 ⟨by rw [oPart, if_neg hnb, if_neg (fun q => c_72 ((lg_eq _ _).mpr (q.2 c_54))), xr_none], rfl⟩
          · refine x_callV1 C (q_KI_entryAt_out l E hK hA (Or.inr (nI_le (by omega) (by omega)))) (lk_KI_45 C.hts (Nat.le_of_ble_eq_true rfl) (Nat.le_of_ble_eq_true rfl)) hK rfl rfl d_KI_findByPart_48 (Nat.le_of_ble_eq_true rfl) (Nat.le_of_ble_eq_true rfl) (Nat.le_of_ble_eq_true rfl) (fun r G' h => ?_)
            obtain ⟨rfl, rfl⟩ := h
            refine x_astoreN C d_KI_findByPart_51 (Nat.le_of_ble_eq_true rfl) rfl ?_
            refine x_iload_n C d_KI_findByPart_53 rfl rfl ?_
            refine x_if_ne C 77 d_KI_findByPart_54 (by decide) (fun c_54 => ?_) (fun c_54 => ?_)
            · refine x_aloadN C d_KI_findByPart_77 rfl ?_
              exact x_aret C (Or.inl ⟨_, rfl⟩) (Or.inl rfl) (Nat.le_of_ble_eq_true rfl) (Nat.le_of_ble_eq_true rfl) d_KI_findByPart_79 ⟨by rw [oPart, if_neg hnb, if_neg (fun q => hlt q.1), xr_none], rfl⟩
            · refine x_aloadN C d_KI_findByPart_57 rfl ?_
              refine x_ifnullN C 77 d_KI_findByPart_59 (by decide) ?_
              refine x_aloadN C d_KI_findByPart_77 rfl ?_
              exact x_aret C (Or.inl ⟨_, rfl⟩) (Or.inl rfl) (Nat.le_of_ble_eq_true rfl) (Nat.le_of_ble_eq_true rfl) d_KI_findByPart_79 ⟨by rw [oPart, if_neg hnb, if_neg (fun q => hlt q.1), xr_none], rfl⟩
        · have hbk : op = 3 ∨ op = 4 := by simp_all
          refine x_iload C d_KI_findByPart_39 rfl ?_
          refine x_iconst C (v := 1) d_KI_findByPart_41 (by decide) ?_
          refine x_isub C d_KI_findByPart_42 ?_
          refine x_goto C 48 d_KI_findByPart_43 (by decide) ?_
          by_cases hk0 : k = 0
          · have hm1 : nI k - 1 < 0 := by rw [hk0]; decide
            refine x_callV1 C (q_KI_entryAt_out l E hK hA (Or.inl hm1)) (lk_KI_45 C.hts (Nat.le_of_ble_eq_true rfl) (Nat.le_of_ble_eq_true rfl)) hK rfl rfl d_KI_findByPart_48 (Nat.le_of_ble_eq_true rfl) (Nat.le_of_ble_eq_true rfl) (Nat.le_of_ble_eq_true rfl) (fun r G' h => ?_)
            obtain ⟨rfl, rfl⟩ := h
            refine x_astoreN C d_KI_findByPart_51 (Nat.le_of_ble_eq_true rfl) rfl ?_
            refine x_iload_n C d_KI_findByPart_53 rfl rfl ?_
            refine x_if_ne C 77 d_KI_findByPart_54 (by decide) (fun c_54 => ?_) (fun c_54 => ?_)
            · refine x_aloadN C d_KI_findByPart_77 rfl ?_
              exact x_aret C (Or.inl ⟨_, rfl⟩) (Or.inl rfl) (Nat.le_of_ble_eq_true rfl) (Nat.le_of_ble_eq_true rfl) d_KI_findByPart_79 ⟨by rw [oPart, if_pos hbk, oBk, if_neg (by omega), xr_none], rfl⟩
            · subst c_54
              exact absurd hbk (by decide)
          · rw [al_pred (show 0 < k by omega)]
            obtain ⟨x, hx⟩ := al_get (show k - 1 < xs.length by omega)
            have hN := hX _ _ hx
            refine x_callV1 C (q_KI_entryAt_in l E hK hA hx hN) (lk_KI_45 C.hts (Nat.le_of_ble_eq_true rfl) (Nat.le_of_ble_eq_true rfl)) hK rfl rfl d_KI_findByPart_48 (Nat.le_of_ble_eq_true rfl) (Nat.le_of_ble_eq_true rfl) (Nat.le_of_ble_eq_true rfl) (fun r G' h => ?_)
            obtain ⟨rfl, rfl⟩ := h
            refine x_astore C d_KI_findByPart_51 (Nat.le_of_ble_eq_true rfl) rfl ?_
            refine x_iload_n C d_KI_findByPart_53 rfl rfl ?_
            refine x_if_ne C 77 d_KI_findByPart_54 (by decide) (fun c_54 => ?_) (fun c_54 => ?_)
            · refine x_aload C d_KI_findByPart_77 rfl ?_
              exact x_aret C (Or.inl ⟨_, rfl⟩) (Or.inr ⟨_, rfl⟩) (Nat.le_of_ble_eq_true rfl) (Nat.le_of_ble_eq_true rfl) d_KI_findByPart_79 ⟨by rw [oPart, if_pos hbk, oBk, if_pos (by omega), xr_some hx], rfl⟩
            · subst c_54
              exact absurd hbk (by decide)
    · refine x_iconst C (v := 1) d_KI_findByPart_10 (by decide) ?_
      refine x_goto C 15 d_KI_findByPart_11 (by decide) ?_
      rw [show decide (op = 1 ∨ op = 4) = true from by simp_all] at hp
      refine x_istore C d_KI_findByPart_15 (Nat.le_of_ble_eq_true rfl) rfl ?_
      refine x_aload_n C d_KI_findByPart_17 rfl rfl ?_
      refine x_lload_n C d_KI_findByPart_18 rfl rfl ?_
      refine x_iload C d_KI_findByPart_19 rfl ?_
      refine x_iload C d_KI_findByPart_21 rfl ?_
      refine x_callV3 C (q_KI_countByPart l E hK hA hX (eq := true) hk hp) (lk_KI_101 C.hts (Nat.le_of_ble_eq_true rfl) (Nat.le_of_ble_eq_true rfl)) hK rfl rfl d_KI_findByPart_23 (Nat.le_of_ble_eq_true rfl) (Nat.le_of_ble_eq_true rfl) (Nat.le_of_ble_eq_true rfl) (fun r G' h => ?_)
      obtain ⟨rfl, rfl⟩ := h
      refine x_istore C d_KI_findByPart_26 (Nat.le_of_ble_eq_true rfl) rfl ?_
      refine x_aload_n C d_KI_findByPart_28 rfl rfl ?_
      refine x_iload_n C d_KI_findByPart_29 rfl rfl ?_
      refine x_iconst C (v := 3) d_KI_findByPart_30 (by decide) ?_
      refine x_icmp_eq C 39 d_KI_findByPart_31 (by decide) (fun c_31 => ?_) (fun c_31 => ?_)
      · have hbk : op = 3 ∨ op = 4 := by simp_all
        refine x_iload C d_KI_findByPart_39 rfl ?_
        refine x_iconst C (v := 1) d_KI_findByPart_41 (by decide) ?_
        refine x_isub C d_KI_findByPart_42 ?_
        refine x_goto C 48 d_KI_findByPart_43 (by decide) ?_
        by_cases hk0 : k = 0
        · have hm1 : nI k - 1 < 0 := by rw [hk0]; decide
          refine x_callV1 C (q_KI_entryAt_out l E hK hA (Or.inl hm1)) (lk_KI_45 C.hts (Nat.le_of_ble_eq_true rfl) (Nat.le_of_ble_eq_true rfl)) hK rfl rfl d_KI_findByPart_48 (Nat.le_of_ble_eq_true rfl) (Nat.le_of_ble_eq_true rfl) (Nat.le_of_ble_eq_true rfl) (fun r G' h => ?_)
          obtain ⟨rfl, rfl⟩ := h
          refine x_astoreN C d_KI_findByPart_51 (Nat.le_of_ble_eq_true rfl) rfl ?_
          refine x_iload_n C d_KI_findByPart_53 rfl rfl ?_
          refine x_if_ne C 77 d_KI_findByPart_54 (by decide) (fun c_54 => ?_) (fun c_54 => ?_)
          · refine x_aloadN C d_KI_findByPart_77 rfl ?_
            exact x_aret C (Or.inl ⟨_, rfl⟩) (Or.inl rfl) (Nat.le_of_ble_eq_true rfl) (Nat.le_of_ble_eq_true rfl) d_KI_findByPart_79 ⟨by rw [oPart, if_pos hbk, oBk, if_neg (by omega), xr_none], rfl⟩
          · subst c_54
            exact absurd hbk (by decide)
        · rw [al_pred (show 0 < k by omega)]
          obtain ⟨x, hx⟩ := al_get (show k - 1 < xs.length by omega)
          have hN := hX _ _ hx
          refine x_callV1 C (q_KI_entryAt_in l E hK hA hx hN) (lk_KI_45 C.hts (Nat.le_of_ble_eq_true rfl) (Nat.le_of_ble_eq_true rfl)) hK rfl rfl d_KI_findByPart_48 (Nat.le_of_ble_eq_true rfl) (Nat.le_of_ble_eq_true rfl) (Nat.le_of_ble_eq_true rfl) (fun r G' h => ?_)
          obtain ⟨rfl, rfl⟩ := h
          refine x_astore C d_KI_findByPart_51 (Nat.le_of_ble_eq_true rfl) rfl ?_
          refine x_iload_n C d_KI_findByPart_53 rfl rfl ?_
          refine x_if_ne C 77 d_KI_findByPart_54 (by decide) (fun c_54 => ?_) (fun c_54 => ?_)
          · refine x_aload C d_KI_findByPart_77 rfl ?_
            exact x_aret C (Or.inl ⟨_, rfl⟩) (Or.inr ⟨_, rfl⟩) (Nat.le_of_ble_eq_true rfl) (Nat.le_of_ble_eq_true rfl) d_KI_findByPart_79 ⟨by rw [oPart, if_pos hbk, oBk, if_pos (by omega), xr_some hx], rfl⟩
          · subst c_54
            exact absurd hbk (by decide)
      · refine x_iload_n C d_KI_findByPart_34 rfl rfl ?_
        refine x_iconst C (v := 4) d_KI_findByPart_35 (by decide) ?_
        refine x_icmp_ne C 46 d_KI_findByPart_36 (by decide) (fun c_36 => ?_) (fun c_36 => ?_)
        · have hnb : ¬ (op = 3 ∨ op = 4) := by simp_all
          refine x_iload C d_KI_findByPart_46 rfl ?_
          by_cases hlt : k < xs.length
          · obtain ⟨x, hx⟩ := al_get (show k < xs.length by omega)
            have hN := hX _ _ hx
            refine x_callV1 C (q_KI_entryAt_in l E hK hA hx hN) (lk_KI_45 C.hts (Nat.le_of_ble_eq_true rfl) (Nat.le_of_ble_eq_true rfl)) hK rfl rfl d_KI_findByPart_48 (Nat.le_of_ble_eq_true rfl) (Nat.le_of_ble_eq_true rfl) (Nat.le_of_ble_eq_true rfl) (fun r G' h => ?_)
            obtain ⟨rfl, rfl⟩ := h
            refine x_astore C d_KI_findByPart_51 (Nat.le_of_ble_eq_true rfl) rfl ?_
            refine x_iload_n C d_KI_findByPart_53 rfl rfl ?_
            refine x_if_ne C 77 d_KI_findByPart_54 (by decide) (fun c_54 => ?_) (fun c_54 => ?_)
            · refine x_aload C d_KI_findByPart_77 rfl ?_
              exact x_aret C (Or.inl ⟨_, rfl⟩) (Or.inr ⟨_, rfl⟩) (Nat.le_of_ble_eq_true rfl) (Nat.le_of_ble_eq_true rfl) d_KI_findByPart_79 ⟨by rw [oPart, if_neg hnb, if_pos ⟨hlt, fun q => by first | exact absurd q c_54 | exact (lg_eq _ _).mp c_72⟩, xr_some hx], rfl⟩
            · refine x_aload C d_KI_findByPart_57 rfl ?_
              refine x_ifnull C d_KI_findByPart_59 ?_
              refine x_aload_n C d_KI_findByPart_62 rfl rfl ?_
              refine x_aload C d_KI_findByPart_63 rfl ?_
              refine x_iload C d_KI_findByPart_65 rfl ?_
              refine x_callV2 C (q_KI_partOf l E hK hN) (lk_KI_105 C.hts (Nat.le_of_ble_eq_true rfl) (Nat.le_of_ble_eq_true rfl)) hK rfl rfl d_KI_findByPart_67 (Nat.le_of_ble_eq_true rfl) (Nat.le_of_ble_eq_true rfl) (Nat.le_of_ble_eq_true rfl) (fun r G' h => ?_)
              obtain ⟨rfl, rfl⟩ := h
              refine x_lload_n C d_KI_findByPart_70 rfl rfl ?_
              refine x_lcmp C d_KI_findByPart_71 ?_
              refine x_if_eq C 77 d_KI_findByPart_72 (by decide) (fun c_72 => ?_) (fun c_72 => ?_)
              · refine x_aload C d_KI_findByPart_77 rfl ?_
                exact x_aret C (Or.inl ⟨_, rfl⟩) (Or.inr ⟨_, rfl⟩) (Nat.le_of_ble_eq_true rfl) (Nat.le_of_ble_eq_true rfl) d_KI_findByPart_79 ⟨by rw [oPart, if_neg hnb, if_pos ⟨hlt, fun q => by first | exact absurd q c_54 | exact (lg_eq _ _).mp c_72⟩, xr_some hx], rfl⟩
              · refine x_null C d_KI_findByPart_75 ?_
                exact x_aret C (Or.inl ⟨_, rfl⟩) (Or.inl rfl) (Nat.le_of_ble_eq_true rfl) (Nat.le_of_ble_eq_true rfl) d_KI_findByPart_76 ⟨by rw [oPart, if_neg hnb, if_neg (fun q => c_72 ((lg_eq _ _).mpr (q.2 c_54))), xr_none], rfl⟩
          · refine x_callV1 C (q_KI_entryAt_out l E hK hA (Or.inr (nI_le (by omega) (by omega)))) (lk_KI_45 C.hts (Nat.le_of_ble_eq_true rfl) (Nat.le_of_ble_eq_true rfl)) hK rfl rfl d_KI_findByPart_48 (Nat.le_of_ble_eq_true rfl) (Nat.le_of_ble_eq_true rfl) (Nat.le_of_ble_eq_true rfl) (fun r G' h => ?_)
            obtain ⟨rfl, rfl⟩ := h
            refine x_astoreN C d_KI_findByPart_51 (Nat.le_of_ble_eq_true rfl) rfl ?_
            refine x_iload_n C d_KI_findByPart_53 rfl rfl ?_
            refine x_if_ne C 77 d_KI_findByPart_54 (by decide) (fun c_54 => ?_) (fun c_54 => ?_)
            · refine x_aloadN C d_KI_findByPart_77 rfl ?_
              exact x_aret C (Or.inl ⟨_, rfl⟩) (Or.inl rfl) (Nat.le_of_ble_eq_true rfl) (Nat.le_of_ble_eq_true rfl) d_KI_findByPart_79 ⟨by rw [oPart, if_neg hnb, if_neg (fun q => hlt q.1), xr_none], rfl⟩
            · refine x_aloadN C d_KI_findByPart_57 rfl ?_
              refine x_ifnullN C 77 d_KI_findByPart_59 (by decide) ?_
              refine x_aloadN C d_KI_findByPart_77 rfl ?_
              exact x_aret C (Or.inl ⟨_, rfl⟩) (Or.inl rfl) (Nat.le_of_ble_eq_true rfl) (Nat.le_of_ble_eq_true rfl) d_KI_findByPart_79 ⟨by rw [oPart, if_neg hnb, if_neg (fun q => hlt q.1), xr_none], rfl⟩
        · have hbk : op = 3 ∨ op = 4 := by simp_all
          refine x_iload C d_KI_findByPart_39 rfl ?_
          refine x_iconst C (v := 1) d_KI_findByPart_41 (by decide) ?_
          refine x_isub C d_KI_findByPart_42 ?_
          refine x_goto C 48 d_KI_findByPart_43 (by decide) ?_
          by_cases hk0 : k = 0
          · have hm1 : nI k - 1 < 0 := by rw [hk0]; decide
            refine x_callV1 C (q_KI_entryAt_out l E hK hA (Or.inl hm1)) (lk_KI_45 C.hts (Nat.le_of_ble_eq_true rfl) (Nat.le_of_ble_eq_true rfl)) hK rfl rfl d_KI_findByPart_48 (Nat.le_of_ble_eq_true rfl) (Nat.le_of_ble_eq_true rfl) (Nat.le_of_ble_eq_true rfl) (fun r G' h => ?_)
            obtain ⟨rfl, rfl⟩ := h
            refine x_astoreN C d_KI_findByPart_51 (Nat.le_of_ble_eq_true rfl) rfl ?_
            refine x_iload_n C d_KI_findByPart_53 rfl rfl ?_
            refine x_if_ne C 77 d_KI_findByPart_54 (by decide) (fun c_54 => ?_) (fun c_54 => ?_)
            · refine x_aloadN C d_KI_findByPart_77 rfl ?_
              exact x_aret C (Or.inl ⟨_, rfl⟩) (Or.inl rfl) (Nat.le_of_ble_eq_true rfl) (Nat.le_of_ble_eq_true rfl) d_KI_findByPart_79 ⟨by rw [oPart, if_pos hbk, oBk, if_neg (by omega), xr_none], rfl⟩
            · subst c_54
              exact absurd hbk (by decide)
          · rw [al_pred (show 0 < k by omega)]
            obtain ⟨x, hx⟩ := al_get (show k - 1 < xs.length by omega)
            have hN := hX _ _ hx
            refine x_callV1 C (q_KI_entryAt_in l E hK hA hx hN) (lk_KI_45 C.hts (Nat.le_of_ble_eq_true rfl) (Nat.le_of_ble_eq_true rfl)) hK rfl rfl d_KI_findByPart_48 (Nat.le_of_ble_eq_true rfl) (Nat.le_of_ble_eq_true rfl) (Nat.le_of_ble_eq_true rfl) (fun r G' h => ?_)
            obtain ⟨rfl, rfl⟩ := h
            refine x_astore C d_KI_findByPart_51 (Nat.le_of_ble_eq_true rfl) rfl ?_
            refine x_iload_n C d_KI_findByPart_53 rfl rfl ?_
            refine x_if_ne C 77 d_KI_findByPart_54 (by decide) (fun c_54 => ?_) (fun c_54 => ?_)
            · refine x_aload C d_KI_findByPart_77 rfl ?_
              exact x_aret C (Or.inl ⟨_, rfl⟩) (Or.inr ⟨_, rfl⟩) (Nat.le_of_ble_eq_true rfl) (Nat.le_of_ble_eq_true rfl) d_KI_findByPart_79 ⟨by rw [oPart, if_pos hbk, oBk, if_pos (by omega), xr_some hx], rfl⟩
            · subst c_54
              exact absurd hbk (by decide)
set_option maxRecDepth 100000 in
set_option maxHeartbeats 4000000 in
theorem q_KI_isRightlyAhead (l : Launch) (E : xE) {G : xw_G} {h0 en : Nat} {db sp : Bool} {fr sz : Int32} {lo : Int64} (hK : G h0 = some (eKI db fr sz en sp lo)) {a1 a2 s1 s2 : Nat} {f1 c1 f2 c2 : Int64} (hN1 : G a1 = some (eEN f1 c1 s1)) (hN2 : G a2 = some (eEN f2 c2 s2)) : XMk l E y_KI_isRightlyAhead w_KI_isRightlyAhead rm_KI_isRightlyAhead [.ref h0, .ref a1, .ref a2] G (fun r G' => r = some (.int (bI (ahead f1 c1 f2 c2 && (db || decide (¬ f1 = f2))))) ∧ G = G') 0 0 := by
  refine XM_of [some (.ref h0), some (.ref a1), some (.ref a2)] (XZ_st E) (by decide) rfl rfl rfl (Nat.le_of_ble_eq_true rfl) (fun p e s m below meth c C hnm => ?_)
  refine x_aload_n C d_KI_isRightlyAhead_0 rfl rfl ?_
  refine x_aload_n C d_KI_isRightlyAhead_1 rfl rfl ?_
  refine x_get C hN2 rfl (in_EN _) 0 (by decide) (List.mem_cons_of_mem _ f_KI_57) rfl d_KI_isRightlyAhead_2 ?_
  refine x_aload_n C d_KI_isRightlyAhead_5 rfl rfl ?_
  refine x_get C hN2 rfl (in_EN _) 1 (by decide) (List.mem_cons_of_mem _ f_KI_87) rfl d_KI_isRightlyAhead_6 ?_
  refine x_callV2 C (q_EN_standsAheadOf l E hN1) (lk_KI_49 C.hts (Nat.le_of_ble_eq_true rfl) (Nat.le_of_ble_eq_true rfl)) hN1 rfl rfl d_KI_isRightlyAhead_9 (Nat.le_of_ble_eq_true rfl) (Nat.le_of_ble_eq_true rfl) (Nat.le_of_ble_eq_true rfl) (fun r G' h => ?_)
  obtain ⟨rfl, rfl⟩ := h
  refine x_if_eq C 38 d_KI_isRightlyAhead_12 (by decide) (fun c_12 => ?_) (fun c_12 => ?_)
  · refine x_iconst C (v := 0) d_KI_isRightlyAhead_38 (by decide) ?_
    exact x_zret C rfl (Nat.le_of_ble_eq_true rfl) (Nat.le_of_ble_eq_true rfl) d_KI_isRightlyAhead_39 ⟨congrArg some (congrArg Value.int (by simp_all [lg_eq, bI_0, bI])), rfl⟩
  · refine x_aload_n C d_KI_isRightlyAhead_15 rfl rfl ?_
    refine x_get C hK rfl (in_KI _) 0 (by decide) (List.mem_cons_of_mem _ f_KI_9) rfl d_KI_isRightlyAhead_16 ?_
    refine x_if_ne C 34 d_KI_isRightlyAhead_19 (by decide) (fun c_19 => ?_) (fun c_19 => ?_)
    · refine x_iconst C (v := 1) d_KI_isRightlyAhead_34 (by decide) ?_
      refine x_goto C 39 d_KI_isRightlyAhead_35 (by decide) ?_
      exact x_zret C rfl (Nat.le_of_ble_eq_true rfl) (Nat.le_of_ble_eq_true rfl) d_KI_isRightlyAhead_39 ⟨congrArg some (congrArg Value.int (by simp_all [lg_eq, bI_0, bI])), rfl⟩
    · refine x_aload_n C d_KI_isRightlyAhead_22 rfl rfl ?_
      refine x_get C hN1 rfl (in_EN _) 0 (by decide) (List.mem_cons_of_mem _ f_KI_57) rfl d_KI_isRightlyAhead_23 ?_
      refine x_aload_n C d_KI_isRightlyAhead_26 rfl rfl ?_
      refine x_get C hN2 rfl (in_EN _) 0 (by decide) (List.mem_cons_of_mem _ f_KI_57) rfl d_KI_isRightlyAhead_27 ?_
      refine x_lcmp C d_KI_isRightlyAhead_30 ?_
      refine x_if_eq C 38 d_KI_isRightlyAhead_31 (by decide) (fun c_31 => ?_) (fun c_31 => ?_)
      · refine x_iconst C (v := 0) d_KI_isRightlyAhead_38 (by decide) ?_
        exact x_zret C rfl (Nat.le_of_ble_eq_true rfl) (Nat.le_of_ble_eq_true rfl) d_KI_isRightlyAhead_39 ⟨congrArg some (congrArg Value.int (by simp_all [lg_eq, bI_0, bI])), rfl⟩
      · refine x_iconst C (v := 1) d_KI_isRightlyAhead_34 (by decide) ?_
        refine x_goto C 39 d_KI_isRightlyAhead_35 (by decide) ?_
        exact x_zret C rfl (Nat.le_of_ble_eq_true rfl) (Nat.le_of_ble_eq_true rfl) d_KI_isRightlyAhead_39 ⟨congrArg some (congrArg Value.int (by simp_all [lg_eq, bI_0, bI])), rfl⟩
set_option maxRecDepth 100000 in
set_option maxHeartbeats 4000000 in
theorem q_KI_enter_out (l : Launch) (E : xE) {G : xw_G} {h0 en : Nat} {db sp : Bool} {fr sz : Int32} {lo : Int64} (hK : G h0 = some (eKI db fr sz en sp lo)) {st : Nat} {by1 sw : Int64} {th : Bool} (hS : G st = some (eST by1 th sw)) {d : Int64} (ho : (sp && decide ((fldI fr sz by1) = lo)) = true) : XMk l E y_KI_enter w_KI_enter rm_KI_enter [.ref h0, .ref st, .long (d)] G (fun r G' => r = some (.int 0) ∧ G = G') 2 369 := by
  refine XM_of [some (.ref h0), some (.ref st), some (.long (d)), none, none, none, none, none] (XZ_st E) (by decide) rfl rfl rfl (Nat.le_of_ble_eq_true rfl) (fun p e s m below meth c C hnm => ?_)
  refine x_aload_n C d_KI_enter_0 rfl rfl ?_
  refine x_aload_n C d_KI_enter_1 rfl rfl ?_
  refine x_get C hS rfl (in_ST _) 0 (by decide) (List.mem_cons_of_mem _ f_KI_60) rfl d_KI_enter_2 ?_
  refine x_callV1 C (q_KI_fieldIn l E hK) (lk_KI_65 C.hts (Nat.le_of_ble_eq_true rfl) (Nat.le_of_ble_eq_true rfl)) hK rfl rfl d_KI_enter_5 (Nat.le_of_ble_eq_true rfl) (Nat.le_of_ble_eq_true rfl) (Nat.le_of_ble_eq_true rfl) (fun r G' h => ?_)
  obtain ⟨rfl, rfl⟩ := h
  refine x_lstore C d_KI_enter_8 (Nat.le_of_ble_eq_true rfl) rfl ?_
  refine x_aload_n C d_KI_enter_10 rfl rfl ?_
  refine x_lload C d_KI_enter_11 rfl ?_
  refine x_callV1 C (q_KI_leavesOut l E hK) (lk_KI_69 C.hts (Nat.le_of_ble_eq_true rfl) (Nat.le_of_ble_eq_true rfl)) hK rfl rfl d_KI_enter_13 (Nat.le_of_ble_eq_true rfl) (Nat.le_of_ble_eq_true rfl) (Nat.le_of_ble_eq_true rfl) (fun r G' h => ?_)
  obtain ⟨rfl, rfl⟩ := h
  refine x_if_eq C 21 d_KI_enter_16 (by decide) (fun c_16 => ?_) (fun c_16 => ?_)
  · exact absurd c_16 (by rw [ho]; decide)
  · refine x_iconst C (v := 0) d_KI_enter_19 (by decide) ?_
    exact x_zret C rfl (Nat.le_of_ble_eq_true rfl) (Nat.le_of_ble_eq_true rfl) d_KI_enter_20 ⟨rfl, rfl⟩
theorem fr_q {E : xE} {G G' : xw_G} {h ar q : Nat} {e : Option va_E} (hq : G q = none) (hF : xFr E (va_up G q e) G' h ar) : xFr E G G' h ar := fun a e0 ha h1 h2 => hF a e0 (by rw [va_up_ne _ _ (xw_neF hq ha)]; exact ha) h1 h2
set_option maxRecDepth 100000 in
set_option maxHeartbeats 4000000 in
theorem q_KI_enter_in (l : Launch) (E : xE) {G : xw_G} {h0 en : Nat} {db sp : Bool} {fr sz : Int32} {lo : Int64} (hK : G h0 = some (eKI db fr sz en sp lo)) {ar : Nat} {xs : List Nat} (hA : xAL E G en ar xs) {fd cm : Nat → Int64} {so : Nat → Nat} (hX : xEs G xs fd cm so) {st : Nat} {by1 sw : Int64} {th : Bool} (hS : G st = some (eST by1 th sw)) {d : Int64} (ho : (sp && decide ((fldI fr sz by1) = lo)) = false) (hE : xEm E G) (hn : xs.length ≤ 300) {k : Nat} (hk : k ≤ xs.length) (hp : ∀ i : Nat, i < xs.length → (ahead (fd i) (cm i) (fldI fr sz by1) d = true ↔ i < k)) : XMk l E y_KI_enter w_KI_enter rm_KI_enter [.ref h0, .ref st, .long (d)] G (fun r G' => ∃ q ar' : Nat, r = some (.int (bI (decide (0 < k ∧ fd (k - 1) = fldI fr sz by1)))) ∧ G q = none ∧ (ar' = ar ∨ G ar' = none) ∧ xAL E G' en ar' (xs.insertIdx k q) ∧ G' q = some (eEN (fldI fr sz by1) d st) ∧ xFr E G G' en ar) 2 369 := by
  refine XM_of [some (.ref h0), some (.ref st), some (.long (d)), none, none, none, none, none] (XZ_st E) (by decide) rfl rfl rfl (Nat.le_of_ble_eq_true rfl) (fun p e s m below meth c C hnm => ?_)
  obtain ⟨cap, md, ff, hL, hAr, hc1, hc2, -, -⟩ := id hA
  have hcl := capOK_le hc2
  refine x_aload_n C d_KI_enter_0 rfl rfl ?_
  refine x_aload_n C d_KI_enter_1 rfl rfl ?_
  refine x_get C hS rfl (in_ST _) 0 (by decide) (List.mem_cons_of_mem _ f_KI_60) rfl d_KI_enter_2 ?_
  refine x_callV1 C (q_KI_fieldIn l E hK) (lk_KI_65 C.hts (Nat.le_of_ble_eq_true rfl) (Nat.le_of_ble_eq_true rfl)) hK rfl rfl d_KI_enter_5 (Nat.le_of_ble_eq_true rfl) (Nat.le_of_ble_eq_true rfl) (Nat.le_of_ble_eq_true rfl) (fun r G' h => ?_)
  obtain ⟨rfl, rfl⟩ := h
  refine x_lstore C d_KI_enter_8 (Nat.le_of_ble_eq_true rfl) rfl ?_
  refine x_aload_n C d_KI_enter_10 rfl rfl ?_
  refine x_lload C d_KI_enter_11 rfl ?_
  refine x_callV1 C (q_KI_leavesOut l E hK) (lk_KI_69 C.hts (Nat.le_of_ble_eq_true rfl) (Nat.le_of_ble_eq_true rfl)) hK rfl rfl d_KI_enter_13 (Nat.le_of_ble_eq_true rfl) (Nat.le_of_ble_eq_true rfl) (Nat.le_of_ble_eq_true rfl) (fun r G' h => ?_)
  obtain ⟨rfl, rfl⟩ := h
  refine x_if_eq C 21 d_KI_enter_16 (by decide) (fun c_16 => ?_) (fun c_16 => ?_)
  · refine x_aload_n C d_KI_enter_21 rfl rfl ?_
    refine x_lload C d_KI_enter_22 rfl ?_
    refine x_lload_n C d_KI_enter_24 rfl rfl ?_
    refine x_callV2 C (q_KI_countAheadOf l E hK hA hX hk hp) (lk_KI_53 C.hts (Nat.le_of_ble_eq_true rfl) (Nat.le_of_ble_eq_true rfl)) hK rfl rfl d_KI_enter_25 (Nat.le_of_ble_eq_true rfl) (Nat.le_of_ble_eq_true rfl) (Nat.le_of_ble_eq_true rfl) (fun r G' h => ?_)
    obtain ⟨rfl, rfl⟩ := h
    refine x_istore C d_KI_enter_28 (Nat.le_of_ble_eq_true rfl) rfl ?_
    refine x_iload C d_KI_enter_30 rfl ?_
    refine x_aload_n C d_KI_enter_32 rfl rfl ?_
    refine x_get C hK rfl (in_KI _) 3 (by decide) (List.mem_cons_of_mem _ f_KI_25) rfl d_KI_enter_33 ?_
    refine x_callV0 C (q_AL_sizeL l E hA) (lk_KI_36 C.hts (Nat.le_of_ble_eq_true rfl) (Nat.le_of_ble_eq_true rfl)) hL rfl rfl d_KI_enter_36 (Nat.le_of_ble_eq_true rfl) (Nat.le_of_ble_eq_true rfl) (Nat.le_of_ble_eq_true rfl) (fun r G' h => ?_)
    obtain ⟨rfl, rfl⟩ := h
    refine x_icmp_le C 44 d_KI_enter_39 (by decide) (fun c_39 => ?_) (fun c_39 => ?_)
    · refine x_aload_n C d_KI_enter_44 rfl rfl ?_
      refine x_get C hK rfl (in_KI _) 3 (by decide) (List.mem_cons_of_mem _ f_KI_25) rfl d_KI_enter_45 ?_
      refine x_iload C d_KI_enter_48 rfl ?_
      refine x_new C (ci := 1) (fs := [.long 0, .long 0, .null]) rfl (in_EN _) ty_EN tok_EN (List.mem_cons_of_mem _ cl_KI_43) (List.mem_cons_of_mem _ kb_EN) (List.mem_cons_of_mem _ kz_EN) (fun j hj => by rcases (show j = 0 ∨ j = 1 ∨ j = 2 by omega) with rfl | rfl | rfl <;> rfl) (Nat.le_of_ble_eq_true rfl) (Nat.le_of_ble_eq_true rfl) d_KI_enter_50 (fun q hq hBq => ?_)
      refine x_dup C d_KI_enter_53 rfl ?_
      refine x_lload C d_KI_enter_54 rfl ?_
      refine x_lload_n C d_KI_enter_56 rfl rfl ?_
      refine x_aload_n C d_KI_enter_57 rfl rfl ?_
      refine x_callI3 C (q_EN_init l E (va_up_self _ _ _)) (lk_KI_73 C.hts (Nat.le_of_ble_eq_true rfl) (Nat.le_of_ble_eq_true rfl)) rfl d_KI_enter_58 (Nat.le_of_ble_eq_true rfl) (Nat.le_of_ble_eq_true rfl) (Nat.le_of_ble_eq_true rfl) (fun r G' h => ?_)
      obtain ⟨rfl, rfl⟩ := h
      rw [bx_uu]
      refine x_callV2 C (q_AL_addI l E (G := (va_up G q (some (eEN (fldI fr sz by1) d st)))) hk (xAL_fresh hq hA) ⟨1, _, va_up_self _ _ _, Or.inl rfl⟩ (fun y hy => xw_el_fresh (xEs_el hX y hy) hq) (xEm_fresh hq hE) hn) (lk_KI_76 C.hts (Nat.le_of_ble_eq_true rfl) (Nat.le_of_ble_eq_true rfl)) (xw_keep hL (xw_neF hq hL)) rfl rfl d_KI_enter_61 (Nat.le_of_ble_eq_true rfl) (Nat.le_of_ble_eq_true rfl) (Nat.le_of_ble_eq_true rfl) (fun r G' h => ?_)
      obtain ⟨rfl, ar', g1, g2, g3⟩ := h
      have hK2 := xAL_keep (xAL_fresh hq hA) g3 (xw_keep hK (xw_neF hq hK)) (by decide)
      refine x_aload_n C d_KI_enter_64 rfl rfl ?_
      refine x_iload C d_KI_enter_65 rfl ?_
      refine x_iconst C (v := 1) d_KI_enter_67 (by decide) ?_
      refine x_isub C d_KI_enter_68 ?_
      by_cases hk0 : k = 0
      · have hm1 : nI k - 1 < 0 := by rw [hk0]; decide
        refine x_callV1 C (q_KI_entryAt_out l E hK2 g2 (Or.inl hm1)) (lk_KI_45 C.hts (Nat.le_of_ble_eq_true rfl) (Nat.le_of_ble_eq_true rfl)) hK2 rfl rfl d_KI_enter_69 (Nat.le_of_ble_eq_true rfl) (Nat.le_of_ble_eq_true rfl) (Nat.le_of_ble_eq_true rfl) (fun r G' h => ?_)
        obtain ⟨rfl, rfl⟩ := h
        refine x_astoreN C d_KI_enter_72 (Nat.le_of_ble_eq_true rfl) rfl ?_
        refine x_aloadN C d_KI_enter_74 rfl ?_
        refine x_ifnullN C 94 d_KI_enter_76 (by decide) ?_
        refine x_iconst C (v := 0) d_KI_enter_94 (by decide) ?_
        exact x_zret C rfl (Nat.le_of_ble_eq_true rfl) (Nat.le_of_ble_eq_true rfl) d_KI_enter_95 ⟨q, ar', congrArg some (congrArg Value.int (by simp [hk0, bI])), hq, g1.imp id none_mod, g2, xAL_keep (xAL_fresh hq hA) g3 (va_up_self _ _ _) (by decide), fr_q hq g3⟩
      · rw [al_pred (show 0 < k by omega)]
        obtain ⟨x, hx⟩ := al_get (show k - 1 < xs.length by omega)
        have hx2 : (xs.insertIdx k q)[k - 1]? = some x := by rw [List.getElem?_insertIdx_of_lt (by omega)]; exact hx
        have hN2 := xAL_keep (xAL_fresh hq hA) g3 (xw_keep (hX _ _ hx) (xw_neF hq (hX _ _ hx))) (by decide)
        refine x_callV1 C (q_KI_entryAt_in l E hK2 g2 hx2 hN2) (lk_KI_45 C.hts (Nat.le_of_ble_eq_true rfl) (Nat.le_of_ble_eq_true rfl)) hK2 rfl rfl d_KI_enter_69 (Nat.le_of_ble_eq_true rfl) (Nat.le_of_ble_eq_true rfl) (Nat.le_of_ble_eq_true rfl) (fun r G' h => ?_)
        obtain ⟨rfl, rfl⟩ := h
        refine x_astore C d_KI_enter_72 (Nat.le_of_ble_eq_true rfl) rfl ?_
        refine x_aload C d_KI_enter_74 rfl ?_
        refine x_ifnull C d_KI_enter_76 ?_
        refine x_aload C d_KI_enter_79 rfl ?_
        refine x_get C hN2 rfl (in_EN _) 0 (by decide) (List.mem_cons_of_mem _ f_KI_57) rfl d_KI_enter_81 ?_
        refine x_lload C d_KI_enter_84 rfl ?_
        refine x_lcmp C d_KI_enter_86 ?_
        refine x_if_ne C 94 d_KI_enter_87 (by decide) (fun c_87 => ?_) (fun c_87 => ?_)
        · refine x_iconst C (v := 0) d_KI_enter_94 (by decide) ?_
          exact x_zret C rfl (Nat.le_of_ble_eq_true rfl) (Nat.le_of_ble_eq_true rfl) d_KI_enter_95 ⟨q, ar', congrArg some (congrArg Value.int (by simp [bI, Nat.pos_of_ne_zero hk0, (lg_eq (fd (k - 1)) (fldI fr sz by1)).symm, c_87])), hq, g1.imp id none_mod, g2, xAL_keep (xAL_fresh hq hA) g3 (va_up_self _ _ _) (by decide), fr_q hq g3⟩
        · refine x_iconst C (v := 1) d_KI_enter_90 (by decide) ?_
          refine x_goto C 95 d_KI_enter_91 (by decide) ?_
          exact x_zret C rfl (Nat.le_of_ble_eq_true rfl) (Nat.le_of_ble_eq_true rfl) d_KI_enter_95 ⟨q, ar', congrArg some (congrArg Value.int (by simp [bI, Nat.pos_of_ne_zero hk0, (lg_eq (fd (k - 1)) (fldI fr sz by1)).symm, c_87])), hq, g1.imp id none_mod, g2, xAL_keep (xAL_fresh hq hA) g3 (va_up_self _ _ _) (by decide), fr_q hq g3⟩
    · exact absurd (nI_le hk (by omega)) c_39
  · exact absurd (by rw [ho]; rfl) c_16
set_option maxRecDepth 100000 in
set_option maxHeartbeats 4000000 in
theorem q_KI_drop_found (l : Launch) (E : xE) {G : xw_G} {h0 en : Nat} {db sp : Bool} {fr sz : Int32} {lo : Int64} (hK : G h0 = some (eKI db fr sz en sp lo)) {ar : Nat} {xs : List Nat} (hA : xAL E G en ar xs) {fd cm : Nat → Int64} {so : Nat → Nat} (hX : xEs G xs fd cm so) {st j : Nat} {f : Int64} (hE : xEm E G) {k : Nat} (hk : k ≤ xs.length) (hp : ∀ i : Nat, i < xs.length → (ahead (fd i) (cm i) f 0 = true ↔ i < k)) (hkj : k ≤ j) (hj : j < xs.length) (hso : so j = st) (hbe : ∀ i : Nat, k ≤ i → i < j → so i ≠ st ∧ fd i = f) : XMk l E y_KI_drop w_KI_drop rm_KI_drop [.ref h0, .ref st, .long f] G (fun r G' => r = none ∧ xAL E G' en ar (xs.eraseIdx j) ∧ xFr E G G' en ar) 0 0 := by
  refine XM_of [some (.ref h0), some (.ref st), some (.long (f)), none, none] (XZ_st E) (by decide) rfl rfl rfl (Nat.le_of_ble_eq_true rfl) (fun p e s m below meth c C hnm => ?_)
  obtain ⟨cap, md, ff, hL, hAr, hc1, hc2, -, -⟩ := id hA
  have hcl := capOK_le hc2
  have loop : ∀ (n i : Nat), i + n = j → k ≤ i → XW p l e rm_KI_drop s m #[.ref h0, .ref st, .long f] below meth c (XQ below #[.ref h0, .ref st, .long f] s (xD E) xcl (xB E) (fun r G' => r = none ∧ xAL E G' en ar (xs.eraseIdx j) ∧ xFr E G G' en ar) 0 0) (xD E) xcl (xB E) 8 [some (.ref h0), some (.ref st), some (.long f), none, some (.int (nI i))] [] G 0 0 := by
    intro n
    induction n with
    | zero =>
      intro i hi hki
      have hij : i = j := by omega
      subst hij
      obtain ⟨x, hx⟩ := al_get hj
      have hN := hX _ _ hx
      refine x_iload C d_KI_drop_8 rfl ?_
      refine x_aload_n C d_KI_drop_10 rfl rfl ?_
      refine x_get C hK rfl (in_KI _) 3 (by decide) (List.mem_cons_of_mem _ f_KI_25) rfl d_KI_drop_11 ?_
      refine x_callV0 C (q_AL_sizeL l E hA) (lk_KI_36 C.hts (Nat.le_of_ble_eq_true rfl) (Nat.le_of_ble_eq_true rfl)) hL rfl rfl d_KI_drop_14 (Nat.le_of_ble_eq_true rfl) (Nat.le_of_ble_eq_true rfl) (Nat.le_of_ble_eq_true rfl) (fun r G' h => ?_)
      obtain ⟨rfl, rfl⟩ := h
      refine x_icmp_ge C 77 d_KI_drop_17 (by decide) (fun c_17 => ?_) (fun c_17 => ?_)
      · exact absurd c_17 (nI_ge (by omega) (by omega))
      · refine x_aload_n C d_KI_drop_20 rfl rfl ?_
        refine x_get C hK rfl (in_KI _) 3 (by decide) (List.mem_cons_of_mem _ f_KI_25) rfl d_KI_drop_21 ?_
        refine x_iload C d_KI_drop_24 rfl ?_
        refine x_callV1 C (q_AL_getL l E hA hx) (lk_KI_39 C.hts (Nat.le_of_ble_eq_true rfl) (Nat.le_of_ble_eq_true rfl)) hL rfl rfl d_KI_drop_26 (Nat.le_of_ble_eq_true rfl) (Nat.le_of_ble_eq_true rfl) (Nat.le_of_ble_eq_true rfl) (fun r G' h => ?_)
        obtain ⟨rfl, rfl⟩ := h
        refine x_castS C hN rfl (List.mem_cons_of_mem _ cl_KI_43) d_KI_drop_29 ?_
        refine x_get C hN rfl (in_EN _) 2 (by decide) (List.mem_cons_of_mem _ f_KI_80) rfl d_KI_drop_32 ?_
        refine x_aload_n C d_KI_drop_35 rfl rfl ?_
        refine x_acmp_ne C (rx := some (so (i))) (ry := some st) 50 d_KI_drop_36 (by decide) (fun c_36 => ?_) (fun c_36 => ?_)
        · exact absurd (by rw [hso]) c_36
        · refine x_aload_n C d_KI_drop_39 rfl rfl ?_
          refine x_get C hK rfl (in_KI _) 3 (by decide) (List.mem_cons_of_mem _ f_KI_25) rfl d_KI_drop_40 ?_
          refine x_iload C d_KI_drop_43 rfl ?_
          refine x_callV1 C (q_AL_remove l E hx hA (xEs_el hX) hE hj) (lk_KI_84 C.hts (Nat.le_of_ble_eq_true rfl) (Nat.le_of_ble_eq_true rfl)) hL rfl rfl d_KI_drop_45 (Nat.le_of_ble_eq_true rfl) (Nat.le_of_ble_eq_true rfl) (Nat.le_of_ble_eq_true rfl) (fun r G' h => ?_)
          obtain ⟨rfl, g1, g2⟩ := h
          refine x_pop C d_KI_drop_48 rfl ?_
          exact x_vret C (Nat.le_of_ble_eq_true rfl) (Nat.le_of_ble_eq_true rfl) d_KI_drop_49 ⟨rfl, g1, g2⟩
    | succ n ih =>
      intro i hi hki
      obtain ⟨x, hx⟩ := al_get (show i < xs.length by omega)
      have hN := hX _ _ hx
      obtain ⟨hb1, hb2⟩ := hbe i hki (by omega)
      refine x_iload C d_KI_drop_8 rfl ?_
      refine x_aload_n C d_KI_drop_10 rfl rfl ?_
      refine x_get C hK rfl (in_KI _) 3 (by decide) (List.mem_cons_of_mem _ f_KI_25) rfl d_KI_drop_11 ?_
      refine x_callV0 C (q_AL_sizeL l E hA) (lk_KI_36 C.hts (Nat.le_of_ble_eq_true rfl) (Nat.le_of_ble_eq_true rfl)) hL rfl rfl d_KI_drop_14 (Nat.le_of_ble_eq_true rfl) (Nat.le_of_ble_eq_true rfl) (Nat.le_of_ble_eq_true rfl) (fun r G' h => ?_)
      obtain ⟨rfl, rfl⟩ := h
      refine x_icmp_ge C 77 d_KI_drop_17 (by decide) (fun c_17 => ?_) (fun c_17 => ?_)
      · exact absurd c_17 (nI_ge (by omega) (by omega))
      · refine x_aload_n C d_KI_drop_20 rfl rfl ?_
        refine x_get C hK rfl (in_KI _) 3 (by decide) (List.mem_cons_of_mem _ f_KI_25) rfl d_KI_drop_21 ?_
        refine x_iload C d_KI_drop_24 rfl ?_
        refine x_callV1 C (q_AL_getL l E hA hx) (lk_KI_39 C.hts (Nat.le_of_ble_eq_true rfl) (Nat.le_of_ble_eq_true rfl)) hL rfl rfl d_KI_drop_26 (Nat.le_of_ble_eq_true rfl) (Nat.le_of_ble_eq_true rfl) (Nat.le_of_ble_eq_true rfl) (fun r G' h => ?_)
        obtain ⟨rfl, rfl⟩ := h
        refine x_castS C hN rfl (List.mem_cons_of_mem _ cl_KI_43) d_KI_drop_29 ?_
        refine x_get C hN rfl (in_EN _) 2 (by decide) (List.mem_cons_of_mem _ f_KI_80) rfl d_KI_drop_32 ?_
        refine x_aload_n C d_KI_drop_35 rfl rfl ?_
        refine x_acmp_ne C (rx := some (so (i))) (ry := some st) 50 d_KI_drop_36 (by decide) (fun c_36 => ?_) (fun c_36 => ?_)
        · refine x_aload_n C d_KI_drop_50 rfl rfl ?_
          refine x_get C hK rfl (in_KI _) 3 (by decide) (List.mem_cons_of_mem _ f_KI_25) rfl d_KI_drop_51 ?_
          refine x_iload C d_KI_drop_54 rfl ?_
          refine x_callV1 C (q_AL_getL l E hA hx) (lk_KI_39 C.hts (Nat.le_of_ble_eq_true rfl) (Nat.le_of_ble_eq_true rfl)) hL rfl rfl d_KI_drop_56 (Nat.le_of_ble_eq_true rfl) (Nat.le_of_ble_eq_true rfl) (Nat.le_of_ble_eq_true rfl) (fun r G' h => ?_)
          obtain ⟨rfl, rfl⟩ := h
          refine x_castS C hN rfl (List.mem_cons_of_mem _ cl_KI_43) d_KI_drop_59 ?_
          refine x_get C hN rfl (in_EN _) 0 (by decide) (List.mem_cons_of_mem _ f_KI_57) rfl d_KI_drop_62 ?_
          refine x_lload_n C d_KI_drop_65 rfl rfl ?_
          refine x_lcmp C d_KI_drop_66 ?_
          refine x_if_eq C 71 d_KI_drop_67 (by decide) (fun c_67 => ?_) (fun c_67 => ?_)
          · refine x_iinc C d_KI_drop_71 rfl rfl rfl ?_
            refine x_goto C 8 d_KI_drop_74 (by decide) ?_
            have e1 : nI i + Int32.ofInt 1 = nI (i + 1) := nI_1 i
            rw [e1]
            exact ih (i + 1) (by omega) (by omega)
          · exact absurd ((lg_eq _ _).mpr hb2) c_67
        · exact absurd (Option.some.inj c_36) hb1
  refine x_aload_n C d_KI_drop_0 rfl rfl ?_
  refine x_lload_n C d_KI_drop_1 rfl rfl ?_
  refine x_lconst C (v := 0) d_KI_drop_2 (by decide) ?_
  refine x_callV2 C (q_KI_countAheadOf l E hK hA hX hk hp) (lk_KI_53 C.hts (Nat.le_of_ble_eq_true rfl) (Nat.le_of_ble_eq_true rfl)) hK rfl rfl d_KI_drop_3 (Nat.le_of_ble_eq_true rfl) (Nat.le_of_ble_eq_true rfl) (Nat.le_of_ble_eq_true rfl) (fun r G' h => ?_)
  obtain ⟨rfl, rfl⟩ := h
  refine x_istore C d_KI_drop_6 (Nat.le_of_ble_eq_true rfl) rfl ?_
  exact loop (j - k) k (by omega) (Nat.le_refl _)
set_option maxRecDepth 100000 in
set_option maxHeartbeats 4000000 in
theorem q_KI_drop_none (l : Launch) (E : xE) {G : xw_G} {h0 en : Nat} {db sp : Bool} {fr sz : Int32} {lo : Int64} (hK : G h0 = some (eKI db fr sz en sp lo)) {ar : Nat} {xs : List Nat} (hA : xAL E G en ar xs) {fd cm : Nat → Int64} {so : Nat → Nat} (hX : xEs G xs fd cm so) {st : Nat} {f : Int64} {k : Nat} (hk : k ≤ xs.length) (hp : ∀ i : Nat, i < xs.length → (ahead (fd i) (cm i) f 0 = true ↔ i < k)) (hno : k < xs.length → so k ≠ st ∧ fd k ≠ f) : XMk l E y_KI_drop w_KI_drop rm_KI_drop [.ref h0, .ref st, .long (f)] G (fun r G' => r = none ∧ G = G') 0 0 := by
  refine XM_of [some (.ref h0), some (.ref st), some (.long (f)), none, none] (XZ_st E) (by decide) rfl rfl rfl (Nat.le_of_ble_eq_true rfl) (fun p e s m below meth c C hnm => ?_)
  obtain ⟨cap, md, ff, hL, hAr, hc1, hc2, -, -⟩ := id hA
  have hcl := capOK_le hc2
  refine x_aload_n C d_KI_drop_0 rfl rfl ?_
  refine x_lload_n C d_KI_drop_1 rfl rfl ?_
  refine x_lconst C (v := 0) d_KI_drop_2 (by decide) ?_
  refine x_callV2 C (q_KI_countAheadOf l E hK hA hX hk hp) (lk_KI_53 C.hts (Nat.le_of_ble_eq_true rfl) (Nat.le_of_ble_eq_true rfl)) hK rfl rfl d_KI_drop_3 (Nat.le_of_ble_eq_true rfl) (Nat.le_of_ble_eq_true rfl) (Nat.le_of_ble_eq_true rfl) (fun r G' h => ?_)
  obtain ⟨rfl, rfl⟩ := h
  refine x_istore C d_KI_drop_6 (Nat.le_of_ble_eq_true rfl) rfl ?_
  by_cases hlt : k < xs.length
  · obtain ⟨x, hx⟩ := al_get hlt
    have hN := hX _ _ hx
    refine x_iload C d_KI_drop_8 rfl ?_
    refine x_aload_n C d_KI_drop_10 rfl rfl ?_
    refine x_get C hK rfl (in_KI _) 3 (by decide) (List.mem_cons_of_mem _ f_KI_25) rfl d_KI_drop_11 ?_
    refine x_callV0 C (q_AL_sizeL l E hA) (lk_KI_36 C.hts (Nat.le_of_ble_eq_true rfl) (Nat.le_of_ble_eq_true rfl)) hL rfl rfl d_KI_drop_14 (Nat.le_of_ble_eq_true rfl) (Nat.le_of_ble_eq_true rfl) (Nat.le_of_ble_eq_true rfl) (fun r G' h => ?_)
    obtain ⟨rfl, rfl⟩ := h
    refine x_icmp_ge C 77 d_KI_drop_17 (by decide) (fun c_17 => ?_) (fun c_17 => ?_)
    · exact absurd c_17 (nI_ge (by omega) (by omega))
    · refine x_aload_n C d_KI_drop_20 rfl rfl ?_
      refine x_get C hK rfl (in_KI _) 3 (by decide) (List.mem_cons_of_mem _ f_KI_25) rfl d_KI_drop_21 ?_
      refine x_iload C d_KI_drop_24 rfl ?_
      refine x_callV1 C (q_AL_getL l E hA hx) (lk_KI_39 C.hts (Nat.le_of_ble_eq_true rfl) (Nat.le_of_ble_eq_true rfl)) hL rfl rfl d_KI_drop_26 (Nat.le_of_ble_eq_true rfl) (Nat.le_of_ble_eq_true rfl) (Nat.le_of_ble_eq_true rfl) (fun r G' h => ?_)
      obtain ⟨rfl, rfl⟩ := h
      refine x_castS C hN rfl (List.mem_cons_of_mem _ cl_KI_43) d_KI_drop_29 ?_
      refine x_get C hN rfl (in_EN _) 2 (by decide) (List.mem_cons_of_mem _ f_KI_80) rfl d_KI_drop_32 ?_
      refine x_aload_n C d_KI_drop_35 rfl rfl ?_
      refine x_acmp_ne C (rx := some (so (k))) (ry := some st) 50 d_KI_drop_36 (by decide) (fun c_36 => ?_) (fun c_36 => ?_)
      · refine x_aload_n C d_KI_drop_50 rfl rfl ?_
        refine x_get C hK rfl (in_KI _) 3 (by decide) (List.mem_cons_of_mem _ f_KI_25) rfl d_KI_drop_51 ?_
        refine x_iload C d_KI_drop_54 rfl ?_
        refine x_callV1 C (q_AL_getL l E hA hx) (lk_KI_39 C.hts (Nat.le_of_ble_eq_true rfl) (Nat.le_of_ble_eq_true rfl)) hL rfl rfl d_KI_drop_56 (Nat.le_of_ble_eq_true rfl) (Nat.le_of_ble_eq_true rfl) (Nat.le_of_ble_eq_true rfl) (fun r G' h => ?_)
        obtain ⟨rfl, rfl⟩ := h
        refine x_castS C hN rfl (List.mem_cons_of_mem _ cl_KI_43) d_KI_drop_59 ?_
        refine x_get C hN rfl (in_EN _) 0 (by decide) (List.mem_cons_of_mem _ f_KI_57) rfl d_KI_drop_62 ?_
        refine x_lload_n C d_KI_drop_65 rfl rfl ?_
        refine x_lcmp C d_KI_drop_66 ?_
        refine x_if_eq C 71 d_KI_drop_67 (by decide) (fun c_67 => ?_) (fun c_67 => ?_)
        · exact absurd ((lg_eq _ _).mp c_67) (hno hlt).2
        · exact x_vret C (Nat.le_of_ble_eq_true rfl) (Nat.le_of_ble_eq_true rfl) d_KI_drop_70 ⟨rfl, rfl⟩
      · exact absurd (Option.some.inj c_36) (hno hlt).1
  · refine x_iload C d_KI_drop_8 rfl ?_
    refine x_aload_n C d_KI_drop_10 rfl rfl ?_
    refine x_get C hK rfl (in_KI _) 3 (by decide) (List.mem_cons_of_mem _ f_KI_25) rfl d_KI_drop_11 ?_
    refine x_callV0 C (q_AL_sizeL l E hA) (lk_KI_36 C.hts (Nat.le_of_ble_eq_true rfl) (Nat.le_of_ble_eq_true rfl)) hL rfl rfl d_KI_drop_14 (Nat.le_of_ble_eq_true rfl) (Nat.le_of_ble_eq_true rfl) (Nat.le_of_ble_eq_true rfl) (fun r G' h => ?_)
    obtain ⟨rfl, rfl⟩ := h
    refine x_icmp_ge C 77 d_KI_drop_17 (by decide) (fun c_17 => ?_) (fun c_17 => ?_)
    · exact x_vret C (Nat.le_of_ble_eq_true rfl) (Nat.le_of_ble_eq_true rfl) d_KI_drop_77 ⟨rfl, rfl⟩
    · exact absurd (nI_le (by omega) (by omega)) c_17
