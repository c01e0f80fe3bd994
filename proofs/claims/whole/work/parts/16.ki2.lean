/-- an entry by its number, if there is one -/
def xr (xs : List Nat) (o : Option Nat) : Value := va_rf (o.bind (fun i => xs[i]?))
theorem xr_some {xs : List Nat} {i a : Nat} (h : xs[i]? = some a) : xr xs (some i) = .ref a := by
  show va_rf (xs[i]?) = _
  rw [h]
  rfl
theorem xr_none {xs : List Nat} : xr xs none = .null := rfl
/-- the part of an entry against k, as the search by part asks -/
def byPart (sz b : Int32) (eq : Bool) (f prt : Int64) : Bool := decide (uN (prtI sz b f) < uN prt) || (eq && decide (prtI sz b f = prt))
def oEq (n : Nat) (fd : Nat → Int64) (k : Nat) (f : Int64) : Option Nat := if k < n ∧ fd k = f then some k else none
def oAt (n k : Nat) : Option Nat := if k < n then some k else none
def oBk (k : Nat) : Option Nat := if 0 < k then some (k - 1) else none
def eqNext (n : Nat) (fd : Nat → Int64) (k : Nat) (f : Int64) (back : Bool) : Bool := if back then decide (0 < k ∧ fd (k - 1) = f) else decide (k + 1 < n ∧ fd (k + 1) = f)
def oPart (n : Nat) (fd : Nat → Int64) (sz b op : Int32) (prt : Int64) (k : Nat) : Option Nat := if op = 3 ∨ op = 4 then oBk k else if k < n ∧ (op = 0 → prtI sz b (fd k) = prt) then some k else none
set_option maxRecDepth 100000 in
set_option maxHeartbeats 4000000 in
theorem q_KI_countByPart (l : Launch) (E : xE) {G : xw_G} {h0 en : Nat} {db sp : Bool} {fr sz : Int32} {lo : Int64} (hK : G h0 = some (eKI db fr sz en sp lo)) {ar : Nat} {xs : List Nat} (hA : xAL E G en ar xs) {fd cm : Nat → Int64} {so : Nat → Nat} (hX : xEs G xs fd cm so) {prt : Int64} {b : Int32} {eq : Bool} {k : Nat} (hk : k ≤ xs.length) (hp : ∀ i : Nat, i < xs.length → (byPart sz b eq (fd i) prt = true ↔ i < k)) : XMk l E y_KI_countByPart w_KI_countByPart rm_KI_countByPart [.ref h0, .long (prt), .int (b), .int (bI eq)] G (fun r G' => r = some (.int (nI k)) ∧ G = G') 0 0 := by
  refine XM_of [some (.ref h0), some (.long (prt)), none, some (.int (b)), some (.int (bI eq)), none, none, none, none, none] (XZ_st E) (by decide) rfl rfl rfl (Nat.le_of_ble_eq_true rfl) (fun p e s m below meth c C hnm => ?_)
  obtain ⟨cap, md, ff, hL, hAr, hc1, hc2, -, -⟩ := id hA
  have hcl := capOK_le hc2
  have loop : ∀ (t a : Nat) (v0 v1 v2 : Option Value), pw2 t → a ≤ k → k < a + (if t = 0 then 1 else 2 * t) → a + 2 * t ≤ 512 → XW p l e rm_KI_countByPart s m #[.ref h0, .long (prt), .int (b), .int (bI eq)] below meth c (XQ below #[.ref h0, .long (prt), .int (b), .int (bI eq)] s (xD E) xcl (xB E) (fun r G' => r = some (.int (nI k)) ∧ G = G') 0 0) (xD E) xcl (xB E) 8 [some (.ref h0), some (.long (prt)), none, some (.int (b)), some (.int (bI eq)), some (.int (nI a)), some (.int (nI t)), v0, v1, v2] [] G 0 0 := by
    intro t
    induction t using Nat.strongRecOn with
    | _ t ih =>
      intro a v0 v1 v2 hp2 hak hkt hab
      obtain ⟨hp3, hp4, hp5⟩ := pw2_half hp2
      by_cases ht : t = 0
      · subst ht
        rw [if_pos rfl] at hkt
        have hka : k = a := by omega
        subst hka
        refine x_iload C d_KI_countByPart_8 rfl ?_
        refine x_if_le C 80 d_KI_countByPart_10 (by decide) (fun c_10 => ?_) (fun c_10 => ?_)
        · refine x_iload C d_KI_countByPart_80 rfl ?_
          exact x_iret C (Nat.le_of_ble_eq_true rfl) (Nat.le_of_ble_eq_true rfl) d_KI_countByPart_82 ⟨rfl, rfl⟩
        · exact absurd (show nI 0 ≤ 0 from by rw [nI_0]; exact Int32.le_refl 0) c_10
      · rw [if_neg ht] at hkt
        refine x_iload C d_KI_countByPart_8 rfl ?_
        refine x_if_le C 80 d_KI_countByPart_10 (by decide) (fun c_10 => ?_) (fun c_10 => ?_)
        · exact absurd c_10 (nI_nle (by omega) (by omega))
        · refine x_aload_n C d_KI_countByPart_13 rfl rfl ?_
          refine x_iload C d_KI_countByPart_14 rfl ?_
          refine x_iload C d_KI_countByPart_16 rfl ?_
          refine x_iadd C d_KI_countByPart_18 ?_
          refine x_iconst C (v := 1) d_KI_countByPart_19 (by decide) ?_
          refine x_isub C d_KI_countByPart_20 ?_
          rw [nI_add, al_pred (show 0 < a + t by omega)]
          by_cases hlt : a + t - 1 < xs.length
          · obtain ⟨x, hx⟩ := al_get hlt
            have hN := hX _ _ hx
            have hpi := hp _ hlt
            refine x_callV1 C (q_KI_entryAt_in l E hK hA hx hN) (lk_KI_45 C.hts (Nat.le_of_ble_eq_true rfl) (Nat.le_of_ble_eq_true rfl)) hK rfl rfl d_KI_countByPart_21 (Nat.le_of_ble_eq_true rfl) (Nat.le_of_ble_eq_true rfl) (Nat.le_of_ble_eq_true rfl) (fun r G' h => ?_)
            obtain ⟨rfl, rfl⟩ := h
            refine x_astore C d_KI_countByPart_24 (Nat.le_of_ble_eq_true rfl) rfl ?_
            refine x_aload C d_KI_countByPart_26 rfl ?_
            refine x_ifnonnull C 34 d_KI_countByPart_28 (by decide) ?_
            refine x_aload_n C d_KI_countByPart_34 rfl rfl ?_
            refine x_aload C d_KI_countByPart_35 rfl ?_
            refine x_iload_n C d_KI_countByPart_37 rfl rfl ?_
            refine x_callV2 C (q_KI_partOf l E hK hN) (lk_KI_105 C.hts (Nat.le_of_ble_eq_true rfl) (Nat.le_of_ble_eq_true rfl)) hK rfl rfl d_KI_countByPart_38 (Nat.le_of_ble_eq_true rfl) (Nat.le_of_ble_eq_true rfl) (Nat.le_of_ble_eq_true rfl) (fun r G' h => ?_)
            obtain ⟨rfl, rfl⟩ := h
            refine x_lstore C d_KI_countByPart_41 (Nat.le_of_ble_eq_true rfl) rfl ?_
            refine x_lload C d_KI_countByPart_43 rfl ?_
            refine x_lload_n C d_KI_countByPart_45 rfl rfl ?_
            refine x_callSN2 C (q_KF_isBelow l E (G := G)) (lk_KI_109 C.hts C.hZ.2.2.2.2.2.2.1 (Nat.le_of_ble_eq_true rfl) (Nat.le_of_ble_eq_true rfl)) rfl d_KI_countByPart_46 (Nat.le_of_ble_eq_true rfl) (Nat.le_of_ble_eq_true rfl) (Nat.le_of_ble_eq_true rfl) (fun r G' h => ?_)
            obtain ⟨rfl, rfl⟩ := h
            refine x_if_ne C 64 d_KI_countByPart_49 (by decide) (fun c_49 => ?_) (fun c_49 => ?_)
            · have hkk : a + t - 1 < k := hpi.mp (by simp_all [byPart, bI_0, lg_eq])
              refine x_iload C d_KI_countByPart_64 rfl ?_
              refine x_iload C d_KI_countByPart_66 rfl ?_
              refine x_iadd C d_KI_countByPart_68 ?_
              rw [nI_add]
              refine x_istore C d_KI_countByPart_69 (Nat.le_of_ble_eq_true rfl) rfl ?_
              refine x_iload C d_KI_countByPart_71 rfl ?_
              refine x_iconst C (v := 2) d_KI_countByPart_73 (by decide) ?_
              refine x_idiv C d_KI_countByPart_74 (by decide) ?_
              rw [nI_half (show t < 2 ^ 31 by omega)]
              refine x_istore C d_KI_countByPart_75 (Nat.le_of_ble_eq_true rfl) rfl ?_
              refine x_goto C 8 d_KI_countByPart_77 (by decide) ?_
              exact ih (t / 2) (by omega) (a + t) _ _ _ hp3 (by omega) (by split <;> omega) (by omega)
            · refine x_iload C d_KI_countByPart_52 rfl ?_
              refine x_if_eq C 71 d_KI_countByPart_54 (by decide) (fun c_54 => ?_) (fun c_54 => ?_)
              · have hkk : k ≤ a + t - 1 := Nat.not_lt.mp (fun q => by have hb := hpi.mpr q; clear hpi hp ih; simp_all [byPart, bI_0, lg_eq] <;> omega)
                refine x_iload C d_KI_countByPart_71 rfl ?_
                refine x_iconst C (v := 2) d_KI_countByPart_73 (by decide) ?_
                refine x_idiv C d_KI_countByPart_74 (by decide) ?_
                rw [nI_half (show t < 2 ^ 31 by omega)]
                refine x_istore C d_KI_countByPart_75 (Nat.le_of_ble_eq_true rfl) rfl ?_
                refine x_goto C 8 d_KI_countByPart_77 (by decide) ?_
                exact ih (t / 2) (by omega) (a) _ _ _ hp3 (by omega) (by split <;> omega) (by omega)
              · refine x_lload C d_KI_countByPart_57 rfl ?_
                refine x_lload_n C d_KI_countByPart_59 rfl rfl ?_
                refine x_lcmp C d_KI_countByPart_60 ?_
                refine x_if_ne C 71 d_KI_countByPart_61 (by decide) (fun c_61 => ?_) (fun c_61 => ?_)
                · have hkk : k ≤ a + t - 1 := Nat.not_lt.mp (fun q => by have hb := hpi.mpr q; clear hpi hp ih; simp_all [byPart, bI_0, lg_eq] <;> omega)
                  refine x_iload C d_KI_countByPart_71 rfl ?_
                  refine x_iconst C (v := 2) d_KI_countByPart_73 (by decide) ?_
                  refine x_idiv C d_KI_countByPart_74 (by decide) ?_
                  rw [nI_half (show t < 2 ^ 31 by omega)]
                  refine x_istore C d_KI_countByPart_75 (Nat.le_of_ble_eq_true rfl) rfl ?_
                  refine x_goto C 8 d_KI_countByPart_77 (by decide) ?_
                  exact ih (t / 2) (by omega) (a) _ _ _ hp3 (by omega) (by split <;> omega) (by omega)
                · have hkk : a + t - 1 < k := hpi.mp (by simp_all [byPart, bI_0, lg_eq])
                  refine x_iload C d_KI_countByPart_64 rfl ?_
                  refine x_iload C d_KI_countByPart_66 rfl ?_
                  refine x_iadd C d_KI_countByPart_68 ?_
                  rw [nI_add]
                  refine x_istore C d_KI_countByPart_69 (Nat.le_of_ble_eq_true rfl) rfl ?_
                  refine x_iload C d_KI_countByPart_71 rfl ?_
                  refine x_iconst C (v := 2) d_KI_countByPart_73 (by decide) ?_
                  refine x_idiv C d_KI_countByPart_74 (by decide) ?_
                  rw [nI_half (show t < 2 ^ 31 by omega)]
                  refine x_istore C d_KI_countByPart_75 (Nat.le_of_ble_eq_true rfl) rfl ?_
                  refine x_goto C 8 d_KI_countByPart_77 (by decide) ?_
                  exact ih (t / 2) (by omega) (a + t) _ _ _ hp3 (by omega) (by split <;> omega) (by omega)
          · refine x_callV1 C (q_KI_entryAt_out l E hK hA (Or.inr (nI_le (by omega) (by omega)))) (lk_KI_45 C.hts (Nat.le_of_ble_eq_true rfl) (Nat.le_of_ble_eq_true rfl)) hK rfl rfl d_KI_countByPart_21 (Nat.le_of_ble_eq_true rfl) (Nat.le_of_ble_eq_true rfl) (Nat.le_of_ble_eq_true rfl) (fun r G' h => ?_)
            obtain ⟨rfl, rfl⟩ := h
            refine x_astoreN C d_KI_countByPart_24 (Nat.le_of_ble_eq_true rfl) rfl ?_
            refine x_aloadN C d_KI_countByPart_26 rfl ?_
            refine x_ifnonnullN C d_KI_countByPart_28 ?_
            refine x_goto C 71 d_KI_countByPart_31 (by decide) ?_
            have hkk : k ≤ a + t - 1 := by omega
            refine x_iload C d_KI_countByPart_71 rfl ?_
            refine x_iconst C (v := 2) d_KI_countByPart_73 (by decide) ?_
            refine x_idiv C d_KI_countByPart_74 (by decide) ?_
            rw [nI_half (show t < 2 ^ 31 by omega)]
            refine x_istore C d_KI_countByPart_75 (Nat.le_of_ble_eq_true rfl) rfl ?_
            refine x_goto C 8 d_KI_countByPart_77 (by decide) ?_
            exact ih (t / 2) (by omega) (a) _ _ _ hp3 (by omega) (by split <;> omega) (by omega)
  refine x_iconst C (v := 0) d_KI_countByPart_0 (by decide) ?_
  refine x_istore C d_KI_countByPart_1 (Nat.le_of_ble_eq_true rfl) rfl ?_
  refine x_sipush C (v := 256) d_KI_countByPart_3 (by decide) ?_
  refine x_istore C d_KI_countByPart_6 (Nat.le_of_ble_eq_true rfl) rfl ?_
  exact loop 256 0 _ _ _ (by simp [pw2]) (Nat.zero_le _) (by rw [if_neg (by decide)]; omega) (by omega)
set_option maxRecDepth 100000 in
set_option maxHeartbeats 4000000 in
theorem q_KI_firstEqual (l : Launch) (E : xE) {G : xw_G} {h0 en : Nat} {db sp : Bool} {fr sz : Int32} {lo : Int64} (hK : G h0 = some (eKI db fr sz en sp lo)) {ar : Nat} {xs : List Nat} (hA : xAL E G en ar xs) {fd cm : Nat → Int64} {so : Nat → Nat} (hX : xEs G xs fd cm so) {f : Int64} {k : Nat} (hk : k ≤ xs.length) (hp : ∀ i : Nat, i < xs.length → (ahead (fd i) (cm i) f 0 = true ↔ i < k)) : XMk l E y_KI_firstEqual w_KI_firstEqual rm_KI_firstEqual [.ref h0, .long (f)] G (fun r G' => r = some (xr xs (oEq xs.length fd k f)) ∧ G = G') 0 0 := by
  refine XM_of [some (.ref h0), some (.long (f)), none, none] (XZ_st E) (by decide) rfl rfl rfl (Nat.le_of_ble_eq_true rfl) (fun p e s m below meth c C hnm => ?_)
  obtain ⟨cap, md, ff, hL, hAr, hc1, hc2, -, -⟩ := id hA
  have hcl := capOK_le hc2
  refine x_aload_n C d_KI_firstEqual_0 rfl rfl ?_
  refine x_aload_n C d_KI_firstEqual_1 rfl rfl ?_
  refine x_lload_n C d_KI_firstEqual_2 rfl rfl ?_
  refine x_lconst C (v := 0) d_KI_firstEqual_3 (by decide) ?_
  refine x_callV2 C (q_KI_countAheadOf l E hK hA hX hk hp) (lk_KI_53 C.hts (Nat.le_of_ble_eq_true rfl) (Nat.le_of_ble_eq_true rfl)) hK rfl rfl d_KI_firstEqual_4 (Nat.le_of_ble_eq_true rfl) (Nat.le_of_ble_eq_true rfl) (Nat.le_of_ble_eq_true rfl) (fun r G' h => ?_)
  obtain ⟨rfl, rfl⟩ := h
  by_cases hlt : k < xs.length
  · obtain ⟨x, hx⟩ := al_get (show k < xs.length by omega)
    have hN := hX _ _ hx
    refine x_callV1 C (q_KI_entryAt_in l E hK hA hx hN) (lk_KI_45 C.hts (Nat.le_of_ble_eq_true rfl) (Nat.le_of_ble_eq_true rfl)) hK rfl rfl d_KI_firstEqual_7 (Nat.le_of_ble_eq_true rfl) (Nat.le_of_ble_eq_true rfl) (Nat.le_of_ble_eq_true rfl) (fun r G' h => ?_)
    obtain ⟨rfl, rfl⟩ := h
    refine x_astore_n C d_KI_firstEqual_10 rfl (Nat.le_of_ble_eq_true rfl) rfl ?_
    refine x_aload_n C d_KI_firstEqual_11 rfl rfl ?_
    refine x_ifnull C d_KI_firstEqual_12 ?_
    refine x_aload_n C d_KI_firstEqual_15 rfl rfl ?_
    refine x_get C hN rfl (in_EN _) 0 (by decide) (List.mem_cons_of_mem _ f_KI_57) rfl d_KI_firstEqual_16 ?_
    refine x_lload_n C d_KI_firstEqual_19 rfl rfl ?_
    refine x_lcmp C d_KI_firstEqual_20 ?_
    refine x_if_ne C 28 d_KI_firstEqual_21 (by decide) (fun c_21 => ?_) (fun c_21 => ?_)
    · refine x_null C d_KI_firstEqual_28 ?_
      exact x_aret C (Or.inl ⟨_, rfl⟩) (Or.inl rfl) (Nat.le_of_ble_eq_true rfl) (Nat.le_of_ble_eq_true rfl) d_KI_firstEqual_29 ⟨by rw [oEq, if_neg (fun q => absurd ((lg_eq _ _).mpr q.2) c_21), xr_none], rfl⟩
    · refine x_aload_n C d_KI_firstEqual_24 rfl rfl ?_
      refine x_goto C 29 d_KI_firstEqual_25 (by decide) ?_
      exact x_aret C (Or.inl ⟨_, rfl⟩) (Or.inr ⟨_, rfl⟩) (Nat.le_of_ble_eq_true rfl) (Nat.le_of_ble_eq_true rfl) d_KI_firstEqual_29 ⟨by rw [oEq, if_pos ⟨hlt, (lg_eq _ _).mp c_21⟩, xr_some hx], rfl⟩
  · refine x_callV1 C (q_KI_entryAt_out l E hK hA (Or.inr (nI_le (by omega) (by omega)))) (lk_KI_45 C.hts (Nat.le_of_ble_eq_true rfl) (Nat.le_of_ble_eq_true rfl)) hK rfl rfl d_KI_firstEqual_7 (Nat.le_of_ble_eq_true rfl) (Nat.le_of_ble_eq_true rfl) (Nat.le_of_ble_eq_true rfl) (fun r G' h => ?_)
    obtain ⟨rfl, rfl⟩ := h
    refine x_astore_nN C d_KI_firstEqual_10 rfl (Nat.le_of_ble_eq_true rfl) rfl ?_
    refine x_aload_nN C d_KI_firstEqual_11 rfl rfl ?_
    refine x_ifnullN C 28 d_KI_firstEqual_12 (by decide) ?_
    refine x_null C d_KI_firstEqual_28 ?_
    exact x_aret C (Or.inl ⟨_, rfl⟩) (Or.inl rfl) (Nat.le_of_ble_eq_true rfl) (Nat.le_of_ble_eq_true rfl) d_KI_firstEqual_29 ⟨by rw [oEq, if_neg (fun q => hlt q.1), xr_none], rfl⟩
set_option maxRecDepth 100000 in
set_option maxHeartbeats 4000000 in
theorem q_KI_hasEqualNextTo (l : Launch) (E : xE) {G : xw_G} {h0 en : Nat} {db sp : Bool} {fr sz : Int32} {lo : Int64} (hK : G h0 = some (eKI db fr sz en sp lo)) {ar : Nat} {xs : List Nat} (hA : xAL E G en ar xs) {fd cm : Nat → Int64} {so : Nat → Nat} (hX : xEs G xs fd cm so) {f d : Int64} {a0 s0 : Nat} (hN0 : G a0 = some (eEN f d s0)) {back : Bool} {k : Nat} (hk : k ≤ xs.length) (hp : ∀ i : Nat, i < xs.length → (ahead (fd i) (cm i) f d = true ↔ i < k)) : XMk l E y_KI_hasEqualNextTo w_KI_hasEqualNextTo rm_KI_hasEqualNextTo [.ref h0, .ref a0, .int (bI back)] G (fun r G' => r = some (.int (bI (eqNext xs.length fd k f back))) ∧ G = G') 0 0 := by
  refine XM_of [some (.ref h0), some (.ref a0), some (.int (bI back)), none, none] (XZ_st E) (by decide) rfl rfl rfl (Nat.le_of_ble_eq_true rfl) (fun p e s m below meth c C hnm => ?_)
  obtain ⟨cap, md, ff, hL, hAr, hc1, hc2, -, -⟩ := id hA
  have hcl := capOK_le hc2
  refine x_aload_n C d_KI_hasEqualNextTo_0 rfl rfl ?_
  refine x_aload_n C d_KI_hasEqualNextTo_1 rfl rfl ?_
  refine x_get C hN0 rfl (in_EN _) 0 (by decide) (List.mem_cons_of_mem _ f_KI_57) rfl d_KI_hasEqualNextTo_2 ?_
  refine x_aload_n C d_KI_hasEqualNextTo_5 rfl rfl ?_
  refine x_get C hN0 rfl (in_EN _) 1 (by decide) (List.mem_cons_of_mem _ f_KI_87) rfl d_KI_hasEqualNextTo_6 ?_
  refine x_callV2 C (q_KI_countAheadOf l E hK hA hX hk hp) (lk_KI_53 C.hts (Nat.le_of_ble_eq_true rfl) (Nat.le_of_ble_eq_true rfl)) hK rfl rfl d_KI_hasEqualNextTo_9 (Nat.le_of_ble_eq_true rfl) (Nat.le_of_ble_eq_true rfl) (Nat.le_of_ble_eq_true rfl) (fun r G' h => ?_)
  obtain ⟨rfl, rfl⟩ := h
  refine x_istore_n C d_KI_hasEqualNextTo_12 rfl (Nat.le_of_ble_eq_true rfl) rfl ?_
  refine x_aload_n C d_KI_hasEqualNextTo_13 rfl rfl ?_
  refine x_iload_n C d_KI_hasEqualNextTo_14 rfl rfl ?_
  refine x_if_eq C 24 d_KI_hasEqualNextTo_15 (by decide) (fun c_15 => ?_) (fun c_15 => ?_)
  · refine x_iload_n C d_KI_hasEqualNextTo_24 rfl rfl ?_
    refine x_iconst C (v := 1) d_KI_hasEqualNextTo_25 (by decide) ?_
    refine x_iadd C d_KI_hasEqualNextTo_26 ?_
    have hbk : back = false := (bI_0 back).mp c_15
    rw [nI_1]
    by_cases hlt : k + 1 < xs.length
    · obtain ⟨x, hx⟩ := al_get (show k + 1 < xs.length by omega)
      have hN := hX _ _ hx
      refine x_callV1 C (q_KI_entryAt_in l E hK hA hx hN) (lk_KI_45 C.hts (Nat.le_of_ble_eq_true rfl) (Nat.le_of_ble_eq_true rfl)) hK rfl rfl d_KI_hasEqualNextTo_27 (Nat.le_of_ble_eq_true rfl) (Nat.le_of_ble_eq_true rfl) (Nat.le_of_ble_eq_true rfl) (fun r G' h => ?_)
      obtain ⟨rfl, rfl⟩ := h
      refine x_astore C d_KI_hasEqualNextTo_30 (Nat.le_of_ble_eq_true rfl) rfl ?_
      refine x_aload C d_KI_hasEqualNextTo_32 rfl ?_
      refine x_ifnull C d_KI_hasEqualNextTo_34 ?_
      refine x_aload C d_KI_hasEqualNextTo_37 rfl ?_
      refine x_get C hN rfl (in_EN _) 0 (by decide) (List.mem_cons_of_mem _ f_KI_57) rfl d_KI_hasEqualNextTo_39 ?_
      refine x_aload_n C d_KI_hasEqualNextTo_42 rfl rfl ?_
      refine x_get C hN0 rfl (in_EN _) 0 (by decide) (List.mem_cons_of_mem _ f_KI_57) rfl d_KI_hasEqualNextTo_43 ?_
      refine x_lcmp C d_KI_hasEqualNextTo_46 ?_
      refine x_if_ne C 54 d_KI_hasEqualNextTo_47 (by decide) (fun c_47 => ?_) (fun c_47 => ?_)
      · refine x_iconst C (v := 0) d_KI_hasEqualNextTo_54 (by decide) ?_
        exact x_zret C rfl (Nat.le_of_ble_eq_true rfl) (Nat.le_of_ble_eq_true rfl) d_KI_hasEqualNextTo_55 ⟨congrArg some (congrArg Value.int (by subst hbk; clear hp; simp_all [eqNext, lg_eq, bI, Nat.pos_iff_ne_zero] <;> (intros; omega))), rfl⟩
      · refine x_iconst C (v := 1) d_KI_hasEqualNextTo_50 (by decide) ?_
        refine x_goto C 55 d_KI_hasEqualNextTo_51 (by decide) ?_
        exact x_zret C rfl (Nat.le_of_ble_eq_true rfl) (Nat.le_of_ble_eq_true rfl) d_KI_hasEqualNextTo_55 ⟨congrArg some (congrArg Value.int (by subst hbk; clear hp; simp_all [eqNext, lg_eq, bI, Nat.pos_iff_ne_zero] <;> (intros; omega))), rfl⟩
    · refine x_callV1 C (q_KI_entryAt_out l E hK hA (Or.inr (nI_le (by omega) (by omega)))) (lk_KI_45 C.hts (Nat.le_of_ble_eq_true rfl) (Nat.le_of_ble_eq_true rfl)) hK rfl rfl d_KI_hasEqualNextTo_27 (Nat.le_of_ble_eq_true rfl) (Nat.le_of_ble_eq_true rfl) (Nat.le_of_ble_eq_true rfl) (fun r G' h => ?_)
      obtain ⟨rfl, rfl⟩ := h
      refine x_astoreN C d_KI_hasEqualNextTo_30 (Nat.le_of_ble_eq_true rfl) rfl ?_
      refine x_aloadN C d_KI_hasEqualNextTo_32 rfl ?_
      refine x_ifnullN C 54 d_KI_hasEqualNextTo_34 (by decide) ?_
      refine x_iconst C (v := 0) d_KI_hasEqualNextTo_54 (by decide) ?_
      exact x_zret C rfl (Nat.le_of_ble_eq_true rfl) (Nat.le_of_ble_eq_true rfl) d_KI_hasEqualNextTo_55 ⟨congrArg some (congrArg Value.int (by subst hbk; clear hp; simp_all [eqNext, lg_eq, bI, Nat.pos_iff_ne_zero] <;> (intros; omega))), rfl⟩
  · refine x_iload_n C d_KI_hasEqualNextTo_18 rfl rfl ?_
    refine x_iconst C (v := 1) d_KI_hasEqualNextTo_19 (by decide) ?_
    refine x_isub C d_KI_hasEqualNextTo_20 ?_
    refine x_goto C 27 d_KI_hasEqualNextTo_21 (by decide) ?_
    have hbk : back = true := by cases back with | true => rfl | false => exact absurd rfl c_15
    by_cases hk0 : k = 0
    · have hm1 : nI k - 1 < 0 := by rw [hk0]; decide
      refine x_callV1 C (q_KI_entryAt_out l E hK hA (Or.inl hm1)) (lk_KI_45 C.hts (Nat.le_of_ble_eq_true rfl) (Nat.le_of_ble_eq_true rfl)) hK rfl rfl d_KI_hasEqualNextTo_27 (Nat.le_of_ble_eq_true rfl) (Nat.le_of_ble_eq_true rfl) (Nat.le_of_ble_eq_true rfl) (fun r G' h => ?_)
      obtain ⟨rfl, rfl⟩ := h
      refine x_astoreN C d_KI_hasEqualNextTo_30 (Nat.le_of_ble_eq_true rfl) rfl ?_
      refine x_aloadN C d_KI_hasEqualNextTo_32 rfl ?_
      refine x_ifnullN C 54 d_KI_hasEqualNextTo_34 (by decide) ?_
      refine x_iconst C (v := 0) d_KI_hasEqualNextTo_54 (by decide) ?_
      exact x_zret C rfl (Nat.le_of_ble_eq_true rfl) (Nat.le_of_ble_eq_true rfl) d_KI_hasEqualNextTo_55 ⟨congrArg some (congrArg Value.int (by subst hbk; clear hp; simp_all [eqNext, lg_eq, bI, Nat.pos_iff_ne_zero] <;> (intros; omega))), rfl⟩
    · rw [al_pred (show 0 < k by omega)]
      obtain ⟨x, hx⟩ := al_get (show k - 1 < xs.length by omega)
      have hN := hX _ _ hx
      refine x_callV1 C (q_KI_entryAt_in l E hK hA hx hN) (lk_KI_45 C.hts (Nat.le_of_ble_eq_true rfl) (Nat.le_of_ble_eq_true rfl)) hK rfl rfl d_KI_hasEqualNextTo_27 (Nat.le_of_ble_eq_true rfl) (Nat.le_of_ble_eq_true rfl) (Nat.le_of_ble_eq_true rfl) (fun r G' h => ?_)
      obtain ⟨rfl, rfl⟩ := h
      refine x_astore C d_KI_hasEqualNextTo_30 (Nat.le_of_ble_eq_true rfl) rfl ?_
      refine x_aload C d_KI_hasEqualNextTo_32 rfl ?_
      refine x_ifnull C d_KI_hasEqualNextTo_34 ?_
      refine x_aload C d_KI_hasEqualNextTo_37 rfl ?_
      refine x_get C hN rfl (in_EN _) 0 (by decide) (List.mem_cons_of_mem _ f_KI_57) rfl d_KI_hasEqualNextTo_39 ?_
      refine x_aload_n C d_KI_hasEqualNextTo_42 rfl rfl ?_
      refine x_get C hN0 rfl (in_EN _) 0 (by decide) (List.mem_cons_of_mem _ f_KI_57) rfl d_KI_hasEqualNextTo_43 ?_
      refine x_lcmp C d_KI_hasEqualNextTo_46 ?_
      refine x_if_ne C 54 d_KI_hasEqualNextTo_47 (by decide) (fun c_47 => ?_) (fun c_47 => ?_)
      · refine x_iconst C (v := 0) d_KI_hasEqualNextTo_54 (by decide) ?_
        exact x_zret C rfl (Nat.le_of_ble_eq_true rfl) (Nat.le_of_ble_eq_true rfl) d_KI_hasEqualNextTo_55 ⟨congrArg some (congrArg Value.int (by subst hbk; clear hp; simp_all [eqNext, lg_eq, bI, Nat.pos_iff_ne_zero] <;> (intros; omega))), rfl⟩
      · refine x_iconst C (v := 1) d_KI_hasEqualNextTo_50 (by decide) ?_
        refine x_goto C 55 d_KI_hasEqualNextTo_51 (by decide) ?_
        exact x_zret C rfl (Nat.le_of_ble_eq_true rfl) (Nat.le_of_ble_eq_true rfl) d_KI_hasEqualNextTo_55 ⟨congrArg some (congrArg Value.int (by subst hbk; clear hp; simp_all [eqNext, lg_eq, bI, Nat.pos_iff_ne_zero] <;> (intros; omega))), rfl⟩
set_option maxRecDepth 100000 in
set_option maxHeartbeats 4000000 in
theorem q_KI_entryBehind_0 (l : Launch) (E : xE) {G : xw_G} {h0 en : Nat} {db sp : Bool} {fr sz : Int32} {lo : Int64} (hK : G h0 = some (eKI db fr sz en sp lo)) {ar : Nat} {xs : List Nat} (hA : xAL E G en ar xs) {fd cm : Nat → Int64} {so : Nat → Nat} (hX : xEs G xs fd cm so) {vw : Nat} {op ae hw : Bool} {mo ac kr pl : Int32} {pf pc vr pw : Int64} {rl : Value} (hV : G vw = some (eVW op mo ac kr pl pf pc ae rl vr hw pw)) (h0p : pl = 0) : XMk l E y_KI_entryBehind w_KI_entryBehind rm_KI_entryBehind [.ref h0, .ref vw] G (fun r G' => r = some (xr xs (oAt xs.length 0)) ∧ G = G') 0 0 := by
  refine XM_of [some (.ref h0), some (.ref vw), none, none] (XZ_st E) (by decide) rfl rfl rfl (Nat.le_of_ble_eq_true rfl) (fun p e s m below meth c C hnm => ?_)
  obtain ⟨cap, md, ff, hL, hAr, hc1, hc2, -, -⟩ := id hA
  have hcl := capOK_le hc2
  refine x_aload_n C d_KI_entryBehind_0 rfl rfl ?_
  refine x_get C hV rfl (in_VW _) 4 (by decide) (List.mem_cons_of_mem _ f_KI_90) rfl d_KI_entryBehind_1 ?_
  refine x_if_ne C 13 d_KI_entryBehind_4 (by decide) (fun c_4 => ?_) (fun c_4 => ?_)
  · exact absurd h0p c_4
  · refine x_aload_n C d_KI_entryBehind_7 rfl rfl ?_
    refine x_iconst C (v := 0) d_KI_entryBehind_8 (by decide) ?_
    rw [← nI_0]
    by_cases hlt : 0 < xs.length
    · obtain ⟨x, hx⟩ := al_get (show 0 < xs.length by omega)
      have hN := hX _ _ hx
      refine x_callV1 C (q_KI_entryAt_in l E hK hA hx hN) (lk_KI_45 C.hts (Nat.le_of_ble_eq_true rfl) (Nat.le_of_ble_eq_true rfl)) hK rfl rfl d_KI_entryBehind_9 (Nat.le_of_ble_eq_true rfl) (Nat.le_of_ble_eq_true rfl) (Nat.le_of_ble_eq_true rfl) (fun r G' h => ?_)
      obtain ⟨rfl, rfl⟩ := h
      exact x_aret C (Or.inl ⟨_, rfl⟩) (Or.inr ⟨_, rfl⟩) (Nat.le_of_ble_eq_true rfl) (Nat.le_of_ble_eq_true rfl) d_KI_entryBehind_12 ⟨by rw [oAt, if_pos hlt, xr_some hx], rfl⟩
    · refine x_callV1 C (q_KI_entryAt_out l E hK hA (Or.inr (nI_le (by omega) (by omega)))) (lk_KI_45 C.hts (Nat.le_of_ble_eq_true rfl) (Nat.le_of_ble_eq_true rfl)) hK rfl rfl d_KI_entryBehind_9 (Nat.le_of_ble_eq_true rfl) (Nat.le_of_ble_eq_true rfl) (Nat.le_of_ble_eq_true rfl) (fun r G' h => ?_)
      obtain ⟨rfl, rfl⟩ := h
      exact x_aret C (Or.inl ⟨_, rfl⟩) (Or.inl rfl) (Nat.le_of_ble_eq_true rfl) (Nat.le_of_ble_eq_true rfl) d_KI_entryBehind_12 ⟨by rw [oAt, if_neg hlt, xr_none], rfl⟩
set_option maxRecDepth 100000 in
set_option maxHeartbeats 4000000 in
theorem q_KI_entryBehind (l : Launch) (E : xE) {G : xw_G} {h0 en : Nat} {db sp : Bool} {fr sz : Int32} {lo : Int64} (hK : G h0 = some (eKI db fr sz en sp lo)) {ar : Nat} {xs : List Nat} (hA : xAL E G en ar xs) {fd cm : Nat → Int64} {so : Nat → Nat} (hX : xEs G xs fd cm so) {vw : Nat} {op ae hw : Bool} {mo ac kr pl : Int32} {pf pc vr pw : Int64} {rl : Value} (hV : G vw = some (eVW op mo ac kr pl pf pc ae rl vr hw pw)) (h0p : ¬ pl = 0) {k : Nat} (hk : k ≤ xs.length) (hp : ∀ i : Nat, i < xs.length → (ahead (fd i) (cm i) pf (if pl = 2 then pc else pc + 1) = true ↔ i < k)) : XMk l E y_KI_entryBehind w_KI_entryBehind rm_KI_entryBehind [.ref h0, .ref vw] G (fun r G' => r = some (xr xs (oAt xs.length k)) ∧ G = G') 0 0 := by
  refine XM_of [some (.ref h0), some (.ref vw), none, none] (XZ_st E) (by decide) rfl rfl rfl (Nat.le_of_ble_eq_true rfl) (fun p e s m below meth c C hnm => ?_)
  obtain ⟨cap, md, ff, hL, hAr, hc1, hc2, -, -⟩ := id hA
  have hcl := capOK_le hc2
  refine x_aload_n C d_KI_entryBehind_0 rfl rfl ?_
  refine x_get C hV rfl (in_VW _) 4 (by decide) (List.mem_cons_of_mem _ f_KI_90) rfl d_KI_entryBehind_1 ?_
  refine x_if_ne C 13 d_KI_entryBehind_4 (by decide) (fun c_4 => ?_) (fun c_4 => ?_)
  · refine x_aload_n C d_KI_entryBehind_13 rfl rfl ?_
    refine x_get C hV rfl (in_VW _) 4 (by decide) (List.mem_cons_of_mem _ f_KI_90) rfl d_KI_entryBehind_14 ?_
    refine x_iconst C (v := 2) d_KI_entryBehind_17 (by decide) ?_
    refine x_icmp_ne C 28 d_KI_entryBehind_18 (by decide) (fun c_18 => ?_) (fun c_18 => ?_)
    · refine x_aload_n C d_KI_entryBehind_28 rfl rfl ?_
      refine x_get C hV rfl (in_VW _) 6 (by decide) (List.mem_cons_of_mem _ f_KI_95) rfl d_KI_entryBehind_29 ?_
      refine x_lconst C (v := 1) d_KI_entryBehind_32 (by decide) ?_
      refine x_ladd C d_KI_entryBehind_33 ?_
      rw [if_neg c_18] at hp
      refine x_lstore_n C d_KI_entryBehind_34 rfl (Nat.le_of_ble_eq_true rfl) rfl ?_
      refine x_aload_n C d_KI_entryBehind_35 rfl rfl ?_
      refine x_aload_n C d_KI_entryBehind_36 rfl rfl ?_
      refine x_aload_n C d_KI_entryBehind_37 rfl rfl ?_
      refine x_get C hV rfl (in_VW _) 5 (by decide) (List.mem_cons_of_mem _ f_KI_98) rfl d_KI_entryBehind_38 ?_
      refine x_lload_n C d_KI_entryBehind_41 rfl rfl ?_
      refine x_callV2 C (q_KI_countAheadOf l E hK hA hX hk hp) (lk_KI_53 C.hts (Nat.le_of_ble_eq_true rfl) (Nat.le_of_ble_eq_true rfl)) hK rfl rfl d_KI_entryBehind_42 (Nat.le_of_ble_eq_true rfl) (Nat.le_of_ble_eq_true rfl) (Nat.le_of_ble_eq_true rfl) (fun r G' h => ?_)
      obtain ⟨rfl, rfl⟩ := h
      by_cases hlt : k < xs.length
      · obtain ⟨x, hx⟩ := al_get (show k < xs.length by omega)
        have hN := hX _ _ hx
        refine x_callV1 C (q_KI_entryAt_in l E hK hA hx hN) (lk_KI_45 C.hts (Nat.le_of_ble_eq_true rfl) (Nat.le_of_ble_eq_true rfl)) hK rfl rfl d_KI_entryBehind_45 (Nat.le_of_ble_eq_true rfl) (Nat.le_of_ble_eq_true rfl) (Nat.le_of_ble_eq_true rfl) (fun r G' h => ?_)
        obtain ⟨rfl, rfl⟩ := h
        exact x_aret C (Or.inl ⟨_, rfl⟩) (Or.inr ⟨_, rfl⟩) (Nat.le_of_ble_eq_true rfl) (Nat.le_of_ble_eq_true rfl) d_KI_entryBehind_48 ⟨by rw [oAt, if_pos hlt, xr_some hx], rfl⟩
      · refine x_callV1 C (q_KI_entryAt_out l E hK hA (Or.inr (nI_le (by omega) (by omega)))) (lk_KI_45 C.hts (Nat.le_of_ble_eq_true rfl) (Nat.le_of_ble_eq_true rfl)) hK rfl rfl d_KI_entryBehind_45 (Nat.le_of_ble_eq_true rfl) (Nat.le_of_ble_eq_true rfl) (Nat.le_of_ble_eq_true rfl) (fun r G' h => ?_)
        obtain ⟨rfl, rfl⟩ := h
        exact x_aret C (Or.inl ⟨_, rfl⟩) (Or.inl rfl) (Nat.le_of_ble_eq_true rfl) (Nat.le_of_ble_eq_true rfl) d_KI_entryBehind_48 ⟨by rw [oAt, if_neg hlt, xr_none], rfl⟩
    · refine x_aload_n C d_KI_entryBehind_21 rfl rfl ?_
      refine x_get C hV rfl (in_VW _) 6 (by decide) (List.mem_cons_of_mem _ f_KI_95) rfl d_KI_entryBehind_22 ?_
      refine x_goto C 34 d_KI_entryBehind_25 (by decide) ?_
      rw [if_pos c_18] at hp
      refine x_lstore_n C d_KI_entryBehind_34 rfl (Nat.le_of_ble_eq_true rfl) rfl ?_
      refine x_aload_n C d_KI_entryBehind_35 rfl rfl ?_
      refine x_aload_n C d_KI_entryBehind_36 rfl rfl ?_
      refine x_aload_n C d_KI_entryBehind_37 rfl rfl ?_
      refine x_get C hV rfl (in_VW _) 5 (by decide) (List.mem_cons_of_mem _ f_KI_98) rfl d_KI_entryBehind_38 ?_
      refine x_lload_n C d_KI_entryBehind_41 rfl rfl ?_
      refine x_callV2 C (q_KI_countAheadOf l E hK hA hX hk hp) (lk_KI_53 C.hts (Nat.le_of_ble_eq_true rfl) (Nat.le_of_ble_eq_true rfl)) hK rfl rfl d_KI_entryBehind_42 (Nat.le_of_ble_eq_true rfl) (Nat.le_of_ble_eq_true rfl) (Nat.le_of_ble_eq_true rfl) (fun r G' h => ?_)
      obtain ⟨rfl, rfl⟩ := h
      by_cases hlt : k < xs.length
      · obtain ⟨x, hx⟩ := al_get (show k < xs.length by omega)
        have hN := hX _ _ hx
        refine x_callV1 C (q_KI_entryAt_in l E hK hA hx hN) (lk_KI_45 C.hts (Nat.le_of_ble_eq_true rfl) (Nat.le_of_ble_eq_true rfl)) hK rfl rfl d_KI_entryBehind_45 (Nat.le_of_ble_eq_true rfl) (Nat.le_of_ble_eq_true rfl) (Nat.le_of_ble_eq_true rfl) (fun r G' h => ?_)
        obtain ⟨rfl, rfl⟩ := h
        exact x_aret C (Or.inl ⟨_, rfl⟩) (Or.inr ⟨_, rfl⟩) (Nat.le_of_ble_eq_true rfl) (Nat.le_of_ble_eq_true rfl) d_KI_entryBehind_48 ⟨by rw [oAt, if_pos hlt, xr_some hx], rfl⟩
      · refine x_callV1 C (q_KI_entryAt_out l E hK hA (Or.inr (nI_le (by omega) (by omega)))) (lk_KI_45 C.hts (Nat.le_of_ble_eq_true rfl) (Nat.le_of_ble_eq_true rfl)) hK rfl rfl d_KI_entryBehind_45 (Nat.le_of_ble_eq_true rfl) (Nat.le_of_ble_eq_true rfl) (Nat.le_of_ble_eq_true rfl) (fun r G' h => ?_)
        obtain ⟨rfl, rfl⟩ := h
        exact x_aret C (Or.inl ⟨_, rfl⟩) (Or.inl rfl) (Nat.le_of_ble_eq_true rfl) (Nat.le_of_ble_eq_true rfl) d_KI_entryBehind_48 ⟨by rw [oAt, if_neg hlt, xr_none], rfl⟩
  · exact absurd c_4 h0p
set_option maxRecDepth 100000 in
set_option maxHeartbeats 4000000 in
theorem q_KI_entryAheadOf_0 (l : Launch) (E : xE) {G : xw_G} {h0 en : Nat} {db sp : Bool} {fr sz : Int32} {lo : Int64} (hK : G h0 = some (eKI db fr sz en sp lo)) {vw : Nat} {op ae hw : Bool} {mo ac kr pl : Int32} {pf pc vr pw : Int64} {rl : Value} (hV : G vw = some (eVW op mo ac kr pl pf pc ae rl vr hw pw)) (h0p : pl = 0) : XMk l E y_KI_entryAheadOf w_KI_entryAheadOf rm_KI_entryAheadOf [.ref h0, .ref vw] G (fun r G' => r = some (.null) ∧ G = G') 0 0 := by
  refine XM_of [some (.ref h0), some (.ref vw), none, none] (XZ_st E) (by decide) rfl rfl rfl (Nat.le_of_ble_eq_true rfl) (fun p e s m below meth c C hnm => ?_)
  refine x_aload_n C d_KI_entryAheadOf_0 rfl rfl ?_
  refine x_get C hV rfl (in_VW _) 4 (by decide) (List.mem_cons_of_mem _ f_KI_90) rfl d_KI_entryAheadOf_1 ?_
  refine x_if_ne C 9 d_KI_entryAheadOf_4 (by decide) (fun c_4 => ?_) (fun c_4 => ?_)
  · exact absurd h0p c_4
  · refine x_null C d_KI_entryAheadOf_7 ?_
    exact x_aret C (Or.inl ⟨_, rfl⟩) (Or.inl rfl) (Nat.le_of_ble_eq_true rfl) (Nat.le_of_ble_eq_true rfl) d_KI_entryAheadOf_8 ⟨rfl, rfl⟩
set_option maxRecDepth 100000 in
set_option maxHeartbeats 4000000 in
theorem q_KI_entryAheadOf (l : Launch) (E : xE) {G : xw_G} {h0 en : Nat} {db sp : Bool} {fr sz : Int32} {lo : Int64} (hK : G h0 = some (eKI db fr sz en sp lo)) {ar : Nat} {xs : List Nat} (hA : xAL E G en ar xs) {fd cm : Nat → Int64} {so : Nat → Nat} (hX : xEs G xs fd cm so) {vw : Nat} {op ae hw : Bool} {mo ac kr pl : Int32} {pf pc vr pw : Int64} {rl : Value} (hV : G vw = some (eVW op mo ac kr pl pf pc ae rl vr hw pw)) (h0p : ¬ pl = 0) {k : Nat} (hk : k ≤ xs.length) (hp : ∀ i : Nat, i < xs.length → (ahead (fd i) (cm i) pf (if pl = 2 then pc + 1 else pc) = true ↔ i < k)) : XMk l E y_KI_entryAheadOf w_KI_entryAheadOf rm_KI_entryAheadOf [.ref h0, .ref vw] G (fun r G' => r = some (xr xs (oBk k)) ∧ G = G') 0 0 := by
  refine XM_of [some (.ref h0), some (.ref vw), none, none] (XZ_st E) (by decide) rfl rfl rfl (Nat.le_of_ble_eq_true rfl) (fun p e s m below meth c C hnm => ?_)
  obtain ⟨cap, md, ff, hL, hAr, hc1, hc2, -, -⟩ := id hA
  have hcl := capOK_le hc2
  refine x_aload_n C d_KI_entryAheadOf_0 rfl rfl ?_
  refine x_get C hV rfl (in_VW _) 4 (by decide) (List.mem_cons_of_mem _ f_KI_90) rfl d_KI_entryAheadOf_1 ?_
  refine x_if_ne C 9 d_KI_entryAheadOf_4 (by decide) (fun c_4 => ?_) (fun c_4 => ?_)
  · refine x_aload_n C d_KI_entryAheadOf_9 rfl rfl ?_
    refine x_get C hV rfl (in_VW _) 4 (by decide) (List.mem_cons_of_mem _ f_KI_90) rfl d_KI_entryAheadOf_10 ?_
    refine x_iconst C (v := 2) d_KI_entryAheadOf_13 (by decide) ?_
    refine x_icmp_ne C 26 d_KI_entryAheadOf_14 (by decide) (fun c_14 => ?_) (fun c_14 => ?_)
    · refine x_aload_n C d_KI_entryAheadOf_26 rfl rfl ?_
      refine x_get C hV rfl (in_VW _) 6 (by decide) (List.mem_cons_of_mem _ f_KI_95) rfl d_KI_entryAheadOf_27 ?_
      rw [if_neg c_14] at hp
      refine x_lstore_n C d_KI_entryAheadOf_30 rfl (Nat.le_of_ble_eq_true rfl) rfl ?_
      refine x_aload_n C d_KI_entryAheadOf_31 rfl rfl ?_
      refine x_aload_n C d_KI_entryAheadOf_32 rfl rfl ?_
      refine x_aload_n C d_KI_entryAheadOf_33 rfl rfl ?_
      refine x_get C hV rfl (in_VW _) 5 (by decide) (List.mem_cons_of_mem _ f_KI_98) rfl d_KI_entryAheadOf_34 ?_
      refine x_lload_n C d_KI_entryAheadOf_37 rfl rfl ?_
      refine x_callV2 C (q_KI_countAheadOf l E hK hA hX hk hp) (lk_KI_53 C.hts (Nat.le_of_ble_eq_true rfl) (Nat.le_of_ble_eq_true rfl)) hK rfl rfl d_KI_entryAheadOf_38 (Nat.le_of_ble_eq_true rfl) (Nat.le_of_ble_eq_true rfl) (Nat.le_of_ble_eq_true rfl) (fun r G' h => ?_)
      obtain ⟨rfl, rfl⟩ := h
      refine x_iconst C (v := 1) d_KI_entryAheadOf_41 (by decide) ?_
      refine x_isub C d_KI_entryAheadOf_42 ?_
      by_cases hk0 : k = 0
      · have hm1 : nI k - 1 < 0 := by rw [hk0]; decide
        refine x_callV1 C (q_KI_entryAt_out l E hK hA (Or.inl hm1)) (lk_KI_45 C.hts (Nat.le_of_ble_eq_true rfl) (Nat.le_of_ble_eq_true rfl)) hK rfl rfl d_KI_entryAheadOf_43 (Nat.le_of_ble_eq_true rfl) (Nat.le_of_ble_eq_true rfl) (Nat.le_of_ble_eq_true rfl) (fun r G' h => ?_)
        obtain ⟨rfl, rfl⟩ := h
        exact x_aret C (Or.inl ⟨_, rfl⟩) (Or.inl rfl) (Nat.le_of_ble_eq_true rfl) (Nat.le_of_ble_eq_true rfl) d_KI_entryAheadOf_46 ⟨by rw [oBk, if_neg (by omega), xr_none], rfl⟩
      · rw [al_pred (show 0 < k by omega)]
        obtain ⟨x, hx⟩ := al_get (show k - 1 < xs.length by omega)
        have hN := hX _ _ hx
        refine x_callV1 C (q_KI_entryAt_in l E hK hA hx hN) (lk_KI_45 C.hts (Nat.le_of_ble_eq_true rfl) (Nat.le_of_ble_eq_true rfl)) hK rfl rfl d_KI_entryAheadOf_43 (Nat.le_of_ble_eq_true rfl) (Nat.le_of_ble_eq_true rfl) (Nat.le_of_ble_eq_true rfl) (fun r G' h => ?_)
        obtain ⟨rfl, rfl⟩ := h
        exact x_aret C (Or.inl ⟨_, rfl⟩) (Or.inr ⟨_, rfl⟩) (Nat.le_of_ble_eq_true rfl) (Nat.le_of_ble_eq_true rfl) d_KI_entryAheadOf_46 ⟨by rw [oBk, if_pos (by omega), xr_some hx], rfl⟩
    · refine x_aload_n C d_KI_entryAheadOf_17 rfl rfl ?_
      refine x_get C hV rfl (in_VW _) 6 (by decide) (List.mem_cons_of_mem _ f_KI_95) rfl d_KI_entryAheadOf_18 ?_
      refine x_lconst C (v := 1) d_KI_entryAheadOf_21 (by decide) ?_
      refine x_ladd C d_KI_entryAheadOf_22 ?_
      refine x_goto C 30 d_KI_entryAheadOf_23 (by decide) ?_
      rw [if_pos c_14] at hp
      refine x_lstore_n C d_KI_entryAheadOf_30 rfl (Nat.le_of_ble_eq_true rfl) rfl ?_
      refine x_aload_n C d_KI_entryAheadOf_31 rfl rfl ?_
      refine x_aload_n C d_KI_entryAheadOf_32 rfl rfl ?_
      refine x_aload_n C d_KI_entryAheadOf_33 rfl rfl ?_
      refine x_get C hV rfl (in_VW _) 5 (by decide) (List.mem_cons_of_mem _ f_KI_98) rfl d_KI_entryAheadOf_34 ?_
      refine x_lload_n C d_KI_entryAheadOf_37 rfl rfl ?_
      refine x_callV2 C (q_KI_countAheadOf l E hK hA hX hk hp) (lk_KI_53 C.hts (Nat.le_of_ble_eq_true rfl) (Nat.le_of_ble_eq_true rfl)) hK rfl rfl d_KI_entryAheadOf_38 (Nat.le_of_ble_eq_true rfl) (Nat.le_of_ble_eq_true rfl) (Nat.le_of_ble_eq_true rfl) (fun r G' h => ?_)
      obtain ⟨rfl, rfl⟩ := h
      refine x_iconst C (v := 1) d_KI_entryAheadOf_41 (by decide) ?_
      refine x_isub C d_KI_entryAheadOf_42 ?_
      by_cases hk0 : k = 0
      · have hm1 : nI k - 1 < 0 := by rw [hk0]; decide
        refine x_callV1 C (q_KI_entryAt_out l E hK hA (Or.inl hm1)) (lk_KI_45 C.hts (Nat.le_of_ble_eq_true rfl) (Nat.le_of_ble_eq_true rfl)) hK rfl rfl d_KI_entryAheadOf_43 (Nat.le_of_ble_eq_true rfl) (Nat.le_of_ble_eq_true rfl) (Nat.le_of_ble_eq_true rfl) (fun r G' h => ?_)
        obtain ⟨rfl, rfl⟩ := h
        exact x_aret C (Or.inl ⟨_, rfl⟩) (Or.inl rfl) (Nat.le_of_ble_eq_true rfl) (Nat.le_of_ble_eq_true rfl) d_KI_entryAheadOf_46 ⟨by rw [oBk, if_neg (by omega), xr_none], rfl⟩
      · rw [al_pred (show 0 < k by omega)]
        obtain ⟨x, hx⟩ := al_get (show k - 1 < xs.length by omega)
        have hN := hX _ _ hx
        refine x_callV1 C (q_KI_entryAt_in l E hK hA hx hN) (lk_KI_45 C.hts (Nat.le_of_ble_eq_true rfl) (Nat.le_of_ble_eq_true rfl)) hK rfl rfl d_KI_entryAheadOf_43 (Nat.le_of_ble_eq_true rfl) (Nat.le_of_ble_eq_true rfl) (Nat.le_of_ble_eq_true rfl) (fun r G' h => ?_)
        obtain ⟨rfl, rfl⟩ := h
        exact x_aret C (Or.inl ⟨_, rfl⟩) (Or.inr ⟨_, rfl⟩) (Nat.le_of_ble_eq_true rfl) (Nat.le_of_ble_eq_true rfl) d_KI_entryAheadOf_46 ⟨by rw [oBk, if_pos (by omega), xr_some hx], rfl⟩
  · exact absurd c_4 h0p
