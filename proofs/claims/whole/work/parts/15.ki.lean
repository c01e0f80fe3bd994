/-! KEY INDEX: its entries, and the two searches -/
/-- the cells at xs are entries: fields fd, arrivals cm, records so -/
def xEs (G : xw_G) (xs : List Nat) (fd cm : Nat → Int64) (so : Nat → Nat) : Prop := ∀ (i a : Nat), xs[i]? = some a → G a = some (eEN (fd i) (cm i) (so i))
def pw2 (s : Nat) : Prop := s ∈ [0, 1, 2, 4, 8, 16, 32, 64, 128, 256]
theorem pw2_half {s : Nat} (h : pw2 s) : pw2 (s / 2) ∧ s ≤ 256 ∧ (1 < s → 2 * (s / 2) = s) := by
  simp only [pw2, List.mem_cons, List.not_mem_nil, or_false] at h ⊢
  rcases h with h | h | h | h | h | h | h | h | h | h <;> subst h <;> simp
theorem nI_half {s : Nat} (h : s < 2 ^ 31) : nI s / 2 = nI (s / 2) := pk_div (a := s) (d := 2) h (by decide) (by decide)
theorem al_get {xs : List Nat} {i : Nat} (h : i < xs.length) : ∃ a, xs[i]? = some a := ⟨xs[i], by simp [h]⟩
set_option maxRecDepth 100000 in
set_option maxHeartbeats 4000000 in
theorem q_KI_init (l : Launch) (E : xE) {G : xw_G} {h0 : Nat} {db : Bool} {fr sz i1 i2 : Int32} {d0 : Bool} {v0 : Value} (hK : G h0 = some (.inr (2, [.int (bI d0), .int i1, .int i2, v0, .int 0, .long 0]))) : XMk l E y_KI_init w_KI_init rm_KI_init [.ref h0, .int (bI db), .int (fr), .int (sz)] G (fun r G' => r = none ∧ ∃ q : Nat, G q = none ∧ xB E ≤ q ∧ h0 ≠ q ∧ G' = va_up (va_up G q (some (eAL (xaE E) 0 0))) h0 (some (eKI db fr sz q false 0))) 1 3 := by
  refine XM_of [some (.ref h0), some (.int (bI db)), some (.int (fr)), some (.int (sz))] (XZ_st E) (by decide) rfl rfl rfl (Nat.le_of_ble_eq_true rfl) (fun p e s m below meth c C hnm => ?_)
  refine x_aload_n C d_KI_init_0 rfl rfl ?_
  refine x_objInit C (List.mem_cons_of_mem _ m_KI_3) (List.mem_cons_of_mem _ ki_OB_init) (List.mem_cons_of_mem _ kc_OB_init) rfl d_KI_init_1 (Nat.le_of_ble_eq_true rfl) (Nat.le_of_ble_eq_true rfl) ?_
  refine x_aload_n C d_KI_init_4 rfl rfl ?_
  refine x_iload_n C d_KI_init_5 rfl rfl ?_
  refine x_putF C hK rfl (in_KI _) ty_KI tok_KI nm_KI 0 (by decide) (List.mem_cons_of_mem _ f_KI_9) rfl hnm rfl (tok_KI 0 (by decide)) (bI_nar _) (bI_fit _) (Nat.le_of_ble_eq_true rfl) d_KI_init_6 ?_
  refine x_aload_n C d_KI_init_9 rfl rfl ?_
  refine x_iload_n C d_KI_init_10 rfl rfl ?_
  refine x_putF2 C rfl (in_KI _) ty_KI tok_KI nm_KI 1 (by decide) (List.mem_cons_of_mem _ f_KI_15) rfl hnm rfl (tok_KI 1 (by decide)) rfl rfl (Nat.le_of_ble_eq_true rfl) d_KI_init_11 ?_
  refine x_aload_n C d_KI_init_14 rfl rfl ?_
  refine x_iload_n C d_KI_init_15 rfl rfl ?_
  refine x_putF2 C rfl (in_KI _) ty_KI tok_KI nm_KI 2 (by decide) (List.mem_cons_of_mem _ f_KI_19) rfl hnm rfl (tok_KI 2 (by decide)) rfl rfl (Nat.le_of_ble_eq_true rfl) d_KI_init_16 ?_
  refine x_aload_n C d_KI_init_19 rfl rfl ?_
  refine x_new C (ci := 6) (fs := [.null, .int 0, .int 0]) rfl (in_AL _) ty_AL tok_AL (List.mem_cons_of_mem _ cl_KI_22) (List.mem_cons_of_mem _ kb_AL) (List.mem_cons_of_mem _ kz_AL) (fun j hj => by rcases (show j = 0 ∨ j = 1 ∨ j = 2 by omega) with rfl | rfl | rfl <;> rfl) (Nat.le_of_ble_eq_true rfl) (Nat.le_of_ble_eq_true rfl) d_KI_init_20 (fun q hq hBq => ?_)
  have hne := xw_neF hq (va_up_self G h0 _)
  refine x_dup C d_KI_init_23 rfl ?_
  refine x_callI0 C (q_AL_init l E (va_up_self _ _ _)) (lk_KI_24 C.hts (Nat.le_of_ble_eq_true rfl) (Nat.le_of_ble_eq_true rfl)) rfl d_KI_init_24 (Nat.le_of_ble_eq_true rfl) (Nat.le_of_ble_eq_true rfl) (Nat.le_of_ble_eq_true rfl) (fun r G' h => ?_)
  obtain ⟨rfl, rfl⟩ := h
  refine x_putF C (xw_keep (xw_keep (va_up_self _ _ _) hne) hne) rfl (in_KI _) ty_KI tok_KI nm_KI 3 (by decide) (List.mem_cons_of_mem _ f_KI_25) rfl hnm rfl (tok_KI 3 (by decide)) rfl rfl (Nat.le_of_ble_eq_true rfl) d_KI_init_27 ?_
  exact x_vret C (Nat.le_of_ble_eq_true rfl) (Nat.le_of_ble_eq_true rfl) d_KI_init_30 ⟨rfl, q, none_mod hq, hBq, hne, by rw [bx_uu, up_swap hne, bx_uu]; rfl⟩
set_option maxRecDepth 100000 in
set_option maxHeartbeats 4000000 in
theorem q_KI_entryAt_in (l : Launch) (E : xE) {G : xw_G} {h0 en : Nat} {db sp : Bool} {fr sz : Int32} {lo : Int64} (hK : G h0 = some (eKI db fr sz en sp lo)) {ar : Nat} {xs : List Nat} (hA : xAL E G en ar xs) {k a so : Nat} {fd cm : Int64} (ha : xs[k]? = some a) (hN : G a = some (eEN fd cm so)) : XMk l E y_KI_entryAt w_KI_entryAt rm_KI_entryAt [.ref h0, .int (nI k)] G (fun r G' => r = some (.ref a) ∧ G = G') 0 0 := by
  refine XM_of [some (.ref h0), some (.int (nI k))] (XZ_st E) (by decide) rfl rfl rfl (Nat.le_of_ble_eq_true rfl) (fun p e s m below meth c C hnm => ?_)
  obtain ⟨cap, md, ff, hL, hAr, hc1, hc2, -, -⟩ := id hA
  have hcl := capOK_le hc2
  have hk : k < xs.length := (List.getElem?_eq_some_iff.mp ha).1
  refine x_iload_n C d_KI_entryAt_0 rfl rfl ?_
  refine x_if_lt C 29 d_KI_entryAt_1 (by decide) (fun c_1 => ?_) (fun c_1 => ?_)
  · exact absurd c_1 (nI_pos (by omega))
  · refine x_iload_n C d_KI_entryAt_4 rfl rfl ?_
    refine x_aload_n C d_KI_entryAt_5 rfl rfl ?_
    refine x_get C hK rfl (in_KI _) 3 (by decide) (List.mem_cons_of_mem _ f_KI_25) rfl d_KI_entryAt_6 ?_
    refine x_callV0 C (q_AL_sizeL l E hA) (lk_KI_36 C.hts (Nat.le_of_ble_eq_true rfl) (Nat.le_of_ble_eq_true rfl)) hL rfl rfl d_KI_entryAt_9 (Nat.le_of_ble_eq_true rfl) (Nat.le_of_ble_eq_true rfl) (Nat.le_of_ble_eq_true rfl) (fun r G' h => ?_)
    obtain ⟨rfl, rfl⟩ := h
    refine x_icmp_ge C 29 d_KI_entryAt_12 (by decide) (fun c_12 => ?_) (fun c_12 => ?_)
    · exact absurd c_12 (nI_ge hk (by omega))
    · refine x_aload_n C d_KI_entryAt_15 rfl rfl ?_
      refine x_get C hK rfl (in_KI _) 3 (by decide) (List.mem_cons_of_mem _ f_KI_25) rfl d_KI_entryAt_16 ?_
      refine x_iload_n C d_KI_entryAt_19 rfl rfl ?_
      refine x_callV1 C (q_AL_getL l E hA ha) (lk_KI_39 C.hts (Nat.le_of_ble_eq_true rfl) (Nat.le_of_ble_eq_true rfl)) hL rfl rfl d_KI_entryAt_20 (Nat.le_of_ble_eq_true rfl) (Nat.le_of_ble_eq_true rfl) (Nat.le_of_ble_eq_true rfl) (fun r G' h => ?_)
      obtain ⟨rfl, rfl⟩ := h
      refine x_castS C hN rfl (List.mem_cons_of_mem _ cl_KI_43) d_KI_entryAt_23 ?_
      refine x_goto C 30 d_KI_entryAt_26 (by decide) ?_
      exact x_aret C (Or.inl ⟨_, rfl⟩) (Or.inr ⟨_, rfl⟩) (Nat.le_of_ble_eq_true rfl) (Nat.le_of_ble_eq_true rfl) d_KI_entryAt_30 ⟨rfl, rfl⟩
set_option maxRecDepth 100000 in
set_option maxHeartbeats 4000000 in
theorem q_KI_entryAt_out (l : Launch) (E : xE) {G : xw_G} {h0 en : Nat} {db sp : Bool} {fr sz : Int32} {lo : Int64} (hK : G h0 = some (eKI db fr sz en sp lo)) {ar : Nat} {xs : List Nat} (hA : xAL E G en ar xs) {j : Int32} (hj : j < 0 ∨ nI xs.length ≤ j) : XMk l E y_KI_entryAt w_KI_entryAt rm_KI_entryAt [.ref h0, .int (j)] G (fun r G' => r = some (.null) ∧ G = G') 0 0 := by
  refine XM_of [some (.ref h0), some (.int (j))] (XZ_st E) (by decide) rfl rfl rfl (Nat.le_of_ble_eq_true rfl) (fun p e s m below meth c C hnm => ?_)
  obtain ⟨cap, md, ff, hL, hAr, hc1, hc2, -, -⟩ := id hA
  refine x_iload_n C d_KI_entryAt_0 rfl rfl ?_
  refine x_if_lt C 29 d_KI_entryAt_1 (by decide) (fun c_1 => ?_) (fun c_1 => ?_)
  · refine x_null C d_KI_entryAt_29 ?_
    exact x_aret C (Or.inl ⟨_, rfl⟩) (Or.inl rfl) (Nat.le_of_ble_eq_true rfl) (Nat.le_of_ble_eq_true rfl) d_KI_entryAt_30 ⟨rfl, rfl⟩
  · refine x_iload_n C d_KI_entryAt_4 rfl rfl ?_
    refine x_aload_n C d_KI_entryAt_5 rfl rfl ?_
    refine x_get C hK rfl (in_KI _) 3 (by decide) (List.mem_cons_of_mem _ f_KI_25) rfl d_KI_entryAt_6 ?_
    refine x_callV0 C (q_AL_sizeL l E hA) (lk_KI_36 C.hts (Nat.le_of_ble_eq_true rfl) (Nat.le_of_ble_eq_true rfl)) hL rfl rfl d_KI_entryAt_9 (Nat.le_of_ble_eq_true rfl) (Nat.le_of_ble_eq_true rfl) (Nat.le_of_ble_eq_true rfl) (fun r G' h => ?_)
    obtain ⟨rfl, rfl⟩ := h
    refine x_icmp_ge C 29 d_KI_entryAt_12 (by decide) (fun c_12 => ?_) (fun c_12 => ?_)
    · refine x_null C d_KI_entryAt_29 ?_
      exact x_aret C (Or.inl ⟨_, rfl⟩) (Or.inl rfl) (Nat.le_of_ble_eq_true rfl) (Nat.le_of_ble_eq_true rfl) d_KI_entryAt_30 ⟨rfl, rfl⟩
    · exact absurd hj (fun q => q.elim c_1 c_12)
set_option maxRecDepth 100000 in
set_option maxHeartbeats 4000000 in
theorem q_KI_countAheadOf (l : Launch) (E : xE) {G : xw_G} {h0 en : Nat} {db sp : Bool} {fr sz : Int32} {lo : Int64} (hK : G h0 = some (eKI db fr sz en sp lo)) {ar : Nat} {xs : List Nat} (hA : xAL E G en ar xs) {fd cm : Nat → Int64} {so : Nat → Nat} (hX : xEs G xs fd cm so) {f d : Int64} {k : Nat} (hk : k ≤ xs.length) (hp : ∀ i : Nat, i < xs.length → (ahead (fd i) (cm i) f d = true ↔ i < k)) : XMk l E y_KI_countAheadOf w_KI_countAheadOf rm_KI_countAheadOf [.ref h0, .long (f), .long (d)] G (fun r G' => r = some (.int (nI k)) ∧ G = G') 0 0 := by
  refine XM_of [some (.ref h0), some (.long (f)), none, some (.long (d)), none, none, none, none] (XZ_st E) (by decide) rfl rfl rfl (Nat.le_of_ble_eq_true rfl) (fun p e s m below meth c C hnm => ?_)
  obtain ⟨cap, md, ff, hL, hAr, hc1, hc2, -, -⟩ := id hA
  have hcl := capOK_le hc2
  have loop : ∀ (t a : Nat) (v0 : Option Value), pw2 t → a ≤ k → k < a + (if t = 0 then 1 else 2 * t) → a + 2 * t ≤ 512 → XW p l e rm_KI_countAheadOf s m #[.ref h0, .long (f), .long (d)] below meth c (XQ below #[.ref h0, .long (f), .long (d)] s (xD E) xcl (xB E) (fun r G' => r = some (.int (nI k)) ∧ G = G') 0 0) (xD E) xcl (xB E) 8 [some (.ref h0), some (.long (f)), none, some (.long (d)), none, some (.int (nI a)), some (.int (nI t)), v0] [] G 0 0 := by
    intro t
    induction t using Nat.strongRecOn with
    | _ t ih =>
      intro a v0 hp2 hak hkt hab
      obtain ⟨hp3, hp4, hp5⟩ := pw2_half hp2
      by_cases ht : t = 0
      · subst ht
        rw [if_pos rfl] at hkt
        have hka : k = a := by omega
        subst hka
        refine x_iload C d_KI_countAheadOf_8 rfl ?_
        refine x_if_le C 57 d_KI_countAheadOf_10 (by decide) (fun c_10 => ?_) (fun c_10 => ?_)
        · refine x_iload C d_KI_countAheadOf_57 rfl ?_
          exact x_iret C (Nat.le_of_ble_eq_true rfl) (Nat.le_of_ble_eq_true rfl) d_KI_countAheadOf_59 ⟨rfl, rfl⟩
        · exact absurd (show nI 0 ≤ 0 from by rw [nI_0]; exact Int32.le_refl 0) c_10
      · rw [if_neg ht] at hkt
        refine x_iload C d_KI_countAheadOf_8 rfl ?_
        refine x_if_le C 57 d_KI_countAheadOf_10 (by decide) (fun c_10 => ?_) (fun c_10 => ?_)
        · exact absurd c_10 (nI_nle (by omega) (by omega))
        · refine x_aload_n C d_KI_countAheadOf_13 rfl rfl ?_
          refine x_iload C d_KI_countAheadOf_14 rfl ?_
          refine x_iload C d_KI_countAheadOf_16 rfl ?_
          refine x_iadd C d_KI_countAheadOf_18 ?_
          refine x_iconst C (v := 1) d_KI_countAheadOf_19 (by decide) ?_
          refine x_isub C d_KI_countAheadOf_20 ?_
          rw [nI_add, al_pred (show 0 < a + t by omega)]
          by_cases hlt : a + t - 1 < xs.length
          · obtain ⟨x, hx⟩ := al_get hlt
            have hN := hX _ _ hx
            have hpi := hp _ hlt
            refine x_callV1 C (q_KI_entryAt_in l E hK hA hx hN) (lk_KI_45 C.hts (Nat.le_of_ble_eq_true rfl) (Nat.le_of_ble_eq_true rfl)) hK rfl rfl d_KI_countAheadOf_21 (Nat.le_of_ble_eq_true rfl) (Nat.le_of_ble_eq_true rfl) (Nat.le_of_ble_eq_true rfl) (fun r G' h => ?_)
            obtain ⟨rfl, rfl⟩ := h
            refine x_astore C d_KI_countAheadOf_24 (Nat.le_of_ble_eq_true rfl) rfl ?_
            refine x_aload C d_KI_countAheadOf_26 rfl ?_
            refine x_ifnull C d_KI_countAheadOf_28 ?_
            refine x_aload C d_KI_countAheadOf_31 rfl ?_
            refine x_lload_n C d_KI_countAheadOf_33 rfl rfl ?_
            refine x_lload_n C d_KI_countAheadOf_34 rfl rfl ?_
            refine x_callV2 C (q_EN_standsAheadOf l E hN) (lk_KI_49 C.hts (Nat.le_of_ble_eq_true rfl) (Nat.le_of_ble_eq_true rfl)) hN rfl rfl d_KI_countAheadOf_35 (Nat.le_of_ble_eq_true rfl) (Nat.le_of_ble_eq_true rfl) (Nat.le_of_ble_eq_true rfl) (fun r G' h => ?_)
            obtain ⟨rfl, rfl⟩ := h
            refine x_if_eq C 48 d_KI_countAheadOf_38 (by decide) (fun c_38 => ?_) (fun c_38 => ?_)
            · have hkk : k ≤ a + t - 1 := Nat.not_lt.mp (fun q => by rw [hpi.mpr q] at c_38; exact absurd c_38 (by decide))
              refine x_iload C d_KI_countAheadOf_48 rfl ?_
              refine x_iconst C (v := 2) d_KI_countAheadOf_50 (by decide) ?_
              refine x_idiv C d_KI_countAheadOf_51 (by decide) ?_
              rw [nI_half (show t < 2 ^ 31 by omega)]
              refine x_istore C d_KI_countAheadOf_52 (Nat.le_of_ble_eq_true rfl) rfl ?_
              refine x_goto C 8 d_KI_countAheadOf_54 (by decide) ?_
              exact ih (t / 2) (by omega) (a) _ hp3 (by omega) (by split <;> omega) (by omega)
            · have hkk : a + t - 1 < k := hpi.mp (by cases hz : ahead (fd (a + t - 1)) (cm (a + t - 1)) f d with | true => rfl | false => exact absurd (by rw [hz]; rfl) c_38)
              refine x_iload C d_KI_countAheadOf_41 rfl ?_
              refine x_iload C d_KI_countAheadOf_43 rfl ?_
              refine x_iadd C d_KI_countAheadOf_45 ?_
              rw [nI_add]
              refine x_istore C d_KI_countAheadOf_46 (Nat.le_of_ble_eq_true rfl) rfl ?_
              refine x_iload C d_KI_countAheadOf_48 rfl ?_
              refine x_iconst C (v := 2) d_KI_countAheadOf_50 (by decide) ?_
              refine x_idiv C d_KI_countAheadOf_51 (by decide) ?_
              rw [nI_half (show t < 2 ^ 31 by omega)]
              refine x_istore C d_KI_countAheadOf_52 (Nat.le_of_ble_eq_true rfl) rfl ?_
              refine x_goto C 8 d_KI_countAheadOf_54 (by decide) ?_
              exact ih (t / 2) (by omega) (a + t) _ hp3 (by omega) (by split <;> omega) (by omega)
          · refine x_callV1 C (q_KI_entryAt_out l E hK hA (Or.inr (nI_le (by omega) (by omega)))) (lk_KI_45 C.hts (Nat.le_of_ble_eq_true rfl) (Nat.le_of_ble_eq_true rfl)) hK rfl rfl d_KI_countAheadOf_21 (Nat.le_of_ble_eq_true rfl) (Nat.le_of_ble_eq_true rfl) (Nat.le_of_ble_eq_true rfl) (fun r G' h => ?_)
            obtain ⟨rfl, rfl⟩ := h
            refine x_astoreN C d_KI_countAheadOf_24 (Nat.le_of_ble_eq_true rfl) rfl ?_
            refine x_aloadN C d_KI_countAheadOf_26 rfl ?_
            refine x_ifnullN C 48 d_KI_countAheadOf_28 (by decide) ?_
            have hkk : k ≤ a + t - 1 := by omega
            refine x_iload C d_KI_countAheadOf_48 rfl ?_
            refine x_iconst C (v := 2) d_KI_countAheadOf_50 (by decide) ?_
            refine x_idiv C d_KI_countAheadOf_51 (by decide) ?_
            rw [nI_half (show t < 2 ^ 31 by omega)]
            refine x_istore C d_KI_countAheadOf_52 (Nat.le_of_ble_eq_true rfl) rfl ?_
            refine x_goto C 8 d_KI_countAheadOf_54 (by decide) ?_
            exact ih (t / 2) (by omega) (a) _ hp3 (by omega) (by split <;> omega) (by omega)
  refine x_iconst C (v := 0) d_KI_countAheadOf_0 (by decide) ?_
  refine x_istore C d_KI_countAheadOf_1 (Nat.le_of_ble_eq_true rfl) rfl ?_
  refine x_sipush C (v := 256) d_KI_countAheadOf_3 (by decide) ?_
  refine x_istore C d_KI_countAheadOf_6 (Nat.le_of_ble_eq_true rfl) rfl ?_
  exact loop 256 0 _ (by simp [pw2]) (Nat.zero_le _) (by rw [if_neg (by decide)]; omega) (by omega)
