/-! LOOPS over the keys: the first t are done -/
def upto (F : Nat → KD × List E3 → KD × List E3) (t : Nat) (ks : List (KD × List E3)) : List (KD × List E3) := ks.mapIdx (fun i q => if i < t then F i q else q)
theorem upto_len {F : Nat → KD × List E3 → KD × List E3} {t : Nat} {ks : List (KD × List E3)} : (upto F t ks).length = ks.length := by unfold upto; simp
theorem upto_at {F : Nat → KD × List E3 → KD × List E3} {t : Nat} {ks : List (KD × List E3)} (i : Nat) : (upto F t ks)[i]? = (ks[i]?).map (fun q => if i < t then F i q else q) := by unfold upto; simp
theorem upto_0 {F : Nat → KD × List E3 → KD × List E3} {ks : List (KD × List E3)} : upto F 0 ks = ks := by
  apply List.ext_getElem?
  intro i
  rw [upto_at]
  cases ks[i]? <;> simp
theorem upto_ge {F : Nat → KD × List E3 → KD × List E3} {t : Nat} {ks : List (KD × List E3)} (h : ks.length ≤ t) : upto F t ks = ks.mapIdx F := by
  apply List.ext_getElem?
  intro i
  rw [upto_at, List.getElem?_mapIdx]
  cases hq : ks[i]? with
  | none => rfl
  | some q =>
    have := (List.getElem?_eq_some_iff.mp hq).1
    simp only [Option.map_some]
    rw [if_pos (by omega)]
theorem upto_cur {F : Nat → KD × List E3 → KD × List E3} {t : Nat} {ks : List (KD × List E3)} {q : KD × List E3} (h : ks[t]? = some q) : (upto F t ks)[t]? = some q := by
  rw [upto_at, h]
  simp
theorem upto_set {F : Nat → KD × List E3 → KD × List E3} {t : Nat} {ks : List (KD × List E3)} {q : KD × List E3} (h : ks[t]? = some q) : (upto F t ks).set t (F t q) = upto F (t + 1) ks := by
  have hl := (List.getElem?_eq_some_iff.mp h).1
  apply List.ext_getElem?
  intro i
  rw [upto_at]
  by_cases hi : i = t
  · subst hi
    rw [List.getElem?_set_self (by rw [upto_len]; exact hl), h]
    simp
  · rw [List.getElem?_set_ne (Ne.symm hi), upto_at]
    cases ks[i]? with
    | none => rfl
    | some q2 =>
      simp only [Option.map_some]
      by_cases h1 : i < t
      · rw [if_pos h1, if_pos (by omega)]
      · rw [if_neg h1, if_neg (by omega)]
theorem xCS_len {E : xE} {G : xw_G} {x : Nat} {σ : CS} (h : xCS E G x σ) : (sK σ).length ≤ 366 ∧ (sV σ).length ≤ 366 := by
  obtain ⟨lo, la, lc, hG, hL, hn, -⟩ := h
  have h0 := xAL_len (hL.1 0 (by omega))
  have h1 := xAL_len (hL.1 1 (by omega))
  omega
def cPost (E : xE) (G : xw_G) (x : Nat) (r : Option Value) (σ : CS) : Option Value → xw_G → Prop := fun r' G' => r' = r ∧ xCS E G' x σ ∧ xFm G G'
set_option maxRecDepth 100000 in
set_option maxHeartbeats 4000000 in
theorem q_KF_dropRecord (l : Launch) (E : xE) {G : xw_G} {x s0 : Nat} {σ : CS} {by1 : Int64} {th : Bool} (h : xCS E G x σ) (hd : sD σ s0 = some (by1, th)) (hdk : ∀ (i : Nat) (q : KD × List E3), (sK σ)[i]? = some q → dOK q.2 s0 (fldI q.1.2.1 q.1.2.2.1 by1)) : XMk l E y_KF_dropRecord w_KF_dropRecord rm_KF_dropRecord [.ref x, .ref s0] G ((cPost E G x none ((sK σ).mapIdx (fun _ q => (q.1, delS q.2 s0)), sV σ, va_up (sD σ) s0 (some (by1, false)), sO σ, sA σ, sW σ))) 0 0 := by
  refine XM_of [some (.ref x), some (.ref s0), none, none] (XZ_st E) (by decide) rfl rfl rfl (Nat.le_of_ble_eq_true rfl) (fun p e s m below meth c C hnm => ?_)
  have hlen0 := xCS_len h
  have loop : ∀ (n t : Nat) (v3 : Option Value) (G1 : xw_G), t + n = (sK σ).length → xCS E G1 x (upto (fun _ q => (q.1, delS q.2 s0)) t (sK σ), sV σ, sD σ, sO σ, sA σ, sW σ) → xFm G G1 → XW p l e rm_KF_dropRecord s m #[.ref x, .ref s0] below meth c (XQ below #[.ref x, .ref s0] s (xD E) xcl (xB E) ((cPost E G x none ((sK σ).mapIdx (fun _ q => (q.1, delS q.2 s0)), sV σ, va_up (sD σ) s0 (some (by1, false)), sO σ, sA σ, sW σ))) 0 0) (xD E) xcl (xB E) 2 [some (.ref x), some (.ref s0), some (.int (nI t)), v3] [] G1 0 0 := by
    intro n
    induction n with
    | zero =>
      intro t v3 G1 hn h hF
      obtain ⟨lo, la, lc, hG, hL, hnn, hk, hv, hs, he⟩ := h
      obtain ⟨w, hw, hS⟩ := hs s0 _ hd
      have hlen : (lc 0).length = (sK σ).length := hnn.1.trans upto_len
      obtain ⟨cap0, md0, ff0, hL0, -⟩ := hL.1 0 (by omega)
      have ht : t = (sK σ).length := by omega
      refine x_iload_n C d_KF_dropRecord_2 rfl rfl ?_
      refine x_aload_n C d_KF_dropRecord_3 rfl rfl ?_
      refine x_get C hG rfl (in_KF _) 0 (by decide) (List.mem_cons_of_mem _ f_KF_10) rfl d_KF_dropRecord_4 ?_
      refine x_callV0 C (q_AL_sizeL l E (hL.1 0 (by omega))) (lk_KF_19 C.hts (Nat.le_of_ble_eq_true rfl) (Nat.le_of_ble_eq_true rfl)) hL0 rfl rfl d_KF_dropRecord_7 (Nat.le_of_ble_eq_true rfl) (Nat.le_of_ble_eq_true rfl) (Nat.le_of_ble_eq_true rfl) (fun r G' h => ?_)
      obtain ⟨rfl, rfl⟩ := h
      rw [hlen]
      refine x_icmp_ge C 44 d_KF_dropRecord_10 (by decide) (fun c_10 => ?_) (fun c_10 => ?_)
      · refine x_aload_n C d_KF_dropRecord_44 rfl rfl ?_
        refine x_iconst C (v := 0) d_KF_dropRecord_45 (by decide) ?_
        refine x_put C hS rfl (in_ST _) ty_ST tok_ST nm_ST 1 (by decide) (List.mem_cons_of_mem _ f_KF_232) rfl (tok_ST 1 (by decide)) rfl rfl (Nat.le_of_ble_eq_true rfl) d_KF_dropRecord_46 ?_
        exact x_vret C (Nat.le_of_ble_eq_true rfl) (Nat.le_of_ble_eq_true rfl) d_KF_dropRecord_49 ⟨rfl, by have hz := xCS_st (d0 := (by1, th)) (d1 := (by1, false)) hG hL hnn hk hv hs he hS hw; rw [ht, upto_ge (Nat.le_refl _)] at hz; exact hz, hF.tr (xFm.up hS (by decide))⟩
      · exact absurd (nI_le (by omega) (by omega)) c_10
    | succ n ih =>
      intro t v3 G1 hn h hF
      obtain ⟨lo, la, lc, hG, hL, hnn, hk, hv, hs, he⟩ := h
      obtain ⟨w, hw, hS⟩ := hs s0 _ hd
      have hlen : (lc 0).length = (sK σ).length := hnn.1.trans upto_len
      obtain ⟨cap0, md0, ff0, hL0, -⟩ := hL.1 0 (by omega)
      obtain ⟨q, hq⟩ := e_lt (show t < (sK σ).length by omega)
      obtain ⟨⟨a, ha, hK⟩, hX⟩ := hk t q (upto_cur hq)
      refine x_iload_n C d_KF_dropRecord_2 rfl rfl ?_
      refine x_aload_n C d_KF_dropRecord_3 rfl rfl ?_
      refine x_get C hG rfl (in_KF _) 0 (by decide) (List.mem_cons_of_mem _ f_KF_10) rfl d_KF_dropRecord_4 ?_
      refine x_callV0 C (q_AL_sizeL l E (hL.1 0 (by omega))) (lk_KF_19 C.hts (Nat.le_of_ble_eq_true rfl) (Nat.le_of_ble_eq_true rfl)) hL0 rfl rfl d_KF_dropRecord_7 (Nat.le_of_ble_eq_true rfl) (Nat.le_of_ble_eq_true rfl) (Nat.le_of_ble_eq_true rfl) (fun r G' h => ?_)
      obtain ⟨rfl, rfl⟩ := h
      rw [hlen]
      refine x_icmp_ge C 44 d_KF_dropRecord_10 (by decide) (fun c_10 => ?_) (fun c_10 => ?_)
      · exact absurd c_10 (nI_ge (by omega) (by omega))
      · refine x_aload_n C d_KF_dropRecord_13 rfl rfl ?_
        refine x_get C hG rfl (in_KF _) 0 (by decide) (List.mem_cons_of_mem _ f_KF_10) rfl d_KF_dropRecord_14 ?_
        refine x_iload_n C d_KF_dropRecord_17 rfl rfl ?_
        refine x_callV1 C (q_AL_getL l E (hL.1 0 (by omega)) ha) (lk_KF_177 C.hts (Nat.le_of_ble_eq_true rfl) (Nat.le_of_ble_eq_true rfl)) hL0 rfl rfl d_KF_dropRecord_18 (Nat.le_of_ble_eq_true rfl) (Nat.le_of_ble_eq_true rfl) (Nat.le_of_ble_eq_true rfl) (fun r G' h => ?_)
        obtain ⟨rfl, rfl⟩ := h
        refine x_castS C hK rfl (List.mem_cons_of_mem _ cl_KF_27) d_KF_dropRecord_21 ?_
        refine x_astore_n C d_KF_dropRecord_24 rfl (Nat.le_of_ble_eq_true rfl) rfl ?_
        refine x_aload_n C d_KF_dropRecord_25 rfl rfl ?_
        refine x_aload_n C d_KF_dropRecord_26 rfl rfl ?_
        refine x_aload_n C d_KF_dropRecord_27 rfl rfl ?_
        refine x_aload_n C d_KF_dropRecord_28 rfl rfl ?_
        refine x_get C hS rfl (in_ST _) 0 (by decide) (List.mem_cons_of_mem _ f_KF_156) rfl d_KF_dropRecord_29 ?_
        refine x_callV1 C (q_KI_fieldIn l E hK) (lk_KF_195 C.hts (Nat.le_of_ble_eq_true rfl) (Nat.le_of_ble_eq_true rfl)) hK rfl rfl d_KF_dropRecord_32 (Nat.le_of_ble_eq_true rfl) (Nat.le_of_ble_eq_true rfl) (Nat.le_of_ble_eq_true rfl) (fun r G' h => ?_)
        obtain ⟨rfl, rfl⟩ := h
        refine x_callV2 C (q_KI_drop l E (kd := q.1) hK (hL.1 (t + 2) (by rw [upto_len]; omega)) hX he (hdk t q hq)) (lk_KF_228 C.hts (Nat.le_of_ble_eq_true rfl) (Nat.le_of_ble_eq_true rfl)) hK rfl rfl d_KF_dropRecord_35 (Nat.le_of_ble_eq_true rfl) (Nat.le_of_ble_eq_true rfl) (Nat.le_of_ble_eq_true rfl) (fun r G' h => ?_)
        obtain ⟨rfl, xs', g1, g2, g3⟩ := h
        have hz := xCS_es (kd := q.1) (es := q.2) hG hL hnn hk hv hs he (upto_cur hq) g3 g1 (Or.inl rfl) g2
        have hz : xCS E G' x (upto (fun _ q => (q.1, delS q.2 s0)) (t + 1) (sK σ), sV σ, sD σ, sO σ, sA σ, sW σ) := by rw [← upto_set hq]; exact hz
        refine x_iinc C d_KF_dropRecord_38 rfl rfl rfl ?_
        refine x_goto C 2 d_KF_dropRecord_41 (by decide) ?_
        have e1 : nI t + Int32.ofInt 1 = nI (t + 1) := nI_1 t
        rw [e1]
        exact ih (t + 1) _ _ (by omega) hz (hF.tr (xFm.fr (hL.1 (t + 2) (by rw [upto_len]; omega)) g3))
  refine x_iconst C (v := 0) d_KF_dropRecord_0 (by decide) ?_
  refine x_istore_n C d_KF_dropRecord_1 rfl (Nat.le_of_ble_eq_true rfl) rfl ?_
  refine loop (sK σ).length 0 _ G (by omega) ?_ xFm.rf
  rw [upto_0]
  exact h
