theorem upto_same {F : Nat → KD × List E3 → KD × List E3} {t : Nat} {ks : List (KD × List E3)} {q : KD × List E3} (h : ks[t]? = some q) (hF : F t q = q) : upto F (t + 1) ks = upto F t ks := by
  rw [← upto_set h, hF]
  apply List.ext_getElem?
  intro i
  by_cases hi : i = t
  · subst hi
    rw [List.getElem?_set_self (by rw [upto_len]; exact (List.getElem?_eq_some_iff.mp h).1), upto_cur h]
  · rw [List.getElem?_set_ne (Ne.symm hi)]
theorem xCB_es {E : xE} {G G' : xw_G} {x m ar' : Nat} {σ : CS} {kd : KD} {es es' : List E3} {lo la : Nat → Nat} {lc : Nat → List Nat} {xs' : List Nat} (hC : xCB E G x σ lo la lc)
    (hm : (sK σ)[m]? = some (kd, es)) (hF : xFr E G G' (lo (m + 2)) (la (m + 2))) (hA' : xAL E G' (lo (m + 2)) ar' xs') (har : ar' = la (m + 2) ∨ G ar' = none) (hE' : xEL G' xs' es') : xCB E G' x (σ.es m kd es') lo (va_up la (m + 2) ar') (va_up lc (m + 2) xs') := by
  obtain ⟨hG, hL, hn, hk, hv, hs, he⟩ := hC
  have hml : m < (sK σ).length := (List.getElem?_eq_some_iff.mp hm).1
  have hA := hL.1 (m + 2) (by omega)
  have e0 : va_up lc (m + 2) xs' 0 = lc 0 := va_up_ne _ _ (by omega)
  have e1 : va_up lc (m + 2) xs' 1 = lc 1 := va_up_ne _ _ (by omega)
  refine ⟨xAL_keep hA hF hG (by decide), ?_, ?_, fun i q hq => ?_, fun i v hvi => ?_, fun r d hr => ?_, xEm_fr hA hF he⟩
  · show xLS E G' ((sK σ).set m (kd, es')).length lo _ _
    rw [List.length_set]
    exact xLS_list hL (by omega) hF hA' har
  · rw [e0, e1]
    refine ⟨?_, hn.2⟩
    show _ = ((sK σ).set m (kd, es')).length
    rw [List.length_set]
    exact hn.1
  · rw [e0]
    rcases set_at hq with ⟨rfl, rfl⟩ | ⟨hne, hq⟩
    · obtain ⟨⟨b, h1, h2⟩, h3⟩ := hk i _ hm
      exact ⟨⟨b, h1, xAL_keep hA hF h2 (by decide)⟩, by rw [va_up_self]; exact hE'⟩
    · obtain ⟨⟨b, h1, h2⟩, h3⟩ := hk i q hq
      exact ⟨⟨b, h1, xAL_keep hA hF h2 (by decide)⟩, by rw [va_up_ne _ _ (by omega)]; exact xEL_fr hA hF h3⟩
  · rw [e1]
    obtain ⟨b, h1, h2⟩ := hv i v hvi
    exact ⟨b, h1, xAL_keep hA hF h2 (by decide)⟩
  · obtain ⟨w, h1, h2⟩ := hs r d hr
    exact ⟨w, h1, xAL_keep hA hF h2 (by decide)⟩
-- a record rewritten: the keys whose field changes
def chB (b0 b1 : Int64) (q : KD × List E3) : Bool := decide (¬ fK q.1 b0 = fK q.1 b1)
def nch (ks : List (KD × List E3)) (b0 b1 : Int64) : Nat → Nat
  | 0 => 0
  | t + 1 => nch ks b0 b1 t + (match ks[t]? with | some q => if chB b0 b1 q = true then 1 else 0 | none => 0)
def mvF (ks : List (KD × List E3)) (b0 b1 : Int64) (s0 a i : Nat) (q : KD × List E3) : KD × List E3 := if chB b0 b1 q = true then (q.1, entE q.1 (delS q.2 s0) (fK q.1 b1) (lN (a + nch ks b0 b1 i + 1)) s0) else q
def mvB (ks : List (KD × List E3)) (b0 b1 : Int64) (s0 a : Nat) : Nat → Bool
  | 0 => false
  | t + 1 => mvB ks b0 b1 s0 a t || (match ks[t]? with | some q => chB b0 b1 q && entB q.1 (delS q.2 s0) (fK q.1 b1) (lN (a + nch ks b0 b1 t + 1)) | none => false)
theorem nch_s {ks : List (KD × List E3)} {b0 b1 : Int64} {t : Nat} {q : KD × List E3} (h : ks[t]? = some q) : nch ks b0 b1 (t + 1) = nch ks b0 b1 t + (if chB b0 b1 q = true then 1 else 0) := by
  show nch ks b0 b1 t + _ = _
  rw [h]
theorem mvB_s {ks : List (KD × List E3)} {b0 b1 : Int64} {s0 a t : Nat} {q : KD × List E3} (h : ks[t]? = some q) : mvB ks b0 b1 s0 a (t + 1) = (mvB ks b0 b1 s0 a t || (chB b0 b1 q && entB q.1 (delS q.2 s0) (fK q.1 b1) (lN (a + nch ks b0 b1 t + 1)))) := by
  show (mvB ks b0 b1 s0 a t || _) = _
  rw [h]
theorem srt_del {es : List E3} {s0 : Nat} (h : srt es) : srt (delS es s0) := List.Pairwise.filter _ h
theorem del_len {es : List E3} {s0 : Nat} : (delS es s0).length ≤ es.length := List.length_filter_le _ _
set_option maxRecDepth 100000 in
set_option maxHeartbeats 4000000 in
theorem q_KF_moveChangedEntries (l : Launch) (E : xE) {G : xw_G} {x s0 : Nat} {σ : CS} {b0 b1 : Int64} {th : Bool} (h : xCS E G x σ) (hd : sD σ s0 = some (b0, th)) (h6 : (sK σ).length ≤ 6) (ho : ∀ (i : Nat) (q : KD × List E3), (sK σ)[i]? = some q → dOK q.2 s0 (fK q.1 b0) ∧ q.2.length ≤ 300) : XMk l E y_KF_moveChangedEntries w_KF_moveChangedEntries rm_KF_moveChangedEntries [.ref x, .ref s0, .long (b1)] G (cPost E G x (some (.int (bI (mvB (sK σ) b0 b1 s0 (sA σ) (sK σ).length)))) ((sK σ).mapIdx (mvF (sK σ) b0 b1 s0 (sA σ)), sV σ, va_up (sD σ) s0 (some (b1, th)), sO σ, sA σ + nch (sK σ) b0 b1 (sK σ).length, sW σ)) 12 2214 := by
  refine XM_of [some (.ref x), some (.ref s0), some (.long (b1)), none, none, none, none, none, none] (XZ_st E) (by decide) rfl rfl rfl (Nat.le_of_ble_eq_true rfl) (fun p e s m below meth c C hnm => ?_)
  have hlen0 := xCS_len h
  have loop : ∀ (n t : Nat) (v8 : Option Value) (G1 : xw_G), t + n = (sK σ).length → xCS E G1 x (upto (mvF (sK σ) b0 b1 s0 (sA σ)) t (sK σ), sV σ, va_up (sD σ) s0 (some (b1, th)), sO σ, sA σ + nch (sK σ) b0 b1 t, sW σ) → xFm G G1 → XW p l e rm_KF_moveChangedEntries s m #[.ref x, .ref s0, .long (b1)] below meth c (XQ below #[.ref x, .ref s0, .long (b1)] s (xD E) xcl (xB E) (cPost E G x (some (.int (bI (mvB (sK σ) b0 b1 s0 (sA σ) (sK σ).length)))) ((sK σ).mapIdx (mvF (sK σ) b0 b1 s0 (sA σ)), sV σ, va_up (sD σ) s0 (some (b1, th)), sO σ, sA σ + nch (sK σ) b0 b1 (sK σ).length, sW σ)) 12 2214) (xD E) xcl (xB E) 17 [some (.ref x), some (.ref s0), some (.long (b1)), none, some (.long (b0)), none, some (.int (bI (mvB (sK σ) b0 b1 s0 (sA σ) t))), some (.int (nI t)), v8] [] G1 (2 * t) (369 * t) := by
    intro n
    induction n with
    | zero =>
      intro t v8 G1 hn h hF
      obtain ⟨lo, la, lc, hCB⟩ : ∃ lo la lc, xCB E G1 x (upto (mvF (sK σ) b0 b1 s0 (sA σ)) t (sK σ), sV σ, va_up (sD σ) s0 (some (b1, th)), sO σ, sA σ + nch (sK σ) b0 b1 t, sW σ) lo la lc := h
      obtain ⟨hG, hL, hnn, hk, hv, hs, he⟩ := id hCB
      have hlen : (lc 0).length = (sK σ).length := hnn.1.trans upto_len
      obtain ⟨cap0, md0, ff0, hL0, -⟩ := hL.1 0 (by omega)
      have ht : t = (sK σ).length := by omega
      refine x_iload C d_KF_moveChangedEntries_17 rfl ?_
      refine x_aload_n C d_KF_moveChangedEntries_19 rfl rfl ?_
      refine x_get C hG rfl (in_KF _) 0 (by decide) (List.mem_cons_of_mem _ f_KF_10) rfl d_KF_moveChangedEntries_20 ?_
      refine x_callV0 C (q_AL_sizeL l E (hL.1 0 (by omega))) (lk_KF_19 C.hts (Nat.le_of_ble_eq_true rfl) (Nat.le_of_ble_eq_true rfl)) hL0 rfl rfl d_KF_moveChangedEntries_23 (Nat.le_of_ble_eq_true rfl) (by show 2 * t + 0 ≤ 12; omega) (by show 369 * t + 0 ≤ 2214; omega) (fun r G' h => ?_)
      obtain ⟨rfl, rfl⟩ := h
      rw [hlen]
      refine x_icmp_ge C 92 d_KF_moveChangedEntries_26 (by decide) (fun c_26 => ?_) (fun c_26 => ?_)
      · refine XW.wid (cells := 12) (slots := 2214) ?_ (by omega) (by omega)
        refine x_iload C d_KF_moveChangedEntries_92 rfl ?_
        exact x_zret C (bI_nar _) (Nat.le_of_ble_eq_true rfl) (Nat.le_of_ble_eq_true rfl) d_KF_moveChangedEntries_94 ⟨by rw [ht], by rw [← upto_ge (Nat.le_refl (sK σ).length), ← ht]; exact ⟨lo, la, lc, hCB⟩, hF⟩
      · exact absurd (nI_le (by omega) (by omega)) c_26
    | succ n ih =>
      intro t v8 G1 hn h hF
      obtain ⟨lo, la, lc, hCB⟩ : ∃ lo la lc, xCB E G1 x (upto (mvF (sK σ) b0 b1 s0 (sA σ)) t (sK σ), sV σ, va_up (sD σ) s0 (some (b1, th)), sO σ, sA σ + nch (sK σ) b0 b1 t, sW σ) lo la lc := h
      obtain ⟨hG, hL, hnn, hk, hv, hs, he⟩ := id hCB
      have hlen : (lc 0).length = (sK σ).length := hnn.1.trans upto_len
      obtain ⟨cap0, md0, ff0, hL0, -⟩ := hL.1 0 (by omega)
      obtain ⟨q, hq⟩ := e_lt (show t < (sK σ).length by omega)
      obtain ⟨⟨a, ha, hK⟩, hX⟩ := hk t q (upto_cur hq)
      obtain ⟨o1, o2⟩ := ho t q hq
      refine x_iload C d_KF_moveChangedEntries_17 rfl ?_
      refine x_aload_n C d_KF_moveChangedEntries_19 rfl rfl ?_
      refine x_get C hG rfl (in_KF _) 0 (by decide) (List.mem_cons_of_mem _ f_KF_10) rfl d_KF_moveChangedEntries_20 ?_
      refine x_callV0 C (q_AL_sizeL l E (hL.1 0 (by omega))) (lk_KF_19 C.hts (Nat.le_of_ble_eq_true rfl) (Nat.le_of_ble_eq_true rfl)) hL0 rfl rfl d_KF_moveChangedEntries_23 (Nat.le_of_ble_eq_true rfl) (by show 2 * t + 0 ≤ 12; omega) (by show 369 * t + 0 ≤ 2214; omega) (fun r G' h => ?_)
      obtain ⟨rfl, rfl⟩ := h
      rw [hlen]
      refine x_icmp_ge C 92 d_KF_moveChangedEntries_26 (by decide) (fun c_26 => ?_) (fun c_26 => ?_)
      · exact absurd c_26 (nI_ge (by omega) (by omega))
      · refine x_aload_n C d_KF_moveChangedEntries_29 rfl rfl ?_
        refine x_get C hG rfl (in_KF _) 0 (by decide) (List.mem_cons_of_mem _ f_KF_10) rfl d_KF_moveChangedEntries_30 ?_
        refine x_iload C d_KF_moveChangedEntries_33 rfl ?_
        refine x_callV1 C (q_AL_getL l E (hL.1 0 (by omega)) ha) (lk_KF_177 C.hts (Nat.le_of_ble_eq_true rfl) (Nat.le_of_ble_eq_true rfl)) hL0 rfl rfl d_KF_moveChangedEntries_35 (Nat.le_of_ble_eq_true rfl) (by show 2 * t + 0 ≤ 12; omega) (by show 369 * t + 0 ≤ 2214; omega) (fun r G' h => ?_)
        obtain ⟨rfl, rfl⟩ := h
        refine x_castS C hK rfl (List.mem_cons_of_mem _ cl_KF_27) d_KF_moveChangedEntries_38 ?_
        refine x_astore C d_KF_moveChangedEntries_41 (Nat.le_of_ble_eq_true rfl) rfl ?_
        refine x_aload C d_KF_moveChangedEntries_43 rfl ?_
        refine x_lload C d_KF_moveChangedEntries_45 rfl ?_
        refine x_callV1 C (q_KI_fieldIn l E hK) (lk_KF_195 C.hts (Nat.le_of_ble_eq_true rfl) (Nat.le_of_ble_eq_true rfl)) hK rfl rfl d_KF_moveChangedEntries_47 (Nat.le_of_ble_eq_true rfl) (by show 2 * t + 0 ≤ 12; omega) (by show 369 * t + 0 ≤ 2214; omega) (fun r G' h => ?_)
        obtain ⟨rfl, rfl⟩ := h
        refine x_aload C d_KF_moveChangedEntries_50 rfl ?_
        refine x_lload_n C d_KF_moveChangedEntries_52 rfl rfl ?_
        refine x_callV1 C (q_KI_fieldIn l E hK) (lk_KF_195 C.hts (Nat.le_of_ble_eq_true rfl) (Nat.le_of_ble_eq_true rfl)) hK rfl rfl d_KF_moveChangedEntries_53 (Nat.le_of_ble_eq_true rfl) (by show 2 * t + 0 ≤ 12; omega) (by show 369 * t + 0 ≤ 2214; omega) (fun r G' h => ?_)
        obtain ⟨rfl, rfl⟩ := h
        refine x_lcmp C d_KF_moveChangedEntries_56 ?_
        refine x_if_eq C 86 d_KF_moveChangedEntries_57 (by decide) (fun c_57 => ?_) (fun c_57 => ?_)
        · refine x_iinc C d_KF_moveChangedEntries_86 rfl rfl rfl ?_
          refine x_goto C 17 d_KF_moveChangedEntries_89 (by decide) ?_
          have e1 : nI t + Int32.ofInt 1 = nI (t + 1) := nI_1 t
          have hch : chB b0 b1 q = false := by simp [chB, (lg_eq _ _).mp c_57]
          have e2 : bI (mvB (sK σ) b0 b1 s0 (sA σ) (t + 1)) = bI (mvB (sK σ) b0 b1 s0 (sA σ) t) := by rw [mvB_s hq, hch, Bool.false_and, Bool.or_false]
          rw [e1, ← e2]
          refine XW.wid (cells := 2 * (t + 1)) (slots := 369 * (t + 1)) ?_ (by omega) (by omega)
          refine ih (t + 1) _ _ (by omega) ?_ hF
          rw [upto_same hq (by rw [mvF, if_neg (by rw [hch]; decide)]), nch_s hq, if_neg (by rw [hch]; decide)]
          exact ⟨lo, la, lc, hCB⟩
        · have hch : chB b0 b1 q = true := decide_eq_true (fun z => c_57 ((lg_eq _ _).mpr z))
          refine x_aload C d_KF_moveChangedEntries_60 rfl ?_
          refine x_aload_n C d_KF_moveChangedEntries_62 rfl rfl ?_
          refine x_aload C d_KF_moveChangedEntries_63 rfl ?_
          refine x_lload C d_KF_moveChangedEntries_65 rfl ?_
          refine x_callV1 C (q_KI_fieldIn l E hK) (lk_KF_195 C.hts (Nat.le_of_ble_eq_true rfl) (Nat.le_of_ble_eq_true rfl)) hK rfl rfl d_KF_moveChangedEntries_67 (Nat.le_of_ble_eq_true rfl) (by show 2 * t + 0 ≤ 12; omega) (by show 369 * t + 0 ≤ 2214; omega) (fun r G' h => ?_)
          obtain ⟨rfl, rfl⟩ := h
          refine x_callV2 C (q_KI_drop l E (kd := q.1) hK (hL.1 (t + 2) (by rw [upto_len]; omega)) hX he o1) (lk_KF_228 C.hts (Nat.le_of_ble_eq_true rfl) (Nat.le_of_ble_eq_true rfl)) hK rfl rfl d_KF_moveChangedEntries_70 (Nat.le_of_ble_eq_true rfl) (by show 2 * t + 0 ≤ 12; omega) (by show 369 * t + 0 ≤ 2214; omega) (fun r G' h => ?_)
          obtain ⟨rfl, xs', g1, g2, g3⟩ := h
          have hCB1 := xCB_es (kd := q.1) (es := q.2) hCB (upto_cur hq) g3 g1 (Or.inl rfl) g2
          have hF1 := xFm.fr (hL.1 (t + 2) (by rw [upto_len]; omega)) g3
          have hK1 := xAL_keep (hL.1 (t + 2) (by rw [upto_len]; omega)) g3 hK (by decide)
          have ha1 : va_up lc (t + 2) xs' 0 = lc 0 := va_up_ne _ _ (by omega)
          have hq1 : ((upto (mvF (sK σ) b0 b1 s0 (sA σ)) t (sK σ)).set t (q.1, delS q.2 s0))[t]? = some (q.1, delS q.2 s0) := List.getElem?_set_self (by rw [upto_len]; omega)
          refine x_aload_n C d_KF_moveChangedEntries_73 rfl rfl ?_
          refine x_aload C d_KF_moveChangedEntries_74 rfl ?_
          refine x_aload_n C d_KF_moveChangedEntries_76 rfl rfl ?_
          refine x_callV2 C (q_KF_enterUnder l E hCB1 hq1 (by rw [ha1]; exact ha) hK1 (va_up_self _ _ _) (srt_del o1.1) (Nat.le_trans del_len o2)) (lk_KF_218 C.hts (Nat.le_of_ble_eq_true rfl) (Nat.le_of_ble_eq_true rfl)) hCB1.1 rfl rfl d_KF_moveChangedEntries_77 (Nat.le_of_ble_eq_true rfl) (by show 2 * t + 0 + 2 ≤ 12; omega) (by show 369 * t + 0 + 369 ≤ 2214; omega) (fun r G' h => ?_)
          obtain ⟨rfl, hz, hF2⟩ := h
          have hz : xCS E G' x (upto (mvF (sK σ) b0 b1 s0 (sA σ)) (t + 1) (sK σ), sV σ, va_up (sD σ) s0 (some (b1, th)), sO σ, sA σ + nch (sK σ) b0 b1 (t + 1), sW σ) := by rw [← upto_set hq, nch_s hq, if_pos hch, mvF, if_pos hch, ← List.set_set (q.1, delS q.2 s0)]; exact hz
          refine x_if_eq C 86 d_KF_moveChangedEntries_80 (by decide) (fun c_80 => ?_) (fun c_80 => ?_)
          · refine x_iinc C d_KF_moveChangedEntries_86 rfl rfl rfl ?_
            refine x_goto C 17 d_KF_moveChangedEntries_89 (by decide) ?_
            have e1 : nI t + Int32.ofInt 1 = nI (t + 1) := nI_1 t
            have e2 : bI (mvB (sK σ) b0 b1 s0 (sA σ) (t + 1)) = bI (mvB (sK σ) b0 b1 s0 (sA σ) t) := by rw [mvB_s hq, hch, (bI_0 _).mp c_80, Bool.true_and, Bool.or_false]
            rw [e1, ← e2]
            exact ih (t + 1) _ _ (by omega) hz (hF.tr (hF1.tr hF2))
          · refine x_iconst C (v := 1) d_KF_moveChangedEntries_83 (by decide) ?_
            refine x_istore C d_KF_moveChangedEntries_84 (Nat.le_of_ble_eq_true rfl) rfl ?_
            refine x_iinc C d_KF_moveChangedEntries_86 rfl rfl rfl ?_
            refine x_goto C 17 d_KF_moveChangedEntries_89 (by decide) ?_
            have e1 : nI t + Int32.ofInt 1 = nI (t + 1) := nI_1 t
            have e2 : bI (mvB (sK σ) b0 b1 s0 (sA σ) (t + 1)) = 1 := by rw [mvB_s hq, hch, show entB q.1 (delS q.2 s0) (fK q.1 b1) (lN (sA σ + nch (sK σ) b0 b1 t + 1)) = true from by cases hz : entB q.1 (delS q.2 s0) (fK q.1 b1) (lN (sA σ + nch (sK σ) b0 b1 t + 1)) with | true => rfl | false => exact absurd (by rw [hz]; rfl) c_80, Bool.true_and, Bool.or_true]; rfl
            rw [e1]
            refine XW.eqs (ih (t + 1) _ _ (by omega) hz (hF.tr (hF1.tr hF2))) (by rw [e2]; rfl) rfl rfl
  obtain ⟨lo, la, lc, hG, hL, hnn, hk, hv, hs, he⟩ := id h
  obtain ⟨w, hw, hS⟩ := hs s0 _ hd
  have h0 := xCS_st (d0 := (b0, th)) (d1 := (b1, th)) hG hL hnn hk hv hs he hS hw
  have hF0 : xFm G (va_up G s0 (some (eST b1 th (lN w)))) := xFm.up hS (by decide)
  refine x_aload_n C d_KF_moveChangedEntries_0 rfl rfl ?_
  refine x_get C hS rfl (in_ST _) 0 (by decide) (List.mem_cons_of_mem _ f_KF_156) rfl d_KF_moveChangedEntries_1 ?_
  refine x_lstore C d_KF_moveChangedEntries_4 (Nat.le_of_ble_eq_true rfl) rfl ?_
  refine x_aload_n C d_KF_moveChangedEntries_6 rfl rfl ?_
  refine x_lload_n C d_KF_moveChangedEntries_7 rfl rfl ?_
  refine x_put C hS rfl (in_ST _) ty_ST tok_ST nm_ST 0 (by decide) (List.mem_cons_of_mem _ f_KF_156) rfl (tok_ST 0 (by decide)) rfl rfl (Nat.le_of_ble_eq_true rfl) d_KF_moveChangedEntries_8 ?_
  refine x_iconst C (v := 0) d_KF_moveChangedEntries_11 (by decide) ?_
  refine x_istore C d_KF_moveChangedEntries_12 (Nat.le_of_ble_eq_true rfl) rfl ?_
  refine x_iconst C (v := 0) d_KF_moveChangedEntries_14 (by decide) ?_
  refine x_istore C d_KF_moveChangedEntries_15 (Nat.le_of_ble_eq_true rfl) rfl ?_
  refine XW.eqs (loop (sK σ).length 0 _ _ (by omega) ?_ hF0) rfl rfl rfl
  rw [upto_0]
  exact h0
def upg {α : Type} (F : α → α) (t : Nat) (l : List α) : List α := l.mapIdx (fun i q => if i < t then F q else q)
theorem upg_len {α : Type} {F : α → α} {t : Nat} {l : List α} : (upg F t l).length = l.length := by unfold upg; simp
theorem upg_at {α : Type} {F : α → α} {t : Nat} {l : List α} (i : Nat) : (upg F t l)[i]? = (l[i]?).map (fun q => if i < t then F q else q) := by unfold upg; simp
theorem upg_0 {α : Type} {F : α → α} {l : List α} : upg F 0 l = l := by
  apply List.ext_getElem?
  intro i
  rw [upg_at]
  cases l[i]? <;> simp
theorem upg_ge {α : Type} {F : α → α} {t : Nat} {l : List α} (h : l.length ≤ t) : upg F t l = l.map F := by
  apply List.ext_getElem?
  intro i
  rw [upg_at, List.getElem?_map]
  cases hq : l[i]? with
  | none => rfl
  | some q =>
    have := (List.getElem?_eq_some_iff.mp hq).1
    simp only [Option.map_some]
    rw [if_pos (by omega)]
theorem upg_cur {α : Type} {F : α → α} {t : Nat} {l : List α} {q : α} (h : l[t]? = some q) : (upg F t l)[t]? = some q := by
  rw [upg_at, h]
  simp
theorem upg_set {α : Type} {F : α → α} {t : Nat} {l : List α} {q : α} (h : l[t]? = some q) : (upg F t l).set t (F q) = upg F (t + 1) l := by
  have hl := (List.getElem?_eq_some_iff.mp h).1
  apply List.ext_getElem?
  intro i
  rw [upg_at]
  by_cases hi : i = t
  · subst hi
    rw [List.getElem?_set_self (by rw [upg_len]; exact hl), h]
    simp
  · rw [List.getElem?_set_ne (Ne.symm hi), upg_at]
    cases l[i]? with
    | none => rfl
    | some q2 =>
      simp only [Option.map_some]
      by_cases h1 : i < t
      · rw [if_pos h1, if_pos (by omega)]
      · rw [if_neg h1, if_neg (by omega)]
def vForget (v : VD) : VD := (v.1, v.2.1, v.2.2.1, v.2.2.2.1, v.2.2.2.2.1, v.2.2.2.2.2.1, v.2.2.2.2.2.2.1, v.2.2.2.2.2.2.2.1, none, 0, v.2.2.2.2.2.2.2.2.2.2.1, v.2.2.2.2.2.2.2.2.2.2.2)
def vLose (v : VD) : VD := (v.1, v.2.1, v.2.2.1, v.2.2.2.1, 3, v.2.2.2.2.2.1, v.2.2.2.2.2.2.1, v.2.2.2.2.2.2.2.1, v.2.2.2.2.2.2.2.2.1, v.2.2.2.2.2.2.2.2.2.1, v.2.2.2.2.2.2.2.2.2.2.1, v.2.2.2.2.2.2.2.2.2.2.2)
theorem q_VW_forget (l : Launch) (E : xE) {G : xw_G} {h0 : Nat} {v : VD} (hV : G h0 = some (cVW v)) : XMk l E y_VW_forgetRead w_VW_forgetRead rm_VW_forgetRead [.ref h0] G (fun r G' => r = none ∧ G' = va_up G h0 (some (cVW (vForget v)))) 0 0 := q_VW_forgetRead l E hV
theorem q_VW_lost (l : Launch) (E : xE) {G : xw_G} {h0 : Nat} {v : VD} (hV : G h0 = some (cVW v)) : XMk l E y_VW_lose w_VW_lose rm_VW_lose [.ref h0] G (fun r G' => r = none ∧ G' = va_up G h0 (some (cVW (vLose v)))) 0 0 := q_VW_lose l E hV
set_option maxRecDepth 100000 in
set_option maxHeartbeats 4000000 in
theorem q_KF_dropAllRecords (l : Launch) (E : xE) {G : xw_G} {x : Nat} {σ : CS} (h : xCS E G x σ) : XMk l E y_KF_dropAllRecords w_KF_dropAllRecords rm_KF_dropAllRecords [.ref x] G (cPost E G x none (((sK σ).mapIdx (fun _ q => (q.1, ([] : List E3)))), (sV σ).map (fun v => vLose (vForget v)), sD σ, sO σ, sA σ, sW σ)) 0 0 := by
  refine XM_of [some (.ref x), none] (XZ_st E) (by decide) rfl rfl rfl (Nat.le_of_ble_eq_true rfl) (fun p e s m below meth c C hnm => ?_)
  have hlen0 := xCS_len h
  have loop2 : ∀ (n t : Nat) (G1 : xw_G), t + n = (sV σ).length → xCS E G1 x (((sK σ).mapIdx (fun _ q => (q.1, ([] : List E3)))), upg (fun v => vLose (vForget v)) t (sV σ), sD σ, sO σ, sA σ, sW σ) → xFm G G1 → XW p l e rm_KF_dropAllRecords s m #[.ref x] below meth c (XQ below #[.ref x] s (xD E) xcl (xB E) (cPost E G x none (((sK σ).mapIdx (fun _ q => (q.1, ([] : List E3)))), (sV σ).map (fun v => vLose (vForget v)), sD σ, sO σ, sA σ, sW σ)) 0 0) (xD E) xcl (xB E) 38 [some (.ref x), some (.int (nI t))] [] G1 0 0 := by
    intro n
    induction n with
    | zero =>
      intro t G1 hn h hF
      obtain ⟨lo, la, lc, hG, hL, hnn, hk, hv, hs, he⟩ := h
      have hlen : (lc 1).length = (sV σ).length := hnn.2.2.1.trans upg_len
      obtain ⟨cap1, md1, ff1, hL1, -⟩ := hL.1 1 (by omega)
      have ht : t = (sV σ).length := by omega
      refine x_iload_n C d_KF_dropAllRecords_38 rfl rfl ?_
      refine x_aload_n C d_KF_dropAllRecords_39 rfl rfl ?_
      refine x_get C hG rfl (in_KF _) 1 (by decide) (List.mem_cons_of_mem _ f_KF_16) rfl d_KF_dropAllRecords_40 ?_
      refine x_callV0 C (q_AL_sizeL l E (hL.1 1 (by omega))) (lk_KF_19 C.hts (Nat.le_of_ble_eq_true rfl) (Nat.le_of_ble_eq_true rfl)) hL1 rfl rfl d_KF_dropAllRecords_43 (Nat.le_of_ble_eq_true rfl) (Nat.le_of_ble_eq_true rfl) (Nat.le_of_ble_eq_true rfl) (fun r G' h => ?_)
      obtain ⟨rfl, rfl⟩ := h
      rw [hlen]
      refine x_icmp_ge C 83 d_KF_dropAllRecords_46 (by decide) (fun c_46 => ?_) (fun c_46 => ?_)
      · exact x_vret C (Nat.le_of_ble_eq_true rfl) (Nat.le_of_ble_eq_true rfl) d_KF_dropAllRecords_83 ⟨rfl, by rw [← upg_ge (Nat.le_refl (sV σ).length), ← ht]; exact ⟨lo, la, lc, hG, hL, hnn, hk, hv, hs, he⟩, hF⟩
      · exact absurd (nI_le (by omega) (by omega)) c_46
    | succ n ih =>
      intro t G1 hn h hF
      obtain ⟨lo, la, lc, hG, hL, hnn, hk, hv, hs, he⟩ := h
      have hlen : (lc 1).length = (sV σ).length := hnn.2.2.1.trans upg_len
      obtain ⟨cap1, md1, ff1, hL1, -⟩ := hL.1 1 (by omega)
      obtain ⟨v, hvt⟩ := e_lt (show t < (sV σ).length by omega)
      obtain ⟨a, ha, hV⟩ := hv t v (upg_cur hvt)
      refine x_iload_n C d_KF_dropAllRecords_38 rfl rfl ?_
      refine x_aload_n C d_KF_dropAllRecords_39 rfl rfl ?_
      refine x_get C hG rfl (in_KF _) 1 (by decide) (List.mem_cons_of_mem _ f_KF_16) rfl d_KF_dropAllRecords_40 ?_
      refine x_callV0 C (q_AL_sizeL l E (hL.1 1 (by omega))) (lk_KF_19 C.hts (Nat.le_of_ble_eq_true rfl) (Nat.le_of_ble_eq_true rfl)) hL1 rfl rfl d_KF_dropAllRecords_43 (Nat.le_of_ble_eq_true rfl) (Nat.le_of_ble_eq_true rfl) (Nat.le_of_ble_eq_true rfl) (fun r G' h => ?_)
      obtain ⟨rfl, rfl⟩ := h
      rw [hlen]
      refine x_icmp_ge C 83 d_KF_dropAllRecords_46 (by decide) (fun c_46 => ?_) (fun c_46 => ?_)
      · exact absurd c_46 (nI_ge (by omega) (by omega))
      · refine x_aload_n C d_KF_dropAllRecords_49 rfl rfl ?_
        refine x_get C hG rfl (in_KF _) 1 (by decide) (List.mem_cons_of_mem _ f_KF_16) rfl d_KF_dropAllRecords_50 ?_
        refine x_iload_n C d_KF_dropAllRecords_53 rfl rfl ?_
        refine x_callV1 C (q_AL_getL l E (hL.1 1 (by omega)) ha) (lk_KF_177 C.hts (Nat.le_of_ble_eq_true rfl) (Nat.le_of_ble_eq_true rfl)) hL1 rfl rfl d_KF_dropAllRecords_54 (Nat.le_of_ble_eq_true rfl) (Nat.le_of_ble_eq_true rfl) (Nat.le_of_ble_eq_true rfl) (fun r G' h => ?_)
        obtain ⟨rfl, rfl⟩ := h
        refine x_castS C hV rfl (List.mem_cons_of_mem _ cl_KF_48) d_KF_dropAllRecords_57 ?_
        refine x_callV0 C (q_VW_forget l E hV) (lk_KF_65 C.hts (Nat.le_of_ble_eq_true rfl) (Nat.le_of_ble_eq_true rfl)) hV rfl rfl d_KF_dropAllRecords_60 (Nat.le_of_ble_eq_true rfl) (Nat.le_of_ble_eq_true rfl) (Nat.le_of_ble_eq_true rfl) (fun r G' h => ?_)
        obtain ⟨rfl, rfl⟩ := h
        refine x_aload_n C d_KF_dropAllRecords_63 rfl rfl ?_
        refine x_get C (xw_keep hG (xw_neC hG hV (by decide))) rfl (in_KF _) 1 (by decide) (List.mem_cons_of_mem _ f_KF_16) rfl d_KF_dropAllRecords_64 ?_
        refine x_iload_n C d_KF_dropAllRecords_67 rfl rfl ?_
        refine x_callV1 C (q_AL_getL l E (xAL_up hV (by decide) (hL.1 1 (by omega))) ha) (lk_KF_177 C.hts (Nat.le_of_ble_eq_true rfl) (Nat.le_of_ble_eq_true rfl)) (xw_keep hL1 (xw_neC hL1 hV (by decide))) rfl rfl d_KF_dropAllRecords_68 (Nat.le_of_ble_eq_true rfl) (Nat.le_of_ble_eq_true rfl) (Nat.le_of_ble_eq_true rfl) (fun r G' h => ?_)
        obtain ⟨rfl, rfl⟩ := h
        refine x_castS C (va_up_self _ _ _) rfl (List.mem_cons_of_mem _ cl_KF_48) d_KF_dropAllRecords_71 ?_
        refine x_callV0 C (q_VW_lost l E (va_up_self _ _ _)) (lk_KF_112 C.hts (Nat.le_of_ble_eq_true rfl) (Nat.le_of_ble_eq_true rfl)) (va_up_self _ _ _) rfl rfl d_KF_dropAllRecords_74 (Nat.le_of_ble_eq_true rfl) (Nat.le_of_ble_eq_true rfl) (Nat.le_of_ble_eq_true rfl) (fun r G' h => ?_)
        obtain ⟨rfl, rfl⟩ := h
        rw [bx_uu]
        refine x_iinc C d_KF_dropAllRecords_77 rfl rfl rfl ?_
        refine x_goto C 38 d_KF_dropAllRecords_80 (by decide) ?_
        have e1 : nI t + Int32.ofInt 1 = nI (t + 1) := nI_1 t
        rw [e1]
        have hz := xCS_vw (v' := vLose (vForget v)) hG hL hnn hk hv hs he ha hV
        have hz : xCS E (va_up G1 a (some (cVW (vLose (vForget v))))) x (((sK σ).mapIdx (fun _ q => (q.1, ([] : List E3)))), upg (fun v => vLose (vForget v)) (t + 1) (sV σ), sD σ, sO σ, sA σ, sW σ) := by rw [← upg_set hvt]; exact hz
        exact ih (t + 1) _ (by omega) hz (hF.tr (xFm.up hV (by decide)))
  have loop1 : ∀ (n t : Nat) (G1 : xw_G), t + n = (sK σ).length → xCS E G1 x (upto (fun _ q => (q.1, [])) t (sK σ), sV σ, sD σ, sO σ, sA σ, sW σ) → xFm G G1 → XW p l e rm_KF_dropAllRecords s m #[.ref x] below meth c (XQ below #[.ref x] s (xD E) xcl (xB E) (cPost E G x none (((sK σ).mapIdx (fun _ q => (q.1, ([] : List E3)))), (sV σ).map (fun v => vLose (vForget v)), sD σ, sO σ, sA σ, sW σ)) 0 0) (xD E) xcl (xB E) 2 [some (.ref x), some (.int (nI t))] [] G1 0 0 := by
    intro n
    induction n with
    | zero =>
      intro t G1 hn h hF
      have h' := h
      obtain ⟨lo, la, lc, hG, hL, hnn, hk, hv, hs, he⟩ := h
      have hlen : (lc 0).length = (sK σ).length := hnn.1.trans upto_len
      obtain ⟨cap0, md0, ff0, hL0, -⟩ := hL.1 0 (by omega)
      have ht : t = (sK σ).length := by omega
      refine x_iload_n C d_KF_dropAllRecords_2 rfl rfl ?_
      refine x_aload_n C d_KF_dropAllRecords_3 rfl rfl ?_
      refine x_get C hG rfl (in_KF _) 0 (by decide) (List.mem_cons_of_mem _ f_KF_10) rfl d_KF_dropAllRecords_4 ?_
      refine x_callV0 C (q_AL_sizeL l E (hL.1 0 (by omega))) (lk_KF_19 C.hts (Nat.le_of_ble_eq_true rfl) (Nat.le_of_ble_eq_true rfl)) hL0 rfl rfl d_KF_dropAllRecords_7 (Nat.le_of_ble_eq_true rfl) (Nat.le_of_ble_eq_true rfl) (Nat.le_of_ble_eq_true rfl) (fun r G' h => ?_)
      obtain ⟨rfl, rfl⟩ := h
      rw [hlen]
      refine x_icmp_ge C 36 d_KF_dropAllRecords_10 (by decide) (fun c_10 => ?_) (fun c_10 => ?_)
      · refine x_iconst C (v := 0) d_KF_dropAllRecords_36 (by decide) ?_
        refine x_istore_n C d_KF_dropAllRecords_37 rfl (Nat.le_of_ble_eq_true rfl) rfl ?_
        rw [← nI_0]
        refine loop2 (sV σ).length 0 G1 (by omega) ?_ hF
        rw [upg_0, ← upto_ge (Nat.le_refl (sK σ).length), ← ht]
        exact h'
      · exact absurd (nI_le (by omega) (by omega)) c_10
    | succ n ih =>
      intro t G1 hn h hF
      have h' := h
      obtain ⟨lo, la, lc, hG, hL, hnn, hk, hv, hs, he⟩ := h
      have hlen : (lc 0).length = (sK σ).length := hnn.1.trans upto_len
      obtain ⟨cap0, md0, ff0, hL0, -⟩ := hL.1 0 (by omega)
      obtain ⟨q, hq⟩ := e_lt (show t < (sK σ).length by omega)
      obtain ⟨⟨a, ha, hK⟩, hX⟩ := hk t q (upto_cur hq)
      obtain ⟨capt, mdt, fft, hLt, -⟩ := hL.1 (t + 2) (by rw [upto_len]; omega)
      refine x_iload_n C d_KF_dropAllRecords_2 rfl rfl ?_
      refine x_aload_n C d_KF_dropAllRecords_3 rfl rfl ?_
      refine x_get C hG rfl (in_KF _) 0 (by decide) (List.mem_cons_of_mem _ f_KF_10) rfl d_KF_dropAllRecords_4 ?_
      refine x_callV0 C (q_AL_sizeL l E (hL.1 0 (by omega))) (lk_KF_19 C.hts (Nat.le_of_ble_eq_true rfl) (Nat.le_of_ble_eq_true rfl)) hL0 rfl rfl d_KF_dropAllRecords_7 (Nat.le_of_ble_eq_true rfl) (Nat.le_of_ble_eq_true rfl) (Nat.le_of_ble_eq_true rfl) (fun r G' h => ?_)
      obtain ⟨rfl, rfl⟩ := h
      rw [hlen]
      refine x_icmp_ge C 36 d_KF_dropAllRecords_10 (by decide) (fun c_10 => ?_) (fun c_10 => ?_)
      · exact absurd c_10 (nI_ge (by omega) (by omega))
      · refine x_aload_n C d_KF_dropAllRecords_13 rfl rfl ?_
        refine x_get C hG rfl (in_KF _) 0 (by decide) (List.mem_cons_of_mem _ f_KF_10) rfl d_KF_dropAllRecords_14 ?_
        refine x_iload_n C d_KF_dropAllRecords_17 rfl rfl ?_
        refine x_callV1 C (q_AL_getL l E (hL.1 0 (by omega)) ha) (lk_KF_177 C.hts (Nat.le_of_ble_eq_true rfl) (Nat.le_of_ble_eq_true rfl)) hL0 rfl rfl d_KF_dropAllRecords_18 (Nat.le_of_ble_eq_true rfl) (Nat.le_of_ble_eq_true rfl) (Nat.le_of_ble_eq_true rfl) (fun r G' h => ?_)
        obtain ⟨rfl, rfl⟩ := h
        refine x_castS C hK rfl (List.mem_cons_of_mem _ cl_KF_27) d_KF_dropAllRecords_21 ?_
        refine x_get C hK rfl (in_KI _) 3 (by decide) (List.mem_cons_of_mem _ f_KF_188) rfl d_KF_dropAllRecords_24 ?_
        refine x_callV0 C (q_AL_clear l E (hL.1 (t + 2) (by rw [upto_len]; omega)) he) (lk_KF_235 C.hts (Nat.le_of_ble_eq_true rfl) (Nat.le_of_ble_eq_true rfl)) hLt rfl rfl d_KF_dropAllRecords_27 (Nat.le_of_ble_eq_true rfl) (Nat.le_of_ble_eq_true rfl) (Nat.le_of_ble_eq_true rfl) (fun r G' h => ?_)
        obtain ⟨rfl, g1, g2⟩ := h
        have hz := xCS_es (kd := q.1) (es := q.2) hG hL hnn hk hv hs he (upto_cur hq) g2 g1 (Or.inl rfl) (show xEL G' [] [] from ⟨rfl, fun j e hj => by simp at hj⟩)
        have hz : xCS E G' x (upto (fun _ q => (q.1, [])) (t + 1) (sK σ), sV σ, sD σ, sO σ, sA σ, sW σ) := by rw [← upto_set hq]; exact hz
        refine x_iinc C d_KF_dropAllRecords_30 rfl rfl rfl ?_
        refine x_goto C 2 d_KF_dropAllRecords_33 (by decide) ?_
        have e1 : nI t + Int32.ofInt 1 = nI (t + 1) := nI_1 t
        rw [e1]
        exact ih (t + 1) _ (by omega) hz (hF.tr (xFm.fr (hL.1 (t + 2) (by rw [upto_len]; omega)) g2))
  refine x_iconst C (v := 0) d_KF_dropAllRecords_0 (by decide) ?_
  refine x_istore_n C d_KF_dropAllRecords_1 rfl (Nat.le_of_ble_eq_true rfl) rfl ?_
  rw [← nI_0]
  refine loop1 (sK σ).length 0 G (by omega) ?_ xFm.rf
  rw [upto_0]
  exact h
