theorem xCB_vw {E : xE} {G : xw_G} {x i a : Nat} {σ : CS} {v v' : VD} {lo la : Nat → Nat} {lc : Nat → List Nat} (hC : xCB E G x σ lo la lc) (ha : (lc 1)[i]? = some a) (hGa : G a = some (cVW v)) : xCB E (va_up G a (some (cVW v'))) x (σ.vw i v') lo la lc := by
  obtain ⟨hG, hL, hn, hk, hv, hs, he⟩ := hC
  refine ⟨xw_keep hG (xw_neC hG hGa (by decide)), xLS_up hGa (by decide) hL, ⟨hn.1, hn.2.1, by rw [List.length_set]; exact hn.2.2.1, hn.2.2.2⟩, fun j q hj => ?_, fun j u hj => ?_, fun r d hr => ?_, xEm_up hGa he⟩
  · obtain ⟨⟨b, h1, h2⟩, h3⟩ := hk j q hj
    exact ⟨⟨b, h1, xw_keep h2 (xw_neC h2 hGa (by decide))⟩, xEL_up hGa (by decide) h3⟩
  · rcases set_at hj with ⟨rfl, rfl⟩ | ⟨hji, hj⟩
    · exact ⟨a, ha, va_up_self _ _ _⟩
    · obtain ⟨b, h1, h2⟩ := hv j u hj
      exact ⟨b, h1, xw_keep h2 (fun q => hji (nodup_at hn.2.2.2 h1 (by rw [q]; exact ha)))⟩
  · obtain ⟨w, h1, h2⟩ := hs r d hr
    exact ⟨w, h1, xw_keep h2 (xw_neC h2 hGa (by decide))⟩
theorem xCB.S {E : xE} {G : xw_G} {x : Nat} {σ : CS} {lo la : Nat → Nat} {lc : Nat → List Nat} (h : xCB E G x σ lo la lc) : xCS E G x σ := ⟨lo, la, lc, h⟩
/-- the first entry with a field -/
def fstE (es : List E3) (f : Int64) : Option Nat := oEq es.length (eF es) (cnt es f 0) f
def barK (b1 : Int64) (old : Option Nat) (q : KD × List E3) : Bool := !q.1.1 && (match fstE q.2 (fK q.1 b1) with | none => false | some k => decide (¬ some (eS q.2 k) = old))
def ooB (hw : Bool) (pw f : Int64) (mo : Int32) (es : List E3) : Bool := (hw && !decide (uN pw < uN f)) || (decide (mo = 3) && (decide (0 < es.length) && !decide (uN (eF es (es.length - 1)) < uN f)))
theorem barK_db {b1 : Int64} {old : Option Nat} {q : KD × List E3} (h : ¬ bI q.1.1 = 0) : barK b1 old q = false := by
  have : q.1.1 = true := by
    cases hz : q.1.1 with
    | true => rfl
    | false => rw [hz] at h; exact absurd rfl h
  rw [barK, this]
  rfl
theorem barK_none {b1 : Int64} {old : Option Nat} {q : KD × List E3} (h : fstE q.2 (fK q.1 b1) = none) : barK b1 old q = false := by
  rw [barK, h, Bool.and_false]
theorem barK_same {b1 : Int64} {old : Option Nat} {q : KD × List E3} {k : Nat} (h : fstE q.2 (fK q.1 b1) = some k) (he : some (eS q.2 k) = old) : barK b1 old q = false := by
  rw [barK, h]
  simp [he]
theorem barK_true {b1 : Int64} {old : Option Nat} {q : KD × List E3} {k : Nat} (hd : bI q.1.1 = 0) (h : fstE q.2 (fK q.1 b1) = some k) (he : ¬ some (eS q.2 k) = old) : barK b1 old q = true := by
  rw [barK, h, (bI_0 _).mp hd]
  simp [he]
theorem fstE_lt {es : List E3} {f : Int64} {k : Nat} (h : fstE es f = some k) : k < es.length ∧ k = cnt es f 0 ∧ eF es k = f := by
  unfold fstE oEq at h
  by_cases hc : cnt es f 0 < es.length ∧ eF es (cnt es f 0) = f
  · rw [if_pos hc] at h
    cases h
    exact ⟨hc.1, rfl, hc.2⟩
  · rw [if_neg hc] at h
    cases h
theorem lt_step {α : Type} {P : α → Prop} {l : List α} {t : Nat} {q : α} (hb : ∀ (i : Nat) (q : α), i < t → l[i]? = some q → P q) (hq : l[t]? = some q) (hP : P q) : ∀ (i : Nat) (q : α), i < t + 1 → l[i]? = some q → P q := by
  intro i q' hi hq'
  rcases Nat.lt_or_ge i t with z | z
  · exact hb i q' z hq'
  · rw [show i = t by omega, hq] at hq'
    cases hq'
    exact hP
set_option maxRecDepth 100000 in
set_option maxHeartbeats 4000000 in
theorem q_KF_barred_n (l : Launch) (E : xE) {G : xw_G} {x : Nat} {σ : CS} {b1 : Int64} (h : xCS E G x σ) (ho : ∀ (i : Nat) (q : KD × List E3), (sK σ)[i]? = some q → srt q.2) : XMk l E y_KF_hasBarredDouble w_KF_hasBarredDouble rm_KF_hasBarredDouble [.ref x, .long (b1), .null] G (fun r G' => r = some (.int (bI ((sK σ).any (barK b1 (none))))) ∧ G = G') 0 0 := by
  refine XM_of [some (.ref x), some (.long (b1)), none, some (.null), none, none, none] (XZ_st E) (by decide) rfl rfl rfl (Nat.le_of_ble_eq_true rfl) (fun p e s m below meth c C hnm => ?_)
  have hlen0 := xCS_len h
  obtain ⟨lo, la, lc, hG, hL, hnn, hk, hv, hs, he⟩ := h
  have hlen : (lc 0).length = (sK σ).length := hnn.1
  obtain ⟨cap0, md0, ff0, hL0, -⟩ := hL.1 0 (by omega)
  have loop : ∀ (n t : Nat) (v5 v6 : Option Value), t + n = (sK σ).length → (∀ (i : Nat) (q : KD × List E3), i < t → (sK σ)[i]? = some q → barK b1 (none) q = false) → XW p l e rm_KF_hasBarredDouble s m #[.ref x, .long (b1), .null] below meth c (XQ below #[.ref x, .long (b1), .null] s (xD E) xcl (xB E) (fun r G' => r = some (.int (bI ((sK σ).any (barK b1 (none))))) ∧ G = G') 0 0) (xD E) xcl (xB E) 3 [some (.ref x), some (.long b1), none, some (.null), some (.int (nI t)), v5, v6] [] G 0 0 := by
    intro n
    induction n with
    | zero =>
      intro t v5 v6 hn hb
      refine x_iload C d_KF_hasBarredDouble_3 rfl ?_
      refine x_aload_n C d_KF_hasBarredDouble_5 rfl rfl ?_
      refine x_get C hG rfl (in_KF _) 0 (by decide) (List.mem_cons_of_mem _ f_KF_10) rfl d_KF_hasBarredDouble_6 ?_
      refine x_callV0 C (q_AL_sizeL l E (hL.1 0 (by omega))) (lk_KF_19 C.hts (Nat.le_of_ble_eq_true rfl) (Nat.le_of_ble_eq_true rfl)) hL0 rfl rfl d_KF_hasBarredDouble_9 (Nat.le_of_ble_eq_true rfl) (Nat.le_of_ble_eq_true rfl) (Nat.le_of_ble_eq_true rfl) (fun r G' h => ?_)
      obtain ⟨rfl, rfl⟩ := h
      rw [hlen]
      refine x_icmp_ge C 72 d_KF_hasBarredDouble_12 (by decide) (fun c_12 => ?_) (fun c_12 => ?_)
      · refine x_iconst C (v := 0) d_KF_hasBarredDouble_72 (by decide) ?_
        exact x_zret C rfl (Nat.le_of_ble_eq_true rfl) (Nat.le_of_ble_eq_true rfl) d_KF_hasBarredDouble_73 ⟨by rw [show (sK σ).any (barK b1 (none)) = false from List.any_eq_false.mpr (fun q hq => by obtain ⟨i, hi⟩ := List.getElem?_of_mem hq; rw [hb i q (by have := (List.getElem?_eq_some_iff.mp hi).1; omega) hi]; decide)]; rfl, rfl⟩
      · exact absurd (nI_le (by omega) (by omega)) c_12
    | succ n ih =>
      intro t v5 v6 hn hb
      obtain ⟨q, hq⟩ := e_lt (show t < (sK σ).length by omega)
      obtain ⟨⟨a, ha, hK⟩, hX⟩ := hk t q hq
      refine x_iload C d_KF_hasBarredDouble_3 rfl ?_
      refine x_aload_n C d_KF_hasBarredDouble_5 rfl rfl ?_
      refine x_get C hG rfl (in_KF _) 0 (by decide) (List.mem_cons_of_mem _ f_KF_10) rfl d_KF_hasBarredDouble_6 ?_
      refine x_callV0 C (q_AL_sizeL l E (hL.1 0 (by omega))) (lk_KF_19 C.hts (Nat.le_of_ble_eq_true rfl) (Nat.le_of_ble_eq_true rfl)) hL0 rfl rfl d_KF_hasBarredDouble_9 (Nat.le_of_ble_eq_true rfl) (Nat.le_of_ble_eq_true rfl) (Nat.le_of_ble_eq_true rfl) (fun r G' h => ?_)
      obtain ⟨rfl, rfl⟩ := h
      rw [hlen]
      refine x_icmp_ge C 72 d_KF_hasBarredDouble_12 (by decide) (fun c_12 => ?_) (fun c_12 => ?_)
      · exact absurd c_12 (nI_ge (by omega) (by omega))
      · refine x_aload_n C d_KF_hasBarredDouble_15 rfl rfl ?_
        refine x_get C hG rfl (in_KF _) 0 (by decide) (List.mem_cons_of_mem _ f_KF_10) rfl d_KF_hasBarredDouble_16 ?_
        refine x_iload C d_KF_hasBarredDouble_19 rfl ?_
        refine x_callV1 C (q_AL_getL l E (hL.1 0 (by omega)) ha) (lk_KF_177 C.hts (Nat.le_of_ble_eq_true rfl) (Nat.le_of_ble_eq_true rfl)) hL0 rfl rfl d_KF_hasBarredDouble_21 (Nat.le_of_ble_eq_true rfl) (Nat.le_of_ble_eq_true rfl) (Nat.le_of_ble_eq_true rfl) (fun r G' h => ?_)
        obtain ⟨rfl, rfl⟩ := h
        refine x_castS C hK rfl (List.mem_cons_of_mem _ cl_KF_27) d_KF_hasBarredDouble_24 ?_
        refine x_astore C d_KF_hasBarredDouble_27 (Nat.le_of_ble_eq_true rfl) rfl ?_
        refine x_aload C d_KF_hasBarredDouble_29 rfl ?_
        refine x_aload C d_KF_hasBarredDouble_31 rfl ?_
        refine x_lload_n C d_KF_hasBarredDouble_33 rfl rfl ?_
        refine x_callV1 C (q_KI_fieldIn l E hK) (lk_KF_195 C.hts (Nat.le_of_ble_eq_true rfl) (Nat.le_of_ble_eq_true rfl)) hK rfl rfl d_KF_hasBarredDouble_34 (Nat.le_of_ble_eq_true rfl) (Nat.le_of_ble_eq_true rfl) (Nat.le_of_ble_eq_true rfl) (fun r G' h => ?_)
        obtain ⟨rfl, rfl⟩ := h
        rcases hfs : fstE q.2 (fK q.1 b1) with _ | k
        · refine x_callV1 C (q_KI_firstEqual l E hK (hL.1 (t + 2) (by omega)) (xEL_xEs hX) (xEL_le hX _ _) (xEL_cnt hX (ho t q hq) _ _)) (lk_KF_108 C.hts (Nat.le_of_ble_eq_true rfl) (Nat.le_of_ble_eq_true rfl)) hK rfl rfl d_KF_hasBarredDouble_37 (Nat.le_of_ble_eq_true rfl) (Nat.le_of_ble_eq_true rfl) (Nat.le_of_ble_eq_true rfl) (fun r G' h => ?_)
          obtain ⟨rfl, rfl⟩ := h
          rw [show oEq (lc (t + 2)).length (eF q.2) (cnt q.2 (fK q.1 b1) 0) (fK q.1 b1) = fstE q.2 (fK q.1 b1) from by rw [fstE, hX.1], hfs]
          rw [xr_none]
          refine x_astoreN C d_KF_hasBarredDouble_40 (Nat.le_of_ble_eq_true rfl) rfl ?_
          refine x_aload C d_KF_hasBarredDouble_42 rfl ?_
          refine x_get C hK rfl (in_KI _) 0 (by decide) (List.mem_cons_of_mem _ f_KF_215) rfl d_KF_hasBarredDouble_44 ?_
          refine x_if_ne C 66 d_KF_hasBarredDouble_47 (by decide) (fun c_47 => ?_) (fun c_47 => ?_)
          · refine x_iinc C d_KF_hasBarredDouble_66 rfl rfl rfl ?_
            refine x_goto C 3 d_KF_hasBarredDouble_69 (by decide) ?_
            have e1 : nI t + Int32.ofInt 1 = nI (t + 1) := nI_1 t
            rw [e1]
            exact ih (t + 1) _ _ (by omega) (lt_step hb hq (barK_db c_47))
          · refine x_aloadN C d_KF_hasBarredDouble_50 rfl ?_
            refine x_ifnullN C 66 d_KF_hasBarredDouble_52 (by decide) ?_
            refine x_iinc C d_KF_hasBarredDouble_66 rfl rfl rfl ?_
            refine x_goto C 3 d_KF_hasBarredDouble_69 (by decide) ?_
            have e1 : nI t + Int32.ofInt 1 = nI (t + 1) := nI_1 t
            rw [e1]
            exact ih (t + 1) _ _ (by omega) (lt_step hb hq (barK_none hfs))
        · obtain ⟨hkl, -, -⟩ := fstE_lt hfs
          obtain ⟨y, hy⟩ := e_lt (show k < (lc (t + 2)).length by rw [hX.1]; exact hkl)
          have hN := xEL_xEs hX _ _ hy
          refine x_callV1 C (q_KI_firstEqual l E hK (hL.1 (t + 2) (by omega)) (xEL_xEs hX) (xEL_le hX _ _) (xEL_cnt hX (ho t q hq) _ _)) (lk_KF_108 C.hts (Nat.le_of_ble_eq_true rfl) (Nat.le_of_ble_eq_true rfl)) hK rfl rfl d_KF_hasBarredDouble_37 (Nat.le_of_ble_eq_true rfl) (Nat.le_of_ble_eq_true rfl) (Nat.le_of_ble_eq_true rfl) (fun r G' h => ?_)
          obtain ⟨rfl, rfl⟩ := h
          rw [show oEq (lc (t + 2)).length (eF q.2) (cnt q.2 (fK q.1 b1) 0) (fK q.1 b1) = fstE q.2 (fK q.1 b1) from by rw [fstE, hX.1], hfs]
          rw [xr_some hy]
          refine x_astore C d_KF_hasBarredDouble_40 (Nat.le_of_ble_eq_true rfl) rfl ?_
          refine x_aload C d_KF_hasBarredDouble_42 rfl ?_
          refine x_get C hK rfl (in_KI _) 0 (by decide) (List.mem_cons_of_mem _ f_KF_215) rfl d_KF_hasBarredDouble_44 ?_
          refine x_if_ne C 66 d_KF_hasBarredDouble_47 (by decide) (fun c_47 => ?_) (fun c_47 => ?_)
          · refine x_iinc C d_KF_hasBarredDouble_66 rfl rfl rfl ?_
            refine x_goto C 3 d_KF_hasBarredDouble_69 (by decide) ?_
            have e1 : nI t + Int32.ofInt 1 = nI (t + 1) := nI_1 t
            rw [e1]
            exact ih (t + 1) _ _ (by omega) (lt_step hb hq (barK_db c_47))
          · refine x_aload C d_KF_hasBarredDouble_50 rfl ?_
            refine x_ifnull C d_KF_hasBarredDouble_52 ?_
            refine x_aload C d_KF_hasBarredDouble_55 rfl ?_
            refine x_get C hN rfl (in_EN _) 2 (by decide) (List.mem_cons_of_mem _ f_KF_171) rfl d_KF_hasBarredDouble_57 ?_
            refine x_aload_nN C d_KF_hasBarredDouble_60 rfl rfl ?_
            refine x_acmp_eq C (rx := some (eS q.2 k)) (ry := none) 66 d_KF_hasBarredDouble_61 (by decide) (fun c_61 => ?_) (fun c_61 => ?_)
            · refine x_iinc C d_KF_hasBarredDouble_66 rfl rfl rfl ?_
              refine x_goto C 3 d_KF_hasBarredDouble_69 (by decide) ?_
              have e1 : nI t + Int32.ofInt 1 = nI (t + 1) := nI_1 t
              rw [e1]
              exact ih (t + 1) _ _ (by omega) (lt_step hb hq (barK_same hfs c_61))
            · refine x_iconst C (v := 1) d_KF_hasBarredDouble_64 (by decide) ?_
              exact x_zret C rfl (Nat.le_of_ble_eq_true rfl) (Nat.le_of_ble_eq_true rfl) d_KF_hasBarredDouble_65 ⟨by rw [show (sK σ).any (barK b1 (none)) = true from List.any_eq_true.mpr ⟨q, List.mem_of_getElem? hq, barK_true c_47 hfs c_61⟩]; rfl, rfl⟩
  refine x_iconst C (v := 0) d_KF_hasBarredDouble_0 (by decide) ?_
  refine x_istore C d_KF_hasBarredDouble_1 (Nat.le_of_ble_eq_true rfl) rfl ?_
  rw [← nI_0]
  exact loop (sK σ).length 0 _ _ (by omega) (fun i q hi => absurd hi (by omega))
set_option maxRecDepth 100000 in
set_option maxHeartbeats 4000000 in
theorem q_KF_barred_s (l : Launch) (E : xE) {G : xw_G} {x s1 : Nat} {σ : CS} {b1 : Int64} (h : xCS E G x σ) (ho : ∀ (i : Nat) (q : KD × List E3), (sK σ)[i]? = some q → srt q.2) : XMk l E y_KF_hasBarredDouble w_KF_hasBarredDouble rm_KF_hasBarredDouble [.ref x, .long (b1), .ref s1] G (fun r G' => r = some (.int (bI ((sK σ).any (barK b1 (some s1))))) ∧ G = G') 0 0 := by
  refine XM_of [some (.ref x), some (.long (b1)), none, some (.ref s1), none, none, none] (XZ_st E) (by decide) rfl rfl rfl (Nat.le_of_ble_eq_true rfl) (fun p e s m below meth c C hnm => ?_)
  have hlen0 := xCS_len h
  obtain ⟨lo, la, lc, hG, hL, hnn, hk, hv, hs, he⟩ := h
  have hlen : (lc 0).length = (sK σ).length := hnn.1
  obtain ⟨cap0, md0, ff0, hL0, -⟩ := hL.1 0 (by omega)
  have loop : ∀ (n t : Nat) (v5 v6 : Option Value), t + n = (sK σ).length → (∀ (i : Nat) (q : KD × List E3), i < t → (sK σ)[i]? = some q → barK b1 (some s1) q = false) → XW p l e rm_KF_hasBarredDouble s m #[.ref x, .long (b1), .ref s1] below meth c (XQ below #[.ref x, .long (b1), .ref s1] s (xD E) xcl (xB E) (fun r G' => r = some (.int (bI ((sK σ).any (barK b1 (some s1))))) ∧ G = G') 0 0) (xD E) xcl (xB E) 3 [some (.ref x), some (.long b1), none, some (.ref s1), some (.int (nI t)), v5, v6] [] G 0 0 := by
    intro n
    induction n with
    | zero =>
      intro t v5 v6 hn hb
      refine x_iload C d_KF_hasBarredDouble_3 rfl ?_
      refine x_aload_n C d_KF_hasBarredDouble_5 rfl rfl ?_
      refine x_get C hG rfl (in_KF _) 0 (by decide) (List.mem_cons_of_mem _ f_KF_10) rfl d_KF_hasBarredDouble_6 ?_
      refine x_callV0 C (q_AL_sizeL l E (hL.1 0 (by omega))) (lk_KF_19 C.hts (Nat.le_of_ble_eq_true rfl) (Nat.le_of_ble_eq_true rfl)) hL0 rfl rfl d_KF_hasBarredDouble_9 (Nat.le_of_ble_eq_true rfl) (Nat.le_of_ble_eq_true rfl) (Nat.le_of_ble_eq_true rfl) (fun r G' h => ?_)
      obtain ⟨rfl, rfl⟩ := h
      rw [hlen]
      refine x_icmp_ge C 72 d_KF_hasBarredDouble_12 (by decide) (fun c_12 => ?_) (fun c_12 => ?_)
      · refine x_iconst C (v := 0) d_KF_hasBarredDouble_72 (by decide) ?_
        exact x_zret C rfl (Nat.le_of_ble_eq_true rfl) (Nat.le_of_ble_eq_true rfl) d_KF_hasBarredDouble_73 ⟨by rw [show (sK σ).any (barK b1 (some s1)) = false from List.any_eq_false.mpr (fun q hq => by obtain ⟨i, hi⟩ := List.getElem?_of_mem hq; rw [hb i q (by have := (List.getElem?_eq_some_iff.mp hi).1; omega) hi]; decide)]; rfl, rfl⟩
      · exact absurd (nI_le (by omega) (by omega)) c_12
    | succ n ih =>
      intro t v5 v6 hn hb
      obtain ⟨q, hq⟩ := e_lt (show t < (sK σ).length by omega)
      obtain ⟨⟨a, ha, hK⟩, hX⟩ := hk t q hq
      refine x_iload C d_KF_hasBarredDouble_3 rfl ?_
      refine x_aload_n C d_KF_hasBarredDouble_5 rfl rfl ?_
      refine x_get C hG rfl (in_KF _) 0 (by decide) (List.mem_cons_of_mem _ f_KF_10) rfl d_KF_hasBarredDouble_6 ?_
      refine x_callV0 C (q_AL_sizeL l E (hL.1 0 (by omega))) (lk_KF_19 C.hts (Nat.le_of_ble_eq_true rfl) (Nat.le_of_ble_eq_true rfl)) hL0 rfl rfl d_KF_hasBarredDouble_9 (Nat.le_of_ble_eq_true rfl) (Nat.le_of_ble_eq_true rfl) (Nat.le_of_ble_eq_true rfl) (fun r G' h => ?_)
      obtain ⟨rfl, rfl⟩ := h
      rw [hlen]
      refine x_icmp_ge C 72 d_KF_hasBarredDouble_12 (by decide) (fun c_12 => ?_) (fun c_12 => ?_)
      · exact absurd c_12 (nI_ge (by omega) (by omega))
      · refine x_aload_n C d_KF_hasBarredDouble_15 rfl rfl ?_
        refine x_get C hG rfl (in_KF _) 0 (by decide) (List.mem_cons_of_mem _ f_KF_10) rfl d_KF_hasBarredDouble_16 ?_
        refine x_iload C d_KF_hasBarredDouble_19 rfl ?_
        refine x_callV1 C (q_AL_getL l E (hL.1 0 (by omega)) ha) (lk_KF_177 C.hts (Nat.le_of_ble_eq_true rfl) (Nat.le_of_ble_eq_true rfl)) hL0 rfl rfl d_KF_hasBarredDouble_21 (Nat.le_of_ble_eq_true rfl) (Nat.le_of_ble_eq_true rfl) (Nat.le_of_ble_eq_true rfl) (fun r G' h => ?_)
        obtain ⟨rfl, rfl⟩ := h
        refine x_castS C hK rfl (List.mem_cons_of_mem _ cl_KF_27) d_KF_hasBarredDouble_24 ?_
        refine x_astore C d_KF_hasBarredDouble_27 (Nat.le_of_ble_eq_true rfl) rfl ?_
        refine x_aload C d_KF_hasBarredDouble_29 rfl ?_
        refine x_aload C d_KF_hasBarredDouble_31 rfl ?_
        refine x_lload_n C d_KF_hasBarredDouble_33 rfl rfl ?_
        refine x_callV1 C (q_KI_fieldIn l E hK) (lk_KF_195 C.hts (Nat.le_of_ble_eq_true rfl) (Nat.le_of_ble_eq_true rfl)) hK rfl rfl d_KF_hasBarredDouble_34 (Nat.le_of_ble_eq_true rfl) (Nat.le_of_ble_eq_true rfl) (Nat.le_of_ble_eq_true rfl) (fun r G' h => ?_)
        obtain ⟨rfl, rfl⟩ := h
        rcases hfs : fstE q.2 (fK q.1 b1) with _ | k
        · refine x_callV1 C (q_KI_firstEqual l E hK (hL.1 (t + 2) (by omega)) (xEL_xEs hX) (xEL_le hX _ _) (xEL_cnt hX (ho t q hq) _ _)) (lk_KF_108 C.hts (Nat.le_of_ble_eq_true rfl) (Nat.le_of_ble_eq_true rfl)) hK rfl rfl d_KF_hasBarredDouble_37 (Nat.le_of_ble_eq_true rfl) (Nat.le_of_ble_eq_true rfl) (Nat.le_of_ble_eq_true rfl) (fun r G' h => ?_)
          obtain ⟨rfl, rfl⟩ := h
          rw [show oEq (lc (t + 2)).length (eF q.2) (cnt q.2 (fK q.1 b1) 0) (fK q.1 b1) = fstE q.2 (fK q.1 b1) from by rw [fstE, hX.1], hfs]
          rw [xr_none]
          refine x_astoreN C d_KF_hasBarredDouble_40 (Nat.le_of_ble_eq_true rfl) rfl ?_
          refine x_aload C d_KF_hasBarredDouble_42 rfl ?_
          refine x_get C hK rfl (in_KI _) 0 (by decide) (List.mem_cons_of_mem _ f_KF_215) rfl d_KF_hasBarredDouble_44 ?_
          refine x_if_ne C 66 d_KF_hasBarredDouble_47 (by decide) (fun c_47 => ?_) (fun c_47 => ?_)
          · refine x_iinc C d_KF_hasBarredDouble_66 rfl rfl rfl ?_
            refine x_goto C 3 d_KF_hasBarredDouble_69 (by decide) ?_
            have e1 : nI t + Int32.ofInt 1 = nI (t + 1) := nI_1 t
            rw [e1]
            exact ih (t + 1) _ _ (by omega) (lt_step hb hq (barK_db c_47))
          · refine x_aloadN C d_KF_hasBarredDouble_50 rfl ?_
            refine x_ifnullN C 66 d_KF_hasBarredDouble_52 (by decide) ?_
            refine x_iinc C d_KF_hasBarredDouble_66 rfl rfl rfl ?_
            refine x_goto C 3 d_KF_hasBarredDouble_69 (by decide) ?_
            have e1 : nI t + Int32.ofInt 1 = nI (t + 1) := nI_1 t
            rw [e1]
            exact ih (t + 1) _ _ (by omega) (lt_step hb hq (barK_none hfs))
        · obtain ⟨hkl, -, -⟩ := fstE_lt hfs
          obtain ⟨y, hy⟩ := e_lt (show k < (lc (t + 2)).length by rw [hX.1]; exact hkl)
          have hN := xEL_xEs hX _ _ hy
          refine x_callV1 C (q_KI_firstEqual l E hK (hL.1 (t + 2) (by omega)) (xEL_xEs hX) (xEL_le hX _ _) (xEL_cnt hX (ho t q hq) _ _)) (lk_KF_108 C.hts (Nat.le_of_ble_eq_true rfl) (Nat.le_of_ble_eq_true rfl)) hK rfl rfl d_KF_hasBarredDouble_37 (Nat.le_of_ble_eq_true rfl) (Nat.le_of_ble_eq_true rfl) (Nat.le_of_ble_eq_true rfl) (fun r G' h => ?_)
          obtain ⟨rfl, rfl⟩ := h
          rw [show oEq (lc (t + 2)).length (eF q.2) (cnt q.2 (fK q.1 b1) 0) (fK q.1 b1) = fstE q.2 (fK q.1 b1) from by rw [fstE, hX.1], hfs]
          rw [xr_some hy]
          refine x_astore C d_KF_hasBarredDouble_40 (Nat.le_of_ble_eq_true rfl) rfl ?_
          refine x_aload C d_KF_hasBarredDouble_42 rfl ?_
          refine x_get C hK rfl (in_KI _) 0 (by decide) (List.mem_cons_of_mem _ f_KF_215) rfl d_KF_hasBarredDouble_44 ?_
          refine x_if_ne C 66 d_KF_hasBarredDouble_47 (by decide) (fun c_47 => ?_) (fun c_47 => ?_)
          · refine x_iinc C d_KF_hasBarredDouble_66 rfl rfl rfl ?_
            refine x_goto C 3 d_KF_hasBarredDouble_69 (by decide) ?_
            have e1 : nI t + Int32.ofInt 1 = nI (t + 1) := nI_1 t
            rw [e1]
            exact ih (t + 1) _ _ (by omega) (lt_step hb hq (barK_db c_47))
          · refine x_aload C d_KF_hasBarredDouble_50 rfl ?_
            refine x_ifnull C d_KF_hasBarredDouble_52 ?_
            refine x_aload C d_KF_hasBarredDouble_55 rfl ?_
            refine x_get C hN rfl (in_EN _) 2 (by decide) (List.mem_cons_of_mem _ f_KF_171) rfl d_KF_hasBarredDouble_57 ?_
            refine x_aload_n C d_KF_hasBarredDouble_60 rfl rfl ?_
            refine x_acmp_eq C (rx := some (eS q.2 k)) (ry := some s1) 66 d_KF_hasBarredDouble_61 (by decide) (fun c_61 => ?_) (fun c_61 => ?_)
            · refine x_iinc C d_KF_hasBarredDouble_66 rfl rfl rfl ?_
              refine x_goto C 3 d_KF_hasBarredDouble_69 (by decide) ?_
              have e1 : nI t + Int32.ofInt 1 = nI (t + 1) := nI_1 t
              rw [e1]
              exact ih (t + 1) _ _ (by omega) (lt_step hb hq (barK_same hfs c_61))
            · refine x_iconst C (v := 1) d_KF_hasBarredDouble_64 (by decide) ?_
              exact x_zret C rfl (Nat.le_of_ble_eq_true rfl) (Nat.le_of_ble_eq_true rfl) d_KF_hasBarredDouble_65 ⟨by rw [show (sK σ).any (barK b1 (some s1)) = true from List.any_eq_true.mpr ⟨q, List.mem_of_getElem? hq, barK_true c_47 hfs c_61⟩]; rfl, rfl⟩
  refine x_iconst C (v := 0) d_KF_hasBarredDouble_0 (by decide) ?_
  refine x_istore C d_KF_hasBarredDouble_1 (Nat.le_of_ble_eq_true rfl) rfl ?_
  rw [← nI_0]
  exact loop (sK σ).length 0 _ _ (by omega) (fun i q hi => absurd hi (by omega))
set_option maxRecDepth 100000 in
set_option maxHeartbeats 4000000 in
theorem q_KF_isOutOfOrder (l : Launch) (E : xE) {G : xw_G} {x va ki : Nat} {σ : CS} {lo la : Nat → Nat} {lc : Nat → List Nat} {v : VD} {q : KD × List E3} {b1 : Int64} (hC : xCB E G x σ lo la lc) (hV : G va = some (cVW v)) (hq : (sK σ)[0]? = some q) (hki : (lc 0)[0]? = some ki) (hK : G ki = some (cKI q.1 (lo 2))) : XMk l E y_KF_isOutOfOrder w_KF_isOutOfOrder rm_KF_isOutOfOrder [.ref x, .ref va, .long (b1)] G (fun r G' => r = some (.int (bI (ooB (v.2.2.2.2.2.2.2.2.2.2.1) (v.2.2.2.2.2.2.2.2.2.2.2) (fK q.1 b1) (v.2.1) q.2))) ∧ G = G') 0 0 := by
  refine XM_of [some (.ref x), some (.ref va), some (.long (b1)), none, none, none, none, none] (XZ_st E) (by decide) rfl rfl rfl (Nat.le_of_ble_eq_true rfl) (fun p e s m below meth c C hnm => ?_)
  obtain ⟨hG, hL, hnn, hk, hv, hs, he⟩ := id hC
  have hl := (List.getElem?_eq_some_iff.mp hq).1
  have hX := (hk 0 q hq).2
  obtain ⟨cap2, md2, ff2, hL2, -⟩ := hL.1 2 (by omega)
  have hxl := hX.1
  have hle := xAL_len (hL.1 2 (by omega))
  refine x_aload_n C d_KF_isOutOfOrder_0 rfl rfl ?_
  refine x_iconst C (v := 0) d_KF_isOutOfOrder_1 (by decide) ?_
  refine x_lload_n C d_KF_isOutOfOrder_2 rfl rfl ?_
  refine x_callV2 C (q_KF_fieldOf_in l E (i := 0) hG (hL.1 0 (by omega)) hK hki) (lk_KF_87 C.hts (Nat.le_of_ble_eq_true rfl) (Nat.le_of_ble_eq_true rfl)) hG rfl rfl d_KF_isOutOfOrder_3 (Nat.le_of_ble_eq_true rfl) (Nat.le_of_ble_eq_true rfl) (Nat.le_of_ble_eq_true rfl) (fun r G' h => ?_)
  obtain ⟨rfl, rfl⟩ := h
  refine x_lstore C d_KF_isOutOfOrder_6 (Nat.le_of_ble_eq_true rfl) rfl ?_
  refine x_aload_n C d_KF_isOutOfOrder_8 rfl rfl ?_
  refine x_get C hV rfl (in_VW _) 10 (by decide) (List.mem_cons_of_mem _ f_KF_199) rfl d_KF_isOutOfOrder_9 ?_
  refine x_if_eq C 29 d_KF_isOutOfOrder_12 (by decide) (fun c_12 => ?_) (fun c_12 => ?_)
  · refine x_aload_n C d_KF_isOutOfOrder_29 rfl rfl ?_
    refine x_iconst C (v := 0) d_KF_isOutOfOrder_30 (by decide) ?_
    refine x_callV1 C (q_KF_indexAt_in l E (i := 0) hG (hL.1 0 (by omega)) hki hK) (lk_KF_36 C.hts (Nat.le_of_ble_eq_true rfl) (Nat.le_of_ble_eq_true rfl)) hG rfl rfl d_KF_isOutOfOrder_31 (Nat.le_of_ble_eq_true rfl) (Nat.le_of_ble_eq_true rfl) (Nat.le_of_ble_eq_true rfl) (fun r G' h => ?_)
    obtain ⟨rfl, rfl⟩ := h
    refine x_astore C d_KF_isOutOfOrder_34 (Nat.le_of_ble_eq_true rfl) rfl ?_
    refine x_aload C d_KF_isOutOfOrder_36 rfl ?_
    refine x_ifnonnull C 45 d_KF_isOutOfOrder_38 (by decide) ?_
    refine x_aload C d_KF_isOutOfOrder_45 rfl ?_
    refine x_aload C d_KF_isOutOfOrder_47 rfl ?_
    refine x_get C hK rfl (in_KI _) 3 (by decide) (List.mem_cons_of_mem _ f_KF_188) rfl d_KF_isOutOfOrder_49 ?_
    refine x_callV0 C (q_AL_sizeL l E (hL.1 2 (by omega))) (lk_KF_19 C.hts (Nat.le_of_ble_eq_true rfl) (Nat.le_of_ble_eq_true rfl)) hL2 rfl rfl d_KF_isOutOfOrder_52 (Nat.le_of_ble_eq_true rfl) (Nat.le_of_ble_eq_true rfl) (Nat.le_of_ble_eq_true rfl) (fun r G' h => ?_)
    obtain ⟨rfl, rfl⟩ := h
    refine x_iconst C (v := 1) d_KF_isOutOfOrder_55 (by decide) ?_
    refine x_isub C d_KF_isOutOfOrder_56 ?_
    by_cases hn0 : (lc 2).length = 0
    · have hm1 : nI (lc 2).length - 1 < 0 := by rw [hn0]; decide
      refine x_callV1 C (q_KI_entryAt_out l E hK (hL.1 2 (by omega)) (Or.inl hm1)) (lk_KF_167 C.hts (Nat.le_of_ble_eq_true rfl) (Nat.le_of_ble_eq_true rfl)) hK rfl rfl d_KF_isOutOfOrder_57 (Nat.le_of_ble_eq_true rfl) (Nat.le_of_ble_eq_true rfl) (Nat.le_of_ble_eq_true rfl) (fun r G' h => ?_)
      obtain ⟨rfl, rfl⟩ := h
      refine x_astoreN C d_KF_isOutOfOrder_60 (Nat.le_of_ble_eq_true rfl) rfl ?_
      refine x_aload_n C d_KF_isOutOfOrder_62 rfl rfl ?_
      refine x_get C hV rfl (in_VW _) 1 (by decide) (List.mem_cons_of_mem _ f_KF_209) rfl d_KF_isOutOfOrder_63 ?_
      refine x_iconst C (v := 3) d_KF_isOutOfOrder_66 (by decide) ?_
      refine x_icmp_ne C 92 d_KF_isOutOfOrder_67 (by decide) (fun c_67 => ?_) (fun c_67 => ?_)
      · refine x_iconst C (v := 0) d_KF_isOutOfOrder_92 (by decide) ?_
        exact x_zret C rfl (Nat.le_of_ble_eq_true rfl) (Nat.le_of_ble_eq_true rfl) d_KF_isOutOfOrder_93 ⟨congrArg some (congrArg Value.int (by clear hk hv hs hX hL; simp_all [ooB, bI_0, bI, Nat.pos_iff_ne_zero])), rfl⟩
      · refine x_aloadN C d_KF_isOutOfOrder_70 rfl ?_
        refine x_ifnullN C 92 d_KF_isOutOfOrder_72 (by decide) ?_
        refine x_iconst C (v := 0) d_KF_isOutOfOrder_92 (by decide) ?_
        exact x_zret C rfl (Nat.le_of_ble_eq_true rfl) (Nat.le_of_ble_eq_true rfl) d_KF_isOutOfOrder_93 ⟨congrArg some (congrArg Value.int (by clear hk hv hs hX hL; simp_all [ooB, bI_0, bI, Nat.pos_iff_ne_zero])), rfl⟩
    · rw [al_pred (show 0 < (lc 2).length by omega)]
      obtain ⟨y, hy⟩ := al_get (show (lc 2).length - 1 < (lc 2).length by omega)
      have hN := xEL_xEs hX _ _ hy
      refine x_callV1 C (q_KI_entryAt_in l E hK (hL.1 2 (by omega)) hy hN) (lk_KF_167 C.hts (Nat.le_of_ble_eq_true rfl) (Nat.le_of_ble_eq_true rfl)) hK rfl rfl d_KF_isOutOfOrder_57 (Nat.le_of_ble_eq_true rfl) (Nat.le_of_ble_eq_true rfl) (Nat.le_of_ble_eq_true rfl) (fun r G' h => ?_)
      obtain ⟨rfl, rfl⟩ := h
      refine x_astore C d_KF_isOutOfOrder_60 (Nat.le_of_ble_eq_true rfl) rfl ?_
      refine x_aload_n C d_KF_isOutOfOrder_62 rfl rfl ?_
      refine x_get C hV rfl (in_VW _) 1 (by decide) (List.mem_cons_of_mem _ f_KF_209) rfl d_KF_isOutOfOrder_63 ?_
      refine x_iconst C (v := 3) d_KF_isOutOfOrder_66 (by decide) ?_
      refine x_icmp_ne C 92 d_KF_isOutOfOrder_67 (by decide) (fun c_67 => ?_) (fun c_67 => ?_)
      · refine x_iconst C (v := 0) d_KF_isOutOfOrder_92 (by decide) ?_
        exact x_zret C rfl (Nat.le_of_ble_eq_true rfl) (Nat.le_of_ble_eq_true rfl) d_KF_isOutOfOrder_93 ⟨congrArg some (congrArg Value.int (by clear hk hv hs hX hL; simp_all [ooB, bI_0, bI, Nat.pos_iff_ne_zero])), rfl⟩
      · refine x_aload C d_KF_isOutOfOrder_70 rfl ?_
        refine x_ifnull C d_KF_isOutOfOrder_72 ?_
        refine x_aload C d_KF_isOutOfOrder_75 rfl ?_
        refine x_get C hN rfl (in_EN _) 0 (by decide) (List.mem_cons_of_mem _ f_KF_212) rfl d_KF_isOutOfOrder_77 ?_
        refine x_lload C d_KF_isOutOfOrder_80 rfl ?_
        refine x_callS2 C (q_KF_isBelow l E (G := G)) (lk_KF_205 C.hts (Nat.le_of_ble_eq_true rfl) (Nat.le_of_ble_eq_true rfl)) rfl d_KF_isOutOfOrder_82 (Nat.le_of_ble_eq_true rfl) (Nat.le_of_ble_eq_true rfl) (Nat.le_of_ble_eq_true rfl) (fun r G' h => ?_)
        obtain ⟨rfl, rfl⟩ := h
        refine x_if_ne C 92 d_KF_isOutOfOrder_85 (by decide) (fun c_85 => ?_) (fun c_85 => ?_)
        · refine x_iconst C (v := 0) d_KF_isOutOfOrder_92 (by decide) ?_
          exact x_zret C rfl (Nat.le_of_ble_eq_true rfl) (Nat.le_of_ble_eq_true rfl) d_KF_isOutOfOrder_93 ⟨congrArg some (congrArg Value.int (by clear hk hv hs hX hL; simp_all [ooB, bI_0, bI, Nat.pos_iff_ne_zero])), rfl⟩
        · refine x_iconst C (v := 1) d_KF_isOutOfOrder_88 (by decide) ?_
          refine x_goto C 93 d_KF_isOutOfOrder_89 (by decide) ?_
          exact x_zret C rfl (Nat.le_of_ble_eq_true rfl) (Nat.le_of_ble_eq_true rfl) d_KF_isOutOfOrder_93 ⟨congrArg some (congrArg Value.int (by clear hk hv hs hX hL; simp_all [ooB, bI_0, bI, Nat.pos_iff_ne_zero])), rfl⟩
  · refine x_aload_n C d_KF_isOutOfOrder_15 rfl rfl ?_
    refine x_get C hV rfl (in_VW _) 11 (by decide) (List.mem_cons_of_mem _ f_KF_202) rfl d_KF_isOutOfOrder_16 ?_
    refine x_lload C d_KF_isOutOfOrder_19 rfl ?_
    refine x_callS2 C (q_KF_isBelow l E (G := G)) (lk_KF_205 C.hts (Nat.le_of_ble_eq_true rfl) (Nat.le_of_ble_eq_true rfl)) rfl d_KF_isOutOfOrder_21 (Nat.le_of_ble_eq_true rfl) (Nat.le_of_ble_eq_true rfl) (Nat.le_of_ble_eq_true rfl) (fun r G' h => ?_)
    obtain ⟨rfl, rfl⟩ := h
    refine x_if_ne C 29 d_KF_isOutOfOrder_24 (by decide) (fun c_24 => ?_) (fun c_24 => ?_)
    · refine x_aload_n C d_KF_isOutOfOrder_29 rfl rfl ?_
      refine x_iconst C (v := 0) d_KF_isOutOfOrder_30 (by decide) ?_
      refine x_callV1 C (q_KF_indexAt_in l E (i := 0) hG (hL.1 0 (by omega)) hki hK) (lk_KF_36 C.hts (Nat.le_of_ble_eq_true rfl) (Nat.le_of_ble_eq_true rfl)) hG rfl rfl d_KF_isOutOfOrder_31 (Nat.le_of_ble_eq_true rfl) (Nat.le_of_ble_eq_true rfl) (Nat.le_of_ble_eq_true rfl) (fun r G' h => ?_)
      obtain ⟨rfl, rfl⟩ := h
      refine x_astore C d_KF_isOutOfOrder_34 (Nat.le_of_ble_eq_true rfl) rfl ?_
      refine x_aload C d_KF_isOutOfOrder_36 rfl ?_
      refine x_ifnonnull C 45 d_KF_isOutOfOrder_38 (by decide) ?_
      refine x_aload C d_KF_isOutOfOrder_45 rfl ?_
      refine x_aload C d_KF_isOutOfOrder_47 rfl ?_
      refine x_get C hK rfl (in_KI _) 3 (by decide) (List.mem_cons_of_mem _ f_KF_188) rfl d_KF_isOutOfOrder_49 ?_
      refine x_callV0 C (q_AL_sizeL l E (hL.1 2 (by omega))) (lk_KF_19 C.hts (Nat.le_of_ble_eq_true rfl) (Nat.le_of_ble_eq_true rfl)) hL2 rfl rfl d_KF_isOutOfOrder_52 (Nat.le_of_ble_eq_true rfl) (Nat.le_of_ble_eq_true rfl) (Nat.le_of_ble_eq_true rfl) (fun r G' h => ?_)
      obtain ⟨rfl, rfl⟩ := h
      refine x_iconst C (v := 1) d_KF_isOutOfOrder_55 (by decide) ?_
      refine x_isub C d_KF_isOutOfOrder_56 ?_
      by_cases hn0 : (lc 2).length = 0
      · have hm1 : nI (lc 2).length - 1 < 0 := by rw [hn0]; decide
        refine x_callV1 C (q_KI_entryAt_out l E hK (hL.1 2 (by omega)) (Or.inl hm1)) (lk_KF_167 C.hts (Nat.le_of_ble_eq_true rfl) (Nat.le_of_ble_eq_true rfl)) hK rfl rfl d_KF_isOutOfOrder_57 (Nat.le_of_ble_eq_true rfl) (Nat.le_of_ble_eq_true rfl) (Nat.le_of_ble_eq_true rfl) (fun r G' h => ?_)
        obtain ⟨rfl, rfl⟩ := h
        refine x_astoreN C d_KF_isOutOfOrder_60 (Nat.le_of_ble_eq_true rfl) rfl ?_
        refine x_aload_n C d_KF_isOutOfOrder_62 rfl rfl ?_
        refine x_get C hV rfl (in_VW _) 1 (by decide) (List.mem_cons_of_mem _ f_KF_209) rfl d_KF_isOutOfOrder_63 ?_
        refine x_iconst C (v := 3) d_KF_isOutOfOrder_66 (by decide) ?_
        refine x_icmp_ne C 92 d_KF_isOutOfOrder_67 (by decide) (fun c_67 => ?_) (fun c_67 => ?_)
        · refine x_iconst C (v := 0) d_KF_isOutOfOrder_92 (by decide) ?_
          exact x_zret C rfl (Nat.le_of_ble_eq_true rfl) (Nat.le_of_ble_eq_true rfl) d_KF_isOutOfOrder_93 ⟨congrArg some (congrArg Value.int (by clear hk hv hs hX hL; simp_all [ooB, bI_0, bI, Nat.pos_iff_ne_zero])), rfl⟩
        · refine x_aloadN C d_KF_isOutOfOrder_70 rfl ?_
          refine x_ifnullN C 92 d_KF_isOutOfOrder_72 (by decide) ?_
          refine x_iconst C (v := 0) d_KF_isOutOfOrder_92 (by decide) ?_
          exact x_zret C rfl (Nat.le_of_ble_eq_true rfl) (Nat.le_of_ble_eq_true rfl) d_KF_isOutOfOrder_93 ⟨congrArg some (congrArg Value.int (by clear hk hv hs hX hL; simp_all [ooB, bI_0, bI, Nat.pos_iff_ne_zero])), rfl⟩
      · rw [al_pred (show 0 < (lc 2).length by omega)]
        obtain ⟨y, hy⟩ := al_get (show (lc 2).length - 1 < (lc 2).length by omega)
        have hN := xEL_xEs hX _ _ hy
        refine x_callV1 C (q_KI_entryAt_in l E hK (hL.1 2 (by omega)) hy hN) (lk_KF_167 C.hts (Nat.le_of_ble_eq_true rfl) (Nat.le_of_ble_eq_true rfl)) hK rfl rfl d_KF_isOutOfOrder_57 (Nat.le_of_ble_eq_true rfl) (Nat.le_of_ble_eq_true rfl) (Nat.le_of_ble_eq_true rfl) (fun r G' h => ?_)
        obtain ⟨rfl, rfl⟩ := h
        refine x_astore C d_KF_isOutOfOrder_60 (Nat.le_of_ble_eq_true rfl) rfl ?_
        refine x_aload_n C d_KF_isOutOfOrder_62 rfl rfl ?_
        refine x_get C hV rfl (in_VW _) 1 (by decide) (List.mem_cons_of_mem _ f_KF_209) rfl d_KF_isOutOfOrder_63 ?_
        refine x_iconst C (v := 3) d_KF_isOutOfOrder_66 (by decide) ?_
        refine x_icmp_ne C 92 d_KF_isOutOfOrder_67 (by decide) (fun c_67 => ?_) (fun c_67 => ?_)
        · refine x_iconst C (v := 0) d_KF_isOutOfOrder_92 (by decide) ?_
          exact x_zret C rfl (Nat.le_of_ble_eq_true rfl) (Nat.le_of_ble_eq_true rfl) d_KF_isOutOfOrder_93 ⟨congrArg some (congrArg Value.int (by clear hk hv hs hX hL; simp_all [ooB, bI_0, bI, Nat.pos_iff_ne_zero])), rfl⟩
        · refine x_aload C d_KF_isOutOfOrder_70 rfl ?_
          refine x_ifnull C d_KF_isOutOfOrder_72 ?_
          refine x_aload C d_KF_isOutOfOrder_75 rfl ?_
          refine x_get C hN rfl (in_EN _) 0 (by decide) (List.mem_cons_of_mem _ f_KF_212) rfl d_KF_isOutOfOrder_77 ?_
          refine x_lload C d_KF_isOutOfOrder_80 rfl ?_
          refine x_callS2 C (q_KF_isBelow l E (G := G)) (lk_KF_205 C.hts (Nat.le_of_ble_eq_true rfl) (Nat.le_of_ble_eq_true rfl)) rfl d_KF_isOutOfOrder_82 (Nat.le_of_ble_eq_true rfl) (Nat.le_of_ble_eq_true rfl) (Nat.le_of_ble_eq_true rfl) (fun r G' h => ?_)
          obtain ⟨rfl, rfl⟩ := h
          refine x_if_ne C 92 d_KF_isOutOfOrder_85 (by decide) (fun c_85 => ?_) (fun c_85 => ?_)
          · refine x_iconst C (v := 0) d_KF_isOutOfOrder_92 (by decide) ?_
            exact x_zret C rfl (Nat.le_of_ble_eq_true rfl) (Nat.le_of_ble_eq_true rfl) d_KF_isOutOfOrder_93 ⟨congrArg some (congrArg Value.int (by clear hk hv hs hX hL; simp_all [ooB, bI_0, bI, Nat.pos_iff_ne_zero])), rfl⟩
          · refine x_iconst C (v := 1) d_KF_isOutOfOrder_88 (by decide) ?_
            refine x_goto C 93 d_KF_isOutOfOrder_89 (by decide) ?_
            exact x_zret C rfl (Nat.le_of_ble_eq_true rfl) (Nat.le_of_ble_eq_true rfl) d_KF_isOutOfOrder_93 ⟨congrArg some (congrArg Value.int (by clear hk hv hs hX hL; simp_all [ooB, bI_0, bI, Nat.pos_iff_ne_zero])), rfl⟩
    · refine x_iconst C (v := 1) d_KF_isOutOfOrder_27 (by decide) ?_
      exact x_zret C rfl (Nat.le_of_ble_eq_true rfl) (Nat.le_of_ble_eq_true rfl) d_KF_isOutOfOrder_28 ⟨congrArg some (congrArg Value.int (by clear hk hv hs hX hL; simp_all [ooB, bI_0, bI, Nat.pos_iff_ne_zero])), rfl⟩
