def bD (D : Nat → Option (Int64 × Bool)) (r : Nat) : Int64 := match D r with
  | some d => d.1
  | none => 0
theorem bD_at {D : Nat → Option (Int64 × Bool)} {r : Nat} {d : Int64 × Bool} (h : D r = some d) : bD D r = d.1 := by unfold bD; rw [h]
/-- how many of the prime key's records have an entry under kd -/
def dueN (kd : KD) (D : Nat → Option (Int64 × Bool)) (es : List E3) : Nat → Nat
  | 0 => 0
  | t + 1 => dueN kd D es t + (match es[t]? with | some e => if lft kd (fK kd (bD D e.2.2)) = true then 0 else 1 | none => 0)
theorem dueN_s {kd : KD} {D : Nat → Option (Int64 × Bool)} {es : List E3} {t : Nat} {e : E3} (h : es[t]? = some e) : dueN kd D es (t + 1) = dueN kd D es t + (if lft kd (fK kd (bD D e.2.2)) = true then 0 else 1) := by
  show dueN kd D es t + _ = _
  rw [h]
theorem dueN_le {kd : KD} {D : Nat → Option (Int64 × Bool)} {es : List E3} : ∀ t : Nat, dueN kd D es t ≤ t
  | 0 => Nat.le_refl _
  | t + 1 => by
    have := dueN_le (kd := kd) (D := D) (es := es) t
    show dueN kd D es t + _ ≤ _
    cases es[t]? with
    | none => simp; omega
    | some e => simp only; split <;> omega
/-- a key's entries are right: in order, each of a record that is there, with its field, not left out; each record once; no doubles where barred -/
def eOK (kd : KD) (es : List E3) (D : Nat → Option (Int64 × Bool)) : Prop := srt es ∧ (∀ e ∈ es, ∃ b : Int64, D e.2.2 = some (b, true) ∧ e.1 = fK kd b ∧ lft kd e.1 = false) ∧ (kd.1 = false → ∀ (i j : Nat) (a b : E3), i < j → es[i]? = some a → es[j]? = some b → ¬ a.1 = b.1) ∧ ∀ (i j : Nat) (a b : E3), es[i]? = some a → es[j]? = some b → a.2.2 = b.2.2 → i = j
def prv (xs : List Nat) (i : Nat) : Value := if i = 0 then .null else va_rf (xs[i - 1]?)
theorem prv_0 {xs : List Nat} : prv xs 0 = .null := rfl
theorem prv_s {xs : List Nat} {i y : Nat} (hi : ¬ i = 0) (h : xs[i - 1]? = some y) : prv xs i = .ref y := by
  rw [prv, if_neg hi, h]
  rfl
theorem xCB_st {E : xE} {G : xw_G} {x r0 w0 : Nat} {σ : CS} {d0 d1 : Int64 × Bool} {sw : Int64} {lo la : Nat → Nat} {lc : Nat → List Nat} (hC : xCB E G x σ lo la lc) (hGa : G r0 = some (eST d0.1 d0.2 sw)) (hw : w0 ≤ sW σ) : xCB E (va_up G r0 (some (eST d1.1 d1.2 (lN w0)))) x (sK σ, sV σ, va_up (sD σ) r0 (some d1), sO σ, sA σ, sW σ) lo la lc := by
  obtain ⟨hG, hL, hn, hk, hv, hs, he⟩ := hC
  refine ⟨xw_keep hG (xw_neC hG hGa (by decide)), xLS_up hGa (by decide) hL, hn, fun j q hj => ?_, fun j u hj => ?_, fun r d hr => ?_, xEm_up hGa he⟩
  · obtain ⟨⟨b, h1, h2⟩, h3⟩ := hk j q hj
    exact ⟨⟨b, h1, xw_keep h2 (xw_neC h2 hGa (by decide))⟩, xEL_up hGa (by decide) h3⟩
  · obtain ⟨b, h1, h2⟩ := hv j u hj
    exact ⟨b, h1, xw_keep h2 (xw_neC h2 hGa (by decide))⟩
  · by_cases hrr : r = r0
    · subst hrr
      have hr : va_up (sD σ) r (some d1) r = some d := hr
      rw [va_up_self] at hr
      cases hr
      exact ⟨w0, hw, va_up_self _ _ _⟩
    · have hr : va_up (sD σ) r0 (some d1) r = some d := hr
      rw [va_up_ne _ _ hrr] at hr
      obtain ⟨w, h1, h2⟩ := hs r d hr
      exact ⟨w, h1, xw_keep h2 hrr⟩
theorem lN_ne {a b : Nat} (ha : a < 2 ^ 31) (hb : b < 2 ^ 31) (h : a ≠ b) : ¬ lN a = lN b := fun q => h ((lN_eq ha hb).mp q)
set_option maxRecDepth 100000 in
set_option maxHeartbeats 4000000 in
theorem q_KF_entriesDue (l : Launch) (E : xE) {G : xw_G} {x : Nat} {σ : CS} {lo la : Nat → Nat} {lc : Nat → List Nat} (hC : xCB E G x σ lo la lc) {a en : Nat} {kd : KD} {q0 : KD × List E3} (hKa : G a = some (cKI kd en)) (hq0 : (sK σ)[0]? = some q0) (hD : ∀ e ∈ q0.2, ∃ d, sD σ e.2.2 = some d) : XMk l E y_KF_entriesDue w_KF_entriesDue rm_KF_entriesDue [.ref x, .ref a] G (fun r G' => r = some (.int (nI (dueN kd (sD σ) q0.2 q0.2.length))) ∧ G = G') 0 0 := by
  refine XM_of [some (.ref x), some (.ref a), none, none, none] (XZ_st E) (by decide) rfl rfl rfl (Nat.le_of_ble_eq_true rfl) (fun p e s m below meth c C hnm => ?_)
  obtain ⟨hG, hL, hnn, hk, hv, hs, he⟩ := id hC
  obtain ⟨⟨ki, hki, hK0⟩, hX0⟩ := hk 0 q0 hq0
  have hl := (List.getElem?_eq_some_iff.mp hq0).1
  obtain ⟨cap2, md2, ff2, hL2, -⟩ := hL.1 2 (by omega)
  have hle := xAL_len (hL.1 2 (by omega))
  have hxl : (lc 2).length = q0.2.length := hX0.1
  have loop : ∀ (n t : Nat), t + n = q0.2.length → XW p l e rm_KF_entriesDue s m #[.ref x, .ref a] below meth c (XQ below #[.ref x, .ref a] s (xD E) xcl (xB E) (fun r G' => r = some (.int (nI (dueN kd (sD σ) q0.2 q0.2.length))) ∧ G = G') 0 0) (xD E) xcl (xB E) 11 [some (.ref x), some (.ref a), some (.ref ki), some (.int (nI (dueN kd (sD σ) q0.2 t))), some (.int (nI t))] [] G 0 0 := by
    intro n
    induction n with
    | zero =>
      intro t hn
      have ht : t = q0.2.length := by omega
      refine x_aload_n C d_KF_entriesDue_11 rfl rfl ?_
      refine x_ifnull C d_KF_entriesDue_12 ?_
      refine x_iload C d_KF_entriesDue_15 rfl ?_
      refine x_aload_n C d_KF_entriesDue_17 rfl rfl ?_
      refine x_get C hK0 rfl (in_KI _) 3 (by decide) (List.mem_cons_of_mem _ f_KF_188) rfl d_KF_entriesDue_18 ?_
      refine x_callV0 C (q_AL_sizeL l E (hL.1 2 (by omega))) (lk_KF_19 C.hts (Nat.le_of_ble_eq_true rfl) (Nat.le_of_ble_eq_true rfl)) hL2 rfl rfl d_KF_entriesDue_21 (Nat.le_of_ble_eq_true rfl) (Nat.le_of_ble_eq_true rfl) (Nat.le_of_ble_eq_true rfl) (fun r G' h => ?_)
      obtain ⟨rfl, rfl⟩ := h
      rw [hxl]
      refine x_icmp_ge C 65 d_KF_entriesDue_24 (by decide) (fun c_24 => ?_) (fun c_24 => ?_)
      · refine x_iload_n C d_KF_entriesDue_65 rfl rfl ?_
        exact x_iret C (Nat.le_of_ble_eq_true rfl) (Nat.le_of_ble_eq_true rfl) d_KF_entriesDue_66 ⟨by rw [ht], rfl⟩
      · exact absurd (nI_le (by omega) (by omega)) c_24
    | succ n ih =>
      intro t hn
      obtain ⟨e0, he0⟩ := e_lt (show t < q0.2.length by omega)
      obtain ⟨y, hy, hN⟩ := hX0.2 t e0 he0
      obtain ⟨d, hd⟩ := hD e0 (List.mem_of_getElem? he0)
      obtain ⟨w, hw, hS⟩ := hs _ _ hd
      have hdl := dueN_le (kd := kd) (D := sD σ) (es := q0.2) t
      refine x_aload_n C d_KF_entriesDue_11 rfl rfl ?_
      refine x_ifnull C d_KF_entriesDue_12 ?_
      refine x_iload C d_KF_entriesDue_15 rfl ?_
      refine x_aload_n C d_KF_entriesDue_17 rfl rfl ?_
      refine x_get C hK0 rfl (in_KI _) 3 (by decide) (List.mem_cons_of_mem _ f_KF_188) rfl d_KF_entriesDue_18 ?_
      refine x_callV0 C (q_AL_sizeL l E (hL.1 2 (by omega))) (lk_KF_19 C.hts (Nat.le_of_ble_eq_true rfl) (Nat.le_of_ble_eq_true rfl)) hL2 rfl rfl d_KF_entriesDue_21 (Nat.le_of_ble_eq_true rfl) (Nat.le_of_ble_eq_true rfl) (Nat.le_of_ble_eq_true rfl) (fun r G' h => ?_)
      obtain ⟨rfl, rfl⟩ := h
      rw [hxl]
      refine x_icmp_ge C 65 d_KF_entriesDue_24 (by decide) (fun c_24 => ?_) (fun c_24 => ?_)
      · exact absurd c_24 (nI_ge (by omega) (by omega))
      · refine x_aload_n C d_KF_entriesDue_27 rfl rfl ?_
        refine x_aload_n C d_KF_entriesDue_28 rfl rfl ?_
        refine x_aload_n C d_KF_entriesDue_29 rfl rfl ?_
        refine x_get C hK0 rfl (in_KI _) 3 (by decide) (List.mem_cons_of_mem _ f_KF_188) rfl d_KF_entriesDue_30 ?_
        refine x_iload C d_KF_entriesDue_33 rfl ?_
        refine x_callV1 C (q_AL_getL l E (hL.1 2 (by omega)) hy) (lk_KF_177 C.hts (Nat.le_of_ble_eq_true rfl) (Nat.le_of_ble_eq_true rfl)) hL2 rfl rfl d_KF_entriesDue_35 (Nat.le_of_ble_eq_true rfl) (Nat.le_of_ble_eq_true rfl) (Nat.le_of_ble_eq_true rfl) (fun r G' h => ?_)
        obtain ⟨rfl, rfl⟩ := h
        refine x_castS C hN rfl (List.mem_cons_of_mem _ cl_KF_172) d_KF_entriesDue_38 ?_
        refine x_get C hN rfl (in_EN _) 2 (by decide) (List.mem_cons_of_mem _ f_KF_171) rfl d_KF_entriesDue_41 ?_
        refine x_get C hS rfl (in_ST _) 0 (by decide) (List.mem_cons_of_mem _ f_KF_156) rfl d_KF_entriesDue_44 ?_
        refine x_callV1 C (q_KI_fieldIn l E hKa) (lk_KF_195 C.hts (Nat.le_of_ble_eq_true rfl) (Nat.le_of_ble_eq_true rfl)) hKa rfl rfl d_KF_entriesDue_47 (Nat.le_of_ble_eq_true rfl) (Nat.le_of_ble_eq_true rfl) (Nat.le_of_ble_eq_true rfl) (fun r G' h => ?_)
        obtain ⟨rfl, rfl⟩ := h
        refine x_callV1 C (q_KI_leavesOut l E hKa) (lk_KF_248 C.hts (Nat.le_of_ble_eq_true rfl) (Nat.le_of_ble_eq_true rfl)) hKa rfl rfl d_KF_entriesDue_50 (Nat.le_of_ble_eq_true rfl) (Nat.le_of_ble_eq_true rfl) (Nat.le_of_ble_eq_true rfl) (fun r G' h => ?_)
        obtain ⟨rfl, rfl⟩ := h
        refine x_if_ne C 59 d_KF_entriesDue_53 (by decide) (fun c_53 => ?_) (fun c_53 => ?_)
        · refine x_iinc C d_KF_entriesDue_59 rfl rfl rfl ?_
          refine x_goto C 11 d_KF_entriesDue_62 (by decide) ?_
          have e1 : nI t + Int32.ofInt 1 = nI (t + 1) := nI_1 t
          have e2 : nI (dueN kd (sD σ) q0.2 t) = nI (dueN kd (sD σ) q0.2 (t + 1)) := by rw [dueN_s he0, bD_at hd, if_pos (by cases hz : lft kd (fK kd d.1) with | true => rfl | false => exact absurd (show bI (lft kd (fK kd d.1)) = 0 from by rw [hz]; rfl) c_53)]; rfl
          rw [e1, e2]
          exact ih (t + 1) (by omega)
        · refine x_iinc C d_KF_entriesDue_56 rfl rfl rfl ?_
          refine x_iinc C d_KF_entriesDue_59 rfl rfl rfl ?_
          refine x_goto C 11 d_KF_entriesDue_62 (by decide) ?_
          have e1 : nI t + Int32.ofInt 1 = nI (t + 1) := nI_1 t
          have e2 : nI (dueN kd (sD σ) q0.2 t) + Int32.ofInt 1 = nI (dueN kd (sD σ) q0.2 (t + 1)) := by rw [dueN_s he0, bD_at hd, if_neg (fun z => absurd (z.symm.trans (show lft kd (fK kd d.1) = false from (bI_0 _).mp c_53)) (by decide))]; exact nI_1 _
          rw [e1, e2]
          exact ih (t + 1) (by omega)
  refine x_aload_n C d_KF_entriesDue_0 rfl rfl ?_
  refine x_iconst C (v := 0) d_KF_entriesDue_1 (by decide) ?_
  refine x_callV1 C (q_KF_indexAt_in l E (i := 0) hG (hL.1 0 (by omega)) hki hK0) (lk_KF_36 C.hts (Nat.le_of_ble_eq_true rfl) (Nat.le_of_ble_eq_true rfl)) hG rfl rfl d_KF_entriesDue_2 (Nat.le_of_ble_eq_true rfl) (Nat.le_of_ble_eq_true rfl) (Nat.le_of_ble_eq_true rfl) (fun r G' h => ?_)
  obtain ⟨rfl, rfl⟩ := h
  refine x_astore_n C d_KF_entriesDue_5 rfl (Nat.le_of_ble_eq_true rfl) rfl ?_
  refine x_iconst C (v := 0) d_KF_entriesDue_6 (by decide) ?_
  refine x_istore_n C d_KF_entriesDue_7 rfl (Nat.le_of_ble_eq_true rfl) rfl ?_
  refine x_iconst C (v := 0) d_KF_entriesDue_8 (by decide) ?_
  refine x_istore C d_KF_entriesDue_9 (Nat.le_of_ble_eq_true rfl) rfl ?_
  rw [← nI_0]
  exact loop q0.2.length 0 (by omega)
set_option maxRecDepth 100000 in
set_option maxHeartbeats 4000000 in
theorem q_KI_isInOrder (l : Launch) (E : xE) {G : xw_G} {x : Nat} {σ : CS} {lo la : Nat → Nat} {lc : Nat → List Nat} (hC : xCB E G x σ lo la lc) {t h0 : Nat} {q : KD × List E3} (hq : (sK σ)[t]? = some q) (hh : (lc 0)[t]? = some h0) (hok : eOK q.1 q.2 (sD σ)) (hW : sW σ < 2 ^ 31) (hlow : ∀ (r : Nat) (d : Int64 × Bool), sD σ r = some d → ∃ w : Nat, w < sW σ ∧ G r = some (eST d.1 d.2 (lN w))) : XMk l E y_KI_isInOrder w_KI_isInOrder rm_KI_isInOrder [.ref h0, .long (lN (sW σ))] G (fun r G' => r = some (.int 1) ∧ xCB E G' x σ lo la lc ∧ xFm G G') 0 0 := by
  refine XM_of [some (.ref h0), some (.long (lN (sW σ))), none, none, none, none, none] (XZ_st E) (by decide) rfl rfl rfl (Nat.le_of_ble_eq_true rfl) (fun p e s m below meth c C hnm => ?_)
  obtain ⟨o1, o2, o3, o4⟩ := hok
  have hl := (List.getElem?_eq_some_iff.mp hq).1
  have hle := xAL_len (hC.2.1.1 (t + 2) (by omega))
  have hxl := (hC.2.2.2.1 t q hq).2.1
  have loop : ∀ (n i : Nat) (v5 v6 : Option Value) (G1 : xw_G), i + n = q.2.length → xCB E G1 x σ lo la lc → (∀ (j : Nat) (e : E3), i ≤ j → q.2[j]? = some e → ∃ (b : Int64) (w : Nat), sD σ e.2.2 = some (b, true) ∧ w < sW σ ∧ G1 e.2.2 = some (eST b true (lN w))) → xFm G G1 → XW p l e rm_KI_isInOrder s m #[.ref h0, .long (lN (sW σ))] below meth c (XQ below #[.ref h0, .long (lN (sW σ))] s (xD E) xcl (xB E) (fun r G' => r = some (.int 1) ∧ xCB E G' x σ lo la lc ∧ xFm G G') 0 0) (xD E) xcl (xB E) 5 [some (.ref h0), some (.long (lN (sW σ))), none, some (prv (lc (t + 2)) i), some (.int (nI i)), v5, v6] [] G1 0 0 := by
    intro n
    induction n with
    | zero =>
      intro i v5 v6 G1 hn hC1 hlw hF
      obtain ⟨hG, hL, hnn, hk, hv, hs, he⟩ := id hC1
      obtain ⟨⟨h0', hh', hK⟩, hX⟩ := hk t q hq
      rw [hh] at hh'
      cases hh'
      obtain ⟨capt, mdt, fft, hLt, -⟩ := hL.1 (t + 2) (by omega)
      refine x_iload C d_KI_isInOrder_5 rfl ?_
      refine x_aload_n C d_KI_isInOrder_7 rfl rfl ?_
      refine x_get C hK rfl (in_KI _) 3 (by decide) (List.mem_cons_of_mem _ f_KI_25) rfl d_KI_isInOrder_8 ?_
      refine x_callV0 C (q_AL_sizeL l E (hL.1 (t + 2) (by omega))) (lk_KI_36 C.hts (Nat.le_of_ble_eq_true rfl) (Nat.le_of_ble_eq_true rfl)) hLt rfl rfl d_KI_isInOrder_11 (Nat.le_of_ble_eq_true rfl) (Nat.le_of_ble_eq_true rfl) (Nat.le_of_ble_eq_true rfl) (fun r G' h => ?_)
      obtain ⟨rfl, rfl⟩ := h
      rw [hxl]
      refine x_icmp_ge C 121 d_KI_isInOrder_14 (by decide) (fun c_14 => ?_) (fun c_14 => ?_)
      · refine x_iconst C (v := 1) d_KI_isInOrder_121 (by decide) ?_
        exact x_zret C rfl (Nat.le_of_ble_eq_true rfl) (Nat.le_of_ble_eq_true rfl) d_KI_isInOrder_122 ⟨rfl, hC1, hF⟩
      · exact absurd (nI_le (by omega) (by omega)) c_14
    | succ n ih =>
      intro i v5 v6 G1 hn hC1 hlw hF
      obtain ⟨hG, hL, hnn, hk, hv, hs, he⟩ := id hC1
      obtain ⟨⟨h0', hh', hK⟩, hX⟩ := hk t q hq
      rw [hh] at hh'
      cases hh'
      obtain ⟨capt, mdt, fft, hLt, -⟩ := hL.1 (t + 2) (by omega)
      obtain ⟨e0, he0⟩ := e_lt (show i < q.2.length by omega)
      obtain ⟨y, hy, hN⟩ := hX.2 i e0 he0
      obtain ⟨b0, w, hd, hw, hS⟩ := hlw i e0 (Nat.le_refl _) he0
      obtain ⟨b1, hd1, hf1, hlf⟩ := o2 e0 (List.mem_of_getElem? he0)
      rw [hd] at hd1
      cases hd1
      have hC2 := xCB_st (d0 := (b0, true)) (d1 := (b0, true)) (w0 := sW σ) hC1 hS (Nat.le_refl _)
      rw [show va_up (sD σ) e0.2.2 (some (b0, true)) = sD σ from by rw [← hd]; exact up_id _ _] at hC2
      have hlw2 : ∀ (j : Nat) (e : E3), i + 1 ≤ j → q.2[j]? = some e → ∃ (b : Int64) (w : Nat), sD σ e.2.2 = some (b, true) ∧ w < sW σ ∧ va_up G1 e0.2.2 (some (eST b0 true (lN (sW σ)))) e.2.2 = some (eST b true (lN w)) := fun j e hj hej => by
        obtain ⟨b, w2, g1, g2, g3⟩ := hlw j e (by omega) hej
        exact ⟨b, w2, g1, g2, xw_keep g3 (fun z => absurd (o4 j i e e0 hej he0 z) (by omega))⟩
      have hF2 : xFm G (va_up G1 e0.2.2 (some (eST b0 true (lN (sW σ))))) := hF.tr (xFm.up hS (by decide))
      by_cases hi0 : i = 0
      · rw [show prv (lc (t + 2)) i = .null from by rw [hi0]; rfl]
        refine x_iload C d_KI_isInOrder_5 rfl ?_
        refine x_aload_n C d_KI_isInOrder_7 rfl rfl ?_
        refine x_get C hK rfl (in_KI _) 3 (by decide) (List.mem_cons_of_mem _ f_KI_25) rfl d_KI_isInOrder_8 ?_
        refine x_callV0 C (q_AL_sizeL l E (hL.1 (t + 2) (by omega))) (lk_KI_36 C.hts (Nat.le_of_ble_eq_true rfl) (Nat.le_of_ble_eq_true rfl)) hLt rfl rfl d_KI_isInOrder_11 (Nat.le_of_ble_eq_true rfl) (Nat.le_of_ble_eq_true rfl) (Nat.le_of_ble_eq_true rfl) (fun r G' h => ?_)
        obtain ⟨rfl, rfl⟩ := h
        rw [hxl]
        refine x_icmp_ge C 121 d_KI_isInOrder_14 (by decide) (fun c_14 => ?_) (fun c_14 => ?_)
        · exact absurd c_14 (nI_ge (by omega) (by omega))
        · refine x_aload_n C d_KI_isInOrder_17 rfl rfl ?_
          refine x_get C hK rfl (in_KI _) 3 (by decide) (List.mem_cons_of_mem _ f_KI_25) rfl d_KI_isInOrder_18 ?_
          refine x_iload C d_KI_isInOrder_21 rfl ?_
          refine x_callV1 C (q_AL_getL l E (hL.1 (t + 2) (by omega)) hy) (lk_KI_39 C.hts (Nat.le_of_ble_eq_true rfl) (Nat.le_of_ble_eq_true rfl)) hLt rfl rfl d_KI_isInOrder_23 (Nat.le_of_ble_eq_true rfl) (Nat.le_of_ble_eq_true rfl) (Nat.le_of_ble_eq_true rfl) (fun r G' h => ?_)
          obtain ⟨rfl, rfl⟩ := h
          refine x_castS C hN rfl (List.mem_cons_of_mem _ cl_KI_43) d_KI_isInOrder_26 ?_
          refine x_astore C d_KI_isInOrder_29 (Nat.le_of_ble_eq_true rfl) rfl ?_
          refine x_aload C d_KI_isInOrder_31 rfl ?_
          refine x_get C hN rfl (in_EN _) 2 (by decide) (List.mem_cons_of_mem _ f_KI_80) rfl d_KI_isInOrder_33 ?_
          refine x_astore C d_KI_isInOrder_36 (Nat.le_of_ble_eq_true rfl) rfl ?_
          refine x_aload C d_KI_isInOrder_38 rfl ?_
          refine x_get C hS rfl (in_ST _) 1 (by decide) (List.mem_cons_of_mem _ f_KI_112) rfl d_KI_isInOrder_40 ?_
          refine x_if_eq C 56 d_KI_isInOrder_43 (by decide) (fun c_43 => ?_) (fun c_43 => ?_)
          · exact absurd c_43 (by decide)
          · refine x_aload C d_KI_isInOrder_46 rfl ?_
            refine x_get C hS rfl (in_ST _) 2 (by decide) (List.mem_cons_of_mem _ f_KI_115) rfl d_KI_isInOrder_48 ?_
            refine x_lload_n C d_KI_isInOrder_51 rfl rfl ?_
            refine x_lcmp C d_KI_isInOrder_52 ?_
            refine x_if_ne C 58 d_KI_isInOrder_53 (by decide) (fun c_53 => ?_) (fun c_53 => ?_)
            · refine x_aload C d_KI_isInOrder_58 rfl ?_
              refine x_lload_n C d_KI_isInOrder_60 rfl rfl ?_
              refine x_put C hS rfl (in_ST _) ty_ST tok_ST nm_ST 2 (by decide) (List.mem_cons_of_mem _ f_KI_115) rfl (tok_ST 2 (by decide)) rfl rfl (Nat.le_of_ble_eq_true rfl) d_KI_isInOrder_61 ?_
              refine x_aload C d_KI_isInOrder_64 rfl ?_
              refine x_get C (xw_keep hN (xw_neC hN hS (by decide))) rfl (in_EN _) 0 (by decide) (List.mem_cons_of_mem _ f_KI_57) rfl d_KI_isInOrder_66 ?_
              refine x_aload_n C d_KI_isInOrder_69 rfl rfl ?_
              refine x_aload C d_KI_isInOrder_70 rfl ?_
              refine x_get C (va_up_self _ _ _) rfl (in_ST _) 0 (by decide) (List.mem_cons_of_mem _ f_KI_60) rfl d_KI_isInOrder_72 ?_
              refine x_callV1 C (q_KI_fieldIn l E (xw_keep hK (xw_neC hK hS (by decide)))) (lk_KI_65 C.hts (Nat.le_of_ble_eq_true rfl) (Nat.le_of_ble_eq_true rfl)) (xw_keep hK (xw_neC hK hS (by decide))) rfl rfl d_KI_isInOrder_75 (Nat.le_of_ble_eq_true rfl) (Nat.le_of_ble_eq_true rfl) (Nat.le_of_ble_eq_true rfl) (fun r G' h => ?_)
              obtain ⟨rfl, rfl⟩ := h
              refine x_lcmp C d_KI_isInOrder_78 ?_
              refine x_if_ne C 94 d_KI_isInOrder_79 (by decide) (fun c_79 => ?_) (fun c_79 => ?_)
              · exact absurd ((lg_eq _ _).mpr hf1) c_79
              · refine x_aload_n C d_KI_isInOrder_82 rfl rfl ?_
                refine x_aload C d_KI_isInOrder_83 rfl ?_
                refine x_get C (xw_keep hN (xw_neC hN hS (by decide))) rfl (in_EN _) 0 (by decide) (List.mem_cons_of_mem _ f_KI_57) rfl d_KI_isInOrder_85 ?_
                refine x_callV1 C (q_KI_leavesOut l E (xw_keep hK (xw_neC hK hS (by decide)))) (lk_KI_69 C.hts (Nat.le_of_ble_eq_true rfl) (Nat.le_of_ble_eq_true rfl)) (xw_keep hK (xw_neC hK hS (by decide))) rfl rfl d_KI_isInOrder_88 (Nat.le_of_ble_eq_true rfl) (Nat.le_of_ble_eq_true rfl) (Nat.le_of_ble_eq_true rfl) (fun r G' h => ?_)
                obtain ⟨rfl, rfl⟩ := h
                refine x_if_eq C 96 d_KI_isInOrder_91 (by decide) (fun c_91 => ?_) (fun c_91 => ?_)
                · refine x_aload_nN C d_KI_isInOrder_96 rfl rfl ?_
                  refine x_ifnullN C 112 d_KI_isInOrder_97 (by decide) ?_
                  refine x_aload C d_KI_isInOrder_112 rfl ?_
                  refine x_astore_n C d_KI_isInOrder_114 rfl (Nat.le_of_ble_eq_true rfl) rfl ?_
                  refine x_iinc C d_KI_isInOrder_115 rfl rfl rfl ?_
                  refine x_goto C 5 d_KI_isInOrder_118 (by decide) ?_
                  have e1 : nI i + Int32.ofInt 1 = nI (i + 1) := nI_1 i
                  rw [e1]
                  refine XW.eqs (ih (i + 1) (some (.ref y)) (some (.ref e0.2.2)) _ (by omega) hC2 hlw2 hF2) ?_ rfl rfl
                  rw [prv_s (by omega) (show (lc (t + 2))[i + 1 - 1]? = some y from hy)]
                  rfl
                · exact absurd (show bI (lft q.1 e0.1) = 0 from by rw [hlf]; rfl) c_91
            · exact absurd ((lg_eq _ _).mp c_53) (lN_ne (by omega) hW (by omega))
      · obtain ⟨ez, hez⟩ := e_lt (show i - 1 < q.2.length by omega)
        obtain ⟨z, hz, hNz⟩ := hX.2 (i - 1) ez hez
        rw [prv_s hi0 hz]
        refine x_iload C d_KI_isInOrder_5 rfl ?_
        refine x_aload_n C d_KI_isInOrder_7 rfl rfl ?_
        refine x_get C hK rfl (in_KI _) 3 (by decide) (List.mem_cons_of_mem _ f_KI_25) rfl d_KI_isInOrder_8 ?_
        refine x_callV0 C (q_AL_sizeL l E (hL.1 (t + 2) (by omega))) (lk_KI_36 C.hts (Nat.le_of_ble_eq_true rfl) (Nat.le_of_ble_eq_true rfl)) hLt rfl rfl d_KI_isInOrder_11 (Nat.le_of_ble_eq_true rfl) (Nat.le_of_ble_eq_true rfl) (Nat.le_of_ble_eq_true rfl) (fun r G' h => ?_)
        obtain ⟨rfl, rfl⟩ := h
        rw [hxl]
        refine x_icmp_ge C 121 d_KI_isInOrder_14 (by decide) (fun c_14 => ?_) (fun c_14 => ?_)
        · exact absurd c_14 (nI_ge (by omega) (by omega))
        · refine x_aload_n C d_KI_isInOrder_17 rfl rfl ?_
          refine x_get C hK rfl (in_KI _) 3 (by decide) (List.mem_cons_of_mem _ f_KI_25) rfl d_KI_isInOrder_18 ?_
          refine x_iload C d_KI_isInOrder_21 rfl ?_
          refine x_callV1 C (q_AL_getL l E (hL.1 (t + 2) (by omega)) hy) (lk_KI_39 C.hts (Nat.le_of_ble_eq_true rfl) (Nat.le_of_ble_eq_true rfl)) hLt rfl rfl d_KI_isInOrder_23 (Nat.le_of_ble_eq_true rfl) (Nat.le_of_ble_eq_true rfl) (Nat.le_of_ble_eq_true rfl) (fun r G' h => ?_)
          obtain ⟨rfl, rfl⟩ := h
          refine x_castS C hN rfl (List.mem_cons_of_mem _ cl_KI_43) d_KI_isInOrder_26 ?_
          refine x_astore C d_KI_isInOrder_29 (Nat.le_of_ble_eq_true rfl) rfl ?_
          refine x_aload C d_KI_isInOrder_31 rfl ?_
          refine x_get C hN rfl (in_EN _) 2 (by decide) (List.mem_cons_of_mem _ f_KI_80) rfl d_KI_isInOrder_33 ?_
          refine x_astore C d_KI_isInOrder_36 (Nat.le_of_ble_eq_true rfl) rfl ?_
          refine x_aload C d_KI_isInOrder_38 rfl ?_
          refine x_get C hS rfl (in_ST _) 1 (by decide) (List.mem_cons_of_mem _ f_KI_112) rfl d_KI_isInOrder_40 ?_
          refine x_if_eq C 56 d_KI_isInOrder_43 (by decide) (fun c_43 => ?_) (fun c_43 => ?_)
          · exact absurd c_43 (by decide)
          · refine x_aload C d_KI_isInOrder_46 rfl ?_
            refine x_get C hS rfl (in_ST _) 2 (by decide) (List.mem_cons_of_mem _ f_KI_115) rfl d_KI_isInOrder_48 ?_
            refine x_lload_n C d_KI_isInOrder_51 rfl rfl ?_
            refine x_lcmp C d_KI_isInOrder_52 ?_
            refine x_if_ne C 58 d_KI_isInOrder_53 (by decide) (fun c_53 => ?_) (fun c_53 => ?_)
            · refine x_aload C d_KI_isInOrder_58 rfl ?_
              refine x_lload_n C d_KI_isInOrder_60 rfl rfl ?_
              refine x_put C hS rfl (in_ST _) ty_ST tok_ST nm_ST 2 (by decide) (List.mem_cons_of_mem _ f_KI_115) rfl (tok_ST 2 (by decide)) rfl rfl (Nat.le_of_ble_eq_true rfl) d_KI_isInOrder_61 ?_
              refine x_aload C d_KI_isInOrder_64 rfl ?_
              refine x_get C (xw_keep hN (xw_neC hN hS (by decide))) rfl (in_EN _) 0 (by decide) (List.mem_cons_of_mem _ f_KI_57) rfl d_KI_isInOrder_66 ?_
              refine x_aload_n C d_KI_isInOrder_69 rfl rfl ?_
              refine x_aload C d_KI_isInOrder_70 rfl ?_
              refine x_get C (va_up_self _ _ _) rfl (in_ST _) 0 (by decide) (List.mem_cons_of_mem _ f_KI_60) rfl d_KI_isInOrder_72 ?_
              refine x_callV1 C (q_KI_fieldIn l E (xw_keep hK (xw_neC hK hS (by decide)))) (lk_KI_65 C.hts (Nat.le_of_ble_eq_true rfl) (Nat.le_of_ble_eq_true rfl)) (xw_keep hK (xw_neC hK hS (by decide))) rfl rfl d_KI_isInOrder_75 (Nat.le_of_ble_eq_true rfl) (Nat.le_of_ble_eq_true rfl) (Nat.le_of_ble_eq_true rfl) (fun r G' h => ?_)
              obtain ⟨rfl, rfl⟩ := h
              refine x_lcmp C d_KI_isInOrder_78 ?_
              refine x_if_ne C 94 d_KI_isInOrder_79 (by decide) (fun c_79 => ?_) (fun c_79 => ?_)
              · exact absurd ((lg_eq _ _).mpr hf1) c_79
              · refine x_aload_n C d_KI_isInOrder_82 rfl rfl ?_
                refine x_aload C d_KI_isInOrder_83 rfl ?_
                refine x_get C (xw_keep hN (xw_neC hN hS (by decide))) rfl (in_EN _) 0 (by decide) (List.mem_cons_of_mem _ f_KI_57) rfl d_KI_isInOrder_85 ?_
                refine x_callV1 C (q_KI_leavesOut l E (xw_keep hK (xw_neC hK hS (by decide)))) (lk_KI_69 C.hts (Nat.le_of_ble_eq_true rfl) (Nat.le_of_ble_eq_true rfl)) (xw_keep hK (xw_neC hK hS (by decide))) rfl rfl d_KI_isInOrder_88 (Nat.le_of_ble_eq_true rfl) (Nat.le_of_ble_eq_true rfl) (Nat.le_of_ble_eq_true rfl) (fun r G' h => ?_)
                obtain ⟨rfl, rfl⟩ := h
                refine x_if_eq C 96 d_KI_isInOrder_91 (by decide) (fun c_91 => ?_) (fun c_91 => ?_)
                · refine x_aload_n C d_KI_isInOrder_96 rfl rfl ?_
                  refine x_ifnull C d_KI_isInOrder_97 ?_
                  refine x_aload_n C d_KI_isInOrder_100 rfl rfl ?_
                  refine x_aload_n C d_KI_isInOrder_101 rfl rfl ?_
                  refine x_aload C d_KI_isInOrder_102 rfl ?_
                  refine x_callV2 C (q_KI_isRightlyAhead l E (xw_keep hK (xw_neC hK hS (by decide))) (xw_keep hNz (xw_neC hNz hS (by decide))) (xw_keep hN (xw_neC hN hS (by decide)))) (lk_KI_118 C.hts (Nat.le_of_ble_eq_true rfl) (Nat.le_of_ble_eq_true rfl)) (xw_keep hK (xw_neC hK hS (by decide))) rfl rfl d_KI_isInOrder_104 (Nat.le_of_ble_eq_true rfl) (Nat.le_of_ble_eq_true rfl) (Nat.le_of_ble_eq_true rfl) (fun r G' h => ?_)
                  obtain ⟨rfl, rfl⟩ := h
                  refine x_if_ne C 112 d_KI_isInOrder_107 (by decide) (fun c_107 => ?_) (fun c_107 => ?_)
                  · refine x_aload C d_KI_isInOrder_112 rfl ?_
                    refine x_astore_n C d_KI_isInOrder_114 rfl (Nat.le_of_ble_eq_true rfl) rfl ?_
                    refine x_iinc C d_KI_isInOrder_115 rfl rfl rfl ?_
                    refine x_goto C 5 d_KI_isInOrder_118 (by decide) ?_
                    have e1 : nI i + Int32.ofInt 1 = nI (i + 1) := nI_1 i
                    rw [e1]
                    refine XW.eqs (ih (i + 1) (some (.ref y)) (some (.ref e0.2.2)) _ (by omega) hC2 hlw2 hF2) ?_ rfl rfl
                    rw [prv_s (by omega) (show (lc (t + 2))[i + 1 - 1]? = some y from hy)]
                    rfl
                  · exact absurd (show bI (ahead ez.1 ez.2.1 e0.1 e0.2.1 && (q.1.1 || decide (¬ ez.1 = e0.1))) = 0 from c_107) (by rw [srt_lt o1 hez he0 (by omega), Bool.true_and]; cases hdb : q.1.1 with | true => simp [bI] | false => simp [bI, o3 hdb (i - 1) i ez e0 (by omega) hez he0])
                · exact absurd (show bI (lft q.1 e0.1) = 0 from by rw [hlf]; rfl) c_91
            · exact absurd ((lg_eq _ _).mp c_53) (lN_ne (by omega) hW (by omega))
  refine x_null C d_KI_isInOrder_0 ?_
  refine x_astore_nN C d_KI_isInOrder_1 rfl (Nat.le_of_ble_eq_true rfl) rfl ?_
  refine x_iconst C (v := 0) d_KI_isInOrder_2 (by decide) ?_
  refine x_istore C d_KI_isInOrder_3 (Nat.le_of_ble_eq_true rfl) rfl ?_
  rw [← nI_0]
  exact loop q.2.length 0 _ _ G (by omega) hC (fun j e _ hej => by obtain ⟨b, g1, -, -⟩ := o2 e (List.mem_of_getElem? hej); obtain ⟨w, g2, g3⟩ := hlow _ _ g1; exact ⟨b, w, g1, g2, g3⟩) xFm.rf
set_option maxRecDepth 100000 in
set_option maxHeartbeats 4000000 in
theorem q_KF_whole (l : Launch) (E : xE) {G : xw_G} {x : Nat} {σ : CS} {q0 : KD × List E3} (h : xCS E G x σ) (hq0 : 0 < (sK σ).length → (sK σ)[0]? = some q0) (hD0 : ∀ e ∈ q0.2, ∃ d, sD σ e.2.2 = some d) (hW : sW σ + 1000 < 2 ^ 31) (hok : ∀ (i : Nat) (q : KD × List E3), (sK σ)[i]? = some q → eOK q.1 q.2 (sD σ) ∧ q.2.length = dueN q.1 (sD σ) q0.2 q0.2.length) : XMk l E y_KF_whole w_KF_whole rm_KF_whole [.ref x] G (cPost E G x (some (.int 1)) (sK σ, sV σ, sD σ, sO σ, sA σ, sW σ + (sK σ).length)) 0 0 := by
  refine XM_of [some (.ref x), none, none] (XZ_st E) (by decide) rfl rfl rfl (Nat.le_of_ble_eq_true rfl) (fun p e s m below meth c C hnm => ?_)
  have hlen0 := xCS_len h
  have loop : ∀ (n t : Nat) (v2 : Option Value) (G1 : xw_G), t + n = (sK σ).length → xCS E G1 x (sK σ, sV σ, sD σ, sO σ, sA σ, sW σ + t) → xFm G G1 → XW p l e rm_KF_whole s m #[.ref x] below meth c (XQ below #[.ref x] s (xD E) xcl (xB E) (cPost E G x (some (.int 1)) (sK σ, sV σ, sD σ, sO σ, sA σ, sW σ + (sK σ).length)) 0 0) (xD E) xcl (xB E) 2 [some (.ref x), some (.int (nI t)), v2] [] G1 0 0 := by
    intro n
    induction n with
    | zero =>
      intro t v2 G1 hn h hF
      obtain ⟨lo, la, lc, hCB⟩ : ∃ lo la lc, xCB E G1 x (sK σ, sV σ, sD σ, sO σ, sA σ, sW σ + t) lo la lc := h
      obtain ⟨hG, hL, hnn, hk, hv, hs, he⟩ := id hCB
      have hlen : (lc 0).length = (sK σ).length := hnn.1
      obtain ⟨cap0, md0, ff0, hL0, -⟩ := hL.1 0 (by omega)
      have ht : t = (sK σ).length := by omega
      refine x_iload_n C d_KF_whole_2 rfl rfl ?_
      refine x_aload_n C d_KF_whole_3 rfl rfl ?_
      refine x_get C hG rfl (in_KF _) 0 (by decide) (List.mem_cons_of_mem _ f_KF_10) rfl d_KF_whole_4 ?_
      refine x_callV0 C (q_AL_sizeL l E (hL.1 0 (by omega))) (lk_KF_19 C.hts (Nat.le_of_ble_eq_true rfl) (Nat.le_of_ble_eq_true rfl)) hL0 rfl rfl d_KF_whole_7 (Nat.le_of_ble_eq_true rfl) (Nat.le_of_ble_eq_true rfl) (Nat.le_of_ble_eq_true rfl) (fun r G' h => ?_)
      obtain ⟨rfl, rfl⟩ := h
      rw [hlen]
      refine x_icmp_ge C 69 d_KF_whole_10 (by decide) (fun c_10 => ?_) (fun c_10 => ?_)
      · refine x_iconst C (v := 1) d_KF_whole_69 (by decide) ?_
        exact x_zret C rfl (Nat.le_of_ble_eq_true rfl) (Nat.le_of_ble_eq_true rfl) d_KF_whole_70 ⟨rfl, by rw [← ht]; exact hCB.S, hF⟩
      · exact absurd (nI_le (by omega) (by omega)) c_10
    | succ n ih =>
      intro t v2 G1 hn h hF
      obtain ⟨lo, la, lc, hCB⟩ : ∃ lo la lc, xCB E G1 x (sK σ, sV σ, sD σ, sO σ, sA σ, sW σ + t) lo la lc := h
      obtain ⟨hG, hL, hnn, hk, hv, hs, he⟩ := id hCB
      have hlen : (lc 0).length = (sK σ).length := hnn.1
      obtain ⟨cap0, md0, ff0, hL0, -⟩ := hL.1 0 (by omega)
      obtain ⟨q, hq⟩ := e_lt (show t < (sK σ).length by omega)
      obtain ⟨⟨a, ha, hK⟩, hX⟩ := hk t q hq
      obtain ⟨w1, w2⟩ := hok t q hq
      refine x_iload_n C d_KF_whole_2 rfl rfl ?_
      refine x_aload_n C d_KF_whole_3 rfl rfl ?_
      refine x_get C hG rfl (in_KF _) 0 (by decide) (List.mem_cons_of_mem _ f_KF_10) rfl d_KF_whole_4 ?_
      refine x_callV0 C (q_AL_sizeL l E (hL.1 0 (by omega))) (lk_KF_19 C.hts (Nat.le_of_ble_eq_true rfl) (Nat.le_of_ble_eq_true rfl)) hL0 rfl rfl d_KF_whole_7 (Nat.le_of_ble_eq_true rfl) (Nat.le_of_ble_eq_true rfl) (Nat.le_of_ble_eq_true rfl) (fun r G' h => ?_)
      obtain ⟨rfl, rfl⟩ := h
      rw [hlen]
      refine x_icmp_ge C 69 d_KF_whole_10 (by decide) (fun c_10 => ?_) (fun c_10 => ?_)
      · exact absurd c_10 (nI_ge (by omega) (by omega))
      · refine x_aload_n C d_KF_whole_13 rfl rfl ?_
        refine x_get C hG rfl (in_KF _) 0 (by decide) (List.mem_cons_of_mem _ f_KF_10) rfl d_KF_whole_14 ?_
        refine x_iload_n C d_KF_whole_17 rfl rfl ?_
        refine x_callV1 C (q_AL_getL l E (hL.1 0 (by omega)) ha) (lk_KF_177 C.hts (Nat.le_of_ble_eq_true rfl) (Nat.le_of_ble_eq_true rfl)) hL0 rfl rfl d_KF_whole_18 (Nat.le_of_ble_eq_true rfl) (Nat.le_of_ble_eq_true rfl) (Nat.le_of_ble_eq_true rfl) (fun r G' h => ?_)
        obtain ⟨rfl, rfl⟩ := h
        refine x_castS C hK rfl (List.mem_cons_of_mem _ cl_KF_27) d_KF_whole_21 ?_
        refine x_astore_n C d_KF_whole_24 rfl (Nat.le_of_ble_eq_true rfl) rfl ?_
        refine x_aload_n C d_KF_whole_25 rfl rfl ?_
        refine x_dup C d_KF_whole_26 rfl ?_
        refine x_get C hG rfl (in_KF _) 4 (by decide) (List.mem_cons_of_mem _ f_KF_181) rfl d_KF_whole_27 ?_
        refine x_lconst C (v := 1) d_KF_whole_30 (by decide) ?_
        refine x_ladd C d_KF_whole_31 ?_
        rw [lN_1]
        refine x_put C hG rfl (in_KF _) ty_KF tok_KF nm_KF 4 (by decide) (List.mem_cons_of_mem _ f_KF_181) rfl (tok_KF 4 (by decide)) rfl rfl (Nat.le_of_ble_eq_true rfl) d_KF_whole_32 ?_
        have hC2 := xCB_kf (sO σ) (sA σ) (sW σ + t + 1) hCB (Nat.le_succ _)
        have hF2 : xFm G1 (va_up G1 x (some (eKF (lo 0) (lo 1) (sO σ) (lN (sA σ)) (lN (sW σ + t + 1))))) := xFm.up hG (by decide)
        have hK2 : (va_up G1 x (some (eKF (lo 0) (lo 1) (sO σ) (lN (sA σ)) (lN (sW σ + t + 1))))) a = some (cKI q.1 (lo (t + 2))) := xw_keep hK (xw_neC hK hG (by decide))
        have hlow : ∀ (r : Nat) (d : Int64 × Bool), sD σ r = some d → ∃ w : Nat, w < sW σ + t + 1 ∧ (va_up G1 x (some (eKF (lo 0) (lo 1) (sO σ) (lN (sA σ)) (lN (sW σ + t + 1))))) r = some (eST d.1 d.2 (lN w)) := fun r d hd => by obtain ⟨w, h1, h2⟩ := hs r d hd; exact ⟨w, Nat.lt_succ_of_le h1, xw_keep h2 (xw_neC h2 hG (by decide))⟩
        refine x_aload_n C d_KF_whole_35 rfl rfl ?_
        refine x_aload_n C d_KF_whole_36 rfl rfl ?_
        refine x_get C hC2.1 rfl (in_KF _) 4 (by decide) (List.mem_cons_of_mem _ f_KF_181) rfl d_KF_whole_37 ?_
        refine x_callV1 C (q_KI_isInOrder l E (σ := (sK σ, sV σ, sD σ, sO σ, sA σ, sW σ + t + 1)) hC2 hq ha w1 (show sW σ + t + 1 < 2 ^ 31 by omega) hlow) (lk_KF_184 C.hts (Nat.le_of_ble_eq_true rfl) (Nat.le_of_ble_eq_true rfl)) hK2 rfl rfl d_KF_whole_40 (Nat.le_of_ble_eq_true rfl) (Nat.le_of_ble_eq_true rfl) (Nat.le_of_ble_eq_true rfl) (fun r G' h => ?_)
        obtain ⟨rfl, hC3, hF3⟩ := h
        obtain ⟨hG3, hL3, hnn3, hk3, hv3, hs3, he3⟩ := id hC3
        obtain ⟨⟨a', ha', hK3⟩, hX3⟩ := hk3 t q hq
        rw [ha] at ha'
        cases ha'
        obtain ⟨capt, mdt, fft, hLt, -⟩ := hL3.1 (t + 2) (by show t + 2 < (sK σ).length + 2; omega)
        refine x_if_eq C 61 d_KF_whole_43 (by decide) (fun c_43 => ?_) (fun c_43 => ?_)
        · exact absurd c_43 (by decide)
        · refine x_aload_n C d_KF_whole_46 rfl rfl ?_
          refine x_get C hK3 rfl (in_KI _) 3 (by decide) (List.mem_cons_of_mem _ f_KF_188) rfl d_KF_whole_47 ?_
          refine x_callV0 C (q_AL_sizeL l E (hL3.1 (t + 2) (by show t + 2 < (sK σ).length + 2; omega))) (lk_KF_19 C.hts (Nat.le_of_ble_eq_true rfl) (Nat.le_of_ble_eq_true rfl)) hLt rfl rfl d_KF_whole_50 (Nat.le_of_ble_eq_true rfl) (Nat.le_of_ble_eq_true rfl) (Nat.le_of_ble_eq_true rfl) (fun r G' h => ?_)
          obtain ⟨rfl, rfl⟩ := h
          rw [hX3.1]
          refine x_aload_n C d_KF_whole_53 rfl rfl ?_
          refine x_aload_n C d_KF_whole_54 rfl rfl ?_
          refine x_callV1 C (q_KF_entriesDue l E (σ := (sK σ, sV σ, sD σ, sO σ, sA σ, sW σ + t + 1)) hC3 hK3 (hq0 (by omega)) hD0) (lk_KF_191 C.hts (Nat.le_of_ble_eq_true rfl) (Nat.le_of_ble_eq_true rfl)) hG3 rfl rfl d_KF_whole_55 (Nat.le_of_ble_eq_true rfl) (Nat.le_of_ble_eq_true rfl) (Nat.le_of_ble_eq_true rfl) (fun r G' h => ?_)
          obtain ⟨rfl, rfl⟩ := h
          refine x_icmp_eq C 63 d_KF_whole_58 (by decide) (fun c_58 => ?_) (fun c_58 => ?_)
          · refine x_iinc C d_KF_whole_63 rfl rfl rfl ?_
            refine x_goto C 2 d_KF_whole_66 (by decide) ?_
            have e1 : nI t + Int32.ofInt 1 = nI (t + 1) := nI_1 t
            rw [e1]
            exact ih (t + 1) _ _ (by omega) hC3.S (hF.tr (hF2.tr hF3))
          · exact absurd (show nI q.2.length = nI (dueN q.1 (sD σ) q0.2 q0.2.length) from by rw [w2]) c_58
  refine x_iconst C (v := 0) d_KF_whole_0 (by decide) ?_
  refine x_istore_n C d_KF_whole_1 rfl (Nat.le_of_ble_eq_true rfl) rfl ?_
  rw [← nI_0]
  exact loop (sK σ).length 0 _ G (by omega) h xFm.rf
