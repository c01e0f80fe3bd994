/-! the state with its places shown -/
def xCB (E : xE) (G : xw_G) (x : Nat) (σ : CS) (lo la : Nat → Nat) (lc : Nat → List Nat) : Prop :=
  G x = some (eKF (lo 0) (lo 1) (sO σ) (lN (sA σ)) (lN (sW σ))) ∧ xLS E G (sK σ).length lo la lc ∧
  ((lc 0).length = (sK σ).length ∧ (lc 0).Nodup ∧ (lc 1).length = (sV σ).length ∧ (lc 1).Nodup) ∧
  (∀ (i : Nat) (q : KD × List E3), (sK σ)[i]? = some q → (∃ a : Nat, (lc 0)[i]? = some a ∧ G a = some (cKI q.1 (lo (i + 2)))) ∧ xEL G (lc (i + 2)) q.2) ∧
  (∀ (i : Nat) (v : VD), (sV σ)[i]? = some v → ∃ a : Nat, (lc 1)[i]? = some a ∧ G a = some (cVW v)) ∧
  (∀ (r : Nat) (d : Int64 × Bool), sD σ r = some d → ∃ w : Nat, w ≤ sW σ ∧ G r = some (eST d.1 d.2 (lN w))) ∧ xEm E G
theorem xCB_kf {E : xE} {G : xw_G} {x : Nat} {σ : CS} {lo la : Nat → Nat} {lc : Nat → List Nat} (o : Bool) (a w : Nat) (h : xCB E G x σ lo la lc) (hw : sW σ ≤ w) : xCB E (va_up G x (some (eKF (lo 0) (lo 1) o (lN a) (lN w)))) x (sK σ, sV σ, sD σ, o, a, w) lo la lc := by
  obtain ⟨hG, hL, hn, hk, hv, hs, he⟩ := h
  refine ⟨va_up_self _ _ _, xLS_up hG (by decide) hL, hn, fun j q hj => ?_, fun j u hj => ?_, fun r d hr => ?_, xEm_up hG he⟩
  · obtain ⟨⟨b, h1, h2⟩, h3⟩ := hk j q hj
    exact ⟨⟨b, h1, xw_keep h2 (xw_neC h2 hG (by decide))⟩, xEL_up hG (by decide) h3⟩
  · obtain ⟨b, h1, h2⟩ := hv j u hj
    exact ⟨b, h1, xw_keep h2 (xw_neC h2 hG (by decide))⟩
  · obtain ⟨w0, h1, h2⟩ := hs r d hr
    exact ⟨w0, by show w0 ≤ w; omega, xw_keep h2 (xw_neC h2 hG (by decide))⟩
/-- a key's field of a record -/
abbrev fK (k : KD) (r : Int64) : Int64 := fldI k.2.1 k.2.2.1 r
set_option maxRecDepth 100000 in
set_option maxHeartbeats 4000000 in
theorem q_KF_enterUnder (l : Launch) (E : xE) {G : xw_G} {x a t s0 : Nat} {σ : CS} {lo la : Nat → Nat} {lc : Nat → List Nat} {q : KD × List E3} {by1 : Int64} {th : Bool} (hC : xCB E G x σ lo la lc) (hq : (sK σ)[t]? = some q) (ha : (lc 0)[t]? = some a) (hK : G a = some (cKI q.1 (lo (t + 2)))) (hd : sD σ s0 = some (by1, th)) (hs0 : srt q.2) (hn0 : q.2.length ≤ 300) : XMk l E y_KF_enterUnder w_KF_enterUnder rm_KF_enterUnder [.ref x, .ref a, .ref s0] G (cPost E G x (some (.int (bI (entB q.1 q.2 (fK q.1 by1) (lN (sA σ + 1)))))) ((sK σ).set t (q.1, entE q.1 q.2 (fK q.1 by1) (lN (sA σ + 1)) s0), sV σ, sD σ, sO σ, sA σ + 1, sW σ)) 2 369 := by
  refine XM_of [some (.ref x), some (.ref a), some (.ref s0)] (XZ_st E) (by decide) rfl rfl rfl (Nat.le_of_ble_eq_true rfl) (fun p e s m below meth c C hnm => ?_)
  obtain ⟨hG, hL, hn, hk, hv, hs, he⟩ := id hC
  obtain ⟨w, hw, hS⟩ := hs s0 _ hd
  have hl := (List.getElem?_eq_some_iff.mp hq).1
  obtain ⟨hG1, hL1, hn1, hk1, hv1, hs1, he1⟩ := xCB_kf (sO σ) (sA σ + 1) (sW σ) hC (Nat.le_refl _)
  refine x_aload_n C d_KF_enterUnder_0 rfl rfl ?_
  refine x_dup C d_KF_enterUnder_1 rfl ?_
  refine x_get C hG rfl (in_KF _) 3 (by decide) (List.mem_cons_of_mem _ f_KF_222) rfl d_KF_enterUnder_2 ?_
  refine x_lconst C (v := 1) d_KF_enterUnder_5 (by decide) ?_
  refine x_ladd C d_KF_enterUnder_6 ?_
  rw [lN_1]
  refine x_put C hG rfl (in_KF _) ty_KF tok_KF nm_KF 3 (by decide) (List.mem_cons_of_mem _ f_KF_222) rfl (tok_KF 3 (by decide)) rfl rfl (Nat.le_of_ble_eq_true rfl) d_KF_enterUnder_7 ?_
  refine x_aload_n C d_KF_enterUnder_10 rfl rfl ?_
  refine x_aload_n C d_KF_enterUnder_11 rfl rfl ?_
  refine x_aload_n C d_KF_enterUnder_12 rfl rfl ?_
  refine x_get C (va_up_self _ _ _) rfl (in_KF _) 3 (by decide) (List.mem_cons_of_mem _ f_KF_222) rfl d_KF_enterUnder_13 ?_
  refine x_callV2 C (q_KI_enter l E (kd := q.1) (xw_keep hK (xw_neC hK hG (by decide))) (hL1.1 (t + 2) (by show t + 2 < (sK σ).length + 2; omega)) (hk1 t q hq).2 (xw_keep hS (xw_neC hS hG (by decide))) he1 hs0 hn0) (lk_KF_225 C.hts (Nat.le_of_ble_eq_true rfl) (Nat.le_of_ble_eq_true rfl)) (xw_keep hK (xw_neC hK hG (by decide))) rfl rfl d_KF_enterUnder_16 (Nat.le_of_ble_eq_true rfl) (Nat.le_of_ble_eq_true rfl) (Nat.le_of_ble_eq_true rfl) (fun r G' h => ?_)
  obtain ⟨rfl, ar', xs', g1, g2, g3, g4⟩ := h
  exact x_zret C (bI_nar _) (Nat.le_of_ble_eq_true rfl) (Nat.le_of_ble_eq_true rfl) d_KF_enterUnder_19 ⟨rfl, xCS_es (kd := q.1) (es := q.2) hG1 hL1 hn1 hk1 hv1 hs1 he1 hq g4 g2 g1 g3, (xFm.up hG (by decide)).tr (xFm.fr (hL1.1 (t + 2) (by show t + 2 < (sK σ).length + 2; omega)) g4)⟩
/-- entering under all keys: key i gets the arrival a + i + 1 -/
def enF (by1 : Int64) (s0 a : Nat) (i : Nat) (q : KD × List E3) : KD × List E3 := (q.1, entE q.1 q.2 (fK q.1 by1) (lN (a + i + 1)) s0)
def enB (ks : List (KD × List E3)) (by1 : Int64) (a : Nat) : Nat → Bool
  | 0 => false
  | t + 1 => enB ks by1 a t || (match ks[t]? with | some q => entB q.1 q.2 (fK q.1 by1) (lN (a + t + 1)) | none => false)
theorem enB_s {ks : List (KD × List E3)} {by1 : Int64} {a t : Nat} {q : KD × List E3} (h : ks[t]? = some q) : enB ks by1 a (t + 1) = (enB ks by1 a t || entB q.1 q.2 (fK q.1 by1) (lN (a + t + 1))) := by
  show (enB ks by1 a t || _) = _
  rw [h]
set_option maxRecDepth 100000 in
set_option maxHeartbeats 4000000 in
theorem q_KF_enterUnderAllKeys (l : Launch) (E : xE) {G : xw_G} {x s0 : Nat} {σ : CS} {by1 : Int64} {th : Bool} (h : xCS E G x σ) (hd : sD σ s0 = some (by1, th)) (h6 : (sK σ).length ≤ 6) (ho : ∀ (i : Nat) (q : KD × List E3), (sK σ)[i]? = some q → srt q.2 ∧ q.2.length ≤ 300) : XMk l E y_KF_enterUnderAllKeys w_KF_enterUnderAllKeys rm_KF_enterUnderAllKeys [.ref x, .ref s0] G (cPost E G x (some (.int (bI (enB (sK σ) by1 (sA σ) (sK σ).length)))) ((sK σ).mapIdx (enF by1 s0 (sA σ)), sV σ, sD σ, sO σ, sA σ + (sK σ).length, sW σ)) 12 2214 := by
  refine XM_of [some (.ref x), some (.ref s0), none, none] (XZ_st E) (by decide) rfl rfl rfl (Nat.le_of_ble_eq_true rfl) (fun p e s m below meth c C hnm => ?_)
  have hlen0 := xCS_len h
  have loop : ∀ (n t : Nat) (G1 : xw_G), t + n = (sK σ).length → xCS E G1 x (upto (enF by1 s0 (sA σ)) t (sK σ), sV σ, sD σ, sO σ, sA σ + t, sW σ) → xFm G G1 → XW p l e rm_KF_enterUnderAllKeys s m #[.ref x, .ref s0] below meth c (XQ below #[.ref x, .ref s0] s (xD E) xcl (xB E) (cPost E G x (some (.int (bI (enB (sK σ) by1 (sA σ) (sK σ).length)))) ((sK σ).mapIdx (enF by1 s0 (sA σ)), sV σ, sD σ, sO σ, sA σ + (sK σ).length, sW σ)) 12 2214) (xD E) xcl (xB E) 4 [some (.ref x), some (.ref s0), some (.int (bI (enB (sK σ) by1 (sA σ) t))), some (.int (nI t))] [] G1 (2 * t) (369 * t) := by
    intro n
    induction n with
    | zero =>
      intro t G1 hn h hF
      obtain ⟨lo, la, lc, hCB⟩ : ∃ lo la lc, xCB E G1 x (upto (enF by1 s0 (sA σ)) t (sK σ), sV σ, sD σ, sO σ, sA σ + t, sW σ) lo la lc := h
      obtain ⟨hG, hL, hnn, hk, hv, hs, he⟩ := id hCB
      have hlen : (lc 0).length = (sK σ).length := hnn.1.trans upto_len
      obtain ⟨cap0, md0, ff0, hL0, -⟩ := hL.1 0 (by omega)
      have ht : t = (sK σ).length := by omega
      refine x_iload_n C d_KF_enterUnderAllKeys_4 rfl rfl ?_
      refine x_aload_n C d_KF_enterUnderAllKeys_5 rfl rfl ?_
      refine x_get C hG rfl (in_KF _) 0 (by decide) (List.mem_cons_of_mem _ f_KF_10) rfl d_KF_enterUnderAllKeys_6 ?_
      refine x_callV0 C (q_AL_sizeL l E (hL.1 0 (by omega))) (lk_KF_19 C.hts (Nat.le_of_ble_eq_true rfl) (Nat.le_of_ble_eq_true rfl)) hL0 rfl rfl d_KF_enterUnderAllKeys_9 (Nat.le_of_ble_eq_true rfl) (by show 2 * t + 0 ≤ 12; omega) (by show 369 * t + 0 ≤ 2214; omega) (fun r G' h => ?_)
      obtain ⟨rfl, rfl⟩ := h
      rw [hlen]
      refine x_icmp_ge C 42 d_KF_enterUnderAllKeys_12 (by decide) (fun c_12 => ?_) (fun c_12 => ?_)
      · refine XW.wid (cells := 12) (slots := 2214) ?_ (by omega) (by omega)
        refine x_iload_n C d_KF_enterUnderAllKeys_42 rfl rfl ?_
        exact x_zret C (bI_nar _) (Nat.le_of_ble_eq_true rfl) (Nat.le_of_ble_eq_true rfl) d_KF_enterUnderAllKeys_43 ⟨by rw [ht], by rw [← upto_ge (Nat.le_refl (sK σ).length), ← ht]; exact ⟨lo, la, lc, hCB⟩, hF⟩
      · exact absurd (nI_le (by omega) (by omega)) c_12
    | succ n ih =>
      intro t G1 hn h hF
      obtain ⟨lo, la, lc, hCB⟩ : ∃ lo la lc, xCB E G1 x (upto (enF by1 s0 (sA σ)) t (sK σ), sV σ, sD σ, sO σ, sA σ + t, sW σ) lo la lc := h
      obtain ⟨hG, hL, hnn, hk, hv, hs, he⟩ := id hCB
      have hlen : (lc 0).length = (sK σ).length := hnn.1.trans upto_len
      obtain ⟨cap0, md0, ff0, hL0, -⟩ := hL.1 0 (by omega)
      obtain ⟨q, hq⟩ := e_lt (show t < (sK σ).length by omega)
      obtain ⟨⟨a, ha, hK⟩, hX⟩ := hk t q (upto_cur hq)
      obtain ⟨o1, o2⟩ := ho t q hq
      refine x_iload_n C d_KF_enterUnderAllKeys_4 rfl rfl ?_
      refine x_aload_n C d_KF_enterUnderAllKeys_5 rfl rfl ?_
      refine x_get C hG rfl (in_KF _) 0 (by decide) (List.mem_cons_of_mem _ f_KF_10) rfl d_KF_enterUnderAllKeys_6 ?_
      refine x_callV0 C (q_AL_sizeL l E (hL.1 0 (by omega))) (lk_KF_19 C.hts (Nat.le_of_ble_eq_true rfl) (Nat.le_of_ble_eq_true rfl)) hL0 rfl rfl d_KF_enterUnderAllKeys_9 (Nat.le_of_ble_eq_true rfl) (by show 2 * t + 0 ≤ 12; omega) (by show 369 * t + 0 ≤ 2214; omega) (fun r G' h => ?_)
      obtain ⟨rfl, rfl⟩ := h
      rw [hlen]
      refine x_icmp_ge C 42 d_KF_enterUnderAllKeys_12 (by decide) (fun c_12 => ?_) (fun c_12 => ?_)
      · exact absurd c_12 (nI_ge (by omega) (by omega))
      · refine x_aload_n C d_KF_enterUnderAllKeys_15 rfl rfl ?_
        refine x_aload_n C d_KF_enterUnderAllKeys_16 rfl rfl ?_
        refine x_get C hG rfl (in_KF _) 0 (by decide) (List.mem_cons_of_mem _ f_KF_10) rfl d_KF_enterUnderAllKeys_17 ?_
        refine x_iload_n C d_KF_enterUnderAllKeys_20 rfl rfl ?_
        refine x_callV1 C (q_AL_getL l E (hL.1 0 (by omega)) ha) (lk_KF_177 C.hts (Nat.le_of_ble_eq_true rfl) (Nat.le_of_ble_eq_true rfl)) hL0 rfl rfl d_KF_enterUnderAllKeys_21 (Nat.le_of_ble_eq_true rfl) (by show 2 * t + 0 ≤ 12; omega) (by show 369 * t + 0 ≤ 2214; omega) (fun r G' h => ?_)
        obtain ⟨rfl, rfl⟩ := h
        refine x_castS C hK rfl (List.mem_cons_of_mem _ cl_KF_27) d_KF_enterUnderAllKeys_24 ?_
        refine x_aload_n C d_KF_enterUnderAllKeys_27 rfl rfl ?_
        refine x_callV2 C (q_KF_enterUnder l E hCB (upto_cur hq) ha hK hd o1 o2) (lk_KF_218 C.hts (Nat.le_of_ble_eq_true rfl) (Nat.le_of_ble_eq_true rfl)) hG rfl rfl d_KF_enterUnderAllKeys_28 (Nat.le_of_ble_eq_true rfl) (by show 2 * t + 2 ≤ 12; omega) (by show 369 * t + 369 ≤ 2214; omega) (fun r G' h => ?_)
        obtain ⟨rfl, hz, hF2⟩ := h
        have hz : xCS E G' x (upto (enF by1 s0 (sA σ)) (t + 1) (sK σ), sV σ, sD σ, sO σ, sA σ + (t + 1), sW σ) := by rw [← upto_set hq]; exact hz
        refine x_if_eq C 36 d_KF_enterUnderAllKeys_31 (by decide) (fun c_31 => ?_) (fun c_31 => ?_)
        · refine x_iinc C d_KF_enterUnderAllKeys_36 rfl rfl rfl ?_
          refine x_goto C 4 d_KF_enterUnderAllKeys_39 (by decide) ?_
          have e1 : nI t + Int32.ofInt 1 = nI (t + 1) := nI_1 t
          have e2 : bI (enB (sK σ) by1 (sA σ) (t + 1)) = bI (enB (sK σ) by1 (sA σ) t) := by rw [enB_s hq, (bI_0 _).mp c_31, Bool.or_false]
          rw [e1, ← e2]
          exact ih (t + 1) _ (by omega) hz (hF.tr hF2)
        · refine x_iconst C (v := 1) d_KF_enterUnderAllKeys_34 (by decide) ?_
          refine x_istore_n C d_KF_enterUnderAllKeys_35 rfl (Nat.le_of_ble_eq_true rfl) rfl ?_
          refine x_iinc C d_KF_enterUnderAllKeys_36 rfl rfl rfl ?_
          refine x_goto C 4 d_KF_enterUnderAllKeys_39 (by decide) ?_
          have e1 : nI t + Int32.ofInt 1 = nI (t + 1) := nI_1 t
          have e2 : bI (enB (sK σ) by1 (sA σ) (t + 1)) = 1 := by rw [enB_s hq, show entB q.1 q.2 (fK q.1 by1) (lN (sA σ + t + 1)) = true from by cases hz : entB q.1 q.2 (fK q.1 by1) (lN (sA σ + t + 1)) with | true => rfl | false => exact absurd (by rw [hz]; rfl) c_31, Bool.or_true]; rfl
          rw [e1]
          refine XW.eqs (ih (t + 1) _ (by omega) hz (hF.tr hF2)) (by rw [e2]; rfl) rfl rfl
  refine x_iconst C (v := 0) d_KF_enterUnderAllKeys_0 (by decide) ?_
  refine x_istore_n C d_KF_enterUnderAllKeys_1 rfl (Nat.le_of_ble_eq_true rfl) rfl ?_
  refine x_iconst C (v := 0) d_KF_enterUnderAllKeys_2 (by decide) ?_
  refine x_istore_n C d_KF_enterUnderAllKeys_3 rfl (Nat.le_of_ble_eq_true rfl) rfl ?_
  refine XW.eqs (loop (sK σ).length 0 G (by omega) ?_ xFm.rf) rfl rfl rfl
  rw [upto_0]
  exact h
