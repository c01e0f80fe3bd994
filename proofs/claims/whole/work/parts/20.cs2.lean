/-! THE CLASS'S STATE, changed piece by piece -/
theorem xFr_obj {E : xE} {G G' : xw_G} {h ar a ci : Nat} {xs : List Nat} {fs : List Value} (hA : xAL E G h ar xs) (hF : xFr E G G' h ar) (ha : G a = some (.inr (ci, fs))) (hne : a ≠ h) : G' a = some (.inr (ci, fs)) := by
  obtain ⟨cap, md, f, h1, h2, -⟩ := hA
  exact hF a _ ha hne (fun q => absurd q (xw_neA ha h2))
theorem xEm_fr {E : xE} {G G' : xw_G} {h ar : Nat} {xs : List Nat} (hA : xAL E G h ar xs) (hF : xFr E G G' h ar) (h0 : xEm E G) : xEm E G' := by
  obtain ⟨cap, md, f, h1, h2, -⟩ := hA
  obtain ⟨g, hg⟩ := h0
  exact ⟨g, hF _ _ hg (xw_neA h1 hg).symm (fun q => rfl)⟩
/-- list i gets another array and another content; the others stay -/
theorem xLS_list {E : xE} {G G' : xw_G} {n i ar' : Nat} {lo la : Nat → Nat} {lc : Nat → List Nat} {xs' : List Nat} (h : xLS E G n lo la lc) (hi : i < n + 2) (hF : xFr E G G' (lo i) (la i)) (hA' : xAL E G' (lo i) ar' xs') (har : ar' = la i ∨ G ar' = none) : xLS E G' n lo (va_up la i ar') (va_up lc i xs') := by
  refine ⟨fun j hj => ?_, h.2.1, fun j k hj hk e => ?_⟩
  · by_cases hji : j = i
    · subst hji
      rw [va_up_self, va_up_self]
      exact hA'
    · rw [va_up_ne _ _ hji, va_up_ne _ _ hji]
      obtain ⟨cap, md, f, h1, h2, h3⟩ := h.1 j hj
      obtain ⟨cap2, md2, f2, g1, g2, -⟩ := h.1 i hi
      refine ⟨cap, md, f, hF _ _ h1 (fun q => hji (h.2.1 j i hj hi q)) (fun q => absurd q (xw_neA h1 g2)), hF _ _ h2 (xw_neA g1 h2).symm (fun q => ?_), h3⟩
      rcases h.2.2 j i hj hi q with e | e
      · exact absurd e hji
      · exact e
  · have fresh : ∀ m : Nat, m < n + 2 → G ar' = none → ar' ≠ la m := by
      intro m hm hq e
      obtain ⟨cap, md, f, h1, h2, h3⟩ := h.1 m hm
      rw [← e, hq] at h2
      cases h2
    by_cases hji : j = i
    · subst hji
      by_cases hki : k = j
      · exact Or.inl hki.symm
      · rw [va_up_self, va_up_ne _ _ hki] at e
        rcases har with rfl | hq
        · rcases h.2.2 j k hj hk e with q | q
          · exact Or.inl q
          · exact Or.inr (by rw [va_up_self]; exact q)
        · exact absurd e (fresh k hk hq)
    · rw [va_up_ne _ _ hji] at e ⊢
      by_cases hki : k = i
      · subst hki
        rw [va_up_self] at e
        rcases har with rfl | hq
        · exact h.2.2 j k hj hk e
        · exact absurd e.symm (fresh j hj hq)
      · rw [va_up_ne _ _ hki] at e
        exact h.2.2 j k hj hk e
theorem xEL_fr {E : xE} {G G' : xw_G} {h ar : Nat} {ys xs : List Nat} {es : List E3} (hA : xAL E G h ar ys) (hF : xFr E G G' h ar) (hx : xEL G xs es) : xEL G' xs es := by
  refine ⟨hx.1, fun j e hj => ?_⟩
  obtain ⟨b, h1, h2⟩ := hx.2 j e hj
  exact ⟨b, h1, xAL_keep hA hF h2 (by decide)⟩
abbrev CS.es (σ : CS) (m : Nat) (kd : KD) (es : List E3) : CS := ((sK σ).set m (kd, es), sV σ, sD σ, sO σ, sA σ, sW σ)
/-- key m gets other entries -/
theorem xCS_es {E : xE} {G G' : xw_G} {x m ar' : Nat} {σ : CS} {kd : KD} {es es' : List E3} {lo la : Nat → Nat} {lc : Nat → List Nat} {xs' : List Nat} (hG : G x = some (eKF (lo 0) (lo 1) (sO σ) (lN (sA σ)) (lN (sW σ)))) (hL : xLS E G (sK σ).length lo la lc)
    (hn : (lc 0).length = (sK σ).length ∧ (lc 0).Nodup ∧ (lc 1).length = (sV σ).length ∧ (lc 1).Nodup)
    (hk : ∀ (i : Nat) (q : KD × List E3), (sK σ)[i]? = some q → (∃ a : Nat, (lc 0)[i]? = some a ∧ G a = some (cKI q.1 (lo (i + 2)))) ∧ xEL G (lc (i + 2)) q.2)
    (hv : ∀ (i : Nat) (v : VD), (sV σ)[i]? = some v → ∃ a : Nat, (lc 1)[i]? = some a ∧ G a = some (cVW v))
    (hs : ∀ (r : Nat) (d : Int64 × Bool), sD σ r = some d → ∃ w : Nat, w ≤ sW σ ∧ G r = some (eST d.1 d.2 (lN w))) (he : xEm E G)
    (hm : (sK σ)[m]? = some (kd, es)) (hF : xFr E G G' (lo (m + 2)) (la (m + 2))) (hA' : xAL E G' (lo (m + 2)) ar' xs') (har : ar' = la (m + 2) ∨ G ar' = none) (hE' : xEL G' xs' es') : xCS E G' x (σ.es m kd es') := by
  have hml : m < (sK σ).length := (List.getElem?_eq_some_iff.mp hm).1
  have hA := hL.1 (m + 2) (by omega)
  have e0 : va_up lc (m + 2) xs' 0 = lc 0 := va_up_ne _ _ (by omega)
  have e1 : va_up lc (m + 2) xs' 1 = lc 1 := va_up_ne _ _ (by omega)
  refine ⟨lo, va_up la (m + 2) ar', va_up lc (m + 2) xs', xAL_keep hA hF hG (by decide), ?_, ?_, fun i q hq => ?_, fun i v hvi => ?_, fun r d hr => ?_, xEm_fr hA hF he⟩
  · show xLS E G' ((sK σ).set m (kd, es')).length lo _ _
    rw [List.length_set]
    exact xLS_list hL (by omega) hF hA' har
  · rw [e0, e1]
    refine ⟨?_, hn.2⟩
    show _ = ((sK σ).set m (kd, es')).length
    rw [List.length_set]
    exact hn.1
  · rw [e0]
    rcases set_at hq with ⟨rfl, rfl⟩ | ⟨hne, hq⟩
    · obtain ⟨⟨b, h1, h2⟩, h3⟩ := hk i _ hm
      exact ⟨⟨b, h1, xAL_keep hA hF h2 (by decide)⟩, by rw [va_up_self]; exact hE'⟩
    · obtain ⟨⟨b, h1, h2⟩, h3⟩ := hk i q hq
      exact ⟨⟨b, h1, xAL_keep hA hF h2 (by decide)⟩, by rw [va_up_ne _ _ (by omega)]; exact xEL_fr hA hF h3⟩
  · rw [e1]
    obtain ⟨b, h1, h2⟩ := hv i v hvi
    exact ⟨b, h1, xAL_keep hA hF h2 (by decide)⟩
  · obtain ⟨w, h1, h2⟩ := hs r d hr
    exact ⟨w, h1, xAL_keep hA hF h2 (by decide)⟩
/-- KeyedFiles' own numbers change -/
theorem xCS_kf {E : xE} {G : xw_G} {x : Nat} {σ : CS} {lo la : Nat → Nat} {lc : Nat → List Nat} (o : Bool) (a w : Nat) (hG : G x = some (eKF (lo 0) (lo 1) (sO σ) (lN (sA σ)) (lN (sW σ)))) (hL : xLS E G (sK σ).length lo la lc)
    (hn : (lc 0).length = (sK σ).length ∧ (lc 0).Nodup ∧ (lc 1).length = (sV σ).length ∧ (lc 1).Nodup)
    (hk : ∀ (i : Nat) (q : KD × List E3), (sK σ)[i]? = some q → (∃ a : Nat, (lc 0)[i]? = some a ∧ G a = some (cKI q.1 (lo (i + 2)))) ∧ xEL G (lc (i + 2)) q.2)
    (hv : ∀ (i : Nat) (v : VD), (sV σ)[i]? = some v → ∃ a : Nat, (lc 1)[i]? = some a ∧ G a = some (cVW v))
    (hs : ∀ (r : Nat) (d : Int64 × Bool), sD σ r = some d → ∃ w : Nat, w ≤ sW σ ∧ G r = some (eST d.1 d.2 (lN w))) (he : xEm E G) (hw : sW σ ≤ w) :
    xCS E (va_up G x (some (eKF (lo 0) (lo 1) o (lN a) (lN w)))) x (sK σ, sV σ, sD σ, o, a, w) := by
  refine ⟨lo, la, lc, va_up_self _ _ _, xLS_up hG (by decide) hL, hn, fun j q hj => ?_, fun j u hj => ?_, fun r d hr => ?_, xEm_up hG he⟩
  · obtain ⟨⟨b, h1, h2⟩, h3⟩ := hk j q hj
    exact ⟨⟨b, h1, xw_keep h2 (xw_neC h2 hG (by decide))⟩, xEL_up hG (by decide) h3⟩
  · obtain ⟨b, h1, h2⟩ := hv j u hj
    exact ⟨b, h1, xw_keep h2 (xw_neC h2 hG (by decide))⟩
  · obtain ⟨w0, h1, h2⟩ := hs r d hr
    exact ⟨w0, by show w0 ≤ w; omega, xw_keep h2 (xw_neC h2 hG (by decide))⟩
/-- key m gets other words (sparse) -/
theorem xCS_kd {E : xE} {G : xw_G} {x m a : Nat} {σ : CS} {kd kd' : KD} {es : List E3} {lo la : Nat → Nat} {lc : Nat → List Nat} (hG : G x = some (eKF (lo 0) (lo 1) (sO σ) (lN (sA σ)) (lN (sW σ)))) (hL : xLS E G (sK σ).length lo la lc)
    (hn : (lc 0).length = (sK σ).length ∧ (lc 0).Nodup ∧ (lc 1).length = (sV σ).length ∧ (lc 1).Nodup)
    (hk : ∀ (i : Nat) (q : KD × List E3), (sK σ)[i]? = some q → (∃ a : Nat, (lc 0)[i]? = some a ∧ G a = some (cKI q.1 (lo (i + 2)))) ∧ xEL G (lc (i + 2)) q.2)
    (hv : ∀ (i : Nat) (v : VD), (sV σ)[i]? = some v → ∃ a : Nat, (lc 1)[i]? = some a ∧ G a = some (cVW v))
    (hs : ∀ (r : Nat) (d : Int64 × Bool), sD σ r = some d → ∃ w : Nat, w ≤ sW σ ∧ G r = some (eST d.1 d.2 (lN w))) (he : xEm E G)
    (hm : (sK σ)[m]? = some (kd, es)) (ha : (lc 0)[m]? = some a) (hGa : G a = some (cKI kd (lo (m + 2)))) : xCS E (va_up G a (some (cKI kd' (lo (m + 2))))) x (σ.es m kd' es) := by
  refine ⟨lo, la, lc, xw_keep hG (xw_neC hG hGa (by decide)), ?_, ⟨by show _ = ((sK σ).set m (kd', es)).length; rw [List.length_set]; exact hn.1, hn.2⟩, fun j q hj => ?_, fun j u hj => ?_, fun r d hr => ?_, xEm_up hGa he⟩
  · show xLS E _ ((sK σ).set m (kd', es)).length lo _ _
    rw [List.length_set]
    exact xLS_up hGa (by decide) hL
  · rcases set_at hj with ⟨rfl, rfl⟩ | ⟨hji, hj⟩
    · exact ⟨⟨a, ha, va_up_self _ _ _⟩, xEL_up hGa (by decide) (hk j _ hm).2⟩
    · obtain ⟨⟨b, h1, h2⟩, h3⟩ := hk j q hj
      exact ⟨⟨b, h1, xw_keep h2 (fun z => hji (nodup_at hn.2.1 h1 (by rw [z]; exact ha)))⟩, xEL_up hGa (by decide) h3⟩
  · obtain ⟨b, h1, h2⟩ := hv j u hj
    exact ⟨b, h1, xw_keep h2 (xw_neC h2 hGa (by decide))⟩
  · obtain ⟨w, h1, h2⟩ := hs r d hr
    exact ⟨w, h1, xw_keep h2 (xw_neC h2 hGa (by decide))⟩
/-- a record's cell changes -/
theorem xCS_st {E : xE} {G : xw_G} {x r0 w0 : Nat} {σ : CS} {d0 d1 : Int64 × Bool} {sw : Int64} {lo la : Nat → Nat} {lc : Nat → List Nat} (hG : G x = some (eKF (lo 0) (lo 1) (sO σ) (lN (sA σ)) (lN (sW σ)))) (hL : xLS E G (sK σ).length lo la lc)
    (hn : (lc 0).length = (sK σ).length ∧ (lc 0).Nodup ∧ (lc 1).length = (sV σ).length ∧ (lc 1).Nodup)
    (hk : ∀ (i : Nat) (q : KD × List E3), (sK σ)[i]? = some q → (∃ a : Nat, (lc 0)[i]? = some a ∧ G a = some (cKI q.1 (lo (i + 2)))) ∧ xEL G (lc (i + 2)) q.2)
    (hv : ∀ (i : Nat) (v : VD), (sV σ)[i]? = some v → ∃ a : Nat, (lc 1)[i]? = some a ∧ G a = some (cVW v))
    (hs : ∀ (r : Nat) (d : Int64 × Bool), sD σ r = some d → ∃ w : Nat, w ≤ sW σ ∧ G r = some (eST d.1 d.2 (lN w))) (he : xEm E G)
    (hGa : G r0 = some (eST d0.1 d0.2 sw)) (hw : w0 ≤ sW σ) : xCS E (va_up G r0 (some (eST d1.1 d1.2 (lN w0)))) x (sK σ, sV σ, va_up (sD σ) r0 (some d1), sO σ, sA σ, sW σ) := by
  refine ⟨lo, la, lc, xw_keep hG (xw_neC hG hGa (by decide)), xLS_up hGa (by decide) hL, hn, fun j q hj => ?_, fun j u hj => ?_, fun r d hr => ?_, xEm_up hGa he⟩
  · obtain ⟨⟨b, h1, h2⟩, h3⟩ := hk j q hj
    exact ⟨⟨b, h1, xw_keep h2 (xw_neC h2 hGa (by decide))⟩, xEL_up hGa (by decide) h3⟩
  · obtain ⟨b, h1, h2⟩ := hv j u hj
    exact ⟨b, h1, xw_keep h2 (xw_neC h2 hGa (by decide))⟩
  · by_cases hrr : r = r0
    · subst hrr
      have hr : va_up (sD σ) r (some d1) r = some d := hr
      rw [va_up_self] at hr
      cases hr
      exact ⟨w0, hw, va_up_self _ _ _⟩
    · have hr : va_up (sD σ) r0 (some d1) r = some d := hr
      rw [va_up_ne _ _ hrr] at hr
      obtain ⟨w, h1, h2⟩ := hs r d hr
      exact ⟨w, h1, xw_keep h2 hrr⟩
/-- a new record's cell -/
theorem xCS_stN {E : xE} {G : xw_G} {x r0 : Nat} {σ : CS} {d1 : Int64 × Bool} (h : xCS E G x σ) (hq : G r0 = none) : xCS E (va_up G r0 (some (eST d1.1 d1.2 0))) x (sK σ, sV σ, va_up (sD σ) r0 (some d1), sO σ, sA σ, sW σ) := by
  obtain ⟨lo, la, lc, hG, hL, hn, hk, hv, hs, he⟩ := h
  have kp : ∀ {a : Nat} {e : va_E}, G a = some e → va_up G r0 (some (eST d1.1 d1.2 0)) a = some e := fun h => xw_keep h (xw_neF hq h)
  refine ⟨lo, la, lc, kp hG, ⟨fun i hi => xAL_fresh hq (hL.1 i hi), hL.2⟩, hn, fun j q hj => ?_, fun j u hj => ?_, fun r d hr => ?_, xEm_fresh hq he⟩
  · obtain ⟨⟨b, h1, h2⟩, h3, h4⟩ := hk j q hj
    refine ⟨⟨b, h1, kp h2⟩, h3, fun i e hi => ?_⟩
    obtain ⟨b2, g1, g2⟩ := h4 i e hi
    exact ⟨b2, g1, kp g2⟩
  · obtain ⟨b, h1, h2⟩ := hv j u hj
    exact ⟨b, h1, kp h2⟩
  · by_cases hrr : r = r0
    · subst hrr
      have hr : va_up (sD σ) r (some d1) r = some d := hr
      rw [va_up_self] at hr
      cases hr
      exact ⟨0, Nat.zero_le _, va_up_self _ _ _⟩
    · have hr : va_up (sD σ) r0 (some d1) r = some d := hr
      rw [va_up_ne _ _ hrr] at hr
      obtain ⟨w, h1, h2⟩ := hs r d hr
      exact ⟨w, h1, kp h2⟩
