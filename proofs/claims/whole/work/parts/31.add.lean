theorem x_callIN0 {p : Program} {l : Launch} {e : Env} {R : Room} {s : State} {m : MethodId} {args : Array Value} {below : List Frame} {meth : Method} {c : Code} {Q : State → Prop} {D : va_G} {cl : List vw_C} {B : Nat} {cc : ByteArray} {nL : Nat} {own : String} {Ts : List Cond} {tys : List (ClassId × FieldType)} {Z : State → Prop} {ret : Option FieldType} {pc : Nat} {vs : List (Option Value)} {st : List Value} {G : xw_G} {cells slots : Nat} (C : XC p s m args meth c cc nL own Ts D cl tys B Z ret)
    {y : MethodName} {ws : List Cond} {rm : Room} {mc ms index maxL : Nat} {bytes : ByteArray} {post : Option Value → xw_G → Prop} {b : Nat} {host : String} (hM : XM l y ws rm D cl tys B Z [.ref b] G post mc ms) (cw : va_CN R s args own index y host bytes maxL none ws rm mc ms 0 ∧ y.name = "<init>" ∧ (Cond.instanceMethod y).before args s = true) (hvl : vs.length = nL) (hd : decode cc pc = .ok (.invokespecial index, 3)) (hW : (st.map fun v => v.category).sum ≤ 8) (hf1 : cells + mc ≤ R.cells) (hf2 : slots + ms ≤ R.slots)
    (kk : ∀ (r : Option Value) (G' : xw_G), post r G' → XW p l e R s m args below meth c Q D cl B (pc + 3) vs (r.toList ++ st) G' (cells + mc) (slots + ms)) : XW p l e R s m args below meth c Q D cl B pc vs (.ref b :: st) G cells slots := fun H locs ls hP hS hl => xw_call C (va_runIN (As := []) (rest := st) ⟨C.hx, C.hb, C.hml, C.hown, C.hts⟩ hM cw ⟨xw_blind C.hZs, fun U hU hWm => xw_pre C hP hS U hU hWm⟩ rfl rfl (by rw [show (F0 m pc ls _).locals.size = ls.size from rfl, hl.1]; exact hvl) rfl (lv_room hW) hd ⟨hf1, hf2⟩) hS (fun r G' H1 locs1 hp hP1 hS1 => kk r G' hp H1 locs1 ls hP1 hS1 hl)
theorem xCB_fresh {E : xE} {G : xw_G} {x a : Nat} {σ : CS} {lo la : Nat → Nat} {lc : Nat → List Nat} {e : va_E} (hC : xCB E G x σ lo la lc) (hq : G a = none) : xCB E (va_up G a (some e)) x σ lo la lc := by
  obtain ⟨hG, hL, hn, hk, hv, hs, he⟩ := hC
  have kp : ∀ {b : Nat} {e0 : va_E}, G b = some e0 → va_up G a (some e) b = some e0 := fun h => xw_keep h (xw_neF hq h)
  refine ⟨kp hG, ⟨fun i hi => xAL_fresh hq (hL.1 i hi), hL.2⟩, hn, fun j q hj => ?_, fun j u hj => ?_, fun r d hr => ?_, xEm_fresh hq he⟩
  · obtain ⟨⟨b, h1, h2⟩, h3, h4⟩ := hk j q hj
    refine ⟨⟨b, h1, kp h2⟩, h3, fun i e0 hi => ?_⟩
    obtain ⟨b2, g1, g2⟩ := h4 i e0 hi
    exact ⟨b2, g1, kp g2⟩
  · obtain ⟨b, h1, h2⟩ := hv j u hj
    exact ⟨b, h1, kp h2⟩
  · obtain ⟨w, h1, h2⟩ := hs r d hr
    exact ⟨w, h1, kp h2⟩
theorem app_at {α : Type} {l : List α} {i : Nat} {v q : α} (h : (l ++ [v])[i]? = some q) : (i = l.length ∧ q = v) ∨ (i < l.length ∧ l[i]? = some q) := by
  by_cases hi : i < l.length
  · rw [List.getElem?_append_left hi] at h
    exact Or.inr ⟨hi, h⟩
  · rw [List.getElem?_append_right (by omega)] at h
    have hz : i - l.length < 1 := (List.getElem?_eq_some_iff.mp h).1
    rw [show i - l.length = 0 by omega] at h
    exact Or.inl ⟨by omega, (Option.some.inj h).symm⟩
theorem nodup_app {l : List Nat} {a : Nat} (h : l.Nodup) (ha : a ∉ l) : (l ++ [a]).Nodup := by
  rw [List.nodup_append]
  exact ⟨h, by simp, fun x hx y hy => by rw [List.mem_singleton.mp hy]; exact fun z => ha (z ▸ hx)⟩
theorem xCB_kel {E : xE} {G : xw_G} {x : Nat} {σ : CS} {lo la : Nat → Nat} {lc : Nat → List Nat} (hC : xCB E G x σ lo la lc) : ∀ y ∈ lc 0, xw_el G y := by
  obtain ⟨hG, hL, hn, hk, hv, hs, he⟩ := hC
  intro y hy
  obtain ⟨i, hi⟩ := List.getElem?_of_mem hy
  obtain ⟨q, hq⟩ := e_lt (show i < (sK σ).length by rw [← hn.1]; exact (List.getElem?_eq_some_iff.mp hi).1)
  obtain ⟨⟨a, h1, h2⟩, -⟩ := hk i q hq
  rw [hi] at h1
  cases h1
  exact ⟨2, _, h2, Or.inr (Or.inl rfl)⟩
theorem xCB_vel {E : xE} {G : xw_G} {x : Nat} {σ : CS} {lo la : Nat → Nat} {lc : Nat → List Nat} (hC : xCB E G x σ lo la lc) : ∀ y ∈ lc 1, xw_el G y := by
  obtain ⟨hG, hL, hn, hk, hv, hs, he⟩ := hC
  intro y hy
  obtain ⟨i, hi⟩ := List.getElem?_of_mem hy
  obtain ⟨q, hq⟩ := e_lt (show i < (sV σ).length by rw [← hn.2.2.1]; exact (List.getElem?_eq_some_iff.mp hi).1)
  obtain ⟨a, h1, h2⟩ := hv i q hq
  rw [hi] at h1
  cases h1
  exact ⟨4, _, h2, Or.inr (Or.inr rfl)⟩
/-- a view more -/
theorem xCS_addV {E : xE} {G G' : xw_G} {x va ar' : Nat} {σ : CS} {lo la : Nat → Nat} {lc : Nat → List Nat} {v0 : VD} (hC : xCB E G x σ lo la lc) (hq : G va = none) (hF : xFr E (va_up G va (some (cVW v0))) G' (lo 1) (la 1)) (hA' : xAL E G' (lo 1) ar' (lc 1 ++ [va])) (har : ar' = la 1 ∨ va_up G va (some (cVW v0)) ar' = none) : xCS E G' x (sK σ, sV σ ++ [v0], sD σ, sO σ, sA σ, sW σ) := by
  have hva : va ∉ lc 1 := fun hm => by
    obtain ⟨ci, fs, h1, -⟩ := xCB_vel hC va hm
    rw [hq] at h1
    cases h1
  obtain ⟨hG, hL, hn, hk, hv, hs, he⟩ := xCB_fresh (e := cVW v0) hC hq
  have hA := hL.1 1 (by omega)
  have e0 : va_up lc 1 (lc 1 ++ [va]) 0 = lc 0 := va_up_ne _ _ (by omega)
  refine ⟨lo, va_up la 1 ar', va_up lc 1 (lc 1 ++ [va]), xAL_keep hA hF hG (by decide), xLS_list hL (by omega) hF hA' har, ?_, fun i q hqi => ?_, fun i v hvi => ?_, fun r d hr => ?_, xEm_fr hA hF he⟩
  · rw [e0, va_up_self]
    exact ⟨hn.1, hn.2.1, by show (lc 1 ++ [va]).length = (sV σ ++ [v0]).length; simp [hn.2.2.1], nodup_app hn.2.2.2 hva⟩
  · rw [e0]
    obtain ⟨⟨b, h1, h2⟩, h3⟩ := hk i q hqi
    exact ⟨⟨b, h1, xAL_keep hA hF h2 (by decide)⟩, by rw [va_up_ne _ _ (by omega)]; exact xEL_fr hA hF h3⟩
  · rw [va_up_self]
    rcases app_at hvi with ⟨h1, h2⟩ | ⟨h1, h2⟩
    · subst h2
      refine ⟨va, by rw [h1, ← hn.2.2.1, List.getElem?_append_right (Nat.le_refl _), Nat.sub_self]; rfl, xAL_keep hA hF (va_up_self _ _ _) (by decide)⟩
    · obtain ⟨b, g1, g2⟩ := hv i v h2
      exact ⟨b, by rw [List.getElem?_append_left (by rw [hn.2.2.1]; exact h1)]; exact g1, xAL_keep hA hF g2 (by decide)⟩
  · obtain ⟨w, h1, h2⟩ := hs r d hr
    exact ⟨w, h1, xAL_keep hA hF h2 (by decide)⟩
/-- a key more -/
theorem xCS_addK {E : xE} {G G' : xw_G} {x ki q0 ar' : Nat} {σ : CS} {lo la : Nat → Nat} {lc : Nat → List Nat} {kd : KD} (hC : xCB E G x σ lo la lc) (hq : G q0 = none) (hkn : G ki = none) (hne : ki ≠ q0)
    (hF : xFr E (va_up (va_up G q0 (some (eAL (xaE E) 0 0))) ki (some (cKI kd q0))) G' (lo 0) (la 0)) (hA' : xAL E G' (lo 0) ar' (lc 0 ++ [ki])) (har : ar' = la 0 ∨ va_up (va_up G q0 (some (eAL (xaE E) 0 0))) ki (some (cKI kd q0)) ar' = none) : xCS E G' x (sK σ ++ [(kd, [])], sV σ, sD σ, sO σ, sA σ, sW σ) := by
  have hki : ki ∉ lc 0 := fun hm => by
    obtain ⟨ci, fs, h1, -⟩ := xCB_kel hC ki hm
    rw [hkn] at h1
    cases h1
  have hC1 := xCB_fresh (e := eAL (xaE E) 0 0) hC hq
  have hC2 := xCB_fresh (a := ki) (e := cKI kd q0) hC1 (by rw [va_up_ne _ _ hne]; exact hkn)
  have hGq : va_up (va_up G q0 (some (eAL (xaE E) 0 0))) ki (some (cKI kd q0)) q0 = some (eAL (xaE E) 0 0) := xw_keep (va_up_self _ _ _) hne.symm
  obtain ⟨hG, hL, hn, hk, hv, hs, he⟩ := hC2
  have hA := hL.1 0 (by omega)
  obtain ⟨fE, hfE⟩ := id he
  have hLq : ∀ i : Nat, i < (sK σ).length + 2 → lo i ≠ q0 := by
    intro i hi e
    obtain ⟨cap, md, f, h1, -⟩ := hC.2.1.1 i hi
    rw [e, hq] at h1
    cases h1
  -- the lists with the new one
  have hL2 : xLS E (va_up (va_up G q0 (some (eAL (xaE E) 0 0))) ki (some (cKI kd q0))) ((sK σ).length + 1) (va_up lo ((sK σ).length + 2) q0) (va_up la ((sK σ).length + 2) (xaE E)) (va_up lc ((sK σ).length + 2) []) := by
    refine ⟨fun i hi => ?_, fun i j hi hj e => ?_, fun i j hi hj e => ?_⟩
    · by_cases hil : i = (sK σ).length + 2
      · subst hil
        rw [va_up_self, va_up_self, va_up_self]
        exact ⟨0, 0, fE, hGq, hfE, Nat.le_refl _, by simp [capOK], fun _ => rfl, fun i hi => absurd hi (by simp)⟩
      · rw [va_up_ne _ _ hil, va_up_ne _ _ hil, va_up_ne _ _ hil]
        exact hL.1 i (by omega)
    · by_cases hil : i = (sK σ).length + 2 <;> by_cases hjl : j = (sK σ).length + 2
      · omega
      · subst hil
        rw [va_up_self, va_up_ne _ _ hjl] at e
        exact absurd e.symm (hLq j (by omega))
      · subst hjl
        rw [va_up_self, va_up_ne _ _ hil] at e
        exact absurd e (hLq i (by omega))
      · rw [va_up_ne _ _ hil, va_up_ne _ _ hjl] at e
        exact hL.2.1 i j (by omega) (by omega) e
    · by_cases hil : i = (sK σ).length + 2
      · subst hil
        exact Or.inr (va_up_self _ _ _)
      · by_cases hjl : j = (sK σ).length + 2
        · subst hjl
          rw [va_up_self] at e
          exact Or.inr e
        · rw [va_up_ne _ _ hil] at e ⊢
          rw [va_up_ne _ _ hjl] at e
          exact hL.2.2 i j (by omega) (by omega) e
  have f0 : va_up lo ((sK σ).length + 2) q0 0 = lo 0 := va_up_ne _ _ (by omega)
  have f1 : va_up lo ((sK σ).length + 2) q0 1 = lo 1 := va_up_ne _ _ (by omega)
  have f2 : va_up la ((sK σ).length + 2) (xaE E) 0 = la 0 := va_up_ne _ _ (by omega)
  have f3 : va_up lc ((sK σ).length + 2) [] 1 = lc 1 := va_up_ne _ _ (by omega)
  refine ⟨va_up lo ((sK σ).length + 2) q0, va_up (va_up la ((sK σ).length + 2) (xaE E)) 0 ar', va_up (va_up lc ((sK σ).length + 2) []) 0 (lc 0 ++ [ki]), ?_, ?_, ?_, fun i q hqi => ?_, fun i v hvi => ?_, fun r d hr => ?_, xEm_fr hA hF he⟩
  · rw [f0, f1]
    exact xAL_keep hA hF hG (by decide)
  · show xLS E G' (sK σ ++ [(kd, [])]).length _ _ _
    rw [List.length_append]
    exact xLS_list hL2 (by omega) (by rw [f0, f2]; exact hF) (by rw [f0]; exact hA') (by rw [f2]; exact har)
  · rw [va_up_self, va_up_ne _ _ (show 1 ≠ 0 by omega), f3]
    exact ⟨by show (lc 0 ++ [ki]).length = (sK σ ++ [(kd, [])]).length; simp [hn.1], nodup_app hn.2.1 hki, hn.2.2.1, hn.2.2.2⟩
  · rw [va_up_self, va_up_ne _ _ (show i + 2 ≠ 0 by omega)]
    rcases app_at hqi with ⟨h1, h2⟩ | ⟨h1, h2⟩
    · subst h2
      refine ⟨⟨ki, by rw [h1, ← hn.1, List.getElem?_append_right (Nat.le_refl _), Nat.sub_self]; rfl, ?_⟩, ?_⟩
      · rw [h1, va_up_self]
        exact xAL_keep hA hF (va_up_self _ _ _) (by decide)
      · rw [h1, va_up_self]
        exact ⟨rfl, fun j e hj => by simp at hj⟩
    · obtain ⟨⟨b, g1, g2⟩, g3⟩ := hk i q h2
      refine ⟨⟨b, by rw [List.getElem?_append_left (by rw [hn.1]; exact h1)]; exact g1, ?_⟩, ?_⟩
      · rw [va_up_ne _ _ (show i + 2 ≠ (sK σ).length + 2 by omega)]
        exact xAL_keep hA hF g2 (by decide)
      · rw [va_up_ne _ _ (show i + 2 ≠ (sK σ).length + 2 by omega)]
        exact xEL_fr hA hF g3
  · rw [va_up_ne _ _ (show 1 ≠ 0 by omega), f3]
    obtain ⟨b, h1, h2⟩ := hv i v hvi
    exact ⟨b, h1, xAL_keep hA hF h2 (by decide)⟩
  · obtain ⟨w, h1, h2⟩ := hs r d hr
    exact ⟨w, h1, xAL_keep hA hF h2 (by decide)⟩
