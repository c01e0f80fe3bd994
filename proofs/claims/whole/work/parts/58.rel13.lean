/-! JOINT CONTRACTS: rewrite -/
theorem nch_mono {ks : List (KD × List E3)} {b0 b1 : Int64} : ∀ {t k : Nat}, k ≤ t → nch ks b0 b1 k ≤ nch ks b0 b1 t
  | 0, k, h => by have : k = 0 := by omega
                  subst this; exact Nat.le_refl _
  | t + 1, k, h => by
    by_cases hk : k = t + 1
    · subst hk; exact Nat.le_refl _
    · exact Nat.le_trans (nch_mono (t := t) (by omega)) (Nat.le_add_right _ _)
theorem nch_le {ks : List (KD × List E3)} {b0 b1 : Int64} : ∀ {t : Nat}, nch ks b0 b1 t ≤ t
  | 0 => Nat.le_refl _
  | t + 1 => by
    have h := nch_le (ks := ks) (b0 := b0) (b1 := b1) (t := t)
    show nch ks b0 b1 t + _ ≤ _
    cases hq : ks[t]? with
    | none => show nch ks b0 b1 t + 0 ≤ _; omega
    | some q =>
      show nch ks b0 b1 t + (if chB b0 b1 q = true then 1 else 0) ≤ _
      split <;> omega
theorem nch_in {ks : List (KD × List E3)} {b0 b1 : Int64} {t k : Nat} {q : KD × List E3} (hq : ks[k]? = some q) (hc : chB b0 b1 q = true) (h : k < t) : nch ks b0 b1 k + 1 ≤ nch ks b0 b1 t := by
  have h1 := nch_s (b0 := b0) (b1 := b1) hq
  rw [if_pos hc] at h1
  rw [← h1]
  exact nch_mono h
theorem mvB_iff {ks : List (KD × List E3)} {b0 b1 : Int64} {s0 a : Nat} : ∀ {t : Nat}, mvB ks b0 b1 s0 a t = true ↔ ∃ k q, k < t ∧ ks[k]? = some q ∧ chB b0 b1 q = true ∧ entB q.1 (delS q.2 s0) (fK q.1 b1) (lN (a + nch ks b0 b1 k + 1)) = true
  | 0 => ⟨(fun h => by cases h), (fun ⟨k, q, h, _⟩ => by omega)⟩
  | t + 1 => by
    show (mvB ks b0 b1 s0 a t || _) = true ↔ _
    rw [Bool.or_eq_true, mvB_iff (t := t)]
    constructor
    · rintro (⟨k, q, h1, h2⟩ | h)
      · exact ⟨k, q, by omega, h2⟩
      · cases hq : ks[t]? with
        | none => rw [hq] at h; cases h
        | some q =>
          rw [hq] at h
          have h := (Bool.and_eq_true _ _ ▸ h : _ ∧ _)
          exact ⟨t, q, by omega, hq, h.1, h.2⟩
    · rintro ⟨k, q, h1, h2, h3, h4⟩
      by_cases hk : k = t
      · subst hk
        right
        rw [h2]
        show (chB b0 b1 q && _) = true
        rw [h3, h4]
        rfl
      · exact Or.inl ⟨k, q, by omega, h2, h3, h4⟩
def chK (ks : List (KD × List E3)) (b0 b1 : Int64) (k : Nat) : Bool := match ks[k]? with
  | some q => chB b0 b1 q
  | none => false
theorem chK_at {ks : List (KD × List E3)} {b0 b1 : Int64} {k : Nat} {q : KD × List E3} (h : ks[k]? = some q) : chK ks b0 b1 k = chB b0 b1 q := by unfold chK; rw [h]
section J9
variable {l : Launch} {E : xE} {x md : Nat} {a : Nat → Nat} {n : Nat} {G : xw_G} {σ : CS} {μ : MS}
/-- the witness behind a rewrite -/
abbrev rwW (σ : CS) (w : RW) (u : Nat) (b0 b1 : Int64) : RW :=
  (fun k c m => wP w k c m ∨ (chK (sK σ) b0 b1 k = true ∧ c = sA σ + nch (sK σ) b0 b1 k + 1 ∧ m = wN w + k + 1), fun k r => if r = u ∧ chK (sK σ) b0 b1 k = true then sA σ + nch (sK σ) b0 b1 k + 1 else wC w k r, wL w,
   fun k => match (sK σ)[k]? with
     | some q => if chB b0 b1 q = true then (if lft q.1 (fK q.1 b1) = true then (wR w k).filter (fun r => decide (¬ r = u)) else ((wR w k).filter (fun r => decide (¬ r = u))).insertIdx (cnt (delS q.2 (wL w u)) (fK q.1 b1) (lN (sA σ + nch (sK σ) b0 b1 k + 1))) u) else wR w k
     | none => wR w k,
   wN w + (sK σ).length, wM w)
theorem RelW.rw {w : RW} (hw : RelW σ μ n w) (hn : n < 600) {i : Nat} {v : VD} (hi : (sV σ)[i]? = some v) {q0 : KD × List E3} (hq0 : (sK σ)[0]? = some q0) {b1 : Int64} {u : Nat} (hu : u ∈ wR w 0) (hf0 : fK q0.1 (mJ μ 9 u) = fK q0.1 b1)
    (hdup : ∀ k q, (sK σ)[k]? = some q → q.1.1 = false → ∀ r ∈ wR w k, ¬ r = u → ¬ mF μ k (mJ μ 9 r) = fK q.1 b1) {M1 : MS} (hA : RA (mFg (sS μ 0 0) i) M1 u b1 false 0 (sK σ).length (wN w)) :
    RelW ((sK σ).mapIdx (mvF (sK σ) (mJ μ 9 u) b1 (wL w u) (sA σ)), (sV σ).set i (vForget v), va_up (sD σ) (wL w u) (some (b1, true)), sO σ, sA σ + nch (sK σ) (mJ μ 9 u) b1 (sK σ).length, sW σ) (sJ M1 9 u b1) (n + 1) (rwW σ w u (mJ μ 9 u) b1) := by
  obtain ⟨b0, hb0⟩ : ∃ b0, b0 = mJ μ 9 u := ⟨_, rfl⟩
  rw [← hb0] at hf0 ⊢
  obtain ⟨hS, hS14, hO, hI, hZ, hJ, hr1, hr2⟩ := hA
  have kx0 := hw.kx hq0
  obtain ⟨hD, hu3, nn, n1, n2, n3⟩ := hw.dat hq0 hu
  rw [← hb0] at hD
  have hulive : 0 < mI μ 10 u := mEn_live ((kx0.2.1.2.1 u).mp hu).2
  obtain ⟨hF, hVs, hV2, hb1, hb2, hb3, hb4, hb5⟩ := id hw
  obtain ⟨g1, g2, g3, g4, g5, g6, g7, g8, g9, g10⟩ := id hF
  have hil := (List.getElem?_eq_some_iff.mp hi).1
  have hkl := (List.getElem?_eq_some_iff.mp hq0).1
  have hncK := nch_le (ks := sK σ) (b0 := b0) (b1 := b1) (t := (sK σ).length)
  have hso : ¬ sO σ = false := fun y => by have := g10 y u hu3; rw [this] at hulive; exact absurd hulive (by decide)
  obtain ⟨ν, hν⟩ : ∃ ν, ν = sJ M1 9 u b1 := ⟨_, rfl⟩
  rw [← hν]
  have i10 : mI ν 10 = mI μ 10 := by rw [hν]; exact hI 10 (by decide)
  have j9 : ∀ r, mJ ν 9 r = if r = u then b1 else mJ μ 9 r := fun r => by
    rw [hν]
    show vp_updL (mJ M1 9) u b1 r = _
    by_cases h : r = u
    · subst h
      rw [pk_uLs, if_pos rfl]
    · rw [pk_uLn h, if_neg h]
      exact congrFun (congrFun hJ 9) r
  have i1 : mI ν 1 = mI μ 1 := by rw [hν]; exact hI 1 (by decide)
  have i2 : mI ν 2 = mI μ 2 := by rw [hν]; exact hI 2 (by decide)
  have z3 : mZ ν 3 = mZ μ 3 := by rw [hν]; exact congrFun hZ 3
  have z4 : mZ ν 4 = mZ μ 4 := by rw [hν]; exact congrFun hZ 4
  have j5 : mJ ν 5 = mJ μ 5 := by rw [hν]; exact congrFun hJ 5
  have eF : ∀ k y, mF ν k y = mF μ k y := fun k y => by unfold mF; rw [i1, i2]
  have eH : ∀ k y, mHs ν k y = mHs μ k y := fun k y => by unfold mHs; rw [eF, z4, j5]
  have eEn : ∀ k r, ¬ r = u → mEn ν k r = mEn μ k r := fun k r h => by unfold mEn; rw [i10, j9, if_neg h, eH]
  have eEu : ∀ k, mEn ν k u = mHs μ k b1 := fun k => by unfold mEn; rw [i10, j9, if_pos rfl, eH, decide_eq_true hulive, Bool.true_and]
  have eE0 : ∀ k, mEn μ k u = mHs μ k b0 := fun k => by unfold mEn; rw [hb0, decide_eq_true hulive, Bool.true_and]
  have eRk : ∀ k r, r < 300 → ¬ r = u → mRk ν k r = mRk μ k r := fun k r h3 h => by
    unfold mRk
    rw [hν]
    exact hr1 (300 * k + r) (fun k' _ _ => by omega)
  have eRu : ∀ k, k < (sK σ).length → mRk ν k u = if (!mEn μ k u || !decide (mF μ k b0 = mF μ k b1)) = true then nI (wN w + k + 1) else mRk μ k u := fun k hk => by
    unfold mRk
    rw [hν, hb0]
    refine (hr2 k (by omega) (by omega)).trans ?_
    rw [Bool.false_or, Nat.sub_zero]
    rfl
  have hRL : ∀ rl num, RL μ (sD σ) w rl num → RL ν (va_up (sD σ) (wL w u) (some (b1, true))) (rwW σ w u b0 b1) rl num := by
    intro rl num h
    rcases h with h | ⟨s1, m, b, th, r1, r2, r3, r4, r5, r6, r7⟩
    · exact Or.inl h
    · right
      by_cases hs : s1 = wL w u
      · rw [hs, hD] at r5
        cases r5
        exact ⟨s1, m, b1, true, r1, r2, r3, r4, by rw [hs]; exact va_up_self _ _ _, by rw [i10]; exact r6, (fun y => by cases y)⟩
      · exact ⟨s1, m, b, th, r1, r2, r3, r4, by rw [va_up_ne _ _ hs]; exact r5, by rw [i10]; exact r6, by rw [i10]; exact r7⟩
  have hKl : ((sK σ).mapIdx (mvF (sK σ) b0 b1 (wL w u) (sA σ))).length = (sK σ).length := List.length_mapIdx
  have hwR : ∀ k q, (sK σ)[k]? = some q → wR (rwW σ w u b0 b1) k = if chB b0 b1 q = true then (if lft q.1 (fK q.1 b1) = true then (wR w k).filter (fun r => decide (¬ r = u)) else ((wR w k).filter (fun r => decide (¬ r = u))).insertIdx (cnt (delS q.2 (wL w u)) (fK q.1 b1) (lN (sA σ + nch (sK σ) b0 b1 k + 1))) u) else wR w k := fun k q hq => by
    show (match (sK σ)[k]? with | some q => _ | none => _) = _
    rw [hq]
  have hch0 : chB b0 b1 q0 = false := by unfold chB; exact decide_eq_false (fun y => y hf0)
  refine ⟨⟨⟨?_, ?_⟩, ⟨?_, ?_, ?_⟩, ?_, ⟨?_, ?_, ?_⟩, fun k => ?_, fun k q' hq' => ?_, fun k h1 h2 => ?_, fun k h1 => ?_, ⟨fun r hr => ?_, fun r1 r2 h1 h2 h3 h4 h5 => ?_⟩, fun h r hr => ?_⟩, fun j v' hj => ?_, fun j hj h5 => ?_, ⟨by show sA σ + _ ≤ _; omega, by show wN w + _ ≤ _; omega, by show wM w ≤ _; omega, by show sW σ ≤ _; omega, by omega⟩⟩
  · show ((sK σ).mapIdx _).length ≤ 6
    rw [hKl]
    exact g1.1
  · show mS ν 6 = nI ((sK σ).mapIdx (mvF (sK σ) b0 b1 (wL w u) (sA σ))).length
    rw [hKl, hν]
    exact (hS 6 (by decide)).trans g1.2
  · show ((sV σ).set _ _).length ≤ 5
    rw [List.length_set]
    exact g2.1
  · show mS ν 7 = nI ((sV σ).set _ _).length
    rw [List.length_set, hν]
    exact (hS 7 (by decide)).trans g2.2.1
  · intro _
    show 0 < ((sK σ).mapIdx (mvF (sK σ) b0 b1 (wL w u) (sA σ))).length
    rw [hKl]
    omega
  · rw [hν]
    exact g3.trans hO.symm
  · rw [hν]
    exact (hS 13 (by decide)).trans g4.1
  · rw [hν]
    exact hS14
  · rw [hwR 0 q0 hq0, hch0, if_neg Bool.false_ne_true, hν]
    exact (hS 12 (by decide)).trans g4.2.2
  · refine (g5 k).add (by show sA σ ≤ sA σ + _; omega) (by show wN w ≤ wN w + _; omega) (fun h => ?_)
    cases hq : (sK σ)[k]? with
    | none => unfold chK at h; rw [hq] at h; cases h
    | some q =>
      rw [chK_at hq] at h
      have hkk := (List.getElem?_eq_some_iff.mp hq).1
      have h1 := nch_in hq h hkk
      exact ⟨by omega, by show _ ≤ sA σ + nch (sK σ) b0 b1 (sK σ).length; omega, by omega, by show _ ≤ wN w + (sK σ).length; omega⟩
  · have hq' : ((sK σ).mapIdx (mvF (sK σ) b0 b1 (wL w u) (sA σ)))[k]? = some q' := hq'
    rw [List.getElem?_mapIdx] at hq'
    cases hq : (sK σ)[k]? with
    | none => rw [hq] at hq'; cases hq'
    | some q =>
      rw [hq] at hq'
      have hq' : some (mvF (sK σ) b0 b1 (wL w u) (sA σ) k q) = some q' := hq'
      have hkk := (List.getElem?_eq_some_iff.mp hq).1
      have kx := hw.kx hq
      obtain ⟨k1, k2, k3, k4, k5, k6⟩ := kx.1
      have hkd : kKD ν k q.1 := ⟨(congrFun i1 k).trans k1, (congrFun i2 k).trans k2, (congrFun z3 k).trans k3, (congrFun z4 k).trans k4, fun h => (congrFun j5 k).trans (k5 h), k6⟩
      have hnk := nch_le (ks := sK σ) (b0 := b0) (b1 := b1) (t := k)
      have hinj : ∀ r ∈ wR w k, (wL w r = wL w u ↔ r = u) := fun r hr => ⟨fun he => rS_inj hw (kx.lt r hr) hu3 (mEn_live ((kx.2.1.2.1 r).mp hr).2) hulive (Or.inl he), fun he => by rw [he]⟩
      unfold mvF at hq'
      cases hc : chB b0 b1 q with
      | true =>
        rw [hc, if_pos rfl] at hq'
        cases hq'
        refine ⟨hkd, rKE_X.mpr ?_⟩
        rw [hwR k q hq, hc, if_pos rfl]
        have hcF : ¬ mF μ k b0 = mF μ k b1 := by rw [mF_fK kx.1, mF_fK kx.1]; exact of_decide_eq_true hc
        have hcK : chK (sK σ) b0 b1 k = true := (chK_at hq).trans hc
        refine ((rKE_X.mp kx.2.1).del hinj).ins (fun r h => ?_) (fun r h => if_neg (fun y => h.2 y.1)) (fun r h => rfl) (fun r h => eRk k r h.1.1 h.2) (fun c m h => Or.inl h) ?_ (if_pos ⟨rfl, hcK⟩) rfl (fun e he => kx.cl (by omega) (by omega) e (List.mem_filter.mp he).1) (fun _ => ⟨wN w + k + 1, ?_, Or.inr ⟨hcK, rfl, rfl⟩⟩) (fun r => ?_) (fun hd _ r hr => ?_)
        · show mF ν k (mJ ν 9 r) = mF μ k (mJ μ 9 r)
          rw [j9, if_neg h.2, eF]
        · show mF ν k (mJ ν 9 u) = _
          rw [j9, if_pos rfl, eF, mF_fK kx.1]
        · rw [eRu k hkk, decide_eq_false hcF, Bool.not_false, Bool.or_true, if_pos rfl]
        · show r < 300 ∧ mEn ν k r = true ↔ ((r < 300 ∧ mEn μ k r = true) ∧ ¬ r = u) ∨ (r = u ∧ lft q.1 (fK q.1 b1) = false)
          by_cases h : r = u
          · subst h
            rw [eEu, mHs_lft kx.1]
            constructor
            · rintro ⟨-, p2⟩
              exact Or.inr ⟨rfl, by simpa using p2⟩
            · rintro (p | ⟨-, p⟩)
              · exact absurd rfl p.2
              · exact ⟨hu3, by rw [p]; rfl⟩
          · rw [eEn k r h]
            exact ⟨fun p => Or.inl ⟨p, h⟩, fun p => p.elim (fun p => p.1) (fun p => absurd p.1 h)⟩
        · obtain ⟨p1, p2⟩ := List.mem_filter.mp hr
          exact hdup k q hq hd r p1 (of_decide_eq_true p2)
      | false =>
        rw [hc, if_neg Bool.false_ne_true] at hq'
        have hq2 := Option.some.inj hq'
        subst hq2
        refine ⟨hkd, rKE_X.mpr ?_⟩
        rw [hwR k q hq, hc, if_neg Bool.false_ne_true]
        have hcF : mF μ k b0 = mF μ k b1 := by
          rw [mF_fK kx.1, mF_fK kx.1]
          have := of_decide_eq_false hc
          exact Decidable.not_not.mp this
        have hcK : ¬ chK (sK σ) b0 b1 k = true := by rw [chK_at hq, hc]; exact Bool.false_ne_true
        have hHe : mHs μ k b1 = mHs μ k b0 := by unfold mHs; rw [hcF]
        refine (rKE_X.mp kx.2.1).same (fun r h => ?_) (fun r h => if_neg (fun y => hcK y.2)) (fun r h => rfl) (fun r h => ?_) (fun c m h => Or.inl h) (fun r => ?_)
        · show mF ν k (mJ ν 9 r) = mF μ k (mJ μ 9 r)
          rw [j9, eF]
          by_cases h : r = u
          · rw [if_pos h, ← hcF, h, hb0]
          · rw [if_neg h]
        · by_cases hr : r = u
          · subst hr
            rw [eRu k hkk, h.2, decide_eq_true hcF]
            rfl
          · exact eRk k r h.1 hr
        · show r < 300 ∧ mEn ν k r = true ↔ r < 300 ∧ mEn μ k r = true
          by_cases h : r = u
          · subst h
            rw [eEu, eE0, hHe]
          · rw [eEn k r h]
  · have h1 : ((sK σ).mapIdx (mvF (sK σ) b0 b1 (wL w u) (sA σ))).length ≤ k := h1
    rw [hKl] at h1
    exact (congrFun z4 k).trans (g7 k h1 h2)
  · have h1 : ((sK σ).mapIdx (mvF (sK σ) b0 b1 (wL w u) (sA σ))).length ≤ k := h1
    rw [hKl] at h1
    show (match (sK σ)[k]? with | some q => _ | none => wR w k) = []
    rw [List.getElem?_eq_none_iff.mpr h1]
    exact g8 k h1
  · show mI ν 10 r = 0 ∨ ∃ nn, 0 < nn ∧ nn ≤ wM w ∧ mI ν 10 r = nI nn ∧ va_up (sD σ) (wL w u) (some (b1, true)) (wL w r) = some (mJ ν 9 r, true)
    rw [i10, j9]
    rcases g9.1 r hr with p | ⟨m, p1, p2, p3, p4⟩
    · exact Or.inl p
    · refine Or.inr ⟨m, p1, p2, p3, ?_⟩
      by_cases h : r = u
      · rw [if_pos h, h]
        exact va_up_self _ _ _
      · rw [if_neg h, va_up_ne _ _ (fun y => h (rS_inj hw hr hu3 (by rw [p3]; exact nI_lv p1 (by omega)) hulive (Or.inl y)))]
        exact p4
  · rw [i10] at h3 h4
    have h5 : wL w r1 = wL w r2 ∨ mI ν 10 r1 = mI ν 10 r2 := h5
    rw [i10] at h5
    exact g9.2 r1 r2 h1 h2 h3 h4 h5
  · exact absurd h hso
  · have hj : ((sV σ).set i (vForget v))[j]? = some v' := hj
    have hKl2 : (sK σ).length ≤ ((sK σ).mapIdx (mvF (sK σ) b0 b1 (wL w u) (sA σ))).length := by rw [hKl]; exact Nat.le_refl _
    rcases set_at hj with ⟨rfl, rfl⟩ | ⟨hne, hj⟩
    · obtain ⟨p1, p2, p3⟩ := hVs j v hi
      rw [hν]
      refine ⟨p1.trans (congrFun (congrFun hZ 24) j).symm, ((congrFun (congrFun hJ 22) j).trans pk_uLs).symm, fun z => ?_⟩
      obtain ⟨o1, o2, ⟨k, o3, o4, o5, o6⟩, o7, o8, o9, o10, o11, o12⟩ := p3 z
      refine ⟨⟨o1.1.trans (congrFun (hI 15 (by decide)) j).symm, o1.2⟩, o2.trans (congrFun (hI 16 (by decide)) j).symm, ⟨k, Nat.lt_of_lt_of_le o3 hKl2, o4, (congrFun (hI 17 (by decide)) j).trans o5, fun hz => ?_⟩, o7.trans (congrFun (hI 18 (by decide)) j).symm, o8, fun hz => (o9 hz).trans (congrFun (congrFun hZ 25) j).symm, o10.trans (congrFun (congrFun hZ 26) j).symm, fun hz => (o11 hz).trans (congrFun (congrFun hJ 23) j).symm, Or.inl ⟨rfl, (congrFun (hI 20 (by decide)) j).trans pk_us⟩⟩
      obtain ⟨c, r, p1, p2, p3, p4⟩ := o6 hz
      exact ⟨c, r, Or.inl p1, p2, (congrFun (hI 19 (by decide)) j).trans p3, p4.trans (congrFun (congrFun hJ 21) j).symm⟩
    · refine (hVs j v' hj).up hKl2 (fun _ _ _ h => Or.inl h) hRL ?_
      rw [hν]
      exact ⟨congrFun (hI 15 (by decide)) j, congrFun (hI 16 (by decide)) j, congrFun (hI 17 (by decide)) j, congrFun (hI 18 (by decide)) j, congrFun (hI 19 (by decide)) j, (congrFun (hI 20 (by decide)) j).trans (pk_un hne), congrFun (congrFun hJ 21) j, (congrFun (congrFun hJ 22) j).trans (pk_uLn hne), congrFun (congrFun hJ 23) j, congrFun (congrFun hZ 24) j, congrFun (congrFun hZ 25) j, congrFun (congrFun hZ 26) j⟩
  · have hj : ((sV σ).set i (vForget v)).length ≤ j := hj
    rw [List.length_set] at hj
    obtain ⟨p1, p2⟩ := hV2 j hj h5
    rw [hν]
    exact ⟨(congrFun (congrFun hZ 24) j).trans p1, ((congrFun (congrFun hJ 22) j).trans (pk_uLn (by omega))).trans p2⟩
theorem j_rewrite (hC : xCS E G x σ) (hM : xMD E G md a μ) (hR : Rel σ μ n) (hn : n < 600) (j : Int32) (b1 : Int64) : XMk l E y_KF_rewrite w_KF_rewrite rm_KF_rewrite [.ref x, .int j, .long b1] G (JRi l E x md a n y_MD_rewrite w_MD_rewrite rm_MD_rewrite [.ref md, .int j, .long b1]) 12 2214 := by
  have hC0 := hC
  obtain ⟨lo, la, lc, hB⟩ := hC
  have hB : xCB E G x σ lo la lc := hB
  obtain ⟨hG, hL, hnn, hk, hv, hs, he⟩ := id hB
  have hl := hR.lens
  rcases atI_cases (sV σ) j (by omega) with ⟨-, hj⟩ | ⟨i, v, rfl, hi, -, hil⟩
  · exact j_i (q_KF_rewrite_nv l E hB (by rw [hnn.2.2.1]; exact hj)) (p_pure hC0) (fun hM' => q_MD_rewrite_nv l E hM' (hR.vw_no hj)) hM (hR.thr hn)
  · obtain ⟨va, ha, hV⟩ := hv i v hi
    have h5 := hR.vw_in hil
    have hrf := hR.refC hi
    by_cases hr : refChange v.1 (vMo v) = 0
    · have ho := refC_op hr
      have hrm : refChange (mZ μ 24 i) (mI μ 15 i) = 0 := hrf ▸ hr
      obtain ⟨w, hw⟩ := id hR
      obtain ⟨q0, hq0⟩ := e_lt (hw.1.2.1.2.2 (by omega))
      have kx0 := hw.kx hq0
      obtain ⟨hrtc, hmem⟩ := hw.rtc (l := l) hB hi hV ho (fK q0.1 b1) hq0
      have hF0 : ∀ y, mF μ 0 y = fK q0.1 y := fun y => mF_fK kx0.1 y
      have hac : vAc v = mI μ 16 i := ((hR.rv hi).2.2 ho).2.1
      have hfg : Rel (σ.vw i (vForget v)) (mFg (sS μ 0 0) i) (n + 1) := ⟨w, hw.fg hn hi⟩
      cases ht : mTg μ i (fK q0.1 b1) with
      | none =>
        rw [ht] at hrtc
        refine j_i (v := if v.2.2.1 = 0 then 43 else 23) (q_KF_rewrite_none l E hB ha hV hq0 hr hrtc) (fun r G' h => h) (fun hM' => ?_) hM hfg
        rw [show v.2.2.1 = mI μ 16 i from hac]
        exact q_MD_rewrite_none l E hM' h5.2 h5.1 hrm (by rw [hF0]; exact ht)
      | some u =>
        rw [ht] at hrtc
        have ht2 : mTg μ i (mF μ 0 b1) = some u := by rw [hF0]; exact ht
        have hu := hmem u ht
        obtain ⟨hD, hu3, -⟩ := hw.dat hq0 hu
        have hulive : 0 < mI μ 10 u := mEn_live ((kx0.2.1.2.1 u).mp hu).2
        have hKe : mS μ 6 = nI (sK σ).length := hw.1.1.2
        have hsr : ∀ (i : Nat) (q : KD × List E3), (sK σ)[i]? = some q → srt q.2 := fun k q hq => (hw.kx hq).2.1.2.2.1
        by_cases hf : fK q0.1 (mJ μ 9 u) = fK q0.1 b1
        · have hfm : mF μ 0 (mJ μ 9 u) = mF μ 0 b1 := by rw [hF0, hF0]; exact hf
          have hsA : sA σ + (sK σ).length < 2 ^ 31 := by obtain ⟨b1, -, -, -, b5⟩ := hw.2.2.2; omega
          have hinj : ∀ k q, (sK σ)[k]? = some q → ∀ r ∈ wR w k, (wL w r = wL w u ↔ r = u) := fun k q hq r hr => ⟨fun he => rS_inj hw ((hw.kx hq).lt r hr) hu3 (mEn_live (((hw.kx hq).2.1.2.1 r).mp hr).2) hulive (Or.inl he), fun he => by rw [he]⟩
          have hne : ∀ r : Nat, some u ≠ some r ↔ ¬ r = u := fun r => ⟨fun y z => y (by rw [z]), fun y z => by cases z; exact y rfl⟩
          have hbar : ∀ k q, (sK σ)[k]? = some q → (barK b1 (some (wL w u)) q = true ↔ mBc μ b1 (some u) k = true ∧ q.1.1 = false) := fun k q hq => by
            have kx := hw.kx hq
            rw [kx.bar b1 (some (wL w u)), kx.bc b1 (some u)]
            constructor
            · rintro ⟨g0, r, p1, p2, p3⟩
              have hru : ¬ r = u := fun y => p2 (by rw [y])
              refine ⟨⟨?_, r, p1, (hne r).mpr hru, p3⟩, g0⟩
              show (!mEn μ k u || !decide (mF μ k (mJ μ 9 u) = mF μ k b1)) = true
              cases h1 : mEn μ k u with
              | false => rfl
              | true =>
                rw [decide_eq_false (fun y => hru (kx.2.1.2.2.2.2 g0 r p1 u ((kx.2.1.2.1 u).mpr ⟨hu3, h1⟩) (p3.trans ((mF_fK kx.1 b1).symm.trans y.symm))))]
                rfl
            · rintro ⟨⟨-, r, p1, p2, p3⟩, g0⟩
              exact ⟨g0, r, p1, fun y => (hne r).mp p2 ((hinj k q hq r p1).mp (Option.some.inj y)), p3⟩
          have hmv : mvB (sK σ) (mJ μ 9 u) b1 (wL w u) (sA σ) (sK σ).length = true ↔ ∃ k q, (sK σ)[k]? = some q ∧ mBc μ b1 (some u) k = true := by
            rw [mvB_iff]
            have he : ∀ k q, (sK σ)[k]? = some q → ((chB (mJ μ 9 u) b1 q = true ∧ entB q.1 (delS q.2 (wL w u)) (fK q.1 b1) (lN (sA σ + nch (sK σ) (mJ μ 9 u) b1 k + 1)) = true) ↔ mBc μ b1 (some u) k = true) := fun k q hq => by
              have kx := hw.kx hq
              have hkk := (List.getElem?_eq_some_iff.mp hq).1
              have hnk := nch_le (ks := sK σ) (b0 := mJ μ 9 u) (b1 := b1) (t := k)
              rw [entB_iff (srt_del kx.2.1.2.2.1) (fun e he => kx.cl (by omega) (by omega) e (List.mem_filter.mp he).1), kx.bc b1 (some u)]
              constructor
              · rintro ⟨hc, hlf, e, he, hfe⟩
                obtain ⟨p1, p2⟩ := List.mem_filter.mp he
                rw [kx.2.1.1] at p1
                obtain ⟨r, hr, rfl⟩ := List.mem_map.mp p1
                have p2 : ¬ wL w r = wL w u := of_decide_eq_true p2
                refine ⟨?_, r, hr, (hne r).mpr (fun y => p2 (by rw [y])), hfe⟩
                show (!mEn μ k u || !decide (mF μ k (mJ μ 9 u) = mF μ k b1)) = true
                rw [mF_fK kx.1, mF_fK kx.1, decide_eq_false (show ¬ fK q.1 (mJ μ 9 u) = fK q.1 b1 from of_decide_eq_true hc), Bool.not_false, Bool.or_true]
              · rintro ⟨hch, r, hr, p2, p3⟩
                have hlf := kx.hs hr p3
                have hru := (hne r).mp p2
                refine ⟨?_, hlf, ent μ k (wC w k) (wL w) r, List.mem_filter.mpr ⟨by rw [kx.2.1.1]; exact List.mem_map.mpr ⟨r, hr, rfl⟩, decide_eq_true (fun y => hru ((hinj k q hq r hr).mp y))⟩, p3⟩
                have hch : (!mEn μ k u || !decide (mF μ k (mJ μ 9 u) = mF μ k b1)) = true := hch
                unfold chB
                refine decide_eq_true (fun y => ?_)
                have h1 : mEn μ k u = true := by
                  unfold mEn
                  rw [mHs_lft kx.1, y, hlf, decide_eq_true hulive]
                  rfl
                rw [h1, mF_fK kx.1, mF_fK kx.1, y, decide_eq_true rfl] at hch
                cases hch
            exact ⟨fun ⟨k, q, _, hq, h1, h2⟩ => ⟨k, q, hq, (he k q hq).mp ⟨h1, h2⟩⟩, fun ⟨k, q, hq, h⟩ => ⟨k, q, (List.getElem?_eq_some_iff.mp hq).1, hq, (he k q hq).mpr h⟩⟩
          rcases hw.bar hbar hmv with ⟨h22, h22m⟩ | ⟨h22, h22m, hans⟩
          · exact j_i (q_KF_rewrite_22 l E hB ha hV hq0 hr hrtc hD hf hsr h22) (fun r G' h => h) (fun hM' => q_MD_rewrite_22 l E hM' h5.2 h5.1 hrm ht2 hfm hKe hl.2 h22m) hM hfg
          · refine j_i (q_KF_rewrite_ok l E hB ha hV hq0 hr hrtc hD hf hsr h22 hl.2 (fun k q hq => hw.dOK hq0 hu hq)) (fun r G' h => h) (fun hM' => ?_) hM ⟨_, hw.rw hn hi hq0 hu hf ?_ (mRA_o (M := mFg (sS μ 0 0) i) hw.1.2.2.2.1.2.1)⟩
            · rw [← hans]
              exact q_MD_rewrite_ok l E hM' h5.2 h5.1 hrm ht2 hfm hKe hl.2 h22m
            · intro k q hq hd r hr hru hfr
              have h1 : barK b1 (some (wL w u)) q = true := ((hw.kx hq).bar b1 (some (wL w u))).mpr ⟨hd, r, hr, fun y => hru ((hinj k q hq r hr).mp (Option.some.inj y)), hfr⟩
              rw [List.any_eq_false] at h22
              exact h22 q (List.mem_of_getElem? hq) h1
        · exact j_i (q_KF_rewrite_21 l E hB ha hV hq0 hr hrtc hD hf) (fun r G' h => h) (fun hM' => q_MD_rewrite_21 l E hM' h5.2 h5.1 hrm ht2 (by rw [hF0, hF0]; exact hf)) hM hfg
    · exact j_i (q_KF_rewrite_ref l E hB ha hV hr) (p_pure hC0) (fun hM' => by rw [show refChange v.1 v.2.1 = _ from hrf]; exact q_MD_rewrite_ref l E hM' h5.2 h5.1 (hrf ▸ hr)) hM (hR.thr hn)
end J9
