/-! JOINT CONTRACTS: write -/
theorem ins_len {α : Type} {a : α} {l : List α} {i : Nat} (h : i ≤ l.length) : (l.insertIdx i a).length = l.length + 1 := by
  rw [ins_eq h, List.length_append, List.length_cons, List.length_take, List.length_drop]
  omega
theorem KX.hs {μ : MS} {k A : Nat} {w : RW} {q : KD × List E3} (h : KX μ k w q A) {r : Nat} (hr : r ∈ wR w k) {f : Int64} (hf : mF μ k (mJ μ 9 r) = f) : lft q.1 f = false := by
  have h1 := ((h.2.1.2.1 r).mp hr).2
  unfold mEn at h1
  rw [Bool.and_eq_true, mHs_lft h.1, ← mF_fK h.1, hf] at h1
  have h2 := h1.2
  cases hz : lft q.1 f with
  | false => rfl
  | true => rw [hz] at h2; cases h2
theorem KX.bc {μ : MS} {k A : Nat} {w : RW} {q : KD × List E3} (h : KX μ k w q A) (x : Int64) (but : Option Nat) : mBc μ x but k = true ↔ mChg μ k x but = true ∧ ∃ r ∈ wR w k, but ≠ some r ∧ mF μ k (mJ μ 9 r) = fK q.1 x := by
  unfold mBc
  rw [Bool.and_eq_true, Bool.and_eq_true]
  constructor
  · rintro ⟨h1, h2, h3⟩
    obtain ⟨r, hr⟩ := Option.isSome_iff_exists.mp h3
    obtain ⟨g1, g2, g3⟩ := h.eqs hr
    exact ⟨h2, r, g1, g3, g2.trans (mF_fK h.1 x)⟩
  · rintro ⟨h2, r, hr, hb, hf⟩
    refine ⟨?_, h2, ?_⟩
    · rw [mHs_lft h.1, h.hs hr hf]
      rfl
    · cases hz : mEq μ k (mF μ k x) but with
      | some _ => rfl
      | none => exact absurd (hf.trans (mF_fK h.1 x).symm) (h.eqn hz hr hb)
theorem KX.bar {μ : MS} {k A : Nat} {w : RW} {q : KD × List E3} (h : KX μ k w q A) (x : Int64) (old : Option Nat) : barK x old q = true ↔ q.1.1 = false ∧ ∃ r ∈ wR w k, ¬ some (wL w r) = old ∧ mF μ k (mJ μ 9 r) = fK q.1 x := by
  unfold barK
  rw [Bool.and_eq_true]
  constructor
  · rintro ⟨h1, h2⟩
    have hd : q.1.1 = false := by simpa using h1
    refine ⟨hd, ?_⟩
    rcases h.fst (fK q.1 x) with ⟨g1, -⟩ | ⟨p, u, g1, -, g3, g4⟩
    · rw [g1] at h2; cases h2
    · rw [g1] at h2
      have h2 := of_decide_eq_true h2
      rw [(h.ef g3).2.2] at h2
      exact ⟨u, List.mem_of_getElem? g3, h2, g4⟩
  · rintro ⟨hd, r, hr, hne, hf⟩
    refine ⟨by rw [hd]; rfl, ?_⟩
    rcases h.fst (fK q.1 x) with ⟨-, g2⟩ | ⟨p, u, g1, -, g3, g4⟩
    · exact absurd hf (g2 r hr)
    · have := h.2.1.2.2.2.2 hd r hr u (List.mem_of_getElem? g3) (hf.trans g4.symm)
      subst this
      rw [g1]
      show decide (¬ some (eS q.2 p) = old) = true
      rw [(h.ef g3).2.2]
      exact decide_eq_true hne
theorem KX.cl {μ : MS} {k A : Nat} {w : RW} {q : KD × List E3} (h : KX μ k w q A) {c : Nat} (hc : A < c) (hc2 : c < 2 ^ 31) : ∀ e ∈ q.2, e.2.1 < lN c := by
  intro e he
  rw [h.2.1.1] at he
  obtain ⟨r, hr, rfl⟩ := List.mem_map.mp he
  obtain ⟨m, -, hP, b1, b2, -⟩ := h.rk hr
  have := h.2.2.1.1 _ _ hP
  show lN (wC w k r) < lN c
  rw [lN_lt (by omega) hc2]
  omega
theorem enB_iff {ks : List (KD × List E3)} {b1 : Int64} {a : Nat} : ∀ {t : Nat}, enB ks b1 a t = true ↔ ∃ k q, k < t ∧ ks[k]? = some q ∧ entB q.1 q.2 (fK q.1 b1) (lN (a + k + 1)) = true
  | 0 => ⟨(fun h => by cases h), (fun ⟨k, q, h, _⟩ => by omega)⟩
  | t + 1 => by
    show (enB ks b1 a t || _) = true ↔ _
    rw [Bool.or_eq_true, enB_iff (t := t)]
    constructor
    · rintro (⟨k, q, h1, h2⟩ | h)
      · exact ⟨k, q, by omega, h2⟩
      · cases hq : ks[t]? with
        | none => rw [hq] at h; cases h
        | some q => rw [hq] at h; exact ⟨t, q, by omega, hq, h⟩
    · rintro ⟨k, q, h1, h2, h3⟩
      by_cases hk : k = t
      · subst hk
        right
        rw [h2]
        exact h3
      · exact Or.inl ⟨k, q, by omega, h2, h3⟩
section J8
variable {l : Launch} {E : xE} {x md : Nat} {a : Nat → Nat} {n : Nat} {G : xw_G} {σ : CS} {μ : MS}
/-- what the doubles of a new record answer -/
theorem RelW.bar {w : RW} (hw : RelW σ μ n w) {b1 : Int64} {but old : Option Nat} {B : Bool} (hbar : ∀ k q, (sK σ)[k]? = some q → (barK b1 old q = true ↔ mBc μ b1 but k = true ∧ q.1.1 = false)) (hB : B = true ↔ ∃ k q, (sK σ)[k]? = some q ∧ mBc μ b1 but k = true) :
    ((sK σ).any (barK b1 old) = true ∧ mBar μ b1 but (sK σ).length 0 0 = 22) ∨ ((sK σ).any (barK b1 old) = false ∧ ¬ mBar μ b1 but (sK σ).length 0 0 = 22 ∧ mBar μ b1 but (sK σ).length 0 0 = if B = true then 2 else 0) := by
  have hz : ∀ k q, (sK σ)[k]? = some q → mZ μ 3 k = q.1.1 := fun k q hq => (hw.kx hq).1.2.2.1
  rcases mBar_cf (μ := μ) (x := b1) (but := but) (n := (sK σ).length) (t := 0) (w := 0) (by decide) with ⟨h1, h2⟩ | ⟨⟨-, h2⟩, h3⟩
  · left
    refine ⟨?_, h1⟩
    rcases h2 with h2 | ⟨k, -, k2, k3, k4⟩
    · exact absurd h2 (by decide)
    · obtain ⟨q, hq⟩ := e_lt (show k < (sK σ).length by omega)
      rw [List.any_eq_true]
      exact ⟨q, List.mem_of_getElem? hq, (hbar k q hq).mpr ⟨k3, (hz k q hq).symm.trans k4⟩⟩
  · right
    have hany : (sK σ).any (barK b1 old) = false := by
      rw [List.any_eq_false]
      intro q hm hb
      obtain ⟨k, hq⟩ := List.getElem?_of_mem hm
      have hkl := (List.getElem?_eq_some_iff.mp hq).1
      obtain ⟨g1, g2⟩ := (hbar k q hq).mp hb
      have := h2 k (by omega) (by omega) g1
      rw [hz k q hq, g2] at this
      cases this
    refine ⟨hany, ?_⟩
    rcases h3 with ⟨g1, g2⟩ | ⟨g1, -, g3⟩
    · rw [g1]
      refine ⟨by decide, ?_⟩
      rw [if_pos]
      rcases g2 with g2 | ⟨k, -, k2, k3⟩
      · exact absurd g2 (by decide)
      · obtain ⟨q, hq⟩ := e_lt (show k < (sK σ).length by omega)
        exact hB.mpr ⟨k, q, hq, k3⟩
    · rw [g1]
      refine ⟨by decide, ?_⟩
      rw [if_neg]
      intro hb
      obtain ⟨k, q, hq, k3⟩ := hB.mp hb
      have hkl := (List.getElem?_eq_some_iff.mp hq).1
      rw [g3 k (by omega) (by omega)] at k3
      cases k3
theorem RelW.oo {w : RW} (hw : RelW σ μ n w) {i : Nat} {v : VD} (hi : (sV σ)[i]? = some v) (ho : v.1 = true) {q : KD × List E3} (hq : (sK σ)[0]? = some q) (f : Int64) : ooB (vHw v) (vPw v) f (vMo v) q.2 = mOo μ i f := by
  have kx := hw.kx hq
  have hlen := ent_len kx.2.1
  obtain ⟨o1, -, -, -, -, -, o10, o11, -⟩ := (hw.2.1 i v hi).2.2 ho
  have hlive : ∀ u, u ∈ wR w 0 ↔ u < 300 ∧ 0 < mI μ 10 u := fun u => by rw [kx.2.1.2.1 u, mEn_0, decide_eq_true_eq]
  have e1 : (vHw v && !decide (uN (vPw v) < uN f)) = (mZ μ 26 i && !mLs (mJ μ 23 i) f) := by
    unfold mLs
    rw [← o10]
    cases hz : vHw v with
    | false => rfl
    | true => rw [o11 hz]
  have e2 : (decide (0 < q.2.length) && !decide (uN (eF q.2 (q.2.length - 1)) < uN f)) = (mFst (mOoR μ f) 300 0).isSome := by
    cases hz : mFst (mOoR μ f) 300 0 with
    | none =>
      show _ = false
      by_cases h0 : 0 < q.2.length
      · obtain ⟨u, hu⟩ := e_lt (show q.2.length - 1 < (wR w 0).length by omega)
        have hm := (hlive u).mp (List.mem_of_getElem? hu)
        have h1 := mFst_none hz u (by omega) (by omega)
        unfold mOoR mLs at h1
        rw [decide_eq_true hm.2, Bool.true_and] at h1
        rw [(kx.ef hu).1, h1, Bool.and_false]
      · rw [decide_eq_false h0]
        rfl
    | some u =>
      show _ = true
      obtain ⟨h1, h2, -⟩ := mFst_some hz
      unfold mOoR mLs at h1
      rw [Bool.and_eq_true, decide_eq_true_eq] at h1
      obtain ⟨h3, h4⟩ := h1
      obtain ⟨j, hj⟩ := List.getElem?_of_mem ((hlive u).mpr ⟨by omega, h3⟩)
      have hjl := (List.getElem?_eq_some_iff.mp hj).1
      obtain ⟨y, hy⟩ := e_lt (show q.2.length - 1 < (wR w 0).length by omega)
      rw [decide_eq_true (show 0 < q.2.length by omega), Bool.true_and, (kx.ef hy).1]
      have h5 : ¬ uN (mF μ 0 (mJ μ 9 u)) < uN f := by simpa using h4
      have h6 : uN (mF μ 0 (mJ μ 9 u)) ≤ uN (mF μ 0 (mJ μ 9 y)) := by
        rcases Nat.eq_or_lt_of_le (show j ≤ q.2.length - 1 by omega) with h | h
        · rw [h, hy] at hj
          cases hj
          exact Nat.le_refl _
        · exact ahead_f (srt_lt kx.2.1.2.2.1 (kx.at hj) (kx.at hy) h)
      rw [decide_eq_false (by omega)]
      rfl
  unfold ooB mOo
  rw [e1, e2, o1.1]
/-- the witness behind a write -/
abbrev wrW (σ : CS) (w : RW) (r0 s0 : Nat) (b1 : Int64) : RW :=
  (fun k c m => wP w k c m ∨ (k < (sK σ).length ∧ c = sA σ + k + 1 ∧ m = wN w + k + 1), fun k r => if r = r0 then sA σ + k + 1 else wC w k r, fun r => if r = r0 then s0 else wL w r,
   fun k => match (sK σ)[k]? with
     | some q => if lft q.1 (fK q.1 b1) = true then wR w k else (wR w k).insertIdx (cnt q.2 (fK q.1 b1) (lN (sA σ + k + 1))) r0
     | none => wR w k,
   wN w + (sK σ).length, wM w + 1)
theorem RelW.wr {w : RW} (hw : RelW σ μ n w) (hn : n < 600) {i : Nat} {v : VD} (hi : (sV σ)[i]? = some v) (ho : v.1 = true) {q0 : KD × List E3} (hq0 : (sK σ)[0]? = some q0) {b1 : Int64} {r0 s0 : Nat} (hr3 : r0 < 300) (hfree : ¬ 0 < mI μ 10 r0) (hs0 : sD σ s0 = none)
    (hdup : ∀ k q, (sK σ)[k]? = some q → q.1.1 = false → ∀ r ∈ wR w k, ¬ mF μ k (mJ μ 9 r) = fK q.1 b1) {M1 : MS} (hA : RA (mFg (sS μ 0 0) i) M1 r0 b1 true 0 (sK σ).length (wN w)) :
    RelW ((sK σ).mapIdx (enF b1 s0 (sA σ)), (sV σ).set i (vWrote (vForget v) (fK q0.1 b1)), va_up (sD σ) s0 (some (b1, true)), sO σ, sA σ + (sK σ).length, sW σ) (mWrt (sJ M1 9 r0 b1) i r0 (mF μ 0 b1)) (n + 1) (wrW σ w r0 s0 b1) := by
  obtain ⟨hS, hS14, hO, hI, hZ, hJ, hr1, hr2⟩ := hA
  have kx0 := hw.kx hq0
  obtain ⟨hF, hVs, hV2, hb1, hb2, hb3, hb4, hb5⟩ := id hw
  obtain ⟨g1, g2, g3, g4, g5, g6, g7, g8, g9, g10⟩ := id hF
  have hil := (List.getElem?_eq_some_iff.mp hi).1
  have hkl := (List.getElem?_eq_some_iff.mp hq0).1
  have hso : sO σ = true := ((hVs i v hi).2.2 ho).1.2
  have s13 : mS M1 13 = nI (wM w) := (hS 13 (by decide)).trans g4.1
  have s12 : mS M1 12 = nI (wR w 0).length := (hS 12 (by decide)).trans g4.2.2
  obtain ⟨ν, hν⟩ : ∃ ν, ν = mWrt (sJ M1 9 r0 b1) i r0 (mF μ 0 b1) := ⟨_, rfl⟩
  rw [← hν]
  have i10 : ∀ r, mI ν 10 r = if r = r0 then nI (wM w + 1) else mI μ 10 r := fun r => by
    rw [hν]
    show upd (mI M1 10) r0 (mS M1 13 + 1) r = _
    by_cases h : r = r0
    · subst h
      rw [pk_us, if_pos rfl, s13, nI_1]
    · rw [pk_un h, if_neg h]
      exact congrFun (hI 10 (by decide)) r
  have j9 : ∀ r, mJ ν 9 r = if r = r0 then b1 else mJ μ 9 r := fun r => by
    rw [hν]
    show vp_updL (mJ M1 9) r0 b1 r = _
    by_cases h : r = r0
    · subst h
      rw [pk_uLs, if_pos rfl]
    · rw [pk_uLn h, if_neg h]
      exact congrFun (congrFun hJ 9) r
  have i1 : mI ν 1 = mI μ 1 := by rw [hν]; exact hI 1 (by decide)
  have i2 : mI ν 2 = mI μ 2 := by rw [hν]; exact hI 2 (by decide)
  have z3 : mZ ν 3 = mZ μ 3 := by rw [hν]; exact congrFun hZ 3
  have z4 : mZ ν 4 = mZ μ 4 := by rw [hν]; exact congrFun hZ 4
  have j5 : mJ ν 5 = mJ μ 5 := by rw [hν]; exact congrFun hJ 5
  have eF : ∀ k y, mF ν k y = mF μ k y := fun k y => by unfold mF; rw [i1, i2]
  have eH : ∀ k y, mHs ν k y = mHs μ k y := fun k y => by unfold mHs; rw [eF, z4, j5]
  have hlv0 : (0 : Int32) < nI (wM w + 1) := nI_lv (by omega) (by omega)
  have eEn : ∀ k r, ¬ r = r0 → mEn ν k r = mEn μ k r := fun k r h => by unfold mEn; rw [i10, if_neg h, j9, if_neg h, eH]
  have eEu : ∀ k, mEn ν k r0 = mHs μ k b1 := fun k => by unfold mEn; rw [i10, if_pos rfl, j9, if_pos rfl, eH, decide_eq_true hlv0, Bool.true_and]
  have eRk : ∀ k r, r < 300 → ¬ r = r0 → mRk ν k r = mRk μ k r := fun k r h3 h => by
    unfold mRk
    rw [hν]
    exact hr1 (300 * k + r) (fun k' _ _ => by omega)
  have eRu : ∀ k, k < (sK σ).length → mRk ν k r0 = nI (wN w + k + 1) := fun k hk => by
    unfold mRk
    rw [hν]
    refine (hr2 k (by omega) (by omega)).trans ?_
    rw [Bool.true_or, if_pos rfl, Nat.sub_zero]
  have hliv : ∀ r, r < 300 → 0 < mI μ 10 r → ¬ r = r0 ∧ ¬ wL w r = s0 ∧ ∃ nn, 0 < nn ∧ nn ≤ wM w ∧ mI μ 10 r = nI nn := fun r h3 h => by
    refine ⟨fun y => hfree (y ▸ h), ?_⟩
    rcases g9.1 r h3 with h0 | ⟨nn, k1, k2, k3, k4⟩
    · rw [h0] at h; exact absurd h (by decide)
    · exact ⟨(fun y => by rw [y, hs0] at k4; cases k4), nn, k1, k2, k3⟩
  have hne : ∀ m, 0 < m → m ≤ wM w → ¬ nI (wM w + 1) = nI m := fun m h1 h2 y => by rw [nI_eq (by omega) (by omega)] at y; omega
  have hRL : ∀ rl num, RL μ (sD σ) w rl num → RL ν (va_up (sD σ) s0 (some (b1, true))) (wrW σ w r0 s0 b1) rl num := by
    intro rl num h
    rcases h with h | ⟨s1, m, b, th, r1, r2, r3, r4, r5, r6, r7⟩
    · exact Or.inl h
    · right
      refine ⟨s1, m, b, th, r1, r2, r3, by show m ≤ wM w + 1; omega, ?_, fun y => ?_, fun y r' hr' => ?_⟩
      · rw [va_up_ne _ _ (fun y => by rw [y, hs0] at r5; cases r5)]
        exact r5
      · obtain ⟨r, p1, p2, p3⟩ := r6 y
        have hl := hliv r p1 (by rw [p2]; exact nI_lv r3 (by omega))
        refine ⟨r, p1, ?_, ?_⟩
        · rw [i10, if_neg hl.1]; exact p2
        · show (if r = r0 then s0 else wL w r) = s1
          rw [if_neg hl.1]; exact p3
      · rw [i10]
        by_cases h : r' = r0
        · rw [if_pos h]; exact hne m r3 r4
        · rw [if_neg h]; exact r7 y r' hr'
  have hKl : ((sK σ).mapIdx (enF b1 s0 (sA σ))).length = (sK σ).length := List.length_mapIdx
  have hwR : ∀ k q, (sK σ)[k]? = some q → wR (wrW σ w r0 s0 b1) k = if lft q.1 (fK q.1 b1) = true then wR w k else (wR w k).insertIdx (cnt q.2 (fK q.1 b1) (lN (sA σ + k + 1))) r0 := fun k q hq => by
    show (match (sK σ)[k]? with | some q => _ | none => _) = _
    rw [hq]
  refine ⟨⟨⟨?_, ?_⟩, ⟨?_, ?_, ?_⟩, ?_, ⟨?_, ?_, ?_⟩, fun k => ?_, fun k q' hq' => ?_, fun k h1 h2 => ?_, fun k h1 => ?_, ⟨fun r hr => ?_, fun r1 r2 h1 h2 h3 h4 h5 => ?_⟩, fun h r hr => ?_⟩, fun j v' hj => ?_, fun j hj h5 => ?_, ⟨by show sA σ + _ ≤ _; omega, by show wN w + _ ≤ _; omega, by show wM w + 1 ≤ _; omega, by show sW σ ≤ _; omega, by omega⟩⟩
  · show ((sK σ).mapIdx _).length ≤ 6
    rw [hKl]
    exact g1.1
  · show mS ν 6 = nI ((sK σ).mapIdx (enF b1 s0 (sA σ))).length
    rw [hKl, hν]
    exact (hS 6 (by decide)).trans g1.2
  · show ((sV σ).set _ _).length ≤ 5
    rw [List.length_set]
    exact g2.1
  · show mS ν 7 = nI ((sV σ).set _ _).length
    rw [List.length_set, hν]
    exact (hS 7 (by decide)).trans g2.2.1
  · intro _
    show 0 < ((sK σ).mapIdx (enF b1 s0 (sA σ))).length
    rw [hKl]
    omega
  · rw [hν]
    exact g3.trans hO.symm
  · rw [hν]
    show mS M1 13 + 1 = nI (wM w + 1)
    rw [s13, nI_1]
  · rw [hν]
    exact hS14
  · rw [hwR 0 q0 hq0]
    have hl0 : lft q0.1 (fK q0.1 b1) = false := by unfold lft; rw [(kx0.1.2.2.2.2.2 rfl).2]; rfl
    rw [hl0, if_neg Bool.false_ne_true, ins_len (by rw [← ent_len kx0.2.1]; exact cnt_le), hν]
    show mS M1 12 + 1 = _
    rw [s12, nI_1]
  · exact (g5 k).add (by show sA σ ≤ sA σ + _; omega) (by show wN w ≤ wN w + _; omega) (fun h => ⟨by omega, by show _ ≤ sA σ + (sK σ).length; omega, by omega, by show _ ≤ wN w + (sK σ).length; omega⟩)
  · have hq' : ((sK σ).mapIdx (enF b1 s0 (sA σ)))[k]? = some q' := hq'
    rw [List.getElem?_mapIdx] at hq'
    cases hq : (sK σ)[k]? with
    | none => rw [hq] at hq'; cases hq'
    | some q =>
      rw [hq] at hq'
      cases hq'
      have hkk := (List.getElem?_eq_some_iff.mp hq).1
      have kx := hw.kx hq
      obtain ⟨k1, k2, k3, k4, k5, k6⟩ := kx.1
      refine ⟨⟨(congrFun i1 k).trans k1, (congrFun i2 k).trans k2, (congrFun z3 k).trans k3, (congrFun z4 k).trans k4, fun h => (congrFun j5 k).trans (k5 h), k6⟩, rKE_X.mpr ?_⟩
      rw [hwR k q hq]
      have hIr : ∀ r, r < 300 ∧ mEn μ k r = true → ¬ r = r0 := fun r h => (hliv r h.1 (mEn_live h.2)).1
      refine (rKE_X.mp kx.2.1).ins (fun r h => ?_) (fun r h => if_neg (hIr r h)) (fun r h => if_neg (hIr r h)) (fun r h => eRk k r h.1 (hIr r h)) (fun c m h => Or.inl h) ?_ (if_pos rfl) (if_pos rfl) (kx.cl (by omega) (by omega)) (fun _ => ⟨wN w + k + 1, eRu k hkk, Or.inr ⟨hkk, rfl, rfl⟩⟩) (fun r => ?_) (fun hd _ => hdup k q hq hd)
      · show mF ν k (mJ ν 9 r) = mF μ k (mJ μ 9 r)
        rw [j9, if_neg (hIr r h), eF]
      · show mF ν k (mJ ν 9 r0) = _
        rw [j9, if_pos rfl, eF, mF_fK kx.1]
      · show r < 300 ∧ mEn ν k r = true ↔ (r < 300 ∧ mEn μ k r = true) ∨ (r = r0 ∧ lft q.1 (fK q.1 b1) = false)
        by_cases h : r = r0
        · subst h
          rw [eEu, mHs_lft kx.1]
          constructor
          · rintro ⟨-, p2⟩
            exact Or.inr ⟨rfl, by simpa using p2⟩
          · rintro (p | ⟨-, p⟩)
            · exact absurd rfl (hIr r p)
            · exact ⟨hr3, by rw [p]; rfl⟩
        · rw [eEn k r h]
          exact ⟨Or.inl, fun p => p.elim id (fun p => absurd p.1 h)⟩
  · have h1 : ((sK σ).mapIdx (enF b1 s0 (sA σ))).length ≤ k := h1
    rw [hKl] at h1
    exact (congrFun z4 k).trans (g7 k h1 h2)
  · have h1 : ((sK σ).mapIdx (enF b1 s0 (sA σ))).length ≤ k := h1
    rw [hKl] at h1
    show (match (sK σ)[k]? with | some q => _ | none => wR w k) = []
    rw [List.getElem?_eq_none_iff.mpr h1]
    exact g8 k h1
  · show mI ν 10 r = 0 ∨ ∃ nn, 0 < nn ∧ nn ≤ wM w + 1 ∧ mI ν 10 r = nI nn ∧ va_up (sD σ) s0 (some (b1, true)) (if r = r0 then s0 else wL w r) = some (mJ ν 9 r, true)
    rw [i10, j9]
    by_cases h : r = r0
    · rw [if_pos h, if_pos h, if_pos h]
      exact Or.inr ⟨wM w + 1, by omega, Nat.le_refl _, rfl, va_up_self _ _ _⟩
    · rw [if_neg h, if_neg h, if_neg h]
      rcases g9.1 r hr with p | ⟨m, p1, p2, p3, p4⟩
      · exact Or.inl p
      · refine Or.inr ⟨m, p1, by omega, p3, ?_⟩
        rw [va_up_ne _ _ (fun y => by rw [y, hs0] at p4; cases p4)]
        exact p4
  · have h5 : (if r1 = r0 then s0 else wL w r1) = (if r2 = r0 then s0 else wL w r2) ∨ mI ν 10 r1 = mI ν 10 r2 := h5
    rw [i10] at h3 h4
    rw [i10, i10] at h5
    by_cases e1 : r1 = r0 <;> by_cases e2 : r2 = r0
    · rw [e1, e2]
    · rw [if_neg e2] at h4
      rw [if_pos e1, if_neg e2, if_pos e1, if_neg e2] at h5
      obtain ⟨-, l1, nn, l2, l3, l4⟩ := hliv r2 h2 h4
      rcases h5 with h5 | h5
      · exact absurd h5.symm l1
      · rw [l4] at h5; exact absurd h5 (hne nn l2 l3)
    · rw [if_neg e1] at h3
      rw [if_neg e1, if_pos e2, if_neg e1, if_pos e2] at h5
      obtain ⟨-, l1, nn, l2, l3, l4⟩ := hliv r1 h1 h3
      rcases h5 with h5 | h5
      · exact absurd h5 l1
      · rw [l4] at h5; exact absurd h5.symm (hne nn l2 l3)
    · rw [if_neg e1] at h3
      rw [if_neg e2] at h4
      rw [if_neg e1, if_neg e2, if_neg e1, if_neg e2] at h5
      exact g9.2 r1 r2 h1 h2 h3 h4 h5
  · have h : sO σ = false := h
    rw [hso] at h
    cases h
  · have hj : ((sV σ).set i (vWrote (vForget v) (fK q0.1 b1)))[j]? = some v' := hj
    have hKl2 : (sK σ).length ≤ ((sK σ).mapIdx (enF b1 s0 (sA σ))).length := by rw [hKl]; exact Nat.le_refl _
    rcases set_at hj with ⟨rfl, rfl⟩ | ⟨hne, hj⟩
    · obtain ⟨p1, p2, p3⟩ := hVs j v hi
      rw [hν]
      refine ⟨p1.trans (congrFun (congrFun hZ 24) j).symm, ((congrFun (congrFun hJ 22) j).trans pk_uLs).symm, fun z => ?_⟩
      obtain ⟨o1, o2, ⟨k, o3, o4, o5, o6⟩, o7, o8, o9, o10, o11, o12⟩ := p3 z
      refine ⟨⟨o1.1.trans (congrFun (hI 15 (by decide)) j).symm, o1.2⟩, o2.trans (congrFun (hI 16 (by decide)) j).symm, ⟨k, Nat.lt_of_lt_of_le o3 hKl2, o4, (congrFun (hI 17 (by decide)) j).trans o5, fun hz => ?_⟩, o7.trans (congrFun (hI 18 (by decide)) j).symm, o8, fun hz => (o9 hz).trans (congrFun (congrFun hZ 25) j).symm, (va_up_self _ _ _).symm, fun _ => (mF_fK kx0.1 b1).symm.trans pk_uLs.symm, Or.inl ⟨rfl, (congrFun (hI 20 (by decide)) j).trans pk_us⟩⟩
      obtain ⟨c, r, p1, p2, p3, p4⟩ := o6 hz
      exact ⟨c, r, Or.inl p1, p2, (congrFun (hI 19 (by decide)) j).trans p3, p4.trans (congrFun (congrFun hJ 21) j).symm⟩
    · refine (hVs j v' hj).up hKl2 (fun _ _ _ h => Or.inl h) hRL ?_
      rw [hν]
      exact ⟨congrFun (hI 15 (by decide)) j, congrFun (hI 16 (by decide)) j, congrFun (hI 17 (by decide)) j, congrFun (hI 18 (by decide)) j, congrFun (hI 19 (by decide)) j, (congrFun (hI 20 (by decide)) j).trans (pk_un hne), congrFun (congrFun hJ 21) j, (congrFun (congrFun hJ 22) j).trans (pk_uLn hne), (pk_uLn hne).trans (congrFun (congrFun hJ 23) j), congrFun (congrFun hZ 24) j, congrFun (congrFun hZ 25) j, (va_up_ne _ _ hne).trans (congrFun (congrFun hZ 26) j)⟩
  · have hj : ((sV σ).set i (vWrote (vForget v) (fK q0.1 b1))).length ≤ j := hj
    rw [List.length_set] at hj
    obtain ⟨p1, p2⟩ := hV2 j hj h5
    rw [hν]
    exact ⟨(congrFun (congrFun hZ 24) j).trans p1, ((congrFun (congrFun hJ 22) j).trans (pk_uLn (by omega))).trans p2⟩
theorem j_write (hC : xCS E G x σ) (hM : xMD E G md a μ) (hR : Rel σ μ n) (hn : n < 600) (j : Int32) (b1 : Int64) : XMk l E y_KF_write w_KF_write rm_KF_write [.ref x, .int j, .long b1] G (JRi l E x md a n y_MD_write w_MD_write rm_MD_write [.ref md, .int j, .long b1]) 13 2217 := by
  have hC0 := hC
  obtain ⟨lo, la, lc, hB⟩ := hC
  have hB : xCB E G x σ lo la lc := hB
  obtain ⟨hG, hL, hnn, hk, hv, hs, he⟩ := id hB
  have hl := hR.lens
  rcases atI_cases (sV σ) j (by omega) with ⟨-, hj⟩ | ⟨i, v, rfl, hi, -, hil⟩
  · exact j_i (q_KF_write_nv l E hB (by rw [hnn.2.2.1]; exact hj)) (p_pure hC0) (fun hM' => q_MD_write_nv l E hM' (hR.vw_no hj)) hM (hR.thr hn)
  · obtain ⟨va, ha, hV⟩ := hv i v hi
    have h5 := hR.vw_in hil
    have hrf := hR.refW hi
    by_cases hr : refWrite v.1 (vMo v) (vAc v) = 0
    · have ho := refW_op hr
      have hrm : refWrite (mZ μ 24 i) (mI μ 15 i) (mI μ 16 i) = 0 := hrf ▸ hr
      obtain ⟨w, hw⟩ := id hR
      obtain ⟨q0, hq0⟩ := e_lt (hw.1.2.1.2.2 (by omega))
      have kx0 := hw.kx hq0
      have hac : vAc v = mI μ 16 i := ((hR.rv hi).2.2 ho).2.1
      have hoo := hw.oo hi ho hq0 (fK q0.1 b1)
      have hF0 : mF μ 0 b1 = fK q0.1 b1 := mF_fK kx0.1 b1
      have hKe : mS μ 6 = nI (sK σ).length := hw.1.1.2
      have hsr : ∀ (i : Nat) (q : KD × List E3), (sK σ)[i]? = some q → srt q.2 := fun k q hq => (hw.kx hq).2.1.2.2.1
      have hfg : Rel (σ.vw i (vForget v)) (mFg (sS μ 0 0) i) (n + 1) := ⟨w, hw.fg hn hi⟩
      by_cases h21 : vAc v = 0 ∧ ooB (vHw v) (vPw v) (fK q0.1 b1) (vMo v) q0.2 = true
      · exact j_i (q_KF_write_21 l E hB ha hV hq0 hr h21.1 h21.2) (fun r G' h => h) (fun hM' => q_MD_write_21 l E hM' h5.2 h5.1 hrm (hac ▸ h21.1) (by rw [hF0, ← hoo]; exact h21.2)) hM hfg
      · have h21m : ¬ (mI μ 16 i = 0 ∧ mOo μ i (mF μ 0 b1) = true) := by rw [← hac, hF0, ← hoo]; exact h21
        have hsA : sA σ + (sK σ).length < 2 ^ 31 := by obtain ⟨b1, -, -, -, b5⟩ := hw.2.2.2; omega
        have hbc : ∀ k q, (sK σ)[k]? = some q → (mBc μ b1 none k = true ↔ ∃ r ∈ wR w k, mF μ k (mJ μ 9 r) = fK q.1 b1) := fun k q hq => by
          rw [(hw.kx hq).bc b1 none]
          exact ⟨fun ⟨_, r, g1, _, g2⟩ => ⟨r, g1, g2⟩, fun ⟨r, g1, g2⟩ => ⟨rfl, r, g1, (fun y => by cases y), g2⟩⟩
        have hbar : ∀ k q, (sK σ)[k]? = some q → (barK b1 none q = true ↔ mBc μ b1 none k = true ∧ q.1.1 = false) := fun k q hq => by
          rw [(hw.kx hq).bar b1 none, hbc k q hq]
          exact ⟨fun ⟨g0, r, g1, _, g2⟩ => ⟨⟨r, g1, g2⟩, g0⟩, fun ⟨⟨r, g1, g2⟩, g0⟩ => ⟨g0, r, g1, (fun y => by cases y), g2⟩⟩
        have hen : enB (sK σ) b1 (sA σ) (sK σ).length = true ↔ ∃ k q, (sK σ)[k]? = some q ∧ mBc μ b1 none k = true := by
          rw [enB_iff]
          have he : ∀ k q, (sK σ)[k]? = some q → (entB q.1 q.2 (fK q.1 b1) (lN (sA σ + k + 1)) = true ↔ mBc μ b1 none k = true) := fun k q hq => by
            have kx := hw.kx hq
            have hkk := (List.getElem?_eq_some_iff.mp hq).1
            rw [entB_iff kx.2.1.2.2.1 (kx.cl (by omega) (by omega)), hbc k q hq]
            constructor
            · rintro ⟨-, e, he, hf⟩
              rw [kx.2.1.1] at he
              obtain ⟨r, hr, rfl⟩ := List.mem_map.mp he
              exact ⟨r, hr, hf⟩
            · rintro ⟨r, hr, hf⟩
              exact ⟨kx.hs hr hf, ent μ k (wC w k) (wL w) r, by rw [kx.2.1.1]; exact List.mem_map.mpr ⟨r, hr, rfl⟩, hf⟩
          exact ⟨fun ⟨k, q, _, hq, h⟩ => ⟨k, q, hq, (he k q hq).mp h⟩, fun ⟨k, q, hq, h⟩ => ⟨k, q, (List.getElem?_eq_some_iff.mp hq).1, hq, (he k q hq).mpr h⟩⟩
        rcases hw.bar hbar hen with ⟨h22, h22m⟩ | ⟨h22, h22m, hans⟩
        · exact j_i (q_KF_write_22 l E hB ha hV hq0 hr h21 hsr h22) (fun r G' h => h) (fun hM' => q_MD_write_22 l E hM' h5.2 h5.1 hrm h21m hKe hl.2 h22m) hM hfg
        · have hlen := ent_len kx0.2.1
          have h300 := rs_le kx0.2.1
          have h12 : mS μ 12 = 300 ↔ (wR w 0).length = 300 := by rw [hw.1.2.2.2.1.2.2]; exact nI_eq (b := 300) (by omega) (by omega)
          by_cases hfu : 300 ≤ q0.2.length
          · exact j_i (q_KF_write_24 l E hB ha hV hq0 hr h21 hsr h22 hfu) (fun r G' h => h) (fun hM' => q_MD_write_24 l E hM' h5.2 h5.1 hrm h21m hKe hl.2 h22m (h12.mpr (by omega))) hM hfg
          · obtain ⟨r0, hr3, hlow, hfree⟩ : ∃ r0, r0 < 300 ∧ (∀ r, r < r0 → 0 < mI μ 10 r) ∧ ¬ 0 < mI μ 10 r0 := by
              cases hz : mFst (fun r => !decide (0 < mI μ 10 r)) 300 0 with
              | none =>
                obtain ⟨r, -, r2, r3⟩ := mCt_lt (c := mEn μ 0) (n := 300) (t := 0) (by rw [← rs_ct kx0.2.1]; omega)
                have := mFst_none hz r (by omega) (by omega)
                rw [mEn_0] at r3
                have this : (!decide (0 < mI μ 10 r)) = false := this
                rw [r3] at this
                cases this
              | some r0 =>
                obtain ⟨p1, p2, -⟩ := mFst_some hz
                refine ⟨r0, by omega, fun r hr => ?_, by simpa using p1⟩
                have := mFst_low hz r (by omega) hr
                simpa using this
            refine (q_KF_write_ok l E hB ha hV hq0 hr h21 hsr h22 (by omega) hl.2 (fun k q hq => ⟨hsr k q hq, by rw [ent_len (hw.kx hq).2.1]; exact rs_le (hw.kx hq).2.1⟩)).mono (fun r G' h => ?_)
            obtain ⟨s0, p0, p1, p2, p3⟩ := h
            have hs0 : sD σ s0 = none := by
              cases hd : sD σ s0 with
              | none => rfl
              | some d =>
                obtain ⟨sw, -, hS⟩ := hs s0 d hd
                rw [p0] at hS
                cases hS
            refine ⟨_, p1, j_r ?_ p2 (xMD_fm hM p3) ⟨_, hw.wr hn hi ho hq0 hr3 hfree hs0 ?_ (mRA_o (M := mFg (sS μ 0 0) i) hw.1.2.2.2.1.2.1)⟩⟩
            · rw [← hans]
              exact q_MD_write_ok l E (xMD_fm hM p3) h5.2 h5.1 hrm h21m hKe hl.2 h22m (fun y => hfu (by have := h12.mp y; omega)) hr3 hlow hfree
            · intro k q hq hd r hr hf
              have h1 : barK b1 none q = true := (hbar k q hq).mpr ⟨(hbc k q hq).mpr ⟨r, hr, hf⟩, hd⟩
              rw [List.any_eq_false] at h22
              exact h22 q (List.mem_of_getElem? hq) h1
    · exact j_i (q_KF_write_ref l E hB ha hV hr) (p_pure hC0) (fun hM' => by rw [show refWrite v.1 v.2.1 v.2.2.1 = _ from hrf]; exact q_MD_write_ref l E hM' h5.2 h5.1 (hrf ▸ hr)) hM (hR.thr hn)
end J8
