/-! JOINT CONTRACTS: the record to change, remove, whole -/
theorem KX.fst {μ : MS} {k A : Nat} {w : RW} {q : KD × List E3} (h : KX μ k w q A) (f : Int64) : (fstE q.2 f = none ∧ ∀ r ∈ wR w k, ¬ mF μ k (mJ μ 9 r) = f) ∨ ∃ p u, fstE q.2 f = some p ∧ p = cnt q.2 f 0 ∧ (wR w k)[p]? = some u ∧ mF μ k (mJ μ 9 u) = f := by
  have hlen := ent_len h.2.1
  unfold fstE oEq
  by_cases hc : cnt q.2 f 0 < q.2.length ∧ eF q.2 (cnt q.2 f 0) = f
  · rw [if_pos hc]
    obtain ⟨u, hu⟩ := e_lt (show cnt q.2 f 0 < (wR w k).length by omega)
    exact Or.inr ⟨_, u, rfl, rfl, hu, (h.ef hu).1.symm.trans hc.2⟩
  · rw [if_neg hc]
    refine Or.inl ⟨rfl, fun r hr he => hc ?_⟩
    obtain ⟨i, hi⟩ := List.getElem?_of_mem hr
    have hil := (List.getElem?_eq_some_iff.mp hi).1
    have hle : cnt q.2 f 0 ≤ i := by
      rcases Nat.lt_or_ge i (cnt q.2 f 0) with hlt | hge
      · have h1 := (h.cn f (lN 0) hi).mpr hlt
        obtain ⟨m, -, -, b1, b2, -⟩ := h.rk hr
        rcases ahead_iff.mp h1 with h2 | ⟨-, h2⟩
        · rw [he] at h2; omega
        · rw [lN_lt (by omega) (by omega)] at h2; omega
      · exact hge
    obtain ⟨u, hu⟩ := e_lt (show cnt q.2 f 0 < (wR w k).length by omega)
    refine ⟨by omega, (h.ef hu).1.trans ?_⟩
    have hna : ¬ ahead (mF μ k (mJ μ 9 u)) (lN (wC w k u)) f (lN 0) = true := fun z => absurd ((h.cn f (lN 0) hu).mp z) (Nat.lt_irrefl _)
    rw [ahead_iff] at hna
    have h1 : uN (mF μ k (mJ μ 9 u)) ≤ uN f := by
      rcases Nat.eq_or_lt_of_le hle with heq | hlt
      · rw [heq, hi] at hu
        cases hu
        rw [he]
        exact Nat.le_refl _
      · have := ahead_f (srt_lt h.2.1.2.2.1 (h.at hu) (h.at hi) hlt)
        have : uN (mF μ k (mJ μ 9 u)) ≤ uN (mF μ k (mJ μ 9 r)) := this
        rw [he] at this
        exact this
    have h2 : ¬ uN (mF μ k (mJ μ 9 u)) < uN f := fun z => hna (Or.inl z)
    exact uN_inj (by omega)
theorem KX.eqs {μ : MS} {k A : Nat} {w : RW} {q : KD × List E3} (h : KX μ k w q A) {f : Int64} {but : Option Nat} {r : Nat} (hm : mEq μ k f but = some r) : r ∈ wR w k ∧ mF μ k (mJ μ 9 r) = f ∧ but ≠ some r := by
  obtain ⟨h1, h2, -⟩ := mFst_some hm
  simp only [Bool.and_eq_true, decide_eq_true_eq, Bool.not_eq_true', decide_eq_false_iff_not] at h1
  exact ⟨(h.2.1.2.1 r).mpr ⟨by omega, h1.2.1⟩, h1.2.2, h1.1⟩
theorem KX.eqn {μ : MS} {k A : Nat} {w : RW} {q : KD × List E3} (h : KX μ k w q A) {f : Int64} {but : Option Nat} (hm : mEq μ k f but = none) {r : Nat} (hr : r ∈ wR w k) (hb : but ≠ some r) : ¬ mF μ k (mJ μ 9 r) = f := by
  intro hf
  have h1 := (h.2.1.2.1 r).mp hr
  have h2 := mFst_none hm r (by omega) (by omega)
  rw [h1.2, decide_eq_true hf, decide_eq_false hb] at h2
  cases h2
theorem rS_inj {σ : CS} {μ : MS} {n : Nat} {w : RW} (h : RelW σ μ n w) {r1 r2 : Nat} (h1 : r1 < 300) (h2 : r2 < 300) (l1 : 0 < mI μ 10 r1) (l2 : 0 < mI μ 10 r2) (he : wL w r1 = wL w r2 ∨ mI μ 10 r1 = mI μ 10 r2) : r1 = r2 := h.1.2.2.2.2.2.2.2.2.1.2 r1 r2 h1 h2 l1 l2 he
theorem nI_lv {nn : Nat} (h0 : 0 < nn) (h : nn < 2 ^ 31) : (0 : Int32) < nI nn := nI_lt (a := 0) h0 h
section J6
variable {l : Launch} {E : xE} {x md : Nat} {a : Nat → Nat} {n : Nat} {G : xw_G} {σ : CS} {μ : MS}
/-- the record that rewrite or remove is for -/
theorem RelW.rtc {w : RW} {lo la : Nat → Nat} {lc : Nat → List Nat} (hB : xCB E G x σ lo la lc) (hw : RelW σ μ n w) {i va : Nat} {v : VD} (hi : (sV σ)[i]? = some v) (hV : G va = some (cVW v)) (ho : v.1 = true) (z : Int64) {q : KD × List E3} (hq : (sK σ)[0]? = some q) :
    XMk l E y_KF_recordToChange w_KF_recordToChange rm_KF_recordToChange [.ref x, .ref va, .long z] G (fun r G' => r = some (va_rf ((mTg μ i z).map (wL w))) ∧ G = G') 0 0 ∧ ∀ u, mTg μ i z = some u → u ∈ wR w 0 := by
  obtain ⟨hG, hL, hnn, hk, hv, hs, he⟩ := id hB
  obtain ⟨⟨ki, hki, hK⟩, hX⟩ := hk 0 q hq
  have kx := hw.kx hq
  have hb := hw.2.2.2
  obtain ⟨-, -, hb3, -, hb5⟩ := hb
  obtain ⟨p1, p2, p3⟩ := hw.2.1 i _ hi
  obtain ⟨o1, o2, -, -, -, -, -, -, o12⟩ := p3 ho
  have hlive : ∀ u, u < 300 → 0 < mI μ 10 u → u ∈ wR w 0 := fun u h1 h2 => (kx.2.1.2.1 u).mpr ⟨h1, by rw [mEn_0]; exact decide_eq_true h2⟩
  rcases v with ⟨vo, mo, ac, kr, pl, pf, pc, ae, rl, vr, hw2, pw⟩
  have o2 : ac = mI μ 16 i := o2
  have o12 : RL μ (sD σ) w rl (mI μ 20 i) := o12
  by_cases hac : ac = 0
  · have ht : mTg μ i z = mHd μ i := by unfold mTg; rw [if_pos (o2.symm.trans hac)]
    rw [ht]
    have hl2 : ∀ u, mHd μ i = some u → u ∈ wR w 0 := by
      intro u hu
      obtain ⟨h1, h2, -⟩ := mFst_some hu
      rw [Bool.and_eq_true] at h1
      exact hlive u (by omega) (of_decide_eq_true h1.1)
    refine ⟨?_, hl2⟩
    rcases o12 with ⟨r1, r2⟩ | ⟨s0, nn, b, th, r1, r2, r3, r4, r5, r6, r7⟩
    · have hnone : mHd μ i = none := by
        cases hz : mHd μ i with
        | none => rfl
        | some u =>
          obtain ⟨h1, -⟩ := mFst_some hz
          rw [Bool.and_eq_true] at h1
          have h2 := of_decide_eq_true h1.1
          rw [of_decide_eq_true h1.2, r2] at h2
          exact absurd h2 (by decide)
      rw [hnone]
      subst r1
      exact q_KF_rtc_s0 l E hV hac
    · subst r1
      obtain ⟨sw, -, hS⟩ := hs _ _ r5
      have h1 := q_KF_rtc_s1 l E (x := x) (z := z) hV hS hac
      have e : (mHd μ i).map (wL w) = if th = true then some s0 else none := by
        cases th with
        | true =>
          obtain ⟨r, g1, g2, g3⟩ := r6 rfl
          rw [if_pos rfl]
          cases hz : mHd μ i with
          | none =>
            have := mFst_none hz r (by omega) (by omega)
            rw [decide_eq_true (show 0 < mI μ 10 r by rw [g2]; exact nI_lv r3 (by omega)), decide_eq_true (show mI μ 10 r = mI μ 20 i by rw [g2, r2])] at this
            cases this
          | some u =>
            obtain ⟨h1, h2, -⟩ := mFst_some hz
            rw [Bool.and_eq_true] at h1
            have := rS_inj hw (r1 := u) (r2 := r) (by omega) g1 (of_decide_eq_true h1.1) (by rw [g2]; exact nI_lv r3 (by omega)) (Or.inr (by rw [of_decide_eq_true h1.2, r2, g2]))
            rw [this]
            exact congrArg some g3
        | false =>
          rw [if_neg Bool.false_ne_true]
          cases hz : mHd μ i with
          | none => rfl
          | some u =>
            obtain ⟨h1, h2, -⟩ := mFst_some hz
            rw [Bool.and_eq_true] at h1
            exact absurd (by rw [of_decide_eq_true h1.2, r2]) (r7 rfl u (by omega))
      rw [e]
      exact h1
  · have ht : mTg μ i z = mEq μ 0 z none := by unfold mTg; rw [if_neg (fun y => hac (o2.trans y))]
    rw [ht]
    have hl2 : ∀ u, mEq μ 0 z none = some u → u ∈ wR w 0 := fun u hu => (kx.eqs hu).1
    refine ⟨?_, hl2⟩
    have hI0 := hL.1 0 (by omega)
    have hA := hL.1 2 (by have := (List.getElem?_eq_some_iff.mp hq).1; omega)
    have hsr := kx.2.1.2.2.1
    rcases kx.fst z with ⟨h1, h2⟩ | ⟨p, u, h1, h2, h3, h4⟩
    · have hnone : mEq μ 0 z none = none := by
        cases hz : mEq μ 0 z none with
        | none => rfl
        | some u => exact absurd (kx.eqs hz).2.1 (h2 u (kx.eqs hz).1)
      rw [hnone]
      exact q_KF_rtc_r0 l E hG hI0 hV hK hki hA (xEL_xEs hX) (xEL_le hX z 0) (xEL_cnt hX hsr z 0) hac (by rw [hX.1]; exact h1)
    · have hsome : mEq μ 0 z none = some u := by
        cases hz : mEq μ 0 z none with
        | none => exact absurd h4 (kx.eqn hz (List.mem_of_getElem? h3) (fun y => by cases y))
        | some u' =>
          obtain ⟨g1, g2, -⟩ := kx.eqs hz
          rw [kx.2.1.2.2.2.2 (kx.1.2.2.2.2.2 rfl).1 u' g1 u (List.mem_of_getElem? h3) (g2.trans h4.symm)]
      rw [hsome]
      obtain ⟨b, hb, hN⟩ := hX.2 _ _ (kx.at h3)
      subst h2
      have h5 := q_KF_rtc_r1 l E hG hI0 hV hK hki hA (xEL_xEs hX) (xEL_le hX z 0) (xEL_cnt hX hsr z 0) hac (by rw [hX.1]; exact h1) hb
      rw [(kx.ef h3).2.2] at h5
      exact h5
theorem RelW.cm0 {w : RW} (hw : RelW σ μ n w) {k : Nat} {q : KD × List E3} (hq : (sK σ)[k]? = some q) : ∀ e ∈ q.2, ¬ e.2.1 < 0 := by
  intro e he
  have kx := hw.kx hq
  rw [kx.2.1.1] at he
  obtain ⟨r, hr, rfl⟩ := List.mem_map.mp he
  obtain ⟨m, -, -, b1, b2, -⟩ := kx.rk hr
  show ¬ lN (wC w k r) < lN 0
  rw [lN_lt (by omega) (by omega)]
  omega
theorem RelW.dOK {w : RW} (hw : RelW σ μ n w) {q0 : KD × List E3} (hq0 : (sK σ)[0]? = some q0) {u : Nat} (hu : u ∈ wR w 0) {k : Nat} {q : KD × List E3} (hq : (sK σ)[k]? = some q) : dOK q.2 (wL w u) (fK q.1 (mJ μ 9 u)) ∧ q.2.length ≤ 300 := by
  have kx := hw.kx hq
  obtain ⟨hD, hu3, nn, n1, n2, n3⟩ := hw.dat hq0 hu
  have hulive : 0 < mI μ 10 u := mEn_live (((hw.kx hq0).2.1.2.1 u).mp hu).2
  have hinj : ∀ r ∈ wR w k, wL w r = wL w u → r = u := fun r hr he => rS_inj hw (kx.lt r hr) hu3 (mEn_live ((kx.2.1.2.1 r).mp hr).2) hulive (Or.inl he)
  refine ⟨⟨kx.2.1.2.2.1, hw.cm0 hq, ?_⟩, by rw [ent_len kx.2.1]; exact rs_le kx.2.1⟩
  by_cases hm : u ∈ wR w k
  · left
    obtain ⟨j, hj⟩ := List.getElem?_of_mem hm
    refine ⟨j, _, kx.at hj, rfl, mF_fK kx.1 _, fun i e he hes => ?_⟩
    rw [ent_at kx.2.1] at he
    cases hr : (wR w k)[i]? with
    | none => rw [hr] at he; cases he
    | some r =>
      rw [hr] at he
      cases he
      have := hinj r (List.mem_of_getElem? hr) hes
      subst this
      exact nodup_at (rs_nd kx.2.1) hr hj
  · right
    have hlf : lft q.1 (fK q.1 (mJ μ 9 u)) = true := by
      cases hz : lft q.1 (fK q.1 (mJ μ 9 u)) with
      | true => rfl
      | false =>
        refine absurd ((kx.2.1.2.1 u).mpr ⟨hu3, ?_⟩) hm
        unfold mEn
        rw [mHs_lft kx.1, hz, decide_eq_true hulive]
        rfl
    intro e he
    rw [kx.2.1.1] at he
    obtain ⟨r, hr, rfl⟩ := List.mem_map.mp he
    refine ⟨fun y => hm (hinj r hr y ▸ hr), fun y => ?_⟩
    have y : mF μ k (mJ μ 9 r) = fK q.1 (mJ μ 9 u) := y
    have h1 := ((kx.2.1.2.1 r).mp hr).2
    unfold mEn at h1
    rw [Bool.and_eq_true, mHs_lft kx.1, ← mF_fK kx.1 (mJ μ 9 r), y, hlf] at h1
    exact absurd h1.2 (by decide)
end J6
