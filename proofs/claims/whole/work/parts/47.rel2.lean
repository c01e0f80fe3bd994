/-! SEARCHES of the reference over the class's sorted lists -/
def KX (μ : MS) (k : Nat) (w : RW) (q : KD × List E3) (A : Nat) : Prop := kKD μ k q.1 ∧ rKE μ k w q ∧ PM (wP w k) A (wN w) ∧ A ≤ 3600 ∧ wN w ≤ 3600
theorem RelW.kx {σ : CS} {μ : MS} {n k : Nat} {w : RW} {q : KD × List E3} (h : RelW σ μ n w) (hq : (sK σ)[k]? = some q) : KX μ k w q (sA σ) := by
  obtain ⟨⟨-, -, -, -, h5, h6, -⟩, -, -, hb⟩ := h
  obtain ⟨g1, g2⟩ := h6 k q hq
  obtain ⟨b1, b2, b3, b4, b5⟩ := hb
  exact ⟨g1, g2, h5 k, by omega, by omega⟩
def PL (w : RW) (k c n : Nat) : Prop := (c = 0 ∧ n = 0) ∨ wP w k c n
theorem KX.rk {μ : MS} {k A : Nat} {w : RW} {q : KD × List E3} (h : KX μ k w q A) {r : Nat} (hr : r ∈ wR w k) : ∃ m, mRk μ k r = nI m ∧ wP w k (wC w k r) m ∧ 0 < wC w k r ∧ wC w k r ≤ 3600 ∧ 0 < m ∧ m ≤ 3600 := by
  obtain ⟨-, h2, h3, h4, h5⟩ := h
  obtain ⟨m, hm, hP⟩ := h2.2.2.2.1 r hr
  have := h3.1 _ _ hP
  exact ⟨m, hm, hP, by omega, by omega, by omega, by omega⟩
theorem KX.pl {μ : MS} {k A : Nat} {w : RW} {q : KD × List E3} (h : KX μ k w q A) {c n : Nat} (hp : PL w k c n) : c ≤ 3600 ∧ n ≤ 3600 := by
  rcases hp with ⟨rfl, rfl⟩ | hp
  · exact ⟨by omega, by omega⟩
  · have := h.2.2.1.1 _ _ hp
    exact ⟨by have := h.2.2.2; omega, by have := h.2.2.2; omega⟩
theorem KX.cmp {μ : MS} {k A : Nat} {w : RW} {q : KD × List E3} (h : KX μ k w q A) {c n c1 m : Nat} (hp : PL w k c n) (h1 : wP w k c1 m) : (c1 < c ↔ m < n) ∧ (c < c1 ↔ n < m) := by
  rcases hp with ⟨rfl, rfl⟩ | hp
  · have := h.2.2.1.1 _ _ h1
    exact ⟨by omega, by omega⟩
  · exact ⟨h.2.2.1.2 _ _ _ _ h1 hp, h.2.2.1.2 _ _ _ _ hp h1⟩
theorem KX.ah {μ : MS} {k A : Nat} {w : RW} {q : KD × List E3} (h : KX μ k w q A) {c n : Nat} (hp : PL w k c n) {r : Nat} (hr : r ∈ wR w k) (f : Int64) : mAh μ k r f (nI n) = ahead (mF μ k (mJ μ 9 r)) (lN (wC w k r)) f (lN c) := by
  obtain ⟨m, hm, hP, b1, b2, b3, b4⟩ := h.rk hr
  have hb := h.pl hp
  have hc := (h.cmp hp hP).1
  unfold mAh mLs ahead
  rw [hm]
  by_cases hf : mF μ k (mJ μ 9 r) = f
  · rw [if_pos hf, hf]
    simp only [Nat.lt_irrefl, decide_false, Bool.false_or, decide_true, Bool.true_and]
    rw [decide_eq_decide, nI_ltI (by omega) (by omega), lN_lt (by omega) (by omega)]
    exact hc.symm
  · rw [if_neg hf]
    simp [hf]
theorem KX.be {μ : MS} {k A : Nat} {w : RW} {q : KD × List E3} (h : KX μ k w q A) {c n : Nat} (hp : PL w k c n) {r : Nat} (hr : r ∈ wR w k) (f : Int64) : mBe μ k r f (nI n) = !ahead (mF μ k (mJ μ 9 r)) (lN (wC w k r)) f (lN (c + 1)) := by
  obtain ⟨m, hm, hP, b1, b2, b3, b4⟩ := h.rk hr
  have hb := h.pl hp
  have hc := (h.cmp hp hP).2
  unfold mBe mLs ahead
  rw [hm]
  by_cases hf : mF μ k (mJ μ 9 r) = f
  · rw [if_pos hf, hf]
    simp only [Nat.lt_irrefl, decide_false, Bool.false_or, decide_true, Bool.true_and]
    rw [← decide_not, decide_eq_decide, nI_ltI (by omega) (by omega), lN_lt (by omega) (by omega)]
    omega
  · rw [if_neg hf]
    have hne : ¬ uN (mF μ k (mJ μ 9 r)) = uN f := fun z => hf (uN_inj z)
    simp only [hf, decide_false, Bool.false_and, Bool.or_false]
    rw [← decide_not, decide_eq_decide]
    omega
theorem ahead_c1 {fd f : Int64} {m c : Nat} (hm : m < 2 ^ 30) (hc : c < 2 ^ 30) (h : ahead fd (lN m) f (lN c) = true) : ahead fd (lN m) f (lN (c + 1)) = true := by
  unfold ahead at h ⊢
  split at h
  · rw [if_pos (by assumption)]
    rw [decide_eq_true_eq, lN_lt (by omega) (by omega)] at h ⊢
    omega
  · rw [if_neg (by assumption)]
    exact h
theorem mAh_iff {μ : MS} {k x y : Nat} : mAh μ k x (mF μ k (mJ μ 9 y)) (mRk μ k y) = true ↔ uN (mF μ k (mJ μ 9 x)) < uN (mF μ k (mJ μ 9 y)) ∨ (mF μ k (mJ μ 9 x) = mF μ k (mJ μ 9 y) ∧ mRk μ k x < mRk μ k y) := by
  unfold mAh mLs
  simp
theorem mBe_iff {μ : MS} {k x y : Nat} : mBe μ k x (mF μ k (mJ μ 9 y)) (mRk μ k y) = true ↔ uN (mF μ k (mJ μ 9 y)) < uN (mF μ k (mJ μ 9 x)) ∨ (mF μ k (mJ μ 9 x) = mF μ k (mJ μ 9 y) ∧ mRk μ k y < mRk μ k x) := by
  unfold mBe mLs
  simp
theorem mAh_tr {μ : MS} {k : Nat} (x y z : Nat) (h1 : mAh μ k x (mF μ k (mJ μ 9 y)) (mRk μ k y) = true) (h2 : mAh μ k y (mF μ k (mJ μ 9 z)) (mRk μ k z) = true) : mAh μ k x (mF μ k (mJ μ 9 z)) (mRk μ k z) = true := by
  rw [mAh_iff] at h1 h2 ⊢
  rcases h1 with h1 | ⟨h1, g1⟩ <;> rcases h2 with h2 | ⟨h2, g2⟩
  · exact Or.inl (by omega)
  · exact Or.inl (by rw [← h2]; exact h1)
  · exact Or.inl (by rw [h1]; exact h2)
  · exact Or.inr ⟨h1.trans h2, Int32.lt_trans g1 g2⟩
theorem mAh_ir {μ : MS} {k : Nat} (x : Nat) : mAh μ k x (mF μ k (mJ μ 9 x)) (mRk μ k x) = false := by
  cases hz : mAh μ k x (mF μ k (mJ μ 9 x)) (mRk μ k x) with
  | false => rfl
  | true =>
    rcases mAh_iff.mp hz with h | ⟨-, h⟩
    · omega
    · exact absurd h Int32.lt_irrefl
theorem mBe_tr {μ : MS} {k : Nat} (x y z : Nat) (h1 : mBe μ k x (mF μ k (mJ μ 9 y)) (mRk μ k y) = true) (h2 : mBe μ k y (mF μ k (mJ μ 9 z)) (mRk μ k z) = true) : mBe μ k x (mF μ k (mJ μ 9 z)) (mRk μ k z) = true := by
  rw [mBe_iff] at h1 h2 ⊢
  rcases h1 with h1 | ⟨h1, g1⟩ <;> rcases h2 with h2 | ⟨h2, g2⟩
  · exact Or.inl (by omega)
  · exact Or.inl (by rw [← h2]; exact h1)
  · exact Or.inl (by rw [h1]; exact h2)
  · exact Or.inr ⟨h1.trans h2, Int32.lt_trans g2 g1⟩
theorem mBe_ir {μ : MS} {k : Nat} (x : Nat) : mBe μ k x (mF μ k (mJ μ 9 x)) (mRk μ k x) = false := by
  cases hz : mBe μ k x (mF μ k (mJ μ 9 x)) (mRk μ k x) with
  | false => rfl
  | true =>
    rcases mBe_iff.mp hz with h | ⟨-, h⟩
    · omega
    · exact absurd h Int32.lt_irrefl
theorem KX.at {μ : MS} {k A : Nat} {w : RW} {q : KD × List E3} (h : KX μ k w q A) {i r : Nat} (hr : (wR w k)[i]? = some r) : q.2[i]? = some (ent μ k (wC w k) (wL w) r) := by rw [ent_at h.2.1, hr]; rfl
theorem KX.ord {μ : MS} {k A : Nat} {w : RW} {q : KD × List E3} (h : KX μ k w q A) (i j x y : Nat) (hij : i < j) (hx : (wR w k)[i]? = some x) (hy : (wR w k)[j]? = some y) : mAh μ k x (mF μ k (mJ μ 9 y)) (mRk μ k y) = true ∧ mBe μ k y (mF μ k (mJ μ 9 x)) (mRk μ k x) = true := by
  have hx2 := List.mem_of_getElem? hx
  have hy2 := List.mem_of_getElem? hy
  obtain ⟨m, hm, hP, -⟩ := h.rk hy2
  have e := srt_lt h.2.1.2.2.1 (h.at hx) (h.at hy) hij
  have h1 : mAh μ k x (mF μ k (mJ μ 9 y)) (mRk μ k y) = true := by
    rw [hm, h.ah (Or.inr hP) hx2]
    exact e
  refine ⟨h1, ?_⟩
  rw [mBe_iff]
  rcases mAh_iff.mp h1 with g | ⟨g1, g2⟩
  · exact Or.inl g
  · exact Or.inr ⟨g1.symm, g2⟩
theorem KX.cn {μ : MS} {k A : Nat} {w : RW} {q : KD × List E3} (h : KX μ k w q A) (f d : Int64) {i r : Nat} (hr : (wR w k)[i]? = some r) : ahead (mF μ k (mJ μ 9 r)) (lN (wC w k r)) f d = true ↔ i < cnt q.2 f d := cnt_at h.2.1.2.2.1 f d i _ (h.at hr)
theorem KX.lt {μ : MS} {k A : Nat} {w : RW} {q : KD × List E3} (h : KX μ k w q A) : ∀ r ∈ wR w k, r < 300 := fun r hr => ((h.2.1.2.1 r).mp hr).1
theorem KX.aft {μ : MS} {k A : Nat} {w : RW} {q : KD × List E3} (h : KX μ k w q A) {c n : Nat} (hp : PL w k c n) (f : Int64) (th : Bool) : mAft μ k f (nI n) th = (wR w k)[cnt q.2 f (lN (if th = true then c else c + 1))]? := by
  have hb := h.pl hp
  have hcand : ∀ i r : Nat, (wR w k)[i]? = some r → ((mEn μ k r && (!mAh μ k r f (nI n) && (th || mBe μ k r f (nI n)))) = true ↔ cnt q.2 f (lN (if th = true then c else c + 1)) ≤ i) := by
    intro i r hr
    have hm := List.mem_of_getElem? hr
    obtain ⟨m, -, -, b1, b2, -⟩ := h.rk hm
    rw [((h.2.1.2.1 r).mp hm).2, h.ah hp hm, h.be hp hm, Bool.true_and]
    cases th with
    | true =>
      rw [if_pos rfl, Bool.true_or, Bool.and_true]
      have := h.cn f (lN c) hr
      cases hz : ahead (mF μ k (mJ μ 9 r)) (lN (wC w k r)) f (lN c) with
      | true => rw [hz] at this; have := this.mp rfl; simp; omega
      | false => rw [hz] at this; have h5 : ¬ i < cnt q.2 f (lN c) := fun z => by have := this.mpr z; cases this
                 simp; omega
    | false =>
      rw [if_neg Bool.false_ne_true, Bool.false_or]
      have := h.cn f (lN (c + 1)) hr
      cases hz : ahead (mF μ k (mJ μ 9 r)) (lN (wC w k r)) f (lN (c + 1)) with
      | true => rw [hz] at this; have := this.mp rfl; simp; omega
      | false =>
        rw [hz] at this
        have h5 : ¬ i < cnt q.2 f (lN (c + 1)) := fun z => by have := this.mpr z; cases this
        have h6 : ahead (mF μ k (mJ μ 9 r)) (lN (wC w k r)) f (lN c) = false := by
          cases hy : ahead (mF μ k (mJ μ 9 r)) (lN (wC w k r)) f (lN c) with
          | false => rfl
          | true => rw [ahead_c1 (by omega) (by omega) hy] at hz; cases hz
        rw [h6]
        simp
        omega
  unfold mAft
  rw [fold_least (rs := wR w k) (p := cnt q.2 f (lN (if th = true then c else c + 1))) mAh_tr mAh_ir (fun i j x y hij hx hy => (h.ord i j x y hij hx hy).1) (fun r h3 hc => (h.2.1.2.1 r).mpr ⟨h3, (Bool.and_eq_true _ _ ▸ hc : _ ∧ _).1⟩) h.lt ?_]
  · cases hz : (wR w k)[cnt q.2 f (lN (if th = true then c else c + 1))]? with
    | none => rfl
    | some u =>
      show (if (mEn μ k u && (!mAh μ k u f (nI n) && (th || mBe μ k u f (nI n)))) = true then some u else none) = some u
      rw [if_pos ((hcand _ _ hz).mpr (Nat.le_refl _))]
  · intro i r hr hc
    have h5 := (hcand i r hr).mp hc
    have hl := (List.getElem?_eq_some_iff.mp hr).1
    obtain ⟨u, hu⟩ := e_lt (show cnt q.2 f (lN (if th = true then c else c + 1)) < (wR w k).length by omega)
    exact ⟨h5, u, hu, (hcand _ _ hu).mpr (Nat.le_refl _)⟩
theorem KX.ahd {μ : MS} {k A : Nat} {w : RW} {q : KD × List E3} (h : KX μ k w q A) {c n : Nat} (hp : PL w k c n) (f : Int64) (th : Bool) : mAhd μ k f (nI n) th = if 0 < cnt q.2 f (lN (if th = true then c + 1 else c)) then (wR w k)[cnt q.2 f (lN (if th = true then c + 1 else c)) - 1]? else none := by
  have hb := h.pl hp
  unfold mAhd
  refine fold_great mBe_tr mBe_ir (fun i j x y hij hx hy => (h.ord i j x y hij hx hy).2) (fun r h3 hc => (h.2.1.2.1 r).mpr ⟨h3, (Bool.and_eq_true _ _ ▸ hc : _ ∧ _).1⟩) h.lt (by rw [← ent_len h.2.1]; exact cnt_le) (fun i r hr => ?_)
  have hm := List.mem_of_getElem? hr
  obtain ⟨m, -, -, b1, b2, -⟩ := h.rk hm
  rw [((h.2.1.2.1 r).mp hm).2, h.ah hp hm, h.be hp hm, Bool.true_and, Bool.not_not]
  cases th with
  | true =>
    rw [if_pos rfl, Bool.true_or, Bool.and_true]
    exact h.cn f (lN (c + 1)) hr
  | false =>
    rw [if_neg Bool.false_ne_true, Bool.false_or]
    rw [← h.cn f (lN c) hr, Bool.and_eq_true]
    exact ⟨fun z => z.2, fun z => ⟨ahead_c1 (by omega) (by omega) z, z⟩⟩
theorem cnt_self {es : List E3} (hs : srt es) {i : Nat} {e : E3} (h : es[i]? = some e) : cnt es e.1 e.2.1 = i := by
  have hl := (List.getElem?_eq_some_iff.mp h).1
  have h1 := cnt_at hs e.1 e.2.1
  rcases Nat.lt_trichotomy (cnt es e.1 e.2.1) i with hlt | heq | hgt
  · obtain ⟨u, hu⟩ := e_lt (show cnt es e.1 e.2.1 < es.length by omega)
    have := (h1 _ u hu).mp (srt_lt hs hu h hlt)
    omega
  · exact heq
  · exact absurd ((h1 i e h).mpr hgt) ahead_irr
theorem KX.cnt1 {μ : MS} {k A : Nat} {w : RW} {q : KD × List E3} (h : KX μ k w q A) {i r : Nat} (hr : (wR w k)[i]? = some r) : cnt q.2 (mF μ k (mJ μ 9 r)) (lN (wC w k r + 1)) = i + 1 := by
  have hl := (List.getElem?_eq_some_iff.mp hr).1
  have hm := List.mem_of_getElem? hr
  obtain ⟨m, hm1, hP, b1, b2, -⟩ := h.rk hm
  have hi : i < cnt q.2 (mF μ k (mJ μ 9 r)) (lN (wC w k r + 1)) := by
    rw [← h.cn _ _ hr]
    unfold ahead
    rw [if_pos rfl, decide_eq_true_eq, lN_lt (by omega) (by omega)]
    omega
  have hle : cnt q.2 (mF μ k (mJ μ 9 r)) (lN (wC w k r + 1)) ≤ (wR w k).length := by rw [← ent_len h.2.1]; exact cnt_le
  rcases Nat.lt_or_ge (i + 1) (cnt q.2 (mF μ k (mJ μ 9 r)) (lN (wC w k r + 1))) with hlt | hge
  · obtain ⟨u, hu⟩ := e_lt (show i + 1 < (wR w k).length by omega)
    have h5 := (h.cn (mF μ k (mJ μ 9 r)) (lN (wC w k r + 1)) hu).mpr hlt
    have h6 := h.be (Or.inr hP) (List.mem_of_getElem? hu) (mF μ k (mJ μ 9 r))
    rw [h5, ← hm1, (h.ord i (i + 1) r u (by omega) hr hu).2] at h6
    cases h6
  · omega
theorem KX.cnt0 {μ : MS} {k A : Nat} {w : RW} {q : KD × List E3} (h : KX μ k w q A) {i r : Nat} (hr : (wR w k)[i]? = some r) : cnt q.2 (mF μ k (mJ μ 9 r)) (lN (wC w k r)) = i := cnt_self h.2.1.2.2.1 (h.at hr)
theorem KX.nx {μ : MS} {k A : Nat} {w : RW} {q : KD × List E3} (h : KX μ k w q A) {i r : Nat} (hr : (wR w k)[i]? = some r) : mAft μ k (mF μ k (mJ μ 9 r)) (mRk μ k r) false = (wR w k)[i + 1]? ∧ mAhd μ k (mF μ k (mJ μ 9 r)) (mRk μ k r) false = if 0 < i then (wR w k)[i - 1]? else none := by
  obtain ⟨m, hm1, hP, -⟩ := h.rk (List.mem_of_getElem? hr)
  rw [hm1, h.aft (Or.inr hP), h.ahd (Or.inr hP), if_neg Bool.false_ne_true, if_neg Bool.false_ne_true, h.cnt1 hr, h.cnt0 hr]
  exact ⟨rfl, rfl⟩
theorem KX.ef {μ : MS} {k A : Nat} {w : RW} {q : KD × List E3} (h : KX μ k w q A) {i r : Nat} (hr : (wR w k)[i]? = some r) : eF q.2 i = mF μ k (mJ μ 9 r) ∧ eC q.2 i = lN (wC w k r) ∧ eS q.2 i = wL w r := ⟨eF_at (h.at hr), eC_at (h.at hr), eS_at (h.at hr)⟩
theorem KX.sta {μ : MS} {k A : Nat} {w : RW} {q : KD × List E3} (h : KX μ k w q A) {i r : Nat} (hr : (wR w k)[i]? = some r) (back : Bool) : mSta μ k r back = if eqNext q.2.length (eF q.2) i (mF μ k (mJ μ 9 r)) back = true then 2 else 0 := by
  have hnx := h.nx hr
  have hnd := rs_nd h.2.1
  have hlen := ent_len h.2.1
  have hl := (List.getElem?_eq_some_iff.mp hr).1
  have hz : ∀ (j u : Nat), (wR w k)[j]? = some u → j ≠ i → mF μ k (mJ μ 9 u) = mF μ k (mJ μ 9 r) → mZ μ 3 k = true := by
    intro j u hu hj he
    rw [h.1.2.2.1]
    cases hd : q.1.1 with
    | true => rfl
    | false =>
      have := h.2.1.2.2.2.2 hd u (List.mem_of_getElem? hu) r (List.mem_of_getElem? hr) he
      subst this
      exact absurd (nodup_at hnd hu hr) hj
  unfold mSta
  cases back with
  | true =>
    rw [if_pos rfl, hnx.2]
    unfold eqNext
    rw [if_pos rfl]
    by_cases h0 : 0 < i
    · rw [if_pos h0]
      obtain ⟨u, hu⟩ := e_lt (show i - 1 < (wR w k).length by omega)
      rw [hu, (h.ef hu).1]
      by_cases he : mF μ k (mJ μ 9 u) = mF μ k (mJ μ 9 r)
      · rw [if_pos ⟨hz _ u hu (by omega) he, u, rfl, he⟩, if_pos (decide_eq_true ⟨h0, he⟩)]
      · rw [if_neg (by rintro ⟨-, u', h1, h2⟩; cases h1; exact he h2), if_neg (by simp [he])]
    · rw [if_neg h0, if_neg (by rintro ⟨-, u', h1, h2⟩; cases h1), if_neg (by simp [h0])]
  | false =>
    rw [if_neg Bool.false_ne_true, hnx.1]
    unfold eqNext
    rw [if_neg Bool.false_ne_true]
    by_cases h0 : i + 1 < q.2.length
    · obtain ⟨u, hu⟩ := e_lt (show i + 1 < (wR w k).length by omega)
      rw [hu, (h.ef hu).1]
      by_cases he : mF μ k (mJ μ 9 u) = mF μ k (mJ μ 9 r)
      · rw [if_pos ⟨hz _ u hu (by omega) he, u, rfl, he⟩, if_pos (decide_eq_true ⟨h0, he⟩)]
      · rw [if_neg (by rintro ⟨-, u', h1, h2⟩; cases h1; exact he h2), if_neg (by simp [he])]
    · rw [show (wR w k)[i + 1]? = none from by rw [List.getElem?_eq_none_iff]; omega, if_neg (by rintro ⟨-, u', h1, h2⟩; cases h1), if_neg (by simp [h0])]
