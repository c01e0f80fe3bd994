/-! THE RELATION of the class's state and the reference's -/
theorem i32_8 (s : Int32) : (64 : Int32) - 8 * s = 8 * (8 - s) := by
  rw [Int32.mul_sub]
  rfl
abbrev RW : Type := (Nat → Nat → Nat → Prop) × (Nat → Nat → Nat) × (Nat → Nat) × (Nat → List Nat) × Nat × Nat
abbrev wP (w : RW) : Nat → Nat → Nat → Prop := w.1
abbrev wC (w : RW) : Nat → Nat → Nat := w.2.1
abbrev wL (w : RW) : Nat → Nat := w.2.2.1
abbrev wR (w : RW) : Nat → List Nat := w.2.2.2.1
abbrev wN (w : RW) : Nat := w.2.2.2.2.1
abbrev wM (w : RW) : Nat := w.2.2.2.2.2
def kKD (μ : MS) (k : Nat) (kd : KD) : Prop := mI μ 1 k = kd.2.1 ∧ mI μ 2 k = kd.2.2.1 ∧ mZ μ 3 k = kd.1 ∧ mZ μ 4 k = kd.2.2.2.1 ∧ (kd.2.2.2.1 = true → mJ μ 5 k = kd.2.2.2.2) ∧ (k = 0 → kd.1 = false ∧ kd.2.2.2.1 = false)
def ent (μ : MS) (k : Nat) (cm sl : Nat → Nat) (r : Nat) : E3 := (mF μ k (mJ μ 9 r), lN (cm r), sl r)
def PM (P : Nat → Nat → Prop) (A N : Nat) : Prop := (∀ c r : Nat, P c r → 0 < c ∧ c ≤ A ∧ 0 < r ∧ r ≤ N) ∧ ∀ c1 r1 c2 r2 : Nat, P c1 r1 → P c2 r2 → (c1 < c2 ↔ r1 < r2)
def rKE (μ : MS) (k : Nat) (w : RW) (q : KD × List E3) : Prop :=
  q.2 = (wR w k).map (ent μ k (wC w k) (wL w)) ∧ (∀ r, r ∈ wR w k ↔ r < 300 ∧ mEn μ k r = true) ∧ srt q.2 ∧ (∀ r ∈ wR w k, ∃ n, mRk μ k r = nI n ∧ wP w k (wC w k r) n) ∧
  (q.1.1 = false → ∀ r1 ∈ wR w k, ∀ r2 ∈ wR w k, mF μ k (mJ μ 9 r1) = mF μ k (mJ μ 9 r2) → r1 = r2)
def rSl (μ : MS) (D : Nat → Option (Int64 × Bool)) (w : RW) : Prop :=
  (∀ r, r < 300 → mI μ 10 r = 0 ∨ ∃ nn, 0 < nn ∧ nn ≤ wM w ∧ mI μ 10 r = nI nn ∧ D (wL w r) = some (mJ μ 9 r, true)) ∧
  ∀ r1 r2, r1 < 300 → r2 < 300 → 0 < mI μ 10 r1 → 0 < mI μ 10 r2 → (wL w r1 = wL w r2 ∨ mI μ 10 r1 = mI μ 10 r2) → r1 = r2
def RF (σ : CS) (μ : MS) (w : RW) : Prop :=
  ((sK σ).length ≤ 6 ∧ mS μ 6 = nI (sK σ).length) ∧ ((sV σ).length ≤ 5 ∧ mS μ 7 = nI (sV σ).length ∧ (0 < (sV σ).length → 0 < (sK σ).length)) ∧ sO σ = mO μ ∧
  (mS μ 13 = nI (wM w) ∧ mS μ 14 = nI (wN w) ∧ mS μ 12 = nI (wR w 0).length) ∧ (∀ k, PM (wP w k) (sA σ) (wN w)) ∧
  (∀ (k : Nat) (q : KD × List E3), (sK σ)[k]? = some q → kKD μ k q.1 ∧ rKE μ k w q) ∧ (∀ k, (sK σ).length ≤ k → k < 6 → mZ μ 4 k = false) ∧ (∀ k, (sK σ).length ≤ k → wR w k = []) ∧
  rSl μ (sD σ) w ∧ (sO σ = false → ∀ r, r < 300 → mI μ 10 r = 0)
/-- the record that a view read last -/
def RL (μ : MS) (D : Nat → Option (Int64 × Bool)) (w : RW) (rl : Option Nat) (num : Int32) : Prop :=
  (rl = none ∧ num = 0) ∨ ∃ (s0 nn : Nat) (b : Int64) (th : Bool), rl = some s0 ∧ num = nI nn ∧ 0 < nn ∧ nn ≤ wM w ∧ D s0 = some (b, th) ∧ (th = true → ∃ r, r < 300 ∧ mI μ 10 r = nI nn ∧ wL w r = s0) ∧ (th = false → ∀ r, r < 300 → ¬ mI μ 10 r = nI nn)
abbrev vMo (v : VD) : Int32 := v.2.1
abbrev vAc (v : VD) : Int32 := v.2.2.1
abbrev vKr (v : VD) : Int32 := v.2.2.2.1
abbrev vPl (v : VD) : Int32 := v.2.2.2.2.1
abbrev vPf (v : VD) : Int64 := v.2.2.2.2.2.1
abbrev vPc (v : VD) : Int64 := v.2.2.2.2.2.2.1
abbrev vAe (v : VD) : Bool := v.2.2.2.2.2.2.2.1
abbrev vRl (v : VD) : Option Nat := v.2.2.2.2.2.2.2.2.1
abbrev vVr (v : VD) : Int64 := v.2.2.2.2.2.2.2.2.2.1
abbrev vHw (v : VD) : Bool := v.2.2.2.2.2.2.2.2.2.2.1
abbrev vPw (v : VD) : Int64 := v.2.2.2.2.2.2.2.2.2.2.2
/-- a view's place -/
def RP (μ : MS) (w : RW) (k i : Nat) (v : VD) : Prop := vPl v = 1 ∨ vPl v = 2 → ∃ c r : Nat, wP w k c r ∧ vPc v = lN c ∧ mI μ 19 i = nI r ∧ vPf v = mJ μ 21 i
def RO (σ : CS) (μ : MS) (w : RW) (i : Nat) (v : VD) : Prop :=
  (vMo v = mI μ 15 i ∧ sO σ = true) ∧ vAc v = mI μ 16 i ∧ (∃ k : Nat, k < (sK σ).length ∧ vKr v = nI k ∧ mI μ 17 i = nI k ∧ RP μ w k i v) ∧ vPl v = mI μ 18 i ∧ (vPl v = 0 ∨ vPl v = 1 ∨ vPl v = 2 ∨ vPl v = 3) ∧ (¬ vPl v = 3 → vAe v = mZ μ 25 i) ∧ vHw v = mZ μ 26 i ∧ (vHw v = true → vPw v = mJ μ 23 i) ∧ RL μ (sD σ) w (vRl v) (mI μ 20 i)
def RV (σ : CS) (μ : MS) (w : RW) (i : Nat) (v : VD) : Prop := v.1 = mZ μ 24 i ∧ vVr v = mJ μ 22 i ∧ (v.1 = true → RO σ μ w i v)
def RB (σ : CS) (w : RW) (n : Nat) : Prop := sA σ ≤ 6 * n ∧ wN w ≤ 6 * n ∧ wM w ≤ n ∧ sW σ ≤ 6 * n ∧ n ≤ 600
def RelW (σ : CS) (μ : MS) (n : Nat) (w : RW) : Prop := RF σ μ w ∧ (∀ (i : Nat) (v : VD), (sV σ)[i]? = some v → RV σ μ w i v) ∧ (∀ i, (sV σ).length ≤ i → i < 5 → mZ μ 24 i = false ∧ mJ μ 22 i = 0) ∧ RB σ w n
def Rel (σ : CS) (μ : MS) (n : Nat) : Prop := ∃ w, RelW σ μ n w
-- fields, what is left out
theorem mF_fK {μ : MS} {k : Nat} {kd : KD} (h : kKD μ k kd) (x : Int64) : mF μ k x = fK kd x := by
  unfold mF
  rw [h.1, h.2.1, i32_8]
  rfl
theorem mHs_lft {μ : MS} {k : Nat} {kd : KD} (h : kKD μ k kd) (x : Int64) : mHs μ k x = !lft kd (fK kd x) := by
  unfold mHs lft
  rw [mF_fK h, h.2.2.2.1]
  cases hs : kd.2.2.2.1 with
  | false => simp
  | true =>
    rw [h.2.2.2.2.1 hs]
    have hk : ¬ k = 0 := fun z => by rw [(h.2.2.2.2.2 z).2] at hs; cases hs
    simp [hk]
theorem mEn_live {μ : MS} {k r : Nat} (h : mEn μ k r = true) : 0 < mI μ 10 r := by
  unfold mEn at h
  rw [Bool.and_eq_true] at h
  exact of_decide_eq_true h.1
theorem mEn_0 {μ : MS} {r : Nat} : mEn μ 0 r = decide (0 < mI μ 10 r) := by
  unfold mEn mHs
  simp
-- the slots' list
theorem ent_at {μ : MS} {k : Nat} {w : RW} {q : KD × List E3} (h : rKE μ k w q) (i : Nat) : q.2[i]? = ((wR w k)[i]?).map (ent μ k (wC w k) (wL w)) := by rw [h.1, List.getElem?_map]
theorem ent_len {μ : MS} {k : Nat} {w : RW} {q : KD × List E3} (h : rKE μ k w q) : q.2.length = (wR w k).length := by rw [h.1, List.length_map]
theorem rs_nd {μ : MS} {k : Nat} {w : RW} {q : KD × List E3} (h : rKE μ k w q) : (wR w k).Nodup := by
  have hs := h.2.2.1
  rw [h.1] at hs
  have h2 : (wR w k).Pairwise (fun a b => ahead (ent μ k (wC w k) (wL w) a).1 (ent μ k (wC w k) (wL w) a).2.1 (ent μ k (wC w k) (wL w) b).1 (ent μ k (wC w k) (wL w) b).2.1 = true) := List.pairwise_map.mp hs
  exact h2.imp (fun {a b} hab e => by subst e; exact ahead_irr hab)
theorem ct_len {c : Nat → Bool} : ∀ {n t : Nat} {rs : List Nat}, rs.Nodup → (∀ r, r ∈ rs ↔ (t ≤ r ∧ r < t + n) ∧ c r = true) → rs.length = mCt c n t
  | 0, t, rs, _, hm => by
    cases rs with
    | nil => rfl
    | cons r rs => have := ((hm r).mp List.mem_cons_self).1; omega
  | n + 1, t, rs, hn, hm => by
    show rs.length = (if c t = true then 1 else 0) + mCt c n (t + 1)
    by_cases hc : c t = true
    · rw [if_pos hc]
      have ht : t ∈ rs := (hm t).mpr ⟨⟨Nat.le_refl _, by omega⟩, hc⟩
      have h1 : (rs.erase t).length = mCt c n (t + 1) := by
        refine ct_len (hn.erase t) (fun r => ?_)
        rw [hn.mem_erase_iff, hm r]
        constructor
        · rintro ⟨h1, h2, h3⟩; exact ⟨by omega, h3⟩
        · rintro ⟨h1, h2⟩; exact ⟨by omega, by omega, h2⟩
      have h2 := List.length_erase_of_mem ht
      have h3 : 0 < rs.length := List.length_pos_of_mem ht
      omega
    · rw [if_neg hc]
      have h1 : rs.length = mCt c n (t + 1) := by
        refine ct_len hn (fun r => ?_)
        rw [hm r]
        constructor
        · rintro ⟨h1, h2⟩
          refine ⟨?_, h2⟩
          have : r ≠ t := fun z => hc (z ▸ h2)
          omega
        · rintro ⟨h1, h2⟩; exact ⟨by omega, h2⟩
      omega
theorem rs_ct {μ : MS} {k : Nat} {w : RW} {q : KD × List E3} (h : rKE μ k w q) : (wR w k).length = mCt (mEn μ k) 300 0 := ct_len (rs_nd h) (fun r => by rw [h.2.1 r]; constructor <;> (rintro ⟨h1, h2⟩; exact ⟨by omega, h2⟩))
theorem rs_le {μ : MS} {k : Nat} {w : RW} {q : KD × List E3} (h : rKE μ k w q) : (wR w k).length ≤ 300 := by rw [rs_ct h]; exact mCt_le
theorem mCt_lt {c : Nat → Bool} : ∀ {n t : Nat}, mCt c n t < n → ∃ r, t ≤ r ∧ r < t + n ∧ c r = false
  | 0, t, h => by cases h
  | n + 1, t, h => by
    have h : (if c t = true then 1 else 0) + mCt c n (t + 1) < n + 1 := h
    by_cases hc : c t = true
    · rw [if_pos hc] at h
      obtain ⟨r, h1, h2, h3⟩ := mCt_lt (c := c) (n := n) (t := t + 1) (by omega)
      exact ⟨r, by omega, by omega, h3⟩
    · exact ⟨t, Nat.le_refl _, by omega, by simpa using hc⟩
theorem mFst_low {c : Nat → Bool} : ∀ {n t q : Nat}, mFst c n t = some q → ∀ r, t ≤ r → r < q → c r = false
  | 0, _, _, h, _, _, _ => by cases h
  | n + 1, t, q, h, r, h1, h2 => by
    unfold mFst at h
    split at h
    · cases h; omega
    · next hc =>
      by_cases hr : r = t
      · subst hr
        simpa using hc
      · exact mFst_low h r (by omega) h2
-- folds
theorem fold_ok {c : Nat → Bool} {b : Nat → Nat → Bool} (htr : ∀ x y z, b x y = true → b y z = true → b x z = true) (hir : ∀ x, b x x = false) : ∀ {n t : Nat} {o : Option Nat}, (∀ q, o = some q → c q = true ∧ q < t ∧ ∀ r, r < t → c r = true → b r q = false) → (o = none → ∀ r, r < t → c r = false) →
    (∀ q, mFold c b n t o = some q → c q = true ∧ q < t + n ∧ ∀ r, r < t + n → c r = true → b r q = false) ∧ (mFold c b n t o = none → ∀ r, r < t + n → c r = false)
  | 0, t, o, h1, h2 => ⟨h1, h2⟩
  | n + 1, t, o, h1, h2 => by
    have A : ∀ q, mStep c b t o = some q → c q = true ∧ q < t + 1 ∧ ∀ r, r < t + 1 → c r = true → b r q = false := by
      intro q hq
      unfold mStep at hq
      by_cases hc : c t = true
      · rw [if_pos hc] at hq
        cases o with
        | none =>
          cases hq
          exact ⟨hc, by omega, fun r hr hcr => by
            by_cases hrt : r = t
            · rw [hrt]; exact hir t
            · rw [h2 rfl r (by omega)] at hcr; cases hcr⟩
        | some u =>
          have hq : (if b t u = true then some t else some u) = some q := hq
          obtain ⟨g1, g2, g3⟩ := h1 u rfl
          by_cases hb : b t u = true
          · rw [if_pos hb] at hq
            cases hq
            refine ⟨hc, by omega, fun r hr hcr => ?_⟩
            by_cases hrt : r = t
            · rw [hrt]; exact hir t
            · cases hz : b r t with
              | false => rfl
              | true =>
                have := htr r t u hz hb
                rw [g3 r (by omega) hcr] at this
                cases this
          · rw [if_neg hb] at hq
            cases hq
            refine ⟨g1, by omega, fun r hr hcr => ?_⟩
            by_cases hrt : r = t
            · rw [hrt]; simpa using hb
            · exact g3 r (by omega) hcr
      · rw [if_neg hc] at hq
        obtain ⟨g1, g2, g3⟩ := h1 q hq
        refine ⟨g1, by omega, fun r hr hcr => ?_⟩
        by_cases hrt : r = t
        · exact absurd (hrt ▸ hcr) hc
        · exact g3 r (by omega) hcr
    have B : mStep c b t o = none → ∀ r, r < t + 1 → c r = false := by
      intro hq r hr
      unfold mStep at hq
      by_cases hc : c t = true
      · rw [if_pos hc] at hq
        cases o with
        | none => cases hq
        | some u =>
          have hq : (if b t u = true then some t else some u) = none := hq
          split at hq <;> cases hq
      · rw [if_neg hc] at hq
        by_cases hrt : r = t
        · rw [hrt]; simpa using hc
        · exact h2 hq r (by omega)
    have h := fold_ok (c := c) htr hir (n := n) A B
    rw [show t + (n + 1) = t + 1 + n by omega]
    exact h
theorem fold_least {c : Nat → Bool} {b : Nat → Nat → Bool} {rs : List Nat} {p : Nat} (htr : ∀ x y z, b x y = true → b y z = true → b x z = true) (hir : ∀ x, b x x = false)
    (hs : ∀ (i j x y : Nat), i < j → rs[i]? = some x → rs[j]? = some y → b x y = true) (hin : ∀ r, r < 300 → c r = true → r ∈ rs) (h3 : ∀ r ∈ rs, r < 300)
    (hc1 : ∀ i r : Nat, rs[i]? = some r → c r = true → p ≤ i ∧ ∃ u, rs[p]? = some u ∧ c u = true) : mFold c b 300 0 none = (rs[p]?).bind (fun u => if c u = true then some u else none) := by
  obtain ⟨g1, g2⟩ := fold_ok (c := c) htr hir (n := 300) (t := 0) (o := none) (fun _ z => by cases z) (fun _ r hr => by omega)
  cases hz : mFold c b 300 0 none with
  | none =>
    cases hp : rs[p]? with
    | none => rfl
    | some u =>
      have h5 := g2 hz u (by have := h3 u (List.mem_of_getElem? hp); omega)
      show none = if c u = true then some u else none
      rw [h5]
      rfl
  | some q =>
    obtain ⟨k1, k2, k3⟩ := g1 q hz
    obtain ⟨i, hi⟩ := List.getElem?_of_mem (hin q (by omega) k1)
    obtain ⟨hpi, u, hu, hcu⟩ := hc1 i q hi k1
    rw [hu]
    show some q = if c u = true then some u else none
    rw [if_pos hcu]
    by_cases he : p = i
    · subst he
      rw [hi] at hu
      exact hu
    · have := hs p i u q (by omega) hu hi
      rw [k3 u (by have := h3 u (List.mem_of_getElem? hu); omega) hcu] at this
      cases this
theorem fold_great {c : Nat → Bool} {b : Nat → Nat → Bool} {rs : List Nat} {p : Nat} (htr : ∀ x y z, b x y = true → b y z = true → b x z = true) (hir : ∀ x, b x x = false)
    (hs : ∀ (i j x y : Nat), i < j → rs[i]? = some x → rs[j]? = some y → b y x = true) (hin : ∀ r, r < 300 → c r = true → r ∈ rs) (h3 : ∀ r ∈ rs, r < 300) (hp : p ≤ rs.length)
    (hc1 : ∀ i r : Nat, rs[i]? = some r → (c r = true ↔ i < p)) : mFold c b 300 0 none = if 0 < p then rs[p - 1]? else none := by
  obtain ⟨g1, g2⟩ := fold_ok (c := c) htr hir (n := 300) (t := 0) (o := none) (fun _ z => by cases z) (fun _ r hr => by omega)
  cases hz : mFold c b 300 0 none with
  | none =>
    by_cases h0 : 0 < p
    · obtain ⟨u, hu⟩ := e_lt (show p - 1 < rs.length by omega)
      have h5 := g2 hz u (by have := h3 u (List.mem_of_getElem? hu); omega)
      rw [(hc1 _ _ hu).mpr (by omega)] at h5
      cases h5
    · rw [if_neg h0]
  | some q =>
    obtain ⟨k1, k2, k3⟩ := g1 q hz
    obtain ⟨i, hi⟩ := List.getElem?_of_mem (hin q (by omega) k1)
    have hip := (hc1 i q hi).mp k1
    rw [if_pos (by omega)]
    by_cases he : i = p - 1
    · rw [← he, hi]
    · obtain ⟨u, hu⟩ := e_lt (show p - 1 < rs.length by omega)
      have := hs i (p - 1) q u (by omega) hi hu
      rw [k3 u (by have := h3 u (List.mem_of_getElem? hu); omega) ((hc1 _ _ hu).mpr (by omega))] at this
      cases this
