/-! THE REFERENCE'S FUNCTIONS of its state -/
def mF (μ : MS) (k : Nat) (x : Int64) : Int64 := (Int64.toUInt64 (x <<< (Int32.toInt64 (8 * mI μ 1 k) &&& 63)) >>> ((Int32.toInt64 (64 - 8 * mI μ 2 k)).toUInt64 &&& Int64.toUInt64 63)).toInt64
def mLs (x y : Int64) : Bool := decide (uN x < uN y)
def mHs (μ : MS) (k : Nat) (x : Int64) : Bool := decide (k = 0) || (!(mZ μ 4 k) || !decide (mF μ k x = mJ μ 5 k))
def mRk (μ : MS) (k r : Nat) : Int32 := mI μ 11 (300 * k + r)
def mEn (μ : MS) (k r : Nat) : Bool := decide (0 < mI μ 10 r) && mHs μ k (mJ μ 9 r)
def mAh (μ : MS) (k r : Nat) (f : Int64) (rk : Int32) : Bool := mLs (mF μ k (mJ μ 9 r)) f || (decide (mF μ k (mJ μ 9 r) = f) && decide (mRk μ k r < rk))
def mBe (μ : MS) (k r : Nat) (f : Int64) (rk : Int32) : Bool := mLs f (mF μ k (mJ μ 9 r)) || (decide (mF μ k (mJ μ 9 r) = f) && decide (rk < mRk μ k r))
def oI (o : Option Nat) : Int32 := match o with
  | none => -1
  | some r => nI r
theorem oI_s {o : Option Nat} (h : ¬ oI o = -1) : ∃ q, o = some q := by
  cases o with
  | none => exact absurd rfl h
  | some q => exact ⟨q, rfl⟩
theorem nI_m1 {q : Nat} (hq : q < 2 ^ 31) : ¬ nI q = -1 := by
  intro h
  have h2 : (nI q).toInt = (-1 : Int32).toInt := by rw [h]
  rw [nI_toInt hq] at h2
  have h3 : (-1 : Int32).toInt = -1 := by decide
  omega
theorem oI_n {o : Option Nat} (hb : ∀ q, o = some q → q < 300) (h : oI o = -1) : o = none := by
  cases o with
  | none => rfl
  | some q => exact absurd h (nI_m1 (by have := hb q rfl; omega))
def mStep (c : Nat → Bool) (b : Nat → Nat → Bool) (t : Nat) (o : Option Nat) : Option Nat := if c t = true then (match o with
  | none => some t
  | some q => if b t q = true then some t else some q) else o
def mFold (c : Nat → Bool) (b : Nat → Nat → Bool) : Nat → Nat → Option Nat → Option Nat
  | 0, _, o => o
  | n + 1, t, o => mFold c b n (t + 1) (mStep c b t o)
theorem mStep_lt {c : Nat → Bool} {b : Nat → Nat → Bool} {t m : Nat} {o : Option Nat} (ht : t < m) (ho : ∀ q, o = some q → q < m) : ∀ q, mStep c b t o = some q → q < m := by
  intro q hq
  unfold mStep at hq
  split at hq
  · split at hq
    · cases hq; exact ht
    · split at hq
      · cases hq; exact ht
      · cases hq; exact ho _ rfl
  · exact ho q hq
theorem mFold_lt {c : Nat → Bool} {b : Nat → Nat → Bool} {m : Nat} : ∀ {n t : Nat} {o : Option Nat}, t + n ≤ m → (∀ q, o = some q → q < m) → ∀ q, mFold c b n t o = some q → q < m
  | 0, _, _, _, ho, q, hq => ho q hq
  | _ + 1, _, _, ht, ho, q, hq => mFold_lt (by omega) (mStep_lt (by omega) ho) q hq
def mFst (c : Nat → Bool) : Nat → Nat → Option Nat
  | 0, _ => none
  | n + 1, t => if c t = true then some t else mFst c n (t + 1)
theorem mFst_some {c : Nat → Bool} : ∀ {n t q : Nat}, mFst c n t = some q → c q = true ∧ q < t + n ∧ t ≤ q
  | 0, _, _, h => by cases h
  | n + 1, t, q, h => by
    unfold mFst at h
    split at h
    · cases h
      exact ⟨by assumption, by omega, Nat.le_refl _⟩
    · have := mFst_some h
      exact ⟨this.1, by omega, by omega⟩
theorem mFst_none {c : Nat → Bool} : ∀ {n t : Nat}, mFst c n t = none → ∀ q, t ≤ q → q < t + n → c q = false
  | 0, _, _, q, h1, h2 => by omega
  | n + 1, t, h, q, h1, h2 => by
    unfold mFst at h
    split at h
    · cases h
    · next hc =>
      by_cases hq : q = t
      · subst hq
        exact Bool.not_eq_true _ ▸ hc
      · exact mFst_none h q (by omega) (by omega)
def mAft (μ : MS) (k : Nat) (f : Int64) (rk : Int32) (th : Bool) : Option Nat := mFold (fun r => mEn μ k r && (!mAh μ k r f rk && (th || mBe μ k r f rk))) (fun r q => mAh μ k r (mF μ k (mJ μ 9 q)) (mRk μ k q)) 300 0 none
def mAhd (μ : MS) (k : Nat) (f : Int64) (rk : Int32) (th : Bool) : Option Nat := mFold (fun r => mEn μ k r && (!mBe μ k r f rk && (th || mAh μ k r f rk))) (fun r q => mBe μ k r (mF μ k (mJ μ 9 q)) (mRk μ k q)) 300 0 none
def mEq (μ : MS) (k : Nat) (f : Int64) (but : Option Nat) : Option Nat := mFst (fun r => !decide (but = some r) && (mEn μ k r && decide (mF μ k (mJ μ 9 r) = f))) 300 0
def mHad (μ : MS) : Option Nat := mFst (fun r => decide (0 < mI μ 10 r) && decide (mI μ 10 r = mS μ 27)) 300 0
theorem mAft_lt {μ : MS} {k : Nat} {f : Int64} {rk : Int32} {th : Bool} {q : Nat} (h : mAft μ k f rk th = some q) : q < 300 := mFold_lt (m := 300) (Nat.le_refl _) (fun _ z => by cases z) q h
theorem mAhd_lt {μ : MS} {k : Nat} {f : Int64} {rk : Int32} {th : Bool} {q : Nat} (h : mAhd μ k f rk th = some q) : q < 300 := mFold_lt (m := 300) (Nat.le_refl _) (fun _ z => by cases z) q h
theorem mEq_lt {μ : MS} {k : Nat} {f : Int64} {but : Option Nat} {q : Nat} (h : mEq μ k f but = some q) : q < 300 := by have := (mFst_some h).2.1; omega
theorem mHad_lt {μ : MS} {q : Nat} (h : mHad μ = some q) : q < 300 := by have := (mFst_some h).2.1; omega
def mSta (μ : MS) (k r : Nat) (back : Bool) : Int32 := if mZ μ 3 k = true ∧ (∃ q, (if back = true then mAhd μ k (mF μ k (mJ μ 9 r)) (mRk μ k r) false else mAft μ k (mF μ k (mJ μ 9 r)) (mRk μ k r) false) = some q ∧ mF μ k (mJ μ 9 q) = mF μ k (mJ μ 9 r)) then 2 else 0
def mFg (μ : MS) (i : Nat) : MS := sJ (sI (sH (sS μ 27 (mI μ 20 i)) (mJ μ 22 i)) 20 i 0) 22 i 0
def mGo (μ : MS) (i k r : Nat) : MS := sJ (sI (sZ (sI (sJ (sI (sI μ 17 i (nI k)) 18 i 1) 21 i (mF μ k (mJ μ 9 r))) 19 i (mRk μ k r)) 25 i false) 20 i (mI μ 10 r)) 22 i (mJ μ 9 r)
def mChg (μ : MS) (k : Nat) (x : Int64) (but : Option Nat) : Bool := match but with
  | none => true
  | some b => !mEn μ k b || !decide (mF μ k (mJ μ 9 b) = mF μ k x)
def mBarS (μ : MS) (x : Int64) (but : Option Nat) (k : Nat) (w : Int32) : Int32 := if (mHs μ k x && (mChg μ k x but && (mEq μ k (mF μ k x) but).isSome)) = true then (if mZ μ 3 k = false then 22 else if w = 22 then 22 else 2) else w
def mBar (μ : MS) (x : Int64) (but : Option Nat) : Nat → Nat → Int32 → Int32
  | 0, _, w => w
  | n + 1, t, w => mBar μ x but n (t + 1) (mBarS μ x but t w)
def mRAs (μ : MS) (r : Nat) (x : Int64) (fr : Bool) (k : Nat) : MS := sI (sS μ 14 (mS μ 14 + 1)) 11 (300 * k + r) (if (fr || (!mEn μ k r || !decide (mF μ k (mJ μ 9 r) = mF μ k x))) = true then mS μ 14 + 1 else mI μ 11 (300 * k + r))
def mRA (r : Nat) (x : Int64) (fr : Bool) : Nat → Nat → MS → MS
  | 0, _, μ => μ
  | n + 1, t, μ => mRA r x fr n (t + 1) (mRAs μ r x fr t)
def mHo (op : Int32) (f k : Int64) : Bool := if op = 0 then decide (f = k) else if op = 1 then mLs k f else if op = 2 then !mLs f k else if op = 3 then mLs f k else !mLs k f
def mKy (μ : MS) (j : Int32) : Bool := !decide (j < 0) && decide (j < mS μ 6)
def mVw (μ : MS) (j : Int32) : Bool := !decide (j < 0) && decide (j < mS μ 7)
def mRd (μ : MS) (i : Nat) : Bool := decide (mI μ 15 i = 0) || decide (mI μ 15 i = 2)
theorem ix300 {k r : Nat} : (300 : Int32) * nI k + nI r = nI (300 * k + r) := by
  rw [show (300 : Int32) = nI 300 from rfl, ← nI_add]
  exact congrArg (· + nI r) (Int32.ofNat_mul 300 k).symm
section XMR2
variable {p : Program} {l : Launch} {e : Env} {R : Room} {s : State} {mt : MethodId} {args : Array Value} {below : List Frame} {meth : Method} {c : Code} {Q : State → Prop} {cc : ByteArray} {nL : Nat} {own : String} {c0' : Cond} {ret : Option FieldType} {pc : Nat} {vs : List (Option Value)} {st : List Value} {G : xw_G} {cells slots : Nat} {E : xE} {m : Nat} {a : Nat → Nat} {μ : MS}
theorem x_mIv (C : XC p s mt args meth c cc nL own (c0' :: XT) (xD E) xcl (xtys E) (xB E) (XZ E) ret) (hM : xMD E G m a μ) (k n : Nat) (hk : (k, n) ∈ nIa) {i : Int32} {j : Nat} (hi : i = nI j) (hj : j < n) (v : Int32) (hv : mI μ k j = v) (hd : decode cc pc = .ok (.iaload, 1)) (kk : XW p l e R s mt args below meth c Q (xD E) xcl (xB E) (pc + 1) vs (.int v :: st) G cells slots) : XW p l e R s mt args below meth c Q (xD E) xcl (xB E) pc vs (.int i :: .ref (a k) :: st) G cells slots := by
  subst hv
  exact x_mIl C hM k n hk hi hj hd kk
theorem x_mZv (C : XC p s mt args meth c cc nL own (c0' :: XT) (xD E) xcl (xtys E) (xB E) (XZ E) ret) (hM : xMD E G m a μ) (k n : Nat) (hk : (k, n) ∈ nZa) {i : Int32} {j : Nat} (hi : i = nI j) (hj : j < n) (v : Bool) (hv : mZ μ k j = v) (hd : decode cc pc = .ok (.baload, 1)) (kk : XW p l e R s mt args below meth c Q (xD E) xcl (xB E) (pc + 1) vs (.int (bI v) :: st) G cells slots) : XW p l e R s mt args below meth c Q (xD E) xcl (xB E) pc vs (.int i :: .ref (a k) :: st) G cells slots := by
  subst hv
  exact x_mZl C hM k n hk hi hj hd kk
theorem x_mJv (C : XC p s mt args meth c cc nL own (c0' :: XT) (xD E) xcl (xtys E) (xB E) (XZ E) ret) (hM : xMD E G m a μ) (k n : Nat) (hk : (k, n) ∈ nJa) {i : Int32} {j : Nat} (hi : i = nI j) (hj : j < n) (v : Int64) (hv : mJ μ k j = v) (hd : decode cc pc = .ok (.laload, 1)) (kk : XW p l e R s mt args below meth c Q (xD E) xcl (xB E) (pc + 1) vs (.long v :: st) G cells slots) : XW p l e R s mt args below meth c Q (xD E) xcl (xB E) pc vs (.int i :: .ref (a k) :: st) G cells slots := by
  subst hv
  exact x_mJl C hM k n hk hi hj hd kk
end XMR2
section XMR3
variable {p : Program} {l : Launch} {e : Env} {R : Room} {s : State} {mt : MethodId} {args : Array Value} {below : List Frame} {meth : Method} {c : Code} {Q : State → Prop} {pc : Nat} {vs : List (Option Value)} {st : List Value} {G : xw_G} {cells slots : Nat} {E : xE}
theorem x_as1 {u v : Value} (h : u = v) (k : XW p l e R s mt args below meth c Q (xD E) xcl (xB E) pc vs (v :: st) G cells slots) : XW p l e R s mt args below meth c Q (xD E) xcl (xB E) pc vs (u :: st) G cells slots := by
  subst h
  exact k
end XMR3
theorem kI_1 : ((1, 6) : Nat × Nat) ∈ nIa := by decide
theorem kI_2 : ((2, 6) : Nat × Nat) ∈ nIa := by decide
theorem kI_10 : ((10, 300) : Nat × Nat) ∈ nIa := by decide
theorem kI_11 : ((11, 1800) : Nat × Nat) ∈ nIa := by decide
theorem kI_15 : ((15, 5) : Nat × Nat) ∈ nIa := by decide
theorem kI_16 : ((16, 5) : Nat × Nat) ∈ nIa := by decide
theorem kI_17 : ((17, 5) : Nat × Nat) ∈ nIa := by decide
theorem kI_18 : ((18, 5) : Nat × Nat) ∈ nIa := by decide
theorem kI_19 : ((19, 5) : Nat × Nat) ∈ nIa := by decide
theorem kI_20 : ((20, 5) : Nat × Nat) ∈ nIa := by decide
theorem kZ_3 : ((3, 6) : Nat × Nat) ∈ nZa := by decide
theorem kZ_4 : ((4, 6) : Nat × Nat) ∈ nZa := by decide
theorem kZ_24 : ((24, 5) : Nat × Nat) ∈ nZa := by decide
theorem kZ_25 : ((25, 5) : Nat × Nat) ∈ nZa := by decide
theorem kZ_26 : ((26, 5) : Nat × Nat) ∈ nZa := by decide
theorem kJ_5 : ((5, 6) : Nat × Nat) ∈ nJa := by decide
theorem kJ_9 : ((9, 300) : Nat × Nat) ∈ nJa := by decide
theorem kJ_21 : ((21, 5) : Nat × Nat) ∈ nJa := by decide
theorem kJ_22 : ((22, 5) : Nat × Nat) ∈ nJa := by decide
theorem kJ_23 : ((23, 5) : Nat × Nat) ∈ nJa := by decide
theorem mFold_st {c : Nat → Bool} {b : Nat → Nat → Bool} {n t : Nat} {o o' v : Option Nat} (h : mFold c b (n + 1) t o = v) (hs : mStep c b t o = o') : mFold c b n (t + 1) o' = v := by rw [← hs]; exact h
theorem mStep_no {c : Nat → Bool} {b : Nat → Nat → Bool} {t : Nat} {o : Option Nat} (h : c t = false) : mStep c b t o = o := by unfold mStep; rw [h]; rfl
theorem mStep_new {c : Nat → Bool} {b : Nat → Nat → Bool} {t : Nat} (h : c t = true) : mStep c b t none = some t := by unfold mStep; rw [h]; rfl
theorem mStep_up {c : Nat → Bool} {b : Nat → Nat → Bool} {t q : Nat} (h : c t = true) (hb : b t q = true) : mStep c b t (some q) = some t := by
  unfold mStep
  rw [if_pos h]
  show (if b t q = true then some t else some q) = some t
  rw [if_pos hb]
theorem mStep_ke {c : Nat → Bool} {b : Nat → Nat → Bool} {t q : Nat} (h : c t = true) (hb : b t q = false) : mStep c b t (some q) = some q := by
  unfold mStep
  rw [if_pos h]
  show (if b t q = true then some t else some q) = some q
  rw [hb]
  rfl
theorem mFst_y {c : Nat → Bool} {n t : Nat} {v : Option Nat} (h : mFst c (n + 1) t = v) (hc : c t = true) : some t = v := by
  unfold mFst at h
  rw [if_pos hc] at h
  exact h
theorem mFst_n {c : Nat → Bool} {n t : Nat} {v : Option Nat} (h : mFst c (n + 1) t = v) (hc : c t = false) : mFst c n (t + 1) = v := by
  unfold mFst at h
  rw [if_neg (by rw [hc]; decide)] at h
  exact h
theorem oI_eqt {but : Option Nat} (hb : ∀ q, but = some q → q < 300) {t : Nat} (ht : t < 300) : nI t = oI but ↔ but = some t := by
  cases but with
  | none => exact ⟨fun h => absurd h (nI_m1 (by omega)), fun h => by cases h⟩
  | some q =>
    have := hb q rfl
    show nI t = nI q ↔ some q = some t
    rw [nI_eq (by omega) (by omega)]
    exact ⟨fun h => by rw [h], fun h => by cases h; rfl⟩
def mCt (c : Nat → Bool) : Nat → Nat → Nat
  | 0, _ => 0
  | n + 1, t => (if c t = true then 1 else 0) + mCt c n (t + 1)
theorem mCt_le {c : Nat → Bool} : ∀ {n t : Nat}, mCt c n t ≤ n
  | 0, _ => Nat.le_refl _
  | n + 1, t => by
    have := mCt_le (c := c) (n := n) (t := t + 1)
    show (if c t = true then 1 else 0) + mCt c n (t + 1) ≤ n + 1
    split <;> omega
theorem bI_1 {b : Bool} (h : ¬ bI b = 0) : b = true := by
  cases b with
  | true => rfl
  | false => exact absurd rfl h
theorem sta2 {μ : MS} {k r q : Nat} {back : Bool} (hd : mZ μ 3 k = true) (hn : (if back = true then mAhd μ k (mF μ k (mJ μ 9 r)) (mRk μ k r) false else mAft μ k (mF μ k (mJ μ 9 r)) (mRk μ k r) false) = some q) (hf : mF μ k (mJ μ 9 q) = mF μ k (mJ μ 9 r)) : mSta μ k r back = 2 := if_pos ⟨hd, q, hn, hf⟩
theorem sta0d {μ : MS} {k r : Nat} {back : Bool} (hd : mZ μ 3 k = false) : mSta μ k r back = 0 := if_neg (fun h => by rw [hd] at h; exact absurd h.1 (by decide))
theorem sta0n {μ : MS} {k r : Nat} {back : Bool} (hn : (if back = true then mAhd μ k (mF μ k (mJ μ 9 r)) (mRk μ k r) false else mAft μ k (mF μ k (mJ μ 9 r)) (mRk μ k r) false) = none) : mSta μ k r back = 0 := if_neg (fun h => by obtain ⟨-, q, h1, -⟩ := h; rw [hn] at h1; cases h1)
theorem sta0f {μ : MS} {k r q : Nat} {back : Bool} (hn : (if back = true then mAhd μ k (mF μ k (mJ μ 9 r)) (mRk μ k r) false else mAft μ k (mF μ k (mJ μ 9 r)) (mRk μ k r) false) = some q) (hf : ¬ mF μ k (mJ μ 9 q) = mF μ k (mJ μ 9 r)) : mSta μ k r back = 0 := if_neg (fun h => by obtain ⟨-, q2, h1, h2⟩ := h; rw [hn] at h1; cases h1; exact hf h2)
