/-! THE REFERENCE'S STATE: scalars by field number, opened, hadValue, arrays of ints, of booleans, of longs by field number -/
abbrev MS : Type := (Nat → Int32) × Bool × Int64 × (Nat → Nat → Int32) × (Nat → Nat → Bool) × (Nat → Nat → Int64)
abbrev mS (μ : MS) : Nat → Int32 := μ.1
abbrev mO (μ : MS) : Bool := μ.2.1
abbrev mH (μ : MS) : Int64 := μ.2.2.1
abbrev mI (μ : MS) : Nat → Nat → Int32 := μ.2.2.2.1
abbrev mZ (μ : MS) : Nat → Nat → Bool := μ.2.2.2.2.1
abbrev mJ (μ : MS) : Nat → Nat → Int64 := μ.2.2.2.2.2
abbrev sS (μ : MS) (k : Nat) (x : Int32) : MS := (va_up (mS μ) k x, μ.2)
abbrev sOp (μ : MS) (b : Bool) : MS := (mS μ, b, μ.2.2)
abbrev sH (μ : MS) (x : Int64) : MS := (mS μ, mO μ, x, μ.2.2.2)
abbrev sI (μ : MS) (k j : Nat) (x : Int32) : MS := (mS μ, mO μ, mH μ, va_up (mI μ) k (upd (mI μ k) j x), mZ μ, mJ μ)
abbrev sZ (μ : MS) (k j : Nat) (b : Bool) : MS := (mS μ, mO μ, mH μ, mI μ, va_up (mZ μ) k (va_up (mZ μ k) j b), mJ μ)
abbrev sJ (μ : MS) (k j : Nat) (x : Int64) : MS := (mS μ, mO μ, mH μ, mI μ, mZ μ, va_up (mJ μ) k (vp_updL (mJ μ k) j x))
abbrev mFs (a : Nat → Nat) (μ : MS) : List Value := [.int (mS μ 0), .ref (a 1), .ref (a 2), .ref (a 3), .ref (a 4), .ref (a 5), .int (mS μ 6), .int (mS μ 7), .int (bI (mO μ)), .ref (a 9), .ref (a 10), .ref (a 11), .int (mS μ 12), .int (mS μ 13), .int (mS μ 14), .ref (a 15), .ref (a 16), .ref (a 17), .ref (a 18), .ref (a 19), .ref (a 20), .ref (a 21), .ref (a 22), .ref (a 23), .ref (a 24), .ref (a 25), .ref (a 26), .int (mS μ 27), .long (mH μ)]
def nIa : List (Nat × Nat) := [(1, 6), (2, 6), (10, 300), (11, 1800), (15, 5), (16, 5), (17, 5), (18, 5), (19, 5), (20, 5)]
def nZa : List (Nat × Nat) := [(3, 6), (4, 6), (24, 5), (25, 5), (26, 5)]
def nJa : List (Nat × Nat) := [(5, 6), (9, 300), (21, 5), (22, 5), (23, 5)]
def xMD (E : xE) (G : xw_G) (m : Nat) (a : Nat → Nat) (μ : MS) : Prop :=
  G m = some (.inr (5, mFs a μ)) ∧ (∀ q ∈ nIa, G (a q.1) = some (.inl (xI E, q.2, .inl (mI μ q.1)))) ∧ (∀ q ∈ nZa, G (a q.1) = some (.inl (xZ E, q.2, .inl (fun j => bI (mZ μ q.1 j))))) ∧ (∀ q ∈ nJa, G (a q.1) = some (.inl (xJ E, q.2, .inr (.inl (mJ μ q.1))))) ∧ ∀ i j : Nat, i < 29 → j < 29 → a i = a j → i = j
/-- all but the reference's cells stay -/
def xFc (G G' : xw_G) : Prop := ∀ (b : Nat) (e : va_E), G b = some e → ¬ xMo e → G' b = some e
theorem xFc.rf {G : xw_G} : xFc G G := fun _ _ h _ => h
theorem xFc.tr {G1 G2 G3 : xw_G} (h1 : xFc G1 G2) (h2 : xFc G2 G3) : xFc G1 G3 := fun a e h hm => h2 a e (h1 a e h hm) hm
theorem xFc.up {G : xw_G} {a : Nat} {e e' : va_E} (h : G a = some e) (hm : xMo e) : xFc G (va_up G a (some e')) := by
  intro b e0 hb hn
  rw [va_up_ne _ _ (fun z => by subst z; rw [h] at hb; cases hb; exact hn hm)]
  exact hb
theorem mo5 {fs : List Value} : xMo (.inr (5, fs)) := Or.inl ⟨fs, rfl⟩
theorem moI {c : ClassId} {n : Nat} {f : Nat → Int32} : xMo (.inl (c, n, .inl f)) := Or.inr (Or.inl ⟨c, n, f, rfl⟩)
theorem moJ {c : ClassId} {n : Nat} {f : Nat → Int64} : xMo (.inl (c, n, .inr (.inl f))) := Or.inr (Or.inr ⟨c, n, f, rfl⟩)
theorem nIa_lt {q : Nat × Nat} (h : q ∈ nIa) : q.1 < 29 ∧ q.2 < 2 ^ 31 ∧ (∀ z ∈ nZa, z.1 ≠ q.1) ∧ (∀ z ∈ nJa, z.1 ≠ q.1) ∧ ∀ z ∈ nIa, z.1 = q.1 → z = q := by
  have : ∀ q ∈ nIa, q.1 < 29 ∧ q.2 < 2 ^ 31 ∧ (∀ z ∈ nZa, z.1 ≠ q.1) ∧ (∀ z ∈ nJa, z.1 ≠ q.1) ∧ ∀ z ∈ nIa, z.1 = q.1 → z = q := by decide +kernel
  exact this q h
theorem nZa_lt {q : Nat × Nat} (h : q ∈ nZa) : q.1 < 29 ∧ q.2 < 2 ^ 31 ∧ (∀ z ∈ nIa, z.1 ≠ q.1) ∧ (∀ z ∈ nJa, z.1 ≠ q.1) ∧ ∀ z ∈ nZa, z.1 = q.1 → z = q := by
  have : ∀ q ∈ nZa, q.1 < 29 ∧ q.2 < 2 ^ 31 ∧ (∀ z ∈ nIa, z.1 ≠ q.1) ∧ (∀ z ∈ nJa, z.1 ≠ q.1) ∧ ∀ z ∈ nZa, z.1 = q.1 → z = q := by decide +kernel
  exact this q h
theorem nJa_lt {q : Nat × Nat} (h : q ∈ nJa) : q.1 < 29 ∧ q.2 < 2 ^ 31 ∧ (∀ z ∈ nIa, z.1 ≠ q.1) ∧ (∀ z ∈ nZa, z.1 ≠ q.1) ∧ ∀ z ∈ nJa, z.1 = q.1 → z = q := by
  have : ∀ q ∈ nJa, q.1 < 29 ∧ q.2 < 2 ^ 31 ∧ (∀ z ∈ nIa, z.1 ≠ q.1) ∧ (∀ z ∈ nZa, z.1 ≠ q.1) ∧ ∀ z ∈ nJa, z.1 = q.1 → z = q := by decide +kernel
  exact this q h
-- the object's own cell changes
theorem xMD_obj {E : xE} {G : xw_G} {m : Nat} {a : Nat → Nat} {μ μ' : MS} (h : xMD E G m a μ) (hs : μ'.2.2.2 = μ.2.2.2) : xMD E (va_up G m (some (.inr (5, mFs a μ')))) m a μ' := by
  obtain ⟨h1, h2, h3, h4, h5⟩ := h
  have e1 : mI μ' = mI μ := congrArg Prod.fst hs
  have e2 : mZ μ' = mZ μ := congrArg (fun z => z.2.1) hs
  have e3 : mJ μ' = mJ μ := congrArg (fun z => z.2.2) hs
  refine ⟨va_up_self _ _ _, fun q hq => ?_, fun q hq => ?_, fun q hq => ?_, h5⟩
  · rw [e1]; exact xw_keep (h2 q hq) (xw_neA h1 (h2 q hq)).symm
  · rw [e2]; exact xw_keep (h3 q hq) (xw_neA h1 (h3 q hq)).symm
  · rw [e3]; exact xw_keep (h4 q hq) (xw_neA h1 (h4 q hq)).symm
theorem xMD_sI {E : xE} {G : xw_G} {m : Nat} {a : Nat → Nat} {μ : MS} (h : xMD E G m a μ) {k n : Nat} (hk : (k, n) ∈ nIa) (j : Nat) (x : Int32) : xMD E (va_up G (a k) (some (.inl (xI E, n, .inl (upd (mI μ k) j x))))) m a (sI μ k j x) := by
  obtain ⟨h1, h2, h3, h4, h5⟩ := h
  obtain ⟨g1, g2, g3, g4, g5⟩ := nIa_lt hk
  refine ⟨xw_keep h1 (xw_neA h1 (h2 _ hk)), fun q hq => ?_, fun q hq => ?_, fun q hq => ?_, h5⟩
  · by_cases hqk : q.1 = k
    · have := g5 q hq hqk
      subst this
      show va_up G (a k) _ (a k) = some (.inl (xI E, n, .inl (va_up (mI μ) k (upd (mI μ k) j x) k)))
      rw [va_up_self, va_up_self]
    · show va_up G (a k) _ (a q.1) = some (.inl (xI E, q.2, .inl (va_up (mI μ) k (upd (mI μ k) j x) q.1)))
      rw [va_up_ne _ _ (fun z => hqk (h5 _ _ (nIa_lt hq).1 g1 z)), va_up_ne _ _ hqk]
      exact h2 q hq
  · exact xw_keep (h3 q hq) (fun z => g3 q hq (h5 _ _ (nZa_lt hq).1 g1 z))
  · exact xw_keep (h4 q hq) (fun z => g4 q hq (h5 _ _ (nJa_lt hq).1 g1 z))
theorem xMD_sZ {E : xE} {G : xw_G} {m : Nat} {a : Nat → Nat} {μ : MS} (h : xMD E G m a μ) {k n : Nat} (hk : (k, n) ∈ nZa) (j : Nat) (b : Bool) : xMD E (va_up G (a k) (some (.inl (xZ E, n, .inl (fun i => bI (va_up (mZ μ k) j b i)))))) m a (sZ μ k j b) := by
  obtain ⟨h1, h2, h3, h4, h5⟩ := h
  obtain ⟨g1, g2, g3, g4, g5⟩ := nZa_lt hk
  refine ⟨xw_keep h1 (xw_neA h1 (h3 _ hk)), fun q hq => ?_, fun q hq => ?_, fun q hq => ?_, h5⟩
  · exact xw_keep (h2 q hq) (fun z => g3 q hq (h5 _ _ (nIa_lt hq).1 g1 z))
  · by_cases hqk : q.1 = k
    · have := g5 q hq hqk
      subst this
      show va_up G (a k) _ (a k) = some (.inl (xZ E, n, .inl (fun i => bI (va_up (mZ μ) k (va_up (mZ μ k) j b) k i))))
      rw [va_up_self, va_up_self]
    · show va_up G (a k) _ (a q.1) = some (.inl (xZ E, q.2, .inl (fun i => bI (va_up (mZ μ) k (va_up (mZ μ k) j b) q.1 i))))
      rw [va_up_ne _ _ (fun z => hqk (h5 _ _ (nZa_lt hq).1 g1 z)), va_up_ne _ _ hqk]
      exact h3 q hq
  · exact xw_keep (h4 q hq) (fun z => g4 q hq (h5 _ _ (nJa_lt hq).1 g1 z))
theorem xMD_sJ {E : xE} {G : xw_G} {m : Nat} {a : Nat → Nat} {μ : MS} (h : xMD E G m a μ) {k n : Nat} (hk : (k, n) ∈ nJa) (j : Nat) (x : Int64) : xMD E (va_up G (a k) (some (.inl (xJ E, n, .inr (.inl (vp_updL (mJ μ k) j x)))))) m a (sJ μ k j x) := by
  obtain ⟨h1, h2, h3, h4, h5⟩ := h
  obtain ⟨g1, g2, g3, g4, g5⟩ := nJa_lt hk
  refine ⟨xw_keep h1 (xw_neA h1 (h4 _ hk)), fun q hq => ?_, fun q hq => ?_, fun q hq => ?_, h5⟩
  · exact xw_keep (h2 q hq) (fun z => g3 q hq (h5 _ _ (nIa_lt hq).1 g1 z))
  · exact xw_keep (h3 q hq) (fun z => g4 q hq (h5 _ _ (nZa_lt hq).1 g1 z))
  · by_cases hqk : q.1 = k
    · have := g5 q hq hqk
      subst this
      show va_up G (a k) _ (a k) = some (.inl (xJ E, n, .inr (.inl (va_up (mJ μ) k (vp_updL (mJ μ k) j x) k))))
      rw [va_up_self, va_up_self]
    · show va_up G (a k) _ (a q.1) = some (.inl (xJ E, q.2, .inr (.inl (va_up (mJ μ) k (vp_updL (mJ μ k) j x) q.1))))
      rw [va_up_ne _ _ (fun z => hqk (h5 _ _ (nJa_lt hq).1 g1 z)), va_up_ne _ _ hqk]
      exact h4 q hq
section XMR
variable {p : Program} {l : Launch} {e : Env} {R : Room} {s : State} {mt : MethodId} {args : Array Value} {below : List Frame} {meth : Method} {c : Code} {Q : State → Prop} {cc : ByteArray} {nL : Nat} {own : String} {c0' : Cond} {ret : Option FieldType} {pc : Nat} {vs : List (Option Value)} {st : List Value} {G : xw_G} {cells slots : Nat} {E : xE} {m : Nat} {a : Nat → Nat} {μ : MS}
theorem x_mIl (C : XC p s mt args meth c cc nL own (c0' :: XT) (xD E) xcl (xtys E) (xB E) (XZ E) ret) (hM : xMD E G m a μ) (k n : Nat) (hk : (k, n) ∈ nIa) {i : Int32} {j : Nat} (hi : i = nI j) (hj : j < n) (hd : decode cc pc = .ok (.iaload, 1)) (kk : XW p l e R s mt args below meth c Q (xD E) xcl (xB E) (pc + 1) vs (.int (mI μ k j) :: st) G cells slots) : XW p l e R s mt args below meth c Q (xD E) xcl (xB E) pc vs (.int i :: .ref (a k) :: st) G cells slots := by
  subst hi
  have hn := (nIa_lt hk).2.1
  refine x_iaload C (hM.2.1 _ hk) 1 rfl (vp_in_nI hj hn) hd ?_
  rw [nI_clamp (by omega)]
  exact kk
theorem x_mZl (C : XC p s mt args meth c cc nL own (c0' :: XT) (xD E) xcl (xtys E) (xB E) (XZ E) ret) (hM : xMD E G m a μ) (k n : Nat) (hk : (k, n) ∈ nZa) {i : Int32} {j : Nat} (hi : i = nI j) (hj : j < n) (hd : decode cc pc = .ok (.baload, 1)) (kk : XW p l e R s mt args below meth c Q (xD E) xcl (xB E) (pc + 1) vs (.int (bI (mZ μ k j)) :: st) G cells slots) : XW p l e R s mt args below meth c Q (xD E) xcl (xB E) pc vs (.int i :: .ref (a k) :: st) G cells slots := by
  subst hi
  have hn := (nZa_lt hk).2.1
  refine x_zaload C (hM.2.2.1 _ hk) 2 rfl (vp_in_nI hj hn) hd ?_
  rw [nI_clamp (by omega)]
  exact kk
theorem x_mJl (C : XC p s mt args meth c cc nL own (c0' :: XT) (xD E) xcl (xtys E) (xB E) (XZ E) ret) (hM : xMD E G m a μ) (k n : Nat) (hk : (k, n) ∈ nJa) {i : Int32} {j : Nat} (hi : i = nI j) (hj : j < n) (hd : decode cc pc = .ok (.laload, 1)) (kk : XW p l e R s mt args below meth c Q (xD E) xcl (xB E) (pc + 1) vs (.long (mJ μ k j) :: st) G cells slots) : XW p l e R s mt args below meth c Q (xD E) xcl (xB E) pc vs (.int i :: .ref (a k) :: st) G cells slots := by
  subst hi
  have hn := (nJa_lt hk).2.1
  refine x_laload C (hM.2.2.2.1 _ hk) 3 rfl (vp_in_nI hj hn) hd ?_
  rw [nI_clamp (by omega)]
  exact kk
theorem x_mIs (C : XC p s mt args meth c cc nL own (c0' :: XT) (xD E) xcl (xtys E) (xB E) (XZ E) ret) (hM : xMD E G m a μ) (k n : Nat) (hk : (k, n) ∈ nIa) {i x : Int32} {j : Nat} (hi : i = nI j) (hj : j < n) (hd : decode cc pc = .ok (.iastore, 1)) (kk : ∀ G' : xw_G, xMD E G' m a (sI μ k j x) → xFc G G' → XW p l e R s mt args below meth c Q (xD E) xcl (xB E) (pc + 1) vs st G' cells slots) : XW p l e R s mt args below meth c Q (xD E) xcl (xB E) pc vs (.int x :: .int i :: .ref (a k) :: st) G cells slots := by
  subst hi
  have hn := (nIa_lt hk).2.1
  refine x_iastore C (hM.2.1 _ hk) 1 rfl (vp_in_nI hj hn) hd ?_
  rw [nI_clamp (by omega)]
  exact kk _ (xMD_sI hM hk j x) (xFc.up (hM.2.1 _ hk) moI)
theorem x_mZs (C : XC p s mt args meth c cc nL own (c0' :: XT) (xD E) xcl (xtys E) (xB E) (XZ E) ret) (hM : xMD E G m a μ) (k n : Nat) (hk : (k, n) ∈ nZa) {i : Int32} {j : Nat} (b : Bool) (hi : i = nI j) (hj : j < n) (hd : decode cc pc = .ok (.bastore, 1)) (kk : ∀ G' : xw_G, xMD E G' m a (sZ μ k j b) → xFc G G' → XW p l e R s mt args below meth c Q (xD E) xcl (xB E) (pc + 1) vs st G' cells slots) : XW p l e R s mt args below meth c Q (xD E) xcl (xB E) pc vs (.int (bI b) :: .int i :: .ref (a k) :: st) G cells slots := by
  subst hi
  have hn := (nZa_lt hk).2.1
  refine x_zastore C (hM.2.2.1 _ hk) 2 rfl (vp_in_nI hj hn) hd ?_
  rw [nI_clamp (by omega)]
  have e : upd (fun i => bI (mZ μ k i)) j (vp_nar .boolean (bI b)) = fun i => bI (va_up (mZ μ k) j b i) := by
    funext i
    by_cases h : i = j
    · subst h
      rw [va_up_self, pk_us]
      cases b <;> rfl
    · rw [va_up_ne _ _ h, pk_un h]
  rw [e]
  exact kk _ (xMD_sZ hM hk j b) (xFc.up (hM.2.2.1 _ hk) moI)
theorem x_mJs (C : XC p s mt args meth c cc nL own (c0' :: XT) (xD E) xcl (xtys E) (xB E) (XZ E) ret) (hM : xMD E G m a μ) (k n : Nat) (hk : (k, n) ∈ nJa) {i : Int32} {x : Int64} {j : Nat} (hi : i = nI j) (hj : j < n) (hd : decode cc pc = .ok (.lastore, 1)) (kk : ∀ G' : xw_G, xMD E G' m a (sJ μ k j x) → xFc G G' → XW p l e R s mt args below meth c Q (xD E) xcl (xB E) (pc + 1) vs st G' cells slots) : XW p l e R s mt args below meth c Q (xD E) xcl (xB E) pc vs (.long x :: .int i :: .ref (a k) :: st) G cells slots := by
  subst hi
  have hn := (nJa_lt hk).2.1
  refine x_lastore C (hM.2.2.2.1 _ hk) 3 rfl (vp_in_nI hj hn) hd ?_
  rw [nI_clamp (by omega)]
  exact kk _ (xMD_sJ hM hk j x) (xFc.up (hM.2.2.2.1 _ hk) moJ)
theorem x_mSp (C : XC p s mt args meth c cc nL own (c0' :: XT) (xD E) xcl (xtys E) (xB E) (XZ E) ret) (hM : xMD E G m a μ) (k : Nat) (hk : k < 29) {x : Int32} {index : Nat} (hlink : Cond.fieldLink own index (T_MD k).1 (T_MD k).2.1 (T_MD k).2.2.1 ∈ XT) (hfin : (T_MD k).2.2.2 = false) (hty : ty_MD k = .int) (hfs : (mFs a μ).set k (.int x) = mFs a (sS μ k x)) (hd : decode cc pc = .ok (.putfield index, 3)) (kk : ∀ G' : xw_G, xMD E G' m a (sS μ k x) → xFc G G' → XW p l e R s mt args below meth c Q (xD E) xcl (xB E) (pc + 3) vs st G' cells slots) : XW p l e R s mt args below meth c Q (xD E) xcl (xB E) pc vs (.int x :: .ref m :: st) G cells slots := by
  refine x_put C hM.1 rfl (in_MD _) ty_MD tok_MD nm_MD k hk (List.mem_cons_of_mem _ hlink) hfin (tok_MD k hk) (by rw [hty]; rfl) (by rw [hty]; rfl) hk hd ?_
  rw [hfs]
  exact kk _ (xMD_obj hM rfl) (xFc.up hM.1 mo5)
theorem x_mOp (C : XC p s mt args meth c cc nL own (c0' :: XT) (xD E) xcl (xtys E) (xB E) (XZ E) ret) (hM : xMD E G m a μ) (b : Bool) {index : Nat} (hlink : Cond.fieldLink own index (T_MD 8).1 (T_MD 8).2.1 (T_MD 8).2.2.1 ∈ XT) (hd : decode cc pc = .ok (.putfield index, 3)) (kk : ∀ G' : xw_G, xMD E G' m a (sOp μ b) → xFc G G' → XW p l e R s mt args below meth c Q (xD E) xcl (xB E) (pc + 3) vs st G' cells slots) : XW p l e R s mt args below meth c Q (xD E) xcl (xB E) pc vs (.int (bI b) :: .ref m :: st) G cells slots := by
  refine x_put C hM.1 rfl (in_MD _) ty_MD tok_MD nm_MD 8 (by decide) (List.mem_cons_of_mem _ hlink) rfl (tok_MD 8 (by decide)) (bI_nar _) (bI_fit _) (Nat.le_of_ble_eq_true rfl) hd ?_
  exact kk _ (xMD_obj (μ' := sOp μ b) hM rfl) (xFc.up hM.1 mo5)
theorem x_mHp (C : XC p s mt args meth c cc nL own (c0' :: XT) (xD E) xcl (xtys E) (xB E) (XZ E) ret) (hM : xMD E G m a μ) {x : Int64} {index : Nat} (hlink : Cond.fieldLink own index (T_MD 28).1 (T_MD 28).2.1 (T_MD 28).2.2.1 ∈ XT) (hd : decode cc pc = .ok (.putfield index, 3)) (kk : ∀ G' : xw_G, xMD E G' m a (sH μ x) → xFc G G' → XW p l e R s mt args below meth c Q (xD E) xcl (xB E) (pc + 3) vs st G' cells slots) : XW p l e R s mt args below meth c Q (xD E) xcl (xB E) pc vs (.long x :: .ref m :: st) G cells slots := by
  refine x_put C hM.1 rfl (in_MD _) ty_MD tok_MD nm_MD 28 (by decide) (List.mem_cons_of_mem _ hlink) rfl (tok_MD 28 (by decide)) rfl rfl (Nat.le_of_ble_eq_true rfl) hd ?_
  exact kk _ (xMD_obj (μ' := sH μ x) hM rfl) (xFc.up hM.1 mo5)
end XMR
