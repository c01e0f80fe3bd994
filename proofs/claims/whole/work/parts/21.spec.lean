/-! ORDER of entries, and counts over sorted lists -/
theorem i64_tr {a b c : Int64} (h1 : a < b) (h2 : b < c) : a < c := Int64.lt_trans h1 h2
theorem ahead_iff {f1 c1 f2 c2 : Int64} : ahead f1 c1 f2 c2 = true ↔ uN f1 < uN f2 ∨ (f1 = f2 ∧ c1 < c2) := by
  unfold ahead
  by_cases h : f1 = f2
  · rw [if_pos h]
    subst h
    simp
  · rw [if_neg h]
    simp [h]
theorem ahead_tr {f1 c1 f2 c2 f3 c3 : Int64} (h1 : ahead f1 c1 f2 c2 = true) (h2 : ahead f2 c2 f3 c3 = true) : ahead f1 c1 f3 c3 = true := by
  rw [ahead_iff] at h1 h2 ⊢
  rcases h1 with h1 | ⟨h1, g1⟩ <;> rcases h2 with h2 | ⟨h2, g2⟩
  · exact Or.inl (by omega)
  · exact Or.inl (by rw [← h2]; exact h1)
  · exact Or.inl (by rw [h1]; exact h2)
  · exact Or.inr ⟨h1.trans h2, i64_tr g1 g2⟩
theorem ahead_irr {f c : Int64} : ¬ ahead f c f c = true := by
  rw [ahead_iff]
  rintro (h | ⟨-, h⟩)
  · omega
  · exact Int64.lt_irrefl h
theorem ahead_f {f1 c1 f2 c2 : Int64} (h : ahead f1 c1 f2 c2 = true) : uN f1 ≤ uN f2 := by
  rcases ahead_iff.mp h with h | ⟨h, -⟩
  · omega
  · rw [h]; exact Nat.le_refl _
def srt (es : List E3) : Prop := es.Pairwise (fun a b => ahead a.1 a.2.1 b.1 b.2.1 = true)
theorem pw_cnt {α : Type} {R : α → α → Prop} {p : α → Bool} (hp : ∀ a b : α, R a b → p b = true → p a = true) : ∀ {l : List α}, l.Pairwise R → ∀ (i : Nat) (e : α), l[i]? = some e → (p e = true ↔ i < l.countP p)
  | [], _, i, e, h => by simp at h
  | a :: l, hl, i, e, h => by
    rw [List.pairwise_cons] at hl
    have ih := pw_cnt hp hl.2
    cases i with
    | zero =>
      rw [List.getElem?_cons_zero] at h
      cases h
      constructor
      · intro ha
        rw [List.countP_cons_of_pos ha]
        omega
      · intro hc
        cases ha : p a with
        | true => rfl
        | false =>
          have h0 : l.countP p = 0 := by
            rw [List.countP_eq_zero]
            intro b hb hpb
            have := hp a b (hl.1 b hb) hpb
            rw [ha] at this
            cases this
          rw [List.countP_cons_of_neg (by rw [ha]; decide), h0] at hc
          exact absurd hc (Nat.lt_irrefl 0)
    | succ i =>
      rw [List.getElem?_cons_succ] at h
      have h1 := ih i e h
      cases ha : p a with
      | true =>
        rw [List.countP_cons_of_pos ha, h1]
        omega
      | false =>
        have hpe : ¬ p e = true := fun q => by
          have := hp a e (hl.1 e (List.mem_of_getElem? h)) q
          rw [ha] at this
          cases this
        have h0 : l.countP p = 0 := by
          rw [List.countP_eq_zero]
          intro b hb hpb
          have := hp a b (hl.1 b hb) hpb
          rw [ha] at this
          cases this
        rw [List.countP_cons_of_neg (by rw [ha]; decide), h0]
        exact ⟨fun q => absurd q hpe, fun q => absurd q (by omega)⟩
def cnt (es : List E3) (f d : Int64) : Nat := es.countP (fun e => ahead e.1 e.2.1 f d)
def cntP (es : List E3) (sz b : Int32) (eq : Bool) (prt : Int64) : Nat := es.countP (fun e => byPart sz b eq e.1 prt)
theorem cnt_le {es : List E3} {f d : Int64} : cnt es f d ≤ es.length := List.countP_le_length
theorem cntP_le {es : List E3} {sz b : Int32} {eq : Bool} {prt : Int64} : cntP es sz b eq prt ≤ es.length := List.countP_le_length
theorem cnt_at {es : List E3} (h : srt es) (f d : Int64) (i : Nat) (e : E3) (hi : es[i]? = some e) : ahead e.1 e.2.1 f d = true ↔ i < cnt es f d := pw_cnt (fun a b hab hb => ahead_tr hab hb) h i e hi
theorem prt_mono {sz b : Int32} {f1 f2 : Int64} (h : uN f1 ≤ uN f2) : uN (prtI sz b f1) ≤ uN (prtI sz b f2) := by
  unfold prtI
  rw [uN_shr, uN_shr]
  exact Nat.div_le_div_right h
theorem byPart_iff {sz b : Int32} {eq : Bool} {f prt : Int64} : byPart sz b eq f prt = true ↔ uN (prtI sz b f) < uN prt ∨ (eq = true ∧ prtI sz b f = prt) := by
  unfold byPart
  simp
theorem cntP_at {es : List E3} (h : srt es) (sz b : Int32) (eq : Bool) (prt : Int64) (i : Nat) (e : E3) (hi : es[i]? = some e) : byPart sz b eq e.1 prt = true ↔ i < cntP es sz b eq prt := by
  refine pw_cnt (R := fun (a b : E3) => ahead a.1 a.2.1 b.1 b.2.1 = true) (p := fun e => byPart sz b eq e.1 prt) (fun a c hac hc => ?_) h i e hi
  have h1 := prt_mono (sz := sz) (b := b) (ahead_f hac)
  rw [byPart_iff] at hc ⊢
  rcases hc with hc | ⟨he, hc⟩
  · exact Or.inl (by omega)
  · rw [hc] at h1
    rcases Nat.lt_or_ge (uN (prtI sz b a.1)) (uN prt) with q | q
    · exact Or.inl q
    · exact Or.inr ⟨he, uN_inj (by omega)⟩
-- entries by number
def eF (es : List E3) (i : Nat) : Int64 := (es.getD i (0, 0, 0)).1
def eC (es : List E3) (i : Nat) : Int64 := (es.getD i (0, 0, 0)).2.1
def eS (es : List E3) (i : Nat) : Nat := (es.getD i (0, 0, 0)).2.2
theorem e_at {es : List E3} {i : Nat} {e : E3} (h : es[i]? = some e) : (eF es i, eC es i, eS es i) = e := by
  unfold eF eC eS
  rw [List.getD_eq_getElem?_getD, h]
  rfl
theorem eF_at {es : List E3} {i : Nat} {e : E3} (h : es[i]? = some e) : eF es i = e.1 := by rw [← e_at h]
theorem eC_at {es : List E3} {i : Nat} {e : E3} (h : es[i]? = some e) : eC es i = e.2.1 := by rw [← e_at h]
theorem eS_at {es : List E3} {i : Nat} {e : E3} (h : es[i]? = some e) : eS es i = e.2.2 := by rw [← e_at h]
theorem e_lt {α : Type} {l : List α} {i : Nat} (h : i < l.length) : ∃ a, l[i]? = some a := ⟨l[i], by simp [h]⟩
theorem xEL_xEs {G : xw_G} {xs : List Nat} {es : List E3} (h : xEL G xs es) : xEs G xs (eF es) (eC es) (eS es) := by
  intro i a ha
  have hi : i < es.length := by
    rw [← h.1]
    exact (List.getElem?_eq_some_iff.mp ha).1
  obtain ⟨e, he⟩ := e_lt hi
  obtain ⟨b, h1, h2⟩ := h.2 i e he
  rw [ha] at h1
  cases h1
  rw [eF_at he, eC_at he, eS_at he]
  exact h2
theorem xEL_cnt {G : xw_G} {xs : List Nat} {es : List E3} (h : xEL G xs es) (hs : srt es) (f d : Int64) : ∀ i : Nat, i < xs.length → (ahead (eF es i) (eC es i) f d = true ↔ i < cnt es f d) := by
  intro i hi
  rw [h.1] at hi
  obtain ⟨e, he⟩ := e_lt hi
  rw [eF_at he, eC_at he]
  exact cnt_at hs f d i e he
theorem xEL_cntP {G : xw_G} {xs : List Nat} {es : List E3} (h : xEL G xs es) (hs : srt es) (sz b : Int32) (eq : Bool) (prt : Int64) : ∀ i : Nat, i < xs.length → (byPart sz b eq (eF es i) prt = true ↔ i < cntP es sz b eq prt) := by
  intro i hi
  rw [h.1] at hi
  obtain ⟨e, he⟩ := e_lt hi
  rw [eF_at he]
  exact cntP_at hs sz b eq prt i e he
theorem xEL_le {G : xw_G} {xs : List Nat} {es : List E3} (h : xEL G xs es) (f d : Int64) : cnt es f d ≤ xs.length := by rw [h.1]; exact cnt_le
theorem xEL_leP {G : xw_G} {xs : List Nat} {es : List E3} (h : xEL G xs es) (sz b : Int32) (eq : Bool) (prt : Int64) : cntP es sz b eq prt ≤ xs.length := by rw [h.1]; exact cntP_le
/-- what is at a number of Java's in a list -/
def atI {α : Type} (l : List α) (j : Int32) : Option α := if j < 0 then none else l[j.toNatClampNeg]?
theorem atI_in {α : Type} {l : List α} {i : Nat} (hl : l.length < 2 ^ 31) (hi : i < l.length) : atI l (nI i) = l[i]? := by
  unfold atI
  rw [if_neg (nI_pos (by omega)), nI_clamp (by omega)]
theorem atI_out {α : Type} {l : List α} {j : Int32} (hl : l.length < 2 ^ 31) (h : j < 0 ∨ nI l.length ≤ j) : atI l j = none := by
  unfold atI
  rcases h with h | h
  · rw [if_pos h]
  · by_cases h0 : j < 0
    · rw [if_pos h0]
    · rw [if_neg h0]
      obtain ⟨k, hk, rfl⟩ := nI_of h0
      rw [nI_clamp hk]
      have := (nI_leI hl hk).mp h
      simp [this]
theorem atI_cases {α : Type} (l : List α) (j : Int32) (hl : l.length < 2 ^ 31) : (atI l j = none ∧ (j < 0 ∨ nI l.length ≤ j)) ∨ ∃ (i : Nat) (a : α), j = nI i ∧ l[i]? = some a ∧ atI l j = some a ∧ i < l.length := by
  rcases pk_ix j hl with h | h | ⟨i, hi, rfl⟩
  · exact Or.inl ⟨atI_out hl (Or.inl h), Or.inl h⟩
  · exact Or.inl ⟨atI_out hl (Or.inr h), Or.inr h⟩
  · obtain ⟨a, ha⟩ := e_lt hi
    exact Or.inr ⟨i, a, rfl, ha, by rw [atI_in hl hi]; exact ha, hi⟩
theorem xAL_len {E : xE} {G : xw_G} {h ar : Nat} {xs : List Nat} (hA : xAL E G h ar xs) : xs.length ≤ 366 := by
  obtain ⟨cap, md, f, h1, h2, h3, h4, -⟩ := hA
  have := capOK_le h4
  omega
