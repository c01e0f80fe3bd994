/-! ENTERING: lists, a key's slots, the reference's loops in closed form -/
theorem ins_eq {α : Type} {a : α} : ∀ {l : List α} {i : Nat}, i ≤ l.length → l.insertIdx i a = l.take i ++ a :: l.drop i
  | _, 0, _ => by simp
  | [], i + 1, h => by simp at h
  | b :: l, i + 1, h => by
    rw [List.insertIdx_succ_cons, ins_eq (l := l) (i := i) (by simpa using h)]
    rfl
theorem ins_map {α β : Type} {f : α → β} {a : α} {l : List α} {i : Nat} (h : i ≤ l.length) : (l.insertIdx i a).map f = (l.map f).insertIdx i (f a) := by
  rw [ins_eq h, ins_eq (by rw [List.length_map]; exact h), List.map_append, List.map_cons, List.map_take, List.map_drop]
theorem ins_mem {α : Type} {a b : α} {l : List α} {i : Nat} (h : i ≤ l.length) : b ∈ l.insertIdx i a ↔ b ∈ l ∨ b = a := by
  have h1 : b ∈ l ↔ b ∈ l.take i ∨ b ∈ l.drop i := by rw [← List.mem_append, List.take_append_drop]
  rw [ins_eq h, List.mem_append, List.mem_cons, h1]
  constructor
  · rintro (h | h | h)
    · exact Or.inl (Or.inl h)
    · exact Or.inr h
    · exact Or.inl (Or.inr h)
  · rintro ((h | h) | h)
    · exact Or.inl h
    · exact Or.inr (Or.inr h)
    · exact Or.inr (Or.inl h)
theorem srt_ins {es : List E3} (hs : srt es) {f d : Int64} {s0 : Nat} (hc : ∀ e ∈ es, e.2.1 < d) : srt (es.insertIdx (cnt es f d) (f, d, s0)) := by
  rw [ins_eq cnt_le]
  unfold srt
  rw [List.pairwise_append, List.pairwise_cons]
  refine ⟨List.Pairwise.sublist (List.take_sublist _ _) hs, ⟨fun e he => ?_, List.Pairwise.sublist (List.drop_sublist _ _) hs⟩, fun a ha b hb => ?_⟩
  · obtain ⟨j, hj⟩ := List.getElem?_of_mem he
    rw [List.getElem?_drop] at hj
    have hm := List.mem_of_getElem? hj
    have h1 : ¬ ahead e.1 e.2.1 f d = true := fun y => by have := (cnt_at hs f d _ e hj).mp y; omega
    rw [ahead_iff] at h1
    show ahead f d e.1 e.2.1 = true
    rw [ahead_iff]
    left
    rcases Nat.lt_trichotomy (uN f) (uN e.1) with h | h | h
    · exact h
    · exact absurd (Or.inr ⟨uN_inj h.symm, hc e hm⟩) h1
    · exact absurd (Or.inl h) h1
  · obtain ⟨j, hj⟩ := List.getElem?_of_mem ha
    have hjl : j < cnt es f d ∧ es[j]? = some a := by
      rw [List.getElem?_take] at hj
      split at hj
      · next h => exact ⟨h, hj⟩
      · cases hj
    have h1 : ahead a.1 a.2.1 f d = true := (cnt_at hs f d _ a hjl.2).mpr hjl.1
    rcases List.mem_cons.mp hb with rfl | hb
    · exact h1
    · obtain ⟨m, hm⟩ := List.getElem?_of_mem hb
      rw [List.getElem?_drop] at hm
      exact srt_lt hs hjl.2 hm (by omega)
theorem entB_iff {kd : KD} {es : List E3} (hs : srt es) {f d : Int64} (hc : ∀ e ∈ es, e.2.1 < d) : entB kd es f d = true ↔ lft kd f = false ∧ ∃ e ∈ es, e.1 = f := by
  unfold entB
  cases hl : lft kd f with
  | true =>
    rw [if_pos rfl]
    exact ⟨(fun h => by cases h), (fun h => by cases h.1)⟩
  | false =>
    rw [if_neg Bool.false_ne_true, decide_eq_true_eq]
    have hle := @cnt_le es f d
    constructor
    · rintro ⟨h1, h2⟩
      obtain ⟨e, he⟩ := e_lt (show cnt es f d - 1 < es.length by omega)
      exact ⟨rfl, e, List.mem_of_getElem? he, (eF_at he).symm.trans h2⟩
    · rintro ⟨-, e, he, hf⟩
      obtain ⟨i, hi⟩ := List.getElem?_of_mem he
      have h1 : i < cnt es f d := (cnt_at hs f d i e hi).mp (ahead_iff.mpr (Or.inr ⟨hf, hc e he⟩))
      refine ⟨by omega, ?_⟩
      obtain ⟨e2, he2⟩ := e_lt (show cnt es f d - 1 < es.length by omega)
      rw [eF_at he2]
      have h2 := ahead_f ((cnt_at hs f d _ e2 he2).mpr (by omega))
      have h3 : uN e.1 ≤ uN e2.1 := by
        rcases Nat.eq_or_lt_of_le (show i ≤ cnt es f d - 1 by omega) with h | h
        · rw [h, he2] at hi
          cases hi
          exact Nat.le_refl _
        · exact ahead_f (srt_lt hs hi he2 h)
      rw [hf] at h3
      exact uN_inj (by omega)
/-- a key's entries by slots, without a state -/
def rKX (F : Nat → Int64) (cm sl : Nat → Nat) (In : Nat → Prop) (rk : Nat → Int32) (P : Nat → Nat → Prop) (du : Bool) (rs : List Nat) (es : List E3) : Prop :=
  es = rs.map (fun r => (F r, lN (cm r), sl r)) ∧ (∀ r, r ∈ rs ↔ In r) ∧ srt es ∧ (∀ r ∈ rs, ∃ n, rk r = nI n ∧ P (cm r) n) ∧ (du = false → ∀ r1 ∈ rs, ∀ r2 ∈ rs, F r1 = F r2 → r1 = r2)
section KXS
variable {F F' : Nat → Int64} {cm cm' sl sl' : Nat → Nat} {In In' : Nat → Prop} {rk rk' : Nat → Int32} {P P' : Nat → Nat → Prop} {du : Bool} {rs : List Nat} {es : List E3}
theorem rKX.same (h : rKX F cm sl In rk P du rs es) (hF : ∀ r, In r → F' r = F r) (hcm : ∀ r, In r → cm' r = cm r) (hsl : ∀ r, In r → sl' r = sl r) (hrk : ∀ r, In r → rk' r = rk r) (hP : ∀ c n, P c n → P' c n) (hIn : ∀ r, In' r ↔ In r) : rKX F' cm' sl' In' rk' P' du rs es := by
  obtain ⟨h1, h2, h3, h4, h5⟩ := h
  refine ⟨?_, fun r => (h2 r).trans (hIn r).symm, h3, fun r hr => ?_, fun hd r1 hr1 r2 hr2 he => ?_⟩
  · rw [h1]
    apply List.map_congr_left
    intro r hr
    have := (h2 r).mp hr
    rw [hF r this, hcm r this, hsl r this]
  · obtain ⟨m, m1, m2⟩ := h4 r hr
    exact ⟨m, (hrk r ((h2 r).mp hr)).trans m1, by rw [hcm r ((h2 r).mp hr)]; exact hP _ _ m2⟩
  · rw [hF _ ((h2 r1).mp hr1), hF _ ((h2 r2).mp hr2)] at he
    exact h5 hd r1 hr1 r2 hr2 he
theorem rKX.del (h : rKX F cm sl In rk P du rs es) {u s0 : Nat} (hi : ∀ r ∈ rs, (sl r = s0 ↔ r = u)) : rKX F cm sl (fun r => In r ∧ ¬ r = u) rk P du (rs.filter (fun r => decide (¬ r = u))) (delS es s0) := by
  obtain ⟨h1, h2, h3, h4, h5⟩ := h
  refine ⟨?_, fun r => ?_, srt_del h3, fun r hr => h4 r (List.mem_filter.mp hr).1, fun hd r1 hr1 r2 hr2 he => h5 hd r1 (List.mem_filter.mp hr1).1 r2 (List.mem_filter.mp hr2).1 he⟩
  · unfold delS
    rw [h1, List.filter_map]
    congr 1
    apply List.filter_congr
    intro r hr
    show decide (¬ sl r = s0) = decide (¬ r = u)
    rw [decide_eq_decide, hi r hr]
  · rw [List.mem_filter, h2 r, decide_eq_true_eq]
theorem rKX.ins (h : rKX F cm sl In rk P du rs es) {kd : KD} {u c s0 : Nat} {f : Int64} (hF : ∀ r, In r → F' r = F r) (hcm : ∀ r, In r → cm' r = cm r) (hsl : ∀ r, In r → sl' r = sl r) (hrk : ∀ r, In r → rk' r = rk r) (hP : ∀ c n, P c n → P' c n)
    (hFu : F' u = f) (hcu : cm' u = c) (hsu : sl' u = s0) (hc : ∀ e ∈ es, e.2.1 < lN c) (hru : lft kd f = false → ∃ m, rk' u = nI m ∧ P' c m) (hIn : ∀ r, In' r ↔ In r ∨ (r = u ∧ lft kd f = false)) (hdu : du = false → lft kd f = false → ∀ r ∈ rs, ¬ F r = f) :
    rKX F' cm' sl' In' rk' P' du (if lft kd f = true then rs else rs.insertIdx (cnt es f (lN c)) u) (entE kd es f (lN c) s0) := by
  unfold entE
  cases hl : lft kd f with
  | true =>
    rw [if_pos rfl, if_pos rfl]
    refine h.same hF hcm hsl hrk hP (fun r => ?_)
    rw [hIn r, hl]
    exact ⟨fun y => y.elim id (fun z => by cases z.2), Or.inl⟩
  | false =>
    rw [if_neg Bool.false_ne_true, if_neg Bool.false_ne_true]
    have h0 := h.same hF hcm hsl hrk hP (fun r => Iff.rfl)
    obtain ⟨h1, h2, h3, h4, h5⟩ := h0
    have hlen : es.length = rs.length := by rw [h1, List.length_map]
    have hle : cnt es f (lN c) ≤ rs.length := by rw [← hlen]; exact cnt_le
    have hne : du = false → ∀ r ∈ rs, ¬ F' r = f := fun hd r hr => by rw [hF r ((h2 r).mp hr)]; exact hdu hd hl r hr
    refine ⟨?_, fun r => ?_, srt_ins h3 hc, fun r hr => ?_, fun hd r1 hr1 r2 hr2 he => ?_⟩
    · rw [ins_map hle, ← h1]
      show _ = es.insertIdx (cnt es f (lN c)) (F' u, lN (cm' u), sl' u)
      rw [hFu, hcu, hsu]
    · rw [ins_mem hle, h2 r, hIn r, hl]
      exact ⟨fun y => y.elim Or.inl (fun z => Or.inr ⟨z, rfl⟩), fun y => y.elim Or.inl (fun z => Or.inr z.1)⟩
    · rcases (ins_mem hle).mp hr with hr | rfl
      · exact h4 r hr
      · rw [hcu]
        exact hru hl
    · rcases (ins_mem hle).mp hr1 with g1 | rfl <;> rcases (ins_mem hle).mp hr2 with g2 | rfl
      · exact h5 hd r1 g1 r2 g2 he
      · exact absurd (he.trans hFu) (hne hd r1 g1)
      · exact absurd (he.symm.trans hFu) (hne hd r2 g2)
      · rfl
end KXS
theorem rKE_X {μ : MS} {k : Nat} {w : RW} {q : KD × List E3} : rKE μ k w q ↔ rKX (fun r => mF μ k (mJ μ 9 r)) (wC w k) (wL w) (fun r => r < 300 ∧ mEn μ k r = true) (mRk μ k) (wP w k) q.1.1 (wR w k) q.2 := Iff.rfl
theorem PM.add {P : Nat → Nat → Prop} {A N A' N' : Nat} (h : PM P A N) {Q : Prop} {c0 m0 : Nat} (hA : A ≤ A') (hN : N ≤ N') (hq : Q → A < c0 ∧ c0 ≤ A' ∧ N < m0 ∧ m0 ≤ N') : PM (fun c m => P c m ∨ (Q ∧ c = c0 ∧ m = m0)) A' N' := by
  refine ⟨fun c r hc => ?_, fun c1 r1 c2 r2 h1 h2 => ?_⟩
  · rcases hc with hc | ⟨h1, rfl, rfl⟩
    · have := h.1 c r hc; omega
    · have := hq h1; omega
  · rcases h1 with h1 | ⟨h1, rfl, rfl⟩ <;> rcases h2 with h2 | ⟨h2, rfl, rfl⟩
    · exact h.2 _ _ _ _ h1 h2
    · have := h.1 _ _ h1
      have := hq h2
      omega
    · have := h.1 _ _ h2
      have := hq h1
      omega
    · omega
-- loops of the reference
abbrev mBc (μ : MS) (x : Int64) (but : Option Nat) (k : Nat) : Bool := mHs μ k x && (mChg μ k x but && (mEq μ k (mF μ k x) but).isSome)
theorem mBar_cf {μ : MS} {x : Int64} {but : Option Nat} : ∀ {n t : Nat} {w : Int32}, (w = 0 ∨ w = 2 ∨ w = 22) →
    (mBar μ x but n t w = 22 ∧ (w = 22 ∨ ∃ k, t ≤ k ∧ k < t + n ∧ mBc μ x but k = true ∧ mZ μ 3 k = false)) ∨
    ((¬ w = 22 ∧ ∀ k, t ≤ k → k < t + n → mBc μ x but k = true → mZ μ 3 k = true) ∧ ((mBar μ x but n t w = 2 ∧ (w = 2 ∨ ∃ k, t ≤ k ∧ k < t + n ∧ mBc μ x but k = true)) ∨ (mBar μ x but n t w = 0 ∧ w = 0 ∧ ∀ k, t ≤ k → k < t + n → mBc μ x but k = false)))
  | 0, t, w, h => by
    rcases h with rfl | rfl | rfl
    · exact Or.inr ⟨⟨by decide, fun k h1 h2 => by omega⟩, Or.inr ⟨rfl, rfl, fun k h1 h2 => by omega⟩⟩
    · exact Or.inr ⟨⟨by decide, fun k h1 h2 => by omega⟩, Or.inl ⟨rfl, Or.inl rfl⟩⟩
    · exact Or.inl ⟨rfl, Or.inl rfl⟩
  | n + 1, t, w, h => by
    show (mBar μ x but n (t + 1) (mBarS μ x but t w) = 22 ∧ _) ∨ (_ ∧ ((mBar μ x but n (t + 1) (mBarS μ x but t w) = 2 ∧ _) ∨ (mBar μ x but n (t + 1) (mBarS μ x but t w) = 0 ∧ _)))
    have hst : mBarS μ x but t w = if mBc μ x but t = true then (if mZ μ 3 t = false then 22 else if w = 22 then 22 else 2) else w := rfl
    have e : t + (n + 1) = t + 1 + n := by omega
    rw [e]
    cases hc : mBc μ x but t with
    | false =>
      rw [hc, if_neg Bool.false_ne_true] at hst
      rw [hst]
      rcases mBar_cf (μ := μ) (x := x) (but := but) (n := n) (t := t + 1) h with ⟨h1, h2⟩ | ⟨⟨h1, h2⟩, h3⟩
      · refine Or.inl ⟨h1, h2.imp id ?_⟩
        rintro ⟨k, k1, k2, k3⟩
        exact ⟨k, by omega, k2, k3⟩
      · refine Or.inr ⟨⟨h1, fun k k1 k2 k3 => h2 k ?_ k2 k3⟩, h3.imp ?_ ?_⟩
        · have : k ≠ t := fun z => by rw [z, hc] at k3; cases k3
          omega
        · rintro ⟨g1, g2⟩
          refine ⟨g1, g2.imp id ?_⟩
          rintro ⟨k, k1, k2, k3⟩
          exact ⟨k, by omega, k2, k3⟩
        · rintro ⟨g1, g2, g3⟩
          refine ⟨g1, g2, fun k k1 k2 => ?_⟩
          by_cases hk : k = t
          · rw [hk]; exact hc
          · exact g3 k (by omega) k2
    | true =>
      rw [hc, if_pos rfl] at hst
      cases hz : mZ μ 3 t with
      | false =>
        rw [hz, if_pos rfl] at hst
        rw [hst]
        rcases mBar_cf (μ := μ) (x := x) (but := but) (n := n) (t := t + 1) (w := 22) (by decide) with ⟨h1, h2⟩ | ⟨⟨h1, h2⟩, h3⟩
        · exact Or.inl ⟨h1, Or.inr ⟨t, by omega, by omega, hc, hz⟩⟩
        · exact absurd rfl h1
      | true =>
        rw [hz, if_neg (by decide)] at hst
        by_cases hw : w = 22
        · rw [if_pos hw] at hst
          rw [hst]
          rcases mBar_cf (μ := μ) (x := x) (but := but) (n := n) (t := t + 1) (w := 22) (by decide) with ⟨h1, h2⟩ | ⟨⟨h1, h2⟩, h3⟩
          · exact Or.inl ⟨h1, Or.inl hw⟩
          · exact absurd rfl h1
        · rw [if_neg hw] at hst
          rw [hst]
          rcases mBar_cf (μ := μ) (x := x) (but := but) (n := n) (t := t + 1) (w := 2) (by decide) with ⟨h1, h2⟩ | ⟨⟨h1, h2⟩, h3⟩
          · refine Or.inl ⟨h1, ?_⟩
            rcases h2 with h2 | ⟨k, k1, k2, k3⟩
            · exact absurd h2 (by decide)
            · exact Or.inr ⟨k, by omega, k2, k3⟩
          · refine Or.inr ⟨⟨hw, fun k k1 k2 k3 => ?_⟩, Or.inl ⟨?_, Or.inr ⟨t, by omega, by omega, hc⟩⟩⟩
            · by_cases hk : k = t
              · rw [hk]; exact hz
              · exact h2 k (by omega) k2 k3
            · rcases h3 with h3 | h3
              · exact h3.1
              · exact absurd h3.2.1 (by decide)
def RA (M M' : MS) (r : Nat) (x : Int64) (fr : Bool) (t n N : Nat) : Prop :=
  (∀ k, k ≠ 14 → mS M' k = mS M k) ∧ mS M' 14 = nI (N + n) ∧ mO M' = mO M ∧ (∀ k, k ≠ 11 → mI M' k = mI M k) ∧ mZ M' = mZ M ∧ mJ M' = mJ M ∧ (∀ j, (∀ k, t ≤ k → k < t + n → j ≠ 300 * k + r) → mI M' 11 j = mI M 11 j) ∧
  ∀ k, t ≤ k → k < t + n → mI M' 11 (300 * k + r) = if (fr || (!mEn M k r || !decide (mF M k (mJ M 9 r) = mF M k x))) = true then nI (N + (k - t) + 1) else mI M 11 (300 * k + r)
theorem mRA_o {r : Nat} {x : Int64} {fr : Bool} : ∀ {n t N : Nat} {M : MS}, mS M 14 = nI N → RA M (mRA r x fr n t M) r x fr t n N
  | 0, t, N, M, h => ⟨fun _ _ => rfl, h, rfl, fun _ _ => rfl, rfl, rfl, fun _ _ => rfl, fun k h1 h2 => by omega⟩
  | n + 1, t, N, M, h => by
    obtain ⟨h1, h2, h3, h4, h5, h6, h7, h8⟩ := mRA_o (r := r) (x := x) (fr := fr) (n := n) (t := t + 1) (N := N + 1) (M := mRAs M r x fr t) (by show mS M 14 + 1 = _; rw [h]; exact nI_1 N)
    refine ⟨fun k hk => (h1 k hk).trans (va_up_ne _ _ hk), ?_, h3, fun k hk => (h4 k hk).trans (va_up_ne _ _ hk), h5, h6, fun j hj => ?_, fun k k1 k2 => ?_⟩
    · exact h2.trans (by rw [show N + 1 + n = N + (n + 1) by omega])
    · refine (h7 j (fun k k1 k2 => hj k (by omega) (by omega))).trans ?_
      exact pk_un (hj t (by omega) (by omega))
    · by_cases hk : k = t
      · subst hk
        refine (h7 _ (fun k' k1 k2 => by omega)).trans ?_
        show upd (mI M 11) (300 * k + r) _ (300 * k + r) = _
        rw [pk_us, h, nI_1, Nat.sub_self, Nat.add_zero]
      · refine (h8 k (by omega) (by omega)).trans ?_
        have e1 : mI (mRAs M r x fr t) 11 (300 * k + r) = mI M 11 (300 * k + r) := pk_un (by omega)
        rw [e1, show N + 1 + (k - (t + 1)) + 1 = N + (k - t) + 1 by omega]
        rfl
