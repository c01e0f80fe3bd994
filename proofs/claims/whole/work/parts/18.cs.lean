/-! THE CLASS'S STATE: keys with their entries, views, records by address, opened?, arrivals, sweeps; xCS: the heap holds it -/
abbrev KD : Type := Bool × Int32 × Int32 × Bool × Int64
abbrev E3 : Type := Int64 × Int64 × Nat
abbrev VD : Type := Bool × Int32 × Int32 × Int32 × Int32 × Int64 × Int64 × Bool × Option Nat × Int64 × Bool × Int64
abbrev CS : Type := List (KD × List E3) × List VD × (Nat → Option (Int64 × Bool)) × Bool × Nat × Nat
abbrev sK (σ : CS) : List (KD × List E3) := σ.1
abbrev sV (σ : CS) : List VD := σ.2.1
abbrev sD (σ : CS) : Nat → Option (Int64 × Bool) := σ.2.2.1
abbrev sO (σ : CS) : Bool := σ.2.2.2.1
abbrev sA (σ : CS) : Nat := σ.2.2.2.2.1
abbrev sW (σ : CS) : Nat := σ.2.2.2.2.2
abbrev cKI (k : KD) (en : Nat) : va_E := eKI k.1 k.2.1 k.2.2.1 en k.2.2.2.1 k.2.2.2.2
abbrev cEN (e : E3) : va_E := eEN e.1 e.2.1 e.2.2
abbrev cVW (v : VD) : va_E := eVW v.1 v.2.1 v.2.2.1 v.2.2.2.1 v.2.2.2.2.1 v.2.2.2.2.2.1 v.2.2.2.2.2.2.1 v.2.2.2.2.2.2.2.1 (va_rf v.2.2.2.2.2.2.2.2.1) v.2.2.2.2.2.2.2.2.2.1 v.2.2.2.2.2.2.2.2.2.2.1 v.2.2.2.2.2.2.2.2.2.2.2
/-- a list's entries as cells -/
def xEL (G : xw_G) (xs : List Nat) (es : List E3) : Prop := xs.length = es.length ∧ ∀ (j : Nat) (e : E3), es[j]? = some e → ∃ b : Nat, xs[j]? = some b ∧ G b = some (cEN e)
/-- the lists: 0 the keys', 1 the views', i + 2 the entries of key i: where they lie (lo, la), what they hold (lc) -/
def xLS (E : xE) (G : xw_G) (n : Nat) (lo la : Nat → Nat) (lc : Nat → List Nat) : Prop :=
  (∀ i : Nat, i < n + 2 → xAL E G (lo i) (la i) (lc i)) ∧ (∀ i j : Nat, i < n + 2 → j < n + 2 → lo i = lo j → i = j) ∧ (∀ i j : Nat, i < n + 2 → j < n + 2 → la i = la j → i = j ∨ la i = xaE E)
def xCS (E : xE) (G : xw_G) (x : Nat) (σ : CS) : Prop := ∃ (lo la : Nat → Nat) (lc : Nat → List Nat),
  G x = some (eKF (lo 0) (lo 1) (sO σ) (lN (sA σ)) (lN (sW σ))) ∧ xLS E G (sK σ).length lo la lc ∧
  ((lc 0).length = (sK σ).length ∧ (lc 0).Nodup ∧ (lc 1).length = (sV σ).length ∧ (lc 1).Nodup) ∧
  (∀ (i : Nat) (q : KD × List E3), (sK σ)[i]? = some q → (∃ a : Nat, (lc 0)[i]? = some a ∧ G a = some (cKI q.1 (lo (i + 2)))) ∧ xEL G (lc (i + 2)) q.2) ∧
  (∀ (i : Nat) (v : VD), (sV σ)[i]? = some v → ∃ a : Nat, (lc 1)[i]? = some a ∧ G a = some (cVW v)) ∧
  (∀ (r : Nat) (d : Int64 × Bool), sD σ r = some d → ∃ w : Nat, w ≤ sW σ ∧ G r = some (eST d.1 d.2 (lN w))) ∧ xEm E G
/-- a cell of the reference: its object, arrays of numbers -/
def xMo (e : va_E) : Prop := (∃ fs, e = .inr (5, fs)) ∨ (∃ (c : ClassId) (n : Nat) (f : Nat → Int32), e = .inl (c, n, .inl f)) ∨ ∃ (c : ClassId) (n : Nat) (f : Nat → Int64), e = .inl (c, n, .inr (.inl f))
def xFm (G G' : xw_G) : Prop := ∀ (a : Nat) (e : va_E), G a = some e → xMo e → G' a = some e
theorem xFm.rf {G : xw_G} : xFm G G := fun _ _ h _ => h
theorem xFm.tr {G1 G2 G3 : xw_G} (h1 : xFm G1 G2) (h2 : xFm G2 G3) : xFm G1 G3 := fun a e h hm => h2 a e (h1 a e h hm) hm
theorem xFm.up {G : xw_G} {a ci : Nat} {fs : List Value} {e : Option va_E} (h : G a = some (.inr (ci, fs))) (hc : ci ≠ 5) : xFm G (va_up G a e) := by
  intro b e0 hb hm
  have hne : b ≠ a := by
    intro q
    subst q
    rw [h] at hb
    cases hb
    rcases hm with ⟨fs2, h2⟩ | ⟨_, _, _, h2⟩ | ⟨_, _, _, h2⟩
    · cases h2; exact hc rfl
    · cases h2
    · cases h2
  rw [va_up_ne _ _ hne]
  exact hb
theorem xFm.fresh {G : xw_G} {a : Nat} {e : Option va_E} (h : G a = none) : xFm G (va_up G a e) := by
  intro b e0 hb hm
  rw [va_up_ne _ _ (xw_neF h hb)]
  exact hb
theorem xFm.fr {E : xE} {G G' : xw_G} {h ar : Nat} {xs : List Nat} (hA : xAL E G h ar xs) (hF : xFr E G G' h ar) : xFm G G' := by
  obtain ⟨cap, md, f, h1, h2, -⟩ := hA
  intro b e0 hb hm
  refine hF b e0 hb (fun q => ?_) (fun q => ?_)
  · subst q
    rw [h1] at hb
    cases hb
    rcases hm with ⟨fs2, h2⟩ | ⟨_, _, _, h2⟩ | ⟨_, _, _, h2⟩ <;> cases h2
  · subst q
    rw [h2] at hb
    cases hb
    rcases hm with ⟨fs2, h2⟩ | ⟨_, _, _, h2⟩ | ⟨_, _, _, h2⟩ <;> cases h2
-- what a write to an object that is no list leaves
theorem xAL_up {E : xE} {G : xw_G} {h ar a ci : Nat} {xs : List Nat} {fs : List Value} {e : va_E} (ha : G a = some (.inr (ci, fs))) (hc : ci ≠ 6) (hA : xAL E G h ar xs) : xAL E (va_up G a (some e)) h ar xs := by
  obtain ⟨cap, md, f, h1, h2, h3⟩ := hA
  exact ⟨cap, md, f, xw_keep h1 (xw_neC h1 ha (fun q => hc q.symm)), xw_keep h2 (xw_neA ha h2).symm, h3⟩
theorem xLS_up {E : xE} {G : xw_G} {n a ci : Nat} {lo la : Nat → Nat} {lc : Nat → List Nat} {fs : List Value} {e : va_E} (ha : G a = some (.inr (ci, fs))) (hc : ci ≠ 6) (h : xLS E G n lo la lc) : xLS E (va_up G a (some e)) n lo la lc := ⟨fun i hi => xAL_up ha hc (h.1 i hi), h.2⟩
theorem xEm_up {E : xE} {G : xw_G} {a ci : Nat} {fs : List Value} {e : va_E} (ha : G a = some (.inr (ci, fs))) (h : xEm E G) : xEm E (va_up G a (some e)) := by
  obtain ⟨f, hf⟩ := h
  exact ⟨f, xw_keep hf (xw_neA ha hf).symm⟩
theorem xEL_up {G : xw_G} {a ci : Nat} {xs : List Nat} {es : List E3} {fs : List Value} {e : va_E} (ha : G a = some (.inr (ci, fs))) (hc : ci ≠ 1) (h : xEL G xs es) : xEL (va_up G a (some e)) xs es := by
  refine ⟨h.1, fun j e0 hj => ?_⟩
  obtain ⟨b, h1, h2⟩ := h.2 j e0 hj
  exact ⟨b, h1, xw_keep h2 (xw_neC h2 ha (fun q => hc q.symm))⟩
theorem nodup_at {xs : List Nat} (h : xs.Nodup) {i j a : Nat} (hi : xs[i]? = some a) (hj : xs[j]? = some a) : i = j := by
  obtain ⟨hi1, hi2⟩ := List.getElem?_eq_some_iff.mp hi
  obtain ⟨hj1, hj2⟩ := List.getElem?_eq_some_iff.mp hj
  exact (List.getElem_inj h).mp (hi2.trans hj2.symm)
theorem set_at {α : Type} {l : List α} {i j : Nat} {v q : α} (h : (l.set i v)[j]? = some q) : (j = i ∧ q = v) ∨ (j ≠ i ∧ l[j]? = some q) := by
  by_cases hji : j = i
  · subst hji
    have hl : j < l.length := by
      have := (List.getElem?_eq_some_iff.mp h).1
      rwa [List.length_set] at this
    rw [List.getElem?_set_self hl] at h
    exact Or.inl ⟨rfl, (Option.some.inj h).symm⟩
  · rw [List.getElem?_set_ne (Ne.symm hji)] at h
    exact Or.inr ⟨hji, h⟩
/-- the state with another view i -/
abbrev CS.vw (σ : CS) (i : Nat) (v : VD) : CS := (sK σ, (sV σ).set i v, sD σ, sO σ, sA σ, sW σ)
theorem xCS_vw {E : xE} {G : xw_G} {x i a : Nat} {σ : CS} {v v' : VD} {lo la : Nat → Nat} {lc : Nat → List Nat} (hG : G x = some (eKF (lo 0) (lo 1) (sO σ) (lN (sA σ)) (lN (sW σ)))) (hL : xLS E G (sK σ).length lo la lc)
    (hn : (lc 0).length = (sK σ).length ∧ (lc 0).Nodup ∧ (lc 1).length = (sV σ).length ∧ (lc 1).Nodup)
    (hk : ∀ (i : Nat) (q : KD × List E3), (sK σ)[i]? = some q → (∃ a : Nat, (lc 0)[i]? = some a ∧ G a = some (cKI q.1 (lo (i + 2)))) ∧ xEL G (lc (i + 2)) q.2)
    (hv : ∀ (i : Nat) (v : VD), (sV σ)[i]? = some v → ∃ a : Nat, (lc 1)[i]? = some a ∧ G a = some (cVW v))
    (hs : ∀ (r : Nat) (d : Int64 × Bool), sD σ r = some d → ∃ w : Nat, w ≤ sW σ ∧ G r = some (eST d.1 d.2 (lN w))) (he : xEm E G) (ha : (lc 1)[i]? = some a) (hGa : G a = some (cVW v)) : xCS E (va_up G a (some (cVW v'))) x (σ.vw i v') := by
  refine ⟨lo, la, lc, xw_keep hG (xw_neC hG hGa (by decide)), xLS_up hGa (by decide) hL, ⟨hn.1, hn.2.1, by rw [List.length_set]; exact hn.2.2.1, hn.2.2.2⟩, fun j q hj => ?_, fun j u hj => ?_, fun r d hr => ?_, xEm_up hGa he⟩
  · obtain ⟨⟨b, h1, h2⟩, h3⟩ := hk j q hj
    exact ⟨⟨b, h1, xw_keep h2 (xw_neC h2 hGa (by decide))⟩, xEL_up hGa (by decide) h3⟩
  · rcases set_at hj with ⟨rfl, rfl⟩ | ⟨hji, hj⟩
    · exact ⟨a, ha, va_up_self _ _ _⟩
    · obtain ⟨b, h1, h2⟩ := hv j u hj
      exact ⟨b, h1, xw_keep h2 (fun q => hji (nodup_at hn.2.2.2 h1 (by rw [q]; exact ha)))⟩
  · obtain ⟨w, h1, h2⟩ := hs r d hr
    exact ⟨w, h1, xw_keep h2 (xw_neC h2 hGa (by decide))⟩
