/-! A KEY'S entries by lists: a record taken out, a record entered -/
def delS (es : List E3) (s0 : Nat) : List E3 := es.filter (fun e => decide (¬ e.2.2 = s0))
theorem delS_none {es : List E3} {s0 : Nat} (h : ∀ e ∈ es, e.2.2 ≠ s0) : delS es s0 = es := by
  unfold delS
  rw [List.filter_eq_self]
  intro e he
  simpa using h e he
theorem delS_erase {s0 : Nat} : ∀ {es : List E3} {j : Nat} {e : E3}, es[j]? = some e → e.2.2 = s0 → (∀ (i : Nat) (e' : E3), es[i]? = some e' → e'.2.2 = s0 → i = j) → delS es s0 = es.eraseIdx j
  | [], j, e, h, _, _ => by simp at h
  | a :: es, j, e, h, hs, hu => by
    cases j with
    | zero =>
      rw [List.getElem?_cons_zero] at h
      cases h
      have hn : ∀ e' ∈ es, e'.2.2 ≠ s0 := by
        intro e' he' hq
        obtain ⟨i, hi⟩ := List.getElem?_of_mem he'
        exact absurd (hu (i + 1) e' (by rw [List.getElem?_cons_succ]; exact hi) hq) (by omega)
      have h0 : delS (a :: es) s0 = delS es s0 := by
        unfold delS
        rw [List.filter_cons_of_neg (by simpa using hs)]
      rw [h0, delS_none hn]
      rfl
    | succ j =>
      rw [List.getElem?_cons_succ] at h
      have ha : ¬ a.2.2 = s0 := fun q => absurd (hu 0 a (by simp) q) (by omega)
      have ih := delS_erase h hs (fun i e' hi hq => by
        have := hu (i + 1) e' (by rw [List.getElem?_cons_succ]; exact hi) hq
        omega)
      have h0 : delS (a :: es) s0 = a :: delS es s0 := by
        unfold delS
        rw [List.filter_cons_of_pos (by simpa using ha)]
      rw [h0, ih]
      rfl
/-- a record s0 with the field f stands once in es, or its field isn't there at all -/
def dOK (es : List E3) (s0 : Nat) (f : Int64) : Prop := srt es ∧ (∀ e ∈ es, ¬ e.2.1 < 0) ∧ ((∃ (j : Nat) (e : E3), es[j]? = some e ∧ e.2.2 = s0 ∧ e.1 = f ∧ ∀ (i : Nat) (e' : E3), es[i]? = some e' → e'.2.2 = s0 → i = j) ∨ ∀ e ∈ es, e.2.2 ≠ s0 ∧ e.1 ≠ f)
theorem xEL_erase {G : xw_G} {xs : List Nat} {es : List E3} {j : Nat} (h : xEL G xs es) (hj : j < es.length) : xEL G (xs.eraseIdx j) (es.eraseIdx j) := by
  refine ⟨by rw [List.length_eraseIdx_of_lt hj, List.length_eraseIdx_of_lt (by rw [h.1]; exact hj), h.1], fun i e hi => ?_⟩
  by_cases hij : i < j
  · rw [List.getElem?_eraseIdx_of_lt hij] at hi ⊢
    exact h.2 i e hi
  · rw [List.getElem?_eraseIdx_of_ge (by omega)] at hi ⊢
    exact h.2 (i + 1) e hi
theorem xEL_ins {G : xw_G} {xs : List Nat} {es : List E3} {k q : Nat} {e0 : E3} (h : xEL G xs es) (hk : k ≤ es.length) (hq : G q = some (cEN e0)) : xEL G (xs.insertIdx k q) (es.insertIdx k e0) := by
  have hk2 : k ≤ xs.length := by rw [h.1]; exact hk
  refine ⟨by rw [List.length_insertIdx_of_le_length hk, List.length_insertIdx_of_le_length hk2, h.1], fun i e hi => ?_⟩
  rcases Nat.lt_trichotomy i k with hik | hik | hik
  · rw [List.getElem?_insertIdx_of_lt hik] at hi ⊢
    exact h.2 i e hi
  · subst hik
    rw [List.getElem?_insertIdx_self, if_pos hk] at hi
    cases hi
    exact ⟨q, by rw [List.getElem?_insertIdx_self, if_pos hk2], hq⟩
  · rw [List.getElem?_insertIdx_of_gt hik] at hi ⊢
    exact h.2 (i - 1) e hi
theorem srt_lt {es : List E3} (h : srt es) {i j : Nat} {a b : E3} (hi : es[i]? = some a) (hj : es[j]? = some b) (hij : i < j) : ahead a.1 a.2.1 b.1 b.2.1 = true := by
  unfold srt at h
  rw [List.pairwise_iff_getElem] at h
  obtain ⟨hi1, hi2⟩ := List.getElem?_eq_some_iff.mp hi
  obtain ⟨hj1, hj2⟩ := List.getElem?_eq_some_iff.mp hj
  have := h i j hi1 hj1 hij
  rw [hi2, hj2] at this
  exact this
theorem q_KI_drop (l : Launch) (E : xE) {G : xw_G} {h0 en : Nat} {kd : KD} (hK : G h0 = some (cKI kd en)) {ar : Nat} {xs : List Nat} (hA : xAL E G en ar xs) {es : List E3} (hX : xEL G xs es) {s0 : Nat} {f : Int64} (hE : xEm E G) (hd : dOK es s0 f) :
    XMk l E y_KI_drop w_KI_drop rm_KI_drop [.ref h0, .ref s0, .long f] G (fun r G' => r = none ∧ ∃ xs' : List Nat, xAL E G' en ar xs' ∧ xEL G' xs' (delS es s0) ∧ xFr E G G' en ar) 0 0 := by
  obtain ⟨hs, hc, hd⟩ := hd
  rcases hd with ⟨j, e, hj, hes, hef, hu⟩ | hno
  · have hjl : j < es.length := (List.getElem?_eq_some_iff.mp hj).1
    have hkj : cnt es f 0 ≤ j := Nat.not_lt.mp (fun q => by
      have := (cnt_at hs f 0 j e hj).mpr q
      rw [ahead_iff, hef] at this
      rcases this with z | ⟨-, z⟩
      · omega
      · exact hc e (List.mem_of_getElem? hj) z)
    refine (q_KI_drop_found l E hK hA (xEL_xEs hX) hE (xEL_le hX f 0) (xEL_cnt hX hs f 0) hkj (by rw [hX.1]; exact hjl) (by rw [eS_at hj]; exact hes) (fun i h1 h2 => ?_)).mono ?_
    · obtain ⟨e', he'⟩ := e_lt (show i < es.length by omega)
      rw [eS_at he', eF_at he']
      refine ⟨fun q => absurd (hu i e' he' q) (by omega), ?_⟩
      have g1 := ahead_f (srt_lt hs he' hj h2)
      have g2 : ¬ ahead e'.1 e'.2.1 f 0 = true := fun q => absurd ((cnt_at hs f 0 i e' he').mp q) (by omega)
      rw [ahead_iff] at g2
      have g3 : ¬ uN e'.1 < uN f := fun q => g2 (Or.inl q)
      rw [hef] at g1
      exact uN_inj (by omega)
    · rintro r G' ⟨h1, h2, h3⟩
      refine ⟨h1, _, h2, ?_, h3⟩
      rw [delS_erase hj hes hu]
      exact xEL_fr hA h3 (xEL_erase hX hjl)
  · refine (q_KI_drop_none l E hK hA (xEL_xEs hX) (xEL_le hX f 0) (xEL_cnt hX hs f 0) (fun hlt => ?_)).mono ?_
    · obtain ⟨e', he'⟩ := e_lt (show cnt es f 0 < es.length by rw [← hX.1]; exact hlt)
      rw [eS_at he', eF_at he']
      exact hno e' (List.mem_of_getElem? he')
    · rintro r G' ⟨h1, h2⟩
      subst h2
      exact ⟨h1, xs, hA, by rw [delS_none (fun e he => (hno e he).1)]; exact hX, fun a e ha _ _ => ha⟩
-- entering
def lft (kd : KD) (f : Int64) : Bool := kd.2.2.2.1 && decide (f = kd.2.2.2.2)
def entE (kd : KD) (es : List E3) (f d : Int64) (s0 : Nat) : List E3 := if lft kd f = true then es else es.insertIdx (cnt es f d) (f, d, s0)
def entB (kd : KD) (es : List E3) (f d : Int64) : Bool := if lft kd f = true then false else decide (0 < cnt es f d ∧ eF es (cnt es f d - 1) = f)
theorem q_KI_enter (l : Launch) (E : xE) {G : xw_G} {h0 en : Nat} {kd : KD} (hK : G h0 = some (cKI kd en)) {ar : Nat} {xs : List Nat} (hA : xAL E G en ar xs) {es : List E3} (hX : xEL G xs es) {st : Nat} {by1 sw d : Int64} {th : Bool} (hS : G st = some (eST by1 th sw)) (hE : xEm E G) (hs : srt es) (hn : es.length ≤ 300) :
    XMk l E y_KI_enter w_KI_enter rm_KI_enter [.ref h0, .ref st, .long d] G (fun r G' => r = some (.int (bI (entB kd es (fldI kd.2.1 kd.2.2.1 by1) d))) ∧ ∃ (ar' : Nat) (xs' : List Nat), (ar' = ar ∨ G ar' = none) ∧ xAL E G' en ar' xs' ∧ xEL G' xs' (entE kd es (fldI kd.2.1 kd.2.2.1 by1) d st) ∧ xFr E G G' en ar) 2 369 := by
  by_cases hl : lft kd (fldI kd.2.1 kd.2.2.1 by1) = true
  · refine (q_KI_enter_out l E hK hS hl).mono ?_
    rintro r G' ⟨h1, h2⟩
    subst h2
    refine ⟨by rw [h1, entB, if_pos hl]; rfl, ar, xs, Or.inl rfl, hA, by rw [entE, if_pos hl]; exact hX, fun a e ha _ _ => ha⟩
  · refine (q_KI_enter_in l E hK hA (xEL_xEs hX) hS (by simpa [lft] using hl) hE (by rw [hX.1]; exact hn) (xEL_le hX _ _) (xEL_cnt hX hs _ _)).mono ?_
    rintro r G' ⟨q, ar', h1, h2, h3, h4, h5, h6⟩
    refine ⟨by rw [h1, entB, if_neg hl], ar', _, h3, h4, ?_, h6⟩
    rw [entE, if_neg hl]
    exact xEL_ins (xEL_fr hA h6 hX) cnt_le h5
