/-! THE REFERENCE'S CONSTRUCTOR -/
def xMP (G : xw_G) (md : Nat) (W : List (Nat × Nat × va_E)) (fs : List Value) : Prop := G md = some (.inr (5, fs)) ∧ (∀ w ∈ W, G w.2.1 = some w.2.2 ∧ ∃ x, w.2.2 = .inl x) ∧ (W.map (fun w => w.2.1)).Nodup
theorem xMP_mk {G : xw_G} {md q k : Nat} {W : List (Nat × Nat × va_E)} {fs fs' : List Value} {x : ClassId × vp_A} (h : xMP G md W fs) (hq : G q = none) : xMP (va_up (va_up G q (some (.inl x))) md (some (.inr (5, fs')))) md ((k, q, .inl x) :: W) fs' := by
  obtain ⟨h1, h2, h3⟩ := h
  have hne : md ≠ q := xw_neF hq h1
  refine ⟨va_up_self _ _ _, fun w hw => ?_, ?_⟩
  · rcases List.mem_cons.mp hw with rfl | hw
    · exact ⟨xw_keep (va_up_self _ _ _) hne.symm, _, rfl⟩
    · obtain ⟨g1, y, g2⟩ := h2 w hw
      rw [g2] at g1 ⊢
      exact ⟨xw_keep (xw_keep g1 (xw_neF hq g1)) (fun z => by rw [z, h1] at g1; cases g1), y, rfl⟩
  · rw [List.map_cons, List.nodup_cons]
    refine ⟨fun hm => ?_, h3⟩
    obtain ⟨w, hw, he⟩ := List.mem_map.mp hm
    have g := (h2 w hw).1
    rw [he] at g
    have g : G q = some w.2.2 := g
    rw [hq] at g
    cases g
theorem xFc_mk {G0 G : xw_G} {md q : Nat} {W : List (Nat × Nat × va_E)} {fs fs' : List Value} {x : va_E} (h : xMP G md W fs) (hF : xFc G0 G) (hq : G q = none) : xFc G0 (va_up (va_up G q (some x)) md (some (.inr (5, fs')))) := by
  intro b e hb hn
  have hb2 := hF b e hb hn
  rw [va_up_ne _ _ (fun z => by rw [z, h.1] at hb2; cases hb2; exact hn mo5), va_up_ne _ _ (xw_neF hq hb2)]
  exact hb2
def wlk (W : List (Nat × Nat × va_E)) (i : Nat) : Nat := match W.find? (fun w => w.1 == i) with
  | some w => w.2.1
  | none => (W.map (fun w => w.2.1)).sum + 1 + i
theorem sum_le {W : List (Nat × Nat × va_E)} {w : Nat × Nat × va_E} (h : w ∈ W) : w.2.1 ≤ (W.map (fun w => w.2.1)).sum := by
  induction W with
  | nil => cases h
  | cons u W ih =>
    rw [List.map_cons, List.sum_cons]
    rcases List.mem_cons.mp h with rfl | h
    · omega
    · have := ih h; omega
theorem nd_inj {W : List (Nat × Nat × va_E)} (h : (W.map (fun w => w.2.1)).Nodup) {u w : Nat × Nat × va_E} (hu : u ∈ W) (hw : w ∈ W) (he : u.2.1 = w.2.1) : u = w := by
  induction W with
  | nil => cases hu
  | cons z W ih =>
    rw [List.map_cons, List.nodup_cons] at h
    rcases List.mem_cons.mp hu with hu2 | hu2 <;> rcases List.mem_cons.mp hw with hw2 | hw2
    · rw [hu2, hw2]
    · exact absurd (List.mem_map.mpr ⟨w, hw2, by rw [← he, hu2]⟩) h.1
    · exact absurd (List.mem_map.mpr ⟨u, hu2, by rw [he, hw2]⟩) h.1
    · exact ih h.2 hu2 hw2
theorem wlk_inj {W : List (Nat × Nat × va_E)} (h : (W.map (fun w => w.2.1)).Nodup) {i j : Nat} (he : wlk W i = wlk W j) : i = j := by
  unfold wlk at he
  cases hi : W.find? (fun w => w.1 == i) with
  | none =>
    cases hj : W.find? (fun w => w.1 == j) with
    | none => rw [hi, hj] at he; simp only at he; omega
    | some w =>
      rw [hi, hj] at he
      simp only at he
      have := sum_le (List.mem_of_find?_eq_some hj)
      omega
  | some u =>
    cases hj : W.find? (fun w => w.1 == j) with
    | none =>
      rw [hi, hj] at he
      simp only at he
      have := sum_le (List.mem_of_find?_eq_some hi)
      omega
    | some w =>
      rw [hi, hj] at he
      simp only at he
      have e1 := nd_inj h (List.mem_of_find?_eq_some hi) (List.mem_of_find?_eq_some hj) he
      have e2 := List.find?_some hi
      have e3 := List.find?_some hj
      rw [e1] at e2
      exact (beq_iff_eq.mp e2).symm.trans (beq_iff_eq.mp e3)
def μ0 : MS := (fun _ => 0, false, 0, fun _ _ => 0, fun _ _ => false, fun _ _ => 0)
section XMR4
variable {p : Program} {l : Launch} {e : Env} {R : Room} {s : State} {mt : MethodId} {args : Array Value} {below : List Frame} {meth : Method} {c : Code} {Q : State → Prop} {pc : Nat} {vs : List (Option Value)} {st : List Value} {G : xw_G} {cells slots : Nat} {E : xE}
theorem x_genG {P : xw_G → Prop} (h : P G) (k : ∀ G1 : xw_G, P G1 → XW p l e R s mt args below meth c Q (xD E) xcl (xB E) pc vs st G1 cells slots) : XW p l e R s mt args below meth c Q (xD E) xcl (xB E) pc vs st G cells slots := k G h
end XMR4
theorem md_init {E : xE} {G : xw_G} {md : Nat} {q1 q2 q3 q4 q5 q6 q7 q8 q9 q10 q11 q12 q13 q14 q15 q16 q17 q18 q19 q20 : Nat} {W : List (Nat × Nat × va_E)} (h : xMP G md W [.int 0, .ref q1, .ref q2, .ref q3, .ref q4, .ref q5, .int 0, .int 0, .int 0, .ref q6, .ref q7, .ref q8, .int 0, .int 0, .int 0, .ref q9, .ref q10, .ref q11, .ref q12, .ref q13, .ref q14, .ref q15, .ref q16, .ref q17, .ref q18, .ref q19, .ref q20, .int 0, .long 0]) (hW : W = [(26, q20, .inl (xZ E, 5, .inl (fun _ => 0))), (25, q19, .inl (xZ E, 5, .inl (fun _ => 0))), (24, q18, .inl (xZ E, 5, .inl (fun _ => 0))), (23, q17, .inl (xJ E, 5, .inr (.inl (fun _ => 0)))), (22, q16, .inl (xJ E, 5, .inr (.inl (fun _ => 0)))), (21, q15, .inl (xJ E, 5, .inr (.inl (fun _ => 0)))), (20, q14, .inl (xI E, 5, .inl (fun _ => 0))), (19, q13, .inl (xI E, 5, .inl (fun _ => 0))), (18, q12, .inl (xI E, 5, .inl (fun _ => 0))), (17, q11, .inl (xI E, 5, .inl (fun _ => 0))), (16, q10, .inl (xI E, 5, .inl (fun _ => 0))), (15, q9, .inl (xI E, 5, .inl (fun _ => 0))), (11, q8, .inl (xI E, 1800, .inl (fun _ => 0))), (10, q7, .inl (xI E, 300, .inl (fun _ => 0))), (9, q6, .inl (xJ E, 300, .inr (.inl (fun _ => 0)))), (5, q5, .inl (xJ E, 6, .inr (.inl (fun _ => 0)))), (4, q4, .inl (xZ E, 6, .inl (fun _ => 0))), (3, q3, .inl (xZ E, 6, .inl (fun _ => 0))), (2, q2, .inl (xI E, 6, .inl (fun _ => 0))), (1, q1, .inl (xI E, 6, .inl (fun _ => 0)))]) : xMD E G md (wlk W) μ0 := by
  obtain ⟨h1, h2, h3⟩ := h
  refine ⟨?_, fun q hq => ?_, fun q hq => ?_, fun q hq => ?_, fun i j _ _ he => wlk_inj h3 he⟩
  · rw [h1]
    subst hW
    rfl
  · simp only [nIa, List.mem_cons, List.not_mem_nil, or_false] at hq
    rcases hq with rfl | rfl | rfl | rfl | rfl | rfl | rfl | rfl | rfl | rfl
    · have g := (h2 (1, q1, .inl (xI E, 6, .inl (fun _ => 0))) (by rw [hW]; repeat (first | exact List.mem_cons_self | apply List.mem_cons_of_mem))).1
      subst hW
      exact g
    · have g := (h2 (2, q2, .inl (xI E, 6, .inl (fun _ => 0))) (by rw [hW]; repeat (first | exact List.mem_cons_self | apply List.mem_cons_of_mem))).1
      subst hW
      exact g
    · have g := (h2 (10, q7, .inl (xI E, 300, .inl (fun _ => 0))) (by rw [hW]; repeat (first | exact List.mem_cons_self | apply List.mem_cons_of_mem))).1
      subst hW
      exact g
    · have g := (h2 (11, q8, .inl (xI E, 1800, .inl (fun _ => 0))) (by rw [hW]; repeat (first | exact List.mem_cons_self | apply List.mem_cons_of_mem))).1
      subst hW
      exact g
    · have g := (h2 (15, q9, .inl (xI E, 5, .inl (fun _ => 0))) (by rw [hW]; repeat (first | exact List.mem_cons_self | apply List.mem_cons_of_mem))).1
      subst hW
      exact g
    · have g := (h2 (16, q10, .inl (xI E, 5, .inl (fun _ => 0))) (by rw [hW]; repeat (first | exact List.mem_cons_self | apply List.mem_cons_of_mem))).1
      subst hW
      exact g
    · have g := (h2 (17, q11, .inl (xI E, 5, .inl (fun _ => 0))) (by rw [hW]; repeat (first | exact List.mem_cons_self | apply List.mem_cons_of_mem))).1
      subst hW
      exact g
    · have g := (h2 (18, q12, .inl (xI E, 5, .inl (fun _ => 0))) (by rw [hW]; repeat (first | exact List.mem_cons_self | apply List.mem_cons_of_mem))).1
      subst hW
      exact g
    · have g := (h2 (19, q13, .inl (xI E, 5, .inl (fun _ => 0))) (by rw [hW]; repeat (first | exact List.mem_cons_self | apply List.mem_cons_of_mem))).1
      subst hW
      exact g
    · have g := (h2 (20, q14, .inl (xI E, 5, .inl (fun _ => 0))) (by rw [hW]; repeat (first | exact List.mem_cons_self | apply List.mem_cons_of_mem))).1
      subst hW
      exact g
  · simp only [nZa, List.mem_cons, List.not_mem_nil, or_false] at hq
    rcases hq with rfl | rfl | rfl | rfl | rfl
    · have g := (h2 (3, q3, .inl (xZ E, 6, .inl (fun _ => 0))) (by rw [hW]; repeat (first | exact List.mem_cons_self | apply List.mem_cons_of_mem))).1
      subst hW
      exact g
    · have g := (h2 (4, q4, .inl (xZ E, 6, .inl (fun _ => 0))) (by rw [hW]; repeat (first | exact List.mem_cons_self | apply List.mem_cons_of_mem))).1
      subst hW
      exact g
    · have g := (h2 (24, q18, .inl (xZ E, 5, .inl (fun _ => 0))) (by rw [hW]; repeat (first | exact List.mem_cons_self | apply List.mem_cons_of_mem))).1
      subst hW
      exact g
    · have g := (h2 (25, q19, .inl (xZ E, 5, .inl (fun _ => 0))) (by rw [hW]; repeat (first | exact List.mem_cons_self | apply List.mem_cons_of_mem))).1
      subst hW
      exact g
    · have g := (h2 (26, q20, .inl (xZ E, 5, .inl (fun _ => 0))) (by rw [hW]; repeat (first | exact List.mem_cons_self | apply List.mem_cons_of_mem))).1
      subst hW
      exact g
  · simp only [nJa, List.mem_cons, List.not_mem_nil, or_false] at hq
    rcases hq with rfl | rfl | rfl | rfl | rfl
    · have g := (h2 (5, q5, .inl (xJ E, 6, .inr (.inl (fun _ => 0)))) (by rw [hW]; repeat (first | exact List.mem_cons_self | apply List.mem_cons_of_mem))).1
      subst hW
      exact g
    · have g := (h2 (9, q6, .inl (xJ E, 300, .inr (.inl (fun _ => 0)))) (by rw [hW]; repeat (first | exact List.mem_cons_self | apply List.mem_cons_of_mem))).1
      subst hW
      exact g
    · have g := (h2 (21, q15, .inl (xJ E, 5, .inr (.inl (fun _ => 0)))) (by rw [hW]; repeat (first | exact List.mem_cons_self | apply List.mem_cons_of_mem))).1
      subst hW
      exact g
    · have g := (h2 (22, q16, .inl (xJ E, 5, .inr (.inl (fun _ => 0)))) (by rw [hW]; repeat (first | exact List.mem_cons_self | apply List.mem_cons_of_mem))).1
      subst hW
      exact g
    · have g := (h2 (23, q17, .inl (xJ E, 5, .inr (.inl (fun _ => 0)))) (by rw [hW]; repeat (first | exact List.mem_cons_self | apply List.mem_cons_of_mem))).1
      subst hW
      exact g
set_option maxRecDepth 4000 in
set_option maxHeartbeats 800000 in
theorem q_MD_init (l : Launch) (E : xE) {G : xw_G} {md : Nat} (hX : G md = some (.inr (5, [.int 0, .null, .null, .null, .null, .null, .int 0, .int 0, .int 0, .null, .null, .null, .int 0, .int 0, .int 0, .null, .null, .null, .null, .null, .null, .null, .null, .null, .null, .null, .null, .int 0, .long 0]))) : XMk l E y_MD_init w_MD_init rm_MD_init [.ref md] G (fun r G' => r = none ∧ (∃ a, xMD E G' md a μ0) ∧ xFc G G') 20 2490 := by
  refine XM_of [some (.ref md)] (XZ_st E) (by decide) rfl rfl rfl (Nat.le_of_ble_eq_true rfl) (fun p e s m below meth c C hnm => ?_)
  have hP : xMP G md [] [.int 0, .null, .null, .null, .null, .null, .int 0, .int 0, .int 0, .null, .null, .null, .int 0, .int 0, .int 0, .null, .null, .null, .null, .null, .null, .null, .null, .null, .null, .null, .null, .int 0, .long 0] := ⟨hX, (fun _ h => by cases h), List.nodup_nil⟩
  refine x_aload_n C d_MD_init_0 rfl rfl ?_
  refine x_objInit C (List.mem_cons_of_mem _ m_MD_1) (List.mem_cons_of_mem _ ki_OB_init) (List.mem_cons_of_mem _ kc_OB_init) rfl d_MD_init_1 (Nat.le_of_ble_eq_true rfl) (Nat.le_of_ble_eq_true rfl) ?_
  refine x_aload_n C d_MD_init_4 rfl rfl ?_
  refine x_bipush C (v := 6) d_MD_init_5 (by decide) ?_
  refine x_newa_i C 1 rfl (List.mem_cons_of_mem _ ka_int) (by decide) (N' := 6) rfl (by decide) (Nat.le_of_ble_eq_true rfl) (Nat.le_of_ble_eq_true rfl) d_MD_init_7 (fun q1 hq1 hBq1 => ?_)
  refine x_putF C (xw_keep hP.1 (xw_neF hq1 hP.1)) rfl (in_MD _) ty_MD tok_MD nm_MD 1 (by decide) (List.mem_cons_of_mem _ f_MD_7) rfl hnm rfl (tok_MD 1 (by decide)) rfl rfl (Nat.le_of_ble_eq_true rfl) d_MD_init_9 ?_
  refine x_genG (P := fun X => xMP X md [(1, q1, .inl (xI E, 6, .inl (fun _ => 0)))] [.int 0, .ref q1, .null, .null, .null, .null, .int 0, .int 0, .int 0, .null, .null, .null, .int 0, .int 0, .int 0, .null, .null, .null, .null, .null, .null, .null, .null, .null, .null, .null, .null, .int 0, .long 0] ∧ xFc G X) ⟨xMP_mk hP hq1, xFc_mk hP xFc.rf hq1⟩ (fun G1 hP1 => ?_)
  refine x_aload_n C d_MD_init_12 rfl rfl ?_
  refine x_bipush C (v := 6) d_MD_init_13 (by decide) ?_
  refine x_newa_i C 1 rfl (List.mem_cons_of_mem _ ka_int) (by decide) (N' := 6) rfl (by decide) (Nat.le_of_ble_eq_true rfl) (Nat.le_of_ble_eq_true rfl) d_MD_init_15 (fun q2 hq2 hBq2 => ?_)
  refine x_putF C (xw_keep hP1.1.1 (xw_neF hq2 hP1.1.1)) rfl (in_MD _) ty_MD tok_MD nm_MD 2 (by decide) (List.mem_cons_of_mem _ f_MD_13) rfl hnm rfl (tok_MD 2 (by decide)) rfl rfl (Nat.le_of_ble_eq_true rfl) d_MD_init_17 ?_
  refine x_genG (P := fun X => xMP X md [(2, q2, .inl (xI E, 6, .inl (fun _ => 0))), (1, q1, .inl (xI E, 6, .inl (fun _ => 0)))] [.int 0, .ref q1, .ref q2, .null, .null, .null, .int 0, .int 0, .int 0, .null, .null, .null, .int 0, .int 0, .int 0, .null, .null, .null, .null, .null, .null, .null, .null, .null, .null, .null, .null, .int 0, .long 0] ∧ xFc G X) ⟨xMP_mk hP1.1 hq2, xFc_mk hP1.1 hP1.2 hq2⟩ (fun G2 hP2 => ?_)
  refine x_aload_n C d_MD_init_20 rfl rfl ?_
  refine x_bipush C (v := 6) d_MD_init_21 (by decide) ?_
  refine x_newa_z C 2 rfl (List.mem_cons_of_mem _ ka_boolean) (by decide) (N' := 6) rfl (by decide) (Nat.le_of_ble_eq_true rfl) (Nat.le_of_ble_eq_true rfl) d_MD_init_23 (fun q3 hq3 hBq3 => ?_)
  refine x_putF C (xw_keep hP2.1.1 (xw_neF hq3 hP2.1.1)) rfl (in_MD _) ty_MD tok_MD nm_MD 3 (by decide) (List.mem_cons_of_mem _ f_MD_16) rfl hnm rfl (tok_MD 3 (by decide)) rfl rfl (Nat.le_of_ble_eq_true rfl) d_MD_init_25 ?_
  refine x_genG (P := fun X => xMP X md [(3, q3, .inl (xZ E, 6, .inl (fun _ => 0))), (2, q2, .inl (xI E, 6, .inl (fun _ => 0))), (1, q1, .inl (xI E, 6, .inl (fun _ => 0)))] [.int 0, .ref q1, .ref q2, .ref q3, .null, .null, .int 0, .int 0, .int 0, .null, .null, .null, .int 0, .int 0, .int 0, .null, .null, .null, .null, .null, .null, .null, .null, .null, .null, .null, .null, .int 0, .long 0] ∧ xFc G X) ⟨xMP_mk hP2.1 hq3, xFc_mk hP2.1 hP2.2 hq3⟩ (fun G3 hP3 => ?_)
  refine x_aload_n C d_MD_init_28 rfl rfl ?_
  refine x_bipush C (v := 6) d_MD_init_29 (by decide) ?_
  refine x_newa_z C 2 rfl (List.mem_cons_of_mem _ ka_boolean) (by decide) (N' := 6) rfl (by decide) (Nat.le_of_ble_eq_true rfl) (Nat.le_of_ble_eq_true rfl) d_MD_init_31 (fun q4 hq4 hBq4 => ?_)
  refine x_putF C (xw_keep hP3.1.1 (xw_neF hq4 hP3.1.1)) rfl (in_MD _) ty_MD tok_MD nm_MD 4 (by decide) (List.mem_cons_of_mem _ f_MD_20) rfl hnm rfl (tok_MD 4 (by decide)) rfl rfl (Nat.le_of_ble_eq_true rfl) d_MD_init_33 ?_
  refine x_genG (P := fun X => xMP X md [(4, q4, .inl (xZ E, 6, .inl (fun _ => 0))), (3, q3, .inl (xZ E, 6, .inl (fun _ => 0))), (2, q2, .inl (xI E, 6, .inl (fun _ => 0))), (1, q1, .inl (xI E, 6, .inl (fun _ => 0)))] [.int 0, .ref q1, .ref q2, .ref q3, .ref q4, .null, .int 0, .int 0, .int 0, .null, .null, .null, .int 0, .int 0, .int 0, .null, .null, .null, .null, .null, .null, .null, .null, .null, .null, .null, .null, .int 0, .long 0] ∧ xFc G X) ⟨xMP_mk hP3.1 hq4, xFc_mk hP3.1 hP3.2 hq4⟩ (fun G4 hP4 => ?_)
  refine x_aload_n C d_MD_init_36 rfl rfl ?_
  refine x_bipush C (v := 6) d_MD_init_37 (by decide) ?_
  refine x_newa_l C 3 rfl (List.mem_cons_of_mem _ ka_long) (by decide) (N' := 6) rfl (by decide) (Nat.le_of_ble_eq_true rfl) (Nat.le_of_ble_eq_true rfl) d_MD_init_39 (fun q5 hq5 hBq5 => ?_)
  refine x_putF C (xw_keep hP4.1.1 (xw_neF hq5 hP4.1.1)) rfl (in_MD _) ty_MD tok_MD nm_MD 5 (by decide) (List.mem_cons_of_mem _ f_MD_23) rfl hnm rfl (tok_MD 5 (by decide)) rfl rfl (Nat.le_of_ble_eq_true rfl) d_MD_init_41 ?_
  refine x_genG (P := fun X => xMP X md [(5, q5, .inl (xJ E, 6, .inr (.inl (fun _ => 0)))), (4, q4, .inl (xZ E, 6, .inl (fun _ => 0))), (3, q3, .inl (xZ E, 6, .inl (fun _ => 0))), (2, q2, .inl (xI E, 6, .inl (fun _ => 0))), (1, q1, .inl (xI E, 6, .inl (fun _ => 0)))] [.int 0, .ref q1, .ref q2, .ref q3, .ref q4, .ref q5, .int 0, .int 0, .int 0, .null, .null, .null, .int 0, .int 0, .int 0, .null, .null, .null, .null, .null, .null, .null, .null, .null, .null, .null, .null, .int 0, .long 0] ∧ xFc G X) ⟨xMP_mk hP4.1 hq5, xFc_mk hP4.1 hP4.2 hq5⟩ (fun G5 hP5 => ?_)
  refine x_aload_n C d_MD_init_44 rfl rfl ?_
  refine x_sipush C (v := 300) d_MD_init_45 (by decide) ?_
  refine x_newa_l C 3 rfl (List.mem_cons_of_mem _ ka_long) (by decide) (N' := 300) rfl (by decide) (Nat.le_of_ble_eq_true rfl) (Nat.le_of_ble_eq_true rfl) d_MD_init_48 (fun q6 hq6 hBq6 => ?_)
  refine x_putF C (xw_keep hP5.1.1 (xw_neF hq6 hP5.1.1)) rfl (in_MD _) ty_MD tok_MD nm_MD 9 (by decide) (List.mem_cons_of_mem _ f_MD_27) rfl hnm rfl (tok_MD 9 (by decide)) rfl rfl (Nat.le_of_ble_eq_true rfl) d_MD_init_50 ?_
  refine x_genG (P := fun X => xMP X md [(9, q6, .inl (xJ E, 300, .inr (.inl (fun _ => 0)))), (5, q5, .inl (xJ E, 6, .inr (.inl (fun _ => 0)))), (4, q4, .inl (xZ E, 6, .inl (fun _ => 0))), (3, q3, .inl (xZ E, 6, .inl (fun _ => 0))), (2, q2, .inl (xI E, 6, .inl (fun _ => 0))), (1, q1, .inl (xI E, 6, .inl (fun _ => 0)))] [.int 0, .ref q1, .ref q2, .ref q3, .ref q4, .ref q5, .int 0, .int 0, .int 0, .ref q6, .null, .null, .int 0, .int 0, .int 0, .null, .null, .null, .null, .null, .null, .null, .null, .null, .null, .null, .null, .int 0, .long 0] ∧ xFc G X) ⟨xMP_mk hP5.1 hq6, xFc_mk hP5.1 hP5.2 hq6⟩ (fun G6 hP6 => ?_)
  refine x_aload_n C d_MD_init_53 rfl rfl ?_
  refine x_sipush C (v := 300) d_MD_init_54 (by decide) ?_
  refine x_newa_i C 1 rfl (List.mem_cons_of_mem _ ka_int) (by decide) (N' := 300) rfl (by decide) (Nat.le_of_ble_eq_true rfl) (Nat.le_of_ble_eq_true rfl) d_MD_init_57 (fun q7 hq7 hBq7 => ?_)
  refine x_putF C (xw_keep hP6.1.1 (xw_neF hq7 hP6.1.1)) rfl (in_MD _) ty_MD tok_MD nm_MD 10 (by decide) (List.mem_cons_of_mem _ f_MD_30) rfl hnm rfl (tok_MD 10 (by decide)) rfl rfl (Nat.le_of_ble_eq_true rfl) d_MD_init_59 ?_
  refine x_genG (P := fun X => xMP X md [(10, q7, .inl (xI E, 300, .inl (fun _ => 0))), (9, q6, .inl (xJ E, 300, .inr (.inl (fun _ => 0)))), (5, q5, .inl (xJ E, 6, .inr (.inl (fun _ => 0)))), (4, q4, .inl (xZ E, 6, .inl (fun _ => 0))), (3, q3, .inl (xZ E, 6, .inl (fun _ => 0))), (2, q2, .inl (xI E, 6, .inl (fun _ => 0))), (1, q1, .inl (xI E, 6, .inl (fun _ => 0)))] [.int 0, .ref q1, .ref q2, .ref q3, .ref q4, .ref q5, .int 0, .int 0, .int 0, .ref q6, .ref q7, .null, .int 0, .int 0, .int 0, .null, .null, .null, .null, .null, .null, .null, .null, .null, .null, .null, .null, .int 0, .long 0] ∧ xFc G X) ⟨xMP_mk hP6.1 hq7, xFc_mk hP6.1 hP6.2 hq7⟩ (fun G7 hP7 => ?_)
  refine x_aload_n C d_MD_init_62 rfl rfl ?_
  refine x_sipush C (v := 1800) d_MD_init_63 (by decide) ?_
  refine x_newa_i C 1 rfl (List.mem_cons_of_mem _ ka_int) (by decide) (N' := 1800) rfl (by decide) (Nat.le_of_ble_eq_true rfl) (Nat.le_of_ble_eq_true rfl) d_MD_init_66 (fun q8 hq8 hBq8 => ?_)
  refine x_putF C (xw_keep hP7.1.1 (xw_neF hq8 hP7.1.1)) rfl (in_MD _) ty_MD tok_MD nm_MD 11 (by decide) (List.mem_cons_of_mem _ f_MD_33) rfl hnm rfl (tok_MD 11 (by decide)) rfl rfl (Nat.le_of_ble_eq_true rfl) d_MD_init_68 ?_
  refine x_genG (P := fun X => xMP X md [(11, q8, .inl (xI E, 1800, .inl (fun _ => 0))), (10, q7, .inl (xI E, 300, .inl (fun _ => 0))), (9, q6, .inl (xJ E, 300, .inr (.inl (fun _ => 0)))), (5, q5, .inl (xJ E, 6, .inr (.inl (fun _ => 0)))), (4, q4, .inl (xZ E, 6, .inl (fun _ => 0))), (3, q3, .inl (xZ E, 6, .inl (fun _ => 0))), (2, q2, .inl (xI E, 6, .inl (fun _ => 0))), (1, q1, .inl (xI E, 6, .inl (fun _ => 0)))] [.int 0, .ref q1, .ref q2, .ref q3, .ref q4, .ref q5, .int 0, .int 0, .int 0, .ref q6, .ref q7, .ref q8, .int 0, .int 0, .int 0, .null, .null, .null, .null, .null, .null, .null, .null, .null, .null, .null, .null, .int 0, .long 0] ∧ xFc G X) ⟨xMP_mk hP7.1 hq8, xFc_mk hP7.1 hP7.2 hq8⟩ (fun G8 hP8 => ?_)
  refine x_aload_n C d_MD_init_71 rfl rfl ?_
  refine x_iconst C (v := 5) d_MD_init_72 (by decide) ?_
  refine x_newa_i C 1 rfl (List.mem_cons_of_mem _ ka_int) (by decide) (N' := 5) rfl (by decide) (Nat.le_of_ble_eq_true rfl) (Nat.le_of_ble_eq_true rfl) d_MD_init_73 (fun q9 hq9 hBq9 => ?_)
  refine x_putF C (xw_keep hP8.1.1 (xw_neF hq9 hP8.1.1)) rfl (in_MD _) ty_MD tok_MD nm_MD 15 (by decide) (List.mem_cons_of_mem _ f_MD_36) rfl hnm rfl (tok_MD 15 (by decide)) rfl rfl (Nat.le_of_ble_eq_true rfl) d_MD_init_75 ?_
  refine x_genG (P := fun X => xMP X md [(15, q9, .inl (xI E, 5, .inl (fun _ => 0))), (11, q8, .inl (xI E, 1800, .inl (fun _ => 0))), (10, q7, .inl (xI E, 300, .inl (fun _ => 0))), (9, q6, .inl (xJ E, 300, .inr (.inl (fun _ => 0)))), (5, q5, .inl (xJ E, 6, .inr (.inl (fun _ => 0)))), (4, q4, .inl (xZ E, 6, .inl (fun _ => 0))), (3, q3, .inl (xZ E, 6, .inl (fun _ => 0))), (2, q2, .inl (xI E, 6, .inl (fun _ => 0))), (1, q1, .inl (xI E, 6, .inl (fun _ => 0)))] [.int 0, .ref q1, .ref q2, .ref q3, .ref q4, .ref q5, .int 0, .int 0, .int 0, .ref q6, .ref q7, .ref q8, .int 0, .int 0, .int 0, .ref q9, .null, .null, .null, .null, .null, .null, .null, .null, .null, .null, .null, .int 0, .long 0] ∧ xFc G X) ⟨xMP_mk hP8.1 hq9, xFc_mk hP8.1 hP8.2 hq9⟩ (fun G9 hP9 => ?_)
  refine x_aload_n C d_MD_init_78 rfl rfl ?_
  refine x_iconst C (v := 5) d_MD_init_79 (by decide) ?_
  refine x_newa_i C 1 rfl (List.mem_cons_of_mem _ ka_int) (by decide) (N' := 5) rfl (by decide) (Nat.le_of_ble_eq_true rfl) (Nat.le_of_ble_eq_true rfl) d_MD_init_80 (fun q10 hq10 hBq10 => ?_)
  refine x_putF C (xw_keep hP9.1.1 (xw_neF hq10 hP9.1.1)) rfl (in_MD _) ty_MD tok_MD nm_MD 16 (by decide) (List.mem_cons_of_mem _ f_MD_39) rfl hnm rfl (tok_MD 16 (by decide)) rfl rfl (Nat.le_of_ble_eq_true rfl) d_MD_init_82 ?_
  refine x_genG (P := fun X => xMP X md [(16, q10, .inl (xI E, 5, .inl (fun _ => 0))), (15, q9, .inl (xI E, 5, .inl (fun _ => 0))), (11, q8, .inl (xI E, 1800, .inl (fun _ => 0))), (10, q7, .inl (xI E, 300, .inl (fun _ => 0))), (9, q6, .inl (xJ E, 300, .inr (.inl (fun _ => 0)))), (5, q5, .inl (xJ E, 6, .inr (.inl (fun _ => 0)))), (4, q4, .inl (xZ E, 6, .inl (fun _ => 0))), (3, q3, .inl (xZ E, 6, .inl (fun _ => 0))), (2, q2, .inl (xI E, 6, .inl (fun _ => 0))), (1, q1, .inl (xI E, 6, .inl (fun _ => 0)))] [.int 0, .ref q1, .ref q2, .ref q3, .ref q4, .ref q5, .int 0, .int 0, .int 0, .ref q6, .ref q7, .ref q8, .int 0, .int 0, .int 0, .ref q9, .ref q10, .null, .null, .null, .null, .null, .null, .null, .null, .null, .null, .int 0, .long 0] ∧ xFc G X) ⟨xMP_mk hP9.1 hq10, xFc_mk hP9.1 hP9.2 hq10⟩ (fun G10 hP10 => ?_)
  refine x_aload_n C d_MD_init_85 rfl rfl ?_
  refine x_iconst C (v := 5) d_MD_init_86 (by decide) ?_
  refine x_newa_i C 1 rfl (List.mem_cons_of_mem _ ka_int) (by decide) (N' := 5) rfl (by decide) (Nat.le_of_ble_eq_true rfl) (Nat.le_of_ble_eq_true rfl) d_MD_init_87 (fun q11 hq11 hBq11 => ?_)
  refine x_putF C (xw_keep hP10.1.1 (xw_neF hq11 hP10.1.1)) rfl (in_MD _) ty_MD tok_MD nm_MD 17 (by decide) (List.mem_cons_of_mem _ f_MD_42) rfl hnm rfl (tok_MD 17 (by decide)) rfl rfl (Nat.le_of_ble_eq_true rfl) d_MD_init_89 ?_
  refine x_genG (P := fun X => xMP X md [(17, q11, .inl (xI E, 5, .inl (fun _ => 0))), (16, q10, .inl (xI E, 5, .inl (fun _ => 0))), (15, q9, .inl (xI E, 5, .inl (fun _ => 0))), (11, q8, .inl (xI E, 1800, .inl (fun _ => 0))), (10, q7, .inl (xI E, 300, .inl (fun _ => 0))), (9, q6, .inl (xJ E, 300, .inr (.inl (fun _ => 0)))), (5, q5, .inl (xJ E, 6, .inr (.inl (fun _ => 0)))), (4, q4, .inl (xZ E, 6, .inl (fun _ => 0))), (3, q3, .inl (xZ E, 6, .inl (fun _ => 0))), (2, q2, .inl (xI E, 6, .inl (fun _ => 0))), (1, q1, .inl (xI E, 6, .inl (fun _ => 0)))] [.int 0, .ref q1, .ref q2, .ref q3, .ref q4, .ref q5, .int 0, .int 0, .int 0, .ref q6, .ref q7, .ref q8, .int 0, .int 0, .int 0, .ref q9, .ref q10, .ref q11, .null, .null, .null, .null, .null, .null, .null, .null, .null, .int 0, .long 0] ∧ xFc G X) ⟨xMP_mk hP10.1 hq11, xFc_mk hP10.1 hP10.2 hq11⟩ (fun G11 hP11 => ?_)
  refine x_aload_n C d_MD_init_92 rfl rfl ?_
  refine x_iconst C (v := 5) d_MD_init_93 (by decide) ?_
  refine x_newa_i C 1 rfl (List.mem_cons_of_mem _ ka_int) (by decide) (N' := 5) rfl (by decide) (Nat.le_of_ble_eq_true rfl) (Nat.le_of_ble_eq_true rfl) d_MD_init_94 (fun q12 hq12 hBq12 => ?_)
  refine x_putF C (xw_keep hP11.1.1 (xw_neF hq12 hP11.1.1)) rfl (in_MD _) ty_MD tok_MD nm_MD 18 (by decide) (List.mem_cons_of_mem _ f_MD_45) rfl hnm rfl (tok_MD 18 (by decide)) rfl rfl (Nat.le_of_ble_eq_true rfl) d_MD_init_96 ?_
  refine x_genG (P := fun X => xMP X md [(18, q12, .inl (xI E, 5, .inl (fun _ => 0))), (17, q11, .inl (xI E, 5, .inl (fun _ => 0))), (16, q10, .inl (xI E, 5, .inl (fun _ => 0))), (15, q9, .inl (xI E, 5, .inl (fun _ => 0))), (11, q8, .inl (xI E, 1800, .inl (fun _ => 0))), (10, q7, .inl (xI E, 300, .inl (fun _ => 0))), (9, q6, .inl (xJ E, 300, .inr (.inl (fun _ => 0)))), (5, q5, .inl (xJ E, 6, .inr (.inl (fun _ => 0)))), (4, q4, .inl (xZ E, 6, .inl (fun _ => 0))), (3, q3, .inl (xZ E, 6, .inl (fun _ => 0))), (2, q2, .inl (xI E, 6, .inl (fun _ => 0))), (1, q1, .inl (xI E, 6, .inl (fun _ => 0)))] [.int 0, .ref q1, .ref q2, .ref q3, .ref q4, .ref q5, .int 0, .int 0, .int 0, .ref q6, .ref q7, .ref q8, .int 0, .int 0, .int 0, .ref q9, .ref q10, .ref q11, .ref q12, .null, .null, .null, .null, .null, .null, .null, .null, .int 0, .long 0] ∧ xFc G X) ⟨xMP_mk hP11.1 hq12, xFc_mk hP11.1 hP11.2 hq12⟩ (fun G12 hP12 => ?_)
  refine x_aload_n C d_MD_init_99 rfl rfl ?_
  refine x_iconst C (v := 5) d_MD_init_100 (by decide) ?_
  refine x_newa_i C 1 rfl (List.mem_cons_of_mem _ ka_int) (by decide) (N' := 5) rfl (by decide) (Nat.le_of_ble_eq_true rfl) (Nat.le_of_ble_eq_true rfl) d_MD_init_101 (fun q13 hq13 hBq13 => ?_)
  refine x_putF C (xw_keep hP12.1.1 (xw_neF hq13 hP12.1.1)) rfl (in_MD _) ty_MD tok_MD nm_MD 19 (by decide) (List.mem_cons_of_mem _ f_MD_48) rfl hnm rfl (tok_MD 19 (by decide)) rfl rfl (Nat.le_of_ble_eq_true rfl) d_MD_init_103 ?_
  refine x_genG (P := fun X => xMP X md [(19, q13, .inl (xI E, 5, .inl (fun _ => 0))), (18, q12, .inl (xI E, 5, .inl (fun _ => 0))), (17, q11, .inl (xI E, 5, .inl (fun _ => 0))), (16, q10, .inl (xI E, 5, .inl (fun _ => 0))), (15, q9, .inl (xI E, 5, .inl (fun _ => 0))), (11, q8, .inl (xI E, 1800, .inl (fun _ => 0))), (10, q7, .inl (xI E, 300, .inl (fun _ => 0))), (9, q6, .inl (xJ E, 300, .inr (.inl (fun _ => 0)))), (5, q5, .inl (xJ E, 6, .inr (.inl (fun _ => 0)))), (4, q4, .inl (xZ E, 6, .inl (fun _ => 0))), (3, q3, .inl (xZ E, 6, .inl (fun _ => 0))), (2, q2, .inl (xI E, 6, .inl (fun _ => 0))), (1, q1, .inl (xI E, 6, .inl (fun _ => 0)))] [.int 0, .ref q1, .ref q2, .ref q3, .ref q4, .ref q5, .int 0, .int 0, .int 0, .ref q6, .ref q7, .ref q8, .int 0, .int 0, .int 0, .ref q9, .ref q10, .ref q11, .ref q12, .ref q13, .null, .null, .null, .null, .null, .null, .null, .int 0, .long 0] ∧ xFc G X) ⟨xMP_mk hP12.1 hq13, xFc_mk hP12.1 hP12.2 hq13⟩ (fun G13 hP13 => ?_)
  refine x_aload_n C d_MD_init_106 rfl rfl ?_
  refine x_iconst C (v := 5) d_MD_init_107 (by decide) ?_
  refine x_newa_i C 1 rfl (List.mem_cons_of_mem _ ka_int) (by decide) (N' := 5) rfl (by decide) (Nat.le_of_ble_eq_true rfl) (Nat.le_of_ble_eq_true rfl) d_MD_init_108 (fun q14 hq14 hBq14 => ?_)
  refine x_putF C (xw_keep hP13.1.1 (xw_neF hq14 hP13.1.1)) rfl (in_MD _) ty_MD tok_MD nm_MD 20 (by decide) (List.mem_cons_of_mem _ f_MD_51) rfl hnm rfl (tok_MD 20 (by decide)) rfl rfl (Nat.le_of_ble_eq_true rfl) d_MD_init_110 ?_
  refine x_genG (P := fun X => xMP X md [(20, q14, .inl (xI E, 5, .inl (fun _ => 0))), (19, q13, .inl (xI E, 5, .inl (fun _ => 0))), (18, q12, .inl (xI E, 5, .inl (fun _ => 0))), (17, q11, .inl (xI E, 5, .inl (fun _ => 0))), (16, q10, .inl (xI E, 5, .inl (fun _ => 0))), (15, q9, .inl (xI E, 5, .inl (fun _ => 0))), (11, q8, .inl (xI E, 1800, .inl (fun _ => 0))), (10, q7, .inl (xI E, 300, .inl (fun _ => 0))), (9, q6, .inl (xJ E, 300, .inr (.inl (fun _ => 0)))), (5, q5, .inl (xJ E, 6, .inr (.inl (fun _ => 0)))), (4, q4, .inl (xZ E, 6, .inl (fun _ => 0))), (3, q3, .inl (xZ E, 6, .inl (fun _ => 0))), (2, q2, .inl (xI E, 6, .inl (fun _ => 0))), (1, q1, .inl (xI E, 6, .inl (fun _ => 0)))] [.int 0, .ref q1, .ref q2, .ref q3, .ref q4, .ref q5, .int 0, .int 0, .int 0, .ref q6, .ref q7, .ref q8, .int 0, .int 0, .int 0, .ref q9, .ref q10, .ref q11, .ref q12, .ref q13, .ref q14, .null, .null, .null, .null, .null, .null, .int 0, .long 0] ∧ xFc G X) ⟨xMP_mk hP13.1 hq14, xFc_mk hP13.1 hP13.2 hq14⟩ (fun G14 hP14 => ?_)
  refine x_aload_n C d_MD_init_113 rfl rfl ?_
  refine x_iconst C (v := 5) d_MD_init_114 (by decide) ?_
  refine x_newa_l C 3 rfl (List.mem_cons_of_mem _ ka_long) (by decide) (N' := 5) rfl (by decide) (Nat.le_of_ble_eq_true rfl) (Nat.le_of_ble_eq_true rfl) d_MD_init_115 (fun q15 hq15 hBq15 => ?_)
  refine x_putF C (xw_keep hP14.1.1 (xw_neF hq15 hP14.1.1)) rfl (in_MD _) ty_MD tok_MD nm_MD 21 (by decide) (List.mem_cons_of_mem _ f_MD_54) rfl hnm rfl (tok_MD 21 (by decide)) rfl rfl (Nat.le_of_ble_eq_true rfl) d_MD_init_117 ?_
  refine x_genG (P := fun X => xMP X md [(21, q15, .inl (xJ E, 5, .inr (.inl (fun _ => 0)))), (20, q14, .inl (xI E, 5, .inl (fun _ => 0))), (19, q13, .inl (xI E, 5, .inl (fun _ => 0))), (18, q12, .inl (xI E, 5, .inl (fun _ => 0))), (17, q11, .inl (xI E, 5, .inl (fun _ => 0))), (16, q10, .inl (xI E, 5, .inl (fun _ => 0))), (15, q9, .inl (xI E, 5, .inl (fun _ => 0))), (11, q8, .inl (xI E, 1800, .inl (fun _ => 0))), (10, q7, .inl (xI E, 300, .inl (fun _ => 0))), (9, q6, .inl (xJ E, 300, .inr (.inl (fun _ => 0)))), (5, q5, .inl (xJ E, 6, .inr (.inl (fun _ => 0)))), (4, q4, .inl (xZ E, 6, .inl (fun _ => 0))), (3, q3, .inl (xZ E, 6, .inl (fun _ => 0))), (2, q2, .inl (xI E, 6, .inl (fun _ => 0))), (1, q1, .inl (xI E, 6, .inl (fun _ => 0)))] [.int 0, .ref q1, .ref q2, .ref q3, .ref q4, .ref q5, .int 0, .int 0, .int 0, .ref q6, .ref q7, .ref q8, .int 0, .int 0, .int 0, .ref q9, .ref q10, .ref q11, .ref q12, .ref q13, .ref q14, .ref q15, .null, .null, .null, .null, .null, .int 0, .long 0] ∧ xFc G X) ⟨xMP_mk hP14.1 hq15, xFc_mk hP14.1 hP14.2 hq15⟩ (fun G15 hP15 => ?_)
  refine x_aload_n C d_MD_init_120 rfl rfl ?_
  refine x_iconst C (v := 5) d_MD_init_121 (by decide) ?_
  refine x_newa_l C 3 rfl (List.mem_cons_of_mem _ ka_long) (by decide) (N' := 5) rfl (by decide) (Nat.le_of_ble_eq_true rfl) (Nat.le_of_ble_eq_true rfl) d_MD_init_122 (fun q16 hq16 hBq16 => ?_)
  refine x_putF C (xw_keep hP15.1.1 (xw_neF hq16 hP15.1.1)) rfl (in_MD _) ty_MD tok_MD nm_MD 22 (by decide) (List.mem_cons_of_mem _ f_MD_57) rfl hnm rfl (tok_MD 22 (by decide)) rfl rfl (Nat.le_of_ble_eq_true rfl) d_MD_init_124 ?_
  refine x_genG (P := fun X => xMP X md [(22, q16, .inl (xJ E, 5, .inr (.inl (fun _ => 0)))), (21, q15, .inl (xJ E, 5, .inr (.inl (fun _ => 0)))), (20, q14, .inl (xI E, 5, .inl (fun _ => 0))), (19, q13, .inl (xI E, 5, .inl (fun _ => 0))), (18, q12, .inl (xI E, 5, .inl (fun _ => 0))), (17, q11, .inl (xI E, 5, .inl (fun _ => 0))), (16, q10, .inl (xI E, 5, .inl (fun _ => 0))), (15, q9, .inl (xI E, 5, .inl (fun _ => 0))), (11, q8, .inl (xI E, 1800, .inl (fun _ => 0))), (10, q7, .inl (xI E, 300, .inl (fun _ => 0))), (9, q6, .inl (xJ E, 300, .inr (.inl (fun _ => 0)))), (5, q5, .inl (xJ E, 6, .inr (.inl (fun _ => 0)))), (4, q4, .inl (xZ E, 6, .inl (fun _ => 0))), (3, q3, .inl (xZ E, 6, .inl (fun _ => 0))), (2, q2, .inl (xI E, 6, .inl (fun _ => 0))), (1, q1, .inl (xI E, 6, .inl (fun _ => 0)))] [.int 0, .ref q1, .ref q2, .ref q3, .ref q4, .ref q5, .int 0, .int 0, .int 0, .ref q6, .ref q7, .ref q8, .int 0, .int 0, .int 0, .ref q9, .ref q10, .ref q11, .ref q12, .ref q13, .ref q14, .ref q15, .ref q16, .null, .null, .null, .null, .int 0, .long 0] ∧ xFc G X) ⟨xMP_mk hP15.1 hq16, xFc_mk hP15.1 hP15.2 hq16⟩ (fun G16 hP16 => ?_)
  refine x_aload_n C d_MD_init_127 rfl rfl ?_
  refine x_iconst C (v := 5) d_MD_init_128 (by decide) ?_
  refine x_newa_l C 3 rfl (List.mem_cons_of_mem _ ka_long) (by decide) (N' := 5) rfl (by decide) (Nat.le_of_ble_eq_true rfl) (Nat.le_of_ble_eq_true rfl) d_MD_init_129 (fun q17 hq17 hBq17 => ?_)
  refine x_putF C (xw_keep hP16.1.1 (xw_neF hq17 hP16.1.1)) rfl (in_MD _) ty_MD tok_MD nm_MD 23 (by decide) (List.mem_cons_of_mem _ f_MD_60) rfl hnm rfl (tok_MD 23 (by decide)) rfl rfl (Nat.le_of_ble_eq_true rfl) d_MD_init_131 ?_
  refine x_genG (P := fun X => xMP X md [(23, q17, .inl (xJ E, 5, .inr (.inl (fun _ => 0)))), (22, q16, .inl (xJ E, 5, .inr (.inl (fun _ => 0)))), (21, q15, .inl (xJ E, 5, .inr (.inl (fun _ => 0)))), (20, q14, .inl (xI E, 5, .inl (fun _ => 0))), (19, q13, .inl (xI E, 5, .inl (fun _ => 0))), (18, q12, .inl (xI E, 5, .inl (fun _ => 0))), (17, q11, .inl (xI E, 5, .inl (fun _ => 0))), (16, q10, .inl (xI E, 5, .inl (fun _ => 0))), (15, q9, .inl (xI E, 5, .inl (fun _ => 0))), (11, q8, .inl (xI E, 1800, .inl (fun _ => 0))), (10, q7, .inl (xI E, 300, .inl (fun _ => 0))), (9, q6, .inl (xJ E, 300, .inr (.inl (fun _ => 0)))), (5, q5, .inl (xJ E, 6, .inr (.inl (fun _ => 0)))), (4, q4, .inl (xZ E, 6, .inl (fun _ => 0))), (3, q3, .inl (xZ E, 6, .inl (fun _ => 0))), (2, q2, .inl (xI E, 6, .inl (fun _ => 0))), (1, q1, .inl (xI E, 6, .inl (fun _ => 0)))] [.int 0, .ref q1, .ref q2, .ref q3, .ref q4, .ref q5, .int 0, .int 0, .int 0, .ref q6, .ref q7, .ref q8, .int 0, .int 0, .int 0, .ref q9, .ref q10, .ref q11, .ref q12, .ref q13, .ref q14, .ref q15, .ref q16, .ref q17, .null, .null, .null, .int 0, .long 0] ∧ xFc G X) ⟨xMP_mk hP16.1 hq17, xFc_mk hP16.1 hP16.2 hq17⟩ (fun G17 hP17 => ?_)
  refine x_aload_n C d_MD_init_134 rfl rfl ?_
  refine x_iconst C (v := 5) d_MD_init_135 (by decide) ?_
  refine x_newa_z C 2 rfl (List.mem_cons_of_mem _ ka_boolean) (by decide) (N' := 5) rfl (by decide) (Nat.le_of_ble_eq_true rfl) (Nat.le_of_ble_eq_true rfl) d_MD_init_136 (fun q18 hq18 hBq18 => ?_)
  refine x_putF C (xw_keep hP17.1.1 (xw_neF hq18 hP17.1.1)) rfl (in_MD _) ty_MD tok_MD nm_MD 24 (by decide) (List.mem_cons_of_mem _ f_MD_63) rfl hnm rfl (tok_MD 24 (by decide)) rfl rfl (Nat.le_of_ble_eq_true rfl) d_MD_init_138 ?_
  refine x_genG (P := fun X => xMP X md [(24, q18, .inl (xZ E, 5, .inl (fun _ => 0))), (23, q17, .inl (xJ E, 5, .inr (.inl (fun _ => 0)))), (22, q16, .inl (xJ E, 5, .inr (.inl (fun _ => 0)))), (21, q15, .inl (xJ E, 5, .inr (.inl (fun _ => 0)))), (20, q14, .inl (xI E, 5, .inl (fun _ => 0))), (19, q13, .inl (xI E, 5, .inl (fun _ => 0))), (18, q12, .inl (xI E, 5, .inl (fun _ => 0))), (17, q11, .inl (xI E, 5, .inl (fun _ => 0))), (16, q10, .inl (xI E, 5, .inl (fun _ => 0))), (15, q9, .inl (xI E, 5, .inl (fun _ => 0))), (11, q8, .inl (xI E, 1800, .inl (fun _ => 0))), (10, q7, .inl (xI E, 300, .inl (fun _ => 0))), (9, q6, .inl (xJ E, 300, .inr (.inl (fun _ => 0)))), (5, q5, .inl (xJ E, 6, .inr (.inl (fun _ => 0)))), (4, q4, .inl (xZ E, 6, .inl (fun _ => 0))), (3, q3, .inl (xZ E, 6, .inl (fun _ => 0))), (2, q2, .inl (xI E, 6, .inl (fun _ => 0))), (1, q1, .inl (xI E, 6, .inl (fun _ => 0)))] [.int 0, .ref q1, .ref q2, .ref q3, .ref q4, .ref q5, .int 0, .int 0, .int 0, .ref q6, .ref q7, .ref q8, .int 0, .int 0, .int 0, .ref q9, .ref q10, .ref q11, .ref q12, .ref q13, .ref q14, .ref q15, .ref q16, .ref q17, .ref q18, .null, .null, .int 0, .long 0] ∧ xFc G X) ⟨xMP_mk hP17.1 hq18, xFc_mk hP17.1 hP17.2 hq18⟩ (fun G18 hP18 => ?_)
  refine x_aload_n C d_MD_init_141 rfl rfl ?_
  refine x_iconst C (v := 5) d_MD_init_142 (by decide) ?_
  refine x_newa_z C 2 rfl (List.mem_cons_of_mem _ ka_boolean) (by decide) (N' := 5) rfl (by decide) (Nat.le_of_ble_eq_true rfl) (Nat.le_of_ble_eq_true rfl) d_MD_init_143 (fun q19 hq19 hBq19 => ?_)
  refine x_putF C (xw_keep hP18.1.1 (xw_neF hq19 hP18.1.1)) rfl (in_MD _) ty_MD tok_MD nm_MD 25 (by decide) (List.mem_cons_of_mem _ f_MD_66) rfl hnm rfl (tok_MD 25 (by decide)) rfl rfl (Nat.le_of_ble_eq_true rfl) d_MD_init_145 ?_
  refine x_genG (P := fun X => xMP X md [(25, q19, .inl (xZ E, 5, .inl (fun _ => 0))), (24, q18, .inl (xZ E, 5, .inl (fun _ => 0))), (23, q17, .inl (xJ E, 5, .inr (.inl (fun _ => 0)))), (22, q16, .inl (xJ E, 5, .inr (.inl (fun _ => 0)))), (21, q15, .inl (xJ E, 5, .inr (.inl (fun _ => 0)))), (20, q14, .inl (xI E, 5, .inl (fun _ => 0))), (19, q13, .inl (xI E, 5, .inl (fun _ => 0))), (18, q12, .inl (xI E, 5, .inl (fun _ => 0))), (17, q11, .inl (xI E, 5, .inl (fun _ => 0))), (16, q10, .inl (xI E, 5, .inl (fun _ => 0))), (15, q9, .inl (xI E, 5, .inl (fun _ => 0))), (11, q8, .inl (xI E, 1800, .inl (fun _ => 0))), (10, q7, .inl (xI E, 300, .inl (fun _ => 0))), (9, q6, .inl (xJ E, 300, .inr (.inl (fun _ => 0)))), (5, q5, .inl (xJ E, 6, .inr (.inl (fun _ => 0)))), (4, q4, .inl (xZ E, 6, .inl (fun _ => 0))), (3, q3, .inl (xZ E, 6, .inl (fun _ => 0))), (2, q2, .inl (xI E, 6, .inl (fun _ => 0))), (1, q1, .inl (xI E, 6, .inl (fun _ => 0)))] [.int 0, .ref q1, .ref q2, .ref q3, .ref q4, .ref q5, .int 0, .int 0, .int 0, .ref q6, .ref q7, .ref q8, .int 0, .int 0, .int 0, .ref q9, .ref q10, .ref q11, .ref q12, .ref q13, .ref q14, .ref q15, .ref q16, .ref q17, .ref q18, .ref q19, .null, .int 0, .long 0] ∧ xFc G X) ⟨xMP_mk hP18.1 hq19, xFc_mk hP18.1 hP18.2 hq19⟩ (fun G19 hP19 => ?_)
  refine x_aload_n C d_MD_init_148 rfl rfl ?_
  refine x_iconst C (v := 5) d_MD_init_149 (by decide) ?_
  refine x_newa_z C 2 rfl (List.mem_cons_of_mem _ ka_boolean) (by decide) (N' := 5) rfl (by decide) (Nat.le_of_ble_eq_true rfl) (Nat.le_of_ble_eq_true rfl) d_MD_init_150 (fun q20 hq20 hBq20 => ?_)
  refine x_putF C (xw_keep hP19.1.1 (xw_neF hq20 hP19.1.1)) rfl (in_MD _) ty_MD tok_MD nm_MD 26 (by decide) (List.mem_cons_of_mem _ f_MD_69) rfl hnm rfl (tok_MD 26 (by decide)) rfl rfl (Nat.le_of_ble_eq_true rfl) d_MD_init_152 ?_
  refine x_genG (P := fun X => xMP X md [(26, q20, .inl (xZ E, 5, .inl (fun _ => 0))), (25, q19, .inl (xZ E, 5, .inl (fun _ => 0))), (24, q18, .inl (xZ E, 5, .inl (fun _ => 0))), (23, q17, .inl (xJ E, 5, .inr (.inl (fun _ => 0)))), (22, q16, .inl (xJ E, 5, .inr (.inl (fun _ => 0)))), (21, q15, .inl (xJ E, 5, .inr (.inl (fun _ => 0)))), (20, q14, .inl (xI E, 5, .inl (fun _ => 0))), (19, q13, .inl (xI E, 5, .inl (fun _ => 0))), (18, q12, .inl (xI E, 5, .inl (fun _ => 0))), (17, q11, .inl (xI E, 5, .inl (fun _ => 0))), (16, q10, .inl (xI E, 5, .inl (fun _ => 0))), (15, q9, .inl (xI E, 5, .inl (fun _ => 0))), (11, q8, .inl (xI E, 1800, .inl (fun _ => 0))), (10, q7, .inl (xI E, 300, .inl (fun _ => 0))), (9, q6, .inl (xJ E, 300, .inr (.inl (fun _ => 0)))), (5, q5, .inl (xJ E, 6, .inr (.inl (fun _ => 0)))), (4, q4, .inl (xZ E, 6, .inl (fun _ => 0))), (3, q3, .inl (xZ E, 6, .inl (fun _ => 0))), (2, q2, .inl (xI E, 6, .inl (fun _ => 0))), (1, q1, .inl (xI E, 6, .inl (fun _ => 0)))] [.int 0, .ref q1, .ref q2, .ref q3, .ref q4, .ref q5, .int 0, .int 0, .int 0, .ref q6, .ref q7, .ref q8, .int 0, .int 0, .int 0, .ref q9, .ref q10, .ref q11, .ref q12, .ref q13, .ref q14, .ref q15, .ref q16, .ref q17, .ref q18, .ref q19, .ref q20, .int 0, .long 0] ∧ xFc G X) ⟨xMP_mk hP19.1 hq20, xFc_mk hP19.1 hP19.2 hq20⟩ (fun G20 hP20 => ?_)
  exact x_vret C (Nat.le_of_ble_eq_true rfl) (Nat.le_of_ble_eq_true rfl) d_MD_init_155 ⟨rfl, ⟨wlk [(26, q20, .inl (xZ E, 5, .inl (fun _ => 0))), (25, q19, .inl (xZ E, 5, .inl (fun _ => 0))), (24, q18, .inl (xZ E, 5, .inl (fun _ => 0))), (23, q17, .inl (xJ E, 5, .inr (.inl (fun _ => 0)))), (22, q16, .inl (xJ E, 5, .inr (.inl (fun _ => 0)))), (21, q15, .inl (xJ E, 5, .inr (.inl (fun _ => 0)))), (20, q14, .inl (xI E, 5, .inl (fun _ => 0))), (19, q13, .inl (xI E, 5, .inl (fun _ => 0))), (18, q12, .inl (xI E, 5, .inl (fun _ => 0))), (17, q11, .inl (xI E, 5, .inl (fun _ => 0))), (16, q10, .inl (xI E, 5, .inl (fun _ => 0))), (15, q9, .inl (xI E, 5, .inl (fun _ => 0))), (11, q8, .inl (xI E, 1800, .inl (fun _ => 0))), (10, q7, .inl (xI E, 300, .inl (fun _ => 0))), (9, q6, .inl (xJ E, 300, .inr (.inl (fun _ => 0)))), (5, q5, .inl (xJ E, 6, .inr (.inl (fun _ => 0)))), (4, q4, .inl (xZ E, 6, .inl (fun _ => 0))), (3, q3, .inl (xZ E, 6, .inl (fun _ => 0))), (2, q2, .inl (xI E, 6, .inl (fun _ => 0))), (1, q1, .inl (xI E, 6, .inl (fun _ => 0)))], md_init hP20.1 rfl⟩, hP20.2⟩
set_option maxRecDepth 4000 in
set_option maxHeartbeats 800000 in
theorem q_MD_scan_nk (l : Launch) (E : xE) {G : xw_G} {md : Nat} {a : Nat → Nat} {μ : MS} (hM : xMD E G md a μ) {j2 : Int32} (hj2 : mKy μ j2 = false) {z : Int32} : XMk l E y_MD_scan w_MD_scan rm_MD_scan [.ref md, .int (j2), .int (z)] G (fun r G' => r = some (.long (0)) ∧ xMD E G' md a (sS μ 0 0) ∧ xFc G G') 0 0 := by
  refine XM_of [some (.ref md), some (.int (j2)), some (.int (z)), none, none] (XZ_st E) (by decide) rfl rfl rfl (Nat.le_of_ble_eq_true rfl) (fun p e s m below meth c C hnm => ?_)
  refine x_aload_n C d_MD_scan_0 rfl rfl ?_
  refine x_iconst C (v := 0) d_MD_scan_1 (by decide) ?_
  refine x_mSp C hM 0 (by decide) (x := 0) f_MD_72 rfl rfl rfl d_MD_scan_2 (fun _ hMg1 hFg1 => ?_)
  refine x_aload_n C d_MD_scan_5 rfl rfl ?_
  refine x_iload_n C d_MD_scan_6 rfl rfl ?_
  refine x_callV1 C (q_MD_isKey l E hMg1) (lk_MD_88 C.hts (Nat.le_of_ble_eq_true rfl) (Nat.le_of_ble_eq_true rfl)) hMg1.1 rfl rfl d_MD_scan_7 (Nat.le_of_ble_eq_true rfl) (Nat.le_of_ble_eq_true rfl) (Nat.le_of_ble_eq_true rfl) (fun r G' h => ?_)
  obtain ⟨rfl, rfl⟩ : r = some (.int (bI (mKy μ (j2)))) ∧ _ = G' := h
  refine x_if_eq C 17 d_MD_scan_10 (by decide) (fun c_10 => ?_) (fun c_10 => ?_)
  · refine x_lconst C (v := 0) d_MD_scan_17 (by decide) ?_
    exact x_lret C (Nat.le_of_ble_eq_true rfl) (Nat.le_of_ble_eq_true rfl) d_MD_scan_18 ⟨rfl, hMg1, hFg1⟩
  · exact absurd (hj2.symm.trans (bI_1 c_10)) (by decide)
set_option maxRecDepth 4000 in
set_option maxHeartbeats 800000 in
theorem q_MD_scan_neg (l : Launch) (E : xE) {G : xw_G} {md : Nat} {a : Nat → Nat} {μ : MS} (hM : xMD E G md a μ) {k : Nat} (hk : k < 6) (hkv : mKy μ (nI k) = true) {z : Int32} (hz : z < 0) : XMk l E y_MD_scan w_MD_scan rm_MD_scan [.ref md, .int (nI k), .int (z)] G (fun r G' => r = some (.long (0)) ∧ xMD E G' md a (sS μ 0 0) ∧ xFc G G') 0 0 := by
  refine XM_of [some (.ref md), some (.int (nI k)), some (.int (z)), none, none] (XZ_st E) (by decide) rfl rfl rfl (Nat.le_of_ble_eq_true rfl) (fun p e s m below meth c C hnm => ?_)
  refine x_aload_n C d_MD_scan_0 rfl rfl ?_
  refine x_iconst C (v := 0) d_MD_scan_1 (by decide) ?_
  refine x_mSp C hM 0 (by decide) (x := 0) f_MD_72 rfl rfl rfl d_MD_scan_2 (fun _ hMg1 hFg1 => ?_)
  refine x_aload_n C d_MD_scan_5 rfl rfl ?_
  refine x_iload_n C d_MD_scan_6 rfl rfl ?_
  refine x_callV1 C (q_MD_isKey l E hMg1) (lk_MD_88 C.hts (Nat.le_of_ble_eq_true rfl) (Nat.le_of_ble_eq_true rfl)) hMg1.1 rfl rfl d_MD_scan_7 (Nat.le_of_ble_eq_true rfl) (Nat.le_of_ble_eq_true rfl) (Nat.le_of_ble_eq_true rfl) (fun r G' h => ?_)
  obtain ⟨rfl, rfl⟩ : r = some (.int (bI (mKy μ (nI k)))) ∧ _ = G' := h
  refine x_if_eq C 17 d_MD_scan_10 (by decide) (fun c_10 => ?_) (fun c_10 => ?_)
  · exact absurd (hkv.symm.trans ((bI_0 _).mp c_10)) (by decide)
  · refine x_iload_n C d_MD_scan_13 rfl rfl ?_
    refine x_if_ge C 19 d_MD_scan_14 (by decide) (fun c_14 => ?_) (fun c_14 => ?_)
    · exact absurd hz (Int32.not_lt.mpr c_14)
    · refine x_lconst C (v := 0) d_MD_scan_17 (by decide) ?_
      exact x_lret C (Nat.le_of_ble_eq_true rfl) (Nat.le_of_ble_eq_true rfl) d_MD_scan_18 ⟨rfl, hMg1, hFg1⟩
set_option maxRecDepth 4000 in
set_option maxHeartbeats 800000 in
theorem q_MD_scan (l : Launch) (E : xE) {G : xw_G} {md : Nat} {a : Nat → Nat} {μ : MS} (hM : xMD E G md a μ) {k : Nat} (hk : k < 6) (hkv : mKy μ (nI k) = true) {zz : Nat} (hzz : zz < 2 ^ 31) {rs : List Nat} (hr3 : ∀ n q : Nat, rs[n]? = some q → q < 300) (h0 : mAft μ k 0 0 true = rs[0]?) (hs : ∀ n q : Nat, rs[n]? = some q → mAft μ k (mF μ k (mJ μ 9 q)) (mRk μ k q) false = rs[n + 1]?) : XMk l E y_MD_scan w_MD_scan rm_MD_scan [.ref md, .int (nI k), .int (nI zz)] G (fun r G' => r = some (.long ((rs[zz]?).elim 0 (fun q => mJ μ 9 q))) ∧ xMD E G' md a (sS μ 0 0) ∧ xFc G G') 0 0 := by
  refine XM_of [some (.ref md), some (.int (nI k)), some (.int (nI zz)), none, none] (XZ_st E) (by decide) rfl rfl rfl (Nat.le_of_ble_eq_true rfl) (fun p e s m below meth c C hnm => ?_)
  have loop : ∀ (G1 : xw_G) (hM1 : xMD E G1 md a (sS μ 0 0)) (hF1 : xFc G G1) (n t : Nat), t + n = zz → XW p l e rm_MD_scan s m #[.ref md, .int (nI k), .int (nI zz)] below meth c (XQ below #[.ref md, .int (nI k), .int (nI zz)] s (xD E) xcl (xB E) (fun r G' => r = some (.long ((rs[zz]?).elim 0 (fun q => mJ μ 9 q))) ∧ xMD E G' md a (sS μ 0 0) ∧ xFc G G') 0 0) (xD E) xcl (xB E) 31 [some (.ref md), some (.int (nI k)), some (.int (nI zz)), some (.int (oI (rs[t]?))), some (.int (nI t))] [] G1 0 0 := by
    intro G1 hM1 hF1 n
    induction n with
    | zero =>
      intro t ht
      refine x_iload C d_MD_scan_31 rfl ?_
      refine x_iload_n C d_MD_scan_33 rfl rfl ?_
      refine x_icmp_ge C 72 d_MD_scan_34 (by decide) (fun c_34 => ?_) (fun c_34 => ?_)
      · have ht2 : t = zz := by omega
        subst ht2
        rcases hrt : rs[t]? with _ | q
        · have hq3 : True := trivial
          refine x_iload_n C d_MD_scan_72 rfl rfl ?_
          refine x_iconst C (v := -1) d_MD_scan_73 (by decide) ?_
          refine x_icmp_ne C 81 d_MD_scan_74 (by decide) (fun c_74 => ?_) (fun c_74 => ?_)
          · exact absurd c_74 (by decide)
          · refine x_lconst C (v := 0) d_MD_scan_77 (by decide) ?_
            refine x_goto C 87 d_MD_scan_78 (by decide) ?_
            exact x_lret C (Nat.le_of_ble_eq_true rfl) (Nat.le_of_ble_eq_true rfl) d_MD_scan_87 ⟨rfl, hM1, hF1⟩
        · have hq3 := hr3 t q hrt
          refine x_iload_n C d_MD_scan_72 rfl rfl ?_
          refine x_iconst C (v := -1) d_MD_scan_73 (by decide) ?_
          refine x_icmp_ne C 81 d_MD_scan_74 (by decide) (fun c_74 => ?_) (fun c_74 => ?_)
          · refine x_aload_n C d_MD_scan_81 rfl rfl ?_
            refine x_get C hM1.1 rfl (in_MD _) 9 (by decide) (List.mem_cons_of_mem _ f_MD_27) rfl d_MD_scan_82 ?_
            refine x_iload_n C d_MD_scan_85 rfl rfl ?_
            refine x_mJv C hM1 9 300 kJ_9 rfl (j := q) (by omega) (mJ μ 9 q) rfl d_MD_scan_86 ?_
            exact x_lret C (Nat.le_of_ble_eq_true rfl) (Nat.le_of_ble_eq_true rfl) d_MD_scan_87 ⟨rfl, hM1, hF1⟩
          · exact absurd c_74 (nI_m1 (by omega))
      · exact absurd (nI_le (by omega) (by omega)) c_34
    | succ n ih =>
      intro t ht
      refine x_iload C d_MD_scan_31 rfl ?_
      refine x_iload_n C d_MD_scan_33 rfl rfl ?_
      refine x_icmp_ge C 72 d_MD_scan_34 (by decide) (fun c_34 => ?_) (fun c_34 => ?_)
      · exact absurd c_34 (nI_ge (by omega) (by omega))
      · rcases hrt : rs[t]? with _ | q
        · have hq3 : True := trivial
          refine x_iload_n C d_MD_scan_37 rfl rfl ?_
          refine x_iconst C (v := -1) d_MD_scan_38 (by decide) ?_
          refine x_icmp_eq C 72 d_MD_scan_39 (by decide) (fun c_39 => ?_) (fun c_39 => ?_)
          · refine x_iload_n C d_MD_scan_72 rfl rfl ?_
            refine x_iconst C (v := -1) d_MD_scan_73 (by decide) ?_
            refine x_icmp_ne C 81 d_MD_scan_74 (by decide) (fun c_74 => ?_) (fun c_74 => ?_)
            · exact absurd c_74 (by decide)
            · refine x_lconst C (v := 0) d_MD_scan_77 (by decide) ?_
              refine x_goto C 87 d_MD_scan_78 (by decide) ?_
              exact x_lret C (Nat.le_of_ble_eq_true rfl) (Nat.le_of_ble_eq_true rfl) d_MD_scan_87 ⟨by rw [show rs[zz]? = none from by rw [List.getElem?_eq_none_iff] at hrt ⊢; omega]; rfl, hM1, hF1⟩
          · exact absurd c_39 (by decide)
        · have hq3 := hr3 t q hrt
          refine x_iload_n C d_MD_scan_37 rfl rfl ?_
          refine x_iconst C (v := -1) d_MD_scan_38 (by decide) ?_
          refine x_icmp_eq C 72 d_MD_scan_39 (by decide) (fun c_39 => ?_) (fun c_39 => ?_)
          · exact absurd c_39 (nI_m1 (by omega))
          · refine x_aload_n C d_MD_scan_42 rfl rfl ?_
            refine x_iload_n C d_MD_scan_43 rfl rfl ?_
            refine x_aload_n C d_MD_scan_44 rfl rfl ?_
            refine x_iload_n C d_MD_scan_45 rfl rfl ?_
            refine x_aload_n C d_MD_scan_46 rfl rfl ?_
            refine x_get C hM1.1 rfl (in_MD _) 9 (by decide) (List.mem_cons_of_mem _ f_MD_27) rfl d_MD_scan_47 ?_
            refine x_iload_n C d_MD_scan_50 rfl rfl ?_
            refine x_mJv C hM1 9 300 kJ_9 rfl (j := q) (by omega) (mJ μ 9 q) rfl d_MD_scan_51 ?_
            refine x_callV2 C (q_MD_field l E hM1 (k := k) (by omega)) (lk_MD_98 C.hts (Nat.le_of_ble_eq_true rfl) (Nat.le_of_ble_eq_true rfl)) hM1.1 rfl rfl d_MD_scan_52 (Nat.le_of_ble_eq_true rfl) (Nat.le_of_ble_eq_true rfl) (Nat.le_of_ble_eq_true rfl) (fun r G' h => ?_)
            obtain ⟨rfl, rfl⟩ : r = some (.long (mF μ k (mJ μ 9 q))) ∧ _ = G' := h
            refine x_aload_n C d_MD_scan_55 rfl rfl ?_
            refine x_iload_n C d_MD_scan_56 rfl rfl ?_
            refine x_iload_n C d_MD_scan_57 rfl rfl ?_
            refine x_callV2 C (q_MD_rank l E hM1 (k := k) (sl := q) (by omega) (by omega)) (lk_MD_110 C.hts (Nat.le_of_ble_eq_true rfl) (Nat.le_of_ble_eq_true rfl)) hM1.1 rfl rfl d_MD_scan_58 (Nat.le_of_ble_eq_true rfl) (Nat.le_of_ble_eq_true rfl) (Nat.le_of_ble_eq_true rfl) (fun r G' h => ?_)
            obtain ⟨rfl, rfl⟩ : r = some (.int (mRk μ k q)) ∧ _ = G' := h
            refine x_iconst C (v := 0) d_MD_scan_61 (by decide) ?_
            refine x_callV4 C (q_MD_after l E hM1 (k := k) (th := false) (by omega)) (lk_MD_133 C.hts (Nat.le_of_ble_eq_true rfl) (Nat.le_of_ble_eq_true rfl)) hM1.1 rfl rfl d_MD_scan_62 (Nat.le_of_ble_eq_true rfl) (Nat.le_of_ble_eq_true rfl) (Nat.le_of_ble_eq_true rfl) (fun r G' h => ?_)
            obtain ⟨rfl, rfl⟩ : r = some (.int (oI (mAft μ k (mF μ k (mJ μ 9 q)) (mRk μ k q) false))) ∧ _ = G' := h
            rw [hs t q hrt]
            refine x_istore_n C d_MD_scan_65 rfl (Nat.le_of_ble_eq_true rfl) rfl ?_
            refine x_iinc C d_MD_scan_66 rfl rfl rfl ?_
            refine x_goto C 31 d_MD_scan_69 (by decide) ?_
            rw [show nI t + Int32.ofInt 1 = nI (t + 1) from nI_1 t]
            exact ih (t + 1) (by omega)
  refine x_aload_n C d_MD_scan_0 rfl rfl ?_
  refine x_iconst C (v := 0) d_MD_scan_1 (by decide) ?_
  refine x_mSp C hM 0 (by decide) (x := 0) f_MD_72 rfl rfl rfl d_MD_scan_2 (fun _ hMg1 hFg1 => ?_)
  refine x_aload_n C d_MD_scan_5 rfl rfl ?_
  refine x_iload_n C d_MD_scan_6 rfl rfl ?_
  refine x_callV1 C (q_MD_isKey l E hMg1) (lk_MD_88 C.hts (Nat.le_of_ble_eq_true rfl) (Nat.le_of_ble_eq_true rfl)) hMg1.1 rfl rfl d_MD_scan_7 (Nat.le_of_ble_eq_true rfl) (Nat.le_of_ble_eq_true rfl) (Nat.le_of_ble_eq_true rfl) (fun r G' h => ?_)
  obtain ⟨rfl, rfl⟩ : r = some (.int (bI (mKy μ (nI k)))) ∧ _ = G' := h
  refine x_if_eq C 17 d_MD_scan_10 (by decide) (fun c_10 => ?_) (fun c_10 => ?_)
  · exact absurd (hkv.symm.trans ((bI_0 _).mp c_10)) (by decide)
  · refine x_iload_n C d_MD_scan_13 rfl rfl ?_
    refine x_if_ge C 19 d_MD_scan_14 (by decide) (fun c_14 => ?_) (fun c_14 => ?_)
    · refine x_aload_n C d_MD_scan_19 rfl rfl ?_
      refine x_iload_n C d_MD_scan_20 rfl rfl ?_
      refine x_lconst C (v := 0) d_MD_scan_21 (by decide) ?_
      refine x_iconst C (v := 0) d_MD_scan_22 (by decide) ?_
      refine x_iconst C (v := 1) d_MD_scan_23 (by decide) ?_
      refine x_callV4 C (q_MD_after l E hMg1 (k := k) (th := true) (by omega)) (lk_MD_133 C.hts (Nat.le_of_ble_eq_true rfl) (Nat.le_of_ble_eq_true rfl)) hMg1.1 rfl rfl d_MD_scan_24 (Nat.le_of_ble_eq_true rfl) (Nat.le_of_ble_eq_true rfl) (Nat.le_of_ble_eq_true rfl) (fun r G' h => ?_)
      obtain ⟨rfl, rfl⟩ : r = some (.int (oI (mAft μ k (0) (0) true))) ∧ _ = G' := h
      refine x_istore_n C d_MD_scan_27 rfl (Nat.le_of_ble_eq_true rfl) rfl ?_
      refine x_iconst C (v := 0) d_MD_scan_28 (by decide) ?_
      refine x_istore C d_MD_scan_29 (Nat.le_of_ble_eq_true rfl) rfl ?_
      rw [h0]
      rw [← nI_0]
      exact loop _ hMg1 (hFg1) zz 0 (by omega)
    · exact absurd (Int32.not_le.mp c_14) (nI_pos hzz)
set_option maxRecDepth 4000 in
set_option maxHeartbeats 800000 in
theorem q_MD_write_nv (l : Launch) (E : xE) {G : xw_G} {md : Nat} {a : Nat → Nat} {μ : MS} (hM : xMD E G md a μ) {j : Int32} (hj : mVw μ j = false) {x : Int64} : XMk l E y_MD_write w_MD_write rm_MD_write [.ref md, .int (j), .long (x)] G (fun r G' => r = some (.int (-1)) ∧ xMD E G' md a (sS μ 0 0) ∧ xFc G G') 0 0 := by
  refine XM_of [some (.ref md), some (.int (j)), some (.long (x)), none, none, none, none, none] (XZ_st E) (by decide) rfl rfl rfl (Nat.le_of_ble_eq_true rfl) (fun p e s m below meth c C hnm => ?_)
  refine x_aload_n C d_MD_write_0 rfl rfl ?_
  refine x_iconst C (v := 0) d_MD_write_1 (by decide) ?_
  refine x_mSp C hM 0 (by decide) (x := 0) f_MD_72 rfl rfl rfl d_MD_write_2 (fun _ hMg1 hFg1 => ?_)
  refine x_aload_n C d_MD_write_5 rfl rfl ?_
  refine x_iload_n C d_MD_write_6 rfl rfl ?_
  refine x_callV1 C (q_MD_isView l E hMg1) (lk_MD_92 C.hts (Nat.le_of_ble_eq_true rfl) (Nat.le_of_ble_eq_true rfl)) hMg1.1 rfl rfl d_MD_write_7 (Nat.le_of_ble_eq_true rfl) (Nat.le_of_ble_eq_true rfl) (Nat.le_of_ble_eq_true rfl) (fun r G' h => ?_)
  obtain ⟨rfl, rfl⟩ : r = some (.int (bI (mVw μ (j)))) ∧ _ = G' := h
  refine x_if_ne C 15 d_MD_write_10 (by decide) (fun c_10 => ?_) (fun c_10 => ?_)
  · exact absurd (hj.symm.trans (bI_1 c_10)) (by decide)
  · refine x_iconst C (v := -1) d_MD_write_13 (by decide) ?_
    exact x_iret C (Nat.le_of_ble_eq_true rfl) (Nat.le_of_ble_eq_true rfl) d_MD_write_14 ⟨rfl, hMg1, hFg1⟩
set_option maxRecDepth 4000 in
set_option maxHeartbeats 800000 in
theorem q_MD_write_ref (l : Launch) (E : xE) {G : xw_G} {md : Nat} {a : Nat → Nat} {μ : MS} (hM : xMD E G md a μ) {i : Nat} (hi : i < 5) (hv : mVw μ (nI i) = true) {x : Int64} (hr : ¬ refWrite (mZ μ 24 i) (mI μ 15 i) (mI μ 16 i) = 0) : XMk l E y_MD_write w_MD_write rm_MD_write [.ref md, .int (nI i), .long (x)] G (fun r G' => r = some (.int (refWrite (mZ μ 24 i) (mI μ 15 i) (mI μ 16 i))) ∧ xMD E G' md a (sS μ 0 0) ∧ xFc G G') 0 0 := by
  refine XM_of [some (.ref md), some (.int (nI i)), some (.long (x)), none, none, none, none, none] (XZ_st E) (by decide) rfl rfl rfl (Nat.le_of_ble_eq_true rfl) (fun p e s m below meth c C hnm => ?_)
  refine x_aload_n C d_MD_write_0 rfl rfl ?_
  refine x_iconst C (v := 0) d_MD_write_1 (by decide) ?_
  refine x_mSp C hM 0 (by decide) (x := 0) f_MD_72 rfl rfl rfl d_MD_write_2 (fun _ hMg1 hFg1 => ?_)
  refine x_aload_n C d_MD_write_5 rfl rfl ?_
  refine x_iload_n C d_MD_write_6 rfl rfl ?_
  refine x_callV1 C (q_MD_isView l E hMg1) (lk_MD_92 C.hts (Nat.le_of_ble_eq_true rfl) (Nat.le_of_ble_eq_true rfl)) hMg1.1 rfl rfl d_MD_write_7 (Nat.le_of_ble_eq_true rfl) (Nat.le_of_ble_eq_true rfl) (Nat.le_of_ble_eq_true rfl) (fun r G' h => ?_)
  obtain ⟨rfl, rfl⟩ : r = some (.int (bI (mVw μ (nI i)))) ∧ _ = G' := h
  refine x_if_ne C 15 d_MD_write_10 (by decide) (fun c_10 => ?_) (fun c_10 => ?_)
  · refine x_aload_n C d_MD_write_15 rfl rfl ?_
    refine x_get C hMg1.1 rfl (in_MD _) 24 (by decide) (List.mem_cons_of_mem _ f_MD_63) rfl d_MD_write_16 ?_
    refine x_iload_n C d_MD_write_19 rfl rfl ?_
    refine x_mZv C hMg1 24 5 kZ_24 rfl (j := i) (by omega) (mZ μ 24 i) rfl d_MD_write_20 ?_
    refine x_if_ne C 27 d_MD_write_21 (by decide) (fun c_21 => ?_) (fun c_21 => ?_)
    · refine x_aload_n C d_MD_write_27 rfl rfl ?_
      refine x_get C hMg1.1 rfl (in_MD _) 15 (by decide) (List.mem_cons_of_mem _ f_MD_36) rfl d_MD_write_28 ?_
      refine x_iload_n C d_MD_write_31 rfl rfl ?_
      refine x_mIv C hMg1 15 5 kI_15 rfl (j := i) (by omega) (mI μ 15 i) rfl d_MD_write_32 ?_
      refine x_if_eq C 55 d_MD_write_33 (by decide) (fun c_33 => ?_) (fun c_33 => ?_)
      · refine x_bipush C (v := 48) d_MD_write_55 (by decide) ?_
        exact x_iret C (Nat.le_of_ble_eq_true rfl) (Nat.le_of_ble_eq_true rfl) d_MD_write_57 ⟨congrArg some (congrArg Value.int (by clear C hnm hM; simp_all [refWrite, bI_0])), hMg1, hFg1⟩
      · refine x_aload_n C d_MD_write_36 rfl rfl ?_
        refine x_get C hMg1.1 rfl (in_MD _) 15 (by decide) (List.mem_cons_of_mem _ f_MD_36) rfl d_MD_write_37 ?_
        refine x_iload_n C d_MD_write_40 rfl rfl ?_
        refine x_mIv C hMg1 15 5 kI_15 rfl (j := i) (by omega) (mI μ 15 i) rfl d_MD_write_41 ?_
        refine x_iconst C (v := 2) d_MD_write_42 (by decide) ?_
        refine x_icmp_ne C 58 d_MD_write_43 (by decide) (fun c_43 => ?_) (fun c_43 => ?_)
        · exfalso
          clear C hnm hM
          simp_all [refWrite, bI_0]
        · refine x_aload_n C d_MD_write_46 rfl rfl ?_
          refine x_get C hMg1.1 rfl (in_MD _) 16 (by decide) (List.mem_cons_of_mem _ f_MD_39) rfl d_MD_write_47 ?_
          refine x_iload_n C d_MD_write_50 rfl rfl ?_
          refine x_mIv C hMg1 16 5 kI_16 rfl (j := i) (by omega) (mI μ 16 i) rfl d_MD_write_51 ?_
          refine x_if_ne C 58 d_MD_write_52 (by decide) (fun c_52 => ?_) (fun c_52 => ?_)
          · exfalso
            clear C hnm hM
            simp_all [refWrite, bI_0]
          · refine x_bipush C (v := 48) d_MD_write_55 (by decide) ?_
            exact x_iret C (Nat.le_of_ble_eq_true rfl) (Nat.le_of_ble_eq_true rfl) d_MD_write_57 ⟨congrArg some (congrArg Value.int (by clear C hnm hM; simp_all [refWrite, bI_0])), hMg1, hFg1⟩
    · refine x_bipush C (v := 42) d_MD_write_24 (by decide) ?_
      exact x_iret C (Nat.le_of_ble_eq_true rfl) (Nat.le_of_ble_eq_true rfl) d_MD_write_26 ⟨congrArg some (congrArg Value.int (by clear C hnm hM; simp_all [refWrite, bI_0])), hMg1, hFg1⟩
  · exact absurd (hv.symm.trans ((bI_0 _).mp c_10)) (by decide)
set_option maxRecDepth 4000 in
set_option maxHeartbeats 800000 in
theorem q_MD_write_21 (l : Launch) (E : xE) {G : xw_G} {md : Nat} {a : Nat → Nat} {μ : MS} (hM : xMD E G md a μ) {i : Nat} (hi : i < 5) (hv : mVw μ (nI i) = true) {x : Int64} (hr : refWrite (mZ μ 24 i) (mI μ 15 i) (mI μ 16 i) = 0) (ha : mI μ 16 i = 0) (hoo : mOo μ i (mF μ 0 x) = true) : XMk l E y_MD_write w_MD_write rm_MD_write [.ref md, .int (nI i), .long (x)] G (fun r G' => r = some (.int (21)) ∧ xMD E G' md a ((mFg (sS μ 0 0) i)) ∧ xFc G G') 0 0 := by
  refine XM_of [some (.ref md), some (.int (nI i)), some (.long (x)), none, none, none, none, none] (XZ_st E) (by decide) rfl rfl rfl (Nat.le_of_ble_eq_true rfl) (fun p e s m below meth c C hnm => ?_)
  have loop : ∀ (h3 : mI μ 15 i = 3) (r0 : Nat) (G1 : xw_G) (hM1 : xMD E G1 md a (mFg (sS μ 0 0) i)) (hF1 : xFc G G1) (n t : Nat) (v7 : Option Value), t + n = 300 → mFst (mOoR μ (mF μ 0 x)) n t = some r0 → XW p l e rm_MD_write s m #[.ref md, .int (nI i), .long (x)] below meth c (XQ below #[.ref md, .int (nI i), .long (x)] s (xD E) xcl (xB E) (fun r G' => r = some (.int (21)) ∧ xMD E G' md a ((mFg (sS μ 0 0) i)) ∧ xFc G G') 0 0) (xD E) xcl (xB E) 109 [some (.ref md), some (.int (nI i)), some (.long (x)), none, some (.long (mF μ 0 x)), none, some (.int (nI t)), v7] [] G1 0 0 := by
    intro h3 r0 G1 hM1 hF1 n
    induction n with
    | zero =>
      intro t v7 ht hi2
      cases hi2
    | succ n ih =>
      intro t v7 ht hi2
      refine x_iload C d_MD_write_109 rfl ?_
      refine x_sipush C (v := 300) d_MD_write_111 (by decide) ?_
      refine x_icmp_ge C 166 d_MD_write_114 (by decide) (fun c_114 => ?_) (fun c_114 => ?_)
      · exact absurd c_114 (nI_ge (a := t) (b := 300) (by omega) (by omega))
      · refine x_aload_n C d_MD_write_117 rfl rfl ?_
        refine x_get C hM1.1 rfl (in_MD _) 15 (by decide) (List.mem_cons_of_mem _ f_MD_36) rfl d_MD_write_118 ?_
        refine x_iload_n C d_MD_write_121 rfl rfl ?_
        refine x_mIv C hM1 15 5 kI_15 rfl (j := i) (by omega) (mI μ 15 i) rfl d_MD_write_122 ?_
        refine x_iconst C (v := 3) d_MD_write_123 (by decide) ?_
        refine x_icmp_ne C 166 d_MD_write_124 (by decide) (fun c_124 => ?_) (fun c_124 => ?_)
        · exact absurd h3 c_124
        · refine x_aload_n C d_MD_write_127 rfl rfl ?_
          refine x_get C hM1.1 rfl (in_MD _) 10 (by decide) (List.mem_cons_of_mem _ f_MD_30) rfl d_MD_write_128 ?_
          refine x_iload C d_MD_write_131 rfl ?_
          refine x_mIv C hM1 10 300 kI_10 rfl (j := t) (by omega) (mI μ 10 t) rfl d_MD_write_133 ?_
          refine x_if_le C 160 d_MD_write_134 (by decide) (fun c_134 => ?_) (fun c_134 => ?_)
          · refine x_iinc C d_MD_write_160 rfl rfl rfl ?_
            refine x_goto C 109 d_MD_write_163 (by decide) ?_
            rw [show nI t + Int32.ofInt 1 = nI (t + 1) from nI_1 t]
            exact ih (t + 1) _ (by omega) (mFst_n hi2 (by unfold mOoR; simp [Int32.not_lt.mpr c_134]))
          · refine x_aload_n C d_MD_write_137 rfl rfl ?_
            refine x_iconst C (v := 0) d_MD_write_138 (by decide) ?_
            refine x_aload_n C d_MD_write_139 rfl rfl ?_
            refine x_get C hM1.1 rfl (in_MD _) 9 (by decide) (List.mem_cons_of_mem _ f_MD_27) rfl d_MD_write_140 ?_
            refine x_iload C d_MD_write_143 rfl ?_
            refine x_mJv C hM1 9 300 kJ_9 rfl (j := t) (by omega) (mJ μ 9 t) rfl d_MD_write_145 ?_
            refine x_callV2 C (q_MD_field l E hM1 (k := 0) (by omega)) (lk_MD_98 C.hts (Nat.le_of_ble_eq_true rfl) (Nat.le_of_ble_eq_true rfl)) hM1.1 rfl rfl d_MD_write_146 (Nat.le_of_ble_eq_true rfl) (Nat.le_of_ble_eq_true rfl) (Nat.le_of_ble_eq_true rfl) (fun r G' h => ?_)
            obtain ⟨rfl, rfl⟩ : r = some (.long (mF μ 0 (mJ μ 9 t))) ∧ _ = G' := h
            refine x_lload C d_MD_write_149 rfl ?_
            refine x_callS2 C (q_MD_isLess l E) (lk_MD_106 C.hts (Nat.le_of_ble_eq_true rfl) (Nat.le_of_ble_eq_true rfl)) rfl d_MD_write_151 (Nat.le_of_ble_eq_true rfl) (Nat.le_of_ble_eq_true rfl) (Nat.le_of_ble_eq_true rfl) (fun r G' h => ?_)
            obtain ⟨rfl, rfl⟩ : r = some (.int (bI (mLs (mF μ 0 (mJ μ 9 t)) (mF μ 0 x)))) ∧ _ = G' := h
            refine x_if_ne C 160 d_MD_write_154 (by decide) (fun c_154 => ?_) (fun c_154 => ?_)
            · refine x_iinc C d_MD_write_160 rfl rfl rfl ?_
              refine x_goto C 109 d_MD_write_163 (by decide) ?_
              rw [show nI t + Int32.ofInt 1 = nI (t + 1) from nI_1 t]
              exact ih (t + 1) _ (by omega) (mFst_n hi2 (by unfold mOoR; rw [bI_1 c_154]; simp))
            · refine x_bipush C (v := 21) d_MD_write_157 (by decide) ?_
              exact x_iret C (Nat.le_of_ble_eq_true rfl) (Nat.le_of_ble_eq_true rfl) d_MD_write_159 ⟨rfl, hM1, hF1⟩
  refine x_aload_n C d_MD_write_0 rfl rfl ?_
  refine x_iconst C (v := 0) d_MD_write_1 (by decide) ?_
  refine x_mSp C hM 0 (by decide) (x := 0) f_MD_72 rfl rfl rfl d_MD_write_2 (fun _ hMg1 hFg1 => ?_)
  refine x_aload_n C d_MD_write_5 rfl rfl ?_
  refine x_iload_n C d_MD_write_6 rfl rfl ?_
  refine x_callV1 C (q_MD_isView l E hMg1) (lk_MD_92 C.hts (Nat.le_of_ble_eq_true rfl) (Nat.le_of_ble_eq_true rfl)) hMg1.1 rfl rfl d_MD_write_7 (Nat.le_of_ble_eq_true rfl) (Nat.le_of_ble_eq_true rfl) (Nat.le_of_ble_eq_true rfl) (fun r G' h => ?_)
  obtain ⟨rfl, rfl⟩ : r = some (.int (bI (mVw μ (nI i)))) ∧ _ = G' := h
  refine x_if_ne C 15 d_MD_write_10 (by decide) (fun c_10 => ?_) (fun c_10 => ?_)
  · refine x_aload_n C d_MD_write_15 rfl rfl ?_
    refine x_get C hMg1.1 rfl (in_MD _) 24 (by decide) (List.mem_cons_of_mem _ f_MD_63) rfl d_MD_write_16 ?_
    refine x_iload_n C d_MD_write_19 rfl rfl ?_
    refine x_mZv C hMg1 24 5 kZ_24 rfl (j := i) (by omega) (mZ μ 24 i) rfl d_MD_write_20 ?_
    refine x_if_ne C 27 d_MD_write_21 (by decide) (fun c_21 => ?_) (fun c_21 => ?_)
    · refine x_aload_n C d_MD_write_27 rfl rfl ?_
      refine x_get C hMg1.1 rfl (in_MD _) 15 (by decide) (List.mem_cons_of_mem _ f_MD_36) rfl d_MD_write_28 ?_
      refine x_iload_n C d_MD_write_31 rfl rfl ?_
      refine x_mIv C hMg1 15 5 kI_15 rfl (j := i) (by omega) (mI μ 15 i) rfl d_MD_write_32 ?_
      refine x_if_eq C 55 d_MD_write_33 (by decide) (fun c_33 => ?_) (fun c_33 => ?_)
      · exfalso
        clear C hnm hM
        simp_all [refWrite, bI_0]
      · refine x_aload_n C d_MD_write_36 rfl rfl ?_
        refine x_get C hMg1.1 rfl (in_MD _) 15 (by decide) (List.mem_cons_of_mem _ f_MD_36) rfl d_MD_write_37 ?_
        refine x_iload_n C d_MD_write_40 rfl rfl ?_
        refine x_mIv C hMg1 15 5 kI_15 rfl (j := i) (by omega) (mI μ 15 i) rfl d_MD_write_41 ?_
        refine x_iconst C (v := 2) d_MD_write_42 (by decide) ?_
        refine x_icmp_ne C 58 d_MD_write_43 (by decide) (fun c_43 => ?_) (fun c_43 => ?_)
        · refine x_aload_n C d_MD_write_58 rfl rfl ?_
          refine x_iload_n C d_MD_write_59 rfl rfl ?_
          refine x_callV1 C (q_MD_forget l E hMg1 (i := i) (by omega)) (lk_MD_150 C.hts (Nat.le_of_ble_eq_true rfl) (Nat.le_of_ble_eq_true rfl)) hMg1.1 rfl rfl d_MD_write_60 (Nat.le_of_ble_eq_true rfl) (Nat.le_of_ble_eq_true rfl) (Nat.le_of_ble_eq_true rfl) (fun r G' h => ?_)
          obtain ⟨rfl, hMg2, hFg2⟩ : r = none ∧ xMD E G' md a (mFg (sS μ 0 (0)) i) ∧ xFc _ G' := h
          refine x_aload_n C d_MD_write_63 rfl rfl ?_
          refine x_iconst C (v := 0) d_MD_write_64 (by decide) ?_
          refine x_lload_n C d_MD_write_65 rfl rfl ?_
          refine x_callV2 C (q_MD_field l E hMg2 (k := 0) (by omega)) (lk_MD_98 C.hts (Nat.le_of_ble_eq_true rfl) (Nat.le_of_ble_eq_true rfl)) hMg2.1 rfl rfl d_MD_write_66 (Nat.le_of_ble_eq_true rfl) (Nat.le_of_ble_eq_true rfl) (Nat.le_of_ble_eq_true rfl) (fun r G' h => ?_)
          obtain ⟨rfl, rfl⟩ : r = some (.long (mF μ 0 (x))) ∧ _ = G' := h
          refine x_lstore C d_MD_write_69 (Nat.le_of_ble_eq_true rfl) rfl ?_
          refine x_aload_n C d_MD_write_71 rfl rfl ?_
          refine x_get C hMg2.1 rfl (in_MD _) 16 (by decide) (List.mem_cons_of_mem _ f_MD_39) rfl d_MD_write_72 ?_
          refine x_iload_n C d_MD_write_75 rfl rfl ?_
          refine x_mIv C hMg2 16 5 kI_16 rfl (j := i) (by omega) (mI μ 16 i) rfl d_MD_write_76 ?_
          refine x_if_ne C 166 d_MD_write_77 (by decide) (fun c_77 => ?_) (fun c_77 => ?_)
          · exact absurd ha c_77
          · refine x_aload_n C d_MD_write_80 rfl rfl ?_
            refine x_get C hMg2.1 rfl (in_MD _) 26 (by decide) (List.mem_cons_of_mem _ f_MD_69) rfl d_MD_write_81 ?_
            refine x_iload_n C d_MD_write_84 rfl rfl ?_
            refine x_mZv C hMg2 26 5 kZ_26 rfl (j := i) (by omega) (mZ μ 26 i) rfl d_MD_write_85 ?_
            refine x_if_eq C 106 d_MD_write_86 (by decide) (fun c_86 => ?_) (fun c_86 => ?_)
            · refine x_iconst C (v := 0) d_MD_write_106 (by decide) ?_
              refine x_istore C d_MD_write_107 (Nat.le_of_ble_eq_true rfl) rfl ?_
              have hw9 : ¬ (mZ μ 26 i = true ∧ mLs (mJ μ 23 i) (mF μ 0 x) = false) := by
                exact fun z => absurd (z.1.symm.trans ((bI_0 _).mp c_86)) (by decide)
              obtain ⟨h3, r0, hr0⟩ := mOo_n hoo hw9
              rw [← nI_0]
              exact loop h3 r0 _ hMg2 (hFg1.tr hFg2) 300 0 _ (by omega) hr0
            · refine x_aload_n C d_MD_write_89 rfl rfl ?_
              refine x_get C hMg2.1 rfl (in_MD _) 23 (by decide) (List.mem_cons_of_mem _ f_MD_60) rfl d_MD_write_90 ?_
              refine x_iload_n C d_MD_write_93 rfl rfl ?_
              refine x_mJv C hMg2 23 5 kJ_23 rfl (j := i) (by omega) (mJ μ 23 i) rfl d_MD_write_94 ?_
              refine x_lload C d_MD_write_95 rfl ?_
              refine x_callS2 C (q_MD_isLess l E) (lk_MD_106 C.hts (Nat.le_of_ble_eq_true rfl) (Nat.le_of_ble_eq_true rfl)) rfl d_MD_write_97 (Nat.le_of_ble_eq_true rfl) (Nat.le_of_ble_eq_true rfl) (Nat.le_of_ble_eq_true rfl) (fun r G' h => ?_)
              obtain ⟨rfl, rfl⟩ : r = some (.int (bI (mLs (mJ μ 23 i) (mF μ 0 (x))))) ∧ _ = G' := h
              refine x_if_ne C 106 d_MD_write_100 (by decide) (fun c_100 => ?_) (fun c_100 => ?_)
              · refine x_iconst C (v := 0) d_MD_write_106 (by decide) ?_
                refine x_istore C d_MD_write_107 (Nat.le_of_ble_eq_true rfl) rfl ?_
                have hw9 : ¬ (mZ μ 26 i = true ∧ mLs (mJ μ 23 i) (mF μ 0 x) = false) := by
                  exact fun z => absurd (z.2.symm.trans (bI_1 c_100)) (by decide)
                obtain ⟨h3, r0, hr0⟩ := mOo_n hoo hw9
                rw [← nI_0]
                exact loop h3 r0 _ hMg2 (hFg1.tr hFg2) 300 0 _ (by omega) hr0
              · refine x_bipush C (v := 21) d_MD_write_103 (by decide) ?_
                exact x_iret C (Nat.le_of_ble_eq_true rfl) (Nat.le_of_ble_eq_true rfl) d_MD_write_105 ⟨rfl, hMg2, hFg1.tr hFg2⟩
        · refine x_aload_n C d_MD_write_46 rfl rfl ?_
          refine x_get C hMg1.1 rfl (in_MD _) 16 (by decide) (List.mem_cons_of_mem _ f_MD_39) rfl d_MD_write_47 ?_
          refine x_iload_n C d_MD_write_50 rfl rfl ?_
          refine x_mIv C hMg1 16 5 kI_16 rfl (j := i) (by omega) (mI μ 16 i) rfl d_MD_write_51 ?_
          refine x_if_ne C 58 d_MD_write_52 (by decide) (fun c_52 => ?_) (fun c_52 => ?_)
          · refine x_aload_n C d_MD_write_58 rfl rfl ?_
            refine x_iload_n C d_MD_write_59 rfl rfl ?_
            refine x_callV1 C (q_MD_forget l E hMg1 (i := i) (by omega)) (lk_MD_150 C.hts (Nat.le_of_ble_eq_true rfl) (Nat.le_of_ble_eq_true rfl)) hMg1.1 rfl rfl d_MD_write_60 (Nat.le_of_ble_eq_true rfl) (Nat.le_of_ble_eq_true rfl) (Nat.le_of_ble_eq_true rfl) (fun r G' h => ?_)
            obtain ⟨rfl, hMg3, hFg3⟩ : r = none ∧ xMD E G' md a (mFg (sS μ 0 (0)) i) ∧ xFc _ G' := h
            refine x_aload_n C d_MD_write_63 rfl rfl ?_
            refine x_iconst C (v := 0) d_MD_write_64 (by decide) ?_
            refine x_lload_n C d_MD_write_65 rfl rfl ?_
            refine x_callV2 C (q_MD_field l E hMg3 (k := 0) (by omega)) (lk_MD_98 C.hts (Nat.le_of_ble_eq_true rfl) (Nat.le_of_ble_eq_true rfl)) hMg3.1 rfl rfl d_MD_write_66 (Nat.le_of_ble_eq_true rfl) (Nat.le_of_ble_eq_true rfl) (Nat.le_of_ble_eq_true rfl) (fun r G' h => ?_)
            obtain ⟨rfl, rfl⟩ : r = some (.long (mF μ 0 (x))) ∧ _ = G' := h
            refine x_lstore C d_MD_write_69 (Nat.le_of_ble_eq_true rfl) rfl ?_
            refine x_aload_n C d_MD_write_71 rfl rfl ?_
            refine x_get C hMg3.1 rfl (in_MD _) 16 (by decide) (List.mem_cons_of_mem _ f_MD_39) rfl d_MD_write_72 ?_
            refine x_iload_n C d_MD_write_75 rfl rfl ?_
            refine x_mIv C hMg3 16 5 kI_16 rfl (j := i) (by omega) (mI μ 16 i) rfl d_MD_write_76 ?_
            refine x_if_ne C 166 d_MD_write_77 (by decide) (fun c_77 => ?_) (fun c_77 => ?_)
            · exact absurd ha c_77
            · refine x_aload_n C d_MD_write_80 rfl rfl ?_
              refine x_get C hMg3.1 rfl (in_MD _) 26 (by decide) (List.mem_cons_of_mem _ f_MD_69) rfl d_MD_write_81 ?_
              refine x_iload_n C d_MD_write_84 rfl rfl ?_
              refine x_mZv C hMg3 26 5 kZ_26 rfl (j := i) (by omega) (mZ μ 26 i) rfl d_MD_write_85 ?_
              refine x_if_eq C 106 d_MD_write_86 (by decide) (fun c_86 => ?_) (fun c_86 => ?_)
              · refine x_iconst C (v := 0) d_MD_write_106 (by decide) ?_
                refine x_istore C d_MD_write_107 (Nat.le_of_ble_eq_true rfl) rfl ?_
                have hw9 : ¬ (mZ μ 26 i = true ∧ mLs (mJ μ 23 i) (mF μ 0 x) = false) := by
                  exact fun z => absurd (z.1.symm.trans ((bI_0 _).mp c_86)) (by decide)
                obtain ⟨h3, r0, hr0⟩ := mOo_n hoo hw9
                rw [← nI_0]
                exact loop h3 r0 _ hMg3 (hFg1.tr hFg3) 300 0 _ (by omega) hr0
              · refine x_aload_n C d_MD_write_89 rfl rfl ?_
                refine x_get C hMg3.1 rfl (in_MD _) 23 (by decide) (List.mem_cons_of_mem _ f_MD_60) rfl d_MD_write_90 ?_
                refine x_iload_n C d_MD_write_93 rfl rfl ?_
                refine x_mJv C hMg3 23 5 kJ_23 rfl (j := i) (by omega) (mJ μ 23 i) rfl d_MD_write_94 ?_
                refine x_lload C d_MD_write_95 rfl ?_
                refine x_callS2 C (q_MD_isLess l E) (lk_MD_106 C.hts (Nat.le_of_ble_eq_true rfl) (Nat.le_of_ble_eq_true rfl)) rfl d_MD_write_97 (Nat.le_of_ble_eq_true rfl) (Nat.le_of_ble_eq_true rfl) (Nat.le_of_ble_eq_true rfl) (fun r G' h => ?_)
                obtain ⟨rfl, rfl⟩ : r = some (.int (bI (mLs (mJ μ 23 i) (mF μ 0 (x))))) ∧ _ = G' := h
                refine x_if_ne C 106 d_MD_write_100 (by decide) (fun c_100 => ?_) (fun c_100 => ?_)
                · refine x_iconst C (v := 0) d_MD_write_106 (by decide) ?_
                  refine x_istore C d_MD_write_107 (Nat.le_of_ble_eq_true rfl) rfl ?_
                  have hw9 : ¬ (mZ μ 26 i = true ∧ mLs (mJ μ 23 i) (mF μ 0 x) = false) := by
                    exact fun z => absurd (z.2.symm.trans (bI_1 c_100)) (by decide)
                  obtain ⟨h3, r0, hr0⟩ := mOo_n hoo hw9
                  rw [← nI_0]
                  exact loop h3 r0 _ hMg3 (hFg1.tr hFg3) 300 0 _ (by omega) hr0
                · refine x_bipush C (v := 21) d_MD_write_103 (by decide) ?_
                  exact x_iret C (Nat.le_of_ble_eq_true rfl) (Nat.le_of_ble_eq_true rfl) d_MD_write_105 ⟨rfl, hMg3, hFg1.tr hFg3⟩
          · exfalso
            clear C hnm hM
            simp_all [refWrite, bI_0]
    · exfalso
      clear C hnm hM
      simp_all [refWrite, bI_0]
  · exact absurd (hv.symm.trans ((bI_0 _).mp c_10)) (by decide)
set_option maxRecDepth 4000 in
set_option maxHeartbeats 800000 in
theorem q_MD_write_22 (l : Launch) (E : xE) {G : xw_G} {md : Nat} {a : Nat → Nat} {μ : MS} (hM : xMD E G md a μ) {i : Nat} (hi : i < 5) (hv : mVw μ (nI i) = true) {x : Int64} (hr : refWrite (mZ μ 24 i) (mI μ 15 i) (mI μ 16 i) = 0) (hoo : ¬ (mI μ 16 i = 0 ∧ mOo μ i (mF μ 0 x) = true)) {K : Nat} (hK : mS μ 6 = nI K) (hK6 : K ≤ 6) (hw : mBar μ x none K 0 0 = 22) : XMk l E y_MD_write w_MD_write rm_MD_write [.ref md, .int (nI i), .long (x)] G (fun r G' => r = some (.int (22)) ∧ xMD E G' md a ((mFg (sS μ 0 0) i)) ∧ xFc G G') 0 0 := by
  refine XM_of [some (.ref md), some (.int (nI i)), some (.long (x)), none, none, none, none, none] (XZ_st E) (by decide) rfl rfl rfl (Nat.le_of_ble_eq_true rfl) (fun p e s m below meth c C hnm => ?_)
  have tail : ∀ (G1 : xw_G) (v6 v7 : Option Value), xMD E G1 md a (mFg (sS μ 0 0) i) → xFc G G1 → XW p l e rm_MD_write s m #[.ref md, .int (nI i), .long (x)] below meth c (XQ below #[.ref md, .int (nI i), .long (x)] s (xD E) xcl (xB E) (fun r G' => r = some (.int (22)) ∧ xMD E G' md a ((mFg (sS μ 0 0) i)) ∧ xFc G G') 0 0) (xD E) xcl (xB E) 166 [some (.ref md), some (.int (nI i)), some (.long x), none, some (.long (mF μ 0 x)), none, v6, v7] [] G1 0 0 := by
    intro G1 v6 v7 hM1 hF1
    refine x_aload_n C d_MD_write_166 rfl rfl ?_
    refine x_lload_n C d_MD_write_167 rfl rfl ?_
    refine x_iconst C (v := -1) d_MD_write_168 (by decide) ?_
    refine x_callV2 C (q_MD_barred l E hM1 (K := K) hK hK6 (but := none) (fun _ z => by cases z)) (lk_MD_154 C.hts (Nat.le_of_ble_eq_true rfl) (Nat.le_of_ble_eq_true rfl)) hM1.1 rfl rfl d_MD_write_169 (Nat.le_of_ble_eq_true rfl) (Nat.le_of_ble_eq_true rfl) (Nat.le_of_ble_eq_true rfl) (fun r G' h => ?_)
    rw [mBar_c (μ := (mFg (sS μ 0 0) i)) (μ' := μ) (fun _ _ => rfl)] at h
    obtain ⟨rfl, rfl⟩ : r = some (.int (mBar μ (x) none K 0 0)) ∧ _ = G' := h
    refine x_istore C d_MD_write_172 (Nat.le_of_ble_eq_true rfl) rfl ?_
    refine x_iload C d_MD_write_174 rfl ?_
    refine x_bipush C (v := 22) d_MD_write_176 (by decide) ?_
    refine x_icmp_ne C 184 d_MD_write_178 (by decide) (fun c_178 => ?_) (fun c_178 => ?_)
    · exact absurd hw c_178
    · refine x_bipush C (v := 22) d_MD_write_181 (by decide) ?_
      exact x_iret C (Nat.le_of_ble_eq_true rfl) (Nat.le_of_ble_eq_true rfl) d_MD_write_183 ⟨rfl, hM1, hF1⟩
  have loop : ∀ (ho2 : mOo μ i (mF μ 0 x) = false) (G1 : xw_G) (hM1 : xMD E G1 md a (mFg (sS μ 0 0) i)) (hF1 : xFc G G1) (n t : Nat) (v7 : Option Value), t + n = 300 → XW p l e rm_MD_write s m #[.ref md, .int (nI i), .long (x)] below meth c (XQ below #[.ref md, .int (nI i), .long (x)] s (xD E) xcl (xB E) (fun r G' => r = some (.int (22)) ∧ xMD E G' md a ((mFg (sS μ 0 0) i)) ∧ xFc G G') 0 0) (xD E) xcl (xB E) 109 [some (.ref md), some (.int (nI i)), some (.long (x)), none, some (.long (mF μ 0 x)), none, some (.int (nI t)), v7] [] G1 0 0 := by
    intro ho2 G1 hM1 hF1 n
    induction n with
    | zero =>
      intro t v7 ht
      refine x_iload C d_MD_write_109 rfl ?_
      refine x_sipush C (v := 300) d_MD_write_111 (by decide) ?_
      refine x_icmp_ge C 166 d_MD_write_114 (by decide) (fun c_114 => ?_) (fun c_114 => ?_)
      · exact tail _ _ _ hM1 (hF1)
      · exact absurd (nI_le (a := 300) (b := t) (by omega) (by omega)) c_114
    | succ n ih =>
      intro t v7 ht
      refine x_iload C d_MD_write_109 rfl ?_
      refine x_sipush C (v := 300) d_MD_write_111 (by decide) ?_
      refine x_icmp_ge C 166 d_MD_write_114 (by decide) (fun c_114 => ?_) (fun c_114 => ?_)
      · exact absurd c_114 (nI_ge (a := t) (b := 300) (by omega) (by omega))
      · refine x_aload_n C d_MD_write_117 rfl rfl ?_
        refine x_get C hM1.1 rfl (in_MD _) 15 (by decide) (List.mem_cons_of_mem _ f_MD_36) rfl d_MD_write_118 ?_
        refine x_iload_n C d_MD_write_121 rfl rfl ?_
        refine x_mIv C hM1 15 5 kI_15 rfl (j := i) (by omega) (mI μ 15 i) rfl d_MD_write_122 ?_
        refine x_iconst C (v := 3) d_MD_write_123 (by decide) ?_
        refine x_icmp_ne C 166 d_MD_write_124 (by decide) (fun c_124 => ?_) (fun c_124 => ?_)
        · exact tail _ _ _ hM1 (hF1)
        · refine x_aload_n C d_MD_write_127 rfl rfl ?_
          refine x_get C hM1.1 rfl (in_MD _) 10 (by decide) (List.mem_cons_of_mem _ f_MD_30) rfl d_MD_write_128 ?_
          refine x_iload C d_MD_write_131 rfl ?_
          refine x_mIv C hM1 10 300 kI_10 rfl (j := t) (by omega) (mI μ 10 t) rfl d_MD_write_133 ?_
          refine x_if_le C 160 d_MD_write_134 (by decide) (fun c_134 => ?_) (fun c_134 => ?_)
          · refine x_iinc C d_MD_write_160 rfl rfl rfl ?_
            refine x_goto C 109 d_MD_write_163 (by decide) ?_
            rw [show nI t + Int32.ofInt 1 = nI (t + 1) from nI_1 t]
            exact ih (t + 1) _ (by omega)
          · refine x_aload_n C d_MD_write_137 rfl rfl ?_
            refine x_iconst C (v := 0) d_MD_write_138 (by decide) ?_
            refine x_aload_n C d_MD_write_139 rfl rfl ?_
            refine x_get C hM1.1 rfl (in_MD _) 9 (by decide) (List.mem_cons_of_mem _ f_MD_27) rfl d_MD_write_140 ?_
            refine x_iload C d_MD_write_143 rfl ?_
            refine x_mJv C hM1 9 300 kJ_9 rfl (j := t) (by omega) (mJ μ 9 t) rfl d_MD_write_145 ?_
            refine x_callV2 C (q_MD_field l E hM1 (k := 0) (by omega)) (lk_MD_98 C.hts (Nat.le_of_ble_eq_true rfl) (Nat.le_of_ble_eq_true rfl)) hM1.1 rfl rfl d_MD_write_146 (Nat.le_of_ble_eq_true rfl) (Nat.le_of_ble_eq_true rfl) (Nat.le_of_ble_eq_true rfl) (fun r G' h => ?_)
            obtain ⟨rfl, rfl⟩ : r = some (.long (mF μ 0 (mJ μ 9 t))) ∧ _ = G' := h
            refine x_lload C d_MD_write_149 rfl ?_
            refine x_callS2 C (q_MD_isLess l E) (lk_MD_106 C.hts (Nat.le_of_ble_eq_true rfl) (Nat.le_of_ble_eq_true rfl)) rfl d_MD_write_151 (Nat.le_of_ble_eq_true rfl) (Nat.le_of_ble_eq_true rfl) (Nat.le_of_ble_eq_true rfl) (fun r G' h => ?_)
            obtain ⟨rfl, rfl⟩ : r = some (.int (bI (mLs (mF μ 0 (mJ μ 9 t)) (mF μ 0 x)))) ∧ _ = G' := h
            refine x_if_ne C 160 d_MD_write_154 (by decide) (fun c_154 => ?_) (fun c_154 => ?_)
            · refine x_iinc C d_MD_write_160 rfl rfl rfl ?_
              refine x_goto C 109 d_MD_write_163 (by decide) ?_
              rw [show nI t + Int32.ofInt 1 = nI (t + 1) from nI_1 t]
              exact ih (t + 1) _ (by omega)
            · have h3 : mI μ 15 i = 3 := c_124
              exact absurd (mOo_r ho2 h3 (show t < 300 by omega)) (by unfold mOoR; rw [(bI_0 _).mp c_154]; simp [Int32.not_le.mp c_134])
  refine x_aload_n C d_MD_write_0 rfl rfl ?_
  refine x_iconst C (v := 0) d_MD_write_1 (by decide) ?_
  refine x_mSp C hM 0 (by decide) (x := 0) f_MD_72 rfl rfl rfl d_MD_write_2 (fun _ hMg1 hFg1 => ?_)
  refine x_aload_n C d_MD_write_5 rfl rfl ?_
  refine x_iload_n C d_MD_write_6 rfl rfl ?_
  refine x_callV1 C (q_MD_isView l E hMg1) (lk_MD_92 C.hts (Nat.le_of_ble_eq_true rfl) (Nat.le_of_ble_eq_true rfl)) hMg1.1 rfl rfl d_MD_write_7 (Nat.le_of_ble_eq_true rfl) (Nat.le_of_ble_eq_true rfl) (Nat.le_of_ble_eq_true rfl) (fun r G' h => ?_)
  obtain ⟨rfl, rfl⟩ : r = some (.int (bI (mVw μ (nI i)))) ∧ _ = G' := h
  refine x_if_ne C 15 d_MD_write_10 (by decide) (fun c_10 => ?_) (fun c_10 => ?_)
  · refine x_aload_n C d_MD_write_15 rfl rfl ?_
    refine x_get C hMg1.1 rfl (in_MD _) 24 (by decide) (List.mem_cons_of_mem _ f_MD_63) rfl d_MD_write_16 ?_
    refine x_iload_n C d_MD_write_19 rfl rfl ?_
    refine x_mZv C hMg1 24 5 kZ_24 rfl (j := i) (by omega) (mZ μ 24 i) rfl d_MD_write_20 ?_
    refine x_if_ne C 27 d_MD_write_21 (by decide) (fun c_21 => ?_) (fun c_21 => ?_)
    · refine x_aload_n C d_MD_write_27 rfl rfl ?_
      refine x_get C hMg1.1 rfl (in_MD _) 15 (by decide) (List.mem_cons_of_mem _ f_MD_36) rfl d_MD_write_28 ?_
      refine x_iload_n C d_MD_write_31 rfl rfl ?_
      refine x_mIv C hMg1 15 5 kI_15 rfl (j := i) (by omega) (mI μ 15 i) rfl d_MD_write_32 ?_
      refine x_if_eq C 55 d_MD_write_33 (by decide) (fun c_33 => ?_) (fun c_33 => ?_)
      · exfalso
        clear C hnm hM
        simp_all [refWrite, bI_0]
      · refine x_aload_n C d_MD_write_36 rfl rfl ?_
        refine x_get C hMg1.1 rfl (in_MD _) 15 (by decide) (List.mem_cons_of_mem _ f_MD_36) rfl d_MD_write_37 ?_
        refine x_iload_n C d_MD_write_40 rfl rfl ?_
        refine x_mIv C hMg1 15 5 kI_15 rfl (j := i) (by omega) (mI μ 15 i) rfl d_MD_write_41 ?_
        refine x_iconst C (v := 2) d_MD_write_42 (by decide) ?_
        refine x_icmp_ne C 58 d_MD_write_43 (by decide) (fun c_43 => ?_) (fun c_43 => ?_)
        · refine x_aload_n C d_MD_write_58 rfl rfl ?_
          refine x_iload_n C d_MD_write_59 rfl rfl ?_
          refine x_callV1 C (q_MD_forget l E hMg1 (i := i) (by omega)) (lk_MD_150 C.hts (Nat.le_of_ble_eq_true rfl) (Nat.le_of_ble_eq_true rfl)) hMg1.1 rfl rfl d_MD_write_60 (Nat.le_of_ble_eq_true rfl) (Nat.le_of_ble_eq_true rfl) (Nat.le_of_ble_eq_true rfl) (fun r G' h => ?_)
          obtain ⟨rfl, hMg2, hFg2⟩ : r = none ∧ xMD E G' md a (mFg (sS μ 0 (0)) i) ∧ xFc _ G' := h
          refine x_aload_n C d_MD_write_63 rfl rfl ?_
          refine x_iconst C (v := 0) d_MD_write_64 (by decide) ?_
          refine x_lload_n C d_MD_write_65 rfl rfl ?_
          refine x_callV2 C (q_MD_field l E hMg2 (k := 0) (by omega)) (lk_MD_98 C.hts (Nat.le_of_ble_eq_true rfl) (Nat.le_of_ble_eq_true rfl)) hMg2.1 rfl rfl d_MD_write_66 (Nat.le_of_ble_eq_true rfl) (Nat.le_of_ble_eq_true rfl) (Nat.le_of_ble_eq_true rfl) (fun r G' h => ?_)
          obtain ⟨rfl, rfl⟩ : r = some (.long (mF μ 0 (x))) ∧ _ = G' := h
          refine x_lstore C d_MD_write_69 (Nat.le_of_ble_eq_true rfl) rfl ?_
          refine x_aload_n C d_MD_write_71 rfl rfl ?_
          refine x_get C hMg2.1 rfl (in_MD _) 16 (by decide) (List.mem_cons_of_mem _ f_MD_39) rfl d_MD_write_72 ?_
          refine x_iload_n C d_MD_write_75 rfl rfl ?_
          refine x_mIv C hMg2 16 5 kI_16 rfl (j := i) (by omega) (mI μ 16 i) rfl d_MD_write_76 ?_
          refine x_if_ne C 166 d_MD_write_77 (by decide) (fun c_77 => ?_) (fun c_77 => ?_)
          · exact tail _ _ _ hMg2 (hFg1.tr hFg2)
          · refine x_aload_n C d_MD_write_80 rfl rfl ?_
            refine x_get C hMg2.1 rfl (in_MD _) 26 (by decide) (List.mem_cons_of_mem _ f_MD_69) rfl d_MD_write_81 ?_
            refine x_iload_n C d_MD_write_84 rfl rfl ?_
            refine x_mZv C hMg2 26 5 kZ_26 rfl (j := i) (by omega) (mZ μ 26 i) rfl d_MD_write_85 ?_
            refine x_if_eq C 106 d_MD_write_86 (by decide) (fun c_86 => ?_) (fun c_86 => ?_)
            · refine x_iconst C (v := 0) d_MD_write_106 (by decide) ?_
              refine x_istore C d_MD_write_107 (Nat.le_of_ble_eq_true rfl) rfl ?_
              have ho2 : mOo μ i (mF μ 0 x) = false := by
                cases hz : mOo μ i (mF μ 0 x) with
                | false => rfl
                | true => exact absurd ⟨c_77, hz⟩ hoo
              rw [← nI_0]
              exact loop ho2 _ hMg2 (hFg1.tr hFg2) 300 0 _ (by omega)
            · refine x_aload_n C d_MD_write_89 rfl rfl ?_
              refine x_get C hMg2.1 rfl (in_MD _) 23 (by decide) (List.mem_cons_of_mem _ f_MD_60) rfl d_MD_write_90 ?_
              refine x_iload_n C d_MD_write_93 rfl rfl ?_
              refine x_mJv C hMg2 23 5 kJ_23 rfl (j := i) (by omega) (mJ μ 23 i) rfl d_MD_write_94 ?_
              refine x_lload C d_MD_write_95 rfl ?_
              refine x_callS2 C (q_MD_isLess l E) (lk_MD_106 C.hts (Nat.le_of_ble_eq_true rfl) (Nat.le_of_ble_eq_true rfl)) rfl d_MD_write_97 (Nat.le_of_ble_eq_true rfl) (Nat.le_of_ble_eq_true rfl) (Nat.le_of_ble_eq_true rfl) (fun r G' h => ?_)
              obtain ⟨rfl, rfl⟩ : r = some (.int (bI (mLs (mJ μ 23 i) (mF μ 0 (x))))) ∧ _ = G' := h
              refine x_if_ne C 106 d_MD_write_100 (by decide) (fun c_100 => ?_) (fun c_100 => ?_)
              · refine x_iconst C (v := 0) d_MD_write_106 (by decide) ?_
                refine x_istore C d_MD_write_107 (Nat.le_of_ble_eq_true rfl) rfl ?_
                have ho2 : mOo μ i (mF μ 0 x) = false := by
                  cases hz : mOo μ i (mF μ 0 x) with
                  | false => rfl
                  | true => exact absurd ⟨c_77, hz⟩ hoo
                rw [← nI_0]
                exact loop ho2 _ hMg2 (hFg1.tr hFg2) 300 0 _ (by omega)
              · exact absurd ⟨c_77, (show mOo μ i (mF μ 0 x) = true from by unfold mOo; rw [bI_1 c_86, (bI_0 _).mp c_100]; rfl)⟩ hoo
        · refine x_aload_n C d_MD_write_46 rfl rfl ?_
          refine x_get C hMg1.1 rfl (in_MD _) 16 (by decide) (List.mem_cons_of_mem _ f_MD_39) rfl d_MD_write_47 ?_
          refine x_iload_n C d_MD_write_50 rfl rfl ?_
          refine x_mIv C hMg1 16 5 kI_16 rfl (j := i) (by omega) (mI μ 16 i) rfl d_MD_write_51 ?_
          refine x_if_ne C 58 d_MD_write_52 (by decide) (fun c_52 => ?_) (fun c_52 => ?_)
          · refine x_aload_n C d_MD_write_58 rfl rfl ?_
            refine x_iload_n C d_MD_write_59 rfl rfl ?_
            refine x_callV1 C (q_MD_forget l E hMg1 (i := i) (by omega)) (lk_MD_150 C.hts (Nat.le_of_ble_eq_true rfl) (Nat.le_of_ble_eq_true rfl)) hMg1.1 rfl rfl d_MD_write_60 (Nat.le_of_ble_eq_true rfl) (Nat.le_of_ble_eq_true rfl) (Nat.le_of_ble_eq_true rfl) (fun r G' h => ?_)
            obtain ⟨rfl, hMg3, hFg3⟩ : r = none ∧ xMD E G' md a (mFg (sS μ 0 (0)) i) ∧ xFc _ G' := h
            refine x_aload_n C d_MD_write_63 rfl rfl ?_
            refine x_iconst C (v := 0) d_MD_write_64 (by decide) ?_
            refine x_lload_n C d_MD_write_65 rfl rfl ?_
            refine x_callV2 C (q_MD_field l E hMg3 (k := 0) (by omega)) (lk_MD_98 C.hts (Nat.le_of_ble_eq_true rfl) (Nat.le_of_ble_eq_true rfl)) hMg3.1 rfl rfl d_MD_write_66 (Nat.le_of_ble_eq_true rfl) (Nat.le_of_ble_eq_true rfl) (Nat.le_of_ble_eq_true rfl) (fun r G' h => ?_)
            obtain ⟨rfl, rfl⟩ : r = some (.long (mF μ 0 (x))) ∧ _ = G' := h
            refine x_lstore C d_MD_write_69 (Nat.le_of_ble_eq_true rfl) rfl ?_
            refine x_aload_n C d_MD_write_71 rfl rfl ?_
            refine x_get C hMg3.1 rfl (in_MD _) 16 (by decide) (List.mem_cons_of_mem _ f_MD_39) rfl d_MD_write_72 ?_
            refine x_iload_n C d_MD_write_75 rfl rfl ?_
            refine x_mIv C hMg3 16 5 kI_16 rfl (j := i) (by omega) (mI μ 16 i) rfl d_MD_write_76 ?_
            refine x_if_ne C 166 d_MD_write_77 (by decide) (fun c_77 => ?_) (fun c_77 => ?_)
            · exact tail _ _ _ hMg3 (hFg1.tr hFg3)
            · refine x_aload_n C d_MD_write_80 rfl rfl ?_
              refine x_get C hMg3.1 rfl (in_MD _) 26 (by decide) (List.mem_cons_of_mem _ f_MD_69) rfl d_MD_write_81 ?_
              refine x_iload_n C d_MD_write_84 rfl rfl ?_
              refine x_mZv C hMg3 26 5 kZ_26 rfl (j := i) (by omega) (mZ μ 26 i) rfl d_MD_write_85 ?_
              refine x_if_eq C 106 d_MD_write_86 (by decide) (fun c_86 => ?_) (fun c_86 => ?_)
              · refine x_iconst C (v := 0) d_MD_write_106 (by decide) ?_
                refine x_istore C d_MD_write_107 (Nat.le_of_ble_eq_true rfl) rfl ?_
                have ho2 : mOo μ i (mF μ 0 x) = false := by
                  cases hz : mOo μ i (mF μ 0 x) with
                  | false => rfl
                  | true => exact absurd ⟨c_77, hz⟩ hoo
                rw [← nI_0]
                exact loop ho2 _ hMg3 (hFg1.tr hFg3) 300 0 _ (by omega)
              · refine x_aload_n C d_MD_write_89 rfl rfl ?_
                refine x_get C hMg3.1 rfl (in_MD _) 23 (by decide) (List.mem_cons_of_mem _ f_MD_60) rfl d_MD_write_90 ?_
                refine x_iload_n C d_MD_write_93 rfl rfl ?_
                refine x_mJv C hMg3 23 5 kJ_23 rfl (j := i) (by omega) (mJ μ 23 i) rfl d_MD_write_94 ?_
                refine x_lload C d_MD_write_95 rfl ?_
                refine x_callS2 C (q_MD_isLess l E) (lk_MD_106 C.hts (Nat.le_of_ble_eq_true rfl) (Nat.le_of_ble_eq_true rfl)) rfl d_MD_write_97 (Nat.le_of_ble_eq_true rfl) (Nat.le_of_ble_eq_true rfl) (Nat.le_of_ble_eq_true rfl) (fun r G' h => ?_)
                obtain ⟨rfl, rfl⟩ : r = some (.int (bI (mLs (mJ μ 23 i) (mF μ 0 (x))))) ∧ _ = G' := h
                refine x_if_ne C 106 d_MD_write_100 (by decide) (fun c_100 => ?_) (fun c_100 => ?_)
                · refine x_iconst C (v := 0) d_MD_write_106 (by decide) ?_
                  refine x_istore C d_MD_write_107 (Nat.le_of_ble_eq_true rfl) rfl ?_
                  have ho2 : mOo μ i (mF μ 0 x) = false := by
                    cases hz : mOo μ i (mF μ 0 x) with
                    | false => rfl
                    | true => exact absurd ⟨c_77, hz⟩ hoo
                  rw [← nI_0]
                  exact loop ho2 _ hMg3 (hFg1.tr hFg3) 300 0 _ (by omega)
                · exact absurd ⟨c_77, (show mOo μ i (mF μ 0 x) = true from by unfold mOo; rw [bI_1 c_86, (bI_0 _).mp c_100]; rfl)⟩ hoo
          · exfalso
            clear C hnm hM
            simp_all [refWrite, bI_0]
    · exfalso
      clear C hnm hM
      simp_all [refWrite, bI_0]
  · exact absurd (hv.symm.trans ((bI_0 _).mp c_10)) (by decide)
set_option maxRecDepth 4000 in
set_option maxHeartbeats 800000 in
theorem q_MD_write_24 (l : Launch) (E : xE) {G : xw_G} {md : Nat} {a : Nat → Nat} {μ : MS} (hM : xMD E G md a μ) {i : Nat} (hi : i < 5) (hv : mVw μ (nI i) = true) {x : Int64} (hr : refWrite (mZ μ 24 i) (mI μ 15 i) (mI μ 16 i) = 0) (hoo : ¬ (mI μ 16 i = 0 ∧ mOo μ i (mF μ 0 x) = true)) {K : Nat} (hK : mS μ 6 = nI K) (hK6 : K ≤ 6) (hw : ¬ mBar μ x none K 0 0 = 22) (hfu : mS μ 12 = 300) : XMk l E y_MD_write w_MD_write rm_MD_write [.ref md, .int (nI i), .long (x)] G (fun r G' => r = some (.int (24)) ∧ xMD E G' md a ((mFg (sS μ 0 0) i)) ∧ xFc G G') 0 0 := by
  refine XM_of [some (.ref md), some (.int (nI i)), some (.long (x)), none, none, none, none, none] (XZ_st E) (by decide) rfl rfl rfl (Nat.le_of_ble_eq_true rfl) (fun p e s m below meth c C hnm => ?_)
  have tail : ∀ (G1 : xw_G) (v6 v7 : Option Value), xMD E G1 md a (mFg (sS μ 0 0) i) → xFc G G1 → XW p l e rm_MD_write s m #[.ref md, .int (nI i), .long (x)] below meth c (XQ below #[.ref md, .int (nI i), .long (x)] s (xD E) xcl (xB E) (fun r G' => r = some (.int (24)) ∧ xMD E G' md a ((mFg (sS μ 0 0) i)) ∧ xFc G G') 0 0) (xD E) xcl (xB E) 166 [some (.ref md), some (.int (nI i)), some (.long x), none, some (.long (mF μ 0 x)), none, v6, v7] [] G1 0 0 := by
    intro G1 v6 v7 hM1 hF1
    refine x_aload_n C d_MD_write_166 rfl rfl ?_
    refine x_lload_n C d_MD_write_167 rfl rfl ?_
    refine x_iconst C (v := -1) d_MD_write_168 (by decide) ?_
    refine x_callV2 C (q_MD_barred l E hM1 (K := K) hK hK6 (but := none) (fun _ z => by cases z)) (lk_MD_154 C.hts (Nat.le_of_ble_eq_true rfl) (Nat.le_of_ble_eq_true rfl)) hM1.1 rfl rfl d_MD_write_169 (Nat.le_of_ble_eq_true rfl) (Nat.le_of_ble_eq_true rfl) (Nat.le_of_ble_eq_true rfl) (fun r G' h => ?_)
    rw [mBar_c (μ := (mFg (sS μ 0 0) i)) (μ' := μ) (fun _ _ => rfl)] at h
    obtain ⟨rfl, rfl⟩ : r = some (.int (mBar μ (x) none K 0 0)) ∧ _ = G' := h
    refine x_istore C d_MD_write_172 (Nat.le_of_ble_eq_true rfl) rfl ?_
    refine x_iload C d_MD_write_174 rfl ?_
    refine x_bipush C (v := 22) d_MD_write_176 (by decide) ?_
    refine x_icmp_ne C 184 d_MD_write_178 (by decide) (fun c_178 => ?_) (fun c_178 => ?_)
    · refine x_aload_n C d_MD_write_184 rfl rfl ?_
      refine x_get C hM1.1 rfl (in_MD _) 12 (by decide) (List.mem_cons_of_mem _ f_MD_95) rfl d_MD_write_185 ?_
      refine x_as1 (v := .int (mS μ 12)) rfl ?_
      refine x_sipush C (v := 300) d_MD_write_188 (by decide) ?_
      refine x_icmp_ne C 197 d_MD_write_191 (by decide) (fun c_191 => ?_) (fun c_191 => ?_)
      · exact absurd hfu c_191
      · refine x_bipush C (v := 24) d_MD_write_194 (by decide) ?_
        exact x_iret C (Nat.le_of_ble_eq_true rfl) (Nat.le_of_ble_eq_true rfl) d_MD_write_196 ⟨rfl, hM1, hF1⟩
    · exact absurd c_178 hw
  have loop : ∀ (ho2 : mOo μ i (mF μ 0 x) = false) (G1 : xw_G) (hM1 : xMD E G1 md a (mFg (sS μ 0 0) i)) (hF1 : xFc G G1) (n t : Nat) (v7 : Option Value), t + n = 300 → XW p l e rm_MD_write s m #[.ref md, .int (nI i), .long (x)] below meth c (XQ below #[.ref md, .int (nI i), .long (x)] s (xD E) xcl (xB E) (fun r G' => r = some (.int (24)) ∧ xMD E G' md a ((mFg (sS μ 0 0) i)) ∧ xFc G G') 0 0) (xD E) xcl (xB E) 109 [some (.ref md), some (.int (nI i)), some (.long (x)), none, some (.long (mF μ 0 x)), none, some (.int (nI t)), v7] [] G1 0 0 := by
    intro ho2 G1 hM1 hF1 n
    induction n with
    | zero =>
      intro t v7 ht
      refine x_iload C d_MD_write_109 rfl ?_
      refine x_sipush C (v := 300) d_MD_write_111 (by decide) ?_
      refine x_icmp_ge C 166 d_MD_write_114 (by decide) (fun c_114 => ?_) (fun c_114 => ?_)
      · exact tail _ _ _ hM1 (hF1)
      · exact absurd (nI_le (a := 300) (b := t) (by omega) (by omega)) c_114
    | succ n ih =>
      intro t v7 ht
      refine x_iload C d_MD_write_109 rfl ?_
      refine x_sipush C (v := 300) d_MD_write_111 (by decide) ?_
      refine x_icmp_ge C 166 d_MD_write_114 (by decide) (fun c_114 => ?_) (fun c_114 => ?_)
      · exact absurd c_114 (nI_ge (a := t) (b := 300) (by omega) (by omega))
      · refine x_aload_n C d_MD_write_117 rfl rfl ?_
        refine x_get C hM1.1 rfl (in_MD _) 15 (by decide) (List.mem_cons_of_mem _ f_MD_36) rfl d_MD_write_118 ?_
        refine x_iload_n C d_MD_write_121 rfl rfl ?_
        refine x_mIv C hM1 15 5 kI_15 rfl (j := i) (by omega) (mI μ 15 i) rfl d_MD_write_122 ?_
        refine x_iconst C (v := 3) d_MD_write_123 (by decide) ?_
        refine x_icmp_ne C 166 d_MD_write_124 (by decide) (fun c_124 => ?_) (fun c_124 => ?_)
        · exact tail _ _ _ hM1 (hF1)
        · refine x_aload_n C d_MD_write_127 rfl rfl ?_
          refine x_get C hM1.1 rfl (in_MD _) 10 (by decide) (List.mem_cons_of_mem _ f_MD_30) rfl d_MD_write_128 ?_
          refine x_iload C d_MD_write_131 rfl ?_
          refine x_mIv C hM1 10 300 kI_10 rfl (j := t) (by omega) (mI μ 10 t) rfl d_MD_write_133 ?_
          refine x_if_le C 160 d_MD_write_134 (by decide) (fun c_134 => ?_) (fun c_134 => ?_)
          · refine x_iinc C d_MD_write_160 rfl rfl rfl ?_
            refine x_goto C 109 d_MD_write_163 (by decide) ?_
            rw [show nI t + Int32.ofInt 1 = nI (t + 1) from nI_1 t]
            exact ih (t + 1) _ (by omega)
          · refine x_aload_n C d_MD_write_137 rfl rfl ?_
            refine x_iconst C (v := 0) d_MD_write_138 (by decide) ?_
            refine x_aload_n C d_MD_write_139 rfl rfl ?_
            refine x_get C hM1.1 rfl (in_MD _) 9 (by decide) (List.mem_cons_of_mem _ f_MD_27) rfl d_MD_write_140 ?_
            refine x_iload C d_MD_write_143 rfl ?_
            refine x_mJv C hM1 9 300 kJ_9 rfl (j := t) (by omega) (mJ μ 9 t) rfl d_MD_write_145 ?_
            refine x_callV2 C (q_MD_field l E hM1 (k := 0) (by omega)) (lk_MD_98 C.hts (Nat.le_of_ble_eq_true rfl) (Nat.le_of_ble_eq_true rfl)) hM1.1 rfl rfl d_MD_write_146 (Nat.le_of_ble_eq_true rfl) (Nat.le_of_ble_eq_true rfl) (Nat.le_of_ble_eq_true rfl) (fun r G' h => ?_)
            obtain ⟨rfl, rfl⟩ : r = some (.long (mF μ 0 (mJ μ 9 t))) ∧ _ = G' := h
            refine x_lload C d_MD_write_149 rfl ?_
            refine x_callS2 C (q_MD_isLess l E) (lk_MD_106 C.hts (Nat.le_of_ble_eq_true rfl) (Nat.le_of_ble_eq_true rfl)) rfl d_MD_write_151 (Nat.le_of_ble_eq_true rfl) (Nat.le_of_ble_eq_true rfl) (Nat.le_of_ble_eq_true rfl) (fun r G' h => ?_)
            obtain ⟨rfl, rfl⟩ : r = some (.int (bI (mLs (mF μ 0 (mJ μ 9 t)) (mF μ 0 x)))) ∧ _ = G' := h
            refine x_if_ne C 160 d_MD_write_154 (by decide) (fun c_154 => ?_) (fun c_154 => ?_)
            · refine x_iinc C d_MD_write_160 rfl rfl rfl ?_
              refine x_goto C 109 d_MD_write_163 (by decide) ?_
              rw [show nI t + Int32.ofInt 1 = nI (t + 1) from nI_1 t]
              exact ih (t + 1) _ (by omega)
            · have h3 : mI μ 15 i = 3 := c_124
              exact absurd (mOo_r ho2 h3 (show t < 300 by omega)) (by unfold mOoR; rw [(bI_0 _).mp c_154]; simp [Int32.not_le.mp c_134])
  refine x_aload_n C d_MD_write_0 rfl rfl ?_
  refine x_iconst C (v := 0) d_MD_write_1 (by decide) ?_
  refine x_mSp C hM 0 (by decide) (x := 0) f_MD_72 rfl rfl rfl d_MD_write_2 (fun _ hMg1 hFg1 => ?_)
  refine x_aload_n C d_MD_write_5 rfl rfl ?_
  refine x_iload_n C d_MD_write_6 rfl rfl ?_
  refine x_callV1 C (q_MD_isView l E hMg1) (lk_MD_92 C.hts (Nat.le_of_ble_eq_true rfl) (Nat.le_of_ble_eq_true rfl)) hMg1.1 rfl rfl d_MD_write_7 (Nat.le_of_ble_eq_true rfl) (Nat.le_of_ble_eq_true rfl) (Nat.le_of_ble_eq_true rfl) (fun r G' h => ?_)
  obtain ⟨rfl, rfl⟩ : r = some (.int (bI (mVw μ (nI i)))) ∧ _ = G' := h
  refine x_if_ne C 15 d_MD_write_10 (by decide) (fun c_10 => ?_) (fun c_10 => ?_)
  · refine x_aload_n C d_MD_write_15 rfl rfl ?_
    refine x_get C hMg1.1 rfl (in_MD _) 24 (by decide) (List.mem_cons_of_mem _ f_MD_63) rfl d_MD_write_16 ?_
    refine x_iload_n C d_MD_write_19 rfl rfl ?_
    refine x_mZv C hMg1 24 5 kZ_24 rfl (j := i) (by omega) (mZ μ 24 i) rfl d_MD_write_20 ?_
    refine x_if_ne C 27 d_MD_write_21 (by decide) (fun c_21 => ?_) (fun c_21 => ?_)
    · refine x_aload_n C d_MD_write_27 rfl rfl ?_
      refine x_get C hMg1.1 rfl (in_MD _) 15 (by decide) (List.mem_cons_of_mem _ f_MD_36) rfl d_MD_write_28 ?_
      refine x_iload_n C d_MD_write_31 rfl rfl ?_
      refine x_mIv C hMg1 15 5 kI_15 rfl (j := i) (by omega) (mI μ 15 i) rfl d_MD_write_32 ?_
      refine x_if_eq C 55 d_MD_write_33 (by decide) (fun c_33 => ?_) (fun c_33 => ?_)
      · exfalso
        clear C hnm hM
        simp_all [refWrite, bI_0]
      · refine x_aload_n C d_MD_write_36 rfl rfl ?_
        refine x_get C hMg1.1 rfl (in_MD _) 15 (by decide) (List.mem_cons_of_mem _ f_MD_36) rfl d_MD_write_37 ?_
        refine x_iload_n C d_MD_write_40 rfl rfl ?_
        refine x_mIv C hMg1 15 5 kI_15 rfl (j := i) (by omega) (mI μ 15 i) rfl d_MD_write_41 ?_
        refine x_iconst C (v := 2) d_MD_write_42 (by decide) ?_
        refine x_icmp_ne C 58 d_MD_write_43 (by decide) (fun c_43 => ?_) (fun c_43 => ?_)
        · refine x_aload_n C d_MD_write_58 rfl rfl ?_
          refine x_iload_n C d_MD_write_59 rfl rfl ?_
          refine x_callV1 C (q_MD_forget l E hMg1 (i := i) (by omega)) (lk_MD_150 C.hts (Nat.le_of_ble_eq_true rfl) (Nat.le_of_ble_eq_true rfl)) hMg1.1 rfl rfl d_MD_write_60 (Nat.le_of_ble_eq_true rfl) (Nat.le_of_ble_eq_true rfl) (Nat.le_of_ble_eq_true rfl) (fun r G' h => ?_)
          obtain ⟨rfl, hMg2, hFg2⟩ : r = none ∧ xMD E G' md a (mFg (sS μ 0 (0)) i) ∧ xFc _ G' := h
          refine x_aload_n C d_MD_write_63 rfl rfl ?_
          refine x_iconst C (v := 0) d_MD_write_64 (by decide) ?_
          refine x_lload_n C d_MD_write_65 rfl rfl ?_
          refine x_callV2 C (q_MD_field l E hMg2 (k := 0) (by omega)) (lk_MD_98 C.hts (Nat.le_of_ble_eq_true rfl) (Nat.le_of_ble_eq_true rfl)) hMg2.1 rfl rfl d_MD_write_66 (Nat.le_of_ble_eq_true rfl) (Nat.le_of_ble_eq_true rfl) (Nat.le_of_ble_eq_true rfl) (fun r G' h => ?_)
          obtain ⟨rfl, rfl⟩ : r = some (.long (mF μ 0 (x))) ∧ _ = G' := h
          refine x_lstore C d_MD_write_69 (Nat.le_of_ble_eq_true rfl) rfl ?_
          refine x_aload_n C d_MD_write_71 rfl rfl ?_
          refine x_get C hMg2.1 rfl (in_MD _) 16 (by decide) (List.mem_cons_of_mem _ f_MD_39) rfl d_MD_write_72 ?_
          refine x_iload_n C d_MD_write_75 rfl rfl ?_
          refine x_mIv C hMg2 16 5 kI_16 rfl (j := i) (by omega) (mI μ 16 i) rfl d_MD_write_76 ?_
          refine x_if_ne C 166 d_MD_write_77 (by decide) (fun c_77 => ?_) (fun c_77 => ?_)
          · exact tail _ _ _ hMg2 (hFg1.tr hFg2)
          · refine x_aload_n C d_MD_write_80 rfl rfl ?_
            refine x_get C hMg2.1 rfl (in_MD _) 26 (by decide) (List.mem_cons_of_mem _ f_MD_69) rfl d_MD_write_81 ?_
            refine x_iload_n C d_MD_write_84 rfl rfl ?_
            refine x_mZv C hMg2 26 5 kZ_26 rfl (j := i) (by omega) (mZ μ 26 i) rfl d_MD_write_85 ?_
            refine x_if_eq C 106 d_MD_write_86 (by decide) (fun c_86 => ?_) (fun c_86 => ?_)
            · refine x_iconst C (v := 0) d_MD_write_106 (by decide) ?_
              refine x_istore C d_MD_write_107 (Nat.le_of_ble_eq_true rfl) rfl ?_
              have ho2 : mOo μ i (mF μ 0 x) = false := by
                cases hz : mOo μ i (mF μ 0 x) with
                | false => rfl
                | true => exact absurd ⟨c_77, hz⟩ hoo
              rw [← nI_0]
              exact loop ho2 _ hMg2 (hFg1.tr hFg2) 300 0 _ (by omega)
            · refine x_aload_n C d_MD_write_89 rfl rfl ?_
              refine x_get C hMg2.1 rfl (in_MD _) 23 (by decide) (List.mem_cons_of_mem _ f_MD_60) rfl d_MD_write_90 ?_
              refine x_iload_n C d_MD_write_93 rfl rfl ?_
              refine x_mJv C hMg2 23 5 kJ_23 rfl (j := i) (by omega) (mJ μ 23 i) rfl d_MD_write_94 ?_
              refine x_lload C d_MD_write_95 rfl ?_
              refine x_callS2 C (q_MD_isLess l E) (lk_MD_106 C.hts (Nat.le_of_ble_eq_true rfl) (Nat.le_of_ble_eq_true rfl)) rfl d_MD_write_97 (Nat.le_of_ble_eq_true rfl) (Nat.le_of_ble_eq_true rfl) (Nat.le_of_ble_eq_true rfl) (fun r G' h => ?_)
              obtain ⟨rfl, rfl⟩ : r = some (.int (bI (mLs (mJ μ 23 i) (mF μ 0 (x))))) ∧ _ = G' := h
              refine x_if_ne C 106 d_MD_write_100 (by decide) (fun c_100 => ?_) (fun c_100 => ?_)
              · refine x_iconst C (v := 0) d_MD_write_106 (by decide) ?_
                refine x_istore C d_MD_write_107 (Nat.le_of_ble_eq_true rfl) rfl ?_
                have ho2 : mOo μ i (mF μ 0 x) = false := by
                  cases hz : mOo μ i (mF μ 0 x) with
                  | false => rfl
                  | true => exact absurd ⟨c_77, hz⟩ hoo
                rw [← nI_0]
                exact loop ho2 _ hMg2 (hFg1.tr hFg2) 300 0 _ (by omega)
              · exact absurd ⟨c_77, (show mOo μ i (mF μ 0 x) = true from by unfold mOo; rw [bI_1 c_86, (bI_0 _).mp c_100]; rfl)⟩ hoo
        · refine x_aload_n C d_MD_write_46 rfl rfl ?_
          refine x_get C hMg1.1 rfl (in_MD _) 16 (by decide) (List.mem_cons_of_mem _ f_MD_39) rfl d_MD_write_47 ?_
          refine x_iload_n C d_MD_write_50 rfl rfl ?_
          refine x_mIv C hMg1 16 5 kI_16 rfl (j := i) (by omega) (mI μ 16 i) rfl d_MD_write_51 ?_
          refine x_if_ne C 58 d_MD_write_52 (by decide) (fun c_52 => ?_) (fun c_52 => ?_)
          · refine x_aload_n C d_MD_write_58 rfl rfl ?_
            refine x_iload_n C d_MD_write_59 rfl rfl ?_
            refine x_callV1 C (q_MD_forget l E hMg1 (i := i) (by omega)) (lk_MD_150 C.hts (Nat.le_of_ble_eq_true rfl) (Nat.le_of_ble_eq_true rfl)) hMg1.1 rfl rfl d_MD_write_60 (Nat.le_of_ble_eq_true rfl) (Nat.le_of_ble_eq_true rfl) (Nat.le_of_ble_eq_true rfl) (fun r G' h => ?_)
            obtain ⟨rfl, hMg3, hFg3⟩ : r = none ∧ xMD E G' md a (mFg (sS μ 0 (0)) i) ∧ xFc _ G' := h
            refine x_aload_n C d_MD_write_63 rfl rfl ?_
            refine x_iconst C (v := 0) d_MD_write_64 (by decide) ?_
            refine x_lload_n C d_MD_write_65 rfl rfl ?_
            refine x_callV2 C (q_MD_field l E hMg3 (k := 0) (by omega)) (lk_MD_98 C.hts (Nat.le_of_ble_eq_true rfl) (Nat.le_of_ble_eq_true rfl)) hMg3.1 rfl rfl d_MD_write_66 (Nat.le_of_ble_eq_true rfl) (Nat.le_of_ble_eq_true rfl) (Nat.le_of_ble_eq_true rfl) (fun r G' h => ?_)
            obtain ⟨rfl, rfl⟩ : r = some (.long (mF μ 0 (x))) ∧ _ = G' := h
            refine x_lstore C d_MD_write_69 (Nat.le_of_ble_eq_true rfl) rfl ?_
            refine x_aload_n C d_MD_write_71 rfl rfl ?_
            refine x_get C hMg3.1 rfl (in_MD _) 16 (by decide) (List.mem_cons_of_mem _ f_MD_39) rfl d_MD_write_72 ?_
            refine x_iload_n C d_MD_write_75 rfl rfl ?_
            refine x_mIv C hMg3 16 5 kI_16 rfl (j := i) (by omega) (mI μ 16 i) rfl d_MD_write_76 ?_
            refine x_if_ne C 166 d_MD_write_77 (by decide) (fun c_77 => ?_) (fun c_77 => ?_)
            · exact tail _ _ _ hMg3 (hFg1.tr hFg3)
            · refine x_aload_n C d_MD_write_80 rfl rfl ?_
              refine x_get C hMg3.1 rfl (in_MD _) 26 (by decide) (List.mem_cons_of_mem _ f_MD_69) rfl d_MD_write_81 ?_
              refine x_iload_n C d_MD_write_84 rfl rfl ?_
              refine x_mZv C hMg3 26 5 kZ_26 rfl (j := i) (by omega) (mZ μ 26 i) rfl d_MD_write_85 ?_
              refine x_if_eq C 106 d_MD_write_86 (by decide) (fun c_86 => ?_) (fun c_86 => ?_)
              · refine x_iconst C (v := 0) d_MD_write_106 (by decide) ?_
                refine x_istore C d_MD_write_107 (Nat.le_of_ble_eq_true rfl) rfl ?_
                have ho2 : mOo μ i (mF μ 0 x) = false := by
                  cases hz : mOo μ i (mF μ 0 x) with
                  | false => rfl
                  | true => exact absurd ⟨c_77, hz⟩ hoo
                rw [← nI_0]
                exact loop ho2 _ hMg3 (hFg1.tr hFg3) 300 0 _ (by omega)
              · refine x_aload_n C d_MD_write_89 rfl rfl ?_
                refine x_get C hMg3.1 rfl (in_MD _) 23 (by decide) (List.mem_cons_of_mem _ f_MD_60) rfl d_MD_write_90 ?_
                refine x_iload_n C d_MD_write_93 rfl rfl ?_
                refine x_mJv C hMg3 23 5 kJ_23 rfl (j := i) (by omega) (mJ μ 23 i) rfl d_MD_write_94 ?_
                refine x_lload C d_MD_write_95 rfl ?_
                refine x_callS2 C (q_MD_isLess l E) (lk_MD_106 C.hts (Nat.le_of_ble_eq_true rfl) (Nat.le_of_ble_eq_true rfl)) rfl d_MD_write_97 (Nat.le_of_ble_eq_true rfl) (Nat.le_of_ble_eq_true rfl) (Nat.le_of_ble_eq_true rfl) (fun r G' h => ?_)
                obtain ⟨rfl, rfl⟩ : r = some (.int (bI (mLs (mJ μ 23 i) (mF μ 0 (x))))) ∧ _ = G' := h
                refine x_if_ne C 106 d_MD_write_100 (by decide) (fun c_100 => ?_) (fun c_100 => ?_)
                · refine x_iconst C (v := 0) d_MD_write_106 (by decide) ?_
                  refine x_istore C d_MD_write_107 (Nat.le_of_ble_eq_true rfl) rfl ?_
                  have ho2 : mOo μ i (mF μ 0 x) = false := by
                    cases hz : mOo μ i (mF μ 0 x) with
                    | false => rfl
                    | true => exact absurd ⟨c_77, hz⟩ hoo
                  rw [← nI_0]
                  exact loop ho2 _ hMg3 (hFg1.tr hFg3) 300 0 _ (by omega)
                · exact absurd ⟨c_77, (show mOo μ i (mF μ 0 x) = true from by unfold mOo; rw [bI_1 c_86, (bI_0 _).mp c_100]; rfl)⟩ hoo
          · exfalso
            clear C hnm hM
            simp_all [refWrite, bI_0]
    · exfalso
      clear C hnm hM
      simp_all [refWrite, bI_0]
  · exact absurd (hv.symm.trans ((bI_0 _).mp c_10)) (by decide)
set_option maxRecDepth 4000 in
set_option maxHeartbeats 800000 in
theorem q_MD_write_ok (l : Launch) (E : xE) {G : xw_G} {md : Nat} {a : Nat → Nat} {μ : MS} (hM : xMD E G md a μ) {i : Nat} (hi : i < 5) (hv : mVw μ (nI i) = true) {x : Int64} (hr : refWrite (mZ μ 24 i) (mI μ 15 i) (mI μ 16 i) = 0) (hoo : ¬ (mI μ 16 i = 0 ∧ mOo μ i (mF μ 0 x) = true)) {K : Nat} (hK : mS μ 6 = nI K) (hK6 : K ≤ 6) (hw : ¬ mBar μ x none K 0 0 = 22) (hfu : ¬ mS μ 12 = 300) {r0 : Nat} (hr3 : r0 < 300) (hlow : ∀ r, r < r0 → 0 < mI μ 10 r) (hfree : ¬ 0 < mI μ 10 r0) : XMk l E y_MD_write w_MD_write rm_MD_write [.ref md, .int (nI i), .long (x)] G (fun r G' => r = some (.int (mBar μ x none K 0 0)) ∧ xMD E G' md a (mWrt (sJ (mRA r0 x true K 0 (mFg (sS μ 0 0) i)) 9 r0 x) i r0 (mF μ 0 x)) ∧ xFc G G') 0 0 := by
  refine XM_of [some (.ref md), some (.int (nI i)), some (.long (x)), none, none, none, none, none] (XZ_st E) (by decide) rfl rfl rfl (Nat.le_of_ble_eq_true rfl) (fun p e s m below meth c C hnm => ?_)
  have loopF : ∀ (G1 : xw_G) (hM1 : xMD E G1 md a (mFg (sS μ 0 0) i)) (hF1 : xFc G G1) (n t : Nat), t + n = r0 → XW p l e rm_MD_write s m #[.ref md, .int (nI i), .long (x)] below meth c (XQ below #[.ref md, .int (nI i), .long (x)] s (xD E) xcl (xB E) (fun r G' => r = some (.int (mBar μ x none K 0 0)) ∧ xMD E G' md a (mWrt (sJ (mRA r0 x true K 0 (mFg (sS μ 0 0) i)) 9 r0 x) i r0 (mF μ 0 x)) ∧ xFc G G') 0 0) (xD E) xcl (xB E) 200 [some (.ref md), some (.int (nI i)), some (.long (x)), none, some (.long (mF μ 0 x)), none, some (.int (mBar μ x none K 0 0)), some (.int (nI t))] [] G1 0 0 := by
    intro G1 hM1 hF1 n
    induction n with
    | zero =>
      intro t ht
      have ht2 : t = r0 := by omega
      subst ht2
      refine x_aload_n C d_MD_write_200 rfl rfl ?_
      refine x_get C hM1.1 rfl (in_MD _) 10 (by decide) (List.mem_cons_of_mem _ f_MD_30) rfl d_MD_write_201 ?_
      refine x_iload C d_MD_write_204 rfl ?_
      refine x_mIv C hM1 10 300 kI_10 rfl (j := t) (by omega) (mI μ 10 t) rfl d_MD_write_206 ?_
      refine x_if_le C 216 d_MD_write_207 (by decide) (fun c_207 => ?_) (fun c_207 => ?_)
      · refine x_aload_n C d_MD_write_216 rfl rfl ?_
        refine x_iload C d_MD_write_217 rfl ?_
        refine x_lload_n C d_MD_write_219 rfl rfl ?_
        refine x_iconst C (v := 1) d_MD_write_220 (by decide) ?_
        refine x_callV3 C (q_MD_rankAll l E hM1 (K := K) (sl := t) (fr := true) hK hK6 (by omega)) (lk_MD_158 C.hts (Nat.le_of_ble_eq_true rfl) (Nat.le_of_ble_eq_true rfl)) hM1.1 rfl rfl d_MD_write_221 (Nat.le_of_ble_eq_true rfl) (Nat.le_of_ble_eq_true rfl) (Nat.le_of_ble_eq_true rfl) (fun r G' h => ?_)
        obtain ⟨rfl, hMg1, hFg1⟩ : r = none ∧ xMD E G' md a (sJ (mRA t (x) true K 0 (mFg (sS μ 0 0) i)) 9 t (x)) ∧ xFc _ G' := h
        refine x_aload_n C d_MD_write_224 rfl rfl ?_
        refine x_dup C d_MD_write_225 rfl ?_
        refine x_get C hMg1.1 rfl (in_MD _) 13 (by decide) (List.mem_cons_of_mem _ f_MD_162) rfl d_MD_write_226 ?_
        refine x_as1 (v := .int (mS (sJ (mRA t (x) true K 0 (mFg (sS μ 0 0) i)) 9 t (x)) 13)) rfl ?_
        refine x_iconst C (v := 1) d_MD_write_229 (by decide) ?_
        refine x_iadd C d_MD_write_230 ?_
        refine x_mSp C hMg1 13 (by decide) (x := (mS (sJ (mRA t (x) true K 0 (mFg (sS μ 0 0) i)) 9 t (x)) 13) + (1)) f_MD_162 rfl rfl rfl d_MD_write_231 (fun _ hMg2 hFg2 => ?_)
        refine x_aload_n C d_MD_write_234 rfl rfl ?_
        refine x_get C hMg2.1 rfl (in_MD _) 10 (by decide) (List.mem_cons_of_mem _ f_MD_30) rfl d_MD_write_235 ?_
        refine x_iload C d_MD_write_238 rfl ?_
        refine x_aload_n C d_MD_write_240 rfl rfl ?_
        refine x_get C hMg2.1 rfl (in_MD _) 13 (by decide) (List.mem_cons_of_mem _ f_MD_162) rfl d_MD_write_241 ?_
        refine x_as1 (v := .int (mS (sS (sJ (mRA t (x) true K 0 (mFg (sS μ 0 0) i)) 9 t (x)) 13 ((mS (sJ (mRA t (x) true K 0 (mFg (sS μ 0 0) i)) 9 t (x)) 13) + (1))) 13)) rfl ?_
        refine x_mIs C hMg2 10 300 kI_10 (j := t) (x := mS (sS (sJ (mRA t (x) true K 0 (mFg (sS μ 0 0) i)) 9 t (x)) 13 ((mS (sJ (mRA t (x) true K 0 (mFg (sS μ 0 0) i)) 9 t (x)) 13) + (1))) 13) rfl (by omega) d_MD_write_244 (fun _ hMg3 hFg3 => ?_)
        refine x_aload_n C d_MD_write_245 rfl rfl ?_
        refine x_dup C d_MD_write_246 rfl ?_
        refine x_get C hMg3.1 rfl (in_MD _) 12 (by decide) (List.mem_cons_of_mem _ f_MD_95) rfl d_MD_write_247 ?_
        refine x_as1 (v := .int (mS (sJ (mRA t (x) true K 0 (mFg (sS μ 0 0) i)) 9 t (x)) 12)) rfl ?_
        refine x_iconst C (v := 1) d_MD_write_250 (by decide) ?_
        refine x_iadd C d_MD_write_251 ?_
        refine x_mSp C hMg3 12 (by decide) (x := (mS (sJ (mRA t (x) true K 0 (mFg (sS μ 0 0) i)) 9 t (x)) 12) + (1)) f_MD_95 rfl rfl rfl d_MD_write_252 (fun _ hMg4 hFg4 => ?_)
        refine x_aload_n C d_MD_write_255 rfl rfl ?_
        refine x_get C hMg4.1 rfl (in_MD _) 26 (by decide) (List.mem_cons_of_mem _ f_MD_69) rfl d_MD_write_256 ?_
        refine x_iload_n C d_MD_write_259 rfl rfl ?_
        refine x_iconst C (v := 1) d_MD_write_260 (by decide) ?_
        refine x_mZs C hMg4 26 5 kZ_26 (j := i) true rfl (by omega) d_MD_write_261 (fun _ hMg5 hFg5 => ?_)
        refine x_aload_n C d_MD_write_262 rfl rfl ?_
        refine x_get C hMg5.1 rfl (in_MD _) 23 (by decide) (List.mem_cons_of_mem _ f_MD_60) rfl d_MD_write_263 ?_
        refine x_iload_n C d_MD_write_266 rfl rfl ?_
        refine x_lload C d_MD_write_267 rfl ?_
        refine x_mJs C hMg5 23 5 kJ_23 (j := i) (x := mF μ 0 x) rfl (by omega) d_MD_write_269 (fun _ hMg6 hFg6 => ?_)
        refine x_iload C d_MD_write_270 rfl ?_
        exact x_iret C (Nat.le_of_ble_eq_true rfl) (Nat.le_of_ble_eq_true rfl) d_MD_write_272 ⟨rfl, hMg6, (((((hF1.tr hFg1).tr hFg2).tr hFg3).tr hFg4).tr hFg5).tr hFg6⟩
      · exact absurd (Int32.not_le.mp c_207) hfree
    | succ n ih =>
      intro t ht
      refine x_aload_n C d_MD_write_200 rfl rfl ?_
      refine x_get C hM1.1 rfl (in_MD _) 10 (by decide) (List.mem_cons_of_mem _ f_MD_30) rfl d_MD_write_201 ?_
      refine x_iload C d_MD_write_204 rfl ?_
      refine x_mIv C hM1 10 300 kI_10 rfl (j := t) (by omega) (mI μ 10 t) rfl d_MD_write_206 ?_
      refine x_if_le C 216 d_MD_write_207 (by decide) (fun c_207 => ?_) (fun c_207 => ?_)
      · exact absurd (hlow t (by omega)) (Int32.not_lt.mpr c_207)
      · refine x_iinc C d_MD_write_210 rfl rfl rfl ?_
        refine x_goto C 200 d_MD_write_213 (by decide) ?_
        rw [show nI t + Int32.ofInt 1 = nI (t + 1) from nI_1 t]
        exact ih (t + 1) (by omega)
  have tail : ∀ (G1 : xw_G) (v6 v7 : Option Value), xMD E G1 md a (mFg (sS μ 0 0) i) → xFc G G1 → XW p l e rm_MD_write s m #[.ref md, .int (nI i), .long (x)] below meth c (XQ below #[.ref md, .int (nI i), .long (x)] s (xD E) xcl (xB E) (fun r G' => r = some (.int (mBar μ x none K 0 0)) ∧ xMD E G' md a (mWrt (sJ (mRA r0 x true K 0 (mFg (sS μ 0 0) i)) 9 r0 x) i r0 (mF μ 0 x)) ∧ xFc G G') 0 0) (xD E) xcl (xB E) 166 [some (.ref md), some (.int (nI i)), some (.long x), none, some (.long (mF μ 0 x)), none, v6, v7] [] G1 0 0 := by
    intro G1 v6 v7 hM1 hF1
    refine x_aload_n C d_MD_write_166 rfl rfl ?_
    refine x_lload_n C d_MD_write_167 rfl rfl ?_
    refine x_iconst C (v := -1) d_MD_write_168 (by decide) ?_
    refine x_callV2 C (q_MD_barred l E hM1 (K := K) hK hK6 (but := none) (fun _ z => by cases z)) (lk_MD_154 C.hts (Nat.le_of_ble_eq_true rfl) (Nat.le_of_ble_eq_true rfl)) hM1.1 rfl rfl d_MD_write_169 (Nat.le_of_ble_eq_true rfl) (Nat.le_of_ble_eq_true rfl) (Nat.le_of_ble_eq_true rfl) (fun r G' h => ?_)
    rw [mBar_c (μ := (mFg (sS μ 0 0) i)) (μ' := μ) (fun _ _ => rfl)] at h
    obtain ⟨rfl, rfl⟩ : r = some (.int (mBar μ (x) none K 0 0)) ∧ _ = G' := h
    refine x_istore C d_MD_write_172 (Nat.le_of_ble_eq_true rfl) rfl ?_
    refine x_iload C d_MD_write_174 rfl ?_
    refine x_bipush C (v := 22) d_MD_write_176 (by decide) ?_
    refine x_icmp_ne C 184 d_MD_write_178 (by decide) (fun c_178 => ?_) (fun c_178 => ?_)
    · refine x_aload_n C d_MD_write_184 rfl rfl ?_
      refine x_get C hM1.1 rfl (in_MD _) 12 (by decide) (List.mem_cons_of_mem _ f_MD_95) rfl d_MD_write_185 ?_
      refine x_as1 (v := .int (mS μ 12)) rfl ?_
      refine x_sipush C (v := 300) d_MD_write_188 (by decide) ?_
      refine x_icmp_ne C 197 d_MD_write_191 (by decide) (fun c_191 => ?_) (fun c_191 => ?_)
      · refine x_iconst C (v := 0) d_MD_write_197 (by decide) ?_
        refine x_istore C d_MD_write_198 (Nat.le_of_ble_eq_true rfl) rfl ?_
        rw [← nI_0]
        exact loopF _ hM1 (hF1) r0 0 (by omega)
      · exact absurd c_191 hfu
    · exact absurd c_178 hw
  have loop : ∀ (ho2 : mOo μ i (mF μ 0 x) = false) (G1 : xw_G) (hM1 : xMD E G1 md a (mFg (sS μ 0 0) i)) (hF1 : xFc G G1) (n t : Nat) (v7 : Option Value), t + n = 300 → XW p l e rm_MD_write s m #[.ref md, .int (nI i), .long (x)] below meth c (XQ below #[.ref md, .int (nI i), .long (x)] s (xD E) xcl (xB E) (fun r G' => r = some (.int (mBar μ x none K 0 0)) ∧ xMD E G' md a (mWrt (sJ (mRA r0 x true K 0 (mFg (sS μ 0 0) i)) 9 r0 x) i r0 (mF μ 0 x)) ∧ xFc G G') 0 0) (xD E) xcl (xB E) 109 [some (.ref md), some (.int (nI i)), some (.long (x)), none, some (.long (mF μ 0 x)), none, some (.int (nI t)), v7] [] G1 0 0 := by
    intro ho2 G1 hM1 hF1 n
    induction n with
    | zero =>
      intro t v7 ht
      refine x_iload C d_MD_write_109 rfl ?_
      refine x_sipush C (v := 300) d_MD_write_111 (by decide) ?_
      refine x_icmp_ge C 166 d_MD_write_114 (by decide) (fun c_114 => ?_) (fun c_114 => ?_)
      · exact tail _ _ _ hM1 (hF1)
      · exact absurd (nI_le (a := 300) (b := t) (by omega) (by omega)) c_114
    | succ n ih =>
      intro t v7 ht
      refine x_iload C d_MD_write_109 rfl ?_
      refine x_sipush C (v := 300) d_MD_write_111 (by decide) ?_
      refine x_icmp_ge C 166 d_MD_write_114 (by decide) (fun c_114 => ?_) (fun c_114 => ?_)
      · exact absurd c_114 (nI_ge (a := t) (b := 300) (by omega) (by omega))
      · refine x_aload_n C d_MD_write_117 rfl rfl ?_
        refine x_get C hM1.1 rfl (in_MD _) 15 (by decide) (List.mem_cons_of_mem _ f_MD_36) rfl d_MD_write_118 ?_
        refine x_iload_n C d_MD_write_121 rfl rfl ?_
        refine x_mIv C hM1 15 5 kI_15 rfl (j := i) (by omega) (mI μ 15 i) rfl d_MD_write_122 ?_
        refine x_iconst C (v := 3) d_MD_write_123 (by decide) ?_
        refine x_icmp_ne C 166 d_MD_write_124 (by decide) (fun c_124 => ?_) (fun c_124 => ?_)
        · exact tail _ _ _ hM1 (hF1)
        · refine x_aload_n C d_MD_write_127 rfl rfl ?_
          refine x_get C hM1.1 rfl (in_MD _) 10 (by decide) (List.mem_cons_of_mem _ f_MD_30) rfl d_MD_write_128 ?_
          refine x_iload C d_MD_write_131 rfl ?_
          refine x_mIv C hM1 10 300 kI_10 rfl (j := t) (by omega) (mI μ 10 t) rfl d_MD_write_133 ?_
          refine x_if_le C 160 d_MD_write_134 (by decide) (fun c_134 => ?_) (fun c_134 => ?_)
          · refine x_iinc C d_MD_write_160 rfl rfl rfl ?_
            refine x_goto C 109 d_MD_write_163 (by decide) ?_
            rw [show nI t + Int32.ofInt 1 = nI (t + 1) from nI_1 t]
            exact ih (t + 1) _ (by omega)
          · refine x_aload_n C d_MD_write_137 rfl rfl ?_
            refine x_iconst C (v := 0) d_MD_write_138 (by decide) ?_
            refine x_aload_n C d_MD_write_139 rfl rfl ?_
            refine x_get C hM1.1 rfl (in_MD _) 9 (by decide) (List.mem_cons_of_mem _ f_MD_27) rfl d_MD_write_140 ?_
            refine x_iload C d_MD_write_143 rfl ?_
            refine x_mJv C hM1 9 300 kJ_9 rfl (j := t) (by omega) (mJ μ 9 t) rfl d_MD_write_145 ?_
            refine x_callV2 C (q_MD_field l E hM1 (k := 0) (by omega)) (lk_MD_98 C.hts (Nat.le_of_ble_eq_true rfl) (Nat.le_of_ble_eq_true rfl)) hM1.1 rfl rfl d_MD_write_146 (Nat.le_of_ble_eq_true rfl) (Nat.le_of_ble_eq_true rfl) (Nat.le_of_ble_eq_true rfl) (fun r G' h => ?_)
            obtain ⟨rfl, rfl⟩ : r = some (.long (mF μ 0 (mJ μ 9 t))) ∧ _ = G' := h
            refine x_lload C d_MD_write_149 rfl ?_
            refine x_callS2 C (q_MD_isLess l E) (lk_MD_106 C.hts (Nat.le_of_ble_eq_true rfl) (Nat.le_of_ble_eq_true rfl)) rfl d_MD_write_151 (Nat.le_of_ble_eq_true rfl) (Nat.le_of_ble_eq_true rfl) (Nat.le_of_ble_eq_true rfl) (fun r G' h => ?_)
            obtain ⟨rfl, rfl⟩ : r = some (.int (bI (mLs (mF μ 0 (mJ μ 9 t)) (mF μ 0 x)))) ∧ _ = G' := h
            refine x_if_ne C 160 d_MD_write_154 (by decide) (fun c_154 => ?_) (fun c_154 => ?_)
            · refine x_iinc C d_MD_write_160 rfl rfl rfl ?_
              refine x_goto C 109 d_MD_write_163 (by decide) ?_
              rw [show nI t + Int32.ofInt 1 = nI (t + 1) from nI_1 t]
              exact ih (t + 1) _ (by omega)
            · have h3 : mI μ 15 i = 3 := c_124
              exact absurd (mOo_r ho2 h3 (show t < 300 by omega)) (by unfold mOoR; rw [(bI_0 _).mp c_154]; simp [Int32.not_le.mp c_134])
  refine x_aload_n C d_MD_write_0 rfl rfl ?_
  refine x_iconst C (v := 0) d_MD_write_1 (by decide) ?_
  refine x_mSp C hM 0 (by decide) (x := 0) f_MD_72 rfl rfl rfl d_MD_write_2 (fun _ hMg1 hFg1 => ?_)
  refine x_aload_n C d_MD_write_5 rfl rfl ?_
  refine x_iload_n C d_MD_write_6 rfl rfl ?_
  refine x_callV1 C (q_MD_isView l E hMg1) (lk_MD_92 C.hts (Nat.le_of_ble_eq_true rfl) (Nat.le_of_ble_eq_true rfl)) hMg1.1 rfl rfl d_MD_write_7 (Nat.le_of_ble_eq_true rfl) (Nat.le_of_ble_eq_true rfl) (Nat.le_of_ble_eq_true rfl) (fun r G' h => ?_)
  obtain ⟨rfl, rfl⟩ : r = some (.int (bI (mVw μ (nI i)))) ∧ _ = G' := h
  refine x_if_ne C 15 d_MD_write_10 (by decide) (fun c_10 => ?_) (fun c_10 => ?_)
  · refine x_aload_n C d_MD_write_15 rfl rfl ?_
    refine x_get C hMg1.1 rfl (in_MD _) 24 (by decide) (List.mem_cons_of_mem _ f_MD_63) rfl d_MD_write_16 ?_
    refine x_iload_n C d_MD_write_19 rfl rfl ?_
    refine x_mZv C hMg1 24 5 kZ_24 rfl (j := i) (by omega) (mZ μ 24 i) rfl d_MD_write_20 ?_
    refine x_if_ne C 27 d_MD_write_21 (by decide) (fun c_21 => ?_) (fun c_21 => ?_)
    · refine x_aload_n C d_MD_write_27 rfl rfl ?_
      refine x_get C hMg1.1 rfl (in_MD _) 15 (by decide) (List.mem_cons_of_mem _ f_MD_36) rfl d_MD_write_28 ?_
      refine x_iload_n C d_MD_write_31 rfl rfl ?_
      refine x_mIv C hMg1 15 5 kI_15 rfl (j := i) (by omega) (mI μ 15 i) rfl d_MD_write_32 ?_
      refine x_if_eq C 55 d_MD_write_33 (by decide) (fun c_33 => ?_) (fun c_33 => ?_)
      · exfalso
        clear C hnm hM
        simp_all [refWrite, bI_0]
      · refine x_aload_n C d_MD_write_36 rfl rfl ?_
        refine x_get C hMg1.1 rfl (in_MD _) 15 (by decide) (List.mem_cons_of_mem _ f_MD_36) rfl d_MD_write_37 ?_
        refine x_iload_n C d_MD_write_40 rfl rfl ?_
        refine x_mIv C hMg1 15 5 kI_15 rfl (j := i) (by omega) (mI μ 15 i) rfl d_MD_write_41 ?_
        refine x_iconst C (v := 2) d_MD_write_42 (by decide) ?_
        refine x_icmp_ne C 58 d_MD_write_43 (by decide) (fun c_43 => ?_) (fun c_43 => ?_)
        · refine x_aload_n C d_MD_write_58 rfl rfl ?_
          refine x_iload_n C d_MD_write_59 rfl rfl ?_
          refine x_callV1 C (q_MD_forget l E hMg1 (i := i) (by omega)) (lk_MD_150 C.hts (Nat.le_of_ble_eq_true rfl) (Nat.le_of_ble_eq_true rfl)) hMg1.1 rfl rfl d_MD_write_60 (Nat.le_of_ble_eq_true rfl) (Nat.le_of_ble_eq_true rfl) (Nat.le_of_ble_eq_true rfl) (fun r G' h => ?_)
          obtain ⟨rfl, hMg2, hFg2⟩ : r = none ∧ xMD E G' md a (mFg (sS μ 0 (0)) i) ∧ xFc _ G' := h
          refine x_aload_n C d_MD_write_63 rfl rfl ?_
          refine x_iconst C (v := 0) d_MD_write_64 (by decide) ?_
          refine x_lload_n C d_MD_write_65 rfl rfl ?_
          refine x_callV2 C (q_MD_field l E hMg2 (k := 0) (by omega)) (lk_MD_98 C.hts (Nat.le_of_ble_eq_true rfl) (Nat.le_of_ble_eq_true rfl)) hMg2.1 rfl rfl d_MD_write_66 (Nat.le_of_ble_eq_true rfl) (Nat.le_of_ble_eq_true rfl) (Nat.le_of_ble_eq_true rfl) (fun r G' h => ?_)
          obtain ⟨rfl, rfl⟩ : r = some (.long (mF μ 0 (x))) ∧ _ = G' := h
          refine x_lstore C d_MD_write_69 (Nat.le_of_ble_eq_true rfl) rfl ?_
          refine x_aload_n C d_MD_write_71 rfl rfl ?_
          refine x_get C hMg2.1 rfl (in_MD _) 16 (by decide) (List.mem_cons_of_mem _ f_MD_39) rfl d_MD_write_72 ?_
          refine x_iload_n C d_MD_write_75 rfl rfl ?_
          refine x_mIv C hMg2 16 5 kI_16 rfl (j := i) (by omega) (mI μ 16 i) rfl d_MD_write_76 ?_
          refine x_if_ne C 166 d_MD_write_77 (by decide) (fun c_77 => ?_) (fun c_77 => ?_)
          · exact tail _ _ _ hMg2 (hFg1.tr hFg2)
          · refine x_aload_n C d_MD_write_80 rfl rfl ?_
            refine x_get C hMg2.1 rfl (in_MD _) 26 (by decide) (List.mem_cons_of_mem _ f_MD_69) rfl d_MD_write_81 ?_
            refine x_iload_n C d_MD_write_84 rfl rfl ?_
            refine x_mZv C hMg2 26 5 kZ_26 rfl (j := i) (by omega) (mZ μ 26 i) rfl d_MD_write_85 ?_
            refine x_if_eq C 106 d_MD_write_86 (by decide) (fun c_86 => ?_) (fun c_86 => ?_)
            · refine x_iconst C (v := 0) d_MD_write_106 (by decide) ?_
              refine x_istore C d_MD_write_107 (Nat.le_of_ble_eq_true rfl) rfl ?_
              have ho2 : mOo μ i (mF μ 0 x) = false := by
                cases hz : mOo μ i (mF μ 0 x) with
                | false => rfl
                | true => exact absurd ⟨c_77, hz⟩ hoo
              rw [← nI_0]
              exact loop ho2 _ hMg2 (hFg1.tr hFg2) 300 0 _ (by omega)
            · refine x_aload_n C d_MD_write_89 rfl rfl ?_
              refine x_get C hMg2.1 rfl (in_MD _) 23 (by decide) (List.mem_cons_of_mem _ f_MD_60) rfl d_MD_write_90 ?_
              refine x_iload_n C d_MD_write_93 rfl rfl ?_
              refine x_mJv C hMg2 23 5 kJ_23 rfl (j := i) (by omega) (mJ μ 23 i) rfl d_MD_write_94 ?_
              refine x_lload C d_MD_write_95 rfl ?_
              refine x_callS2 C (q_MD_isLess l E) (lk_MD_106 C.hts (Nat.le_of_ble_eq_true rfl) (Nat.le_of_ble_eq_true rfl)) rfl d_MD_write_97 (Nat.le_of_ble_eq_true rfl) (Nat.le_of_ble_eq_true rfl) (Nat.le_of_ble_eq_true rfl) (fun r G' h => ?_)
              obtain ⟨rfl, rfl⟩ : r = some (.int (bI (mLs (mJ μ 23 i) (mF μ 0 (x))))) ∧ _ = G' := h
              refine x_if_ne C 106 d_MD_write_100 (by decide) (fun c_100 => ?_) (fun c_100 => ?_)
              · refine x_iconst C (v := 0) d_MD_write_106 (by decide) ?_
                refine x_istore C d_MD_write_107 (Nat.le_of_ble_eq_true rfl) rfl ?_
                have ho2 : mOo μ i (mF μ 0 x) = false := by
                  cases hz : mOo μ i (mF μ 0 x) with
                  | false => rfl
                  | true => exact absurd ⟨c_77, hz⟩ hoo
                rw [← nI_0]
                exact loop ho2 _ hMg2 (hFg1.tr hFg2) 300 0 _ (by omega)
              · exact absurd ⟨c_77, (show mOo μ i (mF μ 0 x) = true from by unfold mOo; rw [bI_1 c_86, (bI_0 _).mp c_100]; rfl)⟩ hoo
        · refine x_aload_n C d_MD_write_46 rfl rfl ?_
          refine x_get C hMg1.1 rfl (in_MD _) 16 (by decide) (List.mem_cons_of_mem _ f_MD_39) rfl d_MD_write_47 ?_
          refine x_iload_n C d_MD_write_50 rfl rfl ?_
          refine x_mIv C hMg1 16 5 kI_16 rfl (j := i) (by omega) (mI μ 16 i) rfl d_MD_write_51 ?_
          refine x_if_ne C 58 d_MD_write_52 (by decide) (fun c_52 => ?_) (fun c_52 => ?_)
          · refine x_aload_n C d_MD_write_58 rfl rfl ?_
            refine x_iload_n C d_MD_write_59 rfl rfl ?_
            refine x_callV1 C (q_MD_forget l E hMg1 (i := i) (by omega)) (lk_MD_150 C.hts (Nat.le_of_ble_eq_true rfl) (Nat.le_of_ble_eq_true rfl)) hMg1.1 rfl rfl d_MD_write_60 (Nat.le_of_ble_eq_true rfl) (Nat.le_of_ble_eq_true rfl) (Nat.le_of_ble_eq_true rfl) (fun r G' h => ?_)
            obtain ⟨rfl, hMg3, hFg3⟩ : r = none ∧ xMD E G' md a (mFg (sS μ 0 (0)) i) ∧ xFc _ G' := h
            refine x_aload_n C d_MD_write_63 rfl rfl ?_
            refine x_iconst C (v := 0) d_MD_write_64 (by decide) ?_
            refine x_lload_n C d_MD_write_65 rfl rfl ?_
            refine x_callV2 C (q_MD_field l E hMg3 (k := 0) (by omega)) (lk_MD_98 C.hts (Nat.le_of_ble_eq_true rfl) (Nat.le_of_ble_eq_true rfl)) hMg3.1 rfl rfl d_MD_write_66 (Nat.le_of_ble_eq_true rfl) (Nat.le_of_ble_eq_true rfl) (Nat.le_of_ble_eq_true rfl) (fun r G' h => ?_)
            obtain ⟨rfl, rfl⟩ : r = some (.long (mF μ 0 (x))) ∧ _ = G' := h
            refine x_lstore C d_MD_write_69 (Nat.le_of_ble_eq_true rfl) rfl ?_
            refine x_aload_n C d_MD_write_71 rfl rfl ?_
            refine x_get C hMg3.1 rfl (in_MD _) 16 (by decide) (List.mem_cons_of_mem _ f_MD_39) rfl d_MD_write_72 ?_
            refine x_iload_n C d_MD_write_75 rfl rfl ?_
            refine x_mIv C hMg3 16 5 kI_16 rfl (j := i) (by omega) (mI μ 16 i) rfl d_MD_write_76 ?_
            refine x_if_ne C 166 d_MD_write_77 (by decide) (fun c_77 => ?_) (fun c_77 => ?_)
            · exact tail _ _ _ hMg3 (hFg1.tr hFg3)
            · refine x_aload_n C d_MD_write_80 rfl rfl ?_
              refine x_get C hMg3.1 rfl (in_MD _) 26 (by decide) (List.mem_cons_of_mem _ f_MD_69) rfl d_MD_write_81 ?_
              refine x_iload_n C d_MD_write_84 rfl rfl ?_
              refine x_mZv C hMg3 26 5 kZ_26 rfl (j := i) (by omega) (mZ μ 26 i) rfl d_MD_write_85 ?_
              refine x_if_eq C 106 d_MD_write_86 (by decide) (fun c_86 => ?_) (fun c_86 => ?_)
              · refine x_iconst C (v := 0) d_MD_write_106 (by decide) ?_
                refine x_istore C d_MD_write_107 (Nat.le_of_ble_eq_true rfl) rfl ?_
                have ho2 : mOo μ i (mF μ 0 x) = false := by
                  cases hz : mOo μ i (mF μ 0 x) with
                  | false => rfl
                  | true => exact absurd ⟨c_77, hz⟩ hoo
                rw [← nI_0]
                exact loop ho2 _ hMg3 (hFg1.tr hFg3) 300 0 _ (by omega)
              · refine x_aload_n C d_MD_write_89 rfl rfl ?_
                refine x_get C hMg3.1 rfl (in_MD _) 23 (by decide) (List.mem_cons_of_mem _ f_MD_60) rfl d_MD_write_90 ?_
                refine x_iload_n C d_MD_write_93 rfl rfl ?_
                refine x_mJv C hMg3 23 5 kJ_23 rfl (j := i) (by omega) (mJ μ 23 i) rfl d_MD_write_94 ?_
                refine x_lload C d_MD_write_95 rfl ?_
                refine x_callS2 C (q_MD_isLess l E) (lk_MD_106 C.hts (Nat.le_of_ble_eq_true rfl) (Nat.le_of_ble_eq_true rfl)) rfl d_MD_write_97 (Nat.le_of_ble_eq_true rfl) (Nat.le_of_ble_eq_true rfl) (Nat.le_of_ble_eq_true rfl) (fun r G' h => ?_)
                obtain ⟨rfl, rfl⟩ : r = some (.int (bI (mLs (mJ μ 23 i) (mF μ 0 (x))))) ∧ _ = G' := h
                refine x_if_ne C 106 d_MD_write_100 (by decide) (fun c_100 => ?_) (fun c_100 => ?_)
                · refine x_iconst C (v := 0) d_MD_write_106 (by decide) ?_
                  refine x_istore C d_MD_write_107 (Nat.le_of_ble_eq_true rfl) rfl ?_
                  have ho2 : mOo μ i (mF μ 0 x) = false := by
                    cases hz : mOo μ i (mF μ 0 x) with
                    | false => rfl
                    | true => exact absurd ⟨c_77, hz⟩ hoo
                  rw [← nI_0]
                  exact loop ho2 _ hMg3 (hFg1.tr hFg3) 300 0 _ (by omega)
                · exact absurd ⟨c_77, (show mOo μ i (mF μ 0 x) = true from by unfold mOo; rw [bI_1 c_86, (bI_0 _).mp c_100]; rfl)⟩ hoo
          · exfalso
            clear C hnm hM
            simp_all [refWrite, bI_0]
    · exfalso
      clear C hnm hM
      simp_all [refWrite, bI_0]
  · exact absurd (hv.symm.trans ((bI_0 _).mp c_10)) (by decide)
