/-! THE LAW'S ENTRY: what is known at the start; by wip/whole/gen_start.py -/
theorem eq_int {args : Array Value} {s : State} {tm : Term} {z : Int32} (h : (Cond.eq tm (.int z)).before args s = true) : tm.eval args s none [] s = some (.int z) := by
  cases hv : tm.eval args s none [] s with
  | none => simp [Cond.before, Cond.holds, Cond.value, hv] at h
  | some w =>
    have hz : (Term.int z).eval args s none [] s = some (.int z) := rfl
    simp only [Cond.before, Cond.holds, Cond.value, hv, hz] at h
    cases w <;> simp_all
theorem arr_prim {args : Array Value} {s : State} {ty : FieldType} (h : (Cond.arrayClass ty).before args s = true) : ∃ cA : ClassId, ArrOfT s cA ty ∧ s.vm.findClass ("[" ++ ty.toString) = some cA := by
  obtain ⟨c, k, comp, h1, h2, h3⟩ := Cond.arrayClass_spec h
  exact ⟨c, fun n z => ⟨(fun k h => by cases h), k, h2, comp, h3⟩, h1⟩
theorem arr_obj {args : Array Value} {s : State} {C : String} (h : (Cond.arrayOver (.object C)).before args s = true) : ∃ cA : ClassId, ArrOfT s cA (.object C) ∧ va_RA s cA (.object C) := by
  obtain ⟨comp, c, k, h1, h2, h3, h4, h5⟩ := Cond.arrayOver_spec h
  exact ⟨c, fun n z => ⟨(fun k h => by cases h), k, h3, comp, h4⟩, k, comp, h3, h4, h1, h5⟩
set_option maxRecDepth 100000 in
set_option maxHeartbeats 4000000 in
theorem lw_E {s : State} {b : Nat} (hts0 : ∀ w ∈ lw_tbl, w.before #[Value.ref b] s = true) (hgv : (Jvm.Cond.and given_1 narrow_1).before #[Value.ref b] s = true) (hts : ∀ w ∈ Cond.initialized "KeyedFilesLaw" :: XT, w.before #[Value.ref b] s = true) : ∃ E : xE, va_K (xD E) xcl (xtys E) s ∧ xB E = s.heap.size ∧ XZ E s ∧ xw_em (xO E) (xaE E) s.heap := by
  obtain ⟨c0, i0, h0⟩ := u_known (C := R_KF) (T := T_KF) (N := 5) (n := 5) hts (in_KF _) (hts _ (List.mem_cons_of_mem _ kb_KF))
  obtain ⟨c1, i1, h1⟩ := u_known (C := R_EN) (T := T_EN) (N := 3) (n := 3) hts (in_EN _) (hts _ (List.mem_cons_of_mem _ kb_EN))
  obtain ⟨c2, i2, h2⟩ := u_known (C := R_KI) (T := T_KI) (N := 6) (n := 6) hts (in_KI _) (hts _ (List.mem_cons_of_mem _ kb_KI))
  obtain ⟨c3, i3, h3⟩ := u_known (C := R_ST) (T := T_ST) (N := 3) (n := 3) hts (in_ST _) (hts _ (List.mem_cons_of_mem _ kb_ST))
  obtain ⟨c4, i4, h4⟩ := u_known (C := R_VW) (T := T_VW) (N := 12) (n := 12) hts (in_VW _) (hts _ (List.mem_cons_of_mem _ kb_VW))
  obtain ⟨c5, i5, h5⟩ := u_known (C := R_MD) (T := T_MD) (N := 29) (n := 29) hts (in_MD _) (hts _ (List.mem_cons_of_mem _ kb_MD))
  obtain ⟨c6, i6, h6⟩ := u_known (C := R_AL) (T := T_AL) (N := 3) (n := 3) hts (in_AL _) (hts _ (List.mem_cons_of_mem _ kb_AL))
  obtain ⟨cI, aI, bI'⟩ := arr_prim (hts _ (List.mem_cons_of_mem _ ka_int))
  obtain ⟨cZ, aZ, bZ'⟩ := arr_prim (hts _ (List.mem_cons_of_mem _ ka_boolean))
  obtain ⟨cJ, aJ, bJ'⟩ := arr_prim (hts _ (List.mem_cons_of_mem _ ka_long))
  have hAO := hts0 (Cond.arrayOver (FieldType.object "java/lang/Object")) (List.mem_append_right _ (List.mem_of_getElem? (i := 148) (by decide +kernel)))
  obtain ⟨cO, aO, bO⟩ := arr_obj hAO
  have hs := flat_of_before _ hgv
  have hle : (Cond.eq (.length (.static "java/util/ArrayList" "DEFAULTCAPACITY_EMPTY_ELEMENTDATA" "[Ljava/lang/Object;")) (.int 0)).before #[Value.ref b] s = true := hs _ (by decide +kernel)
  have hex : (Cond.exactly (.static "java/util/ArrayList" "DEFAULTCAPACITY_EMPTY_ELEMENTDATA" "[Ljava/lang/Object;") "[Ljava/lang/Object;").before #[Value.ref b] s = true := hs _ (by decide +kernel)
  have hmr : (Cond.isRef (.mirror "[Ljava/lang/Object;")).before #[Value.ref b] s = true := hs _ (by decide +kernel)
  obtain ⟨aE, cell, e1, e2, e3⟩ := Term.length_spec (eq_int hle)
  obtain ⟨f1, f2, f3, -⟩ := State.arrayAt?_spec e2
  obtain ⟨a', c', cell', k', x1, x2, x3, -, -, x6, -⟩ := Cond.exactly_spec hex
  cases e1.symm.trans x1
  cases f1.symm.trans x3
  have hcO : cell.cls = cO := by
    obtain ⟨_, _, _, _, _, b5⟩ := bO
    have e5 : "[" ++ (FieldType.object "java/lang/Object").toString = "[Ljava/lang/Object;" := by decide +kernel
    rw [e5] at b5
    exact x6.trans (Option.some.inj (x2.symm.trans b5))
  have hem : xw_em cO aE s.heap := ⟨cell, f1, hcO, (Value.int.inj e3).symm, f2, f3⟩
  have hZ : va_Z "java/util/ArrayList" "DEFAULTCAPACITY_EMPTY_ELEMENTDATA" "[Ljava/lang/Object;" (.ref aE) (xw_A s.heap.size) s s.heap := va_Zref (hts0 (Cond.laysStatic "java/util/ArrayList" "DEFAULTCAPACITY_EMPTY_ELEMENTDATA" "[Ljava/lang/Object;") (List.mem_append_right _ (List.mem_of_getElem? (i := 37) (by decide +kernel)))) (hts _ (List.mem_cons_of_mem _ kz_AL)) e1 (fun a h => Nat.not_le.mpr h)
  obtain ⟨mi, hMi⟩ := va_Mi.of hmr
  have hAO' := va_AO.of hAO
  refine ⟨((fun k => if k = 0 then c0 else if k = 1 then c1 else if k = 2 then c2 else if k = 3 then c3 else if k = 4 then c4 else if k = 5 then c5 else c6, fun k => if k = 0 then i0 else if k = 1 then i1 else if k = 2 then i2 else if k = 3 then i3 else if k = 4 then i4 else if k = 5 then i5 else i6), (cO, cI, cZ, cJ), (s.heap.size, aE, mi)), ⟨fun k q hq => ?_, fun k q hq => ?_⟩, rfl, ?_, hem⟩
  · match k, hq with
    | 0, hq => cases hq; exact h0
    | 1, hq => cases hq; exact h1
    | 2, hq => cases hq; exact h2
    | 3, hq => cases hq; exact h3
    | 4, hq => cases hq; exact h4
    | 5, hq => cases hq; exact h5
    | 6, hq => cases hq; exact h6
    | k + 7, hq => cases hq
  · match k, hq with
    | 0, hq => cases hq; exact ⟨aO, bO⟩
    | 1, hq => cases hq; exact ⟨aI, bI'⟩
    | 2, hq => cases hq; exact ⟨aZ, bZ'⟩
    | 3, hq => cases hq; exact ⟨aJ, bJ'⟩
    | k + 4, hq => cases hq
  · exact ⟨hZ, hMi, hAO', va_Dc.of (hts0 (Cond.declares ({ cls := "java/lang/Object", name := "getClass", desc := "()Ljava/lang/Class;" } : MethodName)) (List.mem_append_right _ (List.mem_of_getElem? (i := 785) (by decide +kernel)))), va_any rfl (hts0 (Cond.methodLinkNest "KeyedFiles" (50 : Nat) ({ cls := "KeyedFiles$View", name := "<init>", desc := "()V" } : MethodName) "KeyedFiles") (List.mem_append_right _ (List.mem_of_getElem? (i := 194) (by decide +kernel)))), va_any rfl (hts0 (Cond.methodLinkNest "KeyedFiles$Entry" (20 : Nat) ({ cls := "KeyedFiles", name := "isBelow", desc := "(JJ)Z" } : MethodName) "KeyedFiles") (List.mem_append_right _ (List.mem_of_getElem? (i := 329) (by decide +kernel)))), va_any rfl (hts0 (Cond.methodLinkNest "KeyedFiles$KeyIndex" (109 : Nat) ({ cls := "KeyedFiles", name := "isBelow", desc := "(JJ)Z" } : MethodName) "KeyedFiles") (List.mem_append_right _ (List.mem_of_getElem? (i := 451) (by decide +kernel)))), va_any rfl (hts0 (Cond.castable "KeyedFiles$KeyIndex" "java/lang/Object") (List.mem_append_right _ (List.mem_of_getElem? (i := 788) (by decide +kernel)))), va_any rfl (hts0 (Cond.castable "KeyedFiles$View" "java/lang/Object") (List.mem_append_right _ (List.mem_of_getElem? (i := 789) (by decide +kernel)))), va_any rfl (hts0 (Cond.castable "KeyedFiles$Entry" "java/lang/Object") (List.mem_append_right _ (List.mem_of_getElem? (i := 791) (by decide +kernel))))⟩
set_option maxRecDepth 100000 in
set_option maxHeartbeats 4000000 in
theorem whole_start {p : Program} {e : Env} {s : State} {m : MethodId} {below : List Frame} {meth : Method} {c : Code} (l : Launch) {b L : Nat} {xs : Nat → Int32} (hL : L ≤ 3584) (C0 : lw_At p s m meth c b L xs) : W p l e room_1 s m #[Value.ref b] below meth c s.heap [] 0 0 (lw_Z below #[Value.ref b] s) (entryFrame m ([Value.ref b] : List Value).toArray 4) := by
  obtain ⟨hx, hb, hr, hml, hown, hts0, hX, hbl, hlocks, hgv⟩ := id C0
  have hts : ∀ w ∈ Cond.initialized "KeyedFilesLaw" :: XT, w.before #[Value.ref b] s = true := fun w hw => by
    rcases List.mem_cons.mp hw with rfl | hw
    · exact hts0 _ (List.mem_filter.mp kz_LW).1
    · exact hts0 _ (List.mem_filter.mp hw).1
  obtain ⟨E, hK, hB, hZ, hem⟩ := lw_E hts0 hgv hts
  have C : LXC p s m meth c b E := ⟨hx, hb, hml, hown, hts, hK, by rw [hB]; exact Nat.le_refl _, hlocks, ⟨hZ, XZ_st E⟩, hr⟩
  have hbB : ¬ xB E ≤ b := by rw [hB]; omega
  obtain ⟨cell, hcell, -⟩ := id hem
  have haE : xaE E < s.heap.size := (Array.getElem?_eq_some_iff.mp hcell).1
  obtain ⟨G0, hG0⟩ : ∃ G0 : xw_G, G0 = fun q => if q = xaE E then some (eOA E 0 (fun _ => none)) else none := ⟨_, rfl⟩
  have hP0 : xw_P (xD E) xcl (xB E) G0 s.heap := by
    intro q e' hq
    rw [hG0] at hq
    by_cases h : q = xaE E
    · have hq : (if q = xaE E then some (eOA E 0 (fun _ => none)) else none) = some e' := hq
      rw [if_pos h] at hq
      cases hq
      subst h
      exact Or.inr ⟨by rw [hB]; omega, xO E, _, rfl, hem⟩
    · have hq : (if q = xaE E then some (eOA E 0 (fun _ => none)) else none) = some e' := hq
      rw [if_neg h] at hq
      cases hq
  have hE0 : G0 (xaE E) = some (eOA E 0 (fun _ => none)) := by rw [hG0]; exact if_pos rfl
  have main : LXW p l e s m below meth c b E 0 [some (.ref b), none, none, none] [] G0 0 0 := by
    refine x_new C (ci := 0) (fs := [.null, .null, .int 0, .long 0, .long 0]) rfl (in_KF _) ty_KF tok_KF (List.mem_cons_of_mem _ cl_LW_7) (List.mem_cons_of_mem _ kb_KF) (List.mem_cons_of_mem _ kz_KF) (fun j hj => by rcases (show j = 0 ∨ j = 1 ∨ j = 2 ∨ j = 3 ∨ j = 4 by omega) with rfl | rfl | rfl | rfl | rfl <;> rfl) (Nat.le_of_ble_eq_true rfl) (Nat.le_of_ble_eq_true rfl) d_LW_law_0 (fun x hx0 hBx => ?_)
    refine x_dup C d_LW_law_3 rfl ?_
    have hne : xaE E ≠ x := fun y => by rw [← y, hE0] at hx0; cases hx0
    refine x_callI0 C (q_KF_init l E (va_up_self _ _ _) ⟨_, (va_up_ne _ _ hne).trans hE0⟩) (lk_LW_9 C.hts (Nat.le_of_ble_eq_true rfl) (Nat.le_of_ble_eq_true rfl)) rfl d_LW_law_4 (Nat.le_of_ble_eq_true rfl) (Nat.le_of_ble_eq_true rfl) (Nat.le_of_ble_eq_true rfl) (fun r G1 h => ?_)
    obtain ⟨rfl, hC, -⟩ := h
    refine x_astore_n C d_LW_law_7 rfl (Nat.le_of_ble_eq_true rfl) rfl ?_
    refine x_new C (ci := 5) (fs := [.int 0, .null, .null, .null, .null, .null, .int 0, .int 0, .int 0, .null, .null, .null, .int 0, .int 0, .int 0, .null, .null, .null, .null, .null, .null, .null, .null, .null, .null, .null, .null, .int 0, .long 0]) rfl (in_MD _) ty_MD tok_MD (List.mem_cons_of_mem _ cl_LW_10) (List.mem_cons_of_mem _ kb_MD) (List.mem_cons_of_mem _ kz_MD) (fun j hj => by rcases (show j = 0 ∨ j = 1 ∨ j = 2 ∨ j = 3 ∨ j = 4 ∨ j = 5 ∨ j = 6 ∨ j = 7 ∨ j = 8 ∨ j = 9 ∨ j = 10 ∨ j = 11 ∨ j = 12 ∨ j = 13 ∨ j = 14 ∨ j = 15 ∨ j = 16 ∨ j = 17 ∨ j = 18 ∨ j = 19 ∨ j = 20 ∨ j = 21 ∨ j = 22 ∨ j = 23 ∨ j = 24 ∨ j = 25 ∨ j = 26 ∨ j = 27 ∨ j = 28 by omega) with rfl | rfl | rfl | rfl | rfl | rfl | rfl | rfl | rfl | rfl | rfl | rfl | rfl | rfl | rfl | rfl | rfl | rfl | rfl | rfl | rfl | rfl | rfl | rfl | rfl | rfl | rfl | rfl | rfl <;> rfl) (Nat.le_of_ble_eq_true rfl) (Nat.le_of_ble_eq_true rfl) d_LW_law_8 (fun md hm0 hBm => ?_)
    refine x_dup C d_LW_law_11 rfl ?_
    refine x_callI0 C (q_MD_init l E (va_up_self _ _ _)) (lk_LW_12 C.hts (Nat.le_of_ble_eq_true rfl) (Nat.le_of_ble_eq_true rfl)) rfl d_LW_law_12 (Nat.le_of_ble_eq_true rfl) (Nat.le_of_ble_eq_true rfl) (Nat.le_of_ble_eq_true rfl) (fun r G2 h => ?_)
    obtain ⟨rfl, ⟨a, hM⟩, hF2⟩ := h
    refine x_astore_n C d_LW_law_15 rfl (Nat.le_of_ble_eq_true rfl) rfl ?_
    refine x_iconst C (v := nI (7 * 0)) d_LW_law_16 (by decide) ?_
    refine x_istore_n C d_LW_law_17 rfl (Nat.le_of_ble_eq_true rfl) rfl ?_
    exact (lw_loop C hX hbl hbB hL hB 513 0 G2 _ μ0 (by omega) (xCS_fc (xCS_fc hC (xFc.new hm0)) hF2) hM Rel.start).wid (by decide) (by decide)
  rw [lg_entry_eq]
  have hl := lv_entry ([.ref b]) (n := 4) (Nat.le_of_ble_eq_true rfl)
  refine main s.heap [] _ hP0 va_S.rf ⟨by rw [hl.1]; rfl, hl.2.1, fun i v hi => ?_⟩
  refine hl.2.2 (i, v) ?_
  have := xw_al_in [some (.ref b), none, none, none] 0 i v hi
  rw [Nat.zero_add] at this
  exact this
