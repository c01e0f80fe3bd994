/-! STATE: what is fixed for all contracts (xE: the tables' numbers, the base B of the new cells, the empty array of ArrayList, the mirror of Object[]), the cells of the classes, booleans -/
abbrev xE : Type := va_G × (ClassId × ClassId × ClassId × ClassId) × (Nat × Nat × Nat)
abbrev xD (E : xE) : va_G := E.1
abbrev xO (E : xE) : ClassId := E.2.1.1
abbrev xI (E : xE) : ClassId := E.2.1.2.1
abbrev xZ (E : xE) : ClassId := E.2.1.2.2.1
abbrev xJ (E : xE) : ClassId := E.2.1.2.2.2
abbrev xB (E : xE) : Nat := E.2.2.1
abbrev xaE (E : xE) : Nat := E.2.2.2.1
abbrev xmi (E : xE) : Nat := E.2.2.2.2
abbrev xtys (E : xE) : List (ClassId × FieldType) := [(xO E, .object "java/lang/Object"), (xI E, .int), (xZ E, .boolean), (xJ E, .long)]
def XZ (E : xE) (U : State) : Prop :=
  va_Z "java/util/ArrayList" "DEFAULTCAPACITY_EMPTY_ELEMENTDATA" "[Ljava/lang/Object;" (.ref (xaE E)) (xw_A (xB E)) U U.heap ∧ va_Mi "[Ljava/lang/Object;" (xmi E) U ∧ va_AO "java/lang/Object" U ∧ va_Dc U ∧
  va_Nw (.methodLinkNest R_KF 50 y_VW_init "KeyedFiles") U ∧ va_Nw (.methodLinkNest R_EN 20 y_KF_isBelow "KeyedFiles") U ∧ va_Nw (.methodLinkNest R_KI 109 y_KF_isBelow "KeyedFiles") U ∧
  va_Nw (.castable R_KI "java/lang/Object") U ∧ va_Nw (.castable R_VW "java/lang/Object") U ∧ va_Nw (.castable R_EN "java/lang/Object") U
theorem XZ_st (E : xE) : xw_St (xB E) (XZ E) := by
  refine ⟨fun u U hv hh h => ?_, fun u U hW hz hk h => ?_⟩
  · have hA : u.vm.Alike U.vm := by rw [hv]; exact Vm.Alike.refl _
    obtain ⟨h1, h2, h3, h4, h5, h6, h7, h8, h9, h10⟩ := h
    exact ⟨(h1.moved hA).kept (fun a _ _ => by rw [hh]), h2.moved hA, h3.moved hA, h4.moved hA, h5.same rfl hv, h6.same rfl hv, h7.same rfl hv, h8.same rfl hv, h9.same rfl hv, h10.same rfl hv⟩
  · have hA := hW.alike
    obtain ⟨h1, h2, h3, h4, h5, h6, h7, h8, h9, h10⟩ := h
    exact ⟨(h1.moved hA).kept (fun a h1 h2 => hk a h1 h2), h2.moved hA, h3.moved hA, h4.moved hA, h5.warmM hW, h6.warmM hW, h7.warmM hW, h8.warmC hW, h9.warmC hW, h10.warmC hW⟩
abbrev XMk (l : Launch) (E : xE) (y : MethodName) (ws : List Cond) (rm : Room) (av : List Value) (G : xw_G) (post : Option Value → xw_G → Prop) (mc ms : Nat) : Prop := XM l y ws rm (xD E) xcl (xtys E) (xB E) (XZ E) av G post mc ms
/-- a truth value as an int -/
def bI (b : Bool) : Int32 := if b then 1 else 0
theorem bI_nar (b : Bool) : narrow .boolean (.int (bI b)) = .int (bI b) := by cases b <;> rfl
theorem bI_fit (b : Bool) : fits .boolean (.int (bI b)) = true := by cases b <;> rfl
theorem bI_0 (b : Bool) : bI b = 0 ↔ b = false := by cases b <;> decide
theorem bI_t : bI true = 1 := rfl
theorem bI_f : bI false = 0 := rfl
-- the cells
abbrev eKF (ix vw : Nat) (op : Bool) (ar sw : Int64) : va_E := .inr (0, [.ref ix, .ref vw, .int (bI op), .long ar, .long sw])
abbrev eEN (fd cm : Int64) (so : Nat) : va_E := .inr (1, [.long fd, .long cm, .ref so])
abbrev eKI (db : Bool) (fr sz : Int32) (en : Nat) (sp : Bool) (lo : Int64) : va_E := .inr (2, [.int (bI db), .int fr, .int sz, .ref en, .int (bI sp), .long lo])
abbrev eST (by' : Int64) (th : Bool) (sw : Int64) : va_E := .inr (3, [.long by', .int (bI th), .long sw])
abbrev eVW (op : Bool) (mo ac kr pl : Int32) (pf pc : Int64) (ae : Bool) (rl : Value) (vr : Int64) (hw : Bool) (pw : Int64) : va_E := .inr (4, [.int (bI op), .int mo, .int ac, .int kr, .int pl, .long pf, .long pc, .int (bI ae), rl, .long vr, .int (bI hw), .long pw])
abbrev eAL (ar : Nat) (n md : Int32) : va_E := .inr (6, [.ref ar, .int n, .int md])
abbrev eOA (E : xE) (cap : Nat) (f : Nat → Option Nat) : va_E := .inl (xO E, cap, .inr (.inr (.inr (.inr f))))
theorem xw_keep {G : xw_G} {a b : Nat} {e e' : va_E} (h : G b = some e) (hne : b ≠ a) : va_up G a (some e') b = some e := by rw [va_up_ne _ _ hne]; exact h
theorem xw_neC {G : xw_G} {a b c1 c2 : Nat} {f1 f2 : List Value} (h1 : G a = some (.inr (c1, f1))) (h2 : G b = some (.inr (c2, f2))) (h : c1 ≠ c2) : a ≠ b := by
  intro e
  subst e
  rw [h1] at h2
  cases h2
  exact h rfl
theorem xw_neA {G : xw_G} {a b c1 : Nat} {f1 : List Value} {x : ClassId × vp_A} (h1 : G a = some (.inr (c1, f1))) (h2 : G b = some (.inl x)) : a ≠ b := by
  intro e
  subst e
  rw [h1] at h2
  cases h2
theorem xw_neF {G : xw_G} {a b : Nat} {e : va_E} (h1 : G a = none) (h2 : G b = some e) : b ≠ a := by
  intro q
  subst q
  rw [h1] at h2
  cases h2
section XWR2
variable {p : Program} {l : Launch} {e : Env} {R : Room} {s : State} {m : MethodId} {args : Array Value} {below : List Frame} {meth : Method} {c : Code} {Q : State → Prop} {D : va_G} {cl : List vw_C} {B : Nat} {cc : ByteArray} {nL : Nat} {own : String} {Ts : List Cond} {tys : List (ClassId × FieldType)} {Z : State → Prop} {ret : Option FieldType} {pc : Nat} {vs : List (Option Value)} {st : List Value} {G : xw_G} {cells slots : Nat}
theorem x_aaloadR (C : XC p s m args meth c cc nL own Ts D cl tys B Z ret) {a n b : Nat} {cA : ClassId} {En : String} {f : Nat → Option Nat} {i : Int32} (hG : G a = some (.inl (cA, n, .inr (.inr (.inr (.inr f)))))) (t0 : Nat) (ht : tys[t0]? = some (cA, .object En)) (hi : vp_in i n) (hf : f i.toNatClampNeg = some b) (hd : decode cc pc = .ok (.aaload, 1)) (k : XW p l e R s m args below meth c Q D cl B (pc + 1) vs (.ref b :: st) G cells slots) : XW p l e R s m args below meth c Q D cl B pc vs (.int i :: .ref a :: st) G cells slots :=
  x_aaload C hG t0 ht hi hd (by rw [hf]; exact k)
end XWR2
section XWR3
variable {p : Program} {l : Launch} {e : Env} {R : Room} {s : State} {m : MethodId} {args : Array Value} {below : List Frame} {meth : Method} {c : Code} {Q : State → Prop} {D : va_G} {cl : List vw_C} {B : Nat} {cc : ByteArray} {nL : Nat} {own : String} {Ts : List Cond} {tys : List (ClassId × FieldType)} {Z : State → Prop} {ret : Option FieldType} {pc : Nat} {vs : List (Option Value)} {st : List Value} {G : xw_G} {cells slots : Nat}
/-- getClass() of an array of objects -/
theorem x_getC (C : XC p s m args meth c cc nL own Ts D cl tys B Z ret) {a n index mi : Nat} {cA : ClassId} {f : Nat → Option Nat} (hG : G a = some (.inl (cA, n, .inr (.inr (.inr (.inr f)))))) (t0 : Nat) (ht : tys[t0]? = some (cA, .object "java/lang/Object")) (hM : ∀ U : State, Z U → va_Mi "[Ljava/lang/Object;" mi U) (hD : ∀ U : State, Z U → va_Dc U)
    (hlink : Cond.methodLink own index ⟨"java/lang/Object", "getClass", "()Ljava/lang/Class;"⟩ ∈ Ts) (hsel : Cond.selects "[Ljava/lang/Object;" ⟨"java/lang/Object", "getClass", "()Ljava/lang/Class;"⟩ ⟨"java/lang/Object", "getClass", "()Ljava/lang/Class;"⟩ ∈ Ts) (hinst : Cond.instanceMethod ⟨"java/lang/Object", "getClass", "()Ljava/lang/Class;"⟩ ∈ Ts) (hnat : Cond.native ⟨"java/lang/Object", "getClass", "()Ljava/lang/Class;"⟩ ∈ Ts)
    (hvl : vs.length = nL) (hframes : 1 ≤ R.frames) (hlocals : (st.map fun v => v.category).sum + 14 ≤ R.locals) (hd : decode cc pc = .ok (.invokevirtual index, 3))
    (k : XW p l e R s m args below meth c Q D cl B (pc + 3) vs (.ref mi :: st) G cells slots) : XW p l e R s m args below meth c Q D cl B pc vs (.ref a :: st) G cells slots := by
  intro H locs ls hP hS hl
  obtain ⟨cell, hc, hst, hcA⟩ := hP.cls hG
  obtain ⟨_, _, _, _, _, e1⟩ := (C.hK.2 t0 _ ht).2
  refine va_getC (C := "[Ljava/lang/Object;") C.hx C.hb (by rw [hl.1, C.hml]; exact hvl.symm) C.hown (C.hts _ hlink) ((hD s C.hZ).use) (C.hts _ hsel) (C.hts _ hinst) (C.hts _ hnat) (hM s C.hZ) ⟨cell, hc, hst, ?_⟩ hframes hlocals hd (k H locs ls hP hS hl)
  have e2 : "[" ++ (FieldType.object "java/lang/Object").toString = "[Ljava/lang/Object;" := by decide +kernel
  rw [← e2, hcA]
  exact e1
end XWR3
/-- an element of a list: an object of one of the classes that lists hold -/
def xw_el (G : xw_G) (y : Nat) : Prop := ∃ (ci : Nat) (fs : List Value), G y = some (.inr (ci, fs)) ∧ (ci = 1 ∨ ci = 2 ∨ ci = 4)
theorem xw_el_cast {E : xE} {G : xw_G} {y : Nat} (h : xw_el G y) : ∃ (ci N : Nat) (Cn : String) (T : u_T) (fs : List Value), G y = some (.inr (ci, fs)) ∧ xcl[ci]? = some (Cn, T, N) ∧ ∀ U : State, XZ E U → va_Nw (.castable Cn "java/lang/Object") U := by
  obtain ⟨ci, fs, h1, rfl | rfl | rfl⟩ := h
  · exact ⟨1, _, _, _, fs, h1, rfl, fun U h => h.2.2.2.2.2.2.2.2.2⟩
  · exact ⟨2, _, _, _, fs, h1, rfl, fun U h => h.2.2.2.2.2.2.2.1⟩
  · exact ⟨4, _, _, _, fs, h1, rfl, fun U h => h.2.2.2.2.2.2.2.2.1⟩
theorem xw_el_up {G : xw_G} {y q : Nat} {e : va_E} (h : xw_el G y) (hq : y ≠ q) : xw_el (va_up G q (some e)) y := by
  obtain ⟨ci, fs, h1, h2⟩ := h
  exact ⟨ci, fs, xw_keep h1 hq, h2⟩
theorem xw_el_fresh {G : xw_G} {y q : Nat} {e : va_E} (h : xw_el G y) (hq : G q = none) : xw_el (va_up G q (some e)) y := by
  obtain ⟨ci, fs, h1, h2⟩ := id h
  exact xw_el_up h (xw_neF hq h1)
theorem x_copyN {p : Program} {l : Launch} {e : Env} {R : Room} {s : State} {m : MethodId} {args : Array Value} {below : List Frame} {meth : Method} {c : Code} {Q : State → Prop} {cc : ByteArray} {nL : Nat} {own : String} {c0' : Cond} {ret : Option FieldType} {pc : Nat} {vs : List (Option Value)} {st : List Value} {G : xw_G} {cells slots : Nat} {E : xE}
    (C : XC p s m args meth c cc nL own (c0' :: XT) (xD E) xcl (xtys E) (xB E) (XZ E) ret) {index a a0 n0 n1 : Nat} {f g : Nat → Option Nat} {sp dp n : Int32} {i j k : Nat} (hG0 : G a0 = some (eOA E n0 f)) (hG1 : G a = some (eOA E n1 g)) (ei : sp = nI i) (ej : dp = nI j) (ek : n = nI k) (hi : i + k ≤ n0) (hj : j + k ≤ n1) (hn0 : n0 < 2 ^ 31) (hn1 : n1 < 2 ^ 31) (hB0 : 0 < n0) (hB1 : 0 < n1)
    (hel : ∀ x : Nat, x < k → ∀ y : Nat, f (i + x) = some y → xw_el G y) (hlink : Cond.methodLink own index arraycopyName ∈ XT) (hvl : vs.length = nL) (hframes : 1 ≤ R.frames) (hlocals : (st.map fun v => v.category).sum + (nativeFrameWords "java/lang/System" "arraycopy" 5 + 11) ≤ R.locals) (hd : decode cc pc = .ok (.invokestatic index, 3))
    (kk : XW p l e R s m args below meth c Q (xD E) xcl (xB E) (pc + 3) vs st (va_up G a (some (eOA E n1 (va_cpy f g i j k)))) cells slots) : XW p l e R s m args below meth c Q (xD E) xcl (xB E) pc vs (.int n :: .int dp :: .ref a :: .int sp :: .ref a0 :: st) G cells slots := by
  subst ei; subst ej; subst ek
  have e1 : (nI i).toNatClampNeg = i := nI_clamp (by omega)
  have e2 : (nI j).toNatClampNeg = j := nI_clamp (by omega)
  have e3 : (nI k).toNatClampNeg = k := nI_clamp (by omega)
  refine x_copyq C hG0 hG1 hB0 hB1 0 0 rfl rfl (nI_pos (by omega)) (nI_pos (by omega)) (nI_pos (by omega)) (by rw [e1, e3]; exact hi) (by rw [e2, e3]; exact hj) (fun x hx y hy => ?_) (List.mem_cons_of_mem _ hlink) (List.mem_cons_of_mem _ kn_SY_arraycopy) (List.mem_cons_of_mem _ ks_SY_arraycopy) (List.mem_cons_of_mem _ kz_SY) hvl hframes hlocals hd (by rw [e1, e2, e3]; exact kk)
  rw [e1] at hy
  rw [e3] at hx
  exact xw_el_cast (hel x hx y hy)
/-- the lengths that a list's array may have -/
def capOK (cap : Nat) : Prop := cap ∈ [0, 10, 15, 22, 33, 49, 73, 109, 163, 244, 366]
theorem capOK_le {c : Nat} (h : capOK c) : c ≤ 366 := by
  simp only [capOK, List.mem_cons, List.not_mem_nil, or_false] at h
  omega
theorem capOK_gr {c : Nat} (h : capOK c) (h3 : c ≤ 300) (h0 : 0 < c) : 10 ≤ c ∧ c ≤ 244 ∧ capOK (c + c / 2) := by
  simp only [capOK, List.mem_cons, List.not_mem_nil, or_false] at h ⊢
  omega
section XWR4
variable {p : Program} {l : Launch} {e : Env} {R : Room} {s : State} {m : MethodId} {args : Array Value} {below : List Frame} {meth : Method} {c : Code} {Q : State → Prop} {D : va_G} {cl : List vw_C} {B : Nat} {cc : ByteArray} {nL : Nat} {own : String} {c0' : Cond} {tys : List (ClassId × FieldType)} {Z : State → Prop} {ret : Option FieldType} {pc : Nat} {vs : List (Option Value)} {st : List Value} {G : xw_G} {cells slots : Nat}
theorem x_mmax (C : XC p s m args meth c cc nL own (c0' :: XT) D cl tys B Z ret) {index : Nat} {x y : Int32} (hlink : Cond.methodLink own index y_MA_max ∈ XT) (hvl : vs.length = nL) (hframes : 1 ≤ R.frames) (hlocals : (st.map fun v => v.category).sum + 13 ≤ R.locals) (hc : cells ≤ R.cells) (hs : slots ≤ R.slots) (hd : decode cc pc = .ok (.invokestatic index, 3)) (k : XW p l e R s m args below meth c Q D cl B (pc + 3) vs (.int (if x < y then y else x) :: st) G cells slots) : XW p l e R s m args below meth c Q D cl B pc vs (.int y :: .int x :: st) G cells slots :=
  fun H locs ls hP hS hl => va_mmax C.hx C.hb (by rw [hl.1, C.hml]; exact hvl.symm) C.hown (C.hts _ (List.mem_cons_of_mem _ hlink)) (C.hts _ (List.mem_cons_of_mem _ ks_MA_max)) (C.hts _ (List.mem_cons_of_mem _ kz_MA)) (C.hts _ (List.mem_cons_of_mem _ kc_MA_max)) hframes hlocals hc hs hd (k H locs ls hP hS hl)
theorem x_mmin (C : XC p s m args meth c cc nL own (c0' :: XT) D cl tys B Z ret) {index : Nat} {x y : Int32} (hlink : Cond.methodLink own index y_MA_min ∈ XT) (hvl : vs.length = nL) (hframes : 1 ≤ R.frames) (hlocals : (st.map fun v => v.category).sum + 13 ≤ R.locals) (hc : cells ≤ R.cells) (hs : slots ≤ R.slots) (hd : decode cc pc = .ok (.invokestatic index, 3)) (k : XW p l e R s m args below meth c Q D cl B (pc + 3) vs (.int (if y < x then y else x) :: st) G cells slots) : XW p l e R s m args below meth c Q D cl B pc vs (.int y :: .int x :: st) G cells slots :=
  fun H locs ls hP hS hl => va_mmin C.hx C.hb (by rw [hl.1, C.hml]; exact hvl.symm) C.hown (C.hts _ (List.mem_cons_of_mem _ hlink)) (C.hts _ (List.mem_cons_of_mem _ ks_MA_min)) (C.hts _ (List.mem_cons_of_mem _ kz_MA)) (C.hts _ (List.mem_cons_of_mem _ kc_MA_min)) hframes hlocals hc hs hd (k H locs ls hP hS hl)
end XWR4
theorem x_alenN {p : Program} {l : Launch} {e : Env} {R : Room} {s : State} {m : MethodId} {args : Array Value} {below : List Frame} {meth : Method} {c : Code} {Q : State → Prop} {D : va_G} {cl : List vw_C} {B : Nat} {cc : ByteArray} {nL : Nat} {own : String} {Ts : List Cond} {tys : List (ClassId × FieldType)} {Z : State → Prop} {ret : Option FieldType} {pc : Nat} {vs : List (Option Value)} {st : List Value} {G : xw_G} {cells slots : Nat}
    (C : XC p s m args meth c cc nL own Ts D cl tys B Z ret) {a n : Nat} {cA : ClassId} {x : (Nat → Int32) ⊕ (Nat → Int64) ⊕ (Nat → UInt32) ⊕ (Nat → UInt64) ⊕ (Nat → Option Nat)} {ty : FieldType} (hG : G a = some (.inl (cA, n, x))) (t0 : Nat) (ht : tys[t0]? = some (cA, ty)) (hd : decode cc pc = .ok (.arraylength, 1)) (k : XW p l e R s m args below meth c Q D cl B (pc + 1) vs (.int (nI n) :: st) G cells slots) : XW p l e R s m args below meth c Q D cl B pc vs (.ref a :: st) G cells slots := x_alen C hG t0 ht hd k
