/-! STATE: what is fixed for all contracts (xE: the tables' numbers, the base B of the new cells, the empty array of ArrayList, the mirror of Object[]), the cells of the classes, booleans -/
abbrev xE : Type := va_G × (ClassId × ClassId × ClassId × ClassId) × (Nat × Nat × Nat)
abbrev xD (E : xE) : va_G := E.1
abbrev xO (E : xE) : ClassId := E.2.1.1
abbrev xI (E : xE) : ClassId := E.2.1.2.1
abbrev xZ (E : xE) : ClassId := E.2.1.2.2.1
abbrev xJ (E : xE) : ClassId := E.2.1.2.2.2
abbrev xB (E : xE) : Nat := E.2.2.1
abbrev xaE (E : xE) : Nat := E.2.2.2.1
abbrev xmi (E : xE) : Nat := E.2.2.2.2
abbrev xtys (E : xE) : List (ClassId × FieldType) := [(xO E, .object "java/lang/Object"), (xI E, .int), (xZ E, .boolean), (xJ E, .long)]
def XZ (E : xE) (U : State) : Prop :=
  va_Z "java/util/ArrayList" "DEFAULTCAPACITY_EMPTY_ELEMENTDATA" "[Ljava/lang/Object;" (.ref (xaE E)) (xw_A (xB E)) U U.heap ∧ va_Mi "[Ljava/lang/Object;" (xmi E) U ∧ va_AO "java/lang/Object" U ∧ va_Dc U ∧
  va_Nw (.methodLinkNest R_KF 50 y_VW_init "KeyedFiles") U ∧ va_Nw (.methodLinkNest R_EN 20 y_KF_isBelow "KeyedFiles") U ∧ va_Nw (.methodLinkNest R_KI 109 y_KF_isBelow "KeyedFiles") U ∧
  va_Nw (.castable R_KI "java/lang/Object") U ∧ va_Nw (.castable R_VW "java/lang/Object") U ∧ va_Nw (.castable R_EN "java/lang/Object") U
theorem XZ_st (E : xE) : xw_St (xB E) (XZ E) := by
  refine ⟨fun u U hv hh h => ?_, fun u U hW hz hk h => ?_⟩
  · have hA : u.vm.Alike U.vm := by rw [hv]; exact Vm.Alike.refl _
    obtain ⟨h1, h2, h3, h4, h5, h6, h7, h8, h9, h10⟩ := h
    exact ⟨(h1.moved hA).kept (fun a _ _ => by rw [hh]), h2.moved hA, h3.moved hA, h4.moved hA, h5.same rfl hv, h6.same rfl hv, h7.same rfl hv, h8.same rfl hv, h9.same rfl hv, h10.same rfl hv⟩
  · have hA := hW.alike
    obtain ⟨h1, h2, h3, h4, h5, h6, h7, h8, h9, h10⟩ := h
    exact ⟨(h1.moved hA).kept (fun a h1 h2 => hk a h1 h2), h2.moved hA, h3.moved hA, h4.moved hA, h5.warmM hW, h6.warmM hW, h7.warmM hW, h8.warmC hW, h9.warmC hW, h10.warmC hW⟩
abbrev XMk (l : Launch) (E : xE) (y : MethodName) (ws : List Cond) (rm : Room) (av : List Value) (G : xw_G) (post : Option Value → xw_G → Prop) (mc ms : Nat) : Prop := XM l y ws rm (xD E) xcl (xtys E) (xB E) (XZ E) av G post mc ms
/-- a truth value as an int -/
def bI (b : Bool) : Int32 := if b then 1 else 0
theorem bI_nar (b : Bool) : narrow .boolean (.int (bI b)) = .int (bI b) := by cases b <;> rfl
theorem bI_fit (b : Bool) : fits .boolean (.int (bI b)) = true := by cases b <;> rfl
theorem bI_0 (b : Bool) : bI b = 0 ↔ b = false := by cases b <;> decide
theorem bI_t : bI true = 1 := rfl
theorem bI_f : bI false = 0 := rfl
-- the cells
abbrev eKF (ix vw : Nat) (op : Bool) (ar sw : Int64) : va_E := .inr (0, [.ref ix, .ref vw, .int (bI op), .long ar, .long sw])
abbrev eEN (fd cm : Int64) (so : Nat) : va_E := .inr (1, [.long fd, .long cm, .ref so])
abbrev eKI (db : Bool) (fr sz : Int32) (en : Nat) (sp : Bool) (lo : Int64) : va_E := .inr (2, [.int (bI db), .int fr, .int sz, .ref en, .int (bI sp), .long lo])
abbrev eST (by' : Int64) (th : Bool) (sw : Int64) : va_E := .inr (3, [.long by', .int (bI th), .long sw])
abbrev eVW (op : Bool) (mo ac kr pl : Int32) (pf pc : Int64) (ae : Bool) (rl : Value) (vr : Int64) (hw : Bool) (pw : Int64) : va_E := .inr (4, [.int (bI op), .int mo, .int ac, .int kr, .int pl, .long pf, .long pc, .int (bI ae), rl, .long vr, .int (bI hw), .long pw])
abbrev eAL (ar : Nat) (n md : Int32) : va_E := .inr (6, [.ref ar, .int n, .int md])
abbrev eOA (E : xE) (cap : Nat) (f : Nat → Option Nat) : va_E := .inl (xO E, cap, .inr (.inr (.inr (.inr f))))
theorem xw_keep {G : xw_G} {a b : Nat} {e e' : va_E} (h : G b = some e) (hne : b ≠ a) : va_up G a (some e') b = some e := by rw [va_up_ne _ _ hne]; exact h
theorem xw_neC {G : xw_G} {a b c1 c2 : Nat} {f1 f2 : List Value} (h1 : G a = some (.inr (c1, f1))) (h2 : G b = some (.inr (c2, f2))) (h : c1 ≠ c2) : a ≠ b := by
  intro e
  subst e
  rw [h1] at h2
  cases h2
  exact h rfl
theorem xw_neA {G : xw_G} {a b c1 : Nat} {f1 : List Value} {x : ClassId × vp_A} (h1 : G a = some (.inr (c1, f1))) (h2 : G b = some (.inl x)) : a ≠ b := by
  intro e
  subst e
  rw [h1] at h2
  cases h2
theorem xw_neF {G : xw_G} {a b : Nat} {e : va_E} (h1 : G a = none) (h2 : G b = some e) : b ≠ a := by
  intro q
  subst q
  rw [h1] at h2
  cases h2
section XWR2
variable {p : Program} {l : Launch} {e : Env} {R : Room} {s : State} {m : MethodId} {args : Array Value} {below : List Frame} {meth : Method} {c : Code} {Q : State → Prop} {D : va_G} {cl : List vw_C} {B : Nat} {cc : ByteArray} {nL : Nat} {own : String} {Ts : List Cond} {tys : List (ClassId × FieldType)} {Z : State → Prop} {ret : Option FieldType} {pc : Nat} {vs : List (Option Value)} {st : List Value} {G : xw_G} {cells slots : Nat}
theorem x_aaloadR (C : XC p s m args meth c cc nL own Ts D cl tys B Z ret) {a n b : Nat} {cA : ClassId} {En : String} {f : Nat → Option Nat} {i : Int32} (hG : G a = some (.inl (cA, n, .inr (.inr (.inr (.inr f)))))) (t0 : Nat) (ht : tys[t0]? = some (cA, .object En)) (hi : vp_in i n) (hf : f i.toNatClampNeg = some b) (hd : decode cc pc = .ok (.aaload, 1)) (k : XW p l e R s m args below meth c Q D cl B (pc + 1) vs (.ref b :: st) G cells slots) : XW p l e R s m args below meth c Q D cl B pc vs (.int i :: .ref a :: st) G cells slots :=
  x_aaload C hG t0 ht hi hd (by rw [hf]; exact k)
end XWR2
