/-! NAMES of this claim, by wip/whole/gen_names.py out of claim/Statement.lean -/
def XT : List Cond := lw_tbl.filter goodWord
theorem xt_t {i : Nat} {w : Cond} (h : tables_1[i]? = some w) (hg : goodWord w = true) : w ∈ XT := List.mem_filter.mpr ⟨List.mem_append_right _ (List.mem_of_getElem? h), hg⟩
theorem xt_p {i : Nat} {w : Cond} (h : (k2_sels lw_privs)[i]? = some w) (hg : goodWord w = true) : w ∈ XT := List.mem_filter.mpr ⟨List.mem_append_left _ (List.mem_of_getElem? h), hg⟩
theorem xt_good {c0 c1 : Cond} (h : c1 ∈ XT) : GoodIn (c0 :: XT) (c1 :: XT) := fun w hw => by
  rcases List.mem_cons.mp hw with e | e
  · rw [e]; exact ⟨List.mem_cons_of_mem _ h, good_of_word (List.mem_filter.mp h).2⟩
  · exact ⟨List.mem_cons_of_mem _ e, good_of_word (List.mem_filter.mp e).2⟩
theorem xt_goodL {c1 : Cond} (h : c1 ∈ XT) : GoodIn lw_tbl (c1 :: XT) := fun w hw => by
  rcases List.mem_cons.mp hw with e | e
  · rw [e]; exact ⟨(List.mem_filter.mp h).1, good_of_word (List.mem_filter.mp h).2⟩
  · exact ⟨(List.mem_filter.mp e).1, good_of_word (List.mem_filter.mp e).2⟩
abbrev R_KF : String := "KeyedFiles"
abbrev R_EN : String := "KeyedFiles$Entry"
abbrev R_KI : String := "KeyedFiles$KeyIndex"
abbrev R_ST : String := "KeyedFiles$Stored"
abbrev R_VW : String := "KeyedFiles$View"
abbrev R_MD : String := "KeyedFilesModel"
abbrev R_AL : String := "java/util/ArrayList"
abbrev R_OB : String := "java/lang/Object"
abbrev R_AS : String := "jdk/internal/util/ArraysSupport"
abbrev R_MA : String := "java/lang/Math"
abbrev R_AR : String := "java/util/Arrays"
abbrev R_SY : String := "java/lang/System"
abbrev R_OJ : String := "java/util/Objects"
abbrev R_PC : String := "jdk/internal/util/Preconditions"
abbrev R_AB : String := "java/util/AbstractList"
abbrev R_AC : String := "java/util/AbstractCollection"
abbrev R_LW : String := "KeyedFilesLaw"
abbrev R_OA : String := "[Ljava/lang/Object;"
def T_KF : u_T := fun k => match k with
  | 0 => ("KeyedFiles", "indexes", "Ljava/util/ArrayList;", true)
  | 1 => ("KeyedFiles", "views", "Ljava/util/ArrayList;", true)
  | 2 => ("KeyedFiles", "everOpened", "Z", false)
  | 3 => ("KeyedFiles", "arrivals", "J", false)
  | _ => ("KeyedFiles", "sweeps", "J", false)
def ty_KF : Nat → FieldType := fun k => match k with
  | 0 => .object "java/util/ArrayList"
  | 1 => .object "java/util/ArrayList"
  | 2 => .boolean
  | 3 => .long
  | _ => .long
theorem nm_KF : ∀ a, a < 5 → ∀ b, b < 5 → a ≠ b → (T_KF a).2.1 ≠ (T_KF b).2.1 := by decide +kernel
theorem tok_KF : ∀ k, k < 5 → parseFieldDescriptor (T_KF k).2.2.1 = some (ty_KF k) := by decide +kernel
def T_EN : u_T := fun k => match k with
  | 0 => ("KeyedFiles$Entry", "field", "J", true)
  | 1 => ("KeyedFiles$Entry", "came", "J", true)
  | _ => ("KeyedFiles$Entry", "stored", "LKeyedFiles$Stored;", true)
def ty_EN : Nat → FieldType := fun k => match k with
  | 0 => .long
  | 1 => .long
  | _ => .object "KeyedFiles$Stored"
theorem nm_EN : ∀ a, a < 3 → ∀ b, b < 3 → a ≠ b → (T_EN a).2.1 ≠ (T_EN b).2.1 := by decide +kernel
theorem tok_EN : ∀ k, k < 3 → parseFieldDescriptor (T_EN k).2.2.1 = some (ty_EN k) := by decide +kernel
def T_KI : u_T := fun k => match k with
  | 0 => ("KeyedFiles$KeyIndex", "doubles", "Z", true)
  | 1 => ("KeyedFiles$KeyIndex", "from", "I", true)
  | 2 => ("KeyedFiles$KeyIndex", "size", "I", true)
  | 3 => ("KeyedFiles$KeyIndex", "entries", "Ljava/util/ArrayList;", true)
  | 4 => ("KeyedFiles$KeyIndex", "isSparse", "Z", false)
  | _ => ("KeyedFiles$KeyIndex", "fieldLeftOut", "J", false)
def ty_KI : Nat → FieldType := fun k => match k with
  | 0 => .boolean
  | 1 => .int
  | 2 => .int
  | 3 => .object "java/util/ArrayList"
  | 4 => .boolean
  | _ => .long
theorem nm_KI : ∀ a, a < 6 → ∀ b, b < 6 → a ≠ b → (T_KI a).2.1 ≠ (T_KI b).2.1 := by decide +kernel
theorem tok_KI : ∀ k, k < 6 → parseFieldDescriptor (T_KI k).2.2.1 = some (ty_KI k) := by decide +kernel
def T_ST : u_T := fun k => match k with
  | 0 => ("KeyedFiles$Stored", "bytes", "J", false)
  | 1 => ("KeyedFiles$Stored", "isThere", "Z", false)
  | _ => ("KeyedFiles$Stored", "sweep", "J", false)
def ty_ST : Nat → FieldType := fun k => match k with
  | 0 => .long
  | 1 => .boolean
  | _ => .long
theorem nm_ST : ∀ a, a < 3 → ∀ b, b < 3 → a ≠ b → (T_ST a).2.1 ≠ (T_ST b).2.1 := by decide +kernel
theorem tok_ST : ∀ k, k < 3 → parseFieldDescriptor (T_ST k).2.2.1 = some (ty_ST k) := by decide +kernel
def T_VW : u_T := fun k => match k with
  | 0 => ("KeyedFiles$View", "isOpen", "Z", false)
  | 1 => ("KeyedFiles$View", "mode", "I", false)
  | 2 => ("KeyedFiles$View", "access", "I", false)
  | 3 => ("KeyedFiles$View", "keyOfReference", "I", false)
  | 4 => ("KeyedFiles$View", "place", "I", false)
  | 5 => ("KeyedFiles$View", "placeField", "J", false)
  | 6 => ("KeyedFiles$View", "placeCame", "J", false)
  | 7 => ("KeyedFiles$View", "isAtEnd", "Z", false)
  | 8 => ("KeyedFiles$View", "readLast", "LKeyedFiles$Stored;", false)
  | 9 => ("KeyedFiles$View", "valueRead", "J", false)
  | 10 => ("KeyedFiles$View", "hasWritten", "Z", false)
  | _ => ("KeyedFiles$View", "primeWritten", "J", false)
def ty_VW : Nat → FieldType := fun k => match k with
  | 0 => .boolean
  | 1 => .int
  | 2 => .int
  | 3 => .int
  | 4 => .int
  | 5 => .long
  | 6 => .long
  | 7 => .boolean
  | 8 => .object "KeyedFiles$Stored"
  | 9 => .long
  | 10 => .boolean
  | _ => .long
theorem nm_VW : ∀ a, a < 12 → ∀ b, b < 12 → a ≠ b → (T_VW a).2.1 ≠ (T_VW b).2.1 := by decide +kernel
theorem tok_VW : ∀ k, k < 12 → parseFieldDescriptor (T_VW k).2.2.1 = some (ty_VW k) := by decide +kernel
def T_MD : u_T := fun k => match k with
  | 0 => ("KeyedFilesModel", "thrown", "I", false)
  | 1 => ("KeyedFilesModel", "froms", "[I", true)
  | 2 => ("KeyedFilesModel", "sizes", "[I", true)
  | 3 => ("KeyedFilesModel", "doubles", "[Z", true)
  | 4 => ("KeyedFilesModel", "sparse", "[Z", true)
  | 5 => ("KeyedFilesModel", "spared", "[J", true)
  | 6 => ("KeyedFilesModel", "keys", "I", false)
  | 7 => ("KeyedFilesModel", "views", "I", false)
  | 8 => ("KeyedFilesModel", "opened", "Z", false)
  | 9 => ("KeyedFilesModel", "records", "[J", true)
  | 10 => ("KeyedFilesModel", "numbers", "[I", true)
  | 11 => ("KeyedFilesModel", "ranks", "[I", true)
  | 12 => ("KeyedFilesModel", "many", "I", false)
  | 13 => ("KeyedFilesModel", "numbered", "I", false)
  | 14 => ("KeyedFilesModel", "ranked", "I", false)
  | 15 => ("KeyedFilesModel", "modes", "[I", true)
  | 16 => ("KeyedFilesModel", "accesses", "[I", true)
  | 17 => ("KeyedFilesModel", "references", "[I", true)
  | 18 => ("KeyedFilesModel", "places", "[I", true)
  | 19 => ("KeyedFilesModel", "placeRanks", "[I", true)
  | 20 => ("KeyedFilesModel", "readNumbers", "[I", true)
  | 21 => ("KeyedFilesModel", "placeFields", "[J", true)
  | 22 => ("KeyedFilesModel", "values", "[J", true)
  | 23 => ("KeyedFilesModel", "lasts", "[J", true)
  | 24 => ("KeyedFilesModel", "open", "[Z", true)
  | 25 => ("KeyedFilesModel", "ended", "[Z", true)
  | 26 => ("KeyedFilesModel", "wrote", "[Z", true)
  | 27 => ("KeyedFilesModel", "hadNumber", "I", false)
  | _ => ("KeyedFilesModel", "hadValue", "J", false)
def ty_MD : Nat → FieldType := fun k => match k with
  | 0 => .int
  | 1 => .array .int
  | 2 => .array .int
  | 3 => .array .boolean
  | 4 => .array .boolean
  | 5 => .array .long
  | 6 => .int
  | 7 => .int
  | 8 => .boolean
  | 9 => .array .long
  | 10 => .array .int
  | 11 => .array .int
  | 12 => .int
  | 13 => .int
  | 14 => .int
  | 15 => .array .int
  | 16 => .array .int
  | 17 => .array .int
  | 18 => .array .int
  | 19 => .array .int
  | 20 => .array .int
  | 21 => .array .long
  | 22 => .array .long
  | 23 => .array .long
  | 24 => .array .boolean
  | 25 => .array .boolean
  | 26 => .array .boolean
  | 27 => .int
  | _ => .long
theorem nm_MD : ∀ a, a < 29 → ∀ b, b < 29 → a ≠ b → (T_MD a).2.1 ≠ (T_MD b).2.1 := by decide +kernel
theorem tok_MD : ∀ k, k < 29 → parseFieldDescriptor (T_MD k).2.2.1 = some (ty_MD k) := by decide +kernel
def T_AL : u_T := fun k => match k with
  | 0 => ("java/util/ArrayList", "elementData", "[Ljava/lang/Object;", false)
  | 1 => ("java/util/ArrayList", "size", "I", false)
  | _ => ("java/util/AbstractList", "modCount", "I", false)
def ty_AL : Nat → FieldType := fun k => match k with
  | 0 => .array (.object "java/lang/Object")
  | 1 => .int
  | _ => .int
theorem nm_AL : ∀ a, a < 3 → ∀ b, b < 3 → a ≠ b → (T_AL a).2.1 ≠ (T_AL b).2.1 := by decide +kernel
theorem tok_AL : ∀ k, k < 3 → parseFieldDescriptor (T_AL k).2.2.1 = some (ty_AL k) := by decide +kernel
abbrev xcl : List vw_C := [(R_KF, T_KF, 5), (R_EN, T_EN, 3), (R_KI, T_KI, 6), (R_ST, T_ST, 3), (R_VW, T_VW, 12), (R_MD, T_MD, 29), (R_AL, T_AL, 3)]
theorem kz_LW : (Cond.initialized "KeyedFilesLaw") ∈ XT := xt_t (i := 0) (by decide +kernel) (by decide)
theorem kz_KF : (Cond.initialized "KeyedFiles") ∈ XT := xt_t (i := 1) (by decide +kernel) (by decide)
theorem kz_AC : (Cond.initialized "java/util/AbstractCollection") ∈ XT := xt_t (i := 2) (by decide +kernel) (by decide)
theorem kz_AB : (Cond.initialized "java/util/AbstractList") ∈ XT := xt_t (i := 3) (by decide +kernel) (by decide)
theorem kz_AL : (Cond.initialized "java/util/ArrayList") ∈ XT := xt_t (i := 4) (by decide +kernel) (by decide)
theorem kz_MD : (Cond.initialized "KeyedFilesModel") ∈ XT := xt_t (i := 5) (by decide +kernel) (by decide)
theorem kz_KI : (Cond.initialized "KeyedFiles$KeyIndex") ∈ XT := xt_t (i := 6) (by decide +kernel) (by decide)
theorem kz_AS : (Cond.initialized "jdk/internal/util/ArraysSupport") ∈ XT := xt_t (i := 7) (by decide +kernel) (by decide)
theorem kz_MA : (Cond.initialized "java/lang/Math") ∈ XT := xt_t (i := 8) (by decide +kernel) (by decide)
theorem kz_AR : (Cond.initialized "java/util/Arrays") ∈ XT := xt_t (i := 9) (by decide +kernel) (by decide)
theorem kz_SY : (Cond.initialized "java/lang/System") ∈ XT := xt_t (i := 10) (by decide +kernel) (by decide)
theorem kz_OJ : (Cond.initialized "java/util/Objects") ∈ XT := xt_t (i := 11) (by decide +kernel) (by decide)
theorem kz_PC : (Cond.initialized "jdk/internal/util/Preconditions") ∈ XT := xt_t (i := 12) (by decide +kernel) (by decide)
theorem kz_VW : (Cond.initialized "KeyedFiles$View") ∈ XT := xt_t (i := 13) (by decide +kernel) (by decide)
theorem kz_ST : (Cond.initialized "KeyedFiles$Stored") ∈ XT := xt_t (i := 14) (by decide +kernel) (by decide)
theorem kz_EN : (Cond.initialized "KeyedFiles$Entry") ∈ XT := xt_t (i := 15) (by decide +kernel) (by decide)
theorem cl_LW_7 : (Cond.classLink "KeyedFilesLaw" (7 : Nat) "KeyedFiles") ∈ XT := xt_t (i := 16) (by decide +kernel) (by decide)
theorem kb_KF : (Cond.instantiable "KeyedFiles" (5 : Nat)) ∈ XT := xt_t (i := 17) (by decide +kernel) (by decide)
theorem m_LW_9 : (Cond.methodLink "KeyedFilesLaw" (9 : Nat) ({ cls := "KeyedFiles", name := "<init>", desc := "()V" } : MethodName)) ∈ XT := xt_t (i := 18) (by decide +kernel) (by decide)
theorem ki_KF_init : (Cond.instanceMethod ({ cls := "KeyedFiles", name := "<init>", desc := "()V" } : MethodName)) ∈ XT := xt_t (i := 19) (by decide +kernel) (by decide)
set_option maxRecDepth 20000 in
theorem kc_KF_init : (Cond.code ({ cls := "KeyedFiles", name := "<init>", desc := "()V" } : MethodName) prog_1_method_1_code (1 : Nat) (Option.none : Option FieldType)) ∈ XT := xt_t (i := 20) (rfl) (by decide)
theorem m_KF_1 : (Cond.methodLink "KeyedFiles" (1 : Nat) ({ cls := "java/lang/Object", name := "<init>", desc := "()V" } : MethodName)) ∈ XT := xt_t (i := 21) (by decide +kernel) (by decide)
theorem ki_OB_init : (Cond.instanceMethod ({ cls := "java/lang/Object", name := "<init>", desc := "()V" } : MethodName)) ∈ XT := xt_t (i := 22) (by decide +kernel) (by decide)
set_option maxRecDepth 20000 in
theorem kc_OB_init : (Cond.code ({ cls := "java/lang/Object", name := "<init>", desc := "()V" } : MethodName) object_method_1_code (1 : Nat) (Option.none : Option FieldType)) ∈ XT := xt_t (i := 23) (rfl) (by decide)
theorem cl_KF_7 : (Cond.classLink "KeyedFiles" (7 : Nat) "java/util/ArrayList") ∈ XT := xt_t (i := 24) (by decide +kernel) (by decide)
theorem kb_AL : (Cond.instantiable "java/util/ArrayList" (3 : Nat)) ∈ XT := xt_t (i := 25) (by decide +kernel) (by decide)
theorem m_KF_9 : (Cond.methodLink "KeyedFiles" (9 : Nat) ({ cls := "java/util/ArrayList", name := "<init>", desc := "()V" } : MethodName)) ∈ XT := xt_t (i := 26) (by decide +kernel) (by decide)
theorem ki_AL_init : (Cond.instanceMethod ({ cls := "java/util/ArrayList", name := "<init>", desc := "()V" } : MethodName)) ∈ XT := xt_t (i := 27) (by decide +kernel) (by decide)
set_option maxRecDepth 20000 in
theorem kc_AL_init : (Cond.code ({ cls := "java/util/ArrayList", name := "<init>", desc := "()V" } : MethodName) prog_15_method_2_code (1 : Nat) (Option.none : Option FieldType)) ∈ XT := xt_t (i := 28) (rfl) (by decide)
theorem m_AL_1 : (Cond.methodLink "java/util/ArrayList" (1 : Nat) ({ cls := "java/util/AbstractList", name := "<init>", desc := "()V" } : MethodName)) ∈ XT := xt_t (i := 29) (by decide +kernel) (by decide)
theorem ki_AB_init : (Cond.instanceMethod ({ cls := "java/util/AbstractList", name := "<init>", desc := "()V" } : MethodName)) ∈ XT := xt_t (i := 30) (by decide +kernel) (by decide)
set_option maxRecDepth 20000 in
theorem kc_AB_init : (Cond.code ({ cls := "java/util/AbstractList", name := "<init>", desc := "()V" } : MethodName) prog_14_method_1_code (1 : Nat) (Option.none : Option FieldType)) ∈ XT := xt_t (i := 31) (rfl) (by decide)
theorem m_AB_1 : (Cond.methodLink "java/util/AbstractList" (1 : Nat) ({ cls := "java/util/AbstractCollection", name := "<init>", desc := "()V" } : MethodName)) ∈ XT := xt_t (i := 32) (by decide +kernel) (by decide)
theorem ki_AC_init : (Cond.instanceMethod ({ cls := "java/util/AbstractCollection", name := "<init>", desc := "()V" } : MethodName)) ∈ XT := xt_t (i := 33) (by decide +kernel) (by decide)
set_option maxRecDepth 20000 in
theorem kc_AC_init : (Cond.code ({ cls := "java/util/AbstractCollection", name := "<init>", desc := "()V" } : MethodName) prog_13_method_1_code (1 : Nat) (Option.none : Option FieldType)) ∈ XT := xt_t (i := 34) (rfl) (by decide)
theorem m_AC_1 : (Cond.methodLink "java/util/AbstractCollection" (1 : Nat) ({ cls := "java/lang/Object", name := "<init>", desc := "()V" } : MethodName)) ∈ XT := xt_t (i := 35) (by decide +kernel) (by decide)
theorem f_AL_39 : (Cond.fieldLink "java/util/ArrayList" (39 : Nat) "java/util/ArrayList" "DEFAULTCAPACITY_EMPTY_ELEMENTDATA" "[Ljava/lang/Object;") ∈ XT := xt_t (i := 36) (by decide +kernel) (by decide)
theorem f_AL_9 : (Cond.fieldLink "java/util/ArrayList" (9 : Nat) "java/util/ArrayList" "elementData" "[Ljava/lang/Object;") ∈ XT := xt_t (i := 38) (by decide +kernel) (by decide)
theorem f_AL_48 : (Cond.fieldLink "java/util/ArrayList" (48 : Nat) "java/util/ArrayList" "size" "I") ∈ XT := xt_t (i := 39) (by decide +kernel) (by decide)
theorem f_AB_7 : (Cond.fieldLink "java/util/AbstractList" (7 : Nat) "java/util/AbstractList" "modCount" "I") ∈ XT := xt_t (i := 40) (by decide +kernel) (by decide)
theorem f_AL_63 : (Cond.fieldLink "java/util/ArrayList" (63 : Nat) "java/util/ArrayList" "modCount" "I") ∈ XT := xt_t (i := 41) (by decide +kernel) (by decide)
theorem kf_AL_modCount : (Cond.sameField "java/util/ArrayList" "java/util/AbstractList" "modCount" "I") ∈ XT := xt_t (i := 42) (by decide +kernel) (by decide)
theorem f_KF_10 : (Cond.fieldLink "KeyedFiles" (10 : Nat) "KeyedFiles" "indexes" "Ljava/util/ArrayList;") ∈ XT := xt_t (i := 50) (by decide +kernel) (by decide)
theorem f_KF_16 : (Cond.fieldLink "KeyedFiles" (16 : Nat) "KeyedFiles" "views" "Ljava/util/ArrayList;") ∈ XT := xt_t (i := 51) (by decide +kernel) (by decide)
theorem f_KF_23 : (Cond.fieldLink "KeyedFiles" (23 : Nat) "KeyedFiles" "everOpened" "Z") ∈ XT := xt_t (i := 52) (by decide +kernel) (by decide)
theorem f_KF_222 : (Cond.fieldLink "KeyedFiles" (222 : Nat) "KeyedFiles" "arrivals" "J") ∈ XT := xt_t (i := 53) (by decide +kernel) (by decide)
theorem f_KF_181 : (Cond.fieldLink "KeyedFiles" (181 : Nat) "KeyedFiles" "sweeps" "J") ∈ XT := xt_t (i := 54) (by decide +kernel) (by decide)
theorem m_LW_13 : (Cond.methodLink "KeyedFilesLaw" (13 : Nat) ({ cls := "KeyedFiles", name := "key", desc := "(ZZII)I" } : MethodName)) ∈ XT := xt_t (i := 66) (by decide +kernel) (by decide)
theorem ki_KF_key : (Cond.instanceMethod ({ cls := "KeyedFiles", name := "key", desc := "(ZZII)I" } : MethodName)) ∈ XT := xt_t (i := 67) (by decide +kernel) (by decide)
theorem kv_KF_key : (Cond.selects "KeyedFiles" ({ cls := "KeyedFiles", name := "key", desc := "(ZZII)I" } : MethodName) ({ cls := "KeyedFiles", name := "key", desc := "(ZZII)I" } : MethodName)) ∈ XT := xt_t (i := 68) (by decide +kernel) (by decide)
set_option maxRecDepth 20000 in
theorem kc_KF_key : (Cond.code ({ cls := "KeyedFiles", name := "key", desc := "(ZZII)I" } : MethodName) prog_1_method_2_code (6 : Nat) (Option.some FieldType.int)) ∈ XT := xt_t (i := 69) (rfl) (by decide)
theorem m_KF_19 : (Cond.methodLink "KeyedFiles" (19 : Nat) ({ cls := "java/util/ArrayList", name := "size", desc := "()I" } : MethodName)) ∈ XT := xt_t (i := 70) (by decide +kernel) (by decide)
theorem ki_AL_size : (Cond.instanceMethod ({ cls := "java/util/ArrayList", name := "size", desc := "()I" } : MethodName)) ∈ XT := xt_t (i := 71) (by decide +kernel) (by decide)
theorem kv_AL_size : (Cond.selects "java/util/ArrayList" ({ cls := "java/util/ArrayList", name := "size", desc := "()I" } : MethodName) ({ cls := "java/util/ArrayList", name := "size", desc := "()I" } : MethodName)) ∈ XT := xt_t (i := 72) (by decide +kernel) (by decide)
set_option maxRecDepth 20000 in
theorem kc_AL_size : (Cond.code ({ cls := "java/util/ArrayList", name := "size", desc := "()I" } : MethodName) prog_15_method_8_code (1 : Nat) (Option.some FieldType.int)) ∈ XT := xt_t (i := 73) (rfl) (by decide)
theorem cl_KF_27 : (Cond.classLink "KeyedFiles" (27 : Nat) "KeyedFiles$KeyIndex") ∈ XT := xt_t (i := 74) (by decide +kernel) (by decide)
theorem kb_KI : (Cond.instantiable "KeyedFiles$KeyIndex" (6 : Nat)) ∈ XT := xt_t (i := 75) (by decide +kernel) (by decide)
theorem m_KF_29 : (Cond.methodLink "KeyedFiles" (29 : Nat) ({ cls := "KeyedFiles$KeyIndex", name := "<init>", desc := "(ZII)V" } : MethodName)) ∈ XT := xt_t (i := 76) (by decide +kernel) (by decide)
theorem ki_KI_init : (Cond.instanceMethod ({ cls := "KeyedFiles$KeyIndex", name := "<init>", desc := "(ZII)V" } : MethodName)) ∈ XT := xt_t (i := 77) (by decide +kernel) (by decide)
set_option maxRecDepth 20000 in
theorem kc_KI_init : (Cond.code ({ cls := "KeyedFiles$KeyIndex", name := "<init>", desc := "(ZII)V" } : MethodName) prog_3_method_1_code (4 : Nat) (Option.none : Option FieldType)) ∈ XT := xt_t (i := 78) (rfl) (by decide)
theorem m_KI_3 : (Cond.methodLink "KeyedFiles$KeyIndex" (3 : Nat) ({ cls := "java/lang/Object", name := "<init>", desc := "()V" } : MethodName)) ∈ XT := xt_t (i := 79) (by decide +kernel) (by decide)
theorem cl_KI_22 : (Cond.classLink "KeyedFiles$KeyIndex" (22 : Nat) "java/util/ArrayList") ∈ XT := xt_t (i := 80) (by decide +kernel) (by decide)
theorem m_KI_24 : (Cond.methodLink "KeyedFiles$KeyIndex" (24 : Nat) ({ cls := "java/util/ArrayList", name := "<init>", desc := "()V" } : MethodName)) ∈ XT := xt_t (i := 81) (by decide +kernel) (by decide)
theorem f_KI_9 : (Cond.fieldLink "KeyedFiles$KeyIndex" (9 : Nat) "KeyedFiles$KeyIndex" "doubles" "Z") ∈ XT := xt_t (i := 82) (by decide +kernel) (by decide)
theorem f_KF_215 : (Cond.fieldLink "KeyedFiles" (215 : Nat) "KeyedFiles$KeyIndex" "doubles" "Z") ∈ XT := xt_t (i := 83) (by decide +kernel) (by decide)
theorem f_KI_15 : (Cond.fieldLink "KeyedFiles$KeyIndex" (15 : Nat) "KeyedFiles$KeyIndex" "from" "I") ∈ XT := xt_t (i := 84) (by decide +kernel) (by decide)
theorem f_KI_19 : (Cond.fieldLink "KeyedFiles$KeyIndex" (19 : Nat) "KeyedFiles$KeyIndex" "size" "I") ∈ XT := xt_t (i := 85) (by decide +kernel) (by decide)
theorem f_KF_123 : (Cond.fieldLink "KeyedFiles" (123 : Nat) "KeyedFiles$KeyIndex" "size" "I") ∈ XT := xt_t (i := 86) (by decide +kernel) (by decide)
theorem f_KI_25 : (Cond.fieldLink "KeyedFiles$KeyIndex" (25 : Nat) "KeyedFiles$KeyIndex" "entries" "Ljava/util/ArrayList;") ∈ XT := xt_t (i := 87) (by decide +kernel) (by decide)
theorem f_KF_188 : (Cond.fieldLink "KeyedFiles" (188 : Nat) "KeyedFiles$KeyIndex" "entries" "Ljava/util/ArrayList;") ∈ XT := xt_t (i := 88) (by decide +kernel) (by decide)
theorem f_KI_29 : (Cond.fieldLink "KeyedFiles$KeyIndex" (29 : Nat) "KeyedFiles$KeyIndex" "isSparse" "Z") ∈ XT := xt_t (i := 89) (by decide +kernel) (by decide)
theorem f_KI_32 : (Cond.fieldLink "KeyedFiles$KeyIndex" (32 : Nat) "KeyedFiles$KeyIndex" "fieldLeftOut" "J") ∈ XT := xt_t (i := 90) (by decide +kernel) (by decide)
theorem m_KF_32 : (Cond.methodLink "KeyedFiles" (32 : Nat) ({ cls := "java/util/ArrayList", name := "add", desc := "(Ljava/lang/Object;)Z" } : MethodName)) ∈ XT := xt_t (i := 104) (by decide +kernel) (by decide)
theorem ki_AL_add1 : (Cond.instanceMethod ({ cls := "java/util/ArrayList", name := "add", desc := "(Ljava/lang/Object;)Z" } : MethodName)) ∈ XT := xt_t (i := 105) (by decide +kernel) (by decide)
theorem kv_AL_add1 : (Cond.selects "java/util/ArrayList" ({ cls := "java/util/ArrayList", name := "add", desc := "(Ljava/lang/Object;)Z" } : MethodName) ({ cls := "java/util/ArrayList", name := "add", desc := "(Ljava/lang/Object;)Z" } : MethodName)) ∈ XT := xt_t (i := 106) (by decide +kernel) (by decide)
set_option maxRecDepth 20000 in
theorem kc_AL_add1 : (Cond.code ({ cls := "java/util/ArrayList", name := "add", desc := "(Ljava/lang/Object;)Z" } : MethodName) prog_15_method_25_code (2 : Nat) (Option.some FieldType.boolean)) ∈ XT := xt_t (i := 107) (rfl) (by decide)
theorem m_AL_131 : (Cond.methodLink "java/util/ArrayList" (131 : Nat) ({ cls := "java/util/ArrayList", name := "add", desc := "(Ljava/lang/Object;[Ljava/lang/Object;I)V" } : MethodName)) ∈ XT := xt_t (i := 108) (by decide +kernel) (by decide)
theorem ki_AL_addA : (Cond.instanceMethod ({ cls := "java/util/ArrayList", name := "add", desc := "(Ljava/lang/Object;[Ljava/lang/Object;I)V" } : MethodName)) ∈ XT := xt_t (i := 110) (by decide +kernel) (by decide)
set_option maxRecDepth 20000 in
theorem kc_AL_addA : (Cond.code ({ cls := "java/util/ArrayList", name := "add", desc := "(Ljava/lang/Object;[Ljava/lang/Object;I)V" } : MethodName) prog_15_method_24_code (4 : Nat) (Option.none : Option FieldType)) ∈ XT := xt_t (i := 111) (rfl) (by decide)
theorem m_AL_129 : (Cond.methodLink "java/util/ArrayList" (129 : Nat) ({ cls := "java/util/ArrayList", name := "grow", desc := "()[Ljava/lang/Object;" } : MethodName)) ∈ XT := xt_t (i := 112) (by decide +kernel) (by decide)
theorem ki_AL_grow0 : (Cond.instanceMethod ({ cls := "java/util/ArrayList", name := "grow", desc := "()[Ljava/lang/Object;" } : MethodName)) ∈ XT := xt_t (i := 114) (by decide +kernel) (by decide)
set_option maxRecDepth 20000 in
theorem kc_AL_grow0 : (Cond.code ({ cls := "java/util/ArrayList", name := "grow", desc := "()[Ljava/lang/Object;" } : MethodName) prog_15_method_7_code (1 : Nat) (Option.some (FieldType.array (FieldType.object "java/lang/Object")))) ∈ XT := xt_t (i := 115) (rfl) (by decide)
theorem m_AL_69 : (Cond.methodLink "java/util/ArrayList" (69 : Nat) ({ cls := "java/util/ArrayList", name := "grow", desc := "(I)[Ljava/lang/Object;" } : MethodName)) ∈ XT := xt_t (i := 116) (by decide +kernel) (by decide)
theorem ki_AL_growI : (Cond.instanceMethod ({ cls := "java/util/ArrayList", name := "grow", desc := "(I)[Ljava/lang/Object;" } : MethodName)) ∈ XT := xt_t (i := 118) (by decide +kernel) (by decide)
set_option maxRecDepth 20000 in
theorem kc_AL_growI : (Cond.code ({ cls := "java/util/ArrayList", name := "grow", desc := "(I)[Ljava/lang/Object;" } : MethodName) prog_15_method_6_code (4 : Nat) (Option.some (FieldType.array (FieldType.object "java/lang/Object")))) ∈ XT := xt_t (i := 119) (rfl) (by decide)
theorem m_AL_73 : (Cond.methodLink "java/util/ArrayList" (73 : Nat) ({ cls := "jdk/internal/util/ArraysSupport", name := "newLength", desc := "(III)I" } : MethodName)) ∈ XT := xt_t (i := 120) (by decide +kernel) (by decide)
theorem ks_AS_newLength : (Cond.static ({ cls := "jdk/internal/util/ArraysSupport", name := "newLength", desc := "(III)I" } : MethodName)) ∈ XT := xt_t (i := 121) (by decide +kernel) (by decide)
set_option maxRecDepth 20000 in
theorem kc_AS_newLength : (Cond.code ({ cls := "jdk/internal/util/ArraysSupport", name := "newLength", desc := "(III)I" } : MethodName) prog_22_method_27_code (4 : Nat) (Option.some FieldType.int)) ∈ XT := xt_t (i := 122) (rfl) (by decide)
theorem m_AS_194 : (Cond.methodLink "jdk/internal/util/ArraysSupport" (194 : Nat) ({ cls := "java/lang/Math", name := "max", desc := "(II)I" } : MethodName)) ∈ XT := xt_t (i := 123) (by decide +kernel) (by decide)
theorem ks_MA_max : (Cond.static ({ cls := "java/lang/Math", name := "max", desc := "(II)I" } : MethodName)) ∈ XT := xt_t (i := 124) (by decide +kernel) (by decide)
set_option maxRecDepth 20000 in
theorem kc_MA_max : (Cond.code ({ cls := "java/lang/Math", name := "max", desc := "(II)I" } : MethodName) prog_11_method_65_code (2 : Nat) (Option.some FieldType.int)) ∈ XT := xt_t (i := 125) (rfl) (by decide)
theorem kl_AS_200 : (Cond.constant "jdk/internal/util/ArraysSupport" (200 : Nat) (2147483639 : Int32)) ∈ XT := xt_t (i := 126) (by decide +kernel) (by decide)
theorem m_AS_201 : (Cond.methodLink "jdk/internal/util/ArraysSupport" (201 : Nat) ({ cls := "jdk/internal/util/ArraysSupport", name := "hugeLength", desc := "(II)I" } : MethodName)) ∈ XT := xt_t (i := 127) (by decide +kernel) (by decide)
theorem ks_AS_hugeLength : (Cond.static ({ cls := "jdk/internal/util/ArraysSupport", name := "hugeLength", desc := "(II)I" } : MethodName)) ∈ XT := xt_t (i := 128) (by decide +kernel) (by decide)
set_option maxRecDepth 20000 in
theorem kc_AS_hugeLength : (Cond.code ({ cls := "jdk/internal/util/ArraysSupport", name := "hugeLength", desc := "(II)I" } : MethodName) prog_22_method_28_code (3 : Nat) (Option.some FieldType.int)) ∈ XT := xt_t (i := 129) (rfl) (by decide)
theorem m_AL_66 : (Cond.methodLink "java/util/ArrayList" (66 : Nat) ({ cls := "java/util/Arrays", name := "copyOf", desc := "([Ljava/lang/Object;I)[Ljava/lang/Object;" } : MethodName)) ∈ XT := xt_t (i := 130) (by decide +kernel) (by decide)
theorem ks_AR_copyOf2 : (Cond.static ({ cls := "java/util/Arrays", name := "copyOf", desc := "([Ljava/lang/Object;I)[Ljava/lang/Object;" } : MethodName)) ∈ XT := xt_t (i := 131) (by decide +kernel) (by decide)
set_option maxRecDepth 20000 in
theorem kc_AR_copyOf2 : (Cond.code ({ cls := "java/util/Arrays", name := "copyOf", desc := "([Ljava/lang/Object;I)[Ljava/lang/Object;" } : MethodName) prog_16_method_119_code (2 : Nat) (Option.some (FieldType.array (FieldType.object "java/lang/Object")))) ∈ XT := xt_t (i := 132) (rfl) (by decide)
theorem m_AR_86 : (Cond.methodLink "java/util/Arrays" (86 : Nat) ({ cls := "java/lang/Object", name := "getClass", desc := "()Ljava/lang/Class;" } : MethodName)) ∈ XT := xt_t (i := 133) (by decide +kernel) (by decide)
theorem ki_OB_getClass : (Cond.instanceMethod ({ cls := "java/lang/Object", name := "getClass", desc := "()Ljava/lang/Class;" } : MethodName)) ∈ XT := xt_t (i := 134) (by decide +kernel) (by decide)
theorem kv_KF__OB_getClass : (Cond.selects "KeyedFiles" ({ cls := "java/lang/Object", name := "getClass", desc := "()Ljava/lang/Class;" } : MethodName) ({ cls := "java/lang/Object", name := "getClass", desc := "()Ljava/lang/Class;" } : MethodName)) ∈ XT := xt_t (i := 136) (by decide +kernel) (by decide)
theorem kv_EN__OB_getClass : (Cond.selects "KeyedFiles$Entry" ({ cls := "java/lang/Object", name := "getClass", desc := "()Ljava/lang/Class;" } : MethodName) ({ cls := "java/lang/Object", name := "getClass", desc := "()Ljava/lang/Class;" } : MethodName)) ∈ XT := xt_t (i := 137) (by decide +kernel) (by decide)
theorem kv_KI__OB_getClass : (Cond.selects "KeyedFiles$KeyIndex" ({ cls := "java/lang/Object", name := "getClass", desc := "()Ljava/lang/Class;" } : MethodName) ({ cls := "java/lang/Object", name := "getClass", desc := "()Ljava/lang/Class;" } : MethodName)) ∈ XT := xt_t (i := 138) (by decide +kernel) (by decide)
theorem kv_ST__OB_getClass : (Cond.selects "KeyedFiles$Stored" ({ cls := "java/lang/Object", name := "getClass", desc := "()Ljava/lang/Class;" } : MethodName) ({ cls := "java/lang/Object", name := "getClass", desc := "()Ljava/lang/Class;" } : MethodName)) ∈ XT := xt_t (i := 139) (by decide +kernel) (by decide)
theorem kv_VW__OB_getClass : (Cond.selects "KeyedFiles$View" ({ cls := "java/lang/Object", name := "getClass", desc := "()Ljava/lang/Class;" } : MethodName) ({ cls := "java/lang/Object", name := "getClass", desc := "()Ljava/lang/Class;" } : MethodName)) ∈ XT := xt_t (i := 140) (by decide +kernel) (by decide)
theorem kv_MD__OB_getClass : (Cond.selects "KeyedFilesModel" ({ cls := "java/lang/Object", name := "getClass", desc := "()Ljava/lang/Class;" } : MethodName) ({ cls := "java/lang/Object", name := "getClass", desc := "()Ljava/lang/Class;" } : MethodName)) ∈ XT := xt_t (i := 141) (by decide +kernel) (by decide)
theorem kv_AL__OB_getClass : (Cond.selects "java/util/ArrayList" ({ cls := "java/lang/Object", name := "getClass", desc := "()Ljava/lang/Class;" } : MethodName) ({ cls := "java/lang/Object", name := "getClass", desc := "()Ljava/lang/Class;" } : MethodName)) ∈ XT := xt_t (i := 142) (by decide +kernel) (by decide)
theorem kn_OB_getClass : (Cond.native ({ cls := "java/lang/Object", name := "getClass", desc := "()Ljava/lang/Class;" } : MethodName)) ∈ XT := xt_t (i := 143) (by decide +kernel) (by decide)
theorem m_AR_300 : (Cond.methodLink "java/util/Arrays" (300 : Nat) ({ cls := "java/util/Arrays", name := "copyOf", desc := "([Ljava/lang/Object;ILjava/lang/Class;)[Ljava/lang/Object;" } : MethodName)) ∈ XT := xt_t (i := 144) (by decide +kernel) (by decide)
theorem ks_AR_copyOf3 : (Cond.static ({ cls := "java/util/Arrays", name := "copyOf", desc := "([Ljava/lang/Object;ILjava/lang/Class;)[Ljava/lang/Object;" } : MethodName)) ∈ XT := xt_t (i := 145) (by decide +kernel) (by decide)
set_option maxRecDepth 20000 in
theorem kc_AR_copyOf3 : (Cond.code ({ cls := "java/util/Arrays", name := "copyOf", desc := "([Ljava/lang/Object;ILjava/lang/Class;)[Ljava/lang/Object;" } : MethodName) prog_16_method_120_code (4 : Nat) (Option.some (FieldType.array (FieldType.object "java/lang/Object")))) ∈ XT := xt_t (i := 146) (rfl) (by decide)
theorem cl_AR_110 : (Cond.classLink "java/util/Arrays" (110 : Nat) "[Ljava/lang/Object;") ∈ XT := xt_t (i := 147) (by decide +kernel) (by decide)
theorem cl_AR_2 : (Cond.classLink "java/util/Arrays" (2 : Nat) "java/lang/Object") ∈ XT := xt_t (i := 149) (by decide +kernel) (by decide)
theorem m_AR_304 : (Cond.methodLink "java/util/Arrays" (304 : Nat) ({ cls := "java/lang/Math", name := "min", desc := "(II)I" } : MethodName)) ∈ XT := xt_t (i := 150) (by decide +kernel) (by decide)
theorem ks_MA_min : (Cond.static ({ cls := "java/lang/Math", name := "min", desc := "(II)I" } : MethodName)) ∈ XT := xt_t (i := 151) (by decide +kernel) (by decide)
set_option maxRecDepth 20000 in
theorem kc_MA_min : (Cond.code ({ cls := "java/lang/Math", name := "min", desc := "(II)I" } : MethodName) prog_11_method_69_code (2 : Nat) (Option.some FieldType.int)) ∈ XT := xt_t (i := 152) (rfl) (by decide)
theorem m_AR_150 : (Cond.methodLink "java/util/Arrays" (150 : Nat) ({ cls := "java/lang/System", name := "arraycopy", desc := "(Ljava/lang/Object;ILjava/lang/Object;II)V" } : MethodName)) ∈ XT := xt_t (i := 153) (by decide +kernel) (by decide)
theorem ks_SY_arraycopy : (Cond.static ({ cls := "java/lang/System", name := "arraycopy", desc := "(Ljava/lang/Object;ILjava/lang/Object;II)V" } : MethodName)) ∈ XT := xt_t (i := 154) (by decide +kernel) (by decide)
theorem kn_SY_arraycopy : (Cond.native ({ cls := "java/lang/System", name := "arraycopy", desc := "(Ljava/lang/Object;ILjava/lang/Object;II)V" } : MethodName)) ∈ XT := xt_t (i := 155) (by decide +kernel) (by decide)
theorem m_AL_79 : (Cond.methodLink "java/util/ArrayList" (79 : Nat) ({ cls := "java/lang/Math", name := "max", desc := "(II)I" } : MethodName)) ∈ XT := xt_t (i := 156) (by decide +kernel) (by decide)
theorem cl_AL_7 : (Cond.classLink "java/util/ArrayList" (7 : Nat) "java/lang/Object") ∈ XT := xt_t (i := 157) (by decide +kernel) (by decide)
theorem m_LW_20 : (Cond.methodLink "KeyedFilesLaw" (20 : Nat) ({ cls := "KeyedFiles", name := "sparse", desc := "(IJ)I" } : MethodName)) ∈ XT := xt_t (i := 158) (by decide +kernel) (by decide)
theorem ki_KF_sparse : (Cond.instanceMethod ({ cls := "KeyedFiles", name := "sparse", desc := "(IJ)I" } : MethodName)) ∈ XT := xt_t (i := 159) (by decide +kernel) (by decide)
theorem kv_KF_sparse : (Cond.selects "KeyedFiles" ({ cls := "KeyedFiles", name := "sparse", desc := "(IJ)I" } : MethodName) ({ cls := "KeyedFiles", name := "sparse", desc := "(IJ)I" } : MethodName)) ∈ XT := xt_t (i := 160) (by decide +kernel) (by decide)
set_option maxRecDepth 20000 in
theorem kc_KF_sparse : (Cond.code ({ cls := "KeyedFiles", name := "sparse", desc := "(IJ)I" } : MethodName) prog_1_method_3_code (5 : Nat) (Option.some FieldType.int)) ∈ XT := xt_t (i := 161) (rfl) (by decide)
theorem m_KF_36 : (Cond.methodLink "KeyedFiles" (36 : Nat) ({ cls := "KeyedFiles", name := "indexAt", desc := "(I)LKeyedFiles$KeyIndex;" } : MethodName)) ∈ XT := xt_t (i := 162) (by decide +kernel) (by decide)
theorem ki_KF_indexAt : (Cond.instanceMethod ({ cls := "KeyedFiles", name := "indexAt", desc := "(I)LKeyedFiles$KeyIndex;" } : MethodName)) ∈ XT := xt_t (i := 164) (by decide +kernel) (by decide)
set_option maxRecDepth 20000 in
theorem kc_KF_indexAt : (Cond.code ({ cls := "KeyedFiles", name := "indexAt", desc := "(I)LKeyedFiles$KeyIndex;" } : MethodName) prog_1_method_18_code (2 : Nat) (Option.some (FieldType.object "KeyedFiles$KeyIndex"))) ∈ XT := xt_t (i := 165) (rfl) (by decide)
theorem m_KF_177 : (Cond.methodLink "KeyedFiles" (177 : Nat) ({ cls := "java/util/ArrayList", name := "get", desc := "(I)Ljava/lang/Object;" } : MethodName)) ∈ XT := xt_t (i := 166) (by decide +kernel) (by decide)
theorem ki_AL_get : (Cond.instanceMethod ({ cls := "java/util/ArrayList", name := "get", desc := "(I)Ljava/lang/Object;" } : MethodName)) ∈ XT := xt_t (i := 167) (by decide +kernel) (by decide)
theorem kv_AL_get : (Cond.selects "java/util/ArrayList" ({ cls := "java/util/ArrayList", name := "get", desc := "(I)Ljava/lang/Object;" } : MethodName) ({ cls := "java/util/ArrayList", name := "get", desc := "(I)Ljava/lang/Object;" } : MethodName)) ∈ XT := xt_t (i := 168) (by decide +kernel) (by decide)
set_option maxRecDepth 20000 in
theorem kc_AL_get : (Cond.code ({ cls := "java/util/ArrayList", name := "get", desc := "(I)Ljava/lang/Object;" } : MethodName) prog_15_method_20_code (2 : Nat) (Option.some (FieldType.object "java/lang/Object"))) ∈ XT := xt_t (i := 169) (rfl) (by decide)
theorem m_AL_118 : (Cond.methodLink "java/util/ArrayList" (118 : Nat) ({ cls := "java/util/Objects", name := "checkIndex", desc := "(II)I" } : MethodName)) ∈ XT := xt_t (i := 170) (by decide +kernel) (by decide)
theorem ks_OJ_checkIndex : (Cond.static ({ cls := "java/util/Objects", name := "checkIndex", desc := "(II)I" } : MethodName)) ∈ XT := xt_t (i := 171) (by decide +kernel) (by decide)
set_option maxRecDepth 20000 in
theorem kc_OJ_checkIndex : (Cond.code ({ cls := "java/util/Objects", name := "checkIndex", desc := "(II)I" } : MethodName) prog_19_method_17_code (2 : Nat) (Option.some FieldType.int)) ∈ XT := xt_t (i := 172) (rfl) (by decide)
theorem m_OJ_105 : (Cond.methodLink "java/util/Objects" (105 : Nat) ({ cls := "jdk/internal/util/Preconditions", name := "checkIndex", desc := "(IILjava/util/function/BiFunction;)I" } : MethodName)) ∈ XT := xt_t (i := 173) (by decide +kernel) (by decide)
theorem ks_PC_checkIndex : (Cond.static ({ cls := "jdk/internal/util/Preconditions", name := "checkIndex", desc := "(IILjava/util/function/BiFunction;)I" } : MethodName)) ∈ XT := xt_t (i := 174) (by decide +kernel) (by decide)
set_option maxRecDepth 20000 in
theorem kc_PC_checkIndex : (Cond.code ({ cls := "jdk/internal/util/Preconditions", name := "checkIndex", desc := "(IILjava/util/function/BiFunction;)I" } : MethodName) prog_23_method_11_code (3 : Nat) (Option.some FieldType.int)) ∈ XT := xt_t (i := 175) (rfl) (by decide)
theorem m_AL_123 : (Cond.methodLink "java/util/ArrayList" (123 : Nat) ({ cls := "java/util/ArrayList", name := "elementData", desc := "(I)Ljava/lang/Object;" } : MethodName)) ∈ XT := xt_t (i := 176) (by decide +kernel) (by decide)
theorem ki_AL_elementData : (Cond.instanceMethod ({ cls := "java/util/ArrayList", name := "elementData", desc := "(I)Ljava/lang/Object;" } : MethodName)) ∈ XT := xt_t (i := 177) (by decide +kernel) (by decide)
theorem kv_AL_elementData : (Cond.selects "java/util/ArrayList" ({ cls := "java/util/ArrayList", name := "elementData", desc := "(I)Ljava/lang/Object;" } : MethodName) ({ cls := "java/util/ArrayList", name := "elementData", desc := "(I)Ljava/lang/Object;" } : MethodName)) ∈ XT := xt_t (i := 178) (by decide +kernel) (by decide)
set_option maxRecDepth 20000 in
theorem kc_AL_elementData : (Cond.code ({ cls := "java/util/ArrayList", name := "elementData", desc := "(I)Ljava/lang/Object;" } : MethodName) prog_15_method_18_code (2 : Nat) (Option.some (FieldType.object "java/lang/Object"))) ∈ XT := xt_t (i := 179) (rfl) (by decide)
theorem m_KF_40 : (Cond.methodLink "KeyedFiles" (40 : Nat) ({ cls := "KeyedFiles$KeyIndex", name := "leaveOut", desc := "(J)V" } : MethodName)) ∈ XT := xt_t (i := 180) (by decide +kernel) (by decide)
theorem ki_KI_leaveOut : (Cond.instanceMethod ({ cls := "KeyedFiles$KeyIndex", name := "leaveOut", desc := "(J)V" } : MethodName)) ∈ XT := xt_t (i := 181) (by decide +kernel) (by decide)
theorem kv_KI_leaveOut : (Cond.selects "KeyedFiles$KeyIndex" ({ cls := "KeyedFiles$KeyIndex", name := "leaveOut", desc := "(J)V" } : MethodName) ({ cls := "KeyedFiles$KeyIndex", name := "leaveOut", desc := "(J)V" } : MethodName)) ∈ XT := xt_t (i := 182) (by decide +kernel) (by decide)
set_option maxRecDepth 20000 in
theorem kc_KI_leaveOut : (Cond.code ({ cls := "KeyedFiles$KeyIndex", name := "leaveOut", desc := "(J)V" } : MethodName) prog_3_method_2_code (3 : Nat) (Option.none : Option FieldType)) ∈ XT := xt_t (i := 183) (rfl) (by decide)
theorem m_LW_25 : (Cond.methodLink "KeyedFilesLaw" (25 : Nat) ({ cls := "KeyedFiles", name := "view", desc := "()I" } : MethodName)) ∈ XT := xt_t (i := 184) (by decide +kernel) (by decide)
theorem ki_KF_view : (Cond.instanceMethod ({ cls := "KeyedFiles", name := "view", desc := "()I" } : MethodName)) ∈ XT := xt_t (i := 185) (by decide +kernel) (by decide)
theorem kv_KF_view : (Cond.selects "KeyedFiles" ({ cls := "KeyedFiles", name := "view", desc := "()I" } : MethodName) ({ cls := "KeyedFiles", name := "view", desc := "()I" } : MethodName)) ∈ XT := xt_t (i := 186) (by decide +kernel) (by decide)
set_option maxRecDepth 20000 in
theorem kc_KF_view : (Cond.code ({ cls := "KeyedFiles", name := "view", desc := "()I" } : MethodName) prog_1_method_4_code (2 : Nat) (Option.some FieldType.int)) ∈ XT := xt_t (i := 187) (rfl) (by decide)
theorem m_KF_44 : (Cond.methodLink "KeyedFiles" (44 : Nat) ({ cls := "java/util/ArrayList", name := "isEmpty", desc := "()Z" } : MethodName)) ∈ XT := xt_t (i := 188) (by decide +kernel) (by decide)
theorem ki_AL_isEmpty : (Cond.instanceMethod ({ cls := "java/util/ArrayList", name := "isEmpty", desc := "()Z" } : MethodName)) ∈ XT := xt_t (i := 189) (by decide +kernel) (by decide)
theorem kv_AL_isEmpty : (Cond.selects "java/util/ArrayList" ({ cls := "java/util/ArrayList", name := "isEmpty", desc := "()Z" } : MethodName) ({ cls := "java/util/ArrayList", name := "isEmpty", desc := "()Z" } : MethodName)) ∈ XT := xt_t (i := 190) (by decide +kernel) (by decide)
set_option maxRecDepth 20000 in
theorem kc_AL_isEmpty : (Cond.code ({ cls := "java/util/ArrayList", name := "isEmpty", desc := "()Z" } : MethodName) prog_15_method_9_code (1 : Nat) (Option.some FieldType.boolean)) ∈ XT := xt_t (i := 191) (rfl) (by decide)
theorem cl_KF_48 : (Cond.classLink "KeyedFiles" (48 : Nat) "KeyedFiles$View") ∈ XT := xt_t (i := 192) (by decide +kernel) (by decide)
theorem kb_VW : (Cond.instantiable "KeyedFiles$View" (12 : Nat)) ∈ XT := xt_t (i := 193) (by decide +kernel) (by decide)
theorem ki_VW_init : (Cond.instanceMethod ({ cls := "KeyedFiles$View", name := "<init>", desc := "()V" } : MethodName)) ∈ XT := xt_t (i := 195) (by decide +kernel) (by decide)
set_option maxRecDepth 20000 in
theorem kc_VW_init : (Cond.code ({ cls := "KeyedFiles$View", name := "<init>", desc := "()V" } : MethodName) prog_5_method_1_code (1 : Nat) (Option.none : Option FieldType)) ∈ XT := xt_t (i := 196) (rfl) (by decide)
theorem m_VW_3 : (Cond.methodLink "KeyedFiles$View" (3 : Nat) ({ cls := "java/lang/Object", name := "<init>", desc := "()V" } : MethodName)) ∈ XT := xt_t (i := 197) (by decide +kernel) (by decide)
theorem f_VW_9 : (Cond.fieldLink "KeyedFiles$View" (9 : Nat) "KeyedFiles$View" "isOpen" "Z") ∈ XT := xt_t (i := 198) (by decide +kernel) (by decide)
theorem f_KF_55 : (Cond.fieldLink "KeyedFiles" (55 : Nat) "KeyedFiles$View" "isOpen" "Z") ∈ XT := xt_t (i := 199) (by decide +kernel) (by decide)
theorem f_VW_15 : (Cond.fieldLink "KeyedFiles$View" (15 : Nat) "KeyedFiles$View" "mode" "I") ∈ XT := xt_t (i := 200) (by decide +kernel) (by decide)
theorem f_KF_209 : (Cond.fieldLink "KeyedFiles" (209 : Nat) "KeyedFiles$View" "mode" "I") ∈ XT := xt_t (i := 201) (by decide +kernel) (by decide)
theorem f_VW_19 : (Cond.fieldLink "KeyedFiles$View" (19 : Nat) "KeyedFiles$View" "access" "I") ∈ XT := xt_t (i := 202) (by decide +kernel) (by decide)
theorem f_KF_71 : (Cond.fieldLink "KeyedFiles" (71 : Nat) "KeyedFiles$View" "access" "I") ∈ XT := xt_t (i := 203) (by decide +kernel) (by decide)
theorem f_VW_22 : (Cond.fieldLink "KeyedFiles$View" (22 : Nat) "KeyedFiles$View" "keyOfReference" "I") ∈ XT := xt_t (i := 204) (by decide +kernel) (by decide)
theorem f_KF_105 : (Cond.fieldLink "KeyedFiles" (105 : Nat) "KeyedFiles$View" "keyOfReference" "I") ∈ XT := xt_t (i := 205) (by decide +kernel) (by decide)
theorem f_VW_25 : (Cond.fieldLink "KeyedFiles$View" (25 : Nat) "KeyedFiles$View" "place" "I") ∈ XT := xt_t (i := 206) (by decide +kernel) (by decide)
theorem f_KI_90 : (Cond.fieldLink "KeyedFiles$KeyIndex" (90 : Nat) "KeyedFiles$View" "place" "I") ∈ XT := xt_t (i := 207) (by decide +kernel) (by decide)
theorem f_KF_133 : (Cond.fieldLink "KeyedFiles" (133 : Nat) "KeyedFiles$View" "place" "I") ∈ XT := xt_t (i := 208) (by decide +kernel) (by decide)
theorem f_VW_50 : (Cond.fieldLink "KeyedFiles$View" (50 : Nat) "KeyedFiles$View" "placeField" "J") ∈ XT := xt_t (i := 209) (by decide +kernel) (by decide)
theorem f_KI_98 : (Cond.fieldLink "KeyedFiles$KeyIndex" (98 : Nat) "KeyedFiles$View" "placeField" "J") ∈ XT := xt_t (i := 210) (by decide +kernel) (by decide)
theorem f_VW_56 : (Cond.fieldLink "KeyedFiles$View" (56 : Nat) "KeyedFiles$View" "placeCame" "J") ∈ XT := xt_t (i := 211) (by decide +kernel) (by decide)
theorem f_KI_95 : (Cond.fieldLink "KeyedFiles$KeyIndex" (95 : Nat) "KeyedFiles$View" "placeCame" "J") ∈ XT := xt_t (i := 212) (by decide +kernel) (by decide)
theorem f_VW_28 : (Cond.fieldLink "KeyedFiles$View" (28 : Nat) "KeyedFiles$View" "isAtEnd" "Z") ∈ XT := xt_t (i := 213) (by decide +kernel) (by decide)
theorem f_KF_136 : (Cond.fieldLink "KeyedFiles" (136 : Nat) "KeyedFiles$View" "isAtEnd" "Z") ∈ XT := xt_t (i := 214) (by decide +kernel) (by decide)
theorem f_VW_37 : (Cond.fieldLink "KeyedFiles$View" (37 : Nat) "KeyedFiles$View" "readLast" "LKeyedFiles$Stored;") ∈ XT := xt_t (i := 215) (by decide +kernel) (by decide)
theorem f_KF_238 : (Cond.fieldLink "KeyedFiles" (238 : Nat) "KeyedFiles$View" "readLast" "LKeyedFiles$Stored;") ∈ XT := xt_t (i := 216) (by decide +kernel) (by decide)
theorem f_VW_41 : (Cond.fieldLink "KeyedFiles$View" (41 : Nat) "KeyedFiles$View" "valueRead" "J") ∈ XT := xt_t (i := 217) (by decide +kernel) (by decide)
theorem f_KF_119 : (Cond.fieldLink "KeyedFiles" (119 : Nat) "KeyedFiles$View" "valueRead" "J") ∈ XT := xt_t (i := 218) (by decide +kernel) (by decide)
theorem f_VW_31 : (Cond.fieldLink "KeyedFiles$View" (31 : Nat) "KeyedFiles$View" "hasWritten" "Z") ∈ XT := xt_t (i := 219) (by decide +kernel) (by decide)
theorem f_KF_199 : (Cond.fieldLink "KeyedFiles" (199 : Nat) "KeyedFiles$View" "hasWritten" "Z") ∈ XT := xt_t (i := 220) (by decide +kernel) (by decide)
theorem f_VW_71 : (Cond.fieldLink "KeyedFiles$View" (71 : Nat) "KeyedFiles$View" "primeWritten" "J") ∈ XT := xt_t (i := 221) (by decide +kernel) (by decide)
theorem f_KF_202 : (Cond.fieldLink "KeyedFiles" (202 : Nat) "KeyedFiles$View" "primeWritten" "J") ∈ XT := xt_t (i := 222) (by decide +kernel) (by decide)
theorem m_LW_30 : (Cond.methodLink "KeyedFilesLaw" (30 : Nat) ({ cls := "KeyedFiles", name := "open", desc := "(III)I" } : MethodName)) ∈ XT := xt_t (i := 248) (by decide +kernel) (by decide)
theorem ki_KF_open : (Cond.instanceMethod ({ cls := "KeyedFiles", name := "open", desc := "(III)I" } : MethodName)) ∈ XT := xt_t (i := 249) (by decide +kernel) (by decide)
theorem kv_KF_open : (Cond.selects "KeyedFiles" ({ cls := "KeyedFiles", name := "open", desc := "(III)I" } : MethodName) ({ cls := "KeyedFiles", name := "open", desc := "(III)I" } : MethodName)) ∈ XT := xt_t (i := 250) (by decide +kernel) (by decide)
set_option maxRecDepth 20000 in
theorem kc_KF_open : (Cond.code ({ cls := "KeyedFiles", name := "open", desc := "(III)I" } : MethodName) prog_1_method_5_code (5 : Nat) (Option.some FieldType.int)) ∈ XT := xt_t (i := 251) (rfl) (by decide)
theorem m_KF_51 : (Cond.methodLink "KeyedFiles" (51 : Nat) ({ cls := "KeyedFiles", name := "viewAt", desc := "(I)LKeyedFiles$View;" } : MethodName)) ∈ XT := xt_t (i := 252) (by decide +kernel) (by decide)
theorem ki_KF_viewAt : (Cond.instanceMethod ({ cls := "KeyedFiles", name := "viewAt", desc := "(I)LKeyedFiles$View;" } : MethodName)) ∈ XT := xt_t (i := 254) (by decide +kernel) (by decide)
set_option maxRecDepth 20000 in
theorem kc_KF_viewAt : (Cond.code ({ cls := "KeyedFiles", name := "viewAt", desc := "(I)LKeyedFiles$View;" } : MethodName) prog_1_method_19_code (2 : Nat) (Option.some (FieldType.object "KeyedFiles$View"))) ∈ XT := xt_t (i := 255) (rfl) (by decide)
theorem m_KF_58 : (Cond.methodLink "KeyedFiles" (58 : Nat) ({ cls := "KeyedFiles", name := "dropAllRecords", desc := "()V" } : MethodName)) ∈ XT := xt_t (i := 256) (by decide +kernel) (by decide)
theorem ki_KF_dropAllRecords : (Cond.instanceMethod ({ cls := "KeyedFiles", name := "dropAllRecords", desc := "()V" } : MethodName)) ∈ XT := xt_t (i := 258) (by decide +kernel) (by decide)
set_option maxRecDepth 20000 in
theorem kc_KF_dropAllRecords : (Cond.code ({ cls := "KeyedFiles", name := "dropAllRecords", desc := "()V" } : MethodName) prog_1_method_28_code (2 : Nat) (Option.none : Option FieldType)) ∈ XT := xt_t (i := 259) (rfl) (by decide)
theorem m_KF_235 : (Cond.methodLink "KeyedFiles" (235 : Nat) ({ cls := "java/util/ArrayList", name := "clear", desc := "()V" } : MethodName)) ∈ XT := xt_t (i := 260) (by decide +kernel) (by decide)
theorem ki_AL_clear : (Cond.instanceMethod ({ cls := "java/util/ArrayList", name := "clear", desc := "()V" } : MethodName)) ∈ XT := xt_t (i := 261) (by decide +kernel) (by decide)
theorem kv_AL_clear : (Cond.selects "java/util/ArrayList" ({ cls := "java/util/ArrayList", name := "clear", desc := "()V" } : MethodName) ({ cls := "java/util/ArrayList", name := "clear", desc := "()V" } : MethodName)) ∈ XT := xt_t (i := 262) (by decide +kernel) (by decide)
set_option maxRecDepth 20000 in
theorem kc_AL_clear : (Cond.code ({ cls := "java/util/ArrayList", name := "clear", desc := "()V" } : MethodName) prog_15_method_40_code (4 : Nat) (Option.none : Option FieldType)) ∈ XT := xt_t (i := 263) (rfl) (by decide)
theorem m_KF_65 : (Cond.methodLink "KeyedFiles" (65 : Nat) ({ cls := "KeyedFiles$View", name := "forgetRead", desc := "()V" } : MethodName)) ∈ XT := xt_t (i := 264) (by decide +kernel) (by decide)
theorem ki_VW_forgetRead : (Cond.instanceMethod ({ cls := "KeyedFiles$View", name := "forgetRead", desc := "()V" } : MethodName)) ∈ XT := xt_t (i := 265) (by decide +kernel) (by decide)
theorem kv_VW_forgetRead : (Cond.selects "KeyedFiles$View" ({ cls := "KeyedFiles$View", name := "forgetRead", desc := "()V" } : MethodName) ({ cls := "KeyedFiles$View", name := "forgetRead", desc := "()V" } : MethodName)) ∈ XT := xt_t (i := 266) (by decide +kernel) (by decide)
set_option maxRecDepth 20000 in
theorem kc_VW_forgetRead : (Cond.code ({ cls := "KeyedFiles$View", name := "forgetRead", desc := "()V" } : MethodName) prog_5_method_3_code (1 : Nat) (Option.none : Option FieldType)) ∈ XT := xt_t (i := 267) (rfl) (by decide)
theorem m_KF_112 : (Cond.methodLink "KeyedFiles" (112 : Nat) ({ cls := "KeyedFiles$View", name := "lose", desc := "()V" } : MethodName)) ∈ XT := xt_t (i := 268) (by decide +kernel) (by decide)
theorem ki_VW_lose : (Cond.instanceMethod ({ cls := "KeyedFiles$View", name := "lose", desc := "()V" } : MethodName)) ∈ XT := xt_t (i := 269) (by decide +kernel) (by decide)
theorem kv_VW_lose : (Cond.selects "KeyedFiles$View" ({ cls := "KeyedFiles$View", name := "lose", desc := "()V" } : MethodName) ({ cls := "KeyedFiles$View", name := "lose", desc := "()V" } : MethodName)) ∈ XT := xt_t (i := 270) (by decide +kernel) (by decide)
set_option maxRecDepth 20000 in
theorem kc_VW_lose : (Cond.code ({ cls := "KeyedFiles$View", name := "lose", desc := "()V" } : MethodName) prog_5_method_4_code (1 : Nat) (Option.none : Option FieldType)) ∈ XT := xt_t (i := 271) (rfl) (by decide)
theorem m_KF_61 : (Cond.methodLink "KeyedFiles" (61 : Nat) ({ cls := "KeyedFiles$View", name := "begin", desc := "(II)V" } : MethodName)) ∈ XT := xt_t (i := 272) (by decide +kernel) (by decide)
theorem ki_VW_begin : (Cond.instanceMethod ({ cls := "KeyedFiles$View", name := "begin", desc := "(II)V" } : MethodName)) ∈ XT := xt_t (i := 273) (by decide +kernel) (by decide)
theorem kv_VW_begin : (Cond.selects "KeyedFiles$View" ({ cls := "KeyedFiles$View", name := "begin", desc := "(II)V" } : MethodName) ({ cls := "KeyedFiles$View", name := "begin", desc := "(II)V" } : MethodName)) ∈ XT := xt_t (i := 274) (by decide +kernel) (by decide)
set_option maxRecDepth 20000 in
theorem kc_VW_begin : (Cond.code ({ cls := "KeyedFiles$View", name := "begin", desc := "(II)V" } : MethodName) prog_5_method_2_code (3 : Nat) (Option.none : Option FieldType)) ∈ XT := xt_t (i := 275) (rfl) (by decide)
theorem m_VW_34 : (Cond.methodLink "KeyedFiles$View" (34 : Nat) ({ cls := "KeyedFiles$View", name := "forgetRead", desc := "()V" } : MethodName)) ∈ XT := xt_t (i := 276) (by decide +kernel) (by decide)
theorem m_LW_35 : (Cond.methodLink "KeyedFilesLaw" (35 : Nat) ({ cls := "KeyedFiles", name := "close", desc := "(I)I" } : MethodName)) ∈ XT := xt_t (i := 277) (by decide +kernel) (by decide)
theorem ki_KF_close : (Cond.instanceMethod ({ cls := "KeyedFiles", name := "close", desc := "(I)I" } : MethodName)) ∈ XT := xt_t (i := 278) (by decide +kernel) (by decide)
theorem kv_KF_close : (Cond.selects "KeyedFiles" ({ cls := "KeyedFiles", name := "close", desc := "(I)I" } : MethodName) ({ cls := "KeyedFiles", name := "close", desc := "(I)I" } : MethodName)) ∈ XT := xt_t (i := 279) (by decide +kernel) (by decide)
set_option maxRecDepth 20000 in
theorem kc_KF_close : (Cond.code ({ cls := "KeyedFiles", name := "close", desc := "(I)I" } : MethodName) prog_1_method_6_code (3 : Nat) (Option.some FieldType.int)) ∈ XT := xt_t (i := 280) (rfl) (by decide)
theorem m_LW_40 : (Cond.methodLink "KeyedFilesLaw" (40 : Nat) ({ cls := "KeyedFiles", name := "write", desc := "(IJ)I" } : MethodName)) ∈ XT := xt_t (i := 281) (by decide +kernel) (by decide)
theorem ki_KF_write : (Cond.instanceMethod ({ cls := "KeyedFiles", name := "write", desc := "(IJ)I" } : MethodName)) ∈ XT := xt_t (i := 282) (by decide +kernel) (by decide)
theorem kv_KF_write : (Cond.selects "KeyedFiles" ({ cls := "KeyedFiles", name := "write", desc := "(IJ)I" } : MethodName) ({ cls := "KeyedFiles", name := "write", desc := "(IJ)I" } : MethodName)) ∈ XT := xt_t (i := 283) (by decide +kernel) (by decide)
set_option maxRecDepth 20000 in
theorem kc_KF_write : (Cond.code ({ cls := "KeyedFiles", name := "write", desc := "(IJ)I" } : MethodName) prog_1_method_7_code (6 : Nat) (Option.some FieldType.int)) ∈ XT := xt_t (i := 284) (rfl) (by decide)
theorem m_KF_68 : (Cond.methodLink "KeyedFiles" (68 : Nat) ({ cls := "KeyedFiles$View", name := "refusalToWrite", desc := "()I" } : MethodName)) ∈ XT := xt_t (i := 285) (by decide +kernel) (by decide)
theorem ki_VW_refusalToWrite : (Cond.instanceMethod ({ cls := "KeyedFiles$View", name := "refusalToWrite", desc := "()I" } : MethodName)) ∈ XT := xt_t (i := 286) (by decide +kernel) (by decide)
theorem kv_VW_refusalToWrite : (Cond.selects "KeyedFiles$View" ({ cls := "KeyedFiles$View", name := "refusalToWrite", desc := "()I" } : MethodName) ({ cls := "KeyedFiles$View", name := "refusalToWrite", desc := "()I" } : MethodName)) ∈ XT := xt_t (i := 287) (by decide +kernel) (by decide)
set_option maxRecDepth 20000 in
theorem kc_VW_refusalToWrite : (Cond.code ({ cls := "KeyedFiles$View", name := "refusalToWrite", desc := "()I" } : MethodName) prog_5_method_9_code (1 : Nat) (Option.some FieldType.int)) ∈ XT := xt_t (i := 288) (rfl) (by decide)
theorem m_KF_75 : (Cond.methodLink "KeyedFiles" (75 : Nat) ({ cls := "KeyedFiles", name := "isOutOfOrder", desc := "(LKeyedFiles$View;J)Z" } : MethodName)) ∈ XT := xt_t (i := 289) (by decide +kernel) (by decide)
theorem ki_KF_isOutOfOrder : (Cond.instanceMethod ({ cls := "KeyedFiles", name := "isOutOfOrder", desc := "(LKeyedFiles$View;J)Z" } : MethodName)) ∈ XT := xt_t (i := 291) (by decide +kernel) (by decide)
set_option maxRecDepth 20000 in
theorem kc_KF_isOutOfOrder : (Cond.code ({ cls := "KeyedFiles", name := "isOutOfOrder", desc := "(LKeyedFiles$View;J)Z" } : MethodName) prog_1_method_22_code (8 : Nat) (Option.some FieldType.boolean)) ∈ XT := xt_t (i := 292) (rfl) (by decide)
theorem m_KF_87 : (Cond.methodLink "KeyedFiles" (87 : Nat) ({ cls := "KeyedFiles", name := "fieldOf", desc := "(IJ)J" } : MethodName)) ∈ XT := xt_t (i := 293) (by decide +kernel) (by decide)
theorem ki_KF_fieldOf : (Cond.instanceMethod ({ cls := "KeyedFiles", name := "fieldOf", desc := "(IJ)J" } : MethodName)) ∈ XT := xt_t (i := 295) (by decide +kernel) (by decide)
set_option maxRecDepth 20000 in
theorem kc_KF_fieldOf : (Cond.code ({ cls := "KeyedFiles", name := "fieldOf", desc := "(IJ)J" } : MethodName) prog_1_method_21_code (5 : Nat) (Option.some FieldType.long)) ∈ XT := xt_t (i := 296) (rfl) (by decide)
theorem m_KF_195 : (Cond.methodLink "KeyedFiles" (195 : Nat) ({ cls := "KeyedFiles$KeyIndex", name := "fieldIn", desc := "(J)J" } : MethodName)) ∈ XT := xt_t (i := 297) (by decide +kernel) (by decide)
theorem ki_KI_fieldIn : (Cond.instanceMethod ({ cls := "KeyedFiles$KeyIndex", name := "fieldIn", desc := "(J)J" } : MethodName)) ∈ XT := xt_t (i := 298) (by decide +kernel) (by decide)
theorem kv_KI_fieldIn : (Cond.selects "KeyedFiles$KeyIndex" ({ cls := "KeyedFiles$KeyIndex", name := "fieldIn", desc := "(J)J" } : MethodName) ({ cls := "KeyedFiles$KeyIndex", name := "fieldIn", desc := "(J)J" } : MethodName)) ∈ XT := xt_t (i := 299) (by decide +kernel) (by decide)
set_option maxRecDepth 20000 in
theorem kc_KI_fieldIn : (Cond.code ({ cls := "KeyedFiles$KeyIndex", name := "fieldIn", desc := "(J)J" } : MethodName) prog_3_method_4_code (3 : Nat) (Option.some FieldType.long)) ∈ XT := xt_t (i := 300) (rfl) (by decide)
theorem m_KF_205 : (Cond.methodLink "KeyedFiles" (205 : Nat) ({ cls := "KeyedFiles", name := "isBelow", desc := "(JJ)Z" } : MethodName)) ∈ XT := xt_t (i := 301) (by decide +kernel) (by decide)
theorem ks_KF_isBelow : (Cond.static ({ cls := "KeyedFiles", name := "isBelow", desc := "(JJ)Z" } : MethodName)) ∈ XT := xt_t (i := 302) (by decide +kernel) (by decide)
set_option maxRecDepth 20000 in
theorem kc_KF_isBelow : (Cond.code ({ cls := "KeyedFiles", name := "isBelow", desc := "(JJ)Z" } : MethodName) prog_1_method_32_code (4 : Nat) (Option.some FieldType.boolean)) ∈ XT := xt_t (i := 303) (rfl) (by decide)
theorem kl_KF_251 : (Cond.constantLong "KeyedFiles" (251 : Nat) (-9223372036854775808 : Int64)) ∈ XT := xt_t (i := 304) (by decide +kernel) (by decide)
theorem m_KF_167 : (Cond.methodLink "KeyedFiles" (167 : Nat) ({ cls := "KeyedFiles$KeyIndex", name := "entryAt", desc := "(I)LKeyedFiles$Entry;" } : MethodName)) ∈ XT := xt_t (i := 305) (by decide +kernel) (by decide)
theorem ki_KI_entryAt : (Cond.instanceMethod ({ cls := "KeyedFiles$KeyIndex", name := "entryAt", desc := "(I)LKeyedFiles$Entry;" } : MethodName)) ∈ XT := xt_t (i := 306) (by decide +kernel) (by decide)
theorem kv_KI_entryAt : (Cond.selects "KeyedFiles$KeyIndex" ({ cls := "KeyedFiles$KeyIndex", name := "entryAt", desc := "(I)LKeyedFiles$Entry;" } : MethodName) ({ cls := "KeyedFiles$KeyIndex", name := "entryAt", desc := "(I)LKeyedFiles$Entry;" } : MethodName)) ∈ XT := xt_t (i := 307) (by decide +kernel) (by decide)
set_option maxRecDepth 20000 in
theorem kc_KI_entryAt : (Cond.code ({ cls := "KeyedFiles$KeyIndex", name := "entryAt", desc := "(I)LKeyedFiles$Entry;" } : MethodName) prog_3_method_5_code (2 : Nat) (Option.some (FieldType.object "KeyedFiles$Entry"))) ∈ XT := xt_t (i := 308) (rfl) (by decide)
theorem m_KI_36 : (Cond.methodLink "KeyedFiles$KeyIndex" (36 : Nat) ({ cls := "java/util/ArrayList", name := "size", desc := "()I" } : MethodName)) ∈ XT := xt_t (i := 309) (by decide +kernel) (by decide)
theorem m_KI_39 : (Cond.methodLink "KeyedFiles$KeyIndex" (39 : Nat) ({ cls := "java/util/ArrayList", name := "get", desc := "(I)Ljava/lang/Object;" } : MethodName)) ∈ XT := xt_t (i := 310) (by decide +kernel) (by decide)
theorem cl_KI_43 : (Cond.classLink "KeyedFiles$KeyIndex" (43 : Nat) "KeyedFiles$Entry") ∈ XT := xt_t (i := 311) (by decide +kernel) (by decide)
theorem m_KF_79 : (Cond.methodLink "KeyedFiles" (79 : Nat) ({ cls := "KeyedFiles", name := "hasBarredDouble", desc := "(JLKeyedFiles$Stored;)Z" } : MethodName)) ∈ XT := xt_t (i := 312) (by decide +kernel) (by decide)
theorem ki_KF_hasBarredDouble : (Cond.instanceMethod ({ cls := "KeyedFiles", name := "hasBarredDouble", desc := "(JLKeyedFiles$Stored;)Z" } : MethodName)) ∈ XT := xt_t (i := 314) (by decide +kernel) (by decide)
set_option maxRecDepth 20000 in
theorem kc_KF_hasBarredDouble : (Cond.code ({ cls := "KeyedFiles", name := "hasBarredDouble", desc := "(JLKeyedFiles$Stored;)Z" } : MethodName) prog_1_method_23_code (7 : Nat) (Option.some FieldType.boolean)) ∈ XT := xt_t (i := 315) (rfl) (by decide)
theorem m_KF_108 : (Cond.methodLink "KeyedFiles" (108 : Nat) ({ cls := "KeyedFiles$KeyIndex", name := "firstEqual", desc := "(J)LKeyedFiles$Entry;" } : MethodName)) ∈ XT := xt_t (i := 316) (by decide +kernel) (by decide)
theorem ki_KI_firstEqual : (Cond.instanceMethod ({ cls := "KeyedFiles$KeyIndex", name := "firstEqual", desc := "(J)LKeyedFiles$Entry;" } : MethodName)) ∈ XT := xt_t (i := 317) (by decide +kernel) (by decide)
theorem kv_KI_firstEqual : (Cond.selects "KeyedFiles$KeyIndex" ({ cls := "KeyedFiles$KeyIndex", name := "firstEqual", desc := "(J)LKeyedFiles$Entry;" } : MethodName) ({ cls := "KeyedFiles$KeyIndex", name := "firstEqual", desc := "(J)LKeyedFiles$Entry;" } : MethodName)) ∈ XT := xt_t (i := 318) (by decide +kernel) (by decide)
set_option maxRecDepth 20000 in
theorem kc_KI_firstEqual : (Cond.code ({ cls := "KeyedFiles$KeyIndex", name := "firstEqual", desc := "(J)LKeyedFiles$Entry;" } : MethodName) prog_3_method_7_code (4 : Nat) (Option.some (FieldType.object "KeyedFiles$Entry"))) ∈ XT := xt_t (i := 319) (rfl) (by decide)
theorem m_KI_53 : (Cond.methodLink "KeyedFiles$KeyIndex" (53 : Nat) ({ cls := "KeyedFiles$KeyIndex", name := "countAheadOf", desc := "(JJ)I" } : MethodName)) ∈ XT := xt_t (i := 320) (by decide +kernel) (by decide)
theorem ki_KI_countAheadOf : (Cond.instanceMethod ({ cls := "KeyedFiles$KeyIndex", name := "countAheadOf", desc := "(JJ)I" } : MethodName)) ∈ XT := xt_t (i := 321) (by decide +kernel) (by decide)
theorem kv_KI_countAheadOf : (Cond.selects "KeyedFiles$KeyIndex" ({ cls := "KeyedFiles$KeyIndex", name := "countAheadOf", desc := "(JJ)I" } : MethodName) ({ cls := "KeyedFiles$KeyIndex", name := "countAheadOf", desc := "(JJ)I" } : MethodName)) ∈ XT := xt_t (i := 322) (by decide +kernel) (by decide)
set_option maxRecDepth 20000 in
theorem kc_KI_countAheadOf : (Cond.code ({ cls := "KeyedFiles$KeyIndex", name := "countAheadOf", desc := "(JJ)I" } : MethodName) prog_3_method_6_code (8 : Nat) (Option.some FieldType.int)) ∈ XT := xt_t (i := 323) (rfl) (by decide)
theorem m_KI_45 : (Cond.methodLink "KeyedFiles$KeyIndex" (45 : Nat) ({ cls := "KeyedFiles$KeyIndex", name := "entryAt", desc := "(I)LKeyedFiles$Entry;" } : MethodName)) ∈ XT := xt_t (i := 324) (by decide +kernel) (by decide)
theorem m_KI_49 : (Cond.methodLink "KeyedFiles$KeyIndex" (49 : Nat) ({ cls := "KeyedFiles$Entry", name := "standsAheadOf", desc := "(JJ)Z" } : MethodName)) ∈ XT := xt_t (i := 325) (by decide +kernel) (by decide)
theorem ki_EN_standsAheadOf : (Cond.instanceMethod ({ cls := "KeyedFiles$Entry", name := "standsAheadOf", desc := "(JJ)Z" } : MethodName)) ∈ XT := xt_t (i := 326) (by decide +kernel) (by decide)
theorem kv_EN_standsAheadOf : (Cond.selects "KeyedFiles$Entry" ({ cls := "KeyedFiles$Entry", name := "standsAheadOf", desc := "(JJ)Z" } : MethodName) ({ cls := "KeyedFiles$Entry", name := "standsAheadOf", desc := "(JJ)Z" } : MethodName)) ∈ XT := xt_t (i := 327) (by decide +kernel) (by decide)
set_option maxRecDepth 20000 in
theorem kc_EN_standsAheadOf : (Cond.code ({ cls := "KeyedFiles$Entry", name := "standsAheadOf", desc := "(JJ)Z" } : MethodName) prog_2_method_2_code (5 : Nat) (Option.some FieldType.boolean)) ∈ XT := xt_t (i := 328) (rfl) (by decide)
theorem m_KF_83 : (Cond.methodLink "KeyedFiles" (83 : Nat) ({ cls := "KeyedFiles", name := "entryCount", desc := "(I)I" } : MethodName)) ∈ XT := xt_t (i := 330) (by decide +kernel) (by decide)
theorem ki_KF_entryCount : (Cond.instanceMethod ({ cls := "KeyedFiles", name := "entryCount", desc := "(I)I" } : MethodName)) ∈ XT := xt_t (i := 332) (by decide +kernel) (by decide)
set_option maxRecDepth 20000 in
theorem kc_KF_entryCount : (Cond.code ({ cls := "KeyedFiles", name := "entryCount", desc := "(I)I" } : MethodName) prog_1_method_20_code (3 : Nat) (Option.some FieldType.int)) ∈ XT := xt_t (i := 333) (rfl) (by decide)
theorem m_KF_91 : (Cond.methodLink "KeyedFiles" (91 : Nat) ({ cls := "KeyedFiles$View", name := "noteWritten", desc := "(J)V" } : MethodName)) ∈ XT := xt_t (i := 334) (by decide +kernel) (by decide)
theorem ki_VW_noteWritten : (Cond.instanceMethod ({ cls := "KeyedFiles$View", name := "noteWritten", desc := "(J)V" } : MethodName)) ∈ XT := xt_t (i := 335) (by decide +kernel) (by decide)
theorem kv_VW_noteWritten : (Cond.selects "KeyedFiles$View" ({ cls := "KeyedFiles$View", name := "noteWritten", desc := "(J)V" } : MethodName) ({ cls := "KeyedFiles$View", name := "noteWritten", desc := "(J)V" } : MethodName)) ∈ XT := xt_t (i := 336) (by decide +kernel) (by decide)
set_option maxRecDepth 20000 in
theorem kc_VW_noteWritten : (Cond.code ({ cls := "KeyedFiles$View", name := "noteWritten", desc := "(J)V" } : MethodName) prog_5_method_7_code (3 : Nat) (Option.none : Option FieldType)) ∈ XT := xt_t (i := 337) (rfl) (by decide)
theorem cl_KF_94 : (Cond.classLink "KeyedFiles" (94 : Nat) "KeyedFiles$Stored") ∈ XT := xt_t (i := 338) (by decide +kernel) (by decide)
theorem kb_ST : (Cond.instantiable "KeyedFiles$Stored" (3 : Nat)) ∈ XT := xt_t (i := 339) (by decide +kernel) (by decide)
theorem m_KF_96 : (Cond.methodLink "KeyedFiles" (96 : Nat) ({ cls := "KeyedFiles$Stored", name := "<init>", desc := "(J)V" } : MethodName)) ∈ XT := xt_t (i := 340) (by decide +kernel) (by decide)
theorem ki_ST_init : (Cond.instanceMethod ({ cls := "KeyedFiles$Stored", name := "<init>", desc := "(J)V" } : MethodName)) ∈ XT := xt_t (i := 341) (by decide +kernel) (by decide)
set_option maxRecDepth 20000 in
theorem kc_ST_init : (Cond.code ({ cls := "KeyedFiles$Stored", name := "<init>", desc := "(J)V" } : MethodName) prog_4_method_1_code (3 : Nat) (Option.none : Option FieldType)) ∈ XT := xt_t (i := 342) (rfl) (by decide)
theorem m_ST_1 : (Cond.methodLink "KeyedFiles$Stored" (1 : Nat) ({ cls := "java/lang/Object", name := "<init>", desc := "()V" } : MethodName)) ∈ XT := xt_t (i := 343) (by decide +kernel) (by decide)
theorem f_ST_7 : (Cond.fieldLink "KeyedFiles$Stored" (7 : Nat) "KeyedFiles$Stored" "bytes" "J") ∈ XT := xt_t (i := 344) (by decide +kernel) (by decide)
theorem f_VW_66 : (Cond.fieldLink "KeyedFiles$View" (66 : Nat) "KeyedFiles$Stored" "bytes" "J") ∈ XT := xt_t (i := 345) (by decide +kernel) (by decide)
theorem f_KI_60 : (Cond.fieldLink "KeyedFiles$KeyIndex" (60 : Nat) "KeyedFiles$Stored" "bytes" "J") ∈ XT := xt_t (i := 346) (by decide +kernel) (by decide)
theorem f_KF_156 : (Cond.fieldLink "KeyedFiles" (156 : Nat) "KeyedFiles$Stored" "bytes" "J") ∈ XT := xt_t (i := 347) (by decide +kernel) (by decide)
theorem f_ST_13 : (Cond.fieldLink "KeyedFiles$Stored" (13 : Nat) "KeyedFiles$Stored" "isThere" "Z") ∈ XT := xt_t (i := 348) (by decide +kernel) (by decide)
theorem f_KI_112 : (Cond.fieldLink "KeyedFiles$KeyIndex" (112 : Nat) "KeyedFiles$Stored" "isThere" "Z") ∈ XT := xt_t (i := 349) (by decide +kernel) (by decide)
theorem f_KF_232 : (Cond.fieldLink "KeyedFiles" (232 : Nat) "KeyedFiles$Stored" "isThere" "Z") ∈ XT := xt_t (i := 350) (by decide +kernel) (by decide)
theorem f_KI_115 : (Cond.fieldLink "KeyedFiles$KeyIndex" (115 : Nat) "KeyedFiles$Stored" "sweep" "J") ∈ XT := xt_t (i := 351) (by decide +kernel) (by decide)
theorem m_KF_98 : (Cond.methodLink "KeyedFiles" (98 : Nat) ({ cls := "KeyedFiles", name := "enterUnderAllKeys", desc := "(LKeyedFiles$Stored;)Z" } : MethodName)) ∈ XT := xt_t (i := 359) (by decide +kernel) (by decide)
theorem ki_KF_enterUnderAllKeys : (Cond.instanceMethod ({ cls := "KeyedFiles", name := "enterUnderAllKeys", desc := "(LKeyedFiles$Stored;)Z" } : MethodName)) ∈ XT := xt_t (i := 361) (by decide +kernel) (by decide)
set_option maxRecDepth 20000 in
theorem kc_KF_enterUnderAllKeys : (Cond.code ({ cls := "KeyedFiles", name := "enterUnderAllKeys", desc := "(LKeyedFiles$Stored;)Z" } : MethodName) prog_1_method_24_code (4 : Nat) (Option.some FieldType.boolean)) ∈ XT := xt_t (i := 362) (rfl) (by decide)
theorem m_KF_218 : (Cond.methodLink "KeyedFiles" (218 : Nat) ({ cls := "KeyedFiles", name := "enterUnder", desc := "(LKeyedFiles$KeyIndex;LKeyedFiles$Stored;)Z" } : MethodName)) ∈ XT := xt_t (i := 363) (by decide +kernel) (by decide)
theorem ki_KF_enterUnder : (Cond.instanceMethod ({ cls := "KeyedFiles", name := "enterUnder", desc := "(LKeyedFiles$KeyIndex;LKeyedFiles$Stored;)Z" } : MethodName)) ∈ XT := xt_t (i := 365) (by decide +kernel) (by decide)
set_option maxRecDepth 20000 in
theorem kc_KF_enterUnder : (Cond.code ({ cls := "KeyedFiles", name := "enterUnder", desc := "(LKeyedFiles$KeyIndex;LKeyedFiles$Stored;)Z" } : MethodName) prog_1_method_25_code (3 : Nat) (Option.some FieldType.boolean)) ∈ XT := xt_t (i := 366) (rfl) (by decide)
theorem m_KF_225 : (Cond.methodLink "KeyedFiles" (225 : Nat) ({ cls := "KeyedFiles$KeyIndex", name := "enter", desc := "(LKeyedFiles$Stored;J)Z" } : MethodName)) ∈ XT := xt_t (i := 367) (by decide +kernel) (by decide)
theorem ki_KI_enter : (Cond.instanceMethod ({ cls := "KeyedFiles$KeyIndex", name := "enter", desc := "(LKeyedFiles$Stored;J)Z" } : MethodName)) ∈ XT := xt_t (i := 368) (by decide +kernel) (by decide)
theorem kv_KI_enter : (Cond.selects "KeyedFiles$KeyIndex" ({ cls := "KeyedFiles$KeyIndex", name := "enter", desc := "(LKeyedFiles$Stored;J)Z" } : MethodName) ({ cls := "KeyedFiles$KeyIndex", name := "enter", desc := "(LKeyedFiles$Stored;J)Z" } : MethodName)) ∈ XT := xt_t (i := 369) (by decide +kernel) (by decide)
set_option maxRecDepth 20000 in
theorem kc_KI_enter : (Cond.code ({ cls := "KeyedFiles$KeyIndex", name := "enter", desc := "(LKeyedFiles$Stored;J)Z" } : MethodName) prog_3_method_8_code (8 : Nat) (Option.some FieldType.boolean)) ∈ XT := xt_t (i := 370) (rfl) (by decide)
theorem m_KI_65 : (Cond.methodLink "KeyedFiles$KeyIndex" (65 : Nat) ({ cls := "KeyedFiles$KeyIndex", name := "fieldIn", desc := "(J)J" } : MethodName)) ∈ XT := xt_t (i := 371) (by decide +kernel) (by decide)
theorem m_KI_69 : (Cond.methodLink "KeyedFiles$KeyIndex" (69 : Nat) ({ cls := "KeyedFiles$KeyIndex", name := "leavesOut", desc := "(J)Z" } : MethodName)) ∈ XT := xt_t (i := 372) (by decide +kernel) (by decide)
theorem ki_KI_leavesOut : (Cond.instanceMethod ({ cls := "KeyedFiles$KeyIndex", name := "leavesOut", desc := "(J)Z" } : MethodName)) ∈ XT := xt_t (i := 373) (by decide +kernel) (by decide)
theorem kv_KI_leavesOut : (Cond.selects "KeyedFiles$KeyIndex" ({ cls := "KeyedFiles$KeyIndex", name := "leavesOut", desc := "(J)Z" } : MethodName) ({ cls := "KeyedFiles$KeyIndex", name := "leavesOut", desc := "(J)Z" } : MethodName)) ∈ XT := xt_t (i := 374) (by decide +kernel) (by decide)
set_option maxRecDepth 20000 in
theorem kc_KI_leavesOut : (Cond.code ({ cls := "KeyedFiles$KeyIndex", name := "leavesOut", desc := "(J)Z" } : MethodName) prog_3_method_3_code (3 : Nat) (Option.some FieldType.boolean)) ∈ XT := xt_t (i := 375) (rfl) (by decide)
theorem kb_EN : (Cond.instantiable "KeyedFiles$Entry" (3 : Nat)) ∈ XT := xt_t (i := 376) (by decide +kernel) (by decide)
theorem m_KI_73 : (Cond.methodLink "KeyedFiles$KeyIndex" (73 : Nat) ({ cls := "KeyedFiles$Entry", name := "<init>", desc := "(JJLKeyedFiles$Stored;)V" } : MethodName)) ∈ XT := xt_t (i := 377) (by decide +kernel) (by decide)
theorem ki_EN_init : (Cond.instanceMethod ({ cls := "KeyedFiles$Entry", name := "<init>", desc := "(JJLKeyedFiles$Stored;)V" } : MethodName)) ∈ XT := xt_t (i := 378) (by decide +kernel) (by decide)
set_option maxRecDepth 20000 in
theorem kc_EN_init : (Cond.code ({ cls := "KeyedFiles$Entry", name := "<init>", desc := "(JJLKeyedFiles$Stored;)V" } : MethodName) prog_2_method_1_code (6 : Nat) (Option.none : Option FieldType)) ∈ XT := xt_t (i := 379) (rfl) (by decide)
theorem m_EN_1 : (Cond.methodLink "KeyedFiles$Entry" (1 : Nat) ({ cls := "java/lang/Object", name := "<init>", desc := "()V" } : MethodName)) ∈ XT := xt_t (i := 380) (by decide +kernel) (by decide)
theorem f_EN_7 : (Cond.fieldLink "KeyedFiles$Entry" (7 : Nat) "KeyedFiles$Entry" "field" "J") ∈ XT := xt_t (i := 381) (by decide +kernel) (by decide)
theorem f_VW_45 : (Cond.fieldLink "KeyedFiles$View" (45 : Nat) "KeyedFiles$Entry" "field" "J") ∈ XT := xt_t (i := 382) (by decide +kernel) (by decide)
theorem f_KI_57 : (Cond.fieldLink "KeyedFiles$KeyIndex" (57 : Nat) "KeyedFiles$Entry" "field" "J") ∈ XT := xt_t (i := 383) (by decide +kernel) (by decide)
theorem f_KF_212 : (Cond.fieldLink "KeyedFiles" (212 : Nat) "KeyedFiles$Entry" "field" "J") ∈ XT := xt_t (i := 384) (by decide +kernel) (by decide)
theorem f_EN_13 : (Cond.fieldLink "KeyedFiles$Entry" (13 : Nat) "KeyedFiles$Entry" "came" "J") ∈ XT := xt_t (i := 385) (by decide +kernel) (by decide)
theorem f_VW_53 : (Cond.fieldLink "KeyedFiles$View" (53 : Nat) "KeyedFiles$Entry" "came" "J") ∈ XT := xt_t (i := 386) (by decide +kernel) (by decide)
theorem f_KI_87 : (Cond.fieldLink "KeyedFiles$KeyIndex" (87 : Nat) "KeyedFiles$Entry" "came" "J") ∈ XT := xt_t (i := 387) (by decide +kernel) (by decide)
theorem f_EN_16 : (Cond.fieldLink "KeyedFiles$Entry" (16 : Nat) "KeyedFiles$Entry" "stored" "LKeyedFiles$Stored;") ∈ XT := xt_t (i := 388) (by decide +kernel) (by decide)
theorem f_VW_63 : (Cond.fieldLink "KeyedFiles$View" (63 : Nat) "KeyedFiles$Entry" "stored" "LKeyedFiles$Stored;") ∈ XT := xt_t (i := 389) (by decide +kernel) (by decide)
theorem f_KI_80 : (Cond.fieldLink "KeyedFiles$KeyIndex" (80 : Nat) "KeyedFiles$Entry" "stored" "LKeyedFiles$Stored;") ∈ XT := xt_t (i := 390) (by decide +kernel) (by decide)
theorem f_KF_171 : (Cond.fieldLink "KeyedFiles" (171 : Nat) "KeyedFiles$Entry" "stored" "LKeyedFiles$Stored;") ∈ XT := xt_t (i := 391) (by decide +kernel) (by decide)
theorem m_KI_76 : (Cond.methodLink "KeyedFiles$KeyIndex" (76 : Nat) ({ cls := "java/util/ArrayList", name := "add", desc := "(ILjava/lang/Object;)V" } : MethodName)) ∈ XT := xt_t (i := 399) (by decide +kernel) (by decide)
theorem ki_AL_addI : (Cond.instanceMethod ({ cls := "java/util/ArrayList", name := "add", desc := "(ILjava/lang/Object;)V" } : MethodName)) ∈ XT := xt_t (i := 400) (by decide +kernel) (by decide)
theorem kv_AL_addI : (Cond.selects "java/util/ArrayList" ({ cls := "java/util/ArrayList", name := "add", desc := "(ILjava/lang/Object;)V" } : MethodName) ({ cls := "java/util/ArrayList", name := "add", desc := "(ILjava/lang/Object;)V" } : MethodName)) ∈ XT := xt_t (i := 401) (by decide +kernel) (by decide)
set_option maxRecDepth 20000 in
theorem kc_AL_addI : (Cond.code ({ cls := "java/util/ArrayList", name := "add", desc := "(ILjava/lang/Object;)V" } : MethodName) prog_15_method_26_code (5 : Nat) (Option.none : Option FieldType)) ∈ XT := xt_t (i := 402) (rfl) (by decide)
theorem m_AL_135 : (Cond.methodLink "java/util/ArrayList" (135 : Nat) ({ cls := "java/util/ArrayList", name := "rangeCheckForAdd", desc := "(I)V" } : MethodName)) ∈ XT := xt_t (i := 403) (by decide +kernel) (by decide)
theorem ki_AL_rangeCheckForAdd : (Cond.instanceMethod ({ cls := "java/util/ArrayList", name := "rangeCheckForAdd", desc := "(I)V" } : MethodName)) ∈ XT := xt_t (i := 405) (by decide +kernel) (by decide)
set_option maxRecDepth 20000 in
theorem kc_AL_rangeCheckForAdd : (Cond.code ({ cls := "java/util/ArrayList", name := "rangeCheckForAdd", desc := "(I)V" } : MethodName) prog_15_method_45_code (2 : Nat) (Option.none : Option FieldType)) ∈ XT := xt_t (i := 406) (rfl) (by decide)
theorem m_AL_112 : (Cond.methodLink "java/util/ArrayList" (112 : Nat) ({ cls := "java/lang/System", name := "arraycopy", desc := "(Ljava/lang/Object;ILjava/lang/Object;II)V" } : MethodName)) ∈ XT := xt_t (i := 407) (by decide +kernel) (by decide)
theorem m_LW_44 : (Cond.methodLink "KeyedFilesLaw" (44 : Nat) ({ cls := "KeyedFiles", name := "read", desc := "(IIJ)I" } : MethodName)) ∈ XT := xt_t (i := 408) (by decide +kernel) (by decide)
theorem ki_KF_read : (Cond.instanceMethod ({ cls := "KeyedFiles", name := "read", desc := "(IIJ)I" } : MethodName)) ∈ XT := xt_t (i := 409) (by decide +kernel) (by decide)
theorem kv_KF_read : (Cond.selects "KeyedFiles" ({ cls := "KeyedFiles", name := "read", desc := "(IIJ)I" } : MethodName) ({ cls := "KeyedFiles", name := "read", desc := "(IIJ)I" } : MethodName)) ∈ XT := xt_t (i := 410) (by decide +kernel) (by decide)
set_option maxRecDepth 20000 in
theorem kc_KF_read : (Cond.code ({ cls := "KeyedFiles", name := "read", desc := "(IIJ)I" } : MethodName) prog_1_method_8_code (9 : Nat) (Option.some FieldType.int)) ∈ XT := xt_t (i := 411) (rfl) (by decide)
theorem m_KF_102 : (Cond.methodLink "KeyedFiles" (102 : Nat) ({ cls := "KeyedFiles$View", name := "refusalToRead", desc := "(I)I" } : MethodName)) ∈ XT := xt_t (i := 412) (by decide +kernel) (by decide)
theorem ki_VW_refusalToRead : (Cond.instanceMethod ({ cls := "KeyedFiles$View", name := "refusalToRead", desc := "(I)I" } : MethodName)) ∈ XT := xt_t (i := 413) (by decide +kernel) (by decide)
theorem kv_VW_refusalToRead : (Cond.selects "KeyedFiles$View" ({ cls := "KeyedFiles$View", name := "refusalToRead", desc := "(I)I" } : MethodName) ({ cls := "KeyedFiles$View", name := "refusalToRead", desc := "(I)I" } : MethodName)) ∈ XT := xt_t (i := 414) (by decide +kernel) (by decide)
set_option maxRecDepth 20000 in
theorem kc_VW_refusalToRead : (Cond.code ({ cls := "KeyedFiles$View", name := "refusalToRead", desc := "(I)I" } : MethodName) prog_5_method_8_code (3 : Nat) (Option.some FieldType.int)) ∈ XT := xt_t (i := 415) (rfl) (by decide)
theorem m_KF_115 : (Cond.methodLink "KeyedFiles" (115 : Nat) ({ cls := "KeyedFiles", name := "handOver", desc := "(LKeyedFiles$View;LKeyedFiles$KeyIndex;LKeyedFiles$Entry;Z)I" } : MethodName)) ∈ XT := xt_t (i := 416) (by decide +kernel) (by decide)
theorem ks_KF_handOver : (Cond.static ({ cls := "KeyedFiles", name := "handOver", desc := "(LKeyedFiles$View;LKeyedFiles$KeyIndex;LKeyedFiles$Entry;Z)I" } : MethodName)) ∈ XT := xt_t (i := 417) (by decide +kernel) (by decide)
set_option maxRecDepth 20000 in
theorem kc_KF_handOver : (Cond.code ({ cls := "KeyedFiles", name := "handOver", desc := "(LKeyedFiles$View;LKeyedFiles$KeyIndex;LKeyedFiles$Entry;Z)I" } : MethodName) prog_1_method_30_code (4 : Nat) (Option.some FieldType.int)) ∈ XT := xt_t (i := 418) (rfl) (by decide)
theorem m_KF_241 : (Cond.methodLink "KeyedFiles" (241 : Nat) ({ cls := "KeyedFiles$View", name := "noteRead", desc := "(LKeyedFiles$Entry;)V" } : MethodName)) ∈ XT := xt_t (i := 419) (by decide +kernel) (by decide)
theorem ki_VW_noteRead : (Cond.instanceMethod ({ cls := "KeyedFiles$View", name := "noteRead", desc := "(LKeyedFiles$Entry;)V" } : MethodName)) ∈ XT := xt_t (i := 420) (by decide +kernel) (by decide)
theorem kv_VW_noteRead : (Cond.selects "KeyedFiles$View" ({ cls := "KeyedFiles$View", name := "noteRead", desc := "(LKeyedFiles$Entry;)V" } : MethodName) ({ cls := "KeyedFiles$View", name := "noteRead", desc := "(LKeyedFiles$Entry;)V" } : MethodName)) ∈ XT := xt_t (i := 421) (by decide +kernel) (by decide)
set_option maxRecDepth 20000 in
theorem kc_VW_noteRead : (Cond.code ({ cls := "KeyedFiles$View", name := "noteRead", desc := "(LKeyedFiles$Entry;)V" } : MethodName) prog_5_method_6_code (2 : Nat) (Option.none : Option FieldType)) ∈ XT := xt_t (i := 422) (rfl) (by decide)
theorem m_VW_59 : (Cond.methodLink "KeyedFiles$View" (59 : Nat) ({ cls := "KeyedFiles$View", name := "standAt", desc := "(LKeyedFiles$Entry;)V" } : MethodName)) ∈ XT := xt_t (i := 423) (by decide +kernel) (by decide)
theorem ki_VW_standAt : (Cond.instanceMethod ({ cls := "KeyedFiles$View", name := "standAt", desc := "(LKeyedFiles$Entry;)V" } : MethodName)) ∈ XT := xt_t (i := 424) (by decide +kernel) (by decide)
theorem kv_VW_standAt : (Cond.selects "KeyedFiles$View" ({ cls := "KeyedFiles$View", name := "standAt", desc := "(LKeyedFiles$Entry;)V" } : MethodName) ({ cls := "KeyedFiles$View", name := "standAt", desc := "(LKeyedFiles$Entry;)V" } : MethodName)) ∈ XT := xt_t (i := 425) (by decide +kernel) (by decide)
set_option maxRecDepth 20000 in
theorem kc_VW_standAt : (Cond.code ({ cls := "KeyedFiles$View", name := "standAt", desc := "(LKeyedFiles$Entry;)V" } : MethodName) prog_5_method_5_code (2 : Nat) (Option.none : Option FieldType)) ∈ XT := xt_t (i := 426) (rfl) (by decide)
theorem m_KF_244 : (Cond.methodLink "KeyedFiles" (244 : Nat) ({ cls := "KeyedFiles$KeyIndex", name := "hasEqualNextTo", desc := "(LKeyedFiles$Entry;Z)Z" } : MethodName)) ∈ XT := xt_t (i := 427) (by decide +kernel) (by decide)
theorem ki_KI_hasEqualNextTo : (Cond.instanceMethod ({ cls := "KeyedFiles$KeyIndex", name := "hasEqualNextTo", desc := "(LKeyedFiles$Entry;Z)Z" } : MethodName)) ∈ XT := xt_t (i := 428) (by decide +kernel) (by decide)
theorem kv_KI_hasEqualNextTo : (Cond.selects "KeyedFiles$KeyIndex" ({ cls := "KeyedFiles$KeyIndex", name := "hasEqualNextTo", desc := "(LKeyedFiles$Entry;Z)Z" } : MethodName) ({ cls := "KeyedFiles$KeyIndex", name := "hasEqualNextTo", desc := "(LKeyedFiles$Entry;Z)Z" } : MethodName)) ∈ XT := xt_t (i := 429) (by decide +kernel) (by decide)
set_option maxRecDepth 20000 in
theorem kc_KI_hasEqualNextTo : (Cond.code ({ cls := "KeyedFiles$KeyIndex", name := "hasEqualNextTo", desc := "(LKeyedFiles$Entry;Z)Z" } : MethodName) prog_3_method_10_code (5 : Nat) (Option.some FieldType.boolean)) ∈ XT := xt_t (i := 430) (rfl) (by decide)
theorem m_LW_49 : (Cond.methodLink "KeyedFilesLaw" (49 : Nat) ({ cls := "KeyedFiles", name := "value", desc := "(I)J" } : MethodName)) ∈ XT := xt_t (i := 431) (by decide +kernel) (by decide)
theorem ki_KF_value : (Cond.instanceMethod ({ cls := "KeyedFiles", name := "value", desc := "(I)J" } : MethodName)) ∈ XT := xt_t (i := 432) (by decide +kernel) (by decide)
theorem kv_KF_value : (Cond.selects "KeyedFiles" ({ cls := "KeyedFiles", name := "value", desc := "(I)J" } : MethodName) ({ cls := "KeyedFiles", name := "value", desc := "(I)J" } : MethodName)) ∈ XT := xt_t (i := 433) (by decide +kernel) (by decide)
set_option maxRecDepth 20000 in
theorem kc_KF_value : (Cond.code ({ cls := "KeyedFiles", name := "value", desc := "(I)J" } : MethodName) prog_1_method_9_code (3 : Nat) (Option.some FieldType.long)) ∈ XT := xt_t (i := 434) (rfl) (by decide)
theorem m_LW_54 : (Cond.methodLink "KeyedFilesLaw" (54 : Nat) ({ cls := "KeyedFiles", name := "start", desc := "(IIIJI)I" } : MethodName)) ∈ XT := xt_t (i := 435) (by decide +kernel) (by decide)
theorem ki_KF_start : (Cond.instanceMethod ({ cls := "KeyedFiles", name := "start", desc := "(IIIJI)I" } : MethodName)) ∈ XT := xt_t (i := 436) (by decide +kernel) (by decide)
theorem kv_KF_start : (Cond.selects "KeyedFiles" ({ cls := "KeyedFiles", name := "start", desc := "(IIIJI)I" } : MethodName) ({ cls := "KeyedFiles", name := "start", desc := "(IIIJI)I" } : MethodName)) ∈ XT := xt_t (i := 437) (by decide +kernel) (by decide)
set_option maxRecDepth 20000 in
theorem kc_KF_start : (Cond.code ({ cls := "KeyedFiles", name := "start", desc := "(IIIJI)I" } : MethodName) prog_1_method_10_code (11 : Nat) (Option.some FieldType.int)) ∈ XT := xt_t (i := 438) (rfl) (by decide)
theorem m_KF_125 : (Cond.methodLink "KeyedFiles" (125 : Nat) ({ cls := "KeyedFiles$KeyIndex", name := "findByPart", desc := "(IJI)LKeyedFiles$Entry;" } : MethodName)) ∈ XT := xt_t (i := 439) (by decide +kernel) (by decide)
theorem ki_KI_findByPart : (Cond.instanceMethod ({ cls := "KeyedFiles$KeyIndex", name := "findByPart", desc := "(IJI)LKeyedFiles$Entry;" } : MethodName)) ∈ XT := xt_t (i := 440) (by decide +kernel) (by decide)
theorem kv_KI_findByPart : (Cond.selects "KeyedFiles$KeyIndex" ({ cls := "KeyedFiles$KeyIndex", name := "findByPart", desc := "(IJI)LKeyedFiles$Entry;" } : MethodName) ({ cls := "KeyedFiles$KeyIndex", name := "findByPart", desc := "(IJI)LKeyedFiles$Entry;" } : MethodName)) ∈ XT := xt_t (i := 441) (by decide +kernel) (by decide)
set_option maxRecDepth 20000 in
theorem kc_KI_findByPart : (Cond.code ({ cls := "KeyedFiles$KeyIndex", name := "findByPart", desc := "(IJI)LKeyedFiles$Entry;" } : MethodName) prog_3_method_13_code (8 : Nat) (Option.some (FieldType.object "KeyedFiles$Entry"))) ∈ XT := xt_t (i := 442) (rfl) (by decide)
theorem m_KI_101 : (Cond.methodLink "KeyedFiles$KeyIndex" (101 : Nat) ({ cls := "KeyedFiles$KeyIndex", name := "countByPart", desc := "(JIZ)I" } : MethodName)) ∈ XT := xt_t (i := 443) (by decide +kernel) (by decide)
theorem ki_KI_countByPart : (Cond.instanceMethod ({ cls := "KeyedFiles$KeyIndex", name := "countByPart", desc := "(JIZ)I" } : MethodName)) ∈ XT := xt_t (i := 444) (by decide +kernel) (by decide)
theorem kv_KI_countByPart : (Cond.selects "KeyedFiles$KeyIndex" ({ cls := "KeyedFiles$KeyIndex", name := "countByPart", desc := "(JIZ)I" } : MethodName) ({ cls := "KeyedFiles$KeyIndex", name := "countByPart", desc := "(JIZ)I" } : MethodName)) ∈ XT := xt_t (i := 445) (by decide +kernel) (by decide)
set_option maxRecDepth 20000 in
theorem kc_KI_countByPart : (Cond.code ({ cls := "KeyedFiles$KeyIndex", name := "countByPart", desc := "(JIZ)I" } : MethodName) prog_3_method_14_code (10 : Nat) (Option.some FieldType.int)) ∈ XT := xt_t (i := 446) (rfl) (by decide)
theorem m_KI_105 : (Cond.methodLink "KeyedFiles$KeyIndex" (105 : Nat) ({ cls := "KeyedFiles$KeyIndex", name := "partOf", desc := "(LKeyedFiles$Entry;I)J" } : MethodName)) ∈ XT := xt_t (i := 447) (by decide +kernel) (by decide)
theorem ki_KI_partOf : (Cond.instanceMethod ({ cls := "KeyedFiles$KeyIndex", name := "partOf", desc := "(LKeyedFiles$Entry;I)J" } : MethodName)) ∈ XT := xt_t (i := 448) (by decide +kernel) (by decide)
theorem kv_KI_partOf : (Cond.selects "KeyedFiles$KeyIndex" ({ cls := "KeyedFiles$KeyIndex", name := "partOf", desc := "(LKeyedFiles$Entry;I)J" } : MethodName) ({ cls := "KeyedFiles$KeyIndex", name := "partOf", desc := "(LKeyedFiles$Entry;I)J" } : MethodName)) ∈ XT := xt_t (i := 449) (by decide +kernel) (by decide)
set_option maxRecDepth 20000 in
theorem kc_KI_partOf : (Cond.code ({ cls := "KeyedFiles$KeyIndex", name := "partOf", desc := "(LKeyedFiles$Entry;I)J" } : MethodName) prog_3_method_15_code (3 : Nat) (Option.some FieldType.long)) ∈ XT := xt_t (i := 450) (rfl) (by decide)
theorem m_KF_129 : (Cond.methodLink "KeyedFiles" (129 : Nat) ({ cls := "KeyedFiles$View", name := "standAt", desc := "(LKeyedFiles$Entry;)V" } : MethodName)) ∈ XT := xt_t (i := 452) (by decide +kernel) (by decide)
theorem m_LW_59 : (Cond.methodLink "KeyedFilesLaw" (59 : Nat) ({ cls := "KeyedFiles", name := "next", desc := "(IZ)I" } : MethodName)) ∈ XT := xt_t (i := 453) (by decide +kernel) (by decide)
theorem ki_KF_next : (Cond.instanceMethod ({ cls := "KeyedFiles", name := "next", desc := "(IZ)I" } : MethodName)) ∈ XT := xt_t (i := 454) (by decide +kernel) (by decide)
theorem kv_KF_next : (Cond.selects "KeyedFiles" ({ cls := "KeyedFiles", name := "next", desc := "(IZ)I" } : MethodName) ({ cls := "KeyedFiles", name := "next", desc := "(IZ)I" } : MethodName)) ∈ XT := xt_t (i := 455) (by decide +kernel) (by decide)
set_option maxRecDepth 20000 in
theorem kc_KF_next : (Cond.code ({ cls := "KeyedFiles", name := "next", desc := "(IZ)I" } : MethodName) prog_1_method_11_code (7 : Nat) (Option.some FieldType.int)) ∈ XT := xt_t (i := 456) (rfl) (by decide)
theorem m_KF_139 : (Cond.methodLink "KeyedFiles" (139 : Nat) ({ cls := "KeyedFiles$KeyIndex", name := "entryAheadOf", desc := "(LKeyedFiles$View;)LKeyedFiles$Entry;" } : MethodName)) ∈ XT := xt_t (i := 457) (by decide +kernel) (by decide)
theorem ki_KI_entryAheadOf : (Cond.instanceMethod ({ cls := "KeyedFiles$KeyIndex", name := "entryAheadOf", desc := "(LKeyedFiles$View;)LKeyedFiles$Entry;" } : MethodName)) ∈ XT := xt_t (i := 458) (by decide +kernel) (by decide)
theorem kv_KI_entryAheadOf : (Cond.selects "KeyedFiles$KeyIndex" ({ cls := "KeyedFiles$KeyIndex", name := "entryAheadOf", desc := "(LKeyedFiles$View;)LKeyedFiles$Entry;" } : MethodName) ({ cls := "KeyedFiles$KeyIndex", name := "entryAheadOf", desc := "(LKeyedFiles$View;)LKeyedFiles$Entry;" } : MethodName)) ∈ XT := xt_t (i := 459) (by decide +kernel) (by decide)
set_option maxRecDepth 20000 in
theorem kc_KI_entryAheadOf : (Cond.code ({ cls := "KeyedFiles$KeyIndex", name := "entryAheadOf", desc := "(LKeyedFiles$View;)LKeyedFiles$Entry;" } : MethodName) prog_3_method_12_code (4 : Nat) (Option.some (FieldType.object "KeyedFiles$Entry"))) ∈ XT := xt_t (i := 460) (rfl) (by decide)
theorem m_KF_143 : (Cond.methodLink "KeyedFiles" (143 : Nat) ({ cls := "KeyedFiles$KeyIndex", name := "entryBehind", desc := "(LKeyedFiles$View;)LKeyedFiles$Entry;" } : MethodName)) ∈ XT := xt_t (i := 461) (by decide +kernel) (by decide)
theorem ki_KI_entryBehind : (Cond.instanceMethod ({ cls := "KeyedFiles$KeyIndex", name := "entryBehind", desc := "(LKeyedFiles$View;)LKeyedFiles$Entry;" } : MethodName)) ∈ XT := xt_t (i := 462) (by decide +kernel) (by decide)
theorem kv_KI_entryBehind : (Cond.selects "KeyedFiles$KeyIndex" ({ cls := "KeyedFiles$KeyIndex", name := "entryBehind", desc := "(LKeyedFiles$View;)LKeyedFiles$Entry;" } : MethodName) ({ cls := "KeyedFiles$KeyIndex", name := "entryBehind", desc := "(LKeyedFiles$View;)LKeyedFiles$Entry;" } : MethodName)) ∈ XT := xt_t (i := 463) (by decide +kernel) (by decide)
set_option maxRecDepth 20000 in
theorem kc_KI_entryBehind : (Cond.code ({ cls := "KeyedFiles$KeyIndex", name := "entryBehind", desc := "(LKeyedFiles$View;)LKeyedFiles$Entry;" } : MethodName) prog_3_method_11_code (4 : Nat) (Option.some (FieldType.object "KeyedFiles$Entry"))) ∈ XT := xt_t (i := 464) (rfl) (by decide)
theorem m_LW_64 : (Cond.methodLink "KeyedFilesLaw" (64 : Nat) ({ cls := "KeyedFiles", name := "rewrite", desc := "(IJ)I" } : MethodName)) ∈ XT := xt_t (i := 465) (by decide +kernel) (by decide)
theorem ki_KF_rewrite : (Cond.instanceMethod ({ cls := "KeyedFiles", name := "rewrite", desc := "(IJ)I" } : MethodName)) ∈ XT := xt_t (i := 466) (by decide +kernel) (by decide)
theorem kv_KF_rewrite : (Cond.selects "KeyedFiles" ({ cls := "KeyedFiles", name := "rewrite", desc := "(IJ)I" } : MethodName) ({ cls := "KeyedFiles", name := "rewrite", desc := "(IJ)I" } : MethodName)) ∈ XT := xt_t (i := 467) (by decide +kernel) (by decide)
set_option maxRecDepth 20000 in
theorem kc_KF_rewrite : (Cond.code ({ cls := "KeyedFiles", name := "rewrite", desc := "(IJ)I" } : MethodName) prog_1_method_12_code (7 : Nat) (Option.some FieldType.int)) ∈ XT := xt_t (i := 468) (rfl) (by decide)
theorem m_KF_146 : (Cond.methodLink "KeyedFiles" (146 : Nat) ({ cls := "KeyedFiles$View", name := "refusalToChange", desc := "()I" } : MethodName)) ∈ XT := xt_t (i := 469) (by decide +kernel) (by decide)
theorem ki_VW_refusalToChange : (Cond.instanceMethod ({ cls := "KeyedFiles$View", name := "refusalToChange", desc := "()I" } : MethodName)) ∈ XT := xt_t (i := 470) (by decide +kernel) (by decide)
theorem kv_VW_refusalToChange : (Cond.selects "KeyedFiles$View" ({ cls := "KeyedFiles$View", name := "refusalToChange", desc := "()I" } : MethodName) ({ cls := "KeyedFiles$View", name := "refusalToChange", desc := "()I" } : MethodName)) ∈ XT := xt_t (i := 471) (by decide +kernel) (by decide)
set_option maxRecDepth 20000 in
theorem kc_VW_refusalToChange : (Cond.code ({ cls := "KeyedFiles$View", name := "refusalToChange", desc := "()I" } : MethodName) prog_5_method_10_code (1 : Nat) (Option.some FieldType.int)) ∈ XT := xt_t (i := 472) (rfl) (by decide)
theorem m_KF_149 : (Cond.methodLink "KeyedFiles" (149 : Nat) ({ cls := "KeyedFiles", name := "recordToChange", desc := "(LKeyedFiles$View;J)LKeyedFiles$Stored;" } : MethodName)) ∈ XT := xt_t (i := 473) (by decide +kernel) (by decide)
theorem ki_KF_recordToChange : (Cond.instanceMethod ({ cls := "KeyedFiles", name := "recordToChange", desc := "(LKeyedFiles$View;J)LKeyedFiles$Stored;" } : MethodName)) ∈ XT := xt_t (i := 475) (by decide +kernel) (by decide)
set_option maxRecDepth 20000 in
theorem kc_KF_recordToChange : (Cond.code ({ cls := "KeyedFiles", name := "recordToChange", desc := "(LKeyedFiles$View;J)LKeyedFiles$Stored;" } : MethodName) prog_1_method_29_code (6 : Nat) (Option.some (FieldType.object "KeyedFiles$Stored"))) ∈ XT := xt_t (i := 476) (rfl) (by decide)
theorem m_KF_153 : (Cond.methodLink "KeyedFiles" (153 : Nat) ({ cls := "KeyedFiles$View", name := "statusOfNoRecord", desc := "()I" } : MethodName)) ∈ XT := xt_t (i := 477) (by decide +kernel) (by decide)
theorem ki_VW_statusOfNoRecord : (Cond.instanceMethod ({ cls := "KeyedFiles$View", name := "statusOfNoRecord", desc := "()I" } : MethodName)) ∈ XT := xt_t (i := 478) (by decide +kernel) (by decide)
theorem kv_VW_statusOfNoRecord : (Cond.selects "KeyedFiles$View" ({ cls := "KeyedFiles$View", name := "statusOfNoRecord", desc := "()I" } : MethodName) ({ cls := "KeyedFiles$View", name := "statusOfNoRecord", desc := "()I" } : MethodName)) ∈ XT := xt_t (i := 479) (by decide +kernel) (by decide)
set_option maxRecDepth 20000 in
theorem kc_VW_statusOfNoRecord : (Cond.code ({ cls := "KeyedFiles$View", name := "statusOfNoRecord", desc := "()I" } : MethodName) prog_5_method_11_code (1 : Nat) (Option.some FieldType.int)) ∈ XT := xt_t (i := 480) (rfl) (by decide)
theorem m_KF_159 : (Cond.methodLink "KeyedFiles" (159 : Nat) ({ cls := "KeyedFiles", name := "moveChangedEntries", desc := "(LKeyedFiles$Stored;J)Z" } : MethodName)) ∈ XT := xt_t (i := 481) (by decide +kernel) (by decide)
theorem ki_KF_moveChangedEntries : (Cond.instanceMethod ({ cls := "KeyedFiles", name := "moveChangedEntries", desc := "(LKeyedFiles$Stored;J)Z" } : MethodName)) ∈ XT := xt_t (i := 483) (by decide +kernel) (by decide)
set_option maxRecDepth 20000 in
theorem kc_KF_moveChangedEntries : (Cond.code ({ cls := "KeyedFiles", name := "moveChangedEntries", desc := "(LKeyedFiles$Stored;J)Z" } : MethodName) prog_1_method_26_code (9 : Nat) (Option.some FieldType.boolean)) ∈ XT := xt_t (i := 484) (rfl) (by decide)
theorem m_KF_228 : (Cond.methodLink "KeyedFiles" (228 : Nat) ({ cls := "KeyedFiles$KeyIndex", name := "drop", desc := "(LKeyedFiles$Stored;J)V" } : MethodName)) ∈ XT := xt_t (i := 485) (by decide +kernel) (by decide)
theorem ki_KI_drop : (Cond.instanceMethod ({ cls := "KeyedFiles$KeyIndex", name := "drop", desc := "(LKeyedFiles$Stored;J)V" } : MethodName)) ∈ XT := xt_t (i := 486) (by decide +kernel) (by decide)
theorem kv_KI_drop : (Cond.selects "KeyedFiles$KeyIndex" ({ cls := "KeyedFiles$KeyIndex", name := "drop", desc := "(LKeyedFiles$Stored;J)V" } : MethodName) ({ cls := "KeyedFiles$KeyIndex", name := "drop", desc := "(LKeyedFiles$Stored;J)V" } : MethodName)) ∈ XT := xt_t (i := 487) (by decide +kernel) (by decide)
set_option maxRecDepth 20000 in
theorem kc_KI_drop : (Cond.code ({ cls := "KeyedFiles$KeyIndex", name := "drop", desc := "(LKeyedFiles$Stored;J)V" } : MethodName) prog_3_method_9_code (5 : Nat) (Option.none : Option FieldType)) ∈ XT := xt_t (i := 488) (rfl) (by decide)
theorem m_KI_84 : (Cond.methodLink "KeyedFiles$KeyIndex" (84 : Nat) ({ cls := "java/util/ArrayList", name := "remove", desc := "(I)Ljava/lang/Object;" } : MethodName)) ∈ XT := xt_t (i := 489) (by decide +kernel) (by decide)
theorem ki_AL_remove : (Cond.instanceMethod ({ cls := "java/util/ArrayList", name := "remove", desc := "(I)Ljava/lang/Object;" } : MethodName)) ∈ XT := xt_t (i := 490) (by decide +kernel) (by decide)
theorem kv_AL_remove : (Cond.selects "java/util/ArrayList" ({ cls := "java/util/ArrayList", name := "remove", desc := "(I)Ljava/lang/Object;" } : MethodName) ({ cls := "java/util/ArrayList", name := "remove", desc := "(I)Ljava/lang/Object;" } : MethodName)) ∈ XT := xt_t (i := 491) (by decide +kernel) (by decide)
set_option maxRecDepth 20000 in
theorem kc_AL_remove : (Cond.code ({ cls := "java/util/ArrayList", name := "remove", desc := "(I)Ljava/lang/Object;" } : MethodName) prog_15_method_29_code (4 : Nat) (Option.some (FieldType.object "java/lang/Object"))) ∈ XT := xt_t (i := 492) (rfl) (by decide)
theorem m_AL_144 : (Cond.methodLink "java/util/ArrayList" (144 : Nat) ({ cls := "java/util/ArrayList", name := "fastRemove", desc := "([Ljava/lang/Object;I)V" } : MethodName)) ∈ XT := xt_t (i := 493) (by decide +kernel) (by decide)
theorem ki_AL_fastRemove : (Cond.instanceMethod ({ cls := "java/util/ArrayList", name := "fastRemove", desc := "([Ljava/lang/Object;I)V" } : MethodName)) ∈ XT := xt_t (i := 495) (by decide +kernel) (by decide)
set_option maxRecDepth 20000 in
theorem kc_AL_fastRemove : (Cond.code ({ cls := "java/util/ArrayList", name := "fastRemove", desc := "([Ljava/lang/Object;I)V" } : MethodName) prog_15_method_39_code (4 : Nat) (Option.none : Option FieldType)) ∈ XT := xt_t (i := 496) (rfl) (by decide)
theorem m_LW_68 : (Cond.methodLink "KeyedFilesLaw" (68 : Nat) ({ cls := "KeyedFiles", name := "remove", desc := "(IJ)I" } : MethodName)) ∈ XT := xt_t (i := 497) (by decide +kernel) (by decide)
theorem ki_KF_remove : (Cond.instanceMethod ({ cls := "KeyedFiles", name := "remove", desc := "(IJ)I" } : MethodName)) ∈ XT := xt_t (i := 498) (by decide +kernel) (by decide)
theorem kv_KF_remove : (Cond.selects "KeyedFiles" ({ cls := "KeyedFiles", name := "remove", desc := "(IJ)I" } : MethodName) ({ cls := "KeyedFiles", name := "remove", desc := "(IJ)I" } : MethodName)) ∈ XT := xt_t (i := 499) (by decide +kernel) (by decide)
set_option maxRecDepth 20000 in
theorem kc_KF_remove : (Cond.code ({ cls := "KeyedFiles", name := "remove", desc := "(IJ)I" } : MethodName) prog_1_method_13_code (7 : Nat) (Option.some FieldType.int)) ∈ XT := xt_t (i := 500) (rfl) (by decide)
theorem m_KF_163 : (Cond.methodLink "KeyedFiles" (163 : Nat) ({ cls := "KeyedFiles", name := "dropRecord", desc := "(LKeyedFiles$Stored;)V" } : MethodName)) ∈ XT := xt_t (i := 501) (by decide +kernel) (by decide)
theorem ki_KF_dropRecord : (Cond.instanceMethod ({ cls := "KeyedFiles", name := "dropRecord", desc := "(LKeyedFiles$Stored;)V" } : MethodName)) ∈ XT := xt_t (i := 503) (by decide +kernel) (by decide)
set_option maxRecDepth 20000 in
theorem kc_KF_dropRecord : (Cond.code ({ cls := "KeyedFiles", name := "dropRecord", desc := "(LKeyedFiles$Stored;)V" } : MethodName) prog_1_method_27_code (4 : Nat) (Option.none : Option FieldType)) ∈ XT := xt_t (i := 504) (rfl) (by decide)
theorem m_LW_72 : (Cond.methodLink "KeyedFilesLaw" (72 : Nat) ({ cls := "KeyedFiles", name := "scan", desc := "(II)J" } : MethodName)) ∈ XT := xt_t (i := 505) (by decide +kernel) (by decide)
theorem ki_KF_scan : (Cond.instanceMethod ({ cls := "KeyedFiles", name := "scan", desc := "(II)J" } : MethodName)) ∈ XT := xt_t (i := 506) (by decide +kernel) (by decide)
theorem kv_KF_scan : (Cond.selects "KeyedFiles" ({ cls := "KeyedFiles", name := "scan", desc := "(II)J" } : MethodName) ({ cls := "KeyedFiles", name := "scan", desc := "(II)J" } : MethodName)) ∈ XT := xt_t (i := 507) (by decide +kernel) (by decide)
set_option maxRecDepth 20000 in
theorem kc_KF_scan : (Cond.code ({ cls := "KeyedFiles", name := "scan", desc := "(II)J" } : MethodName) prog_1_method_14_code (5 : Nat) (Option.some FieldType.long)) ∈ XT := xt_t (i := 508) (rfl) (by decide)
theorem m_LW_77 : (Cond.methodLink "KeyedFilesLaw" (77 : Nat) ({ cls := "KeyedFiles", name := "reference", desc := "(I)I" } : MethodName)) ∈ XT := xt_t (i := 509) (by decide +kernel) (by decide)
theorem ki_KF_reference : (Cond.instanceMethod ({ cls := "KeyedFiles", name := "reference", desc := "(I)I" } : MethodName)) ∈ XT := xt_t (i := 510) (by decide +kernel) (by decide)
theorem kv_KF_reference : (Cond.selects "KeyedFiles" ({ cls := "KeyedFiles", name := "reference", desc := "(I)I" } : MethodName) ({ cls := "KeyedFiles", name := "reference", desc := "(I)I" } : MethodName)) ∈ XT := xt_t (i := 511) (by decide +kernel) (by decide)
set_option maxRecDepth 20000 in
theorem kc_KF_reference : (Cond.code ({ cls := "KeyedFiles", name := "reference", desc := "(I)I" } : MethodName) prog_1_method_15_code (3 : Nat) (Option.some FieldType.int)) ∈ XT := xt_t (i := 512) (rfl) (by decide)
theorem m_LW_81 : (Cond.methodLink "KeyedFilesLaw" (81 : Nat) ({ cls := "KeyedFiles", name := "count", desc := "(I)I" } : MethodName)) ∈ XT := xt_t (i := 513) (by decide +kernel) (by decide)
theorem ki_KF_count : (Cond.instanceMethod ({ cls := "KeyedFiles", name := "count", desc := "(I)I" } : MethodName)) ∈ XT := xt_t (i := 514) (by decide +kernel) (by decide)
theorem kv_KF_count : (Cond.selects "KeyedFiles" ({ cls := "KeyedFiles", name := "count", desc := "(I)I" } : MethodName) ({ cls := "KeyedFiles", name := "count", desc := "(I)I" } : MethodName)) ∈ XT := xt_t (i := 515) (by decide +kernel) (by decide)
set_option maxRecDepth 20000 in
theorem kc_KF_count : (Cond.code ({ cls := "KeyedFiles", name := "count", desc := "(I)I" } : MethodName) prog_1_method_16_code (2 : Nat) (Option.some FieldType.int)) ∈ XT := xt_t (i := 516) (rfl) (by decide)
theorem m_LW_85 : (Cond.methodLink "KeyedFilesLaw" (85 : Nat) ({ cls := "KeyedFiles", name := "whole", desc := "()Z" } : MethodName)) ∈ XT := xt_t (i := 517) (by decide +kernel) (by decide)
theorem ki_KF_whole : (Cond.instanceMethod ({ cls := "KeyedFiles", name := "whole", desc := "()Z" } : MethodName)) ∈ XT := xt_t (i := 518) (by decide +kernel) (by decide)
theorem kv_KF_whole : (Cond.selects "KeyedFiles" ({ cls := "KeyedFiles", name := "whole", desc := "()Z" } : MethodName) ({ cls := "KeyedFiles", name := "whole", desc := "()Z" } : MethodName)) ∈ XT := xt_t (i := 519) (by decide +kernel) (by decide)
set_option maxRecDepth 20000 in
theorem kc_KF_whole : (Cond.code ({ cls := "KeyedFiles", name := "whole", desc := "()Z" } : MethodName) prog_1_method_17_code (3 : Nat) (Option.some FieldType.boolean)) ∈ XT := xt_t (i := 520) (rfl) (by decide)
theorem m_KF_184 : (Cond.methodLink "KeyedFiles" (184 : Nat) ({ cls := "KeyedFiles$KeyIndex", name := "isInOrder", desc := "(J)Z" } : MethodName)) ∈ XT := xt_t (i := 521) (by decide +kernel) (by decide)
theorem ki_KI_isInOrder : (Cond.instanceMethod ({ cls := "KeyedFiles$KeyIndex", name := "isInOrder", desc := "(J)Z" } : MethodName)) ∈ XT := xt_t (i := 522) (by decide +kernel) (by decide)
theorem kv_KI_isInOrder : (Cond.selects "KeyedFiles$KeyIndex" ({ cls := "KeyedFiles$KeyIndex", name := "isInOrder", desc := "(J)Z" } : MethodName) ({ cls := "KeyedFiles$KeyIndex", name := "isInOrder", desc := "(J)Z" } : MethodName)) ∈ XT := xt_t (i := 523) (by decide +kernel) (by decide)
set_option maxRecDepth 20000 in
theorem kc_KI_isInOrder : (Cond.code ({ cls := "KeyedFiles$KeyIndex", name := "isInOrder", desc := "(J)Z" } : MethodName) prog_3_method_16_code (7 : Nat) (Option.some FieldType.boolean)) ∈ XT := xt_t (i := 524) (rfl) (by decide)
theorem m_KI_118 : (Cond.methodLink "KeyedFiles$KeyIndex" (118 : Nat) ({ cls := "KeyedFiles$KeyIndex", name := "isRightlyAhead", desc := "(LKeyedFiles$Entry;LKeyedFiles$Entry;)Z" } : MethodName)) ∈ XT := xt_t (i := 525) (by decide +kernel) (by decide)
theorem ki_KI_isRightlyAhead : (Cond.instanceMethod ({ cls := "KeyedFiles$KeyIndex", name := "isRightlyAhead", desc := "(LKeyedFiles$Entry;LKeyedFiles$Entry;)Z" } : MethodName)) ∈ XT := xt_t (i := 526) (by decide +kernel) (by decide)
theorem kv_KI_isRightlyAhead : (Cond.selects "KeyedFiles$KeyIndex" ({ cls := "KeyedFiles$KeyIndex", name := "isRightlyAhead", desc := "(LKeyedFiles$Entry;LKeyedFiles$Entry;)Z" } : MethodName) ({ cls := "KeyedFiles$KeyIndex", name := "isRightlyAhead", desc := "(LKeyedFiles$Entry;LKeyedFiles$Entry;)Z" } : MethodName)) ∈ XT := xt_t (i := 527) (by decide +kernel) (by decide)
set_option maxRecDepth 20000 in
theorem kc_KI_isRightlyAhead : (Cond.code ({ cls := "KeyedFiles$KeyIndex", name := "isRightlyAhead", desc := "(LKeyedFiles$Entry;LKeyedFiles$Entry;)Z" } : MethodName) prog_3_method_17_code (3 : Nat) (Option.some FieldType.boolean)) ∈ XT := xt_t (i := 528) (rfl) (by decide)
theorem m_KF_191 : (Cond.methodLink "KeyedFiles" (191 : Nat) ({ cls := "KeyedFiles", name := "entriesDue", desc := "(LKeyedFiles$KeyIndex;)I" } : MethodName)) ∈ XT := xt_t (i := 529) (by decide +kernel) (by decide)
theorem ki_KF_entriesDue : (Cond.instanceMethod ({ cls := "KeyedFiles", name := "entriesDue", desc := "(LKeyedFiles$KeyIndex;)I" } : MethodName)) ∈ XT := xt_t (i := 531) (by decide +kernel) (by decide)
set_option maxRecDepth 20000 in
theorem kc_KF_entriesDue : (Cond.code ({ cls := "KeyedFiles", name := "entriesDue", desc := "(LKeyedFiles$KeyIndex;)I" } : MethodName) prog_1_method_31_code (5 : Nat) (Option.some FieldType.int)) ∈ XT := xt_t (i := 532) (rfl) (by decide)
theorem cl_KF_172 : (Cond.classLink "KeyedFiles" (172 : Nat) "KeyedFiles$Entry") ∈ XT := xt_t (i := 533) (by decide +kernel) (by decide)
theorem m_KF_248 : (Cond.methodLink "KeyedFiles" (248 : Nat) ({ cls := "KeyedFiles$KeyIndex", name := "leavesOut", desc := "(J)Z" } : MethodName)) ∈ XT := xt_t (i := 534) (by decide +kernel) (by decide)
theorem cl_LW_10 : (Cond.classLink "KeyedFilesLaw" (10 : Nat) "KeyedFilesModel") ∈ XT := xt_t (i := 535) (by decide +kernel) (by decide)
theorem kb_MD : (Cond.instantiable "KeyedFilesModel" (29 : Nat)) ∈ XT := xt_t (i := 536) (by decide +kernel) (by decide)
theorem m_LW_12 : (Cond.methodLink "KeyedFilesLaw" (12 : Nat) ({ cls := "KeyedFilesModel", name := "<init>", desc := "()V" } : MethodName)) ∈ XT := xt_t (i := 537) (by decide +kernel) (by decide)
theorem ki_MD_init : (Cond.instanceMethod ({ cls := "KeyedFilesModel", name := "<init>", desc := "()V" } : MethodName)) ∈ XT := xt_t (i := 538) (by decide +kernel) (by decide)
set_option maxRecDepth 20000 in
theorem kc_MD_init : (Cond.code ({ cls := "KeyedFilesModel", name := "<init>", desc := "()V" } : MethodName) prog_7_method_1_code (1 : Nat) (Option.none : Option FieldType)) ∈ XT := xt_t (i := 539) (rfl) (by decide)
theorem m_MD_1 : (Cond.methodLink "KeyedFilesModel" (1 : Nat) ({ cls := "java/lang/Object", name := "<init>", desc := "()V" } : MethodName)) ∈ XT := xt_t (i := 540) (by decide +kernel) (by decide)
theorem f_MD_72 : (Cond.fieldLink "KeyedFilesModel" (72 : Nat) "KeyedFilesModel" "thrown" "I") ∈ XT := xt_t (i := 541) (by decide +kernel) (by decide)
theorem f_MD_7 : (Cond.fieldLink "KeyedFilesModel" (7 : Nat) "KeyedFilesModel" "froms" "[I") ∈ XT := xt_t (i := 542) (by decide +kernel) (by decide)
theorem f_MD_13 : (Cond.fieldLink "KeyedFilesModel" (13 : Nat) "KeyedFilesModel" "sizes" "[I") ∈ XT := xt_t (i := 543) (by decide +kernel) (by decide)
theorem f_MD_16 : (Cond.fieldLink "KeyedFilesModel" (16 : Nat) "KeyedFilesModel" "doubles" "[Z") ∈ XT := xt_t (i := 544) (by decide +kernel) (by decide)
theorem f_MD_20 : (Cond.fieldLink "KeyedFilesModel" (20 : Nat) "KeyedFilesModel" "sparse" "[Z") ∈ XT := xt_t (i := 545) (by decide +kernel) (by decide)
theorem f_MD_23 : (Cond.fieldLink "KeyedFilesModel" (23 : Nat) "KeyedFilesModel" "spared" "[J") ∈ XT := xt_t (i := 546) (by decide +kernel) (by decide)
theorem f_MD_78 : (Cond.fieldLink "KeyedFilesModel" (78 : Nat) "KeyedFilesModel" "keys" "I") ∈ XT := xt_t (i := 547) (by decide +kernel) (by decide)
theorem f_MD_81 : (Cond.fieldLink "KeyedFilesModel" (81 : Nat) "KeyedFilesModel" "views" "I") ∈ XT := xt_t (i := 548) (by decide +kernel) (by decide)
theorem f_MD_84 : (Cond.fieldLink "KeyedFilesModel" (84 : Nat) "KeyedFilesModel" "opened" "Z") ∈ XT := xt_t (i := 549) (by decide +kernel) (by decide)
theorem f_MD_27 : (Cond.fieldLink "KeyedFilesModel" (27 : Nat) "KeyedFilesModel" "records" "[J") ∈ XT := xt_t (i := 550) (by decide +kernel) (by decide)
theorem f_MD_30 : (Cond.fieldLink "KeyedFilesModel" (30 : Nat) "KeyedFilesModel" "numbers" "[I") ∈ XT := xt_t (i := 551) (by decide +kernel) (by decide)
theorem f_MD_33 : (Cond.fieldLink "KeyedFilesModel" (33 : Nat) "KeyedFilesModel" "ranks" "[I") ∈ XT := xt_t (i := 552) (by decide +kernel) (by decide)
theorem f_MD_95 : (Cond.fieldLink "KeyedFilesModel" (95 : Nat) "KeyedFilesModel" "many" "I") ∈ XT := xt_t (i := 553) (by decide +kernel) (by decide)
theorem f_MD_162 : (Cond.fieldLink "KeyedFilesModel" (162 : Nat) "KeyedFilesModel" "numbered" "I") ∈ XT := xt_t (i := 554) (by decide +kernel) (by decide)
theorem f_MD_147 : (Cond.fieldLink "KeyedFilesModel" (147 : Nat) "KeyedFilesModel" "ranked" "I") ∈ XT := xt_t (i := 555) (by decide +kernel) (by decide)
theorem f_MD_36 : (Cond.fieldLink "KeyedFilesModel" (36 : Nat) "KeyedFilesModel" "modes" "[I") ∈ XT := xt_t (i := 556) (by decide +kernel) (by decide)
theorem f_MD_39 : (Cond.fieldLink "KeyedFilesModel" (39 : Nat) "KeyedFilesModel" "accesses" "[I") ∈ XT := xt_t (i := 557) (by decide +kernel) (by decide)
theorem f_MD_42 : (Cond.fieldLink "KeyedFilesModel" (42 : Nat) "KeyedFilesModel" "references" "[I") ∈ XT := xt_t (i := 558) (by decide +kernel) (by decide)
theorem f_MD_45 : (Cond.fieldLink "KeyedFilesModel" (45 : Nat) "KeyedFilesModel" "places" "[I") ∈ XT := xt_t (i := 559) (by decide +kernel) (by decide)
theorem f_MD_48 : (Cond.fieldLink "KeyedFilesModel" (48 : Nat) "KeyedFilesModel" "placeRanks" "[I") ∈ XT := xt_t (i := 560) (by decide +kernel) (by decide)
theorem f_MD_51 : (Cond.fieldLink "KeyedFilesModel" (51 : Nat) "KeyedFilesModel" "readNumbers" "[I") ∈ XT := xt_t (i := 561) (by decide +kernel) (by decide)
theorem f_MD_54 : (Cond.fieldLink "KeyedFilesModel" (54 : Nat) "KeyedFilesModel" "placeFields" "[J") ∈ XT := xt_t (i := 562) (by decide +kernel) (by decide)
theorem f_MD_57 : (Cond.fieldLink "KeyedFilesModel" (57 : Nat) "KeyedFilesModel" "values" "[J") ∈ XT := xt_t (i := 563) (by decide +kernel) (by decide)
theorem f_MD_60 : (Cond.fieldLink "KeyedFilesModel" (60 : Nat) "KeyedFilesModel" "lasts" "[J") ∈ XT := xt_t (i := 564) (by decide +kernel) (by decide)
theorem f_MD_63 : (Cond.fieldLink "KeyedFilesModel" (63 : Nat) "KeyedFilesModel" "open" "[Z") ∈ XT := xt_t (i := 565) (by decide +kernel) (by decide)
theorem f_MD_66 : (Cond.fieldLink "KeyedFilesModel" (66 : Nat) "KeyedFilesModel" "ended" "[Z") ∈ XT := xt_t (i := 566) (by decide +kernel) (by decide)
theorem f_MD_69 : (Cond.fieldLink "KeyedFilesModel" (69 : Nat) "KeyedFilesModel" "wrote" "[Z") ∈ XT := xt_t (i := 567) (by decide +kernel) (by decide)
theorem f_MD_136 : (Cond.fieldLink "KeyedFilesModel" (136 : Nat) "KeyedFilesModel" "hadNumber" "I") ∈ XT := xt_t (i := 568) (by decide +kernel) (by decide)
theorem f_MD_139 : (Cond.fieldLink "KeyedFilesModel" (139 : Nat) "KeyedFilesModel" "hadValue" "J") ∈ XT := xt_t (i := 569) (by decide +kernel) (by decide)
theorem ka_int : (Cond.arrayClass FieldType.int) ∈ XT := xt_t (i := 629) (by decide +kernel) (by decide)
theorem ka_boolean : (Cond.arrayClass FieldType.boolean) ∈ XT := xt_t (i := 630) (by decide +kernel) (by decide)
theorem ka_long : (Cond.arrayClass FieldType.long) ∈ XT := xt_t (i := 631) (by decide +kernel) (by decide)
theorem m_LW_17 : (Cond.methodLink "KeyedFilesLaw" (17 : Nat) ({ cls := "KeyedFilesModel", name := "key", desc := "(ZZII)I" } : MethodName)) ∈ XT := xt_t (i := 632) (by decide +kernel) (by decide)
theorem ki_MD_key : (Cond.instanceMethod ({ cls := "KeyedFilesModel", name := "key", desc := "(ZZII)I" } : MethodName)) ∈ XT := xt_t (i := 633) (by decide +kernel) (by decide)
theorem kv_MD_key : (Cond.selects "KeyedFilesModel" ({ cls := "KeyedFilesModel", name := "key", desc := "(ZZII)I" } : MethodName) ({ cls := "KeyedFilesModel", name := "key", desc := "(ZZII)I" } : MethodName)) ∈ XT := xt_t (i := 634) (by decide +kernel) (by decide)
set_option maxRecDepth 20000 in
theorem kc_MD_key : (Cond.code ({ cls := "KeyedFilesModel", name := "key", desc := "(ZZII)I" } : MethodName) prog_7_method_7_code (6 : Nat) (Option.some FieldType.int)) ∈ XT := xt_t (i := 635) (rfl) (by decide)
theorem m_LW_24 : (Cond.methodLink "KeyedFilesLaw" (24 : Nat) ({ cls := "KeyedFilesModel", name := "sparse", desc := "(IJ)I" } : MethodName)) ∈ XT := xt_t (i := 636) (by decide +kernel) (by decide)
theorem ki_MD_sparse : (Cond.instanceMethod ({ cls := "KeyedFilesModel", name := "sparse", desc := "(IJ)I" } : MethodName)) ∈ XT := xt_t (i := 637) (by decide +kernel) (by decide)
theorem kv_MD_sparse : (Cond.selects "KeyedFilesModel" ({ cls := "KeyedFilesModel", name := "sparse", desc := "(IJ)I" } : MethodName) ({ cls := "KeyedFilesModel", name := "sparse", desc := "(IJ)I" } : MethodName)) ∈ XT := xt_t (i := 638) (by decide +kernel) (by decide)
set_option maxRecDepth 20000 in
theorem kc_MD_sparse : (Cond.code ({ cls := "KeyedFilesModel", name := "sparse", desc := "(IJ)I" } : MethodName) prog_7_method_8_code (4 : Nat) (Option.some FieldType.int)) ∈ XT := xt_t (i := 639) (rfl) (by decide)
theorem m_MD_88 : (Cond.methodLink "KeyedFilesModel" (88 : Nat) ({ cls := "KeyedFilesModel", name := "isKey", desc := "(I)Z" } : MethodName)) ∈ XT := xt_t (i := 640) (by decide +kernel) (by decide)
theorem ki_MD_isKey : (Cond.instanceMethod ({ cls := "KeyedFilesModel", name := "isKey", desc := "(I)Z" } : MethodName)) ∈ XT := xt_t (i := 642) (by decide +kernel) (by decide)
set_option maxRecDepth 20000 in
theorem kc_MD_isKey : (Cond.code ({ cls := "KeyedFilesModel", name := "isKey", desc := "(I)Z" } : MethodName) prog_7_method_5_code (2 : Nat) (Option.some FieldType.boolean)) ∈ XT := xt_t (i := 643) (rfl) (by decide)
theorem m_LW_29 : (Cond.methodLink "KeyedFilesLaw" (29 : Nat) ({ cls := "KeyedFilesModel", name := "view", desc := "()I" } : MethodName)) ∈ XT := xt_t (i := 644) (by decide +kernel) (by decide)
theorem ki_MD_view : (Cond.instanceMethod ({ cls := "KeyedFilesModel", name := "view", desc := "()I" } : MethodName)) ∈ XT := xt_t (i := 645) (by decide +kernel) (by decide)
theorem kv_MD_view : (Cond.selects "KeyedFilesModel" ({ cls := "KeyedFilesModel", name := "view", desc := "()I" } : MethodName) ({ cls := "KeyedFilesModel", name := "view", desc := "()I" } : MethodName)) ∈ XT := xt_t (i := 646) (by decide +kernel) (by decide)
set_option maxRecDepth 20000 in
theorem kc_MD_view : (Cond.code ({ cls := "KeyedFilesModel", name := "view", desc := "()I" } : MethodName) prog_7_method_9_code (1 : Nat) (Option.some FieldType.int)) ∈ XT := xt_t (i := 647) (rfl) (by decide)
theorem m_LW_34 : (Cond.methodLink "KeyedFilesLaw" (34 : Nat) ({ cls := "KeyedFilesModel", name := "open", desc := "(III)I" } : MethodName)) ∈ XT := xt_t (i := 648) (by decide +kernel) (by decide)
theorem ki_MD_open : (Cond.instanceMethod ({ cls := "KeyedFilesModel", name := "open", desc := "(III)I" } : MethodName)) ∈ XT := xt_t (i := 649) (by decide +kernel) (by decide)
theorem kv_MD_open : (Cond.selects "KeyedFilesModel" ({ cls := "KeyedFilesModel", name := "open", desc := "(III)I" } : MethodName) ({ cls := "KeyedFilesModel", name := "open", desc := "(III)I" } : MethodName)) ∈ XT := xt_t (i := 650) (by decide +kernel) (by decide)
set_option maxRecDepth 20000 in
theorem kc_MD_open : (Cond.code ({ cls := "KeyedFilesModel", name := "open", desc := "(III)I" } : MethodName) prog_7_method_10_code (5 : Nat) (Option.some FieldType.int)) ∈ XT := xt_t (i := 651) (rfl) (by decide)
theorem m_MD_92 : (Cond.methodLink "KeyedFilesModel" (92 : Nat) ({ cls := "KeyedFilesModel", name := "isView", desc := "(I)Z" } : MethodName)) ∈ XT := xt_t (i := 652) (by decide +kernel) (by decide)
theorem ki_MD_isView : (Cond.instanceMethod ({ cls := "KeyedFilesModel", name := "isView", desc := "(I)Z" } : MethodName)) ∈ XT := xt_t (i := 654) (by decide +kernel) (by decide)
set_option maxRecDepth 20000 in
theorem kc_MD_isView : (Cond.code ({ cls := "KeyedFilesModel", name := "isView", desc := "(I)Z" } : MethodName) prog_7_method_6_code (2 : Nat) (Option.some FieldType.boolean)) ∈ XT := xt_t (i := 655) (rfl) (by decide)
theorem m_LW_39 : (Cond.methodLink "KeyedFilesLaw" (39 : Nat) ({ cls := "KeyedFilesModel", name := "close", desc := "(I)I" } : MethodName)) ∈ XT := xt_t (i := 656) (by decide +kernel) (by decide)
theorem ki_MD_close : (Cond.instanceMethod ({ cls := "KeyedFilesModel", name := "close", desc := "(I)I" } : MethodName)) ∈ XT := xt_t (i := 657) (by decide +kernel) (by decide)
theorem kv_MD_close : (Cond.selects "KeyedFilesModel" ({ cls := "KeyedFilesModel", name := "close", desc := "(I)I" } : MethodName) ({ cls := "KeyedFilesModel", name := "close", desc := "(I)I" } : MethodName)) ∈ XT := xt_t (i := 658) (by decide +kernel) (by decide)
set_option maxRecDepth 20000 in
theorem kc_MD_close : (Cond.code ({ cls := "KeyedFilesModel", name := "close", desc := "(I)I" } : MethodName) prog_7_method_11_code (2 : Nat) (Option.some FieldType.int)) ∈ XT := xt_t (i := 659) (rfl) (by decide)
theorem m_LW_43 : (Cond.methodLink "KeyedFilesLaw" (43 : Nat) ({ cls := "KeyedFilesModel", name := "write", desc := "(IJ)I" } : MethodName)) ∈ XT := xt_t (i := 660) (by decide +kernel) (by decide)
theorem ki_MD_write : (Cond.instanceMethod ({ cls := "KeyedFilesModel", name := "write", desc := "(IJ)I" } : MethodName)) ∈ XT := xt_t (i := 661) (by decide +kernel) (by decide)
theorem kv_MD_write : (Cond.selects "KeyedFilesModel" ({ cls := "KeyedFilesModel", name := "write", desc := "(IJ)I" } : MethodName) ({ cls := "KeyedFilesModel", name := "write", desc := "(IJ)I" } : MethodName)) ∈ XT := xt_t (i := 662) (by decide +kernel) (by decide)
set_option maxRecDepth 20000 in
theorem kc_MD_write : (Cond.code ({ cls := "KeyedFilesModel", name := "write", desc := "(IJ)I" } : MethodName) prog_7_method_27_code (8 : Nat) (Option.some FieldType.int)) ∈ XT := xt_t (i := 663) (rfl) (by decide)
theorem m_MD_150 : (Cond.methodLink "KeyedFilesModel" (150 : Nat) ({ cls := "KeyedFilesModel", name := "forget", desc := "(I)V" } : MethodName)) ∈ XT := xt_t (i := 664) (by decide +kernel) (by decide)
theorem ki_MD_forget : (Cond.instanceMethod ({ cls := "KeyedFilesModel", name := "forget", desc := "(I)V" } : MethodName)) ∈ XT := xt_t (i := 666) (by decide +kernel) (by decide)
set_option maxRecDepth 20000 in
theorem kc_MD_forget : (Cond.code ({ cls := "KeyedFilesModel", name := "forget", desc := "(I)V" } : MethodName) prog_7_method_22_code (2 : Nat) (Option.none : Option FieldType)) ∈ XT := xt_t (i := 667) (rfl) (by decide)
theorem m_MD_98 : (Cond.methodLink "KeyedFilesModel" (98 : Nat) ({ cls := "KeyedFilesModel", name := "field", desc := "(IJ)J" } : MethodName)) ∈ XT := xt_t (i := 668) (by decide +kernel) (by decide)
theorem ki_MD_field : (Cond.instanceMethod ({ cls := "KeyedFilesModel", name := "field", desc := "(IJ)J" } : MethodName)) ∈ XT := xt_t (i := 670) (by decide +kernel) (by decide)
set_option maxRecDepth 20000 in
theorem kc_MD_field : (Cond.code ({ cls := "KeyedFilesModel", name := "field", desc := "(IJ)J" } : MethodName) prog_7_method_3_code (6 : Nat) (Option.some FieldType.long)) ∈ XT := xt_t (i := 671) (rfl) (by decide)
theorem m_MD_106 : (Cond.methodLink "KeyedFilesModel" (106 : Nat) ({ cls := "KeyedFilesModel", name := "isLess", desc := "(JJ)Z" } : MethodName)) ∈ XT := xt_t (i := 672) (by decide +kernel) (by decide)
theorem ks_MD_isLess : (Cond.static ({ cls := "KeyedFilesModel", name := "isLess", desc := "(JJ)Z" } : MethodName)) ∈ XT := xt_t (i := 673) (by decide +kernel) (by decide)
set_option maxRecDepth 20000 in
theorem kc_MD_isLess : (Cond.code ({ cls := "KeyedFilesModel", name := "isLess", desc := "(JJ)Z" } : MethodName) prog_7_method_4_code (4 : Nat) (Option.some FieldType.boolean)) ∈ XT := xt_t (i := 674) (rfl) (by decide)
theorem kl_MD_76 : (Cond.constantLong "KeyedFilesModel" (76 : Nat) (-9223372036854775808 : Int64)) ∈ XT := xt_t (i := 675) (by decide +kernel) (by decide)
theorem m_MD_154 : (Cond.methodLink "KeyedFilesModel" (154 : Nat) ({ cls := "KeyedFilesModel", name := "barred", desc := "(JI)I" } : MethodName)) ∈ XT := xt_t (i := 676) (by decide +kernel) (by decide)
theorem ki_MD_barred : (Cond.instanceMethod ({ cls := "KeyedFilesModel", name := "barred", desc := "(JI)I" } : MethodName)) ∈ XT := xt_t (i := 678) (by decide +kernel) (by decide)
set_option maxRecDepth 20000 in
theorem kc_MD_barred : (Cond.code ({ cls := "KeyedFilesModel", name := "barred", desc := "(JI)I" } : MethodName) prog_7_method_25_code (9 : Nat) (Option.some FieldType.int)) ∈ XT := xt_t (i := 679) (rfl) (by decide)
theorem m_MD_114 : (Cond.methodLink "KeyedFilesModel" (114 : Nat) ({ cls := "KeyedFilesModel", name := "isEntry", desc := "(II)Z" } : MethodName)) ∈ XT := xt_t (i := 680) (by decide +kernel) (by decide)
theorem ki_MD_isEntry : (Cond.instanceMethod ({ cls := "KeyedFilesModel", name := "isEntry", desc := "(II)Z" } : MethodName)) ∈ XT := xt_t (i := 682) (by decide +kernel) (by decide)
set_option maxRecDepth 20000 in
theorem kc_MD_isEntry : (Cond.code ({ cls := "KeyedFilesModel", name := "isEntry", desc := "(II)Z" } : MethodName) prog_7_method_14_code (3 : Nat) (Option.some FieldType.boolean)) ∈ XT := xt_t (i := 683) (rfl) (by decide)
theorem m_MD_102 : (Cond.methodLink "KeyedFilesModel" (102 : Nat) ({ cls := "KeyedFilesModel", name := "hasEntry", desc := "(IJ)Z" } : MethodName)) ∈ XT := xt_t (i := 684) (by decide +kernel) (by decide)
theorem ki_MD_hasEntry : (Cond.instanceMethod ({ cls := "KeyedFilesModel", name := "hasEntry", desc := "(IJ)Z" } : MethodName)) ∈ XT := xt_t (i := 686) (by decide +kernel) (by decide)
set_option maxRecDepth 20000 in
theorem kc_MD_hasEntry : (Cond.code ({ cls := "KeyedFilesModel", name := "hasEntry", desc := "(IJ)Z" } : MethodName) prog_7_method_12_code (4 : Nat) (Option.some FieldType.boolean)) ∈ XT := xt_t (i := 687) (rfl) (by decide)
theorem m_MD_125 : (Cond.methodLink "KeyedFilesModel" (125 : Nat) ({ cls := "KeyedFilesModel", name := "equal", desc := "(IJI)I" } : MethodName)) ∈ XT := xt_t (i := 688) (by decide +kernel) (by decide)
theorem ki_MD_equal : (Cond.instanceMethod ({ cls := "KeyedFilesModel", name := "equal", desc := "(IJI)I" } : MethodName)) ∈ XT := xt_t (i := 690) (by decide +kernel) (by decide)
set_option maxRecDepth 20000 in
theorem kc_MD_equal : (Cond.code ({ cls := "KeyedFilesModel", name := "equal", desc := "(IJI)I" } : MethodName) prog_7_method_19_code (6 : Nat) (Option.some FieldType.int)) ∈ XT := xt_t (i := 691) (rfl) (by decide)
theorem m_MD_158 : (Cond.methodLink "KeyedFilesModel" (158 : Nat) ({ cls := "KeyedFilesModel", name := "rankAll", desc := "(IJZ)V" } : MethodName)) ∈ XT := xt_t (i := 692) (by decide +kernel) (by decide)
theorem ki_MD_rankAll : (Cond.instanceMethod ({ cls := "KeyedFilesModel", name := "rankAll", desc := "(IJZ)V" } : MethodName)) ∈ XT := xt_t (i := 694) (by decide +kernel) (by decide)
set_option maxRecDepth 20000 in
theorem kc_MD_rankAll : (Cond.code ({ cls := "KeyedFilesModel", name := "rankAll", desc := "(IJZ)V" } : MethodName) prog_7_method_26_code (7 : Nat) (Option.none : Option FieldType)) ∈ XT := xt_t (i := 695) (rfl) (by decide)
theorem m_LW_48 : (Cond.methodLink "KeyedFilesLaw" (48 : Nat) ({ cls := "KeyedFilesModel", name := "read", desc := "(IIJ)I" } : MethodName)) ∈ XT := xt_t (i := 696) (by decide +kernel) (by decide)
theorem ki_MD_read : (Cond.instanceMethod ({ cls := "KeyedFilesModel", name := "read", desc := "(IIJ)I" } : MethodName)) ∈ XT := xt_t (i := 697) (by decide +kernel) (by decide)
theorem kv_MD_read : (Cond.selects "KeyedFilesModel" ({ cls := "KeyedFilesModel", name := "read", desc := "(IIJ)I" } : MethodName) ({ cls := "KeyedFilesModel", name := "read", desc := "(IIJ)I" } : MethodName)) ∈ XT := xt_t (i := 698) (by decide +kernel) (by decide)
set_option maxRecDepth 20000 in
theorem kc_MD_read : (Cond.code ({ cls := "KeyedFilesModel", name := "read", desc := "(IIJ)I" } : MethodName) prog_7_method_28_code (6 : Nat) (Option.some FieldType.int)) ∈ XT := xt_t (i := 699) (rfl) (by decide)
theorem m_MD_165 : (Cond.methodLink "KeyedFilesModel" (165 : Nat) ({ cls := "KeyedFilesModel", name := "reads", desc := "(I)Z" } : MethodName)) ∈ XT := xt_t (i := 700) (by decide +kernel) (by decide)
theorem ki_MD_reads : (Cond.instanceMethod ({ cls := "KeyedFilesModel", name := "reads", desc := "(I)Z" } : MethodName)) ∈ XT := xt_t (i := 702) (by decide +kernel) (by decide)
set_option maxRecDepth 20000 in
theorem kc_MD_reads : (Cond.code ({ cls := "KeyedFilesModel", name := "reads", desc := "(I)Z" } : MethodName) prog_7_method_24_code (2 : Nat) (Option.some FieldType.boolean)) ∈ XT := xt_t (i := 703) (rfl) (by decide)
theorem m_MD_133 : (Cond.methodLink "KeyedFilesModel" (133 : Nat) ({ cls := "KeyedFilesModel", name := "after", desc := "(IJIZ)I" } : MethodName)) ∈ XT := xt_t (i := 704) (by decide +kernel) (by decide)
theorem ki_MD_after : (Cond.instanceMethod ({ cls := "KeyedFilesModel", name := "after", desc := "(IJIZ)I" } : MethodName)) ∈ XT := xt_t (i := 706) (by decide +kernel) (by decide)
set_option maxRecDepth 20000 in
theorem kc_MD_after : (Cond.code ({ cls := "KeyedFilesModel", name := "after", desc := "(IJIZ)I" } : MethodName) prog_7_method_17_code (8 : Nat) (Option.some FieldType.int)) ∈ XT := xt_t (i := 707) (rfl) (by decide)
theorem m_MD_118 : (Cond.methodLink "KeyedFilesModel" (118 : Nat) ({ cls := "KeyedFilesModel", name := "isAhead", desc := "(IIJI)Z" } : MethodName)) ∈ XT := xt_t (i := 708) (by decide +kernel) (by decide)
theorem ki_MD_isAhead : (Cond.instanceMethod ({ cls := "KeyedFilesModel", name := "isAhead", desc := "(IIJI)Z" } : MethodName)) ∈ XT := xt_t (i := 710) (by decide +kernel) (by decide)
set_option maxRecDepth 20000 in
theorem kc_MD_isAhead : (Cond.code ({ cls := "KeyedFilesModel", name := "isAhead", desc := "(IIJI)Z" } : MethodName) prog_7_method_15_code (8 : Nat) (Option.some FieldType.boolean)) ∈ XT := xt_t (i := 711) (rfl) (by decide)
theorem m_MD_110 : (Cond.methodLink "KeyedFilesModel" (110 : Nat) ({ cls := "KeyedFilesModel", name := "rank", desc := "(II)I" } : MethodName)) ∈ XT := xt_t (i := 712) (by decide +kernel) (by decide)
theorem ki_MD_rank : (Cond.instanceMethod ({ cls := "KeyedFilesModel", name := "rank", desc := "(II)I" } : MethodName)) ∈ XT := xt_t (i := 714) (by decide +kernel) (by decide)
set_option maxRecDepth 20000 in
theorem kc_MD_rank : (Cond.code ({ cls := "KeyedFilesModel", name := "rank", desc := "(II)I" } : MethodName) prog_7_method_13_code (3 : Nat) (Option.some FieldType.int)) ∈ XT := xt_t (i := 715) (rfl) (by decide)
theorem m_MD_122 : (Cond.methodLink "KeyedFilesModel" (122 : Nat) ({ cls := "KeyedFilesModel", name := "isBehind", desc := "(IIJI)Z" } : MethodName)) ∈ XT := xt_t (i := 716) (by decide +kernel) (by decide)
theorem ki_MD_isBehind : (Cond.instanceMethod ({ cls := "KeyedFilesModel", name := "isBehind", desc := "(IIJI)Z" } : MethodName)) ∈ XT := xt_t (i := 718) (by decide +kernel) (by decide)
set_option maxRecDepth 20000 in
theorem kc_MD_isBehind : (Cond.code ({ cls := "KeyedFilesModel", name := "isBehind", desc := "(IIJI)Z" } : MethodName) prog_7_method_16_code (8 : Nat) (Option.some FieldType.boolean)) ∈ XT := xt_t (i := 719) (rfl) (by decide)
theorem m_MD_168 : (Cond.methodLink "KeyedFilesModel" (168 : Nat) ({ cls := "KeyedFilesModel", name := "got", desc := "(IIIZ)I" } : MethodName)) ∈ XT := xt_t (i := 720) (by decide +kernel) (by decide)
theorem ki_MD_got : (Cond.instanceMethod ({ cls := "KeyedFilesModel", name := "got", desc := "(IIIZ)I" } : MethodName)) ∈ XT := xt_t (i := 722) (by decide +kernel) (by decide)
set_option maxRecDepth 20000 in
theorem kc_MD_got : (Cond.code ({ cls := "KeyedFilesModel", name := "got", desc := "(IIIZ)I" } : MethodName) prog_7_method_23_code (5 : Nat) (Option.some FieldType.int)) ∈ XT := xt_t (i := 723) (rfl) (by decide)
theorem m_MD_143 : (Cond.methodLink "KeyedFilesModel" (143 : Nat) ({ cls := "KeyedFilesModel", name := "status", desc := "(IIZ)I" } : MethodName)) ∈ XT := xt_t (i := 724) (by decide +kernel) (by decide)
theorem ki_MD_status : (Cond.instanceMethod ({ cls := "KeyedFilesModel", name := "status", desc := "(IIZ)I" } : MethodName)) ∈ XT := xt_t (i := 726) (by decide +kernel) (by decide)
set_option maxRecDepth 20000 in
theorem kc_MD_status : (Cond.code ({ cls := "KeyedFilesModel", name := "status", desc := "(IIZ)I" } : MethodName) prog_7_method_21_code (7 : Nat) (Option.some FieldType.int)) ∈ XT := xt_t (i := 727) (rfl) (by decide)
theorem m_MD_129 : (Cond.methodLink "KeyedFilesModel" (129 : Nat) ({ cls := "KeyedFilesModel", name := "ahead", desc := "(IJIZ)I" } : MethodName)) ∈ XT := xt_t (i := 728) (by decide +kernel) (by decide)
theorem ki_MD_ahead : (Cond.instanceMethod ({ cls := "KeyedFilesModel", name := "ahead", desc := "(IJIZ)I" } : MethodName)) ∈ XT := xt_t (i := 730) (by decide +kernel) (by decide)
set_option maxRecDepth 20000 in
theorem kc_MD_ahead : (Cond.code ({ cls := "KeyedFilesModel", name := "ahead", desc := "(IJIZ)I" } : MethodName) prog_7_method_18_code (8 : Nat) (Option.some FieldType.int)) ∈ XT := xt_t (i := 731) (rfl) (by decide)
theorem m_LW_53 : (Cond.methodLink "KeyedFilesLaw" (53 : Nat) ({ cls := "KeyedFilesModel", name := "value", desc := "(I)J" } : MethodName)) ∈ XT := xt_t (i := 732) (by decide +kernel) (by decide)
theorem ki_MD_value : (Cond.instanceMethod ({ cls := "KeyedFilesModel", name := "value", desc := "(I)J" } : MethodName)) ∈ XT := xt_t (i := 733) (by decide +kernel) (by decide)
theorem kv_MD_value : (Cond.selects "KeyedFilesModel" ({ cls := "KeyedFilesModel", name := "value", desc := "(I)J" } : MethodName) ({ cls := "KeyedFilesModel", name := "value", desc := "(I)J" } : MethodName)) ∈ XT := xt_t (i := 734) (by decide +kernel) (by decide)
set_option maxRecDepth 20000 in
theorem kc_MD_value : (Cond.code ({ cls := "KeyedFilesModel", name := "value", desc := "(I)J" } : MethodName) prog_7_method_29_code (2 : Nat) (Option.some FieldType.long)) ∈ XT := xt_t (i := 735) (rfl) (by decide)
theorem m_LW_58 : (Cond.methodLink "KeyedFilesLaw" (58 : Nat) ({ cls := "KeyedFilesModel", name := "start", desc := "(IIIJI)I" } : MethodName)) ∈ XT := xt_t (i := 736) (by decide +kernel) (by decide)
theorem ki_MD_start : (Cond.instanceMethod ({ cls := "KeyedFilesModel", name := "start", desc := "(IIIJI)I" } : MethodName)) ∈ XT := xt_t (i := 737) (by decide +kernel) (by decide)
theorem kv_MD_start : (Cond.selects "KeyedFilesModel" ({ cls := "KeyedFilesModel", name := "start", desc := "(IIIJI)I" } : MethodName) ({ cls := "KeyedFilesModel", name := "start", desc := "(IIIJI)I" } : MethodName)) ∈ XT := xt_t (i := 738) (by decide +kernel) (by decide)
set_option maxRecDepth 20000 in
theorem kc_MD_start : (Cond.code ({ cls := "KeyedFilesModel", name := "start", desc := "(IIIJI)I" } : MethodName) prog_7_method_31_code (12 : Nat) (Option.some FieldType.int)) ∈ XT := xt_t (i := 739) (rfl) (by decide)
theorem m_MD_172 : (Cond.methodLink "KeyedFilesModel" (172 : Nat) ({ cls := "KeyedFilesModel", name := "holds", desc := "(IJJ)Z" } : MethodName)) ∈ XT := xt_t (i := 740) (by decide +kernel) (by decide)
theorem ks_MD_holds : (Cond.static ({ cls := "KeyedFilesModel", name := "holds", desc := "(IJJ)Z" } : MethodName)) ∈ XT := xt_t (i := 741) (by decide +kernel) (by decide)
set_option maxRecDepth 20000 in
theorem kc_MD_holds : (Cond.code ({ cls := "KeyedFilesModel", name := "holds", desc := "(IJJ)Z" } : MethodName) prog_7_method_30_code (5 : Nat) (Option.some FieldType.boolean)) ∈ XT := xt_t (i := 742) (rfl) (by decide)
theorem m_LW_63 : (Cond.methodLink "KeyedFilesLaw" (63 : Nat) ({ cls := "KeyedFilesModel", name := "next", desc := "(IZ)I" } : MethodName)) ∈ XT := xt_t (i := 743) (by decide +kernel) (by decide)
theorem ki_MD_next : (Cond.instanceMethod ({ cls := "KeyedFilesModel", name := "next", desc := "(IZ)I" } : MethodName)) ∈ XT := xt_t (i := 744) (by decide +kernel) (by decide)
theorem kv_MD_next : (Cond.selects "KeyedFilesModel" ({ cls := "KeyedFilesModel", name := "next", desc := "(IZ)I" } : MethodName) ({ cls := "KeyedFilesModel", name := "next", desc := "(IZ)I" } : MethodName)) ∈ XT := xt_t (i := 745) (by decide +kernel) (by decide)
set_option maxRecDepth 20000 in
theorem kc_MD_next : (Cond.code ({ cls := "KeyedFilesModel", name := "next", desc := "(IZ)I" } : MethodName) prog_7_method_32_code (8 : Nat) (Option.some FieldType.int)) ∈ XT := xt_t (i := 746) (rfl) (by decide)
theorem m_LW_67 : (Cond.methodLink "KeyedFilesLaw" (67 : Nat) ({ cls := "KeyedFilesModel", name := "rewrite", desc := "(IJ)I" } : MethodName)) ∈ XT := xt_t (i := 747) (by decide +kernel) (by decide)
theorem ki_MD_rewrite : (Cond.instanceMethod ({ cls := "KeyedFilesModel", name := "rewrite", desc := "(IJ)I" } : MethodName)) ∈ XT := xt_t (i := 748) (by decide +kernel) (by decide)
theorem kv_MD_rewrite : (Cond.selects "KeyedFilesModel" ({ cls := "KeyedFilesModel", name := "rewrite", desc := "(IJ)I" } : MethodName) ({ cls := "KeyedFilesModel", name := "rewrite", desc := "(IJ)I" } : MethodName)) ∈ XT := xt_t (i := 749) (by decide +kernel) (by decide)
set_option maxRecDepth 20000 in
theorem kc_MD_rewrite : (Cond.code ({ cls := "KeyedFilesModel", name := "rewrite", desc := "(IJ)I" } : MethodName) prog_7_method_34_code (6 : Nat) (Option.some FieldType.int)) ∈ XT := xt_t (i := 750) (rfl) (by decide)
theorem m_MD_176 : (Cond.methodLink "KeyedFilesModel" (176 : Nat) ({ cls := "KeyedFilesModel", name := "had", desc := "()I" } : MethodName)) ∈ XT := xt_t (i := 751) (by decide +kernel) (by decide)
theorem ki_MD_had : (Cond.instanceMethod ({ cls := "KeyedFilesModel", name := "had", desc := "()I" } : MethodName)) ∈ XT := xt_t (i := 753) (by decide +kernel) (by decide)
set_option maxRecDepth 20000 in
theorem kc_MD_had : (Cond.code ({ cls := "KeyedFilesModel", name := "had", desc := "()I" } : MethodName) prog_7_method_33_code (2 : Nat) (Option.some FieldType.int)) ∈ XT := xt_t (i := 754) (rfl) (by decide)
theorem m_MD_180 : (Cond.methodLink "KeyedFilesModel" (180 : Nat) ({ cls := "KeyedFilesModel", name := "byPrime", desc := "(J)I" } : MethodName)) ∈ XT := xt_t (i := 755) (by decide +kernel) (by decide)
theorem ki_MD_byPrime : (Cond.instanceMethod ({ cls := "KeyedFilesModel", name := "byPrime", desc := "(J)I" } : MethodName)) ∈ XT := xt_t (i := 757) (by decide +kernel) (by decide)
set_option maxRecDepth 20000 in
theorem kc_MD_byPrime : (Cond.code ({ cls := "KeyedFilesModel", name := "byPrime", desc := "(J)I" } : MethodName) prog_7_method_20_code (3 : Nat) (Option.some FieldType.int)) ∈ XT := xt_t (i := 758) (rfl) (by decide)
theorem m_LW_71 : (Cond.methodLink "KeyedFilesLaw" (71 : Nat) ({ cls := "KeyedFilesModel", name := "remove", desc := "(IJ)I" } : MethodName)) ∈ XT := xt_t (i := 759) (by decide +kernel) (by decide)
theorem ki_MD_remove : (Cond.instanceMethod ({ cls := "KeyedFilesModel", name := "remove", desc := "(IJ)I" } : MethodName)) ∈ XT := xt_t (i := 760) (by decide +kernel) (by decide)
theorem kv_MD_remove : (Cond.selects "KeyedFilesModel" ({ cls := "KeyedFilesModel", name := "remove", desc := "(IJ)I" } : MethodName) ({ cls := "KeyedFilesModel", name := "remove", desc := "(IJ)I" } : MethodName)) ∈ XT := xt_t (i := 761) (by decide +kernel) (by decide)
set_option maxRecDepth 20000 in
theorem kc_MD_remove : (Cond.code ({ cls := "KeyedFilesModel", name := "remove", desc := "(IJ)I" } : MethodName) prog_7_method_35_code (5 : Nat) (Option.some FieldType.int)) ∈ XT := xt_t (i := 762) (rfl) (by decide)
theorem m_LW_76 : (Cond.methodLink "KeyedFilesLaw" (76 : Nat) ({ cls := "KeyedFilesModel", name := "scan", desc := "(II)J" } : MethodName)) ∈ XT := xt_t (i := 763) (by decide +kernel) (by decide)
theorem ki_MD_scan : (Cond.instanceMethod ({ cls := "KeyedFilesModel", name := "scan", desc := "(II)J" } : MethodName)) ∈ XT := xt_t (i := 764) (by decide +kernel) (by decide)
theorem kv_MD_scan : (Cond.selects "KeyedFilesModel" ({ cls := "KeyedFilesModel", name := "scan", desc := "(II)J" } : MethodName) ({ cls := "KeyedFilesModel", name := "scan", desc := "(II)J" } : MethodName)) ∈ XT := xt_t (i := 765) (by decide +kernel) (by decide)
set_option maxRecDepth 20000 in
theorem kc_MD_scan : (Cond.code ({ cls := "KeyedFilesModel", name := "scan", desc := "(II)J" } : MethodName) prog_7_method_36_code (5 : Nat) (Option.some FieldType.long)) ∈ XT := xt_t (i := 766) (rfl) (by decide)
theorem m_LW_80 : (Cond.methodLink "KeyedFilesLaw" (80 : Nat) ({ cls := "KeyedFilesModel", name := "reference", desc := "(I)I" } : MethodName)) ∈ XT := xt_t (i := 767) (by decide +kernel) (by decide)
theorem ki_MD_reference : (Cond.instanceMethod ({ cls := "KeyedFilesModel", name := "reference", desc := "(I)I" } : MethodName)) ∈ XT := xt_t (i := 768) (by decide +kernel) (by decide)
theorem kv_MD_reference : (Cond.selects "KeyedFilesModel" ({ cls := "KeyedFilesModel", name := "reference", desc := "(I)I" } : MethodName) ({ cls := "KeyedFilesModel", name := "reference", desc := "(I)I" } : MethodName)) ∈ XT := xt_t (i := 769) (by decide +kernel) (by decide)
set_option maxRecDepth 20000 in
theorem kc_MD_reference : (Cond.code ({ cls := "KeyedFilesModel", name := "reference", desc := "(I)I" } : MethodName) prog_7_method_37_code (2 : Nat) (Option.some FieldType.int)) ∈ XT := xt_t (i := 770) (rfl) (by decide)
theorem m_LW_84 : (Cond.methodLink "KeyedFilesLaw" (84 : Nat) ({ cls := "KeyedFilesModel", name := "count", desc := "(I)I" } : MethodName)) ∈ XT := xt_t (i := 771) (by decide +kernel) (by decide)
theorem ki_MD_count : (Cond.instanceMethod ({ cls := "KeyedFilesModel", name := "count", desc := "(I)I" } : MethodName)) ∈ XT := xt_t (i := 772) (by decide +kernel) (by decide)
theorem kv_MD_count : (Cond.selects "KeyedFilesModel" ({ cls := "KeyedFilesModel", name := "count", desc := "(I)I" } : MethodName) ({ cls := "KeyedFilesModel", name := "count", desc := "(I)I" } : MethodName)) ∈ XT := xt_t (i := 773) (by decide +kernel) (by decide)
set_option maxRecDepth 20000 in
theorem kc_MD_count : (Cond.code ({ cls := "KeyedFilesModel", name := "count", desc := "(I)I" } : MethodName) prog_7_method_38_code (4 : Nat) (Option.some FieldType.int)) ∈ XT := xt_t (i := 774) (rfl) (by decide)
theorem m_LW_89 : (Cond.methodLink "KeyedFilesLaw" (89 : Nat) ({ cls := "KeyedFilesModel", name := "whole", desc := "()Z" } : MethodName)) ∈ XT := xt_t (i := 775) (by decide +kernel) (by decide)
theorem ki_MD_whole : (Cond.instanceMethod ({ cls := "KeyedFilesModel", name := "whole", desc := "()Z" } : MethodName)) ∈ XT := xt_t (i := 776) (by decide +kernel) (by decide)
theorem kv_MD_whole : (Cond.selects "KeyedFilesModel" ({ cls := "KeyedFilesModel", name := "whole", desc := "()Z" } : MethodName) ({ cls := "KeyedFilesModel", name := "whole", desc := "()Z" } : MethodName)) ∈ XT := xt_t (i := 777) (by decide +kernel) (by decide)
set_option maxRecDepth 20000 in
theorem kc_MD_whole : (Cond.code ({ cls := "KeyedFilesModel", name := "whole", desc := "()Z" } : MethodName) prog_7_method_39_code (1 : Nat) (Option.some FieldType.boolean)) ∈ XT := xt_t (i := 778) (rfl) (by decide)
theorem kl_LW_18 : (Cond.constantLong "KeyedFilesLaw" (18 : Nat) (4294967295 : Int64)) ∈ XT := xt_t (i := 779) (by decide +kernel) (by decide)
theorem kv_OA__OB_getClass : (Cond.selects "[Ljava/lang/Object;" ({ cls := "java/lang/Object", name := "getClass", desc := "()Ljava/lang/Class;" } : MethodName) ({ cls := "java/lang/Object", name := "getClass", desc := "()Ljava/lang/Class;" } : MethodName)) ∈ XT := xt_t (i := 784) (by decide +kernel) (by decide)
theorem kv_AL_addA : Cond.selects "java/util/ArrayList" ⟨"java/util/ArrayList", "add", "(Ljava/lang/Object;[Ljava/lang/Object;I)V"⟩ ⟨"java/util/ArrayList", "add", "(Ljava/lang/Object;[Ljava/lang/Object;I)V"⟩ ∈ XT := xt_p (i := 0) (by decide +kernel) (by decide)
theorem kv_AL_grow0 : Cond.selects "java/util/ArrayList" ⟨"java/util/ArrayList", "grow", "()[Ljava/lang/Object;"⟩ ⟨"java/util/ArrayList", "grow", "()[Ljava/lang/Object;"⟩ ∈ XT := xt_p (i := 1) (by decide +kernel) (by decide)
theorem kv_AL_growI : Cond.selects "java/util/ArrayList" ⟨"java/util/ArrayList", "grow", "(I)[Ljava/lang/Object;"⟩ ⟨"java/util/ArrayList", "grow", "(I)[Ljava/lang/Object;"⟩ ∈ XT := xt_p (i := 2) (by decide +kernel) (by decide)
theorem kv_KF_indexAt : Cond.selects "KeyedFiles" ⟨"KeyedFiles", "indexAt", "(I)LKeyedFiles$KeyIndex;"⟩ ⟨"KeyedFiles", "indexAt", "(I)LKeyedFiles$KeyIndex;"⟩ ∈ XT := xt_p (i := 3) (by decide +kernel) (by decide)
theorem kv_KF_viewAt : Cond.selects "KeyedFiles" ⟨"KeyedFiles", "viewAt", "(I)LKeyedFiles$View;"⟩ ⟨"KeyedFiles", "viewAt", "(I)LKeyedFiles$View;"⟩ ∈ XT := xt_p (i := 4) (by decide +kernel) (by decide)
theorem kv_KF_dropAllRecords : Cond.selects "KeyedFiles" ⟨"KeyedFiles", "dropAllRecords", "()V"⟩ ⟨"KeyedFiles", "dropAllRecords", "()V"⟩ ∈ XT := xt_p (i := 5) (by decide +kernel) (by decide)
theorem kv_KF_isOutOfOrder : Cond.selects "KeyedFiles" ⟨"KeyedFiles", "isOutOfOrder", "(LKeyedFiles$View;J)Z"⟩ ⟨"KeyedFiles", "isOutOfOrder", "(LKeyedFiles$View;J)Z"⟩ ∈ XT := xt_p (i := 6) (by decide +kernel) (by decide)
theorem kv_KF_fieldOf : Cond.selects "KeyedFiles" ⟨"KeyedFiles", "fieldOf", "(IJ)J"⟩ ⟨"KeyedFiles", "fieldOf", "(IJ)J"⟩ ∈ XT := xt_p (i := 7) (by decide +kernel) (by decide)
theorem kv_KF_hasBarredDouble : Cond.selects "KeyedFiles" ⟨"KeyedFiles", "hasBarredDouble", "(JLKeyedFiles$Stored;)Z"⟩ ⟨"KeyedFiles", "hasBarredDouble", "(JLKeyedFiles$Stored;)Z"⟩ ∈ XT := xt_p (i := 8) (by decide +kernel) (by decide)
theorem kv_KF_entryCount : Cond.selects "KeyedFiles" ⟨"KeyedFiles", "entryCount", "(I)I"⟩ ⟨"KeyedFiles", "entryCount", "(I)I"⟩ ∈ XT := xt_p (i := 9) (by decide +kernel) (by decide)
theorem kv_KF_enterUnderAllKeys : Cond.selects "KeyedFiles" ⟨"KeyedFiles", "enterUnderAllKeys", "(LKeyedFiles$Stored;)Z"⟩ ⟨"KeyedFiles", "enterUnderAllKeys", "(LKeyedFiles$Stored;)Z"⟩ ∈ XT := xt_p (i := 10) (by decide +kernel) (by decide)
theorem kv_KF_enterUnder : Cond.selects "KeyedFiles" ⟨"KeyedFiles", "enterUnder", "(LKeyedFiles$KeyIndex;LKeyedFiles$Stored;)Z"⟩ ⟨"KeyedFiles", "enterUnder", "(LKeyedFiles$KeyIndex;LKeyedFiles$Stored;)Z"⟩ ∈ XT := xt_p (i := 11) (by decide +kernel) (by decide)
theorem kv_AL_rangeCheckForAdd : Cond.selects "java/util/ArrayList" ⟨"java/util/ArrayList", "rangeCheckForAdd", "(I)V"⟩ ⟨"java/util/ArrayList", "rangeCheckForAdd", "(I)V"⟩ ∈ XT := xt_p (i := 12) (by decide +kernel) (by decide)
theorem kv_KF_recordToChange : Cond.selects "KeyedFiles" ⟨"KeyedFiles", "recordToChange", "(LKeyedFiles$View;J)LKeyedFiles$Stored;"⟩ ⟨"KeyedFiles", "recordToChange", "(LKeyedFiles$View;J)LKeyedFiles$Stored;"⟩ ∈ XT := xt_p (i := 13) (by decide +kernel) (by decide)
theorem kv_KF_moveChangedEntries : Cond.selects "KeyedFiles" ⟨"KeyedFiles", "moveChangedEntries", "(LKeyedFiles$Stored;J)Z"⟩ ⟨"KeyedFiles", "moveChangedEntries", "(LKeyedFiles$Stored;J)Z"⟩ ∈ XT := xt_p (i := 14) (by decide +kernel) (by decide)
theorem kv_AL_fastRemove : Cond.selects "java/util/ArrayList" ⟨"java/util/ArrayList", "fastRemove", "([Ljava/lang/Object;I)V"⟩ ⟨"java/util/ArrayList", "fastRemove", "([Ljava/lang/Object;I)V"⟩ ∈ XT := xt_p (i := 15) (by decide +kernel) (by decide)
theorem kv_KF_dropRecord : Cond.selects "KeyedFiles" ⟨"KeyedFiles", "dropRecord", "(LKeyedFiles$Stored;)V"⟩ ⟨"KeyedFiles", "dropRecord", "(LKeyedFiles$Stored;)V"⟩ ∈ XT := xt_p (i := 16) (by decide +kernel) (by decide)
theorem kv_KF_entriesDue : Cond.selects "KeyedFiles" ⟨"KeyedFiles", "entriesDue", "(LKeyedFiles$KeyIndex;)I"⟩ ⟨"KeyedFiles", "entriesDue", "(LKeyedFiles$KeyIndex;)I"⟩ ∈ XT := xt_p (i := 17) (by decide +kernel) (by decide)
theorem kv_MD_isKey : Cond.selects "KeyedFilesModel" ⟨"KeyedFilesModel", "isKey", "(I)Z"⟩ ⟨"KeyedFilesModel", "isKey", "(I)Z"⟩ ∈ XT := xt_p (i := 18) (by decide +kernel) (by decide)
theorem kv_MD_isView : Cond.selects "KeyedFilesModel" ⟨"KeyedFilesModel", "isView", "(I)Z"⟩ ⟨"KeyedFilesModel", "isView", "(I)Z"⟩ ∈ XT := xt_p (i := 19) (by decide +kernel) (by decide)
theorem kv_MD_forget : Cond.selects "KeyedFilesModel" ⟨"KeyedFilesModel", "forget", "(I)V"⟩ ⟨"KeyedFilesModel", "forget", "(I)V"⟩ ∈ XT := xt_p (i := 20) (by decide +kernel) (by decide)
theorem kv_MD_field : Cond.selects "KeyedFilesModel" ⟨"KeyedFilesModel", "field", "(IJ)J"⟩ ⟨"KeyedFilesModel", "field", "(IJ)J"⟩ ∈ XT := xt_p (i := 21) (by decide +kernel) (by decide)
theorem kv_MD_barred : Cond.selects "KeyedFilesModel" ⟨"KeyedFilesModel", "barred", "(JI)I"⟩ ⟨"KeyedFilesModel", "barred", "(JI)I"⟩ ∈ XT := xt_p (i := 22) (by decide +kernel) (by decide)
theorem kv_MD_isEntry : Cond.selects "KeyedFilesModel" ⟨"KeyedFilesModel", "isEntry", "(II)Z"⟩ ⟨"KeyedFilesModel", "isEntry", "(II)Z"⟩ ∈ XT := xt_p (i := 23) (by decide +kernel) (by decide)
theorem kv_MD_hasEntry : Cond.selects "KeyedFilesModel" ⟨"KeyedFilesModel", "hasEntry", "(IJ)Z"⟩ ⟨"KeyedFilesModel", "hasEntry", "(IJ)Z"⟩ ∈ XT := xt_p (i := 24) (by decide +kernel) (by decide)
theorem kv_MD_equal : Cond.selects "KeyedFilesModel" ⟨"KeyedFilesModel", "equal", "(IJI)I"⟩ ⟨"KeyedFilesModel", "equal", "(IJI)I"⟩ ∈ XT := xt_p (i := 25) (by decide +kernel) (by decide)
theorem kv_MD_rankAll : Cond.selects "KeyedFilesModel" ⟨"KeyedFilesModel", "rankAll", "(IJZ)V"⟩ ⟨"KeyedFilesModel", "rankAll", "(IJZ)V"⟩ ∈ XT := xt_p (i := 26) (by decide +kernel) (by decide)
theorem kv_MD_reads : Cond.selects "KeyedFilesModel" ⟨"KeyedFilesModel", "reads", "(I)Z"⟩ ⟨"KeyedFilesModel", "reads", "(I)Z"⟩ ∈ XT := xt_p (i := 27) (by decide +kernel) (by decide)
theorem kv_MD_after : Cond.selects "KeyedFilesModel" ⟨"KeyedFilesModel", "after", "(IJIZ)I"⟩ ⟨"KeyedFilesModel", "after", "(IJIZ)I"⟩ ∈ XT := xt_p (i := 28) (by decide +kernel) (by decide)
theorem kv_MD_isAhead : Cond.selects "KeyedFilesModel" ⟨"KeyedFilesModel", "isAhead", "(IIJI)Z"⟩ ⟨"KeyedFilesModel", "isAhead", "(IIJI)Z"⟩ ∈ XT := xt_p (i := 29) (by decide +kernel) (by decide)
theorem kv_MD_rank : Cond.selects "KeyedFilesModel" ⟨"KeyedFilesModel", "rank", "(II)I"⟩ ⟨"KeyedFilesModel", "rank", "(II)I"⟩ ∈ XT := xt_p (i := 30) (by decide +kernel) (by decide)
theorem kv_MD_isBehind : Cond.selects "KeyedFilesModel" ⟨"KeyedFilesModel", "isBehind", "(IIJI)Z"⟩ ⟨"KeyedFilesModel", "isBehind", "(IIJI)Z"⟩ ∈ XT := xt_p (i := 31) (by decide +kernel) (by decide)
theorem kv_MD_got : Cond.selects "KeyedFilesModel" ⟨"KeyedFilesModel", "got", "(IIIZ)I"⟩ ⟨"KeyedFilesModel", "got", "(IIIZ)I"⟩ ∈ XT := xt_p (i := 32) (by decide +kernel) (by decide)
theorem kv_MD_status : Cond.selects "KeyedFilesModel" ⟨"KeyedFilesModel", "status", "(IIZ)I"⟩ ⟨"KeyedFilesModel", "status", "(IIZ)I"⟩ ∈ XT := xt_p (i := 33) (by decide +kernel) (by decide)
theorem kv_MD_ahead : Cond.selects "KeyedFilesModel" ⟨"KeyedFilesModel", "ahead", "(IJIZ)I"⟩ ⟨"KeyedFilesModel", "ahead", "(IJIZ)I"⟩ ∈ XT := xt_p (i := 34) (by decide +kernel) (by decide)
theorem kv_MD_had : Cond.selects "KeyedFilesModel" ⟨"KeyedFilesModel", "had", "()I"⟩ ⟨"KeyedFilesModel", "had", "()I"⟩ ∈ XT := xt_p (i := 35) (by decide +kernel) (by decide)
theorem kv_MD_byPrime : Cond.selects "KeyedFilesModel" ⟨"KeyedFilesModel", "byPrime", "(J)I"⟩ ⟨"KeyedFilesModel", "byPrime", "(J)I"⟩ ∈ XT := xt_p (i := 36) (by decide +kernel) (by decide)
theorem lay_KF_0 : u_lay R_KF T_KF 0 ∈ XT := xt_t (i := 55) (by decide +kernel) (by decide)
theorem lay_KF_1 : u_lay R_KF T_KF 1 ∈ XT := xt_t (i := 57) (by decide +kernel) (by decide)
theorem lay_KF_2 : u_lay R_KF T_KF 2 ∈ XT := xt_t (i := 59) (by decide +kernel) (by decide)
theorem lay_KF_3 : u_lay R_KF T_KF 3 ∈ XT := xt_t (i := 61) (by decide +kernel) (by decide)
theorem lay_KF_4 : u_lay R_KF T_KF 4 ∈ XT := xt_t (i := 63) (by decide +kernel) (by decide)
theorem in_KF (c0 : Cond) : ∀ w ∈ u_ws R_KF T_KF 5, w ∈ c0 :: XT := by
  intro w hw
  obtain ⟨k, hk, rfl⟩ := List.mem_map.mp hw
  have hk := List.mem_range.mp hk
  refine List.mem_cons_of_mem _ ?_
  match k, hk with
  | 0, _ => exact lay_KF_0
  | 1, _ => exact lay_KF_1
  | 2, _ => exact lay_KF_2
  | 3, _ => exact lay_KF_3
  | 4, _ => exact lay_KF_4
  | k + 5, h => exact absurd h (by omega)
theorem inL_KF : ∀ w ∈ u_ws R_KF T_KF 5, w ∈ lw_tbl := fun w h => by
  rcases List.mem_cons.mp (in_KF Cond.tt w h) with e | e
  · subst e; exact absurd h (by decide +kernel)
  · exact (List.mem_filter.mp e).1
theorem lay_EN_0 : u_lay R_EN T_EN 0 ∈ XT := xt_t (i := 392) (by decide +kernel) (by decide)
theorem lay_EN_1 : u_lay R_EN T_EN 1 ∈ XT := xt_t (i := 394) (by decide +kernel) (by decide)
theorem lay_EN_2 : u_lay R_EN T_EN 2 ∈ XT := xt_t (i := 396) (by decide +kernel) (by decide)
theorem in_EN (c0 : Cond) : ∀ w ∈ u_ws R_EN T_EN 3, w ∈ c0 :: XT := by
  intro w hw
  obtain ⟨k, hk, rfl⟩ := List.mem_map.mp hw
  have hk := List.mem_range.mp hk
  refine List.mem_cons_of_mem _ ?_
  match k, hk with
  | 0, _ => exact lay_EN_0
  | 1, _ => exact lay_EN_1
  | 2, _ => exact lay_EN_2
  | k + 3, h => exact absurd h (by omega)
theorem inL_EN : ∀ w ∈ u_ws R_EN T_EN 3, w ∈ lw_tbl := fun w h => by
  rcases List.mem_cons.mp (in_EN Cond.tt w h) with e | e
  · subst e; exact absurd h (by decide +kernel)
  · exact (List.mem_filter.mp e).1
theorem lay_KI_0 : u_lay R_KI T_KI 0 ∈ XT := xt_t (i := 91) (by decide +kernel) (by decide)
theorem lay_KI_1 : u_lay R_KI T_KI 1 ∈ XT := xt_t (i := 93) (by decide +kernel) (by decide)
theorem lay_KI_2 : u_lay R_KI T_KI 2 ∈ XT := xt_t (i := 95) (by decide +kernel) (by decide)
theorem lay_KI_3 : u_lay R_KI T_KI 3 ∈ XT := xt_t (i := 97) (by decide +kernel) (by decide)
theorem lay_KI_4 : u_lay R_KI T_KI 4 ∈ XT := xt_t (i := 99) (by decide +kernel) (by decide)
theorem lay_KI_5 : u_lay R_KI T_KI 5 ∈ XT := xt_t (i := 101) (by decide +kernel) (by decide)
theorem in_KI (c0 : Cond) : ∀ w ∈ u_ws R_KI T_KI 6, w ∈ c0 :: XT := by
  intro w hw
  obtain ⟨k, hk, rfl⟩ := List.mem_map.mp hw
  have hk := List.mem_range.mp hk
  refine List.mem_cons_of_mem _ ?_
  match k, hk with
  | 0, _ => exact lay_KI_0
  | 1, _ => exact lay_KI_1
  | 2, _ => exact lay_KI_2
  | 3, _ => exact lay_KI_3
  | 4, _ => exact lay_KI_4
  | 5, _ => exact lay_KI_5
  | k + 6, h => exact absurd h (by omega)
theorem inL_KI : ∀ w ∈ u_ws R_KI T_KI 6, w ∈ lw_tbl := fun w h => by
  rcases List.mem_cons.mp (in_KI Cond.tt w h) with e | e
  · subst e; exact absurd h (by decide +kernel)
  · exact (List.mem_filter.mp e).1
theorem lay_ST_0 : u_lay R_ST T_ST 0 ∈ XT := xt_t (i := 352) (by decide +kernel) (by decide)
theorem lay_ST_1 : u_lay R_ST T_ST 1 ∈ XT := xt_t (i := 354) (by decide +kernel) (by decide)
theorem lay_ST_2 : u_lay R_ST T_ST 2 ∈ XT := xt_t (i := 356) (by decide +kernel) (by decide)
theorem in_ST (c0 : Cond) : ∀ w ∈ u_ws R_ST T_ST 3, w ∈ c0 :: XT := by
  intro w hw
  obtain ⟨k, hk, rfl⟩ := List.mem_map.mp hw
  have hk := List.mem_range.mp hk
  refine List.mem_cons_of_mem _ ?_
  match k, hk with
  | 0, _ => exact lay_ST_0
  | 1, _ => exact lay_ST_1
  | 2, _ => exact lay_ST_2
  | k + 3, h => exact absurd h (by omega)
theorem inL_ST : ∀ w ∈ u_ws R_ST T_ST 3, w ∈ lw_tbl := fun w h => by
  rcases List.mem_cons.mp (in_ST Cond.tt w h) with e | e
  · subst e; exact absurd h (by decide +kernel)
  · exact (List.mem_filter.mp e).1
theorem lay_VW_0 : u_lay R_VW T_VW 0 ∈ XT := xt_t (i := 223) (by decide +kernel) (by decide)
theorem lay_VW_1 : u_lay R_VW T_VW 1 ∈ XT := xt_t (i := 225) (by decide +kernel) (by decide)
theorem lay_VW_2 : u_lay R_VW T_VW 2 ∈ XT := xt_t (i := 227) (by decide +kernel) (by decide)
theorem lay_VW_3 : u_lay R_VW T_VW 3 ∈ XT := xt_t (i := 229) (by decide +kernel) (by decide)
theorem lay_VW_4 : u_lay R_VW T_VW 4 ∈ XT := xt_t (i := 231) (by decide +kernel) (by decide)
theorem lay_VW_5 : u_lay R_VW T_VW 5 ∈ XT := xt_t (i := 233) (by decide +kernel) (by decide)
theorem lay_VW_6 : u_lay R_VW T_VW 6 ∈ XT := xt_t (i := 235) (by decide +kernel) (by decide)
theorem lay_VW_7 : u_lay R_VW T_VW 7 ∈ XT := xt_t (i := 237) (by decide +kernel) (by decide)
theorem lay_VW_8 : u_lay R_VW T_VW 8 ∈ XT := xt_t (i := 239) (by decide +kernel) (by decide)
theorem lay_VW_9 : u_lay R_VW T_VW 9 ∈ XT := xt_t (i := 241) (by decide +kernel) (by decide)
theorem lay_VW_10 : u_lay R_VW T_VW 10 ∈ XT := xt_t (i := 243) (by decide +kernel) (by decide)
theorem lay_VW_11 : u_lay R_VW T_VW 11 ∈ XT := xt_t (i := 245) (by decide +kernel) (by decide)
theorem in_VW (c0 : Cond) : ∀ w ∈ u_ws R_VW T_VW 12, w ∈ c0 :: XT := by
  intro w hw
  obtain ⟨k, hk, rfl⟩ := List.mem_map.mp hw
  have hk := List.mem_range.mp hk
  refine List.mem_cons_of_mem _ ?_
  match k, hk with
  | 0, _ => exact lay_VW_0
  | 1, _ => exact lay_VW_1
  | 2, _ => exact lay_VW_2
  | 3, _ => exact lay_VW_3
  | 4, _ => exact lay_VW_4
  | 5, _ => exact lay_VW_5
  | 6, _ => exact lay_VW_6
  | 7, _ => exact lay_VW_7
  | 8, _ => exact lay_VW_8
  | 9, _ => exact lay_VW_9
  | 10, _ => exact lay_VW_10
  | 11, _ => exact lay_VW_11
  | k + 12, h => exact absurd h (by omega)
theorem inL_VW : ∀ w ∈ u_ws R_VW T_VW 12, w ∈ lw_tbl := fun w h => by
  rcases List.mem_cons.mp (in_VW Cond.tt w h) with e | e
  · subst e; exact absurd h (by decide +kernel)
  · exact (List.mem_filter.mp e).1
theorem lay_MD_0 : u_lay R_MD T_MD 0 ∈ XT := xt_t (i := 570) (by decide +kernel) (by decide)
theorem lay_MD_1 : u_lay R_MD T_MD 1 ∈ XT := xt_t (i := 572) (by decide +kernel) (by decide)
theorem lay_MD_2 : u_lay R_MD T_MD 2 ∈ XT := xt_t (i := 574) (by decide +kernel) (by decide)
theorem lay_MD_3 : u_lay R_MD T_MD 3 ∈ XT := xt_t (i := 576) (by decide +kernel) (by decide)
theorem lay_MD_4 : u_lay R_MD T_MD 4 ∈ XT := xt_t (i := 578) (by decide +kernel) (by decide)
theorem lay_MD_5 : u_lay R_MD T_MD 5 ∈ XT := xt_t (i := 580) (by decide +kernel) (by decide)
theorem lay_MD_6 : u_lay R_MD T_MD 6 ∈ XT := xt_t (i := 582) (by decide +kernel) (by decide)
theorem lay_MD_7 : u_lay R_MD T_MD 7 ∈ XT := xt_t (i := 584) (by decide +kernel) (by decide)
theorem lay_MD_8 : u_lay R_MD T_MD 8 ∈ XT := xt_t (i := 586) (by decide +kernel) (by decide)
theorem lay_MD_9 : u_lay R_MD T_MD 9 ∈ XT := xt_t (i := 588) (by decide +kernel) (by decide)
theorem lay_MD_10 : u_lay R_MD T_MD 10 ∈ XT := xt_t (i := 590) (by decide +kernel) (by decide)
theorem lay_MD_11 : u_lay R_MD T_MD 11 ∈ XT := xt_t (i := 592) (by decide +kernel) (by decide)
theorem lay_MD_12 : u_lay R_MD T_MD 12 ∈ XT := xt_t (i := 594) (by decide +kernel) (by decide)
theorem lay_MD_13 : u_lay R_MD T_MD 13 ∈ XT := xt_t (i := 596) (by decide +kernel) (by decide)
theorem lay_MD_14 : u_lay R_MD T_MD 14 ∈ XT := xt_t (i := 598) (by decide +kernel) (by decide)
theorem lay_MD_15 : u_lay R_MD T_MD 15 ∈ XT := xt_t (i := 600) (by decide +kernel) (by decide)
theorem lay_MD_16 : u_lay R_MD T_MD 16 ∈ XT := xt_t (i := 602) (by decide +kernel) (by decide)
theorem lay_MD_17 : u_lay R_MD T_MD 17 ∈ XT := xt_t (i := 604) (by decide +kernel) (by decide)
theorem lay_MD_18 : u_lay R_MD T_MD 18 ∈ XT := xt_t (i := 606) (by decide +kernel) (by decide)
theorem lay_MD_19 : u_lay R_MD T_MD 19 ∈ XT := xt_t (i := 608) (by decide +kernel) (by decide)
theorem lay_MD_20 : u_lay R_MD T_MD 20 ∈ XT := xt_t (i := 610) (by decide +kernel) (by decide)
theorem lay_MD_21 : u_lay R_MD T_MD 21 ∈ XT := xt_t (i := 612) (by decide +kernel) (by decide)
theorem lay_MD_22 : u_lay R_MD T_MD 22 ∈ XT := xt_t (i := 614) (by decide +kernel) (by decide)
theorem lay_MD_23 : u_lay R_MD T_MD 23 ∈ XT := xt_t (i := 616) (by decide +kernel) (by decide)
theorem lay_MD_24 : u_lay R_MD T_MD 24 ∈ XT := xt_t (i := 618) (by decide +kernel) (by decide)
theorem lay_MD_25 : u_lay R_MD T_MD 25 ∈ XT := xt_t (i := 620) (by decide +kernel) (by decide)
theorem lay_MD_26 : u_lay R_MD T_MD 26 ∈ XT := xt_t (i := 622) (by decide +kernel) (by decide)
theorem lay_MD_27 : u_lay R_MD T_MD 27 ∈ XT := xt_t (i := 624) (by decide +kernel) (by decide)
theorem lay_MD_28 : u_lay R_MD T_MD 28 ∈ XT := xt_t (i := 626) (by decide +kernel) (by decide)
theorem in_MD (c0 : Cond) : ∀ w ∈ u_ws R_MD T_MD 29, w ∈ c0 :: XT := by
  intro w hw
  obtain ⟨k, hk, rfl⟩ := List.mem_map.mp hw
  have hk := List.mem_range.mp hk
  refine List.mem_cons_of_mem _ ?_
  match k, hk with
  | 0, _ => exact lay_MD_0
  | 1, _ => exact lay_MD_1
  | 2, _ => exact lay_MD_2
  | 3, _ => exact lay_MD_3
  | 4, _ => exact lay_MD_4
  | 5, _ => exact lay_MD_5
  | 6, _ => exact lay_MD_6
  | 7, _ => exact lay_MD_7
  | 8, _ => exact lay_MD_8
  | 9, _ => exact lay_MD_9
  | 10, _ => exact lay_MD_10
  | 11, _ => exact lay_MD_11
  | 12, _ => exact lay_MD_12
  | 13, _ => exact lay_MD_13
  | 14, _ => exact lay_MD_14
  | 15, _ => exact lay_MD_15
  | 16, _ => exact lay_MD_16
  | 17, _ => exact lay_MD_17
  | 18, _ => exact lay_MD_18
  | 19, _ => exact lay_MD_19
  | 20, _ => exact lay_MD_20
  | 21, _ => exact lay_MD_21
  | 22, _ => exact lay_MD_22
  | 23, _ => exact lay_MD_23
  | 24, _ => exact lay_MD_24
  | 25, _ => exact lay_MD_25
  | 26, _ => exact lay_MD_26
  | 27, _ => exact lay_MD_27
  | 28, _ => exact lay_MD_28
  | k + 29, h => exact absurd h (by omega)
theorem inL_MD : ∀ w ∈ u_ws R_MD T_MD 29, w ∈ lw_tbl := fun w h => by
  rcases List.mem_cons.mp (in_MD Cond.tt w h) with e | e
  · subst e; exact absurd h (by decide +kernel)
  · exact (List.mem_filter.mp e).1
theorem lay_AL_0 : u_lay R_AL T_AL 0 ∈ XT := xt_t (i := 43) (by decide +kernel) (by decide)
theorem lay_AL_1 : u_lay R_AL T_AL 1 ∈ XT := xt_t (i := 45) (by decide +kernel) (by decide)
theorem lay_AL_2 : u_lay R_AL T_AL 2 ∈ XT := xt_t (i := 47) (by decide +kernel) (by decide)
theorem in_AL (c0 : Cond) : ∀ w ∈ u_ws R_AL T_AL 3, w ∈ c0 :: XT := by
  intro w hw
  obtain ⟨k, hk, rfl⟩ := List.mem_map.mp hw
  have hk := List.mem_range.mp hk
  refine List.mem_cons_of_mem _ ?_
  match k, hk with
  | 0, _ => exact lay_AL_0
  | 1, _ => exact lay_AL_1
  | 2, _ => exact lay_AL_2
  | k + 3, h => exact absurd h (by omega)
theorem inL_AL : ∀ w ∈ u_ws R_AL T_AL 3, w ∈ lw_tbl := fun w h => by
  rcases List.mem_cons.mp (in_AL Cond.tt w h) with e | e
  · subst e; exact absurd h (by decide +kernel)
  · exact (List.mem_filter.mp e).1
abbrev c_KF_init : ByteArray := prog_1_method_1_code
abbrev y_KF_init : MethodName := { cls := "KeyedFiles", name := "<init>", desc := "()V" }
abbrev w_KF_init : List Cond := Cond.code y_KF_init c_KF_init 1 (Option.none : Option FieldType) :: XT
abbrev c_AL_init : ByteArray := prog_15_method_2_code
abbrev y_AL_init : MethodName := { cls := "java/util/ArrayList", name := "<init>", desc := "()V" }
abbrev w_AL_init : List Cond := Cond.code y_AL_init c_AL_init 1 (Option.none : Option FieldType) :: XT
abbrev c_AB_init : ByteArray := prog_14_method_1_code
abbrev y_AB_init : MethodName := { cls := "java/util/AbstractList", name := "<init>", desc := "()V" }
abbrev w_AB_init : List Cond := Cond.code y_AB_init c_AB_init 1 (Option.none : Option FieldType) :: XT
abbrev c_AC_init : ByteArray := prog_13_method_1_code
abbrev y_AC_init : MethodName := { cls := "java/util/AbstractCollection", name := "<init>", desc := "()V" }
abbrev w_AC_init : List Cond := Cond.code y_AC_init c_AC_init 1 (Option.none : Option FieldType) :: XT
abbrev c_KF_key : ByteArray := prog_1_method_2_code
abbrev y_KF_key : MethodName := { cls := "KeyedFiles", name := "key", desc := "(ZZII)I" }
abbrev w_KF_key : List Cond := Cond.code y_KF_key c_KF_key 6 (Option.some FieldType.int) :: XT
abbrev c_AL_size : ByteArray := prog_15_method_8_code
abbrev y_AL_size : MethodName := { cls := "java/util/ArrayList", name := "size", desc := "()I" }
abbrev w_AL_size : List Cond := Cond.code y_AL_size c_AL_size 1 (Option.some FieldType.int) :: XT
abbrev c_KI_init : ByteArray := prog_3_method_1_code
abbrev y_KI_init : MethodName := { cls := "KeyedFiles$KeyIndex", name := "<init>", desc := "(ZII)V" }
abbrev w_KI_init : List Cond := Cond.code y_KI_init c_KI_init 4 (Option.none : Option FieldType) :: XT
abbrev c_AL_add1 : ByteArray := prog_15_method_25_code
abbrev y_AL_add1 : MethodName := { cls := "java/util/ArrayList", name := "add", desc := "(Ljava/lang/Object;)Z" }
abbrev w_AL_add1 : List Cond := Cond.code y_AL_add1 c_AL_add1 2 (Option.some FieldType.boolean) :: XT
abbrev c_AL_addA : ByteArray := prog_15_method_24_code
abbrev y_AL_addA : MethodName := { cls := "java/util/ArrayList", name := "add", desc := "(Ljava/lang/Object;[Ljava/lang/Object;I)V" }
abbrev w_AL_addA : List Cond := Cond.code y_AL_addA c_AL_addA 4 (Option.none : Option FieldType) :: XT
abbrev c_AL_grow0 : ByteArray := prog_15_method_7_code
abbrev y_AL_grow0 : MethodName := { cls := "java/util/ArrayList", name := "grow", desc := "()[Ljava/lang/Object;" }
abbrev w_AL_grow0 : List Cond := Cond.code y_AL_grow0 c_AL_grow0 1 (Option.some (FieldType.array (FieldType.object "java/lang/Object"))) :: XT
abbrev c_AL_growI : ByteArray := prog_15_method_6_code
abbrev y_AL_growI : MethodName := { cls := "java/util/ArrayList", name := "grow", desc := "(I)[Ljava/lang/Object;" }
abbrev w_AL_growI : List Cond := Cond.code y_AL_growI c_AL_growI 4 (Option.some (FieldType.array (FieldType.object "java/lang/Object"))) :: XT
abbrev c_AS_newLength : ByteArray := prog_22_method_27_code
abbrev y_AS_newLength : MethodName := { cls := "jdk/internal/util/ArraysSupport", name := "newLength", desc := "(III)I" }
abbrev w_AS_newLength : List Cond := Cond.code y_AS_newLength c_AS_newLength 4 (Option.some FieldType.int) :: XT
abbrev c_MA_max : ByteArray := prog_11_method_65_code
abbrev y_MA_max : MethodName := { cls := "java/lang/Math", name := "max", desc := "(II)I" }
abbrev w_MA_max : List Cond := Cond.code y_MA_max c_MA_max 2 (Option.some FieldType.int) :: XT
abbrev c_AS_hugeLength : ByteArray := prog_22_method_28_code
abbrev y_AS_hugeLength : MethodName := { cls := "jdk/internal/util/ArraysSupport", name := "hugeLength", desc := "(II)I" }
abbrev w_AS_hugeLength : List Cond := Cond.code y_AS_hugeLength c_AS_hugeLength 3 (Option.some FieldType.int) :: XT
abbrev c_AR_copyOf2 : ByteArray := prog_16_method_119_code
abbrev y_AR_copyOf2 : MethodName := { cls := "java/util/Arrays", name := "copyOf", desc := "([Ljava/lang/Object;I)[Ljava/lang/Object;" }
abbrev w_AR_copyOf2 : List Cond := Cond.code y_AR_copyOf2 c_AR_copyOf2 2 (Option.some (FieldType.array (FieldType.object "java/lang/Object"))) :: XT
abbrev c_AR_copyOf3 : ByteArray := prog_16_method_120_code
abbrev y_AR_copyOf3 : MethodName := { cls := "java/util/Arrays", name := "copyOf", desc := "([Ljava/lang/Object;ILjava/lang/Class;)[Ljava/lang/Object;" }
abbrev w_AR_copyOf3 : List Cond := Cond.code y_AR_copyOf3 c_AR_copyOf3 4 (Option.some (FieldType.array (FieldType.object "java/lang/Object"))) :: XT
abbrev c_MA_min : ByteArray := prog_11_method_69_code
abbrev y_MA_min : MethodName := { cls := "java/lang/Math", name := "min", desc := "(II)I" }
abbrev w_MA_min : List Cond := Cond.code y_MA_min c_MA_min 2 (Option.some FieldType.int) :: XT
abbrev c_KF_sparse : ByteArray := prog_1_method_3_code
abbrev y_KF_sparse : MethodName := { cls := "KeyedFiles", name := "sparse", desc := "(IJ)I" }
abbrev w_KF_sparse : List Cond := Cond.code y_KF_sparse c_KF_sparse 5 (Option.some FieldType.int) :: XT
abbrev c_KF_indexAt : ByteArray := prog_1_method_18_code
abbrev y_KF_indexAt : MethodName := { cls := "KeyedFiles", name := "indexAt", desc := "(I)LKeyedFiles$KeyIndex;" }
abbrev w_KF_indexAt : List Cond := Cond.code y_KF_indexAt c_KF_indexAt 2 (Option.some (FieldType.object "KeyedFiles$KeyIndex")) :: XT
abbrev c_AL_get : ByteArray := prog_15_method_20_code
abbrev y_AL_get : MethodName := { cls := "java/util/ArrayList", name := "get", desc := "(I)Ljava/lang/Object;" }
abbrev w_AL_get : List Cond := Cond.code y_AL_get c_AL_get 2 (Option.some (FieldType.object "java/lang/Object")) :: XT
abbrev c_OJ_checkIndex : ByteArray := prog_19_method_17_code
abbrev y_OJ_checkIndex : MethodName := { cls := "java/util/Objects", name := "checkIndex", desc := "(II)I" }
abbrev w_OJ_checkIndex : List Cond := Cond.code y_OJ_checkIndex c_OJ_checkIndex 2 (Option.some FieldType.int) :: XT
abbrev c_PC_checkIndex : ByteArray := prog_23_method_11_code
abbrev y_PC_checkIndex : MethodName := { cls := "jdk/internal/util/Preconditions", name := "checkIndex", desc := "(IILjava/util/function/BiFunction;)I" }
abbrev w_PC_checkIndex : List Cond := Cond.code y_PC_checkIndex c_PC_checkIndex 3 (Option.some FieldType.int) :: XT
abbrev c_AL_elementData : ByteArray := prog_15_method_18_code
abbrev y_AL_elementData : MethodName := { cls := "java/util/ArrayList", name := "elementData", desc := "(I)Ljava/lang/Object;" }
abbrev w_AL_elementData : List Cond := Cond.code y_AL_elementData c_AL_elementData 2 (Option.some (FieldType.object "java/lang/Object")) :: XT
abbrev c_KI_leaveOut : ByteArray := prog_3_method_2_code
abbrev y_KI_leaveOut : MethodName := { cls := "KeyedFiles$KeyIndex", name := "leaveOut", desc := "(J)V" }
abbrev w_KI_leaveOut : List Cond := Cond.code y_KI_leaveOut c_KI_leaveOut 3 (Option.none : Option FieldType) :: XT
abbrev c_KF_view : ByteArray := prog_1_method_4_code
abbrev y_KF_view : MethodName := { cls := "KeyedFiles", name := "view", desc := "()I" }
abbrev w_KF_view : List Cond := Cond.code y_KF_view c_KF_view 2 (Option.some FieldType.int) :: XT
abbrev c_AL_isEmpty : ByteArray := prog_15_method_9_code
abbrev y_AL_isEmpty : MethodName := { cls := "java/util/ArrayList", name := "isEmpty", desc := "()Z" }
abbrev w_AL_isEmpty : List Cond := Cond.code y_AL_isEmpty c_AL_isEmpty 1 (Option.some FieldType.boolean) :: XT
abbrev c_VW_init : ByteArray := prog_5_method_1_code
abbrev y_VW_init : MethodName := { cls := "KeyedFiles$View", name := "<init>", desc := "()V" }
abbrev w_VW_init : List Cond := Cond.code y_VW_init c_VW_init 1 (Option.none : Option FieldType) :: XT
abbrev c_KF_open : ByteArray := prog_1_method_5_code
abbrev y_KF_open : MethodName := { cls := "KeyedFiles", name := "open", desc := "(III)I" }
abbrev w_KF_open : List Cond := Cond.code y_KF_open c_KF_open 5 (Option.some FieldType.int) :: XT
abbrev c_KF_viewAt : ByteArray := prog_1_method_19_code
abbrev y_KF_viewAt : MethodName := { cls := "KeyedFiles", name := "viewAt", desc := "(I)LKeyedFiles$View;" }
abbrev w_KF_viewAt : List Cond := Cond.code y_KF_viewAt c_KF_viewAt 2 (Option.some (FieldType.object "KeyedFiles$View")) :: XT
abbrev c_KF_dropAllRecords : ByteArray := prog_1_method_28_code
abbrev y_KF_dropAllRecords : MethodName := { cls := "KeyedFiles", name := "dropAllRecords", desc := "()V" }
abbrev w_KF_dropAllRecords : List Cond := Cond.code y_KF_dropAllRecords c_KF_dropAllRecords 2 (Option.none : Option FieldType) :: XT
abbrev c_AL_clear : ByteArray := prog_15_method_40_code
abbrev y_AL_clear : MethodName := { cls := "java/util/ArrayList", name := "clear", desc := "()V" }
abbrev w_AL_clear : List Cond := Cond.code y_AL_clear c_AL_clear 4 (Option.none : Option FieldType) :: XT
abbrev c_VW_forgetRead : ByteArray := prog_5_method_3_code
abbrev y_VW_forgetRead : MethodName := { cls := "KeyedFiles$View", name := "forgetRead", desc := "()V" }
abbrev w_VW_forgetRead : List Cond := Cond.code y_VW_forgetRead c_VW_forgetRead 1 (Option.none : Option FieldType) :: XT
abbrev c_VW_lose : ByteArray := prog_5_method_4_code
abbrev y_VW_lose : MethodName := { cls := "KeyedFiles$View", name := "lose", desc := "()V" }
abbrev w_VW_lose : List Cond := Cond.code y_VW_lose c_VW_lose 1 (Option.none : Option FieldType) :: XT
abbrev c_VW_begin : ByteArray := prog_5_method_2_code
abbrev y_VW_begin : MethodName := { cls := "KeyedFiles$View", name := "begin", desc := "(II)V" }
abbrev w_VW_begin : List Cond := Cond.code y_VW_begin c_VW_begin 3 (Option.none : Option FieldType) :: XT
abbrev c_KF_close : ByteArray := prog_1_method_6_code
abbrev y_KF_close : MethodName := { cls := "KeyedFiles", name := "close", desc := "(I)I" }
abbrev w_KF_close : List Cond := Cond.code y_KF_close c_KF_close 3 (Option.some FieldType.int) :: XT
abbrev c_KF_write : ByteArray := prog_1_method_7_code
abbrev y_KF_write : MethodName := { cls := "KeyedFiles", name := "write", desc := "(IJ)I" }
abbrev w_KF_write : List Cond := Cond.code y_KF_write c_KF_write 6 (Option.some FieldType.int) :: XT
abbrev c_VW_refusalToWrite : ByteArray := prog_5_method_9_code
abbrev y_VW_refusalToWrite : MethodName := { cls := "KeyedFiles$View", name := "refusalToWrite", desc := "()I" }
abbrev w_VW_refusalToWrite : List Cond := Cond.code y_VW_refusalToWrite c_VW_refusalToWrite 1 (Option.some FieldType.int) :: XT
abbrev c_KF_isOutOfOrder : ByteArray := prog_1_method_22_code
abbrev y_KF_isOutOfOrder : MethodName := { cls := "KeyedFiles", name := "isOutOfOrder", desc := "(LKeyedFiles$View;J)Z" }
abbrev w_KF_isOutOfOrder : List Cond := Cond.code y_KF_isOutOfOrder c_KF_isOutOfOrder 8 (Option.some FieldType.boolean) :: XT
abbrev c_KF_fieldOf : ByteArray := prog_1_method_21_code
abbrev y_KF_fieldOf : MethodName := { cls := "KeyedFiles", name := "fieldOf", desc := "(IJ)J" }
abbrev w_KF_fieldOf : List Cond := Cond.code y_KF_fieldOf c_KF_fieldOf 5 (Option.some FieldType.long) :: XT
abbrev c_KI_fieldIn : ByteArray := prog_3_method_4_code
abbrev y_KI_fieldIn : MethodName := { cls := "KeyedFiles$KeyIndex", name := "fieldIn", desc := "(J)J" }
abbrev w_KI_fieldIn : List Cond := Cond.code y_KI_fieldIn c_KI_fieldIn 3 (Option.some FieldType.long) :: XT
abbrev c_KF_isBelow : ByteArray := prog_1_method_32_code
abbrev y_KF_isBelow : MethodName := { cls := "KeyedFiles", name := "isBelow", desc := "(JJ)Z" }
abbrev w_KF_isBelow : List Cond := Cond.code y_KF_isBelow c_KF_isBelow 4 (Option.some FieldType.boolean) :: XT
abbrev c_KI_entryAt : ByteArray := prog_3_method_5_code
abbrev y_KI_entryAt : MethodName := { cls := "KeyedFiles$KeyIndex", name := "entryAt", desc := "(I)LKeyedFiles$Entry;" }
abbrev w_KI_entryAt : List Cond := Cond.code y_KI_entryAt c_KI_entryAt 2 (Option.some (FieldType.object "KeyedFiles$Entry")) :: XT
abbrev c_KF_hasBarredDouble : ByteArray := prog_1_method_23_code
abbrev y_KF_hasBarredDouble : MethodName := { cls := "KeyedFiles", name := "hasBarredDouble", desc := "(JLKeyedFiles$Stored;)Z" }
abbrev w_KF_hasBarredDouble : List Cond := Cond.code y_KF_hasBarredDouble c_KF_hasBarredDouble 7 (Option.some FieldType.boolean) :: XT
abbrev c_KI_firstEqual : ByteArray := prog_3_method_7_code
abbrev y_KI_firstEqual : MethodName := { cls := "KeyedFiles$KeyIndex", name := "firstEqual", desc := "(J)LKeyedFiles$Entry;" }
abbrev w_KI_firstEqual : List Cond := Cond.code y_KI_firstEqual c_KI_firstEqual 4 (Option.some (FieldType.object "KeyedFiles$Entry")) :: XT
abbrev c_KI_countAheadOf : ByteArray := prog_3_method_6_code
abbrev y_KI_countAheadOf : MethodName := { cls := "KeyedFiles$KeyIndex", name := "countAheadOf", desc := "(JJ)I" }
abbrev w_KI_countAheadOf : List Cond := Cond.code y_KI_countAheadOf c_KI_countAheadOf 8 (Option.some FieldType.int) :: XT
abbrev c_EN_standsAheadOf : ByteArray := prog_2_method_2_code
abbrev y_EN_standsAheadOf : MethodName := { cls := "KeyedFiles$Entry", name := "standsAheadOf", desc := "(JJ)Z" }
abbrev w_EN_standsAheadOf : List Cond := Cond.code y_EN_standsAheadOf c_EN_standsAheadOf 5 (Option.some FieldType.boolean) :: XT
abbrev c_KF_entryCount : ByteArray := prog_1_method_20_code
abbrev y_KF_entryCount : MethodName := { cls := "KeyedFiles", name := "entryCount", desc := "(I)I" }
abbrev w_KF_entryCount : List Cond := Cond.code y_KF_entryCount c_KF_entryCount 3 (Option.some FieldType.int) :: XT
abbrev c_VW_noteWritten : ByteArray := prog_5_method_7_code
abbrev y_VW_noteWritten : MethodName := { cls := "KeyedFiles$View", name := "noteWritten", desc := "(J)V" }
abbrev w_VW_noteWritten : List Cond := Cond.code y_VW_noteWritten c_VW_noteWritten 3 (Option.none : Option FieldType) :: XT
abbrev c_ST_init : ByteArray := prog_4_method_1_code
abbrev y_ST_init : MethodName := { cls := "KeyedFiles$Stored", name := "<init>", desc := "(J)V" }
abbrev w_ST_init : List Cond := Cond.code y_ST_init c_ST_init 3 (Option.none : Option FieldType) :: XT
abbrev c_KF_enterUnderAllKeys : ByteArray := prog_1_method_24_code
abbrev y_KF_enterUnderAllKeys : MethodName := { cls := "KeyedFiles", name := "enterUnderAllKeys", desc := "(LKeyedFiles$Stored;)Z" }
abbrev w_KF_enterUnderAllKeys : List Cond := Cond.code y_KF_enterUnderAllKeys c_KF_enterUnderAllKeys 4 (Option.some FieldType.boolean) :: XT
abbrev c_KF_enterUnder : ByteArray := prog_1_method_25_code
abbrev y_KF_enterUnder : MethodName := { cls := "KeyedFiles", name := "enterUnder", desc := "(LKeyedFiles$KeyIndex;LKeyedFiles$Stored;)Z" }
abbrev w_KF_enterUnder : List Cond := Cond.code y_KF_enterUnder c_KF_enterUnder 3 (Option.some FieldType.boolean) :: XT
abbrev c_KI_enter : ByteArray := prog_3_method_8_code
abbrev y_KI_enter : MethodName := { cls := "KeyedFiles$KeyIndex", name := "enter", desc := "(LKeyedFiles$Stored;J)Z" }
abbrev w_KI_enter : List Cond := Cond.code y_KI_enter c_KI_enter 8 (Option.some FieldType.boolean) :: XT
abbrev c_KI_leavesOut : ByteArray := prog_3_method_3_code
abbrev y_KI_leavesOut : MethodName := { cls := "KeyedFiles$KeyIndex", name := "leavesOut", desc := "(J)Z" }
abbrev w_KI_leavesOut : List Cond := Cond.code y_KI_leavesOut c_KI_leavesOut 3 (Option.some FieldType.boolean) :: XT
abbrev c_EN_init : ByteArray := prog_2_method_1_code
abbrev y_EN_init : MethodName := { cls := "KeyedFiles$Entry", name := "<init>", desc := "(JJLKeyedFiles$Stored;)V" }
abbrev w_EN_init : List Cond := Cond.code y_EN_init c_EN_init 6 (Option.none : Option FieldType) :: XT
abbrev c_AL_addI : ByteArray := prog_15_method_26_code
abbrev y_AL_addI : MethodName := { cls := "java/util/ArrayList", name := "add", desc := "(ILjava/lang/Object;)V" }
abbrev w_AL_addI : List Cond := Cond.code y_AL_addI c_AL_addI 5 (Option.none : Option FieldType) :: XT
abbrev c_AL_rangeCheckForAdd : ByteArray := prog_15_method_45_code
abbrev y_AL_rangeCheckForAdd : MethodName := { cls := "java/util/ArrayList", name := "rangeCheckForAdd", desc := "(I)V" }
abbrev w_AL_rangeCheckForAdd : List Cond := Cond.code y_AL_rangeCheckForAdd c_AL_rangeCheckForAdd 2 (Option.none : Option FieldType) :: XT
abbrev c_KF_read : ByteArray := prog_1_method_8_code
abbrev y_KF_read : MethodName := { cls := "KeyedFiles", name := "read", desc := "(IIJ)I" }
abbrev w_KF_read : List Cond := Cond.code y_KF_read c_KF_read 9 (Option.some FieldType.int) :: XT
abbrev c_VW_refusalToRead : ByteArray := prog_5_method_8_code
abbrev y_VW_refusalToRead : MethodName := { cls := "KeyedFiles$View", name := "refusalToRead", desc := "(I)I" }
abbrev w_VW_refusalToRead : List Cond := Cond.code y_VW_refusalToRead c_VW_refusalToRead 3 (Option.some FieldType.int) :: XT
abbrev c_KF_handOver : ByteArray := prog_1_method_30_code
abbrev y_KF_handOver : MethodName := { cls := "KeyedFiles", name := "handOver", desc := "(LKeyedFiles$View;LKeyedFiles$KeyIndex;LKeyedFiles$Entry;Z)I" }
abbrev w_KF_handOver : List Cond := Cond.code y_KF_handOver c_KF_handOver 4 (Option.some FieldType.int) :: XT
abbrev c_VW_noteRead : ByteArray := prog_5_method_6_code
abbrev y_VW_noteRead : MethodName := { cls := "KeyedFiles$View", name := "noteRead", desc := "(LKeyedFiles$Entry;)V" }
abbrev w_VW_noteRead : List Cond := Cond.code y_VW_noteRead c_VW_noteRead 2 (Option.none : Option FieldType) :: XT
abbrev c_VW_standAt : ByteArray := prog_5_method_5_code
abbrev y_VW_standAt : MethodName := { cls := "KeyedFiles$View", name := "standAt", desc := "(LKeyedFiles$Entry;)V" }
abbrev w_VW_standAt : List Cond := Cond.code y_VW_standAt c_VW_standAt 2 (Option.none : Option FieldType) :: XT
abbrev c_KI_hasEqualNextTo : ByteArray := prog_3_method_10_code
abbrev y_KI_hasEqualNextTo : MethodName := { cls := "KeyedFiles$KeyIndex", name := "hasEqualNextTo", desc := "(LKeyedFiles$Entry;Z)Z" }
abbrev w_KI_hasEqualNextTo : List Cond := Cond.code y_KI_hasEqualNextTo c_KI_hasEqualNextTo 5 (Option.some FieldType.boolean) :: XT
abbrev c_KF_value : ByteArray := prog_1_method_9_code
abbrev y_KF_value : MethodName := { cls := "KeyedFiles", name := "value", desc := "(I)J" }
abbrev w_KF_value : List Cond := Cond.code y_KF_value c_KF_value 3 (Option.some FieldType.long) :: XT
abbrev c_KF_start : ByteArray := prog_1_method_10_code
abbrev y_KF_start : MethodName := { cls := "KeyedFiles", name := "start", desc := "(IIIJI)I" }
abbrev w_KF_start : List Cond := Cond.code y_KF_start c_KF_start 11 (Option.some FieldType.int) :: XT
abbrev c_KI_findByPart : ByteArray := prog_3_method_13_code
abbrev y_KI_findByPart : MethodName := { cls := "KeyedFiles$KeyIndex", name := "findByPart", desc := "(IJI)LKeyedFiles$Entry;" }
abbrev w_KI_findByPart : List Cond := Cond.code y_KI_findByPart c_KI_findByPart 8 (Option.some (FieldType.object "KeyedFiles$Entry")) :: XT
abbrev c_KI_countByPart : ByteArray := prog_3_method_14_code
abbrev y_KI_countByPart : MethodName := { cls := "KeyedFiles$KeyIndex", name := "countByPart", desc := "(JIZ)I" }
abbrev w_KI_countByPart : List Cond := Cond.code y_KI_countByPart c_KI_countByPart 10 (Option.some FieldType.int) :: XT
abbrev c_KI_partOf : ByteArray := prog_3_method_15_code
abbrev y_KI_partOf : MethodName := { cls := "KeyedFiles$KeyIndex", name := "partOf", desc := "(LKeyedFiles$Entry;I)J" }
abbrev w_KI_partOf : List Cond := Cond.code y_KI_partOf c_KI_partOf 3 (Option.some FieldType.long) :: XT
abbrev c_KF_next : ByteArray := prog_1_method_11_code
abbrev y_KF_next : MethodName := { cls := "KeyedFiles", name := "next", desc := "(IZ)I" }
abbrev w_KF_next : List Cond := Cond.code y_KF_next c_KF_next 7 (Option.some FieldType.int) :: XT
abbrev c_KI_entryAheadOf : ByteArray := prog_3_method_12_code
abbrev y_KI_entryAheadOf : MethodName := { cls := "KeyedFiles$KeyIndex", name := "entryAheadOf", desc := "(LKeyedFiles$View;)LKeyedFiles$Entry;" }
abbrev w_KI_entryAheadOf : List Cond := Cond.code y_KI_entryAheadOf c_KI_entryAheadOf 4 (Option.some (FieldType.object "KeyedFiles$Entry")) :: XT
abbrev c_KI_entryBehind : ByteArray := prog_3_method_11_code
abbrev y_KI_entryBehind : MethodName := { cls := "KeyedFiles$KeyIndex", name := "entryBehind", desc := "(LKeyedFiles$View;)LKeyedFiles$Entry;" }
abbrev w_KI_entryBehind : List Cond := Cond.code y_KI_entryBehind c_KI_entryBehind 4 (Option.some (FieldType.object "KeyedFiles$Entry")) :: XT
abbrev c_KF_rewrite : ByteArray := prog_1_method_12_code
abbrev y_KF_rewrite : MethodName := { cls := "KeyedFiles", name := "rewrite", desc := "(IJ)I" }
abbrev w_KF_rewrite : List Cond := Cond.code y_KF_rewrite c_KF_rewrite 7 (Option.some FieldType.int) :: XT
abbrev c_VW_refusalToChange : ByteArray := prog_5_method_10_code
abbrev y_VW_refusalToChange : MethodName := { cls := "KeyedFiles$View", name := "refusalToChange", desc := "()I" }
abbrev w_VW_refusalToChange : List Cond := Cond.code y_VW_refusalToChange c_VW_refusalToChange 1 (Option.some FieldType.int) :: XT
abbrev c_KF_recordToChange : ByteArray := prog_1_method_29_code
abbrev y_KF_recordToChange : MethodName := { cls := "KeyedFiles", name := "recordToChange", desc := "(LKeyedFiles$View;J)LKeyedFiles$Stored;" }
abbrev w_KF_recordToChange : List Cond := Cond.code y_KF_recordToChange c_KF_recordToChange 6 (Option.some (FieldType.object "KeyedFiles$Stored")) :: XT
abbrev c_VW_statusOfNoRecord : ByteArray := prog_5_method_11_code
abbrev y_VW_statusOfNoRecord : MethodName := { cls := "KeyedFiles$View", name := "statusOfNoRecord", desc := "()I" }
abbrev w_VW_statusOfNoRecord : List Cond := Cond.code y_VW_statusOfNoRecord c_VW_statusOfNoRecord 1 (Option.some FieldType.int) :: XT
abbrev c_KF_moveChangedEntries : ByteArray := prog_1_method_26_code
abbrev y_KF_moveChangedEntries : MethodName := { cls := "KeyedFiles", name := "moveChangedEntries", desc := "(LKeyedFiles$Stored;J)Z" }
abbrev w_KF_moveChangedEntries : List Cond := Cond.code y_KF_moveChangedEntries c_KF_moveChangedEntries 9 (Option.some FieldType.boolean) :: XT
abbrev c_KI_drop : ByteArray := prog_3_method_9_code
abbrev y_KI_drop : MethodName := { cls := "KeyedFiles$KeyIndex", name := "drop", desc := "(LKeyedFiles$Stored;J)V" }
abbrev w_KI_drop : List Cond := Cond.code y_KI_drop c_KI_drop 5 (Option.none : Option FieldType) :: XT
abbrev c_AL_remove : ByteArray := prog_15_method_29_code
abbrev y_AL_remove : MethodName := { cls := "java/util/ArrayList", name := "remove", desc := "(I)Ljava/lang/Object;" }
abbrev w_AL_remove : List Cond := Cond.code y_AL_remove c_AL_remove 4 (Option.some (FieldType.object "java/lang/Object")) :: XT
abbrev c_AL_fastRemove : ByteArray := prog_15_method_39_code
abbrev y_AL_fastRemove : MethodName := { cls := "java/util/ArrayList", name := "fastRemove", desc := "([Ljava/lang/Object;I)V" }
abbrev w_AL_fastRemove : List Cond := Cond.code y_AL_fastRemove c_AL_fastRemove 4 (Option.none : Option FieldType) :: XT
abbrev c_KF_remove : ByteArray := prog_1_method_13_code
abbrev y_KF_remove : MethodName := { cls := "KeyedFiles", name := "remove", desc := "(IJ)I" }
abbrev w_KF_remove : List Cond := Cond.code y_KF_remove c_KF_remove 7 (Option.some FieldType.int) :: XT
abbrev c_KF_dropRecord : ByteArray := prog_1_method_27_code
abbrev y_KF_dropRecord : MethodName := { cls := "KeyedFiles", name := "dropRecord", desc := "(LKeyedFiles$Stored;)V" }
abbrev w_KF_dropRecord : List Cond := Cond.code y_KF_dropRecord c_KF_dropRecord 4 (Option.none : Option FieldType) :: XT
abbrev c_KF_scan : ByteArray := prog_1_method_14_code
abbrev y_KF_scan : MethodName := { cls := "KeyedFiles", name := "scan", desc := "(II)J" }
abbrev w_KF_scan : List Cond := Cond.code y_KF_scan c_KF_scan 5 (Option.some FieldType.long) :: XT
abbrev c_KF_reference : ByteArray := prog_1_method_15_code
abbrev y_KF_reference : MethodName := { cls := "KeyedFiles", name := "reference", desc := "(I)I" }
abbrev w_KF_reference : List Cond := Cond.code y_KF_reference c_KF_reference 3 (Option.some FieldType.int) :: XT
abbrev c_KF_count : ByteArray := prog_1_method_16_code
abbrev y_KF_count : MethodName := { cls := "KeyedFiles", name := "count", desc := "(I)I" }
abbrev w_KF_count : List Cond := Cond.code y_KF_count c_KF_count 2 (Option.some FieldType.int) :: XT
abbrev c_KF_whole : ByteArray := prog_1_method_17_code
abbrev y_KF_whole : MethodName := { cls := "KeyedFiles", name := "whole", desc := "()Z" }
abbrev w_KF_whole : List Cond := Cond.code y_KF_whole c_KF_whole 3 (Option.some FieldType.boolean) :: XT
abbrev c_KI_isInOrder : ByteArray := prog_3_method_16_code
abbrev y_KI_isInOrder : MethodName := { cls := "KeyedFiles$KeyIndex", name := "isInOrder", desc := "(J)Z" }
abbrev w_KI_isInOrder : List Cond := Cond.code y_KI_isInOrder c_KI_isInOrder 7 (Option.some FieldType.boolean) :: XT
abbrev c_KI_isRightlyAhead : ByteArray := prog_3_method_17_code
abbrev y_KI_isRightlyAhead : MethodName := { cls := "KeyedFiles$KeyIndex", name := "isRightlyAhead", desc := "(LKeyedFiles$Entry;LKeyedFiles$Entry;)Z" }
abbrev w_KI_isRightlyAhead : List Cond := Cond.code y_KI_isRightlyAhead c_KI_isRightlyAhead 3 (Option.some FieldType.boolean) :: XT
abbrev c_KF_entriesDue : ByteArray := prog_1_method_31_code
abbrev y_KF_entriesDue : MethodName := { cls := "KeyedFiles", name := "entriesDue", desc := "(LKeyedFiles$KeyIndex;)I" }
abbrev w_KF_entriesDue : List Cond := Cond.code y_KF_entriesDue c_KF_entriesDue 5 (Option.some FieldType.int) :: XT
abbrev c_MD_init : ByteArray := prog_7_method_1_code
abbrev y_MD_init : MethodName := { cls := "KeyedFilesModel", name := "<init>", desc := "()V" }
abbrev w_MD_init : List Cond := Cond.code y_MD_init c_MD_init 1 (Option.none : Option FieldType) :: XT
abbrev c_MD_key : ByteArray := prog_7_method_7_code
abbrev y_MD_key : MethodName := { cls := "KeyedFilesModel", name := "key", desc := "(ZZII)I" }
abbrev w_MD_key : List Cond := Cond.code y_MD_key c_MD_key 6 (Option.some FieldType.int) :: XT
abbrev c_MD_sparse : ByteArray := prog_7_method_8_code
abbrev y_MD_sparse : MethodName := { cls := "KeyedFilesModel", name := "sparse", desc := "(IJ)I" }
abbrev w_MD_sparse : List Cond := Cond.code y_MD_sparse c_MD_sparse 4 (Option.some FieldType.int) :: XT
abbrev c_MD_isKey : ByteArray := prog_7_method_5_code
abbrev y_MD_isKey : MethodName := { cls := "KeyedFilesModel", name := "isKey", desc := "(I)Z" }
abbrev w_MD_isKey : List Cond := Cond.code y_MD_isKey c_MD_isKey 2 (Option.some FieldType.boolean) :: XT
abbrev c_MD_view : ByteArray := prog_7_method_9_code
abbrev y_MD_view : MethodName := { cls := "KeyedFilesModel", name := "view", desc := "()I" }
abbrev w_MD_view : List Cond := Cond.code y_MD_view c_MD_view 1 (Option.some FieldType.int) :: XT
abbrev c_MD_open : ByteArray := prog_7_method_10_code
abbrev y_MD_open : MethodName := { cls := "KeyedFilesModel", name := "open", desc := "(III)I" }
abbrev w_MD_open : List Cond := Cond.code y_MD_open c_MD_open 5 (Option.some FieldType.int) :: XT
abbrev c_MD_isView : ByteArray := prog_7_method_6_code
abbrev y_MD_isView : MethodName := { cls := "KeyedFilesModel", name := "isView", desc := "(I)Z" }
abbrev w_MD_isView : List Cond := Cond.code y_MD_isView c_MD_isView 2 (Option.some FieldType.boolean) :: XT
abbrev c_MD_close : ByteArray := prog_7_method_11_code
abbrev y_MD_close : MethodName := { cls := "KeyedFilesModel", name := "close", desc := "(I)I" }
abbrev w_MD_close : List Cond := Cond.code y_MD_close c_MD_close 2 (Option.some FieldType.int) :: XT
abbrev c_MD_write : ByteArray := prog_7_method_27_code
abbrev y_MD_write : MethodName := { cls := "KeyedFilesModel", name := "write", desc := "(IJ)I" }
abbrev w_MD_write : List Cond := Cond.code y_MD_write c_MD_write 8 (Option.some FieldType.int) :: XT
abbrev c_MD_forget : ByteArray := prog_7_method_22_code
abbrev y_MD_forget : MethodName := { cls := "KeyedFilesModel", name := "forget", desc := "(I)V" }
abbrev w_MD_forget : List Cond := Cond.code y_MD_forget c_MD_forget 2 (Option.none : Option FieldType) :: XT
abbrev c_MD_field : ByteArray := prog_7_method_3_code
abbrev y_MD_field : MethodName := { cls := "KeyedFilesModel", name := "field", desc := "(IJ)J" }
abbrev w_MD_field : List Cond := Cond.code y_MD_field c_MD_field 6 (Option.some FieldType.long) :: XT
abbrev c_MD_isLess : ByteArray := prog_7_method_4_code
abbrev y_MD_isLess : MethodName := { cls := "KeyedFilesModel", name := "isLess", desc := "(JJ)Z" }
abbrev w_MD_isLess : List Cond := Cond.code y_MD_isLess c_MD_isLess 4 (Option.some FieldType.boolean) :: XT
abbrev c_MD_barred : ByteArray := prog_7_method_25_code
abbrev y_MD_barred : MethodName := { cls := "KeyedFilesModel", name := "barred", desc := "(JI)I" }
abbrev w_MD_barred : List Cond := Cond.code y_MD_barred c_MD_barred 9 (Option.some FieldType.int) :: XT
abbrev c_MD_isEntry : ByteArray := prog_7_method_14_code
abbrev y_MD_isEntry : MethodName := { cls := "KeyedFilesModel", name := "isEntry", desc := "(II)Z" }
abbrev w_MD_isEntry : List Cond := Cond.code y_MD_isEntry c_MD_isEntry 3 (Option.some FieldType.boolean) :: XT
abbrev c_MD_hasEntry : ByteArray := prog_7_method_12_code
abbrev y_MD_hasEntry : MethodName := { cls := "KeyedFilesModel", name := "hasEntry", desc := "(IJ)Z" }
abbrev w_MD_hasEntry : List Cond := Cond.code y_MD_hasEntry c_MD_hasEntry 4 (Option.some FieldType.boolean) :: XT
abbrev c_MD_equal : ByteArray := prog_7_method_19_code
abbrev y_MD_equal : MethodName := { cls := "KeyedFilesModel", name := "equal", desc := "(IJI)I" }
abbrev w_MD_equal : List Cond := Cond.code y_MD_equal c_MD_equal 6 (Option.some FieldType.int) :: XT
abbrev c_MD_rankAll : ByteArray := prog_7_method_26_code
abbrev y_MD_rankAll : MethodName := { cls := "KeyedFilesModel", name := "rankAll", desc := "(IJZ)V" }
abbrev w_MD_rankAll : List Cond := Cond.code y_MD_rankAll c_MD_rankAll 7 (Option.none : Option FieldType) :: XT
abbrev c_MD_read : ByteArray := prog_7_method_28_code
abbrev y_MD_read : MethodName := { cls := "KeyedFilesModel", name := "read", desc := "(IIJ)I" }
abbrev w_MD_read : List Cond := Cond.code y_MD_read c_MD_read 6 (Option.some FieldType.int) :: XT
abbrev c_MD_reads : ByteArray := prog_7_method_24_code
abbrev y_MD_reads : MethodName := { cls := "KeyedFilesModel", name := "reads", desc := "(I)Z" }
abbrev w_MD_reads : List Cond := Cond.code y_MD_reads c_MD_reads 2 (Option.some FieldType.boolean) :: XT
abbrev c_MD_after : ByteArray := prog_7_method_17_code
abbrev y_MD_after : MethodName := { cls := "KeyedFilesModel", name := "after", desc := "(IJIZ)I" }
abbrev w_MD_after : List Cond := Cond.code y_MD_after c_MD_after 8 (Option.some FieldType.int) :: XT
abbrev c_MD_isAhead : ByteArray := prog_7_method_15_code
abbrev y_MD_isAhead : MethodName := { cls := "KeyedFilesModel", name := "isAhead", desc := "(IIJI)Z" }
abbrev w_MD_isAhead : List Cond := Cond.code y_MD_isAhead c_MD_isAhead 8 (Option.some FieldType.boolean) :: XT
abbrev c_MD_rank : ByteArray := prog_7_method_13_code
abbrev y_MD_rank : MethodName := { cls := "KeyedFilesModel", name := "rank", desc := "(II)I" }
abbrev w_MD_rank : List Cond := Cond.code y_MD_rank c_MD_rank 3 (Option.some FieldType.int) :: XT
abbrev c_MD_isBehind : ByteArray := prog_7_method_16_code
abbrev y_MD_isBehind : MethodName := { cls := "KeyedFilesModel", name := "isBehind", desc := "(IIJI)Z" }
abbrev w_MD_isBehind : List Cond := Cond.code y_MD_isBehind c_MD_isBehind 8 (Option.some FieldType.boolean) :: XT
abbrev c_MD_got : ByteArray := prog_7_method_23_code
abbrev y_MD_got : MethodName := { cls := "KeyedFilesModel", name := "got", desc := "(IIIZ)I" }
abbrev w_MD_got : List Cond := Cond.code y_MD_got c_MD_got 5 (Option.some FieldType.int) :: XT
abbrev c_MD_status : ByteArray := prog_7_method_21_code
abbrev y_MD_status : MethodName := { cls := "KeyedFilesModel", name := "status", desc := "(IIZ)I" }
abbrev w_MD_status : List Cond := Cond.code y_MD_status c_MD_status 7 (Option.some FieldType.int) :: XT
abbrev c_MD_ahead : ByteArray := prog_7_method_18_code
abbrev y_MD_ahead : MethodName := { cls := "KeyedFilesModel", name := "ahead", desc := "(IJIZ)I" }
abbrev w_MD_ahead : List Cond := Cond.code y_MD_ahead c_MD_ahead 8 (Option.some FieldType.int) :: XT
abbrev c_MD_value : ByteArray := prog_7_method_29_code
abbrev y_MD_value : MethodName := { cls := "KeyedFilesModel", name := "value", desc := "(I)J" }
abbrev w_MD_value : List Cond := Cond.code y_MD_value c_MD_value 2 (Option.some FieldType.long) :: XT
abbrev c_MD_start : ByteArray := prog_7_method_31_code
abbrev y_MD_start : MethodName := { cls := "KeyedFilesModel", name := "start", desc := "(IIIJI)I" }
abbrev w_MD_start : List Cond := Cond.code y_MD_start c_MD_start 12 (Option.some FieldType.int) :: XT
abbrev c_MD_holds : ByteArray := prog_7_method_30_code
abbrev y_MD_holds : MethodName := { cls := "KeyedFilesModel", name := "holds", desc := "(IJJ)Z" }
abbrev w_MD_holds : List Cond := Cond.code y_MD_holds c_MD_holds 5 (Option.some FieldType.boolean) :: XT
abbrev c_MD_next : ByteArray := prog_7_method_32_code
abbrev y_MD_next : MethodName := { cls := "KeyedFilesModel", name := "next", desc := "(IZ)I" }
abbrev w_MD_next : List Cond := Cond.code y_MD_next c_MD_next 8 (Option.some FieldType.int) :: XT
abbrev c_MD_rewrite : ByteArray := prog_7_method_34_code
abbrev y_MD_rewrite : MethodName := { cls := "KeyedFilesModel", name := "rewrite", desc := "(IJ)I" }
abbrev w_MD_rewrite : List Cond := Cond.code y_MD_rewrite c_MD_rewrite 6 (Option.some FieldType.int) :: XT
abbrev c_MD_had : ByteArray := prog_7_method_33_code
abbrev y_MD_had : MethodName := { cls := "KeyedFilesModel", name := "had", desc := "()I" }
abbrev w_MD_had : List Cond := Cond.code y_MD_had c_MD_had 2 (Option.some FieldType.int) :: XT
abbrev c_MD_byPrime : ByteArray := prog_7_method_20_code
abbrev y_MD_byPrime : MethodName := { cls := "KeyedFilesModel", name := "byPrime", desc := "(J)I" }
abbrev w_MD_byPrime : List Cond := Cond.code y_MD_byPrime c_MD_byPrime 3 (Option.some FieldType.int) :: XT
abbrev c_MD_remove : ByteArray := prog_7_method_35_code
abbrev y_MD_remove : MethodName := { cls := "KeyedFilesModel", name := "remove", desc := "(IJ)I" }
abbrev w_MD_remove : List Cond := Cond.code y_MD_remove c_MD_remove 5 (Option.some FieldType.int) :: XT
abbrev c_MD_scan : ByteArray := prog_7_method_36_code
abbrev y_MD_scan : MethodName := { cls := "KeyedFilesModel", name := "scan", desc := "(II)J" }
abbrev w_MD_scan : List Cond := Cond.code y_MD_scan c_MD_scan 5 (Option.some FieldType.long) :: XT
abbrev c_MD_reference : ByteArray := prog_7_method_37_code
abbrev y_MD_reference : MethodName := { cls := "KeyedFilesModel", name := "reference", desc := "(I)I" }
abbrev w_MD_reference : List Cond := Cond.code y_MD_reference c_MD_reference 2 (Option.some FieldType.int) :: XT
abbrev c_MD_count : ByteArray := prog_7_method_38_code
abbrev y_MD_count : MethodName := { cls := "KeyedFilesModel", name := "count", desc := "(I)I" }
abbrev w_MD_count : List Cond := Cond.code y_MD_count c_MD_count 4 (Option.some FieldType.int) :: XT
abbrev c_MD_whole : ByteArray := prog_7_method_39_code
abbrev y_MD_whole : MethodName := { cls := "KeyedFilesModel", name := "whole", desc := "()Z" }
abbrev w_MD_whole : List Cond := Cond.code y_MD_whole c_MD_whole 1 (Option.some FieldType.boolean) :: XT
