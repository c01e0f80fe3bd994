section
-- ===== PART A: goes FIRST, ahead of the names: the tables' words, and 'selects' of the private methods out of them =====
/-- a private method of a class that the tables say can be made, by its rows of tables_1 -/
def lw_okq (q : MethodName × Nat) : Prop := (q.1.cls ≠ "java/lang/invoke/MethodHandle" ∧ q.1.cls ≠ "java/lang/invoke/VarHandle") ∧ Cond.instantiable q.1.cls q.2 ∈ tables_1 ∧ Cond.privateMethod q.1 ∈ tables_1 ∧ Cond.instanceMethod q.1 ∈ tables_1
theorem lw_p0 : lw_okq (⟨"java/util/ArrayList", "add", "(Ljava/lang/Object;[Ljava/lang/Object;I)V"⟩, 3) := ⟨⟨by decide +kernel, by decide +kernel⟩, List.mem_of_getElem? (i := 25) (by decide +kernel), List.mem_of_getElem? (i := 109) (by decide +kernel), List.mem_of_getElem? (i := 110) (by decide +kernel)⟩
theorem lw_p1 : lw_okq (⟨"java/util/ArrayList", "grow", "()[Ljava/lang/Object;"⟩, 3) := ⟨⟨by decide +kernel, by decide +kernel⟩, List.mem_of_getElem? (i := 25) (by decide +kernel), List.mem_of_getElem? (i := 113) (by decide +kernel), List.mem_of_getElem? (i := 114) (by decide +kernel)⟩
theorem lw_p2 : lw_okq (⟨"java/util/ArrayList", "grow", "(I)[Ljava/lang/Object;"⟩, 3) := ⟨⟨by decide +kernel, by decide +kernel⟩, List.mem_of_getElem? (i := 25) (by decide +kernel), List.mem_of_getElem? (i := 117) (by decide +kernel), List.mem_of_getElem? (i := 118) (by decide +kernel)⟩
theorem lw_p3 : lw_okq (⟨"KeyedFiles", "indexAt", "(I)LKeyedFiles$KeyIndex;"⟩, 5) := ⟨⟨by decide +kernel, by decide +kernel⟩, List.mem_of_getElem? (i := 17) (by decide +kernel), List.mem_of_getElem? (i := 163) (by decide +kernel), List.mem_of_getElem? (i := 164) (by decide +kernel)⟩
theorem lw_p4 : lw_okq (⟨"KeyedFiles", "viewAt", "(I)LKeyedFiles$View;"⟩, 5) := ⟨⟨by decide +kernel, by decide +kernel⟩, List.mem_of_getElem? (i := 17) (by decide +kernel), List.mem_of_getElem? (i := 253) (by decide +kernel), List.mem_of_getElem? (i := 254) (by decide +kernel)⟩
theorem lw_p5 : lw_okq (⟨"KeyedFiles", "dropAllRecords", "()V"⟩, 5) := ⟨⟨by decide +kernel, by decide +kernel⟩, List.mem_of_getElem? (i := 17) (by decide +kernel), List.mem_of_getElem? (i := 257) (by decide +kernel), List.mem_of_getElem? (i := 258) (by decide +kernel)⟩
theorem lw_p6 : lw_okq (⟨"KeyedFiles", "isOutOfOrder", "(LKeyedFiles$View;J)Z"⟩, 5) := ⟨⟨by decide +kernel, by decide +kernel⟩, List.mem_of_getElem? (i := 17) (by decide +kernel), List.mem_of_getElem? (i := 290) (by decide +kernel), List.mem_of_getElem? (i := 291) (by decide +kernel)⟩
theorem lw_p7 : lw_okq (⟨"KeyedFiles", "fieldOf", "(IJ)J"⟩, 5) := ⟨⟨by decide +kernel, by decide +kernel⟩, List.mem_of_getElem? (i := 17) (by decide +kernel), List.mem_of_getElem? (i := 294) (by decide +kernel), List.mem_of_getElem? (i := 295) (by decide +kernel)⟩
theorem lw_p8 : lw_okq (⟨"KeyedFiles", "hasBarredDouble", "(JLKeyedFiles$Stored;)Z"⟩, 5) := ⟨⟨by decide +kernel, by decide +kernel⟩, List.mem_of_getElem? (i := 17) (by decide +kernel), List.mem_of_getElem? (i := 313) (by decide +kernel), List.mem_of_getElem? (i := 314) (by decide +kernel)⟩
theorem lw_p9 : lw_okq (⟨"KeyedFiles", "entryCount", "(I)I"⟩, 5) := ⟨⟨by decide +kernel, by decide +kernel⟩, List.mem_of_getElem? (i := 17) (by decide +kernel), List.mem_of_getElem? (i := 331) (by decide +kernel), List.mem_of_getElem? (i := 332) (by decide +kernel)⟩
theorem lw_p10 : lw_okq (⟨"KeyedFiles", "enterUnderAllKeys", "(LKeyedFiles$Stored;)Z"⟩, 5) := ⟨⟨by decide +kernel, by decide +kernel⟩, List.mem_of_getElem? (i := 17) (by decide +kernel), List.mem_of_getElem? (i := 360) (by decide +kernel), List.mem_of_getElem? (i := 361) (by decide +kernel)⟩
theorem lw_p11 : lw_okq (⟨"KeyedFiles", "enterUnder", "(LKeyedFiles$KeyIndex;LKeyedFiles$Stored;)Z"⟩, 5) := ⟨⟨by decide +kernel, by decide +kernel⟩, List.mem_of_getElem? (i := 17) (by decide +kernel), List.mem_of_getElem? (i := 364) (by decide +kernel), List.mem_of_getElem? (i := 365) (by decide +kernel)⟩
theorem lw_p12 : lw_okq (⟨"java/util/ArrayList", "rangeCheckForAdd", "(I)V"⟩, 3) := ⟨⟨by decide +kernel, by decide +kernel⟩, List.mem_of_getElem? (i := 25) (by decide +kernel), List.mem_of_getElem? (i := 404) (by decide +kernel), List.mem_of_getElem? (i := 405) (by decide +kernel)⟩
theorem lw_p13 : lw_okq (⟨"KeyedFiles", "recordToChange", "(LKeyedFiles$View;J)LKeyedFiles$Stored;"⟩, 5) := ⟨⟨by decide +kernel, by decide +kernel⟩, List.mem_of_getElem? (i := 17) (by decide +kernel), List.mem_of_getElem? (i := 474) (by decide +kernel), List.mem_of_getElem? (i := 475) (by decide +kernel)⟩
theorem lw_p14 : lw_okq (⟨"KeyedFiles", "moveChangedEntries", "(LKeyedFiles$Stored;J)Z"⟩, 5) := ⟨⟨by decide +kernel, by decide +kernel⟩, List.mem_of_getElem? (i := 17) (by decide +kernel), List.mem_of_getElem? (i := 482) (by decide +kernel), List.mem_of_getElem? (i := 483) (by decide +kernel)⟩
theorem lw_p15 : lw_okq (⟨"java/util/ArrayList", "fastRemove", "([Ljava/lang/Object;I)V"⟩, 3) := ⟨⟨by decide +kernel, by decide +kernel⟩, List.mem_of_getElem? (i := 25) (by decide +kernel), List.mem_of_getElem? (i := 494) (by decide +kernel), List.mem_of_getElem? (i := 495) (by decide +kernel)⟩
def lw_privs_1 : List (MethodName × Nat) := [(⟨"java/util/ArrayList", "add", "(Ljava/lang/Object;[Ljava/lang/Object;I)V"⟩, 3), (⟨"java/util/ArrayList", "grow", "()[Ljava/lang/Object;"⟩, 3), (⟨"java/util/ArrayList", "grow", "(I)[Ljava/lang/Object;"⟩, 3), (⟨"KeyedFiles", "indexAt", "(I)LKeyedFiles$KeyIndex;"⟩, 5), (⟨"KeyedFiles", "viewAt", "(I)LKeyedFiles$View;"⟩, 5), (⟨"KeyedFiles", "dropAllRecords", "()V"⟩, 5), (⟨"KeyedFiles", "isOutOfOrder", "(LKeyedFiles$View;J)Z"⟩, 5), (⟨"KeyedFiles", "fieldOf", "(IJ)J"⟩, 5), (⟨"KeyedFiles", "hasBarredDouble", "(JLKeyedFiles$Stored;)Z"⟩, 5), (⟨"KeyedFiles", "entryCount", "(I)I"⟩, 5), (⟨"KeyedFiles", "enterUnderAllKeys", "(LKeyedFiles$Stored;)Z"⟩, 5), (⟨"KeyedFiles", "enterUnder", "(LKeyedFiles$KeyIndex;LKeyedFiles$Stored;)Z"⟩, 5), (⟨"java/util/ArrayList", "rangeCheckForAdd", "(I)V"⟩, 3), (⟨"KeyedFiles", "recordToChange", "(LKeyedFiles$View;J)LKeyedFiles$Stored;"⟩, 5), (⟨"KeyedFiles", "moveChangedEntries", "(LKeyedFiles$Stored;J)Z"⟩, 5), (⟨"java/util/ArrayList", "fastRemove", "([Ljava/lang/Object;I)V"⟩, 3)]
theorem lw_r1 : ∀ q ∈ lw_privs_1, lw_okq q := List.forall_mem_cons.mpr ⟨lw_p0, List.forall_mem_cons.mpr ⟨lw_p1, List.forall_mem_cons.mpr ⟨lw_p2, List.forall_mem_cons.mpr ⟨lw_p3, List.forall_mem_cons.mpr ⟨lw_p4, List.forall_mem_cons.mpr ⟨lw_p5, List.forall_mem_cons.mpr ⟨lw_p6, List.forall_mem_cons.mpr ⟨lw_p7, List.forall_mem_cons.mpr ⟨lw_p8, List.forall_mem_cons.mpr ⟨lw_p9, List.forall_mem_cons.mpr ⟨lw_p10, List.forall_mem_cons.mpr ⟨lw_p11, List.forall_mem_cons.mpr ⟨lw_p12, List.forall_mem_cons.mpr ⟨lw_p13, List.forall_mem_cons.mpr ⟨lw_p14, List.forall_mem_cons.mpr ⟨lw_p15, fun _ h => absurd h List.not_mem_nil⟩⟩⟩⟩⟩⟩⟩⟩⟩⟩⟩⟩⟩⟩⟩⟩
theorem lw_p16 : lw_okq (⟨"KeyedFiles", "dropRecord", "(LKeyedFiles$Stored;)V"⟩, 5) := ⟨⟨by decide +kernel, by decide +kernel⟩, List.mem_of_getElem? (i := 17) (by decide +kernel), List.mem_of_getElem? (i := 502) (by decide +kernel), List.mem_of_getElem? (i := 503) (by decide +kernel)⟩
theorem lw_p17 : lw_okq (⟨"KeyedFiles", "entriesDue", "(LKeyedFiles$KeyIndex;)I"⟩, 5) := ⟨⟨by decide +kernel, by decide +kernel⟩, List.mem_of_getElem? (i := 17) (by decide +kernel), List.mem_of_getElem? (i := 530) (by decide +kernel), List.mem_of_getElem? (i := 531) (by decide +kernel)⟩
theorem lw_p18 : lw_okq (⟨"KeyedFilesModel", "isKey", "(I)Z"⟩, 29) := ⟨⟨by decide +kernel, by decide +kernel⟩, List.mem_of_getElem? (i := 536) (by decide +kernel), List.mem_of_getElem? (i := 641) (by decide +kernel), List.mem_of_getElem? (i := 642) (by decide +kernel)⟩
theorem lw_p19 : lw_okq (⟨"KeyedFilesModel", "isView", "(I)Z"⟩, 29) := ⟨⟨by decide +kernel, by decide +kernel⟩, List.mem_of_getElem? (i := 536) (by decide +kernel), List.mem_of_getElem? (i := 653) (by decide +kernel), List.mem_of_getElem? (i := 654) (by decide +kernel)⟩
theorem lw_p20 : lw_okq (⟨"KeyedFilesModel", "forget", "(I)V"⟩, 29) := ⟨⟨by decide +kernel, by decide +kernel⟩, List.mem_of_getElem? (i := 536) (by decide +kernel), List.mem_of_getElem? (i := 665) (by decide +kernel), List.mem_of_getElem? (i := 666) (by decide +kernel)⟩
theorem lw_p21 : lw_okq (⟨"KeyedFilesModel", "field", "(IJ)J"⟩, 29) := ⟨⟨by decide +kernel, by decide +kernel⟩, List.mem_of_getElem? (i := 536) (by decide +kernel), List.mem_of_getElem? (i := 669) (by decide +kernel), List.mem_of_getElem? (i := 670) (by decide +kernel)⟩
theorem lw_p22 : lw_okq (⟨"KeyedFilesModel", "barred", "(JI)I"⟩, 29) := ⟨⟨by decide +kernel, by decide +kernel⟩, List.mem_of_getElem? (i := 536) (by decide +kernel), List.mem_of_getElem? (i := 677) (by decide +kernel), List.mem_of_getElem? (i := 678) (by decide +kernel)⟩
theorem lw_p23 : lw_okq (⟨"KeyedFilesModel", "isEntry", "(II)Z"⟩, 29) := ⟨⟨by decide +kernel, by decide +kernel⟩, List.mem_of_getElem? (i := 536) (by decide +kernel), List.mem_of_getElem? (i := 681) (by decide +kernel), List.mem_of_getElem? (i := 682) (by decide +kernel)⟩
theorem lw_p24 : lw_okq (⟨"KeyedFilesModel", "hasEntry", "(IJ)Z"⟩, 29) := ⟨⟨by decide +kernel, by decide +kernel⟩, List.mem_of_getElem? (i := 536) (by decide +kernel), List.mem_of_getElem? (i := 685) (by decide +kernel), List.mem_of_getElem? (i := 686) (by decide +kernel)⟩
theorem lw_p25 : lw_okq (⟨"KeyedFilesModel", "equal", "(IJI)I"⟩, 29) := ⟨⟨by decide +kernel, by decide +kernel⟩, List.mem_of_getElem? (i := 536) (by decide +kernel), List.mem_of_getElem? (i := 689) (by decide +kernel), List.mem_of_getElem? (i := 690) (by decide +kernel)⟩
theorem lw_p26 : lw_okq (⟨"KeyedFilesModel", "rankAll", "(IJZ)V"⟩, 29) := ⟨⟨by decide +kernel, by decide +kernel⟩, List.mem_of_getElem? (i := 536) (by decide +kernel), List.mem_of_getElem? (i := 693) (by decide +kernel), List.mem_of_getElem? (i := 694) (by decide +kernel)⟩
theorem lw_p27 : lw_okq (⟨"KeyedFilesModel", "reads", "(I)Z"⟩, 29) := ⟨⟨by decide +kernel, by decide +kernel⟩, List.mem_of_getElem? (i := 536) (by decide +kernel), List.mem_of_getElem? (i := 701) (by decide +kernel), List.mem_of_getElem? (i := 702) (by decide +kernel)⟩
theorem lw_p28 : lw_okq (⟨"KeyedFilesModel", "after", "(IJIZ)I"⟩, 29) := ⟨⟨by decide +kernel, by decide +kernel⟩, List.mem_of_getElem? (i := 536) (by decide +kernel), List.mem_of_getElem? (i := 705) (by decide +kernel), List.mem_of_getElem? (i := 706) (by decide +kernel)⟩
theorem lw_p29 : lw_okq (⟨"KeyedFilesModel", "isAhead", "(IIJI)Z"⟩, 29) := ⟨⟨by decide +kernel, by decide +kernel⟩, List.mem_of_getElem? (i := 536) (by decide +kernel), List.mem_of_getElem? (i := 709) (by decide +kernel), List.mem_of_getElem? (i := 710) (by decide +kernel)⟩
theorem lw_p30 : lw_okq (⟨"KeyedFilesModel", "rank", "(II)I"⟩, 29) := ⟨⟨by decide +kernel, by decide +kernel⟩, List.mem_of_getElem? (i := 536) (by decide +kernel), List.mem_of_getElem? (i := 713) (by decide +kernel), List.mem_of_getElem? (i := 714) (by decide +kernel)⟩
theorem lw_p31 : lw_okq (⟨"KeyedFilesModel", "isBehind", "(IIJI)Z"⟩, 29) := ⟨⟨by decide +kernel, by decide +kernel⟩, List.mem_of_getElem? (i := 536) (by decide +kernel), List.mem_of_getElem? (i := 717) (by decide +kernel), List.mem_of_getElem? (i := 718) (by decide +kernel)⟩
def lw_privs_2 : List (MethodName × Nat) := [(⟨"KeyedFiles", "dropRecord", "(LKeyedFiles$Stored;)V"⟩, 5), (⟨"KeyedFiles", "entriesDue", "(LKeyedFiles$KeyIndex;)I"⟩, 5), (⟨"KeyedFilesModel", "isKey", "(I)Z"⟩, 29), (⟨"KeyedFilesModel", "isView", "(I)Z"⟩, 29), (⟨"KeyedFilesModel", "forget", "(I)V"⟩, 29), (⟨"KeyedFilesModel", "field", "(IJ)J"⟩, 29), (⟨"KeyedFilesModel", "barred", "(JI)I"⟩, 29), (⟨"KeyedFilesModel", "isEntry", "(II)Z"⟩, 29), (⟨"KeyedFilesModel", "hasEntry", "(IJ)Z"⟩, 29), (⟨"KeyedFilesModel", "equal", "(IJI)I"⟩, 29), (⟨"KeyedFilesModel", "rankAll", "(IJZ)V"⟩, 29), (⟨"KeyedFilesModel", "reads", "(I)Z"⟩, 29), (⟨"KeyedFilesModel", "after", "(IJIZ)I"⟩, 29), (⟨"KeyedFilesModel", "isAhead", "(IIJI)Z"⟩, 29), (⟨"KeyedFilesModel", "rank", "(II)I"⟩, 29), (⟨"KeyedFilesModel", "isBehind", "(IIJI)Z"⟩, 29)]
theorem lw_r2 : ∀ q ∈ lw_privs_2, lw_okq q := List.forall_mem_cons.mpr ⟨lw_p16, List.forall_mem_cons.mpr ⟨lw_p17, List.forall_mem_cons.mpr ⟨lw_p18, List.forall_mem_cons.mpr ⟨lw_p19, List.forall_mem_cons.mpr ⟨lw_p20, List.forall_mem_cons.mpr ⟨lw_p21, List.forall_mem_cons.mpr ⟨lw_p22, List.forall_mem_cons.mpr ⟨lw_p23, List.forall_mem_cons.mpr ⟨lw_p24, List.forall_mem_cons.mpr ⟨lw_p25, List.forall_mem_cons.mpr ⟨lw_p26, List.forall_mem_cons.mpr ⟨lw_p27, List.forall_mem_cons.mpr ⟨lw_p28, List.forall_mem_cons.mpr ⟨lw_p29, List.forall_mem_cons.mpr ⟨lw_p30, List.forall_mem_cons.mpr ⟨lw_p31, fun _ h => absurd h List.not_mem_nil⟩⟩⟩⟩⟩⟩⟩⟩⟩⟩⟩⟩⟩⟩⟩⟩
theorem lw_p32 : lw_okq (⟨"KeyedFilesModel", "got", "(IIIZ)I"⟩, 29) := ⟨⟨by decide +kernel, by decide +kernel⟩, List.mem_of_getElem? (i := 536) (by decide +kernel), List.mem_of_getElem? (i := 721) (by decide +kernel), List.mem_of_getElem? (i := 722) (by decide +kernel)⟩
theorem lw_p33 : lw_okq (⟨"KeyedFilesModel", "status", "(IIZ)I"⟩, 29) := ⟨⟨by decide +kernel, by decide +kernel⟩, List.mem_of_getElem? (i := 536) (by decide +kernel), List.mem_of_getElem? (i := 725) (by decide +kernel), List.mem_of_getElem? (i := 726) (by decide +kernel)⟩
theorem lw_p34 : lw_okq (⟨"KeyedFilesModel", "ahead", "(IJIZ)I"⟩, 29) := ⟨⟨by decide +kernel, by decide +kernel⟩, List.mem_of_getElem? (i := 536) (by decide +kernel), List.mem_of_getElem? (i := 729) (by decide +kernel), List.mem_of_getElem? (i := 730) (by decide +kernel)⟩
theorem lw_p35 : lw_okq (⟨"KeyedFilesModel", "had", "()I"⟩, 29) := ⟨⟨by decide +kernel, by decide +kernel⟩, List.mem_of_getElem? (i := 536) (by decide +kernel), List.mem_of_getElem? (i := 752) (by decide +kernel), List.mem_of_getElem? (i := 753) (by decide +kernel)⟩
theorem lw_p36 : lw_okq (⟨"KeyedFilesModel", "byPrime", "(J)I"⟩, 29) := ⟨⟨by decide +kernel, by decide +kernel⟩, List.mem_of_getElem? (i := 536) (by decide +kernel), List.mem_of_getElem? (i := 756) (by decide +kernel), List.mem_of_getElem? (i := 757) (by decide +kernel)⟩
def lw_privs_3 : List (MethodName × Nat) := [(⟨"KeyedFilesModel", "got", "(IIIZ)I"⟩, 29), (⟨"KeyedFilesModel", "status", "(IIZ)I"⟩, 29), (⟨"KeyedFilesModel", "ahead", "(IJIZ)I"⟩, 29), (⟨"KeyedFilesModel", "had", "()I"⟩, 29), (⟨"KeyedFilesModel", "byPrime", "(J)I"⟩, 29)]
theorem lw_r3 : ∀ q ∈ lw_privs_3, lw_okq q := List.forall_mem_cons.mpr ⟨lw_p32, List.forall_mem_cons.mpr ⟨lw_p33, List.forall_mem_cons.mpr ⟨lw_p34, List.forall_mem_cons.mpr ⟨lw_p35, List.forall_mem_cons.mpr ⟨lw_p36, fun _ h => absurd h List.not_mem_nil⟩⟩⟩⟩⟩
def lw_privs : List (MethodName × Nat) := lw_privs_1 ++ (lw_privs_2 ++ (lw_privs_3))
def lw_tbl : List Cond := k2_sels lw_privs ++ tables_1
theorem lw_privs_ok : ∀ q ∈ lw_privs, lw_okq q := by
  show ∀ q ∈ lw_privs_1 ++ (lw_privs_2 ++ (lw_privs_3)), lw_okq q
  exact List.forall_mem_append.mpr ⟨lw_r1, List.forall_mem_append.mpr ⟨lw_r2, lw_r3⟩⟩
end
section
/-! NAMES of this claim, by wip/whole/gen_names.py out of claim/Statement.lean -/
def XT : List Cond := lw_tbl.filter goodWord
theorem xt_t {i : Nat} {w : Cond} (h : tables_1[i]? = some w) (hg : goodWord w = true) : w ∈ XT := List.mem_filter.mpr ⟨List.mem_append_right _ (List.mem_of_getElem? h), hg⟩
theorem xt_p {i : Nat} {w : Cond} (h : (k2_sels lw_privs)[i]? = some w) (hg : goodWord w = true) : w ∈ XT := List.mem_filter.mpr ⟨List.mem_append_left _ (List.mem_of_getElem? h), hg⟩
theorem xt_good {c0 c1 : Cond} (h : c1 ∈ XT) : GoodIn (c0 :: XT) (c1 :: XT) := fun w hw => by
  rcases List.mem_cons.mp hw with e | e
  · rw [e]; exact ⟨List.mem_cons_of_mem _ h, good_of_word (List.mem_filter.mp h).2⟩
  · exact ⟨List.mem_cons_of_mem _ e, good_of_word (List.mem_filter.mp e).2⟩
theorem xt_goodL {c1 : Cond} (h : c1 ∈ XT) : GoodIn lw_tbl (c1 :: XT) := fun w hw => by
  rcases List.mem_cons.mp hw with e | e
  · rw [e]; exact ⟨(List.mem_filter.mp h).1, good_of_word (List.mem_filter.mp h).2⟩
  · exact ⟨(List.mem_filter.mp e).1, good_of_word (List.mem_filter.mp e).2⟩
abbrev R_KF : String := "KeyedFiles"
abbrev R_EN : String := "KeyedFiles$Entry"
abbrev R_KI : String := "KeyedFiles$KeyIndex"
abbrev R_ST : String := "KeyedFiles$Stored"
abbrev R_VW : String := "KeyedFiles$View"
abbrev R_MD : String := "KeyedFilesModel"
abbrev R_AL : String := "java/util/ArrayList"
abbrev R_OB : String := "java/lang/Object"
abbrev R_AS : String := "jdk/internal/util/ArraysSupport"
abbrev R_MA : String := "java/lang/Math"
abbrev R_AR : String := "java/util/Arrays"
abbrev R_SY : String := "java/lang/System"
abbrev R_OJ : String := "java/util/Objects"
abbrev R_PC : String := "jdk/internal/util/Preconditions"
abbrev R_AB : String := "java/util/AbstractList"
abbrev R_AC : String := "java/util/AbstractCollection"
abbrev R_LW : String := "KeyedFilesLaw"
abbrev R_OA : String := "[Ljava/lang/Object;"
def T_KF : u_T := fun k => match k with
  | 0 => ("KeyedFiles", "indexes", "Ljava/util/ArrayList;", true)
  | 1 => ("KeyedFiles", "views", "Ljava/util/ArrayList;", true)
  | 2 => ("KeyedFiles", "everOpened", "Z", false)
  | 3 => ("KeyedFiles", "arrivals", "J", false)
  | _ => ("KeyedFiles", "sweeps", "J", false)
def ty_KF : Nat → FieldType := fun k => match k with
  | 0 => .object "java/util/ArrayList"
  | 1 => .object "java/util/ArrayList"
  | 2 => .boolean
  | 3 => .long
  | _ => .long
theorem nm_KF : ∀ a, a < 5 → ∀ b, b < 5 → a ≠ b → (T_KF a).2.1 ≠ (T_KF b).2.1 := by decide +kernel
theorem tok_KF : ∀ k, k < 5 → parseFieldDescriptor (T_KF k).2.2.1 = some (ty_KF k) := by decide +kernel
def T_EN : u_T := fun k => match k with
  | 0 => ("KeyedFiles$Entry", "field", "J", true)
  | 1 => ("KeyedFiles$Entry", "came", "J", true)
  | _ => ("KeyedFiles$Entry", "stored", "LKeyedFiles$Stored;", true)
def ty_EN : Nat → FieldType := fun k => match k with
  | 0 => .long
  | 1 => .long
  | _ => .object "KeyedFiles$Stored"
theorem nm_EN : ∀ a, a < 3 → ∀ b, b < 3 → a ≠ b → (T_EN a).2.1 ≠ (T_EN b).2.1 := by decide +kernel
theorem tok_EN : ∀ k, k < 3 → parseFieldDescriptor (T_EN k).2.2.1 = some (ty_EN k) := by decide +kernel
def T_KI : u_T := fun k => match k with
  | 0 => ("KeyedFiles$KeyIndex", "doubles", "Z", true)
  | 1 => ("KeyedFiles$KeyIndex", "from", "I", true)
  | 2 => ("KeyedFiles$KeyIndex", "size", "I", true)
  | 3 => ("KeyedFiles$KeyIndex", "entries", "Ljava/util/ArrayList;", true)
  | 4 => ("KeyedFiles$KeyIndex", "isSparse", "Z", false)
  | _ => ("KeyedFiles$KeyIndex", "fieldLeftOut", "J", false)
def ty_KI : Nat → FieldType := fun k => match k with
  | 0 => .boolean
  | 1 => .int
  | 2 => .int
  | 3 => .object "java/util/ArrayList"
  | 4 => .boolean
  | _ => .long
theorem nm_KI : ∀ a, a < 6 → ∀ b, b < 6 → a ≠ b → (T_KI a).2.1 ≠ (T_KI b).2.1 := by decide +kernel
theorem tok_KI : ∀ k, k < 6 → parseFieldDescriptor (T_KI k).2.2.1 = some (ty_KI k) := by decide +kernel
def T_ST : u_T := fun k => match k with
  | 0 => ("KeyedFiles$Stored", "bytes", "J", false)
  | 1 => ("KeyedFiles$Stored", "isThere", "Z", false)
  | _ => ("KeyedFiles$Stored", "sweep", "J", false)
def ty_ST : Nat → FieldType := fun k => match k with
  | 0 => .long
  | 1 => .boolean
  | _ => .long
theorem nm_ST : ∀ a, a < 3 → ∀ b, b < 3 → a ≠ b → (T_ST a).2.1 ≠ (T_ST b).2.1 := by decide +kernel
theorem tok_ST : ∀ k, k < 3 → parseFieldDescriptor (T_ST k).2.2.1 = some (ty_ST k) := by decide +kernel
def T_VW : u_T := fun k => match k with
  | 0 => ("KeyedFiles$View", "isOpen", "Z", false)
  | 1 => ("KeyedFiles$View", "mode", "I", false)
  | 2 => ("KeyedFiles$View", "access", "I", false)
  | 3 => ("KeyedFiles$View", "keyOfReference", "I", false)
  | 4 => ("KeyedFiles$View", "place", "I", false)
  | 5 => ("KeyedFiles$View", "placeField", "J", false)
  | 6 => ("KeyedFiles$View", "placeCame", "J", false)
  | 7 => ("KeyedFiles$View", "isAtEnd", "Z", false)
  | 8 => ("KeyedFiles$View", "readLast", "LKeyedFiles$Stored;", false)
  | 9 => ("KeyedFiles$View", "valueRead", "J", false)
  | 10 => ("KeyedFiles$View", "hasWritten", "Z", false)
  | _ => ("KeyedFiles$View", "primeWritten", "J", false)
def ty_VW : Nat → FieldType := fun k => match k with
  | 0 => .boolean
  | 1 => .int
  | 2 => .int
  | 3 => .int
  | 4 => .int
  | 5 => .long
  | 6 => .long
  | 7 => .boolean
  | 8 => .object "KeyedFiles$Stored"
  | 9 => .long
  | 10 => .boolean
  | _ => .long
theorem nm_VW : ∀ a, a < 12 → ∀ b, b < 12 → a ≠ b → (T_VW a).2.1 ≠ (T_VW b).2.1 := by decide +kernel
theorem tok_VW : ∀ k, k < 12 → parseFieldDescriptor (T_VW k).2.2.1 = some (ty_VW k) := by decide +kernel
def T_MD : u_T := fun k => match k with
  | 0 => ("KeyedFilesModel", "thrown", "I", false)
  | 1 => ("KeyedFilesModel", "froms", "[I", true)
  | 2 => ("KeyedFilesModel", "sizes", "[I", true)
  | 3 => ("KeyedFilesModel", "doubles", "[Z", true)
  | 4 => ("KeyedFilesModel", "sparse", "[Z", true)
  | 5 => ("KeyedFilesModel", "spared", "[J", true)
  | 6 => ("KeyedFilesModel", "keys", "I", false)
  | 7 => ("KeyedFilesModel", "views", "I", false)
  | 8 => ("KeyedFilesModel", "opened", "Z", false)
  | 9 => ("KeyedFilesModel", "records", "[J", true)
  | 10 => ("KeyedFilesModel", "numbers", "[I", true)
  | 11 => ("KeyedFilesModel", "ranks", "[I", true)
  | 12 => ("KeyedFilesModel", "many", "I", false)
  | 13 => ("KeyedFilesModel", "numbered", "I", false)
  | 14 => ("KeyedFilesModel", "ranked", "I", false)
  | 15 => ("KeyedFilesModel", "modes", "[I", true)
  | 16 => ("KeyedFilesModel", "accesses", "[I", true)
  | 17 => ("KeyedFilesModel", "references", "[I", true)
  | 18 => ("KeyedFilesModel", "places", "[I", true)
  | 19 => ("KeyedFilesModel", "placeRanks", "[I", true)
  | 20 => ("KeyedFilesModel", "readNumbers", "[I", true)
  | 21 => ("KeyedFilesModel", "placeFields", "[J", true)
  | 22 => ("KeyedFilesModel", "values", "[J", true)
  | 23 => ("KeyedFilesModel", "lasts", "[J", true)
  | 24 => ("KeyedFilesModel", "open", "[Z", true)
  | 25 => ("KeyedFilesModel", "ended", "[Z", true)
  | 26 => ("KeyedFilesModel", "wrote", "[Z", true)
  | 27 => ("KeyedFilesModel", "hadNumber", "I", false)
  | _ => ("KeyedFilesModel", "hadValue", "J", false)
def ty_MD : Nat → FieldType := fun k => match k with
  | 0 => .int
  | 1 => .array .int
  | 2 => .array .int
  | 3 => .array .boolean
  | 4 => .array .boolean
  | 5 => .array .long
  | 6 => .int
  | 7 => .int
  | 8 => .boolean
  | 9 => .array .long
  | 10 => .array .int
  | 11 => .array .int
  | 12 => .int
  | 13 => .int
  | 14 => .int
  | 15 => .array .int
  | 16 => .array .int
  | 17 => .array .int
  | 18 => .array .int
  | 19 => .array .int
  | 20 => .array .int
  | 21 => .array .long
  | 22 => .array .long
  | 23 => .array .long
  | 24 => .array .boolean
  | 25 => .array .boolean
  | 26 => .array .boolean
  | 27 => .int
  | _ => .long
theorem nm_MD : ∀ a, a < 29 → ∀ b, b < 29 → a ≠ b → (T_MD a).2.1 ≠ (T_MD b).2.1 := by decide +kernel
theorem tok_MD : ∀ k, k < 29 → parseFieldDescriptor (T_MD k).2.2.1 = some (ty_MD k) := by decide +kernel
def T_AL : u_T := fun k => match k with
  | 0 => ("java/util/ArrayList", "elementData", "[Ljava/lang/Object;", false)
  | 1 => ("java/util/ArrayList", "size", "I", false)
  | _ => ("java/util/AbstractList", "modCount", "I", false)
def ty_AL : Nat → FieldType := fun k => match k with
  | 0 => .array (.object "java/lang/Object")
  | 1 => .int
  | _ => .int
theorem nm_AL : ∀ a, a < 3 → ∀ b, b < 3 → a ≠ b → (T_AL a).2.1 ≠ (T_AL b).2.1 := by decide +kernel
theorem tok_AL : ∀ k, k < 3 → parseFieldDescriptor (T_AL k).2.2.1 = some (ty_AL k) := by decide +kernel
abbrev xcl : List vw_C := [(R_KF, T_KF, 5), (R_EN, T_EN, 3), (R_KI, T_KI, 6), (R_ST, T_ST, 3), (R_VW, T_VW, 12), (R_MD, T_MD, 29), (R_AL, T_AL, 3)]
theorem kz_LW : (Cond.initialized "KeyedFilesLaw") ∈ XT := xt_t (i := 0) (by decide +kernel) (by decide)
theorem kz_KF : (Cond.initialized "KeyedFiles") ∈ XT := xt_t (i := 1) (by decide +kernel) (by decide)
theorem kz_AC : (Cond.initialized "java/util/AbstractCollection") ∈ XT := xt_t (i := 2) (by decide +kernel) (by decide)
theorem kz_AB : (Cond.initialized "java/util/AbstractList") ∈ XT := xt_t (i := 3) (by decide +kernel) (by decide)
theorem kz_AL : (Cond.initialized "java/util/ArrayList") ∈ XT := xt_t (i := 4) (by decide +kernel) (by decide)
theorem kz_MD : (Cond.initialized "KeyedFilesModel") ∈ XT := xt_t (i := 5) (by decide +kernel) (by decide)
theorem kz_KI : (Cond.initialized "KeyedFiles$KeyIndex") ∈ XT := xt_t (i := 6) (by decide +kernel) (by decide)
theorem kz_AS : (Cond.initialized "jdk/internal/util/ArraysSupport") ∈ XT := xt_t (i := 7) (by decide +kernel) (by decide)
theorem kz_MA : (Cond.initialized "java/lang/Math") ∈ XT := xt_t (i := 8) (by decide +kernel) (by decide)
theorem kz_AR : (Cond.initialized "java/util/Arrays") ∈ XT := xt_t (i := 9) (by decide +kernel) (by decide)
theorem kz_SY : (Cond.initialized "java/lang/System") ∈ XT := xt_t (i := 10) (by decide +kernel) (by decide)
theorem kz_OJ : (Cond.initialized "java/util/Objects") ∈ XT := xt_t (i := 11) (by decide +kernel) (by decide)
theorem kz_PC : (Cond.initialized "jdk/internal/util/Preconditions") ∈ XT := xt_t (i := 12) (by decide +kernel) (by decide)
theorem kz_VW : (Cond.initialized "KeyedFiles$View") ∈ XT := xt_t (i := 13) (by decide +kernel) (by decide)
theorem kz_ST : (Cond.initialized "KeyedFiles$Stored") ∈ XT := xt_t (i := 14) (by decide +kernel) (by decide)
theorem kz_EN : (Cond.initialized "KeyedFiles$Entry") ∈ XT := xt_t (i := 15) (by decide +kernel) (by decide)
theorem cl_LW_7 : (Cond.classLink "KeyedFilesLaw" (7 : Nat) "KeyedFiles") ∈ XT := xt_t (i := 16) (by decide +kernel) (by decide)
theorem kb_KF : (Cond.instantiable "KeyedFiles" (5 : Nat)) ∈ XT := xt_t (i := 17) (by decide +kernel) (by decide)
theorem m_LW_9 : (Cond.methodLink "KeyedFilesLaw" (9 : Nat) ({ cls := "KeyedFiles", name := "<init>", desc := "()V" } : MethodName)) ∈ XT := xt_t (i := 18) (by decide +kernel) (by decide)
theorem ki_KF_init : (Cond.instanceMethod ({ cls := "KeyedFiles", name := "<init>", desc := "()V" } : MethodName)) ∈ XT := xt_t (i := 19) (by decide +kernel) (by decide)
set_option maxRecDepth 20000 in
theorem kc_KF_init : (Cond.code ({ cls := "KeyedFiles", name := "<init>", desc := "()V" } : MethodName) prog_1_method_1_code (1 : Nat) (Option.none : Option FieldType)) ∈ XT := xt_t (i := 20) (rfl) (by decide)
theorem m_KF_1 : (Cond.methodLink "KeyedFiles" (1 : Nat) ({ cls := "java/lang/Object", name := "<init>", desc := "()V" } : MethodName)) ∈ XT := xt_t (i := 21) (by decide +kernel) (by decide)
theorem ki_OB_init : (Cond.instanceMethod ({ cls := "java/lang/Object", name := "<init>", desc := "()V" } : MethodName)) ∈ XT := xt_t (i := 22) (by decide +kernel) (by decide)
set_option maxRecDepth 20000 in
theorem kc_OB_init : (Cond.code ({ cls := "java/lang/Object", name := "<init>", desc := "()V" } : MethodName) object_method_1_code (1 : Nat) (Option.none : Option FieldType)) ∈ XT := xt_t (i := 23) (rfl) (by decide)
theorem cl_KF_7 : (Cond.classLink "KeyedFiles" (7 : Nat) "java/util/ArrayList") ∈ XT := xt_t (i := 24) (by decide +kernel) (by decide)
theorem kb_AL : (Cond.instantiable "java/util/ArrayList" (3 : Nat)) ∈ XT := xt_t (i := 25) (by decide +kernel) (by decide)
theorem m_KF_9 : (Cond.methodLink "KeyedFiles" (9 : Nat) ({ cls := "java/util/ArrayList", name := "<init>", desc := "()V" } : MethodName)) ∈ XT := xt_t (i := 26) (by decide +kernel) (by decide)
theorem ki_AL_init : (Cond.instanceMethod ({ cls := "java/util/ArrayList", name := "<init>", desc := "()V" } : MethodName)) ∈ XT := xt_t (i := 27) (by decide +kernel) (by decide)
set_option maxRecDepth 20000 in
theorem kc_AL_init : (Cond.code ({ cls := "java/util/ArrayList", name := "<init>", desc := "()V" } : MethodName) prog_15_method_2_code (1 : Nat) (Option.none : Option FieldType)) ∈ XT := xt_t (i := 28) (rfl) (by decide)
theorem m_AL_1 : (Cond.methodLink "java/util/ArrayList" (1 : Nat) ({ cls := "java/util/AbstractList", name := "<init>", desc := "()V" } : MethodName)) ∈ XT := xt_t (i := 29) (by decide +kernel) (by decide)
theorem ki_AB_init : (Cond.instanceMethod ({ cls := "java/util/AbstractList", name := "<init>", desc := "()V" } : MethodName)) ∈ XT := xt_t (i := 30) (by decide +kernel) (by decide)
set_option maxRecDepth 20000 in
theorem kc_AB_init : (Cond.code ({ cls := "java/util/AbstractList", name := "<init>", desc := "()V" } : MethodName) prog_14_method_1_code (1 : Nat) (Option.none : Option FieldType)) ∈ XT := xt_t (i := 31) (rfl) (by decide)
theorem m_AB_1 : (Cond.methodLink "java/util/AbstractList" (1 : Nat) ({ cls := "java/util/AbstractCollection", name := "<init>", desc := "()V" } : MethodName)) ∈ XT := xt_t (i := 32) (by decide +kernel) (by decide)
theorem ki_AC_init : (Cond.instanceMethod ({ cls := "java/util/AbstractCollection", name := "<init>", desc := "()V" } : MethodName)) ∈ XT := xt_t (i := 33) (by decide +kernel) (by decide)
set_option maxRecDepth 20000 in
theorem kc_AC_init : (Cond.code ({ cls := "java/util/AbstractCollection", name := "<init>", desc := "()V" } : MethodName) prog_13_method_1_code (1 : Nat) (Option.none : Option FieldType)) ∈ XT := xt_t (i := 34) (rfl) (by decide)
theorem m_AC_1 : (Cond.methodLink "java/util/AbstractCollection" (1 : Nat) ({ cls := "java/lang/Object", name := "<init>", desc := "()V" } : MethodName)) ∈ XT := xt_t (i := 35) (by decide +kernel) (by decide)
theorem f_AL_39 : (Cond.fieldLink "java/util/ArrayList" (39 : Nat) "java/util/ArrayList" "DEFAULTCAPACITY_EMPTY_ELEMENTDATA" "[Ljava/lang/Object;") ∈ XT := xt_t (i := 36) (by decide +kernel) (by decide)
theorem f_AL_9 : (Cond.fieldLink "java/util/ArrayList" (9 : Nat) "java/util/ArrayList" "elementData" "[Ljava/lang/Object;") ∈ XT := xt_t (i := 38) (by decide +kernel) (by decide)
theorem f_AL_48 : (Cond.fieldLink "java/util/ArrayList" (48 : Nat) "java/util/ArrayList" "size" "I") ∈ XT := xt_t (i := 39) (by decide +kernel) (by decide)
theorem f_AB_7 : (Cond.fieldLink "java/util/AbstractList" (7 : Nat) "java/util/AbstractList" "modCount" "I") ∈ XT := xt_t (i := 40) (by decide +kernel) (by decide)
theorem f_AL_63 : (Cond.fieldLink "java/util/ArrayList" (63 : Nat) "java/util/ArrayList" "modCount" "I") ∈ XT := xt_t (i := 41) (by decide +kernel) (by decide)
theorem kf_AL_modCount : (Cond.sameField "java/util/ArrayList" "java/util/AbstractList" "modCount" "I") ∈ XT := xt_t (i := 42) (by decide +kernel) (by decide)
theorem f_KF_10 : (Cond.fieldLink "KeyedFiles" (10 : Nat) "KeyedFiles" "indexes" "Ljava/util/ArrayList;") ∈ XT := xt_t (i := 50) (by decide +kernel) (by decide)
theorem f_KF_16 : (Cond.fieldLink "KeyedFiles" (16 : Nat) "KeyedFiles" "views" "Ljava/util/ArrayList;") ∈ XT := xt_t (i := 51) (by decide +kernel) (by decide)
theorem f_KF_23 : (Cond.fieldLink "KeyedFiles" (23 : Nat) "KeyedFiles" "everOpened" "Z") ∈ XT := xt_t (i := 52) (by decide +kernel) (by decide)
theorem f_KF_222 : (Cond.fieldLink "KeyedFiles" (222 : Nat) "KeyedFiles" "arrivals" "J") ∈ XT := xt_t (i := 53) (by decide +kernel) (by decide)
theorem f_KF_181 : (Cond.fieldLink "KeyedFiles" (181 : Nat) "KeyedFiles" "sweeps" "J") ∈ XT := xt_t (i := 54) (by decide +kernel) (by decide)
theorem m_LW_13 : (Cond.methodLink "KeyedFilesLaw" (13 : Nat) ({ cls := "KeyedFiles", name := "key", desc := "(ZZII)I" } : MethodName)) ∈ XT := xt_t (i := 66) (by decide +kernel) (by decide)
theorem ki_KF_key : (Cond.instanceMethod ({ cls := "KeyedFiles", name := "key", desc := "(ZZII)I" } : MethodName)) ∈ XT := xt_t (i := 67) (by decide +kernel) (by decide)
theorem kv_KF_key : (Cond.selects "KeyedFiles" ({ cls := "KeyedFiles", name := "key", desc := "(ZZII)I" } : MethodName) ({ cls := "KeyedFiles", name := "key", desc := "(ZZII)I" } : MethodName)) ∈ XT := xt_t (i := 68) (by decide +kernel) (by decide)
set_option maxRecDepth 20000 in
theorem kc_KF_key : (Cond.code ({ cls := "KeyedFiles", name := "key", desc := "(ZZII)I" } : MethodName) prog_1_method_2_code (6 : Nat) (Option.some FieldType.int)) ∈ XT := xt_t (i := 69) (rfl) (by decide)
theorem m_KF_19 : (Cond.methodLink "KeyedFiles" (19 : Nat) ({ cls := "java/util/ArrayList", name := "size", desc := "()I" } : MethodName)) ∈ XT := xt_t (i := 70) (by decide +kernel) (by decide)
theorem ki_AL_size : (Cond.instanceMethod ({ cls := "java/util/ArrayList", name := "size", desc := "()I" } : MethodName)) ∈ XT := xt_t (i := 71) (by decide +kernel) (by decide)
theorem kv_AL_size : (Cond.selects "java/util/ArrayList" ({ cls := "java/util/ArrayList", name := "size", desc := "()I" } : MethodName) ({ cls := "java/util/ArrayList", name := "size", desc := "()I" } : MethodName)) ∈ XT := xt_t (i := 72) (by decide +kernel) (by decide)
set_option maxRecDepth 20000 in
theorem kc_AL_size : (Cond.code ({ cls := "java/util/ArrayList", name := "size", desc := "()I" } : MethodName) prog_15_method_8_code (1 : Nat) (Option.some FieldType.int)) ∈ XT := xt_t (i := 73) (rfl) (by decide)
theorem cl_KF_27 : (Cond.classLink "KeyedFiles" (27 : Nat) "KeyedFiles$KeyIndex") ∈ XT := xt_t (i := 74) (by decide +kernel) (by decide)
theorem kb_KI : (Cond.instantiable "KeyedFiles$KeyIndex" (6 : Nat)) ∈ XT := xt_t (i := 75) (by decide +kernel) (by decide)
theorem m_KF_29 : (Cond.methodLink "KeyedFiles" (29 : Nat) ({ cls := "KeyedFiles$KeyIndex", name := "<init>", desc := "(ZII)V" } : MethodName)) ∈ XT := xt_t (i := 76) (by decide +kernel) (by decide)
theorem ki_KI_init : (Cond.instanceMethod ({ cls := "KeyedFiles$KeyIndex", name := "<init>", desc := "(ZII)V" } : MethodName)) ∈ XT := xt_t (i := 77) (by decide +kernel) (by decide)
set_option maxRecDepth 20000 in
theorem kc_KI_init : (Cond.code ({ cls := "KeyedFiles$KeyIndex", name := "<init>", desc := "(ZII)V" } : MethodName) prog_3_method_1_code (4 : Nat) (Option.none : Option FieldType)) ∈ XT := xt_t (i := 78) (rfl) (by decide)
theorem m_KI_3 : (Cond.methodLink "KeyedFiles$KeyIndex" (3 : Nat) ({ cls := "java/lang/Object", name := "<init>", desc := "()V" } : MethodName)) ∈ XT := xt_t (i := 79) (by decide +kernel) (by decide)
theorem cl_KI_22 : (Cond.classLink "KeyedFiles$KeyIndex" (22 : Nat) "java/util/ArrayList") ∈ XT := xt_t (i := 80) (by decide +kernel) (by decide)
theorem m_KI_24 : (Cond.methodLink "KeyedFiles$KeyIndex" (24 : Nat) ({ cls := "java/util/ArrayList", name := "<init>", desc := "()V" } : MethodName)) ∈ XT := xt_t (i := 81) (by decide +kernel) (by decide)
theorem f_KI_9 : (Cond.fieldLink "KeyedFiles$KeyIndex" (9 : Nat) "KeyedFiles$KeyIndex" "doubles" "Z") ∈ XT := xt_t (i := 82) (by decide +kernel) (by decide)
theorem f_KF_215 : (Cond.fieldLink "KeyedFiles" (215 : Nat) "KeyedFiles$KeyIndex" "doubles" "Z") ∈ XT := xt_t (i := 83) (by decide +kernel) (by decide)
theorem f_KI_15 : (Cond.fieldLink "KeyedFiles$KeyIndex" (15 : Nat) "KeyedFiles$KeyIndex" "from" "I") ∈ XT := xt_t (i := 84) (by decide +kernel) (by decide)
theorem f_KI_19 : (Cond.fieldLink "KeyedFiles$KeyIndex" (19 : Nat) "KeyedFiles$KeyIndex" "size" "I") ∈ XT := xt_t (i := 85) (by decide +kernel) (by decide)
theorem f_KF_123 : (Cond.fieldLink "KeyedFiles" (123 : Nat) "KeyedFiles$KeyIndex" "size" "I") ∈ XT := xt_t (i := 86) (by decide +kernel) (by decide)
theorem f_KI_25 : (Cond.fieldLink "KeyedFiles$KeyIndex" (25 : Nat) "KeyedFiles$KeyIndex" "entries" "Ljava/util/ArrayList;") ∈ XT := xt_t (i := 87) (by decide +kernel) (by decide)
theorem f_KF_188 : (Cond.fieldLink "KeyedFiles" (188 : Nat) "KeyedFiles$KeyIndex" "entries" "Ljava/util/ArrayList;") ∈ XT := xt_t (i := 88) (by decide +kernel) (by decide)
theorem f_KI_29 : (Cond.fieldLink "KeyedFiles$KeyIndex" (29 : Nat) "KeyedFiles$KeyIndex" "isSparse" "Z") ∈ XT := xt_t (i := 89) (by decide +kernel) (by decide)
theorem f_KI_32 : (Cond.fieldLink "KeyedFiles$KeyIndex" (32 : Nat) "KeyedFiles$KeyIndex" "fieldLeftOut" "J") ∈ XT := xt_t (i := 90) (by decide +kernel) (by decide)
theorem m_KF_32 : (Cond.methodLink "KeyedFiles" (32 : Nat) ({ cls := "java/util/ArrayList", name := "add", desc := "(Ljava/lang/Object;)Z" } : MethodName)) ∈ XT := xt_t (i := 104) (by decide +kernel) (by decide)
theorem ki_AL_add1 : (Cond.instanceMethod ({ cls := "java/util/ArrayList", name := "add", desc := "(Ljava/lang/Object;)Z" } : MethodName)) ∈ XT := xt_t (i := 105) (by decide +kernel) (by decide)
theorem kv_AL_add1 : (Cond.selects "java/util/ArrayList" ({ cls := "java/util/ArrayList", name := "add", desc := "(Ljava/lang/Object;)Z" } : MethodName) ({ cls := "java/util/ArrayList", name := "add", desc := "(Ljava/lang/Object;)Z" } : MethodName)) ∈ XT := xt_t (i := 106) (by decide +kernel) (by decide)
set_option maxRecDepth 20000 in
theorem kc_AL_add1 : (Cond.code ({ cls := "java/util/ArrayList", name := "add", desc := "(Ljava/lang/Object;)Z" } : MethodName) prog_15_method_25_code (2 : Nat) (Option.some FieldType.boolean)) ∈ XT := xt_t (i := 107) (rfl) (by decide)
theorem m_AL_131 : (Cond.methodLink "java/util/ArrayList" (131 : Nat) ({ cls := "java/util/ArrayList", name := "add", desc := "(Ljava/lang/Object;[Ljava/lang/Object;I)V" } : MethodName)) ∈ XT := xt_t (i := 108) (by decide +kernel) (by decide)
theorem ki_AL_addA : (Cond.instanceMethod ({ cls := "java/util/ArrayList", name := "add", desc := "(Ljava/lang/Object;[Ljava/lang/Object;I)V" } : MethodName)) ∈ XT := xt_t (i := 110) (by decide +kernel) (by decide)
set_option maxRecDepth 20000 in
theorem kc_AL_addA : (Cond.code ({ cls := "java/util/ArrayList", name := "add", desc := "(Ljava/lang/Object;[Ljava/lang/Object;I)V" } : MethodName) prog_15_method_24_code (4 : Nat) (Option.none : Option FieldType)) ∈ XT := xt_t (i := 111) (rfl) (by decide)
theorem m_AL_129 : (Cond.methodLink "java/util/ArrayList" (129 : Nat) ({ cls := "java/util/ArrayList", name := "grow", desc := "()[Ljava/lang/Object;" } : MethodName)) ∈ XT := xt_t (i := 112) (by decide +kernel) (by decide)
theorem ki_AL_grow0 : (Cond.instanceMethod ({ cls := "java/util/ArrayList", name := "grow", desc := "()[Ljava/lang/Object;" } : MethodName)) ∈ XT := xt_t (i := 114) (by decide +kernel) (by decide)
set_option maxRecDepth 20000 in
theorem kc_AL_grow0 : (Cond.code ({ cls := "java/util/ArrayList", name := "grow", desc := "()[Ljava/lang/Object;" } : MethodName) prog_15_method_7_code (1 : Nat) (Option.some (FieldType.array (FieldType.object "java/lang/Object")))) ∈ XT := xt_t (i := 115) (rfl) (by decide)
theorem m_AL_69 : (Cond.methodLink "java/util/ArrayList" (69 : Nat) ({ cls := "java/util/ArrayList", name := "grow", desc := "(I)[Ljava/lang/Object;" } : MethodName)) ∈ XT := xt_t (i := 116) (by decide +kernel) (by decide)
theorem ki_AL_growI : (Cond.instanceMethod ({ cls := "java/util/ArrayList", name := "grow", desc := "(I)[Ljava/lang/Object;" } : MethodName)) ∈ XT := xt_t (i := 118) (by decide +kernel) (by decide)
set_option maxRecDepth 20000 in
theorem kc_AL_growI : (Cond.code ({ cls := "java/util/ArrayList", name := "grow", desc := "(I)[Ljava/lang/Object;" } : MethodName) prog_15_method_6_code (4 : Nat) (Option.some (FieldType.array (FieldType.object "java/lang/Object")))) ∈ XT := xt_t (i := 119) (rfl) (by decide)
theorem m_AL_73 : (Cond.methodLink "java/util/ArrayList" (73 : Nat) ({ cls := "jdk/internal/util/ArraysSupport", name := "newLength", desc := "(III)I" } : MethodName)) ∈ XT := xt_t (i := 120) (by decide +kernel) (by decide)
theorem ks_AS_newLength : (Cond.static ({ cls := "jdk/internal/util/ArraysSupport", name := "newLength", desc := "(III)I" } : MethodName)) ∈ XT := xt_t (i := 121) (by decide +kernel) (by decide)
set_option maxRecDepth 20000 in
theorem kc_AS_newLength : (Cond.code ({ cls := "jdk/internal/util/ArraysSupport", name := "newLength", desc := "(III)I" } : MethodName) prog_22_method_27_code (4 : Nat) (Option.some FieldType.int)) ∈ XT := xt_t (i := 122) (rfl) (by decide)
theorem m_AS_194 : (Cond.methodLink "jdk/internal/util/ArraysSupport" (194 : Nat) ({ cls := "java/lang/Math", name := "max", desc := "(II)I" } : MethodName)) ∈ XT := xt_t (i := 123) (by decide +kernel) (by decide)
theorem ks_MA_max : (Cond.static ({ cls := "java/lang/Math", name := "max", desc := "(II)I" } : MethodName)) ∈ XT := xt_t (i := 124) (by decide +kernel) (by decide)
set_option maxRecDepth 20000 in
theorem kc_MA_max : (Cond.code ({ cls := "java/lang/Math", name := "max", desc := "(II)I" } : MethodName) prog_11_method_65_code (2 : Nat) (Option.some FieldType.int)) ∈ XT := xt_t (i := 125) (rfl) (by decide)
theorem kl_AS_200 : (Cond.constant "jdk/internal/util/ArraysSupport" (200 : Nat) (2147483639 : Int32)) ∈ XT := xt_t (i := 126) (by decide +kernel) (by decide)
theorem m_AS_201 : (Cond.methodLink "jdk/internal/util/ArraysSupport" (201 : Nat) ({ cls := "jdk/internal/util/ArraysSupport", name := "hugeLength", desc := "(II)I" } : MethodName)) ∈ XT := xt_t (i := 127) (by decide +kernel) (by decide)
theorem ks_AS_hugeLength : (Cond.static ({ cls := "jdk/internal/util/ArraysSupport", name := "hugeLength", desc := "(II)I" } : MethodName)) ∈ XT := xt_t (i := 128) (by decide +kernel) (by decide)
set_option maxRecDepth 20000 in
theorem kc_AS_hugeLength : (Cond.code ({ cls := "jdk/internal/util/ArraysSupport", name := "hugeLength", desc := "(II)I" } : MethodName) prog_22_method_28_code (3 : Nat) (Option.some FieldType.int)) ∈ XT := xt_t (i := 129) (rfl) (by decide)
theorem m_AL_66 : (Cond.methodLink "java/util/ArrayList" (66 : Nat) ({ cls := "java/util/Arrays", name := "copyOf", desc := "([Ljava/lang/Object;I)[Ljava/lang/Object;" } : MethodName)) ∈ XT := xt_t (i := 130) (by decide +kernel) (by decide)
theorem ks_AR_copyOf2 : (Cond.static ({ cls := "java/util/Arrays", name := "copyOf", desc := "([Ljava/lang/Object;I)[Ljava/lang/Object;" } : MethodName)) ∈ XT := xt_t (i := 131) (by decide +kernel) (by decide)
set_option maxRecDepth 20000 in
theorem kc_AR_copyOf2 : (Cond.code ({ cls := "java/util/Arrays", name := "copyOf", desc := "([Ljava/lang/Object;I)[Ljava/lang/Object;" } : MethodName) prog_16_method_119_code (2 : Nat) (Option.some (FieldType.array (FieldType.object "java/lang/Object")))) ∈ XT := xt_t (i := 132) (rfl) (by decide)
theorem m_AR_86 : (Cond.methodLink "java/util/Arrays" (86 : Nat) ({ cls := "java/lang/Object", name := "getClass", desc := "()Ljava/lang/Class;" } : MethodName)) ∈ XT := xt_t (i := 133) (by decide +kernel) (by decide)
theorem ki_OB_getClass : (Cond.instanceMethod ({ cls := "java/lang/Object", name := "getClass", desc := "()Ljava/lang/Class;" } : MethodName)) ∈ XT := xt_t (i := 134) (by decide +kernel) (by decide)
theorem kv_KF__OB_getClass : (Cond.selects "KeyedFiles" ({ cls := "java/lang/Object", name := "getClass", desc := "()Ljava/lang/Class;" } : MethodName) ({ cls := "java/lang/Object", name := "getClass", desc := "()Ljava/lang/Class;" } : MethodName)) ∈ XT := xt_t (i := 136) (by decide +kernel) (by decide)
theorem kv_EN__OB_getClass : (Cond.selects "KeyedFiles$Entry" ({ cls := "java/lang/Object", name := "getClass", desc := "()Ljava/lang/Class;" } : MethodName) ({ cls := "java/lang/Object", name := "getClass", desc := "()Ljava/lang/Class;" } : MethodName)) ∈ XT := xt_t (i := 137) (by decide +kernel) (by decide)
theorem kv_KI__OB_getClass : (Cond.selects "KeyedFiles$KeyIndex" ({ cls := "java/lang/Object", name := "getClass", desc := "()Ljava/lang/Class;" } : MethodName) ({ cls := "java/lang/Object", name := "getClass", desc := "()Ljava/lang/Class;" } : MethodName)) ∈ XT := xt_t (i := 138) (by decide +kernel) (by decide)
theorem kv_ST__OB_getClass : (Cond.selects "KeyedFiles$Stored" ({ cls := "java/lang/Object", name := "getClass", desc := "()Ljava/lang/Class;" } : MethodName) ({ cls := "java/lang/Object", name := "getClass", desc := "()Ljava/lang/Class;" } : MethodName)) ∈ XT := xt_t (i := 139) (by decide +kernel) (by decide)
theorem kv_VW__OB_getClass : (Cond.selects "KeyedFiles$View" ({ cls := "java/lang/Object", name := "getClass", desc := "()Ljava/lang/Class;" } : MethodName) ({ cls := "java/lang/Object", name := "getClass", desc := "()Ljava/lang/Class;" } : MethodName)) ∈ XT := xt_t (i := 140) (by decide +kernel) (by decide)
theorem kv_MD__OB_getClass : (Cond.selects "KeyedFilesModel" ({ cls := "java/lang/Object", name := "getClass", desc := "()Ljava/lang/Class;" } : MethodName) ({ cls := "java/lang/Object", name := "getClass", desc := "()Ljava/lang/Class;" } : MethodName)) ∈ XT := xt_t (i := 141) (by decide +kernel) (by decide)
theorem kv_AL__OB_getClass : (Cond.selects "java/util/ArrayList" ({ cls := "java/lang/Object", name := "getClass", desc := "()Ljava/lang/Class;" } : MethodName) ({ cls := "java/lang/Object", name := "getClass", desc := "()Ljava/lang/Class;" } : MethodName)) ∈ XT := xt_t (i := 142) (by decide +kernel) (by decide)
theorem kn_OB_getClass : (Cond.native ({ cls := "java/lang/Object", name := "getClass", desc := "()Ljava/lang/Class;" } : MethodName)) ∈ XT := xt_t (i := 143) (by decide +kernel) (by decide)
theorem m_AR_300 : (Cond.methodLink "java/util/Arrays" (300 : Nat) ({ cls := "java/util/Arrays", name := "copyOf", desc := "([Ljava/lang/Object;ILjava/lang/Class;)[Ljava/lang/Object;" } : MethodName)) ∈ XT := xt_t (i := 144) (by decide +kernel) (by decide)
theorem ks_AR_copyOf3 : (Cond.static ({ cls := "java/util/Arrays", name := "copyOf", desc := "([Ljava/lang/Object;ILjava/lang/Class;)[Ljava/lang/Object;" } : MethodName)) ∈ XT := xt_t (i := 145) (by decide +kernel) (by decide)
set_option maxRecDepth 20000 in
theorem kc_AR_copyOf3 : (Cond.code ({ cls := "java/util/Arrays", name := "copyOf", desc := "([Ljava/lang/Object;ILjava/lang/Class;)[Ljava/lang/Object;" } : MethodName) prog_16_method_120_code (4 : Nat) (Option.some (FieldType.array (FieldType.object "java/lang/Object")))) ∈ XT := xt_t (i := 146) (rfl) (by decide)
theorem cl_AR_110 : (Cond.classLink "java/util/Arrays" (110 : Nat) "[Ljava/lang/Object;") ∈ XT := xt_t (i := 147) (by decide +kernel) (by decide)
theorem cl_AR_2 : (Cond.classLink "java/util/Arrays" (2 : Nat) "java/lang/Object") ∈ XT := xt_t (i := 149) (by decide +kernel) (by decide)
theorem m_AR_304 : (Cond.methodLink "java/util/Arrays" (304 : Nat) ({ cls := "java/lang/Math", name := "min", desc := "(II)I" } : MethodName)) ∈ XT := xt_t (i := 150) (by decide +kernel) (by decide)
theorem ks_MA_min : (Cond.static ({ cls := "java/lang/Math", name := "min", desc := "(II)I" } : MethodName)) ∈ XT := xt_t (i := 151) (by decide +kernel) (by decide)
set_option maxRecDepth 20000 in
theorem kc_MA_min : (Cond.code ({ cls := "java/lang/Math", name := "min", desc := "(II)I" } : MethodName) prog_11_method_69_code (2 : Nat) (Option.some FieldType.int)) ∈ XT := xt_t (i := 152) (rfl) (by decide)
theorem m_AR_150 : (Cond.methodLink "java/util/Arrays" (150 : Nat) ({ cls := "java/lang/System", name := "arraycopy", desc := "(Ljava/lang/Object;ILjava/lang/Object;II)V" } : MethodName)) ∈ XT := xt_t (i := 153) (by decide +kernel) (by decide)
theorem ks_SY_arraycopy : (Cond.static ({ cls := "java/lang/System", name := "arraycopy", desc := "(Ljava/lang/Object;ILjava/lang/Object;II)V" } : MethodName)) ∈ XT := xt_t (i := 154) (by decide +kernel) (by decide)
theorem kn_SY_arraycopy : (Cond.native ({ cls := "java/lang/System", name := "arraycopy", desc := "(Ljava/lang/Object;ILjava/lang/Object;II)V" } : MethodName)) ∈ XT := xt_t (i := 155) (by decide +kernel) (by decide)
theorem m_AL_79 : (Cond.methodLink "java/util/ArrayList" (79 : Nat) ({ cls := "java/lang/Math", name := "max", desc := "(II)I" } : MethodName)) ∈ XT := xt_t (i := 156) (by decide +kernel) (by decide)
theorem cl_AL_7 : (Cond.classLink "java/util/ArrayList" (7 : Nat) "java/lang/Object") ∈ XT := xt_t (i := 157) (by decide +kernel) (by decide)
theorem m_LW_20 : (Cond.methodLink "KeyedFilesLaw" (20 : Nat) ({ cls := "KeyedFiles", name := "sparse", desc := "(IJ)I" } : MethodName)) ∈ XT := xt_t (i := 158) (by decide +kernel) (by decide)
theorem ki_KF_sparse : (Cond.instanceMethod ({ cls := "KeyedFiles", name := "sparse", desc := "(IJ)I" } : MethodName)) ∈ XT := xt_t (i := 159) (by decide +kernel) (by decide)
theorem kv_KF_sparse : (Cond.selects "KeyedFiles" ({ cls := "KeyedFiles", name := "sparse", desc := "(IJ)I" } : MethodName) ({ cls := "KeyedFiles", name := "sparse", desc := "(IJ)I" } : MethodName)) ∈ XT := xt_t (i := 160) (by decide +kernel) (by decide)
set_option maxRecDepth 20000 in
theorem kc_KF_sparse : (Cond.code ({ cls := "KeyedFiles", name := "sparse", desc := "(IJ)I" } : MethodName) prog_1_method_3_code (5 : Nat) (Option.some FieldType.int)) ∈ XT := xt_t (i := 161) (rfl) (by decide)
theorem m_KF_36 : (Cond.methodLink "KeyedFiles" (36 : Nat) ({ cls := "KeyedFiles", name := "indexAt", desc := "(I)LKeyedFiles$KeyIndex;" } : MethodName)) ∈ XT := xt_t (i := 162) (by decide +kernel) (by decide)
theorem ki_KF_indexAt : (Cond.instanceMethod ({ cls := "KeyedFiles", name := "indexAt", desc := "(I)LKeyedFiles$KeyIndex;" } : MethodName)) ∈ XT := xt_t (i := 164) (by decide +kernel) (by decide)
set_option maxRecDepth 20000 in
theorem kc_KF_indexAt : (Cond.code ({ cls := "KeyedFiles", name := "indexAt", desc := "(I)LKeyedFiles$KeyIndex;" } : MethodName) prog_1_method_18_code (2 : Nat) (Option.some (FieldType.object "KeyedFiles$KeyIndex"))) ∈ XT := xt_t (i := 165) (rfl) (by decide)
theorem m_KF_177 : (Cond.methodLink "KeyedFiles" (177 : Nat) ({ cls := "java/util/ArrayList", name := "get", desc := "(I)Ljava/lang/Object;" } : MethodName)) ∈ XT := xt_t (i := 166) (by decide +kernel) (by decide)
theorem ki_AL_get : (Cond.instanceMethod ({ cls := "java/util/ArrayList", name := "get", desc := "(I)Ljava/lang/Object;" } : MethodName)) ∈ XT := xt_t (i := 167) (by decide +kernel) (by decide)
theorem kv_AL_get : (Cond.selects "java/util/ArrayList" ({ cls := "java/util/ArrayList", name := "get", desc := "(I)Ljava/lang/Object;" } : MethodName) ({ cls := "java/util/ArrayList", name := "get", desc := "(I)Ljava/lang/Object;" } : MethodName)) ∈ XT := xt_t (i := 168) (by decide +kernel) (by decide)
set_option maxRecDepth 20000 in
theorem kc_AL_get : (Cond.code ({ cls := "java/util/ArrayList", name := "get", desc := "(I)Ljava/lang/Object;" } : MethodName) prog_15_method_20_code (2 : Nat) (Option.some (FieldType.object "java/lang/Object"))) ∈ XT := xt_t (i := 169) (rfl) (by decide)
theorem m_AL_118 : (Cond.methodLink "java/util/ArrayList" (118 : Nat) ({ cls := "java/util/Objects", name := "checkIndex", desc := "(II)I" } : MethodName)) ∈ XT := xt_t (i := 170) (by decide +kernel) (by decide)
theorem ks_OJ_checkIndex : (Cond.static ({ cls := "java/util/Objects", name := "checkIndex", desc := "(II)I" } : MethodName)) ∈ XT := xt_t (i := 171) (by decide +kernel) (by decide)
set_option maxRecDepth 20000 in
theorem kc_OJ_checkIndex : (Cond.code ({ cls := "java/util/Objects", name := "checkIndex", desc := "(II)I" } : MethodName) prog_19_method_17_code (2 : Nat) (Option.some FieldType.int)) ∈ XT := xt_t (i := 172) (rfl) (by decide)
theorem m_OJ_105 : (Cond.methodLink "java/util/Objects" (105 : Nat) ({ cls := "jdk/internal/util/Preconditions", name := "checkIndex", desc := "(IILjava/util/function/BiFunction;)I" } : MethodName)) ∈ XT := xt_t (i := 173) (by decide +kernel) (by decide)
theorem ks_PC_checkIndex : (Cond.static ({ cls := "jdk/internal/util/Preconditions", name := "checkIndex", desc := "(IILjava/util/function/BiFunction;)I" } : MethodName)) ∈ XT := xt_t (i := 174) (by decide +kernel) (by decide)
set_option maxRecDepth 20000 in
theorem kc_PC_checkIndex : (Cond.code ({ cls := "jdk/internal/util/Preconditions", name := "checkIndex", desc := "(IILjava/util/function/BiFunction;)I" } : MethodName) prog_23_method_11_code (3 : Nat) (Option.some FieldType.int)) ∈ XT := xt_t (i := 175) (rfl) (by decide)
theorem m_AL_123 : (Cond.methodLink "java/util/ArrayList" (123 : Nat) ({ cls := "java/util/ArrayList", name := "elementData", desc := "(I)Ljava/lang/Object;" } : MethodName)) ∈ XT := xt_t (i := 176) (by decide +kernel) (by decide)
theorem ki_AL_elementData : (Cond.instanceMethod ({ cls := "java/util/ArrayList", name := "elementData", desc := "(I)Ljava/lang/Object;" } : MethodName)) ∈ XT := xt_t (i := 177) (by decide +kernel) (by decide)
theorem kv_AL_elementData : (Cond.selects "java/util/ArrayList" ({ cls := "java/util/ArrayList", name := "elementData", desc := "(I)Ljava/lang/Object;" } : MethodName) ({ cls := "java/util/ArrayList", name := "elementData", desc := "(I)Ljava/lang/Object;" } : MethodName)) ∈ XT := xt_t (i := 178) (by decide +kernel) (by decide)
set_option maxRecDepth 20000 in
theorem kc_AL_elementData : (Cond.code ({ cls := "java/util/ArrayList", name := "elementData", desc := "(I)Ljava/lang/Object;" } : MethodName) prog_15_method_18_code (2 : Nat) (Option.some (FieldType.object "java/lang/Object"))) ∈ XT := xt_t (i := 179) (rfl) (by decide)
theorem m_KF_40 : (Cond.methodLink "KeyedFiles" (40 : Nat) ({ cls := "KeyedFiles$KeyIndex", name := "leaveOut", desc := "(J)V" } : MethodName)) ∈ XT := xt_t (i := 180) (by decide +kernel) (by decide)
theorem ki_KI_leaveOut : (Cond.instanceMethod ({ cls := "KeyedFiles$KeyIndex", name := "leaveOut", desc := "(J)V" } : MethodName)) ∈ XT := xt_t (i := 181) (by decide +kernel) (by decide)
theorem kv_KI_leaveOut : (Cond.selects "KeyedFiles$KeyIndex" ({ cls := "KeyedFiles$KeyIndex", name := "leaveOut", desc := "(J)V" } : MethodName) ({ cls := "KeyedFiles$KeyIndex", name := "leaveOut", desc := "(J)V" } : MethodName)) ∈ XT := xt_t (i := 182) (by decide +kernel) (by decide)
set_option maxRecDepth 20000 in
theorem kc_KI_leaveOut : (Cond.code ({ cls := "KeyedFiles$KeyIndex", name := "leaveOut", desc := "(J)V" } : MethodName) prog_3_method_2_code (3 : Nat) (Option.none : Option FieldType)) ∈ XT := xt_t (i := 183) (rfl) (by decide)
theorem m_LW_25 : (Cond.methodLink "KeyedFilesLaw" (25 : Nat) ({ cls := "KeyedFiles", name := "view", desc := "()I" } : MethodName)) ∈ XT := xt_t (i := 184) (by decide +kernel) (by decide)
theorem ki_KF_view : (Cond.instanceMethod ({ cls := "KeyedFiles", name := "view", desc := "()I" } : MethodName)) ∈ XT := xt_t (i := 185) (by decide +kernel) (by decide)
theorem kv_KF_view : (Cond.selects "KeyedFiles" ({ cls := "KeyedFiles", name := "view", desc := "()I" } : MethodName) ({ cls := "KeyedFiles", name := "view", desc := "()I" } : MethodName)) ∈ XT := xt_t (i := 186) (by decide +kernel) (by decide)
set_option maxRecDepth 20000 in
theorem kc_KF_view : (Cond.code ({ cls := "KeyedFiles", name := "view", desc := "()I" } : MethodName) prog_1_method_4_code (2 : Nat) (Option.some FieldType.int)) ∈ XT := xt_t (i := 187) (rfl) (by decide)
theorem m_KF_44 : (Cond.methodLink "KeyedFiles" (44 : Nat) ({ cls := "java/util/ArrayList", name := "isEmpty", desc := "()Z" } : MethodName)) ∈ XT := xt_t (i := 188) (by decide +kernel) (by decide)
theorem ki_AL_isEmpty : (Cond.instanceMethod ({ cls := "java/util/ArrayList", name := "isEmpty", desc := "()Z" } : MethodName)) ∈ XT := xt_t (i := 189) (by decide +kernel) (by decide)
theorem kv_AL_isEmpty : (Cond.selects "java/util/ArrayList" ({ cls := "java/util/ArrayList", name := "isEmpty", desc := "()Z" } : MethodName) ({ cls := "java/util/ArrayList", name := "isEmpty", desc := "()Z" } : MethodName)) ∈ XT := xt_t (i := 190) (by decide +kernel) (by decide)
set_option maxRecDepth 20000 in
theorem kc_AL_isEmpty : (Cond.code ({ cls := "java/util/ArrayList", name := "isEmpty", desc := "()Z" } : MethodName) prog_15_method_9_code (1 : Nat) (Option.some FieldType.boolean)) ∈ XT := xt_t (i := 191) (rfl) (by decide)
theorem cl_KF_48 : (Cond.classLink "KeyedFiles" (48 : Nat) "KeyedFiles$View") ∈ XT := xt_t (i := 192) (by decide +kernel) (by decide)
theorem kb_VW : (Cond.instantiable "KeyedFiles$View" (12 : Nat)) ∈ XT := xt_t (i := 193) (by decide +kernel) (by decide)
theorem ki_VW_init : (Cond.instanceMethod ({ cls := "KeyedFiles$View", name := "<init>", desc := "()V" } : MethodName)) ∈ XT := xt_t (i := 195) (by decide +kernel) (by decide)
set_option maxRecDepth 20000 in
theorem kc_VW_init : (Cond.code ({ cls := "KeyedFiles$View", name := "<init>", desc := "()V" } : MethodName) prog_5_method_1_code (1 : Nat) (Option.none : Option FieldType)) ∈ XT := xt_t (i := 196) (rfl) (by decide)
theorem m_VW_3 : (Cond.methodLink "KeyedFiles$View" (3 : Nat) ({ cls := "java/lang/Object", name := "<init>", desc := "()V" } : MethodName)) ∈ XT := xt_t (i := 197) (by decide +kernel) (by decide)
theorem f_VW_9 : (Cond.fieldLink "KeyedFiles$View" (9 : Nat) "KeyedFiles$View" "isOpen" "Z") ∈ XT := xt_t (i := 198) (by decide +kernel) (by decide)
theorem f_KF_55 : (Cond.fieldLink "KeyedFiles" (55 : Nat) "KeyedFiles$View" "isOpen" "Z") ∈ XT := xt_t (i := 199) (by decide +kernel) (by decide)
theorem f_VW_15 : (Cond.fieldLink "KeyedFiles$View" (15 : Nat) "KeyedFiles$View" "mode" "I") ∈ XT := xt_t (i := 200) (by decide +kernel) (by decide)
theorem f_KF_209 : (Cond.fieldLink "KeyedFiles" (209 : Nat) "KeyedFiles$View" "mode" "I") ∈ XT := xt_t (i := 201) (by decide +kernel) (by decide)
theorem f_VW_19 : (Cond.fieldLink "KeyedFiles$View" (19 : Nat) "KeyedFiles$View" "access" "I") ∈ XT := xt_t (i := 202) (by decide +kernel) (by decide)
theorem f_KF_71 : (Cond.fieldLink "KeyedFiles" (71 : Nat) "KeyedFiles$View" "access" "I") ∈ XT := xt_t (i := 203) (by decide +kernel) (by decide)
theorem f_VW_22 : (Cond.fieldLink "KeyedFiles$View" (22 : Nat) "KeyedFiles$View" "keyOfReference" "I") ∈ XT := xt_t (i := 204) (by decide +kernel) (by decide)
theorem f_KF_105 : (Cond.fieldLink "KeyedFiles" (105 : Nat) "KeyedFiles$View" "keyOfReference" "I") ∈ XT := xt_t (i := 205) (by decide +kernel) (by decide)
theorem f_VW_25 : (Cond.fieldLink "KeyedFiles$View" (25 : Nat) "KeyedFiles$View" "place" "I") ∈ XT := xt_t (i := 206) (by decide +kernel) (by decide)
theorem f_KI_90 : (Cond.fieldLink "KeyedFiles$KeyIndex" (90 : Nat) "KeyedFiles$View" "place" "I") ∈ XT := xt_t (i := 207) (by decide +kernel) (by decide)
theorem f_KF_133 : (Cond.fieldLink "KeyedFiles" (133 : Nat) "KeyedFiles$View" "place" "I") ∈ XT := xt_t (i := 208) (by decide +kernel) (by decide)
theorem f_VW_50 : (Cond.fieldLink "KeyedFiles$View" (50 : Nat) "KeyedFiles$View" "placeField" "J") ∈ XT := xt_t (i := 209) (by decide +kernel) (by decide)
theorem f_KI_98 : (Cond.fieldLink "KeyedFiles$KeyIndex" (98 : Nat) "KeyedFiles$View" "placeField" "J") ∈ XT := xt_t (i := 210) (by decide +kernel) (by decide)
theorem f_VW_56 : (Cond.fieldLink "KeyedFiles$View" (56 : Nat) "KeyedFiles$View" "placeCame" "J") ∈ XT := xt_t (i := 211) (by decide +kernel) (by decide)
theorem f_KI_95 : (Cond.fieldLink "KeyedFiles$KeyIndex" (95 : Nat) "KeyedFiles$View" "placeCame" "J") ∈ XT := xt_t (i := 212) (by decide +kernel) (by decide)
theorem f_VW_28 : (Cond.fieldLink "KeyedFiles$View" (28 : Nat) "KeyedFiles$View" "isAtEnd" "Z") ∈ XT := xt_t (i := 213) (by decide +kernel) (by decide)
theorem f_KF_136 : (Cond.fieldLink "KeyedFiles" (136 : Nat) "KeyedFiles$View" "isAtEnd" "Z") ∈ XT := xt_t (i := 214) (by decide +kernel) (by decide)
theorem f_VW_37 : (Cond.fieldLink "KeyedFiles$View" (37 : Nat) "KeyedFiles$View" "readLast" "LKeyedFiles$Stored;") ∈ XT := xt_t (i := 215) (by decide +kernel) (by decide)
theorem f_KF_238 : (Cond.fieldLink "KeyedFiles" (238 : Nat) "KeyedFiles$View" "readLast" "LKeyedFiles$Stored;") ∈ XT := xt_t (i := 216) (by decide +kernel) (by decide)
theorem f_VW_41 : (Cond.fieldLink "KeyedFiles$View" (41 : Nat) "KeyedFiles$View" "valueRead" "J") ∈ XT := xt_t (i := 217) (by decide +kernel) (by decide)
theorem f_KF_119 : (Cond.fieldLink "KeyedFiles" (119 : Nat) "KeyedFiles$View" "valueRead" "J") ∈ XT := xt_t (i := 218) (by decide +kernel) (by decide)
theorem f_VW_31 : (Cond.fieldLink "KeyedFiles$View" (31 : Nat) "KeyedFiles$View" "hasWritten" "Z") ∈ XT := xt_t (i := 219) (by decide +kernel) (by decide)
theorem f_KF_199 : (Cond.fieldLink "KeyedFiles" (199 : Nat) "KeyedFiles$View" "hasWritten" "Z") ∈ XT := xt_t (i := 220) (by decide +kernel) (by decide)
theorem f_VW_71 : (Cond.fieldLink "KeyedFiles$View" (71 : Nat) "KeyedFiles$View" "primeWritten" "J") ∈ XT := xt_t (i := 221) (by decide +kernel) (by decide)
theorem f_KF_202 : (Cond.fieldLink "KeyedFiles" (202 : Nat) "KeyedFiles$View" "primeWritten" "J") ∈ XT := xt_t (i := 222) (by decide +kernel) (by decide)
theorem m_LW_30 : (Cond.methodLink "KeyedFilesLaw" (30 : Nat) ({ cls := "KeyedFiles", name := "open", desc := "(III)I" } : MethodName)) ∈ XT := xt_t (i := 248) (by decide +kernel) (by decide)
theorem ki_KF_open : (Cond.instanceMethod ({ cls := "KeyedFiles", name := "open", desc := "(III)I" } : MethodName)) ∈ XT := xt_t (i := 249) (by decide +kernel) (by decide)
theorem kv_KF_open : (Cond.selects "KeyedFiles" ({ cls := "KeyedFiles", name := "open", desc := "(III)I" } : MethodName) ({ cls := "KeyedFiles", name := "open", desc := "(III)I" } : MethodName)) ∈ XT := xt_t (i := 250) (by decide +kernel) (by decide)
set_option maxRecDepth 20000 in
theorem kc_KF_open : (Cond.code ({ cls := "KeyedFiles", name := "open", desc := "(III)I" } : MethodName) prog_1_method_5_code (5 : Nat) (Option.some FieldType.int)) ∈ XT := xt_t (i := 251) (rfl) (by decide)
theorem m_KF_51 : (Cond.methodLink "KeyedFiles" (51 : Nat) ({ cls := "KeyedFiles", name := "viewAt", desc := "(I)LKeyedFiles$View;" } : MethodName)) ∈ XT := xt_t (i := 252) (by decide +kernel) (by decide)
theorem ki_KF_viewAt : (Cond.instanceMethod ({ cls := "KeyedFiles", name := "viewAt", desc := "(I)LKeyedFiles$View;" } : MethodName)) ∈ XT := xt_t (i := 254) (by decide +kernel) (by decide)
set_option maxRecDepth 20000 in
theorem kc_KF_viewAt : (Cond.code ({ cls := "KeyedFiles", name := "viewAt", desc := "(I)LKeyedFiles$View;" } : MethodName) prog_1_method_19_code (2 : Nat) (Option.some (FieldType.object "KeyedFiles$View"))) ∈ XT := xt_t (i := 255) (rfl) (by decide)
theorem m_KF_58 : (Cond.methodLink "KeyedFiles" (58 : Nat) ({ cls := "KeyedFiles", name := "dropAllRecords", desc := "()V" } : MethodName)) ∈ XT := xt_t (i := 256) (by decide +kernel) (by decide)
theorem ki_KF_dropAllRecords : (Cond.instanceMethod ({ cls := "KeyedFiles", name := "dropAllRecords", desc := "()V" } : MethodName)) ∈ XT := xt_t (i := 258) (by decide +kernel) (by decide)
set_option maxRecDepth 20000 in
theorem kc_KF_dropAllRecords : (Cond.code ({ cls := "KeyedFiles", name := "dropAllRecords", desc := "()V" } : MethodName) prog_1_method_28_code (2 : Nat) (Option.none : Option FieldType)) ∈ XT := xt_t (i := 259) (rfl) (by decide)
theorem m_KF_235 : (Cond.methodLink "KeyedFiles" (235 : Nat) ({ cls := "java/util/ArrayList", name := "clear", desc := "()V" } : MethodName)) ∈ XT := xt_t (i := 260) (by decide +kernel) (by decide)
theorem ki_AL_clear : (Cond.instanceMethod ({ cls := "java/util/ArrayList", name := "clear", desc := "()V" } : MethodName)) ∈ XT := xt_t (i := 261) (by decide +kernel) (by decide)
theorem kv_AL_clear : (Cond.selects "java/util/ArrayList" ({ cls := "java/util/ArrayList", name := "clear", desc := "()V" } : MethodName) ({ cls := "java/util/ArrayList", name := "clear", desc := "()V" } : MethodName)) ∈ XT := xt_t (i := 262) (by decide +kernel) (by decide)
set_option maxRecDepth 20000 in
theorem kc_AL_clear : (Cond.code ({ cls := "java/util/ArrayList", name := "clear", desc := "()V" } : MethodName) prog_15_method_40_code (4 : Nat) (Option.none : Option FieldType)) ∈ XT := xt_t (i := 263) (rfl) (by decide)
theorem m_KF_65 : (Cond.methodLink "KeyedFiles" (65 : Nat) ({ cls := "KeyedFiles$View", name := "forgetRead", desc := "()V" } : MethodName)) ∈ XT := xt_t (i := 264) (by decide +kernel) (by decide)
theorem ki_VW_forgetRead : (Cond.instanceMethod ({ cls := "KeyedFiles$View", name := "forgetRead", desc := "()V" } : MethodName)) ∈ XT := xt_t (i := 265) (by decide +kernel) (by decide)
theorem kv_VW_forgetRead : (Cond.selects "KeyedFiles$View" ({ cls := "KeyedFiles$View", name := "forgetRead", desc := "()V" } : MethodName) ({ cls := "KeyedFiles$View", name := "forgetRead", desc := "()V" } : MethodName)) ∈ XT := xt_t (i := 266) (by decide +kernel) (by decide)
set_option maxRecDepth 20000 in
theorem kc_VW_forgetRead : (Cond.code ({ cls := "KeyedFiles$View", name := "forgetRead", desc := "()V" } : MethodName) prog_5_method_3_code (1 : Nat) (Option.none : Option FieldType)) ∈ XT := xt_t (i := 267) (rfl) (by decide)
theorem m_KF_112 : (Cond.methodLink "KeyedFiles" (112 : Nat) ({ cls := "KeyedFiles$View", name := "lose", desc := "()V" } : MethodName)) ∈ XT := xt_t (i := 268) (by decide +kernel) (by decide)
theorem ki_VW_lose : (Cond.instanceMethod ({ cls := "KeyedFiles$View", name := "lose", desc := "()V" } : MethodName)) ∈ XT := xt_t (i := 269) (by decide +kernel) (by decide)
theorem kv_VW_lose : (Cond.selects "KeyedFiles$View" ({ cls := "KeyedFiles$View", name := "lose", desc := "()V" } : MethodName) ({ cls := "KeyedFiles$View", name := "lose", desc := "()V" } : MethodName)) ∈ XT := xt_t (i := 270) (by decide +kernel) (by decide)
set_option maxRecDepth 20000 in
theorem kc_VW_lose : (Cond.code ({ cls := "KeyedFiles$View", name := "lose", desc := "()V" } : MethodName) prog_5_method_4_code (1 : Nat) (Option.none : Option FieldType)) ∈ XT := xt_t (i := 271) (rfl) (by decide)
theorem m_KF_61 : (Cond.methodLink "KeyedFiles" (61 : Nat) ({ cls := "KeyedFiles$View", name := "begin", desc := "(II)V" } : MethodName)) ∈ XT := xt_t (i := 272) (by decide +kernel) (by decide)
theorem ki_VW_begin : (Cond.instanceMethod ({ cls := "KeyedFiles$View", name := "begin", desc := "(II)V" } : MethodName)) ∈ XT := xt_t (i := 273) (by decide +kernel) (by decide)
theorem kv_VW_begin : (Cond.selects "KeyedFiles$View" ({ cls := "KeyedFiles$View", name := "begin", desc := "(II)V" } : MethodName) ({ cls := "KeyedFiles$View", name := "begin", desc := "(II)V" } : MethodName)) ∈ XT := xt_t (i := 274) (by decide +kernel) (by decide)
set_option maxRecDepth 20000 in
theorem kc_VW_begin : (Cond.code ({ cls := "KeyedFiles$View", name := "begin", desc := "(II)V" } : MethodName) prog_5_method_2_code (3 : Nat) (Option.none : Option FieldType)) ∈ XT := xt_t (i := 275) (rfl) (by decide)
theorem m_VW_34 : (Cond.methodLink "KeyedFiles$View" (34 : Nat) ({ cls := "KeyedFiles$View", name := "forgetRead", desc := "()V" } : MethodName)) ∈ XT := xt_t (i := 276) (by decide +kernel) (by decide)
theorem m_LW_35 : (Cond.methodLink "KeyedFilesLaw" (35 : Nat) ({ cls := "KeyedFiles", name := "close", desc := "(I)I" } : MethodName)) ∈ XT := xt_t (i := 277) (by decide +kernel) (by decide)
theorem ki_KF_close : (Cond.instanceMethod ({ cls := "KeyedFiles", name := "close", desc := "(I)I" } : MethodName)) ∈ XT := xt_t (i := 278) (by decide +kernel) (by decide)
theorem kv_KF_close : (Cond.selects "KeyedFiles" ({ cls := "KeyedFiles", name := "close", desc := "(I)I" } : MethodName) ({ cls := "KeyedFiles", name := "close", desc := "(I)I" } : MethodName)) ∈ XT := xt_t (i := 279) (by decide +kernel) (by decide)
set_option maxRecDepth 20000 in
theorem kc_KF_close : (Cond.code ({ cls := "KeyedFiles", name := "close", desc := "(I)I" } : MethodName) prog_1_method_6_code (3 : Nat) (Option.some FieldType.int)) ∈ XT := xt_t (i := 280) (rfl) (by decide)
theorem m_LW_40 : (Cond.methodLink "KeyedFilesLaw" (40 : Nat) ({ cls := "KeyedFiles", name := "write", desc := "(IJ)I" } : MethodName)) ∈ XT := xt_t (i := 281) (by decide +kernel) (by decide)
theorem ki_KF_write : (Cond.instanceMethod ({ cls := "KeyedFiles", name := "write", desc := "(IJ)I" } : MethodName)) ∈ XT := xt_t (i := 282) (by decide +kernel) (by decide)
theorem kv_KF_write : (Cond.selects "KeyedFiles" ({ cls := "KeyedFiles", name := "write", desc := "(IJ)I" } : MethodName) ({ cls := "KeyedFiles", name := "write", desc := "(IJ)I" } : MethodName)) ∈ XT := xt_t (i := 283) (by decide +kernel) (by decide)
set_option maxRecDepth 20000 in
theorem kc_KF_write : (Cond.code ({ cls := "KeyedFiles", name := "write", desc := "(IJ)I" } : MethodName) prog_1_method_7_code (6 : Nat) (Option.some FieldType.int)) ∈ XT := xt_t (i := 284) (rfl) (by decide)
theorem m_KF_68 : (Cond.methodLink "KeyedFiles" (68 : Nat) ({ cls := "KeyedFiles$View", name := "refusalToWrite", desc := "()I" } : MethodName)) ∈ XT := xt_t (i := 285) (by decide +kernel) (by decide)
theorem ki_VW_refusalToWrite : (Cond.instanceMethod ({ cls := "KeyedFiles$View", name := "refusalToWrite", desc := "()I" } : MethodName)) ∈ XT := xt_t (i := 286) (by decide +kernel) (by decide)
theorem kv_VW_refusalToWrite : (Cond.selects "KeyedFiles$View" ({ cls := "KeyedFiles$View", name := "refusalToWrite", desc := "()I" } : MethodName) ({ cls := "KeyedFiles$View", name := "refusalToWrite", desc := "()I" } : MethodName)) ∈ XT := xt_t (i := 287) (by decide +kernel) (by decide)
set_option maxRecDepth 20000 in
theorem kc_VW_refusalToWrite : (Cond.code ({ cls := "KeyedFiles$View", name := "refusalToWrite", desc := "()I" } : MethodName) prog_5_method_9_code (1 : Nat) (Option.some FieldType.int)) ∈ XT := xt_t (i := 288) (rfl) (by decide)
theorem m_KF_75 : (Cond.methodLink "KeyedFiles" (75 : Nat) ({ cls := "KeyedFiles", name := "isOutOfOrder", desc := "(LKeyedFiles$View;J)Z" } : MethodName)) ∈ XT := xt_t (i := 289) (by decide +kernel) (by decide)
theorem ki_KF_isOutOfOrder : (Cond.instanceMethod ({ cls := "KeyedFiles", name := "isOutOfOrder", desc := "(LKeyedFiles$View;J)Z" } : MethodName)) ∈ XT := xt_t (i := 291) (by decide +kernel) (by decide)
set_option maxRecDepth 20000 in
theorem kc_KF_isOutOfOrder : (Cond.code ({ cls := "KeyedFiles", name := "isOutOfOrder", desc := "(LKeyedFiles$View;J)Z" } : MethodName) prog_1_method_22_code (8 : Nat) (Option.some FieldType.boolean)) ∈ XT := xt_t (i := 292) (rfl) (by decide)
theorem m_KF_87 : (Cond.methodLink "KeyedFiles" (87 : Nat) ({ cls := "KeyedFiles", name := "fieldOf", desc := "(IJ)J" } : MethodName)) ∈ XT := xt_t (i := 293) (by decide +kernel) (by decide)
theorem ki_KF_fieldOf : (Cond.instanceMethod ({ cls := "KeyedFiles", name := "fieldOf", desc := "(IJ)J" } : MethodName)) ∈ XT := xt_t (i := 295) (by decide +kernel) (by decide)
set_option maxRecDepth 20000 in
theorem kc_KF_fieldOf : (Cond.code ({ cls := "KeyedFiles", name := "fieldOf", desc := "(IJ)J" } : MethodName) prog_1_method_21_code (5 : Nat) (Option.some FieldType.long)) ∈ XT := xt_t (i := 296) (rfl) (by decide)
theorem m_KF_195 : (Cond.methodLink "KeyedFiles" (195 : Nat) ({ cls := "KeyedFiles$KeyIndex", name := "fieldIn", desc := "(J)J" } : MethodName)) ∈ XT := xt_t (i := 297) (by decide +kernel) (by decide)
theorem ki_KI_fieldIn : (Cond.instanceMethod ({ cls := "KeyedFiles$KeyIndex", name := "fieldIn", desc := "(J)J" } : MethodName)) ∈ XT := xt_t (i := 298) (by decide +kernel) (by decide)
theorem kv_KI_fieldIn : (Cond.selects "KeyedFiles$KeyIndex" ({ cls := "KeyedFiles$KeyIndex", name := "fieldIn", desc := "(J)J" } : MethodName) ({ cls := "KeyedFiles$KeyIndex", name := "fieldIn", desc := "(J)J" } : MethodName)) ∈ XT := xt_t (i := 299) (by decide +kernel) (by decide)
set_option maxRecDepth 20000 in
theorem kc_KI_fieldIn : (Cond.code ({ cls := "KeyedFiles$KeyIndex", name := "fieldIn", desc := "(J)J" } : MethodName) prog_3_method_4_code (3 : Nat) (Option.some FieldType.long)) ∈ XT := xt_t (i := 300) (rfl) (by decide)
theorem m_KF_205 : (Cond.methodLink "KeyedFiles" (205 : Nat) ({ cls := "KeyedFiles", name := "isBelow", desc := "(JJ)Z" } : MethodName)) ∈ XT := xt_t (i := 301) (by decide +kernel) (by decide)
theorem ks_KF_isBelow : (Cond.static ({ cls := "KeyedFiles", name := "isBelow", desc := "(JJ)Z" } : MethodName)) ∈ XT := xt_t (i := 302) (by decide +kernel) (by decide)
set_option maxRecDepth 20000 in
theorem kc_KF_isBelow : (Cond.code ({ cls := "KeyedFiles", name := "isBelow", desc := "(JJ)Z" } : MethodName) prog_1_method_32_code (4 : Nat) (Option.some FieldType.boolean)) ∈ XT := xt_t (i := 303) (rfl) (by decide)
theorem kl_KF_251 : (Cond.constantLong "KeyedFiles" (251 : Nat) (-9223372036854775808 : Int64)) ∈ XT := xt_t (i := 304) (by decide +kernel) (by decide)
theorem m_KF_167 : (Cond.methodLink "KeyedFiles" (167 : Nat) ({ cls := "KeyedFiles$KeyIndex", name := "entryAt", desc := "(I)LKeyedFiles$Entry;" } : MethodName)) ∈ XT := xt_t (i := 305) (by decide +kernel) (by decide)
theorem ki_KI_entryAt : (Cond.instanceMethod ({ cls := "KeyedFiles$KeyIndex", name := "entryAt", desc := "(I)LKeyedFiles$Entry;" } : MethodName)) ∈ XT := xt_t (i := 306) (by decide +kernel) (by decide)
theorem kv_KI_entryAt : (Cond.selects "KeyedFiles$KeyIndex" ({ cls := "KeyedFiles$KeyIndex", name := "entryAt", desc := "(I)LKeyedFiles$Entry;" } : MethodName) ({ cls := "KeyedFiles$KeyIndex", name := "entryAt", desc := "(I)LKeyedFiles$Entry;" } : MethodName)) ∈ XT := xt_t (i := 307) (by decide +kernel) (by decide)
set_option maxRecDepth 20000 in
theorem kc_KI_entryAt : (Cond.code ({ cls := "KeyedFiles$KeyIndex", name := "entryAt", desc := "(I)LKeyedFiles$Entry;" } : MethodName) prog_3_method_5_code (2 : Nat) (Option.some (FieldType.object "KeyedFiles$Entry"))) ∈ XT := xt_t (i := 308) (rfl) (by decide)
theorem m_KI_36 : (Cond.methodLink "KeyedFiles$KeyIndex" (36 : Nat) ({ cls := "java/util/ArrayList", name := "size", desc := "()I" } : MethodName)) ∈ XT := xt_t (i := 309) (by decide +kernel) (by decide)
theorem m_KI_39 : (Cond.methodLink "KeyedFiles$KeyIndex" (39 : Nat) ({ cls := "java/util/ArrayList", name := "get", desc := "(I)Ljava/lang/Object;" } : MethodName)) ∈ XT := xt_t (i := 310) (by decide +kernel) (by decide)
theorem cl_KI_43 : (Cond.classLink "KeyedFiles$KeyIndex" (43 : Nat) "KeyedFiles$Entry") ∈ XT := xt_t (i := 311) (by decide +kernel) (by decide)
theorem m_KF_79 : (Cond.methodLink "KeyedFiles" (79 : Nat) ({ cls := "KeyedFiles", name := "hasBarredDouble", desc := "(JLKeyedFiles$Stored;)Z" } : MethodName)) ∈ XT := xt_t (i := 312) (by decide +kernel) (by decide)
theorem ki_KF_hasBarredDouble : (Cond.instanceMethod ({ cls := "KeyedFiles", name := "hasBarredDouble", desc := "(JLKeyedFiles$Stored;)Z" } : MethodName)) ∈ XT := xt_t (i := 314) (by decide +kernel) (by decide)
set_option maxRecDepth 20000 in
theorem kc_KF_hasBarredDouble : (Cond.code ({ cls := "KeyedFiles", name := "hasBarredDouble", desc := "(JLKeyedFiles$Stored;)Z" } : MethodName) prog_1_method_23_code (7 : Nat) (Option.some FieldType.boolean)) ∈ XT := xt_t (i := 315) (rfl) (by decide)
theorem m_KF_108 : (Cond.methodLink "KeyedFiles" (108 : Nat) ({ cls := "KeyedFiles$KeyIndex", name := "firstEqual", desc := "(J)LKeyedFiles$Entry;" } : MethodName)) ∈ XT := xt_t (i := 316) (by decide +kernel) (by decide)
theorem ki_KI_firstEqual : (Cond.instanceMethod ({ cls := "KeyedFiles$KeyIndex", name := "firstEqual", desc := "(J)LKeyedFiles$Entry;" } : MethodName)) ∈ XT := xt_t (i := 317) (by decide +kernel) (by decide)
theorem kv_KI_firstEqual : (Cond.selects "KeyedFiles$KeyIndex" ({ cls := "KeyedFiles$KeyIndex", name := "firstEqual", desc := "(J)LKeyedFiles$Entry;" } : MethodName) ({ cls := "KeyedFiles$KeyIndex", name := "firstEqual", desc := "(J)LKeyedFiles$Entry;" } : MethodName)) ∈ XT := xt_t (i := 318) (by decide +kernel) (by decide)
set_option maxRecDepth 20000 in
theorem kc_KI_firstEqual : (Cond.code ({ cls := "KeyedFiles$KeyIndex", name := "firstEqual", desc := "(J)LKeyedFiles$Entry;" } : MethodName) prog_3_method_7_code (4 : Nat) (Option.some (FieldType.object "KeyedFiles$Entry"))) ∈ XT := xt_t (i := 319) (rfl) (by decide)
theorem m_KI_53 : (Cond.methodLink "KeyedFiles$KeyIndex" (53 : Nat) ({ cls := "KeyedFiles$KeyIndex", name := "countAheadOf", desc := "(JJ)I" } : MethodName)) ∈ XT := xt_t (i := 320) (by decide +kernel) (by decide)
theorem ki_KI_countAheadOf : (Cond.instanceMethod ({ cls := "KeyedFiles$KeyIndex", name := "countAheadOf", desc := "(JJ)I" } : MethodName)) ∈ XT := xt_t (i := 321) (by decide +kernel) (by decide)
theorem kv_KI_countAheadOf : (Cond.selects "KeyedFiles$KeyIndex" ({ cls := "KeyedFiles$KeyIndex", name := "countAheadOf", desc := "(JJ)I" } : MethodName) ({ cls := "KeyedFiles$KeyIndex", name := "countAheadOf", desc := "(JJ)I" } : MethodName)) ∈ XT := xt_t (i := 322) (by decide +kernel) (by decide)
set_option maxRecDepth 20000 in
theorem kc_KI_countAheadOf : (Cond.code ({ cls := "KeyedFiles$KeyIndex", name := "countAheadOf", desc := "(JJ)I" } : MethodName) prog_3_method_6_code (8 : Nat) (Option.some FieldType.int)) ∈ XT := xt_t (i := 323) (rfl) (by decide)
theorem m_KI_45 : (Cond.methodLink "KeyedFiles$KeyIndex" (45 : Nat) ({ cls := "KeyedFiles$KeyIndex", name := "entryAt", desc := "(I)LKeyedFiles$Entry;" } : MethodName)) ∈ XT := xt_t (i := 324) (by decide +kernel) (by decide)
theorem m_KI_49 : (Cond.methodLink "KeyedFiles$KeyIndex" (49 : Nat) ({ cls := "KeyedFiles$Entry", name := "standsAheadOf", desc := "(JJ)Z" } : MethodName)) ∈ XT := xt_t (i := 325) (by decide +kernel) (by decide)
theorem ki_EN_standsAheadOf : (Cond.instanceMethod ({ cls := "KeyedFiles$Entry", name := "standsAheadOf", desc := "(JJ)Z" } : MethodName)) ∈ XT := xt_t (i := 326) (by decide +kernel) (by decide)
theorem kv_EN_standsAheadOf : (Cond.selects "KeyedFiles$Entry" ({ cls := "KeyedFiles$Entry", name := "standsAheadOf", desc := "(JJ)Z" } : MethodName) ({ cls := "KeyedFiles$Entry", name := "standsAheadOf", desc := "(JJ)Z" } : MethodName)) ∈ XT := xt_t (i := 327) (by decide +kernel) (by decide)
set_option maxRecDepth 20000 in
theorem kc_EN_standsAheadOf : (Cond.code ({ cls := "KeyedFiles$Entry", name := "standsAheadOf", desc := "(JJ)Z" } : MethodName) prog_2_method_2_code (5 : Nat) (Option.some FieldType.boolean)) ∈ XT := xt_t (i := 328) (rfl) (by decide)
theorem m_KF_83 : (Cond.methodLink "KeyedFiles" (83 : Nat) ({ cls := "KeyedFiles", name := "entryCount", desc := "(I)I" } : MethodName)) ∈ XT := xt_t (i := 330) (by decide +kernel) (by decide)
theorem ki_KF_entryCount : (Cond.instanceMethod ({ cls := "KeyedFiles", name := "entryCount", desc := "(I)I" } : MethodName)) ∈ XT := xt_t (i := 332) (by decide +kernel) (by decide)
set_option maxRecDepth 20000 in
theorem kc_KF_entryCount : (Cond.code ({ cls := "KeyedFiles", name := "entryCount", desc := "(I)I" } : MethodName) prog_1_method_20_code (3 : Nat) (Option.some FieldType.int)) ∈ XT := xt_t (i := 333) (rfl) (by decide)
theorem m_KF_91 : (Cond.methodLink "KeyedFiles" (91 : Nat) ({ cls := "KeyedFiles$View", name := "noteWritten", desc := "(J)V" } : MethodName)) ∈ XT := xt_t (i := 334) (by decide +kernel) (by decide)
theorem ki_VW_noteWritten : (Cond.instanceMethod ({ cls := "KeyedFiles$View", name := "noteWritten", desc := "(J)V" } : MethodName)) ∈ XT := xt_t (i := 335) (by decide +kernel) (by decide)
theorem kv_VW_noteWritten : (Cond.selects "KeyedFiles$View" ({ cls := "KeyedFiles$View", name := "noteWritten", desc := "(J)V" } : MethodName) ({ cls := "KeyedFiles$View", name := "noteWritten", desc := "(J)V" } : MethodName)) ∈ XT := xt_t (i := 336) (by decide +kernel) (by decide)
set_option maxRecDepth 20000 in
theorem kc_VW_noteWritten : (Cond.code ({ cls := "KeyedFiles$View", name := "noteWritten", desc := "(J)V" } : MethodName) prog_5_method_7_code (3 : Nat) (Option.none : Option FieldType)) ∈ XT := xt_t (i := 337) (rfl) (by decide)
theorem cl_KF_94 : (Cond.classLink "KeyedFiles" (94 : Nat) "KeyedFiles$Stored") ∈ XT := xt_t (i := 338) (by decide +kernel) (by decide)
theorem kb_ST : (Cond.instantiable "KeyedFiles$Stored" (3 : Nat)) ∈ XT := xt_t (i := 339) (by decide +kernel) (by decide)
theorem m_KF_96 : (Cond.methodLink "KeyedFiles" (96 : Nat) ({ cls := "KeyedFiles$Stored", name := "<init>", desc := "(J)V" } : MethodName)) ∈ XT := xt_t (i := 340) (by decide +kernel) (by decide)
theorem ki_ST_init : (Cond.instanceMethod ({ cls := "KeyedFiles$Stored", name := "<init>", desc := "(J)V" } : MethodName)) ∈ XT := xt_t (i := 341) (by decide +kernel) (by decide)
set_option maxRecDepth 20000 in
theorem kc_ST_init : (Cond.code ({ cls := "KeyedFiles$Stored", name := "<init>", desc := "(J)V" } : MethodName) prog_4_method_1_code (3 : Nat) (Option.none : Option FieldType)) ∈ XT := xt_t (i := 342) (rfl) (by decide)
theorem m_ST_1 : (Cond.methodLink "KeyedFiles$Stored" (1 : Nat) ({ cls := "java/lang/Object", name := "<init>", desc := "()V" } : MethodName)) ∈ XT := xt_t (i := 343) (by decide +kernel) (by decide)
theorem f_ST_7 : (Cond.fieldLink "KeyedFiles$Stored" (7 : Nat) "KeyedFiles$Stored" "bytes" "J") ∈ XT := xt_t (i := 344) (by decide +kernel) (by decide)
theorem f_VW_66 : (Cond.fieldLink "KeyedFiles$View" (66 : Nat) "KeyedFiles$Stored" "bytes" "J") ∈ XT := xt_t (i := 345) (by decide +kernel) (by decide)
theorem f_KI_60 : (Cond.fieldLink "KeyedFiles$KeyIndex" (60 : Nat) "KeyedFiles$Stored" "bytes" "J") ∈ XT := xt_t (i := 346) (by decide +kernel) (by decide)
theorem f_KF_156 : (Cond.fieldLink "KeyedFiles" (156 : Nat) "KeyedFiles$Stored" "bytes" "J") ∈ XT := xt_t (i := 347) (by decide +kernel) (by decide)
theorem f_ST_13 : (Cond.fieldLink "KeyedFiles$Stored" (13 : Nat) "KeyedFiles$Stored" "isThere" "Z") ∈ XT := xt_t (i := 348) (by decide +kernel) (by decide)
theorem f_KI_112 : (Cond.fieldLink "KeyedFiles$KeyIndex" (112 : Nat) "KeyedFiles$Stored" "isThere" "Z") ∈ XT := xt_t (i := 349) (by decide +kernel) (by decide)
theorem f_KF_232 : (Cond.fieldLink "KeyedFiles" (232 : Nat) "KeyedFiles$Stored" "isThere" "Z") ∈ XT := xt_t (i := 350) (by decide +kernel) (by decide)
theorem f_KI_115 : (Cond.fieldLink "KeyedFiles$KeyIndex" (115 : Nat) "KeyedFiles$Stored" "sweep" "J") ∈ XT := xt_t (i := 351) (by decide +kernel) (by decide)
theorem m_KF_98 : (Cond.methodLink "KeyedFiles" (98 : Nat) ({ cls := "KeyedFiles", name := "enterUnderAllKeys", desc := "(LKeyedFiles$Stored;)Z" } : MethodName)) ∈ XT := xt_t (i := 359) (by decide +kernel) (by decide)
theorem ki_KF_enterUnderAllKeys : (Cond.instanceMethod ({ cls := "KeyedFiles", name := "enterUnderAllKeys", desc := "(LKeyedFiles$Stored;)Z" } : MethodName)) ∈ XT := xt_t (i := 361) (by decide +kernel) (by decide)
set_option maxRecDepth 20000 in
theorem kc_KF_enterUnderAllKeys : (Cond.code ({ cls := "KeyedFiles", name := "enterUnderAllKeys", desc := "(LKeyedFiles$Stored;)Z" } : MethodName) prog_1_method_24_code (4 : Nat) (Option.some FieldType.boolean)) ∈ XT := xt_t (i := 362) (rfl) (by decide)
theorem m_KF_218 : (Cond.methodLink "KeyedFiles" (218 : Nat) ({ cls := "KeyedFiles", name := "enterUnder", desc := "(LKeyedFiles$KeyIndex;LKeyedFiles$Stored;)Z" } : MethodName)) ∈ XT := xt_t (i := 363) (by decide +kernel) (by decide)
theorem ki_KF_enterUnder : (Cond.instanceMethod ({ cls := "KeyedFiles", name := "enterUnder", desc := "(LKeyedFiles$KeyIndex;LKeyedFiles$Stored;)Z" } : MethodName)) ∈ XT := xt_t (i := 365) (by decide +kernel) (by decide)
set_option maxRecDepth 20000 in
theorem kc_KF_enterUnder : (Cond.code ({ cls := "KeyedFiles", name := "enterUnder", desc := "(LKeyedFiles$KeyIndex;LKeyedFiles$Stored;)Z" } : MethodName) prog_1_method_25_code (3 : Nat) (Option.some FieldType.boolean)) ∈ XT := xt_t (i := 366) (rfl) (by decide)
theorem m_KF_225 : (Cond.methodLink "KeyedFiles" (225 : Nat) ({ cls := "KeyedFiles$KeyIndex", name := "enter", desc := "(LKeyedFiles$Stored;J)Z" } : MethodName)) ∈ XT := xt_t (i := 367) (by decide +kernel) (by decide)
theorem ki_KI_enter : (Cond.instanceMethod ({ cls := "KeyedFiles$KeyIndex", name := "enter", desc := "(LKeyedFiles$Stored;J)Z" } : MethodName)) ∈ XT := xt_t (i := 368) (by decide +kernel) (by decide)
theorem kv_KI_enter : (Cond.selects "KeyedFiles$KeyIndex" ({ cls := "KeyedFiles$KeyIndex", name := "enter", desc := "(LKeyedFiles$Stored;J)Z" } : MethodName) ({ cls := "KeyedFiles$KeyIndex", name := "enter", desc := "(LKeyedFiles$Stored;J)Z" } : MethodName)) ∈ XT := xt_t (i := 369) (by decide +kernel) (by decide)
set_option maxRecDepth 20000 in
theorem kc_KI_enter : (Cond.code ({ cls := "KeyedFiles$KeyIndex", name := "enter", desc := "(LKeyedFiles$Stored;J)Z" } : MethodName) prog_3_method_8_code (8 : Nat) (Option.some FieldType.boolean)) ∈ XT := xt_t (i := 370) (rfl) (by decide)
theorem m_KI_65 : (Cond.methodLink "KeyedFiles$KeyIndex" (65 : Nat) ({ cls := "KeyedFiles$KeyIndex", name := "fieldIn", desc := "(J)J" } : MethodName)) ∈ XT := xt_t (i := 371) (by decide +kernel) (by decide)
theorem m_KI_69 : (Cond.methodLink "KeyedFiles$KeyIndex" (69 : Nat) ({ cls := "KeyedFiles$KeyIndex", name := "leavesOut", desc := "(J)Z" } : MethodName)) ∈ XT := xt_t (i := 372) (by decide +kernel) (by decide)
theorem ki_KI_leavesOut : (Cond.instanceMethod ({ cls := "KeyedFiles$KeyIndex", name := "leavesOut", desc := "(J)Z" } : MethodName)) ∈ XT := xt_t (i := 373) (by decide +kernel) (by decide)
theorem kv_KI_leavesOut : (Cond.selects "KeyedFiles$KeyIndex" ({ cls := "KeyedFiles$KeyIndex", name := "leavesOut", desc := "(J)Z" } : MethodName) ({ cls := "KeyedFiles$KeyIndex", name := "leavesOut", desc := "(J)Z" } : MethodName)) ∈ XT := xt_t (i := 374) (by decide +kernel) (by decide)
set_option maxRecDepth 20000 in
theorem kc_KI_leavesOut : (Cond.code ({ cls := "KeyedFiles$KeyIndex", name := "leavesOut", desc := "(J)Z" } : MethodName) prog_3_method_3_code (3 : Nat) (Option.some FieldType.boolean)) ∈ XT := xt_t (i := 375) (rfl) (by decide)
theorem kb_EN : (Cond.instantiable "KeyedFiles$Entry" (3 : Nat)) ∈ XT := xt_t (i := 376) (by decide +kernel) (by decide)
theorem m_KI_73 : (Cond.methodLink "KeyedFiles$KeyIndex" (73 : Nat) ({ cls := "KeyedFiles$Entry", name := "<init>", desc := "(JJLKeyedFiles$Stored;)V" } : MethodName)) ∈ XT := xt_t (i := 377) (by decide +kernel) (by decide)
theorem ki_EN_init : (Cond.instanceMethod ({ cls := "KeyedFiles$Entry", name := "<init>", desc := "(JJLKeyedFiles$Stored;)V" } : MethodName)) ∈ XT := xt_t (i := 378) (by decide +kernel) (by decide)
set_option maxRecDepth 20000 in
theorem kc_EN_init : (Cond.code ({ cls := "KeyedFiles$Entry", name := "<init>", desc := "(JJLKeyedFiles$Stored;)V" } : MethodName) prog_2_method_1_code (6 : Nat) (Option.none : Option FieldType)) ∈ XT := xt_t (i := 379) (rfl) (by decide)
theorem m_EN_1 : (Cond.methodLink "KeyedFiles$Entry" (1 : Nat) ({ cls := "java/lang/Object", name := "<init>", desc := "()V" } : MethodName)) ∈ XT := xt_t (i := 380) (by decide +kernel) (by decide)
theorem f_EN_7 : (Cond.fieldLink "KeyedFiles$Entry" (7 : Nat) "KeyedFiles$Entry" "field" "J") ∈ XT := xt_t (i := 381) (by decide +kernel) (by decide)
theorem f_VW_45 : (Cond.fieldLink "KeyedFiles$View" (45 : Nat) "KeyedFiles$Entry" "field" "J") ∈ XT := xt_t (i := 382) (by decide +kernel) (by decide)
theorem f_KI_57 : (Cond.fieldLink "KeyedFiles$KeyIndex" (57 : Nat) "KeyedFiles$Entry" "field" "J") ∈ XT := xt_t (i := 383) (by decide +kernel) (by decide)
theorem f_KF_212 : (Cond.fieldLink "KeyedFiles" (212 : Nat) "KeyedFiles$Entry" "field" "J") ∈ XT := xt_t (i := 384) (by decide +kernel) (by decide)
theorem f_EN_13 : (Cond.fieldLink "KeyedFiles$Entry" (13 : Nat) "KeyedFiles$Entry" "came" "J") ∈ XT := xt_t (i := 385) (by decide +kernel) (by decide)
theorem f_VW_53 : (Cond.fieldLink "KeyedFiles$View" (53 : Nat) "KeyedFiles$Entry" "came" "J") ∈ XT := xt_t (i := 386) (by decide +kernel) (by decide)
theorem f_KI_87 : (Cond.fieldLink "KeyedFiles$KeyIndex" (87 : Nat) "KeyedFiles$Entry" "came" "J") ∈ XT := xt_t (i := 387) (by decide +kernel) (by decide)
theorem f_EN_16 : (Cond.fieldLink "KeyedFiles$Entry" (16 : Nat) "KeyedFiles$Entry" "stored" "LKeyedFiles$Stored;") ∈ XT := xt_t (i := 388) (by decide +kernel) (by decide)
theorem f_VW_63 : (Cond.fieldLink "KeyedFiles$View" (63 : Nat) "KeyedFiles$Entry" "stored" "LKeyedFiles$Stored;") ∈ XT := xt_t (i := 389) (by decide +kernel) (by decide)
theorem f_KI_80 : (Cond.fieldLink "KeyedFiles$KeyIndex" (80 : Nat) "KeyedFiles$Entry" "stored" "LKeyedFiles$Stored;") ∈ XT := xt_t (i := 390) (by decide +kernel) (by decide)
theorem f_KF_171 : (Cond.fieldLink "KeyedFiles" (171 : Nat) "KeyedFiles$Entry" "stored" "LKeyedFiles$Stored;") ∈ XT := xt_t (i := 391) (by decide +kernel) (by decide)
theorem m_KI_76 : (Cond.methodLink "KeyedFiles$KeyIndex" (76 : Nat) ({ cls := "java/util/ArrayList", name := "add", desc := "(ILjava/lang/Object;)V" } : MethodName)) ∈ XT := xt_t (i := 399) (by decide +kernel) (by decide)
theorem ki_AL_addI : (Cond.instanceMethod ({ cls := "java/util/ArrayList", name := "add", desc := "(ILjava/lang/Object;)V" } : MethodName)) ∈ XT := xt_t (i := 400) (by decide +kernel) (by decide)
theorem kv_AL_addI : (Cond.selects "java/util/ArrayList" ({ cls := "java/util/ArrayList", name := "add", desc := "(ILjava/lang/Object;)V" } : MethodName) ({ cls := "java/util/ArrayList", name := "add", desc := "(ILjava/lang/Object;)V" } : MethodName)) ∈ XT := xt_t (i := 401) (by decide +kernel) (by decide)
set_option maxRecDepth 20000 in
theorem kc_AL_addI : (Cond.code ({ cls := "java/util/ArrayList", name := "add", desc := "(ILjava/lang/Object;)V" } : MethodName) prog_15_method_26_code (5 : Nat) (Option.none : Option FieldType)) ∈ XT := xt_t (i := 402) (rfl) (by decide)
theorem m_AL_135 : (Cond.methodLink "java/util/ArrayList" (135 : Nat) ({ cls := "java/util/ArrayList", name := "rangeCheckForAdd", desc := "(I)V" } : MethodName)) ∈ XT := xt_t (i := 403) (by decide +kernel) (by decide)
theorem ki_AL_rangeCheckForAdd : (Cond.instanceMethod ({ cls := "java/util/ArrayList", name := "rangeCheckForAdd", desc := "(I)V" } : MethodName)) ∈ XT := xt_t (i := 405) (by decide +kernel) (by decide)
set_option maxRecDepth 20000 in
theorem kc_AL_rangeCheckForAdd : (Cond.code ({ cls := "java/util/ArrayList", name := "rangeCheckForAdd", desc := "(I)V" } : MethodName) prog_15_method_45_code (2 : Nat) (Option.none : Option FieldType)) ∈ XT := xt_t (i := 406) (rfl) (by decide)
theorem m_AL_112 : (Cond.methodLink "java/util/ArrayList" (112 : Nat) ({ cls := "java/lang/System", name := "arraycopy", desc := "(Ljava/lang/Object;ILjava/lang/Object;II)V" } : MethodName)) ∈ XT := xt_t (i := 407) (by decide +kernel) (by decide)
theorem m_LW_44 : (Cond.methodLink "KeyedFilesLaw" (44 : Nat) ({ cls := "KeyedFiles", name := "read", desc := "(IIJ)I" } : MethodName)) ∈ XT := xt_t (i := 408) (by decide +kernel) (by decide)
theorem ki_KF_read : (Cond.instanceMethod ({ cls := "KeyedFiles", name := "read", desc := "(IIJ)I" } : MethodName)) ∈ XT := xt_t (i := 409) (by decide +kernel) (by decide)
theorem kv_KF_read : (Cond.selects "KeyedFiles" ({ cls := "KeyedFiles", name := "read", desc := "(IIJ)I" } : MethodName) ({ cls := "KeyedFiles", name := "read", desc := "(IIJ)I" } : MethodName)) ∈ XT := xt_t (i := 410) (by decide +kernel) (by decide)
set_option maxRecDepth 20000 in
theorem kc_KF_read : (Cond.code ({ cls := "KeyedFiles", name := "read", desc := "(IIJ)I" } : MethodName) prog_1_method_8_code (9 : Nat) (Option.some FieldType.int)) ∈ XT := xt_t (i := 411) (rfl) (by decide)
theorem m_KF_102 : (Cond.methodLink "KeyedFiles" (102 : Nat) ({ cls := "KeyedFiles$View", name := "refusalToRead", desc := "(I)I" } : MethodName)) ∈ XT := xt_t (i := 412) (by decide +kernel) (by decide)
theorem ki_VW_refusalToRead : (Cond.instanceMethod ({ cls := "KeyedFiles$View", name := "refusalToRead", desc := "(I)I" } : MethodName)) ∈ XT := xt_t (i := 413) (by decide +kernel) (by decide)
theorem kv_VW_refusalToRead : (Cond.selects "KeyedFiles$View" ({ cls := "KeyedFiles$View", name := "refusalToRead", desc := "(I)I" } : MethodName) ({ cls := "KeyedFiles$View", name := "refusalToRead", desc := "(I)I" } : MethodName)) ∈ XT := xt_t (i := 414) (by decide +kernel) (by decide)
set_option maxRecDepth 20000 in
theorem kc_VW_refusalToRead : (Cond.code ({ cls := "KeyedFiles$View", name := "refusalToRead", desc := "(I)I" } : MethodName) prog_5_method_8_code (3 : Nat) (Option.some FieldType.int)) ∈ XT := xt_t (i := 415) (rfl) (by decide)
theorem m_KF_115 : (Cond.methodLink "KeyedFiles" (115 : Nat) ({ cls := "KeyedFiles", name := "handOver", desc := "(LKeyedFiles$View;LKeyedFiles$KeyIndex;LKeyedFiles$Entry;Z)I" } : MethodName)) ∈ XT := xt_t (i := 416) (by decide +kernel) (by decide)
theorem ks_KF_handOver : (Cond.static ({ cls := "KeyedFiles", name := "handOver", desc := "(LKeyedFiles$View;LKeyedFiles$KeyIndex;LKeyedFiles$Entry;Z)I" } : MethodName)) ∈ XT := xt_t (i := 417) (by decide +kernel) (by decide)
set_option maxRecDepth 20000 in
theorem kc_KF_handOver : (Cond.code ({ cls := "KeyedFiles", name := "handOver", desc := "(LKeyedFiles$View;LKeyedFiles$KeyIndex;LKeyedFiles$Entry;Z)I" } : MethodName) prog_1_method_30_code (4 : Nat) (Option.some FieldType.int)) ∈ XT := xt_t (i := 418) (rfl) (by decide)
theorem m_KF_241 : (Cond.methodLink "KeyedFiles" (241 : Nat) ({ cls := "KeyedFiles$View", name := "noteRead", desc := "(LKeyedFiles$Entry;)V" } : MethodName)) ∈ XT := xt_t (i := 419) (by decide +kernel) (by decide)
theorem ki_VW_noteRead : (Cond.instanceMethod ({ cls := "KeyedFiles$View", name := "noteRead", desc := "(LKeyedFiles$Entry;)V" } : MethodName)) ∈ XT := xt_t (i := 420) (by decide +kernel) (by decide)
theorem kv_VW_noteRead : (Cond.selects "KeyedFiles$View" ({ cls := "KeyedFiles$View", name := "noteRead", desc := "(LKeyedFiles$Entry;)V" } : MethodName) ({ cls := "KeyedFiles$View", name := "noteRead", desc := "(LKeyedFiles$Entry;)V" } : MethodName)) ∈ XT := xt_t (i := 421) (by decide +kernel) (by decide)
set_option maxRecDepth 20000 in
theorem kc_VW_noteRead : (Cond.code ({ cls := "KeyedFiles$View", name := "noteRead", desc := "(LKeyedFiles$Entry;)V" } : MethodName) prog_5_method_6_code (2 : Nat) (Option.none : Option FieldType)) ∈ XT := xt_t (i := 422) (rfl) (by decide)
theorem m_VW_59 : (Cond.methodLink "KeyedFiles$View" (59 : Nat) ({ cls := "KeyedFiles$View", name := "standAt", desc := "(LKeyedFiles$Entry;)V" } : MethodName)) ∈ XT := xt_t (i := 423) (by decide +kernel) (by decide)
theorem ki_VW_standAt : (Cond.instanceMethod ({ cls := "KeyedFiles$View", name := "standAt", desc := "(LKeyedFiles$Entry;)V" } : MethodName)) ∈ XT := xt_t (i := 424) (by decide +kernel) (by decide)
theorem kv_VW_standAt : (Cond.selects "KeyedFiles$View" ({ cls := "KeyedFiles$View", name := "standAt", desc := "(LKeyedFiles$Entry;)V" } : MethodName) ({ cls := "KeyedFiles$View", name := "standAt", desc := "(LKeyedFiles$Entry;)V" } : MethodName)) ∈ XT := xt_t (i := 425) (by decide +kernel) (by decide)
set_option maxRecDepth 20000 in
theorem kc_VW_standAt : (Cond.code ({ cls := "KeyedFiles$View", name := "standAt", desc := "(LKeyedFiles$Entry;)V" } : MethodName) prog_5_method_5_code (2 : Nat) (Option.none : Option FieldType)) ∈ XT := xt_t (i := 426) (rfl) (by decide)
theorem m_KF_244 : (Cond.methodLink "KeyedFiles" (244 : Nat) ({ cls := "KeyedFiles$KeyIndex", name := "hasEqualNextTo", desc := "(LKeyedFiles$Entry;Z)Z" } : MethodName)) ∈ XT := xt_t (i := 427) (by decide +kernel) (by decide)
theorem ki_KI_hasEqualNextTo : (Cond.instanceMethod ({ cls := "KeyedFiles$KeyIndex", name := "hasEqualNextTo", desc := "(LKeyedFiles$Entry;Z)Z" } : MethodName)) ∈ XT := xt_t (i := 428) (by decide +kernel) (by decide)
theorem kv_KI_hasEqualNextTo : (Cond.selects "KeyedFiles$KeyIndex" ({ cls := "KeyedFiles$KeyIndex", name := "hasEqualNextTo", desc := "(LKeyedFiles$Entry;Z)Z" } : MethodName) ({ cls := "KeyedFiles$KeyIndex", name := "hasEqualNextTo", desc := "(LKeyedFiles$Entry;Z)Z" } : MethodName)) ∈ XT := xt_t (i := 429) (by decide +kernel) (by decide)
set_option maxRecDepth 20000 in
theorem kc_KI_hasEqualNextTo : (Cond.code ({ cls := "KeyedFiles$KeyIndex", name := "hasEqualNextTo", desc := "(LKeyedFiles$Entry;Z)Z" } : MethodName) prog_3_method_10_code (5 : Nat) (Option.some FieldType.boolean)) ∈ XT := xt_t (i := 430) (rfl) (by decide)
theorem m_LW_49 : (Cond.methodLink "KeyedFilesLaw" (49 : Nat) ({ cls := "KeyedFiles", name := "value", desc := "(I)J" } : MethodName)) ∈ XT := xt_t (i := 431) (by decide +kernel) (by decide)
theorem ki_KF_value : (Cond.instanceMethod ({ cls := "KeyedFiles", name := "value", desc := "(I)J" } : MethodName)) ∈ XT := xt_t (i := 432) (by decide +kernel) (by decide)
theorem kv_KF_value : (Cond.selects "KeyedFiles" ({ cls := "KeyedFiles", name := "value", desc := "(I)J" } : MethodName) ({ cls := "KeyedFiles", name := "value", desc := "(I)J" } : MethodName)) ∈ XT := xt_t (i := 433) (by decide +kernel) (by decide)
set_option maxRecDepth 20000 in
theorem kc_KF_value : (Cond.code ({ cls := "KeyedFiles", name := "value", desc := "(I)J" } : MethodName) prog_1_method_9_code (3 : Nat) (Option.some FieldType.long)) ∈ XT := xt_t (i := 434) (rfl) (by decide)
theorem m_LW_54 : (Cond.methodLink "KeyedFilesLaw" (54 : Nat) ({ cls := "KeyedFiles", name := "start", desc := "(IIIJI)I" } : MethodName)) ∈ XT := xt_t (i := 435) (by decide +kernel) (by decide)
theorem ki_KF_start : (Cond.instanceMethod ({ cls := "KeyedFiles", name := "start", desc := "(IIIJI)I" } : MethodName)) ∈ XT := xt_t (i := 436) (by decide +kernel) (by decide)
theorem kv_KF_start : (Cond.selects "KeyedFiles" ({ cls := "KeyedFiles", name := "start", desc := "(IIIJI)I" } : MethodName) ({ cls := "KeyedFiles", name := "start", desc := "(IIIJI)I" } : MethodName)) ∈ XT := xt_t (i := 437) (by decide +kernel) (by decide)
set_option maxRecDepth 20000 in
theorem kc_KF_start : (Cond.code ({ cls := "KeyedFiles", name := "start", desc := "(IIIJI)I" } : MethodName) prog_1_method_10_code (11 : Nat) (Option.some FieldType.int)) ∈ XT := xt_t (i := 438) (rfl) (by decide)
theorem m_KF_125 : (Cond.methodLink "KeyedFiles" (125 : Nat) ({ cls := "KeyedFiles$KeyIndex", name := "findByPart", desc := "(IJI)LKeyedFiles$Entry;" } : MethodName)) ∈ XT := xt_t (i := 439) (by decide +kernel) (by decide)
theorem ki_KI_findByPart : (Cond.instanceMethod ({ cls := "KeyedFiles$KeyIndex", name := "findByPart", desc := "(IJI)LKeyedFiles$Entry;" } : MethodName)) ∈ XT := xt_t (i := 440) (by decide +kernel) (by decide)
theorem kv_KI_findByPart : (Cond.selects "KeyedFiles$KeyIndex" ({ cls := "KeyedFiles$KeyIndex", name := "findByPart", desc := "(IJI)LKeyedFiles$Entry;" } : MethodName) ({ cls := "KeyedFiles$KeyIndex", name := "findByPart", desc := "(IJI)LKeyedFiles$Entry;" } : MethodName)) ∈ XT := xt_t (i := 441) (by decide +kernel) (by decide)
set_option maxRecDepth 20000 in
theorem kc_KI_findByPart : (Cond.code ({ cls := "KeyedFiles$KeyIndex", name := "findByPart", desc := "(IJI)LKeyedFiles$Entry;" } : MethodName) prog_3_method_13_code (8 : Nat) (Option.some (FieldType.object "KeyedFiles$Entry"))) ∈ XT := xt_t (i := 442) (rfl) (by decide)
theorem m_KI_101 : (Cond.methodLink "KeyedFiles$KeyIndex" (101 : Nat) ({ cls := "KeyedFiles$KeyIndex", name := "countByPart", desc := "(JIZ)I" } : MethodName)) ∈ XT := xt_t (i := 443) (by decide +kernel) (by decide)
theorem ki_KI_countByPart : (Cond.instanceMethod ({ cls := "KeyedFiles$KeyIndex", name := "countByPart", desc := "(JIZ)I" } : MethodName)) ∈ XT := xt_t (i := 444) (by decide +kernel) (by decide)
theorem kv_KI_countByPart : (Cond.selects "KeyedFiles$KeyIndex" ({ cls := "KeyedFiles$KeyIndex", name := "countByPart", desc := "(JIZ)I" } : MethodName) ({ cls := "KeyedFiles$KeyIndex", name := "countByPart", desc := "(JIZ)I" } : MethodName)) ∈ XT := xt_t (i := 445) (by decide +kernel) (by decide)
set_option maxRecDepth 20000 in
theorem kc_KI_countByPart : (Cond.code ({ cls := "KeyedFiles$KeyIndex", name := "countByPart", desc := "(JIZ)I" } : MethodName) prog_3_method_14_code (10 : Nat) (Option.some FieldType.int)) ∈ XT := xt_t (i := 446) (rfl) (by decide)
theorem m_KI_105 : (Cond.methodLink "KeyedFiles$KeyIndex" (105 : Nat) ({ cls := "KeyedFiles$KeyIndex", name := "partOf", desc := "(LKeyedFiles$Entry;I)J" } : MethodName)) ∈ XT := xt_t (i := 447) (by decide +kernel) (by decide)
theorem ki_KI_partOf : (Cond.instanceMethod ({ cls := "KeyedFiles$KeyIndex", name := "partOf", desc := "(LKeyedFiles$Entry;I)J" } : MethodName)) ∈ XT := xt_t (i := 448) (by decide +kernel) (by decide)
theorem kv_KI_partOf : (Cond.selects "KeyedFiles$KeyIndex" ({ cls := "KeyedFiles$KeyIndex", name := "partOf", desc := "(LKeyedFiles$Entry;I)J" } : MethodName) ({ cls := "KeyedFiles$KeyIndex", name := "partOf", desc := "(LKeyedFiles$Entry;I)J" } : MethodName)) ∈ XT := xt_t (i := 449) (by decide +kernel) (by decide)
set_option maxRecDepth 20000 in
theorem kc_KI_partOf : (Cond.code ({ cls := "KeyedFiles$KeyIndex", name := "partOf", desc := "(LKeyedFiles$Entry;I)J" } : MethodName) prog_3_method_15_code (3 : Nat) (Option.some FieldType.long)) ∈ XT := xt_t (i := 450) (rfl) (by decide)
theorem m_KF_129 : (Cond.methodLink "KeyedFiles" (129 : Nat) ({ cls := "KeyedFiles$View", name := "standAt", desc := "(LKeyedFiles$Entry;)V" } : MethodName)) ∈ XT := xt_t (i := 452) (by decide +kernel) (by decide)
theorem m_LW_59 : (Cond.methodLink "KeyedFilesLaw" (59 : Nat) ({ cls := "KeyedFiles", name := "next", desc := "(IZ)I" } : MethodName)) ∈ XT := xt_t (i := 453) (by decide +kernel) (by decide)
theorem ki_KF_next : (Cond.instanceMethod ({ cls := "KeyedFiles", name := "next", desc := "(IZ)I" } : MethodName)) ∈ XT := xt_t (i := 454) (by decide +kernel) (by decide)
theorem kv_KF_next : (Cond.selects "KeyedFiles" ({ cls := "KeyedFiles", name := "next", desc := "(IZ)I" } : MethodName) ({ cls := "KeyedFiles", name := "next", desc := "(IZ)I" } : MethodName)) ∈ XT := xt_t (i := 455) (by decide +kernel) (by decide)
set_option maxRecDepth 20000 in
theorem kc_KF_next : (Cond.code ({ cls := "KeyedFiles", name := "next", desc := "(IZ)I" } : MethodName) prog_1_method_11_code (7 : Nat) (Option.some FieldType.int)) ∈ XT := xt_t (i := 456) (rfl) (by decide)
theorem m_KF_139 : (Cond.methodLink "KeyedFiles" (139 : Nat) ({ cls := "KeyedFiles$KeyIndex", name := "entryAheadOf", desc := "(LKeyedFiles$View;)LKeyedFiles$Entry;" } : MethodName)) ∈ XT := xt_t (i := 457) (by decide +kernel) (by decide)
theorem ki_KI_entryAheadOf : (Cond.instanceMethod ({ cls := "KeyedFiles$KeyIndex", name := "entryAheadOf", desc := "(LKeyedFiles$View;)LKeyedFiles$Entry;" } : MethodName)) ∈ XT := xt_t (i := 458) (by decide +kernel) (by decide)
theorem kv_KI_entryAheadOf : (Cond.selects "KeyedFiles$KeyIndex" ({ cls := "KeyedFiles$KeyIndex", name := "entryAheadOf", desc := "(LKeyedFiles$View;)LKeyedFiles$Entry;" } : MethodName) ({ cls := "KeyedFiles$KeyIndex", name := "entryAheadOf", desc := "(LKeyedFiles$View;)LKeyedFiles$Entry;" } : MethodName)) ∈ XT := xt_t (i := 459) (by decide +kernel) (by decide)
set_option maxRecDepth 20000 in
theorem kc_KI_entryAheadOf : (Cond.code ({ cls := "KeyedFiles$KeyIndex", name := "entryAheadOf", desc := "(LKeyedFiles$View;)LKeyedFiles$Entry;" } : MethodName) prog_3_method_12_code (4 : Nat) (Option.some (FieldType.object "KeyedFiles$Entry"))) ∈ XT := xt_t (i := 460) (rfl) (by decide)
theorem m_KF_143 : (Cond.methodLink "KeyedFiles" (143 : Nat) ({ cls := "KeyedFiles$KeyIndex", name := "entryBehind", desc := "(LKeyedFiles$View;)LKeyedFiles$Entry;" } : MethodName)) ∈ XT := xt_t (i := 461) (by decide +kernel) (by decide)
theorem ki_KI_entryBehind : (Cond.instanceMethod ({ cls := "KeyedFiles$KeyIndex", name := "entryBehind", desc := "(LKeyedFiles$View;)LKeyedFiles$Entry;" } : MethodName)) ∈ XT := xt_t (i := 462) (by decide +kernel) (by decide)
theorem kv_KI_entryBehind : (Cond.selects "KeyedFiles$KeyIndex" ({ cls := "KeyedFiles$KeyIndex", name := "entryBehind", desc := "(LKeyedFiles$View;)LKeyedFiles$Entry;" } : MethodName) ({ cls := "KeyedFiles$KeyIndex", name := "entryBehind", desc := "(LKeyedFiles$View;)LKeyedFiles$Entry;" } : MethodName)) ∈ XT := xt_t (i := 463) (by decide +kernel) (by decide)
set_option maxRecDepth 20000 in
theorem kc_KI_entryBehind : (Cond.code ({ cls := "KeyedFiles$KeyIndex", name := "entryBehind", desc := "(LKeyedFiles$View;)LKeyedFiles$Entry;" } : MethodName) prog_3_method_11_code (4 : Nat) (Option.some (FieldType.object "KeyedFiles$Entry"))) ∈ XT := xt_t (i := 464) (rfl) (by decide)
theorem m_LW_64 : (Cond.methodLink "KeyedFilesLaw" (64 : Nat) ({ cls := "KeyedFiles", name := "rewrite", desc := "(IJ)I" } : MethodName)) ∈ XT := xt_t (i := 465) (by decide +kernel) (by decide)
theorem ki_KF_rewrite : (Cond.instanceMethod ({ cls := "KeyedFiles", name := "rewrite", desc := "(IJ)I" } : MethodName)) ∈ XT := xt_t (i := 466) (by decide +kernel) (by decide)
theorem kv_KF_rewrite : (Cond.selects "KeyedFiles" ({ cls := "KeyedFiles", name := "rewrite", desc := "(IJ)I" } : MethodName) ({ cls := "KeyedFiles", name := "rewrite", desc := "(IJ)I" } : MethodName)) ∈ XT := xt_t (i := 467) (by decide +kernel) (by decide)
set_option maxRecDepth 20000 in
theorem kc_KF_rewrite : (Cond.code ({ cls := "KeyedFiles", name := "rewrite", desc := "(IJ)I" } : MethodName) prog_1_method_12_code (7 : Nat) (Option.some FieldType.int)) ∈ XT := xt_t (i := 468) (rfl) (by decide)
theorem m_KF_146 : (Cond.methodLink "KeyedFiles" (146 : Nat) ({ cls := "KeyedFiles$View", name := "refusalToChange", desc := "()I" } : MethodName)) ∈ XT := xt_t (i := 469) (by decide +kernel) (by decide)
theorem ki_VW_refusalToChange : (Cond.instanceMethod ({ cls := "KeyedFiles$View", name := "refusalToChange", desc := "()I" } : MethodName)) ∈ XT := xt_t (i := 470) (by decide +kernel) (by decide)
theorem kv_VW_refusalToChange : (Cond.selects "KeyedFiles$View" ({ cls := "KeyedFiles$View", name := "refusalToChange", desc := "()I" } : MethodName) ({ cls := "KeyedFiles$View", name := "refusalToChange", desc := "()I" } : MethodName)) ∈ XT := xt_t (i := 471) (by decide +kernel) (by decide)
set_option maxRecDepth 20000 in
theorem kc_VW_refusalToChange : (Cond.code ({ cls := "KeyedFiles$View", name := "refusalToChange", desc := "()I" } : MethodName) prog_5_method_10_code (1 : Nat) (Option.some FieldType.int)) ∈ XT := xt_t (i := 472) (rfl) (by decide)
theorem m_KF_149 : (Cond.methodLink "KeyedFiles" (149 : Nat) ({ cls := "KeyedFiles", name := "recordToChange", desc := "(LKeyedFiles$View;J)LKeyedFiles$Stored;" } : MethodName)) ∈ XT := xt_t (i := 473) (by decide +kernel) (by decide)
theorem ki_KF_recordToChange : (Cond.instanceMethod ({ cls := "KeyedFiles", name := "recordToChange", desc := "(LKeyedFiles$View;J)LKeyedFiles$Stored;" } : MethodName)) ∈ XT := xt_t (i := 475) (by decide +kernel) (by decide)
set_option maxRecDepth 20000 in
theorem kc_KF_recordToChange : (Cond.code ({ cls := "KeyedFiles", name := "recordToChange", desc := "(LKeyedFiles$View;J)LKeyedFiles$Stored;" } : MethodName) prog_1_method_29_code (6 : Nat) (Option.some (FieldType.object "KeyedFiles$Stored"))) ∈ XT := xt_t (i := 476) (rfl) (by decide)
theorem m_KF_153 : (Cond.methodLink "KeyedFiles" (153 : Nat) ({ cls := "KeyedFiles$View", name := "statusOfNoRecord", desc := "()I" } : MethodName)) ∈ XT := xt_t (i := 477) (by decide +kernel) (by decide)
theorem ki_VW_statusOfNoRecord : (Cond.instanceMethod ({ cls := "KeyedFiles$View", name := "statusOfNoRecord", desc := "()I" } : MethodName)) ∈ XT := xt_t (i := 478) (by decide +kernel) (by decide)
theorem kv_VW_statusOfNoRecord : (Cond.selects "KeyedFiles$View" ({ cls := "KeyedFiles$View", name := "statusOfNoRecord", desc := "()I" } : MethodName) ({ cls := "KeyedFiles$View", name := "statusOfNoRecord", desc := "()I" } : MethodName)) ∈ XT := xt_t (i := 479) (by decide +kernel) (by decide)
set_option maxRecDepth 20000 in
theorem kc_VW_statusOfNoRecord : (Cond.code ({ cls := "KeyedFiles$View", name := "statusOfNoRecord", desc := "()I" } : MethodName) prog_5_method_11_code (1 : Nat) (Option.some FieldType.int)) ∈ XT := xt_t (i := 480) (rfl) (by decide)
theorem m_KF_159 : (Cond.methodLink "KeyedFiles" (159 : Nat) ({ cls := "KeyedFiles", name := "moveChangedEntries", desc := "(LKeyedFiles$Stored;J)Z" } : MethodName)) ∈ XT := xt_t (i := 481) (by decide +kernel) (by decide)
theorem ki_KF_moveChangedEntries : (Cond.instanceMethod ({ cls := "KeyedFiles", name := "moveChangedEntries", desc := "(LKeyedFiles$Stored;J)Z" } : MethodName)) ∈ XT := xt_t (i := 483) (by decide +kernel) (by decide)
set_option maxRecDepth 20000 in
theorem kc_KF_moveChangedEntries : (Cond.code ({ cls := "KeyedFiles", name := "moveChangedEntries", desc := "(LKeyedFiles$Stored;J)Z" } : MethodName) prog_1_method_26_code (9 : Nat) (Option.some FieldType.boolean)) ∈ XT := xt_t (i := 484) (rfl) (by decide)
theorem m_KF_228 : (Cond.methodLink "KeyedFiles" (228 : Nat) ({ cls := "KeyedFiles$KeyIndex", name := "drop", desc := "(LKeyedFiles$Stored;J)V" } : MethodName)) ∈ XT := xt_t (i := 485) (by decide +kernel) (by decide)
theorem ki_KI_drop : (Cond.instanceMethod ({ cls := "KeyedFiles$KeyIndex", name := "drop", desc := "(LKeyedFiles$Stored;J)V" } : MethodName)) ∈ XT := xt_t (i := 486) (by decide +kernel) (by decide)
theorem kv_KI_drop : (Cond.selects "KeyedFiles$KeyIndex" ({ cls := "KeyedFiles$KeyIndex", name := "drop", desc := "(LKeyedFiles$Stored;J)V" } : MethodName) ({ cls := "KeyedFiles$KeyIndex", name := "drop", desc := "(LKeyedFiles$Stored;J)V" } : MethodName)) ∈ XT := xt_t (i := 487) (by decide +kernel) (by decide)
set_option maxRecDepth 20000 in
theorem kc_KI_drop : (Cond.code ({ cls := "KeyedFiles$KeyIndex", name := "drop", desc := "(LKeyedFiles$Stored;J)V" } : MethodName) prog_3_method_9_code (5 : Nat) (Option.none : Option FieldType)) ∈ XT := xt_t (i := 488) (rfl) (by decide)
theorem m_KI_84 : (Cond.methodLink "KeyedFiles$KeyIndex" (84 : Nat) ({ cls := "java/util/ArrayList", name := "remove", desc := "(I)Ljava/lang/Object;" } : MethodName)) ∈ XT := xt_t (i := 489) (by decide +kernel) (by decide)
theorem ki_AL_remove : (Cond.instanceMethod ({ cls := "java/util/ArrayList", name := "remove", desc := "(I)Ljava/lang/Object;" } : MethodName)) ∈ XT := xt_t (i := 490) (by decide +kernel) (by decide)
theorem kv_AL_remove : (Cond.selects "java/util/ArrayList" ({ cls := "java/util/ArrayList", name := "remove", desc := "(I)Ljava/lang/Object;" } : MethodName) ({ cls := "java/util/ArrayList", name := "remove", desc := "(I)Ljava/lang/Object;" } : MethodName)) ∈ XT := xt_t (i := 491) (by decide +kernel) (by decide)
set_option maxRecDepth 20000 in
theorem kc_AL_remove : (Cond.code ({ cls := "java/util/ArrayList", name := "remove", desc := "(I)Ljava/lang/Object;" } : MethodName) prog_15_method_29_code (4 : Nat) (Option.some (FieldType.object "java/lang/Object"))) ∈ XT := xt_t (i := 492) (rfl) (by decide)
theorem m_AL_144 : (Cond.methodLink "java/util/ArrayList" (144 : Nat) ({ cls := "java/util/ArrayList", name := "fastRemove", desc := "([Ljava/lang/Object;I)V" } : MethodName)) ∈ XT := xt_t (i := 493) (by decide +kernel) (by decide)
theorem ki_AL_fastRemove : (Cond.instanceMethod ({ cls := "java/util/ArrayList", name := "fastRemove", desc := "([Ljava/lang/Object;I)V" } : MethodName)) ∈ XT := xt_t (i := 495) (by decide +kernel) (by decide)
set_option maxRecDepth 20000 in
theorem kc_AL_fastRemove : (Cond.code ({ cls := "java/util/ArrayList", name := "fastRemove", desc := "([Ljava/lang/Object;I)V" } : MethodName) prog_15_method_39_code (4 : Nat) (Option.none : Option FieldType)) ∈ XT := xt_t (i := 496) (rfl) (by decide)
theorem m_LW_68 : (Cond.methodLink "KeyedFilesLaw" (68 : Nat) ({ cls := "KeyedFiles", name := "remove", desc := "(IJ)I" } : MethodName)) ∈ XT := xt_t (i := 497) (by decide +kernel) (by decide)
theorem ki_KF_remove : (Cond.instanceMethod ({ cls := "KeyedFiles", name := "remove", desc := "(IJ)I" } : MethodName)) ∈ XT := xt_t (i := 498) (by decide +kernel) (by decide)
theorem kv_KF_remove : (Cond.selects "KeyedFiles" ({ cls := "KeyedFiles", name := "remove", desc := "(IJ)I" } : MethodName) ({ cls := "KeyedFiles", name := "remove", desc := "(IJ)I" } : MethodName)) ∈ XT := xt_t (i := 499) (by decide +kernel) (by decide)
set_option maxRecDepth 20000 in
theorem kc_KF_remove : (Cond.code ({ cls := "KeyedFiles", name := "remove", desc := "(IJ)I" } : MethodName) prog_1_method_13_code (7 : Nat) (Option.some FieldType.int)) ∈ XT := xt_t (i := 500) (rfl) (by decide)
theorem m_KF_163 : (Cond.methodLink "KeyedFiles" (163 : Nat) ({ cls := "KeyedFiles", name := "dropRecord", desc := "(LKeyedFiles$Stored;)V" } : MethodName)) ∈ XT := xt_t (i := 501) (by decide +kernel) (by decide)
theorem ki_KF_dropRecord : (Cond.instanceMethod ({ cls := "KeyedFiles", name := "dropRecord", desc := "(LKeyedFiles$Stored;)V" } : MethodName)) ∈ XT := xt_t (i := 503) (by decide +kernel) (by decide)
set_option maxRecDepth 20000 in
theorem kc_KF_dropRecord : (Cond.code ({ cls := "KeyedFiles", name := "dropRecord", desc := "(LKeyedFiles$Stored;)V" } : MethodName) prog_1_method_27_code (4 : Nat) (Option.none : Option FieldType)) ∈ XT := xt_t (i := 504) (rfl) (by decide)
theorem m_LW_72 : (Cond.methodLink "KeyedFilesLaw" (72 : Nat) ({ cls := "KeyedFiles", name := "scan", desc := "(II)J" } : MethodName)) ∈ XT := xt_t (i := 505) (by decide +kernel) (by decide)
theorem ki_KF_scan : (Cond.instanceMethod ({ cls := "KeyedFiles", name := "scan", desc := "(II)J" } : MethodName)) ∈ XT := xt_t (i := 506) (by decide +kernel) (by decide)
theorem kv_KF_scan : (Cond.selects "KeyedFiles" ({ cls := "KeyedFiles", name := "scan", desc := "(II)J" } : MethodName) ({ cls := "KeyedFiles", name := "scan", desc := "(II)J" } : MethodName)) ∈ XT := xt_t (i := 507) (by decide +kernel) (by decide)
set_option maxRecDepth 20000 in
theorem kc_KF_scan : (Cond.code ({ cls := "KeyedFiles", name := "scan", desc := "(II)J" } : MethodName) prog_1_method_14_code (5 : Nat) (Option.some FieldType.long)) ∈ XT := xt_t (i := 508) (rfl) (by decide)
theorem m_LW_77 : (Cond.methodLink "KeyedFilesLaw" (77 : Nat) ({ cls := "KeyedFiles", name := "reference", desc := "(I)I" } : MethodName)) ∈ XT := xt_t (i := 509) (by decide +kernel) (by decide)
theorem ki_KF_reference : (Cond.instanceMethod ({ cls := "KeyedFiles", name := "reference", desc := "(I)I" } : MethodName)) ∈ XT := xt_t (i := 510) (by decide +kernel) (by decide)
theorem kv_KF_reference : (Cond.selects "KeyedFiles" ({ cls := "KeyedFiles", name := "reference", desc := "(I)I" } : MethodName) ({ cls := "KeyedFiles", name := "reference", desc := "(I)I" } : MethodName)) ∈ XT := xt_t (i := 511) (by decide +kernel) (by decide)
set_option maxRecDepth 20000 in
theorem kc_KF_reference : (Cond.code ({ cls := "KeyedFiles", name := "reference", desc := "(I)I" } : MethodName) prog_1_method_15_code (3 : Nat) (Option.some FieldType.int)) ∈ XT := xt_t (i := 512) (rfl) (by decide)
theorem m_LW_81 : (Cond.methodLink "KeyedFilesLaw" (81 : Nat) ({ cls := "KeyedFiles", name := "count", desc := "(I)I" } : MethodName)) ∈ XT := xt_t (i := 513) (by decide +kernel) (by decide)
theorem ki_KF_count : (Cond.instanceMethod ({ cls := "KeyedFiles", name := "count", desc := "(I)I" } : MethodName)) ∈ XT := xt_t (i := 514) (by decide +kernel) (by decide)
theorem kv_KF_count : (Cond.selects "KeyedFiles" ({ cls := "KeyedFiles", name := "count", desc := "(I)I" } : MethodName) ({ cls := "KeyedFiles", name := "count", desc := "(I)I" } : MethodName)) ∈ XT := xt_t (i := 515) (by decide +kernel) (by decide)
set_option maxRecDepth 20000 in
theorem kc_KF_count : (Cond.code ({ cls := "KeyedFiles", name := "count", desc := "(I)I" } : MethodName) prog_1_method_16_code (2 : Nat) (Option.some FieldType.int)) ∈ XT := xt_t (i := 516) (rfl) (by decide)
theorem m_LW_85 : (Cond.methodLink "KeyedFilesLaw" (85 : Nat) ({ cls := "KeyedFiles", name := "whole", desc := "()Z" } : MethodName)) ∈ XT := xt_t (i := 517) (by decide +kernel) (by decide)
theorem ki_KF_whole : (Cond.instanceMethod ({ cls := "KeyedFiles", name := "whole", desc := "()Z" } : MethodName)) ∈ XT := xt_t (i := 518) (by decide +kernel) (by decide)
theorem kv_KF_whole : (Cond.selects "KeyedFiles" ({ cls := "KeyedFiles", name := "whole", desc := "()Z" } : MethodName) ({ cls := "KeyedFiles", name := "whole", desc := "()Z" } : MethodName)) ∈ XT := xt_t (i := 519) (by decide +kernel) (by decide)
set_option maxRecDepth 20000 in
theorem kc_KF_whole : (Cond.code ({ cls := "KeyedFiles", name := "whole", desc := "()Z" } : MethodName) prog_1_method_17_code (3 : Nat) (Option.some FieldType.boolean)) ∈ XT := xt_t (i := 520) (rfl) (by decide)
theorem m_KF_184 : (Cond.methodLink "KeyedFiles" (184 : Nat) ({ cls := "KeyedFiles$KeyIndex", name := "isInOrder", desc := "(J)Z" } : MethodName)) ∈ XT := xt_t (i := 521) (by decide +kernel) (by decide)
theorem ki_KI_isInOrder : (Cond.instanceMethod ({ cls := "KeyedFiles$KeyIndex", name := "isInOrder", desc := "(J)Z" } : MethodName)) ∈ XT := xt_t (i := 522) (by decide +kernel) (by decide)
theorem kv_KI_isInOrder : (Cond.selects "KeyedFiles$KeyIndex" ({ cls := "KeyedFiles$KeyIndex", name := "isInOrder", desc := "(J)Z" } : MethodName) ({ cls := "KeyedFiles$KeyIndex", name := "isInOrder", desc := "(J)Z" } : MethodName)) ∈ XT := xt_t (i := 523) (by decide +kernel) (by decide)
set_option maxRecDepth 20000 in
theorem kc_KI_isInOrder : (Cond.code ({ cls := "KeyedFiles$KeyIndex", name := "isInOrder", desc := "(J)Z" } : MethodName) prog_3_method_16_code (7 : Nat) (Option.some FieldType.boolean)) ∈ XT := xt_t (i := 524) (rfl) (by decide)
theorem m_KI_118 : (Cond.methodLink "KeyedFiles$KeyIndex" (118 : Nat) ({ cls := "KeyedFiles$KeyIndex", name := "isRightlyAhead", desc := "(LKeyedFiles$Entry;LKeyedFiles$Entry;)Z" } : MethodName)) ∈ XT := xt_t (i := 525) (by decide +kernel) (by decide)
theorem ki_KI_isRightlyAhead : (Cond.instanceMethod ({ cls := "KeyedFiles$KeyIndex", name := "isRightlyAhead", desc := "(LKeyedFiles$Entry;LKeyedFiles$Entry;)Z" } : MethodName)) ∈ XT := xt_t (i := 526) (by decide +kernel) (by decide)
theorem kv_KI_isRightlyAhead : (Cond.selects "KeyedFiles$KeyIndex" ({ cls := "KeyedFiles$KeyIndex", name := "isRightlyAhead", desc := "(LKeyedFiles$Entry;LKeyedFiles$Entry;)Z" } : MethodName) ({ cls := "KeyedFiles$KeyIndex", name := "isRightlyAhead", desc := "(LKeyedFiles$Entry;LKeyedFiles$Entry;)Z" } : MethodName)) ∈ XT := xt_t (i := 527) (by decide +kernel) (by decide)
set_option maxRecDepth 20000 in
theorem kc_KI_isRightlyAhead : (Cond.code ({ cls := "KeyedFiles$KeyIndex", name := "isRightlyAhead", desc := "(LKeyedFiles$Entry;LKeyedFiles$Entry;)Z" } : MethodName) prog_3_method_17_code (3 : Nat) (Option.some FieldType.boolean)) ∈ XT := xt_t (i := 528) (rfl) (by decide)
theorem m_KF_191 : (Cond.methodLink "KeyedFiles" (191 : Nat) ({ cls := "KeyedFiles", name := "entriesDue", desc := "(LKeyedFiles$KeyIndex;)I" } : MethodName)) ∈ XT := xt_t (i := 529) (by decide +kernel) (by decide)
theorem ki_KF_entriesDue : (Cond.instanceMethod ({ cls := "KeyedFiles", name := "entriesDue", desc := "(LKeyedFiles$KeyIndex;)I" } : MethodName)) ∈ XT := xt_t (i := 531) (by decide +kernel) (by decide)
set_option maxRecDepth 20000 in
theorem kc_KF_entriesDue : (Cond.code ({ cls := "KeyedFiles", name := "entriesDue", desc := "(LKeyedFiles$KeyIndex;)I" } : MethodName) prog_1_method_31_code (5 : Nat) (Option.some FieldType.int)) ∈ XT := xt_t (i := 532) (rfl) (by decide)
theorem cl_KF_172 : (Cond.classLink "KeyedFiles" (172 : Nat) "KeyedFiles$Entry") ∈ XT := xt_t (i := 533) (by decide +kernel) (by decide)
theorem m_KF_248 : (Cond.methodLink "KeyedFiles" (248 : Nat) ({ cls := "KeyedFiles$KeyIndex", name := "leavesOut", desc := "(J)Z" } : MethodName)) ∈ XT := xt_t (i := 534) (by decide +kernel) (by decide)
theorem cl_LW_10 : (Cond.classLink "KeyedFilesLaw" (10 : Nat) "KeyedFilesModel") ∈ XT := xt_t (i := 535) (by decide +kernel) (by decide)
theorem kb_MD : (Cond.instantiable "KeyedFilesModel" (29 : Nat)) ∈ XT := xt_t (i := 536) (by decide +kernel) (by decide)
theorem m_LW_12 : (Cond.methodLink "KeyedFilesLaw" (12 : Nat) ({ cls := "KeyedFilesModel", name := "<init>", desc := "()V" } : MethodName)) ∈ XT := xt_t (i := 537) (by decide +kernel) (by decide)
theorem ki_MD_init : (Cond.instanceMethod ({ cls := "KeyedFilesModel", name := "<init>", desc := "()V" } : MethodName)) ∈ XT := xt_t (i := 538) (by decide +kernel) (by decide)
set_option maxRecDepth 20000 in
theorem kc_MD_init : (Cond.code ({ cls := "KeyedFilesModel", name := "<init>", desc := "()V" } : MethodName) prog_7_method_1_code (1 : Nat) (Option.none : Option FieldType)) ∈ XT := xt_t (i := 539) (rfl) (by decide)
theorem m_MD_1 : (Cond.methodLink "KeyedFilesModel" (1 : Nat) ({ cls := "java/lang/Object", name := "<init>", desc := "()V" } : MethodName)) ∈ XT := xt_t (i := 540) (by decide +kernel) (by decide)
theorem f_MD_72 : (Cond.fieldLink "KeyedFilesModel" (72 : Nat) "KeyedFilesModel" "thrown" "I") ∈ XT := xt_t (i := 541) (by decide +kernel) (by decide)
theorem f_MD_7 : (Cond.fieldLink "KeyedFilesModel" (7 : Nat) "KeyedFilesModel" "froms" "[I") ∈ XT := xt_t (i := 542) (by decide +kernel) (by decide)
theorem f_MD_13 : (Cond.fieldLink "KeyedFilesModel" (13 : Nat) "KeyedFilesModel" "sizes" "[I") ∈ XT := xt_t (i := 543) (by decide +kernel) (by decide)
theorem f_MD_16 : (Cond.fieldLink "KeyedFilesModel" (16 : Nat) "KeyedFilesModel" "doubles" "[Z") ∈ XT := xt_t (i := 544) (by decide +kernel) (by decide)
theorem f_MD_20 : (Cond.fieldLink "KeyedFilesModel" (20 : Nat) "KeyedFilesModel" "sparse" "[Z") ∈ XT := xt_t (i := 545) (by decide +kernel) (by decide)
theorem f_MD_23 : (Cond.fieldLink "KeyedFilesModel" (23 : Nat) "KeyedFilesModel" "spared" "[J") ∈ XT := xt_t (i := 546) (by decide +kernel) (by decide)
theorem f_MD_78 : (Cond.fieldLink "KeyedFilesModel" (78 : Nat) "KeyedFilesModel" "keys" "I") ∈ XT := xt_t (i := 547) (by decide +kernel) (by decide)
theorem f_MD_81 : (Cond.fieldLink "KeyedFilesModel" (81 : Nat) "KeyedFilesModel" "views" "I") ∈ XT := xt_t (i := 548) (by decide +kernel) (by decide)
theorem f_MD_84 : (Cond.fieldLink "KeyedFilesModel" (84 : Nat) "KeyedFilesModel" "opened" "Z") ∈ XT := xt_t (i := 549) (by decide +kernel) (by decide)
theorem f_MD_27 : (Cond.fieldLink "KeyedFilesModel" (27 : Nat) "KeyedFilesModel" "records" "[J") ∈ XT := xt_t (i := 550) (by decide +kernel) (by decide)
theorem f_MD_30 : (Cond.fieldLink "KeyedFilesModel" (30 : Nat) "KeyedFilesModel" "numbers" "[I") ∈ XT := xt_t (i := 551) (by decide +kernel) (by decide)
theorem f_MD_33 : (Cond.fieldLink "KeyedFilesModel" (33 : Nat) "KeyedFilesModel" "ranks" "[I") ∈ XT := xt_t (i := 552) (by decide +kernel) (by decide)
theorem f_MD_95 : (Cond.fieldLink "KeyedFilesModel" (95 : Nat) "KeyedFilesModel" "many" "I") ∈ XT := xt_t (i := 553) (by decide +kernel) (by decide)
theorem f_MD_162 : (Cond.fieldLink "KeyedFilesModel" (162 : Nat) "KeyedFilesModel" "numbered" "I") ∈ XT := xt_t (i := 554) (by decide +kernel) (by decide)
theorem f_MD_147 : (Cond.fieldLink "KeyedFilesModel" (147 : Nat) "KeyedFilesModel" "ranked" "I") ∈ XT := xt_t (i := 555) (by decide +kernel) (by decide)
theorem f_MD_36 : (Cond.fieldLink "KeyedFilesModel" (36 : Nat) "KeyedFilesModel" "modes" "[I") ∈ XT := xt_t (i := 556) (by decide +kernel) (by decide)
theorem f_MD_39 : (Cond.fieldLink "KeyedFilesModel" (39 : Nat) "KeyedFilesModel" "accesses" "[I") ∈ XT := xt_t (i := 557) (by decide +kernel) (by decide)
theorem f_MD_42 : (Cond.fieldLink "KeyedFilesModel" (42 : Nat) "KeyedFilesModel" "references" "[I") ∈ XT := xt_t (i := 558) (by decide +kernel) (by decide)
theorem f_MD_45 : (Cond.fieldLink "KeyedFilesModel" (45 : Nat) "KeyedFilesModel" "places" "[I") ∈ XT := xt_t (i := 559) (by decide +kernel) (by decide)
theorem f_MD_48 : (Cond.fieldLink "KeyedFilesModel" (48 : Nat) "KeyedFilesModel" "placeRanks" "[I") ∈ XT := xt_t (i := 560) (by decide +kernel) (by decide)
theorem f_MD_51 : (Cond.fieldLink "KeyedFilesModel" (51 : Nat) "KeyedFilesModel" "readNumbers" "[I") ∈ XT := xt_t (i := 561) (by decide +kernel) (by decide)
theorem f_MD_54 : (Cond.fieldLink "KeyedFilesModel" (54 : Nat) "KeyedFilesModel" "placeFields" "[J") ∈ XT := xt_t (i := 562) (by decide +kernel) (by decide)
theorem f_MD_57 : (Cond.fieldLink "KeyedFilesModel" (57 : Nat) "KeyedFilesModel" "values" "[J") ∈ XT := xt_t (i := 563) (by decide +kernel) (by decide)
theorem f_MD_60 : (Cond.fieldLink "KeyedFilesModel" (60 : Nat) "KeyedFilesModel" "lasts" "[J") ∈ XT := xt_t (i := 564) (by decide +kernel) (by decide)
theorem f_MD_63 : (Cond.fieldLink "KeyedFilesModel" (63 : Nat) "KeyedFilesModel" "open" "[Z") ∈ XT := xt_t (i := 565) (by decide +kernel) (by decide)
theorem f_MD_66 : (Cond.fieldLink "KeyedFilesModel" (66 : Nat) "KeyedFilesModel" "ended" "[Z") ∈ XT := xt_t (i := 566) (by decide +kernel) (by decide)
theorem f_MD_69 : (Cond.fieldLink "KeyedFilesModel" (69 : Nat) "KeyedFilesModel" "wrote" "[Z") ∈ XT := xt_t (i := 567) (by decide +kernel) (by decide)
theorem f_MD_136 : (Cond.fieldLink "KeyedFilesModel" (136 : Nat) "KeyedFilesModel" "hadNumber" "I") ∈ XT := xt_t (i := 568) (by decide +kernel) (by decide)
theorem f_MD_139 : (Cond.fieldLink "KeyedFilesModel" (139 : Nat) "KeyedFilesModel" "hadValue" "J") ∈ XT := xt_t (i := 569) (by decide +kernel) (by decide)
theorem ka_int : (Cond.arrayClass FieldType.int) ∈ XT := xt_t (i := 629) (by decide +kernel) (by decide)
theorem ka_boolean : (Cond.arrayClass FieldType.boolean) ∈ XT := xt_t (i := 630) (by decide +kernel) (by decide)
theorem ka_long : (Cond.arrayClass FieldType.long) ∈ XT := xt_t (i := 631) (by decide +kernel) (by decide)
theorem m_LW_17 : (Cond.methodLink "KeyedFilesLaw" (17 : Nat) ({ cls := "KeyedFilesModel", name := "key", desc := "(ZZII)I" } : MethodName)) ∈ XT := xt_t (i := 632) (by decide +kernel) (by decide)
theorem ki_MD_key : (Cond.instanceMethod ({ cls := "KeyedFilesModel", name := "key", desc := "(ZZII)I" } : MethodName)) ∈ XT := xt_t (i := 633) (by decide +kernel) (by decide)
theorem kv_MD_key : (Cond.selects "KeyedFilesModel" ({ cls := "KeyedFilesModel", name := "key", desc := "(ZZII)I" } : MethodName) ({ cls := "KeyedFilesModel", name := "key", desc := "(ZZII)I" } : MethodName)) ∈ XT := xt_t (i := 634) (by decide +kernel) (by decide)
set_option maxRecDepth 20000 in
theorem kc_MD_key : (Cond.code ({ cls := "KeyedFilesModel", name := "key", desc := "(ZZII)I" } : MethodName) prog_7_method_7_code (6 : Nat) (Option.some FieldType.int)) ∈ XT := xt_t (i := 635) (rfl) (by decide)
theorem m_LW_24 : (Cond.methodLink "KeyedFilesLaw" (24 : Nat) ({ cls := "KeyedFilesModel", name := "sparse", desc := "(IJ)I" } : MethodName)) ∈ XT := xt_t (i := 636) (by decide +kernel) (by decide)
theorem ki_MD_sparse : (Cond.instanceMethod ({ cls := "KeyedFilesModel", name := "sparse", desc := "(IJ)I" } : MethodName)) ∈ XT := xt_t (i := 637) (by decide +kernel) (by decide)
theorem kv_MD_sparse : (Cond.selects "KeyedFilesModel" ({ cls := "KeyedFilesModel", name := "sparse", desc := "(IJ)I" } : MethodName) ({ cls := "KeyedFilesModel", name := "sparse", desc := "(IJ)I" } : MethodName)) ∈ XT := xt_t (i := 638) (by decide +kernel) (by decide)
set_option maxRecDepth 20000 in
theorem kc_MD_sparse : (Cond.code ({ cls := "KeyedFilesModel", name := "sparse", desc := "(IJ)I" } : MethodName) prog_7_method_8_code (4 : Nat) (Option.some FieldType.int)) ∈ XT := xt_t (i := 639) (rfl) (by decide)
theorem m_MD_88 : (Cond.methodLink "KeyedFilesModel" (88 : Nat) ({ cls := "KeyedFilesModel", name := "isKey", desc := "(I)Z" } : MethodName)) ∈ XT := xt_t (i := 640) (by decide +kernel) (by decide)
theorem ki_MD_isKey : (Cond.instanceMethod ({ cls := "KeyedFilesModel", name := "isKey", desc := "(I)Z" } : MethodName)) ∈ XT := xt_t (i := 642) (by decide +kernel) (by decide)
set_option maxRecDepth 20000 in
theorem kc_MD_isKey : (Cond.code ({ cls := "KeyedFilesModel", name := "isKey", desc := "(I)Z" } : MethodName) prog_7_method_5_code (2 : Nat) (Option.some FieldType.boolean)) ∈ XT := xt_t (i := 643) (rfl) (by decide)
theorem m_LW_29 : (Cond.methodLink "KeyedFilesLaw" (29 : Nat) ({ cls := "KeyedFilesModel", name := "view", desc := "()I" } : MethodName)) ∈ XT := xt_t (i := 644) (by decide +kernel) (by decide)
theorem ki_MD_view : (Cond.instanceMethod ({ cls := "KeyedFilesModel", name := "view", desc := "()I" } : MethodName)) ∈ XT := xt_t (i := 645) (by decide +kernel) (by decide)
theorem kv_MD_view : (Cond.selects "KeyedFilesModel" ({ cls := "KeyedFilesModel", name := "view", desc := "()I" } : MethodName) ({ cls := "KeyedFilesModel", name := "view", desc := "()I" } : MethodName)) ∈ XT := xt_t (i := 646) (by decide +kernel) (by decide)
set_option maxRecDepth 20000 in
theorem kc_MD_view : (Cond.code ({ cls := "KeyedFilesModel", name := "view", desc := "()I" } : MethodName) prog_7_method_9_code (1 : Nat) (Option.some FieldType.int)) ∈ XT := xt_t (i := 647) (rfl) (by decide)
theorem m_LW_34 : (Cond.methodLink "KeyedFilesLaw" (34 : Nat) ({ cls := "KeyedFilesModel", name := "open", desc := "(III)I" } : MethodName)) ∈ XT := xt_t (i := 648) (by decide +kernel) (by decide)
theorem ki_MD_open : (Cond.instanceMethod ({ cls := "KeyedFilesModel", name := "open", desc := "(III)I" } : MethodName)) ∈ XT := xt_t (i := 649) (by decide +kernel) (by decide)
theorem kv_MD_open : (Cond.selects "KeyedFilesModel" ({ cls := "KeyedFilesModel", name := "open", desc := "(III)I" } : MethodName) ({ cls := "KeyedFilesModel", name := "open", desc := "(III)I" } : MethodName)) ∈ XT := xt_t (i := 650) (by decide +kernel) (by decide)
set_option maxRecDepth 20000 in
theorem kc_MD_open : (Cond.code ({ cls := "KeyedFilesModel", name := "open", desc := "(III)I" } : MethodName) prog_7_method_10_code (5 : Nat) (Option.some FieldType.int)) ∈ XT := xt_t (i := 651) (rfl) (by decide)
theorem m_MD_92 : (Cond.methodLink "KeyedFilesModel" (92 : Nat) ({ cls := "KeyedFilesModel", name := "isView", desc := "(I)Z" } : MethodName)) ∈ XT := xt_t (i := 652) (by decide +kernel) (by decide)
theorem ki_MD_isView : (Cond.instanceMethod ({ cls := "KeyedFilesModel", name := "isView", desc := "(I)Z" } : MethodName)) ∈ XT := xt_t (i := 654) (by decide +kernel) (by decide)
set_option maxRecDepth 20000 in
theorem kc_MD_isView : (Cond.code ({ cls := "KeyedFilesModel", name := "isView", desc := "(I)Z" } : MethodName) prog_7_method_6_code (2 : Nat) (Option.some FieldType.boolean)) ∈ XT := xt_t (i := 655) (rfl) (by decide)
theorem m_LW_39 : (Cond.methodLink "KeyedFilesLaw" (39 : Nat) ({ cls := "KeyedFilesModel", name := "close", desc := "(I)I" } : MethodName)) ∈ XT := xt_t (i := 656) (by decide +kernel) (by decide)
theorem ki_MD_close : (Cond.instanceMethod ({ cls := "KeyedFilesModel", name := "close", desc := "(I)I" } : MethodName)) ∈ XT := xt_t (i := 657) (by decide +kernel) (by decide)
theorem kv_MD_close : (Cond.selects "KeyedFilesModel" ({ cls := "KeyedFilesModel", name := "close", desc := "(I)I" } : MethodName) ({ cls := "KeyedFilesModel", name := "close", desc := "(I)I" } : MethodName)) ∈ XT := xt_t (i := 658) (by decide +kernel) (by decide)
set_option maxRecDepth 20000 in
theorem kc_MD_close : (Cond.code ({ cls := "KeyedFilesModel", name := "close", desc := "(I)I" } : MethodName) prog_7_method_11_code (2 : Nat) (Option.some FieldType.int)) ∈ XT := xt_t (i := 659) (rfl) (by decide)
theorem m_LW_43 : (Cond.methodLink "KeyedFilesLaw" (43 : Nat) ({ cls := "KeyedFilesModel", name := "write", desc := "(IJ)I" } : MethodName)) ∈ XT := xt_t (i := 660) (by decide +kernel) (by decide)
theorem ki_MD_write : (Cond.instanceMethod ({ cls := "KeyedFilesModel", name := "write", desc := "(IJ)I" } : MethodName)) ∈ XT := xt_t (i := 661) (by decide +kernel) (by decide)
theorem kv_MD_write : (Cond.selects "KeyedFilesModel" ({ cls := "KeyedFilesModel", name := "write", desc := "(IJ)I" } : MethodName) ({ cls := "KeyedFilesModel", name := "write", desc := "(IJ)I" } : MethodName)) ∈ XT := xt_t (i := 662) (by decide +kernel) (by decide)
set_option maxRecDepth 20000 in
theorem kc_MD_write : (Cond.code ({ cls := "KeyedFilesModel", name := "write", desc := "(IJ)I" } : MethodName) prog_7_method_27_code (8 : Nat) (Option.some FieldType.int)) ∈ XT := xt_t (i := 663) (rfl) (by decide)
theorem m_MD_150 : (Cond.methodLink "KeyedFilesModel" (150 : Nat) ({ cls := "KeyedFilesModel", name := "forget", desc := "(I)V" } : MethodName)) ∈ XT := xt_t (i := 664) (by decide +kernel) (by decide)
theorem ki_MD_forget : (Cond.instanceMethod ({ cls := "KeyedFilesModel", name := "forget", desc := "(I)V" } : MethodName)) ∈ XT := xt_t (i := 666) (by decide +kernel) (by decide)
set_option maxRecDepth 20000 in
theorem kc_MD_forget : (Cond.code ({ cls := "KeyedFilesModel", name := "forget", desc := "(I)V" } : MethodName) prog_7_method_22_code (2 : Nat) (Option.none : Option FieldType)) ∈ XT := xt_t (i := 667) (rfl) (by decide)
theorem m_MD_98 : (Cond.methodLink "KeyedFilesModel" (98 : Nat) ({ cls := "KeyedFilesModel", name := "field", desc := "(IJ)J" } : MethodName)) ∈ XT := xt_t (i := 668) (by decide +kernel) (by decide)
theorem ki_MD_field : (Cond.instanceMethod ({ cls := "KeyedFilesModel", name := "field", desc := "(IJ)J" } : MethodName)) ∈ XT := xt_t (i := 670) (by decide +kernel) (by decide)
set_option maxRecDepth 20000 in
theorem kc_MD_field : (Cond.code ({ cls := "KeyedFilesModel", name := "field", desc := "(IJ)J" } : MethodName) prog_7_method_3_code (6 : Nat) (Option.some FieldType.long)) ∈ XT := xt_t (i := 671) (rfl) (by decide)
theorem m_MD_106 : (Cond.methodLink "KeyedFilesModel" (106 : Nat) ({ cls := "KeyedFilesModel", name := "isLess", desc := "(JJ)Z" } : MethodName)) ∈ XT := xt_t (i := 672) (by decide +kernel) (by decide)
theorem ks_MD_isLess : (Cond.static ({ cls := "KeyedFilesModel", name := "isLess", desc := "(JJ)Z" } : MethodName)) ∈ XT := xt_t (i := 673) (by decide +kernel) (by decide)
set_option maxRecDepth 20000 in
theorem kc_MD_isLess : (Cond.code ({ cls := "KeyedFilesModel", name := "isLess", desc := "(JJ)Z" } : MethodName) prog_7_method_4_code (4 : Nat) (Option.some FieldType.boolean)) ∈ XT := xt_t (i := 674) (rfl) (by decide)
theorem kl_MD_76 : (Cond.constantLong "KeyedFilesModel" (76 : Nat) (-9223372036854775808 : Int64)) ∈ XT := xt_t (i := 675) (by decide +kernel) (by decide)
theorem m_MD_154 : (Cond.methodLink "KeyedFilesModel" (154 : Nat) ({ cls := "KeyedFilesModel", name := "barred", desc := "(JI)I" } : MethodName)) ∈ XT := xt_t (i := 676) (by decide +kernel) (by decide)
theorem ki_MD_barred : (Cond.instanceMethod ({ cls := "KeyedFilesModel", name := "barred", desc := "(JI)I" } : MethodName)) ∈ XT := xt_t (i := 678) (by decide +kernel) (by decide)
set_option maxRecDepth 20000 in
theorem kc_MD_barred : (Cond.code ({ cls := "KeyedFilesModel", name := "barred", desc := "(JI)I" } : MethodName) prog_7_method_25_code (9 : Nat) (Option.some FieldType.int)) ∈ XT := xt_t (i := 679) (rfl) (by decide)
theorem m_MD_114 : (Cond.methodLink "KeyedFilesModel" (114 : Nat) ({ cls := "KeyedFilesModel", name := "isEntry", desc := "(II)Z" } : MethodName)) ∈ XT := xt_t (i := 680) (by decide +kernel) (by decide)
theorem ki_MD_isEntry : (Cond.instanceMethod ({ cls := "KeyedFilesModel", name := "isEntry", desc := "(II)Z" } : MethodName)) ∈ XT := xt_t (i := 682) (by decide +kernel) (by decide)
set_option maxRecDepth 20000 in
theorem kc_MD_isEntry : (Cond.code ({ cls := "KeyedFilesModel", name := "isEntry", desc := "(II)Z" } : MethodName) prog_7_method_14_code (3 : Nat) (Option.some FieldType.boolean)) ∈ XT := xt_t (i := 683) (rfl) (by decide)
theorem m_MD_102 : (Cond.methodLink "KeyedFilesModel" (102 : Nat) ({ cls := "KeyedFilesModel", name := "hasEntry", desc := "(IJ)Z" } : MethodName)) ∈ XT := xt_t (i := 684) (by decide +kernel) (by decide)
theorem ki_MD_hasEntry : (Cond.instanceMethod ({ cls := "KeyedFilesModel", name := "hasEntry", desc := "(IJ)Z" } : MethodName)) ∈ XT := xt_t (i := 686) (by decide +kernel) (by decide)
set_option maxRecDepth 20000 in
theorem kc_MD_hasEntry : (Cond.code ({ cls := "KeyedFilesModel", name := "hasEntry", desc := "(IJ)Z" } : MethodName) prog_7_method_12_code (4 : Nat) (Option.some FieldType.boolean)) ∈ XT := xt_t (i := 687) (rfl) (by decide)
theorem m_MD_125 : (Cond.methodLink "KeyedFilesModel" (125 : Nat) ({ cls := "KeyedFilesModel", name := "equal", desc := "(IJI)I" } : MethodName)) ∈ XT := xt_t (i := 688) (by decide +kernel) (by decide)
theorem ki_MD_equal : (Cond.instanceMethod ({ cls := "KeyedFilesModel", name := "equal", desc := "(IJI)I" } : MethodName)) ∈ XT := xt_t (i := 690) (by decide +kernel) (by decide)
set_option maxRecDepth 20000 in
theorem kc_MD_equal : (Cond.code ({ cls := "KeyedFilesModel", name := "equal", desc := "(IJI)I" } : MethodName) prog_7_method_19_code (6 : Nat) (Option.some FieldType.int)) ∈ XT := xt_t (i := 691) (rfl) (by decide)
theorem m_MD_158 : (Cond.methodLink "KeyedFilesModel" (158 : Nat) ({ cls := "KeyedFilesModel", name := "rankAll", desc := "(IJZ)V" } : MethodName)) ∈ XT := xt_t (i := 692) (by decide +kernel) (by decide)
theorem ki_MD_rankAll : (Cond.instanceMethod ({ cls := "KeyedFilesModel", name := "rankAll", desc := "(IJZ)V" } : MethodName)) ∈ XT := xt_t (i := 694) (by decide +kernel) (by decide)
set_option maxRecDepth 20000 in
theorem kc_MD_rankAll : (Cond.code ({ cls := "KeyedFilesModel", name := "rankAll", desc := "(IJZ)V" } : MethodName) prog_7_method_26_code (7 : Nat) (Option.none : Option FieldType)) ∈ XT := xt_t (i := 695) (rfl) (by decide)
theorem m_LW_48 : (Cond.methodLink "KeyedFilesLaw" (48 : Nat) ({ cls := "KeyedFilesModel", name := "read", desc := "(IIJ)I" } : MethodName)) ∈ XT := xt_t (i := 696) (by decide +kernel) (by decide)
theorem ki_MD_read : (Cond.instanceMethod ({ cls := "KeyedFilesModel", name := "read", desc := "(IIJ)I" } : MethodName)) ∈ XT := xt_t (i := 697) (by decide +kernel) (by decide)
theorem kv_MD_read : (Cond.selects "KeyedFilesModel" ({ cls := "KeyedFilesModel", name := "read", desc := "(IIJ)I" } : MethodName) ({ cls := "KeyedFilesModel", name := "read", desc := "(IIJ)I" } : MethodName)) ∈ XT := xt_t (i := 698) (by decide +kernel) (by decide)
set_option maxRecDepth 20000 in
theorem kc_MD_read : (Cond.code ({ cls := "KeyedFilesModel", name := "read", desc := "(IIJ)I" } : MethodName) prog_7_method_28_code (6 : Nat) (Option.some FieldType.int)) ∈ XT := xt_t (i := 699) (rfl) (by decide)
theorem m_MD_165 : (Cond.methodLink "KeyedFilesModel" (165 : Nat) ({ cls := "KeyedFilesModel", name := "reads", desc := "(I)Z" } : MethodName)) ∈ XT := xt_t (i := 700) (by decide +kernel) (by decide)
theorem ki_MD_reads : (Cond.instanceMethod ({ cls := "KeyedFilesModel", name := "reads", desc := "(I)Z" } : MethodName)) ∈ XT := xt_t (i := 702) (by decide +kernel) (by decide)
set_option maxRecDepth 20000 in
theorem kc_MD_reads : (Cond.code ({ cls := "KeyedFilesModel", name := "reads", desc := "(I)Z" } : MethodName) prog_7_method_24_code (2 : Nat) (Option.some FieldType.boolean)) ∈ XT := xt_t (i := 703) (rfl) (by decide)
theorem m_MD_133 : (Cond.methodLink "KeyedFilesModel" (133 : Nat) ({ cls := "KeyedFilesModel", name := "after", desc := "(IJIZ)I" } : MethodName)) ∈ XT := xt_t (i := 704) (by decide +kernel) (by decide)
theorem ki_MD_after : (Cond.instanceMethod ({ cls := "KeyedFilesModel", name := "after", desc := "(IJIZ)I" } : MethodName)) ∈ XT := xt_t (i := 706) (by decide +kernel) (by decide)
set_option maxRecDepth 20000 in
theorem kc_MD_after : (Cond.code ({ cls := "KeyedFilesModel", name := "after", desc := "(IJIZ)I" } : MethodName) prog_7_method_17_code (8 : Nat) (Option.some FieldType.int)) ∈ XT := xt_t (i := 707) (rfl) (by decide)
theorem m_MD_118 : (Cond.methodLink "KeyedFilesModel" (118 : Nat) ({ cls := "KeyedFilesModel", name := "isAhead", desc := "(IIJI)Z" } : MethodName)) ∈ XT := xt_t (i := 708) (by decide +kernel) (by decide)
theorem ki_MD_isAhead : (Cond.instanceMethod ({ cls := "KeyedFilesModel", name := "isAhead", desc := "(IIJI)Z" } : MethodName)) ∈ XT := xt_t (i := 710) (by decide +kernel) (by decide)
set_option maxRecDepth 20000 in
theorem kc_MD_isAhead : (Cond.code ({ cls := "KeyedFilesModel", name := "isAhead", desc := "(IIJI)Z" } : MethodName) prog_7_method_15_code (8 : Nat) (Option.some FieldType.boolean)) ∈ XT := xt_t (i := 711) (rfl) (by decide)
theorem m_MD_110 : (Cond.methodLink "KeyedFilesModel" (110 : Nat) ({ cls := "KeyedFilesModel", name := "rank", desc := "(II)I" } : MethodName)) ∈ XT := xt_t (i := 712) (by decide +kernel) (by decide)
theorem ki_MD_rank : (Cond.instanceMethod ({ cls := "KeyedFilesModel", name := "rank", desc := "(II)I" } : MethodName)) ∈ XT := xt_t (i := 714) (by decide +kernel) (by decide)
set_option maxRecDepth 20000 in
theorem kc_MD_rank : (Cond.code ({ cls := "KeyedFilesModel", name := "rank", desc := "(II)I" } : MethodName) prog_7_method_13_code (3 : Nat) (Option.some FieldType.int)) ∈ XT := xt_t (i := 715) (rfl) (by decide)
theorem m_MD_122 : (Cond.methodLink "KeyedFilesModel" (122 : Nat) ({ cls := "KeyedFilesModel", name := "isBehind", desc := "(IIJI)Z" } : MethodName)) ∈ XT := xt_t (i := 716) (by decide +kernel) (by decide)
theorem ki_MD_isBehind : (Cond.instanceMethod ({ cls := "KeyedFilesModel", name := "isBehind", desc := "(IIJI)Z" } : MethodName)) ∈ XT := xt_t (i := 718) (by decide +kernel) (by decide)
set_option maxRecDepth 20000 in
theorem kc_MD_isBehind : (Cond.code ({ cls := "KeyedFilesModel", name := "isBehind", desc := "(IIJI)Z" } : MethodName) prog_7_method_16_code (8 : Nat) (Option.some FieldType.boolean)) ∈ XT := xt_t (i := 719) (rfl) (by decide)
theorem m_MD_168 : (Cond.methodLink "KeyedFilesModel" (168 : Nat) ({ cls := "KeyedFilesModel", name := "got", desc := "(IIIZ)I" } : MethodName)) ∈ XT := xt_t (i := 720) (by decide +kernel) (by decide)
theorem ki_MD_got : (Cond.instanceMethod ({ cls := "KeyedFilesModel", name := "got", desc := "(IIIZ)I" } : MethodName)) ∈ XT := xt_t (i := 722) (by decide +kernel) (by decide)
set_option maxRecDepth 20000 in
theorem kc_MD_got : (Cond.code ({ cls := "KeyedFilesModel", name := "got", desc := "(IIIZ)I" } : MethodName) prog_7_method_23_code (5 : Nat) (Option.some FieldType.int)) ∈ XT := xt_t (i := 723) (rfl) (by decide)
theorem m_MD_143 : (Cond.methodLink "KeyedFilesModel" (143 : Nat) ({ cls := "KeyedFilesModel", name := "status", desc := "(IIZ)I" } : MethodName)) ∈ XT := xt_t (i := 724) (by decide +kernel) (by decide)
theorem ki_MD_status : (Cond.instanceMethod ({ cls := "KeyedFilesModel", name := "status", desc := "(IIZ)I" } : MethodName)) ∈ XT := xt_t (i := 726) (by decide +kernel) (by decide)
set_option maxRecDepth 20000 in
theorem kc_MD_status : (Cond.code ({ cls := "KeyedFilesModel", name := "status", desc := "(IIZ)I" } : MethodName) prog_7_method_21_code (7 : Nat) (Option.some FieldType.int)) ∈ XT := xt_t (i := 727) (rfl) (by decide)
theorem m_MD_129 : (Cond.methodLink "KeyedFilesModel" (129 : Nat) ({ cls := "KeyedFilesModel", name := "ahead", desc := "(IJIZ)I" } : MethodName)) ∈ XT := xt_t (i := 728) (by decide +kernel) (by decide)
theorem ki_MD_ahead : (Cond.instanceMethod ({ cls := "KeyedFilesModel", name := "ahead", desc := "(IJIZ)I" } : MethodName)) ∈ XT := xt_t (i := 730) (by decide +kernel) (by decide)
set_option maxRecDepth 20000 in
theorem kc_MD_ahead : (Cond.code ({ cls := "KeyedFilesModel", name := "ahead", desc := "(IJIZ)I" } : MethodName) prog_7_method_18_code (8 : Nat) (Option.some FieldType.int)) ∈ XT := xt_t (i := 731) (rfl) (by decide)
theorem m_LW_53 : (Cond.methodLink "KeyedFilesLaw" (53 : Nat) ({ cls := "KeyedFilesModel", name := "value", desc := "(I)J" } : MethodName)) ∈ XT := xt_t (i := 732) (by decide +kernel) (by decide)
theorem ki_MD_value : (Cond.instanceMethod ({ cls := "KeyedFilesModel", name := "value", desc := "(I)J" } : MethodName)) ∈ XT := xt_t (i := 733) (by decide +kernel) (by decide)
theorem kv_MD_value : (Cond.selects "KeyedFilesModel" ({ cls := "KeyedFilesModel", name := "value", desc := "(I)J" } : MethodName) ({ cls := "KeyedFilesModel", name := "value", desc := "(I)J" } : MethodName)) ∈ XT := xt_t (i := 734) (by decide +kernel) (by decide)
set_option maxRecDepth 20000 in
theorem kc_MD_value : (Cond.code ({ cls := "KeyedFilesModel", name := "value", desc := "(I)J" } : MethodName) prog_7_method_29_code (2 : Nat) (Option.some FieldType.long)) ∈ XT := xt_t (i := 735) (rfl) (by decide)
theorem m_LW_58 : (Cond.methodLink "KeyedFilesLaw" (58 : Nat) ({ cls := "KeyedFilesModel", name := "start", desc := "(IIIJI)I" } : MethodName)) ∈ XT := xt_t (i := 736) (by decide +kernel) (by decide)
theorem ki_MD_start : (Cond.instanceMethod ({ cls := "KeyedFilesModel", name := "start", desc := "(IIIJI)I" } : MethodName)) ∈ XT := xt_t (i := 737) (by decide +kernel) (by decide)
theorem kv_MD_start : (Cond.selects "KeyedFilesModel" ({ cls := "KeyedFilesModel", name := "start", desc := "(IIIJI)I" } : MethodName) ({ cls := "KeyedFilesModel", name := "start", desc := "(IIIJI)I" } : MethodName)) ∈ XT := xt_t (i := 738) (by decide +kernel) (by decide)
set_option maxRecDepth 20000 in
theorem kc_MD_start : (Cond.code ({ cls := "KeyedFilesModel", name := "start", desc := "(IIIJI)I" } : MethodName) prog_7_method_31_code (12 : Nat) (Option.some FieldType.int)) ∈ XT := xt_t (i := 739) (rfl) (by decide)
theorem m_MD_172 : (Cond.methodLink "KeyedFilesModel" (172 : Nat) ({ cls := "KeyedFilesModel", name := "holds", desc := "(IJJ)Z" } : MethodName)) ∈ XT := xt_t (i := 740) (by decide +kernel) (by decide)
theorem ks_MD_holds : (Cond.static ({ cls := "KeyedFilesModel", name := "holds", desc := "(IJJ)Z" } : MethodName)) ∈ XT := xt_t (i := 741) (by decide +kernel) (by decide)
set_option maxRecDepth 20000 in
theorem kc_MD_holds : (Cond.code ({ cls := "KeyedFilesModel", name := "holds", desc := "(IJJ)Z" } : MethodName) prog_7_method_30_code (5 : Nat) (Option.some FieldType.boolean)) ∈ XT := xt_t (i := 742) (rfl) (by decide)
theorem m_LW_63 : (Cond.methodLink "KeyedFilesLaw" (63 : Nat) ({ cls := "KeyedFilesModel", name := "next", desc := "(IZ)I" } : MethodName)) ∈ XT := xt_t (i := 743) (by decide +kernel) (by decide)
theorem ki_MD_next : (Cond.instanceMethod ({ cls := "KeyedFilesModel", name := "next", desc := "(IZ)I" } : MethodName)) ∈ XT := xt_t (i := 744) (by decide +kernel) (by decide)
theorem kv_MD_next : (Cond.selects "KeyedFilesModel" ({ cls := "KeyedFilesModel", name := "next", desc := "(IZ)I" } : MethodName) ({ cls := "KeyedFilesModel", name := "next", desc := "(IZ)I" } : MethodName)) ∈ XT := xt_t (i := 745) (by decide +kernel) (by decide)
set_option maxRecDepth 20000 in
theorem kc_MD_next : (Cond.code ({ cls := "KeyedFilesModel", name := "next", desc := "(IZ)I" } : MethodName) prog_7_method_32_code (8 : Nat) (Option.some FieldType.int)) ∈ XT := xt_t (i := 746) (rfl) (by decide)
theorem m_LW_67 : (Cond.methodLink "KeyedFilesLaw" (67 : Nat) ({ cls := "KeyedFilesModel", name := "rewrite", desc := "(IJ)I" } : MethodName)) ∈ XT := xt_t (i := 747) (by decide +kernel) (by decide)
theorem ki_MD_rewrite : (Cond.instanceMethod ({ cls := "KeyedFilesModel", name := "rewrite", desc := "(IJ)I" } : MethodName)) ∈ XT := xt_t (i := 748) (by decide +kernel) (by decide)
theorem kv_MD_rewrite : (Cond.selects "KeyedFilesModel" ({ cls := "KeyedFilesModel", name := "rewrite", desc := "(IJ)I" } : MethodName) ({ cls := "KeyedFilesModel", name := "rewrite", desc := "(IJ)I" } : MethodName)) ∈ XT := xt_t (i := 749) (by decide +kernel) (by decide)
set_option maxRecDepth 20000 in
theorem kc_MD_rewrite : (Cond.code ({ cls := "KeyedFilesModel", name := "rewrite", desc := "(IJ)I" } : MethodName) prog_7_method_34_code (6 : Nat) (Option.some FieldType.int)) ∈ XT := xt_t (i := 750) (rfl) (by decide)
theorem m_MD_176 : (Cond.methodLink "KeyedFilesModel" (176 : Nat) ({ cls := "KeyedFilesModel", name := "had", desc := "()I" } : MethodName)) ∈ XT := xt_t (i := 751) (by decide +kernel) (by decide)
theorem ki_MD_had : (Cond.instanceMethod ({ cls := "KeyedFilesModel", name := "had", desc := "()I" } : MethodName)) ∈ XT := xt_t (i := 753) (by decide +kernel) (by decide)
set_option maxRecDepth 20000 in
theorem kc_MD_had : (Cond.code ({ cls := "KeyedFilesModel", name := "had", desc := "()I" } : MethodName) prog_7_method_33_code (2 : Nat) (Option.some FieldType.int)) ∈ XT := xt_t (i := 754) (rfl) (by decide)
theorem m_MD_180 : (Cond.methodLink "KeyedFilesModel" (180 : Nat) ({ cls := "KeyedFilesModel", name := "byPrime", desc := "(J)I" } : MethodName)) ∈ XT := xt_t (i := 755) (by decide +kernel) (by decide)
theorem ki_MD_byPrime : (Cond.instanceMethod ({ cls := "KeyedFilesModel", name := "byPrime", desc := "(J)I" } : MethodName)) ∈ XT := xt_t (i := 757) (by decide +kernel) (by decide)
set_option maxRecDepth 20000 in
theorem kc_MD_byPrime : (Cond.code ({ cls := "KeyedFilesModel", name := "byPrime", desc := "(J)I" } : MethodName) prog_7_method_20_code (3 : Nat) (Option.some FieldType.int)) ∈ XT := xt_t (i := 758) (rfl) (by decide)
theorem m_LW_71 : (Cond.methodLink "KeyedFilesLaw" (71 : Nat) ({ cls := "KeyedFilesModel", name := "remove", desc := "(IJ)I" } : MethodName)) ∈ XT := xt_t (i := 759) (by decide +kernel) (by decide)
theorem ki_MD_remove : (Cond.instanceMethod ({ cls := "KeyedFilesModel", name := "remove", desc := "(IJ)I" } : MethodName)) ∈ XT := xt_t (i := 760) (by decide +kernel) (by decide)
theorem kv_MD_remove : (Cond.selects "KeyedFilesModel" ({ cls := "KeyedFilesModel", name := "remove", desc := "(IJ)I" } : MethodName) ({ cls := "KeyedFilesModel", name := "remove", desc := "(IJ)I" } : MethodName)) ∈ XT := xt_t (i := 761) (by decide +kernel) (by decide)
set_option maxRecDepth 20000 in
theorem kc_MD_remove : (Cond.code ({ cls := "KeyedFilesModel", name := "remove", desc := "(IJ)I" } : MethodName) prog_7_method_35_code (5 : Nat) (Option.some FieldType.int)) ∈ XT := xt_t (i := 762) (rfl) (by decide)
theorem m_LW_76 : (Cond.methodLink "KeyedFilesLaw" (76 : Nat) ({ cls := "KeyedFilesModel", name := "scan", desc := "(II)J" } : MethodName)) ∈ XT := xt_t (i := 763) (by decide +kernel) (by decide)
theorem ki_MD_scan : (Cond.instanceMethod ({ cls := "KeyedFilesModel", name := "scan", desc := "(II)J" } : MethodName)) ∈ XT := xt_t (i := 764) (by decide +kernel) (by decide)
theorem kv_MD_scan : (Cond.selects "KeyedFilesModel" ({ cls := "KeyedFilesModel", name := "scan", desc := "(II)J" } : MethodName) ({ cls := "KeyedFilesModel", name := "scan", desc := "(II)J" } : MethodName)) ∈ XT := xt_t (i := 765) (by decide +kernel) (by decide)
set_option maxRecDepth 20000 in
theorem kc_MD_scan : (Cond.code ({ cls := "KeyedFilesModel", name := "scan", desc := "(II)J" } : MethodName) prog_7_method_36_code (5 : Nat) (Option.some FieldType.long)) ∈ XT := xt_t (i := 766) (rfl) (by decide)
theorem m_LW_80 : (Cond.methodLink "KeyedFilesLaw" (80 : Nat) ({ cls := "KeyedFilesModel", name := "reference", desc := "(I)I" } : MethodName)) ∈ XT := xt_t (i := 767) (by decide +kernel) (by decide)
theorem ki_MD_reference : (Cond.instanceMethod ({ cls := "KeyedFilesModel", name := "reference", desc := "(I)I" } : MethodName)) ∈ XT := xt_t (i := 768) (by decide +kernel) (by decide)
theorem kv_MD_reference : (Cond.selects "KeyedFilesModel" ({ cls := "KeyedFilesModel", name := "reference", desc := "(I)I" } : MethodName) ({ cls := "KeyedFilesModel", name := "reference", desc := "(I)I" } : MethodName)) ∈ XT := xt_t (i := 769) (by decide +kernel) (by decide)
set_option maxRecDepth 20000 in
theorem kc_MD_reference : (Cond.code ({ cls := "KeyedFilesModel", name := "reference", desc := "(I)I" } : MethodName) prog_7_method_37_code (2 : Nat) (Option.some FieldType.int)) ∈ XT := xt_t (i := 770) (rfl) (by decide)
theorem m_LW_84 : (Cond.methodLink "KeyedFilesLaw" (84 : Nat) ({ cls := "KeyedFilesModel", name := "count", desc := "(I)I" } : MethodName)) ∈ XT := xt_t (i := 771) (by decide +kernel) (by decide)
theorem ki_MD_count : (Cond.instanceMethod ({ cls := "KeyedFilesModel", name := "count", desc := "(I)I" } : MethodName)) ∈ XT := xt_t (i := 772) (by decide +kernel) (by decide)
theorem kv_MD_count : (Cond.selects "KeyedFilesModel" ({ cls := "KeyedFilesModel", name := "count", desc := "(I)I" } : MethodName) ({ cls := "KeyedFilesModel", name := "count", desc := "(I)I" } : MethodName)) ∈ XT := xt_t (i := 773) (by decide +kernel) (by decide)
set_option maxRecDepth 20000 in
theorem kc_MD_count : (Cond.code ({ cls := "KeyedFilesModel", name := "count", desc := "(I)I" } : MethodName) prog_7_method_38_code (4 : Nat) (Option.some FieldType.int)) ∈ XT := xt_t (i := 774) (rfl) (by decide)
theorem m_LW_89 : (Cond.methodLink "KeyedFilesLaw" (89 : Nat) ({ cls := "KeyedFilesModel", name := "whole", desc := "()Z" } : MethodName)) ∈ XT := xt_t (i := 775) (by decide +kernel) (by decide)
theorem ki_MD_whole : (Cond.instanceMethod ({ cls := "KeyedFilesModel", name := "whole", desc := "()Z" } : MethodName)) ∈ XT := xt_t (i := 776) (by decide +kernel) (by decide)
theorem kv_MD_whole : (Cond.selects "KeyedFilesModel" ({ cls := "KeyedFilesModel", name := "whole", desc := "()Z" } : MethodName) ({ cls := "KeyedFilesModel", name := "whole", desc := "()Z" } : MethodName)) ∈ XT := xt_t (i := 777) (by decide +kernel) (by decide)
set_option maxRecDepth 20000 in
theorem kc_MD_whole : (Cond.code ({ cls := "KeyedFilesModel", name := "whole", desc := "()Z" } : MethodName) prog_7_method_39_code (1 : Nat) (Option.some FieldType.boolean)) ∈ XT := xt_t (i := 778) (rfl) (by decide)
theorem kl_LW_18 : (Cond.constantLong "KeyedFilesLaw" (18 : Nat) (4294967295 : Int64)) ∈ XT := xt_t (i := 779) (by decide +kernel) (by decide)
theorem kv_OA__OB_getClass : (Cond.selects "[Ljava/lang/Object;" ({ cls := "java/lang/Object", name := "getClass", desc := "()Ljava/lang/Class;" } : MethodName) ({ cls := "java/lang/Object", name := "getClass", desc := "()Ljava/lang/Class;" } : MethodName)) ∈ XT := xt_t (i := 784) (by decide +kernel) (by decide)
theorem kv_AL_addA : Cond.selects "java/util/ArrayList" ⟨"java/util/ArrayList", "add", "(Ljava/lang/Object;[Ljava/lang/Object;I)V"⟩ ⟨"java/util/ArrayList", "add", "(Ljava/lang/Object;[Ljava/lang/Object;I)V"⟩ ∈ XT := xt_p (i := 0) (by decide +kernel) (by decide)
theorem kv_AL_grow0 : Cond.selects "java/util/ArrayList" ⟨"java/util/ArrayList", "grow", "()[Ljava/lang/Object;"⟩ ⟨"java/util/ArrayList", "grow", "()[Ljava/lang/Object;"⟩ ∈ XT := xt_p (i := 1) (by decide +kernel) (by decide)
theorem kv_AL_growI : Cond.selects "java/util/ArrayList" ⟨"java/util/ArrayList", "grow", "(I)[Ljava/lang/Object;"⟩ ⟨"java/util/ArrayList", "grow", "(I)[Ljava/lang/Object;"⟩ ∈ XT := xt_p (i := 2) (by decide +kernel) (by decide)
theorem kv_KF_indexAt : Cond.selects "KeyedFiles" ⟨"KeyedFiles", "indexAt", "(I)LKeyedFiles$KeyIndex;"⟩ ⟨"KeyedFiles", "indexAt", "(I)LKeyedFiles$KeyIndex;"⟩ ∈ XT := xt_p (i := 3) (by decide +kernel) (by decide)
theorem kv_KF_viewAt : Cond.selects "KeyedFiles" ⟨"KeyedFiles", "viewAt", "(I)LKeyedFiles$View;"⟩ ⟨"KeyedFiles", "viewAt", "(I)LKeyedFiles$View;"⟩ ∈ XT := xt_p (i := 4) (by decide +kernel) (by decide)
theorem kv_KF_dropAllRecords : Cond.selects "KeyedFiles" ⟨"KeyedFiles", "dropAllRecords", "()V"⟩ ⟨"KeyedFiles", "dropAllRecords", "()V"⟩ ∈ XT := xt_p (i := 5) (by decide +kernel) (by decide)
theorem kv_KF_isOutOfOrder : Cond.selects "KeyedFiles" ⟨"KeyedFiles", "isOutOfOrder", "(LKeyedFiles$View;J)Z"⟩ ⟨"KeyedFiles", "isOutOfOrder", "(LKeyedFiles$View;J)Z"⟩ ∈ XT := xt_p (i := 6) (by decide +kernel) (by decide)
theorem kv_KF_fieldOf : Cond.selects "KeyedFiles" ⟨"KeyedFiles", "fieldOf", "(IJ)J"⟩ ⟨"KeyedFiles", "fieldOf", "(IJ)J"⟩ ∈ XT := xt_p (i := 7) (by decide +kernel) (by decide)
theorem kv_KF_hasBarredDouble : Cond.selects "KeyedFiles" ⟨"KeyedFiles", "hasBarredDouble", "(JLKeyedFiles$Stored;)Z"⟩ ⟨"KeyedFiles", "hasBarredDouble", "(JLKeyedFiles$Stored;)Z"⟩ ∈ XT := xt_p (i := 8) (by decide +kernel) (by decide)
theorem kv_KF_entryCount : Cond.selects "KeyedFiles" ⟨"KeyedFiles", "entryCount", "(I)I"⟩ ⟨"KeyedFiles", "entryCount", "(I)I"⟩ ∈ XT := xt_p (i := 9) (by decide +kernel) (by decide)
theorem kv_KF_enterUnderAllKeys : Cond.selects "KeyedFiles" ⟨"KeyedFiles", "enterUnderAllKeys", "(LKeyedFiles$Stored;)Z"⟩ ⟨"KeyedFiles", "enterUnderAllKeys", "(LKeyedFiles$Stored;)Z"⟩ ∈ XT := xt_p (i := 10) (by decide +kernel) (by decide)
theorem kv_KF_enterUnder : Cond.selects "KeyedFiles" ⟨"KeyedFiles", "enterUnder", "(LKeyedFiles$KeyIndex;LKeyedFiles$Stored;)Z"⟩ ⟨"KeyedFiles", "enterUnder", "(LKeyedFiles$KeyIndex;LKeyedFiles$Stored;)Z"⟩ ∈ XT := xt_p (i := 11) (by decide +kernel) (by decide)
theorem kv_AL_rangeCheckForAdd : Cond.selects "java/util/ArrayList" ⟨"java/util/ArrayList", "rangeCheckForAdd", "(I)V"⟩ ⟨"java/util/ArrayList", "rangeCheckForAdd", "(I)V"⟩ ∈ XT := xt_p (i := 12) (by decide +kernel) (by decide)
theorem kv_KF_recordToChange : Cond.selects "KeyedFiles" ⟨"KeyedFiles", "recordToChange", "(LKeyedFiles$View;J)LKeyedFiles$Stored;"⟩ ⟨"KeyedFiles", "recordToChange", "(LKeyedFiles$View;J)LKeyedFiles$Stored;"⟩ ∈ XT := xt_p (i := 13) (by decide +kernel) (by decide)
theorem kv_KF_moveChangedEntries : Cond.selects "KeyedFiles" ⟨"KeyedFiles", "moveChangedEntries", "(LKeyedFiles$Stored;J)Z"⟩ ⟨"KeyedFiles", "moveChangedEntries", "(LKeyedFiles$Stored;J)Z"⟩ ∈ XT := xt_p (i := 14) (by decide +kernel) (by decide)
theorem kv_AL_fastRemove : Cond.selects "java/util/ArrayList" ⟨"java/util/ArrayList", "fastRemove", "([Ljava/lang/Object;I)V"⟩ ⟨"java/util/ArrayList", "fastRemove", "([Ljava/lang/Object;I)V"⟩ ∈ XT := xt_p (i := 15) (by decide +kernel) (by decide)
theorem kv_KF_dropRecord : Cond.selects "KeyedFiles" ⟨"KeyedFiles", "dropRecord", "(LKeyedFiles$Stored;)V"⟩ ⟨"KeyedFiles", "dropRecord", "(LKeyedFiles$Stored;)V"⟩ ∈ XT := xt_p (i := 16) (by decide +kernel) (by decide)
theorem kv_KF_entriesDue : Cond.selects "KeyedFiles" ⟨"KeyedFiles", "entriesDue", "(LKeyedFiles$KeyIndex;)I"⟩ ⟨"KeyedFiles", "entriesDue", "(LKeyedFiles$KeyIndex;)I"⟩ ∈ XT := xt_p (i := 17) (by decide +kernel) (by decide)
theorem kv_MD_isKey : Cond.selects "KeyedFilesModel" ⟨"KeyedFilesModel", "isKey", "(I)Z"⟩ ⟨"KeyedFilesModel", "isKey", "(I)Z"⟩ ∈ XT := xt_p (i := 18) (by decide +kernel) (by decide)
theorem kv_MD_isView : Cond.selects "KeyedFilesModel" ⟨"KeyedFilesModel", "isView", "(I)Z"⟩ ⟨"KeyedFilesModel", "isView", "(I)Z"⟩ ∈ XT := xt_p (i := 19) (by decide +kernel) (by decide)
theorem kv_MD_forget : Cond.selects "KeyedFilesModel" ⟨"KeyedFilesModel", "forget", "(I)V"⟩ ⟨"KeyedFilesModel", "forget", "(I)V"⟩ ∈ XT := xt_p (i := 20) (by decide +kernel) (by decide)
theorem kv_MD_field : Cond.selects "KeyedFilesModel" ⟨"KeyedFilesModel", "field", "(IJ)J"⟩ ⟨"KeyedFilesModel", "field", "(IJ)J"⟩ ∈ XT := xt_p (i := 21) (by decide +kernel) (by decide)
theorem kv_MD_barred : Cond.selects "KeyedFilesModel" ⟨"KeyedFilesModel", "barred", "(JI)I"⟩ ⟨"KeyedFilesModel", "barred", "(JI)I"⟩ ∈ XT := xt_p (i := 22) (by decide +kernel) (by decide)
theorem kv_MD_isEntry : Cond.selects "KeyedFilesModel" ⟨"KeyedFilesModel", "isEntry", "(II)Z"⟩ ⟨"KeyedFilesModel", "isEntry", "(II)Z"⟩ ∈ XT := xt_p (i := 23) (by decide +kernel) (by decide)
theorem kv_MD_hasEntry : Cond.selects "KeyedFilesModel" ⟨"KeyedFilesModel", "hasEntry", "(IJ)Z"⟩ ⟨"KeyedFilesModel", "hasEntry", "(IJ)Z"⟩ ∈ XT := xt_p (i := 24) (by decide +kernel) (by decide)
theorem kv_MD_equal : Cond.selects "KeyedFilesModel" ⟨"KeyedFilesModel", "equal", "(IJI)I"⟩ ⟨"KeyedFilesModel", "equal", "(IJI)I"⟩ ∈ XT := xt_p (i := 25) (by decide +kernel) (by decide)
theorem kv_MD_rankAll : Cond.selects "KeyedFilesModel" ⟨"KeyedFilesModel", "rankAll", "(IJZ)V"⟩ ⟨"KeyedFilesModel", "rankAll", "(IJZ)V"⟩ ∈ XT := xt_p (i := 26) (by decide +kernel) (by decide)
theorem kv_MD_reads : Cond.selects "KeyedFilesModel" ⟨"KeyedFilesModel", "reads", "(I)Z"⟩ ⟨"KeyedFilesModel", "reads", "(I)Z"⟩ ∈ XT := xt_p (i := 27) (by decide +kernel) (by decide)
theorem kv_MD_after : Cond.selects "KeyedFilesModel" ⟨"KeyedFilesModel", "after", "(IJIZ)I"⟩ ⟨"KeyedFilesModel", "after", "(IJIZ)I"⟩ ∈ XT := xt_p (i := 28) (by decide +kernel) (by decide)
theorem kv_MD_isAhead : Cond.selects "KeyedFilesModel" ⟨"KeyedFilesModel", "isAhead", "(IIJI)Z"⟩ ⟨"KeyedFilesModel", "isAhead", "(IIJI)Z"⟩ ∈ XT := xt_p (i := 29) (by decide +kernel) (by decide)
theorem kv_MD_rank : Cond.selects "KeyedFilesModel" ⟨"KeyedFilesModel", "rank", "(II)I"⟩ ⟨"KeyedFilesModel", "rank", "(II)I"⟩ ∈ XT := xt_p (i := 30) (by decide +kernel) (by decide)
theorem kv_MD_isBehind : Cond.selects "KeyedFilesModel" ⟨"KeyedFilesModel", "isBehind", "(IIJI)Z"⟩ ⟨"KeyedFilesModel", "isBehind", "(IIJI)Z"⟩ ∈ XT := xt_p (i := 31) (by decide +kernel) (by decide)
theorem kv_MD_got : Cond.selects "KeyedFilesModel" ⟨"KeyedFilesModel", "got", "(IIIZ)I"⟩ ⟨"KeyedFilesModel", "got", "(IIIZ)I"⟩ ∈ XT := xt_p (i := 32) (by decide +kernel) (by decide)
theorem kv_MD_status : Cond.selects "KeyedFilesModel" ⟨"KeyedFilesModel", "status", "(IIZ)I"⟩ ⟨"KeyedFilesModel", "status", "(IIZ)I"⟩ ∈ XT := xt_p (i := 33) (by decide +kernel) (by decide)
theorem kv_MD_ahead : Cond.selects "KeyedFilesModel" ⟨"KeyedFilesModel", "ahead", "(IJIZ)I"⟩ ⟨"KeyedFilesModel", "ahead", "(IJIZ)I"⟩ ∈ XT := xt_p (i := 34) (by decide +kernel) (by decide)
theorem kv_MD_had : Cond.selects "KeyedFilesModel" ⟨"KeyedFilesModel", "had", "()I"⟩ ⟨"KeyedFilesModel", "had", "()I"⟩ ∈ XT := xt_p (i := 35) (by decide +kernel) (by decide)
theorem kv_MD_byPrime : Cond.selects "KeyedFilesModel" ⟨"KeyedFilesModel", "byPrime", "(J)I"⟩ ⟨"KeyedFilesModel", "byPrime", "(J)I"⟩ ∈ XT := xt_p (i := 36) (by decide +kernel) (by decide)
theorem lay_KF_0 : u_lay R_KF T_KF 0 ∈ XT := xt_t (i := 55) (by decide +kernel) (by decide)
theorem lay_KF_1 : u_lay R_KF T_KF 1 ∈ XT := xt_t (i := 57) (by decide +kernel) (by decide)
theorem lay_KF_2 : u_lay R_KF T_KF 2 ∈ XT := xt_t (i := 59) (by decide +kernel) (by decide)
theorem lay_KF_3 : u_lay R_KF T_KF 3 ∈ XT := xt_t (i := 61) (by decide +kernel) (by decide)
theorem lay_KF_4 : u_lay R_KF T_KF 4 ∈ XT := xt_t (i := 63) (by decide +kernel) (by decide)
theorem in_KF (c0 : Cond) : ∀ w ∈ u_ws R_KF T_KF 5, w ∈ c0 :: XT := by
  intro w hw
  obtain ⟨k, hk, rfl⟩ := List.mem_map.mp hw
  have hk := List.mem_range.mp hk
  refine List.mem_cons_of_mem _ ?_
  match k, hk with
  | 0, _ => exact lay_KF_0
  | 1, _ => exact lay_KF_1
  | 2, _ => exact lay_KF_2
  | 3, _ => exact lay_KF_3
  | 4, _ => exact lay_KF_4
  | k + 5, h => exact absurd h (by omega)
theorem inL_KF : ∀ w ∈ u_ws R_KF T_KF 5, w ∈ lw_tbl := fun w h => by
  rcases List.mem_cons.mp (in_KF Cond.tt w h) with e | e
  · subst e; exact absurd h (by decide +kernel)
  · exact (List.mem_filter.mp e).1
theorem lay_EN_0 : u_lay R_EN T_EN 0 ∈ XT := xt_t (i := 392) (by decide +kernel) (by decide)
theorem lay_EN_1 : u_lay R_EN T_EN 1 ∈ XT := xt_t (i := 394) (by decide +kernel) (by decide)
theorem lay_EN_2 : u_lay R_EN T_EN 2 ∈ XT := xt_t (i := 396) (by decide +kernel) (by decide)
theorem in_EN (c0 : Cond) : ∀ w ∈ u_ws R_EN T_EN 3, w ∈ c0 :: XT := by
  intro w hw
  obtain ⟨k, hk, rfl⟩ := List.mem_map.mp hw
  have hk := List.mem_range.mp hk
  refine List.mem_cons_of_mem _ ?_
  match k, hk with
  | 0, _ => exact lay_EN_0
  | 1, _ => exact lay_EN_1
  | 2, _ => exact lay_EN_2
  | k + 3, h => exact absurd h (by omega)
theorem inL_EN : ∀ w ∈ u_ws R_EN T_EN 3, w ∈ lw_tbl := fun w h => by
  rcases List.mem_cons.mp (in_EN Cond.tt w h) with e | e
  · subst e; exact absurd h (by decide +kernel)
  · exact (List.mem_filter.mp e).1
theorem lay_KI_0 : u_lay R_KI T_KI 0 ∈ XT := xt_t (i := 91) (by decide +kernel) (by decide)
theorem lay_KI_1 : u_lay R_KI T_KI 1 ∈ XT := xt_t (i := 93) (by decide +kernel) (by decide)
theorem lay_KI_2 : u_lay R_KI T_KI 2 ∈ XT := xt_t (i := 95) (by decide +kernel) (by decide)
theorem lay_KI_3 : u_lay R_KI T_KI 3 ∈ XT := xt_t (i := 97) (by decide +kernel) (by decide)
theorem lay_KI_4 : u_lay R_KI T_KI 4 ∈ XT := xt_t (i := 99) (by decide +kernel) (by decide)
theorem lay_KI_5 : u_lay R_KI T_KI 5 ∈ XT := xt_t (i := 101) (by decide +kernel) (by decide)
theorem in_KI (c0 : Cond) : ∀ w ∈ u_ws R_KI T_KI 6, w ∈ c0 :: XT := by
  intro w hw
  obtain ⟨k, hk, rfl⟩ := List.mem_map.mp hw
  have hk := List.mem_range.mp hk
  refine List.mem_cons_of_mem _ ?_
  match k, hk with
  | 0, _ => exact lay_KI_0
  | 1, _ => exact lay_KI_1
  | 2, _ => exact lay_KI_2
  | 3, _ => exact lay_KI_3
  | 4, _ => exact lay_KI_4
  | 5, _ => exact lay_KI_5
  | k + 6, h => exact absurd h (by omega)
theorem inL_KI : ∀ w ∈ u_ws R_KI T_KI 6, w ∈ lw_tbl := fun w h => by
  rcases List.mem_cons.mp (in_KI Cond.tt w h) with e | e
  · subst e; exact absurd h (by decide +kernel)
  · exact (List.mem_filter.mp e).1
theorem lay_ST_0 : u_lay R_ST T_ST 0 ∈ XT := xt_t (i := 352) (by decide +kernel) (by decide)
theorem lay_ST_1 : u_lay R_ST T_ST 1 ∈ XT := xt_t (i := 354) (by decide +kernel) (by decide)
theorem lay_ST_2 : u_lay R_ST T_ST 2 ∈ XT := xt_t (i := 356) (by decide +kernel) (by decide)
theorem in_ST (c0 : Cond) : ∀ w ∈ u_ws R_ST T_ST 3, w ∈ c0 :: XT := by
  intro w hw
  obtain ⟨k, hk, rfl⟩ := List.mem_map.mp hw
  have hk := List.mem_range.mp hk
  refine List.mem_cons_of_mem _ ?_
  match k, hk with
  | 0, _ => exact lay_ST_0
  | 1, _ => exact lay_ST_1
  | 2, _ => exact lay_ST_2
  | k + 3, h => exact absurd h (by omega)
theorem inL_ST : ∀ w ∈ u_ws R_ST T_ST 3, w ∈ lw_tbl := fun w h => by
  rcases List.mem_cons.mp (in_ST Cond.tt w h) with e | e
  · subst e; exact absurd h (by decide +kernel)
  · exact (List.mem_filter.mp e).1
theorem lay_VW_0 : u_lay R_VW T_VW 0 ∈ XT := xt_t (i := 223) (by decide +kernel) (by decide)
theorem lay_VW_1 : u_lay R_VW T_VW 1 ∈ XT := xt_t (i := 225) (by decide +kernel) (by decide)
theorem lay_VW_2 : u_lay R_VW T_VW 2 ∈ XT := xt_t (i := 227) (by decide +kernel) (by decide)
theorem lay_VW_3 : u_lay R_VW T_VW 3 ∈ XT := xt_t (i := 229) (by decide +kernel) (by decide)
theorem lay_VW_4 : u_lay R_VW T_VW 4 ∈ XT := xt_t (i := 231) (by decide +kernel) (by decide)
theorem lay_VW_5 : u_lay R_VW T_VW 5 ∈ XT := xt_t (i := 233) (by decide +kernel) (by decide)
theorem lay_VW_6 : u_lay R_VW T_VW 6 ∈ XT := xt_t (i := 235) (by decide +kernel) (by decide)
theorem lay_VW_7 : u_lay R_VW T_VW 7 ∈ XT := xt_t (i := 237) (by decide +kernel) (by decide)
theorem lay_VW_8 : u_lay R_VW T_VW 8 ∈ XT := xt_t (i := 239) (by decide +kernel) (by decide)
theorem lay_VW_9 : u_lay R_VW T_VW 9 ∈ XT := xt_t (i := 241) (by decide +kernel) (by decide)
theorem lay_VW_10 : u_lay R_VW T_VW 10 ∈ XT := xt_t (i := 243) (by decide +kernel) (by decide)
theorem lay_VW_11 : u_lay R_VW T_VW 11 ∈ XT := xt_t (i := 245) (by decide +kernel) (by decide)
theorem in_VW (c0 : Cond) : ∀ w ∈ u_ws R_VW T_VW 12, w ∈ c0 :: XT := by
  intro w hw
  obtain ⟨k, hk, rfl⟩ := List.mem_map.mp hw
  have hk := List.mem_range.mp hk
  refine List.mem_cons_of_mem _ ?_
  match k, hk with
  | 0, _ => exact lay_VW_0
  | 1, _ => exact lay_VW_1
  | 2, _ => exact lay_VW_2
  | 3, _ => exact lay_VW_3
  | 4, _ => exact lay_VW_4
  | 5, _ => exact lay_VW_5
  | 6, _ => exact lay_VW_6
  | 7, _ => exact lay_VW_7
  | 8, _ => exact lay_VW_8
  | 9, _ => exact lay_VW_9
  | 10, _ => exact lay_VW_10
  | 11, _ => exact lay_VW_11
  | k + 12, h => exact absurd h (by omega)
theorem inL_VW : ∀ w ∈ u_ws R_VW T_VW 12, w ∈ lw_tbl := fun w h => by
  rcases List.mem_cons.mp (in_VW Cond.tt w h) with e | e
  · subst e; exact absurd h (by decide +kernel)
  · exact (List.mem_filter.mp e).1
theorem lay_MD_0 : u_lay R_MD T_MD 0 ∈ XT := xt_t (i := 570) (by decide +kernel) (by decide)
theorem lay_MD_1 : u_lay R_MD T_MD 1 ∈ XT := xt_t (i := 572) (by decide +kernel) (by decide)
theorem lay_MD_2 : u_lay R_MD T_MD 2 ∈ XT := xt_t (i := 574) (by decide +kernel) (by decide)
theorem lay_MD_3 : u_lay R_MD T_MD 3 ∈ XT := xt_t (i := 576) (by decide +kernel) (by decide)
theorem lay_MD_4 : u_lay R_MD T_MD 4 ∈ XT := xt_t (i := 578) (by decide +kernel) (by decide)
theorem lay_MD_5 : u_lay R_MD T_MD 5 ∈ XT := xt_t (i := 580) (by decide +kernel) (by decide)
theorem lay_MD_6 : u_lay R_MD T_MD 6 ∈ XT := xt_t (i := 582) (by decide +kernel) (by decide)
theorem lay_MD_7 : u_lay R_MD T_MD 7 ∈ XT := xt_t (i := 584) (by decide +kernel) (by decide)
theorem lay_MD_8 : u_lay R_MD T_MD 8 ∈ XT := xt_t (i := 586) (by decide +kernel) (by decide)
theorem lay_MD_9 : u_lay R_MD T_MD 9 ∈ XT := xt_t (i := 588) (by decide +kernel) (by decide)
theorem lay_MD_10 : u_lay R_MD T_MD 10 ∈ XT := xt_t (i := 590) (by decide +kernel) (by decide)
theorem lay_MD_11 : u_lay R_MD T_MD 11 ∈ XT := xt_t (i := 592) (by decide +kernel) (by decide)
theorem lay_MD_12 : u_lay R_MD T_MD 12 ∈ XT := xt_t (i := 594) (by decide +kernel) (by decide)
theorem lay_MD_13 : u_lay R_MD T_MD 13 ∈ XT := xt_t (i := 596) (by decide +kernel) (by decide)
theorem lay_MD_14 : u_lay R_MD T_MD 14 ∈ XT := xt_t (i := 598) (by decide +kernel) (by decide)
theorem lay_MD_15 : u_lay R_MD T_MD 15 ∈ XT := xt_t (i := 600) (by decide +kernel) (by decide)
theorem lay_MD_16 : u_lay R_MD T_MD 16 ∈ XT := xt_t (i := 602) (by decide +kernel) (by decide)
theorem lay_MD_17 : u_lay R_MD T_MD 17 ∈ XT := xt_t (i := 604) (by decide +kernel) (by decide)
theorem lay_MD_18 : u_lay R_MD T_MD 18 ∈ XT := xt_t (i := 606) (by decide +kernel) (by decide)
theorem lay_MD_19 : u_lay R_MD T_MD 19 ∈ XT := xt_t (i := 608) (by decide +kernel) (by decide)
theorem lay_MD_20 : u_lay R_MD T_MD 20 ∈ XT := xt_t (i := 610) (by decide +kernel) (by decide)
theorem lay_MD_21 : u_lay R_MD T_MD 21 ∈ XT := xt_t (i := 612) (by decide +kernel) (by decide)
theorem lay_MD_22 : u_lay R_MD T_MD 22 ∈ XT := xt_t (i := 614) (by decide +kernel) (by decide)
theorem lay_MD_23 : u_lay R_MD T_MD 23 ∈ XT := xt_t (i := 616) (by decide +kernel) (by decide)
theorem lay_MD_24 : u_lay R_MD T_MD 24 ∈ XT := xt_t (i := 618) (by decide +kernel) (by decide)
theorem lay_MD_25 : u_lay R_MD T_MD 25 ∈ XT := xt_t (i := 620) (by decide +kernel) (by decide)
theorem lay_MD_26 : u_lay R_MD T_MD 26 ∈ XT := xt_t (i := 622) (by decide +kernel) (by decide)
theorem lay_MD_27 : u_lay R_MD T_MD 27 ∈ XT := xt_t (i := 624) (by decide +kernel) (by decide)
theorem lay_MD_28 : u_lay R_MD T_MD 28 ∈ XT := xt_t (i := 626) (by decide +kernel) (by decide)
theorem in_MD (c0 : Cond) : ∀ w ∈ u_ws R_MD T_MD 29, w ∈ c0 :: XT := by
  intro w hw
  obtain ⟨k, hk, rfl⟩ := List.mem_map.mp hw
  have hk := List.mem_range.mp hk
  refine List.mem_cons_of_mem _ ?_
  match k, hk with
  | 0, _ => exact lay_MD_0
  | 1, _ => exact lay_MD_1
  | 2, _ => exact lay_MD_2
  | 3, _ => exact lay_MD_3
  | 4, _ => exact lay_MD_4
  | 5, _ => exact lay_MD_5
  | 6, _ => exact lay_MD_6
  | 7, _ => exact lay_MD_7
  | 8, _ => exact lay_MD_8
  | 9, _ => exact lay_MD_9
  | 10, _ => exact lay_MD_10
  | 11, _ => exact lay_MD_11
  | 12, _ => exact lay_MD_12
  | 13, _ => exact lay_MD_13
  | 14, _ => exact lay_MD_14
  | 15, _ => exact lay_MD_15
  | 16, _ => exact lay_MD_16
  | 17, _ => exact lay_MD_17
  | 18, _ => exact lay_MD_18
  | 19, _ => exact lay_MD_19
  | 20, _ => exact lay_MD_20
  | 21, _ => exact lay_MD_21
  | 22, _ => exact lay_MD_22
  | 23, _ => exact lay_MD_23
  | 24, _ => exact lay_MD_24
  | 25, _ => exact lay_MD_25
  | 26, _ => exact lay_MD_26
  | 27, _ => exact lay_MD_27
  | 28, _ => exact lay_MD_28
  | k + 29, h => exact absurd h (by omega)
theorem inL_MD : ∀ w ∈ u_ws R_MD T_MD 29, w ∈ lw_tbl := fun w h => by
  rcases List.mem_cons.mp (in_MD Cond.tt w h) with e | e
  · subst e; exact absurd h (by decide +kernel)
  · exact (List.mem_filter.mp e).1
theorem lay_AL_0 : u_lay R_AL T_AL 0 ∈ XT := xt_t (i := 43) (by decide +kernel) (by decide)
theorem lay_AL_1 : u_lay R_AL T_AL 1 ∈ XT := xt_t (i := 45) (by decide +kernel) (by decide)
theorem lay_AL_2 : u_lay R_AL T_AL 2 ∈ XT := xt_t (i := 47) (by decide +kernel) (by decide)
theorem in_AL (c0 : Cond) : ∀ w ∈ u_ws R_AL T_AL 3, w ∈ c0 :: XT := by
  intro w hw
  obtain ⟨k, hk, rfl⟩ := List.mem_map.mp hw
  have hk := List.mem_range.mp hk
  refine List.mem_cons_of_mem _ ?_
  match k, hk with
  | 0, _ => exact lay_AL_0
  | 1, _ => exact lay_AL_1
  | 2, _ => exact lay_AL_2
  | k + 3, h => exact absurd h (by omega)
theorem inL_AL : ∀ w ∈ u_ws R_AL T_AL 3, w ∈ lw_tbl := fun w h => by
  rcases List.mem_cons.mp (in_AL Cond.tt w h) with e | e
  · subst e; exact absurd h (by decide +kernel)
  · exact (List.mem_filter.mp e).1
abbrev c_KF_init : ByteArray := prog_1_method_1_code
abbrev y_KF_init : MethodName := { cls := "KeyedFiles", name := "<init>", desc := "()V" }
abbrev w_KF_init : List Cond := Cond.code y_KF_init c_KF_init 1 (Option.none : Option FieldType) :: XT
abbrev c_AL_init : ByteArray := prog_15_method_2_code
abbrev y_AL_init : MethodName := { cls := "java/util/ArrayList", name := "<init>", desc := "()V" }
abbrev w_AL_init : List Cond := Cond.code y_AL_init c_AL_init 1 (Option.none : Option FieldType) :: XT
abbrev c_AB_init : ByteArray := prog_14_method_1_code
abbrev y_AB_init : MethodName := { cls := "java/util/AbstractList", name := "<init>", desc := "()V" }
abbrev w_AB_init : List Cond := Cond.code y_AB_init c_AB_init 1 (Option.none : Option FieldType) :: XT
abbrev c_AC_init : ByteArray := prog_13_method_1_code
abbrev y_AC_init : MethodName := { cls := "java/util/AbstractCollection", name := "<init>", desc := "()V" }
abbrev w_AC_init : List Cond := Cond.code y_AC_init c_AC_init 1 (Option.none : Option FieldType) :: XT
abbrev c_KF_key : ByteArray := prog_1_method_2_code
abbrev y_KF_key : MethodName := { cls := "KeyedFiles", name := "key", desc := "(ZZII)I" }
abbrev w_KF_key : List Cond := Cond.code y_KF_key c_KF_key 6 (Option.some FieldType.int) :: XT
abbrev c_AL_size : ByteArray := prog_15_method_8_code
abbrev y_AL_size : MethodName := { cls := "java/util/ArrayList", name := "size", desc := "()I" }
abbrev w_AL_size : List Cond := Cond.code y_AL_size c_AL_size 1 (Option.some FieldType.int) :: XT
abbrev c_KI_init : ByteArray := prog_3_method_1_code
abbrev y_KI_init : MethodName := { cls := "KeyedFiles$KeyIndex", name := "<init>", desc := "(ZII)V" }
abbrev w_KI_init : List Cond := Cond.code y_KI_init c_KI_init 4 (Option.none : Option FieldType) :: XT
abbrev c_AL_add1 : ByteArray := prog_15_method_25_code
abbrev y_AL_add1 : MethodName := { cls := "java/util/ArrayList", name := "add", desc := "(Ljava/lang/Object;)Z" }
abbrev w_AL_add1 : List Cond := Cond.code y_AL_add1 c_AL_add1 2 (Option.some FieldType.boolean) :: XT
abbrev c_AL_addA : ByteArray := prog_15_method_24_code
abbrev y_AL_addA : MethodName := { cls := "java/util/ArrayList", name := "add", desc := "(Ljava/lang/Object;[Ljava/lang/Object;I)V" }
abbrev w_AL_addA : List Cond := Cond.code y_AL_addA c_AL_addA 4 (Option.none : Option FieldType) :: XT
abbrev c_AL_grow0 : ByteArray := prog_15_method_7_code
abbrev y_AL_grow0 : MethodName := { cls := "java/util/ArrayList", name := "grow", desc := "()[Ljava/lang/Object;" }
abbrev w_AL_grow0 : List Cond := Cond.code y_AL_grow0 c_AL_grow0 1 (Option.some (FieldType.array (FieldType.object "java/lang/Object"))) :: XT
abbrev c_AL_growI : ByteArray := prog_15_method_6_code
abbrev y_AL_growI : MethodName := { cls := "java/util/ArrayList", name := "grow", desc := "(I)[Ljava/lang/Object;" }
abbrev w_AL_growI : List Cond := Cond.code y_AL_growI c_AL_growI 4 (Option.some (FieldType.array (FieldType.object "java/lang/Object"))) :: XT
abbrev c_AS_newLength : ByteArray := prog_22_method_27_code
abbrev y_AS_newLength : MethodName := { cls := "jdk/internal/util/ArraysSupport", name := "newLength", desc := "(III)I" }
abbrev w_AS_newLength : List Cond := Cond.code y_AS_newLength c_AS_newLength 4 (Option.some FieldType.int) :: XT
abbrev c_MA_max : ByteArray := prog_11_method_65_code
abbrev y_MA_max : MethodName := { cls := "java/lang/Math", name := "max", desc := "(II)I" }
abbrev w_MA_max : List Cond := Cond.code y_MA_max c_MA_max 2 (Option.some FieldType.int) :: XT
abbrev c_AS_hugeLength : ByteArray := prog_22_method_28_code
abbrev y_AS_hugeLength : MethodName := { cls := "jdk/internal/util/ArraysSupport", name := "hugeLength", desc := "(II)I" }
abbrev w_AS_hugeLength : List Cond := Cond.code y_AS_hugeLength c_AS_hugeLength 3 (Option.some FieldType.int) :: XT
abbrev c_AR_copyOf2 : ByteArray := prog_16_method_119_code
abbrev y_AR_copyOf2 : MethodName := { cls := "java/util/Arrays", name := "copyOf", desc := "([Ljava/lang/Object;I)[Ljava/lang/Object;" }
abbrev w_AR_copyOf2 : List Cond := Cond.code y_AR_copyOf2 c_AR_copyOf2 2 (Option.some (FieldType.array (FieldType.object "java/lang/Object"))) :: XT
abbrev c_AR_copyOf3 : ByteArray := prog_16_method_120_code
abbrev y_AR_copyOf3 : MethodName := { cls := "java/util/Arrays", name := "copyOf", desc := "([Ljava/lang/Object;ILjava/lang/Class;)[Ljava/lang/Object;" }
abbrev w_AR_copyOf3 : List Cond := Cond.code y_AR_copyOf3 c_AR_copyOf3 4 (Option.some (FieldType.array (FieldType.object "java/lang/Object"))) :: XT
abbrev c_MA_min : ByteArray := prog_11_method_69_code
abbrev y_MA_min : MethodName := { cls := "java/lang/Math", name := "min", desc := "(II)I" }
abbrev w_MA_min : List Cond := Cond.code y_MA_min c_MA_min 2 (Option.some FieldType.int) :: XT
abbrev c_KF_sparse : ByteArray := prog_1_method_3_code
abbrev y_KF_sparse : MethodName := { cls := "KeyedFiles", name := "sparse", desc := "(IJ)I" }
abbrev w_KF_sparse : List Cond := Cond.code y_KF_sparse c_KF_sparse 5 (Option.some FieldType.int) :: XT
abbrev c_KF_indexAt : ByteArray := prog_1_method_18_code
abbrev y_KF_indexAt : MethodName := { cls := "KeyedFiles", name := "indexAt", desc := "(I)LKeyedFiles$KeyIndex;" }
abbrev w_KF_indexAt : List Cond := Cond.code y_KF_indexAt c_KF_indexAt 2 (Option.some (FieldType.object "KeyedFiles$KeyIndex")) :: XT
abbrev c_AL_get : ByteArray := prog_15_method_20_code
abbrev y_AL_get : MethodName := { cls := "java/util/ArrayList", name := "get", desc := "(I)Ljava/lang/Object;" }
abbrev w_AL_get : List Cond := Cond.code y_AL_get c_AL_get 2 (Option.some (FieldType.object "java/lang/Object")) :: XT
abbrev c_OJ_checkIndex : ByteArray := prog_19_method_17_code
abbrev y_OJ_checkIndex : MethodName := { cls := "java/util/Objects", name := "checkIndex", desc := "(II)I" }
abbrev w_OJ_checkIndex : List Cond := Cond.code y_OJ_checkIndex c_OJ_checkIndex 2 (Option.some FieldType.int) :: XT
abbrev c_PC_checkIndex : ByteArray := prog_23_method_11_code
abbrev y_PC_checkIndex : MethodName := { cls := "jdk/internal/util/Preconditions", name := "checkIndex", desc := "(IILjava/util/function/BiFunction;)I" }
abbrev w_PC_checkIndex : List Cond := Cond.code y_PC_checkIndex c_PC_checkIndex 3 (Option.some FieldType.int) :: XT
abbrev c_AL_elementData : ByteArray := prog_15_method_18_code
abbrev y_AL_elementData : MethodName := { cls := "java/util/ArrayList", name := "elementData", desc := "(I)Ljava/lang/Object;" }
abbrev w_AL_elementData : List Cond := Cond.code y_AL_elementData c_AL_elementData 2 (Option.some (FieldType.object "java/lang/Object")) :: XT
abbrev c_KI_leaveOut : ByteArray := prog_3_method_2_code
abbrev y_KI_leaveOut : MethodName := { cls := "KeyedFiles$KeyIndex", name := "leaveOut", desc := "(J)V" }
abbrev w_KI_leaveOut : List Cond := Cond.code y_KI_leaveOut c_KI_leaveOut 3 (Option.none : Option FieldType) :: XT
abbrev c_KF_view : ByteArray := prog_1_method_4_code
abbrev y_KF_view : MethodName := { cls := "KeyedFiles", name := "view", desc := "()I" }
abbrev w_KF_view : List Cond := Cond.code y_KF_view c_KF_view 2 (Option.some FieldType.int) :: XT
abbrev c_AL_isEmpty : ByteArray := prog_15_method_9_code
abbrev y_AL_isEmpty : MethodName := { cls := "java/util/ArrayList", name := "isEmpty", desc := "()Z" }
abbrev w_AL_isEmpty : List Cond := Cond.code y_AL_isEmpty c_AL_isEmpty 1 (Option.some FieldType.boolean) :: XT
abbrev c_VW_init : ByteArray := prog_5_method_1_code
abbrev y_VW_init : MethodName := { cls := "KeyedFiles$View", name := "<init>", desc := "()V" }
abbrev w_VW_init : List Cond := Cond.code y_VW_init c_VW_init 1 (Option.none : Option FieldType) :: XT
abbrev c_KF_open : ByteArray := prog_1_method_5_code
abbrev y_KF_open : MethodName := { cls := "KeyedFiles", name := "open", desc := "(III)I" }
abbrev w_KF_open : List Cond := Cond.code y_KF_open c_KF_open 5 (Option.some FieldType.int) :: XT
abbrev c_KF_viewAt : ByteArray := prog_1_method_19_code
abbrev y_KF_viewAt : MethodName := { cls := "KeyedFiles", name := "viewAt", desc := "(I)LKeyedFiles$View;" }
abbrev w_KF_viewAt : List Cond := Cond.code y_KF_viewAt c_KF_viewAt 2 (Option.some (FieldType.object "KeyedFiles$View")) :: XT
abbrev c_KF_dropAllRecords : ByteArray := prog_1_method_28_code
abbrev y_KF_dropAllRecords : MethodName := { cls := "KeyedFiles", name := "dropAllRecords", desc := "()V" }
abbrev w_KF_dropAllRecords : List Cond := Cond.code y_KF_dropAllRecords c_KF_dropAllRecords 2 (Option.none : Option FieldType) :: XT
abbrev c_AL_clear : ByteArray := prog_15_method_40_code
abbrev y_AL_clear : MethodName := { cls := "java/util/ArrayList", name := "clear", desc := "()V" }
abbrev w_AL_clear : List Cond := Cond.code y_AL_clear c_AL_clear 4 (Option.none : Option FieldType) :: XT
abbrev c_VW_forgetRead : ByteArray := prog_5_method_3_code
abbrev y_VW_forgetRead : MethodName := { cls := "KeyedFiles$View", name := "forgetRead", desc := "()V" }
abbrev w_VW_forgetRead : List Cond := Cond.code y_VW_forgetRead c_VW_forgetRead 1 (Option.none : Option FieldType) :: XT
abbrev c_VW_lose : ByteArray := prog_5_method_4_code
abbrev y_VW_lose : MethodName := { cls := "KeyedFiles$View", name := "lose", desc := "()V" }
abbrev w_VW_lose : List Cond := Cond.code y_VW_lose c_VW_lose 1 (Option.none : Option FieldType) :: XT
abbrev c_VW_begin : ByteArray := prog_5_method_2_code
abbrev y_VW_begin : MethodName := { cls := "KeyedFiles$View", name := "begin", desc := "(II)V" }
abbrev w_VW_begin : List Cond := Cond.code y_VW_begin c_VW_begin 3 (Option.none : Option FieldType) :: XT
abbrev c_KF_close : ByteArray := prog_1_method_6_code
abbrev y_KF_close : MethodName := { cls := "KeyedFiles", name := "close", desc := "(I)I" }
abbrev w_KF_close : List Cond := Cond.code y_KF_close c_KF_close 3 (Option.some FieldType.int) :: XT
abbrev c_KF_write : ByteArray := prog_1_method_7_code
abbrev y_KF_write : MethodName := { cls := "KeyedFiles", name := "write", desc := "(IJ)I" }
abbrev w_KF_write : List Cond := Cond.code y_KF_write c_KF_write 6 (Option.some FieldType.int) :: XT
abbrev c_VW_refusalToWrite : ByteArray := prog_5_method_9_code
abbrev y_VW_refusalToWrite : MethodName := { cls := "KeyedFiles$View", name := "refusalToWrite", desc := "()I" }
abbrev w_VW_refusalToWrite : List Cond := Cond.code y_VW_refusalToWrite c_VW_refusalToWrite 1 (Option.some FieldType.int) :: XT
abbrev c_KF_isOutOfOrder : ByteArray := prog_1_method_22_code
abbrev y_KF_isOutOfOrder : MethodName := { cls := "KeyedFiles", name := "isOutOfOrder", desc := "(LKeyedFiles$View;J)Z" }
abbrev w_KF_isOutOfOrder : List Cond := Cond.code y_KF_isOutOfOrder c_KF_isOutOfOrder 8 (Option.some FieldType.boolean) :: XT
abbrev c_KF_fieldOf : ByteArray := prog_1_method_21_code
abbrev y_KF_fieldOf : MethodName := { cls := "KeyedFiles", name := "fieldOf", desc := "(IJ)J" }
abbrev w_KF_fieldOf : List Cond := Cond.code y_KF_fieldOf c_KF_fieldOf 5 (Option.some FieldType.long) :: XT
abbrev c_KI_fieldIn : ByteArray := prog_3_method_4_code
abbrev y_KI_fieldIn : MethodName := { cls := "KeyedFiles$KeyIndex", name := "fieldIn", desc := "(J)J" }
abbrev w_KI_fieldIn : List Cond := Cond.code y_KI_fieldIn c_KI_fieldIn 3 (Option.some FieldType.long) :: XT
abbrev c_KF_isBelow : ByteArray := prog_1_method_32_code
abbrev y_KF_isBelow : MethodName := { cls := "KeyedFiles", name := "isBelow", desc := "(JJ)Z" }
abbrev w_KF_isBelow : List Cond := Cond.code y_KF_isBelow c_KF_isBelow 4 (Option.some FieldType.boolean) :: XT
abbrev c_KI_entryAt : ByteArray := prog_3_method_5_code
abbrev y_KI_entryAt : MethodName := { cls := "KeyedFiles$KeyIndex", name := "entryAt", desc := "(I)LKeyedFiles$Entry;" }
abbrev w_KI_entryAt : List Cond := Cond.code y_KI_entryAt c_KI_entryAt 2 (Option.some (FieldType.object "KeyedFiles$Entry")) :: XT
abbrev c_KF_hasBarredDouble : ByteArray := prog_1_method_23_code
abbrev y_KF_hasBarredDouble : MethodName := { cls := "KeyedFiles", name := "hasBarredDouble", desc := "(JLKeyedFiles$Stored;)Z" }
abbrev w_KF_hasBarredDouble : List Cond := Cond.code y_KF_hasBarredDouble c_KF_hasBarredDouble 7 (Option.some FieldType.boolean) :: XT
abbrev c_KI_firstEqual : ByteArray := prog_3_method_7_code
abbrev y_KI_firstEqual : MethodName := { cls := "KeyedFiles$KeyIndex", name := "firstEqual", desc := "(J)LKeyedFiles$Entry;" }
abbrev w_KI_firstEqual : List Cond := Cond.code y_KI_firstEqual c_KI_firstEqual 4 (Option.some (FieldType.object "KeyedFiles$Entry")) :: XT
abbrev c_KI_countAheadOf : ByteArray := prog_3_method_6_code
abbrev y_KI_countAheadOf : MethodName := { cls := "KeyedFiles$KeyIndex", name := "countAheadOf", desc := "(JJ)I" }
abbrev w_KI_countAheadOf : List Cond := Cond.code y_KI_countAheadOf c_KI_countAheadOf 8 (Option.some FieldType.int) :: XT
abbrev c_EN_standsAheadOf : ByteArray := prog_2_method_2_code
abbrev y_EN_standsAheadOf : MethodName := { cls := "KeyedFiles$Entry", name := "standsAheadOf", desc := "(JJ)Z" }
abbrev w_EN_standsAheadOf : List Cond := Cond.code y_EN_standsAheadOf c_EN_standsAheadOf 5 (Option.some FieldType.boolean) :: XT
abbrev c_KF_entryCount : ByteArray := prog_1_method_20_code
abbrev y_KF_entryCount : MethodName := { cls := "KeyedFiles", name := "entryCount", desc := "(I)I" }
abbrev w_KF_entryCount : List Cond := Cond.code y_KF_entryCount c_KF_entryCount 3 (Option.some FieldType.int) :: XT
abbrev c_VW_noteWritten : ByteArray := prog_5_method_7_code
abbrev y_VW_noteWritten : MethodName := { cls := "KeyedFiles$View", name := "noteWritten", desc := "(J)V" }
abbrev w_VW_noteWritten : List Cond := Cond.code y_VW_noteWritten c_VW_noteWritten 3 (Option.none : Option FieldType) :: XT
abbrev c_ST_init : ByteArray := prog_4_method_1_code
abbrev y_ST_init : MethodName := { cls := "KeyedFiles$Stored", name := "<init>", desc := "(J)V" }
abbrev w_ST_init : List Cond := Cond.code y_ST_init c_ST_init 3 (Option.none : Option FieldType) :: XT
abbrev c_KF_enterUnderAllKeys : ByteArray := prog_1_method_24_code
abbrev y_KF_enterUnderAllKeys : MethodName := { cls := "KeyedFiles", name := "enterUnderAllKeys", desc := "(LKeyedFiles$Stored;)Z" }
abbrev w_KF_enterUnderAllKeys : List Cond := Cond.code y_KF_enterUnderAllKeys c_KF_enterUnderAllKeys 4 (Option.some FieldType.boolean) :: XT
abbrev c_KF_enterUnder : ByteArray := prog_1_method_25_code
abbrev y_KF_enterUnder : MethodName := { cls := "KeyedFiles", name := "enterUnder", desc := "(LKeyedFiles$KeyIndex;LKeyedFiles$Stored;)Z" }
abbrev w_KF_enterUnder : List Cond := Cond.code y_KF_enterUnder c_KF_enterUnder 3 (Option.some FieldType.boolean) :: XT
abbrev c_KI_enter : ByteArray := prog_3_method_8_code
abbrev y_KI_enter : MethodName := { cls := "KeyedFiles$KeyIndex", name := "enter", desc := "(LKeyedFiles$Stored;J)Z" }
abbrev w_KI_enter : List Cond := Cond.code y_KI_enter c_KI_enter 8 (Option.some FieldType.boolean) :: XT
abbrev c_KI_leavesOut : ByteArray := prog_3_method_3_code
abbrev y_KI_leavesOut : MethodName := { cls := "KeyedFiles$KeyIndex", name := "leavesOut", desc := "(J)Z" }
abbrev w_KI_leavesOut : List Cond := Cond.code y_KI_leavesOut c_KI_leavesOut 3 (Option.some FieldType.boolean) :: XT
abbrev c_EN_init : ByteArray := prog_2_method_1_code
abbrev y_EN_init : MethodName := { cls := "KeyedFiles$Entry", name := "<init>", desc := "(JJLKeyedFiles$Stored;)V" }
abbrev w_EN_init : List Cond := Cond.code y_EN_init c_EN_init 6 (Option.none : Option FieldType) :: XT
abbrev c_AL_addI : ByteArray := prog_15_method_26_code
abbrev y_AL_addI : MethodName := { cls := "java/util/ArrayList", name := "add", desc := "(ILjava/lang/Object;)V" }
abbrev w_AL_addI : List Cond := Cond.code y_AL_addI c_AL_addI 5 (Option.none : Option FieldType) :: XT
abbrev c_AL_rangeCheckForAdd : ByteArray := prog_15_method_45_code
abbrev y_AL_rangeCheckForAdd : MethodName := { cls := "java/util/ArrayList", name := "rangeCheckForAdd", desc := "(I)V" }
abbrev w_AL_rangeCheckForAdd : List Cond := Cond.code y_AL_rangeCheckForAdd c_AL_rangeCheckForAdd 2 (Option.none : Option FieldType) :: XT
abbrev c_KF_read : ByteArray := prog_1_method_8_code
abbrev y_KF_read : MethodName := { cls := "KeyedFiles", name := "read", desc := "(IIJ)I" }
abbrev w_KF_read : List Cond := Cond.code y_KF_read c_KF_read 9 (Option.some FieldType.int) :: XT
abbrev c_VW_refusalToRead : ByteArray := prog_5_method_8_code
abbrev y_VW_refusalToRead : MethodName := { cls := "KeyedFiles$View", name := "refusalToRead", desc := "(I)I" }
abbrev w_VW_refusalToRead : List Cond := Cond.code y_VW_refusalToRead c_VW_refusalToRead 3 (Option.some FieldType.int) :: XT
abbrev c_KF_handOver : ByteArray := prog_1_method_30_code
abbrev y_KF_handOver : MethodName := { cls := "KeyedFiles", name := "handOver", desc := "(LKeyedFiles$View;LKeyedFiles$KeyIndex;LKeyedFiles$Entry;Z)I" }
abbrev w_KF_handOver : List Cond := Cond.code y_KF_handOver c_KF_handOver 4 (Option.some FieldType.int) :: XT
abbrev c_VW_noteRead : ByteArray := prog_5_method_6_code
abbrev y_VW_noteRead : MethodName := { cls := "KeyedFiles$View", name := "noteRead", desc := "(LKeyedFiles$Entry;)V" }
abbrev w_VW_noteRead : List Cond := Cond.code y_VW_noteRead c_VW_noteRead 2 (Option.none : Option FieldType) :: XT
abbrev c_VW_standAt : ByteArray := prog_5_method_5_code
abbrev y_VW_standAt : MethodName := { cls := "KeyedFiles$View", name := "standAt", desc := "(LKeyedFiles$Entry;)V" }
abbrev w_VW_standAt : List Cond := Cond.code y_VW_standAt c_VW_standAt 2 (Option.none : Option FieldType) :: XT
abbrev c_KI_hasEqualNextTo : ByteArray := prog_3_method_10_code
abbrev y_KI_hasEqualNextTo : MethodName := { cls := "KeyedFiles$KeyIndex", name := "hasEqualNextTo", desc := "(LKeyedFiles$Entry;Z)Z" }
abbrev w_KI_hasEqualNextTo : List Cond := Cond.code y_KI_hasEqualNextTo c_KI_hasEqualNextTo 5 (Option.some FieldType.boolean) :: XT
abbrev c_KF_value : ByteArray := prog_1_method_9_code
abbrev y_KF_value : MethodName := { cls := "KeyedFiles", name := "value", desc := "(I)J" }
abbrev w_KF_value : List Cond := Cond.code y_KF_value c_KF_value 3 (Option.some FieldType.long) :: XT
abbrev c_KF_start : ByteArray := prog_1_method_10_code
abbrev y_KF_start : MethodName := { cls := "KeyedFiles", name := "start", desc := "(IIIJI)I" }
abbrev w_KF_start : List Cond := Cond.code y_KF_start c_KF_start 11 (Option.some FieldType.int) :: XT
abbrev c_KI_findByPart : ByteArray := prog_3_method_13_code
abbrev y_KI_findByPart : MethodName := { cls := "KeyedFiles$KeyIndex", name := "findByPart", desc := "(IJI)LKeyedFiles$Entry;" }
abbrev w_KI_findByPart : List Cond := Cond.code y_KI_findByPart c_KI_findByPart 8 (Option.some (FieldType.object "KeyedFiles$Entry")) :: XT
abbrev c_KI_countByPart : ByteArray := prog_3_method_14_code
abbrev y_KI_countByPart : MethodName := { cls := "KeyedFiles$KeyIndex", name := "countByPart", desc := "(JIZ)I" }
abbrev w_KI_countByPart : List Cond := Cond.code y_KI_countByPart c_KI_countByPart 10 (Option.some FieldType.int) :: XT
abbrev c_KI_partOf : ByteArray := prog_3_method_15_code
abbrev y_KI_partOf : MethodName := { cls := "KeyedFiles$KeyIndex", name := "partOf", desc := "(LKeyedFiles$Entry;I)J" }
abbrev w_KI_partOf : List Cond := Cond.code y_KI_partOf c_KI_partOf 3 (Option.some FieldType.long) :: XT
abbrev c_KF_next : ByteArray := prog_1_method_11_code
abbrev y_KF_next : MethodName := { cls := "KeyedFiles", name := "next", desc := "(IZ)I" }
abbrev w_KF_next : List Cond := Cond.code y_KF_next c_KF_next 7 (Option.some FieldType.int) :: XT
abbrev c_KI_entryAheadOf : ByteArray := prog_3_method_12_code
abbrev y_KI_entryAheadOf : MethodName := { cls := "KeyedFiles$KeyIndex", name := "entryAheadOf", desc := "(LKeyedFiles$View;)LKeyedFiles$Entry;" }
abbrev w_KI_entryAheadOf : List Cond := Cond.code y_KI_entryAheadOf c_KI_entryAheadOf 4 (Option.some (FieldType.object "KeyedFiles$Entry")) :: XT
abbrev c_KI_entryBehind : ByteArray := prog_3_method_11_code
abbrev y_KI_entryBehind : MethodName := { cls := "KeyedFiles$KeyIndex", name := "entryBehind", desc := "(LKeyedFiles$View;)LKeyedFiles$Entry;" }
abbrev w_KI_entryBehind : List Cond := Cond.code y_KI_entryBehind c_KI_entryBehind 4 (Option.some (FieldType.object "KeyedFiles$Entry")) :: XT
abbrev c_KF_rewrite : ByteArray := prog_1_method_12_code
abbrev y_KF_rewrite : MethodName := { cls := "KeyedFiles", name := "rewrite", desc := "(IJ)I" }
abbrev w_KF_rewrite : List Cond := Cond.code y_KF_rewrite c_KF_rewrite 7 (Option.some FieldType.int) :: XT
abbrev c_VW_refusalToChange : ByteArray := prog_5_method_10_code
abbrev y_VW_refusalToChange : MethodName := { cls := "KeyedFiles$View", name := "refusalToChange", desc := "()I" }
abbrev w_VW_refusalToChange : List Cond := Cond.code y_VW_refusalToChange c_VW_refusalToChange 1 (Option.some FieldType.int) :: XT
abbrev c_KF_recordToChange : ByteArray := prog_1_method_29_code
abbrev y_KF_recordToChange : MethodName := { cls := "KeyedFiles", name := "recordToChange", desc := "(LKeyedFiles$View;J)LKeyedFiles$Stored;" }
abbrev w_KF_recordToChange : List Cond := Cond.code y_KF_recordToChange c_KF_recordToChange 6 (Option.some (FieldType.object "KeyedFiles$Stored")) :: XT
abbrev c_VW_statusOfNoRecord : ByteArray := prog_5_method_11_code
abbrev y_VW_statusOfNoRecord : MethodName := { cls := "KeyedFiles$View", name := "statusOfNoRecord", desc := "()I" }
abbrev w_VW_statusOfNoRecord : List Cond := Cond.code y_VW_statusOfNoRecord c_VW_statusOfNoRecord 1 (Option.some FieldType.int) :: XT
abbrev c_KF_moveChangedEntries : ByteArray := prog_1_method_26_code
abbrev y_KF_moveChangedEntries : MethodName := { cls := "KeyedFiles", name := "moveChangedEntries", desc := "(LKeyedFiles$Stored;J)Z" }
abbrev w_KF_moveChangedEntries : List Cond := Cond.code y_KF_moveChangedEntries c_KF_moveChangedEntries 9 (Option.some FieldType.boolean) :: XT
abbrev c_KI_drop : ByteArray := prog_3_method_9_code
abbrev y_KI_drop : MethodName := { cls := "KeyedFiles$KeyIndex", name := "drop", desc := "(LKeyedFiles$Stored;J)V" }
abbrev w_KI_drop : List Cond := Cond.code y_KI_drop c_KI_drop 5 (Option.none : Option FieldType) :: XT
abbrev c_AL_remove : ByteArray := prog_15_method_29_code
abbrev y_AL_remove : MethodName := { cls := "java/util/ArrayList", name := "remove", desc := "(I)Ljava/lang/Object;" }
abbrev w_AL_remove : List Cond := Cond.code y_AL_remove c_AL_remove 4 (Option.some (FieldType.object "java/lang/Object")) :: XT
abbrev c_AL_fastRemove : ByteArray := prog_15_method_39_code
abbrev y_AL_fastRemove : MethodName := { cls := "java/util/ArrayList", name := "fastRemove", desc := "([Ljava/lang/Object;I)V" }
abbrev w_AL_fastRemove : List Cond := Cond.code y_AL_fastRemove c_AL_fastRemove 4 (Option.none : Option FieldType) :: XT
abbrev c_KF_remove : ByteArray := prog_1_method_13_code
abbrev y_KF_remove : MethodName := { cls := "KeyedFiles", name := "remove", desc := "(IJ)I" }
abbrev w_KF_remove : List Cond := Cond.code y_KF_remove c_KF_remove 7 (Option.some FieldType.int) :: XT
abbrev c_KF_dropRecord : ByteArray := prog_1_method_27_code
abbrev y_KF_dropRecord : MethodName := { cls := "KeyedFiles", name := "dropRecord", desc := "(LKeyedFiles$Stored;)V" }
abbrev w_KF_dropRecord : List Cond := Cond.code y_KF_dropRecord c_KF_dropRecord 4 (Option.none : Option FieldType) :: XT
abbrev c_KF_scan : ByteArray := prog_1_method_14_code
abbrev y_KF_scan : MethodName := { cls := "KeyedFiles", name := "scan", desc := "(II)J" }
abbrev w_KF_scan : List Cond := Cond.code y_KF_scan c_KF_scan 5 (Option.some FieldType.long) :: XT
abbrev c_KF_reference : ByteArray := prog_1_method_15_code
abbrev y_KF_reference : MethodName := { cls := "KeyedFiles", name := "reference", desc := "(I)I" }
abbrev w_KF_reference : List Cond := Cond.code y_KF_reference c_KF_reference 3 (Option.some FieldType.int) :: XT
abbrev c_KF_count : ByteArray := prog_1_method_16_code
abbrev y_KF_count : MethodName := { cls := "KeyedFiles", name := "count", desc := "(I)I" }
abbrev w_KF_count : List Cond := Cond.code y_KF_count c_KF_count 2 (Option.some FieldType.int) :: XT
abbrev c_KF_whole : ByteArray := prog_1_method_17_code
abbrev y_KF_whole : MethodName := { cls := "KeyedFiles", name := "whole", desc := "()Z" }
abbrev w_KF_whole : List Cond := Cond.code y_KF_whole c_KF_whole 3 (Option.some FieldType.boolean) :: XT
abbrev c_KI_isInOrder : ByteArray := prog_3_method_16_code
abbrev y_KI_isInOrder : MethodName := { cls := "KeyedFiles$KeyIndex", name := "isInOrder", desc := "(J)Z" }
abbrev w_KI_isInOrder : List Cond := Cond.code y_KI_isInOrder c_KI_isInOrder 7 (Option.some FieldType.boolean) :: XT
abbrev c_KI_isRightlyAhead : ByteArray := prog_3_method_17_code
abbrev y_KI_isRightlyAhead : MethodName := { cls := "KeyedFiles$KeyIndex", name := "isRightlyAhead", desc := "(LKeyedFiles$Entry;LKeyedFiles$Entry;)Z" }
abbrev w_KI_isRightlyAhead : List Cond := Cond.code y_KI_isRightlyAhead c_KI_isRightlyAhead 3 (Option.some FieldType.boolean) :: XT
abbrev c_KF_entriesDue : ByteArray := prog_1_method_31_code
abbrev y_KF_entriesDue : MethodName := { cls := "KeyedFiles", name := "entriesDue", desc := "(LKeyedFiles$KeyIndex;)I" }
abbrev w_KF_entriesDue : List Cond := Cond.code y_KF_entriesDue c_KF_entriesDue 5 (Option.some FieldType.int) :: XT
abbrev c_MD_init : ByteArray := prog_7_method_1_code
abbrev y_MD_init : MethodName := { cls := "KeyedFilesModel", name := "<init>", desc := "()V" }
abbrev w_MD_init : List Cond := Cond.code y_MD_init c_MD_init 1 (Option.none : Option FieldType) :: XT
abbrev c_MD_key : ByteArray := prog_7_method_7_code
abbrev y_MD_key : MethodName := { cls := "KeyedFilesModel", name := "key", desc := "(ZZII)I" }
abbrev w_MD_key : List Cond := Cond.code y_MD_key c_MD_key 6 (Option.some FieldType.int) :: XT
abbrev c_MD_sparse : ByteArray := prog_7_method_8_code
abbrev y_MD_sparse : MethodName := { cls := "KeyedFilesModel", name := "sparse", desc := "(IJ)I" }
abbrev w_MD_sparse : List Cond := Cond.code y_MD_sparse c_MD_sparse 4 (Option.some FieldType.int) :: XT
abbrev c_MD_isKey : ByteArray := prog_7_method_5_code
abbrev y_MD_isKey : MethodName := { cls := "KeyedFilesModel", name := "isKey", desc := "(I)Z" }
abbrev w_MD_isKey : List Cond := Cond.code y_MD_isKey c_MD_isKey 2 (Option.some FieldType.boolean) :: XT
abbrev c_MD_view : ByteArray := prog_7_method_9_code
abbrev y_MD_view : MethodName := { cls := "KeyedFilesModel", name := "view", desc := "()I" }
abbrev w_MD_view : List Cond := Cond.code y_MD_view c_MD_view 1 (Option.some FieldType.int) :: XT
abbrev c_MD_open : ByteArray := prog_7_method_10_code
abbrev y_MD_open : MethodName := { cls := "KeyedFilesModel", name := "open", desc := "(III)I" }
abbrev w_MD_open : List Cond := Cond.code y_MD_open c_MD_open 5 (Option.some FieldType.int) :: XT
abbrev c_MD_isView : ByteArray := prog_7_method_6_code
abbrev y_MD_isView : MethodName := { cls := "KeyedFilesModel", name := "isView", desc := "(I)Z" }
abbrev w_MD_isView : List Cond := Cond.code y_MD_isView c_MD_isView 2 (Option.some FieldType.boolean) :: XT
abbrev c_MD_close : ByteArray := prog_7_method_11_code
abbrev y_MD_close : MethodName := { cls := "KeyedFilesModel", name := "close", desc := "(I)I" }
abbrev w_MD_close : List Cond := Cond.code y_MD_close c_MD_close 2 (Option.some FieldType.int) :: XT
abbrev c_MD_write : ByteArray := prog_7_method_27_code
abbrev y_MD_write : MethodName := { cls := "KeyedFilesModel", name := "write", desc := "(IJ)I" }
abbrev w_MD_write : List Cond := Cond.code y_MD_write c_MD_write 8 (Option.some FieldType.int) :: XT
abbrev c_MD_forget : ByteArray := prog_7_method_22_code
abbrev y_MD_forget : MethodName := { cls := "KeyedFilesModel", name := "forget", desc := "(I)V" }
abbrev w_MD_forget : List Cond := Cond.code y_MD_forget c_MD_forget 2 (Option.none : Option FieldType) :: XT
abbrev c_MD_field : ByteArray := prog_7_method_3_code
abbrev y_MD_field : MethodName := { cls := "KeyedFilesModel", name := "field", desc := "(IJ)J" }
abbrev w_MD_field : List Cond := Cond.code y_MD_field c_MD_field 6 (Option.some FieldType.long) :: XT
abbrev c_MD_isLess : ByteArray := prog_7_method_4_code
abbrev y_MD_isLess : MethodName := { cls := "KeyedFilesModel", name := "isLess", desc := "(JJ)Z" }
abbrev w_MD_isLess : List Cond := Cond.code y_MD_isLess c_MD_isLess 4 (Option.some FieldType.boolean) :: XT
abbrev c_MD_barred : ByteArray := prog_7_method_25_code
abbrev y_MD_barred : MethodName := { cls := "KeyedFilesModel", name := "barred", desc := "(JI)I" }
abbrev w_MD_barred : List Cond := Cond.code y_MD_barred c_MD_barred 9 (Option.some FieldType.int) :: XT
abbrev c_MD_isEntry : ByteArray := prog_7_method_14_code
abbrev y_MD_isEntry : MethodName := { cls := "KeyedFilesModel", name := "isEntry", desc := "(II)Z" }
abbrev w_MD_isEntry : List Cond := Cond.code y_MD_isEntry c_MD_isEntry 3 (Option.some FieldType.boolean) :: XT
abbrev c_MD_hasEntry : ByteArray := prog_7_method_12_code
abbrev y_MD_hasEntry : MethodName := { cls := "KeyedFilesModel", name := "hasEntry", desc := "(IJ)Z" }
abbrev w_MD_hasEntry : List Cond := Cond.code y_MD_hasEntry c_MD_hasEntry 4 (Option.some FieldType.boolean) :: XT
abbrev c_MD_equal : ByteArray := prog_7_method_19_code
abbrev y_MD_equal : MethodName := { cls := "KeyedFilesModel", name := "equal", desc := "(IJI)I" }
abbrev w_MD_equal : List Cond := Cond.code y_MD_equal c_MD_equal 6 (Option.some FieldType.int) :: XT
abbrev c_MD_rankAll : ByteArray := prog_7_method_26_code
abbrev y_MD_rankAll : MethodName := { cls := "KeyedFilesModel", name := "rankAll", desc := "(IJZ)V" }
abbrev w_MD_rankAll : List Cond := Cond.code y_MD_rankAll c_MD_rankAll 7 (Option.none : Option FieldType) :: XT
abbrev c_MD_read : ByteArray := prog_7_method_28_code
abbrev y_MD_read : MethodName := { cls := "KeyedFilesModel", name := "read", desc := "(IIJ)I" }
abbrev w_MD_read : List Cond := Cond.code y_MD_read c_MD_read 6 (Option.some FieldType.int) :: XT
abbrev c_MD_reads : ByteArray := prog_7_method_24_code
abbrev y_MD_reads : MethodName := { cls := "KeyedFilesModel", name := "reads", desc := "(I)Z" }
abbrev w_MD_reads : List Cond := Cond.code y_MD_reads c_MD_reads 2 (Option.some FieldType.boolean) :: XT
abbrev c_MD_after : ByteArray := prog_7_method_17_code
abbrev y_MD_after : MethodName := { cls := "KeyedFilesModel", name := "after", desc := "(IJIZ)I" }
abbrev w_MD_after : List Cond := Cond.code y_MD_after c_MD_after 8 (Option.some FieldType.int) :: XT
abbrev c_MD_isAhead : ByteArray := prog_7_method_15_code
abbrev y_MD_isAhead : MethodName := { cls := "KeyedFilesModel", name := "isAhead", desc := "(IIJI)Z" }
abbrev w_MD_isAhead : List Cond := Cond.code y_MD_isAhead c_MD_isAhead 8 (Option.some FieldType.boolean) :: XT
abbrev c_MD_rank : ByteArray := prog_7_method_13_code
abbrev y_MD_rank : MethodName := { cls := "KeyedFilesModel", name := "rank", desc := "(II)I" }
abbrev w_MD_rank : List Cond := Cond.code y_MD_rank c_MD_rank 3 (Option.some FieldType.int) :: XT
abbrev c_MD_isBehind : ByteArray := prog_7_method_16_code
abbrev y_MD_isBehind : MethodName := { cls := "KeyedFilesModel", name := "isBehind", desc := "(IIJI)Z" }
abbrev w_MD_isBehind : List Cond := Cond.code y_MD_isBehind c_MD_isBehind 8 (Option.some FieldType.boolean) :: XT
abbrev c_MD_got : ByteArray := prog_7_method_23_code
abbrev y_MD_got : MethodName := { cls := "KeyedFilesModel", name := "got", desc := "(IIIZ)I" }
abbrev w_MD_got : List Cond := Cond.code y_MD_got c_MD_got 5 (Option.some FieldType.int) :: XT
abbrev c_MD_status : ByteArray := prog_7_method_21_code
abbrev y_MD_status : MethodName := { cls := "KeyedFilesModel", name := "status", desc := "(IIZ)I" }
abbrev w_MD_status : List Cond := Cond.code y_MD_status c_MD_status 7 (Option.some FieldType.int) :: XT
abbrev c_MD_ahead : ByteArray := prog_7_method_18_code
abbrev y_MD_ahead : MethodName := { cls := "KeyedFilesModel", name := "ahead", desc := "(IJIZ)I" }
abbrev w_MD_ahead : List Cond := Cond.code y_MD_ahead c_MD_ahead 8 (Option.some FieldType.int) :: XT
abbrev c_MD_value : ByteArray := prog_7_method_29_code
abbrev y_MD_value : MethodName := { cls := "KeyedFilesModel", name := "value", desc := "(I)J" }
abbrev w_MD_value : List Cond := Cond.code y_MD_value c_MD_value 2 (Option.some FieldType.long) :: XT
abbrev c_MD_start : ByteArray := prog_7_method_31_code
abbrev y_MD_start : MethodName := { cls := "KeyedFilesModel", name := "start", desc := "(IIIJI)I" }
abbrev w_MD_start : List Cond := Cond.code y_MD_start c_MD_start 12 (Option.some FieldType.int) :: XT
abbrev c_MD_holds : ByteArray := prog_7_method_30_code
abbrev y_MD_holds : MethodName := { cls := "KeyedFilesModel", name := "holds", desc := "(IJJ)Z" }
abbrev w_MD_holds : List Cond := Cond.code y_MD_holds c_MD_holds 5 (Option.some FieldType.boolean) :: XT
abbrev c_MD_next : ByteArray := prog_7_method_32_code
abbrev y_MD_next : MethodName := { cls := "KeyedFilesModel", name := "next", desc := "(IZ)I" }
abbrev w_MD_next : List Cond := Cond.code y_MD_next c_MD_next 8 (Option.some FieldType.int) :: XT
abbrev c_MD_rewrite : ByteArray := prog_7_method_34_code
abbrev y_MD_rewrite : MethodName := { cls := "KeyedFilesModel", name := "rewrite", desc := "(IJ)I" }
abbrev w_MD_rewrite : List Cond := Cond.code y_MD_rewrite c_MD_rewrite 6 (Option.some FieldType.int) :: XT
abbrev c_MD_had : ByteArray := prog_7_method_33_code
abbrev y_MD_had : MethodName := { cls := "KeyedFilesModel", name := "had", desc := "()I" }
abbrev w_MD_had : List Cond := Cond.code y_MD_had c_MD_had 2 (Option.some FieldType.int) :: XT
abbrev c_MD_byPrime : ByteArray := prog_7_method_20_code
abbrev y_MD_byPrime : MethodName := { cls := "KeyedFilesModel", name := "byPrime", desc := "(J)I" }
abbrev w_MD_byPrime : List Cond := Cond.code y_MD_byPrime c_MD_byPrime 3 (Option.some FieldType.int) :: XT
abbrev c_MD_remove : ByteArray := prog_7_method_35_code
abbrev y_MD_remove : MethodName := { cls := "KeyedFilesModel", name := "remove", desc := "(IJ)I" }
abbrev w_MD_remove : List Cond := Cond.code y_MD_remove c_MD_remove 5 (Option.some FieldType.int) :: XT
abbrev c_MD_scan : ByteArray := prog_7_method_36_code
abbrev y_MD_scan : MethodName := { cls := "KeyedFilesModel", name := "scan", desc := "(II)J" }
abbrev w_MD_scan : List Cond := Cond.code y_MD_scan c_MD_scan 5 (Option.some FieldType.long) :: XT
abbrev c_MD_reference : ByteArray := prog_7_method_37_code
abbrev y_MD_reference : MethodName := { cls := "KeyedFilesModel", name := "reference", desc := "(I)I" }
abbrev w_MD_reference : List Cond := Cond.code y_MD_reference c_MD_reference 2 (Option.some FieldType.int) :: XT
abbrev c_MD_count : ByteArray := prog_7_method_38_code
abbrev y_MD_count : MethodName := { cls := "KeyedFilesModel", name := "count", desc := "(I)I" }
abbrev w_MD_count : List Cond := Cond.code y_MD_count c_MD_count 4 (Option.some FieldType.int) :: XT
abbrev c_MD_whole : ByteArray := prog_7_method_39_code
abbrev y_MD_whole : MethodName := { cls := "KeyedFilesModel", name := "whole", desc := "()Z" }
abbrev w_MD_whole : List Cond := Cond.code y_MD_whole c_MD_whole 1 (Option.some FieldType.boolean) :: XT
end
section
theorem d_EN_standsAheadOf_0 : decode c_EN_standsAheadOf 0 = .ok (.aload_n 0, 1) := by decide +kernel
theorem d_EN_standsAheadOf_1 : decode c_EN_standsAheadOf 1 = .ok (.getfield 7, 3) := by decide +kernel
theorem d_EN_standsAheadOf_4 : decode c_EN_standsAheadOf 4 = .ok (.lload_n 1, 1) := by decide +kernel
theorem d_EN_standsAheadOf_5 : decode c_EN_standsAheadOf 5 = .ok (.lcmp, 1) := by decide +kernel
theorem d_EN_standsAheadOf_6 : decode c_EN_standsAheadOf 6 = .ok (.ifCond .ne 20, 3) := by decide +kernel
theorem d_EN_standsAheadOf_9 : decode c_EN_standsAheadOf 9 = .ok (.aload_n 0, 1) := by decide +kernel
theorem d_EN_standsAheadOf_10 : decode c_EN_standsAheadOf 10 = .ok (.getfield 13, 3) := by decide +kernel
theorem d_EN_standsAheadOf_13 : decode c_EN_standsAheadOf 13 = .ok (.lload_n 3, 1) := by decide +kernel
theorem d_EN_standsAheadOf_14 : decode c_EN_standsAheadOf 14 = .ok (.lcmp, 1) := by decide +kernel
theorem d_EN_standsAheadOf_15 : decode c_EN_standsAheadOf 15 = .ok (.ifCond .ge 7, 3) := by decide +kernel
theorem d_EN_standsAheadOf_18 : decode c_EN_standsAheadOf 18 = .ok (.iconst 1, 1) := by decide +kernel
theorem d_EN_standsAheadOf_19 : decode c_EN_standsAheadOf 19 = .ok (.goto 15, 3) := by decide +kernel
theorem d_EN_standsAheadOf_22 : decode c_EN_standsAheadOf 22 = .ok (.iconst 0, 1) := by decide +kernel
theorem d_EN_standsAheadOf_23 : decode c_EN_standsAheadOf 23 = .ok (.goto 11, 3) := by decide +kernel
theorem d_EN_standsAheadOf_26 : decode c_EN_standsAheadOf 26 = .ok (.aload_n 0, 1) := by decide +kernel
theorem d_EN_standsAheadOf_27 : decode c_EN_standsAheadOf 27 = .ok (.getfield 7, 3) := by decide +kernel
theorem d_EN_standsAheadOf_30 : decode c_EN_standsAheadOf 30 = .ok (.lload_n 1, 1) := by decide +kernel
theorem d_EN_standsAheadOf_31 : decode c_EN_standsAheadOf 31 = .ok (.invokestatic 20, 3) := by decide +kernel
theorem d_EN_standsAheadOf_34 : decode c_EN_standsAheadOf 34 = .ok (.ireturn, 1) := by decide +kernel
theorem d_EN_init_0 : decode c_EN_init 0 = .ok (.aload_n 0, 1) := by decide +kernel
theorem d_EN_init_1 : decode c_EN_init 1 = .ok (.invokespecial 1, 3) := by decide +kernel
theorem d_EN_init_4 : decode c_EN_init 4 = .ok (.aload_n 0, 1) := by decide +kernel
theorem d_EN_init_5 : decode c_EN_init 5 = .ok (.lload_n 1, 1) := by decide +kernel
theorem d_EN_init_6 : decode c_EN_init 6 = .ok (.putfield 7, 3) := by decide +kernel
theorem d_EN_init_9 : decode c_EN_init 9 = .ok (.aload_n 0, 1) := by decide +kernel
theorem d_EN_init_10 : decode c_EN_init 10 = .ok (.lload_n 3, 1) := by decide +kernel
theorem d_EN_init_11 : decode c_EN_init 11 = .ok (.putfield 13, 3) := by decide +kernel
theorem d_EN_init_14 : decode c_EN_init 14 = .ok (.aload_n 0, 1) := by decide +kernel
theorem d_EN_init_15 : decode c_EN_init 15 = .ok (.aload 5, 2) := by decide +kernel
theorem d_EN_init_17 : decode c_EN_init 17 = .ok (.putfield 16, 3) := by decide +kernel
theorem d_EN_init_20 : decode c_EN_init 20 = .ok (.return_, 1) := by decide +kernel
theorem d_ST_init_0 : decode c_ST_init 0 = .ok (.aload_n 0, 1) := by decide +kernel
theorem d_ST_init_1 : decode c_ST_init 1 = .ok (.invokespecial 1, 3) := by decide +kernel
theorem d_ST_init_4 : decode c_ST_init 4 = .ok (.aload_n 0, 1) := by decide +kernel
theorem d_ST_init_5 : decode c_ST_init 5 = .ok (.lload_n 1, 1) := by decide +kernel
theorem d_ST_init_6 : decode c_ST_init 6 = .ok (.putfield 7, 3) := by decide +kernel
theorem d_ST_init_9 : decode c_ST_init 9 = .ok (.aload_n 0, 1) := by decide +kernel
theorem d_ST_init_10 : decode c_ST_init 10 = .ok (.iconst 1, 1) := by decide +kernel
theorem d_ST_init_11 : decode c_ST_init 11 = .ok (.putfield 13, 3) := by decide +kernel
theorem d_ST_init_14 : decode c_ST_init 14 = .ok (.return_, 1) := by decide +kernel
theorem d_VW_init_0 : decode c_VW_init 0 = .ok (.aload_n 0, 1) := by decide +kernel
theorem d_VW_init_1 : decode c_VW_init 1 = .ok (.invokespecial 3, 3) := by decide +kernel
theorem d_VW_init_4 : decode c_VW_init 4 = .ok (.return_, 1) := by decide +kernel
theorem d_VW_forgetRead_0 : decode c_VW_forgetRead 0 = .ok (.aload_n 0, 1) := by decide +kernel
theorem d_VW_forgetRead_1 : decode c_VW_forgetRead 1 = .ok (.aconst_null, 1) := by decide +kernel
theorem d_VW_forgetRead_2 : decode c_VW_forgetRead 2 = .ok (.putfield 37, 3) := by decide +kernel
theorem d_VW_forgetRead_5 : decode c_VW_forgetRead 5 = .ok (.aload_n 0, 1) := by decide +kernel
theorem d_VW_forgetRead_6 : decode c_VW_forgetRead 6 = .ok (.lconst 0, 1) := by decide +kernel
theorem d_VW_forgetRead_7 : decode c_VW_forgetRead 7 = .ok (.putfield 41, 3) := by decide +kernel
theorem d_VW_forgetRead_10 : decode c_VW_forgetRead 10 = .ok (.return_, 1) := by decide +kernel
theorem d_VW_lose_0 : decode c_VW_lose 0 = .ok (.aload_n 0, 1) := by decide +kernel
theorem d_VW_lose_1 : decode c_VW_lose 1 = .ok (.iconst 3, 1) := by decide +kernel
theorem d_VW_lose_2 : decode c_VW_lose 2 = .ok (.putfield 25, 3) := by decide +kernel
theorem d_VW_lose_5 : decode c_VW_lose 5 = .ok (.return_, 1) := by decide +kernel
theorem d_VW_begin_0 : decode c_VW_begin 0 = .ok (.aload_n 0, 1) := by decide +kernel
theorem d_VW_begin_1 : decode c_VW_begin 1 = .ok (.iconst 1, 1) := by decide +kernel
theorem d_VW_begin_2 : decode c_VW_begin 2 = .ok (.putfield 9, 3) := by decide +kernel
theorem d_VW_begin_5 : decode c_VW_begin 5 = .ok (.aload_n 0, 1) := by decide +kernel
theorem d_VW_begin_6 : decode c_VW_begin 6 = .ok (.iload_n 1, 1) := by decide +kernel
theorem d_VW_begin_7 : decode c_VW_begin 7 = .ok (.putfield 15, 3) := by decide +kernel
theorem d_VW_begin_10 : decode c_VW_begin 10 = .ok (.aload_n 0, 1) := by decide +kernel
theorem d_VW_begin_11 : decode c_VW_begin 11 = .ok (.iload_n 2, 1) := by decide +kernel
theorem d_VW_begin_12 : decode c_VW_begin 12 = .ok (.putfield 19, 3) := by decide +kernel
theorem d_VW_begin_15 : decode c_VW_begin 15 = .ok (.aload_n 0, 1) := by decide +kernel
theorem d_VW_begin_16 : decode c_VW_begin 16 = .ok (.iconst 0, 1) := by decide +kernel
theorem d_VW_begin_17 : decode c_VW_begin 17 = .ok (.putfield 22, 3) := by decide +kernel
theorem d_VW_begin_20 : decode c_VW_begin 20 = .ok (.aload_n 0, 1) := by decide +kernel
theorem d_VW_begin_21 : decode c_VW_begin 21 = .ok (.iconst 0, 1) := by decide +kernel
theorem d_VW_begin_22 : decode c_VW_begin 22 = .ok (.putfield 25, 3) := by decide +kernel
theorem d_VW_begin_25 : decode c_VW_begin 25 = .ok (.aload_n 0, 1) := by decide +kernel
theorem d_VW_begin_26 : decode c_VW_begin 26 = .ok (.iconst 0, 1) := by decide +kernel
theorem d_VW_begin_27 : decode c_VW_begin 27 = .ok (.putfield 28, 3) := by decide +kernel
theorem d_VW_begin_30 : decode c_VW_begin 30 = .ok (.aload_n 0, 1) := by decide +kernel
theorem d_VW_begin_31 : decode c_VW_begin 31 = .ok (.iconst 0, 1) := by decide +kernel
theorem d_VW_begin_32 : decode c_VW_begin 32 = .ok (.putfield 31, 3) := by decide +kernel
theorem d_VW_begin_35 : decode c_VW_begin 35 = .ok (.aload_n 0, 1) := by decide +kernel
theorem d_VW_begin_36 : decode c_VW_begin 36 = .ok (.invokevirtual 34, 3) := by decide +kernel
theorem d_VW_begin_39 : decode c_VW_begin 39 = .ok (.return_, 1) := by decide +kernel
theorem d_VW_refusalToWrite_0 : decode c_VW_refusalToWrite 0 = .ok (.aload_n 0, 1) := by decide +kernel
theorem d_VW_refusalToWrite_1 : decode c_VW_refusalToWrite 1 = .ok (.getfield 9, 3) := by decide +kernel
theorem d_VW_refusalToWrite_4 : decode c_VW_refusalToWrite 4 = .ok (.ifCond .ne 6, 3) := by decide +kernel
theorem d_VW_refusalToWrite_7 : decode c_VW_refusalToWrite 7 = .ok (.bipush 42, 2) := by decide +kernel
theorem d_VW_refusalToWrite_9 : decode c_VW_refusalToWrite 9 = .ok (.ireturn, 1) := by decide +kernel
theorem d_VW_refusalToWrite_10 : decode c_VW_refusalToWrite 10 = .ok (.aload_n 0, 1) := by decide +kernel
theorem d_VW_refusalToWrite_11 : decode c_VW_refusalToWrite 11 = .ok (.getfield 15, 3) := by decide +kernel
theorem d_VW_refusalToWrite_14 : decode c_VW_refusalToWrite 14 = .ok (.ifCond .eq 18, 3) := by decide +kernel
theorem d_VW_refusalToWrite_17 : decode c_VW_refusalToWrite 17 = .ok (.aload_n 0, 1) := by decide +kernel
theorem d_VW_refusalToWrite_18 : decode c_VW_refusalToWrite 18 = .ok (.getfield 15, 3) := by decide +kernel
theorem d_VW_refusalToWrite_21 : decode c_VW_refusalToWrite 21 = .ok (.iconst 2, 1) := by decide +kernel
theorem d_VW_refusalToWrite_22 : decode c_VW_refusalToWrite 22 = .ok (.if_icmp .ne 15, 3) := by decide +kernel
theorem d_VW_refusalToWrite_25 : decode c_VW_refusalToWrite 25 = .ok (.aload_n 0, 1) := by decide +kernel
theorem d_VW_refusalToWrite_26 : decode c_VW_refusalToWrite 26 = .ok (.getfield 19, 3) := by decide +kernel
theorem d_VW_refusalToWrite_29 : decode c_VW_refusalToWrite 29 = .ok (.ifCond .ne 8, 3) := by decide +kernel
theorem d_VW_refusalToWrite_32 : decode c_VW_refusalToWrite 32 = .ok (.bipush 48, 2) := by decide +kernel
theorem d_VW_refusalToWrite_34 : decode c_VW_refusalToWrite 34 = .ok (.goto 4, 3) := by decide +kernel
theorem d_VW_refusalToWrite_37 : decode c_VW_refusalToWrite 37 = .ok (.iconst 0, 1) := by decide +kernel
theorem d_VW_refusalToWrite_38 : decode c_VW_refusalToWrite 38 = .ok (.ireturn, 1) := by decide +kernel
theorem d_VW_noteWritten_0 : decode c_VW_noteWritten 0 = .ok (.aload_n 0, 1) := by decide +kernel
theorem d_VW_noteWritten_1 : decode c_VW_noteWritten 1 = .ok (.iconst 1, 1) := by decide +kernel
theorem d_VW_noteWritten_2 : decode c_VW_noteWritten 2 = .ok (.putfield 31, 3) := by decide +kernel
theorem d_VW_noteWritten_5 : decode c_VW_noteWritten 5 = .ok (.aload_n 0, 1) := by decide +kernel
theorem d_VW_noteWritten_6 : decode c_VW_noteWritten 6 = .ok (.lload_n 1, 1) := by decide +kernel
theorem d_VW_noteWritten_7 : decode c_VW_noteWritten 7 = .ok (.putfield 71, 3) := by decide +kernel
theorem d_VW_noteWritten_10 : decode c_VW_noteWritten 10 = .ok (.return_, 1) := by decide +kernel
theorem d_VW_refusalToRead_0 : decode c_VW_refusalToRead 0 = .ok (.aload_n 0, 1) := by decide +kernel
theorem d_VW_refusalToRead_1 : decode c_VW_refusalToRead 1 = .ok (.getfield 9, 3) := by decide +kernel
theorem d_VW_refusalToRead_4 : decode c_VW_refusalToRead 4 = .ok (.ifCond .ne 6, 3) := by decide +kernel
theorem d_VW_refusalToRead_7 : decode c_VW_refusalToRead 7 = .ok (.bipush 42, 2) := by decide +kernel
theorem d_VW_refusalToRead_9 : decode c_VW_refusalToRead 9 = .ok (.ireturn, 1) := by decide +kernel
theorem d_VW_refusalToRead_10 : decode c_VW_refusalToRead 10 = .ok (.aload_n 0, 1) := by decide +kernel
theorem d_VW_refusalToRead_11 : decode c_VW_refusalToRead 11 = .ok (.getfield 15, 3) := by decide +kernel
theorem d_VW_refusalToRead_14 : decode c_VW_refusalToRead 14 = .ok (.ifCond .eq 11, 3) := by decide +kernel
theorem d_VW_refusalToRead_17 : decode c_VW_refusalToRead 17 = .ok (.aload_n 0, 1) := by decide +kernel
theorem d_VW_refusalToRead_18 : decode c_VW_refusalToRead 18 = .ok (.getfield 15, 3) := by decide +kernel
theorem d_VW_refusalToRead_21 : decode c_VW_refusalToRead 21 = .ok (.iconst 2, 1) := by decide +kernel
theorem d_VW_refusalToRead_22 : decode c_VW_refusalToRead 22 = .ok (.if_icmp .ne 7, 3) := by decide +kernel
theorem d_VW_refusalToRead_25 : decode c_VW_refusalToRead 25 = .ok (.iconst 1, 1) := by decide +kernel
theorem d_VW_refusalToRead_26 : decode c_VW_refusalToRead 26 = .ok (.goto 4, 3) := by decide +kernel
theorem d_VW_refusalToRead_29 : decode c_VW_refusalToRead 29 = .ok (.iconst 0, 1) := by decide +kernel
theorem d_VW_refusalToRead_30 : decode c_VW_refusalToRead 30 = .ok (.istore_n 2, 1) := by decide +kernel
theorem d_VW_refusalToRead_31 : decode c_VW_refusalToRead 31 = .ok (.iload_n 2, 1) := by decide +kernel
theorem d_VW_refusalToRead_32 : decode c_VW_refusalToRead 32 = .ok (.ifCond .eq 15, 3) := by decide +kernel
theorem d_VW_refusalToRead_35 : decode c_VW_refusalToRead 35 = .ok (.aload_n 0, 1) := by decide +kernel
theorem d_VW_refusalToRead_36 : decode c_VW_refusalToRead 36 = .ok (.getfield 19, 3) := by decide +kernel
theorem d_VW_refusalToRead_39 : decode c_VW_refusalToRead 39 = .ok (.iload_n 1, 1) := by decide +kernel
theorem d_VW_refusalToRead_40 : decode c_VW_refusalToRead 40 = .ok (.if_icmp .eq 7, 3) := by decide +kernel
theorem d_VW_refusalToRead_43 : decode c_VW_refusalToRead 43 = .ok (.iconst 0, 1) := by decide +kernel
theorem d_VW_refusalToRead_44 : decode c_VW_refusalToRead 44 = .ok (.goto 5, 3) := by decide +kernel
theorem d_VW_refusalToRead_47 : decode c_VW_refusalToRead 47 = .ok (.bipush 47, 2) := by decide +kernel
theorem d_VW_refusalToRead_49 : decode c_VW_refusalToRead 49 = .ok (.ireturn, 1) := by decide +kernel
theorem d_VW_noteRead_0 : decode c_VW_noteRead 0 = .ok (.aload_n 0, 1) := by decide +kernel
theorem d_VW_noteRead_1 : decode c_VW_noteRead 1 = .ok (.aload_n 1, 1) := by decide +kernel
theorem d_VW_noteRead_2 : decode c_VW_noteRead 2 = .ok (.invokevirtual 59, 3) := by decide +kernel
theorem d_VW_noteRead_5 : decode c_VW_noteRead 5 = .ok (.aload_n 0, 1) := by decide +kernel
theorem d_VW_noteRead_6 : decode c_VW_noteRead 6 = .ok (.iconst 1, 1) := by decide +kernel
theorem d_VW_noteRead_7 : decode c_VW_noteRead 7 = .ok (.putfield 25, 3) := by decide +kernel
theorem d_VW_noteRead_10 : decode c_VW_noteRead 10 = .ok (.aload_n 0, 1) := by decide +kernel
theorem d_VW_noteRead_11 : decode c_VW_noteRead 11 = .ok (.aload_n 1, 1) := by decide +kernel
theorem d_VW_noteRead_12 : decode c_VW_noteRead 12 = .ok (.getfield 63, 3) := by decide +kernel
theorem d_VW_noteRead_15 : decode c_VW_noteRead 15 = .ok (.putfield 37, 3) := by decide +kernel
theorem d_VW_noteRead_18 : decode c_VW_noteRead 18 = .ok (.aload_n 0, 1) := by decide +kernel
theorem d_VW_noteRead_19 : decode c_VW_noteRead 19 = .ok (.aload_n 1, 1) := by decide +kernel
theorem d_VW_noteRead_20 : decode c_VW_noteRead 20 = .ok (.getfield 63, 3) := by decide +kernel
theorem d_VW_noteRead_23 : decode c_VW_noteRead 23 = .ok (.getfield 66, 3) := by decide +kernel
theorem d_VW_noteRead_26 : decode c_VW_noteRead 26 = .ok (.putfield 41, 3) := by decide +kernel
theorem d_VW_noteRead_29 : decode c_VW_noteRead 29 = .ok (.return_, 1) := by decide +kernel
theorem d_VW_standAt_0 : decode c_VW_standAt 0 = .ok (.aload_n 0, 1) := by decide +kernel
theorem d_VW_standAt_1 : decode c_VW_standAt 1 = .ok (.iconst 2, 1) := by decide +kernel
theorem d_VW_standAt_2 : decode c_VW_standAt 2 = .ok (.putfield 25, 3) := by decide +kernel
theorem d_VW_standAt_5 : decode c_VW_standAt 5 = .ok (.aload_n 0, 1) := by decide +kernel
theorem d_VW_standAt_6 : decode c_VW_standAt 6 = .ok (.aload_n 1, 1) := by decide +kernel
theorem d_VW_standAt_7 : decode c_VW_standAt 7 = .ok (.getfield 45, 3) := by decide +kernel
theorem d_VW_standAt_10 : decode c_VW_standAt 10 = .ok (.putfield 50, 3) := by decide +kernel
theorem d_VW_standAt_13 : decode c_VW_standAt 13 = .ok (.aload_n 0, 1) := by decide +kernel
theorem d_VW_standAt_14 : decode c_VW_standAt 14 = .ok (.aload_n 1, 1) := by decide +kernel
theorem d_VW_standAt_15 : decode c_VW_standAt 15 = .ok (.getfield 53, 3) := by decide +kernel
theorem d_VW_standAt_18 : decode c_VW_standAt 18 = .ok (.putfield 56, 3) := by decide +kernel
theorem d_VW_standAt_21 : decode c_VW_standAt 21 = .ok (.aload_n 0, 1) := by decide +kernel
theorem d_VW_standAt_22 : decode c_VW_standAt 22 = .ok (.iconst 0, 1) := by decide +kernel
theorem d_VW_standAt_23 : decode c_VW_standAt 23 = .ok (.putfield 28, 3) := by decide +kernel
theorem d_VW_standAt_26 : decode c_VW_standAt 26 = .ok (.return_, 1) := by decide +kernel
theorem d_VW_refusalToChange_0 : decode c_VW_refusalToChange 0 = .ok (.aload_n 0, 1) := by decide +kernel
theorem d_VW_refusalToChange_1 : decode c_VW_refusalToChange 1 = .ok (.getfield 9, 3) := by decide +kernel
theorem d_VW_refusalToChange_4 : decode c_VW_refusalToChange 4 = .ok (.ifCond .ne 6, 3) := by decide +kernel
theorem d_VW_refusalToChange_7 : decode c_VW_refusalToChange 7 = .ok (.bipush 42, 2) := by decide +kernel
theorem d_VW_refusalToChange_9 : decode c_VW_refusalToChange 9 = .ok (.ireturn, 1) := by decide +kernel
theorem d_VW_refusalToChange_10 : decode c_VW_refusalToChange 10 = .ok (.aload_n 0, 1) := by decide +kernel
theorem d_VW_refusalToChange_11 : decode c_VW_refusalToChange 11 = .ok (.getfield 15, 3) := by decide +kernel
theorem d_VW_refusalToChange_14 : decode c_VW_refusalToChange 14 = .ok (.iconst 2, 1) := by decide +kernel
theorem d_VW_refusalToChange_15 : decode c_VW_refusalToChange 15 = .ok (.if_icmp .ne 7, 3) := by decide +kernel
theorem d_VW_refusalToChange_18 : decode c_VW_refusalToChange 18 = .ok (.iconst 0, 1) := by decide +kernel
theorem d_VW_refusalToChange_19 : decode c_VW_refusalToChange 19 = .ok (.goto 5, 3) := by decide +kernel
theorem d_VW_refusalToChange_22 : decode c_VW_refusalToChange 22 = .ok (.bipush 49, 2) := by decide +kernel
theorem d_VW_refusalToChange_24 : decode c_VW_refusalToChange 24 = .ok (.ireturn, 1) := by decide +kernel
theorem d_VW_statusOfNoRecord_0 : decode c_VW_statusOfNoRecord 0 = .ok (.aload_n 0, 1) := by decide +kernel
theorem d_VW_statusOfNoRecord_1 : decode c_VW_statusOfNoRecord 1 = .ok (.getfield 19, 3) := by decide +kernel
theorem d_VW_statusOfNoRecord_4 : decode c_VW_statusOfNoRecord 4 = .ok (.ifCond .ne 8, 3) := by decide +kernel
theorem d_VW_statusOfNoRecord_7 : decode c_VW_statusOfNoRecord 7 = .ok (.bipush 43, 2) := by decide +kernel
theorem d_VW_statusOfNoRecord_9 : decode c_VW_statusOfNoRecord 9 = .ok (.goto 5, 3) := by decide +kernel
theorem d_VW_statusOfNoRecord_12 : decode c_VW_statusOfNoRecord 12 = .ok (.bipush 23, 2) := by decide +kernel
theorem d_VW_statusOfNoRecord_14 : decode c_VW_statusOfNoRecord 14 = .ok (.ireturn, 1) := by decide +kernel
theorem d_KI_init_0 : decode c_KI_init 0 = .ok (.aload_n 0, 1) := by decide +kernel
theorem d_KI_init_1 : decode c_KI_init 1 = .ok (.invokespecial 3, 3) := by decide +kernel
theorem d_KI_init_4 : decode c_KI_init 4 = .ok (.aload_n 0, 1) := by decide +kernel
theorem d_KI_init_5 : decode c_KI_init 5 = .ok (.iload_n 1, 1) := by decide +kernel
theorem d_KI_init_6 : decode c_KI_init 6 = .ok (.putfield 9, 3) := by decide +kernel
theorem d_KI_init_9 : decode c_KI_init 9 = .ok (.aload_n 0, 1) := by decide +kernel
theorem d_KI_init_10 : decode c_KI_init 10 = .ok (.iload_n 2, 1) := by decide +kernel
theorem d_KI_init_11 : decode c_KI_init 11 = .ok (.putfield 15, 3) := by decide +kernel
theorem d_KI_init_14 : decode c_KI_init 14 = .ok (.aload_n 0, 1) := by decide +kernel
theorem d_KI_init_15 : decode c_KI_init 15 = .ok (.iload_n 3, 1) := by decide +kernel
theorem d_KI_init_16 : decode c_KI_init 16 = .ok (.putfield 19, 3) := by decide +kernel
theorem d_KI_init_19 : decode c_KI_init 19 = .ok (.aload_n 0, 1) := by decide +kernel
theorem d_KI_init_20 : decode c_KI_init 20 = .ok (.new 22, 3) := by decide +kernel
theorem d_KI_init_23 : decode c_KI_init 23 = .ok (.dup, 1) := by decide +kernel
theorem d_KI_init_24 : decode c_KI_init 24 = .ok (.invokespecial 24, 3) := by decide +kernel
theorem d_KI_init_27 : decode c_KI_init 27 = .ok (.putfield 25, 3) := by decide +kernel
theorem d_KI_init_30 : decode c_KI_init 30 = .ok (.return_, 1) := by decide +kernel
theorem d_KI_leaveOut_0 : decode c_KI_leaveOut 0 = .ok (.aload_n 0, 1) := by decide +kernel
theorem d_KI_leaveOut_1 : decode c_KI_leaveOut 1 = .ok (.iconst 1, 1) := by decide +kernel
theorem d_KI_leaveOut_2 : decode c_KI_leaveOut 2 = .ok (.putfield 29, 3) := by decide +kernel
theorem d_KI_leaveOut_5 : decode c_KI_leaveOut 5 = .ok (.aload_n 0, 1) := by decide +kernel
theorem d_KI_leaveOut_6 : decode c_KI_leaveOut 6 = .ok (.lload_n 1, 1) := by decide +kernel
theorem d_KI_leaveOut_7 : decode c_KI_leaveOut 7 = .ok (.putfield 32, 3) := by decide +kernel
theorem d_KI_leaveOut_10 : decode c_KI_leaveOut 10 = .ok (.return_, 1) := by decide +kernel
theorem d_KI_fieldIn_0 : decode c_KI_fieldIn 0 = .ok (.lload_n 1, 1) := by decide +kernel
theorem d_KI_fieldIn_1 : decode c_KI_fieldIn 1 = .ok (.bipush 8, 2) := by decide +kernel
theorem d_KI_fieldIn_3 : decode c_KI_fieldIn 3 = .ok (.aload_n 0, 1) := by decide +kernel
theorem d_KI_fieldIn_4 : decode c_KI_fieldIn 4 = .ok (.getfield 15, 3) := by decide +kernel
theorem d_KI_fieldIn_7 : decode c_KI_fieldIn 7 = .ok (.imul, 1) := by decide +kernel
theorem d_KI_fieldIn_8 : decode c_KI_fieldIn 8 = .ok (.lshl, 1) := by decide +kernel
theorem d_KI_fieldIn_9 : decode c_KI_fieldIn 9 = .ok (.bipush 8, 2) := by decide +kernel
theorem d_KI_fieldIn_11 : decode c_KI_fieldIn 11 = .ok (.bipush 8, 2) := by decide +kernel
theorem d_KI_fieldIn_13 : decode c_KI_fieldIn 13 = .ok (.aload_n 0, 1) := by decide +kernel
theorem d_KI_fieldIn_14 : decode c_KI_fieldIn 14 = .ok (.getfield 19, 3) := by decide +kernel
theorem d_KI_fieldIn_17 : decode c_KI_fieldIn 17 = .ok (.isub, 1) := by decide +kernel
theorem d_KI_fieldIn_18 : decode c_KI_fieldIn 18 = .ok (.imul, 1) := by decide +kernel
theorem d_KI_fieldIn_19 : decode c_KI_fieldIn 19 = .ok (.lushr, 1) := by decide +kernel
theorem d_KI_fieldIn_20 : decode c_KI_fieldIn 20 = .ok (.lreturn, 1) := by decide +kernel
theorem d_KI_entryAt_0 : decode c_KI_entryAt 0 = .ok (.iload_n 1, 1) := by decide +kernel
theorem d_KI_entryAt_1 : decode c_KI_entryAt 1 = .ok (.ifCond .lt 28, 3) := by decide +kernel
theorem d_KI_entryAt_4 : decode c_KI_entryAt 4 = .ok (.iload_n 1, 1) := by decide +kernel
theorem d_KI_entryAt_5 : decode c_KI_entryAt 5 = .ok (.aload_n 0, 1) := by decide +kernel
theorem d_KI_entryAt_6 : decode c_KI_entryAt 6 = .ok (.getfield 25, 3) := by decide +kernel
theorem d_KI_entryAt_9 : decode c_KI_entryAt 9 = .ok (.invokevirtual 36, 3) := by decide +kernel
theorem d_KI_entryAt_12 : decode c_KI_entryAt 12 = .ok (.if_icmp .ge 17, 3) := by decide +kernel
theorem d_KI_entryAt_15 : decode c_KI_entryAt 15 = .ok (.aload_n 0, 1) := by decide +kernel
theorem d_KI_entryAt_16 : decode c_KI_entryAt 16 = .ok (.getfield 25, 3) := by decide +kernel
theorem d_KI_entryAt_19 : decode c_KI_entryAt 19 = .ok (.iload_n 1, 1) := by decide +kernel
theorem d_KI_entryAt_20 : decode c_KI_entryAt 20 = .ok (.invokevirtual 39, 3) := by decide +kernel
theorem d_KI_entryAt_23 : decode c_KI_entryAt 23 = .ok (.checkcast 43, 3) := by decide +kernel
theorem d_KI_entryAt_26 : decode c_KI_entryAt 26 = .ok (.goto 4, 3) := by decide +kernel
theorem d_KI_entryAt_29 : decode c_KI_entryAt 29 = .ok (.aconst_null, 1) := by decide +kernel
theorem d_KI_entryAt_30 : decode c_KI_entryAt 30 = .ok (.areturn, 1) := by decide +kernel
theorem d_KI_firstEqual_0 : decode c_KI_firstEqual 0 = .ok (.aload_n 0, 1) := by decide +kernel
theorem d_KI_firstEqual_1 : decode c_KI_firstEqual 1 = .ok (.aload_n 0, 1) := by decide +kernel
theorem d_KI_firstEqual_2 : decode c_KI_firstEqual 2 = .ok (.lload_n 1, 1) := by decide +kernel
theorem d_KI_firstEqual_3 : decode c_KI_firstEqual 3 = .ok (.lconst 0, 1) := by decide +kernel
theorem d_KI_firstEqual_4 : decode c_KI_firstEqual 4 = .ok (.invokevirtual 53, 3) := by decide +kernel
theorem d_KI_firstEqual_7 : decode c_KI_firstEqual 7 = .ok (.invokevirtual 45, 3) := by decide +kernel
theorem d_KI_firstEqual_10 : decode c_KI_firstEqual 10 = .ok (.astore_n 3, 1) := by decide +kernel
theorem d_KI_firstEqual_11 : decode c_KI_firstEqual 11 = .ok (.aload_n 3, 1) := by decide +kernel
theorem d_KI_firstEqual_12 : decode c_KI_firstEqual 12 = .ok (.ifnull 16, 3) := by decide +kernel
theorem d_KI_firstEqual_15 : decode c_KI_firstEqual 15 = .ok (.aload_n 3, 1) := by decide +kernel
theorem d_KI_firstEqual_16 : decode c_KI_firstEqual 16 = .ok (.getfield 57, 3) := by decide +kernel
theorem d_KI_firstEqual_19 : decode c_KI_firstEqual 19 = .ok (.lload_n 1, 1) := by decide +kernel
theorem d_KI_firstEqual_20 : decode c_KI_firstEqual 20 = .ok (.lcmp, 1) := by decide +kernel
theorem d_KI_firstEqual_21 : decode c_KI_firstEqual 21 = .ok (.ifCond .ne 7, 3) := by decide +kernel
theorem d_KI_firstEqual_24 : decode c_KI_firstEqual 24 = .ok (.aload_n 3, 1) := by decide +kernel
theorem d_KI_firstEqual_25 : decode c_KI_firstEqual 25 = .ok (.goto 4, 3) := by decide +kernel
theorem d_KI_firstEqual_28 : decode c_KI_firstEqual 28 = .ok (.aconst_null, 1) := by decide +kernel
theorem d_KI_firstEqual_29 : decode c_KI_firstEqual 29 = .ok (.areturn, 1) := by decide +kernel
theorem d_KI_countAheadOf_0 : decode c_KI_countAheadOf 0 = .ok (.iconst 0, 1) := by decide +kernel
theorem d_KI_countAheadOf_1 : decode c_KI_countAheadOf 1 = .ok (.istore 5, 2) := by decide +kernel
theorem d_KI_countAheadOf_3 : decode c_KI_countAheadOf 3 = .ok (.sipush 256, 3) := by decide +kernel
theorem d_KI_countAheadOf_6 : decode c_KI_countAheadOf 6 = .ok (.istore 6, 2) := by decide +kernel
theorem d_KI_countAheadOf_8 : decode c_KI_countAheadOf 8 = .ok (.iload 6, 2) := by decide +kernel
theorem d_KI_countAheadOf_10 : decode c_KI_countAheadOf 10 = .ok (.ifCond .le 47, 3) := by decide +kernel
theorem d_KI_countAheadOf_13 : decode c_KI_countAheadOf 13 = .ok (.aload_n 0, 1) := by decide +kernel
theorem d_KI_countAheadOf_14 : decode c_KI_countAheadOf 14 = .ok (.iload 5, 2) := by decide +kernel
theorem d_KI_countAheadOf_16 : decode c_KI_countAheadOf 16 = .ok (.iload 6, 2) := by decide +kernel
theorem d_KI_countAheadOf_18 : decode c_KI_countAheadOf 18 = .ok (.iadd, 1) := by decide +kernel
theorem d_KI_countAheadOf_19 : decode c_KI_countAheadOf 19 = .ok (.iconst 1, 1) := by decide +kernel
theorem d_KI_countAheadOf_20 : decode c_KI_countAheadOf 20 = .ok (.isub, 1) := by decide +kernel
theorem d_KI_countAheadOf_21 : decode c_KI_countAheadOf 21 = .ok (.invokevirtual 45, 3) := by decide +kernel
theorem d_KI_countAheadOf_24 : decode c_KI_countAheadOf 24 = .ok (.astore 7, 2) := by decide +kernel
theorem d_KI_countAheadOf_26 : decode c_KI_countAheadOf 26 = .ok (.aload 7, 2) := by decide +kernel
theorem d_KI_countAheadOf_28 : decode c_KI_countAheadOf 28 = .ok (.ifnull 20, 3) := by decide +kernel
theorem d_KI_countAheadOf_31 : decode c_KI_countAheadOf 31 = .ok (.aload 7, 2) := by decide +kernel
theorem d_KI_countAheadOf_33 : decode c_KI_countAheadOf 33 = .ok (.lload_n 1, 1) := by decide +kernel
theorem d_KI_countAheadOf_34 : decode c_KI_countAheadOf 34 = .ok (.lload_n 3, 1) := by decide +kernel
theorem d_KI_countAheadOf_35 : decode c_KI_countAheadOf 35 = .ok (.invokevirtual 49, 3) := by decide +kernel
theorem d_KI_countAheadOf_38 : decode c_KI_countAheadOf 38 = .ok (.ifCond .eq 10, 3) := by decide +kernel
theorem d_KI_countAheadOf_41 : decode c_KI_countAheadOf 41 = .ok (.iload 5, 2) := by decide +kernel
theorem d_KI_countAheadOf_43 : decode c_KI_countAheadOf 43 = .ok (.iload 6, 2) := by decide +kernel
theorem d_KI_countAheadOf_45 : decode c_KI_countAheadOf 45 = .ok (.iadd, 1) := by decide +kernel
theorem d_KI_countAheadOf_46 : decode c_KI_countAheadOf 46 = .ok (.istore 5, 2) := by decide +kernel
theorem d_KI_countAheadOf_48 : decode c_KI_countAheadOf 48 = .ok (.iload 6, 2) := by decide +kernel
theorem d_KI_countAheadOf_50 : decode c_KI_countAheadOf 50 = .ok (.iconst 2, 1) := by decide +kernel
theorem d_KI_countAheadOf_51 : decode c_KI_countAheadOf 51 = .ok (.idiv, 1) := by decide +kernel
theorem d_KI_countAheadOf_52 : decode c_KI_countAheadOf 52 = .ok (.istore 6, 2) := by decide +kernel
theorem d_KI_countAheadOf_54 : decode c_KI_countAheadOf 54 = .ok (.goto (-46), 3) := by decide +kernel
theorem d_KI_countAheadOf_57 : decode c_KI_countAheadOf 57 = .ok (.iload 5, 2) := by decide +kernel
theorem d_KI_countAheadOf_59 : decode c_KI_countAheadOf 59 = .ok (.ireturn, 1) := by decide +kernel
theorem d_KI_enter_0 : decode c_KI_enter 0 = .ok (.aload_n 0, 1) := by decide +kernel
theorem d_KI_enter_1 : decode c_KI_enter 1 = .ok (.aload_n 1, 1) := by decide +kernel
theorem d_KI_enter_2 : decode c_KI_enter 2 = .ok (.getfield 60, 3) := by decide +kernel
theorem d_KI_enter_5 : decode c_KI_enter 5 = .ok (.invokevirtual 65, 3) := by decide +kernel
theorem d_KI_enter_8 : decode c_KI_enter 8 = .ok (.lstore 4, 2) := by decide +kernel
theorem d_KI_enter_10 : decode c_KI_enter 10 = .ok (.aload_n 0, 1) := by decide +kernel
theorem d_KI_enter_11 : decode c_KI_enter 11 = .ok (.lload 4, 2) := by decide +kernel
theorem d_KI_enter_13 : decode c_KI_enter 13 = .ok (.invokevirtual 69, 3) := by decide +kernel
theorem d_KI_enter_16 : decode c_KI_enter 16 = .ok (.ifCond .eq 5, 3) := by decide +kernel
theorem d_KI_enter_19 : decode c_KI_enter 19 = .ok (.iconst 0, 1) := by decide +kernel
theorem d_KI_enter_20 : decode c_KI_enter 20 = .ok (.ireturn, 1) := by decide +kernel
theorem d_KI_enter_21 : decode c_KI_enter 21 = .ok (.aload_n 0, 1) := by decide +kernel
theorem d_KI_enter_22 : decode c_KI_enter 22 = .ok (.lload 4, 2) := by decide +kernel
theorem d_KI_enter_24 : decode c_KI_enter 24 = .ok (.lload_n 2, 1) := by decide +kernel
theorem d_KI_enter_25 : decode c_KI_enter 25 = .ok (.invokevirtual 53, 3) := by decide +kernel
theorem d_KI_enter_28 : decode c_KI_enter 28 = .ok (.istore 6, 2) := by decide +kernel
theorem d_KI_enter_30 : decode c_KI_enter 30 = .ok (.iload 6, 2) := by decide +kernel
theorem d_KI_enter_32 : decode c_KI_enter 32 = .ok (.aload_n 0, 1) := by decide +kernel
theorem d_KI_enter_33 : decode c_KI_enter 33 = .ok (.getfield 25, 3) := by decide +kernel
theorem d_KI_enter_36 : decode c_KI_enter 36 = .ok (.invokevirtual 36, 3) := by decide +kernel
theorem d_KI_enter_39 : decode c_KI_enter 39 = .ok (.if_icmp .le 5, 3) := by decide +kernel
theorem d_KI_enter_42 : decode c_KI_enter 42 = .ok (.iconst 0, 1) := by decide +kernel
theorem d_KI_enter_43 : decode c_KI_enter 43 = .ok (.ireturn, 1) := by decide +kernel
theorem d_KI_enter_44 : decode c_KI_enter 44 = .ok (.aload_n 0, 1) := by decide +kernel
theorem d_KI_enter_45 : decode c_KI_enter 45 = .ok (.getfield 25, 3) := by decide +kernel
theorem d_KI_enter_48 : decode c_KI_enter 48 = .ok (.iload 6, 2) := by decide +kernel
theorem d_KI_enter_50 : decode c_KI_enter 50 = .ok (.new 43, 3) := by decide +kernel
theorem d_KI_enter_53 : decode c_KI_enter 53 = .ok (.dup, 1) := by decide +kernel
theorem d_KI_enter_54 : decode c_KI_enter 54 = .ok (.lload 4, 2) := by decide +kernel
theorem d_KI_enter_56 : decode c_KI_enter 56 = .ok (.lload_n 2, 1) := by decide +kernel
theorem d_KI_enter_57 : decode c_KI_enter 57 = .ok (.aload_n 1, 1) := by decide +kernel
theorem d_KI_enter_58 : decode c_KI_enter 58 = .ok (.invokespecial 73, 3) := by decide +kernel
theorem d_KI_enter_61 : decode c_KI_enter 61 = .ok (.invokevirtual 76, 3) := by decide +kernel
theorem d_KI_enter_64 : decode c_KI_enter 64 = .ok (.aload_n 0, 1) := by decide +kernel
theorem d_KI_enter_65 : decode c_KI_enter 65 = .ok (.iload 6, 2) := by decide +kernel
theorem d_KI_enter_67 : decode c_KI_enter 67 = .ok (.iconst 1, 1) := by decide +kernel
theorem d_KI_enter_68 : decode c_KI_enter 68 = .ok (.isub, 1) := by decide +kernel
theorem d_KI_enter_69 : decode c_KI_enter 69 = .ok (.invokevirtual 45, 3) := by decide +kernel
theorem d_KI_enter_72 : decode c_KI_enter 72 = .ok (.astore 7, 2) := by decide +kernel
theorem d_KI_enter_74 : decode c_KI_enter 74 = .ok (.aload 7, 2) := by decide +kernel
theorem d_KI_enter_76 : decode c_KI_enter 76 = .ok (.ifnull 18, 3) := by decide +kernel
theorem d_KI_enter_79 : decode c_KI_enter 79 = .ok (.aload 7, 2) := by decide +kernel
theorem d_KI_enter_81 : decode c_KI_enter 81 = .ok (.getfield 57, 3) := by decide +kernel
theorem d_KI_enter_84 : decode c_KI_enter 84 = .ok (.lload 4, 2) := by decide +kernel
theorem d_KI_enter_86 : decode c_KI_enter 86 = .ok (.lcmp, 1) := by decide +kernel
theorem d_KI_enter_87 : decode c_KI_enter 87 = .ok (.ifCond .ne 7, 3) := by decide +kernel
theorem d_KI_enter_90 : decode c_KI_enter 90 = .ok (.iconst 1, 1) := by decide +kernel
theorem d_KI_enter_91 : decode c_KI_enter 91 = .ok (.goto 4, 3) := by decide +kernel
theorem d_KI_enter_94 : decode c_KI_enter 94 = .ok (.iconst 0, 1) := by decide +kernel
theorem d_KI_enter_95 : decode c_KI_enter 95 = .ok (.ireturn, 1) := by decide +kernel
theorem d_KI_leavesOut_0 : decode c_KI_leavesOut 0 = .ok (.aload_n 0, 1) := by decide +kernel
theorem d_KI_leavesOut_1 : decode c_KI_leavesOut 1 = .ok (.getfield 29, 3) := by decide +kernel
theorem d_KI_leavesOut_4 : decode c_KI_leavesOut 4 = .ok (.ifCond .eq 16, 3) := by decide +kernel
theorem d_KI_leavesOut_7 : decode c_KI_leavesOut 7 = .ok (.lload_n 1, 1) := by decide +kernel
theorem d_KI_leavesOut_8 : decode c_KI_leavesOut 8 = .ok (.aload_n 0, 1) := by decide +kernel
theorem d_KI_leavesOut_9 : decode c_KI_leavesOut 9 = .ok (.getfield 32, 3) := by decide +kernel
theorem d_KI_leavesOut_12 : decode c_KI_leavesOut 12 = .ok (.lcmp, 1) := by decide +kernel
theorem d_KI_leavesOut_13 : decode c_KI_leavesOut 13 = .ok (.ifCond .ne 7, 3) := by decide +kernel
theorem d_KI_leavesOut_16 : decode c_KI_leavesOut 16 = .ok (.iconst 1, 1) := by decide +kernel
theorem d_KI_leavesOut_17 : decode c_KI_leavesOut 17 = .ok (.goto 4, 3) := by decide +kernel
theorem d_KI_leavesOut_20 : decode c_KI_leavesOut 20 = .ok (.iconst 0, 1) := by decide +kernel
theorem d_KI_leavesOut_21 : decode c_KI_leavesOut 21 = .ok (.ireturn, 1) := by decide +kernel
theorem d_KI_hasEqualNextTo_0 : decode c_KI_hasEqualNextTo 0 = .ok (.aload_n 0, 1) := by decide +kernel
theorem d_KI_hasEqualNextTo_1 : decode c_KI_hasEqualNextTo 1 = .ok (.aload_n 1, 1) := by decide +kernel
theorem d_KI_hasEqualNextTo_2 : decode c_KI_hasEqualNextTo 2 = .ok (.getfield 57, 3) := by decide +kernel
theorem d_KI_hasEqualNextTo_5 : decode c_KI_hasEqualNextTo 5 = .ok (.aload_n 1, 1) := by decide +kernel
theorem d_KI_hasEqualNextTo_6 : decode c_KI_hasEqualNextTo 6 = .ok (.getfield 87, 3) := by decide +kernel
theorem d_KI_hasEqualNextTo_9 : decode c_KI_hasEqualNextTo 9 = .ok (.invokevirtual 53, 3) := by decide +kernel
theorem d_KI_hasEqualNextTo_12 : decode c_KI_hasEqualNextTo 12 = .ok (.istore_n 3, 1) := by decide +kernel
theorem d_KI_hasEqualNextTo_13 : decode c_KI_hasEqualNextTo 13 = .ok (.aload_n 0, 1) := by decide +kernel
theorem d_KI_hasEqualNextTo_14 : decode c_KI_hasEqualNextTo 14 = .ok (.iload_n 2, 1) := by decide +kernel
theorem d_KI_hasEqualNextTo_15 : decode c_KI_hasEqualNextTo 15 = .ok (.ifCond .eq 9, 3) := by decide +kernel
theorem d_KI_hasEqualNextTo_18 : decode c_KI_hasEqualNextTo 18 = .ok (.iload_n 3, 1) := by decide +kernel
theorem d_KI_hasEqualNextTo_19 : decode c_KI_hasEqualNextTo 19 = .ok (.iconst 1, 1) := by decide +kernel
theorem d_KI_hasEqualNextTo_20 : decode c_KI_hasEqualNextTo 20 = .ok (.isub, 1) := by decide +kernel
theorem d_KI_hasEqualNextTo_21 : decode c_KI_hasEqualNextTo 21 = .ok (.goto 6, 3) := by decide +kernel
theorem d_KI_hasEqualNextTo_24 : decode c_KI_hasEqualNextTo 24 = .ok (.iload_n 3, 1) := by decide +kernel
theorem d_KI_hasEqualNextTo_25 : decode c_KI_hasEqualNextTo 25 = .ok (.iconst 1, 1) := by decide +kernel
theorem d_KI_hasEqualNextTo_26 : decode c_KI_hasEqualNextTo 26 = .ok (.iadd, 1) := by decide +kernel
theorem d_KI_hasEqualNextTo_27 : decode c_KI_hasEqualNextTo 27 = .ok (.invokevirtual 45, 3) := by decide +kernel
theorem d_KI_hasEqualNextTo_30 : decode c_KI_hasEqualNextTo 30 = .ok (.astore 4, 2) := by decide +kernel
theorem d_KI_hasEqualNextTo_32 : decode c_KI_hasEqualNextTo 32 = .ok (.aload 4, 2) := by decide +kernel
theorem d_KI_hasEqualNextTo_34 : decode c_KI_hasEqualNextTo 34 = .ok (.ifnull 20, 3) := by decide +kernel
theorem d_KI_hasEqualNextTo_37 : decode c_KI_hasEqualNextTo 37 = .ok (.aload 4, 2) := by decide +kernel
theorem d_KI_hasEqualNextTo_39 : decode c_KI_hasEqualNextTo 39 = .ok (.getfield 57, 3) := by decide +kernel
theorem d_KI_hasEqualNextTo_42 : decode c_KI_hasEqualNextTo 42 = .ok (.aload_n 1, 1) := by decide +kernel
theorem d_KI_hasEqualNextTo_43 : decode c_KI_hasEqualNextTo 43 = .ok (.getfield 57, 3) := by decide +kernel
theorem d_KI_hasEqualNextTo_46 : decode c_KI_hasEqualNextTo 46 = .ok (.lcmp, 1) := by decide +kernel
theorem d_KI_hasEqualNextTo_47 : decode c_KI_hasEqualNextTo 47 = .ok (.ifCond .ne 7, 3) := by decide +kernel
theorem d_KI_hasEqualNextTo_50 : decode c_KI_hasEqualNextTo 50 = .ok (.iconst 1, 1) := by decide +kernel
theorem d_KI_hasEqualNextTo_51 : decode c_KI_hasEqualNextTo 51 = .ok (.goto 4, 3) := by decide +kernel
theorem d_KI_hasEqualNextTo_54 : decode c_KI_hasEqualNextTo 54 = .ok (.iconst 0, 1) := by decide +kernel
theorem d_KI_hasEqualNextTo_55 : decode c_KI_hasEqualNextTo 55 = .ok (.ireturn, 1) := by decide +kernel
theorem d_KI_findByPart_0 : decode c_KI_findByPart 0 = .ok (.iload_n 1, 1) := by decide +kernel
theorem d_KI_findByPart_1 : decode c_KI_findByPart 1 = .ok (.iconst 1, 1) := by decide +kernel
theorem d_KI_findByPart_2 : decode c_KI_findByPart 2 = .ok (.if_icmp .eq 8, 3) := by decide +kernel
theorem d_KI_findByPart_5 : decode c_KI_findByPart 5 = .ok (.iload_n 1, 1) := by decide +kernel
theorem d_KI_findByPart_6 : decode c_KI_findByPart 6 = .ok (.iconst 4, 1) := by decide +kernel
theorem d_KI_findByPart_7 : decode c_KI_findByPart 7 = .ok (.if_icmp .ne 7, 3) := by decide +kernel
theorem d_KI_findByPart_10 : decode c_KI_findByPart 10 = .ok (.iconst 1, 1) := by decide +kernel
theorem d_KI_findByPart_11 : decode c_KI_findByPart 11 = .ok (.goto 4, 3) := by decide +kernel
theorem d_KI_findByPart_14 : decode c_KI_findByPart 14 = .ok (.iconst 0, 1) := by decide +kernel
theorem d_KI_findByPart_15 : decode c_KI_findByPart 15 = .ok (.istore 5, 2) := by decide +kernel
theorem d_KI_findByPart_17 : decode c_KI_findByPart 17 = .ok (.aload_n 0, 1) := by decide +kernel
theorem d_KI_findByPart_18 : decode c_KI_findByPart 18 = .ok (.lload_n 2, 1) := by decide +kernel
theorem d_KI_findByPart_19 : decode c_KI_findByPart 19 = .ok (.iload 4, 2) := by decide +kernel
theorem d_KI_findByPart_21 : decode c_KI_findByPart 21 = .ok (.iload 5, 2) := by decide +kernel
theorem d_KI_findByPart_23 : decode c_KI_findByPart 23 = .ok (.invokevirtual 101, 3) := by decide +kernel
theorem d_KI_findByPart_26 : decode c_KI_findByPart 26 = .ok (.istore 6, 2) := by decide +kernel
theorem d_KI_findByPart_28 : decode c_KI_findByPart 28 = .ok (.aload_n 0, 1) := by decide +kernel
theorem d_KI_findByPart_29 : decode c_KI_findByPart 29 = .ok (.iload_n 1, 1) := by decide +kernel
theorem d_KI_findByPart_30 : decode c_KI_findByPart 30 = .ok (.iconst 3, 1) := by decide +kernel
theorem d_KI_findByPart_31 : decode c_KI_findByPart 31 = .ok (.if_icmp .eq 8, 3) := by decide +kernel
theorem d_KI_findByPart_34 : decode c_KI_findByPart 34 = .ok (.iload_n 1, 1) := by decide +kernel
theorem d_KI_findByPart_35 : decode c_KI_findByPart 35 = .ok (.iconst 4, 1) := by decide +kernel
theorem d_KI_findByPart_36 : decode c_KI_findByPart 36 = .ok (.if_icmp .ne 10, 3) := by decide +kernel
theorem d_KI_findByPart_39 : decode c_KI_findByPart 39 = .ok (.iload 6, 2) := by decide +kernel
theorem d_KI_findByPart_41 : decode c_KI_findByPart 41 = .ok (.iconst 1, 1) := by decide +kernel
theorem d_KI_findByPart_42 : decode c_KI_findByPart 42 = .ok (.isub, 1) := by decide +kernel
theorem d_KI_findByPart_43 : decode c_KI_findByPart 43 = .ok (.goto 5, 3) := by decide +kernel
theorem d_KI_findByPart_46 : decode c_KI_findByPart 46 = .ok (.iload 6, 2) := by decide +kernel
theorem d_KI_findByPart_48 : decode c_KI_findByPart 48 = .ok (.invokevirtual 45, 3) := by decide +kernel
theorem d_KI_findByPart_51 : decode c_KI_findByPart 51 = .ok (.astore 7, 2) := by decide +kernel
theorem d_KI_findByPart_53 : decode c_KI_findByPart 53 = .ok (.iload_n 1, 1) := by decide +kernel
theorem d_KI_findByPart_54 : decode c_KI_findByPart 54 = .ok (.ifCond .ne 23, 3) := by decide +kernel
theorem d_KI_findByPart_57 : decode c_KI_findByPart 57 = .ok (.aload 7, 2) := by decide +kernel
theorem d_KI_findByPart_59 : decode c_KI_findByPart 59 = .ok (.ifnull 18, 3) := by decide +kernel
theorem d_KI_findByPart_62 : decode c_KI_findByPart 62 = .ok (.aload_n 0, 1) := by decide +kernel
theorem d_KI_findByPart_63 : decode c_KI_findByPart 63 = .ok (.aload 7, 2) := by decide +kernel
theorem d_KI_findByPart_65 : decode c_KI_findByPart 65 = .ok (.iload 4, 2) := by decide +kernel
theorem d_KI_findByPart_67 : decode c_KI_findByPart 67 = .ok (.invokevirtual 105, 3) := by decide +kernel
theorem d_KI_findByPart_70 : decode c_KI_findByPart 70 = .ok (.lload_n 2, 1) := by decide +kernel
theorem d_KI_findByPart_71 : decode c_KI_findByPart 71 = .ok (.lcmp, 1) := by decide +kernel
theorem d_KI_findByPart_72 : decode c_KI_findByPart 72 = .ok (.ifCond .eq 5, 3) := by decide +kernel
theorem d_KI_findByPart_75 : decode c_KI_findByPart 75 = .ok (.aconst_null, 1) := by decide +kernel
theorem d_KI_findByPart_76 : decode c_KI_findByPart 76 = .ok (.areturn, 1) := by decide +kernel
theorem d_KI_findByPart_77 : decode c_KI_findByPart 77 = .ok (.aload 7, 2) := by decide +kernel
theorem d_KI_findByPart_79 : decode c_KI_findByPart 79 = .ok (.areturn, 1) := by decide +kernel
theorem d_KI_countByPart_0 : decode c_KI_countByPart 0 = .ok (.iconst 0, 1) := by decide +kernel
theorem d_KI_countByPart_1 : decode c_KI_countByPart 1 = .ok (.istore 5, 2) := by decide +kernel
theorem d_KI_countByPart_3 : decode c_KI_countByPart 3 = .ok (.sipush 256, 3) := by decide +kernel
theorem d_KI_countByPart_6 : decode c_KI_countByPart 6 = .ok (.istore 6, 2) := by decide +kernel
theorem d_KI_countByPart_8 : decode c_KI_countByPart 8 = .ok (.iload 6, 2) := by decide +kernel
theorem d_KI_countByPart_10 : decode c_KI_countByPart 10 = .ok (.ifCond .le 70, 3) := by decide +kernel
theorem d_KI_countByPart_13 : decode c_KI_countByPart 13 = .ok (.aload_n 0, 1) := by decide +kernel
theorem d_KI_countByPart_14 : decode c_KI_countByPart 14 = .ok (.iload 5, 2) := by decide +kernel
theorem d_KI_countByPart_16 : decode c_KI_countByPart 16 = .ok (.iload 6, 2) := by decide +kernel
theorem d_KI_countByPart_18 : decode c_KI_countByPart 18 = .ok (.iadd, 1) := by decide +kernel
theorem d_KI_countByPart_19 : decode c_KI_countByPart 19 = .ok (.iconst 1, 1) := by decide +kernel
theorem d_KI_countByPart_20 : decode c_KI_countByPart 20 = .ok (.isub, 1) := by decide +kernel
theorem d_KI_countByPart_21 : decode c_KI_countByPart 21 = .ok (.invokevirtual 45, 3) := by decide +kernel
theorem d_KI_countByPart_24 : decode c_KI_countByPart 24 = .ok (.astore 7, 2) := by decide +kernel
theorem d_KI_countByPart_26 : decode c_KI_countByPart 26 = .ok (.aload 7, 2) := by decide +kernel
theorem d_KI_countByPart_28 : decode c_KI_countByPart 28 = .ok (.ifnonnull 6, 3) := by decide +kernel
theorem d_KI_countByPart_31 : decode c_KI_countByPart 31 = .ok (.goto 40, 3) := by decide +kernel
theorem d_KI_countByPart_34 : decode c_KI_countByPart 34 = .ok (.aload_n 0, 1) := by decide +kernel
theorem d_KI_countByPart_35 : decode c_KI_countByPart 35 = .ok (.aload 7, 2) := by decide +kernel
theorem d_KI_countByPart_37 : decode c_KI_countByPart 37 = .ok (.iload_n 3, 1) := by decide +kernel
theorem d_KI_countByPart_38 : decode c_KI_countByPart 38 = .ok (.invokevirtual 105, 3) := by decide +kernel
theorem d_KI_countByPart_41 : decode c_KI_countByPart 41 = .ok (.lstore 8, 2) := by decide +kernel
theorem d_KI_countByPart_43 : decode c_KI_countByPart 43 = .ok (.lload 8, 2) := by decide +kernel
theorem d_KI_countByPart_45 : decode c_KI_countByPart 45 = .ok (.lload_n 1, 1) := by decide +kernel
theorem d_KI_countByPart_46 : decode c_KI_countByPart 46 = .ok (.invokestatic 109, 3) := by decide +kernel
theorem d_KI_countByPart_49 : decode c_KI_countByPart 49 = .ok (.ifCond .ne 15, 3) := by decide +kernel
theorem d_KI_countByPart_52 : decode c_KI_countByPart 52 = .ok (.iload 4, 2) := by decide +kernel
theorem d_KI_countByPart_54 : decode c_KI_countByPart 54 = .ok (.ifCond .eq 17, 3) := by decide +kernel
theorem d_KI_countByPart_57 : decode c_KI_countByPart 57 = .ok (.lload 8, 2) := by decide +kernel
theorem d_KI_countByPart_59 : decode c_KI_countByPart 59 = .ok (.lload_n 1, 1) := by decide +kernel
theorem d_KI_countByPart_60 : decode c_KI_countByPart 60 = .ok (.lcmp, 1) := by decide +kernel
theorem d_KI_countByPart_61 : decode c_KI_countByPart 61 = .ok (.ifCond .ne 10, 3) := by decide +kernel
theorem d_KI_countByPart_64 : decode c_KI_countByPart 64 = .ok (.iload 5, 2) := by decide +kernel
theorem d_KI_countByPart_66 : decode c_KI_countByPart 66 = .ok (.iload 6, 2) := by decide +kernel
theorem d_KI_countByPart_68 : decode c_KI_countByPart 68 = .ok (.iadd, 1) := by decide +kernel
theorem d_KI_countByPart_69 : decode c_KI_countByPart 69 = .ok (.istore 5, 2) := by decide +kernel
theorem d_KI_countByPart_71 : decode c_KI_countByPart 71 = .ok (.iload 6, 2) := by decide +kernel
theorem d_KI_countByPart_73 : decode c_KI_countByPart 73 = .ok (.iconst 2, 1) := by decide +kernel
theorem d_KI_countByPart_74 : decode c_KI_countByPart 74 = .ok (.idiv, 1) := by decide +kernel
theorem d_KI_countByPart_75 : decode c_KI_countByPart 75 = .ok (.istore 6, 2) := by decide +kernel
theorem d_KI_countByPart_77 : decode c_KI_countByPart 77 = .ok (.goto (-69), 3) := by decide +kernel
theorem d_KI_countByPart_80 : decode c_KI_countByPart 80 = .ok (.iload 5, 2) := by decide +kernel
theorem d_KI_countByPart_82 : decode c_KI_countByPart 82 = .ok (.ireturn, 1) := by decide +kernel
theorem d_KI_partOf_0 : decode c_KI_partOf 0 = .ok (.aload_n 1, 1) := by decide +kernel
theorem d_KI_partOf_1 : decode c_KI_partOf 1 = .ok (.getfield 57, 3) := by decide +kernel
theorem d_KI_partOf_4 : decode c_KI_partOf 4 = .ok (.bipush 8, 2) := by decide +kernel
theorem d_KI_partOf_6 : decode c_KI_partOf 6 = .ok (.aload_n 0, 1) := by decide +kernel
theorem d_KI_partOf_7 : decode c_KI_partOf 7 = .ok (.getfield 19, 3) := by decide +kernel
theorem d_KI_partOf_10 : decode c_KI_partOf 10 = .ok (.iload_n 2, 1) := by decide +kernel
theorem d_KI_partOf_11 : decode c_KI_partOf 11 = .ok (.isub, 1) := by decide +kernel
theorem d_KI_partOf_12 : decode c_KI_partOf 12 = .ok (.imul, 1) := by decide +kernel
theorem d_KI_partOf_13 : decode c_KI_partOf 13 = .ok (.lushr, 1) := by decide +kernel
theorem d_KI_partOf_14 : decode c_KI_partOf 14 = .ok (.lreturn, 1) := by decide +kernel
theorem d_KI_entryAheadOf_0 : decode c_KI_entryAheadOf 0 = .ok (.aload_n 1, 1) := by decide +kernel
theorem d_KI_entryAheadOf_1 : decode c_KI_entryAheadOf 1 = .ok (.getfield 90, 3) := by decide +kernel
theorem d_KI_entryAheadOf_4 : decode c_KI_entryAheadOf 4 = .ok (.ifCond .ne 5, 3) := by decide +kernel
theorem d_KI_entryAheadOf_7 : decode c_KI_entryAheadOf 7 = .ok (.aconst_null, 1) := by decide +kernel
theorem d_KI_entryAheadOf_8 : decode c_KI_entryAheadOf 8 = .ok (.areturn, 1) := by decide +kernel
theorem d_KI_entryAheadOf_9 : decode c_KI_entryAheadOf 9 = .ok (.aload_n 1, 1) := by decide +kernel
theorem d_KI_entryAheadOf_10 : decode c_KI_entryAheadOf 10 = .ok (.getfield 90, 3) := by decide +kernel
theorem d_KI_entryAheadOf_13 : decode c_KI_entryAheadOf 13 = .ok (.iconst 2, 1) := by decide +kernel
theorem d_KI_entryAheadOf_14 : decode c_KI_entryAheadOf 14 = .ok (.if_icmp .ne 12, 3) := by decide +kernel
theorem d_KI_entryAheadOf_17 : decode c_KI_entryAheadOf 17 = .ok (.aload_n 1, 1) := by decide +kernel
theorem d_KI_entryAheadOf_18 : decode c_KI_entryAheadOf 18 = .ok (.getfield 95, 3) := by decide +kernel
theorem d_KI_entryAheadOf_21 : decode c_KI_entryAheadOf 21 = .ok (.lconst 1, 1) := by decide +kernel
theorem d_KI_entryAheadOf_22 : decode c_KI_entryAheadOf 22 = .ok (.ladd, 1) := by decide +kernel
theorem d_KI_entryAheadOf_23 : decode c_KI_entryAheadOf 23 = .ok (.goto 7, 3) := by decide +kernel
theorem d_KI_entryAheadOf_26 : decode c_KI_entryAheadOf 26 = .ok (.aload_n 1, 1) := by decide +kernel
theorem d_KI_entryAheadOf_27 : decode c_KI_entryAheadOf 27 = .ok (.getfield 95, 3) := by decide +kernel
theorem d_KI_entryAheadOf_30 : decode c_KI_entryAheadOf 30 = .ok (.lstore_n 2, 1) := by decide +kernel
theorem d_KI_entryAheadOf_31 : decode c_KI_entryAheadOf 31 = .ok (.aload_n 0, 1) := by decide +kernel
theorem d_KI_entryAheadOf_32 : decode c_KI_entryAheadOf 32 = .ok (.aload_n 0, 1) := by decide +kernel
theorem d_KI_entryAheadOf_33 : decode c_KI_entryAheadOf 33 = .ok (.aload_n 1, 1) := by decide +kernel
theorem d_KI_entryAheadOf_34 : decode c_KI_entryAheadOf 34 = .ok (.getfield 98, 3) := by decide +kernel
theorem d_KI_entryAheadOf_37 : decode c_KI_entryAheadOf 37 = .ok (.lload_n 2, 1) := by decide +kernel
theorem d_KI_entryAheadOf_38 : decode c_KI_entryAheadOf 38 = .ok (.invokevirtual 53, 3) := by decide +kernel
theorem d_KI_entryAheadOf_41 : decode c_KI_entryAheadOf 41 = .ok (.iconst 1, 1) := by decide +kernel
theorem d_KI_entryAheadOf_42 : decode c_KI_entryAheadOf 42 = .ok (.isub, 1) := by decide +kernel
theorem d_KI_entryAheadOf_43 : decode c_KI_entryAheadOf 43 = .ok (.invokevirtual 45, 3) := by decide +kernel
theorem d_KI_entryAheadOf_46 : decode c_KI_entryAheadOf 46 = .ok (.areturn, 1) := by decide +kernel
theorem d_KI_entryBehind_0 : decode c_KI_entryBehind 0 = .ok (.aload_n 1, 1) := by decide +kernel
theorem d_KI_entryBehind_1 : decode c_KI_entryBehind 1 = .ok (.getfield 90, 3) := by decide +kernel
theorem d_KI_entryBehind_4 : decode c_KI_entryBehind 4 = .ok (.ifCond .ne 9, 3) := by decide +kernel
theorem d_KI_entryBehind_7 : decode c_KI_entryBehind 7 = .ok (.aload_n 0, 1) := by decide +kernel
theorem d_KI_entryBehind_8 : decode c_KI_entryBehind 8 = .ok (.iconst 0, 1) := by decide +kernel
theorem d_KI_entryBehind_9 : decode c_KI_entryBehind 9 = .ok (.invokevirtual 45, 3) := by decide +kernel
theorem d_KI_entryBehind_12 : decode c_KI_entryBehind 12 = .ok (.areturn, 1) := by decide +kernel
theorem d_KI_entryBehind_13 : decode c_KI_entryBehind 13 = .ok (.aload_n 1, 1) := by decide +kernel
theorem d_KI_entryBehind_14 : decode c_KI_entryBehind 14 = .ok (.getfield 90, 3) := by decide +kernel
theorem d_KI_entryBehind_17 : decode c_KI_entryBehind 17 = .ok (.iconst 2, 1) := by decide +kernel
theorem d_KI_entryBehind_18 : decode c_KI_entryBehind 18 = .ok (.if_icmp .ne 10, 3) := by decide +kernel
theorem d_KI_entryBehind_21 : decode c_KI_entryBehind 21 = .ok (.aload_n 1, 1) := by decide +kernel
theorem d_KI_entryBehind_22 : decode c_KI_entryBehind 22 = .ok (.getfield 95, 3) := by decide +kernel
theorem d_KI_entryBehind_25 : decode c_KI_entryBehind 25 = .ok (.goto 9, 3) := by decide +kernel
theorem d_KI_entryBehind_28 : decode c_KI_entryBehind 28 = .ok (.aload_n 1, 1) := by decide +kernel
theorem d_KI_entryBehind_29 : decode c_KI_entryBehind 29 = .ok (.getfield 95, 3) := by decide +kernel
theorem d_KI_entryBehind_32 : decode c_KI_entryBehind 32 = .ok (.lconst 1, 1) := by decide +kernel
theorem d_KI_entryBehind_33 : decode c_KI_entryBehind 33 = .ok (.ladd, 1) := by decide +kernel
theorem d_KI_entryBehind_34 : decode c_KI_entryBehind 34 = .ok (.lstore_n 2, 1) := by decide +kernel
theorem d_KI_entryBehind_35 : decode c_KI_entryBehind 35 = .ok (.aload_n 0, 1) := by decide +kernel
theorem d_KI_entryBehind_36 : decode c_KI_entryBehind 36 = .ok (.aload_n 0, 1) := by decide +kernel
theorem d_KI_entryBehind_37 : decode c_KI_entryBehind 37 = .ok (.aload_n 1, 1) := by decide +kernel
theorem d_KI_entryBehind_38 : decode c_KI_entryBehind 38 = .ok (.getfield 98, 3) := by decide +kernel
theorem d_KI_entryBehind_41 : decode c_KI_entryBehind 41 = .ok (.lload_n 2, 1) := by decide +kernel
theorem d_KI_entryBehind_42 : decode c_KI_entryBehind 42 = .ok (.invokevirtual 53, 3) := by decide +kernel
theorem d_KI_entryBehind_45 : decode c_KI_entryBehind 45 = .ok (.invokevirtual 45, 3) := by decide +kernel
theorem d_KI_entryBehind_48 : decode c_KI_entryBehind 48 = .ok (.areturn, 1) := by decide +kernel
theorem d_KI_drop_0 : decode c_KI_drop 0 = .ok (.aload_n 0, 1) := by decide +kernel
theorem d_KI_drop_1 : decode c_KI_drop 1 = .ok (.lload_n 2, 1) := by decide +kernel
theorem d_KI_drop_2 : decode c_KI_drop 2 = .ok (.lconst 0, 1) := by decide +kernel
theorem d_KI_drop_3 : decode c_KI_drop 3 = .ok (.invokevirtual 53, 3) := by decide +kernel
theorem d_KI_drop_6 : decode c_KI_drop 6 = .ok (.istore 4, 2) := by decide +kernel
theorem d_KI_drop_8 : decode c_KI_drop 8 = .ok (.iload 4, 2) := by decide +kernel
theorem d_KI_drop_10 : decode c_KI_drop 10 = .ok (.aload_n 0, 1) := by decide +kernel
theorem d_KI_drop_11 : decode c_KI_drop 11 = .ok (.getfield 25, 3) := by decide +kernel
theorem d_KI_drop_14 : decode c_KI_drop 14 = .ok (.invokevirtual 36, 3) := by decide +kernel
theorem d_KI_drop_17 : decode c_KI_drop 17 = .ok (.if_icmp .ge 60, 3) := by decide +kernel
theorem d_KI_drop_20 : decode c_KI_drop 20 = .ok (.aload_n 0, 1) := by decide +kernel
theorem d_KI_drop_21 : decode c_KI_drop 21 = .ok (.getfield 25, 3) := by decide +kernel
theorem d_KI_drop_24 : decode c_KI_drop 24 = .ok (.iload 4, 2) := by decide +kernel
theorem d_KI_drop_26 : decode c_KI_drop 26 = .ok (.invokevirtual 39, 3) := by decide +kernel
theorem d_KI_drop_29 : decode c_KI_drop 29 = .ok (.checkcast 43, 3) := by decide +kernel
theorem d_KI_drop_32 : decode c_KI_drop 32 = .ok (.getfield 80, 3) := by decide +kernel
theorem d_KI_drop_35 : decode c_KI_drop 35 = .ok (.aload_n 1, 1) := by decide +kernel
theorem d_KI_drop_36 : decode c_KI_drop 36 = .ok (.if_acmp .ne 14, 3) := by decide +kernel
theorem d_KI_drop_39 : decode c_KI_drop 39 = .ok (.aload_n 0, 1) := by decide +kernel
theorem d_KI_drop_40 : decode c_KI_drop 40 = .ok (.getfield 25, 3) := by decide +kernel
theorem d_KI_drop_43 : decode c_KI_drop 43 = .ok (.iload 4, 2) := by decide +kernel
theorem d_KI_drop_45 : decode c_KI_drop 45 = .ok (.invokevirtual 84, 3) := by decide +kernel
theorem d_KI_drop_48 : decode c_KI_drop 48 = .ok (.pop, 1) := by decide +kernel
theorem d_KI_drop_49 : decode c_KI_drop 49 = .ok (.return_, 1) := by decide +kernel
theorem d_KI_drop_50 : decode c_KI_drop 50 = .ok (.aload_n 0, 1) := by decide +kernel
theorem d_KI_drop_51 : decode c_KI_drop 51 = .ok (.getfield 25, 3) := by decide +kernel
theorem d_KI_drop_54 : decode c_KI_drop 54 = .ok (.iload 4, 2) := by decide +kernel
theorem d_KI_drop_56 : decode c_KI_drop 56 = .ok (.invokevirtual 39, 3) := by decide +kernel
theorem d_KI_drop_59 : decode c_KI_drop 59 = .ok (.checkcast 43, 3) := by decide +kernel
theorem d_KI_drop_62 : decode c_KI_drop 62 = .ok (.getfield 57, 3) := by decide +kernel
theorem d_KI_drop_65 : decode c_KI_drop 65 = .ok (.lload_n 2, 1) := by decide +kernel
theorem d_KI_drop_66 : decode c_KI_drop 66 = .ok (.lcmp, 1) := by decide +kernel
theorem d_KI_drop_67 : decode c_KI_drop 67 = .ok (.ifCond .eq 4, 3) := by decide +kernel
theorem d_KI_drop_70 : decode c_KI_drop 70 = .ok (.return_, 1) := by decide +kernel
theorem d_KI_drop_71 : decode c_KI_drop 71 = .ok (.iinc 4 1, 3) := by decide +kernel
theorem d_KI_drop_74 : decode c_KI_drop 74 = .ok (.goto (-66), 3) := by decide +kernel
theorem d_KI_drop_77 : decode c_KI_drop 77 = .ok (.return_, 1) := by decide +kernel
theorem d_KI_isInOrder_0 : decode c_KI_isInOrder 0 = .ok (.aconst_null, 1) := by decide +kernel
theorem d_KI_isInOrder_1 : decode c_KI_isInOrder 1 = .ok (.astore_n 3, 1) := by decide +kernel
theorem d_KI_isInOrder_2 : decode c_KI_isInOrder 2 = .ok (.iconst 0, 1) := by decide +kernel
theorem d_KI_isInOrder_3 : decode c_KI_isInOrder 3 = .ok (.istore 4, 2) := by decide +kernel
theorem d_KI_isInOrder_5 : decode c_KI_isInOrder 5 = .ok (.iload 4, 2) := by decide +kernel
theorem d_KI_isInOrder_7 : decode c_KI_isInOrder 7 = .ok (.aload_n 0, 1) := by decide +kernel
theorem d_KI_isInOrder_8 : decode c_KI_isInOrder 8 = .ok (.getfield 25, 3) := by decide +kernel
theorem d_KI_isInOrder_11 : decode c_KI_isInOrder 11 = .ok (.invokevirtual 36, 3) := by decide +kernel
theorem d_KI_isInOrder_14 : decode c_KI_isInOrder 14 = .ok (.if_icmp .ge 107, 3) := by decide +kernel
theorem d_KI_isInOrder_17 : decode c_KI_isInOrder 17 = .ok (.aload_n 0, 1) := by decide +kernel
theorem d_KI_isInOrder_18 : decode c_KI_isInOrder 18 = .ok (.getfield 25, 3) := by decide +kernel
theorem d_KI_isInOrder_21 : decode c_KI_isInOrder 21 = .ok (.iload 4, 2) := by decide +kernel
theorem d_KI_isInOrder_23 : decode c_KI_isInOrder 23 = .ok (.invokevirtual 39, 3) := by decide +kernel
theorem d_KI_isInOrder_26 : decode c_KI_isInOrder 26 = .ok (.checkcast 43, 3) := by decide +kernel
theorem d_KI_isInOrder_29 : decode c_KI_isInOrder 29 = .ok (.astore 5, 2) := by decide +kernel
theorem d_KI_isInOrder_31 : decode c_KI_isInOrder 31 = .ok (.aload 5, 2) := by decide +kernel
theorem d_KI_isInOrder_33 : decode c_KI_isInOrder 33 = .ok (.getfield 80, 3) := by decide +kernel
theorem d_KI_isInOrder_36 : decode c_KI_isInOrder 36 = .ok (.astore 6, 2) := by decide +kernel
theorem d_KI_isInOrder_38 : decode c_KI_isInOrder 38 = .ok (.aload 6, 2) := by decide +kernel
theorem d_KI_isInOrder_40 : decode c_KI_isInOrder 40 = .ok (.getfield 112, 3) := by decide +kernel
theorem d_KI_isInOrder_43 : decode c_KI_isInOrder 43 = .ok (.ifCond .eq 13, 3) := by decide +kernel
theorem d_KI_isInOrder_46 : decode c_KI_isInOrder 46 = .ok (.aload 6, 2) := by decide +kernel
theorem d_KI_isInOrder_48 : decode c_KI_isInOrder 48 = .ok (.getfield 115, 3) := by decide +kernel
theorem d_KI_isInOrder_51 : decode c_KI_isInOrder 51 = .ok (.lload_n 1, 1) := by decide +kernel
theorem d_KI_isInOrder_52 : decode c_KI_isInOrder 52 = .ok (.lcmp, 1) := by decide +kernel
theorem d_KI_isInOrder_53 : decode c_KI_isInOrder 53 = .ok (.ifCond .ne 5, 3) := by decide +kernel
theorem d_KI_isInOrder_56 : decode c_KI_isInOrder 56 = .ok (.iconst 0, 1) := by decide +kernel
theorem d_KI_isInOrder_57 : decode c_KI_isInOrder 57 = .ok (.ireturn, 1) := by decide +kernel
theorem d_KI_isInOrder_58 : decode c_KI_isInOrder 58 = .ok (.aload 6, 2) := by decide +kernel
theorem d_KI_isInOrder_60 : decode c_KI_isInOrder 60 = .ok (.lload_n 1, 1) := by decide +kernel
theorem d_KI_isInOrder_61 : decode c_KI_isInOrder 61 = .ok (.putfield 115, 3) := by decide +kernel
theorem d_KI_isInOrder_64 : decode c_KI_isInOrder 64 = .ok (.aload 5, 2) := by decide +kernel
theorem d_KI_isInOrder_66 : decode c_KI_isInOrder 66 = .ok (.getfield 57, 3) := by decide +kernel
theorem d_KI_isInOrder_69 : decode c_KI_isInOrder 69 = .ok (.aload_n 0, 1) := by decide +kernel
theorem d_KI_isInOrder_70 : decode c_KI_isInOrder 70 = .ok (.aload 6, 2) := by decide +kernel
theorem d_KI_isInOrder_72 : decode c_KI_isInOrder 72 = .ok (.getfield 60, 3) := by decide +kernel
theorem d_KI_isInOrder_75 : decode c_KI_isInOrder 75 = .ok (.invokevirtual 65, 3) := by decide +kernel
theorem d_KI_isInOrder_78 : decode c_KI_isInOrder 78 = .ok (.lcmp, 1) := by decide +kernel
theorem d_KI_isInOrder_79 : decode c_KI_isInOrder 79 = .ok (.ifCond .ne 15, 3) := by decide +kernel
theorem d_KI_isInOrder_82 : decode c_KI_isInOrder 82 = .ok (.aload_n 0, 1) := by decide +kernel
theorem d_KI_isInOrder_83 : decode c_KI_isInOrder 83 = .ok (.aload 5, 2) := by decide +kernel
theorem d_KI_isInOrder_85 : decode c_KI_isInOrder 85 = .ok (.getfield 57, 3) := by decide +kernel
theorem d_KI_isInOrder_88 : decode c_KI_isInOrder 88 = .ok (.invokevirtual 69, 3) := by decide +kernel
theorem d_KI_isInOrder_91 : decode c_KI_isInOrder 91 = .ok (.ifCond .eq 5, 3) := by decide +kernel
theorem d_KI_isInOrder_94 : decode c_KI_isInOrder 94 = .ok (.iconst 0, 1) := by decide +kernel
theorem d_KI_isInOrder_95 : decode c_KI_isInOrder 95 = .ok (.ireturn, 1) := by decide +kernel
theorem d_KI_isInOrder_96 : decode c_KI_isInOrder 96 = .ok (.aload_n 3, 1) := by decide +kernel
theorem d_KI_isInOrder_97 : decode c_KI_isInOrder 97 = .ok (.ifnull 15, 3) := by decide +kernel
theorem d_KI_isInOrder_100 : decode c_KI_isInOrder 100 = .ok (.aload_n 0, 1) := by decide +kernel
theorem d_KI_isInOrder_101 : decode c_KI_isInOrder 101 = .ok (.aload_n 3, 1) := by decide +kernel
theorem d_KI_isInOrder_102 : decode c_KI_isInOrder 102 = .ok (.aload 5, 2) := by decide +kernel
theorem d_KI_isInOrder_104 : decode c_KI_isInOrder 104 = .ok (.invokevirtual 118, 3) := by decide +kernel
theorem d_KI_isInOrder_107 : decode c_KI_isInOrder 107 = .ok (.ifCond .ne 5, 3) := by decide +kernel
theorem d_KI_isInOrder_110 : decode c_KI_isInOrder 110 = .ok (.iconst 0, 1) := by decide +kernel
theorem d_KI_isInOrder_111 : decode c_KI_isInOrder 111 = .ok (.ireturn, 1) := by decide +kernel
theorem d_KI_isInOrder_112 : decode c_KI_isInOrder 112 = .ok (.aload 5, 2) := by decide +kernel
theorem d_KI_isInOrder_114 : decode c_KI_isInOrder 114 = .ok (.astore_n 3, 1) := by decide +kernel
theorem d_KI_isInOrder_115 : decode c_KI_isInOrder 115 = .ok (.iinc 4 1, 3) := by decide +kernel
theorem d_KI_isInOrder_118 : decode c_KI_isInOrder 118 = .ok (.goto (-113), 3) := by decide +kernel
theorem d_KI_isInOrder_121 : decode c_KI_isInOrder 121 = .ok (.iconst 1, 1) := by decide +kernel
theorem d_KI_isInOrder_122 : decode c_KI_isInOrder 122 = .ok (.ireturn, 1) := by decide +kernel
theorem d_KI_isRightlyAhead_0 : decode c_KI_isRightlyAhead 0 = .ok (.aload_n 1, 1) := by decide +kernel
theorem d_KI_isRightlyAhead_1 : decode c_KI_isRightlyAhead 1 = .ok (.aload_n 2, 1) := by decide +kernel
theorem d_KI_isRightlyAhead_2 : decode c_KI_isRightlyAhead 2 = .ok (.getfield 57, 3) := by decide +kernel
theorem d_KI_isRightlyAhead_5 : decode c_KI_isRightlyAhead 5 = .ok (.aload_n 2, 1) := by decide +kernel
theorem d_KI_isRightlyAhead_6 : decode c_KI_isRightlyAhead 6 = .ok (.getfield 87, 3) := by decide +kernel
theorem d_KI_isRightlyAhead_9 : decode c_KI_isRightlyAhead 9 = .ok (.invokevirtual 49, 3) := by decide +kernel
theorem d_KI_isRightlyAhead_12 : decode c_KI_isRightlyAhead 12 = .ok (.ifCond .eq 26, 3) := by decide +kernel
theorem d_KI_isRightlyAhead_15 : decode c_KI_isRightlyAhead 15 = .ok (.aload_n 0, 1) := by decide +kernel
theorem d_KI_isRightlyAhead_16 : decode c_KI_isRightlyAhead 16 = .ok (.getfield 9, 3) := by decide +kernel
theorem d_KI_isRightlyAhead_19 : decode c_KI_isRightlyAhead 19 = .ok (.ifCond .ne 15, 3) := by decide +kernel
theorem d_KI_isRightlyAhead_22 : decode c_KI_isRightlyAhead 22 = .ok (.aload_n 1, 1) := by decide +kernel
theorem d_KI_isRightlyAhead_23 : decode c_KI_isRightlyAhead 23 = .ok (.getfield 57, 3) := by decide +kernel
theorem d_KI_isRightlyAhead_26 : decode c_KI_isRightlyAhead 26 = .ok (.aload_n 2, 1) := by decide +kernel
theorem d_KI_isRightlyAhead_27 : decode c_KI_isRightlyAhead 27 = .ok (.getfield 57, 3) := by decide +kernel
theorem d_KI_isRightlyAhead_30 : decode c_KI_isRightlyAhead 30 = .ok (.lcmp, 1) := by decide +kernel
theorem d_KI_isRightlyAhead_31 : decode c_KI_isRightlyAhead 31 = .ok (.ifCond .eq 7, 3) := by decide +kernel
theorem d_KI_isRightlyAhead_34 : decode c_KI_isRightlyAhead 34 = .ok (.iconst 1, 1) := by decide +kernel
theorem d_KI_isRightlyAhead_35 : decode c_KI_isRightlyAhead 35 = .ok (.goto 4, 3) := by decide +kernel
theorem d_KI_isRightlyAhead_38 : decode c_KI_isRightlyAhead 38 = .ok (.iconst 0, 1) := by decide +kernel
theorem d_KI_isRightlyAhead_39 : decode c_KI_isRightlyAhead 39 = .ok (.ireturn, 1) := by decide +kernel
theorem d_KF_init_0 : decode c_KF_init 0 = .ok (.aload_n 0, 1) := by decide +kernel
theorem d_KF_init_1 : decode c_KF_init 1 = .ok (.invokespecial 1, 3) := by decide +kernel
theorem d_KF_init_4 : decode c_KF_init 4 = .ok (.aload_n 0, 1) := by decide +kernel
theorem d_KF_init_5 : decode c_KF_init 5 = .ok (.new 7, 3) := by decide +kernel
theorem d_KF_init_8 : decode c_KF_init 8 = .ok (.dup, 1) := by decide +kernel
theorem d_KF_init_9 : decode c_KF_init 9 = .ok (.invokespecial 9, 3) := by decide +kernel
theorem d_KF_init_12 : decode c_KF_init 12 = .ok (.putfield 10, 3) := by decide +kernel
theorem d_KF_init_15 : decode c_KF_init 15 = .ok (.aload_n 0, 1) := by decide +kernel
theorem d_KF_init_16 : decode c_KF_init 16 = .ok (.new 7, 3) := by decide +kernel
theorem d_KF_init_19 : decode c_KF_init 19 = .ok (.dup, 1) := by decide +kernel
theorem d_KF_init_20 : decode c_KF_init 20 = .ok (.invokespecial 9, 3) := by decide +kernel
theorem d_KF_init_23 : decode c_KF_init 23 = .ok (.putfield 16, 3) := by decide +kernel
theorem d_KF_init_26 : decode c_KF_init 26 = .ok (.return_, 1) := by decide +kernel
theorem d_KF_key_0 : decode c_KF_key 0 = .ok (.aload_n 0, 1) := by decide +kernel
theorem d_KF_key_1 : decode c_KF_key 1 = .ok (.getfield 10, 3) := by decide +kernel
theorem d_KF_key_4 : decode c_KF_key 4 = .ok (.invokevirtual 19, 3) := by decide +kernel
theorem d_KF_key_7 : decode c_KF_key 7 = .ok (.istore 5, 2) := by decide +kernel
theorem d_KF_key_9 : decode c_KF_key 9 = .ok (.aload_n 0, 1) := by decide +kernel
theorem d_KF_key_10 : decode c_KF_key 10 = .ok (.getfield 23, 3) := by decide +kernel
theorem d_KF_key_13 : decode c_KF_key 13 = .ok (.ifCond .ne 10, 3) := by decide +kernel
theorem d_KF_key_16 : decode c_KF_key 16 = .ok (.iload 5, 2) := by decide +kernel
theorem d_KF_key_18 : decode c_KF_key 18 = .ok (.bipush 6, 2) := by decide +kernel
theorem d_KF_key_20 : decode c_KF_key 20 = .ok (.if_icmp .lt 5, 3) := by decide +kernel
theorem d_KF_key_23 : decode c_KF_key 23 = .ok (.iconst (-1), 1) := by decide +kernel
theorem d_KF_key_24 : decode c_KF_key 24 = .ok (.ireturn, 1) := by decide +kernel
theorem d_KF_key_25 : decode c_KF_key 25 = .ok (.iload_n 1, 1) := by decide +kernel
theorem d_KF_key_26 : decode c_KF_key 26 = .ok (.iload 5, 2) := by decide +kernel
theorem d_KF_key_28 : decode c_KF_key 28 = .ok (.ifCond .ne 7, 3) := by decide +kernel
theorem d_KF_key_31 : decode c_KF_key 31 = .ok (.iconst 1, 1) := by decide +kernel
theorem d_KF_key_32 : decode c_KF_key 32 = .ok (.goto 4, 3) := by decide +kernel
theorem d_KF_key_35 : decode c_KF_key 35 = .ok (.iconst 0, 1) := by decide +kernel
theorem d_KF_key_36 : decode c_KF_key 36 = .ok (.if_icmp .ne 11, 3) := by decide +kernel
theorem d_KF_key_39 : decode c_KF_key 39 = .ok (.iload_n 1, 1) := by decide +kernel
theorem d_KF_key_40 : decode c_KF_key 40 = .ok (.ifCond .eq 9, 3) := by decide +kernel
theorem d_KF_key_43 : decode c_KF_key 43 = .ok (.iload_n 2, 1) := by decide +kernel
theorem d_KF_key_44 : decode c_KF_key 44 = .ok (.ifCond .eq 5, 3) := by decide +kernel
theorem d_KF_key_47 : decode c_KF_key 47 = .ok (.iconst (-1), 1) := by decide +kernel
theorem d_KF_key_48 : decode c_KF_key 48 = .ok (.ireturn, 1) := by decide +kernel
theorem d_KF_key_49 : decode c_KF_key 49 = .ok (.iload 4, 2) := by decide +kernel
theorem d_KF_key_51 : decode c_KF_key 51 = .ok (.iconst 1, 1) := by decide +kernel
theorem d_KF_key_52 : decode c_KF_key 52 = .ok (.if_icmp .lt 23, 3) := by decide +kernel
theorem d_KF_key_55 : decode c_KF_key 55 = .ok (.iload 4, 2) := by decide +kernel
theorem d_KF_key_57 : decode c_KF_key 57 = .ok (.bipush 8, 2) := by decide +kernel
theorem d_KF_key_59 : decode c_KF_key 59 = .ok (.if_icmp .gt 16, 3) := by decide +kernel
theorem d_KF_key_62 : decode c_KF_key 62 = .ok (.iload_n 3, 1) := by decide +kernel
theorem d_KF_key_63 : decode c_KF_key 63 = .ok (.ifCond .lt 12, 3) := by decide +kernel
theorem d_KF_key_66 : decode c_KF_key 66 = .ok (.iload_n 3, 1) := by decide +kernel
theorem d_KF_key_67 : decode c_KF_key 67 = .ok (.bipush 8, 2) := by decide +kernel
theorem d_KF_key_69 : decode c_KF_key 69 = .ok (.iload 4, 2) := by decide +kernel
theorem d_KF_key_71 : decode c_KF_key 71 = .ok (.isub, 1) := by decide +kernel
theorem d_KF_key_72 : decode c_KF_key 72 = .ok (.if_icmp .le 5, 3) := by decide +kernel
theorem d_KF_key_75 : decode c_KF_key 75 = .ok (.iconst (-1), 1) := by decide +kernel
theorem d_KF_key_76 : decode c_KF_key 76 = .ok (.ireturn, 1) := by decide +kernel
theorem d_KF_key_77 : decode c_KF_key 77 = .ok (.aload_n 0, 1) := by decide +kernel
theorem d_KF_key_78 : decode c_KF_key 78 = .ok (.getfield 10, 3) := by decide +kernel
theorem d_KF_key_81 : decode c_KF_key 81 = .ok (.new 27, 3) := by decide +kernel
theorem d_KF_key_84 : decode c_KF_key 84 = .ok (.dup, 1) := by decide +kernel
theorem d_KF_key_85 : decode c_KF_key 85 = .ok (.iload_n 2, 1) := by decide +kernel
theorem d_KF_key_86 : decode c_KF_key 86 = .ok (.iload_n 3, 1) := by decide +kernel
theorem d_KF_key_87 : decode c_KF_key 87 = .ok (.iload 4, 2) := by decide +kernel
theorem d_KF_key_89 : decode c_KF_key 89 = .ok (.invokespecial 29, 3) := by decide +kernel
theorem d_KF_key_92 : decode c_KF_key 92 = .ok (.invokevirtual 32, 3) := by decide +kernel
theorem d_KF_key_95 : decode c_KF_key 95 = .ok (.pop, 1) := by decide +kernel
theorem d_KF_key_96 : decode c_KF_key 96 = .ok (.iload 5, 2) := by decide +kernel
theorem d_KF_key_98 : decode c_KF_key 98 = .ok (.ireturn, 1) := by decide +kernel
theorem d_KF_sparse_0 : decode c_KF_sparse 0 = .ok (.aload_n 0, 1) := by decide +kernel
theorem d_KF_sparse_1 : decode c_KF_sparse 1 = .ok (.iload_n 1, 1) := by decide +kernel
theorem d_KF_sparse_2 : decode c_KF_sparse 2 = .ok (.invokevirtual 36, 3) := by decide +kernel
theorem d_KF_sparse_5 : decode c_KF_sparse 5 = .ok (.astore 4, 2) := by decide +kernel
theorem d_KF_sparse_7 : decode c_KF_sparse 7 = .ok (.aload 4, 2) := by decide +kernel
theorem d_KF_sparse_9 : decode c_KF_sparse 9 = .ok (.ifnull 14, 3) := by decide +kernel
theorem d_KF_sparse_12 : decode c_KF_sparse 12 = .ok (.iload_n 1, 1) := by decide +kernel
theorem d_KF_sparse_13 : decode c_KF_sparse 13 = .ok (.ifCond .eq 10, 3) := by decide +kernel
theorem d_KF_sparse_16 : decode c_KF_sparse 16 = .ok (.aload_n 0, 1) := by decide +kernel
theorem d_KF_sparse_17 : decode c_KF_sparse 17 = .ok (.getfield 23, 3) := by decide +kernel
theorem d_KF_sparse_20 : decode c_KF_sparse 20 = .ok (.ifCond .eq 5, 3) := by decide +kernel
theorem d_KF_sparse_23 : decode c_KF_sparse 23 = .ok (.iconst (-1), 1) := by decide +kernel
theorem d_KF_sparse_24 : decode c_KF_sparse 24 = .ok (.ireturn, 1) := by decide +kernel
theorem d_KF_sparse_25 : decode c_KF_sparse 25 = .ok (.aload 4, 2) := by decide +kernel
theorem d_KF_sparse_27 : decode c_KF_sparse 27 = .ok (.lload_n 2, 1) := by decide +kernel
theorem d_KF_sparse_28 : decode c_KF_sparse 28 = .ok (.invokevirtual 40, 3) := by decide +kernel
theorem d_KF_sparse_31 : decode c_KF_sparse 31 = .ok (.iconst 1, 1) := by decide +kernel
theorem d_KF_sparse_32 : decode c_KF_sparse 32 = .ok (.ireturn, 1) := by decide +kernel
theorem d_KF_indexAt_0 : decode c_KF_indexAt 0 = .ok (.iload_n 1, 1) := by decide +kernel
theorem d_KF_indexAt_1 : decode c_KF_indexAt 1 = .ok (.ifCond .lt 28, 3) := by decide +kernel
theorem d_KF_indexAt_4 : decode c_KF_indexAt 4 = .ok (.iload_n 1, 1) := by decide +kernel
theorem d_KF_indexAt_5 : decode c_KF_indexAt 5 = .ok (.aload_n 0, 1) := by decide +kernel
theorem d_KF_indexAt_6 : decode c_KF_indexAt 6 = .ok (.getfield 10, 3) := by decide +kernel
theorem d_KF_indexAt_9 : decode c_KF_indexAt 9 = .ok (.invokevirtual 19, 3) := by decide +kernel
theorem d_KF_indexAt_12 : decode c_KF_indexAt 12 = .ok (.if_icmp .ge 17, 3) := by decide +kernel
theorem d_KF_indexAt_15 : decode c_KF_indexAt 15 = .ok (.aload_n 0, 1) := by decide +kernel
theorem d_KF_indexAt_16 : decode c_KF_indexAt 16 = .ok (.getfield 10, 3) := by decide +kernel
theorem d_KF_indexAt_19 : decode c_KF_indexAt 19 = .ok (.iload_n 1, 1) := by decide +kernel
theorem d_KF_indexAt_20 : decode c_KF_indexAt 20 = .ok (.invokevirtual 177, 3) := by decide +kernel
theorem d_KF_indexAt_23 : decode c_KF_indexAt 23 = .ok (.checkcast 27, 3) := by decide +kernel
theorem d_KF_indexAt_26 : decode c_KF_indexAt 26 = .ok (.goto 4, 3) := by decide +kernel
theorem d_KF_indexAt_29 : decode c_KF_indexAt 29 = .ok (.aconst_null, 1) := by decide +kernel
theorem d_KF_indexAt_30 : decode c_KF_indexAt 30 = .ok (.areturn, 1) := by decide +kernel
theorem d_KF_view_0 : decode c_KF_view 0 = .ok (.aload_n 0, 1) := by decide +kernel
theorem d_KF_view_1 : decode c_KF_view 1 = .ok (.getfield 16, 3) := by decide +kernel
theorem d_KF_view_4 : decode c_KF_view 4 = .ok (.invokevirtual 19, 3) := by decide +kernel
theorem d_KF_view_7 : decode c_KF_view 7 = .ok (.istore_n 1, 1) := by decide +kernel
theorem d_KF_view_8 : decode c_KF_view 8 = .ok (.iload_n 1, 1) := by decide +kernel
theorem d_KF_view_9 : decode c_KF_view 9 = .ok (.iconst 5, 1) := by decide +kernel
theorem d_KF_view_10 : decode c_KF_view 10 = .ok (.if_icmp .ge 13, 3) := by decide +kernel
theorem d_KF_view_13 : decode c_KF_view 13 = .ok (.aload_n 0, 1) := by decide +kernel
theorem d_KF_view_14 : decode c_KF_view 14 = .ok (.getfield 10, 3) := by decide +kernel
theorem d_KF_view_17 : decode c_KF_view 17 = .ok (.invokevirtual 44, 3) := by decide +kernel
theorem d_KF_view_20 : decode c_KF_view 20 = .ok (.ifCond .eq 5, 3) := by decide +kernel
theorem d_KF_view_23 : decode c_KF_view 23 = .ok (.iconst (-1), 1) := by decide +kernel
theorem d_KF_view_24 : decode c_KF_view 24 = .ok (.ireturn, 1) := by decide +kernel
theorem d_KF_view_25 : decode c_KF_view 25 = .ok (.aload_n 0, 1) := by decide +kernel
theorem d_KF_view_26 : decode c_KF_view 26 = .ok (.getfield 16, 3) := by decide +kernel
theorem d_KF_view_29 : decode c_KF_view 29 = .ok (.new 48, 3) := by decide +kernel
theorem d_KF_view_32 : decode c_KF_view 32 = .ok (.dup, 1) := by decide +kernel
theorem d_KF_view_33 : decode c_KF_view 33 = .ok (.invokespecial 50, 3) := by decide +kernel
theorem d_KF_view_36 : decode c_KF_view 36 = .ok (.invokevirtual 32, 3) := by decide +kernel
theorem d_KF_view_39 : decode c_KF_view 39 = .ok (.pop, 1) := by decide +kernel
theorem d_KF_view_40 : decode c_KF_view 40 = .ok (.iload_n 1, 1) := by decide +kernel
theorem d_KF_view_41 : decode c_KF_view 41 = .ok (.ireturn, 1) := by decide +kernel
theorem d_KF_open_0 : decode c_KF_open 0 = .ok (.aload_n 0, 1) := by decide +kernel
theorem d_KF_open_1 : decode c_KF_open 1 = .ok (.iload_n 1, 1) := by decide +kernel
theorem d_KF_open_2 : decode c_KF_open 2 = .ok (.invokevirtual 51, 3) := by decide +kernel
theorem d_KF_open_5 : decode c_KF_open 5 = .ok (.astore 4, 2) := by decide +kernel
theorem d_KF_open_7 : decode c_KF_open 7 = .ok (.aload 4, 2) := by decide +kernel
theorem d_KF_open_9 : decode c_KF_open 9 = .ok (.ifnull 21, 3) := by decide +kernel
theorem d_KF_open_12 : decode c_KF_open 12 = .ok (.iload_n 2, 1) := by decide +kernel
theorem d_KF_open_13 : decode c_KF_open 13 = .ok (.ifCond .lt 17, 3) := by decide +kernel
theorem d_KF_open_16 : decode c_KF_open 16 = .ok (.iload_n 2, 1) := by decide +kernel
theorem d_KF_open_17 : decode c_KF_open 17 = .ok (.iconst 3, 1) := by decide +kernel
theorem d_KF_open_18 : decode c_KF_open 18 = .ok (.if_icmp .gt 12, 3) := by decide +kernel
theorem d_KF_open_21 : decode c_KF_open 21 = .ok (.iload_n 3, 1) := by decide +kernel
theorem d_KF_open_22 : decode c_KF_open 22 = .ok (.ifCond .lt 8, 3) := by decide +kernel
theorem d_KF_open_25 : decode c_KF_open 25 = .ok (.iload_n 3, 1) := by decide +kernel
theorem d_KF_open_26 : decode c_KF_open 26 = .ok (.iconst 2, 1) := by decide +kernel
theorem d_KF_open_27 : decode c_KF_open 27 = .ok (.if_icmp .le 5, 3) := by decide +kernel
theorem d_KF_open_30 : decode c_KF_open 30 = .ok (.iconst (-1), 1) := by decide +kernel
theorem d_KF_open_31 : decode c_KF_open 31 = .ok (.ireturn, 1) := by decide +kernel
theorem d_KF_open_32 : decode c_KF_open 32 = .ok (.aload 4, 2) := by decide +kernel
theorem d_KF_open_34 : decode c_KF_open 34 = .ok (.getfield 55, 3) := by decide +kernel
theorem d_KF_open_37 : decode c_KF_open 37 = .ok (.ifCond .eq 6, 3) := by decide +kernel
theorem d_KF_open_40 : decode c_KF_open 40 = .ok (.bipush 41, 2) := by decide +kernel
theorem d_KF_open_42 : decode c_KF_open 42 = .ok (.ireturn, 1) := by decide +kernel
theorem d_KF_open_43 : decode c_KF_open 43 = .ok (.aload_n 0, 1) := by decide +kernel
theorem d_KF_open_44 : decode c_KF_open 44 = .ok (.iconst 1, 1) := by decide +kernel
theorem d_KF_open_45 : decode c_KF_open 45 = .ok (.putfield 23, 3) := by decide +kernel
theorem d_KF_open_48 : decode c_KF_open 48 = .ok (.iload_n 2, 1) := by decide +kernel
theorem d_KF_open_49 : decode c_KF_open 49 = .ok (.iconst 1, 1) := by decide +kernel
theorem d_KF_open_50 : decode c_KF_open 50 = .ok (.if_icmp .ne 7, 3) := by decide +kernel
theorem d_KF_open_53 : decode c_KF_open 53 = .ok (.aload_n 0, 1) := by decide +kernel
theorem d_KF_open_54 : decode c_KF_open 54 = .ok (.invokevirtual 58, 3) := by decide +kernel
theorem d_KF_open_57 : decode c_KF_open 57 = .ok (.aload 4, 2) := by decide +kernel
theorem d_KF_open_59 : decode c_KF_open 59 = .ok (.iload_n 2, 1) := by decide +kernel
theorem d_KF_open_60 : decode c_KF_open 60 = .ok (.iload_n 3, 1) := by decide +kernel
theorem d_KF_open_61 : decode c_KF_open 61 = .ok (.invokevirtual 61, 3) := by decide +kernel
theorem d_KF_open_64 : decode c_KF_open 64 = .ok (.iconst 0, 1) := by decide +kernel
theorem d_KF_open_65 : decode c_KF_open 65 = .ok (.ireturn, 1) := by decide +kernel
theorem d_KF_viewAt_0 : decode c_KF_viewAt 0 = .ok (.iload_n 1, 1) := by decide +kernel
theorem d_KF_viewAt_1 : decode c_KF_viewAt 1 = .ok (.ifCond .lt 28, 3) := by decide +kernel
theorem d_KF_viewAt_4 : decode c_KF_viewAt 4 = .ok (.iload_n 1, 1) := by decide +kernel
theorem d_KF_viewAt_5 : decode c_KF_viewAt 5 = .ok (.aload_n 0, 1) := by decide +kernel
theorem d_KF_viewAt_6 : decode c_KF_viewAt 6 = .ok (.getfield 16, 3) := by decide +kernel
theorem d_KF_viewAt_9 : decode c_KF_viewAt 9 = .ok (.invokevirtual 19, 3) := by decide +kernel
theorem d_KF_viewAt_12 : decode c_KF_viewAt 12 = .ok (.if_icmp .ge 17, 3) := by decide +kernel
theorem d_KF_viewAt_15 : decode c_KF_viewAt 15 = .ok (.aload_n 0, 1) := by decide +kernel
theorem d_KF_viewAt_16 : decode c_KF_viewAt 16 = .ok (.getfield 16, 3) := by decide +kernel
theorem d_KF_viewAt_19 : decode c_KF_viewAt 19 = .ok (.iload_n 1, 1) := by decide +kernel
theorem d_KF_viewAt_20 : decode c_KF_viewAt 20 = .ok (.invokevirtual 177, 3) := by decide +kernel
theorem d_KF_viewAt_23 : decode c_KF_viewAt 23 = .ok (.checkcast 48, 3) := by decide +kernel
theorem d_KF_viewAt_26 : decode c_KF_viewAt 26 = .ok (.goto 4, 3) := by decide +kernel
theorem d_KF_viewAt_29 : decode c_KF_viewAt 29 = .ok (.aconst_null, 1) := by decide +kernel
theorem d_KF_viewAt_30 : decode c_KF_viewAt 30 = .ok (.areturn, 1) := by decide +kernel
theorem d_KF_dropAllRecords_0 : decode c_KF_dropAllRecords 0 = .ok (.iconst 0, 1) := by decide +kernel
theorem d_KF_dropAllRecords_1 : decode c_KF_dropAllRecords 1 = .ok (.istore_n 1, 1) := by decide +kernel
theorem d_KF_dropAllRecords_2 : decode c_KF_dropAllRecords 2 = .ok (.iload_n 1, 1) := by decide +kernel
theorem d_KF_dropAllRecords_3 : decode c_KF_dropAllRecords 3 = .ok (.aload_n 0, 1) := by decide +kernel
theorem d_KF_dropAllRecords_4 : decode c_KF_dropAllRecords 4 = .ok (.getfield 10, 3) := by decide +kernel
theorem d_KF_dropAllRecords_7 : decode c_KF_dropAllRecords 7 = .ok (.invokevirtual 19, 3) := by decide +kernel
theorem d_KF_dropAllRecords_10 : decode c_KF_dropAllRecords 10 = .ok (.if_icmp .ge 26, 3) := by decide +kernel
theorem d_KF_dropAllRecords_13 : decode c_KF_dropAllRecords 13 = .ok (.aload_n 0, 1) := by decide +kernel
theorem d_KF_dropAllRecords_14 : decode c_KF_dropAllRecords 14 = .ok (.getfield 10, 3) := by decide +kernel
theorem d_KF_dropAllRecords_17 : decode c_KF_dropAllRecords 17 = .ok (.iload_n 1, 1) := by decide +kernel
theorem d_KF_dropAllRecords_18 : decode c_KF_dropAllRecords 18 = .ok (.invokevirtual 177, 3) := by decide +kernel
theorem d_KF_dropAllRecords_21 : decode c_KF_dropAllRecords 21 = .ok (.checkcast 27, 3) := by decide +kernel
theorem d_KF_dropAllRecords_24 : decode c_KF_dropAllRecords 24 = .ok (.getfield 188, 3) := by decide +kernel
theorem d_KF_dropAllRecords_27 : decode c_KF_dropAllRecords 27 = .ok (.invokevirtual 235, 3) := by decide +kernel
theorem d_KF_dropAllRecords_30 : decode c_KF_dropAllRecords 30 = .ok (.iinc 1 1, 3) := by decide +kernel
theorem d_KF_dropAllRecords_33 : decode c_KF_dropAllRecords 33 = .ok (.goto (-31), 3) := by decide +kernel
theorem d_KF_dropAllRecords_36 : decode c_KF_dropAllRecords 36 = .ok (.iconst 0, 1) := by decide +kernel
theorem d_KF_dropAllRecords_37 : decode c_KF_dropAllRecords 37 = .ok (.istore_n 1, 1) := by decide +kernel
theorem d_KF_dropAllRecords_38 : decode c_KF_dropAllRecords 38 = .ok (.iload_n 1, 1) := by decide +kernel
theorem d_KF_dropAllRecords_39 : decode c_KF_dropAllRecords 39 = .ok (.aload_n 0, 1) := by decide +kernel
theorem d_KF_dropAllRecords_40 : decode c_KF_dropAllRecords 40 = .ok (.getfield 16, 3) := by decide +kernel
theorem d_KF_dropAllRecords_43 : decode c_KF_dropAllRecords 43 = .ok (.invokevirtual 19, 3) := by decide +kernel
theorem d_KF_dropAllRecords_46 : decode c_KF_dropAllRecords 46 = .ok (.if_icmp .ge 37, 3) := by decide +kernel
theorem d_KF_dropAllRecords_49 : decode c_KF_dropAllRecords 49 = .ok (.aload_n 0, 1) := by decide +kernel
theorem d_KF_dropAllRecords_50 : decode c_KF_dropAllRecords 50 = .ok (.getfield 16, 3) := by decide +kernel
theorem d_KF_dropAllRecords_53 : decode c_KF_dropAllRecords 53 = .ok (.iload_n 1, 1) := by decide +kernel
theorem d_KF_dropAllRecords_54 : decode c_KF_dropAllRecords 54 = .ok (.invokevirtual 177, 3) := by decide +kernel
theorem d_KF_dropAllRecords_57 : decode c_KF_dropAllRecords 57 = .ok (.checkcast 48, 3) := by decide +kernel
theorem d_KF_dropAllRecords_60 : decode c_KF_dropAllRecords 60 = .ok (.invokevirtual 65, 3) := by decide +kernel
theorem d_KF_dropAllRecords_63 : decode c_KF_dropAllRecords 63 = .ok (.aload_n 0, 1) := by decide +kernel
theorem d_KF_dropAllRecords_64 : decode c_KF_dropAllRecords 64 = .ok (.getfield 16, 3) := by decide +kernel
theorem d_KF_dropAllRecords_67 : decode c_KF_dropAllRecords 67 = .ok (.iload_n 1, 1) := by decide +kernel
theorem d_KF_dropAllRecords_68 : decode c_KF_dropAllRecords 68 = .ok (.invokevirtual 177, 3) := by decide +kernel
theorem d_KF_dropAllRecords_71 : decode c_KF_dropAllRecords 71 = .ok (.checkcast 48, 3) := by decide +kernel
theorem d_KF_dropAllRecords_74 : decode c_KF_dropAllRecords 74 = .ok (.invokevirtual 112, 3) := by decide +kernel
theorem d_KF_dropAllRecords_77 : decode c_KF_dropAllRecords 77 = .ok (.iinc 1 1, 3) := by decide +kernel
theorem d_KF_dropAllRecords_80 : decode c_KF_dropAllRecords 80 = .ok (.goto (-42), 3) := by decide +kernel
theorem d_KF_dropAllRecords_83 : decode c_KF_dropAllRecords 83 = .ok (.return_, 1) := by decide +kernel
theorem d_KF_close_0 : decode c_KF_close 0 = .ok (.aload_n 0, 1) := by decide +kernel
theorem d_KF_close_1 : decode c_KF_close 1 = .ok (.iload_n 1, 1) := by decide +kernel
theorem d_KF_close_2 : decode c_KF_close 2 = .ok (.invokevirtual 51, 3) := by decide +kernel
theorem d_KF_close_5 : decode c_KF_close 5 = .ok (.astore_n 2, 1) := by decide +kernel
theorem d_KF_close_6 : decode c_KF_close 6 = .ok (.aload_n 2, 1) := by decide +kernel
theorem d_KF_close_7 : decode c_KF_close 7 = .ok (.ifnonnull 5, 3) := by decide +kernel
theorem d_KF_close_10 : decode c_KF_close 10 = .ok (.iconst (-1), 1) := by decide +kernel
theorem d_KF_close_11 : decode c_KF_close 11 = .ok (.ireturn, 1) := by decide +kernel
theorem d_KF_close_12 : decode c_KF_close 12 = .ok (.aload_n 2, 1) := by decide +kernel
theorem d_KF_close_13 : decode c_KF_close 13 = .ok (.getfield 55, 3) := by decide +kernel
theorem d_KF_close_16 : decode c_KF_close 16 = .ok (.ifCond .ne 6, 3) := by decide +kernel
theorem d_KF_close_19 : decode c_KF_close 19 = .ok (.bipush 42, 2) := by decide +kernel
theorem d_KF_close_21 : decode c_KF_close 21 = .ok (.ireturn, 1) := by decide +kernel
theorem d_KF_close_22 : decode c_KF_close 22 = .ok (.aload_n 2, 1) := by decide +kernel
theorem d_KF_close_23 : decode c_KF_close 23 = .ok (.invokevirtual 65, 3) := by decide +kernel
theorem d_KF_close_26 : decode c_KF_close 26 = .ok (.aload_n 2, 1) := by decide +kernel
theorem d_KF_close_27 : decode c_KF_close 27 = .ok (.iconst 0, 1) := by decide +kernel
theorem d_KF_close_28 : decode c_KF_close 28 = .ok (.putfield 55, 3) := by decide +kernel
theorem d_KF_close_31 : decode c_KF_close 31 = .ok (.iconst 0, 1) := by decide +kernel
theorem d_KF_close_32 : decode c_KF_close 32 = .ok (.ireturn, 1) := by decide +kernel
theorem d_KF_write_0 : decode c_KF_write 0 = .ok (.aload_n 0, 1) := by decide +kernel
theorem d_KF_write_1 : decode c_KF_write 1 = .ok (.iload_n 1, 1) := by decide +kernel
theorem d_KF_write_2 : decode c_KF_write 2 = .ok (.invokevirtual 51, 3) := by decide +kernel
theorem d_KF_write_5 : decode c_KF_write 5 = .ok (.astore 4, 2) := by decide +kernel
theorem d_KF_write_7 : decode c_KF_write 7 = .ok (.aload 4, 2) := by decide +kernel
theorem d_KF_write_9 : decode c_KF_write 9 = .ok (.ifnonnull 5, 3) := by decide +kernel
theorem d_KF_write_12 : decode c_KF_write 12 = .ok (.iconst (-1), 1) := by decide +kernel
theorem d_KF_write_13 : decode c_KF_write 13 = .ok (.ireturn, 1) := by decide +kernel
theorem d_KF_write_14 : decode c_KF_write 14 = .ok (.aload 4, 2) := by decide +kernel
theorem d_KF_write_16 : decode c_KF_write 16 = .ok (.invokevirtual 68, 3) := by decide +kernel
theorem d_KF_write_19 : decode c_KF_write 19 = .ok (.istore 5, 2) := by decide +kernel
theorem d_KF_write_21 : decode c_KF_write 21 = .ok (.iload 5, 2) := by decide +kernel
theorem d_KF_write_23 : decode c_KF_write 23 = .ok (.ifCond .eq 6, 3) := by decide +kernel
theorem d_KF_write_26 : decode c_KF_write 26 = .ok (.iload 5, 2) := by decide +kernel
theorem d_KF_write_28 : decode c_KF_write 28 = .ok (.ireturn, 1) := by decide +kernel
theorem d_KF_write_29 : decode c_KF_write 29 = .ok (.aload 4, 2) := by decide +kernel
theorem d_KF_write_31 : decode c_KF_write 31 = .ok (.invokevirtual 65, 3) := by decide +kernel
theorem d_KF_write_34 : decode c_KF_write 34 = .ok (.aload 4, 2) := by decide +kernel
theorem d_KF_write_36 : decode c_KF_write 36 = .ok (.getfield 71, 3) := by decide +kernel
theorem d_KF_write_39 : decode c_KF_write 39 = .ok (.ifCond .ne 16, 3) := by decide +kernel
theorem d_KF_write_42 : decode c_KF_write 42 = .ok (.aload_n 0, 1) := by decide +kernel
theorem d_KF_write_43 : decode c_KF_write 43 = .ok (.aload 4, 2) := by decide +kernel
theorem d_KF_write_45 : decode c_KF_write 45 = .ok (.lload_n 2, 1) := by decide +kernel
theorem d_KF_write_46 : decode c_KF_write 46 = .ok (.invokevirtual 75, 3) := by decide +kernel
theorem d_KF_write_49 : decode c_KF_write 49 = .ok (.ifCond .eq 6, 3) := by decide +kernel
theorem d_KF_write_52 : decode c_KF_write 52 = .ok (.bipush 21, 2) := by decide +kernel
theorem d_KF_write_54 : decode c_KF_write 54 = .ok (.ireturn, 1) := by decide +kernel
theorem d_KF_write_55 : decode c_KF_write 55 = .ok (.aload_n 0, 1) := by decide +kernel
theorem d_KF_write_56 : decode c_KF_write 56 = .ok (.lload_n 2, 1) := by decide +kernel
theorem d_KF_write_57 : decode c_KF_write 57 = .ok (.aconst_null, 1) := by decide +kernel
theorem d_KF_write_58 : decode c_KF_write 58 = .ok (.invokevirtual 79, 3) := by decide +kernel
theorem d_KF_write_61 : decode c_KF_write 61 = .ok (.ifCond .eq 6, 3) := by decide +kernel
theorem d_KF_write_64 : decode c_KF_write 64 = .ok (.bipush 22, 2) := by decide +kernel
theorem d_KF_write_66 : decode c_KF_write 66 = .ok (.ireturn, 1) := by decide +kernel
theorem d_KF_write_67 : decode c_KF_write 67 = .ok (.aload_n 0, 1) := by decide +kernel
theorem d_KF_write_68 : decode c_KF_write 68 = .ok (.iconst 0, 1) := by decide +kernel
theorem d_KF_write_69 : decode c_KF_write 69 = .ok (.invokevirtual 83, 3) := by decide +kernel
theorem d_KF_write_72 : decode c_KF_write 72 = .ok (.sipush 300, 3) := by decide +kernel
theorem d_KF_write_75 : decode c_KF_write 75 = .ok (.if_icmp .lt 6, 3) := by decide +kernel
theorem d_KF_write_78 : decode c_KF_write 78 = .ok (.bipush 24, 2) := by decide +kernel
theorem d_KF_write_80 : decode c_KF_write 80 = .ok (.ireturn, 1) := by decide +kernel
theorem d_KF_write_81 : decode c_KF_write 81 = .ok (.aload 4, 2) := by decide +kernel
theorem d_KF_write_83 : decode c_KF_write 83 = .ok (.aload_n 0, 1) := by decide +kernel
theorem d_KF_write_84 : decode c_KF_write 84 = .ok (.iconst 0, 1) := by decide +kernel
theorem d_KF_write_85 : decode c_KF_write 85 = .ok (.lload_n 2, 1) := by decide +kernel
theorem d_KF_write_86 : decode c_KF_write 86 = .ok (.invokevirtual 87, 3) := by decide +kernel
theorem d_KF_write_89 : decode c_KF_write 89 = .ok (.invokevirtual 91, 3) := by decide +kernel
theorem d_KF_write_92 : decode c_KF_write 92 = .ok (.aload_n 0, 1) := by decide +kernel
theorem d_KF_write_93 : decode c_KF_write 93 = .ok (.new 94, 3) := by decide +kernel
theorem d_KF_write_96 : decode c_KF_write 96 = .ok (.dup, 1) := by decide +kernel
theorem d_KF_write_97 : decode c_KF_write 97 = .ok (.lload_n 2, 1) := by decide +kernel
theorem d_KF_write_98 : decode c_KF_write 98 = .ok (.invokespecial 96, 3) := by decide +kernel
theorem d_KF_write_101 : decode c_KF_write 101 = .ok (.invokevirtual 98, 3) := by decide +kernel
theorem d_KF_write_104 : decode c_KF_write 104 = .ok (.ifCond .eq 7, 3) := by decide +kernel
theorem d_KF_write_107 : decode c_KF_write 107 = .ok (.iconst 2, 1) := by decide +kernel
theorem d_KF_write_108 : decode c_KF_write 108 = .ok (.goto 4, 3) := by decide +kernel
theorem d_KF_write_111 : decode c_KF_write 111 = .ok (.iconst 0, 1) := by decide +kernel
theorem d_KF_write_112 : decode c_KF_write 112 = .ok (.ireturn, 1) := by decide +kernel
theorem d_KF_isOutOfOrder_0 : decode c_KF_isOutOfOrder 0 = .ok (.aload_n 0, 1) := by decide +kernel
theorem d_KF_isOutOfOrder_1 : decode c_KF_isOutOfOrder 1 = .ok (.iconst 0, 1) := by decide +kernel
theorem d_KF_isOutOfOrder_2 : decode c_KF_isOutOfOrder 2 = .ok (.lload_n 2, 1) := by decide +kernel
theorem d_KF_isOutOfOrder_3 : decode c_KF_isOutOfOrder 3 = .ok (.invokevirtual 87, 3) := by decide +kernel
theorem d_KF_isOutOfOrder_6 : decode c_KF_isOutOfOrder 6 = .ok (.lstore 4, 2) := by decide +kernel
theorem d_KF_isOutOfOrder_8 : decode c_KF_isOutOfOrder 8 = .ok (.aload_n 1, 1) := by decide +kernel
theorem d_KF_isOutOfOrder_9 : decode c_KF_isOutOfOrder 9 = .ok (.getfield 199, 3) := by decide +kernel
theorem d_KF_isOutOfOrder_12 : decode c_KF_isOutOfOrder 12 = .ok (.ifCond .eq 17, 3) := by decide +kernel
theorem d_KF_isOutOfOrder_15 : decode c_KF_isOutOfOrder 15 = .ok (.aload_n 1, 1) := by decide +kernel
theorem d_KF_isOutOfOrder_16 : decode c_KF_isOutOfOrder 16 = .ok (.getfield 202, 3) := by decide +kernel
theorem d_KF_isOutOfOrder_19 : decode c_KF_isOutOfOrder 19 = .ok (.lload 4, 2) := by decide +kernel
theorem d_KF_isOutOfOrder_21 : decode c_KF_isOutOfOrder 21 = .ok (.invokestatic 205, 3) := by decide +kernel
theorem d_KF_isOutOfOrder_24 : decode c_KF_isOutOfOrder 24 = .ok (.ifCond .ne 5, 3) := by decide +kernel
theorem d_KF_isOutOfOrder_27 : decode c_KF_isOutOfOrder 27 = .ok (.iconst 1, 1) := by decide +kernel
theorem d_KF_isOutOfOrder_28 : decode c_KF_isOutOfOrder 28 = .ok (.ireturn, 1) := by decide +kernel
theorem d_KF_isOutOfOrder_29 : decode c_KF_isOutOfOrder 29 = .ok (.aload_n 0, 1) := by decide +kernel
theorem d_KF_isOutOfOrder_30 : decode c_KF_isOutOfOrder 30 = .ok (.iconst 0, 1) := by decide +kernel
theorem d_KF_isOutOfOrder_31 : decode c_KF_isOutOfOrder 31 = .ok (.invokevirtual 36, 3) := by decide +kernel
theorem d_KF_isOutOfOrder_34 : decode c_KF_isOutOfOrder 34 = .ok (.astore 6, 2) := by decide +kernel
theorem d_KF_isOutOfOrder_36 : decode c_KF_isOutOfOrder 36 = .ok (.aload 6, 2) := by decide +kernel
theorem d_KF_isOutOfOrder_38 : decode c_KF_isOutOfOrder 38 = .ok (.ifnonnull 7, 3) := by decide +kernel
theorem d_KF_isOutOfOrder_41 : decode c_KF_isOutOfOrder 41 = .ok (.aconst_null, 1) := by decide +kernel
theorem d_KF_isOutOfOrder_42 : decode c_KF_isOutOfOrder 42 = .ok (.goto 18, 3) := by decide +kernel
theorem d_KF_isOutOfOrder_45 : decode c_KF_isOutOfOrder 45 = .ok (.aload 6, 2) := by decide +kernel
theorem d_KF_isOutOfOrder_47 : decode c_KF_isOutOfOrder 47 = .ok (.aload 6, 2) := by decide +kernel
theorem d_KF_isOutOfOrder_49 : decode c_KF_isOutOfOrder 49 = .ok (.getfield 188, 3) := by decide +kernel
theorem d_KF_isOutOfOrder_52 : decode c_KF_isOutOfOrder 52 = .ok (.invokevirtual 19, 3) := by decide +kernel
theorem d_KF_isOutOfOrder_55 : decode c_KF_isOutOfOrder 55 = .ok (.iconst 1, 1) := by decide +kernel
theorem d_KF_isOutOfOrder_56 : decode c_KF_isOutOfOrder 56 = .ok (.isub, 1) := by decide +kernel
theorem d_KF_isOutOfOrder_57 : decode c_KF_isOutOfOrder 57 = .ok (.invokevirtual 167, 3) := by decide +kernel
theorem d_KF_isOutOfOrder_60 : decode c_KF_isOutOfOrder 60 = .ok (.astore 7, 2) := by decide +kernel
theorem d_KF_isOutOfOrder_62 : decode c_KF_isOutOfOrder 62 = .ok (.aload_n 1, 1) := by decide +kernel
theorem d_KF_isOutOfOrder_63 : decode c_KF_isOutOfOrder 63 = .ok (.getfield 209, 3) := by decide +kernel
theorem d_KF_isOutOfOrder_66 : decode c_KF_isOutOfOrder 66 = .ok (.iconst 3, 1) := by decide +kernel
theorem d_KF_isOutOfOrder_67 : decode c_KF_isOutOfOrder 67 = .ok (.if_icmp .ne 25, 3) := by decide +kernel
theorem d_KF_isOutOfOrder_70 : decode c_KF_isOutOfOrder 70 = .ok (.aload 7, 2) := by decide +kernel
theorem d_KF_isOutOfOrder_72 : decode c_KF_isOutOfOrder 72 = .ok (.ifnull 20, 3) := by decide +kernel
theorem d_KF_isOutOfOrder_75 : decode c_KF_isOutOfOrder 75 = .ok (.aload 7, 2) := by decide +kernel
theorem d_KF_isOutOfOrder_77 : decode c_KF_isOutOfOrder 77 = .ok (.getfield 212, 3) := by decide +kernel
theorem d_KF_isOutOfOrder_80 : decode c_KF_isOutOfOrder 80 = .ok (.lload 4, 2) := by decide +kernel
theorem d_KF_isOutOfOrder_82 : decode c_KF_isOutOfOrder 82 = .ok (.invokestatic 205, 3) := by decide +kernel
theorem d_KF_isOutOfOrder_85 : decode c_KF_isOutOfOrder 85 = .ok (.ifCond .ne 7, 3) := by decide +kernel
theorem d_KF_isOutOfOrder_88 : decode c_KF_isOutOfOrder 88 = .ok (.iconst 1, 1) := by decide +kernel
theorem d_KF_isOutOfOrder_89 : decode c_KF_isOutOfOrder 89 = .ok (.goto 4, 3) := by decide +kernel
theorem d_KF_isOutOfOrder_92 : decode c_KF_isOutOfOrder 92 = .ok (.iconst 0, 1) := by decide +kernel
theorem d_KF_isOutOfOrder_93 : decode c_KF_isOutOfOrder 93 = .ok (.ireturn, 1) := by decide +kernel
theorem d_KF_fieldOf_0 : decode c_KF_fieldOf 0 = .ok (.aload_n 0, 1) := by decide +kernel
theorem d_KF_fieldOf_1 : decode c_KF_fieldOf 1 = .ok (.iload_n 1, 1) := by decide +kernel
theorem d_KF_fieldOf_2 : decode c_KF_fieldOf 2 = .ok (.invokevirtual 36, 3) := by decide +kernel
theorem d_KF_fieldOf_5 : decode c_KF_fieldOf 5 = .ok (.astore 4, 2) := by decide +kernel
theorem d_KF_fieldOf_7 : decode c_KF_fieldOf 7 = .ok (.aload 4, 2) := by decide +kernel
theorem d_KF_fieldOf_9 : decode c_KF_fieldOf 9 = .ok (.ifnonnull 7, 3) := by decide +kernel
theorem d_KF_fieldOf_12 : decode c_KF_fieldOf 12 = .ok (.lconst 0, 1) := by decide +kernel
theorem d_KF_fieldOf_13 : decode c_KF_fieldOf 13 = .ok (.goto 9, 3) := by decide +kernel
theorem d_KF_fieldOf_16 : decode c_KF_fieldOf 16 = .ok (.aload 4, 2) := by decide +kernel
theorem d_KF_fieldOf_18 : decode c_KF_fieldOf 18 = .ok (.lload_n 2, 1) := by decide +kernel
theorem d_KF_fieldOf_19 : decode c_KF_fieldOf 19 = .ok (.invokevirtual 195, 3) := by decide +kernel
theorem d_KF_fieldOf_22 : decode c_KF_fieldOf 22 = .ok (.lreturn, 1) := by decide +kernel
theorem d_KF_isBelow_0 : decode c_KF_isBelow 0 = .ok (.lload_n 0, 1) := by decide +kernel
theorem d_KF_isBelow_1 : decode c_KF_isBelow 1 = .ok (.ldc2_w 251, 3) := by decide +kernel
theorem d_KF_isBelow_4 : decode c_KF_isBelow 4 = .ok (.lxor, 1) := by decide +kernel
theorem d_KF_isBelow_5 : decode c_KF_isBelow 5 = .ok (.lload_n 2, 1) := by decide +kernel
theorem d_KF_isBelow_6 : decode c_KF_isBelow 6 = .ok (.ldc2_w 251, 3) := by decide +kernel
theorem d_KF_isBelow_9 : decode c_KF_isBelow 9 = .ok (.lxor, 1) := by decide +kernel
theorem d_KF_isBelow_10 : decode c_KF_isBelow 10 = .ok (.lcmp, 1) := by decide +kernel
theorem d_KF_isBelow_11 : decode c_KF_isBelow 11 = .ok (.ifCond .ge 7, 3) := by decide +kernel
theorem d_KF_isBelow_14 : decode c_KF_isBelow 14 = .ok (.iconst 1, 1) := by decide +kernel
theorem d_KF_isBelow_15 : decode c_KF_isBelow 15 = .ok (.goto 4, 3) := by decide +kernel
theorem d_KF_isBelow_18 : decode c_KF_isBelow 18 = .ok (.iconst 0, 1) := by decide +kernel
theorem d_KF_isBelow_19 : decode c_KF_isBelow 19 = .ok (.ireturn, 1) := by decide +kernel
theorem d_KF_hasBarredDouble_0 : decode c_KF_hasBarredDouble 0 = .ok (.iconst 0, 1) := by decide +kernel
theorem d_KF_hasBarredDouble_1 : decode c_KF_hasBarredDouble 1 = .ok (.istore 4, 2) := by decide +kernel
theorem d_KF_hasBarredDouble_3 : decode c_KF_hasBarredDouble 3 = .ok (.iload 4, 2) := by decide +kernel
theorem d_KF_hasBarredDouble_5 : decode c_KF_hasBarredDouble 5 = .ok (.aload_n 0, 1) := by decide +kernel
theorem d_KF_hasBarredDouble_6 : decode c_KF_hasBarredDouble 6 = .ok (.getfield 10, 3) := by decide +kernel
theorem d_KF_hasBarredDouble_9 : decode c_KF_hasBarredDouble 9 = .ok (.invokevirtual 19, 3) := by decide +kernel
theorem d_KF_hasBarredDouble_12 : decode c_KF_hasBarredDouble 12 = .ok (.if_icmp .ge 60, 3) := by decide +kernel
theorem d_KF_hasBarredDouble_15 : decode c_KF_hasBarredDouble 15 = .ok (.aload_n 0, 1) := by decide +kernel
theorem d_KF_hasBarredDouble_16 : decode c_KF_hasBarredDouble 16 = .ok (.getfield 10, 3) := by decide +kernel
theorem d_KF_hasBarredDouble_19 : decode c_KF_hasBarredDouble 19 = .ok (.iload 4, 2) := by decide +kernel
theorem d_KF_hasBarredDouble_21 : decode c_KF_hasBarredDouble 21 = .ok (.invokevirtual 177, 3) := by decide +kernel
theorem d_KF_hasBarredDouble_24 : decode c_KF_hasBarredDouble 24 = .ok (.checkcast 27, 3) := by decide +kernel
theorem d_KF_hasBarredDouble_27 : decode c_KF_hasBarredDouble 27 = .ok (.astore 5, 2) := by decide +kernel
theorem d_KF_hasBarredDouble_29 : decode c_KF_hasBarredDouble 29 = .ok (.aload 5, 2) := by decide +kernel
theorem d_KF_hasBarredDouble_31 : decode c_KF_hasBarredDouble 31 = .ok (.aload 5, 2) := by decide +kernel
theorem d_KF_hasBarredDouble_33 : decode c_KF_hasBarredDouble 33 = .ok (.lload_n 1, 1) := by decide +kernel
theorem d_KF_hasBarredDouble_34 : decode c_KF_hasBarredDouble 34 = .ok (.invokevirtual 195, 3) := by decide +kernel
theorem d_KF_hasBarredDouble_37 : decode c_KF_hasBarredDouble 37 = .ok (.invokevirtual 108, 3) := by decide +kernel
theorem d_KF_hasBarredDouble_40 : decode c_KF_hasBarredDouble 40 = .ok (.astore 6, 2) := by decide +kernel
theorem d_KF_hasBarredDouble_42 : decode c_KF_hasBarredDouble 42 = .ok (.aload 5, 2) := by decide +kernel
theorem d_KF_hasBarredDouble_44 : decode c_KF_hasBarredDouble 44 = .ok (.getfield 215, 3) := by decide +kernel
theorem d_KF_hasBarredDouble_47 : decode c_KF_hasBarredDouble 47 = .ok (.ifCond .ne 19, 3) := by decide +kernel
theorem d_KF_hasBarredDouble_50 : decode c_KF_hasBarredDouble 50 = .ok (.aload 6, 2) := by decide +kernel
theorem d_KF_hasBarredDouble_52 : decode c_KF_hasBarredDouble 52 = .ok (.ifnull 14, 3) := by decide +kernel
theorem d_KF_hasBarredDouble_55 : decode c_KF_hasBarredDouble 55 = .ok (.aload 6, 2) := by decide +kernel
theorem d_KF_hasBarredDouble_57 : decode c_KF_hasBarredDouble 57 = .ok (.getfield 171, 3) := by decide +kernel
theorem d_KF_hasBarredDouble_60 : decode c_KF_hasBarredDouble 60 = .ok (.aload_n 3, 1) := by decide +kernel
theorem d_KF_hasBarredDouble_61 : decode c_KF_hasBarredDouble 61 = .ok (.if_acmp .eq 5, 3) := by decide +kernel
theorem d_KF_hasBarredDouble_64 : decode c_KF_hasBarredDouble 64 = .ok (.iconst 1, 1) := by decide +kernel
theorem d_KF_hasBarredDouble_65 : decode c_KF_hasBarredDouble 65 = .ok (.ireturn, 1) := by decide +kernel
theorem d_KF_hasBarredDouble_66 : decode c_KF_hasBarredDouble 66 = .ok (.iinc 4 1, 3) := by decide +kernel
theorem d_KF_hasBarredDouble_69 : decode c_KF_hasBarredDouble 69 = .ok (.goto (-66), 3) := by decide +kernel
theorem d_KF_hasBarredDouble_72 : decode c_KF_hasBarredDouble 72 = .ok (.iconst 0, 1) := by decide +kernel
theorem d_KF_hasBarredDouble_73 : decode c_KF_hasBarredDouble 73 = .ok (.ireturn, 1) := by decide +kernel
theorem d_KF_entryCount_0 : decode c_KF_entryCount 0 = .ok (.aload_n 0, 1) := by decide +kernel
theorem d_KF_entryCount_1 : decode c_KF_entryCount 1 = .ok (.iload_n 1, 1) := by decide +kernel
theorem d_KF_entryCount_2 : decode c_KF_entryCount 2 = .ok (.invokevirtual 36, 3) := by decide +kernel
theorem d_KF_entryCount_5 : decode c_KF_entryCount 5 = .ok (.astore_n 2, 1) := by decide +kernel
theorem d_KF_entryCount_6 : decode c_KF_entryCount 6 = .ok (.aload_n 2, 1) := by decide +kernel
theorem d_KF_entryCount_7 : decode c_KF_entryCount 7 = .ok (.ifnonnull 7, 3) := by decide +kernel
theorem d_KF_entryCount_10 : decode c_KF_entryCount 10 = .ok (.iconst 0, 1) := by decide +kernel
theorem d_KF_entryCount_11 : decode c_KF_entryCount 11 = .ok (.goto 10, 3) := by decide +kernel
theorem d_KF_entryCount_14 : decode c_KF_entryCount 14 = .ok (.aload_n 2, 1) := by decide +kernel
theorem d_KF_entryCount_15 : decode c_KF_entryCount 15 = .ok (.getfield 188, 3) := by decide +kernel
theorem d_KF_entryCount_18 : decode c_KF_entryCount 18 = .ok (.invokevirtual 19, 3) := by decide +kernel
theorem d_KF_entryCount_21 : decode c_KF_entryCount 21 = .ok (.ireturn, 1) := by decide +kernel
theorem d_KF_enterUnderAllKeys_0 : decode c_KF_enterUnderAllKeys 0 = .ok (.iconst 0, 1) := by decide +kernel
theorem d_KF_enterUnderAllKeys_1 : decode c_KF_enterUnderAllKeys 1 = .ok (.istore_n 2, 1) := by decide +kernel
theorem d_KF_enterUnderAllKeys_2 : decode c_KF_enterUnderAllKeys 2 = .ok (.iconst 0, 1) := by decide +kernel
theorem d_KF_enterUnderAllKeys_3 : decode c_KF_enterUnderAllKeys 3 = .ok (.istore_n 3, 1) := by decide +kernel
theorem d_KF_enterUnderAllKeys_4 : decode c_KF_enterUnderAllKeys 4 = .ok (.iload_n 3, 1) := by decide +kernel
theorem d_KF_enterUnderAllKeys_5 : decode c_KF_enterUnderAllKeys 5 = .ok (.aload_n 0, 1) := by decide +kernel
theorem d_KF_enterUnderAllKeys_6 : decode c_KF_enterUnderAllKeys 6 = .ok (.getfield 10, 3) := by decide +kernel
theorem d_KF_enterUnderAllKeys_9 : decode c_KF_enterUnderAllKeys 9 = .ok (.invokevirtual 19, 3) := by decide +kernel
theorem d_KF_enterUnderAllKeys_12 : decode c_KF_enterUnderAllKeys 12 = .ok (.if_icmp .ge 30, 3) := by decide +kernel
theorem d_KF_enterUnderAllKeys_15 : decode c_KF_enterUnderAllKeys 15 = .ok (.aload_n 0, 1) := by decide +kernel
theorem d_KF_enterUnderAllKeys_16 : decode c_KF_enterUnderAllKeys 16 = .ok (.aload_n 0, 1) := by decide +kernel
theorem d_KF_enterUnderAllKeys_17 : decode c_KF_enterUnderAllKeys 17 = .ok (.getfield 10, 3) := by decide +kernel
theorem d_KF_enterUnderAllKeys_20 : decode c_KF_enterUnderAllKeys 20 = .ok (.iload_n 3, 1) := by decide +kernel
theorem d_KF_enterUnderAllKeys_21 : decode c_KF_enterUnderAllKeys 21 = .ok (.invokevirtual 177, 3) := by decide +kernel
theorem d_KF_enterUnderAllKeys_24 : decode c_KF_enterUnderAllKeys 24 = .ok (.checkcast 27, 3) := by decide +kernel
theorem d_KF_enterUnderAllKeys_27 : decode c_KF_enterUnderAllKeys 27 = .ok (.aload_n 1, 1) := by decide +kernel
theorem d_KF_enterUnderAllKeys_28 : decode c_KF_enterUnderAllKeys 28 = .ok (.invokevirtual 218, 3) := by decide +kernel
theorem d_KF_enterUnderAllKeys_31 : decode c_KF_enterUnderAllKeys 31 = .ok (.ifCond .eq 5, 3) := by decide +kernel
theorem d_KF_enterUnderAllKeys_34 : decode c_KF_enterUnderAllKeys 34 = .ok (.iconst 1, 1) := by decide +kernel
theorem d_KF_enterUnderAllKeys_35 : decode c_KF_enterUnderAllKeys 35 = .ok (.istore_n 2, 1) := by decide +kernel
theorem d_KF_enterUnderAllKeys_36 : decode c_KF_enterUnderAllKeys 36 = .ok (.iinc 3 1, 3) := by decide +kernel
theorem d_KF_enterUnderAllKeys_39 : decode c_KF_enterUnderAllKeys 39 = .ok (.goto (-35), 3) := by decide +kernel
theorem d_KF_enterUnderAllKeys_42 : decode c_KF_enterUnderAllKeys 42 = .ok (.iload_n 2, 1) := by decide +kernel
theorem d_KF_enterUnderAllKeys_43 : decode c_KF_enterUnderAllKeys 43 = .ok (.ireturn, 1) := by decide +kernel
theorem d_KF_enterUnder_0 : decode c_KF_enterUnder 0 = .ok (.aload_n 0, 1) := by decide +kernel
theorem d_KF_enterUnder_1 : decode c_KF_enterUnder 1 = .ok (.dup, 1) := by decide +kernel
theorem d_KF_enterUnder_2 : decode c_KF_enterUnder 2 = .ok (.getfield 222, 3) := by decide +kernel
theorem d_KF_enterUnder_5 : decode c_KF_enterUnder 5 = .ok (.lconst 1, 1) := by decide +kernel
theorem d_KF_enterUnder_6 : decode c_KF_enterUnder 6 = .ok (.ladd, 1) := by decide +kernel
theorem d_KF_enterUnder_7 : decode c_KF_enterUnder 7 = .ok (.putfield 222, 3) := by decide +kernel
theorem d_KF_enterUnder_10 : decode c_KF_enterUnder 10 = .ok (.aload_n 1, 1) := by decide +kernel
theorem d_KF_enterUnder_11 : decode c_KF_enterUnder 11 = .ok (.aload_n 2, 1) := by decide +kernel
theorem d_KF_enterUnder_12 : decode c_KF_enterUnder 12 = .ok (.aload_n 0, 1) := by decide +kernel
theorem d_KF_enterUnder_13 : decode c_KF_enterUnder 13 = .ok (.getfield 222, 3) := by decide +kernel
theorem d_KF_enterUnder_16 : decode c_KF_enterUnder 16 = .ok (.invokevirtual 225, 3) := by decide +kernel
theorem d_KF_enterUnder_19 : decode c_KF_enterUnder 19 = .ok (.ireturn, 1) := by decide +kernel
theorem d_KF_read_0 : decode c_KF_read 0 = .ok (.aload_n 0, 1) := by decide +kernel
theorem d_KF_read_1 : decode c_KF_read 1 = .ok (.iload_n 1, 1) := by decide +kernel
theorem d_KF_read_2 : decode c_KF_read 2 = .ok (.invokevirtual 51, 3) := by decide +kernel
theorem d_KF_read_5 : decode c_KF_read 5 = .ok (.astore 5, 2) := by decide +kernel
theorem d_KF_read_7 : decode c_KF_read 7 = .ok (.aload_n 0, 1) := by decide +kernel
theorem d_KF_read_8 : decode c_KF_read 8 = .ok (.iload_n 2, 1) := by decide +kernel
theorem d_KF_read_9 : decode c_KF_read 9 = .ok (.invokevirtual 36, 3) := by decide +kernel
theorem d_KF_read_12 : decode c_KF_read 12 = .ok (.astore 6, 2) := by decide +kernel
theorem d_KF_read_14 : decode c_KF_read 14 = .ok (.aload 5, 2) := by decide +kernel
theorem d_KF_read_16 : decode c_KF_read 16 = .ok (.ifnull 8, 3) := by decide +kernel
theorem d_KF_read_19 : decode c_KF_read 19 = .ok (.aload 6, 2) := by decide +kernel
theorem d_KF_read_21 : decode c_KF_read 21 = .ok (.ifnonnull 5, 3) := by decide +kernel
theorem d_KF_read_24 : decode c_KF_read 24 = .ok (.iconst (-1), 1) := by decide +kernel
theorem d_KF_read_25 : decode c_KF_read 25 = .ok (.ireturn, 1) := by decide +kernel
theorem d_KF_read_26 : decode c_KF_read 26 = .ok (.aload 5, 2) := by decide +kernel
theorem d_KF_read_28 : decode c_KF_read 28 = .ok (.iconst 0, 1) := by decide +kernel
theorem d_KF_read_29 : decode c_KF_read 29 = .ok (.invokevirtual 102, 3) := by decide +kernel
theorem d_KF_read_32 : decode c_KF_read 32 = .ok (.istore 7, 2) := by decide +kernel
theorem d_KF_read_34 : decode c_KF_read 34 = .ok (.iload 7, 2) := by decide +kernel
theorem d_KF_read_36 : decode c_KF_read 36 = .ok (.ifCond .eq 6, 3) := by decide +kernel
theorem d_KF_read_39 : decode c_KF_read 39 = .ok (.iload 7, 2) := by decide +kernel
theorem d_KF_read_41 : decode c_KF_read 41 = .ok (.ireturn, 1) := by decide +kernel
theorem d_KF_read_42 : decode c_KF_read 42 = .ok (.aload 5, 2) := by decide +kernel
theorem d_KF_read_44 : decode c_KF_read 44 = .ok (.invokevirtual 65, 3) := by decide +kernel
theorem d_KF_read_47 : decode c_KF_read 47 = .ok (.aload 5, 2) := by decide +kernel
theorem d_KF_read_49 : decode c_KF_read 49 = .ok (.iload_n 2, 1) := by decide +kernel
theorem d_KF_read_50 : decode c_KF_read 50 = .ok (.putfield 105, 3) := by decide +kernel
theorem d_KF_read_53 : decode c_KF_read 53 = .ok (.aload 6, 2) := by decide +kernel
theorem d_KF_read_55 : decode c_KF_read 55 = .ok (.lload_n 3, 1) := by decide +kernel
theorem d_KF_read_56 : decode c_KF_read 56 = .ok (.invokevirtual 108, 3) := by decide +kernel
theorem d_KF_read_59 : decode c_KF_read 59 = .ok (.astore 8, 2) := by decide +kernel
theorem d_KF_read_61 : decode c_KF_read 61 = .ok (.aload 8, 2) := by decide +kernel
theorem d_KF_read_63 : decode c_KF_read 63 = .ok (.ifnonnull 11, 3) := by decide +kernel
theorem d_KF_read_66 : decode c_KF_read 66 = .ok (.aload 5, 2) := by decide +kernel
theorem d_KF_read_68 : decode c_KF_read 68 = .ok (.invokevirtual 112, 3) := by decide +kernel
theorem d_KF_read_71 : decode c_KF_read 71 = .ok (.bipush 23, 2) := by decide +kernel
theorem d_KF_read_73 : decode c_KF_read 73 = .ok (.ireturn, 1) := by decide +kernel
theorem d_KF_read_74 : decode c_KF_read 74 = .ok (.aload 5, 2) := by decide +kernel
theorem d_KF_read_76 : decode c_KF_read 76 = .ok (.aload 6, 2) := by decide +kernel
theorem d_KF_read_78 : decode c_KF_read 78 = .ok (.aload 8, 2) := by decide +kernel
theorem d_KF_read_80 : decode c_KF_read 80 = .ok (.iconst 0, 1) := by decide +kernel
theorem d_KF_read_81 : decode c_KF_read 81 = .ok (.invokestatic 115, 3) := by decide +kernel
theorem d_KF_read_84 : decode c_KF_read 84 = .ok (.ireturn, 1) := by decide +kernel
theorem d_KF_handOver_0 : decode c_KF_handOver 0 = .ok (.aload_n 0, 1) := by decide +kernel
theorem d_KF_handOver_1 : decode c_KF_handOver 1 = .ok (.aload_n 2, 1) := by decide +kernel
theorem d_KF_handOver_2 : decode c_KF_handOver 2 = .ok (.invokevirtual 241, 3) := by decide +kernel
theorem d_KF_handOver_5 : decode c_KF_handOver 5 = .ok (.aload_n 1, 1) := by decide +kernel
theorem d_KF_handOver_6 : decode c_KF_handOver 6 = .ok (.aload_n 2, 1) := by decide +kernel
theorem d_KF_handOver_7 : decode c_KF_handOver 7 = .ok (.iload_n 3, 1) := by decide +kernel
theorem d_KF_handOver_8 : decode c_KF_handOver 8 = .ok (.invokevirtual 244, 3) := by decide +kernel
theorem d_KF_handOver_11 : decode c_KF_handOver 11 = .ok (.ifCond .eq 7, 3) := by decide +kernel
theorem d_KF_handOver_14 : decode c_KF_handOver 14 = .ok (.iconst 2, 1) := by decide +kernel
theorem d_KF_handOver_15 : decode c_KF_handOver 15 = .ok (.goto 4, 3) := by decide +kernel
theorem d_KF_handOver_18 : decode c_KF_handOver 18 = .ok (.iconst 0, 1) := by decide +kernel
theorem d_KF_handOver_19 : decode c_KF_handOver 19 = .ok (.ireturn, 1) := by decide +kernel
theorem d_KF_value_0 : decode c_KF_value 0 = .ok (.aload_n 0, 1) := by decide +kernel
theorem d_KF_value_1 : decode c_KF_value 1 = .ok (.iload_n 1, 1) := by decide +kernel
theorem d_KF_value_2 : decode c_KF_value 2 = .ok (.invokevirtual 51, 3) := by decide +kernel
theorem d_KF_value_5 : decode c_KF_value 5 = .ok (.astore_n 2, 1) := by decide +kernel
theorem d_KF_value_6 : decode c_KF_value 6 = .ok (.aload_n 2, 1) := by decide +kernel
theorem d_KF_value_7 : decode c_KF_value 7 = .ok (.ifnonnull 7, 3) := by decide +kernel
theorem d_KF_value_10 : decode c_KF_value 10 = .ok (.lconst 0, 1) := by decide +kernel
theorem d_KF_value_11 : decode c_KF_value 11 = .ok (.goto 7, 3) := by decide +kernel
theorem d_KF_value_14 : decode c_KF_value 14 = .ok (.aload_n 2, 1) := by decide +kernel
theorem d_KF_value_15 : decode c_KF_value 15 = .ok (.getfield 119, 3) := by decide +kernel
theorem d_KF_value_18 : decode c_KF_value 18 = .ok (.lreturn, 1) := by decide +kernel
theorem d_KF_start_0 : decode c_KF_start 0 = .ok (.aload_n 0, 1) := by decide +kernel
theorem d_KF_start_1 : decode c_KF_start 1 = .ok (.iload_n 1, 1) := by decide +kernel
theorem d_KF_start_2 : decode c_KF_start 2 = .ok (.invokevirtual 51, 3) := by decide +kernel
theorem d_KF_start_5 : decode c_KF_start 5 = .ok (.astore 7, 2) := by decide +kernel
theorem d_KF_start_7 : decode c_KF_start 7 = .ok (.aload_n 0, 1) := by decide +kernel
theorem d_KF_start_8 : decode c_KF_start 8 = .ok (.iload_n 2, 1) := by decide +kernel
theorem d_KF_start_9 : decode c_KF_start 9 = .ok (.invokevirtual 36, 3) := by decide +kernel
theorem d_KF_start_12 : decode c_KF_start 12 = .ok (.astore 8, 2) := by decide +kernel
theorem d_KF_start_14 : decode c_KF_start 14 = .ok (.aload 7, 2) := by decide +kernel
theorem d_KF_start_16 : decode c_KF_start 16 = .ok (.ifnull 17, 3) := by decide +kernel
theorem d_KF_start_19 : decode c_KF_start 19 = .ok (.aload 8, 2) := by decide +kernel
theorem d_KF_start_21 : decode c_KF_start 21 = .ok (.ifnull 12, 3) := by decide +kernel
theorem d_KF_start_24 : decode c_KF_start 24 = .ok (.iload_n 3, 1) := by decide +kernel
theorem d_KF_start_25 : decode c_KF_start 25 = .ok (.ifCond .lt 8, 3) := by decide +kernel
theorem d_KF_start_28 : decode c_KF_start 28 = .ok (.iload_n 3, 1) := by decide +kernel
theorem d_KF_start_29 : decode c_KF_start 29 = .ok (.iconst 4, 1) := by decide +kernel
theorem d_KF_start_30 : decode c_KF_start 30 = .ok (.if_icmp .le 5, 3) := by decide +kernel
theorem d_KF_start_33 : decode c_KF_start 33 = .ok (.iconst (-1), 1) := by decide +kernel
theorem d_KF_start_34 : decode c_KF_start 34 = .ok (.ireturn, 1) := by decide +kernel
theorem d_KF_start_35 : decode c_KF_start 35 = .ok (.iload 6, 2) := by decide +kernel
theorem d_KF_start_37 : decode c_KF_start 37 = .ok (.iconst 1, 1) := by decide +kernel
theorem d_KF_start_38 : decode c_KF_start 38 = .ok (.if_icmp .lt 13, 3) := by decide +kernel
theorem d_KF_start_41 : decode c_KF_start 41 = .ok (.iload 6, 2) := by decide +kernel
theorem d_KF_start_43 : decode c_KF_start 43 = .ok (.aload 8, 2) := by decide +kernel
theorem d_KF_start_45 : decode c_KF_start 45 = .ok (.getfield 123, 3) := by decide +kernel
theorem d_KF_start_48 : decode c_KF_start 48 = .ok (.if_icmp .le 5, 3) := by decide +kernel
theorem d_KF_start_51 : decode c_KF_start 51 = .ok (.iconst (-1), 1) := by decide +kernel
theorem d_KF_start_52 : decode c_KF_start 52 = .ok (.ireturn, 1) := by decide +kernel
theorem d_KF_start_53 : decode c_KF_start 53 = .ok (.aload 7, 2) := by decide +kernel
theorem d_KF_start_55 : decode c_KF_start 55 = .ok (.iconst 1, 1) := by decide +kernel
theorem d_KF_start_56 : decode c_KF_start 56 = .ok (.invokevirtual 102, 3) := by decide +kernel
theorem d_KF_start_59 : decode c_KF_start 59 = .ok (.istore 9, 2) := by decide +kernel
theorem d_KF_start_61 : decode c_KF_start 61 = .ok (.iload 9, 2) := by decide +kernel
theorem d_KF_start_63 : decode c_KF_start 63 = .ok (.ifCond .eq 6, 3) := by decide +kernel
theorem d_KF_start_66 : decode c_KF_start 66 = .ok (.iload 9, 2) := by decide +kernel
theorem d_KF_start_68 : decode c_KF_start 68 = .ok (.ireturn, 1) := by decide +kernel
theorem d_KF_start_69 : decode c_KF_start 69 = .ok (.aload 7, 2) := by decide +kernel
theorem d_KF_start_71 : decode c_KF_start 71 = .ok (.invokevirtual 65, 3) := by decide +kernel
theorem d_KF_start_74 : decode c_KF_start 74 = .ok (.aload 7, 2) := by decide +kernel
theorem d_KF_start_76 : decode c_KF_start 76 = .ok (.iload_n 2, 1) := by decide +kernel
theorem d_KF_start_77 : decode c_KF_start 77 = .ok (.putfield 105, 3) := by decide +kernel
theorem d_KF_start_80 : decode c_KF_start 80 = .ok (.aload 8, 2) := by decide +kernel
theorem d_KF_start_82 : decode c_KF_start 82 = .ok (.iload_n 3, 1) := by decide +kernel
theorem d_KF_start_83 : decode c_KF_start 83 = .ok (.lload 4, 2) := by decide +kernel
theorem d_KF_start_85 : decode c_KF_start 85 = .ok (.iload 6, 2) := by decide +kernel
theorem d_KF_start_87 : decode c_KF_start 87 = .ok (.invokevirtual 125, 3) := by decide +kernel
theorem d_KF_start_90 : decode c_KF_start 90 = .ok (.astore 10, 2) := by decide +kernel
theorem d_KF_start_92 : decode c_KF_start 92 = .ok (.aload 10, 2) := by decide +kernel
theorem d_KF_start_94 : decode c_KF_start 94 = .ok (.ifnonnull 11, 3) := by decide +kernel
theorem d_KF_start_97 : decode c_KF_start 97 = .ok (.aload 7, 2) := by decide +kernel
theorem d_KF_start_99 : decode c_KF_start 99 = .ok (.invokevirtual 112, 3) := by decide +kernel
theorem d_KF_start_102 : decode c_KF_start 102 = .ok (.bipush 23, 2) := by decide +kernel
theorem d_KF_start_104 : decode c_KF_start 104 = .ok (.ireturn, 1) := by decide +kernel
theorem d_KF_start_105 : decode c_KF_start 105 = .ok (.aload 7, 2) := by decide +kernel
theorem d_KF_start_107 : decode c_KF_start 107 = .ok (.aload 10, 2) := by decide +kernel
theorem d_KF_start_109 : decode c_KF_start 109 = .ok (.invokevirtual 129, 3) := by decide +kernel
theorem d_KF_start_112 : decode c_KF_start 112 = .ok (.iconst 0, 1) := by decide +kernel
theorem d_KF_start_113 : decode c_KF_start 113 = .ok (.ireturn, 1) := by decide +kernel
theorem d_KF_next_0 : decode c_KF_next 0 = .ok (.aload_n 0, 1) := by decide +kernel
theorem d_KF_next_1 : decode c_KF_next 1 = .ok (.iload_n 1, 1) := by decide +kernel
theorem d_KF_next_2 : decode c_KF_next 2 = .ok (.invokevirtual 51, 3) := by decide +kernel
theorem d_KF_next_5 : decode c_KF_next 5 = .ok (.astore_n 3, 1) := by decide +kernel
theorem d_KF_next_6 : decode c_KF_next 6 = .ok (.aload_n 3, 1) := by decide +kernel
theorem d_KF_next_7 : decode c_KF_next 7 = .ok (.ifnonnull 5, 3) := by decide +kernel
theorem d_KF_next_10 : decode c_KF_next 10 = .ok (.iconst (-1), 1) := by decide +kernel
theorem d_KF_next_11 : decode c_KF_next 11 = .ok (.ireturn, 1) := by decide +kernel
theorem d_KF_next_12 : decode c_KF_next 12 = .ok (.aload_n 3, 1) := by decide +kernel
theorem d_KF_next_13 : decode c_KF_next 13 = .ok (.iconst 1, 1) := by decide +kernel
theorem d_KF_next_14 : decode c_KF_next 14 = .ok (.invokevirtual 102, 3) := by decide +kernel
theorem d_KF_next_17 : decode c_KF_next 17 = .ok (.istore 4, 2) := by decide +kernel
theorem d_KF_next_19 : decode c_KF_next 19 = .ok (.iload 4, 2) := by decide +kernel
theorem d_KF_next_21 : decode c_KF_next 21 = .ok (.ifCond .eq 6, 3) := by decide +kernel
theorem d_KF_next_24 : decode c_KF_next 24 = .ok (.iload 4, 2) := by decide +kernel
theorem d_KF_next_26 : decode c_KF_next 26 = .ok (.ireturn, 1) := by decide +kernel
theorem d_KF_next_27 : decode c_KF_next 27 = .ok (.aload_n 3, 1) := by decide +kernel
theorem d_KF_next_28 : decode c_KF_next 28 = .ok (.invokevirtual 65, 3) := by decide +kernel
theorem d_KF_next_31 : decode c_KF_next 31 = .ok (.aload_n 0, 1) := by decide +kernel
theorem d_KF_next_32 : decode c_KF_next 32 = .ok (.aload_n 3, 1) := by decide +kernel
theorem d_KF_next_33 : decode c_KF_next 33 = .ok (.getfield 105, 3) := by decide +kernel
theorem d_KF_next_36 : decode c_KF_next 36 = .ok (.invokevirtual 36, 3) := by decide +kernel
theorem d_KF_next_39 : decode c_KF_next 39 = .ok (.astore 5, 2) := by decide +kernel
theorem d_KF_next_41 : decode c_KF_next 41 = .ok (.aload 5, 2) := by decide +kernel
theorem d_KF_next_43 : decode c_KF_next 43 = .ok (.ifnull 18, 3) := by decide +kernel
theorem d_KF_next_46 : decode c_KF_next 46 = .ok (.aload_n 3, 1) := by decide +kernel
theorem d_KF_next_47 : decode c_KF_next 47 = .ok (.getfield 133, 3) := by decide +kernel
theorem d_KF_next_50 : decode c_KF_next 50 = .ok (.iconst 3, 1) := by decide +kernel
theorem d_KF_next_51 : decode c_KF_next 51 = .ok (.if_icmp .eq 10, 3) := by decide +kernel
theorem d_KF_next_54 : decode c_KF_next 54 = .ok (.aload_n 3, 1) := by decide +kernel
theorem d_KF_next_55 : decode c_KF_next 55 = .ok (.getfield 136, 3) := by decide +kernel
theorem d_KF_next_58 : decode c_KF_next 58 = .ok (.ifCond .eq 6, 3) := by decide +kernel
theorem d_KF_next_61 : decode c_KF_next 61 = .ok (.bipush 46, 2) := by decide +kernel
theorem d_KF_next_63 : decode c_KF_next 63 = .ok (.ireturn, 1) := by decide +kernel
theorem d_KF_next_64 : decode c_KF_next 64 = .ok (.iload_n 2, 1) := by decide +kernel
theorem d_KF_next_65 : decode c_KF_next 65 = .ok (.ifCond .eq 12, 3) := by decide +kernel
theorem d_KF_next_68 : decode c_KF_next 68 = .ok (.aload 5, 2) := by decide +kernel
theorem d_KF_next_70 : decode c_KF_next 70 = .ok (.aload_n 3, 1) := by decide +kernel
theorem d_KF_next_71 : decode c_KF_next 71 = .ok (.invokevirtual 139, 3) := by decide +kernel
theorem d_KF_next_74 : decode c_KF_next 74 = .ok (.goto 9, 3) := by decide +kernel
theorem d_KF_next_77 : decode c_KF_next 77 = .ok (.aload 5, 2) := by decide +kernel
theorem d_KF_next_79 : decode c_KF_next 79 = .ok (.aload_n 3, 1) := by decide +kernel
theorem d_KF_next_80 : decode c_KF_next 80 = .ok (.invokevirtual 143, 3) := by decide +kernel
theorem d_KF_next_83 : decode c_KF_next 83 = .ok (.astore 6, 2) := by decide +kernel
theorem d_KF_next_85 : decode c_KF_next 85 = .ok (.aload 6, 2) := by decide +kernel
theorem d_KF_next_87 : decode c_KF_next 87 = .ok (.ifnonnull 11, 3) := by decide +kernel
theorem d_KF_next_90 : decode c_KF_next 90 = .ok (.aload_n 3, 1) := by decide +kernel
theorem d_KF_next_91 : decode c_KF_next 91 = .ok (.iconst 1, 1) := by decide +kernel
theorem d_KF_next_92 : decode c_KF_next 92 = .ok (.putfield 136, 3) := by decide +kernel
theorem d_KF_next_95 : decode c_KF_next 95 = .ok (.bipush 10, 2) := by decide +kernel
theorem d_KF_next_97 : decode c_KF_next 97 = .ok (.ireturn, 1) := by decide +kernel
theorem d_KF_next_98 : decode c_KF_next 98 = .ok (.aload_n 3, 1) := by decide +kernel
theorem d_KF_next_99 : decode c_KF_next 99 = .ok (.aload 5, 2) := by decide +kernel
theorem d_KF_next_101 : decode c_KF_next 101 = .ok (.aload 6, 2) := by decide +kernel
theorem d_KF_next_103 : decode c_KF_next 103 = .ok (.iload_n 2, 1) := by decide +kernel
theorem d_KF_next_104 : decode c_KF_next 104 = .ok (.invokestatic 115, 3) := by decide +kernel
theorem d_KF_next_107 : decode c_KF_next 107 = .ok (.ireturn, 1) := by decide +kernel
theorem d_KF_rewrite_0 : decode c_KF_rewrite 0 = .ok (.aload_n 0, 1) := by decide +kernel
theorem d_KF_rewrite_1 : decode c_KF_rewrite 1 = .ok (.iload_n 1, 1) := by decide +kernel
theorem d_KF_rewrite_2 : decode c_KF_rewrite 2 = .ok (.invokevirtual 51, 3) := by decide +kernel
theorem d_KF_rewrite_5 : decode c_KF_rewrite 5 = .ok (.astore 4, 2) := by decide +kernel
theorem d_KF_rewrite_7 : decode c_KF_rewrite 7 = .ok (.aload 4, 2) := by decide +kernel
theorem d_KF_rewrite_9 : decode c_KF_rewrite 9 = .ok (.ifnonnull 5, 3) := by decide +kernel
theorem d_KF_rewrite_12 : decode c_KF_rewrite 12 = .ok (.iconst (-1), 1) := by decide +kernel
theorem d_KF_rewrite_13 : decode c_KF_rewrite 13 = .ok (.ireturn, 1) := by decide +kernel
theorem d_KF_rewrite_14 : decode c_KF_rewrite 14 = .ok (.aload 4, 2) := by decide +kernel
theorem d_KF_rewrite_16 : decode c_KF_rewrite 16 = .ok (.invokevirtual 146, 3) := by decide +kernel
theorem d_KF_rewrite_19 : decode c_KF_rewrite 19 = .ok (.istore 5, 2) := by decide +kernel
theorem d_KF_rewrite_21 : decode c_KF_rewrite 21 = .ok (.iload 5, 2) := by decide +kernel
theorem d_KF_rewrite_23 : decode c_KF_rewrite 23 = .ok (.ifCond .eq 6, 3) := by decide +kernel
theorem d_KF_rewrite_26 : decode c_KF_rewrite 26 = .ok (.iload 5, 2) := by decide +kernel
theorem d_KF_rewrite_28 : decode c_KF_rewrite 28 = .ok (.ireturn, 1) := by decide +kernel
theorem d_KF_rewrite_29 : decode c_KF_rewrite 29 = .ok (.aload_n 0, 1) := by decide +kernel
theorem d_KF_rewrite_30 : decode c_KF_rewrite 30 = .ok (.aload 4, 2) := by decide +kernel
theorem d_KF_rewrite_32 : decode c_KF_rewrite 32 = .ok (.aload_n 0, 1) := by decide +kernel
theorem d_KF_rewrite_33 : decode c_KF_rewrite 33 = .ok (.iconst 0, 1) := by decide +kernel
theorem d_KF_rewrite_34 : decode c_KF_rewrite 34 = .ok (.lload_n 2, 1) := by decide +kernel
theorem d_KF_rewrite_35 : decode c_KF_rewrite 35 = .ok (.invokevirtual 87, 3) := by decide +kernel
theorem d_KF_rewrite_38 : decode c_KF_rewrite 38 = .ok (.invokevirtual 149, 3) := by decide +kernel
theorem d_KF_rewrite_41 : decode c_KF_rewrite 41 = .ok (.astore 6, 2) := by decide +kernel
theorem d_KF_rewrite_43 : decode c_KF_rewrite 43 = .ok (.aload 4, 2) := by decide +kernel
theorem d_KF_rewrite_45 : decode c_KF_rewrite 45 = .ok (.invokevirtual 65, 3) := by decide +kernel
theorem d_KF_rewrite_48 : decode c_KF_rewrite 48 = .ok (.aload 6, 2) := by decide +kernel
theorem d_KF_rewrite_50 : decode c_KF_rewrite 50 = .ok (.ifnonnull 9, 3) := by decide +kernel
theorem d_KF_rewrite_53 : decode c_KF_rewrite 53 = .ok (.aload 4, 2) := by decide +kernel
theorem d_KF_rewrite_55 : decode c_KF_rewrite 55 = .ok (.invokevirtual 153, 3) := by decide +kernel
theorem d_KF_rewrite_58 : decode c_KF_rewrite 58 = .ok (.ireturn, 1) := by decide +kernel
theorem d_KF_rewrite_59 : decode c_KF_rewrite 59 = .ok (.aload_n 0, 1) := by decide +kernel
theorem d_KF_rewrite_60 : decode c_KF_rewrite 60 = .ok (.iconst 0, 1) := by decide +kernel
theorem d_KF_rewrite_61 : decode c_KF_rewrite 61 = .ok (.aload 6, 2) := by decide +kernel
theorem d_KF_rewrite_63 : decode c_KF_rewrite 63 = .ok (.getfield 156, 3) := by decide +kernel
theorem d_KF_rewrite_66 : decode c_KF_rewrite 66 = .ok (.invokevirtual 87, 3) := by decide +kernel
theorem d_KF_rewrite_69 : decode c_KF_rewrite 69 = .ok (.aload_n 0, 1) := by decide +kernel
theorem d_KF_rewrite_70 : decode c_KF_rewrite 70 = .ok (.iconst 0, 1) := by decide +kernel
theorem d_KF_rewrite_71 : decode c_KF_rewrite 71 = .ok (.lload_n 2, 1) := by decide +kernel
theorem d_KF_rewrite_72 : decode c_KF_rewrite 72 = .ok (.invokevirtual 87, 3) := by decide +kernel
theorem d_KF_rewrite_75 : decode c_KF_rewrite 75 = .ok (.lcmp, 1) := by decide +kernel
theorem d_KF_rewrite_76 : decode c_KF_rewrite 76 = .ok (.ifCond .eq 6, 3) := by decide +kernel
theorem d_KF_rewrite_79 : decode c_KF_rewrite 79 = .ok (.bipush 21, 2) := by decide +kernel
theorem d_KF_rewrite_81 : decode c_KF_rewrite 81 = .ok (.ireturn, 1) := by decide +kernel
theorem d_KF_rewrite_82 : decode c_KF_rewrite 82 = .ok (.aload_n 0, 1) := by decide +kernel
theorem d_KF_rewrite_83 : decode c_KF_rewrite 83 = .ok (.lload_n 2, 1) := by decide +kernel
theorem d_KF_rewrite_84 : decode c_KF_rewrite 84 = .ok (.aload 6, 2) := by decide +kernel
theorem d_KF_rewrite_86 : decode c_KF_rewrite 86 = .ok (.invokevirtual 79, 3) := by decide +kernel
theorem d_KF_rewrite_89 : decode c_KF_rewrite 89 = .ok (.ifCond .eq 6, 3) := by decide +kernel
theorem d_KF_rewrite_92 : decode c_KF_rewrite 92 = .ok (.bipush 22, 2) := by decide +kernel
theorem d_KF_rewrite_94 : decode c_KF_rewrite 94 = .ok (.ireturn, 1) := by decide +kernel
theorem d_KF_rewrite_95 : decode c_KF_rewrite 95 = .ok (.aload_n 0, 1) := by decide +kernel
theorem d_KF_rewrite_96 : decode c_KF_rewrite 96 = .ok (.aload 6, 2) := by decide +kernel
theorem d_KF_rewrite_98 : decode c_KF_rewrite 98 = .ok (.lload_n 2, 1) := by decide +kernel
theorem d_KF_rewrite_99 : decode c_KF_rewrite 99 = .ok (.invokevirtual 159, 3) := by decide +kernel
theorem d_KF_rewrite_102 : decode c_KF_rewrite 102 = .ok (.ifCond .eq 7, 3) := by decide +kernel
theorem d_KF_rewrite_105 : decode c_KF_rewrite 105 = .ok (.iconst 2, 1) := by decide +kernel
theorem d_KF_rewrite_106 : decode c_KF_rewrite 106 = .ok (.goto 4, 3) := by decide +kernel
theorem d_KF_rewrite_109 : decode c_KF_rewrite 109 = .ok (.iconst 0, 1) := by decide +kernel
theorem d_KF_rewrite_110 : decode c_KF_rewrite 110 = .ok (.ireturn, 1) := by decide +kernel
theorem d_KF_recordToChange_0 : decode c_KF_recordToChange 0 = .ok (.aload_n 1, 1) := by decide +kernel
theorem d_KF_recordToChange_1 : decode c_KF_recordToChange 1 = .ok (.getfield 71, 3) := by decide +kernel
theorem d_KF_recordToChange_4 : decode c_KF_recordToChange 4 = .ok (.ifCond .ne 29, 3) := by decide +kernel
theorem d_KF_recordToChange_7 : decode c_KF_recordToChange 7 = .ok (.aload_n 1, 1) := by decide +kernel
theorem d_KF_recordToChange_8 : decode c_KF_recordToChange 8 = .ok (.getfield 238, 3) := by decide +kernel
theorem d_KF_recordToChange_11 : decode c_KF_recordToChange 11 = .ok (.ifnull 20, 3) := by decide +kernel
theorem d_KF_recordToChange_14 : decode c_KF_recordToChange 14 = .ok (.aload_n 1, 1) := by decide +kernel
theorem d_KF_recordToChange_15 : decode c_KF_recordToChange 15 = .ok (.getfield 238, 3) := by decide +kernel
theorem d_KF_recordToChange_18 : decode c_KF_recordToChange 18 = .ok (.getfield 232, 3) := by decide +kernel
theorem d_KF_recordToChange_21 : decode c_KF_recordToChange 21 = .ok (.ifCond .eq 10, 3) := by decide +kernel
theorem d_KF_recordToChange_24 : decode c_KF_recordToChange 24 = .ok (.aload_n 1, 1) := by decide +kernel
theorem d_KF_recordToChange_25 : decode c_KF_recordToChange 25 = .ok (.getfield 238, 3) := by decide +kernel
theorem d_KF_recordToChange_28 : decode c_KF_recordToChange 28 = .ok (.goto 4, 3) := by decide +kernel
theorem d_KF_recordToChange_31 : decode c_KF_recordToChange 31 = .ok (.aconst_null, 1) := by decide +kernel
theorem d_KF_recordToChange_32 : decode c_KF_recordToChange 32 = .ok (.areturn, 1) := by decide +kernel
theorem d_KF_recordToChange_33 : decode c_KF_recordToChange 33 = .ok (.aload_n 0, 1) := by decide +kernel
theorem d_KF_recordToChange_34 : decode c_KF_recordToChange 34 = .ok (.iconst 0, 1) := by decide +kernel
theorem d_KF_recordToChange_35 : decode c_KF_recordToChange 35 = .ok (.invokevirtual 36, 3) := by decide +kernel
theorem d_KF_recordToChange_38 : decode c_KF_recordToChange 38 = .ok (.astore 4, 2) := by decide +kernel
theorem d_KF_recordToChange_40 : decode c_KF_recordToChange 40 = .ok (.aload 4, 2) := by decide +kernel
theorem d_KF_recordToChange_42 : decode c_KF_recordToChange 42 = .ok (.ifnonnull 7, 3) := by decide +kernel
theorem d_KF_recordToChange_45 : decode c_KF_recordToChange 45 = .ok (.aconst_null, 1) := by decide +kernel
theorem d_KF_recordToChange_46 : decode c_KF_recordToChange 46 = .ok (.goto 9, 3) := by decide +kernel
theorem d_KF_recordToChange_49 : decode c_KF_recordToChange 49 = .ok (.aload 4, 2) := by decide +kernel
theorem d_KF_recordToChange_51 : decode c_KF_recordToChange 51 = .ok (.lload_n 2, 1) := by decide +kernel
theorem d_KF_recordToChange_52 : decode c_KF_recordToChange 52 = .ok (.invokevirtual 108, 3) := by decide +kernel
theorem d_KF_recordToChange_55 : decode c_KF_recordToChange 55 = .ok (.astore 5, 2) := by decide +kernel
theorem d_KF_recordToChange_57 : decode c_KF_recordToChange 57 = .ok (.aload 5, 2) := by decide +kernel
theorem d_KF_recordToChange_59 : decode c_KF_recordToChange 59 = .ok (.ifnonnull 7, 3) := by decide +kernel
theorem d_KF_recordToChange_62 : decode c_KF_recordToChange 62 = .ok (.aconst_null, 1) := by decide +kernel
theorem d_KF_recordToChange_63 : decode c_KF_recordToChange 63 = .ok (.goto 8, 3) := by decide +kernel
theorem d_KF_recordToChange_66 : decode c_KF_recordToChange 66 = .ok (.aload 5, 2) := by decide +kernel
theorem d_KF_recordToChange_68 : decode c_KF_recordToChange 68 = .ok (.getfield 171, 3) := by decide +kernel
theorem d_KF_recordToChange_71 : decode c_KF_recordToChange 71 = .ok (.areturn, 1) := by decide +kernel
theorem d_KF_moveChangedEntries_0 : decode c_KF_moveChangedEntries 0 = .ok (.aload_n 1, 1) := by decide +kernel
theorem d_KF_moveChangedEntries_1 : decode c_KF_moveChangedEntries 1 = .ok (.getfield 156, 3) := by decide +kernel
theorem d_KF_moveChangedEntries_4 : decode c_KF_moveChangedEntries 4 = .ok (.lstore 4, 2) := by decide +kernel
theorem d_KF_moveChangedEntries_6 : decode c_KF_moveChangedEntries 6 = .ok (.aload_n 1, 1) := by decide +kernel
theorem d_KF_moveChangedEntries_7 : decode c_KF_moveChangedEntries 7 = .ok (.lload_n 2, 1) := by decide +kernel
theorem d_KF_moveChangedEntries_8 : decode c_KF_moveChangedEntries 8 = .ok (.putfield 156, 3) := by decide +kernel
theorem d_KF_moveChangedEntries_11 : decode c_KF_moveChangedEntries 11 = .ok (.iconst 0, 1) := by decide +kernel
theorem d_KF_moveChangedEntries_12 : decode c_KF_moveChangedEntries 12 = .ok (.istore 6, 2) := by decide +kernel
theorem d_KF_moveChangedEntries_14 : decode c_KF_moveChangedEntries 14 = .ok (.iconst 0, 1) := by decide +kernel
theorem d_KF_moveChangedEntries_15 : decode c_KF_moveChangedEntries 15 = .ok (.istore 7, 2) := by decide +kernel
theorem d_KF_moveChangedEntries_17 : decode c_KF_moveChangedEntries 17 = .ok (.iload 7, 2) := by decide +kernel
theorem d_KF_moveChangedEntries_19 : decode c_KF_moveChangedEntries 19 = .ok (.aload_n 0, 1) := by decide +kernel
theorem d_KF_moveChangedEntries_20 : decode c_KF_moveChangedEntries 20 = .ok (.getfield 10, 3) := by decide +kernel
theorem d_KF_moveChangedEntries_23 : decode c_KF_moveChangedEntries 23 = .ok (.invokevirtual 19, 3) := by decide +kernel
theorem d_KF_moveChangedEntries_26 : decode c_KF_moveChangedEntries 26 = .ok (.if_icmp .ge 66, 3) := by decide +kernel
theorem d_KF_moveChangedEntries_29 : decode c_KF_moveChangedEntries 29 = .ok (.aload_n 0, 1) := by decide +kernel
theorem d_KF_moveChangedEntries_30 : decode c_KF_moveChangedEntries 30 = .ok (.getfield 10, 3) := by decide +kernel
theorem d_KF_moveChangedEntries_33 : decode c_KF_moveChangedEntries 33 = .ok (.iload 7, 2) := by decide +kernel
theorem d_KF_moveChangedEntries_35 : decode c_KF_moveChangedEntries 35 = .ok (.invokevirtual 177, 3) := by decide +kernel
theorem d_KF_moveChangedEntries_38 : decode c_KF_moveChangedEntries 38 = .ok (.checkcast 27, 3) := by decide +kernel
theorem d_KF_moveChangedEntries_41 : decode c_KF_moveChangedEntries 41 = .ok (.astore 8, 2) := by decide +kernel
theorem d_KF_moveChangedEntries_43 : decode c_KF_moveChangedEntries 43 = .ok (.aload 8, 2) := by decide +kernel
theorem d_KF_moveChangedEntries_45 : decode c_KF_moveChangedEntries 45 = .ok (.lload 4, 2) := by decide +kernel
theorem d_KF_moveChangedEntries_47 : decode c_KF_moveChangedEntries 47 = .ok (.invokevirtual 195, 3) := by decide +kernel
theorem d_KF_moveChangedEntries_50 : decode c_KF_moveChangedEntries 50 = .ok (.aload 8, 2) := by decide +kernel
theorem d_KF_moveChangedEntries_52 : decode c_KF_moveChangedEntries 52 = .ok (.lload_n 2, 1) := by decide +kernel
theorem d_KF_moveChangedEntries_53 : decode c_KF_moveChangedEntries 53 = .ok (.invokevirtual 195, 3) := by decide +kernel
theorem d_KF_moveChangedEntries_56 : decode c_KF_moveChangedEntries 56 = .ok (.lcmp, 1) := by decide +kernel
theorem d_KF_moveChangedEntries_57 : decode c_KF_moveChangedEntries 57 = .ok (.ifCond .eq 29, 3) := by decide +kernel
theorem d_KF_moveChangedEntries_60 : decode c_KF_moveChangedEntries 60 = .ok (.aload 8, 2) := by decide +kernel
theorem d_KF_moveChangedEntries_62 : decode c_KF_moveChangedEntries 62 = .ok (.aload_n 1, 1) := by decide +kernel
theorem d_KF_moveChangedEntries_63 : decode c_KF_moveChangedEntries 63 = .ok (.aload 8, 2) := by decide +kernel
theorem d_KF_moveChangedEntries_65 : decode c_KF_moveChangedEntries 65 = .ok (.lload 4, 2) := by decide +kernel
theorem d_KF_moveChangedEntries_67 : decode c_KF_moveChangedEntries 67 = .ok (.invokevirtual 195, 3) := by decide +kernel
theorem d_KF_moveChangedEntries_70 : decode c_KF_moveChangedEntries 70 = .ok (.invokevirtual 228, 3) := by decide +kernel
theorem d_KF_moveChangedEntries_73 : decode c_KF_moveChangedEntries 73 = .ok (.aload_n 0, 1) := by decide +kernel
theorem d_KF_moveChangedEntries_74 : decode c_KF_moveChangedEntries 74 = .ok (.aload 8, 2) := by decide +kernel
theorem d_KF_moveChangedEntries_76 : decode c_KF_moveChangedEntries 76 = .ok (.aload_n 1, 1) := by decide +kernel
theorem d_KF_moveChangedEntries_77 : decode c_KF_moveChangedEntries 77 = .ok (.invokevirtual 218, 3) := by decide +kernel
theorem d_KF_moveChangedEntries_80 : decode c_KF_moveChangedEntries 80 = .ok (.ifCond .eq 6, 3) := by decide +kernel
theorem d_KF_moveChangedEntries_83 : decode c_KF_moveChangedEntries 83 = .ok (.iconst 1, 1) := by decide +kernel
theorem d_KF_moveChangedEntries_84 : decode c_KF_moveChangedEntries 84 = .ok (.istore 6, 2) := by decide +kernel
theorem d_KF_moveChangedEntries_86 : decode c_KF_moveChangedEntries 86 = .ok (.iinc 7 1, 3) := by decide +kernel
theorem d_KF_moveChangedEntries_89 : decode c_KF_moveChangedEntries 89 = .ok (.goto (-72), 3) := by decide +kernel
theorem d_KF_moveChangedEntries_92 : decode c_KF_moveChangedEntries 92 = .ok (.iload 6, 2) := by decide +kernel
theorem d_KF_moveChangedEntries_94 : decode c_KF_moveChangedEntries 94 = .ok (.ireturn, 1) := by decide +kernel
theorem d_KF_remove_0 : decode c_KF_remove 0 = .ok (.aload_n 0, 1) := by decide +kernel
theorem d_KF_remove_1 : decode c_KF_remove 1 = .ok (.iload_n 1, 1) := by decide +kernel
theorem d_KF_remove_2 : decode c_KF_remove 2 = .ok (.invokevirtual 51, 3) := by decide +kernel
theorem d_KF_remove_5 : decode c_KF_remove 5 = .ok (.astore 4, 2) := by decide +kernel
theorem d_KF_remove_7 : decode c_KF_remove 7 = .ok (.aload 4, 2) := by decide +kernel
theorem d_KF_remove_9 : decode c_KF_remove 9 = .ok (.ifnonnull 5, 3) := by decide +kernel
theorem d_KF_remove_12 : decode c_KF_remove 12 = .ok (.iconst (-1), 1) := by decide +kernel
theorem d_KF_remove_13 : decode c_KF_remove 13 = .ok (.ireturn, 1) := by decide +kernel
theorem d_KF_remove_14 : decode c_KF_remove 14 = .ok (.aload 4, 2) := by decide +kernel
theorem d_KF_remove_16 : decode c_KF_remove 16 = .ok (.invokevirtual 146, 3) := by decide +kernel
theorem d_KF_remove_19 : decode c_KF_remove 19 = .ok (.istore 5, 2) := by decide +kernel
theorem d_KF_remove_21 : decode c_KF_remove 21 = .ok (.iload 5, 2) := by decide +kernel
theorem d_KF_remove_23 : decode c_KF_remove 23 = .ok (.ifCond .eq 6, 3) := by decide +kernel
theorem d_KF_remove_26 : decode c_KF_remove 26 = .ok (.iload 5, 2) := by decide +kernel
theorem d_KF_remove_28 : decode c_KF_remove 28 = .ok (.ireturn, 1) := by decide +kernel
theorem d_KF_remove_29 : decode c_KF_remove 29 = .ok (.aload_n 0, 1) := by decide +kernel
theorem d_KF_remove_30 : decode c_KF_remove 30 = .ok (.aload 4, 2) := by decide +kernel
theorem d_KF_remove_32 : decode c_KF_remove 32 = .ok (.lload_n 2, 1) := by decide +kernel
theorem d_KF_remove_33 : decode c_KF_remove 33 = .ok (.invokevirtual 149, 3) := by decide +kernel
theorem d_KF_remove_36 : decode c_KF_remove 36 = .ok (.astore 6, 2) := by decide +kernel
theorem d_KF_remove_38 : decode c_KF_remove 38 = .ok (.aload 4, 2) := by decide +kernel
theorem d_KF_remove_40 : decode c_KF_remove 40 = .ok (.invokevirtual 65, 3) := by decide +kernel
theorem d_KF_remove_43 : decode c_KF_remove 43 = .ok (.aload 6, 2) := by decide +kernel
theorem d_KF_remove_45 : decode c_KF_remove 45 = .ok (.ifnonnull 9, 3) := by decide +kernel
theorem d_KF_remove_48 : decode c_KF_remove 48 = .ok (.aload 4, 2) := by decide +kernel
theorem d_KF_remove_50 : decode c_KF_remove 50 = .ok (.invokevirtual 153, 3) := by decide +kernel
theorem d_KF_remove_53 : decode c_KF_remove 53 = .ok (.ireturn, 1) := by decide +kernel
theorem d_KF_remove_54 : decode c_KF_remove 54 = .ok (.aload_n 0, 1) := by decide +kernel
theorem d_KF_remove_55 : decode c_KF_remove 55 = .ok (.aload 6, 2) := by decide +kernel
theorem d_KF_remove_57 : decode c_KF_remove 57 = .ok (.invokevirtual 163, 3) := by decide +kernel
theorem d_KF_remove_60 : decode c_KF_remove 60 = .ok (.iconst 0, 1) := by decide +kernel
theorem d_KF_remove_61 : decode c_KF_remove 61 = .ok (.ireturn, 1) := by decide +kernel
theorem d_KF_dropRecord_0 : decode c_KF_dropRecord 0 = .ok (.iconst 0, 1) := by decide +kernel
theorem d_KF_dropRecord_1 : decode c_KF_dropRecord 1 = .ok (.istore_n 2, 1) := by decide +kernel
theorem d_KF_dropRecord_2 : decode c_KF_dropRecord 2 = .ok (.iload_n 2, 1) := by decide +kernel
theorem d_KF_dropRecord_3 : decode c_KF_dropRecord 3 = .ok (.aload_n 0, 1) := by decide +kernel
theorem d_KF_dropRecord_4 : decode c_KF_dropRecord 4 = .ok (.getfield 10, 3) := by decide +kernel
theorem d_KF_dropRecord_7 : decode c_KF_dropRecord 7 = .ok (.invokevirtual 19, 3) := by decide +kernel
theorem d_KF_dropRecord_10 : decode c_KF_dropRecord 10 = .ok (.if_icmp .ge 34, 3) := by decide +kernel
theorem d_KF_dropRecord_13 : decode c_KF_dropRecord 13 = .ok (.aload_n 0, 1) := by decide +kernel
theorem d_KF_dropRecord_14 : decode c_KF_dropRecord 14 = .ok (.getfield 10, 3) := by decide +kernel
theorem d_KF_dropRecord_17 : decode c_KF_dropRecord 17 = .ok (.iload_n 2, 1) := by decide +kernel
theorem d_KF_dropRecord_18 : decode c_KF_dropRecord 18 = .ok (.invokevirtual 177, 3) := by decide +kernel
theorem d_KF_dropRecord_21 : decode c_KF_dropRecord 21 = .ok (.checkcast 27, 3) := by decide +kernel
theorem d_KF_dropRecord_24 : decode c_KF_dropRecord 24 = .ok (.astore_n 3, 1) := by decide +kernel
theorem d_KF_dropRecord_25 : decode c_KF_dropRecord 25 = .ok (.aload_n 3, 1) := by decide +kernel
theorem d_KF_dropRecord_26 : decode c_KF_dropRecord 26 = .ok (.aload_n 1, 1) := by decide +kernel
theorem d_KF_dropRecord_27 : decode c_KF_dropRecord 27 = .ok (.aload_n 3, 1) := by decide +kernel
theorem d_KF_dropRecord_28 : decode c_KF_dropRecord 28 = .ok (.aload_n 1, 1) := by decide +kernel
theorem d_KF_dropRecord_29 : decode c_KF_dropRecord 29 = .ok (.getfield 156, 3) := by decide +kernel
theorem d_KF_dropRecord_32 : decode c_KF_dropRecord 32 = .ok (.invokevirtual 195, 3) := by decide +kernel
theorem d_KF_dropRecord_35 : decode c_KF_dropRecord 35 = .ok (.invokevirtual 228, 3) := by decide +kernel
theorem d_KF_dropRecord_38 : decode c_KF_dropRecord 38 = .ok (.iinc 2 1, 3) := by decide +kernel
theorem d_KF_dropRecord_41 : decode c_KF_dropRecord 41 = .ok (.goto (-39), 3) := by decide +kernel
theorem d_KF_dropRecord_44 : decode c_KF_dropRecord 44 = .ok (.aload_n 1, 1) := by decide +kernel
theorem d_KF_dropRecord_45 : decode c_KF_dropRecord 45 = .ok (.iconst 0, 1) := by decide +kernel
theorem d_KF_dropRecord_46 : decode c_KF_dropRecord 46 = .ok (.putfield 232, 3) := by decide +kernel
theorem d_KF_dropRecord_49 : decode c_KF_dropRecord 49 = .ok (.return_, 1) := by decide +kernel
theorem d_KF_scan_0 : decode c_KF_scan 0 = .ok (.aload_n 0, 1) := by decide +kernel
theorem d_KF_scan_1 : decode c_KF_scan 1 = .ok (.iload_n 1, 1) := by decide +kernel
theorem d_KF_scan_2 : decode c_KF_scan 2 = .ok (.invokevirtual 36, 3) := by decide +kernel
theorem d_KF_scan_5 : decode c_KF_scan 5 = .ok (.astore_n 3, 1) := by decide +kernel
theorem d_KF_scan_6 : decode c_KF_scan 6 = .ok (.aload_n 3, 1) := by decide +kernel
theorem d_KF_scan_7 : decode c_KF_scan 7 = .ok (.ifnonnull 7, 3) := by decide +kernel
theorem d_KF_scan_10 : decode c_KF_scan 10 = .ok (.aconst_null, 1) := by decide +kernel
theorem d_KF_scan_11 : decode c_KF_scan 11 = .ok (.goto 8, 3) := by decide +kernel
theorem d_KF_scan_14 : decode c_KF_scan 14 = .ok (.aload_n 3, 1) := by decide +kernel
theorem d_KF_scan_15 : decode c_KF_scan 15 = .ok (.iload_n 2, 1) := by decide +kernel
theorem d_KF_scan_16 : decode c_KF_scan 16 = .ok (.invokevirtual 167, 3) := by decide +kernel
theorem d_KF_scan_19 : decode c_KF_scan 19 = .ok (.astore 4, 2) := by decide +kernel
theorem d_KF_scan_21 : decode c_KF_scan 21 = .ok (.aload 4, 2) := by decide +kernel
theorem d_KF_scan_23 : decode c_KF_scan 23 = .ok (.ifnonnull 7, 3) := by decide +kernel
theorem d_KF_scan_26 : decode c_KF_scan 26 = .ok (.lconst 0, 1) := by decide +kernel
theorem d_KF_scan_27 : decode c_KF_scan 27 = .ok (.goto 11, 3) := by decide +kernel
theorem d_KF_scan_30 : decode c_KF_scan 30 = .ok (.aload 4, 2) := by decide +kernel
theorem d_KF_scan_32 : decode c_KF_scan 32 = .ok (.getfield 171, 3) := by decide +kernel
theorem d_KF_scan_35 : decode c_KF_scan 35 = .ok (.getfield 156, 3) := by decide +kernel
theorem d_KF_scan_38 : decode c_KF_scan 38 = .ok (.lreturn, 1) := by decide +kernel
theorem d_KF_reference_0 : decode c_KF_reference 0 = .ok (.aload_n 0, 1) := by decide +kernel
theorem d_KF_reference_1 : decode c_KF_reference 1 = .ok (.iload_n 1, 1) := by decide +kernel
theorem d_KF_reference_2 : decode c_KF_reference 2 = .ok (.invokevirtual 51, 3) := by decide +kernel
theorem d_KF_reference_5 : decode c_KF_reference 5 = .ok (.astore_n 2, 1) := by decide +kernel
theorem d_KF_reference_6 : decode c_KF_reference 6 = .ok (.aload_n 2, 1) := by decide +kernel
theorem d_KF_reference_7 : decode c_KF_reference 7 = .ok (.ifnull 10, 3) := by decide +kernel
theorem d_KF_reference_10 : decode c_KF_reference 10 = .ok (.aload_n 2, 1) := by decide +kernel
theorem d_KF_reference_11 : decode c_KF_reference 11 = .ok (.getfield 55, 3) := by decide +kernel
theorem d_KF_reference_14 : decode c_KF_reference 14 = .ok (.ifCond .ne 7, 3) := by decide +kernel
theorem d_KF_reference_17 : decode c_KF_reference 17 = .ok (.iconst (-1), 1) := by decide +kernel
theorem d_KF_reference_18 : decode c_KF_reference 18 = .ok (.goto 7, 3) := by decide +kernel
theorem d_KF_reference_21 : decode c_KF_reference 21 = .ok (.aload_n 2, 1) := by decide +kernel
theorem d_KF_reference_22 : decode c_KF_reference 22 = .ok (.getfield 105, 3) := by decide +kernel
theorem d_KF_reference_25 : decode c_KF_reference 25 = .ok (.ireturn, 1) := by decide +kernel
theorem d_KF_count_0 : decode c_KF_count 0 = .ok (.aload_n 0, 1) := by decide +kernel
theorem d_KF_count_1 : decode c_KF_count 1 = .ok (.iload_n 1, 1) := by decide +kernel
theorem d_KF_count_2 : decode c_KF_count 2 = .ok (.invokevirtual 36, 3) := by decide +kernel
theorem d_KF_count_5 : decode c_KF_count 5 = .ok (.ifnonnull 7, 3) := by decide +kernel
theorem d_KF_count_8 : decode c_KF_count 8 = .ok (.iconst (-1), 1) := by decide +kernel
theorem d_KF_count_9 : decode c_KF_count 9 = .ok (.goto 8, 3) := by decide +kernel
theorem d_KF_count_12 : decode c_KF_count 12 = .ok (.aload_n 0, 1) := by decide +kernel
theorem d_KF_count_13 : decode c_KF_count 13 = .ok (.iload_n 1, 1) := by decide +kernel
theorem d_KF_count_14 : decode c_KF_count 14 = .ok (.invokevirtual 83, 3) := by decide +kernel
theorem d_KF_count_17 : decode c_KF_count 17 = .ok (.ireturn, 1) := by decide +kernel
theorem d_KF_whole_0 : decode c_KF_whole 0 = .ok (.iconst 0, 1) := by decide +kernel
theorem d_KF_whole_1 : decode c_KF_whole 1 = .ok (.istore_n 1, 1) := by decide +kernel
theorem d_KF_whole_2 : decode c_KF_whole 2 = .ok (.iload_n 1, 1) := by decide +kernel
theorem d_KF_whole_3 : decode c_KF_whole 3 = .ok (.aload_n 0, 1) := by decide +kernel
theorem d_KF_whole_4 : decode c_KF_whole 4 = .ok (.getfield 10, 3) := by decide +kernel
theorem d_KF_whole_7 : decode c_KF_whole 7 = .ok (.invokevirtual 19, 3) := by decide +kernel
theorem d_KF_whole_10 : decode c_KF_whole 10 = .ok (.if_icmp .ge 59, 3) := by decide +kernel
theorem d_KF_whole_13 : decode c_KF_whole 13 = .ok (.aload_n 0, 1) := by decide +kernel
theorem d_KF_whole_14 : decode c_KF_whole 14 = .ok (.getfield 10, 3) := by decide +kernel
theorem d_KF_whole_17 : decode c_KF_whole 17 = .ok (.iload_n 1, 1) := by decide +kernel
theorem d_KF_whole_18 : decode c_KF_whole 18 = .ok (.invokevirtual 177, 3) := by decide +kernel
theorem d_KF_whole_21 : decode c_KF_whole 21 = .ok (.checkcast 27, 3) := by decide +kernel
theorem d_KF_whole_24 : decode c_KF_whole 24 = .ok (.astore_n 2, 1) := by decide +kernel
theorem d_KF_whole_25 : decode c_KF_whole 25 = .ok (.aload_n 0, 1) := by decide +kernel
theorem d_KF_whole_26 : decode c_KF_whole 26 = .ok (.dup, 1) := by decide +kernel
theorem d_KF_whole_27 : decode c_KF_whole 27 = .ok (.getfield 181, 3) := by decide +kernel
theorem d_KF_whole_30 : decode c_KF_whole 30 = .ok (.lconst 1, 1) := by decide +kernel
theorem d_KF_whole_31 : decode c_KF_whole 31 = .ok (.ladd, 1) := by decide +kernel
theorem d_KF_whole_32 : decode c_KF_whole 32 = .ok (.putfield 181, 3) := by decide +kernel
theorem d_KF_whole_35 : decode c_KF_whole 35 = .ok (.aload_n 2, 1) := by decide +kernel
theorem d_KF_whole_36 : decode c_KF_whole 36 = .ok (.aload_n 0, 1) := by decide +kernel
theorem d_KF_whole_37 : decode c_KF_whole 37 = .ok (.getfield 181, 3) := by decide +kernel
theorem d_KF_whole_40 : decode c_KF_whole 40 = .ok (.invokevirtual 184, 3) := by decide +kernel
theorem d_KF_whole_43 : decode c_KF_whole 43 = .ok (.ifCond .eq 18, 3) := by decide +kernel
theorem d_KF_whole_46 : decode c_KF_whole 46 = .ok (.aload_n 2, 1) := by decide +kernel
theorem d_KF_whole_47 : decode c_KF_whole 47 = .ok (.getfield 188, 3) := by decide +kernel
theorem d_KF_whole_50 : decode c_KF_whole 50 = .ok (.invokevirtual 19, 3) := by decide +kernel
theorem d_KF_whole_53 : decode c_KF_whole 53 = .ok (.aload_n 0, 1) := by decide +kernel
theorem d_KF_whole_54 : decode c_KF_whole 54 = .ok (.aload_n 2, 1) := by decide +kernel
theorem d_KF_whole_55 : decode c_KF_whole 55 = .ok (.invokevirtual 191, 3) := by decide +kernel
theorem d_KF_whole_58 : decode c_KF_whole 58 = .ok (.if_icmp .eq 5, 3) := by decide +kernel
theorem d_KF_whole_61 : decode c_KF_whole 61 = .ok (.iconst 0, 1) := by decide +kernel
theorem d_KF_whole_62 : decode c_KF_whole 62 = .ok (.ireturn, 1) := by decide +kernel
theorem d_KF_whole_63 : decode c_KF_whole 63 = .ok (.iinc 1 1, 3) := by decide +kernel
theorem d_KF_whole_66 : decode c_KF_whole 66 = .ok (.goto (-64), 3) := by decide +kernel
theorem d_KF_whole_69 : decode c_KF_whole 69 = .ok (.iconst 1, 1) := by decide +kernel
theorem d_KF_whole_70 : decode c_KF_whole 70 = .ok (.ireturn, 1) := by decide +kernel
theorem d_KF_entriesDue_0 : decode c_KF_entriesDue 0 = .ok (.aload_n 0, 1) := by decide +kernel
theorem d_KF_entriesDue_1 : decode c_KF_entriesDue 1 = .ok (.iconst 0, 1) := by decide +kernel
theorem d_KF_entriesDue_2 : decode c_KF_entriesDue 2 = .ok (.invokevirtual 36, 3) := by decide +kernel
theorem d_KF_entriesDue_5 : decode c_KF_entriesDue 5 = .ok (.astore_n 2, 1) := by decide +kernel
theorem d_KF_entriesDue_6 : decode c_KF_entriesDue 6 = .ok (.iconst 0, 1) := by decide +kernel
theorem d_KF_entriesDue_7 : decode c_KF_entriesDue 7 = .ok (.istore_n 3, 1) := by decide +kernel
theorem d_KF_entriesDue_8 : decode c_KF_entriesDue 8 = .ok (.iconst 0, 1) := by decide +kernel
theorem d_KF_entriesDue_9 : decode c_KF_entriesDue 9 = .ok (.istore 4, 2) := by decide +kernel
theorem d_KF_entriesDue_11 : decode c_KF_entriesDue 11 = .ok (.aload_n 2, 1) := by decide +kernel
theorem d_KF_entriesDue_12 : decode c_KF_entriesDue 12 = .ok (.ifnull 53, 3) := by decide +kernel
theorem d_KF_entriesDue_15 : decode c_KF_entriesDue 15 = .ok (.iload 4, 2) := by decide +kernel
theorem d_KF_entriesDue_17 : decode c_KF_entriesDue 17 = .ok (.aload_n 2, 1) := by decide +kernel
theorem d_KF_entriesDue_18 : decode c_KF_entriesDue 18 = .ok (.getfield 188, 3) := by decide +kernel
theorem d_KF_entriesDue_21 : decode c_KF_entriesDue 21 = .ok (.invokevirtual 19, 3) := by decide +kernel
theorem d_KF_entriesDue_24 : decode c_KF_entriesDue 24 = .ok (.if_icmp .ge 41, 3) := by decide +kernel
theorem d_KF_entriesDue_27 : decode c_KF_entriesDue 27 = .ok (.aload_n 1, 1) := by decide +kernel
theorem d_KF_entriesDue_28 : decode c_KF_entriesDue 28 = .ok (.aload_n 1, 1) := by decide +kernel
theorem d_KF_entriesDue_29 : decode c_KF_entriesDue 29 = .ok (.aload_n 2, 1) := by decide +kernel
theorem d_KF_entriesDue_30 : decode c_KF_entriesDue 30 = .ok (.getfield 188, 3) := by decide +kernel
theorem d_KF_entriesDue_33 : decode c_KF_entriesDue 33 = .ok (.iload 4, 2) := by decide +kernel
theorem d_KF_entriesDue_35 : decode c_KF_entriesDue 35 = .ok (.invokevirtual 177, 3) := by decide +kernel
theorem d_KF_entriesDue_38 : decode c_KF_entriesDue 38 = .ok (.checkcast 172, 3) := by decide +kernel
theorem d_KF_entriesDue_41 : decode c_KF_entriesDue 41 = .ok (.getfield 171, 3) := by decide +kernel
theorem d_KF_entriesDue_44 : decode c_KF_entriesDue 44 = .ok (.getfield 156, 3) := by decide +kernel
theorem d_KF_entriesDue_47 : decode c_KF_entriesDue 47 = .ok (.invokevirtual 195, 3) := by decide +kernel
theorem d_KF_entriesDue_50 : decode c_KF_entriesDue 50 = .ok (.invokevirtual 248, 3) := by decide +kernel
theorem d_KF_entriesDue_53 : decode c_KF_entriesDue 53 = .ok (.ifCond .ne 6, 3) := by decide +kernel
theorem d_KF_entriesDue_56 : decode c_KF_entriesDue 56 = .ok (.iinc 3 1, 3) := by decide +kernel
theorem d_KF_entriesDue_59 : decode c_KF_entriesDue 59 = .ok (.iinc 4 1, 3) := by decide +kernel
theorem d_KF_entriesDue_62 : decode c_KF_entriesDue 62 = .ok (.goto (-51), 3) := by decide +kernel
theorem d_KF_entriesDue_65 : decode c_KF_entriesDue 65 = .ok (.iload_n 3, 1) := by decide +kernel
theorem d_KF_entriesDue_66 : decode c_KF_entriesDue 66 = .ok (.ireturn, 1) := by decide +kernel
end
section
theorem d_AL_init_0 : decode c_AL_init 0 = .ok (.aload_n 0, 1) := by decide +kernel
theorem d_AL_init_1 : decode c_AL_init 1 = .ok (.invokespecial 1, 3) := by decide +kernel
theorem d_AL_init_4 : decode c_AL_init 4 = .ok (.aload_n 0, 1) := by decide +kernel
theorem d_AL_init_5 : decode c_AL_init 5 = .ok (.getstatic 39, 3) := by decide +kernel
theorem d_AL_init_8 : decode c_AL_init 8 = .ok (.putfield 9, 3) := by decide +kernel
theorem d_AL_init_11 : decode c_AL_init 11 = .ok (.return_, 1) := by decide +kernel
theorem d_AL_size_0 : decode c_AL_size 0 = .ok (.aload_n 0, 1) := by decide +kernel
theorem d_AL_size_1 : decode c_AL_size 1 = .ok (.getfield 48, 3) := by decide +kernel
theorem d_AL_size_4 : decode c_AL_size 4 = .ok (.ireturn, 1) := by decide +kernel
theorem d_AL_add1_0 : decode c_AL_add1 0 = .ok (.aload_n 0, 1) := by decide +kernel
theorem d_AL_add1_1 : decode c_AL_add1 1 = .ok (.dup, 1) := by decide +kernel
theorem d_AL_add1_2 : decode c_AL_add1 2 = .ok (.getfield 63, 3) := by decide +kernel
theorem d_AL_add1_5 : decode c_AL_add1 5 = .ok (.iconst 1, 1) := by decide +kernel
theorem d_AL_add1_6 : decode c_AL_add1 6 = .ok (.iadd, 1) := by decide +kernel
theorem d_AL_add1_7 : decode c_AL_add1 7 = .ok (.putfield 63, 3) := by decide +kernel
theorem d_AL_add1_10 : decode c_AL_add1 10 = .ok (.aload_n 0, 1) := by decide +kernel
theorem d_AL_add1_11 : decode c_AL_add1 11 = .ok (.aload_n 1, 1) := by decide +kernel
theorem d_AL_add1_12 : decode c_AL_add1 12 = .ok (.aload_n 0, 1) := by decide +kernel
theorem d_AL_add1_13 : decode c_AL_add1 13 = .ok (.getfield 9, 3) := by decide +kernel
theorem d_AL_add1_16 : decode c_AL_add1 16 = .ok (.aload_n 0, 1) := by decide +kernel
theorem d_AL_add1_17 : decode c_AL_add1 17 = .ok (.getfield 48, 3) := by decide +kernel
theorem d_AL_add1_20 : decode c_AL_add1 20 = .ok (.invokevirtual 131, 3) := by decide +kernel
theorem d_AL_add1_23 : decode c_AL_add1 23 = .ok (.iconst 1, 1) := by decide +kernel
theorem d_AL_add1_24 : decode c_AL_add1 24 = .ok (.ireturn, 1) := by decide +kernel
theorem d_AL_addA_0 : decode c_AL_addA 0 = .ok (.iload_n 3, 1) := by decide +kernel
theorem d_AL_addA_1 : decode c_AL_addA 1 = .ok (.aload_n 2, 1) := by decide +kernel
theorem d_AL_addA_2 : decode c_AL_addA 2 = .ok (.arraylength, 1) := by decide +kernel
theorem d_AL_addA_3 : decode c_AL_addA 3 = .ok (.if_icmp .ne 8, 3) := by decide +kernel
theorem d_AL_addA_6 : decode c_AL_addA 6 = .ok (.aload_n 0, 1) := by decide +kernel
theorem d_AL_addA_7 : decode c_AL_addA 7 = .ok (.invokevirtual 129, 3) := by decide +kernel
theorem d_AL_addA_10 : decode c_AL_addA 10 = .ok (.astore_n 2, 1) := by decide +kernel
theorem d_AL_addA_11 : decode c_AL_addA 11 = .ok (.aload_n 2, 1) := by decide +kernel
theorem d_AL_addA_12 : decode c_AL_addA 12 = .ok (.iload_n 3, 1) := by decide +kernel
theorem d_AL_addA_13 : decode c_AL_addA 13 = .ok (.aload_n 1, 1) := by decide +kernel
theorem d_AL_addA_14 : decode c_AL_addA 14 = .ok (.aastore, 1) := by decide +kernel
theorem d_AL_addA_15 : decode c_AL_addA 15 = .ok (.aload_n 0, 1) := by decide +kernel
theorem d_AL_addA_16 : decode c_AL_addA 16 = .ok (.iload_n 3, 1) := by decide +kernel
theorem d_AL_addA_17 : decode c_AL_addA 17 = .ok (.iconst 1, 1) := by decide +kernel
theorem d_AL_addA_18 : decode c_AL_addA 18 = .ok (.iadd, 1) := by decide +kernel
theorem d_AL_addA_19 : decode c_AL_addA 19 = .ok (.putfield 48, 3) := by decide +kernel
theorem d_AL_addA_22 : decode c_AL_addA 22 = .ok (.return_, 1) := by decide +kernel
theorem d_AL_grow0_0 : decode c_AL_grow0 0 = .ok (.aload_n 0, 1) := by decide +kernel
theorem d_AL_grow0_1 : decode c_AL_grow0 1 = .ok (.aload_n 0, 1) := by decide +kernel
theorem d_AL_grow0_2 : decode c_AL_grow0 2 = .ok (.getfield 48, 3) := by decide +kernel
theorem d_AL_grow0_5 : decode c_AL_grow0 5 = .ok (.iconst 1, 1) := by decide +kernel
theorem d_AL_grow0_6 : decode c_AL_grow0 6 = .ok (.iadd, 1) := by decide +kernel
theorem d_AL_grow0_7 : decode c_AL_grow0 7 = .ok (.invokevirtual 69, 3) := by decide +kernel
theorem d_AL_grow0_10 : decode c_AL_grow0 10 = .ok (.areturn, 1) := by decide +kernel
theorem d_AL_growI_0 : decode c_AL_growI 0 = .ok (.aload_n 0, 1) := by decide +kernel
theorem d_AL_growI_1 : decode c_AL_growI 1 = .ok (.getfield 9, 3) := by decide +kernel
theorem d_AL_growI_4 : decode c_AL_growI 4 = .ok (.arraylength, 1) := by decide +kernel
theorem d_AL_growI_5 : decode c_AL_growI 5 = .ok (.istore_n 2, 1) := by decide +kernel
theorem d_AL_growI_6 : decode c_AL_growI 6 = .ok (.iload_n 2, 1) := by decide +kernel
theorem d_AL_growI_7 : decode c_AL_growI 7 = .ok (.ifCond .gt 13, 3) := by decide +kernel
theorem d_AL_growI_10 : decode c_AL_growI 10 = .ok (.aload_n 0, 1) := by decide +kernel
theorem d_AL_growI_11 : decode c_AL_growI 11 = .ok (.getfield 9, 3) := by decide +kernel
theorem d_AL_growI_14 : decode c_AL_growI 14 = .ok (.getstatic 39, 3) := by decide +kernel
theorem d_AL_growI_17 : decode c_AL_growI 17 = .ok (.if_acmp .eq 28, 3) := by decide +kernel
theorem d_AL_growI_20 : decode c_AL_growI 20 = .ok (.iload_n 2, 1) := by decide +kernel
theorem d_AL_growI_21 : decode c_AL_growI 21 = .ok (.iload_n 1, 1) := by decide +kernel
theorem d_AL_growI_22 : decode c_AL_growI 22 = .ok (.iload_n 2, 1) := by decide +kernel
theorem d_AL_growI_23 : decode c_AL_growI 23 = .ok (.isub, 1) := by decide +kernel
theorem d_AL_growI_24 : decode c_AL_growI 24 = .ok (.iload_n 2, 1) := by decide +kernel
theorem d_AL_growI_25 : decode c_AL_growI 25 = .ok (.iconst 1, 1) := by decide +kernel
theorem d_AL_growI_26 : decode c_AL_growI 26 = .ok (.ishr, 1) := by decide +kernel
theorem d_AL_growI_27 : decode c_AL_growI 27 = .ok (.invokestatic 73, 3) := by decide +kernel
theorem d_AL_growI_30 : decode c_AL_growI 30 = .ok (.istore_n 3, 1) := by decide +kernel
theorem d_AL_growI_31 : decode c_AL_growI 31 = .ok (.aload_n 0, 1) := by decide +kernel
theorem d_AL_growI_32 : decode c_AL_growI 32 = .ok (.aload_n 0, 1) := by decide +kernel
theorem d_AL_growI_33 : decode c_AL_growI 33 = .ok (.getfield 9, 3) := by decide +kernel
theorem d_AL_growI_36 : decode c_AL_growI 36 = .ok (.iload_n 3, 1) := by decide +kernel
theorem d_AL_growI_37 : decode c_AL_growI 37 = .ok (.invokestatic 66, 3) := by decide +kernel
theorem d_AL_growI_40 : decode c_AL_growI 40 = .ok (.dup_x1, 1) := by decide +kernel
theorem d_AL_growI_41 : decode c_AL_growI 41 = .ok (.putfield 9, 3) := by decide +kernel
theorem d_AL_growI_44 : decode c_AL_growI 44 = .ok (.areturn, 1) := by decide +kernel
theorem d_AL_growI_45 : decode c_AL_growI 45 = .ok (.aload_n 0, 1) := by decide +kernel
theorem d_AL_growI_46 : decode c_AL_growI 46 = .ok (.bipush 10, 2) := by decide +kernel
theorem d_AL_growI_48 : decode c_AL_growI 48 = .ok (.iload_n 1, 1) := by decide +kernel
theorem d_AL_growI_49 : decode c_AL_growI 49 = .ok (.invokestatic 79, 3) := by decide +kernel
theorem d_AL_growI_52 : decode c_AL_growI 52 = .ok (.anewarray 7, 3) := by decide +kernel
theorem d_AL_growI_55 : decode c_AL_growI 55 = .ok (.dup_x1, 1) := by decide +kernel
theorem d_AL_growI_56 : decode c_AL_growI 56 = .ok (.putfield 9, 3) := by decide +kernel
theorem d_AL_growI_59 : decode c_AL_growI 59 = .ok (.areturn, 1) := by decide +kernel
theorem d_AL_get_0 : decode c_AL_get 0 = .ok (.iload_n 1, 1) := by decide +kernel
theorem d_AL_get_1 : decode c_AL_get 1 = .ok (.aload_n 0, 1) := by decide +kernel
theorem d_AL_get_2 : decode c_AL_get 2 = .ok (.getfield 48, 3) := by decide +kernel
theorem d_AL_get_5 : decode c_AL_get 5 = .ok (.invokestatic 118, 3) := by decide +kernel
theorem d_AL_get_8 : decode c_AL_get 8 = .ok (.pop, 1) := by decide +kernel
theorem d_AL_get_9 : decode c_AL_get 9 = .ok (.aload_n 0, 1) := by decide +kernel
theorem d_AL_get_10 : decode c_AL_get 10 = .ok (.iload_n 1, 1) := by decide +kernel
theorem d_AL_get_11 : decode c_AL_get 11 = .ok (.invokevirtual 123, 3) := by decide +kernel
theorem d_AL_get_14 : decode c_AL_get 14 = .ok (.areturn, 1) := by decide +kernel
theorem d_AL_elementData_0 : decode c_AL_elementData 0 = .ok (.aload_n 0, 1) := by decide +kernel
theorem d_AL_elementData_1 : decode c_AL_elementData 1 = .ok (.getfield 9, 3) := by decide +kernel
theorem d_AL_elementData_4 : decode c_AL_elementData 4 = .ok (.iload_n 1, 1) := by decide +kernel
theorem d_AL_elementData_5 : decode c_AL_elementData 5 = .ok (.aaload, 1) := by decide +kernel
theorem d_AL_elementData_6 : decode c_AL_elementData 6 = .ok (.areturn, 1) := by decide +kernel
theorem d_AL_isEmpty_0 : decode c_AL_isEmpty 0 = .ok (.aload_n 0, 1) := by decide +kernel
theorem d_AL_isEmpty_1 : decode c_AL_isEmpty 1 = .ok (.getfield 48, 3) := by decide +kernel
theorem d_AL_isEmpty_4 : decode c_AL_isEmpty 4 = .ok (.ifCond .ne 7, 3) := by decide +kernel
theorem d_AL_isEmpty_7 : decode c_AL_isEmpty 7 = .ok (.iconst 1, 1) := by decide +kernel
theorem d_AL_isEmpty_8 : decode c_AL_isEmpty 8 = .ok (.goto 4, 3) := by decide +kernel
theorem d_AL_isEmpty_11 : decode c_AL_isEmpty 11 = .ok (.iconst 0, 1) := by decide +kernel
theorem d_AL_isEmpty_12 : decode c_AL_isEmpty 12 = .ok (.ireturn, 1) := by decide +kernel
theorem d_AL_clear_0 : decode c_AL_clear 0 = .ok (.aload_n 0, 1) := by decide +kernel
theorem d_AL_clear_1 : decode c_AL_clear 1 = .ok (.dup, 1) := by decide +kernel
theorem d_AL_clear_2 : decode c_AL_clear 2 = .ok (.getfield 63, 3) := by decide +kernel
theorem d_AL_clear_5 : decode c_AL_clear 5 = .ok (.iconst 1, 1) := by decide +kernel
theorem d_AL_clear_6 : decode c_AL_clear 6 = .ok (.iadd, 1) := by decide +kernel
theorem d_AL_clear_7 : decode c_AL_clear 7 = .ok (.putfield 63, 3) := by decide +kernel
theorem d_AL_clear_10 : decode c_AL_clear 10 = .ok (.aload_n 0, 1) := by decide +kernel
theorem d_AL_clear_11 : decode c_AL_clear 11 = .ok (.getfield 9, 3) := by decide +kernel
theorem d_AL_clear_14 : decode c_AL_clear 14 = .ok (.astore_n 1, 1) := by decide +kernel
theorem d_AL_clear_15 : decode c_AL_clear 15 = .ok (.aload_n 0, 1) := by decide +kernel
theorem d_AL_clear_16 : decode c_AL_clear 16 = .ok (.getfield 48, 3) := by decide +kernel
theorem d_AL_clear_19 : decode c_AL_clear 19 = .ok (.istore_n 2, 1) := by decide +kernel
theorem d_AL_clear_20 : decode c_AL_clear 20 = .ok (.aload_n 0, 1) := by decide +kernel
theorem d_AL_clear_21 : decode c_AL_clear 21 = .ok (.iconst 0, 1) := by decide +kernel
theorem d_AL_clear_22 : decode c_AL_clear 22 = .ok (.dup_x1, 1) := by decide +kernel
theorem d_AL_clear_23 : decode c_AL_clear 23 = .ok (.putfield 48, 3) := by decide +kernel
theorem d_AL_clear_26 : decode c_AL_clear 26 = .ok (.istore_n 3, 1) := by decide +kernel
theorem d_AL_clear_27 : decode c_AL_clear 27 = .ok (.iload_n 3, 1) := by decide +kernel
theorem d_AL_clear_28 : decode c_AL_clear 28 = .ok (.iload_n 2, 1) := by decide +kernel
theorem d_AL_clear_29 : decode c_AL_clear 29 = .ok (.if_icmp .ge 13, 3) := by decide +kernel
theorem d_AL_clear_32 : decode c_AL_clear 32 = .ok (.aload_n 1, 1) := by decide +kernel
theorem d_AL_clear_33 : decode c_AL_clear 33 = .ok (.iload_n 3, 1) := by decide +kernel
theorem d_AL_clear_34 : decode c_AL_clear 34 = .ok (.aconst_null, 1) := by decide +kernel
theorem d_AL_clear_35 : decode c_AL_clear 35 = .ok (.aastore, 1) := by decide +kernel
theorem d_AL_clear_36 : decode c_AL_clear 36 = .ok (.iinc 3 1, 3) := by decide +kernel
theorem d_AL_clear_39 : decode c_AL_clear 39 = .ok (.goto (-12), 3) := by decide +kernel
theorem d_AL_clear_42 : decode c_AL_clear 42 = .ok (.return_, 1) := by decide +kernel
theorem d_AL_addI_0 : decode c_AL_addI 0 = .ok (.aload_n 0, 1) := by decide +kernel
theorem d_AL_addI_1 : decode c_AL_addI 1 = .ok (.iload_n 1, 1) := by decide +kernel
theorem d_AL_addI_2 : decode c_AL_addI 2 = .ok (.invokevirtual 135, 3) := by decide +kernel
theorem d_AL_addI_5 : decode c_AL_addI 5 = .ok (.aload_n 0, 1) := by decide +kernel
theorem d_AL_addI_6 : decode c_AL_addI 6 = .ok (.dup, 1) := by decide +kernel
theorem d_AL_addI_7 : decode c_AL_addI 7 = .ok (.getfield 63, 3) := by decide +kernel
theorem d_AL_addI_10 : decode c_AL_addI 10 = .ok (.iconst 1, 1) := by decide +kernel
theorem d_AL_addI_11 : decode c_AL_addI 11 = .ok (.iadd, 1) := by decide +kernel
theorem d_AL_addI_12 : decode c_AL_addI 12 = .ok (.putfield 63, 3) := by decide +kernel
theorem d_AL_addI_15 : decode c_AL_addI 15 = .ok (.aload_n 0, 1) := by decide +kernel
theorem d_AL_addI_16 : decode c_AL_addI 16 = .ok (.getfield 48, 3) := by decide +kernel
theorem d_AL_addI_19 : decode c_AL_addI 19 = .ok (.dup, 1) := by decide +kernel
theorem d_AL_addI_20 : decode c_AL_addI 20 = .ok (.istore_n 3, 1) := by decide +kernel
theorem d_AL_addI_21 : decode c_AL_addI 21 = .ok (.aload_n 0, 1) := by decide +kernel
theorem d_AL_addI_22 : decode c_AL_addI 22 = .ok (.getfield 9, 3) := by decide +kernel
theorem d_AL_addI_25 : decode c_AL_addI 25 = .ok (.dup, 1) := by decide +kernel
theorem d_AL_addI_26 : decode c_AL_addI 26 = .ok (.astore 4, 2) := by decide +kernel
theorem d_AL_addI_28 : decode c_AL_addI 28 = .ok (.arraylength, 1) := by decide +kernel
theorem d_AL_addI_29 : decode c_AL_addI 29 = .ok (.if_icmp .ne 9, 3) := by decide +kernel
theorem d_AL_addI_32 : decode c_AL_addI 32 = .ok (.aload_n 0, 1) := by decide +kernel
theorem d_AL_addI_33 : decode c_AL_addI 33 = .ok (.invokevirtual 129, 3) := by decide +kernel
theorem d_AL_addI_36 : decode c_AL_addI 36 = .ok (.astore 4, 2) := by decide +kernel
theorem d_AL_addI_38 : decode c_AL_addI 38 = .ok (.aload 4, 2) := by decide +kernel
theorem d_AL_addI_40 : decode c_AL_addI 40 = .ok (.iload_n 1, 1) := by decide +kernel
theorem d_AL_addI_41 : decode c_AL_addI 41 = .ok (.aload 4, 2) := by decide +kernel
theorem d_AL_addI_43 : decode c_AL_addI 43 = .ok (.iload_n 1, 1) := by decide +kernel
theorem d_AL_addI_44 : decode c_AL_addI 44 = .ok (.iconst 1, 1) := by decide +kernel
theorem d_AL_addI_45 : decode c_AL_addI 45 = .ok (.iadd, 1) := by decide +kernel
theorem d_AL_addI_46 : decode c_AL_addI 46 = .ok (.iload_n 3, 1) := by decide +kernel
theorem d_AL_addI_47 : decode c_AL_addI 47 = .ok (.iload_n 1, 1) := by decide +kernel
theorem d_AL_addI_48 : decode c_AL_addI 48 = .ok (.isub, 1) := by decide +kernel
theorem d_AL_addI_49 : decode c_AL_addI 49 = .ok (.invokestatic 112, 3) := by decide +kernel
theorem d_AL_addI_52 : decode c_AL_addI 52 = .ok (.aload 4, 2) := by decide +kernel
theorem d_AL_addI_54 : decode c_AL_addI 54 = .ok (.iload_n 1, 1) := by decide +kernel
theorem d_AL_addI_55 : decode c_AL_addI 55 = .ok (.aload_n 2, 1) := by decide +kernel
theorem d_AL_addI_56 : decode c_AL_addI 56 = .ok (.aastore, 1) := by decide +kernel
theorem d_AL_addI_57 : decode c_AL_addI 57 = .ok (.aload_n 0, 1) := by decide +kernel
theorem d_AL_addI_58 : decode c_AL_addI 58 = .ok (.iload_n 3, 1) := by decide +kernel
theorem d_AL_addI_59 : decode c_AL_addI 59 = .ok (.iconst 1, 1) := by decide +kernel
theorem d_AL_addI_60 : decode c_AL_addI 60 = .ok (.iadd, 1) := by decide +kernel
theorem d_AL_addI_61 : decode c_AL_addI 61 = .ok (.putfield 48, 3) := by decide +kernel
theorem d_AL_addI_64 : decode c_AL_addI 64 = .ok (.return_, 1) := by decide +kernel
theorem d_AL_rangeCheckForAdd_0 : decode c_AL_rangeCheckForAdd 0 = .ok (.iload_n 1, 1) := by decide +kernel
theorem d_AL_rangeCheckForAdd_1 : decode c_AL_rangeCheckForAdd 1 = .ok (.aload_n 0, 1) := by decide +kernel
theorem d_AL_rangeCheckForAdd_2 : decode c_AL_rangeCheckForAdd 2 = .ok (.getfield 48, 3) := by decide +kernel
theorem d_AL_rangeCheckForAdd_5 : decode c_AL_rangeCheckForAdd 5 = .ok (.if_icmp .gt 7, 3) := by decide +kernel
theorem d_AL_rangeCheckForAdd_8 : decode c_AL_rangeCheckForAdd 8 = .ok (.iload_n 1, 1) := by decide +kernel
theorem d_AL_rangeCheckForAdd_9 : decode c_AL_rangeCheckForAdd 9 = .ok (.ifCond .ge 16, 3) := by decide +kernel
theorem d_AL_rangeCheckForAdd_12 : decode c_AL_rangeCheckForAdd 12 = .ok (.new 187, 3) := by decide +kernel
theorem d_AL_rangeCheckForAdd_15 : decode c_AL_rangeCheckForAdd 15 = .ok (.dup, 1) := by decide +kernel
theorem d_AL_rangeCheckForAdd_16 : decode c_AL_rangeCheckForAdd 16 = .ok (.aload_n 0, 1) := by decide +kernel
theorem d_AL_rangeCheckForAdd_17 : decode c_AL_rangeCheckForAdd 17 = .ok (.iload_n 1, 1) := by decide +kernel
theorem d_AL_rangeCheckForAdd_18 : decode c_AL_rangeCheckForAdd 18 = .ok (.invokevirtual 198, 3) := by decide +kernel
theorem d_AL_rangeCheckForAdd_21 : decode c_AL_rangeCheckForAdd 21 = .ok (.invokespecial 193, 3) := by decide +kernel
theorem d_AL_rangeCheckForAdd_24 : decode c_AL_rangeCheckForAdd 24 = .ok (.athrow, 1) := by decide +kernel
theorem d_AL_rangeCheckForAdd_25 : decode c_AL_rangeCheckForAdd 25 = .ok (.return_, 1) := by decide +kernel
theorem d_AL_remove_0 : decode c_AL_remove 0 = .ok (.iload_n 1, 1) := by decide +kernel
theorem d_AL_remove_1 : decode c_AL_remove 1 = .ok (.aload_n 0, 1) := by decide +kernel
theorem d_AL_remove_2 : decode c_AL_remove 2 = .ok (.getfield 48, 3) := by decide +kernel
theorem d_AL_remove_5 : decode c_AL_remove 5 = .ok (.invokestatic 118, 3) := by decide +kernel
theorem d_AL_remove_8 : decode c_AL_remove 8 = .ok (.pop, 1) := by decide +kernel
theorem d_AL_remove_9 : decode c_AL_remove 9 = .ok (.aload_n 0, 1) := by decide +kernel
theorem d_AL_remove_10 : decode c_AL_remove 10 = .ok (.getfield 9, 3) := by decide +kernel
theorem d_AL_remove_13 : decode c_AL_remove 13 = .ok (.astore_n 2, 1) := by decide +kernel
theorem d_AL_remove_14 : decode c_AL_remove 14 = .ok (.aload_n 2, 1) := by decide +kernel
theorem d_AL_remove_15 : decode c_AL_remove 15 = .ok (.iload_n 1, 1) := by decide +kernel
theorem d_AL_remove_16 : decode c_AL_remove 16 = .ok (.aaload, 1) := by decide +kernel
theorem d_AL_remove_17 : decode c_AL_remove 17 = .ok (.astore_n 3, 1) := by decide +kernel
theorem d_AL_remove_18 : decode c_AL_remove 18 = .ok (.aload_n 0, 1) := by decide +kernel
theorem d_AL_remove_19 : decode c_AL_remove 19 = .ok (.aload_n 2, 1) := by decide +kernel
theorem d_AL_remove_20 : decode c_AL_remove 20 = .ok (.iload_n 1, 1) := by decide +kernel
theorem d_AL_remove_21 : decode c_AL_remove 21 = .ok (.invokevirtual 144, 3) := by decide +kernel
theorem d_AL_remove_24 : decode c_AL_remove 24 = .ok (.aload_n 3, 1) := by decide +kernel
theorem d_AL_remove_25 : decode c_AL_remove 25 = .ok (.areturn, 1) := by decide +kernel
theorem d_AL_fastRemove_0 : decode c_AL_fastRemove 0 = .ok (.aload_n 0, 1) := by decide +kernel
theorem d_AL_fastRemove_1 : decode c_AL_fastRemove 1 = .ok (.dup, 1) := by decide +kernel
theorem d_AL_fastRemove_2 : decode c_AL_fastRemove 2 = .ok (.getfield 63, 3) := by decide +kernel
theorem d_AL_fastRemove_5 : decode c_AL_fastRemove 5 = .ok (.iconst 1, 1) := by decide +kernel
theorem d_AL_fastRemove_6 : decode c_AL_fastRemove 6 = .ok (.iadd, 1) := by decide +kernel
theorem d_AL_fastRemove_7 : decode c_AL_fastRemove 7 = .ok (.putfield 63, 3) := by decide +kernel
theorem d_AL_fastRemove_10 : decode c_AL_fastRemove 10 = .ok (.aload_n 0, 1) := by decide +kernel
theorem d_AL_fastRemove_11 : decode c_AL_fastRemove 11 = .ok (.getfield 48, 3) := by decide +kernel
theorem d_AL_fastRemove_14 : decode c_AL_fastRemove 14 = .ok (.iconst 1, 1) := by decide +kernel
theorem d_AL_fastRemove_15 : decode c_AL_fastRemove 15 = .ok (.isub, 1) := by decide +kernel
theorem d_AL_fastRemove_16 : decode c_AL_fastRemove 16 = .ok (.dup, 1) := by decide +kernel
theorem d_AL_fastRemove_17 : decode c_AL_fastRemove 17 = .ok (.istore_n 3, 1) := by decide +kernel
theorem d_AL_fastRemove_18 : decode c_AL_fastRemove 18 = .ok (.iload_n 2, 1) := by decide +kernel
theorem d_AL_fastRemove_19 : decode c_AL_fastRemove 19 = .ok (.if_icmp .le 15, 3) := by decide +kernel
theorem d_AL_fastRemove_22 : decode c_AL_fastRemove 22 = .ok (.aload_n 1, 1) := by decide +kernel
theorem d_AL_fastRemove_23 : decode c_AL_fastRemove 23 = .ok (.iload_n 2, 1) := by decide +kernel
theorem d_AL_fastRemove_24 : decode c_AL_fastRemove 24 = .ok (.iconst 1, 1) := by decide +kernel
theorem d_AL_fastRemove_25 : decode c_AL_fastRemove 25 = .ok (.iadd, 1) := by decide +kernel
theorem d_AL_fastRemove_26 : decode c_AL_fastRemove 26 = .ok (.aload_n 1, 1) := by decide +kernel
theorem d_AL_fastRemove_27 : decode c_AL_fastRemove 27 = .ok (.iload_n 2, 1) := by decide +kernel
theorem d_AL_fastRemove_28 : decode c_AL_fastRemove 28 = .ok (.iload_n 3, 1) := by decide +kernel
theorem d_AL_fastRemove_29 : decode c_AL_fastRemove 29 = .ok (.iload_n 2, 1) := by decide +kernel
theorem d_AL_fastRemove_30 : decode c_AL_fastRemove 30 = .ok (.isub, 1) := by decide +kernel
theorem d_AL_fastRemove_31 : decode c_AL_fastRemove 31 = .ok (.invokestatic 112, 3) := by decide +kernel
theorem d_AL_fastRemove_34 : decode c_AL_fastRemove 34 = .ok (.aload_n 1, 1) := by decide +kernel
theorem d_AL_fastRemove_35 : decode c_AL_fastRemove 35 = .ok (.aload_n 0, 1) := by decide +kernel
theorem d_AL_fastRemove_36 : decode c_AL_fastRemove 36 = .ok (.iload_n 3, 1) := by decide +kernel
theorem d_AL_fastRemove_37 : decode c_AL_fastRemove 37 = .ok (.dup_x1, 1) := by decide +kernel
theorem d_AL_fastRemove_38 : decode c_AL_fastRemove 38 = .ok (.putfield 48, 3) := by decide +kernel
theorem d_AL_fastRemove_41 : decode c_AL_fastRemove 41 = .ok (.aconst_null, 1) := by decide +kernel
theorem d_AL_fastRemove_42 : decode c_AL_fastRemove 42 = .ok (.aastore, 1) := by decide +kernel
theorem d_AL_fastRemove_43 : decode c_AL_fastRemove 43 = .ok (.return_, 1) := by decide +kernel
theorem d_AB_init_0 : decode c_AB_init 0 = .ok (.aload_n 0, 1) := by decide +kernel
theorem d_AB_init_1 : decode c_AB_init 1 = .ok (.invokespecial 1, 3) := by decide +kernel
theorem d_AB_init_4 : decode c_AB_init 4 = .ok (.aload_n 0, 1) := by decide +kernel
theorem d_AB_init_5 : decode c_AB_init 5 = .ok (.iconst 0, 1) := by decide +kernel
theorem d_AB_init_6 : decode c_AB_init 6 = .ok (.putfield 7, 3) := by decide +kernel
theorem d_AB_init_9 : decode c_AB_init 9 = .ok (.return_, 1) := by decide +kernel
theorem d_AC_init_0 : decode c_AC_init 0 = .ok (.aload_n 0, 1) := by decide +kernel
theorem d_AC_init_1 : decode c_AC_init 1 = .ok (.invokespecial 1, 3) := by decide +kernel
theorem d_AC_init_4 : decode c_AC_init 4 = .ok (.return_, 1) := by decide +kernel
theorem d_AS_newLength_0 : decode c_AS_newLength 0 = .ok (.iload_n 0, 1) := by decide +kernel
theorem d_AS_newLength_1 : decode c_AS_newLength 1 = .ok (.iload_n 1, 1) := by decide +kernel
theorem d_AS_newLength_2 : decode c_AS_newLength 2 = .ok (.iload_n 2, 1) := by decide +kernel
theorem d_AS_newLength_3 : decode c_AS_newLength 3 = .ok (.invokestatic 194, 3) := by decide +kernel
theorem d_AS_newLength_6 : decode c_AS_newLength 6 = .ok (.iadd, 1) := by decide +kernel
theorem d_AS_newLength_7 : decode c_AS_newLength 7 = .ok (.istore_n 3, 1) := by decide +kernel
theorem d_AS_newLength_8 : decode c_AS_newLength 8 = .ok (.iconst 0, 1) := by decide +kernel
theorem d_AS_newLength_9 : decode c_AS_newLength 9 = .ok (.iload_n 3, 1) := by decide +kernel
theorem d_AS_newLength_10 : decode c_AS_newLength 10 = .ok (.if_icmp .ge 11, 3) := by decide +kernel
theorem d_AS_newLength_13 : decode c_AS_newLength 13 = .ok (.iload_n 3, 1) := by decide +kernel
theorem d_AS_newLength_14 : decode c_AS_newLength 14 = .ok (.ldc 200, 2) := by decide +kernel
theorem d_AS_newLength_16 : decode c_AS_newLength 16 = .ok (.if_icmp .gt 5, 3) := by decide +kernel
theorem d_AS_newLength_19 : decode c_AS_newLength 19 = .ok (.iload_n 3, 1) := by decide +kernel
theorem d_AS_newLength_20 : decode c_AS_newLength 20 = .ok (.ireturn, 1) := by decide +kernel
theorem d_AS_newLength_21 : decode c_AS_newLength 21 = .ok (.iload_n 0, 1) := by decide +kernel
theorem d_AS_newLength_22 : decode c_AS_newLength 22 = .ok (.iload_n 1, 1) := by decide +kernel
theorem d_AS_newLength_23 : decode c_AS_newLength 23 = .ok (.invokestatic 201, 3) := by decide +kernel
theorem d_AS_newLength_26 : decode c_AS_newLength 26 = .ok (.ireturn, 1) := by decide +kernel
theorem d_AS_hugeLength_0 : decode c_AS_hugeLength 0 = .ok (.iload_n 0, 1) := by decide +kernel
theorem d_AS_hugeLength_1 : decode c_AS_hugeLength 1 = .ok (.iload_n 1, 1) := by decide +kernel
theorem d_AS_hugeLength_2 : decode c_AS_hugeLength 2 = .ok (.iadd, 1) := by decide +kernel
theorem d_AS_hugeLength_3 : decode c_AS_hugeLength 3 = .ok (.istore_n 2, 1) := by decide +kernel
theorem d_AS_hugeLength_4 : decode c_AS_hugeLength 4 = .ok (.iload_n 2, 1) := by decide +kernel
theorem d_AS_hugeLength_5 : decode c_AS_hugeLength 5 = .ok (.ifCond .ge 44, 3) := by decide +kernel
theorem d_AS_hugeLength_8 : decode c_AS_hugeLength 8 = .ok (.new 204, 3) := by decide +kernel
theorem d_AS_hugeLength_11 : decode c_AS_hugeLength 11 = .ok (.dup, 1) := by decide +kernel
theorem d_AS_hugeLength_12 : decode c_AS_hugeLength 12 = .ok (.new 89, 3) := by decide +kernel
theorem d_AS_hugeLength_15 : decode c_AS_hugeLength 15 = .ok (.dup, 1) := by decide +kernel
theorem d_AS_hugeLength_16 : decode c_AS_hugeLength 16 = .ok (.invokespecial 91, 3) := by decide +kernel
theorem d_AS_hugeLength_19 : decode c_AS_hugeLength 19 = .ok (.ldc 206, 2) := by decide +kernel
theorem d_AS_hugeLength_21 : decode c_AS_hugeLength 21 = .ok (.invokevirtual 94, 3) := by decide +kernel
theorem d_AS_hugeLength_24 : decode c_AS_hugeLength 24 = .ok (.iload_n 0, 1) := by decide +kernel
theorem d_AS_hugeLength_25 : decode c_AS_hugeLength 25 = .ok (.invokevirtual 98, 3) := by decide +kernel
theorem d_AS_hugeLength_28 : decode c_AS_hugeLength 28 = .ok (.ldc 208, 2) := by decide +kernel
theorem d_AS_hugeLength_30 : decode c_AS_hugeLength 30 = .ok (.invokevirtual 94, 3) := by decide +kernel
theorem d_AS_hugeLength_33 : decode c_AS_hugeLength 33 = .ok (.iload_n 1, 1) := by decide +kernel
theorem d_AS_hugeLength_34 : decode c_AS_hugeLength 34 = .ok (.invokevirtual 98, 3) := by decide +kernel
theorem d_AS_hugeLength_37 : decode c_AS_hugeLength 37 = .ok (.ldc 210, 2) := by decide +kernel
theorem d_AS_hugeLength_39 : decode c_AS_hugeLength 39 = .ok (.invokevirtual 94, 3) := by decide +kernel
theorem d_AS_hugeLength_42 : decode c_AS_hugeLength 42 = .ok (.invokevirtual 101, 3) := by decide +kernel
theorem d_AS_hugeLength_45 : decode c_AS_hugeLength 45 = .ok (.invokespecial 212, 3) := by decide +kernel
theorem d_AS_hugeLength_48 : decode c_AS_hugeLength 48 = .ok (.athrow, 1) := by decide +kernel
theorem d_AS_hugeLength_49 : decode c_AS_hugeLength 49 = .ok (.iload_n 2, 1) := by decide +kernel
theorem d_AS_hugeLength_50 : decode c_AS_hugeLength 50 = .ok (.ldc 200, 2) := by decide +kernel
theorem d_AS_hugeLength_52 : decode c_AS_hugeLength 52 = .ok (.if_icmp .gt 6, 3) := by decide +kernel
theorem d_AS_hugeLength_55 : decode c_AS_hugeLength 55 = .ok (.ldc 200, 2) := by decide +kernel
theorem d_AS_hugeLength_57 : decode c_AS_hugeLength 57 = .ok (.ireturn, 1) := by decide +kernel
theorem d_AS_hugeLength_58 : decode c_AS_hugeLength 58 = .ok (.iload_n 2, 1) := by decide +kernel
theorem d_AS_hugeLength_59 : decode c_AS_hugeLength 59 = .ok (.ireturn, 1) := by decide +kernel
theorem d_MA_max_0 : decode c_MA_max 0 = .ok (.iload_n 0, 1) := by decide +kernel
theorem d_MA_max_1 : decode c_MA_max 1 = .ok (.iload_n 1, 1) := by decide +kernel
theorem d_MA_max_2 : decode c_MA_max 2 = .ok (.if_icmp .lt 7, 3) := by decide +kernel
theorem d_MA_max_5 : decode c_MA_max 5 = .ok (.iload_n 0, 1) := by decide +kernel
theorem d_MA_max_6 : decode c_MA_max 6 = .ok (.goto 4, 3) := by decide +kernel
theorem d_MA_max_9 : decode c_MA_max 9 = .ok (.iload_n 1, 1) := by decide +kernel
theorem d_MA_max_10 : decode c_MA_max 10 = .ok (.ireturn, 1) := by decide +kernel
theorem d_MA_min_0 : decode c_MA_min 0 = .ok (.iload_n 0, 1) := by decide +kernel
theorem d_MA_min_1 : decode c_MA_min 1 = .ok (.iload_n 1, 1) := by decide +kernel
theorem d_MA_min_2 : decode c_MA_min 2 = .ok (.if_icmp .gt 7, 3) := by decide +kernel
theorem d_MA_min_5 : decode c_MA_min 5 = .ok (.iload_n 0, 1) := by decide +kernel
theorem d_MA_min_6 : decode c_MA_min 6 = .ok (.goto 4, 3) := by decide +kernel
theorem d_MA_min_9 : decode c_MA_min 9 = .ok (.iload_n 1, 1) := by decide +kernel
theorem d_MA_min_10 : decode c_MA_min 10 = .ok (.ireturn, 1) := by decide +kernel
theorem d_AR_copyOf2_0 : decode c_AR_copyOf2 0 = .ok (.aload_n 0, 1) := by decide +kernel
theorem d_AR_copyOf2_1 : decode c_AR_copyOf2 1 = .ok (.iload_n 1, 1) := by decide +kernel
theorem d_AR_copyOf2_2 : decode c_AR_copyOf2 2 = .ok (.aload_n 0, 1) := by decide +kernel
theorem d_AR_copyOf2_3 : decode c_AR_copyOf2 3 = .ok (.invokevirtual 86, 3) := by decide +kernel
theorem d_AR_copyOf2_6 : decode c_AR_copyOf2 6 = .ok (.invokestatic 300, 3) := by decide +kernel
theorem d_AR_copyOf2_9 : decode c_AR_copyOf2 9 = .ok (.areturn, 1) := by decide +kernel
theorem d_AR_copyOf3_0 : decode c_AR_copyOf3 0 = .ok (.aload_n 2, 1) := by decide +kernel
theorem d_AR_copyOf3_1 : decode c_AR_copyOf3 1 = .ok (.ldc 110, 2) := by decide +kernel
theorem d_AR_copyOf3_3 : decode c_AR_copyOf3 3 = .ok (.if_acmp .ne 10, 3) := by decide +kernel
theorem d_AR_copyOf3_6 : decode c_AR_copyOf3 6 = .ok (.iload_n 1, 1) := by decide +kernel
theorem d_AR_copyOf3_7 : decode c_AR_copyOf3 7 = .ok (.anewarray 2, 3) := by decide +kernel
theorem d_AR_copyOf3_10 : decode c_AR_copyOf3 10 = .ok (.goto 14, 3) := by decide +kernel
theorem d_AR_copyOf3_13 : decode c_AR_copyOf3 13 = .ok (.aload_n 2, 1) := by decide +kernel
theorem d_AR_copyOf3_14 : decode c_AR_copyOf3 14 = .ok (.invokevirtual 90, 3) := by decide +kernel
theorem d_AR_copyOf3_17 : decode c_AR_copyOf3 17 = .ok (.iload_n 1, 1) := by decide +kernel
theorem d_AR_copyOf3_18 : decode c_AR_copyOf3 18 = .ok (.invokestatic 95, 3) := by decide +kernel
theorem d_AR_copyOf3_21 : decode c_AR_copyOf3 21 = .ok (.checkcast 110, 3) := by decide +kernel
theorem d_AR_copyOf3_24 : decode c_AR_copyOf3 24 = .ok (.astore_n 3, 1) := by decide +kernel
theorem d_AR_copyOf3_25 : decode c_AR_copyOf3 25 = .ok (.aload_n 0, 1) := by decide +kernel
theorem d_AR_copyOf3_26 : decode c_AR_copyOf3 26 = .ok (.iconst 0, 1) := by decide +kernel
theorem d_AR_copyOf3_27 : decode c_AR_copyOf3 27 = .ok (.aload_n 3, 1) := by decide +kernel
theorem d_AR_copyOf3_28 : decode c_AR_copyOf3 28 = .ok (.iconst 0, 1) := by decide +kernel
theorem d_AR_copyOf3_29 : decode c_AR_copyOf3 29 = .ok (.aload_n 0, 1) := by decide +kernel
theorem d_AR_copyOf3_30 : decode c_AR_copyOf3 30 = .ok (.arraylength, 1) := by decide +kernel
theorem d_AR_copyOf3_31 : decode c_AR_copyOf3 31 = .ok (.iload_n 1, 1) := by decide +kernel
theorem d_AR_copyOf3_32 : decode c_AR_copyOf3 32 = .ok (.invokestatic 304, 3) := by decide +kernel
theorem d_AR_copyOf3_35 : decode c_AR_copyOf3 35 = .ok (.invokestatic 150, 3) := by decide +kernel
theorem d_AR_copyOf3_38 : decode c_AR_copyOf3 38 = .ok (.aload_n 3, 1) := by decide +kernel
theorem d_AR_copyOf3_39 : decode c_AR_copyOf3 39 = .ok (.areturn, 1) := by decide +kernel
theorem d_OJ_checkIndex_0 : decode c_OJ_checkIndex 0 = .ok (.iload_n 0, 1) := by decide +kernel
theorem d_OJ_checkIndex_1 : decode c_OJ_checkIndex 1 = .ok (.iload_n 1, 1) := by decide +kernel
theorem d_OJ_checkIndex_2 : decode c_OJ_checkIndex 2 = .ok (.aconst_null, 1) := by decide +kernel
theorem d_OJ_checkIndex_3 : decode c_OJ_checkIndex 3 = .ok (.invokestatic 105, 3) := by decide +kernel
theorem d_OJ_checkIndex_6 : decode c_OJ_checkIndex 6 = .ok (.ireturn, 1) := by decide +kernel
theorem d_PC_checkIndex_0 : decode c_PC_checkIndex 0 = .ok (.iload_n 0, 1) := by decide +kernel
theorem d_PC_checkIndex_1 : decode c_PC_checkIndex 1 = .ok (.ifCond .lt 8, 3) := by decide +kernel
theorem d_PC_checkIndex_4 : decode c_PC_checkIndex 4 = .ok (.iload_n 0, 1) := by decide +kernel
theorem d_PC_checkIndex_5 : decode c_PC_checkIndex 5 = .ok (.iload_n 1, 1) := by decide +kernel
theorem d_PC_checkIndex_6 : decode c_PC_checkIndex 6 = .ok (.if_icmp .lt 10, 3) := by decide +kernel
theorem d_PC_checkIndex_9 : decode c_PC_checkIndex 9 = .ok (.aload_n 2, 1) := by decide +kernel
theorem d_PC_checkIndex_10 : decode c_PC_checkIndex 10 = .ok (.iload_n 0, 1) := by decide +kernel
theorem d_PC_checkIndex_11 : decode c_PC_checkIndex 11 = .ok (.iload_n 1, 1) := by decide +kernel
theorem d_PC_checkIndex_12 : decode c_PC_checkIndex 12 = .ok (.invokestatic 95, 3) := by decide +kernel
theorem d_PC_checkIndex_15 : decode c_PC_checkIndex 15 = .ok (.athrow, 1) := by decide +kernel
theorem d_PC_checkIndex_16 : decode c_PC_checkIndex 16 = .ok (.iload_n 0, 1) := by decide +kernel
theorem d_PC_checkIndex_17 : decode c_PC_checkIndex 17 = .ok (.ireturn, 1) := by decide +kernel
end
section
abbrev rm_KF_init : Room := { frames := 4, cells := 2, slots := 6, locals := 80 }
abbrev rm_AL_init : Room := { frames := 3, cells := 0, slots := 0, locals := 60 }
abbrev rm_AB_init : Room := { frames := 2, cells := 0, slots := 0, locals := 40 }
abbrev rm_AC_init : Room := { frames := 1, cells := 0, slots := 0, locals := 20 }
abbrev rm_KF_key : Room := { frames := 7, cells := 3, slots := 375, locals := 169 }
abbrev rm_AL_size : Room := { frames := 0, cells := 0, slots := 0, locals := 0 }
abbrev rm_KI_init : Room := { frames := 4, cells := 1, slots := 3, locals := 80 }
abbrev rm_AL_add1 : Room := { frames := 6, cells := 1, slots := 366, locals := 148 }
abbrev rm_AL_addA : Room := { frames := 5, cells := 1, slots := 366, locals := 125 }
abbrev rm_AL_grow0 : Room := { frames := 4, cells := 1, slots := 366, locals := 105 }
abbrev rm_AL_growI : Room := { frames := 3, cells := 1, slots := 366, locals := 82 }
abbrev rm_AS_newLength : Room := { frames := 1, cells := 0, slots := 0, locals := 22 }
abbrev rm_MA_max : Room := { frames := 0, cells := 0, slots := 0, locals := 0 }
abbrev rm_AS_hugeLength : Room := { frames := 0, cells := 0, slots := 0, locals := 0 }
abbrev rm_AR_copyOf2 : Room := { frames := 2, cells := 1, slots := 366, locals := 61 }
abbrev rm_AR_copyOf3 : Room := { frames := 1, cells := 1, slots := 366, locals := 38 }
abbrev rm_MA_min : Room := { frames := 0, cells := 0, slots := 0, locals := 0 }
abbrev rm_KF_sparse : Room := { frames := 4, cells := 0, slots := 0, locals := 85 }
abbrev rm_KF_indexAt : Room := { frames := 3, cells := 0, slots := 0, locals := 64 }
abbrev rm_AL_get : Room := { frames := 2, cells := 0, slots := 0, locals := 43 }
abbrev rm_OJ_checkIndex : Room := { frames := 1, cells := 0, slots := 0, locals := 22 }
abbrev rm_PC_checkIndex : Room := { frames := 0, cells := 0, slots := 0, locals := 0 }
abbrev rm_AL_elementData : Room := { frames := 0, cells := 0, slots := 0, locals := 0 }
abbrev rm_KI_leaveOut : Room := { frames := 0, cells := 0, slots := 0, locals := 0 }
abbrev rm_KF_view : Room := { frames := 7, cells := 2, slots := 378, locals := 169 }
abbrev rm_AL_isEmpty : Room := { frames := 0, cells := 0, slots := 0, locals := 0 }
abbrev rm_VW_init : Room := { frames := 1, cells := 0, slots := 0, locals := 20 }
abbrev rm_KF_open : Room := { frames := 4, cells := 0, slots := 0, locals := 85 }
abbrev rm_KF_viewAt : Room := { frames := 3, cells := 0, slots := 0, locals := 64 }
abbrev rm_KF_dropAllRecords : Room := { frames := 3, cells := 0, slots := 0, locals := 64 }
abbrev rm_AL_clear : Room := { frames := 0, cells := 0, slots := 0, locals := 0 }
abbrev rm_VW_forgetRead : Room := { frames := 0, cells := 0, slots := 0, locals := 0 }
abbrev rm_VW_lose : Room := { frames := 0, cells := 0, slots := 0, locals := 0 }
abbrev rm_VW_begin : Room := { frames := 1, cells := 0, slots := 0, locals := 20 }
abbrev rm_KF_close : Room := { frames := 4, cells := 0, slots := 0, locals := 85 }
abbrev rm_KF_write : Room := { frames := 9, cells := 13, slots := 2217, locals := 221 }
abbrev rm_VW_refusalToWrite : Room := { frames := 0, cells := 0, slots := 0, locals := 0 }
abbrev rm_KF_isOutOfOrder : Room := { frames := 5, cells := 0, slots := 0, locals := 109 }
abbrev rm_KF_fieldOf : Room := { frames := 4, cells := 0, slots := 0, locals := 85 }
abbrev rm_KI_fieldIn : Room := { frames := 0, cells := 0, slots := 0, locals := 0 }
abbrev rm_KF_isBelow : Room := { frames := 0, cells := 0, slots := 0, locals := 0 }
abbrev rm_KI_entryAt : Room := { frames := 3, cells := 0, slots := 0, locals := 64 }
abbrev rm_KF_hasBarredDouble : Room := { frames := 6, cells := 0, slots := 0, locals := 135 }
abbrev rm_KI_firstEqual : Room := { frames := 5, cells := 0, slots := 0, locals := 112 }
abbrev rm_KI_countAheadOf : Room := { frames := 4, cells := 0, slots := 0, locals := 85 }
abbrev rm_EN_standsAheadOf : Room := { frames := 1, cells := 0, slots := 0, locals := 23 }
abbrev rm_KF_entryCount : Room := { frames := 4, cells := 0, slots := 0, locals := 85 }
abbrev rm_VW_noteWritten : Room := { frames := 0, cells := 0, slots := 0, locals := 0 }
abbrev rm_ST_init : Room := { frames := 1, cells := 0, slots := 0, locals := 20 }
abbrev rm_KF_enterUnderAllKeys : Room := { frames := 8, cells := 12, slots := 2214, locals := 198 }
abbrev rm_KF_enterUnder : Room := { frames := 7, cells := 2, slots := 369, locals := 176 }
abbrev rm_KI_enter : Room := { frames := 6, cells := 2, slots := 369, locals := 149 }
abbrev rm_KI_leavesOut : Room := { frames := 0, cells := 0, slots := 0, locals := 0 }
abbrev rm_EN_init : Room := { frames := 1, cells := 0, slots := 0, locals := 20 }
abbrev rm_AL_addI : Room := { frames := 5, cells := 1, slots := 366, locals := 125 }
abbrev rm_AL_rangeCheckForAdd : Room := { frames := 0, cells := 0, slots := 0, locals := 0 }
abbrev rm_KF_read : Room := { frames := 7, cells := 0, slots := 0, locals := 159 }
abbrev rm_VW_refusalToRead : Room := { frames := 0, cells := 0, slots := 0, locals := 0 }
abbrev rm_KF_handOver : Room := { frames := 6, cells := 0, slots := 0, locals := 136 }
abbrev rm_VW_noteRead : Room := { frames := 1, cells := 0, slots := 0, locals := 21 }
abbrev rm_VW_standAt : Room := { frames := 0, cells := 0, slots := 0, locals := 0 }
abbrev rm_KI_hasEqualNextTo : Room := { frames := 5, cells := 0, slots := 0, locals := 112 }
abbrev rm_KF_value : Room := { frames := 4, cells := 0, slots := 0, locals := 85 }
abbrev rm_KF_start : Room := { frames := 6, cells := 0, slots := 0, locals := 141 }
abbrev rm_KI_findByPart : Room := { frames := 5, cells := 0, slots := 0, locals := 114 }
abbrev rm_KI_countByPart : Room := { frames := 4, cells := 0, slots := 0, locals := 85 }
abbrev rm_KI_partOf : Room := { frames := 0, cells := 0, slots := 0, locals := 0 }
abbrev rm_KF_next : Room := { frames := 7, cells := 0, slots := 0, locals := 159 }
abbrev rm_KI_entryAheadOf : Room := { frames := 5, cells := 0, slots := 0, locals := 112 }
abbrev rm_KI_entryBehind : Room := { frames := 5, cells := 0, slots := 0, locals := 112 }
abbrev rm_KF_rewrite : Room := { frames := 9, cells := 12, slots := 2214, locals := 226 }
abbrev rm_VW_refusalToChange : Room := { frames := 0, cells := 0, slots := 0, locals := 0 }
abbrev rm_KF_recordToChange : Room := { frames := 6, cells := 0, slots := 0, locals := 135 }
abbrev rm_VW_statusOfNoRecord : Room := { frames := 0, cells := 0, slots := 0, locals := 0 }
abbrev rm_KF_moveChangedEntries : Room := { frames := 8, cells := 12, slots := 2214, locals := 198 }
abbrev rm_KI_drop : Room := { frames := 5, cells := 0, slots := 0, locals := 112 }
abbrev rm_AL_remove : Room := { frames := 2, cells := 0, slots := 0, locals := 61 }
abbrev rm_AL_fastRemove : Room := { frames := 1, cells := 0, slots := 0, locals := 38 }
abbrev rm_KF_remove : Room := { frames := 7, cells := 0, slots := 0, locals := 160 }
abbrev rm_KF_dropRecord : Room := { frames := 6, cells := 0, slots := 0, locals := 136 }
abbrev rm_KF_scan : Room := { frames := 4, cells := 0, slots := 0, locals := 85 }
abbrev rm_KF_reference : Room := { frames := 4, cells := 0, slots := 0, locals := 85 }
abbrev rm_KF_count : Room := { frames := 5, cells := 0, slots := 0, locals := 107 }
abbrev rm_KF_whole : Room := { frames := 5, cells := 0, slots := 0, locals := 109 }
abbrev rm_KI_isInOrder : Room := { frames := 3, cells := 0, slots := 0, locals := 69 }
abbrev rm_KI_isRightlyAhead : Room := { frames := 2, cells := 0, slots := 0, locals := 47 }
abbrev rm_KF_entriesDue : Room := { frames := 4, cells := 0, slots := 0, locals := 85 }
abbrev rm_MD_init : Room := { frames := 1, cells := 20, slots := 2490, locals := 20 }
abbrev rm_MD_key : Room := { frames := 0, cells := 0, slots := 0, locals := 0 }
abbrev rm_MD_sparse : Room := { frames := 1, cells := 0, slots := 0, locals := 21 }
abbrev rm_MD_isKey : Room := { frames := 0, cells := 0, slots := 0, locals := 0 }
abbrev rm_MD_view : Room := { frames := 0, cells := 0, slots := 0, locals := 0 }
abbrev rm_MD_open : Room := { frames := 1, cells := 0, slots := 0, locals := 21 }
abbrev rm_MD_isView : Room := { frames := 0, cells := 0, slots := 0, locals := 0 }
abbrev rm_MD_close : Room := { frames := 1, cells := 0, slots := 0, locals := 21 }
abbrev rm_MD_write : Room := { frames := 5, cells := 0, slots := 0, locals := 123 }
abbrev rm_MD_forget : Room := { frames := 0, cells := 0, slots := 0, locals := 0 }
abbrev rm_MD_field : Room := { frames := 0, cells := 0, slots := 0, locals := 0 }
abbrev rm_MD_isLess : Room := { frames := 0, cells := 0, slots := 0, locals := 0 }
abbrev rm_MD_barred : Room := { frames := 4, cells := 0, slots := 0, locals := 95 }
abbrev rm_MD_isEntry : Room := { frames := 2, cells := 0, slots := 0, locals := 48 }
abbrev rm_MD_hasEntry : Room := { frames := 1, cells := 0, slots := 0, locals := 25 }
abbrev rm_MD_equal : Room := { frames := 3, cells := 0, slots := 0, locals := 70 }
abbrev rm_MD_rankAll : Room := { frames := 3, cells := 0, slots := 0, locals := 70 }
abbrev rm_MD_read : Room := { frames := 6, cells := 0, slots := 0, locals := 147 }
abbrev rm_MD_reads : Room := { frames := 0, cells := 0, slots := 0, locals := 0 }
abbrev rm_MD_after : Room := { frames := 3, cells := 0, slots := 0, locals := 70 }
abbrev rm_MD_isAhead : Room := { frames := 1, cells := 0, slots := 0, locals := 25 }
abbrev rm_MD_rank : Room := { frames := 0, cells := 0, slots := 0, locals := 0 }
abbrev rm_MD_isBehind : Room := { frames := 1, cells := 0, slots := 0, locals := 25 }
abbrev rm_MD_got : Room := { frames := 5, cells := 0, slots := 0, locals := 123 }
abbrev rm_MD_status : Room := { frames := 4, cells := 0, slots := 0, locals := 97 }
abbrev rm_MD_ahead : Room := { frames := 3, cells := 0, slots := 0, locals := 70 }
abbrev rm_MD_value : Room := { frames := 1, cells := 0, slots := 0, locals := 21 }
abbrev rm_MD_start : Room := { frames := 3, cells := 0, slots := 0, locals := 70 }
abbrev rm_MD_holds : Room := { frames := 1, cells := 0, slots := 0, locals := 23 }
abbrev rm_MD_next : Room := { frames := 6, cells := 0, slots := 0, locals := 147 }
abbrev rm_MD_rewrite : Room := { frames := 5, cells := 0, slots := 0, locals := 123 }
abbrev rm_MD_had : Room := { frames := 0, cells := 0, slots := 0, locals := 0 }
abbrev rm_MD_byPrime : Room := { frames := 4, cells := 0, slots := 0, locals := 95 }
abbrev rm_MD_remove : Room := { frames := 5, cells := 0, slots := 0, locals := 117 }
abbrev rm_MD_scan : Room := { frames := 4, cells := 0, slots := 0, locals := 97 }
abbrev rm_MD_reference : Room := { frames := 1, cells := 0, slots := 0, locals := 21 }
abbrev rm_MD_count : Room := { frames := 3, cells := 0, slots := 0, locals := 70 }
abbrev rm_MD_whole : Room := { frames := 0, cells := 0, slots := 0, locals := 0 }
theorem lk_KF_9 {R : Room} {s : State} {args : Array Value} {c0 : Cond} (hts : ∀ w ∈ c0 :: XT, w.before args s = true) (hf : rm_AL_init.frames + 1 ≤ R.frames) (hl : 8 + (1 + 11) + rm_AL_init.locals ≤ R.locals) : CallB R s args R_KF 9 y_AL_init c_AL_init 1 (Option.none : Option FieldType) w_AL_init rm_AL_init 0 0 0 ∧ y_AL_init.name = "<init>" ∧ (Cond.instanceMethod y_AL_init).before args s = true := ⟨callB_of 0 hts (xt_good kc_AL_init) rfl rfl rfl (hts _ (List.mem_cons_of_mem _ kz_AL)) (hts _ (List.mem_cons_of_mem _ m_KF_9)) (by decide +kernel) ⟨hf, hl⟩, rfl, hts _ (List.mem_cons_of_mem _ ki_AL_init)⟩
theorem lk_AL_1 {R : Room} {s : State} {args : Array Value} {c0 : Cond} (hts : ∀ w ∈ c0 :: XT, w.before args s = true) (hf : rm_AB_init.frames + 1 ≤ R.frames) (hl : 8 + (1 + 11) + rm_AB_init.locals ≤ R.locals) : CallB R s args R_AL 1 y_AB_init c_AB_init 1 (Option.none : Option FieldType) w_AB_init rm_AB_init 0 0 0 ∧ y_AB_init.name = "<init>" ∧ (Cond.instanceMethod y_AB_init).before args s = true := ⟨callB_of 0 hts (xt_good kc_AB_init) rfl rfl rfl (hts _ (List.mem_cons_of_mem _ kz_AB)) (hts _ (List.mem_cons_of_mem _ m_AL_1)) (by decide +kernel) ⟨hf, hl⟩, rfl, hts _ (List.mem_cons_of_mem _ ki_AB_init)⟩
theorem lk_AB_1 {R : Room} {s : State} {args : Array Value} {c0 : Cond} (hts : ∀ w ∈ c0 :: XT, w.before args s = true) (hf : rm_AC_init.frames + 1 ≤ R.frames) (hl : 8 + (1 + 11) + rm_AC_init.locals ≤ R.locals) : CallB R s args R_AB 1 y_AC_init c_AC_init 1 (Option.none : Option FieldType) w_AC_init rm_AC_init 0 0 0 ∧ y_AC_init.name = "<init>" ∧ (Cond.instanceMethod y_AC_init).before args s = true := ⟨callB_of 0 hts (xt_good kc_AC_init) rfl rfl rfl (hts _ (List.mem_cons_of_mem _ kz_AC)) (hts _ (List.mem_cons_of_mem _ m_AB_1)) (by decide +kernel) ⟨hf, hl⟩, rfl, hts _ (List.mem_cons_of_mem _ ki_AC_init)⟩
theorem lk_KF_19 {R : Room} {s : State} {args : Array Value} {c0 : Cond} (hts : ∀ w ∈ c0 :: XT, w.before args s = true) (hf : rm_AL_size.frames + 1 ≤ R.frames) (hl : 8 + (1 + 11) + rm_AL_size.locals ≤ R.locals) : CallW R s args R_KF R_AL 19 y_AL_size c_AL_size 1 (Option.some FieldType.int) w_AL_size rm_AL_size 0 0 0 := ⟨callB_of 0 hts (xt_good kc_AL_size) rfl rfl rfl (hts _ (List.mem_cons_of_mem _ kz_AL)) (hts _ (List.mem_cons_of_mem _ m_KF_19)) (by decide +kernel) ⟨hf, hl⟩, hts _ (List.mem_cons_of_mem _ ki_AL_size), hts _ (List.mem_cons_of_mem _ kv_AL_size)⟩
theorem lk_KF_29 {R : Room} {s : State} {args : Array Value} {c0 : Cond} (hts : ∀ w ∈ c0 :: XT, w.before args s = true) (hf : rm_KI_init.frames + 1 ≤ R.frames) (hl : 8 + (4 + 11) + rm_KI_init.locals ≤ R.locals) : CallB R s args R_KF 29 y_KI_init c_KI_init 4 (Option.none : Option FieldType) w_KI_init rm_KI_init 1 3 3 ∧ y_KI_init.name = "<init>" ∧ (Cond.instanceMethod y_KI_init).before args s = true := ⟨callB_of 3 hts (xt_good kc_KI_init) rfl rfl rfl (hts _ (List.mem_cons_of_mem _ kz_KI)) (hts _ (List.mem_cons_of_mem _ m_KF_29)) (by decide +kernel) ⟨hf, hl⟩, rfl, hts _ (List.mem_cons_of_mem _ ki_KI_init)⟩
theorem lk_KF_32 {R : Room} {s : State} {args : Array Value} {c0 : Cond} (hts : ∀ w ∈ c0 :: XT, w.before args s = true) (hf : rm_AL_add1.frames + 1 ≤ R.frames) (hl : 8 + (2 + 11) + rm_AL_add1.locals ≤ R.locals) : CallW R s args R_KF R_AL 32 y_AL_add1 c_AL_add1 2 (Option.some FieldType.boolean) w_AL_add1 rm_AL_add1 1 366 1 := ⟨callB_of 1 hts (xt_good kc_AL_add1) rfl rfl rfl (hts _ (List.mem_cons_of_mem _ kz_AL)) (hts _ (List.mem_cons_of_mem _ m_KF_32)) (by decide +kernel) ⟨hf, hl⟩, hts _ (List.mem_cons_of_mem _ ki_AL_add1), hts _ (List.mem_cons_of_mem _ kv_AL_add1)⟩
theorem lk_KI_24 {R : Room} {s : State} {args : Array Value} {c0 : Cond} (hts : ∀ w ∈ c0 :: XT, w.before args s = true) (hf : rm_AL_init.frames + 1 ≤ R.frames) (hl : 8 + (1 + 11) + rm_AL_init.locals ≤ R.locals) : CallB R s args R_KI 24 y_AL_init c_AL_init 1 (Option.none : Option FieldType) w_AL_init rm_AL_init 0 0 0 ∧ y_AL_init.name = "<init>" ∧ (Cond.instanceMethod y_AL_init).before args s = true := ⟨callB_of 0 hts (xt_good kc_AL_init) rfl rfl rfl (hts _ (List.mem_cons_of_mem _ kz_AL)) (hts _ (List.mem_cons_of_mem _ m_KI_24)) (by decide +kernel) ⟨hf, hl⟩, rfl, hts _ (List.mem_cons_of_mem _ ki_AL_init)⟩
theorem lk_AL_131 {R : Room} {s : State} {args : Array Value} {c0 : Cond} (hts : ∀ w ∈ c0 :: XT, w.before args s = true) (hf : rm_AL_addA.frames + 1 ≤ R.frames) (hl : 8 + (4 + 11) + rm_AL_addA.locals ≤ R.locals) : CallW R s args R_AL R_AL 131 y_AL_addA c_AL_addA 4 (Option.none : Option FieldType) w_AL_addA rm_AL_addA 1 366 3 := ⟨callB_of 3 hts (xt_good kc_AL_addA) rfl rfl rfl (hts _ (List.mem_cons_of_mem _ kz_AL)) (hts _ (List.mem_cons_of_mem _ m_AL_131)) (by decide +kernel) ⟨hf, hl⟩, hts _ (List.mem_cons_of_mem _ ki_AL_addA), hts _ (List.mem_cons_of_mem _ kv_AL_addA)⟩
theorem lk_AL_129 {R : Room} {s : State} {args : Array Value} {c0 : Cond} (hts : ∀ w ∈ c0 :: XT, w.before args s = true) (hf : rm_AL_grow0.frames + 1 ≤ R.frames) (hl : 8 + (1 + 11) + rm_AL_grow0.locals ≤ R.locals) : CallW R s args R_AL R_AL 129 y_AL_grow0 c_AL_grow0 1 (Option.some (FieldType.array (FieldType.object "java/lang/Object"))) w_AL_grow0 rm_AL_grow0 1 366 0 := ⟨callB_of 0 hts (xt_good kc_AL_grow0) rfl rfl rfl (hts _ (List.mem_cons_of_mem _ kz_AL)) (hts _ (List.mem_cons_of_mem _ m_AL_129)) (by decide +kernel) ⟨hf, hl⟩, hts _ (List.mem_cons_of_mem _ ki_AL_grow0), hts _ (List.mem_cons_of_mem _ kv_AL_grow0)⟩
theorem lk_AL_69 {R : Room} {s : State} {args : Array Value} {c0 : Cond} (hts : ∀ w ∈ c0 :: XT, w.before args s = true) (hf : rm_AL_growI.frames + 1 ≤ R.frames) (hl : 8 + (4 + 11) + rm_AL_growI.locals ≤ R.locals) : CallW R s args R_AL R_AL 69 y_AL_growI c_AL_growI 4 (Option.some (FieldType.array (FieldType.object "java/lang/Object"))) w_AL_growI rm_AL_growI 1 366 1 := ⟨callB_of 1 hts (xt_good kc_AL_growI) rfl rfl rfl (hts _ (List.mem_cons_of_mem _ kz_AL)) (hts _ (List.mem_cons_of_mem _ m_AL_69)) (by decide +kernel) ⟨hf, hl⟩, hts _ (List.mem_cons_of_mem _ ki_AL_growI), hts _ (List.mem_cons_of_mem _ kv_AL_growI)⟩
theorem lk_AL_73 {R : Room} {s : State} {args : Array Value} {c0 : Cond} (hts : ∀ w ∈ c0 :: XT, w.before args s = true) (hf : rm_AS_newLength.frames + 1 ≤ R.frames) (hl : 8 + (4 + 11) + rm_AS_newLength.locals ≤ R.locals) : CallB R s args R_AL 73 y_AS_newLength c_AS_newLength 4 (Option.some FieldType.int) w_AS_newLength rm_AS_newLength 0 0 3 ∧ (Cond.static y_AS_newLength).before args s = true := ⟨callB_of 3 hts (xt_good kc_AS_newLength) rfl rfl rfl (hts _ (List.mem_cons_of_mem _ kz_AS)) (hts _ (List.mem_cons_of_mem _ m_AL_73)) (by decide +kernel) ⟨hf, hl⟩, hts _ (List.mem_cons_of_mem _ ks_AS_newLength)⟩
theorem lk_AL_66 {R : Room} {s : State} {args : Array Value} {c0 : Cond} (hts : ∀ w ∈ c0 :: XT, w.before args s = true) (hf : rm_AR_copyOf2.frames + 1 ≤ R.frames) (hl : 8 + (2 + 11) + rm_AR_copyOf2.locals ≤ R.locals) : CallB R s args R_AL 66 y_AR_copyOf2 c_AR_copyOf2 2 (Option.some (FieldType.array (FieldType.object "java/lang/Object"))) w_AR_copyOf2 rm_AR_copyOf2 1 366 2 ∧ (Cond.static y_AR_copyOf2).before args s = true := ⟨callB_of 2 hts (xt_good kc_AR_copyOf2) rfl rfl rfl (hts _ (List.mem_cons_of_mem _ kz_AR)) (hts _ (List.mem_cons_of_mem _ m_AL_66)) (by decide +kernel) ⟨hf, hl⟩, hts _ (List.mem_cons_of_mem _ ks_AR_copyOf2)⟩
theorem lk_AL_79 {R : Room} {s : State} {args : Array Value} {c0 : Cond} (hts : ∀ w ∈ c0 :: XT, w.before args s = true) (hf : rm_MA_max.frames + 1 ≤ R.frames) (hl : 8 + (2 + 11) + rm_MA_max.locals ≤ R.locals) : CallB R s args R_AL 79 y_MA_max c_MA_max 2 (Option.some FieldType.int) w_MA_max rm_MA_max 0 0 2 ∧ (Cond.static y_MA_max).before args s = true := ⟨callB_of 2 hts (xt_good kc_MA_max) rfl rfl rfl (hts _ (List.mem_cons_of_mem _ kz_MA)) (hts _ (List.mem_cons_of_mem _ m_AL_79)) (by decide +kernel) ⟨hf, hl⟩, hts _ (List.mem_cons_of_mem _ ks_MA_max)⟩
theorem lk_AS_194 {R : Room} {s : State} {args : Array Value} {c0 : Cond} (hts : ∀ w ∈ c0 :: XT, w.before args s = true) (hf : rm_MA_max.frames + 1 ≤ R.frames) (hl : 8 + (2 + 11) + rm_MA_max.locals ≤ R.locals) : CallB R s args R_AS 194 y_MA_max c_MA_max 2 (Option.some FieldType.int) w_MA_max rm_MA_max 0 0 2 ∧ (Cond.static y_MA_max).before args s = true := ⟨callB_of 2 hts (xt_good kc_MA_max) rfl rfl rfl (hts _ (List.mem_cons_of_mem _ kz_MA)) (hts _ (List.mem_cons_of_mem _ m_AS_194)) (by decide +kernel) ⟨hf, hl⟩, hts _ (List.mem_cons_of_mem _ ks_MA_max)⟩
theorem lk_AS_201 {R : Room} {s : State} {args : Array Value} {c0 : Cond} (hts : ∀ w ∈ c0 :: XT, w.before args s = true) (hf : rm_AS_hugeLength.frames + 1 ≤ R.frames) (hl : 8 + (3 + 11) + rm_AS_hugeLength.locals ≤ R.locals) : CallB R s args R_AS 201 y_AS_hugeLength c_AS_hugeLength 3 (Option.some FieldType.int) w_AS_hugeLength rm_AS_hugeLength 0 0 2 ∧ (Cond.static y_AS_hugeLength).before args s = true := ⟨callB_of 2 hts (xt_good kc_AS_hugeLength) rfl rfl rfl (hts _ (List.mem_cons_of_mem _ kz_AS)) (hts _ (List.mem_cons_of_mem _ m_AS_201)) (by decide +kernel) ⟨hf, hl⟩, hts _ (List.mem_cons_of_mem _ ks_AS_hugeLength)⟩
theorem lk_AR_300 {R : Room} {s : State} {args : Array Value} {c0 : Cond} (hts : ∀ w ∈ c0 :: XT, w.before args s = true) (hf : rm_AR_copyOf3.frames + 1 ≤ R.frames) (hl : 8 + (4 + 11) + rm_AR_copyOf3.locals ≤ R.locals) : CallB R s args R_AR 300 y_AR_copyOf3 c_AR_copyOf3 4 (Option.some (FieldType.array (FieldType.object "java/lang/Object"))) w_AR_copyOf3 rm_AR_copyOf3 1 366 3 ∧ (Cond.static y_AR_copyOf3).before args s = true := ⟨callB_of 3 hts (xt_good kc_AR_copyOf3) rfl rfl rfl (hts _ (List.mem_cons_of_mem _ kz_AR)) (hts _ (List.mem_cons_of_mem _ m_AR_300)) (by decide +kernel) ⟨hf, hl⟩, hts _ (List.mem_cons_of_mem _ ks_AR_copyOf3)⟩
theorem lk_AR_304 {R : Room} {s : State} {args : Array Value} {c0 : Cond} (hts : ∀ w ∈ c0 :: XT, w.before args s = true) (hf : rm_MA_min.frames + 1 ≤ R.frames) (hl : 8 + (2 + 11) + rm_MA_min.locals ≤ R.locals) : CallB R s args R_AR 304 y_MA_min c_MA_min 2 (Option.some FieldType.int) w_MA_min rm_MA_min 0 0 2 ∧ (Cond.static y_MA_min).before args s = true := ⟨callB_of 2 hts (xt_good kc_MA_min) rfl rfl rfl (hts _ (List.mem_cons_of_mem _ kz_MA)) (hts _ (List.mem_cons_of_mem _ m_AR_304)) (by decide +kernel) ⟨hf, hl⟩, hts _ (List.mem_cons_of_mem _ ks_MA_min)⟩
theorem lk_KF_36 {R : Room} {s : State} {args : Array Value} {c0 : Cond} (hts : ∀ w ∈ c0 :: XT, w.before args s = true) (hf : rm_KF_indexAt.frames + 1 ≤ R.frames) (hl : 8 + (2 + 11) + rm_KF_indexAt.locals ≤ R.locals) : CallW R s args R_KF R_KF 36 y_KF_indexAt c_KF_indexAt 2 (Option.some (FieldType.object "KeyedFiles$KeyIndex")) w_KF_indexAt rm_KF_indexAt 0 0 1 := ⟨callB_of 1 hts (xt_good kc_KF_indexAt) rfl rfl rfl (hts _ (List.mem_cons_of_mem _ kz_KF)) (hts _ (List.mem_cons_of_mem _ m_KF_36)) (by decide +kernel) ⟨hf, hl⟩, hts _ (List.mem_cons_of_mem _ ki_KF_indexAt), hts _ (List.mem_cons_of_mem _ kv_KF_indexAt)⟩
theorem lk_KF_40 {R : Room} {s : State} {args : Array Value} {c0 : Cond} (hts : ∀ w ∈ c0 :: XT, w.before args s = true) (hf : rm_KI_leaveOut.frames + 1 ≤ R.frames) (hl : 8 + (3 + 11) + rm_KI_leaveOut.locals ≤ R.locals) : CallW R s args R_KF R_KI 40 y_KI_leaveOut c_KI_leaveOut 3 (Option.none : Option FieldType) w_KI_leaveOut rm_KI_leaveOut 0 0 1 := ⟨callB_of 1 hts (xt_good kc_KI_leaveOut) rfl rfl rfl (hts _ (List.mem_cons_of_mem _ kz_KI)) (hts _ (List.mem_cons_of_mem _ m_KF_40)) (by decide +kernel) ⟨hf, hl⟩, hts _ (List.mem_cons_of_mem _ ki_KI_leaveOut), hts _ (List.mem_cons_of_mem _ kv_KI_leaveOut)⟩
theorem lk_KF_177 {R : Room} {s : State} {args : Array Value} {c0 : Cond} (hts : ∀ w ∈ c0 :: XT, w.before args s = true) (hf : rm_AL_get.frames + 1 ≤ R.frames) (hl : 8 + (2 + 11) + rm_AL_get.locals ≤ R.locals) : CallW R s args R_KF R_AL 177 y_AL_get c_AL_get 2 (Option.some (FieldType.object "java/lang/Object")) w_AL_get rm_AL_get 0 0 1 := ⟨callB_of 1 hts (xt_good kc_AL_get) rfl rfl rfl (hts _ (List.mem_cons_of_mem _ kz_AL)) (hts _ (List.mem_cons_of_mem _ m_KF_177)) (by decide +kernel) ⟨hf, hl⟩, hts _ (List.mem_cons_of_mem _ ki_AL_get), hts _ (List.mem_cons_of_mem _ kv_AL_get)⟩
theorem lk_AL_118 {R : Room} {s : State} {args : Array Value} {c0 : Cond} (hts : ∀ w ∈ c0 :: XT, w.before args s = true) (hf : rm_OJ_checkIndex.frames + 1 ≤ R.frames) (hl : 8 + (2 + 11) + rm_OJ_checkIndex.locals ≤ R.locals) : CallB R s args R_AL 118 y_OJ_checkIndex c_OJ_checkIndex 2 (Option.some FieldType.int) w_OJ_checkIndex rm_OJ_checkIndex 0 0 2 ∧ (Cond.static y_OJ_checkIndex).before args s = true := ⟨callB_of 2 hts (xt_good kc_OJ_checkIndex) rfl rfl rfl (hts _ (List.mem_cons_of_mem _ kz_OJ)) (hts _ (List.mem_cons_of_mem _ m_AL_118)) (by decide +kernel) ⟨hf, hl⟩, hts _ (List.mem_cons_of_mem _ ks_OJ_checkIndex)⟩
theorem lk_AL_123 {R : Room} {s : State} {args : Array Value} {c0 : Cond} (hts : ∀ w ∈ c0 :: XT, w.before args s = true) (hf : rm_AL_elementData.frames + 1 ≤ R.frames) (hl : 8 + (2 + 11) + rm_AL_elementData.locals ≤ R.locals) : CallW R s args R_AL R_AL 123 y_AL_elementData c_AL_elementData 2 (Option.some (FieldType.object "java/lang/Object")) w_AL_elementData rm_AL_elementData 0 0 1 := ⟨callB_of 1 hts (xt_good kc_AL_elementData) rfl rfl rfl (hts _ (List.mem_cons_of_mem _ kz_AL)) (hts _ (List.mem_cons_of_mem _ m_AL_123)) (by decide +kernel) ⟨hf, hl⟩, hts _ (List.mem_cons_of_mem _ ki_AL_elementData), hts _ (List.mem_cons_of_mem _ kv_AL_elementData)⟩
theorem lk_OJ_105 {R : Room} {s : State} {args : Array Value} {c0 : Cond} (hts : ∀ w ∈ c0 :: XT, w.before args s = true) (hf : rm_PC_checkIndex.frames + 1 ≤ R.frames) (hl : 8 + (3 + 11) + rm_PC_checkIndex.locals ≤ R.locals) : CallB R s args R_OJ 105 y_PC_checkIndex c_PC_checkIndex 3 (Option.some FieldType.int) w_PC_checkIndex rm_PC_checkIndex 0 0 3 ∧ (Cond.static y_PC_checkIndex).before args s = true := ⟨callB_of 3 hts (xt_good kc_PC_checkIndex) rfl rfl rfl (hts _ (List.mem_cons_of_mem _ kz_PC)) (hts _ (List.mem_cons_of_mem _ m_OJ_105)) (by decide +kernel) ⟨hf, hl⟩, hts _ (List.mem_cons_of_mem _ ks_PC_checkIndex)⟩
theorem lk_KF_44 {R : Room} {s : State} {args : Array Value} {c0 : Cond} (hts : ∀ w ∈ c0 :: XT, w.before args s = true) (hf : rm_AL_isEmpty.frames + 1 ≤ R.frames) (hl : 8 + (1 + 11) + rm_AL_isEmpty.locals ≤ R.locals) : CallW R s args R_KF R_AL 44 y_AL_isEmpty c_AL_isEmpty 1 (Option.some FieldType.boolean) w_AL_isEmpty rm_AL_isEmpty 0 0 0 := ⟨callB_of 0 hts (xt_good kc_AL_isEmpty) rfl rfl rfl (hts _ (List.mem_cons_of_mem _ kz_AL)) (hts _ (List.mem_cons_of_mem _ m_KF_44)) (by decide +kernel) ⟨hf, hl⟩, hts _ (List.mem_cons_of_mem _ ki_AL_isEmpty), hts _ (List.mem_cons_of_mem _ kv_AL_isEmpty)⟩
theorem lk_KF_50 {R : Room} {s : State} {args : Array Value} {c0 : Cond} (hts : ∀ w ∈ c0 :: XT, w.before args s = true) (hz : va_Nw (.methodLinkNest R_KF 50 y_VW_init "KeyedFiles") s) (hf : rm_VW_init.frames + 1 ≤ R.frames) (hl : 8 + (1 + 11) + rm_VW_init.locals ≤ R.locals) : va_CN R s args R_KF 50 y_VW_init "KeyedFiles" c_VW_init 1 (Option.none : Option FieldType) w_VW_init rm_VW_init 0 0 0 ∧ y_VW_init.name = "<init>" ∧ (Cond.instanceMethod y_VW_init).before args s = true := ⟨va_cnB 0 hts (xt_good kc_VW_init) rfl rfl rfl hz (hts _ (List.mem_cons_of_mem _ kz_VW)) (by decide +kernel) ⟨hf, hl⟩, rfl, hts _ (List.mem_cons_of_mem _ ki_VW_init)⟩
theorem lk_KF_51 {R : Room} {s : State} {args : Array Value} {c0 : Cond} (hts : ∀ w ∈ c0 :: XT, w.before args s = true) (hf : rm_KF_viewAt.frames + 1 ≤ R.frames) (hl : 8 + (2 + 11) + rm_KF_viewAt.locals ≤ R.locals) : CallW R s args R_KF R_KF 51 y_KF_viewAt c_KF_viewAt 2 (Option.some (FieldType.object "KeyedFiles$View")) w_KF_viewAt rm_KF_viewAt 0 0 1 := ⟨callB_of 1 hts (xt_good kc_KF_viewAt) rfl rfl rfl (hts _ (List.mem_cons_of_mem _ kz_KF)) (hts _ (List.mem_cons_of_mem _ m_KF_51)) (by decide +kernel) ⟨hf, hl⟩, hts _ (List.mem_cons_of_mem _ ki_KF_viewAt), hts _ (List.mem_cons_of_mem _ kv_KF_viewAt)⟩
theorem lk_KF_58 {R : Room} {s : State} {args : Array Value} {c0 : Cond} (hts : ∀ w ∈ c0 :: XT, w.before args s = true) (hf : rm_KF_dropAllRecords.frames + 1 ≤ R.frames) (hl : 8 + (2 + 11) + rm_KF_dropAllRecords.locals ≤ R.locals) : CallW R s args R_KF R_KF 58 y_KF_dropAllRecords c_KF_dropAllRecords 2 (Option.none : Option FieldType) w_KF_dropAllRecords rm_KF_dropAllRecords 0 0 0 := ⟨callB_of 0 hts (xt_good kc_KF_dropAllRecords) rfl rfl rfl (hts _ (List.mem_cons_of_mem _ kz_KF)) (hts _ (List.mem_cons_of_mem _ m_KF_58)) (by decide +kernel) ⟨hf, hl⟩, hts _ (List.mem_cons_of_mem _ ki_KF_dropAllRecords), hts _ (List.mem_cons_of_mem _ kv_KF_dropAllRecords)⟩
theorem lk_KF_61 {R : Room} {s : State} {args : Array Value} {c0 : Cond} (hts : ∀ w ∈ c0 :: XT, w.before args s = true) (hf : rm_VW_begin.frames + 1 ≤ R.frames) (hl : 8 + (3 + 11) + rm_VW_begin.locals ≤ R.locals) : CallW R s args R_KF R_VW 61 y_VW_begin c_VW_begin 3 (Option.none : Option FieldType) w_VW_begin rm_VW_begin 0 0 2 := ⟨callB_of 2 hts (xt_good kc_VW_begin) rfl rfl rfl (hts _ (List.mem_cons_of_mem _ kz_VW)) (hts _ (List.mem_cons_of_mem _ m_KF_61)) (by decide +kernel) ⟨hf, hl⟩, hts _ (List.mem_cons_of_mem _ ki_VW_begin), hts _ (List.mem_cons_of_mem _ kv_VW_begin)⟩
theorem lk_KF_235 {R : Room} {s : State} {args : Array Value} {c0 : Cond} (hts : ∀ w ∈ c0 :: XT, w.before args s = true) (hf : rm_AL_clear.frames + 1 ≤ R.frames) (hl : 8 + (4 + 11) + rm_AL_clear.locals ≤ R.locals) : CallW R s args R_KF R_AL 235 y_AL_clear c_AL_clear 4 (Option.none : Option FieldType) w_AL_clear rm_AL_clear 0 0 0 := ⟨callB_of 0 hts (xt_good kc_AL_clear) rfl rfl rfl (hts _ (List.mem_cons_of_mem _ kz_AL)) (hts _ (List.mem_cons_of_mem _ m_KF_235)) (by decide +kernel) ⟨hf, hl⟩, hts _ (List.mem_cons_of_mem _ ki_AL_clear), hts _ (List.mem_cons_of_mem _ kv_AL_clear)⟩
theorem lk_KF_65 {R : Room} {s : State} {args : Array Value} {c0 : Cond} (hts : ∀ w ∈ c0 :: XT, w.before args s = true) (hf : rm_VW_forgetRead.frames + 1 ≤ R.frames) (hl : 8 + (1 + 11) + rm_VW_forgetRead.locals ≤ R.locals) : CallW R s args R_KF R_VW 65 y_VW_forgetRead c_VW_forgetRead 1 (Option.none : Option FieldType) w_VW_forgetRead rm_VW_forgetRead 0 0 0 := ⟨callB_of 0 hts (xt_good kc_VW_forgetRead) rfl rfl rfl (hts _ (List.mem_cons_of_mem _ kz_VW)) (hts _ (List.mem_cons_of_mem _ m_KF_65)) (by decide +kernel) ⟨hf, hl⟩, hts _ (List.mem_cons_of_mem _ ki_VW_forgetRead), hts _ (List.mem_cons_of_mem _ kv_VW_forgetRead)⟩
theorem lk_KF_112 {R : Room} {s : State} {args : Array Value} {c0 : Cond} (hts : ∀ w ∈ c0 :: XT, w.before args s = true) (hf : rm_VW_lose.frames + 1 ≤ R.frames) (hl : 8 + (1 + 11) + rm_VW_lose.locals ≤ R.locals) : CallW R s args R_KF R_VW 112 y_VW_lose c_VW_lose 1 (Option.none : Option FieldType) w_VW_lose rm_VW_lose 0 0 0 := ⟨callB_of 0 hts (xt_good kc_VW_lose) rfl rfl rfl (hts _ (List.mem_cons_of_mem _ kz_VW)) (hts _ (List.mem_cons_of_mem _ m_KF_112)) (by decide +kernel) ⟨hf, hl⟩, hts _ (List.mem_cons_of_mem _ ki_VW_lose), hts _ (List.mem_cons_of_mem _ kv_VW_lose)⟩
theorem lk_VW_34 {R : Room} {s : State} {args : Array Value} {c0 : Cond} (hts : ∀ w ∈ c0 :: XT, w.before args s = true) (hf : rm_VW_forgetRead.frames + 1 ≤ R.frames) (hl : 8 + (1 + 11) + rm_VW_forgetRead.locals ≤ R.locals) : CallW R s args R_VW R_VW 34 y_VW_forgetRead c_VW_forgetRead 1 (Option.none : Option FieldType) w_VW_forgetRead rm_VW_forgetRead 0 0 0 := ⟨callB_of 0 hts (xt_good kc_VW_forgetRead) rfl rfl rfl (hts _ (List.mem_cons_of_mem _ kz_VW)) (hts _ (List.mem_cons_of_mem _ m_VW_34)) (by decide +kernel) ⟨hf, hl⟩, hts _ (List.mem_cons_of_mem _ ki_VW_forgetRead), hts _ (List.mem_cons_of_mem _ kv_VW_forgetRead)⟩
theorem lk_KF_68 {R : Room} {s : State} {args : Array Value} {c0 : Cond} (hts : ∀ w ∈ c0 :: XT, w.before args s = true) (hf : rm_VW_refusalToWrite.frames + 1 ≤ R.frames) (hl : 8 + (1 + 11) + rm_VW_refusalToWrite.locals ≤ R.locals) : CallW R s args R_KF R_VW 68 y_VW_refusalToWrite c_VW_refusalToWrite 1 (Option.some FieldType.int) w_VW_refusalToWrite rm_VW_refusalToWrite 0 0 0 := ⟨callB_of 0 hts (xt_good kc_VW_refusalToWrite) rfl rfl rfl (hts _ (List.mem_cons_of_mem _ kz_VW)) (hts _ (List.mem_cons_of_mem _ m_KF_68)) (by decide +kernel) ⟨hf, hl⟩, hts _ (List.mem_cons_of_mem _ ki_VW_refusalToWrite), hts _ (List.mem_cons_of_mem _ kv_VW_refusalToWrite)⟩
theorem lk_KF_75 {R : Room} {s : State} {args : Array Value} {c0 : Cond} (hts : ∀ w ∈ c0 :: XT, w.before args s = true) (hf : rm_KF_isOutOfOrder.frames + 1 ≤ R.frames) (hl : 8 + (8 + 11) + rm_KF_isOutOfOrder.locals ≤ R.locals) : CallW R s args R_KF R_KF 75 y_KF_isOutOfOrder c_KF_isOutOfOrder 8 (Option.some FieldType.boolean) w_KF_isOutOfOrder rm_KF_isOutOfOrder 0 0 2 := ⟨callB_of 2 hts (xt_good kc_KF_isOutOfOrder) rfl rfl rfl (hts _ (List.mem_cons_of_mem _ kz_KF)) (hts _ (List.mem_cons_of_mem _ m_KF_75)) (by decide +kernel) ⟨hf, hl⟩, hts _ (List.mem_cons_of_mem _ ki_KF_isOutOfOrder), hts _ (List.mem_cons_of_mem _ kv_KF_isOutOfOrder)⟩
theorem lk_KF_79 {R : Room} {s : State} {args : Array Value} {c0 : Cond} (hts : ∀ w ∈ c0 :: XT, w.before args s = true) (hf : rm_KF_hasBarredDouble.frames + 1 ≤ R.frames) (hl : 8 + (7 + 11) + rm_KF_hasBarredDouble.locals ≤ R.locals) : CallW R s args R_KF R_KF 79 y_KF_hasBarredDouble c_KF_hasBarredDouble 7 (Option.some FieldType.boolean) w_KF_hasBarredDouble rm_KF_hasBarredDouble 0 0 2 := ⟨callB_of 2 hts (xt_good kc_KF_hasBarredDouble) rfl rfl rfl (hts _ (List.mem_cons_of_mem _ kz_KF)) (hts _ (List.mem_cons_of_mem _ m_KF_79)) (by decide +kernel) ⟨hf, hl⟩, hts _ (List.mem_cons_of_mem _ ki_KF_hasBarredDouble), hts _ (List.mem_cons_of_mem _ kv_KF_hasBarredDouble)⟩
theorem lk_KF_83 {R : Room} {s : State} {args : Array Value} {c0 : Cond} (hts : ∀ w ∈ c0 :: XT, w.before args s = true) (hf : rm_KF_entryCount.frames + 1 ≤ R.frames) (hl : 8 + (3 + 11) + rm_KF_entryCount.locals ≤ R.locals) : CallW R s args R_KF R_KF 83 y_KF_entryCount c_KF_entryCount 3 (Option.some FieldType.int) w_KF_entryCount rm_KF_entryCount 0 0 1 := ⟨callB_of 1 hts (xt_good kc_KF_entryCount) rfl rfl rfl (hts _ (List.mem_cons_of_mem _ kz_KF)) (hts _ (List.mem_cons_of_mem _ m_KF_83)) (by decide +kernel) ⟨hf, hl⟩, hts _ (List.mem_cons_of_mem _ ki_KF_entryCount), hts _ (List.mem_cons_of_mem _ kv_KF_entryCount)⟩
theorem lk_KF_87 {R : Room} {s : State} {args : Array Value} {c0 : Cond} (hts : ∀ w ∈ c0 :: XT, w.before args s = true) (hf : rm_KF_fieldOf.frames + 1 ≤ R.frames) (hl : 8 + (5 + 11) + rm_KF_fieldOf.locals ≤ R.locals) : CallW R s args R_KF R_KF 87 y_KF_fieldOf c_KF_fieldOf 5 (Option.some FieldType.long) w_KF_fieldOf rm_KF_fieldOf 0 0 2 := ⟨callB_of 2 hts (xt_good kc_KF_fieldOf) rfl rfl rfl (hts _ (List.mem_cons_of_mem _ kz_KF)) (hts _ (List.mem_cons_of_mem _ m_KF_87)) (by decide +kernel) ⟨hf, hl⟩, hts _ (List.mem_cons_of_mem _ ki_KF_fieldOf), hts _ (List.mem_cons_of_mem _ kv_KF_fieldOf)⟩
theorem lk_KF_91 {R : Room} {s : State} {args : Array Value} {c0 : Cond} (hts : ∀ w ∈ c0 :: XT, w.before args s = true) (hf : rm_VW_noteWritten.frames + 1 ≤ R.frames) (hl : 8 + (3 + 11) + rm_VW_noteWritten.locals ≤ R.locals) : CallW R s args R_KF R_VW 91 y_VW_noteWritten c_VW_noteWritten 3 (Option.none : Option FieldType) w_VW_noteWritten rm_VW_noteWritten 0 0 1 := ⟨callB_of 1 hts (xt_good kc_VW_noteWritten) rfl rfl rfl (hts _ (List.mem_cons_of_mem _ kz_VW)) (hts _ (List.mem_cons_of_mem _ m_KF_91)) (by decide +kernel) ⟨hf, hl⟩, hts _ (List.mem_cons_of_mem _ ki_VW_noteWritten), hts _ (List.mem_cons_of_mem _ kv_VW_noteWritten)⟩
theorem lk_KF_96 {R : Room} {s : State} {args : Array Value} {c0 : Cond} (hts : ∀ w ∈ c0 :: XT, w.before args s = true) (hf : rm_ST_init.frames + 1 ≤ R.frames) (hl : 8 + (3 + 11) + rm_ST_init.locals ≤ R.locals) : CallB R s args R_KF 96 y_ST_init c_ST_init 3 (Option.none : Option FieldType) w_ST_init rm_ST_init 0 0 1 ∧ y_ST_init.name = "<init>" ∧ (Cond.instanceMethod y_ST_init).before args s = true := ⟨callB_of 1 hts (xt_good kc_ST_init) rfl rfl rfl (hts _ (List.mem_cons_of_mem _ kz_ST)) (hts _ (List.mem_cons_of_mem _ m_KF_96)) (by decide +kernel) ⟨hf, hl⟩, rfl, hts _ (List.mem_cons_of_mem _ ki_ST_init)⟩
theorem lk_KF_98 {R : Room} {s : State} {args : Array Value} {c0 : Cond} (hts : ∀ w ∈ c0 :: XT, w.before args s = true) (hf : rm_KF_enterUnderAllKeys.frames + 1 ≤ R.frames) (hl : 8 + (4 + 11) + rm_KF_enterUnderAllKeys.locals ≤ R.locals) : CallW R s args R_KF R_KF 98 y_KF_enterUnderAllKeys c_KF_enterUnderAllKeys 4 (Option.some FieldType.boolean) w_KF_enterUnderAllKeys rm_KF_enterUnderAllKeys 12 2214 1 := ⟨callB_of 1 hts (xt_good kc_KF_enterUnderAllKeys) rfl rfl rfl (hts _ (List.mem_cons_of_mem _ kz_KF)) (hts _ (List.mem_cons_of_mem _ m_KF_98)) (by decide +kernel) ⟨hf, hl⟩, hts _ (List.mem_cons_of_mem _ ki_KF_enterUnderAllKeys), hts _ (List.mem_cons_of_mem _ kv_KF_enterUnderAllKeys)⟩
theorem lk_KF_205 {R : Room} {s : State} {args : Array Value} {c0 : Cond} (hts : ∀ w ∈ c0 :: XT, w.before args s = true) (hf : rm_KF_isBelow.frames + 1 ≤ R.frames) (hl : 8 + (4 + 11) + rm_KF_isBelow.locals ≤ R.locals) : CallB R s args R_KF 205 y_KF_isBelow c_KF_isBelow 4 (Option.some FieldType.boolean) w_KF_isBelow rm_KF_isBelow 0 0 2 ∧ (Cond.static y_KF_isBelow).before args s = true := ⟨callB_of 2 hts (xt_good kc_KF_isBelow) rfl rfl rfl (hts _ (List.mem_cons_of_mem _ kz_KF)) (hts _ (List.mem_cons_of_mem _ m_KF_205)) (by decide +kernel) ⟨hf, hl⟩, hts _ (List.mem_cons_of_mem _ ks_KF_isBelow)⟩
theorem lk_KF_167 {R : Room} {s : State} {args : Array Value} {c0 : Cond} (hts : ∀ w ∈ c0 :: XT, w.before args s = true) (hf : rm_KI_entryAt.frames + 1 ≤ R.frames) (hl : 8 + (2 + 11) + rm_KI_entryAt.locals ≤ R.locals) : CallW R s args R_KF R_KI 167 y_KI_entryAt c_KI_entryAt 2 (Option.some (FieldType.object "KeyedFiles$Entry")) w_KI_entryAt rm_KI_entryAt 0 0 1 := ⟨callB_of 1 hts (xt_good kc_KI_entryAt) rfl rfl rfl (hts _ (List.mem_cons_of_mem _ kz_KI)) (hts _ (List.mem_cons_of_mem _ m_KF_167)) (by decide +kernel) ⟨hf, hl⟩, hts _ (List.mem_cons_of_mem _ ki_KI_entryAt), hts _ (List.mem_cons_of_mem _ kv_KI_entryAt)⟩
theorem lk_KF_195 {R : Room} {s : State} {args : Array Value} {c0 : Cond} (hts : ∀ w ∈ c0 :: XT, w.before args s = true) (hf : rm_KI_fieldIn.frames + 1 ≤ R.frames) (hl : 8 + (3 + 11) + rm_KI_fieldIn.locals ≤ R.locals) : CallW R s args R_KF R_KI 195 y_KI_fieldIn c_KI_fieldIn 3 (Option.some FieldType.long) w_KI_fieldIn rm_KI_fieldIn 0 0 1 := ⟨callB_of 1 hts (xt_good kc_KI_fieldIn) rfl rfl rfl (hts _ (List.mem_cons_of_mem _ kz_KI)) (hts _ (List.mem_cons_of_mem _ m_KF_195)) (by decide +kernel) ⟨hf, hl⟩, hts _ (List.mem_cons_of_mem _ ki_KI_fieldIn), hts _ (List.mem_cons_of_mem _ kv_KI_fieldIn)⟩
theorem lk_KI_36 {R : Room} {s : State} {args : Array Value} {c0 : Cond} (hts : ∀ w ∈ c0 :: XT, w.before args s = true) (hf : rm_AL_size.frames + 1 ≤ R.frames) (hl : 8 + (1 + 11) + rm_AL_size.locals ≤ R.locals) : CallW R s args R_KI R_AL 36 y_AL_size c_AL_size 1 (Option.some FieldType.int) w_AL_size rm_AL_size 0 0 0 := ⟨callB_of 0 hts (xt_good kc_AL_size) rfl rfl rfl (hts _ (List.mem_cons_of_mem _ kz_AL)) (hts _ (List.mem_cons_of_mem _ m_KI_36)) (by decide +kernel) ⟨hf, hl⟩, hts _ (List.mem_cons_of_mem _ ki_AL_size), hts _ (List.mem_cons_of_mem _ kv_AL_size)⟩
theorem lk_KI_39 {R : Room} {s : State} {args : Array Value} {c0 : Cond} (hts : ∀ w ∈ c0 :: XT, w.before args s = true) (hf : rm_AL_get.frames + 1 ≤ R.frames) (hl : 8 + (2 + 11) + rm_AL_get.locals ≤ R.locals) : CallW R s args R_KI R_AL 39 y_AL_get c_AL_get 2 (Option.some (FieldType.object "java/lang/Object")) w_AL_get rm_AL_get 0 0 1 := ⟨callB_of 1 hts (xt_good kc_AL_get) rfl rfl rfl (hts _ (List.mem_cons_of_mem _ kz_AL)) (hts _ (List.mem_cons_of_mem _ m_KI_39)) (by decide +kernel) ⟨hf, hl⟩, hts _ (List.mem_cons_of_mem _ ki_AL_get), hts _ (List.mem_cons_of_mem _ kv_AL_get)⟩
theorem lk_KF_108 {R : Room} {s : State} {args : Array Value} {c0 : Cond} (hts : ∀ w ∈ c0 :: XT, w.before args s = true) (hf : rm_KI_firstEqual.frames + 1 ≤ R.frames) (hl : 8 + (4 + 11) + rm_KI_firstEqual.locals ≤ R.locals) : CallW R s args R_KF R_KI 108 y_KI_firstEqual c_KI_firstEqual 4 (Option.some (FieldType.object "KeyedFiles$Entry")) w_KI_firstEqual rm_KI_firstEqual 0 0 1 := ⟨callB_of 1 hts (xt_good kc_KI_firstEqual) rfl rfl rfl (hts _ (List.mem_cons_of_mem _ kz_KI)) (hts _ (List.mem_cons_of_mem _ m_KF_108)) (by decide +kernel) ⟨hf, hl⟩, hts _ (List.mem_cons_of_mem _ ki_KI_firstEqual), hts _ (List.mem_cons_of_mem _ kv_KI_firstEqual)⟩
theorem lk_KI_53 {R : Room} {s : State} {args : Array Value} {c0 : Cond} (hts : ∀ w ∈ c0 :: XT, w.before args s = true) (hf : rm_KI_countAheadOf.frames + 1 ≤ R.frames) (hl : 8 + (8 + 11) + rm_KI_countAheadOf.locals ≤ R.locals) : CallW R s args R_KI R_KI 53 y_KI_countAheadOf c_KI_countAheadOf 8 (Option.some FieldType.int) w_KI_countAheadOf rm_KI_countAheadOf 0 0 2 := ⟨callB_of 2 hts (xt_good kc_KI_countAheadOf) rfl rfl rfl (hts _ (List.mem_cons_of_mem _ kz_KI)) (hts _ (List.mem_cons_of_mem _ m_KI_53)) (by decide +kernel) ⟨hf, hl⟩, hts _ (List.mem_cons_of_mem _ ki_KI_countAheadOf), hts _ (List.mem_cons_of_mem _ kv_KI_countAheadOf)⟩
theorem lk_KI_45 {R : Room} {s : State} {args : Array Value} {c0 : Cond} (hts : ∀ w ∈ c0 :: XT, w.before args s = true) (hf : rm_KI_entryAt.frames + 1 ≤ R.frames) (hl : 8 + (2 + 11) + rm_KI_entryAt.locals ≤ R.locals) : CallW R s args R_KI R_KI 45 y_KI_entryAt c_KI_entryAt 2 (Option.some (FieldType.object "KeyedFiles$Entry")) w_KI_entryAt rm_KI_entryAt 0 0 1 := ⟨callB_of 1 hts (xt_good kc_KI_entryAt) rfl rfl rfl (hts _ (List.mem_cons_of_mem _ kz_KI)) (hts _ (List.mem_cons_of_mem _ m_KI_45)) (by decide +kernel) ⟨hf, hl⟩, hts _ (List.mem_cons_of_mem _ ki_KI_entryAt), hts _ (List.mem_cons_of_mem _ kv_KI_entryAt)⟩
theorem lk_KI_49 {R : Room} {s : State} {args : Array Value} {c0 : Cond} (hts : ∀ w ∈ c0 :: XT, w.before args s = true) (hf : rm_EN_standsAheadOf.frames + 1 ≤ R.frames) (hl : 8 + (5 + 11) + rm_EN_standsAheadOf.locals ≤ R.locals) : CallW R s args R_KI R_EN 49 y_EN_standsAheadOf c_EN_standsAheadOf 5 (Option.some FieldType.boolean) w_EN_standsAheadOf rm_EN_standsAheadOf 0 0 2 := ⟨callB_of 2 hts (xt_good kc_EN_standsAheadOf) rfl rfl rfl (hts _ (List.mem_cons_of_mem _ kz_EN)) (hts _ (List.mem_cons_of_mem _ m_KI_49)) (by decide +kernel) ⟨hf, hl⟩, hts _ (List.mem_cons_of_mem _ ki_EN_standsAheadOf), hts _ (List.mem_cons_of_mem _ kv_EN_standsAheadOf)⟩
theorem lk_EN_20 {R : Room} {s : State} {args : Array Value} {c0 : Cond} (hts : ∀ w ∈ c0 :: XT, w.before args s = true) (hz : va_Nw (.methodLinkNest R_EN 20 y_KF_isBelow "KeyedFiles") s) (hf : rm_KF_isBelow.frames + 1 ≤ R.frames) (hl : 8 + (4 + 11) + rm_KF_isBelow.locals ≤ R.locals) : va_CN R s args R_EN 20 y_KF_isBelow "KeyedFiles" c_KF_isBelow 4 (Option.some FieldType.boolean) w_KF_isBelow rm_KF_isBelow 0 0 2 ∧ (Cond.static y_KF_isBelow).before args s = true ∧ True := ⟨va_cnB 2 hts (xt_good kc_KF_isBelow) rfl rfl rfl hz (hts _ (List.mem_cons_of_mem _ kz_KF)) (by decide +kernel) ⟨hf, hl⟩, hts _ (List.mem_cons_of_mem _ ks_KF_isBelow), trivial⟩
theorem lk_KF_218 {R : Room} {s : State} {args : Array Value} {c0 : Cond} (hts : ∀ w ∈ c0 :: XT, w.before args s = true) (hf : rm_KF_enterUnder.frames + 1 ≤ R.frames) (hl : 8 + (3 + 11) + rm_KF_enterUnder.locals ≤ R.locals) : CallW R s args R_KF R_KF 218 y_KF_enterUnder c_KF_enterUnder 3 (Option.some FieldType.boolean) w_KF_enterUnder rm_KF_enterUnder 2 369 2 := ⟨callB_of 2 hts (xt_good kc_KF_enterUnder) rfl rfl rfl (hts _ (List.mem_cons_of_mem _ kz_KF)) (hts _ (List.mem_cons_of_mem _ m_KF_218)) (by decide +kernel) ⟨hf, hl⟩, hts _ (List.mem_cons_of_mem _ ki_KF_enterUnder), hts _ (List.mem_cons_of_mem _ kv_KF_enterUnder)⟩
theorem lk_KF_225 {R : Room} {s : State} {args : Array Value} {c0 : Cond} (hts : ∀ w ∈ c0 :: XT, w.before args s = true) (hf : rm_KI_enter.frames + 1 ≤ R.frames) (hl : 8 + (8 + 11) + rm_KI_enter.locals ≤ R.locals) : CallW R s args R_KF R_KI 225 y_KI_enter c_KI_enter 8 (Option.some FieldType.boolean) w_KI_enter rm_KI_enter 2 369 2 := ⟨callB_of 2 hts (xt_good kc_KI_enter) rfl rfl rfl (hts _ (List.mem_cons_of_mem _ kz_KI)) (hts _ (List.mem_cons_of_mem _ m_KF_225)) (by decide +kernel) ⟨hf, hl⟩, hts _ (List.mem_cons_of_mem _ ki_KI_enter), hts _ (List.mem_cons_of_mem _ kv_KI_enter)⟩
theorem lk_KI_65 {R : Room} {s : State} {args : Array Value} {c0 : Cond} (hts : ∀ w ∈ c0 :: XT, w.before args s = true) (hf : rm_KI_fieldIn.frames + 1 ≤ R.frames) (hl : 8 + (3 + 11) + rm_KI_fieldIn.locals ≤ R.locals) : CallW R s args R_KI R_KI 65 y_KI_fieldIn c_KI_fieldIn 3 (Option.some FieldType.long) w_KI_fieldIn rm_KI_fieldIn 0 0 1 := ⟨callB_of 1 hts (xt_good kc_KI_fieldIn) rfl rfl rfl (hts _ (List.mem_cons_of_mem _ kz_KI)) (hts _ (List.mem_cons_of_mem _ m_KI_65)) (by decide +kernel) ⟨hf, hl⟩, hts _ (List.mem_cons_of_mem _ ki_KI_fieldIn), hts _ (List.mem_cons_of_mem _ kv_KI_fieldIn)⟩
theorem lk_KI_69 {R : Room} {s : State} {args : Array Value} {c0 : Cond} (hts : ∀ w ∈ c0 :: XT, w.before args s = true) (hf : rm_KI_leavesOut.frames + 1 ≤ R.frames) (hl : 8 + (3 + 11) + rm_KI_leavesOut.locals ≤ R.locals) : CallW R s args R_KI R_KI 69 y_KI_leavesOut c_KI_leavesOut 3 (Option.some FieldType.boolean) w_KI_leavesOut rm_KI_leavesOut 0 0 1 := ⟨callB_of 1 hts (xt_good kc_KI_leavesOut) rfl rfl rfl (hts _ (List.mem_cons_of_mem _ kz_KI)) (hts _ (List.mem_cons_of_mem _ m_KI_69)) (by decide +kernel) ⟨hf, hl⟩, hts _ (List.mem_cons_of_mem _ ki_KI_leavesOut), hts _ (List.mem_cons_of_mem _ kv_KI_leavesOut)⟩
theorem lk_KI_73 {R : Room} {s : State} {args : Array Value} {c0 : Cond} (hts : ∀ w ∈ c0 :: XT, w.before args s = true) (hf : rm_EN_init.frames + 1 ≤ R.frames) (hl : 8 + (6 + 11) + rm_EN_init.locals ≤ R.locals) : CallB R s args R_KI 73 y_EN_init c_EN_init 6 (Option.none : Option FieldType) w_EN_init rm_EN_init 0 0 3 ∧ y_EN_init.name = "<init>" ∧ (Cond.instanceMethod y_EN_init).before args s = true := ⟨callB_of 3 hts (xt_good kc_EN_init) rfl rfl rfl (hts _ (List.mem_cons_of_mem _ kz_EN)) (hts _ (List.mem_cons_of_mem _ m_KI_73)) (by decide +kernel) ⟨hf, hl⟩, rfl, hts _ (List.mem_cons_of_mem _ ki_EN_init)⟩
theorem lk_KI_76 {R : Room} {s : State} {args : Array Value} {c0 : Cond} (hts : ∀ w ∈ c0 :: XT, w.before args s = true) (hf : rm_AL_addI.frames + 1 ≤ R.frames) (hl : 8 + (5 + 11) + rm_AL_addI.locals ≤ R.locals) : CallW R s args R_KI R_AL 76 y_AL_addI c_AL_addI 5 (Option.none : Option FieldType) w_AL_addI rm_AL_addI 1 366 2 := ⟨callB_of 2 hts (xt_good kc_AL_addI) rfl rfl rfl (hts _ (List.mem_cons_of_mem _ kz_AL)) (hts _ (List.mem_cons_of_mem _ m_KI_76)) (by decide +kernel) ⟨hf, hl⟩, hts _ (List.mem_cons_of_mem _ ki_AL_addI), hts _ (List.mem_cons_of_mem _ kv_AL_addI)⟩
theorem lk_AL_135 {R : Room} {s : State} {args : Array Value} {c0 : Cond} (hts : ∀ w ∈ c0 :: XT, w.before args s = true) (hf : rm_AL_rangeCheckForAdd.frames + 1 ≤ R.frames) (hl : 8 + (2 + 11) + rm_AL_rangeCheckForAdd.locals ≤ R.locals) : CallW R s args R_AL R_AL 135 y_AL_rangeCheckForAdd c_AL_rangeCheckForAdd 2 (Option.none : Option FieldType) w_AL_rangeCheckForAdd rm_AL_rangeCheckForAdd 0 0 1 := ⟨callB_of 1 hts (xt_good kc_AL_rangeCheckForAdd) rfl rfl rfl (hts _ (List.mem_cons_of_mem _ kz_AL)) (hts _ (List.mem_cons_of_mem _ m_AL_135)) (by decide +kernel) ⟨hf, hl⟩, hts _ (List.mem_cons_of_mem _ ki_AL_rangeCheckForAdd), hts _ (List.mem_cons_of_mem _ kv_AL_rangeCheckForAdd)⟩
theorem lk_KF_102 {R : Room} {s : State} {args : Array Value} {c0 : Cond} (hts : ∀ w ∈ c0 :: XT, w.before args s = true) (hf : rm_VW_refusalToRead.frames + 1 ≤ R.frames) (hl : 8 + (3 + 11) + rm_VW_refusalToRead.locals ≤ R.locals) : CallW R s args R_KF R_VW 102 y_VW_refusalToRead c_VW_refusalToRead 3 (Option.some FieldType.int) w_VW_refusalToRead rm_VW_refusalToRead 0 0 1 := ⟨callB_of 1 hts (xt_good kc_VW_refusalToRead) rfl rfl rfl (hts _ (List.mem_cons_of_mem _ kz_VW)) (hts _ (List.mem_cons_of_mem _ m_KF_102)) (by decide +kernel) ⟨hf, hl⟩, hts _ (List.mem_cons_of_mem _ ki_VW_refusalToRead), hts _ (List.mem_cons_of_mem _ kv_VW_refusalToRead)⟩
theorem lk_KF_115 {R : Room} {s : State} {args : Array Value} {c0 : Cond} (hts : ∀ w ∈ c0 :: XT, w.before args s = true) (hf : rm_KF_handOver.frames + 1 ≤ R.frames) (hl : 8 + (4 + 11) + rm_KF_handOver.locals ≤ R.locals) : CallB R s args R_KF 115 y_KF_handOver c_KF_handOver 4 (Option.some FieldType.int) w_KF_handOver rm_KF_handOver 0 0 4 ∧ (Cond.static y_KF_handOver).before args s = true := ⟨callB_of 4 hts (xt_good kc_KF_handOver) rfl rfl rfl (hts _ (List.mem_cons_of_mem _ kz_KF)) (hts _ (List.mem_cons_of_mem _ m_KF_115)) (by decide +kernel) ⟨hf, hl⟩, hts _ (List.mem_cons_of_mem _ ks_KF_handOver)⟩
theorem lk_KF_241 {R : Room} {s : State} {args : Array Value} {c0 : Cond} (hts : ∀ w ∈ c0 :: XT, w.before args s = true) (hf : rm_VW_noteRead.frames + 1 ≤ R.frames) (hl : 8 + (2 + 11) + rm_VW_noteRead.locals ≤ R.locals) : CallW R s args R_KF R_VW 241 y_VW_noteRead c_VW_noteRead 2 (Option.none : Option FieldType) w_VW_noteRead rm_VW_noteRead 0 0 1 := ⟨callB_of 1 hts (xt_good kc_VW_noteRead) rfl rfl rfl (hts _ (List.mem_cons_of_mem _ kz_VW)) (hts _ (List.mem_cons_of_mem _ m_KF_241)) (by decide +kernel) ⟨hf, hl⟩, hts _ (List.mem_cons_of_mem _ ki_VW_noteRead), hts _ (List.mem_cons_of_mem _ kv_VW_noteRead)⟩
theorem lk_KF_244 {R : Room} {s : State} {args : Array Value} {c0 : Cond} (hts : ∀ w ∈ c0 :: XT, w.before args s = true) (hf : rm_KI_hasEqualNextTo.frames + 1 ≤ R.frames) (hl : 8 + (5 + 11) + rm_KI_hasEqualNextTo.locals ≤ R.locals) : CallW R s args R_KF R_KI 244 y_KI_hasEqualNextTo c_KI_hasEqualNextTo 5 (Option.some FieldType.boolean) w_KI_hasEqualNextTo rm_KI_hasEqualNextTo 0 0 2 := ⟨callB_of 2 hts (xt_good kc_KI_hasEqualNextTo) rfl rfl rfl (hts _ (List.mem_cons_of_mem _ kz_KI)) (hts _ (List.mem_cons_of_mem _ m_KF_244)) (by decide +kernel) ⟨hf, hl⟩, hts _ (List.mem_cons_of_mem _ ki_KI_hasEqualNextTo), hts _ (List.mem_cons_of_mem _ kv_KI_hasEqualNextTo)⟩
theorem lk_VW_59 {R : Room} {s : State} {args : Array Value} {c0 : Cond} (hts : ∀ w ∈ c0 :: XT, w.before args s = true) (hf : rm_VW_standAt.frames + 1 ≤ R.frames) (hl : 8 + (2 + 11) + rm_VW_standAt.locals ≤ R.locals) : CallW R s args R_VW R_VW 59 y_VW_standAt c_VW_standAt 2 (Option.none : Option FieldType) w_VW_standAt rm_VW_standAt 0 0 1 := ⟨callB_of 1 hts (xt_good kc_VW_standAt) rfl rfl rfl (hts _ (List.mem_cons_of_mem _ kz_VW)) (hts _ (List.mem_cons_of_mem _ m_VW_59)) (by decide +kernel) ⟨hf, hl⟩, hts _ (List.mem_cons_of_mem _ ki_VW_standAt), hts _ (List.mem_cons_of_mem _ kv_VW_standAt)⟩
theorem lk_KF_125 {R : Room} {s : State} {args : Array Value} {c0 : Cond} (hts : ∀ w ∈ c0 :: XT, w.before args s = true) (hf : rm_KI_findByPart.frames + 1 ≤ R.frames) (hl : 8 + (8 + 11) + rm_KI_findByPart.locals ≤ R.locals) : CallW R s args R_KF R_KI 125 y_KI_findByPart c_KI_findByPart 8 (Option.some (FieldType.object "KeyedFiles$Entry")) w_KI_findByPart rm_KI_findByPart 0 0 3 := ⟨callB_of 3 hts (xt_good kc_KI_findByPart) rfl rfl rfl (hts _ (List.mem_cons_of_mem _ kz_KI)) (hts _ (List.mem_cons_of_mem _ m_KF_125)) (by decide +kernel) ⟨hf, hl⟩, hts _ (List.mem_cons_of_mem _ ki_KI_findByPart), hts _ (List.mem_cons_of_mem _ kv_KI_findByPart)⟩
theorem lk_KF_129 {R : Room} {s : State} {args : Array Value} {c0 : Cond} (hts : ∀ w ∈ c0 :: XT, w.before args s = true) (hf : rm_VW_standAt.frames + 1 ≤ R.frames) (hl : 8 + (2 + 11) + rm_VW_standAt.locals ≤ R.locals) : CallW R s args R_KF R_VW 129 y_VW_standAt c_VW_standAt 2 (Option.none : Option FieldType) w_VW_standAt rm_VW_standAt 0 0 1 := ⟨callB_of 1 hts (xt_good kc_VW_standAt) rfl rfl rfl (hts _ (List.mem_cons_of_mem _ kz_VW)) (hts _ (List.mem_cons_of_mem _ m_KF_129)) (by decide +kernel) ⟨hf, hl⟩, hts _ (List.mem_cons_of_mem _ ki_VW_standAt), hts _ (List.mem_cons_of_mem _ kv_VW_standAt)⟩
theorem lk_KI_101 {R : Room} {s : State} {args : Array Value} {c0 : Cond} (hts : ∀ w ∈ c0 :: XT, w.before args s = true) (hf : rm_KI_countByPart.frames + 1 ≤ R.frames) (hl : 8 + (10 + 11) + rm_KI_countByPart.locals ≤ R.locals) : CallW R s args R_KI R_KI 101 y_KI_countByPart c_KI_countByPart 10 (Option.some FieldType.int) w_KI_countByPart rm_KI_countByPart 0 0 3 := ⟨callB_of 3 hts (xt_good kc_KI_countByPart) rfl rfl rfl (hts _ (List.mem_cons_of_mem _ kz_KI)) (hts _ (List.mem_cons_of_mem _ m_KI_101)) (by decide +kernel) ⟨hf, hl⟩, hts _ (List.mem_cons_of_mem _ ki_KI_countByPart), hts _ (List.mem_cons_of_mem _ kv_KI_countByPart)⟩
theorem lk_KI_105 {R : Room} {s : State} {args : Array Value} {c0 : Cond} (hts : ∀ w ∈ c0 :: XT, w.before args s = true) (hf : rm_KI_partOf.frames + 1 ≤ R.frames) (hl : 8 + (3 + 11) + rm_KI_partOf.locals ≤ R.locals) : CallW R s args R_KI R_KI 105 y_KI_partOf c_KI_partOf 3 (Option.some FieldType.long) w_KI_partOf rm_KI_partOf 0 0 2 := ⟨callB_of 2 hts (xt_good kc_KI_partOf) rfl rfl rfl (hts _ (List.mem_cons_of_mem _ kz_KI)) (hts _ (List.mem_cons_of_mem _ m_KI_105)) (by decide +kernel) ⟨hf, hl⟩, hts _ (List.mem_cons_of_mem _ ki_KI_partOf), hts _ (List.mem_cons_of_mem _ kv_KI_partOf)⟩
theorem lk_KI_109 {R : Room} {s : State} {args : Array Value} {c0 : Cond} (hts : ∀ w ∈ c0 :: XT, w.before args s = true) (hz : va_Nw (.methodLinkNest R_KI 109 y_KF_isBelow "KeyedFiles") s) (hf : rm_KF_isBelow.frames + 1 ≤ R.frames) (hl : 8 + (4 + 11) + rm_KF_isBelow.locals ≤ R.locals) : va_CN R s args R_KI 109 y_KF_isBelow "KeyedFiles" c_KF_isBelow 4 (Option.some FieldType.boolean) w_KF_isBelow rm_KF_isBelow 0 0 2 ∧ (Cond.static y_KF_isBelow).before args s = true ∧ True := ⟨va_cnB 2 hts (xt_good kc_KF_isBelow) rfl rfl rfl hz (hts _ (List.mem_cons_of_mem _ kz_KF)) (by decide +kernel) ⟨hf, hl⟩, hts _ (List.mem_cons_of_mem _ ks_KF_isBelow), trivial⟩
theorem lk_KF_139 {R : Room} {s : State} {args : Array Value} {c0 : Cond} (hts : ∀ w ∈ c0 :: XT, w.before args s = true) (hf : rm_KI_entryAheadOf.frames + 1 ≤ R.frames) (hl : 8 + (4 + 11) + rm_KI_entryAheadOf.locals ≤ R.locals) : CallW R s args R_KF R_KI 139 y_KI_entryAheadOf c_KI_entryAheadOf 4 (Option.some (FieldType.object "KeyedFiles$Entry")) w_KI_entryAheadOf rm_KI_entryAheadOf 0 0 1 := ⟨callB_of 1 hts (xt_good kc_KI_entryAheadOf) rfl rfl rfl (hts _ (List.mem_cons_of_mem _ kz_KI)) (hts _ (List.mem_cons_of_mem _ m_KF_139)) (by decide +kernel) ⟨hf, hl⟩, hts _ (List.mem_cons_of_mem _ ki_KI_entryAheadOf), hts _ (List.mem_cons_of_mem _ kv_KI_entryAheadOf)⟩
theorem lk_KF_143 {R : Room} {s : State} {args : Array Value} {c0 : Cond} (hts : ∀ w ∈ c0 :: XT, w.before args s = true) (hf : rm_KI_entryBehind.frames + 1 ≤ R.frames) (hl : 8 + (4 + 11) + rm_KI_entryBehind.locals ≤ R.locals) : CallW R s args R_KF R_KI 143 y_KI_entryBehind c_KI_entryBehind 4 (Option.some (FieldType.object "KeyedFiles$Entry")) w_KI_entryBehind rm_KI_entryBehind 0 0 1 := ⟨callB_of 1 hts (xt_good kc_KI_entryBehind) rfl rfl rfl (hts _ (List.mem_cons_of_mem _ kz_KI)) (hts _ (List.mem_cons_of_mem _ m_KF_143)) (by decide +kernel) ⟨hf, hl⟩, hts _ (List.mem_cons_of_mem _ ki_KI_entryBehind), hts _ (List.mem_cons_of_mem _ kv_KI_entryBehind)⟩
theorem lk_KF_146 {R : Room} {s : State} {args : Array Value} {c0 : Cond} (hts : ∀ w ∈ c0 :: XT, w.before args s = true) (hf : rm_VW_refusalToChange.frames + 1 ≤ R.frames) (hl : 8 + (1 + 11) + rm_VW_refusalToChange.locals ≤ R.locals) : CallW R s args R_KF R_VW 146 y_VW_refusalToChange c_VW_refusalToChange 1 (Option.some FieldType.int) w_VW_refusalToChange rm_VW_refusalToChange 0 0 0 := ⟨callB_of 0 hts (xt_good kc_VW_refusalToChange) rfl rfl rfl (hts _ (List.mem_cons_of_mem _ kz_VW)) (hts _ (List.mem_cons_of_mem _ m_KF_146)) (by decide +kernel) ⟨hf, hl⟩, hts _ (List.mem_cons_of_mem _ ki_VW_refusalToChange), hts _ (List.mem_cons_of_mem _ kv_VW_refusalToChange)⟩
theorem lk_KF_149 {R : Room} {s : State} {args : Array Value} {c0 : Cond} (hts : ∀ w ∈ c0 :: XT, w.before args s = true) (hf : rm_KF_recordToChange.frames + 1 ≤ R.frames) (hl : 8 + (6 + 11) + rm_KF_recordToChange.locals ≤ R.locals) : CallW R s args R_KF R_KF 149 y_KF_recordToChange c_KF_recordToChange 6 (Option.some (FieldType.object "KeyedFiles$Stored")) w_KF_recordToChange rm_KF_recordToChange 0 0 2 := ⟨callB_of 2 hts (xt_good kc_KF_recordToChange) rfl rfl rfl (hts _ (List.mem_cons_of_mem _ kz_KF)) (hts _ (List.mem_cons_of_mem _ m_KF_149)) (by decide +kernel) ⟨hf, hl⟩, hts _ (List.mem_cons_of_mem _ ki_KF_recordToChange), hts _ (List.mem_cons_of_mem _ kv_KF_recordToChange)⟩
theorem lk_KF_153 {R : Room} {s : State} {args : Array Value} {c0 : Cond} (hts : ∀ w ∈ c0 :: XT, w.before args s = true) (hf : rm_VW_statusOfNoRecord.frames + 1 ≤ R.frames) (hl : 8 + (1 + 11) + rm_VW_statusOfNoRecord.locals ≤ R.locals) : CallW R s args R_KF R_VW 153 y_VW_statusOfNoRecord c_VW_statusOfNoRecord 1 (Option.some FieldType.int) w_VW_statusOfNoRecord rm_VW_statusOfNoRecord 0 0 0 := ⟨callB_of 0 hts (xt_good kc_VW_statusOfNoRecord) rfl rfl rfl (hts _ (List.mem_cons_of_mem _ kz_VW)) (hts _ (List.mem_cons_of_mem _ m_KF_153)) (by decide +kernel) ⟨hf, hl⟩, hts _ (List.mem_cons_of_mem _ ki_VW_statusOfNoRecord), hts _ (List.mem_cons_of_mem _ kv_VW_statusOfNoRecord)⟩
theorem lk_KF_159 {R : Room} {s : State} {args : Array Value} {c0 : Cond} (hts : ∀ w ∈ c0 :: XT, w.before args s = true) (hf : rm_KF_moveChangedEntries.frames + 1 ≤ R.frames) (hl : 8 + (9 + 11) + rm_KF_moveChangedEntries.locals ≤ R.locals) : CallW R s args R_KF R_KF 159 y_KF_moveChangedEntries c_KF_moveChangedEntries 9 (Option.some FieldType.boolean) w_KF_moveChangedEntries rm_KF_moveChangedEntries 12 2214 2 := ⟨callB_of 2 hts (xt_good kc_KF_moveChangedEntries) rfl rfl rfl (hts _ (List.mem_cons_of_mem _ kz_KF)) (hts _ (List.mem_cons_of_mem _ m_KF_159)) (by decide +kernel) ⟨hf, hl⟩, hts _ (List.mem_cons_of_mem _ ki_KF_moveChangedEntries), hts _ (List.mem_cons_of_mem _ kv_KF_moveChangedEntries)⟩
theorem lk_KF_228 {R : Room} {s : State} {args : Array Value} {c0 : Cond} (hts : ∀ w ∈ c0 :: XT, w.before args s = true) (hf : rm_KI_drop.frames + 1 ≤ R.frames) (hl : 8 + (5 + 11) + rm_KI_drop.locals ≤ R.locals) : CallW R s args R_KF R_KI 228 y_KI_drop c_KI_drop 5 (Option.none : Option FieldType) w_KI_drop rm_KI_drop 0 0 2 := ⟨callB_of 2 hts (xt_good kc_KI_drop) rfl rfl rfl (hts _ (List.mem_cons_of_mem _ kz_KI)) (hts _ (List.mem_cons_of_mem _ m_KF_228)) (by decide +kernel) ⟨hf, hl⟩, hts _ (List.mem_cons_of_mem _ ki_KI_drop), hts _ (List.mem_cons_of_mem _ kv_KI_drop)⟩
theorem lk_KI_84 {R : Room} {s : State} {args : Array Value} {c0 : Cond} (hts : ∀ w ∈ c0 :: XT, w.before args s = true) (hf : rm_AL_remove.frames + 1 ≤ R.frames) (hl : 8 + (4 + 11) + rm_AL_remove.locals ≤ R.locals) : CallW R s args R_KI R_AL 84 y_AL_remove c_AL_remove 4 (Option.some (FieldType.object "java/lang/Object")) w_AL_remove rm_AL_remove 0 0 1 := ⟨callB_of 1 hts (xt_good kc_AL_remove) rfl rfl rfl (hts _ (List.mem_cons_of_mem _ kz_AL)) (hts _ (List.mem_cons_of_mem _ m_KI_84)) (by decide +kernel) ⟨hf, hl⟩, hts _ (List.mem_cons_of_mem _ ki_AL_remove), hts _ (List.mem_cons_of_mem _ kv_AL_remove)⟩
theorem lk_AL_144 {R : Room} {s : State} {args : Array Value} {c0 : Cond} (hts : ∀ w ∈ c0 :: XT, w.before args s = true) (hf : rm_AL_fastRemove.frames + 1 ≤ R.frames) (hl : 8 + (4 + 11) + rm_AL_fastRemove.locals ≤ R.locals) : CallW R s args R_AL R_AL 144 y_AL_fastRemove c_AL_fastRemove 4 (Option.none : Option FieldType) w_AL_fastRemove rm_AL_fastRemove 0 0 2 := ⟨callB_of 2 hts (xt_good kc_AL_fastRemove) rfl rfl rfl (hts _ (List.mem_cons_of_mem _ kz_AL)) (hts _ (List.mem_cons_of_mem _ m_AL_144)) (by decide +kernel) ⟨hf, hl⟩, hts _ (List.mem_cons_of_mem _ ki_AL_fastRemove), hts _ (List.mem_cons_of_mem _ kv_AL_fastRemove)⟩
theorem lk_KF_163 {R : Room} {s : State} {args : Array Value} {c0 : Cond} (hts : ∀ w ∈ c0 :: XT, w.before args s = true) (hf : rm_KF_dropRecord.frames + 1 ≤ R.frames) (hl : 8 + (4 + 11) + rm_KF_dropRecord.locals ≤ R.locals) : CallW R s args R_KF R_KF 163 y_KF_dropRecord c_KF_dropRecord 4 (Option.none : Option FieldType) w_KF_dropRecord rm_KF_dropRecord 0 0 1 := ⟨callB_of 1 hts (xt_good kc_KF_dropRecord) rfl rfl rfl (hts _ (List.mem_cons_of_mem _ kz_KF)) (hts _ (List.mem_cons_of_mem _ m_KF_163)) (by decide +kernel) ⟨hf, hl⟩, hts _ (List.mem_cons_of_mem _ ki_KF_dropRecord), hts _ (List.mem_cons_of_mem _ kv_KF_dropRecord)⟩
theorem lk_KF_184 {R : Room} {s : State} {args : Array Value} {c0 : Cond} (hts : ∀ w ∈ c0 :: XT, w.before args s = true) (hf : rm_KI_isInOrder.frames + 1 ≤ R.frames) (hl : 8 + (7 + 11) + rm_KI_isInOrder.locals ≤ R.locals) : CallW R s args R_KF R_KI 184 y_KI_isInOrder c_KI_isInOrder 7 (Option.some FieldType.boolean) w_KI_isInOrder rm_KI_isInOrder 0 0 1 := ⟨callB_of 1 hts (xt_good kc_KI_isInOrder) rfl rfl rfl (hts _ (List.mem_cons_of_mem _ kz_KI)) (hts _ (List.mem_cons_of_mem _ m_KF_184)) (by decide +kernel) ⟨hf, hl⟩, hts _ (List.mem_cons_of_mem _ ki_KI_isInOrder), hts _ (List.mem_cons_of_mem _ kv_KI_isInOrder)⟩
theorem lk_KF_191 {R : Room} {s : State} {args : Array Value} {c0 : Cond} (hts : ∀ w ∈ c0 :: XT, w.before args s = true) (hf : rm_KF_entriesDue.frames + 1 ≤ R.frames) (hl : 8 + (5 + 11) + rm_KF_entriesDue.locals ≤ R.locals) : CallW R s args R_KF R_KF 191 y_KF_entriesDue c_KF_entriesDue 5 (Option.some FieldType.int) w_KF_entriesDue rm_KF_entriesDue 0 0 1 := ⟨callB_of 1 hts (xt_good kc_KF_entriesDue) rfl rfl rfl (hts _ (List.mem_cons_of_mem _ kz_KF)) (hts _ (List.mem_cons_of_mem _ m_KF_191)) (by decide +kernel) ⟨hf, hl⟩, hts _ (List.mem_cons_of_mem _ ki_KF_entriesDue), hts _ (List.mem_cons_of_mem _ kv_KF_entriesDue)⟩
theorem lk_KI_118 {R : Room} {s : State} {args : Array Value} {c0 : Cond} (hts : ∀ w ∈ c0 :: XT, w.before args s = true) (hf : rm_KI_isRightlyAhead.frames + 1 ≤ R.frames) (hl : 8 + (3 + 11) + rm_KI_isRightlyAhead.locals ≤ R.locals) : CallW R s args R_KI R_KI 118 y_KI_isRightlyAhead c_KI_isRightlyAhead 3 (Option.some FieldType.boolean) w_KI_isRightlyAhead rm_KI_isRightlyAhead 0 0 2 := ⟨callB_of 2 hts (xt_good kc_KI_isRightlyAhead) rfl rfl rfl (hts _ (List.mem_cons_of_mem _ kz_KI)) (hts _ (List.mem_cons_of_mem _ m_KI_118)) (by decide +kernel) ⟨hf, hl⟩, hts _ (List.mem_cons_of_mem _ ki_KI_isRightlyAhead), hts _ (List.mem_cons_of_mem _ kv_KI_isRightlyAhead)⟩
theorem lk_KF_248 {R : Room} {s : State} {args : Array Value} {c0 : Cond} (hts : ∀ w ∈ c0 :: XT, w.before args s = true) (hf : rm_KI_leavesOut.frames + 1 ≤ R.frames) (hl : 8 + (3 + 11) + rm_KI_leavesOut.locals ≤ R.locals) : CallW R s args R_KF R_KI 248 y_KI_leavesOut c_KI_leavesOut 3 (Option.some FieldType.boolean) w_KI_leavesOut rm_KI_leavesOut 0 0 1 := ⟨callB_of 1 hts (xt_good kc_KI_leavesOut) rfl rfl rfl (hts _ (List.mem_cons_of_mem _ kz_KI)) (hts _ (List.mem_cons_of_mem _ m_KF_248)) (by decide +kernel) ⟨hf, hl⟩, hts _ (List.mem_cons_of_mem _ ki_KI_leavesOut), hts _ (List.mem_cons_of_mem _ kv_KI_leavesOut)⟩
theorem lk_MD_88 {R : Room} {s : State} {args : Array Value} {c0 : Cond} (hts : ∀ w ∈ c0 :: XT, w.before args s = true) (hf : rm_MD_isKey.frames + 1 ≤ R.frames) (hl : 8 + (2 + 11) + rm_MD_isKey.locals ≤ R.locals) : CallW R s args R_MD R_MD 88 y_MD_isKey c_MD_isKey 2 (Option.some FieldType.boolean) w_MD_isKey rm_MD_isKey 0 0 1 := ⟨callB_of 1 hts (xt_good kc_MD_isKey) rfl rfl rfl (hts _ (List.mem_cons_of_mem _ kz_MD)) (hts _ (List.mem_cons_of_mem _ m_MD_88)) (by decide +kernel) ⟨hf, hl⟩, hts _ (List.mem_cons_of_mem _ ki_MD_isKey), hts _ (List.mem_cons_of_mem _ kv_MD_isKey)⟩
theorem lk_MD_92 {R : Room} {s : State} {args : Array Value} {c0 : Cond} (hts : ∀ w ∈ c0 :: XT, w.before args s = true) (hf : rm_MD_isView.frames + 1 ≤ R.frames) (hl : 8 + (2 + 11) + rm_MD_isView.locals ≤ R.locals) : CallW R s args R_MD R_MD 92 y_MD_isView c_MD_isView 2 (Option.some FieldType.boolean) w_MD_isView rm_MD_isView 0 0 1 := ⟨callB_of 1 hts (xt_good kc_MD_isView) rfl rfl rfl (hts _ (List.mem_cons_of_mem _ kz_MD)) (hts _ (List.mem_cons_of_mem _ m_MD_92)) (by decide +kernel) ⟨hf, hl⟩, hts _ (List.mem_cons_of_mem _ ki_MD_isView), hts _ (List.mem_cons_of_mem _ kv_MD_isView)⟩
theorem lk_MD_150 {R : Room} {s : State} {args : Array Value} {c0 : Cond} (hts : ∀ w ∈ c0 :: XT, w.before args s = true) (hf : rm_MD_forget.frames + 1 ≤ R.frames) (hl : 8 + (2 + 11) + rm_MD_forget.locals ≤ R.locals) : CallW R s args R_MD R_MD 150 y_MD_forget c_MD_forget 2 (Option.none : Option FieldType) w_MD_forget rm_MD_forget 0 0 1 := ⟨callB_of 1 hts (xt_good kc_MD_forget) rfl rfl rfl (hts _ (List.mem_cons_of_mem _ kz_MD)) (hts _ (List.mem_cons_of_mem _ m_MD_150)) (by decide +kernel) ⟨hf, hl⟩, hts _ (List.mem_cons_of_mem _ ki_MD_forget), hts _ (List.mem_cons_of_mem _ kv_MD_forget)⟩
theorem lk_MD_98 {R : Room} {s : State} {args : Array Value} {c0 : Cond} (hts : ∀ w ∈ c0 :: XT, w.before args s = true) (hf : rm_MD_field.frames + 1 ≤ R.frames) (hl : 8 + (6 + 11) + rm_MD_field.locals ≤ R.locals) : CallW R s args R_MD R_MD 98 y_MD_field c_MD_field 6 (Option.some FieldType.long) w_MD_field rm_MD_field 0 0 2 := ⟨callB_of 2 hts (xt_good kc_MD_field) rfl rfl rfl (hts _ (List.mem_cons_of_mem _ kz_MD)) (hts _ (List.mem_cons_of_mem _ m_MD_98)) (by decide +kernel) ⟨hf, hl⟩, hts _ (List.mem_cons_of_mem _ ki_MD_field), hts _ (List.mem_cons_of_mem _ kv_MD_field)⟩
theorem lk_MD_106 {R : Room} {s : State} {args : Array Value} {c0 : Cond} (hts : ∀ w ∈ c0 :: XT, w.before args s = true) (hf : rm_MD_isLess.frames + 1 ≤ R.frames) (hl : 8 + (4 + 11) + rm_MD_isLess.locals ≤ R.locals) : CallB R s args R_MD 106 y_MD_isLess c_MD_isLess 4 (Option.some FieldType.boolean) w_MD_isLess rm_MD_isLess 0 0 2 ∧ (Cond.static y_MD_isLess).before args s = true := ⟨callB_of 2 hts (xt_good kc_MD_isLess) rfl rfl rfl (hts _ (List.mem_cons_of_mem _ kz_MD)) (hts _ (List.mem_cons_of_mem _ m_MD_106)) (by decide +kernel) ⟨hf, hl⟩, hts _ (List.mem_cons_of_mem _ ks_MD_isLess)⟩
theorem lk_MD_154 {R : Room} {s : State} {args : Array Value} {c0 : Cond} (hts : ∀ w ∈ c0 :: XT, w.before args s = true) (hf : rm_MD_barred.frames + 1 ≤ R.frames) (hl : 8 + (9 + 11) + rm_MD_barred.locals ≤ R.locals) : CallW R s args R_MD R_MD 154 y_MD_barred c_MD_barred 9 (Option.some FieldType.int) w_MD_barred rm_MD_barred 0 0 2 := ⟨callB_of 2 hts (xt_good kc_MD_barred) rfl rfl rfl (hts _ (List.mem_cons_of_mem _ kz_MD)) (hts _ (List.mem_cons_of_mem _ m_MD_154)) (by decide +kernel) ⟨hf, hl⟩, hts _ (List.mem_cons_of_mem _ ki_MD_barred), hts _ (List.mem_cons_of_mem _ kv_MD_barred)⟩
theorem lk_MD_158 {R : Room} {s : State} {args : Array Value} {c0 : Cond} (hts : ∀ w ∈ c0 :: XT, w.before args s = true) (hf : rm_MD_rankAll.frames + 1 ≤ R.frames) (hl : 8 + (7 + 11) + rm_MD_rankAll.locals ≤ R.locals) : CallW R s args R_MD R_MD 158 y_MD_rankAll c_MD_rankAll 7 (Option.none : Option FieldType) w_MD_rankAll rm_MD_rankAll 0 0 3 := ⟨callB_of 3 hts (xt_good kc_MD_rankAll) rfl rfl rfl (hts _ (List.mem_cons_of_mem _ kz_MD)) (hts _ (List.mem_cons_of_mem _ m_MD_158)) (by decide +kernel) ⟨hf, hl⟩, hts _ (List.mem_cons_of_mem _ ki_MD_rankAll), hts _ (List.mem_cons_of_mem _ kv_MD_rankAll)⟩
theorem lk_MD_114 {R : Room} {s : State} {args : Array Value} {c0 : Cond} (hts : ∀ w ∈ c0 :: XT, w.before args s = true) (hf : rm_MD_isEntry.frames + 1 ≤ R.frames) (hl : 8 + (3 + 11) + rm_MD_isEntry.locals ≤ R.locals) : CallW R s args R_MD R_MD 114 y_MD_isEntry c_MD_isEntry 3 (Option.some FieldType.boolean) w_MD_isEntry rm_MD_isEntry 0 0 2 := ⟨callB_of 2 hts (xt_good kc_MD_isEntry) rfl rfl rfl (hts _ (List.mem_cons_of_mem _ kz_MD)) (hts _ (List.mem_cons_of_mem _ m_MD_114)) (by decide +kernel) ⟨hf, hl⟩, hts _ (List.mem_cons_of_mem _ ki_MD_isEntry), hts _ (List.mem_cons_of_mem _ kv_MD_isEntry)⟩
theorem lk_MD_102 {R : Room} {s : State} {args : Array Value} {c0 : Cond} (hts : ∀ w ∈ c0 :: XT, w.before args s = true) (hf : rm_MD_hasEntry.frames + 1 ≤ R.frames) (hl : 8 + (4 + 11) + rm_MD_hasEntry.locals ≤ R.locals) : CallW R s args R_MD R_MD 102 y_MD_hasEntry c_MD_hasEntry 4 (Option.some FieldType.boolean) w_MD_hasEntry rm_MD_hasEntry 0 0 2 := ⟨callB_of 2 hts (xt_good kc_MD_hasEntry) rfl rfl rfl (hts _ (List.mem_cons_of_mem _ kz_MD)) (hts _ (List.mem_cons_of_mem _ m_MD_102)) (by decide +kernel) ⟨hf, hl⟩, hts _ (List.mem_cons_of_mem _ ki_MD_hasEntry), hts _ (List.mem_cons_of_mem _ kv_MD_hasEntry)⟩
theorem lk_MD_125 {R : Room} {s : State} {args : Array Value} {c0 : Cond} (hts : ∀ w ∈ c0 :: XT, w.before args s = true) (hf : rm_MD_equal.frames + 1 ≤ R.frames) (hl : 8 + (6 + 11) + rm_MD_equal.locals ≤ R.locals) : CallW R s args R_MD R_MD 125 y_MD_equal c_MD_equal 6 (Option.some FieldType.int) w_MD_equal rm_MD_equal 0 0 3 := ⟨callB_of 3 hts (xt_good kc_MD_equal) rfl rfl rfl (hts _ (List.mem_cons_of_mem _ kz_MD)) (hts _ (List.mem_cons_of_mem _ m_MD_125)) (by decide +kernel) ⟨hf, hl⟩, hts _ (List.mem_cons_of_mem _ ki_MD_equal), hts _ (List.mem_cons_of_mem _ kv_MD_equal)⟩
theorem lk_MD_165 {R : Room} {s : State} {args : Array Value} {c0 : Cond} (hts : ∀ w ∈ c0 :: XT, w.before args s = true) (hf : rm_MD_reads.frames + 1 ≤ R.frames) (hl : 8 + (2 + 11) + rm_MD_reads.locals ≤ R.locals) : CallW R s args R_MD R_MD 165 y_MD_reads c_MD_reads 2 (Option.some FieldType.boolean) w_MD_reads rm_MD_reads 0 0 1 := ⟨callB_of 1 hts (xt_good kc_MD_reads) rfl rfl rfl (hts _ (List.mem_cons_of_mem _ kz_MD)) (hts _ (List.mem_cons_of_mem _ m_MD_165)) (by decide +kernel) ⟨hf, hl⟩, hts _ (List.mem_cons_of_mem _ ki_MD_reads), hts _ (List.mem_cons_of_mem _ kv_MD_reads)⟩
theorem lk_MD_133 {R : Room} {s : State} {args : Array Value} {c0 : Cond} (hts : ∀ w ∈ c0 :: XT, w.before args s = true) (hf : rm_MD_after.frames + 1 ≤ R.frames) (hl : 8 + (8 + 11) + rm_MD_after.locals ≤ R.locals) : CallW R s args R_MD R_MD 133 y_MD_after c_MD_after 8 (Option.some FieldType.int) w_MD_after rm_MD_after 0 0 4 := ⟨callB_of 4 hts (xt_good kc_MD_after) rfl rfl rfl (hts _ (List.mem_cons_of_mem _ kz_MD)) (hts _ (List.mem_cons_of_mem _ m_MD_133)) (by decide +kernel) ⟨hf, hl⟩, hts _ (List.mem_cons_of_mem _ ki_MD_after), hts _ (List.mem_cons_of_mem _ kv_MD_after)⟩
theorem lk_MD_168 {R : Room} {s : State} {args : Array Value} {c0 : Cond} (hts : ∀ w ∈ c0 :: XT, w.before args s = true) (hf : rm_MD_got.frames + 1 ≤ R.frames) (hl : 8 + (5 + 11) + rm_MD_got.locals ≤ R.locals) : CallW R s args R_MD R_MD 168 y_MD_got c_MD_got 5 (Option.some FieldType.int) w_MD_got rm_MD_got 0 0 4 := ⟨callB_of 4 hts (xt_good kc_MD_got) rfl rfl rfl (hts _ (List.mem_cons_of_mem _ kz_MD)) (hts _ (List.mem_cons_of_mem _ m_MD_168)) (by decide +kernel) ⟨hf, hl⟩, hts _ (List.mem_cons_of_mem _ ki_MD_got), hts _ (List.mem_cons_of_mem _ kv_MD_got)⟩
theorem lk_MD_118 {R : Room} {s : State} {args : Array Value} {c0 : Cond} (hts : ∀ w ∈ c0 :: XT, w.before args s = true) (hf : rm_MD_isAhead.frames + 1 ≤ R.frames) (hl : 8 + (8 + 11) + rm_MD_isAhead.locals ≤ R.locals) : CallW R s args R_MD R_MD 118 y_MD_isAhead c_MD_isAhead 8 (Option.some FieldType.boolean) w_MD_isAhead rm_MD_isAhead 0 0 4 := ⟨callB_of 4 hts (xt_good kc_MD_isAhead) rfl rfl rfl (hts _ (List.mem_cons_of_mem _ kz_MD)) (hts _ (List.mem_cons_of_mem _ m_MD_118)) (by decide +kernel) ⟨hf, hl⟩, hts _ (List.mem_cons_of_mem _ ki_MD_isAhead), hts _ (List.mem_cons_of_mem _ kv_MD_isAhead)⟩
theorem lk_MD_122 {R : Room} {s : State} {args : Array Value} {c0 : Cond} (hts : ∀ w ∈ c0 :: XT, w.before args s = true) (hf : rm_MD_isBehind.frames + 1 ≤ R.frames) (hl : 8 + (8 + 11) + rm_MD_isBehind.locals ≤ R.locals) : CallW R s args R_MD R_MD 122 y_MD_isBehind c_MD_isBehind 8 (Option.some FieldType.boolean) w_MD_isBehind rm_MD_isBehind 0 0 4 := ⟨callB_of 4 hts (xt_good kc_MD_isBehind) rfl rfl rfl (hts _ (List.mem_cons_of_mem _ kz_MD)) (hts _ (List.mem_cons_of_mem _ m_MD_122)) (by decide +kernel) ⟨hf, hl⟩, hts _ (List.mem_cons_of_mem _ ki_MD_isBehind), hts _ (List.mem_cons_of_mem _ kv_MD_isBehind)⟩
theorem lk_MD_110 {R : Room} {s : State} {args : Array Value} {c0 : Cond} (hts : ∀ w ∈ c0 :: XT, w.before args s = true) (hf : rm_MD_rank.frames + 1 ≤ R.frames) (hl : 8 + (3 + 11) + rm_MD_rank.locals ≤ R.locals) : CallW R s args R_MD R_MD 110 y_MD_rank c_MD_rank 3 (Option.some FieldType.int) w_MD_rank rm_MD_rank 0 0 2 := ⟨callB_of 2 hts (xt_good kc_MD_rank) rfl rfl rfl (hts _ (List.mem_cons_of_mem _ kz_MD)) (hts _ (List.mem_cons_of_mem _ m_MD_110)) (by decide +kernel) ⟨hf, hl⟩, hts _ (List.mem_cons_of_mem _ ki_MD_rank), hts _ (List.mem_cons_of_mem _ kv_MD_rank)⟩
theorem lk_MD_143 {R : Room} {s : State} {args : Array Value} {c0 : Cond} (hts : ∀ w ∈ c0 :: XT, w.before args s = true) (hf : rm_MD_status.frames + 1 ≤ R.frames) (hl : 8 + (7 + 11) + rm_MD_status.locals ≤ R.locals) : CallW R s args R_MD R_MD 143 y_MD_status c_MD_status 7 (Option.some FieldType.int) w_MD_status rm_MD_status 0 0 3 := ⟨callB_of 3 hts (xt_good kc_MD_status) rfl rfl rfl (hts _ (List.mem_cons_of_mem _ kz_MD)) (hts _ (List.mem_cons_of_mem _ m_MD_143)) (by decide +kernel) ⟨hf, hl⟩, hts _ (List.mem_cons_of_mem _ ki_MD_status), hts _ (List.mem_cons_of_mem _ kv_MD_status)⟩
theorem lk_MD_129 {R : Room} {s : State} {args : Array Value} {c0 : Cond} (hts : ∀ w ∈ c0 :: XT, w.before args s = true) (hf : rm_MD_ahead.frames + 1 ≤ R.frames) (hl : 8 + (8 + 11) + rm_MD_ahead.locals ≤ R.locals) : CallW R s args R_MD R_MD 129 y_MD_ahead c_MD_ahead 8 (Option.some FieldType.int) w_MD_ahead rm_MD_ahead 0 0 4 := ⟨callB_of 4 hts (xt_good kc_MD_ahead) rfl rfl rfl (hts _ (List.mem_cons_of_mem _ kz_MD)) (hts _ (List.mem_cons_of_mem _ m_MD_129)) (by decide +kernel) ⟨hf, hl⟩, hts _ (List.mem_cons_of_mem _ ki_MD_ahead), hts _ (List.mem_cons_of_mem _ kv_MD_ahead)⟩
theorem lk_MD_172 {R : Room} {s : State} {args : Array Value} {c0 : Cond} (hts : ∀ w ∈ c0 :: XT, w.before args s = true) (hf : rm_MD_holds.frames + 1 ≤ R.frames) (hl : 8 + (5 + 11) + rm_MD_holds.locals ≤ R.locals) : CallB R s args R_MD 172 y_MD_holds c_MD_holds 5 (Option.some FieldType.boolean) w_MD_holds rm_MD_holds 0 0 3 ∧ (Cond.static y_MD_holds).before args s = true := ⟨callB_of 3 hts (xt_good kc_MD_holds) rfl rfl rfl (hts _ (List.mem_cons_of_mem _ kz_MD)) (hts _ (List.mem_cons_of_mem _ m_MD_172)) (by decide +kernel) ⟨hf, hl⟩, hts _ (List.mem_cons_of_mem _ ks_MD_holds)⟩
theorem lk_MD_176 {R : Room} {s : State} {args : Array Value} {c0 : Cond} (hts : ∀ w ∈ c0 :: XT, w.before args s = true) (hf : rm_MD_had.frames + 1 ≤ R.frames) (hl : 8 + (2 + 11) + rm_MD_had.locals ≤ R.locals) : CallW R s args R_MD R_MD 176 y_MD_had c_MD_had 2 (Option.some FieldType.int) w_MD_had rm_MD_had 0 0 0 := ⟨callB_of 0 hts (xt_good kc_MD_had) rfl rfl rfl (hts _ (List.mem_cons_of_mem _ kz_MD)) (hts _ (List.mem_cons_of_mem _ m_MD_176)) (by decide +kernel) ⟨hf, hl⟩, hts _ (List.mem_cons_of_mem _ ki_MD_had), hts _ (List.mem_cons_of_mem _ kv_MD_had)⟩
theorem lk_MD_180 {R : Room} {s : State} {args : Array Value} {c0 : Cond} (hts : ∀ w ∈ c0 :: XT, w.before args s = true) (hf : rm_MD_byPrime.frames + 1 ≤ R.frames) (hl : 8 + (3 + 11) + rm_MD_byPrime.locals ≤ R.locals) : CallW R s args R_MD R_MD 180 y_MD_byPrime c_MD_byPrime 3 (Option.some FieldType.int) w_MD_byPrime rm_MD_byPrime 0 0 1 := ⟨callB_of 1 hts (xt_good kc_MD_byPrime) rfl rfl rfl (hts _ (List.mem_cons_of_mem _ kz_MD)) (hts _ (List.mem_cons_of_mem _ m_MD_180)) (by decide +kernel) ⟨hf, hl⟩, hts _ (List.mem_cons_of_mem _ ki_MD_byPrime), hts _ (List.mem_cons_of_mem _ kv_MD_byPrime)⟩
theorem lk_LW_9 {R : Room} {s : State} {args : Array Value} {c0 : Cond} (hts : ∀ w ∈ c0 :: XT, w.before args s = true) (hf : rm_KF_init.frames + 1 ≤ R.frames) (hl : 8 + (1 + 11) + rm_KF_init.locals ≤ R.locals) : CallB R s args R_LW 9 y_KF_init c_KF_init 1 (Option.none : Option FieldType) w_KF_init rm_KF_init 2 6 0 ∧ y_KF_init.name = "<init>" ∧ (Cond.instanceMethod y_KF_init).before args s = true := ⟨callB_of 0 hts (xt_good kc_KF_init) rfl rfl rfl (hts _ (List.mem_cons_of_mem _ kz_KF)) (hts _ (List.mem_cons_of_mem _ m_LW_9)) (by decide +kernel) ⟨hf, hl⟩, rfl, hts _ (List.mem_cons_of_mem _ ki_KF_init)⟩
theorem lk_LW_12 {R : Room} {s : State} {args : Array Value} {c0 : Cond} (hts : ∀ w ∈ c0 :: XT, w.before args s = true) (hf : rm_MD_init.frames + 1 ≤ R.frames) (hl : 8 + (1 + 11) + rm_MD_init.locals ≤ R.locals) : CallB R s args R_LW 12 y_MD_init c_MD_init 1 (Option.none : Option FieldType) w_MD_init rm_MD_init 20 2490 0 ∧ y_MD_init.name = "<init>" ∧ (Cond.instanceMethod y_MD_init).before args s = true := ⟨callB_of 0 hts (xt_good kc_MD_init) rfl rfl rfl (hts _ (List.mem_cons_of_mem _ kz_MD)) (hts _ (List.mem_cons_of_mem _ m_LW_12)) (by decide +kernel) ⟨hf, hl⟩, rfl, hts _ (List.mem_cons_of_mem _ ki_MD_init)⟩
theorem lk_LW_13 {R : Room} {s : State} {args : Array Value} {c0 : Cond} (hts : ∀ w ∈ c0 :: XT, w.before args s = true) (hf : rm_KF_key.frames + 1 ≤ R.frames) (hl : 8 + (6 + 11) + rm_KF_key.locals ≤ R.locals) : CallW R s args R_LW R_KF 13 y_KF_key c_KF_key 6 (Option.some FieldType.int) w_KF_key rm_KF_key 3 375 4 := ⟨callB_of 4 hts (xt_good kc_KF_key) rfl rfl rfl (hts _ (List.mem_cons_of_mem _ kz_KF)) (hts _ (List.mem_cons_of_mem _ m_LW_13)) (by decide +kernel) ⟨hf, hl⟩, hts _ (List.mem_cons_of_mem _ ki_KF_key), hts _ (List.mem_cons_of_mem _ kv_KF_key)⟩
theorem lk_LW_17 {R : Room} {s : State} {args : Array Value} {c0 : Cond} (hts : ∀ w ∈ c0 :: XT, w.before args s = true) (hf : rm_MD_key.frames + 1 ≤ R.frames) (hl : 8 + (6 + 11) + rm_MD_key.locals ≤ R.locals) : CallW R s args R_LW R_MD 17 y_MD_key c_MD_key 6 (Option.some FieldType.int) w_MD_key rm_MD_key 0 0 4 := ⟨callB_of 4 hts (xt_good kc_MD_key) rfl rfl rfl (hts _ (List.mem_cons_of_mem _ kz_MD)) (hts _ (List.mem_cons_of_mem _ m_LW_17)) (by decide +kernel) ⟨hf, hl⟩, hts _ (List.mem_cons_of_mem _ ki_MD_key), hts _ (List.mem_cons_of_mem _ kv_MD_key)⟩
theorem lk_LW_20 {R : Room} {s : State} {args : Array Value} {c0 : Cond} (hts : ∀ w ∈ c0 :: XT, w.before args s = true) (hf : rm_KF_sparse.frames + 1 ≤ R.frames) (hl : 8 + (5 + 11) + rm_KF_sparse.locals ≤ R.locals) : CallW R s args R_LW R_KF 20 y_KF_sparse c_KF_sparse 5 (Option.some FieldType.int) w_KF_sparse rm_KF_sparse 0 0 2 := ⟨callB_of 2 hts (xt_good kc_KF_sparse) rfl rfl rfl (hts _ (List.mem_cons_of_mem _ kz_KF)) (hts _ (List.mem_cons_of_mem _ m_LW_20)) (by decide +kernel) ⟨hf, hl⟩, hts _ (List.mem_cons_of_mem _ ki_KF_sparse), hts _ (List.mem_cons_of_mem _ kv_KF_sparse)⟩
theorem lk_LW_24 {R : Room} {s : State} {args : Array Value} {c0 : Cond} (hts : ∀ w ∈ c0 :: XT, w.before args s = true) (hf : rm_MD_sparse.frames + 1 ≤ R.frames) (hl : 8 + (4 + 11) + rm_MD_sparse.locals ≤ R.locals) : CallW R s args R_LW R_MD 24 y_MD_sparse c_MD_sparse 4 (Option.some FieldType.int) w_MD_sparse rm_MD_sparse 0 0 2 := ⟨callB_of 2 hts (xt_good kc_MD_sparse) rfl rfl rfl (hts _ (List.mem_cons_of_mem _ kz_MD)) (hts _ (List.mem_cons_of_mem _ m_LW_24)) (by decide +kernel) ⟨hf, hl⟩, hts _ (List.mem_cons_of_mem _ ki_MD_sparse), hts _ (List.mem_cons_of_mem _ kv_MD_sparse)⟩
theorem lk_LW_25 {R : Room} {s : State} {args : Array Value} {c0 : Cond} (hts : ∀ w ∈ c0 :: XT, w.before args s = true) (hf : rm_KF_view.frames + 1 ≤ R.frames) (hl : 8 + (2 + 11) + rm_KF_view.locals ≤ R.locals) : CallW R s args R_LW R_KF 25 y_KF_view c_KF_view 2 (Option.some FieldType.int) w_KF_view rm_KF_view 2 378 0 := ⟨callB_of 0 hts (xt_good kc_KF_view) rfl rfl rfl (hts _ (List.mem_cons_of_mem _ kz_KF)) (hts _ (List.mem_cons_of_mem _ m_LW_25)) (by decide +kernel) ⟨hf, hl⟩, hts _ (List.mem_cons_of_mem _ ki_KF_view), hts _ (List.mem_cons_of_mem _ kv_KF_view)⟩
theorem lk_LW_29 {R : Room} {s : State} {args : Array Value} {c0 : Cond} (hts : ∀ w ∈ c0 :: XT, w.before args s = true) (hf : rm_MD_view.frames + 1 ≤ R.frames) (hl : 8 + (1 + 11) + rm_MD_view.locals ≤ R.locals) : CallW R s args R_LW R_MD 29 y_MD_view c_MD_view 1 (Option.some FieldType.int) w_MD_view rm_MD_view 0 0 0 := ⟨callB_of 0 hts (xt_good kc_MD_view) rfl rfl rfl (hts _ (List.mem_cons_of_mem _ kz_MD)) (hts _ (List.mem_cons_of_mem _ m_LW_29)) (by decide +kernel) ⟨hf, hl⟩, hts _ (List.mem_cons_of_mem _ ki_MD_view), hts _ (List.mem_cons_of_mem _ kv_MD_view)⟩
theorem lk_LW_30 {R : Room} {s : State} {args : Array Value} {c0 : Cond} (hts : ∀ w ∈ c0 :: XT, w.before args s = true) (hf : rm_KF_open.frames + 1 ≤ R.frames) (hl : 8 + (5 + 11) + rm_KF_open.locals ≤ R.locals) : CallW R s args R_LW R_KF 30 y_KF_open c_KF_open 5 (Option.some FieldType.int) w_KF_open rm_KF_open 0 0 3 := ⟨callB_of 3 hts (xt_good kc_KF_open) rfl rfl rfl (hts _ (List.mem_cons_of_mem _ kz_KF)) (hts _ (List.mem_cons_of_mem _ m_LW_30)) (by decide +kernel) ⟨hf, hl⟩, hts _ (List.mem_cons_of_mem _ ki_KF_open), hts _ (List.mem_cons_of_mem _ kv_KF_open)⟩
theorem lk_LW_34 {R : Room} {s : State} {args : Array Value} {c0 : Cond} (hts : ∀ w ∈ c0 :: XT, w.before args s = true) (hf : rm_MD_open.frames + 1 ≤ R.frames) (hl : 8 + (5 + 11) + rm_MD_open.locals ≤ R.locals) : CallW R s args R_LW R_MD 34 y_MD_open c_MD_open 5 (Option.some FieldType.int) w_MD_open rm_MD_open 0 0 3 := ⟨callB_of 3 hts (xt_good kc_MD_open) rfl rfl rfl (hts _ (List.mem_cons_of_mem _ kz_MD)) (hts _ (List.mem_cons_of_mem _ m_LW_34)) (by decide +kernel) ⟨hf, hl⟩, hts _ (List.mem_cons_of_mem _ ki_MD_open), hts _ (List.mem_cons_of_mem _ kv_MD_open)⟩
theorem lk_LW_35 {R : Room} {s : State} {args : Array Value} {c0 : Cond} (hts : ∀ w ∈ c0 :: XT, w.before args s = true) (hf : rm_KF_close.frames + 1 ≤ R.frames) (hl : 8 + (3 + 11) + rm_KF_close.locals ≤ R.locals) : CallW R s args R_LW R_KF 35 y_KF_close c_KF_close 3 (Option.some FieldType.int) w_KF_close rm_KF_close 0 0 1 := ⟨callB_of 1 hts (xt_good kc_KF_close) rfl rfl rfl (hts _ (List.mem_cons_of_mem _ kz_KF)) (hts _ (List.mem_cons_of_mem _ m_LW_35)) (by decide +kernel) ⟨hf, hl⟩, hts _ (List.mem_cons_of_mem _ ki_KF_close), hts _ (List.mem_cons_of_mem _ kv_KF_close)⟩
theorem lk_LW_39 {R : Room} {s : State} {args : Array Value} {c0 : Cond} (hts : ∀ w ∈ c0 :: XT, w.before args s = true) (hf : rm_MD_close.frames + 1 ≤ R.frames) (hl : 8 + (2 + 11) + rm_MD_close.locals ≤ R.locals) : CallW R s args R_LW R_MD 39 y_MD_close c_MD_close 2 (Option.some FieldType.int) w_MD_close rm_MD_close 0 0 1 := ⟨callB_of 1 hts (xt_good kc_MD_close) rfl rfl rfl (hts _ (List.mem_cons_of_mem _ kz_MD)) (hts _ (List.mem_cons_of_mem _ m_LW_39)) (by decide +kernel) ⟨hf, hl⟩, hts _ (List.mem_cons_of_mem _ ki_MD_close), hts _ (List.mem_cons_of_mem _ kv_MD_close)⟩
theorem lk_LW_40 {R : Room} {s : State} {args : Array Value} {c0 : Cond} (hts : ∀ w ∈ c0 :: XT, w.before args s = true) (hf : rm_KF_write.frames + 1 ≤ R.frames) (hl : 8 + (6 + 11) + rm_KF_write.locals ≤ R.locals) : CallW R s args R_LW R_KF 40 y_KF_write c_KF_write 6 (Option.some FieldType.int) w_KF_write rm_KF_write 13 2217 2 := ⟨callB_of 2 hts (xt_good kc_KF_write) rfl rfl rfl (hts _ (List.mem_cons_of_mem _ kz_KF)) (hts _ (List.mem_cons_of_mem _ m_LW_40)) (by decide +kernel) ⟨hf, hl⟩, hts _ (List.mem_cons_of_mem _ ki_KF_write), hts _ (List.mem_cons_of_mem _ kv_KF_write)⟩
theorem lk_LW_43 {R : Room} {s : State} {args : Array Value} {c0 : Cond} (hts : ∀ w ∈ c0 :: XT, w.before args s = true) (hf : rm_MD_write.frames + 1 ≤ R.frames) (hl : 8 + (8 + 11) + rm_MD_write.locals ≤ R.locals) : CallW R s args R_LW R_MD 43 y_MD_write c_MD_write 8 (Option.some FieldType.int) w_MD_write rm_MD_write 0 0 2 := ⟨callB_of 2 hts (xt_good kc_MD_write) rfl rfl rfl (hts _ (List.mem_cons_of_mem _ kz_MD)) (hts _ (List.mem_cons_of_mem _ m_LW_43)) (by decide +kernel) ⟨hf, hl⟩, hts _ (List.mem_cons_of_mem _ ki_MD_write), hts _ (List.mem_cons_of_mem _ kv_MD_write)⟩
theorem lk_LW_44 {R : Room} {s : State} {args : Array Value} {c0 : Cond} (hts : ∀ w ∈ c0 :: XT, w.before args s = true) (hf : rm_KF_read.frames + 1 ≤ R.frames) (hl : 8 + (9 + 11) + rm_KF_read.locals ≤ R.locals) : CallW R s args R_LW R_KF 44 y_KF_read c_KF_read 9 (Option.some FieldType.int) w_KF_read rm_KF_read 0 0 3 := ⟨callB_of 3 hts (xt_good kc_KF_read) rfl rfl rfl (hts _ (List.mem_cons_of_mem _ kz_KF)) (hts _ (List.mem_cons_of_mem _ m_LW_44)) (by decide +kernel) ⟨hf, hl⟩, hts _ (List.mem_cons_of_mem _ ki_KF_read), hts _ (List.mem_cons_of_mem _ kv_KF_read)⟩
theorem lk_LW_48 {R : Room} {s : State} {args : Array Value} {c0 : Cond} (hts : ∀ w ∈ c0 :: XT, w.before args s = true) (hf : rm_MD_read.frames + 1 ≤ R.frames) (hl : 8 + (6 + 11) + rm_MD_read.locals ≤ R.locals) : CallW R s args R_LW R_MD 48 y_MD_read c_MD_read 6 (Option.some FieldType.int) w_MD_read rm_MD_read 0 0 3 := ⟨callB_of 3 hts (xt_good kc_MD_read) rfl rfl rfl (hts _ (List.mem_cons_of_mem _ kz_MD)) (hts _ (List.mem_cons_of_mem _ m_LW_48)) (by decide +kernel) ⟨hf, hl⟩, hts _ (List.mem_cons_of_mem _ ki_MD_read), hts _ (List.mem_cons_of_mem _ kv_MD_read)⟩
theorem lk_LW_49 {R : Room} {s : State} {args : Array Value} {c0 : Cond} (hts : ∀ w ∈ c0 :: XT, w.before args s = true) (hf : rm_KF_value.frames + 1 ≤ R.frames) (hl : 8 + (3 + 11) + rm_KF_value.locals ≤ R.locals) : CallW R s args R_LW R_KF 49 y_KF_value c_KF_value 3 (Option.some FieldType.long) w_KF_value rm_KF_value 0 0 1 := ⟨callB_of 1 hts (xt_good kc_KF_value) rfl rfl rfl (hts _ (List.mem_cons_of_mem _ kz_KF)) (hts _ (List.mem_cons_of_mem _ m_LW_49)) (by decide +kernel) ⟨hf, hl⟩, hts _ (List.mem_cons_of_mem _ ki_KF_value), hts _ (List.mem_cons_of_mem _ kv_KF_value)⟩
theorem lk_LW_53 {R : Room} {s : State} {args : Array Value} {c0 : Cond} (hts : ∀ w ∈ c0 :: XT, w.before args s = true) (hf : rm_MD_value.frames + 1 ≤ R.frames) (hl : 8 + (2 + 11) + rm_MD_value.locals ≤ R.locals) : CallW R s args R_LW R_MD 53 y_MD_value c_MD_value 2 (Option.some FieldType.long) w_MD_value rm_MD_value 0 0 1 := ⟨callB_of 1 hts (xt_good kc_MD_value) rfl rfl rfl (hts _ (List.mem_cons_of_mem _ kz_MD)) (hts _ (List.mem_cons_of_mem _ m_LW_53)) (by decide +kernel) ⟨hf, hl⟩, hts _ (List.mem_cons_of_mem _ ki_MD_value), hts _ (List.mem_cons_of_mem _ kv_MD_value)⟩
theorem lk_LW_54 {R : Room} {s : State} {args : Array Value} {c0 : Cond} (hts : ∀ w ∈ c0 :: XT, w.before args s = true) (hf : rm_KF_start.frames + 1 ≤ R.frames) (hl : 8 + (11 + 11) + rm_KF_start.locals ≤ R.locals) : CallW R s args R_LW R_KF 54 y_KF_start c_KF_start 11 (Option.some FieldType.int) w_KF_start rm_KF_start 0 0 5 := ⟨callB_of 5 hts (xt_good kc_KF_start) rfl rfl rfl (hts _ (List.mem_cons_of_mem _ kz_KF)) (hts _ (List.mem_cons_of_mem _ m_LW_54)) (by decide +kernel) ⟨hf, hl⟩, hts _ (List.mem_cons_of_mem _ ki_KF_start), hts _ (List.mem_cons_of_mem _ kv_KF_start)⟩
theorem lk_LW_58 {R : Room} {s : State} {args : Array Value} {c0 : Cond} (hts : ∀ w ∈ c0 :: XT, w.before args s = true) (hf : rm_MD_start.frames + 1 ≤ R.frames) (hl : 8 + (12 + 11) + rm_MD_start.locals ≤ R.locals) : CallW R s args R_LW R_MD 58 y_MD_start c_MD_start 12 (Option.some FieldType.int) w_MD_start rm_MD_start 0 0 5 := ⟨callB_of 5 hts (xt_good kc_MD_start) rfl rfl rfl (hts _ (List.mem_cons_of_mem _ kz_MD)) (hts _ (List.mem_cons_of_mem _ m_LW_58)) (by decide +kernel) ⟨hf, hl⟩, hts _ (List.mem_cons_of_mem _ ki_MD_start), hts _ (List.mem_cons_of_mem _ kv_MD_start)⟩
theorem lk_LW_59 {R : Room} {s : State} {args : Array Value} {c0 : Cond} (hts : ∀ w ∈ c0 :: XT, w.before args s = true) (hf : rm_KF_next.frames + 1 ≤ R.frames) (hl : 8 + (7 + 11) + rm_KF_next.locals ≤ R.locals) : CallW R s args R_LW R_KF 59 y_KF_next c_KF_next 7 (Option.some FieldType.int) w_KF_next rm_KF_next 0 0 2 := ⟨callB_of 2 hts (xt_good kc_KF_next) rfl rfl rfl (hts _ (List.mem_cons_of_mem _ kz_KF)) (hts _ (List.mem_cons_of_mem _ m_LW_59)) (by decide +kernel) ⟨hf, hl⟩, hts _ (List.mem_cons_of_mem _ ki_KF_next), hts _ (List.mem_cons_of_mem _ kv_KF_next)⟩
theorem lk_LW_63 {R : Room} {s : State} {args : Array Value} {c0 : Cond} (hts : ∀ w ∈ c0 :: XT, w.before args s = true) (hf : rm_MD_next.frames + 1 ≤ R.frames) (hl : 8 + (8 + 11) + rm_MD_next.locals ≤ R.locals) : CallW R s args R_LW R_MD 63 y_MD_next c_MD_next 8 (Option.some FieldType.int) w_MD_next rm_MD_next 0 0 2 := ⟨callB_of 2 hts (xt_good kc_MD_next) rfl rfl rfl (hts _ (List.mem_cons_of_mem _ kz_MD)) (hts _ (List.mem_cons_of_mem _ m_LW_63)) (by decide +kernel) ⟨hf, hl⟩, hts _ (List.mem_cons_of_mem _ ki_MD_next), hts _ (List.mem_cons_of_mem _ kv_MD_next)⟩
theorem lk_LW_64 {R : Room} {s : State} {args : Array Value} {c0 : Cond} (hts : ∀ w ∈ c0 :: XT, w.before args s = true) (hf : rm_KF_rewrite.frames + 1 ≤ R.frames) (hl : 8 + (7 + 11) + rm_KF_rewrite.locals ≤ R.locals) : CallW R s args R_LW R_KF 64 y_KF_rewrite c_KF_rewrite 7 (Option.some FieldType.int) w_KF_rewrite rm_KF_rewrite 12 2214 2 := ⟨callB_of 2 hts (xt_good kc_KF_rewrite) rfl rfl rfl (hts _ (List.mem_cons_of_mem _ kz_KF)) (hts _ (List.mem_cons_of_mem _ m_LW_64)) (by decide +kernel) ⟨hf, hl⟩, hts _ (List.mem_cons_of_mem _ ki_KF_rewrite), hts _ (List.mem_cons_of_mem _ kv_KF_rewrite)⟩
theorem lk_LW_67 {R : Room} {s : State} {args : Array Value} {c0 : Cond} (hts : ∀ w ∈ c0 :: XT, w.before args s = true) (hf : rm_MD_rewrite.frames + 1 ≤ R.frames) (hl : 8 + (6 + 11) + rm_MD_rewrite.locals ≤ R.locals) : CallW R s args R_LW R_MD 67 y_MD_rewrite c_MD_rewrite 6 (Option.some FieldType.int) w_MD_rewrite rm_MD_rewrite 0 0 2 := ⟨callB_of 2 hts (xt_good kc_MD_rewrite) rfl rfl rfl (hts _ (List.mem_cons_of_mem _ kz_MD)) (hts _ (List.mem_cons_of_mem _ m_LW_67)) (by decide +kernel) ⟨hf, hl⟩, hts _ (List.mem_cons_of_mem _ ki_MD_rewrite), hts _ (List.mem_cons_of_mem _ kv_MD_rewrite)⟩
theorem lk_LW_68 {R : Room} {s : State} {args : Array Value} {c0 : Cond} (hts : ∀ w ∈ c0 :: XT, w.before args s = true) (hf : rm_KF_remove.frames + 1 ≤ R.frames) (hl : 8 + (7 + 11) + rm_KF_remove.locals ≤ R.locals) : CallW R s args R_LW R_KF 68 y_KF_remove c_KF_remove 7 (Option.some FieldType.int) w_KF_remove rm_KF_remove 0 0 2 := ⟨callB_of 2 hts (xt_good kc_KF_remove) rfl rfl rfl (hts _ (List.mem_cons_of_mem _ kz_KF)) (hts _ (List.mem_cons_of_mem _ m_LW_68)) (by decide +kernel) ⟨hf, hl⟩, hts _ (List.mem_cons_of_mem _ ki_KF_remove), hts _ (List.mem_cons_of_mem _ kv_KF_remove)⟩
theorem lk_LW_71 {R : Room} {s : State} {args : Array Value} {c0 : Cond} (hts : ∀ w ∈ c0 :: XT, w.before args s = true) (hf : rm_MD_remove.frames + 1 ≤ R.frames) (hl : 8 + (5 + 11) + rm_MD_remove.locals ≤ R.locals) : CallW R s args R_LW R_MD 71 y_MD_remove c_MD_remove 5 (Option.some FieldType.int) w_MD_remove rm_MD_remove 0 0 2 := ⟨callB_of 2 hts (xt_good kc_MD_remove) rfl rfl rfl (hts _ (List.mem_cons_of_mem _ kz_MD)) (hts _ (List.mem_cons_of_mem _ m_LW_71)) (by decide +kernel) ⟨hf, hl⟩, hts _ (List.mem_cons_of_mem _ ki_MD_remove), hts _ (List.mem_cons_of_mem _ kv_MD_remove)⟩
theorem lk_LW_72 {R : Room} {s : State} {args : Array Value} {c0 : Cond} (hts : ∀ w ∈ c0 :: XT, w.before args s = true) (hf : rm_KF_scan.frames + 1 ≤ R.frames) (hl : 8 + (5 + 11) + rm_KF_scan.locals ≤ R.locals) : CallW R s args R_LW R_KF 72 y_KF_scan c_KF_scan 5 (Option.some FieldType.long) w_KF_scan rm_KF_scan 0 0 2 := ⟨callB_of 2 hts (xt_good kc_KF_scan) rfl rfl rfl (hts _ (List.mem_cons_of_mem _ kz_KF)) (hts _ (List.mem_cons_of_mem _ m_LW_72)) (by decide +kernel) ⟨hf, hl⟩, hts _ (List.mem_cons_of_mem _ ki_KF_scan), hts _ (List.mem_cons_of_mem _ kv_KF_scan)⟩
theorem lk_LW_76 {R : Room} {s : State} {args : Array Value} {c0 : Cond} (hts : ∀ w ∈ c0 :: XT, w.before args s = true) (hf : rm_MD_scan.frames + 1 ≤ R.frames) (hl : 8 + (5 + 11) + rm_MD_scan.locals ≤ R.locals) : CallW R s args R_LW R_MD 76 y_MD_scan c_MD_scan 5 (Option.some FieldType.long) w_MD_scan rm_MD_scan 0 0 2 := ⟨callB_of 2 hts (xt_good kc_MD_scan) rfl rfl rfl (hts _ (List.mem_cons_of_mem _ kz_MD)) (hts _ (List.mem_cons_of_mem _ m_LW_76)) (by decide +kernel) ⟨hf, hl⟩, hts _ (List.mem_cons_of_mem _ ki_MD_scan), hts _ (List.mem_cons_of_mem _ kv_MD_scan)⟩
theorem lk_LW_77 {R : Room} {s : State} {args : Array Value} {c0 : Cond} (hts : ∀ w ∈ c0 :: XT, w.before args s = true) (hf : rm_KF_reference.frames + 1 ≤ R.frames) (hl : 8 + (3 + 11) + rm_KF_reference.locals ≤ R.locals) : CallW R s args R_LW R_KF 77 y_KF_reference c_KF_reference 3 (Option.some FieldType.int) w_KF_reference rm_KF_reference 0 0 1 := ⟨callB_of 1 hts (xt_good kc_KF_reference) rfl rfl rfl (hts _ (List.mem_cons_of_mem _ kz_KF)) (hts _ (List.mem_cons_of_mem _ m_LW_77)) (by decide +kernel) ⟨hf, hl⟩, hts _ (List.mem_cons_of_mem _ ki_KF_reference), hts _ (List.mem_cons_of_mem _ kv_KF_reference)⟩
theorem lk_LW_80 {R : Room} {s : State} {args : Array Value} {c0 : Cond} (hts : ∀ w ∈ c0 :: XT, w.before args s = true) (hf : rm_MD_reference.frames + 1 ≤ R.frames) (hl : 8 + (2 + 11) + rm_MD_reference.locals ≤ R.locals) : CallW R s args R_LW R_MD 80 y_MD_reference c_MD_reference 2 (Option.some FieldType.int) w_MD_reference rm_MD_reference 0 0 1 := ⟨callB_of 1 hts (xt_good kc_MD_reference) rfl rfl rfl (hts _ (List.mem_cons_of_mem _ kz_MD)) (hts _ (List.mem_cons_of_mem _ m_LW_80)) (by decide +kernel) ⟨hf, hl⟩, hts _ (List.mem_cons_of_mem _ ki_MD_reference), hts _ (List.mem_cons_of_mem _ kv_MD_reference)⟩
theorem lk_LW_81 {R : Room} {s : State} {args : Array Value} {c0 : Cond} (hts : ∀ w ∈ c0 :: XT, w.before args s = true) (hf : rm_KF_count.frames + 1 ≤ R.frames) (hl : 8 + (2 + 11) + rm_KF_count.locals ≤ R.locals) : CallW R s args R_LW R_KF 81 y_KF_count c_KF_count 2 (Option.some FieldType.int) w_KF_count rm_KF_count 0 0 1 := ⟨callB_of 1 hts (xt_good kc_KF_count) rfl rfl rfl (hts _ (List.mem_cons_of_mem _ kz_KF)) (hts _ (List.mem_cons_of_mem _ m_LW_81)) (by decide +kernel) ⟨hf, hl⟩, hts _ (List.mem_cons_of_mem _ ki_KF_count), hts _ (List.mem_cons_of_mem _ kv_KF_count)⟩
theorem lk_LW_84 {R : Room} {s : State} {args : Array Value} {c0 : Cond} (hts : ∀ w ∈ c0 :: XT, w.before args s = true) (hf : rm_MD_count.frames + 1 ≤ R.frames) (hl : 8 + (4 + 11) + rm_MD_count.locals ≤ R.locals) : CallW R s args R_LW R_MD 84 y_MD_count c_MD_count 4 (Option.some FieldType.int) w_MD_count rm_MD_count 0 0 1 := ⟨callB_of 1 hts (xt_good kc_MD_count) rfl rfl rfl (hts _ (List.mem_cons_of_mem _ kz_MD)) (hts _ (List.mem_cons_of_mem _ m_LW_84)) (by decide +kernel) ⟨hf, hl⟩, hts _ (List.mem_cons_of_mem _ ki_MD_count), hts _ (List.mem_cons_of_mem _ kv_MD_count)⟩
theorem lk_LW_85 {R : Room} {s : State} {args : Array Value} {c0 : Cond} (hts : ∀ w ∈ c0 :: XT, w.before args s = true) (hf : rm_KF_whole.frames + 1 ≤ R.frames) (hl : 8 + (3 + 11) + rm_KF_whole.locals ≤ R.locals) : CallW R s args R_LW R_KF 85 y_KF_whole c_KF_whole 3 (Option.some FieldType.boolean) w_KF_whole rm_KF_whole 0 0 0 := ⟨callB_of 0 hts (xt_good kc_KF_whole) rfl rfl rfl (hts _ (List.mem_cons_of_mem _ kz_KF)) (hts _ (List.mem_cons_of_mem _ m_LW_85)) (by decide +kernel) ⟨hf, hl⟩, hts _ (List.mem_cons_of_mem _ ki_KF_whole), hts _ (List.mem_cons_of_mem _ kv_KF_whole)⟩
theorem lk_LW_89 {R : Room} {s : State} {args : Array Value} {c0 : Cond} (hts : ∀ w ∈ c0 :: XT, w.before args s = true) (hf : rm_MD_whole.frames + 1 ≤ R.frames) (hl : 8 + (1 + 11) + rm_MD_whole.locals ≤ R.locals) : CallW R s args R_LW R_MD 89 y_MD_whole c_MD_whole 1 (Option.some FieldType.boolean) w_MD_whole rm_MD_whole 0 0 0 := ⟨callB_of 0 hts (xt_good kc_MD_whole) rfl rfl rfl (hts _ (List.mem_cons_of_mem _ kz_MD)) (hts _ (List.mem_cons_of_mem _ m_LW_89)) (by decide +kernel) ⟨hf, hl⟩, hts _ (List.mem_cons_of_mem _ ki_MD_whole), hts _ (List.mem_cons_of_mem _ kv_MD_whole)⟩
end
section
/-! THE FRAME: a heap is a map from addresses to cells (xw_G); a judgement XW over it, with the locals as a list; contracts XM. -/
abbrev xw_G : Type := Nat → Option va_E
def xw_A (B : Nat) : Nat → Prop := fun q => B ≤ q
/-- an array without places: never written -/
def xw_ro (e : va_E) : Prop := ∃ (cA : ClassId) (f : (Nat → Int32) ⊕ (Nat → Int64) ⊕ (Nat → UInt32) ⊕ (Nat → UInt64) ⊕ (Nat → Option Nat)), e = .inl (cA, 0, f)
def xw_P (D : va_G) (cl : List vw_C) (B : Nat) (G : xw_G) (H : Heap) : Prop := ∀ (a : Nat) (e : va_E), G a = some e → va_at D cl (a, e) H ∧ (B ≤ a ∨ xw_ro e)
def xw_L (B : Nat) (G : xw_G) (n : Nat) : va_W := (List.range n).filterMap (fun a => if B ≤ a then (G a).map (fun e => (a, e)) else none)
theorem xw_L_of {B : Nat} {G : xw_G} {n k a : Nat} {e : va_E} (h : (xw_L B G n)[k]? = some (a, e)) : G a = some e ∧ B ≤ a ∧ a < n := by
  have h0 := List.mem_of_getElem? h
  unfold xw_L at h0
  obtain ⟨b, hb, h1⟩ := List.mem_filterMap.mp h0
  have hb := List.mem_range.mp hb
  by_cases hB : B ≤ b
  · rw [if_pos hB] at h1
    cases hg : G b with
    | none => rw [hg] at h1; cases h1
    | some e0 =>
      rw [hg] at h1
      cases h1
      exact ⟨hg, hB, hb⟩
  · rw [if_neg hB] at h1
    cases h1
theorem xw_L_in {B : Nat} {G : xw_G} {n a : Nat} {e : va_E} (h : G a = some e) (hB : B ≤ a) (hn : a < n) : ∃ k : Nat, (xw_L B G n)[k]? = some (a, e) := by
  apply List.getElem?_of_mem
  exact List.mem_filterMap.mpr ⟨a, List.mem_range.mpr hn, by rw [if_pos hB, h]; rfl⟩
theorem xw_L_D {B : Nat} {G : xw_G} {n : Nat} : va_D (xw_A B) (xw_L B G n) := by
  have hp : (xw_L B G n).Pairwise (fun x y => x.1 < y.1) := by
    unfold xw_L
    rw [List.pairwise_filterMap]
    refine (List.pairwise_lt_range (n := n)).imp ?_
    intro a b hab x hx y hy
    have h1 : x.1 = a := by
      by_cases hB : B ≤ a
      · rw [if_pos hB] at hx
        cases hg : G a with
        | none => rw [hg] at hx; cases hx
        | some e0 => rw [hg] at hx; cases hx; rfl
      · rw [if_neg hB] at hx; cases hx
    have h2 : y.1 = b := by
      by_cases hB : B ≤ b
      · rw [if_pos hB] at hy
        cases hg : G b with
        | none => rw [hg] at hy; cases hy
        | some e0 => rw [hg] at hy; cases hy; rfl
      · rw [if_neg hB] at hy; cases hy
    omega
  refine ⟨fun i j x y hi hj hxy => ?_, fun k q hk => (xw_L_of (a := q.1) (e := q.2) hk).2.1⟩
  rw [List.pairwise_iff_getElem] at hp
  obtain ⟨hi1, hi2⟩ := List.getElem?_eq_some_iff.mp hi
  obtain ⟨hj1, hj2⟩ := List.getElem?_eq_some_iff.mp hj
  rcases Nat.lt_trichotomy i j with h | h | h
  · have := hp i j hi1 hj1 h
    rw [hi2, hj2] at this
    omega
  · exact h
  · have := hp j i hj1 hi1 h
    rw [hi2, hj2] at this
    omega
theorem xw_L_P {D : va_G} {cl : List vw_C} {B : Nat} {G : xw_G} {H : Heap} (h : xw_P D cl B G H) (n : Nat) : va_P D cl (xw_L B G n) H := fun _ q hk => (h q.1 q.2 (xw_L_of (a := q.1) (e := q.2) hk).1).1
theorem xw_one {D : va_G} {cl : List vw_C} {q : Nat × va_E} {H : Heap} (h : va_at D cl q H) : va_P D cl [q] H := by
  intro k x hk
  have hz : k < 1 := (List.getElem?_eq_some_iff.mp hk).1
  rw [show k = 0 by omega] at hk
  cases hk
  exact h
/-- a row that writes one cell, over the map -/
theorem xw_writeF {D : va_G} {cl : List vw_C} {B : Nat} {G : xw_G} {H H0 : Heap} {locs : List Loc} {a : Nat} {e e' : va_E} {Wx : Heap → List Loc → Prop} {Goal : Prop} (h : xw_P D cl B G H) (hS : va_S (xw_A B) H0 H locs) (hB : B ≤ H0.size) (ha : G a = some e) (hAa : B ≤ a)
    (row : ∀ (ws : va_W) (k : Nat), va_P D cl ws H → va_D (xw_A B) ws → ws[k]? = some (a, e) → (∀ (b : Nat) (e0 : va_E), G b = some e0 → B ≤ b → ∃ j : Nat, ws[j]? = some (b, e0)) → (∀ (H1 : Heap) (locs1 : List Loc), va_P D cl (ws.set k (a, e')) H1 → va_D (xw_A B) (ws.set k (a, e')) → va_S (xw_A B) H0 H1 locs1 → Wx H1 locs1) → Goal)
    (kk : ∀ (H1 : Heap) (locs1 : List Loc), xw_P D cl B (va_up G a (some e')) H1 → va_S (xw_A B) H0 H1 locs1 → Wx H1 locs1) : Goal := by
  have hlt : a < H.size := (h a e ha).1.lt
  obtain ⟨k, hk⟩ := xw_L_in (n := H.size) ha hAa hlt
  have hkl := (List.getElem?_eq_some_iff.mp hk).1
  refine row (xw_L B G H.size) k (xw_L_P h _) xw_L_D hk (fun b e0 hb hBb => xw_L_in hb hBb (h b e0 hb).1.lt) (fun H1 locs1 hP1 hD1 hS1 => kk H1 locs1 ?_ hS1)
  intro b eb hb
  by_cases hba : b = a
  · subst hba
    rw [va_up_self] at hb
    cases hb
    exact ⟨hP1 k _ (List.getElem?_set_self hkl), Or.inl hAa⟩
  · rw [va_up_ne _ _ hba] at hb
    obtain ⟨h1, h2⟩ := h b eb hb
    by_cases hBb : B ≤ b
    · obtain ⟨j, hj⟩ := xw_L_in (n := H.size) hb hBb h1.lt
      have hjk : k ≠ j := by
        intro q
        subst q
        rw [hk] at hj
        cases hj
        exact hba rfl
      exact ⟨hP1 j (b, eb) (by rw [List.getElem?_set_ne hjk]; exact hj), Or.inl hBb⟩
    · refine ⟨h1.kept ?_, h2⟩
      show H1[b]? = H[b]?
      rw [hS1.2.1 b (by omega) hBb, hS.2.1 b (by omega) hBb]
theorem xw_write {D : va_G} {cl : List vw_C} {B : Nat} {G : xw_G} {H H0 : Heap} {locs : List Loc} {a : Nat} {e e' : va_E} {Wx : Heap → List Loc → Prop} {Goal : Prop} (h : xw_P D cl B G H) (hS : va_S (xw_A B) H0 H locs) (hB : B ≤ H0.size) (ha : G a = some e) (hAa : B ≤ a)
    (row : ∀ (ws : va_W) (k : Nat), va_P D cl ws H → va_D (xw_A B) ws → ws[k]? = some (a, e) → (∀ (H1 : Heap) (locs1 : List Loc), va_P D cl (ws.set k (a, e')) H1 → va_D (xw_A B) (ws.set k (a, e')) → va_S (xw_A B) H0 H1 locs1 → Wx H1 locs1) → Goal)
    (kk : ∀ (H1 : Heap) (locs1 : List Loc), xw_P D cl B (va_up G a (some e')) H1 → va_S (xw_A B) H0 H1 locs1 → Wx H1 locs1) : Goal :=
  xw_writeF h hS hB ha hAa (fun ws k h1 h2 h3 _ h5 => row ws k h1 h2 h3 h5) kk
/-- a row that makes one cell, over the map -/
theorem xw_make {ι : Type} {F : ι → Prop} {D : va_G} {cl : List vw_C} {B : Nat} {G : xw_G} {H H0 : Heap} {locs : List Loc} {e' : ι → va_E} {Wx : ι → Nat → Heap → Prop} {Goal : Prop} (h : xw_P D cl B G H) (hS : va_S (xw_A B) H0 H locs) (hB : B ≤ H0.size)
    (row : ∀ (ws : va_W), va_P D cl ws H → va_D (xw_A B) ws → (∀ (q : Nat) (i : ι) (H1 : Heap), F i → va_P D cl (ws ++ [(q, e' i)]) H1 → va_D (xw_A B) (ws ++ [(q, e' i)]) → va_S (xw_A B) H0 H1 locs → Wx i q H1) → Goal)
    (kk : ∀ (q : Nat) (i : ι) (H1 : Heap), F i → G q = none → B ≤ q → xw_P D cl B (va_up G q (some (e' i))) H1 → va_S (xw_A B) H0 H1 locs → Wx i q H1) : Goal := by
  refine row (xw_L B G H.size) (xw_L_P h _) xw_L_D (fun q i H1 hF hP1 hD1 hS1 => ?_)
  have hlast : (xw_L B G H.size ++ [(q, e' i)])[(xw_L B G H.size).length]? = some (q, e' i) := by
    rw [List.getElem?_append_right (Nat.le_refl _), Nat.sub_self]
    rfl
  have hBq : B ≤ q := hD1.2 _ _ hlast
  have hq : G q = none := by
    cases hg : G q with
    | none => rfl
    | some e0 =>
      obtain ⟨j, hj⟩ := xw_L_in (n := H.size) hg hBq (h q e0 hg).1.lt
      have hjl := (List.getElem?_eq_some_iff.mp hj).1
      have := hD1.1 j _ (q, e0) (q, e' i) (by rw [List.getElem?_append_left hjl]; exact hj) hlast rfl
      omega
  refine kk q i H1 hF hq hBq ?_ hS1
  intro b eb hb
  by_cases hba : b = q
  · subst hba
    rw [va_up_self] at hb
    cases hb
    exact ⟨hP1 _ _ hlast, Or.inl hBq⟩
  · rw [va_up_ne _ _ hba] at hb
    obtain ⟨h1, h2⟩ := h b eb hb
    by_cases hBb : B ≤ b
    · obtain ⟨j, hj⟩ := xw_L_in (n := H.size) hb hBb h1.lt
      have hjl := (List.getElem?_eq_some_iff.mp hj).1
      exact ⟨hP1 j (b, eb) (by rw [List.getElem?_append_left hjl]; exact hj), Or.inl hBb⟩
    · refine ⟨h1.kept ?_, h2⟩
      show H1[b]? = H[b]?
      rw [hS1.2.1 b (by omega) hBb, hS.2.1 b (by omega) hBb]
/-- the locals as a list: what a place holds, if it is told -/
def xw_l (ls : Array Slot) (vs : List (Option Value)) : Prop := ls.size = vs.length ∧ lv_wf ls ∧ ∀ (i : Nat) (v : Value), vs[i]? = some (some v) → ls[i]? = some (.val v)
def xw_al : Nat → List (Option Value) → List (Nat × Value)
  | _, [] => []
  | i, none :: vs => xw_al (i + 1) vs
  | i, some v :: vs => (i, v) :: xw_al (i + 1) vs
theorem xw_al_in : ∀ (vs : List (Option Value)) (n i : Nat) (v : Value), vs[i]? = some (some v) → (n + i, v) ∈ xw_al n vs
  | [], n, i, v, h => by simp at h
  | o :: vs, n, i, v, h => by
    cases i with
    | zero =>
      rw [List.getElem?_cons_zero] at h
      cases h
      exact List.mem_cons_self
    | succ i =>
      rw [List.getElem?_cons_succ] at h
      have := xw_al_in vs (n + 1) i v h
      rw [show n + 1 + i = n + (i + 1) by omega] at this
      cases o with
      | none => exact this
      | some x => exact List.mem_cons_of_mem _ this
theorem xw_al_of : ∀ (vs : List (Option Value)) (n : Nat) (q : Nat × Value), q ∈ xw_al n vs → ∃ i : Nat, q.1 = n + i ∧ vs[i]? = some (some q.2)
  | [], n, q, h => by cases h
  | none :: vs, n, q, h => by
    obtain ⟨i, h1, h2⟩ := xw_al_of vs (n + 1) q h
    exact ⟨i + 1, by omega, by rw [List.getElem?_cons_succ]; exact h2⟩
  | some x :: vs, n, q, h => by
    rcases List.mem_cons.mp h with h | h
    · subst h
      exact ⟨0, by simp, by simp⟩
    · obtain ⟨i, h1, h2⟩ := xw_al_of vs (n + 1) q h
      exact ⟨i + 1, by omega, by rw [List.getElem?_cons_succ]; exact h2⟩
theorem xw_l_has {ls : Array Slot} {vs : List (Option Value)} (h : xw_l ls vs) : lv_has ls vs.length (xw_al 0 vs) := by
  refine ⟨h.1, h.2.1, fun q hq => ?_⟩
  obtain ⟨i, h1, h2⟩ := xw_al_of vs 0 q hq
  rw [Nat.zero_add] at h1
  rw [h1]
  exact h.2.2 i q.2 h2
/-- no number of two places begins at the place ahead of i -/
def xw_ok : List (Option Value) → Nat → Bool
  | _, 0 => true
  | vs, i + 1 => match vs[i]? with
    | some (some v) => v.category == 1
    | _ => true
theorem xw_l_s1 {ls' : Array Slot} {vs : List (Option Value)} {i : Nat} {x : Value} (hn : i < vs.length) (hk : xw_ok vs i = true)
    (h : lv_has ls' vs.length ((i, x) :: (xw_al 0 vs).filter (fun q => !(q.1 == i) && !(q.1 + 1 == i && q.2.category == 2)))) : xw_l ls' (vs.set i (some x)) := by
  refine ⟨by rw [List.length_set]; exact h.1, h.2.1, fun j v hj => ?_⟩
  by_cases hji : j = i
  · subst hji
    rw [List.getElem?_set_self hn] at hj
    cases hj
    exact h.2.2 (j, x) List.mem_cons_self
  · rw [List.getElem?_set_ne (Ne.symm hji)] at hj
    refine h.2.2 (j, v) (List.mem_cons_of_mem _ (List.mem_filter.mpr ⟨by have := xw_al_in vs 0 j v hj; rwa [Nat.zero_add] at this, ?_⟩))
    by_cases hs : j + 1 = i
    · subst hs
      have hk2 : (match vs[j]? with | some (some v) => v.category == 1 | _ => true) = true := hk
      rw [hj] at hk2
      have hc : v.category = 1 := by simpa using hk2
      simp [hc]
    · have h1 : (j == i) = false := by simpa using hji
      have h2 : (j + 1 == i) = false := by simpa using hs
      simp [h1, h2]
theorem xw_l_s2 {ls' : Array Slot} {vs : List (Option Value)} {i : Nat} {x : Value} (hn : i + 1 < vs.length) (hk : xw_ok vs i = true)
    (h : lv_has ls' vs.length ((i, x) :: (xw_al 0 vs).filter (fun q => !(q.1 == i) && (!(q.1 == i + 1) && !(q.1 + 1 == i && q.2.category == 2))))) : xw_l ls' ((vs.set i (some x)).set (i + 1) none) := by
  refine ⟨by rw [List.length_set, List.length_set]; exact h.1, h.2.1, fun j v hj => ?_⟩
  by_cases hj1 : j = i + 1
  · subst hj1
    rw [List.getElem?_set_self (by rw [List.length_set]; exact hn)] at hj
    cases hj
  · rw [List.getElem?_set_ne (Ne.symm hj1)] at hj
    by_cases hji : j = i
    · subst hji
      rw [List.getElem?_set_self (by omega)] at hj
      cases hj
      exact h.2.2 (j, x) List.mem_cons_self
    · rw [List.getElem?_set_ne (Ne.symm hji)] at hj
      refine h.2.2 (j, v) (List.mem_cons_of_mem _ (List.mem_filter.mpr ⟨by have := xw_al_in vs 0 j v hj; rwa [Nat.zero_add] at this, ?_⟩))
      have h1 : (j == i) = false := by simpa using hji
      have h3 : (j == i + 1) = false := by simpa using hj1
      by_cases hs : j + 1 = i
      · subst hs
        have hk2 : (match vs[j]? with | some (some v) => v.category == 1 | _ => true) = true := hk
        rw [hj] at hk2
        have hc : v.category = 1 := by simpa using hk2
        simp [hc]
        omega
      · have h2 : (j + 1 == i) = false := by simpa using hs
        simp only [h1, h2, h3]
        rfl
/-- what stays true of the tables and of old cells -/
def xw_St (B : Nat) (Z : State → Prop) : Prop := (∀ u U : State, u.vm = U.vm → u.heap = U.heap → Z u → Z U) ∧ ∀ u U : State, u.WarmedH U.vm → u.heap.size ≤ U.heap.size → (∀ a : Nat, a < u.heap.size → ¬ B ≤ a → U.heap[a]? = u.heap[a]?) → Z u → Z U
/-- a method's surroundings -/
def XC (p : Program) (s : State) (m : MethodId) (args : Array Value) (meth : Method) (c : Code) (cc : ByteArray) (nL : Nat) (own : String) (Ts : List Cond) (D : va_G) (cl : List vw_C) (tys : List (ClassId × FieldType)) (B : Nat) (Z : State → Prop) (ret : Option FieldType) : Prop :=
  p.tables.exec = Jvm.exec ∧ c.code = cc ∧ c.maxLocals = nL ∧ s.vm.findClass own = some m.cls ∧ (∀ w ∈ Ts, w.before args s = true) ∧ va_K D cl tys s ∧ B ≤ s.heap.size ∧ meth.locks = false ∧ (Z s ∧ xw_St B Z) ∧ meth.sig.returnType = ret
def XW (p : Program) (l : Launch) (e : Env) (R : Room) (s : State) (m : MethodId) (args : Array Value) (below : List Frame) (meth : Method) (c : Code) (Q : State → Prop) (D : va_G) (cl : List vw_C) (B : Nat) (pc : Nat) (vs : List (Option Value)) (st : List Value) (G : xw_G) (cells slots : Nat) : Prop :=
  ∀ (H : Heap) (locs : List Loc) (ls : Array Slot), xw_P D cl B G H → va_S (xw_A B) s.heap H locs → xw_l ls vs → W p l e R s m args below meth c H locs cells slots Q (F0 m pc ls st)
/-- a contract's end -/
def XP (D : va_G) (cl : List vw_C) (B : Nat) (post : Option Value → xw_G → Prop) : Array Value → State → Outcome → State → Prop := fun _ st oc t => (∃ (r : Option Value) (G' : xw_G), oc = .returned r ∧ post r G' ∧ xw_P D cl B G' t.heap) ∧ va_F (xw_A B) st t
def XM (l : Launch) (y : MethodName) (ws : List Cond) (rm : Room) (D : va_G) (cl : List vw_C) (tys : List (ClassId × FieldType)) (B : Nat) (Z : State → Prop) (av : List Value) (G : xw_G) (post : Option Value → xw_G → Prop) (mc ms : Nat) : Prop :=
  Met l y ws rm (va_Pc av (fun U => xw_P D cl B G U.heap ∧ va_K D cl tys U ∧ B ≤ U.heap.size ∧ Z U)) (XP D cl B post) mc ms (xw_A B)
abbrev XQ (below : List Frame) (args : Array Value) (s : State) (D : va_G) (cl : List vw_C) (B : Nat) (post : Option Value → xw_G → Prop) (mc ms : Nat) : State → Prop := MQ below (XP D cl B post) args s mc ms (xw_A B)
theorem XM_of {l : Launch} {y : MethodName} {ws ws' : List Cond} {rm : Room} {D : va_G} {cl : List vw_C} {tys : List (ClassId × FieldType)} {B : Nat} {Z : State → Prop} {av : List Value} {G : xw_G} {post : Option Value → xw_G → Prop} {mc ms : Nat} {cc : ByteArray} {maxL : Nat} {ret : Option FieldType} (vs : List (Option Value))
    (hZ : xw_St B Z) (hy : plainName y.cls = true) (hw : ws = Cond.code y cc maxL ret :: ws') (hvs : xw_al 0 vs = lv_args 0 av) (hvl : vs.length = maxL) (hav : (lg_sl av).length ≤ maxL)
    (body : ∀ (p : Program) (e : Env) (s : State) (m : MethodId) (below : List Frame) (meth : Method) (c : Code), XC p s m av.toArray meth c cc maxL y.cls ws D cl tys B Z ret → meth.name = y.name → XW p l e rm s m av.toArray below meth c (XQ below av.toArray s D cl B post mc ms) D cl B 0 vs [] G 0 0) : XM l y ws rm D cl tys B Z av G post mc ms := by
  refine Met.ofW (cc := cc) (maxL := maxL) (ret := ret) hy hw ?_
  intro p e s m args below meth c s₁ Bd hml hv
  obtain ⟨rfl, hP, hK, hB, hz⟩ := hv
  rw [lg_entry_eq]
  have hl := lv_entry av (n := maxL) hav
  refine body p e s m below meth c ⟨Bd.exec, Bd.bytes, hml, findClass_of_methodNamed Bd.named, atoms_spec (ws := ws) Bd.pre, hK, hB, Bd.notSynchronized, ⟨hz, hZ⟩, Bd.returns⟩ (name_of_methodNamed Bd.named Bd.method).1 s.heap [] _ hP va_S.rf ⟨by rw [hl.1, hvl], hl.2.1, fun i v hi => ?_⟩
  refine hl.2.2 (i, v) ?_
  rw [← hvs]
  have := xw_al_in vs 0 i v hi
  rwa [Nat.zero_add] at this

section XWR
variable {p : Program} {l : Launch} {e : Env} {R : Room} {s : State} {m : MethodId} {args : Array Value} {below : List Frame} {meth : Method} {c : Code} {Q : State → Prop} {D : va_G} {cl : List vw_C} {B : Nat} {cc : ByteArray} {nL : Nat} {own : String} {Ts : List Cond} {tys : List (ClassId × FieldType)} {Z : State → Prop} {ret : Option FieldType} {pc : Nat} {vs : List (Option Value)} {st : List Value} {G : xw_G} {cells slots : Nat}
theorem XC.hx (C : XC p s m args meth c cc nL own Ts D cl tys B Z ret) : p.tables.exec = Jvm.exec := C.1
theorem XC.hb (C : XC p s m args meth c cc nL own Ts D cl tys B Z ret) : c.code = cc := C.2.1
theorem XC.hml (C : XC p s m args meth c cc nL own Ts D cl tys B Z ret) : c.maxLocals = nL := C.2.2.1
theorem XC.hown (C : XC p s m args meth c cc nL own Ts D cl tys B Z ret) : s.vm.findClass own = some m.cls := C.2.2.2.1
theorem XC.hts (C : XC p s m args meth c cc nL own Ts D cl tys B Z ret) : ∀ w ∈ Ts, w.before args s = true := C.2.2.2.2.1
theorem XC.hK (C : XC p s m args meth c cc nL own Ts D cl tys B Z ret) : va_K D cl tys s := C.2.2.2.2.2.1
theorem XC.hB (C : XC p s m args meth c cc nL own Ts D cl tys B Z ret) : B ≤ s.heap.size := C.2.2.2.2.2.2.1
theorem XC.hlocks (C : XC p s m args meth c cc nL own Ts D cl tys B Z ret) : meth.locks = false := C.2.2.2.2.2.2.2.1
theorem XC.hZ (C : XC p s m args meth c cc nL own Ts D cl tys B Z ret) : Z s := C.2.2.2.2.2.2.2.2.1.1
theorem XC.hZs (C : XC p s m args meth c cc nL own Ts D cl tys B Z ret) : xw_St B Z := C.2.2.2.2.2.2.2.2.1.2
theorem XC.hr (C : XC p s m args meth c cc nL own Ts D cl tys B Z ret) : meth.sig.returnType = ret := C.2.2.2.2.2.2.2.2.2
theorem XW.wid (k : XW p l e R s m args below meth c Q D cl B (pc) (vs) (st) (G) (cells) (slots)) {ce sl : Nat} (h1 : ce ≤ cells) (h2 : sl ≤ slots) : XW p l e R s m args below meth c Q D cl B (pc) (vs) (st) (G) (ce) (sl) := fun H locs ls hP hS hl => W.widen h1 h2 (k H locs ls hP hS hl)
theorem XW.eqs {vs2 : List (Option Value)} {st2 : List Value} {G2 : xw_G} (k : XW p l e R s m args below meth c Q D cl B (pc) (vs) (st) (G) (cells) (slots)) (h1 : vs2 = vs) (h2 : st2 = st) (h3 : G2 = G) : XW p l e R s m args below meth c Q D cl B (pc) (vs2) (st2) (G2) (cells) (slots) := by subst h1; subst h2; subst h3; exact k
theorem x_iconst (C : XC p s m args meth c cc nL own Ts D cl tys B Z ret) {n : Int} {v : Int32} (hd : decode cc pc = .ok (.iconst n, 1)) (hv : Int32.ofInt n = v) (k : XW p l e R s m args below meth c Q D cl B (pc + 1) (vs) (.int v :: st) (G) (cells) (slots)) : XW p l e R s m args below meth c Q D cl B (pc) (vs) (st) (G) (cells) (slots) := fun H locs ls hP hS hl => lv_iconst C.hx C.hb hd hv (k H locs ls hP hS hl)
theorem x_bipush (C : XC p s m args meth c cc nL own Ts D cl tys B Z ret) {n : Int} {v : Int32} (hd : decode cc pc = .ok (.bipush n, 2)) (hv : (Int8.ofInt n).toInt32 = v) (k : XW p l e R s m args below meth c Q D cl B (pc + 2) (vs) (.int v :: st) (G) (cells) (slots)) : XW p l e R s m args below meth c Q D cl B (pc) (vs) (st) (G) (cells) (slots) := fun H locs ls hP hS hl => lv_bipush C.hx C.hb hd hv (k H locs ls hP hS hl)
theorem x_sipush (C : XC p s m args meth c cc nL own Ts D cl tys B Z ret) {n : Int} {v : Int32} (hd : decode cc pc = .ok (.sipush n, 3)) (hv : (Int16.ofInt n).toInt32 = v) (k : XW p l e R s m args below meth c Q D cl B (pc + 3) (vs) (.int v :: st) (G) (cells) (slots)) : XW p l e R s m args below meth c Q D cl B (pc) (vs) (st) (G) (cells) (slots) := fun H locs ls hP hS hl => lv_sipush C.hx C.hb hd hv (k H locs ls hP hS hl)
theorem x_lconst (C : XC p s m args meth c cc nL own Ts D cl tys B Z ret) {n : Fin 2} {v : Int64} (hd : decode cc pc = .ok (.lconst n, 1)) (hv : Int64.ofNat (n : Nat) = v) (k : XW p l e R s m args below meth c Q D cl B (pc + 1) (vs) (.long v :: st) (G) (cells) (slots)) : XW p l e R s m args below meth c Q D cl B (pc) (vs) (st) (G) (cells) (slots) := fun H locs ls hP hS hl => lv_lconst C.hx C.hb hd hv (k H locs ls hP hS hl)
theorem x_null (C : XC p s m args meth c cc nL own Ts D cl tys B Z ret)  (hd : decode cc pc = .ok (.aconst_null, 1)) (k : XW p l e R s m args below meth c Q D cl B (pc + 1) (vs) (.null :: st) (G) (cells) (slots)) : XW p l e R s m args below meth c Q D cl B (pc) (vs) (st) (G) (cells) (slots) := fun H locs ls hP hS hl => lv_null C.hx C.hb hd (k H locs ls hP hS hl)
theorem x_ldc (C : XC p s m args meth c cc nL own Ts D cl tys B Z ret) {index : Nat} {v : Int32} (hd : decode cc pc = .ok (.ldc index, 2)) (hw : Cond.constant own index v ∈ Ts) (k : XW p l e R s m args below meth c Q D cl B (pc + 2) (vs) (.int v :: st) (G) (cells) (slots)) : XW p l e R s m args below meth c Q D cl B (pc) (vs) (st) (G) (cells) (slots) := fun H locs ls hP hS hl => lv_ldc C.hx C.hb C.hown (C.hts _ hw) hd (k H locs ls hP hS hl)
theorem x_ldc2 (C : XC p s m args meth c cc nL own Ts D cl tys B Z ret) {index : Nat} {v : Int64} (hd : decode cc pc = .ok (.ldc2_w index, 3)) (hw : Cond.constantLong own index v ∈ Ts) (k : XW p l e R s m args below meth c Q D cl B (pc + 3) (vs) (.long v :: st) (G) (cells) (slots)) : XW p l e R s m args below meth c Q D cl B (pc) (vs) (st) (G) (cells) (slots) := fun H locs ls hP hS hl => lv_ldc2 C.hx C.hb C.hown (C.hts _ hw) hd (k H locs ls hP hS hl)
theorem x_iload_n (C : XC p s m args meth c cc nL own Ts D cl tys B Z ret) {k' : Fin 4} {i : Nat} {x : Int32} (hd : decode cc pc = .ok (.iload_n k', 1)) (hi : (k' : Nat) = i) (hv : vs[i]? = some (some (.int x))) (k : XW p l e R s m args below meth c Q D cl B (pc + 1) (vs) (.int x :: st) (G) (cells) (slots)) : XW p l e R s m args below meth c Q D cl B (pc) (vs) (st) (G) (cells) (slots) := fun H locs ls hP hS hl => lv_iload_n C.hx C.hb hd hi (hl.2.2 _ _ hv) (k H locs ls hP hS hl)
theorem x_iload (C : XC p s m args meth c cc nL own Ts D cl tys B Z ret) {i : Nat} {x : Int32} (hd : decode cc pc = .ok (.iload i, 2)) (hv : vs[i]? = some (some (.int x))) (k : XW p l e R s m args below meth c Q D cl B (pc + 2) (vs) (.int x :: st) (G) (cells) (slots)) : XW p l e R s m args below meth c Q D cl B (pc) (vs) (st) (G) (cells) (slots) := fun H locs ls hP hS hl => lv_iload C.hx C.hb hd (hl.2.2 _ _ hv) (k H locs ls hP hS hl)
theorem x_lload_n (C : XC p s m args meth c cc nL own Ts D cl tys B Z ret) {k' : Fin 4} {i : Nat} {x : Int64} (hd : decode cc pc = .ok (.lload_n k', 1)) (hi : (k' : Nat) = i) (hv : vs[i]? = some (some (.long x))) (k : XW p l e R s m args below meth c Q D cl B (pc + 1) (vs) (.long x :: st) (G) (cells) (slots)) : XW p l e R s m args below meth c Q D cl B (pc) (vs) (st) (G) (cells) (slots) := fun H locs ls hP hS hl => lv_lload_n C.hx C.hb hd hi (hl.2.2 _ _ hv) (k H locs ls hP hS hl)
theorem x_lload (C : XC p s m args meth c cc nL own Ts D cl tys B Z ret) {i : Nat} {x : Int64} (hd : decode cc pc = .ok (.lload i, 2)) (hv : vs[i]? = some (some (.long x))) (k : XW p l e R s m args below meth c Q D cl B (pc + 2) (vs) (.long x :: st) (G) (cells) (slots)) : XW p l e R s m args below meth c Q D cl B (pc) (vs) (st) (G) (cells) (slots) := fun H locs ls hP hS hl => lv_lload C.hx C.hb hd (hl.2.2 _ _ hv) (k H locs ls hP hS hl)
theorem x_aload_n (C : XC p s m args meth c cc nL own Ts D cl tys B Z ret) {k' : Fin 4} {i : Nat} {x : Nat} (hd : decode cc pc = .ok (.aload_n k', 1)) (hi : (k' : Nat) = i) (hv : vs[i]? = some (some (.ref x))) (k : XW p l e R s m args below meth c Q D cl B (pc + 1) (vs) (.ref x :: st) (G) (cells) (slots)) : XW p l e R s m args below meth c Q D cl B (pc) (vs) (st) (G) (cells) (slots) := fun H locs ls hP hS hl => lv_aload_n C.hx C.hb hd hi (hl.2.2 _ _ hv) (k H locs ls hP hS hl)
theorem x_aload (C : XC p s m args meth c cc nL own Ts D cl tys B Z ret) {i : Nat} {x : Nat} (hd : decode cc pc = .ok (.aload i, 2)) (hv : vs[i]? = some (some (.ref x))) (k : XW p l e R s m args below meth c Q D cl B (pc + 2) (vs) (.ref x :: st) (G) (cells) (slots)) : XW p l e R s m args below meth c Q D cl B (pc) (vs) (st) (G) (cells) (slots) := fun H locs ls hP hS hl => lv_aload C.hx C.hb hd (hl.2.2 _ _ hv) (k H locs ls hP hS hl)
theorem x_aload_nN (C : XC p s m args meth c cc nL own Ts D cl tys B Z ret) {k' : Fin 4} {i : Nat} (hd : decode cc pc = .ok (.aload_n k', 1)) (hi : (k' : Nat) = i) (hv : vs[i]? = some (some .null)) (k : XW p l e R s m args below meth c Q D cl B (pc + 1) (vs) (.null :: st) (G) (cells) (slots)) : XW p l e R s m args below meth c Q D cl B (pc) (vs) (st) (G) (cells) (slots) := fun H locs ls hP hS hl => lv_aload_nN C.hx C.hb hd hi (hl.2.2 _ _ hv) (k H locs ls hP hS hl)
theorem x_aloadN (C : XC p s m args meth c cc nL own Ts D cl tys B Z ret) {i : Nat} (hd : decode cc pc = .ok (.aload i, 2)) (hv : vs[i]? = some (some .null)) (k : XW p l e R s m args below meth c Q D cl B (pc + 2) (vs) (.null :: st) (G) (cells) (slots)) : XW p l e R s m args below meth c Q D cl B (pc) (vs) (st) (G) (cells) (slots) := fun H locs ls hP hS hl => lv_aloadN C.hx C.hb hd (hl.2.2 _ _ hv) (k H locs ls hP hS hl)
theorem x_istore_n (C : XC p s m args meth c cc nL own Ts D cl tys B Z ret) {k' : Fin 4} {i : Nat} {x : Int32} (hd : decode cc pc = .ok (.istore_n k', 1)) (hi : (k' : Nat) = i) (hn : i < vs.length) (hk : xw_ok vs i = true) (k : XW p l e R s m args below meth c Q D cl B (pc + 1) (vs.set i (some (.int x))) (st) (G) (cells) (slots)) : XW p l e R s m args below meth c Q D cl B (pc) (vs) (.int x :: st) (G) (cells) (slots) := fun H locs ls hP hS hl => lv_istore_n C.hx C.hb hd hi (xw_l_has hl) hn rfl (fun ls h => k H locs ls hP hS (xw_l_s1 hn hk h))
theorem x_istore (C : XC p s m args meth c cc nL own Ts D cl tys B Z ret) {i : Nat} {x : Int32} (hd : decode cc pc = .ok (.istore i, 2)) (hn : i < vs.length) (hk : xw_ok vs i = true) (k : XW p l e R s m args below meth c Q D cl B (pc + 2) (vs.set i (some (.int x))) (st) (G) (cells) (slots)) : XW p l e R s m args below meth c Q D cl B (pc) (vs) (.int x :: st) (G) (cells) (slots) := fun H locs ls hP hS hl => lv_istore C.hx C.hb hd (xw_l_has hl) hn rfl (fun ls h => k H locs ls hP hS (xw_l_s1 hn hk h))
theorem x_astore_n (C : XC p s m args meth c cc nL own Ts D cl tys B Z ret) {k' : Fin 4} {i : Nat} {x : Nat} (hd : decode cc pc = .ok (.astore_n k', 1)) (hi : (k' : Nat) = i) (hn : i < vs.length) (hk : xw_ok vs i = true) (k : XW p l e R s m args below meth c Q D cl B (pc + 1) (vs.set i (some (.ref x))) (st) (G) (cells) (slots)) : XW p l e R s m args below meth c Q D cl B (pc) (vs) (.ref x :: st) (G) (cells) (slots) := fun H locs ls hP hS hl => lv_astore_n C.hx C.hb hd hi (xw_l_has hl) hn rfl (fun ls h => k H locs ls hP hS (xw_l_s1 hn hk h))
theorem x_astore (C : XC p s m args meth c cc nL own Ts D cl tys B Z ret) {i : Nat} {x : Nat} (hd : decode cc pc = .ok (.astore i, 2)) (hn : i < vs.length) (hk : xw_ok vs i = true) (k : XW p l e R s m args below meth c Q D cl B (pc + 2) (vs.set i (some (.ref x))) (st) (G) (cells) (slots)) : XW p l e R s m args below meth c Q D cl B (pc) (vs) (.ref x :: st) (G) (cells) (slots) := fun H locs ls hP hS hl => lv_astore C.hx C.hb hd (xw_l_has hl) hn rfl (fun ls h => k H locs ls hP hS (xw_l_s1 hn hk h))
theorem x_astore_nN (C : XC p s m args meth c cc nL own Ts D cl tys B Z ret) {k' : Fin 4} {i : Nat} (hd : decode cc pc = .ok (.astore_n k', 1)) (hi : (k' : Nat) = i) (hn : i < vs.length) (hk : xw_ok vs i = true) (k : XW p l e R s m args below meth c Q D cl B (pc + 1) (vs.set i (some .null)) (st) (G) (cells) (slots)) : XW p l e R s m args below meth c Q D cl B (pc) (vs) (.null :: st) (G) (cells) (slots) := fun H locs ls hP hS hl => lv_astore_nN C.hx C.hb hd hi (xw_l_has hl) hn rfl (fun ls h => k H locs ls hP hS (xw_l_s1 hn hk h))
theorem x_astoreN (C : XC p s m args meth c cc nL own Ts D cl tys B Z ret) {i : Nat} (hd : decode cc pc = .ok (.astore i, 2)) (hn : i < vs.length) (hk : xw_ok vs i = true) (k : XW p l e R s m args below meth c Q D cl B (pc + 2) (vs.set i (some .null)) (st) (G) (cells) (slots)) : XW p l e R s m args below meth c Q D cl B (pc) (vs) (.null :: st) (G) (cells) (slots) := fun H locs ls hP hS hl => lv_astoreN C.hx C.hb hd (xw_l_has hl) hn rfl (fun ls h => k H locs ls hP hS (xw_l_s1 hn hk h))
theorem x_lstore_n (C : XC p s m args meth c cc nL own Ts D cl tys B Z ret) {k' : Fin 4} {i : Nat} {x : Int64} (hd : decode cc pc = .ok (.lstore_n k', 1)) (hi : (k' : Nat) = i) (hn : i + 1 < vs.length) (hk : xw_ok vs i = true) (k : XW p l e R s m args below meth c Q D cl B (pc + 1) ((vs.set i (some (.long x))).set (i + 1) none) (st) (G) (cells) (slots)) : XW p l e R s m args below meth c Q D cl B (pc) (vs) (.long x :: st) (G) (cells) (slots) := fun H locs ls hP hS hl => lv_lstore_n C.hx C.hb hd hi (xw_l_has hl) hn rfl (fun ls h => k H locs ls hP hS (xw_l_s2 hn hk h))
theorem x_lstore (C : XC p s m args meth c cc nL own Ts D cl tys B Z ret) {i : Nat} {x : Int64} (hd : decode cc pc = .ok (.lstore i, 2)) (hn : i + 1 < vs.length) (hk : xw_ok vs i = true) (k : XW p l e R s m args below meth c Q D cl B (pc + 2) ((vs.set i (some (.long x))).set (i + 1) none) (st) (G) (cells) (slots)) : XW p l e R s m args below meth c Q D cl B (pc) (vs) (.long x :: st) (G) (cells) (slots) := fun H locs ls hP hS hl => lv_lstore C.hx C.hb hd (xw_l_has hl) hn rfl (fun ls h => k H locs ls hP hS (xw_l_s2 hn hk h))
theorem x_iinc (C : XC p s m args meth c cc nL own Ts D cl tys B Z ret) {i : Nat} {n : Int} {x v : Int32} (hd : decode cc pc = .ok (.iinc i n, 3)) (hv : vs[i]? = some (some (.int x))) (he : x + Int32.ofInt n = v) (hk : xw_ok vs i = true) (k : XW p l e R s m args below meth c Q D cl B (pc + 3) (vs.set i (some (.int v))) (st) (G) (cells) (slots)) : XW p l e R s m args below meth c Q D cl B (pc) (vs) (st) (G) (cells) (slots) := by
  intro H locs ls hP hS hl
  have hn : i < vs.length := (List.getElem?_eq_some_iff.mp hv).1
  obtain ⟨j, hj⟩ := List.getElem?_of_mem (xw_al_in vs 0 i _ hv)
  rw [Nat.zero_add] at hj
  exact lv_iinc C.hx C.hb hd (xw_l_has hl) hj he hn rfl (fun ls h => k H locs ls hP hS (xw_l_s1 hn hk h))
theorem x_iadd (C : XC p s m args meth c cc nL own Ts D cl tys B Z ret) {x y : Int32} (hd : decode cc pc = .ok (.iadd, 1)) (k : XW p l e R s m args below meth c Q D cl B (pc + 1) (vs) (.int (x + y) :: st) (G) (cells) (slots)) : XW p l e R s m args below meth c Q D cl B (pc) (vs) (.int y :: .int x :: st) (G) (cells) (slots) := fun H locs ls hP hS hl => lv_iadd C.hx C.hb hd (k H locs ls hP hS hl)
theorem x_isub (C : XC p s m args meth c cc nL own Ts D cl tys B Z ret) {x y : Int32} (hd : decode cc pc = .ok (.isub, 1)) (k : XW p l e R s m args below meth c Q D cl B (pc + 1) (vs) (.int (x - y) :: st) (G) (cells) (slots)) : XW p l e R s m args below meth c Q D cl B (pc) (vs) (.int y :: .int x :: st) (G) (cells) (slots) := fun H locs ls hP hS hl => lv_isub C.hx C.hb hd (k H locs ls hP hS hl)
theorem x_imul (C : XC p s m args meth c cc nL own Ts D cl tys B Z ret) {x y : Int32} (hd : decode cc pc = .ok (.imul, 1)) (k : XW p l e R s m args below meth c Q D cl B (pc + 1) (vs) (.int (x * y) :: st) (G) (cells) (slots)) : XW p l e R s m args below meth c Q D cl B (pc) (vs) (.int y :: .int x :: st) (G) (cells) (slots) := fun H locs ls hP hS hl => lv_imul C.hx C.hb hd (k H locs ls hP hS hl)
theorem x_iand (C : XC p s m args meth c cc nL own Ts D cl tys B Z ret) {x y : Int32} (hd : decode cc pc = .ok (.iand, 1)) (k : XW p l e R s m args below meth c Q D cl B (pc + 1) (vs) (.int (x &&& y) :: st) (G) (cells) (slots)) : XW p l e R s m args below meth c Q D cl B (pc) (vs) (.int y :: .int x :: st) (G) (cells) (slots) := fun H locs ls hP hS hl => lv_iand C.hx C.hb hd (k H locs ls hP hS hl)
theorem x_ior (C : XC p s m args meth c cc nL own Ts D cl tys B Z ret) {x y : Int32} (hd : decode cc pc = .ok (.ior, 1)) (k : XW p l e R s m args below meth c Q D cl B (pc + 1) (vs) (.int (x ||| y) :: st) (G) (cells) (slots)) : XW p l e R s m args below meth c Q D cl B (pc) (vs) (.int y :: .int x :: st) (G) (cells) (slots) := fun H locs ls hP hS hl => lv_ior C.hx C.hb hd (k H locs ls hP hS hl)
theorem x_ishl (C : XC p s m args meth c cc nL own Ts D cl tys B Z ret) {x y : Int32} (hd : decode cc pc = .ok (.ishl, 1)) (k : XW p l e R s m args below meth c Q D cl B (pc + 1) (vs) (.int (x <<< (y &&& 31)) :: st) (G) (cells) (slots)) : XW p l e R s m args below meth c Q D cl B (pc) (vs) (.int y :: .int x :: st) (G) (cells) (slots) := fun H locs ls hP hS hl => lv_ishl C.hx C.hb hd (k H locs ls hP hS hl)
theorem x_ishr (C : XC p s m args meth c cc nL own Ts D cl tys B Z ret) {x y : Int32} (hd : decode cc pc = .ok (.ishr, 1)) (k : XW p l e R s m args below meth c Q D cl B (pc + 1) (vs) (.int (x >>> (y &&& 31)) :: st) (G) (cells) (slots)) : XW p l e R s m args below meth c Q D cl B (pc) (vs) (.int y :: .int x :: st) (G) (cells) (slots) := fun H locs ls hP hS hl => lv_ishr C.hx C.hb hd (k H locs ls hP hS hl)
theorem x_idiv (C : XC p s m args meth c cc nL own Ts D cl tys B Z ret) {x y : Int32} (hd : decode cc pc = .ok (.idiv, 1)) (hne : ¬ y = 0) (k : XW p l e R s m args below meth c Q D cl B (pc + 1) (vs) (.int (x / y) :: st) (G) (cells) (slots)) : XW p l e R s m args below meth c Q D cl B (pc) (vs) (.int y :: .int x :: st) (G) (cells) (slots) := fun H locs ls hP hS hl => lv_idiv C.hx C.hb hd hne (k H locs ls hP hS hl)
theorem x_irem (C : XC p s m args meth c cc nL own Ts D cl tys B Z ret) {x y : Int32} (hd : decode cc pc = .ok (.irem, 1)) (hne : ¬ y = 0) (k : XW p l e R s m args below meth c Q D cl B (pc + 1) (vs) (.int (x - x / y * y) :: st) (G) (cells) (slots)) : XW p l e R s m args below meth c Q D cl B (pc) (vs) (.int y :: .int x :: st) (G) (cells) (slots) := fun H locs ls hP hS hl => lv_irem C.hx C.hb hd hne (k H locs ls hP hS hl)
theorem x_ladd (C : XC p s m args meth c cc nL own Ts D cl tys B Z ret) {x y : Int64} (hd : decode cc pc = .ok (.ladd, 1)) (k : XW p l e R s m args below meth c Q D cl B (pc + 1) (vs) (.long (x + y) :: st) (G) (cells) (slots)) : XW p l e R s m args below meth c Q D cl B (pc) (vs) (.long y :: .long x :: st) (G) (cells) (slots) := fun H locs ls hP hS hl => lv_ladd C.hx C.hb hd (k H locs ls hP hS hl)
theorem x_lsub (C : XC p s m args meth c cc nL own Ts D cl tys B Z ret) {x y : Int64} (hd : decode cc pc = .ok (.lsub, 1)) (k : XW p l e R s m args below meth c Q D cl B (pc + 1) (vs) (.long (x - y) :: st) (G) (cells) (slots)) : XW p l e R s m args below meth c Q D cl B (pc) (vs) (.long y :: .long x :: st) (G) (cells) (slots) := fun H locs ls hP hS hl => lv_lsub C.hx C.hb hd (k H locs ls hP hS hl)
theorem x_lmul (C : XC p s m args meth c cc nL own Ts D cl tys B Z ret) {x y : Int64} (hd : decode cc pc = .ok (.lmul, 1)) (k : XW p l e R s m args below meth c Q D cl B (pc + 1) (vs) (.long (x * y) :: st) (G) (cells) (slots)) : XW p l e R s m args below meth c Q D cl B (pc) (vs) (.long y :: .long x :: st) (G) (cells) (slots) := fun H locs ls hP hS hl => lv_lmul C.hx C.hb hd (k H locs ls hP hS hl)
theorem x_land (C : XC p s m args meth c cc nL own Ts D cl tys B Z ret) {x y : Int64} (hd : decode cc pc = .ok (.land, 1)) (k : XW p l e R s m args below meth c Q D cl B (pc + 1) (vs) (.long (x &&& y) :: st) (G) (cells) (slots)) : XW p l e R s m args below meth c Q D cl B (pc) (vs) (.long y :: .long x :: st) (G) (cells) (slots) := fun H locs ls hP hS hl => lv_land C.hx C.hb hd (k H locs ls hP hS hl)
theorem x_lor (C : XC p s m args meth c cc nL own Ts D cl tys B Z ret) {x y : Int64} (hd : decode cc pc = .ok (.lor, 1)) (k : XW p l e R s m args below meth c Q D cl B (pc + 1) (vs) (.long (x ||| y) :: st) (G) (cells) (slots)) : XW p l e R s m args below meth c Q D cl B (pc) (vs) (.long y :: .long x :: st) (G) (cells) (slots) := fun H locs ls hP hS hl => lv_lor C.hx C.hb hd (k H locs ls hP hS hl)
theorem x_lxor (C : XC p s m args meth c cc nL own Ts D cl tys B Z ret) {x y : Int64} (hd : decode cc pc = .ok (.lxor, 1)) (k : XW p l e R s m args below meth c Q D cl B (pc + 1) (vs) (.long (x ^^^ y) :: st) (G) (cells) (slots)) : XW p l e R s m args below meth c Q D cl B (pc) (vs) (.long y :: .long x :: st) (G) (cells) (slots) := fun H locs ls hP hS hl => lv_lxor C.hx C.hb hd (k H locs ls hP hS hl)
theorem x_iushr (C : XC p s m args meth c cc nL own Ts D cl tys B Z ret) {x y : Int32} (hd : decode cc pc = .ok (.iushr, 1)) (k : XW p l e R s m args below meth c Q D cl B (pc + 1) (vs) (.int ((x.toUInt32 >>> (y.toUInt32 &&& Int32.toUInt32 31)).toInt32) :: st) (G) (cells) (slots)) : XW p l e R s m args below meth c Q D cl B (pc) (vs) (.int y :: .int x :: st) (G) (cells) (slots) := fun H locs ls hP hS hl => lv_iushr C.hx C.hb hd rfl (k H locs ls hP hS hl)
theorem x_lushr (C : XC p s m args meth c cc nL own Ts D cl tys B Z ret) {x : Int64} {y : Int32} (hd : decode cc pc = .ok (.lushr, 1)) (k : XW p l e R s m args below meth c Q D cl B (pc + 1) (vs) (.long ((x.toUInt64 >>> (y.toInt64.toUInt64 &&& Int64.toUInt64 63)).toInt64) :: st) (G) (cells) (slots)) : XW p l e R s m args below meth c Q D cl B (pc) (vs) (.int y :: .long x :: st) (G) (cells) (slots) := fun H locs ls hP hS hl => lv_lushr C.hx C.hb hd rfl (k H locs ls hP hS hl)
theorem x_lshl (C : XC p s m args meth c cc nL own Ts D cl tys B Z ret) {x : Int64} {y : Int32} (hd : decode cc pc = .ok (.lshl, 1)) (k : XW p l e R s m args below meth c Q D cl B (pc + 1) (vs) (.long (x <<< (y.toInt64 &&& 63)) :: st) (G) (cells) (slots)) : XW p l e R s m args below meth c Q D cl B (pc) (vs) (.int y :: .long x :: st) (G) (cells) (slots) := fun H locs ls hP hS hl => lv_lshl C.hx C.hb hd rfl (k H locs ls hP hS hl)
theorem x_lshr (C : XC p s m args meth c cc nL own Ts D cl tys B Z ret) {x : Int64} {y : Int32} (hd : decode cc pc = .ok (.lshr, 1)) (k : XW p l e R s m args below meth c Q D cl B (pc + 1) (vs) (.long (x >>> (y.toInt64 &&& 63)) :: st) (G) (cells) (slots)) : XW p l e R s m args below meth c Q D cl B (pc) (vs) (.int y :: .long x :: st) (G) (cells) (slots) := fun H locs ls hP hS hl => lv_lshr C.hx C.hb hd rfl (k H locs ls hP hS hl)
theorem x_i2l (C : XC p s m args meth c cc nL own Ts D cl tys B Z ret) {x : Int32} (hd : decode cc pc = .ok (.i2l, 1)) (k : XW p l e R s m args below meth c Q D cl B (pc + 1) (vs) (.long x.toInt64 :: st) (G) (cells) (slots)) : XW p l e R s m args below meth c Q D cl B (pc) (vs) (.int x :: st) (G) (cells) (slots) := fun H locs ls hP hS hl => lv_i2l C.hx C.hb hd rfl (k H locs ls hP hS hl)
theorem x_l2i (C : XC p s m args meth c cc nL own Ts D cl tys B Z ret) {x : Int64} (hd : decode cc pc = .ok (.l2i, 1)) (k : XW p l e R s m args below meth c Q D cl B (pc + 1) (vs) (.int x.toInt32 :: st) (G) (cells) (slots)) : XW p l e R s m args below meth c Q D cl B (pc) (vs) (.long x :: st) (G) (cells) (slots) := fun H locs ls hP hS hl => lv_l2i C.hx C.hb hd rfl (k H locs ls hP hS hl)
theorem x_lcmp (C : XC p s m args meth c cc nL own Ts D cl tys B Z ret) {x y : Int64} (hd : decode cc pc = .ok (.lcmp, 1)) (k : XW p l e R s m args below meth c Q D cl B (pc + 1) (vs) (.int (lg_cmp x y) :: st) (G) (cells) (slots)) : XW p l e R s m args below meth c Q D cl B (pc) (vs) (.long y :: .long x :: st) (G) (cells) (slots) := fun H locs ls hP hS hl => W.lcmp C.hx C.hb hd (k H locs ls hP hS hl)
theorem x_dup (C : XC p s m args meth c cc nL own Ts D cl tys B Z ret) {va : Value} (hd : decode cc pc = .ok (.dup, 1)) (hva : va.category = 1) (k : XW p l e R s m args below meth c Q D cl B (pc + 1) (vs) (va :: va :: st) (G) (cells) (slots)) : XW p l e R s m args below meth c Q D cl B (pc) (vs) (va :: st) (G) (cells) (slots) := fun H locs ls hP hS hl => lv_dup C.hx C.hb hd hva (k H locs ls hP hS hl)
theorem x_pop (C : XC p s m args meth c cc nL own Ts D cl tys B Z ret) {va : Value} (hd : decode cc pc = .ok (.pop, 1)) (hva : va.category = 1) (k : XW p l e R s m args below meth c Q D cl B (pc + 1) (vs) (st) (G) (cells) (slots)) : XW p l e R s m args below meth c Q D cl B (pc) (vs) (va :: st) (G) (cells) (slots) := fun H locs ls hP hS hl => lv_pop C.hx C.hb hd hva (k H locs ls hP hS hl)
theorem x_dup_x1 (C : XC p s m args meth c cc nL own Ts D cl tys B Z ret) {va vb : Value} (hd : decode cc pc = .ok (.dup_x1, 1)) (hva : va.category = 1) (hvb : vb.category = 1) (k : XW p l e R s m args below meth c Q D cl B (pc + 1) (vs) (va :: vb :: va :: st) (G) (cells) (slots)) : XW p l e R s m args below meth c Q D cl B (pc) (vs) (va :: vb :: st) (G) (cells) (slots) := fun H locs ls hP hS hl => lv_dup_x1 C.hx C.hb hd hva hvb (k H locs ls hP hS hl)
theorem x_dup2_2 (C : XC p s m args meth c cc nL own Ts D cl tys B Z ret) {va : Value} (hd : decode cc pc = .ok (.dup2, 1)) (hva : va.category = 2) (k : XW p l e R s m args below meth c Q D cl B (pc + 1) (vs) (va :: va :: st) (G) (cells) (slots)) : XW p l e R s m args below meth c Q D cl B (pc) (vs) (va :: st) (G) (cells) (slots) := fun H locs ls hP hS hl => lv_dup2_2 C.hx C.hb hd hva (k H locs ls hP hS hl)
theorem x_dup2_11 (C : XC p s m args meth c cc nL own Ts D cl tys B Z ret) {va vb : Value} (hd : decode cc pc = .ok (.dup2, 1)) (hva : va.category = 1) (hvb : vb.category = 1) (k : XW p l e R s m args below meth c Q D cl B (pc + 1) (vs) (va :: vb :: va :: vb :: st) (G) (cells) (slots)) : XW p l e R s m args below meth c Q D cl B (pc) (vs) (va :: vb :: st) (G) (cells) (slots) := fun H locs ls hP hS hl => lv_dup2_11 C.hx C.hb hd hva hvb (k H locs ls hP hS hl)
theorem x_dup2_x1_2 (C : XC p s m args meth c cc nL own Ts D cl tys B Z ret) {va vb : Value} (hd : decode cc pc = .ok (.dup2_x1, 1)) (hva : va.category = 2) (hvb : vb.category = 1) (k : XW p l e R s m args below meth c Q D cl B (pc + 1) (vs) (va :: vb :: va :: st) (G) (cells) (slots)) : XW p l e R s m args below meth c Q D cl B (pc) (vs) (va :: vb :: st) (G) (cells) (slots) := fun H locs ls hP hS hl => lv_dup2_x1_2 C.hx C.hb hd hva hvb (k H locs ls hP hS hl)
theorem x_pop2_2 (C : XC p s m args meth c cc nL own Ts D cl tys B Z ret) {va : Value} (hd : decode cc pc = .ok (.pop2, 1)) (hva : va.category = 2) (k : XW p l e R s m args below meth c Q D cl B (pc + 1) (vs) (st) (G) (cells) (slots)) : XW p l e R s m args below meth c Q D cl B (pc) (vs) (va :: st) (G) (cells) (slots) := fun H locs ls hP hS hl => lv_pop2_2 C.hx C.hb hd hva (k H locs ls hP hS hl)
theorem x_if_eq (C : XC p s m args meth c cc nL own Ts D cl tys B Z ret) {x : Int32} {off : Int} (tgt : Nat) (hd : decode cc pc = .ok (.ifCond .eq off, 3)) (ht : (pc : Int) + off = (tgt : Int)) (kt : x = 0 → XW p l e R s m args below meth c Q D cl B (tgt) (vs) (st) (G) (cells) (slots)) (kf : ¬ x = 0 → XW p l e R s m args below meth c Q D cl B (pc + 3) (vs) (st) (G) (cells) (slots)) : XW p l e R s m args below meth c Q D cl B (pc) (vs) (.int x :: st) (G) (cells) (slots) := fun H locs ls hP hS hl => lv_if_eq C.hx C.hb hd ht (fun h => kt h H locs ls hP hS hl) (fun h => kf h H locs ls hP hS hl)
theorem x_icmp_eq (C : XC p s m args meth c cc nL own Ts D cl tys B Z ret) {x y : Int32} {off : Int} (tgt : Nat) (hd : decode cc pc = .ok (.if_icmp .eq off, 3)) (ht : (pc : Int) + off = (tgt : Int)) (kt : x = y → XW p l e R s m args below meth c Q D cl B (tgt) (vs) (st) (G) (cells) (slots)) (kf : ¬ x = y → XW p l e R s m args below meth c Q D cl B (pc + 3) (vs) (st) (G) (cells) (slots)) : XW p l e R s m args below meth c Q D cl B (pc) (vs) (.int y :: .int x :: st) (G) (cells) (slots) := fun H locs ls hP hS hl => lv_icmp_eq C.hx C.hb hd ht (fun h => kt h H locs ls hP hS hl) (fun h => kf h H locs ls hP hS hl)
theorem x_if_ne (C : XC p s m args meth c cc nL own Ts D cl tys B Z ret) {x : Int32} {off : Int} (tgt : Nat) (hd : decode cc pc = .ok (.ifCond .ne off, 3)) (ht : (pc : Int) + off = (tgt : Int)) (kt : ¬ x = 0 → XW p l e R s m args below meth c Q D cl B (tgt) (vs) (st) (G) (cells) (slots)) (kf : x = 0 → XW p l e R s m args below meth c Q D cl B (pc + 3) (vs) (st) (G) (cells) (slots)) : XW p l e R s m args below meth c Q D cl B (pc) (vs) (.int x :: st) (G) (cells) (slots) := fun H locs ls hP hS hl => lv_if_ne C.hx C.hb hd ht (fun h => kt h H locs ls hP hS hl) (fun h => kf h H locs ls hP hS hl)
theorem x_icmp_ne (C : XC p s m args meth c cc nL own Ts D cl tys B Z ret) {x y : Int32} {off : Int} (tgt : Nat) (hd : decode cc pc = .ok (.if_icmp .ne off, 3)) (ht : (pc : Int) + off = (tgt : Int)) (kt : ¬ x = y → XW p l e R s m args below meth c Q D cl B (tgt) (vs) (st) (G) (cells) (slots)) (kf : x = y → XW p l e R s m args below meth c Q D cl B (pc + 3) (vs) (st) (G) (cells) (slots)) : XW p l e R s m args below meth c Q D cl B (pc) (vs) (.int y :: .int x :: st) (G) (cells) (slots) := fun H locs ls hP hS hl => lv_icmp_ne C.hx C.hb hd ht (fun h => kt h H locs ls hP hS hl) (fun h => kf h H locs ls hP hS hl)
theorem x_if_lt (C : XC p s m args meth c cc nL own Ts D cl tys B Z ret) {x : Int32} {off : Int} (tgt : Nat) (hd : decode cc pc = .ok (.ifCond .lt off, 3)) (ht : (pc : Int) + off = (tgt : Int)) (kt : x < 0 → XW p l e R s m args below meth c Q D cl B (tgt) (vs) (st) (G) (cells) (slots)) (kf : ¬ x < 0 → XW p l e R s m args below meth c Q D cl B (pc + 3) (vs) (st) (G) (cells) (slots)) : XW p l e R s m args below meth c Q D cl B (pc) (vs) (.int x :: st) (G) (cells) (slots) := fun H locs ls hP hS hl => lv_if_lt C.hx C.hb hd ht (fun h => kt h H locs ls hP hS hl) (fun h => kf h H locs ls hP hS hl)
theorem x_icmp_lt (C : XC p s m args meth c cc nL own Ts D cl tys B Z ret) {x y : Int32} {off : Int} (tgt : Nat) (hd : decode cc pc = .ok (.if_icmp .lt off, 3)) (ht : (pc : Int) + off = (tgt : Int)) (kt : x < y → XW p l e R s m args below meth c Q D cl B (tgt) (vs) (st) (G) (cells) (slots)) (kf : ¬ x < y → XW p l e R s m args below meth c Q D cl B (pc + 3) (vs) (st) (G) (cells) (slots)) : XW p l e R s m args below meth c Q D cl B (pc) (vs) (.int y :: .int x :: st) (G) (cells) (slots) := fun H locs ls hP hS hl => lv_icmp_lt C.hx C.hb hd ht (fun h => kt h H locs ls hP hS hl) (fun h => kf h H locs ls hP hS hl)
theorem x_if_ge (C : XC p s m args meth c cc nL own Ts D cl tys B Z ret) {x : Int32} {off : Int} (tgt : Nat) (hd : decode cc pc = .ok (.ifCond .ge off, 3)) (ht : (pc : Int) + off = (tgt : Int)) (kt : 0 ≤ x → XW p l e R s m args below meth c Q D cl B (tgt) (vs) (st) (G) (cells) (slots)) (kf : ¬ 0 ≤ x → XW p l e R s m args below meth c Q D cl B (pc + 3) (vs) (st) (G) (cells) (slots)) : XW p l e R s m args below meth c Q D cl B (pc) (vs) (.int x :: st) (G) (cells) (slots) := fun H locs ls hP hS hl => lv_if_ge C.hx C.hb hd ht (fun h => kt h H locs ls hP hS hl) (fun h => kf h H locs ls hP hS hl)
theorem x_icmp_ge (C : XC p s m args meth c cc nL own Ts D cl tys B Z ret) {x y : Int32} {off : Int} (tgt : Nat) (hd : decode cc pc = .ok (.if_icmp .ge off, 3)) (ht : (pc : Int) + off = (tgt : Int)) (kt : y ≤ x → XW p l e R s m args below meth c Q D cl B (tgt) (vs) (st) (G) (cells) (slots)) (kf : ¬ y ≤ x → XW p l e R s m args below meth c Q D cl B (pc + 3) (vs) (st) (G) (cells) (slots)) : XW p l e R s m args below meth c Q D cl B (pc) (vs) (.int y :: .int x :: st) (G) (cells) (slots) := fun H locs ls hP hS hl => lv_icmp_ge C.hx C.hb hd ht (fun h => kt h H locs ls hP hS hl) (fun h => kf h H locs ls hP hS hl)
theorem x_if_gt (C : XC p s m args meth c cc nL own Ts D cl tys B Z ret) {x : Int32} {off : Int} (tgt : Nat) (hd : decode cc pc = .ok (.ifCond .gt off, 3)) (ht : (pc : Int) + off = (tgt : Int)) (kt : 0 < x → XW p l e R s m args below meth c Q D cl B (tgt) (vs) (st) (G) (cells) (slots)) (kf : ¬ 0 < x → XW p l e R s m args below meth c Q D cl B (pc + 3) (vs) (st) (G) (cells) (slots)) : XW p l e R s m args below meth c Q D cl B (pc) (vs) (.int x :: st) (G) (cells) (slots) := fun H locs ls hP hS hl => lv_if_gt C.hx C.hb hd ht (fun h => kt h H locs ls hP hS hl) (fun h => kf h H locs ls hP hS hl)
theorem x_icmp_gt (C : XC p s m args meth c cc nL own Ts D cl tys B Z ret) {x y : Int32} {off : Int} (tgt : Nat) (hd : decode cc pc = .ok (.if_icmp .gt off, 3)) (ht : (pc : Int) + off = (tgt : Int)) (kt : y < x → XW p l e R s m args below meth c Q D cl B (tgt) (vs) (st) (G) (cells) (slots)) (kf : ¬ y < x → XW p l e R s m args below meth c Q D cl B (pc + 3) (vs) (st) (G) (cells) (slots)) : XW p l e R s m args below meth c Q D cl B (pc) (vs) (.int y :: .int x :: st) (G) (cells) (slots) := fun H locs ls hP hS hl => lv_icmp_gt C.hx C.hb hd ht (fun h => kt h H locs ls hP hS hl) (fun h => kf h H locs ls hP hS hl)
theorem x_if_le (C : XC p s m args meth c cc nL own Ts D cl tys B Z ret) {x : Int32} {off : Int} (tgt : Nat) (hd : decode cc pc = .ok (.ifCond .le off, 3)) (ht : (pc : Int) + off = (tgt : Int)) (kt : x ≤ 0 → XW p l e R s m args below meth c Q D cl B (tgt) (vs) (st) (G) (cells) (slots)) (kf : ¬ x ≤ 0 → XW p l e R s m args below meth c Q D cl B (pc + 3) (vs) (st) (G) (cells) (slots)) : XW p l e R s m args below meth c Q D cl B (pc) (vs) (.int x :: st) (G) (cells) (slots) := fun H locs ls hP hS hl => lv_if_le C.hx C.hb hd ht (fun h => kt h H locs ls hP hS hl) (fun h => kf h H locs ls hP hS hl)
theorem x_icmp_le (C : XC p s m args meth c cc nL own Ts D cl tys B Z ret) {x y : Int32} {off : Int} (tgt : Nat) (hd : decode cc pc = .ok (.if_icmp .le off, 3)) (ht : (pc : Int) + off = (tgt : Int)) (kt : x ≤ y → XW p l e R s m args below meth c Q D cl B (tgt) (vs) (st) (G) (cells) (slots)) (kf : ¬ x ≤ y → XW p l e R s m args below meth c Q D cl B (pc + 3) (vs) (st) (G) (cells) (slots)) : XW p l e R s m args below meth c Q D cl B (pc) (vs) (.int y :: .int x :: st) (G) (cells) (slots) := fun H locs ls hP hS hl => lv_icmp_le C.hx C.hb hd ht (fun h => kt h H locs ls hP hS hl) (fun h => kf h H locs ls hP hS hl)
theorem x_acmp_eq (C : XC p s m args meth c cc nL own Ts D cl tys B Z ret) {rx ry : Option Nat} {off : Int} (tgt : Nat) (hd : decode cc pc = .ok (.if_acmp .eq off, 3)) (ht : (pc : Int) + off = (tgt : Int)) (kt : rx = ry → XW p l e R s m args below meth c Q D cl B (tgt) (vs) (st) (G) (cells) (slots)) (kf : ¬ rx = ry → XW p l e R s m args below meth c Q D cl B (pc + 3) (vs) (st) (G) (cells) (slots)) : XW p l e R s m args below meth c Q D cl B (pc) (vs) (va_rf ry :: va_rf rx :: st) (G) (cells) (slots) := fun H locs ls hP hS hl => lv_acmp_eq C.hx C.hb hd ht (fun h => kt h H locs ls hP hS hl) (fun h => kf h H locs ls hP hS hl)
theorem x_acmp_ne (C : XC p s m args meth c cc nL own Ts D cl tys B Z ret) {rx ry : Option Nat} {off : Int} (tgt : Nat) (hd : decode cc pc = .ok (.if_acmp .ne off, 3)) (ht : (pc : Int) + off = (tgt : Int)) (kt : ¬ rx = ry → XW p l e R s m args below meth c Q D cl B (tgt) (vs) (st) (G) (cells) (slots)) (kf : rx = ry → XW p l e R s m args below meth c Q D cl B (pc + 3) (vs) (st) (G) (cells) (slots)) : XW p l e R s m args below meth c Q D cl B (pc) (vs) (va_rf ry :: va_rf rx :: st) (G) (cells) (slots) := fun H locs ls hP hS hl => lv_acmp_ne C.hx C.hb hd ht (fun h => kt h H locs ls hP hS hl) (fun h => kf h H locs ls hP hS hl)
theorem x_goto (C : XC p s m args meth c cc nL own Ts D cl tys B Z ret) {off : Int} (tgt : Nat) (hd : decode cc pc = .ok (.goto off, 3)) (ht : (pc : Int) + off = (tgt : Int)) (k : XW p l e R s m args below meth c Q D cl B (tgt) (vs) (st) (G) (cells) (slots)) : XW p l e R s m args below meth c Q D cl B (pc) (vs) (st) (G) (cells) (slots) := fun H locs ls hP hS hl => lv_goto C.hx C.hb hd ht (k H locs ls hP hS hl)
theorem x_ifnonnull (C : XC p s m args meth c cc nL own Ts D cl tys B Z ret) {a : Nat} {off : Int} (tgt : Nat) (hd : decode cc pc = .ok (.ifnonnull off, 3)) (ht : (pc : Int) + off = (tgt : Int)) (k : XW p l e R s m args below meth c Q D cl B (tgt) (vs) (st) (G) (cells) (slots)) : XW p l e R s m args below meth c Q D cl B (pc) (vs) (.ref a :: st) (G) (cells) (slots) := fun H locs ls hP hS hl => lv_ifnonnull C.hx C.hb hd ht (k H locs ls hP hS hl)
theorem x_ifnonnullN (C : XC p s m args meth c cc nL own Ts D cl tys B Z ret) {off : Int} (hd : decode cc pc = .ok (.ifnonnull off, 3)) (k : XW p l e R s m args below meth c Q D cl B (pc + 3) (vs) (st) (G) (cells) (slots)) : XW p l e R s m args below meth c Q D cl B (pc) (vs) (.null :: st) (G) (cells) (slots) := fun H locs ls hP hS hl => lv_ifnonnullN C.hx C.hb hd (k H locs ls hP hS hl)
theorem x_ifnull (C : XC p s m args meth c cc nL own Ts D cl tys B Z ret) {a : Nat} {off : Int} (hd : decode cc pc = .ok (.ifnull off, 3)) (k : XW p l e R s m args below meth c Q D cl B (pc + 3) (vs) (st) (G) (cells) (slots)) : XW p l e R s m args below meth c Q D cl B (pc) (vs) (.ref a :: st) (G) (cells) (slots) := fun H locs ls hP hS hl => lv_ifnull C.hx C.hb hd (k H locs ls hP hS hl)
theorem x_ifnullN (C : XC p s m args meth c cc nL own Ts D cl tys B Z ret) {off : Int} (tgt : Nat) (hd : decode cc pc = .ok (.ifnull off, 3)) (ht : (pc : Int) + off = (tgt : Int)) (k : XW p l e R s m args below meth c Q D cl B (tgt) (vs) (st) (G) (cells) (slots)) : XW p l e R s m args below meth c Q D cl B (pc) (vs) (.null :: st) (G) (cells) (slots) := fun H locs ls hP hS hl => lv_ifnullN C.hx C.hb hd ht (k H locs ls hP hS hl)
theorem x_get (C : XC p s m args meth c cc nL own Ts D cl tys B Z ret) {a ci index N : Nat} {Cn : String} {T : u_T} {fs : List Value} {v : Value} (hG : G a = some (.inr (ci, fs))) (hc : cl[ci]? = some (Cn, T, N)) (hin : ∀ w ∈ u_ws Cn T N, w ∈ Ts) (k : Nat) (hk : k < N) (hlink : Cond.fieldLink own index (T k).1 (T k).2.1 (T k).2.2.1 ∈ Ts) (hv : fs[k]? = some v) (hd : decode cc pc = .ok (.getfield index, 3)) (kk : XW p l e R s m args below meth c Q D cl B (pc + 3) (vs) (v :: st) (G) (cells) (slots)) : XW p l e R s m args below meth c Q D cl B (pc) (vs) (.ref a :: st) (G) (cells) (slots) := fun H locs ls hP hS hl => va_get (D := D) (ws := [(a, .inr (ci, fs))]) C.hx C.hb C.hts hin C.hown C.hK (xw_one (hP _ _ hG).1) 0 rfl hc k hk (C.hts _ hlink) (fun _ h => h) hv hd (kk H locs ls hP hS hl)
theorem x_getS (C : XC p s m args meth c cc nL own Ts D cl tys B Z ret) {a ci index N : Nat} {Cn : String} {T : u_T} {fs : List Value} {v : Value} {ref : String} (hG : G a = some (.inr (ci, fs))) (hc : cl[ci]? = some (Cn, T, N)) (hin : ∀ w ∈ u_ws Cn T N, w ∈ Ts) (k : Nat) (hk : k < N) (hlink : Cond.fieldLink own index ref (T k).2.1 (T k).2.2.1 ∈ Ts) (hsame : Cond.sameField ref (T k).1 (T k).2.1 (T k).2.2.1 ∈ Ts) (hv : fs[k]? = some v) (hd : decode cc pc = .ok (.getfield index, 3)) (kk : XW p l e R s m args below meth c Q D cl B (pc + 3) (vs) (v :: st) (G) (cells) (slots)) : XW p l e R s m args below meth c Q D cl B (pc) (vs) (.ref a :: st) (G) (cells) (slots) := fun H locs ls hP hS hl => va_get (D := D) (ws := [(a, .inr (ci, fs))]) C.hx C.hb C.hts hin C.hown C.hK (xw_one (hP _ _ hG).1) 0 rfl hc k hk (C.hts _ hlink) (fun x h => u_same (C.hts _ hsame) x h) hv hd (kk H locs ls hP hS hl)
theorem x_getN (C : XC p s m args meth c cc nL own Ts D cl tys B Z ret) {a ci index N : Nat} {Cn : String} {T : u_T} {fs : List Value} {v : Value} {host : String} (hG : G a = some (.inr (ci, fs))) (hc : cl[ci]? = some (Cn, T, N)) (hin : ∀ w ∈ u_ws Cn T N, w ∈ Ts) (k : Nat) (hk : k < N) (hlink : Cond.fieldLinkNest own index (T k).1 (T k).2.1 (T k).2.2.1 host ∈ Ts) (hv : fs[k]? = some v) (hd : decode cc pc = .ok (.getfield index, 3)) (kk : XW p l e R s m args below meth c Q D cl B (pc + 3) (vs) (v :: st) (G) (cells) (slots)) : XW p l e R s m args below meth c Q D cl B (pc) (vs) (.ref a :: st) (G) (cells) (slots) := fun H locs ls hP hS hl => va_getN (D := D) (ws := [(a, .inr (ci, fs))]) C.hx C.hb C.hts hin C.hown C.hK (xw_one (hP _ _ hG).1) 0 rfl hc k hk (C.hts _ hlink) (fun _ h => h) hv hd (kk H locs ls hP hS hl)
theorem xw_B {D : va_G} {cl : List vw_C} {B : Nat} {G : xw_G} {H : Heap} {a ci : Nat} {fs : List Value} (h : xw_P D cl B G H) (hG : G a = some (.inr (ci, fs))) : B ≤ a := by
  rcases (h _ _ hG).2 with h1 | ⟨_, _, h1⟩
  · exact h1
  · cases h1
theorem xw_Ba {D : va_G} {cl : List vw_C} {B : Nat} {G : xw_G} {H : Heap} {a n : Nat} {cA : ClassId} {f : (Nat → Int32) ⊕ (Nat → Int64) ⊕ (Nat → UInt32) ⊕ (Nat → UInt64) ⊕ (Nat → Option Nat)} (h : xw_P D cl B G H) (hG : G a = some (.inl (cA, n, f))) (hn : 0 < n) : B ≤ a := by
  rcases (h _ _ hG).2 with h1 | ⟨_, _, h1⟩
  · exact h1
  · cases h1
    exact absurd hn (Nat.lt_irrefl 0)
theorem x_put (C : XC p s m args meth c cc nL own Ts D cl tys B Z ret) {a ci index N : Nat} {Cn : String} {T : u_T} {fs : List Value} {v : Value} {ty : FieldType}  (hG : G a = some (.inr (ci, fs))) (hc : cl[ci]? = some (Cn, T, N)) (hin : ∀ w ∈ u_ws Cn T N, w ∈ Ts) (ty0 : Nat → FieldType) (hty : ∀ k, k < N → parseFieldDescriptor (T k).2.2.1 = some (ty0 k)) (hnm : ∀ a, a < N → ∀ b, b < N → a ≠ b → (T a).2.1 ≠ (T b).2.1) (k : Nat) (hk : k < N) (hlink : Cond.fieldLink own index (T k).1 (T k).2.1 (T k).2.2.1 ∈ Ts) (hfin : (T k).2.2.2 = false) (hpd : parseFieldDescriptor (T k).2.2.1 = some ty) (hn : narrow ty v = v) (hfit : fits ty v = true) (hlen : k < fs.length) (hd : decode cc pc = .ok (.putfield index, 3)) (kk : XW p l e R s m args below meth c Q D cl B (pc + 3) (vs) (st) (va_up G a (some (.inr (ci, fs.set k v)))) (cells) (slots)) : XW p l e R s m args below meth c Q D cl B (pc) (vs) (v :: .ref a :: st) (G) (cells) (slots) := fun H locs ls hP hS hl => xw_write (e' := .inr (ci, fs.set k v)) (Wx := fun H1 locs1 => W p l e R s m args below meth c H1 locs1 cells slots Q (F0 m (pc + 3) ls st)) hP hS C.hB hG (xw_B hP hG) (fun ws j hPw hDw hj kx => va_put C.hx C.hb C.hts hin ty0 hty hnm C.hown C.hK hPw hDw hS j hj hc k hk (C.hts _ hlink) (fun _ h => h) hfin hpd hn hfit hlen hd kx) (fun H1 locs1 hP1 hS1 => kk H1 locs1 ls hP1 hS1 hl)
theorem x_put2 (C : XC p s m args meth c cc nL own Ts D cl tys B Z ret) {a ci index N : Nat} {Cn : String} {T : u_T} {fs : List Value} {v : Value} {ty : FieldType}   (hc : cl[ci]? = some (Cn, T, N)) (hin : ∀ w ∈ u_ws Cn T N, w ∈ Ts) (ty0 : Nat → FieldType) (hty : ∀ k, k < N → parseFieldDescriptor (T k).2.2.1 = some (ty0 k)) (hnm : ∀ a, a < N → ∀ b, b < N → a ≠ b → (T a).2.1 ≠ (T b).2.1) (k : Nat) (hk : k < N) (hlink : Cond.fieldLink own index (T k).1 (T k).2.1 (T k).2.2.1 ∈ Ts) (hfin : (T k).2.2.2 = false) (hpd : parseFieldDescriptor (T k).2.2.1 = some ty) (hn : narrow ty v = v) (hfit : fits ty v = true) (hlen : k < fs.length) (hd : decode cc pc = .ok (.putfield index, 3)) (kk : XW p l e R s m args below meth c Q D cl B (pc + 3) (vs) (st) (va_up G a (some (.inr (ci, fs.set k v)))) (cells) (slots)) : XW p l e R s m args below meth c Q D cl B (pc) (vs) (v :: .ref a :: st) (va_up G a (some (.inr (ci, fs)))) (cells) (slots) := fun H locs ls hP hS hl => xw_write (e' := .inr (ci, fs.set k v)) (Wx := fun H1 locs1 => W p l e R s m args below meth c H1 locs1 cells slots Q (F0 m (pc + 3) ls st)) hP hS C.hB (va_up_self G a _) (xw_B hP (va_up_self G a _)) (fun ws j hPw hDw hj kx => va_put C.hx C.hb C.hts hin ty0 hty hnm C.hown C.hK hPw hDw hS j hj hc k hk (C.hts _ hlink) (fun _ h => h) hfin hpd hn hfit hlen hd kx) (fun H1 locs1 hP1 hS1 => kk H1 locs1 ls (by rw [bx_uu] at hP1; exact hP1) hS1 hl)
theorem x_putS (C : XC p s m args meth c cc nL own Ts D cl tys B Z ret) {a ci index N : Nat} {Cn : String} {T : u_T} {fs : List Value} {v : Value} {ty : FieldType} {ref : String} (hG : G a = some (.inr (ci, fs))) (hc : cl[ci]? = some (Cn, T, N)) (hin : ∀ w ∈ u_ws Cn T N, w ∈ Ts) (ty0 : Nat → FieldType) (hty : ∀ k, k < N → parseFieldDescriptor (T k).2.2.1 = some (ty0 k)) (hnm : ∀ a, a < N → ∀ b, b < N → a ≠ b → (T a).2.1 ≠ (T b).2.1) (k : Nat) (hk : k < N) (hlink : Cond.fieldLink own index ref (T k).2.1 (T k).2.2.1 ∈ Ts) (hsame : Cond.sameField ref (T k).1 (T k).2.1 (T k).2.2.1 ∈ Ts) (hfin : (T k).2.2.2 = false) (hpd : parseFieldDescriptor (T k).2.2.1 = some ty) (hn : narrow ty v = v) (hfit : fits ty v = true) (hlen : k < fs.length) (hd : decode cc pc = .ok (.putfield index, 3)) (kk : XW p l e R s m args below meth c Q D cl B (pc + 3) (vs) (st) (va_up G a (some (.inr (ci, fs.set k v)))) (cells) (slots)) : XW p l e R s m args below meth c Q D cl B (pc) (vs) (v :: .ref a :: st) (G) (cells) (slots) := fun H locs ls hP hS hl => xw_write (e' := .inr (ci, fs.set k v)) (Wx := fun H1 locs1 => W p l e R s m args below meth c H1 locs1 cells slots Q (F0 m (pc + 3) ls st)) hP hS C.hB hG (xw_B hP hG) (fun ws j hPw hDw hj kx => va_put C.hx C.hb C.hts hin ty0 hty hnm C.hown C.hK hPw hDw hS j hj hc k hk (C.hts _ hlink) (fun x h => u_same (C.hts _ hsame) x h) hfin hpd hn hfit hlen hd kx) (fun H1 locs1 hP1 hS1 => kk H1 locs1 ls hP1 hS1 hl)
theorem x_putS2 (C : XC p s m args meth c cc nL own Ts D cl tys B Z ret) {a ci index N : Nat} {Cn : String} {T : u_T} {fs : List Value} {v : Value} {ty : FieldType} {ref : String}  (hc : cl[ci]? = some (Cn, T, N)) (hin : ∀ w ∈ u_ws Cn T N, w ∈ Ts) (ty0 : Nat → FieldType) (hty : ∀ k, k < N → parseFieldDescriptor (T k).2.2.1 = some (ty0 k)) (hnm : ∀ a, a < N → ∀ b, b < N → a ≠ b → (T a).2.1 ≠ (T b).2.1) (k : Nat) (hk : k < N) (hlink : Cond.fieldLink own index ref (T k).2.1 (T k).2.2.1 ∈ Ts) (hsame : Cond.sameField ref (T k).1 (T k).2.1 (T k).2.2.1 ∈ Ts) (hfin : (T k).2.2.2 = false) (hpd : parseFieldDescriptor (T k).2.2.1 = some ty) (hn : narrow ty v = v) (hfit : fits ty v = true) (hlen : k < fs.length) (hd : decode cc pc = .ok (.putfield index, 3)) (kk : XW p l e R s m args below meth c Q D cl B (pc + 3) (vs) (st) (va_up G a (some (.inr (ci, fs.set k v)))) (cells) (slots)) : XW p l e R s m args below meth c Q D cl B (pc) (vs) (v :: .ref a :: st) (va_up G a (some (.inr (ci, fs)))) (cells) (slots) := fun H locs ls hP hS hl => xw_write (e' := .inr (ci, fs.set k v)) (Wx := fun H1 locs1 => W p l e R s m args below meth c H1 locs1 cells slots Q (F0 m (pc + 3) ls st)) hP hS C.hB (va_up_self G a _) (xw_B hP (va_up_self G a _)) (fun ws j hPw hDw hj kx => va_put C.hx C.hb C.hts hin ty0 hty hnm C.hown C.hK hPw hDw hS j hj hc k hk (C.hts _ hlink) (fun x h => u_same (C.hts _ hsame) x h) hfin hpd hn hfit hlen hd kx) (fun H1 locs1 hP1 hS1 => kk H1 locs1 ls (by rw [bx_uu] at hP1; exact hP1) hS1 hl)
theorem x_putN (C : XC p s m args meth c cc nL own Ts D cl tys B Z ret) {a ci index N : Nat} {Cn : String} {T : u_T} {fs : List Value} {v : Value} {ty : FieldType} {host : String} (hG : G a = some (.inr (ci, fs))) (hc : cl[ci]? = some (Cn, T, N)) (hin : ∀ w ∈ u_ws Cn T N, w ∈ Ts) (ty0 : Nat → FieldType) (hty : ∀ k, k < N → parseFieldDescriptor (T k).2.2.1 = some (ty0 k)) (hnm : ∀ a, a < N → ∀ b, b < N → a ≠ b → (T a).2.1 ≠ (T b).2.1) (k : Nat) (hk : k < N) (hlink : Cond.fieldLinkNest own index (T k).1 (T k).2.1 (T k).2.2.1 host ∈ Ts) (hfin : (T k).2.2.2 = false) (hpd : parseFieldDescriptor (T k).2.2.1 = some ty) (hn : narrow ty v = v) (hfit : fits ty v = true) (hlen : k < fs.length) (hd : decode cc pc = .ok (.putfield index, 3)) (kk : XW p l e R s m args below meth c Q D cl B (pc + 3) (vs) (st) (va_up G a (some (.inr (ci, fs.set k v)))) (cells) (slots)) : XW p l e R s m args below meth c Q D cl B (pc) (vs) (v :: .ref a :: st) (G) (cells) (slots) := fun H locs ls hP hS hl => xw_write (e' := .inr (ci, fs.set k v)) (Wx := fun H1 locs1 => W p l e R s m args below meth c H1 locs1 cells slots Q (F0 m (pc + 3) ls st)) hP hS C.hB hG (xw_B hP hG) (fun ws j hPw hDw hj kx => va_putN C.hx C.hb C.hts hin ty0 hty hnm C.hown C.hK hPw hDw hS j hj hc k hk (C.hts _ hlink) (fun _ h => h) hfin hpd hn hfit hlen hd kx) (fun H1 locs1 hP1 hS1 => kk H1 locs1 ls hP1 hS1 hl)
theorem x_putN2 (C : XC p s m args meth c cc nL own Ts D cl tys B Z ret) {a ci index N : Nat} {Cn : String} {T : u_T} {fs : List Value} {v : Value} {ty : FieldType} {host : String}  (hc : cl[ci]? = some (Cn, T, N)) (hin : ∀ w ∈ u_ws Cn T N, w ∈ Ts) (ty0 : Nat → FieldType) (hty : ∀ k, k < N → parseFieldDescriptor (T k).2.2.1 = some (ty0 k)) (hnm : ∀ a, a < N → ∀ b, b < N → a ≠ b → (T a).2.1 ≠ (T b).2.1) (k : Nat) (hk : k < N) (hlink : Cond.fieldLinkNest own index (T k).1 (T k).2.1 (T k).2.2.1 host ∈ Ts) (hfin : (T k).2.2.2 = false) (hpd : parseFieldDescriptor (T k).2.2.1 = some ty) (hn : narrow ty v = v) (hfit : fits ty v = true) (hlen : k < fs.length) (hd : decode cc pc = .ok (.putfield index, 3)) (kk : XW p l e R s m args below meth c Q D cl B (pc + 3) (vs) (st) (va_up G a (some (.inr (ci, fs.set k v)))) (cells) (slots)) : XW p l e R s m args below meth c Q D cl B (pc) (vs) (v :: .ref a :: st) (va_up G a (some (.inr (ci, fs)))) (cells) (slots) := fun H locs ls hP hS hl => xw_write (e' := .inr (ci, fs.set k v)) (Wx := fun H1 locs1 => W p l e R s m args below meth c H1 locs1 cells slots Q (F0 m (pc + 3) ls st)) hP hS C.hB (va_up_self G a _) (xw_B hP (va_up_self G a _)) (fun ws j hPw hDw hj kx => va_putN C.hx C.hb C.hts hin ty0 hty hnm C.hown C.hK hPw hDw hS j hj hc k hk (C.hts _ hlink) (fun _ h => h) hfin hpd hn hfit hlen hd kx) (fun H1 locs1 hP1 hS1 => kk H1 locs1 ls (by rw [bx_uu] at hP1; exact hP1) hS1 hl)
theorem x_putF (C : XC p s m args meth c cc nL own Ts D cl tys B Z ret) {a ci index N : Nat} {Cn : String} {T : u_T} {fs : List Value} {v : Value} {ty : FieldType}  (hG : G a = some (.inr (ci, fs))) (hc : cl[ci]? = some (Cn, T, N)) (hin : ∀ w ∈ u_ws Cn T N, w ∈ Ts) (ty0 : Nat → FieldType) (hty : ∀ k, k < N → parseFieldDescriptor (T k).2.2.1 = some (ty0 k)) (hnm : ∀ a, a < N → ∀ b, b < N → a ≠ b → (T a).2.1 ≠ (T b).2.1) (k : Nat) (hk : k < N) (hlink : Cond.fieldLink own index (T k).1 (T k).2.1 (T k).2.2.1 ∈ Ts) (hfin : (T k).2.2.2 = true) (hin2 : meth.name = "<init>") (hdecl : (T k).1 = own) (hpd : parseFieldDescriptor (T k).2.2.1 = some ty) (hn : narrow ty v = v) (hfit : fits ty v = true) (hlen : k < fs.length) (hd : decode cc pc = .ok (.putfield index, 3)) (kk : XW p l e R s m args below meth c Q D cl B (pc + 3) (vs) (st) (va_up G a (some (.inr (ci, fs.set k v)))) (cells) (slots)) : XW p l e R s m args below meth c Q D cl B (pc) (vs) (v :: .ref a :: st) (G) (cells) (slots) := fun H locs ls hP hS hl => xw_write (e' := .inr (ci, fs.set k v)) (Wx := fun H1 locs1 => W p l e R s m args below meth c H1 locs1 cells slots Q (F0 m (pc + 3) ls st)) hP hS C.hB hG (xw_B hP hG) (fun ws j hPw hDw hj kx => va_putF C.hx C.hb C.hts hin ty0 hty hnm C.hown C.hK hPw hDw hS j hj hc k hk (C.hts _ hlink) (fun _ h => h) hfin hin2 hdecl hpd hn hfit hlen hd kx) (fun H1 locs1 hP1 hS1 => kk H1 locs1 ls hP1 hS1 hl)
theorem x_putF2 (C : XC p s m args meth c cc nL own Ts D cl tys B Z ret) {a ci index N : Nat} {Cn : String} {T : u_T} {fs : List Value} {v : Value} {ty : FieldType}   (hc : cl[ci]? = some (Cn, T, N)) (hin : ∀ w ∈ u_ws Cn T N, w ∈ Ts) (ty0 : Nat → FieldType) (hty : ∀ k, k < N → parseFieldDescriptor (T k).2.2.1 = some (ty0 k)) (hnm : ∀ a, a < N → ∀ b, b < N → a ≠ b → (T a).2.1 ≠ (T b).2.1) (k : Nat) (hk : k < N) (hlink : Cond.fieldLink own index (T k).1 (T k).2.1 (T k).2.2.1 ∈ Ts) (hfin : (T k).2.2.2 = true) (hin2 : meth.name = "<init>") (hdecl : (T k).1 = own) (hpd : parseFieldDescriptor (T k).2.2.1 = some ty) (hn : narrow ty v = v) (hfit : fits ty v = true) (hlen : k < fs.length) (hd : decode cc pc = .ok (.putfield index, 3)) (kk : XW p l e R s m args below meth c Q D cl B (pc + 3) (vs) (st) (va_up G a (some (.inr (ci, fs.set k v)))) (cells) (slots)) : XW p l e R s m args below meth c Q D cl B (pc) (vs) (v :: .ref a :: st) (va_up G a (some (.inr (ci, fs)))) (cells) (slots) := fun H locs ls hP hS hl => xw_write (e' := .inr (ci, fs.set k v)) (Wx := fun H1 locs1 => W p l e R s m args below meth c H1 locs1 cells slots Q (F0 m (pc + 3) ls st)) hP hS C.hB (va_up_self G a _) (xw_B hP (va_up_self G a _)) (fun ws j hPw hDw hj kx => va_putF C.hx C.hb C.hts hin ty0 hty hnm C.hown C.hK hPw hDw hS j hj hc k hk (C.hts _ hlink) (fun _ h => h) hfin hin2 hdecl hpd hn hfit hlen hd kx) (fun H1 locs1 hP1 hS1 => kk H1 locs1 ls (by rw [bx_uu] at hP1; exact hP1) hS1 hl)
theorem x_new (C : XC p s m args meth c cc nL own Ts D cl tys B Z ret) {ci index N : Nat} {Cn : String} {T : u_T} {fs : List Value} (hc : cl[ci]? = some (Cn, T, N)) (hin : ∀ w ∈ u_ws Cn T N, w ∈ Ts) (ty : Nat → FieldType) (hty : ∀ k, k < N → parseFieldDescriptor (T k).2.2.1 = some (ty k)) (hcl : Cond.classLink own index Cn ∈ Ts) (hinst : Cond.instantiable Cn N ∈ Ts) (hini : Cond.initialized Cn ∈ Ts) (hfs : ∀ j, j < N → defaultValue (ty j) = vp_V fs j) (hcells : cells + 1 ≤ R.cells) (hslots : slots + N ≤ R.slots) (hd : decode cc pc = .ok (.new index, 3)) (kk : ∀ q : Nat, G q = none → B ≤ q → XW p l e R s m args below meth c Q D cl B (pc + 3) (vs) (.ref q :: st) (va_up G q (some (.inr (ci, fs)))) (cells + 1) (slots + N)) : XW p l e R s m args below meth c Q D cl B (pc) (vs) (st) (G) (cells) (slots) := fun H locs ls hP hS hl => xw_make (ι := Unit) (F := fun _ => True) (e' := fun _ => .inr (ci, fs)) (Wx := fun _ q H1 => W p l e R s m args below meth c H1 locs (cells + 1) (slots + N) Q (F0 m (pc + 3) ls (.ref q :: st))) hP hS C.hB (fun ws hPw hDw kx => va_new C.hx C.hb C.hts hin ty hty C.hown (C.hts _ hcl) (C.hts _ hinst) (C.hts _ hini) C.hK hPw hDw hS (fun q h => Nat.le_trans C.hB h) hc hfs hcells hslots hd (fun q H1 h1 h2 h3 => kx q () H1 trivial h1 h2 h3)) (fun q _ H1 _ hq hBq hP1 hS1 => kk q hq hBq H1 locs ls hP1 hS1 hl)
theorem x_iaload (C : XC p s m args meth c cc nL own Ts D cl tys B Z ret) {a n : Nat} {cA : ClassId} {f : Nat → Int32} {i : Int32} (hG : G a = some (.inl (cA, n, .inl f))) (t0 : Nat) (ht : tys[t0]? = some (cA, .int)) (hi : vp_in i n) (hd : decode cc pc = .ok (.iaload, 1)) (k : XW p l e R s m args below meth c Q D cl B (pc + 1) (vs) (.int (f i.toNatClampNeg) :: st) (G) (cells) (slots)) : XW p l e R s m args below meth c Q D cl B (pc) (vs) (.int i :: .ref a :: st) (G) (cells) (slots) := fun H locs ls hP hS hl => va_iald C.hx C.hb C.hK (xw_one (hP _ _ hG).1) 0 t0 rfl ht hi hd (k H locs ls hP hS hl)
theorem x_zaload (C : XC p s m args meth c cc nL own Ts D cl tys B Z ret) {a n : Nat} {cA : ClassId} {f : Nat → Int32} {i : Int32} (hG : G a = some (.inl (cA, n, .inl f))) (t0 : Nat) (ht : tys[t0]? = some (cA, .boolean)) (hi : vp_in i n) (hd : decode cc pc = .ok (.baload, 1)) (k : XW p l e R s m args below meth c Q D cl B (pc + 1) (vs) (.int (f i.toNatClampNeg) :: st) (G) (cells) (slots)) : XW p l e R s m args below meth c Q D cl B (pc) (vs) (.int i :: .ref a :: st) (G) (cells) (slots) := fun H locs ls hP hS hl => va_zald C.hx C.hb C.hK (xw_one (hP _ _ hG).1) 0 t0 rfl ht hi hd (k H locs ls hP hS hl)
theorem x_laload (C : XC p s m args meth c cc nL own Ts D cl tys B Z ret) {a n : Nat} {cA : ClassId} {f : Nat → Int64} {i : Int32} (hG : G a = some (.inl (cA, n, .inr (.inl f)))) (t0 : Nat) (ht : tys[t0]? = some (cA, .long)) (hi : vp_in i n) (hd : decode cc pc = .ok (.laload, 1)) (k : XW p l e R s m args below meth c Q D cl B (pc + 1) (vs) (.long (f i.toNatClampNeg) :: st) (G) (cells) (slots)) : XW p l e R s m args below meth c Q D cl B (pc) (vs) (.int i :: .ref a :: st) (G) (cells) (slots) := fun H locs ls hP hS hl => va_lald C.hx C.hb C.hK (xw_one (hP _ _ hG).1) 0 t0 rfl ht hi hd (k H locs ls hP hS hl)
theorem x_aaload (C : XC p s m args meth c cc nL own Ts D cl tys B Z ret) {a n : Nat} {cA : ClassId} {En : String} {f : Nat → Option Nat} {i : Int32} (hG : G a = some (.inl (cA, n, .inr (.inr (.inr (.inr f)))))) (t0 : Nat) (ht : tys[t0]? = some (cA, .object En)) (hi : vp_in i n) (hd : decode cc pc = .ok (.aaload, 1)) (k : XW p l e R s m args below meth c Q D cl B (pc + 1) (vs) (va_rf (f i.toNatClampNeg) :: st) (G) (cells) (slots)) : XW p l e R s m args below meth c Q D cl B (pc) (vs) (.int i :: .ref a :: st) (G) (cells) (slots) := fun H locs ls hP hS hl => va_aldq C.hx C.hb C.hK (xw_one (hP _ _ hG).1) 0 t0 rfl ht hi hd (k H locs ls hP hS hl)
theorem x_alen (C : XC p s m args meth c cc nL own Ts D cl tys B Z ret) {a : Nat} {cA : ClassId} {x : vp_A} {ty : FieldType} (hG : G a = some (.inl (cA, x))) (t0 : Nat) (ht : tys[t0]? = some (cA, ty)) (hd : decode cc pc = .ok (.arraylength, 1)) (k : XW p l e R s m args below meth c Q D cl B (pc + 1) (vs) (.int (Int32.ofNat x.1) :: st) (G) (cells) (slots)) : XW p l e R s m args below meth c Q D cl B (pc) (vs) (.ref a :: st) (G) (cells) (slots) := fun H locs ls hP hS hl => va_alen C.hx C.hb C.hK (xw_one (hP _ _ hG).1) 0 t0 rfl ht rfl hd (k H locs ls hP hS hl)
theorem x_iastore (C : XC p s m args meth c cc nL own Ts D cl tys B Z ret) {a n : Nat} {cA : ClassId} {f : Nat → Int32} {i : Int32} {x : Int32} (hG : G a = some (.inl (cA, n, .inl f))) (t0 : Nat) (ht : tys[t0]? = some (cA, .int)) (hi : vp_in i n) (hd : decode cc pc = .ok (.iastore, 1)) (k : XW p l e R s m args below meth c Q D cl B (pc + 1) (vs) (st) (va_up G a (some (.inl (cA, n, .inl (upd f i.toNatClampNeg x))))) (cells) (slots)) : XW p l e R s m args below meth c Q D cl B (pc) (vs) (.int x :: .int i :: .ref a :: st) (G) (cells) (slots) := fun H locs ls hP hS hl => xw_write (Wx := fun H1 locs1 => W p l e R s m args below meth c H1 locs1 cells slots Q (F0 m (pc + 1) ls st)) hP hS C.hB hG (xw_Ba hP hG (Nat.lt_of_le_of_lt (Nat.zero_le _) (Nat.not_le.mp fun q => hi (Or.inr q)))) (fun ws j hPw hDw hj kx => va_iast C.hx C.hb C.hK hPw hDw hS j t0 hj ht hi hd kx) (fun H1 locs1 hP1 hS1 => k H1 locs1 ls hP1 hS1 hl)
theorem x_lastore (C : XC p s m args meth c cc nL own Ts D cl tys B Z ret) {a n : Nat} {cA : ClassId} {f : Nat → Int64} {i : Int32} {x : Int64} (hG : G a = some (.inl (cA, n, .inr (.inl f)))) (t0 : Nat) (ht : tys[t0]? = some (cA, .long)) (hi : vp_in i n) (hd : decode cc pc = .ok (.lastore, 1)) (k : XW p l e R s m args below meth c Q D cl B (pc + 1) (vs) (st) (va_up G a (some (.inl (cA, n, .inr (.inl (vp_updL f i.toNatClampNeg x)))))) (cells) (slots)) : XW p l e R s m args below meth c Q D cl B (pc) (vs) (.long x :: .int i :: .ref a :: st) (G) (cells) (slots) := fun H locs ls hP hS hl => xw_write (Wx := fun H1 locs1 => W p l e R s m args below meth c H1 locs1 cells slots Q (F0 m (pc + 1) ls st)) hP hS C.hB hG (xw_Ba hP hG (Nat.lt_of_le_of_lt (Nat.zero_le _) (Nat.not_le.mp fun q => hi (Or.inr q)))) (fun ws j hPw hDw hj kx => va_last C.hx C.hb C.hK hPw hDw hS j t0 hj ht hi hd kx) (fun H1 locs1 hP1 hS1 => k H1 locs1 ls hP1 hS1 hl)
theorem x_iret {post : Option Value → xw_G → Prop} {mc ms : Nat} {v : Int32} (C : XC p s m args meth c cc nL own Ts D cl tys B Z (some .int))  (hm : cells ≤ mc) (hs : slots ≤ ms) (hd : decode cc pc = .ok (.ireturn, 1)) (hp : post (some (.int v)) G) : XW p l e R s m args below meth c (XQ below args s D cl B post mc ms) D cl B (pc) (vs) ([.int v]) G cells slots := fun H locs ls hP hS hl => W.widen hm hs (W.iret C.hx C.hb C.hr (fun t ht _ => ⟨⟨_, _, rfl, hp, by rw [ht]; exact hP⟩, hS.F ht⟩) hS.2.2 hd C.hlocks)
theorem x_lret {post : Option Value → xw_G → Prop} {mc ms : Nat} {v : Int64} (C : XC p s m args meth c cc nL own Ts D cl tys B Z (some .long))  (hm : cells ≤ mc) (hs : slots ≤ ms) (hd : decode cc pc = .ok (.lreturn, 1)) (hp : post (some (.long v)) G) : XW p l e R s m args below meth c (XQ below args s D cl B post mc ms) D cl B (pc) (vs) ([.long v]) G cells slots := fun H locs ls hP hS hl => W.widen hm hs (W.lret C.hx C.hb C.hr (fun t ht _ => ⟨⟨_, _, rfl, hp, by rw [ht]; exact hP⟩, hS.F ht⟩) hS.2.2 hd C.hlocks)
theorem x_zret {post : Option Value → xw_G → Prop} {mc ms : Nat} {v : Int32} (C : XC p s m args meth c cc nL own Ts D cl tys B Z (some .boolean)) (hn : narrow .boolean (.int v) = .int v) (hm : cells ≤ mc) (hs : slots ≤ ms) (hd : decode cc pc = .ok (.ireturn, 1)) (hp : post (some (.int v)) G) : XW p l e R s m args below meth c (XQ below args s D cl B post mc ms) D cl B (pc) (vs) ([.int v]) G cells slots := fun H locs ls hP hS hl => W.widen hm hs (W.zret C.hx C.hb C.hr hn (fun t ht _ => ⟨⟨_, _, rfl, hp, by rw [ht]; exact hP⟩, hS.F ht⟩) hS.2.2 hd C.hlocks)
theorem x_aret {post : Option Value → xw_G → Prop} {mc ms : Nat} {rt : FieldType} {v : Value} (C : XC p s m args meth c cc nL own Ts D cl tys B Z (some rt)) (hrt : (∃ n, rt = .object n) ∨ ∃ t, rt = .array t) (hv : v = .null ∨ ∃ a, v = .ref a) (hm : cells ≤ mc) (hs : slots ≤ ms) (hd : decode cc pc = .ok (.areturn, 1)) (hp : post (some (v)) G) : XW p l e R s m args below meth c (XQ below args s D cl B post mc ms) D cl B (pc) (vs) ([v]) G cells slots := fun H locs ls hP hS hl => W.widen hm hs (W.aret C.hx C.hb C.hr hrt hv (fun t ht _ => ⟨⟨_, _, rfl, hp, by rw [ht]; exact hP⟩, hS.F ht⟩) hS.2.2 hd C.hlocks)
theorem x_vret {post : Option Value → xw_G → Prop} {mc ms : Nat} (C : XC p s m args meth c cc nL own Ts D cl tys B Z none) (hm : cells ≤ mc) (hs : slots ≤ ms) (hd : decode cc pc = .ok (.return_, 1)) (hp : post none G) : XW p l e R s m args below meth c (XQ below args s D cl B post mc ms) D cl B (pc) (vs) ([]) G cells slots := fun H locs ls hP hS hl => W.widen hm hs (W.vret C.hx C.hb C.hr (fun t ht _ => ⟨⟨_, _, rfl, hp, by rw [ht]; exact hP⟩, hS.F ht⟩) hS.2.2 hd C.hlocks)
theorem xw_call {H : Heap} {locs : List Loc} {ls : Array Slot} {mc ms : Nat} {rest : List Value} {post : Option Value → xw_G → Prop} {a : Array Value} (C : XC p s m args meth c cc nL own Ts D cl tys B Z ret) (hr : va_Run p l e R s m args below meth c H locs cells slots mc ms (F0 m pc ls st) rest (XP D cl B post a) (xw_A B)) (hS : va_S (xw_A B) s.heap H locs)
    (kk : ∀ (r : Option Value) (G' : xw_G) (H1 : Heap) (locs1 : List Loc), post r G' → xw_P D cl B G' H1 → va_S (xw_A B) s.heap H1 locs1 → W p l e R s m args below meth c H1 locs1 (cells + mc) (slots + ms) Q (F0 m (pc + 3) ls (r.toList ++ rest))) : W p l e R s m args below meth c H locs cells slots Q (F0 m pc ls st) := by
  intro T hT X
  obtain ⟨v, st₀, t, T', L, h0, X', hL, e1, e2, ⟨⟨r, G', hv, hp, hP1⟩, hz, hk⟩, stp⟩ := hr T hT X
  cases hv
  rw [h0] at hz hk
  obtain ⟨t2, a1, b1⟩ := kk v G' T'.heap (locs ++ L) hp (by rw [e1]; exact hP1)
    ⟨Nat.le_trans hS.1 (by rw [e1]; exact hz), fun q h1 h2 => by rw [e1, hk q (Nat.lt_of_lt_of_le h1 hS.1) h2]; exact hS.2.1 q h1 h2, fun q hq => by
      rcases List.mem_append.mp hq with h | h
      · exact hS.2.2 q h
      · exact hL q h⟩ T' rfl X'
  exact ⟨t2, stp t2 a1, b1⟩
theorem xw_blind {av : List Value} (hZ : xw_St B Z) : FrameBlind (va_Pc av (fun U => xw_P D cl B G U.heap ∧ va_K D cl tys U ∧ B ≤ U.heap.size ∧ Z U)) := by
  intro a U g mk q
  obtain ⟨q0, q1, q2, q3, q4⟩ := q
  exact ⟨q0, q1, va_K.moved (u := U) (U := U.calling g mk a) (Vm.Alike.refl U.vm) q2, q3, hZ.1 U (U.calling g mk a) rfl rfl q4⟩
theorem xw_pre (C : XC p s m args meth c cc nL own Ts D cl tys B Z ret) {H : Heap} {locs : List Loc} {av : List Value} (hP : xw_P D cl B G H) (hS : va_S (xw_A B) s.heap H locs) (U : State) (hU : U.heap = H) (hW : s.WarmedH U.vm) : va_Pc av (fun U => xw_P D cl B G U.heap ∧ va_K D cl tys U ∧ B ≤ U.heap.size ∧ Z U) av.toArray U :=
  ⟨rfl, by rw [hU]; exact hP, va_K.moved hW.alike C.hK, by rw [hU]; exact Nat.le_trans C.hB hS.1, C.hZs.2 s U hW (by rw [hU]; exact hS.1) (fun a h1 h2 => by rw [hU]; exact hS.2.1 a h1 h2) C.hZ⟩
theorem xw_recv (C : XC p s m args meth c cc nL own Ts D cl tys B Z ret) {H : Heap} {b ci N : Nat} {Cn : String} {T : u_T} {fs : List Value} (hP : xw_P D cl B G H) (hG : G b = some (.inr (ci, fs))) (hc : cl[ci]? = some (Cn, T, N)) : ∃ cell : Cell, H[b]? = some cell ∧ cell.vm.isStatics = false ∧ s.vm.findClass Cn = some cell.cls := va_recv (q := (Cn, T, N)) C.hK (xw_one (hP _ _ hG).1) hc (q0 := 0) rfl
theorem x_callV0 (C : XC p s m args meth c cc nL own Ts D cl tys B Z ret) {y : MethodName} {ws : List Cond} {rm : Room} {mc ms index maxL : Nat} {bytes : ByteArray} {retc : Option FieldType} {post : Option Value → xw_G → Prop} {b ci N : Nat} {Cn : String} {T : u_T} {fs : List Value}  (hM : XM l y ws rm D cl tys B Z (.ref b :: []) G post mc ms) (cw : CallW R s args own Cn index y bytes maxL retc ws rm mc ms 0) (hG : G b = some (.inr (ci, fs))) (hc : cl[ci]? = some (Cn, T, N)) (hvl : vs.length = nL) (hd : decode cc pc = .ok (.invokevirtual index, 3)) (hW : (st.map fun v => v.category).sum ≤ 8) (hf1 : cells + mc ≤ R.cells) (hf2 : slots + ms ≤ R.slots) (kk : ∀ (r : Option Value) (G' : xw_G), post r G' → XW p l e R s m args below meth c Q D cl B (pc + 3) (vs) (r.toList ++ st) (G') (cells + mc) (slots + ms)) : XW p l e R s m args below meth c Q D cl B (pc) (vs) (.ref b :: st) (G) (cells) (slots) := fun H locs ls hP hS hl => xw_call C (va_runV (As := []) (rest := st) ⟨C.hx, C.hb, C.hml, C.hown, C.hts⟩ hM cw ⟨xw_blind C.hZs, xw_recv C hP hG hc, fun U hU hWm => xw_pre C hP hS U hU hWm⟩ rfl rfl (by rw [show (F0 m pc ls _).locals.size = ls.size from rfl, hl.1]; exact hvl) rfl (lv_room hW) hd ⟨hf1, hf2⟩) hS (fun r G' H1 locs1 hp hP1 hS1 => kk r G' hp H1 locs1 ls hP1 hS1 hl)
theorem x_callVN0 (C : XC p s m args meth c cc nL own Ts D cl tys B Z ret) {y : MethodName} {ws : List Cond} {rm : Room} {mc ms index maxL : Nat} {bytes : ByteArray} {retc : Option FieldType} {post : Option Value → xw_G → Prop} {b ci N : Nat} {Cn : String} {T : u_T} {fs : List Value}  {host : String} (hM : XM l y ws rm D cl tys B Z (.ref b :: []) G post mc ms) (cw : va_CN R s args own index y host bytes maxL retc ws rm mc ms 0 ∧ (Cond.instanceMethod y).before args s = true ∧ (Cond.selects Cn y y).before args s = true) (hG : G b = some (.inr (ci, fs))) (hc : cl[ci]? = some (Cn, T, N)) (hvl : vs.length = nL) (hd : decode cc pc = .ok (.invokevirtual index, 3)) (hW : (st.map fun v => v.category).sum ≤ 8) (hf1 : cells + mc ≤ R.cells) (hf2 : slots + ms ≤ R.slots) (kk : ∀ (r : Option Value) (G' : xw_G), post r G' → XW p l e R s m args below meth c Q D cl B (pc + 3) (vs) (r.toList ++ st) (G') (cells + mc) (slots + ms)) : XW p l e R s m args below meth c Q D cl B (pc) (vs) (.ref b :: st) (G) (cells) (slots) := fun H locs ls hP hS hl => xw_call C (va_runVN (As := []) (rest := st) ⟨C.hx, C.hb, C.hml, C.hown, C.hts⟩ hM cw ⟨xw_blind C.hZs, xw_recv C hP hG hc, fun U hU hWm => xw_pre C hP hS U hU hWm⟩ rfl rfl (by rw [show (F0 m pc ls _).locals.size = ls.size from rfl, hl.1]; exact hvl) rfl (lv_room hW) hd ⟨hf1, hf2⟩) hS (fun r G' H1 locs1 hp hP1 hS1 => kk r G' hp H1 locs1 ls hP1 hS1 hl)
theorem x_callI0 (C : XC p s m args meth c cc nL own Ts D cl tys B Z ret) {y : MethodName} {ws : List Cond} {rm : Room} {mc ms index maxL : Nat} {bytes : ByteArray} {post : Option Value → xw_G → Prop} {b : Nat}  (hM : XM l y ws rm D cl tys B Z (.ref b :: []) G post mc ms) (cw : CallB R s args own index y bytes maxL none ws rm mc ms 0 ∧ y.name = "<init>" ∧ (Cond.instanceMethod y).before args s = true) (hvl : vs.length = nL) (hd : decode cc pc = .ok (.invokespecial index, 3)) (hW : (st.map fun v => v.category).sum ≤ 8) (hf1 : cells + mc ≤ R.cells) (hf2 : slots + ms ≤ R.slots) (kk : ∀ (r : Option Value) (G' : xw_G), post r G' → XW p l e R s m args below meth c Q D cl B (pc + 3) (vs) (r.toList ++ st) (G') (cells + mc) (slots + ms)) : XW p l e R s m args below meth c Q D cl B (pc) (vs) (.ref b :: st) (G) (cells) (slots) := fun H locs ls hP hS hl => xw_call C (va_runI (As := []) (rest := st) ⟨C.hx, C.hb, C.hml, C.hown, C.hts⟩ hM cw ⟨xw_blind C.hZs, fun U hU hWm => xw_pre C hP hS U hU hWm⟩ rfl rfl (by rw [show (F0 m pc ls _).locals.size = ls.size from rfl, hl.1]; exact hvl) rfl (lv_room hW) hd ⟨hf1, hf2⟩) hS (fun r G' H1 locs1 hp hP1 hS1 => kk r G' hp H1 locs1 ls hP1 hS1 hl)
theorem x_callS0 (C : XC p s m args meth c cc nL own Ts D cl tys B Z ret) {y : MethodName} {ws : List Cond} {rm : Room} {mc ms index maxL : Nat} {bytes : ByteArray} {retc : Option FieldType} {post : Option Value → xw_G → Prop}  (hM : XM l y ws rm D cl tys B Z [] G post mc ms) (cw : CallB R s args own index y bytes maxL retc ws rm mc ms 0 ∧ (Cond.static y).before args s = true) (hvl : vs.length = nL) (hd : decode cc pc = .ok (.invokestatic index, 3)) (hW : (st.map fun v => v.category).sum ≤ 8) (hf1 : cells + mc ≤ R.cells) (hf2 : slots + ms ≤ R.slots) (kk : ∀ (r : Option Value) (G' : xw_G), post r G' → XW p l e R s m args below meth c Q D cl B (pc + 3) (vs) (r.toList ++ st) (G') (cells + mc) (slots + ms)) : XW p l e R s m args below meth c Q D cl B (pc) (vs) (st) (G) (cells) (slots) := fun H locs ls hP hS hl => xw_call C (va_runS (As := []) (rest := st) ⟨C.hx, C.hb, C.hml, C.hown, C.hts⟩ hM cw ⟨xw_blind C.hZs, fun U hU hWm => xw_pre C hP hS U hU hWm⟩ rfl rfl (by rw [show (F0 m pc ls _).locals.size = ls.size from rfl, hl.1]; exact hvl) rfl (lv_room hW) hd ⟨hf1, hf2⟩) hS (fun r G' H1 locs1 hp hP1 hS1 => kk r G' hp H1 locs1 ls hP1 hS1 hl)
theorem x_callSN0 (C : XC p s m args meth c cc nL own Ts D cl tys B Z ret) {y : MethodName} {ws : List Cond} {rm : Room} {mc ms index maxL : Nat} {bytes : ByteArray} {retc : Option FieldType} {post : Option Value → xw_G → Prop}  {host : String} (hM : XM l y ws rm D cl tys B Z [] G post mc ms) (cw : va_CN R s args own index y host bytes maxL retc ws rm mc ms 0 ∧ (Cond.static y).before args s = true ∧ True) (hvl : vs.length = nL) (hd : decode cc pc = .ok (.invokestatic index, 3)) (hW : (st.map fun v => v.category).sum ≤ 8) (hf1 : cells + mc ≤ R.cells) (hf2 : slots + ms ≤ R.slots) (kk : ∀ (r : Option Value) (G' : xw_G), post r G' → XW p l e R s m args below meth c Q D cl B (pc + 3) (vs) (r.toList ++ st) (G') (cells + mc) (slots + ms)) : XW p l e R s m args below meth c Q D cl B (pc) (vs) (st) (G) (cells) (slots) := fun H locs ls hP hS hl => xw_call C (va_runSN (As := []) (rest := st) ⟨C.hx, C.hb, C.hml, C.hown, C.hts⟩ hM cw ⟨xw_blind C.hZs, fun U hU hWm => xw_pre C hP hS U hU hWm⟩ rfl rfl (by rw [show (F0 m pc ls _).locals.size = ls.size from rfl, hl.1]; exact hvl) rfl (lv_room hW) hd ⟨hf1, hf2⟩) hS (fun r G' H1 locs1 hp hP1 hS1 => kk r G' hp H1 locs1 ls hP1 hS1 hl)
theorem x_callV1 (C : XC p s m args meth c cc nL own Ts D cl tys B Z ret) {y : MethodName} {ws : List Cond} {rm : Room} {mc ms index maxL : Nat} {bytes : ByteArray} {retc : Option FieldType} {post : Option Value → xw_G → Prop} {b ci N : Nat} {Cn : String} {T : u_T} {fs : List Value} {v1 : Value} (hM : XM l y ws rm D cl tys B Z (.ref b :: [v1]) G post mc ms) (cw : CallW R s args own Cn index y bytes maxL retc ws rm mc ms 1) (hG : G b = some (.inr (ci, fs))) (hc : cl[ci]? = some (Cn, T, N)) (hvl : vs.length = nL) (hd : decode cc pc = .ok (.invokevirtual index, 3)) (hW : (st.map fun v => v.category).sum ≤ 8) (hf1 : cells + mc ≤ R.cells) (hf2 : slots + ms ≤ R.slots) (kk : ∀ (r : Option Value) (G' : xw_G), post r G' → XW p l e R s m args below meth c Q D cl B (pc + 3) (vs) (r.toList ++ st) (G') (cells + mc) (slots + ms)) : XW p l e R s m args below meth c Q D cl B (pc) (vs) (v1 :: .ref b :: st) (G) (cells) (slots) := fun H locs ls hP hS hl => xw_call C (va_runV (As := [v1]) (rest := st) ⟨C.hx, C.hb, C.hml, C.hown, C.hts⟩ hM cw ⟨xw_blind C.hZs, xw_recv C hP hG hc, fun U hU hWm => xw_pre C hP hS U hU hWm⟩ rfl rfl (by rw [show (F0 m pc ls _).locals.size = ls.size from rfl, hl.1]; exact hvl) rfl (lv_room hW) hd ⟨hf1, hf2⟩) hS (fun r G' H1 locs1 hp hP1 hS1 => kk r G' hp H1 locs1 ls hP1 hS1 hl)
theorem x_callVN1 (C : XC p s m args meth c cc nL own Ts D cl tys B Z ret) {y : MethodName} {ws : List Cond} {rm : Room} {mc ms index maxL : Nat} {bytes : ByteArray} {retc : Option FieldType} {post : Option Value → xw_G → Prop} {b ci N : Nat} {Cn : String} {T : u_T} {fs : List Value} {v1 : Value} {host : String} (hM : XM l y ws rm D cl tys B Z (.ref b :: [v1]) G post mc ms) (cw : va_CN R s args own index y host bytes maxL retc ws rm mc ms 1 ∧ (Cond.instanceMethod y).before args s = true ∧ (Cond.selects Cn y y).before args s = true) (hG : G b = some (.inr (ci, fs))) (hc : cl[ci]? = some (Cn, T, N)) (hvl : vs.length = nL) (hd : decode cc pc = .ok (.invokevirtual index, 3)) (hW : (st.map fun v => v.category).sum ≤ 8) (hf1 : cells + mc ≤ R.cells) (hf2 : slots + ms ≤ R.slots) (kk : ∀ (r : Option Value) (G' : xw_G), post r G' → XW p l e R s m args below meth c Q D cl B (pc + 3) (vs) (r.toList ++ st) (G') (cells + mc) (slots + ms)) : XW p l e R s m args below meth c Q D cl B (pc) (vs) (v1 :: .ref b :: st) (G) (cells) (slots) := fun H locs ls hP hS hl => xw_call C (va_runVN (As := [v1]) (rest := st) ⟨C.hx, C.hb, C.hml, C.hown, C.hts⟩ hM cw ⟨xw_blind C.hZs, xw_recv C hP hG hc, fun U hU hWm => xw_pre C hP hS U hU hWm⟩ rfl rfl (by rw [show (F0 m pc ls _).locals.size = ls.size from rfl, hl.1]; exact hvl) rfl (lv_room hW) hd ⟨hf1, hf2⟩) hS (fun r G' H1 locs1 hp hP1 hS1 => kk r G' hp H1 locs1 ls hP1 hS1 hl)
theorem x_callI1 (C : XC p s m args meth c cc nL own Ts D cl tys B Z ret) {y : MethodName} {ws : List Cond} {rm : Room} {mc ms index maxL : Nat} {bytes : ByteArray} {post : Option Value → xw_G → Prop} {b : Nat} {v1 : Value} (hM : XM l y ws rm D cl tys B Z (.ref b :: [v1]) G post mc ms) (cw : CallB R s args own index y bytes maxL none ws rm mc ms 1 ∧ y.name = "<init>" ∧ (Cond.instanceMethod y).before args s = true) (hvl : vs.length = nL) (hd : decode cc pc = .ok (.invokespecial index, 3)) (hW : (st.map fun v => v.category).sum ≤ 8) (hf1 : cells + mc ≤ R.cells) (hf2 : slots + ms ≤ R.slots) (kk : ∀ (r : Option Value) (G' : xw_G), post r G' → XW p l e R s m args below meth c Q D cl B (pc + 3) (vs) (r.toList ++ st) (G') (cells + mc) (slots + ms)) : XW p l e R s m args below meth c Q D cl B (pc) (vs) (v1 :: .ref b :: st) (G) (cells) (slots) := fun H locs ls hP hS hl => xw_call C (va_runI (As := [v1]) (rest := st) ⟨C.hx, C.hb, C.hml, C.hown, C.hts⟩ hM cw ⟨xw_blind C.hZs, fun U hU hWm => xw_pre C hP hS U hU hWm⟩ rfl rfl (by rw [show (F0 m pc ls _).locals.size = ls.size from rfl, hl.1]; exact hvl) rfl (lv_room hW) hd ⟨hf1, hf2⟩) hS (fun r G' H1 locs1 hp hP1 hS1 => kk r G' hp H1 locs1 ls hP1 hS1 hl)
theorem x_callS1 (C : XC p s m args meth c cc nL own Ts D cl tys B Z ret) {y : MethodName} {ws : List Cond} {rm : Room} {mc ms index maxL : Nat} {bytes : ByteArray} {retc : Option FieldType} {post : Option Value → xw_G → Prop} {v1 : Value} (hM : XM l y ws rm D cl tys B Z [v1] G post mc ms) (cw : CallB R s args own index y bytes maxL retc ws rm mc ms 1 ∧ (Cond.static y).before args s = true) (hvl : vs.length = nL) (hd : decode cc pc = .ok (.invokestatic index, 3)) (hW : (st.map fun v => v.category).sum ≤ 8) (hf1 : cells + mc ≤ R.cells) (hf2 : slots + ms ≤ R.slots) (kk : ∀ (r : Option Value) (G' : xw_G), post r G' → XW p l e R s m args below meth c Q D cl B (pc + 3) (vs) (r.toList ++ st) (G') (cells + mc) (slots + ms)) : XW p l e R s m args below meth c Q D cl B (pc) (vs) (v1 :: st) (G) (cells) (slots) := fun H locs ls hP hS hl => xw_call C (va_runS (As := [v1]) (rest := st) ⟨C.hx, C.hb, C.hml, C.hown, C.hts⟩ hM cw ⟨xw_blind C.hZs, fun U hU hWm => xw_pre C hP hS U hU hWm⟩ rfl rfl (by rw [show (F0 m pc ls _).locals.size = ls.size from rfl, hl.1]; exact hvl) rfl (lv_room hW) hd ⟨hf1, hf2⟩) hS (fun r G' H1 locs1 hp hP1 hS1 => kk r G' hp H1 locs1 ls hP1 hS1 hl)
theorem x_callSN1 (C : XC p s m args meth c cc nL own Ts D cl tys B Z ret) {y : MethodName} {ws : List Cond} {rm : Room} {mc ms index maxL : Nat} {bytes : ByteArray} {retc : Option FieldType} {post : Option Value → xw_G → Prop} {v1 : Value} {host : String} (hM : XM l y ws rm D cl tys B Z [v1] G post mc ms) (cw : va_CN R s args own index y host bytes maxL retc ws rm mc ms 1 ∧ (Cond.static y).before args s = true ∧ True) (hvl : vs.length = nL) (hd : decode cc pc = .ok (.invokestatic index, 3)) (hW : (st.map fun v => v.category).sum ≤ 8) (hf1 : cells + mc ≤ R.cells) (hf2 : slots + ms ≤ R.slots) (kk : ∀ (r : Option Value) (G' : xw_G), post r G' → XW p l e R s m args below meth c Q D cl B (pc + 3) (vs) (r.toList ++ st) (G') (cells + mc) (slots + ms)) : XW p l e R s m args below meth c Q D cl B (pc) (vs) (v1 :: st) (G) (cells) (slots) := fun H locs ls hP hS hl => xw_call C (va_runSN (As := [v1]) (rest := st) ⟨C.hx, C.hb, C.hml, C.hown, C.hts⟩ hM cw ⟨xw_blind C.hZs, fun U hU hWm => xw_pre C hP hS U hU hWm⟩ rfl rfl (by rw [show (F0 m pc ls _).locals.size = ls.size from rfl, hl.1]; exact hvl) rfl (lv_room hW) hd ⟨hf1, hf2⟩) hS (fun r G' H1 locs1 hp hP1 hS1 => kk r G' hp H1 locs1 ls hP1 hS1 hl)
theorem x_callV2 (C : XC p s m args meth c cc nL own Ts D cl tys B Z ret) {y : MethodName} {ws : List Cond} {rm : Room} {mc ms index maxL : Nat} {bytes : ByteArray} {retc : Option FieldType} {post : Option Value → xw_G → Prop} {b ci N : Nat} {Cn : String} {T : u_T} {fs : List Value} {v1 v2 : Value} (hM : XM l y ws rm D cl tys B Z (.ref b :: [v1, v2]) G post mc ms) (cw : CallW R s args own Cn index y bytes maxL retc ws rm mc ms 2) (hG : G b = some (.inr (ci, fs))) (hc : cl[ci]? = some (Cn, T, N)) (hvl : vs.length = nL) (hd : decode cc pc = .ok (.invokevirtual index, 3)) (hW : (st.map fun v => v.category).sum ≤ 8) (hf1 : cells + mc ≤ R.cells) (hf2 : slots + ms ≤ R.slots) (kk : ∀ (r : Option Value) (G' : xw_G), post r G' → XW p l e R s m args below meth c Q D cl B (pc + 3) (vs) (r.toList ++ st) (G') (cells + mc) (slots + ms)) : XW p l e R s m args below meth c Q D cl B (pc) (vs) (v2 :: v1 :: .ref b :: st) (G) (cells) (slots) := fun H locs ls hP hS hl => xw_call C (va_runV (As := [v1, v2]) (rest := st) ⟨C.hx, C.hb, C.hml, C.hown, C.hts⟩ hM cw ⟨xw_blind C.hZs, xw_recv C hP hG hc, fun U hU hWm => xw_pre C hP hS U hU hWm⟩ rfl rfl (by rw [show (F0 m pc ls _).locals.size = ls.size from rfl, hl.1]; exact hvl) rfl (lv_room hW) hd ⟨hf1, hf2⟩) hS (fun r G' H1 locs1 hp hP1 hS1 => kk r G' hp H1 locs1 ls hP1 hS1 hl)
theorem x_callVN2 (C : XC p s m args meth c cc nL own Ts D cl tys B Z ret) {y : MethodName} {ws : List Cond} {rm : Room} {mc ms index maxL : Nat} {bytes : ByteArray} {retc : Option FieldType} {post : Option Value → xw_G → Prop} {b ci N : Nat} {Cn : String} {T : u_T} {fs : List Value} {v1 v2 : Value} {host : String} (hM : XM l y ws rm D cl tys B Z (.ref b :: [v1, v2]) G post mc ms) (cw : va_CN R s args own index y host bytes maxL retc ws rm mc ms 2 ∧ (Cond.instanceMethod y).before args s = true ∧ (Cond.selects Cn y y).before args s = true) (hG : G b = some (.inr (ci, fs))) (hc : cl[ci]? = some (Cn, T, N)) (hvl : vs.length = nL) (hd : decode cc pc = .ok (.invokevirtual index, 3)) (hW : (st.map fun v => v.category).sum ≤ 8) (hf1 : cells + mc ≤ R.cells) (hf2 : slots + ms ≤ R.slots) (kk : ∀ (r : Option Value) (G' : xw_G), post r G' → XW p l e R s m args below meth c Q D cl B (pc + 3) (vs) (r.toList ++ st) (G') (cells + mc) (slots + ms)) : XW p l e R s m args below meth c Q D cl B (pc) (vs) (v2 :: v1 :: .ref b :: st) (G) (cells) (slots) := fun H locs ls hP hS hl => xw_call C (va_runVN (As := [v1, v2]) (rest := st) ⟨C.hx, C.hb, C.hml, C.hown, C.hts⟩ hM cw ⟨xw_blind C.hZs, xw_recv C hP hG hc, fun U hU hWm => xw_pre C hP hS U hU hWm⟩ rfl rfl (by rw [show (F0 m pc ls _).locals.size = ls.size from rfl, hl.1]; exact hvl) rfl (lv_room hW) hd ⟨hf1, hf2⟩) hS (fun r G' H1 locs1 hp hP1 hS1 => kk r G' hp H1 locs1 ls hP1 hS1 hl)
theorem x_callI2 (C : XC p s m args meth c cc nL own Ts D cl tys B Z ret) {y : MethodName} {ws : List Cond} {rm : Room} {mc ms index maxL : Nat} {bytes : ByteArray} {post : Option Value → xw_G → Prop} {b : Nat} {v1 v2 : Value} (hM : XM l y ws rm D cl tys B Z (.ref b :: [v1, v2]) G post mc ms) (cw : CallB R s args own index y bytes maxL none ws rm mc ms 2 ∧ y.name = "<init>" ∧ (Cond.instanceMethod y).before args s = true) (hvl : vs.length = nL) (hd : decode cc pc = .ok (.invokespecial index, 3)) (hW : (st.map fun v => v.category).sum ≤ 8) (hf1 : cells + mc ≤ R.cells) (hf2 : slots + ms ≤ R.slots) (kk : ∀ (r : Option Value) (G' : xw_G), post r G' → XW p l e R s m args below meth c Q D cl B (pc + 3) (vs) (r.toList ++ st) (G') (cells + mc) (slots + ms)) : XW p l e R s m args below meth c Q D cl B (pc) (vs) (v2 :: v1 :: .ref b :: st) (G) (cells) (slots) := fun H locs ls hP hS hl => xw_call C (va_runI (As := [v1, v2]) (rest := st) ⟨C.hx, C.hb, C.hml, C.hown, C.hts⟩ hM cw ⟨xw_blind C.hZs, fun U hU hWm => xw_pre C hP hS U hU hWm⟩ rfl rfl (by rw [show (F0 m pc ls _).locals.size = ls.size from rfl, hl.1]; exact hvl) rfl (lv_room hW) hd ⟨hf1, hf2⟩) hS (fun r G' H1 locs1 hp hP1 hS1 => kk r G' hp H1 locs1 ls hP1 hS1 hl)
theorem x_callS2 (C : XC p s m args meth c cc nL own Ts D cl tys B Z ret) {y : MethodName} {ws : List Cond} {rm : Room} {mc ms index maxL : Nat} {bytes : ByteArray} {retc : Option FieldType} {post : Option Value → xw_G → Prop} {v1 v2 : Value} (hM : XM l y ws rm D cl tys B Z [v1, v2] G post mc ms) (cw : CallB R s args own index y bytes maxL retc ws rm mc ms 2 ∧ (Cond.static y).before args s = true) (hvl : vs.length = nL) (hd : decode cc pc = .ok (.invokestatic index, 3)) (hW : (st.map fun v => v.category).sum ≤ 8) (hf1 : cells + mc ≤ R.cells) (hf2 : slots + ms ≤ R.slots) (kk : ∀ (r : Option Value) (G' : xw_G), post r G' → XW p l e R s m args below meth c Q D cl B (pc + 3) (vs) (r.toList ++ st) (G') (cells + mc) (slots + ms)) : XW p l e R s m args below meth c Q D cl B (pc) (vs) (v2 :: v1 :: st) (G) (cells) (slots) := fun H locs ls hP hS hl => xw_call C (va_runS (As := [v1, v2]) (rest := st) ⟨C.hx, C.hb, C.hml, C.hown, C.hts⟩ hM cw ⟨xw_blind C.hZs, fun U hU hWm => xw_pre C hP hS U hU hWm⟩ rfl rfl (by rw [show (F0 m pc ls _).locals.size = ls.size from rfl, hl.1]; exact hvl) rfl (lv_room hW) hd ⟨hf1, hf2⟩) hS (fun r G' H1 locs1 hp hP1 hS1 => kk r G' hp H1 locs1 ls hP1 hS1 hl)
theorem x_callSN2 (C : XC p s m args meth c cc nL own Ts D cl tys B Z ret) {y : MethodName} {ws : List Cond} {rm : Room} {mc ms index maxL : Nat} {bytes : ByteArray} {retc : Option FieldType} {post : Option Value → xw_G → Prop} {v1 v2 : Value} {host : String} (hM : XM l y ws rm D cl tys B Z [v1, v2] G post mc ms) (cw : va_CN R s args own index y host bytes maxL retc ws rm mc ms 2 ∧ (Cond.static y).before args s = true ∧ True) (hvl : vs.length = nL) (hd : decode cc pc = .ok (.invokestatic index, 3)) (hW : (st.map fun v => v.category).sum ≤ 8) (hf1 : cells + mc ≤ R.cells) (hf2 : slots + ms ≤ R.slots) (kk : ∀ (r : Option Value) (G' : xw_G), post r G' → XW p l e R s m args below meth c Q D cl B (pc + 3) (vs) (r.toList ++ st) (G') (cells + mc) (slots + ms)) : XW p l e R s m args below meth c Q D cl B (pc) (vs) (v2 :: v1 :: st) (G) (cells) (slots) := fun H locs ls hP hS hl => xw_call C (va_runSN (As := [v1, v2]) (rest := st) ⟨C.hx, C.hb, C.hml, C.hown, C.hts⟩ hM cw ⟨xw_blind C.hZs, fun U hU hWm => xw_pre C hP hS U hU hWm⟩ rfl rfl (by rw [show (F0 m pc ls _).locals.size = ls.size from rfl, hl.1]; exact hvl) rfl (lv_room hW) hd ⟨hf1, hf2⟩) hS (fun r G' H1 locs1 hp hP1 hS1 => kk r G' hp H1 locs1 ls hP1 hS1 hl)
theorem x_callV3 (C : XC p s m args meth c cc nL own Ts D cl tys B Z ret) {y : MethodName} {ws : List Cond} {rm : Room} {mc ms index maxL : Nat} {bytes : ByteArray} {retc : Option FieldType} {post : Option Value → xw_G → Prop} {b ci N : Nat} {Cn : String} {T : u_T} {fs : List Value} {v1 v2 v3 : Value} (hM : XM l y ws rm D cl tys B Z (.ref b :: [v1, v2, v3]) G post mc ms) (cw : CallW R s args own Cn index y bytes maxL retc ws rm mc ms 3) (hG : G b = some (.inr (ci, fs))) (hc : cl[ci]? = some (Cn, T, N)) (hvl : vs.length = nL) (hd : decode cc pc = .ok (.invokevirtual index, 3)) (hW : (st.map fun v => v.category).sum ≤ 8) (hf1 : cells + mc ≤ R.cells) (hf2 : slots + ms ≤ R.slots) (kk : ∀ (r : Option Value) (G' : xw_G), post r G' → XW p l e R s m args below meth c Q D cl B (pc + 3) (vs) (r.toList ++ st) (G') (cells + mc) (slots + ms)) : XW p l e R s m args below meth c Q D cl B (pc) (vs) (v3 :: v2 :: v1 :: .ref b :: st) (G) (cells) (slots) := fun H locs ls hP hS hl => xw_call C (va_runV (As := [v1, v2, v3]) (rest := st) ⟨C.hx, C.hb, C.hml, C.hown, C.hts⟩ hM cw ⟨xw_blind C.hZs, xw_recv C hP hG hc, fun U hU hWm => xw_pre C hP hS U hU hWm⟩ rfl rfl (by rw [show (F0 m pc ls _).locals.size = ls.size from rfl, hl.1]; exact hvl) rfl (lv_room hW) hd ⟨hf1, hf2⟩) hS (fun r G' H1 locs1 hp hP1 hS1 => kk r G' hp H1 locs1 ls hP1 hS1 hl)
theorem x_callVN3 (C : XC p s m args meth c cc nL own Ts D cl tys B Z ret) {y : MethodName} {ws : List Cond} {rm : Room} {mc ms index maxL : Nat} {bytes : ByteArray} {retc : Option FieldType} {post : Option Value → xw_G → Prop} {b ci N : Nat} {Cn : String} {T : u_T} {fs : List Value} {v1 v2 v3 : Value} {host : String} (hM : XM l y ws rm D cl tys B Z (.ref b :: [v1, v2, v3]) G post mc ms) (cw : va_CN R s args own index y host bytes maxL retc ws rm mc ms 3 ∧ (Cond.instanceMethod y).before args s = true ∧ (Cond.selects Cn y y).before args s = true) (hG : G b = some (.inr (ci, fs))) (hc : cl[ci]? = some (Cn, T, N)) (hvl : vs.length = nL) (hd : decode cc pc = .ok (.invokevirtual index, 3)) (hW : (st.map fun v => v.category).sum ≤ 8) (hf1 : cells + mc ≤ R.cells) (hf2 : slots + ms ≤ R.slots) (kk : ∀ (r : Option Value) (G' : xw_G), post r G' → XW p l e R s m args below meth c Q D cl B (pc + 3) (vs) (r.toList ++ st) (G') (cells + mc) (slots + ms)) : XW p l e R s m args below meth c Q D cl B (pc) (vs) (v3 :: v2 :: v1 :: .ref b :: st) (G) (cells) (slots) := fun H locs ls hP hS hl => xw_call C (va_runVN (As := [v1, v2, v3]) (rest := st) ⟨C.hx, C.hb, C.hml, C.hown, C.hts⟩ hM cw ⟨xw_blind C.hZs, xw_recv C hP hG hc, fun U hU hWm => xw_pre C hP hS U hU hWm⟩ rfl rfl (by rw [show (F0 m pc ls _).locals.size = ls.size from rfl, hl.1]; exact hvl) rfl (lv_room hW) hd ⟨hf1, hf2⟩) hS (fun r G' H1 locs1 hp hP1 hS1 => kk r G' hp H1 locs1 ls hP1 hS1 hl)
theorem x_callI3 (C : XC p s m args meth c cc nL own Ts D cl tys B Z ret) {y : MethodName} {ws : List Cond} {rm : Room} {mc ms index maxL : Nat} {bytes : ByteArray} {post : Option Value → xw_G → Prop} {b : Nat} {v1 v2 v3 : Value} (hM : XM l y ws rm D cl tys B Z (.ref b :: [v1, v2, v3]) G post mc ms) (cw : CallB R s args own index y bytes maxL none ws rm mc ms 3 ∧ y.name = "<init>" ∧ (Cond.instanceMethod y).before args s = true) (hvl : vs.length = nL) (hd : decode cc pc = .ok (.invokespecial index, 3)) (hW : (st.map fun v => v.category).sum ≤ 8) (hf1 : cells + mc ≤ R.cells) (hf2 : slots + ms ≤ R.slots) (kk : ∀ (r : Option Value) (G' : xw_G), post r G' → XW p l e R s m args below meth c Q D cl B (pc + 3) (vs) (r.toList ++ st) (G') (cells + mc) (slots + ms)) : XW p l e R s m args below meth c Q D cl B (pc) (vs) (v3 :: v2 :: v1 :: .ref b :: st) (G) (cells) (slots) := fun H locs ls hP hS hl => xw_call C (va_runI (As := [v1, v2, v3]) (rest := st) ⟨C.hx, C.hb, C.hml, C.hown, C.hts⟩ hM cw ⟨xw_blind C.hZs, fun U hU hWm => xw_pre C hP hS U hU hWm⟩ rfl rfl (by rw [show (F0 m pc ls _).locals.size = ls.size from rfl, hl.1]; exact hvl) rfl (lv_room hW) hd ⟨hf1, hf2⟩) hS (fun r G' H1 locs1 hp hP1 hS1 => kk r G' hp H1 locs1 ls hP1 hS1 hl)
theorem x_callS3 (C : XC p s m args meth c cc nL own Ts D cl tys B Z ret) {y : MethodName} {ws : List Cond} {rm : Room} {mc ms index maxL : Nat} {bytes : ByteArray} {retc : Option FieldType} {post : Option Value → xw_G → Prop} {v1 v2 v3 : Value} (hM : XM l y ws rm D cl tys B Z [v1, v2, v3] G post mc ms) (cw : CallB R s args own index y bytes maxL retc ws rm mc ms 3 ∧ (Cond.static y).before args s = true) (hvl : vs.length = nL) (hd : decode cc pc = .ok (.invokestatic index, 3)) (hW : (st.map fun v => v.category).sum ≤ 8) (hf1 : cells + mc ≤ R.cells) (hf2 : slots + ms ≤ R.slots) (kk : ∀ (r : Option Value) (G' : xw_G), post r G' → XW p l e R s m args below meth c Q D cl B (pc + 3) (vs) (r.toList ++ st) (G') (cells + mc) (slots + ms)) : XW p l e R s m args below meth c Q D cl B (pc) (vs) (v3 :: v2 :: v1 :: st) (G) (cells) (slots) := fun H locs ls hP hS hl => xw_call C (va_runS (As := [v1, v2, v3]) (rest := st) ⟨C.hx, C.hb, C.hml, C.hown, C.hts⟩ hM cw ⟨xw_blind C.hZs, fun U hU hWm => xw_pre C hP hS U hU hWm⟩ rfl rfl (by rw [show (F0 m pc ls _).locals.size = ls.size from rfl, hl.1]; exact hvl) rfl (lv_room hW) hd ⟨hf1, hf2⟩) hS (fun r G' H1 locs1 hp hP1 hS1 => kk r G' hp H1 locs1 ls hP1 hS1 hl)
theorem x_callSN3 (C : XC p s m args meth c cc nL own Ts D cl tys B Z ret) {y : MethodName} {ws : List Cond} {rm : Room} {mc ms index maxL : Nat} {bytes : ByteArray} {retc : Option FieldType} {post : Option Value → xw_G → Prop} {v1 v2 v3 : Value} {host : String} (hM : XM l y ws rm D cl tys B Z [v1, v2, v3] G post mc ms) (cw : va_CN R s args own index y host bytes maxL retc ws rm mc ms 3 ∧ (Cond.static y).before args s = true ∧ True) (hvl : vs.length = nL) (hd : decode cc pc = .ok (.invokestatic index, 3)) (hW : (st.map fun v => v.category).sum ≤ 8) (hf1 : cells + mc ≤ R.cells) (hf2 : slots + ms ≤ R.slots) (kk : ∀ (r : Option Value) (G' : xw_G), post r G' → XW p l e R s m args below meth c Q D cl B (pc + 3) (vs) (r.toList ++ st) (G') (cells + mc) (slots + ms)) : XW p l e R s m args below meth c Q D cl B (pc) (vs) (v3 :: v2 :: v1 :: st) (G) (cells) (slots) := fun H locs ls hP hS hl => xw_call C (va_runSN (As := [v1, v2, v3]) (rest := st) ⟨C.hx, C.hb, C.hml, C.hown, C.hts⟩ hM cw ⟨xw_blind C.hZs, fun U hU hWm => xw_pre C hP hS U hU hWm⟩ rfl rfl (by rw [show (F0 m pc ls _).locals.size = ls.size from rfl, hl.1]; exact hvl) rfl (lv_room hW) hd ⟨hf1, hf2⟩) hS (fun r G' H1 locs1 hp hP1 hS1 => kk r G' hp H1 locs1 ls hP1 hS1 hl)
theorem x_callV4 (C : XC p s m args meth c cc nL own Ts D cl tys B Z ret) {y : MethodName} {ws : List Cond} {rm : Room} {mc ms index maxL : Nat} {bytes : ByteArray} {retc : Option FieldType} {post : Option Value → xw_G → Prop} {b ci N : Nat} {Cn : String} {T : u_T} {fs : List Value} {v1 v2 v3 v4 : Value} (hM : XM l y ws rm D cl tys B Z (.ref b :: [v1, v2, v3, v4]) G post mc ms) (cw : CallW R s args own Cn index y bytes maxL retc ws rm mc ms 4) (hG : G b = some (.inr (ci, fs))) (hc : cl[ci]? = some (Cn, T, N)) (hvl : vs.length = nL) (hd : decode cc pc = .ok (.invokevirtual index, 3)) (hW : (st.map fun v => v.category).sum ≤ 8) (hf1 : cells + mc ≤ R.cells) (hf2 : slots + ms ≤ R.slots) (kk : ∀ (r : Option Value) (G' : xw_G), post r G' → XW p l e R s m args below meth c Q D cl B (pc + 3) (vs) (r.toList ++ st) (G') (cells + mc) (slots + ms)) : XW p l e R s m args below meth c Q D cl B (pc) (vs) (v4 :: v3 :: v2 :: v1 :: .ref b :: st) (G) (cells) (slots) := fun H locs ls hP hS hl => xw_call C (va_runV (As := [v1, v2, v3, v4]) (rest := st) ⟨C.hx, C.hb, C.hml, C.hown, C.hts⟩ hM cw ⟨xw_blind C.hZs, xw_recv C hP hG hc, fun U hU hWm => xw_pre C hP hS U hU hWm⟩ rfl rfl (by rw [show (F0 m pc ls _).locals.size = ls.size from rfl, hl.1]; exact hvl) rfl (lv_room hW) hd ⟨hf1, hf2⟩) hS (fun r G' H1 locs1 hp hP1 hS1 => kk r G' hp H1 locs1 ls hP1 hS1 hl)
theorem x_callVN4 (C : XC p s m args meth c cc nL own Ts D cl tys B Z ret) {y : MethodName} {ws : List Cond} {rm : Room} {mc ms index maxL : Nat} {bytes : ByteArray} {retc : Option FieldType} {post : Option Value → xw_G → Prop} {b ci N : Nat} {Cn : String} {T : u_T} {fs : List Value} {v1 v2 v3 v4 : Value} {host : String} (hM : XM l y ws rm D cl tys B Z (.ref b :: [v1, v2, v3, v4]) G post mc ms) (cw : va_CN R s args own index y host bytes maxL retc ws rm mc ms 4 ∧ (Cond.instanceMethod y).before args s = true ∧ (Cond.selects Cn y y).before args s = true) (hG : G b = some (.inr (ci, fs))) (hc : cl[ci]? = some (Cn, T, N)) (hvl : vs.length = nL) (hd : decode cc pc = .ok (.invokevirtual index, 3)) (hW : (st.map fun v => v.category).sum ≤ 8) (hf1 : cells + mc ≤ R.cells) (hf2 : slots + ms ≤ R.slots) (kk : ∀ (r : Option Value) (G' : xw_G), post r G' → XW p l e R s m args below meth c Q D cl B (pc + 3) (vs) (r.toList ++ st) (G') (cells + mc) (slots + ms)) : XW p l e R s m args below meth c Q D cl B (pc) (vs) (v4 :: v3 :: v2 :: v1 :: .ref b :: st) (G) (cells) (slots) := fun H locs ls hP hS hl => xw_call C (va_runVN (As := [v1, v2, v3, v4]) (rest := st) ⟨C.hx, C.hb, C.hml, C.hown, C.hts⟩ hM cw ⟨xw_blind C.hZs, xw_recv C hP hG hc, fun U hU hWm => xw_pre C hP hS U hU hWm⟩ rfl rfl (by rw [show (F0 m pc ls _).locals.size = ls.size from rfl, hl.1]; exact hvl) rfl (lv_room hW) hd ⟨hf1, hf2⟩) hS (fun r G' H1 locs1 hp hP1 hS1 => kk r G' hp H1 locs1 ls hP1 hS1 hl)
theorem x_callI4 (C : XC p s m args meth c cc nL own Ts D cl tys B Z ret) {y : MethodName} {ws : List Cond} {rm : Room} {mc ms index maxL : Nat} {bytes : ByteArray} {post : Option Value → xw_G → Prop} {b : Nat} {v1 v2 v3 v4 : Value} (hM : XM l y ws rm D cl tys B Z (.ref b :: [v1, v2, v3, v4]) G post mc ms) (cw : CallB R s args own index y bytes maxL none ws rm mc ms 4 ∧ y.name = "<init>" ∧ (Cond.instanceMethod y).before args s = true) (hvl : vs.length = nL) (hd : decode cc pc = .ok (.invokespecial index, 3)) (hW : (st.map fun v => v.category).sum ≤ 8) (hf1 : cells + mc ≤ R.cells) (hf2 : slots + ms ≤ R.slots) (kk : ∀ (r : Option Value) (G' : xw_G), post r G' → XW p l e R s m args below meth c Q D cl B (pc + 3) (vs) (r.toList ++ st) (G') (cells + mc) (slots + ms)) : XW p l e R s m args below meth c Q D cl B (pc) (vs) (v4 :: v3 :: v2 :: v1 :: .ref b :: st) (G) (cells) (slots) := fun H locs ls hP hS hl => xw_call C (va_runI (As := [v1, v2, v3, v4]) (rest := st) ⟨C.hx, C.hb, C.hml, C.hown, C.hts⟩ hM cw ⟨xw_blind C.hZs, fun U hU hWm => xw_pre C hP hS U hU hWm⟩ rfl rfl (by rw [show (F0 m pc ls _).locals.size = ls.size from rfl, hl.1]; exact hvl) rfl (lv_room hW) hd ⟨hf1, hf2⟩) hS (fun r G' H1 locs1 hp hP1 hS1 => kk r G' hp H1 locs1 ls hP1 hS1 hl)
theorem x_callS4 (C : XC p s m args meth c cc nL own Ts D cl tys B Z ret) {y : MethodName} {ws : List Cond} {rm : Room} {mc ms index maxL : Nat} {bytes : ByteArray} {retc : Option FieldType} {post : Option Value → xw_G → Prop} {v1 v2 v3 v4 : Value} (hM : XM l y ws rm D cl tys B Z [v1, v2, v3, v4] G post mc ms) (cw : CallB R s args own index y bytes maxL retc ws rm mc ms 4 ∧ (Cond.static y).before args s = true) (hvl : vs.length = nL) (hd : decode cc pc = .ok (.invokestatic index, 3)) (hW : (st.map fun v => v.category).sum ≤ 8) (hf1 : cells + mc ≤ R.cells) (hf2 : slots + ms ≤ R.slots) (kk : ∀ (r : Option Value) (G' : xw_G), post r G' → XW p l e R s m args below meth c Q D cl B (pc + 3) (vs) (r.toList ++ st) (G') (cells + mc) (slots + ms)) : XW p l e R s m args below meth c Q D cl B (pc) (vs) (v4 :: v3 :: v2 :: v1 :: st) (G) (cells) (slots) := fun H locs ls hP hS hl => xw_call C (va_runS (As := [v1, v2, v3, v4]) (rest := st) ⟨C.hx, C.hb, C.hml, C.hown, C.hts⟩ hM cw ⟨xw_blind C.hZs, fun U hU hWm => xw_pre C hP hS U hU hWm⟩ rfl rfl (by rw [show (F0 m pc ls _).locals.size = ls.size from rfl, hl.1]; exact hvl) rfl (lv_room hW) hd ⟨hf1, hf2⟩) hS (fun r G' H1 locs1 hp hP1 hS1 => kk r G' hp H1 locs1 ls hP1 hS1 hl)
theorem x_callSN4 (C : XC p s m args meth c cc nL own Ts D cl tys B Z ret) {y : MethodName} {ws : List Cond} {rm : Room} {mc ms index maxL : Nat} {bytes : ByteArray} {retc : Option FieldType} {post : Option Value → xw_G → Prop} {v1 v2 v3 v4 : Value} {host : String} (hM : XM l y ws rm D cl tys B Z [v1, v2, v3, v4] G post mc ms) (cw : va_CN R s args own index y host bytes maxL retc ws rm mc ms 4 ∧ (Cond.static y).before args s = true ∧ True) (hvl : vs.length = nL) (hd : decode cc pc = .ok (.invokestatic index, 3)) (hW : (st.map fun v => v.category).sum ≤ 8) (hf1 : cells + mc ≤ R.cells) (hf2 : slots + ms ≤ R.slots) (kk : ∀ (r : Option Value) (G' : xw_G), post r G' → XW p l e R s m args below meth c Q D cl B (pc + 3) (vs) (r.toList ++ st) (G') (cells + mc) (slots + ms)) : XW p l e R s m args below meth c Q D cl B (pc) (vs) (v4 :: v3 :: v2 :: v1 :: st) (G) (cells) (slots) := fun H locs ls hP hS hl => xw_call C (va_runSN (As := [v1, v2, v3, v4]) (rest := st) ⟨C.hx, C.hb, C.hml, C.hown, C.hts⟩ hM cw ⟨xw_blind C.hZs, fun U hU hWm => xw_pre C hP hS U hU hWm⟩ rfl rfl (by rw [show (F0 m pc ls _).locals.size = ls.size from rfl, hl.1]; exact hvl) rfl (lv_room hW) hd ⟨hf1, hf2⟩) hS (fun r G' H1 locs1 hp hP1 hS1 => kk r G' hp H1 locs1 ls hP1 hS1 hl)
theorem x_callV5 (C : XC p s m args meth c cc nL own Ts D cl tys B Z ret) {y : MethodName} {ws : List Cond} {rm : Room} {mc ms index maxL : Nat} {bytes : ByteArray} {retc : Option FieldType} {post : Option Value → xw_G → Prop} {b ci N : Nat} {Cn : String} {T : u_T} {fs : List Value} {v1 v2 v3 v4 v5 : Value} (hM : XM l y ws rm D cl tys B Z (.ref b :: [v1, v2, v3, v4, v5]) G post mc ms) (cw : CallW R s args own Cn index y bytes maxL retc ws rm mc ms 5) (hG : G b = some (.inr (ci, fs))) (hc : cl[ci]? = some (Cn, T, N)) (hvl : vs.length = nL) (hd : decode cc pc = .ok (.invokevirtual index, 3)) (hW : (st.map fun v => v.category).sum ≤ 8) (hf1 : cells + mc ≤ R.cells) (hf2 : slots + ms ≤ R.slots) (kk : ∀ (r : Option Value) (G' : xw_G), post r G' → XW p l e R s m args below meth c Q D cl B (pc + 3) (vs) (r.toList ++ st) (G') (cells + mc) (slots + ms)) : XW p l e R s m args below meth c Q D cl B (pc) (vs) (v5 :: v4 :: v3 :: v2 :: v1 :: .ref b :: st) (G) (cells) (slots) := fun H locs ls hP hS hl => xw_call C (va_runV (As := [v1, v2, v3, v4, v5]) (rest := st) ⟨C.hx, C.hb, C.hml, C.hown, C.hts⟩ hM cw ⟨xw_blind C.hZs, xw_recv C hP hG hc, fun U hU hWm => xw_pre C hP hS U hU hWm⟩ rfl rfl (by rw [show (F0 m pc ls _).locals.size = ls.size from rfl, hl.1]; exact hvl) rfl (lv_room hW) hd ⟨hf1, hf2⟩) hS (fun r G' H1 locs1 hp hP1 hS1 => kk r G' hp H1 locs1 ls hP1 hS1 hl)
theorem x_callVN5 (C : XC p s m args meth c cc nL own Ts D cl tys B Z ret) {y : MethodName} {ws : List Cond} {rm : Room} {mc ms index maxL : Nat} {bytes : ByteArray} {retc : Option FieldType} {post : Option Value → xw_G → Prop} {b ci N : Nat} {Cn : String} {T : u_T} {fs : List Value} {v1 v2 v3 v4 v5 : Value} {host : String} (hM : XM l y ws rm D cl tys B Z (.ref b :: [v1, v2, v3, v4, v5]) G post mc ms) (cw : va_CN R s args own index y host bytes maxL retc ws rm mc ms 5 ∧ (Cond.instanceMethod y).before args s = true ∧ (Cond.selects Cn y y).before args s = true) (hG : G b = some (.inr (ci, fs))) (hc : cl[ci]? = some (Cn, T, N)) (hvl : vs.length = nL) (hd : decode cc pc = .ok (.invokevirtual index, 3)) (hW : (st.map fun v => v.category).sum ≤ 8) (hf1 : cells + mc ≤ R.cells) (hf2 : slots + ms ≤ R.slots) (kk : ∀ (r : Option Value) (G' : xw_G), post r G' → XW p l e R s m args below meth c Q D cl B (pc + 3) (vs) (r.toList ++ st) (G') (cells + mc) (slots + ms)) : XW p l e R s m args below meth c Q D cl B (pc) (vs) (v5 :: v4 :: v3 :: v2 :: v1 :: .ref b :: st) (G) (cells) (slots) := fun H locs ls hP hS hl => xw_call C (va_runVN (As := [v1, v2, v3, v4, v5]) (rest := st) ⟨C.hx, C.hb, C.hml, C.hown, C.hts⟩ hM cw ⟨xw_blind C.hZs, xw_recv C hP hG hc, fun U hU hWm => xw_pre C hP hS U hU hWm⟩ rfl rfl (by rw [show (F0 m pc ls _).locals.size = ls.size from rfl, hl.1]; exact hvl) rfl (lv_room hW) hd ⟨hf1, hf2⟩) hS (fun r G' H1 locs1 hp hP1 hS1 => kk r G' hp H1 locs1 ls hP1 hS1 hl)
theorem x_callI5 (C : XC p s m args meth c cc nL own Ts D cl tys B Z ret) {y : MethodName} {ws : List Cond} {rm : Room} {mc ms index maxL : Nat} {bytes : ByteArray} {post : Option Value → xw_G → Prop} {b : Nat} {v1 v2 v3 v4 v5 : Value} (hM : XM l y ws rm D cl tys B Z (.ref b :: [v1, v2, v3, v4, v5]) G post mc ms) (cw : CallB R s args own index y bytes maxL none ws rm mc ms 5 ∧ y.name = "<init>" ∧ (Cond.instanceMethod y).before args s = true) (hvl : vs.length = nL) (hd : decode cc pc = .ok (.invokespecial index, 3)) (hW : (st.map fun v => v.category).sum ≤ 8) (hf1 : cells + mc ≤ R.cells) (hf2 : slots + ms ≤ R.slots) (kk : ∀ (r : Option Value) (G' : xw_G), post r G' → XW p l e R s m args below meth c Q D cl B (pc + 3) (vs) (r.toList ++ st) (G') (cells + mc) (slots + ms)) : XW p l e R s m args below meth c Q D cl B (pc) (vs) (v5 :: v4 :: v3 :: v2 :: v1 :: .ref b :: st) (G) (cells) (slots) := fun H locs ls hP hS hl => xw_call C (va_runI (As := [v1, v2, v3, v4, v5]) (rest := st) ⟨C.hx, C.hb, C.hml, C.hown, C.hts⟩ hM cw ⟨xw_blind C.hZs, fun U hU hWm => xw_pre C hP hS U hU hWm⟩ rfl rfl (by rw [show (F0 m pc ls _).locals.size = ls.size from rfl, hl.1]; exact hvl) rfl (lv_room hW) hd ⟨hf1, hf2⟩) hS (fun r G' H1 locs1 hp hP1 hS1 => kk r G' hp H1 locs1 ls hP1 hS1 hl)
theorem x_callS5 (C : XC p s m args meth c cc nL own Ts D cl tys B Z ret) {y : MethodName} {ws : List Cond} {rm : Room} {mc ms index maxL : Nat} {bytes : ByteArray} {retc : Option FieldType} {post : Option Value → xw_G → Prop} {v1 v2 v3 v4 v5 : Value} (hM : XM l y ws rm D cl tys B Z [v1, v2, v3, v4, v5] G post mc ms) (cw : CallB R s args own index y bytes maxL retc ws rm mc ms 5 ∧ (Cond.static y).before args s = true) (hvl : vs.length = nL) (hd : decode cc pc = .ok (.invokestatic index, 3)) (hW : (st.map fun v => v.category).sum ≤ 8) (hf1 : cells + mc ≤ R.cells) (hf2 : slots + ms ≤ R.slots) (kk : ∀ (r : Option Value) (G' : xw_G), post r G' → XW p l e R s m args below meth c Q D cl B (pc + 3) (vs) (r.toList ++ st) (G') (cells + mc) (slots + ms)) : XW p l e R s m args below meth c Q D cl B (pc) (vs) (v5 :: v4 :: v3 :: v2 :: v1 :: st) (G) (cells) (slots) := fun H locs ls hP hS hl => xw_call C (va_runS (As := [v1, v2, v3, v4, v5]) (rest := st) ⟨C.hx, C.hb, C.hml, C.hown, C.hts⟩ hM cw ⟨xw_blind C.hZs, fun U hU hWm => xw_pre C hP hS U hU hWm⟩ rfl rfl (by rw [show (F0 m pc ls _).locals.size = ls.size from rfl, hl.1]; exact hvl) rfl (lv_room hW) hd ⟨hf1, hf2⟩) hS (fun r G' H1 locs1 hp hP1 hS1 => kk r G' hp H1 locs1 ls hP1 hS1 hl)
theorem x_callSN5 (C : XC p s m args meth c cc nL own Ts D cl tys B Z ret) {y : MethodName} {ws : List Cond} {rm : Room} {mc ms index maxL : Nat} {bytes : ByteArray} {retc : Option FieldType} {post : Option Value → xw_G → Prop} {v1 v2 v3 v4 v5 : Value} {host : String} (hM : XM l y ws rm D cl tys B Z [v1, v2, v3, v4, v5] G post mc ms) (cw : va_CN R s args own index y host bytes maxL retc ws rm mc ms 5 ∧ (Cond.static y).before args s = true ∧ True) (hvl : vs.length = nL) (hd : decode cc pc = .ok (.invokestatic index, 3)) (hW : (st.map fun v => v.category).sum ≤ 8) (hf1 : cells + mc ≤ R.cells) (hf2 : slots + ms ≤ R.slots) (kk : ∀ (r : Option Value) (G' : xw_G), post r G' → XW p l e R s m args below meth c Q D cl B (pc + 3) (vs) (r.toList ++ st) (G') (cells + mc) (slots + ms)) : XW p l e R s m args below meth c Q D cl B (pc) (vs) (v5 :: v4 :: v3 :: v2 :: v1 :: st) (G) (cells) (slots) := fun H locs ls hP hS hl => xw_call C (va_runSN (As := [v1, v2, v3, v4, v5]) (rest := st) ⟨C.hx, C.hb, C.hml, C.hown, C.hts⟩ hM cw ⟨xw_blind C.hZs, fun U hU hWm => xw_pre C hP hS U hU hWm⟩ rfl rfl (by rw [show (F0 m pc ls _).locals.size = ls.size from rfl, hl.1]; exact hvl) rfl (lv_room hW) hd ⟨hf1, hf2⟩) hS (fun r G' H1 locs1 hp hP1 hS1 => kk r G' hp H1 locs1 ls hP1 hS1 hl)
theorem x_callV6 (C : XC p s m args meth c cc nL own Ts D cl tys B Z ret) {y : MethodName} {ws : List Cond} {rm : Room} {mc ms index maxL : Nat} {bytes : ByteArray} {retc : Option FieldType} {post : Option Value → xw_G → Prop} {b ci N : Nat} {Cn : String} {T : u_T} {fs : List Value} {v1 v2 v3 v4 v5 v6 : Value} (hM : XM l y ws rm D cl tys B Z (.ref b :: [v1, v2, v3, v4, v5, v6]) G post mc ms) (cw : CallW R s args own Cn index y bytes maxL retc ws rm mc ms 6) (hG : G b = some (.inr (ci, fs))) (hc : cl[ci]? = some (Cn, T, N)) (hvl : vs.length = nL) (hd : decode cc pc = .ok (.invokevirtual index, 3)) (hW : (st.map fun v => v.category).sum ≤ 8) (hf1 : cells + mc ≤ R.cells) (hf2 : slots + ms ≤ R.slots) (kk : ∀ (r : Option Value) (G' : xw_G), post r G' → XW p l e R s m args below meth c Q D cl B (pc + 3) (vs) (r.toList ++ st) (G') (cells + mc) (slots + ms)) : XW p l e R s m args below meth c Q D cl B (pc) (vs) (v6 :: v5 :: v4 :: v3 :: v2 :: v1 :: .ref b :: st) (G) (cells) (slots) := fun H locs ls hP hS hl => xw_call C (va_runV (As := [v1, v2, v3, v4, v5, v6]) (rest := st) ⟨C.hx, C.hb, C.hml, C.hown, C.hts⟩ hM cw ⟨xw_blind C.hZs, xw_recv C hP hG hc, fun U hU hWm => xw_pre C hP hS U hU hWm⟩ rfl rfl (by rw [show (F0 m pc ls _).locals.size = ls.size from rfl, hl.1]; exact hvl) rfl (lv_room hW) hd ⟨hf1, hf2⟩) hS (fun r G' H1 locs1 hp hP1 hS1 => kk r G' hp H1 locs1 ls hP1 hS1 hl)
theorem x_callVN6 (C : XC p s m args meth c cc nL own Ts D cl tys B Z ret) {y : MethodName} {ws : List Cond} {rm : Room} {mc ms index maxL : Nat} {bytes : ByteArray} {retc : Option FieldType} {post : Option Value → xw_G → Prop} {b ci N : Nat} {Cn : String} {T : u_T} {fs : List Value} {v1 v2 v3 v4 v5 v6 : Value} {host : String} (hM : XM l y ws rm D cl tys B Z (.ref b :: [v1, v2, v3, v4, v5, v6]) G post mc ms) (cw : va_CN R s args own index y host bytes maxL retc ws rm mc ms 6 ∧ (Cond.instanceMethod y).before args s = true ∧ (Cond.selects Cn y y).before args s = true) (hG : G b = some (.inr (ci, fs))) (hc : cl[ci]? = some (Cn, T, N)) (hvl : vs.length = nL) (hd : decode cc pc = .ok (.invokevirtual index, 3)) (hW : (st.map fun v => v.category).sum ≤ 8) (hf1 : cells + mc ≤ R.cells) (hf2 : slots + ms ≤ R.slots) (kk : ∀ (r : Option Value) (G' : xw_G), post r G' → XW p l e R s m args below meth c Q D cl B (pc + 3) (vs) (r.toList ++ st) (G') (cells + mc) (slots + ms)) : XW p l e R s m args below meth c Q D cl B (pc) (vs) (v6 :: v5 :: v4 :: v3 :: v2 :: v1 :: .ref b :: st) (G) (cells) (slots) := fun H locs ls hP hS hl => xw_call C (va_runVN (As := [v1, v2, v3, v4, v5, v6]) (rest := st) ⟨C.hx, C.hb, C.hml, C.hown, C.hts⟩ hM cw ⟨xw_blind C.hZs, xw_recv C hP hG hc, fun U hU hWm => xw_pre C hP hS U hU hWm⟩ rfl rfl (by rw [show (F0 m pc ls _).locals.size = ls.size from rfl, hl.1]; exact hvl) rfl (lv_room hW) hd ⟨hf1, hf2⟩) hS (fun r G' H1 locs1 hp hP1 hS1 => kk r G' hp H1 locs1 ls hP1 hS1 hl)
theorem x_callI6 (C : XC p s m args meth c cc nL own Ts D cl tys B Z ret) {y : MethodName} {ws : List Cond} {rm : Room} {mc ms index maxL : Nat} {bytes : ByteArray} {post : Option Value → xw_G → Prop} {b : Nat} {v1 v2 v3 v4 v5 v6 : Value} (hM : XM l y ws rm D cl tys B Z (.ref b :: [v1, v2, v3, v4, v5, v6]) G post mc ms) (cw : CallB R s args own index y bytes maxL none ws rm mc ms 6 ∧ y.name = "<init>" ∧ (Cond.instanceMethod y).before args s = true) (hvl : vs.length = nL) (hd : decode cc pc = .ok (.invokespecial index, 3)) (hW : (st.map fun v => v.category).sum ≤ 8) (hf1 : cells + mc ≤ R.cells) (hf2 : slots + ms ≤ R.slots) (kk : ∀ (r : Option Value) (G' : xw_G), post r G' → XW p l e R s m args below meth c Q D cl B (pc + 3) (vs) (r.toList ++ st) (G') (cells + mc) (slots + ms)) : XW p l e R s m args below meth c Q D cl B (pc) (vs) (v6 :: v5 :: v4 :: v3 :: v2 :: v1 :: .ref b :: st) (G) (cells) (slots) := fun H locs ls hP hS hl => xw_call C (va_runI (As := [v1, v2, v3, v4, v5, v6]) (rest := st) ⟨C.hx, C.hb, C.hml, C.hown, C.hts⟩ hM cw ⟨xw_blind C.hZs, fun U hU hWm => xw_pre C hP hS U hU hWm⟩ rfl rfl (by rw [show (F0 m pc ls _).locals.size = ls.size from rfl, hl.1]; exact hvl) rfl (lv_room hW) hd ⟨hf1, hf2⟩) hS (fun r G' H1 locs1 hp hP1 hS1 => kk r G' hp H1 locs1 ls hP1 hS1 hl)
theorem x_callS6 (C : XC p s m args meth c cc nL own Ts D cl tys B Z ret) {y : MethodName} {ws : List Cond} {rm : Room} {mc ms index maxL : Nat} {bytes : ByteArray} {retc : Option FieldType} {post : Option Value → xw_G → Prop} {v1 v2 v3 v4 v5 v6 : Value} (hM : XM l y ws rm D cl tys B Z [v1, v2, v3, v4, v5, v6] G post mc ms) (cw : CallB R s args own index y bytes maxL retc ws rm mc ms 6 ∧ (Cond.static y).before args s = true) (hvl : vs.length = nL) (hd : decode cc pc = .ok (.invokestatic index, 3)) (hW : (st.map fun v => v.category).sum ≤ 8) (hf1 : cells + mc ≤ R.cells) (hf2 : slots + ms ≤ R.slots) (kk : ∀ (r : Option Value) (G' : xw_G), post r G' → XW p l e R s m args below meth c Q D cl B (pc + 3) (vs) (r.toList ++ st) (G') (cells + mc) (slots + ms)) : XW p l e R s m args below meth c Q D cl B (pc) (vs) (v6 :: v5 :: v4 :: v3 :: v2 :: v1 :: st) (G) (cells) (slots) := fun H locs ls hP hS hl => xw_call C (va_runS (As := [v1, v2, v3, v4, v5, v6]) (rest := st) ⟨C.hx, C.hb, C.hml, C.hown, C.hts⟩ hM cw ⟨xw_blind C.hZs, fun U hU hWm => xw_pre C hP hS U hU hWm⟩ rfl rfl (by rw [show (F0 m pc ls _).locals.size = ls.size from rfl, hl.1]; exact hvl) rfl (lv_room hW) hd ⟨hf1, hf2⟩) hS (fun r G' H1 locs1 hp hP1 hS1 => kk r G' hp H1 locs1 ls hP1 hS1 hl)
theorem x_callSN6 (C : XC p s m args meth c cc nL own Ts D cl tys B Z ret) {y : MethodName} {ws : List Cond} {rm : Room} {mc ms index maxL : Nat} {bytes : ByteArray} {retc : Option FieldType} {post : Option Value → xw_G → Prop} {v1 v2 v3 v4 v5 v6 : Value} {host : String} (hM : XM l y ws rm D cl tys B Z [v1, v2, v3, v4, v5, v6] G post mc ms) (cw : va_CN R s args own index y host bytes maxL retc ws rm mc ms 6 ∧ (Cond.static y).before args s = true ∧ True) (hvl : vs.length = nL) (hd : decode cc pc = .ok (.invokestatic index, 3)) (hW : (st.map fun v => v.category).sum ≤ 8) (hf1 : cells + mc ≤ R.cells) (hf2 : slots + ms ≤ R.slots) (kk : ∀ (r : Option Value) (G' : xw_G), post r G' → XW p l e R s m args below meth c Q D cl B (pc + 3) (vs) (r.toList ++ st) (G') (cells + mc) (slots + ms)) : XW p l e R s m args below meth c Q D cl B (pc) (vs) (v6 :: v5 :: v4 :: v3 :: v2 :: v1 :: st) (G) (cells) (slots) := fun H locs ls hP hS hl => xw_call C (va_runSN (As := [v1, v2, v3, v4, v5, v6]) (rest := st) ⟨C.hx, C.hb, C.hml, C.hown, C.hts⟩ hM cw ⟨xw_blind C.hZs, fun U hU hWm => xw_pre C hP hS U hU hWm⟩ rfl rfl (by rw [show (F0 m pc ls _).locals.size = ls.size from rfl, hl.1]; exact hvl) rfl (lv_room hW) hd ⟨hf1, hf2⟩) hS (fun r G' H1 locs1 hp hP1 hS1 => kk r G' hp H1 locs1 ls hP1 hS1 hl)
theorem x_zastore (C : XC p s m args meth c cc nL own Ts D cl tys B Z ret) {a n : Nat} {cA : ClassId} {f : Nat → Int32} {i : Int32} {x : Int32} (hG : G a = some (.inl (cA, n, .inl f))) (t0 : Nat) (ht : tys[t0]? = some (cA, .boolean)) (hi : vp_in i n) (hd : decode cc pc = .ok (.bastore, 1)) (k : XW p l e R s m args below meth c Q D cl B (pc + 1) (vs) (st) (va_up G a (some (.inl (cA, n, .inl (upd f i.toNatClampNeg (vp_nar .boolean x)))))) (cells) (slots)) : XW p l e R s m args below meth c Q D cl B (pc) (vs) (.int x :: .int i :: .ref a :: st) (G) (cells) (slots) := fun H locs ls hP hS hl => xw_write (Wx := fun H1 locs1 => W p l e R s m args below meth c H1 locs1 cells slots Q (F0 m (pc + 1) ls st)) hP hS C.hB hG (xw_Ba hP hG (Nat.lt_of_le_of_lt (Nat.zero_le _) (Nat.not_le.mp fun q => hi (Or.inr q)))) (fun ws j hPw hDw hj kx => va_zast C.hx C.hb C.hK hPw hDw hS j t0 hj ht hi hd kx) (fun H1 locs1 hP1 hS1 => k H1 locs1 ls hP1 hS1 hl)
theorem x_aastoreN (C : XC p s m args meth c cc nL own Ts D cl tys B Z ret) {a n : Nat} {cA : ClassId} {En : String} {f : Nat → Option Nat} {i : Int32} (hG : G a = some (.inl (cA, n, .inr (.inr (.inr (.inr f)))))) (t0 : Nat) (ht : tys[t0]? = some (cA, .object En)) (hi : vp_in i n) (hd : decode cc pc = .ok (.aastore, 1)) (k : XW p l e R s m args below meth c Q D cl B (pc + 1) (vs) (st) (va_up G a (some (.inl (cA, n, .inr (.inr (.inr (.inr (va_up f i.toNatClampNeg (none))))))))) (cells) (slots)) : XW p l e R s m args below meth c Q D cl B (pc) (vs) (.null :: .int i :: .ref a :: st) (G) (cells) (slots) := fun H locs ls hP hS hl => xw_write (Wx := fun H1 locs1 => W p l e R s m args below meth c H1 locs1 cells slots Q (F0 m (pc + 1) ls st)) hP hS C.hB hG (xw_Ba hP hG (Nat.lt_of_le_of_lt (Nat.zero_le _) (Nat.not_le.mp fun q => hi (Or.inr q)))) (fun ws j hPw hDw hj kx => va_astqN C.hx C.hb C.hK hPw hDw hS j t0 hj ht hi hd kx) (fun H1 locs1 hP1 hS1 => k H1 locs1 ls hP1 hS1 hl)
theorem x_aastore (C : XC p s m args meth c cc nL own Ts D cl tys B Z ret) {a n v ci N : Nat} {cA : ClassId} {En Cn : String} {T : u_T} {fs : List Value} {f : Nat → Option Nat} {i : Int32} (hG : G a = some (.inl (cA, n, .inr (.inr (.inr (.inr f)))))) (t0 : Nat) (ht : tys[t0]? = some (cA, .object En)) (hGv : G v = some (.inr (ci, fs))) (hc : cl[ci]? = some (Cn, T, N)) (hcast : ∀ U : State, Z U → va_Nw (.castable Cn En) U) (hi : vp_in i n) (hd : decode cc pc = .ok (.aastore, 1)) (k : XW p l e R s m args below meth c Q D cl B (pc + 1) (vs) (st) (va_up G a (some (.inl (cA, n, .inr (.inr (.inr (.inr (va_up f i.toNatClampNeg (some v))))))))) (cells) (slots)) : XW p l e R s m args below meth c Q D cl B (pc) (vs) (.ref v :: .int i :: .ref a :: st) (G) (cells) (slots) := fun H locs ls hP hS hl => xw_writeF (Wx := fun H1 locs1 => W p l e R s m args below meth c H1 locs1 cells slots Q (F0 m (pc + 1) ls st)) hP hS C.hB hG (xw_Ba hP hG (Nat.lt_of_le_of_lt (Nat.zero_le _) (Nat.not_le.mp fun q => hi (Or.inr q)))) (fun ws j hPw hDw hj hfind kx => by
  obtain ⟨j2, hj2⟩ := hfind v _ hGv (xw_B hP hGv)
  exact va_astqO C.hx C.hb C.hK hPw hDw hS j t0 j2 ci hj ht (hcast s C.hZ) hj2 hc hi hd kx) (fun H1 locs1 hP1 hS1 => k H1 locs1 ls hP1 hS1 hl)
theorem xw_tyq {cA c0 : ClassId} {En : String} (h : va_K D cl (tys ++ [(cA, .object En)]) s) {t0 : Nat} (ht : tys[t0]? = some (c0, .object En)) : cA = c0 := by
  have h1 := (h.2 tys.length (cA, .object En) (by rw [List.getElem?_append_right (Nat.le_refl _), Nat.sub_self]; rfl)).2
  have h2 := (h.2 t0 (c0, .object En) (by rw [List.getElem?_append_left (List.getElem?_eq_some_iff.mp ht).1]; exact ht)).2
  obtain ⟨_, _, _, _, _, e1⟩ := h1
  obtain ⟨_, _, _, _, _, e2⟩ := h2
  exact Option.some.inj (e1.symm.trans e2)
theorem x_anewa (C : XC p s m args meth c cc nL own Ts D cl tys B Z ret) {index : Nat} {En : String} {cA : ClassId} {n : Int32} {N' : Nat} (t0 : Nat) (ht : tys[t0]? = some (cA, .object En)) (hcl : Cond.classLink own index En ∈ Ts) (hn : ¬ n < 0) (hN : n.toNatClampNeg = N') (hbytes : N' * 4 ≤ 536870912) (hcells : cells + 1 ≤ R.cells) (hslots : slots + N' ≤ R.slots) (hd : decode cc pc = .ok (.anewarray index, 3)) (hov : ∀ U : State, Z U → va_AO En U) (kk : ∀ q : Nat, G q = none → B ≤ q → XW p l e R s m args below meth c Q D cl B (pc + 3) (vs) (.ref q :: st) (va_up G q (some (.inl (cA, N', .inr (.inr (.inr (.inr (fun _ => none)))))))) (cells + 1) (slots + N')) : XW p l e R s m args below meth c Q D cl B (pc) (vs) (.int n :: st) (G) (cells) (slots) := fun H locs ls hP hS hl => xw_make (ι := ClassId) (F := fun cB => va_K D cl (tys ++ [(cB, .object En)]) s) (e' := fun cB => .inl (cB, N', .inr (.inr (.inr (.inr (fun _ => none)))))) (Wx := fun _ q H1 => W p l e R s m args below meth c H1 locs (cells + 1) (slots + N') Q (F0 m (pc + 3) ls (.ref q :: st))) hP hS C.hB (fun ws hPw hDw kx => va_newq C.hx C.hb C.hown (C.hts _ hcl) (hov s C.hZ) C.hK hPw hDw hS (fun q h => Nat.le_trans C.hB h) hn hN hbytes hcells hslots hd (fun q cB H1 h0 h1 h2 h3 => kx q cB H1 h0 h1 h2 h3)) (fun q cB H1 hF hq hBq hP1 hS1 => kk q hq hBq H1 locs ls (by have := xw_tyq hF ht; subst this; exact hP1) hS1 hl)
theorem xw_typ {cA c0 : ClassId} {ty : FieldType} (hne : ∀ Cn, ty ≠ .object Cn) (h : va_K D cl (tys ++ [(cA, ty)]) s) {t0 : Nat} (ht : tys[t0]? = some (c0, ty)) : cA = c0 := by
  have h1 := (h.2 tys.length (cA, ty) (by rw [List.getElem?_append_right (Nat.le_refl _), Nat.sub_self]; rfl)).2
  have h2 := (h.2 t0 (c0, ty) (by rw [List.getElem?_append_left (List.getElem?_eq_some_iff.mp ht).1]; exact ht)).2
  cases ty with
  | object Cn => exact absurd rfl (hne Cn)
  | _ => exact Option.some.inj (Eq.trans (Eq.symm h1) h2)
theorem x_newa_l (C : XC p s m args meth c cc nL own Ts D cl tys B Z ret) {cA : ClassId} {n : Int32} {N' : Nat} (t0 : Nat) (ht : tys[t0]? = some (cA, .long)) (hac : Cond.arrayClass .long ∈ Ts) (hn : ¬ n < 0) (hN : n.toNatClampNeg = N') (hbytes : N' * componentBytes .long ≤ 536870912) (hcells : cells + 1 ≤ R.cells) (hslots : slots + N' ≤ R.slots) (hd : decode cc pc = .ok (.newarray .long, 2)) (kk : ∀ q : Nat, G q = none → B ≤ q → XW p l e R s m args below meth c Q D cl B (pc + 2) (vs) (.ref q :: st) (va_up G q (some (.inl (cA, N', .inr (.inl (fun _ => 0)))))) (cells + 1) (slots + N')) : XW p l e R s m args below meth c Q D cl B (pc) (vs) (.int n :: st) (G) (cells) (slots) := fun H locs ls hP hS hl => xw_make (ι := ClassId) (F := fun cB => va_K D cl (tys ++ [(cB, .long)]) s) (e' := fun cB => .inl (cB, N', .inr (.inl (fun _ => 0)))) (Wx := fun _ q H1 => W p l e R s m args below meth c H1 locs (cells + 1) (slots + N') Q (F0 m (pc + 2) ls (.ref q :: st))) hP hS C.hB (fun ws hPw hDw kx => va_newa (atype := .long) (a0 := (N', .inr (.inl (fun _ => 0)))) (ty := .long) C.hx C.hb (C.hts _ hac) rfl C.hK hPw hDw hS (fun q h => Nat.le_trans C.hB h) (fun _ => rfl) hn hN hbytes hcells hslots hd (fun q cB H1 h0 h1 h2 h3 => kx q cB H1 h0 h1 h2 h3)) (fun q cB H1 hF hq hBq hP1 hS1 => kk q hq hBq H1 locs ls (by have := xw_typ (fun _ h => by cases h) hF ht; subst this; exact hP1) hS1 hl)
theorem x_newa_i (C : XC p s m args meth c cc nL own Ts D cl tys B Z ret) {cA : ClassId} {n : Int32} {N' : Nat} (t0 : Nat) (ht : tys[t0]? = some (cA, .int)) (hac : Cond.arrayClass .int ∈ Ts) (hn : ¬ n < 0) (hN : n.toNatClampNeg = N') (hbytes : N' * componentBytes .int ≤ 536870912) (hcells : cells + 1 ≤ R.cells) (hslots : slots + N' ≤ R.slots) (hd : decode cc pc = .ok (.newarray .int, 2)) (kk : ∀ q : Nat, G q = none → B ≤ q → XW p l e R s m args below meth c Q D cl B (pc + 2) (vs) (.ref q :: st) (va_up G q (some (.inl (cA, N', .inl (fun _ => 0))))) (cells + 1) (slots + N')) : XW p l e R s m args below meth c Q D cl B (pc) (vs) (.int n :: st) (G) (cells) (slots) := fun H locs ls hP hS hl => xw_make (ι := ClassId) (F := fun cB => va_K D cl (tys ++ [(cB, .int)]) s) (e' := fun cB => .inl (cB, N', .inl (fun _ => 0))) (Wx := fun _ q H1 => W p l e R s m args below meth c H1 locs (cells + 1) (slots + N') Q (F0 m (pc + 2) ls (.ref q :: st))) hP hS C.hB (fun ws hPw hDw kx => va_newa (atype := .int) (a0 := (N', .inl (fun _ => 0))) (ty := .int) C.hx C.hb (C.hts _ hac) rfl C.hK hPw hDw hS (fun q h => Nat.le_trans C.hB h) (fun _ => rfl) hn hN hbytes hcells hslots hd (fun q cB H1 h0 h1 h2 h3 => kx q cB H1 h0 h1 h2 h3)) (fun q cB H1 hF hq hBq hP1 hS1 => kk q hq hBq H1 locs ls (by have := xw_typ (fun _ h => by cases h) hF ht; subst this; exact hP1) hS1 hl)
theorem x_newa_z (C : XC p s m args meth c cc nL own Ts D cl tys B Z ret) {cA : ClassId} {n : Int32} {N' : Nat} (t0 : Nat) (ht : tys[t0]? = some (cA, .boolean)) (hac : Cond.arrayClass .boolean ∈ Ts) (hn : ¬ n < 0) (hN : n.toNatClampNeg = N') (hbytes : N' * componentBytes .boolean ≤ 536870912) (hcells : cells + 1 ≤ R.cells) (hslots : slots + N' ≤ R.slots) (hd : decode cc pc = .ok (.newarray .boolean, 2)) (kk : ∀ q : Nat, G q = none → B ≤ q → XW p l e R s m args below meth c Q D cl B (pc + 2) (vs) (.ref q :: st) (va_up G q (some (.inl (cA, N', .inl (fun _ => 0))))) (cells + 1) (slots + N')) : XW p l e R s m args below meth c Q D cl B (pc) (vs) (.int n :: st) (G) (cells) (slots) := fun H locs ls hP hS hl => xw_make (ι := ClassId) (F := fun cB => va_K D cl (tys ++ [(cB, .boolean)]) s) (e' := fun cB => .inl (cB, N', .inl (fun _ => 0))) (Wx := fun _ q H1 => W p l e R s m args below meth c H1 locs (cells + 1) (slots + N') Q (F0 m (pc + 2) ls (.ref q :: st))) hP hS C.hB (fun ws hPw hDw kx => va_newa (atype := .boolean) (a0 := (N', .inl (fun _ => 0))) (ty := .boolean) C.hx C.hb (C.hts _ hac) rfl C.hK hPw hDw hS (fun q h => Nat.le_trans C.hB h) (fun _ => rfl) hn hN hbytes hcells hslots hd (fun q cB H1 h0 h1 h2 h3 => kx q cB H1 h0 h1 h2 h3)) (fun q cB H1 hF hq hBq hP1 hS1 => kk q hq hBq H1 locs ls (by have := xw_typ (fun _ h => by cases h) hF ht; subst this; exact hP1) hS1 hl)
theorem x_castS (C : XC p s m args meth c cc nL own Ts D cl tys B Z ret) {a ci index N : Nat} {Cn : String} {T : u_T} {fs : List Value} (hG : G a = some (.inr (ci, fs))) (hc : cl[ci]? = some (Cn, T, N)) (hlink : Cond.classLink own index Cn ∈ Ts) (hd : decode cc pc = .ok (.checkcast index, 3)) (k : XW p l e R s m args below meth c Q D cl B (pc + 3) (vs) (.ref a :: st) (G) (cells) (slots)) : XW p l e R s m args below meth c Q D cl B (pc) (vs) (.ref a :: st) (G) (cells) (slots) := fun H locs ls hP hS hl => va_castS C.hx C.hb C.hown (C.hts _ hlink) (C.hK.1 ci _ hc).2 (xw_recv C hP hG hc) hd (k H locs ls hP hS hl)
theorem x_castN (C : XC p s m args meth c cc nL own Ts D cl tys B Z ret) {index : Nat} (hd : decode cc pc = .ok (.checkcast index, 3)) (k : XW p l e R s m args below meth c Q D cl B (pc + 3) (vs) (.null :: st) (G) (cells) (slots)) : XW p l e R s m args below meth c Q D cl B (pc) (vs) (.null :: st) (G) (cells) (slots) := fun H locs ls hP hS hl => lv_castN C.hx C.hb hd (k H locs ls hP hS hl)
theorem x_objInit (C : XC p s m args meth c cc nL own Ts D cl tys B Z ret) {a idx : Nat} (hlink : Cond.methodLink own idx objectInit ∈ Ts) (hinst : Cond.instanceMethod objectInit ∈ Ts) (hcode : Cond.code objectInit ⟨#[0xb1]⟩ 1 none ∈ Ts) (hvl : vs.length = nL) (hd : decode cc pc = .ok (.invokespecial idx, 3)) (hframes : 1 ≤ R.frames) (hlocals : (st.map fun v => v.category).sum + 12 ≤ R.locals) (k : XW p l e R s m args below meth c Q D cl B (pc + 3) (vs) (st) (G) (cells) (slots)) : XW p l e R s m args below meth c Q D cl B (pc) (vs) (.ref a :: st) (G) (cells) (slots) := fun H locs ls hP hS hl => W.objInit C.hx C.hb C.hown (C.hts _ hlink) (C.hts _ hinst) (C.hts _ hcode) rfl (by rw [show (F0 m pc ls _).locals.size = ls.size from rfl, hl.1, C.hml]; exact hvl) rfl hd hframes (by show 2 * 0 + (st.map fun v => v.category).sum + 12 ≤ R.locals; omega) (k H locs ls hP hS hl)
theorem x_gets (C : XC p s m args meth c cc nL own Ts D cl tys B Z ret) {index : Nat} {Cn n d : String} {v : Value} (hz : ∀ U : State, Z U → va_Z Cn n d v (xw_A B) U U.heap) (hlink : Cond.fieldLink own index Cn n d ∈ Ts) (hd : decode cc pc = .ok (.getstatic index, 3)) (k : XW p l e R s m args below meth c Q D cl B (pc + 3) (vs) (v :: st) (G) (cells) (slots)) : XW p l e R s m args below meth c Q D cl B (pc) (vs) (st) (G) (cells) (slots) := fun H locs ls hP hS hl => va_gets C.hx C.hb (hz s C.hZ) hS C.hown (C.hts _ hlink) (fun _ h => h) hd (k H locs ls hP hS hl)
theorem x_ldcM (C : XC p s m args meth c cc nL own Ts D cl tys B Z ret) {index mi : Nat} {Cn : String} (hz : ∀ U : State, Z U → va_Mi Cn mi U) (hlink : Cond.classLink own index Cn ∈ Ts) (hd : decode cc pc = .ok (.ldc index, 2)) (k : XW p l e R s m args below meth c Q D cl B (pc + 2) (vs) (.ref mi :: st) (G) (cells) (slots)) : XW p l e R s m args below meth c Q D cl B (pc) (vs) (st) (G) (cells) (slots) := fun H locs ls hP hS hl => va_ldcM C.hx C.hb C.hown (C.hts _ hlink) (hz s C.hZ) hd (k H locs ls hP hS hl)
theorem x_tswIn (C : XC p s m args meth c cc nL own Ts D cl tys B Z ret) {dflt lo hi : Int} {offs : Array Int} {len : Nat} {x : Int32} {off : Int} (tgt : Nat) (hd : decode cc pc = .ok (.tableswitch dflt lo hi offs, len)) (h1 : ¬ x.toInt < lo) (h2 : ¬ hi < x.toInt) (ho : offs[(x.toInt - lo).toNat]? = some off) (ht : (pc : Int) + off = (tgt : Int)) (k : XW p l e R s m args below meth c Q D cl B (tgt) (vs) (st) (G) (cells) (slots)) : XW p l e R s m args below meth c Q D cl B (pc) (vs) (.int x :: st) (G) (cells) (slots) := fun H locs ls hP hS hl => lv_tableIn C.hx C.hb hd h1 h2 ho ht (k H locs ls hP hS hl)
theorem x_tswOut (C : XC p s m args meth c cc nL own Ts D cl tys B Z ret) {dflt lo hi : Int} {offs : Array Int} {len : Nat} {x : Int32} (tgt : Nat) (hd : decode cc pc = .ok (.tableswitch dflt lo hi offs, len)) (h : x.toInt < lo ∨ hi < x.toInt) (ht : (pc : Int) + dflt = (tgt : Int)) (k : XW p l e R s m args below meth c Q D cl B (tgt) (vs) (st) (G) (cells) (slots)) : XW p l e R s m args below meth c Q D cl B (pc) (vs) (.int x :: st) (G) (cells) (slots) := fun H locs ls hP hS hl => lv_tableOut C.hx C.hb hd h ht (k H locs ls hP hS hl)
theorem x_copyq (C : XC p s m args meth c cc nL own Ts D cl tys B Z ret) {index a a0 n0 n1 : Nat} {c0 c1 : ClassId} {f g : Nat → Option Nat} {E0 E1 : String} {sp dp n : Int32} (hG0 : G a0 = some (.inl (c0, n0, .inr (.inr (.inr (.inr f)))))) (hG1 : G a = some (.inl (c1, n1, .inr (.inr (.inr (.inr g)))))) (hB0 : 0 < n0) (hB1 : 0 < n1) (t0 t1 : Nat) (ht0 : tys[t0]? = some (c0, .object E0)) (ht1 : tys[t1]? = some (c1, .object E1)) (h1 : ¬ sp < 0) (h2 : ¬ dp < 0) (h3 : ¬ n < 0) (h4 : sp.toNatClampNeg + n.toNatClampNeg ≤ n0) (h5 : dp.toNatClampNeg + n.toNatClampNeg ≤ n1)
    (hel : ∀ i : Nat, i < n.toNatClampNeg → ∀ y : Nat, f (sp.toNatClampNeg + i) = some y → ∃ (ci N : Nat) (Cn : String) (T : u_T) (fs : List Value), G y = some (.inr (ci, fs)) ∧ cl[ci]? = some (Cn, T, N) ∧ ∀ U : State, Z U → va_Nw (.castable Cn E1) U)
    (hlink : Cond.methodLink own index arraycopyName ∈ Ts) (hnat : Cond.native arraycopyName ∈ Ts) (hstat : Cond.static arraycopyName ∈ Ts) (hini : Cond.initialized "java/lang/System" ∈ Ts) (hvl : vs.length = nL) (hframes : 1 ≤ R.frames) (hlocals : (st.map fun v => v.category).sum + (nativeFrameWords "java/lang/System" "arraycopy" 5 + 11) ≤ R.locals) (hd : decode cc pc = .ok (.invokestatic index, 3))
    (k : XW p l e R s m args below meth c Q D cl B (pc + 3) (vs) (st) (va_up G a (some (.inl (c1, n1, .inr (.inr (.inr (.inr (va_cpy f g sp.toNatClampNeg dp.toNatClampNeg n.toNatClampNeg)))))))) (cells) (slots)) : XW p l e R s m args below meth c Q D cl B (pc) (vs) (.int n :: .int dp :: .ref a :: .int sp :: .ref a0 :: st) (G) (cells) (slots) := by
  intro H locs ls hP hS hl
  refine xw_writeF (Wx := fun H1 locs1 => W p l e R s m args below meth c H1 locs1 cells slots Q (F0 m (pc + 3) ls st)) hP hS C.hB hG1 (xw_Ba hP hG1 hB1) (fun ws j hPw hDw hj hfind kx => ?_) (fun H1 locs1 hP1 hS1 => k H1 locs1 ls hP1 hS1 hl)
  obtain ⟨j0, hj0⟩ := hfind a0 _ hG0 (xw_Ba hP hG0 hB0)
  refine va_copyM C.hx C.hb (by rw [hl.1, C.hml]; exact hvl.symm) C.hown (C.hts _ hlink) (C.hts _ hnat) (C.hts _ hstat) (C.hts _ hini) C.hK hPw hDw hS j0 j t0 t1 hj0 hj ht0 ht1 h1 h2 h3 h4 h5 (fun i hi y hy => ?_) hframes hlocals hd kx
  obtain ⟨ci, N, Cn, T, fs, g1, g2, g3⟩ := hel i hi y hy
  exact va_rAny (r := (Cn, T, N)) C.hK (xw_one (hP _ _ g1).1) (q0 := 0) rfl g2 (fun comp c0 h1 h2 => vb_asgC (g3 s C.hZ) comp c0 h1 h2)
end XWR
end
section
/-! STATE: what is fixed for all contracts (xE: the tables' numbers, the base B of the new cells, the empty array of ArrayList, the mirror of Object[]), the cells of the classes, booleans -/
abbrev xE : Type := va_G × (ClassId × ClassId × ClassId × ClassId) × (Nat × Nat × Nat)
abbrev xD (E : xE) : va_G := E.1
abbrev xO (E : xE) : ClassId := E.2.1.1
abbrev xI (E : xE) : ClassId := E.2.1.2.1
abbrev xZ (E : xE) : ClassId := E.2.1.2.2.1
abbrev xJ (E : xE) : ClassId := E.2.1.2.2.2
abbrev xB (E : xE) : Nat := E.2.2.1
abbrev xaE (E : xE) : Nat := E.2.2.2.1
abbrev xmi (E : xE) : Nat := E.2.2.2.2
abbrev xtys (E : xE) : List (ClassId × FieldType) := [(xO E, .object "java/lang/Object"), (xI E, .int), (xZ E, .boolean), (xJ E, .long)]
def XZ (E : xE) (U : State) : Prop :=
  va_Z "java/util/ArrayList" "DEFAULTCAPACITY_EMPTY_ELEMENTDATA" "[Ljava/lang/Object;" (.ref (xaE E)) (xw_A (xB E)) U U.heap ∧ va_Mi "[Ljava/lang/Object;" (xmi E) U ∧ va_AO "java/lang/Object" U ∧ va_Dc U ∧
  va_Nw (.methodLinkNest R_KF 50 y_VW_init "KeyedFiles") U ∧ va_Nw (.methodLinkNest R_EN 20 y_KF_isBelow "KeyedFiles") U ∧ va_Nw (.methodLinkNest R_KI 109 y_KF_isBelow "KeyedFiles") U ∧
  va_Nw (.castable R_KI "java/lang/Object") U ∧ va_Nw (.castable R_VW "java/lang/Object") U ∧ va_Nw (.castable R_EN "java/lang/Object") U
theorem XZ_st (E : xE) : xw_St (xB E) (XZ E) := by
  refine ⟨fun u U hv hh h => ?_, fun u U hW hz hk h => ?_⟩
  · have hA : u.vm.Alike U.vm := by rw [hv]; exact Vm.Alike.refl _
    obtain ⟨h1, h2, h3, h4, h5, h6, h7, h8, h9, h10⟩ := h
    exact ⟨(h1.moved hA).kept (fun a _ _ => by rw [hh]), h2.moved hA, h3.moved hA, h4.moved hA, h5.same rfl hv, h6.same rfl hv, h7.same rfl hv, h8.same rfl hv, h9.same rfl hv, h10.same rfl hv⟩
  · have hA := hW.alike
    obtain ⟨h1, h2, h3, h4, h5, h6, h7, h8, h9, h10⟩ := h
    exact ⟨(h1.moved hA).kept (fun a h1 h2 => hk a h1 h2), h2.moved hA, h3.moved hA, h4.moved hA, h5.warmM hW, h6.warmM hW, h7.warmM hW, h8.warmC hW, h9.warmC hW, h10.warmC hW⟩
abbrev XMk (l : Launch) (E : xE) (y : MethodName) (ws : List Cond) (rm : Room) (av : List Value) (G : xw_G) (post : Option Value → xw_G → Prop) (mc ms : Nat) : Prop := XM l y ws rm (xD E) xcl (xtys E) (xB E) (XZ E) av G post mc ms
/-- a truth value as an int -/
def bI (b : Bool) : Int32 := if b then 1 else 0
theorem bI_nar (b : Bool) : narrow .boolean (.int (bI b)) = .int (bI b) := by cases b <;> rfl
theorem bI_fit (b : Bool) : fits .boolean (.int (bI b)) = true := by cases b <;> rfl
theorem bI_0 (b : Bool) : bI b = 0 ↔ b = false := by cases b <;> decide
theorem bI_t : bI true = 1 := rfl
theorem bI_f : bI false = 0 := rfl
-- the cells
abbrev eKF (ix vw : Nat) (op : Bool) (ar sw : Int64) : va_E := .inr (0, [.ref ix, .ref vw, .int (bI op), .long ar, .long sw])
abbrev eEN (fd cm : Int64) (so : Nat) : va_E := .inr (1, [.long fd, .long cm, .ref so])
abbrev eKI (db : Bool) (fr sz : Int32) (en : Nat) (sp : Bool) (lo : Int64) : va_E := .inr (2, [.int (bI db), .int fr, .int sz, .ref en, .int (bI sp), .long lo])
abbrev eST (by' : Int64) (th : Bool) (sw : Int64) : va_E := .inr (3, [.long by', .int (bI th), .long sw])
abbrev eVW (op : Bool) (mo ac kr pl : Int32) (pf pc : Int64) (ae : Bool) (rl : Value) (vr : Int64) (hw : Bool) (pw : Int64) : va_E := .inr (4, [.int (bI op), .int mo, .int ac, .int kr, .int pl, .long pf, .long pc, .int (bI ae), rl, .long vr, .int (bI hw), .long pw])
abbrev eAL (ar : Nat) (n md : Int32) : va_E := .inr (6, [.ref ar, .int n, .int md])
abbrev eOA (E : xE) (cap : Nat) (f : Nat → Option Nat) : va_E := .inl (xO E, cap, .inr (.inr (.inr (.inr f))))
theorem xw_keep {G : xw_G} {a b : Nat} {e e' : va_E} (h : G b = some e) (hne : b ≠ a) : va_up G a (some e') b = some e := by rw [va_up_ne _ _ hne]; exact h
theorem xw_neC {G : xw_G} {a b c1 c2 : Nat} {f1 f2 : List Value} (h1 : G a = some (.inr (c1, f1))) (h2 : G b = some (.inr (c2, f2))) (h : c1 ≠ c2) : a ≠ b := by
  intro e
  subst e
  rw [h1] at h2
  cases h2
  exact h rfl
theorem xw_neA {G : xw_G} {a b c1 : Nat} {f1 : List Value} {x : ClassId × vp_A} (h1 : G a = some (.inr (c1, f1))) (h2 : G b = some (.inl x)) : a ≠ b := by
  intro e
  subst e
  rw [h1] at h2
  cases h2
theorem xw_neF {G : xw_G} {a b : Nat} {e : va_E} (h1 : G a = none) (h2 : G b = some e) : b ≠ a := by
  intro q
  subst q
  rw [h1] at h2
  cases h2
section XWR2
variable {p : Program} {l : Launch} {e : Env} {R : Room} {s : State} {m : MethodId} {args : Array Value} {below : List Frame} {meth : Method} {c : Code} {Q : State → Prop} {D : va_G} {cl : List vw_C} {B : Nat} {cc : ByteArray} {nL : Nat} {own : String} {Ts : List Cond} {tys : List (ClassId × FieldType)} {Z : State → Prop} {ret : Option FieldType} {pc : Nat} {vs : List (Option Value)} {st : List Value} {G : xw_G} {cells slots : Nat}
theorem x_aaloadR (C : XC p s m args meth c cc nL own Ts D cl tys B Z ret) {a n b : Nat} {cA : ClassId} {En : String} {f : Nat → Option Nat} {i : Int32} (hG : G a = some (.inl (cA, n, .inr (.inr (.inr (.inr f)))))) (t0 : Nat) (ht : tys[t0]? = some (cA, .object En)) (hi : vp_in i n) (hf : f i.toNatClampNeg = some b) (hd : decode cc pc = .ok (.aaload, 1)) (k : XW p l e R s m args below meth c Q D cl B (pc + 1) vs (.ref b :: st) G cells slots) : XW p l e R s m args below meth c Q D cl B pc vs (.int i :: .ref a :: st) G cells slots :=
  x_aaload C hG t0 ht hi hd (by rw [hf]; exact k)
end XWR2
section XWR3
variable {p : Program} {l : Launch} {e : Env} {R : Room} {s : State} {m : MethodId} {args : Array Value} {below : List Frame} {meth : Method} {c : Code} {Q : State → Prop} {D : va_G} {cl : List vw_C} {B : Nat} {cc : ByteArray} {nL : Nat} {own : String} {Ts : List Cond} {tys : List (ClassId × FieldType)} {Z : State → Prop} {ret : Option FieldType} {pc : Nat} {vs : List (Option Value)} {st : List Value} {G : xw_G} {cells slots : Nat}
/-- getClass() of an array of objects -/
theorem x_getC (C : XC p s m args meth c cc nL own Ts D cl tys B Z ret) {a n index mi : Nat} {cA : ClassId} {f : Nat → Option Nat} (hG : G a = some (.inl (cA, n, .inr (.inr (.inr (.inr f)))))) (t0 : Nat) (ht : tys[t0]? = some (cA, .object "java/lang/Object")) (hM : ∀ U : State, Z U → va_Mi "[Ljava/lang/Object;" mi U) (hD : ∀ U : State, Z U → va_Dc U)
    (hlink : Cond.methodLink own index ⟨"java/lang/Object", "getClass", "()Ljava/lang/Class;"⟩ ∈ Ts) (hsel : Cond.selects "[Ljava/lang/Object;" ⟨"java/lang/Object", "getClass", "()Ljava/lang/Class;"⟩ ⟨"java/lang/Object", "getClass", "()Ljava/lang/Class;"⟩ ∈ Ts) (hinst : Cond.instanceMethod ⟨"java/lang/Object", "getClass", "()Ljava/lang/Class;"⟩ ∈ Ts) (hnat : Cond.native ⟨"java/lang/Object", "getClass", "()Ljava/lang/Class;"⟩ ∈ Ts)
    (hvl : vs.length = nL) (hframes : 1 ≤ R.frames) (hlocals : (st.map fun v => v.category).sum + 14 ≤ R.locals) (hd : decode cc pc = .ok (.invokevirtual index, 3))
    (k : XW p l e R s m args below meth c Q D cl B (pc + 3) vs (.ref mi :: st) G cells slots) : XW p l e R s m args below meth c Q D cl B pc vs (.ref a :: st) G cells slots := by
  intro H locs ls hP hS hl
  have hc : H[a]? = some (vp_cell cA (n, .inr (.inr (.inr (.inr f))))) := (hP _ _ hG).1
  obtain ⟨_, _, _, _, _, e1⟩ := (C.hK.2 t0 _ ht).2
  refine va_getC (C := "[Ljava/lang/Object;") C.hx C.hb (by rw [hl.1, C.hml]; exact hvl.symm) C.hown (C.hts _ hlink) ((hD s C.hZ).use) (C.hts _ hsel) (C.hts _ hinst) (C.hts _ hnat) (hM s C.hZ) ⟨_, hc, rfl, ?_⟩ hframes hlocals hd (k H locs ls hP hS hl)
  have e2 : "[" ++ (FieldType.object "java/lang/Object").toString = "[Ljava/lang/Object;" := by decide +kernel
  rw [← e2]
  exact e1
end XWR3
/-- an element of a list: an object of one of the classes that lists hold -/
def xw_el (G : xw_G) (y : Nat) : Prop := ∃ (ci : Nat) (fs : List Value), G y = some (.inr (ci, fs)) ∧ (ci = 1 ∨ ci = 2 ∨ ci = 4)
theorem xw_el_cast {E : xE} {G : xw_G} {y : Nat} (h : xw_el G y) : ∃ (ci N : Nat) (Cn : String) (T : u_T) (fs : List Value), G y = some (.inr (ci, fs)) ∧ xcl[ci]? = some (Cn, T, N) ∧ ∀ U : State, XZ E U → va_Nw (.castable Cn "java/lang/Object") U := by
  obtain ⟨ci, fs, h1, rfl | rfl | rfl⟩ := h
  · exact ⟨1, _, _, _, fs, h1, rfl, fun U h => h.2.2.2.2.2.2.2.2.2⟩
  · exact ⟨2, _, _, _, fs, h1, rfl, fun U h => h.2.2.2.2.2.2.2.1⟩
  · exact ⟨4, _, _, _, fs, h1, rfl, fun U h => h.2.2.2.2.2.2.2.2.1⟩
theorem xw_el_up {G : xw_G} {y q : Nat} {e : va_E} (h : xw_el G y) (hq : y ≠ q) : xw_el (va_up G q (some e)) y := by
  obtain ⟨ci, fs, h1, h2⟩ := h
  exact ⟨ci, fs, xw_keep h1 hq, h2⟩
theorem xw_el_fresh {G : xw_G} {y q : Nat} {e : va_E} (h : xw_el G y) (hq : G q = none) : xw_el (va_up G q (some e)) y := by
  obtain ⟨ci, fs, h1, h2⟩ := id h
  exact xw_el_up h (xw_neF hq h1)
theorem x_copyN {p : Program} {l : Launch} {e : Env} {R : Room} {s : State} {m : MethodId} {args : Array Value} {below : List Frame} {meth : Method} {c : Code} {Q : State → Prop} {cc : ByteArray} {nL : Nat} {own : String} {c0' : Cond} {ret : Option FieldType} {pc : Nat} {vs : List (Option Value)} {st : List Value} {G : xw_G} {cells slots : Nat} {E : xE}
    (C : XC p s m args meth c cc nL own (c0' :: XT) (xD E) xcl (xtys E) (xB E) (XZ E) ret) {index a a0 n0 n1 : Nat} {f g : Nat → Option Nat} {sp dp n : Int32} {i j k : Nat} (hG0 : G a0 = some (eOA E n0 f)) (hG1 : G a = some (eOA E n1 g)) (ei : sp = nI i) (ej : dp = nI j) (ek : n = nI k) (hi : i + k ≤ n0) (hj : j + k ≤ n1) (hn0 : n0 < 2 ^ 31) (hn1 : n1 < 2 ^ 31) (hB0 : 0 < n0) (hB1 : 0 < n1)
    (hel : ∀ x : Nat, x < k → ∀ y : Nat, f (i + x) = some y → xw_el G y) (hlink : Cond.methodLink own index arraycopyName ∈ XT) (hvl : vs.length = nL) (hframes : 1 ≤ R.frames) (hlocals : (st.map fun v => v.category).sum + (nativeFrameWords "java/lang/System" "arraycopy" 5 + 11) ≤ R.locals) (hd : decode cc pc = .ok (.invokestatic index, 3))
    (kk : XW p l e R s m args below meth c Q (xD E) xcl (xB E) (pc + 3) vs st (va_up G a (some (eOA E n1 (va_cpy f g i j k)))) cells slots) : XW p l e R s m args below meth c Q (xD E) xcl (xB E) pc vs (.int n :: .int dp :: .ref a :: .int sp :: .ref a0 :: st) G cells slots := by
  subst ei; subst ej; subst ek
  have e1 : (nI i).toNatClampNeg = i := nI_clamp (by omega)
  have e2 : (nI j).toNatClampNeg = j := nI_clamp (by omega)
  have e3 : (nI k).toNatClampNeg = k := nI_clamp (by omega)
  refine x_copyq C hG0 hG1 hB0 hB1 0 0 rfl rfl (nI_pos (by omega)) (nI_pos (by omega)) (nI_pos (by omega)) (by rw [e1, e3]; exact hi) (by rw [e2, e3]; exact hj) (fun x hx y hy => ?_) (List.mem_cons_of_mem _ hlink) (List.mem_cons_of_mem _ kn_SY_arraycopy) (List.mem_cons_of_mem _ ks_SY_arraycopy) (List.mem_cons_of_mem _ kz_SY) hvl hframes hlocals hd (by rw [e1, e2, e3]; exact kk)
  rw [e1] at hy
  rw [e3] at hx
  exact xw_el_cast (hel x hx y hy)
/-- the lengths that a list's array may have -/
def capOK (cap : Nat) : Prop := cap ∈ [0, 10, 15, 22, 33, 49, 73, 109, 163, 244, 366]
theorem capOK_le {c : Nat} (h : capOK c) : c ≤ 366 := by
  simp only [capOK, List.mem_cons, List.not_mem_nil, or_false] at h
  omega
theorem capOK_gr {c : Nat} (h : capOK c) (h3 : c ≤ 300) (h0 : 0 < c) : 10 ≤ c ∧ c ≤ 244 ∧ capOK (c + c / 2) := by
  simp only [capOK, List.mem_cons, List.not_mem_nil, or_false] at h ⊢
  omega
section XWR4
variable {p : Program} {l : Launch} {e : Env} {R : Room} {s : State} {m : MethodId} {args : Array Value} {below : List Frame} {meth : Method} {c : Code} {Q : State → Prop} {D : va_G} {cl : List vw_C} {B : Nat} {cc : ByteArray} {nL : Nat} {own : String} {c0' : Cond} {tys : List (ClassId × FieldType)} {Z : State → Prop} {ret : Option FieldType} {pc : Nat} {vs : List (Option Value)} {st : List Value} {G : xw_G} {cells slots : Nat}
theorem x_mmax (C : XC p s m args meth c cc nL own (c0' :: XT) D cl tys B Z ret) {index : Nat} {x y : Int32} (hlink : Cond.methodLink own index y_MA_max ∈ XT) (hvl : vs.length = nL) (hframes : 1 ≤ R.frames) (hlocals : (st.map fun v => v.category).sum + 13 ≤ R.locals) (hc : cells ≤ R.cells) (hs : slots ≤ R.slots) (hd : decode cc pc = .ok (.invokestatic index, 3)) (k : XW p l e R s m args below meth c Q D cl B (pc + 3) vs (.int (if x < y then y else x) :: st) G cells slots) : XW p l e R s m args below meth c Q D cl B pc vs (.int y :: .int x :: st) G cells slots :=
  fun H locs ls hP hS hl => va_mmax C.hx C.hb (by rw [hl.1, C.hml]; exact hvl.symm) C.hown (C.hts _ (List.mem_cons_of_mem _ hlink)) (C.hts _ (List.mem_cons_of_mem _ ks_MA_max)) (C.hts _ (List.mem_cons_of_mem _ kz_MA)) (C.hts _ (List.mem_cons_of_mem _ kc_MA_max)) hframes hlocals hc hs hd (k H locs ls hP hS hl)
theorem x_mmin (C : XC p s m args meth c cc nL own (c0' :: XT) D cl tys B Z ret) {index : Nat} {x y : Int32} (hlink : Cond.methodLink own index y_MA_min ∈ XT) (hvl : vs.length = nL) (hframes : 1 ≤ R.frames) (hlocals : (st.map fun v => v.category).sum + 13 ≤ R.locals) (hc : cells ≤ R.cells) (hs : slots ≤ R.slots) (hd : decode cc pc = .ok (.invokestatic index, 3)) (k : XW p l e R s m args below meth c Q D cl B (pc + 3) vs (.int (if y < x then y else x) :: st) G cells slots) : XW p l e R s m args below meth c Q D cl B pc vs (.int y :: .int x :: st) G cells slots :=
  fun H locs ls hP hS hl => va_mmin C.hx C.hb (by rw [hl.1, C.hml]; exact hvl.symm) C.hown (C.hts _ (List.mem_cons_of_mem _ hlink)) (C.hts _ (List.mem_cons_of_mem _ ks_MA_min)) (C.hts _ (List.mem_cons_of_mem _ kz_MA)) (C.hts _ (List.mem_cons_of_mem _ kc_MA_min)) hframes hlocals hc hs hd (k H locs ls hP hS hl)
end XWR4
theorem x_alenN {p : Program} {l : Launch} {e : Env} {R : Room} {s : State} {m : MethodId} {args : Array Value} {below : List Frame} {meth : Method} {c : Code} {Q : State → Prop} {D : va_G} {cl : List vw_C} {B : Nat} {cc : ByteArray} {nL : Nat} {own : String} {Ts : List Cond} {tys : List (ClassId × FieldType)} {Z : State → Prop} {ret : Option FieldType} {pc : Nat} {vs : List (Option Value)} {st : List Value} {G : xw_G} {cells slots : Nat}
    (C : XC p s m args meth c cc nL own Ts D cl tys B Z ret) {a n : Nat} {cA : ClassId} {x : (Nat → Int32) ⊕ (Nat → Int64) ⊕ (Nat → UInt32) ⊕ (Nat → UInt64) ⊕ (Nat → Option Nat)} {ty : FieldType} (hG : G a = some (.inl (cA, n, x))) (t0 : Nat) (ht : tys[t0]? = some (cA, ty)) (hd : decode cc pc = .ok (.arraylength, 1)) (k : XW p l e R s m args below meth c Q D cl B (pc + 1) vs (.int (nI n) :: st) G cells slots) : XW p l e R s m args below meth c Q D cl B pc vs (.ref a :: st) G cells slots := x_alen C hG t0 ht hd k
end
section
set_option maxRecDepth 100000 in
set_option maxHeartbeats 4000000 in
theorem q_AL_size (l : Launch) (E : xE) {G : xw_G} {h0 ar : Nat} {n md : Int32} (hL : G h0 = some (eAL ar n md)) : XMk l E y_AL_size w_AL_size rm_AL_size [.ref h0] G (fun r G' => r = some (.int n) ∧ G = G') 0 0 := by
  refine XM_of [some (.ref h0)] (XZ_st E) (by decide) rfl rfl rfl (Nat.le_of_ble_eq_true rfl) (fun p e s m below meth c C hnm => ?_)
  refine x_aload_n C d_AL_size_0 rfl rfl ?_
  refine x_get C hL rfl (in_AL _) 1 (by decide) (List.mem_cons_of_mem _ f_AL_48) rfl d_AL_size_1 ?_
  exact x_iret C (Nat.le_of_ble_eq_true rfl) (Nat.le_of_ble_eq_true rfl) d_AL_size_4 ⟨rfl, rfl⟩
set_option maxRecDepth 100000 in
set_option maxHeartbeats 4000000 in
theorem q_AL_isEmpty (l : Launch) (E : xE) {G : xw_G} {h0 ar : Nat} {n md : Int32} (hL : G h0 = some (eAL ar n md)) : XMk l E y_AL_isEmpty w_AL_isEmpty rm_AL_isEmpty [.ref h0] G (fun r G' => r = some (.int (bI (decide (n = 0)))) ∧ G = G') 0 0 := by
  refine XM_of [some (.ref h0)] (XZ_st E) (by decide) rfl rfl rfl (Nat.le_of_ble_eq_true rfl) (fun p e s m below meth c C hnm => ?_)
  refine x_aload_n C d_AL_isEmpty_0 rfl rfl ?_
  refine x_get C hL rfl (in_AL _) 1 (by decide) (List.mem_cons_of_mem _ f_AL_48) rfl d_AL_isEmpty_1 ?_
  refine x_if_ne C 11 d_AL_isEmpty_4 (by decide) (fun c_4 => ?_) (fun c_4 => ?_)
  · refine x_iconst C (v := 0) d_AL_isEmpty_11 (by decide) ?_
    exact x_zret C rfl (Nat.le_of_ble_eq_true rfl) (Nat.le_of_ble_eq_true rfl) d_AL_isEmpty_12 ⟨by simp [bI, c_4], rfl⟩
  · refine x_iconst C (v := 1) d_AL_isEmpty_7 (by decide) ?_
    refine x_goto C 12 d_AL_isEmpty_8 (by decide) ?_
    exact x_zret C rfl (Nat.le_of_ble_eq_true rfl) (Nat.le_of_ble_eq_true rfl) d_AL_isEmpty_12 ⟨by simp [bI, c_4], rfl⟩
set_option maxRecDepth 100000 in
set_option maxHeartbeats 4000000 in
theorem q_PC_checkIndex (l : Launch) (E : xE) {G : xw_G} {i n : Int32} (h0 : ¬ i < 0) (h1 : i < n) : XMk l E y_PC_checkIndex w_PC_checkIndex rm_PC_checkIndex [.int (i), .int (n), .null] G (fun r G' => r = some (.int i) ∧ G = G') 0 0 := by
  refine XM_of [some (.int (i)), some (.int (n)), some (.null)] (XZ_st E) (by decide) rfl rfl rfl (Nat.le_of_ble_eq_true rfl) (fun p e s m below meth c C hnm => ?_)
  refine x_iload_n C d_PC_checkIndex_0 rfl rfl ?_
  refine x_if_lt C 9 d_PC_checkIndex_1 (by decide) (fun c_1 => ?_) (fun c_1 => ?_)
  · exact absurd c_1 h0
  · refine x_iload_n C d_PC_checkIndex_4 rfl rfl ?_
    refine x_iload_n C d_PC_checkIndex_5 rfl rfl ?_
    refine x_icmp_lt C 16 d_PC_checkIndex_6 (by decide) (fun c_6 => ?_) (fun c_6 => ?_)
    · refine x_iload_n C d_PC_checkIndex_16 rfl rfl ?_
      exact x_iret C (Nat.le_of_ble_eq_true rfl) (Nat.le_of_ble_eq_true rfl) d_PC_checkIndex_17 ⟨rfl, rfl⟩
    · exact absurd h1 c_6
set_option maxRecDepth 100000 in
set_option maxHeartbeats 4000000 in
theorem q_OJ_checkIndex (l : Launch) (E : xE) {G : xw_G} {i n : Int32} (h0 : ¬ i < 0) (h1 : i < n) : XMk l E y_OJ_checkIndex w_OJ_checkIndex rm_OJ_checkIndex [.int (i), .int (n)] G (fun r G' => r = some (.int i) ∧ G = G') 0 0 := by
  refine XM_of [some (.int (i)), some (.int (n))] (XZ_st E) (by decide) rfl rfl rfl (Nat.le_of_ble_eq_true rfl) (fun p e s m below meth c C hnm => ?_)
  refine x_iload_n C d_OJ_checkIndex_0 rfl rfl ?_
  refine x_iload_n C d_OJ_checkIndex_1 rfl rfl ?_
  refine x_null C d_OJ_checkIndex_2 ?_
  refine x_callS3 C (q_PC_checkIndex l E (G := G) h0 h1) (lk_OJ_105 C.hts (Nat.le_of_ble_eq_true rfl) (Nat.le_of_ble_eq_true rfl)) rfl d_OJ_checkIndex_3 (Nat.le_of_ble_eq_true rfl) (Nat.le_of_ble_eq_true rfl) (Nat.le_of_ble_eq_true rfl) (fun r G' h => ?_)
  obtain ⟨rfl, rfl⟩ := h
  exact x_iret C (Nat.le_of_ble_eq_true rfl) (Nat.le_of_ble_eq_true rfl) d_OJ_checkIndex_6 ⟨rfl, rfl⟩
set_option maxRecDepth 100000 in
set_option maxHeartbeats 4000000 in
theorem q_AL_elementData (l : Launch) (E : xE) {G : xw_G} {h0 ar cap a : Nat} {n md i : Int32} {f : Nat → Option Nat} (hL : G h0 = some (eAL ar n md)) (hA : G ar = some (eOA E cap f)) (hi : vp_in i cap) (hf : f i.toNatClampNeg = some a) : XMk l E y_AL_elementData w_AL_elementData rm_AL_elementData [.ref h0, .int (i)] G (fun r G' => r = some (.ref a) ∧ G = G') 0 0 := by
  refine XM_of [some (.ref h0), some (.int (i))] (XZ_st E) (by decide) rfl rfl rfl (Nat.le_of_ble_eq_true rfl) (fun p e s m below meth c C hnm => ?_)
  refine x_aload_n C d_AL_elementData_0 rfl rfl ?_
  refine x_get C hL rfl (in_AL _) 0 (by decide) (List.mem_cons_of_mem _ f_AL_9) rfl d_AL_elementData_1 ?_
  refine x_iload_n C d_AL_elementData_4 rfl rfl ?_
  refine x_aaloadR C hA 0 rfl hi hf d_AL_elementData_5 ?_
  exact x_aret C (Or.inl ⟨_, rfl⟩) (Or.inr ⟨_, rfl⟩) (Nat.le_of_ble_eq_true rfl) (Nat.le_of_ble_eq_true rfl) d_AL_elementData_6 ⟨rfl, rfl⟩
set_option maxRecDepth 100000 in
set_option maxHeartbeats 4000000 in
theorem q_AL_get (l : Launch) (E : xE) {G : xw_G} {h0 ar cap a : Nat} {n md i : Int32} {f : Nat → Option Nat} (hL : G h0 = some (eAL ar n md)) (hA : G ar = some (eOA E cap f)) (h1 : ¬ i < 0) (h2 : i < n) (hi : vp_in i cap) (hf : f i.toNatClampNeg = some a) : XMk l E y_AL_get w_AL_get rm_AL_get [.ref h0, .int (i)] G (fun r G' => r = some (.ref a) ∧ G = G') 0 0 := by
  refine XM_of [some (.ref h0), some (.int (i))] (XZ_st E) (by decide) rfl rfl rfl (Nat.le_of_ble_eq_true rfl) (fun p e s m below meth c C hnm => ?_)
  refine x_iload_n C d_AL_get_0 rfl rfl ?_
  refine x_aload_n C d_AL_get_1 rfl rfl ?_
  refine x_get C hL rfl (in_AL _) 1 (by decide) (List.mem_cons_of_mem _ f_AL_48) rfl d_AL_get_2 ?_
  refine x_callS2 C (q_OJ_checkIndex l E (G := G) h1 h2) (lk_AL_118 C.hts (Nat.le_of_ble_eq_true rfl) (Nat.le_of_ble_eq_true rfl)) rfl d_AL_get_5 (Nat.le_of_ble_eq_true rfl) (Nat.le_of_ble_eq_true rfl) (Nat.le_of_ble_eq_true rfl) (fun r G' h => ?_)
  obtain ⟨rfl, rfl⟩ := h
  refine x_pop C d_AL_get_8 rfl ?_
  refine x_aload_n C d_AL_get_9 rfl rfl ?_
  refine x_iload_n C d_AL_get_10 rfl rfl ?_
  refine x_callV1 C (q_AL_elementData l E (G := G) hL hA hi hf) (lk_AL_123 C.hts (Nat.le_of_ble_eq_true rfl) (Nat.le_of_ble_eq_true rfl)) hL rfl rfl d_AL_get_11 (Nat.le_of_ble_eq_true rfl) (Nat.le_of_ble_eq_true rfl) (Nat.le_of_ble_eq_true rfl) (fun r G' h => ?_)
  obtain ⟨rfl, rfl⟩ := h
  exact x_aret C (Or.inl ⟨_, rfl⟩) (Or.inr ⟨_, rfl⟩) (Nat.le_of_ble_eq_true rfl) (Nat.le_of_ble_eq_true rfl) d_AL_get_14 ⟨rfl, rfl⟩
set_option maxRecDepth 100000 in
set_option maxHeartbeats 4000000 in
theorem q_AC_init (l : Launch) (E : xE) {G : xw_G} {h0 : Nat} : XMk l E y_AC_init w_AC_init rm_AC_init [.ref h0] G (fun r G' => r = none ∧ G = G') 0 0 := by
  refine XM_of [some (.ref h0)] (XZ_st E) (by decide) rfl rfl rfl (Nat.le_of_ble_eq_true rfl) (fun p e s m below meth c C hnm => ?_)
  refine x_aload_n C d_AC_init_0 rfl rfl ?_
  refine x_objInit C (List.mem_cons_of_mem _ m_AC_1) (List.mem_cons_of_mem _ ki_OB_init) (List.mem_cons_of_mem _ kc_OB_init) rfl d_AC_init_1 (Nat.le_of_ble_eq_true rfl) (Nat.le_of_ble_eq_true rfl) ?_
  exact x_vret C (Nat.le_of_ble_eq_true rfl) (Nat.le_of_ble_eq_true rfl) d_AC_init_4 ⟨rfl, rfl⟩
set_option maxRecDepth 100000 in
set_option maxHeartbeats 4000000 in
theorem q_AB_init (l : Launch) (E : xE) {G : xw_G} {h0 : Nat} {v0 : Value} {n md : Int32} (hL : G h0 = some (.inr (6, [v0, .int n, .int md]))) : XMk l E y_AB_init w_AB_init rm_AB_init [.ref h0] G (fun r G' => r = none ∧ G' = va_up G h0 (some (.inr (6, [v0, .int n, .int 0])))) 0 0 := by
  refine XM_of [some (.ref h0)] (XZ_st E) (by decide) rfl rfl rfl (Nat.le_of_ble_eq_true rfl) (fun p e s m below meth c C hnm => ?_)
  refine x_aload_n C d_AB_init_0 rfl rfl ?_
  refine x_callI0 C (q_AC_init l E (G := G)) (lk_AB_1 C.hts (Nat.le_of_ble_eq_true rfl) (Nat.le_of_ble_eq_true rfl)) rfl d_AB_init_1 (Nat.le_of_ble_eq_true rfl) (Nat.le_of_ble_eq_true rfl) (Nat.le_of_ble_eq_true rfl) (fun r G' h => ?_)
  obtain ⟨rfl, rfl⟩ := h
  refine x_aload_n C d_AB_init_4 rfl rfl ?_
  refine x_iconst C (v := 0) d_AB_init_5 (by decide) ?_
  refine x_put C hL rfl (in_AL _) ty_AL tok_AL nm_AL 2 (by decide) (List.mem_cons_of_mem _ f_AB_7) rfl (tok_AL 2 (by decide)) rfl rfl (Nat.le_of_ble_eq_true rfl) d_AB_init_6 ?_
  exact x_vret C (Nat.le_of_ble_eq_true rfl) (Nat.le_of_ble_eq_true rfl) d_AB_init_9 ⟨rfl, rfl⟩
set_option maxRecDepth 100000 in
set_option maxHeartbeats 4000000 in
theorem q_AL_init (l : Launch) (E : xE) {G : xw_G} {h0 : Nat} {v0 : Value} {n md : Int32} (hL : G h0 = some (.inr (6, [v0, .int n, .int md]))) : XMk l E y_AL_init w_AL_init rm_AL_init [.ref h0] G (fun r G' => r = none ∧ G' = va_up G h0 (some (eAL (xaE E) n 0))) 0 0 := by
  refine XM_of [some (.ref h0)] (XZ_st E) (by decide) rfl rfl rfl (Nat.le_of_ble_eq_true rfl) (fun p e s m below meth c C hnm => ?_)
  refine x_aload_n C d_AL_init_0 rfl rfl ?_
  refine x_callI0 C (q_AB_init l E (G := G) hL) (lk_AL_1 C.hts (Nat.le_of_ble_eq_true rfl) (Nat.le_of_ble_eq_true rfl)) rfl d_AL_init_1 (Nat.le_of_ble_eq_true rfl) (Nat.le_of_ble_eq_true rfl) (Nat.le_of_ble_eq_true rfl) (fun r G' h => ?_)
  obtain ⟨rfl, rfl⟩ := h
  refine x_aload_n C d_AL_init_4 rfl rfl ?_
  refine x_gets C (fun U h => h.1) (List.mem_cons_of_mem _ f_AL_39) d_AL_init_5 ?_
  refine x_put2 C rfl (in_AL _) ty_AL tok_AL nm_AL 0 (by decide) (List.mem_cons_of_mem _ f_AL_9) rfl (tok_AL 0 (by decide)) rfl rfl (Nat.le_of_ble_eq_true rfl) d_AL_init_8 ?_
  exact x_vret C (Nat.le_of_ble_eq_true rfl) (Nat.le_of_ble_eq_true rfl) d_AL_init_11 ⟨rfl, rfl⟩
end
section
set_option maxRecDepth 100000 in
set_option maxHeartbeats 4000000 in
theorem q_AS_newLength (l : Launch) (E : xE) {G : xw_G} {a b d z : Int32} (hr : a + (if b < d then d else b) = z) (h0 : ¬ z ≤ 0) (h1 : ¬ 2147483639 < z) : XMk l E y_AS_newLength w_AS_newLength rm_AS_newLength [.int (a), .int (b), .int (d)] G (fun r G' => r = some (.int z) ∧ G = G') 0 0 := by
  refine XM_of [some (.int (a)), some (.int (b)), some (.int (d)), none] (XZ_st E) (by decide) rfl rfl rfl (Nat.le_of_ble_eq_true rfl) (fun p e s m below meth c C hnm => ?_)
  refine x_iload_n C d_AS_newLength_0 rfl rfl ?_
  refine x_iload_n C d_AS_newLength_1 rfl rfl ?_
  refine x_iload_n C d_AS_newLength_2 rfl rfl ?_
  refine x_mmax C m_AS_194 rfl (Nat.le_of_ble_eq_true rfl) (Nat.le_of_ble_eq_true rfl) (Nat.le_of_ble_eq_true rfl) (Nat.le_of_ble_eq_true rfl) d_AS_newLength_3 ?_
  refine x_iadd C d_AS_newLength_6 ?_
  rw [hr]
  refine x_istore_n C d_AS_newLength_7 rfl (Nat.le_of_ble_eq_true rfl) rfl ?_
  refine x_iconst C (v := 0) d_AS_newLength_8 (by decide) ?_
  refine x_iload_n C d_AS_newLength_9 rfl rfl ?_
  refine x_icmp_ge C 21 d_AS_newLength_10 (by decide) (fun c_10 => ?_) (fun c_10 => ?_)
  · exact absurd c_10 h0
  · refine x_iload_n C d_AS_newLength_13 rfl rfl ?_
    refine x_ldc C d_AS_newLength_14 (List.mem_cons_of_mem _ kl_AS_200) ?_
    refine x_icmp_gt C 21 d_AS_newLength_16 (by decide) (fun c_16 => ?_) (fun c_16 => ?_)
    · exact absurd c_16 h1
    · refine x_iload_n C d_AS_newLength_19 rfl rfl ?_
      exact x_iret C (Nat.le_of_ble_eq_true rfl) (Nat.le_of_ble_eq_true rfl) d_AS_newLength_20 ⟨rfl, rfl⟩
set_option maxRecDepth 100000 in
set_option maxHeartbeats 4000000 in
theorem q_AR_copyOf3 (l : Launch) (E : xE) {G : xw_G} {ar cap cap' : Nat} {f : Nat → Option Nat} (hA : G ar = some (eOA E cap f)) (h0 : 0 < cap) (h1 : cap ≤ cap') (h2 : cap' ≤ 366) (hel : ∀ i : Nat, i < cap → ∀ y : Nat, f i = some y → xw_el G y) : XMk l E y_AR_copyOf3 w_AR_copyOf3 rm_AR_copyOf3 [.ref ar, .int (nI cap'), .ref (xmi E)] G (fun r G' => ∃ q : Nat, G q = none ∧ xB E ≤ q ∧ r = some (.ref q) ∧ G' = va_up G q (some (eOA E cap' (va_cpy f (fun _ => none) 0 0 cap)))) 1 366 := by
  refine XM_of [some (.ref ar), some (.int (nI cap')), some (.ref (xmi E)), none] (XZ_st E) (by decide) rfl rfl rfl (Nat.le_of_ble_eq_true rfl) (fun p e s m below meth c C hnm => ?_)
  refine x_aload_n C d_AR_copyOf3_0 rfl rfl ?_
  refine x_ldcM C (fun U h => h.2.1) (List.mem_cons_of_mem _ cl_AR_110) d_AR_copyOf3_1 ?_
  refine x_acmp_ne C (rx := some (xmi E)) (ry := some (xmi E)) 13 d_AR_copyOf3_3 (by decide) (fun c_3 => ?_) (fun c_3 => ?_)
  · exact absurd rfl c_3
  · refine x_iload_n C d_AR_copyOf3_6 rfl rfl ?_
    refine x_anewa C 0 rfl (List.mem_cons_of_mem _ cl_AR_2) (nI_pos (by omega)) (nI_clamp (by omega)) (by omega) (Nat.le_of_ble_eq_true rfl) (show 0 + cap' ≤ 366 by omega) d_AR_copyOf3_7 (fun U h => h.2.2.1) (fun q hq hBq => ?_)
    refine XW.wid (cells := 1) (slots := 366) ?_ (Nat.le_refl _) (show 0 + cap' ≤ 366 by omega)
    have hA1 : va_up G q (some (eOA E cap' (fun _ => none))) ar = some (eOA E cap f) := xw_keep hA (xw_neF hq hA)
    refine x_goto C 24 d_AR_copyOf3_10 (by decide) ?_
    refine x_astore_n C d_AR_copyOf3_24 rfl (Nat.le_of_ble_eq_true rfl) rfl ?_
    refine x_aload_n C d_AR_copyOf3_25 rfl rfl ?_
    refine x_iconst C (v := 0) d_AR_copyOf3_26 (by decide) ?_
    refine x_aload_n C d_AR_copyOf3_27 rfl rfl ?_
    refine x_iconst C (v := 0) d_AR_copyOf3_28 (by decide) ?_
    refine x_aload_n C d_AR_copyOf3_29 rfl rfl ?_
    refine x_alenN C hA1 0 rfl d_AR_copyOf3_30 ?_
    refine x_iload_n C d_AR_copyOf3_31 rfl rfl ?_
    refine x_mmin C m_AR_304 rfl (Nat.le_of_ble_eq_true rfl) (Nat.le_of_ble_eq_true rfl) (Nat.le_of_ble_eq_true rfl) (Nat.le_of_ble_eq_true rfl) d_AR_copyOf3_32 ?_
    rw [if_neg (show ¬ nI cap' < nI cap from nI_nlt h1 (by omega))]
    refine x_copyN C hA1 (va_up_self _ _ _) nI_0.symm nI_0.symm rfl (by omega) (by omega) (by omega) (by omega) h0 (by omega) (fun x hx y hy => xw_el_fresh (hel x (by omega) y (by rw [Nat.zero_add] at hy; exact hy)) hq) m_AR_150 rfl (Nat.le_of_ble_eq_true rfl) (by decide +kernel) d_AR_copyOf3_35 ?_
    refine x_aload_n C d_AR_copyOf3_38 rfl rfl ?_
    exact x_aret C (Or.inr ⟨_, rfl⟩) (Or.inr ⟨_, rfl⟩) (Nat.le_of_ble_eq_true rfl) (Nat.le_of_ble_eq_true rfl) d_AR_copyOf3_39 ⟨q, hq, hBq, rfl, by rw [bx_uu]⟩
set_option maxRecDepth 100000 in
set_option maxHeartbeats 4000000 in
theorem q_AR_copyOf2 (l : Launch) (E : xE) {G : xw_G} {ar cap cap' : Nat} {f : Nat → Option Nat} (hA : G ar = some (eOA E cap f)) (h0 : 0 < cap) (h1 : cap ≤ cap') (h2 : cap' ≤ 366) (hel : ∀ i : Nat, i < cap → ∀ y : Nat, f i = some y → xw_el G y) : XMk l E y_AR_copyOf2 w_AR_copyOf2 rm_AR_copyOf2 [.ref ar, .int (nI cap')] G (fun r G' => ∃ q : Nat, G q = none ∧ xB E ≤ q ∧ r = some (.ref q) ∧ G' = va_up G q (some (eOA E cap' (va_cpy f (fun _ => none) 0 0 cap)))) 1 366 := by
  refine XM_of [some (.ref ar), some (.int (nI cap'))] (XZ_st E) (by decide) rfl rfl rfl (Nat.le_of_ble_eq_true rfl) (fun p e s m below meth c C hnm => ?_)
  refine x_aload_n C d_AR_copyOf2_0 rfl rfl ?_
  refine x_iload_n C d_AR_copyOf2_1 rfl rfl ?_
  refine x_aload_n C d_AR_copyOf2_2 rfl rfl ?_
  refine x_getC C hA 0 rfl (fun U h => h.2.1) (fun U h => h.2.2.2.1) (List.mem_cons_of_mem _ m_AR_86) (List.mem_cons_of_mem _ kv_OA__OB_getClass) (List.mem_cons_of_mem _ ki_OB_getClass) (List.mem_cons_of_mem _ kn_OB_getClass) rfl (Nat.le_of_ble_eq_true rfl) (Nat.le_of_ble_eq_true rfl) d_AR_copyOf2_3 ?_
  refine x_callS3 C (q_AR_copyOf3 l E hA h0 h1 h2 hel) (lk_AR_300 C.hts (Nat.le_of_ble_eq_true rfl) (Nat.le_of_ble_eq_true rfl)) rfl d_AR_copyOf2_6 (Nat.le_of_ble_eq_true rfl) (Nat.le_of_ble_eq_true rfl) (Nat.le_of_ble_eq_true rfl) (fun r G' h => ?_)
  obtain ⟨q, hq, hBq, rfl, rfl⟩ := h
  exact x_aret C (Or.inr ⟨_, rfl⟩) (Or.inr ⟨_, rfl⟩) (Nat.le_of_ble_eq_true rfl) (Nat.le_of_ble_eq_true rfl) d_AR_copyOf2_9 ⟨q, hq, hBq, rfl, rfl⟩
set_option maxRecDepth 100000 in
set_option maxHeartbeats 4000000 in
theorem q_AL_growI_0 (l : Launch) (E : xE) {G : xw_G} {h0 : Nat} {n md k : Int32} {f : Nat → Option Nat} (hL : G h0 = some (eAL (xaE E) n md)) (hA : G (xaE E) = some (eOA E 0 f)) (hk : ¬ 10 < k) : XMk l E y_AL_growI w_AL_growI rm_AL_growI [.ref h0, .int (k)] G (fun r G' => ∃ q : Nat, G q = none ∧ xB E ≤ q ∧ r = some (.ref q) ∧ G' = va_up (va_up G q (some (eOA E 10 (fun _ => none)))) h0 (some (eAL q n md))) 1 366 := by
  refine XM_of [some (.ref h0), some (.int (k)), none, none] (XZ_st E) (by decide) rfl rfl rfl (Nat.le_of_ble_eq_true rfl) (fun p e s m below meth c C hnm => ?_)
  refine x_aload_n C d_AL_growI_0 rfl rfl ?_
  refine x_get C hL rfl (in_AL _) 0 (by decide) (List.mem_cons_of_mem _ f_AL_9) rfl d_AL_growI_1 ?_
  refine x_alenN C hA 0 rfl d_AL_growI_4 ?_
  refine x_istore_n C d_AL_growI_5 rfl (Nat.le_of_ble_eq_true rfl) rfl ?_
  refine x_iload_n C d_AL_growI_6 rfl rfl ?_
  refine x_if_gt C 20 d_AL_growI_7 (by decide) (fun c_7 => ?_) (fun c_7 => ?_)
  · exact absurd c_7 (show ¬ nI 0 < nI 0 from nI_nlt (Nat.le_refl 0) (by decide))
  · refine x_aload_n C d_AL_growI_10 rfl rfl ?_
    refine x_get C hL rfl (in_AL _) 0 (by decide) (List.mem_cons_of_mem _ f_AL_9) rfl d_AL_growI_11 ?_
    refine x_gets C (fun U h => h.1) (List.mem_cons_of_mem _ f_AL_39) d_AL_growI_14 ?_
    refine x_acmp_eq C (rx := some (xaE E)) (ry := some (xaE E)) 45 d_AL_growI_17 (by decide) (fun c_17 => ?_) (fun c_17 => ?_)
    · refine x_aload_n C d_AL_growI_45 rfl rfl ?_
      refine x_bipush C (v := 10) d_AL_growI_46 (by decide) ?_
      refine x_iload_n C d_AL_growI_48 rfl rfl ?_
      refine x_mmax C m_AL_79 rfl (Nat.le_of_ble_eq_true rfl) (Nat.le_of_ble_eq_true rfl) (Nat.le_of_ble_eq_true rfl) (Nat.le_of_ble_eq_true rfl) d_AL_growI_49 ?_
      rw [if_neg hk]
      refine x_anewa C 0 rfl (List.mem_cons_of_mem _ cl_AL_7) (by decide) rfl (by decide) (Nat.le_of_ble_eq_true rfl) (Nat.le_of_ble_eq_true rfl) d_AL_growI_52 (fun U h => h.2.2.1) (fun q hq hBq => ?_)
      refine XW.wid (cells := 1) (slots := 366) ?_ (Nat.le_refl _) (show 0 + 10 ≤ 366 by omega)
      have hL1 : va_up G q (some (eOA E 10 (fun _ => none))) h0 = some (eAL (xaE E) n md) := xw_keep hL (xw_neF hq hL)
      refine x_dup_x1 C d_AL_growI_55 rfl rfl ?_
      refine x_put C hL1 rfl (in_AL _) ty_AL tok_AL nm_AL 0 (by decide) (List.mem_cons_of_mem _ f_AL_9) rfl (tok_AL 0 (by decide)) rfl rfl (Nat.le_of_ble_eq_true rfl) d_AL_growI_56 ?_
      exact x_aret C (Or.inr ⟨_, rfl⟩) (Or.inr ⟨_, rfl⟩) (Nat.le_of_ble_eq_true rfl) (Nat.le_of_ble_eq_true rfl) d_AL_growI_59 ⟨q, hq, hBq, rfl, rfl⟩
    · exact absurd rfl c_17
theorem al_nl {cap : Nat} (h1 : 10 ≤ cap) (h2 : cap ≤ 244) : nI cap + (if nI (cap + 1) - nI cap < nI cap >>> ((1 : Int32) &&& 31) then nI cap >>> ((1 : Int32) &&& 31) else nI (cap + 1) - nI cap) = nI (cap + cap / 2) := by
  have e1 : nI (cap + 1) - nI cap = nI 1 := by
    rw [pk_sub (by omega), Nat.add_sub_cancel_left]
  have e2 : nI cap >>> ((1 : Int32) &&& 31) = nI (cap / 2) := by
    have k := pk_shrN (n := cap) (by omega) ((1 : Int32) &&& 31) 1 (by decide)
    rw [Nat.pow_one] at k
    exact k
  rw [e1, e2, if_pos (nI_lt (by omega) (by omega)), nI_add]
set_option maxRecDepth 100000 in
set_option maxHeartbeats 4000000 in
theorem q_AL_growI_s (l : Launch) (E : xE) {G : xw_G} {h0 ar cap : Nat} {n md : Int32} {f : Nat → Option Nat} (hL : G h0 = some (eAL ar n md)) (hA : G ar = some (eOA E cap f)) (h1 : 10 ≤ cap) (h2 : cap ≤ 244) (hel : ∀ i : Nat, i < cap → ∀ y : Nat, f i = some y → xw_el G y) : XMk l E y_AL_growI w_AL_growI rm_AL_growI [.ref h0, .int (nI (cap + 1))] G (fun r G' => ∃ q : Nat, G q = none ∧ xB E ≤ q ∧ r = some (.ref q) ∧ G' = va_up (va_up G q (some (eOA E (cap + cap / 2) (va_cpy f (fun _ => none) 0 0 cap)))) h0 (some (eAL q n md))) 1 366 := by
  refine XM_of [some (.ref h0), some (.int (nI (cap + 1))), none, none] (XZ_st E) (by decide) rfl rfl rfl (Nat.le_of_ble_eq_true rfl) (fun p e s m below meth c C hnm => ?_)
  refine x_aload_n C d_AL_growI_0 rfl rfl ?_
  refine x_get C hL rfl (in_AL _) 0 (by decide) (List.mem_cons_of_mem _ f_AL_9) rfl d_AL_growI_1 ?_
  refine x_alenN C hA 0 rfl d_AL_growI_4 ?_
  refine x_istore_n C d_AL_growI_5 rfl (Nat.le_of_ble_eq_true rfl) rfl ?_
  refine x_iload_n C d_AL_growI_6 rfl rfl ?_
  refine x_if_gt C 20 d_AL_growI_7 (by decide) (fun c_7 => ?_) (fun c_7 => ?_)
  · refine x_iload_n C d_AL_growI_20 rfl rfl ?_
    refine x_iload_n C d_AL_growI_21 rfl rfl ?_
    refine x_iload_n C d_AL_growI_22 rfl rfl ?_
    refine x_isub C d_AL_growI_23 ?_
    refine x_iload_n C d_AL_growI_24 rfl rfl ?_
    refine x_iconst C (v := 1) d_AL_growI_25 (by decide) ?_
    refine x_ishr C d_AL_growI_26 ?_
    refine x_callS3 C (q_AS_newLength l E (G := G) (z := nI (cap + cap / 2)) (al_nl h1 h2) (nI_nle (by omega) (by omega)) (show ¬ nI 2147483639 < nI (cap + cap / 2) from nI_nlt (by omega) (by decide))) (lk_AL_73 C.hts (Nat.le_of_ble_eq_true rfl) (Nat.le_of_ble_eq_true rfl)) rfl d_AL_growI_27 (Nat.le_of_ble_eq_true rfl) (Nat.le_of_ble_eq_true rfl) (Nat.le_of_ble_eq_true rfl) (fun r G' h => ?_)
    obtain ⟨rfl, rfl⟩ := h
    refine x_istore_n C d_AL_growI_30 rfl (Nat.le_of_ble_eq_true rfl) rfl ?_
    refine x_aload_n C d_AL_growI_31 rfl rfl ?_
    refine x_aload_n C d_AL_growI_32 rfl rfl ?_
    refine x_get C hL rfl (in_AL _) 0 (by decide) (List.mem_cons_of_mem _ f_AL_9) rfl d_AL_growI_33 ?_
    refine x_iload_n C d_AL_growI_36 rfl rfl ?_
    refine x_callS2 C (q_AR_copyOf2 l E hA (by omega) (by omega) (by omega) hel) (lk_AL_66 C.hts (Nat.le_of_ble_eq_true rfl) (Nat.le_of_ble_eq_true rfl)) rfl d_AL_growI_37 (Nat.le_of_ble_eq_true rfl) (Nat.le_of_ble_eq_true rfl) (Nat.le_of_ble_eq_true rfl) (fun r G' h => ?_)
    obtain ⟨q, hq, hBq, rfl, rfl⟩ := h
    have hL1 : va_up G q (some (eOA E (cap + cap / 2) (va_cpy f (fun _ => none) 0 0 cap))) h0 = some (eAL ar n md) := xw_keep hL (xw_neF hq hL)
    refine x_dup_x1 C d_AL_growI_40 rfl rfl ?_
    refine x_put C hL1 rfl (in_AL _) ty_AL tok_AL nm_AL 0 (by decide) (List.mem_cons_of_mem _ f_AL_9) rfl (tok_AL 0 (by decide)) rfl rfl (Nat.le_of_ble_eq_true rfl) d_AL_growI_41 ?_
    exact x_aret C (Or.inr ⟨_, rfl⟩) (Or.inr ⟨_, rfl⟩) (Nat.le_of_ble_eq_true rfl) (Nat.le_of_ble_eq_true rfl) d_AL_growI_44 ⟨q, hq, hBq, rfl, rfl⟩
  · exact absurd (show nI 0 < nI cap from nI_lt (by omega) (by omega)) c_7
set_option maxRecDepth 100000 in
set_option maxHeartbeats 4000000 in
theorem q_AL_grow0_0 (l : Launch) (E : xE) {G : xw_G} {h0 : Nat} {md : Int32} {f : Nat → Option Nat} (hL : G h0 = some (eAL (xaE E) 0 md)) (hA : G (xaE E) = some (eOA E 0 f)) : XMk l E y_AL_grow0 w_AL_grow0 rm_AL_grow0 [.ref h0] G (fun r G' => ∃ q : Nat, G q = none ∧ xB E ≤ q ∧ r = some (.ref q) ∧ G' = va_up (va_up G q (some (eOA E 10 (fun _ => none)))) h0 (some (eAL q 0 md))) 1 366 := by
  refine XM_of [some (.ref h0)] (XZ_st E) (by decide) rfl rfl rfl (Nat.le_of_ble_eq_true rfl) (fun p e s m below meth c C hnm => ?_)
  refine x_aload_n C d_AL_grow0_0 rfl rfl ?_
  refine x_aload_n C d_AL_grow0_1 rfl rfl ?_
  refine x_get C hL rfl (in_AL _) 1 (by decide) (List.mem_cons_of_mem _ f_AL_48) rfl d_AL_grow0_2 ?_
  refine x_iconst C (v := 1) d_AL_grow0_5 (by decide) ?_
  refine x_iadd C d_AL_grow0_6 ?_
  refine x_callV1 C (q_AL_growI_0 l E (k := 0 + 1) hL hA (by decide)) (lk_AL_69 C.hts (Nat.le_of_ble_eq_true rfl) (Nat.le_of_ble_eq_true rfl)) hL rfl rfl d_AL_grow0_7 (Nat.le_of_ble_eq_true rfl) (Nat.le_of_ble_eq_true rfl) (Nat.le_of_ble_eq_true rfl) (fun r G' h => ?_)
  obtain ⟨q, hq, hBq, rfl, rfl⟩ := h
  exact x_aret C (Or.inr ⟨_, rfl⟩) (Or.inr ⟨_, rfl⟩) (Nat.le_of_ble_eq_true rfl) (Nat.le_of_ble_eq_true rfl) d_AL_grow0_10 ⟨q, hq, hBq, rfl, rfl⟩
set_option maxRecDepth 100000 in
set_option maxHeartbeats 4000000 in
theorem q_AL_grow0_s (l : Launch) (E : xE) {G : xw_G} {h0 ar cap : Nat} {md : Int32} {f : Nat → Option Nat} (hL : G h0 = some (eAL ar (nI cap) md)) (hA : G ar = some (eOA E cap f)) (h1 : 10 ≤ cap) (h2 : cap ≤ 244) (hel : ∀ i : Nat, i < cap → ∀ y : Nat, f i = some y → xw_el G y) : XMk l E y_AL_grow0 w_AL_grow0 rm_AL_grow0 [.ref h0] G (fun r G' => ∃ q : Nat, G q = none ∧ xB E ≤ q ∧ r = some (.ref q) ∧ G' = va_up (va_up G q (some (eOA E (cap + cap / 2) (va_cpy f (fun _ => none) 0 0 cap)))) h0 (some (eAL q (nI cap) md))) 1 366 := by
  refine XM_of [some (.ref h0)] (XZ_st E) (by decide) rfl rfl rfl (Nat.le_of_ble_eq_true rfl) (fun p e s m below meth c C hnm => ?_)
  refine x_aload_n C d_AL_grow0_0 rfl rfl ?_
  refine x_aload_n C d_AL_grow0_1 rfl rfl ?_
  refine x_get C hL rfl (in_AL _) 1 (by decide) (List.mem_cons_of_mem _ f_AL_48) rfl d_AL_grow0_2 ?_
  refine x_iconst C (v := 1) d_AL_grow0_5 (by decide) ?_
  refine x_iadd C d_AL_grow0_6 ?_
  rw [nI_1]
  refine x_callV1 C (q_AL_growI_s l E hL hA h1 h2 hel) (lk_AL_69 C.hts (Nat.le_of_ble_eq_true rfl) (Nat.le_of_ble_eq_true rfl)) hL rfl rfl d_AL_grow0_7 (Nat.le_of_ble_eq_true rfl) (Nat.le_of_ble_eq_true rfl) (Nat.le_of_ble_eq_true rfl) (fun r G' h => ?_)
  obtain ⟨q, hq, hBq, rfl, rfl⟩ := h
  exact x_aret C (Or.inr ⟨_, rfl⟩) (Or.inr ⟨_, rfl⟩) (Nat.le_of_ble_eq_true rfl) (Nat.le_of_ble_eq_true rfl) d_AL_grow0_10 ⟨q, hq, hBq, rfl, rfl⟩
end
section
/-! LISTS: what an ArrayList is (xAL: at h, with its array at ar, it holds xs), what a change of it leaves alone (xFr) -/
theorem XM.mono {l : Launch} {y : MethodName} {ws : List Cond} {rm : Room} {D : va_G} {cl : List vw_C} {tys : List (ClassId × FieldType)} {B : Nat} {Z : State → Prop} {av : List Value} {G : xw_G} {post post' : Option Value → xw_G → Prop} {mc ms : Nat} (h : XM l y ws rm D cl tys B Z av G post mc ms) (hp : ∀ (r : Option Value) (G' : xw_G), post r G' → post' r G') : XM l y ws rm D cl tys B Z av G post' mc ms := by
  intro p e ha hc hk s m args below hf happ hP hK
  obtain ⟨n, o, h1, h2, h3, ⟨⟨r, G', e1, e2, e3⟩, hF⟩, hL⟩ := h p e ha hc hk s m args below hf happ hP hK
  exact ⟨n, o, h1, h2, h3, ⟨⟨r, G', e1, hp r G' e2, e3⟩, hF⟩, hL⟩
def xAL (E : xE) (G : xw_G) (h ar : Nat) (xs : List Nat) : Prop := ∃ (cap : Nat) (md : Int32) (f : Nat → Option Nat), G h = some (eAL ar (nI xs.length) md) ∧ G ar = some (eOA E cap f) ∧ xs.length ≤ cap ∧ capOK cap ∧ (cap = 0 → ar = xaE E) ∧ ∀ i : Nat, i < xs.length → f i = xs[i]?
def xFr (E : xE) (G G' : xw_G) (h ar : Nat) : Prop := ∀ (a : Nat) (e : va_E), G a = some e → a ≠ h → (a = ar → a = xaE E) → G' a = some e
def xEm (E : xE) (G : xw_G) : Prop := ∃ f : Nat → Option Nat, G (xaE E) = some (eOA E 0 f)
theorem xEm_ne {E : xE} {G : xw_G} {ar cap : Nat} {f : Nat → Option Nat} (h : xEm E G) (hA : G ar = some (eOA E cap f)) (h0 : 0 < cap) : ar ≠ xaE E := by
  intro e
  obtain ⟨g, hg⟩ := h
  rw [e, hg] at hA
  cases hA
  exact absurd h0 (Nat.lt_irrefl 0)
/-- the end of a change in place: the array, then the list's own cell -/
theorem al_put {E : xE} {G : xw_G} {h ar cap : Nat} {g : Nat → Option Nat} {md : Int32} {xs : List Nat} (hh : h ≠ ar) (h1 : xs.length ≤ cap) (h2 : capOK cap) (h3 : 0 < cap) (hf : ∀ i : Nat, i < xs.length → g i = xs[i]?) : xAL E (va_up (va_up G ar (some (eOA E cap g))) h (some (eAL ar (nI xs.length) md))) h ar xs :=
  ⟨cap, md, g, va_up_self _ _ _, xw_keep (va_up_self _ _ _) hh.symm, h1, h2, fun e => absurd h3 (by omega), hf⟩
theorem fr_put {E : xE} {G : xw_G} {h ar : Nat} {e1 e2 : Option va_E} (hne : ar ≠ xaE E) : xFr E G (va_up (va_up G ar e1) h e2) h ar := by
  intro a e ha h1 h2
  have h3 : a ≠ ar := fun q => hne (by rw [← q]; exact h2 q)
  rw [va_up_ne _ _ h1, va_up_ne _ _ h3]
  exact ha
theorem fr_new {E : xE} {G : xw_G} {h ar q : Nat} {e0 e1 e2 e3 : Option va_E} (hq : G q = none) : xFr E G (va_up (va_up (va_up (va_up G q e0) h e1) q e2) h e3) h ar := by
  intro a e ha h1 h2
  have h3 : a ≠ q := xw_neF hq ha
  rw [va_up_ne _ _ h1, va_up_ne _ _ h3, va_up_ne _ _ h1, va_up_ne _ _ h3]
  exact ha
theorem xw_el_fr {E : xE} {G G' : xw_G} {h ar y : Nat} (hF : xFr E G G' h ar) {n md : Int32} (hL : G h = some (eAL ar n md)) {cap : Nat} {f : Nat → Option Nat} (hA : G ar = some (eOA E cap f)) (hy : xw_el G y) : xw_el G' y := by
  obtain ⟨ci, fs, h1, h2⟩ := hy
  refine ⟨ci, fs, hF y _ h1 (xw_neC h1 hL (by omega)) (fun q => ?_), h2⟩
  rw [q, hA] at h1
  cases h1
/-- f with x set in at k, over a list -/
theorem al_snoc {f : Nat → Option Nat} {xs : List Nat} {x : Nat} (hf : ∀ i : Nat, i < xs.length → f i = xs[i]?) : ∀ i : Nat, i < (xs ++ [x]).length → va_up f xs.length (some x) i = (xs ++ [x])[i]? := by
  intro i hi
  rw [List.length_append] at hi
  by_cases h : i < xs.length
  · rw [va_up_ne _ _ (by omega), List.getElem?_append_left h]
    exact hf i h
  · have e : i = xs.length := by simp at hi; omega
    subst e
    rw [va_up_self, List.getElem?_append_right (Nat.le_refl _), Nat.sub_self]
    rfl
theorem al_ins {f : Nat → Option Nat} {xs : List Nat} {x k : Nat} (hk : k ≤ xs.length) (hf : ∀ i : Nat, i < xs.length → f i = xs[i]?) : ∀ i : Nat, i < (xs.insertIdx k x).length → va_up (va_cpy f f k (k + 1) (xs.length - k)) k (some x) i = (xs.insertIdx k x)[i]? := by
  intro i hi
  rw [List.length_insertIdx_of_le_length hk] at hi
  rcases Nat.lt_trichotomy i k with h | h | h
  · rw [va_up_ne _ _ (by omega), pk_cpy_out (by omega), List.getElem?_insertIdx_of_lt h]
    exact hf i (by omega)
  · subst h
    rw [va_up_self, List.getElem?_insertIdx_self, if_pos hk]
  · rw [va_up_ne _ _ (by omega), pk_cpy_in (by omega) (by omega), List.getElem?_insertIdx_of_gt h, show k + (i - (k + 1)) = i - 1 by omega]
    exact hf (i - 1) (by omega)
theorem al_del {f : Nat → Option Nat} {xs : List Nat} {k : Nat} (hk : k < xs.length) (hf : ∀ i : Nat, i < xs.length → f i = xs[i]?) : ∀ i : Nat, i < (xs.eraseIdx k).length → va_up (va_cpy f f (k + 1) k (xs.length - 1 - k)) (xs.length - 1) none i = (xs.eraseIdx k)[i]? := by
  intro i hi
  rw [List.length_eraseIdx_of_lt hk] at hi
  rw [va_up_ne _ _ (by omega)]
  by_cases h : i < k
  · rw [pk_cpy_out (by omega), List.getElem?_eraseIdx_of_lt h]
    exact hf i (by omega)
  · rw [pk_cpy_in (by omega) (by omega), List.getElem?_eraseIdx_of_ge (by omega), show k + 1 + (i - k) = i + 1 by omega]
    exact hf (i + 1) (by omega)
theorem q_AL_grow0 (l : Launch) (E : xE) {G : xw_G} {h0 ar cap : Nat} {md : Int32} {f : Nat → Option Nat} (hL : G h0 = some (eAL ar (nI cap) md)) (hA : G ar = some (eOA E cap f)) (hc : capOK cap) (h3 : cap ≤ 300) (hz : cap = 0 → ar = xaE E) (hel : ∀ i : Nat, i < cap → ∀ y : Nat, f i = some y → xw_el G y) :
    XMk l E y_AL_grow0 w_AL_grow0 rm_AL_grow0 [.ref h0] G (fun r G' => ∃ (q cap' : Nat) (f' : Nat → Option Nat), G q = none ∧ xB E ≤ q ∧ r = some (.ref q) ∧ G' = va_up (va_up G q (some (eOA E cap' f'))) h0 (some (eAL q (nI cap) md)) ∧ cap < cap' ∧ capOK cap' ∧ ∀ i : Nat, i < cap → f' i = f i) 1 366 := by
  by_cases h0 : cap = 0
  · have ha := hz h0
    subst ha
    subst h0
    refine (q_AL_grow0_0 l E hL hA).mono ?_
    rintro r G' ⟨q, h1, h2, h3, h4⟩
    exact ⟨q, 10, _, h1, h2, h3, h4, by omega, by simp [capOK], fun i hi => absurd hi (by omega)⟩
  · obtain ⟨g1, g2, g3⟩ := capOK_gr hc h3 (by omega)
    refine (q_AL_grow0_s l E hL hA g1 g2 hel).mono ?_
    rintro r G' ⟨q, h1, h2, h3, h4⟩
    exact ⟨q, cap + cap / 2, _, h1, h2, h3, h4, by omega, g3, fun i hi => by rw [pk_cpy_in (by omega) (by omega)]; congr 1; omega⟩
theorem al_addE {E : xE} {G : xw_G} {h ar cap x : Nat} {f : Nat → Option Nat} {md : Int32} {xs : List Nat} (hh : h ≠ ar) (h1 : xs.length < cap) (h2 : capOK cap) (hf : ∀ i : Nat, i < xs.length → f i = xs[i]?) : xAL E (va_up (va_up G ar (some (eOA E cap (va_up f xs.length (some x))))) h (some (.inr (6, [Value.ref ar, .int (nI xs.length), .int md].set 1 (.int (nI xs.length + 1)))))) h ar (xs ++ [x]) := by
  have e : nI xs.length + 1 = nI (xs ++ [x]).length := by rw [nI_1, List.length_append]; rfl
  rw [e]
  exact al_put hh (by simp; omega) h2 (by omega) (al_snoc hf)
set_option maxRecDepth 100000 in
set_option maxHeartbeats 4000000 in
theorem q_AL_addA (l : Launch) (E : xE) {G : xw_G} {h0 ar x : Nat} {xs : List Nat} (h : xAL E G h0 ar xs) (hx : xw_el G x) (hel : ∀ y ∈ xs, xw_el G y) (hE : xEm E G) (hn : xs.length ≤ 300) : XMk l E y_AL_addA w_AL_addA rm_AL_addA [.ref h0, .ref x, .ref ar, .int (nI xs.length)] G (fun r G' => r = none ∧ ∃ ar' : Nat, (ar' = ar ∨ G ar' = none) ∧ xAL E G' h0 ar' (xs ++ [x]) ∧ xFr E G G' h0 ar) 1 366 := by
  refine XM_of [some (.ref h0), some (.ref x), some (.ref ar), some (.int (nI xs.length))] (XZ_st E) (by decide) rfl rfl rfl (Nat.le_of_ble_eq_true rfl) (fun p e s m below meth c C hnm => ?_)
  obtain ⟨cap, md, f, hL, hA, hc1, hc2, hc3, hf⟩ := h
  have hcl := capOK_le hc2
  refine x_iload_n C d_AL_addA_0 rfl rfl ?_
  refine x_aload_n C d_AL_addA_1 rfl rfl ?_
  refine x_alenN C hA 0 rfl d_AL_addA_2 ?_
  refine x_icmp_ne C 11 d_AL_addA_3 (by decide) (fun c_3 => ?_) (fun c_3 => ?_)
  · have hlt : xs.length < cap := by
      rcases Nat.lt_or_ge xs.length cap with q | q
      · exact q
      · exact absurd (by rw [show xs.length = cap by omega]) c_3
    have hne := xEm_ne hE hA (by omega)
    refine x_aload_n C d_AL_addA_11 rfl rfl ?_
    refine x_iload_n C d_AL_addA_12 rfl rfl ?_
    refine x_aload_n C d_AL_addA_13 rfl rfl ?_
    obtain ⟨ci, N, Cn, T, fs, hGx, hcx, hcast⟩ := xw_el_cast (E := E) hx
    refine x_aastore C hA 0 rfl hGx hcx hcast (vp_in_nI hlt (by omega)) d_AL_addA_14 ?_
    rw [nI_clamp (by omega)]
    have hL1 : va_up G ar (some (eOA E cap (va_up f xs.length (some x)))) h0 = some (eAL ar (nI xs.length) md) := xw_keep hL (xw_neA hL hA)
    refine x_aload_n C d_AL_addA_15 rfl rfl ?_
    refine x_iload_n C d_AL_addA_16 rfl rfl ?_
    refine x_iconst C (v := 1) d_AL_addA_17 (by decide) ?_
    refine x_iadd C d_AL_addA_18 ?_
    refine x_put C hL1 rfl (in_AL _) ty_AL tok_AL nm_AL 1 (by decide) (List.mem_cons_of_mem _ f_AL_48) rfl (tok_AL 1 (by decide)) rfl rfl (Nat.le_of_ble_eq_true rfl) d_AL_addA_19 ?_
    exact x_vret C (Nat.le_of_ble_eq_true rfl) (Nat.le_of_ble_eq_true rfl) d_AL_addA_22 ⟨rfl, ar, Or.inl rfl, al_addE (xw_neA hL hA) hlt hc2 hf, fr_put hne⟩
  · have hk : xs.length = cap := Classical.byContradiction (fun q => absurd c_3 (fun z => q ((nI_eq (by omega) (by omega)).mp z)))
    have hL0 : G h0 = some (eAL ar (nI cap) md) := by rw [← hk]; exact hL
    refine x_aload_n C d_AL_addA_6 rfl rfl ?_
    refine x_callV0 C (q_AL_grow0 l E hL0 hA hc2 (by omega) hc3 (fun i hi y hy => hel y (List.mem_of_getElem? ((hf i (by omega)).symm.trans hy)))) (lk_AL_129 C.hts (Nat.le_of_ble_eq_true rfl) (Nat.le_of_ble_eq_true rfl)) hL rfl rfl d_AL_addA_7 (Nat.le_of_ble_eq_true rfl) (Nat.le_of_ble_eq_true rfl) (Nat.le_of_ble_eq_true rfl) (fun r G' h => ?_)
    obtain ⟨q, cap', f', hq, hBq, rfl, rfl, hlt, hcq, hfq⟩ := h; rw [← hk] at hlt hfq ⊢; have hcl' := capOK_le hcq
    refine x_astore_n C d_AL_addA_10 rfl (Nat.le_of_ble_eq_true rfl) rfl ?_
    have hq2 : va_up (va_up G q (some (eOA E cap' f'))) h0 (some (eAL q (nI xs.length) md)) q = some (eOA E cap' f') := xw_keep (va_up_self _ _ _) (xw_neF hq hL).symm
    refine x_aload_n C d_AL_addA_11 rfl rfl ?_
    refine x_iload_n C d_AL_addA_12 rfl rfl ?_
    refine x_aload_n C d_AL_addA_13 rfl rfl ?_
    obtain ⟨ci, N, Cn, T, fs, hGx, hcx, hcast⟩ := xw_el_cast (E := E) (xw_el_up (xw_el_fresh hx hq) (by obtain ⟨a, b, g1, g2⟩ := id hx; exact xw_neC g1 hL (by omega)))
    refine x_aastore C hq2 0 rfl hGx hcx hcast (vp_in_nI (show xs.length < cap' by omega) (by omega)) d_AL_addA_14 ?_
    rw [nI_clamp (by omega)]
    have hL1 : va_up (va_up (va_up G q (some (eOA E cap' f'))) h0 (some (eAL q (nI xs.length) md))) q (some (eOA E cap' (va_up f' xs.length (some x)))) h0 = some (eAL q (nI xs.length) md) := xw_keep (va_up_self _ _ _) (xw_neF hq hL)
    refine x_aload_n C d_AL_addA_15 rfl rfl ?_
    refine x_iload_n C d_AL_addA_16 rfl rfl ?_
    refine x_iconst C (v := 1) d_AL_addA_17 (by decide) ?_
    refine x_iadd C d_AL_addA_18 ?_
    refine x_put C hL1 rfl (in_AL _) ty_AL tok_AL nm_AL 1 (by decide) (List.mem_cons_of_mem _ f_AL_48) rfl (tok_AL 1 (by decide)) rfl rfl (Nat.le_of_ble_eq_true rfl) d_AL_addA_19 ?_
    exact x_vret C (Nat.le_of_ble_eq_true rfl) (Nat.le_of_ble_eq_true rfl) d_AL_addA_22 ⟨rfl, q, Or.inr hq, al_addE (xw_neF hq hL) (by omega) hcq (fun i hi => (hfq i (by omega)).trans (hf i hi)), fr_new hq⟩
/-- a list's own cell with another modCount -/
theorem al_mod {E : xE} {G : xw_G} {h ar : Nat} {xs : List Nat} {cap : Nat} {md md' : Int32} {f : Nat → Option Nat} (hL : G h = some (eAL ar (nI xs.length) md)) (hA : G ar = some (eOA E cap f)) (h1 : xs.length ≤ cap) (h2 : capOK cap) (h3 : cap = 0 → ar = xaE E) (hf : ∀ i : Nat, i < xs.length → f i = xs[i]?) : xAL E (va_up G h (some (eAL ar (nI xs.length) md'))) h ar xs :=
  ⟨cap, md', f, va_up_self _ _ _, xw_keep hA (xw_neA hL hA).symm, h1, h2, h3, hf⟩
theorem el_mod {G : xw_G} {h ar y : Nat} {n md : Int32} {e : va_E} (hL : G h = some (eAL ar n md)) (hy : xw_el G y) : xw_el (va_up G h (some e)) y := by
  obtain ⟨a, b, g1, g2⟩ := id hy
  exact xw_el_up hy (xw_neC g1 hL (by omega))
theorem em_mod {E : xE} {G : xw_G} {h ar : Nat} {n md : Int32} {e : va_E} (hL : G h = some (eAL ar n md)) (hy : xEm E G) : xEm E (va_up G h (some e)) := by
  obtain ⟨f, hf⟩ := hy
  exact ⟨f, xw_keep hf (xw_neA hL hf).symm⟩
theorem fr_mod {E : xE} {G G' : xw_G} {h ar : Nat} {e : Option va_E} (hF : xFr E (va_up G h e) G' h ar) : xFr E G G' h ar := fun a e0 ha h1 h2 => hF a e0 (by rw [va_up_ne _ _ h1]; exact ha) h1 h2
theorem none_mod {G : xw_G} {h q : Nat} {e : va_E} (hq : va_up G h (some e) q = none) : G q = none := by
  by_cases h0 : q = h
  · subst h0
    rw [va_up_self] at hq
    cases hq
  · rw [va_up_ne _ _ h0] at hq
    exact hq
set_option maxRecDepth 100000 in
set_option maxHeartbeats 4000000 in
theorem q_AL_add1 (l : Launch) (E : xE) {G : xw_G} {h0 ar x : Nat} {xs : List Nat} (h : xAL E G h0 ar xs) (hx : xw_el G x) (hel : ∀ y ∈ xs, xw_el G y) (hE : xEm E G) (hn : xs.length ≤ 300) : XMk l E y_AL_add1 w_AL_add1 rm_AL_add1 [.ref h0, .ref x] G (fun r G' => r = some (.int 1) ∧ ∃ ar' : Nat, (ar' = ar ∨ G ar' = none) ∧ xAL E G' h0 ar' (xs ++ [x]) ∧ xFr E G G' h0 ar) 1 366 := by
  refine XM_of [some (.ref h0), some (.ref x)] (XZ_st E) (by decide) rfl rfl rfl (Nat.le_of_ble_eq_true rfl) (fun p e s m below meth c C hnm => ?_)
  obtain ⟨cap, md, f, hL, hA, hc1, hc2, hc3, hf⟩ := h
  have hcl := capOK_le hc2
  refine x_aload_n C d_AL_add1_0 rfl rfl ?_
  refine x_dup C d_AL_add1_1 rfl ?_
  refine x_getS C hL rfl (in_AL _) 2 (by decide) (List.mem_cons_of_mem _ f_AL_63) (List.mem_cons_of_mem _ kf_AL_modCount) rfl d_AL_add1_2 ?_
  refine x_iconst C (v := 1) d_AL_add1_5 (by decide) ?_
  refine x_iadd C d_AL_add1_6 ?_
  refine x_putS C hL rfl (in_AL _) ty_AL tok_AL nm_AL 2 (by decide) (List.mem_cons_of_mem _ f_AL_63) (List.mem_cons_of_mem _ kf_AL_modCount) rfl (tok_AL 2 (by decide)) rfl rfl (Nat.le_of_ble_eq_true rfl) d_AL_add1_7 ?_
  refine x_aload_n C d_AL_add1_10 rfl rfl ?_
  refine x_aload_n C d_AL_add1_11 rfl rfl ?_
  refine x_aload_n C d_AL_add1_12 rfl rfl ?_
  refine x_get C (va_up_self _ _ _) rfl (in_AL _) 0 (by decide) (List.mem_cons_of_mem _ f_AL_9) rfl d_AL_add1_13 ?_
  refine x_aload_n C d_AL_add1_16 rfl rfl ?_
  refine x_get C (va_up_self _ _ _) rfl (in_AL _) 1 (by decide) (List.mem_cons_of_mem _ f_AL_48) rfl d_AL_add1_17 ?_
  refine x_callV3 C (q_AL_addA l E (G := (va_up G h0 (some (eAL ar (nI xs.length) (md + 1))))) (al_mod hL hA hc1 hc2 hc3 hf) (el_mod hL hx) (fun y hy => el_mod hL (hel y hy)) (em_mod hL hE) hn) (lk_AL_131 C.hts (Nat.le_of_ble_eq_true rfl) (Nat.le_of_ble_eq_true rfl)) (va_up_self _ _ _) rfl rfl d_AL_add1_20 (Nat.le_of_ble_eq_true rfl) (Nat.le_of_ble_eq_true rfl) (Nat.le_of_ble_eq_true rfl) (fun r G' h => ?_)
  obtain ⟨rfl, ar', g1, g2, g3⟩ := h
  refine x_iconst C (v := 1) d_AL_add1_23 (by decide) ?_
  exact x_zret C rfl (Nat.le_of_ble_eq_true rfl) (Nat.le_of_ble_eq_true rfl) d_AL_add1_24 ⟨rfl, ar', g1.imp id none_mod, g2, fr_mod g3⟩
set_option maxRecDepth 100000 in
set_option maxHeartbeats 4000000 in
theorem q_AL_rangeCheckForAdd (l : Launch) (E : xE) {G : xw_G} {h0 ar : Nat} {n md i : Int32} (hL : G h0 = some (eAL ar n md)) (h1 : ¬ n < i) (h2 : 0 ≤ i) : XMk l E y_AL_rangeCheckForAdd w_AL_rangeCheckForAdd rm_AL_rangeCheckForAdd [.ref h0, .int (i)] G (fun r G' => r = none ∧ G = G') 0 0 := by
  refine XM_of [some (.ref h0), some (.int (i))] (XZ_st E) (by decide) rfl rfl rfl (Nat.le_of_ble_eq_true rfl) (fun p e s m below meth c C hnm => ?_)
  refine x_iload_n C d_AL_rangeCheckForAdd_0 rfl rfl ?_
  refine x_aload_n C d_AL_rangeCheckForAdd_1 rfl rfl ?_
  refine x_get C hL rfl (in_AL _) 1 (by decide) (List.mem_cons_of_mem _ f_AL_48) rfl d_AL_rangeCheckForAdd_2 ?_
  refine x_icmp_gt C 12 d_AL_rangeCheckForAdd_5 (by decide) (fun c_5 => ?_) (fun c_5 => ?_)
  · exact absurd c_5 h1
  · refine x_iload_n C d_AL_rangeCheckForAdd_8 rfl rfl ?_
    refine x_if_ge C 25 d_AL_rangeCheckForAdd_9 (by decide) (fun c_9 => ?_) (fun c_9 => ?_)
    · exact x_vret C (Nat.le_of_ble_eq_true rfl) (Nat.le_of_ble_eq_true rfl) d_AL_rangeCheckForAdd_25 ⟨rfl, rfl⟩
    · exact absurd h2 c_9
theorem al_insE {E : xE} {G : xw_G} {h ar cap x k : Nat} {f : Nat → Option Nat} {md : Int32} {xs : List Nat} (hh : h ≠ ar) (h1 : xs.length < cap) (h2 : capOK cap) (hk : k ≤ xs.length) (hf : ∀ i : Nat, i < xs.length → f i = xs[i]?) : xAL E (va_up (va_up G ar (some (eOA E cap (va_up (va_cpy f f k (k + 1) (xs.length - k)) k (some x))))) h (some (.inr (6, [Value.ref ar, .int (nI xs.length), .int md].set 1 (.int (nI xs.length + 1)))))) h ar (xs.insertIdx k x) := by
  have e : nI xs.length + 1 = nI (xs.insertIdx k x).length := by rw [nI_1, List.length_insertIdx_of_le_length hk]
  rw [e]
  exact al_put hh (by rw [List.length_insertIdx_of_le_length hk]; omega) h2 (by omega) (al_ins hk hf)
set_option maxRecDepth 100000 in
set_option maxHeartbeats 4000000 in
theorem q_AL_addI (l : Launch) (E : xE) {G : xw_G} {h0 ar x k : Nat} {xs : List Nat} (hk : k ≤ xs.length) (h : xAL E G h0 ar xs) (hx : xw_el G x) (hel : ∀ y ∈ xs, xw_el G y) (hE : xEm E G) (hn : xs.length ≤ 300) : XMk l E y_AL_addI w_AL_addI rm_AL_addI [.ref h0, .int (nI k), .ref x] G (fun r G' => r = none ∧ ∃ ar' : Nat, (ar' = ar ∨ G ar' = none) ∧ xAL E G' h0 ar' (xs.insertIdx k x) ∧ xFr E G G' h0 ar) 1 366 := by
  refine XM_of [some (.ref h0), some (.int (nI k)), some (.ref x), none, none] (XZ_st E) (by decide) rfl rfl rfl (Nat.le_of_ble_eq_true rfl) (fun p e s m below meth c C hnm => ?_)
  obtain ⟨cap, md, f, hL, hA, hc1, hc2, hc3, hf⟩ := h
  have hcl := capOK_le hc2
  refine x_aload_n C d_AL_addI_0 rfl rfl ?_
  refine x_iload_n C d_AL_addI_1 rfl rfl ?_
  refine x_callV1 C (q_AL_rangeCheckForAdd l E (G := G) hL (nI_nlt hk (by omega)) (nI_pos' (by omega))) (lk_AL_135 C.hts (Nat.le_of_ble_eq_true rfl) (Nat.le_of_ble_eq_true rfl)) hL rfl rfl d_AL_addI_2 (Nat.le_of_ble_eq_true rfl) (Nat.le_of_ble_eq_true rfl) (Nat.le_of_ble_eq_true rfl) (fun r G' h => ?_)
  obtain ⟨rfl, rfl⟩ := h
  refine x_aload_n C d_AL_addI_5 rfl rfl ?_
  refine x_dup C d_AL_addI_6 rfl ?_
  refine x_getS C hL rfl (in_AL _) 2 (by decide) (List.mem_cons_of_mem _ f_AL_63) (List.mem_cons_of_mem _ kf_AL_modCount) rfl d_AL_addI_7 ?_
  refine x_iconst C (v := 1) d_AL_addI_10 (by decide) ?_
  refine x_iadd C d_AL_addI_11 ?_
  refine x_putS C hL rfl (in_AL _) ty_AL tok_AL nm_AL 2 (by decide) (List.mem_cons_of_mem _ f_AL_63) (List.mem_cons_of_mem _ kf_AL_modCount) rfl (tok_AL 2 (by decide)) rfl rfl (Nat.le_of_ble_eq_true rfl) d_AL_addI_12 ?_
  refine x_aload_n C d_AL_addI_15 rfl rfl ?_
  refine x_get C (va_up_self _ _ _) rfl (in_AL _) 1 (by decide) (List.mem_cons_of_mem _ f_AL_48) rfl d_AL_addI_16 ?_
  refine x_dup C d_AL_addI_19 rfl ?_
  refine x_istore_n C d_AL_addI_20 rfl (Nat.le_of_ble_eq_true rfl) rfl ?_
  refine x_aload_n C d_AL_addI_21 rfl rfl ?_
  refine x_get C (va_up_self _ _ _) rfl (in_AL _) 0 (by decide) (List.mem_cons_of_mem _ f_AL_9) rfl d_AL_addI_22 ?_
  refine x_dup C d_AL_addI_25 rfl ?_
  refine x_astore C d_AL_addI_26 (Nat.le_of_ble_eq_true rfl) rfl ?_
  refine x_alenN C (xw_keep hA (xw_neA hL hA).symm) 0 rfl d_AL_addI_28 ?_
  refine x_icmp_ne C 38 d_AL_addI_29 (by decide) (fun c_29 => ?_) (fun c_29 => ?_)
  · have hlt : xs.length < cap := by
      rcases Nat.lt_or_ge xs.length cap with q | q
      · exact q
      · exact absurd (by rw [show xs.length = cap by omega]) c_29
    have hne := xEm_ne hE hA (by omega)
    refine x_aload C d_AL_addI_38 rfl ?_
    refine x_iload_n C d_AL_addI_40 rfl rfl ?_
    refine x_aload C d_AL_addI_41 rfl ?_
    refine x_iload_n C d_AL_addI_43 rfl rfl ?_
    refine x_iconst C (v := 1) d_AL_addI_44 (by decide) ?_
    refine x_iadd C d_AL_addI_45 ?_
    refine x_iload_n C d_AL_addI_46 rfl rfl ?_
    refine x_iload_n C d_AL_addI_47 rfl rfl ?_
    refine x_isub C d_AL_addI_48 ?_
    rw [nI_1, pk_sub hk]
    refine x_copyN C (xw_keep hA (xw_neA hL hA).symm) (xw_keep hA (xw_neA hL hA).symm) rfl rfl rfl (i := k) (j := k + 1) (k := xs.length - k) (by omega) (by omega) (by omega) (by omega) (by omega) (by omega) (fun i hi y hy => el_mod hL (hel y (List.mem_of_getElem? ((hf _ (by omega)).symm.trans hy)))) m_AL_112 rfl (Nat.le_of_ble_eq_true rfl) (by decide +kernel) d_AL_addI_49 ?_
    refine x_aload C d_AL_addI_52 rfl ?_
    refine x_iload_n C d_AL_addI_54 rfl rfl ?_
    refine x_aload_n C d_AL_addI_55 rfl rfl ?_
    obtain ⟨ci, N, Cn, T, fs, hGx, hcx, hcast⟩ := xw_el_cast (E := E) (xw_el_up (el_mod hL hx) (by obtain ⟨a, b, g1, g2⟩ := id hx; exact xw_neA g1 hA))
    refine x_aastore C (va_up_self _ _ _) 0 rfl hGx hcx hcast (vp_in_nI (show k < cap by omega) (by omega)) d_AL_addI_56 ?_
    rw [nI_clamp (by omega), bx_uu]
    refine x_aload_n C d_AL_addI_57 rfl rfl ?_
    refine x_iload_n C d_AL_addI_58 rfl rfl ?_
    refine x_iconst C (v := 1) d_AL_addI_59 (by decide) ?_
    refine x_iadd C d_AL_addI_60 ?_
    refine x_put C (xw_keep (va_up_self _ _ _) (xw_neA hL hA)) rfl (in_AL _) ty_AL tok_AL nm_AL 1 (by decide) (List.mem_cons_of_mem _ f_AL_48) rfl (tok_AL 1 (by decide)) rfl rfl (Nat.le_of_ble_eq_true rfl) d_AL_addI_61 ?_
    exact x_vret C (Nat.le_of_ble_eq_true rfl) (Nat.le_of_ble_eq_true rfl) d_AL_addI_64 ⟨rfl, ar, Or.inl rfl, al_insE (xw_neA hL hA) hlt hc2 hk hf, fr_mod (fr_put hne)⟩
  · have hkk : xs.length = cap := Classical.byContradiction (fun q => absurd c_29 (fun z => q ((nI_eq (by omega) (by omega)).mp z)))
    have hL0 : va_up G h0 (some (eAL ar (nI xs.length) (md + 1))) h0 = some (eAL ar (nI cap) (md + 1)) := by rw [← hkk]; exact va_up_self _ _ _
    refine x_aload_n C d_AL_addI_32 rfl rfl ?_
    refine x_callV0 C (q_AL_grow0 l E (G := (va_up G h0 (some (eAL ar (nI xs.length) (md + 1))))) hL0 (xw_keep hA (xw_neA hL hA).symm) hc2 (by omega) hc3 (fun i hi y hy => el_mod hL (hel y (List.mem_of_getElem? ((hf i (by omega)).symm.trans hy))))) (lk_AL_129 C.hts (Nat.le_of_ble_eq_true rfl) (Nat.le_of_ble_eq_true rfl)) (va_up_self _ _ _) rfl rfl d_AL_addI_33 (Nat.le_of_ble_eq_true rfl) (Nat.le_of_ble_eq_true rfl) (Nat.le_of_ble_eq_true rfl) (fun r G' h => ?_)
    obtain ⟨q, cap', f', hq, hBq, rfl, rfl, hlt, hcq, hfq⟩ := h; rw [← hkk] at hlt hfq ⊢; have hcl' := capOK_le hcq
    refine x_astore C d_AL_addI_36 (Nat.le_of_ble_eq_true rfl) rfl ?_
    have hq2 : va_up (va_up (va_up G h0 (some (eAL ar (nI xs.length) (md + 1)))) q (some (eOA E cap' f'))) h0 (some (eAL q (nI xs.length) (md + 1))) q = some (eOA E cap' f') := xw_keep (va_up_self _ _ _) (xw_neF (none_mod hq) hL).symm
    refine x_aload C d_AL_addI_38 rfl ?_
    refine x_iload_n C d_AL_addI_40 rfl rfl ?_
    refine x_aload C d_AL_addI_41 rfl ?_
    refine x_iload_n C d_AL_addI_43 rfl rfl ?_
    refine x_iconst C (v := 1) d_AL_addI_44 (by decide) ?_
    refine x_iadd C d_AL_addI_45 ?_
    refine x_iload_n C d_AL_addI_46 rfl rfl ?_
    refine x_iload_n C d_AL_addI_47 rfl rfl ?_
    refine x_isub C d_AL_addI_48 ?_
    rw [nI_1, pk_sub hk]
    refine x_copyN C hq2 hq2 rfl rfl rfl (i := k) (j := k + 1) (k := xs.length - k) (by omega) (by omega) (by omega) (by omega) (by omega) (by omega) (fun i hi y hy => xw_el_up (xw_el_fresh (el_mod hL (hel y (List.mem_of_getElem? ((hf _ (by omega)).symm.trans ((hfq _ (by omega)).symm.trans hy))))) hq) (by obtain ⟨a, b, g1, g2⟩ := hel y (List.mem_of_getElem? ((hf _ (by omega)).symm.trans ((hfq _ (by omega)).symm.trans hy))); exact xw_neC g1 hL (by omega))) m_AL_112 rfl (Nat.le_of_ble_eq_true rfl) (by decide +kernel) d_AL_addI_49 ?_
    refine x_aload C d_AL_addI_52 rfl ?_
    refine x_iload_n C d_AL_addI_54 rfl rfl ?_
    refine x_aload_n C d_AL_addI_55 rfl rfl ?_
    obtain ⟨ci, N, Cn, T, fs, hGx, hcx, hcast⟩ := xw_el_cast (E := E) (xw_el_up (xw_el_up (xw_el_fresh (el_mod hL hx) hq) (by obtain ⟨a, b, g1, g2⟩ := id hx; exact xw_neC g1 hL (by omega))) (by obtain ⟨a, b, g1, g2⟩ := id hx; exact xw_neF (none_mod hq) g1))
    refine x_aastore C (va_up_self _ _ _) 0 rfl hGx hcx hcast (vp_in_nI (show k < cap' by omega) (by omega)) d_AL_addI_56 ?_
    rw [nI_clamp (by omega), bx_uu]
    refine x_aload_n C d_AL_addI_57 rfl rfl ?_
    refine x_iload_n C d_AL_addI_58 rfl rfl ?_
    refine x_iconst C (v := 1) d_AL_addI_59 (by decide) ?_
    refine x_iadd C d_AL_addI_60 ?_
    refine x_put C (xw_keep (va_up_self _ _ _) (xw_neF (none_mod hq) hL)) rfl (in_AL _) ty_AL tok_AL nm_AL 1 (by decide) (List.mem_cons_of_mem _ f_AL_48) rfl (tok_AL 1 (by decide)) rfl rfl (Nat.le_of_ble_eq_true rfl) d_AL_addI_61 ?_
    exact x_vret C (Nat.le_of_ble_eq_true rfl) (Nat.le_of_ble_eq_true rfl) d_AL_addI_64 ⟨rfl, q, Or.inr (none_mod hq), al_insE (xw_neF (none_mod hq) hL) (by omega) hcq hk (fun i hi => (hfq i (by omega)).trans (hf i hi)), fr_mod (fr_new hq)⟩
end
section
theorem al_pred {n : Nat} (h : 0 < n) : nI n - 1 = nI (n - 1) := by
  obtain ⟨k, rfl⟩ : ∃ k, n = k + 1 := ⟨n - 1, by omega⟩
  rw [nI_pred, Nat.add_sub_cancel]
theorem al_put2 {E : xE} {G : xw_G} {h ar cap : Nat} {g : Nat → Option Nat} {md : Int32} {xs : List Nat} (hh : h ≠ ar) (h1 : xs.length ≤ cap) (h2 : capOK cap) (h3 : cap = 0 → ar = xaE E) (hf : ∀ i : Nat, i < xs.length → g i = xs[i]?) : xAL E (va_up (va_up G h (some (eAL ar (nI xs.length) md))) ar (some (eOA E cap g))) h ar xs :=
  ⟨cap, md, g, xw_keep (va_up_self _ _ _) hh, va_up_self _ _ _, h1, h2, h3, hf⟩
theorem fr_put2 {E : xE} {G : xw_G} {h ar : Nat} {e1 e2 : Option va_E} (hne : ar ≠ xaE E) : xFr E G (va_up (va_up G h e1) ar e2) h ar := by
  intro a e ha h1 h2
  have h3 : a ≠ ar := fun q => hne (by rw [← q]; exact h2 q)
  rw [va_up_ne _ _ h3, va_up_ne _ _ h1]
  exact ha
theorem fr_put3 {E : xE} {G : xw_G} {h ar : Nat} {e0 e1 e2 e3 : Option va_E} (hne : ar ≠ xaE E) : xFr E G (va_up (va_up (va_up (va_up G h e0) ar e1) h e2) ar e3) h ar := by
  intro a e ha h1 h2
  have h3 : a ≠ ar := fun q => hne (by rw [← q]; exact h2 q)
  rw [va_up_ne _ _ h3, va_up_ne _ _ h1, va_up_ne _ _ h3, va_up_ne _ _ h1]
  exact ha
theorem cpy_0 {f g : Nat → Option Nat} {a b : Nat} : va_cpy f g a b 0 = g := by
  funext i
  exact pk_cpy_out (by omega)
theorem al_delE {E : xE} {G : xw_G} {h ar cap k : Nat} {f : Nat → Option Nat} {md : Int32} {xs : List Nat} (hh : h ≠ ar) (h1 : xs.length ≤ cap) (h2 : capOK cap) (hk : k < xs.length) (hf : ∀ i : Nat, i < xs.length → f i = xs[i]?) : xAL E (va_up (va_up G h (some (eAL ar (nI (xs.length - 1)) md))) ar (some (eOA E cap (va_up (va_cpy f f (k + 1) k (xs.length - 1 - k)) (xs.length - 1) none)))) h ar (xs.eraseIdx k) := by
  have e : xs.length - 1 = (xs.eraseIdx k).length := by rw [List.length_eraseIdx_of_lt hk]
  have hd := al_del hk hf
  rw [show nI (xs.length - 1) = nI (xs.eraseIdx k).length by rw [← e]]
  exact al_put2 hh (by omega) h2 (by omega) hd
theorem up_swap {α : Type} {f : Nat → α} {a b : Nat} {x y : α} (h : a ≠ b) : va_up (va_up f a x) b y = va_up (va_up f b y) a x := by
  funext i
  by_cases h1 : i = a
  · subst h1
    rw [va_up_ne _ _ h, va_up_self, va_up_self]
  · by_cases h2 : i = b
    · subst h2
      rw [va_up_self, va_up_ne _ _ h1, va_up_self]
    · rw [va_up_ne _ _ h2, va_up_ne _ _ h1, va_up_ne _ _ h1, va_up_ne _ _ h2]
theorem up_id {α : Type} (f : Nat → α) (a : Nat) : va_up f a (f a) = f := by
  funext i
  by_cases h : i = a
  · subst h; rw [va_up_self]
  · rw [va_up_ne _ _ h]
set_option maxRecDepth 100000 in
set_option maxHeartbeats 4000000 in
theorem q_AL_fastRemove (l : Launch) (E : xE) {G : xw_G} {h0 ar k : Nat} {xs : List Nat} (h : xAL E G h0 ar xs) (hel : ∀ y ∈ xs, xw_el G y) (hE : xEm E G) (hk : k < xs.length) : XMk l E y_AL_fastRemove w_AL_fastRemove rm_AL_fastRemove [.ref h0, .ref ar, .int (nI k)] G (fun r G' => r = none ∧ xAL E G' h0 ar (xs.eraseIdx k) ∧ xFr E G G' h0 ar) 0 0 := by
  refine XM_of [some (.ref h0), some (.ref ar), some (.int (nI k)), none] (XZ_st E) (by decide) rfl rfl rfl (Nat.le_of_ble_eq_true rfl) (fun p e s m below meth c C hnm => ?_)
  obtain ⟨cap, md, f, hL, hA, hc1, hc2, hc3, hf⟩ := h
  have hcl := capOK_le hc2
  have hne := xEm_ne hE hA (by omega)
  refine x_aload_n C d_AL_fastRemove_0 rfl rfl ?_
  refine x_dup C d_AL_fastRemove_1 rfl ?_
  refine x_getS C hL rfl (in_AL _) 2 (by decide) (List.mem_cons_of_mem _ f_AL_63) (List.mem_cons_of_mem _ kf_AL_modCount) rfl d_AL_fastRemove_2 ?_
  refine x_iconst C (v := 1) d_AL_fastRemove_5 (by decide) ?_
  refine x_iadd C d_AL_fastRemove_6 ?_
  refine x_putS C hL rfl (in_AL _) ty_AL tok_AL nm_AL 2 (by decide) (List.mem_cons_of_mem _ f_AL_63) (List.mem_cons_of_mem _ kf_AL_modCount) rfl (tok_AL 2 (by decide)) rfl rfl (Nat.le_of_ble_eq_true rfl) d_AL_fastRemove_7 ?_
  refine x_aload_n C d_AL_fastRemove_10 rfl rfl ?_
  refine x_get C (va_up_self _ _ _) rfl (in_AL _) 1 (by decide) (List.mem_cons_of_mem _ f_AL_48) rfl d_AL_fastRemove_11 ?_
  refine x_iconst C (v := 1) d_AL_fastRemove_14 (by decide) ?_
  refine x_isub C d_AL_fastRemove_15 ?_
  rw [al_pred (show 0 < xs.length by omega)]
  refine x_dup C d_AL_fastRemove_16 rfl ?_
  refine x_istore_n C d_AL_fastRemove_17 rfl (Nat.le_of_ble_eq_true rfl) rfl ?_
  refine x_iload_n C d_AL_fastRemove_18 rfl rfl ?_
  refine x_icmp_le C 34 d_AL_fastRemove_19 (by decide) (fun c_19 => ?_) (fun c_19 => ?_)
  · have heq : xs.length - 1 - k = 0 := by
      have := (nI_leI (by omega) (by omega)).mp c_19
      omega
    refine x_aload_n C d_AL_fastRemove_34 rfl rfl ?_
    refine x_aload_n C d_AL_fastRemove_35 rfl rfl ?_
    refine x_iload_n C d_AL_fastRemove_36 rfl rfl ?_
    refine x_dup_x1 C d_AL_fastRemove_37 rfl rfl ?_
    refine x_put2 C rfl (in_AL _) ty_AL tok_AL nm_AL 1 (by decide) (List.mem_cons_of_mem _ f_AL_48) rfl (tok_AL 1 (by decide)) rfl rfl (Nat.le_of_ble_eq_true rfl) d_AL_fastRemove_38 ?_
    refine x_null C d_AL_fastRemove_41 ?_
    refine x_aastoreN C (xw_keep hA (xw_neA hL hA).symm) 0 rfl (vp_in_nI (show xs.length - 1 < cap by omega) (by omega)) d_AL_fastRemove_42 ?_
    rw [nI_clamp (by omega)]
    exact x_vret C (Nat.le_of_ble_eq_true rfl) (Nat.le_of_ble_eq_true rfl) d_AL_fastRemove_43 ⟨rfl, by have hz := al_delE (E := E) (G := G) (md := md + 1) (xw_neA hL hA) hc1 hc2 hk hf; rw [heq, cpy_0] at hz; exact hz, fr_put2 hne⟩
  · refine x_aload_n C d_AL_fastRemove_22 rfl rfl ?_
    refine x_iload_n C d_AL_fastRemove_23 rfl rfl ?_
    refine x_iconst C (v := 1) d_AL_fastRemove_24 (by decide) ?_
    refine x_iadd C d_AL_fastRemove_25 ?_
    refine x_aload_n C d_AL_fastRemove_26 rfl rfl ?_
    refine x_iload_n C d_AL_fastRemove_27 rfl rfl ?_
    refine x_iload_n C d_AL_fastRemove_28 rfl rfl ?_
    refine x_iload_n C d_AL_fastRemove_29 rfl rfl ?_
    refine x_isub C d_AL_fastRemove_30 ?_
    have hgt : k < xs.length - 1 := by
      rcases Nat.lt_or_ge k (xs.length - 1) with q | q
      · exact q
      · exact absurd (nI_le q (by omega)) c_19
    rw [nI_1, pk_sub (show k ≤ xs.length - 1 by omega)]
    refine x_copyN C (xw_keep hA (xw_neA hL hA).symm) (xw_keep hA (xw_neA hL hA).symm) rfl rfl rfl (i := k + 1) (j := k) (k := xs.length - 1 - k) (by omega) (by omega) (by omega) (by omega) (by omega) (by omega) (fun i hi y hy => el_mod hL (hel y (List.mem_of_getElem? ((hf _ (by omega)).symm.trans hy)))) m_AL_112 rfl (Nat.le_of_ble_eq_true rfl) (by decide +kernel) d_AL_fastRemove_31 ?_
    refine x_aload_n C d_AL_fastRemove_34 rfl rfl ?_
    refine x_aload_n C d_AL_fastRemove_35 rfl rfl ?_
    refine x_iload_n C d_AL_fastRemove_36 rfl rfl ?_
    refine x_dup_x1 C d_AL_fastRemove_37 rfl rfl ?_
    refine x_put C (xw_keep (va_up_self _ _ _) (xw_neA hL hA)) rfl (in_AL _) ty_AL tok_AL nm_AL 1 (by decide) (List.mem_cons_of_mem _ f_AL_48) rfl (tok_AL 1 (by decide)) rfl rfl (Nat.le_of_ble_eq_true rfl) d_AL_fastRemove_38 ?_
    refine x_null C d_AL_fastRemove_41 ?_
    refine x_aastoreN C (xw_keep (va_up_self _ _ _) (xw_neA hL hA).symm) 0 rfl (vp_in_nI (show xs.length - 1 < cap by omega) (by omega)) d_AL_fastRemove_42 ?_
    rw [nI_clamp (by omega)]
    exact x_vret C (Nat.le_of_ble_eq_true rfl) (Nat.le_of_ble_eq_true rfl) d_AL_fastRemove_43 ⟨rfl, al_delE (xw_neA hL hA) hc1 hc2 hk hf, fr_put3 hne⟩
set_option maxRecDepth 100000 in
set_option maxHeartbeats 4000000 in
theorem q_AL_remove (l : Launch) (E : xE) {G : xw_G} {h0 ar k a : Nat} {xs : List Nat} (ha : xs[k]? = some a) (h : xAL E G h0 ar xs) (hel : ∀ y ∈ xs, xw_el G y) (hE : xEm E G) (hk : k < xs.length) : XMk l E y_AL_remove w_AL_remove rm_AL_remove [.ref h0, .int (nI k)] G (fun r G' => r = some (.ref a) ∧ xAL E G' h0 ar (xs.eraseIdx k) ∧ xFr E G G' h0 ar) 0 0 := by
  refine XM_of [some (.ref h0), some (.int (nI k)), none, none] (XZ_st E) (by decide) rfl rfl rfl (Nat.le_of_ble_eq_true rfl) (fun p e s m below meth c C hnm => ?_)
  have h' := h
  obtain ⟨cap, md, f, hL, hA, hc1, hc2, hc3, hf⟩ := h
  have hcl := capOK_le hc2
  refine x_iload_n C d_AL_remove_0 rfl rfl ?_
  refine x_aload_n C d_AL_remove_1 rfl rfl ?_
  refine x_get C hL rfl (in_AL _) 1 (by decide) (List.mem_cons_of_mem _ f_AL_48) rfl d_AL_remove_2 ?_
  refine x_callS2 C (q_OJ_checkIndex l E (G := G) (nI_pos (by omega)) (nI_lt hk (by omega))) (lk_AL_118 C.hts (Nat.le_of_ble_eq_true rfl) (Nat.le_of_ble_eq_true rfl)) rfl d_AL_remove_5 (Nat.le_of_ble_eq_true rfl) (Nat.le_of_ble_eq_true rfl) (Nat.le_of_ble_eq_true rfl) (fun r G' h => ?_)
  obtain ⟨rfl, rfl⟩ := h
  refine x_pop C d_AL_remove_8 rfl ?_
  refine x_aload_n C d_AL_remove_9 rfl rfl ?_
  refine x_get C hL rfl (in_AL _) 0 (by decide) (List.mem_cons_of_mem _ f_AL_9) rfl d_AL_remove_10 ?_
  refine x_astore_n C d_AL_remove_13 rfl (Nat.le_of_ble_eq_true rfl) rfl ?_
  refine x_aload_n C d_AL_remove_14 rfl rfl ?_
  refine x_iload_n C d_AL_remove_15 rfl rfl ?_
  refine x_aaloadR C hA 0 rfl (vp_in_nI (show k < cap by omega) (by omega)) (by rw [nI_clamp (by omega)]; exact (hf k hk).trans ha) d_AL_remove_16 ?_
  refine x_astore_n C d_AL_remove_17 rfl (Nat.le_of_ble_eq_true rfl) rfl ?_
  refine x_aload_n C d_AL_remove_18 rfl rfl ?_
  refine x_aload_n C d_AL_remove_19 rfl rfl ?_
  refine x_iload_n C d_AL_remove_20 rfl rfl ?_
  refine x_callV2 C (q_AL_fastRemove l E (G := G) h' hel hE hk) (lk_AL_144 C.hts (Nat.le_of_ble_eq_true rfl) (Nat.le_of_ble_eq_true rfl)) hL rfl rfl d_AL_remove_21 (Nat.le_of_ble_eq_true rfl) (Nat.le_of_ble_eq_true rfl) (Nat.le_of_ble_eq_true rfl) (fun r G' h => ?_)
  obtain ⟨rfl, g1, g2⟩ := h
  refine x_aload_n C d_AL_remove_24 rfl rfl ?_
  exact x_aret C (Or.inl ⟨_, rfl⟩) (Or.inr ⟨_, rfl⟩) (Nat.le_of_ble_eq_true rfl) (Nat.le_of_ble_eq_true rfl) d_AL_remove_25 ⟨rfl, g1, g2⟩
set_option maxRecDepth 100000 in
set_option maxHeartbeats 4000000 in
theorem q_AL_clear (l : Launch) (E : xE) {G : xw_G} {h0 ar : Nat} {xs : List Nat} (h : xAL E G h0 ar xs) (hE : xEm E G) : XMk l E y_AL_clear w_AL_clear rm_AL_clear [.ref h0] G (fun r G' => r = none ∧ xAL E G' h0 ar [] ∧ xFr E G G' h0 ar) 0 0 := by
  refine XM_of [some (.ref h0), none, none, none] (XZ_st E) (by decide) rfl rfl rfl (Nat.le_of_ble_eq_true rfl) (fun p e s m below meth c C hnm => ?_)
  obtain ⟨cap, md, f, hL, hA, hc1, hc2, hc3, hf⟩ := h
  have hcl := capOK_le hc2
  have hp : ∀ g : Nat → Option Nat, (0 < xs.length ∨ g = f) → (fun (r : Option Value) (G' : xw_G) => r = none ∧ xAL E G' h0 ar [] ∧ xFr E G G' h0 ar) none (va_up (va_up G h0 (some (eAL ar 0 (md + 1)))) ar (some (eOA E cap g))) := by
    intro g hg
    refine ⟨rfl, al_put2 (xs := []) (xw_neA hL hA) (Nat.zero_le _) hc2 hc3 (fun i hi => absurd hi (by simp)), ?_⟩
    rcases hg with hg | hg
    · exact fr_put2 (xEm_ne hE hA (by omega))
    · subst hg
      intro a e ha h1 h2
      by_cases h3 : a = ar
      · subst h3
        rw [va_up_self, ← hA]
        exact ha
      · rw [va_up_ne _ _ h3, va_up_ne _ _ h1]
        exact ha
  have loop : ∀ (k i : Nat) (g : Nat → Option Nat), i + k = xs.length → (0 < i ∨ g = f) → XW p l e rm_AL_clear s m #[.ref h0] below meth c (XQ below #[.ref h0] s (xD E) xcl (xB E) (fun r G' => r = none ∧ xAL E G' h0 ar [] ∧ xFr E G G' h0 ar) 0 0) (xD E) xcl (xB E) 27 [some (.ref h0), some (.ref ar), some (.int (nI xs.length)), some (.int (nI i))] [] (va_up (va_up G h0 (some (eAL ar 0 (md + 1)))) ar (some (eOA E cap g))) 0 0 := by
    intro k
    induction k with
    | zero =>
      intro i g hi hg
      refine x_iload_n C d_AL_clear_27 rfl rfl ?_
      refine x_iload_n C d_AL_clear_28 rfl rfl ?_
      refine x_icmp_ge C 42 d_AL_clear_29 (by decide) (fun c_29 => ?_) (fun c_29 => ?_)
      · exact x_vret C (Nat.le_of_ble_eq_true rfl) (Nat.le_of_ble_eq_true rfl) d_AL_clear_42 (hp g (hg.imp (fun q => by omega) id))
      · exact absurd (nI_le (by omega) (by omega)) c_29
    | succ k ih =>
      intro i g hi hg
      refine x_iload_n C d_AL_clear_27 rfl rfl ?_
      refine x_iload_n C d_AL_clear_28 rfl rfl ?_
      refine x_icmp_ge C 42 d_AL_clear_29 (by decide) (fun c_29 => ?_) (fun c_29 => ?_)
      · exact absurd c_29 (nI_ge (by omega) (by omega))
      · refine x_aload_n C d_AL_clear_32 rfl rfl ?_
        refine x_iload_n C d_AL_clear_33 rfl rfl ?_
        refine x_null C d_AL_clear_34 ?_
        refine x_aastoreN C (va_up_self _ _ _) 0 rfl (vp_in_nI (show i < cap by omega) (by omega)) d_AL_clear_35 ?_
        refine x_iinc C d_AL_clear_36 rfl rfl rfl ?_
        refine x_goto C 27 d_AL_clear_39 (by decide) ?_
        have e1 : nI i + Int32.ofInt 1 = nI (i + 1) := nI_1 i
        rw [e1, nI_clamp (by omega), bx_uu]
        exact ih (i + 1) _ (by omega) (Or.inl (by omega))
  refine x_aload_n C d_AL_clear_0 rfl rfl ?_
  refine x_dup C d_AL_clear_1 rfl ?_
  refine x_getS C hL rfl (in_AL _) 2 (by decide) (List.mem_cons_of_mem _ f_AL_63) (List.mem_cons_of_mem _ kf_AL_modCount) rfl d_AL_clear_2 ?_
  refine x_iconst C (v := 1) d_AL_clear_5 (by decide) ?_
  refine x_iadd C d_AL_clear_6 ?_
  refine x_putS C hL rfl (in_AL _) ty_AL tok_AL nm_AL 2 (by decide) (List.mem_cons_of_mem _ f_AL_63) (List.mem_cons_of_mem _ kf_AL_modCount) rfl (tok_AL 2 (by decide)) rfl rfl (Nat.le_of_ble_eq_true rfl) d_AL_clear_7 ?_
  refine x_aload_n C d_AL_clear_10 rfl rfl ?_
  refine x_get C (va_up_self _ _ _) rfl (in_AL _) 0 (by decide) (List.mem_cons_of_mem _ f_AL_9) rfl d_AL_clear_11 ?_
  refine x_astore_n C d_AL_clear_14 rfl (Nat.le_of_ble_eq_true rfl) rfl ?_
  refine x_aload_n C d_AL_clear_15 rfl rfl ?_
  refine x_get C (va_up_self _ _ _) rfl (in_AL _) 1 (by decide) (List.mem_cons_of_mem _ f_AL_48) rfl d_AL_clear_16 ?_
  refine x_istore_n C d_AL_clear_19 rfl (Nat.le_of_ble_eq_true rfl) rfl ?_
  refine x_aload_n C d_AL_clear_20 rfl rfl ?_
  refine x_iconst C (v := 0) d_AL_clear_21 (by decide) ?_
  refine x_dup_x1 C d_AL_clear_22 rfl rfl ?_
  refine x_put2 C rfl (in_AL _) ty_AL tok_AL nm_AL 1 (by decide) (List.mem_cons_of_mem _ f_AL_48) rfl (tok_AL 1 (by decide)) rfl rfl (Nat.le_of_ble_eq_true rfl) d_AL_clear_23 ?_
  refine x_istore_n C d_AL_clear_26 rfl (Nat.le_of_ble_eq_true rfl) rfl ?_
  refine XW.eqs (loop xs.length 0 f (by omega) (Or.inr rfl)) rfl rfl ?_
  rw [show some (eOA E cap f) = (va_up G h0 (some (eAL ar 0 (md + 1)))) ar from (xw_keep hA (xw_neA hL hA).symm).symm, up_id]
  rfl
theorem q_AL_sizeL (l : Launch) (E : xE) {G : xw_G} {h0 ar : Nat} {xs : List Nat} (h : xAL E G h0 ar xs) : XMk l E y_AL_size w_AL_size rm_AL_size [.ref h0] G (fun r G' => r = some (.int (nI xs.length)) ∧ G = G') 0 0 := by
  obtain ⟨cap, md, f, hL, hA, hc1, hc2, hc3, hf⟩ := h
  exact q_AL_size l E hL
theorem q_AL_getL (l : Launch) (E : xE) {G : xw_G} {h0 ar k a : Nat} {xs : List Nat} (h : xAL E G h0 ar xs) (ha : xs[k]? = some a) : XMk l E y_AL_get w_AL_get rm_AL_get [.ref h0, .int (nI k)] G (fun r G' => r = some (.ref a) ∧ G = G') 0 0 := by
  obtain ⟨cap, md, f, hL, hA, hc1, hc2, hc3, hf⟩ := h
  have hcl := capOK_le hc2
  have hk : k < xs.length := (List.getElem?_eq_some_iff.mp ha).1
  exact q_AL_get l E hL hA (nI_pos (by omega)) (nI_lt hk (by omega)) (vp_in_nI (show k < cap by omega) (by omega)) (by rw [nI_clamp (by omega)]; exact (hf k hk).trans ha)
end
section
def uN (x : Int64) : Nat := x.toUInt64.toNat
theorem uN_lt (x : Int64) : uN x < 18446744073709551616 := x.toUInt64.toNat_lt
theorem uN_inj {x y : Int64} (h : uN x = uN y) : x = y := congrArg UInt64.toInt64 (UInt64.toNat_inj.mp h)
theorem uN_add (x y : Int64) : uN (x + y) = (uN x + uN y) % 18446744073709551616 := by
  show (x.toUInt64 + y.toUInt64).toNat = _
  exact UInt64.toNat_add _ _
theorem uN_mul (x y : Int64) : uN (x * y) = (uN x * uN y) % 18446744073709551616 := by
  show (x.toUInt64 * y.toUInt64).toNat = _
  exact UInt64.toNat_mul _ _
theorem uN_shl (x : Int64) : uN (x <<< ((1 : Int32).toInt64 &&& 63)) = (2 * uN x) % 18446744073709551616 := by
  have h : (((1 : Int32).toInt64 &&& 63).toBitVec.smod 64).toNat = 1 := by decide
  show (x.toBitVec <<< (((1 : Int32).toInt64 &&& 63).toBitVec.smod 64).toNat).toNat = _
  rw [h, BitVec.toNat_shiftLeft, Nat.shiftLeft_eq, Nat.mul_comm]
  rfl
theorem uN_shr (x : Int64) (s : UInt64) : uN (x.toUInt64 >>> s).toInt64 = uN x / 2 ^ (s.toNat % 64) := by
  show (x.toUInt64 >>> s).toNat = _
  rw [UInt64.toNat_shiftRight, Nat.shiftRight_eq_div_pow]
  rfl
theorem uN_s32 (x : Int64) : uN (x.toUInt64 >>> ((32 : Int32).toInt64.toUInt64 &&& Int64.toUInt64 63)).toInt64 = uN x / 4294967296 := by
  have h : ((32 : Int32).toInt64.toUInt64 &&& Int64.toUInt64 63).toNat % 64 = 32 := by decide
  rw [uN_shr, h]
theorem uN_s63 (x : Int64) : uN (x.toUInt64 >>> ((63 : Int32).toInt64.toUInt64 &&& Int64.toUInt64 63)).toInt64 = uN x / 9223372036854775808 := by
  have h : ((63 : Int32).toInt64.toUInt64 &&& Int64.toUInt64 63).toNat % 64 = 63 := by decide
  rw [uN_shr, h]
theorem uN_lo (x : Int64) : uN (x &&& 4294967295) = uN x % 4294967296 := by
  show (x.toUInt64 &&& Int64.toUInt64 4294967295).toNat = _
  rw [UInt64.toNat_and]
  exact Nat.and_two_pow_sub_one_eq_mod _ 32
theorem uN_bit (x : Int64) : (x &&& 1) = 0 ↔ uN x % 2 = 0 := by
  have h : uN (x &&& 1) = uN x % 2 := by
    show (x.toUInt64 &&& Int64.toUInt64 1).toNat = _
    rw [UInt64.toNat_and]
    exact Nat.and_two_pow_sub_one_eq_mod _ 1
  rw [← h]
  exact ⟨fun z => by rw [z]; rfl, fun z => uN_inj (z.trans rfl)⟩
theorem uN_or {x y : Int64} (hy : uN y < 2) : uN ((x <<< ((1 : Int32).toInt64 &&& 63)) ||| y) = (2 * uN x) % 18446744073709551616 + uN y := by
  have h1 : uN ((x <<< ((1 : Int32).toInt64 &&& 63)) ||| y) = uN (x <<< ((1 : Int32).toInt64 &&& 63)) ||| uN y := UInt64.toNat_or _ _
  have h2 : (2 * uN x) % 18446744073709551616 = 2 ^ 1 * (uN x % 9223372036854775808) := by omega
  rw [h1, uN_shl, h2]
  exact (Nat.two_pow_add_eq_or_of_lt (i := 1) hy _).symm
theorem nat_xor {a : Nat} (h : a < 18446744073709551616) : a ^^^ 2 ^ 63 = (a + 9223372036854775808) % 18446744073709551616 := by
  have h1 : (a ^^^ 2 ^ 63) % 2 ^ 63 = a % 2 ^ 63 := by rw [Nat.xor_mod_two_pow, Nat.mod_self, Nat.xor_zero]
  have h2 : (a ^^^ 2 ^ 63) / 2 ^ 63 = (a / 2 ^ 63) ^^^ 1 := by rw [Nat.xor_div_two_pow, Nat.div_self (Nat.two_pow_pos 63)]
  have h3 : a / 2 ^ 63 = 0 ∨ a / 2 ^ 63 = 1 := by omega
  generalize a ^^^ 2 ^ 63 = t at h1 h2
  rcases h3 with h3 | h3
  · rw [h3] at h2
    have h2 : t / 2 ^ 63 = 1 := h2
    omega
  · rw [h3] at h2
    have h2 : t / 2 ^ 63 = 0 := h2
    omega
theorem uN_xor (x : Int64) : uN (x ^^^ (-9223372036854775808)) = (uN x + 9223372036854775808) % 18446744073709551616 := by
  rw [← nat_xor (uN_lt x)]
  exact UInt64.toNat_xor _ _
theorem uN_int (x : Int64) : x.toInt = if 2 * uN x < 18446744073709551616 then (uN x : Int) else (uN x : Int) - 18446744073709551616 := BitVec.toInt_eq_toNat_cond _
theorem uN_le (x y : Int64) : (x ^^^ (-9223372036854775808)) ≤ (y ^^^ (-9223372036854775808)) ↔ uN x ≤ uN y := by
  have hx := uN_lt x
  have hy := uN_lt y
  rw [Int64.le_iff_toInt_le, uN_int, uN_int, uN_xor, uN_xor]
  omega
theorem uN_sk (x : Int64) {k : Nat} (hk : k < 64) : uN (x.toUInt64 >>> ((nI k).toInt64.toUInt64 &&& Int64.toUInt64 63)).toInt64 = uN x / 2 ^ k := by
  have h : ((nI k).toInt64.toUInt64 &&& Int64.toUInt64 63).toNat % 64 = k := by
    rw [nI_l (by omega), UInt64.toNat_and]
    have e : (lN k).toUInt64.toNat = k % 2 ^ 64 := rfl
    have e2 : (Int64.toUInt64 63).toNat = 2 ^ 6 - 1 := by decide
    rw [e, e2, Nat.and_two_pow_sub_one_eq_mod]
    omega
  rw [uN_shr, h]
theorem lg_lt (x y : Int64) : lg_cmp x y < 0 ↔ x < y := by
  unfold lg_cmp
  by_cases h : x > y
  · rw [if_pos h]
    exact ⟨fun q => absurd q (by decide), fun q => absurd (Int64.lt_trans q h) (Int64.lt_irrefl)⟩
  · rw [if_neg h]
    by_cases h2 : x = y
    · rw [if_pos h2, h2]
      exact ⟨fun q => absurd q (by decide), fun q => absurd q (Int64.lt_irrefl)⟩
    · rw [if_neg h2]
      refine ⟨fun _ => ?_, fun _ => by decide⟩
      rcases Int64.lt_or_lt_of_ne h2 with q | q
      · exact q
      · exact absurd q h
theorem lg_eq (x y : Int64) : lg_cmp x y = 0 ↔ x = y := by
  unfold lg_cmp
  by_cases h : x > y
  · rw [if_pos h]
    exact ⟨fun q => absurd q (by decide), fun q => absurd h (by rw [q]; exact Int64.lt_irrefl)⟩
  · rw [if_neg h]
    by_cases h2 : x = y
    · rw [if_pos h2]
      exact ⟨fun _ => h2, fun _ => rfl⟩
    · rw [if_neg h2]
      exact ⟨fun q => absurd q (by decide), fun q => absurd q h2⟩
theorem i32_le_lt {x y : Int32} : x ≤ y ↔ ¬ y < x := Int32.not_lt.symm
theorem lg_ge (x y : Int64) : 0 ≤ lg_cmp x y ↔ ¬ x < y := by rw [i32_le_lt, lg_lt]
theorem uN_ltx (x y : Int64) : (x ^^^ (-9223372036854775808)) < (y ^^^ (-9223372036854775808)) ↔ uN x < uN y := by
  rw [← Int64.not_le, uN_le, Nat.not_le]
/-- stands an entry (fd, cm) ahead of (f, c)? -/
def ahead (fd cm f c : Int64) : Bool := if fd = f then decide (cm < c) else decide (uN fd < uN f)
/-- the field of a record: bytes fr .. fr + sz - 1 -/
def fldI (fr sz : Int32) (r : Int64) : Int64 := (Int64.toUInt64 (r <<< (Int32.toInt64 (8 * fr) &&& 63)) >>> ((Int32.toInt64 (8 * (8 - sz))).toUInt64 &&& Int64.toUInt64 63)).toInt64
/-- the first b bytes of a field of sz bytes -/
def prtI (sz b : Int32) (f : Int64) : Int64 := (Int64.toUInt64 f >>> ((Int32.toInt64 (8 * (sz - b))).toUInt64 &&& Int64.toUInt64 63)).toInt64
/-- what a view refuses -/
def refRead (op : Bool) (mo ac b : Int32) : Int32 := if op = false then 42 else if (mo = 0 ∨ mo = 2) ∧ ¬ ac = b then 0 else 47
def refWrite (op : Bool) (mo ac : Int32) : Int32 := if op = false then 42 else if mo = 0 ∨ (mo = 2 ∧ ac = 0) then 48 else 0
def refChange (op : Bool) (mo : Int32) : Int32 := if op = false then 42 else if mo = 2 then 0 else 49
set_option maxRecDepth 100000 in
set_option maxHeartbeats 4000000 in
theorem q_KF_isBelow (l : Launch) (E : xE) {G : xw_G} {x y : Int64} : XMk l E y_KF_isBelow w_KF_isBelow rm_KF_isBelow [.long (x), .long (y)] G (fun r G' => r = some (.int (bI (decide (uN x < uN y)))) ∧ G = G') 0 0 := by
  refine XM_of [some (.long (x)), none, some (.long (y)), none] (XZ_st E) (by decide) rfl rfl rfl (Nat.le_of_ble_eq_true rfl) (fun p e s m below meth c C hnm => ?_)
  refine x_lload_n C d_KF_isBelow_0 rfl rfl ?_
  refine x_ldc2 C d_KF_isBelow_1 (List.mem_cons_of_mem _ kl_KF_251) ?_
  refine x_lxor C d_KF_isBelow_4 ?_
  refine x_lload_n C d_KF_isBelow_5 rfl rfl ?_
  refine x_ldc2 C d_KF_isBelow_6 (List.mem_cons_of_mem _ kl_KF_251) ?_
  refine x_lxor C d_KF_isBelow_9 ?_
  refine x_lcmp C d_KF_isBelow_10 ?_
  refine x_if_ge C 18 d_KF_isBelow_11 (by decide) (fun c_11 => ?_) (fun c_11 => ?_)
  · refine x_iconst C (v := 0) d_KF_isBelow_18 (by decide) ?_
    exact x_zret C rfl (Nat.le_of_ble_eq_true rfl) (Nat.le_of_ble_eq_true rfl) d_KF_isBelow_19 ⟨by rw [lg_ge, uN_ltx] at c_11; simp [bI, c_11], rfl⟩
  · refine x_iconst C (v := 1) d_KF_isBelow_14 (by decide) ?_
    refine x_goto C 19 d_KF_isBelow_15 (by decide) ?_
    exact x_zret C rfl (Nat.le_of_ble_eq_true rfl) (Nat.le_of_ble_eq_true rfl) d_KF_isBelow_19 ⟨by rw [lg_ge, uN_ltx] at c_11; simp [bI, c_11], rfl⟩
set_option maxRecDepth 100000 in
set_option maxHeartbeats 4000000 in
theorem q_VW_init (l : Launch) (E : xE) {G : xw_G} {h0 : Nat} : XMk l E y_VW_init w_VW_init rm_VW_init [.ref h0] G (fun r G' => r = none ∧ G = G') 0 0 := by
  refine XM_of [some (.ref h0)] (XZ_st E) (by decide) rfl rfl rfl (Nat.le_of_ble_eq_true rfl) (fun p e s m below meth c C hnm => ?_)
  refine x_aload_n C d_VW_init_0 rfl rfl ?_
  refine x_objInit C (List.mem_cons_of_mem _ m_VW_3) (List.mem_cons_of_mem _ ki_OB_init) (List.mem_cons_of_mem _ kc_OB_init) rfl d_VW_init_1 (Nat.le_of_ble_eq_true rfl) (Nat.le_of_ble_eq_true rfl) ?_
  exact x_vret C (Nat.le_of_ble_eq_true rfl) (Nat.le_of_ble_eq_true rfl) d_VW_init_4 ⟨rfl, rfl⟩
set_option maxRecDepth 100000 in
set_option maxHeartbeats 4000000 in
theorem q_VW_forgetRead (l : Launch) (E : xE) {G : xw_G} {h0 : Nat} {op ae hw : Bool} {mo ac kr pl : Int32} {pf pc vr pw : Int64} {rl : Value} (hV : G h0 = some (eVW op mo ac kr pl pf pc ae rl vr hw pw)) : XMk l E y_VW_forgetRead w_VW_forgetRead rm_VW_forgetRead [.ref h0] G (fun r G' => r = none ∧ G' = va_up G h0 (some (eVW op mo ac kr pl pf pc ae (.null) (0) hw pw))) 0 0 := by
  refine XM_of [some (.ref h0)] (XZ_st E) (by decide) rfl rfl rfl (Nat.le_of_ble_eq_true rfl) (fun p e s m below meth c C hnm => ?_)
  refine x_aload_n C d_VW_forgetRead_0 rfl rfl ?_
  refine x_null C d_VW_forgetRead_1 ?_
  refine x_put C hV rfl (in_VW _) ty_VW tok_VW nm_VW 8 (by decide) (List.mem_cons_of_mem _ f_VW_37) rfl (tok_VW 8 (by decide)) rfl rfl (Nat.le_of_ble_eq_true rfl) d_VW_forgetRead_2 ?_
  refine x_aload_n C d_VW_forgetRead_5 rfl rfl ?_
  refine x_lconst C (v := 0) d_VW_forgetRead_6 (by decide) ?_
  refine x_put2 C rfl (in_VW _) ty_VW tok_VW nm_VW 9 (by decide) (List.mem_cons_of_mem _ f_VW_41) rfl (tok_VW 9 (by decide)) rfl rfl (Nat.le_of_ble_eq_true rfl) d_VW_forgetRead_7 ?_
  exact x_vret C (Nat.le_of_ble_eq_true rfl) (Nat.le_of_ble_eq_true rfl) d_VW_forgetRead_10 ⟨rfl, rfl⟩
set_option maxRecDepth 100000 in
set_option maxHeartbeats 4000000 in
theorem q_VW_lose (l : Launch) (E : xE) {G : xw_G} {h0 : Nat} {op ae hw : Bool} {mo ac kr pl : Int32} {pf pc vr pw : Int64} {rl : Value} (hV : G h0 = some (eVW op mo ac kr pl pf pc ae rl vr hw pw)) : XMk l E y_VW_lose w_VW_lose rm_VW_lose [.ref h0] G (fun r G' => r = none ∧ G' = va_up G h0 (some (eVW op mo ac kr (3) pf pc ae rl vr hw pw))) 0 0 := by
  refine XM_of [some (.ref h0)] (XZ_st E) (by decide) rfl rfl rfl (Nat.le_of_ble_eq_true rfl) (fun p e s m below meth c C hnm => ?_)
  refine x_aload_n C d_VW_lose_0 rfl rfl ?_
  refine x_iconst C (v := 3) d_VW_lose_1 (by decide) ?_
  refine x_put C hV rfl (in_VW _) ty_VW tok_VW nm_VW 4 (by decide) (List.mem_cons_of_mem _ f_VW_25) rfl (tok_VW 4 (by decide)) rfl rfl (Nat.le_of_ble_eq_true rfl) d_VW_lose_2 ?_
  exact x_vret C (Nat.le_of_ble_eq_true rfl) (Nat.le_of_ble_eq_true rfl) d_VW_lose_5 ⟨rfl, rfl⟩
set_option maxRecDepth 100000 in
set_option maxHeartbeats 4000000 in
theorem q_VW_noteWritten (l : Launch) (E : xE) {G : xw_G} {h0 : Nat} {op ae hw : Bool} {mo ac kr pl : Int32} {pf pc vr pw : Int64} {rl : Value} (hV : G h0 = some (eVW op mo ac kr pl pf pc ae rl vr hw pw)) {z : Int64} : XMk l E y_VW_noteWritten w_VW_noteWritten rm_VW_noteWritten [.ref h0, .long (z)] G (fun r G' => r = none ∧ G' = va_up G h0 (some (eVW op mo ac kr pl pf pc ae rl vr (true) (z)))) 0 0 := by
  refine XM_of [some (.ref h0), some (.long (z)), none] (XZ_st E) (by decide) rfl rfl rfl (Nat.le_of_ble_eq_true rfl) (fun p e s m below meth c C hnm => ?_)
  refine x_aload_n C d_VW_noteWritten_0 rfl rfl ?_
  refine x_iconst C (v := 1) d_VW_noteWritten_1 (by decide) ?_
  refine x_put C hV rfl (in_VW _) ty_VW tok_VW nm_VW 10 (by decide) (List.mem_cons_of_mem _ f_VW_31) rfl (tok_VW 10 (by decide)) rfl rfl (Nat.le_of_ble_eq_true rfl) d_VW_noteWritten_2 ?_
  refine x_aload_n C d_VW_noteWritten_5 rfl rfl ?_
  refine x_lload_n C d_VW_noteWritten_6 rfl rfl ?_
  refine x_put2 C rfl (in_VW _) ty_VW tok_VW nm_VW 11 (by decide) (List.mem_cons_of_mem _ f_VW_71) rfl (tok_VW 11 (by decide)) rfl rfl (Nat.le_of_ble_eq_true rfl) d_VW_noteWritten_7 ?_
  exact x_vret C (Nat.le_of_ble_eq_true rfl) (Nat.le_of_ble_eq_true rfl) d_VW_noteWritten_10 ⟨rfl, rfl⟩
set_option maxRecDepth 100000 in
set_option maxHeartbeats 4000000 in
theorem q_VW_begin (l : Launch) (E : xE) {G : xw_G} {h0 : Nat} {op ae hw : Bool} {mo ac kr pl : Int32} {pf pc vr pw : Int64} {rl : Value} (hV : G h0 = some (eVW op mo ac kr pl pf pc ae rl vr hw pw)) {m2 a2 : Int32} : XMk l E y_VW_begin w_VW_begin rm_VW_begin [.ref h0, .int (m2), .int (a2)] G (fun r G' => r = none ∧ G' = va_up G h0 (some (eVW (true) (m2) (a2) (0) (0) pf pc (false) (.null) (0) (false) pw))) 0 0 := by
  refine XM_of [some (.ref h0), some (.int (m2)), some (.int (a2))] (XZ_st E) (by decide) rfl rfl rfl (Nat.le_of_ble_eq_true rfl) (fun p e s m below meth c C hnm => ?_)
  refine x_aload_n C d_VW_begin_0 rfl rfl ?_
  refine x_iconst C (v := 1) d_VW_begin_1 (by decide) ?_
  refine x_put C hV rfl (in_VW _) ty_VW tok_VW nm_VW 0 (by decide) (List.mem_cons_of_mem _ f_VW_9) rfl (tok_VW 0 (by decide)) rfl rfl (Nat.le_of_ble_eq_true rfl) d_VW_begin_2 ?_
  refine x_aload_n C d_VW_begin_5 rfl rfl ?_
  refine x_iload_n C d_VW_begin_6 rfl rfl ?_
  refine x_put2 C rfl (in_VW _) ty_VW tok_VW nm_VW 1 (by decide) (List.mem_cons_of_mem _ f_VW_15) rfl (tok_VW 1 (by decide)) rfl rfl (Nat.le_of_ble_eq_true rfl) d_VW_begin_7 ?_
  refine x_aload_n C d_VW_begin_10 rfl rfl ?_
  refine x_iload_n C d_VW_begin_11 rfl rfl ?_
  refine x_put2 C rfl (in_VW _) ty_VW tok_VW nm_VW 2 (by decide) (List.mem_cons_of_mem _ f_VW_19) rfl (tok_VW 2 (by decide)) rfl rfl (Nat.le_of_ble_eq_true rfl) d_VW_begin_12 ?_
  refine x_aload_n C d_VW_begin_15 rfl rfl ?_
  refine x_iconst C (v := 0) d_VW_begin_16 (by decide) ?_
  refine x_put2 C rfl (in_VW _) ty_VW tok_VW nm_VW 3 (by decide) (List.mem_cons_of_mem _ f_VW_22) rfl (tok_VW 3 (by decide)) rfl rfl (Nat.le_of_ble_eq_true rfl) d_VW_begin_17 ?_
  refine x_aload_n C d_VW_begin_20 rfl rfl ?_
  refine x_iconst C (v := 0) d_VW_begin_21 (by decide) ?_
  refine x_put2 C rfl (in_VW _) ty_VW tok_VW nm_VW 4 (by decide) (List.mem_cons_of_mem _ f_VW_25) rfl (tok_VW 4 (by decide)) rfl rfl (Nat.le_of_ble_eq_true rfl) d_VW_begin_22 ?_
  refine x_aload_n C d_VW_begin_25 rfl rfl ?_
  refine x_iconst C (v := 0) d_VW_begin_26 (by decide) ?_
  refine x_put2 C rfl (in_VW _) ty_VW tok_VW nm_VW 7 (by decide) (List.mem_cons_of_mem _ f_VW_28) rfl (tok_VW 7 (by decide)) rfl rfl (Nat.le_of_ble_eq_true rfl) d_VW_begin_27 ?_
  refine x_aload_n C d_VW_begin_30 rfl rfl ?_
  refine x_iconst C (v := 0) d_VW_begin_31 (by decide) ?_
  refine x_put2 C rfl (in_VW _) ty_VW tok_VW nm_VW 10 (by decide) (List.mem_cons_of_mem _ f_VW_31) rfl (tok_VW 10 (by decide)) rfl rfl (Nat.le_of_ble_eq_true rfl) d_VW_begin_32 ?_
  refine x_aload_n C d_VW_begin_35 rfl rfl ?_
  refine x_callV0 C (q_VW_forgetRead l E (G := va_up G h0 (some (eVW true m2 a2 0 0 pf pc false rl vr false pw))) (va_up_self _ _ _)) (lk_VW_34 C.hts (Nat.le_of_ble_eq_true rfl) (Nat.le_of_ble_eq_true rfl)) (va_up_self _ _ _) rfl rfl d_VW_begin_36 (Nat.le_of_ble_eq_true rfl) (Nat.le_of_ble_eq_true rfl) (Nat.le_of_ble_eq_true rfl) (fun r G' h => ?_)
  obtain ⟨rfl, rfl⟩ := h
  exact x_vret C (Nat.le_of_ble_eq_true rfl) (Nat.le_of_ble_eq_true rfl) d_VW_begin_39 ⟨rfl, by rw [bx_uu]⟩
set_option maxRecDepth 100000 in
set_option maxHeartbeats 4000000 in
theorem q_VW_refusalToRead (l : Launch) (E : xE) {G : xw_G} {h0 : Nat} {op ae hw : Bool} {mo ac kr pl : Int32} {pf pc vr pw : Int64} {rl : Value} (hV : G h0 = some (eVW op mo ac kr pl pf pc ae rl vr hw pw)) {b : Int32} : XMk l E y_VW_refusalToRead w_VW_refusalToRead rm_VW_refusalToRead [.ref h0, .int (b)] G (fun r G' => r = some (.int (refRead op mo ac b)) ∧ G = G') 0 0 := by
  refine XM_of [some (.ref h0), some (.int (b)), none] (XZ_st E) (by decide) rfl rfl rfl (Nat.le_of_ble_eq_true rfl) (fun p e s m below meth c C hnm => ?_)
  refine x_aload_n C d_VW_refusalToRead_0 rfl rfl ?_
  refine x_get C hV rfl (in_VW _) 0 (by decide) (List.mem_cons_of_mem _ f_VW_9) rfl d_VW_refusalToRead_1 ?_
  refine x_if_ne C 10 d_VW_refusalToRead_4 (by decide) (fun c_4 => ?_) (fun c_4 => ?_)
  · refine x_aload_n C d_VW_refusalToRead_10 rfl rfl ?_
    refine x_get C hV rfl (in_VW _) 1 (by decide) (List.mem_cons_of_mem _ f_VW_15) rfl d_VW_refusalToRead_11 ?_
    refine x_if_eq C 25 d_VW_refusalToRead_14 (by decide) (fun c_14 => ?_) (fun c_14 => ?_)
    · refine x_iconst C (v := 1) d_VW_refusalToRead_25 (by decide) ?_
      refine x_goto C 30 d_VW_refusalToRead_26 (by decide) ?_
      refine x_istore_n C d_VW_refusalToRead_30 rfl (Nat.le_of_ble_eq_true rfl) rfl ?_
      refine x_iload_n C d_VW_refusalToRead_31 rfl rfl ?_
      refine x_if_eq C 47 d_VW_refusalToRead_32 (by decide) (fun c_32 => ?_) (fun c_32 => ?_)
      · refine x_bipush C (v := 47) d_VW_refusalToRead_47 (by decide) ?_
        exact x_iret C (Nat.le_of_ble_eq_true rfl) (Nat.le_of_ble_eq_true rfl) d_VW_refusalToRead_49 ⟨congrArg some (congrArg Value.int (by simp_all [refRead, bI_0])), rfl⟩
      · refine x_aload_n C d_VW_refusalToRead_35 rfl rfl ?_
        refine x_get C hV rfl (in_VW _) 2 (by decide) (List.mem_cons_of_mem _ f_VW_19) rfl d_VW_refusalToRead_36 ?_
        refine x_iload_n C d_VW_refusalToRead_39 rfl rfl ?_
        refine x_icmp_eq C 47 d_VW_refusalToRead_40 (by decide) (fun c_40 => ?_) (fun c_40 => ?_)
        · refine x_bipush C (v := 47) d_VW_refusalToRead_47 (by decide) ?_
          exact x_iret C (Nat.le_of_ble_eq_true rfl) (Nat.le_of_ble_eq_true rfl) d_VW_refusalToRead_49 ⟨congrArg some (congrArg Value.int (by simp_all [refRead, bI_0])), rfl⟩
        · refine x_iconst C (v := 0) d_VW_refusalToRead_43 (by decide) ?_
          refine x_goto C 49 d_VW_refusalToRead_44 (by decide) ?_
          exact x_iret C (Nat.le_of_ble_eq_true rfl) (Nat.le_of_ble_eq_true rfl) d_VW_refusalToRead_49 ⟨congrArg some (congrArg Value.int (by simp_all [refRead, bI_0])), rfl⟩
    · refine x_aload_n C d_VW_refusalToRead_17 rfl rfl ?_
      refine x_get C hV rfl (in_VW _) 1 (by decide) (List.mem_cons_of_mem _ f_VW_15) rfl d_VW_refusalToRead_18 ?_
      refine x_iconst C (v := 2) d_VW_refusalToRead_21 (by decide) ?_
      refine x_icmp_ne C 29 d_VW_refusalToRead_22 (by decide) (fun c_22 => ?_) (fun c_22 => ?_)
      · refine x_iconst C (v := 0) d_VW_refusalToRead_29 (by decide) ?_
        refine x_istore_n C d_VW_refusalToRead_30 rfl (Nat.le_of_ble_eq_true rfl) rfl ?_
        refine x_iload_n C d_VW_refusalToRead_31 rfl rfl ?_
        refine x_if_eq C 47 d_VW_refusalToRead_32 (by decide) (fun c_32 => ?_) (fun c_32 => ?_)
        · refine x_bipush C (v := 47) d_VW_refusalToRead_47 (by decide) ?_
          exact x_iret C (Nat.le_of_ble_eq_true rfl) (Nat.le_of_ble_eq_true rfl) d_VW_refusalToRead_49 ⟨congrArg some (congrArg Value.int (by simp_all [refRead, bI_0])), rfl⟩
        · refine x_aload_n C d_VW_refusalToRead_35 rfl rfl ?_
          refine x_get C hV rfl (in_VW _) 2 (by decide) (List.mem_cons_of_mem _ f_VW_19) rfl d_VW_refusalToRead_36 ?_
          refine x_iload_n C d_VW_refusalToRead_39 rfl rfl ?_
          refine x_icmp_eq C 47 d_VW_refusalToRead_40 (by decide) (fun c_40 => ?_) (fun c_40 => ?_)
          · refine x_bipush C (v := 47) d_VW_refusalToRead_47 (by decide) ?_
            exact x_iret C (Nat.le_of_ble_eq_true rfl) (Nat.le_of_ble_eq_true rfl) d_VW_refusalToRead_49 ⟨congrArg some (congrArg Value.int (by simp_all [refRead, bI_0])), rfl⟩
          · refine x_iconst C (v := 0) d_VW_refusalToRead_43 (by decide) ?_
            refine x_goto C 49 d_VW_refusalToRead_44 (by decide) ?_
            exact x_iret C (Nat.le_of_ble_eq_true rfl) (Nat.le_of_ble_eq_true rfl) d_VW_refusalToRead_49 ⟨congrArg some (congrArg Value.int (by simp_all [refRead, bI_0])), rfl⟩
      · refine x_iconst C (v := 1) d_VW_refusalToRead_25 (by decide) ?_
        refine x_goto C 30 d_VW_refusalToRead_26 (by decide) ?_
        refine x_istore_n C d_VW_refusalToRead_30 rfl (Nat.le_of_ble_eq_true rfl) rfl ?_
        refine x_iload_n C d_VW_refusalToRead_31 rfl rfl ?_
        refine x_if_eq C 47 d_VW_refusalToRead_32 (by decide) (fun c_32 => ?_) (fun c_32 => ?_)
        · refine x_bipush C (v := 47) d_VW_refusalToRead_47 (by decide) ?_
          exact x_iret C (Nat.le_of_ble_eq_true rfl) (Nat.le_of_ble_eq_true rfl) d_VW_refusalToRead_49 ⟨congrArg some (congrArg Value.int (by simp_all [refRead, bI_0])), rfl⟩
        · refine x_aload_n C d_VW_refusalToRead_35 rfl rfl ?_
          refine x_get C hV rfl (in_VW _) 2 (by decide) (List.mem_cons_of_mem _ f_VW_19) rfl d_VW_refusalToRead_36 ?_
          refine x_iload_n C d_VW_refusalToRead_39 rfl rfl ?_
          refine x_icmp_eq C 47 d_VW_refusalToRead_40 (by decide) (fun c_40 => ?_) (fun c_40 => ?_)
          · refine x_bipush C (v := 47) d_VW_refusalToRead_47 (by decide) ?_
            exact x_iret C (Nat.le_of_ble_eq_true rfl) (Nat.le_of_ble_eq_true rfl) d_VW_refusalToRead_49 ⟨congrArg some (congrArg Value.int (by simp_all [refRead, bI_0])), rfl⟩
          · refine x_iconst C (v := 0) d_VW_refusalToRead_43 (by decide) ?_
            refine x_goto C 49 d_VW_refusalToRead_44 (by decide) ?_
            exact x_iret C (Nat.le_of_ble_eq_true rfl) (Nat.le_of_ble_eq_true rfl) d_VW_refusalToRead_49 ⟨congrArg some (congrArg Value.int (by simp_all [refRead, bI_0])), rfl⟩
  · refine x_bipush C (v := 42) d_VW_refusalToRead_7 (by decide) ?_
    exact x_iret C (Nat.le_of_ble_eq_true rfl) (Nat.le_of_ble_eq_true rfl) d_VW_refusalToRead_9 ⟨congrArg some (congrArg Value.int (by simp_all [refRead, bI_0])), rfl⟩
set_option maxRecDepth 100000 in
set_option maxHeartbeats 4000000 in
theorem q_VW_refusalToWrite (l : Launch) (E : xE) {G : xw_G} {h0 : Nat} {op ae hw : Bool} {mo ac kr pl : Int32} {pf pc vr pw : Int64} {rl : Value} (hV : G h0 = some (eVW op mo ac kr pl pf pc ae rl vr hw pw)) : XMk l E y_VW_refusalToWrite w_VW_refusalToWrite rm_VW_refusalToWrite [.ref h0] G (fun r G' => r = some (.int (refWrite op mo ac)) ∧ G = G') 0 0 := by
  refine XM_of [some (.ref h0)] (XZ_st E) (by decide) rfl rfl rfl (Nat.le_of_ble_eq_true rfl) (fun p e s m below meth c C hnm => ?_)
  refine x_aload_n C d_VW_refusalToWrite_0 rfl rfl ?_
  refine x_get C hV rfl (in_VW _) 0 (by decide) (List.mem_cons_of_mem _ f_VW_9) rfl d_VW_refusalToWrite_1 ?_
  refine x_if_ne C 10 d_VW_refusalToWrite_4 (by decide) (fun c_4 => ?_) (fun c_4 => ?_)
  · refine x_aload_n C d_VW_refusalToWrite_10 rfl rfl ?_
    refine x_get C hV rfl (in_VW _) 1 (by decide) (List.mem_cons_of_mem _ f_VW_15) rfl d_VW_refusalToWrite_11 ?_
    refine x_if_eq C 32 d_VW_refusalToWrite_14 (by decide) (fun c_14 => ?_) (fun c_14 => ?_)
    · refine x_bipush C (v := 48) d_VW_refusalToWrite_32 (by decide) ?_
      refine x_goto C 38 d_VW_refusalToWrite_34 (by decide) ?_
      exact x_iret C (Nat.le_of_ble_eq_true rfl) (Nat.le_of_ble_eq_true rfl) d_VW_refusalToWrite_38 ⟨congrArg some (congrArg Value.int (by simp_all [refWrite, bI_0])), rfl⟩
    · refine x_aload_n C d_VW_refusalToWrite_17 rfl rfl ?_
      refine x_get C hV rfl (in_VW _) 1 (by decide) (List.mem_cons_of_mem _ f_VW_15) rfl d_VW_refusalToWrite_18 ?_
      refine x_iconst C (v := 2) d_VW_refusalToWrite_21 (by decide) ?_
      refine x_icmp_ne C 37 d_VW_refusalToWrite_22 (by decide) (fun c_22 => ?_) (fun c_22 => ?_)
      · refine x_iconst C (v := 0) d_VW_refusalToWrite_37 (by decide) ?_
        exact x_iret C (Nat.le_of_ble_eq_true rfl) (Nat.le_of_ble_eq_true rfl) d_VW_refusalToWrite_38 ⟨congrArg some (congrArg Value.int (by simp_all [refWrite, bI_0])), rfl⟩
      · refine x_aload_n C d_VW_refusalToWrite_25 rfl rfl ?_
        refine x_get C hV rfl (in_VW _) 2 (by decide) (List.mem_cons_of_mem _ f_VW_19) rfl d_VW_refusalToWrite_26 ?_
        refine x_if_ne C 37 d_VW_refusalToWrite_29 (by decide) (fun c_29 => ?_) (fun c_29 => ?_)
        · refine x_iconst C (v := 0) d_VW_refusalToWrite_37 (by decide) ?_
          exact x_iret C (Nat.le_of_ble_eq_true rfl) (Nat.le_of_ble_eq_true rfl) d_VW_refusalToWrite_38 ⟨congrArg some (congrArg Value.int (by simp_all [refWrite, bI_0])), rfl⟩
        · refine x_bipush C (v := 48) d_VW_refusalToWrite_32 (by decide) ?_
          refine x_goto C 38 d_VW_refusalToWrite_34 (by decide) ?_
          exact x_iret C (Nat.le_of_ble_eq_true rfl) (Nat.le_of_ble_eq_true rfl) d_VW_refusalToWrite_38 ⟨congrArg some (congrArg Value.int (by simp_all [refWrite, bI_0])), rfl⟩
  · refine x_bipush C (v := 42) d_VW_refusalToWrite_7 (by decide) ?_
    exact x_iret C (Nat.le_of_ble_eq_true rfl) (Nat.le_of_ble_eq_true rfl) d_VW_refusalToWrite_9 ⟨congrArg some (congrArg Value.int (by simp_all [refWrite, bI_0])), rfl⟩
set_option maxRecDepth 100000 in
set_option maxHeartbeats 4000000 in
theorem q_VW_refusalToChange (l : Launch) (E : xE) {G : xw_G} {h0 : Nat} {op ae hw : Bool} {mo ac kr pl : Int32} {pf pc vr pw : Int64} {rl : Value} (hV : G h0 = some (eVW op mo ac kr pl pf pc ae rl vr hw pw)) : XMk l E y_VW_refusalToChange w_VW_refusalToChange rm_VW_refusalToChange [.ref h0] G (fun r G' => r = some (.int (refChange op mo)) ∧ G = G') 0 0 := by
  refine XM_of [some (.ref h0)] (XZ_st E) (by decide) rfl rfl rfl (Nat.le_of_ble_eq_true rfl) (fun p e s m below meth c C hnm => ?_)
  refine x_aload_n C d_VW_refusalToChange_0 rfl rfl ?_
  refine x_get C hV rfl (in_VW _) 0 (by decide) (List.mem_cons_of_mem _ f_VW_9) rfl d_VW_refusalToChange_1 ?_
  refine x_if_ne C 10 d_VW_refusalToChange_4 (by decide) (fun c_4 => ?_) (fun c_4 => ?_)
  · refine x_aload_n C d_VW_refusalToChange_10 rfl rfl ?_
    refine x_get C hV rfl (in_VW _) 1 (by decide) (List.mem_cons_of_mem _ f_VW_15) rfl d_VW_refusalToChange_11 ?_
    refine x_iconst C (v := 2) d_VW_refusalToChange_14 (by decide) ?_
    refine x_icmp_ne C 22 d_VW_refusalToChange_15 (by decide) (fun c_15 => ?_) (fun c_15 => ?_)
    · refine x_bipush C (v := 49) d_VW_refusalToChange_22 (by decide) ?_
      exact x_iret C (Nat.le_of_ble_eq_true rfl) (Nat.le_of_ble_eq_true rfl) d_VW_refusalToChange_24 ⟨congrArg some (congrArg Value.int (by simp_all [refChange, bI_0])), rfl⟩
    · refine x_iconst C (v := 0) d_VW_refusalToChange_18 (by decide) ?_
      refine x_goto C 24 d_VW_refusalToChange_19 (by decide) ?_
      exact x_iret C (Nat.le_of_ble_eq_true rfl) (Nat.le_of_ble_eq_true rfl) d_VW_refusalToChange_24 ⟨congrArg some (congrArg Value.int (by simp_all [refChange, bI_0])), rfl⟩
  · refine x_bipush C (v := 42) d_VW_refusalToChange_7 (by decide) ?_
    exact x_iret C (Nat.le_of_ble_eq_true rfl) (Nat.le_of_ble_eq_true rfl) d_VW_refusalToChange_9 ⟨congrArg some (congrArg Value.int (by simp_all [refChange, bI_0])), rfl⟩
set_option maxRecDepth 100000 in
set_option maxHeartbeats 4000000 in
theorem q_VW_statusOfNoRecord (l : Launch) (E : xE) {G : xw_G} {h0 : Nat} {op ae hw : Bool} {mo ac kr pl : Int32} {pf pc vr pw : Int64} {rl : Value} (hV : G h0 = some (eVW op mo ac kr pl pf pc ae rl vr hw pw)) : XMk l E y_VW_statusOfNoRecord w_VW_statusOfNoRecord rm_VW_statusOfNoRecord [.ref h0] G (fun r G' => r = some (.int (if ac = 0 then 43 else 23)) ∧ G = G') 0 0 := by
  refine XM_of [some (.ref h0)] (XZ_st E) (by decide) rfl rfl rfl (Nat.le_of_ble_eq_true rfl) (fun p e s m below meth c C hnm => ?_)
  refine x_aload_n C d_VW_statusOfNoRecord_0 rfl rfl ?_
  refine x_get C hV rfl (in_VW _) 2 (by decide) (List.mem_cons_of_mem _ f_VW_19) rfl d_VW_statusOfNoRecord_1 ?_
  refine x_if_ne C 12 d_VW_statusOfNoRecord_4 (by decide) (fun c_4 => ?_) (fun c_4 => ?_)
  · refine x_bipush C (v := 23) d_VW_statusOfNoRecord_12 (by decide) ?_
    exact x_iret C (Nat.le_of_ble_eq_true rfl) (Nat.le_of_ble_eq_true rfl) d_VW_statusOfNoRecord_14 ⟨congrArg some (congrArg Value.int (by simp_all [])), rfl⟩
  · refine x_bipush C (v := 43) d_VW_statusOfNoRecord_7 (by decide) ?_
    refine x_goto C 14 d_VW_statusOfNoRecord_9 (by decide) ?_
    exact x_iret C (Nat.le_of_ble_eq_true rfl) (Nat.le_of_ble_eq_true rfl) d_VW_statusOfNoRecord_14 ⟨congrArg some (congrArg Value.int (by simp_all [])), rfl⟩
set_option maxRecDepth 100000 in
set_option maxHeartbeats 4000000 in
theorem q_VW_standAt (l : Launch) (E : xE) {G : xw_G} {h0 : Nat} {op ae hw : Bool} {mo ac kr pl : Int32} {pf pc vr pw : Int64} {rl : Value} (hV : G h0 = some (eVW op mo ac kr pl pf pc ae rl vr hw pw)) {a so : Nat} {fd cm : Int64} (hN : G a = some (eEN fd cm so)) : XMk l E y_VW_standAt w_VW_standAt rm_VW_standAt [.ref h0, .ref a] G (fun r G' => r = none ∧ G' = va_up G h0 (some (eVW op mo ac kr (2) (fd) (cm) (false) rl vr hw pw))) 0 0 := by
  refine XM_of [some (.ref h0), some (.ref a)] (XZ_st E) (by decide) rfl rfl rfl (Nat.le_of_ble_eq_true rfl) (fun p e s m below meth c C hnm => ?_)
  refine x_aload_n C d_VW_standAt_0 rfl rfl ?_
  refine x_iconst C (v := 2) d_VW_standAt_1 (by decide) ?_
  refine x_put C hV rfl (in_VW _) ty_VW tok_VW nm_VW 4 (by decide) (List.mem_cons_of_mem _ f_VW_25) rfl (tok_VW 4 (by decide)) rfl rfl (Nat.le_of_ble_eq_true rfl) d_VW_standAt_2 ?_
  refine x_aload_n C d_VW_standAt_5 rfl rfl ?_
  refine x_aload_n C d_VW_standAt_6 rfl rfl ?_
  refine x_get C (xw_keep hN (xw_neC hN hV (by decide))) rfl (in_EN _) 0 (by decide) (List.mem_cons_of_mem _ f_VW_45) rfl d_VW_standAt_7 ?_
  refine x_put2 C rfl (in_VW _) ty_VW tok_VW nm_VW 5 (by decide) (List.mem_cons_of_mem _ f_VW_50) rfl (tok_VW 5 (by decide)) rfl rfl (Nat.le_of_ble_eq_true rfl) d_VW_standAt_10 ?_
  refine x_aload_n C d_VW_standAt_13 rfl rfl ?_
  refine x_aload_n C d_VW_standAt_14 rfl rfl ?_
  refine x_get C (xw_keep hN (xw_neC hN hV (by decide))) rfl (in_EN _) 1 (by decide) (List.mem_cons_of_mem _ f_VW_53) rfl d_VW_standAt_15 ?_
  refine x_put2 C rfl (in_VW _) ty_VW tok_VW nm_VW 6 (by decide) (List.mem_cons_of_mem _ f_VW_56) rfl (tok_VW 6 (by decide)) rfl rfl (Nat.le_of_ble_eq_true rfl) d_VW_standAt_18 ?_
  refine x_aload_n C d_VW_standAt_21 rfl rfl ?_
  refine x_iconst C (v := 0) d_VW_standAt_22 (by decide) ?_
  refine x_put2 C rfl (in_VW _) ty_VW tok_VW nm_VW 7 (by decide) (List.mem_cons_of_mem _ f_VW_28) rfl (tok_VW 7 (by decide)) rfl rfl (Nat.le_of_ble_eq_true rfl) d_VW_standAt_23 ?_
  exact x_vret C (Nat.le_of_ble_eq_true rfl) (Nat.le_of_ble_eq_true rfl) d_VW_standAt_26 ⟨rfl, rfl⟩
set_option maxRecDepth 100000 in
set_option maxHeartbeats 4000000 in
theorem q_VW_noteRead (l : Launch) (E : xE) {G : xw_G} {h0 : Nat} {op ae hw : Bool} {mo ac kr pl : Int32} {pf pc vr pw : Int64} {rl : Value} (hV : G h0 = some (eVW op mo ac kr pl pf pc ae rl vr hw pw)) {a so : Nat} {fd cm : Int64} (hN : G a = some (eEN fd cm so)) {by1 sw : Int64} {th : Bool} (hS : G so = some (eST by1 th sw)) : XMk l E y_VW_noteRead w_VW_noteRead rm_VW_noteRead [.ref h0, .ref a] G (fun r G' => r = none ∧ G' = va_up G h0 (some (eVW op mo ac kr (1) (fd) (cm) (false) (.ref so) (by1) hw pw))) 0 0 := by
  refine XM_of [some (.ref h0), some (.ref a)] (XZ_st E) (by decide) rfl rfl rfl (Nat.le_of_ble_eq_true rfl) (fun p e s m below meth c C hnm => ?_)
  refine x_aload_n C d_VW_noteRead_0 rfl rfl ?_
  refine x_aload_n C d_VW_noteRead_1 rfl rfl ?_
  refine x_callV1 C (q_VW_standAt l E (G := G) hV hN) (lk_VW_59 C.hts (Nat.le_of_ble_eq_true rfl) (Nat.le_of_ble_eq_true rfl)) hV rfl rfl d_VW_noteRead_2 (Nat.le_of_ble_eq_true rfl) (Nat.le_of_ble_eq_true rfl) (Nat.le_of_ble_eq_true rfl) (fun r G' h => ?_)
  obtain ⟨rfl, rfl⟩ := h
  refine x_aload_n C d_VW_noteRead_5 rfl rfl ?_
  refine x_iconst C (v := 1) d_VW_noteRead_6 (by decide) ?_
  refine x_put2 C rfl (in_VW _) ty_VW tok_VW nm_VW 4 (by decide) (List.mem_cons_of_mem _ f_VW_25) rfl (tok_VW 4 (by decide)) rfl rfl (Nat.le_of_ble_eq_true rfl) d_VW_noteRead_7 ?_
  refine x_aload_n C d_VW_noteRead_10 rfl rfl ?_
  refine x_aload_n C d_VW_noteRead_11 rfl rfl ?_
  refine x_get C (xw_keep hN (xw_neC hN hV (by decide))) rfl (in_EN _) 2 (by decide) (List.mem_cons_of_mem _ f_VW_63) rfl d_VW_noteRead_12 ?_
  refine x_put2 C rfl (in_VW _) ty_VW tok_VW nm_VW 8 (by decide) (List.mem_cons_of_mem _ f_VW_37) rfl (tok_VW 8 (by decide)) rfl rfl (Nat.le_of_ble_eq_true rfl) d_VW_noteRead_15 ?_
  refine x_aload_n C d_VW_noteRead_18 rfl rfl ?_
  refine x_aload_n C d_VW_noteRead_19 rfl rfl ?_
  refine x_get C (xw_keep hN (xw_neC hN hV (by decide))) rfl (in_EN _) 2 (by decide) (List.mem_cons_of_mem _ f_VW_63) rfl d_VW_noteRead_20 ?_
  refine x_get C (xw_keep hS (xw_neC hS hV (by decide))) rfl (in_ST _) 0 (by decide) (List.mem_cons_of_mem _ f_VW_66) rfl d_VW_noteRead_23 ?_
  refine x_put2 C rfl (in_VW _) ty_VW tok_VW nm_VW 9 (by decide) (List.mem_cons_of_mem _ f_VW_41) rfl (tok_VW 9 (by decide)) rfl rfl (Nat.le_of_ble_eq_true rfl) d_VW_noteRead_26 ?_
  exact x_vret C (Nat.le_of_ble_eq_true rfl) (Nat.le_of_ble_eq_true rfl) d_VW_noteRead_29 ⟨rfl, rfl⟩
set_option maxRecDepth 100000 in
set_option maxHeartbeats 4000000 in
theorem q_ST_init (l : Launch) (E : xE) {G : xw_G} {h0 : Nat} {b0 sw z : Int64} {th : Bool} (hS : G h0 = some (eST b0 th sw)) : XMk l E y_ST_init w_ST_init rm_ST_init [.ref h0, .long (z)] G (fun r G' => r = none ∧ G' = va_up G h0 (some (eST z true sw))) 0 0 := by
  refine XM_of [some (.ref h0), some (.long (z)), none] (XZ_st E) (by decide) rfl rfl rfl (Nat.le_of_ble_eq_true rfl) (fun p e s m below meth c C hnm => ?_)
  refine x_aload_n C d_ST_init_0 rfl rfl ?_
  refine x_objInit C (List.mem_cons_of_mem _ m_ST_1) (List.mem_cons_of_mem _ ki_OB_init) (List.mem_cons_of_mem _ kc_OB_init) rfl d_ST_init_1 (Nat.le_of_ble_eq_true rfl) (Nat.le_of_ble_eq_true rfl) ?_
  refine x_aload_n C d_ST_init_4 rfl rfl ?_
  refine x_lload_n C d_ST_init_5 rfl rfl ?_
  refine x_put C hS rfl (in_ST _) ty_ST tok_ST nm_ST 0 (by decide) (List.mem_cons_of_mem _ f_ST_7) rfl (tok_ST 0 (by decide)) rfl rfl (Nat.le_of_ble_eq_true rfl) d_ST_init_6 ?_
  refine x_aload_n C d_ST_init_9 rfl rfl ?_
  refine x_iconst C (v := 1) d_ST_init_10 (by decide) ?_
  refine x_put2 C rfl (in_ST _) ty_ST tok_ST nm_ST 1 (by decide) (List.mem_cons_of_mem _ f_ST_13) rfl (tok_ST 1 (by decide)) rfl rfl (Nat.le_of_ble_eq_true rfl) d_ST_init_11 ?_
  exact x_vret C (Nat.le_of_ble_eq_true rfl) (Nat.le_of_ble_eq_true rfl) d_ST_init_14 ⟨rfl, rfl⟩
set_option maxRecDepth 100000 in
set_option maxHeartbeats 4000000 in
theorem q_EN_init (l : Launch) (E : xE) {G : xw_G} {h0 so : Nat} {f0 c0 x y : Int64} {v0 : Value} (hN : G h0 = some (.inr (1, [.long f0, .long c0, v0]))) : XMk l E y_EN_init w_EN_init rm_EN_init [.ref h0, .long (x), .long (y), .ref so] G (fun r G' => r = none ∧ G' = va_up G h0 (some (eEN x y so))) 0 0 := by
  refine XM_of [some (.ref h0), some (.long (x)), none, some (.long (y)), none, some (.ref so)] (XZ_st E) (by decide) rfl rfl rfl (Nat.le_of_ble_eq_true rfl) (fun p e s m below meth c C hnm => ?_)
  refine x_aload_n C d_EN_init_0 rfl rfl ?_
  refine x_objInit C (List.mem_cons_of_mem _ m_EN_1) (List.mem_cons_of_mem _ ki_OB_init) (List.mem_cons_of_mem _ kc_OB_init) rfl d_EN_init_1 (Nat.le_of_ble_eq_true rfl) (Nat.le_of_ble_eq_true rfl) ?_
  refine x_aload_n C d_EN_init_4 rfl rfl ?_
  refine x_lload_n C d_EN_init_5 rfl rfl ?_
  refine x_putF C hN rfl (in_EN _) ty_EN tok_EN nm_EN 0 (by decide) (List.mem_cons_of_mem _ f_EN_7) rfl hnm rfl (tok_EN 0 (by decide)) rfl rfl (Nat.le_of_ble_eq_true rfl) d_EN_init_6 ?_
  refine x_aload_n C d_EN_init_9 rfl rfl ?_
  refine x_lload_n C d_EN_init_10 rfl rfl ?_
  refine x_putF2 C rfl (in_EN _) ty_EN tok_EN nm_EN 1 (by decide) (List.mem_cons_of_mem _ f_EN_13) rfl hnm rfl (tok_EN 1 (by decide)) rfl rfl (Nat.le_of_ble_eq_true rfl) d_EN_init_11 ?_
  refine x_aload_n C d_EN_init_14 rfl rfl ?_
  refine x_aload C d_EN_init_15 rfl ?_
  refine x_putF2 C rfl (in_EN _) ty_EN tok_EN nm_EN 2 (by decide) (List.mem_cons_of_mem _ f_EN_16) rfl hnm rfl (tok_EN 2 (by decide)) rfl rfl (Nat.le_of_ble_eq_true rfl) d_EN_init_17 ?_
  exact x_vret C (Nat.le_of_ble_eq_true rfl) (Nat.le_of_ble_eq_true rfl) d_EN_init_20 ⟨rfl, rfl⟩
set_option maxRecDepth 100000 in
set_option maxHeartbeats 4000000 in
theorem q_EN_standsAheadOf (l : Launch) (E : xE) {G : xw_G} {a so : Nat} {fd cm f d : Int64} (hN : G a = some (eEN fd cm so)) : XMk l E y_EN_standsAheadOf w_EN_standsAheadOf rm_EN_standsAheadOf [.ref a, .long (f), .long (d)] G (fun r G' => r = some (.int (bI (ahead fd cm f d))) ∧ G = G') 0 0 := by
  refine XM_of [some (.ref a), some (.long (f)), none, some (.long (d)), none] (XZ_st E) (by decide) rfl rfl rfl (Nat.le_of_ble_eq_true rfl) (fun p e s m below meth c C hnm => ?_)
  refine x_aload_n C d_EN_standsAheadOf_0 rfl rfl ?_
  refine x_get C hN rfl (in_EN _) 0 (by decide) (List.mem_cons_of_mem _ f_EN_7) rfl d_EN_standsAheadOf_1 ?_
  refine x_lload_n C d_EN_standsAheadOf_4 rfl rfl ?_
  refine x_lcmp C d_EN_standsAheadOf_5 ?_
  refine x_if_ne C 26 d_EN_standsAheadOf_6 (by decide) (fun c_6 => ?_) (fun c_6 => ?_)
  · refine x_aload_n C d_EN_standsAheadOf_26 rfl rfl ?_
    refine x_get C hN rfl (in_EN _) 0 (by decide) (List.mem_cons_of_mem _ f_EN_7) rfl d_EN_standsAheadOf_27 ?_
    refine x_lload_n C d_EN_standsAheadOf_30 rfl rfl ?_
    refine x_callSN2 C (q_KF_isBelow l E (G := G)) (lk_EN_20 C.hts C.hZ.2.2.2.2.2.1 (Nat.le_of_ble_eq_true rfl) (Nat.le_of_ble_eq_true rfl)) rfl d_EN_standsAheadOf_31 (Nat.le_of_ble_eq_true rfl) (Nat.le_of_ble_eq_true rfl) (Nat.le_of_ble_eq_true rfl) (fun r G' h => ?_)
    obtain ⟨rfl, rfl⟩ := h
    exact x_zret C (by first | rfl | exact bI_nar _) (Nat.le_of_ble_eq_true rfl) (Nat.le_of_ble_eq_true rfl) d_EN_standsAheadOf_34 ⟨congrArg some (congrArg Value.int (by simp_all [ahead, lg_eq, lg_ge, bI])), rfl⟩
  · refine x_aload_n C d_EN_standsAheadOf_9 rfl rfl ?_
    refine x_get C hN rfl (in_EN _) 1 (by decide) (List.mem_cons_of_mem _ f_EN_13) rfl d_EN_standsAheadOf_10 ?_
    refine x_lload_n C d_EN_standsAheadOf_13 rfl rfl ?_
    refine x_lcmp C d_EN_standsAheadOf_14 ?_
    refine x_if_ge C 22 d_EN_standsAheadOf_15 (by decide) (fun c_15 => ?_) (fun c_15 => ?_)
    · refine x_iconst C (v := 0) d_EN_standsAheadOf_22 (by decide) ?_
      refine x_goto C 34 d_EN_standsAheadOf_23 (by decide) ?_
      exact x_zret C rfl (Nat.le_of_ble_eq_true rfl) (Nat.le_of_ble_eq_true rfl) d_EN_standsAheadOf_34 ⟨congrArg some (congrArg Value.int (by simp_all [ahead, lg_eq, lg_ge, bI])), rfl⟩
    · refine x_iconst C (v := 1) d_EN_standsAheadOf_18 (by decide) ?_
      refine x_goto C 34 d_EN_standsAheadOf_19 (by decide) ?_
      exact x_zret C rfl (Nat.le_of_ble_eq_true rfl) (Nat.le_of_ble_eq_true rfl) d_EN_standsAheadOf_34 ⟨congrArg some (congrArg Value.int (by simp_all [ahead, lg_eq, lg_ge, bI])), rfl⟩
set_option maxRecDepth 100000 in
set_option maxHeartbeats 4000000 in
theorem q_KI_leaveOut (l : Launch) (E : xE) {G : xw_G} {h0 en : Nat} {db sp : Bool} {fr sz : Int32} {lo : Int64} (hK : G h0 = some (eKI db fr sz en sp lo)) {z : Int64} : XMk l E y_KI_leaveOut w_KI_leaveOut rm_KI_leaveOut [.ref h0, .long (z)] G (fun r G' => r = none ∧ G' = va_up G h0 (some (eKI db fr sz en true z))) 0 0 := by
  refine XM_of [some (.ref h0), some (.long (z)), none] (XZ_st E) (by decide) rfl rfl rfl (Nat.le_of_ble_eq_true rfl) (fun p e s m below meth c C hnm => ?_)
  refine x_aload_n C d_KI_leaveOut_0 rfl rfl ?_
  refine x_iconst C (v := 1) d_KI_leaveOut_1 (by decide) ?_
  refine x_put C hK rfl (in_KI _) ty_KI tok_KI nm_KI 4 (by decide) (List.mem_cons_of_mem _ f_KI_29) rfl (tok_KI 4 (by decide)) rfl rfl (Nat.le_of_ble_eq_true rfl) d_KI_leaveOut_2 ?_
  refine x_aload_n C d_KI_leaveOut_5 rfl rfl ?_
  refine x_lload_n C d_KI_leaveOut_6 rfl rfl ?_
  refine x_put2 C rfl (in_KI _) ty_KI tok_KI nm_KI 5 (by decide) (List.mem_cons_of_mem _ f_KI_32) rfl (tok_KI 5 (by decide)) rfl rfl (Nat.le_of_ble_eq_true rfl) d_KI_leaveOut_7 ?_
  exact x_vret C (Nat.le_of_ble_eq_true rfl) (Nat.le_of_ble_eq_true rfl) d_KI_leaveOut_10 ⟨rfl, rfl⟩
set_option maxRecDepth 100000 in
set_option maxHeartbeats 4000000 in
theorem q_KI_leavesOut (l : Launch) (E : xE) {G : xw_G} {h0 en : Nat} {db sp : Bool} {fr sz : Int32} {lo : Int64} (hK : G h0 = some (eKI db fr sz en sp lo)) {z : Int64} : XMk l E y_KI_leavesOut w_KI_leavesOut rm_KI_leavesOut [.ref h0, .long (z)] G (fun r G' => r = some (.int (bI (sp && decide (z = lo)))) ∧ G = G') 0 0 := by
  refine XM_of [some (.ref h0), some (.long (z)), none] (XZ_st E) (by decide) rfl rfl rfl (Nat.le_of_ble_eq_true rfl) (fun p e s m below meth c C hnm => ?_)
  refine x_aload_n C d_KI_leavesOut_0 rfl rfl ?_
  refine x_get C hK rfl (in_KI _) 4 (by decide) (List.mem_cons_of_mem _ f_KI_29) rfl d_KI_leavesOut_1 ?_
  refine x_if_eq C 20 d_KI_leavesOut_4 (by decide) (fun c_4 => ?_) (fun c_4 => ?_)
  · refine x_iconst C (v := 0) d_KI_leavesOut_20 (by decide) ?_
    exact x_zret C rfl (Nat.le_of_ble_eq_true rfl) (Nat.le_of_ble_eq_true rfl) d_KI_leavesOut_21 ⟨congrArg some (congrArg Value.int (by simp_all [lg_eq, bI_0, bI])), rfl⟩
  · refine x_lload_n C d_KI_leavesOut_7 rfl rfl ?_
    refine x_aload_n C d_KI_leavesOut_8 rfl rfl ?_
    refine x_get C hK rfl (in_KI _) 5 (by decide) (List.mem_cons_of_mem _ f_KI_32) rfl d_KI_leavesOut_9 ?_
    refine x_lcmp C d_KI_leavesOut_12 ?_
    refine x_if_ne C 20 d_KI_leavesOut_13 (by decide) (fun c_13 => ?_) (fun c_13 => ?_)
    · refine x_iconst C (v := 0) d_KI_leavesOut_20 (by decide) ?_
      exact x_zret C rfl (Nat.le_of_ble_eq_true rfl) (Nat.le_of_ble_eq_true rfl) d_KI_leavesOut_21 ⟨congrArg some (congrArg Value.int (by simp_all [lg_eq, bI_0, bI])), rfl⟩
    · refine x_iconst C (v := 1) d_KI_leavesOut_16 (by decide) ?_
      refine x_goto C 21 d_KI_leavesOut_17 (by decide) ?_
      exact x_zret C rfl (Nat.le_of_ble_eq_true rfl) (Nat.le_of_ble_eq_true rfl) d_KI_leavesOut_21 ⟨congrArg some (congrArg Value.int (by simp_all [lg_eq, bI_0, bI])), rfl⟩
set_option maxRecDepth 100000 in
set_option maxHeartbeats 4000000 in
theorem q_KI_fieldIn (l : Launch) (E : xE) {G : xw_G} {h0 en : Nat} {db sp : Bool} {fr sz : Int32} {lo : Int64} (hK : G h0 = some (eKI db fr sz en sp lo)) {z : Int64} : XMk l E y_KI_fieldIn w_KI_fieldIn rm_KI_fieldIn [.ref h0, .long (z)] G (fun r G' => r = some (.long (fldI fr sz z)) ∧ G = G') 0 0 := by
  refine XM_of [some (.ref h0), some (.long (z)), none] (XZ_st E) (by decide) rfl rfl rfl (Nat.le_of_ble_eq_true rfl) (fun p e s m below meth c C hnm => ?_)
  refine x_lload_n C d_KI_fieldIn_0 rfl rfl ?_
  refine x_bipush C (v := 8) d_KI_fieldIn_1 (by decide) ?_
  refine x_aload_n C d_KI_fieldIn_3 rfl rfl ?_
  refine x_get C hK rfl (in_KI _) 1 (by decide) (List.mem_cons_of_mem _ f_KI_15) rfl d_KI_fieldIn_4 ?_
  refine x_imul C d_KI_fieldIn_7 ?_
  refine x_lshl C d_KI_fieldIn_8 ?_
  refine x_bipush C (v := 8) d_KI_fieldIn_9 (by decide) ?_
  refine x_bipush C (v := 8) d_KI_fieldIn_11 (by decide) ?_
  refine x_aload_n C d_KI_fieldIn_13 rfl rfl ?_
  refine x_get C hK rfl (in_KI _) 2 (by decide) (List.mem_cons_of_mem _ f_KI_19) rfl d_KI_fieldIn_14 ?_
  refine x_isub C d_KI_fieldIn_17 ?_
  refine x_imul C d_KI_fieldIn_18 ?_
  refine x_lushr C d_KI_fieldIn_19 ?_
  exact x_lret C (Nat.le_of_ble_eq_true rfl) (Nat.le_of_ble_eq_true rfl) d_KI_fieldIn_20 ⟨rfl, rfl⟩
set_option maxRecDepth 100000 in
set_option maxHeartbeats 4000000 in
theorem q_KI_partOf (l : Launch) (E : xE) {G : xw_G} {h0 en : Nat} {db sp : Bool} {fr sz : Int32} {lo : Int64} (hK : G h0 = some (eKI db fr sz en sp lo)) {a so : Nat} {fd cm : Int64} (hN : G a = some (eEN fd cm so)) {b : Int32} : XMk l E y_KI_partOf w_KI_partOf rm_KI_partOf [.ref h0, .ref a, .int (b)] G (fun r G' => r = some (.long (prtI sz b fd)) ∧ G = G') 0 0 := by
  refine XM_of [some (.ref h0), some (.ref a), some (.int (b))] (XZ_st E) (by decide) rfl rfl rfl (Nat.le_of_ble_eq_true rfl) (fun p e s m below meth c C hnm => ?_)
  refine x_aload_n C d_KI_partOf_0 rfl rfl ?_
  refine x_get C hN rfl (in_EN _) 0 (by decide) (List.mem_cons_of_mem _ f_KI_57) rfl d_KI_partOf_1 ?_
  refine x_bipush C (v := 8) d_KI_partOf_4 (by decide) ?_
  refine x_aload_n C d_KI_partOf_6 rfl rfl ?_
  refine x_get C hK rfl (in_KI _) 2 (by decide) (List.mem_cons_of_mem _ f_KI_19) rfl d_KI_partOf_7 ?_
  refine x_iload_n C d_KI_partOf_10 rfl rfl ?_
  refine x_isub C d_KI_partOf_11 ?_
  refine x_imul C d_KI_partOf_12 ?_
  refine x_lushr C d_KI_partOf_13 ?_
  exact x_lret C (Nat.le_of_ble_eq_true rfl) (Nat.le_of_ble_eq_true rfl) d_KI_partOf_14 ⟨rfl, rfl⟩
end
section
/-! KEY INDEX: its entries, and the two searches -/
/-- the cells at xs are entries: fields fd, arrivals cm, records so -/
def xEs (G : xw_G) (xs : List Nat) (fd cm : Nat → Int64) (so : Nat → Nat) : Prop := ∀ (i a : Nat), xs[i]? = some a → G a = some (eEN (fd i) (cm i) (so i))
def pw2 (s : Nat) : Prop := s ∈ [0, 1, 2, 4, 8, 16, 32, 64, 128, 256]
theorem pw2_half {s : Nat} (h : pw2 s) : pw2 (s / 2) ∧ s ≤ 256 ∧ (1 < s → 2 * (s / 2) = s) := by
  simp only [pw2, List.mem_cons, List.not_mem_nil, or_false] at h ⊢
  rcases h with h | h | h | h | h | h | h | h | h | h <;> subst h <;> simp
theorem nI_half {s : Nat} (h : s < 2 ^ 31) : nI s / 2 = nI (s / 2) := pk_div (a := s) (d := 2) h (by decide) (by decide)
theorem al_get {xs : List Nat} {i : Nat} (h : i < xs.length) : ∃ a, xs[i]? = some a := ⟨xs[i], by simp [h]⟩
set_option maxRecDepth 100000 in
set_option maxHeartbeats 4000000 in
theorem q_KI_init (l : Launch) (E : xE) {G : xw_G} {h0 : Nat} {db : Bool} {fr sz i1 i2 : Int32} {d0 : Bool} {v0 : Value} (hK : G h0 = some (.inr (2, [.int (bI d0), .int i1, .int i2, v0, .int 0, .long 0]))) : XMk l E y_KI_init w_KI_init rm_KI_init [.ref h0, .int (bI db), .int (fr), .int (sz)] G (fun r G' => r = none ∧ ∃ q : Nat, G q = none ∧ xB E ≤ q ∧ h0 ≠ q ∧ G' = va_up (va_up G q (some (eAL (xaE E) 0 0))) h0 (some (eKI db fr sz q false 0))) 1 3 := by
  refine XM_of [some (.ref h0), some (.int (bI db)), some (.int (fr)), some (.int (sz))] (XZ_st E) (by decide) rfl rfl rfl (Nat.le_of_ble_eq_true rfl) (fun p e s m below meth c C hnm => ?_)
  refine x_aload_n C d_KI_init_0 rfl rfl ?_
  refine x_objInit C (List.mem_cons_of_mem _ m_KI_3) (List.mem_cons_of_mem _ ki_OB_init) (List.mem_cons_of_mem _ kc_OB_init) rfl d_KI_init_1 (Nat.le_of_ble_eq_true rfl) (Nat.le_of_ble_eq_true rfl) ?_
  refine x_aload_n C d_KI_init_4 rfl rfl ?_
  refine x_iload_n C d_KI_init_5 rfl rfl ?_
  refine x_putF C hK rfl (in_KI _) ty_KI tok_KI nm_KI 0 (by decide) (List.mem_cons_of_mem _ f_KI_9) rfl hnm rfl (tok_KI 0 (by decide)) (bI_nar _) (bI_fit _) (Nat.le_of_ble_eq_true rfl) d_KI_init_6 ?_
  refine x_aload_n C d_KI_init_9 rfl rfl ?_
  refine x_iload_n C d_KI_init_10 rfl rfl ?_
  refine x_putF2 C rfl (in_KI _) ty_KI tok_KI nm_KI 1 (by decide) (List.mem_cons_of_mem _ f_KI_15) rfl hnm rfl (tok_KI 1 (by decide)) rfl rfl (Nat.le_of_ble_eq_true rfl) d_KI_init_11 ?_
  refine x_aload_n C d_KI_init_14 rfl rfl ?_
  refine x_iload_n C d_KI_init_15 rfl rfl ?_
  refine x_putF2 C rfl (in_KI _) ty_KI tok_KI nm_KI 2 (by decide) (List.mem_cons_of_mem _ f_KI_19) rfl hnm rfl (tok_KI 2 (by decide)) rfl rfl (Nat.le_of_ble_eq_true rfl) d_KI_init_16 ?_
  refine x_aload_n C d_KI_init_19 rfl rfl ?_
  refine x_new C (ci := 6) (fs := [.null, .int 0, .int 0]) rfl (in_AL _) ty_AL tok_AL (List.mem_cons_of_mem _ cl_KI_22) (List.mem_cons_of_mem _ kb_AL) (List.mem_cons_of_mem _ kz_AL) (fun j hj => by rcases (show j = 0 ∨ j = 1 ∨ j = 2 by omega) with rfl | rfl | rfl <;> rfl) (Nat.le_of_ble_eq_true rfl) (Nat.le_of_ble_eq_true rfl) d_KI_init_20 (fun q hq hBq => ?_)
  have hne := xw_neF hq (va_up_self G h0 _)
  refine x_dup C d_KI_init_23 rfl ?_
  refine x_callI0 C (q_AL_init l E (va_up_self _ _ _)) (lk_KI_24 C.hts (Nat.le_of_ble_eq_true rfl) (Nat.le_of_ble_eq_true rfl)) rfl d_KI_init_24 (Nat.le_of_ble_eq_true rfl) (Nat.le_of_ble_eq_true rfl) (Nat.le_of_ble_eq_true rfl) (fun r G' h => ?_)
  obtain ⟨rfl, rfl⟩ := h
  refine x_putF C (xw_keep (xw_keep (va_up_self _ _ _) hne) hne) rfl (in_KI _) ty_KI tok_KI nm_KI 3 (by decide) (List.mem_cons_of_mem _ f_KI_25) rfl hnm rfl (tok_KI 3 (by decide)) rfl rfl (Nat.le_of_ble_eq_true rfl) d_KI_init_27 ?_
  exact x_vret C (Nat.le_of_ble_eq_true rfl) (Nat.le_of_ble_eq_true rfl) d_KI_init_30 ⟨rfl, q, none_mod hq, hBq, hne, by rw [bx_uu, up_swap hne, bx_uu]; rfl⟩
set_option maxRecDepth 100000 in
set_option maxHeartbeats 4000000 in
theorem q_KI_entryAt_in (l : Launch) (E : xE) {G : xw_G} {h0 en : Nat} {db sp : Bool} {fr sz : Int32} {lo : Int64} (hK : G h0 = some (eKI db fr sz en sp lo)) {ar : Nat} {xs : List Nat} (hA : xAL E G en ar xs) {k a so : Nat} {fd cm : Int64} (ha : xs[k]? = some a) (hN : G a = some (eEN fd cm so)) : XMk l E y_KI_entryAt w_KI_entryAt rm_KI_entryAt [.ref h0, .int (nI k)] G (fun r G' => r = some (.ref a) ∧ G = G') 0 0 := by
  refine XM_of [some (.ref h0), some (.int (nI k))] (XZ_st E) (by decide) rfl rfl rfl (Nat.le_of_ble_eq_true rfl) (fun p e s m below meth c C hnm => ?_)
  obtain ⟨cap, md, ff, hL, hAr, hc1, hc2, -, -⟩ := id hA
  have hcl := capOK_le hc2
  have hk : k < xs.length := (List.getElem?_eq_some_iff.mp ha).1
  refine x_iload_n C d_KI_entryAt_0 rfl rfl ?_
  refine x_if_lt C 29 d_KI_entryAt_1 (by decide) (fun c_1 => ?_) (fun c_1 => ?_)
  · exact absurd c_1 (nI_pos (by omega))
  · refine x_iload_n C d_KI_entryAt_4 rfl rfl ?_
    refine x_aload_n C d_KI_entryAt_5 rfl rfl ?_
    refine x_get C hK rfl (in_KI _) 3 (by decide) (List.mem_cons_of_mem _ f_KI_25) rfl d_KI_entryAt_6 ?_
    refine x_callV0 C (q_AL_sizeL l E hA) (lk_KI_36 C.hts (Nat.le_of_ble_eq_true rfl) (Nat.le_of_ble_eq_true rfl)) hL rfl rfl d_KI_entryAt_9 (Nat.le_of_ble_eq_true rfl) (Nat.le_of_ble_eq_true rfl) (Nat.le_of_ble_eq_true rfl) (fun r G' h => ?_)
    obtain ⟨rfl, rfl⟩ := h
    refine x_icmp_ge C 29 d_KI_entryAt_12 (by decide) (fun c_12 => ?_) (fun c_12 => ?_)
    · exact absurd c_12 (nI_ge hk (by omega))
    · refine x_aload_n C d_KI_entryAt_15 rfl rfl ?_
      refine x_get C hK rfl (in_KI _) 3 (by decide) (List.mem_cons_of_mem _ f_KI_25) rfl d_KI_entryAt_16 ?_
      refine x_iload_n C d_KI_entryAt_19 rfl rfl ?_
      refine x_callV1 C (q_AL_getL l E hA ha) (lk_KI_39 C.hts (Nat.le_of_ble_eq_true rfl) (Nat.le_of_ble_eq_true rfl)) hL rfl rfl d_KI_entryAt_20 (Nat.le_of_ble_eq_true rfl) (Nat.le_of_ble_eq_true rfl) (Nat.le_of_ble_eq_true rfl) (fun r G' h => ?_)
      obtain ⟨rfl, rfl⟩ := h
      refine x_castS C hN rfl (List.mem_cons_of_mem _ cl_KI_43) d_KI_entryAt_23 ?_
      refine x_goto C 30 d_KI_entryAt_26 (by decide) ?_
      exact x_aret C (Or.inl ⟨_, rfl⟩) (Or.inr ⟨_, rfl⟩) (Nat.le_of_ble_eq_true rfl) (Nat.le_of_ble_eq_true rfl) d_KI_entryAt_30 ⟨rfl, rfl⟩
set_option maxRecDepth 100000 in
set_option maxHeartbeats 4000000 in
theorem q_KI_entryAt_out (l : Launch) (E : xE) {G : xw_G} {h0 en : Nat} {db sp : Bool} {fr sz : Int32} {lo : Int64} (hK : G h0 = some (eKI db fr sz en sp lo)) {ar : Nat} {xs : List Nat} (hA : xAL E G en ar xs) {j : Int32} (hj : j < 0 ∨ nI xs.length ≤ j) : XMk l E y_KI_entryAt w_KI_entryAt rm_KI_entryAt [.ref h0, .int (j)] G (fun r G' => r = some (.null) ∧ G = G') 0 0 := by
  refine XM_of [some (.ref h0), some (.int (j))] (XZ_st E) (by decide) rfl rfl rfl (Nat.le_of_ble_eq_true rfl) (fun p e s m below meth c C hnm => ?_)
  obtain ⟨cap, md, ff, hL, hAr, hc1, hc2, -, -⟩ := id hA
  refine x_iload_n C d_KI_entryAt_0 rfl rfl ?_
  refine x_if_lt C 29 d_KI_entryAt_1 (by decide) (fun c_1 => ?_) (fun c_1 => ?_)
  · refine x_null C d_KI_entryAt_29 ?_
    exact x_aret C (Or.inl ⟨_, rfl⟩) (Or.inl rfl) (Nat.le_of_ble_eq_true rfl) (Nat.le_of_ble_eq_true rfl) d_KI_entryAt_30 ⟨rfl, rfl⟩
  · refine x_iload_n C d_KI_entryAt_4 rfl rfl ?_
    refine x_aload_n C d_KI_entryAt_5 rfl rfl ?_
    refine x_get C hK rfl (in_KI _) 3 (by decide) (List.mem_cons_of_mem _ f_KI_25) rfl d_KI_entryAt_6 ?_
    refine x_callV0 C (q_AL_sizeL l E hA) (lk_KI_36 C.hts (Nat.le_of_ble_eq_true rfl) (Nat.le_of_ble_eq_true rfl)) hL rfl rfl d_KI_entryAt_9 (Nat.le_of_ble_eq_true rfl) (Nat.le_of_ble_eq_true rfl) (Nat.le_of_ble_eq_true rfl) (fun r G' h => ?_)
    obtain ⟨rfl, rfl⟩ := h
    refine x_icmp_ge C 29 d_KI_entryAt_12 (by decide) (fun c_12 => ?_) (fun c_12 => ?_)
    · refine x_null C d_KI_entryAt_29 ?_
      exact x_aret C (Or.inl ⟨_, rfl⟩) (Or.inl rfl) (Nat.le_of_ble_eq_true rfl) (Nat.le_of_ble_eq_true rfl) d_KI_entryAt_30 ⟨rfl, rfl⟩
    · exact absurd hj (fun q => q.elim c_1 c_12)
set_option maxRecDepth 100000 in
set_option maxHeartbeats 4000000 in
theorem q_KI_countAheadOf (l : Launch) (E : xE) {G : xw_G} {h0 en : Nat} {db sp : Bool} {fr sz : Int32} {lo : Int64} (hK : G h0 = some (eKI db fr sz en sp lo)) {ar : Nat} {xs : List Nat} (hA : xAL E G en ar xs) {fd cm : Nat → Int64} {so : Nat → Nat} (hX : xEs G xs fd cm so) {f d : Int64} {k : Nat} (hk : k ≤ xs.length) (hp : ∀ i : Nat, i < xs.length → (ahead (fd i) (cm i) f d = true ↔ i < k)) : XMk l E y_KI_countAheadOf w_KI_countAheadOf rm_KI_countAheadOf [.ref h0, .long (f), .long (d)] G (fun r G' => r = some (.int (nI k)) ∧ G = G') 0 0 := by
  refine XM_of [some (.ref h0), some (.long (f)), none, some (.long (d)), none, none, none, none] (XZ_st E) (by decide) rfl rfl rfl (Nat.le_of_ble_eq_true rfl) (fun p e s m below meth c C hnm => ?_)
  obtain ⟨cap, md, ff, hL, hAr, hc1, hc2, -, -⟩ := id hA
  have hcl := capOK_le hc2
  have loop : ∀ (t a : Nat) (v0 : Option Value), pw2 t → a ≤ k → k < a + (if t = 0 then 1 else 2 * t) → a + 2 * t ≤ 512 → XW p l e rm_KI_countAheadOf s m #[.ref h0, .long (f), .long (d)] below meth c (XQ below #[.ref h0, .long (f), .long (d)] s (xD E) xcl (xB E) (fun r G' => r = some (.int (nI k)) ∧ G = G') 0 0) (xD E) xcl (xB E) 8 [some (.ref h0), some (.long (f)), none, some (.long (d)), none, some (.int (nI a)), some (.int (nI t)), v0] [] G 0 0 := by
    intro t
    induction t using Nat.strongRecOn with
    | _ t ih =>
      intro a v0 hp2 hak hkt hab
      obtain ⟨hp3, hp4, hp5⟩ := pw2_half hp2
      by_cases ht : t = 0
      · subst ht
        rw [if_pos rfl] at hkt
        have hka : k = a := by omega
        subst hka
        refine x_iload C d_KI_countAheadOf_8 rfl ?_
        refine x_if_le C 57 d_KI_countAheadOf_10 (by decide) (fun c_10 => ?_) (fun c_10 => ?_)
        · refine x_iload C d_KI_countAheadOf_57 rfl ?_
          exact x_iret C (Nat.le_of_ble_eq_true rfl) (Nat.le_of_ble_eq_true rfl) d_KI_countAheadOf_59 ⟨rfl, rfl⟩
        · exact absurd (show nI 0 ≤ 0 from by rw [nI_0]; exact Int32.le_refl 0) c_10
      · rw [if_neg ht] at hkt
        refine x_iload C d_KI_countAheadOf_8 rfl ?_
        refine x_if_le C 57 d_KI_countAheadOf_10 (by decide) (fun c_10 => ?_) (fun c_10 => ?_)
        · exact absurd c_10 (nI_nle (by omega) (by omega))
        · refine x_aload_n C d_KI_countAheadOf_13 rfl rfl ?_
          refine x_iload C d_KI_countAheadOf_14 rfl ?_
          refine x_iload C d_KI_countAheadOf_16 rfl ?_
          refine x_iadd C d_KI_countAheadOf_18 ?_
          refine x_iconst C (v := 1) d_KI_countAheadOf_19 (by decide) ?_
          refine x_isub C d_KI_countAheadOf_20 ?_
          rw [nI_add, al_pred (show 0 < a + t by omega)]
          by_cases hlt : a + t - 1 < xs.length
          · obtain ⟨x, hx⟩ := al_get hlt
            have hN := hX _ _ hx
            have hpi := hp _ hlt
            refine x_callV1 C (q_KI_entryAt_in l E hK hA hx hN) (lk_KI_45 C.hts (Nat.le_of_ble_eq_true rfl) (Nat.le_of_ble_eq_true rfl)) hK rfl rfl d_KI_countAheadOf_21 (Nat.le_of_ble_eq_true rfl) (Nat.le_of_ble_eq_true rfl) (Nat.le_of_ble_eq_true rfl) (fun r G' h => ?_)
            obtain ⟨rfl, rfl⟩ := h
            refine x_astore C d_KI_countAheadOf_24 (Nat.le_of_ble_eq_true rfl) rfl ?_
            refine x_aload C d_KI_countAheadOf_26 rfl ?_
            refine x_ifnull C d_KI_countAheadOf_28 ?_
            refine x_aload C d_KI_countAheadOf_31 rfl ?_
            refine x_lload_n C d_KI_countAheadOf_33 rfl rfl ?_
            refine x_lload_n C d_KI_countAheadOf_34 rfl rfl ?_
            refine x_callV2 C (q_EN_standsAheadOf l E hN) (lk_KI_49 C.hts (Nat.le_of_ble_eq_true rfl) (Nat.le_of_ble_eq_true rfl)) hN rfl rfl d_KI_countAheadOf_35 (Nat.le_of_ble_eq_true rfl) (Nat.le_of_ble_eq_true rfl) (Nat.le_of_ble_eq_true rfl) (fun r G' h => ?_)
            obtain ⟨rfl, rfl⟩ := h
            refine x_if_eq C 48 d_KI_countAheadOf_38 (by decide) (fun c_38 => ?_) (fun c_38 => ?_)
            · have hkk : k ≤ a + t - 1 := Nat.not_lt.mp (fun q => by rw [hpi.mpr q] at c_38; exact absurd c_38 (by decide))
              refine x_iload C d_KI_countAheadOf_48 rfl ?_
              refine x_iconst C (v := 2) d_KI_countAheadOf_50 (by decide) ?_
              refine x_idiv C d_KI_countAheadOf_51 (by decide) ?_
              rw [nI_half (show t < 2 ^ 31 by omega)]
              refine x_istore C d_KI_countAheadOf_52 (Nat.le_of_ble_eq_true rfl) rfl ?_
              refine x_goto C 8 d_KI_countAheadOf_54 (by decide) ?_
              exact ih (t / 2) (by omega) (a) _ hp3 (by omega) (by split <;> omega) (by omega)
            · have hkk : a + t - 1 < k := hpi.mp (by cases hz : ahead (fd (a + t - 1)) (cm (a + t - 1)) f d with | true => rfl | false => exact absurd (by rw [hz]; rfl) c_38)
              refine x_iload C d_KI_countAheadOf_41 rfl ?_
              refine x_iload C d_KI_countAheadOf_43 rfl ?_
              refine x_iadd C d_KI_countAheadOf_45 ?_
              rw [nI_add]
              refine x_istore C d_KI_countAheadOf_46 (Nat.le_of_ble_eq_true rfl) rfl ?_
              refine x_iload C d_KI_countAheadOf_48 rfl ?_
              refine x_iconst C (v := 2) d_KI_countAheadOf_50 (by decide) ?_
              refine x_idiv C d_KI_countAheadOf_51 (by decide) ?_
              rw [nI_half (show t < 2 ^ 31 by omega)]
              refine x_istore C d_KI_countAheadOf_52 (Nat.le_of_ble_eq_true rfl) rfl ?_
              refine x_goto C 8 d_KI_countAheadOf_54 (by decide) ?_
              exact ih (t / 2) (by omega) (a + t) _ hp3 (by omega) (by split <;> omega) (by omega)
          · refine x_callV1 C (q_KI_entryAt_out l E hK hA (Or.inr (nI_le (by omega) (by omega)))) (lk_KI_45 C.hts (Nat.le_of_ble_eq_true rfl) (Nat.le_of_ble_eq_true rfl)) hK rfl rfl d_KI_countAheadOf_21 (Nat.le_of_ble_eq_true rfl) (Nat.le_of_ble_eq_true rfl) (Nat.le_of_ble_eq_true rfl) (fun r G' h => ?_)
            obtain ⟨rfl, rfl⟩ := h
            refine x_astoreN C d_KI_countAheadOf_24 (Nat.le_of_ble_eq_true rfl) rfl ?_
            refine x_aloadN C d_KI_countAheadOf_26 rfl ?_
            refine x_ifnullN C 48 d_KI_countAheadOf_28 (by decide) ?_
            have hkk : k ≤ a + t - 1 := by omega
            refine x_iload C d_KI_countAheadOf_48 rfl ?_
            refine x_iconst C (v := 2) d_KI_countAheadOf_50 (by decide) ?_
            refine x_idiv C d_KI_countAheadOf_51 (by decide) ?_
            rw [nI_half (show t < 2 ^ 31 by omega)]
            refine x_istore C d_KI_countAheadOf_52 (Nat.le_of_ble_eq_true rfl) rfl ?_
            refine x_goto C 8 d_KI_countAheadOf_54 (by decide) ?_
            exact ih (t / 2) (by omega) (a) _ hp3 (by omega) (by split <;> omega) (by omega)
  refine x_iconst C (v := 0) d_KI_countAheadOf_0 (by decide) ?_
  refine x_istore C d_KI_countAheadOf_1 (Nat.le_of_ble_eq_true rfl) rfl ?_
  refine x_sipush C (v := 256) d_KI_countAheadOf_3 (by decide) ?_
  refine x_istore C d_KI_countAheadOf_6 (Nat.le_of_ble_eq_true rfl) rfl ?_
  exact loop 256 0 _ (by simp [pw2]) (Nat.zero_le _) (by rw [if_neg (by decide)]; omega) (by omega)
end
section
/-- an entry by its number, if there is one -/
def xr (xs : List Nat) (o : Option Nat) : Value := va_rf (o.bind (fun i => xs[i]?))
theorem xr_some {xs : List Nat} {i a : Nat} (h : xs[i]? = some a) : xr xs (some i) = .ref a := by
  show va_rf (xs[i]?) = _
  rw [h]
  rfl
theorem xr_none {xs : List Nat} : xr xs none = .null := rfl
/-- the part of an entry against k, as the search by part asks -/
def byPart (sz b : Int32) (eq : Bool) (f prt : Int64) : Bool := decide (uN (prtI sz b f) < uN prt) || (eq && decide (prtI sz b f = prt))
def oEq (n : Nat) (fd : Nat → Int64) (k : Nat) (f : Int64) : Option Nat := if k < n ∧ fd k = f then some k else none
def oAt (n k : Nat) : Option Nat := if k < n then some k else none
def oBk (k : Nat) : Option Nat := if 0 < k then some (k - 1) else none
def eqNext (n : Nat) (fd : Nat → Int64) (k : Nat) (f : Int64) (back : Bool) : Bool := if back then decide (0 < k ∧ fd (k - 1) = f) else decide (k + 1 < n ∧ fd (k + 1) = f)
def oPart (n : Nat) (fd : Nat → Int64) (sz b op : Int32) (prt : Int64) (k : Nat) : Option Nat := if op = 3 ∨ op = 4 then oBk k else if k < n ∧ (op = 0 → prtI sz b (fd k) = prt) then some k else none
set_option maxRecDepth 100000 in
set_option maxHeartbeats 4000000 in
theorem q_KI_countByPart (l : Launch) (E : xE) {G : xw_G} {h0 en : Nat} {db sp : Bool} {fr sz : Int32} {lo : Int64} (hK : G h0 = some (eKI db fr sz en sp lo)) {ar : Nat} {xs : List Nat} (hA : xAL E G en ar xs) {fd cm : Nat → Int64} {so : Nat → Nat} (hX : xEs G xs fd cm so) {prt : Int64} {b : Int32} {eq : Bool} {k : Nat} (hk : k ≤ xs.length) (hp : ∀ i : Nat, i < xs.length → (byPart sz b eq (fd i) prt = true ↔ i < k)) : XMk l E y_KI_countByPart w_KI_countByPart rm_KI_countByPart [.ref h0, .long (prt), .int (b), .int (bI eq)] G (fun r G' => r = some (.int (nI k)) ∧ G = G') 0 0 := by
  refine XM_of [some (.ref h0), some (.long (prt)), none, some (.int (b)), some (.int (bI eq)), none, none, none, none, none] (XZ_st E) (by decide) rfl rfl rfl (Nat.le_of_ble_eq_true rfl) (fun p e s m below meth c C hnm => ?_)
  obtain ⟨cap, md, ff, hL, hAr, hc1, hc2, -, -⟩ := id hA
  have hcl := capOK_le hc2
  have loop : ∀ (t a : Nat) (v0 v1 v2 : Option Value), pw2 t → a ≤ k → k < a + (if t = 0 then 1 else 2 * t) → a + 2 * t ≤ 512 → XW p l e rm_KI_countByPart s m #[.ref h0, .long (prt), .int (b), .int (bI eq)] below meth c (XQ below #[.ref h0, .long (prt), .int (b), .int (bI eq)] s (xD E) xcl (xB E) (fun r G' => r = some (.int (nI k)) ∧ G = G') 0 0) (xD E) xcl (xB E) 8 [some (.ref h0), some (.long (prt)), none, some (.int (b)), some (.int (bI eq)), some (.int (nI a)), some (.int (nI t)), v0, v1, v2] [] G 0 0 := by
    intro t
    induction t using Nat.strongRecOn with
    | _ t ih =>
      intro a v0 v1 v2 hp2 hak hkt hab
      obtain ⟨hp3, hp4, hp5⟩ := pw2_half hp2
      by_cases ht : t = 0
      · subst ht
        rw [if_pos rfl] at hkt
        have hka : k = a := by omega
        subst hka
        refine x_iload C d_KI_countByPart_8 rfl ?_
        refine x_if_le C 80 d_KI_countByPart_10 (by decide) (fun c_10 => ?_) (fun c_10 => ?_)
        · refine x_iload C d_KI_countByPart_80 rfl ?_
          exact x_iret C (Nat.le_of_ble_eq_true rfl) (Nat.le_of_ble_eq_true rfl) d_KI_countByPart_82 ⟨rfl, rfl⟩
        · exact absurd (show nI 0 ≤ 0 from by rw [nI_0]; exact Int32.le_refl 0) c_10
      · rw [if_neg ht] at hkt
        refine x_iload C d_KI_countByPart_8 rfl ?_
        refine x_if_le C 80 d_KI_countByPart_10 (by decide) (fun c_10 => ?_) (fun c_10 => ?_)
        · exact absurd c_10 (nI_nle (by omega) (by omega))
        · refine x_aload_n C d_KI_countByPart_13 rfl rfl ?_
          refine x_iload C d_KI_countByPart_14 rfl ?_
          refine x_iload C d_KI_countByPart_16 rfl ?_
          refine x_iadd C d_KI_countByPart_18 ?_
          refine x_iconst C (v := 1) d_KI_countByPart_19 (by decide) ?_
          refine x_isub C d_KI_countByPart_20 ?_
          rw [nI_add, al_pred (show 0 < a + t by omega)]
          by_cases hlt : a + t - 1 < xs.length
          · obtain ⟨x, hx⟩ := al_get hlt
            have hN := hX _ _ hx
            have hpi := hp _ hlt
            refine x_callV1 C (q_KI_entryAt_in l E hK hA hx hN) (lk_KI_45 C.hts (Nat.le_of_ble_eq_true rfl) (Nat.le_of_ble_eq_true rfl)) hK rfl rfl d_KI_countByPart_21 (Nat.le_of_ble_eq_true rfl) (Nat.le_of_ble_eq_true rfl) (Nat.le_of_ble_eq_true rfl) (fun r G' h => ?_)
            obtain ⟨rfl, rfl⟩ := h
            refine x_astore C d_KI_countByPart_24 (Nat.le_of_ble_eq_true rfl) rfl ?_
            refine x_aload C d_KI_countByPart_26 rfl ?_
            refine x_ifnonnull C 34 d_KI_countByPart_28 (by decide) ?_
            refine x_aload_n C d_KI_countByPart_34 rfl rfl ?_
            refine x_aload C d_KI_countByPart_35 rfl ?_
            refine x_iload_n C d_KI_countByPart_37 rfl rfl ?_
            refine x_callV2 C (q_KI_partOf l E hK hN) (lk_KI_105 C.hts (Nat.le_of_ble_eq_true rfl) (Nat.le_of_ble_eq_true rfl)) hK rfl rfl d_KI_countByPart_38 (Nat.le_of_ble_eq_true rfl) (Nat.le_of_ble_eq_true rfl) (Nat.le_of_ble_eq_true rfl) (fun r G' h => ?_)
            obtain ⟨rfl, rfl⟩ := h
            refine x_lstore C d_KI_countByPart_41 (Nat.le_of_ble_eq_true rfl) rfl ?_
            refine x_lload C d_KI_countByPart_43 rfl ?_
            refine x_lload_n C d_KI_countByPart_45 rfl rfl ?_
            refine x_callSN2 C (q_KF_isBelow l E (G := G)) (lk_KI_109 C.hts C.hZ.2.2.2.2.2.2.1 (Nat.le_of_ble_eq_true rfl) (Nat.le_of_ble_eq_true rfl)) rfl d_KI_countByPart_46 (Nat.le_of_ble_eq_true rfl) (Nat.le_of_ble_eq_true rfl) (Nat.le_of_ble_eq_true rfl) (fun r G' h => ?_)
            obtain ⟨rfl, rfl⟩ := h
            refine x_if_ne C 64 d_KI_countByPart_49 (by decide) (fun c_49 => ?_) (fun c_49 => ?_)
            · have hkk : a + t - 1 < k := hpi.mp (by simp_all [byPart, bI_0, lg_eq])
              refine x_iload C d_KI_countByPart_64 rfl ?_
              refine x_iload C d_KI_countByPart_66 rfl ?_
              refine x_iadd C d_KI_countByPart_68 ?_
              rw [nI_add]
              refine x_istore C d_KI_countByPart_69 (Nat.le_of_ble_eq_true rfl) rfl ?_
              refine x_iload C d_KI_countByPart_71 rfl ?_
              refine x_iconst C (v := 2) d_KI_countByPart_73 (by decide) ?_
              refine x_idiv C d_KI_countByPart_74 (by decide) ?_
              rw [nI_half (show t < 2 ^ 31 by omega)]
              refine x_istore C d_KI_countByPart_75 (Nat.le_of_ble_eq_true rfl) rfl ?_
              refine x_goto C 8 d_KI_countByPart_77 (by decide) ?_
              exact ih (t / 2) (by omega) (a + t) _ _ _ hp3 (by omega) (by split <;> omega) (by omega)
            · refine x_iload C d_KI_countByPart_52 rfl ?_
              refine x_if_eq C 71 d_KI_countByPart_54 (by decide) (fun c_54 => ?_) (fun c_54 => ?_)
              · have hkk : k ≤ a + t - 1 := Nat.not_lt.mp (fun q => by have hb := hpi.mpr q; clear hpi hp ih; simp_all [byPart, bI_0, lg_eq] <;> omega)
                refine x_iload C d_KI_countByPart_71 rfl ?_
                refine x_iconst C (v := 2) d_KI_countByPart_73 (by decide) ?_
                refine x_idiv C d_KI_countByPart_74 (by decide) ?_
                rw [nI_half (show t < 2 ^ 31 by omega)]
                refine x_istore C d_KI_countByPart_75 (Nat.le_of_ble_eq_true rfl) rfl ?_
                refine x_goto C 8 d_KI_countByPart_77 (by decide) ?_
                exact ih (t / 2) (by omega) (a) _ _ _ hp3 (by omega) (by split <;> omega) (by omega)
              · refine x_lload C d_KI_countByPart_57 rfl ?_
                refine x_lload_n C d_KI_countByPart_59 rfl rfl ?_
                refine x_lcmp C d_KI_countByPart_60 ?_
                refine x_if_ne C 71 d_KI_countByPart_61 (by decide) (fun c_61 => ?_) (fun c_61 => ?_)
                · have hkk : k ≤ a + t - 1 := Nat.not_lt.mp (fun q => by have hb := hpi.mpr q; clear hpi hp ih; simp_all [byPart, bI_0, lg_eq] <;> omega)
                  refine x_iload C d_KI_countByPart_71 rfl ?_
                  refine x_iconst C (v := 2) d_KI_countByPart_73 (by decide) ?_
                  refine x_idiv C d_KI_countByPart_74 (by decide) ?_
                  rw [nI_half (show t < 2 ^ 31 by omega)]
                  refine x_istore C d_KI_countByPart_75 (Nat.le_of_ble_eq_true rfl) rfl ?_
                  refine x_goto C 8 d_KI_countByPart_77 (by decide) ?_
                  exact ih (t / 2) (by omega) (a) _ _ _ hp3 (by omega) (by split <;> omega) (by omega)
                · have hkk : a + t - 1 < k := hpi.mp (by simp_all [byPart, bI_0, lg_eq])
                  refine x_iload C d_KI_countByPart_64 rfl ?_
                  refine x_iload C d_KI_countByPart_66 rfl ?_
                  refine x_iadd C d_KI_countByPart_68 ?_
                  rw [nI_add]
                  refine x_istore C d_KI_countByPart_69 (Nat.le_of_ble_eq_true rfl) rfl ?_
                  refine x_iload C d_KI_countByPart_71 rfl ?_
                  refine x_iconst C (v := 2) d_KI_countByPart_73 (by decide) ?_
                  refine x_idiv C d_KI_countByPart_74 (by decide) ?_
                  rw [nI_half (show t < 2 ^ 31 by omega)]
                  refine x_istore C d_KI_countByPart_75 (Nat.le_of_ble_eq_true rfl) rfl ?_
                  refine x_goto C 8 d_KI_countByPart_77 (by decide) ?_
                  exact ih (t / 2) (by omega) (a + t) _ _ _ hp3 (by omega) (by split <;> omega) (by omega)
          · refine x_callV1 C (q_KI_entryAt_out l E hK hA (Or.inr (nI_le (by omega) (by omega)))) (lk_KI_45 C.hts (Nat.le_of_ble_eq_true rfl) (Nat.le_of_ble_eq_true rfl)) hK rfl rfl d_KI_countByPart_21 (Nat.le_of_ble_eq_true rfl) (Nat.le_of_ble_eq_true rfl) (Nat.le_of_ble_eq_true rfl) (fun r G' h => ?_)
            obtain ⟨rfl, rfl⟩ := h
            refine x_astoreN C d_KI_countByPart_24 (Nat.le_of_ble_eq_true rfl) rfl ?_
            refine x_aloadN C d_KI_countByPart_26 rfl ?_
            refine x_ifnonnullN C d_KI_countByPart_28 ?_
            refine x_goto C 71 d_KI_countByPart_31 (by decide) ?_
            have hkk : k ≤ a + t - 1 := by omega
            refine x_iload C d_KI_countByPart_71 rfl ?_
            refine x_iconst C (v := 2) d_KI_countByPart_73 (by decide) ?_
            refine x_idiv C d_KI_countByPart_74 (by decide) ?_
            rw [nI_half (show t < 2 ^ 31 by omega)]
            refine x_istore C d_KI_countByPart_75 (Nat.le_of_ble_eq_true rfl) rfl ?_
            refine x_goto C 8 d_KI_countByPart_77 (by decide) ?_
            exact ih (t / 2) (by omega) (a) _ _ _ hp3 (by omega) (by split <;> omega) (by omega)
  refine x_iconst C (v := 0) d_KI_countByPart_0 (by decide) ?_
  refine x_istore C d_KI_countByPart_1 (Nat.le_of_ble_eq_true rfl) rfl ?_
  refine x_sipush C (v := 256) d_KI_countByPart_3 (by decide) ?_
  refine x_istore C d_KI_countByPart_6 (Nat.le_of_ble_eq_true rfl) rfl ?_
  exact loop 256 0 _ _ _ (by simp [pw2]) (Nat.zero_le _) (by rw [if_neg (by decide)]; omega) (by omega)
set_option maxRecDepth 100000 in
set_option maxHeartbeats 4000000 in
theorem q_KI_firstEqual (l : Launch) (E : xE) {G : xw_G} {h0 en : Nat} {db sp : Bool} {fr sz : Int32} {lo : Int64} (hK : G h0 = some (eKI db fr sz en sp lo)) {ar : Nat} {xs : List Nat} (hA : xAL E G en ar xs) {fd cm : Nat → Int64} {so : Nat → Nat} (hX : xEs G xs fd cm so) {f : Int64} {k : Nat} (hk : k ≤ xs.length) (hp : ∀ i : Nat, i < xs.length → (ahead (fd i) (cm i) f 0 = true ↔ i < k)) : XMk l E y_KI_firstEqual w_KI_firstEqual rm_KI_firstEqual [.ref h0, .long (f)] G (fun r G' => r = some (xr xs (oEq xs.length fd k f)) ∧ G = G') 0 0 := by
  refine XM_of [some (.ref h0), some (.long (f)), none, none] (XZ_st E) (by decide) rfl rfl rfl (Nat.le_of_ble_eq_true rfl) (fun p e s m below meth c C hnm => ?_)
  obtain ⟨cap, md, ff, hL, hAr, hc1, hc2, -, -⟩ := id hA
  have hcl := capOK_le hc2
  refine x_aload_n C d_KI_firstEqual_0 rfl rfl ?_
  refine x_aload_n C d_KI_firstEqual_1 rfl rfl ?_
  refine x_lload_n C d_KI_firstEqual_2 rfl rfl ?_
  refine x_lconst C (v := 0) d_KI_firstEqual_3 (by decide) ?_
  refine x_callV2 C (q_KI_countAheadOf l E hK hA hX hk hp) (lk_KI_53 C.hts (Nat.le_of_ble_eq_true rfl) (Nat.le_of_ble_eq_true rfl)) hK rfl rfl d_KI_firstEqual_4 (Nat.le_of_ble_eq_true rfl) (Nat.le_of_ble_eq_true rfl) (Nat.le_of_ble_eq_true rfl) (fun r G' h => ?_)
  obtain ⟨rfl, rfl⟩ := h
  by_cases hlt : k < xs.length
  · obtain ⟨x, hx⟩ := al_get (show k < xs.length by omega)
    have hN := hX _ _ hx
    refine x_callV1 C (q_KI_entryAt_in l E hK hA hx hN) (lk_KI_45 C.hts (Nat.le_of_ble_eq_true rfl) (Nat.le_of_ble_eq_true rfl)) hK rfl rfl d_KI_firstEqual_7 (Nat.le_of_ble_eq_true rfl) (Nat.le_of_ble_eq_true rfl) (Nat.le_of_ble_eq_true rfl) (fun r G' h => ?_)
    obtain ⟨rfl, rfl⟩ := h
    refine x_astore_n C d_KI_firstEqual_10 rfl (Nat.le_of_ble_eq_true rfl) rfl ?_
    refine x_aload_n C d_KI_firstEqual_11 rfl rfl ?_
    refine x_ifnull C d_KI_firstEqual_12 ?_
    refine x_aload_n C d_KI_firstEqual_15 rfl rfl ?_
    refine x_get C hN rfl (in_EN _) 0 (by decide) (List.mem_cons_of_mem _ f_KI_57) rfl d_KI_firstEqual_16 ?_
    refine x_lload_n C d_KI_firstEqual_19 rfl rfl ?_
    refine x_lcmp C d_KI_firstEqual_20 ?_
    refine x_if_ne C 28 d_KI_firstEqual_21 (by decide) (fun c_21 => ?_) (fun c_21 => ?_)
    · refine x_null C d_KI_firstEqual_28 ?_
      exact x_aret C (Or.inl ⟨_, rfl⟩) (Or.inl rfl) (Nat.le_of_ble_eq_true rfl) (Nat.le_of_ble_eq_true rfl) d_KI_firstEqual_29 ⟨by rw [oEq, if_neg (fun q => absurd ((lg_eq _ _).mpr q.2) c_21), xr_none], rfl⟩
    · refine x_aload_n C d_KI_firstEqual_24 rfl rfl ?_
      refine x_goto C 29 d_KI_firstEqual_25 (by decide) ?_
      exact x_aret C (Or.inl ⟨_, rfl⟩) (Or.inr ⟨_, rfl⟩) (Nat.le_of_ble_eq_true rfl) (Nat.le_of_ble_eq_true rfl) d_KI_firstEqual_29 ⟨by rw [oEq, if_pos ⟨hlt, (lg_eq _ _).mp c_21⟩, xr_some hx], rfl⟩
  · refine x_callV1 C (q_KI_entryAt_out l E hK hA (Or.inr (nI_le (by omega) (by omega)))) (lk_KI_45 C.hts (Nat.le_of_ble_eq_true rfl) (Nat.le_of_ble_eq_true rfl)) hK rfl rfl d_KI_firstEqual_7 (Nat.le_of_ble_eq_true rfl) (Nat.le_of_ble_eq_true rfl) (Nat.le_of_ble_eq_true rfl) (fun r G' h => ?_)
    obtain ⟨rfl, rfl⟩ := h
    refine x_astore_nN C d_KI_firstEqual_10 rfl (Nat.le_of_ble_eq_true rfl) rfl ?_
    refine x_aload_nN C d_KI_firstEqual_11 rfl rfl ?_
    refine x_ifnullN C 28 d_KI_firstEqual_12 (by decide) ?_
    refine x_null C d_KI_firstEqual_28 ?_
    exact x_aret C (Or.inl ⟨_, rfl⟩) (Or.inl rfl) (Nat.le_of_ble_eq_true rfl) (Nat.le_of_ble_eq_true rfl) d_KI_firstEqual_29 ⟨by rw [oEq, if_neg (fun q => hlt q.1), xr_none], rfl⟩
set_option maxRecDepth 100000 in
set_option maxHeartbeats 4000000 in
theorem q_KI_hasEqualNextTo (l : Launch) (E : xE) {G : xw_G} {h0 en : Nat} {db sp : Bool} {fr sz : Int32} {lo : Int64} (hK : G h0 = some (eKI db fr sz en sp lo)) {ar : Nat} {xs : List Nat} (hA : xAL E G en ar xs) {fd cm : Nat → Int64} {so : Nat → Nat} (hX : xEs G xs fd cm so) {f d : Int64} {a0 s0 : Nat} (hN0 : G a0 = some (eEN f d s0)) {back : Bool} {k : Nat} (hk : k ≤ xs.length) (hp : ∀ i : Nat, i < xs.length → (ahead (fd i) (cm i) f d = true ↔ i < k)) : XMk l E y_KI_hasEqualNextTo w_KI_hasEqualNextTo rm_KI_hasEqualNextTo [.ref h0, .ref a0, .int (bI back)] G (fun r G' => r = some (.int (bI (eqNext xs.length fd k f back))) ∧ G = G') 0 0 := by
  refine XM_of [some (.ref h0), some (.ref a0), some (.int (bI back)), none, none] (XZ_st E) (by decide) rfl rfl rfl (Nat.le_of_ble_eq_true rfl) (fun p e s m below meth c C hnm => ?_)
  obtain ⟨cap, md, ff, hL, hAr, hc1, hc2, -, -⟩ := id hA
  have hcl := capOK_le hc2
  refine x_aload_n C d_KI_hasEqualNextTo_0 rfl rfl ?_
  refine x_aload_n C d_KI_hasEqualNextTo_1 rfl rfl ?_
  refine x_get C hN0 rfl (in_EN _) 0 (by decide) (List.mem_cons_of_mem _ f_KI_57) rfl d_KI_hasEqualNextTo_2 ?_
  refine x_aload_n C d_KI_hasEqualNextTo_5 rfl rfl ?_
  refine x_get C hN0 rfl (in_EN _) 1 (by decide) (List.mem_cons_of_mem _ f_KI_87) rfl d_KI_hasEqualNextTo_6 ?_
  refine x_callV2 C (q_KI_countAheadOf l E hK hA hX hk hp) (lk_KI_53 C.hts (Nat.le_of_ble_eq_true rfl) (Nat.le_of_ble_eq_true rfl)) hK rfl rfl d_KI_hasEqualNextTo_9 (Nat.le_of_ble_eq_true rfl) (Nat.le_of_ble_eq_true rfl) (Nat.le_of_ble_eq_true rfl) (fun r G' h => ?_)
  obtain ⟨rfl, rfl⟩ := h
  refine x_istore_n C d_KI_hasEqualNextTo_12 rfl (Nat.le_of_ble_eq_true rfl) rfl ?_
  refine x_aload_n C d_KI_hasEqualNextTo_13 rfl rfl ?_
  refine x_iload_n C d_KI_hasEqualNextTo_14 rfl rfl ?_
  refine x_if_eq C 24 d_KI_hasEqualNextTo_15 (by decide) (fun c_15 => ?_) (fun c_15 => ?_)
  · refine x_iload_n C d_KI_hasEqualNextTo_24 rfl rfl ?_
    refine x_iconst C (v := 1) d_KI_hasEqualNextTo_25 (by decide) ?_
    refine x_iadd C d_KI_hasEqualNextTo_26 ?_
    have hbk : back = false := (bI_0 back).mp c_15
    rw [nI_1]
    by_cases hlt : k + 1 < xs.length
    · obtain ⟨x, hx⟩ := al_get (show k + 1 < xs.length by omega)
      have hN := hX _ _ hx
      refine x_callV1 C (q_KI_entryAt_in l E hK hA hx hN) (lk_KI_45 C.hts (Nat.le_of_ble_eq_true rfl) (Nat.le_of_ble_eq_true rfl)) hK rfl rfl d_KI_hasEqualNextTo_27 (Nat.le_of_ble_eq_true rfl) (Nat.le_of_ble_eq_true rfl) (Nat.le_of_ble_eq_true rfl) (fun r G' h => ?_)
      obtain ⟨rfl, rfl⟩ := h
      refine x_astore C d_KI_hasEqualNextTo_30 (Nat.le_of_ble_eq_true rfl) rfl ?_
      refine x_aload C d_KI_hasEqualNextTo_32 rfl ?_
      refine x_ifnull C d_KI_hasEqualNextTo_34 ?_
      refine x_aload C d_KI_hasEqualNextTo_37 rfl ?_
      refine x_get C hN rfl (in_EN _) 0 (by decide) (List.mem_cons_of_mem _ f_KI_57) rfl d_KI_hasEqualNextTo_39 ?_
      refine x_aload_n C d_KI_hasEqualNextTo_42 rfl rfl ?_
      refine x_get C hN0 rfl (in_EN _) 0 (by decide) (List.mem_cons_of_mem _ f_KI_57) rfl d_KI_hasEqualNextTo_43 ?_
      refine x_lcmp C d_KI_hasEqualNextTo_46 ?_
      refine x_if_ne C 54 d_KI_hasEqualNextTo_47 (by decide) (fun c_47 => ?_) (fun c_47 => ?_)
      · refine x_iconst C (v := 0) d_KI_hasEqualNextTo_54 (by decide) ?_
        exact x_zret C rfl (Nat.le_of_ble_eq_true rfl) (Nat.le_of_ble_eq_true rfl) d_KI_hasEqualNextTo_55 ⟨congrArg some (congrArg Value.int (by subst hbk; clear hp; simp_all [eqNext, lg_eq, bI, Nat.pos_iff_ne_zero] <;> (intros; omega))), rfl⟩
      · refine x_iconst C (v := 1) d_KI_hasEqualNextTo_50 (by decide) ?_
        refine x_goto C 55 d_KI_hasEqualNextTo_51 (by decide) ?_
        exact x_zret C rfl (Nat.le_of_ble_eq_true rfl) (Nat.le_of_ble_eq_true rfl) d_KI_hasEqualNextTo_55 ⟨congrArg some (congrArg Value.int (by subst hbk; clear hp; simp_all [eqNext, lg_eq, bI, Nat.pos_iff_ne_zero] <;> (intros; omega))), rfl⟩
    · refine x_callV1 C (q_KI_entryAt_out l E hK hA (Or.inr (nI_le (by omega) (by omega)))) (lk_KI_45 C.hts (Nat.le_of_ble_eq_true rfl) (Nat.le_of_ble_eq_true rfl)) hK rfl rfl d_KI_hasEqualNextTo_27 (Nat.le_of_ble_eq_true rfl) (Nat.le_of_ble_eq_true rfl) (Nat.le_of_ble_eq_true rfl) (fun r G' h => ?_)
      obtain ⟨rfl, rfl⟩ := h
      refine x_astoreN C d_KI_hasEqualNextTo_30 (Nat.le_of_ble_eq_true rfl) rfl ?_
      refine x_aloadN C d_KI_hasEqualNextTo_32 rfl ?_
      refine x_ifnullN C 54 d_KI_hasEqualNextTo_34 (by decide) ?_
      refine x_iconst C (v := 0) d_KI_hasEqualNextTo_54 (by decide) ?_
      exact x_zret C rfl (Nat.le_of_ble_eq_true rfl) (Nat.le_of_ble_eq_true rfl) d_KI_hasEqualNextTo_55 ⟨congrArg some (congrArg Value.int (by subst hbk; clear hp; simp_all [eqNext, lg_eq, bI, Nat.pos_iff_ne_zero] <;> (intros; omega))), rfl⟩
  · refine x_iload_n C d_KI_hasEqualNextTo_18 rfl rfl ?_
    refine x_iconst C (v := 1) d_KI_hasEqualNextTo_19 (by decide) ?_
    refine x_isub C d_KI_hasEqualNextTo_20 ?_
    refine x_goto C 27 d_KI_hasEqualNextTo_21 (by decide) ?_
    have hbk : back = true := by cases back with | true => rfl | false => exact absurd rfl c_15
    by_cases hk0 : k = 0
    · have hm1 : nI k - 1 < 0 := by rw [hk0]; decide
      refine x_callV1 C (q_KI_entryAt_out l E hK hA (Or.inl hm1)) (lk_KI_45 C.hts (Nat.le_of_ble_eq_true rfl) (Nat.le_of_ble_eq_true rfl)) hK rfl rfl d_KI_hasEqualNextTo_27 (Nat.le_of_ble_eq_true rfl) (Nat.le_of_ble_eq_true rfl) (Nat.le_of_ble_eq_true rfl) (fun r G' h => ?_)
      obtain ⟨rfl, rfl⟩ := h
      refine x_astoreN C d_KI_hasEqualNextTo_30 (Nat.le_of_ble_eq_true rfl) rfl ?_
      refine x_aloadN C d_KI_hasEqualNextTo_32 rfl ?_
      refine x_ifnullN C 54 d_KI_hasEqualNextTo_34 (by decide) ?_
      refine x_iconst C (v := 0) d_KI_hasEqualNextTo_54 (by decide) ?_
      exact x_zret C rfl (Nat.le_of_ble_eq_true rfl) (Nat.le_of_ble_eq_true rfl) d_KI_hasEqualNextTo_55 ⟨congrArg some (congrArg Value.int (by subst hbk; clear hp; simp_all [eqNext, lg_eq, bI, Nat.pos_iff_ne_zero] <;> (intros; omega))), rfl⟩
    · rw [al_pred (show 0 < k by omega)]
      obtain ⟨x, hx⟩ := al_get (show k - 1 < xs.length by omega)
      have hN := hX _ _ hx
      refine x_callV1 C (q_KI_entryAt_in l E hK hA hx hN) (lk_KI_45 C.hts (Nat.le_of_ble_eq_true rfl) (Nat.le_of_ble_eq_true rfl)) hK rfl rfl d_KI_hasEqualNextTo_27 (Nat.le_of_ble_eq_true rfl) (Nat.le_of_ble_eq_true rfl) (Nat.le_of_ble_eq_true rfl) (fun r G' h => ?_)
      obtain ⟨rfl, rfl⟩ := h
      refine x_astore C d_KI_hasEqualNextTo_30 (Nat.le_of_ble_eq_true rfl) rfl ?_
      refine x_aload C d_KI_hasEqualNextTo_32 rfl ?_
      refine x_ifnull C d_KI_hasEqualNextTo_34 ?_
      refine x_aload C d_KI_hasEqualNextTo_37 rfl ?_
      refine x_get C hN rfl (in_EN _) 0 (by decide) (List.mem_cons_of_mem _ f_KI_57) rfl d_KI_hasEqualNextTo_39 ?_
      refine x_aload_n C d_KI_hasEqualNextTo_42 rfl rfl ?_
      refine x_get C hN0 rfl (in_EN _) 0 (by decide) (List.mem_cons_of_mem _ f_KI_57) rfl d_KI_hasEqualNextTo_43 ?_
      refine x_lcmp C d_KI_hasEqualNextTo_46 ?_
      refine x_if_ne C 54 d_KI_hasEqualNextTo_47 (by decide) (fun c_47 => ?_) (fun c_47 => ?_)
      · refine x_iconst C (v := 0) d_KI_hasEqualNextTo_54 (by decide) ?_
        exact x_zret C rfl (Nat.le_of_ble_eq_true rfl) (Nat.le_of_ble_eq_true rfl) d_KI_hasEqualNextTo_55 ⟨congrArg some (congrArg Value.int (by subst hbk; clear hp; simp_all [eqNext, lg_eq, bI, Nat.pos_iff_ne_zero] <;> (intros; omega))), rfl⟩
      · refine x_iconst C (v := 1) d_KI_hasEqualNextTo_50 (by decide) ?_
        refine x_goto C 55 d_KI_hasEqualNextTo_51 (by decide) ?_
        exact x_zret C rfl (Nat.le_of_ble_eq_true rfl) (Nat.le_of_ble_eq_true rfl) d_KI_hasEqualNextTo_55 ⟨congrArg some (congrArg Value.int (by subst hbk; clear hp; simp_all [eqNext, lg_eq, bI, Nat.pos_iff_ne_zero] <;> (intros; omega))), rfl⟩
set_option maxRecDepth 100000 in
set_option maxHeartbeats 4000000 in
theorem q_KI_entryBehind_0 (l : Launch) (E : xE) {G : xw_G} {h0 en : Nat} {db sp : Bool} {fr sz : Int32} {lo : Int64} (hK : G h0 = some (eKI db fr sz en sp lo)) {ar : Nat} {xs : List Nat} (hA : xAL E G en ar xs) {fd cm : Nat → Int64} {so : Nat → Nat} (hX : xEs G xs fd cm so) {vw : Nat} {op ae hw : Bool} {mo ac kr pl : Int32} {pf pc vr pw : Int64} {rl : Value} (hV : G vw = some (eVW op mo ac kr pl pf pc ae rl vr hw pw)) (h0p : pl = 0) : XMk l E y_KI_entryBehind w_KI_entryBehind rm_KI_entryBehind [.ref h0, .ref vw] G (fun r G' => r = some (xr xs (oAt xs.length 0)) ∧ G = G') 0 0 := by
  refine XM_of [some (.ref h0), some (.ref vw), none, none] (XZ_st E) (by decide) rfl rfl rfl (Nat.le_of_ble_eq_true rfl) (fun p e s m below meth c C hnm => ?_)
  obtain ⟨cap, md, ff, hL, hAr, hc1, hc2, -, -⟩ := id hA
  have hcl := capOK_le hc2
  refine x_aload_n C d_KI_entryBehind_0 rfl rfl ?_
  refine x_get C hV rfl (in_VW _) 4 (by decide) (List.mem_cons_of_mem _ f_KI_90) rfl d_KI_entryBehind_1 ?_
  refine x_if_ne C 13 d_KI_entryBehind_4 (by decide) (fun c_4 => ?_) (fun c_4 => ?_)
  · exact absurd h0p c_4
  · refine x_aload_n C d_KI_entryBehind_7 rfl rfl ?_
    refine x_iconst C (v := 0) d_KI_entryBehind_8 (by decide) ?_
    rw [← nI_0]
    by_cases hlt : 0 < xs.length
    · obtain ⟨x, hx⟩ := al_get (show 0 < xs.length by omega)
      have hN := hX _ _ hx
      refine x_callV1 C (q_KI_entryAt_in l E hK hA hx hN) (lk_KI_45 C.hts (Nat.le_of_ble_eq_true rfl) (Nat.le_of_ble_eq_true rfl)) hK rfl rfl d_KI_entryBehind_9 (Nat.le_of_ble_eq_true rfl) (Nat.le_of_ble_eq_true rfl) (Nat.le_of_ble_eq_true rfl) (fun r G' h => ?_)
      obtain ⟨rfl, rfl⟩ := h
      exact x_aret C (Or.inl ⟨_, rfl⟩) (Or.inr ⟨_, rfl⟩) (Nat.le_of_ble_eq_true rfl) (Nat.le_of_ble_eq_true rfl) d_KI_entryBehind_12 ⟨by rw [oAt, if_pos hlt, xr_some hx], rfl⟩
    · refine x_callV1 C (q_KI_entryAt_out l E hK hA (Or.inr (nI_le (by omega) (by omega)))) (lk_KI_45 C.hts (Nat.le_of_ble_eq_true rfl) (Nat.le_of_ble_eq_true rfl)) hK rfl rfl d_KI_entryBehind_9 (Nat.le_of_ble_eq_true rfl) (Nat.le_of_ble_eq_true rfl) (Nat.le_of_ble_eq_true rfl) (fun r G' h => ?_)
      obtain ⟨rfl, rfl⟩ := h
      exact x_aret C (Or.inl ⟨_, rfl⟩) (Or.inl rfl) (Nat.le_of_ble_eq_true rfl) (Nat.le_of_ble_eq_true rfl) d_KI_entryBehind_12 ⟨by rw [oAt, if_neg hlt, xr_none], rfl⟩
set_option maxRecDepth 100000 in
set_option maxHeartbeats 4000000 in
theorem q_KI_entryBehind (l : Launch) (E : xE) {G : xw_G} {h0 en : Nat} {db sp : Bool} {fr sz : Int32} {lo : Int64} (hK : G h0 = some (eKI db fr sz en sp lo)) {ar : Nat} {xs : List Nat} (hA : xAL E G en ar xs) {fd cm : Nat → Int64} {so : Nat → Nat} (hX : xEs G xs fd cm so) {vw : Nat} {op ae hw : Bool} {mo ac kr pl : Int32} {pf pc vr pw : Int64} {rl : Value} (hV : G vw = some (eVW op mo ac kr pl pf pc ae rl vr hw pw)) (h0p : ¬ pl = 0) {k : Nat} (hk : k ≤ xs.length) (hp : ∀ i : Nat, i < xs.length → (ahead (fd i) (cm i) pf (if pl = 2 then pc else pc + 1) = true ↔ i < k)) : XMk l E y_KI_entryBehind w_KI_entryBehind rm_KI_entryBehind [.ref h0, .ref vw] G (fun r G' => r = some (xr xs (oAt xs.length k)) ∧ G = G') 0 0 := by
  refine XM_of [some (.ref h0), some (.ref vw), none, none] (XZ_st E) (by decide) rfl rfl rfl (Nat.le_of_ble_eq_true rfl) (fun p e s m below meth c C hnm => ?_)
  obtain ⟨cap, md, ff, hL, hAr, hc1, hc2, -, -⟩ := id hA
  have hcl := capOK_le hc2
  refine x_aload_n C d_KI_entryBehind_0 rfl rfl ?_
  refine x_get C hV rfl (in_VW _) 4 (by decide) (List.mem_cons_of_mem _ f_KI_90) rfl d_KI_entryBehind_1 ?_
  refine x_if_ne C 13 d_KI_entryBehind_4 (by decide) (fun c_4 => ?_) (fun c_4 => ?_)
  · refine x_aload_n C d_KI_entryBehind_13 rfl rfl ?_
    refine x_get C hV rfl (in_VW _) 4 (by decide) (List.mem_cons_of_mem _ f_KI_90) rfl d_KI_entryBehind_14 ?_
    refine x_iconst C (v := 2) d_KI_entryBehind_17 (by decide) ?_
    refine x_icmp_ne C 28 d_KI_entryBehind_18 (by decide) (fun c_18 => ?_) (fun c_18 => ?_)
    · refine x_aload_n C d_KI_entryBehind_28 rfl rfl ?_
      refine x_get C hV rfl (in_VW _) 6 (by decide) (List.mem_cons_of_mem _ f_KI_95) rfl d_KI_entryBehind_29 ?_
      refine x_lconst C (v := 1) d_KI_entryBehind_32 (by decide) ?_
      refine x_ladd C d_KI_entryBehind_33 ?_
      rw [if_neg c_18] at hp
      refine x_lstore_n C d_KI_entryBehind_34 rfl (Nat.le_of_ble_eq_true rfl) rfl ?_
      refine x_aload_n C d_KI_entryBehind_35 rfl rfl ?_
      refine x_aload_n C d_KI_entryBehind_36 rfl rfl ?_
      refine x_aload_n C d_KI_entryBehind_37 rfl rfl ?_
      refine x_get C hV rfl (in_VW _) 5 (by decide) (List.mem_cons_of_mem _ f_KI_98) rfl d_KI_entryBehind_38 ?_
      refine x_lload_n C d_KI_entryBehind_41 rfl rfl ?_
      refine x_callV2 C (q_KI_countAheadOf l E hK hA hX hk hp) (lk_KI_53 C.hts (Nat.le_of_ble_eq_true rfl) (Nat.le_of_ble_eq_true rfl)) hK rfl rfl d_KI_entryBehind_42 (Nat.le_of_ble_eq_true rfl) (Nat.le_of_ble_eq_true rfl) (Nat.le_of_ble_eq_true rfl) (fun r G' h => ?_)
      obtain ⟨rfl, rfl⟩ := h
      by_cases hlt : k < xs.length
      · obtain ⟨x, hx⟩ := al_get (show k < xs.length by omega)
        have hN := hX _ _ hx
        refine x_callV1 C (q_KI_entryAt_in l E hK hA hx hN) (lk_KI_45 C.hts (Nat.le_of_ble_eq_true rfl) (Nat.le_of_ble_eq_true rfl)) hK rfl rfl d_KI_entryBehind_45 (Nat.le_of_ble_eq_true rfl) (Nat.le_of_ble_eq_true rfl) (Nat.le_of_ble_eq_true rfl) (fun r G' h => ?_)
        obtain ⟨rfl, rfl⟩ := h
        exact x_aret C (Or.inl ⟨_, rfl⟩) (Or.inr ⟨_, rfl⟩) (Nat.le_of_ble_eq_true rfl) (Nat.le_of_ble_eq_true rfl) d_KI_entryBehind_48 ⟨by rw [oAt, if_pos hlt, xr_some hx], rfl⟩
      · refine x_callV1 C (q_KI_entryAt_out l E hK hA (Or.inr (nI_le (by omega) (by omega)))) (lk_KI_45 C.hts (Nat.le_of_ble_eq_true rfl) (Nat.le_of_ble_eq_true rfl)) hK rfl rfl d_KI_entryBehind_45 (Nat.le_of_ble_eq_true rfl) (Nat.le_of_ble_eq_true rfl) (Nat.le_of_ble_eq_true rfl) (fun r G' h => ?_)
        obtain ⟨rfl, rfl⟩ := h
        exact x_aret C (Or.inl ⟨_, rfl⟩) (Or.inl rfl) (Nat.le_of_ble_eq_true rfl) (Nat.le_of_ble_eq_true rfl) d_KI_entryBehind_48 ⟨by rw [oAt, if_neg hlt, xr_none], rfl⟩
    · refine x_aload_n C d_KI_entryBehind_21 rfl rfl ?_
      refine x_get C hV rfl (in_VW _) 6 (by decide) (List.mem_cons_of_mem _ f_KI_95) rfl d_KI_entryBehind_22 ?_
      refine x_goto C 34 d_KI_entryBehind_25 (by decide) ?_
      rw [if_pos c_18] at hp
      refine x_lstore_n C d_KI_entryBehind_34 rfl (Nat.le_of_ble_eq_true rfl) rfl ?_
      refine x_aload_n C d_KI_entryBehind_35 rfl rfl ?_
      refine x_aload_n C d_KI_entryBehind_36 rfl rfl ?_
      refine x_aload_n C d_KI_entryBehind_37 rfl rfl ?_
      refine x_get C hV rfl (in_VW _) 5 (by decide) (List.mem_cons_of_mem _ f_KI_98) rfl d_KI_entryBehind_38 ?_
      refine x_lload_n C d_KI_entryBehind_41 rfl rfl ?_
      refine x_callV2 C (q_KI_countAheadOf l E hK hA hX hk hp) (lk_KI_53 C.hts (Nat.le_of_ble_eq_true rfl) (Nat.le_of_ble_eq_true rfl)) hK rfl rfl d_KI_entryBehind_42 (Nat.le_of_ble_eq_true rfl) (Nat.le_of_ble_eq_true rfl) (Nat.le_of_ble_eq_true rfl) (fun r G' h => ?_)
      obtain ⟨rfl, rfl⟩ := h
      by_cases hlt : k < xs.length
      · obtain ⟨x, hx⟩ := al_get (show k < xs.length by omega)
        have hN := hX _ _ hx
        refine x_callV1 C (q_KI_entryAt_in l E hK hA hx hN) (lk_KI_45 C.hts (Nat.le_of_ble_eq_true rfl) (Nat.le_of_ble_eq_true rfl)) hK rfl rfl d_KI_entryBehind_45 (Nat.le_of_ble_eq_true rfl) (Nat.le_of_ble_eq_true rfl) (Nat.le_of_ble_eq_true rfl) (fun r G' h => ?_)
        obtain ⟨rfl, rfl⟩ := h
        exact x_aret C (Or.inl ⟨_, rfl⟩) (Or.inr ⟨_, rfl⟩) (Nat.le_of_ble_eq_true rfl) (Nat.le_of_ble_eq_true rfl) d_KI_entryBehind_48 ⟨by rw [oAt, if_pos hlt, xr_some hx], rfl⟩
      · refine x_callV1 C (q_KI_entryAt_out l E hK hA (Or.inr (nI_le (by omega) (by omega)))) (lk_KI_45 C.hts (Nat.le_of_ble_eq_true rfl) (Nat.le_of_ble_eq_true rfl)) hK rfl rfl d_KI_entryBehind_45 (Nat.le_of_ble_eq_true rfl) (Nat.le_of_ble_eq_true rfl) (Nat.le_of_ble_eq_true rfl) (fun r G' h => ?_)
        obtain ⟨rfl, rfl⟩ := h
        exact x_aret C (Or.inl ⟨_, rfl⟩) (Or.inl rfl) (Nat.le_of_ble_eq_true rfl) (Nat.le_of_ble_eq_true rfl) d_KI_entryBehind_48 ⟨by rw [oAt, if_neg hlt, xr_none], rfl⟩
  · exact absurd c_4 h0p
set_option maxRecDepth 100000 in
set_option maxHeartbeats 4000000 in
theorem q_KI_entryAheadOf_0 (l : Launch) (E : xE) {G : xw_G} {h0 en : Nat} {db sp : Bool} {fr sz : Int32} {lo : Int64} (hK : G h0 = some (eKI db fr sz en sp lo)) {vw : Nat} {op ae hw : Bool} {mo ac kr pl : Int32} {pf pc vr pw : Int64} {rl : Value} (hV : G vw = some (eVW op mo ac kr pl pf pc ae rl vr hw pw)) (h0p : pl = 0) : XMk l E y_KI_entryAheadOf w_KI_entryAheadOf rm_KI_entryAheadOf [.ref h0, .ref vw] G (fun r G' => r = some (.null) ∧ G = G') 0 0 := by
  refine XM_of [some (.ref h0), some (.ref vw), none, none] (XZ_st E) (by decide) rfl rfl rfl (Nat.le_of_ble_eq_true rfl) (fun p e s m below meth c C hnm => ?_)
  refine x_aload_n C d_KI_entryAheadOf_0 rfl rfl ?_
  refine x_get C hV rfl (in_VW _) 4 (by decide) (List.mem_cons_of_mem _ f_KI_90) rfl d_KI_entryAheadOf_1 ?_
  refine x_if_ne C 9 d_KI_entryAheadOf_4 (by decide) (fun c_4 => ?_) (fun c_4 => ?_)
  · exact absurd h0p c_4
  · refine x_null C d_KI_entryAheadOf_7 ?_
    exact x_aret C (Or.inl ⟨_, rfl⟩) (Or.inl rfl) (Nat.le_of_ble_eq_true rfl) (Nat.le_of_ble_eq_true rfl) d_KI_entryAheadOf_8 ⟨rfl, rfl⟩
set_option maxRecDepth 100000 in
set_option maxHeartbeats 4000000 in
theorem q_KI_entryAheadOf (l : Launch) (E : xE) {G : xw_G} {h0 en : Nat} {db sp : Bool} {fr sz : Int32} {lo : Int64} (hK : G h0 = some (eKI db fr sz en sp lo)) {ar : Nat} {xs : List Nat} (hA : xAL E G en ar xs) {fd cm : Nat → Int64} {so : Nat → Nat} (hX : xEs G xs fd cm so) {vw : Nat} {op ae hw : Bool} {mo ac kr pl : Int32} {pf pc vr pw : Int64} {rl : Value} (hV : G vw = some (eVW op mo ac kr pl pf pc ae rl vr hw pw)) (h0p : ¬ pl = 0) {k : Nat} (hk : k ≤ xs.length) (hp : ∀ i : Nat, i < xs.length → (ahead (fd i) (cm i) pf (if pl = 2 then pc + 1 else pc) = true ↔ i < k)) : XMk l E y_KI_entryAheadOf w_KI_entryAheadOf rm_KI_entryAheadOf [.ref h0, .ref vw] G (fun r G' => r = some (xr xs (oBk k)) ∧ G = G') 0 0 := by
  refine XM_of [some (.ref h0), some (.ref vw), none, none] (XZ_st E) (by decide) rfl rfl rfl (Nat.le_of_ble_eq_true rfl) (fun p e s m below meth c C hnm => ?_)
  obtain ⟨cap, md, ff, hL, hAr, hc1, hc2, -, -⟩ := id hA
  have hcl := capOK_le hc2
  refine x_aload_n C d_KI_entryAheadOf_0 rfl rfl ?_
  refine x_get C hV rfl (in_VW _) 4 (by decide) (List.mem_cons_of_mem _ f_KI_90) rfl d_KI_entryAheadOf_1 ?_
  refine x_if_ne C 9 d_KI_entryAheadOf_4 (by decide) (fun c_4 => ?_) (fun c_4 => ?_)
  · refine x_aload_n C d_KI_entryAheadOf_9 rfl rfl ?_
    refine x_get C hV rfl (in_VW _) 4 (by decide) (List.mem_cons_of_mem _ f_KI_90) rfl d_KI_entryAheadOf_10 ?_
    refine x_iconst C (v := 2) d_KI_entryAheadOf_13 (by decide) ?_
    refine x_icmp_ne C 26 d_KI_entryAheadOf_14 (by decide) (fun c_14 => ?_) (fun c_14 => ?_)
    · refine x_aload_n C d_KI_entryAheadOf_26 rfl rfl ?_
      refine x_get C hV rfl (in_VW _) 6 (by decide) (List.mem_cons_of_mem _ f_KI_95) rfl d_KI_entryAheadOf_27 ?_
      rw [if_neg c_14] at hp
      refine x_lstore_n C d_KI_entryAheadOf_30 rfl (Nat.le_of_ble_eq_true rfl) rfl ?_
      refine x_aload_n C d_KI_entryAheadOf_31 rfl rfl ?_
      refine x_aload_n C d_KI_entryAheadOf_32 rfl rfl ?_
      refine x_aload_n C d_KI_entryAheadOf_33 rfl rfl ?_
      refine x_get C hV rfl (in_VW _) 5 (by decide) (List.mem_cons_of_mem _ f_KI_98) rfl d_KI_entryAheadOf_34 ?_
      refine x_lload_n C d_KI_entryAheadOf_37 rfl rfl ?_
      refine x_callV2 C (q_KI_countAheadOf l E hK hA hX hk hp) (lk_KI_53 C.hts (Nat.le_of_ble_eq_true rfl) (Nat.le_of_ble_eq_true rfl)) hK rfl rfl d_KI_entryAheadOf_38 (Nat.le_of_ble_eq_true rfl) (Nat.le_of_ble_eq_true rfl) (Nat.le_of_ble_eq_true rfl) (fun r G' h => ?_)
      obtain ⟨rfl, rfl⟩ := h
      refine x_iconst C (v := 1) d_KI_entryAheadOf_41 (by decide) ?_
      refine x_isub C d_KI_entryAheadOf_42 ?_
      by_cases hk0 : k = 0
      · have hm1 : nI k - 1 < 0 := by rw [hk0]; decide
        refine x_callV1 C (q_KI_entryAt_out l E hK hA (Or.inl hm1)) (lk_KI_45 C.hts (Nat.le_of_ble_eq_true rfl) (Nat.le_of_ble_eq_true rfl)) hK rfl rfl d_KI_entryAheadOf_43 (Nat.le_of_ble_eq_true rfl) (Nat.le_of_ble_eq_true rfl) (Nat.le_of_ble_eq_true rfl) (fun r G' h => ?_)
        obtain ⟨rfl, rfl⟩ := h
        exact x_aret C (Or.inl ⟨_, rfl⟩) (Or.inl rfl) (Nat.le_of_ble_eq_true rfl) (Nat.le_of_ble_eq_true rfl) d_KI_entryAheadOf_46 ⟨by rw [oBk, if_neg (by omega), xr_none], rfl⟩
      · rw [al_pred (show 0 < k by omega)]
        obtain ⟨x, hx⟩ := al_get (show k - 1 < xs.length by omega)
        have hN := hX _ _ hx
        refine x_callV1 C (q_KI_entryAt_in l E hK hA hx hN) (lk_KI_45 C.hts (Nat.le_of_ble_eq_true rfl) (Nat.le_of_ble_eq_true rfl)) hK rfl rfl d_KI_entryAheadOf_43 (Nat.le_of_ble_eq_true rfl) (Nat.le_of_ble_eq_true rfl) (Nat.le_of_ble_eq_true rfl) (fun r G' h => ?_)
        obtain ⟨rfl, rfl⟩ := h
        exact x_aret C (Or.inl ⟨_, rfl⟩) (Or.inr ⟨_, rfl⟩) (Nat.le_of_ble_eq_true rfl) (Nat.le_of_ble_eq_true rfl) d_KI_entryAheadOf_46 ⟨by rw [oBk, if_pos (by omega), xr_some hx], rfl⟩
    · refine x_aload_n C d_KI_entryAheadOf_17 rfl rfl ?_
      refine x_get C hV rfl (in_VW _) 6 (by decide) (List.mem_cons_of_mem _ f_KI_95) rfl d_KI_entryAheadOf_18 ?_
      refine x_lconst C (v := 1) d_KI_entryAheadOf_21 (by decide) ?_
      refine x_ladd C d_KI_entryAheadOf_22 ?_
      refine x_goto C 30 d_KI_entryAheadOf_23 (by decide) ?_
      rw [if_pos c_14] at hp
      refine x_lstore_n C d_KI_entryAheadOf_30 rfl (Nat.le_of_ble_eq_true rfl) rfl ?_
      refine x_aload_n C d_KI_entryAheadOf_31 rfl rfl ?_
      refine x_aload_n C d_KI_entryAheadOf_32 rfl rfl ?_
      refine x_aload_n C d_KI_entryAheadOf_33 rfl rfl ?_
      refine x_get C hV rfl (in_VW _) 5 (by decide) (List.mem_cons_of_mem _ f_KI_98) rfl d_KI_entryAheadOf_34 ?_
      refine x_lload_n C d_KI_entryAheadOf_37 rfl rfl ?_
      refine x_callV2 C (q_KI_countAheadOf l E hK hA hX hk hp) (lk_KI_53 C.hts (Nat.le_of_ble_eq_true rfl) (Nat.le_of_ble_eq_true rfl)) hK rfl rfl d_KI_entryAheadOf_38 (Nat.le_of_ble_eq_true rfl) (Nat.le_of_ble_eq_true rfl) (Nat.le_of_ble_eq_true rfl) (fun r G' h => ?_)
      obtain ⟨rfl, rfl⟩ := h
      refine x_iconst C (v := 1) d_KI_entryAheadOf_41 (by decide) ?_
      refine x_isub C d_KI_entryAheadOf_42 ?_
      by_cases hk0 : k = 0
      · have hm1 : nI k - 1 < 0 := by rw [hk0]; decide
        refine x_callV1 C (q_KI_entryAt_out l E hK hA (Or.inl hm1)) (lk_KI_45 C.hts (Nat.le_of_ble_eq_true rfl) (Nat.le_of_ble_eq_true rfl)) hK rfl rfl d_KI_entryAheadOf_43 (Nat.le_of_ble_eq_true rfl) (Nat.le_of_ble_eq_true rfl) (Nat.le_of_ble_eq_true rfl) (fun r G' h => ?_)
        obtain ⟨rfl, rfl⟩ := h
        exact x_aret C (Or.inl ⟨_, rfl⟩) (Or.inl rfl) (Nat.le_of_ble_eq_true rfl) (Nat.le_of_ble_eq_true rfl) d_KI_entryAheadOf_46 ⟨by rw [oBk, if_neg (by omega), xr_none], rfl⟩
      · rw [al_pred (show 0 < k by omega)]
        obtain ⟨x, hx⟩ := al_get (show k - 1 < xs.length by omega)
        have hN := hX _ _ hx
        refine x_callV1 C (q_KI_entryAt_in l E hK hA hx hN) (lk_KI_45 C.hts (Nat.le_of_ble_eq_true rfl) (Nat.le_of_ble_eq_true rfl)) hK rfl rfl d_KI_entryAheadOf_43 (Nat.le_of_ble_eq_true rfl) (Nat.le_of_ble_eq_true rfl) (Nat.le_of_ble_eq_true rfl) (fun r G' h => ?_)
        obtain ⟨rfl, rfl⟩ := h
        exact x_aret C (Or.inl ⟨_, rfl⟩) (Or.inr ⟨_, rfl⟩) (Nat.le_of_ble_eq_true rfl) (Nat.le_of_ble_eq_true rfl) d_KI_entryAheadOf_46 ⟨by rw [oBk, if_pos (by omega), xr_some hx], rfl⟩
  · exact absurd c_4 h0p
end
section
theorem xAL_fresh {E : xE} {G : xw_G} {h ar q : Nat} {xs : List Nat} {e : va_E} (hq : G q = none) (hA : xAL E G h ar xs) : xAL E (va_up G q (some e)) h ar xs := by
  obtain ⟨cap, md, f, h1, h2, h3⟩ := hA
  exact ⟨cap, md, f, xw_keep h1 (xw_neF hq h1), xw_keep h2 (xw_neF hq h2), h3⟩
theorem xEm_fresh {E : xE} {G : xw_G} {q : Nat} {e : va_E} (hq : G q = none) (h : xEm E G) : xEm E (va_up G q (some e)) := by
  obtain ⟨f, hf⟩ := h
  exact ⟨f, xw_keep hf (xw_neF hq hf)⟩
theorem xEs_el {G : xw_G} {xs : List Nat} {fd cm : Nat → Int64} {so : Nat → Nat} (hX : xEs G xs fd cm so) : ∀ y ∈ xs, xw_el G y := by
  intro y hy
  obtain ⟨i, hi⟩ := List.getElem?_of_mem hy
  exact ⟨1, _, hX i y hi, Or.inl rfl⟩
theorem xAL_el {E : xE} {G : xw_G} {h ar y : Nat} {xs : List Nat} (hA : xAL E G h ar xs) (hy : xw_el G y) : y ≠ h ∧ y ≠ ar := by
  obtain ⟨cap, md, f, h1, h2, -⟩ := hA
  obtain ⟨ci, fs, g1, g2⟩ := hy
  exact ⟨xw_neC g1 h1 (by omega), xw_neA g1 h2⟩
theorem xAL_keep {E : xE} {G G' : xw_G} {h ar a ci : Nat} {xs : List Nat} {fs : List Value} (hA : xAL E G h ar xs) (hF : xFr E G G' h ar) (ha : G a = some (.inr (ci, fs))) (hc : ci ≠ 6) : G' a = some (.inr (ci, fs)) := by
  obtain ⟨cap, md, f, h1, h2, -⟩ := hA
  exact hF a _ ha (xw_neC ha h1 hc) (fun q => absurd q (xw_neA ha h2))
set_option maxRecDepth 100000 in
set_option maxHeartbeats 4000000 in
theorem q_KI_findByPart (l : Launch) (E : xE) {G : xw_G} {h0 en : Nat} {db sp : Bool} {fr sz : Int32} {lo : Int64} (hK : G h0 = some (eKI db fr sz en sp lo)) {ar : Nat} {xs : List Nat} (hA : xAL E G en ar xs) {fd cm : Nat → Int64} {so : Nat → Nat} (hX : xEs G xs fd cm so) {op b : Int32} {prt : Int64} {k : Nat} (hk : k ≤ xs.length) (hp : ∀ i : Nat, i < xs.length → (byPart sz b (decide (op = 1 ∨ op = 4)) (fd i) prt = true ↔ i < k)) : XMk l E y_KI_findByPart w_KI_findByPart rm_KI_findByPart [.ref h0, .int (op), .long (prt), .int (b)] G (fun r G' => r = some (xr xs (oPart xs.length fd sz b op prt k)) ∧ G = G') 0 0 := by
  refine XM_of [some (.ref h0), some (.int (op)), some (.long (prt)), none, some (.int (b)), none, none, none] (XZ_st E) (by decide) rfl rfl rfl (Nat.le_of_ble_eq_true rfl) (fun p e s m below meth c C hnm => ?_)
  obtain ⟨cap, md, ff, hL, hAr, hc1, hc2, -, -⟩ := id hA
  have hcl := capOK_le hc2
  refine x_iload_n C d_KI_findByPart_0 rfl rfl ?_
  refine x_iconst C (v := 1) d_KI_findByPart_1 (by decide) ?_
  refine x_icmp_eq C 10 d_KI_findByPart_2 (by decide) (fun c_2 => ?_) (fun c_2 => ?_)
  · refine x_iconst C (v := 1) d_KI_findByPart_10 (by decide) ?_
    refine x_goto C 15 d_KI_findByPart_11 (by decide) ?_
    rw [show decide (op = 1 ∨ op = 4) = true from by simp_all] at hp
    refine x_istore C d_KI_findByPart_15 (Nat.le_of_ble_eq_true rfl) rfl ?_
    refine x_aload_n C d_KI_findByPart_17 rfl rfl ?_
    refine x_lload_n C d_KI_findByPart_18 rfl rfl ?_
    refine x_iload C d_KI_findByPart_19 rfl ?_
    refine x_iload C d_KI_findByPart_21 rfl ?_
    refine x_callV3 C (q_KI_countByPart l E hK hA hX (eq := true) hk hp) (lk_KI_101 C.hts (Nat.le_of_ble_eq_true rfl) (Nat.le_of_ble_eq_true rfl)) hK rfl rfl d_KI_findByPart_23 (Nat.le_of_ble_eq_true rfl) (Nat.le_of_ble_eq_true rfl) (Nat.le_of_ble_eq_true rfl) (fun r G' h => ?_)
    obtain ⟨rfl, rfl⟩ := h
    refine x_istore C d_KI_findByPart_26 (Nat.le_of_ble_eq_true rfl) rfl ?_
    refine x_aload_n C d_KI_findByPart_28 rfl rfl ?_
    refine x_iload_n C d_KI_findByPart_29 rfl rfl ?_
    refine x_iconst C (v := 3) d_KI_findByPart_30 (by decide) ?_
    refine x_icmp_eq C 39 d_KI_findByPart_31 (by decide) (fun c_31 => ?_) (fun c_31 => ?_)
    · have hbk : op = 3 ∨ op = 4 := by simp_all
      refine x_iload C d_KI_findByPart_39 rfl ?_
      refine x_iconst C (v := 1) d_KI_findByPart_41 (by decide) ?_
      refine x_isub C d_KI_findByPart_42 ?_
      refine x_goto C 48 d_KI_findByPart_43 (by decide) ?_
      by_cases hk0 : k = 0
      · have hm1 : nI k - 1 < 0 := by rw [hk0]; decide
        refine x_callV1 C (q_KI_entryAt_out l E hK hA (Or.inl hm1)) (lk_KI_45 C.hts (Nat.le_of_ble_eq_true rfl) (Nat.le_of_ble_eq_true rfl)) hK rfl rfl d_KI_findByPart_48 (Nat.le_of_ble_eq_true rfl) (Nat.le_of_ble_eq_true rfl) (Nat.le_of_ble_eq_true rfl) (fun r G' h => ?_)
        obtain ⟨rfl, rfl⟩ := h
        refine x_astoreN C d_KI_findByPart_51 (Nat.le_of_ble_eq_true rfl) rfl ?_
        refine x_iload_n C d_KI_findByPart_53 rfl rfl ?_
        refine x_if_ne C 77 d_KI_findByPart_54 (by decide) (fun c_54 => ?_) (fun c_54 => ?_)
        · refine x_aloadN C d_KI_findByPart_77 rfl ?_
          exact x_aret C (Or.inl ⟨_, rfl⟩) (Or.inl rfl) (Nat.le_of_ble_eq_true rfl) (Nat.le_of_ble_eq_true rfl) d_KI_findByPart_79 ⟨by rw [oPart, if_pos hbk, oBk, if_neg (by omega), xr_none], rfl⟩
        · subst c_54
          exact absurd hbk (by decide)
      · rw [al_pred (show 0 < k by omega)]
        obtain ⟨x, hx⟩ := al_get (show k - 1 < xs.length by omega)
        have hN := hX _ _ hx
        refine x_callV1 C (q_KI_entryAt_in l E hK hA hx hN) (lk_KI_45 C.hts (Nat.le_of_ble_eq_true rfl) (Nat.le_of_ble_eq_true rfl)) hK rfl rfl d_KI_findByPart_48 (Nat.le_of_ble_eq_true rfl) (Nat.le_of_ble_eq_true rfl) (Nat.le_of_ble_eq_true rfl) (fun r G' h => ?_)
        obtain ⟨rfl, rfl⟩ := h
        refine x_astore C d_KI_findByPart_51 (Nat.le_of_ble_eq_true rfl) rfl ?_
        refine x_iload_n C d_KI_findByPart_53 rfl rfl ?_
        refine x_if_ne C 77 d_KI_findByPart_54 (by decide) (fun c_54 => ?_) (fun c_54 => ?_)
        · refine x_aload C d_KI_findByPart_77 rfl ?_
          exact x_aret C (Or.inl ⟨_, rfl⟩) (Or.inr ⟨_, rfl⟩) (Nat.le_of_ble_eq_true rfl) (Nat.le_of_ble_eq_true rfl) d_KI_findByPart_79 ⟨by rw [oPart, if_pos hbk, oBk, if_pos (by omega), xr_some hx], rfl⟩
        · subst c_54
          exact absurd hbk (by decide)
    · refine x_iload_n C d_KI_findByPart_34 rfl rfl ?_
      refine x_iconst C (v := 4) d_KI_findByPart_35 (by decide) ?_
      refine x_icmp_ne C 46 d_KI_findByPart_36 (by decide) (fun c_36 => ?_) (fun c_36 => ?_)
      · have hnb : ¬ (op = 3 ∨ op = 4) := by simp_all
        refine x_iload C d_KI_findByPart_46 rfl ?_
        by_cases hlt : k < xs.length
        · obtain ⟨x, hx⟩ := al_get (show k < xs.length by omega)
          have hN := hX _ _ hx
          refine x_callV1 C (q_KI_entryAt_in l E hK hA hx hN) (lk_KI_45 C.hts (Nat.le_of_ble_eq_true rfl) (Nat.le_of_ble_eq_true rfl)) hK rfl rfl d_KI_findByPart_48 (Nat.le_of_ble_eq_true rfl) (Nat.le_of_ble_eq_true rfl) (Nat.le_of_ble_eq_true rfl) (fun r G' h => ?_)
          obtain ⟨rfl, rfl⟩ := h
          refine x_astore C d_KI_findByPart_51 (Nat.le_of_ble_eq_true rfl) rfl ?_
          refine x_iload_n C d_KI_findByPart_53 rfl rfl ?_
          refine x_if_ne C 77 d_KI_findByPart_54 (by decide) (fun c_54 => ?_) (fun c_54 => ?_)
          · refine x_aload C d_KI_findByPart_77 rfl ?_
            exact x_aret C (Or.inl ⟨_, rfl⟩) (Or.inr ⟨_, rfl⟩) (Nat.le_of_ble_eq_true rfl) (Nat.le_of_ble_eq_true rfl) d_KI_findByPart_79 ⟨by rw [oPart, if_neg hnb, if_pos ⟨hlt, fun q => by first | exact absurd q c_54 | exact (lg_eq _ _).mp c_72⟩, xr_some hx], rfl⟩
          · refine x_aload C d_KI_findByPart_57 rfl ?_
            refine x_ifnull C d_KI_findByPart_59 ?_
            refine x_aload_n C d_KI_findByPart_62 rfl rfl ?_
            refine x_aload C d_KI_findByPart_63 rfl ?_
            refine x_iload C d_KI_findByPart_65 rfl ?_
            refine x_callV2 C (q_KI_partOf l E hK hN) (lk_KI_105 C.hts (Nat.le_of_ble_eq_true rfl) (Nat.le_of_ble_eq_true rfl)) hK rfl rfl d_KI_findByPart_67 (Nat.le_of_ble_eq_true rfl) (Nat.le_of_ble_eq_true rfl) (Nat.le_of_ble_eq_true rfl) (fun r G' h => ?_)
            obtain ⟨rfl, rfl⟩ := h
            refine x_lload_n C d_KI_findByPart_70 rfl rfl ?_
            refine x_lcmp C d_KI_findByPart_71 ?_
            refine x_if_eq C 77 d_KI_findByPart_72 (by decide) (fun c_72 => ?_) (fun c_72 => ?_)
            · refine x_aload C d_KI_findByPart_77 rfl ?_
              exact x_aret C (Or.inl ⟨_, rfl⟩) (Or.inr ⟨_, rfl⟩) (Nat.le_of_ble_eq_true rfl) (Nat.le_of_ble_eq_true rfl) d_KI_findByPart_79 ⟨by rw [oPart, if_neg hnb, if_pos ⟨hlt, fun q => by first | exact absurd q c_54 | exact (lg_eq _ _).mp c_72⟩, xr_some hx], rfl⟩
            · refine x_null C d_KI_findByPart_75 ?_
              exact x_aret C (Or.inl ⟨_, rfl⟩) (Or.inl rfl) (Nat.le_of_ble_eq_true rfl) (Nat.le_of_ble_eq_true rfl) d_KI_findByPart_76 ⟨by rw [oPart, if_neg hnb, if_neg (fun q => c_72 ((lg_eq _ _).mpr (q.2 c_54))), xr_none], rfl⟩
        · refine x_callV1 C (q_KI_entryAt_out l E hK hA (Or.inr (nI_le (by omega) (by omega)))) (lk_KI_45 C.hts (Nat.le_of_ble_eq_true rfl) (Nat.le_of_ble_eq_true rfl)) hK rfl rfl d_KI_findByPart_48 (Nat.le_of_ble_eq_true rfl) (Nat.le_of_ble_eq_true rfl) (Nat.le_of_ble_eq_true rfl) (fun r G' h => ?_)
          obtain ⟨rfl, rfl⟩ := h
          refine x_astoreN C d_KI_findByPart_51 (Nat.le_of_ble_eq_true rfl) rfl ?_
          refine x_iload_n C d_KI_findByPart_53 rfl rfl ?_
          refine x_if_ne C 77 d_KI_findByPart_54 (by decide) (fun c_54 => ?_) (fun c_54 => ?_)
          · refine x_aloadN C d_KI_findByPart_77 rfl ?_
            exact x_aret C (Or.inl ⟨_, rfl⟩) (Or.inl rfl) (Nat.le_of_ble_eq_true rfl) (Nat.le_of_ble_eq_true rfl) d_KI_findByPart_79 ⟨by rw [oPart, if_neg hnb, if_neg (fun q => hlt q.1), xr_none], rfl⟩
          · refine x_aloadN C d_KI_findByPart_57 rfl ?_
            refine x_ifnullN C 77 d_KI_findByPart_59 (by decide) ?_
            refine x_aloadN C d_KI_findByPart_77 rfl ?_
            exact x_aret C (Or.inl ⟨_, rfl⟩) (Or.inl rfl) (Nat.le_of_ble_eq_true rfl) (Nat.le_of_ble_eq_true rfl) d_KI_findByPart_79 ⟨by rw [oPart, if_neg hnb, if_neg (fun q => hlt q.1), xr_none], rfl⟩
      · have hbk : op = 3 ∨ op = 4 := by simp_all
        refine x_iload C d_KI_findByPart_39 rfl ?_
        refine x_iconst C (v := 1) d_KI_findByPart_41 (by decide) ?_
        refine x_isub C d_KI_findByPart_42 ?_
        refine x_goto C 48 d_KI_findByPart_43 (by decide) ?_
        by_cases hk0 : k = 0
        · have hm1 : nI k - 1 < 0 := by rw [hk0]; decide
          refine x_callV1 C (q_KI_entryAt_out l E hK hA (Or.inl hm1)) (lk_KI_45 C.hts (Nat.le_of_ble_eq_true rfl) (Nat.le_of_ble_eq_true rfl)) hK rfl rfl d_KI_findByPart_48 (Nat.le_of_ble_eq_true rfl) (Nat.le_of_ble_eq_true rfl) (Nat.le_of_ble_eq_true rfl) (fun r G' h => ?_)
          obtain ⟨rfl, rfl⟩ := h
          refine x_astoreN C d_KI_findByPart_51 (Nat.le_of_ble_eq_true rfl) rfl ?_
          refine x_iload_n C d_KI_findByPart_53 rfl rfl ?_
          refine x_if_ne C 77 d_KI_findByPart_54 (by decide) (fun c_54 => ?_) (fun c_54 => ?_)
          · refine x_aloadN C d_KI_findByPart_77 rfl ?_
            exact x_aret C (Or.inl ⟨_, rfl⟩) (Or.inl rfl) (Nat.le_of_ble_eq_true rfl) (Nat.le_of_ble_eq_true rfl) d_KI_findByPart_79 ⟨by rw [oPart, if_pos hbk, oBk, if_neg (by omega), xr_none], rfl⟩
          · subst c_54
            exact absurd hbk (by decide)
        · rw [al_pred (show 0 < k by omega)]
          obtain ⟨x, hx⟩ := al_get (show k - 1 < xs.length by omega)
          have hN := hX _ _ hx
          refine x_callV1 C (q_KI_entryAt_in l E hK hA hx hN) (lk_KI_45 C.hts (Nat.le_of_ble_eq_true rfl) (Nat.le_of_ble_eq_true rfl)) hK rfl rfl d_KI_findByPart_48 (Nat.le_of_ble_eq_true rfl) (Nat.le_of_ble_eq_true rfl) (Nat.le_of_ble_eq_true rfl) (fun r G' h => ?_)
          obtain ⟨rfl, rfl⟩ := h
          refine x_astore C d_KI_findByPart_51 (Nat.le_of_ble_eq_true rfl) rfl ?_
          refine x_iload_n C d_KI_findByPart_53 rfl rfl ?_
          refine x_if_ne C 77 d_KI_findByPart_54 (by decide) (fun c_54 => ?_) (fun c_54 => ?_)
          · refine x_aload C d_KI_findByPart_77 rfl ?_
            exact x_aret C (Or.inl ⟨_, rfl⟩) (Or.inr ⟨_, rfl⟩) (Nat.le_of_ble_eq_true rfl) (Nat.le_of_ble_eq_true rfl) d_KI_findByPart_79 ⟨by rw [oPart, if_pos hbk, oBk, if_pos (by omega), xr_some hx], rfl⟩
          · subst c_54
            exact absurd hbk (by decide)
  · refine x_iload_n C d_KI_findByPart_5 rfl rfl ?_
    refine x_iconst C (v := 4) d_KI_findByPart_6 (by decide) ?_
    refine x_icmp_ne C 14 d_KI_findByPart_7 (by decide) (fun c_7 => ?_) (fun c_7 => ?_)
    · refine x_iconst C (v := 0) d_KI_findByPart_14 (by decide) ?_
      rw [show decide (op = 1 ∨ op = 4) = false from by simp_all] at hp
      refine x_istore C d_KI_findByPart_15 (Nat.le_of_ble_eq_true rfl) rfl ?_
      refine x_aload_n C d_KI_findByPart_17 rfl rfl ?_
      refine x_lload_n C d_KI_findByPart_18 rfl rfl ?_
      refine x_iload C d_KI_findByPart_19 rfl ?_
      refine x_iload C d_KI_findByPart_21 rfl ?_
      refine x_callV3 C (q_KI_countByPart l E hK hA hX (eq := false) hk hp) (lk_KI_101 C.hts (Nat.le_of_ble_eq_true rfl) (Nat.le_of_ble_eq_true rfl)) hK rfl rfl d_KI_findByPart_23 (Nat.le_of_ble_eq_true rfl) (Nat.le_of_ble_eq_true rfl) (Nat.le_of_ble_eq_true rfl) (fun r G' h => ?_)
      obtain ⟨rfl, rfl⟩ := h
      refine x_istore C d_KI_findByPart_26 (Nat.le_of_ble_eq_true rfl) rfl ?_
      refine x_aload_n C d_KI_findByPart_28 rfl rfl ?_
      refine x_iload_n C d_KI_findByPart_29 rfl rfl ?_
      refine x_iconst C (v := 3) d_KI_findByPart_30 (by decide) ?_
      refine x_icmp_eq C 39 d_KI_findByPart_31 (by decide) (fun c_31 => ?_) (fun c_31 => ?_)
      · have hbk : op = 3 ∨ op = 4 := by simp_all
        refine x_iload C d_KI_findByPart_39 rfl ?_
        refine x_iconst C (v := 1) d_KI_findByPart_41 (by decide) ?_
        refine x_isub C d_KI_findByPart_42 ?_
        refine x_goto C 48 d_KI_findByPart_43 (by decide) ?_
        by_cases hk0 : k = 0
        · have hm1 : nI k - 1 < 0 := by rw [hk0]; decide
          refine x_callV1 C (q_KI_entryAt_out l E hK hA (Or.inl hm1)) (lk_KI_45 C.hts (Nat.le_of_ble_eq_true rfl) (Nat.le_of_ble_eq_true rfl)) hK rfl rfl d_KI_findByPart_48 (Nat.le_of_ble_eq_true rfl) (Nat.le_of_ble_eq_true rfl) (Nat.le_of_ble_eq_true rfl) (fun r G' h => ?_)
          obtain ⟨rfl, rfl⟩ := h
          refine x_astoreN C d_KI_findByPart_51 (Nat.le_of_ble_eq_true rfl) rfl ?_
          refine x_iload_n C d_KI_findByPart_53 rfl rfl ?_
          refine x_if_ne C 77 d_KI_findByPart_54 (by decide) (fun c_54 => ?_) (fun c_54 => ?_)
          · refine x_aloadN C d_KI_findByPart_77 rfl ?_
            exact x_aret C (Or.inl ⟨_, rfl⟩) (Or.inl rfl) (Nat.le_of_ble_eq_true rfl) (Nat.le_of_ble_eq_true rfl) d_KI_findByPart_79 ⟨by rw [oPart, if_pos hbk, oBk, if_neg (by omega), xr_none], rfl⟩
          · subst c_54
            exact absurd hbk (by decide)
        · rw [al_pred (show 0 < k by omega)]
          obtain ⟨x, hx⟩ := al_get (show k - 1 < xs.length by omega)
          have hN := hX _ _ hx
          refine x_callV1 C (q_KI_entryAt_in l E hK hA hx hN) (lk_KI_45 C.hts (Nat.le_of_ble_eq_true rfl) (Nat.le_of_ble_eq_true rfl)) hK rfl rfl d_KI_findByPart_48 (Nat.le_of_ble_eq_true rfl) (Nat.le_of_ble_eq_true rfl) (Nat.le_of_ble_eq_true rfl) (fun r G' h => ?_)
          obtain ⟨rfl, rfl⟩ := h
          refine x_astore C d_KI_findByPart_51 (Nat.le_of_ble_eq_true rfl) rfl ?_
          refine x_iload_n C d_KI_findByPart_53 rfl rfl ?_
          refine x_if_ne C 77 d_KI_findByPart_54 (by decide) (fun c_54 => ?_) (fun c_54 => ?_)
          · refine x_aload C d_KI_findByPart_77 rfl ?_
            exact x_aret C (Or.inl ⟨_, rfl⟩) (Or.inr ⟨_, rfl⟩) (Nat.le_of_ble_eq_true rfl) (Nat.le_of_ble_eq_true rfl) d_KI_findByPart_79 ⟨by rw [oPart, if_pos hbk, oBk, if_pos (by omega), xr_some hx], rfl⟩
          · subst c_54
            exact absurd hbk (by decide)
      · refine x_iload_n C d_KI_findByPart_34 rfl rfl ?_
        refine x_iconst C (v := 4) d_KI_findByPart_35 (by decide) ?_
        refine x_icmp_ne C 46 d_KI_findByPart_36 (by decide) (fun c_36 => ?_) (fun c_36 => ?_)
        · have hnb : ¬ (op = 3 ∨ op = 4) := by simp_all
          refine x_iload C d_KI_findByPart_46 rfl ?_
          by_cases hlt : k < xs.length
          · obtain ⟨x, hx⟩ := al_get (show k < xs.length by omega)
            have hN := hX _ _ hx
            refine x_callV1 C (q_KI_entryAt_in l E hK hA hx hN) (lk_KI_45 C.hts (Nat.le_of_ble_eq_true rfl) (Nat.le_of_ble_eq_true rfl)) hK rfl rfl d_KI_findByPart_48 (Nat.le_of_ble_eq_true rfl) (Nat.le_of_ble_eq_true rfl) (Nat.le_of_ble_eq_true rfl) (fun r G' h => ?_)
            obtain ⟨rfl, rfl⟩ := h
            refine x_astore C d_KI_findByPart_51 (Nat.le_of_ble_eq_true rfl) rfl ?_
            refine x_iload_n C d_KI_findByPart_53 rfl rfl ?_
            refine x_if_ne C 77 d_KI_findByPart_54 (by decide) (fun c_54 => ?_) (fun c_54 => ?_)
            · refine x_aload C d_KI_findByPart_77 rfl ?_
              exact x_aret C (Or.inl ⟨_, rfl⟩) (Or.inr ⟨_, rfl⟩) (Nat.le_of_ble_eq_true rfl) (Nat.le_of_ble_eq_true rfl) d_KI_findByPart_79 ⟨by rw [oPart, if_neg hnb, if_pos ⟨hlt, fun q => by first | exact absurd q c_54 | exact (lg_eq _ _).mp c_72⟩, xr_some hx], rfl⟩
            · refine x_aload C d_KI_findByPart_57 rfl ?_
              refine x_ifnull C d_KI_findByPart_59 ?_
              refine x_aload_n C d_KI_findByPart_62 rfl rfl ?_
              refine x_aload C d_KI_findByPart_63 rfl ?_
              refine x_iload C d_KI_findByPart_65 rfl ?_
              refine x_callV2 C (q_KI_partOf l E hK hN) (lk_KI_105 C.hts (Nat.le_of_ble_eq_true rfl) (Nat.le_of_ble_eq_true rfl)) hK rfl rfl d_KI_findByPart_67 (Nat.le_of_ble_eq_true rfl) (Nat.le_of_ble_eq_true rfl) (Nat.le_of_ble_eq_true rfl) (fun r G' h => ?_)
              obtain ⟨rfl, rfl⟩ := h
              refine x_lload_n C d_KI_findByPart_70 rfl rfl ?_
              refine x_lcmp C d_KI_findByPart_71 ?_
              refine x_if_eq C 77 d_KI_findByPart_72 (by decide) (fun c_72 => ?_) (fun c_72 => ?_)
              · refine x_aload C d_KI_findByPart_77 rfl ?_
                exact x_aret C (Or.inl ⟨_, rfl⟩) (Or.inr ⟨_, rfl⟩) (Nat.le_of_ble_eq_true rfl) (Nat.le_of_ble_eq_true rfl) d_KI_findByPart_79 ⟨by rw [oPart, if_neg hnb, if_pos ⟨hlt, fun q => by first | exact absurd q c_54 | exact (lg_eq _ _).mp c_72⟩, xr_some hx], rfl⟩
              · refine x_null C d_KI_findByPart_75 ?_
                exact x_aret C (Or.inl ⟨_, rfl⟩) (Or.inl rfl) (Nat.le_of_ble_eq_true rfl) (Nat.le_of_ble_eq_true rfl) d_KI_findByPart_76 ⟨by rw [oPart, if_neg hnb, if_neg (fun q => c_72 ((lg_eq _ _).mpr (q.2 c_54))), xr_none], rfl⟩
          · refine x_callV1 C (q_KI_entryAt_out l E hK hA (Or.inr (nI_le (by omega) (by omega)))) (lk_KI_45 C.hts (Nat.le_of_ble_eq_true rfl) (Nat.le_of_ble_eq_true rfl)) hK rfl rfl d_KI_findByPart_48 (Nat.le_of_ble_eq_true rfl) (Nat.le_of_ble_eq_true rfl) (Nat.le_of_ble_eq_true rfl) (fun r G' h => ?_)
            obtain ⟨rfl, rfl⟩ := h
            refine x_astoreN C d_KI_findByPart_51 (Nat.le_of_ble_eq_true rfl) rfl ?_
            refine x_iload_n C d_KI_findByPart_53 rfl rfl ?_
            refine x_if_ne C 77 d_KI_findByPart_54 (by decide) (fun c_54 => ?_) (fun c_54 => ?_)
            · refine x_aloadN C d_KI_findByPart_77 rfl ?_
              exact x_aret C (Or.inl ⟨_, rfl⟩) (Or.inl rfl) (Nat.le_of_ble_eq_true rfl) (Nat.le_of_ble_eq_true rfl) d_KI_findByPart_79 ⟨by rw [oPart, if_neg hnb, if_neg (fun q => hlt q.1), xr_none], rfl⟩
            · refine x_aloadN C d_KI_findByPart_57 rfl ?_
              refine x_ifnullN C 77 d_KI_findByPart_59 (by decide) ?_
              refine x_aloadN C d_KI_findByPart_77 rfl ?_
              exact x_aret C (Or.inl ⟨_, rfl⟩) (Or.inl rfl) (Nat.le_of_ble_eq_true rfl) (Nat.le_of_ble_eq_true rfl) d_KI_findByPart_79 ⟨by rw [oPart, if_neg hnb, if_neg (fun q => hlt q.1), xr_none], rfl⟩
        · have hbk : op = 3 ∨ op = 4 := by simp_all
          refine x_iload C d_KI_findByPart_39 rfl ?_
          refine x_iconst C (v := 1) d_KI_findByPart_41 (by decide) ?_
          refine x_isub C d_KI_findByPart_42 ?_
          refine x_goto C 48 d_KI_findByPart_43 (by decide) ?_
          by_cases hk0 : k = 0
          · have hm1 : nI k - 1 < 0 := by rw [hk0]; decide
            refine x_callV1 C (q_KI_entryAt_out l E hK hA (Or.inl hm1)) (lk_KI_45 C.hts (Nat.le_of_ble_eq_true rfl) (Nat.le_of_ble_eq_true rfl)) hK rfl rfl d_KI_findByPart_48 (Nat.le_of_ble_eq_true rfl) (Nat.le_of_ble_eq_true rfl) (Nat.le_of_ble_eq_true rfl) (fun r G' h => ?_)
            obtain ⟨rfl, rfl⟩ := h
            refine x_astoreN C d_KI_findByPart_51 (Nat.le_of_ble_eq_true rfl) rfl ?_
            refine x_iload_n C d_KI_findByPart_53 rfl rfl ?_
            refine x_if_ne C 77 d_KI_findByPart_54 (by decide) (fun c_54 => ?_) (fun c_54 => ?_)
            · refine x_aloadN C d_KI_findByPart_77 rfl ?_
              exact x_aret C (Or.inl ⟨_, rfl⟩) (Or.inl rfl) (Nat.le_of_ble_eq_true rfl) (Nat.le_of_ble_eq_true rfl) d_KI_findByPart_79 ⟨by rw [oPart, if_pos hbk, oBk, if_neg (by omega), xr_none], rfl⟩
            · subst c_54
              exact absurd hbk (by decide)
          · rw [al_pred (show 0 < k by omega)]
            obtain ⟨x, hx⟩ := al_get (show k - 1 < xs.length by omega)
            have hN := hX _ _ hx
            refine x_callV1 C (q_KI_entryAt_in l E hK hA hx hN) (lk_KI_45 C.hts (Nat.le_of_ble_eq_true rfl) (Nat.le_of_ble_eq_true rfl)) hK rfl rfl d_KI_findByPart_48 (Nat.le_of_ble_eq_true rfl) (Nat.le_of_ble_eq_true rfl) (Nat.le_of_ble_eq_true rfl) (fun r G' h => ?_)
            obtain ⟨rfl, rfl⟩ := h
            refine x_astore C d_KI_findByPart_51 (Nat.le_of_ble_eq_true rfl) rfl ?_
            refine x_iload_n C d_KI_findByPart_53 rfl rfl ?_
            refine x_if_ne C 77 d_KI_findByPart_54 (by decide) (fun c_54 => ?_) (fun c_54 => ?_)
            · refine x_aload C d_KI_findByPart_77 rfl ?_
              exact x_aret C (Or.inl ⟨_, rfl⟩) (Or.inr ⟨_, rfl⟩) (Nat.le_of_ble_eq_true rfl) (Nat.le_of_ble_eq_true rfl) d_KI_findByPart_79 ⟨by rw [oPart, if_pos hbk, oBk, if_pos (by omega), xr_some hx], rfl⟩
            · subst c_54
              exact absurd hbk (by decide)
    · refine x_iconst C (v := 1) d_KI_findByPart_10 (by decide) ?_
      refine x_goto C 15 d_KI_findByPart_11 (by decide) ?_
      rw [show decide (op = 1 ∨ op = 4) = true from by simp_all] at hp
      refine x_istore C d_KI_findByPart_15 (Nat.le_of_ble_eq_true rfl) rfl ?_
      refine x_aload_n C d_KI_findByPart_17 rfl rfl ?_
      refine x_lload_n C d_KI_findByPart_18 rfl rfl ?_
      refine x_iload C d_KI_findByPart_19 rfl ?_
      refine x_iload C d_KI_findByPart_21 rfl ?_
      refine x_callV3 C (q_KI_countByPart l E hK hA hX (eq := true) hk hp) (lk_KI_101 C.hts (Nat.le_of_ble_eq_true rfl) (Nat.le_of_ble_eq_true rfl)) hK rfl rfl d_KI_findByPart_23 (Nat.le_of_ble_eq_true rfl) (Nat.le_of_ble_eq_true rfl) (Nat.le_of_ble_eq_true rfl) (fun r G' h => ?_)
      obtain ⟨rfl, rfl⟩ := h
      refine x_istore C d_KI_findByPart_26 (Nat.le_of_ble_eq_true rfl) rfl ?_
      refine x_aload_n C d_KI_findByPart_28 rfl rfl ?_
      refine x_iload_n C d_KI_findByPart_29 rfl rfl ?_
      refine x_iconst C (v := 3) d_KI_findByPart_30 (by decide) ?_
      refine x_icmp_eq C 39 d_KI_findByPart_31 (by decide) (fun c_31 => ?_) (fun c_31 => ?_)
      · have hbk : op = 3 ∨ op = 4 := by simp_all
        refine x_iload C d_KI_findByPart_39 rfl ?_
        refine x_iconst C (v := 1) d_KI_findByPart_41 (by decide) ?_
        refine x_isub C d_KI_findByPart_42 ?_
        refine x_goto C 48 d_KI_findByPart_43 (by decide) ?_
        by_cases hk0 : k = 0
        · have hm1 : nI k - 1 < 0 := by rw [hk0]; decide
          refine x_callV1 C (q_KI_entryAt_out l E hK hA (Or.inl hm1)) (lk_KI_45 C.hts (Nat.le_of_ble_eq_true rfl) (Nat.le_of_ble_eq_true rfl)) hK rfl rfl d_KI_findByPart_48 (Nat.le_of_ble_eq_true rfl) (Nat.le_of_ble_eq_true rfl) (Nat.le_of_ble_eq_true rfl) (fun r G' h => ?_)
          obtain ⟨rfl, rfl⟩ := h
          refine x_astoreN C d_KI_findByPart_51 (Nat.le_of_ble_eq_true rfl) rfl ?_
          refine x_iload_n C d_KI_findByPart_53 rfl rfl ?_
          refine x_if_ne C 77 d_KI_findByPart_54 (by decide) (fun c_54 => ?_) (fun c_54 => ?_)
          · refine x_aloadN C d_KI_findByPart_77 rfl ?_
            exact x_aret C (Or.inl ⟨_, rfl⟩) (Or.inl rfl) (Nat.le_of_ble_eq_true rfl) (Nat.le_of_ble_eq_true rfl) d_KI_findByPart_79 ⟨by rw [oPart, if_pos hbk, oBk, if_neg (by omega), xr_none], rfl⟩
          · subst c_54
            exact absurd hbk (by decide)
        · rw [al_pred (show 0 < k by omega)]
          obtain ⟨x, hx⟩ := al_get (show k - 1 < xs.length by omega)
          have hN := hX _ _ hx
          refine x_callV1 C (q_KI_entryAt_in l E hK hA hx hN) (lk_KI_45 C.hts (Nat.le_of_ble_eq_true rfl) (Nat.le_of_ble_eq_true rfl)) hK rfl rfl d_KI_findByPart_48 (Nat.le_of_ble_eq_true rfl) (Nat.le_of_ble_eq_true rfl) (Nat.le_of_ble_eq_true rfl) (fun r G' h => ?_)
          obtain ⟨rfl, rfl⟩ := h
          refine x_astore C d_KI_findByPart_51 (Nat.le_of_ble_eq_true rfl) rfl ?_
          refine x_iload_n C d_KI_findByPart_53 rfl rfl ?_
          refine x_if_ne C 77 d_KI_findByPart_54 (by decide) (fun c_54 => ?_) (fun c_54 => ?_)
          · refine x_aload C d_KI_findByPart_77 rfl ?_
            exact x_aret C (Or.inl ⟨_, rfl⟩) (Or.inr ⟨_, rfl⟩) (Nat.le_of_ble_eq_true rfl) (Nat.le_of_ble_eq_true rfl) d_KI_findByPart_79 ⟨by rw [oPart, if_pos hbk, oBk, if_pos (by omega), xr_some hx], rfl⟩
          · subst c_54
            exact absurd hbk (by decide)
      · refine x_iload_n C d_KI_findByPart_34 rfl rfl ?_
        refine x_iconst C (v := 4) d_KI_findByPart_35 (by decide) ?_
        refine x_icmp_ne C 46 d_KI_findByPart_36 (by decide) (fun c_36 => ?_) (fun c_36 => ?_)
        · have hnb : ¬ (op = 3 ∨ op = 4) := by simp_all
          refine x_iload C d_KI_findByPart_46 rfl ?_
          by_cases hlt : k < xs.length
          · obtain ⟨x, hx⟩ := al_get (show k < xs.length by omega)
            have hN := hX _ _ hx
            refine x_callV1 C (q_KI_entryAt_in l E hK hA hx hN) (lk_KI_45 C.hts (Nat.le_of_ble_eq_true rfl) (Nat.le_of_ble_eq_true rfl)) hK rfl rfl d_KI_findByPart_48 (Nat.le_of_ble_eq_true rfl) (Nat.le_of_ble_eq_true rfl) (Nat.le_of_ble_eq_true rfl) (fun r G' h => ?_)
            obtain ⟨rfl, rfl⟩ := h
            refine x_astore C d_KI_findByPart_51 (Nat.le_of_ble_eq_true rfl) rfl ?_
            refine x_iload_n C d_KI_findByPart_53 rfl rfl ?_
            refine x_if_ne C 77 d_KI_findByPart_54 (by decide) (fun c_54 => ?_) (fun c_54 => ?_)
            · refine x_aload C d_KI_findByPart_77 rfl ?_
              exact x_aret C (Or.inl ⟨_, rfl⟩) (Or.inr ⟨_, rfl⟩) (Nat.le_of_ble_eq_true rfl) (Nat.le_of_ble_eq_true rfl) d_KI_findByPart_79 ⟨by rw [oPart, if_neg hnb, if_pos ⟨hlt, fun q => by first | exact absurd q c_54 | exact (lg_eq _ _).mp c_72⟩, xr_some hx], rfl⟩
            · refine x_aload C d_KI_findByPart_57 rfl ?_
              refine x_ifnull C d_KI_findByPart_59 ?_
              refine x_aload_n C d_KI_findByPart_62 rfl rfl ?_
              refine x_aload C d_KI_findByPart_63 rfl ?_
              refine x_iload C d_KI_findByPart_65 rfl ?_
              refine x_callV2 C (q_KI_partOf l E hK hN) (lk_KI_105 C.hts (Nat.le_of_ble_eq_true rfl) (Nat.le_of_ble_eq_true rfl)) hK rfl rfl d_KI_findByPart_67 (Nat.le_of_ble_eq_true rfl) (Nat.le_of_ble_eq_true rfl) (Nat.le_of_ble_eq_true rfl) (fun r G' h => ?_)
              obtain ⟨rfl, rfl⟩ := h
              refine x_lload_n C d_KI_findByPart_70 rfl rfl ?_
              refine x_lcmp C d_KI_findByPart_71 ?_
              refine x_if_eq C 77 d_KI_findByPart_72 (by decide) (fun c_72 => ?_) (fun c_72 => ?_)
              · refine x_aload C d_KI_findByPart_77 rfl ?_
                exact x_aret C (Or.inl ⟨_, rfl⟩) (Or.inr ⟨_, rfl⟩) (Nat.le_of_ble_eq_true rfl) (Nat.le_of_ble_eq_true rfl) d_KI_findByPart_79 ⟨by rw [oPart, if_neg hnb, if_pos ⟨hlt, fun q => by first | exact absurd q c_54 | exact (lg_eq _ _).mp c_72⟩, xr_some hx], rfl⟩
              · refine x_null C d_KI_findByPart_75 ?_
                exact x_aret C (Or.inl ⟨_, rfl⟩) (Or.inl rfl) (Nat.le_of_ble_eq_true rfl) (Nat.le_of_ble_eq_true rfl) d_KI_findByPart_76 ⟨by rw [oPart, if_neg hnb, if_neg (fun q => c_72 ((lg_eq _ _).mpr (q.2 c_54))), xr_none], rfl⟩
          · refine x_callV1 C (q_KI_entryAt_out l E hK hA (Or.inr (nI_le (by omega) (by omega)))) (lk_KI_45 C.hts (Nat.le_of_ble_eq_true rfl) (Nat.le_of_ble_eq_true rfl)) hK rfl rfl d_KI_findByPart_48 (Nat.le_of_ble_eq_true rfl) (Nat.le_of_ble_eq_true rfl) (Nat.le_of_ble_eq_true rfl) (fun r G' h => ?_)
            obtain ⟨rfl, rfl⟩ := h
            refine x_astoreN C d_KI_findByPart_51 (Nat.le_of_ble_eq_true rfl) rfl ?_
            refine x_iload_n C d_KI_findByPart_53 rfl rfl ?_
            refine x_if_ne C 77 d_KI_findByPart_54 (by decide) (fun c_54 => ?_) (fun c_54 => ?_)
            · refine x_aloadN C d_KI_findByPart_77 rfl ?_
              exact x_aret C (Or.inl ⟨_, rfl⟩) (Or.inl rfl) (Nat.le_of_ble_eq_true rfl) (Nat.le_of_ble_eq_true rfl) d_KI_findByPart_79 ⟨by rw [oPart, if_neg hnb, if_neg (fun q => hlt q.1), xr_none], rfl⟩
            · refine x_aloadN C d_KI_findByPart_57 rfl ?_
              refine x_ifnullN C 77 d_KI_findByPart_59 (by decide) ?_
              refine x_aloadN C d_KI_findByPart_77 rfl ?_
              exact x_aret C (Or.inl ⟨_, rfl⟩) (Or.inl rfl) (Nat.le_of_ble_eq_true rfl) (Nat.le_of_ble_eq_true rfl) d_KI_findByPart_79 ⟨by rw [oPart, if_neg hnb, if_neg (fun q => hlt q.1), xr_none], rfl⟩
        · have hbk : op = 3 ∨ op = 4 := by simp_all
          refine x_iload C d_KI_findByPart_39 rfl ?_
          refine x_iconst C (v := 1) d_KI_findByPart_41 (by decide) ?_
          refine x_isub C d_KI_findByPart_42 ?_
          refine x_goto C 48 d_KI_findByPart_43 (by decide) ?_
          by_cases hk0 : k = 0
          · have hm1 : nI k - 1 < 0 := by rw [hk0]; decide
            refine x_callV1 C (q_KI_entryAt_out l E hK hA (Or.inl hm1)) (lk_KI_45 C.hts (Nat.le_of_ble_eq_true rfl) (Nat.le_of_ble_eq_true rfl)) hK rfl rfl d_KI_findByPart_48 (Nat.le_of_ble_eq_true rfl) (Nat.le_of_ble_eq_true rfl) (Nat.le_of_ble_eq_true rfl) (fun r G' h => ?_)
            obtain ⟨rfl, rfl⟩ := h
            refine x_astoreN C d_KI_findByPart_51 (Nat.le_of_ble_eq_true rfl) rfl ?_
            refine x_iload_n C d_KI_findByPart_53 rfl rfl ?_
            refine x_if_ne C 77 d_KI_findByPart_54 (by decide) (fun c_54 => ?_) (fun c_54 => ?_)
            · refine x_aloadN C d_KI_findByPart_77 rfl ?_
              exact x_aret C (Or.inl ⟨_, rfl⟩) (Or.inl rfl) (Nat.le_of_ble_eq_true rfl) (Nat.le_of_ble_eq_true rfl) d_KI_findByPart_79 ⟨by rw [oPart, if_pos hbk, oBk, if_neg (by omega), xr_none], rfl⟩
            · subst c_54
              exact absurd hbk (by decide)
          · rw [al_pred (show 0 < k by omega)]
            obtain ⟨x, hx⟩ := al_get (show k - 1 < xs.length by omega)
            have hN := hX _ _ hx
            refine x_callV1 C (q_KI_entryAt_in l E hK hA hx hN) (lk_KI_45 C.hts (Nat.le_of_ble_eq_true rfl) (Nat.le_of_ble_eq_true rfl)) hK rfl rfl d_KI_findByPart_48 (Nat.le_of_ble_eq_true rfl) (Nat.le_of_ble_eq_true rfl) (Nat.le_of_ble_eq_true rfl) (fun r G' h => ?_)
            obtain ⟨rfl, rfl⟩ := h
            refine x_astore C d_KI_findByPart_51 (Nat.le_of_ble_eq_true rfl) rfl ?_
            refine x_iload_n C d_KI_findByPart_53 rfl rfl ?_
            refine x_if_ne C 77 d_KI_findByPart_54 (by decide) (fun c_54 => ?_) (fun c_54 => ?_)
            · refine x_aload C d_KI_findByPart_77 rfl ?_
              exact x_aret C (Or.inl ⟨_, rfl⟩) (Or.inr ⟨_, rfl⟩) (Nat.le_of_ble_eq_true rfl) (Nat.le_of_ble_eq_true rfl) d_KI_findByPart_79 ⟨by rw [oPart, if_pos hbk, oBk, if_pos (by omega), xr_some hx], rfl⟩
            · subst c_54
              exact absurd hbk (by decide)
set_option maxRecDepth 100000 in
set_option maxHeartbeats 4000000 in
theorem q_KI_isRightlyAhead (l : Launch) (E : xE) {G : xw_G} {h0 en : Nat} {db sp : Bool} {fr sz : Int32} {lo : Int64} (hK : G h0 = some (eKI db fr sz en sp lo)) {a1 a2 s1 s2 : Nat} {f1 c1 f2 c2 : Int64} (hN1 : G a1 = some (eEN f1 c1 s1)) (hN2 : G a2 = some (eEN f2 c2 s2)) : XMk l E y_KI_isRightlyAhead w_KI_isRightlyAhead rm_KI_isRightlyAhead [.ref h0, .ref a1, .ref a2] G (fun r G' => r = some (.int (bI (ahead f1 c1 f2 c2 && (db || decide (¬ f1 = f2))))) ∧ G = G') 0 0 := by
  refine XM_of [some (.ref h0), some (.ref a1), some (.ref a2)] (XZ_st E) (by decide) rfl rfl rfl (Nat.le_of_ble_eq_true rfl) (fun p e s m below meth c C hnm => ?_)
  refine x_aload_n C d_KI_isRightlyAhead_0 rfl rfl ?_
  refine x_aload_n C d_KI_isRightlyAhead_1 rfl rfl ?_
  refine x_get C hN2 rfl (in_EN _) 0 (by decide) (List.mem_cons_of_mem _ f_KI_57) rfl d_KI_isRightlyAhead_2 ?_
  refine x_aload_n C d_KI_isRightlyAhead_5 rfl rfl ?_
  refine x_get C hN2 rfl (in_EN _) 1 (by decide) (List.mem_cons_of_mem _ f_KI_87) rfl d_KI_isRightlyAhead_6 ?_
  refine x_callV2 C (q_EN_standsAheadOf l E hN1) (lk_KI_49 C.hts (Nat.le_of_ble_eq_true rfl) (Nat.le_of_ble_eq_true rfl)) hN1 rfl rfl d_KI_isRightlyAhead_9 (Nat.le_of_ble_eq_true rfl) (Nat.le_of_ble_eq_true rfl) (Nat.le_of_ble_eq_true rfl) (fun r G' h => ?_)
  obtain ⟨rfl, rfl⟩ := h
  refine x_if_eq C 38 d_KI_isRightlyAhead_12 (by decide) (fun c_12 => ?_) (fun c_12 => ?_)
  · refine x_iconst C (v := 0) d_KI_isRightlyAhead_38 (by decide) ?_
    exact x_zret C rfl (Nat.le_of_ble_eq_true rfl) (Nat.le_of_ble_eq_true rfl) d_KI_isRightlyAhead_39 ⟨congrArg some (congrArg Value.int (by simp_all [lg_eq, bI_0, bI])), rfl⟩
  · refine x_aload_n C d_KI_isRightlyAhead_15 rfl rfl ?_
    refine x_get C hK rfl (in_KI _) 0 (by decide) (List.mem_cons_of_mem _ f_KI_9) rfl d_KI_isRightlyAhead_16 ?_
    refine x_if_ne C 34 d_KI_isRightlyAhead_19 (by decide) (fun c_19 => ?_) (fun c_19 => ?_)
    · refine x_iconst C (v := 1) d_KI_isRightlyAhead_34 (by decide) ?_
      refine x_goto C 39 d_KI_isRightlyAhead_35 (by decide) ?_
      exact x_zret C rfl (Nat.le_of_ble_eq_true rfl) (Nat.le_of_ble_eq_true rfl) d_KI_isRightlyAhead_39 ⟨congrArg some (congrArg Value.int (by simp_all [lg_eq, bI_0, bI])), rfl⟩
    · refine x_aload_n C d_KI_isRightlyAhead_22 rfl rfl ?_
      refine x_get C hN1 rfl (in_EN _) 0 (by decide) (List.mem_cons_of_mem _ f_KI_57) rfl d_KI_isRightlyAhead_23 ?_
      refine x_aload_n C d_KI_isRightlyAhead_26 rfl rfl ?_
      refine x_get C hN2 rfl (in_EN _) 0 (by decide) (List.mem_cons_of_mem _ f_KI_57) rfl d_KI_isRightlyAhead_27 ?_
      refine x_lcmp C d_KI_isRightlyAhead_30 ?_
      refine x_if_eq C 38 d_KI_isRightlyAhead_31 (by decide) (fun c_31 => ?_) (fun c_31 => ?_)
      · refine x_iconst C (v := 0) d_KI_isRightlyAhead_38 (by decide) ?_
        exact x_zret C rfl (Nat.le_of_ble_eq_true rfl) (Nat.le_of_ble_eq_true rfl) d_KI_isRightlyAhead_39 ⟨congrArg some (congrArg Value.int (by simp_all [lg_eq, bI_0, bI])), rfl⟩
      · refine x_iconst C (v := 1) d_KI_isRightlyAhead_34 (by decide) ?_
        refine x_goto C 39 d_KI_isRightlyAhead_35 (by decide) ?_
        exact x_zret C rfl (Nat.le_of_ble_eq_true rfl) (Nat.le_of_ble_eq_true rfl) d_KI_isRightlyAhead_39 ⟨congrArg some (congrArg Value.int (by simp_all [lg_eq, bI_0, bI])), rfl⟩
set_option maxRecDepth 100000 in
set_option maxHeartbeats 4000000 in
theorem q_KI_enter_out (l : Launch) (E : xE) {G : xw_G} {h0 en : Nat} {db sp : Bool} {fr sz : Int32} {lo : Int64} (hK : G h0 = some (eKI db fr sz en sp lo)) {st : Nat} {by1 sw : Int64} {th : Bool} (hS : G st = some (eST by1 th sw)) {d : Int64} (ho : (sp && decide ((fldI fr sz by1) = lo)) = true) : XMk l E y_KI_enter w_KI_enter rm_KI_enter [.ref h0, .ref st, .long (d)] G (fun r G' => r = some (.int 0) ∧ G = G') 2 369 := by
  refine XM_of [some (.ref h0), some (.ref st), some (.long (d)), none, none, none, none, none] (XZ_st E) (by decide) rfl rfl rfl (Nat.le_of_ble_eq_true rfl) (fun p e s m below meth c C hnm => ?_)
  refine x_aload_n C d_KI_enter_0 rfl rfl ?_
  refine x_aload_n C d_KI_enter_1 rfl rfl ?_
  refine x_get C hS rfl (in_ST _) 0 (by decide) (List.mem_cons_of_mem _ f_KI_60) rfl d_KI_enter_2 ?_
  refine x_callV1 C (q_KI_fieldIn l E hK) (lk_KI_65 C.hts (Nat.le_of_ble_eq_true rfl) (Nat.le_of_ble_eq_true rfl)) hK rfl rfl d_KI_enter_5 (Nat.le_of_ble_eq_true rfl) (Nat.le_of_ble_eq_true rfl) (Nat.le_of_ble_eq_true rfl) (fun r G' h => ?_)
  obtain ⟨rfl, rfl⟩ := h
  refine x_lstore C d_KI_enter_8 (Nat.le_of_ble_eq_true rfl) rfl ?_
  refine x_aload_n C d_KI_enter_10 rfl rfl ?_
  refine x_lload C d_KI_enter_11 rfl ?_
  refine x_callV1 C (q_KI_leavesOut l E hK) (lk_KI_69 C.hts (Nat.le_of_ble_eq_true rfl) (Nat.le_of_ble_eq_true rfl)) hK rfl rfl d_KI_enter_13 (Nat.le_of_ble_eq_true rfl) (Nat.le_of_ble_eq_true rfl) (Nat.le_of_ble_eq_true rfl) (fun r G' h => ?_)
  obtain ⟨rfl, rfl⟩ := h
  refine x_if_eq C 21 d_KI_enter_16 (by decide) (fun c_16 => ?_) (fun c_16 => ?_)
  · exact absurd c_16 (by rw [ho]; decide)
  · refine x_iconst C (v := 0) d_KI_enter_19 (by decide) ?_
    exact x_zret C rfl (Nat.le_of_ble_eq_true rfl) (Nat.le_of_ble_eq_true rfl) d_KI_enter_20 ⟨rfl, rfl⟩
theorem fr_q {E : xE} {G G' : xw_G} {h ar q : Nat} {e : Option va_E} (hq : G q = none) (hF : xFr E (va_up G q e) G' h ar) : xFr E G G' h ar := fun a e0 ha h1 h2 => hF a e0 (by rw [va_up_ne _ _ (xw_neF hq ha)]; exact ha) h1 h2
set_option maxRecDepth 100000 in
set_option maxHeartbeats 4000000 in
theorem q_KI_enter_in (l : Launch) (E : xE) {G : xw_G} {h0 en : Nat} {db sp : Bool} {fr sz : Int32} {lo : Int64} (hK : G h0 = some (eKI db fr sz en sp lo)) {ar : Nat} {xs : List Nat} (hA : xAL E G en ar xs) {fd cm : Nat → Int64} {so : Nat → Nat} (hX : xEs G xs fd cm so) {st : Nat} {by1 sw : Int64} {th : Bool} (hS : G st = some (eST by1 th sw)) {d : Int64} (ho : (sp && decide ((fldI fr sz by1) = lo)) = false) (hE : xEm E G) (hn : xs.length ≤ 300) {k : Nat} (hk : k ≤ xs.length) (hp : ∀ i : Nat, i < xs.length → (ahead (fd i) (cm i) (fldI fr sz by1) d = true ↔ i < k)) : XMk l E y_KI_enter w_KI_enter rm_KI_enter [.ref h0, .ref st, .long (d)] G (fun r G' => ∃ q ar' : Nat, r = some (.int (bI (decide (0 < k ∧ fd (k - 1) = fldI fr sz by1)))) ∧ G q = none ∧ (ar' = ar ∨ G ar' = none) ∧ xAL E G' en ar' (xs.insertIdx k q) ∧ G' q = some (eEN (fldI fr sz by1) d st) ∧ xFr E G G' en ar) 2 369 := by
  refine XM_of [some (.ref h0), some (.ref st), some (.long (d)), none, none, none, none, none] (XZ_st E) (by decide) rfl rfl rfl (Nat.le_of_ble_eq_true rfl) (fun p e s m below meth c C hnm => ?_)
  obtain ⟨cap, md, ff, hL, hAr, hc1, hc2, -, -⟩ := id hA
  have hcl := capOK_le hc2
  refine x_aload_n C d_KI_enter_0 rfl rfl ?_
  refine x_aload_n C d_KI_enter_1 rfl rfl ?_
  refine x_get C hS rfl (in_ST _) 0 (by decide) (List.mem_cons_of_mem _ f_KI_60) rfl d_KI_enter_2 ?_
  refine x_callV1 C (q_KI_fieldIn l E hK) (lk_KI_65 C.hts (Nat.le_of_ble_eq_true rfl) (Nat.le_of_ble_eq_true rfl)) hK rfl rfl d_KI_enter_5 (Nat.le_of_ble_eq_true rfl) (Nat.le_of_ble_eq_true rfl) (Nat.le_of_ble_eq_true rfl) (fun r G' h => ?_)
  obtain ⟨rfl, rfl⟩ := h
  refine x_lstore C d_KI_enter_8 (Nat.le_of_ble_eq_true rfl) rfl ?_
  refine x_aload_n C d_KI_enter_10 rfl rfl ?_
  refine x_lload C d_KI_enter_11 rfl ?_
  refine x_callV1 C (q_KI_leavesOut l E hK) (lk_KI_69 C.hts (Nat.le_of_ble_eq_true rfl) (Nat.le_of_ble_eq_true rfl)) hK rfl rfl d_KI_enter_13 (Nat.le_of_ble_eq_true rfl) (Nat.le_of_ble_eq_true rfl) (Nat.le_of_ble_eq_true rfl) (fun r G' h => ?_)
  obtain ⟨rfl, rfl⟩ := h
  refine x_if_eq C 21 d_KI_enter_16 (by decide) (fun c_16 => ?_) (fun c_16 => ?_)
  · refine x_aload_n C d_KI_enter_21 rfl rfl ?_
    refine x_lload C d_KI_enter_22 rfl ?_
    refine x_lload_n C d_KI_enter_24 rfl rfl ?_
    refine x_callV2 C (q_KI_countAheadOf l E hK hA hX hk hp) (lk_KI_53 C.hts (Nat.le_of_ble_eq_true rfl) (Nat.le_of_ble_eq_true rfl)) hK rfl rfl d_KI_enter_25 (Nat.le_of_ble_eq_true rfl) (Nat.le_of_ble_eq_true rfl) (Nat.le_of_ble_eq_true rfl) (fun r G' h => ?_)
    obtain ⟨rfl, rfl⟩ := h
    refine x_istore C d_KI_enter_28 (Nat.le_of_ble_eq_true rfl) rfl ?_
    refine x_iload C d_KI_enter_30 rfl ?_
    refine x_aload_n C d_KI_enter_32 rfl rfl ?_
    refine x_get C hK rfl (in_KI _) 3 (by decide) (List.mem_cons_of_mem _ f_KI_25) rfl d_KI_enter_33 ?_
    refine x_callV0 C (q_AL_sizeL l E hA) (lk_KI_36 C.hts (Nat.le_of_ble_eq_true rfl) (Nat.le_of_ble_eq_true rfl)) hL rfl rfl d_KI_enter_36 (Nat.le_of_ble_eq_true rfl) (Nat.le_of_ble_eq_true rfl) (Nat.le_of_ble_eq_true rfl) (fun r G' h => ?_)
    obtain ⟨rfl, rfl⟩ := h
    refine x_icmp_le C 44 d_KI_enter_39 (by decide) (fun c_39 => ?_) (fun c_39 => ?_)
    · refine x_aload_n C d_KI_enter_44 rfl rfl ?_
      refine x_get C hK rfl (in_KI _) 3 (by decide) (List.mem_cons_of_mem _ f_KI_25) rfl d_KI_enter_45 ?_
      refine x_iload C d_KI_enter_48 rfl ?_
      refine x_new C (ci := 1) (fs := [.long 0, .long 0, .null]) rfl (in_EN _) ty_EN tok_EN (List.mem_cons_of_mem _ cl_KI_43) (List.mem_cons_of_mem _ kb_EN) (List.mem_cons_of_mem _ kz_EN) (fun j hj => by rcases (show j = 0 ∨ j = 1 ∨ j = 2 by omega) with rfl | rfl | rfl <;> rfl) (Nat.le_of_ble_eq_true rfl) (Nat.le_of_ble_eq_true rfl) d_KI_enter_50 (fun q hq hBq => ?_)
      refine x_dup C d_KI_enter_53 rfl ?_
      refine x_lload C d_KI_enter_54 rfl ?_
      refine x_lload_n C d_KI_enter_56 rfl rfl ?_
      refine x_aload_n C d_KI_enter_57 rfl rfl ?_
      refine x_callI3 C (q_EN_init l E (va_up_self _ _ _)) (lk_KI_73 C.hts (Nat.le_of_ble_eq_true rfl) (Nat.le_of_ble_eq_true rfl)) rfl d_KI_enter_58 (Nat.le_of_ble_eq_true rfl) (Nat.le_of_ble_eq_true rfl) (Nat.le_of_ble_eq_true rfl) (fun r G' h => ?_)
      obtain ⟨rfl, rfl⟩ := h
      rw [bx_uu]
      refine x_callV2 C (q_AL_addI l E (G := (va_up G q (some (eEN (fldI fr sz by1) d st)))) hk (xAL_fresh hq hA) ⟨1, _, va_up_self _ _ _, Or.inl rfl⟩ (fun y hy => xw_el_fresh (xEs_el hX y hy) hq) (xEm_fresh hq hE) hn) (lk_KI_76 C.hts (Nat.le_of_ble_eq_true rfl) (Nat.le_of_ble_eq_true rfl)) (xw_keep hL (xw_neF hq hL)) rfl rfl d_KI_enter_61 (Nat.le_of_ble_eq_true rfl) (Nat.le_of_ble_eq_true rfl) (Nat.le_of_ble_eq_true rfl) (fun r G' h => ?_)
      obtain ⟨rfl, ar', g1, g2, g3⟩ := h
      have hK2 := xAL_keep (xAL_fresh hq hA) g3 (xw_keep hK (xw_neF hq hK)) (by decide)
      refine x_aload_n C d_KI_enter_64 rfl rfl ?_
      refine x_iload C d_KI_enter_65 rfl ?_
      refine x_iconst C (v := 1) d_KI_enter_67 (by decide) ?_
      refine x_isub C d_KI_enter_68 ?_
      by_cases hk0 : k = 0
      · have hm1 : nI k - 1 < 0 := by rw [hk0]; decide
        refine x_callV1 C (q_KI_entryAt_out l E hK2 g2 (Or.inl hm1)) (lk_KI_45 C.hts (Nat.le_of_ble_eq_true rfl) (Nat.le_of_ble_eq_true rfl)) hK2 rfl rfl d_KI_enter_69 (Nat.le_of_ble_eq_true rfl) (Nat.le_of_ble_eq_true rfl) (Nat.le_of_ble_eq_true rfl) (fun r G' h => ?_)
        obtain ⟨rfl, rfl⟩ := h
        refine x_astoreN C d_KI_enter_72 (Nat.le_of_ble_eq_true rfl) rfl ?_
        refine x_aloadN C d_KI_enter_74 rfl ?_
        refine x_ifnullN C 94 d_KI_enter_76 (by decide) ?_
        refine x_iconst C (v := 0) d_KI_enter_94 (by decide) ?_
        exact x_zret C rfl (Nat.le_of_ble_eq_true rfl) (Nat.le_of_ble_eq_true rfl) d_KI_enter_95 ⟨q, ar', congrArg some (congrArg Value.int (by simp [hk0, bI])), hq, g1.imp id none_mod, g2, xAL_keep (xAL_fresh hq hA) g3 (va_up_self _ _ _) (by decide), fr_q hq g3⟩
      · rw [al_pred (show 0 < k by omega)]
        obtain ⟨x, hx⟩ := al_get (show k - 1 < xs.length by omega)
        have hx2 : (xs.insertIdx k q)[k - 1]? = some x := by rw [List.getElem?_insertIdx_of_lt (by omega)]; exact hx
        have hN2 := xAL_keep (xAL_fresh hq hA) g3 (xw_keep (hX _ _ hx) (xw_neF hq (hX _ _ hx))) (by decide)
        refine x_callV1 C (q_KI_entryAt_in l E hK2 g2 hx2 hN2) (lk_KI_45 C.hts (Nat.le_of_ble_eq_true rfl) (Nat.le_of_ble_eq_true rfl)) hK2 rfl rfl d_KI_enter_69 (Nat.le_of_ble_eq_true rfl) (Nat.le_of_ble_eq_true rfl) (Nat.le_of_ble_eq_true rfl) (fun r G' h => ?_)
        obtain ⟨rfl, rfl⟩ := h
        refine x_astore C d_KI_enter_72 (Nat.le_of_ble_eq_true rfl) rfl ?_
        refine x_aload C d_KI_enter_74 rfl ?_
        refine x_ifnull C d_KI_enter_76 ?_
        refine x_aload C d_KI_enter_79 rfl ?_
        refine x_get C hN2 rfl (in_EN _) 0 (by decide) (List.mem_cons_of_mem _ f_KI_57) rfl d_KI_enter_81 ?_
        refine x_lload C d_KI_enter_84 rfl ?_
        refine x_lcmp C d_KI_enter_86 ?_
        refine x_if_ne C 94 d_KI_enter_87 (by decide) (fun c_87 => ?_) (fun c_87 => ?_)
        · refine x_iconst C (v := 0) d_KI_enter_94 (by decide) ?_
          exact x_zret C rfl (Nat.le_of_ble_eq_true rfl) (Nat.le_of_ble_eq_true rfl) d_KI_enter_95 ⟨q, ar', congrArg some (congrArg Value.int (by simp [bI, Nat.pos_of_ne_zero hk0, (lg_eq (fd (k - 1)) (fldI fr sz by1)).symm, c_87])), hq, g1.imp id none_mod, g2, xAL_keep (xAL_fresh hq hA) g3 (va_up_self _ _ _) (by decide), fr_q hq g3⟩
        · refine x_iconst C (v := 1) d_KI_enter_90 (by decide) ?_
          refine x_goto C 95 d_KI_enter_91 (by decide) ?_
          exact x_zret C rfl (Nat.le_of_ble_eq_true rfl) (Nat.le_of_ble_eq_true rfl) d_KI_enter_95 ⟨q, ar', congrArg some (congrArg Value.int (by simp [bI, Nat.pos_of_ne_zero hk0, (lg_eq (fd (k - 1)) (fldI fr sz by1)).symm, c_87])), hq, g1.imp id none_mod, g2, xAL_keep (xAL_fresh hq hA) g3 (va_up_self _ _ _) (by decide), fr_q hq g3⟩
    · exact absurd (nI_le hk (by omega)) c_39
  · exact absurd (by rw [ho]; rfl) c_16
set_option maxRecDepth 100000 in
set_option maxHeartbeats 4000000 in
theorem q_KI_drop_found (l : Launch) (E : xE) {G : xw_G} {h0 en : Nat} {db sp : Bool} {fr sz : Int32} {lo : Int64} (hK : G h0 = some (eKI db fr sz en sp lo)) {ar : Nat} {xs : List Nat} (hA : xAL E G en ar xs) {fd cm : Nat → Int64} {so : Nat → Nat} (hX : xEs G xs fd cm so) {st j : Nat} {f : Int64} (hE : xEm E G) {k : Nat} (hk : k ≤ xs.length) (hp : ∀ i : Nat, i < xs.length → (ahead (fd i) (cm i) f 0 = true ↔ i < k)) (hkj : k ≤ j) (hj : j < xs.length) (hso : so j = st) (hbe : ∀ i : Nat, k ≤ i → i < j → so i ≠ st ∧ fd i = f) : XMk l E y_KI_drop w_KI_drop rm_KI_drop [.ref h0, .ref st, .long f] G (fun r G' => r = none ∧ xAL E G' en ar (xs.eraseIdx j) ∧ xFr E G G' en ar) 0 0 := by
  refine XM_of [some (.ref h0), some (.ref st), some (.long (f)), none, none] (XZ_st E) (by decide) rfl rfl rfl (Nat.le_of_ble_eq_true rfl) (fun p e s m below meth c C hnm => ?_)
  obtain ⟨cap, md, ff, hL, hAr, hc1, hc2, -, -⟩ := id hA
  have hcl := capOK_le hc2
  have loop : ∀ (n i : Nat), i + n = j → k ≤ i → XW p l e rm_KI_drop s m #[.ref h0, .ref st, .long f] below meth c (XQ below #[.ref h0, .ref st, .long f] s (xD E) xcl (xB E) (fun r G' => r = none ∧ xAL E G' en ar (xs.eraseIdx j) ∧ xFr E G G' en ar) 0 0) (xD E) xcl (xB E) 8 [some (.ref h0), some (.ref st), some (.long f), none, some (.int (nI i))] [] G 0 0 := by
    intro n
    induction n with
    | zero =>
      intro i hi hki
      have hij : i = j := by omega
      subst hij
      obtain ⟨x, hx⟩ := al_get hj
      have hN := hX _ _ hx
      refine x_iload C d_KI_drop_8 rfl ?_
      refine x_aload_n C d_KI_drop_10 rfl rfl ?_
      refine x_get C hK rfl (in_KI _) 3 (by decide) (List.mem_cons_of_mem _ f_KI_25) rfl d_KI_drop_11 ?_
      refine x_callV0 C (q_AL_sizeL l E hA) (lk_KI_36 C.hts (Nat.le_of_ble_eq_true rfl) (Nat.le_of_ble_eq_true rfl)) hL rfl rfl d_KI_drop_14 (Nat.le_of_ble_eq_true rfl) (Nat.le_of_ble_eq_true rfl) (Nat.le_of_ble_eq_true rfl) (fun r G' h => ?_)
      obtain ⟨rfl, rfl⟩ := h
      refine x_icmp_ge C 77 d_KI_drop_17 (by decide) (fun c_17 => ?_) (fun c_17 => ?_)
      · exact absurd c_17 (nI_ge (by omega) (by omega))
      · refine x_aload_n C d_KI_drop_20 rfl rfl ?_
        refine x_get C hK rfl (in_KI _) 3 (by decide) (List.mem_cons_of_mem _ f_KI_25) rfl d_KI_drop_21 ?_
        refine x_iload C d_KI_drop_24 rfl ?_
        refine x_callV1 C (q_AL_getL l E hA hx) (lk_KI_39 C.hts (Nat.le_of_ble_eq_true rfl) (Nat.le_of_ble_eq_true rfl)) hL rfl rfl d_KI_drop_26 (Nat.le_of_ble_eq_true rfl) (Nat.le_of_ble_eq_true rfl) (Nat.le_of_ble_eq_true rfl) (fun r G' h => ?_)
        obtain ⟨rfl, rfl⟩ := h
        refine x_castS C hN rfl (List.mem_cons_of_mem _ cl_KI_43) d_KI_drop_29 ?_
        refine x_get C hN rfl (in_EN _) 2 (by decide) (List.mem_cons_of_mem _ f_KI_80) rfl d_KI_drop_32 ?_
        refine x_aload_n C d_KI_drop_35 rfl rfl ?_
        refine x_acmp_ne C (rx := some (so (i))) (ry := some st) 50 d_KI_drop_36 (by decide) (fun c_36 => ?_) (fun c_36 => ?_)
        · exact absurd (by rw [hso]) c_36
        · refine x_aload_n C d_KI_drop_39 rfl rfl ?_
          refine x_get C hK rfl (in_KI _) 3 (by decide) (List.mem_cons_of_mem _ f_KI_25) rfl d_KI_drop_40 ?_
          refine x_iload C d_KI_drop_43 rfl ?_
          refine x_callV1 C (q_AL_remove l E hx hA (xEs_el hX) hE hj) (lk_KI_84 C.hts (Nat.le_of_ble_eq_true rfl) (Nat.le_of_ble_eq_true rfl)) hL rfl rfl d_KI_drop_45 (Nat.le_of_ble_eq_true rfl) (Nat.le_of_ble_eq_true rfl) (Nat.le_of_ble_eq_true rfl) (fun r G' h => ?_)
          obtain ⟨rfl, g1, g2⟩ := h
          refine x_pop C d_KI_drop_48 rfl ?_
          exact x_vret C (Nat.le_of_ble_eq_true rfl) (Nat.le_of_ble_eq_true rfl) d_KI_drop_49 ⟨rfl, g1, g2⟩
    | succ n ih =>
      intro i hi hki
      obtain ⟨x, hx⟩ := al_get (show i < xs.length by omega)
      have hN := hX _ _ hx
      obtain ⟨hb1, hb2⟩ := hbe i hki (by omega)
      refine x_iload C d_KI_drop_8 rfl ?_
      refine x_aload_n C d_KI_drop_10 rfl rfl ?_
      refine x_get C hK rfl (in_KI _) 3 (by decide) (List.mem_cons_of_mem _ f_KI_25) rfl d_KI_drop_11 ?_
      refine x_callV0 C (q_AL_sizeL l E hA) (lk_KI_36 C.hts (Nat.le_of_ble_eq_true rfl) (Nat.le_of_ble_eq_true rfl)) hL rfl rfl d_KI_drop_14 (Nat.le_of_ble_eq_true rfl) (Nat.le_of_ble_eq_true rfl) (Nat.le_of_ble_eq_true rfl) (fun r G' h => ?_)
      obtain ⟨rfl, rfl⟩ := h
      refine x_icmp_ge C 77 d_KI_drop_17 (by decide) (fun c_17 => ?_) (fun c_17 => ?_)
      · exact absurd c_17 (nI_ge (by omega) (by omega))
      · refine x_aload_n C d_KI_drop_20 rfl rfl ?_
        refine x_get C hK rfl (in_KI _) 3 (by decide) (List.mem_cons_of_mem _ f_KI_25) rfl d_KI_drop_21 ?_
        refine x_iload C d_KI_drop_24 rfl ?_
        refine x_callV1 C (q_AL_getL l E hA hx) (lk_KI_39 C.hts (Nat.le_of_ble_eq_true rfl) (Nat.le_of_ble_eq_true rfl)) hL rfl rfl d_KI_drop_26 (Nat.le_of_ble_eq_true rfl) (Nat.le_of_ble_eq_true rfl) (Nat.le_of_ble_eq_true rfl) (fun r G' h => ?_)
        obtain ⟨rfl, rfl⟩ := h
        refine x_castS C hN rfl (List.mem_cons_of_mem _ cl_KI_43) d_KI_drop_29 ?_
        refine x_get C hN rfl (in_EN _) 2 (by decide) (List.mem_cons_of_mem _ f_KI_80) rfl d_KI_drop_32 ?_
        refine x_aload_n C d_KI_drop_35 rfl rfl ?_
        refine x_acmp_ne C (rx := some (so (i))) (ry := some st) 50 d_KI_drop_36 (by decide) (fun c_36 => ?_) (fun c_36 => ?_)
        · refine x_aload_n C d_KI_drop_50 rfl rfl ?_
          refine x_get C hK rfl (in_KI _) 3 (by decide) (List.mem_cons_of_mem _ f_KI_25) rfl d_KI_drop_51 ?_
          refine x_iload C d_KI_drop_54 rfl ?_
          refine x_callV1 C (q_AL_getL l E hA hx) (lk_KI_39 C.hts (Nat.le_of_ble_eq_true rfl) (Nat.le_of_ble_eq_true rfl)) hL rfl rfl d_KI_drop_56 (Nat.le_of_ble_eq_true rfl) (Nat.le_of_ble_eq_true rfl) (Nat.le_of_ble_eq_true rfl) (fun r G' h => ?_)
          obtain ⟨rfl, rfl⟩ := h
          refine x_castS C hN rfl (List.mem_cons_of_mem _ cl_KI_43) d_KI_drop_59 ?_
          refine x_get C hN rfl (in_EN _) 0 (by decide) (List.mem_cons_of_mem _ f_KI_57) rfl d_KI_drop_62 ?_
          refine x_lload_n C d_KI_drop_65 rfl rfl ?_
          refine x_lcmp C d_KI_drop_66 ?_
          refine x_if_eq C 71 d_KI_drop_67 (by decide) (fun c_67 => ?_) (fun c_67 => ?_)
          · refine x_iinc C d_KI_drop_71 rfl rfl rfl ?_
            refine x_goto C 8 d_KI_drop_74 (by decide) ?_
            have e1 : nI i + Int32.ofInt 1 = nI (i + 1) := nI_1 i
            rw [e1]
            exact ih (i + 1) (by omega) (by omega)
          · exact absurd ((lg_eq _ _).mpr hb2) c_67
        · exact absurd (Option.some.inj c_36) hb1
  refine x_aload_n C d_KI_drop_0 rfl rfl ?_
  refine x_lload_n C d_KI_drop_1 rfl rfl ?_
  refine x_lconst C (v := 0) d_KI_drop_2 (by decide) ?_
  refine x_callV2 C (q_KI_countAheadOf l E hK hA hX hk hp) (lk_KI_53 C.hts (Nat.le_of_ble_eq_true rfl) (Nat.le_of_ble_eq_true rfl)) hK rfl rfl d_KI_drop_3 (Nat.le_of_ble_eq_true rfl) (Nat.le_of_ble_eq_true rfl) (Nat.le_of_ble_eq_true rfl) (fun r G' h => ?_)
  obtain ⟨rfl, rfl⟩ := h
  refine x_istore C d_KI_drop_6 (Nat.le_of_ble_eq_true rfl) rfl ?_
  exact loop (j - k) k (by omega) (Nat.le_refl _)
set_option maxRecDepth 100000 in
set_option maxHeartbeats 4000000 in
theorem q_KI_drop_none (l : Launch) (E : xE) {G : xw_G} {h0 en : Nat} {db sp : Bool} {fr sz : Int32} {lo : Int64} (hK : G h0 = some (eKI db fr sz en sp lo)) {ar : Nat} {xs : List Nat} (hA : xAL E G en ar xs) {fd cm : Nat → Int64} {so : Nat → Nat} (hX : xEs G xs fd cm so) {st : Nat} {f : Int64} {k : Nat} (hk : k ≤ xs.length) (hp : ∀ i : Nat, i < xs.length → (ahead (fd i) (cm i) f 0 = true ↔ i < k)) (hno : k < xs.length → so k ≠ st ∧ fd k ≠ f) : XMk l E y_KI_drop w_KI_drop rm_KI_drop [.ref h0, .ref st, .long (f)] G (fun r G' => r = none ∧ G = G') 0 0 := by
  refine XM_of [some (.ref h0), some (.ref st), some (.long (f)), none, none] (XZ_st E) (by decide) rfl rfl rfl (Nat.le_of_ble_eq_true rfl) (fun p e s m below meth c C hnm => ?_)
  obtain ⟨cap, md, ff, hL, hAr, hc1, hc2, -, -⟩ := id hA
  have hcl := capOK_le hc2
  refine x_aload_n C d_KI_drop_0 rfl rfl ?_
  refine x_lload_n C d_KI_drop_1 rfl rfl ?_
  refine x_lconst C (v := 0) d_KI_drop_2 (by decide) ?_
  refine x_callV2 C (q_KI_countAheadOf l E hK hA hX hk hp) (lk_KI_53 C.hts (Nat.le_of_ble_eq_true rfl) (Nat.le_of_ble_eq_true rfl)) hK rfl rfl d_KI_drop_3 (Nat.le_of_ble_eq_true rfl) (Nat.le_of_ble_eq_true rfl) (Nat.le_of_ble_eq_true rfl) (fun r G' h => ?_)
  obtain ⟨rfl, rfl⟩ := h
  refine x_istore C d_KI_drop_6 (Nat.le_of_ble_eq_true rfl) rfl ?_
  by_cases hlt : k < xs.length
  · obtain ⟨x, hx⟩ := al_get hlt
    have hN := hX _ _ hx
    refine x_iload C d_KI_drop_8 rfl ?_
    refine x_aload_n C d_KI_drop_10 rfl rfl ?_
    refine x_get C hK rfl (in_KI _) 3 (by decide) (List.mem_cons_of_mem _ f_KI_25) rfl d_KI_drop_11 ?_
    refine x_callV0 C (q_AL_sizeL l E hA) (lk_KI_36 C.hts (Nat.le_of_ble_eq_true rfl) (Nat.le_of_ble_eq_true rfl)) hL rfl rfl d_KI_drop_14 (Nat.le_of_ble_eq_true rfl) (Nat.le_of_ble_eq_true rfl) (Nat.le_of_ble_eq_true rfl) (fun r G' h => ?_)
    obtain ⟨rfl, rfl⟩ := h
    refine x_icmp_ge C 77 d_KI_drop_17 (by decide) (fun c_17 => ?_) (fun c_17 => ?_)
    · exact absurd c_17 (nI_ge (by omega) (by omega))
    · refine x_aload_n C d_KI_drop_20 rfl rfl ?_
      refine x_get C hK rfl (in_KI _) 3 (by decide) (List.mem_cons_of_mem _ f_KI_25) rfl d_KI_drop_21 ?_
      refine x_iload C d_KI_drop_24 rfl ?_
      refine x_callV1 C (q_AL_getL l E hA hx) (lk_KI_39 C.hts (Nat.le_of_ble_eq_true rfl) (Nat.le_of_ble_eq_true rfl)) hL rfl rfl d_KI_drop_26 (Nat.le_of_ble_eq_true rfl) (Nat.le_of_ble_eq_true rfl) (Nat.le_of_ble_eq_true rfl) (fun r G' h => ?_)
      obtain ⟨rfl, rfl⟩ := h
      refine x_castS C hN rfl (List.mem_cons_of_mem _ cl_KI_43) d_KI_drop_29 ?_
      refine x_get C hN rfl (in_EN _) 2 (by decide) (List.mem_cons_of_mem _ f_KI_80) rfl d_KI_drop_32 ?_
      refine x_aload_n C d_KI_drop_35 rfl rfl ?_
      refine x_acmp_ne C (rx := some (so (k))) (ry := some st) 50 d_KI_drop_36 (by decide) (fun c_36 => ?_) (fun c_36 => ?_)
      · refine x_aload_n C d_KI_drop_50 rfl rfl ?_
        refine x_get C hK rfl (in_KI _) 3 (by decide) (List.mem_cons_of_mem _ f_KI_25) rfl d_KI_drop_51 ?_
        refine x_iload C d_KI_drop_54 rfl ?_
        refine x_callV1 C (q_AL_getL l E hA hx) (lk_KI_39 C.hts (Nat.le_of_ble_eq_true rfl) (Nat.le_of_ble_eq_true rfl)) hL rfl rfl d_KI_drop_56 (Nat.le_of_ble_eq_true rfl) (Nat.le_of_ble_eq_true rfl) (Nat.le_of_ble_eq_true rfl) (fun r G' h => ?_)
        obtain ⟨rfl, rfl⟩ := h
        refine x_castS C hN rfl (List.mem_cons_of_mem _ cl_KI_43) d_KI_drop_59 ?_
        refine x_get C hN rfl (in_EN _) 0 (by decide) (List.mem_cons_of_mem _ f_KI_57) rfl d_KI_drop_62 ?_
        refine x_lload_n C d_KI_drop_65 rfl rfl ?_
        refine x_lcmp C d_KI_drop_66 ?_
        refine x_if_eq C 71 d_KI_drop_67 (by decide) (fun c_67 => ?_) (fun c_67 => ?_)
        · exact absurd ((lg_eq _ _).mp c_67) (hno hlt).2
        · exact x_vret C (Nat.le_of_ble_eq_true rfl) (Nat.le_of_ble_eq_true rfl) d_KI_drop_70 ⟨rfl, rfl⟩
      · exact absurd (Option.some.inj c_36) (hno hlt).1
  · refine x_iload C d_KI_drop_8 rfl ?_
    refine x_aload_n C d_KI_drop_10 rfl rfl ?_
    refine x_get C hK rfl (in_KI _) 3 (by decide) (List.mem_cons_of_mem _ f_KI_25) rfl d_KI_drop_11 ?_
    refine x_callV0 C (q_AL_sizeL l E hA) (lk_KI_36 C.hts (Nat.le_of_ble_eq_true rfl) (Nat.le_of_ble_eq_true rfl)) hL rfl rfl d_KI_drop_14 (Nat.le_of_ble_eq_true rfl) (Nat.le_of_ble_eq_true rfl) (Nat.le_of_ble_eq_true rfl) (fun r G' h => ?_)
    obtain ⟨rfl, rfl⟩ := h
    refine x_icmp_ge C 77 d_KI_drop_17 (by decide) (fun c_17 => ?_) (fun c_17 => ?_)
    · exact x_vret C (Nat.le_of_ble_eq_true rfl) (Nat.le_of_ble_eq_true rfl) d_KI_drop_77 ⟨rfl, rfl⟩
    · exact absurd (nI_le (by omega) (by omega)) c_17
end
section
/-! THE CLASS'S STATE: keys with their entries, views, records by address, opened?, arrivals, sweeps; xCS: the heap holds it -/
abbrev KD : Type := Bool × Int32 × Int32 × Bool × Int64
abbrev E3 : Type := Int64 × Int64 × Nat
abbrev VD : Type := Bool × Int32 × Int32 × Int32 × Int32 × Int64 × Int64 × Bool × Option Nat × Int64 × Bool × Int64
abbrev CS : Type := List (KD × List E3) × List VD × (Nat → Option (Int64 × Bool)) × Bool × Nat × Nat
abbrev sK (σ : CS) : List (KD × List E3) := σ.1
abbrev sV (σ : CS) : List VD := σ.2.1
abbrev sD (σ : CS) : Nat → Option (Int64 × Bool) := σ.2.2.1
abbrev sO (σ : CS) : Bool := σ.2.2.2.1
abbrev sA (σ : CS) : Nat := σ.2.2.2.2.1
abbrev sW (σ : CS) : Nat := σ.2.2.2.2.2
abbrev cKI (k : KD) (en : Nat) : va_E := eKI k.1 k.2.1 k.2.2.1 en k.2.2.2.1 k.2.2.2.2
abbrev cEN (e : E3) : va_E := eEN e.1 e.2.1 e.2.2
abbrev cVW (v : VD) : va_E := eVW v.1 v.2.1 v.2.2.1 v.2.2.2.1 v.2.2.2.2.1 v.2.2.2.2.2.1 v.2.2.2.2.2.2.1 v.2.2.2.2.2.2.2.1 (va_rf v.2.2.2.2.2.2.2.2.1) v.2.2.2.2.2.2.2.2.2.1 v.2.2.2.2.2.2.2.2.2.2.1 v.2.2.2.2.2.2.2.2.2.2.2
/-- a list's entries as cells -/
def xEL (G : xw_G) (xs : List Nat) (es : List E3) : Prop := xs.length = es.length ∧ ∀ (j : Nat) (e : E3), es[j]? = some e → ∃ b : Nat, xs[j]? = some b ∧ G b = some (cEN e)
/-- the lists: 0 the keys', 1 the views', i + 2 the entries of key i: where they lie (lo, la), what they hold (lc) -/
def xLS (E : xE) (G : xw_G) (n : Nat) (lo la : Nat → Nat) (lc : Nat → List Nat) : Prop :=
  (∀ i : Nat, i < n + 2 → xAL E G (lo i) (la i) (lc i)) ∧ (∀ i j : Nat, i < n + 2 → j < n + 2 → lo i = lo j → i = j) ∧ (∀ i j : Nat, i < n + 2 → j < n + 2 → la i = la j → i = j ∨ la i = xaE E)
def xCS (E : xE) (G : xw_G) (x : Nat) (σ : CS) : Prop := ∃ (lo la : Nat → Nat) (lc : Nat → List Nat),
  G x = some (eKF (lo 0) (lo 1) (sO σ) (lN (sA σ)) (lN (sW σ))) ∧ xLS E G (sK σ).length lo la lc ∧
  ((lc 0).length = (sK σ).length ∧ (lc 0).Nodup ∧ (lc 1).length = (sV σ).length ∧ (lc 1).Nodup) ∧
  (∀ (i : Nat) (q : KD × List E3), (sK σ)[i]? = some q → (∃ a : Nat, (lc 0)[i]? = some a ∧ G a = some (cKI q.1 (lo (i + 2)))) ∧ xEL G (lc (i + 2)) q.2) ∧
  (∀ (i : Nat) (v : VD), (sV σ)[i]? = some v → ∃ a : Nat, (lc 1)[i]? = some a ∧ G a = some (cVW v)) ∧
  (∀ (r : Nat) (d : Int64 × Bool), sD σ r = some d → ∃ w : Nat, w ≤ sW σ ∧ G r = some (eST d.1 d.2 (lN w))) ∧ xEm E G
/-- a cell of the reference: its object, arrays of numbers -/
def xMo (e : va_E) : Prop := (∃ fs, e = .inr (5, fs)) ∨ (∃ (c : ClassId) (n : Nat) (f : Nat → Int32), e = .inl (c, n, .inl f)) ∨ ∃ (c : ClassId) (n : Nat) (f : Nat → Int64), e = .inl (c, n, .inr (.inl f))
def xFm (G G' : xw_G) : Prop := ∀ (a : Nat) (e : va_E), G a = some e → xMo e → G' a = some e
theorem xFm.rf {G : xw_G} : xFm G G := fun _ _ h _ => h
theorem xFm.tr {G1 G2 G3 : xw_G} (h1 : xFm G1 G2) (h2 : xFm G2 G3) : xFm G1 G3 := fun a e h hm => h2 a e (h1 a e h hm) hm
theorem xFm.up {G : xw_G} {a ci : Nat} {fs : List Value} {e : Option va_E} (h : G a = some (.inr (ci, fs))) (hc : ci ≠ 5) : xFm G (va_up G a e) := by
  intro b e0 hb hm
  have hne : b ≠ a := by
    intro q
    subst q
    rw [h] at hb
    cases hb
    rcases hm with ⟨fs2, h2⟩ | ⟨_, _, _, h2⟩ | ⟨_, _, _, h2⟩
    · cases h2; exact hc rfl
    · cases h2
    · cases h2
  rw [va_up_ne _ _ hne]
  exact hb
theorem xFm.fresh {G : xw_G} {a : Nat} {e : Option va_E} (h : G a = none) : xFm G (va_up G a e) := by
  intro b e0 hb hm
  rw [va_up_ne _ _ (xw_neF h hb)]
  exact hb
theorem xFm.fr {E : xE} {G G' : xw_G} {h ar : Nat} {xs : List Nat} (hA : xAL E G h ar xs) (hF : xFr E G G' h ar) : xFm G G' := by
  obtain ⟨cap, md, f, h1, h2, -⟩ := hA
  intro b e0 hb hm
  refine hF b e0 hb (fun q => ?_) (fun q => ?_)
  · subst q
    rw [h1] at hb
    cases hb
    rcases hm with ⟨fs2, h2⟩ | ⟨_, _, _, h2⟩ | ⟨_, _, _, h2⟩ <;> cases h2
  · subst q
    rw [h2] at hb
    cases hb
    rcases hm with ⟨fs2, h2⟩ | ⟨_, _, _, h2⟩ | ⟨_, _, _, h2⟩ <;> cases h2
-- what a write to an object that is no list leaves
theorem xAL_up {E : xE} {G : xw_G} {h ar a ci : Nat} {xs : List Nat} {fs : List Value} {e : va_E} (ha : G a = some (.inr (ci, fs))) (hc : ci ≠ 6) (hA : xAL E G h ar xs) : xAL E (va_up G a (some e)) h ar xs := by
  obtain ⟨cap, md, f, h1, h2, h3⟩ := hA
  exact ⟨cap, md, f, xw_keep h1 (xw_neC h1 ha (fun q => hc q.symm)), xw_keep h2 (xw_neA ha h2).symm, h3⟩
theorem xLS_up {E : xE} {G : xw_G} {n a ci : Nat} {lo la : Nat → Nat} {lc : Nat → List Nat} {fs : List Value} {e : va_E} (ha : G a = some (.inr (ci, fs))) (hc : ci ≠ 6) (h : xLS E G n lo la lc) : xLS E (va_up G a (some e)) n lo la lc := ⟨fun i hi => xAL_up ha hc (h.1 i hi), h.2⟩
theorem xEm_up {E : xE} {G : xw_G} {a ci : Nat} {fs : List Value} {e : va_E} (ha : G a = some (.inr (ci, fs))) (h : xEm E G) : xEm E (va_up G a (some e)) := by
  obtain ⟨f, hf⟩ := h
  exact ⟨f, xw_keep hf (xw_neA ha hf).symm⟩
theorem xEL_up {G : xw_G} {a ci : Nat} {xs : List Nat} {es : List E3} {fs : List Value} {e : va_E} (ha : G a = some (.inr (ci, fs))) (hc : ci ≠ 1) (h : xEL G xs es) : xEL (va_up G a (some e)) xs es := by
  refine ⟨h.1, fun j e0 hj => ?_⟩
  obtain ⟨b, h1, h2⟩ := h.2 j e0 hj
  exact ⟨b, h1, xw_keep h2 (xw_neC h2 ha (fun q => hc q.symm))⟩
theorem nodup_at {xs : List Nat} (h : xs.Nodup) {i j a : Nat} (hi : xs[i]? = some a) (hj : xs[j]? = some a) : i = j := by
  obtain ⟨hi1, hi2⟩ := List.getElem?_eq_some_iff.mp hi
  obtain ⟨hj1, hj2⟩ := List.getElem?_eq_some_iff.mp hj
  exact (List.getElem_inj h).mp (hi2.trans hj2.symm)
theorem set_at {α : Type} {l : List α} {i j : Nat} {v q : α} (h : (l.set i v)[j]? = some q) : (j = i ∧ q = v) ∨ (j ≠ i ∧ l[j]? = some q) := by
  by_cases hji : j = i
  · subst hji
    have hl : j < l.length := by
      have := (List.getElem?_eq_some_iff.mp h).1
      rwa [List.length_set] at this
    rw [List.getElem?_set_self hl] at h
    exact Or.inl ⟨rfl, (Option.some.inj h).symm⟩
  · rw [List.getElem?_set_ne (Ne.symm hji)] at h
    exact Or.inr ⟨hji, h⟩
/-- the state with another view i -/
abbrev CS.vw (σ : CS) (i : Nat) (v : VD) : CS := (sK σ, (sV σ).set i v, sD σ, sO σ, sA σ, sW σ)
theorem xCS_vw {E : xE} {G : xw_G} {x i a : Nat} {σ : CS} {v v' : VD} {lo la : Nat → Nat} {lc : Nat → List Nat} (hG : G x = some (eKF (lo 0) (lo 1) (sO σ) (lN (sA σ)) (lN (sW σ)))) (hL : xLS E G (sK σ).length lo la lc)
    (hn : (lc 0).length = (sK σ).length ∧ (lc 0).Nodup ∧ (lc 1).length = (sV σ).length ∧ (lc 1).Nodup)
    (hk : ∀ (i : Nat) (q : KD × List E3), (sK σ)[i]? = some q → (∃ a : Nat, (lc 0)[i]? = some a ∧ G a = some (cKI q.1 (lo (i + 2)))) ∧ xEL G (lc (i + 2)) q.2)
    (hv : ∀ (i : Nat) (v : VD), (sV σ)[i]? = some v → ∃ a : Nat, (lc 1)[i]? = some a ∧ G a = some (cVW v))
    (hs : ∀ (r : Nat) (d : Int64 × Bool), sD σ r = some d → ∃ w : Nat, w ≤ sW σ ∧ G r = some (eST d.1 d.2 (lN w))) (he : xEm E G) (ha : (lc 1)[i]? = some a) (hGa : G a = some (cVW v)) : xCS E (va_up G a (some (cVW v'))) x (σ.vw i v') := by
  refine ⟨lo, la, lc, xw_keep hG (xw_neC hG hGa (by decide)), xLS_up hGa (by decide) hL, ⟨hn.1, hn.2.1, by rw [List.length_set]; exact hn.2.2.1, hn.2.2.2⟩, fun j q hj => ?_, fun j u hj => ?_, fun r d hr => ?_, xEm_up hGa he⟩
  · obtain ⟨⟨b, h1, h2⟩, h3⟩ := hk j q hj
    exact ⟨⟨b, h1, xw_keep h2 (xw_neC h2 hGa (by decide))⟩, xEL_up hGa (by decide) h3⟩
  · rcases set_at hj with ⟨rfl, rfl⟩ | ⟨hji, hj⟩
    · exact ⟨a, ha, va_up_self _ _ _⟩
    · obtain ⟨b, h1, h2⟩ := hv j u hj
      exact ⟨b, h1, xw_keep h2 (fun q => hji (nodup_at hn.2.2.2 h1 (by rw [q]; exact ha)))⟩
  · obtain ⟨w, h1, h2⟩ := hs r d hr
    exact ⟨w, h1, xw_keep h2 (xw_neC h2 hGa (by decide))⟩
end
section
set_option maxRecDepth 100000 in
set_option maxHeartbeats 4000000 in
theorem q_KF_indexAt_in (l : Launch) (E : xE) {G : xw_G} {x ix vw : Nat} {op : Bool} {na nw : Int64} (hG : G x = some (eKF ix vw op na nw)) {aix : Nat} {ks : List Nat} (hI : xAL E G ix aix ks) {a : Nat} {fs : List Value} {i : Nat} (hi : ks[i]? = some a) (hN : G a = some (.inr (2, fs))) : XMk l E y_KF_indexAt w_KF_indexAt rm_KF_indexAt [.ref x, .int (nI i)] G (fun r G' => r = some (.ref a) ∧ G = G') 0 0 := by
  refine XM_of [some (.ref x), some (.int (nI i))] (XZ_st E) (by decide) rfl rfl rfl (Nat.le_of_ble_eq_true rfl) (fun p e s m below meth c C hnm => ?_)
  obtain ⟨cap, md, ff, hL, hAr, hc1, hc2, -, -⟩ := id hI
  have hcl := capOK_le hc2
  have hk : i < ks.length := (List.getElem?_eq_some_iff.mp hi).1
  refine x_iload_n C d_KF_indexAt_0 rfl rfl ?_
  refine x_if_lt C 29 d_KF_indexAt_1 (by decide) (fun c_1 => ?_) (fun c_1 => ?_)
  · exact absurd c_1 (nI_pos (by omega))
  · refine x_iload_n C d_KF_indexAt_4 rfl rfl ?_
    refine x_aload_n C d_KF_indexAt_5 rfl rfl ?_
    refine x_get C hG rfl (in_KF _) 0 (by decide) (List.mem_cons_of_mem _ f_KF_10) rfl d_KF_indexAt_6 ?_
    refine x_callV0 C (q_AL_sizeL l E hI) (lk_KF_19 C.hts (Nat.le_of_ble_eq_true rfl) (Nat.le_of_ble_eq_true rfl)) hL rfl rfl d_KF_indexAt_9 (Nat.le_of_ble_eq_true rfl) (Nat.le_of_ble_eq_true rfl) (Nat.le_of_ble_eq_true rfl) (fun r G' h => ?_)
    obtain ⟨rfl, rfl⟩ := h
    refine x_icmp_ge C 29 d_KF_indexAt_12 (by decide) (fun c_12 => ?_) (fun c_12 => ?_)
    · exact absurd c_12 (nI_ge hk (by omega))
    · refine x_aload_n C d_KF_indexAt_15 rfl rfl ?_
      refine x_get C hG rfl (in_KF _) 0 (by decide) (List.mem_cons_of_mem _ f_KF_10) rfl d_KF_indexAt_16 ?_
      refine x_iload_n C d_KF_indexAt_19 rfl rfl ?_
      refine x_callV1 C (q_AL_getL l E hI hi) (lk_KF_177 C.hts (Nat.le_of_ble_eq_true rfl) (Nat.le_of_ble_eq_true rfl)) hL rfl rfl d_KF_indexAt_20 (Nat.le_of_ble_eq_true rfl) (Nat.le_of_ble_eq_true rfl) (Nat.le_of_ble_eq_true rfl) (fun r G' h => ?_)
      obtain ⟨rfl, rfl⟩ := h
      refine x_castS C hN rfl (List.mem_cons_of_mem _ cl_KF_27) d_KF_indexAt_23 ?_
      refine x_goto C 30 d_KF_indexAt_26 (by decide) ?_
      exact x_aret C (Or.inl ⟨_, rfl⟩) (Or.inr ⟨_, rfl⟩) (Nat.le_of_ble_eq_true rfl) (Nat.le_of_ble_eq_true rfl) d_KF_indexAt_30 ⟨rfl, rfl⟩
set_option maxRecDepth 100000 in
set_option maxHeartbeats 4000000 in
theorem q_KF_indexAt_out (l : Launch) (E : xE) {G : xw_G} {x ix vw : Nat} {op : Bool} {na nw : Int64} (hG : G x = some (eKF ix vw op na nw)) {aix : Nat} {ks : List Nat} (hI : xAL E G ix aix ks) {j : Int32} (hj : j < 0 ∨ nI ks.length ≤ j) : XMk l E y_KF_indexAt w_KF_indexAt rm_KF_indexAt [.ref x, .int (j)] G (fun r G' => r = some (.null) ∧ G = G') 0 0 := by
  refine XM_of [some (.ref x), some (.int (j))] (XZ_st E) (by decide) rfl rfl rfl (Nat.le_of_ble_eq_true rfl) (fun p e s m below meth c C hnm => ?_)
  obtain ⟨cap, md, ff, hL, hAr, hc1, hc2, -, -⟩ := id hI
  refine x_iload_n C d_KF_indexAt_0 rfl rfl ?_
  refine x_if_lt C 29 d_KF_indexAt_1 (by decide) (fun c_1 => ?_) (fun c_1 => ?_)
  · refine x_null C d_KF_indexAt_29 ?_
    exact x_aret C (Or.inl ⟨_, rfl⟩) (Or.inl rfl) (Nat.le_of_ble_eq_true rfl) (Nat.le_of_ble_eq_true rfl) d_KF_indexAt_30 ⟨rfl, rfl⟩
  · refine x_iload_n C d_KF_indexAt_4 rfl rfl ?_
    refine x_aload_n C d_KF_indexAt_5 rfl rfl ?_
    refine x_get C hG rfl (in_KF _) 0 (by decide) (List.mem_cons_of_mem _ f_KF_10) rfl d_KF_indexAt_6 ?_
    refine x_callV0 C (q_AL_sizeL l E hI) (lk_KF_19 C.hts (Nat.le_of_ble_eq_true rfl) (Nat.le_of_ble_eq_true rfl)) hL rfl rfl d_KF_indexAt_9 (Nat.le_of_ble_eq_true rfl) (Nat.le_of_ble_eq_true rfl) (Nat.le_of_ble_eq_true rfl) (fun r G' h => ?_)
    obtain ⟨rfl, rfl⟩ := h
    refine x_icmp_ge C 29 d_KF_indexAt_12 (by decide) (fun c_12 => ?_) (fun c_12 => ?_)
    · refine x_null C d_KF_indexAt_29 ?_
      exact x_aret C (Or.inl ⟨_, rfl⟩) (Or.inl rfl) (Nat.le_of_ble_eq_true rfl) (Nat.le_of_ble_eq_true rfl) d_KF_indexAt_30 ⟨rfl, rfl⟩
    · exact absurd hj (fun q => q.elim c_1 c_12)
set_option maxRecDepth 100000 in
set_option maxHeartbeats 4000000 in
theorem q_KF_viewAt_in (l : Launch) (E : xE) {G : xw_G} {x ix vw : Nat} {op : Bool} {na nw : Int64} (hG : G x = some (eKF ix vw op na nw)) {avw : Nat} {ws : List Nat} (hW : xAL E G vw avw ws) {a : Nat} {fs : List Value} {i : Nat} (hi : ws[i]? = some a) (hN : G a = some (.inr (4, fs))) : XMk l E y_KF_viewAt w_KF_viewAt rm_KF_viewAt [.ref x, .int (nI i)] G (fun r G' => r = some (.ref a) ∧ G = G') 0 0 := by
  refine XM_of [some (.ref x), some (.int (nI i))] (XZ_st E) (by decide) rfl rfl rfl (Nat.le_of_ble_eq_true rfl) (fun p e s m below meth c C hnm => ?_)
  obtain ⟨cap, md, ff, hL, hAr, hc1, hc2, -, -⟩ := id hW
  have hcl := capOK_le hc2
  have hk : i < ws.length := (List.getElem?_eq_some_iff.mp hi).1
  refine x_iload_n C d_KF_viewAt_0 rfl rfl ?_
  refine x_if_lt C 29 d_KF_viewAt_1 (by decide) (fun c_1 => ?_) (fun c_1 => ?_)
  · exact absurd c_1 (nI_pos (by omega))
  · refine x_iload_n C d_KF_viewAt_4 rfl rfl ?_
    refine x_aload_n C d_KF_viewAt_5 rfl rfl ?_
    refine x_get C hG rfl (in_KF _) 1 (by decide) (List.mem_cons_of_mem _ f_KF_16) rfl d_KF_viewAt_6 ?_
    refine x_callV0 C (q_AL_sizeL l E hW) (lk_KF_19 C.hts (Nat.le_of_ble_eq_true rfl) (Nat.le_of_ble_eq_true rfl)) hL rfl rfl d_KF_viewAt_9 (Nat.le_of_ble_eq_true rfl) (Nat.le_of_ble_eq_true rfl) (Nat.le_of_ble_eq_true rfl) (fun r G' h => ?_)
    obtain ⟨rfl, rfl⟩ := h
    refine x_icmp_ge C 29 d_KF_viewAt_12 (by decide) (fun c_12 => ?_) (fun c_12 => ?_)
    · exact absurd c_12 (nI_ge hk (by omega))
    · refine x_aload_n C d_KF_viewAt_15 rfl rfl ?_
      refine x_get C hG rfl (in_KF _) 1 (by decide) (List.mem_cons_of_mem _ f_KF_16) rfl d_KF_viewAt_16 ?_
      refine x_iload_n C d_KF_viewAt_19 rfl rfl ?_
      refine x_callV1 C (q_AL_getL l E hW hi) (lk_KF_177 C.hts (Nat.le_of_ble_eq_true rfl) (Nat.le_of_ble_eq_true rfl)) hL rfl rfl d_KF_viewAt_20 (Nat.le_of_ble_eq_true rfl) (Nat.le_of_ble_eq_true rfl) (Nat.le_of_ble_eq_true rfl) (fun r G' h => ?_)
      obtain ⟨rfl, rfl⟩ := h
      refine x_castS C hN rfl (List.mem_cons_of_mem _ cl_KF_48) d_KF_viewAt_23 ?_
      refine x_goto C 30 d_KF_viewAt_26 (by decide) ?_
      exact x_aret C (Or.inl ⟨_, rfl⟩) (Or.inr ⟨_, rfl⟩) (Nat.le_of_ble_eq_true rfl) (Nat.le_of_ble_eq_true rfl) d_KF_viewAt_30 ⟨rfl, rfl⟩
set_option maxRecDepth 100000 in
set_option maxHeartbeats 4000000 in
theorem q_KF_viewAt_out (l : Launch) (E : xE) {G : xw_G} {x ix vw : Nat} {op : Bool} {na nw : Int64} (hG : G x = some (eKF ix vw op na nw)) {avw : Nat} {ws : List Nat} (hW : xAL E G vw avw ws) {j : Int32} (hj : j < 0 ∨ nI ws.length ≤ j) : XMk l E y_KF_viewAt w_KF_viewAt rm_KF_viewAt [.ref x, .int (j)] G (fun r G' => r = some (.null) ∧ G = G') 0 0 := by
  refine XM_of [some (.ref x), some (.int (j))] (XZ_st E) (by decide) rfl rfl rfl (Nat.le_of_ble_eq_true rfl) (fun p e s m below meth c C hnm => ?_)
  obtain ⟨cap, md, ff, hL, hAr, hc1, hc2, -, -⟩ := id hW
  refine x_iload_n C d_KF_viewAt_0 rfl rfl ?_
  refine x_if_lt C 29 d_KF_viewAt_1 (by decide) (fun c_1 => ?_) (fun c_1 => ?_)
  · refine x_null C d_KF_viewAt_29 ?_
    exact x_aret C (Or.inl ⟨_, rfl⟩) (Or.inl rfl) (Nat.le_of_ble_eq_true rfl) (Nat.le_of_ble_eq_true rfl) d_KF_viewAt_30 ⟨rfl, rfl⟩
  · refine x_iload_n C d_KF_viewAt_4 rfl rfl ?_
    refine x_aload_n C d_KF_viewAt_5 rfl rfl ?_
    refine x_get C hG rfl (in_KF _) 1 (by decide) (List.mem_cons_of_mem _ f_KF_16) rfl d_KF_viewAt_6 ?_
    refine x_callV0 C (q_AL_sizeL l E hW) (lk_KF_19 C.hts (Nat.le_of_ble_eq_true rfl) (Nat.le_of_ble_eq_true rfl)) hL rfl rfl d_KF_viewAt_9 (Nat.le_of_ble_eq_true rfl) (Nat.le_of_ble_eq_true rfl) (Nat.le_of_ble_eq_true rfl) (fun r G' h => ?_)
    obtain ⟨rfl, rfl⟩ := h
    refine x_icmp_ge C 29 d_KF_viewAt_12 (by decide) (fun c_12 => ?_) (fun c_12 => ?_)
    · refine x_null C d_KF_viewAt_29 ?_
      exact x_aret C (Or.inl ⟨_, rfl⟩) (Or.inl rfl) (Nat.le_of_ble_eq_true rfl) (Nat.le_of_ble_eq_true rfl) d_KF_viewAt_30 ⟨rfl, rfl⟩
    · exact absurd hj (fun q => q.elim c_1 c_12)
set_option maxRecDepth 100000 in
set_option maxHeartbeats 4000000 in
theorem q_KF_entryCount_in (l : Launch) (E : xE) {G : xw_G} {x ix vw : Nat} {op : Bool} {na nw : Int64} (hG : G x = some (eKF ix vw op na nw)) {aix : Nat} {ks : List Nat} (hI : xAL E G ix aix ks) {ki en : Nat} {db sp : Bool} {fr sz : Int32} {lo : Int64} (hK : G ki = some (eKI db fr sz en sp lo)) {ar : Nat} {xs : List Nat} (hA : xAL E G en ar xs) {i : Nat} (hki : ks[i]? = some ki) : XMk l E y_KF_entryCount w_KF_entryCount rm_KF_entryCount [.ref x, .int (nI i)] G (fun r G' => r = some (.int (nI xs.length)) ∧ G = G') 0 0 := by
  refine XM_of [some (.ref x), some (.int (nI i)), none] (XZ_st E) (by decide) rfl rfl rfl (Nat.le_of_ble_eq_true rfl) (fun p e s m below meth c C hnm => ?_)
  obtain ⟨cap, md, ff, hL, hAr, hc1, hc2, -, -⟩ := id hA
  refine x_aload_n C d_KF_entryCount_0 rfl rfl ?_
  refine x_iload_n C d_KF_entryCount_1 rfl rfl ?_
  refine x_callV1 C (q_KF_indexAt_in l E hG hI hki hK) (lk_KF_36 C.hts (Nat.le_of_ble_eq_true rfl) (Nat.le_of_ble_eq_true rfl)) hG rfl rfl d_KF_entryCount_2 (Nat.le_of_ble_eq_true rfl) (Nat.le_of_ble_eq_true rfl) (Nat.le_of_ble_eq_true rfl) (fun r G' h => ?_)
  obtain ⟨rfl, rfl⟩ := h
  refine x_astore_n C d_KF_entryCount_5 rfl (Nat.le_of_ble_eq_true rfl) rfl ?_
  refine x_aload_n C d_KF_entryCount_6 rfl rfl ?_
  refine x_ifnonnull C 14 d_KF_entryCount_7 (by decide) ?_
  refine x_aload_n C d_KF_entryCount_14 rfl rfl ?_
  refine x_get C hK rfl (in_KI _) 3 (by decide) (List.mem_cons_of_mem _ f_KF_188) rfl d_KF_entryCount_15 ?_
  refine x_callV0 C (q_AL_sizeL l E hA) (lk_KF_19 C.hts (Nat.le_of_ble_eq_true rfl) (Nat.le_of_ble_eq_true rfl)) hL rfl rfl d_KF_entryCount_18 (Nat.le_of_ble_eq_true rfl) (Nat.le_of_ble_eq_true rfl) (Nat.le_of_ble_eq_true rfl) (fun r G' h => ?_)
  obtain ⟨rfl, rfl⟩ := h
  exact x_iret C (Nat.le_of_ble_eq_true rfl) (Nat.le_of_ble_eq_true rfl) d_KF_entryCount_21 ⟨rfl, rfl⟩
set_option maxRecDepth 100000 in
set_option maxHeartbeats 4000000 in
theorem q_KF_entryCount_out (l : Launch) (E : xE) {G : xw_G} {x ix vw : Nat} {op : Bool} {na nw : Int64} (hG : G x = some (eKF ix vw op na nw)) {aix : Nat} {ks : List Nat} (hI : xAL E G ix aix ks) {j : Int32} (hkj : j < 0 ∨ nI ks.length ≤ j) : XMk l E y_KF_entryCount w_KF_entryCount rm_KF_entryCount [.ref x, .int (j)] G (fun r G' => r = some (.int 0) ∧ G = G') 0 0 := by
  refine XM_of [some (.ref x), some (.int (j)), none] (XZ_st E) (by decide) rfl rfl rfl (Nat.le_of_ble_eq_true rfl) (fun p e s m below meth c C hnm => ?_)
  refine x_aload_n C d_KF_entryCount_0 rfl rfl ?_
  refine x_iload_n C d_KF_entryCount_1 rfl rfl ?_
  refine x_callV1 C (q_KF_indexAt_out l E hG hI hkj) (lk_KF_36 C.hts (Nat.le_of_ble_eq_true rfl) (Nat.le_of_ble_eq_true rfl)) hG rfl rfl d_KF_entryCount_2 (Nat.le_of_ble_eq_true rfl) (Nat.le_of_ble_eq_true rfl) (Nat.le_of_ble_eq_true rfl) (fun r G' h => ?_)
  obtain ⟨rfl, rfl⟩ := h
  refine x_astore_nN C d_KF_entryCount_5 rfl (Nat.le_of_ble_eq_true rfl) rfl ?_
  refine x_aload_nN C d_KF_entryCount_6 rfl rfl ?_
  refine x_ifnonnullN C d_KF_entryCount_7 ?_
  refine x_iconst C (v := 0) d_KF_entryCount_10 (by decide) ?_
  refine x_goto C 21 d_KF_entryCount_11 (by decide) ?_
  exact x_iret C (Nat.le_of_ble_eq_true rfl) (Nat.le_of_ble_eq_true rfl) d_KF_entryCount_21 ⟨rfl, rfl⟩
set_option maxRecDepth 100000 in
set_option maxHeartbeats 4000000 in
theorem q_KF_fieldOf_in (l : Launch) (E : xE) {G : xw_G} {x ix vw : Nat} {op : Bool} {na nw : Int64} (hG : G x = some (eKF ix vw op na nw)) {aix : Nat} {ks : List Nat} (hI : xAL E G ix aix ks) {ki en : Nat} {db sp : Bool} {fr sz : Int32} {lo : Int64} (hK : G ki = some (eKI db fr sz en sp lo)) {i : Nat} (hki : ks[i]? = some ki) {z : Int64} : XMk l E y_KF_fieldOf w_KF_fieldOf rm_KF_fieldOf [.ref x, .int (nI i), .long (z)] G (fun r G' => r = some (.long (fldI fr sz z)) ∧ G = G') 0 0 := by
  refine XM_of [some (.ref x), some (.int (nI i)), some (.long (z)), none, none] (XZ_st E) (by decide) rfl rfl rfl (Nat.le_of_ble_eq_true rfl) (fun p e s m below meth c C hnm => ?_)
  refine x_aload_n C d_KF_fieldOf_0 rfl rfl ?_
  refine x_iload_n C d_KF_fieldOf_1 rfl rfl ?_
  refine x_callV1 C (q_KF_indexAt_in l E hG hI hki hK) (lk_KF_36 C.hts (Nat.le_of_ble_eq_true rfl) (Nat.le_of_ble_eq_true rfl)) hG rfl rfl d_KF_fieldOf_2 (Nat.le_of_ble_eq_true rfl) (Nat.le_of_ble_eq_true rfl) (Nat.le_of_ble_eq_true rfl) (fun r G' h => ?_)
  obtain ⟨rfl, rfl⟩ := h
  refine x_astore C d_KF_fieldOf_5 (Nat.le_of_ble_eq_true rfl) rfl ?_
  refine x_aload C d_KF_fieldOf_7 rfl ?_
  refine x_ifnonnull C 16 d_KF_fieldOf_9 (by decide) ?_
  refine x_aload C d_KF_fieldOf_16 rfl ?_
  refine x_lload_n C d_KF_fieldOf_18 rfl rfl ?_
  refine x_callV1 C (q_KI_fieldIn l E hK) (lk_KF_195 C.hts (Nat.le_of_ble_eq_true rfl) (Nat.le_of_ble_eq_true rfl)) hK rfl rfl d_KF_fieldOf_19 (Nat.le_of_ble_eq_true rfl) (Nat.le_of_ble_eq_true rfl) (Nat.le_of_ble_eq_true rfl) (fun r G' h => ?_)
  obtain ⟨rfl, rfl⟩ := h
  exact x_lret C (Nat.le_of_ble_eq_true rfl) (Nat.le_of_ble_eq_true rfl) d_KF_fieldOf_22 ⟨rfl, rfl⟩
set_option maxRecDepth 100000 in
set_option maxHeartbeats 4000000 in
theorem q_KF_fieldOf_out (l : Launch) (E : xE) {G : xw_G} {x ix vw : Nat} {op : Bool} {na nw : Int64} (hG : G x = some (eKF ix vw op na nw)) {aix : Nat} {ks : List Nat} (hI : xAL E G ix aix ks) {j : Int32} (hkj : j < 0 ∨ nI ks.length ≤ j) {z : Int64} : XMk l E y_KF_fieldOf w_KF_fieldOf rm_KF_fieldOf [.ref x, .int (j), .long (z)] G (fun r G' => r = some (.long 0) ∧ G = G') 0 0 := by
  refine XM_of [some (.ref x), some (.int (j)), some (.long (z)), none, none] (XZ_st E) (by decide) rfl rfl rfl (Nat.le_of_ble_eq_true rfl) (fun p e s m below meth c C hnm => ?_)
  refine x_aload_n C d_KF_fieldOf_0 rfl rfl ?_
  refine x_iload_n C d_KF_fieldOf_1 rfl rfl ?_
  refine x_callV1 C (q_KF_indexAt_out l E hG hI hkj) (lk_KF_36 C.hts (Nat.le_of_ble_eq_true rfl) (Nat.le_of_ble_eq_true rfl)) hG rfl rfl d_KF_fieldOf_2 (Nat.le_of_ble_eq_true rfl) (Nat.le_of_ble_eq_true rfl) (Nat.le_of_ble_eq_true rfl) (fun r G' h => ?_)
  obtain ⟨rfl, rfl⟩ := h
  refine x_astoreN C d_KF_fieldOf_5 (Nat.le_of_ble_eq_true rfl) rfl ?_
  refine x_aloadN C d_KF_fieldOf_7 rfl ?_
  refine x_ifnonnullN C d_KF_fieldOf_9 ?_
  refine x_lconst C (v := 0) d_KF_fieldOf_12 (by decide) ?_
  refine x_goto C 22 d_KF_fieldOf_13 (by decide) ?_
  exact x_lret C (Nat.le_of_ble_eq_true rfl) (Nat.le_of_ble_eq_true rfl) d_KF_fieldOf_22 ⟨rfl, rfl⟩
set_option maxRecDepth 100000 in
set_option maxHeartbeats 4000000 in
theorem q_KF_count_in (l : Launch) (E : xE) {G : xw_G} {x ix vw : Nat} {op : Bool} {na nw : Int64} (hG : G x = some (eKF ix vw op na nw)) {aix : Nat} {ks : List Nat} (hI : xAL E G ix aix ks) {ki en : Nat} {db sp : Bool} {fr sz : Int32} {lo : Int64} (hK : G ki = some (eKI db fr sz en sp lo)) {ar : Nat} {xs : List Nat} (hA : xAL E G en ar xs) {i : Nat} (hki : ks[i]? = some ki) : XMk l E y_KF_count w_KF_count rm_KF_count [.ref x, .int (nI i)] G (fun r G' => r = some (.int (nI xs.length)) ∧ G = G') 0 0 := by
  refine XM_of [some (.ref x), some (.int (nI i))] (XZ_st E) (by decide) rfl rfl rfl (Nat.le_of_ble_eq_true rfl) (fun p e s m below meth c C hnm => ?_)
  refine x_aload_n C d_KF_count_0 rfl rfl ?_
  refine x_iload_n C d_KF_count_1 rfl rfl ?_
  refine x_callV1 C (q_KF_indexAt_in l E hG hI hki hK) (lk_KF_36 C.hts (Nat.le_of_ble_eq_true rfl) (Nat.le_of_ble_eq_true rfl)) hG rfl rfl d_KF_count_2 (Nat.le_of_ble_eq_true rfl) (Nat.le_of_ble_eq_true rfl) (Nat.le_of_ble_eq_true rfl) (fun r G' h => ?_)
  obtain ⟨rfl, rfl⟩ := h
  refine x_ifnonnull C 12 d_KF_count_5 (by decide) ?_
  refine x_aload_n C d_KF_count_12 rfl rfl ?_
  refine x_iload_n C d_KF_count_13 rfl rfl ?_
  refine x_callV1 C (q_KF_entryCount_in l E hG hI hK hA hki) (lk_KF_83 C.hts (Nat.le_of_ble_eq_true rfl) (Nat.le_of_ble_eq_true rfl)) hG rfl rfl d_KF_count_14 (Nat.le_of_ble_eq_true rfl) (Nat.le_of_ble_eq_true rfl) (Nat.le_of_ble_eq_true rfl) (fun r G' h => ?_)
  obtain ⟨rfl, rfl⟩ := h
  exact x_iret C (Nat.le_of_ble_eq_true rfl) (Nat.le_of_ble_eq_true rfl) d_KF_count_17 ⟨rfl, rfl⟩
set_option maxRecDepth 100000 in
set_option maxHeartbeats 4000000 in
theorem q_KF_count_out (l : Launch) (E : xE) {G : xw_G} {x ix vw : Nat} {op : Bool} {na nw : Int64} (hG : G x = some (eKF ix vw op na nw)) {aix : Nat} {ks : List Nat} (hI : xAL E G ix aix ks) {j : Int32} (hkj : j < 0 ∨ nI ks.length ≤ j) : XMk l E y_KF_count w_KF_count rm_KF_count [.ref x, .int (j)] G (fun r G' => r = some (.int (-1)) ∧ G = G') 0 0 := by
  refine XM_of [some (.ref x), some (.int (j))] (XZ_st E) (by decide) rfl rfl rfl (Nat.le_of_ble_eq_true rfl) (fun p e s m below meth c C hnm => ?_)
  refine x_aload_n C d_KF_count_0 rfl rfl ?_
  refine x_iload_n C d_KF_count_1 rfl rfl ?_
  refine x_callV1 C (q_KF_indexAt_out l E hG hI hkj) (lk_KF_36 C.hts (Nat.le_of_ble_eq_true rfl) (Nat.le_of_ble_eq_true rfl)) hG rfl rfl d_KF_count_2 (Nat.le_of_ble_eq_true rfl) (Nat.le_of_ble_eq_true rfl) (Nat.le_of_ble_eq_true rfl) (fun r G' h => ?_)
  obtain ⟨rfl, rfl⟩ := h
  refine x_ifnonnullN C d_KF_count_5 ?_
  refine x_iconst C (v := -1) d_KF_count_8 (by decide) ?_
  refine x_goto C 17 d_KF_count_9 (by decide) ?_
  exact x_iret C (Nat.le_of_ble_eq_true rfl) (Nat.le_of_ble_eq_true rfl) d_KF_count_17 ⟨rfl, rfl⟩
set_option maxRecDepth 100000 in
set_option maxHeartbeats 4000000 in
theorem q_KF_value_in (l : Launch) (E : xE) {G : xw_G} {x ix vw : Nat} {op : Bool} {na nw : Int64} (hG : G x = some (eKF ix vw op na nw)) {avw : Nat} {ws : List Nat} (hW : xAL E G vw avw ws) {va : Nat} {vo ae hw : Bool} {mo ac kr pl : Int32} {pf pc vr pw : Int64} {rl : Value} (hV : G va = some (eVW vo mo ac kr pl pf pc ae rl vr hw pw)) {i : Nat} (hi : ws[i]? = some va) : XMk l E y_KF_value w_KF_value rm_KF_value [.ref x, .int (nI i)] G (fun r G' => r = some (.long vr) ∧ G = G') 0 0 := by
  refine XM_of [some (.ref x), some (.int (nI i)), none] (XZ_st E) (by decide) rfl rfl rfl (Nat.le_of_ble_eq_true rfl) (fun p e s m below meth c C hnm => ?_)
  refine x_aload_n C d_KF_value_0 rfl rfl ?_
  refine x_iload_n C d_KF_value_1 rfl rfl ?_
  refine x_callV1 C (q_KF_viewAt_in l E hG hW hi hV) (lk_KF_51 C.hts (Nat.le_of_ble_eq_true rfl) (Nat.le_of_ble_eq_true rfl)) hG rfl rfl d_KF_value_2 (Nat.le_of_ble_eq_true rfl) (Nat.le_of_ble_eq_true rfl) (Nat.le_of_ble_eq_true rfl) (fun r G' h => ?_)
  obtain ⟨rfl, rfl⟩ := h
  refine x_astore_n C d_KF_value_5 rfl (Nat.le_of_ble_eq_true rfl) rfl ?_
  refine x_aload_n C d_KF_value_6 rfl rfl ?_
  refine x_ifnonnull C 14 d_KF_value_7 (by decide) ?_
  refine x_aload_n C d_KF_value_14 rfl rfl ?_
  refine x_get C hV rfl (in_VW _) 9 (by decide) (List.mem_cons_of_mem _ f_KF_119) rfl d_KF_value_15 ?_
  exact x_lret C (Nat.le_of_ble_eq_true rfl) (Nat.le_of_ble_eq_true rfl) d_KF_value_18 ⟨rfl, rfl⟩
set_option maxRecDepth 100000 in
set_option maxHeartbeats 4000000 in
theorem q_KF_value_out (l : Launch) (E : xE) {G : xw_G} {x ix vw : Nat} {op : Bool} {na nw : Int64} (hG : G x = some (eKF ix vw op na nw)) {avw : Nat} {ws : List Nat} (hW : xAL E G vw avw ws) {j : Int32} (hj : j < 0 ∨ nI ws.length ≤ j) : XMk l E y_KF_value w_KF_value rm_KF_value [.ref x, .int (j)] G (fun r G' => r = some (.long 0) ∧ G = G') 0 0 := by
  refine XM_of [some (.ref x), some (.int (j)), none] (XZ_st E) (by decide) rfl rfl rfl (Nat.le_of_ble_eq_true rfl) (fun p e s m below meth c C hnm => ?_)
  refine x_aload_n C d_KF_value_0 rfl rfl ?_
  refine x_iload_n C d_KF_value_1 rfl rfl ?_
  refine x_callV1 C (q_KF_viewAt_out l E hG hW hj) (lk_KF_51 C.hts (Nat.le_of_ble_eq_true rfl) (Nat.le_of_ble_eq_true rfl)) hG rfl rfl d_KF_value_2 (Nat.le_of_ble_eq_true rfl) (Nat.le_of_ble_eq_true rfl) (Nat.le_of_ble_eq_true rfl) (fun r G' h => ?_)
  obtain ⟨rfl, rfl⟩ := h
  refine x_astore_nN C d_KF_value_5 rfl (Nat.le_of_ble_eq_true rfl) rfl ?_
  refine x_aload_nN C d_KF_value_6 rfl rfl ?_
  refine x_ifnonnullN C d_KF_value_7 ?_
  refine x_lconst C (v := 0) d_KF_value_10 (by decide) ?_
  refine x_goto C 18 d_KF_value_11 (by decide) ?_
  exact x_lret C (Nat.le_of_ble_eq_true rfl) (Nat.le_of_ble_eq_true rfl) d_KF_value_18 ⟨rfl, rfl⟩
set_option maxRecDepth 100000 in
set_option maxHeartbeats 4000000 in
theorem q_KF_reference_in (l : Launch) (E : xE) {G : xw_G} {x ix vw : Nat} {op : Bool} {na nw : Int64} (hG : G x = some (eKF ix vw op na nw)) {avw : Nat} {ws : List Nat} (hW : xAL E G vw avw ws) {va : Nat} {vo ae hw : Bool} {mo ac kr pl : Int32} {pf pc vr pw : Int64} {rl : Value} (hV : G va = some (eVW vo mo ac kr pl pf pc ae rl vr hw pw)) {i : Nat} (hi : ws[i]? = some va) : XMk l E y_KF_reference w_KF_reference rm_KF_reference [.ref x, .int (nI i)] G (fun r G' => r = some (.int (if vo = false then -1 else kr)) ∧ G = G') 0 0 := by
  refine XM_of [some (.ref x), some (.int (nI i)), none] (XZ_st E) (by decide) rfl rfl rfl (Nat.le_of_ble_eq_true rfl) (fun p e s m below meth c C hnm => ?_)
  refine x_aload_n C d_KF_reference_0 rfl rfl ?_
  refine x_iload_n C d_KF_reference_1 rfl rfl ?_
  refine x_callV1 C (q_KF_viewAt_in l E hG hW hi hV) (lk_KF_51 C.hts (Nat.le_of_ble_eq_true rfl) (Nat.le_of_ble_eq_true rfl)) hG rfl rfl d_KF_reference_2 (Nat.le_of_ble_eq_true rfl) (Nat.le_of_ble_eq_true rfl) (Nat.le_of_ble_eq_true rfl) (fun r G' h => ?_)
  obtain ⟨rfl, rfl⟩ := h
  refine x_astore_n C d_KF_reference_5 rfl (Nat.le_of_ble_eq_true rfl) rfl ?_
  refine x_aload_n C d_KF_reference_6 rfl rfl ?_
  refine x_ifnull C d_KF_reference_7 ?_
  refine x_aload_n C d_KF_reference_10 rfl rfl ?_
  refine x_get C hV rfl (in_VW _) 0 (by decide) (List.mem_cons_of_mem _ f_KF_55) rfl d_KF_reference_11 ?_
  refine x_if_ne C 21 d_KF_reference_14 (by decide) (fun c_14 => ?_) (fun c_14 => ?_)
  · refine x_aload_n C d_KF_reference_21 rfl rfl ?_
    refine x_get C hV rfl (in_VW _) 3 (by decide) (List.mem_cons_of_mem _ f_KF_105) rfl d_KF_reference_22 ?_
    exact x_iret C (Nat.le_of_ble_eq_true rfl) (Nat.le_of_ble_eq_true rfl) d_KF_reference_25 ⟨congrArg some (congrArg Value.int (by simp_all [bI_0])), rfl⟩
  · refine x_iconst C (v := -1) d_KF_reference_17 (by decide) ?_
    refine x_goto C 25 d_KF_reference_18 (by decide) ?_
    exact x_iret C (Nat.le_of_ble_eq_true rfl) (Nat.le_of_ble_eq_true rfl) d_KF_reference_25 ⟨congrArg some (congrArg Value.int (by simp_all [bI_0])), rfl⟩
set_option maxRecDepth 100000 in
set_option maxHeartbeats 4000000 in
theorem q_KF_reference_out (l : Launch) (E : xE) {G : xw_G} {x ix vw : Nat} {op : Bool} {na nw : Int64} (hG : G x = some (eKF ix vw op na nw)) {avw : Nat} {ws : List Nat} (hW : xAL E G vw avw ws) {j : Int32} (hj : j < 0 ∨ nI ws.length ≤ j) : XMk l E y_KF_reference w_KF_reference rm_KF_reference [.ref x, .int (j)] G (fun r G' => r = some (.int (-1)) ∧ G = G') 0 0 := by
  refine XM_of [some (.ref x), some (.int (j)), none] (XZ_st E) (by decide) rfl rfl rfl (Nat.le_of_ble_eq_true rfl) (fun p e s m below meth c C hnm => ?_)
  refine x_aload_n C d_KF_reference_0 rfl rfl ?_
  refine x_iload_n C d_KF_reference_1 rfl rfl ?_
  refine x_callV1 C (q_KF_viewAt_out l E hG hW hj) (lk_KF_51 C.hts (Nat.le_of_ble_eq_true rfl) (Nat.le_of_ble_eq_true rfl)) hG rfl rfl d_KF_reference_2 (Nat.le_of_ble_eq_true rfl) (Nat.le_of_ble_eq_true rfl) (Nat.le_of_ble_eq_true rfl) (fun r G' h => ?_)
  obtain ⟨rfl, rfl⟩ := h
  refine x_astore_nN C d_KF_reference_5 rfl (Nat.le_of_ble_eq_true rfl) rfl ?_
  refine x_aload_nN C d_KF_reference_6 rfl rfl ?_
  refine x_ifnullN C 17 d_KF_reference_7 (by decide) ?_
  refine x_iconst C (v := -1) d_KF_reference_17 (by decide) ?_
  refine x_goto C 25 d_KF_reference_18 (by decide) ?_
  exact x_iret C (Nat.le_of_ble_eq_true rfl) (Nat.le_of_ble_eq_true rfl) d_KF_reference_25 ⟨rfl, rfl⟩
set_option maxRecDepth 100000 in
set_option maxHeartbeats 4000000 in
theorem q_KF_close_out (l : Launch) (E : xE) {G : xw_G} {x ix vw : Nat} {op : Bool} {na nw : Int64} (hG : G x = some (eKF ix vw op na nw)) {avw : Nat} {ws : List Nat} (hW : xAL E G vw avw ws) {j : Int32} (hj : j < 0 ∨ nI ws.length ≤ j) : XMk l E y_KF_close w_KF_close rm_KF_close [.ref x, .int (j)] G (fun r G' => r = some (.int (-1)) ∧ G = G') 0 0 := by
  refine XM_of [some (.ref x), some (.int (j)), none] (XZ_st E) (by decide) rfl rfl rfl (Nat.le_of_ble_eq_true rfl) (fun p e s m below meth c C hnm => ?_)
  refine x_aload_n C d_KF_close_0 rfl rfl ?_
  refine x_iload_n C d_KF_close_1 rfl rfl ?_
  refine x_callV1 C (q_KF_viewAt_out l E hG hW hj) (lk_KF_51 C.hts (Nat.le_of_ble_eq_true rfl) (Nat.le_of_ble_eq_true rfl)) hG rfl rfl d_KF_close_2 (Nat.le_of_ble_eq_true rfl) (Nat.le_of_ble_eq_true rfl) (Nat.le_of_ble_eq_true rfl) (fun r G' h => ?_)
  obtain ⟨rfl, rfl⟩ := h
  refine x_astore_nN C d_KF_close_5 rfl (Nat.le_of_ble_eq_true rfl) rfl ?_
  refine x_aload_nN C d_KF_close_6 rfl rfl ?_
  refine x_ifnonnullN C d_KF_close_7 ?_
  refine x_iconst C (v := -1) d_KF_close_10 (by decide) ?_
  exact x_iret C (Nat.le_of_ble_eq_true rfl) (Nat.le_of_ble_eq_true rfl) d_KF_close_11 ⟨rfl, rfl⟩
set_option maxRecDepth 100000 in
set_option maxHeartbeats 4000000 in
theorem q_KF_close_shut (l : Launch) (E : xE) {G : xw_G} {x ix vw : Nat} {op : Bool} {na nw : Int64} (hG : G x = some (eKF ix vw op na nw)) {avw : Nat} {ws : List Nat} (hW : xAL E G vw avw ws) {va : Nat} {vo ae hw : Bool} {mo ac kr pl : Int32} {pf pc vr pw : Int64} {rl : Value} (hV : G va = some (eVW vo mo ac kr pl pf pc ae rl vr hw pw)) {i : Nat} (hi : ws[i]? = some va) (ho : vo = false) : XMk l E y_KF_close w_KF_close rm_KF_close [.ref x, .int (nI i)] G (fun r G' => r = some (.int 42) ∧ G = G') 0 0 := by
  refine XM_of [some (.ref x), some (.int (nI i)), none] (XZ_st E) (by decide) rfl rfl rfl (Nat.le_of_ble_eq_true rfl) (fun p e s m below meth c C hnm => ?_)
  refine x_aload_n C d_KF_close_0 rfl rfl ?_
  refine x_iload_n C d_KF_close_1 rfl rfl ?_
  refine x_callV1 C (q_KF_viewAt_in l E hG hW hi hV) (lk_KF_51 C.hts (Nat.le_of_ble_eq_true rfl) (Nat.le_of_ble_eq_true rfl)) hG rfl rfl d_KF_close_2 (Nat.le_of_ble_eq_true rfl) (Nat.le_of_ble_eq_true rfl) (Nat.le_of_ble_eq_true rfl) (fun r G' h => ?_)
  obtain ⟨rfl, rfl⟩ := h
  refine x_astore_n C d_KF_close_5 rfl (Nat.le_of_ble_eq_true rfl) rfl ?_
  refine x_aload_n C d_KF_close_6 rfl rfl ?_
  refine x_ifnonnull C 12 d_KF_close_7 (by decide) ?_
  refine x_aload_n C d_KF_close_12 rfl rfl ?_
  refine x_get C hV rfl (in_VW _) 0 (by decide) (List.mem_cons_of_mem _ f_KF_55) rfl d_KF_close_13 ?_
  refine x_if_ne C 22 d_KF_close_16 (by decide) (fun c_16 => ?_) (fun c_16 => ?_)
  · exact absurd ((bI_0 vo).mpr ho) c_16
  · refine x_bipush C (v := 42) d_KF_close_19 (by decide) ?_
    exact x_iret C (Nat.le_of_ble_eq_true rfl) (Nat.le_of_ble_eq_true rfl) d_KF_close_21 ⟨rfl, rfl⟩
set_option maxRecDepth 100000 in
set_option maxHeartbeats 4000000 in
theorem q_KF_close_open (l : Launch) (E : xE) {G : xw_G} {x ix vw : Nat} {op : Bool} {na nw : Int64} (hG : G x = some (eKF ix vw op na nw)) {avw : Nat} {ws : List Nat} (hW : xAL E G vw avw ws) {va : Nat} {vo ae hw : Bool} {mo ac kr pl : Int32} {pf pc vr pw : Int64} {rl : Value} (hV : G va = some (eVW vo mo ac kr pl pf pc ae rl vr hw pw)) {i : Nat} (hi : ws[i]? = some va) (ho : vo = true) : XMk l E y_KF_close w_KF_close rm_KF_close [.ref x, .int (nI i)] G (fun r G' => r = some (.int 0) ∧ G' = va_up G va (some (eVW (false) mo ac kr pl pf pc ae (.null) (0) hw pw))) 0 0 := by
  refine XM_of [some (.ref x), some (.int (nI i)), none] (XZ_st E) (by decide) rfl rfl rfl (Nat.le_of_ble_eq_true rfl) (fun p e s m below meth c C hnm => ?_)
  refine x_aload_n C d_KF_close_0 rfl rfl ?_
  refine x_iload_n C d_KF_close_1 rfl rfl ?_
  refine x_callV1 C (q_KF_viewAt_in l E hG hW hi hV) (lk_KF_51 C.hts (Nat.le_of_ble_eq_true rfl) (Nat.le_of_ble_eq_true rfl)) hG rfl rfl d_KF_close_2 (Nat.le_of_ble_eq_true rfl) (Nat.le_of_ble_eq_true rfl) (Nat.le_of_ble_eq_true rfl) (fun r G' h => ?_)
  obtain ⟨rfl, rfl⟩ := h
  refine x_astore_n C d_KF_close_5 rfl (Nat.le_of_ble_eq_true rfl) rfl ?_
  refine x_aload_n C d_KF_close_6 rfl rfl ?_
  refine x_ifnonnull C 12 d_KF_close_7 (by decide) ?_
  refine x_aload_n C d_KF_close_12 rfl rfl ?_
  refine x_get C hV rfl (in_VW _) 0 (by decide) (List.mem_cons_of_mem _ f_KF_55) rfl d_KF_close_13 ?_
  refine x_if_ne C 22 d_KF_close_16 (by decide) (fun c_16 => ?_) (fun c_16 => ?_)
  · refine x_aload_n C d_KF_close_22 rfl rfl ?_
    refine x_callV0 C (q_VW_forgetRead l E hV) (lk_KF_65 C.hts (Nat.le_of_ble_eq_true rfl) (Nat.le_of_ble_eq_true rfl)) hV rfl rfl d_KF_close_23 (Nat.le_of_ble_eq_true rfl) (Nat.le_of_ble_eq_true rfl) (Nat.le_of_ble_eq_true rfl) (fun r G' h => ?_)
    obtain ⟨rfl, rfl⟩ := h
    refine x_aload_n C d_KF_close_26 rfl rfl ?_
    refine x_iconst C (v := 0) d_KF_close_27 (by decide) ?_
    refine x_put2 C rfl (in_VW _) ty_VW tok_VW nm_VW 0 (by decide) (List.mem_cons_of_mem _ f_KF_55) rfl (tok_VW 0 (by decide)) rfl rfl (Nat.le_of_ble_eq_true rfl) d_KF_close_28 ?_
    refine x_iconst C (v := 0) d_KF_close_31 (by decide) ?_
    exact x_iret C (Nat.le_of_ble_eq_true rfl) (Nat.le_of_ble_eq_true rfl) d_KF_close_32 ⟨rfl, rfl⟩
  · exact absurd c_16 (by rw [ho]; decide)
set_option maxRecDepth 100000 in
set_option maxHeartbeats 4000000 in
theorem q_KF_handOver (l : Launch) (E : xE) {G : xw_G} {ki en : Nat} {db sp : Bool} {fr sz : Int32} {lo : Int64} (hK : G ki = some (eKI db fr sz en sp lo)) {ar : Nat} {xs : List Nat} (hA : xAL E G en ar xs) {fd cm : Nat → Int64} {so : Nat → Nat} (hX : xEs G xs fd cm so) {va : Nat} {vo ae hw : Bool} {mo ac kr pl : Int32} {pf pc vr pw : Int64} {rl : Value} (hV : G va = some (eVW vo mo ac kr pl pf pc ae rl vr hw pw)) {a0 s0 : Nat} {f d by1 sw : Int64} {th back : Bool} (hN : G a0 = some (eEN f d s0)) (hS : G s0 = some (eST by1 th sw)) {k : Nat} (hk : k ≤ xs.length) (hp : ∀ i : Nat, i < xs.length → (ahead (fd i) (cm i) f d = true ↔ i < k)) : XMk l E y_KF_handOver w_KF_handOver rm_KF_handOver [.ref va, .ref ki, .ref a0, .int (bI back)] G (fun r G' => r = some (.int (if eqNext xs.length fd k f back = true then 2 else 0)) ∧ G' = va_up G va (some (eVW vo mo ac kr (1) (f) (d) (false) (.ref s0) (by1) hw pw))) 0 0 := by
  refine XM_of [some (.ref va), some (.ref ki), some (.ref a0), some (.int (bI back))] (XZ_st E) (by decide) rfl rfl rfl (Nat.le_of_ble_eq_true rfl) (fun p e s m below meth c C hnm => ?_)
  refine x_aload_n C d_KF_handOver_0 rfl rfl ?_
  refine x_aload_n C d_KF_handOver_1 rfl rfl ?_
  refine x_callV1 C (q_VW_noteRead l E hV hN hS) (lk_KF_241 C.hts (Nat.le_of_ble_eq_true rfl) (Nat.le_of_ble_eq_true rfl)) hV rfl rfl d_KF_handOver_2 (Nat.le_of_ble_eq_true rfl) (Nat.le_of_ble_eq_true rfl) (Nat.le_of_ble_eq_true rfl) (fun r G' h => ?_)
  obtain ⟨rfl, rfl⟩ := h
  refine x_aload_n C d_KF_handOver_5 rfl rfl ?_
  refine x_aload_n C d_KF_handOver_6 rfl rfl ?_
  refine x_iload_n C d_KF_handOver_7 rfl rfl ?_
  refine x_callV2 C (q_KI_hasEqualNextTo l E (xw_keep hK (xw_neC hK hV (by decide))) (xAL_up hV (by decide) hA) (fun i a ha => xw_keep (hX i a ha) (xw_neC (hX i a ha) hV (by decide))) (xw_keep hN (xw_neC hN hV (by decide))) hk hp) (lk_KF_244 C.hts (Nat.le_of_ble_eq_true rfl) (Nat.le_of_ble_eq_true rfl)) (xw_keep hK (xw_neC hK hV (by decide))) rfl rfl d_KF_handOver_8 (Nat.le_of_ble_eq_true rfl) (Nat.le_of_ble_eq_true rfl) (Nat.le_of_ble_eq_true rfl) (fun r G' h => ?_)
  obtain ⟨rfl, rfl⟩ := h
  refine x_if_eq C 18 d_KF_handOver_11 (by decide) (fun c_11 => ?_) (fun c_11 => ?_)
  · refine x_iconst C (v := 0) d_KF_handOver_18 (by decide) ?_
    exact x_iret C (Nat.le_of_ble_eq_true rfl) (Nat.le_of_ble_eq_true rfl) d_KF_handOver_19 ⟨congrArg some (congrArg Value.int (by simp_all [bI_0])), rfl⟩
  · refine x_iconst C (v := 2) d_KF_handOver_14 (by decide) ?_
    refine x_goto C 19 d_KF_handOver_15 (by decide) ?_
    exact x_iret C (Nat.le_of_ble_eq_true rfl) (Nat.le_of_ble_eq_true rfl) d_KF_handOver_19 ⟨congrArg some (congrArg Value.int (by simp_all [bI_0])), rfl⟩
set_option maxRecDepth 100000 in
set_option maxHeartbeats 4000000 in
theorem q_KF_scan_nk (l : Launch) (E : xE) {G : xw_G} {x ix vw : Nat} {op : Bool} {na nw : Int64} (hG : G x = some (eKF ix vw op na nw)) {aix : Nat} {ks : List Nat} (hI : xAL E G ix aix ks) {j : Int32} (hkj : j < 0 ∨ nI ks.length ≤ j) {z : Int32} : XMk l E y_KF_scan w_KF_scan rm_KF_scan [.ref x, .int (j), .int (z)] G (fun r G' => r = some (.long 0) ∧ G = G') 0 0 := by
  refine XM_of [some (.ref x), some (.int (j)), some (.int (z)), none, none] (XZ_st E) (by decide) rfl rfl rfl (Nat.le_of_ble_eq_true rfl) (fun p e s m below meth c C hnm => ?_)
  refine x_aload_n C d_KF_scan_0 rfl rfl ?_
  refine x_iload_n C d_KF_scan_1 rfl rfl ?_
  refine x_callV1 C (q_KF_indexAt_out l E hG hI hkj) (lk_KF_36 C.hts (Nat.le_of_ble_eq_true rfl) (Nat.le_of_ble_eq_true rfl)) hG rfl rfl d_KF_scan_2 (Nat.le_of_ble_eq_true rfl) (Nat.le_of_ble_eq_true rfl) (Nat.le_of_ble_eq_true rfl) (fun r G' h => ?_)
  obtain ⟨rfl, rfl⟩ := h
  refine x_astore_nN C d_KF_scan_5 rfl (Nat.le_of_ble_eq_true rfl) rfl ?_
  refine x_aload_nN C d_KF_scan_6 rfl rfl ?_
  refine x_ifnonnullN C d_KF_scan_7 ?_
  refine x_null C d_KF_scan_10 ?_
  refine x_goto C 19 d_KF_scan_11 (by decide) ?_
  refine x_astoreN C d_KF_scan_19 (Nat.le_of_ble_eq_true rfl) rfl ?_
  refine x_aloadN C d_KF_scan_21 rfl ?_
  refine x_ifnonnullN C d_KF_scan_23 ?_
  refine x_lconst C (v := 0) d_KF_scan_26 (by decide) ?_
  refine x_goto C 38 d_KF_scan_27 (by decide) ?_
  exact x_lret C (Nat.le_of_ble_eq_true rfl) (Nat.le_of_ble_eq_true rfl) d_KF_scan_38 ⟨rfl, rfl⟩
set_option maxRecDepth 100000 in
set_option maxHeartbeats 4000000 in
theorem q_KF_scan_out (l : Launch) (E : xE) {G : xw_G} {x ix vw : Nat} {op : Bool} {na nw : Int64} (hG : G x = some (eKF ix vw op na nw)) {aix : Nat} {ks : List Nat} (hI : xAL E G ix aix ks) {ki en : Nat} {db sp : Bool} {fr sz : Int32} {lo : Int64} (hK : G ki = some (eKI db fr sz en sp lo)) {ar : Nat} {xs : List Nat} (hA : xAL E G en ar xs) {i : Nat} (hki : ks[i]? = some ki) {z : Int32} (hz : z < 0 ∨ nI xs.length ≤ z) : XMk l E y_KF_scan w_KF_scan rm_KF_scan [.ref x, .int (nI i), .int (z)] G (fun r G' => r = some (.long 0) ∧ G = G') 0 0 := by
  refine XM_of [some (.ref x), some (.int (nI i)), some (.int (z)), none, none] (XZ_st E) (by decide) rfl rfl rfl (Nat.le_of_ble_eq_true rfl) (fun p e s m below meth c C hnm => ?_)
  refine x_aload_n C d_KF_scan_0 rfl rfl ?_
  refine x_iload_n C d_KF_scan_1 rfl rfl ?_
  refine x_callV1 C (q_KF_indexAt_in l E hG hI hki hK) (lk_KF_36 C.hts (Nat.le_of_ble_eq_true rfl) (Nat.le_of_ble_eq_true rfl)) hG rfl rfl d_KF_scan_2 (Nat.le_of_ble_eq_true rfl) (Nat.le_of_ble_eq_true rfl) (Nat.le_of_ble_eq_true rfl) (fun r G' h => ?_)
  obtain ⟨rfl, rfl⟩ := h
  refine x_astore_n C d_KF_scan_5 rfl (Nat.le_of_ble_eq_true rfl) rfl ?_
  refine x_aload_n C d_KF_scan_6 rfl rfl ?_
  refine x_ifnonnull C 14 d_KF_scan_7 (by decide) ?_
  refine x_aload_n C d_KF_scan_14 rfl rfl ?_
  refine x_iload_n C d_KF_scan_15 rfl rfl ?_
  refine x_callV1 C (q_KI_entryAt_out l E hK hA hz) (lk_KF_167 C.hts (Nat.le_of_ble_eq_true rfl) (Nat.le_of_ble_eq_true rfl)) hK rfl rfl d_KF_scan_16 (Nat.le_of_ble_eq_true rfl) (Nat.le_of_ble_eq_true rfl) (Nat.le_of_ble_eq_true rfl) (fun r G' h => ?_)
  obtain ⟨rfl, rfl⟩ := h
  refine x_astoreN C d_KF_scan_19 (Nat.le_of_ble_eq_true rfl) rfl ?_
  refine x_aloadN C d_KF_scan_21 rfl ?_
  refine x_ifnonnullN C d_KF_scan_23 ?_
  refine x_lconst C (v := 0) d_KF_scan_26 (by decide) ?_
  refine x_goto C 38 d_KF_scan_27 (by decide) ?_
  exact x_lret C (Nat.le_of_ble_eq_true rfl) (Nat.le_of_ble_eq_true rfl) d_KF_scan_38 ⟨rfl, rfl⟩
set_option maxRecDepth 100000 in
set_option maxHeartbeats 4000000 in
theorem q_KF_scan_in (l : Launch) (E : xE) {G : xw_G} {x ix vw : Nat} {op : Bool} {na nw : Int64} (hG : G x = some (eKF ix vw op na nw)) {aix : Nat} {ks : List Nat} (hI : xAL E G ix aix ks) {ki en : Nat} {db sp : Bool} {fr sz : Int32} {lo : Int64} (hK : G ki = some (eKI db fr sz en sp lo)) {ar : Nat} {xs : List Nat} (hA : xAL E G en ar xs) {i : Nat} (hki : ks[i]? = some ki) {k a s0 : Nat} {f d by1 sw : Int64} {th : Bool} (hk : xs[k]? = some a) (hN : G a = some (eEN f d s0)) (hS : G s0 = some (eST by1 th sw)) : XMk l E y_KF_scan w_KF_scan rm_KF_scan [.ref x, .int (nI i), .int (nI k)] G (fun r G' => r = some (.long by1) ∧ G = G') 0 0 := by
  refine XM_of [some (.ref x), some (.int (nI i)), some (.int (nI k)), none, none] (XZ_st E) (by decide) rfl rfl rfl (Nat.le_of_ble_eq_true rfl) (fun p e s m below meth c C hnm => ?_)
  refine x_aload_n C d_KF_scan_0 rfl rfl ?_
  refine x_iload_n C d_KF_scan_1 rfl rfl ?_
  refine x_callV1 C (q_KF_indexAt_in l E hG hI hki hK) (lk_KF_36 C.hts (Nat.le_of_ble_eq_true rfl) (Nat.le_of_ble_eq_true rfl)) hG rfl rfl d_KF_scan_2 (Nat.le_of_ble_eq_true rfl) (Nat.le_of_ble_eq_true rfl) (Nat.le_of_ble_eq_true rfl) (fun r G' h => ?_)
  obtain ⟨rfl, rfl⟩ := h
  refine x_astore_n C d_KF_scan_5 rfl (Nat.le_of_ble_eq_true rfl) rfl ?_
  refine x_aload_n C d_KF_scan_6 rfl rfl ?_
  refine x_ifnonnull C 14 d_KF_scan_7 (by decide) ?_
  refine x_aload_n C d_KF_scan_14 rfl rfl ?_
  refine x_iload_n C d_KF_scan_15 rfl rfl ?_
  refine x_callV1 C (q_KI_entryAt_in l E hK hA hk hN) (lk_KF_167 C.hts (Nat.le_of_ble_eq_true rfl) (Nat.le_of_ble_eq_true rfl)) hK rfl rfl d_KF_scan_16 (Nat.le_of_ble_eq_true rfl) (Nat.le_of_ble_eq_true rfl) (Nat.le_of_ble_eq_true rfl) (fun r G' h => ?_)
  obtain ⟨rfl, rfl⟩ := h
  refine x_astore C d_KF_scan_19 (Nat.le_of_ble_eq_true rfl) rfl ?_
  refine x_aload C d_KF_scan_21 rfl ?_
  refine x_ifnonnull C 30 d_KF_scan_23 (by decide) ?_
  refine x_aload C d_KF_scan_30 rfl ?_
  refine x_get C hN rfl (in_EN _) 2 (by decide) (List.mem_cons_of_mem _ f_KF_171) rfl d_KF_scan_32 ?_
  refine x_get C hS rfl (in_ST _) 0 (by decide) (List.mem_cons_of_mem _ f_KF_156) rfl d_KF_scan_35 ?_
  exact x_lret C (Nat.le_of_ble_eq_true rfl) (Nat.le_of_ble_eq_true rfl) d_KF_scan_38 ⟨rfl, rfl⟩
end
section
/-! THE CLASS'S STATE, changed piece by piece -/
theorem xFr_obj {E : xE} {G G' : xw_G} {h ar a ci : Nat} {xs : List Nat} {fs : List Value} (hA : xAL E G h ar xs) (hF : xFr E G G' h ar) (ha : G a = some (.inr (ci, fs))) (hne : a ≠ h) : G' a = some (.inr (ci, fs)) := by
  obtain ⟨cap, md, f, h1, h2, -⟩ := hA
  exact hF a _ ha hne (fun q => absurd q (xw_neA ha h2))
theorem xEm_fr {E : xE} {G G' : xw_G} {h ar : Nat} {xs : List Nat} (hA : xAL E G h ar xs) (hF : xFr E G G' h ar) (h0 : xEm E G) : xEm E G' := by
  obtain ⟨cap, md, f, h1, h2, -⟩ := hA
  obtain ⟨g, hg⟩ := h0
  exact ⟨g, hF _ _ hg (xw_neA h1 hg).symm (fun q => rfl)⟩
/-- list i gets another array and another content; the others stay -/
theorem xLS_list {E : xE} {G G' : xw_G} {n i ar' : Nat} {lo la : Nat → Nat} {lc : Nat → List Nat} {xs' : List Nat} (h : xLS E G n lo la lc) (hi : i < n + 2) (hF : xFr E G G' (lo i) (la i)) (hA' : xAL E G' (lo i) ar' xs') (har : ar' = la i ∨ G ar' = none) : xLS E G' n lo (va_up la i ar') (va_up lc i xs') := by
  refine ⟨fun j hj => ?_, h.2.1, fun j k hj hk e => ?_⟩
  · by_cases hji : j = i
    · subst hji
      rw [va_up_self, va_up_self]
      exact hA'
    · rw [va_up_ne _ _ hji, va_up_ne _ _ hji]
      obtain ⟨cap, md, f, h1, h2, h3⟩ := h.1 j hj
      obtain ⟨cap2, md2, f2, g1, g2, -⟩ := h.1 i hi
      refine ⟨cap, md, f, hF _ _ h1 (fun q => hji (h.2.1 j i hj hi q)) (fun q => absurd q (xw_neA h1 g2)), hF _ _ h2 (xw_neA g1 h2).symm (fun q => ?_), h3⟩
      rcases h.2.2 j i hj hi q with e | e
      · exact absurd e hji
      · exact e
  · have fresh : ∀ m : Nat, m < n + 2 → G ar' = none → ar' ≠ la m := by
      intro m hm hq e
      obtain ⟨cap, md, f, h1, h2, h3⟩ := h.1 m hm
      rw [← e, hq] at h2
      cases h2
    by_cases hji : j = i
    · subst hji
      by_cases hki : k = j
      · exact Or.inl hki.symm
      · rw [va_up_self, va_up_ne _ _ hki] at e
        rcases har with rfl | hq
        · rcases h.2.2 j k hj hk e with q | q
          · exact Or.inl q
          · exact Or.inr (by rw [va_up_self]; exact q)
        · exact absurd e (fresh k hk hq)
    · rw [va_up_ne _ _ hji] at e ⊢
      by_cases hki : k = i
      · subst hki
        rw [va_up_self] at e
        rcases har with rfl | hq
        · exact h.2.2 j k hj hk e
        · exact absurd e.symm (fresh j hj hq)
      · rw [va_up_ne _ _ hki] at e
        exact h.2.2 j k hj hk e
theorem xEL_fr {E : xE} {G G' : xw_G} {h ar : Nat} {ys xs : List Nat} {es : List E3} (hA : xAL E G h ar ys) (hF : xFr E G G' h ar) (hx : xEL G xs es) : xEL G' xs es := by
  refine ⟨hx.1, fun j e hj => ?_⟩
  obtain ⟨b, h1, h2⟩ := hx.2 j e hj
  exact ⟨b, h1, xAL_keep hA hF h2 (by decide)⟩
abbrev CS.es (σ : CS) (m : Nat) (kd : KD) (es : List E3) : CS := ((sK σ).set m (kd, es), sV σ, sD σ, sO σ, sA σ, sW σ)
/-- key m gets other entries -/
theorem xCS_es {E : xE} {G G' : xw_G} {x m ar' : Nat} {σ : CS} {kd : KD} {es es' : List E3} {lo la : Nat → Nat} {lc : Nat → List Nat} {xs' : List Nat} (hG : G x = some (eKF (lo 0) (lo 1) (sO σ) (lN (sA σ)) (lN (sW σ)))) (hL : xLS E G (sK σ).length lo la lc)
    (hn : (lc 0).length = (sK σ).length ∧ (lc 0).Nodup ∧ (lc 1).length = (sV σ).length ∧ (lc 1).Nodup)
    (hk : ∀ (i : Nat) (q : KD × List E3), (sK σ)[i]? = some q → (∃ a : Nat, (lc 0)[i]? = some a ∧ G a = some (cKI q.1 (lo (i + 2)))) ∧ xEL G (lc (i + 2)) q.2)
    (hv : ∀ (i : Nat) (v : VD), (sV σ)[i]? = some v → ∃ a : Nat, (lc 1)[i]? = some a ∧ G a = some (cVW v))
    (hs : ∀ (r : Nat) (d : Int64 × Bool), sD σ r = some d → ∃ w : Nat, w ≤ sW σ ∧ G r = some (eST d.1 d.2 (lN w))) (he : xEm E G)
    (hm : (sK σ)[m]? = some (kd, es)) (hF : xFr E G G' (lo (m + 2)) (la (m + 2))) (hA' : xAL E G' (lo (m + 2)) ar' xs') (har : ar' = la (m + 2) ∨ G ar' = none) (hE' : xEL G' xs' es') : xCS E G' x (σ.es m kd es') := by
  have hml : m < (sK σ).length := (List.getElem?_eq_some_iff.mp hm).1
  have hA := hL.1 (m + 2) (by omega)
  have e0 : va_up lc (m + 2) xs' 0 = lc 0 := va_up_ne _ _ (by omega)
  have e1 : va_up lc (m + 2) xs' 1 = lc 1 := va_up_ne _ _ (by omega)
  refine ⟨lo, va_up la (m + 2) ar', va_up lc (m + 2) xs', xAL_keep hA hF hG (by decide), ?_, ?_, fun i q hq => ?_, fun i v hvi => ?_, fun r d hr => ?_, xEm_fr hA hF he⟩
  · show xLS E G' ((sK σ).set m (kd, es')).length lo _ _
    rw [List.length_set]
    exact xLS_list hL (by omega) hF hA' har
  · rw [e0, e1]
    refine ⟨?_, hn.2⟩
    show _ = ((sK σ).set m (kd, es')).length
    rw [List.length_set]
    exact hn.1
  · rw [e0]
    rcases set_at hq with ⟨rfl, rfl⟩ | ⟨hne, hq⟩
    · obtain ⟨⟨b, h1, h2⟩, h3⟩ := hk i _ hm
      exact ⟨⟨b, h1, xAL_keep hA hF h2 (by decide)⟩, by rw [va_up_self]; exact hE'⟩
    · obtain ⟨⟨b, h1, h2⟩, h3⟩ := hk i q hq
      exact ⟨⟨b, h1, xAL_keep hA hF h2 (by decide)⟩, by rw [va_up_ne _ _ (by omega)]; exact xEL_fr hA hF h3⟩
  · rw [e1]
    obtain ⟨b, h1, h2⟩ := hv i v hvi
    exact ⟨b, h1, xAL_keep hA hF h2 (by decide)⟩
  · obtain ⟨w, h1, h2⟩ := hs r d hr
    exact ⟨w, h1, xAL_keep hA hF h2 (by decide)⟩
/-- KeyedFiles' own numbers change -/
theorem xCS_kf {E : xE} {G : xw_G} {x : Nat} {σ : CS} {lo la : Nat → Nat} {lc : Nat → List Nat} (o : Bool) (a w : Nat) (hG : G x = some (eKF (lo 0) (lo 1) (sO σ) (lN (sA σ)) (lN (sW σ)))) (hL : xLS E G (sK σ).length lo la lc)
    (hn : (lc 0).length = (sK σ).length ∧ (lc 0).Nodup ∧ (lc 1).length = (sV σ).length ∧ (lc 1).Nodup)
    (hk : ∀ (i : Nat) (q : KD × List E3), (sK σ)[i]? = some q → (∃ a : Nat, (lc 0)[i]? = some a ∧ G a = some (cKI q.1 (lo (i + 2)))) ∧ xEL G (lc (i + 2)) q.2)
    (hv : ∀ (i : Nat) (v : VD), (sV σ)[i]? = some v → ∃ a : Nat, (lc 1)[i]? = some a ∧ G a = some (cVW v))
    (hs : ∀ (r : Nat) (d : Int64 × Bool), sD σ r = some d → ∃ w : Nat, w ≤ sW σ ∧ G r = some (eST d.1 d.2 (lN w))) (he : xEm E G) (hw : sW σ ≤ w) :
    xCS E (va_up G x (some (eKF (lo 0) (lo 1) o (lN a) (lN w)))) x (sK σ, sV σ, sD σ, o, a, w) := by
  refine ⟨lo, la, lc, va_up_self _ _ _, xLS_up hG (by decide) hL, hn, fun j q hj => ?_, fun j u hj => ?_, fun r d hr => ?_, xEm_up hG he⟩
  · obtain ⟨⟨b, h1, h2⟩, h3⟩ := hk j q hj
    exact ⟨⟨b, h1, xw_keep h2 (xw_neC h2 hG (by decide))⟩, xEL_up hG (by decide) h3⟩
  · obtain ⟨b, h1, h2⟩ := hv j u hj
    exact ⟨b, h1, xw_keep h2 (xw_neC h2 hG (by decide))⟩
  · obtain ⟨w0, h1, h2⟩ := hs r d hr
    exact ⟨w0, by show w0 ≤ w; omega, xw_keep h2 (xw_neC h2 hG (by decide))⟩
/-- key m gets other words (sparse) -/
theorem xCS_kd {E : xE} {G : xw_G} {x m a : Nat} {σ : CS} {kd kd' : KD} {es : List E3} {lo la : Nat → Nat} {lc : Nat → List Nat} (hG : G x = some (eKF (lo 0) (lo 1) (sO σ) (lN (sA σ)) (lN (sW σ)))) (hL : xLS E G (sK σ).length lo la lc)
    (hn : (lc 0).length = (sK σ).length ∧ (lc 0).Nodup ∧ (lc 1).length = (sV σ).length ∧ (lc 1).Nodup)
    (hk : ∀ (i : Nat) (q : KD × List E3), (sK σ)[i]? = some q → (∃ a : Nat, (lc 0)[i]? = some a ∧ G a = some (cKI q.1 (lo (i + 2)))) ∧ xEL G (lc (i + 2)) q.2)
    (hv : ∀ (i : Nat) (v : VD), (sV σ)[i]? = some v → ∃ a : Nat, (lc 1)[i]? = some a ∧ G a = some (cVW v))
    (hs : ∀ (r : Nat) (d : Int64 × Bool), sD σ r = some d → ∃ w : Nat, w ≤ sW σ ∧ G r = some (eST d.1 d.2 (lN w))) (he : xEm E G)
    (hm : (sK σ)[m]? = some (kd, es)) (ha : (lc 0)[m]? = some a) (hGa : G a = some (cKI kd (lo (m + 2)))) : xCS E (va_up G a (some (cKI kd' (lo (m + 2))))) x (σ.es m kd' es) := by
  refine ⟨lo, la, lc, xw_keep hG (xw_neC hG hGa (by decide)), ?_, ⟨by show _ = ((sK σ).set m (kd', es)).length; rw [List.length_set]; exact hn.1, hn.2⟩, fun j q hj => ?_, fun j u hj => ?_, fun r d hr => ?_, xEm_up hGa he⟩
  · show xLS E _ ((sK σ).set m (kd', es)).length lo _ _
    rw [List.length_set]
    exact xLS_up hGa (by decide) hL
  · rcases set_at hj with ⟨rfl, rfl⟩ | ⟨hji, hj⟩
    · exact ⟨⟨a, ha, va_up_self _ _ _⟩, xEL_up hGa (by decide) (hk j _ hm).2⟩
    · obtain ⟨⟨b, h1, h2⟩, h3⟩ := hk j q hj
      exact ⟨⟨b, h1, xw_keep h2 (fun z => hji (nodup_at hn.2.1 h1 (by rw [z]; exact ha)))⟩, xEL_up hGa (by decide) h3⟩
  · obtain ⟨b, h1, h2⟩ := hv j u hj
    exact ⟨b, h1, xw_keep h2 (xw_neC h2 hGa (by decide))⟩
  · obtain ⟨w, h1, h2⟩ := hs r d hr
    exact ⟨w, h1, xw_keep h2 (xw_neC h2 hGa (by decide))⟩
/-- a record's cell changes -/
theorem xCS_st {E : xE} {G : xw_G} {x r0 w0 : Nat} {σ : CS} {d0 d1 : Int64 × Bool} {sw : Int64} {lo la : Nat → Nat} {lc : Nat → List Nat} (hG : G x = some (eKF (lo 0) (lo 1) (sO σ) (lN (sA σ)) (lN (sW σ)))) (hL : xLS E G (sK σ).length lo la lc)
    (hn : (lc 0).length = (sK σ).length ∧ (lc 0).Nodup ∧ (lc 1).length = (sV σ).length ∧ (lc 1).Nodup)
    (hk : ∀ (i : Nat) (q : KD × List E3), (sK σ)[i]? = some q → (∃ a : Nat, (lc 0)[i]? = some a ∧ G a = some (cKI q.1 (lo (i + 2)))) ∧ xEL G (lc (i + 2)) q.2)
    (hv : ∀ (i : Nat) (v : VD), (sV σ)[i]? = some v → ∃ a : Nat, (lc 1)[i]? = some a ∧ G a = some (cVW v))
    (hs : ∀ (r : Nat) (d : Int64 × Bool), sD σ r = some d → ∃ w : Nat, w ≤ sW σ ∧ G r = some (eST d.1 d.2 (lN w))) (he : xEm E G)
    (hGa : G r0 = some (eST d0.1 d0.2 sw)) (hw : w0 ≤ sW σ) : xCS E (va_up G r0 (some (eST d1.1 d1.2 (lN w0)))) x (sK σ, sV σ, va_up (sD σ) r0 (some d1), sO σ, sA σ, sW σ) := by
  refine ⟨lo, la, lc, xw_keep hG (xw_neC hG hGa (by decide)), xLS_up hGa (by decide) hL, hn, fun j q hj => ?_, fun j u hj => ?_, fun r d hr => ?_, xEm_up hGa he⟩
  · obtain ⟨⟨b, h1, h2⟩, h3⟩ := hk j q hj
    exact ⟨⟨b, h1, xw_keep h2 (xw_neC h2 hGa (by decide))⟩, xEL_up hGa (by decide) h3⟩
  · obtain ⟨b, h1, h2⟩ := hv j u hj
    exact ⟨b, h1, xw_keep h2 (xw_neC h2 hGa (by decide))⟩
  · by_cases hrr : r = r0
    · subst hrr
      have hr : va_up (sD σ) r (some d1) r = some d := hr
      rw [va_up_self] at hr
      cases hr
      exact ⟨w0, hw, va_up_self _ _ _⟩
    · have hr : va_up (sD σ) r0 (some d1) r = some d := hr
      rw [va_up_ne _ _ hrr] at hr
      obtain ⟨w, h1, h2⟩ := hs r d hr
      exact ⟨w, h1, xw_keep h2 hrr⟩
/-- a new record's cell -/
theorem xCS_stN {E : xE} {G : xw_G} {x r0 : Nat} {σ : CS} {d1 : Int64 × Bool} (h : xCS E G x σ) (hq : G r0 = none) : xCS E (va_up G r0 (some (eST d1.1 d1.2 0))) x (sK σ, sV σ, va_up (sD σ) r0 (some d1), sO σ, sA σ, sW σ) := by
  obtain ⟨lo, la, lc, hG, hL, hn, hk, hv, hs, he⟩ := h
  have kp : ∀ {a : Nat} {e : va_E}, G a = some e → va_up G r0 (some (eST d1.1 d1.2 0)) a = some e := fun h => xw_keep h (xw_neF hq h)
  refine ⟨lo, la, lc, kp hG, ⟨fun i hi => xAL_fresh hq (hL.1 i hi), hL.2⟩, hn, fun j q hj => ?_, fun j u hj => ?_, fun r d hr => ?_, xEm_fresh hq he⟩
  · obtain ⟨⟨b, h1, h2⟩, h3, h4⟩ := hk j q hj
    refine ⟨⟨b, h1, kp h2⟩, h3, fun i e hi => ?_⟩
    obtain ⟨b2, g1, g2⟩ := h4 i e hi
    exact ⟨b2, g1, kp g2⟩
  · obtain ⟨b, h1, h2⟩ := hv j u hj
    exact ⟨b, h1, kp h2⟩
  · by_cases hrr : r = r0
    · subst hrr
      have hr : va_up (sD σ) r (some d1) r = some d := hr
      rw [va_up_self] at hr
      cases hr
      exact ⟨0, Nat.zero_le _, va_up_self _ _ _⟩
    · have hr : va_up (sD σ) r0 (some d1) r = some d := hr
      rw [va_up_ne _ _ hrr] at hr
      obtain ⟨w, h1, h2⟩ := hs r d hr
      exact ⟨w, h1, kp h2⟩
end
section
/-! ORDER of entries, and counts over sorted lists -/
theorem i64_tr {a b c : Int64} (h1 : a < b) (h2 : b < c) : a < c := Int64.lt_trans h1 h2
theorem ahead_iff {f1 c1 f2 c2 : Int64} : ahead f1 c1 f2 c2 = true ↔ uN f1 < uN f2 ∨ (f1 = f2 ∧ c1 < c2) := by
  unfold ahead
  by_cases h : f1 = f2
  · rw [if_pos h]
    subst h
    simp
  · rw [if_neg h]
    simp [h]
theorem ahead_tr {f1 c1 f2 c2 f3 c3 : Int64} (h1 : ahead f1 c1 f2 c2 = true) (h2 : ahead f2 c2 f3 c3 = true) : ahead f1 c1 f3 c3 = true := by
  rw [ahead_iff] at h1 h2 ⊢
  rcases h1 with h1 | ⟨h1, g1⟩ <;> rcases h2 with h2 | ⟨h2, g2⟩
  · exact Or.inl (by omega)
  · exact Or.inl (by rw [← h2]; exact h1)
  · exact Or.inl (by rw [h1]; exact h2)
  · exact Or.inr ⟨h1.trans h2, i64_tr g1 g2⟩
theorem ahead_irr {f c : Int64} : ¬ ahead f c f c = true := by
  rw [ahead_iff]
  rintro (h | ⟨-, h⟩)
  · omega
  · exact Int64.lt_irrefl h
theorem ahead_f {f1 c1 f2 c2 : Int64} (h : ahead f1 c1 f2 c2 = true) : uN f1 ≤ uN f2 := by
  rcases ahead_iff.mp h with h | ⟨h, -⟩
  · omega
  · rw [h]; exact Nat.le_refl _
def srt (es : List E3) : Prop := es.Pairwise (fun a b => ahead a.1 a.2.1 b.1 b.2.1 = true)
theorem pw_cnt {α : Type} {R : α → α → Prop} {p : α → Bool} (hp : ∀ a b : α, R a b → p b = true → p a = true) : ∀ {l : List α}, l.Pairwise R → ∀ (i : Nat) (e : α), l[i]? = some e → (p e = true ↔ i < l.countP p)
  | [], _, i, e, h => by simp at h
  | a :: l, hl, i, e, h => by
    rw [List.pairwise_cons] at hl
    have ih := pw_cnt hp hl.2
    cases i with
    | zero =>
      rw [List.getElem?_cons_zero] at h
      cases h
      constructor
      · intro ha
        rw [List.countP_cons_of_pos ha]
        omega
      · intro hc
        cases ha : p a with
        | true => rfl
        | false =>
          have h0 : l.countP p = 0 := by
            rw [List.countP_eq_zero]
            intro b hb hpb
            have := hp a b (hl.1 b hb) hpb
            rw [ha] at this
            cases this
          rw [List.countP_cons_of_neg (by rw [ha]; decide), h0] at hc
          exact absurd hc (Nat.lt_irrefl 0)
    | succ i =>
      rw [List.getElem?_cons_succ] at h
      have h1 := ih i e h
      cases ha : p a with
      | true =>
        rw [List.countP_cons_of_pos ha, h1]
        omega
      | false =>
        have hpe : ¬ p e = true := fun q => by
          have := hp a e (hl.1 e (List.mem_of_getElem? h)) q
          rw [ha] at this
          cases this
        have h0 : l.countP p = 0 := by
          rw [List.countP_eq_zero]
          intro b hb hpb
          have := hp a b (hl.1 b hb) hpb
          rw [ha] at this
          cases this
        rw [List.countP_cons_of_neg (by rw [ha]; decide), h0]
        exact ⟨fun q => absurd q hpe, fun q => absurd q (by omega)⟩
def cnt (es : List E3) (f d : Int64) : Nat := es.countP (fun e => ahead e.1 e.2.1 f d)
def cntP (es : List E3) (sz b : Int32) (eq : Bool) (prt : Int64) : Nat := es.countP (fun e => byPart sz b eq e.1 prt)
theorem cnt_le {es : List E3} {f d : Int64} : cnt es f d ≤ es.length := List.countP_le_length
theorem cntP_le {es : List E3} {sz b : Int32} {eq : Bool} {prt : Int64} : cntP es sz b eq prt ≤ es.length := List.countP_le_length
theorem cnt_at {es : List E3} (h : srt es) (f d : Int64) (i : Nat) (e : E3) (hi : es[i]? = some e) : ahead e.1 e.2.1 f d = true ↔ i < cnt es f d := pw_cnt (fun a b hab hb => ahead_tr hab hb) h i e hi
theorem prt_mono {sz b : Int32} {f1 f2 : Int64} (h : uN f1 ≤ uN f2) : uN (prtI sz b f1) ≤ uN (prtI sz b f2) := by
  unfold prtI
  rw [uN_shr, uN_shr]
  exact Nat.div_le_div_right h
theorem byPart_iff {sz b : Int32} {eq : Bool} {f prt : Int64} : byPart sz b eq f prt = true ↔ uN (prtI sz b f) < uN prt ∨ (eq = true ∧ prtI sz b f = prt) := by
  unfold byPart
  simp
theorem cntP_at {es : List E3} (h : srt es) (sz b : Int32) (eq : Bool) (prt : Int64) (i : Nat) (e : E3) (hi : es[i]? = some e) : byPart sz b eq e.1 prt = true ↔ i < cntP es sz b eq prt := by
  refine pw_cnt (R := fun (a b : E3) => ahead a.1 a.2.1 b.1 b.2.1 = true) (p := fun e => byPart sz b eq e.1 prt) (fun a c hac hc => ?_) h i e hi
  have h1 := prt_mono (sz := sz) (b := b) (ahead_f hac)
  rw [byPart_iff] at hc ⊢
  rcases hc with hc | ⟨he, hc⟩
  · exact Or.inl (by omega)
  · rw [hc] at h1
    rcases Nat.lt_or_ge (uN (prtI sz b a.1)) (uN prt) with q | q
    · exact Or.inl q
    · exact Or.inr ⟨he, uN_inj (by omega)⟩
-- entries by number
def eF (es : List E3) (i : Nat) : Int64 := (es.getD i (0, 0, 0)).1
def eC (es : List E3) (i : Nat) : Int64 := (es.getD i (0, 0, 0)).2.1
def eS (es : List E3) (i : Nat) : Nat := (es.getD i (0, 0, 0)).2.2
theorem e_at {es : List E3} {i : Nat} {e : E3} (h : es[i]? = some e) : (eF es i, eC es i, eS es i) = e := by
  unfold eF eC eS
  rw [List.getD_eq_getElem?_getD, h]
  rfl
theorem eF_at {es : List E3} {i : Nat} {e : E3} (h : es[i]? = some e) : eF es i = e.1 := by rw [← e_at h]
theorem eC_at {es : List E3} {i : Nat} {e : E3} (h : es[i]? = some e) : eC es i = e.2.1 := by rw [← e_at h]
theorem eS_at {es : List E3} {i : Nat} {e : E3} (h : es[i]? = some e) : eS es i = e.2.2 := by rw [← e_at h]
theorem e_lt {α : Type} {l : List α} {i : Nat} (h : i < l.length) : ∃ a, l[i]? = some a := ⟨l[i], by simp [h]⟩
theorem xEL_xEs {G : xw_G} {xs : List Nat} {es : List E3} (h : xEL G xs es) : xEs G xs (eF es) (eC es) (eS es) := by
  intro i a ha
  have hi : i < es.length := by
    rw [← h.1]
    exact (List.getElem?_eq_some_iff.mp ha).1
  obtain ⟨e, he⟩ := e_lt hi
  obtain ⟨b, h1, h2⟩ := h.2 i e he
  rw [ha] at h1
  cases h1
  rw [eF_at he, eC_at he, eS_at he]
  exact h2
theorem xEL_cnt {G : xw_G} {xs : List Nat} {es : List E3} (h : xEL G xs es) (hs : srt es) (f d : Int64) : ∀ i : Nat, i < xs.length → (ahead (eF es i) (eC es i) f d = true ↔ i < cnt es f d) := by
  intro i hi
  rw [h.1] at hi
  obtain ⟨e, he⟩ := e_lt hi
  rw [eF_at he, eC_at he]
  exact cnt_at hs f d i e he
theorem xEL_cntP {G : xw_G} {xs : List Nat} {es : List E3} (h : xEL G xs es) (hs : srt es) (sz b : Int32) (eq : Bool) (prt : Int64) : ∀ i : Nat, i < xs.length → (byPart sz b eq (eF es i) prt = true ↔ i < cntP es sz b eq prt) := by
  intro i hi
  rw [h.1] at hi
  obtain ⟨e, he⟩ := e_lt hi
  rw [eF_at he]
  exact cntP_at hs sz b eq prt i e he
theorem xEL_le {G : xw_G} {xs : List Nat} {es : List E3} (h : xEL G xs es) (f d : Int64) : cnt es f d ≤ xs.length := by rw [h.1]; exact cnt_le
theorem xEL_leP {G : xw_G} {xs : List Nat} {es : List E3} (h : xEL G xs es) (sz b : Int32) (eq : Bool) (prt : Int64) : cntP es sz b eq prt ≤ xs.length := by rw [h.1]; exact cntP_le
/-- what is at a number of Java's in a list -/
def atI {α : Type} (l : List α) (j : Int32) : Option α := if j < 0 then none else l[j.toNatClampNeg]?
theorem atI_in {α : Type} {l : List α} {i : Nat} (hl : l.length < 2 ^ 31) (hi : i < l.length) : atI l (nI i) = l[i]? := by
  unfold atI
  rw [if_neg (nI_pos (by omega)), nI_clamp (by omega)]
theorem atI_out {α : Type} {l : List α} {j : Int32} (hl : l.length < 2 ^ 31) (h : j < 0 ∨ nI l.length ≤ j) : atI l j = none := by
  unfold atI
  rcases h with h | h
  · rw [if_pos h]
  · by_cases h0 : j < 0
    · rw [if_pos h0]
    · rw [if_neg h0]
      obtain ⟨k, hk, rfl⟩ := nI_of h0
      rw [nI_clamp hk]
      have := (nI_leI hl hk).mp h
      simp [this]
theorem atI_cases {α : Type} (l : List α) (j : Int32) (hl : l.length < 2 ^ 31) : (atI l j = none ∧ (j < 0 ∨ nI l.length ≤ j)) ∨ ∃ (i : Nat) (a : α), j = nI i ∧ l[i]? = some a ∧ atI l j = some a ∧ i < l.length := by
  rcases pk_ix j hl with h | h | ⟨i, hi, rfl⟩
  · exact Or.inl ⟨atI_out hl (Or.inl h), Or.inl h⟩
  · exact Or.inl ⟨atI_out hl (Or.inr h), Or.inr h⟩
  · obtain ⟨a, ha⟩ := e_lt hi
    exact Or.inr ⟨i, a, rfl, ha, by rw [atI_in hl hi]; exact ha, hi⟩
theorem xAL_len {E : xE} {G : xw_G} {h ar : Nat} {xs : List Nat} (hA : xAL E G h ar xs) : xs.length ≤ 366 := by
  obtain ⟨cap, md, f, h1, h2, h3, h4, -⟩ := hA
  have := capOK_le h4
  omega
end
section
theorem xEs_up {G : xw_G} {a ci : Nat} {xs : List Nat} {fd cm : Nat → Int64} {so : Nat → Nat} {fs : List Value} {e : va_E} (ha : G a = some (.inr (ci, fs))) (hc : ci ≠ 1) (h : xEs G xs fd cm so) : xEs (va_up G a (some e)) xs fd cm so := fun i b hb => xw_keep (h i b hb) (xw_neC (h i b hb) ha (fun q => hc q.symm))
set_option maxRecDepth 100000 in
set_option maxHeartbeats 4000000 in
theorem q_KF_read_nv_k (l : Launch) (E : xE) {G : xw_G} {x ix vw : Nat} {op : Bool} {na nw : Int64} (hG : G x = some (eKF ix vw op na nw)) {aix : Nat} {ks : List Nat} (hI : xAL E G ix aix ks) {avw : Nat} {ws : List Nat} (hW : xAL E G vw avw ws) {j : Int32} (hj : j < 0 ∨ nI ws.length ≤ j) {ki en : Nat} {db sp : Bool} {fr sz : Int32} {lo : Int64} (hK : G ki = some (eKI db fr sz en sp lo)) {i2 : Nat} (hki : ks[i2]? = some ki) {z : Int64} : XMk l E y_KF_read w_KF_read rm_KF_read [.ref x, .int (j), .int (nI i2), .long (z)] G (fun r G' => r = some (.int (-1)) ∧ G = G') 0 0 := by
  refine XM_of [some (.ref x), some (.int (j)), some (.int (nI i2)), some (.long (z)), none, none, none, none, none] (XZ_st E) (by decide) rfl rfl rfl (Nat.le_of_ble_eq_true rfl) (fun p e s m below meth c C hnm => ?_)
  refine x_aload_n C d_KF_read_0 rfl rfl ?_
  refine x_iload_n C d_KF_read_1 rfl rfl ?_
  refine x_callV1 C (q_KF_viewAt_out l E hG hW hj) (lk_KF_51 C.hts (Nat.le_of_ble_eq_true rfl) (Nat.le_of_ble_eq_true rfl)) hG rfl rfl d_KF_read_2 (Nat.le_of_ble_eq_true rfl) (Nat.le_of_ble_eq_true rfl) (Nat.le_of_ble_eq_true rfl) (fun r G' h => ?_)
  obtain ⟨rfl, rfl⟩ := h
  refine x_astoreN C d_KF_read_5 (Nat.le_of_ble_eq_true rfl) rfl ?_
  refine x_aload_n C d_KF_read_7 rfl rfl ?_
  refine x_iload_n C d_KF_read_8 rfl rfl ?_
  refine x_callV1 C (q_KF_indexAt_in l E hG hI hki hK) (lk_KF_36 C.hts (Nat.le_of_ble_eq_true rfl) (Nat.le_of_ble_eq_true rfl)) hG rfl rfl d_KF_read_9 (Nat.le_of_ble_eq_true rfl) (Nat.le_of_ble_eq_true rfl) (Nat.le_of_ble_eq_true rfl) (fun r G' h => ?_)
  obtain ⟨rfl, rfl⟩ := h
  refine x_astore C d_KF_read_12 (Nat.le_of_ble_eq_true rfl) rfl ?_
  refine x_aloadN C d_KF_read_14 rfl ?_
  refine x_ifnullN C 24 d_KF_read_16 (by decide) ?_
  refine x_iconst C (v := -1) d_KF_read_24 (by decide) ?_
  exact x_iret C (Nat.le_of_ble_eq_true rfl) (Nat.le_of_ble_eq_true rfl) d_KF_read_25 ⟨rfl, rfl⟩
set_option maxRecDepth 100000 in
set_option maxHeartbeats 4000000 in
theorem q_KF_start_nv_k (l : Launch) (E : xE) {G : xw_G} {x ix vw : Nat} {op : Bool} {na nw : Int64} (hG : G x = some (eKF ix vw op na nw)) {aix : Nat} {ks : List Nat} (hI : xAL E G ix aix ks) {avw : Nat} {ws : List Nat} (hW : xAL E G vw avw ws) {j : Int32} (hj : j < 0 ∨ nI ws.length ≤ j) {ki en : Nat} {db sp : Bool} {fr sz : Int32} {lo : Int64} (hK : G ki = some (eKI db fr sz en sp lo)) {i2 : Nat} (hki : ks[i2]? = some ki) {z : Int64} {op2 b : Int32} : XMk l E y_KF_start w_KF_start rm_KF_start [.ref x, .int (j), .int (nI i2), .int (op2), .long (z), .int (b)] G (fun r G' => r = some (.int (-1)) ∧ G = G') 0 0 := by
  refine XM_of [some (.ref x), some (.int (j)), some (.int (nI i2)), some (.int (op2)), some (.long (z)), none, some (.int (b)), none, none, none, none] (XZ_st E) (by decide) rfl rfl rfl (Nat.le_of_ble_eq_true rfl) (fun p e s m below meth c C hnm => ?_)
  refine x_aload_n C d_KF_start_0 rfl rfl ?_
  refine x_iload_n C d_KF_start_1 rfl rfl ?_
  refine x_callV1 C (q_KF_viewAt_out l E hG hW hj) (lk_KF_51 C.hts (Nat.le_of_ble_eq_true rfl) (Nat.le_of_ble_eq_true rfl)) hG rfl rfl d_KF_start_2 (Nat.le_of_ble_eq_true rfl) (Nat.le_of_ble_eq_true rfl) (Nat.le_of_ble_eq_true rfl) (fun r G' h => ?_)
  obtain ⟨rfl, rfl⟩ := h
  refine x_astoreN C d_KF_start_5 (Nat.le_of_ble_eq_true rfl) rfl ?_
  refine x_aload_n C d_KF_start_7 rfl rfl ?_
  refine x_iload_n C d_KF_start_8 rfl rfl ?_
  refine x_callV1 C (q_KF_indexAt_in l E hG hI hki hK) (lk_KF_36 C.hts (Nat.le_of_ble_eq_true rfl) (Nat.le_of_ble_eq_true rfl)) hG rfl rfl d_KF_start_9 (Nat.le_of_ble_eq_true rfl) (Nat.le_of_ble_eq_true rfl) (Nat.le_of_ble_eq_true rfl) (fun r G' h => ?_)
  obtain ⟨rfl, rfl⟩ := h
  refine x_astore C d_KF_start_12 (Nat.le_of_ble_eq_true rfl) rfl ?_
  refine x_aloadN C d_KF_start_14 rfl ?_
  refine x_ifnullN C 33 d_KF_start_16 (by decide) ?_
  refine x_iconst C (v := -1) d_KF_start_33 (by decide) ?_
  exact x_iret C (Nat.le_of_ble_eq_true rfl) (Nat.le_of_ble_eq_true rfl) d_KF_start_34 ⟨rfl, rfl⟩
set_option maxRecDepth 100000 in
set_option maxHeartbeats 4000000 in
theorem q_KF_read_nv_nk (l : Launch) (E : xE) {G : xw_G} {x ix vw : Nat} {op : Bool} {na nw : Int64} (hG : G x = some (eKF ix vw op na nw)) {aix : Nat} {ks : List Nat} (hI : xAL E G ix aix ks) {avw : Nat} {ws : List Nat} (hW : xAL E G vw avw ws) {j : Int32} (hj : j < 0 ∨ nI ws.length ≤ j) {j2 : Int32} (hkj : j2 < 0 ∨ nI ks.length ≤ j2) {z : Int64} : XMk l E y_KF_read w_KF_read rm_KF_read [.ref x, .int (j), .int (j2), .long (z)] G (fun r G' => r = some (.int (-1)) ∧ G = G') 0 0 := by
  refine XM_of [some (.ref x), some (.int (j)), some (.int (j2)), some (.long (z)), none, none, none, none, none] (XZ_st E) (by decide) rfl rfl rfl (Nat.le_of_ble_eq_true rfl) (fun p e s m below meth c C hnm => ?_)
  refine x_aload_n C d_KF_read_0 rfl rfl ?_
  refine x_iload_n C d_KF_read_1 rfl rfl ?_
  refine x_callV1 C (q_KF_viewAt_out l E hG hW hj) (lk_KF_51 C.hts (Nat.le_of_ble_eq_true rfl) (Nat.le_of_ble_eq_true rfl)) hG rfl rfl d_KF_read_2 (Nat.le_of_ble_eq_true rfl) (Nat.le_of_ble_eq_true rfl) (Nat.le_of_ble_eq_true rfl) (fun r G' h => ?_)
  obtain ⟨rfl, rfl⟩ := h
  refine x_astoreN C d_KF_read_5 (Nat.le_of_ble_eq_true rfl) rfl ?_
  refine x_aload_n C d_KF_read_7 rfl rfl ?_
  refine x_iload_n C d_KF_read_8 rfl rfl ?_
  refine x_callV1 C (q_KF_indexAt_out l E hG hI hkj) (lk_KF_36 C.hts (Nat.le_of_ble_eq_true rfl) (Nat.le_of_ble_eq_true rfl)) hG rfl rfl d_KF_read_9 (Nat.le_of_ble_eq_true rfl) (Nat.le_of_ble_eq_true rfl) (Nat.le_of_ble_eq_true rfl) (fun r G' h => ?_)
  obtain ⟨rfl, rfl⟩ := h
  refine x_astoreN C d_KF_read_12 (Nat.le_of_ble_eq_true rfl) rfl ?_
  refine x_aloadN C d_KF_read_14 rfl ?_
  refine x_ifnullN C 24 d_KF_read_16 (by decide) ?_
  refine x_iconst C (v := -1) d_KF_read_24 (by decide) ?_
  exact x_iret C (Nat.le_of_ble_eq_true rfl) (Nat.le_of_ble_eq_true rfl) d_KF_read_25 ⟨rfl, rfl⟩
set_option maxRecDepth 100000 in
set_option maxHeartbeats 4000000 in
theorem q_KF_start_nv_nk (l : Launch) (E : xE) {G : xw_G} {x ix vw : Nat} {op : Bool} {na nw : Int64} (hG : G x = some (eKF ix vw op na nw)) {aix : Nat} {ks : List Nat} (hI : xAL E G ix aix ks) {avw : Nat} {ws : List Nat} (hW : xAL E G vw avw ws) {j : Int32} (hj : j < 0 ∨ nI ws.length ≤ j) {j2 : Int32} (hkj : j2 < 0 ∨ nI ks.length ≤ j2) {z : Int64} {op2 b : Int32} : XMk l E y_KF_start w_KF_start rm_KF_start [.ref x, .int (j), .int (j2), .int (op2), .long (z), .int (b)] G (fun r G' => r = some (.int (-1)) ∧ G = G') 0 0 := by
  refine XM_of [some (.ref x), some (.int (j)), some (.int (j2)), some (.int (op2)), some (.long (z)), none, some (.int (b)), none, none, none, none] (XZ_st E) (by decide) rfl rfl rfl (Nat.le_of_ble_eq_true rfl) (fun p e s m below meth c C hnm => ?_)
  refine x_aload_n C d_KF_start_0 rfl rfl ?_
  refine x_iload_n C d_KF_start_1 rfl rfl ?_
  refine x_callV1 C (q_KF_viewAt_out l E hG hW hj) (lk_KF_51 C.hts (Nat.le_of_ble_eq_true rfl) (Nat.le_of_ble_eq_true rfl)) hG rfl rfl d_KF_start_2 (Nat.le_of_ble_eq_true rfl) (Nat.le_of_ble_eq_true rfl) (Nat.le_of_ble_eq_true rfl) (fun r G' h => ?_)
  obtain ⟨rfl, rfl⟩ := h
  refine x_astoreN C d_KF_start_5 (Nat.le_of_ble_eq_true rfl) rfl ?_
  refine x_aload_n C d_KF_start_7 rfl rfl ?_
  refine x_iload_n C d_KF_start_8 rfl rfl ?_
  refine x_callV1 C (q_KF_indexAt_out l E hG hI hkj) (lk_KF_36 C.hts (Nat.le_of_ble_eq_true rfl) (Nat.le_of_ble_eq_true rfl)) hG rfl rfl d_KF_start_9 (Nat.le_of_ble_eq_true rfl) (Nat.le_of_ble_eq_true rfl) (Nat.le_of_ble_eq_true rfl) (fun r G' h => ?_)
  obtain ⟨rfl, rfl⟩ := h
  refine x_astoreN C d_KF_start_12 (Nat.le_of_ble_eq_true rfl) rfl ?_
  refine x_aloadN C d_KF_start_14 rfl ?_
  refine x_ifnullN C 33 d_KF_start_16 (by decide) ?_
  refine x_iconst C (v := -1) d_KF_start_33 (by decide) ?_
  exact x_iret C (Nat.le_of_ble_eq_true rfl) (Nat.le_of_ble_eq_true rfl) d_KF_start_34 ⟨rfl, rfl⟩
set_option maxRecDepth 100000 in
set_option maxHeartbeats 4000000 in
theorem q_KF_read_v_nk (l : Launch) (E : xE) {G : xw_G} {x ix vw : Nat} {op : Bool} {na nw : Int64} (hG : G x = some (eKF ix vw op na nw)) {aix : Nat} {ks : List Nat} (hI : xAL E G ix aix ks) {avw : Nat} {ws : List Nat} (hW : xAL E G vw avw ws) {va : Nat} {vo ae hw : Bool} {mo ac kr pl : Int32} {pf pc vr pw : Int64} {rl : Value} (hV : G va = some (eVW vo mo ac kr pl pf pc ae rl vr hw pw)) {i : Nat} (hi : ws[i]? = some va) {j2 : Int32} (hkj : j2 < 0 ∨ nI ks.length ≤ j2) {z : Int64} : XMk l E y_KF_read w_KF_read rm_KF_read [.ref x, .int (nI i), .int (j2), .long (z)] G (fun r G' => r = some (.int (-1)) ∧ G = G') 0 0 := by
  refine XM_of [some (.ref x), some (.int (nI i)), some (.int (j2)), some (.long (z)), none, none, none, none, none] (XZ_st E) (by decide) rfl rfl rfl (Nat.le_of_ble_eq_true rfl) (fun p e s m below meth c C hnm => ?_)
  refine x_aload_n C d_KF_read_0 rfl rfl ?_
  refine x_iload_n C d_KF_read_1 rfl rfl ?_
  refine x_callV1 C (q_KF_viewAt_in l E hG hW hi hV) (lk_KF_51 C.hts (Nat.le_of_ble_eq_true rfl) (Nat.le_of_ble_eq_true rfl)) hG rfl rfl d_KF_read_2 (Nat.le_of_ble_eq_true rfl) (Nat.le_of_ble_eq_true rfl) (Nat.le_of_ble_eq_true rfl) (fun r G' h => ?_)
  obtain ⟨rfl, rfl⟩ := h
  refine x_astore C d_KF_read_5 (Nat.le_of_ble_eq_true rfl) rfl ?_
  refine x_aload_n C d_KF_read_7 rfl rfl ?_
  refine x_iload_n C d_KF_read_8 rfl rfl ?_
  refine x_callV1 C (q_KF_indexAt_out l E hG hI hkj) (lk_KF_36 C.hts (Nat.le_of_ble_eq_true rfl) (Nat.le_of_ble_eq_true rfl)) hG rfl rfl d_KF_read_9 (Nat.le_of_ble_eq_true rfl) (Nat.le_of_ble_eq_true rfl) (Nat.le_of_ble_eq_true rfl) (fun r G' h => ?_)
  obtain ⟨rfl, rfl⟩ := h
  refine x_astoreN C d_KF_read_12 (Nat.le_of_ble_eq_true rfl) rfl ?_
  refine x_aload C d_KF_read_14 rfl ?_
  refine x_ifnull C d_KF_read_16 ?_
  refine x_aloadN C d_KF_read_19 rfl ?_
  refine x_ifnonnullN C d_KF_read_21 ?_
  refine x_iconst C (v := -1) d_KF_read_24 (by decide) ?_
  exact x_iret C (Nat.le_of_ble_eq_true rfl) (Nat.le_of_ble_eq_true rfl) d_KF_read_25 ⟨rfl, rfl⟩
set_option maxRecDepth 100000 in
set_option maxHeartbeats 4000000 in
theorem q_KF_start_v_nk (l : Launch) (E : xE) {G : xw_G} {x ix vw : Nat} {op : Bool} {na nw : Int64} (hG : G x = some (eKF ix vw op na nw)) {aix : Nat} {ks : List Nat} (hI : xAL E G ix aix ks) {avw : Nat} {ws : List Nat} (hW : xAL E G vw avw ws) {va : Nat} {vo ae hw : Bool} {mo ac kr pl : Int32} {pf pc vr pw : Int64} {rl : Value} (hV : G va = some (eVW vo mo ac kr pl pf pc ae rl vr hw pw)) {i : Nat} (hi : ws[i]? = some va) {j2 : Int32} (hkj : j2 < 0 ∨ nI ks.length ≤ j2) {z : Int64} {op2 b : Int32} : XMk l E y_KF_start w_KF_start rm_KF_start [.ref x, .int (nI i), .int (j2), .int (op2), .long (z), .int (b)] G (fun r G' => r = some (.int (-1)) ∧ G = G') 0 0 := by
  refine XM_of [some (.ref x), some (.int (nI i)), some (.int (j2)), some (.int (op2)), some (.long (z)), none, some (.int (b)), none, none, none, none] (XZ_st E) (by decide) rfl rfl rfl (Nat.le_of_ble_eq_true rfl) (fun p e s m below meth c C hnm => ?_)
  refine x_aload_n C d_KF_start_0 rfl rfl ?_
  refine x_iload_n C d_KF_start_1 rfl rfl ?_
  refine x_callV1 C (q_KF_viewAt_in l E hG hW hi hV) (lk_KF_51 C.hts (Nat.le_of_ble_eq_true rfl) (Nat.le_of_ble_eq_true rfl)) hG rfl rfl d_KF_start_2 (Nat.le_of_ble_eq_true rfl) (Nat.le_of_ble_eq_true rfl) (Nat.le_of_ble_eq_true rfl) (fun r G' h => ?_)
  obtain ⟨rfl, rfl⟩ := h
  refine x_astore C d_KF_start_5 (Nat.le_of_ble_eq_true rfl) rfl ?_
  refine x_aload_n C d_KF_start_7 rfl rfl ?_
  refine x_iload_n C d_KF_start_8 rfl rfl ?_
  refine x_callV1 C (q_KF_indexAt_out l E hG hI hkj) (lk_KF_36 C.hts (Nat.le_of_ble_eq_true rfl) (Nat.le_of_ble_eq_true rfl)) hG rfl rfl d_KF_start_9 (Nat.le_of_ble_eq_true rfl) (Nat.le_of_ble_eq_true rfl) (Nat.le_of_ble_eq_true rfl) (fun r G' h => ?_)
  obtain ⟨rfl, rfl⟩ := h
  refine x_astoreN C d_KF_start_12 (Nat.le_of_ble_eq_true rfl) rfl ?_
  refine x_aload C d_KF_start_14 rfl ?_
  refine x_ifnull C d_KF_start_16 ?_
  refine x_aloadN C d_KF_start_19 rfl ?_
  refine x_ifnullN C 33 d_KF_start_21 (by decide) ?_
  refine x_iconst C (v := -1) d_KF_start_33 (by decide) ?_
  exact x_iret C (Nat.le_of_ble_eq_true rfl) (Nat.le_of_ble_eq_true rfl) d_KF_start_34 ⟨rfl, rfl⟩
set_option maxRecDepth 100000 in
set_option maxHeartbeats 4000000 in
theorem q_KF_read_ref (l : Launch) (E : xE) {G : xw_G} {x ix vw : Nat} {op : Bool} {na nw : Int64} (hG : G x = some (eKF ix vw op na nw)) {aix : Nat} {ks : List Nat} (hI : xAL E G ix aix ks) {avw : Nat} {ws : List Nat} (hW : xAL E G vw avw ws) {va : Nat} {vo ae hw : Bool} {mo ac kr pl : Int32} {pf pc vr pw : Int64} {rl : Value} (hV : G va = some (eVW vo mo ac kr pl pf pc ae rl vr hw pw)) {i : Nat} (hi : ws[i]? = some va) {ki en : Nat} {db sp : Bool} {fr sz : Int32} {lo : Int64} (hK : G ki = some (eKI db fr sz en sp lo)) {i2 : Nat} (hki : ks[i2]? = some ki) {z : Int64} (hr : ¬ refRead vo mo ac 0 = 0) : XMk l E y_KF_read w_KF_read rm_KF_read [.ref x, .int (nI i), .int (nI i2), .long (z)] G (fun r G' => r = some (.int (refRead vo mo ac 0)) ∧ G = G') 0 0 := by
  refine XM_of [some (.ref x), some (.int (nI i)), some (.int (nI i2)), some (.long (z)), none, none, none, none, none] (XZ_st E) (by decide) rfl rfl rfl (Nat.le_of_ble_eq_true rfl) (fun p e s m below meth c C hnm => ?_)
  refine x_aload_n C d_KF_read_0 rfl rfl ?_
  refine x_iload_n C d_KF_read_1 rfl rfl ?_
  refine x_callV1 C (q_KF_viewAt_in l E hG hW hi hV) (lk_KF_51 C.hts (Nat.le_of_ble_eq_true rfl) (Nat.le_of_ble_eq_true rfl)) hG rfl rfl d_KF_read_2 (Nat.le_of_ble_eq_true rfl) (Nat.le_of_ble_eq_true rfl) (Nat.le_of_ble_eq_true rfl) (fun r G' h => ?_)
  obtain ⟨rfl, rfl⟩ := h
  refine x_astore C d_KF_read_5 (Nat.le_of_ble_eq_true rfl) rfl ?_
  refine x_aload_n C d_KF_read_7 rfl rfl ?_
  refine x_iload_n C d_KF_read_8 rfl rfl ?_
  refine x_callV1 C (q_KF_indexAt_in l E hG hI hki hK) (lk_KF_36 C.hts (Nat.le_of_ble_eq_true rfl) (Nat.le_of_ble_eq_true rfl)) hG rfl rfl d_KF_read_9 (Nat.le_of_ble_eq_true rfl) (Nat.le_of_ble_eq_true rfl) (Nat.le_of_ble_eq_true rfl) (fun r G' h => ?_)
  obtain ⟨rfl, rfl⟩ := h
  refine x_astore C d_KF_read_12 (Nat.le_of_ble_eq_true rfl) rfl ?_
  refine x_aload C d_KF_read_14 rfl ?_
  refine x_ifnull C d_KF_read_16 ?_
  refine x_aload C d_KF_read_19 rfl ?_
  refine x_ifnonnull C 26 d_KF_read_21 (by decide) ?_
  refine x_aload C d_KF_read_26 rfl ?_
  refine x_iconst C (v := 0) d_KF_read_28 (by decide) ?_
  refine x_callV1 C (q_VW_refusalToRead l E hV) (lk_KF_102 C.hts (Nat.le_of_ble_eq_true rfl) (Nat.le_of_ble_eq_true rfl)) hV rfl rfl d_KF_read_29 (Nat.le_of_ble_eq_true rfl) (Nat.le_of_ble_eq_true rfl) (Nat.le_of_ble_eq_true rfl) (fun r G' h => ?_)
  obtain ⟨rfl, rfl⟩ := h
  refine x_istore C d_KF_read_32 (Nat.le_of_ble_eq_true rfl) rfl ?_
  refine x_iload C d_KF_read_34 rfl ?_
  refine x_if_eq C 42 d_KF_read_36 (by decide) (fun c_36 => ?_) (fun c_36 => ?_)
  · exact absurd c_36 hr
  · refine x_iload C d_KF_read_39 rfl ?_
    exact x_iret C (Nat.le_of_ble_eq_true rfl) (Nat.le_of_ble_eq_true rfl) d_KF_read_41 ⟨rfl, rfl⟩
set_option maxRecDepth 100000 in
set_option maxHeartbeats 4000000 in
theorem q_KF_read_23 (l : Launch) (E : xE) {G : xw_G} {x ix vw : Nat} {op : Bool} {na nw : Int64} (hG : G x = some (eKF ix vw op na nw)) {aix : Nat} {ks : List Nat} (hI : xAL E G ix aix ks) {avw : Nat} {ws : List Nat} (hW : xAL E G vw avw ws) {va : Nat} {vo ae hw : Bool} {mo ac kr pl : Int32} {pf pc vr pw : Int64} {rl : Value} (hV : G va = some (eVW vo mo ac kr pl pf pc ae rl vr hw pw)) {i : Nat} (hi : ws[i]? = some va) {ki en : Nat} {db sp : Bool} {fr sz : Int32} {lo : Int64} (hK : G ki = some (eKI db fr sz en sp lo)) {i2 : Nat} (hki : ks[i2]? = some ki) {ar : Nat} {xs : List Nat} (hA : xAL E G en ar xs) {fd cm : Nat → Int64} {so : Nat → Nat} (hX : xEs G xs fd cm so) {z : Int64} {k : Nat} (hk : k ≤ xs.length) (hp : ∀ i : Nat, i < xs.length → (ahead (fd i) (cm i) z 0 = true ↔ i < k)) (hr : refRead vo mo ac 0 = 0) (ho : oEq xs.length fd k z = none) : XMk l E y_KF_read w_KF_read rm_KF_read [.ref x, .int (nI i), .int (nI i2), .long (z)] G (fun r G' => r = some (.int 23) ∧ G' = va_up G va (some (eVW vo mo ac (nI i2) (3) pf pc ae (.null) (0) hw pw))) 0 0 := by
  refine XM_of [some (.ref x), some (.int (nI i)), some (.int (nI i2)), some (.long (z)), none, none, none, none, none] (XZ_st E) (by decide) rfl rfl rfl (Nat.le_of_ble_eq_true rfl) (fun p e s m below meth c C hnm => ?_)
  refine x_aload_n C d_KF_read_0 rfl rfl ?_
  refine x_iload_n C d_KF_read_1 rfl rfl ?_
  refine x_callV1 C (q_KF_viewAt_in l E hG hW hi hV) (lk_KF_51 C.hts (Nat.le_of_ble_eq_true rfl) (Nat.le_of_ble_eq_true rfl)) hG rfl rfl d_KF_read_2 (Nat.le_of_ble_eq_true rfl) (Nat.le_of_ble_eq_true rfl) (Nat.le_of_ble_eq_true rfl) (fun r G' h => ?_)
  obtain ⟨rfl, rfl⟩ := h
  refine x_astore C d_KF_read_5 (Nat.le_of_ble_eq_true rfl) rfl ?_
  refine x_aload_n C d_KF_read_7 rfl rfl ?_
  refine x_iload_n C d_KF_read_8 rfl rfl ?_
  refine x_callV1 C (q_KF_indexAt_in l E hG hI hki hK) (lk_KF_36 C.hts (Nat.le_of_ble_eq_true rfl) (Nat.le_of_ble_eq_true rfl)) hG rfl rfl d_KF_read_9 (Nat.le_of_ble_eq_true rfl) (Nat.le_of_ble_eq_true rfl) (Nat.le_of_ble_eq_true rfl) (fun r G' h => ?_)
  obtain ⟨rfl, rfl⟩ := h
  refine x_astore C d_KF_read_12 (Nat.le_of_ble_eq_true rfl) rfl ?_
  refine x_aload C d_KF_read_14 rfl ?_
  refine x_ifnull C d_KF_read_16 ?_
  refine x_aload C d_KF_read_19 rfl ?_
  refine x_ifnonnull C 26 d_KF_read_21 (by decide) ?_
  refine x_aload C d_KF_read_26 rfl ?_
  refine x_iconst C (v := 0) d_KF_read_28 (by decide) ?_
  refine x_callV1 C (q_VW_refusalToRead l E hV) (lk_KF_102 C.hts (Nat.le_of_ble_eq_true rfl) (Nat.le_of_ble_eq_true rfl)) hV rfl rfl d_KF_read_29 (Nat.le_of_ble_eq_true rfl) (Nat.le_of_ble_eq_true rfl) (Nat.le_of_ble_eq_true rfl) (fun r G' h => ?_)
  obtain ⟨rfl, rfl⟩ := h
  refine x_istore C d_KF_read_32 (Nat.le_of_ble_eq_true rfl) rfl ?_
  refine x_iload C d_KF_read_34 rfl ?_
  refine x_if_eq C 42 d_KF_read_36 (by decide) (fun c_36 => ?_) (fun c_36 => ?_)
  · refine x_aload C d_KF_read_42 rfl ?_
    refine x_callV0 C (q_VW_forgetRead l E hV) (lk_KF_65 C.hts (Nat.le_of_ble_eq_true rfl) (Nat.le_of_ble_eq_true rfl)) hV rfl rfl d_KF_read_44 (Nat.le_of_ble_eq_true rfl) (Nat.le_of_ble_eq_true rfl) (Nat.le_of_ble_eq_true rfl) (fun r G' h => ?_)
    obtain ⟨rfl, rfl⟩ := h
    refine x_aload C d_KF_read_47 rfl ?_
    refine x_iload_n C d_KF_read_49 rfl rfl ?_
    refine x_put2 C rfl (in_VW _) ty_VW tok_VW nm_VW 3 (by decide) (List.mem_cons_of_mem _ f_KF_105) rfl (tok_VW 3 (by decide)) rfl rfl (Nat.le_of_ble_eq_true rfl) d_KF_read_50 ?_
    refine x_aload C d_KF_read_53 rfl ?_
    refine x_lload_n C d_KF_read_55 rfl rfl ?_
    refine x_callV1 C (q_KI_firstEqual l E (xw_keep hK (xw_neC hK hV (by decide))) (xAL_up hV (by decide) hA) (xEs_up hV (by decide) hX) hk hp) (lk_KF_108 C.hts (Nat.le_of_ble_eq_true rfl) (Nat.le_of_ble_eq_true rfl)) (xw_keep hK (xw_neC hK hV (by decide))) rfl rfl d_KF_read_56 (Nat.le_of_ble_eq_true rfl) (Nat.le_of_ble_eq_true rfl) (Nat.le_of_ble_eq_true rfl) (fun r G' h => ?_)
    obtain ⟨rfl, rfl⟩ := h
    rw [ho, xr_none]
    refine x_astoreN C d_KF_read_59 (Nat.le_of_ble_eq_true rfl) rfl ?_
    refine x_aloadN C d_KF_read_61 rfl ?_
    refine x_ifnonnullN C d_KF_read_63 ?_
    refine x_aload C d_KF_read_66 rfl ?_
    refine x_callV0 C (q_VW_lose l E (va_up_self _ _ _)) (lk_KF_112 C.hts (Nat.le_of_ble_eq_true rfl) (Nat.le_of_ble_eq_true rfl)) (va_up_self _ _ _) rfl rfl d_KF_read_68 (Nat.le_of_ble_eq_true rfl) (Nat.le_of_ble_eq_true rfl) (Nat.le_of_ble_eq_true rfl) (fun r G' h => ?_)
    obtain ⟨rfl, rfl⟩ := h
    rw [bx_uu]
    refine x_bipush C (v := 23) d_KF_read_71 (by decide) ?_
    exact x_iret C (Nat.le_of_ble_eq_true rfl) (Nat.le_of_ble_eq_true rfl) d_KF_read_73 ⟨rfl, rfl⟩
  · exact absurd hr c_36
set_option maxRecDepth 100000 in
set_option maxHeartbeats 4000000 in
theorem q_KF_read_got (l : Launch) (E : xE) {G : xw_G} {x ix vw : Nat} {op : Bool} {na nw : Int64} (hG : G x = some (eKF ix vw op na nw)) {aix : Nat} {ks : List Nat} (hI : xAL E G ix aix ks) {avw : Nat} {ws : List Nat} (hW : xAL E G vw avw ws) {va : Nat} {vo ae hw : Bool} {mo ac kr pl : Int32} {pf pc vr pw : Int64} {rl : Value} (hV : G va = some (eVW vo mo ac kr pl pf pc ae rl vr hw pw)) {i : Nat} (hi : ws[i]? = some va) {ki en : Nat} {db sp : Bool} {fr sz : Int32} {lo : Int64} (hK : G ki = some (eKI db fr sz en sp lo)) {i2 : Nat} (hki : ks[i2]? = some ki) {ar : Nat} {xs : List Nat} (hA : xAL E G en ar xs) {fd cm : Nat → Int64} {so : Nat → Nat} (hX : xEs G xs fd cm so) {z : Int64} {k : Nat} (hk : k ≤ xs.length) (hp : ∀ i : Nat, i < xs.length → (ahead (fd i) (cm i) z 0 = true ↔ i < k)) (hr : refRead vo mo ac 0 = 0) (ho : oEq xs.length fd k z = some k) {a0 : Nat} {by1 sw : Int64} {th : Bool} (ha : xs[k]? = some a0) (hS : G (so k) = some (eST by1 th sw)) {k2 : Nat} (hk2 : k2 ≤ xs.length) (hp2 : ∀ i : Nat, i < xs.length → (ahead (fd i) (cm i) (fd k) (cm k) = true ↔ i < k2)) : XMk l E y_KF_read w_KF_read rm_KF_read [.ref x, .int (nI i), .int (nI i2), .long (z)] G (fun r G' => r = some (.int (if eqNext xs.length fd k2 (fd k) false = true then 2 else 0)) ∧ G' = va_up G va (some (eVW vo mo ac (nI i2) (1) (fd k) (cm k) (false) (.ref (so k)) (by1) hw pw))) 0 0 := by
  refine XM_of [some (.ref x), some (.int (nI i)), some (.int (nI i2)), some (.long (z)), none, none, none, none, none] (XZ_st E) (by decide) rfl rfl rfl (Nat.le_of_ble_eq_true rfl) (fun p e s m below meth c C hnm => ?_)
  refine x_aload_n C d_KF_read_0 rfl rfl ?_
  refine x_iload_n C d_KF_read_1 rfl rfl ?_
  refine x_callV1 C (q_KF_viewAt_in l E hG hW hi hV) (lk_KF_51 C.hts (Nat.le_of_ble_eq_true rfl) (Nat.le_of_ble_eq_true rfl)) hG rfl rfl d_KF_read_2 (Nat.le_of_ble_eq_true rfl) (Nat.le_of_ble_eq_true rfl) (Nat.le_of_ble_eq_true rfl) (fun r G' h => ?_)
  obtain ⟨rfl, rfl⟩ := h
  refine x_astore C d_KF_read_5 (Nat.le_of_ble_eq_true rfl) rfl ?_
  refine x_aload_n C d_KF_read_7 rfl rfl ?_
  refine x_iload_n C d_KF_read_8 rfl rfl ?_
  refine x_callV1 C (q_KF_indexAt_in l E hG hI hki hK) (lk_KF_36 C.hts (Nat.le_of_ble_eq_true rfl) (Nat.le_of_ble_eq_true rfl)) hG rfl rfl d_KF_read_9 (Nat.le_of_ble_eq_true rfl) (Nat.le_of_ble_eq_true rfl) (Nat.le_of_ble_eq_true rfl) (fun r G' h => ?_)
  obtain ⟨rfl, rfl⟩ := h
  refine x_astore C d_KF_read_12 (Nat.le_of_ble_eq_true rfl) rfl ?_
  refine x_aload C d_KF_read_14 rfl ?_
  refine x_ifnull C d_KF_read_16 ?_
  refine x_aload C d_KF_read_19 rfl ?_
  refine x_ifnonnull C 26 d_KF_read_21 (by decide) ?_
  refine x_aload C d_KF_read_26 rfl ?_
  refine x_iconst C (v := 0) d_KF_read_28 (by decide) ?_
  refine x_callV1 C (q_VW_refusalToRead l E hV) (lk_KF_102 C.hts (Nat.le_of_ble_eq_true rfl) (Nat.le_of_ble_eq_true rfl)) hV rfl rfl d_KF_read_29 (Nat.le_of_ble_eq_true rfl) (Nat.le_of_ble_eq_true rfl) (Nat.le_of_ble_eq_true rfl) (fun r G' h => ?_)
  obtain ⟨rfl, rfl⟩ := h
  refine x_istore C d_KF_read_32 (Nat.le_of_ble_eq_true rfl) rfl ?_
  refine x_iload C d_KF_read_34 rfl ?_
  refine x_if_eq C 42 d_KF_read_36 (by decide) (fun c_36 => ?_) (fun c_36 => ?_)
  · refine x_aload C d_KF_read_42 rfl ?_
    refine x_callV0 C (q_VW_forgetRead l E hV) (lk_KF_65 C.hts (Nat.le_of_ble_eq_true rfl) (Nat.le_of_ble_eq_true rfl)) hV rfl rfl d_KF_read_44 (Nat.le_of_ble_eq_true rfl) (Nat.le_of_ble_eq_true rfl) (Nat.le_of_ble_eq_true rfl) (fun r G' h => ?_)
    obtain ⟨rfl, rfl⟩ := h
    refine x_aload C d_KF_read_47 rfl ?_
    refine x_iload_n C d_KF_read_49 rfl rfl ?_
    refine x_put2 C rfl (in_VW _) ty_VW tok_VW nm_VW 3 (by decide) (List.mem_cons_of_mem _ f_KF_105) rfl (tok_VW 3 (by decide)) rfl rfl (Nat.le_of_ble_eq_true rfl) d_KF_read_50 ?_
    refine x_aload C d_KF_read_53 rfl ?_
    refine x_lload_n C d_KF_read_55 rfl rfl ?_
    refine x_callV1 C (q_KI_firstEqual l E (xw_keep hK (xw_neC hK hV (by decide))) (xAL_up hV (by decide) hA) (xEs_up hV (by decide) hX) hk hp) (lk_KF_108 C.hts (Nat.le_of_ble_eq_true rfl) (Nat.le_of_ble_eq_true rfl)) (xw_keep hK (xw_neC hK hV (by decide))) rfl rfl d_KF_read_56 (Nat.le_of_ble_eq_true rfl) (Nat.le_of_ble_eq_true rfl) (Nat.le_of_ble_eq_true rfl) (fun r G' h => ?_)
    obtain ⟨rfl, rfl⟩ := h
    rw [ho, xr_some ha]
    refine x_astore C d_KF_read_59 (Nat.le_of_ble_eq_true rfl) rfl ?_
    refine x_aload C d_KF_read_61 rfl ?_
    refine x_ifnonnull C 74 d_KF_read_63 (by decide) ?_
    refine x_aload C d_KF_read_74 rfl ?_
    refine x_aload C d_KF_read_76 rfl ?_
    refine x_aload C d_KF_read_78 rfl ?_
    refine x_iconst C (v := 0) d_KF_read_80 (by decide) ?_
    refine x_callS4 C (q_KF_handOver l E (xw_keep hK (xw_neC hK hV (by decide))) (xAL_up hV (by decide) hA) (xEs_up hV (by decide) hX) (va_up_self _ _ _) (back := false) (xw_keep (hX _ _ ha) (xw_neC (hX _ _ ha) hV (by decide))) (xw_keep hS (xw_neC hS hV (by decide))) hk2 hp2) (lk_KF_115 C.hts (Nat.le_of_ble_eq_true rfl) (Nat.le_of_ble_eq_true rfl)) rfl d_KF_read_81 (Nat.le_of_ble_eq_true rfl) (Nat.le_of_ble_eq_true rfl) (Nat.le_of_ble_eq_true rfl) (fun r G' h => ?_)
    obtain ⟨rfl, rfl⟩ := h
    rw [bx_uu]
    exact x_iret C (Nat.le_of_ble_eq_true rfl) (Nat.le_of_ble_eq_true rfl) d_KF_read_84 ⟨rfl, rfl⟩
  · exact absurd hr c_36
set_option maxRecDepth 100000 in
set_option maxHeartbeats 4000000 in
theorem q_KF_start_op (l : Launch) (E : xE) {G : xw_G} {x ix vw : Nat} {op : Bool} {na nw : Int64} (hG : G x = some (eKF ix vw op na nw)) {aix : Nat} {ks : List Nat} (hI : xAL E G ix aix ks) {avw : Nat} {ws : List Nat} (hW : xAL E G vw avw ws) {va : Nat} {vo ae hw : Bool} {mo ac kr pl : Int32} {pf pc vr pw : Int64} {rl : Value} (hV : G va = some (eVW vo mo ac kr pl pf pc ae rl vr hw pw)) {i : Nat} (hi : ws[i]? = some va) {ki en : Nat} {db sp : Bool} {fr sz : Int32} {lo : Int64} (hK : G ki = some (eKI db fr sz en sp lo)) {i2 : Nat} (hki : ks[i2]? = some ki) {z : Int64} {op2 b : Int32} (hop : op2 < 0 ∨ 4 < op2) : XMk l E y_KF_start w_KF_start rm_KF_start [.ref x, .int (nI i), .int (nI i2), .int (op2), .long (z), .int (b)] G (fun r G' => r = some (.int (-1)) ∧ G = G') 0 0 := by
  refine XM_of [some (.ref x), some (.int (nI i)), some (.int (nI i2)), some (.int (op2)), some (.long (z)), none, some (.int (b)), none, none, none, none] (XZ_st E) (by decide) rfl rfl rfl (Nat.le_of_ble_eq_true rfl) (fun p e s m below meth c C hnm => ?_)
  refine x_aload_n C d_KF_start_0 rfl rfl ?_
  refine x_iload_n C d_KF_start_1 rfl rfl ?_
  refine x_callV1 C (q_KF_viewAt_in l E hG hW hi hV) (lk_KF_51 C.hts (Nat.le_of_ble_eq_true rfl) (Nat.le_of_ble_eq_true rfl)) hG rfl rfl d_KF_start_2 (Nat.le_of_ble_eq_true rfl) (Nat.le_of_ble_eq_true rfl) (Nat.le_of_ble_eq_true rfl) (fun r G' h => ?_)
  obtain ⟨rfl, rfl⟩ := h
  refine x_astore C d_KF_start_5 (Nat.le_of_ble_eq_true rfl) rfl ?_
  refine x_aload_n C d_KF_start_7 rfl rfl ?_
  refine x_iload_n C d_KF_start_8 rfl rfl ?_
  refine x_callV1 C (q_KF_indexAt_in l E hG hI hki hK) (lk_KF_36 C.hts (Nat.le_of_ble_eq_true rfl) (Nat.le_of_ble_eq_true rfl)) hG rfl rfl d_KF_start_9 (Nat.le_of_ble_eq_true rfl) (Nat.le_of_ble_eq_true rfl) (Nat.le_of_ble_eq_true rfl) (fun r G' h => ?_)
  obtain ⟨rfl, rfl⟩ := h
  refine x_astore C d_KF_start_12 (Nat.le_of_ble_eq_true rfl) rfl ?_
  refine x_aload C d_KF_start_14 rfl ?_
  refine x_ifnull C d_KF_start_16 ?_
  refine x_aload C d_KF_start_19 rfl ?_
  refine x_ifnull C d_KF_start_21 ?_
  refine x_iload_n C d_KF_start_24 rfl rfl ?_
  refine x_if_lt C 33 d_KF_start_25 (by decide) (fun c_25 => ?_) (fun c_25 => ?_)
  · refine x_iconst C (v := -1) d_KF_start_33 (by decide) ?_
    exact x_iret C (Nat.le_of_ble_eq_true rfl) (Nat.le_of_ble_eq_true rfl) d_KF_start_34 ⟨rfl, rfl⟩
  · refine x_iload_n C d_KF_start_28 rfl rfl ?_
    refine x_iconst C (v := 4) d_KF_start_29 (by decide) ?_
    refine x_icmp_le C 35 d_KF_start_30 (by decide) (fun c_30 => ?_) (fun c_30 => ?_)
    · exact absurd hop (fun q => q.elim c_25 (fun q => absurd q (Int32.not_lt.mpr c_30)))
    · refine x_iconst C (v := -1) d_KF_start_33 (by decide) ?_
      exact x_iret C (Nat.le_of_ble_eq_true rfl) (Nat.le_of_ble_eq_true rfl) d_KF_start_34 ⟨rfl, rfl⟩
set_option maxRecDepth 100000 in
set_option maxHeartbeats 4000000 in
theorem q_KF_start_sz (l : Launch) (E : xE) {G : xw_G} {x ix vw : Nat} {op : Bool} {na nw : Int64} (hG : G x = some (eKF ix vw op na nw)) {aix : Nat} {ks : List Nat} (hI : xAL E G ix aix ks) {avw : Nat} {ws : List Nat} (hW : xAL E G vw avw ws) {va : Nat} {vo ae hw : Bool} {mo ac kr pl : Int32} {pf pc vr pw : Int64} {rl : Value} (hV : G va = some (eVW vo mo ac kr pl pf pc ae rl vr hw pw)) {i : Nat} (hi : ws[i]? = some va) {ki en : Nat} {db sp : Bool} {fr sz : Int32} {lo : Int64} (hK : G ki = some (eKI db fr sz en sp lo)) {i2 : Nat} (hki : ks[i2]? = some ki) {z : Int64} {op2 b : Int32} (hop : ¬ (op2 < 0 ∨ 4 < op2)) (hb : b < 1 ∨ sz < b) : XMk l E y_KF_start w_KF_start rm_KF_start [.ref x, .int (nI i), .int (nI i2), .int (op2), .long (z), .int (b)] G (fun r G' => r = some (.int (-1)) ∧ G = G') 0 0 := by
  refine XM_of [some (.ref x), some (.int (nI i)), some (.int (nI i2)), some (.int (op2)), some (.long (z)), none, some (.int (b)), none, none, none, none] (XZ_st E) (by decide) rfl rfl rfl (Nat.le_of_ble_eq_true rfl) (fun p e s m below meth c C hnm => ?_)
  refine x_aload_n C d_KF_start_0 rfl rfl ?_
  refine x_iload_n C d_KF_start_1 rfl rfl ?_
  refine x_callV1 C (q_KF_viewAt_in l E hG hW hi hV) (lk_KF_51 C.hts (Nat.le_of_ble_eq_true rfl) (Nat.le_of_ble_eq_true rfl)) hG rfl rfl d_KF_start_2 (Nat.le_of_ble_eq_true rfl) (Nat.le_of_ble_eq_true rfl) (Nat.le_of_ble_eq_true rfl) (fun r G' h => ?_)
  obtain ⟨rfl, rfl⟩ := h
  refine x_astore C d_KF_start_5 (Nat.le_of_ble_eq_true rfl) rfl ?_
  refine x_aload_n C d_KF_start_7 rfl rfl ?_
  refine x_iload_n C d_KF_start_8 rfl rfl ?_
  refine x_callV1 C (q_KF_indexAt_in l E hG hI hki hK) (lk_KF_36 C.hts (Nat.le_of_ble_eq_true rfl) (Nat.le_of_ble_eq_true rfl)) hG rfl rfl d_KF_start_9 (Nat.le_of_ble_eq_true rfl) (Nat.le_of_ble_eq_true rfl) (Nat.le_of_ble_eq_true rfl) (fun r G' h => ?_)
  obtain ⟨rfl, rfl⟩ := h
  refine x_astore C d_KF_start_12 (Nat.le_of_ble_eq_true rfl) rfl ?_
  refine x_aload C d_KF_start_14 rfl ?_
  refine x_ifnull C d_KF_start_16 ?_
  refine x_aload C d_KF_start_19 rfl ?_
  refine x_ifnull C d_KF_start_21 ?_
  refine x_iload_n C d_KF_start_24 rfl rfl ?_
  refine x_if_lt C 33 d_KF_start_25 (by decide) (fun c_25 => ?_) (fun c_25 => ?_)
  · exact absurd (by first | exact Or.inl c_25 | exact Or.inr (Int32.not_le.mp c_30)) hop
  · refine x_iload_n C d_KF_start_28 rfl rfl ?_
    refine x_iconst C (v := 4) d_KF_start_29 (by decide) ?_
    refine x_icmp_le C 35 d_KF_start_30 (by decide) (fun c_30 => ?_) (fun c_30 => ?_)
    · refine x_iload C d_KF_start_35 rfl ?_
      refine x_iconst C (v := 1) d_KF_start_37 (by decide) ?_
      refine x_icmp_lt C 51 d_KF_start_38 (by decide) (fun c_38 => ?_) (fun c_38 => ?_)
      · refine x_iconst C (v := -1) d_KF_start_51 (by decide) ?_
        exact x_iret C (Nat.le_of_ble_eq_true rfl) (Nat.le_of_ble_eq_true rfl) d_KF_start_52 ⟨rfl, rfl⟩
      · refine x_iload C d_KF_start_41 rfl ?_
        refine x_aload C d_KF_start_43 rfl ?_
        refine x_get C hK rfl (in_KI _) 2 (by decide) (List.mem_cons_of_mem _ f_KF_123) rfl d_KF_start_45 ?_
        refine x_icmp_le C 53 d_KF_start_48 (by decide) (fun c_48 => ?_) (fun c_48 => ?_)
        · exact absurd hb (fun q => q.elim c_38 (fun q => absurd q (Int32.not_lt.mpr c_48)))
        · refine x_iconst C (v := -1) d_KF_start_51 (by decide) ?_
          exact x_iret C (Nat.le_of_ble_eq_true rfl) (Nat.le_of_ble_eq_true rfl) d_KF_start_52 ⟨rfl, rfl⟩
    · exact absurd (by first | exact Or.inl c_25 | exact Or.inr (Int32.not_le.mp c_30)) hop
set_option maxRecDepth 100000 in
set_option maxHeartbeats 4000000 in
theorem q_KF_start_ref (l : Launch) (E : xE) {G : xw_G} {x ix vw : Nat} {op : Bool} {na nw : Int64} (hG : G x = some (eKF ix vw op na nw)) {aix : Nat} {ks : List Nat} (hI : xAL E G ix aix ks) {avw : Nat} {ws : List Nat} (hW : xAL E G vw avw ws) {va : Nat} {vo ae hw : Bool} {mo ac kr pl : Int32} {pf pc vr pw : Int64} {rl : Value} (hV : G va = some (eVW vo mo ac kr pl pf pc ae rl vr hw pw)) {i : Nat} (hi : ws[i]? = some va) {ki en : Nat} {db sp : Bool} {fr sz : Int32} {lo : Int64} (hK : G ki = some (eKI db fr sz en sp lo)) {i2 : Nat} (hki : ks[i2]? = some ki) {z : Int64} {op2 b : Int32} (hop : ¬ (op2 < 0 ∨ 4 < op2)) (hb : ¬ (b < 1 ∨ sz < b)) (hr : ¬ refRead vo mo ac 1 = 0) : XMk l E y_KF_start w_KF_start rm_KF_start [.ref x, .int (nI i), .int (nI i2), .int (op2), .long (z), .int (b)] G (fun r G' => r = some (.int (refRead vo mo ac 1)) ∧ G = G') 0 0 := by
  refine XM_of [some (.ref x), some (.int (nI i)), some (.int (nI i2)), some (.int (op2)), some (.long (z)), none, some (.int (b)), none, none, none, none] (XZ_st E) (by decide) rfl rfl rfl (Nat.le_of_ble_eq_true rfl) (fun p e s m below meth c C hnm => ?_)
  refine x_aload_n C d_KF_start_0 rfl rfl ?_
  refine x_iload_n C d_KF_start_1 rfl rfl ?_
  refine x_callV1 C (q_KF_viewAt_in l E hG hW hi hV) (lk_KF_51 C.hts (Nat.le_of_ble_eq_true rfl) (Nat.le_of_ble_eq_true rfl)) hG rfl rfl d_KF_start_2 (Nat.le_of_ble_eq_true rfl) (Nat.le_of_ble_eq_true rfl) (Nat.le_of_ble_eq_true rfl) (fun r G' h => ?_)
  obtain ⟨rfl, rfl⟩ := h
  refine x_astore C d_KF_start_5 (Nat.le_of_ble_eq_true rfl) rfl ?_
  refine x_aload_n C d_KF_start_7 rfl rfl ?_
  refine x_iload_n C d_KF_start_8 rfl rfl ?_
  refine x_callV1 C (q_KF_indexAt_in l E hG hI hki hK) (lk_KF_36 C.hts (Nat.le_of_ble_eq_true rfl) (Nat.le_of_ble_eq_true rfl)) hG rfl rfl d_KF_start_9 (Nat.le_of_ble_eq_true rfl) (Nat.le_of_ble_eq_true rfl) (Nat.le_of_ble_eq_true rfl) (fun r G' h => ?_)
  obtain ⟨rfl, rfl⟩ := h
  refine x_astore C d_KF_start_12 (Nat.le_of_ble_eq_true rfl) rfl ?_
  refine x_aload C d_KF_start_14 rfl ?_
  refine x_ifnull C d_KF_start_16 ?_
  refine x_aload C d_KF_start_19 rfl ?_
  refine x_ifnull C d_KF_start_21 ?_
  refine x_iload_n C d_KF_start_24 rfl rfl ?_
  refine x_if_lt C 33 d_KF_start_25 (by decide) (fun c_25 => ?_) (fun c_25 => ?_)
  · exact absurd (by first | exact Or.inl c_25 | exact Or.inr (Int32.not_le.mp c_30)) hop
  · refine x_iload_n C d_KF_start_28 rfl rfl ?_
    refine x_iconst C (v := 4) d_KF_start_29 (by decide) ?_
    refine x_icmp_le C 35 d_KF_start_30 (by decide) (fun c_30 => ?_) (fun c_30 => ?_)
    · refine x_iload C d_KF_start_35 rfl ?_
      refine x_iconst C (v := 1) d_KF_start_37 (by decide) ?_
      refine x_icmp_lt C 51 d_KF_start_38 (by decide) (fun c_38 => ?_) (fun c_38 => ?_)
      · exact absurd (by first | exact Or.inl c_38 | exact Or.inr (Int32.not_le.mp c_48)) hb
      · refine x_iload C d_KF_start_41 rfl ?_
        refine x_aload C d_KF_start_43 rfl ?_
        refine x_get C hK rfl (in_KI _) 2 (by decide) (List.mem_cons_of_mem _ f_KF_123) rfl d_KF_start_45 ?_
        refine x_icmp_le C 53 d_KF_start_48 (by decide) (fun c_48 => ?_) (fun c_48 => ?_)
        · refine x_aload C d_KF_start_53 rfl ?_
          refine x_iconst C (v := 1) d_KF_start_55 (by decide) ?_
          refine x_callV1 C (q_VW_refusalToRead l E hV) (lk_KF_102 C.hts (Nat.le_of_ble_eq_true rfl) (Nat.le_of_ble_eq_true rfl)) hV rfl rfl d_KF_start_56 (Nat.le_of_ble_eq_true rfl) (Nat.le_of_ble_eq_true rfl) (Nat.le_of_ble_eq_true rfl) (fun r G' h => ?_)
          obtain ⟨rfl, rfl⟩ := h
          refine x_istore C d_KF_start_59 (Nat.le_of_ble_eq_true rfl) rfl ?_
          refine x_iload C d_KF_start_61 rfl ?_
          refine x_if_eq C 69 d_KF_start_63 (by decide) (fun c_63 => ?_) (fun c_63 => ?_)
          · exact absurd c_63 hr
          · refine x_iload C d_KF_start_66 rfl ?_
            exact x_iret C (Nat.le_of_ble_eq_true rfl) (Nat.le_of_ble_eq_true rfl) d_KF_start_68 ⟨rfl, rfl⟩
        · exact absurd (by first | exact Or.inl c_38 | exact Or.inr (Int32.not_le.mp c_48)) hb
    · exact absurd (by first | exact Or.inl c_25 | exact Or.inr (Int32.not_le.mp c_30)) hop
set_option maxRecDepth 100000 in
set_option maxHeartbeats 4000000 in
theorem q_KF_start_23 (l : Launch) (E : xE) {G : xw_G} {x ix vw : Nat} {op : Bool} {na nw : Int64} (hG : G x = some (eKF ix vw op na nw)) {aix : Nat} {ks : List Nat} (hI : xAL E G ix aix ks) {avw : Nat} {ws : List Nat} (hW : xAL E G vw avw ws) {va : Nat} {vo ae hw : Bool} {mo ac kr pl : Int32} {pf pc vr pw : Int64} {rl : Value} (hV : G va = some (eVW vo mo ac kr pl pf pc ae rl vr hw pw)) {i : Nat} (hi : ws[i]? = some va) {ki en : Nat} {db sp : Bool} {fr sz : Int32} {lo : Int64} (hK : G ki = some (eKI db fr sz en sp lo)) {i2 : Nat} (hki : ks[i2]? = some ki) {ar : Nat} {xs : List Nat} (hA : xAL E G en ar xs) {fd cm : Nat → Int64} {so : Nat → Nat} (hX : xEs G xs fd cm so) {z : Int64} {op2 b : Int32} (hop : ¬ (op2 < 0 ∨ 4 < op2)) (hb : ¬ (b < 1 ∨ sz < b)) {k : Nat} (hk : k ≤ xs.length) (hp : ∀ i : Nat, i < xs.length → (byPart sz b (decide (op2 = 1 ∨ op2 = 4)) (fd i) z = true ↔ i < k)) (hr : refRead vo mo ac 1 = 0) (ho : oPart xs.length fd sz b op2 z k = none) : XMk l E y_KF_start w_KF_start rm_KF_start [.ref x, .int (nI i), .int (nI i2), .int (op2), .long (z), .int (b)] G (fun r G' => r = some (.int 23) ∧ G' = va_up G va (some (eVW vo mo ac (nI i2) (3) pf pc ae (.null) (0) hw pw))) 0 0 := by
  refine XM_of [some (.ref x), some (.int (nI i)), some (.int (nI i2)), some (.int (op2)), some (.long (z)), none, some (.int (b)), none, none, none, none] (XZ_st E) (by decide) rfl rfl rfl (Nat.le_of_ble_eq_true rfl) (fun p e s m below meth c C hnm => ?_)
  refine x_aload_n C d_KF_start_0 rfl rfl ?_
  refine x_iload_n C d_KF_start_1 rfl rfl ?_
  refine x_callV1 C (q_KF_viewAt_in l E hG hW hi hV) (lk_KF_51 C.hts (Nat.le_of_ble_eq_true rfl) (Nat.le_of_ble_eq_true rfl)) hG rfl rfl d_KF_start_2 (Nat.le_of_ble_eq_true rfl) (Nat.le_of_ble_eq_true rfl) (Nat.le_of_ble_eq_true rfl) (fun r G' h => ?_)
  obtain ⟨rfl, rfl⟩ := h
  refine x_astore C d_KF_start_5 (Nat.le_of_ble_eq_true rfl) rfl ?_
  refine x_aload_n C d_KF_start_7 rfl rfl ?_
  refine x_iload_n C d_KF_start_8 rfl rfl ?_
  refine x_callV1 C (q_KF_indexAt_in l E hG hI hki hK) (lk_KF_36 C.hts (Nat.le_of_ble_eq_true rfl) (Nat.le_of_ble_eq_true rfl)) hG rfl rfl d_KF_start_9 (Nat.le_of_ble_eq_true rfl) (Nat.le_of_ble_eq_true rfl) (Nat.le_of_ble_eq_true rfl) (fun r G' h => ?_)
  obtain ⟨rfl, rfl⟩ := h
  refine x_astore C d_KF_start_12 (Nat.le_of_ble_eq_true rfl) rfl ?_
  refine x_aload C d_KF_start_14 rfl ?_
  refine x_ifnull C d_KF_start_16 ?_
  refine x_aload C d_KF_start_19 rfl ?_
  refine x_ifnull C d_KF_start_21 ?_
  refine x_iload_n C d_KF_start_24 rfl rfl ?_
  refine x_if_lt C 33 d_KF_start_25 (by decide) (fun c_25 => ?_) (fun c_25 => ?_)
  · exact absurd (by first | exact Or.inl c_25 | exact Or.inr (Int32.not_le.mp c_30)) hop
  · refine x_iload_n C d_KF_start_28 rfl rfl ?_
    refine x_iconst C (v := 4) d_KF_start_29 (by decide) ?_
    refine x_icmp_le C 35 d_KF_start_30 (by decide) (fun c_30 => ?_) (fun c_30 => ?_)
    · refine x_iload C d_KF_start_35 rfl ?_
      refine x_iconst C (v := 1) d_KF_start_37 (by decide) ?_
      refine x_icmp_lt C 51 d_KF_start_38 (by decide) (fun c_38 => ?_) (fun c_38 => ?_)
      · exact absurd (by first | exact Or.inl c_38 | exact Or.inr (Int32.not_le.mp c_48)) hb
      · refine x_iload C d_KF_start_41 rfl ?_
        refine x_aload C d_KF_start_43 rfl ?_
        refine x_get C hK rfl (in_KI _) 2 (by decide) (List.mem_cons_of_mem _ f_KF_123) rfl d_KF_start_45 ?_
        refine x_icmp_le C 53 d_KF_start_48 (by decide) (fun c_48 => ?_) (fun c_48 => ?_)
        · refine x_aload C d_KF_start_53 rfl ?_
          refine x_iconst C (v := 1) d_KF_start_55 (by decide) ?_
          refine x_callV1 C (q_VW_refusalToRead l E hV) (lk_KF_102 C.hts (Nat.le_of_ble_eq_true rfl) (Nat.le_of_ble_eq_true rfl)) hV rfl rfl d_KF_start_56 (Nat.le_of_ble_eq_true rfl) (Nat.le_of_ble_eq_true rfl) (Nat.le_of_ble_eq_true rfl) (fun r G' h => ?_)
          obtain ⟨rfl, rfl⟩ := h
          refine x_istore C d_KF_start_59 (Nat.le_of_ble_eq_true rfl) rfl ?_
          refine x_iload C d_KF_start_61 rfl ?_
          refine x_if_eq C 69 d_KF_start_63 (by decide) (fun c_63 => ?_) (fun c_63 => ?_)
          · refine x_aload C d_KF_start_69 rfl ?_
            refine x_callV0 C (q_VW_forgetRead l E hV) (lk_KF_65 C.hts (Nat.le_of_ble_eq_true rfl) (Nat.le_of_ble_eq_true rfl)) hV rfl rfl d_KF_start_71 (Nat.le_of_ble_eq_true rfl) (Nat.le_of_ble_eq_true rfl) (Nat.le_of_ble_eq_true rfl) (fun r G' h => ?_)
            obtain ⟨rfl, rfl⟩ := h
            refine x_aload C d_KF_start_74 rfl ?_
            refine x_iload_n C d_KF_start_76 rfl rfl ?_
            refine x_put2 C rfl (in_VW _) ty_VW tok_VW nm_VW 3 (by decide) (List.mem_cons_of_mem _ f_KF_105) rfl (tok_VW 3 (by decide)) rfl rfl (Nat.le_of_ble_eq_true rfl) d_KF_start_77 ?_
            refine x_aload C d_KF_start_80 rfl ?_
            refine x_iload_n C d_KF_start_82 rfl rfl ?_
            refine x_lload C d_KF_start_83 rfl ?_
            refine x_iload C d_KF_start_85 rfl ?_
            refine x_callV3 C (q_KI_findByPart l E (xw_keep hK (xw_neC hK hV (by decide))) (xAL_up hV (by decide) hA) (xEs_up hV (by decide) hX) hk hp) (lk_KF_125 C.hts (Nat.le_of_ble_eq_true rfl) (Nat.le_of_ble_eq_true rfl)) (xw_keep hK (xw_neC hK hV (by decide))) rfl rfl d_KF_start_87 (Nat.le_of_ble_eq_true rfl) (Nat.le_of_ble_eq_true rfl) (Nat.le_of_ble_eq_true rfl) (fun r G' h => ?_)
            obtain ⟨rfl, rfl⟩ := h
            rw [ho, xr_none]
            refine x_astoreN C d_KF_start_90 (Nat.le_of_ble_eq_true rfl) rfl ?_
            refine x_aloadN C d_KF_start_92 rfl ?_
            refine x_ifnonnullN C d_KF_start_94 ?_
            refine x_aload C d_KF_start_97 rfl ?_
            refine x_callV0 C (q_VW_lose l E (va_up_self _ _ _)) (lk_KF_112 C.hts (Nat.le_of_ble_eq_true rfl) (Nat.le_of_ble_eq_true rfl)) (va_up_self _ _ _) rfl rfl d_KF_start_99 (Nat.le_of_ble_eq_true rfl) (Nat.le_of_ble_eq_true rfl) (Nat.le_of_ble_eq_true rfl) (fun r G' h => ?_)
            obtain ⟨rfl, rfl⟩ := h
            rw [bx_uu]
            refine x_bipush C (v := 23) d_KF_start_102 (by decide) ?_
            exact x_iret C (Nat.le_of_ble_eq_true rfl) (Nat.le_of_ble_eq_true rfl) d_KF_start_104 ⟨rfl, rfl⟩
          · exact absurd hr c_63
        · exact absurd (by first | exact Or.inl c_38 | exact Or.inr (Int32.not_le.mp c_48)) hb
    · exact absurd (by first | exact Or.inl c_25 | exact Or.inr (Int32.not_le.mp c_30)) hop
set_option maxRecDepth 100000 in
set_option maxHeartbeats 4000000 in
theorem q_KF_start_got (l : Launch) (E : xE) {G : xw_G} {x ix vw : Nat} {op : Bool} {na nw : Int64} (hG : G x = some (eKF ix vw op na nw)) {aix : Nat} {ks : List Nat} (hI : xAL E G ix aix ks) {avw : Nat} {ws : List Nat} (hW : xAL E G vw avw ws) {va : Nat} {vo ae hw : Bool} {mo ac kr pl : Int32} {pf pc vr pw : Int64} {rl : Value} (hV : G va = some (eVW vo mo ac kr pl pf pc ae rl vr hw pw)) {i : Nat} (hi : ws[i]? = some va) {ki en : Nat} {db sp : Bool} {fr sz : Int32} {lo : Int64} (hK : G ki = some (eKI db fr sz en sp lo)) {i2 : Nat} (hki : ks[i2]? = some ki) {ar : Nat} {xs : List Nat} (hA : xAL E G en ar xs) {fd cm : Nat → Int64} {so : Nat → Nat} (hX : xEs G xs fd cm so) {z : Int64} {op2 b : Int32} (hop : ¬ (op2 < 0 ∨ 4 < op2)) (hb : ¬ (b < 1 ∨ sz < b)) {k : Nat} (hk : k ≤ xs.length) (hp : ∀ i : Nat, i < xs.length → (byPart sz b (decide (op2 = 1 ∨ op2 = 4)) (fd i) z = true ↔ i < k)) (hr : refRead vo mo ac 1 = 0) {n a0 : Nat} (ho : oPart xs.length fd sz b op2 z k = some n) (ha : xs[n]? = some a0) : XMk l E y_KF_start w_KF_start rm_KF_start [.ref x, .int (nI i), .int (nI i2), .int (op2), .long (z), .int (b)] G (fun r G' => r = some (.int 0) ∧ G' = va_up G va (some (eVW vo mo ac (nI i2) (2) (fd n) (cm n) (false) (.null) (0) hw pw))) 0 0 := by
  refine XM_of [some (.ref x), some (.int (nI i)), some (.int (nI i2)), some (.int (op2)), some (.long (z)), none, some (.int (b)), none, none, none, none] (XZ_st E) (by decide) rfl rfl rfl (Nat.le_of_ble_eq_true rfl) (fun p e s m below meth c C hnm => ?_)
  refine x_aload_n C d_KF_start_0 rfl rfl ?_
  refine x_iload_n C d_KF_start_1 rfl rfl ?_
  refine x_callV1 C (q_KF_viewAt_in l E hG hW hi hV) (lk_KF_51 C.hts (Nat.le_of_ble_eq_true rfl) (Nat.le_of_ble_eq_true rfl)) hG rfl rfl d_KF_start_2 (Nat.le_of_ble_eq_true rfl) (Nat.le_of_ble_eq_true rfl) (Nat.le_of_ble_eq_true rfl) (fun r G' h => ?_)
  obtain ⟨rfl, rfl⟩ := h
  refine x_astore C d_KF_start_5 (Nat.le_of_ble_eq_true rfl) rfl ?_
  refine x_aload_n C d_KF_start_7 rfl rfl ?_
  refine x_iload_n C d_KF_start_8 rfl rfl ?_
  refine x_callV1 C (q_KF_indexAt_in l E hG hI hki hK) (lk_KF_36 C.hts (Nat.le_of_ble_eq_true rfl) (Nat.le_of_ble_eq_true rfl)) hG rfl rfl d_KF_start_9 (Nat.le_of_ble_eq_true rfl) (Nat.le_of_ble_eq_true rfl) (Nat.le_of_ble_eq_true rfl) (fun r G' h => ?_)
  obtain ⟨rfl, rfl⟩ := h
  refine x_astore C d_KF_start_12 (Nat.le_of_ble_eq_true rfl) rfl ?_
  refine x_aload C d_KF_start_14 rfl ?_
  refine x_ifnull C d_KF_start_16 ?_
  refine x_aload C d_KF_start_19 rfl ?_
  refine x_ifnull C d_KF_start_21 ?_
  refine x_iload_n C d_KF_start_24 rfl rfl ?_
  refine x_if_lt C 33 d_KF_start_25 (by decide) (fun c_25 => ?_) (fun c_25 => ?_)
  · exact absurd (by first | exact Or.inl c_25 | exact Or.inr (Int32.not_le.mp c_30)) hop
  · refine x_iload_n C d_KF_start_28 rfl rfl ?_
    refine x_iconst C (v := 4) d_KF_start_29 (by decide) ?_
    refine x_icmp_le C 35 d_KF_start_30 (by decide) (fun c_30 => ?_) (fun c_30 => ?_)
    · refine x_iload C d_KF_start_35 rfl ?_
      refine x_iconst C (v := 1) d_KF_start_37 (by decide) ?_
      refine x_icmp_lt C 51 d_KF_start_38 (by decide) (fun c_38 => ?_) (fun c_38 => ?_)
      · exact absurd (by first | exact Or.inl c_38 | exact Or.inr (Int32.not_le.mp c_48)) hb
      · refine x_iload C d_KF_start_41 rfl ?_
        refine x_aload C d_KF_start_43 rfl ?_
        refine x_get C hK rfl (in_KI _) 2 (by decide) (List.mem_cons_of_mem _ f_KF_123) rfl d_KF_start_45 ?_
        refine x_icmp_le C 53 d_KF_start_48 (by decide) (fun c_48 => ?_) (fun c_48 => ?_)
        · refine x_aload C d_KF_start_53 rfl ?_
          refine x_iconst C (v := 1) d_KF_start_55 (by decide) ?_
          refine x_callV1 C (q_VW_refusalToRead l E hV) (lk_KF_102 C.hts (Nat.le_of_ble_eq_true rfl) (Nat.le_of_ble_eq_true rfl)) hV rfl rfl d_KF_start_56 (Nat.le_of_ble_eq_true rfl) (Nat.le_of_ble_eq_true rfl) (Nat.le_of_ble_eq_true rfl) (fun r G' h => ?_)
          obtain ⟨rfl, rfl⟩ := h
          refine x_istore C d_KF_start_59 (Nat.le_of_ble_eq_true rfl) rfl ?_
          refine x_iload C d_KF_start_61 rfl ?_
          refine x_if_eq C 69 d_KF_start_63 (by decide) (fun c_63 => ?_) (fun c_63 => ?_)
          · refine x_aload C d_KF_start_69 rfl ?_
            refine x_callV0 C (q_VW_forgetRead l E hV) (lk_KF_65 C.hts (Nat.le_of_ble_eq_true rfl) (Nat.le_of_ble_eq_true rfl)) hV rfl rfl d_KF_start_71 (Nat.le_of_ble_eq_true rfl) (Nat.le_of_ble_eq_true rfl) (Nat.le_of_ble_eq_true rfl) (fun r G' h => ?_)
            obtain ⟨rfl, rfl⟩ := h
            refine x_aload C d_KF_start_74 rfl ?_
            refine x_iload_n C d_KF_start_76 rfl rfl ?_
            refine x_put2 C rfl (in_VW _) ty_VW tok_VW nm_VW 3 (by decide) (List.mem_cons_of_mem _ f_KF_105) rfl (tok_VW 3 (by decide)) rfl rfl (Nat.le_of_ble_eq_true rfl) d_KF_start_77 ?_
            refine x_aload C d_KF_start_80 rfl ?_
            refine x_iload_n C d_KF_start_82 rfl rfl ?_
            refine x_lload C d_KF_start_83 rfl ?_
            refine x_iload C d_KF_start_85 rfl ?_
            refine x_callV3 C (q_KI_findByPart l E (xw_keep hK (xw_neC hK hV (by decide))) (xAL_up hV (by decide) hA) (xEs_up hV (by decide) hX) hk hp) (lk_KF_125 C.hts (Nat.le_of_ble_eq_true rfl) (Nat.le_of_ble_eq_true rfl)) (xw_keep hK (xw_neC hK hV (by decide))) rfl rfl d_KF_start_87 (Nat.le_of_ble_eq_true rfl) (Nat.le_of_ble_eq_true rfl) (Nat.le_of_ble_eq_true rfl) (fun r G' h => ?_)
            obtain ⟨rfl, rfl⟩ := h
            rw [ho, xr_some ha]
            refine x_astore C d_KF_start_90 (Nat.le_of_ble_eq_true rfl) rfl ?_
            refine x_aload C d_KF_start_92 rfl ?_
            refine x_ifnonnull C 105 d_KF_start_94 (by decide) ?_
            refine x_aload C d_KF_start_105 rfl ?_
            refine x_aload C d_KF_start_107 rfl ?_
            refine x_callV1 C (q_VW_standAt l E (va_up_self _ _ _) (xw_keep (hX _ _ ha) (xw_neC (hX _ _ ha) hV (by decide)))) (lk_KF_129 C.hts (Nat.le_of_ble_eq_true rfl) (Nat.le_of_ble_eq_true rfl)) (va_up_self _ _ _) rfl rfl d_KF_start_109 (Nat.le_of_ble_eq_true rfl) (Nat.le_of_ble_eq_true rfl) (Nat.le_of_ble_eq_true rfl) (fun r G' h => ?_)
            obtain ⟨rfl, rfl⟩ := h
            rw [bx_uu]
            refine x_iconst C (v := 0) d_KF_start_112 (by decide) ?_
            exact x_iret C (Nat.le_of_ble_eq_true rfl) (Nat.le_of_ble_eq_true rfl) d_KF_start_113 ⟨rfl, rfl⟩
          · exact absurd hr c_63
        · exact absurd (by first | exact Or.inl c_38 | exact Or.inr (Int32.not_le.mp c_48)) hb
    · exact absurd (by first | exact Or.inl c_25 | exact Or.inr (Int32.not_le.mp c_30)) hop
end
