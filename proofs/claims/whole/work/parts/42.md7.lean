def mWrt (μ2 : MS) (i r : Nat) (f : Int64) : MS := sJ (sZ (sS (sI (sS μ2 13 (mS μ2 13 + 1)) 10 r (mS μ2 13 + 1)) 12 (mS μ2 12 + 1)) 26 i true) 23 i f
theorem op_04 {op : Int32} (h0 : ¬ op < 0) (h4 : ¬ 4 < op) : op = 0 ∨ op = 1 ∨ op = 2 ∨ op = 3 ∨ op = 4 := by
  obtain ⟨j, hj, rfl⟩ := nI_of h0
  have h5 : j ≤ 4 := by
    rcases Nat.lt_or_ge 4 j with h | h
    · exact absurd (nI_lt (a := 4) h hj) h4
    · exact h
  rcases (show j = 0 ∨ j = 1 ∨ j = 2 ∨ j = 3 ∨ j = 4 by omega) with rfl | rfl | rfl | rfl | rfl
  · exact Or.inl rfl
  · exact Or.inr (Or.inl rfl)
  · exact Or.inr (Or.inr (Or.inl rfl))
  · exact Or.inr (Or.inr (Or.inr (Or.inl rfl)))
  · exact Or.inr (Or.inr (Or.inr (Or.inr rfl)))
theorem mOo_w {μ : MS} {i : Nat} {f : Int64} (h : mOo μ i f = false) : ¬ (mZ μ 26 i = true ∧ mLs (mJ μ 23 i) f = false) := by
  rintro ⟨h1, h2⟩
  unfold mOo at h
  rw [h1, h2] at h
  cases h
theorem mOo_r {μ : MS} {i : Nat} {f : Int64} (h : mOo μ i f = false) (h3 : mI μ 15 i = 3) {r : Nat} (hr : r < 300) : mOoR μ f r = false := by
  unfold mOo at h
  rw [h3] at h
  have h2 : (mFst (mOoR μ f) 300 0).isSome = false := by
    cases hz : (mFst (mOoR μ f) 300 0).isSome with
    | false => rfl
    | true => rw [hz] at h; simp at h
  cases hz : mFst (mOoR μ f) 300 0 with
  | some q => rw [hz] at h2; cases h2
  | none => exact mFst_none hz r (by omega) (by omega)
theorem mOo_n {μ : MS} {i : Nat} {f : Int64} (h : mOo μ i f = true) (hw : ¬ (mZ μ 26 i = true ∧ mLs (mJ μ 23 i) f = false)) : mI μ 15 i = 3 ∧ ∃ r, mFst (mOoR μ f) 300 0 = some r := by
  unfold mOo at h
  rw [Bool.or_eq_true] at h
  rcases h with h | h
  · rw [Bool.and_eq_true] at h
    exact absurd ⟨h.1, by have := h.2; simpa using this⟩ hw
  · rw [Bool.and_eq_true] at h
    exact ⟨of_decide_eq_true h.1, Option.isSome_iff_exists.mp h.2⟩
set_option maxRecDepth 4000 in
set_option maxHeartbeats 800000 in
theorem q_MD_open_nv (l : Launch) (E : xE) {G : xw_G} {md : Nat} {a : Nat → Nat} {μ : MS} (hM : xMD E G md a μ) {j : Int32} (hj : mVw μ j = false) {m2 a2 : Int32} : XMk l E y_MD_open w_MD_open rm_MD_open [.ref md, .int (j), .int (m2), .int (a2)] G (fun r G' => r = some (.int (-1)) ∧ xMD E G' md a (sS μ 0 0) ∧ xFc G G') 0 0 := by
  refine XM_of [some (.ref md), some (.int (j)), some (.int (m2)), some (.int (a2)), none] (XZ_st E) (by decide) rfl rfl rfl (Nat.le_of_ble_eq_true rfl) (fun p e s m below meth c C hnm => ?_)
  refine x_aload_n C d_MD_open_0 rfl rfl ?_
  refine x_iconst C (v := 0) d_MD_open_1 (by decide) ?_
  refine x_mSp C hM 0 (by decide) (x := 0) f_MD_72 rfl rfl rfl d_MD_open_2 (fun _ hMg1 hFg1 => ?_)
  refine x_aload_n C d_MD_open_5 rfl rfl ?_
  refine x_iload_n C d_MD_open_6 rfl rfl ?_
  refine x_callV1 C (q_MD_isView l E hMg1) (lk_MD_92 C.hts (Nat.le_of_ble_eq_true rfl) (Nat.le_of_ble_eq_true rfl)) hMg1.1 rfl rfl d_MD_open_7 (Nat.le_of_ble_eq_true rfl) (Nat.le_of_ble_eq_true rfl) (Nat.le_of_ble_eq_true rfl) (fun r G' h => ?_)
  obtain ⟨rfl, rfl⟩ : r = some (.int (bI (mVw μ (j)))) ∧ _ = G' := h
  refine x_if_eq C 31 d_MD_open_10 (by decide) (fun c_10 => ?_) (fun c_10 => ?_)
  · refine x_iconst C (v := -1) d_MD_open_31 (by decide) ?_
    exact x_iret C (Nat.le_of_ble_eq_true rfl) (Nat.le_of_ble_eq_true rfl) d_MD_open_32 ⟨rfl, hMg1, hFg1⟩
  · exact absurd (hj.symm.trans (bI_1 c_10)) (by decide)
set_option maxRecDepth 4000 in
set_option maxHeartbeats 800000 in
theorem q_MD_open_bad (l : Launch) (E : xE) {G : xw_G} {md : Nat} {a : Nat → Nat} {μ : MS} (hM : xMD E G md a μ) {i : Nat} (hi : i < 5) (hv : mVw μ (nI i) = true) {m2 a2 : Int32} (hb : m2 < 0 ∨ 3 < m2 ∨ a2 < 0 ∨ 2 < a2) : XMk l E y_MD_open w_MD_open rm_MD_open [.ref md, .int (nI i), .int (m2), .int (a2)] G (fun r G' => r = some (.int (-1)) ∧ xMD E G' md a (sS μ 0 0) ∧ xFc G G') 0 0 := by
  refine XM_of [some (.ref md), some (.int (nI i)), some (.int (m2)), some (.int (a2)), none] (XZ_st E) (by decide) rfl rfl rfl (Nat.le_of_ble_eq_true rfl) (fun p e s m below meth c C hnm => ?_)
  refine x_aload_n C d_MD_open_0 rfl rfl ?_
  refine x_iconst C (v := 0) d_MD_open_1 (by decide) ?_
  refine x_mSp C hM 0 (by decide) (x := 0) f_MD_72 rfl rfl rfl d_MD_open_2 (fun _ hMg1 hFg1 => ?_)
  refine x_aload_n C d_MD_open_5 rfl rfl ?_
  refine x_iload_n C d_MD_open_6 rfl rfl ?_
  refine x_callV1 C (q_MD_isView l E hMg1) (lk_MD_92 C.hts (Nat.le_of_ble_eq_true rfl) (Nat.le_of_ble_eq_true rfl)) hMg1.1 rfl rfl d_MD_open_7 (Nat.le_of_ble_eq_true rfl) (Nat.le_of_ble_eq_true rfl) (Nat.le_of_ble_eq_true rfl) (fun r G' h => ?_)
  obtain ⟨rfl, rfl⟩ : r = some (.int (bI (mVw μ (nI i)))) ∧ _ = G' := h
  refine x_if_eq C 31 d_MD_open_10 (by decide) (fun c_10 => ?_) (fun c_10 => ?_)
  · exact absurd (hv.symm.trans ((bI_0 _).mp c_10)) (by decide)
  · refine x_iload_n C d_MD_open_13 rfl rfl ?_
    refine x_if_lt C 31 d_MD_open_14 (by decide) (fun c_14 => ?_) (fun c_14 => ?_)
    · refine x_iconst C (v := -1) d_MD_open_31 (by decide) ?_
      exact x_iret C (Nat.le_of_ble_eq_true rfl) (Nat.le_of_ble_eq_true rfl) d_MD_open_32 ⟨rfl, hMg1, hFg1⟩
    · refine x_iload_n C d_MD_open_17 rfl rfl ?_
      refine x_iconst C (v := 3) d_MD_open_18 (by decide) ?_
      refine x_icmp_gt C 31 d_MD_open_19 (by decide) (fun c_19 => ?_) (fun c_19 => ?_)
      · refine x_iconst C (v := -1) d_MD_open_31 (by decide) ?_
        exact x_iret C (Nat.le_of_ble_eq_true rfl) (Nat.le_of_ble_eq_true rfl) d_MD_open_32 ⟨rfl, hMg1, hFg1⟩
      · refine x_iload_n C d_MD_open_22 rfl rfl ?_
        refine x_if_lt C 31 d_MD_open_23 (by decide) (fun c_23 => ?_) (fun c_23 => ?_)
        · refine x_iconst C (v := -1) d_MD_open_31 (by decide) ?_
          exact x_iret C (Nat.le_of_ble_eq_true rfl) (Nat.le_of_ble_eq_true rfl) d_MD_open_32 ⟨rfl, hMg1, hFg1⟩
        · refine x_iload_n C d_MD_open_26 rfl rfl ?_
          refine x_iconst C (v := 2) d_MD_open_27 (by decide) ?_
          refine x_icmp_le C 33 d_MD_open_28 (by decide) (fun c_28 => ?_) (fun c_28 => ?_)
          · exact hb.elim (fun z => absurd z c_14) (fun z => z.elim (fun z => absurd z c_19) (fun z => z.elim (fun z => absurd z c_23) (fun z => absurd z (Int32.not_lt.mpr c_28))))
          · refine x_iconst C (v := -1) d_MD_open_31 (by decide) ?_
            exact x_iret C (Nat.le_of_ble_eq_true rfl) (Nat.le_of_ble_eq_true rfl) d_MD_open_32 ⟨rfl, hMg1, hFg1⟩
set_option maxRecDepth 4000 in
set_option maxHeartbeats 800000 in
theorem q_MD_open_41 (l : Launch) (E : xE) {G : xw_G} {md : Nat} {a : Nat → Nat} {μ : MS} (hM : xMD E G md a μ) {i : Nat} (hi : i < 5) (hv : mVw μ (nI i) = true) {m2 a2 : Int32} (hb : ¬ (m2 < 0 ∨ 3 < m2 ∨ a2 < 0 ∨ 2 < a2)) (ho : mZ μ 24 i = true) : XMk l E y_MD_open w_MD_open rm_MD_open [.ref md, .int (nI i), .int (m2), .int (a2)] G (fun r G' => r = some (.int (41)) ∧ xMD E G' md a (sS μ 0 0) ∧ xFc G G') 0 0 := by
  refine XM_of [some (.ref md), some (.int (nI i)), some (.int (m2)), some (.int (a2)), none] (XZ_st E) (by decide) rfl rfl rfl (Nat.le_of_ble_eq_true rfl) (fun p e s m below meth c C hnm => ?_)
  refine x_aload_n C d_MD_open_0 rfl rfl ?_
  refine x_iconst C (v := 0) d_MD_open_1 (by decide) ?_
  refine x_mSp C hM 0 (by decide) (x := 0) f_MD_72 rfl rfl rfl d_MD_open_2 (fun _ hMg1 hFg1 => ?_)
  refine x_aload_n C d_MD_open_5 rfl rfl ?_
  refine x_iload_n C d_MD_open_6 rfl rfl ?_
  refine x_callV1 C (q_MD_isView l E hMg1) (lk_MD_92 C.hts (Nat.le_of_ble_eq_true rfl) (Nat.le_of_ble_eq_true rfl)) hMg1.1 rfl rfl d_MD_open_7 (Nat.le_of_ble_eq_true rfl) (Nat.le_of_ble_eq_true rfl) (Nat.le_of_ble_eq_true rfl) (fun r G' h => ?_)
  obtain ⟨rfl, rfl⟩ : r = some (.int (bI (mVw μ (nI i)))) ∧ _ = G' := h
  refine x_if_eq C 31 d_MD_open_10 (by decide) (fun c_10 => ?_) (fun c_10 => ?_)
  · exact absurd (hv.symm.trans ((bI_0 _).mp c_10)) (by decide)
  · refine x_iload_n C d_MD_open_13 rfl rfl ?_
    refine x_if_lt C 31 d_MD_open_14 (by decide) (fun c_14 => ?_) (fun c_14 => ?_)
    · exfalso
      clear C hnm hM
      simp_all
    · refine x_iload_n C d_MD_open_17 rfl rfl ?_
      refine x_iconst C (v := 3) d_MD_open_18 (by decide) ?_
      refine x_icmp_gt C 31 d_MD_open_19 (by decide) (fun c_19 => ?_) (fun c_19 => ?_)
      · exfalso
        clear C hnm hM
        simp_all
      · refine x_iload_n C d_MD_open_22 rfl rfl ?_
        refine x_if_lt C 31 d_MD_open_23 (by decide) (fun c_23 => ?_) (fun c_23 => ?_)
        · exfalso
          clear C hnm hM
          simp_all
        · refine x_iload_n C d_MD_open_26 rfl rfl ?_
          refine x_iconst C (v := 2) d_MD_open_27 (by decide) ?_
          refine x_icmp_le C 33 d_MD_open_28 (by decide) (fun c_28 => ?_) (fun c_28 => ?_)
          · refine x_aload_n C d_MD_open_33 rfl rfl ?_
            refine x_get C hMg1.1 rfl (in_MD _) 24 (by decide) (List.mem_cons_of_mem _ f_MD_63) rfl d_MD_open_34 ?_
            refine x_iload_n C d_MD_open_37 rfl rfl ?_
            refine x_mZv C hMg1 24 5 kZ_24 rfl (j := i) (by omega) (mZ μ 24 i) rfl d_MD_open_38 ?_
            refine x_if_eq C 45 d_MD_open_39 (by decide) (fun c_39 => ?_) (fun c_39 => ?_)
            · exact absurd (ho.symm.trans ((bI_0 _).mp c_39)) (by decide)
            · refine x_bipush C (v := 41) d_MD_open_42 (by decide) ?_
              exact x_iret C (Nat.le_of_ble_eq_true rfl) (Nat.le_of_ble_eq_true rfl) d_MD_open_44 ⟨rfl, hMg1, hFg1⟩
          · exfalso
            clear C hnm hM
            simp_all
set_option maxRecDepth 4000 in
set_option maxHeartbeats 800000 in
theorem q_MD_open_ok (l : Launch) (E : xE) {G : xw_G} {md : Nat} {a : Nat → Nat} {μ : MS} (hM : xMD E G md a μ) {i : Nat} (hi : i < 5) (hv : mVw μ (nI i) = true) {m2 a2 : Int32} (hb : ¬ (m2 < 0 ∨ 3 < m2 ∨ a2 < 0 ∨ 2 < a2)) (ho : mZ μ 24 i = false) (hm : ¬ m2 = 1) : XMk l E y_MD_open w_MD_open rm_MD_open [.ref md, .int (nI i), .int (m2), .int (a2)] G (fun r G' => r = some (.int (0)) ∧ xMD E G' md a (mOpn (sS μ 0 0) i m2 a2) ∧ xFc G G') 0 0 := by
  refine XM_of [some (.ref md), some (.int (nI i)), some (.int (m2)), some (.int (a2)), none] (XZ_st E) (by decide) rfl rfl rfl (Nat.le_of_ble_eq_true rfl) (fun p e s m below meth c C hnm => ?_)
  refine x_aload_n C d_MD_open_0 rfl rfl ?_
  refine x_iconst C (v := 0) d_MD_open_1 (by decide) ?_
  refine x_mSp C hM 0 (by decide) (x := 0) f_MD_72 rfl rfl rfl d_MD_open_2 (fun _ hMg1 hFg1 => ?_)
  refine x_aload_n C d_MD_open_5 rfl rfl ?_
  refine x_iload_n C d_MD_open_6 rfl rfl ?_
  refine x_callV1 C (q_MD_isView l E hMg1) (lk_MD_92 C.hts (Nat.le_of_ble_eq_true rfl) (Nat.le_of_ble_eq_true rfl)) hMg1.1 rfl rfl d_MD_open_7 (Nat.le_of_ble_eq_true rfl) (Nat.le_of_ble_eq_true rfl) (Nat.le_of_ble_eq_true rfl) (fun r G' h => ?_)
  obtain ⟨rfl, rfl⟩ : r = some (.int (bI (mVw μ (nI i)))) ∧ _ = G' := h
  refine x_if_eq C 31 d_MD_open_10 (by decide) (fun c_10 => ?_) (fun c_10 => ?_)
  · exact absurd (hv.symm.trans ((bI_0 _).mp c_10)) (by decide)
  · refine x_iload_n C d_MD_open_13 rfl rfl ?_
    refine x_if_lt C 31 d_MD_open_14 (by decide) (fun c_14 => ?_) (fun c_14 => ?_)
    · exfalso
      clear C hnm hM
      simp_all
    · refine x_iload_n C d_MD_open_17 rfl rfl ?_
      refine x_iconst C (v := 3) d_MD_open_18 (by decide) ?_
      refine x_icmp_gt C 31 d_MD_open_19 (by decide) (fun c_19 => ?_) (fun c_19 => ?_)
      · exfalso
        clear C hnm hM
        simp_all
      · refine x_iload_n C d_MD_open_22 rfl rfl ?_
        refine x_if_lt C 31 d_MD_open_23 (by decide) (fun c_23 => ?_) (fun c_23 => ?_)
        · exfalso
          clear C hnm hM
          simp_all
        · refine x_iload_n C d_MD_open_26 rfl rfl ?_
          refine x_iconst C (v := 2) d_MD_open_27 (by decide) ?_
          refine x_icmp_le C 33 d_MD_open_28 (by decide) (fun c_28 => ?_) (fun c_28 => ?_)
          · refine x_aload_n C d_MD_open_33 rfl rfl ?_
            refine x_get C hMg1.1 rfl (in_MD _) 24 (by decide) (List.mem_cons_of_mem _ f_MD_63) rfl d_MD_open_34 ?_
            refine x_iload_n C d_MD_open_37 rfl rfl ?_
            refine x_mZv C hMg1 24 5 kZ_24 rfl (j := i) (by omega) (mZ μ 24 i) rfl d_MD_open_38 ?_
            refine x_if_eq C 45 d_MD_open_39 (by decide) (fun c_39 => ?_) (fun c_39 => ?_)
            · refine x_iload_n C d_MD_open_45 rfl rfl ?_
              refine x_iconst C (v := 1) d_MD_open_46 (by decide) ?_
              refine x_icmp_ne C 119 d_MD_open_47 (by decide) (fun c_47 => ?_) (fun c_47 => ?_)
              · refine x_aload_n C d_MD_open_119 rfl rfl ?_
                refine x_iconst C (v := 1) d_MD_open_120 (by decide) ?_
                refine x_mOp C hMg1 true f_MD_84 d_MD_open_121 (fun _ hMg2 hFg2 => ?_)
                refine x_aload_n C d_MD_open_124 rfl rfl ?_
                refine x_get C hMg2.1 rfl (in_MD _) 24 (by decide) (List.mem_cons_of_mem _ f_MD_63) rfl d_MD_open_125 ?_
                refine x_iload_n C d_MD_open_128 rfl rfl ?_
                refine x_iconst C (v := 1) d_MD_open_129 (by decide) ?_
                refine x_mZs C hMg2 24 5 kZ_24 (j := i) true rfl (by omega) d_MD_open_130 (fun _ hMg3 hFg3 => ?_)
                refine x_aload_n C d_MD_open_131 rfl rfl ?_
                refine x_get C hMg3.1 rfl (in_MD _) 15 (by decide) (List.mem_cons_of_mem _ f_MD_36) rfl d_MD_open_132 ?_
                refine x_iload_n C d_MD_open_135 rfl rfl ?_
                refine x_iload_n C d_MD_open_136 rfl rfl ?_
                refine x_mIs C hMg3 15 5 kI_15 (j := i) (x := m2) rfl (by omega) d_MD_open_137 (fun _ hMg4 hFg4 => ?_)
                refine x_aload_n C d_MD_open_138 rfl rfl ?_
                refine x_get C hMg4.1 rfl (in_MD _) 16 (by decide) (List.mem_cons_of_mem _ f_MD_39) rfl d_MD_open_139 ?_
                refine x_iload_n C d_MD_open_142 rfl rfl ?_
                refine x_iload_n C d_MD_open_143 rfl rfl ?_
                refine x_mIs C hMg4 16 5 kI_16 (j := i) (x := a2) rfl (by omega) d_MD_open_144 (fun _ hMg5 hFg5 => ?_)
                refine x_aload_n C d_MD_open_145 rfl rfl ?_
                refine x_get C hMg5.1 rfl (in_MD _) 17 (by decide) (List.mem_cons_of_mem _ f_MD_42) rfl d_MD_open_146 ?_
                refine x_iload_n C d_MD_open_149 rfl rfl ?_
                refine x_iconst C (v := 0) d_MD_open_150 (by decide) ?_
                refine x_mIs C hMg5 17 5 kI_17 (j := i) (x := 0) rfl (by omega) d_MD_open_151 (fun _ hMg6 hFg6 => ?_)
                refine x_aload_n C d_MD_open_152 rfl rfl ?_
                refine x_get C hMg6.1 rfl (in_MD _) 18 (by decide) (List.mem_cons_of_mem _ f_MD_45) rfl d_MD_open_153 ?_
                refine x_iload_n C d_MD_open_156 rfl rfl ?_
                refine x_iconst C (v := 0) d_MD_open_157 (by decide) ?_
                refine x_mIs C hMg6 18 5 kI_18 (j := i) (x := 0) rfl (by omega) d_MD_open_158 (fun _ hMg7 hFg7 => ?_)
                refine x_aload_n C d_MD_open_159 rfl rfl ?_
                refine x_get C hMg7.1 rfl (in_MD _) 20 (by decide) (List.mem_cons_of_mem _ f_MD_51) rfl d_MD_open_160 ?_
                refine x_iload_n C d_MD_open_163 rfl rfl ?_
                refine x_iconst C (v := 0) d_MD_open_164 (by decide) ?_
                refine x_mIs C hMg7 20 5 kI_20 (j := i) (x := 0) rfl (by omega) d_MD_open_165 (fun _ hMg8 hFg8 => ?_)
                refine x_aload_n C d_MD_open_166 rfl rfl ?_
                refine x_get C hMg8.1 rfl (in_MD _) 22 (by decide) (List.mem_cons_of_mem _ f_MD_57) rfl d_MD_open_167 ?_
                refine x_iload_n C d_MD_open_170 rfl rfl ?_
                refine x_lconst C (v := 0) d_MD_open_171 (by decide) ?_
                refine x_mJs C hMg8 22 5 kJ_22 (j := i) (x := 0) rfl (by omega) d_MD_open_172 (fun _ hMg9 hFg9 => ?_)
                refine x_aload_n C d_MD_open_173 rfl rfl ?_
                refine x_get C hMg9.1 rfl (in_MD _) 25 (by decide) (List.mem_cons_of_mem _ f_MD_66) rfl d_MD_open_174 ?_
                refine x_iload_n C d_MD_open_177 rfl rfl ?_
                refine x_iconst C (v := 0) d_MD_open_178 (by decide) ?_
                refine x_mZs C hMg9 25 5 kZ_25 (j := i) false rfl (by omega) d_MD_open_179 (fun _ hMg10 hFg10 => ?_)
                refine x_aload_n C d_MD_open_180 rfl rfl ?_
                refine x_get C hMg10.1 rfl (in_MD _) 26 (by decide) (List.mem_cons_of_mem _ f_MD_69) rfl d_MD_open_181 ?_
                refine x_iload_n C d_MD_open_184 rfl rfl ?_
                refine x_iconst C (v := 0) d_MD_open_185 (by decide) ?_
                refine x_mZs C hMg10 26 5 kZ_26 (j := i) false rfl (by omega) d_MD_open_186 (fun _ hMg11 hFg11 => ?_)
                refine x_iconst C (v := 0) d_MD_open_187 (by decide) ?_
                exact x_iret C (Nat.le_of_ble_eq_true rfl) (Nat.le_of_ble_eq_true rfl) d_MD_open_188 ⟨rfl, hMg11, (((((((((hFg1.tr hFg2).tr hFg3).tr hFg4).tr hFg5).tr hFg6).tr hFg7).tr hFg8).tr hFg9).tr hFg10).tr hFg11⟩
              · exact absurd c_47 hm
            · exact absurd (ho.symm.trans (bI_1 c_39)) (by decide)
          · exfalso
            clear C hnm hM
            simp_all
set_option maxRecDepth 4000 in
set_option maxHeartbeats 800000 in
theorem q_MD_open_out (l : Launch) (E : xE) {G : xw_G} {md : Nat} {a : Nat → Nat} {μ : MS} (hM : xMD E G md a μ) {i : Nat} (hi : i < 5) (hv : mVw μ (nI i) = true) {m2 a2 : Int32} (hb : ¬ (m2 < 0 ∨ 3 < m2 ∨ a2 < 0 ∨ 2 < a2)) (ho : mZ μ 24 i = false) (hm : m2 = 1) : XMk l E y_MD_open w_MD_open rm_MD_open [.ref md, .int (nI i), .int (m2), .int (a2)] G (fun r G' => r = some (.int (0)) ∧ xMD E G' md a (mOpn (mC2 5 0 (mC1 300 0 (sS (sS μ 0 0) 12 0))) i m2 a2) ∧ xFc G G') 0 0 := by
  refine XM_of [some (.ref md), some (.int (nI i)), some (.int (m2)), some (.int (a2)), none] (XZ_st E) (by decide) rfl rfl rfl (Nat.le_of_ble_eq_true rfl) (fun p e s m below meth c C hnm => ?_)
  have loop2 : ∀ (n t : Nat) (μ1 : MS) (G1 : xw_G), t + n = 5 → xMD E G1 md a μ1 → xFc G G1 → mC2 n t μ1 = mC2 5 0 (mC1 300 0 (sS (sS μ 0 0) 12 0)) → XW p l e rm_MD_open s m #[.ref md, .int (nI i), .int (m2), .int (a2)] below meth c (XQ below #[.ref md, .int (nI i), .int (m2), .int (a2)] s (xD E) xcl (xB E) (fun r G' => r = some (.int (0)) ∧ xMD E G' md a (mOpn (mC2 5 0 (mC1 300 0 (sS (sS μ 0 0) 12 0))) i m2 a2) ∧ xFc G G') 0 0) (xD E) xcl (xB E) 83 [some (.ref md), some (.int (nI i)), some (.int (m2)), some (.int (a2)), some (.int (nI t))] [] G1 0 0 := by
    intro n
    induction n with
    | zero =>
      intro t μ1 G1 ht hM1 hF1 hi
      have hi : μ1 = mC2 5 0 (mC1 300 0 (sS (sS μ 0 0) 12 0)) := hi
      refine x_iload C d_MD_open_83 rfl ?_
      refine x_iconst C (v := 5) d_MD_open_85 (by decide) ?_
      refine x_icmp_ge C 119 d_MD_open_86 (by decide) (fun c_86 => ?_) (fun c_86 => ?_)
      · refine x_aload_n C d_MD_open_119 rfl rfl ?_
        refine x_iconst C (v := 1) d_MD_open_120 (by decide) ?_
        refine x_mOp C hM1 true f_MD_84 d_MD_open_121 (fun _ hMg1 hFg1 => ?_)
        refine x_aload_n C d_MD_open_124 rfl rfl ?_
        refine x_get C hMg1.1 rfl (in_MD _) 24 (by decide) (List.mem_cons_of_mem _ f_MD_63) rfl d_MD_open_125 ?_
        refine x_iload_n C d_MD_open_128 rfl rfl ?_
        refine x_iconst C (v := 1) d_MD_open_129 (by decide) ?_
        refine x_mZs C hMg1 24 5 kZ_24 (j := i) true rfl (by omega) d_MD_open_130 (fun _ hMg2 hFg2 => ?_)
        refine x_aload_n C d_MD_open_131 rfl rfl ?_
        refine x_get C hMg2.1 rfl (in_MD _) 15 (by decide) (List.mem_cons_of_mem _ f_MD_36) rfl d_MD_open_132 ?_
        refine x_iload_n C d_MD_open_135 rfl rfl ?_
        refine x_iload_n C d_MD_open_136 rfl rfl ?_
        refine x_mIs C hMg2 15 5 kI_15 (j := i) (x := m2) rfl (by omega) d_MD_open_137 (fun _ hMg3 hFg3 => ?_)
        refine x_aload_n C d_MD_open_138 rfl rfl ?_
        refine x_get C hMg3.1 rfl (in_MD _) 16 (by decide) (List.mem_cons_of_mem _ f_MD_39) rfl d_MD_open_139 ?_
        refine x_iload_n C d_MD_open_142 rfl rfl ?_
        refine x_iload_n C d_MD_open_143 rfl rfl ?_
        refine x_mIs C hMg3 16 5 kI_16 (j := i) (x := a2) rfl (by omega) d_MD_open_144 (fun _ hMg4 hFg4 => ?_)
        refine x_aload_n C d_MD_open_145 rfl rfl ?_
        refine x_get C hMg4.1 rfl (in_MD _) 17 (by decide) (List.mem_cons_of_mem _ f_MD_42) rfl d_MD_open_146 ?_
        refine x_iload_n C d_MD_open_149 rfl rfl ?_
        refine x_iconst C (v := 0) d_MD_open_150 (by decide) ?_
        refine x_mIs C hMg4 17 5 kI_17 (j := i) (x := 0) rfl (by omega) d_MD_open_151 (fun _ hMg5 hFg5 => ?_)
        refine x_aload_n C d_MD_open_152 rfl rfl ?_
        refine x_get C hMg5.1 rfl (in_MD _) 18 (by decide) (List.mem_cons_of_mem _ f_MD_45) rfl d_MD_open_153 ?_
        refine x_iload_n C d_MD_open_156 rfl rfl ?_
        refine x_iconst C (v := 0) d_MD_open_157 (by decide) ?_
        refine x_mIs C hMg5 18 5 kI_18 (j := i) (x := 0) rfl (by omega) d_MD_open_158 (fun _ hMg6 hFg6 => ?_)
        refine x_aload_n C d_MD_open_159 rfl rfl ?_
        refine x_get C hMg6.1 rfl (in_MD _) 20 (by decide) (List.mem_cons_of_mem _ f_MD_51) rfl d_MD_open_160 ?_
        refine x_iload_n C d_MD_open_163 rfl rfl ?_
        refine x_iconst C (v := 0) d_MD_open_164 (by decide) ?_
        refine x_mIs C hMg6 20 5 kI_20 (j := i) (x := 0) rfl (by omega) d_MD_open_165 (fun _ hMg7 hFg7 => ?_)
        refine x_aload_n C d_MD_open_166 rfl rfl ?_
        refine x_get C hMg7.1 rfl (in_MD _) 22 (by decide) (List.mem_cons_of_mem _ f_MD_57) rfl d_MD_open_167 ?_
        refine x_iload_n C d_MD_open_170 rfl rfl ?_
        refine x_lconst C (v := 0) d_MD_open_171 (by decide) ?_
        refine x_mJs C hMg7 22 5 kJ_22 (j := i) (x := 0) rfl (by omega) d_MD_open_172 (fun _ hMg8 hFg8 => ?_)
        refine x_aload_n C d_MD_open_173 rfl rfl ?_
        refine x_get C hMg8.1 rfl (in_MD _) 25 (by decide) (List.mem_cons_of_mem _ f_MD_66) rfl d_MD_open_174 ?_
        refine x_iload_n C d_MD_open_177 rfl rfl ?_
        refine x_iconst C (v := 0) d_MD_open_178 (by decide) ?_
        refine x_mZs C hMg8 25 5 kZ_25 (j := i) false rfl (by omega) d_MD_open_179 (fun _ hMg9 hFg9 => ?_)
        refine x_aload_n C d_MD_open_180 rfl rfl ?_
        refine x_get C hMg9.1 rfl (in_MD _) 26 (by decide) (List.mem_cons_of_mem _ f_MD_69) rfl d_MD_open_181 ?_
        refine x_iload_n C d_MD_open_184 rfl rfl ?_
        refine x_iconst C (v := 0) d_MD_open_185 (by decide) ?_
        refine x_mZs C hMg9 26 5 kZ_26 (j := i) false rfl (by omega) d_MD_open_186 (fun _ hMg10 hFg10 => ?_)
        refine x_iconst C (v := 0) d_MD_open_187 (by decide) ?_
        exact x_iret C (Nat.le_of_ble_eq_true rfl) (Nat.le_of_ble_eq_true rfl) d_MD_open_188 ⟨rfl, by rw [← hi]; exact hMg10, (((((((((hF1.tr hFg1).tr hFg2).tr hFg3).tr hFg4).tr hFg5).tr hFg6).tr hFg7).tr hFg8).tr hFg9).tr hFg10⟩
      · exact absurd (nI_le (a := 5) (b := t) (by omega) (by omega)) c_86
    | succ n ih =>
      intro t μ1 G1 ht hM1 hF1 hi
      refine x_iload C d_MD_open_83 rfl ?_
      refine x_iconst C (v := 5) d_MD_open_85 (by decide) ?_
      refine x_icmp_ge C 119 d_MD_open_86 (by decide) (fun c_86 => ?_) (fun c_86 => ?_)
      · exact absurd c_86 (nI_ge (a := t) (b := 5) (by omega) (by omega))
      · refine x_aload_n C d_MD_open_89 rfl rfl ?_
        refine x_get C hM1.1 rfl (in_MD _) 18 (by decide) (List.mem_cons_of_mem _ f_MD_45) rfl d_MD_open_90 ?_
        refine x_iload C d_MD_open_93 rfl ?_
        refine x_iconst C (v := 3) d_MD_open_95 (by decide) ?_
        refine x_mIs C hM1 18 5 kI_18 (j := t) (x := 3) rfl (by omega) d_MD_open_96 (fun _ hMg1 hFg1 => ?_)
        refine x_aload_n C d_MD_open_97 rfl rfl ?_
        refine x_get C hMg1.1 rfl (in_MD _) 20 (by decide) (List.mem_cons_of_mem _ f_MD_51) rfl d_MD_open_98 ?_
        refine x_iload C d_MD_open_101 rfl ?_
        refine x_iconst C (v := 0) d_MD_open_103 (by decide) ?_
        refine x_mIs C hMg1 20 5 kI_20 (j := t) (x := 0) rfl (by omega) d_MD_open_104 (fun _ hMg2 hFg2 => ?_)
        refine x_aload_n C d_MD_open_105 rfl rfl ?_
        refine x_get C hMg2.1 rfl (in_MD _) 22 (by decide) (List.mem_cons_of_mem _ f_MD_57) rfl d_MD_open_106 ?_
        refine x_iload C d_MD_open_109 rfl ?_
        refine x_lconst C (v := 0) d_MD_open_111 (by decide) ?_
        refine x_mJs C hMg2 22 5 kJ_22 (j := t) (x := 0) rfl (by omega) d_MD_open_112 (fun _ hMg3 hFg3 => ?_)
        refine x_iinc C d_MD_open_113 rfl rfl rfl ?_
        refine x_goto C 83 d_MD_open_116 (by decide) ?_
        rw [show nI t + Int32.ofInt 1 = nI (t + 1) from nI_1 t]
        exact ih (t + 1) _ _ (by omega) hMg3 (((hF1.tr hFg1).tr hFg2).tr hFg3) hi
  have loop1 : ∀ (n t : Nat) (μ1 : MS) (G1 : xw_G), t + n = 300 → xMD E G1 md a μ1 → xFc G G1 → mC1 n t μ1 = mC1 300 0 (sS (sS μ 0 0) 12 0) → XW p l e rm_MD_open s m #[.ref md, .int (nI i), .int (m2), .int (a2)] below meth c (XQ below #[.ref md, .int (nI i), .int (m2), .int (a2)] s (xD E) xcl (xB E) (fun r G' => r = some (.int (0)) ∧ xMD E G' md a (mOpn (mC2 5 0 (mC1 300 0 (sS (sS μ 0 0) 12 0))) i m2 a2) ∧ xFc G G') 0 0) (xD E) xcl (xB E) 58 [some (.ref md), some (.int (nI i)), some (.int (m2)), some (.int (a2)), some (.int (nI t))] [] G1 0 0 := by
    intro n
    induction n with
    | zero =>
      intro t μ1 G1 ht hM1 hF1 hi
      refine x_iload C d_MD_open_58 rfl ?_
      refine x_sipush C (v := 300) d_MD_open_60 (by decide) ?_
      refine x_icmp_ge C 80 d_MD_open_63 (by decide) (fun c_63 => ?_) (fun c_63 => ?_)
      · refine x_iconst C (v := 0) d_MD_open_80 (by decide) ?_
        refine x_istore C d_MD_open_81 (Nat.le_of_ble_eq_true rfl) rfl ?_
        rw [← nI_0]
        exact loop2 5 0 _ _ (by omega) hM1 (hF1) (by rw [← hi]; rfl)
      · exact absurd (nI_le (a := 300) (b := t) (by omega) (by omega)) c_63
    | succ n ih =>
      intro t μ1 G1 ht hM1 hF1 hi
      refine x_iload C d_MD_open_58 rfl ?_
      refine x_sipush C (v := 300) d_MD_open_60 (by decide) ?_
      refine x_icmp_ge C 80 d_MD_open_63 (by decide) (fun c_63 => ?_) (fun c_63 => ?_)
      · exact absurd c_63 (nI_ge (a := t) (b := 300) (by omega) (by omega))
      · refine x_aload_n C d_MD_open_66 rfl rfl ?_
        refine x_get C hM1.1 rfl (in_MD _) 10 (by decide) (List.mem_cons_of_mem _ f_MD_30) rfl d_MD_open_67 ?_
        refine x_iload C d_MD_open_70 rfl ?_
        refine x_iconst C (v := 0) d_MD_open_72 (by decide) ?_
        refine x_mIs C hM1 10 300 kI_10 (j := t) (x := 0) rfl (by omega) d_MD_open_73 (fun _ hMg1 hFg1 => ?_)
        refine x_iinc C d_MD_open_74 rfl rfl rfl ?_
        refine x_goto C 58 d_MD_open_77 (by decide) ?_
        rw [show nI t + Int32.ofInt 1 = nI (t + 1) from nI_1 t]
        exact ih (t + 1) _ _ (by omega) hMg1 (hF1.tr hFg1) hi
  refine x_aload_n C d_MD_open_0 rfl rfl ?_
  refine x_iconst C (v := 0) d_MD_open_1 (by decide) ?_
  refine x_mSp C hM 0 (by decide) (x := 0) f_MD_72 rfl rfl rfl d_MD_open_2 (fun _ hMg1 hFg1 => ?_)
  refine x_aload_n C d_MD_open_5 rfl rfl ?_
  refine x_iload_n C d_MD_open_6 rfl rfl ?_
  refine x_callV1 C (q_MD_isView l E hMg1) (lk_MD_92 C.hts (Nat.le_of_ble_eq_true rfl) (Nat.le_of_ble_eq_true rfl)) hMg1.1 rfl rfl d_MD_open_7 (Nat.le_of_ble_eq_true rfl) (Nat.le_of_ble_eq_true rfl) (Nat.le_of_ble_eq_true rfl) (fun r G' h => ?_)
  obtain ⟨rfl, rfl⟩ : r = some (.int (bI (mVw μ (nI i)))) ∧ _ = G' := h
  refine x_if_eq C 31 d_MD_open_10 (by decide) (fun c_10 => ?_) (fun c_10 => ?_)
  · exact absurd (hv.symm.trans ((bI_0 _).mp c_10)) (by decide)
  · refine x_iload_n C d_MD_open_13 rfl rfl ?_
    refine x_if_lt C 31 d_MD_open_14 (by decide) (fun c_14 => ?_) (fun c_14 => ?_)
    · exfalso
      clear C hnm hM
      simp_all
    · refine x_iload_n C d_MD_open_17 rfl rfl ?_
      refine x_iconst C (v := 3) d_MD_open_18 (by decide) ?_
      refine x_icmp_gt C 31 d_MD_open_19 (by decide) (fun c_19 => ?_) (fun c_19 => ?_)
      · exfalso
        clear C hnm hM
        simp_all
      · refine x_iload_n C d_MD_open_22 rfl rfl ?_
        refine x_if_lt C 31 d_MD_open_23 (by decide) (fun c_23 => ?_) (fun c_23 => ?_)
        · exfalso
          clear C hnm hM
          simp_all
        · refine x_iload_n C d_MD_open_26 rfl rfl ?_
          refine x_iconst C (v := 2) d_MD_open_27 (by decide) ?_
          refine x_icmp_le C 33 d_MD_open_28 (by decide) (fun c_28 => ?_) (fun c_28 => ?_)
          · refine x_aload_n C d_MD_open_33 rfl rfl ?_
            refine x_get C hMg1.1 rfl (in_MD _) 24 (by decide) (List.mem_cons_of_mem _ f_MD_63) rfl d_MD_open_34 ?_
            refine x_iload_n C d_MD_open_37 rfl rfl ?_
            refine x_mZv C hMg1 24 5 kZ_24 rfl (j := i) (by omega) (mZ μ 24 i) rfl d_MD_open_38 ?_
            refine x_if_eq C 45 d_MD_open_39 (by decide) (fun c_39 => ?_) (fun c_39 => ?_)
            · refine x_iload_n C d_MD_open_45 rfl rfl ?_
              refine x_iconst C (v := 1) d_MD_open_46 (by decide) ?_
              refine x_icmp_ne C 119 d_MD_open_47 (by decide) (fun c_47 => ?_) (fun c_47 => ?_)
              · exact absurd hm c_47
              · refine x_aload_n C d_MD_open_50 rfl rfl ?_
                refine x_iconst C (v := 0) d_MD_open_51 (by decide) ?_
                refine x_mSp C hMg1 12 (by decide) (x := 0) f_MD_95 rfl rfl rfl d_MD_open_52 (fun _ hMg2 hFg2 => ?_)
                refine x_iconst C (v := 0) d_MD_open_55 (by decide) ?_
                refine x_istore C d_MD_open_56 (Nat.le_of_ble_eq_true rfl) rfl ?_
                rw [← nI_0]
                exact loop1 300 0 _ _ (by omega) hMg2 (hFg1.tr hFg2) rfl
            · exact absurd (ho.symm.trans (bI_1 c_39)) (by decide)
          · exfalso
            clear C hnm hM
            simp_all
set_option maxRecDepth 4000 in
set_option maxHeartbeats 800000 in
theorem q_MD_read_bad (l : Launch) (E : xE) {G : xw_G} {md : Nat} {a : Nat → Nat} {μ : MS} (hM : xMD E G md a μ) {j j2 : Int32} {kk : Int64} (hb : mVw μ j = false ∨ mKy μ j2 = false) : XMk l E y_MD_read w_MD_read rm_MD_read [.ref md, .int (j), .int (j2), .long (kk)] G (fun r G' => r = some (.int (-1)) ∧ xMD E G' md a (sS μ 0 0) ∧ xFc G G') 0 0 := by
  refine XM_of [some (.ref md), some (.int (j)), some (.int (j2)), some (.long (kk)), none, none] (XZ_st E) (by decide) rfl rfl rfl (Nat.le_of_ble_eq_true rfl) (fun p e s m below meth c C hnm => ?_)
  refine x_aload_n C d_MD_read_0 rfl rfl ?_
  refine x_iconst C (v := 0) d_MD_read_1 (by decide) ?_
  refine x_mSp C hM 0 (by decide) (x := 0) f_MD_72 rfl rfl rfl d_MD_read_2 (fun _ hMg1 hFg1 => ?_)
  refine x_aload_n C d_MD_read_5 rfl rfl ?_
  refine x_iload_n C d_MD_read_6 rfl rfl ?_
  refine x_callV1 C (q_MD_isView l E hMg1) (lk_MD_92 C.hts (Nat.le_of_ble_eq_true rfl) (Nat.le_of_ble_eq_true rfl)) hMg1.1 rfl rfl d_MD_read_7 (Nat.le_of_ble_eq_true rfl) (Nat.le_of_ble_eq_true rfl) (Nat.le_of_ble_eq_true rfl) (fun r G' h => ?_)
  obtain ⟨rfl, rfl⟩ : r = some (.int (bI (mVw μ (j)))) ∧ _ = G' := h
  refine x_if_eq C 21 d_MD_read_10 (by decide) (fun c_10 => ?_) (fun c_10 => ?_)
  · refine x_iconst C (v := -1) d_MD_read_21 (by decide) ?_
    exact x_iret C (Nat.le_of_ble_eq_true rfl) (Nat.le_of_ble_eq_true rfl) d_MD_read_22 ⟨rfl, hMg1, hFg1⟩
  · refine x_aload_n C d_MD_read_13 rfl rfl ?_
    refine x_iload_n C d_MD_read_14 rfl rfl ?_
    refine x_callV1 C (q_MD_isKey l E hMg1) (lk_MD_88 C.hts (Nat.le_of_ble_eq_true rfl) (Nat.le_of_ble_eq_true rfl)) hMg1.1 rfl rfl d_MD_read_15 (Nat.le_of_ble_eq_true rfl) (Nat.le_of_ble_eq_true rfl) (Nat.le_of_ble_eq_true rfl) (fun r G' h => ?_)
    obtain ⟨rfl, rfl⟩ : r = some (.int (bI (mKy μ (j2)))) ∧ _ = G' := h
    refine x_if_ne C 23 d_MD_read_18 (by decide) (fun c_18 => ?_) (fun c_18 => ?_)
    · exact absurd hb (fun z => z.elim (fun z => absurd (z.symm.trans (bI_1 c_10)) (by decide)) (fun z => absurd (z.symm.trans (bI_1 c_18)) (by decide)))
    · refine x_iconst C (v := -1) d_MD_read_21 (by decide) ?_
      exact x_iret C (Nat.le_of_ble_eq_true rfl) (Nat.le_of_ble_eq_true rfl) d_MD_read_22 ⟨rfl, hMg1, hFg1⟩
set_option maxRecDepth 4000 in
set_option maxHeartbeats 800000 in
theorem q_MD_read_ref (l : Launch) (E : xE) {G : xw_G} {md : Nat} {a : Nat → Nat} {μ : MS} (hM : xMD E G md a μ) {i : Nat} (hi : i < 5) (hv : mVw μ (nI i) = true) {k : Nat} (hk : k < 6) (hkv : mKy μ (nI k) = true) {kk : Int64} (hr : ¬ refRead (mZ μ 24 i) (mI μ 15 i) (mI μ 16 i) 0 = 0) : XMk l E y_MD_read w_MD_read rm_MD_read [.ref md, .int (nI i), .int (nI k), .long (kk)] G (fun r G' => r = some (.int (refRead (mZ μ 24 i) (mI μ 15 i) (mI μ 16 i) 0)) ∧ xMD E G' md a (sS μ 0 0) ∧ xFc G G') 0 0 := by
  refine XM_of [some (.ref md), some (.int (nI i)), some (.int (nI k)), some (.long (kk)), none, none] (XZ_st E) (by decide) rfl rfl rfl (Nat.le_of_ble_eq_true rfl) (fun p e s m below meth c C hnm => ?_)
  refine x_aload_n C d_MD_read_0 rfl rfl ?_
  refine x_iconst C (v := 0) d_MD_read_1 (by decide) ?_
  refine x_mSp C hM 0 (by decide) (x := 0) f_MD_72 rfl rfl rfl d_MD_read_2 (fun _ hMg1 hFg1 => ?_)
  refine x_aload_n C d_MD_read_5 rfl rfl ?_
  refine x_iload_n C d_MD_read_6 rfl rfl ?_
  refine x_callV1 C (q_MD_isView l E hMg1) (lk_MD_92 C.hts (Nat.le_of_ble_eq_true rfl) (Nat.le_of_ble_eq_true rfl)) hMg1.1 rfl rfl d_MD_read_7 (Nat.le_of_ble_eq_true rfl) (Nat.le_of_ble_eq_true rfl) (Nat.le_of_ble_eq_true rfl) (fun r G' h => ?_)
  obtain ⟨rfl, rfl⟩ : r = some (.int (bI (mVw μ (nI i)))) ∧ _ = G' := h
  refine x_if_eq C 21 d_MD_read_10 (by decide) (fun c_10 => ?_) (fun c_10 => ?_)
  · exact absurd (hv.symm.trans ((bI_0 _).mp c_10)) (by decide)
  · refine x_aload_n C d_MD_read_13 rfl rfl ?_
    refine x_iload_n C d_MD_read_14 rfl rfl ?_
    refine x_callV1 C (q_MD_isKey l E hMg1) (lk_MD_88 C.hts (Nat.le_of_ble_eq_true rfl) (Nat.le_of_ble_eq_true rfl)) hMg1.1 rfl rfl d_MD_read_15 (Nat.le_of_ble_eq_true rfl) (Nat.le_of_ble_eq_true rfl) (Nat.le_of_ble_eq_true rfl) (fun r G' h => ?_)
    obtain ⟨rfl, rfl⟩ : r = some (.int (bI (mKy μ (nI k)))) ∧ _ = G' := h
    refine x_if_ne C 23 d_MD_read_18 (by decide) (fun c_18 => ?_) (fun c_18 => ?_)
    · refine x_aload_n C d_MD_read_23 rfl rfl ?_
      refine x_get C hMg1.1 rfl (in_MD _) 24 (by decide) (List.mem_cons_of_mem _ f_MD_63) rfl d_MD_read_24 ?_
      refine x_iload_n C d_MD_read_27 rfl rfl ?_
      refine x_mZv C hMg1 24 5 kZ_24 rfl (j := i) (by omega) (mZ μ 24 i) rfl d_MD_read_28 ?_
      refine x_if_ne C 35 d_MD_read_29 (by decide) (fun c_29 => ?_) (fun c_29 => ?_)
      · refine x_aload_n C d_MD_read_35 rfl rfl ?_
        refine x_iload_n C d_MD_read_36 rfl rfl ?_
        refine x_callV1 C (q_MD_reads l E hMg1 (i := i) (by omega)) (lk_MD_165 C.hts (Nat.le_of_ble_eq_true rfl) (Nat.le_of_ble_eq_true rfl)) hMg1.1 rfl rfl d_MD_read_37 (Nat.le_of_ble_eq_true rfl) (Nat.le_of_ble_eq_true rfl) (Nat.le_of_ble_eq_true rfl) (fun r G' h => ?_)
        obtain ⟨rfl, rfl⟩ : r = some (.int (bI (mRd μ i))) ∧ _ = G' := h
        refine x_if_eq C 52 d_MD_read_40 (by decide) (fun c_40 => ?_) (fun c_40 => ?_)
        · refine x_bipush C (v := 47) d_MD_read_52 (by decide) ?_
          exact x_iret C (Nat.le_of_ble_eq_true rfl) (Nat.le_of_ble_eq_true rfl) d_MD_read_54 ⟨congrArg some (congrArg Value.int (by clear C hnm hM; simp_all [refRead, mRd, bI_0])), hMg1, hFg1⟩
        · refine x_aload_n C d_MD_read_43 rfl rfl ?_
          refine x_get C hMg1.1 rfl (in_MD _) 16 (by decide) (List.mem_cons_of_mem _ f_MD_39) rfl d_MD_read_44 ?_
          refine x_iload_n C d_MD_read_47 rfl rfl ?_
          refine x_mIv C hMg1 16 5 kI_16 rfl (j := i) (by omega) (mI μ 16 i) rfl d_MD_read_48 ?_
          refine x_if_ne C 55 d_MD_read_49 (by decide) (fun c_49 => ?_) (fun c_49 => ?_)
          · exfalso
            clear C hnm hM
            simp_all [refRead, mRd, bI_0]
          · refine x_bipush C (v := 47) d_MD_read_52 (by decide) ?_
            exact x_iret C (Nat.le_of_ble_eq_true rfl) (Nat.le_of_ble_eq_true rfl) d_MD_read_54 ⟨congrArg some (congrArg Value.int (by clear C hnm hM; simp_all [refRead, mRd, bI_0])), hMg1, hFg1⟩
      · refine x_bipush C (v := 42) d_MD_read_32 (by decide) ?_
        exact x_iret C (Nat.le_of_ble_eq_true rfl) (Nat.le_of_ble_eq_true rfl) d_MD_read_34 ⟨congrArg some (congrArg Value.int (by clear C hnm hM; simp_all [refRead, mRd, bI_0])), hMg1, hFg1⟩
    · exact absurd (hkv.symm.trans ((bI_0 _).mp c_18)) (by decide)
set_option maxRecDepth 4000 in
set_option maxHeartbeats 800000 in
theorem q_MD_read_23 (l : Launch) (E : xE) {G : xw_G} {md : Nat} {a : Nat → Nat} {μ : MS} (hM : xMD E G md a μ) {i : Nat} (hi : i < 5) (hv : mVw μ (nI i) = true) {k : Nat} (hk : k < 6) (hkv : mKy μ (nI k) = true) {kk : Int64} (hr : refRead (mZ μ 24 i) (mI μ 15 i) (mI μ 16 i) 0 = 0) (ho : ∀ q, mAft μ k kk 0 true = some q → ¬ mF μ k (mJ μ 9 q) = kk) : XMk l E y_MD_read w_MD_read rm_MD_read [.ref md, .int (nI i), .int (nI k), .long (kk)] G (fun r G' => r = some (.int (23)) ∧ xMD E G' md a (sI (sI (mFg (sS μ 0 0) i) 17 i (nI k)) 18 i 3) ∧ xFc G G') 0 0 := by
  refine XM_of [some (.ref md), some (.int (nI i)), some (.int (nI k)), some (.long (kk)), none, none] (XZ_st E) (by decide) rfl rfl rfl (Nat.le_of_ble_eq_true rfl) (fun p e s m below meth c C hnm => ?_)
  refine x_aload_n C d_MD_read_0 rfl rfl ?_
  refine x_iconst C (v := 0) d_MD_read_1 (by decide) ?_
  refine x_mSp C hM 0 (by decide) (x := 0) f_MD_72 rfl rfl rfl d_MD_read_2 (fun _ hMg1 hFg1 => ?_)
  refine x_aload_n C d_MD_read_5 rfl rfl ?_
  refine x_iload_n C d_MD_read_6 rfl rfl ?_
  refine x_callV1 C (q_MD_isView l E hMg1) (lk_MD_92 C.hts (Nat.le_of_ble_eq_true rfl) (Nat.le_of_ble_eq_true rfl)) hMg1.1 rfl rfl d_MD_read_7 (Nat.le_of_ble_eq_true rfl) (Nat.le_of_ble_eq_true rfl) (Nat.le_of_ble_eq_true rfl) (fun r G' h => ?_)
  obtain ⟨rfl, rfl⟩ : r = some (.int (bI (mVw μ (nI i)))) ∧ _ = G' := h
  refine x_if_eq C 21 d_MD_read_10 (by decide) (fun c_10 => ?_) (fun c_10 => ?_)
  · exact absurd (hv.symm.trans ((bI_0 _).mp c_10)) (by decide)
  · refine x_aload_n C d_MD_read_13 rfl rfl ?_
    refine x_iload_n C d_MD_read_14 rfl rfl ?_
    refine x_callV1 C (q_MD_isKey l E hMg1) (lk_MD_88 C.hts (Nat.le_of_ble_eq_true rfl) (Nat.le_of_ble_eq_true rfl)) hMg1.1 rfl rfl d_MD_read_15 (Nat.le_of_ble_eq_true rfl) (Nat.le_of_ble_eq_true rfl) (Nat.le_of_ble_eq_true rfl) (fun r G' h => ?_)
    obtain ⟨rfl, rfl⟩ : r = some (.int (bI (mKy μ (nI k)))) ∧ _ = G' := h
    refine x_if_ne C 23 d_MD_read_18 (by decide) (fun c_18 => ?_) (fun c_18 => ?_)
    · refine x_aload_n C d_MD_read_23 rfl rfl ?_
      refine x_get C hMg1.1 rfl (in_MD _) 24 (by decide) (List.mem_cons_of_mem _ f_MD_63) rfl d_MD_read_24 ?_
      refine x_iload_n C d_MD_read_27 rfl rfl ?_
      refine x_mZv C hMg1 24 5 kZ_24 rfl (j := i) (by omega) (mZ μ 24 i) rfl d_MD_read_28 ?_
      refine x_if_ne C 35 d_MD_read_29 (by decide) (fun c_29 => ?_) (fun c_29 => ?_)
      · refine x_aload_n C d_MD_read_35 rfl rfl ?_
        refine x_iload_n C d_MD_read_36 rfl rfl ?_
        refine x_callV1 C (q_MD_reads l E hMg1 (i := i) (by omega)) (lk_MD_165 C.hts (Nat.le_of_ble_eq_true rfl) (Nat.le_of_ble_eq_true rfl)) hMg1.1 rfl rfl d_MD_read_37 (Nat.le_of_ble_eq_true rfl) (Nat.le_of_ble_eq_true rfl) (Nat.le_of_ble_eq_true rfl) (fun r G' h => ?_)
        obtain ⟨rfl, rfl⟩ : r = some (.int (bI (mRd μ i))) ∧ _ = G' := h
        refine x_if_eq C 52 d_MD_read_40 (by decide) (fun c_40 => ?_) (fun c_40 => ?_)
        · exfalso
          clear C hnm hM
          simp_all [refRead, mRd, bI_0]
        · refine x_aload_n C d_MD_read_43 rfl rfl ?_
          refine x_get C hMg1.1 rfl (in_MD _) 16 (by decide) (List.mem_cons_of_mem _ f_MD_39) rfl d_MD_read_44 ?_
          refine x_iload_n C d_MD_read_47 rfl rfl ?_
          refine x_mIv C hMg1 16 5 kI_16 rfl (j := i) (by omega) (mI μ 16 i) rfl d_MD_read_48 ?_
          refine x_if_ne C 55 d_MD_read_49 (by decide) (fun c_49 => ?_) (fun c_49 => ?_)
          · refine x_aload_n C d_MD_read_55 rfl rfl ?_
            refine x_iload_n C d_MD_read_56 rfl rfl ?_
            refine x_callV1 C (q_MD_forget l E hMg1 (i := i) (by omega)) (lk_MD_150 C.hts (Nat.le_of_ble_eq_true rfl) (Nat.le_of_ble_eq_true rfl)) hMg1.1 rfl rfl d_MD_read_57 (Nat.le_of_ble_eq_true rfl) (Nat.le_of_ble_eq_true rfl) (Nat.le_of_ble_eq_true rfl) (fun r G' h => ?_)
            obtain ⟨rfl, hMg2, hFg2⟩ : r = none ∧ xMD E G' md a (mFg (sS μ 0 (0)) i) ∧ xFc _ G' := h
            refine x_aload_n C d_MD_read_60 rfl rfl ?_
            refine x_iload_n C d_MD_read_61 rfl rfl ?_
            refine x_lload_n C d_MD_read_62 rfl rfl ?_
            refine x_iconst C (v := 0) d_MD_read_63 (by decide) ?_
            refine x_iconst C (v := 1) d_MD_read_64 (by decide) ?_
            refine x_callV4 C (q_MD_after l E hMg2 (k := k) (th := true) (by omega)) (lk_MD_133 C.hts (Nat.le_of_ble_eq_true rfl) (Nat.le_of_ble_eq_true rfl)) hMg2.1 rfl rfl d_MD_read_65 (Nat.le_of_ble_eq_true rfl) (Nat.le_of_ble_eq_true rfl) (Nat.le_of_ble_eq_true rfl) (fun r G' h => ?_)
            obtain ⟨rfl, rfl⟩ : r = some (.int (oI (mAft μ k (kk) (0) true))) ∧ _ = G' := h
            refine x_istore C d_MD_read_68 (Nat.le_of_ble_eq_true rfl) rfl ?_
            rcases ho0 : mAft μ k kk 0 true with _ | q
            · have hq3 : True := trivial
              refine x_iload C d_MD_read_70 rfl ?_
              refine x_iconst C (v := -1) d_MD_read_72 (by decide) ?_
              refine x_icmp_eq C 103 d_MD_read_73 (by decide) (fun c_73 => ?_) (fun c_73 => ?_)
              · refine x_aload_n C d_MD_read_103 rfl rfl ?_
                refine x_get C hMg2.1 rfl (in_MD _) 17 (by decide) (List.mem_cons_of_mem _ f_MD_42) rfl d_MD_read_104 ?_
                refine x_iload_n C d_MD_read_107 rfl rfl ?_
                refine x_iload_n C d_MD_read_108 rfl rfl ?_
                refine x_mIs C hMg2 17 5 kI_17 (j := i) (x := nI k) rfl (by omega) d_MD_read_109 (fun _ hMg3 hFg3 => ?_)
                refine x_aload_n C d_MD_read_110 rfl rfl ?_
                refine x_get C hMg3.1 rfl (in_MD _) 18 (by decide) (List.mem_cons_of_mem _ f_MD_45) rfl d_MD_read_111 ?_
                refine x_iload_n C d_MD_read_114 rfl rfl ?_
                refine x_iconst C (v := 3) d_MD_read_115 (by decide) ?_
                refine x_mIs C hMg3 18 5 kI_18 (j := i) (x := 3) rfl (by omega) d_MD_read_116 (fun _ hMg4 hFg4 => ?_)
                refine x_bipush C (v := 23) d_MD_read_117 (by decide) ?_
                exact x_iret C (Nat.le_of_ble_eq_true rfl) (Nat.le_of_ble_eq_true rfl) d_MD_read_119 ⟨rfl, hMg4, ((hFg1.tr hFg2).tr hFg3).tr hFg4⟩
              · exact absurd c_73 (by decide)
            · have hq3 := mAft_lt ho0
              refine x_iload C d_MD_read_70 rfl ?_
              refine x_iconst C (v := -1) d_MD_read_72 (by decide) ?_
              refine x_icmp_eq C 103 d_MD_read_73 (by decide) (fun c_73 => ?_) (fun c_73 => ?_)
              · exact absurd c_73 (nI_m1 (by omega))
              · refine x_aload_n C d_MD_read_76 rfl rfl ?_
                refine x_iload_n C d_MD_read_77 rfl rfl ?_
                refine x_aload_n C d_MD_read_78 rfl rfl ?_
                refine x_get C hMg2.1 rfl (in_MD _) 9 (by decide) (List.mem_cons_of_mem _ f_MD_27) rfl d_MD_read_79 ?_
                refine x_iload C d_MD_read_82 rfl ?_
                refine x_mJv C hMg2 9 300 kJ_9 rfl (j := q) (by omega) (mJ μ 9 q) rfl d_MD_read_84 ?_
                refine x_callV2 C (q_MD_field l E hMg2 (k := k) (by omega)) (lk_MD_98 C.hts (Nat.le_of_ble_eq_true rfl) (Nat.le_of_ble_eq_true rfl)) hMg2.1 rfl rfl d_MD_read_85 (Nat.le_of_ble_eq_true rfl) (Nat.le_of_ble_eq_true rfl) (Nat.le_of_ble_eq_true rfl) (fun r G' h => ?_)
                obtain ⟨rfl, rfl⟩ : r = some (.long (mF μ k (mJ μ 9 q))) ∧ _ = G' := h
                refine x_lload_n C d_MD_read_88 rfl rfl ?_
                refine x_lcmp C d_MD_read_89 ?_
                refine x_if_ne C 103 d_MD_read_90 (by decide) (fun c_90 => ?_) (fun c_90 => ?_)
                · refine x_aload_n C d_MD_read_103 rfl rfl ?_
                  refine x_get C hMg2.1 rfl (in_MD _) 17 (by decide) (List.mem_cons_of_mem _ f_MD_42) rfl d_MD_read_104 ?_
                  refine x_iload_n C d_MD_read_107 rfl rfl ?_
                  refine x_iload_n C d_MD_read_108 rfl rfl ?_
                  refine x_mIs C hMg2 17 5 kI_17 (j := i) (x := nI k) rfl (by omega) d_MD_read_109 (fun _ hMg5 hFg5 => ?_)
                  refine x_aload_n C d_MD_read_110 rfl rfl ?_
                  refine x_get C hMg5.1 rfl (in_MD _) 18 (by decide) (List.mem_cons_of_mem _ f_MD_45) rfl d_MD_read_111 ?_
                  refine x_iload_n C d_MD_read_114 rfl rfl ?_
                  refine x_iconst C (v := 3) d_MD_read_115 (by decide) ?_
                  refine x_mIs C hMg5 18 5 kI_18 (j := i) (x := 3) rfl (by omega) d_MD_read_116 (fun _ hMg6 hFg6 => ?_)
                  refine x_bipush C (v := 23) d_MD_read_117 (by decide) ?_
                  exact x_iret C (Nat.le_of_ble_eq_true rfl) (Nat.le_of_ble_eq_true rfl) d_MD_read_119 ⟨rfl, hMg6, ((hFg1.tr hFg2).tr hFg5).tr hFg6⟩
                · exact absurd ((lg_eq _ _).mp c_90) (ho q ho0)
          · exfalso
            clear C hnm hM
            simp_all [refRead, mRd, bI_0]
      · exfalso
        clear C hnm hM
        simp_all [refRead, mRd, bI_0]
    · exact absurd (hkv.symm.trans ((bI_0 _).mp c_18)) (by decide)
set_option maxRecDepth 4000 in
set_option maxHeartbeats 800000 in
theorem q_MD_read_got (l : Launch) (E : xE) {G : xw_G} {md : Nat} {a : Nat → Nat} {μ : MS} (hM : xMD E G md a μ) {i : Nat} (hi : i < 5) (hv : mVw μ (nI i) = true) {k : Nat} (hk : k < 6) (hkv : mKy μ (nI k) = true) {kk : Int64} (hr : refRead (mZ μ 24 i) (mI μ 15 i) (mI μ 16 i) 0 = 0) {q : Nat} (hq : mAft μ k kk 0 true = some q) (hf : mF μ k (mJ μ 9 q) = kk) : XMk l E y_MD_read w_MD_read rm_MD_read [.ref md, .int (nI i), .int (nI k), .long (kk)] G (fun r G' => r = some (.int (mSta μ k q false)) ∧ xMD E G' md a (mGo (mFg (sS μ 0 0) i) i k q) ∧ xFc G G') 0 0 := by
  refine XM_of [some (.ref md), some (.int (nI i)), some (.int (nI k)), some (.long (kk)), none, none] (XZ_st E) (by decide) rfl rfl rfl (Nat.le_of_ble_eq_true rfl) (fun p e s m below meth c C hnm => ?_)
  have hq3 := mAft_lt hq
  refine x_aload_n C d_MD_read_0 rfl rfl ?_
  refine x_iconst C (v := 0) d_MD_read_1 (by decide) ?_
  refine x_mSp C hM 0 (by decide) (x := 0) f_MD_72 rfl rfl rfl d_MD_read_2 (fun _ hMg1 hFg1 => ?_)
  refine x_aload_n C d_MD_read_5 rfl rfl ?_
  refine x_iload_n C d_MD_read_6 rfl rfl ?_
  refine x_callV1 C (q_MD_isView l E hMg1) (lk_MD_92 C.hts (Nat.le_of_ble_eq_true rfl) (Nat.le_of_ble_eq_true rfl)) hMg1.1 rfl rfl d_MD_read_7 (Nat.le_of_ble_eq_true rfl) (Nat.le_of_ble_eq_true rfl) (Nat.le_of_ble_eq_true rfl) (fun r G' h => ?_)
  obtain ⟨rfl, rfl⟩ : r = some (.int (bI (mVw μ (nI i)))) ∧ _ = G' := h
  refine x_if_eq C 21 d_MD_read_10 (by decide) (fun c_10 => ?_) (fun c_10 => ?_)
  · exact absurd (hv.symm.trans ((bI_0 _).mp c_10)) (by decide)
  · refine x_aload_n C d_MD_read_13 rfl rfl ?_
    refine x_iload_n C d_MD_read_14 rfl rfl ?_
    refine x_callV1 C (q_MD_isKey l E hMg1) (lk_MD_88 C.hts (Nat.le_of_ble_eq_true rfl) (Nat.le_of_ble_eq_true rfl)) hMg1.1 rfl rfl d_MD_read_15 (Nat.le_of_ble_eq_true rfl) (Nat.le_of_ble_eq_true rfl) (Nat.le_of_ble_eq_true rfl) (fun r G' h => ?_)
    obtain ⟨rfl, rfl⟩ : r = some (.int (bI (mKy μ (nI k)))) ∧ _ = G' := h
    refine x_if_ne C 23 d_MD_read_18 (by decide) (fun c_18 => ?_) (fun c_18 => ?_)
    · refine x_aload_n C d_MD_read_23 rfl rfl ?_
      refine x_get C hMg1.1 rfl (in_MD _) 24 (by decide) (List.mem_cons_of_mem _ f_MD_63) rfl d_MD_read_24 ?_
      refine x_iload_n C d_MD_read_27 rfl rfl ?_
      refine x_mZv C hMg1 24 5 kZ_24 rfl (j := i) (by omega) (mZ μ 24 i) rfl d_MD_read_28 ?_
      refine x_if_ne C 35 d_MD_read_29 (by decide) (fun c_29 => ?_) (fun c_29 => ?_)
      · refine x_aload_n C d_MD_read_35 rfl rfl ?_
        refine x_iload_n C d_MD_read_36 rfl rfl ?_
        refine x_callV1 C (q_MD_reads l E hMg1 (i := i) (by omega)) (lk_MD_165 C.hts (Nat.le_of_ble_eq_true rfl) (Nat.le_of_ble_eq_true rfl)) hMg1.1 rfl rfl d_MD_read_37 (Nat.le_of_ble_eq_true rfl) (Nat.le_of_ble_eq_true rfl) (Nat.le_of_ble_eq_true rfl) (fun r G' h => ?_)
        obtain ⟨rfl, rfl⟩ : r = some (.int (bI (mRd μ i))) ∧ _ = G' := h
        refine x_if_eq C 52 d_MD_read_40 (by decide) (fun c_40 => ?_) (fun c_40 => ?_)
        · exfalso
          clear C hnm hM
          simp_all [refRead, mRd, bI_0]
        · refine x_aload_n C d_MD_read_43 rfl rfl ?_
          refine x_get C hMg1.1 rfl (in_MD _) 16 (by decide) (List.mem_cons_of_mem _ f_MD_39) rfl d_MD_read_44 ?_
          refine x_iload_n C d_MD_read_47 rfl rfl ?_
          refine x_mIv C hMg1 16 5 kI_16 rfl (j := i) (by omega) (mI μ 16 i) rfl d_MD_read_48 ?_
          refine x_if_ne C 55 d_MD_read_49 (by decide) (fun c_49 => ?_) (fun c_49 => ?_)
          · refine x_aload_n C d_MD_read_55 rfl rfl ?_
            refine x_iload_n C d_MD_read_56 rfl rfl ?_
            refine x_callV1 C (q_MD_forget l E hMg1 (i := i) (by omega)) (lk_MD_150 C.hts (Nat.le_of_ble_eq_true rfl) (Nat.le_of_ble_eq_true rfl)) hMg1.1 rfl rfl d_MD_read_57 (Nat.le_of_ble_eq_true rfl) (Nat.le_of_ble_eq_true rfl) (Nat.le_of_ble_eq_true rfl) (fun r G' h => ?_)
            obtain ⟨rfl, hMg2, hFg2⟩ : r = none ∧ xMD E G' md a (mFg (sS μ 0 (0)) i) ∧ xFc _ G' := h
            refine x_aload_n C d_MD_read_60 rfl rfl ?_
            refine x_iload_n C d_MD_read_61 rfl rfl ?_
            refine x_lload_n C d_MD_read_62 rfl rfl ?_
            refine x_iconst C (v := 0) d_MD_read_63 (by decide) ?_
            refine x_iconst C (v := 1) d_MD_read_64 (by decide) ?_
            refine x_callV4 C (q_MD_after l E hMg2 (k := k) (th := true) (by omega)) (lk_MD_133 C.hts (Nat.le_of_ble_eq_true rfl) (Nat.le_of_ble_eq_true rfl)) hMg2.1 rfl rfl d_MD_read_65 (Nat.le_of_ble_eq_true rfl) (Nat.le_of_ble_eq_true rfl) (Nat.le_of_ble_eq_true rfl) (fun r G' h => ?_)
            obtain ⟨rfl, rfl⟩ : r = some (.int (oI (mAft μ k (kk) (0) true))) ∧ _ = G' := h
            refine x_istore C d_MD_read_68 (Nat.le_of_ble_eq_true rfl) rfl ?_
            rw [hq]
            refine x_iload C d_MD_read_70 rfl ?_
            refine x_iconst C (v := -1) d_MD_read_72 (by decide) ?_
            refine x_icmp_eq C 103 d_MD_read_73 (by decide) (fun c_73 => ?_) (fun c_73 => ?_)
            · exact absurd c_73 (nI_m1 (by omega))
            · refine x_aload_n C d_MD_read_76 rfl rfl ?_
              refine x_iload_n C d_MD_read_77 rfl rfl ?_
              refine x_aload_n C d_MD_read_78 rfl rfl ?_
              refine x_get C hMg2.1 rfl (in_MD _) 9 (by decide) (List.mem_cons_of_mem _ f_MD_27) rfl d_MD_read_79 ?_
              refine x_iload C d_MD_read_82 rfl ?_
              refine x_mJv C hMg2 9 300 kJ_9 rfl (j := q) (by omega) (mJ μ 9 q) rfl d_MD_read_84 ?_
              refine x_callV2 C (q_MD_field l E hMg2 (k := k) (by omega)) (lk_MD_98 C.hts (Nat.le_of_ble_eq_true rfl) (Nat.le_of_ble_eq_true rfl)) hMg2.1 rfl rfl d_MD_read_85 (Nat.le_of_ble_eq_true rfl) (Nat.le_of_ble_eq_true rfl) (Nat.le_of_ble_eq_true rfl) (fun r G' h => ?_)
              obtain ⟨rfl, rfl⟩ : r = some (.long (mF μ k (mJ μ 9 q))) ∧ _ = G' := h
              refine x_lload_n C d_MD_read_88 rfl rfl ?_
              refine x_lcmp C d_MD_read_89 ?_
              refine x_if_ne C 103 d_MD_read_90 (by decide) (fun c_90 => ?_) (fun c_90 => ?_)
              · exact absurd ((lg_eq _ _).mpr hf) c_90
              · refine x_aload_n C d_MD_read_93 rfl rfl ?_
                refine x_iload_n C d_MD_read_94 rfl rfl ?_
                refine x_iload_n C d_MD_read_95 rfl rfl ?_
                refine x_iload C d_MD_read_96 rfl ?_
                refine x_iconst C (v := 0) d_MD_read_98 (by decide) ?_
                refine x_callV4 C (q_MD_got l E hMg2 (i := i) (k := k) (sl := q) (back := false) (by omega) (by omega) (by omega)) (lk_MD_168 C.hts (Nat.le_of_ble_eq_true rfl) (Nat.le_of_ble_eq_true rfl)) hMg2.1 rfl rfl d_MD_read_99 (Nat.le_of_ble_eq_true rfl) (Nat.le_of_ble_eq_true rfl) (Nat.le_of_ble_eq_true rfl) (fun r G' h => ?_)
                obtain ⟨rfl, hMg3, hFg3⟩ : r = some (.int (mSta μ k q false)) ∧ xMD E G' md a (mGo (mFg (sS μ 0 (0)) i) i k q) ∧ xFc _ G' := h
                exact x_iret C (Nat.le_of_ble_eq_true rfl) (Nat.le_of_ble_eq_true rfl) d_MD_read_102 ⟨rfl, hMg3, (hFg1.tr hFg2).tr hFg3⟩
          · exfalso
            clear C hnm hM
            simp_all [refRead, mRd, bI_0]
      · exfalso
        clear C hnm hM
        simp_all [refRead, mRd, bI_0]
    · exact absurd (hkv.symm.trans ((bI_0 _).mp c_18)) (by decide)
set_option maxRecDepth 4000 in
set_option maxHeartbeats 800000 in
theorem q_MD_next_nv (l : Launch) (E : xE) {G : xw_G} {md : Nat} {a : Nat → Nat} {μ : MS} (hM : xMD E G md a μ) {j : Int32} (hj : mVw μ j = false) {back : Bool} : XMk l E y_MD_next w_MD_next rm_MD_next [.ref md, .int (j), .int (bI back)] G (fun r G' => r = some (.int (-1)) ∧ xMD E G' md a (sS μ 0 0) ∧ xFc G G') 0 0 := by
  refine XM_of [some (.ref md), some (.int (j)), some (.int (bI back)), none, none, none, none, none] (XZ_st E) (by decide) rfl rfl rfl (Nat.le_of_ble_eq_true rfl) (fun p e s m below meth c C hnm => ?_)
  refine x_aload_n C d_MD_next_0 rfl rfl ?_
  refine x_iconst C (v := 0) d_MD_next_1 (by decide) ?_
  refine x_mSp C hM 0 (by decide) (x := 0) f_MD_72 rfl rfl rfl d_MD_next_2 (fun _ hMg1 hFg1 => ?_)
  refine x_aload_n C d_MD_next_5 rfl rfl ?_
  refine x_iload_n C d_MD_next_6 rfl rfl ?_
  refine x_callV1 C (q_MD_isView l E hMg1) (lk_MD_92 C.hts (Nat.le_of_ble_eq_true rfl) (Nat.le_of_ble_eq_true rfl)) hMg1.1 rfl rfl d_MD_next_7 (Nat.le_of_ble_eq_true rfl) (Nat.le_of_ble_eq_true rfl) (Nat.le_of_ble_eq_true rfl) (fun r G' h => ?_)
  obtain ⟨rfl, rfl⟩ : r = some (.int (bI (mVw μ (j)))) ∧ _ = G' := h
  refine x_if_ne C 15 d_MD_next_10 (by decide) (fun c_10 => ?_) (fun c_10 => ?_)
  · exact absurd (hj.symm.trans (bI_1 c_10)) (by decide)
  · refine x_iconst C (v := -1) d_MD_next_13 (by decide) ?_
    exact x_iret C (Nat.le_of_ble_eq_true rfl) (Nat.le_of_ble_eq_true rfl) d_MD_next_14 ⟨rfl, hMg1, hFg1⟩
set_option maxRecDepth 4000 in
set_option maxHeartbeats 800000 in
theorem q_MD_next_ref (l : Launch) (E : xE) {G : xw_G} {md : Nat} {a : Nat → Nat} {μ : MS} (hM : xMD E G md a μ) {i : Nat} (hi : i < 5) (hv : mVw μ (nI i) = true) {back : Bool} (hr : ¬ refRead (mZ μ 24 i) (mI μ 15 i) (mI μ 16 i) 1 = 0) : XMk l E y_MD_next w_MD_next rm_MD_next [.ref md, .int (nI i), .int (bI back)] G (fun r G' => r = some (.int (refRead (mZ μ 24 i) (mI μ 15 i) (mI μ 16 i) 1)) ∧ xMD E G' md a (sS μ 0 0) ∧ xFc G G') 0 0 := by
  refine XM_of [some (.ref md), some (.int (nI i)), some (.int (bI back)), none, none, none, none, none] (XZ_st E) (by decide) rfl rfl rfl (Nat.le_of_ble_eq_true rfl) (fun p e s m below meth c C hnm => ?_)
  refine x_aload_n C d_MD_next_0 rfl rfl ?_
  refine x_iconst C (v := 0) d_MD_next_1 (by decide) ?_
  refine x_mSp C hM 0 (by decide) (x := 0) f_MD_72 rfl rfl rfl d_MD_next_2 (fun _ hMg1 hFg1 => ?_)
  refine x_aload_n C d_MD_next_5 rfl rfl ?_
  refine x_iload_n C d_MD_next_6 rfl rfl ?_
  refine x_callV1 C (q_MD_isView l E hMg1) (lk_MD_92 C.hts (Nat.le_of_ble_eq_true rfl) (Nat.le_of_ble_eq_true rfl)) hMg1.1 rfl rfl d_MD_next_7 (Nat.le_of_ble_eq_true rfl) (Nat.le_of_ble_eq_true rfl) (Nat.le_of_ble_eq_true rfl) (fun r G' h => ?_)
  obtain ⟨rfl, rfl⟩ : r = some (.int (bI (mVw μ (nI i)))) ∧ _ = G' := h
  refine x_if_ne C 15 d_MD_next_10 (by decide) (fun c_10 => ?_) (fun c_10 => ?_)
  · refine x_aload_n C d_MD_next_15 rfl rfl ?_
    refine x_get C hMg1.1 rfl (in_MD _) 24 (by decide) (List.mem_cons_of_mem _ f_MD_63) rfl d_MD_next_16 ?_
    refine x_iload_n C d_MD_next_19 rfl rfl ?_
    refine x_mZv C hMg1 24 5 kZ_24 rfl (j := i) (by omega) (mZ μ 24 i) rfl d_MD_next_20 ?_
    refine x_if_ne C 27 d_MD_next_21 (by decide) (fun c_21 => ?_) (fun c_21 => ?_)
    · refine x_aload_n C d_MD_next_27 rfl rfl ?_
      refine x_iload_n C d_MD_next_28 rfl rfl ?_
      refine x_callV1 C (q_MD_reads l E hMg1 (i := i) (by omega)) (lk_MD_165 C.hts (Nat.le_of_ble_eq_true rfl) (Nat.le_of_ble_eq_true rfl)) hMg1.1 rfl rfl d_MD_next_29 (Nat.le_of_ble_eq_true rfl) (Nat.le_of_ble_eq_true rfl) (Nat.le_of_ble_eq_true rfl) (fun r G' h => ?_)
      obtain ⟨rfl, rfl⟩ : r = some (.int (bI (mRd μ i))) ∧ _ = G' := h
      refine x_if_eq C 45 d_MD_next_32 (by decide) (fun c_32 => ?_) (fun c_32 => ?_)
      · refine x_bipush C (v := 47) d_MD_next_45 (by decide) ?_
        exact x_iret C (Nat.le_of_ble_eq_true rfl) (Nat.le_of_ble_eq_true rfl) d_MD_next_47 ⟨congrArg some (congrArg Value.int (by clear C hnm hM; simp_all [refRead, mRd, bI_0])), hMg1, hFg1⟩
      · refine x_aload_n C d_MD_next_35 rfl rfl ?_
        refine x_get C hMg1.1 rfl (in_MD _) 16 (by decide) (List.mem_cons_of_mem _ f_MD_39) rfl d_MD_next_36 ?_
        refine x_iload_n C d_MD_next_39 rfl rfl ?_
        refine x_mIv C hMg1 16 5 kI_16 rfl (j := i) (by omega) (mI μ 16 i) rfl d_MD_next_40 ?_
        refine x_iconst C (v := 1) d_MD_next_41 (by decide) ?_
        refine x_icmp_ne C 48 d_MD_next_42 (by decide) (fun c_42 => ?_) (fun c_42 => ?_)
        · exfalso
          clear C hnm hM
          simp_all [refRead, mRd, bI_0]
        · refine x_bipush C (v := 47) d_MD_next_45 (by decide) ?_
          exact x_iret C (Nat.le_of_ble_eq_true rfl) (Nat.le_of_ble_eq_true rfl) d_MD_next_47 ⟨congrArg some (congrArg Value.int (by clear C hnm hM; simp_all [refRead, mRd, bI_0])), hMg1, hFg1⟩
    · refine x_bipush C (v := 42) d_MD_next_24 (by decide) ?_
      exact x_iret C (Nat.le_of_ble_eq_true rfl) (Nat.le_of_ble_eq_true rfl) d_MD_next_26 ⟨congrArg some (congrArg Value.int (by clear C hnm hM; simp_all [refRead, mRd, bI_0])), hMg1, hFg1⟩
  · exact absurd (hv.symm.trans ((bI_0 _).mp c_10)) (by decide)
set_option maxRecDepth 4000 in
set_option maxHeartbeats 800000 in
theorem q_MD_next_46 (l : Launch) (E : xE) {G : xw_G} {md : Nat} {a : Nat → Nat} {μ : MS} (hM : xMD E G md a μ) {i : Nat} (hi : i < 5) (hv : mVw μ (nI i) = true) {back : Bool} (hr : refRead (mZ μ 24 i) (mI μ 15 i) (mI μ 16 i) 1 = 0) (hb : mI μ 18 i = 3 ∨ mZ μ 25 i = true) : XMk l E y_MD_next w_MD_next rm_MD_next [.ref md, .int (nI i), .int (bI back)] G (fun r G' => r = some (.int (46)) ∧ xMD E G' md a ((mFg (sS μ 0 0) i)) ∧ xFc G G') 0 0 := by
  refine XM_of [some (.ref md), some (.int (nI i)), some (.int (bI back)), none, none, none, none, none] (XZ_st E) (by decide) rfl rfl rfl (Nat.le_of_ble_eq_true rfl) (fun p e s m below meth c C hnm => ?_)
  refine x_aload_n C d_MD_next_0 rfl rfl ?_
  refine x_iconst C (v := 0) d_MD_next_1 (by decide) ?_
  refine x_mSp C hM 0 (by decide) (x := 0) f_MD_72 rfl rfl rfl d_MD_next_2 (fun _ hMg1 hFg1 => ?_)
  refine x_aload_n C d_MD_next_5 rfl rfl ?_
  refine x_iload_n C d_MD_next_6 rfl rfl ?_
  refine x_callV1 C (q_MD_isView l E hMg1) (lk_MD_92 C.hts (Nat.le_of_ble_eq_true rfl) (Nat.le_of_ble_eq_true rfl)) hMg1.1 rfl rfl d_MD_next_7 (Nat.le_of_ble_eq_true rfl) (Nat.le_of_ble_eq_true rfl) (Nat.le_of_ble_eq_true rfl) (fun r G' h => ?_)
  obtain ⟨rfl, rfl⟩ : r = some (.int (bI (mVw μ (nI i)))) ∧ _ = G' := h
  refine x_if_ne C 15 d_MD_next_10 (by decide) (fun c_10 => ?_) (fun c_10 => ?_)
  · refine x_aload_n C d_MD_next_15 rfl rfl ?_
    refine x_get C hMg1.1 rfl (in_MD _) 24 (by decide) (List.mem_cons_of_mem _ f_MD_63) rfl d_MD_next_16 ?_
    refine x_iload_n C d_MD_next_19 rfl rfl ?_
    refine x_mZv C hMg1 24 5 kZ_24 rfl (j := i) (by omega) (mZ μ 24 i) rfl d_MD_next_20 ?_
    refine x_if_ne C 27 d_MD_next_21 (by decide) (fun c_21 => ?_) (fun c_21 => ?_)
    · refine x_aload_n C d_MD_next_27 rfl rfl ?_
      refine x_iload_n C d_MD_next_28 rfl rfl ?_
      refine x_callV1 C (q_MD_reads l E hMg1 (i := i) (by omega)) (lk_MD_165 C.hts (Nat.le_of_ble_eq_true rfl) (Nat.le_of_ble_eq_true rfl)) hMg1.1 rfl rfl d_MD_next_29 (Nat.le_of_ble_eq_true rfl) (Nat.le_of_ble_eq_true rfl) (Nat.le_of_ble_eq_true rfl) (fun r G' h => ?_)
      obtain ⟨rfl, rfl⟩ : r = some (.int (bI (mRd μ i))) ∧ _ = G' := h
      refine x_if_eq C 45 d_MD_next_32 (by decide) (fun c_32 => ?_) (fun c_32 => ?_)
      · exfalso
        clear C hnm hM
        simp_all [refRead, mRd, bI_0]
      · refine x_aload_n C d_MD_next_35 rfl rfl ?_
        refine x_get C hMg1.1 rfl (in_MD _) 16 (by decide) (List.mem_cons_of_mem _ f_MD_39) rfl d_MD_next_36 ?_
        refine x_iload_n C d_MD_next_39 rfl rfl ?_
        refine x_mIv C hMg1 16 5 kI_16 rfl (j := i) (by omega) (mI μ 16 i) rfl d_MD_next_40 ?_
        refine x_iconst C (v := 1) d_MD_next_41 (by decide) ?_
        refine x_icmp_ne C 48 d_MD_next_42 (by decide) (fun c_42 => ?_) (fun c_42 => ?_)
        · refine x_aload_n C d_MD_next_48 rfl rfl ?_
          refine x_iload_n C d_MD_next_49 rfl rfl ?_
          refine x_callV1 C (q_MD_forget l E hMg1 (i := i) (by omega)) (lk_MD_150 C.hts (Nat.le_of_ble_eq_true rfl) (Nat.le_of_ble_eq_true rfl)) hMg1.1 rfl rfl d_MD_next_50 (Nat.le_of_ble_eq_true rfl) (Nat.le_of_ble_eq_true rfl) (Nat.le_of_ble_eq_true rfl) (fun r G' h => ?_)
          obtain ⟨rfl, hMg2, hFg2⟩ : r = none ∧ xMD E G' md a (mFg (sS μ 0 (0)) i) ∧ xFc _ G' := h
          refine x_aload_n C d_MD_next_53 rfl rfl ?_
          refine x_get C hMg2.1 rfl (in_MD _) 18 (by decide) (List.mem_cons_of_mem _ f_MD_45) rfl d_MD_next_54 ?_
          refine x_iload_n C d_MD_next_57 rfl rfl ?_
          refine x_mIv C hMg2 18 5 kI_18 rfl (j := i) (by omega) (mI μ 18 i) rfl d_MD_next_58 ?_
          refine x_iconst C (v := 3) d_MD_next_59 (by decide) ?_
          refine x_icmp_eq C 72 d_MD_next_60 (by decide) (fun c_60 => ?_) (fun c_60 => ?_)
          · refine x_bipush C (v := 46) d_MD_next_72 (by decide) ?_
            exact x_iret C (Nat.le_of_ble_eq_true rfl) (Nat.le_of_ble_eq_true rfl) d_MD_next_74 ⟨rfl, hMg2, hFg1.tr hFg2⟩
          · refine x_aload_n C d_MD_next_63 rfl rfl ?_
            refine x_get C hMg2.1 rfl (in_MD _) 25 (by decide) (List.mem_cons_of_mem _ f_MD_66) rfl d_MD_next_64 ?_
            refine x_iload_n C d_MD_next_67 rfl rfl ?_
            refine x_mZv C hMg2 25 5 kZ_25 rfl (j := i) (by omega) (mZ μ 25 i) rfl d_MD_next_68 ?_
            refine x_if_eq C 75 d_MD_next_69 (by decide) (fun c_69 => ?_) (fun c_69 => ?_)
            · exact absurd hb (fun z => z.elim c_60 (fun z => absurd (z.symm.trans ((bI_0 _).mp c_69)) (by decide)))
            · refine x_bipush C (v := 46) d_MD_next_72 (by decide) ?_
              exact x_iret C (Nat.le_of_ble_eq_true rfl) (Nat.le_of_ble_eq_true rfl) d_MD_next_74 ⟨rfl, hMg2, hFg1.tr hFg2⟩
        · exfalso
          clear C hnm hM
          simp_all [refRead, mRd, bI_0]
    · exfalso
      clear C hnm hM
      simp_all [refRead, mRd, bI_0]
  · exact absurd (hv.symm.trans ((bI_0 _).mp c_10)) (by decide)
set_option maxRecDepth 4000 in
set_option maxHeartbeats 800000 in
theorem q_MD_next_10 (l : Launch) (E : xE) {G : xw_G} {md : Nat} {a : Nat → Nat} {μ : MS} (hM : xMD E G md a μ) {i : Nat} (hi : i < 5) (hv : mVw μ (nI i) = true) {back : Bool} (hr : refRead (mZ μ 24 i) (mI μ 15 i) (mI μ 16 i) 1 = 0) (h46 : ¬ (mI μ 18 i = 3 ∨ mZ μ 25 i = true)) {k : Nat} (hk : k < 6) (hkr : mI μ 17 i = nI k) (ho : mNx μ i k back = none) : XMk l E y_MD_next w_MD_next rm_MD_next [.ref md, .int (nI i), .int (bI back)] G (fun r G' => r = some (.int (10)) ∧ xMD E G' md a (sZ (mFg (sS μ 0 0) i) 25 i true) ∧ xFc G G') 0 0 := by
  refine XM_of [some (.ref md), some (.int (nI i)), some (.int (bI back)), none, none, none, none, none] (XZ_st E) (by decide) rfl rfl rfl (Nat.le_of_ble_eq_true rfl) (fun p e s m below meth c C hnm => ?_)
  refine x_aload_n C d_MD_next_0 rfl rfl ?_
  refine x_iconst C (v := 0) d_MD_next_1 (by decide) ?_
  refine x_mSp C hM 0 (by decide) (x := 0) f_MD_72 rfl rfl rfl d_MD_next_2 (fun _ hMg1 hFg1 => ?_)
  refine x_aload_n C d_MD_next_5 rfl rfl ?_
  refine x_iload_n C d_MD_next_6 rfl rfl ?_
  refine x_callV1 C (q_MD_isView l E hMg1) (lk_MD_92 C.hts (Nat.le_of_ble_eq_true rfl) (Nat.le_of_ble_eq_true rfl)) hMg1.1 rfl rfl d_MD_next_7 (Nat.le_of_ble_eq_true rfl) (Nat.le_of_ble_eq_true rfl) (Nat.le_of_ble_eq_true rfl) (fun r G' h => ?_)
  obtain ⟨rfl, rfl⟩ : r = some (.int (bI (mVw μ (nI i)))) ∧ _ = G' := h
  refine x_if_ne C 15 d_MD_next_10 (by decide) (fun c_10 => ?_) (fun c_10 => ?_)
  · refine x_aload_n C d_MD_next_15 rfl rfl ?_
    refine x_get C hMg1.1 rfl (in_MD _) 24 (by decide) (List.mem_cons_of_mem _ f_MD_63) rfl d_MD_next_16 ?_
    refine x_iload_n C d_MD_next_19 rfl rfl ?_
    refine x_mZv C hMg1 24 5 kZ_24 rfl (j := i) (by omega) (mZ μ 24 i) rfl d_MD_next_20 ?_
    refine x_if_ne C 27 d_MD_next_21 (by decide) (fun c_21 => ?_) (fun c_21 => ?_)
    · refine x_aload_n C d_MD_next_27 rfl rfl ?_
      refine x_iload_n C d_MD_next_28 rfl rfl ?_
      refine x_callV1 C (q_MD_reads l E hMg1 (i := i) (by omega)) (lk_MD_165 C.hts (Nat.le_of_ble_eq_true rfl) (Nat.le_of_ble_eq_true rfl)) hMg1.1 rfl rfl d_MD_next_29 (Nat.le_of_ble_eq_true rfl) (Nat.le_of_ble_eq_true rfl) (Nat.le_of_ble_eq_true rfl) (fun r G' h => ?_)
      obtain ⟨rfl, rfl⟩ : r = some (.int (bI (mRd μ i))) ∧ _ = G' := h
      refine x_if_eq C 45 d_MD_next_32 (by decide) (fun c_32 => ?_) (fun c_32 => ?_)
      · exfalso
        clear C hnm hM
        simp_all [refRead, mRd, bI_0]
      · refine x_aload_n C d_MD_next_35 rfl rfl ?_
        refine x_get C hMg1.1 rfl (in_MD _) 16 (by decide) (List.mem_cons_of_mem _ f_MD_39) rfl d_MD_next_36 ?_
        refine x_iload_n C d_MD_next_39 rfl rfl ?_
        refine x_mIv C hMg1 16 5 kI_16 rfl (j := i) (by omega) (mI μ 16 i) rfl d_MD_next_40 ?_
        refine x_iconst C (v := 1) d_MD_next_41 (by decide) ?_
        refine x_icmp_ne C 48 d_MD_next_42 (by decide) (fun c_42 => ?_) (fun c_42 => ?_)
        · refine x_aload_n C d_MD_next_48 rfl rfl ?_
          refine x_iload_n C d_MD_next_49 rfl rfl ?_
          refine x_callV1 C (q_MD_forget l E hMg1 (i := i) (by omega)) (lk_MD_150 C.hts (Nat.le_of_ble_eq_true rfl) (Nat.le_of_ble_eq_true rfl)) hMg1.1 rfl rfl d_MD_next_50 (Nat.le_of_ble_eq_true rfl) (Nat.le_of_ble_eq_true rfl) (Nat.le_of_ble_eq_true rfl) (fun r G' h => ?_)
          obtain ⟨rfl, hMg2, hFg2⟩ : r = none ∧ xMD E G' md a (mFg (sS μ 0 (0)) i) ∧ xFc _ G' := h
          refine x_aload_n C d_MD_next_53 rfl rfl ?_
          refine x_get C hMg2.1 rfl (in_MD _) 18 (by decide) (List.mem_cons_of_mem _ f_MD_45) rfl d_MD_next_54 ?_
          refine x_iload_n C d_MD_next_57 rfl rfl ?_
          refine x_mIv C hMg2 18 5 kI_18 rfl (j := i) (by omega) (mI μ 18 i) rfl d_MD_next_58 ?_
          refine x_iconst C (v := 3) d_MD_next_59 (by decide) ?_
          refine x_icmp_eq C 72 d_MD_next_60 (by decide) (fun c_60 => ?_) (fun c_60 => ?_)
          · exfalso
            clear C hnm hM
            simp_all [bI_0]
          · refine x_aload_n C d_MD_next_63 rfl rfl ?_
            refine x_get C hMg2.1 rfl (in_MD _) 25 (by decide) (List.mem_cons_of_mem _ f_MD_66) rfl d_MD_next_64 ?_
            refine x_iload_n C d_MD_next_67 rfl rfl ?_
            refine x_mZv C hMg2 25 5 kZ_25 rfl (j := i) (by omega) (mZ μ 25 i) rfl d_MD_next_68 ?_
            refine x_if_eq C 75 d_MD_next_69 (by decide) (fun c_69 => ?_) (fun c_69 => ?_)
            · refine x_aload_n C d_MD_next_75 rfl rfl ?_
              refine x_get C hMg2.1 rfl (in_MD _) 17 (by decide) (List.mem_cons_of_mem _ f_MD_42) rfl d_MD_next_76 ?_
              refine x_iload_n C d_MD_next_79 rfl rfl ?_
              refine x_mIv C hMg2 17 5 kI_17 rfl (j := i) (by omega) (mI μ 17 i) rfl d_MD_next_80 ?_
              rw [hkr]
              refine x_istore_n C d_MD_next_81 rfl (Nat.le_of_ble_eq_true rfl) rfl ?_
              refine x_aload_n C d_MD_next_82 rfl rfl ?_
              refine x_get C hMg2.1 rfl (in_MD _) 21 (by decide) (List.mem_cons_of_mem _ f_MD_54) rfl d_MD_next_83 ?_
              refine x_iload_n C d_MD_next_86 rfl rfl ?_
              refine x_mJv C hMg2 21 5 kJ_21 rfl (j := i) (by omega) (mJ μ 21 i) rfl d_MD_next_87 ?_
              refine x_lstore C d_MD_next_88 (Nat.le_of_ble_eq_true rfl) rfl ?_
              refine x_aload_n C d_MD_next_90 rfl rfl ?_
              refine x_get C hMg2.1 rfl (in_MD _) 19 (by decide) (List.mem_cons_of_mem _ f_MD_48) rfl d_MD_next_91 ?_
              refine x_iload_n C d_MD_next_94 rfl rfl ?_
              refine x_mIv C hMg2 19 5 kI_19 rfl (j := i) (by omega) (mI μ 19 i) rfl d_MD_next_95 ?_
              refine x_istore C d_MD_next_96 (Nat.le_of_ble_eq_true rfl) rfl ?_
              refine x_iconst C (v := -1) d_MD_next_98 (by decide) ?_
              refine x_istore C d_MD_next_99 (Nat.le_of_ble_eq_true rfl) rfl ?_
              refine x_aload_n C d_MD_next_101 rfl rfl ?_
              refine x_get C hMg2.1 rfl (in_MD _) 18 (by decide) (List.mem_cons_of_mem _ f_MD_45) rfl d_MD_next_102 ?_
              refine x_iload_n C d_MD_next_105 rfl rfl ?_
              refine x_mIv C hMg2 18 5 kI_18 rfl (j := i) (by omega) (mI μ 18 i) rfl d_MD_next_106 ?_
              refine x_if_ne C 131 d_MD_next_107 (by decide) (fun c_107 => ?_) (fun c_107 => ?_)
              · refine x_iload_n C d_MD_next_131 rfl rfl ?_
                refine x_if_eq C 162 d_MD_next_132 (by decide) (fun c_132 => ?_) (fun c_132 => ?_)
                · refine x_aload_n C d_MD_next_162 rfl rfl ?_
                  refine x_iload_n C d_MD_next_163 rfl rfl ?_
                  refine x_lload C d_MD_next_164 rfl ?_
                  refine x_iload C d_MD_next_166 rfl ?_
                  refine x_aload_n C d_MD_next_168 rfl rfl ?_
                  refine x_get C hMg2.1 rfl (in_MD _) 18 (by decide) (List.mem_cons_of_mem _ f_MD_45) rfl d_MD_next_169 ?_
                  refine x_iload_n C d_MD_next_172 rfl rfl ?_
                  refine x_mIv C hMg2 18 5 kI_18 rfl (j := i) (by omega) (mI μ 18 i) rfl d_MD_next_173 ?_
                  refine x_iconst C (v := 2) d_MD_next_174 (by decide) ?_
                  refine x_icmp_ne C 182 d_MD_next_175 (by decide) (fun c_175 => ?_) (fun c_175 => ?_)
                  · refine x_iconst C (v := 0) d_MD_next_182 (by decide) ?_
                    refine x_callV4 C (q_MD_after l E hMg2 (k := k) (th := false) (by omega)) (lk_MD_133 C.hts (Nat.le_of_ble_eq_true rfl) (Nat.le_of_ble_eq_true rfl)) hMg2.1 rfl rfl d_MD_next_183 (Nat.le_of_ble_eq_true rfl) (Nat.le_of_ble_eq_true rfl) (Nat.le_of_ble_eq_true rfl) (fun r G' h => ?_)
                    obtain ⟨rfl, rfl⟩ : r = some (.int (oI (mAft μ k (mJ μ 21 i) (mI μ 19 i) false))) ∧ _ = G' := h
                    refine x_istore C d_MD_next_186 (Nat.le_of_ble_eq_true rfl) rfl ?_
                    have hbk : back = false := (bI_0 _).mp c_132
                    have e9 : mAft μ k (mJ μ 21 i) (mI μ 19 i) false = none := by simpa [mNx, hbk, c_107, c_175] using ho
                    rw [e9]
                    refine x_aload_n C d_MD_next_188 rfl rfl ?_
                    refine x_get C hMg2.1 rfl (in_MD _) 25 (by decide) (List.mem_cons_of_mem _ f_MD_66) rfl d_MD_next_189 ?_
                    refine x_iload_n C d_MD_next_192 rfl rfl ?_
                    refine x_iload C d_MD_next_193 rfl ?_
                    refine x_iconst C (v := -1) d_MD_next_195 (by decide) ?_
                    refine x_icmp_ne C 203 d_MD_next_196 (by decide) (fun c_196 => ?_) (fun c_196 => ?_)
                    · exact absurd c_196 (by decide)
                    · refine x_iconst C (v := 1) d_MD_next_199 (by decide) ?_
                      refine x_goto C 204 d_MD_next_200 (by decide) ?_
                      refine x_mZs C hMg2 25 5 kZ_25 (j := i) true rfl (by omega) d_MD_next_204 (fun _ hMg3 hFg3 => ?_)
                      refine x_iload C d_MD_next_205 rfl ?_
                      refine x_iconst C (v := -1) d_MD_next_207 (by decide) ?_
                      refine x_icmp_ne C 216 d_MD_next_208 (by decide) (fun c_208 => ?_) (fun c_208 => ?_)
                      · exact absurd c_208 (by decide)
                      · refine x_bipush C (v := 10) d_MD_next_211 (by decide) ?_
                        refine x_goto C 225 d_MD_next_213 (by decide) ?_
                        exact x_iret C (Nat.le_of_ble_eq_true rfl) (Nat.le_of_ble_eq_true rfl) d_MD_next_225 ⟨rfl, hMg3, (hFg1.tr hFg2).tr hFg3⟩
                  · refine x_iconst C (v := 1) d_MD_next_178 (by decide) ?_
                    refine x_goto C 183 d_MD_next_179 (by decide) ?_
                    refine x_callV4 C (q_MD_after l E hMg2 (k := k) (th := true) (by omega)) (lk_MD_133 C.hts (Nat.le_of_ble_eq_true rfl) (Nat.le_of_ble_eq_true rfl)) hMg2.1 rfl rfl d_MD_next_183 (Nat.le_of_ble_eq_true rfl) (Nat.le_of_ble_eq_true rfl) (Nat.le_of_ble_eq_true rfl) (fun r G' h => ?_)
                    obtain ⟨rfl, rfl⟩ : r = some (.int (oI (mAft μ k (mJ μ 21 i) (mI μ 19 i) true))) ∧ _ = G' := h
                    refine x_istore C d_MD_next_186 (Nat.le_of_ble_eq_true rfl) rfl ?_
                    have hbk : back = false := (bI_0 _).mp c_132
                    have e9 : mAft μ k (mJ μ 21 i) (mI μ 19 i) true = none := by simpa [mNx, hbk, c_107, c_175] using ho
                    rw [e9]
                    refine x_aload_n C d_MD_next_188 rfl rfl ?_
                    refine x_get C hMg2.1 rfl (in_MD _) 25 (by decide) (List.mem_cons_of_mem _ f_MD_66) rfl d_MD_next_189 ?_
                    refine x_iload_n C d_MD_next_192 rfl rfl ?_
                    refine x_iload C d_MD_next_193 rfl ?_
                    refine x_iconst C (v := -1) d_MD_next_195 (by decide) ?_
                    refine x_icmp_ne C 203 d_MD_next_196 (by decide) (fun c_196 => ?_) (fun c_196 => ?_)
                    · exact absurd c_196 (by decide)
                    · refine x_iconst C (v := 1) d_MD_next_199 (by decide) ?_
                      refine x_goto C 204 d_MD_next_200 (by decide) ?_
                      refine x_mZs C hMg2 25 5 kZ_25 (j := i) true rfl (by omega) d_MD_next_204 (fun _ hMg4 hFg4 => ?_)
                      refine x_iload C d_MD_next_205 rfl ?_
                      refine x_iconst C (v := -1) d_MD_next_207 (by decide) ?_
                      refine x_icmp_ne C 216 d_MD_next_208 (by decide) (fun c_208 => ?_) (fun c_208 => ?_)
                      · exact absurd c_208 (by decide)
                      · refine x_bipush C (v := 10) d_MD_next_211 (by decide) ?_
                        refine x_goto C 225 d_MD_next_213 (by decide) ?_
                        exact x_iret C (Nat.le_of_ble_eq_true rfl) (Nat.le_of_ble_eq_true rfl) d_MD_next_225 ⟨rfl, hMg4, (hFg1.tr hFg2).tr hFg4⟩
                · refine x_aload_n C d_MD_next_135 rfl rfl ?_
                  refine x_iload_n C d_MD_next_136 rfl rfl ?_
                  refine x_lload C d_MD_next_137 rfl ?_
                  refine x_iload C d_MD_next_139 rfl ?_
                  refine x_aload_n C d_MD_next_141 rfl rfl ?_
                  refine x_get C hMg2.1 rfl (in_MD _) 18 (by decide) (List.mem_cons_of_mem _ f_MD_45) rfl d_MD_next_142 ?_
                  refine x_iload_n C d_MD_next_145 rfl rfl ?_
                  refine x_mIv C hMg2 18 5 kI_18 rfl (j := i) (by omega) (mI μ 18 i) rfl d_MD_next_146 ?_
                  refine x_iconst C (v := 2) d_MD_next_147 (by decide) ?_
                  refine x_icmp_ne C 155 d_MD_next_148 (by decide) (fun c_148 => ?_) (fun c_148 => ?_)
                  · refine x_iconst C (v := 0) d_MD_next_155 (by decide) ?_
                    refine x_callV4 C (q_MD_ahead l E hMg2 (k := k) (th := false) (by omega)) (lk_MD_129 C.hts (Nat.le_of_ble_eq_true rfl) (Nat.le_of_ble_eq_true rfl)) hMg2.1 rfl rfl d_MD_next_156 (Nat.le_of_ble_eq_true rfl) (Nat.le_of_ble_eq_true rfl) (Nat.le_of_ble_eq_true rfl) (fun r G' h => ?_)
                    obtain ⟨rfl, rfl⟩ : r = some (.int (oI (mAhd μ k (mJ μ 21 i) (mI μ 19 i) false))) ∧ _ = G' := h
                    refine x_goto C 186 d_MD_next_159 (by decide) ?_
                    refine x_istore C d_MD_next_186 (Nat.le_of_ble_eq_true rfl) rfl ?_
                    have hbk : back = true := bI_1 c_132
                    have e9 : mAhd μ k (mJ μ 21 i) (mI μ 19 i) false = none := by simpa [mNx, hbk, c_107, c_148] using ho
                    rw [e9]
                    refine x_aload_n C d_MD_next_188 rfl rfl ?_
                    refine x_get C hMg2.1 rfl (in_MD _) 25 (by decide) (List.mem_cons_of_mem _ f_MD_66) rfl d_MD_next_189 ?_
                    refine x_iload_n C d_MD_next_192 rfl rfl ?_
                    refine x_iload C d_MD_next_193 rfl ?_
                    refine x_iconst C (v := -1) d_MD_next_195 (by decide) ?_
                    refine x_icmp_ne C 203 d_MD_next_196 (by decide) (fun c_196 => ?_) (fun c_196 => ?_)
                    · exact absurd c_196 (by decide)
                    · refine x_iconst C (v := 1) d_MD_next_199 (by decide) ?_
                      refine x_goto C 204 d_MD_next_200 (by decide) ?_
                      refine x_mZs C hMg2 25 5 kZ_25 (j := i) true rfl (by omega) d_MD_next_204 (fun _ hMg5 hFg5 => ?_)
                      refine x_iload C d_MD_next_205 rfl ?_
                      refine x_iconst C (v := -1) d_MD_next_207 (by decide) ?_
                      refine x_icmp_ne C 216 d_MD_next_208 (by decide) (fun c_208 => ?_) (fun c_208 => ?_)
                      · exact absurd c_208 (by decide)
                      · refine x_bipush C (v := 10) d_MD_next_211 (by decide) ?_
                        refine x_goto C 225 d_MD_next_213 (by decide) ?_
                        exact x_iret C (Nat.le_of_ble_eq_true rfl) (Nat.le_of_ble_eq_true rfl) d_MD_next_225 ⟨rfl, hMg5, (hFg1.tr hFg2).tr hFg5⟩
                  · refine x_iconst C (v := 1) d_MD_next_151 (by decide) ?_
                    refine x_goto C 156 d_MD_next_152 (by decide) ?_
                    refine x_callV4 C (q_MD_ahead l E hMg2 (k := k) (th := true) (by omega)) (lk_MD_129 C.hts (Nat.le_of_ble_eq_true rfl) (Nat.le_of_ble_eq_true rfl)) hMg2.1 rfl rfl d_MD_next_156 (Nat.le_of_ble_eq_true rfl) (Nat.le_of_ble_eq_true rfl) (Nat.le_of_ble_eq_true rfl) (fun r G' h => ?_)
                    obtain ⟨rfl, rfl⟩ : r = some (.int (oI (mAhd μ k (mJ μ 21 i) (mI μ 19 i) true))) ∧ _ = G' := h
                    refine x_goto C 186 d_MD_next_159 (by decide) ?_
                    refine x_istore C d_MD_next_186 (Nat.le_of_ble_eq_true rfl) rfl ?_
                    have hbk : back = true := bI_1 c_132
                    have e9 : mAhd μ k (mJ μ 21 i) (mI μ 19 i) true = none := by simpa [mNx, hbk, c_107, c_148] using ho
                    rw [e9]
                    refine x_aload_n C d_MD_next_188 rfl rfl ?_
                    refine x_get C hMg2.1 rfl (in_MD _) 25 (by decide) (List.mem_cons_of_mem _ f_MD_66) rfl d_MD_next_189 ?_
                    refine x_iload_n C d_MD_next_192 rfl rfl ?_
                    refine x_iload C d_MD_next_193 rfl ?_
                    refine x_iconst C (v := -1) d_MD_next_195 (by decide) ?_
                    refine x_icmp_ne C 203 d_MD_next_196 (by decide) (fun c_196 => ?_) (fun c_196 => ?_)
                    · exact absurd c_196 (by decide)
                    · refine x_iconst C (v := 1) d_MD_next_199 (by decide) ?_
                      refine x_goto C 204 d_MD_next_200 (by decide) ?_
                      refine x_mZs C hMg2 25 5 kZ_25 (j := i) true rfl (by omega) d_MD_next_204 (fun _ hMg6 hFg6 => ?_)
                      refine x_iload C d_MD_next_205 rfl ?_
                      refine x_iconst C (v := -1) d_MD_next_207 (by decide) ?_
                      refine x_icmp_ne C 216 d_MD_next_208 (by decide) (fun c_208 => ?_) (fun c_208 => ?_)
                      · exact absurd c_208 (by decide)
                      · refine x_bipush C (v := 10) d_MD_next_211 (by decide) ?_
                        refine x_goto C 225 d_MD_next_213 (by decide) ?_
                        exact x_iret C (Nat.le_of_ble_eq_true rfl) (Nat.le_of_ble_eq_true rfl) d_MD_next_225 ⟨rfl, hMg6, (hFg1.tr hFg2).tr hFg6⟩
              · refine x_iload_n C d_MD_next_110 rfl rfl ?_
                refine x_if_eq C 118 d_MD_next_111 (by decide) (fun c_111 => ?_) (fun c_111 => ?_)
                · refine x_aload_n C d_MD_next_118 rfl rfl ?_
                  refine x_iload_n C d_MD_next_119 rfl rfl ?_
                  refine x_lconst C (v := 0) d_MD_next_120 (by decide) ?_
                  refine x_iconst C (v := 0) d_MD_next_121 (by decide) ?_
                  refine x_iconst C (v := 1) d_MD_next_122 (by decide) ?_
                  refine x_callV4 C (q_MD_after l E hMg2 (k := k) (th := true) (by omega)) (lk_MD_133 C.hts (Nat.le_of_ble_eq_true rfl) (Nat.le_of_ble_eq_true rfl)) hMg2.1 rfl rfl d_MD_next_123 (Nat.le_of_ble_eq_true rfl) (Nat.le_of_ble_eq_true rfl) (Nat.le_of_ble_eq_true rfl) (fun r G' h => ?_)
                  obtain ⟨rfl, rfl⟩ : r = some (.int (oI (mAft μ k (0) (0) true))) ∧ _ = G' := h
                  refine x_istore C d_MD_next_126 (Nat.le_of_ble_eq_true rfl) rfl ?_
                  refine x_goto C 188 d_MD_next_128 (by decide) ?_
                  have hbk : back = false := (bI_0 _).mp c_111
                  have e9 : mAft μ k (0) (0) true = none := by simpa [mNx, hbk, c_107] using ho
                  rw [e9]
                  refine x_aload_n C d_MD_next_188 rfl rfl ?_
                  refine x_get C hMg2.1 rfl (in_MD _) 25 (by decide) (List.mem_cons_of_mem _ f_MD_66) rfl d_MD_next_189 ?_
                  refine x_iload_n C d_MD_next_192 rfl rfl ?_
                  refine x_iload C d_MD_next_193 rfl ?_
                  refine x_iconst C (v := -1) d_MD_next_195 (by decide) ?_
                  refine x_icmp_ne C 203 d_MD_next_196 (by decide) (fun c_196 => ?_) (fun c_196 => ?_)
                  · exact absurd c_196 (by decide)
                  · refine x_iconst C (v := 1) d_MD_next_199 (by decide) ?_
                    refine x_goto C 204 d_MD_next_200 (by decide) ?_
                    refine x_mZs C hMg2 25 5 kZ_25 (j := i) true rfl (by omega) d_MD_next_204 (fun _ hMg7 hFg7 => ?_)
                    refine x_iload C d_MD_next_205 rfl ?_
                    refine x_iconst C (v := -1) d_MD_next_207 (by decide) ?_
                    refine x_icmp_ne C 216 d_MD_next_208 (by decide) (fun c_208 => ?_) (fun c_208 => ?_)
                    · exact absurd c_208 (by decide)
                    · refine x_bipush C (v := 10) d_MD_next_211 (by decide) ?_
                      refine x_goto C 225 d_MD_next_213 (by decide) ?_
                      exact x_iret C (Nat.le_of_ble_eq_true rfl) (Nat.le_of_ble_eq_true rfl) d_MD_next_225 ⟨rfl, hMg7, (hFg1.tr hFg2).tr hFg7⟩
                · refine x_iconst C (v := -1) d_MD_next_114 (by decide) ?_
                  refine x_goto C 126 d_MD_next_115 (by decide) ?_
                  refine x_istore C d_MD_next_126 (Nat.le_of_ble_eq_true rfl) rfl ?_
                  refine x_goto C 188 d_MD_next_128 (by decide) ?_
                  have hbk : back = true := bI_1 c_111
                  refine x_aload_n C d_MD_next_188 rfl rfl ?_
                  refine x_get C hMg2.1 rfl (in_MD _) 25 (by decide) (List.mem_cons_of_mem _ f_MD_66) rfl d_MD_next_189 ?_
                  refine x_iload_n C d_MD_next_192 rfl rfl ?_
                  refine x_iload C d_MD_next_193 rfl ?_
                  refine x_iconst C (v := -1) d_MD_next_195 (by decide) ?_
                  refine x_icmp_ne C 203 d_MD_next_196 (by decide) (fun c_196 => ?_) (fun c_196 => ?_)
                  · exact absurd c_196 (by decide)
                  · refine x_iconst C (v := 1) d_MD_next_199 (by decide) ?_
                    refine x_goto C 204 d_MD_next_200 (by decide) ?_
                    refine x_mZs C hMg2 25 5 kZ_25 (j := i) true rfl (by omega) d_MD_next_204 (fun _ hMg8 hFg8 => ?_)
                    refine x_iload C d_MD_next_205 rfl ?_
                    refine x_iconst C (v := -1) d_MD_next_207 (by decide) ?_
                    refine x_icmp_ne C 216 d_MD_next_208 (by decide) (fun c_208 => ?_) (fun c_208 => ?_)
                    · exact absurd c_208 (by decide)
                    · refine x_bipush C (v := 10) d_MD_next_211 (by decide) ?_
                      refine x_goto C 225 d_MD_next_213 (by decide) ?_
                      exact x_iret C (Nat.le_of_ble_eq_true rfl) (Nat.le_of_ble_eq_true rfl) d_MD_next_225 ⟨rfl, hMg8, (hFg1.tr hFg2).tr hFg8⟩
            · exfalso
              clear C hnm hM
              simp_all [bI_0]
        · exfalso
          clear C hnm hM
          simp_all [refRead, mRd, bI_0]
    · exfalso
      clear C hnm hM
      simp_all [refRead, mRd, bI_0]
  · exact absurd (hv.symm.trans ((bI_0 _).mp c_10)) (by decide)
set_option maxRecDepth 4000 in
set_option maxHeartbeats 800000 in
theorem q_MD_next_got (l : Launch) (E : xE) {G : xw_G} {md : Nat} {a : Nat → Nat} {μ : MS} (hM : xMD E G md a μ) {i : Nat} (hi : i < 5) (hv : mVw μ (nI i) = true) {back : Bool} (hr : refRead (mZ μ 24 i) (mI μ 15 i) (mI μ 16 i) 1 = 0) (h46 : ¬ (mI μ 18 i = 3 ∨ mZ μ 25 i = true)) {k : Nat} (hk : k < 6) (hkr : mI μ 17 i = nI k) {q : Nat} (ho : mNx μ i k back = some q) : XMk l E y_MD_next w_MD_next rm_MD_next [.ref md, .int (nI i), .int (bI back)] G (fun r G' => r = some (.int (mSta μ k q back)) ∧ xMD E G' md a (mGo (sZ (mFg (sS μ 0 0) i) 25 i false) i k q) ∧ xFc G G') 0 0 := by
  refine XM_of [some (.ref md), some (.int (nI i)), some (.int (bI back)), none, none, none, none, none] (XZ_st E) (by decide) rfl rfl rfl (Nat.le_of_ble_eq_true rfl) (fun p e s m below meth c C hnm => ?_)
  have hq3 := mNx_lt ho
  refine x_aload_n C d_MD_next_0 rfl rfl ?_
  refine x_iconst C (v := 0) d_MD_next_1 (by decide) ?_
  refine x_mSp C hM 0 (by decide) (x := 0) f_MD_72 rfl rfl rfl d_MD_next_2 (fun _ hMg1 hFg1 => ?_)
  refine x_aload_n C d_MD_next_5 rfl rfl ?_
  refine x_iload_n C d_MD_next_6 rfl rfl ?_
  refine x_callV1 C (q_MD_isView l E hMg1) (lk_MD_92 C.hts (Nat.le_of_ble_eq_true rfl) (Nat.le_of_ble_eq_true rfl)) hMg1.1 rfl rfl d_MD_next_7 (Nat.le_of_ble_eq_true rfl) (Nat.le_of_ble_eq_true rfl) (Nat.le_of_ble_eq_true rfl) (fun r G' h => ?_)
  obtain ⟨rfl, rfl⟩ : r = some (.int (bI (mVw μ (nI i)))) ∧ _ = G' := h
  refine x_if_ne C 15 d_MD_next_10 (by decide) (fun c_10 => ?_) (fun c_10 => ?_)
  · refine x_aload_n C d_MD_next_15 rfl rfl ?_
    refine x_get C hMg1.1 rfl (in_MD _) 24 (by decide) (List.mem_cons_of_mem _ f_MD_63) rfl d_MD_next_16 ?_
    refine x_iload_n C d_MD_next_19 rfl rfl ?_
    refine x_mZv C hMg1 24 5 kZ_24 rfl (j := i) (by omega) (mZ μ 24 i) rfl d_MD_next_20 ?_
    refine x_if_ne C 27 d_MD_next_21 (by decide) (fun c_21 => ?_) (fun c_21 => ?_)
    · refine x_aload_n C d_MD_next_27 rfl rfl ?_
      refine x_iload_n C d_MD_next_28 rfl rfl ?_
      refine x_callV1 C (q_MD_reads l E hMg1 (i := i) (by omega)) (lk_MD_165 C.hts (Nat.le_of_ble_eq_true rfl) (Nat.le_of_ble_eq_true rfl)) hMg1.1 rfl rfl d_MD_next_29 (Nat.le_of_ble_eq_true rfl) (Nat.le_of_ble_eq_true rfl) (Nat.le_of_ble_eq_true rfl) (fun r G' h => ?_)
      obtain ⟨rfl, rfl⟩ : r = some (.int (bI (mRd μ i))) ∧ _ = G' := h
      refine x_if_eq C 45 d_MD_next_32 (by decide) (fun c_32 => ?_) (fun c_32 => ?_)
      · exfalso
        clear C hnm hM
        simp_all [refRead, mRd, bI_0]
      · refine x_aload_n C d_MD_next_35 rfl rfl ?_
        refine x_get C hMg1.1 rfl (in_MD _) 16 (by decide) (List.mem_cons_of_mem _ f_MD_39) rfl d_MD_next_36 ?_
        refine x_iload_n C d_MD_next_39 rfl rfl ?_
        refine x_mIv C hMg1 16 5 kI_16 rfl (j := i) (by omega) (mI μ 16 i) rfl d_MD_next_40 ?_
        refine x_iconst C (v := 1) d_MD_next_41 (by decide) ?_
        refine x_icmp_ne C 48 d_MD_next_42 (by decide) (fun c_42 => ?_) (fun c_42 => ?_)
        · refine x_aload_n C d_MD_next_48 rfl rfl ?_
          refine x_iload_n C d_MD_next_49 rfl rfl ?_
          refine x_callV1 C (q_MD_forget l E hMg1 (i := i) (by omega)) (lk_MD_150 C.hts (Nat.le_of_ble_eq_true rfl) (Nat.le_of_ble_eq_true rfl)) hMg1.1 rfl rfl d_MD_next_50 (Nat.le_of_ble_eq_true rfl) (Nat.le_of_ble_eq_true rfl) (Nat.le_of_ble_eq_true rfl) (fun r G' h => ?_)
          obtain ⟨rfl, hMg2, hFg2⟩ : r = none ∧ xMD E G' md a (mFg (sS μ 0 (0)) i) ∧ xFc _ G' := h
          refine x_aload_n C d_MD_next_53 rfl rfl ?_
          refine x_get C hMg2.1 rfl (in_MD _) 18 (by decide) (List.mem_cons_of_mem _ f_MD_45) rfl d_MD_next_54 ?_
          refine x_iload_n C d_MD_next_57 rfl rfl ?_
          refine x_mIv C hMg2 18 5 kI_18 rfl (j := i) (by omega) (mI μ 18 i) rfl d_MD_next_58 ?_
          refine x_iconst C (v := 3) d_MD_next_59 (by decide) ?_
          refine x_icmp_eq C 72 d_MD_next_60 (by decide) (fun c_60 => ?_) (fun c_60 => ?_)
          · exfalso
            clear C hnm hM
            simp_all [bI_0]
          · refine x_aload_n C d_MD_next_63 rfl rfl ?_
            refine x_get C hMg2.1 rfl (in_MD _) 25 (by decide) (List.mem_cons_of_mem _ f_MD_66) rfl d_MD_next_64 ?_
            refine x_iload_n C d_MD_next_67 rfl rfl ?_
            refine x_mZv C hMg2 25 5 kZ_25 rfl (j := i) (by omega) (mZ μ 25 i) rfl d_MD_next_68 ?_
            refine x_if_eq C 75 d_MD_next_69 (by decide) (fun c_69 => ?_) (fun c_69 => ?_)
            · refine x_aload_n C d_MD_next_75 rfl rfl ?_
              refine x_get C hMg2.1 rfl (in_MD _) 17 (by decide) (List.mem_cons_of_mem _ f_MD_42) rfl d_MD_next_76 ?_
              refine x_iload_n C d_MD_next_79 rfl rfl ?_
              refine x_mIv C hMg2 17 5 kI_17 rfl (j := i) (by omega) (mI μ 17 i) rfl d_MD_next_80 ?_
              rw [hkr]
              refine x_istore_n C d_MD_next_81 rfl (Nat.le_of_ble_eq_true rfl) rfl ?_
              refine x_aload_n C d_MD_next_82 rfl rfl ?_
              refine x_get C hMg2.1 rfl (in_MD _) 21 (by decide) (List.mem_cons_of_mem _ f_MD_54) rfl d_MD_next_83 ?_
              refine x_iload_n C d_MD_next_86 rfl rfl ?_
              refine x_mJv C hMg2 21 5 kJ_21 rfl (j := i) (by omega) (mJ μ 21 i) rfl d_MD_next_87 ?_
              refine x_lstore C d_MD_next_88 (Nat.le_of_ble_eq_true rfl) rfl ?_
              refine x_aload_n C d_MD_next_90 rfl rfl ?_
              refine x_get C hMg2.1 rfl (in_MD _) 19 (by decide) (List.mem_cons_of_mem _ f_MD_48) rfl d_MD_next_91 ?_
              refine x_iload_n C d_MD_next_94 rfl rfl ?_
              refine x_mIv C hMg2 19 5 kI_19 rfl (j := i) (by omega) (mI μ 19 i) rfl d_MD_next_95 ?_
              refine x_istore C d_MD_next_96 (Nat.le_of_ble_eq_true rfl) rfl ?_
              refine x_iconst C (v := -1) d_MD_next_98 (by decide) ?_
              refine x_istore C d_MD_next_99 (Nat.le_of_ble_eq_true rfl) rfl ?_
              refine x_aload_n C d_MD_next_101 rfl rfl ?_
              refine x_get C hMg2.1 rfl (in_MD _) 18 (by decide) (List.mem_cons_of_mem _ f_MD_45) rfl d_MD_next_102 ?_
              refine x_iload_n C d_MD_next_105 rfl rfl ?_
              refine x_mIv C hMg2 18 5 kI_18 rfl (j := i) (by omega) (mI μ 18 i) rfl d_MD_next_106 ?_
              refine x_if_ne C 131 d_MD_next_107 (by decide) (fun c_107 => ?_) (fun c_107 => ?_)
              · refine x_iload_n C d_MD_next_131 rfl rfl ?_
                refine x_if_eq C 162 d_MD_next_132 (by decide) (fun c_132 => ?_) (fun c_132 => ?_)
                · refine x_aload_n C d_MD_next_162 rfl rfl ?_
                  refine x_iload_n C d_MD_next_163 rfl rfl ?_
                  refine x_lload C d_MD_next_164 rfl ?_
                  refine x_iload C d_MD_next_166 rfl ?_
                  refine x_aload_n C d_MD_next_168 rfl rfl ?_
                  refine x_get C hMg2.1 rfl (in_MD _) 18 (by decide) (List.mem_cons_of_mem _ f_MD_45) rfl d_MD_next_169 ?_
                  refine x_iload_n C d_MD_next_172 rfl rfl ?_
                  refine x_mIv C hMg2 18 5 kI_18 rfl (j := i) (by omega) (mI μ 18 i) rfl d_MD_next_173 ?_
                  refine x_iconst C (v := 2) d_MD_next_174 (by decide) ?_
                  refine x_icmp_ne C 182 d_MD_next_175 (by decide) (fun c_175 => ?_) (fun c_175 => ?_)
                  · refine x_iconst C (v := 0) d_MD_next_182 (by decide) ?_
                    refine x_callV4 C (q_MD_after l E hMg2 (k := k) (th := false) (by omega)) (lk_MD_133 C.hts (Nat.le_of_ble_eq_true rfl) (Nat.le_of_ble_eq_true rfl)) hMg2.1 rfl rfl d_MD_next_183 (Nat.le_of_ble_eq_true rfl) (Nat.le_of_ble_eq_true rfl) (Nat.le_of_ble_eq_true rfl) (fun r G' h => ?_)
                    obtain ⟨rfl, rfl⟩ : r = some (.int (oI (mAft μ k (mJ μ 21 i) (mI μ 19 i) false))) ∧ _ = G' := h
                    refine x_istore C d_MD_next_186 (Nat.le_of_ble_eq_true rfl) rfl ?_
                    have hbk : back = false := (bI_0 _).mp c_132
                    have e9 : mAft μ k (mJ μ 21 i) (mI μ 19 i) false = some q := by simpa [mNx, hbk, c_107, c_175] using ho
                    rw [e9]
                    refine x_aload_n C d_MD_next_188 rfl rfl ?_
                    refine x_get C hMg2.1 rfl (in_MD _) 25 (by decide) (List.mem_cons_of_mem _ f_MD_66) rfl d_MD_next_189 ?_
                    refine x_iload_n C d_MD_next_192 rfl rfl ?_
                    refine x_iload C d_MD_next_193 rfl ?_
                    refine x_iconst C (v := -1) d_MD_next_195 (by decide) ?_
                    refine x_icmp_ne C 203 d_MD_next_196 (by decide) (fun c_196 => ?_) (fun c_196 => ?_)
                    · refine x_iconst C (v := 0) d_MD_next_203 (by decide) ?_
                      refine x_mZs C hMg2 25 5 kZ_25 (j := i) false rfl (by omega) d_MD_next_204 (fun _ hMg3 hFg3 => ?_)
                      refine x_iload C d_MD_next_205 rfl ?_
                      refine x_iconst C (v := -1) d_MD_next_207 (by decide) ?_
                      refine x_icmp_ne C 216 d_MD_next_208 (by decide) (fun c_208 => ?_) (fun c_208 => ?_)
                      · refine x_aload_n C d_MD_next_216 rfl rfl ?_
                        refine x_iload_n C d_MD_next_217 rfl rfl ?_
                        refine x_iload_n C d_MD_next_218 rfl rfl ?_
                        refine x_iload C d_MD_next_219 rfl ?_
                        refine x_iload_n C d_MD_next_221 rfl rfl ?_
                        refine x_callV4 C (q_MD_got l E hMg3 (i := i) (k := k) (sl := q) (back := back) (by omega) (by omega) (by omega)) (lk_MD_168 C.hts (Nat.le_of_ble_eq_true rfl) (Nat.le_of_ble_eq_true rfl)) hMg3.1 rfl rfl d_MD_next_222 (Nat.le_of_ble_eq_true rfl) (Nat.le_of_ble_eq_true rfl) (Nat.le_of_ble_eq_true rfl) (fun r G' h => ?_)
                        obtain ⟨rfl, hMg4, hFg4⟩ : r = some (.int (mSta μ k q back)) ∧ xMD E G' md a (mGo (sZ (mFg (sS μ 0 (0)) i) 25 i false) i k q) ∧ xFc _ G' := h
                        exact x_iret C (Nat.le_of_ble_eq_true rfl) (Nat.le_of_ble_eq_true rfl) d_MD_next_225 ⟨rfl, hMg4, ((hFg1.tr hFg2).tr hFg3).tr hFg4⟩
                      · exact absurd c_208 (nI_m1 (by omega))
                    · exact absurd c_196 (nI_m1 (by omega))
                  · refine x_iconst C (v := 1) d_MD_next_178 (by decide) ?_
                    refine x_goto C 183 d_MD_next_179 (by decide) ?_
                    refine x_callV4 C (q_MD_after l E hMg2 (k := k) (th := true) (by omega)) (lk_MD_133 C.hts (Nat.le_of_ble_eq_true rfl) (Nat.le_of_ble_eq_true rfl)) hMg2.1 rfl rfl d_MD_next_183 (Nat.le_of_ble_eq_true rfl) (Nat.le_of_ble_eq_true rfl) (Nat.le_of_ble_eq_true rfl) (fun r G' h => ?_)
                    obtain ⟨rfl, rfl⟩ : r = some (.int (oI (mAft μ k (mJ μ 21 i) (mI μ 19 i) true))) ∧ _ = G' := h
                    refine x_istore C d_MD_next_186 (Nat.le_of_ble_eq_true rfl) rfl ?_
                    have hbk : back = false := (bI_0 _).mp c_132
                    have e9 : mAft μ k (mJ μ 21 i) (mI μ 19 i) true = some q := by simpa [mNx, hbk, c_107, c_175] using ho
                    rw [e9]
                    refine x_aload_n C d_MD_next_188 rfl rfl ?_
                    refine x_get C hMg2.1 rfl (in_MD _) 25 (by decide) (List.mem_cons_of_mem _ f_MD_66) rfl d_MD_next_189 ?_
                    refine x_iload_n C d_MD_next_192 rfl rfl ?_
                    refine x_iload C d_MD_next_193 rfl ?_
                    refine x_iconst C (v := -1) d_MD_next_195 (by decide) ?_
                    refine x_icmp_ne C 203 d_MD_next_196 (by decide) (fun c_196 => ?_) (fun c_196 => ?_)
                    · refine x_iconst C (v := 0) d_MD_next_203 (by decide) ?_
                      refine x_mZs C hMg2 25 5 kZ_25 (j := i) false rfl (by omega) d_MD_next_204 (fun _ hMg5 hFg5 => ?_)
                      refine x_iload C d_MD_next_205 rfl ?_
                      refine x_iconst C (v := -1) d_MD_next_207 (by decide) ?_
                      refine x_icmp_ne C 216 d_MD_next_208 (by decide) (fun c_208 => ?_) (fun c_208 => ?_)
                      · refine x_aload_n C d_MD_next_216 rfl rfl ?_
                        refine x_iload_n C d_MD_next_217 rfl rfl ?_
                        refine x_iload_n C d_MD_next_218 rfl rfl ?_
                        refine x_iload C d_MD_next_219 rfl ?_
                        refine x_iload_n C d_MD_next_221 rfl rfl ?_
                        refine x_callV4 C (q_MD_got l E hMg5 (i := i) (k := k) (sl := q) (back := back) (by omega) (by omega) (by omega)) (lk_MD_168 C.hts (Nat.le_of_ble_eq_true rfl) (Nat.le_of_ble_eq_true rfl)) hMg5.1 rfl rfl d_MD_next_222 (Nat.le_of_ble_eq_true rfl) (Nat.le_of_ble_eq_true rfl) (Nat.le_of_ble_eq_true rfl) (fun r G' h => ?_)
                        obtain ⟨rfl, hMg6, hFg6⟩ : r = some (.int (mSta μ k q back)) ∧ xMD E G' md a (mGo (sZ (mFg (sS μ 0 (0)) i) 25 i false) i k q) ∧ xFc _ G' := h
                        exact x_iret C (Nat.le_of_ble_eq_true rfl) (Nat.le_of_ble_eq_true rfl) d_MD_next_225 ⟨rfl, hMg6, ((hFg1.tr hFg2).tr hFg5).tr hFg6⟩
                      · exact absurd c_208 (nI_m1 (by omega))
                    · exact absurd c_196 (nI_m1 (by omega))
                · refine x_aload_n C d_MD_next_135 rfl rfl ?_
                  refine x_iload_n C d_MD_next_136 rfl rfl ?_
                  refine x_lload C d_MD_next_137 rfl ?_
                  refine x_iload C d_MD_next_139 rfl ?_
                  refine x_aload_n C d_MD_next_141 rfl rfl ?_
                  refine x_get C hMg2.1 rfl (in_MD _) 18 (by decide) (List.mem_cons_of_mem _ f_MD_45) rfl d_MD_next_142 ?_
                  refine x_iload_n C d_MD_next_145 rfl rfl ?_
                  refine x_mIv C hMg2 18 5 kI_18 rfl (j := i) (by omega) (mI μ 18 i) rfl d_MD_next_146 ?_
                  refine x_iconst C (v := 2) d_MD_next_147 (by decide) ?_
                  refine x_icmp_ne C 155 d_MD_next_148 (by decide) (fun c_148 => ?_) (fun c_148 => ?_)
                  · refine x_iconst C (v := 0) d_MD_next_155 (by decide) ?_
                    refine x_callV4 C (q_MD_ahead l E hMg2 (k := k) (th := false) (by omega)) (lk_MD_129 C.hts (Nat.le_of_ble_eq_true rfl) (Nat.le_of_ble_eq_true rfl)) hMg2.1 rfl rfl d_MD_next_156 (Nat.le_of_ble_eq_true rfl) (Nat.le_of_ble_eq_true rfl) (Nat.le_of_ble_eq_true rfl) (fun r G' h => ?_)
                    obtain ⟨rfl, rfl⟩ : r = some (.int (oI (mAhd μ k (mJ μ 21 i) (mI μ 19 i) false))) ∧ _ = G' := h
                    refine x_goto C 186 d_MD_next_159 (by decide) ?_
                    refine x_istore C d_MD_next_186 (Nat.le_of_ble_eq_true rfl) rfl ?_
                    have hbk : back = true := bI_1 c_132
                    have e9 : mAhd μ k (mJ μ 21 i) (mI μ 19 i) false = some q := by simpa [mNx, hbk, c_107, c_148] using ho
                    rw [e9]
                    refine x_aload_n C d_MD_next_188 rfl rfl ?_
                    refine x_get C hMg2.1 rfl (in_MD _) 25 (by decide) (List.mem_cons_of_mem _ f_MD_66) rfl d_MD_next_189 ?_
                    refine x_iload_n C d_MD_next_192 rfl rfl ?_
                    refine x_iload C d_MD_next_193 rfl ?_
                    refine x_iconst C (v := -1) d_MD_next_195 (by decide) ?_
                    refine x_icmp_ne C 203 d_MD_next_196 (by decide) (fun c_196 => ?_) (fun c_196 => ?_)
                    · refine x_iconst C (v := 0) d_MD_next_203 (by decide) ?_
                      refine x_mZs C hMg2 25 5 kZ_25 (j := i) false rfl (by omega) d_MD_next_204 (fun _ hMg7 hFg7 => ?_)
                      refine x_iload C d_MD_next_205 rfl ?_
                      refine x_iconst C (v := -1) d_MD_next_207 (by decide) ?_
                      refine x_icmp_ne C 216 d_MD_next_208 (by decide) (fun c_208 => ?_) (fun c_208 => ?_)
                      · refine x_aload_n C d_MD_next_216 rfl rfl ?_
                        refine x_iload_n C d_MD_next_217 rfl rfl ?_
                        refine x_iload_n C d_MD_next_218 rfl rfl ?_
                        refine x_iload C d_MD_next_219 rfl ?_
                        refine x_iload_n C d_MD_next_221 rfl rfl ?_
                        refine x_callV4 C (q_MD_got l E hMg7 (i := i) (k := k) (sl := q) (back := back) (by omega) (by omega) (by omega)) (lk_MD_168 C.hts (Nat.le_of_ble_eq_true rfl) (Nat.le_of_ble_eq_true rfl)) hMg7.1 rfl rfl d_MD_next_222 (Nat.le_of_ble_eq_true rfl) (Nat.le_of_ble_eq_true rfl) (Nat.le_of_ble_eq_true rfl) (fun r G' h => ?_)
                        obtain ⟨rfl, hMg8, hFg8⟩ : r = some (.int (mSta μ k q back)) ∧ xMD E G' md a (mGo (sZ (mFg (sS μ 0 (0)) i) 25 i false) i k q) ∧ xFc _ G' := h
                        exact x_iret C (Nat.le_of_ble_eq_true rfl) (Nat.le_of_ble_eq_true rfl) d_MD_next_225 ⟨rfl, hMg8, ((hFg1.tr hFg2).tr hFg7).tr hFg8⟩
                      · exact absurd c_208 (nI_m1 (by omega))
                    · exact absurd c_196 (nI_m1 (by omega))
                  · refine x_iconst C (v := 1) d_MD_next_151 (by decide) ?_
                    refine x_goto C 156 d_MD_next_152 (by decide) ?_
                    refine x_callV4 C (q_MD_ahead l E hMg2 (k := k) (th := true) (by omega)) (lk_MD_129 C.hts (Nat.le_of_ble_eq_true rfl) (Nat.le_of_ble_eq_true rfl)) hMg2.1 rfl rfl d_MD_next_156 (Nat.le_of_ble_eq_true rfl) (Nat.le_of_ble_eq_true rfl) (Nat.le_of_ble_eq_true rfl) (fun r G' h => ?_)
                    obtain ⟨rfl, rfl⟩ : r = some (.int (oI (mAhd μ k (mJ μ 21 i) (mI μ 19 i) true))) ∧ _ = G' := h
                    refine x_goto C 186 d_MD_next_159 (by decide) ?_
                    refine x_istore C d_MD_next_186 (Nat.le_of_ble_eq_true rfl) rfl ?_
                    have hbk : back = true := bI_1 c_132
                    have e9 : mAhd μ k (mJ μ 21 i) (mI μ 19 i) true = some q := by simpa [mNx, hbk, c_107, c_148] using ho
                    rw [e9]
                    refine x_aload_n C d_MD_next_188 rfl rfl ?_
                    refine x_get C hMg2.1 rfl (in_MD _) 25 (by decide) (List.mem_cons_of_mem _ f_MD_66) rfl d_MD_next_189 ?_
                    refine x_iload_n C d_MD_next_192 rfl rfl ?_
                    refine x_iload C d_MD_next_193 rfl ?_
                    refine x_iconst C (v := -1) d_MD_next_195 (by decide) ?_
                    refine x_icmp_ne C 203 d_MD_next_196 (by decide) (fun c_196 => ?_) (fun c_196 => ?_)
                    · refine x_iconst C (v := 0) d_MD_next_203 (by decide) ?_
                      refine x_mZs C hMg2 25 5 kZ_25 (j := i) false rfl (by omega) d_MD_next_204 (fun _ hMg9 hFg9 => ?_)
                      refine x_iload C d_MD_next_205 rfl ?_
                      refine x_iconst C (v := -1) d_MD_next_207 (by decide) ?_
                      refine x_icmp_ne C 216 d_MD_next_208 (by decide) (fun c_208 => ?_) (fun c_208 => ?_)
                      · refine x_aload_n C d_MD_next_216 rfl rfl ?_
                        refine x_iload_n C d_MD_next_217 rfl rfl ?_
                        refine x_iload_n C d_MD_next_218 rfl rfl ?_
                        refine x_iload C d_MD_next_219 rfl ?_
                        refine x_iload_n C d_MD_next_221 rfl rfl ?_
                        refine x_callV4 C (q_MD_got l E hMg9 (i := i) (k := k) (sl := q) (back := back) (by omega) (by omega) (by omega)) (lk_MD_168 C.hts (Nat.le_of_ble_eq_true rfl) (Nat.le_of_ble_eq_true rfl)) hMg9.1 rfl rfl d_MD_next_222 (Nat.le_of_ble_eq_true rfl) (Nat.le_of_ble_eq_true rfl) (Nat.le_of_ble_eq_true rfl) (fun r G' h => ?_)
                        obtain ⟨rfl, hMg10, hFg10⟩ : r = some (.int (mSta μ k q back)) ∧ xMD E G' md a (mGo (sZ (mFg (sS μ 0 (0)) i) 25 i false) i k q) ∧ xFc _ G' := h
                        exact x_iret C (Nat.le_of_ble_eq_true rfl) (Nat.le_of_ble_eq_true rfl) d_MD_next_225 ⟨rfl, hMg10, ((hFg1.tr hFg2).tr hFg9).tr hFg10⟩
                      · exact absurd c_208 (nI_m1 (by omega))
                    · exact absurd c_196 (nI_m1 (by omega))
              · refine x_iload_n C d_MD_next_110 rfl rfl ?_
                refine x_if_eq C 118 d_MD_next_111 (by decide) (fun c_111 => ?_) (fun c_111 => ?_)
                · refine x_aload_n C d_MD_next_118 rfl rfl ?_
                  refine x_iload_n C d_MD_next_119 rfl rfl ?_
                  refine x_lconst C (v := 0) d_MD_next_120 (by decide) ?_
                  refine x_iconst C (v := 0) d_MD_next_121 (by decide) ?_
                  refine x_iconst C (v := 1) d_MD_next_122 (by decide) ?_
                  refine x_callV4 C (q_MD_after l E hMg2 (k := k) (th := true) (by omega)) (lk_MD_133 C.hts (Nat.le_of_ble_eq_true rfl) (Nat.le_of_ble_eq_true rfl)) hMg2.1 rfl rfl d_MD_next_123 (Nat.le_of_ble_eq_true rfl) (Nat.le_of_ble_eq_true rfl) (Nat.le_of_ble_eq_true rfl) (fun r G' h => ?_)
                  obtain ⟨rfl, rfl⟩ : r = some (.int (oI (mAft μ k (0) (0) true))) ∧ _ = G' := h
                  refine x_istore C d_MD_next_126 (Nat.le_of_ble_eq_true rfl) rfl ?_
                  refine x_goto C 188 d_MD_next_128 (by decide) ?_
                  have hbk : back = false := (bI_0 _).mp c_111
                  have e9 : mAft μ k (0) (0) true = some q := by simpa [mNx, hbk, c_107] using ho
                  rw [e9]
                  refine x_aload_n C d_MD_next_188 rfl rfl ?_
                  refine x_get C hMg2.1 rfl (in_MD _) 25 (by decide) (List.mem_cons_of_mem _ f_MD_66) rfl d_MD_next_189 ?_
                  refine x_iload_n C d_MD_next_192 rfl rfl ?_
                  refine x_iload C d_MD_next_193 rfl ?_
                  refine x_iconst C (v := -1) d_MD_next_195 (by decide) ?_
                  refine x_icmp_ne C 203 d_MD_next_196 (by decide) (fun c_196 => ?_) (fun c_196 => ?_)
                  · refine x_iconst C (v := 0) d_MD_next_203 (by decide) ?_
                    refine x_mZs C hMg2 25 5 kZ_25 (j := i) false rfl (by omega) d_MD_next_204 (fun _ hMg11 hFg11 => ?_)
                    refine x_iload C d_MD_next_205 rfl ?_
                    refine x_iconst C (v := -1) d_MD_next_207 (by decide) ?_
                    refine x_icmp_ne C 216 d_MD_next_208 (by decide) (fun c_208 => ?_) (fun c_208 => ?_)
                    · refine x_aload_n C d_MD_next_216 rfl rfl ?_
                      refine x_iload_n C d_MD_next_217 rfl rfl ?_
                      refine x_iload_n C d_MD_next_218 rfl rfl ?_
                      refine x_iload C d_MD_next_219 rfl ?_
                      refine x_iload_n C d_MD_next_221 rfl rfl ?_
                      refine x_callV4 C (q_MD_got l E hMg11 (i := i) (k := k) (sl := q) (back := back) (by omega) (by omega) (by omega)) (lk_MD_168 C.hts (Nat.le_of_ble_eq_true rfl) (Nat.le_of_ble_eq_true rfl)) hMg11.1 rfl rfl d_MD_next_222 (Nat.le_of_ble_eq_true rfl) (Nat.le_of_ble_eq_true rfl) (Nat.le_of_ble_eq_true rfl) (fun r G' h => ?_)
                      obtain ⟨rfl, hMg12, hFg12⟩ : r = some (.int (mSta μ k q back)) ∧ xMD E G' md a (mGo (sZ (mFg (sS μ 0 (0)) i) 25 i false) i k q) ∧ xFc _ G' := h
                      exact x_iret C (Nat.le_of_ble_eq_true rfl) (Nat.le_of_ble_eq_true rfl) d_MD_next_225 ⟨rfl, hMg12, ((hFg1.tr hFg2).tr hFg11).tr hFg12⟩
                    · exact absurd c_208 (nI_m1 (by omega))
                  · exact absurd c_196 (nI_m1 (by omega))
                · refine x_iconst C (v := -1) d_MD_next_114 (by decide) ?_
                  refine x_goto C 126 d_MD_next_115 (by decide) ?_
                  refine x_istore C d_MD_next_126 (Nat.le_of_ble_eq_true rfl) rfl ?_
                  refine x_goto C 188 d_MD_next_128 (by decide) ?_
                  have hbk : back = true := bI_1 c_111
                  exact absurd ho (by simp [mNx, hbk, c_107])
            · exfalso
              clear C hnm hM
              simp_all [bI_0]
        · exfalso
          clear C hnm hM
          simp_all [refRead, mRd, bI_0]
    · exfalso
      clear C hnm hM
      simp_all [refRead, mRd, bI_0]
  · exact absurd (hv.symm.trans ((bI_0 _).mp c_10)) (by decide)
