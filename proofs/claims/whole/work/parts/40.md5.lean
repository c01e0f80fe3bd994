/-! THE REFERENCE'S PUBLIC METHODS: functions -/
theorem mBar_st {μ : MS} {x : Int64} {but : Option Nat} {n t : Nat} {w w' v : Int32} (h : mBar μ x but (n + 1) t w = v) (hs : mBarS μ x but t w = w') : mBar μ x but n (t + 1) w' = v := by rw [← hs]; exact h
theorem mBar_c {μ μ' : MS} {x : Int64} {but : Option Nat} (h : ∀ (t : Nat) (w : Int32), mBarS μ x but t w = mBarS μ' x but t w) : ∀ {n t : Nat} {w : Int32}, mBar μ x but n t w = mBar μ' x but n t w
  | 0, _, _ => rfl
  | n + 1, t, w => by
    show mBar μ x but n (t + 1) (mBarS μ x but t w) = mBar μ' x but n (t + 1) (mBarS μ' x but t w)
    rw [h t w]
    exact mBar_c h
def mHd (μ : MS) (i : Nat) : Option Nat := mFst (fun r => decide (0 < mI μ 10 r) && decide (mI μ 10 r = mI μ 20 i)) 300 0
def mTg (μ : MS) (i : Nat) (f : Int64) : Option Nat := if mI μ 16 i = 0 then mHd μ i else mEq μ 0 f none
theorem mTg_lt {μ : MS} {i q : Nat} {f : Int64} (h : mTg μ i f = some q) : q < 300 := by
  unfold mTg at h
  split at h
  · have := (mFst_some h).2.1; omega
  · exact mEq_lt h
def mOoR (μ : MS) (f : Int64) (r : Nat) : Bool := decide (0 < mI μ 10 r) && !mLs (mF μ 0 (mJ μ 9 r)) f
def mOo (μ : MS) (i : Nat) (f : Int64) : Bool := (mZ μ 26 i && !mLs (mJ μ 23 i) f) || (decide (mI μ 15 i = 3) && (mFst (mOoR μ f) 300 0).isSome)
def mNx (μ : MS) (i k : Nat) (back : Bool) : Option Nat := if mI μ 18 i = 0 then (if back = true then none else mAft μ k 0 0 true) else if back = true then mAhd μ k (mJ μ 21 i) (mI μ 19 i) (decide (mI μ 18 i = 2)) else mAft μ k (mJ μ 21 i) (mI μ 19 i) (decide (mI μ 18 i = 2))
theorem mNx_lt {μ : MS} {i k q : Nat} {back : Bool} (h : mNx μ i k back = some q) : q < 300 := by
  unfold mNx at h
  split at h
  · split at h
    · cases h
    · exact mAft_lt h
  · split at h
    · exact mAhd_lt h
    · exact mAft_lt h
def mBet (μ : MS) (k : Nat) (op : Int32) (r q : Nat) : Bool := if 2 < op then mBe μ k r (mF μ k (mJ μ 9 q)) (mRk μ k q) else mAh μ k r (mF μ k (mJ μ 9 q)) (mRk μ k q)
def mStc (μ : MS) (k : Nat) (op : Int32) (kk : Int64) (b : Int32) (r : Nat) : Bool := mEn μ k r && mHo op (prtI (mI μ 2 k) b (mF μ k (mJ μ 9 r))) kk
def mSt (μ : MS) (k : Nat) (op : Int32) (kk : Int64) (b : Int32) : Option Nat := mFold (mStc μ k op kk b) (mBet μ k op) 300 0 none
theorem mSt_lt {μ : MS} {k q : Nat} {op b : Int32} {kk : Int64} (h : mSt μ k op kk b = some q) : q < 300 := mFold_lt (m := 300) (Nat.le_refl _) (fun _ z => by cases z) q h
def mC1 : Nat → Nat → MS → MS
  | 0, _, μ => μ
  | n + 1, t, μ => mC1 n (t + 1) (sI μ 10 t 0)
def mC2 : Nat → Nat → MS → MS
  | 0, _, μ => μ
  | n + 1, t, μ => mC2 n (t + 1) (sJ (sI (sI μ 18 t 3) 20 t 0) 22 t 0)
def mOpn (μ : MS) (i : Nat) (m2 a2 : Int32) : MS := sZ (sZ (sJ (sI (sI (sI (sI (sI (sZ (sOp μ true) 24 i true) 15 i m2) 16 i a2) 17 i 0) 18 i 0) 20 i 0) 22 i 0) 25 i false) 26 i false
def mCls (μ : MS) (i : Nat) : MS := sJ (sI (sZ (sS μ 0 0) 24 i false) 20 i 0) 22 i 0
set_option maxRecDepth 4000 in
set_option maxHeartbeats 800000 in
theorem q_MD_barred (l : Launch) (E : xE) {G : xw_G} {md : Nat} {a : Nat → Nat} {μ : MS} (hM : xMD E G md a μ) {K : Nat} (hK : mS μ 6 = nI K) (hK6 : K ≤ 6) {x : Int64} {but : Option Nat} (hbut : ∀ q, but = some q → q < 300) : XMk l E y_MD_barred w_MD_barred rm_MD_barred [.ref md, .long (x), .int (oI but)] G (fun r G' => r = some (.int (mBar μ x but K 0 0)) ∧ G = G') 0 0 := by
  refine XM_of [some (.ref md), some (.long (x)), none, some (.int (oI but)), none, none, none, none, none] (XZ_st E) (by decide) rfl rfl rfl (Nat.le_of_ble_eq_true rfl) (fun p e s m below meth c C hnm => ?_)
  have loop : ∀ (n t : Nat) (w : Int32) (v6 v7 v8 : Option Value), t + n = K → mBar μ x but n t w = mBar μ x but K 0 0 → XW p l e rm_MD_barred s m #[.ref md, .long (x), .int (oI but)] below meth c (XQ below #[.ref md, .long (x), .int (oI but)] s (xD E) xcl (xB E) (fun r G' => r = some (.int (mBar μ x but K 0 0)) ∧ G = G') 0 0) (xD E) xcl (xB E) 6 [some (.ref md), some (.long (x)), none, some (.int (oI but)), some (.int (w)), some (.int (nI t)), v6, v7, v8] [] G 0 0 := by
    intro n
    induction n with
    | zero =>
      intro t w v6 v7 v8 ht hi
      refine x_iload C d_MD_barred_6 rfl ?_
      refine x_aload_n C d_MD_barred_8 rfl rfl ?_
      refine x_get C hM.1 rfl (in_MD _) 6 (by decide) (List.mem_cons_of_mem _ f_MD_78) rfl d_MD_barred_9 ?_
      refine x_as1 (v := .int (mS μ 6)) rfl ?_
      refine x_icmp_ge C 131 d_MD_barred_12 (by decide) (fun c_12 => ?_) (fun c_12 => ?_)
      · refine x_iload C d_MD_barred_131 rfl ?_
        exact x_iret C (Nat.le_of_ble_eq_true rfl) (Nat.le_of_ble_eq_true rfl) d_MD_barred_133 ⟨congrArg some (congrArg Value.int hi), rfl⟩
      · (rw [hK] at c_12; exact absurd (nI_le (by omega) (by omega)) c_12)
    | succ n ih =>
      intro t w v6 v7 v8 ht hi
      refine x_iload C d_MD_barred_6 rfl ?_
      refine x_aload_n C d_MD_barred_8 rfl rfl ?_
      refine x_get C hM.1 rfl (in_MD _) 6 (by decide) (List.mem_cons_of_mem _ f_MD_78) rfl d_MD_barred_9 ?_
      refine x_as1 (v := .int (mS μ 6)) rfl ?_
      refine x_icmp_ge C 131 d_MD_barred_12 (by decide) (fun c_12 => ?_) (fun c_12 => ?_)
      · (rw [hK] at c_12; exact absurd c_12 (nI_ge (by omega) (by omega)))
      · refine x_aload_n C d_MD_barred_15 rfl rfl ?_
        refine x_iload C d_MD_barred_16 rfl ?_
        refine x_lload_n C d_MD_barred_18 rfl rfl ?_
        refine x_callV2 C (q_MD_field l E hM (k := t) (by omega)) (lk_MD_98 C.hts (Nat.le_of_ble_eq_true rfl) (Nat.le_of_ble_eq_true rfl)) hM.1 rfl rfl d_MD_barred_19 (Nat.le_of_ble_eq_true rfl) (Nat.le_of_ble_eq_true rfl) (Nat.le_of_ble_eq_true rfl) (fun r G' h => ?_)
        obtain ⟨rfl, rfl⟩ : r = some (.long (mF μ t (x))) ∧ _ = G' := h
        refine x_lstore C d_MD_barred_22 (Nat.le_of_ble_eq_true rfl) rfl ?_
        rcases but with _ | b
        · have hb3 : True := trivial
          refine x_iload_n C d_MD_barred_24 rfl rfl ?_
          refine x_iconst C (v := -1) d_MD_barred_25 (by decide) ?_
          refine x_icmp_eq C 57 d_MD_barred_26 (by decide) (fun c_26 => ?_) (fun c_26 => ?_)
          · refine x_iconst C (v := 1) d_MD_barred_57 (by decide) ?_
            refine x_goto C 62 d_MD_barred_58 (by decide) ?_
            refine x_istore C d_MD_barred_62 (Nat.le_of_ble_eq_true rfl) rfl ?_
            refine x_aload_n C d_MD_barred_64 rfl rfl ?_
            refine x_iload C d_MD_barred_65 rfl ?_
            refine x_lload_n C d_MD_barred_67 rfl rfl ?_
            refine x_callV2 C (q_MD_hasEntry l E hM (k := t) (by omega)) (lk_MD_102 C.hts (Nat.le_of_ble_eq_true rfl) (Nat.le_of_ble_eq_true rfl)) hM.1 rfl rfl d_MD_barred_68 (Nat.le_of_ble_eq_true rfl) (Nat.le_of_ble_eq_true rfl) (Nat.le_of_ble_eq_true rfl) (fun r G' h => ?_)
            obtain ⟨rfl, rfl⟩ : r = some (.int (bI (mHs μ t (x)))) ∧ _ = G' := h
            refine x_if_eq C 125 d_MD_barred_71 (by decide) (fun c_71 => ?_) (fun c_71 => ?_)
            · refine x_iinc C d_MD_barred_125 rfl rfl rfl ?_
              refine x_goto C 6 d_MD_barred_128 (by decide) ?_
              rw [show nI t + Int32.ofInt 1 = nI (t + 1) from nI_1 t]
              exact ih (t + 1) (w) _ _ _ (by omega) (mBar_st hi (show mBarS μ x none t w = w from by clear C hnm ih; simp_all [mBarS, mChg, bI_0, lg_eq]))
            · refine x_iload C d_MD_barred_74 rfl ?_
              refine x_if_eq C 125 d_MD_barred_76 (by decide) (fun c_76 => ?_) (fun c_76 => ?_)
              · exact absurd c_76 (by decide)
              · refine x_aload_n C d_MD_barred_79 rfl rfl ?_
                refine x_iload C d_MD_barred_80 rfl ?_
                refine x_lload C d_MD_barred_82 rfl ?_
                refine x_iload_n C d_MD_barred_84 rfl rfl ?_
                refine x_callV3 C (q_MD_equal l E hM (k := t) (but := none) (by omega) (fun _ z => by cases z)) (lk_MD_125 C.hts (Nat.le_of_ble_eq_true rfl) (Nat.le_of_ble_eq_true rfl)) hM.1 rfl rfl d_MD_barred_85 (Nat.le_of_ble_eq_true rfl) (Nat.le_of_ble_eq_true rfl) (Nat.le_of_ble_eq_true rfl) (fun r G' h => ?_)
                obtain ⟨rfl, rfl⟩ : r = some (.int (oI (mEq μ t (mF μ t (x)) none))) ∧ _ = G' := h
                refine x_iconst C (v := -1) d_MD_barred_88 (by decide) ?_
                refine x_icmp_ne C 95 d_MD_barred_89 (by decide) (fun c_89 => ?_) (fun c_89 => ?_)
                · obtain ⟨z, hz⟩ := oI_s c_89
                  refine x_aload_n C d_MD_barred_95 rfl rfl ?_
                  refine x_get C hM.1 rfl (in_MD _) 3 (by decide) (List.mem_cons_of_mem _ f_MD_16) rfl d_MD_barred_96 ?_
                  refine x_iload C d_MD_barred_99 rfl ?_
                  refine x_mZv C hM 3 6 kZ_3 rfl (j := t) (by omega) (mZ μ 3 t) rfl d_MD_barred_101 ?_
                  refine x_if_ne C 110 d_MD_barred_102 (by decide) (fun c_102 => ?_) (fun c_102 => ?_)
                  · refine x_iload C d_MD_barred_110 rfl ?_
                    refine x_bipush C (v := 22) d_MD_barred_112 (by decide) ?_
                    refine x_icmp_ne C 122 d_MD_barred_114 (by decide) (fun c_114 => ?_) (fun c_114 => ?_)
                    · refine x_iconst C (v := 2) d_MD_barred_122 (by decide) ?_
                      refine x_istore C d_MD_barred_123 (Nat.le_of_ble_eq_true rfl) rfl ?_
                      refine x_iinc C d_MD_barred_125 rfl rfl rfl ?_
                      refine x_goto C 6 d_MD_barred_128 (by decide) ?_
                      rw [show nI t + Int32.ofInt 1 = nI (t + 1) from nI_1 t]
                      exact ih (t + 1) (2) _ _ _ (by omega) (mBar_st hi (show mBarS μ x none t w = 2 from by clear C hnm ih; simp_all [mBarS, mChg, bI_0, lg_eq]))
                    · refine x_bipush C (v := 22) d_MD_barred_117 (by decide) ?_
                      refine x_goto C 123 d_MD_barred_119 (by decide) ?_
                      refine x_istore C d_MD_barred_123 (Nat.le_of_ble_eq_true rfl) rfl ?_
                      refine x_iinc C d_MD_barred_125 rfl rfl rfl ?_
                      refine x_goto C 6 d_MD_barred_128 (by decide) ?_
                      rw [show nI t + Int32.ofInt 1 = nI (t + 1) from nI_1 t]
                      exact ih (t + 1) (22) _ _ _ (by omega) (mBar_st hi (show mBarS μ x none t w = 22 from by clear C hnm ih; simp_all [mBarS, mChg, bI_0, lg_eq]))
                  · refine x_bipush C (v := 22) d_MD_barred_105 (by decide) ?_
                    refine x_goto C 123 d_MD_barred_107 (by decide) ?_
                    refine x_istore C d_MD_barred_123 (Nat.le_of_ble_eq_true rfl) rfl ?_
                    refine x_iinc C d_MD_barred_125 rfl rfl rfl ?_
                    refine x_goto C 6 d_MD_barred_128 (by decide) ?_
                    rw [show nI t + Int32.ofInt 1 = nI (t + 1) from nI_1 t]
                    exact ih (t + 1) (22) _ _ _ (by omega) (mBar_st hi (show mBarS μ x none t w = 22 from by clear C hnm ih; simp_all [mBarS, mChg, bI_0, lg_eq]))
                · have hz := oI_n (fun _ z => mEq_lt z) c_89
                  refine x_goto C 125 d_MD_barred_92 (by decide) ?_
                  refine x_iinc C d_MD_barred_125 rfl rfl rfl ?_
                  refine x_goto C 6 d_MD_barred_128 (by decide) ?_
                  rw [show nI t + Int32.ofInt 1 = nI (t + 1) from nI_1 t]
                  exact ih (t + 1) (w) _ _ _ (by omega) (mBar_st hi (show mBarS μ x none t w = w from by clear C hnm ih; simp_all [mBarS, mChg, bI_0, lg_eq]))
          · exact absurd c_26 (by decide)
        · have hb3 := hbut b rfl
          refine x_iload_n C d_MD_barred_24 rfl rfl ?_
          refine x_iconst C (v := -1) d_MD_barred_25 (by decide) ?_
          refine x_icmp_eq C 57 d_MD_barred_26 (by decide) (fun c_26 => ?_) (fun c_26 => ?_)
          · exact absurd c_26 (nI_m1 (by omega))
          · refine x_aload_n C d_MD_barred_29 rfl rfl ?_
            refine x_iload C d_MD_barred_30 rfl ?_
            refine x_iload_n C d_MD_barred_32 rfl rfl ?_
            refine x_callV2 C (q_MD_isEntry l E hM (k := t) (sl := b) (by omega) (by omega)) (lk_MD_114 C.hts (Nat.le_of_ble_eq_true rfl) (Nat.le_of_ble_eq_true rfl)) hM.1 rfl rfl d_MD_barred_33 (Nat.le_of_ble_eq_true rfl) (Nat.le_of_ble_eq_true rfl) (Nat.le_of_ble_eq_true rfl) (fun r G' h => ?_)
            obtain ⟨rfl, rfl⟩ : r = some (.int (bI (mEn μ t b))) ∧ _ = G' := h
            refine x_if_eq C 57 d_MD_barred_36 (by decide) (fun c_36 => ?_) (fun c_36 => ?_)
            · refine x_iconst C (v := 1) d_MD_barred_57 (by decide) ?_
              refine x_goto C 62 d_MD_barred_58 (by decide) ?_
              refine x_istore C d_MD_barred_62 (Nat.le_of_ble_eq_true rfl) rfl ?_
              refine x_aload_n C d_MD_barred_64 rfl rfl ?_
              refine x_iload C d_MD_barred_65 rfl ?_
              refine x_lload_n C d_MD_barred_67 rfl rfl ?_
              refine x_callV2 C (q_MD_hasEntry l E hM (k := t) (by omega)) (lk_MD_102 C.hts (Nat.le_of_ble_eq_true rfl) (Nat.le_of_ble_eq_true rfl)) hM.1 rfl rfl d_MD_barred_68 (Nat.le_of_ble_eq_true rfl) (Nat.le_of_ble_eq_true rfl) (Nat.le_of_ble_eq_true rfl) (fun r G' h => ?_)
              obtain ⟨rfl, rfl⟩ : r = some (.int (bI (mHs μ t (x)))) ∧ _ = G' := h
              refine x_if_eq C 125 d_MD_barred_71 (by decide) (fun c_71 => ?_) (fun c_71 => ?_)
              · refine x_iinc C d_MD_barred_125 rfl rfl rfl ?_
                refine x_goto C 6 d_MD_barred_128 (by decide) ?_
                rw [show nI t + Int32.ofInt 1 = nI (t + 1) from nI_1 t]
                exact ih (t + 1) (w) _ _ _ (by omega) (mBar_st hi (show mBarS μ x (some b) t w = w from by clear C hnm ih; simp_all [mBarS, mChg, bI_0, lg_eq]))
              · refine x_iload C d_MD_barred_74 rfl ?_
                refine x_if_eq C 125 d_MD_barred_76 (by decide) (fun c_76 => ?_) (fun c_76 => ?_)
                · exact absurd c_76 (by decide)
                · refine x_aload_n C d_MD_barred_79 rfl rfl ?_
                  refine x_iload C d_MD_barred_80 rfl ?_
                  refine x_lload C d_MD_barred_82 rfl ?_
                  refine x_iload_n C d_MD_barred_84 rfl rfl ?_
                  refine x_callV3 C (q_MD_equal l E hM (k := t) (but := (some b)) (by omega) (fun _ z => by cases z; omega)) (lk_MD_125 C.hts (Nat.le_of_ble_eq_true rfl) (Nat.le_of_ble_eq_true rfl)) hM.1 rfl rfl d_MD_barred_85 (Nat.le_of_ble_eq_true rfl) (Nat.le_of_ble_eq_true rfl) (Nat.le_of_ble_eq_true rfl) (fun r G' h => ?_)
                  obtain ⟨rfl, rfl⟩ : r = some (.int (oI (mEq μ t (mF μ t (x)) (some b)))) ∧ _ = G' := h
                  refine x_iconst C (v := -1) d_MD_barred_88 (by decide) ?_
                  refine x_icmp_ne C 95 d_MD_barred_89 (by decide) (fun c_89 => ?_) (fun c_89 => ?_)
                  · obtain ⟨z, hz⟩ := oI_s c_89
                    refine x_aload_n C d_MD_barred_95 rfl rfl ?_
                    refine x_get C hM.1 rfl (in_MD _) 3 (by decide) (List.mem_cons_of_mem _ f_MD_16) rfl d_MD_barred_96 ?_
                    refine x_iload C d_MD_barred_99 rfl ?_
                    refine x_mZv C hM 3 6 kZ_3 rfl (j := t) (by omega) (mZ μ 3 t) rfl d_MD_barred_101 ?_
                    refine x_if_ne C 110 d_MD_barred_102 (by decide) (fun c_102 => ?_) (fun c_102 => ?_)
                    · refine x_iload C d_MD_barred_110 rfl ?_
                      refine x_bipush C (v := 22) d_MD_barred_112 (by decide) ?_
                      refine x_icmp_ne C 122 d_MD_barred_114 (by decide) (fun c_114 => ?_) (fun c_114 => ?_)
                      · refine x_iconst C (v := 2) d_MD_barred_122 (by decide) ?_
                        refine x_istore C d_MD_barred_123 (Nat.le_of_ble_eq_true rfl) rfl ?_
                        refine x_iinc C d_MD_barred_125 rfl rfl rfl ?_
                        refine x_goto C 6 d_MD_barred_128 (by decide) ?_
                        rw [show nI t + Int32.ofInt 1 = nI (t + 1) from nI_1 t]
                        exact ih (t + 1) (2) _ _ _ (by omega) (mBar_st hi (show mBarS μ x (some b) t w = 2 from by clear C hnm ih; simp_all [mBarS, mChg, bI_0, lg_eq]))
                      · refine x_bipush C (v := 22) d_MD_barred_117 (by decide) ?_
                        refine x_goto C 123 d_MD_barred_119 (by decide) ?_
                        refine x_istore C d_MD_barred_123 (Nat.le_of_ble_eq_true rfl) rfl ?_
                        refine x_iinc C d_MD_barred_125 rfl rfl rfl ?_
                        refine x_goto C 6 d_MD_barred_128 (by decide) ?_
                        rw [show nI t + Int32.ofInt 1 = nI (t + 1) from nI_1 t]
                        exact ih (t + 1) (22) _ _ _ (by omega) (mBar_st hi (show mBarS μ x (some b) t w = 22 from by clear C hnm ih; simp_all [mBarS, mChg, bI_0, lg_eq]))
                    · refine x_bipush C (v := 22) d_MD_barred_105 (by decide) ?_
                      refine x_goto C 123 d_MD_barred_107 (by decide) ?_
                      refine x_istore C d_MD_barred_123 (Nat.le_of_ble_eq_true rfl) rfl ?_
                      refine x_iinc C d_MD_barred_125 rfl rfl rfl ?_
                      refine x_goto C 6 d_MD_barred_128 (by decide) ?_
                      rw [show nI t + Int32.ofInt 1 = nI (t + 1) from nI_1 t]
                      exact ih (t + 1) (22) _ _ _ (by omega) (mBar_st hi (show mBarS μ x (some b) t w = 22 from by clear C hnm ih; simp_all [mBarS, mChg, bI_0, lg_eq]))
                  · have hz := oI_n (fun _ z => mEq_lt z) c_89
                    refine x_goto C 125 d_MD_barred_92 (by decide) ?_
                    refine x_iinc C d_MD_barred_125 rfl rfl rfl ?_
                    refine x_goto C 6 d_MD_barred_128 (by decide) ?_
                    rw [show nI t + Int32.ofInt 1 = nI (t + 1) from nI_1 t]
                    exact ih (t + 1) (w) _ _ _ (by omega) (mBar_st hi (show mBarS μ x (some b) t w = w from by clear C hnm ih; simp_all [mBarS, mChg, bI_0, lg_eq]))
            · refine x_aload_n C d_MD_barred_39 rfl rfl ?_
              refine x_iload C d_MD_barred_40 rfl ?_
              refine x_aload_n C d_MD_barred_42 rfl rfl ?_
              refine x_get C hM.1 rfl (in_MD _) 9 (by decide) (List.mem_cons_of_mem _ f_MD_27) rfl d_MD_barred_43 ?_
              refine x_iload_n C d_MD_barred_46 rfl rfl ?_
              refine x_mJv C hM 9 300 kJ_9 rfl (j := b) (by omega) (mJ μ 9 b) rfl d_MD_barred_47 ?_
              refine x_callV2 C (q_MD_field l E hM (k := t) (by omega)) (lk_MD_98 C.hts (Nat.le_of_ble_eq_true rfl) (Nat.le_of_ble_eq_true rfl)) hM.1 rfl rfl d_MD_barred_48 (Nat.le_of_ble_eq_true rfl) (Nat.le_of_ble_eq_true rfl) (Nat.le_of_ble_eq_true rfl) (fun r G' h => ?_)
              obtain ⟨rfl, rfl⟩ : r = some (.long (mF μ t (mJ μ 9 b))) ∧ _ = G' := h
              refine x_lload C d_MD_barred_51 rfl ?_
              refine x_lcmp C d_MD_barred_53 ?_
              refine x_if_eq C 61 d_MD_barred_54 (by decide) (fun c_54 => ?_) (fun c_54 => ?_)
              · refine x_iconst C (v := 0) d_MD_barred_61 (by decide) ?_
                refine x_istore C d_MD_barred_62 (Nat.le_of_ble_eq_true rfl) rfl ?_
                refine x_aload_n C d_MD_barred_64 rfl rfl ?_
                refine x_iload C d_MD_barred_65 rfl ?_
                refine x_lload_n C d_MD_barred_67 rfl rfl ?_
                refine x_callV2 C (q_MD_hasEntry l E hM (k := t) (by omega)) (lk_MD_102 C.hts (Nat.le_of_ble_eq_true rfl) (Nat.le_of_ble_eq_true rfl)) hM.1 rfl rfl d_MD_barred_68 (Nat.le_of_ble_eq_true rfl) (Nat.le_of_ble_eq_true rfl) (Nat.le_of_ble_eq_true rfl) (fun r G' h => ?_)
                obtain ⟨rfl, rfl⟩ : r = some (.int (bI (mHs μ t (x)))) ∧ _ = G' := h
                refine x_if_eq C 125 d_MD_barred_71 (by decide) (fun c_71 => ?_) (fun c_71 => ?_)
                · refine x_iinc C d_MD_barred_125 rfl rfl rfl ?_
                  refine x_goto C 6 d_MD_barred_128 (by decide) ?_
                  rw [show nI t + Int32.ofInt 1 = nI (t + 1) from nI_1 t]
                  exact ih (t + 1) (w) _ _ _ (by omega) (mBar_st hi (show mBarS μ x (some b) t w = w from by clear C hnm ih; simp_all [mBarS, mChg, bI_0, lg_eq]))
                · refine x_iload C d_MD_barred_74 rfl ?_
                  refine x_if_eq C 125 d_MD_barred_76 (by decide) (fun c_76 => ?_) (fun c_76 => ?_)
                  · refine x_iinc C d_MD_barred_125 rfl rfl rfl ?_
                    refine x_goto C 6 d_MD_barred_128 (by decide) ?_
                    rw [show nI t + Int32.ofInt 1 = nI (t + 1) from nI_1 t]
                    exact ih (t + 1) (w) _ _ _ (by omega) (mBar_st hi (show mBarS μ x (some b) t w = w from by clear C hnm ih; simp_all [mBarS, mChg, bI_0, lg_eq]))
                  · exact absurd c_76 (by decide)
              · refine x_iconst C (v := 1) d_MD_barred_57 (by decide) ?_
                refine x_goto C 62 d_MD_barred_58 (by decide) ?_
                refine x_istore C d_MD_barred_62 (Nat.le_of_ble_eq_true rfl) rfl ?_
                refine x_aload_n C d_MD_barred_64 rfl rfl ?_
                refine x_iload C d_MD_barred_65 rfl ?_
                refine x_lload_n C d_MD_barred_67 rfl rfl ?_
                refine x_callV2 C (q_MD_hasEntry l E hM (k := t) (by omega)) (lk_MD_102 C.hts (Nat.le_of_ble_eq_true rfl) (Nat.le_of_ble_eq_true rfl)) hM.1 rfl rfl d_MD_barred_68 (Nat.le_of_ble_eq_true rfl) (Nat.le_of_ble_eq_true rfl) (Nat.le_of_ble_eq_true rfl) (fun r G' h => ?_)
                obtain ⟨rfl, rfl⟩ : r = some (.int (bI (mHs μ t (x)))) ∧ _ = G' := h
                refine x_if_eq C 125 d_MD_barred_71 (by decide) (fun c_71 => ?_) (fun c_71 => ?_)
                · refine x_iinc C d_MD_barred_125 rfl rfl rfl ?_
                  refine x_goto C 6 d_MD_barred_128 (by decide) ?_
                  rw [show nI t + Int32.ofInt 1 = nI (t + 1) from nI_1 t]
                  exact ih (t + 1) (w) _ _ _ (by omega) (mBar_st hi (show mBarS μ x (some b) t w = w from by clear C hnm ih; simp_all [mBarS, mChg, bI_0, lg_eq]))
                · refine x_iload C d_MD_barred_74 rfl ?_
                  refine x_if_eq C 125 d_MD_barred_76 (by decide) (fun c_76 => ?_) (fun c_76 => ?_)
                  · exact absurd c_76 (by decide)
                  · refine x_aload_n C d_MD_barred_79 rfl rfl ?_
                    refine x_iload C d_MD_barred_80 rfl ?_
                    refine x_lload C d_MD_barred_82 rfl ?_
                    refine x_iload_n C d_MD_barred_84 rfl rfl ?_
                    refine x_callV3 C (q_MD_equal l E hM (k := t) (but := (some b)) (by omega) (fun _ z => by cases z; omega)) (lk_MD_125 C.hts (Nat.le_of_ble_eq_true rfl) (Nat.le_of_ble_eq_true rfl)) hM.1 rfl rfl d_MD_barred_85 (Nat.le_of_ble_eq_true rfl) (Nat.le_of_ble_eq_true rfl) (Nat.le_of_ble_eq_true rfl) (fun r G' h => ?_)
                    obtain ⟨rfl, rfl⟩ : r = some (.int (oI (mEq μ t (mF μ t (x)) (some b)))) ∧ _ = G' := h
                    refine x_iconst C (v := -1) d_MD_barred_88 (by decide) ?_
                    refine x_icmp_ne C 95 d_MD_barred_89 (by decide) (fun c_89 => ?_) (fun c_89 => ?_)
                    · obtain ⟨z, hz⟩ := oI_s c_89
                      refine x_aload_n C d_MD_barred_95 rfl rfl ?_
                      refine x_get C hM.1 rfl (in_MD _) 3 (by decide) (List.mem_cons_of_mem _ f_MD_16) rfl d_MD_barred_96 ?_
                      refine x_iload C d_MD_barred_99 rfl ?_
                      refine x_mZv C hM 3 6 kZ_3 rfl (j := t) (by omega) (mZ μ 3 t) rfl d_MD_barred_101 ?_
                      refine x_if_ne C 110 d_MD_barred_102 (by decide) (fun c_102 => ?_) (fun c_102 => ?_)
                      · refine x_iload C d_MD_barred_110 rfl ?_
                        refine x_bipush C (v := 22) d_MD_barred_112 (by decide) ?_
                        refine x_icmp_ne C 122 d_MD_barred_114 (by decide) (fun c_114 => ?_) (fun c_114 => ?_)
                        · refine x_iconst C (v := 2) d_MD_barred_122 (by decide) ?_
                          refine x_istore C d_MD_barred_123 (Nat.le_of_ble_eq_true rfl) rfl ?_
                          refine x_iinc C d_MD_barred_125 rfl rfl rfl ?_
                          refine x_goto C 6 d_MD_barred_128 (by decide) ?_
                          rw [show nI t + Int32.ofInt 1 = nI (t + 1) from nI_1 t]
                          exact ih (t + 1) (2) _ _ _ (by omega) (mBar_st hi (show mBarS μ x (some b) t w = 2 from by clear C hnm ih; simp_all [mBarS, mChg, bI_0, lg_eq]))
                        · refine x_bipush C (v := 22) d_MD_barred_117 (by decide) ?_
                          refine x_goto C 123 d_MD_barred_119 (by decide) ?_
                          refine x_istore C d_MD_barred_123 (Nat.le_of_ble_eq_true rfl) rfl ?_
                          refine x_iinc C d_MD_barred_125 rfl rfl rfl ?_
                          refine x_goto C 6 d_MD_barred_128 (by decide) ?_
                          rw [show nI t + Int32.ofInt 1 = nI (t + 1) from nI_1 t]
                          exact ih (t + 1) (22) _ _ _ (by omega) (mBar_st hi (show mBarS μ x (some b) t w = 22 from by clear C hnm ih; simp_all [mBarS, mChg, bI_0, lg_eq]))
                      · refine x_bipush C (v := 22) d_MD_barred_105 (by decide) ?_
                        refine x_goto C 123 d_MD_barred_107 (by decide) ?_
                        refine x_istore C d_MD_barred_123 (Nat.le_of_ble_eq_true rfl) rfl ?_
                        refine x_iinc C d_MD_barred_125 rfl rfl rfl ?_
                        refine x_goto C 6 d_MD_barred_128 (by decide) ?_
                        rw [show nI t + Int32.ofInt 1 = nI (t + 1) from nI_1 t]
                        exact ih (t + 1) (22) _ _ _ (by omega) (mBar_st hi (show mBarS μ x (some b) t w = 22 from by clear C hnm ih; simp_all [mBarS, mChg, bI_0, lg_eq]))
                    · have hz := oI_n (fun _ z => mEq_lt z) c_89
                      refine x_goto C 125 d_MD_barred_92 (by decide) ?_
                      refine x_iinc C d_MD_barred_125 rfl rfl rfl ?_
                      refine x_goto C 6 d_MD_barred_128 (by decide) ?_
                      rw [show nI t + Int32.ofInt 1 = nI (t + 1) from nI_1 t]
                      exact ih (t + 1) (w) _ _ _ (by omega) (mBar_st hi (show mBarS μ x (some b) t w = w from by clear C hnm ih; simp_all [mBarS, mChg, bI_0, lg_eq]))
  refine x_iconst C (v := 0) d_MD_barred_0 (by decide) ?_
  refine x_istore C d_MD_barred_1 (Nat.le_of_ble_eq_true rfl) rfl ?_
  refine x_iconst C (v := 0) d_MD_barred_3 (by decide) ?_
  refine x_istore C d_MD_barred_4 (Nat.le_of_ble_eq_true rfl) rfl ?_
  exact loop K 0 0 _ _ _ (by omega) rfl
set_option maxRecDepth 4000 in
set_option maxHeartbeats 800000 in
theorem q_MD_rankAll (l : Launch) (E : xE) {G : xw_G} {md : Nat} {a : Nat → Nat} {μ : MS} (hM : xMD E G md a μ) {K : Nat} (hK : mS μ 6 = nI K) (hK6 : K ≤ 6) {sl : Nat} (hr : sl < 300) {x : Int64} {fr : Bool} : XMk l E y_MD_rankAll w_MD_rankAll rm_MD_rankAll [.ref md, .int (nI sl), .long (x), .int (bI fr)] G (fun r G' => r = none ∧ xMD E G' md a (sJ (mRA sl x fr K 0 μ) 9 sl x) ∧ xFc G G') 0 0 := by
  refine XM_of [some (.ref md), some (.int (nI sl)), some (.long (x)), none, some (.int (bI fr)), none, none] (XZ_st E) (by decide) rfl rfl rfl (Nat.le_of_ble_eq_true rfl) (fun p e s m below meth c C hnm => ?_)
  have loop : ∀ (n t : Nat) (μ1 : MS) (G1 : xw_G) (v6 : Option Value), t + n = K → xMD E G1 md a μ1 → xFc G G1 → mS μ1 6 = nI K → mRA sl x fr n t μ1 = mRA sl x fr K 0 μ → XW p l e rm_MD_rankAll s m #[.ref md, .int (nI sl), .long (x), .int (bI fr)] below meth c (XQ below #[.ref md, .int (nI sl), .long (x), .int (bI fr)] s (xD E) xcl (xB E) (fun r G' => r = none ∧ xMD E G' md a (sJ (mRA sl x fr K 0 μ) 9 sl x) ∧ xFc G G') 0 0) (xD E) xcl (xB E) 3 [some (.ref md), some (.int (nI sl)), some (.long (x)), none, some (.int (bI fr)), some (.int (nI t)), v6] [] G1 0 0 := by
    intro n
    induction n with
    | zero =>
      intro t μ1 G1 v6 ht hM1 hF1 hK1 hi
      refine x_iload C d_MD_rankAll_3 rfl ?_
      refine x_aload_n C d_MD_rankAll_5 rfl rfl ?_
      refine x_get C hM1.1 rfl (in_MD _) 6 (by decide) (List.mem_cons_of_mem _ f_MD_78) rfl d_MD_rankAll_6 ?_
      refine x_as1 (v := .int (mS μ1 6)) rfl ?_
      refine x_icmp_ge C 111 d_MD_rankAll_9 (by decide) (fun c_9 => ?_) (fun c_9 => ?_)
      · refine x_aload_n C d_MD_rankAll_111 rfl rfl ?_
        refine x_get C hM1.1 rfl (in_MD _) 9 (by decide) (List.mem_cons_of_mem _ f_MD_27) rfl d_MD_rankAll_112 ?_
        refine x_iload_n C d_MD_rankAll_115 rfl rfl ?_
        refine x_lload_n C d_MD_rankAll_116 rfl rfl ?_
        refine x_mJs C hM1 9 300 kJ_9 (j := sl) (x := x) rfl (by omega) d_MD_rankAll_117 (fun _ hMg1 hFg1 => ?_)
        exact x_vret C (Nat.le_of_ble_eq_true rfl) (Nat.le_of_ble_eq_true rfl) d_MD_rankAll_118 ⟨rfl, by have hi : μ1 = mRA sl x fr K 0 μ := hi; rw [← hi]; exact hMg1, hF1.tr (hFg1)⟩
      · (rw [hK1] at c_9; exact absurd (nI_le (by omega) (by omega)) c_9)
    | succ n ih =>
      intro t μ1 G1 v6 ht hM1 hF1 hK1 hi
      refine x_iload C d_MD_rankAll_3 rfl ?_
      refine x_aload_n C d_MD_rankAll_5 rfl rfl ?_
      refine x_get C hM1.1 rfl (in_MD _) 6 (by decide) (List.mem_cons_of_mem _ f_MD_78) rfl d_MD_rankAll_6 ?_
      refine x_as1 (v := .int (mS μ1 6)) rfl ?_
      refine x_icmp_ge C 111 d_MD_rankAll_9 (by decide) (fun c_9 => ?_) (fun c_9 => ?_)
      · (rw [hK1] at c_9; exact absurd c_9 (nI_ge (by omega) (by omega)))
      · refine x_iload C d_MD_rankAll_12 rfl ?_
        refine x_if_ne C 50 d_MD_rankAll_14 (by decide) (fun c_14 => ?_) (fun c_14 => ?_)
        · refine x_iconst C (v := 1) d_MD_rankAll_50 (by decide) ?_
          refine x_goto C 55 d_MD_rankAll_51 (by decide) ?_
          refine x_istore C d_MD_rankAll_55 (Nat.le_of_ble_eq_true rfl) rfl ?_
          refine x_aload_n C d_MD_rankAll_57 rfl rfl ?_
          refine x_dup C d_MD_rankAll_58 rfl ?_
          refine x_get C hM1.1 rfl (in_MD _) 14 (by decide) (List.mem_cons_of_mem _ f_MD_147) rfl d_MD_rankAll_59 ?_
          refine x_as1 (v := .int (mS μ1 14)) rfl ?_
          refine x_iconst C (v := 1) d_MD_rankAll_62 (by decide) ?_
          refine x_iadd C d_MD_rankAll_63 ?_
          refine x_mSp C hM1 14 (by decide) (x := (mS μ1 14) + (1)) f_MD_147 rfl rfl rfl d_MD_rankAll_64 (fun _ hMg1 hFg1 => ?_)
          refine x_aload_n C d_MD_rankAll_67 rfl rfl ?_
          refine x_get C hMg1.1 rfl (in_MD _) 11 (by decide) (List.mem_cons_of_mem _ f_MD_33) rfl d_MD_rankAll_68 ?_
          refine x_sipush C (v := 300) d_MD_rankAll_71 (by decide) ?_
          refine x_iload C d_MD_rankAll_74 rfl ?_
          refine x_imul C d_MD_rankAll_76 ?_
          refine x_iload_n C d_MD_rankAll_77 rfl rfl ?_
          refine x_iadd C d_MD_rankAll_78 ?_
          refine x_iload C d_MD_rankAll_79 rfl ?_
          refine x_if_eq C 91 d_MD_rankAll_81 (by decide) (fun c_81 => ?_) (fun c_81 => ?_)
          · exact absurd c_81 (by decide)
          · refine x_aload_n C d_MD_rankAll_84 rfl rfl ?_
            refine x_get C hMg1.1 rfl (in_MD _) 14 (by decide) (List.mem_cons_of_mem _ f_MD_147) rfl d_MD_rankAll_85 ?_
            refine x_as1 (v := .int (mS (sS μ1 14 ((mS μ1 14) + (1))) 14)) rfl ?_
            refine x_goto C 104 d_MD_rankAll_88 (by decide) ?_
            refine x_mIs C hMg1 11 1800 kI_11 (j := 300 * t + sl) (x := mS (sS μ1 14 ((mS μ1 14) + (1))) 14) ix300 (by omega) d_MD_rankAll_104 (fun _ hMg2 hFg2 => ?_)
            refine x_iinc C d_MD_rankAll_105 rfl rfl rfl ?_
            refine x_goto C 3 d_MD_rankAll_108 (by decide) ?_
            rw [show nI t + Int32.ofInt 1 = nI (t + 1) from nI_1 t]
            have hs : (sI (sS μ1 14 ((mS μ1 14) + (1))) 11 (300 * t + sl) (mS (sS μ1 14 ((mS μ1 14) + (1))) 14)) = mRAs μ1 sl x fr t := by unfold mRAs; rw [if_pos (show (fr || (!mEn μ1 t sl || !decide (mF μ1 t (mJ μ1 9 sl) = mF μ1 t x))) = true from by clear C hnm ih; simp_all [bI_0, lg_eq])]; rfl
            rw [hs] at hMg2
            exact ih (t + 1) (mRAs μ1 sl x fr t) _ _ (by omega) hMg2 (hF1.tr (hFg1.tr hFg2)) hK1 hi
        · refine x_aload_n C d_MD_rankAll_17 rfl rfl ?_
          refine x_iload C d_MD_rankAll_18 rfl ?_
          refine x_iload_n C d_MD_rankAll_20 rfl rfl ?_
          refine x_callV2 C (q_MD_isEntry l E hM1 (k := t) (sl := sl) (by omega) (by omega)) (lk_MD_114 C.hts (Nat.le_of_ble_eq_true rfl) (Nat.le_of_ble_eq_true rfl)) hM1.1 rfl rfl d_MD_rankAll_21 (Nat.le_of_ble_eq_true rfl) (Nat.le_of_ble_eq_true rfl) (Nat.le_of_ble_eq_true rfl) (fun r G' h => ?_)
          obtain ⟨rfl, rfl⟩ : r = some (.int (bI (mEn μ1 t sl))) ∧ _ = G' := h
          refine x_if_eq C 50 d_MD_rankAll_24 (by decide) (fun c_24 => ?_) (fun c_24 => ?_)
          · refine x_iconst C (v := 1) d_MD_rankAll_50 (by decide) ?_
            refine x_goto C 55 d_MD_rankAll_51 (by decide) ?_
            refine x_istore C d_MD_rankAll_55 (Nat.le_of_ble_eq_true rfl) rfl ?_
            refine x_aload_n C d_MD_rankAll_57 rfl rfl ?_
            refine x_dup C d_MD_rankAll_58 rfl ?_
            refine x_get C hM1.1 rfl (in_MD _) 14 (by decide) (List.mem_cons_of_mem _ f_MD_147) rfl d_MD_rankAll_59 ?_
            refine x_as1 (v := .int (mS μ1 14)) rfl ?_
            refine x_iconst C (v := 1) d_MD_rankAll_62 (by decide) ?_
            refine x_iadd C d_MD_rankAll_63 ?_
            refine x_mSp C hM1 14 (by decide) (x := (mS μ1 14) + (1)) f_MD_147 rfl rfl rfl d_MD_rankAll_64 (fun _ hMg3 hFg3 => ?_)
            refine x_aload_n C d_MD_rankAll_67 rfl rfl ?_
            refine x_get C hMg3.1 rfl (in_MD _) 11 (by decide) (List.mem_cons_of_mem _ f_MD_33) rfl d_MD_rankAll_68 ?_
            refine x_sipush C (v := 300) d_MD_rankAll_71 (by decide) ?_
            refine x_iload C d_MD_rankAll_74 rfl ?_
            refine x_imul C d_MD_rankAll_76 ?_
            refine x_iload_n C d_MD_rankAll_77 rfl rfl ?_
            refine x_iadd C d_MD_rankAll_78 ?_
            refine x_iload C d_MD_rankAll_79 rfl ?_
            refine x_if_eq C 91 d_MD_rankAll_81 (by decide) (fun c_81 => ?_) (fun c_81 => ?_)
            · exact absurd c_81 (by decide)
            · refine x_aload_n C d_MD_rankAll_84 rfl rfl ?_
              refine x_get C hMg3.1 rfl (in_MD _) 14 (by decide) (List.mem_cons_of_mem _ f_MD_147) rfl d_MD_rankAll_85 ?_
              refine x_as1 (v := .int (mS (sS μ1 14 ((mS μ1 14) + (1))) 14)) rfl ?_
              refine x_goto C 104 d_MD_rankAll_88 (by decide) ?_
              refine x_mIs C hMg3 11 1800 kI_11 (j := 300 * t + sl) (x := mS (sS μ1 14 ((mS μ1 14) + (1))) 14) ix300 (by omega) d_MD_rankAll_104 (fun _ hMg4 hFg4 => ?_)
              refine x_iinc C d_MD_rankAll_105 rfl rfl rfl ?_
              refine x_goto C 3 d_MD_rankAll_108 (by decide) ?_
              rw [show nI t + Int32.ofInt 1 = nI (t + 1) from nI_1 t]
              have hs : (sI (sS μ1 14 ((mS μ1 14) + (1))) 11 (300 * t + sl) (mS (sS μ1 14 ((mS μ1 14) + (1))) 14)) = mRAs μ1 sl x fr t := by unfold mRAs; rw [if_pos (show (fr || (!mEn μ1 t sl || !decide (mF μ1 t (mJ μ1 9 sl) = mF μ1 t x))) = true from by clear C hnm ih; simp_all [bI_0, lg_eq])]; rfl
              rw [hs] at hMg4
              exact ih (t + 1) (mRAs μ1 sl x fr t) _ _ (by omega) hMg4 (hF1.tr (hFg3.tr hFg4)) hK1 hi
          · refine x_aload_n C d_MD_rankAll_27 rfl rfl ?_
            refine x_iload C d_MD_rankAll_28 rfl ?_
            refine x_aload_n C d_MD_rankAll_30 rfl rfl ?_
            refine x_get C hM1.1 rfl (in_MD _) 9 (by decide) (List.mem_cons_of_mem _ f_MD_27) rfl d_MD_rankAll_31 ?_
            refine x_iload_n C d_MD_rankAll_34 rfl rfl ?_
            refine x_mJv C hM1 9 300 kJ_9 rfl (j := sl) (by omega) (mJ μ1 9 sl) rfl d_MD_rankAll_35 ?_
            refine x_callV2 C (q_MD_field l E hM1 (k := t) (by omega)) (lk_MD_98 C.hts (Nat.le_of_ble_eq_true rfl) (Nat.le_of_ble_eq_true rfl)) hM1.1 rfl rfl d_MD_rankAll_36 (Nat.le_of_ble_eq_true rfl) (Nat.le_of_ble_eq_true rfl) (Nat.le_of_ble_eq_true rfl) (fun r G' h => ?_)
            obtain ⟨rfl, rfl⟩ : r = some (.long (mF μ1 t (mJ μ1 9 sl))) ∧ _ = G' := h
            refine x_aload_n C d_MD_rankAll_39 rfl rfl ?_
            refine x_iload C d_MD_rankAll_40 rfl ?_
            refine x_lload_n C d_MD_rankAll_42 rfl rfl ?_
            refine x_callV2 C (q_MD_field l E hM1 (k := t) (by omega)) (lk_MD_98 C.hts (Nat.le_of_ble_eq_true rfl) (Nat.le_of_ble_eq_true rfl)) hM1.1 rfl rfl d_MD_rankAll_43 (Nat.le_of_ble_eq_true rfl) (Nat.le_of_ble_eq_true rfl) (Nat.le_of_ble_eq_true rfl) (fun r G' h => ?_)
            obtain ⟨rfl, rfl⟩ : r = some (.long (mF μ1 t (x))) ∧ _ = G' := h
            refine x_lcmp C d_MD_rankAll_46 ?_
            refine x_if_eq C 54 d_MD_rankAll_47 (by decide) (fun c_47 => ?_) (fun c_47 => ?_)
            · refine x_iconst C (v := 0) d_MD_rankAll_54 (by decide) ?_
              refine x_istore C d_MD_rankAll_55 (Nat.le_of_ble_eq_true rfl) rfl ?_
              refine x_aload_n C d_MD_rankAll_57 rfl rfl ?_
              refine x_dup C d_MD_rankAll_58 rfl ?_
              refine x_get C hM1.1 rfl (in_MD _) 14 (by decide) (List.mem_cons_of_mem _ f_MD_147) rfl d_MD_rankAll_59 ?_
              refine x_as1 (v := .int (mS μ1 14)) rfl ?_
              refine x_iconst C (v := 1) d_MD_rankAll_62 (by decide) ?_
              refine x_iadd C d_MD_rankAll_63 ?_
              refine x_mSp C hM1 14 (by decide) (x := (mS μ1 14) + (1)) f_MD_147 rfl rfl rfl d_MD_rankAll_64 (fun _ hMg5 hFg5 => ?_)
              refine x_aload_n C d_MD_rankAll_67 rfl rfl ?_
              refine x_get C hMg5.1 rfl (in_MD _) 11 (by decide) (List.mem_cons_of_mem _ f_MD_33) rfl d_MD_rankAll_68 ?_
              refine x_sipush C (v := 300) d_MD_rankAll_71 (by decide) ?_
              refine x_iload C d_MD_rankAll_74 rfl ?_
              refine x_imul C d_MD_rankAll_76 ?_
              refine x_iload_n C d_MD_rankAll_77 rfl rfl ?_
              refine x_iadd C d_MD_rankAll_78 ?_
              refine x_iload C d_MD_rankAll_79 rfl ?_
              refine x_if_eq C 91 d_MD_rankAll_81 (by decide) (fun c_81 => ?_) (fun c_81 => ?_)
              · refine x_aload_n C d_MD_rankAll_91 rfl rfl ?_
                refine x_get C hMg5.1 rfl (in_MD _) 11 (by decide) (List.mem_cons_of_mem _ f_MD_33) rfl d_MD_rankAll_92 ?_
                refine x_sipush C (v := 300) d_MD_rankAll_95 (by decide) ?_
                refine x_iload C d_MD_rankAll_98 rfl ?_
                refine x_imul C d_MD_rankAll_100 ?_
                refine x_iload_n C d_MD_rankAll_101 rfl rfl ?_
                refine x_iadd C d_MD_rankAll_102 ?_
                refine x_mIv C hMg5 11 1800 kI_11 ix300 (j := 300 * t + sl) (by omega) (mI μ1 11 (300 * t + sl)) rfl d_MD_rankAll_103 ?_
                refine x_mIs C hMg5 11 1800 kI_11 (j := 300 * t + sl) (x := mI μ1 11 (300 * t + sl)) ix300 (by omega) d_MD_rankAll_104 (fun _ hMg6 hFg6 => ?_)
                refine x_iinc C d_MD_rankAll_105 rfl rfl rfl ?_
                refine x_goto C 3 d_MD_rankAll_108 (by decide) ?_
                rw [show nI t + Int32.ofInt 1 = nI (t + 1) from nI_1 t]
                have hs : (sI (sS μ1 14 ((mS μ1 14) + (1))) 11 (300 * t + sl) (mI μ1 11 (300 * t + sl))) = mRAs μ1 sl x fr t := by unfold mRAs; rw [if_neg (show ¬ (fr || (!mEn μ1 t sl || !decide (mF μ1 t (mJ μ1 9 sl) = mF μ1 t x))) = true from by clear C hnm ih; simp_all [bI_0, lg_eq])]
                rw [hs] at hMg6
                exact ih (t + 1) (mRAs μ1 sl x fr t) _ _ (by omega) hMg6 (hF1.tr (hFg5.tr hFg6)) hK1 hi
              · exact absurd c_81 (by decide)
            · refine x_iconst C (v := 1) d_MD_rankAll_50 (by decide) ?_
              refine x_goto C 55 d_MD_rankAll_51 (by decide) ?_
              refine x_istore C d_MD_rankAll_55 (Nat.le_of_ble_eq_true rfl) rfl ?_
              refine x_aload_n C d_MD_rankAll_57 rfl rfl ?_
              refine x_dup C d_MD_rankAll_58 rfl ?_
              refine x_get C hM1.1 rfl (in_MD _) 14 (by decide) (List.mem_cons_of_mem _ f_MD_147) rfl d_MD_rankAll_59 ?_
              refine x_as1 (v := .int (mS μ1 14)) rfl ?_
              refine x_iconst C (v := 1) d_MD_rankAll_62 (by decide) ?_
              refine x_iadd C d_MD_rankAll_63 ?_
              refine x_mSp C hM1 14 (by decide) (x := (mS μ1 14) + (1)) f_MD_147 rfl rfl rfl d_MD_rankAll_64 (fun _ hMg7 hFg7 => ?_)
              refine x_aload_n C d_MD_rankAll_67 rfl rfl ?_
              refine x_get C hMg7.1 rfl (in_MD _) 11 (by decide) (List.mem_cons_of_mem _ f_MD_33) rfl d_MD_rankAll_68 ?_
              refine x_sipush C (v := 300) d_MD_rankAll_71 (by decide) ?_
              refine x_iload C d_MD_rankAll_74 rfl ?_
              refine x_imul C d_MD_rankAll_76 ?_
              refine x_iload_n C d_MD_rankAll_77 rfl rfl ?_
              refine x_iadd C d_MD_rankAll_78 ?_
              refine x_iload C d_MD_rankAll_79 rfl ?_
              refine x_if_eq C 91 d_MD_rankAll_81 (by decide) (fun c_81 => ?_) (fun c_81 => ?_)
              · exact absurd c_81 (by decide)
              · refine x_aload_n C d_MD_rankAll_84 rfl rfl ?_
                refine x_get C hMg7.1 rfl (in_MD _) 14 (by decide) (List.mem_cons_of_mem _ f_MD_147) rfl d_MD_rankAll_85 ?_
                refine x_as1 (v := .int (mS (sS μ1 14 ((mS μ1 14) + (1))) 14)) rfl ?_
                refine x_goto C 104 d_MD_rankAll_88 (by decide) ?_
                refine x_mIs C hMg7 11 1800 kI_11 (j := 300 * t + sl) (x := mS (sS μ1 14 ((mS μ1 14) + (1))) 14) ix300 (by omega) d_MD_rankAll_104 (fun _ hMg8 hFg8 => ?_)
                refine x_iinc C d_MD_rankAll_105 rfl rfl rfl ?_
                refine x_goto C 3 d_MD_rankAll_108 (by decide) ?_
                rw [show nI t + Int32.ofInt 1 = nI (t + 1) from nI_1 t]
                have hs : (sI (sS μ1 14 ((mS μ1 14) + (1))) 11 (300 * t + sl) (mS (sS μ1 14 ((mS μ1 14) + (1))) 14)) = mRAs μ1 sl x fr t := by unfold mRAs; rw [if_pos (show (fr || (!mEn μ1 t sl || !decide (mF μ1 t (mJ μ1 9 sl) = mF μ1 t x))) = true from by clear C hnm ih; simp_all [bI_0, lg_eq])]; rfl
                rw [hs] at hMg8
                exact ih (t + 1) (mRAs μ1 sl x fr t) _ _ (by omega) hMg8 (hF1.tr (hFg7.tr hFg8)) hK1 hi
  refine x_iconst C (v := 0) d_MD_rankAll_0 (by decide) ?_
  refine x_istore C d_MD_rankAll_1 (Nat.le_of_ble_eq_true rfl) rfl ?_
  rw [← nI_0]
  exact loop K 0 μ G _ (by omega) hM xFc.rf hK rfl
set_option maxRecDepth 4000 in
set_option maxHeartbeats 800000 in
theorem q_MD_count (l : Launch) (E : xE) {G : xw_G} {md : Nat} {a : Nat → Nat} {μ : MS} (hM : xMD E G md a μ) {k : Nat} (hk : k < 6) (hk2 : mKy μ (nI k) = true) : XMk l E y_MD_count w_MD_count rm_MD_count [.ref md, .int (nI k)] G (fun r G' => r = some (.int (nI (mCt (mEn μ k) 300 0))) ∧ xMD E G' md a (sS μ 0 0) ∧ xFc G G') 0 0 := by
  refine XM_of [some (.ref md), some (.int (nI k)), none, none] (XZ_st E) (by decide) rfl rfl rfl (Nat.le_of_ble_eq_true rfl) (fun p e s m below meth c C hnm => ?_)
  have loop : ∀ (G1 : xw_G) (hM1 : xMD E G1 md a (sS μ 0 0)) (hF1 : xFc G G1) (n t : Nat) (cn : Nat), t + n = 300 → cn + mCt (mEn μ k) n t = mCt (mEn μ k) 300 0 → XW p l e rm_MD_count s m #[.ref md, .int (nI k)] below meth c (XQ below #[.ref md, .int (nI k)] s (xD E) xcl (xB E) (fun r G' => r = some (.int (nI (mCt (mEn μ k) 300 0))) ∧ xMD E G' md a (sS μ 0 0) ∧ xFc G G') 0 0) (xD E) xcl (xB E) 19 [some (.ref md), some (.int (nI k)), some (.int (nI cn)), some (.int (nI t))] [] G1 0 0 := by
    intro G1 hM1 hF1 n
    induction n with
    | zero =>
      intro t cn ht hi
      refine x_iload_n C d_MD_count_19 rfl rfl ?_
      refine x_sipush C (v := 300) d_MD_count_20 (by decide) ?_
      refine x_icmp_ge C 49 d_MD_count_23 (by decide) (fun c_23 => ?_) (fun c_23 => ?_)
      · refine x_iload_n C d_MD_count_49 rfl rfl ?_
        exact x_iret C (Nat.le_of_ble_eq_true rfl) (Nat.le_of_ble_eq_true rfl) d_MD_count_50 ⟨by rw [← hi]; rfl, hM1, hF1⟩
      · exact absurd (nI_le (a := 300) (b := t) (by omega) (by omega)) c_23
    | succ n ih =>
      intro t cn ht hi
      refine x_iload_n C d_MD_count_19 rfl rfl ?_
      refine x_sipush C (v := 300) d_MD_count_20 (by decide) ?_
      refine x_icmp_ge C 49 d_MD_count_23 (by decide) (fun c_23 => ?_) (fun c_23 => ?_)
      · exact absurd c_23 (nI_ge (a := t) (b := 300) (by omega) (by omega))
      · refine x_iload_n C d_MD_count_26 rfl rfl ?_
        refine x_aload_n C d_MD_count_27 rfl rfl ?_
        refine x_iload_n C d_MD_count_28 rfl rfl ?_
        refine x_iload_n C d_MD_count_29 rfl rfl ?_
        refine x_callV2 C (q_MD_isEntry l E hM1 (k := k) (sl := t) (by omega) (by omega)) (lk_MD_114 C.hts (Nat.le_of_ble_eq_true rfl) (Nat.le_of_ble_eq_true rfl)) hM1.1 rfl rfl d_MD_count_30 (Nat.le_of_ble_eq_true rfl) (Nat.le_of_ble_eq_true rfl) (Nat.le_of_ble_eq_true rfl) (fun r G' h => ?_)
        obtain ⟨rfl, rfl⟩ : r = some (.int (bI (mEn μ k t))) ∧ _ = G' := h
        refine x_if_eq C 40 d_MD_count_33 (by decide) (fun c_33 => ?_) (fun c_33 => ?_)
        · refine x_iconst C (v := 0) d_MD_count_40 (by decide) ?_
          refine x_iadd C d_MD_count_41 ?_
          refine x_istore_n C d_MD_count_42 rfl (Nat.le_of_ble_eq_true rfl) rfl ?_
          refine x_iinc C d_MD_count_43 rfl rfl rfl ?_
          refine x_goto C 19 d_MD_count_46 (by decide) ?_
          rw [show nI t + Int32.ofInt 1 = nI (t + 1) from nI_1 t]
          rw [show nI cn + 0 = nI cn from nI_add cn 0]
          exact ih (t + 1) (cn + 0) (by omega) (by rw [← hi]; show cn + 0 + _ = cn + ((if mEn μ k t = true then 1 else 0) + mCt (mEn μ k) n (t + 1)); rw [if_neg (by rw [((bI_0 _).mp c_33)]; decide)]; omega)
        · refine x_iconst C (v := 1) d_MD_count_36 (by decide) ?_
          refine x_goto C 41 d_MD_count_37 (by decide) ?_
          refine x_iadd C d_MD_count_41 ?_
          refine x_istore_n C d_MD_count_42 rfl (Nat.le_of_ble_eq_true rfl) rfl ?_
          refine x_iinc C d_MD_count_43 rfl rfl rfl ?_
          refine x_goto C 19 d_MD_count_46 (by decide) ?_
          rw [show nI t + Int32.ofInt 1 = nI (t + 1) from nI_1 t]
          rw [show nI cn + 1 = nI (cn + 1) from nI_1 cn]
          exact ih (t + 1) (cn + 1) (by omega) (by rw [← hi]; show cn + 1 + _ = cn + ((if mEn μ k t = true then 1 else 0) + mCt (mEn μ k) n (t + 1)); rw [if_pos (bI_1 c_33)]; omega)
  refine x_aload_n C d_MD_count_0 rfl rfl ?_
  refine x_iconst C (v := 0) d_MD_count_1 (by decide) ?_
  refine x_mSp C hM 0 (by decide) (x := 0) f_MD_72 rfl rfl rfl d_MD_count_2 (fun _ hMg1 hFg1 => ?_)
  refine x_aload_n C d_MD_count_5 rfl rfl ?_
  refine x_iload_n C d_MD_count_6 rfl rfl ?_
  refine x_callV1 C (q_MD_isKey l E hMg1) (lk_MD_88 C.hts (Nat.le_of_ble_eq_true rfl) (Nat.le_of_ble_eq_true rfl)) hMg1.1 rfl rfl d_MD_count_7 (Nat.le_of_ble_eq_true rfl) (Nat.le_of_ble_eq_true rfl) (Nat.le_of_ble_eq_true rfl) (fun r G' h => ?_)
  obtain ⟨rfl, rfl⟩ : r = some (.int (bI (mKy μ (nI k)))) ∧ _ = G' := h
  refine x_if_ne C 15 d_MD_count_10 (by decide) (fun c_10 => ?_) (fun c_10 => ?_)
  · refine x_iconst C (v := 0) d_MD_count_15 (by decide) ?_
    refine x_istore_n C d_MD_count_16 rfl (Nat.le_of_ble_eq_true rfl) rfl ?_
    refine x_iconst C (v := 0) d_MD_count_17 (by decide) ?_
    refine x_istore_n C d_MD_count_18 rfl (Nat.le_of_ble_eq_true rfl) rfl ?_
    rw [← nI_0]
    exact loop _ hMg1 hFg1 300 0 0 (by omega) (by omega)
  · exact absurd (hk2.symm.trans ((bI_0 _).mp c_10)) (by decide)
