set_option maxRecDepth 4000 in
set_option maxHeartbeats 800000 in
theorem q_MD_after (l : Launch) (E : xE) {G : xw_G} {md : Nat} {a : Nat → Nat} {μ : MS} (hM : xMD E G md a μ) {k : Nat} (hk : k < 6) {f : Int64} {rk : Int32} {th : Bool} : XMk l E y_MD_after w_MD_after rm_MD_after [.ref md, .int (nI k), .long (f), .int (rk), .int (bI th)] G (fun r G' => r = some (.int (oI (mAft μ k f rk th))) ∧ G = G') 0 0 := by
  refine XM_of [some (.ref md), some (.int (nI k)), some (.long (f)), none, some (.int (rk)), some (.int (bI th)), none, none] (XZ_st E) (by decide) rfl rfl rfl (Nat.le_of_ble_eq_true rfl) (fun p e s m below meth c C hnm => ?_)
  have loop : ∀ (n t : Nat) (fo : Option Nat), t + n = 300 → (∀ q, fo = some q → q < 300) → mFold (fun r => mEn μ k r && (!mAh μ k r f rk && (th || mBe μ k r f rk))) (fun r q => mAh μ k r (mF μ k (mJ μ 9 q)) (mRk μ k q)) n t fo = mAft μ k f rk th → XW p l e rm_MD_after s m #[.ref md, .int (nI k), .long (f), .int (rk), .int (bI th)] below meth c (XQ below #[.ref md, .int (nI k), .long (f), .int (rk), .int (bI th)] s (xD E) xcl (xB E) (fun r G' => r = some (.int (oI (mAft μ k f rk th))) ∧ G = G') 0 0) (xD E) xcl (xB E) 6 [some (.ref md), some (.int (nI k)), some (.long (f)), none, some (.int (rk)), some (.int (bI th)), some (.int (oI fo)), some (.int (nI t))] [] G 0 0 := by
    intro n
    induction n with
    | zero =>
      intro t fo ht hb hi
      refine x_iload C d_MD_after_6 rfl ?_
      refine x_sipush C (v := 300) d_MD_after_8 (by decide) ?_
      refine x_icmp_ge C 103 d_MD_after_11 (by decide) (fun c_11 => ?_) (fun c_11 => ?_)
      · refine x_iload C d_MD_after_103 rfl ?_
        exact x_iret C (Nat.le_of_ble_eq_true rfl) (Nat.le_of_ble_eq_true rfl) d_MD_after_105 ⟨congrArg some (congrArg Value.int (congrArg oI hi)), rfl⟩
      · exact absurd (nI_le (a := 300) (b := t) (by omega) (by omega)) c_11
    | succ n ih =>
      intro t fo ht hb hi
      refine x_iload C d_MD_after_6 rfl ?_
      refine x_sipush C (v := 300) d_MD_after_8 (by decide) ?_
      refine x_icmp_ge C 103 d_MD_after_11 (by decide) (fun c_11 => ?_) (fun c_11 => ?_)
      · exact absurd c_11 (nI_ge (a := t) (b := 300) (by omega) (by omega))
      · refine x_aload_n C d_MD_after_14 rfl rfl ?_
        refine x_iload_n C d_MD_after_15 rfl rfl ?_
        refine x_iload C d_MD_after_16 rfl ?_
        refine x_callV2 C (q_MD_isEntry l E hM (k := k) (sl := t) (by omega) (by omega)) (lk_MD_114 C.hts (Nat.le_of_ble_eq_true rfl) (Nat.le_of_ble_eq_true rfl)) hM.1 rfl rfl d_MD_after_18 (Nat.le_of_ble_eq_true rfl) (Nat.le_of_ble_eq_true rfl) (Nat.le_of_ble_eq_true rfl) (fun r G' h => ?_)
        obtain ⟨rfl, rfl⟩ : r = some (.int (bI (mEn μ k t))) ∧ _ = G' := h
        refine x_if_eq C 97 d_MD_after_21 (by decide) (fun c_21 => ?_) (fun c_21 => ?_)
        · refine x_iinc C d_MD_after_97 rfl rfl rfl ?_
          refine x_goto C 6 d_MD_after_100 (by decide) ?_
          rw [show nI t + Int32.ofInt 1 = nI (t + 1) from nI_1 t]
          exact ih (t + 1) fo (by omega) hb (mFold_st hi (mStep_no (show (mEn μ k t && (!mAh μ k t f rk && (th || mBe μ k t f rk))) = false from by clear C hnm; simp_all [bI_0, lg_eq, Int32.not_lt, Int32.not_le])))
        · refine x_aload_n C d_MD_after_24 rfl rfl ?_
          refine x_iload_n C d_MD_after_25 rfl rfl ?_
          refine x_iload C d_MD_after_26 rfl ?_
          refine x_lload_n C d_MD_after_28 rfl rfl ?_
          refine x_iload C d_MD_after_29 rfl ?_
          refine x_callV4 C (q_MD_isAhead l E hM (k := k) (sl := t) (by omega) (by omega)) (lk_MD_118 C.hts (Nat.le_of_ble_eq_true rfl) (Nat.le_of_ble_eq_true rfl)) hM.1 rfl rfl d_MD_after_31 (Nat.le_of_ble_eq_true rfl) (Nat.le_of_ble_eq_true rfl) (Nat.le_of_ble_eq_true rfl) (fun r G' h => ?_)
          obtain ⟨rfl, rfl⟩ : r = some (.int (bI (mAh μ k t (f) (rk)))) ∧ _ = G' := h
          refine x_if_ne C 97 d_MD_after_34 (by decide) (fun c_34 => ?_) (fun c_34 => ?_)
          · refine x_iinc C d_MD_after_97 rfl rfl rfl ?_
            refine x_goto C 6 d_MD_after_100 (by decide) ?_
            rw [show nI t + Int32.ofInt 1 = nI (t + 1) from nI_1 t]
            exact ih (t + 1) fo (by omega) hb (mFold_st hi (mStep_no (show (mEn μ k t && (!mAh μ k t f rk && (th || mBe μ k t f rk))) = false from by clear C hnm; simp_all [bI_0, lg_eq, Int32.not_lt, Int32.not_le])))
          · refine x_iload C d_MD_after_37 rfl ?_
            refine x_if_ne C 58 d_MD_after_39 (by decide) (fun c_39 => ?_) (fun c_39 => ?_)
            · rcases fo with _ | q
              · have c_61 : True := trivial
                refine x_iload C d_MD_after_58 rfl ?_
                refine x_iconst C (v := -1) d_MD_after_60 (by decide) ?_
                refine x_icmp_eq C 93 d_MD_after_61 (by decide) (fun c_61 => ?_) (fun c_61 => ?_)
                · refine x_iload C d_MD_after_93 rfl ?_
                  refine x_istore C d_MD_after_95 (Nat.le_of_ble_eq_true rfl) rfl ?_
                  refine x_iinc C d_MD_after_97 rfl rfl rfl ?_
                  refine x_goto C 6 d_MD_after_100 (by decide) ?_
                  rw [show nI t + Int32.ofInt 1 = nI (t + 1) from nI_1 t]
                  exact ih (t + 1) (some t) (by omega) (fun _ z => by cases z; omega) (mFold_st hi (mStep_new (show (mEn μ k t && (!mAh μ k t f rk && (th || mBe μ k t f rk))) = true from by clear C hnm; simp_all [bI_0, lg_eq, Int32.not_lt, Int32.not_le])))
                · exact absurd c_61 (by decide)
              · have hq3 := hb q rfl
                refine x_iload C d_MD_after_58 rfl ?_
                refine x_iconst C (v := -1) d_MD_after_60 (by decide) ?_
                refine x_icmp_eq C 93 d_MD_after_61 (by decide) (fun c_61 => ?_) (fun c_61 => ?_)
                · exact absurd c_61 (nI_m1 (by omega))
                · refine x_aload_n C d_MD_after_64 rfl rfl ?_
                  refine x_iload_n C d_MD_after_65 rfl rfl ?_
                  refine x_iload C d_MD_after_66 rfl ?_
                  refine x_aload_n C d_MD_after_68 rfl rfl ?_
                  refine x_iload_n C d_MD_after_69 rfl rfl ?_
                  refine x_aload_n C d_MD_after_70 rfl rfl ?_
                  refine x_get C hM.1 rfl (in_MD _) 9 (by decide) (List.mem_cons_of_mem _ f_MD_27) rfl d_MD_after_71 ?_
                  refine x_iload C d_MD_after_74 rfl ?_
                  refine x_mJv C hM 9 300 kJ_9 rfl (j := q) (by omega) (mJ μ 9 q) rfl d_MD_after_76 ?_
                  refine x_callV2 C (q_MD_field l E hM (k := k) (by omega)) (lk_MD_98 C.hts (Nat.le_of_ble_eq_true rfl) (Nat.le_of_ble_eq_true rfl)) hM.1 rfl rfl d_MD_after_77 (Nat.le_of_ble_eq_true rfl) (Nat.le_of_ble_eq_true rfl) (Nat.le_of_ble_eq_true rfl) (fun r G' h => ?_)
                  obtain ⟨rfl, rfl⟩ : r = some (.long (mF μ k (mJ μ 9 q))) ∧ _ = G' := h
                  refine x_aload_n C d_MD_after_80 rfl rfl ?_
                  refine x_iload_n C d_MD_after_81 rfl rfl ?_
                  refine x_iload C d_MD_after_82 rfl ?_
                  refine x_callV2 C (q_MD_rank l E hM (k := k) (sl := q) (by omega) (by omega)) (lk_MD_110 C.hts (Nat.le_of_ble_eq_true rfl) (Nat.le_of_ble_eq_true rfl)) hM.1 rfl rfl d_MD_after_84 (Nat.le_of_ble_eq_true rfl) (Nat.le_of_ble_eq_true rfl) (Nat.le_of_ble_eq_true rfl) (fun r G' h => ?_)
                  obtain ⟨rfl, rfl⟩ : r = some (.int (mRk μ k q)) ∧ _ = G' := h
                  refine x_callV4 C (q_MD_isAhead l E hM (k := k) (sl := t) (by omega) (by omega)) (lk_MD_118 C.hts (Nat.le_of_ble_eq_true rfl) (Nat.le_of_ble_eq_true rfl)) hM.1 rfl rfl d_MD_after_87 (Nat.le_of_ble_eq_true rfl) (Nat.le_of_ble_eq_true rfl) (Nat.le_of_ble_eq_true rfl) (fun r G' h => ?_)
                  obtain ⟨rfl, rfl⟩ : r = some (.int (bI (mAh μ k t (mF μ k (mJ μ 9 q)) (mRk μ k q)))) ∧ _ = G' := h
                  refine x_if_eq C 97 d_MD_after_90 (by decide) (fun c_90 => ?_) (fun c_90 => ?_)
                  · refine x_iinc C d_MD_after_97 rfl rfl rfl ?_
                    refine x_goto C 6 d_MD_after_100 (by decide) ?_
                    rw [show nI t + Int32.ofInt 1 = nI (t + 1) from nI_1 t]
                    exact ih (t + 1) (some q) (by omega) hb (mFold_st hi (mStep_ke (show (mEn μ k t && (!mAh μ k t f rk && (th || mBe μ k t f rk))) = true from by clear C hnm; simp_all [bI_0, lg_eq, Int32.not_lt, Int32.not_le]) ((bI_0 _).mp c_90)))
                  · refine x_iload C d_MD_after_93 rfl ?_
                    refine x_istore C d_MD_after_95 (Nat.le_of_ble_eq_true rfl) rfl ?_
                    refine x_iinc C d_MD_after_97 rfl rfl rfl ?_
                    refine x_goto C 6 d_MD_after_100 (by decide) ?_
                    rw [show nI t + Int32.ofInt 1 = nI (t + 1) from nI_1 t]
                    exact ih (t + 1) (some t) (by omega) (fun _ z => by cases z; omega) (mFold_st hi (mStep_up (show (mEn μ k t && (!mAh μ k t f rk && (th || mBe μ k t f rk))) = true from by clear C hnm; simp_all [bI_0, lg_eq, Int32.not_lt, Int32.not_le]) (bI_1 c_90)))
            · refine x_aload_n C d_MD_after_42 rfl rfl ?_
              refine x_iload_n C d_MD_after_43 rfl rfl ?_
              refine x_iload C d_MD_after_44 rfl ?_
              refine x_lload_n C d_MD_after_46 rfl rfl ?_
              refine x_iload C d_MD_after_47 rfl ?_
              refine x_callV4 C (q_MD_isBehind l E hM (k := k) (sl := t) (by omega) (by omega)) (lk_MD_122 C.hts (Nat.le_of_ble_eq_true rfl) (Nat.le_of_ble_eq_true rfl)) hM.1 rfl rfl d_MD_after_49 (Nat.le_of_ble_eq_true rfl) (Nat.le_of_ble_eq_true rfl) (Nat.le_of_ble_eq_true rfl) (fun r G' h => ?_)
              obtain ⟨rfl, rfl⟩ : r = some (.int (bI (mBe μ k t (f) (rk)))) ∧ _ = G' := h
              refine x_if_ne C 58 d_MD_after_52 (by decide) (fun c_52 => ?_) (fun c_52 => ?_)
              · rcases fo with _ | q
                · have c_61 : True := trivial
                  refine x_iload C d_MD_after_58 rfl ?_
                  refine x_iconst C (v := -1) d_MD_after_60 (by decide) ?_
                  refine x_icmp_eq C 93 d_MD_after_61 (by decide) (fun c_61 => ?_) (fun c_61 => ?_)
                  · refine x_iload C d_MD_after_93 rfl ?_
                    refine x_istore C d_MD_after_95 (Nat.le_of_ble_eq_true rfl) rfl ?_
                    refine x_iinc C d_MD_after_97 rfl rfl rfl ?_
                    refine x_goto C 6 d_MD_after_100 (by decide) ?_
                    rw [show nI t + Int32.ofInt 1 = nI (t + 1) from nI_1 t]
                    exact ih (t + 1) (some t) (by omega) (fun _ z => by cases z; omega) (mFold_st hi (mStep_new (show (mEn μ k t && (!mAh μ k t f rk && (th || mBe μ k t f rk))) = true from by clear C hnm; simp_all [bI_0, lg_eq, Int32.not_lt, Int32.not_le])))
                  · exact absurd c_61 (by decide)
                · have hq3 := hb q rfl
                  refine x_iload C d_MD_after_58 rfl ?_
                  refine x_iconst C (v := -1) d_MD_after_60 (by decide) ?_
                  refine x_icmp_eq C 93 d_MD_after_61 (by decide) (fun c_61 => ?_) (fun c_61 => ?_)
                  · exact absurd c_61 (nI_m1 (by omega))
                  · refine x_aload_n C d_MD_after_64 rfl rfl ?_
                    refine x_iload_n C d_MD_after_65 rfl rfl ?_
                    refine x_iload C d_MD_after_66 rfl ?_
                    refine x_aload_n C d_MD_after_68 rfl rfl ?_
                    refine x_iload_n C d_MD_after_69 rfl rfl ?_
                    refine x_aload_n C d_MD_after_70 rfl rfl ?_
                    refine x_get C hM.1 rfl (in_MD _) 9 (by decide) (List.mem_cons_of_mem _ f_MD_27) rfl d_MD_after_71 ?_
                    refine x_iload C d_MD_after_74 rfl ?_
                    refine x_mJv C hM 9 300 kJ_9 rfl (j := q) (by omega) (mJ μ 9 q) rfl d_MD_after_76 ?_
                    refine x_callV2 C (q_MD_field l E hM (k := k) (by omega)) (lk_MD_98 C.hts (Nat.le_of_ble_eq_true rfl) (Nat.le_of_ble_eq_true rfl)) hM.1 rfl rfl d_MD_after_77 (Nat.le_of_ble_eq_true rfl) (Nat.le_of_ble_eq_true rfl) (Nat.le_of_ble_eq_true rfl) (fun r G' h => ?_)
                    obtain ⟨rfl, rfl⟩ : r = some (.long (mF μ k (mJ μ 9 q))) ∧ _ = G' := h
                    refine x_aload_n C d_MD_after_80 rfl rfl ?_
                    refine x_iload_n C d_MD_after_81 rfl rfl ?_
                    refine x_iload C d_MD_after_82 rfl ?_
                    refine x_callV2 C (q_MD_rank l E hM (k := k) (sl := q) (by omega) (by omega)) (lk_MD_110 C.hts (Nat.le_of_ble_eq_true rfl) (Nat.le_of_ble_eq_true rfl)) hM.1 rfl rfl d_MD_after_84 (Nat.le_of_ble_eq_true rfl) (Nat.le_of_ble_eq_true rfl) (Nat.le_of_ble_eq_true rfl) (fun r G' h => ?_)
                    obtain ⟨rfl, rfl⟩ : r = some (.int (mRk μ k q)) ∧ _ = G' := h
                    refine x_callV4 C (q_MD_isAhead l E hM (k := k) (sl := t) (by omega) (by omega)) (lk_MD_118 C.hts (Nat.le_of_ble_eq_true rfl) (Nat.le_of_ble_eq_true rfl)) hM.1 rfl rfl d_MD_after_87 (Nat.le_of_ble_eq_true rfl) (Nat.le_of_ble_eq_true rfl) (Nat.le_of_ble_eq_true rfl) (fun r G' h => ?_)
                    obtain ⟨rfl, rfl⟩ : r = some (.int (bI (mAh μ k t (mF μ k (mJ μ 9 q)) (mRk μ k q)))) ∧ _ = G' := h
                    refine x_if_eq C 97 d_MD_after_90 (by decide) (fun c_90 => ?_) (fun c_90 => ?_)
                    · refine x_iinc C d_MD_after_97 rfl rfl rfl ?_
                      refine x_goto C 6 d_MD_after_100 (by decide) ?_
                      rw [show nI t + Int32.ofInt 1 = nI (t + 1) from nI_1 t]
                      exact ih (t + 1) (some q) (by omega) hb (mFold_st hi (mStep_ke (show (mEn μ k t && (!mAh μ k t f rk && (th || mBe μ k t f rk))) = true from by clear C hnm; simp_all [bI_0, lg_eq, Int32.not_lt, Int32.not_le]) ((bI_0 _).mp c_90)))
                    · refine x_iload C d_MD_after_93 rfl ?_
                      refine x_istore C d_MD_after_95 (Nat.le_of_ble_eq_true rfl) rfl ?_
                      refine x_iinc C d_MD_after_97 rfl rfl rfl ?_
                      refine x_goto C 6 d_MD_after_100 (by decide) ?_
                      rw [show nI t + Int32.ofInt 1 = nI (t + 1) from nI_1 t]
                      exact ih (t + 1) (some t) (by omega) (fun _ z => by cases z; omega) (mFold_st hi (mStep_up (show (mEn μ k t && (!mAh μ k t f rk && (th || mBe μ k t f rk))) = true from by clear C hnm; simp_all [bI_0, lg_eq, Int32.not_lt, Int32.not_le]) (bI_1 c_90)))
              · refine x_goto C 97 d_MD_after_55 (by decide) ?_
                refine x_iinc C d_MD_after_97 rfl rfl rfl ?_
                refine x_goto C 6 d_MD_after_100 (by decide) ?_
                rw [show nI t + Int32.ofInt 1 = nI (t + 1) from nI_1 t]
                exact ih (t + 1) fo (by omega) hb (mFold_st hi (mStep_no (show (mEn μ k t && (!mAh μ k t f rk && (th || mBe μ k t f rk))) = false from by clear C hnm; simp_all [bI_0, lg_eq, Int32.not_lt, Int32.not_le])))
  refine x_iconst C (v := -1) d_MD_after_0 (by decide) ?_
  refine x_istore C d_MD_after_1 (Nat.le_of_ble_eq_true rfl) rfl ?_
  refine x_iconst C (v := 0) d_MD_after_3 (by decide) ?_
  refine x_istore C d_MD_after_4 (Nat.le_of_ble_eq_true rfl) rfl ?_
  rw [← nI_0]
  exact loop 300 0 none (by omega) (fun _ z => by cases z) rfl
set_option maxRecDepth 4000 in
set_option maxHeartbeats 800000 in
theorem q_MD_ahead (l : Launch) (E : xE) {G : xw_G} {md : Nat} {a : Nat → Nat} {μ : MS} (hM : xMD E G md a μ) {k : Nat} (hk : k < 6) {f : Int64} {rk : Int32} {th : Bool} : XMk l E y_MD_ahead w_MD_ahead rm_MD_ahead [.ref md, .int (nI k), .long (f), .int (rk), .int (bI th)] G (fun r G' => r = some (.int (oI (mAhd μ k f rk th))) ∧ G = G') 0 0 := by
  refine XM_of [some (.ref md), some (.int (nI k)), some (.long (f)), none, some (.int (rk)), some (.int (bI th)), none, none] (XZ_st E) (by decide) rfl rfl rfl (Nat.le_of_ble_eq_true rfl) (fun p e s m below meth c C hnm => ?_)
  have loop : ∀ (n t : Nat) (fo : Option Nat), t + n = 300 → (∀ q, fo = some q → q < 300) → mFold (fun r => mEn μ k r && (!mBe μ k r f rk && (th || mAh μ k r f rk))) (fun r q => mBe μ k r (mF μ k (mJ μ 9 q)) (mRk μ k q)) n t fo = mAhd μ k f rk th → XW p l e rm_MD_ahead s m #[.ref md, .int (nI k), .long (f), .int (rk), .int (bI th)] below meth c (XQ below #[.ref md, .int (nI k), .long (f), .int (rk), .int (bI th)] s (xD E) xcl (xB E) (fun r G' => r = some (.int (oI (mAhd μ k f rk th))) ∧ G = G') 0 0) (xD E) xcl (xB E) 6 [some (.ref md), some (.int (nI k)), some (.long (f)), none, some (.int (rk)), some (.int (bI th)), some (.int (oI fo)), some (.int (nI t))] [] G 0 0 := by
    intro n
    induction n with
    | zero =>
      intro t fo ht hb hi
      refine x_iload C d_MD_ahead_6 rfl ?_
      refine x_sipush C (v := 300) d_MD_ahead_8 (by decide) ?_
      refine x_icmp_ge C 103 d_MD_ahead_11 (by decide) (fun c_11 => ?_) (fun c_11 => ?_)
      · refine x_iload C d_MD_ahead_103 rfl ?_
        exact x_iret C (Nat.le_of_ble_eq_true rfl) (Nat.le_of_ble_eq_true rfl) d_MD_ahead_105 ⟨congrArg some (congrArg Value.int (congrArg oI hi)), rfl⟩
      · exact absurd (nI_le (a := 300) (b := t) (by omega) (by omega)) c_11
    | succ n ih =>
      intro t fo ht hb hi
      refine x_iload C d_MD_ahead_6 rfl ?_
      refine x_sipush C (v := 300) d_MD_ahead_8 (by decide) ?_
      refine x_icmp_ge C 103 d_MD_ahead_11 (by decide) (fun c_11 => ?_) (fun c_11 => ?_)
      · exact absurd c_11 (nI_ge (a := t) (b := 300) (by omega) (by omega))
      · refine x_aload_n C d_MD_ahead_14 rfl rfl ?_
        refine x_iload_n C d_MD_ahead_15 rfl rfl ?_
        refine x_iload C d_MD_ahead_16 rfl ?_
        refine x_callV2 C (q_MD_isEntry l E hM (k := k) (sl := t) (by omega) (by omega)) (lk_MD_114 C.hts (Nat.le_of_ble_eq_true rfl) (Nat.le_of_ble_eq_true rfl)) hM.1 rfl rfl d_MD_ahead_18 (Nat.le_of_ble_eq_true rfl) (Nat.le_of_ble_eq_true rfl) (Nat.le_of_ble_eq_true rfl) (fun r G' h => ?_)
        obtain ⟨rfl, rfl⟩ : r = some (.int (bI (mEn μ k t))) ∧ _ = G' := h
        refine x_if_eq C 97 d_MD_ahead_21 (by decide) (fun c_21 => ?_) (fun c_21 => ?_)
        · refine x_iinc C d_MD_ahead_97 rfl rfl rfl ?_
          refine x_goto C 6 d_MD_ahead_100 (by decide) ?_
          rw [show nI t + Int32.ofInt 1 = nI (t + 1) from nI_1 t]
          exact ih (t + 1) fo (by omega) hb (mFold_st hi (mStep_no (show (mEn μ k t && (!mBe μ k t f rk && (th || mAh μ k t f rk))) = false from by clear C hnm; simp_all [bI_0, lg_eq, Int32.not_lt, Int32.not_le])))
        · refine x_aload_n C d_MD_ahead_24 rfl rfl ?_
          refine x_iload_n C d_MD_ahead_25 rfl rfl ?_
          refine x_iload C d_MD_ahead_26 rfl ?_
          refine x_lload_n C d_MD_ahead_28 rfl rfl ?_
          refine x_iload C d_MD_ahead_29 rfl ?_
          refine x_callV4 C (q_MD_isBehind l E hM (k := k) (sl := t) (by omega) (by omega)) (lk_MD_122 C.hts (Nat.le_of_ble_eq_true rfl) (Nat.le_of_ble_eq_true rfl)) hM.1 rfl rfl d_MD_ahead_31 (Nat.le_of_ble_eq_true rfl) (Nat.le_of_ble_eq_true rfl) (Nat.le_of_ble_eq_true rfl) (fun r G' h => ?_)
          obtain ⟨rfl, rfl⟩ : r = some (.int (bI (mBe μ k t (f) (rk)))) ∧ _ = G' := h
          refine x_if_ne C 97 d_MD_ahead_34 (by decide) (fun c_34 => ?_) (fun c_34 => ?_)
          · refine x_iinc C d_MD_ahead_97 rfl rfl rfl ?_
            refine x_goto C 6 d_MD_ahead_100 (by decide) ?_
            rw [show nI t + Int32.ofInt 1 = nI (t + 1) from nI_1 t]
            exact ih (t + 1) fo (by omega) hb (mFold_st hi (mStep_no (show (mEn μ k t && (!mBe μ k t f rk && (th || mAh μ k t f rk))) = false from by clear C hnm; simp_all [bI_0, lg_eq, Int32.not_lt, Int32.not_le])))
          · refine x_iload C d_MD_ahead_37 rfl ?_
            refine x_if_ne C 58 d_MD_ahead_39 (by decide) (fun c_39 => ?_) (fun c_39 => ?_)
            · rcases fo with _ | q
              · have c_61 : True := trivial
                refine x_iload C d_MD_ahead_58 rfl ?_
                refine x_iconst C (v := -1) d_MD_ahead_60 (by decide) ?_
                refine x_icmp_eq C 93 d_MD_ahead_61 (by decide) (fun c_61 => ?_) (fun c_61 => ?_)
                · refine x_iload C d_MD_ahead_93 rfl ?_
                  refine x_istore C d_MD_ahead_95 (Nat.le_of_ble_eq_true rfl) rfl ?_
                  refine x_iinc C d_MD_ahead_97 rfl rfl rfl ?_
                  refine x_goto C 6 d_MD_ahead_100 (by decide) ?_
                  rw [show nI t + Int32.ofInt 1 = nI (t + 1) from nI_1 t]
                  exact ih (t + 1) (some t) (by omega) (fun _ z => by cases z; omega) (mFold_st hi (mStep_new (show (mEn μ k t && (!mBe μ k t f rk && (th || mAh μ k t f rk))) = true from by clear C hnm; simp_all [bI_0, lg_eq, Int32.not_lt, Int32.not_le])))
                · exact absurd c_61 (by decide)
              · have hq3 := hb q rfl
                refine x_iload C d_MD_ahead_58 rfl ?_
                refine x_iconst C (v := -1) d_MD_ahead_60 (by decide) ?_
                refine x_icmp_eq C 93 d_MD_ahead_61 (by decide) (fun c_61 => ?_) (fun c_61 => ?_)
                · exact absurd c_61 (nI_m1 (by omega))
                · refine x_aload_n C d_MD_ahead_64 rfl rfl ?_
                  refine x_iload_n C d_MD_ahead_65 rfl rfl ?_
                  refine x_iload C d_MD_ahead_66 rfl ?_
                  refine x_aload_n C d_MD_ahead_68 rfl rfl ?_
                  refine x_iload_n C d_MD_ahead_69 rfl rfl ?_
                  refine x_aload_n C d_MD_ahead_70 rfl rfl ?_
                  refine x_get C hM.1 rfl (in_MD _) 9 (by decide) (List.mem_cons_of_mem _ f_MD_27) rfl d_MD_ahead_71 ?_
                  refine x_iload C d_MD_ahead_74 rfl ?_
                  refine x_mJv C hM 9 300 kJ_9 rfl (j := q) (by omega) (mJ μ 9 q) rfl d_MD_ahead_76 ?_
                  refine x_callV2 C (q_MD_field l E hM (k := k) (by omega)) (lk_MD_98 C.hts (Nat.le_of_ble_eq_true rfl) (Nat.le_of_ble_eq_true rfl)) hM.1 rfl rfl d_MD_ahead_77 (Nat.le_of_ble_eq_true rfl) (Nat.le_of_ble_eq_true rfl) (Nat.le_of_ble_eq_true rfl) (fun r G' h => ?_)
                  obtain ⟨rfl, rfl⟩ : r = some (.long (mF μ k (mJ μ 9 q))) ∧ _ = G' := h
                  refine x_aload_n C d_MD_ahead_80 rfl rfl ?_
                  refine x_iload_n C d_MD_ahead_81 rfl rfl ?_
                  refine x_iload C d_MD_ahead_82 rfl ?_
                  refine x_callV2 C (q_MD_rank l E hM (k := k) (sl := q) (by omega) (by omega)) (lk_MD_110 C.hts (Nat.le_of_ble_eq_true rfl) (Nat.le_of_ble_eq_true rfl)) hM.1 rfl rfl d_MD_ahead_84 (Nat.le_of_ble_eq_true rfl) (Nat.le_of_ble_eq_true rfl) (Nat.le_of_ble_eq_true rfl) (fun r G' h => ?_)
                  obtain ⟨rfl, rfl⟩ : r = some (.int (mRk μ k q)) ∧ _ = G' := h
                  refine x_callV4 C (q_MD_isBehind l E hM (k := k) (sl := t) (by omega) (by omega)) (lk_MD_122 C.hts (Nat.le_of_ble_eq_true rfl) (Nat.le_of_ble_eq_true rfl)) hM.1 rfl rfl d_MD_ahead_87 (Nat.le_of_ble_eq_true rfl) (Nat.le_of_ble_eq_true rfl) (Nat.le_of_ble_eq_true rfl) (fun r G' h => ?_)
                  obtain ⟨rfl, rfl⟩ : r = some (.int (bI (mBe μ k t (mF μ k (mJ μ 9 q)) (mRk μ k q)))) ∧ _ = G' := h
                  refine x_if_eq C 97 d_MD_ahead_90 (by decide) (fun c_90 => ?_) (fun c_90 => ?_)
                  · refine x_iinc C d_MD_ahead_97 rfl rfl rfl ?_
                    refine x_goto C 6 d_MD_ahead_100 (by decide) ?_
                    rw [show nI t + Int32.ofInt 1 = nI (t + 1) from nI_1 t]
                    exact ih (t + 1) (some q) (by omega) hb (mFold_st hi (mStep_ke (show (mEn μ k t && (!mBe μ k t f rk && (th || mAh μ k t f rk))) = true from by clear C hnm; simp_all [bI_0, lg_eq, Int32.not_lt, Int32.not_le]) ((bI_0 _).mp c_90)))
                  · refine x_iload C d_MD_ahead_93 rfl ?_
                    refine x_istore C d_MD_ahead_95 (Nat.le_of_ble_eq_true rfl) rfl ?_
                    refine x_iinc C d_MD_ahead_97 rfl rfl rfl ?_
                    refine x_goto C 6 d_MD_ahead_100 (by decide) ?_
                    rw [show nI t + Int32.ofInt 1 = nI (t + 1) from nI_1 t]
                    exact ih (t + 1) (some t) (by omega) (fun _ z => by cases z; omega) (mFold_st hi (mStep_up (show (mEn μ k t && (!mBe μ k t f rk && (th || mAh μ k t f rk))) = true from by clear C hnm; simp_all [bI_0, lg_eq, Int32.not_lt, Int32.not_le]) (bI_1 c_90)))
            · refine x_aload_n C d_MD_ahead_42 rfl rfl ?_
              refine x_iload_n C d_MD_ahead_43 rfl rfl ?_
              refine x_iload C d_MD_ahead_44 rfl ?_
              refine x_lload_n C d_MD_ahead_46 rfl rfl ?_
              refine x_iload C d_MD_ahead_47 rfl ?_
              refine x_callV4 C (q_MD_isAhead l E hM (k := k) (sl := t) (by omega) (by omega)) (lk_MD_118 C.hts (Nat.le_of_ble_eq_true rfl) (Nat.le_of_ble_eq_true rfl)) hM.1 rfl rfl d_MD_ahead_49 (Nat.le_of_ble_eq_true rfl) (Nat.le_of_ble_eq_true rfl) (Nat.le_of_ble_eq_true rfl) (fun r G' h => ?_)
              obtain ⟨rfl, rfl⟩ : r = some (.int (bI (mAh μ k t (f) (rk)))) ∧ _ = G' := h
              refine x_if_ne C 58 d_MD_ahead_52 (by decide) (fun c_52 => ?_) (fun c_52 => ?_)
              · rcases fo with _ | q
                · have c_61 : True := trivial
                  refine x_iload C d_MD_ahead_58 rfl ?_
                  refine x_iconst C (v := -1) d_MD_ahead_60 (by decide) ?_
                  refine x_icmp_eq C 93 d_MD_ahead_61 (by decide) (fun c_61 => ?_) (fun c_61 => ?_)
                  · refine x_iload C d_MD_ahead_93 rfl ?_
                    refine x_istore C d_MD_ahead_95 (Nat.le_of_ble_eq_true rfl) rfl ?_
                    refine x_iinc C d_MD_ahead_97 rfl rfl rfl ?_
                    refine x_goto C 6 d_MD_ahead_100 (by decide) ?_
                    rw [show nI t + Int32.ofInt 1 = nI (t + 1) from nI_1 t]
                    exact ih (t + 1) (some t) (by omega) (fun _ z => by cases z; omega) (mFold_st hi (mStep_new (show (mEn μ k t && (!mBe μ k t f rk && (th || mAh μ k t f rk))) = true from by clear C hnm; simp_all [bI_0, lg_eq, Int32.not_lt, Int32.not_le])))
                  · exact absurd c_61 (by decide)
                · have hq3 := hb q rfl
                  refine x_iload C d_MD_ahead_58 rfl ?_
                  refine x_iconst C (v := -1) d_MD_ahead_60 (by decide) ?_
                  refine x_icmp_eq C 93 d_MD_ahead_61 (by decide) (fun c_61 => ?_) (fun c_61 => ?_)
                  · exact absurd c_61 (nI_m1 (by omega))
                  · refine x_aload_n C d_MD_ahead_64 rfl rfl ?_
                    refine x_iload_n C d_MD_ahead_65 rfl rfl ?_
                    refine x_iload C d_MD_ahead_66 rfl ?_
                    refine x_aload_n C d_MD_ahead_68 rfl rfl ?_
                    refine x_iload_n C d_MD_ahead_69 rfl rfl ?_
                    refine x_aload_n C d_MD_ahead_70 rfl rfl ?_
                    refine x_get C hM.1 rfl (in_MD _) 9 (by decide) (List.mem_cons_of_mem _ f_MD_27) rfl d_MD_ahead_71 ?_
                    refine x_iload C d_MD_ahead_74 rfl ?_
                    refine x_mJv C hM 9 300 kJ_9 rfl (j := q) (by omega) (mJ μ 9 q) rfl d_MD_ahead_76 ?_
                    refine x_callV2 C (q_MD_field l E hM (k := k) (by omega)) (lk_MD_98 C.hts (Nat.le_of_ble_eq_true rfl) (Nat.le_of_ble_eq_true rfl)) hM.1 rfl rfl d_MD_ahead_77 (Nat.le_of_ble_eq_true rfl) (Nat.le_of_ble_eq_true rfl) (Nat.le_of_ble_eq_true rfl) (fun r G' h => ?_)
                    obtain ⟨rfl, rfl⟩ : r = some (.long (mF μ k (mJ μ 9 q))) ∧ _ = G' := h
                    refine x_aload_n C d_MD_ahead_80 rfl rfl ?_
                    refine x_iload_n C d_MD_ahead_81 rfl rfl ?_
                    refine x_iload C d_MD_ahead_82 rfl ?_
                    refine x_callV2 C (q_MD_rank l E hM (k := k) (sl := q) (by omega) (by omega)) (lk_MD_110 C.hts (Nat.le_of_ble_eq_true rfl) (Nat.le_of_ble_eq_true rfl)) hM.1 rfl rfl d_MD_ahead_84 (Nat.le_of_ble_eq_true rfl) (Nat.le_of_ble_eq_true rfl) (Nat.le_of_ble_eq_true rfl) (fun r G' h => ?_)
                    obtain ⟨rfl, rfl⟩ : r = some (.int (mRk μ k q)) ∧ _ = G' := h
                    refine x_callV4 C (q_MD_isBehind l E hM (k := k) (sl := t) (by omega) (by omega)) (lk_MD_122 C.hts (Nat.le_of_ble_eq_true rfl) (Nat.le_of_ble_eq_true rfl)) hM.1 rfl rfl d_MD_ahead_87 (Nat.le_of_ble_eq_true rfl) (Nat.le_of_ble_eq_true rfl) (Nat.le_of_ble_eq_true rfl) (fun r G' h => ?_)
                    obtain ⟨rfl, rfl⟩ : r = some (.int (bI (mBe μ k t (mF μ k (mJ μ 9 q)) (mRk μ k q)))) ∧ _ = G' := h
                    refine x_if_eq C 97 d_MD_ahead_90 (by decide) (fun c_90 => ?_) (fun c_90 => ?_)
                    · refine x_iinc C d_MD_ahead_97 rfl rfl rfl ?_
                      refine x_goto C 6 d_MD_ahead_100 (by decide) ?_
                      rw [show nI t + Int32.ofInt 1 = nI (t + 1) from nI_1 t]
                      exact ih (t + 1) (some q) (by omega) hb (mFold_st hi (mStep_ke (show (mEn μ k t && (!mBe μ k t f rk && (th || mAh μ k t f rk))) = true from by clear C hnm; simp_all [bI_0, lg_eq, Int32.not_lt, Int32.not_le]) ((bI_0 _).mp c_90)))
                    · refine x_iload C d_MD_ahead_93 rfl ?_
                      refine x_istore C d_MD_ahead_95 (Nat.le_of_ble_eq_true rfl) rfl ?_
                      refine x_iinc C d_MD_ahead_97 rfl rfl rfl ?_
                      refine x_goto C 6 d_MD_ahead_100 (by decide) ?_
                      rw [show nI t + Int32.ofInt 1 = nI (t + 1) from nI_1 t]
                      exact ih (t + 1) (some t) (by omega) (fun _ z => by cases z; omega) (mFold_st hi (mStep_up (show (mEn μ k t && (!mBe μ k t f rk && (th || mAh μ k t f rk))) = true from by clear C hnm; simp_all [bI_0, lg_eq, Int32.not_lt, Int32.not_le]) (bI_1 c_90)))
              · refine x_goto C 97 d_MD_ahead_55 (by decide) ?_
                refine x_iinc C d_MD_ahead_97 rfl rfl rfl ?_
                refine x_goto C 6 d_MD_ahead_100 (by decide) ?_
                rw [show nI t + Int32.ofInt 1 = nI (t + 1) from nI_1 t]
                exact ih (t + 1) fo (by omega) hb (mFold_st hi (mStep_no (show (mEn μ k t && (!mBe μ k t f rk && (th || mAh μ k t f rk))) = false from by clear C hnm; simp_all [bI_0, lg_eq, Int32.not_lt, Int32.not_le])))
  refine x_iconst C (v := -1) d_MD_ahead_0 (by decide) ?_
  refine x_istore C d_MD_ahead_1 (Nat.le_of_ble_eq_true rfl) rfl ?_
  refine x_iconst C (v := 0) d_MD_ahead_3 (by decide) ?_
  refine x_istore C d_MD_ahead_4 (Nat.le_of_ble_eq_true rfl) rfl ?_
  rw [← nI_0]
  exact loop 300 0 none (by omega) (fun _ z => by cases z) rfl
set_option maxRecDepth 4000 in
set_option maxHeartbeats 800000 in
theorem q_MD_equal (l : Launch) (E : xE) {G : xw_G} {md : Nat} {a : Nat → Nat} {μ : MS} (hM : xMD E G md a μ) {k : Nat} (hk : k < 6) {f : Int64} {but : Option Nat} (hbut : ∀ q, but = some q → q < 300) : XMk l E y_MD_equal w_MD_equal rm_MD_equal [.ref md, .int (nI k), .long (f), .int (oI but)] G (fun r G' => r = some (.int (oI (mEq μ k f but))) ∧ G = G') 0 0 := by
  refine XM_of [some (.ref md), some (.int (nI k)), some (.long (f)), none, some (.int (oI but)), none] (XZ_st E) (by decide) rfl rfl rfl (Nat.le_of_ble_eq_true rfl) (fun p e s m below meth c C hnm => ?_)
  have loop : ∀ (n t : Nat), t + n = 300 → mFst (fun r => !decide (but = some r) && (mEn μ k r && decide (mF μ k (mJ μ 9 r) = f))) n t = mEq μ k f but → XW p l e rm_MD_equal s m #[.ref md, .int (nI k), .long (f), .int (oI but)] below meth c (XQ below #[.ref md, .int (nI k), .long (f), .int (oI but)] s (xD E) xcl (xB E) (fun r G' => r = some (.int (oI (mEq μ k f but))) ∧ G = G') 0 0) (xD E) xcl (xB E) 3 [some (.ref md), some (.int (nI k)), some (.long (f)), none, some (.int (oI but)), some (.int (nI t))] [] G 0 0 := by
    intro n
    induction n with
    | zero =>
      intro t ht hi
      refine x_iload C d_MD_equal_3 rfl ?_
      refine x_sipush C (v := 300) d_MD_equal_5 (by decide) ?_
      refine x_icmp_ge C 54 d_MD_equal_8 (by decide) (fun c_8 => ?_) (fun c_8 => ?_)
      · refine x_iconst C (v := -1) d_MD_equal_54 (by decide) ?_
        exact x_iret C (Nat.le_of_ble_eq_true rfl) (Nat.le_of_ble_eq_true rfl) d_MD_equal_55 ⟨congrArg some (congrArg Value.int (congrArg oI hi)), rfl⟩
      · exact absurd (nI_le (a := 300) (b := t) (by omega) (by omega)) c_8
    | succ n ih =>
      intro t ht hi
      have hbt := oI_eqt hbut (t := t) (by omega)
      refine x_iload C d_MD_equal_3 rfl ?_
      refine x_sipush C (v := 300) d_MD_equal_5 (by decide) ?_
      refine x_icmp_ge C 54 d_MD_equal_8 (by decide) (fun c_8 => ?_) (fun c_8 => ?_)
      · exact absurd c_8 (nI_ge (a := t) (b := 300) (by omega) (by omega))
      · refine x_iload C d_MD_equal_11 rfl ?_
        refine x_iload C d_MD_equal_13 rfl ?_
        refine x_icmp_eq C 48 d_MD_equal_15 (by decide) (fun c_15 => ?_) (fun c_15 => ?_)
        · refine x_iinc C d_MD_equal_48 rfl rfl rfl ?_
          refine x_goto C 3 d_MD_equal_51 (by decide) ?_
          rw [show nI t + Int32.ofInt 1 = nI (t + 1) from nI_1 t]
          exact ih (t + 1) (by omega) (mFst_n hi (show (!decide (but = some t) && (mEn μ k t && decide (mF μ k (mJ μ 9 t) = f))) = false from by clear C hnm; simp_all [bI_0, lg_eq, Int32.not_lt, Int32.not_le]))
        · refine x_aload_n C d_MD_equal_18 rfl rfl ?_
          refine x_iload_n C d_MD_equal_19 rfl rfl ?_
          refine x_iload C d_MD_equal_20 rfl ?_
          refine x_callV2 C (q_MD_isEntry l E hM (k := k) (sl := t) (by omega) (by omega)) (lk_MD_114 C.hts (Nat.le_of_ble_eq_true rfl) (Nat.le_of_ble_eq_true rfl)) hM.1 rfl rfl d_MD_equal_22 (Nat.le_of_ble_eq_true rfl) (Nat.le_of_ble_eq_true rfl) (Nat.le_of_ble_eq_true rfl) (fun r G' h => ?_)
          obtain ⟨rfl, rfl⟩ : r = some (.int (bI (mEn μ k t))) ∧ _ = G' := h
          refine x_if_eq C 48 d_MD_equal_25 (by decide) (fun c_25 => ?_) (fun c_25 => ?_)
          · refine x_iinc C d_MD_equal_48 rfl rfl rfl ?_
            refine x_goto C 3 d_MD_equal_51 (by decide) ?_
            rw [show nI t + Int32.ofInt 1 = nI (t + 1) from nI_1 t]
            exact ih (t + 1) (by omega) (mFst_n hi (show (!decide (but = some t) && (mEn μ k t && decide (mF μ k (mJ μ 9 t) = f))) = false from by clear C hnm; simp_all [bI_0, lg_eq, Int32.not_lt, Int32.not_le]))
          · refine x_aload_n C d_MD_equal_28 rfl rfl ?_
            refine x_iload_n C d_MD_equal_29 rfl rfl ?_
            refine x_aload_n C d_MD_equal_30 rfl rfl ?_
            refine x_get C hM.1 rfl (in_MD _) 9 (by decide) (List.mem_cons_of_mem _ f_MD_27) rfl d_MD_equal_31 ?_
            refine x_iload C d_MD_equal_34 rfl ?_
            refine x_mJv C hM 9 300 kJ_9 rfl (j := t) (by omega) (mJ μ 9 t) rfl d_MD_equal_36 ?_
            refine x_callV2 C (q_MD_field l E hM (k := k) (by omega)) (lk_MD_98 C.hts (Nat.le_of_ble_eq_true rfl) (Nat.le_of_ble_eq_true rfl)) hM.1 rfl rfl d_MD_equal_37 (Nat.le_of_ble_eq_true rfl) (Nat.le_of_ble_eq_true rfl) (Nat.le_of_ble_eq_true rfl) (fun r G' h => ?_)
            obtain ⟨rfl, rfl⟩ : r = some (.long (mF μ k (mJ μ 9 t))) ∧ _ = G' := h
            refine x_lload_n C d_MD_equal_40 rfl rfl ?_
            refine x_lcmp C d_MD_equal_41 ?_
            refine x_if_ne C 48 d_MD_equal_42 (by decide) (fun c_42 => ?_) (fun c_42 => ?_)
            · refine x_iinc C d_MD_equal_48 rfl rfl rfl ?_
              refine x_goto C 3 d_MD_equal_51 (by decide) ?_
              rw [show nI t + Int32.ofInt 1 = nI (t + 1) from nI_1 t]
              exact ih (t + 1) (by omega) (mFst_n hi (show (!decide (but = some t) && (mEn μ k t && decide (mF μ k (mJ μ 9 t) = f))) = false from by clear C hnm; simp_all [bI_0, lg_eq, Int32.not_lt, Int32.not_le]))
            · refine x_iload C d_MD_equal_45 rfl ?_
              exact x_iret C (Nat.le_of_ble_eq_true rfl) (Nat.le_of_ble_eq_true rfl) d_MD_equal_47 ⟨congrArg some (congrArg Value.int (congrArg oI (mFst_y hi (show (!decide (but = some t) && (mEn μ k t && decide (mF μ k (mJ μ 9 t) = f))) = true from by clear C hnm; simp_all [bI_0, lg_eq, Int32.not_lt, Int32.not_le])))), rfl⟩
  refine x_iconst C (v := 0) d_MD_equal_0 (by decide) ?_
  refine x_istore C d_MD_equal_1 (Nat.le_of_ble_eq_true rfl) rfl ?_
  rw [← nI_0]
  exact loop 300 0 (by omega) rfl
set_option maxRecDepth 4000 in
set_option maxHeartbeats 800000 in
theorem q_MD_byPrime (l : Launch) (E : xE) {G : xw_G} {md : Nat} {a : Nat → Nat} {μ : MS} (hM : xMD E G md a μ) {f : Int64} : XMk l E y_MD_byPrime w_MD_byPrime rm_MD_byPrime [.ref md, .long (f)] G (fun r G' => r = some (.int (oI (mEq μ 0 f none))) ∧ G = G') 0 0 := by
  refine XM_of [some (.ref md), some (.long (f)), none] (XZ_st E) (by decide) rfl rfl rfl (Nat.le_of_ble_eq_true rfl) (fun p e s m below meth c C hnm => ?_)
  refine x_aload_n C d_MD_byPrime_0 rfl rfl ?_
  refine x_iconst C (v := 0) d_MD_byPrime_1 (by decide) ?_
  refine x_lload_n C d_MD_byPrime_2 rfl rfl ?_
  refine x_iconst C (v := -1) d_MD_byPrime_3 (by decide) ?_
  refine x_callV3 C (q_MD_equal l E hM (k := 0) (but := none) (by omega) (fun _ z => by cases z)) (lk_MD_125 C.hts (Nat.le_of_ble_eq_true rfl) (Nat.le_of_ble_eq_true rfl)) hM.1 rfl rfl d_MD_byPrime_4 (Nat.le_of_ble_eq_true rfl) (Nat.le_of_ble_eq_true rfl) (Nat.le_of_ble_eq_true rfl) (fun r G' h => ?_)
  obtain ⟨rfl, rfl⟩ : r = some (.int (oI (mEq μ 0 (f) none))) ∧ _ = G' := h
  exact x_iret C (Nat.le_of_ble_eq_true rfl) (Nat.le_of_ble_eq_true rfl) d_MD_byPrime_7 ⟨rfl, rfl⟩
set_option maxRecDepth 4000 in
set_option maxHeartbeats 800000 in
theorem q_MD_had (l : Launch) (E : xE) {G : xw_G} {md : Nat} {a : Nat → Nat} {μ : MS} (hM : xMD E G md a μ) : XMk l E y_MD_had w_MD_had rm_MD_had [.ref md] G (fun r G' => r = some (.int (oI (mHad μ))) ∧ G = G') 0 0 := by
  refine XM_of [some (.ref md), none] (XZ_st E) (by decide) rfl rfl rfl (Nat.le_of_ble_eq_true rfl) (fun p e s m below meth c C hnm => ?_)
  have loop : ∀ (n t : Nat), t + n = 300 → mFst (fun r => decide (0 < mI μ 10 r) && decide (mI μ 10 r = mS μ 27)) n t = mHad μ → XW p l e rm_MD_had s m #[.ref md] below meth c (XQ below #[.ref md] s (xD E) xcl (xB E) (fun r G' => r = some (.int (oI (mHad μ))) ∧ G = G') 0 0) (xD E) xcl (xB E) 2 [some (.ref md), some (.int (nI t))] [] G 0 0 := by
    intro n
    induction n with
    | zero =>
      intro t ht hi
      refine x_iload_n C d_MD_had_2 rfl rfl ?_
      refine x_sipush C (v := 300) d_MD_had_3 (by decide) ?_
      refine x_icmp_ge C 39 d_MD_had_6 (by decide) (fun c_6 => ?_) (fun c_6 => ?_)
      · refine x_iconst C (v := -1) d_MD_had_39 (by decide) ?_
        exact x_iret C (Nat.le_of_ble_eq_true rfl) (Nat.le_of_ble_eq_true rfl) d_MD_had_40 ⟨congrArg some (congrArg Value.int (congrArg oI hi)), rfl⟩
      · exact absurd (nI_le (a := 300) (b := t) (by omega) (by omega)) c_6
    | succ n ih =>
      intro t ht hi
      refine x_iload_n C d_MD_had_2 rfl rfl ?_
      refine x_sipush C (v := 300) d_MD_had_3 (by decide) ?_
      refine x_icmp_ge C 39 d_MD_had_6 (by decide) (fun c_6 => ?_) (fun c_6 => ?_)
      · exact absurd c_6 (nI_ge (a := t) (b := 300) (by omega) (by omega))
      · refine x_aload_n C d_MD_had_9 rfl rfl ?_
        refine x_get C hM.1 rfl (in_MD _) 10 (by decide) (List.mem_cons_of_mem _ f_MD_30) rfl d_MD_had_10 ?_
        refine x_iload_n C d_MD_had_13 rfl rfl ?_
        refine x_mIv C hM 10 300 kI_10 rfl (j := t) (by omega) (mI μ 10 t) rfl d_MD_had_14 ?_
        refine x_if_le C 33 d_MD_had_15 (by decide) (fun c_15 => ?_) (fun c_15 => ?_)
        · refine x_iinc C d_MD_had_33 rfl rfl rfl ?_
          refine x_goto C 2 d_MD_had_36 (by decide) ?_
          rw [show nI t + Int32.ofInt 1 = nI (t + 1) from nI_1 t]
          exact ih (t + 1) (by omega) (mFst_n hi (show (decide (0 < mI μ 10 t) && decide (mI μ 10 t = mS μ 27)) = false from by clear C hnm; first | (simp [Int32.not_lt.mpr c_15]; done) | (simp_all [Int32.not_lt, Int32.not_le]; done)))
        · refine x_aload_n C d_MD_had_18 rfl rfl ?_
          refine x_get C hM.1 rfl (in_MD _) 10 (by decide) (List.mem_cons_of_mem _ f_MD_30) rfl d_MD_had_19 ?_
          refine x_iload_n C d_MD_had_22 rfl rfl ?_
          refine x_mIv C hM 10 300 kI_10 rfl (j := t) (by omega) (mI μ 10 t) rfl d_MD_had_23 ?_
          refine x_aload_n C d_MD_had_24 rfl rfl ?_
          refine x_get C hM.1 rfl (in_MD _) 27 (by decide) (List.mem_cons_of_mem _ f_MD_136) rfl d_MD_had_25 ?_
          refine x_as1 (v := .int (mS μ 27)) rfl ?_
          refine x_icmp_ne C 33 d_MD_had_28 (by decide) (fun c_28 => ?_) (fun c_28 => ?_)
          · refine x_iinc C d_MD_had_33 rfl rfl rfl ?_
            refine x_goto C 2 d_MD_had_36 (by decide) ?_
            rw [show nI t + Int32.ofInt 1 = nI (t + 1) from nI_1 t]
            exact ih (t + 1) (by omega) (mFst_n hi (show (decide (0 < mI μ 10 t) && decide (mI μ 10 t = mS μ 27)) = false from by clear C hnm; first | (simp [Int32.not_lt.mpr c_15]; done) | (simp_all [Int32.not_lt, Int32.not_le]; done)))
          · refine x_iload_n C d_MD_had_31 rfl rfl ?_
            exact x_iret C (Nat.le_of_ble_eq_true rfl) (Nat.le_of_ble_eq_true rfl) d_MD_had_32 ⟨congrArg some (congrArg Value.int (congrArg oI (mFst_y hi (show (decide (0 < mI μ 10 t) && decide (mI μ 10 t = mS μ 27)) = true from by clear C hnm; simp_all [bI_0, lg_eq, Int32.not_lt, Int32.not_le])))), rfl⟩
  refine x_iconst C (v := 0) d_MD_had_0 (by decide) ?_
  refine x_istore_n C d_MD_had_1 rfl (Nat.le_of_ble_eq_true rfl) rfl ?_
  rw [← nI_0]
  exact loop 300 0 (by omega) rfl
set_option maxRecDepth 4000 in
set_option maxHeartbeats 800000 in
theorem q_MD_holds (l : Launch) (E : xE) {G : xw_G} {op : Int32} {f kk : Int64} (h04 : op = 0 ∨ op = 1 ∨ op = 2 ∨ op = 3 ∨ op = 4) : XMk l E y_MD_holds w_MD_holds rm_MD_holds [.int (op), .long (f), .long (kk)] G (fun r G' => r = some (.int (bI (mHo op f kk))) ∧ G = G') 0 0 := by
  refine XM_of [some (.int (op)), some (.long (f)), none, some (.long (kk)), none] (XZ_st E) (by decide) rfl rfl rfl (Nat.le_of_ble_eq_true rfl) (fun p e s m below meth c C hnm => ?_)
  refine x_iload_n C d_MD_holds_0 rfl rfl ?_
  rcases h04 with rfl | rfl | rfl | rfl | rfl
  · refine x_tswIn C 32 d_MD_holds_1 (by decide) (by decide) rfl (by decide) ?_
    refine x_lload_n C d_MD_holds_32 rfl rfl ?_
    refine x_lload_n C d_MD_holds_33 rfl rfl ?_
    refine x_lcmp C d_MD_holds_34 ?_
    refine x_if_ne C 42 d_MD_holds_35 (by decide) (fun c_35 => ?_) (fun c_35 => ?_)
    · refine x_iconst C (v := 0) d_MD_holds_42 (by decide) ?_
      exact x_zret C rfl (Nat.le_of_ble_eq_true rfl) (Nat.le_of_ble_eq_true rfl) d_MD_holds_43 ⟨congrArg some (congrArg Value.int (by clear C hnm; simp_all [mHo, bI, bI_0, lg_eq])), rfl⟩
    · refine x_iconst C (v := 1) d_MD_holds_38 (by decide) ?_
      refine x_goto C 43 d_MD_holds_39 (by decide) ?_
      exact x_zret C rfl (Nat.le_of_ble_eq_true rfl) (Nat.le_of_ble_eq_true rfl) d_MD_holds_43 ⟨congrArg some (congrArg Value.int (by clear C hnm; simp_all [mHo, bI, bI_0, lg_eq])), rfl⟩
  · refine x_tswIn C 44 d_MD_holds_1 (by decide) (by decide) rfl (by decide) ?_
    refine x_lload_n C d_MD_holds_44 rfl rfl ?_
    refine x_lload_n C d_MD_holds_45 rfl rfl ?_
    refine x_callS2 C (q_MD_isLess l E) (lk_MD_106 C.hts (Nat.le_of_ble_eq_true rfl) (Nat.le_of_ble_eq_true rfl)) rfl d_MD_holds_46 (Nat.le_of_ble_eq_true rfl) (Nat.le_of_ble_eq_true rfl) (Nat.le_of_ble_eq_true rfl) (fun r G' h => ?_)
    obtain ⟨rfl, rfl⟩ : r = some (.int (bI (mLs (kk) (f)))) ∧ _ = G' := h
    exact x_zret C (bI_nar _) (Nat.le_of_ble_eq_true rfl) (Nat.le_of_ble_eq_true rfl) d_MD_holds_49 ⟨congrArg some (congrArg Value.int (by clear C hnm; simp_all [mHo, bI, bI_0, lg_eq])), rfl⟩
  · refine x_tswIn C 50 d_MD_holds_1 (by decide) (by decide) rfl (by decide) ?_
    refine x_lload_n C d_MD_holds_50 rfl rfl ?_
    refine x_lload_n C d_MD_holds_51 rfl rfl ?_
    refine x_callS2 C (q_MD_isLess l E) (lk_MD_106 C.hts (Nat.le_of_ble_eq_true rfl) (Nat.le_of_ble_eq_true rfl)) rfl d_MD_holds_52 (Nat.le_of_ble_eq_true rfl) (Nat.le_of_ble_eq_true rfl) (Nat.le_of_ble_eq_true rfl) (fun r G' h => ?_)
    obtain ⟨rfl, rfl⟩ : r = some (.int (bI (mLs (f) (kk)))) ∧ _ = G' := h
    refine x_if_ne C 62 d_MD_holds_55 (by decide) (fun c_55 => ?_) (fun c_55 => ?_)
    · refine x_iconst C (v := 0) d_MD_holds_62 (by decide) ?_
      exact x_zret C rfl (Nat.le_of_ble_eq_true rfl) (Nat.le_of_ble_eq_true rfl) d_MD_holds_63 ⟨congrArg some (congrArg Value.int (by clear C hnm; simp_all [mHo, bI, bI_0, lg_eq])), rfl⟩
    · refine x_iconst C (v := 1) d_MD_holds_58 (by decide) ?_
      refine x_goto C 63 d_MD_holds_59 (by decide) ?_
      exact x_zret C rfl (Nat.le_of_ble_eq_true rfl) (Nat.le_of_ble_eq_true rfl) d_MD_holds_63 ⟨congrArg some (congrArg Value.int (by clear C hnm; simp_all [mHo, bI, bI_0, lg_eq])), rfl⟩
  · refine x_tswIn C 64 d_MD_holds_1 (by decide) (by decide) rfl (by decide) ?_
    refine x_lload_n C d_MD_holds_64 rfl rfl ?_
    refine x_lload_n C d_MD_holds_65 rfl rfl ?_
    refine x_callS2 C (q_MD_isLess l E) (lk_MD_106 C.hts (Nat.le_of_ble_eq_true rfl) (Nat.le_of_ble_eq_true rfl)) rfl d_MD_holds_66 (Nat.le_of_ble_eq_true rfl) (Nat.le_of_ble_eq_true rfl) (Nat.le_of_ble_eq_true rfl) (fun r G' h => ?_)
    obtain ⟨rfl, rfl⟩ : r = some (.int (bI (mLs (f) (kk)))) ∧ _ = G' := h
    exact x_zret C (bI_nar _) (Nat.le_of_ble_eq_true rfl) (Nat.le_of_ble_eq_true rfl) d_MD_holds_69 ⟨congrArg some (congrArg Value.int (by clear C hnm; simp_all [mHo, bI, bI_0, lg_eq])), rfl⟩
  · refine x_tswOut C 70 d_MD_holds_1 (by decide) (by decide) ?_
    refine x_lload_n C d_MD_holds_70 rfl rfl ?_
    refine x_lload_n C d_MD_holds_71 rfl rfl ?_
    refine x_callS2 C (q_MD_isLess l E) (lk_MD_106 C.hts (Nat.le_of_ble_eq_true rfl) (Nat.le_of_ble_eq_true rfl)) rfl d_MD_holds_72 (Nat.le_of_ble_eq_true rfl) (Nat.le_of_ble_eq_true rfl) (Nat.le_of_ble_eq_true rfl) (fun r G' h => ?_)
    obtain ⟨rfl, rfl⟩ : r = some (.int (bI (mLs (kk) (f)))) ∧ _ = G' := h
    refine x_if_ne C 82 d_MD_holds_75 (by decide) (fun c_75 => ?_) (fun c_75 => ?_)
    · refine x_iconst C (v := 0) d_MD_holds_82 (by decide) ?_
      exact x_zret C rfl (Nat.le_of_ble_eq_true rfl) (Nat.le_of_ble_eq_true rfl) d_MD_holds_83 ⟨congrArg some (congrArg Value.int (by clear C hnm; simp_all [mHo, bI, bI_0, lg_eq])), rfl⟩
    · refine x_iconst C (v := 1) d_MD_holds_78 (by decide) ?_
      refine x_goto C 83 d_MD_holds_79 (by decide) ?_
      exact x_zret C rfl (Nat.le_of_ble_eq_true rfl) (Nat.le_of_ble_eq_true rfl) d_MD_holds_83 ⟨congrArg some (congrArg Value.int (by clear C hnm; simp_all [mHo, bI, bI_0, lg_eq])), rfl⟩
set_option maxRecDepth 4000 in
set_option maxHeartbeats 800000 in
theorem q_MD_status (l : Launch) (E : xE) {G : xw_G} {md : Nat} {a : Nat → Nat} {μ : MS} (hM : xMD E G md a μ) {k : Nat} (hk : k < 6) {sl : Nat} (hr : sl < 300) {back : Bool} : XMk l E y_MD_status w_MD_status rm_MD_status [.ref md, .int (nI k), .int (nI sl), .int (bI back)] G (fun r G' => r = some (.int (mSta μ k sl back)) ∧ G = G') 0 0 := by
  refine XM_of [some (.ref md), some (.int (nI k)), some (.int (nI sl)), some (.int (bI back)), none, none, none] (XZ_st E) (by decide) rfl rfl rfl (Nat.le_of_ble_eq_true rfl) (fun p e s m below meth c C hnm => ?_)
  refine x_aload_n C d_MD_status_0 rfl rfl ?_
  refine x_iload_n C d_MD_status_1 rfl rfl ?_
  refine x_aload_n C d_MD_status_2 rfl rfl ?_
  refine x_get C hM.1 rfl (in_MD _) 9 (by decide) (List.mem_cons_of_mem _ f_MD_27) rfl d_MD_status_3 ?_
  refine x_iload_n C d_MD_status_6 rfl rfl ?_
  refine x_mJv C hM 9 300 kJ_9 rfl (j := sl) (by omega) (mJ μ 9 sl) rfl d_MD_status_7 ?_
  refine x_callV2 C (q_MD_field l E hM (k := k) (by omega)) (lk_MD_98 C.hts (Nat.le_of_ble_eq_true rfl) (Nat.le_of_ble_eq_true rfl)) hM.1 rfl rfl d_MD_status_8 (Nat.le_of_ble_eq_true rfl) (Nat.le_of_ble_eq_true rfl) (Nat.le_of_ble_eq_true rfl) (fun r G' h => ?_)
  obtain ⟨rfl, rfl⟩ : r = some (.long (mF μ k (mJ μ 9 sl))) ∧ _ = G' := h
  refine x_lstore C d_MD_status_11 (Nat.le_of_ble_eq_true rfl) rfl ?_
  refine x_iload_n C d_MD_status_13 rfl rfl ?_
  refine x_if_eq C 34 d_MD_status_14 (by decide) (fun c_14 => ?_) (fun c_14 => ?_)
  · refine x_aload_n C d_MD_status_34 rfl rfl ?_
    refine x_iload_n C d_MD_status_35 rfl rfl ?_
    refine x_lload C d_MD_status_36 rfl ?_
    refine x_aload_n C d_MD_status_38 rfl rfl ?_
    refine x_iload_n C d_MD_status_39 rfl rfl ?_
    refine x_iload_n C d_MD_status_40 rfl rfl ?_
    refine x_callV2 C (q_MD_rank l E hM (k := k) (sl := sl) (by omega) (by omega)) (lk_MD_110 C.hts (Nat.le_of_ble_eq_true rfl) (Nat.le_of_ble_eq_true rfl)) hM.1 rfl rfl d_MD_status_41 (Nat.le_of_ble_eq_true rfl) (Nat.le_of_ble_eq_true rfl) (Nat.le_of_ble_eq_true rfl) (fun r G' h => ?_)
    obtain ⟨rfl, rfl⟩ : r = some (.int (mRk μ k sl)) ∧ _ = G' := h
    refine x_iconst C (v := 0) d_MD_status_44 (by decide) ?_
    refine x_callV4 C (q_MD_after l E hM (k := k) (th := false) (by omega)) (lk_MD_133 C.hts (Nat.le_of_ble_eq_true rfl) (Nat.le_of_ble_eq_true rfl)) hM.1 rfl rfl d_MD_status_45 (Nat.le_of_ble_eq_true rfl) (Nat.le_of_ble_eq_true rfl) (Nat.le_of_ble_eq_true rfl) (fun r G' h => ?_)
    obtain ⟨rfl, rfl⟩ : r = some (.int (oI (mAft μ k (mF μ k (mJ μ 9 sl)) (mRk μ k sl) false))) ∧ _ = G' := h
    refine x_istore C d_MD_status_48 (Nat.le_of_ble_eq_true rfl) rfl ?_
    refine x_aload_n C d_MD_status_50 rfl rfl ?_
    refine x_get C hM.1 rfl (in_MD _) 3 (by decide) (List.mem_cons_of_mem _ f_MD_16) rfl d_MD_status_51 ?_
    refine x_iload_n C d_MD_status_54 rfl rfl ?_
    refine x_mZv C hM 3 6 kZ_3 rfl (j := k) (by omega) (mZ μ 3 k) rfl d_MD_status_55 ?_
    refine x_if_eq C 87 d_MD_status_56 (by decide) (fun c_56 => ?_) (fun c_56 => ?_)
    · refine x_iconst C (v := 0) d_MD_status_87 (by decide) ?_
      exact x_iret C (Nat.le_of_ble_eq_true rfl) (Nat.le_of_ble_eq_true rfl) d_MD_status_88 ⟨congrArg some (congrArg Value.int (sta0d ((bI_0 _).mp c_56)).symm), rfl⟩
    · refine x_iload C d_MD_status_59 rfl ?_
      refine x_iconst C (v := -1) d_MD_status_61 (by decide) ?_
      refine x_icmp_eq C 87 d_MD_status_62 (by decide) (fun c_62 => ?_) (fun c_62 => ?_)
      · refine x_iconst C (v := 0) d_MD_status_87 (by decide) ?_
        exact x_iret C (Nat.le_of_ble_eq_true rfl) (Nat.le_of_ble_eq_true rfl) d_MD_status_88 ⟨congrArg some (congrArg Value.int (sta0n (by rw [if_neg (fun z => absurd ((bI_0 _).mp c_14) (by rw [z]; decide))]; exact (oI_n (fun _ z => mAft_lt z) c_62))).symm), rfl⟩
      · obtain ⟨q, hq⟩ := oI_s c_62
        have hq3 : q < 300 := mAft_lt hq
        rw [hq]
        refine x_aload_n C d_MD_status_65 rfl rfl ?_
        refine x_iload_n C d_MD_status_66 rfl rfl ?_
        refine x_aload_n C d_MD_status_67 rfl rfl ?_
        refine x_get C hM.1 rfl (in_MD _) 9 (by decide) (List.mem_cons_of_mem _ f_MD_27) rfl d_MD_status_68 ?_
        refine x_iload C d_MD_status_71 rfl ?_
        refine x_mJv C hM 9 300 kJ_9 rfl (j := q) (by omega) (mJ μ 9 q) rfl d_MD_status_73 ?_
        refine x_callV2 C (q_MD_field l E hM (k := k) (by omega)) (lk_MD_98 C.hts (Nat.le_of_ble_eq_true rfl) (Nat.le_of_ble_eq_true rfl)) hM.1 rfl rfl d_MD_status_74 (Nat.le_of_ble_eq_true rfl) (Nat.le_of_ble_eq_true rfl) (Nat.le_of_ble_eq_true rfl) (fun r G' h => ?_)
        obtain ⟨rfl, rfl⟩ : r = some (.long (mF μ k (mJ μ 9 q))) ∧ _ = G' := h
        refine x_lload C d_MD_status_77 rfl ?_
        refine x_lcmp C d_MD_status_79 ?_
        refine x_if_ne C 87 d_MD_status_80 (by decide) (fun c_80 => ?_) (fun c_80 => ?_)
        · refine x_iconst C (v := 0) d_MD_status_87 (by decide) ?_
          exact x_iret C (Nat.le_of_ble_eq_true rfl) (Nat.le_of_ble_eq_true rfl) d_MD_status_88 ⟨congrArg some (congrArg Value.int (sta0f (by rw [if_neg (fun z => absurd ((bI_0 _).mp c_14) (by rw [z]; decide))]; exact hq) (fun z => c_80 ((lg_eq _ _).mpr z))).symm), rfl⟩
        · refine x_iconst C (v := 2) d_MD_status_83 (by decide) ?_
          refine x_goto C 88 d_MD_status_84 (by decide) ?_
          exact x_iret C (Nat.le_of_ble_eq_true rfl) (Nat.le_of_ble_eq_true rfl) d_MD_status_88 ⟨congrArg some (congrArg Value.int (sta2 (bI_1 c_56) (by rw [if_neg (fun z => absurd ((bI_0 _).mp c_14) (by rw [z]; decide))]; exact hq) ((lg_eq _ _).mp c_80)).symm), rfl⟩
  · refine x_aload_n C d_MD_status_17 rfl rfl ?_
    refine x_iload_n C d_MD_status_18 rfl rfl ?_
    refine x_lload C d_MD_status_19 rfl ?_
    refine x_aload_n C d_MD_status_21 rfl rfl ?_
    refine x_iload_n C d_MD_status_22 rfl rfl ?_
    refine x_iload_n C d_MD_status_23 rfl rfl ?_
    refine x_callV2 C (q_MD_rank l E hM (k := k) (sl := sl) (by omega) (by omega)) (lk_MD_110 C.hts (Nat.le_of_ble_eq_true rfl) (Nat.le_of_ble_eq_true rfl)) hM.1 rfl rfl d_MD_status_24 (Nat.le_of_ble_eq_true rfl) (Nat.le_of_ble_eq_true rfl) (Nat.le_of_ble_eq_true rfl) (fun r G' h => ?_)
    obtain ⟨rfl, rfl⟩ : r = some (.int (mRk μ k sl)) ∧ _ = G' := h
    refine x_iconst C (v := 0) d_MD_status_27 (by decide) ?_
    refine x_callV4 C (q_MD_ahead l E hM (k := k) (th := false) (by omega)) (lk_MD_129 C.hts (Nat.le_of_ble_eq_true rfl) (Nat.le_of_ble_eq_true rfl)) hM.1 rfl rfl d_MD_status_28 (Nat.le_of_ble_eq_true rfl) (Nat.le_of_ble_eq_true rfl) (Nat.le_of_ble_eq_true rfl) (fun r G' h => ?_)
    obtain ⟨rfl, rfl⟩ : r = some (.int (oI (mAhd μ k (mF μ k (mJ μ 9 sl)) (mRk μ k sl) false))) ∧ _ = G' := h
    refine x_goto C 48 d_MD_status_31 (by decide) ?_
    refine x_istore C d_MD_status_48 (Nat.le_of_ble_eq_true rfl) rfl ?_
    refine x_aload_n C d_MD_status_50 rfl rfl ?_
    refine x_get C hM.1 rfl (in_MD _) 3 (by decide) (List.mem_cons_of_mem _ f_MD_16) rfl d_MD_status_51 ?_
    refine x_iload_n C d_MD_status_54 rfl rfl ?_
    refine x_mZv C hM 3 6 kZ_3 rfl (j := k) (by omega) (mZ μ 3 k) rfl d_MD_status_55 ?_
    refine x_if_eq C 87 d_MD_status_56 (by decide) (fun c_56 => ?_) (fun c_56 => ?_)
    · refine x_iconst C (v := 0) d_MD_status_87 (by decide) ?_
      exact x_iret C (Nat.le_of_ble_eq_true rfl) (Nat.le_of_ble_eq_true rfl) d_MD_status_88 ⟨congrArg some (congrArg Value.int (sta0d ((bI_0 _).mp c_56)).symm), rfl⟩
    · refine x_iload C d_MD_status_59 rfl ?_
      refine x_iconst C (v := -1) d_MD_status_61 (by decide) ?_
      refine x_icmp_eq C 87 d_MD_status_62 (by decide) (fun c_62 => ?_) (fun c_62 => ?_)
      · refine x_iconst C (v := 0) d_MD_status_87 (by decide) ?_
        exact x_iret C (Nat.le_of_ble_eq_true rfl) (Nat.le_of_ble_eq_true rfl) d_MD_status_88 ⟨congrArg some (congrArg Value.int (sta0n (by rw [if_pos (bI_1 c_14)]; exact (oI_n (fun _ z => mAhd_lt z) c_62))).symm), rfl⟩
      · obtain ⟨q, hq⟩ := oI_s c_62
        have hq3 : q < 300 := mAhd_lt hq
        rw [hq]
        refine x_aload_n C d_MD_status_65 rfl rfl ?_
        refine x_iload_n C d_MD_status_66 rfl rfl ?_
        refine x_aload_n C d_MD_status_67 rfl rfl ?_
        refine x_get C hM.1 rfl (in_MD _) 9 (by decide) (List.mem_cons_of_mem _ f_MD_27) rfl d_MD_status_68 ?_
        refine x_iload C d_MD_status_71 rfl ?_
        refine x_mJv C hM 9 300 kJ_9 rfl (j := q) (by omega) (mJ μ 9 q) rfl d_MD_status_73 ?_
        refine x_callV2 C (q_MD_field l E hM (k := k) (by omega)) (lk_MD_98 C.hts (Nat.le_of_ble_eq_true rfl) (Nat.le_of_ble_eq_true rfl)) hM.1 rfl rfl d_MD_status_74 (Nat.le_of_ble_eq_true rfl) (Nat.le_of_ble_eq_true rfl) (Nat.le_of_ble_eq_true rfl) (fun r G' h => ?_)
        obtain ⟨rfl, rfl⟩ : r = some (.long (mF μ k (mJ μ 9 q))) ∧ _ = G' := h
        refine x_lload C d_MD_status_77 rfl ?_
        refine x_lcmp C d_MD_status_79 ?_
        refine x_if_ne C 87 d_MD_status_80 (by decide) (fun c_80 => ?_) (fun c_80 => ?_)
        · refine x_iconst C (v := 0) d_MD_status_87 (by decide) ?_
          exact x_iret C (Nat.le_of_ble_eq_true rfl) (Nat.le_of_ble_eq_true rfl) d_MD_status_88 ⟨congrArg some (congrArg Value.int (sta0f (by rw [if_pos (bI_1 c_14)]; exact hq) (fun z => c_80 ((lg_eq _ _).mpr z))).symm), rfl⟩
        · refine x_iconst C (v := 2) d_MD_status_83 (by decide) ?_
          refine x_goto C 88 d_MD_status_84 (by decide) ?_
          exact x_iret C (Nat.le_of_ble_eq_true rfl) (Nat.le_of_ble_eq_true rfl) d_MD_status_88 ⟨congrArg some (congrArg Value.int (sta2 (bI_1 c_56) (by rw [if_pos (bI_1 c_14)]; exact hq) ((lg_eq _ _).mp c_80)).symm), rfl⟩
set_option maxRecDepth 4000 in
set_option maxHeartbeats 800000 in
theorem q_MD_got (l : Launch) (E : xE) {G : xw_G} {md : Nat} {a : Nat → Nat} {μ : MS} (hM : xMD E G md a μ) {i : Nat} (hi : i < 5) {k : Nat} (hk : k < 6) {sl : Nat} (hr : sl < 300) {back : Bool} : XMk l E y_MD_got w_MD_got rm_MD_got [.ref md, .int (nI i), .int (nI k), .int (nI sl), .int (bI back)] G (fun r G' => r = some (.int (mSta μ k sl back)) ∧ xMD E G' md a (mGo μ i k sl) ∧ xFc G G') 0 0 := by
  refine XM_of [some (.ref md), some (.int (nI i)), some (.int (nI k)), some (.int (nI sl)), some (.int (bI back))] (XZ_st E) (by decide) rfl rfl rfl (Nat.le_of_ble_eq_true rfl) (fun p e s m below meth c C hnm => ?_)
  refine x_aload_n C d_MD_got_0 rfl rfl ?_
  refine x_get C hM.1 rfl (in_MD _) 17 (by decide) (List.mem_cons_of_mem _ f_MD_42) rfl d_MD_got_1 ?_
  refine x_iload_n C d_MD_got_4 rfl rfl ?_
  refine x_iload_n C d_MD_got_5 rfl rfl ?_
  refine x_mIs C hM 17 5 kI_17 (j := i) (x := nI k) rfl (by omega) d_MD_got_6 (fun _ hMg1 hFg1 => ?_)
  refine x_aload_n C d_MD_got_7 rfl rfl ?_
  refine x_get C hMg1.1 rfl (in_MD _) 18 (by decide) (List.mem_cons_of_mem _ f_MD_45) rfl d_MD_got_8 ?_
  refine x_iload_n C d_MD_got_11 rfl rfl ?_
  refine x_iconst C (v := 1) d_MD_got_12 (by decide) ?_
  refine x_mIs C hMg1 18 5 kI_18 (j := i) (x := 1) rfl (by omega) d_MD_got_13 (fun _ hMg2 hFg2 => ?_)
  refine x_aload_n C d_MD_got_14 rfl rfl ?_
  refine x_get C hMg2.1 rfl (in_MD _) 21 (by decide) (List.mem_cons_of_mem _ f_MD_54) rfl d_MD_got_15 ?_
  refine x_iload_n C d_MD_got_18 rfl rfl ?_
  refine x_aload_n C d_MD_got_19 rfl rfl ?_
  refine x_iload_n C d_MD_got_20 rfl rfl ?_
  refine x_aload_n C d_MD_got_21 rfl rfl ?_
  refine x_get C hMg2.1 rfl (in_MD _) 9 (by decide) (List.mem_cons_of_mem _ f_MD_27) rfl d_MD_got_22 ?_
  refine x_iload_n C d_MD_got_25 rfl rfl ?_
  refine x_mJv C hMg2 9 300 kJ_9 rfl (j := sl) (by omega) (mJ μ 9 sl) rfl d_MD_got_26 ?_
  refine x_callV2 C (q_MD_field l E hMg2 (k := k) (by omega)) (lk_MD_98 C.hts (Nat.le_of_ble_eq_true rfl) (Nat.le_of_ble_eq_true rfl)) hMg2.1 rfl rfl d_MD_got_27 (Nat.le_of_ble_eq_true rfl) (Nat.le_of_ble_eq_true rfl) (Nat.le_of_ble_eq_true rfl) (fun r G' h => ?_)
  obtain ⟨rfl, rfl⟩ : r = some (.long (mF μ k (mJ μ 9 sl))) ∧ _ = G' := h
  refine x_mJs C hMg2 21 5 kJ_21 (j := i) (x := mF μ k (mJ μ 9 sl)) rfl (by omega) d_MD_got_30 (fun _ hMg3 hFg3 => ?_)
  refine x_aload_n C d_MD_got_31 rfl rfl ?_
  refine x_get C hMg3.1 rfl (in_MD _) 19 (by decide) (List.mem_cons_of_mem _ f_MD_48) rfl d_MD_got_32 ?_
  refine x_iload_n C d_MD_got_35 rfl rfl ?_
  refine x_aload_n C d_MD_got_36 rfl rfl ?_
  refine x_iload_n C d_MD_got_37 rfl rfl ?_
  refine x_iload_n C d_MD_got_38 rfl rfl ?_
  refine x_callV2 C (q_MD_rank l E hMg3 (k := k) (sl := sl) (by omega) (by omega)) (lk_MD_110 C.hts (Nat.le_of_ble_eq_true rfl) (Nat.le_of_ble_eq_true rfl)) hMg3.1 rfl rfl d_MD_got_39 (Nat.le_of_ble_eq_true rfl) (Nat.le_of_ble_eq_true rfl) (Nat.le_of_ble_eq_true rfl) (fun r G' h => ?_)
  obtain ⟨rfl, rfl⟩ : r = some (.int (mRk μ k sl)) ∧ _ = G' := h
  refine x_mIs C hMg3 19 5 kI_19 (j := i) (x := mRk μ k sl) rfl (by omega) d_MD_got_42 (fun _ hMg4 hFg4 => ?_)
  refine x_aload_n C d_MD_got_43 rfl rfl ?_
  refine x_get C hMg4.1 rfl (in_MD _) 25 (by decide) (List.mem_cons_of_mem _ f_MD_66) rfl d_MD_got_44 ?_
  refine x_iload_n C d_MD_got_47 rfl rfl ?_
  refine x_iconst C (v := 0) d_MD_got_48 (by decide) ?_
  refine x_mZs C hMg4 25 5 kZ_25 (j := i) false rfl (by omega) d_MD_got_49 (fun _ hMg5 hFg5 => ?_)
  refine x_aload_n C d_MD_got_50 rfl rfl ?_
  refine x_get C hMg5.1 rfl (in_MD _) 20 (by decide) (List.mem_cons_of_mem _ f_MD_51) rfl d_MD_got_51 ?_
  refine x_iload_n C d_MD_got_54 rfl rfl ?_
  refine x_aload_n C d_MD_got_55 rfl rfl ?_
  refine x_get C hMg5.1 rfl (in_MD _) 10 (by decide) (List.mem_cons_of_mem _ f_MD_30) rfl d_MD_got_56 ?_
  refine x_iload_n C d_MD_got_59 rfl rfl ?_
  refine x_mIv C hMg5 10 300 kI_10 rfl (j := sl) (by omega) (mI μ 10 sl) rfl d_MD_got_60 ?_
  refine x_mIs C hMg5 20 5 kI_20 (j := i) (x := mI μ 10 sl) rfl (by omega) d_MD_got_61 (fun _ hMg6 hFg6 => ?_)
  refine x_aload_n C d_MD_got_62 rfl rfl ?_
  refine x_get C hMg6.1 rfl (in_MD _) 22 (by decide) (List.mem_cons_of_mem _ f_MD_57) rfl d_MD_got_63 ?_
  refine x_iload_n C d_MD_got_66 rfl rfl ?_
  refine x_aload_n C d_MD_got_67 rfl rfl ?_
  refine x_get C hMg6.1 rfl (in_MD _) 9 (by decide) (List.mem_cons_of_mem _ f_MD_27) rfl d_MD_got_68 ?_
  refine x_iload_n C d_MD_got_71 rfl rfl ?_
  refine x_mJv C hMg6 9 300 kJ_9 rfl (j := sl) (by omega) (mJ μ 9 sl) rfl d_MD_got_72 ?_
  refine x_mJs C hMg6 22 5 kJ_22 (j := i) (x := mJ μ 9 sl) rfl (by omega) d_MD_got_73 (fun _ hMg7 hFg7 => ?_)
  refine x_aload_n C d_MD_got_74 rfl rfl ?_
  refine x_iload_n C d_MD_got_75 rfl rfl ?_
  refine x_iload_n C d_MD_got_76 rfl rfl ?_
  refine x_iload C d_MD_got_77 rfl ?_
  refine x_callV3 C (q_MD_status l E hMg7 (k := k) (sl := sl) (back := back) (by omega) (by omega)) (lk_MD_143 C.hts (Nat.le_of_ble_eq_true rfl) (Nat.le_of_ble_eq_true rfl)) hMg7.1 rfl rfl d_MD_got_79 (Nat.le_of_ble_eq_true rfl) (Nat.le_of_ble_eq_true rfl) (Nat.le_of_ble_eq_true rfl) (fun r G' h => ?_)
  obtain ⟨rfl, rfl⟩ : r = some (.int (mSta μ k sl back)) ∧ _ = G' := h
  exact x_iret C (Nat.le_of_ble_eq_true rfl) (Nat.le_of_ble_eq_true rfl) d_MD_got_82 ⟨rfl, hMg7, (((((hFg1.tr hFg2).tr hFg3).tr hFg4).tr hFg5).tr hFg6).tr hFg7⟩
