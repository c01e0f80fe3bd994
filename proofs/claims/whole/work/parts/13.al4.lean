theorem al_pred {n : Nat} (h : 0 < n) : nI n - 1 = nI (n - 1) := by
  obtain ⟨k, rfl⟩ : ∃ k, n = k + 1 := ⟨n - 1, by omega⟩
  rw [nI_pred, Nat.add_sub_cancel]
theorem al_put2 {E : xE} {G : xw_G} {h ar cap : Nat} {g : Nat → Option Nat} {md : Int32} {xs : List Nat} (hh : h ≠ ar) (h1 : xs.length ≤ cap) (h2 : capOK cap) (h3 : cap = 0 → ar = xaE E) (hf : ∀ i : Nat, i < xs.length → g i = xs[i]?) : xAL E (va_up (va_up G h (some (eAL ar (nI xs.length) md))) ar (some (eOA E cap g))) h ar xs :=
  ⟨cap, md, g, xw_keep (va_up_self _ _ _) hh, va_up_self _ _ _, h1, h2, h3, hf⟩
theorem fr_put2 {E : xE} {G : xw_G} {h ar : Nat} {e1 e2 : Option va_E} (hne : ar ≠ xaE E) : xFr E G (va_up (va_up G h e1) ar e2) h ar := by
  intro a e ha h1 h2
  have h3 : a ≠ ar := fun q => hne (by rw [← q]; exact h2 q)
  rw [va_up_ne _ _ h3, va_up_ne _ _ h1]
  exact ha
theorem fr_put3 {E : xE} {G : xw_G} {h ar : Nat} {e0 e1 e2 e3 : Option va_E} (hne : ar ≠ xaE E) : xFr E G (va_up (va_up (va_up (va_up G h e0) ar e1) h e2) ar e3) h ar := by
  intro a e ha h1 h2
  have h3 : a ≠ ar := fun q => hne (by rw [← q]; exact h2 q)
  rw [va_up_ne _ _ h3, va_up_ne _ _ h1, va_up_ne _ _ h3, va_up_ne _ _ h1]
  exact ha
theorem cpy_0 {f g : Nat → Option Nat} {a b : Nat} : va_cpy f g a b 0 = g := by
  funext i
  exact pk_cpy_out (by omega)
theorem al_delE {E : xE} {G : xw_G} {h ar cap k : Nat} {f : Nat → Option Nat} {md : Int32} {xs : List Nat} (hh : h ≠ ar) (h1 : xs.length ≤ cap) (h2 : capOK cap) (hk : k < xs.length) (hf : ∀ i : Nat, i < xs.length → f i = xs[i]?) : xAL E (va_up (va_up G h (some (eAL ar (nI (xs.length - 1)) md))) ar (some (eOA E cap (va_up (va_cpy f f (k + 1) k (xs.length - 1 - k)) (xs.length - 1) none)))) h ar (xs.eraseIdx k) := by
  have e : xs.length - 1 = (xs.eraseIdx k).length := by rw [List.length_eraseIdx_of_lt hk]
  have hd := al_del hk hf
  rw [show nI (xs.length - 1) = nI (xs.eraseIdx k).length by rw [← e]]
  exact al_put2 hh (by omega) h2 (by omega) hd
theorem up_swap {α : Type} {f : Nat → α} {a b : Nat} {x y : α} (h : a ≠ b) : va_up (va_up f a x) b y = va_up (va_up f b y) a x := by
  funext i
  by_cases h1 : i = a
  · subst h1
    rw [va_up_ne _ _ h, va_up_self, va_up_self]
  · by_cases h2 : i = b
    · subst h2
      rw [va_up_self, va_up_ne _ _ h1, va_up_self]
    · rw [va_up_ne _ _ h2, va_up_ne _ _ h1, va_up_ne _ _ h1, va_up_ne _ _ h2]
theorem up_id {α : Type} (f : Nat → α) (a : Nat) : va_up f a (f a) = f := by
  funext i
  by_cases h : i = a
  · subst h; rw [va_up_self]
  · rw [va_up_ne _ _ h]
set_option maxRecDepth 100000 in
set_option maxHeartbeats 4000000 in
theorem q_AL_fastRemove (l : Launch) (E : xE) {G : xw_G} {h0 ar k : Nat} {xs : List Nat} (h : xAL E G h0 ar xs) (hel : ∀ y ∈ xs, xw_el G y) (hE : xEm E G) (hk : k < xs.length) : XMk l E y_AL_fastRemove w_AL_fastRemove rm_AL_fastRemove [.ref h0, .ref ar, .int (nI k)] G (fun r G' => r = none ∧ xAL E G' h0 ar (xs.eraseIdx k) ∧ xFr E G G' h0 ar) 0 0 := by
  refine XM_of [some (.ref h0), some (.ref ar), some (.int (nI k)), none] (XZ_st E) (by decide) rfl rfl rfl (Nat.le_of_ble_eq_true rfl) (fun p e s m below meth c C hnm => ?_)
  obtain ⟨cap, md, f, hL, hA, hc1, hc2, hc3, hf⟩ := h
  have hcl := capOK_le hc2
  have hne := xEm_ne hE hA (by omega)
  refine x_aload_n C d_AL_fastRemove_0 rfl rfl ?_
  refine x_dup C d_AL_fastRemove_1 rfl ?_
  refine x_getS C hL rfl (in_AL _) 2 (by decide) (List.mem_cons_of_mem _ f_AL_63) (List.mem_cons_of_mem _ kf_AL_modCount) rfl d_AL_fastRemove_2 ?_
  refine x_iconst C (v := 1) d_AL_fastRemove_5 (by decide) ?_
  refine x_iadd C d_AL_fastRemove_6 ?_
  refine x_putS C hL rfl (in_AL _) ty_AL tok_AL nm_AL 2 (by decide) (List.mem_cons_of_mem _ f_AL_63) (List.mem_cons_of_mem _ kf_AL_modCount) rfl (tok_AL 2 (by decide)) rfl rfl (Nat.le_of_ble_eq_true rfl) d_AL_fastRemove_7 ?_
  refine x_aload_n C d_AL_fastRemove_10 rfl rfl ?_
  refine x_get C (va_up_self _ _ _) rfl (in_AL _) 1 (by decide) (List.mem_cons_of_mem _ f_AL_48) rfl d_AL_fastRemove_11 ?_
  refine x_iconst C (v := 1) d_AL_fastRemove_14 (by decide) ?_
  refine x_isub C d_AL_fastRemove_15 ?_
  rw [al_pred (show 0 < xs.length by omega)]
  refine x_dup C d_AL_fastRemove_16 rfl ?_
  refine x_istore_n C d_AL_fastRemove_17 rfl (Nat.le_of_ble_eq_true rfl) rfl ?_
  refine x_iload_n C d_AL_fastRemove_18 rfl rfl ?_
  refine x_icmp_le C 34 d_AL_fastRemove_19 (by decide) (fun c_19 => ?_) (fun c_19 => ?_)
  · have heq : xs.length - 1 - k = 0 := by
      have := (nI_leI (by omega) (by omega)).mp c_19
      omega
    refine x_aload_n C d_AL_fastRemove_34 rfl rfl ?_
    refine x_aload_n C d_AL_fastRemove_35 rfl rfl ?_
    refine x_iload_n C d_AL_fastRemove_36 rfl rfl ?_
    refine x_dup_x1 C d_AL_fastRemove_37 rfl rfl ?_
    refine x_put2 C rfl (in_AL _) ty_AL tok_AL nm_AL 1 (by decide) (List.mem_cons_of_mem _ f_AL_48) rfl (tok_AL 1 (by decide)) rfl rfl (Nat.le_of_ble_eq_true rfl) d_AL_fastRemove_38 ?_
    refine x_null C d_AL_fastRemove_41 ?_
    refine x_aastoreN C (xw_keep hA (xw_neA hL hA).symm) 0 rfl (vp_in_nI (show xs.length - 1 < cap by omega) (by omega)) d_AL_fastRemove_42 ?_
    rw [nI_clamp (by omega)]
    exact x_vret C (Nat.le_of_ble_eq_true rfl) (Nat.le_of_ble_eq_true rfl) d_AL_fastRemove_43 ⟨rfl, by have hz := al_delE (E := E) (G := G) (md := md + 1) (xw_neA hL hA) hc1 hc2 hk hf; rw [heq, cpy_0] at hz; exact hz, fr_put2 hne⟩
  · refine x_aload_n C d_AL_fastRemove_22 rfl rfl ?_
    refine x_iload_n C d_AL_fastRemove_23 rfl rfl ?_
    refine x_iconst C (v := 1) d_AL_fastRemove_24 (by decide) ?_
    refine x_iadd C d_AL_fastRemove_25 ?_
    refine x_aload_n C d_AL_fastRemove_26 rfl rfl ?_
    refine x_iload_n C d_AL_fastRemove_27 rfl rfl ?_
    refine x_iload_n C d_AL_fastRemove_28 rfl rfl ?_
    refine x_iload_n C d_AL_fastRemove_29 rfl rfl ?_
    refine x_isub C d_AL_fastRemove_30 ?_
    have hgt : k < xs.length - 1 := by
      rcases Nat.lt_or_ge k (xs.length - 1) with q | q
      · exact q
      · exact absurd (nI_le q (by omega)) c_19
    rw [nI_1, pk_sub (show k ≤ xs.length - 1 by omega)]
    refine x_copyN C (xw_keep hA (xw_neA hL hA).symm) (xw_keep hA (xw_neA hL hA).symm) rfl rfl rfl (i := k + 1) (j := k) (k := xs.length - 1 - k) (by omega) (by omega) (by omega) (by omega) (by omega) (by omega) (fun i hi y hy => el_mod hL (hel y (List.mem_of_getElem? ((hf _ (by omega)).symm.trans hy)))) m_AL_112 rfl (Nat.le_of_ble_eq_true rfl) (by decide +kernel) d_AL_fastRemove_31 ?_
    refine x_aload_n C d_AL_fastRemove_34 rfl rfl ?_
    refine x_aload_n C d_AL_fastRemove_35 rfl rfl ?_
    refine x_iload_n C d_AL_fastRemove_36 rfl rfl ?_
    refine x_dup_x1 C d_AL_fastRemove_37 rfl rfl ?_
    refine x_put C (xw_keep (va_up_self _ _ _) (xw_neA hL hA)) rfl (in_AL _) ty_AL tok_AL nm_AL 1 (by decide) (List.mem_cons_of_mem _ f_AL_48) rfl (tok_AL 1 (by decide)) rfl rfl (Nat.le_of_ble_eq_true rfl) d_AL_fastRemove_38 ?_
    refine x_null C d_AL_fastRemove_41 ?_
    refine x_aastoreN C (xw_keep (va_up_self _ _ _) (xw_neA hL hA).symm) 0 rfl (vp_in_nI (show xs.length - 1 < cap by omega) (by omega)) d_AL_fastRemove_42 ?_
    rw [nI_clamp (by omega)]
    exact x_vret C (Nat.le_of_ble_eq_true rfl) (Nat.le_of_ble_eq_true rfl) d_AL_fastRemove_43 ⟨rfl, al_delE (xw_neA hL hA) hc1 hc2 hk hf, fr_put3 hne⟩
set_option maxRecDepth 100000 in
set_option maxHeartbeats 4000000 in
theorem q_AL_remove (l : Launch) (E : xE) {G : xw_G} {h0 ar k a : Nat} {xs : List Nat} (ha : xs[k]? = some a) (h : xAL E G h0 ar xs) (hel : ∀ y ∈ xs, xw_el G y) (hE : xEm E G) (hk : k < xs.length) : XMk l E y_AL_remove w_AL_remove rm_AL_remove [.ref h0, .int (nI k)] G (fun r G' => r = some (.ref a) ∧ xAL E G' h0 ar (xs.eraseIdx k) ∧ xFr E G G' h0 ar) 0 0 := by
  refine XM_of [some (.ref h0), some (.int (nI k)), none, none] (XZ_st E) (by decide) rfl rfl rfl (Nat.le_of_ble_eq_true rfl) (fun p e s m below meth c C hnm => ?_)
  have h' := h
  obtain ⟨cap, md, f, hL, hA, hc1, hc2, hc3, hf⟩ := h
  have hcl := capOK_le hc2
  refine x_iload_n C d_AL_remove_0 rfl rfl ?_
  refine x_aload_n C d_AL_remove_1 rfl rfl ?_
  refine x_get C hL rfl (in_AL _) 1 (by decide) (List.mem_cons_of_mem _ f_AL_48) rfl d_AL_remove_2 ?_
  refine x_callS2 C (q_OJ_checkIndex l E (G := G) (nI_pos (by omega)) (nI_lt hk (by omega))) (lk_AL_118 C.hts (Nat.le_of_ble_eq_true rfl) (Nat.le_of_ble_eq_true rfl)) rfl d_AL_remove_5 (Nat.le_of_ble_eq_true rfl) (Nat.le_of_ble_eq_true rfl) (Nat.le_of_ble_eq_true rfl) (fun r G' h => ?_)
  obtain ⟨rfl, rfl⟩ := h
  refine x_pop C d_AL_remove_8 rfl ?_
  refine x_aload_n C d_AL_remove_9 rfl rfl ?_
  refine x_get C hL rfl (in_AL _) 0 (by decide) (List.mem_cons_of_mem _ f_AL_9) rfl d_AL_remove_10 ?_
  refine x_astore_n C d_AL_remove_13 rfl (Nat.le_of_ble_eq_true rfl) rfl ?_
  refine x_aload_n C d_AL_remove_14 rfl rfl ?_
  refine x_iload_n C d_AL_remove_15 rfl rfl ?_
  refine x_aaloadR C hA 0 rfl (vp_in_nI (show k < cap by omega) (by omega)) (by rw [nI_clamp (by omega)]; exact (hf k hk).trans ha) d_AL_remove_16 ?_
  refine x_astore_n C d_AL_remove_17 rfl (Nat.le_of_ble_eq_true rfl) rfl ?_
  refine x_aload_n C d_AL_remove_18 rfl rfl ?_
  refine x_aload_n C d_AL_remove_19 rfl rfl ?_
  refine x_iload_n C d_AL_remove_20 rfl rfl ?_
  refine x_callV2 C (q_AL_fastRemove l E (G := G) h' hel hE hk) (lk_AL_144 C.hts (Nat.le_of_ble_eq_true rfl) (Nat.le_of_ble_eq_true rfl)) hL rfl rfl d_AL_remove_21 (Nat.le_of_ble_eq_true rfl) (Nat.le_of_ble_eq_true rfl) (Nat.le_of_ble_eq_true rfl) (fun r G' h => ?_)
  obtain ⟨rfl, g1, g2⟩ := h
  refine x_aload_n C d_AL_remove_24 rfl rfl ?_
  exact x_aret C (Or.inl ⟨_, rfl⟩) (Or.inr ⟨_, rfl⟩) (Nat.le_of_ble_eq_true rfl) (Nat.le_of_ble_eq_true rfl) d_AL_remove_25 ⟨rfl, g1, g2⟩
set_option maxRecDepth 100000 in
set_option maxHeartbeats 4000000 in
theorem q_AL_clear (l : Launch) (E : xE) {G : xw_G} {h0 ar : Nat} {xs : List Nat} (h : xAL E G h0 ar xs) (hE : xEm E G) : XMk l E y_AL_clear w_AL_clear rm_AL_clear [.ref h0] G (fun r G' => r = none ∧ xAL E G' h0 ar [] ∧ xFr E G G' h0 ar) 0 0 := by
  refine XM_of [some (.ref h0), none, none, none] (XZ_st E) (by decide) rfl rfl rfl (Nat.le_of_ble_eq_true rfl) (fun p e s m below meth c C hnm => ?_)
  obtain ⟨cap, md, f, hL, hA, hc1, hc2, hc3, hf⟩ := h
  have hcl := capOK_le hc2
  have hp : ∀ g : Nat → Option Nat, (0 < xs.length ∨ g = f) → (fun (r : Option Value) (G' : xw_G) => r = none ∧ xAL E G' h0 ar [] ∧ xFr E G G' h0 ar) none (va_up (va_up G h0 (some (eAL ar 0 (md + 1)))) ar (some (eOA E cap g))) := by
    intro g hg
    refine ⟨rfl, al_put2 (xs := []) (xw_neA hL hA) (Nat.zero_le _) hc2 hc3 (fun i hi => absurd hi (by simp)), ?_⟩
    rcases hg with hg | hg
    · exact fr_put2 (xEm_ne hE hA (by omega))
    · subst hg
      intro a e ha h1 h2
      by_cases h3 : a = ar
      · subst h3
        rw [va_up_self, ← hA]
        exact ha
      · rw [va_up_ne _ _ h3, va_up_ne _ _ h1]
        exact ha
  have loop : ∀ (k i : Nat) (g : Nat → Option Nat), i + k = xs.length → (0 < i ∨ g = f) → XW p l e rm_AL_clear s m #[.ref h0] below meth c (XQ below #[.ref h0] s (xD E) xcl (xB E) (fun r G' => r = none ∧ xAL E G' h0 ar [] ∧ xFr E G G' h0 ar) 0 0) (xD E) xcl (xB E) 27 [some (.ref h0), some (.ref ar), some (.int (nI xs.length)), some (.int (nI i))] [] (va_up (va_up G h0 (some (eAL ar 0 (md + 1)))) ar (some (eOA E cap g))) 0 0 := by
    intro k
    induction k with
    | zero =>
      intro i g hi hg
      refine x_iload_n C d_AL_clear_27 rfl rfl ?_
      refine x_iload_n C d_AL_clear_28 rfl rfl ?_
      refine x_icmp_ge C 42 d_AL_clear_29 (by decide) (fun c_29 => ?_) (fun c_29 => ?_)
      · exact x_vret C (Nat.le_of_ble_eq_true rfl) (Nat.le_of_ble_eq_true rfl) d_AL_clear_42 (hp g (hg.imp (fun q => by omega) id))
      · exact absurd (nI_le (by omega) (by omega)) c_29
    | succ k ih =>
      intro i g hi hg
      refine x_iload_n C d_AL_clear_27 rfl rfl ?_
      refine x_iload_n C d_AL_clear_28 rfl rfl ?_
      refine x_icmp_ge C 42 d_AL_clear_29 (by decide) (fun c_29 => ?_) (fun c_29 => ?_)
      · exact absurd c_29 (nI_ge (by omega) (by omega))
      · refine x_aload_n C d_AL_clear_32 rfl rfl ?_
        refine x_iload_n C d_AL_clear_33 rfl rfl ?_
        refine x_null C d_AL_clear_34 ?_
        refine x_aastoreN C (va_up_self _ _ _) 0 rfl (vp_in_nI (show i < cap by omega) (by omega)) d_AL_clear_35 ?_
        refine x_iinc C d_AL_clear_36 rfl rfl rfl ?_
        refine x_goto C 27 d_AL_clear_39 (by decide) ?_
        have e1 : nI i + Int32.ofInt 1 = nI (i + 1) := nI_1 i
        rw [e1, nI_clamp (by omega), bx_uu]
        exact ih (i + 1) _ (by omega) (Or.inl (by omega))
  refine x_aload_n C d_AL_clear_0 rfl rfl ?_
  refine x_dup C d_AL_clear_1 rfl ?_
  refine x_getS C hL rfl (in_AL _) 2 (by decide) (List.mem_cons_of_mem _ f_AL_63) (List.mem_cons_of_mem _ kf_AL_modCount) rfl d_AL_clear_2 ?_
  refine x_iconst C (v := 1) d_AL_clear_5 (by decide) ?_
  refine x_iadd C d_AL_clear_6 ?_
  refine x_putS C hL rfl (in_AL _) ty_AL tok_AL nm_AL 2 (by decide) (List.mem_cons_of_mem _ f_AL_63) (List.mem_cons_of_mem _ kf_AL_modCount) rfl (tok_AL 2 (by decide)) rfl rfl (Nat.le_of_ble_eq_true rfl) d_AL_clear_7 ?_
  refine x_aload_n C d_AL_clear_10 rfl rfl ?_
  refine x_get C (va_up_self _ _ _) rfl (in_AL _) 0 (by decide) (List.mem_cons_of_mem _ f_AL_9) rfl d_AL_clear_11 ?_
  refine x_astore_n C d_AL_clear_14 rfl (Nat.le_of_ble_eq_true rfl) rfl ?_
  refine x_aload_n C d_AL_clear_15 rfl rfl ?_
  refine x_get C (va_up_self _ _ _) rfl (in_AL _) 1 (by decide) (List.mem_cons_of_mem _ f_AL_48) rfl d_AL_clear_16 ?_
  refine x_istore_n C d_AL_clear_19 rfl (Nat.le_of_ble_eq_true rfl) rfl ?_
  refine x_aload_n C d_AL_clear_20 rfl rfl ?_
  refine x_iconst C (v := 0) d_AL_clear_21 (by decide) ?_
  refine x_dup_x1 C d_AL_clear_22 rfl rfl ?_
  refine x_put2 C rfl (in_AL _) ty_AL tok_AL nm_AL 1 (by decide) (List.mem_cons_of_mem _ f_AL_48) rfl (tok_AL 1 (by decide)) rfl rfl (Nat.le_of_ble_eq_true rfl) d_AL_clear_23 ?_
  refine x_istore_n C d_AL_clear_26 rfl (Nat.le_of_ble_eq_true rfl) rfl ?_
  refine XW.eqs (loop xs.length 0 f (by omega) (Or.inr rfl)) rfl rfl ?_
  rw [show some (eOA E cap f) = (va_up G h0 (some (eAL ar 0 (md + 1)))) ar from (xw_keep hA (xw_neA hL hA).symm).symm, up_id]
  rfl
theorem q_AL_sizeL (l : Launch) (E : xE) {G : xw_G} {h0 ar : Nat} {xs : List Nat} (h : xAL E G h0 ar xs) : XMk l E y_AL_size w_AL_size rm_AL_size [.ref h0] G (fun r G' => r = some (.int (nI xs.length)) ∧ G = G') 0 0 := by
  obtain ⟨cap, md, f, hL, hA, hc1, hc2, hc3, hf⟩ := h
  exact q_AL_size l E hL
theorem q_AL_getL (l : Launch) (E : xE) {G : xw_G} {h0 ar k a : Nat} {xs : List Nat} (h : xAL E G h0 ar xs) (ha : xs[k]? = some a) : XMk l E y_AL_get w_AL_get rm_AL_get [.ref h0, .int (nI k)] G (fun r G' => r = some (.ref a) ∧ G = G') 0 0 := by
  obtain ⟨cap, md, f, hL, hA, hc1, hc2, hc3, hf⟩ := h
  have hcl := capOK_le hc2
  have hk : k < xs.length := (List.getElem?_eq_some_iff.mp ha).1
  exact q_AL_get l E hL hA (nI_pos (by omega)) (nI_lt hk (by omega)) (vp_in_nI (show k < cap by omega) (by omega)) (by rw [nI_clamp (by omega)]; exact (hf k hk).trans ha)
