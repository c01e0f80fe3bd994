/-! LISTS: what an ArrayList is (xAL: at h, with its array at ar, it holds xs), what a change of it leaves alone (xFr) -/
theorem XM.mono {l : Launch} {y : MethodName} {ws : List Cond} {rm : Room} {D : va_G} {cl : List vw_C} {tys : List (ClassId × FieldType)} {B : Nat} {Z : State → Prop} {av : List Value} {G : xw_G} {post post' : Option Value → xw_G → Prop} {mc ms : Nat} (h : XM l y ws rm D cl tys B Z av G post mc ms) (hp : ∀ (r : Option Value) (G' : xw_G), post r G' → post' r G') : XM l y ws rm D cl tys B Z av G post' mc ms := by
  intro p e ha hc hk s m args below hf happ hP hK
  obtain ⟨n, o, h1, h2, h3, ⟨⟨r, G', e1, e2, e3⟩, hF⟩, hL⟩ := h p e ha hc hk s m args below hf happ hP hK
  exact ⟨n, o, h1, h2, h3, ⟨⟨r, G', e1, hp r G' e2, e3⟩, hF⟩, hL⟩
def xAL (E : xE) (G : xw_G) (h ar : Nat) (xs : List Nat) : Prop := ∃ (cap : Nat) (md : Int32) (f : Nat → Option Nat), G h = some (eAL ar (nI xs.length) md) ∧ G ar = some (eOA E cap f) ∧ xs.length ≤ cap ∧ capOK cap ∧ (cap = 0 → ar = xaE E) ∧ ∀ i : Nat, i < xs.length → f i = xs[i]?
def xFr (E : xE) (G G' : xw_G) (h ar : Nat) : Prop := ∀ (a : Nat) (e : va_E), G a = some e → a ≠ h → (a = ar → a = xaE E) → G' a = some e
def xEm (E : xE) (G : xw_G) : Prop := ∃ f : Nat → Option Nat, G (xaE E) = some (eOA E 0 f)
theorem xEm_ne {E : xE} {G : xw_G} {ar cap : Nat} {f : Nat → Option Nat} (h : xEm E G) (hA : G ar = some (eOA E cap f)) (h0 : 0 < cap) : ar ≠ xaE E := by
  intro e
  obtain ⟨g, hg⟩ := h
  rw [e, hg] at hA
  cases hA
  exact absurd h0 (Nat.lt_irrefl 0)
/-- the end of a change in place: the array, then the list's own cell -/
theorem al_put {E : xE} {G : xw_G} {h ar cap : Nat} {g : Nat → Option Nat} {md : Int32} {xs : List Nat} (hh : h ≠ ar) (h1 : xs.length ≤ cap) (h2 : capOK cap) (h3 : 0 < cap) (hf : ∀ i : Nat, i < xs.length → g i = xs[i]?) : xAL E (va_up (va_up G ar (some (eOA E cap g))) h (some (eAL ar (nI xs.length) md))) h ar xs :=
  ⟨cap, md, g, va_up_self _ _ _, xw_keep (va_up_self _ _ _) hh.symm, h1, h2, fun e => absurd h3 (by omega), hf⟩
theorem fr_put {E : xE} {G : xw_G} {h ar : Nat} {e1 e2 : Option va_E} (hne : ar ≠ xaE E) : xFr E G (va_up (va_up G ar e1) h e2) h ar := by
  intro a e ha h1 h2
  have h3 : a ≠ ar := fun q => hne (by rw [← q]; exact h2 q)
  rw [va_up_ne _ _ h1, va_up_ne _ _ h3]
  exact ha
theorem fr_new {E : xE} {G : xw_G} {h ar q : Nat} {e0 e1 e2 e3 : Option va_E} (hq : G q = none) : xFr E G (va_up (va_up (va_up (va_up G q e0) h e1) q e2) h e3) h ar := by
  intro a e ha h1 h2
  have h3 : a ≠ q := xw_neF hq ha
  rw [va_up_ne _ _ h1, va_up_ne _ _ h3, va_up_ne _ _ h1, va_up_ne _ _ h3]
  exact ha
theorem xw_el_fr {E : xE} {G G' : xw_G} {h ar y : Nat} (hF : xFr E G G' h ar) {n md : Int32} (hL : G h = some (eAL ar n md)) {cap : Nat} {f : Nat → Option Nat} (hA : G ar = some (eOA E cap f)) (hy : xw_el G y) : xw_el G' y := by
  obtain ⟨ci, fs, h1, h2⟩ := hy
  refine ⟨ci, fs, hF y _ h1 (xw_neC h1 hL (by omega)) (fun q => ?_), h2⟩
  rw [q, hA] at h1
  cases h1
/-- f with x set in at k, over a list -/
theorem al_snoc {f : Nat → Option Nat} {xs : List Nat} {x : Nat} (hf : ∀ i : Nat, i < xs.length → f i = xs[i]?) : ∀ i : Nat, i < (xs ++ [x]).length → va_up f xs.length (some x) i = (xs ++ [x])[i]? := by
  intro i hi
  rw [List.length_append] at hi
  by_cases h : i < xs.length
  · rw [va_up_ne _ _ (by omega), List.getElem?_append_left h]
    exact hf i h
  · have e : i = xs.length := by simp at hi; omega
    subst e
    rw [va_up_self, List.getElem?_append_right (Nat.le_refl _), Nat.sub_self]
    rfl
theorem al_ins {f : Nat → Option Nat} {xs : List Nat} {x k : Nat} (hk : k ≤ xs.length) (hf : ∀ i : Nat, i < xs.length → f i = xs[i]?) : ∀ i : Nat, i < (xs.insertIdx k x).length → va_up (va_cpy f f k (k + 1) (xs.length - k)) k (some x) i = (xs.insertIdx k x)[i]? := by
  intro i hi
  rw [List.length_insertIdx_of_le_length hk] at hi
  rcases Nat.lt_trichotomy i k with h | h | h
  · rw [va_up_ne _ _ (by omega), pk_cpy_out (by omega), List.getElem?_insertIdx_of_lt h]
    exact hf i (by omega)
  · subst h
    rw [va_up_self, List.getElem?_insertIdx_self, if_pos hk]
  · rw [va_up_ne _ _ (by omega), pk_cpy_in (by omega) (by omega), List.getElem?_insertIdx_of_gt h, show k + (i - (k + 1)) = i - 1 by omega]
    exact hf (i - 1) (by omega)
theorem al_del {f : Nat → Option Nat} {xs : List Nat} {k : Nat} (hk : k < xs.length) (hf : ∀ i : Nat, i < xs.length → f i = xs[i]?) : ∀ i : Nat, i < (xs.eraseIdx k).length → va_up (va_cpy f f (k + 1) k (xs.length - 1 - k)) (xs.length - 1) none i = (xs.eraseIdx k)[i]? := by
  intro i hi
  rw [List.length_eraseIdx_of_lt hk] at hi
  rw [va_up_ne _ _ (by omega)]
  by_cases h : i < k
  · rw [pk_cpy_out (by omega), List.getElem?_eraseIdx_of_lt h]
    exact hf i (by omega)
  · rw [pk_cpy_in (by omega) (by omega), List.getElem?_eraseIdx_of_ge (by omega), show k + 1 + (i - k) = i + 1 by omega]
    exact hf (i + 1) (by omega)
theorem q_AL_grow0 (l : Launch) (E : xE) {G : xw_G} {h0 ar cap : Nat} {md : Int32} {f : Nat → Option Nat} (hL : G h0 = some (eAL ar (nI cap) md)) (hA : G ar = some (eOA E cap f)) (hc : capOK cap) (h3 : cap ≤ 300) (hz : cap = 0 → ar = xaE E) (hel : ∀ i : Nat, i < cap → ∀ y : Nat, f i = some y → xw_el G y) :
    XMk l E y_AL_grow0 w_AL_grow0 rm_AL_grow0 [.ref h0] G (fun r G' => ∃ (q cap' : Nat) (f' : Nat → Option Nat), G q = none ∧ xB E ≤ q ∧ r = some (.ref q) ∧ G' = va_up (va_up G q (some (eOA E cap' f'))) h0 (some (eAL q (nI cap) md)) ∧ cap < cap' ∧ capOK cap' ∧ ∀ i : Nat, i < cap → f' i = f i) 1 366 := by
  by_cases h0 : cap = 0
  · have ha := hz h0
    subst ha
    subst h0
    refine (q_AL_grow0_0 l E hL hA).mono ?_
    rintro r G' ⟨q, h1, h2, h3, h4⟩
    exact ⟨q, 10, _, h1, h2, h3, h4, by omega, by simp [capOK], fun i hi => absurd hi (by omega)⟩
  · obtain ⟨g1, g2, g3⟩ := capOK_gr hc h3 (by omega)
    refine (q_AL_grow0_s l E hL hA g1 g2 hel).mono ?_
    rintro r G' ⟨q, h1, h2, h3, h4⟩
    exact ⟨q, cap + cap / 2, _, h1, h2, h3, h4, by omega, g3, fun i hi => by rw [pk_cpy_in (by omega) (by omega)]; congr 1; omega⟩
theorem al_addE {E : xE} {G : xw_G} {h ar cap x : Nat} {f : Nat → Option Nat} {md : Int32} {xs : List Nat} (hh : h ≠ ar) (h1 : xs.length < cap) (h2 : capOK cap) (hf : ∀ i : Nat, i < xs.length → f i = xs[i]?) : xAL E (va_up (va_up G ar (some (eOA E cap (va_up f xs.length (some x))))) h (some (.inr (6, [Value.ref ar, .int (nI xs.length), .int md].set 1 (.int (nI xs.length + 1)))))) h ar (xs ++ [x]) := by
  have e : nI xs.length + 1 = nI (xs ++ [x]).length := by rw [nI_1, List.length_append]; rfl
  rw [e]
  exact al_put hh (by simp; omega) h2 (by omega) (al_snoc hf)
set_option maxRecDepth 100000 in
set_option maxHeartbeats 4000000 in
theorem q_AL_addA (l : Launch) (E : xE) {G : xw_G} {h0 ar x : Nat} {xs : List Nat} (h : xAL E G h0 ar xs) (hx : xw_el G x) (hel : ∀ y ∈ xs, xw_el G y) (hE : xEm E G) (hn : xs.length ≤ 300) : XMk l E y_AL_addA w_AL_addA rm_AL_addA [.ref h0, .ref x, .ref ar, .int (nI xs.length)] G (fun r G' => r = none ∧ ∃ ar' : Nat, (ar' = ar ∨ G ar' = none) ∧ xAL E G' h0 ar' (xs ++ [x]) ∧ xFr E G G' h0 ar) 1 366 := by
  refine XM_of [some (.ref h0), some (.ref x), some (.ref ar), some (.int (nI xs.length))] (XZ_st E) (by decide) rfl rfl rfl (Nat.le_of_ble_eq_true rfl) (fun p e s m below meth c C hnm => ?_)
  obtain ⟨cap, md, f, hL, hA, hc1, hc2, hc3, hf⟩ := h
  have hcl := capOK_le hc2
  refine x_iload_n C d_AL_addA_0 rfl rfl ?_
  refine x_aload_n C d_AL_addA_1 rfl rfl ?_
  refine x_alenN C hA 0 rfl d_AL_addA_2 ?_
  refine x_icmp_ne C 11 d_AL_addA_3 (by decide) (fun c_3 => ?_) (fun c_3 => ?_)
  · have hlt : xs.length < cap := by
      rcases Nat.lt_or_ge xs.length cap with q | q
      · exact q
      · exact absurd (by rw [show xs.length = cap by omega]) c_3
    have hne := xEm_ne hE hA (by omega)
    refine x_aload_n C d_AL_addA_11 rfl rfl ?_
    refine x_iload_n C d_AL_addA_12 rfl rfl ?_
    refine x_aload_n C d_AL_addA_13 rfl rfl ?_
    obtain ⟨ci, N, Cn, T, fs, hGx, hcx, hcast⟩ := xw_el_cast (E := E) hx
    refine x_aastore C hA 0 rfl hGx hcx hcast (vp_in_nI hlt (by omega)) d_AL_addA_14 ?_
    rw [nI_clamp (by omega)]
    have hL1 : va_up G ar (some (eOA E cap (va_up f xs.length (some x)))) h0 = some (eAL ar (nI xs.length) md) := xw_keep hL (xw_neA hL hA)
    refine x_aload_n C d_AL_addA_15 rfl rfl ?_
    refine x_iload_n C d_AL_addA_16 rfl rfl ?_
    refine x_iconst C (v := 1) d_AL_addA_17 (by decide) ?_
    refine x_iadd C d_AL_addA_18 ?_
    refine x_put C hL1 rfl (in_AL _) ty_AL tok_AL nm_AL 1 (by decide) (List.mem_cons_of_mem _ f_AL_48) rfl (tok_AL 1 (by decide)) rfl rfl (Nat.le_of_ble_eq_true rfl) d_AL_addA_19 ?_
    exact x_vret C (Nat.le_of_ble_eq_true rfl) (Nat.le_of_ble_eq_true rfl) d_AL_addA_22 ⟨rfl, ar, Or.inl rfl, al_addE (xw_neA hL hA) hlt hc2 hf, fr_put hne⟩
  · have hk : xs.length = cap := Classical.byContradiction (fun q => absurd c_3 (fun z => q ((nI_eq (by omega) (by omega)).mp z)))
    have hL0 : G h0 = some (eAL ar (nI cap) md) := by rw [← hk]; exact hL
    refine x_aload_n C d_AL_addA_6 rfl rfl ?_
    refine x_callV0 C (q_AL_grow0 l E hL0 hA hc2 (by omega) hc3 (fun i hi y hy => hel y (List.mem_of_getElem? ((hf i (by omega)).symm.trans hy)))) (lk_AL_129 C.hts (Nat.le_of_ble_eq_true rfl) (Nat.le_of_ble_eq_true rfl)) hL rfl rfl d_AL_addA_7 (Nat.le_of_ble_eq_true rfl) (Nat.le_of_ble_eq_true rfl) (Nat.le_of_ble_eq_true rfl) (fun r G' h => ?_)
    obtain ⟨q, cap', f', hq, hBq, rfl, rfl, hlt, hcq, hfq⟩ := h; rw [← hk] at hlt hfq ⊢; have hcl' := capOK_le hcq
    refine x_astore_n C d_AL_addA_10 rfl (Nat.le_of_ble_eq_true rfl) rfl ?_
    have hq2 : va_up (va_up G q (some (eOA E cap' f'))) h0 (some (eAL q (nI xs.length) md)) q = some (eOA E cap' f') := xw_keep (va_up_self _ _ _) (xw_neF hq hL).symm
    refine x_aload_n C d_AL_addA_11 rfl rfl ?_
    refine x_iload_n C d_AL_addA_12 rfl rfl ?_
    refine x_aload_n C d_AL_addA_13 rfl rfl ?_
    obtain ⟨ci, N, Cn, T, fs, hGx, hcx, hcast⟩ := xw_el_cast (E := E) (xw_el_up (xw_el_fresh hx hq) (by obtain ⟨a, b, g1, g2⟩ := id hx; exact xw_neC g1 hL (by omega)))
    refine x_aastore C hq2 0 rfl hGx hcx hcast (vp_in_nI (show xs.length < cap' by omega) (by omega)) d_AL_addA_14 ?_
    rw [nI_clamp (by omega)]
    have hL1 : va_up (va_up (va_up G q (some (eOA E cap' f'))) h0 (some (eAL q (nI xs.length) md))) q (some (eOA E cap' (va_up f' xs.length (some x)))) h0 = some (eAL q (nI xs.length) md) := xw_keep (va_up_self _ _ _) (xw_neF hq hL)
    refine x_aload_n C d_AL_addA_15 rfl rfl ?_
    refine x_iload_n C d_AL_addA_16 rfl rfl ?_
    refine x_iconst C (v := 1) d_AL_addA_17 (by decide) ?_
    refine x_iadd C d_AL_addA_18 ?_
    refine x_put C hL1 rfl (in_AL _) ty_AL tok_AL nm_AL 1 (by decide) (List.mem_cons_of_mem _ f_AL_48) rfl (tok_AL 1 (by decide)) rfl rfl (Nat.le_of_ble_eq_true rfl) d_AL_addA_19 ?_
    exact x_vret C (Nat.le_of_ble_eq_true rfl) (Nat.le_of_ble_eq_true rfl) d_AL_addA_22 ⟨rfl, q, Or.inr hq, al_addE (xw_neF hq hL) (by omega) hcq (fun i hi => (hfq i (by omega)).trans (hf i hi)), fr_new hq⟩
/-- a list's own cell with another modCount -/
theorem al_mod {E : xE} {G : xw_G} {h ar : Nat} {xs : List Nat} {cap : Nat} {md md' : Int32} {f : Nat → Option Nat} (hL : G h = some (eAL ar (nI xs.length) md)) (hA : G ar = some (eOA E cap f)) (h1 : xs.length ≤ cap) (h2 : capOK cap) (h3 : cap = 0 → ar = xaE E) (hf : ∀ i : Nat, i < xs.length → f i = xs[i]?) : xAL E (va_up G h (some (eAL ar (nI xs.length) md'))) h ar xs :=
  ⟨cap, md', f, va_up_self _ _ _, xw_keep hA (xw_neA hL hA).symm, h1, h2, h3, hf⟩
theorem el_mod {G : xw_G} {h ar y : Nat} {n md : Int32} {e : va_E} (hL : G h = some (eAL ar n md)) (hy : xw_el G y) : xw_el (va_up G h (some e)) y := by
  obtain ⟨a, b, g1, g2⟩ := id hy
  exact xw_el_up hy (xw_neC g1 hL (by omega))
theorem em_mod {E : xE} {G : xw_G} {h ar : Nat} {n md : Int32} {e : va_E} (hL : G h = some (eAL ar n md)) (hy : xEm E G) : xEm E (va_up G h (some e)) := by
  obtain ⟨f, hf⟩ := hy
  exact ⟨f, xw_keep hf (xw_neA hL hf).symm⟩
theorem fr_mod {E : xE} {G G' : xw_G} {h ar : Nat} {e : Option va_E} (hF : xFr E (va_up G h e) G' h ar) : xFr E G G' h ar := fun a e0 ha h1 h2 => hF a e0 (by rw [va_up_ne _ _ h1]; exact ha) h1 h2
theorem none_mod {G : xw_G} {h q : Nat} {e : va_E} (hq : va_up G h (some e) q = none) : G q = none := by
  by_cases h0 : q = h
  · subst h0
    rw [va_up_self] at hq
    cases hq
  · rw [va_up_ne _ _ h0] at hq
    exact hq
set_option maxRecDepth 100000 in
set_option maxHeartbeats 4000000 in
theorem q_AL_add1 (l : Launch) (E : xE) {G : xw_G} {h0 ar x : Nat} {xs : List Nat} (h : xAL E G h0 ar xs) (hx : xw_el G x) (hel : ∀ y ∈ xs, xw_el G y) (hE : xEm E G) (hn : xs.length ≤ 300) : XMk l E y_AL_add1 w_AL_add1 rm_AL_add1 [.ref h0, .ref x] G (fun r G' => r = some (.int 1) ∧ ∃ ar' : Nat, (ar' = ar ∨ G ar' = none) ∧ xAL E G' h0 ar' (xs ++ [x]) ∧ xFr E G G' h0 ar) 1 366 := by
  refine XM_of [some (.ref h0), some (.ref x)] (XZ_st E) (by decide) rfl rfl rfl (Nat.le_of_ble_eq_true rfl) (fun p e s m below meth c C hnm => ?_)
  obtain ⟨cap, md, f, hL, hA, hc1, hc2, hc3, hf⟩ := h
  have hcl := capOK_le hc2
  refine x_aload_n C d_AL_add1_0 rfl rfl ?_
  refine x_dup C d_AL_add1_1 rfl ?_
  refine x_getS C hL rfl (in_AL _) 2 (by decide) (List.mem_cons_of_mem _ f_AL_63) (List.mem_cons_of_mem _ kf_AL_modCount) rfl d_AL_add1_2 ?_
  refine x_iconst C (v := 1) d_AL_add1_5 (by decide) ?_
  refine x_iadd C d_AL_add1_6 ?_
  refine x_putS C hL rfl (in_AL _) ty_AL tok_AL nm_AL 2 (by decide) (List.mem_cons_of_mem _ f_AL_63) (List.mem_cons_of_mem _ kf_AL_modCount) rfl (tok_AL 2 (by decide)) rfl rfl (Nat.le_of_ble_eq_true rfl) d_AL_add1_7 ?_
  refine x_aload_n C d_AL_add1_10 rfl rfl ?_
  refine x_aload_n C d_AL_add1_11 rfl rfl ?_
  refine x_aload_n C d_AL_add1_12 rfl rfl ?_
  refine x_get C (va_up_self _ _ _) rfl (in_AL _) 0 (by decide) (List.mem_cons_of_mem _ f_AL_9) rfl d_AL_add1_13 ?_
  refine x_aload_n C d_AL_add1_16 rfl rfl ?_
  refine x_get C (va_up_self _ _ _) rfl (in_AL _) 1 (by decide) (List.mem_cons_of_mem _ f_AL_48) rfl d_AL_add1_17 ?_
  refine x_callV3 C (q_AL_addA l E (G := (va_up G h0 (some (eAL ar (nI xs.length) (md + 1))))) (al_mod hL hA hc1 hc2 hc3 hf) (el_mod hL hx) (fun y hy => el_mod hL (hel y hy)) (em_mod hL hE) hn) (lk_AL_131 C.hts (Nat.le_of_ble_eq_true rfl) (Nat.le_of_ble_eq_true rfl)) (va_up_self _ _ _) rfl rfl d_AL_add1_20 (Nat.le_of_ble_eq_true rfl) (Nat.le_of_ble_eq_true rfl) (Nat.le_of_ble_eq_true rfl) (fun r G' h => ?_)
  obtain ⟨rfl, ar', g1, g2, g3⟩ := h
  refine x_iconst C (v := 1) d_AL_add1_23 (by decide) ?_
  exact x_zret C rfl (Nat.le_of_ble_eq_true rfl) (Nat.le_of_ble_eq_true rfl) d_AL_add1_24 ⟨rfl, ar', g1.imp id none_mod, g2, fr_mod g3⟩
set_option maxRecDepth 100000 in
set_option maxHeartbeats 4000000 in
theorem q_AL_rangeCheckForAdd (l : Launch) (E : xE) {G : xw_G} {h0 ar : Nat} {n md i : Int32} (hL : G h0 = some (eAL ar n md)) (h1 : ¬ n < i) (h2 : 0 ≤ i) : XMk l E y_AL_rangeCheckForAdd w_AL_rangeCheckForAdd rm_AL_rangeCheckForAdd [.ref h0, .int (i)] G (fun r G' => r = none ∧ G = G') 0 0 := by
  refine XM_of [some (.ref h0), some (.int (i))] (XZ_st E) (by decide) rfl rfl rfl (Nat.le_of_ble_eq_true rfl) (fun p e s m below meth c C hnm => ?_)
  refine x_iload_n C d_AL_rangeCheckForAdd_0 rfl rfl ?_
  refine x_aload_n C d_AL_rangeCheckForAdd_1 rfl rfl ?_
  refine x_get C hL rfl (in_AL _) 1 (by decide) (List.mem_cons_of_mem _ f_AL_48) rfl d_AL_rangeCheckForAdd_2 ?_
  refine x_icmp_gt C 12 d_AL_rangeCheckForAdd_5 (by decide) (fun c_5 => ?_) (fun c_5 => ?_)
  · exact absurd c_5 h1
  · refine x_iload_n C d_AL_rangeCheckForAdd_8 rfl rfl ?_
    refine x_if_ge C 25 d_AL_rangeCheckForAdd_9 (by decide) (fun c_9 => ?_) (fun c_9 => ?_)
    · exact x_vret C (Nat.le_of_ble_eq_true rfl) (Nat.le_of_ble_eq_true rfl) d_AL_rangeCheckForAdd_25 ⟨rfl, rfl⟩
    · exact absurd h2 c_9
theorem al_insE {E : xE} {G : xw_G} {h ar cap x k : Nat} {f : Nat → Option Nat} {md : Int32} {xs : List Nat} (hh : h ≠ ar) (h1 : xs.length < cap) (h2 : capOK cap) (hk : k ≤ xs.length) (hf : ∀ i : Nat, i < xs.length → f i = xs[i]?) : xAL E (va_up (va_up G ar (some (eOA E cap (va_up (va_cpy f f k (k + 1) (xs.length - k)) k (some x))))) h (some (.inr (6, [Value.ref ar, .int (nI xs.length), .int md].set 1 (.int (nI xs.length + 1)))))) h ar (xs.insertIdx k x) := by
  have e : nI xs.length + 1 = nI (xs.insertIdx k x).length := by rw [nI_1, List.length_insertIdx_of_le_length hk]
  rw [e]
  exact al_put hh (by rw [List.length_insertIdx_of_le_length hk]; omega) h2 (by omega) (al_ins hk hf)
set_option maxRecDepth 100000 in
set_option maxHeartbeats 4000000 in
theorem q_AL_addI (l : Launch) (E : xE) {G : xw_G} {h0 ar x k : Nat} {xs : List Nat} (hk : k ≤ xs.length) (h : xAL E G h0 ar xs) (hx : xw_el G x) (hel : ∀ y ∈ xs, xw_el G y) (hE : xEm E G) (hn : xs.length ≤ 300) : XMk l E y_AL_addI w_AL_addI rm_AL_addI [.ref h0, .int (nI k), .ref x] G (fun r G' => r = none ∧ ∃ ar' : Nat, (ar' = ar ∨ G ar' = none) ∧ xAL E G' h0 ar' (xs.insertIdx k x) ∧ xFr E G G' h0 ar) 1 366 := by
  refine XM_of [some (.ref h0), some (.int (nI k)), some (.ref x), none, none] (XZ_st E) (by decide) rfl rfl rfl (Nat.le_of_ble_eq_true rfl) (fun p e s m below meth c C hnm => ?_)
  obtain ⟨cap, md, f, hL, hA, hc1, hc2, hc3, hf⟩ := h
  have hcl := capOK_le hc2
  refine x_aload_n C d_AL_addI_0 rfl rfl ?_
  refine x_iload_n C d_AL_addI_1 rfl rfl ?_
  refine x_callV1 C (q_AL_rangeCheckForAdd l E (G := G) hL (nI_nlt hk (by omega)) (nI_pos' (by omega))) (lk_AL_135 C.hts (Nat.le_of_ble_eq_true rfl) (Nat.le_of_ble_eq_true rfl)) hL rfl rfl d_AL_addI_2 (Nat.le_of_ble_eq_true rfl) (Nat.le_of_ble_eq_true rfl) (Nat.le_of_ble_eq_true rfl) (fun r G' h => ?_)
  obtain ⟨rfl, rfl⟩ := h
  refine x_aload_n C d_AL_addI_5 rfl rfl ?_
  refine x_dup C d_AL_addI_6 rfl ?_
  refine x_getS C hL rfl (in_AL _) 2 (by decide) (List.mem_cons_of_mem _ f_AL_63) (List.mem_cons_of_mem _ kf_AL_modCount) rfl d_AL_addI_7 ?_
  refine x_iconst C (v := 1) d_AL_addI_10 (by decide) ?_
  refine x_iadd C d_AL_addI_11 ?_
  refine x_putS C hL rfl (in_AL _) ty_AL tok_AL nm_AL 2 (by decide) (List.mem_cons_of_mem _ f_AL_63) (List.mem_cons_of_mem _ kf_AL_modCount) rfl (tok_AL 2 (by decide)) rfl rfl (Nat.le_of_ble_eq_true rfl) d_AL_addI_12 ?_
  refine x_aload_n C d_AL_addI_15 rfl rfl ?_
  refine x_get C (va_up_self _ _ _) rfl (in_AL _) 1 (by decide) (List.mem_cons_of_mem _ f_AL_48) rfl d_AL_addI_16 ?_
  refine x_dup C d_AL_addI_19 rfl ?_
  refine x_istore_n C d_AL_addI_20 rfl (Nat.le_of_ble_eq_true rfl) rfl ?_
  refine x_aload_n C d_AL_addI_21 rfl rfl ?_
  refine x_get C (va_up_self _ _ _) rfl (in_AL _) 0 (by decide) (List.mem_cons_of_mem _ f_AL_9) rfl d_AL_addI_22 ?_
  refine x_dup C d_AL_addI_25 rfl ?_
  refine x_astore C d_AL_addI_26 (Nat.le_of_ble_eq_true rfl) rfl ?_
  refine x_alenN C (xw_keep hA (xw_neA hL hA).symm) 0 rfl d_AL_addI_28 ?_
  refine x_icmp_ne C 38 d_AL_addI_29 (by decide) (fun c_29 => ?_) (fun c_29 => ?_)
  · have hlt : xs.length < cap := by
      rcases Nat.lt_or_ge xs.length cap with q | q
      · exact q
      · exact absurd (by rw [show xs.length = cap by omega]) c_29
    have hne := xEm_ne hE hA (by omega)
    refine x_aload C d_AL_addI_38 rfl ?_
    refine x_iload_n C d_AL_addI_40 rfl rfl ?_
    refine x_aload C d_AL_addI_41 rfl ?_
    refine x_iload_n C d_AL_addI_43 rfl rfl ?_
    refine x_iconst C (v := 1) d_AL_addI_44 (by decide) ?_
    refine x_iadd C d_AL_addI_45 ?_
    refine x_iload_n C d_AL_addI_46 rfl rfl ?_
    refine x_iload_n C d_AL_addI_47 rfl rfl ?_
    refine x_isub C d_AL_addI_48 ?_
    rw [nI_1, pk_sub hk]
    refine x_copyN C (xw_keep hA (xw_neA hL hA).symm) (xw_keep hA (xw_neA hL hA).symm) rfl rfl rfl (i := k) (j := k + 1) (k := xs.length - k) (by omega) (by omega) (by omega) (by omega) (by omega) (by omega) (fun i hi y hy => el_mod hL (hel y (List.mem_of_getElem? ((hf _ (by omega)).symm.trans hy)))) m_AL_112 rfl (Nat.le_of_ble_eq_true rfl) (by decide +kernel) d_AL_addI_49 ?_
    refine x_aload C d_AL_addI_52 rfl ?_
    refine x_iload_n C d_AL_addI_54 rfl rfl ?_
    refine x_aload_n C d_AL_addI_55 rfl rfl ?_
    obtain ⟨ci, N, Cn, T, fs, hGx, hcx, hcast⟩ := xw_el_cast (E := E) (xw_el_up (el_mod hL hx) (by obtain ⟨a, b, g1, g2⟩ := id hx; exact xw_neA g1 hA))
    refine x_aastore C (va_up_self _ _ _) 0 rfl hGx hcx hcast (vp_in_nI (show k < cap by omega) (by omega)) d_AL_addI_56 ?_
    rw [nI_clamp (by omega), bx_uu]
    refine x_aload_n C d_AL_addI_57 rfl rfl ?_
    refine x_iload_n C d_AL_addI_58 rfl rfl ?_
    refine x_iconst C (v := 1) d_AL_addI_59 (by decide) ?_
    refine x_iadd C d_AL_addI_60 ?_
    refine x_put C (xw_keep (va_up_self _ _ _) (xw_neA hL hA)) rfl (in_AL _) ty_AL tok_AL nm_AL 1 (by decide) (List.mem_cons_of_mem _ f_AL_48) rfl (tok_AL 1 (by decide)) rfl rfl (Nat.le_of_ble_eq_true rfl) d_AL_addI_61 ?_
    exact x_vret C (Nat.le_of_ble_eq_true rfl) (Nat.le_of_ble_eq_true rfl) d_AL_addI_64 ⟨rfl, ar, Or.inl rfl, al_insE (xw_neA hL hA) hlt hc2 hk hf, fr_mod (fr_put hne)⟩
  · have hkk : xs.length = cap := Classical.byContradiction (fun q => absurd c_29 (fun z => q ((nI_eq (by omega) (by omega)).mp z)))
    have hL0 : va_up G h0 (some (eAL ar (nI xs.length) (md + 1))) h0 = some (eAL ar (nI cap) (md + 1)) := by rw [← hkk]; exact va_up_self _ _ _
    refine x_aload_n C d_AL_addI_32 rfl rfl ?_
    refine x_callV0 C (q_AL_grow0 l E (G := (va_up G h0 (some (eAL ar (nI xs.length) (md + 1))))) hL0 (xw_keep hA (xw_neA hL hA).symm) hc2 (by omega) hc3 (fun i hi y hy => el_mod hL (hel y (List.mem_of_getElem? ((hf i (by omega)).symm.trans hy))))) (lk_AL_129 C.hts (Nat.le_of_ble_eq_true rfl) (Nat.le_of_ble_eq_true rfl)) (va_up_self _ _ _) rfl rfl d_AL_addI_33 (Nat.le_of_ble_eq_true rfl) (Nat.le_of_ble_eq_true rfl) (Nat.le_of_ble_eq_true rfl) (fun r G' h => ?_)
    obtain ⟨q, cap', f', hq, hBq, rfl, rfl, hlt, hcq, hfq⟩ := h; rw [← hkk] at hlt hfq ⊢; have hcl' := capOK_le hcq
    refine x_astore C d_AL_addI_36 (Nat.le_of_ble_eq_true rfl) rfl ?_
    have hq2 : va_up (va_up (va_up G h0 (some (eAL ar (nI xs.length) (md + 1)))) q (some (eOA E cap' f'))) h0 (some (eAL q (nI xs.length) (md + 1))) q = some (eOA E cap' f') := xw_keep (va_up_self _ _ _) (xw_neF (none_mod hq) hL).symm
    refine x_aload C d_AL_addI_38 rfl ?_
    refine x_iload_n C d_AL_addI_40 rfl rfl ?_
    refine x_aload C d_AL_addI_41 rfl ?_
    refine x_iload_n C d_AL_addI_43 rfl rfl ?_
    refine x_iconst C (v := 1) d_AL_addI_44 (by decide) ?_
    refine x_iadd C d_AL_addI_45 ?_
    refine x_iload_n C d_AL_addI_46 rfl rfl ?_
    refine x_iload_n C d_AL_addI_47 rfl rfl ?_
    refine x_isub C d_AL_addI_48 ?_
    rw [nI_1, pk_sub hk]
    refine x_copyN C hq2 hq2 rfl rfl rfl (i := k) (j := k + 1) (k := xs.length - k) (by omega) (by omega) (by omega) (by omega) (by omega) (by omega) (fun i hi y hy => xw_el_up (xw_el_fresh (el_mod hL (hel y (List.mem_of_getElem? ((hf _ (by omega)).symm.trans ((hfq _ (by omega)).symm.trans hy))))) hq) (by obtain ⟨a, b, g1, g2⟩ := hel y (List.mem_of_getElem? ((hf _ (by omega)).symm.trans ((hfq _ (by omega)).symm.trans hy))); exact xw_neC g1 hL (by omega))) m_AL_112 rfl (Nat.le_of_ble_eq_true rfl) (by decide +kernel) d_AL_addI_49 ?_
    refine x_aload C d_AL_addI_52 rfl ?_
    refine x_iload_n C d_AL_addI_54 rfl rfl ?_
    refine x_aload_n C d_AL_addI_55 rfl rfl ?_
    obtain ⟨ci, N, Cn, T, fs, hGx, hcx, hcast⟩ := xw_el_cast (E := E) (xw_el_up (xw_el_up (xw_el_fresh (el_mod hL hx) hq) (by obtain ⟨a, b, g1, g2⟩ := id hx; exact xw_neC g1 hL (by omega))) (by obtain ⟨a, b, g1, g2⟩ := id hx; exact xw_neF (none_mod hq) g1))
    refine x_aastore C (va_up_self _ _ _) 0 rfl hGx hcx hcast (vp_in_nI (show k < cap' by omega) (by omega)) d_AL_addI_56 ?_
    rw [nI_clamp (by omega), bx_uu]
    refine x_aload_n C d_AL_addI_57 rfl rfl ?_
    refine x_iload_n C d_AL_addI_58 rfl rfl ?_
    refine x_iconst C (v := 1) d_AL_addI_59 (by decide) ?_
    refine x_iadd C d_AL_addI_60 ?_
    refine x_put C (xw_keep (va_up_self _ _ _) (xw_neF (none_mod hq) hL)) rfl (in_AL _) ty_AL tok_AL nm_AL 1 (by decide) (List.mem_cons_of_mem _ f_AL_48) rfl (tok_AL 1 (by decide)) rfl rfl (Nat.le_of_ble_eq_true rfl) d_AL_addI_61 ?_
    exact x_vret C (Nat.le_of_ble_eq_true rfl) (Nat.le_of_ble_eq_true rfl) d_AL_addI_64 ⟨rfl, q, Or.inr (none_mod hq), al_insE (xw_neF (none_mod hq) hL) (by omega) hcq hk (fun i hi => (hfq i (by omega)).trans (hf i hi)), fr_mod (fr_new hq)⟩
