theorem kf_init {E : xE} {G : xw_G} {x q1 q2 : Nat} {c0 c1 : va_E} {fs : List Value} (hX : G x = some (.inr (0, fs))) (n1 : x ≠ q1) (n2 : q1 ≠ q2) (n3 : x ≠ q2) (he : xEm E G) (h1 : G q1 = none) (h2 : G q2 = none) : xCS E (va_up (va_up (va_up (va_up G q1 (some (eAL (xaE E) 0 0))) x (some c1)) q2 (some (eAL (xaE E) 0 0))) x (some (eKF q1 q2 false 0 0))) x ([], [], fun _ => none, false, 0, 0) := by
  obtain ⟨f, hf⟩ := he
  have a1 : va_up (va_up (va_up (va_up G q1 (some (eAL (xaE E) 0 0))) x (some c1)) q2 (some (eAL (xaE E) 0 0))) x (some (eKF q1 q2 false 0 0)) q1 = some (eAL (xaE E) 0 0) := by rw [va_up_ne _ _ n1.symm, va_up_ne _ _ n2, va_up_ne _ _ n1.symm, va_up_self]
  have a2 : va_up (va_up (va_up (va_up G q1 (some (eAL (xaE E) 0 0))) x (some c1)) q2 (some (eAL (xaE E) 0 0))) x (some (eKF q1 q2 false 0 0)) q2 = some (eAL (xaE E) 0 0) := by rw [va_up_ne _ _ n3.symm, va_up_self]
  have a3 : va_up (va_up (va_up (va_up G q1 (some (eAL (xaE E) 0 0))) x (some c1)) q2 (some (eAL (xaE E) 0 0))) x (some (eKF q1 q2 false 0 0)) (xaE E) = some (eOA E 0 f) := by
    have m1 : xaE E ≠ x := (xw_neA hX hf).symm
    rw [va_up_ne _ _ m1, va_up_ne _ _ (xw_neF h2 hf), va_up_ne _ _ m1, va_up_ne _ _ (xw_neF h1 hf)]
    exact hf
  refine ⟨fun i => if i = 0 then q1 else q2, fun _ => xaE E, fun _ => [], va_up_self _ _ _, ⟨fun i hi => ?_, fun i j hi hj e => ?_, fun i j _ _ _ => Or.inr rfl⟩, ⟨rfl, List.nodup_nil, rfl, List.nodup_nil⟩, fun i q hq => ?_, fun i v hv => ?_, fun r d hr => ?_, ⟨f, a3⟩⟩
  · have hi : i < 0 + 2 := hi
    refine ⟨0, 0, f, ?_, a3, Nat.le_refl _, by simp [capOK], fun _ => rfl, fun k hk => absurd hk (by simp)⟩
    rcases (show i = 0 ∨ i = 1 by omega) with rfl | rfl
    · exact a1
    · exact a2
  · have hi : i < 0 + 2 := hi
    have hj : j < 0 + 2 := hj
    rcases (show i = 0 ∨ i = 1 by omega) with rfl | rfl <;> rcases (show j = 0 ∨ j = 1 by omega) with rfl | rfl
    · rfl
    · exact absurd e n2
    · exact absurd e.symm n2
    · rfl
  · have hq : ([] : List (KD × List E3))[i]? = some q := hq
    simp at hq
  · have hv : ([] : List VD)[i]? = some v := hv
    simp at hv
  · have hr : (none : Option (Int64 × Bool)) = some d := hr
    cases hr
theorem kf_initF {G : xw_G} {x q1 q2 : Nat} {fs : List Value} {e1 e2 e3 e4 : Option va_E} (hX : G x = some (.inr (0, fs))) (h1 : G q1 = none) (h2 : G q2 = none) : xFm G (va_up (va_up (va_up (va_up G q1 e1) x e2) q2 e3) x e4) := by
  intro a e ha hm
  have m1 : a ≠ x := by
    intro z
    subst z
    rw [hX] at ha
    cases ha
    rcases hm with ⟨fs2, h⟩ | ⟨_, _, _, h⟩ | ⟨_, _, _, h⟩ <;> cases h
  rw [va_up_ne _ _ m1, va_up_ne _ _ (xw_neF h2 ha), va_up_ne _ _ m1, va_up_ne _ _ (xw_neF h1 ha)]
  exact ha
set_option maxRecDepth 100000 in
set_option maxHeartbeats 4000000 in
theorem q_KF_init (l : Launch) (E : xE) {G : xw_G} {x : Nat} (hX : G x = some (.inr (0, [.null, .null, .int 0, .long 0, .long 0]))) (he : xEm E G) : XMk l E y_KF_init w_KF_init rm_KF_init [.ref x] G (fun r G' => r = none ∧ xCS E G' x ([], [], fun _ => none, false, 0, 0) ∧ xFm G G') 2 6 := by
  refine XM_of [some (.ref x)] (XZ_st E) (by decide) rfl rfl rfl (Nat.le_of_ble_eq_true rfl) (fun p e s m below meth c C hnm => ?_)
  refine x_aload_n C d_KF_init_0 rfl rfl ?_
  refine x_objInit C (List.mem_cons_of_mem _ m_KF_1) (List.mem_cons_of_mem _ ki_OB_init) (List.mem_cons_of_mem _ kc_OB_init) rfl d_KF_init_1 (Nat.le_of_ble_eq_true rfl) (Nat.le_of_ble_eq_true rfl) ?_
  refine x_aload_n C d_KF_init_4 rfl rfl ?_
  refine x_new C (ci := 6) (fs := [.null, .int 0, .int 0]) rfl (in_AL _) ty_AL tok_AL (List.mem_cons_of_mem _ cl_KF_7) (List.mem_cons_of_mem _ kb_AL) (List.mem_cons_of_mem _ kz_AL) (fun j hj => by rcases (show j = 0 ∨ j = 1 ∨ j = 2 by omega) with rfl | rfl | rfl <;> rfl) (Nat.le_of_ble_eq_true rfl) (Nat.le_of_ble_eq_true rfl) d_KF_init_5 (fun q1 hq1 hBq1 => ?_)
  have n1 := xw_neF hq1 hX
  refine x_dup C d_KF_init_8 rfl ?_
  refine x_callI0 C (q_AL_init l E (va_up_self _ _ _)) (lk_KF_9 C.hts (Nat.le_of_ble_eq_true rfl) (Nat.le_of_ble_eq_true rfl)) rfl d_KF_init_9 (Nat.le_of_ble_eq_true rfl) (Nat.le_of_ble_eq_true rfl) (Nat.le_of_ble_eq_true rfl) (fun r G' h => ?_)
  obtain ⟨rfl, rfl⟩ := h
  rw [bx_uu]
  refine x_putF C (xw_keep hX n1) rfl (in_KF _) ty_KF tok_KF nm_KF 0 (by decide) (List.mem_cons_of_mem _ f_KF_10) rfl hnm rfl (tok_KF 0 (by decide)) rfl rfl (Nat.le_of_ble_eq_true rfl) d_KF_init_12 ?_
  refine x_aload_n C d_KF_init_15 rfl rfl ?_
  refine x_new C (ci := 6) (fs := [.null, .int 0, .int 0]) rfl (in_AL _) ty_AL tok_AL (List.mem_cons_of_mem _ cl_KF_7) (List.mem_cons_of_mem _ kb_AL) (List.mem_cons_of_mem _ kz_AL) (fun j hj => by rcases (show j = 0 ∨ j = 1 ∨ j = 2 by omega) with rfl | rfl | rfl <;> rfl) (Nat.le_of_ble_eq_true rfl) (Nat.le_of_ble_eq_true rfl) d_KF_init_16 (fun q2 hq2 hBq2 => ?_)
  have hq2a := none_mod (none_mod hq2)
  have n2 : q1 ≠ q2 := xw_neF hq2 (xw_keep (va_up_self _ _ _) n1.symm)
  have n3 : x ≠ q2 := xw_neF hq2a hX
  refine x_dup C d_KF_init_19 rfl ?_
  refine x_callI0 C (q_AL_init l E (va_up_self _ _ _)) (lk_KF_9 C.hts (Nat.le_of_ble_eq_true rfl) (Nat.le_of_ble_eq_true rfl)) rfl d_KF_init_20 (Nat.le_of_ble_eq_true rfl) (Nat.le_of_ble_eq_true rfl) (Nat.le_of_ble_eq_true rfl) (fun r G' h => ?_)
  obtain ⟨rfl, rfl⟩ := h
  rw [bx_uu]
  refine x_putF C (xw_keep (va_up_self _ _ _) n3) rfl (in_KF _) ty_KF tok_KF nm_KF 1 (by decide) (List.mem_cons_of_mem _ f_KF_16) rfl hnm rfl (tok_KF 1 (by decide)) rfl rfl (Nat.le_of_ble_eq_true rfl) d_KF_init_23 ?_
  exact x_vret C (Nat.le_of_ble_eq_true rfl) (Nat.le_of_ble_eq_true rfl) d_KF_init_26 ⟨rfl, kf_init (c0 := .inr (0, [])) hX n1 n2 n3 he hq1 hq2a, kf_initF hX hq1 hq2a⟩
